/-! the first object's machine: what fails is on its way -/
/-- it is caught, or all codes are left -/
def zFin (e : ZS) (κ : ZK) (u : ZS) (M M' : Mem) : Prop := ∃ t, zto e u t ∧ zFo κ M M' ∧ zCE e κ M' ∧ zWT e t ∧ (t.1 9 0 0 = u.1 9 0 0 ∧ t.1 10 0 0 = u.1 10 0 0) ∧ ((zCM e κ t M' ∧ t.1 1 0 0 = 0) ∨ (zend t ∧ zCN e κ t M'))
section S98b
variable {d : Nat} {e s s' u : ZS} {κ : ZK} {M M' M1 M2 : Mem} {a j : Nat} {v : Int32} {c t k i n p fl ar : Int} {Y : Nat → Int → Int}
theorem zFin.st (h : zFin e κ s M1 M') (f : zFo κ M M1) (g : zto e u s) (e9 : s.1 9 0 0 = u.1 9 0 0 ∧ s.1 10 0 0 = u.1 10 0 0) : zFin e κ u M M' := by
  obtain ⟨t, h1, h2, h3, h4, h5, h6⟩ := h
  exact ⟨t, g.tr h1, f.tr h2, h3, h4, ⟨h5.1.trans e9.1, h5.2.trans e9.2⟩, h6⟩
theorem zst_thr (hm : u.1 1 0 0 = 3 ∨ u.1 1 0 0 = 7) : zstep e u = zthr u (u.1 1 0 0) := by
  unfold zstep
  rw [if_neg (by omega), if_neg (by omega), if_neg (by omega), if_pos hm]
theorem zst_unw (hm : u.1 1 0 0 = 4 ∨ u.1 1 0 0 = 8) : zstep e u = zunw u (u.1 1 0 0) := by
  unfold zstep
  rw [if_neg (by omega), if_neg (by omega), if_neg (by omega), if_neg (by omega), if_pos hm]
/-- what is looked at, and where it arose -/
def M21 (u : ZS) (M : Mem) (ar : Int) : Mem := if ar = 0 then M else sI M 88 21 (iI (zpc u))
theorem M21_f : zFf M (M21 u M ar) := by
  unfold M21
  split
  · exact zFf.r
  · exact zFf.sI zFf.r (by decide)
theorem M21_i (h : ¬ (a = 88 ∧ j = 21)) : (M21 u M ar).1 a j = M.1 a j := by
  unfold M21
  split
  · rfl
  · by_cases c : a = 88
    · exact sI_nej fun q => h ⟨c, q⟩
    · exact sI_ne c
theorem M21_21 (h : zCL e κ u M fl ar) (har : ar = 0 ∨ ar = 1) : (M21 u M ar).1 88 21 = iI (u.1 13 0 0) := by
  obtain ⟨-, -, -, -, -, -, -, h8, h9⟩ := h
  unfold M21
  rcases har with c | c
  · rw [if_pos c]; exact h8 c
  · rw [if_neg (by omega), h9 c]; exact sI_eq
/-- a turn: the parcel's cell is found, what is caught there -/
def fb41 (d f : Nat) (kc : Int32) (base : Int32) (M : Mem) (go : Int32 × Mem → XA) : XA := gtI (4, 22) M (some 88) 19 fun x25 => jn (fun (_ : Unit) => gtI (4, 22) M (some 88) 14 fun x27 => ptI (4, 22) M (some 88) 14 (x27 - ((1 : Int32))) fun M28 => alI 100 M28 (some (94 + f)) ((3 : Int32)) fun x29 => jn (fun (s30 : Int32) => jn (fun (s31 : Mem) => go (s30, s31)) fun j183 => if s30 = 0 then (j183 M28) else (gtP (4, 22) M28 (some 88) 17 fun x32 => alI 100 M28 (some (94 + f)) ((3 : Int32)) fun x33 => asI 100 M28 x32 x33 (((2 : Int32))) fun M34 => ptI (4, 22) M34 (some 88) 19 ((1 : Int32)) fun M35 => ptI (4, 22) M35 (some 88) 20 ((8 : Int32)) fun M36 => j183 M36)) fun j157 => if x29 < 0 then (j157 ((0 : Int32))) else (j157 ((1 : Int32)))) fun j135 => if x25 = ((1 : Int32)) then (if kc < 0 then (j135 ()) else (gtP (4, 22) M (some 88) 11 fun x37 => aln M x37 fun x38 => if x38 ≤ base then (j135 ()) else (fj104 d (some (94 + f), kc, base, M)))) else (j135 ())
theorem f41_head (h : zCL e κ u M fl ar) (hE : zCE e κ M) (hn : 1 ≤ u.1 0 0 0 ∧ u.1 0 0 0 ≤ 12) (har : ar = 0 ∨ ar = 1) (hin : zIn e (zpc u)) (go : Int32 × Mem → XA) : c41_12 (runX d) (some 88) (fj104 d) fj186 (iI ar, M) go = fb41 d (zf u).toNat (iI (e.1 19 (zpc u) 0)) (iI (10 * zf u + u.1 6 (zf u) 0 + 10)) (M21 u M ar) go := by
  obtain ⟨hC, hG, hF, h14, h15, h19, h20, h21, h22⟩ := h
  have zfe : zf u = u.1 0 0 0 - 1 := rfl
  have zpe : u.1 2 (zf u) 0 = zpc u := rfl
  have k := ck_88 hC
  have kf : M.2.2.2[94 + (zf u).toNat]? = some (100, 4) := ck94n hC (by omega)
  obtain ⟨⟨f0, f1, f2, f3⟩, -, -⟩ := hF (zf u) (by omega) (by omega)
  rw [zpe] at f0 f2
  have hE1 := hE.1
  have f21 := M21_f (u := u) (M := M) (ar := ar)
  have C1 : CT (M21 u M ar) := ⟨fun q y => by rw [congrArg (fun z => z.2.2) f21.1]; exact hC.1 q y, fun q y => by rw [congrArg (fun z => z.2.1) f21.1]; exact hC.2 q y⟩
  have k1 := ck_88 C1
  have kf1 : (M21 u M ar).2.2.2[94 + (zf u).toNat]? = some (100, 4) := ck94n C1 (by omega)
  have g0 := (M21_i (u := u) (M := M) (ar := ar) (a := 94 + (zf u).toNat) (j := 0) (by omega)).trans f0
  have g1 := (M21_i (u := u) (M := M) (ar := ar) (a := 94 + (zf u).toNat) (j := 1) (by omega)).trans f1
  have g2 := (M21_i (u := u) (M := M) (ar := ar) (a := 94 + (zf u).toNat) (j := 2) (by omega)).trans f2
  obtain ⟨sd1, sd2, sd3, sd4⟩ := hin.sd hE1
  obtain ⟨⟨a1, a2, a3, a4, a5⟩, ⟨-, -, b3⟩, c3, -⟩ := hE1.2.2 _ sd1
  have atc := (hE1.at hin).2.2
  have kb := hE1.2.1
  have sdb : 0 ≤ zsd (zpc u) ∧ zsd (zpc u) ≤ 1 := by unfold zsd; split <;> omega
  have szb : e.1 21 (zsd (zpc u)) 0 ≤ 1000 := by
    unfold zsd; split <;> omega
  have r1 : (M21 u M ar).2.2.1 91 (zsd (zpc u)).toNat = some (κ 0 (zsd (zpc u))) := by rw [congrArg (fun z => z.2.1) f21.1]; exact a1
  have r2 : (M21 u M ar).2.2.2[κ 0 (zsd (zpc u))]? = some (6, 18) := by rw [congrArg (fun z => z.2.2) f21.1]; exact a2
  have r3 : (M21 u M ar).2.2.1 (κ 0 (zsd (zpc u))) 8 = some (κ 3 (zsd (zpc u))) := by rw [congrArg (fun z => z.2.1) f21.1]; exact b3
  have r4 : (M21 u M ar).2.2.2[κ 3 (zsd (zpc u))]? = some (100, (e.1 21 (zsd (zpc u)) 0).toNat) := by rw [congrArg (fun z => z.2.2) f21.1]; exact (c3 3 (by omega)).1
  have n3 : κ 3 (zsd (zpc u)) ≠ 88 := by have := (c3 3 (by omega)).2.1; omega
  have r5 := (M21_i (u := u) (M := M) (ar := ar) (a := κ 3 (zsd (zpc u))) (j := (zpc u - zoff (zpc u)).toNat) (fun q => n3 q.1)).trans atc
  have tail : ∀ K : Mem → XA, (gtI (4, 22) (M21 u M ar) (some 88) 19 fun _ => K (M21 u M ar)) = K (M21 u M ar) := fun K => gtI_q k1 rfl
  unfold c41_12
  dsimp only
  refine (gtI_q k h14).trans ?_
  refine (if_neg (leI_n rfl li_0 (by omega))).trans ?_
  refine (gtP_q k (cf_88_13 hC)).trans ?_
  refine (gtI_q k h14).trans ?_
  refine (alP_q (z := zf u) (ck_93 hC) (cvI (sbI rfl li_1) (by omega)) (by omega) (cf93n hC (by omega))).trans ?_
  refine (jn_v).trans ?_
  have body : ∀ Mx : Mem, Mx = M21 u M ar → (jv (fun (s16 : Mem) => gtP (4, 22) s16 (some 88) 8 fun x17 => alI 100 s16 (some (94 + (zf u).toNat)) ((2 : Int32)) fun x18 => alP 111 s16 x17 x18 fun x19 => gtP (6, 18) s16 x19 8 fun x20 => alI 100 s16 (some (94 + (zf u).toNat)) ((0 : Int32)) fun x21 => alI 100 s16 x20 x21 fun x22 => alI 100 s16 (some (94 + (zf u).toNat)) ((1 : Int32)) fun x23 => lt (x23 + ((10 : Int32))) fun (x24 : Int32) => fb41 d (zf u).toNat x22 x24 s16 go) Mx : XA) = fb41 d (zf u).toNat (iI (e.1 19 (zpc u) 0)) (iI (10 * zf u + u.1 6 (zf u) 0 + 10)) (M21 u M ar) go := fun Mx hx => by
    subst hx
    refine (jv_e).trans ?_
    refine (gtP_q k1 (cf_88_8 C1)).trans ?_
    refine (alI_q (n := 4) (z := 2) kf1 rfl (by omega) g2).trans ?_
    refine (alP_q (z := zsd (zpc u)) (ck_91 C1) rfl (by omega) r1).trans ?_
    refine (gtP_q r2 r3).trans ?_
    refine (alI_q (n := 4) (z := 0) kf1 li_0 (by omega) g0).trans ?_
    refine (alI_q (n := (e.1 21 (zsd (zpc u)) 0).toNat) (z := zpc u - zoff (zpc u)) r4 rfl (by omega) r5).trans ?_
    refine (alI_q (n := 4) (z := 1) kf1 li_1 (by omega) g1).trans ?_
    exact (ltI_q (z := 10 * zf u + u.1 6 (zf u) 0 + 10) (adI rfl li_10))
  rcases har with c | c
  · rw [if_pos (eqI_p (x := ar) rfl li_0 c)]
    exact body M (if_pos c).symm
  · rw [if_neg (eqI_n (x := ar) rfl li_0 (by omega))]
    refine (alI_q (n := 4) (z := 0) kf li_0 (by omega) f0).trans ?_
    refine (alI_q (n := 4) (z := 2) kf rfl (by omega) f2).trans ?_
    have e1 : iI (zpc u - zoff (zpc u)) + 1000 * iI (if zpc u < 1000 then 0 else 1) = iI (zpc u) := by
      refine cvI (adI rfl (mlI (x := 1000) rfl rfl)) ?_
      unfold zoff
      split <;> omega
    rw [e1]
    refine (ptI_e k).trans ?_
    exact body _ (if_neg (by omega)).symm
end S98b
