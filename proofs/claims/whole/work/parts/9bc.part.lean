/-! the reference's machine: an operation of a code -/
section S9bc
variable {d : Nat} {e s s' t u A : ZS} {M M' M1 M2 : Mem} {a b j N x y : Nat} {v v1 v2 v3 w : Int32} {c k i n m p o q id key par NN D r : Int} {R : Int → RG} {G : RG} {L : Int → Int} {Y : Nat → Int → Int}
theorem iw_0 (h : 0 ≤ o ∧ o ≤ 29) : (iw o = 0 ↔ o = 0) ∧ -1 ≤ iw o ∧ iw o ≤ 34 := by
  have c : o = 0 ∨ o = 1 ∨ o = 2 ∨ o = 3 ∨ o = 4 ∨ o = 5 ∨ o = 6 ∨ o = 7 ∨ o = 8 ∨ o = 9 ∨ o = 10 ∨ o = 11 ∨ o = 12 ∨ o = 13 ∨ o = 14 ∨ o = 15 ∨ o = 16 ∨ o = 17 ∨ o = 18 ∨ o = 19 ∨ o = 20 ∨ o = 21 ∨ o = 22 ∨ o = 23 ∨ o = 24 ∨ o = 25 ∨ o = 26 ∨ o = 27 ∨ o = 28 ∨ o = 29 := by omega
  rcases c with c | c | c | c | c | c | c | c | c | c | c | c | c | c | c | c | c | c | c | c | c | c | c | c | c | c | c | c | c | c <;> subst c <;> decide
theorem g34_e {x1 tr : Int32} {j685 : Int32 × Mem → XA} {j726 : Int32 × Int32 × Mem → XA} (hd : 1 ≤ d) (hE : zRE e R L M) (hR : RT M) (hin : zIn e p) (hv : v = iI p) (hv2 : v2 = iI (zrp e p)) : g34 d x1 j685 j726 tr v v2 M = g352 d x1 j685 j726 tr v (iI (p + 1)) (iI (zop e p)) M (iI (znum e p)) := by
  subst hv; subst hv2
  have k := rk_160 hR
  obtain ⟨c1, c2, c3, c4⟩ := hE.2.2.1 p hin
  have e90 : M.1 160 90 = iI (e.1 8 0 0) := hE.2.2.2.1.1
  have b8 := hE.2.2.2.2.1.1
  have hb := hE.2.2.2.2.1.2.2.2.1
  have pb : 0 ≤ p ∧ p < 2000 ∧ 0 ≤ zrp e p ∧ zrp e p < 8000 := by
    unfold zrp
    unfold zIn at hin
    by_cases y : p < 1000
    · rw [if_pos y]; have := (hE.1 0 (Or.inl rfl)).1; omega
    · rw [if_neg y]
      have y22 : e.1 22 0 0 = 1 := by rcases hE.2.1 with z | z <;> omega
      have a1 := (hE.1 1 (Or.inr ⟨rfl, y22⟩)).1
      omega
  have i0 := iw_0 (o := e.1 0 p 0) ⟨c3, c4⟩
  have ip : iI p + (1 : Int32) = iI (p + 1) := adI rfl li_1
  unfold g34
  rw [gtI_q k e90, jn_v]
  by_cases y : p = e.1 8 0 0
  · have zo : zop e p = iw (e.1 0 p 0) := if_pos y
    rw [if_pos (eqI_p rfl rfl y), jv_e, jn_v, if_neg (show ¬ (1 : Int32) = 0 by decide), gtP_q k (rf_30 hR), alI_q (n := 8000) (z := zrp e p) (rk_189 hR) rfl (by omega) c1, cI_e (a233 hd rfl ⟨c3, c4⟩), jv_e, jn_v, jn_v, if_neg (show ¬ (1 : Int32) = 0 by decide), ← zo]
    by_cases y2 : e.1 0 p 0 = 0
    · have zn0 : znum e p = e.1 1 p 0 + 1 := if_pos ⟨y, y2⟩
      rw [if_pos (eqI_p rfl li_0 (by rw [zo]; exact i0.1.2 y2)), gtP_q k (rf_31 hR), alI_q (n := 8000) (z := zrp e p) (rk_190 hR) rfl (by omega) c2, jv_e, ltI_q ip, show iI (e.1 1 p 0) + (1 : Int32) = iI (znum e p) from cvI (adI rfl li_1) zn0.symm]
    · have zn0 : znum e p = e.1 1 p 0 := if_neg fun z => y2 z.2
      have zon : zop e p ≠ 0 := by rw [zo]; exact fun z => y2 (i0.1.1 z)
      rw [if_neg (eqI_n rfl li_0 (by omega)), jv_e, gtP_q k (rf_31 hR), alI_q (n := 8000) (z := zrp e p) (rk_190 hR) rfl (by omega) c2, jv_e, ltI_q ip, zn0]
  · have zo : zop e p = e.1 0 p 0 := if_neg y
    have zn0 : znum e p = e.1 1 p 0 := if_neg fun z => y z.1
    rw [if_neg (eqI_n rfl rfl (by omega)), jv_e, jn_v, if_pos (show (0 : Int32) = 0 from rfl), gtP_q k (rf_30 hR), alI_q (n := 8000) (z := zrp e p) (rk_189 hR) rfl (by omega) c1, jv_e, jn_v, jn_v, if_pos (show (0 : Int32) = 0 from rfl), jv_e, gtP_q k (rf_31 hR), alI_q (n := 8000) (z := zrp e p) (rk_190 hR) rfl (by omega) c2, jv_e, ltI_q ip, zo, zn0]
/-- operations done elsewhere -/
theorem g352_o {x1 tr pc x39 s38 : Int32} {j685 : Int32 × Mem → XA} {j726 : Int32 × Int32 × Mem → XA} (ho : 0 ≤ o ∧ o ≤ 34 ∧ ¬ (o = 1 ∨ o = 2 ∨ o = 8 ∨ o = 34 ∨ o = 24 ∨ o = 25 ∨ o = 26 ∨ o = 27 ∨ o = 31)) : g352 d x1 j685 j726 tr pc x39 (iI o) M s38 = (vC (13, 157) M (some 160) <| cV (runX d 244 [va_rf (some 160), .int (iI o), .int s38, .int pc] M) fun M60 => j726 (tr, x39, M60)) := by
  have c : o = 0 ∨ o = 3 ∨ o = 4 ∨ o = 5 ∨ o = 6 ∨ o = 7 ∨ o = 9 ∨ o = 10 ∨ o = 11 ∨ o = 12 ∨ o = 13 ∨ o = 14 ∨ o = 15 ∨ o = 16 ∨ o = 17 ∨ o = 18 ∨ o = 19 ∨ o = 20 ∨ o = 21 ∨ o = 22 ∨ o = 23 ∨ o = 28 ∨ o = 29 ∨ o = 30 ∨ o = 32 ∨ o = 33 := by omega
  rcases c with c | c | c | c | c | c | c | c | c | c | c | c | c | c | c | c | c | c | c | c | c | c | c | c | c | c <;> subst c <;> rfl
theorem g352_1 {x1 tr pc x39 s38 : Int32} {j685 : Int32 × Mem → XA} {j726 : Int32 × Int32 × Mem → XA} : g352 d x1 j685 j726 tr pc x39 (iI 1) M s38 = (
 gtP (13, 157) M (some 160) 74 fun x53 =>
 alI 100 M x53 ((((10 : Int32)) * x1) + s38) fun x54 =>
 vC (13, 157) M (some 160) <|
 cV (runX d 241 [va_rf (some 160), .int x54] M) fun M55 =>
 j726 (tr, x39, M55) : XA) := rfl
theorem g352_2 {x1 tr pc x39 s38 : Int32} {j685 : Int32 × Mem → XA} {j726 : Int32 × Int32 × Mem → XA} : g352 d x1 j685 j726 tr pc x39 (iI 2) M s38 = (
 gtP (13, 157) M (some 160) 74 fun x56 =>
 vC (13, 157) M (some 160) <|
 cI (runX d 242 [va_rf (some 160)] M) fun x58 M57 =>
 asI 100 M57 x56 ((((10 : Int32)) * x1) + s38) x58 fun M59 =>
 j726 (tr, x39, M59) : XA) := rfl
theorem g352_24 {x1 tr pc x39 s38 : Int32} {j685 : Int32 × Mem → XA} {j726 : Int32 × Int32 × Mem → XA} : g352 d x1 j685 j726 tr pc x39 (iI 24) M s38 = (
 vC (13, 157) M (some 160) <|
 cI (runX d 242 [va_rf (some 160)] M) fun x81 M80 =>
 jn (fun (s82 : Int32) =>
 j726 (tr, s82, M80)) fun j580 =>
 if x81 = 0 then (
 jn (fun (s83 : Int32) =>
 j580 (s38 + s83)) fun j574 =>
 if ((1000 : Int32)) ≤ pc then (
 j574 ((1000 : Int32))) else (
 j574 ((0 : Int32)))) else (
 j580 x39) : XA) := rfl
theorem g352_25 {x1 tr pc x39 s38 : Int32} {j685 : Int32 × Mem → XA} {j726 : Int32 × Int32 × Mem → XA} : g352 d x1 j685 j726 tr pc x39 (iI 25) M s38 = (
 jn (fun (s84 : Int32) =>
 lt (s38 + s84) fun (x85 : Int32) =>
 j726 (tr, x85, M)) fun j637 =>
 if ((1000 : Int32)) ≤ pc then (
 j637 ((1000 : Int32))) else (
 j637 ((0 : Int32))) : XA) := rfl
theorem g352_26 {x1 tr pc x39 s38 : Int32} {j685 : Int32 × Mem → XA} {j726 : Int32 × Int32 × Mem → XA} : g352 d x1 j685 j726 tr pc x39 (iI 26) M s38 = (
 gtP (13, 157) M (some 160) 75 fun x86 =>
 jn (fun (s87 : Int32) =>
 asI 100 M x86 ((((25 : Int32)) * x1) + tr) ((s38 + s87)) fun M88 =>
 lt (tr + (1 : Int32)) fun (x89 : Int32) =>
 j726 (x89, x39, M88)) fun j671 =>
 if ((1000 : Int32)) ≤ pc then (
 j671 ((1000 : Int32))) else (
 j671 ((0 : Int32))) : XA) := rfl
theorem g352_27 {x1 tr pc x39 s38 : Int32} {j685 : Int32 × Mem → XA} {j726 : Int32 × Int32 × Mem → XA} : g352 d x1 j685 j726 tr pc x39 (iI 27) M s38 = (
 lt (tr + (-1 : Int32)) fun (x90 : Int32) =>
 j726 (x90, x39, M) : XA) := rfl
theorem g352_31 {x1 tr pc x39 s38 : Int32} {j685 : Int32 × Mem → XA} {j726 : Int32 × Int32 × Mem → XA} : g352 d x1 j685 j726 tr pc x39 (iI 31) M s38 = (
 vC (13, 157) M (some 160) <|
 cI (runX d 242 [va_rf (some 160)] M) fun x95 M94 =>
 jn (fun (s96 : Int32) =>
 j726 (tr, s96, M94)) fun j615 =>
 if x95 = 0 then (
 j615 x39) else (
 jn (fun (s97 : Int32) =>
 j615 (s38 + s97)) fun j609 =>
 if ((1000 : Int32)) ≤ pc then (
 j609 ((1000 : Int32))) else (
 j609 ((0 : Int32)))) : XA) := rfl
theorem g352_8 {x1 tr pc x39 s38 : Int32} {j685 : Int32 × Mem → XA} {j726 : Int32 × Int32 × Mem → XA} : g352 d x1 j685 j726 tr pc x39 (iI 8) M s38 = (
 j685 (iI 8, M) : XA) := rfl
theorem g352_34 {x1 tr pc x39 s38 : Int32} {j685 : Int32 × Mem → XA} {j726 : Int32 × Int32 × Mem → XA} : g352 d x1 j685 j726 tr pc x39 (iI 34) M s38 = (
 j685 (iI 34, M) : XA) := rfl
/-- heights, by operation -/
def zHo (e s : ZS) (o n : Int) : Prop := (o = 1 → 0 ≤ n ∧ n < s.1 16 (zf s) 0) ∧ (o = 2 → 0 ≤ n ∧ n ≤ 9 ∧ n ≤ s.1 16 (zf s) 0 ∧ 1 ≤ zh s) ∧ (o = 4 ∨ o = 9 ∨ o = 28 ∨ o = 29 → 1 ≤ zh s) ∧ (o = 5 ∨ o = 21 ∨ o = 22 ∨ o = 23 → 1 ≤ zh s) ∧ (o = 6 ∨ o = 33 → 2 ≤ zh s) ∧ (o = 7 ∨ o = 32 → 0 ≤ e.1 18 (zpc s) 0 ∧ e.1 18 (zpc s) 0 ≤ zh s) ∧ (10 ≤ o ∧ o ≤ 20 → 2 ≤ zh s) ∧ (o = 8 ∨ o = 34 → 1 ≤ zh s) ∧ (o = 24 ∨ o = 31 → 1 ≤ zh s) ∧ (o = 27 → 1 ≤ s.1 4 (zf s) 0)
theorem zWT.ho (h : zWT e s) (hm : s.1 1 0 0 = 0) (hT : zET e) (hop : o = zop e (zpc s)) (hn : n = znum e (zpc s)) : zIn e (zpc s) ∧ (0 ≤ o ∧ o ≤ 34) ∧ zHo e s o n := by
  have q : ∃ Y a c, zwf e s (zf s) Y a c ∧ zh s = Y 0 (zpc s) := by
    rcases h.2 with ⟨-, h1, w, -⟩ | ⟨z, -⟩ | ⟨z, -⟩ | z | z
    · exact w
    all_goals omega
  obtain ⟨Y, a, c, w, hh⟩ := q
  have hin : zIn e (zpc s) := w.1.in _ w.2.1.1 w.2.1.2
  have w3 := w.2.2.1
  have w4 := w.2.2.2.2.1
  have e3 : s.1 2 (zf s) 0 = zpc s := rfl
  rw [e3] at w3 w4
  obtain ⟨p0, -, p1, p2, -, p4, p5, p6, p7, p10, p8, p24, -, -, p27, -⟩ := (w.1.2 (zpc s) w.2.1.1 w.2.1.2).2.2
  have zn12 : o = 1 ∨ o = 2 → zn e (zpc s) = n := fun z => by unfold zn; rw [if_neg (by omega), hn]
  rw [← hop] at p0 p1 p2 p4 p5 p6 p7 p10 p8 p24 p27
  refine ⟨hin, p0, fun z => ?_, fun z => ?_, fun z => ?_, fun z => ?_, fun z => ?_, fun z => ?_, fun z => ?_, fun z => ?_, fun z => ?_, fun z => ?_⟩
  · have := p1 z; rw [zn12 (Or.inl z)] at this; have := this.1; have := (p1 z).2.1; rw [zn12 (Or.inl z)] at this; omega
  · have := p2 z; rw [zn12 (Or.inr z)] at this; have a1 := this.1; have a2 := this.2.1; have a3 := this.2.2.1; have a4 := this.2.2.2.1; omega
  · have := (p4 z).1; omega
  · have := (p5 z).1; omega
  · have := (p6 z).1; omega
  · have a1 := (p7 z).1; have a2 := (p7 z).2.1; omega
  · have := (p10 z).1; omega
  · have := p8 z; omega
  · have := (p24 z).1; omega
  · have := (p27 z).1; omega
theorem zoff_if {f : Int32 → XA} (hb : 0 ≤ p ∧ p < 2000) : (if (1000 : Int32) ≤ iI p then f ((1000 : Int32)) else f ((0 : Int32))) = f (iI (zoff p)) := by
  unfold zoff
  by_cases z : p < 1000
  · rw [if_neg (show ¬ (1000 : Int32) ≤ iI p from leI_n (x := 1000) rfl rfl (by omega)), if_pos z]; rfl
  · rw [if_pos (show (1000 : Int32) ≤ iI p from leI_p (x := 1000) rfl rfl (by omega)), if_neg z]; rfl
/-- what is left never grows -/
theorem zto_left (hT : zET e) (hl : zEl e) (h : zKn e s) (g : zto e s t) (hm : s.1 1 0 0 ≠ 1 ∧ s.1 1 0 0 ≠ 2) : t.1 9 0 0 ≤ s.1 9 0 0 := by
  have i1 := h.2.1.1
  have i2 := (zto_kn hT hl h g).2.1.1
  rcases zto_12 hm rfl g with z | z <;> omega
end S9bc
