/-! the reference's machine: uses() -/
section S9b9
variable {d : Nat} {e s s' t u A : ZS} {M M' M1 M2 : Mem} {a b j N x y : Nat} {v v1 v2 v3 w : Int32} {c k i n m p o q id key par NN D r : Int} {R : Int → RG} {G : RG} {L : Int → Int} {Y : Nat → Int → Int}
/-- a member is set -/
theorem zRM.mem (h : zRM e s M) (hi : 0 ≤ id) (hb : ∀ id', zId e id' → 0 ≤ id') : zRM e (zw s 2 id 0 v) (sI M 211 id.toNat v) ∧ zRo e M (sI M 211 id.toNat v) := by
  obtain ⟨g0, g1, g2, g3, g4, g5, g6, g7⟩ := h.1
  have o : ∀ a j, a ≠ 211 → (sI M 211 id.toNat v).1 a j = M.1 a j := fun a j p => sI_ne p
  have W : ∀ k, k ≠ 2 → (zw s 2 id 0 v).2 k = s.2 k := fun k p => by funext x y; exact zw_k p
  refine ⟨h.glob ⟨g0.keep rfl, fun id' p z => ?_, fun id' p z z2 i u w => ?_, fun k p z => ?_, ⟨?_, ?_, ?_, ?_, ?_⟩, fun x p u w => ?_, fun q' p z => ?_, fun x => ?_⟩ (fun a j p => o a j (by omega)) (fun k p => rfl) ⟨W 0 (by decide), W 1 (by decide)⟩, rfl, fun a j p => ?_, fun a j p _ => o a j (by omega)⟩
  · by_cases y : id' = id
    · rw [y]; exact sI_eq.trans zw_e.symm
    · have := hb id' p
      exact (sI_nej (by omega)).trans ((g1 id' p z).trans (zw_i y).symm)
  · rw [o _ _ (by decide), W 3 (by decide)]; exact g2 id' p z z2 i u w
  · rw [o _ _ (by decide)]; exact g3 k p z
  · rw [o _ _ (by decide), W 4 (by decide)]; exact g4.1
  · rw [o _ _ (by decide)]; exact g4.2.1
  · rw [o _ _ (by decide)]; exact g4.2.2.1
  · rw [o _ _ (by decide)]; exact g4.2.2.2.1
  · rw [o _ _ (by decide)]; exact g4.2.2.2.2
  · rw [o _ _ (by decide), o _ _ (by decide), o _ _ (by decide), W 7 (by decide), W 8 (by decide)]; exact g5 x p u w
  · obtain ⟨c1, c2, c3⟩ := g6 q' p z
    rw [o _ _ (by decide), W 12 (by decide), W 13 (by decide)]
    exact ⟨c1, fun j x y => by rw [o _ _ (by decide)]; exact c2 j x y, fun j x y => by rw [o _ _ (by decide)]; exact c3 j x y⟩
  · rw [o _ _ (by decide), W 9 (by decide), W 10 (by decide)]
    exact ⟨(g7 x).1, fun t p q => by rw [o _ _ (by decide), o _ _ (by decide)]; exact (g7 x).2 t p q⟩
  · exact o a j (fun z => by rw [z, inW_c (by decide)] at p; cases p)
/-- a place of a row is set -/
theorem zRM.row (h : zRM e s M) (hi : 0 ≤ id) (hn : 0 ≤ n ∧ n < 50) (hb : ∀ id', zId e id' → 0 ≤ id' ∧ (e.1 4 id' 0 = 3 → e.1 5 id' 0 ≤ 50)) : zRM e (zw s 3 id n v) (sI M 212 (50 * id + n).toNat v) ∧ zRo e M (sI M 212 (50 * id + n).toNat v) := by
  obtain ⟨g0, g1, g2, g3, g4, g5, g6, g7⟩ := h.1
  have o : ∀ a j, a ≠ 212 → (sI M 212 (50 * id + n).toNat v).1 a j = M.1 a j := fun a j p => sI_ne p
  have W : ∀ k, k ≠ 3 → (zw s 3 id n v).2 k = s.2 k := fun k p => by funext x y; exact zw_k p
  refine ⟨h.glob ⟨g0.keep rfl, fun id' p z => ?_, fun id' p z z2 i u w => ?_, fun k p z => ?_, ⟨?_, ?_, ?_, ?_, ?_⟩, fun x p u w => ?_, fun q' p z => ?_, fun x => ?_⟩ (fun a j p => o a j (by omega)) (fun k p => rfl) ⟨W 0 (by decide), W 1 (by decide)⟩, rfl, fun a j p => ?_, fun a j p _ => o a j (by omega)⟩
  · rw [o _ _ (by decide), W 2 (by decide)]; exact g1 id' p z
  · obtain ⟨b1, b2⟩ := hb id' p
    have b3 := b2 z
    by_cases y : id' = id
    · by_cases y2 : i = n
      · rw [y, y2]; exact sI_eq.trans zw_e.symm
      · exact (sI_nej (by omega)).trans ((g2 id' p z z2 i u w).trans (zw_j y2).symm)
    · exact (sI_nej (by omega)).trans ((g2 id' p z z2 i u w).trans (zw_i y).symm)
  · rw [o _ _ (by decide)]; exact g3 k p z
  · rw [o _ _ (by decide), W 4 (by decide)]; exact g4.1
  · rw [o _ _ (by decide)]; exact g4.2.1
  · rw [o _ _ (by decide)]; exact g4.2.2.1
  · rw [o _ _ (by decide)]; exact g4.2.2.2.1
  · rw [o _ _ (by decide)]; exact g4.2.2.2.2
  · rw [o _ _ (by decide), o _ _ (by decide), o _ _ (by decide), W 7 (by decide), W 8 (by decide)]; exact g5 x p u w
  · obtain ⟨c1, c2, c3⟩ := g6 q' p z
    rw [o _ _ (by decide), W 12 (by decide), W 13 (by decide)]
    exact ⟨c1, fun j x y => by rw [o _ _ (by decide)]; exact c2 j x y, fun j x y => by rw [o _ _ (by decide)]; exact c3 j x y⟩
  · rw [o _ _ (by decide), W 9 (by decide), W 10 (by decide)]
    exact ⟨(g7 x).1, fun t p q => by rw [o _ _ (by decide), o _ _ (by decide)]; exact (g7 x).2 t p q⟩
  · exact o a j (fun z => by rw [z, inW_c (by decide)] at p; cases p)
theorem zRE.bd (hE : zRE e R L M) (hi : zId e id) : (0 ≤ id ∧ id < 192) ∧ (e.1 4 id 0 = 3 → 1 ≤ e.1 5 id 0 ∧ e.1 5 id 0 ≤ 50) := by
  obtain ⟨g1, g2, g3, g4, -⟩ := hE.sd hi
  obtain ⟨-, -, b3, b4, -, b6, -⟩ := (hE.1 _ g1).2.2.2.2.2.2.1 _ g3 g4
  rw [← g2] at b3 b4
  exact ⟨(hE.mb hi).1, fun z => by have := b6 (by omega); omega⟩
/-- what is done with a member whose unit has begun -/
theorem rmem (hd : 4 * (12 - s.1 0 0 0) + 13 ≤ d ∧ 13 ≤ d) (hT : zET e) (hl : zEl e) (hD : zRD e R L NN) (hE : zRE e R L M) (h : zRM e s M) (hm : s.1 1 0 0 = 0) (hlr : zLr s) (hi : zId e id) (ho : 3 ≤ o ∧ o ≤ 7) (h8 : s.1 8 (e.1 3 id 0) 0 = 1) (hs : (o = 3 ∨ o = 4 → e.1 4 id 0 = 1 ∨ e.1 4 id 0 = 2) ∧ (o = 5 ∨ o = 6 → e.1 4 id 0 = 3) ∧ (o = 7 → e.1 4 id 0 = 4)) (hh : (o = 4 ∨ o = 5 → 1 ≤ zh s) ∧ (o = 6 → 2 ≤ zh s) ∧ (o = 7 → 0 ≤ e.1 5 id 0 ∧ e.1 5 id 0 ≤ zh s ∧ e.1 5 id 0 ≤ 4)) (hK : zKn e (zmem e s o id)) (hN : s.1 9 0 0 ≤ NN) (h17 : ∀ D, 0 ≤ s.1 17 D 0 ∧ s.1 17 D 0 ≤ 100000) {v2' : Int32} (hv : v1 = iI o) (hv2 : v2 = iI (zpc s)) (hv3 : v3 = iI id) (hx : v2' = iI (e.1 5 id 0)) : ∃ M', (jn (fun (s9 : Mem) =>
 some (.null, s9)) fun j204 =>
 swI v1 [
 ((3 : Int32), (
 gtP (13, 157) M (some 160) 70 fun x10 =>
 alI 100 M x10 v3 fun x11 =>
 vC (13, 157) M (some 160) <|
 cV (runX d 241 [va_rf (some 160), .int x11] M) fun M12 =>
 j204 M12)),
 ((4 : Int32), (
 gtP (13, 157) M (some 160) 70 fun x13 =>
 vC (13, 157) M (some 160) <|
 cI (runX d 242 [va_rf (some 160)] M) fun x15 M14 =>
 asI 100 M14 x13 v3 x15 fun M16 =>
 j204 M16)),
 ((5 : Int32), (
 vC (13, 157) M (some 160) <|
 cI (runX d 242 [va_rf (some 160)] M) fun x18 M17 =>
 jn (fun (s19 : Unit) =>
 vC (13, 157) M17 (some 160) <|
 cV (runX d 239 [va_rf (some 160), .int ((2 : Int32)), .int v2, .int ((0 : Int32))] M17) fun M20 =>
 j204 M20) fun j116 =>
 if x18 < 0 then (
 j116 ()) else (
 if x18 < v2' then (
 gtP (13, 157) M17 (some 160) 71 fun x21 =>
 alI 100 M17 x21 ((((50 : Int32)) * v3) + x18) fun x22 =>
 vC (13, 157) M17 (some 160) <|
 cV (runX d 241 [va_rf (some 160), .int x22] M17) fun M23 =>
 j204 M23) else (
 j116 ())))),
 ((6 : Int32), (
 vC (13, 157) M (some 160) <|
 cI (runX d 242 [va_rf (some 160)] M) fun x25 M24 =>
 vC (13, 157) M24 (some 160) <|
 cI (runX d 242 [va_rf (some 160)] M24) fun x27 M26 =>
 jn (fun (s28 : Unit) =>
 vC (13, 157) M26 (some 160) <|
 cV (runX d 239 [va_rf (some 160), .int ((2 : Int32)), .int v2, .int ((0 : Int32))] M26) fun M29 =>
 j204 M29) fun j169 =>
 if x27 < 0 then (
 j169 ()) else (
 if x27 < v2' then (
 gtP (13, 157) M26 (some 160) 71 fun x30 =>
 asI 100 M26 x30 ((((50 : Int32)) * v3) + x27) x25 fun M31 =>
 j204 M31) else (
 j169 ()))))] (
 vC (13, 157) M (some 160) <|
 cV (runX d 250 [va_rf (some 160), .int v3, .int v2, .int v2'] M) fun M32 =>
 j204 M32) : XA) = some (.null, M') ∧ zRA e s (zmem e s o id) M M' := by
  subst hv; subst hv2; subst hv3; subst hx
  have hR := h.1.1
  have k := rk_160 hR
  obtain ⟨bi, b50⟩ := hE.bd hi
  have oc : o = 3 ∨ o = 4 ∨ o = 5 ∨ o = 6 ∨ o = 7 := by omega
  rcases oc with oc | oc | oc | oc | oc <;> subst oc
  · -- GET
    have zm : zmem e s 3 id = znx (zpush s (s.2 2 id 0)) := if_pos rfl
    rw [zm] at hK ⊢
    have hm1 : (znx (zpush s (s.2 2 id 0))).1 1 0 0 = 0 := hm
    have l3 := (hK.1.lr (Or.inl hm1)).2.2.2.2
    have l4 : zh (znx (zpush s (s.2 2 id 0))) = zh s + 1 := zi_e
    have e211 : M.1 211 id.toNat = s.2 2 id 0 := h.1.2.1 id hi (by rcases hs.1 (Or.inl rfl) with z | z; exact Or.inr ⟨z, h8⟩; exact Or.inl z)
    obtain ⟨M2, q1, q2, q3⟩ := rq1 (d := d) (v := s.2 2 id 0) (by omega) h hlr (by omega)
    refine ⟨M2, ?_, _, zto.r, (q3).q, Or.inl ⟨hm, zSa.px, znx_pc, q2.at _⟩⟩
    rw [jn_v, swI_c, if_pos (show iI 3 = 3 from rfl), gtP_q k (rf_70 hR), alI_q (n := 192) (z := id) (rk_211 hR) rfl (by omega) e211, vC_e k, cV_e q1]; rfl
  · -- PUT
    have zm : zmem e s 4 id = zw (znx (zdn s 1)) 2 id 0 (ztop s 1) := by unfold zmem; rw [if_neg (by decide), if_pos rfl]
    rw [zm] at hK ⊢
    obtain ⟨M1, q1, q2, q3⟩ := rq2 (d := d) (by omega) h hlr (hh.1 (Or.inl rfl))
    have R1 := q2.1.1
    obtain ⟨c1, f1⟩ := (q2.at (zpc s + 1)).mem (id := id) (v := ztop s 1) bi.1 (fun id' z => (hE.bd z).1.1)
    refine ⟨sI M1 211 id.toNat (ztop s 1), ?_, _, zto.r, (q3.tr f1).q, Or.inl ⟨hm, (zSa.dx (s := s) (c := 1)).as (fun _ _ => rfl) ⟨by funext x y; exact zw_k (by decide), by funext x y; exact zw_k (by decide)⟩, znx_pc (s := zdn s 1), c1⟩⟩
    rw [jn_v, swI_c, if_neg (show ¬ iI 4 = 3 by decide), swI_c, if_pos (show iI 4 = 4 from rfl), gtP_q k (rf_70 hR), vC_e k, cI_e q1, asI_e (rk_211 R1) bi.1 (by omega) (by omega)]; rfl
  · -- ROWGET
    have s3 := hs.2.1 (Or.inl rfl)
    have b := b50 s3
    have zm : zmem e s 5 id = if (ztop s 1).toInt < 0 ∨ e.1 5 id 0 ≤ (ztop s 1).toInt then zerr (zdn s 1) 2 3 else znx (zpush (zdn s 1) (s.2 3 id (ztop s 1).toInt)) := by unfold zmem; rw [if_neg (by decide), if_neg (by decide), if_pos rfl]
    rw [zm] at hK ⊢
    obtain ⟨M1, q1, q2, q3⟩ := rq2 (d := d) (by omega) h hlr (hh.1 (Or.inr rfl))
    have R1 := q2.1.1
    have k1 := rk_160 R1
    have l1 := hlr.dn (c := 1) (by have := hh.1 (Or.inr rfl); omega)
    have e1 : zh (zdn s 1) = zh s - 1 := zdn_h
    obtain ⟨I, hI⟩ : ∃ I, I = (ztop s 1).toInt := ⟨_, rfl⟩
    obtain ⟨i1, i2, i3⟩ := iI_of (ztop s 1)
    rw [← hI] at i1 i2 i3 hK ⊢
    have hx := hh.1 (Or.inr rfl)
    by_cases y : I < 0 ∨ e.1 5 id 0 ≤ I
    · rw [if_pos y] at hK ⊢
      obtain ⟨M2, z1, z2, z3⟩ := rfl9 (d := d) (e := e) (s := zdn s 1) (M := M1) (v1 := 2) (v2 := iI (zpc s)) (v3 := 0) (m := 3) (by omega) q2 rfl (Or.inl ⟨rfl, rfl⟩)
      refine ⟨M2, ?_, _, zto.r, (q3.tr z3).q, Or.inr (Or.inl ⟨Or.inl zi_e, zSa.er, rfl, z2⟩)⟩
      rw [jn_v, swI_c, if_neg (show ¬ iI 5 = 3 by decide), swI_c, if_neg (show ¬ iI 5 = 4 by decide), swI_c, if_pos (show iI 5 = 5 from rfl), vC_e k, cI_e q1, jn_v, i1]
      by_cases y2 : I < 0
      · rw [if_pos (lsI_p rfl li_0 (by omega)), jv_e, vC_e k1, cV_e z1]; rfl
      · rw [if_neg (lsI_n rfl li_0 (by omega)), if_neg (lsI_n rfl rfl (by omega)), jv_e, vC_e k1, cV_e z1]; rfl
    · rw [if_neg y] at hK ⊢
      have e212 : M1.1 212 (50 * id + I).toNat = s.2 3 id I := q2.1.2.2.1 id hi s3 h8 I (by omega) (by omega)
      obtain ⟨M2, z1, z2, z3⟩ := rq1 (d := d) (v := s.2 3 id I) (by omega) q2 l1 (by have := hlr.2.2.2; omega)
      refine ⟨M2, ?_, _, zto.r, (q3.tr z3).q, Or.inl ⟨hm, zSa.pd, znx_pc, z2.at _⟩⟩
      rw [jn_v, swI_c, if_neg (show ¬ iI 5 = 3 by decide), swI_c, if_neg (show ¬ iI 5 = 4 by decide), swI_c, if_pos (show iI 5 = 5 from rfl), vC_e k, cI_e q1, jn_v, i1, if_neg (lsI_n rfl li_0 (by omega)), if_pos (lsI_p rfl rfl (by omega)), gtP_q k1 (rf_71 R1), alI_q (n := 9600) (z := 50 * id + I) (rk_212 R1) (show (50 : Int32) * iI id + iI I = iI (50 * id + I) from adI (mlI (x := 50) rfl rfl) rfl) (by omega) e212, vC_e k1, cV_e z1]; rfl
  · -- ROWPUT
    have s3 := hs.2.1 (Or.inr rfl)
    have b := b50 s3
    have zm : zmem e s 6 id = if (ztop s 2).toInt < 0 ∨ e.1 5 id 0 ≤ (ztop s 2).toInt then zerr (zdn s 2) 2 3 else zw (znx (zdn s 2)) 3 id (ztop s 2).toInt (ztop s 1) := by unfold zmem; rw [if_neg (by decide), if_neg (by decide), if_neg (by decide), if_pos rfl]
    rw [zm] at hK ⊢
    have hx := hh.2.1 rfl
    obtain ⟨M1, q1, c1, f1⟩ := rq2 (d := d) (by omega) h hlr (by omega)
    have k1 := rk_160 c1.1.1
    have l1 := hlr.dn (c := 1) (by omega)
    have e1 : zh (zdn s 1) = zh s - 1 := zdn_h
    obtain ⟨M2, q2, c2, f2⟩ := rq2 (d := d) (by omega) c1 l1 (by omega)
    rw [zdn_dn, show (1 : Int) + 1 = 2 from rfl] at c2
    rw [zdn_top, show (1 : Int) + 1 = 2 from rfl] at q2
    have R2 := c2.1.1
    have k2 := rk_160 R2
    have f12 := f1.tr f2
    obtain ⟨I, hI⟩ : ∃ I, I = (ztop s 2).toInt := ⟨_, rfl⟩
    obtain ⟨i1, i2, i3⟩ := iI_of (ztop s 2)
    rw [← hI] at i1 i2 i3 hK ⊢
    by_cases y : I < 0 ∨ e.1 5 id 0 ≤ I
    · rw [if_pos y] at hK ⊢
      obtain ⟨M3, z1, z2, z3⟩ := rfl9 (d := d) (e := e) (s := zdn s 2) (M := M2) (v1 := 2) (v2 := iI (zpc s)) (v3 := 0) (m := 3) (by omega) c2 rfl (Or.inl ⟨rfl, rfl⟩)
      refine ⟨M3, ?_, _, zto.r, (f12.tr z3).q, Or.inr (Or.inl ⟨Or.inl zi_e, zSa.er, rfl, z2⟩)⟩
      rw [jn_v, swI_c, if_neg (show ¬ iI 6 = 3 by decide), swI_c, if_neg (show ¬ iI 6 = 4 by decide), swI_c, if_neg (show ¬ iI 6 = 5 by decide), swI_c, if_pos (show iI 6 = 6 from rfl), vC_e k, cI_e q1, vC_e k1, cI_e q2, jn_v, i1]
      by_cases y2 : I < 0
      · rw [if_pos (lsI_p rfl li_0 (by omega)), jv_e, vC_e k2, cV_e z1]; rfl
      · rw [if_neg (lsI_n rfl li_0 (by omega)), if_neg (lsI_n rfl rfl (by omega)), jv_e, vC_e k2, cV_e z1]; rfl
    · rw [if_neg y] at hK ⊢
      obtain ⟨c3, f3⟩ := (c2.at (zpc s + 1)).row (id := id) (n := I) (v := ztop s 1) bi.1 (by omega) (fun id' z => ⟨(hE.bd z).1.1, fun z2 => ((hE.bd z).2 z2).2⟩)
      refine ⟨sI M2 212 (50 * id + I).toNat (ztop s 1), ?_, _, zto.r, (f12.tr f3).q, Or.inl ⟨hm, (zSa.dx (s := s) (c := 2)).as (fun _ _ => rfl) ⟨by funext x y; exact zw_k (by decide), by funext x y; exact zw_k (by decide)⟩, znx_pc (s := zdn s 2), c3⟩⟩
      rw [jn_v, swI_c, if_neg (show ¬ iI 6 = 3 by decide), swI_c, if_neg (show ¬ iI 6 = 4 by decide), swI_c, if_neg (show ¬ iI 6 = 5 by decide), swI_c, if_pos (show iI 6 = 6 from rfl), vC_e k, cI_e q1, vC_e k1, cI_e q2, jn_v, i1, if_neg (lsI_n rfl li_0 (by omega)), if_pos (lsI_p rfl rfl (by omega)), gtP_q k2 (rf_71 R2), show (50 : Int32) * iI id + iI I = iI (50 * id + I) from adI (mlI (x := 50) rfl rfl) rfl, asI_e (rk_212 R2) (by omega) (by omega) (by omega)]; rfl
  · -- CALL
    obtain ⟨p1, p2, p3⟩ := hh.2.2 rfl
    obtain ⟨M', z1, z2⟩ := rr250 (d := d) (par := e.1 5 id 0) (v1 := iI id) (v2 := iI (zpc s)) (v3 := iI (e.1 5 id 0)) (by omega) hT hl hD hE h hm hlr hi (hs.2.2 rfl) rfl ⟨p1, p2, p3⟩ hK hN h17 rfl rfl rfl
    refine ⟨M', ?_, z2⟩
    rw [jn_v, swI_c, if_neg (show ¬ iI 7 = 3 by decide), swI_c, if_neg (show ¬ iI 7 = 4 by decide), swI_c, if_neg (show ¬ iI 7 = 5 by decide), swI_c, if_neg (show ¬ iI 7 = 6 by decide), swI_n, vC_e k, cV_e z1]; rfl
end S9b9
