/-! blame(), both: the ends -/
def Zblc (o : HO) (a j : Nat) : Prop := Zbc o a j ∨ a = 149 ∨ (a = 64 ∧ j = 16)
def Zblr (a j : Nat) : Prop := Zbr a j ∨ a = 255 ∨ (a = 160 ∧ j = 151)
/-- the ends of both -/
def bJc (dl : Nat) : Int32 × Mem → XA := jv fun (s34 : Int32 × Mem) => gtP (12, 19) s34.2 (some 64) 2 fun x35 => vC (4, 22) s34.2 x35 <| cI (runX dl 22 [va_rf x35] s34.2) fun x37 M36 => if x37 = 0 then ( gtP (12, 19) M36 (some 64) 14 fun x38 => gtP (12, 19) M36 (some 64) 15 fun x39 => acI M36 x38 ((0 : Int32)) x39 ((0 : Int32)) s34.1 fun M40 => ptI (12, 19) M40 (some 64) 16 s34.1 fun M41 => some (.int s34.1, M41)) else ( some (.int ((-4 : Int32)), M36))
def bJr (d : Nat) (rc : Int32) : Int32 × Mem → XA := jv fun (s13 : Int32 × Mem) => gtI (13, 157) s13.2 (some 160) 84 fun x14 => if x14 = 0 then ( if rc = 0 then ( ptI (13, 157) s13.2 (some 160) 151 s13.1 fun M15 => jn (fun (s16 : Mem) => some (.int s13.1, s16)) fun j311 => lp (c304_285 (runX d) (some 160) j311 s13) 4294967296 ((0 : Int32), M15)) else ( some (.int ((-2 : Int32)), s13.2))) else ( ptZ (13, 157) s13.2 (some 160) 84 ((0 : Int32)) fun M23 => some (.int ((-4 : Int32)), M23))
def bJ1 (d : Nat) (p c po : Int) : Int32 × Mem → XA := jv fun (s11 : Int32 × Mem) => jn (fun (s12 : Int32) => jn (fun (s13 : Int32 × Mem) => gtI (13, 157) s13.2 (some 160) 84 fun x14 => if x14 = 0 then ( if s11.1 = 0 then ( ptI (13, 157) s13.2 (some 160) 151 s13.1 fun M15 => jn (fun (s16 : Mem) => some (.int s13.1, s16)) fun j311 => lp (c304_285 (runX d) (some 160) j311 s13) 4294967296 ((0 : Int32), M15)) else ( some (.int ((-2 : Int32)), s13.2))) else ( ptZ (13, 157) s13.2 (some 160) 84 ((0 : Int32)) fun M23 => some (.int ((-4 : Int32)), M23))) fun j254 => lp (c304_154 (runX d) (some 160) (iI p) (iI c) j254) 4294967296 (iI po, s12, s11.2)) fun j152 => if s11.1 = 0 then ( j152 ((1 : Int32))) else ( j152 ((0 : Int32)))
/-- the class behind the first run: what is asked of the CASE alone is over -/
def bK3 (dl x : Nat) (po : Int) : Int32 × Mem → XA := jv fun (s22 : Int32 × Mem) => gtP (12, 19) s22.2 (some 64) 2 fun x23 => vC (4, 22) s22.2 x23 <| cI (runX dl 22 [va_rf x23] s22.2) fun x25 M24 => if x25 = 0 then ( if s22.1 = 0 then ( some (.int ((-2 : Int32)), M24)) else ( jn (fun (s26 : Int32 × Mem) => gtP (12, 19) s26.2 (some 64) 2 fun x27 => vC (4, 22) s26.2 x27 <| cI (runX dl 22 [va_rf x27] s26.2) fun x29 M28 => if x29 = 0 then ( gtP (12, 19) M28 (some 64) 14 fun x30 => gtP (12, 19) M28 (some 64) 15 fun x31 => acI M28 x30 ((0 : Int32)) x31 ((0 : Int32)) s26.1 fun M32 => ptI (12, 19) M32 (some 64) 16 s26.1 fun M33 => some (.int s26.1, M33)) else ( some (.int ((-4 : Int32)), M28))) fun j299 => lp (c162_170 (runX dl) (some 64) j299 (some x)) 4294967296 (iI po, (1 : Int32), (0 : Int32), M24))) else ( some (.int ((-4 : Int32)), M24))
/-- the class behind the first run -/
def bK1 (dl x : Nat) (cc : Option Nat) (po : Int) (M17 : Mem) : XA := gtP (12, 19) M17 (some 64) 2 fun x18 => gtP (4, 22) M17 x18 0 fun x19 => gtI (5, 5) M17 x19 0 fun x20 => jn (fun (s21 : Int32) => jn (fun (s22 : Int32 × Mem) => gtP (12, 19) s22.2 (some 64) 2 fun x23 => vC (4, 22) s22.2 x23 <| cI (runX dl 22 [va_rf x23] s22.2) fun x25 M24 => if x25 = 0 then ( if s22.1 = 0 then ( some (.int ((-2 : Int32)), M24)) else ( jn (fun (s26 : Int32 × Mem) => gtP (12, 19) s26.2 (some 64) 2 fun x27 => vC (4, 22) s26.2 x27 <| cI (runX dl 22 [va_rf x27] s26.2) fun x29 M28 => if x29 = 0 then ( gtP (12, 19) M28 (some 64) 14 fun x30 => gtP (12, 19) M28 (some 64) 15 fun x31 => acI M28 x30 ((0 : Int32)) x31 ((0 : Int32)) s26.1 fun M32 => ptI (12, 19) M32 (some 64) 16 s26.1 fun M33 => some (.int s26.1, M33)) else ( some (.int ((-4 : Int32)), M28))) fun j299 => lp (c162_170 (runX dl) (some 64) j299 (some x)) 4294967296 (iI po, (1 : Int32), (0 : Int32), M24))) else ( some (.int ((-4 : Int32)), M24))) fun j141 => jn (fun (s55 : Mem) => j141 ((0 : Int32), s55)) fun j140 => if s21 = 0 then ( j140 M17) else ( gtP (12, 19) M17 (some 64) 2 fun x56 => vC (4, 22) M17 x56 <| cI (runX dl 22 [va_rf x56] M17) fun x58 M57 => if x58 = 0 then ( vC (12, 19) M57 (some 64) <| cI (runX dl 363 [va_rf (some 64), va_rf cc] M57) fun x60 M59 => if x60 = 0 then ( j140 M59) else ( j141 ((1 : Int32), M59))) else ( j140 M57))) fun j110 => if x20 = ((1 : Int32)) then ( j110 ((0 : Int32))) else ( j110 ((1 : Int32)))
section S9dd
variable {d dl : Nat} {o : HO} {q : QN} {s s' u hs : ZS} {M M' Mc Mr Mc' Mr' Mh Rh : Mem} {LL a j N x : Nat} {xs : Nat → Int32} {c p i n st b nc sl al wo wr wi n0 tm k po : Int} {w sd v1 v2 v3 ch v rc : Int32} {ss Od : Int → Int}
/-- the CASE alone: a method of its own -/
theorem zc363 {e : Nat} {cc : Option Nat} {Mg M2 : Mem} (he : dl = e + 1) (hC : CT M) (x1 : runX e 23 [va_rf (some 88)] M = some (.null, Mg)) (hG : CT Mg) (x3 : runX e 25 [va_rf (some 88), va_rf cc] Mg = some (.null, M2)) (h2 : CT M2) : runX dl 363 [va_rf (some 64), va_rf cc] M = some (.int (if M2.1 89 0 = (1 : Int32) then 1 else 0), M2) := by
  subst he
  rw [r363]; unfold b363; rw [aR_e, aR_e, aZ_e]; unfold c363
  rw [gtP_q (ck_64 hC) (cf_64_2 hC), vC_e (ck_88 hC), cV_e x1, gtP_q (ck_64 hG) (cf_64_2 hG), vC_e (ck_88 hG), cV_e x3, gtP_q (ck_64 h2) (cf_64_2 h2), gtP_q (ck_88 h2) (cf_88_0 h2), gtI_q (ck_89 h2) rfl, jn_v]
  by_cases y : M2.1 89 0 = (1 : Int32)
  · rw [if_pos y, if_pos y, jv_e, rtZ_e (Or.inr rfl)]
  · rw [if_neg y, if_neg y, jv_e, rtZ_e (Or.inl rfl)]
theorem bK3_s (hdl : 1 ≤ dl) (hC : CT M) (h10 : M.1 88 10 = iI (-1)) : bK3 dl x po (v, M) = some (.int (-4), M) := by
  have cs := zc22 (d := dl) hdl hC h10 (by decide)
  rw [if_pos (by decide)] at cs
  unfold bK3
  rw [jv_e]
  dsimp only
  rw [gtP_q (ck_64 hC) (cf_64_2 hC), vC_e (ck_88 hC), cI_e cs, if_neg (show ¬ iI 1 = 0 by decide)]
theorem bK3_0 (hC : CT M) (cs : runX dl 22 [va_rf (some 88)] M = some (.int (iI 0), M)) : bK3 dl x po (0, M) = some (.int (-2), M) := by
  unfold bK3
  rw [jv_e]
  dsimp only
  rw [gtP_q (ck_64 hC) (cf_64_2 hC), vC_e (ck_88 hC), cI_e cs, if_pos (show iI 0 = 0 from rfl), if_pos rfl]
theorem bK3_1 (hC : CT M) (cs : runX dl 22 [va_rf (some 88)] M = some (.int (iI 0), M)) : bK3 dl x po (1, M) = lp (c162_170 (runX dl) (some 64) (bJc dl) (some x)) 4294967296 (iI po, (1 : Int32), (0 : Int32), M) := by
  unfold bK3
  rw [jv_e]
  dsimp only
  rw [gtP_q (ck_64 hC) (cf_64_2 hC), vC_e (ck_88 hC), cI_e cs, if_pos (show iI 0 = 0 from rfl), if_neg (show ¬ (1 : Int32) = 0 by decide), jn_v]
  rfl
theorem bK1_p {cc : Option Nat} (hC : CT M) (y : M.1 89 0 = (1 : Int32)) : bK1 dl x cc po M = bK3 dl x po (0, M) := by
  unfold bK1
  rw [gtP_q (ck_64 hC) (cf_64_2 hC), gtP_q (ck_88 hC) (cf_88_0 hC), gtI_q (ck_89 hC) y, jn_v, if_pos rfl, jv_e, jn_v, jn_v, if_pos rfl, jv_e]
  rfl
theorem bK1_s {cc : Option Nat} (hdl : 1 ≤ dl) (hC : CT M) (h10 : M.1 88 10 = iI (-1)) : bK1 dl x cc po M = some (.int (-4), M) := by
  have cs := zc22 (d := dl) hdl hC h10 (by decide)
  rw [if_pos (by decide)] at cs
  by_cases y : M.1 89 0 = (1 : Int32)
  · rw [bK1_p hC y, bK3_s hdl hC h10]
  · rw [← bK3_s (x := x) (po := po) (v := 0) hdl hC h10]
    unfold bK1
    rw [gtP_q (ck_64 hC) (cf_64_2 hC), gtP_q (ck_88 hC) (cf_88_0 hC), gtI_q (ck_89 hC) rfl, jn_v, if_neg y, jv_e, jn_v, jn_v, if_neg (show ¬ (1 : Int32) = 0 by decide), gtP_q (ck_64 hC) (cf_64_2 hC), vC_e (ck_88 hC), cI_e cs, if_neg (show ¬ iI 1 = 0 by decide), jv_e]
    rfl
theorem bK1_n {cc : Option Nat} {M2 : Mem} (hC : CT M) (y : ¬ M.1 89 0 = (1 : Int32)) (cs : runX dl 22 [va_rf (some 88)] M = some (.int (iI 0), M)) (h : runX dl 363 [va_rf (some 64), va_rf cc] M = some (.int v, M2)) (hv : v = 0 ∨ v = 1) : bK1 dl x cc po M = bK3 dl x po (v, M2) := by
  unfold bK1
  rw [gtP_q (ck_64 hC) (cf_64_2 hC), gtP_q (ck_88 hC) (cf_88_0 hC), gtI_q (ck_89 hC) rfl, jn_v, if_neg y, jv_e, jn_v, jn_v, if_neg (show ¬ (1 : Int32) = 0 by decide), gtP_q (ck_64 hC) (cf_64_2 hC), vC_e (ck_88 hC), cI_e cs, if_pos (show iI 0 = 0 from rfl), vC_e (ck_64 hC), cI_e h]
  rcases hv with z | z
  · rw [if_pos z, jv_e, z]
    rfl
  · rw [if_neg (show ¬ v = 0 by rw [z]; decide), z]
    rfl
theorem bJ1_1 (hR : RT M) (h84 : M.1 160 84 = iI 0) : bJ1 d p c po (1, M) = some (.int (-2), M) := by
  unfold bJ1
  rw [jv_e]
  dsimp only
  rw [jn_v, if_neg (show ¬ (1 : Int32) = 0 by decide), jv_e, jn_v, lp_e]
  unfold c304_154
  dsimp only
  rw [if_pos rfl, jv_e]
  dsimp only
  rw [gtI_q (rk_160 hR) h84, if_pos (show iI 0 = 0 from rfl), if_neg (show ¬ (1 : Int32) = 0 by decide)]
theorem bJ1_0 : bJ1 d p c po (0, M) = lp (c304_154 (runX d) (some 160) (iI p) (iI c) (bJr d 0)) 4294967296 (iI po, 1, M) := by
  unfold bJ1
  rw [jv_e]
  dsimp only
  rw [jn_v, if_pos rfl, jv_e, jn_v]
  rfl
theorem bJr_s (hR : RT M) (h84 : M.1 160 84 = iI 1) : bJr d rc (v, M) = some (.int (-4), sI M 160 84 0) := by
  unfold bJr
  rw [jv_e]
  dsimp only
  rw [gtI_q (rk_160 hR) h84, if_neg (show ¬ iI 1 = 0 by decide), ptZ_e (rk_160 hR) (Or.inl rfl)]
theorem bJ1_s (hR : RT M) (h84 : M.1 160 84 = iI 1) : bJ1 d p c po (0, M) = some (.int (-4), sI M 160 84 0) := by
  rw [bJ1_0, show (4294967296 : Nat) = 4294967295 + 1 from rfl, c304_154s hR h84, bJr_s hR h84]
theorem bJc_s (hdl : 1 ≤ dl) (hC : CT M) (h10 : M.1 88 10 = iI (-1)) : bJc dl (v, M) = some (.int (-4), M) := by
  have cs := zc22 (d := dl) hdl hC h10 (by decide)
  rw [if_pos (by decide)] at cs
  unfold bJc
  rw [jv_e]
  dsimp only
  rw [gtP_q (ck_64 hC) (cf_64_2 hC), vC_e (ck_88 hC), cI_e cs, if_neg (show ¬ iI 1 = 0 by decide)]
theorem Zblc_ho (hP : hoP o) (hp : 0 ≤ p ∧ p < oN o) (h : Zblc o a j) : hoZ o a j := by
  rcases h with (h | h) | h | h
  · rcases h with h | h
    · exact ZM_ho hP hp (ZM_0 (n := p) (k := 0) h)
    · exact bs_ho hP (Or.inl rfl) h
  · exact ho_148 hP (Or.inl h)
  · exact ho_148 hP (Or.inr (Or.inl h))
  · exact ho_148 hP (Or.inr (Or.inr h))
theorem Zblr_ho (h : Zblr a j) : hrZ a j := by
  rcases h with (h | h) | h | h
  · exact ZR_hr (p := 0) (k := 0) h
  · exact hr_256 (Or.inr (Or.inl h))
  · exact hr_256 (Or.inl h)
  · exact hr_256 (Or.inr (Or.inr h))
/-- all is found: what both keep -/
theorem bJ_ki (hdl : 1 ≤ dl) (hP : hoP o) (hp : 0 ≤ p ∧ p < oN o) (h : blS LL xs o p sl nc c n b ss Mh Rh) : ∃ Mc' Mr', bJc dl (iI n, Mh) = some (.int (iI n), Mc') ∧ bJr d 0 (iI n, Rh) = some (.int (iI n), Mr') ∧ Fz (Zblc o) Mh Mc' ∧ Fz Zblr Rh Mr' ∧ blB Mc' Mr' ∧ (∃ hs, KI LL xs o p sl 0 b hs Mc' Mr') ∧ Mr'.1 160 90 = iI (-1) := by
  obtain ⟨hs, k1, ⟨k2, k2'⟩, ⟨k3, k4, k5, k6⟩⟩ := h
  have hC := k1.1.1.1.1
  have hR := k1.1.2.1.1
  have bb := k1.2.2.2.2.1.2.2.2
  have z22 := zc22 (d := dl) hdl hC k1.2.2.2.2.1.1 (by omega)
  rw [if_neg (by omega)] at z22
  obtain ⟨M40, hM40⟩ : ∃ X, X = cpI Mh 148 0 149 0 n.toNat := ⟨_, rfl⟩
  have o40 : ∀ a j, a ≠ 149 → M40.1 a j = Mh.1 a j := fun a j z => by rw [hM40]; exact if_neg z
  have C40 : CT M40 := hC.keep (by rw [hM40]; rfl)
  obtain ⟨M41, hM41⟩ : ∃ X, X = sI M40 64 16 (iI n) := ⟨_, rfl⟩
  have f41 : Fz (fun a j => a = 149 ∨ (a = 64 ∧ j = 16)) Mh M41 := by
    have : Fz (fun a j => a = 149 ∨ (a = 64 ∧ j = 16)) Mh M40 := ⟨by rw [hM40]; rfl, fun a j z => o40 a j fun y => z (Or.inl y)⟩
    rw [hM41]
    exact this.si (Or.inr ⟨rfl, rfl⟩)
  obtain ⟨R15, hR15⟩ : ∃ X, X = sI Rh 160 151 (iI n) := ⟨_, rfl⟩
  have kR15 : RT R15 := hR.keep (by rw [hR15]; rfl)
  obtain ⟨R9, a1, a2, a3⟩ := r304_285e (d := d) (M := R15) (n := n) (s13 := (iI n, Rh)) kR15 (by omega) rfl
  have f15 : Fz (fun a j => a = 255 ∨ (a = 160 ∧ j = 151)) Rh R15 := by rw [hR15]; exact Fz.r.si (Or.inr ⟨rfl, rfl⟩)
  have f9 : Fz (fun a j => a = 255 ∨ (a = 160 ∧ j = 151)) Rh R9 := f15.tr (a2.m fun a j z => Or.inl z)
  refine ⟨M41, R9, ?_, ?_, f41.m fun a j z => Or.inr z, f9.m fun a j z => Or.inr z, ⟨n, by omega, ⟨?_, ?_⟩, fun j q1 q2 => ?_⟩, ⟨hs, k1.sub hP f41 (fun a j z => ⟨Zblc_ho hP hp (Or.inr z), by omega, by omega⟩) f9 (fun a j z => ⟨Zblr_ho (Or.inr z), by omega, by omega⟩)⟩, (f9.2 _ _ (by omega)).trans k2'⟩
  · unfold bJc
    rw [jv_e]
    dsimp only
    rw [gtP_q (ck_64 hC) (cf_64_2 hC), vC_e (ck_88 hC), cI_e z22, if_pos (show iI 0 = 0 from rfl), gtP_q (ck_64 hC) (cf_64_14 hC), gtP_q (ck_64 hC) (cf_64_15 hC), acI_e (N := 16) (m := n.toNat) (N2 := 16) (show (0 : Int32) = iI 0 from rfl) (show (0 : Int32) = iI 0 from rfl) (congrArg iI (by omega)) (ck_148 hC) (ck_149 hC) (by omega), ← hM40, ptI_e (ck_64 C40), ← hM41]
  · unfold bJr
    rw [jv_e]
    dsimp only
    rw [gtI_q (rk_160 hR) k1.2.2.2.2.1.2.2.1, if_pos (show iI 0 = 0 from rfl), if_pos rfl, ptI_e (rk_160 hR), ← hR15, jn_v, a1, jv_e]
  · rw [hM41]; exact sI_eq
  · exact (a2.2 _ _ (by omega)).trans (by rw [hR15]; exact sI_eq)
  · have e1 : M41.1 149 j.toNat = Mh.1 148 j.toNat := by
      rw [hM41]
      refine (sI_ne (by decide)).trans ?_
      rw [hM40]
      exact cpI_new _ (by omega)
    have e2 : R15.1 256 j.toNat = Rh.1 256 j.toNat := by rw [hR15]; exact sI_ne (by decide)
    rw [e1, (k5 j q1 q2).1, a3 j q1 q2, e2, (k5 j q1 q2).2]
theorem blB.fz (h : blB Mc Mr) (f : ∀ a j : Nat, a = 149 ∨ (a = 64 ∧ j = 16) → Mc'.1 a j = Mc.1 a j) (g : ∀ a j : Nat, (a = 160 ∧ j = 151) ∨ a = 255 → Mr'.1 a j = Mr.1 a j) : blB Mc' Mr' := by
  obtain ⟨n, hn, ⟨h1, h2⟩, h3⟩ := h
  exact ⟨n, hn, ⟨(f _ _ (by omega)).trans h1, (g _ _ (by omega)).trans h2⟩, fun j a b => (f _ _ (by omega)).trans ((h3 j a b).trans (g _ _ (by omega)).symm)⟩
end S9dd
