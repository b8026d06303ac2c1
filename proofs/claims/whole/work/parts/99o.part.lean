/-! the first object's machine: an instruction -/
section S99o
variable {d : Nat} {e s s' u : ZS} {κ : ZK} {M M' M1 M2 : Mem} {a b j N x y T LL : Nat} {xs : Nat → Int32} {v v1 v2 v3 w : Int32} {c t k i n m p o q id fl ar st key par r B h D : Int} {Y : Nat → Int → Int} {DT : Option Nat}
/-- what is asked of an environment once more: what is skipped is a member -/
def zE8 (e : ZS) : Prop := ∀ p, zIn e p → zop e p = 32 → p < 1000 ∧ 0 ≤ znum e p ∧ znum e p < e.1 24 0 0
theorem OldOK.zfo (h : OldOK LL xs M) (f : zFo κ M M') (hk : zK8 κ) : OldOK LL xs M' := ⟨fun a p => by rw [f.kd]; exact h.1 a p, fun a j p => by
  rw [← h.2 a j p]
  exact f.f hk (inW_n (fun z y => by
    have g : ∀ z, z ∈ W_x → 64 ≤ z.1 := by decide
    have := g z y
    omega) j) (by omega)⟩
def fc31 (d : Nat) (a2 : Option Nat) (M0 : Mem) : Int32 × Int32 → XA := fun (s7 : Int32 × Int32) =>
 jn (fun (s8 : Mem) =>
 some (.null, s8)) fun j228 =>
 jn (fun (s9 : Unit) =>
 jn (fun (s10 : Unit) =>
 jn (fun (s11 : Unit) =>
 vC (4, 22) M0 (some 88) <|
 cV (runX d 36 [va_rf (some 88), .int s7.1, .int s7.2, va_rf a2] M0) fun M12 =>
 j228 M12) fun j121 =>
 jn (fun (s13 : Unit) =>
 if s7.1 = ((31 : Int32)) then (
 j121 ()) else (
 jn (fun (s14 : Unit) =>
 jn (fun (s15 : Int32 × Mem) =>
 vC (4, 22) s15.2 (some 88) <|
 cV (runX d 40 [va_rf (some 88), .int s15.1, va_rf a2] s15.2) fun M16 =>
 j228 M16) fun j163 =>
 if s7.1 = ((34 : Int32)) then (
 j163 ((0 : Int32), M0)) else (
 vC (4, 22) M0 (some 88) <|
 cI (runX d 33 [va_rf (some 88)] M0) fun x18 M17 =>
 j163 (x18, M17))) fun j147 =>
 if s7.1 = ((8 : Int32)) then (
 j147 ()) else (
 if s7.1 = ((34 : Int32)) then (
 j147 ()) else (
 if s7.1 = ((23 : Int32)) then (
 vC (4, 22) M0 (some 88) <|
 cV (runX d 39 [va_rf (some 88), va_rf a2] M0) fun M19 =>
 j228 M19) else (
 if s7.1 = ((29 : Int32)) then (
 vC (4, 22) M0 (some 88) <|
 cI (runX d 33 [va_rf (some 88)] M0) fun x21 M20 =>
 vC (4, 22) M20 (some 88) <|
 cV (runX d 41 [va_rf (some 88), .int x21, .int ((1 : Int32))] M20) fun M22 =>
 j228 M22) else (
 if s7.1 = ((28 : Int32)) then (
 vC (4, 22) M0 (some 88) <|
 cV (runX d 35 [va_rf (some 88), va_rf a2] M0) fun M23 =>
 j228 M23) else (
 vC (4, 22) M0 (some 88) <|
 cV (runX d 34 [va_rf (some 88), .int s7.1, .int s7.2, va_rf a2] M0) fun M24 =>
 j228 M24))))))) fun j114 =>
 if s7.1 < ((24 : Int32)) then (
 j114 ()) else (
 if s7.1 ≤ ((26 : Int32)) then (
 j121 ()) else (
 j114 ()))) fun j100 =>
 if s7.1 < ((10 : Int32)) then (
 j100 ()) else (
 if ((20 : Int32)) < s7.1 then (
 j100 ()) else (
 vC (4, 22) M0 (some 88) <|
 cV (runX d 37 [va_rf (some 88), .int s7.1, va_rf a2] M0) fun M25 =>
 j228 M25))) fun j76 =>
 if s7.1 < ((3 : Int32)) then (
 j76 ()) else (
 if ((7 : Int32)) < s7.1 then (
 j76 ()) else (
 vC (4, 22) M0 (some 88) <|
 cV (runX d 42 [va_rf (some 88), .int s7.1, .int s7.2, va_rf a2] M0) fun M26 =>
 j228 M26))
/-- the ways through it -/
theorem fc31_use (h : M.2.2.2[88]? = some (4, 22)) (ho : 3 ≤ o ∧ o ≤ 7) : fc31 d (some a) M (iI o, v) = cV (runX d 42 [va_rf (some 88), .int (iI o), .int v, va_rf (some a)] M) fun M26 => some (.null, M26) := by
  unfold fc31
  dsimp only
  rw [jn_v, jn_v, if_neg (show ¬ iI o < 3 from lsI_n (y := 3) rfl rfl (by omega)), if_neg (show ¬ (7 : Int32) < iI o from lsI_n (x := 7) rfl rfl (by omega)), vC_e h]
  rfl
theorem fc31_two (h : M.2.2.2[88]? = some (4, 22)) (ho : 10 ≤ o ∧ o ≤ 20) : fc31 d (some a) M (iI o, v) = cV (runX d 37 [va_rf (some 88), .int (iI o), va_rf (some a)] M) fun M26 => some (.null, M26) := by
  unfold fc31
  dsimp only
  rw [jn_v, jn_v, if_neg (show ¬ iI o < 3 from lsI_n (y := 3) rfl rfl (by omega)), if_pos (show (7 : Int32) < iI o from lsI_p (x := 7) rfl rfl (by omega)), jv_e, jn_v, if_neg (show ¬ iI o < 10 from lsI_n (y := 10) rfl rfl (by omega)), if_neg (show ¬ (20 : Int32) < iI o from lsI_n (x := 20) rfl rfl (by omega)), vC_e h]
  rfl
theorem fc31_j (h : M.2.2.2[88]? = some (4, 22)) (ho : o = 24 ∨ o = 25 ∨ o = 26 ∨ o = 31) : fc31 d (some a) M (iI o, v) = cV (runX d 36 [va_rf (some 88), .int (iI o), .int v, va_rf (some a)] M) fun M26 => some (.null, M26) := by
  unfold fc31
  dsimp only
  rw [jn_v, jn_v, if_neg (show ¬ iI o < 3 from lsI_n (y := 3) rfl rfl (by omega)), if_pos (show (7 : Int32) < iI o from lsI_p (x := 7) rfl rfl (by omega)), jv_e, jn_v, if_neg (show ¬ iI o < 10 from lsI_n (y := 10) rfl rfl (by omega)), if_pos (show (20 : Int32) < iI o from lsI_p (x := 20) rfl rfl (by omega)), jv_e, jn_v, jn_v, if_neg (show ¬ iI o < 24 from lsI_n (y := 24) rfl rfl (by omega))]
  by_cases y : o = 31
  · rw [if_neg (show ¬ iI o ≤ 26 from leI_n (y := 26) rfl rfl (by omega)), jv_e, if_pos (show iI o = 31 from eqI_p (y := 31) rfl rfl y), jv_e, vC_e h]
    rfl
  · rw [if_pos (show iI o ≤ 26 from leI_p (y := 26) rfl rfl (by omega)), jv_e, vC_e h]
    rfl
theorem fc31_o (h : M.2.2.2[88]? = some (4, 22)) (ho : (0 ≤ o ∧ o < 3) ∨ o = 8 ∨ o = 9 ∨ (21 ≤ o ∧ o ≤ 23) ∨ (27 ≤ o ∧ o ≤ 34 ∧ o ≠ 31)) : fc31 d (some a) M (iI o, v) = if o = 8 ∨ o = 34 then (if o = 34 then (cV (runX d 40 [va_rf (some 88), .int 0, va_rf (some a)] M) fun M16 => some (.null, M16)) else (cI (runX d 33 [va_rf (some 88)] M) fun x18 M17 => vC (4, 22) M17 (some 88) <| cV (runX d 40 [va_rf (some 88), .int x18, va_rf (some a)] M17) fun M16 => some (.null, M16))) else if o = 23 then (cV (runX d 39 [va_rf (some 88), va_rf (some a)] M) fun M19 => some (.null, M19)) else if o = 29 then (cI (runX d 33 [va_rf (some 88)] M) fun x21 M20 => vC (4, 22) M20 (some 88) <| cV (runX d 41 [va_rf (some 88), .int x21, .int ((1 : Int32))] M20) fun M22 => some (.null, M22)) else if o = 28 then (cV (runX d 35 [va_rf (some 88), va_rf (some a)] M) fun M23 => some (.null, M23)) else (cV (runX d 34 [va_rf (some 88), .int (iI o), .int v, va_rf (some a)] M) fun M24 => some (.null, M24)) := by
  unfold fc31
  dsimp only
  rw [jn_v, jn_v]
  have t1 : ∀ j76 : Unit → XA, ∀ X, (if iI o < 3 then j76 () else if (7 : Int32) < iI o then j76 () else X) = j76 () := fun j76 X => by
    by_cases y : o < 3
    · rw [if_pos (show iI o < 3 from lsI_p (y := 3) rfl rfl (by omega))]
    · rw [if_neg (show ¬ iI o < 3 from lsI_n (y := 3) rfl rfl (by omega)), if_pos (show (7 : Int32) < iI o from lsI_p (x := 7) rfl rfl (by omega))]
  rw [t1, jv_e, jn_v]
  have t2 : ∀ j76 : Unit → XA, ∀ X, (if iI o < 10 then j76 () else if (20 : Int32) < iI o then j76 () else X) = j76 () := fun j76 X => by
    by_cases y : o < 10
    · rw [if_pos (show iI o < 10 from lsI_p (y := 10) rfl rfl (by omega))]
    · rw [if_neg (show ¬ iI o < 10 from lsI_n (y := 10) rfl rfl (by omega)), if_pos (show (20 : Int32) < iI o from lsI_p (x := 20) rfl rfl (by omega))]
  rw [t2, jv_e, jn_v, jn_v]
  have t3 : ∀ j76 j77 : Unit → XA, (if iI o < 24 then j76 () else if iI o ≤ 26 then j77 () else j76 ()) = j76 () := fun j76 j77 => by
    by_cases y : o < 24
    · rw [if_pos (show iI o < 24 from lsI_p (y := 24) rfl rfl (by omega))]
    · rw [if_neg (show ¬ iI o < 24 from lsI_n (y := 24) rfl rfl (by omega)), if_neg (show ¬ iI o ≤ 26 from leI_n (y := 26) rfl rfl (by omega))]
  rw [t3, jv_e, if_neg (show ¬ iI o = 31 from eqI_n (y := 31) rfl rfl (by omega)), jn_v, jn_v]
  by_cases c8 : o = 8
  · rw [if_pos (show iI o = 8 from eqI_p (y := 8) rfl rfl c8), if_pos (Or.inl c8), if_neg (show ¬ o = 34 by omega), jv_e, if_neg (show ¬ iI o = 34 from eqI_n (y := 34) rfl rfl (by omega)), vC_e h]
    rfl
  rw [if_neg (show ¬ iI o = 8 from eqI_n (y := 8) rfl rfl (by omega))]
  by_cases c34 : o = 34
  · rw [if_pos (show iI o = 34 from eqI_p (y := 34) rfl rfl c34), if_pos (show o = 8 ∨ o = 34 from Or.inr c34), if_pos c34, jv_e, if_pos (show iI o = 34 from eqI_p (y := 34) rfl rfl c34), jv_e]
    exact vC_e h
  rw [if_neg (show ¬ iI o = 34 from eqI_n (y := 34) rfl rfl (by omega)), if_neg (show ¬ (o = 8 ∨ o = 34) by omega)]
  by_cases c23 : o = 23
  · rw [if_pos (show iI o = 23 from eqI_p (y := 23) rfl rfl c23), if_pos c23, vC_e h]
    rfl
  rw [if_neg (show ¬ iI o = 23 from eqI_n (y := 23) rfl rfl (by omega)), if_neg c23]
  by_cases c29 : o = 29
  · rw [if_pos (show iI o = 29 from eqI_p (y := 29) rfl rfl c29), if_pos c29, vC_e h]
    rfl
  rw [if_neg (show ¬ iI o = 29 from eqI_n (y := 29) rfl rfl (by omega)), if_neg c29]
  by_cases c28 : o = 28
  · rw [if_pos (show iI o = 28 from eqI_p (y := 28) rfl rfl c28), if_pos c28, vC_e h]
    rfl
  rw [if_neg (show ¬ iI o = 28 from eqI_n (y := 28) rfl rfl (by omega)), if_neg c28, vC_e h]
  rfl
end S99o
