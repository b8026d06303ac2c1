/-! runs of kill(), both -/
/-- bits of some, together -/
def por (f : Int → Int32) : Nat → Int32
  | 0 => 0
  | k + 1 => por f k ||| f k
def odO (Od : Int → Int) (n : Nat) : Prop := ∀ f : Int → Int32, por (fun i => f (Od i)) n = por f n
/-- the bit of a CASE whose VERDICT or FAILURE is another one -/
def dmk (T U : Nat → Int → Int32) (c : Int) : Int32 := if T 0 c = U 0 c ∧ T 1 c = U 1 c then 0 else (1 : Int32) <<< (iI c &&& 31)
section S9cl
variable {d dl : Nat} {o : HO} {v : VR} {q : QN} {s s' u hs : ZS} {M M' M1 M2 Mc Mr Mc' Mr' : Mem} {LL a j x N bs n : Nat} {xs : Nat → Int32} {ow : Nat → Int} {c p i nc k t b sl al : Int} {w v1 v2 : Int32} {Z Z' : Nat → Nat → Prop} {Od : Int → Int} {T U : Nat → Int → Int32} {f g : Int → Int32}
theorem por_c (h : ∀ k : Int, 0 ≤ k → k < n → f k = g k) : por f n = por g n := by
  induction n with
  | zero => rfl
  | succ n ih =>
    show por f n ||| f n = por g n ||| g n
    rw [ih fun k a b => h k a (by omega), h n (by omega) (by omega)]
theorem por_x (hi : 0 ≤ i ∧ i < n) : por f n = por (fun k => if k = i then 0 else f k) n ||| f i := by
  induction n with
  | zero => omega
  | succ n ih =>
    show por f n ||| f n = (por (fun k => if k = i then 0 else f k) n ||| (if (n : Int) = i then 0 else f n)) ||| f i
    by_cases y : (n : Int) = i
    · rw [if_pos y, por_c (f := fun k => if k = i then 0 else f k) (g := f) fun k a b => if_neg (by omega), y, Int32.or_zero]
    · rw [if_neg y, ih (by omega), Int32.or_assoc, Int32.or_assoc, Int32.or_comm (f i)]
theorem por_s {b : Int} (hi : 0 ≤ i ∧ i < n) (hb : 0 ≤ b ∧ b < n) : por (fun k => f (if k = i then b else if k = b then i else k)) n = por f n := by
  by_cases y : i = b
  · refine por_c fun k _ _ => ?_
    rw [← y]
    by_cases z : k = i
    · rw [if_pos z, z]
    · rw [if_neg z, if_neg z]
  · rw [por_x (f := fun k => f (if k = i then b else if k = b then i else k)) hi, por_x (f := fun k => if k = i then 0 else f (if k = i then b else if k = b then i else k)) hb, por_x (f := f) hi, por_x (f := fun k => if k = i then 0 else f k) hb]
    have nb : ¬ b = i := fun z => y z.symm
    simp only [if_neg nb, if_pos, Int32.or_assoc]
    rw [Int32.or_comm (f i)]
    congr 1
    refine por_c fun k _ _ => ?_
    by_cases z : k = b
    · rw [if_pos z, if_pos z]
    · rw [if_neg z, if_neg z]
      by_cases z2 : k = i
      · rw [if_pos z2, if_pos z2, if_neg z]
      · rw [if_neg z2, if_neg z2, if_neg z2, if_neg z]
theorem odO.id : odO (fun i => i) n := fun f => rfl
theorem odO.sw (h : odO Od n) {b : Int} (hi : 0 ≤ i ∧ i < n) (hb : 0 ≤ b ∧ b < n) : odO (fun k => Od (if k = i then b else if k = b then i else k)) n := fun f => (por_s (f := fun k => f (Od k)) hi hb).trans (h f)
/-- the reference: a turn of the loop of runWith() -/
theorem r282_e {J : Int32 × Mem → XA} (hR : RT M) (hp : 0 ≤ p ∧ p ≤ 7) (h : M.1 176 p.toNat = iI nc) (hl : (nc ≤ i ∨ M.1 160 84 = iI 1) ∧ 0 ≤ i ∧ i ≤ 1000 ∧ 0 ≤ nc ∧ nc ≤ 16) (hN : 0 < N) (hv : v1 = iI p) : lp (c282_16 (runX d) (some 160) v1 v2 J) N (w, iI i, M) = J (w, M) := by
  obtain ⟨N, rfl⟩ : ∃ e, N = e + 1 := ⟨N - 1, by omega⟩
  rw [lp_e]
  unfold c282_16
  dsimp only
  rw [gtP_q (rk_160 hR) (rf_17 hR), alI_q (rk_176 hR) hv (by omega) h]
  by_cases y : nc ≤ i
  · rw [if_pos (leI_p rfl rfl (by omega))]
  · rw [if_neg (leI_n rfl rfl (by omega)), gtI_q (rk_160 hR) (hl.1.resolve_left y), if_neg (show ¬ iI 1 = 0 by decide)]
theorem r282_t {J : Int32 × Mem → XA} (hR : RT M) (hp : 0 ≤ p ∧ p ≤ 7) (h : M.1 176 p.toNat = iI nc) (hi : 0 ≤ i ∧ i < nc ∧ nc ≤ 16) (h84 : M.1 160 84 = iI 0) (ho : M.1 183 (16 * p + i).toNat = iI c) (hc : 0 ≤ c ∧ c < 16) (e : runX d 254 [va_rf (some 160), .int (iI c)] M = some (.null, M1)) (h2 : M1.2 = M.2) (hv : v1 = iI p) (hv2 : v2 = iI al) (hal : -1 ≤ al ∧ al ≤ 1000) : lp (c282_16 (runX d) (some 160) v1 v2 J) (N + 1) (w, iI i, M) = lp (c282_16 (runX d) (some 160) v1 v2 J) N (if al < 0 then w else if M1.1 242 c.toNat = M1.1 160 101 ∧ M1.1 243 c.toNat = M1.1 160 102 then w else w ||| ((1 : Int32) <<< (iI c &&& 31)), iI (i + 1), if al < 0 then sI (sI M1 242 c.toNat (M1.1 160 101)) 243 c.toNat (M1.1 160 102) else M1) := by
  have R1 : RT M1 := hR.keep h2
  have kr := rk_160 hR
  have k1 := rk_160 R1
  subst hv; subst hv2
  have i16 : (16 : Int32) * iI p + iI i = iI (16 * p + i) := adI (mlI li_16 rfl) rfl
  rw [lp_e]
  generalize lp (c282_16 (runX d) (some 160) (iI p) (iI al) J) N = go
  unfold c282_16
  dsimp only
  rw [gtP_q kr (rf_17 hR), alI_q (rk_176 hR) rfl (by omega) h, if_neg (leI_n rfl rfl (by omega)), gtI_q kr h84, if_pos (show iI 0 = 0 from rfl), gtP_q kr (rf_24 hR), alI_q (rk_183 hR) i16 (by omega) ho, vC_e kr, cV_e e, jn_v]
  by_cases y : al < 0
  · rw [if_neg (leI_n li_0 rfl (by omega)), if_pos y, if_pos y]
    rw [gtP_q k1 (rf_127 R1), gtI_e k1, asI_e (rk_242 R1) (by omega) (by omega) (by omega)]
    rw [gtP_q (M := sI M1 242 c.toNat (M1.1 160 101)) k1 (rf_128 R1), gtI_q (M := sI M1 242 c.toNat (M1.1 160 101)) (w := M1.1 160 102) k1 (sI_ne (by decide)), asI_e (M := sI M1 242 c.toNat (M1.1 160 101)) (rk_243 R1) (by omega) (by omega) (by omega), jv_e]
    exact ltI_q (adI rfl li_1)
  · rw [if_pos (leI_p li_0 rfl (by omega)), if_neg y, if_neg y]
    rw [gtP_q k1 (rf_127 R1), alI_q (rk_242 R1) rfl (by omega) rfl, gtI_e k1, jn_v]
    by_cases z : M1.1 242 c.toNat = M1.1 160 101
    · rw [if_pos z, gtP_q k1 (rf_128 R1), alI_q (rk_243 R1) rfl (by omega) rfl, gtI_e k1]
      by_cases z2 : M1.1 243 c.toNat = M1.1 160 102
      · rw [if_pos z2, jv_e, if_pos ⟨z, z2⟩]
        exact ltI_q (adI rfl li_1)
      · rw [if_neg z2, jv_e, lt_e, jv_e, if_neg (fun z3 => z2 z3.2)]
        exact ltI_q (adI rfl li_1)
    · rw [if_neg z, jv_e, lt_e, jv_e, if_neg (fun z3 => z z3.1)]
      exact ltI_q (adI rfl li_1)
end S9cl
