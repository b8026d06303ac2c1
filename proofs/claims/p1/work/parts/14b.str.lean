/-! what stood before the law stays -/
def OldOK (L : Nat) (xs : Nat → Int32) (M : Mem) : Prop := (∀ a, a < 64 → M.2.2.2[a]? = some (xot a, xlen L a)) ∧ ∀ a j, a < 64 → M.1 a j = (Minit L xs).1 a j
theorem OldOK.init (L : Nat) (xs : Nat → Int32) : OldOK L xs (Minit L xs) := ⟨fun _ h => Minit_k h, fun _ _ _ => rfl⟩
/-- the bytes of a text constant -/
def sby (i : Nat) : List Int32 := (xstr.getD i xstd).2.2.2
theorem old_str {L : Nat} {xs : Nat → Int32} {M : Mem} (h : OldOK L xs M) {i : Nat} (hi : i < 30) : M.2.2.2[33 + i]? = some (201, (sby i).length) := by
  rw [h.1 (33 + i) (by omega)]
  congr 2
  · unfold xot
    rw [if_neg (by omega), if_neg (by omega), if_neg (by omega), if_pos (by omega)]
  · unfold xlen sby
    rw [if_neg (by omega), if_neg (by omega), if_pos (by omega), show 33 + i - 33 = i by omega]
theorem old_byte {L : Nat} {xs : Nat → Int32} {M : Mem} (h : OldOK L xs M) {i : Nat} (hi : i < 30) (j : Nat) : M.1 (33 + i) j = (sby i).getD j 0 := by
  rw [h.2 (33 + i) j (by omega)]
  show (if 33 + i = 0 then _ else _) = _
  rw [if_neg (by omega), if_neg (by omega), if_pos (by omega), show 33 + i - 33 = i by omega]
  rfl
theorem sby_ok : ∀ i, i < 30 → ((sby i).length < 200 ∧ ∀ c ∈ sby i, c.toInt8.toInt32 = c ∧ c &&& 255 = c ∧ (c.toUInt32 % 65536).toInt32 = c) := by decide +kernel
theorem sr0 (x : Int32) : x >>> ((0 : Int32) &&& 31) = x := by
  rw [show (0 : Int32) &&& 31 = 0 by decide +kernel]
  exact Int32.shiftRight_zero
theorem e324 {d a : Nat} {M : Mem} (h : 3 ≤ a ∧ a < 33) : runX (d + 1) 324 [va_rf (some a)] M = some (.int 0, M) := by
  rw [r324]
  unfold b324
  rw [aR_e, aZ_e]
  unfold c324
  rw [jn_e, if_neg (by decide), gsC_e h]
  exact rtB_e (by decide)
theorem e325 {d a : Nat} {M : Mem} (h : 3 ≤ a ∧ a < 33) : runX (d + 1) 325 [va_rf (some a)] M = some (.int 1, M) := by
  rw [r325]
  unfold b325
  rw [aR_e, aZ_e]
  unfold c325
  rw [jn_e, jn_e, if_neg (by decide), gsC_e h, if_pos rfl]
  exact rtZ_e (Or.inr rfl)
theorem e320 {L : Nat} {xs : Nat → Int32} {M : Mem} (h : OldOK L xs M) {d i : Nat} (hi : i < 30) : runX (d + 2) 320 [va_rf (some (3 + i))] M = some (.int (iI (sby i).length), M) := by
  rw [r320]
  unfold b320
  rw [aR_e, aZ_e]
  unfold c320
  rw [gsV_e (by omega), show 3 + i + 30 = 33 + i by omega, aln_e (old_str h hi) (Or.inr ⟨by decide, by decide⟩), vS_e (by omega), cI_e (e324 (by omega)), sr0]
theorem e328 {L : Nat} {xs : Nat → Int32} {M : Mem} (h : OldOK L xs M) {d i k : Nat} (hi : i < 30) (hk : k < (sby i).length) : runX (d + 2) 328 [va_rf (some (33 + i)), .int (iI k)] M = some (.int ((sby i).getD k 0), M) := by
  have hl := (sby_ok i hi).1
  have hc := (sby_ok i hi).2 ((sby i).getD k 0) (by rw [List.getD_eq_getElem?_getD, List.getElem?_eq_getElem hk]; exact List.getElem_mem hk)
  rw [r328]
  unfold b328
  rw [aR_e, aI_e, aZ_e]
  unfold c328
  have e326 : runX (d + 1) 326 [.int (iI k), .int (iI (sby i).length)] M = some (.null, M) := by
    rw [r326]
    unfold b326
    rw [aI_e, aI_e, aZ_e]
    unfold c326
    exact pci_e (by omega) (by omega) (by omega)
  rw [aln_e (old_str h hi) (Or.inr ⟨by decide, by decide⟩), cV_e e326, alI_o (u := 101) (old_str h hi) (by omega) (by omega) (by omega), show (k : Int).toNat = k by omega, old_byte h hi, hc.2.1, hc.2.2, rtC_e hc.2.2]
theorem e321 {L : Nat} {xs : Nat → Int32} {M : Mem} (h : OldOK L xs M) {d i k : Nat} (hi : i < 30) (hk : k < (sby i).length) : runX (d + 3) 321 [va_rf (some (3 + i)), .int (iI k)] M = some (.int ((sby i).getD k 0), M) := by
  have hc := (sby_ok i hi).2 ((sby i).getD k 0) (by rw [List.getD_eq_getElem?_getD, List.getElem?_eq_getElem hk]; exact List.getElem_mem hk)
  rw [r321]
  unfold b321
  rw [aR_e, aI_e, aZ_e]
  unfold c321
  rw [vS_e (by omega), cI_e (e325 (by omega)), if_neg (by decide), gsV_e (by omega), show 3 + i + 30 = 33 + i by omega, cI_e (e328 h hi hk), rtC_e hc.2.2]
/-- a word as a number -/
def pk (l : List Int32) : Int64 := l.foldl (fun v c => (v <<< (Int32.toInt64 (8 : Int32) &&& 63)) ||| c.toInt64) 0
theorem pk_take (l : List Int32) {k : Nat} (hk : k < l.length) : pk (l.take (k + 1)) = (pk (l.take k) <<< (Int32.toInt64 (8 : Int32) &&& 63)) ||| (l.getD k 0).toInt64 := by
  unfold pk
  rw [List.take_succ_eq_append_getElem hk, List.foldl_append, List.getD_eq_getElem?_getD, List.getElem?_eq_getElem hk]
  rfl
theorem e187_4 {L : Nat} {xs : Nat → Int32} {M : Mem} (h : OldOK L xs M) {d i : Nat} (hi : i < 30) : ∀ (m k N : Nat), k + m = (sby i).length → m < N → ∀ J : Int64 × Mem → XA, lp (c187_4 (runX (d + 3)) (some (3 + i)) J) N (pk ((sby i).take k), iI k, M) = J (pk (sby i), M)
  | m, k, 0, _, hN, _ => by omega
  | m, k, N + 1, hm, hN, J => by
    have hl := (sby_ok i hi).1
    rw [lp_e]
    unfold c187_4
    rw [vS_e (by omega), cI_e (e320 h hi)]
    cases m with
    | zero =>
      have hk : (sby i).take k = sby i := List.take_of_length_le (by omega)
      rw [if_pos (by rw [iI_le (by omega) (by omega) (by omega) (by omega)]; omega), hk]
    | succ m =>
      rw [if_neg (by rw [iI_le (by omega) (by omega) (by omega) (by omega)]; omega), vS_e (by omega), cI_e (e321 h hi (by omega)), lt_e, lt_e]
      have ih := e187_4 h (d := d) hi m (k + 1) N (by omega) (by omega) J
      rw [pk_take _ (by omega)] at ih
      rw [iI_1, iI_add]
      exact ih
theorem e187 {L : Nat} {xs : Nat → Int32} {M : Mem} (h : OldOK L xs M) {d i : Nat} (hi : i < 30) : runX (d + 4) 187 [va_rf (some (3 + i))] M = some (.long (pk (sby i)), M) := by
  rw [r187]
  unfold b187
  rw [aR_e, aZ_e]
  unfold c187
  rw [jn_e]
  exact e187_4 h hi (sby i).length 0 4294967296 (by omega) (by have := (sby_ok i hi).1; omega) _
