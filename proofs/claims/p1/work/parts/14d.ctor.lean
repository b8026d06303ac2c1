section CT
variable {L : Nat} {xs : Nat → Int32} {l : List Op} {a d : Nat}
theorem i341 {M : Mem} : runX (d + 1) 341 [va_rf (some a)] M = some (.null, M) := by
  rw [r341]; unfold b341; rw [aR_e, aZ_e]; rfl
theorem i342 (h : kA l a = some (0, 3)) : runX (d + 2) 342 [va_rf (some a)] (app (Minit L xs) l) = some (.null, app (Minit L xs) ((1, a, 0, 0) :: l)) := by
  rw [r342]; unfold b342; rw [aR_e, aZ_e]; unfold c342
  rw [vC_l h, cV_e i341, iI_0, ptI_l h]
theorem kl_c (o : Op) : kl (o :: l) = if o.1 = 0 then kl l ++ [(o.2.1, o.2.2.1)] else if o.1 = 4 then kl l ++ (o.2.1, o.2.2.1) :: List.replicate o.2.2.1 (if o.2.1 = 113 then 100 else 104, o.2.2.2.toNat) else kl l := rfl
theorem nl_1 {j : Nat} {z : Int} : nl ((1, a, j, z) :: l) = nl l := rfl
theorem nl_2 {j : Nat} {z : Int} : nl ((2, a, j, z) :: l) = nl l := rfl
theorem nl_3 {j : Nat} {z : Int} : nl ((3, a, j, z) :: l) = nl l := rfl
theorem nl_5 {j : Nat} {z : Int} : nl ((5, a, j, z) :: l) = nl l := rfl
theorem nl_0 {t k : Nat} {z : Int} : nl ((0, t, k, z) :: l) = nl l + 1 := by
  show 64 + (kl l ++ [(t, k)]).length = 64 + (kl l).length + 1
  rw [List.length_append]
  rfl
theorem kA_n {o : Op} {t : Nat × Nat} (h : kA l a = some t) : kA (o :: l) a = some t := by
  unfold kA at h ⊢
  by_cases ha : a < 64
  · rw [if_pos ha] at h; cases h
  · rw [if_neg ha] at h ⊢
    have hl := (List.getElem?_eq_some_iff.mp h).1
    rw [kl_c]
    split
    · rw [List.getElem?_append_left hl]; exact h
    · split
      · rw [List.getElem?_append_left hl]; exact h
      · exact h
theorem i343 (h : kA l a = some (0, 3)) : runX (d + 3) 343 [va_rf (some a)] (app (Minit L xs) l) = some (.null, app (Minit L xs) ((3, a, 1, 2) :: (1, a, 0, 0) :: l)) := by
  rw [r343]; unfold b343; rw [aR_e, aZ_e]; unfold c343
  rw [vC_l h, cV_e (i342 h), ptP_l (kA_n h)]
  rfl
theorem i47 {M : Mem} : runX (d + 1) 47 [va_rf (some a)] M = some (.null, M) := by
  rw [r47]; unfold b47; rw [aR_e, aZ_e]; rfl
def o11 (a n : Nat) : List Op := [(3, a, 4, (n : Int) + 1), (0, 100, 1000, 0), (3, a, 3, n), (0, 100, 1000, 0)]
theorem i11 (h : kA l a = some (3, 7)) : runX (d + 1) 11 [va_rf (some a)] (app (Minit L xs) l) = some (.null, app (Minit L xs) (o11 a (nl l) ++ l)) := by
  rw [r11]; unfold b11; rw [aR_e, aZ_e]; unfold c11
  rw [nn_e, show (1000 : Int32) = iI 1000 by decide +kernel, nA_l (by decide) (by decide), ptP_l (kA_n h), nA_l (by decide) (by decide), ptP_l (kA_n (kA_n (kA_n h))), nl_3, nl_0]
  rfl
def o120 (a n : Nat) : List Op := [(3, a, 6, (n : Int) + 2), (0, 100, 50, 0), (3, a, 5, (n : Int) + 1), (0, 100, 200, 0), (3, a, 3, n), (0, 100, 32, 0), (1, a, 0, -2)]
theorem i120 (h : kA l a = some (10, 9)) : runX (d + 1) 120 [va_rf (some a)] (app (Minit L xs) l) = some (.null, app (Minit L xs) (o120 a (nl l) ++ l)) := by
  rw [r120]; unfold b120; rw [aR_e, aZ_e]; unfold c120
  rw [nn_e, show (-2 : Int32) = iI (-2) by decide +kernel, show (32 : Int32) = iI 32 by decide +kernel, show (200 : Int32) = iI 200 by decide +kernel, show (50 : Int32) = iI 50 by decide +kernel, ptI_l h, nA_l (by decide) (by decide), ptP_l (kA_n (kA_n h)), nA_l (by decide) (by decide), ptP_l (kA_n (kA_n (kA_n (kA_n h)))), nA_l (by decide) (by decide), ptP_l (kA_n (kA_n (kA_n (kA_n (kA_n (kA_n h)))))), nl_3, nl_0, nl_3, nl_0, nl_1]
  rfl
end CT
