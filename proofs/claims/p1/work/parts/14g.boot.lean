section BT
variable {L : Nat} {xs : Nat → Int32} {l : List Op} {a j n : Nat} {t : Nat × Nat} {v : Nat} {z : Int}
theorem nO_c (n : Nat) {k : Option Nat → Mem → XA} (h : nl l = n) : nO t (app (Minit L xs) l) k = k (some n) (app (Minit L xs) ((0, t.1, t.2, 0) :: l)) := by rw [nO_l, h]
theorem nA_c (n : Nat) {u : Nat} {k : Option Nat → Mem → XA} (h : nl l = n) (h0 : 0 ≤ z) (h1 : z ≤ 100000) : nA u (app (Minit L xs) l) (iI z) k = k (some n) (app (Minit L xs) ((0, u, z.toNat, 0) :: l)) := by rw [nA_l h0 h1, h]
theorem nAA_c (n : Nat) {u ui : Nat} {y : Int} {k : Option Nat → Mem → XA} (h : nl l = n) (hu : u = 113 ∧ ui = 100 ∨ u = 114 ∧ ui = 104) (h0 : 0 ≤ z) (h1 : z ≤ 100000) (h2 : 0 ≤ y) (h3 : y ≤ 100000) : nAA u ui (app (Minit L xs) l) (iI z) (iI y) k = k (some n) (app (Minit L xs) ((4, u, z.toNat, y) :: l)) := by
  have hui : ui = if u = 113 then 100 else 104 := by rcases hu with ⟨rfl, rfl⟩ | ⟨rfl, rfl⟩ <;> rfl
  subst hui
  rw [nAA_l (by omega) h0 h1 h2 h3, h]
theorem asL_l {y : Int} {k : Mem → XA} (h : kA l a = some (104, n)) (h0 : 0 ≤ z) (h1 : z < n) (h2 : z < 2147483648) : asL (app (Minit L xs) l) (some a) (iI z) (Int64.ofInt y) k = k (app (Minit L xs) ((2, a, z.toNat, y) :: l)) := by
  rw [asL_e (kA_ok h) h0 h1 h2]
  rfl
end BT
/-! eight twins -/
def twO (tw : Nat) (k : Nat) (l : List Op) : List Op := (3, tw, k, (nl l : Int)) :: (o120 (nl l) (nl l + 1) ++ (0, 10, 9, 0) :: l)
def twL (tw : Nat) : Nat → List Op → List Op
  | 0, l => l
  | k + 1, l => twO tw k (twL tw k l)
theorem tw_step {L d : Nat} {xs : Nat → Int32} {l : List Op} {a tw k N : Nat} {J : Mem → XA} (hk : k < 8) (ha : kA l a = some (4, 22)) (hp : pO l a 7 = some tw) (hw : kA l tw = some (112, 8)) (hv : vOK l = true) : lp (c18_83 (runX (d + 1)) (some a) J) (N + 1) (iI k, app (Minit L xs) l) = lp (c18_83 (runX (d + 1)) (some a) J) N (iI (k + 1), app (Minit L xs) (twO tw k l)) := by
  rw [lp_e]
  generalize lp (c18_83 (runX (d + 1)) (some a) J) N = K
  unfold c18_83
  have h8 : (8 : Int32) = iI 8 := by decide +kernel
  rw [h8, if_neg (by rw [iI_le (by omega) (by omega) (by omega) (by omega)]; omega), gtP_e (kA_ok ha), app_p hv, hp, nO_l, vC_l kA_new, cV_e (i120 kA_new)]
  have hnw : nl ((0, 10, 9, 0) :: l) = nl l + 1 := nl_0
  have hv1 : vOK ((0, 10, 9, 0) :: l) = true := by
    simp [vOK, hv]
  have hk1 : kA (o120 (nl l) (nl l + 1) ++ (0, 10, 9, 0) :: l) tw = some (112, 8) := kA_n (kA_n (kA_n (kA_n (kA_n (kA_n (kA_n (kA_n hw)))))))
  have hk2 : kA (o120 (nl l) (nl l + 1) ++ (0, 10, 9, 0) :: l) (nl l) = some (10, 9) := kA_n (kA_n (kA_n (kA_n (kA_n (kA_n (kA_n kA_new))))))
  rw [hnw, asP_e (kA_ok hk1) (by omega) (by omega) (by omega) (by
    unfold asOK
    simp only [kA_ok hk2]
    rfl), lt_e, iI_1, iI_add]
  rfl
theorem twO_ok {l : List Op} {a tw k : Nat} (ha : kA l a = some (4, 22)) (hp : pO l a 7 = some tw) (hw : kA l tw = some (112, 8)) (hv : vOK l = true) (hne : a ≠ tw) : kA (twO tw k l) a = some (4, 22) ∧ pO (twO tw k l) a 7 = some tw ∧ kA (twO tw k l) tw = some (112, 8) ∧ vOK (twO tw k l) = true := by
  have hlt : ∀ b t, kA l b = some t → 64 ≤ b ∧ b < nl l := fun b t h => by
    unfold kA at h
    by_cases hb : b < 64
    · rw [if_pos hb] at h; cases h
    · rw [if_neg hb] at h
      have := (List.getElem?_eq_some_iff.mp h).1
      unfold nl
      omega
  have h1 := hlt _ _ ha
  have h2 := hlt _ _ hw
  have hge : 64 ≤ nl l := by unfold nl; omega
  refine ⟨kA_n (kA_n (kA_n (kA_n (kA_n (kA_n (kA_n (kA_n (kA_n ha)))))))), ?_, kA_n (kA_n (kA_n (kA_n (kA_n (kA_n (kA_n (kA_n (kA_n hw)))))))), ?_⟩
  · have g1 : ¬ tw = a := fun q => hne q.symm
    have g2 : ¬ nl l = a := by omega
    simp [twO, o120, pO, g1, g2, hp]
  · simp [twO, o120, vOK, hv, nl_0, nl_1, nl_3]
    omega
theorem tw_run {L d : Nat} {xs : Nat → Int32} {l : List Op} {a tw : Nat} {J : Mem → XA} (ha : kA l a = some (4, 22)) (hp : pO l a 7 = some tw) (hw : kA l tw = some (112, 8)) (hv : vOK l = true) (hne : a ≠ tw) : ∀ (k N : Nat), k ≤ 8 → lp (c18_83 (runX (d + 1)) (some a) J) (N + k) (iI 0, app (Minit L xs) l) = lp (c18_83 (runX (d + 1)) (some a) J) N (iI k, app (Minit L xs) (twL tw k l)) ∧ (kA (twL tw k l) a = some (4, 22) ∧ pO (twL tw k l) a 7 = some tw ∧ kA (twL tw k l) tw = some (112, 8) ∧ vOK (twL tw k l) = true)
  | 0, N, _ => ⟨rfl, ha, hp, hw, hv⟩
  | k + 1, N, hk => by
    obtain ⟨h1, h2, h3, h4, h5⟩ := tw_run (L := L) (d := d) (xs := xs) (J := J) ha hp hw hv hne k (N + 1) (by omega)
    refine ⟨?_, twO_ok h2 h3 h4 h5 hne⟩
    rw [show N + (k + 1) = N + 1 + k by omega, h1]
    exact tw_step (by omega) h2 h3 h4 h5
theorem tw_all {L d : Nat} {xs : Nat → Int32} {l : List Op} {a tw : Nat} (ha : kA l a = some (4, 22)) (hp : pO l a 7 = some tw) (hw : kA l tw = some (112, 8)) (hv : vOK l = true) (J : Mem → XA) (hne : a ≠ tw := by decide) : lp (c18_83 (runX (d + 1)) (some a) J) 4294967296 (iI 0, app (Minit L xs) l) = J (app (Minit L xs) (twL tw 8 l)) := by
  have h := (tw_run (L := L) (d := d) (xs := xs) (J := J) ha hp hw hv hne 8 4294967288 (by decide)).1
  refine h.trans ?_
  rw [show 4294967288 = 4294967287 + 1 from rfl, lp_e]
  unfold c18_83
  exact if_pos (show (8 : Int32) ≤ iI ((8 : Nat) : Int) by decide +kernel)
theorem lit_m2 : (-2 : Int32) = iI (-2) := by decide +kernel
theorem lit_m1 : (-1 : Int32) = iI (-1) := by decide +kernel
theorem lit_0 : (0 : Int32) = iI 0 := by decide +kernel
theorem lit_1 : (1 : Int32) = iI 1 := by decide +kernel
theorem lit_2 : (2 : Int32) = iI 2 := by decide +kernel
theorem lit_3 : (3 : Int32) = iI 3 := by decide +kernel
theorem lit_4 : (4 : Int32) = iI 4 := by decide +kernel
theorem lit_5 : (5 : Int32) = iI 5 := by decide +kernel
theorem lit_6 : (6 : Int32) = iI 6 := by decide +kernel
theorem lit_7 : (7 : Int32) = iI 7 := by decide +kernel
theorem lit_8 : (8 : Int32) = iI 8 := by decide +kernel
theorem lit_9 : (9 : Int32) = iI 9 := by decide +kernel
theorem lit_10 : (10 : Int32) = iI 10 := by decide +kernel
theorem lit_11 : (11 : Int32) = iI 11 := by decide +kernel
theorem lit_12 : (12 : Int32) = iI 12 := by decide +kernel
theorem lit_13 : (13 : Int32) = iI 13 := by decide +kernel
theorem lit_14 : (14 : Int32) = iI 14 := by decide +kernel
theorem lit_15 : (15 : Int32) = iI 15 := by decide +kernel
theorem lit_16 : (16 : Int32) = iI 16 := by decide +kernel
theorem lit_17 : (17 : Int32) = iI 17 := by decide +kernel
theorem lit_18 : (18 : Int32) = iI 18 := by decide +kernel
theorem lit_19 : (19 : Int32) = iI 19 := by decide +kernel
theorem lit_20 : (20 : Int32) = iI 20 := by decide +kernel
theorem lit_21 : (21 : Int32) = iI 21 := by decide +kernel
theorem lit_22 : (22 : Int32) = iI 22 := by decide +kernel
theorem lit_23 : (23 : Int32) = iI 23 := by decide +kernel
theorem lit_24 : (24 : Int32) = iI 24 := by decide +kernel
theorem lit_25 : (25 : Int32) = iI 25 := by decide +kernel
theorem lit_26 : (26 : Int32) = iI 26 := by decide +kernel
theorem lit_27 : (27 : Int32) = iI 27 := by decide +kernel
theorem lit_28 : (28 : Int32) = iI 28 := by decide +kernel
theorem lit_48 : (48 : Int32) = iI 48 := by decide +kernel
theorem lit_64 : (64 : Int32) = iI 64 := by decide +kernel
theorem lit_120 : (120 : Int32) = iI 120 := by decide +kernel
theorem lit_128 : (128 : Int32) = iI 128 := by decide +kernel
theorem lit_192 : (192 : Int32) = iI 192 := by decide +kernel
theorem lit_200 : (200 : Int32) = iI 200 := by decide +kernel
theorem lit_300 : (300 : Int32) = iI 300 := by decide +kernel
theorem lit_400 : (400 : Int32) = iI 400 := by decide +kernel
theorem lit_768 : (768 : Int32) = iI 768 := by decide +kernel
theorem lit_1000 : (1000 : Int32) = iI 1000 := by decide +kernel
theorem lit_1001 : (1001 : Int32) = iI 1001 := by decide +kernel
theorem lit_1500 : (1500 : Int32) = iI 1500 := by decide +kernel
theorem lit_1600 : (1600 : Int32) = iI 1600 := by decide +kernel
theorem lit_2000 : (2000 : Int32) = iI 2000 := by decide +kernel
theorem lit_2520 : (2520 : Int32) = iI 2520 := by decide +kernel
theorem lit_3000 : (3000 : Int32) = iI 3000 := by decide +kernel
theorem lit_4000 : (4000 : Int32) = iI 4000 := by decide +kernel
theorem lit_4096 : (4096 : Int32) = iI 4096 := by decide +kernel
theorem lit_8000 : (8000 : Int32) = iI 8000 := by decide +kernel
theorem lit_9600 : (9600 : Int32) = iI 9600 := by decide +kernel
theorem pkv_2 : pk (sby 2) = Int64.ofInt 1970170228 := by decide +kernel
theorem w187_2 {L d : Nat} {xs : Nat → Int32} {l : List Op} (hv : vOK l = true) : runX (d + 4) 187 [va_rf (some 5)] (app (Minit L xs) l) = some (.long (Int64.ofInt 1970170228), app (Minit L xs) l) := by
  have h := e187 (d := d) (app_ok (L := L) (xs := xs) hv) (i := 2) (by decide)
  rw [pkv_2] at h
  exact h
theorem pkv_3 : pk (sby 3) = Int64.ofInt 7305070 := by decide +kernel
theorem w187_3 {L d : Nat} {xs : Nat → Int32} {l : List Op} (hv : vOK l = true) : runX (d + 4) 187 [va_rf (some 6)] (app (Minit L xs) l) = some (.long (Int64.ofInt 7305070), app (Minit L xs) l) := by
  have h := e187 (d := d) (app_ok (L := L) (xs := xs) hv) (i := 3) (by decide)
  rw [pkv_3] at h
  exact h
theorem pkv_4 : pk (sby 4) = Int64.ofInt 427071271796 := by decide +kernel
theorem w187_4 {L d : Nat} {xs : Nat → Int32} {l : List Op} (hv : vOK l = true) : runX (d + 4) 187 [va_rf (some 7)] (app (Minit L xs) l) = some (.long (Int64.ofInt 427071271796), app (Minit L xs) l) := by
  have h := e187 (d := d) (app_ok (L := L) (xs := xs) hv) (i := 4) (by decide)
  rw [pkv_4] at h
  exact h
theorem pkv_5 : pk (sby 5) = Int64.ofInt 7758194 := by decide +kernel
theorem w187_5 {L d : Nat} {xs : Nat → Int32} {l : List Op} (hv : vOK l = true) : runX (d + 4) 187 [va_rf (some 8)] (app (Minit L xs) l) = some (.long (Int64.ofInt 7758194), app (Minit L xs) l) := by
  have h := e187 (d := d) (app_ok (L := L) (xs := xs) hv) (i := 5) (by decide)
  rw [pkv_5] at h
  exact h
theorem pkv_6 : pk (sby 6) = Int64.ofInt 126892148680036 := by decide +kernel
theorem w187_6 {L d : Nat} {xs : Nat → Int32} {l : List Op} (hv : vOK l = true) : runX (d + 4) 187 [va_rf (some 9)] (app (Minit L xs) l) = some (.long (Int64.ofInt 126892148680036), app (Minit L xs) l) := by
  have h := e187 (d := d) (app_ok (L := L) (xs := xs) hv) (i := 6) (by decide)
  rw [pkv_6] at h
  exact h
theorem pkv_7 : pk (sby 7) = Int64.ofInt 7499639 := by decide +kernel
theorem w187_7 {L d : Nat} {xs : Nat → Int32} {l : List Op} (hv : vOK l = true) : runX (d + 4) 187 [va_rf (some 10)] (app (Minit L xs) l) = some (.long (Int64.ofInt 7499639), app (Minit L xs) l) := by
  have h := e187 (d := d) (app_ok (L := L) (xs := xs) hv) (i := 7) (by decide)
  rw [pkv_7] at h
  exact h
theorem pkv_8 : pk (sby 8) = Int64.ofInt 6714734 := by decide +kernel
theorem w187_8 {L d : Nat} {xs : Nat → Int32} {l : List Op} (hv : vOK l = true) : runX (d + 4) 187 [va_rf (some 11)] (app (Minit L xs) l) = some (.long (Int64.ofInt 6714734), app (Minit L xs) l) := by
  have h := e187 (d := d) (app_ok (L := L) (xs := xs) hv) (i := 8) (by decide)
  rw [pkv_8] at h
  exact h
theorem pkv_9 : pk (sby 9) = Int64.ofInt 495873782388 := by decide +kernel
theorem w187_9 {L d : Nat} {xs : Nat → Int32} {l : List Op} (hv : vOK l = true) : runX (d + 4) 187 [va_rf (some 12)] (app (Minit L xs) l) = some (.long (Int64.ofInt 495873782388), app (Minit L xs) l) := by
  have h := e187 (d := d) (app_ok (L := L) (xs := xs) hv) (i := 9) (by decide)
  rw [pkv_9] at h
  exact h
theorem pkv_10 : pk (sby 10) = Int64.ofInt 108187649798757 := by decide +kernel
theorem w187_10 {L d : Nat} {xs : Nat → Int32} {l : List Op} (hv : vOK l = true) : runX (d + 4) 187 [va_rf (some 13)] (app (Minit L xs) l) = some (.long (Int64.ofInt 108187649798757), app (Minit L xs) l) := by
  have h := e187 (d := d) (app_ok (L := L) (xs := xs) hv) (i := 10) (by decide)
  rw [pkv_10] at h
  exact h
theorem pkv_11 : pk (sby 11) = Int64.ofInt 418330731890 := by decide +kernel
theorem w187_11 {L d : Nat} {xs : Nat → Int32} {l : List Op} (hv : vOK l = true) : runX (d + 4) 187 [va_rf (some 14)] (app (Minit L xs) l) = some (.long (Int64.ofInt 418330731890), app (Minit L xs) l) := by
  have h := e187 (d := d) (app_ok (L := L) (xs := xs) hv) (i := 11) (by decide)
  rw [pkv_11] at h
  exact h
theorem pkv_12 : pk (sby 12) = Int64.ofInt 1952805748 := by decide +kernel
theorem w187_12 {L d : Nat} {xs : Nat → Int32} {l : List Op} (hv : vOK l = true) : runX (d + 4) 187 [va_rf (some 15)] (app (Minit L xs) l) = some (.long (Int64.ofInt 1952805748), app (Minit L xs) l) := by
  have h := e187 (d := d) (app_ok (L := L) (xs := xs) hv) (i := 12) (by decide)
  rw [pkv_12] at h
  exact h
theorem pkv_13 : pk (sby 13) = Int64.ofInt 1936419184 := by decide +kernel
theorem w187_13 {L d : Nat} {xs : Nat → Int32} {l : List Op} (hv : vOK l = true) : runX (d + 4) 187 [va_rf (some 16)] (app (Minit L xs) l) = some (.long (Int64.ofInt 1936419184), app (Minit L xs) l) := by
  have h := e187 (d := d) (app_ok (L := L) (xs := xs) hv) (i := 13) (by decide)
  rw [pkv_13] at h
  exact h
theorem pkv_14 : pk (sby 14) = Int64.ofInt 125762706564467 := by decide +kernel
theorem w187_14 {L d : Nat} {xs : Nat → Int32} {l : List Op} (hv : vOK l = true) : runX (d + 4) 187 [va_rf (some 17)] (app (Minit L xs) l) = some (.long (Int64.ofInt 125762706564467), app (Minit L xs) l) := by
  have h := e187 (d := d) (app_ok (L := L) (xs := xs) hv) (i := 14) (by decide)
  rw [pkv_14] at h
  exact h
theorem pkv_15 : pk (sby 15) = Int64.ofInt 2003399784 := by decide +kernel
theorem w187_15 {L d : Nat} {xs : Nat → Int32} {l : List Op} (hv : vOK l = true) : runX (d + 4) 187 [va_rf (some 18)] (app (Minit L xs) l) = some (.long (Int64.ofInt 2003399784), app (Minit L xs) l) := by
  have h := e187 (d := d) (app_ok (L := L) (xs := xs) hv) (i := 15) (by decide)
  rw [pkv_15] at h
  exact h
theorem pkv_16 : pk (sby 16) = Int64.ofInt 1886547824 := by decide +kernel
theorem w187_16 {L d : Nat} {xs : Nat → Int32} {l : List Op} (hv : vOK l = true) : runX (d + 4) 187 [va_rf (some 19)] (app (Minit L xs) l) = some (.long (Int64.ofInt 1886547824), app (Minit L xs) l) := by
  have h := e187 (d := d) (app_ok (L := L) (xs := xs) hv) (i := 16) (by decide)
  rw [pkv_16] at h
  exact h
theorem pkv_17 : pk (sby 17) = Int64.ofInt 7103860 := by decide +kernel
theorem w187_17 {L d : Nat} {xs : Nat → Int32} {l : List Op} (hv : vOK l = true) : runX (d + 4) 187 [va_rf (some 20)] (app (Minit L xs) l) = some (.long (Int64.ofInt 7103860), app (Minit L xs) l) := by
  have h := e187 (d := d) (app_ok (L := L) (xs := xs) hv) (i := 17) (by decide)
  rw [pkv_17] at h
  exact h
theorem pkv_18 : pk (sby 18) = Int64.ofInt 26982 := by decide +kernel
theorem w187_18 {L d : Nat} {xs : Nat → Int32} {l : List Op} (hv : vOK l = true) : runX (d + 4) 187 [va_rf (some 21)] (app (Minit L xs) l) = some (.long (Int64.ofInt 26982), app (Minit L xs) l) := by
  have h := e187 (d := d) (app_ok (L := L) (xs := xs) hv) (i := 18) (by decide)
  rw [pkv_18] at h
  exact h
theorem pkv_19 : pk (sby 19) = Int64.ofInt 1701606245 := by decide +kernel
theorem w187_19 {L d : Nat} {xs : Nat → Int32} {l : List Op} (hv : vOK l = true) : runX (d + 4) 187 [va_rf (some 22)] (app (Minit L xs) l) = some (.long (Int64.ofInt 1701606245), app (Minit L xs) l) := by
  have h := e187 (d := d) (app_ok (L := L) (xs := xs) hv) (i := 19) (by decide)
  rw [pkv_19] at h
  exact h
theorem pkv_20 : pk (sby 20) = Int64.ofInt 512852847717 := by decide +kernel
theorem w187_20 {L d : Nat} {xs : Nat → Int32} {l : List Op} (hv : vOK l = true) : runX (d + 4) 187 [va_rf (some 23)] (app (Minit L xs) l) = some (.long (Int64.ofInt 512852847717), app (Minit L xs) l) := by
  have h := e187 (d := d) (app_ok (L := L) (xs := xs) hv) (i := 20) (by decide)
  rw [pkv_20] at h
  exact h
theorem pkv_21 : pk (sby 21) = Int64.ofInt 125780071117422 := by decide +kernel
theorem w187_21 {L d : Nat} {xs : Nat → Int32} {l : List Op} (hv : vOK l = true) : runX (d + 4) 187 [va_rf (some 24)] (app (Minit L xs) l) = some (.long (Int64.ofInt 125780071117422), app (Minit L xs) l) := by
  have h := e187 (d := d) (app_ok (L := L) (xs := xs) hv) (i := 21) (by decide)
  rw [pkv_21] at h
  exact h
theorem pkv_22 : pk (sby 22) = Int64.ofInt 426953237355 := by decide +kernel
theorem w187_22 {L d : Nat} {xs : Nat → Int32} {l : List Op} (hv : vOK l = true) : runX (d + 4) 187 [va_rf (some 25)] (app (Minit L xs) l) = some (.long (Int64.ofInt 426953237355), app (Minit L xs) l) := by
  have h := e187 (d := d) (app_ok (L := L) (xs := xs) hv) (i := 22) (by decide)
  rw [pkv_22] at h
  exact h
theorem pkv_23 : pk (sby 23) = Int64.ofInt 491260572517 := by decide +kernel
theorem w187_23 {L d : Nat} {xs : Nat → Int32} {l : List Op} (hv : vOK l = true) : runX (d + 4) 187 [va_rf (some 26)] (app (Minit L xs) l) = some (.long (Int64.ofInt 491260572517), app (Minit L xs) l) := by
  have h := e187 (d := d) (app_ok (L := L) (xs := xs) hv) (i := 23) (by decide)
  rw [pkv_23] at h
  exact h
theorem pkv_24 : pk (sby 24) = Int64.ofInt 7631481 := by decide +kernel
theorem w187_24 {L d : Nat} {xs : Nat → Int32} {l : List Op} (hv : vOK l = true) : runX (d + 4) 187 [va_rf (some 27)] (app (Minit L xs) l) = some (.long (Int64.ofInt 7631481), app (Minit L xs) l) := by
  have h := e187 (d := d) (app_ok (L := L) (xs := xs) hv) (i := 24) (by decide)
  rw [pkv_24] at h
  exact h
theorem pkv_25 : pk (sby 25) = Int64.ofInt 426836779880 := by decide +kernel
theorem w187_25 {L d : Nat} {xs : Nat → Int32} {l : List Op} (hv : vOK l = true) : runX (d + 4) 187 [va_rf (some 28)] (app (Minit L xs) l) = some (.long (Int64.ofInt 426836779880), app (Minit L xs) l) := by
  have h := e187 (d := d) (app_ok (L := L) (xs := xs) hv) (i := 25) (by decide)
  rw [pkv_25] at h
  exact h
theorem pkv_26 : pk (sby 26) = Int64.ofInt 1685217655 := by decide +kernel
theorem w187_26 {L d : Nat} {xs : Nat → Int32} {l : List Op} (hv : vOK l = true) : runX (d + 4) 187 [va_rf (some 29)] (app (Minit L xs) l) = some (.long (Int64.ofInt 1685217655), app (Minit L xs) l) := by
  have h := e187 (d := d) (app_ok (L := L) (xs := xs) hv) (i := 26) (by decide)
  rw [pkv_26] at h
  exact h
theorem pkv_27 : pk (sby 27) = Int64.ofInt 6385252 := by decide +kernel
theorem w187_27 {L d : Nat} {xs : Nat → Int32} {l : List Op} (hv : vOK l = true) : runX (d + 4) 187 [va_rf (some 30)] (app (Minit L xs) l) = some (.long (Int64.ofInt 6385252), app (Minit L xs) l) := by
  have h := e187 (d := d) (app_ok (L := L) (xs := xs) hv) (i := 27) (by decide)
  rw [pkv_27] at h
  exact h
theorem pkv_28 : pk (sby 28) = Int64.ofInt 28530 := by decide +kernel
theorem w187_28 {L d : Nat} {xs : Nat → Int32} {l : List Op} (hv : vOK l = true) : runX (d + 4) 187 [va_rf (some 31)] (app (Minit L xs) l) = some (.long (Int64.ofInt 28530), app (Minit L xs) l) := by
  have h := e187 (d := d) (app_ok (L := L) (xs := xs) hv) (i := 28) (by decide)
  rw [pkv_28] at h
  exact h
theorem pkv_29 : pk (sby 29) = Int64.ofInt 7237492 := by decide +kernel
theorem w187_29 {L d : Nat} {xs : Nat → Int32} {l : List Op} (hv : vOK l = true) : runX (d + 4) 187 [va_rf (some 32)] (app (Minit L xs) l) = some (.long (Int64.ofInt 7237492), app (Minit L xs) l) := by
  have h := e187 (d := d) (app_ok (L := L) (xs := xs) hv) (i := 29) (by decide)
  rw [pkv_29] at h
  exact h
def LP60 : List Op := [(0, 7, 20, 0), (0, 12, 19, 0)]
def LQ60 : List Op := [(3, 65, 18, 84), (4, 114, 2, 1500), (3, 65, 17, 77), (4, 113, 6, 1500), (3, 65, 15, 76), (0, 104, 10, 0), (3, 65, 8, 75), (0, 102, 4096, 0), (3, 65, 7, 74), (0, 100, 4096, 0), (3, 65, 6, 73), (0, 100, 4096, 0), (3, 65, 5, 72), (0, 100, 4096, 0), (3, 65, 0, 66), (5, 71, 0, 0), (3, 66, 5, 71), (0, 104, 28, 0), (3, 66, 4, 70), (0, 104, 3001, 0), (3, 66, 3, 69), (0, 100, 3001, 0), (3, 66, 2, 68), (0, 100, 3001, 0), (3, 66, 0, 67), (0, 101, 3000, 0), (0, 9, 8, 0), (0, 7, 20, 0), (0, 12, 19, 0)]
set_option maxRecDepth 100000 in
set_option maxHeartbeats 4000000 in
theorem b_60 {L d : Nat} {xs : Nat → Int32} : runX (d + 5) 60 [va_rf (some 65)] (app (Minit L xs) LP60) = some (.null, app (Minit L xs) LQ60) := by
  rw [r60]; unfold b60; rw [aR_e, aZ_e]; unfold c60
  rw [nn_e, nO_c 66 (by decide +kernel), vC_l (by decide +kernel), cV_e (i111 (by decide +kernel) (by decide +kernel)), ptP_l (by decide +kernel), lit_4096, nA_c 72 (by decide +kernel) (by decide) (by decide), ptP_l (by decide +kernel), nA_c 73 (by decide +kernel) (by decide) (by decide), ptP_l (by decide +kernel), nA_c 74 (by decide +kernel) (by decide) (by decide), ptP_l (by decide +kernel)]
  rw [nA_c 75 (by decide +kernel) (by decide) (by decide), ptP_l (by decide +kernel), lit_10, nA_c 76 (by decide +kernel) (by decide) (by decide), ptP_l (by decide +kernel), lit_6, lit_1500, nAA_c 77 (by decide +kernel) (Or.inl ⟨rfl, rfl⟩) (by decide) (by decide) (by decide) (by decide), ptP_l (by decide +kernel), lit_2, nAA_c 84 (by decide +kernel) (Or.inr ⟨rfl, rfl⟩) (by decide) (by decide) (by decide) (by decide), ptP_l (by decide +kernel)]
  exact congrArg (fun z => some (Value.null, app (Minit L xs) z)) (by decide +kernel : _ = _)
def LP18 : List Op := [(0, 4, 22, 0), (3, 64, 1, 87), (3, 87, 1, 2), (1, 87, 0, 0), (0, 0, 3, 0), (3, 64, 0, 65), (3, 65, 18, 84), (4, 114, 2, 1500), (3, 65, 17, 77), (4, 113, 6, 1500), (3, 65, 15, 76), (0, 104, 10, 0), (3, 65, 8, 75), (0, 102, 4096, 0), (3, 65, 7, 74), (0, 100, 4096, 0), (3, 65, 6, 73), (0, 100, 4096, 0), (3, 65, 5, 72), (0, 100, 4096, 0), (3, 65, 0, 66), (5, 71, 0, 0), (3, 66, 5, 71), (0, 104, 28, 0), (3, 66, 4, 70), (0, 104, 3001, 0), (3, 66, 3, 69), (0, 100, 3001, 0), (3, 66, 2, 68), (0, 100, 3001, 0), (3, 66, 0, 67), (0, 101, 3000, 0), (0, 9, 8, 0), (0, 7, 20, 0), (0, 12, 19, 0)]
def LQ18 : List Op := [(3, 90, 7, 136), (3, 136, 6, 139), (0, 100, 50, 0), (3, 136, 5, 138), (0, 100, 200, 0), (3, 136, 3, 137), (0, 100, 32, 0), (1, 136, 0, -2), (0, 10, 9, 0), (3, 90, 6, 132), (3, 132, 6, 135), (0, 100, 50, 0), (3, 132, 5, 134), (0, 100, 200, 0), (3, 132, 3, 133), (0, 100, 32, 0), (1, 132, 0, -2), (0, 10, 9, 0), (3, 90, 5, 128), (3, 128, 6, 131), (0, 100, 50, 0), (3, 128, 5, 130), (0, 100, 200, 0), (3, 128, 3, 129), (0, 100, 32, 0), (1, 128, 0, -2), (0, 10, 9, 0), (3, 90, 4, 124), (3, 124, 6, 127), (0, 100, 50, 0), (3, 124, 5, 126), (0, 100, 200, 0), (3, 124, 3, 125), (0, 100, 32, 0), (1, 124, 0, -2), (0, 10, 9, 0), (3, 90, 3, 120), (3, 120, 6, 123), (0, 100, 50, 0), (3, 120, 5, 122), (0, 100, 200, 0), (3, 120, 3, 121), (0, 100, 32, 0), (1, 120, 0, -2), (0, 10, 9, 0), (3, 90, 2, 116), (3, 116, 6, 119), (0, 100, 50, 0), (3, 116, 5, 118), (0, 100, 200, 0), (3, 116, 3, 117), (0, 100, 32, 0), (1, 116, 0, -2), (0, 10, 9, 0), (3, 90, 1, 112), (3, 112, 6, 115), (0, 100, 50, 0), (3, 112, 5, 114), (0, 100, 200, 0), (3, 112, 3, 113), (0, 100, 32, 0), (1, 112, 0, -2), (0, 10, 9, 0), (3, 90, 0, 108), (3, 108, 6, 111), (0, 100, 50, 0), (3, 108, 5, 110), (0, 100, 200, 0), (3, 108, 3, 109), (0, 100, 32, 0), (1, 108, 0, -2), (0, 10, 9, 0), (3, 88, 17, 107), (0, 100, 16, 0), (3, 88, 16, 106), (0, 100, 9600, 0), (3, 88, 13, 93), (4, 113, 12, 4), (3, 88, 11, 92), (0, 100, 2520, 0), (3, 88, 8, 91), (0, 111, 2, 0), (3, 88, 7, 90), (0, 112, 8, 0), (1, 88, 2, 1), (1, 88, 1, 200), (3, 88, 0, 89), (0, 5, 5, 0), (0, 4, 22, 0), (3, 64, 1, 87), (3, 87, 1, 2), (1, 87, 0, 0), (0, 0, 3, 0), (3, 64, 0, 65), (3, 65, 18, 84), (4, 114, 2, 1500), (3, 65, 17, 77), (4, 113, 6, 1500), (3, 65, 15, 76), (0, 104, 10, 0), (3, 65, 8, 75), (0, 102, 4096, 0), (3, 65, 7, 74), (0, 100, 4096, 0), (3, 65, 6, 73), (0, 100, 4096, 0), (3, 65, 5, 72), (0, 100, 4096, 0), (3, 65, 0, 66), (5, 71, 0, 0), (3, 66, 5, 71), (0, 104, 28, 0), (3, 66, 4, 70), (0, 104, 3001, 0), (3, 66, 3, 69), (0, 100, 3001, 0), (3, 66, 2, 68), (0, 100, 3001, 0), (3, 66, 0, 67), (0, 101, 3000, 0), (0, 9, 8, 0), (0, 7, 20, 0), (0, 12, 19, 0)]
set_option maxRecDepth 100000 in
set_option maxHeartbeats 4000000 in
theorem b_18 {L d : Nat} {xs : Nat → Int32} : runX (d + 5) 18 [va_rf (some 88)] (app (Minit L xs) LP18) = some (.null, app (Minit L xs) LQ18) := by
  rw [r18]; unfold b18; rw [aR_e, aZ_e]; unfold c18
  rw [nn_e, nO_c 89 (by decide +kernel), vC_l (by decide +kernel), cV_e i47, ptP_l (by decide +kernel), lit_200, ptI_l (by decide +kernel), lit_1, ptI_l (by decide +kernel), lit_8, nA_c 90 (by decide +kernel) (by decide) (by decide), ptP_l (by decide +kernel)]
  rw [lit_2, nA_c 91 (by decide +kernel) (by decide) (by decide), ptP_l (by decide +kernel), lit_2520, nA_c 92 (by decide +kernel) (by decide) (by decide), ptP_l (by decide +kernel), lit_12, lit_4, nAA_c 93 (by decide +kernel) (Or.inl ⟨rfl, rfl⟩) (by decide) (by decide) (by decide) (by decide), ptP_l (by decide +kernel), lit_9600, nA_c 106 (by decide +kernel) (by decide) (by decide)]
  rw [ptP_l (by decide +kernel), lit_16, nA_c 107 (by decide +kernel) (by decide) (by decide), ptP_l (by decide +kernel)]
  rw [jn_e, iI_0]
  refine (tw_all (tw := 90) (by decide +kernel) (by decide +kernel) (by decide +kernel) (by decide +kernel) _).trans ?_
  exact congrArg (fun z => some (Value.null, app (Minit L xs) z)) (by decide +kernel : _ = _)
def LP127 : List Op := [(0, 12, 19, 0)]
def LQ127 : List Op := [(3, 64, 18, 155), (4, 113, 4, 16), (3, 64, 17, 150), (4, 113, 4, 16), (3, 64, 15, 149), (0, 100, 16, 0), (3, 64, 14, 148), (0, 100, 16, 0), (1, 64, 13, -2), (3, 64, 12, 147), (0, 100, 6, 0), (3, 64, 11, 146), (0, 100, 6, 0), (3, 64, 8, 143), (3, 143, 4, 145), (0, 100, 1000, 0), (3, 143, 3, 144), (0, 100, 1000, 0), (0, 3, 7, 0), (3, 64, 6, 142), (0, 5, 5, 0), (3, 64, 5, 141), (3, 141, 1, 2), (1, 141, 0, 0), (0, 0, 3, 0), (3, 64, 4, 140), (3, 140, 1, 2), (1, 140, 0, 0), (0, 0, 3, 0), (3, 64, 2, 88), (3, 90, 7, 136), (3, 136, 6, 139), (0, 100, 50, 0), (3, 136, 5, 138), (0, 100, 200, 0), (3, 136, 3, 137), (0, 100, 32, 0), (1, 136, 0, -2), (0, 10, 9, 0), (3, 90, 6, 132), (3, 132, 6, 135), (0, 100, 50, 0), (3, 132, 5, 134), (0, 100, 200, 0), (3, 132, 3, 133), (0, 100, 32, 0), (1, 132, 0, -2), (0, 10, 9, 0), (3, 90, 5, 128), (3, 128, 6, 131), (0, 100, 50, 0), (3, 128, 5, 130), (0, 100, 200, 0), (3, 128, 3, 129), (0, 100, 32, 0), (1, 128, 0, -2), (0, 10, 9, 0), (3, 90, 4, 124), (3, 124, 6, 127), (0, 100, 50, 0), (3, 124, 5, 126), (0, 100, 200, 0), (3, 124, 3, 125), (0, 100, 32, 0), (1, 124, 0, -2), (0, 10, 9, 0), (3, 90, 3, 120), (3, 120, 6, 123), (0, 100, 50, 0), (3, 120, 5, 122), (0, 100, 200, 0), (3, 120, 3, 121), (0, 100, 32, 0), (1, 120, 0, -2), (0, 10, 9, 0), (3, 90, 2, 116), (3, 116, 6, 119), (0, 100, 50, 0), (3, 116, 5, 118), (0, 100, 200, 0), (3, 116, 3, 117), (0, 100, 32, 0), (1, 116, 0, -2), (0, 10, 9, 0), (3, 90, 1, 112), (3, 112, 6, 115), (0, 100, 50, 0), (3, 112, 5, 114), (0, 100, 200, 0), (3, 112, 3, 113), (0, 100, 32, 0), (1, 112, 0, -2), (0, 10, 9, 0), (3, 90, 0, 108), (3, 108, 6, 111), (0, 100, 50, 0), (3, 108, 5, 110), (0, 100, 200, 0), (3, 108, 3, 109), (0, 100, 32, 0), (1, 108, 0, -2), (0, 10, 9, 0), (3, 88, 17, 107), (0, 100, 16, 0), (3, 88, 16, 106), (0, 100, 9600, 0), (3, 88, 13, 93), (4, 113, 12, 4), (3, 88, 11, 92), (0, 100, 2520, 0), (3, 88, 8, 91), (0, 111, 2, 0), (3, 88, 7, 90), (0, 112, 8, 0), (1, 88, 2, 1), (1, 88, 1, 200), (3, 88, 0, 89), (0, 5, 5, 0), (0, 4, 22, 0), (3, 64, 1, 87), (3, 87, 1, 2), (1, 87, 0, 0), (0, 0, 3, 0), (3, 64, 0, 65), (3, 65, 18, 84), (4, 114, 2, 1500), (3, 65, 17, 77), (4, 113, 6, 1500), (3, 65, 15, 76), (0, 104, 10, 0), (3, 65, 8, 75), (0, 102, 4096, 0), (3, 65, 7, 74), (0, 100, 4096, 0), (3, 65, 6, 73), (0, 100, 4096, 0), (3, 65, 5, 72), (0, 100, 4096, 0), (3, 65, 0, 66), (5, 71, 0, 0), (3, 66, 5, 71), (0, 104, 28, 0), (3, 66, 4, 70), (0, 104, 3001, 0), (3, 66, 3, 69), (0, 100, 3001, 0), (3, 66, 2, 68), (0, 100, 3001, 0), (3, 66, 0, 67), (0, 101, 3000, 0), (0, 9, 8, 0), (0, 7, 20, 0), (0, 12, 19, 0)]
set_option maxRecDepth 100000 in
set_option maxHeartbeats 4000000 in
theorem b_127 {L d : Nat} {xs : Nat → Int32} : runX (d + 6) 127 [va_rf (some 64)] (app (Minit L xs) LP127) = some (.null, app (Minit L xs) LQ127) := by
  rw [r127]; unfold b127; rw [aR_e, aZ_e]; unfold c127
  rw [lit_m2, nn_e, nO_c 65 (by decide +kernel), vC_l (by decide +kernel)]
  rw [cV_e ((congrArg (fun z => runX _ 60 [va_rf (some 65)] (app (Minit L xs) z)) (show _ = LP60 from by decide +kernel)).trans (b_60 (d := d)))]
  rw [ptP_l (by decide +kernel), nO_c 87 (by decide +kernel), vC_l (by decide +kernel), cV_e (i343 (by decide +kernel)), ptP_l (by decide +kernel), nO_c 88 (by decide +kernel), vC_l (by decide +kernel)]
  rw [cV_e ((congrArg (fun z => runX _ 18 [va_rf (some 88)] (app (Minit L xs) z)) (show _ = LP18 from by decide +kernel)).trans (b_18 (d := d)))]
  rw [ptP_l (by decide +kernel), nO_c 140 (by decide +kernel), vC_l (by decide +kernel), cV_e (i343 (by decide +kernel)), ptP_l (by decide +kernel), nO_c 141 (by decide +kernel), vC_l (by decide +kernel), cV_e (i343 (by decide +kernel)), ptP_l (by decide +kernel), nO_c 142 (by decide +kernel), vC_l (by decide +kernel), cV_e i47]
  rw [ptP_l (by decide +kernel), nO_c 143 (by decide +kernel), vC_l (by decide +kernel), cV_e (i11 (by decide +kernel)), ptP_l (by decide +kernel), lit_6, nA_c 146 (by decide +kernel) (by decide) (by decide), ptP_l (by decide +kernel), nA_c 147 (by decide +kernel) (by decide) (by decide), ptP_l (by decide +kernel), ptI_l (by decide +kernel), lit_16]
  rw [nA_c 148 (by decide +kernel) (by decide) (by decide), ptP_l (by decide +kernel), nA_c 149 (by decide +kernel) (by decide) (by decide), ptP_l (by decide +kernel), lit_4, nAA_c 150 (by decide +kernel) (Or.inl ⟨rfl, rfl⟩) (by decide) (by decide) (by decide) (by decide), ptP_l (by decide +kernel), nAA_c 155 (by decide +kernel) (Or.inl ⟨rfl, rfl⟩) (by decide) (by decide) (by decide) (by decide), ptP_l (by decide +kernel)]
  exact congrArg (fun z => some (Value.null, app (Minit L xs) z)) (by decide +kernel : _ = _)
def LP183 : List Op := [(0, 13, 157, 0), (3, 64, 18, 155), (4, 113, 4, 16), (3, 64, 17, 150), (4, 113, 4, 16), (3, 64, 15, 149), (0, 100, 16, 0), (3, 64, 14, 148), (0, 100, 16, 0), (1, 64, 13, -2), (3, 64, 12, 147), (0, 100, 6, 0), (3, 64, 11, 146), (0, 100, 6, 0), (3, 64, 8, 143), (3, 143, 4, 145), (0, 100, 1000, 0), (3, 143, 3, 144), (0, 100, 1000, 0), (0, 3, 7, 0), (3, 64, 6, 142), (0, 5, 5, 0), (3, 64, 5, 141), (3, 141, 1, 2), (1, 141, 0, 0), (0, 0, 3, 0), (3, 64, 4, 140), (3, 140, 1, 2), (1, 140, 0, 0), (0, 0, 3, 0), (3, 64, 2, 88), (3, 90, 7, 136), (3, 136, 6, 139), (0, 100, 50, 0), (3, 136, 5, 138), (0, 100, 200, 0), (3, 136, 3, 137), (0, 100, 32, 0), (1, 136, 0, -2), (0, 10, 9, 0), (3, 90, 6, 132), (3, 132, 6, 135), (0, 100, 50, 0), (3, 132, 5, 134), (0, 100, 200, 0), (3, 132, 3, 133), (0, 100, 32, 0), (1, 132, 0, -2), (0, 10, 9, 0), (3, 90, 5, 128), (3, 128, 6, 131), (0, 100, 50, 0), (3, 128, 5, 130), (0, 100, 200, 0), (3, 128, 3, 129), (0, 100, 32, 0), (1, 128, 0, -2), (0, 10, 9, 0), (3, 90, 4, 124), (3, 124, 6, 127), (0, 100, 50, 0), (3, 124, 5, 126), (0, 100, 200, 0), (3, 124, 3, 125), (0, 100, 32, 0), (1, 124, 0, -2), (0, 10, 9, 0), (3, 90, 3, 120), (3, 120, 6, 123), (0, 100, 50, 0), (3, 120, 5, 122), (0, 100, 200, 0), (3, 120, 3, 121), (0, 100, 32, 0), (1, 120, 0, -2), (0, 10, 9, 0), (3, 90, 2, 116), (3, 116, 6, 119), (0, 100, 50, 0), (3, 116, 5, 118), (0, 100, 200, 0), (3, 116, 3, 117), (0, 100, 32, 0), (1, 116, 0, -2), (0, 10, 9, 0), (3, 90, 1, 112), (3, 112, 6, 115), (0, 100, 50, 0), (3, 112, 5, 114), (0, 100, 200, 0), (3, 112, 3, 113), (0, 100, 32, 0), (1, 112, 0, -2), (0, 10, 9, 0), (3, 90, 0, 108), (3, 108, 6, 111), (0, 100, 50, 0), (3, 108, 5, 110), (0, 100, 200, 0), (3, 108, 3, 109), (0, 100, 32, 0), (1, 108, 0, -2), (0, 10, 9, 0), (3, 88, 17, 107), (0, 100, 16, 0), (3, 88, 16, 106), (0, 100, 9600, 0), (3, 88, 13, 93), (4, 113, 12, 4), (3, 88, 11, 92), (0, 100, 2520, 0), (3, 88, 8, 91), (0, 111, 2, 0), (3, 88, 7, 90), (0, 112, 8, 0), (1, 88, 2, 1), (1, 88, 1, 200), (3, 88, 0, 89), (0, 5, 5, 0), (0, 4, 22, 0), (3, 64, 1, 87), (3, 87, 1, 2), (1, 87, 0, 0), (0, 0, 3, 0), (3, 64, 0, 65), (3, 65, 18, 84), (4, 114, 2, 1500), (3, 65, 17, 77), (4, 113, 6, 1500), (3, 65, 15, 76), (0, 104, 10, 0), (3, 65, 8, 75), (0, 102, 4096, 0), (3, 65, 7, 74), (0, 100, 4096, 0), (3, 65, 6, 73), (0, 100, 4096, 0), (3, 65, 5, 72), (0, 100, 4096, 0), (3, 65, 0, 66), (5, 71, 0, 0), (3, 66, 5, 71), (0, 104, 28, 0), (3, 66, 4, 70), (0, 104, 3001, 0), (3, 66, 3, 69), (0, 100, 3001, 0), (3, 66, 2, 68), (0, 100, 3001, 0), (3, 66, 0, 67), (0, 101, 3000, 0), (0, 9, 8, 0), (0, 7, 20, 0), (0, 12, 19, 0)]
def LQ183 : List Op := [(3, 160, 156, 258), (0, 100, 8, 0), (3, 160, 155, 257), (0, 100, 8, 0), (3, 160, 153, 256), (0, 100, 16, 0), (3, 160, 152, 255), (0, 100, 16, 0), (3, 160, 147, 254), (0, 100, 9, 0), (3, 160, 146, 253), (0, 100, 8, 0), (3, 160, 145, 252), (0, 100, 64, 0), (3, 160, 144, 251), (0, 100, 64, 0), (3, 160, 143, 250), (0, 100, 64, 0), (3, 160, 142, 249), (0, 100, 64, 0), (3, 160, 141, 248), (0, 100, 64, 0), (3, 160, 140, 247), (0, 100, 8, 0), (3, 160, 139, 246), (0, 100, 8, 0), (3, 160, 135, 245), (0, 100, 4, 0), (3, 160, 134, 244), (0, 100, 4, 0), (3, 160, 128, 243), (0, 100, 16, 0), (3, 160, 127, 242), (0, 100, 16, 0), (3, 160, 126, 241), (0, 100, 8, 0), (3, 160, 125, 240), (0, 100, 1000, 0), (3, 160, 124, 239), (0, 100, 8000, 0), (3, 160, 123, 238), (0, 102, 8, 0), (3, 160, 122, 237), (0, 100, 1600, 0), (3, 160, 121, 236), (0, 100, 400, 0), (3, 160, 120, 235), (0, 100, 8, 0), (3, 160, 119, 234), (0, 100, 64, 0), (3, 160, 118, 233), (0, 102, 64, 0), (3, 160, 117, 232), (0, 100, 64, 0), (3, 160, 116, 231), (0, 100, 64, 0), (3, 160, 115, 230), (0, 100, 8, 0), (3, 160, 114, 229), (0, 100, 8, 0), (3, 160, 113, 228), (0, 100, 8, 0), (3, 160, 112, 227), (1, 227, 7, -1), (1, 227, 6, -1), (1, 227, 5, -1), (1, 227, 4, -1), (1, 227, 3, -1), (1, 227, 2, -1), (1, 227, 1, -1), (1, 227, 0, -1), (0, 100, 8, 0), (3, 160, 110, 226), (0, 100, 4, 0), (3, 160, 108, 225), (0, 100, 128, 0), (3, 160, 107, 224), (0, 100, 128, 0), (3, 160, 106, 223), (0, 100, 128, 0), (3, 160, 105, 222), (0, 100, 128, 0), (3, 160, 104, 221), (0, 102, 8, 0), (3, 160, 100, 220), (0, 100, 1001, 0), (3, 160, 99, 219), (0, 100, 1001, 0), (3, 160, 96, 218), (0, 100, 8000, 0), (3, 160, 95, 217), (0, 100, 8000, 0), (3, 160, 94, 216), (0, 100, 8000, 0), (1, 160, 90, -1), (1, 160, 78, 1), (1, 160, 77, 200), (3, 160, 75, 215), (0, 100, 300, 0), (3, 160, 74, 214), (0, 100, 120, 0), (3, 160, 72, 213), (0, 100, 3000, 0), (3, 160, 71, 212), (0, 100, 9600, 0), (3, 160, 70, 211), (0, 100, 192, 0), (3, 160, 69, 210), (0, 100, 16, 0), (3, 160, 68, 209), (0, 100, 8, 0), (3, 160, 63, 208), (0, 100, 48, 0), (3, 160, 61, 207), (0, 100, 2000, 0), (3, 160, 60, 206), (0, 100, 2000, 0), (3, 160, 59, 205), (0, 100, 2000, 0), (3, 160, 58, 204), (0, 104, 2000, 0), (3, 160, 57, 203), (0, 100, 2000, 0), (3, 160, 56, 202), (0, 104, 2000, 0), (3, 160, 55, 201), (0, 100, 2000, 0), (3, 160, 54, 200), (0, 100, 2000, 0), (3, 160, 52, 199), (0, 104, 11, 0), (3, 160, 47, 198), (0, 102, 4000, 0), (3, 160, 46, 197), (0, 101, 4000, 0), (3, 160, 45, 196), (0, 100, 4000, 0), (3, 160, 44, 195), (0, 101, 4000, 0), (3, 160, 35, 194), (2, 194, 27, 7237492), (2, 194, 26, 28530), (2, 194, 25, 6385252), (2, 194, 24, 1685217655), (2, 194, 23, 426836779880), (2, 194, 22, 7631481), (2, 194, 21, 491260572517), (2, 194, 20, 426953237355), (2, 194, 19, 125780071117422), (2, 194, 18, 512852847717), (2, 194, 17, 1701606245), (2, 194, 16, 26982), (2, 194, 15, 7103860), (2, 194, 14, 1886547824), (2, 194, 13, 2003399784), (2, 194, 12, 125762706564467), (2, 194, 11, 1936419184), (2, 194, 10, 1952805748), (2, 194, 9, 418330731890), (2, 194, 8, 108187649798757), (2, 194, 7, 495873782388), (2, 194, 6, 6714734), (2, 194, 5, 7499639), (2, 194, 4, 126892148680036), (2, 194, 3, 7758194), (2, 194, 2, 427071271796), (2, 194, 1, 7305070), (2, 194, 0, 1970170228), (0, 104, 28, 0), (3, 160, 34, 193), (0, 103, 8000, 0), (3, 160, 33, 192), (0, 100, 8, 0), (3, 160, 32, 191), (0, 101, 8000, 0), (3, 160, 31, 190), (0, 100, 8000, 0), (3, 160, 30, 189), (0, 101, 8000, 0), (3, 160, 29, 188), (0, 100, 8, 0), (3, 160, 28, 187), (0, 100, 48, 0), (3, 160, 27, 186), (0, 100, 48, 0), (3, 160, 26, 185), (0, 104, 48, 0), (3, 160, 25, 184), (0, 100, 8, 0), (3, 160, 24, 183), (0, 100, 128, 0), (3, 160, 23, 182), (0, 100, 128, 0), (3, 160, 22, 181), (0, 102, 128, 0), (3, 160, 21, 180), (0, 100, 128, 0), (3, 160, 20, 179), (0, 100, 128, 0), (3, 160, 19, 178), (0, 100, 128, 0), (3, 160, 18, 177), (0, 104, 128, 0), (3, 160, 17, 176), (0, 100, 8, 0), (3, 160, 16, 175), (0, 100, 768, 0), (3, 160, 15, 174), (0, 100, 768, 0), (3, 160, 14, 173), (0, 102, 768, 0), (3, 160, 13, 172), (0, 100, 768, 0), (3, 160, 12, 171), (0, 100, 768, 0), (3, 160, 11, 170), (0, 104, 768, 0), (3, 160, 10, 169), (0, 100, 8, 0), (3, 160, 9, 168), (0, 100, 192, 0), (3, 160, 8, 167), (0, 100, 64, 0), (3, 160, 7, 166), (0, 100, 192, 0), (3, 160, 6, 165), (0, 100, 64, 0), (3, 160, 5, 164), (0, 100, 64, 0), (3, 160, 4, 163), (0, 104, 64, 0), (3, 160, 3, 162), (0, 100, 8, 0), (3, 160, 0, 161), (0, 101, 3000, 0), (0, 13, 157, 0), (3, 64, 18, 155), (4, 113, 4, 16), (3, 64, 17, 150), (4, 113, 4, 16), (3, 64, 15, 149), (0, 100, 16, 0), (3, 64, 14, 148), (0, 100, 16, 0), (1, 64, 13, -2), (3, 64, 12, 147), (0, 100, 6, 0), (3, 64, 11, 146), (0, 100, 6, 0), (3, 64, 8, 143), (3, 143, 4, 145), (0, 100, 1000, 0), (3, 143, 3, 144), (0, 100, 1000, 0), (0, 3, 7, 0), (3, 64, 6, 142), (0, 5, 5, 0), (3, 64, 5, 141), (3, 141, 1, 2), (1, 141, 0, 0), (0, 0, 3, 0), (3, 64, 4, 140), (3, 140, 1, 2), (1, 140, 0, 0), (0, 0, 3, 0), (3, 64, 2, 88), (3, 90, 7, 136), (3, 136, 6, 139), (0, 100, 50, 0), (3, 136, 5, 138), (0, 100, 200, 0), (3, 136, 3, 137), (0, 100, 32, 0), (1, 136, 0, -2), (0, 10, 9, 0), (3, 90, 6, 132), (3, 132, 6, 135), (0, 100, 50, 0), (3, 132, 5, 134), (0, 100, 200, 0), (3, 132, 3, 133), (0, 100, 32, 0), (1, 132, 0, -2), (0, 10, 9, 0), (3, 90, 5, 128), (3, 128, 6, 131), (0, 100, 50, 0), (3, 128, 5, 130), (0, 100, 200, 0), (3, 128, 3, 129), (0, 100, 32, 0), (1, 128, 0, -2), (0, 10, 9, 0), (3, 90, 4, 124), (3, 124, 6, 127), (0, 100, 50, 0), (3, 124, 5, 126), (0, 100, 200, 0), (3, 124, 3, 125), (0, 100, 32, 0), (1, 124, 0, -2), (0, 10, 9, 0), (3, 90, 3, 120), (3, 120, 6, 123), (0, 100, 50, 0), (3, 120, 5, 122), (0, 100, 200, 0), (3, 120, 3, 121), (0, 100, 32, 0), (1, 120, 0, -2), (0, 10, 9, 0), (3, 90, 2, 116), (3, 116, 6, 119), (0, 100, 50, 0), (3, 116, 5, 118), (0, 100, 200, 0), (3, 116, 3, 117), (0, 100, 32, 0), (1, 116, 0, -2), (0, 10, 9, 0), (3, 90, 1, 112), (3, 112, 6, 115), (0, 100, 50, 0), (3, 112, 5, 114), (0, 100, 200, 0), (3, 112, 3, 113), (0, 100, 32, 0), (1, 112, 0, -2), (0, 10, 9, 0), (3, 90, 0, 108), (3, 108, 6, 111), (0, 100, 50, 0), (3, 108, 5, 110), (0, 100, 200, 0), (3, 108, 3, 109), (0, 100, 32, 0), (1, 108, 0, -2), (0, 10, 9, 0), (3, 88, 17, 107), (0, 100, 16, 0), (3, 88, 16, 106), (0, 100, 9600, 0), (3, 88, 13, 93), (4, 113, 12, 4), (3, 88, 11, 92), (0, 100, 2520, 0), (3, 88, 8, 91), (0, 111, 2, 0), (3, 88, 7, 90), (0, 112, 8, 0), (1, 88, 2, 1), (1, 88, 1, 200), (3, 88, 0, 89), (0, 5, 5, 0), (0, 4, 22, 0), (3, 64, 1, 87), (3, 87, 1, 2), (1, 87, 0, 0), (0, 0, 3, 0), (3, 64, 0, 65), (3, 65, 18, 84), (4, 114, 2, 1500), (3, 65, 17, 77), (4, 113, 6, 1500), (3, 65, 15, 76), (0, 104, 10, 0), (3, 65, 8, 75), (0, 102, 4096, 0), (3, 65, 7, 74), (0, 100, 4096, 0), (3, 65, 6, 73), (0, 100, 4096, 0), (3, 65, 5, 72), (0, 100, 4096, 0), (3, 65, 0, 66), (5, 71, 0, 0), (3, 66, 5, 71), (0, 104, 28, 0), (3, 66, 4, 70), (0, 104, 3001, 0), (3, 66, 3, 69), (0, 100, 3001, 0), (3, 66, 2, 68), (0, 100, 3001, 0), (3, 66, 0, 67), (0, 101, 3000, 0), (0, 9, 8, 0), (0, 7, 20, 0), (0, 12, 19, 0)]
set_option maxRecDepth 100000 in
set_option maxHeartbeats 4000000 in
theorem b_183 {L d : Nat} {xs : Nat → Int32} : runX (d + 5) 183 [va_rf (some 160)] (app (Minit L xs) LP183) = some (.null, app (Minit L xs) LQ183) := by
  rw [r183]; unfold b183; rw [aR_e, aZ_e]; unfold c183
  rw [lit_m1, nn_e, lit_3000, nA_c 161 (by decide +kernel) (by decide) (by decide), ptP_l (by decide +kernel), lit_8, nA_c 162 (by decide +kernel) (by decide) (by decide), ptP_l (by decide +kernel), lit_64, nA_c 163 (by decide +kernel) (by decide) (by decide), ptP_l (by decide +kernel), nA_c 164 (by decide +kernel) (by decide) (by decide)]
  rw [ptP_l (by decide +kernel), nA_c 165 (by decide +kernel) (by decide) (by decide), ptP_l (by decide +kernel), lit_192, nA_c 166 (by decide +kernel) (by decide) (by decide), ptP_l (by decide +kernel), nA_c 167 (by decide +kernel) (by decide) (by decide), ptP_l (by decide +kernel), nA_c 168 (by decide +kernel) (by decide) (by decide), ptP_l (by decide +kernel), nA_c 169 (by decide +kernel) (by decide) (by decide), ptP_l (by decide +kernel)]
  rw [lit_768, nA_c 170 (by decide +kernel) (by decide) (by decide), ptP_l (by decide +kernel), nA_c 171 (by decide +kernel) (by decide) (by decide), ptP_l (by decide +kernel), nA_c 172 (by decide +kernel) (by decide) (by decide), ptP_l (by decide +kernel), nA_c 173 (by decide +kernel) (by decide) (by decide), ptP_l (by decide +kernel), nA_c 174 (by decide +kernel) (by decide) (by decide), ptP_l (by decide +kernel), nA_c 175 (by decide +kernel) (by decide) (by decide)]
  rw [ptP_l (by decide +kernel), nA_c 176 (by decide +kernel) (by decide) (by decide), ptP_l (by decide +kernel), lit_128, nA_c 177 (by decide +kernel) (by decide) (by decide), ptP_l (by decide +kernel), nA_c 178 (by decide +kernel) (by decide) (by decide), ptP_l (by decide +kernel), nA_c 179 (by decide +kernel) (by decide) (by decide), ptP_l (by decide +kernel), nA_c 180 (by decide +kernel) (by decide) (by decide), ptP_l (by decide +kernel)]
  rw [nA_c 181 (by decide +kernel) (by decide) (by decide), ptP_l (by decide +kernel), nA_c 182 (by decide +kernel) (by decide) (by decide), ptP_l (by decide +kernel), nA_c 183 (by decide +kernel) (by decide) (by decide), ptP_l (by decide +kernel), nA_c 184 (by decide +kernel) (by decide) (by decide), ptP_l (by decide +kernel), lit_48, nA_c 185 (by decide +kernel) (by decide) (by decide), ptP_l (by decide +kernel), nA_c 186 (by decide +kernel) (by decide) (by decide)]
  rw [ptP_l (by decide +kernel), nA_c 187 (by decide +kernel) (by decide) (by decide), ptP_l (by decide +kernel), nA_c 188 (by decide +kernel) (by decide) (by decide), ptP_l (by decide +kernel), lit_8000, nA_c 189 (by decide +kernel) (by decide) (by decide), ptP_l (by decide +kernel), nA_c 190 (by decide +kernel) (by decide) (by decide), ptP_l (by decide +kernel), nA_c 191 (by decide +kernel) (by decide) (by decide), ptP_l (by decide +kernel)]
  rw [nA_c 192 (by decide +kernel) (by decide) (by decide), ptP_l (by decide +kernel), nA_c 193 (by decide +kernel) (by decide) (by decide), ptP_l (by decide +kernel), lit_28, nA_c 194 (by decide +kernel) (by decide) (by decide), cL_e (w187_2 (by decide +kernel)), lit_0, asL_l (n := 28) (by decide +kernel) (by decide) (by decide) (by decide), cL_e (w187_3 (by decide +kernel)), lit_1, asL_l (n := 28) (by decide +kernel) (by decide) (by decide) (by decide)]
  rw [cL_e (w187_4 (by decide +kernel)), lit_2, asL_l (n := 28) (by decide +kernel) (by decide) (by decide) (by decide), cL_e (w187_5 (by decide +kernel)), lit_3, asL_l (n := 28) (by decide +kernel) (by decide) (by decide) (by decide), cL_e (w187_6 (by decide +kernel)), lit_4, asL_l (n := 28) (by decide +kernel) (by decide) (by decide) (by decide), cL_e (w187_7 (by decide +kernel)), lit_5, asL_l (n := 28) (by decide +kernel) (by decide) (by decide) (by decide)]
  rw [cL_e (w187_8 (by decide +kernel)), lit_6, asL_l (n := 28) (by decide +kernel) (by decide) (by decide) (by decide), cL_e (w187_9 (by decide +kernel)), lit_7, asL_l (n := 28) (by decide +kernel) (by decide) (by decide) (by decide), cL_e (w187_10 (by decide +kernel)), asL_l (n := 28) (by decide +kernel) (by decide) (by decide) (by decide), cL_e (w187_11 (by decide +kernel)), lit_9, asL_l (n := 28) (by decide +kernel) (by decide) (by decide) (by decide), cL_e (w187_12 (by decide +kernel))]
  rw [lit_10, asL_l (n := 28) (by decide +kernel) (by decide) (by decide) (by decide), cL_e (w187_13 (by decide +kernel)), lit_11, asL_l (n := 28) (by decide +kernel) (by decide) (by decide) (by decide), cL_e (w187_14 (by decide +kernel)), lit_12, asL_l (n := 28) (by decide +kernel) (by decide) (by decide) (by decide), cL_e (w187_15 (by decide +kernel)), lit_13, asL_l (n := 28) (by decide +kernel) (by decide) (by decide) (by decide), cL_e (w187_16 (by decide +kernel))]
  rw [lit_14, asL_l (n := 28) (by decide +kernel) (by decide) (by decide) (by decide), cL_e (w187_17 (by decide +kernel)), lit_15, asL_l (n := 28) (by decide +kernel) (by decide) (by decide) (by decide), cL_e (w187_18 (by decide +kernel)), lit_16, asL_l (n := 28) (by decide +kernel) (by decide) (by decide) (by decide), cL_e (w187_19 (by decide +kernel)), lit_17, asL_l (n := 28) (by decide +kernel) (by decide) (by decide) (by decide), cL_e (w187_20 (by decide +kernel))]
  rw [lit_18, asL_l (n := 28) (by decide +kernel) (by decide) (by decide) (by decide), cL_e (w187_21 (by decide +kernel)), lit_19, asL_l (n := 28) (by decide +kernel) (by decide) (by decide) (by decide), cL_e (w187_22 (by decide +kernel)), lit_20, asL_l (n := 28) (by decide +kernel) (by decide) (by decide) (by decide), cL_e (w187_23 (by decide +kernel)), lit_21, asL_l (n := 28) (by decide +kernel) (by decide) (by decide) (by decide), cL_e (w187_24 (by decide +kernel))]
  rw [lit_22, asL_l (n := 28) (by decide +kernel) (by decide) (by decide) (by decide), cL_e (w187_25 (by decide +kernel)), lit_23, asL_l (n := 28) (by decide +kernel) (by decide) (by decide) (by decide), cL_e (w187_26 (by decide +kernel)), lit_24, asL_l (n := 28) (by decide +kernel) (by decide) (by decide) (by decide), cL_e (w187_27 (by decide +kernel)), lit_25, asL_l (n := 28) (by decide +kernel) (by decide) (by decide) (by decide), cL_e (w187_28 (by decide +kernel))]
  rw [lit_26, asL_l (n := 28) (by decide +kernel) (by decide) (by decide) (by decide), cL_e (w187_29 (by decide +kernel)), lit_27, asL_l (n := 28) (by decide +kernel) (by decide) (by decide) (by decide), ptP_l (by decide +kernel), lit_4000, nA_c 195 (by decide +kernel) (by decide) (by decide), ptP_l (by decide +kernel), nA_c 196 (by decide +kernel) (by decide) (by decide), ptP_l (by decide +kernel), nA_c 197 (by decide +kernel) (by decide) (by decide)]
  rw [ptP_l (by decide +kernel), nA_c 198 (by decide +kernel) (by decide) (by decide), ptP_l (by decide +kernel), nA_c 199 (by decide +kernel) (by decide) (by decide), ptP_l (by decide +kernel), lit_2000, nA_c 200 (by decide +kernel) (by decide) (by decide), ptP_l (by decide +kernel), nA_c 201 (by decide +kernel) (by decide) (by decide), ptP_l (by decide +kernel), nA_c 202 (by decide +kernel) (by decide) (by decide), ptP_l (by decide +kernel)]
  rw [nA_c 203 (by decide +kernel) (by decide) (by decide), ptP_l (by decide +kernel), nA_c 204 (by decide +kernel) (by decide) (by decide), ptP_l (by decide +kernel), nA_c 205 (by decide +kernel) (by decide) (by decide), ptP_l (by decide +kernel), nA_c 206 (by decide +kernel) (by decide) (by decide), ptP_l (by decide +kernel), nA_c 207 (by decide +kernel) (by decide) (by decide), ptP_l (by decide +kernel), nA_c 208 (by decide +kernel) (by decide) (by decide), ptP_l (by decide +kernel)]
  rw [nA_c 209 (by decide +kernel) (by decide) (by decide), ptP_l (by decide +kernel), nA_c 210 (by decide +kernel) (by decide) (by decide), ptP_l (by decide +kernel), nA_c 211 (by decide +kernel) (by decide) (by decide), ptP_l (by decide +kernel), lit_9600, nA_c 212 (by decide +kernel) (by decide) (by decide), ptP_l (by decide +kernel), nA_c 213 (by decide +kernel) (by decide) (by decide), ptP_l (by decide +kernel), lit_120]
  rw [nA_c 214 (by decide +kernel) (by decide) (by decide), ptP_l (by decide +kernel), lit_300, nA_c 215 (by decide +kernel) (by decide) (by decide), ptP_l (by decide +kernel), lit_200, ptI_l (by decide +kernel), ptI_l (by decide +kernel), ptI_l (by decide +kernel), nA_c 216 (by decide +kernel) (by decide) (by decide), ptP_l (by decide +kernel), nA_c 217 (by decide +kernel) (by decide) (by decide)]
  rw [ptP_l (by decide +kernel), nA_c 218 (by decide +kernel) (by decide) (by decide), ptP_l (by decide +kernel), lit_1001, nA_c 219 (by decide +kernel) (by decide) (by decide), ptP_l (by decide +kernel), nA_c 220 (by decide +kernel) (by decide) (by decide), ptP_l (by decide +kernel), nA_c 221 (by decide +kernel) (by decide) (by decide), ptP_l (by decide +kernel), nA_c 222 (by decide +kernel) (by decide) (by decide), ptP_l (by decide +kernel)]
  rw [nA_c 223 (by decide +kernel) (by decide) (by decide), ptP_l (by decide +kernel), nA_c 224 (by decide +kernel) (by decide) (by decide), ptP_l (by decide +kernel), nA_c 225 (by decide +kernel) (by decide) (by decide), ptP_l (by decide +kernel), nA_c 226 (by decide +kernel) (by decide) (by decide), ptP_l (by decide +kernel), nA_c 227 (by decide +kernel) (by decide) (by decide), asI_l (n := 8) (by decide +kernel) (by decide) (by decide) (by decide), asI_l (n := 8) (by decide +kernel) (by decide) (by decide) (by decide), asI_l (n := 8) (by decide +kernel) (by decide) (by decide) (by decide)]
  rw [asI_l (n := 8) (by decide +kernel) (by decide) (by decide) (by decide), asI_l (n := 8) (by decide +kernel) (by decide) (by decide) (by decide), asI_l (n := 8) (by decide +kernel) (by decide) (by decide) (by decide), asI_l (n := 8) (by decide +kernel) (by decide) (by decide) (by decide), asI_l (n := 8) (by decide +kernel) (by decide) (by decide) (by decide), ptP_l (by decide +kernel), nA_c 228 (by decide +kernel) (by decide) (by decide), ptP_l (by decide +kernel), nA_c 229 (by decide +kernel) (by decide) (by decide), ptP_l (by decide +kernel), nA_c 230 (by decide +kernel) (by decide) (by decide), ptP_l (by decide +kernel)]
  rw [nA_c 231 (by decide +kernel) (by decide) (by decide), ptP_l (by decide +kernel), nA_c 232 (by decide +kernel) (by decide) (by decide), ptP_l (by decide +kernel), nA_c 233 (by decide +kernel) (by decide) (by decide), ptP_l (by decide +kernel), nA_c 234 (by decide +kernel) (by decide) (by decide), ptP_l (by decide +kernel), nA_c 235 (by decide +kernel) (by decide) (by decide), ptP_l (by decide +kernel), lit_400, nA_c 236 (by decide +kernel) (by decide) (by decide)]
  rw [ptP_l (by decide +kernel), lit_1600, nA_c 237 (by decide +kernel) (by decide) (by decide), ptP_l (by decide +kernel), nA_c 238 (by decide +kernel) (by decide) (by decide), ptP_l (by decide +kernel), nA_c 239 (by decide +kernel) (by decide) (by decide), ptP_l (by decide +kernel), lit_1000, nA_c 240 (by decide +kernel) (by decide) (by decide), ptP_l (by decide +kernel), nA_c 241 (by decide +kernel) (by decide) (by decide)]
  rw [ptP_l (by decide +kernel), nA_c 242 (by decide +kernel) (by decide) (by decide), ptP_l (by decide +kernel), nA_c 243 (by decide +kernel) (by decide) (by decide), ptP_l (by decide +kernel), nA_c 244 (by decide +kernel) (by decide) (by decide), ptP_l (by decide +kernel), nA_c 245 (by decide +kernel) (by decide) (by decide), ptP_l (by decide +kernel), nA_c 246 (by decide +kernel) (by decide) (by decide), ptP_l (by decide +kernel), nA_c 247 (by decide +kernel) (by decide) (by decide)]
  rw [ptP_l (by decide +kernel), nA_c 248 (by decide +kernel) (by decide) (by decide), ptP_l (by decide +kernel), nA_c 249 (by decide +kernel) (by decide) (by decide), ptP_l (by decide +kernel), nA_c 250 (by decide +kernel) (by decide) (by decide), ptP_l (by decide +kernel), nA_c 251 (by decide +kernel) (by decide) (by decide), ptP_l (by decide +kernel), nA_c 252 (by decide +kernel) (by decide) (by decide), ptP_l (by decide +kernel), nA_c 253 (by decide +kernel) (by decide) (by decide)]
  rw [ptP_l (by decide +kernel), nA_c 254 (by decide +kernel) (by decide) (by decide), ptP_l (by decide +kernel), nA_c 255 (by decide +kernel) (by decide) (by decide), ptP_l (by decide +kernel), nA_c 256 (by decide +kernel) (by decide) (by decide), ptP_l (by decide +kernel), nA_c 257 (by decide +kernel) (by decide) (by decide), ptP_l (by decide +kernel), nA_c 258 (by decide +kernel) (by decide) (by decide), ptP_l (by decide +kernel)]
  exact congrArg (fun z => some (Value.null, app (Minit L xs) z)) (by decide +kernel : _ = _)
