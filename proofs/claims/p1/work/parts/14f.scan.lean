theorem rsL_0 : rsL 0 = (0, List.replicate 28 0) := rfl
theorem rsL_s {k : Nat} (hk : k < (sby 0).length) : rsL (k + 1) = rowS (rsL k) ((sby 0).getD k 0) := by
  unfold rsL
  rw [List.take_succ_eq_append_getElem hk, List.foldl_append, List.getD_eq_getElem?_getD, List.getElem?_eq_getElem hk]
  rfl
theorem sby0 : (sby 0).length = 143 := by decide +kernel
theorem rsL_w : ∀ k, k < 143 → (rsL k).1 < 28 := by decide +kernel
theorem rsL_len : ∀ k, k ≤ 143 → (rsL k).2.length = 28
  | 0, _ => rfl
  | k + 1, h => by
    rw [rsL_s (by rw [sby0]; omega)]
    unfold rowS
    split
    · exact rsL_len k (by omega)
    · rw [List.length_set]; exact rsL_len k (by omega)
/-- the words' row in a memory -/
def setL (M : Mem) (w : Nat) (r : List Int64) : Mem := (M.1, fun b j => if b = w then r.getD j 0 else M.2.1 b j, M.2.2)
theorem setL_s {M : Mem} {w i : Nat} {r : List Int64} {v : Int64} (hi : i < r.length) : sL (setL M w r) w i v = setL M w (r.set i v) := by
  have : up2 (setL M w r).2.1 w i v = (setL M w (r.set i v)).2.1 := by
    funext b j
    show (if b = w then (if j = i then v else (if b = w then r.getD j 0 else M.2.1 b j)) else (if b = w then r.getD j 0 else M.2.1 b j)) = if b = w then (r.set i v).getD j 0 else M.2.1 b j
    by_cases hb : b = w
    · rw [if_pos hb, if_pos hb, if_pos hb]
      rw [List.getD_eq_getElem?_getD, List.getD_eq_getElem?_getD, List.getElem?_set]
      by_cases hj : j = i
      · subst hj
        rw [if_pos rfl, if_pos rfl, if_pos hi]
        rfl
      · rw [if_neg hj, if_neg (Ne.symm hj)]
    · rw [if_neg hb, if_neg hb, if_neg hb]
  show ((setL M w r).1, up2 (setL M w r).2.1 w i v, (setL M w r).2.2) = _
  rw [this]
  rfl
theorem i28 : (28 : Int32) = iI 28 := by decide +kernel
theorem e111_52 {L : Nat} {xs : Nat → Int32} {M : Mem} (h : OldOK L xs M) {d a w : Nat} (ha : M.2.2.2[a]? = some (9, 8)) (hp : M.2.2.1 a 5 = some w) (hw : M.2.2.2[w]? = some (104, 28)) : ∀ (m k N : Nat), k + m = 143 → m < N → ∀ J : Mem → XA, lp (c111_52 (runX (d + 3)) (some a) J) N (iI (rsL k).1, iI k, setL M w (rsL k).2) = J (setL M w wrdL)
  | m, k, 0, _, hN, _ => by omega
  | m, k, N + 1, hm, hN, J => by
    have hO : OldOK L xs (setL M w (rsL k).2) := ⟨h.1, h.2⟩
    have hs := sby0
    rw [lp_e]
    generalize hK : lp (c111_52 (runX (d + 3)) (some a) J) N = K
    unfold c111_52
    have e1 := e320 (d := d + 1) hO (i := 0) (by decide)
    rw [vS_e (by decide), show (3 : Nat) = 3 + 0 from rfl, cI_e e1, hs]
    cases m with
    | zero =>
      have hk : k = 143 := by omega
      subst hk
      rw [if_pos (by rw [iI_le (by decide) (by decide) (by decide) (by decide)]; decide)]
      rfl
    | succ m =>
      have hw28 := rsL_w k (by omega)
      rw [if_neg (by rw [iI_le (by omega) (by omega) (by omega) (by omega)]; omega), i28, if_neg (by rw [iI_le (by omega) (by omega) (by omega) (by omega)]; omega), vS_e (by decide), cI_e (e321 (d := d) hO (by decide) (by omega)), jn_e]
      have ih := e111_52 h (d := d) ha hp hw m (k + 1) N (by omega) (by omega) J
      rw [hK] at ih
      rw [rsL_s (by omega)] at ih
      unfold rowS at ih
      by_cases hc : (sby 0).getD k 0 = 32
      · rw [if_pos hc] at ih
        rw [if_pos hc]
        show K (iI ((rsL k).1 : Int) + 1, iI (k : Int) + 1, setL M w (rsL k).2) = _
        rw [iI_1, iI_add, iI_add]
        exact ih
      · rw [if_neg hc] at ih
        rw [if_neg hc]
        have ha' : (setL M w (rsL k).2).2.2.2[a]? = some (9, 8) := ha
        have hw' : (setL M w (rsL k).2).2.2.2[w]? = some (104, 28) := hw
        have hp' : (setL M w (rsL k).2).2.2.1 a 5 = some w := hp
        have hv : (setL M w (rsL k).2).2.1 w (Int.toNat ((rsL k).1 : Int)) = (rsL k).2.getD (rsL k).1 0 := by
          show (if w = w then _ else _) = _
          rw [if_pos rfl]
          rfl
        rw [gtP_e ha', gtP_e ha', hp', alL_e hw' (by omega) (by omega) (by omega), asL_e hw' (by omega) (by omega) (by omega), hv]
        rw [show (Int.toNat ((rsL k).1 : Int)) = (rsL k).1 from rfl, setL_s (by rw [rsL_len k (by omega)]; exact hw28)]
        show K (iI ((rsL k).1 : Int), iI (k : Int) + 1, _) = _
        rw [iI_1, iI_add]
        exact ih
def o111 (a n : Nat) : List Op := [(5, n + 4, 0, 0), (3, a, 5, (n : Int) + 4), (0, 104, 28, 0), (3, a, 4, (n : Int) + 3), (0, 104, 3001, 0), (3, a, 3, (n : Int) + 2), (0, 100, 3001, 0), (3, a, 2, (n : Int) + 1), (0, 100, 3001, 0), (3, a, 0, n), (0, 101, 3000, 0)]
theorem kA_new {l : List Op} {t k : Nat} {z : Int} : kA ((0, t, k, z) :: l) (nl l) = some (t, k) := by
  unfold kA nl
  rw [if_neg (by omega), kl_c]
  show (kl l ++ [(t, k)])[64 + (kl l).length - 64]? = _
  rw [show 64 + (kl l).length - 64 = (kl l).length by omega]
  simp
theorem kA_1 {l : List Op} {a b j : Nat} {z : Int} : kA ((1, b, j, z) :: l) a = kA l a := rfl
theorem kA_3 {l : List Op} {a b j : Nat} {z : Int} : kA ((3, b, j, z) :: l) a = kA l a := rfl
theorem i111 {L : Nat} {xs : Nat → Int32} {l : List Op} {a d : Nat} (h : kA l a = some (9, 8)) (hv : vOK l = true) : runX (d + 4) 111 [va_rf (some a)] (app (Minit L xs) l) = some (.null, app (Minit L xs) (o111 a (nl l) ++ l)) := by
  have hal : 64 ≤ a ∧ a < nl l := by
    unfold kA at h
    by_cases ha : a < 64
    · rw [if_pos ha] at h; cases h
    · rw [if_neg ha] at h
      have := (List.getElem?_eq_some_iff.mp h).1
      unfold nl
      omega
  rw [r111]; unfold b111; rw [aR_e, aZ_e]; unfold c111
  rw [nn_e, show (3000 : Int32) = iI 3000 by decide +kernel, show (3001 : Int32) = iI 3001 by decide +kernel, i28, nA_l (by decide) (by decide), ptP_l (kA_n h), nA_l (by decide) (by decide), ptP_l (kA_n (kA_n (kA_n h))), nA_l (by decide) (by decide), ptP_l (kA_n (kA_n (kA_n (kA_n (kA_n h))))), nA_l (by decide) (by decide), ptP_l (kA_n (kA_n (kA_n (kA_n (kA_n (kA_n (kA_n h))))))), nA_l (by decide) (by decide), ptP_l (kA_n (kA_n (kA_n (kA_n (kA_n (kA_n (kA_n (kA_n (kA_n h))))))))), jn_e]
  simp only [nl_3, nl_0]
  generalize hl' : ((3, a, 5, ((nl l + 1 + 1 + 1 + 1 : Nat) : Int)) :: (0, 104, Int.toNat 28, 0) :: (3, a, 4, ((nl l + 1 + 1 + 1 : Nat) : Int)) :: (0, 104, Int.toNat 3001, 0) :: (3, a, 3, ((nl l + 1 + 1 : Nat) : Int)) :: (0, 100, Int.toNat 3001, 0) :: (3, a, 2, ((nl l + 1 : Nat) : Int)) :: (0, 100, Int.toNat 3001, 0) :: (3, a, 0, ((nl l : Nat) : Int)) :: (0, 101, Int.toNat 3000, 0) :: l : List Op) = l'
  have hv' : vOK l' = true := by
    subst hl'
    simp [vOK, hv, nl_3, nl_0]
    omega
  have ha' : kA l' a = some (9, 8) := by
    subst hl'
    exact kA_n (kA_n (kA_n (kA_n (kA_n (kA_n (kA_n (kA_n (kA_n (kA_n h)))))))))
  have hw' : kA l' (nl l + 4) = some (104, 28) := by
    subst hl'
    rw [kA_3]
    have e : nl ((3, a, 4, ((nl l + 1 + 1 + 1 : Nat) : Int)) :: (0, 104, Int.toNat 3001, 0) :: (3, a, 3, ((nl l + 1 + 1 : Nat) : Int)) :: (0, 100, Int.toNat 3001, 0) :: (3, a, 2, ((nl l + 1 : Nat) : Int)) :: (0, 100, Int.toNat 3001, 0) :: (3, a, 0, ((nl l : Nat) : Int)) :: (0, 101, Int.toNat 3000, 0) :: l : List Op) = nl l + 4 := by simp only [nl_3, nl_0]
    rw [← e]
    exact kA_new
  have hp' : (app (Minit L xs) l').2.2.1 a 5 = some (nl l + 4) := by
    rw [app_p hv']
    subst hl'
    show (if 3 = 3 ∧ a = a ∧ 5 = 5 then _ else _) = _
    rw [if_pos ⟨rfl, rfl, rfl⟩]
    rfl
  have hz : setL (app (Minit L xs) l') (nl l + 4) (rsL 0).2 = app (Minit L xs) l' := by
    have e : (fun b j => if b = nl l + 4 then (rsL 0).2.getD j 0 else (app (Minit L xs) l').2.1 b j) = (app (Minit L xs) l').2.1 := by
      funext b j
      by_cases hb : b = nl l + 4
      · rw [if_pos hb, app_l hv', hb]
        have : lO l' (nl l + 4) j = 0 := by
          subst hl'
          show lO l (nl l + 4) j = 0
          exact lO_none hv (by omega)
        rw [this, rsL_0, List.getD_eq_getElem?_getD, List.getElem?_replicate]
        split <;> rfl
      · rw [if_neg hb]
    show ((app (Minit L xs) l').1, _, (app (Minit L xs) l').2.2) = _
    rw [e]
  have key := e111_52 (d := d) (app_ok (L := L) (xs := xs) hv') (kA_ok ha') hp' (kA_ok hw') 143 0 4294967296 (by omega) (by omega) (fun s16 => some (.null, s16))
  rw [hz] at key
  rw [iI_0]
  refine key.trans ?_
  subst hl'
  rfl
