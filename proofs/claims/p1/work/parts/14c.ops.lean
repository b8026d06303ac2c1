/-! a memory as the list of what was done to the law's own, the newest first: (0, tag, length, _) a new cell; (1, a, j, v) a number; (2, a, j, v) a long; (3, a, j, v) a reference; (4, tag, n, k) rows of rows; (5, a, 0, _) the words -/
abbrev Op : Type := Nat × Nat × Nat × Int
/-- the scanner's words out of one text -/
def rowS (s : Nat × List Int64) (c : Int32) : Nat × List Int64 := if c = 32 then (s.1 + 1, s.2) else (s.1, s.2.set s.1 ((s.2.getD s.1 0 <<< (Int32.toInt64 (8 : Int32) &&& 63)) ||| c.toInt64))
def rsL (k : Nat) : Nat × List Int64 := ((sby 0).take k).foldl rowS (0, List.replicate 28 0)
def wrdL : List Int64 := (rsL 143).2
def stp (M : Mem) (o : Op) : Mem :=
  if o.1 = 0 then nw M o.2.1 o.2.2.1 else if o.1 = 1 then sI M o.2.1 o.2.2.1 (iI o.2.2.2) else if o.1 = 2 then sL M o.2.1 o.2.2.1 (Int64.ofInt o.2.2.2) else if o.1 = 3 then sP M o.2.1 o.2.2.1 (some o.2.2.2.toNat) else if o.1 = 4 then nwAA M o.2.1 (if o.2.1 = 113 then 100 else 104) o.2.2.1 o.2.2.2.toNat else (M.1, fun b j => if b = o.2.1 then wrdL.getD j 0 else M.2.1 b j, M.2.2)
def app (M : Mem) : List Op → Mem
  | [] => M
  | o :: l => stp (app M l) o
def kl : List Op → List (Nat × Nat)
  | [] => []
  | o :: l => if o.1 = 0 then kl l ++ [(o.2.1, o.2.2.1)] else if o.1 = 4 then kl l ++ (o.2.1, o.2.2.1) :: List.replicate o.2.2.1 (if o.2.1 = 113 then 100 else 104, o.2.2.2.toNat) else kl l
theorem app_k (M : Mem) : ∀ l, (app M l).2.2.2 = M.2.2.2 ++ kl l
  | [] => by simp [app, kl]
  | o :: l => by
    have ih := app_k M l
    unfold app kl stp
    by_cases h0 : o.1 = 0
    · rw [if_pos h0, if_pos h0, k_nw, ih, List.append_assoc]
    · rw [if_neg h0, if_neg h0]
      by_cases h1 : o.1 = 1
      · rw [if_pos h1, if_neg (by omega)]; exact ih
      · rw [if_neg h1]
        by_cases h2 : o.1 = 2
        · rw [if_pos h2, if_neg (by omega)]; exact ih
        · rw [if_neg h2]
          by_cases h3 : o.1 = 3
          · rw [if_pos h3, if_neg (by omega)]; exact ih
          · rw [if_neg h3]
            by_cases h4 : o.1 = 4
            · rw [if_pos h4, if_pos h4]
              show (app M l).2.2.2 ++ _ = _
              rw [ih, List.append_assoc]
            · rw [if_neg h4, if_neg h4]; exact ih
def kA (l : List Op) (a : Nat) : Option (Nat × Nat) := if a < 64 then none else (kl l)[a - 64]?
def nl (l : List Op) : Nat := 64 + (kl l).length
/-- all that is written lies in cells that were made before -/
def vOK : List Op → Bool
  | [] => true
  | o :: l => (vOK l && decide (o.1 ≤ 5)) && (decide (o.1 = 0) || decide (o.1 = 4) || (decide (64 ≤ o.2.1) && decide (o.2.1 < nl l)))
section OPS
variable {L : Nat} {xs : Nat → Int32} {l : List Op} {a j n : Nat} {t : Nat × Nat} {v : Nat} {z : Int}
theorem kA_ok (h : kA l a = some t) : (app (Minit L xs) l).2.2.2[a]? = some t := by
  unfold kA at h
  by_cases ha : a < 64
  · rw [if_pos ha] at h; cases h
  · rw [if_neg ha] at h
    rw [app_k, List.getElem?_append_right (by rw [Minit_len]; omega), Minit_len]
    exact h
theorem nl_ok : (app (Minit L xs) l).2.2.2.length = nl l := by rw [app_k, List.length_append, Minit_len]; rfl
theorem ptP_l {k : Mem → XA} (h : kA l a = some t) : ptP t (app (Minit L xs) l) (some a) j (some v) k = k (app (Minit L xs) ((3, a, j, (v : Int)) :: l)) := by
  rw [ptP_e (kA_ok h)]
  rfl
theorem ptI_l {k : Mem → XA} (h : kA l a = some t) : ptI t (app (Minit L xs) l) (some a) j (iI z) k = k (app (Minit L xs) ((1, a, j, z) :: l)) := by
  rw [ptI_e (kA_ok h)]
  rfl
theorem ptZ_l {k : Mem → XA} (h : kA l a = some t) (hz : z = 0 ∨ z = 1) : ptZ t (app (Minit L xs) l) (some a) j (iI z) k = k (app (Minit L xs) ((1, a, j, z) :: l)) := by
  rw [ptZ_e (kA_ok h) (by rcases hz with rfl | rfl <;> decide +kernel)]
  rfl
theorem nO_l {k : Option Nat → Mem → XA} : nO t (app (Minit L xs) l) k = k (some (nl l)) (app (Minit L xs) ((0, t.1, t.2, 0) :: l)) := by
  rw [nO_e, nl_ok]
  rfl
theorem nA_l {u : Nat} {k : Option Nat → Mem → XA} (h0 : 0 ≤ z) (h1 : z ≤ 100000) : nA u (app (Minit L xs) l) (iI z) k = k (some (nl l)) (app (Minit L xs) ((0, u, z.toNat, 0) :: l)) := by
  rw [nA_e h0 h1, nl_ok]
  rfl
theorem nAA_l {u : Nat} {y : Int} {k : Option Nat → Mem → XA} (hu : u = 113 ∨ u = 114) (h0 : 0 ≤ z) (h1 : z ≤ 100000) (h2 : 0 ≤ y) (h3 : y ≤ 100000) : nAA u (if u = 113 then 100 else 104) (app (Minit L xs) l) (iI z) (iI y) k = k (some (nl l)) (app (Minit L xs) ((4, u, z.toNat, y) :: l)) := by
  rw [nAA_e h0 h1 h2 h3, nl_ok]
  rfl
theorem vC_l {x : XA} (h : kA l a = some t) : vC t (app (Minit L xs) l) (some a) x = x := vC_e (kA_ok h)
theorem cV_s {v : Value} {M : Mem} {k : Mem → XA} : cV (some (v, M)) k = k M := rfl
theorem asI_l {u : Nat} {y : Int} {k : Mem → XA} (h : kA l a = some (u, n)) (h0 : 0 ≤ z) (h1 : z < n) (h2 : z < 2147483648) : asI u (app (Minit L xs) l) (some a) (iI z) (iI y) k = k (app (Minit L xs) ((1, a, z.toNat, y) :: l)) := by
  rw [asI_e (kA_ok h) h0 h1 h2]
  rfl
theorem app_old (hv : vOK l = true) (ha : a < 64) (j : Nat) : (app (Minit L xs) l).1 a j = (Minit L xs).1 a j := by
  induction l with
  | nil => rfl
  | cons o l ih =>
    simp only [vOK, Bool.and_eq_true, Bool.or_eq_true, decide_eq_true_eq] at hv
    have ih := ih hv.1.1
    unfold app stp
    by_cases h0 : o.1 = 0
    · rw [if_pos h0]
      show clr _ _ _ a j = _
      unfold clr
      rw [if_neg (by rw [nl_ok]; unfold nl; omega)]
      exact ih
    · rw [if_neg h0]
      by_cases h1 : o.1 = 1
      · rw [if_pos h1]
        show up2 _ _ _ _ a j = _
        unfold up2
        rw [if_neg (by omega)]
        exact ih
      · rw [if_neg h1]
        by_cases h2 : o.1 = 2
        · rw [if_pos h2]; exact ih
        · rw [if_neg h2]
          by_cases h3 : o.1 = 3
          · rw [if_pos h3]; exact ih
          · rw [if_neg h3]
            by_cases h4 : o.1 = 4
            · rw [if_pos h4]
              show (if a < _ then _ else _) = _
              rw [if_pos (by rw [nl_ok]; unfold nl; omega)]
              exact ih
            · rw [if_neg h4]; exact ih
theorem app_ok (hv : vOK l = true) : OldOK L xs (app (Minit L xs) l) := ⟨fun a ha => by rw [app_k, List.getElem?_append_left (by rw [Minit_len]; exact ha)]; exact Minit_k ha, fun a j ha => app_old hv ha j⟩
end OPS
