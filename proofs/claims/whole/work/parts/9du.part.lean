/-! two rows of DRAWS: the same is done up to where they differ -/
/-- as s, but for WORK and what is told of DRAWS: that is w's -/
def zmx (s w : ZS) : ZS := (fun k i j => if k = 12 ∨ k = 14 then w.1 k i j else s.1 k i j, fun k i j => if k = 9 ∨ k = 10 then w.2 k i j else s.2 k i j)
def zSm (A B : ZS) : Prop := (∀ (k : Nat) (i j : Int), k ≠ 12 → k ≠ 14 → B.1 k i j = A.1 k i j) ∧ ∀ (k : Nat) (i j : Int), k ≠ 9 → k ≠ 10 → B.2 k i j = A.2 k i j
def zAg (D : Int → Int32) (A : ZS) : Prop := ∀ i : Int, 0 ≤ i → i < A.1 14 0 0 → A.2 9 i 0 = D i
/-- B has t DRAWS told, all but the last one as D has them; fewer were done -/
def zLq (D : Int → Int32) (t : Int) (A B : ZS) : Prop := zSm A B ∧ B.1 14 0 0 = t ∧ (0 ≤ A.1 11 0 0 ∧ A.1 11 0 0 < t) ∧ A.1 11 0 0 ≤ A.1 14 0 0 ∧ ∀ i : Int, 0 ≤ i → i < t - 1 → B.2 9 i 0 = D i
/-- a DRAW of which x comes -/
def zdr (s : ZS) (x : Int32) : ZS := zi (znx (zpush (zdn s 1) x)) 11 0 0 (s.1 11 0 0 + 1)
section S9du
variable {e s s' t u w A B A' B' X Y uA uB : ZS} {o n i j k V m ov en par d r v x : Int} {y : Int32} {q : Nat} {K : Nat → Int} {F : Nat → Int → Int} {Fa Wh : Int32} {D : Int → Int32} {tt : Int}
theorem zmx_i (h : q ≠ 12 ∧ q ≠ 14) : zi (zmx s w) q i j v = zmx (zi s q i j v) w := by
  refine Prod.ext (funext fun k' => funext fun i' => funext fun j' => ?_) rfl
  show (if k' = q ∧ i' = i ∧ j' = j then v else if k' = 12 ∨ k' = 14 then w.1 k' i' j' else s.1 k' i' j') = if k' = 12 ∨ k' = 14 then w.1 k' i' j' else if k' = q ∧ i' = i ∧ j' = j then v else s.1 k' i' j'
  by_cases a : k' = q ∧ i' = i ∧ j' = j
  · rw [if_pos a, if_neg (by omega), if_pos a]
  · rw [if_neg a, if_neg a]
theorem zmx_w (h : q ≠ 9 ∧ q ≠ 10) : zw (zmx s w) q i j y = zmx (zw s q i j y) w := by
  refine Prod.ext rfl (funext fun k' => funext fun i' => funext fun j' => ?_)
  show (if k' = q ∧ i' = i ∧ j' = j then y else if k' = 9 ∨ k' = 10 then w.2 k' i' j' else s.2 k' i' j') = if k' = 9 ∨ k' = 10 then w.2 k' i' j' else if k' = q ∧ i' = i ∧ j' = j then y else s.2 k' i' j'
  by_cases a : k' = q ∧ i' = i ∧ j' = j
  · rw [if_pos a, if_neg (by omega), if_pos a]
  · rw [if_neg a, if_neg a]
/-- what is not looked at -/
theorem zmx_14 : zmx (zi s 14 i j v) w = zmx s w := by
  refine Prod.ext (funext fun k' => funext fun i' => funext fun j' => ?_) rfl
  show (if k' = 12 ∨ k' = 14 then w.1 k' i' j' else if k' = 14 ∧ i' = i ∧ j' = j then v else s.1 k' i' j') = if k' = 12 ∨ k' = 14 then w.1 k' i' j' else s.1 k' i' j'
  by_cases a : k' = 12 ∨ k' = 14
  · rw [if_pos a, if_pos a]
  · rw [if_neg a, if_neg a, if_neg (by omega)]
theorem zmx_9 (h : q = 9 ∨ q = 10) : zmx (zw s q i j y) w = zmx s w := by
  refine Prod.ext rfl (funext fun k' => funext fun i' => funext fun j' => ?_)
  show (if k' = 9 ∨ k' = 10 then w.2 k' i' j' else if k' = q ∧ i' = i ∧ j' = j then y else s.2 k' i' j') = if k' = 9 ∨ k' = 10 then w.2 k' i' j' else s.2 k' i' j'
  by_cases a : k' = 9 ∨ k' = 10
  · rw [if_pos a, if_pos a]
  · rw [if_neg a, if_neg a, if_neg (by omega)]
theorem zmx_dn : zdn (zmx s w) v = zmx (zdn s v) w := by
  show zi (zmx s w) 3 (zf s) 0 (zh s - v) = _
  rw [zmx_i (by decide)]
  rfl
theorem zmx_push : zpush (zmx s w) y = zmx (zpush s y) w := by
  show zi (zw (zmx s w) 1 (zf s) (zh s) y) 3 (zf s) 0 (zh s + 1) = _
  rw [zmx_w (by decide), zmx_i (by decide)]
  rfl
theorem zmx_go : zgo (zmx s w) v = zmx (zgo s v) w := by
  show zi (zmx s w) 2 (zf s) 0 v = _
  rw [zmx_i (by decide)]
  rfl
theorem zmx_nx : znx (zmx s w) = zmx (znx s) w := by
  show zgo (zmx s w) (zpc s + 1) = _
  rw [zmx_go]
  rfl
theorem zmx_err : zerr (zmx s w) y v = zmx (zerr s y v) w := by
  show zi (zi (zw (zmx s w) 5 0 0 y) 13 0 0 (zpc s)) 1 0 0 v = _
  rw [zmx_w (by decide), zmx_i (by decide), zmx_i (by decide)]
  rfl
theorem zmx_ent : zent (zmx s w) i j k v = zmx (zent s i j k v) w := by
  show zi (zi (zi (zi (zi (zi (zi (zmx s w) 2 (s.1 0 0 0) 0 i) 3 (s.1 0 0 0) 0 0) 4 (s.1 0 0 0) 0 0) 5 (s.1 0 0 0) 0 j) 6 (s.1 0 0 0) 0 k) 16 (s.1 0 0 0) 0 v) 0 0 0 (s.1 0 0 0 + 1) = _
  rw [zmx_i (by decide), zmx_i (by decide), zmx_i (by decide), zmx_i (by decide), zmx_i (by decide), zmx_i (by decide), zmx_i (by decide)]
  rfl
theorem zmx_hear : zhear (zmx s w) d par r = zmx (zhear s d par r) w := by
  refine Prod.ext (funext fun k' => funext fun i' => funext fun j' => ?_) (funext fun k' => funext fun i' => funext fun j' => ?_)
  · show (if k' = 17 ∧ i' = d ∧ j' = 0 then s.1 17 d 0 + 1 else if k' = 12 ∨ k' = 14 then w.1 k' i' j' else s.1 k' i' j') = if k' = 12 ∨ k' = 14 then w.1 k' i' j' else if k' = 17 ∧ i' = d ∧ j' = 0 then s.1 17 d 0 + 1 else s.1 k' i' j'
    by_cases a : k' = 17 ∧ i' = d ∧ j' = 0
    · rw [if_pos a, if_neg (by omega), if_pos a]
    · rw [if_neg a, if_neg a]
  · show (if k' = 12 ∧ i' = d ∧ j' = s.1 17 d 0 ∧ s.1 17 d 0 < 50 then iI r else if k' = 13 ∧ i' = d ∧ s.1 17 d 0 < 50 ∧ 4 * s.1 17 d 0 ≤ j' ∧ j' < 4 * s.1 17 d 0 + par then s.2 1 (zf s) (zh s - par + (j' - 4 * s.1 17 d 0)) else if k' = 9 ∨ k' = 10 then w.2 k' i' j' else s.2 k' i' j') = if k' = 9 ∨ k' = 10 then w.2 k' i' j' else if k' = 12 ∧ i' = d ∧ j' = s.1 17 d 0 ∧ s.1 17 d 0 < 50 then iI r else if k' = 13 ∧ i' = d ∧ s.1 17 d 0 < 50 ∧ 4 * s.1 17 d 0 ≤ j' ∧ j' < 4 * s.1 17 d 0 + par then s.2 1 (zf s) (zh s - par + (j' - 4 * s.1 17 d 0)) else s.2 k' i' j'
    by_cases a : k' = 12 ∧ i' = d ∧ j' = s.1 17 d 0 ∧ s.1 17 d 0 < 50
    · rw [if_pos a, if_neg (by omega), if_pos a]
    rw [if_neg a, if_neg a]
    by_cases b : k' = 13 ∧ i' = d ∧ s.1 17 d 0 < 50 ∧ 4 * s.1 17 d 0 ≤ j' ∧ j' < 4 * s.1 17 d 0 + par
    · rw [if_pos b, if_neg (by omega), if_pos b]
    · rw [if_neg b, if_neg b]
theorem zmx_arg : zarg (zmx s w) par = zmx (zarg s par) w := by
  refine Prod.ext rfl (funext fun k' => funext fun i' => funext fun j' => ?_)
  show (if k' = 0 ∧ i' = s.1 0 0 0 ∧ 0 ≤ j' ∧ j' < par then s.2 1 (zf s) (zh s - par + j') else if k' = 9 ∨ k' = 10 then w.2 k' i' j' else s.2 k' i' j') = if k' = 9 ∨ k' = 10 then w.2 k' i' j' else if k' = 0 ∧ i' = s.1 0 0 0 ∧ 0 ≤ j' ∧ j' < par then s.2 1 (zf s) (zh s - par + j') else s.2 k' i' j'
  by_cases a : k' = 0 ∧ i' = s.1 0 0 0 ∧ 0 ≤ j' ∧ j' < par
  · rw [if_pos a, if_neg (by omega), if_pos a]
  · rw [if_neg a, if_neg a]
theorem zmx_init : zinit e (zmx s w) k = zmx (zinit e s k) w := by
  refine Prod.ext rfl (funext fun k' => funext fun i' => funext fun j' => ?_)
  show (if k' = 2 ∧ e.1 3 i' 0 = k ∧ e.1 4 i' 0 = 1 then e.2 0 i' 0 else if k' = 3 ∧ e.1 3 i' 0 = k ∧ e.1 4 i' 0 = 3 then 0 else if k' = 9 ∨ k' = 10 then w.2 k' i' j' else s.2 k' i' j') = if k' = 9 ∨ k' = 10 then w.2 k' i' j' else if k' = 2 ∧ e.1 3 i' 0 = k ∧ e.1 4 i' 0 = 1 then e.2 0 i' 0 else if k' = 3 ∧ e.1 3 i' 0 = k ∧ e.1 4 i' 0 = 3 then 0 else s.2 k' i' j'
  by_cases a : k' = 2 ∧ e.1 3 i' 0 = k ∧ e.1 4 i' 0 = 1
  · rw [if_pos a, if_neg (by omega), if_pos a]
  rw [if_neg a, if_neg a]
  by_cases b : k' = 3 ∧ e.1 3 i' 0 = k ∧ e.1 4 i' 0 = 3
  · rw [if_pos b, if_neg (by omega), if_pos b]
  · rw [if_neg b, if_neg b]
theorem zmx_rl : ∀ c : Nat, zrl e (zmx s w) d par c = zrl e s d par c
  | 0 => rfl
  | c + 1 => by
    show (if e.1 13 d c < 0 ∨ s.2 1 (zf s) (zh s - par + e.1 13 d c) = e.2 1 d c then (c : Int) else zrl e (zmx s w) d par c) = _
    rw [zmx_rl c]
    rfl
theorem zmx_ro : zruleOf e (zmx s w) i = zruleOf e s i := by
  unfold zruleOf
  rw [zmx_rl]
theorem zmx_call : zcall e (zmx s w) i d par r = zmx (zcall e s i d par r) w := by
  unfold zcall
  by_cases a : 0 ≤ r
  · rw [if_pos a, if_pos a]
    by_cases b : e.1 14 d r = 1
    · rw [if_pos b, if_pos b, zmx_err]
    · rw [if_neg b, if_neg b, zmx_dn, zmx_push, zmx_nx]
  · rw [if_neg a, if_neg a]
    by_cases b : s.1 0 0 0 = 12
    · rw [if_pos b, if_pos (show (zmx s w).1 0 0 0 = 12 from b), zmx_err]
    · rw [if_neg b, if_neg (show ¬ (zmx s w).1 0 0 0 = 12 from b), zmx_arg, zmx_dn]
      exact zmx_ent
theorem zmx_mem : zmem e (zmx s w) o i = zmx (zmem e s o i) w := by
  unfold zmem
  by_cases a : o = 3
  · rw [if_pos a, if_pos a]
    show znx (zpush (zmx s w) (s.2 2 i 0)) = _
    rw [zmx_push, zmx_nx]
  rw [if_neg a, if_neg a]
  by_cases b : o = 4
  · rw [if_pos b, if_pos b]
    show zw (znx (zdn (zmx s w) 1)) 2 i 0 (ztop s 1) = _
    rw [zmx_dn, zmx_nx, zmx_w (by decide)]
  rw [if_neg b, if_neg b]
  by_cases c : o = 5
  · rw [if_pos c, if_pos c]
    by_cases z : (ztop s 1).toInt < 0 ∨ e.1 5 i 0 ≤ (ztop s 1).toInt
    · rw [if_pos z, if_pos (show (ztop (zmx s w) 1).toInt < 0 ∨ e.1 5 i 0 ≤ (ztop (zmx s w) 1).toInt from z), zmx_dn, zmx_err]
    · rw [if_neg z, if_neg (show ¬ ((ztop (zmx s w) 1).toInt < 0 ∨ e.1 5 i 0 ≤ (ztop (zmx s w) 1).toInt) from z)]
      show znx (zpush (zdn (zmx s w) 1) (s.2 3 i (ztop s 1).toInt)) = _
      rw [zmx_dn, zmx_push, zmx_nx]
  rw [if_neg c, if_neg c]
  by_cases f : o = 6
  · rw [if_pos f, if_pos f]
    by_cases z : (ztop s 2).toInt < 0 ∨ e.1 5 i 0 ≤ (ztop s 2).toInt
    · rw [if_pos z, if_pos (show (ztop (zmx s w) 2).toInt < 0 ∨ e.1 5 i 0 ≤ (ztop (zmx s w) 2).toInt from z), zmx_dn, zmx_err]
    · rw [if_neg z, if_neg (show ¬ ((ztop (zmx s w) 2).toInt < 0 ∨ e.1 5 i 0 ≤ (ztop (zmx s w) 2).toInt) from z)]
      show zw (znx (zdn (zmx s w) 2)) 3 i (ztop s 2).toInt (ztop s 1) = _
      rw [zmx_dn, zmx_nx, zmx_w (by decide)]
  rw [if_neg f, if_neg f, zmx_ro]
  by_cases z : 0 ≤ e.1 11 i 0 ∧ e.1 10 1 0 = 1
  · rw [if_pos z, if_pos z, zmx_hear, zmx_call]
  · rw [if_neg z, if_neg z, zmx_call]
theorem zmx_use : zuse e (zmx s w) o i k = zmx (zuse e s o i k) w := by
  unfold zuse
  by_cases a : i < 0
  · rw [if_pos a, if_pos a, zmx_err]
  rw [if_neg a, if_neg a]
  by_cases b : s.1 8 k 0 = 1
  · rw [if_pos b, if_pos (show (zmx s w).1 8 k 0 = 1 from b), zmx_mem]
  rw [if_neg b, if_neg (show ¬ (zmx s w).1 8 k 0 = 1 from b)]
  by_cases c : s.1 8 k 0 = 2
  · rw [if_pos c, if_pos (show (zmx s w).1 8 k 0 = 2 from c), zmx_err]
  rw [if_neg c, if_neg (show ¬ (zmx s w).1 8 k 0 = 2 from c)]
  by_cases f : e.1 7 k 0 < 0
  · rw [if_pos f, if_pos f, zmx_i (by decide), zmx_init, zmx_mem]
  rw [if_neg f, if_neg f]
  by_cases g : s.1 0 0 0 < 12
  · rw [if_pos g, if_pos (show (zmx s w).1 0 0 0 < 12 from g), zmx_i (by decide), zmx_init]
    exact zmx_ent
  · rw [if_neg g, if_neg (show ¬ (zmx s w).1 0 0 0 < 12 from g), zmx_i (by decide), zmx_init, zmx_i (by decide), zmx_err]
theorem zmx_ex (h : o ≠ 23) : zex e (zmx s w) o n = zmx (zex e s o n) w := by
  unfold zex
  by_cases c0 : o = 0
  · rw [if_pos c0, if_pos c0]
    rw [zmx_push, zmx_nx]
  rw [if_neg c0, if_neg c0]
  by_cases c1 : o = 1
  · rw [if_pos c1, if_pos c1]
    show znx (zpush (zmx s w) (s.2 0 (zf s) n)) = _
    rw [zmx_push, zmx_nx]
  rw [if_neg c1, if_neg c1]
  by_cases c2 : o = 2
  · rw [if_pos c2, if_pos c2]
    show znx (zi (zw (zdn (zmx s w) 1) 0 (zf s) n (ztop s 1)) 16 (zf s) 0 (if n < s.1 16 (zf s) 0 then s.1 16 (zf s) 0 else n + 1)) = _
    rw [zmx_dn, zmx_w (by decide), zmx_i (by decide), zmx_nx]
  rw [if_neg c2, if_neg c2]
  by_cases c3 : o ≤ 7
  · rw [if_pos c3, if_pos c3]
    exact zmx_use
  rw [if_neg c3, if_neg c3]
  by_cases c4 : o = 8
  · rw [if_pos c4, if_pos c4]
    show zi (zi (zw (zmx s w) 6 0 0 (ztop s 1)) 0 0 0 (zf s)) 1 0 0 2 = _
    rw [zmx_w (by decide), zmx_i (by decide), zmx_i (by decide)]
  rw [if_neg c4, if_neg c4]
  by_cases c5 : o = 34
  · rw [if_pos c5, if_pos c5]
    show zi (zi (zw (zmx s w) 6 0 0 0) 0 0 0 (zf s)) 1 0 0 2 = _
    rw [zmx_w (by decide), zmx_i (by decide), zmx_i (by decide)]
  rw [if_neg c5, if_neg c5]
  by_cases c6 : o = 9
  · rw [if_pos c6, if_pos c6]
    rw [zmx_dn, zmx_nx]
  rw [if_neg c6, if_neg c6]
  by_cases c7 : o = 33
  · rw [if_pos c7, if_pos c7]
    rw [zmx_dn, zmx_nx]
  rw [if_neg c7, if_neg c7]
  by_cases c8 : o ≤ 20
  · rw [if_pos c8, if_pos c8]
    by_cases y : ztop s 1 = 0 ∧ (o = 13 ∨ o = 14)
    · rw [if_pos y, if_pos (show ztop (zmx s w) 1 = 0 ∧ (o = 13 ∨ o = 14) from y), zmx_dn, zmx_err]
    · rw [if_neg y, if_neg (show ¬ (ztop (zmx s w) 1 = 0 ∧ (o = 13 ∨ o = 14)) from y)]
      show znx (zpush (zdn (zmx s w) 2) (ztwo o (ztop s 2) (ztop s 1))) = _
      rw [zmx_dn, zmx_push, zmx_nx]
  rw [if_neg c8, if_neg c8]
  by_cases c9 : o = 21
  · rw [if_pos c9, if_pos c9]
    show znx (zpush (zdn (zmx s w) 1) (if ztop s 1 = 0 then 1 else 0)) = _
    rw [zmx_dn, zmx_push, zmx_nx]
  rw [if_neg c9, if_neg c9]
  by_cases c10 : o = 22
  · rw [if_pos c10, if_pos c10]
    show znx (zpush (zdn (zmx s w) 1) (-(ztop s 1))) = _
    rw [zmx_dn, zmx_push, zmx_nx]
  rw [if_neg c10, if_neg c10]
  by_cases c11 : o = 23
  · rw [if_pos c11, if_pos c11]
    exact absurd c11 h
  rw [if_neg c11, if_neg c11]
  by_cases c12 : o = 24
  · rw [if_pos c12, if_pos c12]
    show zgo (zdn (zmx s w) 1) (if ztop s 1 = 0 then n + zoff (zpc s) else zpc s + 1) = _
    rw [zmx_dn, zmx_go]
  rw [if_neg c12, if_neg c12]
  by_cases c13 : o = 31
  · rw [if_pos c13, if_pos c13]
    show zgo (zdn (zmx s w) 1) (if ztop s 1 = 0 then zpc s + 1 else n + zoff (zpc s)) = _
    rw [zmx_dn, zmx_go]
  rw [if_neg c13, if_neg c13]
  by_cases c14 : o = 25
  · rw [if_pos c14, if_pos c14]
    exact zmx_go
  rw [if_neg c14, if_neg c14]
  by_cases c15 : o = 26
  · rw [if_pos c15, if_pos c15]
    show znx (zi (zi (zmx s w) 7 (zf s) (s.1 4 (zf s) 0) (n + zoff (zpc s))) 4 (zf s) 0 (s.1 4 (zf s) 0 + 1)) = _
    rw [zmx_i (by decide), zmx_i (by decide), zmx_nx]
  rw [if_neg c15, if_neg c15]
  by_cases c16 : o = 27
  · rw [if_pos c16, if_pos c16]
    show znx (zi (zmx s w) 4 (zf s) 0 (s.1 4 (zf s) 0 - 1)) = _
    rw [zmx_i (by decide), zmx_nx]
  rw [if_neg c16, if_neg c16]
  by_cases c17 : o = 28
  · rw [if_pos c17, if_pos c17]
    by_cases y : ztop s 1 = 0
    · rw [if_pos y, if_pos (show ztop (zmx s w) 1 = 0 from y), zmx_dn, zmx_err]
    · rw [if_neg y, if_neg (show ¬ (ztop (zmx s w) 1 = 0) from y), zmx_dn, zmx_nx]
  rw [if_neg c17, if_neg c17]
  by_cases c18 : o = 29
  · rw [if_pos c18, if_pos c18]
    show zerr (zdn (zmx s w) 1) (ztop s 1) 3 = _
    rw [zmx_dn, zmx_err]
  rw [if_neg c18, if_neg c18]
  by_cases c19 : o = 32
  · rw [if_pos c19, if_pos c19]
    rw [zmx_dn, zmx_push, zmx_nx]
  rw [if_neg c19, if_neg c19]
  exact zmx_nx
theorem zmx_ret : zret (zmx s w) = zmx (zret s) w := by
  unfold zret
  by_cases a : 0 ≤ s.1 5 (s.1 0 0 0) 0
  · rw [if_pos a, if_pos (show 0 ≤ (zmx s w).1 5 ((zmx s w).1 0 0 0) 0 from a), zmx_i (by decide)]
  rw [if_neg a, if_neg (show ¬ 0 ≤ (zmx s w).1 5 ((zmx s w).1 0 0 0) 0 from a)]
  by_cases b : s.1 0 0 0 = 0
  · rw [if_pos b, if_pos (show (zmx s w).1 0 0 0 = 0 from b)]
  · rw [if_neg b, if_neg (show ¬ (zmx s w).1 0 0 0 = 0 from b)]
    show zi (znx (zpush (zmx s w) (s.2 6 0 0))) 1 0 0 0 = _
    rw [zmx_push, zmx_nx, zmx_i (by decide)]
theorem zmx_thr : zthr (zmx s w) m = zmx (zthr s m) w := by
  unfold zthr
  by_cases a : m = 3 ∧ 0 < s.1 4 (zf s) 0
  · rw [if_pos a, if_pos (show m = 3 ∧ 0 < (zmx s w).1 4 (zf (zmx s w)) 0 from a)]
    show zi (zi (zi (zi (zw (zmx s w) 1 (zf s) 0 (s.2 5 0 0)) 3 (zf s) 0 1) 2 (zf s) 0 (s.1 7 (zf s) (s.1 4 (zf s) 0 - 1))) 4 (zf s) 0 (s.1 4 (zf s) 0 - 1)) 1 0 0 0 = _
    rw [zmx_w (by decide), zmx_i (by decide), zmx_i (by decide), zmx_i (by decide), zmx_i (by decide)]
  · rw [if_neg a, if_neg (show ¬ (m = 3 ∧ 0 < (zmx s w).1 4 (zf (zmx s w)) 0) from a)]
    show zi (zi (zmx s w) 0 0 0 (zf s)) 1 0 0 (m + 1) = _
    rw [zmx_i (by decide), zmx_i (by decide)]
theorem zmx_unw : zunw (zmx s w) m = zmx (zunw s m) w := by
  unfold zunw
  by_cases a : 0 ≤ s.1 5 (s.1 0 0 0) 0
  · rw [if_pos a, if_pos (show 0 ≤ (zmx s w).1 5 ((zmx s w).1 0 0 0) 0 from a)]
    show zi (zerr (zmx s w) 8 3) 8 (s.1 5 (s.1 0 0 0) 0) 0 2 = _
    rw [zmx_err, zmx_i (by decide)]
  rw [if_neg a, if_neg (show ¬ 0 ≤ (zmx s w).1 5 ((zmx s w).1 0 0 0) 0 from a)]
  by_cases b : s.1 0 0 0 = 0
  · rw [if_pos b, if_pos (show (zmx s w).1 0 0 0 = 0 from b)]
  · rw [if_neg b, if_neg (show ¬ (zmx s w).1 0 0 0 = 0 from b), zmx_i (by decide)]
theorem zmx_dr : zdr (zmx s w) y = zmx (zdr s y) w := by
  show zi (znx (zpush (zdn (zmx s w) 1) y)) 11 0 0 (s.1 11 0 0 + 1) = _
  rw [zmx_dn, zmx_push, zmx_nx, zmx_i (by decide)]
  rfl
theorem zSm.of (h : X = zmx Y w) : zSm Y X := by
  rw [h]
  exact ⟨fun k i j a b => if_neg (by omega), fun k i j a b => if_neg (by omega)⟩
theorem zSm.ee (h : zSm A B) : B = zmx A B := by
  refine Prod.ext (funext fun k' => funext fun i' => funext fun j' => ?_) (funext fun k' => funext fun i' => funext fun j' => ?_)
  · show B.1 k' i' j' = if k' = 12 ∨ k' = 14 then B.1 k' i' j' else A.1 k' i' j'
    by_cases a : k' = 12 ∨ k' = 14
    · rw [if_pos a]
    · rw [if_neg a]; exact h.1 _ _ _ (by omega) (by omega)
  · show B.2 k' i' j' = if k' = 9 ∨ k' = 10 then B.2 k' i' j' else A.2 k' i' j'
    by_cases a : k' = 9 ∨ k' = 10
    · rw [if_pos a]
    · rw [if_neg a]; exact h.2 _ _ _ (by omega) (by omega)
/-- what commutes keeps two rows together -/
theorem zLq.cm (h : zLq D tt A B) (f : ZS → ZS) (c : f (zmx A B) = zmx (f A) B) (p : zKp B (f B)) (z : zKp A (f A)) (r : (f A).1 11 0 0 = A.1 11 0 0) : zLq D tt (f A) (f B) := by
  obtain ⟨h1, h2, h3, h4, h5⟩ := h
  refine ⟨zSm.of ((congrArg f h1.ee).trans c), p.1.trans h2, by rw [r]; exact h3, by rw [r, z.1]; exact h4, fun i a b => by rw [p.2.1]; exact h5 i a b⟩
theorem zex_23 : zex e s 23 n = zdraw e s (ztop s 1) := by
  unfold zex
  rw [if_neg (by decide), if_neg (by decide), if_neg (by decide), if_neg (by decide), if_neg (by decide), if_neg (by decide), if_neg (by decide), if_neg (by decide), if_neg (by decide), if_neg (by decide), if_neg (by decide), if_pos rfl]
theorem zdraw_n (hl : e.1 10 2 0 = 1) (h1 : (1 : Int32) ≤ y) (h : s.1 11 0 0 = s.1 14 0 0) : zdraw e s y = zdr (zi (zw (zw s 9 (s.1 14 0 0) 0 0) 10 (s.1 14 0 0) 0 y) 14 0 0 (s.1 14 0 0 + 1)) 0 := by
  unfold zdraw
  rw [if_pos h1, if_pos hl, if_pos h]
  rfl
theorem zdraw_o (hl : e.1 10 2 0 = 1) (h1 : (1 : Int32) ≤ y) (h : s.1 11 0 0 ≠ s.1 14 0 0) : zdraw e s y = zdr s (s.2 9 (s.1 11 0 0) 0) := by
  unfold zdraw
  rw [if_pos h1, if_pos hl, if_neg h]
  rfl
theorem zdraw_lk (hl : e.1 10 2 0 = 1) (h : zLq D tt A B) (g : zAg D (zdraw e A y)) : zLq D tt (zdraw e A y) (zdraw e B y) ∨ zPd (zdraw e B y) := by
  by_cases h1 : (1 : Int32) ≤ y
  · obtain ⟨k1, k2, ⟨k3, k4⟩, k5, k6⟩ := id h
    have b11 : B.1 11 0 0 = A.1 11 0 0 := k1.1 _ _ _ (by decide) (by decide)
    have eB := zdraw_o (s := B) hl h1 (by omega)
    rw [b11] at eB
    by_cases last : A.1 11 0 0 + 1 = tt
    · refine Or.inr ?_
      rw [eB]
      show B.1 11 0 0 + 1 = B.1 14 0 0
      omega
    · refine Or.inl ?_
      have xB := k6 (A.1 11 0 0) k3 (by omega)
      by_cases nw : A.1 11 0 0 = A.1 14 0 0
      · have eA := zdraw_n hl h1 nw
        obtain ⟨A2, hA2⟩ : ∃ A2, A2 = zi (zw (zw A 9 (A.1 14 0 0) 0 0) 10 (A.1 14 0 0) 0 y) 14 0 0 (A.1 14 0 0 + 1) := ⟨_, rfl⟩
        have m2 : zmx A2 B = zmx A B := by rw [hA2, zmx_14, zmx_9 (Or.inr rfl), zmx_9 (Or.inl rfl)]
        have a14 : A2.1 14 0 0 = A.1 14 0 0 + 1 := by rw [hA2]; exact zi_e
        have a11 : A2.1 11 0 0 = A.1 11 0 0 := by rw [hA2]; rfl
        have a9 : A2.2 9 (A.1 14 0 0) 0 = 0 := by
          rw [hA2]
          show (if (9 : Nat) = 10 ∧ A.1 14 0 0 = A.1 14 0 0 ∧ (0 : Int) = 0 then y else if (9 : Nat) = 9 ∧ A.1 14 0 0 = A.1 14 0 0 ∧ (0 : Int) = 0 then (0 : Int32) else A.2 9 (A.1 14 0 0) 0) = 0
          rw [if_neg (by omega), if_pos ⟨rfl, rfl, rfl⟩]
        rw [← hA2] at eA
        rw [eA] at g ⊢
        rw [eB]
        have z0 : B.2 9 (A.1 11 0 0) 0 = 0 := by
          rw [xB, nw]
          exact (g (A.1 14 0 0) (by omega) (show A.1 14 0 0 < A2.1 14 0 0 by omega)).symm.trans a9
        rw [z0]
        refine ⟨zSm.of (w := B) ?_, k2, ⟨?_, ?_⟩, ?_, k6⟩
        · exact (congrArg (fun z => zdr z 0) (k1.ee.trans m2.symm)).trans zmx_dr
        · show 0 ≤ A2.1 11 0 0 + 1
          omega
        · show A2.1 11 0 0 + 1 < tt
          omega
        · show A2.1 11 0 0 + 1 ≤ A2.1 14 0 0
          omega
      · have eA := zdraw_o hl h1 nw
        rw [eA] at g ⊢
        rw [eB]
        have z0 : B.2 9 (A.1 11 0 0) 0 = A.2 9 (A.1 11 0 0) 0 := xB.trans (g (A.1 11 0 0) k3 (show A.1 11 0 0 < A.1 14 0 0 by omega)).symm
        rw [z0]
        refine ⟨zSm.of (w := B) ?_, k2, ⟨?_, ?_⟩, ?_, k6⟩
        · exact (congrArg (fun z => zdr z (A.2 9 (A.1 11 0 0) 0)) k1.ee).trans zmx_dr
        · show 0 ≤ A.1 11 0 0 + 1
          omega
        · show A.1 11 0 0 + 1 < tt
          omega
        · show A.1 11 0 0 + 1 ≤ A.1 14 0 0
          omega
  · refine Or.inl ?_
    have eA : ∀ s : ZS, zdraw e s y = zerr (zdn s 1) 3 3 := fun s => by
      unfold zdraw
      rw [if_neg h1]
    rw [eA, eA]
    exact h.cm (fun s => zerr (zdn s 1) 3 3) (by rw [zmx_dn, zmx_err]) ⟨rfl, rfl, rfl⟩ ⟨rfl, rfl, rfl⟩ rfl
theorem zdn_kp (h : zDn s t) (g : t.1 14 0 0 = s.1 14 0 0) (h2 : t.2 9 = s.2 9) (h3 : t.2 10 = s.2 10) : zKp s t := ⟨g, h2, h3⟩
theorem zex_kp (h : o ≠ 23) : zKp s (zex e s o n) := zex_by (P := fun t => zKp s t) ⟨rfl, rfl, rfl⟩ ⟨rfl, rfl, rfl⟩ ⟨rfl, rfl, rfl⟩ (fun _ => zuse_p) (fun _ => ⟨rfl, rfl, rfl⟩) (fun _ => ⟨rfl, rfl, rfl⟩) ⟨rfl, rfl, rfl⟩ ⟨rfl, rfl, rfl⟩ (fun _ => ⟨rfl, rfl, rfl⟩) (fun _ => ⟨rfl, rfl, rfl⟩) ⟨rfl, rfl, rfl⟩ ⟨rfl, rfl, rfl⟩ (fun z => absurd z h) ⟨rfl, rfl, rfl⟩ ⟨rfl, rfl, rfl⟩ ⟨rfl, rfl, rfl⟩ ⟨rfl, rfl, rfl⟩ ⟨rfl, rfl, rfl⟩ (fun _ => ⟨rfl, rfl, rfl⟩) (fun _ => ⟨rfl, rfl, rfl⟩) (fun _ => ⟨rfl, rfl, rfl⟩) ⟨rfl, rfl, rfl⟩ ⟨rfl, rfl, rfl⟩
theorem zex_lk (hl : e.1 10 2 0 = 1) (h : zLq D tt A B) (g : zAg D (zex e A o n)) : zLq D tt (zex e A o n) (zex e B o n) ∨ zPd (zex e B o n) := by
  by_cases c : o = 23
  · subst c
    rw [zex_23] at g ⊢
    rw [zex_23]
    have et : ztop B 1 = ztop A 1 := by rw [h.1.ee]; rfl
    rw [et]
    exact zdraw_lk hl h g
  · refine Or.inl (h.cm (fun s => zex e s o n) (zmx_ex c) (zex_kp c) (zex_kp c) ?_)
    have := zex_d (e := e) (s := A) (o := o) (n := n)
    show (zex e A o n).1 11 0 0 = A.1 11 0 0
    rcases this with z | z
    · exact z.1
    · exact absurd z.1 c
theorem ztick_sm : zSm (ztick e s) (ztick e (zmx s w)) := by
  refine ⟨fun k' i' j' a b => ?_, fun k' i' j' a b => ?_⟩
  · show (if k' = 9 then s.1 9 0 0 - 1 else if k' = 10 then s.1 10 0 0 + 1 else if k' = 12 then w.1 12 0 0 - 1 else if k' = 15 ∧ e.1 10 0 0 = 1 ∧ i' = zpc s then e.1 16 0 0 else if k' = 12 ∨ k' = 14 then w.1 k' i' j' else s.1 k' i' j') = if k' = 9 then s.1 9 0 0 - 1 else if k' = 10 then s.1 10 0 0 + 1 else if k' = 12 then s.1 12 0 0 - 1 else if k' = 15 ∧ e.1 10 0 0 = 1 ∧ i' = zpc s then e.1 16 0 0 else s.1 k' i' j'
    rw [if_neg a, if_neg a, if_neg (show ¬ (k' = 12 ∨ k' = 14) by omega)]
  · show (if k' = 7 ∧ e.1 10 0 0 = 1 ∧ i' = zpc s then s.2 7 (zpc s) 0 + 1 else if k' = 8 ∧ e.1 10 0 0 = 1 ∧ i' = zpc s ∧ s.1 15 (zpc s) 0 ≠ e.1 16 0 0 then s.2 8 (zpc s) 0 + 1 else if k' = 9 ∨ k' = 10 then w.2 k' i' j' else s.2 k' i' j') = if k' = 7 ∧ e.1 10 0 0 = 1 ∧ i' = zpc s then s.2 7 (zpc s) 0 + 1 else if k' = 8 ∧ e.1 10 0 0 = 1 ∧ i' = zpc s ∧ s.1 15 (zpc s) 0 ≠ e.1 16 0 0 then s.2 8 (zpc s) 0 + 1 else s.2 k' i' j'
    rw [if_neg (show ¬ (k' = 9 ∨ k' = 10) by omega)]
theorem zLq.tick (h : zLq D tt A B) : zLq D tt (ztick e A) (ztick e B) := by
  have c := ztick_sm (e := e) (s := A) (w := B)
  rw [← h.1.ee] at c
  exact ⟨c, h.2.1, h.2.2.1, h.2.2.2.1, h.2.2.2.2⟩
theorem zstep_lk (hl : e.1 10 2 0 = 1) (h : zLq D tt A B) (g : zAg D (zstep e A)) (m6 : (zstep e A).1 1 0 0 ≠ 6) : zLq D tt (zstep e A) (zstep e B) ∨ zPd (zstep e B) ∨ (zstep e B).1 1 0 0 = 6 := by
  have sm := h.1.1
  have bm : B.1 1 0 0 = A.1 1 0 0 := sm _ _ _ (by decide) (by decide)
  have epc : zpc B = zpc A := by rw [h.1.ee]; rfl
  by_cases m0 : A.1 1 0 0 = 0
  · have b0 := bm.trans m0
    by_cases h9 : A.1 9 0 0 = 0
    · have eS : ∀ s : ZS, s.1 1 0 0 = 0 → s.1 9 0 0 = 0 → zstep e s = zerr s 6 5 := fun s a b => by unfold zstep; rw [if_pos a, if_pos b]
      rw [eS A m0 h9, eS B b0 ((sm _ _ _ (by decide) (by decide)).trans h9)]
      exact Or.inl (h.cm (fun s => zerr s 6 5) zmx_err ⟨rfl, rfl, rfl⟩ ⟨rfl, rfl, rfl⟩ rfl)
    have b9 : ¬ B.1 9 0 0 = 0 := by rw [sm _ _ _ (by decide) (by decide)]; exact h9
    by_cases hb : B.1 12 0 0 = 0
    · refine Or.inr (Or.inr ?_)
      unfold zstep
      rw [if_pos b0, if_neg b9, if_pos hb]
      exact zi_e
    have ha : ¬ A.1 12 0 0 = 0 := fun z => m6 (by
      unfold zstep
      rw [if_pos m0, if_neg h9, if_pos z]
      exact zi_e)
    have eS : ∀ s : ZS, s.1 1 0 0 = 0 → ¬ s.1 9 0 0 = 0 → ¬ s.1 12 0 0 = 0 → zstep e s = zex e (ztick e s) (zop e (zpc s)) (znum e (zpc s)) := fun s a b c => by unfold zstep; rw [if_pos a, if_neg b, if_neg c]
    rw [eS A m0 h9 ha] at g ⊢
    rw [eS B b0 b9 hb, epc]
    rcases zex_lk hl h.tick g with z | z
    · exact Or.inl z
    · exact Or.inr (Or.inl z)
  have b0 : ¬ B.1 1 0 0 = 0 := by rw [bm]; exact m0
  by_cases m1 : A.1 1 0 0 = 1
  · have b1 := bm.trans m1
    have eS : ∀ s : ZS, s.1 1 0 0 = 1 → zstep e s = zex e (zi s 1 0 0 0) (zop e (zpc s)) (znum e (zpc s)) := fun s a => by unfold zstep; rw [if_neg (by omega), if_pos a]
    rw [eS A m1] at g ⊢
    rw [eS B b1, epc]
    rcases zex_lk hl (h.cm (fun s => zi s 1 0 0 0) (zmx_i (by decide)) ⟨rfl, rfl, rfl⟩ ⟨rfl, rfl, rfl⟩ rfl) g with z | z
    · exact Or.inl z
    · exact Or.inr (Or.inl z)
  by_cases m2 : A.1 1 0 0 = 2
  · have eS : ∀ s : ZS, s.1 1 0 0 = 2 → zstep e s = zret s := fun s a => by unfold zstep; rw [if_neg (by omega), if_neg (by omega), if_pos a]
    rw [eS A m2, eS B (bm.trans m2)]
    refine Or.inl (h.cm zret zmx_ret zret_p zret_p ?_)
    unfold zret
    (repeat' split) <;> rfl
  by_cases m3 : A.1 1 0 0 = 3 ∨ A.1 1 0 0 = 7
  · have eS : ∀ s : ZS, s.1 1 0 0 = 3 ∨ s.1 1 0 0 = 7 → zstep e s = zthr s (s.1 1 0 0) := fun s a => by unfold zstep; rw [if_neg (by omega), if_neg (by omega), if_neg (by omega), if_pos a]
    rw [eS A m3, eS B (by rw [bm]; exact m3), bm]
    refine Or.inl (h.cm (fun s => zthr s (A.1 1 0 0)) zmx_thr zthr_p zthr_p ?_)
    show (zthr A (A.1 1 0 0)).1 11 0 0 = _
    unfold zthr
    split <;> rfl
  by_cases m4 : A.1 1 0 0 = 4 ∨ A.1 1 0 0 = 8
  · have eS : ∀ s : ZS, s.1 1 0 0 = 4 ∨ s.1 1 0 0 = 8 → zstep e s = zunw s (s.1 1 0 0) := fun s a => by unfold zstep; rw [if_neg (by omega), if_neg (by omega), if_neg (by omega), if_neg (by omega), if_pos a]
    rw [eS A m4, eS B (by rw [bm]; exact m4), bm]
    refine Or.inl (h.cm (fun s => zunw s (A.1 1 0 0)) zmx_unw zunw_p zunw_p ?_)
    show (zunw A (A.1 1 0 0)).1 11 0 0 = _
    unfold zunw
    (repeat' split) <;> rfl
  · have eS : ∀ s : ZS, s.1 1 0 0 = A.1 1 0 0 → zstep e s = s := fun s a => by unfold zstep; rw [if_neg (by omega), if_neg (by omega), if_neg (by omega), if_neg (by omega), if_neg (by omega)]
    rw [eS A rfl, eS B bm]
    exact Or.inl h
theorem zAg.bk (h : zAg D t) (g : zDn s t) : zAg D s := fun i a b => ((g.2 i a).1 b).1.symm.trans (h i a (Int.lt_of_lt_of_le b g.1))
theorem zgoes_lk (hl : e.1 10 2 0 = 1) : ∀ (c : Nat) (A B : ZS), zLq D tt A B → zAg D (zgoes e A c) → (zgoes e A c).1 1 0 0 ≠ 6 → zLq D tt (zgoes e A c) (zgoes e B c) ∨ zPd (zgoes e B c) ∨ (zgoes e B c).1 1 0 0 = 6
  | 0, A, B, h, _, _ => Or.inl h
  | c + 1, A, B, h, g, m => by
    have m' : (zstep e A).1 1 0 0 ≠ 6 := fun z => m (by
      show (zgoes e (zstep e A) c).1 1 0 0 = 6
      rw [zend.goes (Or.inr (Or.inl z))]
      exact z)
    rcases zstep_lk hl h (g.bk (zgoes_dn c (zstep e A))) m' with z | z | z
    · exact zgoes_lk hl c _ _ z g m
    · exact Or.inr (Or.inl (zgoes_pd hl c _ z))
    · refine Or.inr (Or.inr ?_)
      show (zgoes e (zstep e B) c).1 1 0 0 = 6
      rw [zend.goes (Or.inr (Or.inl z))]
      exact z
theorem zEx_lk (hl : e.1 10 2 0 = 1) (hA : zEx e A en par uA) (hB : zEx e B en par uB) (h : zLq D tt A B) (g : zAg D uA) (a6 : uA.1 1 0 0 ≠ 6) (b6 : uB.1 1 0 0 ≠ 6) : zLq D tt uA uB ∨ zPd uB := by
  obtain ⟨⟨c, hc⟩, eA⟩ := hA
  obtain ⟨⟨c', hc'⟩, eB⟩ := hB
  have zA : zgoes e (zbeg A en par) (c + c') = uA := by rw [zgoes_add, hc, eA.goes]
  have zB : zgoes e (zbeg B en par) (c + c') = uB := by rw [Nat.add_comm, zgoes_add, hc', eB.goes]
  have z := zgoes_lk hl (c + c') (zbeg A en par) (zbeg B en par) (h.cm (fun s => zbeg s en par) zmx_ent ⟨rfl, rfl, rfl⟩ ⟨rfl, rfl, rfl⟩ rfl) (by rw [zA]; exact g) (by rw [zA]; exact a6)
  rw [zA, zB] at z
  rcases z with z | z | z
  · exact Or.inl z
  · exact Or.inr z
  · exact absurd z b6
theorem zLq.nb (h : zLq D tt A B) : zLq D tt (znb A) (znb B) := h.cm znb (by
  show zi (zi (zmx A B) 0 0 0 0) 1 0 0 0 = _
  rw [zmx_i (by decide), zmx_i (by decide)]
  rfl) ⟨rfl, rfl, rfl⟩ ⟨rfl, rfl, rfl⟩ rfl
theorem zLq.eov (h : zLq D tt A B) : zov B = zov A := by
  unfold zov
  rw [h.1.1 1 0 0 (by decide) (by decide)]
theorem zBf_lk (hl : e.1 10 2 0 = 1) : ∀ (m : Nat) (i : Int) (A : ZS) (sd : Int) (Fa Wh : Int32) (ov : Int) (A' B : ZS) (sd2 : Int) (Fb Wb : Int32) (ov2 : Int) (B' : ZS), zBf e F m i A sd Fa Wh ov A' → zBf e F m i B sd2 Fb Wb ov2 B' → zLq D tt A B → zAg D A' → (zLq D tt A' B' ∧ sd2 = sd ∧ (sd = 0 → ov2 = ov)) ∨ zPd B'
  | 0, _, _, _, _, _, _, _, _, _, _, _, _, _, ⟨h1, h2⟩, ⟨h3, h4⟩, h, _ => by
    rw [h2, h4]
    exact Or.inl ⟨h, h3.trans h1.symm, fun z => absurd (h1.symm.trans z) (by decide)⟩
  | m + 1, i, A, sd, Fa, Wh, ov, A', B, sd2, Fb, Wb, ov2, B', ⟨uA, h1, h2, h3⟩, ⟨uB, k1, k2, k3⟩, h, g => by
    have gA : zDn uA A' := by
      refine znb_dn.tr ?_
      rcases h3 with ⟨_, z⟩ | ⟨_, _, z, _⟩
      · exact z.dn
      · rw [z]; exact zDn.r
    rcases zEx_lk hl h1 k1 h (g.bk gA) h2 k2 with z | z
    · have em : uB.1 1 0 0 = uA.1 1 0 0 := z.1.1 _ _ _ (by decide) (by decide)
      rcases h3 with ⟨a1, a2⟩ | ⟨a1, a2, a3, a4, a5, a6⟩
      · rcases k3 with ⟨c1, c2⟩ | ⟨c1, _⟩
        · exact zBf_lk hl m (i + 1) _ _ _ _ _ _ _ _ _ _ _ _ a2 c2 z.nb g
        · exact absurd (em.trans a1) c1
      · rcases k3 with ⟨c1, _⟩ | ⟨c1, c2, c3, c4, c5, c6⟩
        · exact absurd (em.symm.trans c1) a1
        · rw [a3, c3]
          exact Or.inl ⟨z.nb, c2.trans a2.symm, fun _ => by rw [c6, a6]; exact z.eov⟩
    · refine Or.inr ?_
      have z2 := znb_pd z
      rcases k3 with ⟨_, c2⟩ | ⟨_, _, c3, _⟩
      · exact c2.pd hl z2
      · rw [c3]; exact z2
theorem zAf_lk (hl : e.1 10 2 0 = 1) : ∀ (m : Nat) (A : ZS) (ov V : Int) (Fa Wh : Int32) (V' : Int) (Fa' Wh' : Int32) (A' B : ZS) (Fb Wb : Int32) (V2 : Int) (Fb' Wb' : Int32) (B' : ZS), zAf e F m A ov V Fa Wh V' Fa' Wh' A' → zAf e F m B ov V Fb Wb V2 Fb' Wb' B' → zLq D tt A B → zAg D A' → zLq D tt A' B' ∨ zPd B'
  | 0, _, _, _, _, _, _, _, _, _, _, _, _, _, _, _, _, ⟨h1, _⟩, ⟨h2, _⟩, h, _ => by
    rw [h1, h2]
    exact Or.inl h
  | m + 1, A, ov, V, Fa, Wh, V', Fa', Wh', A', B, Fb, Wb, V2, Fb', Wb', B', hA, hB, h, g => by
    rcases hA with ⟨a1, a2, _⟩ | ⟨a1, uA, a2, a3, a4⟩
    · rcases hB with ⟨_, c2, _⟩ | ⟨c1, _⟩
      · rw [a2, c2]
        exact Or.inl h
      · omega
    · rcases hB with ⟨c1, _⟩ | ⟨c1, uB, c2, c3, c4⟩
      · omega
      have gA : zDn uA A' := by
        refine znb_dn.tr ?_
        rcases a4 with ⟨_, _, z⟩ | ⟨_, z⟩
        · exact z.dn
        · exact z.dn
      rcases zEx_lk hl a2 c2 h (g.bk gA) a3 c3 with z | z
      · have em : uB.1 1 0 0 = uA.1 1 0 0 := z.1.1 _ _ _ (by decide) (by decide)
        have eo := z.eov
        rcases a4 with ⟨x1, x2, x3⟩ | ⟨x1, x3⟩
        · rcases c4 with ⟨y1, y2, y3⟩ | ⟨y1, y3⟩
          · rw [eo] at y3
            exact zAf_lk hl m _ _ _ _ _ _ _ _ _ _ _ _ _ _ _ _ x3 y3 z.nb g
          · exact absurd ⟨by rw [em]; exact x1, x2⟩ y1
        · rcases c4 with ⟨y1, y2, y3⟩ | ⟨y1, y3⟩
          · exact absurd ⟨by rw [← em]; exact y1, y2⟩ x1
          · rw [eo] at y3
            exact zAf_lk hl m _ _ _ _ _ _ _ _ _ _ _ _ _ _ _ _ x3 y3 z.nb g
      · refine Or.inr ?_
        have z2 := znb_pd z
        rcases c4 with ⟨_, _, y3⟩ | ⟨_, y3⟩
        · exact y3.pd hl z2
        · exact y3.pd hl z2
theorem zJu_V {V1 V2 ra : Int} {Fa Wh Fb Wb : Int32} (h1 : zJu ra uA V1 Fa Wh) (h2 : zJu ra uB V2 Fb Wb) (h : zLq D tt uA uB) : V2 = V1 := by
  have em : uB.1 1 0 0 = uA.1 1 0 0 := h.1.1 _ _ _ (by decide) (by decide)
  have e5 : uB.2 5 0 0 = uA.2 5 0 0 := h.1.2 _ _ _ (by decide) (by decide)
  unfold zJu at h1 h2
  rw [em, e5] at h2
  rcases h1 with ⟨a, b, _⟩ | ⟨a, b, _⟩ <;> rcases h2 with ⟨c, f, _⟩ | ⟨c, f, _⟩
  · omega
  · exact absurd a c
  · exact absurd c a
  · omega
/-- a life: what is done in both rows; in the second one all that is told -/
theorem zLf_lk (hl : e.1 10 2 0 = 1) {V2 : Int} {Fa2 Wh2 : Int32} (hA : zLf e K F A V Fa Wh A') (hB : zLf e K F B V2 Fa2 Wh2 B') (h : zLq D tt A B) (g : zAg D A') : zLq D tt A' B' ∨ zPd B' := by
  obtain ⟨sd, Fb, Wb, ob, sb, h1, V1, F1, W1, o1, s1, h2, h3⟩ := hA
  obtain ⟨sd', Fb', Wb', ob', sb', k1, V1', F1', W1', o1', s1', k2, k3⟩ := hB
  have g1 : zAg D s1 := g.bk h3.dn
  have d1 : zDn sb s1 := by
    rcases h2 with ⟨_, z, _⟩ | ⟨_, u, z, _, z2, _⟩
    · rw [z]; exact zDn.r
    · rw [z2]
      exact zDn.tr (t := zw sb 0 0 0 (iI (K 3))) (zDn.eq ⟨rfl, rfl, rfl⟩) (z.dn.tr znb_dn)
  rcases zBf_lk hl _ _ _ _ _ _ _ _ _ _ _ _ _ _ h1 k1 h (g1.bk d1) with ⟨z, zs, zo⟩ | z
  · rcases h2 with ⟨a1, a2, a3, a4, _⟩ | ⟨a1, u, a2, a3, a4, a5, a6⟩
    · rcases k2 with ⟨c1, c2, c3, c4, _⟩ | ⟨c1, _⟩
      · rw [a2, a3, a4] at h3
        rw [c2, c3, c4, zo a1] at k3
        exact zAf_lk hl _ _ _ _ _ _ _ _ _ _ _ _ _ _ _ _ _ h3 k3 z g
      · omega
    · rcases k2 with ⟨c1, _⟩ | ⟨c1, u', c2, c3, c4, c5, c6⟩
      · omega
      have z' : zLq D tt (zw sb 0 0 0 (iI (K 3))) (zw sb' 0 0 0 (iI (K 3))) := z.cm (fun s => zw s 0 0 0 (iI (K 3))) (zmx_w (by decide)) ⟨rfl, rfl, rfl⟩ ⟨rfl, rfl, rfl⟩ rfl
      rw [a4] at g1
      rcases zEx_lk hl a2 c2 z' (g1.bk znb_dn) a3 c3 with y | y
      · have ev := zJu_V a6 c6 y
        have eo := y.eov
        rw [a4, a5] at h3
        rw [c4, c5, eo, ev] at k3
        exact zAf_lk hl _ _ _ _ _ _ _ _ _ _ _ _ _ _ _ _ _ h3 k3 y.nb g
      · refine Or.inr (k3.pd hl ?_)
        rw [c4]
        exact znb_pd y
  · refine Or.inr (k3.pd hl ?_)
    rcases k2 with ⟨_, c2, _⟩ | ⟨_, u', c2, _, c4, _⟩
    · rw [c2]; exact z
    · rw [c4]
      exact znb_pd (c2.pd hl (z.eq (t := zw sb' 0 0 0 (iI (K 3))) rfl rfl))
end S9du
