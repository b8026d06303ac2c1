/-! the small machine by itself: a state, and what it becomes -/
/-- whole numbers: 0 open codes, 1 mode (0 goes on, 1 goes on behind a START, 2 a code has answered, 3 what fails may be caught, 7 not, 4 and 8 a code was left so, 5 no STEP, 6 no WORK), of code i: 2 place, 3 height, 4 TRYs, 5 START of (-1: none), 6 numbers below, 7 where TRY t leads, 16 LOCALS set; 8 units, 9 STEPS left, 10 made, 11 DRAWS, 12 WORK, 13 WHERE, 14 DRAWS known, 15 the latest CASE that did a code. Others: 0 LOCALS, 1 numbers, 2 members, 3 rows, 4 x, 5 FAILURE, 6 answer, 7 times, 8 CASES, 9 DRAWS, 10 of how many, 11 CALLS heard, 12 their RULE, 13 their arguments -/
abbrev ZS : Type := (Nat → Int → Int → Int) × (Nat → Int → Int → Int32)
def zi (s : ZS) (k : Nat) (i j v : Int) : ZS := (fun k' i' j' => if k' = k ∧ i' = i ∧ j' = j then v else s.1 k' i' j', s.2)
def zw (s : ZS) (k : Nat) (i j : Int) (v : Int32) : ZS := (s.1, fun k' i' j' => if k' = k ∧ i' = i ∧ j' = j then v else s.2 k' i' j')
/-- the code on top, its place, its height -/
def zf (s : ZS) : Int := s.1 0 0 0 - 1
def zpc (s : ZS) : Int := s.1 2 (zf s) 0
def zh (s : ZS) : Int := s.1 3 (zf s) 0
/-- the c-th number from the top -/
def ztop (s : ZS) (c : Int) : Int32 := s.2 1 (zf s) (zh s - c)
def zdn (s : ZS) (c : Int) : ZS := zi s 3 (zf s) 0 (zh s - c)
def zpush (s : ZS) (v : Int32) : ZS := zi (zw s 1 (zf s) (zh s) v) 3 (zf s) 0 (zh s + 1)
def zgo (s : ZS) (t : Int) : ZS := zi s 2 (zf s) 0 t
def znx (s : ZS) : ZS := zgo s (zpc s + 1)
def zerr (s : ZS) (v : Int32) (m : Int) : ZS := zi (zi (zw s 5 0 0 v) 13 0 0 (zpc s)) 1 0 0 m
/-- a new code on top: entry, START of, numbers below, LOCALS set -/
def zent (s : ZS) (t st sb c : Int) : ZS := zi (zi (zi (zi (zi (zi (zi s 2 (s.1 0 0 0) 0 t) 3 (s.1 0 0 0) 0 0) 4 (s.1 0 0 0) 0 0) 5 (s.1 0 0 0) 0 st) 6 (s.1 0 0 0) 0 sb) 16 (s.1 0 0 0) 0 c) 0 0 0 (s.1 0 0 0 + 1)
/-- what is told of the codes, e: 0 operation, 1 number, 2 member (below 0: less what it fails by), 3 unit of a member, 4 sort, 5 value, 6 code, 7 start of a unit (-1: none), 8 what is altered, 10 whether it is counted (0), CALLS heard (1), luck (2), 11 DOUBLE of a member, 12 its RULES, 13 argument, 14 whether it fails, 16 number of the CASE, 18 arguments, 19 what is caught where, 20 how many STEPS; others: 0 value, 1 number of a RULE, 2 its answer, 4 SEED -/
def zop (e : ZS) (p : Int) : Int := if p = e.1 8 0 0 then iw (e.1 0 p 0) else e.1 0 p 0
def znum (e : ZS) (p : Int) : Int := if p = e.1 8 0 0 ∧ e.1 0 p 0 = 0 then e.1 1 p 0 + 1 else e.1 1 p 0
def zoff (p : Int) : Int := if p < 1000 then 0 else 1000
def zsh (x : Int32) : Int32 := (Int32.toUInt32 x >>> (Int32.toUInt32 ((16 : Int32)) &&& Int32.toUInt32 31)).toInt32
/-- operations 10 to 20 -/
def ztwo (o : Int) (a b : Int32) : Int32 := if o = 10 then a + b else if o = 11 then a - b else if o = 12 then a * b else if o = 13 then a / b else if o = 14 then xrem a b else if o = 15 then (if b ≤ a then 0 else 1) else if o = 16 then (if b < a then 0 else 1) else if o = 17 then (if a = b then 1 else 0) else if o = 18 then (if a = b then 0 else 1) else if o = 19 then (if a = 0 then 0 else if b = 0 then 0 else 1) else (if a = 0 then (if b = 0 then 0 else 1) else 1)
/-- the RULE that answers: the last that fits -/
def zrl (e s : ZS) (d par : Int) : Nat → Int
  | 0 => -2
  | r + 1 => if e.1 13 d r < 0 ∨ s.2 1 (zf s) (zh s - par + e.1 13 d r) = e.2 1 d r then (r : Int) else zrl e s d par r
/-- a CALL is heard -/
def zhear (s : ZS) (d par r : Int) : ZS := (fun k i j => if k = 17 ∧ i = d ∧ j = 0 then s.1 17 d 0 + 1 else s.1 k i j, fun k i j => if k = 12 ∧ i = d ∧ j = s.1 17 d 0 ∧ s.1 17 d 0 < 50 then iI r else if k = 13 ∧ i = d ∧ s.1 17 d 0 < 50 ∧ 4 * s.1 17 d 0 ≤ j ∧ j < 4 * s.1 17 d 0 + par then s.2 1 (zf s) (zh s - par + (j - 4 * s.1 17 d 0)) else s.2 k i j)
/-- arguments become LOCALS of the code that comes -/
def zarg (s : ZS) (par : Int) : ZS := (s.1, fun k i j => if k = 0 ∧ i = s.1 0 0 0 ∧ 0 ≤ j ∧ j < par then s.2 1 (zf s) (zh s - par + j) else s.2 k i j)
def zcall (e s : ZS) (id d par r : Int) : ZS :=
  if 0 ≤ r then (if e.1 14 d r = 1 then zerr s (e.2 2 d r) 3 else znx (zpush (zdn s par) (e.2 2 d r)))
  else if s.1 0 0 0 = 12 then zerr s 7 7
  else zent (zdn (zarg s par) par) (e.1 6 id 0) (-1) (s.1 6 (zf s) 0 + (zh s - par)) par
def zruleOf (e s : ZS) (id : Int) : Int := if e.1 11 id 0 < 0 then -2 else zrl e s (e.1 11 id 0) (e.1 5 id 0) (e.1 12 (e.1 11 id 0) 0).toNat
/-- a member whose unit has begun -/
def zmem (e s : ZS) (o id : Int) : ZS :=
  if o = 3 then znx (zpush s (s.2 2 id 0))
  else if o = 4 then zw (znx (zdn s 1)) 2 id 0 (ztop s 1)
  else if o = 5 then (if (ztop s 1).toInt < 0 ∨ e.1 5 id 0 ≤ (ztop s 1).toInt then zerr (zdn s 1) 2 3 else znx (zpush (zdn s 1) (s.2 3 id (ztop s 1).toInt)))
  else if o = 6 then (if (ztop s 2).toInt < 0 ∨ e.1 5 id 0 ≤ (ztop s 2).toInt then zerr (zdn s 2) 2 3 else zw (znx (zdn s 2)) 3 id (ztop s 2).toInt (ztop s 1))
  else zcall e (if 0 ≤ e.1 11 id 0 ∧ e.1 10 1 0 = 1 then zhear s (e.1 11 id 0) (e.1 5 id 0) (zruleOf e s id) else s) id (e.1 11 id 0) (e.1 5 id 0) (zruleOf e s id)
/-- a unit begins: what is told stands in its members -/
def zinit (e s : ZS) (key : Int) : ZS := (s.1, fun k i j => if k = 2 ∧ e.1 3 i 0 = key ∧ e.1 4 i 0 = 1 then e.2 0 i 0 else if k = 3 ∧ e.1 3 i 0 = key ∧ e.1 4 i 0 = 3 then 0 else s.2 k i j)
def zuse (e s : ZS) (o id key : Int) : ZS :=
  if id < 0 then zerr s (iI (-id)) 3
  else if s.1 8 key 0 = 1 then zmem e s o id
  else if s.1 8 key 0 = 2 then zerr s 9 3
  else if e.1 7 key 0 < 0 then zmem e (zinit e (zi s 8 key 0 1) key) o id
  else if s.1 0 0 0 < 12 then zent (zinit e (zi s 8 key 0 1) key) (e.1 7 key 0) key (s.1 6 (zf s) 0 + zh s) 0
  else zerr (zi (zinit e (zi s 8 key 0 1) key) 8 key 0 2) 8 3
def zdraw (e s : ZS) (n : Int32) : ZS :=
  if (1 : Int32) ≤ n then
    (if e.1 10 2 0 = 1 then
      (if s.1 11 0 0 = s.1 14 0 0 then zi (znx (zpush (zdn (zi (zw (zw s 9 (s.1 14 0 0) 0 0) 10 (s.1 14 0 0) 0 n) 14 0 0 (s.1 14 0 0 + 1)) 1) 0)) 11 0 0 (s.1 11 0 0 + 1)
       else zi (znx (zpush (zdn s 1) (s.2 9 (s.1 11 0 0) 0))) 11 0 0 (s.1 11 0 0 + 1))
     else zi (znx (zpush (zdn (zw s 4 0 0 (s.2 4 0 0 * 1103515245 + 12345)) 1) (xrem (zsh (s.2 4 0 0 * 1103515245 + 12345)) n))) 11 0 0 (s.1 11 0 0 + 1))
  else zerr (zdn s 1) 3 3
/-- an instruction is done -/
def zex (e s : ZS) (o n : Int) : ZS :=
  if o = 0 then znx (zpush s (iI n))
  else if o = 1 then znx (zpush s (s.2 0 (zf s) n))
  else if o = 2 then znx (zi (zw (zdn s 1) 0 (zf s) n (ztop s 1)) 16 (zf s) 0 (if n < s.1 16 (zf s) 0 then s.1 16 (zf s) 0 else n + 1))
  else if o ≤ 7 then zuse e s o (e.1 2 (zpc s) 0) (e.1 3 (e.1 2 (zpc s) 0) 0)
  else if o = 8 then zi (zi (zw s 6 0 0 (ztop s 1)) 0 0 0 (zf s)) 1 0 0 2
  else if o = 34 then zi (zi (zw s 6 0 0 0) 0 0 0 (zf s)) 1 0 0 2
  else if o = 9 then znx (zdn s 1)
  else if o = 33 then znx (zdn s 2)
  else if o ≤ 20 then (if ztop s 1 = 0 ∧ (o = 13 ∨ o = 14) then zerr (zdn s 2) 1 3 else znx (zpush (zdn s 2) (ztwo o (ztop s 2) (ztop s 1))))
  else if o = 21 then znx (zpush (zdn s 1) (if ztop s 1 = 0 then 1 else 0))
  else if o = 22 then znx (zpush (zdn s 1) (-(ztop s 1)))
  else if o = 23 then zdraw e s (ztop s 1)
  else if o = 24 then zgo (zdn s 1) (if ztop s 1 = 0 then n + zoff (zpc s) else zpc s + 1)
  else if o = 31 then zgo (zdn s 1) (if ztop s 1 = 0 then zpc s + 1 else n + zoff (zpc s))
  else if o = 25 then zgo s (n + zoff (zpc s))
  else if o = 26 then znx (zi (zi s 7 (zf s) (s.1 4 (zf s) 0) (n + zoff (zpc s))) 4 (zf s) 0 (s.1 4 (zf s) 0 + 1))
  else if o = 27 then znx (zi s 4 (zf s) 0 (s.1 4 (zf s) 0 - 1))
  else if o = 28 then (if ztop s 1 = 0 then zerr (zdn s 1) 5 3 else znx (zdn s 1))
  else if o = 29 then zerr (zdn s 1) (ztop s 1) 3
  else if o = 32 then znx (zpush (zdn s (e.1 5 n 0)) 0)
  else znx s
/-- a STEP -/
def ztick (e s : ZS) : ZS := (fun k i j => if k = 9 then s.1 9 0 0 - 1 else if k = 10 then s.1 10 0 0 + 1 else if k = 12 then s.1 12 0 0 - 1 else if k = 15 ∧ e.1 10 0 0 = 1 ∧ i = zpc s then e.1 16 0 0 else s.1 k i j, fun k i j => if k = 7 ∧ e.1 10 0 0 = 1 ∧ i = zpc s then s.2 7 (zpc s) 0 + 1 else if k = 8 ∧ e.1 10 0 0 = 1 ∧ i = zpc s ∧ s.1 15 (zpc s) 0 ≠ e.1 16 0 0 then s.2 8 (zpc s) 0 + 1 else s.2 k i j)
def zret (s : ZS) : ZS := if 0 ≤ s.1 5 (s.1 0 0 0) 0 then zi s 1 0 0 1 else if s.1 0 0 0 = 0 then s else zi (znx (zpush s (s.2 6 0 0))) 1 0 0 0
def zthr (s : ZS) (m : Int) : ZS := if m = 3 ∧ 0 < s.1 4 (zf s) 0 then zi (zi (zi (zi (zw s 1 (zf s) 0 (s.2 5 0 0)) 3 (zf s) 0 1) 2 (zf s) 0 (s.1 7 (zf s) (s.1 4 (zf s) 0 - 1))) 4 (zf s) 0 (s.1 4 (zf s) 0 - 1)) 1 0 0 0 else zi (zi s 0 0 0 (zf s)) 1 0 0 (m + 1)
def zunw (s : ZS) (m : Int) : ZS := if 0 ≤ s.1 5 (s.1 0 0 0) 0 then zi (zerr s 8 3) 8 (s.1 5 (s.1 0 0 0) 0) 0 2 else if s.1 0 0 0 = 0 then s else zi s 1 0 0 (m - 1)
def zstep (e s : ZS) : ZS :=
  if s.1 1 0 0 = 0 then (if s.1 9 0 0 = 0 then zerr s 6 5 else if s.1 12 0 0 = 0 then zi s 1 0 0 6 else zex e (ztick e s) (zop e (zpc s)) (znum e (zpc s)))
  else if s.1 1 0 0 = 1 then zex e (zi s 1 0 0 0) (zop e (zpc s)) (znum e (zpc s))
  else if s.1 1 0 0 = 2 then zret s
  else if s.1 1 0 0 = 3 ∨ s.1 1 0 0 = 7 then zthr s (s.1 1 0 0)
  else if s.1 1 0 0 = 4 ∨ s.1 1 0 0 = 8 then zunw s (s.1 1 0 0)
  else s
def zgoes (e s : ZS) : Nat → ZS
  | 0 => s
  | k + 1 => zgoes e (zstep e s) k
/-- s becomes t -/
def zto (e s t : ZS) : Prop := ∃ k, zgoes e s k = t
/-- nothing more is done -/
def zend (s : ZS) : Prop := s.1 1 0 0 = 5 ∨ s.1 1 0 0 = 6 ∨ (s.1 0 0 0 = 0 ∧ s.1 5 0 0 < 0 ∧ (s.1 1 0 0 = 2 ∨ s.1 1 0 0 = 4 ∨ s.1 1 0 0 = 8))
section S90
variable {e s t u : ZS} {k k' : Nat} {i j i' j' v m : Int} {w : Int32}
theorem zi_e : (zi s k i j v).1 k i j = v := if_pos ⟨rfl, rfl, rfl⟩
theorem zi_k (h : k' ≠ k) : (zi s k i j v).1 k' i' j' = s.1 k' i' j' := if_neg fun q => h q.1
theorem zi_i (h : i' ≠ i) : (zi s k i j v).1 k' i' j' = s.1 k' i' j' := if_neg fun q => h q.2.1
theorem zi_j (h : j' ≠ j) : (zi s k i j v).1 k' i' j' = s.1 k' i' j' := if_neg fun q => h q.2.2
theorem zw_e : (zw s k i j w).2 k i j = w := if_pos ⟨rfl, rfl, rfl⟩
theorem zw_k (h : k' ≠ k) : (zw s k i j w).2 k' i' j' = s.2 k' i' j' := if_neg fun q => h q.1
theorem zw_i (h : i' ≠ i) : (zw s k i j w).2 k' i' j' = s.2 k' i' j' := if_neg fun q => h q.2.1
theorem zw_j (h : j' ≠ j) : (zw s k i j w).2 k' i' j' = s.2 k' i' j' := if_neg fun q => h q.2.2
theorem zgoes_add : ∀ (a b : Nat) (s : ZS), zgoes e s (a + b) = zgoes e (zgoes e s a) b
  | 0, b, s => by rw [Nat.zero_add]; rfl
  | a + 1, b, s => by rw [show a + 1 + b = (a + b) + 1 by omega]; exact zgoes_add a b (zstep e s)
theorem zto.r : zto e s s := ⟨0, rfl⟩
theorem zto.st (h : zto e (zstep e s) t) : zto e s t := by
  obtain ⟨k, h⟩ := h
  exact ⟨k + 1, h⟩
theorem zto.tr (h : zto e s t) (g : zto e t u) : zto e s u := by
  obtain ⟨k, h⟩ := h
  obtain ⟨k', g⟩ := g
  exact ⟨k + k', by rw [zgoes_add, h, g]⟩
theorem zend.st (h : zend s) : zstep e s = s := by
  unfold zend at h
  unfold zstep
  rcases h with h | h | ⟨h1, h2, h | h | h⟩
  · rw [h]; rfl
  · rw [h]; rfl
  · rw [if_neg (by omega), if_neg (by omega), if_pos h]
    unfold zret
    rw [h1, if_neg (by omega), if_pos rfl]
  · rw [if_neg (by omega), if_neg (by omega), if_neg (by omega), if_neg (by omega), if_pos (Or.inl h)]
    unfold zunw
    rw [h1, if_neg (by omega), if_pos rfl]
  · rw [if_neg (by omega), if_neg (by omega), if_neg (by omega), if_neg (by omega), if_pos (Or.inr h)]
    unfold zunw
    rw [h1, if_neg (by omega), if_pos rfl]
theorem zend.goes (h : zend s) : ∀ k, zgoes e s k = s
  | 0 => rfl
  | k + 1 => by
    show zgoes e (zstep e s) k = s
    rw [h.st]
    exact h.goes k
/-- the end is one -/
theorem zto.one (h : zto e s t) (g : zto e s u) (ht : zend t) (hu : zend u) : t = u := by
  obtain ⟨k, h⟩ := h
  obtain ⟨k', g⟩ := g
  rcases Nat.le_total k k' with c | c
  · obtain ⟨b, rfl⟩ : ∃ b, k' = k + b := ⟨k' - k, by omega⟩
    rw [zgoes_add, h, ht.goes] at g
    exact g
  · obtain ⟨b, rfl⟩ : ∃ b, k = k' + b := ⟨k - k', by omega⟩
    rw [zgoes_add, g, hu.goes] at h
    exact h.symm
end S90
