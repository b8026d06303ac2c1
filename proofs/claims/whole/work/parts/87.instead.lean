/-! what an operation is changed into: the first object -/
section S86b
variable {LL : Nat} {xs : Nat → Int32} {M : Mem} {z : Int}
theorem ins1 (hO : OldOK LL xs M) (hz : 0 ≤ z ∧ z ≤ 29) : M.1 1 z.toNat = iI (if iw z = -1 then -2 else iw z) := by
  rw [hO.2 1 z.toNat (by omega)]
  have c : z = 0 ∨ z = 1 ∨ z = 2 ∨ z = 3 ∨ z = 4 ∨ z = 5 ∨ z = 6 ∨ z = 7 ∨ z = 8 ∨ z = 9 ∨ z = 10 ∨ z = 11 ∨ z = 12 ∨ z = 13 ∨ z = 14 ∨ z = 15 ∨ z = 16 ∨ z = 17 ∨ z = 18 ∨ z = 19 ∨ z = 20 ∨ z = 21 ∨ z = 22 ∨ z = 23 ∨ z = 24 ∨ z = 25 ∨ z = 26 ∨ z = 27 ∨ z = 28 ∨ z = 29 := by omega
  rcases c with c | c | c | c | c | c | c | c | c | c | c | c | c | c | c | c | c | c | c | c | c | c | c | c | c | c | c | c | c | c <;> subst c <;> rfl
end S86b
