/-! what an operation is changed into: the reference -/
def iw (z : Int) : Int := if z = 0 then 0 else if z = 4 ∨ z = 28 ∨ z = 29 then 9 else if z = 6 then 33 else if z = 7 then 32 else if z = 8 then 34 else if z = 10 then 11 else if z = 11 then 10 else if z = 12 then 13 else if z = 13 ∨ z = 14 then 12 else if z = 15 then 16 else if z = 16 then 15 else if z = 17 then 18 else if z = 18 then 17 else if z = 19 then 20 else if z = 20 then 19 else if z = 21 ∨ z = 22 then 30 else if z = 24 then 31 else -1
section S86
variable {d : Nat} {M : Mem} {v : Int32} {z : Int}
theorem a233 (hd : 1 ≤ d) (hv : v = iI z) (hz : 0 ≤ z ∧ z ≤ 29) : runX d 233 [.int v] M = some (.int (iI (iw z)), M) := by
  obtain ⟨d, rfl⟩ : ∃ e, d = e + 1 := ⟨d - 1, by omega⟩
  subst hv
  rw [r233]; unfold b233; rw [aI_e, aZ_e]; unfold c233
  have c : z = 0 ∨ z = 1 ∨ z = 2 ∨ z = 3 ∨ z = 4 ∨ z = 5 ∨ z = 6 ∨ z = 7 ∨ z = 8 ∨ z = 9 ∨ z = 10 ∨ z = 11 ∨ z = 12 ∨ z = 13 ∨ z = 14 ∨ z = 15 ∨ z = 16 ∨ z = 17 ∨ z = 18 ∨ z = 19 ∨ z = 20 ∨ z = 21 ∨ z = 22 ∨ z = 23 ∨ z = 24 ∨ z = 25 ∨ z = 26 ∨ z = 27 ∨ z = 28 ∨ z = 29 := by omega
  rcases c with c | c | c | c | c | c | c | c | c | c | c | c | c | c | c | c | c | c | c | c | c | c | c | c | c | c | c | c | c | c <;> subst c <;> rfl
end S86
