/-! the reference's machine: TRYs -/
section S9b1
variable {d : Nat} {e s s' t u A : ZS} {M M' M1 M2 : Mem} {a b j N x y : Nat} {v v1 v2 v3 w : Int32} {c k i n m p o q id : Int}
/-- a TRY begins -/
theorem zRM.tryb (h : zRM e s M) (hl : zLr s) (ht : s.1 4 (zf s) 0 < 20) : zRM e (zi (zi s 7 (zf s) (s.1 4 (zf s) 0) c) 4 (zf s) 0 (s.1 4 (zf s) 0 + 1)) (sI M 215 (25 * zf s + s.1 4 (zf s) 0).toNat (iI c)) ∧ zRo e M (sI M 215 (25 * zf s + s.1 4 (zf s) 0).toNat (iI c)) := by
  obtain ⟨hG, hF, h76, h73, h85, h86⟩ := h
  have l1 := hl.1
  have zfe : zf s = s.1 0 0 0 - 1 := rfl
  have e4 : (zi (zi s 7 (zf s) (s.1 4 (zf s) 0) c) 4 (zf s) 0 (s.1 4 (zf s) 0 + 1)).1 4 (zf s) 0 = s.1 4 (zf s) 0 + 1 := zi_e
  refine ⟨⟨hG.ff (zRw.sI zRw.r (inW_c (by decide) _)) ⟨fun k p => ?_, fun k p q r => rfl⟩, fun i p q => ?_, (sI_ne (by decide)).trans h76, (sI_ne (by decide)).trans h73, (sI_ne (by decide)).trans h85, (sI_ne (by decide)).trans h86⟩, (zRw.sI zRw.r (inW_c (by decide) _)).ro⟩
  · rcases p with p | p | p | p | p | p | p | p <;> subst p <;> rfl
  · have q' : i < s.1 0 0 0 := q
    obtain ⟨x1, x2, x3, x4, x5⟩ := hl.2.1 i p q'
    have xf := (hl.2.1 (zf s) (by omega) (by omega)).2.2.2.2
    by_cases y : i = zf s
    · subst y
      obtain ⟨a1, a2, a3⟩ := hF (zf s) p q'
      refine ⟨fun k u w => (sI_ne (by decide)).trans (a1 k u w), fun k u w => ?_, fun k u w => (sI_ne (by decide)).trans (a3 k u w)⟩
      rw [e4] at w
      by_cases z : k = s.1 4 (zf s) 0
      · have z7 : (zi (zi s 7 (zf s) (s.1 4 (zf s) 0) c) 4 (zf s) 0 (s.1 4 (zf s) 0 + 1)).1 7 (zf s) k = c := by rw [z]; exact zi_e (s := s) (k := 7) (i := zf s) (j := s.1 4 (zf s) 0) (v := c)
        rw [z7, z]; exact sI_eq
      · have z7 : (zi (zi s 7 (zf s) (s.1 4 (zf s) 0) c) 4 (zf s) 0 (s.1 4 (zf s) 0 + 1)).1 7 (zf s) k = s.1 7 (zf s) k := zi_j (s := s) (k := 7) (k' := 7) (i := zf s) (i' := zf s) (v := c) z
        rw [z7]; exact (sI_nej (by omega)).trans (a2 k u (by omega))
    · refine (hF i p q').lo (fun k u w => sI_ne (by decide)) (fun k u w => sI_nej (by omega)) (fun k u w => sI_ne (by decide)) rfl (zi_i y) rfl rfl (fun t => ?_) (fun _ => rfl) (fun _ => rfl)
      exact zi_i (s := s) (k := 7) (k' := 7) (i := zf s) (i' := i) (v := c) y
/-- a TRY ends -/
theorem zRM.trye (h : zRM e s M) (ht : 1 ≤ s.1 4 (zf s) 0) : zRM e (zi s 4 (zf s) 0 (s.1 4 (zf s) 0 - 1)) M := by
  obtain ⟨hG, hF, h76, h73, h85, h86⟩ := h
  refine ⟨hG.ff zRw.r ⟨fun k p => ?_, fun k p q r => rfl⟩, fun i p q => ?_, h76, h73, h85, h86⟩
  · rcases p with p | p | p | p | p | p | p | p <;> subst p <;> rfl
  · have q' : i < s.1 0 0 0 := q
    by_cases y : i = zf s
    · subst y
      obtain ⟨a1, a2, a3⟩ := hF (zf s) p q'
      refine ⟨a1, fun k u w => a2 k u ?_, a3⟩
      have e4 : (zi s 4 (zf s) 0 (s.1 4 (zf s) 0 - 1)).1 4 (zf s) 0 = s.1 4 (zf s) 0 - 1 := zi_e
      rw [e4] at w
      omega
    · exact (hF i p q').lo (fun _ _ _ => rfl) (fun _ _ _ => rfl) (fun _ _ _ => rfl) rfl (zi_i y) rfl rfl (fun _ => rfl) (fun _ => rfl) (fun _ => rfl)
end S9b1
