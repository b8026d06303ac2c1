/-! codes whose words are settled keep their shape -/
/-- the same shape: a read may have become a number; what reads, writes or calls may have got its number -/
def Sub (G G' : Nat → Int → Int) : Prop := ∀ j, (G' 0 j = G 0 j ∨ (G 0 j = 3 ∧ G' 0 j = 0)) ∧ ((G 0 j < 3 ∨ 7 < G 0 j) → G' 3 j = G 3 j) ∧ ∀ k, k ≠ 0 ∧ k ≠ 1 ∧ k ≠ 3 → G' k j = G k j
section S83
variable {G G' U B Y : Nat → Int → Int} {X : Nat → Int → Int64} {X1 X2 : Int → Int64} {a b e h s td tp h' s' d d' o n n' g i j k n1 n2 u ut cnt : Int} {K : Int → Int → Int → Int → Int → Prop} {H : HG} {R : RG} {dp : Int}
theorem effN (w : Eff o n g d s d' s') (ho : 3 ≤ o ∧ o ≤ 7) : Eff o n' g d s d' s' := by
  rcases w with w | w | w | ⟨w, v⟩ | ⟨w, v⟩ | w | w | w | w
  · exact Or.inl w
  · have := w.1; omega
  · have := w.1; omega
  · exact Or.inr (Or.inr (Or.inr (Or.inl ⟨Or.inl (by omega), v⟩)))
  · exact Or.inr (Or.inr (Or.inr (Or.inr (Or.inl ⟨Or.inl (by omega), v⟩))))
  · exact Or.inr (Or.inr (Or.inr (Or.inr (Or.inr (Or.inl w)))))
  · exact Or.inr (Or.inr (Or.inr (Or.inr (Or.inr (Or.inr (Or.inl w))))))
  · have := w.1; omega
  · have := w.1; omega
theorem effZ (w : Eff 3 n g d s d' s') : Eff 0 n' g d s d' s' := by
  rcases w with w | w | w | ⟨w, v⟩ | ⟨w, v⟩ | w | w | w | w
  · exact Or.inl ⟨Or.inl rfl, w.2⟩
  · have := w.1; omega
  · have := w.1; omega
  · omega
  · omega
  · have := w.1; omega
  · have := w.1; omega
  · have := w.1; omega
  · have := w.1; omega
theorem Sub.op {nx : Int → Int → Int → Int → Int → Prop} {pr : Int → Int → Prop} {Hh S T P : Int} (q : Sub G G') (w : OpT nx pr (G 0 j) (G 3 j) (G 6 j) Hh S T P j) : OpT nx pr (G' 0 j) (G' 3 j) (G' 6 j) Hh S T P j := by
  obtain ⟨q0, q3, qk⟩ := q j
  rw [qk 6 (by omega)]
  rcases q0 with q0 | ⟨q0, q1⟩
  · rw [q0]
    by_cases c : G 0 j < 3 ∨ 7 < G 0 j
    · rw [q3 c]; exact w
    · rcases w with ⟨H', S', w1, w2⟩ | ⟨w, -⟩ | ⟨w, -⟩ | ⟨w, -⟩ | ⟨⟨w, -⟩, -⟩
      · exact Or.inl ⟨H', S', effN w1 (by omega), w2⟩
      · omega
      · omega
      · omega
      · omega
  · rw [q1]
    rcases w with ⟨H', S', w1, w2⟩ | ⟨w, -⟩ | ⟨w, -⟩ | ⟨w, -⟩ | ⟨⟨w, -⟩, -⟩
    · rw [q0] at w1 w2
      exact Or.inl ⟨H', S', effZ w1, Or.inr (w2.resolve_left (by omega))⟩
    · omega
    · omega
    · omega
    · omega
theorem Sub.ct (q : Sub G G') (w : CtT G Y a td tp j) : CtT G' Y a td tp j := by
  have e27 : G 0 j = 27 → G' 0 j = 27 := fun z => by rcases (q j).1 with y | y <;> omega
  rcases w with ⟨w1, w2, w3⟩ | ⟨w1, w2, w3, w4, w5⟩
  · exact Or.inl ⟨w1, w2, w3.imp e27 fun z => ((q j).2.2 2 (by omega)).trans z⟩
  · refine Or.inr ⟨w1, w2, by rcases (q (Y 3 j)).1 with y | y <;> omega, w4, w5.imp e27 fun z => ?_⟩
    rw [(q j).2.2 2 (by omega), (q (Y 3 j)).2.1 (by omega)]
    exact z
theorem Sub.ty (q : Sub G G') (w : TyX K G Y a b h s td tp h' s') : TyX K G' Y a b h s td tp h' s' := ⟨w.1, fun j p1 p2 => ⟨(w.2 j p1 p2).1, q.ct (w.2 j p1 p2).2.1, q.op (w.2 j p1 p2).2.2⟩⟩
theorem Sub.tyb (q : Sub G G') (w : Tyb dp G a b s s') : Tyb dp G' a b s s' := fun td tp p1 p2 p3 p4 => by
  obtain ⟨Y, w⟩ := w td tp p1 p2 p3 p4
  exact ⟨Y, q.ty w⟩
theorem Sub.en (q : Sub G G') (w : EnT G e a s) : EnT G' e a s := by
  obtain ⟨b, w1, w2, w3, w4, w5, w6, w7, w8, w9, wa⟩ := w
  refine ⟨b, w1, w2, w3, w4, w5, q.tyb w6, ?_, ((q b).2.2 2 (by omega)).trans w8, ?_, ((q (b + 1)).2.2 2 (by omega)).trans wa⟩
  · rcases (q b).1 with y | y <;> omega
  · rcases (q (b + 1)).1 with y | y <;> omega
theorem Sub.unw {f f2 s : Nat} (q : Sub G G') (w : UnW G H R e j s f f2) : UnW G' H R e j s f f2 := ⟨w.1, w.2.1, w.2.2.1, fun i p1 p2 => ⟨(w.2.2.2 i p1 p2).1, q.en (w.2.2.2 i p1 p2).2⟩⟩
/-- what both know of complete units -/
theorem HRC.sub (w : HRC G e H R k) (q : Sub G G') : HRC G' e H R k := by
  obtain ⟨a1, a2, h3, h4, h5, h6, h7⟩ := w
  have e4 : ∀ j, G' 4 j = G 4 j := fun j => (q j).2.2 4 (by omega)
  refine ⟨a1, a2, fun j p1 p2 => ?_, fun i p1 p2 => ?_, fun i p1 p2 => ?_, fun i p1 p2 => ?_, fun i p1 p2 => by rw [e4]; exact h7 i p1 p2⟩
  · obtain ⟨q1, q2, q3, q4, q5, q6, q7⟩ := h3 j p1 p2
    exact ⟨q1, q2.imp id fun z => ⟨z.1, q.en z.2⟩, q.unw q3, q.unw q4, q5, q6, fun i w1 w2 => by rw [e4]; exact q7 i w1 w2⟩
  · obtain ⟨q1, q2, q3, q4, q5, q6, q7, q8⟩ := h4 i p1 p2
    exact ⟨q1, q2, q3, q4, q5, q6, q7, q8.imp (fun z => ⟨z.1, z.2.1, q.en z.2.2⟩) id⟩
  · obtain ⟨q1, q2, q3, q4, q5, q6, q7⟩ := h5 i p1 p2
    exact ⟨q1, q2, q3, q4, q5, q6, q.en q7⟩
  · obtain ⟨q1, q2, q3, q4, q5⟩ := h6 i p1 p2
    exact ⟨q1, q2, q3, q4, q.en q5⟩
/-- what settling does to the codes -/
theorem SetU.sub (hu : ∀ q, 0 ≤ q → q < u → (0 ≤ U 1 q ∧ U 1 q ≤ 4) ∧ (U 1 q < 3 ∧ U 7 q = U 1 q + 1 ∨ 3 ≤ U 1 q ∧ U 7 q = U 1 q) ∧ G 0 (U 2 q) = U 1 q + 3) (h2 : ∀ r, 0 ≤ r → r < n2 → 0 ≤ B 2 r) : ∀ {k : Nat} {G1 : Nat → Int → Int}, (k : Int) ≤ u → SetU X1 X2 n1 n2 B U X G k G1 → Sub G G1 ∧ (∀ i, (G 1 i = G 3 i ∨ ∃ q : Int, 0 ≤ q ∧ q < (k : Int) ∧ U 2 q = i) → G1 1 i = G1 3 i) ∧ ∀ q : Int, 0 ≤ q → q < (k : Int) → ∃ un r, UsL X1 X2 n1 n2 B U X q un r ∧ UsO B U q un r
  | 0, _, _, h => by
    rw [h]
    exact ⟨fun j => ⟨Or.inl rfl, fun _ => rfl, fun _ _ => rfl⟩, fun i w => w.elim id fun ⟨q, a, b, _⟩ => absurd b (by omega), fun q a b => absurd b (by omega)⟩
  | k + 1, _, hk, ⟨Ga, un, r, a1, a2, a3, a4⟩ => by
    obtain ⟨s1, s2, s3⟩ := SetU.sub hu h2 (by omega) a1
    obtain ⟨b1, b7, b0⟩ := hu k (by omega) (by omega)
    have r0 : 0 ≤ r := a3.1
    have kd := a3.2.2
    have hB := h2 r r0 (by have := a2.lt; omega)
    rw [a4]
    refine ⟨fun j => ⟨?_, fun w => ?_, fun f w => ?_⟩, fun i w => ?_, fun q p1 p2 => ?_⟩
    · show (if j = U 2 k then (if B 2 r = 0 then 0 else Ga 0 j) else Ga 0 j) = G 0 j ∨ (G 0 j = 3 ∧ (if j = U 2 k then (if B 2 r = 0 then 0 else Ga 0 j) else Ga 0 j) = 0)
      by_cases y : j = U 2 k
      · rw [if_pos y]
        by_cases z : B 2 r = 0
        · rw [if_pos z]
          unfold KdU at kd
          rw [y]
          exact Or.inr ⟨by omega, rfl⟩
        · rw [if_neg z]; exact (s1 j).1
      · rw [if_neg y]; exact (s1 j).1
    · show (if j = U 2 k then (if B 2 r = 0 then B 4 r else r) else Ga 3 j) = _
      rw [if_neg (fun y => by rw [y] at w; omega)]
      exact (s1 j).2.1 w
    · show (if j = U 2 k then (if f = 0 then _ else if f = 1 ∨ f = 3 then _ else Ga f j) else Ga f j) = _
      rw [if_neg (show ¬ f = 0 by omega), if_neg (show ¬ (f = 1 ∨ f = 3) by omega), ite_self]
      exact (s1 j).2.2 f w
    · show (if i = U 2 k then (if B 2 r = 0 then B 4 r else r) else Ga 1 i) = (if i = U 2 k then (if B 2 r = 0 then B 4 r else r) else Ga 3 i)
      by_cases y : i = U 2 k
      · rw [if_pos y, if_pos y]
      · rw [if_neg y, if_neg y]
        refine s2 i (w.imp id fun ⟨q, p1, p2, p3⟩ => ⟨q, p1, ?_, p3⟩)
        have : q ≠ k := fun z => y (by rw [← p3, z])
        omega
    · by_cases y : q = k
      · rw [y]; exact ⟨un, r, a2, a3⟩
      · exact s3 q p1 (by omega)
end S83
