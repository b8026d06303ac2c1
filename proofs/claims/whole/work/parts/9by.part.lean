/-! the reference's memory beside the environment -/
def zRR (g0 g1 : PG) : Int → RG := fun q => if q = 0 then gR g0 else gR g1
/-- what the reference's machine has of the run -/
def rnR (fr p0 p1 : Int) (g0 : PG) (L : Int → Int) (P : Nat → Int) (M : Mem) : Prop :=
  (M.1 160 66 = iI p0 ∧ M.1 160 67 = iI (if fr = 1 then p1 else -1)) ∧
  (M.1 160 90 = iI (P 1) ∧ M.1 160 91 = iI (P 2) ∧ M.1 160 92 = iI (P 3) ∧ M.1 160 97 = iI (P 4) ∧ (P 2 = 1 → M.1 160 93 = iI (P 5))) ∧
  ∀ u, 0 ≤ u → u < (gR g0).1 1 0 0 → M.1 209 u.toNat = iI (L u) ∧ -2 ≤ L u ∧ L u ≤ 7
section S9by
variable {g0 g1 : PG} {fr p0 p1 : Int} {L lk : Int → Int} {P : Nat → Int} {D : Nat → Int → Int → Int} {W : Nat → Int → Int → Int32} {j m p x l o q id k u : Int} {e : ZS} {M : Mem} {κ : ZK} {g : PG} {bo bl : Nat}
theorem SdF.rs (h : SdF e κ q p g) (hP : PkP g) (hR : PkR p g M) (hp : 0 ≤ p ∧ p < 8) (h66 : M.1 160 (66 + q.toNat) = iI p) : zRS e (gR g) q M := by
  obtain ⟨s1, -, -, -, ⟨s5, s6, s7, s8⟩, s9, s10, s11⟩ := h
  have n := hP.1.n2
  unfold zRS
  rw [s6, s7, s8]
  refine ⟨hp, h66, hR.1, ⟨rfl, n.2.1⟩, by omega, fun j a b => ?_, fun m a b => ?_, fun u a b => ?_⟩
  · obtain ⟨-, -, y1, y2, y3, y4, y5, y6⟩ := hP.1.1.2.2.2.1 j a (by omega)
    refine ⟨by omega, y3, fun z => ?_⟩
    rcases y6 with ⟨z1, z2, b', q1, q2, q3, q4, q5, -⟩ | ⟨z1, z2⟩ <;> omega
  · obtain ⟨⟨⟨b1, b2, b3, b4⟩, b5, b6, b7, b8⟩, -⟩ := s10 m a b
    exact ⟨b5, b1, b2, b3, b4, b7, fun z => ⟨(b8 z).1, (b8 z).2.1⟩⟩
  · obtain ⟨-, -, c3⟩ := s11 u a b
    rcases c3 with ⟨z1, z2, z3⟩ | ⟨z1, z2, z3, z4⟩
    · rw [z1, z2]; exact ⟨by decide, rfl⟩
    · rw [z1, if_neg (by omega)]; exact ⟨by omega, rfl⟩
theorem zRE.mk (h : zEO g0 g1 fr p0 p1 L lk P D) (he : e = zenv g0 g1 fr p0 p1 lk P D W) (hP0 : PkP g0) (hC0 : PkR p0 g0 M) (hP1 : fr = 1 → PkP g1 ∧ PkR p1 g1 M) (hR : rnR fr p0 p1 g0 L P M) (h7 : zR7 e M) : zRE e (zRR g0 g1) L M := by
  obtain ⟨⟨r1, r2⟩, ⟨r3, r4, r5, r6, r7⟩, r8⟩ := hR
  have n0 := h.1.1.n2
  have b0 := h.1.2.2
  have b1 := h.2.2.2.1
  have S0 : SdF e (zkap g0 g1 0 0 0) 0 p0 g0 := SdF.s0 h e he
  have S1 : fr = 1 → SdF e (zkap g0 g1 0 0 0) 1 p1 g1 := fun hf => SdF.s1 h hf e he
  have e22 : e.1 22 0 0 = fr := by rw [he]; rfl
  have e8 : e.1 8 0 0 = P 1 := by rw [he]; rfl
  have f01 : fr = 0 ∨ fr = 1 := by rcases h.2.1 with z | z <;> omega
  have f0 : fr = 0 → e.1 21 1 0 = 0 ∧ e.1 24 1 0 = 0 := fun z => by
    rw [he]
    exact ⟨(show (if fr = 1 then gE g1 else 0) = 0 from if_neg (by omega)), (show (if fr = 1 then (gR g1).1 2 0 0 else 0) = 0 from if_neg (by omega))⟩
  obtain ⟨-, -, -, -, ⟨s05, s06, s07, s08⟩, s09, s10, s11⟩ := S0
  have hw := h.2.2.2.2.1
  obtain ⟨w1, w2, w3, w4, w5, w6, w7⟩ := hw
  have e10 : e.1 10 0 0 = P 2 ∧ e.1 10 1 0 = P 3 ∧ e.1 10 2 0 = P 4 := by rw [he]; exact ⟨rfl, rfl, rfl⟩
  have e16 : e.1 16 0 0 = P 5 := by rw [he]; rfl
  have e29 : e.1 29 0 0 = p0 ∧ e.1 29 1 0 = p1 := by rw [he]; exact ⟨rfl, rfl⟩
  have z0 : zRR g0 g1 0 = gR g0 := if_pos rfl
  have z1 : zRR g0 g1 1 = gR g1 := if_neg (by decide)
  refine ⟨fun q z => ?_, ?_, fun p hp => ?_, ?_, ?_, fun u a b => ?_, fun p hp h3 h7' => ?_, h7⟩
  · rcases z with z | ⟨z, z2⟩
    · rw [z, z0]
      exact SdF.rs (SdF.s0 h e he (bo := 0) (bl := 0) (wt := 0)) hP0 hC0 b0 r1
    · have hf : fr = 1 := by omega
      rw [z, z1]
      rw [if_pos hf] at r2
      exact SdF.rs (S1 hf) (hP1 hf).1 (hP1 hf).2 b1 r2
  · rw [e22]
    rcases f01 with z | z
    · rw [if_neg (by omega)] at r2
      exact Or.inr ⟨z, (f0 z).1, (f0 z).2, r2⟩
    · exact Or.inl z
  · have hp' := hp
    rw [he] at hp'
    rcases h.in hp' with a | ⟨hf, j, y, a⟩
    · have ez : zrp e p = 1000 * p0 + p := by unfold zrp; rw [if_pos (by omega), e29.1]
      obtain ⟨y1, y2, -⟩ := s09 p a.1 (by omega)
      rw [show 1000 * (0 : Int) + p = p by omega] at y1 y2
      obtain ⟨y3, y4, -⟩ := hC0.2.2.1 p a.1 a.2
      have y5 := (hP0.1.2.2.1 p a.1 a.2).1
      rw [ez, y1, y2]
      exact ⟨y3, y4, y5⟩
    · subst y
      obtain ⟨-, -, -, -, -, t9, -⟩ := S1 hf
      have ez : zrp e (j + 1000) = 1000 * p1 + j := by unfold zrp; rw [if_neg (by omega), e29.2]; omega
      have n1 := (h.2.2.1 hf).1.n2
      obtain ⟨y1, y2, -⟩ := t9 j a.1 (by omega)
      rw [show 1000 * (1 : Int) + j = j + 1000 by omega] at y1 y2
      obtain ⟨y3, y4, -⟩ := (hP1 hf).2.2.2.1 j a.1 a.2
      have y5 := ((hP1 hf).1.1.2.2.1 j a.1 a.2).1
      rw [ez, y1, y2]
      exact ⟨y3, y4, y5⟩
  · rw [e8, e10.1, e10.2.1, e10.2.2, e16]
    exact ⟨r3, r4, r5, r6, r7⟩
  · rw [e8, e16, e10.1, e22]
    refine ⟨by omega, fun k z => ?_, w6, ⟨by omega, by omega, ?_⟩, fun z => by omega⟩
    · rcases z with z | z | z <;> subst z
      · rw [e10.1]; omega
      · rw [e10.2.1]; exact w4
      · rw [e10.2.2]; exact w5
    · rcases f01 with z | z
      · rw [(f0 z).1]; decide
      · obtain ⟨-, -, -, -, ⟨s5, -⟩, -⟩ := S1 z
        have := (h.2.2.1 z).1.n2
        omega
  · rw [s08] at b
    obtain ⟨y1, y2, y3⟩ := r8 u a b
    refine ⟨y1, y2, y3, fun z => ?_⟩
    rw [e22]
    rcases h.2.1 with ⟨-, -, z3⟩ | ⟨z3, -⟩
    · have := z3 u; omega
    · exact z3
  · rw [z0, z1]
    have hp' := hp
    rw [he] at hp'
    rcases h.in hp' with a | ⟨hf, j, y, a⟩
    · obtain ⟨u1, u2, u3, u4, u5, u6, u7, u8⟩ := h.u0 e he a h3 h7'
      refine ⟨fun _ => ?_, fun z => by omega⟩
      rw [u2, u8, s07]
      rcases h.2.1 with ⟨v1, v2, v3⟩ | ⟨v1, v2⟩
      · refine ⟨u3, fun _ => by rw [v2]; exact glk_0, fun x z => ?_⟩
        have := v3 ((gR g0).1 2 1 (gG g0 3 p))
        omega
      · rcases v2 _ u3.1 u3.2 with ⟨y0, y1⟩ | ⟨y0, x0, y1, y2, y3⟩
        · exact ⟨u3, fun _ => by rw [y1]; exact glk_0, fun x z => by omega⟩
        · refine ⟨u3, fun z => by omega, fun x z hx => ?_⟩
          have ex : x = x0 := hx.one y1
          subst ex
          rcases y3 with ⟨c1, c2, c3⟩ | ⟨c1, c2, c3⟩
          · rw [glk_p c1, c3, c2]
          · rw [glk_n (by omega) (by omega), c3]
    · subst y
      obtain ⟨u1, u2, u3, u4, u5, u6, u7, u8⟩ := h.u1 hf e he a h3 h7'
      obtain ⟨-, -, -, -, ⟨-, -, s7, -⟩, -⟩ := S1 hf
      refine ⟨fun z => by omega, fun _ => ?_⟩
      rw [u2, u8, s7]
      exact ⟨u3, rfl⟩
end S9by
