/-! a CASE, a property of a parcel -/
def kK (g : PG) (c : Int) : Nat → Int := fun k => match k with
  | 0 => (gR g).1 3 1 c
  | 1 => (gR g).1 1 7 ((gR g).1 3 1 c)
  | 2 => (gR g).1 1 9 ((gR g).1 3 1 c)
  | 3 => (gR g).1 3 4 c
  | 4 => (gR g).1 3 6 c
  | 5 => (gR g).1 3 7 c
  | 6 => (gR g).1 3 5 c
  | 7 => c
  | _ => 0
def kF (g : PG) (c : Int) : Nat → Int → Int := fun k i => if k = 0 then (gR g).1 1 6 (3 * (gR g).1 3 1 c + i) else (gR g).1 1 8 (3 * (gR g).1 3 1 c + i)
section S9bz
variable {g0 g1 : PG} {fr p0 p1 : Int} {L lk : Int → Int} {P : Nat → Int} {D : Nat → Int → Int → Int} {W : Nat → Int → Int → Int32} {j m p x l o q id k u c s a : Int} {e : ZS} {M : Mem} {κ : ZK} {g : PG} {bo bl : Nat}
theorem zPK.n3 {G : Nat → Int → Int} {R : RG} {H : HG} {E : Int} (h : zPK G R H E) : hEN H 3 = R.1 3 0 0 ∧ (0 ≤ R.1 3 0 0 ∧ R.1 3 0 0 ≤ 16) ∧ hEN H 4 = R.1 4 0 0 ∧ 0 ≤ R.1 4 0 0 ∧ R.1 4 0 0 ≤ 6 := by
  obtain ⟨h1, -, -⟩ := h
  obtain ⟨⟨a1, a2, a3, a4, a5⟩, ⟨b1, b2, b3, b4, b5, b6, b7, b8, -⟩, -⟩ := h1
  omega
theorem zEO.en (h : zEO g0 g1 fr p0 p1 L lk P D) (he : e = zenv g0 g1 fr p0 p1 lk P D W) (hE : EnT (gG g0) (gE g0) a s) : zEn e a s ∧ 0 ≤ a ∧ a < 1000 := by
  have hc := h.c0 (W := W)
  have n := h.1.1.n2
  have := en_zen hE hc
  rw [Int.add_zero] at this
  obtain ⟨b, y1, y2, y3, -⟩ := hE
  rw [he]
  exact ⟨this, y1, by omega⟩
theorem zEO.kb (h : zEO g0 g1 fr p0 p1 L lk P D) (he : e = zenv g0 g1 fr p0 p1 lk P D W) (hc : 0 ≤ c ∧ c < (gR g0).1 3 0 0) : zKb e (kK g0 c) (kF g0 c) := by
  have n2 := h.1.1.n2
  have n3 := h.1.1.n3
  obtain ⟨-, -, c1, c2, c3, c4, c5⟩ := h.1.1.1.2.2.2.2.1 c hc.1 (by omega)
  obtain ⟨-, -, ⟨-, u1, u2, u3⟩, ⟨-, v1, v2, v3⟩, -⟩ := h.1.1.1.2.2.1 ((gR g0).1 3 1 c) c1.1 (by omega)
  have e25 : e.1 25 0 0 = (gR g0).1 1 0 0 := by rw [he]; rfl
  refine ⟨⟨hc.1, ?_⟩, ⟨c1.1, ?_⟩, ⟨u1, u2, v1, v2⟩, c3, ?_, ?_, fun i a b => ?_, fun i a b => ?_⟩
  · show c < 16
    omega
  · show (gR g0).1 3 1 c < e.1 25 0 0
    omega
  · show (gR g0).1 3 7 c = 0 ∨ (gR g0).1 3 7 c = 1
    omega
  · obtain ⟨y1, y2, y3⟩ := h.en he c5
    exact ⟨y1, y3⟩
  · obtain ⟨y1, y2, y3⟩ := h.en he (u3 i a b).2
    exact ⟨y1, y3⟩
  · obtain ⟨y1, y2, y3⟩ := h.en he (v3 i a b).2
    exact ⟨y1, y3⟩
theorem SdM.kc (h : SdM e κ 0 p g M) (hc : 0 ≤ c ∧ c < (gR g).1 3 0 0) : zKc κ (hEC (gH g) 3 c) (kK g c) (kF g c) M := by
  obtain ⟨⟨s1, ⟨k0, k1, k2, k3, k4, k5⟩, s3, s4, ⟨s5, s6, s7, s8⟩, s9, s10, s11⟩, hP, ⟨⟨⟨o1, o2, o3⟩, o4, o5, o6⟩, r, kk, hL, hT, hU⟩, hst, h91⟩ := h
  have n2 := hP.1.n2
  have n3 := hP.1.n3
  obtain ⟨-, ⟨f1, f4, f5, f6, f7⟩, c1, c2, c3, c4, c5⟩ := hP.1.1.2.2.2.2.1 c hc.1 (by omega)
  obtain ⟨⟨t1, t2, t3⟩, t4, t5⟩ := hT 3 (by decide) (by decide) c hc.1 (by omega)
  obtain ⟨-, -, ⟨u0, u1, u2, u3⟩, ⟨v0, v1, v2, v3⟩, -⟩ := hP.1.1.2.2.1 ((gR g).1 3 1 c) c1.1 (by omega)
  obtain ⟨⟨w1, w2, w3⟩, w4, w5, w6⟩ := hU ((gR g).1 3 1 c) c1.1 (by omega)
  obtain ⟨⟨a1, a2, a3, a4⟩, a5⟩ := w6 0 (by decide)
  obtain ⟨⟨b1, b2, b3, b4⟩, b5⟩ := w6 1 (by decide)
  have k7 : κ 7 (kK g c 0) = hEC (gH g) 1 ((gR g).1 3 1 c) := by
    have := s4 ((gR g).1 3 1 c) c1.1 (by omega)
    rw [show 8 * (0 : Int) + (gR g).1 3 1 c = (gR g).1 3 1 c by omega] at this
    exact this
  have gl := hP.2.2
  refine ⟨⟨t1, hst _ t2 (by omega)⟩, ⟨?_, ?_, ?_, ?_, ?_⟩, hUA (gH g) 0 ((gR g).1 3 1 c), hUA (gH g) 1 ((gR g).1 3 1 c), ⟨?_, a2, hst _ a3 (by omega)⟩, ⟨?_, b2, hst _ b3 (by omega)⟩, ⟨?_, ?_⟩, fun i x y => ?_, fun i x y => ?_⟩
  · rw [t4 1 (by decide) (by decide), f1]; rfl
  · rw [t4 4 (by decide) (by decide), f4]; rfl
  · rw [t4 5 (by decide) (by decide), f5]; rfl
  · rw [t4 6 (by decide) (by decide), f6]; rfl
  · rw [t4 7 (by decide) (by decide), f7]; rfl
  · rw [k7]; exact a1
  · rw [k7]; exact b1
  · rw [k7, w4 7 (by decide) (by decide) (by decide) (by decide), u0]; rfl
  · rw [k7, w4 9 (by decide) (by decide) (by decide) (by decide), v0]; rfl
  · have y' : i < (gR g).1 1 7 ((gR g).1 3 1 c) := y
    rw [a5 i.toNat (by omega), (u3 i x y').1]; rfl
  · have y' : i < (gR g).1 1 9 ((gR g).1 3 1 c) := y
    rw [b5 i.toNat (by omega), (v3 i x y').1]; rfl
theorem RR.at (h : RR M p (gR g)) {q : Nat × Int × Nat × Nat} (hq : q ∈ rTI) (a : 0 ≤ j) (b : j < q.2.1) (hx : x = q.2.1 * p + j) : M.1 q.1 x.toNat = iI ((gR g).1 q.2.2.1 q.2.2.2 j) := by
  rw [hx]; exact h.1 q hq j a b
theorem zKr.mk (hP : PkP g) (hR : RR M p (gR g)) (h29 : e.1 29 0 0 = p) (hc : 0 ≤ c ∧ c < (gR g).1 3 0 0) : zKr e (kK g c) (kF g c) M := by
  have n2 := hP.1.n2
  have n3 := hP.1.n3
  obtain ⟨-, -, c1, c2, c3, c4, c5⟩ := hP.1.1.2.2.2.2.1 c hc.1 (by omega)
  obtain ⟨-, -, ⟨u0, u1, u2, u3⟩, ⟨v0, v1, v2, v3⟩, -⟩ := hP.1.1.2.2.1 ((gR g).1 3 1 c) c1.1 (by omega)
  unfold zKr
  rw [h29]
  refine ⟨⟨?_, ?_, ?_, ?_, ?_⟩, ⟨?_, ?_⟩, fun i x y => ?_, fun i x y => ?_⟩
  · exact hR.at (q := (178, 16, 3, 1)) (by decide) hc.1 (show c < 16 by omega) rfl
  · exact hR.at (q := (179, 16, 3, 4)) (by decide) hc.1 (show c < 16 by omega) rfl
  · exact hR.at (q := (180, 16, 3, 6)) (by decide) hc.1 (show c < 16 by omega) rfl
  · exact hR.at (q := (181, 16, 3, 7)) (by decide) hc.1 (show c < 16 by omega) rfl
  · exact hR.at (q := (182, 16, 3, 5)) (by decide) hc.1 (show c < 16 by omega) rfl
  · exact hR.at (q := (165, 8, 1, 7)) (by decide) c1.1 (show (gR g).1 3 1 c < 8 by omega) rfl
  · exact hR.at (q := (167, 8, 1, 9)) (by decide) c1.1 (show (gR g).1 3 1 c < 8 by omega) rfl
  · have y' : i < (gR g).1 1 7 ((gR g).1 3 1 c) := y
    exact hR.at (q := (166, 24, 1, 6)) (j := 3 * (gR g).1 3 1 c + i) (by decide) (by omega) (show 3 * (gR g).1 3 1 c + i < 24 by omega) (show 3 * (8 * p + (gR g).1 3 1 c) + i = 24 * p + (3 * (gR g).1 3 1 c + i) by omega)
  · have y' : i < (gR g).1 1 9 ((gR g).1 3 1 c) := y
    exact hR.at (q := (168, 24, 1, 8)) (j := 3 * (gR g).1 3 1 c + i) (by decide) (by omega) (show 3 * (gR g).1 3 1 c + i < 24 by omega) (show 3 * (8 * p + (gR g).1 3 1 c) + i = 24 * p + (3 * (gR g).1 3 1 c + i) by omega)
end S9bz
