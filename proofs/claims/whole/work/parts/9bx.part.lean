/-! the class's memory beside the environment: all of it -/
def SdM (e : ZS) (κ : ZK) (q p : Int) (g : PG) (M : Mem) : Prop := SdF e κ q p g ∧ PkP g ∧ PkC p g M ∧ (∀ a, gL g ≤ a → a ≤ gX g + 12 → stC κ a) ∧ M.2.2.1 91 q.toNat = some (gX g)
/-- what the class's machine has of the run -/
def rnC (fr : Int) (g0 g1 : PG) (lk : Int → Int) (P : Nat → Int) (bo bl : Nat) (M : Mem) : Prop :=
  (M.2.2.1 91 0 = some (gX g0) ∧ (fr = 1 → M.2.2.1 91 1 = some (gX g1)) ∧ (fr = 0 → M.2.2.1 91 1 = none)) ∧
  (M.1 88 1 = iI (P 0) ∧ M.1 88 3 = iI (if P 1 < 0 then -2 else P 1) ∧ (P 2 = 1 → M.1 88 5 = iI (P 5 + 1)) ∧ M.1 88 6 = iI (if P 2 = 1 then 2 else if P 3 = 1 then 1 else 0) ∧ M.2.2.1 88 4 = if P 4 = 1 then some 143 else none) ∧
  (M.2.2.1 88 9 = if fr = 1 then some bo else none) ∧
  (fr = 1 → M.2.2.2[bo]? = some (1, 4) ∧ (259 ≤ bl ∧ (bl < gL g0 ∨ gX g0 + 18 ≤ bl)) ∧ M.2.2.1 bo 3 = some bl ∧ M.2.2.2[bl]? = some (100, ((gR g0).1 2 0 0).toNat) ∧ ∀ m, 0 ≤ m → m < (gR g0).1 2 0 0 → M.1 bl m.toNat = iI (lk m))
/-- what is read of parcels -/
def zCA (e : ZS) (κ : ZK) (M : Mem) : Prop := zE1 e κ M ∧ zE2 e κ M ∧ zE3 e κ M ∧ zE4 e ∧ zK8 κ
section S9bx
variable {g0 g1 : PG} {fr p0 p1 : Int} {L lk : Int → Int} {P : Nat → Int} {D : Nat → Int → Int → Int} {W : Nat → Int → Int → Int32} {j m p x l o q id k u : Int} {e : ZS} {M : Mem} {κ : ZK} {g : PG} {bo bl wt : Nat} {S V : Int → Int}
theorem Ls.cg {ow : Nat → Int} {L : Nat} {C C' : Int → Nat} {n r : Int} (h : Ls M ow L C n r) (f : ∀ j, 0 ≤ j → j < n → C' j = C j) : Ls M ow L C' n r := by
  obtain ⟨h1, h5, h6, D, cap, h7, h8, h9, h10⟩ := h
  exact ⟨h1, h5, fun j a b => by rw [f j a b]; exact h6 j a b, D, cap, h7, h8, h9, fun j a b => by rw [f j a b]; exact h10 j a b⟩
theorem SdM.e1 (h : SdM e κ q p g M) : (M.2.2.1 91 q.toNat = some (κ 0 q) ∧ M.2.2.2[κ 0 q]? = some (6, 18) ∧ stC κ (κ 0 q) ∧ M.1 (κ 0 q) 5 = iI (e.1 21 q 0) ∧ M.1 (κ 0 q) 0 = iI (e.1 29 q 0)) ∧ (M.2.2.1 (κ 0 q) 6 = some (κ 1 q) ∧ M.2.2.1 (κ 0 q) 7 = some (κ 2 q) ∧ M.2.2.1 (κ 0 q) 8 = some (κ 3 q)) ∧ (∀ k, k = 1 ∨ k = 2 ∨ k = 3 → M.2.2.2[κ k q]? = some (100, (e.1 21 q 0).toNat) ∧ stC κ (κ k q)) ∧ ∀ j, 0 ≤ j → j < e.1 21 q 0 → M.1 (κ 1 q) j.toNat = iI (e.1 0 (1000 * q + j) 0) ∧ M.1 (κ 2 q) j.toNat = iI (e.1 1 (1000 * q + j) 0) ∧ M.1 (κ 3 q) j.toNat = iI (e.1 19 (1000 * q + j) 0) := by
  obtain ⟨⟨s1, ⟨k0, k1, k2, k3, k4, k5⟩, s3, s4, ⟨s5, s6, s7, s8⟩, s9, s10, s11⟩, hP, ⟨⟨⟨o1, o2, o3⟩, o4, o5, o6⟩, ⟨r1, r2, r3, -⟩, -⟩, hst, h91⟩ := h
  have gl := hP.2.2.2
  have n := hP.1.n2
  rw [k0, k1, k2, k3, s5, s6]
  refine ⟨⟨h91, o1, hst _ gl (by omega), o3, o2⟩, o5, fun k z => ?_, fun j a b => ?_⟩
  · rcases z with z | z | z <;> subst z
    · rw [k1]; exact ⟨r1.1, hst _ (by omega) (by omega)⟩
    · rw [k2]; exact ⟨r2.1, hst _ (by omega) (by omega)⟩
    · rw [k3]; exact ⟨r3.1, hst _ (by omega) (by omega)⟩
  · obtain ⟨z1, z2, z3⟩ := s9 j a (by omega)
    have jj : ((j.toNat : Nat) : Int) = j := by omega
    have y1 := r1.2 j.toNat (by omega)
    have y2 := r2.2 j.toNat (by omega)
    have y3 := r3.2 j.toNat (by omega)
    dsimp only at y1 y2 y3
    rw [jj] at y1 y2 y3
    rw [z1, z2, z3]
    exact ⟨y1, by rw [y2, (hP.1.2.2.1 j a b).2.2.2.1], y3⟩
theorem SdM.e2 (h : SdM e κ q p g M) : (0 ≤ e.1 24 q 0 ∧ e.1 24 q 0 ≤ 96) ∧ M.2.2.1 (κ 0 q) 2 = some (κ 4 q) ∧ stC κ (κ 4 q) ∧ ∃ ow : Nat → Int, Ls M ow (κ 4 q) (fun j => κ 6 (96 * q + j)) (e.1 24 q 0) 1 := by
  obtain ⟨⟨s1, ⟨k0, k1, k2, k3, k4, k5⟩, s3, s4, ⟨s5, s6, s7, s8⟩, s9, s10, s11⟩, hP, ⟨⟨⟨o1, o2, o3⟩, o4, o5, o6⟩, r, kk, hL, hT, hU⟩, hst, h91⟩ := h
  have n := hP.1.n2
  have l := hL 2 (by decide) (by decide)
  have r1 := rng_1 l.1.2.2.1
  rw [k0, k4, s7]
  refine ⟨n.2.1, o4 2 (by decide) (by decide), hst _ r1.1 (by omega), rng (gL g) (gX g), ?_⟩
  rw [← n.1]
  exact l.cg fun j a b => s3 j a (by omega)
theorem SdM.mem (h : SdM e κ q p g M) (a : 0 ≤ m) (b : m < (gR g).1 2 0 0) : (stC κ (κ 6 (96 * q + m)) ∧ M.2.2.2[κ 6 (96 * q + m)]? = some (8, 9)) ∧ M.1 (κ 6 (96 * q + m)) 1 = iI (e.1 3 (96 * q + m) 0 - 8 * q) ∧ M.1 (κ 6 (96 * q + m)) 2 = iI (e.1 4 (96 * q + m) 0) ∧ M.1 (κ 6 (96 * q + m)) 4 = iI (e.1 5 (96 * q + m) 0) ∧ e.2 0 (96 * q + m) 0 = iI (e.1 5 (96 * q + m) 0) ∧ (e.1 4 (96 * q + m) 0 = 4 → M.1 (κ 6 (96 * q + m)) 5 = iI (e.1 6 (96 * q + m) 0 - 1000 * q) ∧ zIn e (e.1 6 (96 * q + m) 0) ∧ (e.1 6 (96 * q + m) 0 < 1000 ↔ q = 0)) ∧ M.1 (κ 6 (96 * q + m)) 8 = iI (e.1 23 (96 * q + m) 0 - 4800 * q) ∧ (0 ≤ e.1 4 (96 * q + m) 0 ∧ e.1 4 (96 * q + m) 0 ≤ 4 ∧ (e.1 4 (96 * q + m) 0 = 3 → 1 ≤ e.1 5 (96 * q + m) 0 ∧ e.1 5 (96 * q + m) 0 ≤ 50) ∧ (e.1 4 (96 * q + m) 0 = 4 → 0 ≤ e.1 5 (96 * q + m) 0 ∧ e.1 5 (96 * q + m) 0 ≤ 4)) := by
  obtain ⟨⟨s1, ⟨k0, k1, k2, k3, k4, k5⟩, s3, s4, ⟨s5, s6, s7, s8⟩, s9, s10, s11⟩, hP, ⟨⟨⟨o1, o2, o3⟩, o4, o5, o6⟩, r, kk, hL, hT, hU⟩, hst, h91⟩ := h
  have n := hP.1.n2
  obtain ⟨⟨⟨b1, b2, b3, b4⟩, b5, b6, b7, b8⟩, b9⟩ := s10 m a b
  obtain ⟨⟨t1, t2, t3⟩, t4, t5⟩ := hT 2 (by decide) (by decide) m a (by omega)
  have mk := hP.1.1.2.2.2.1 m a (by omega)
  have f1 := mk.2.1 1 (by decide) (by decide)
  have f2 := mk.2.1 2 (by decide) (by decide)
  have f4 := mk.2.1 4 (by decide) (by decide)
  have f5 := mk.2.1 5 (by decide) (by decide)
  rw [s3 m a (by omega), b1, b2, b3, b4, b9]
  refine ⟨⟨hst _ t2 (by omega), t1⟩, ?_, ?_, ?_, rfl, fun z => ?_, ?_, b6.1, b6.2, b7, fun z => (b8 z).1⟩
  · rw [t4 1 (by decide) (by decide), f1]
    exact congrArg iI (by omega)
  · rw [t4 2 (by decide) (by decide), f2]
  · rw [t4 4 (by decide) (by decide), f4]
  · obtain ⟨c1, c2, c3, c4, c5⟩ := b8 z
    rw [c2, t4 5 (by decide) (by decide), f5]
    exact ⟨congrArg iI (by omega), c4, by omega⟩
  · rw [t4 8 (by decide) (by decide)]
    exact congrArg iI (by omega)
theorem SdM.e3 (h : SdM e κ q p g M) (hin : ∀ j, 0 ≤ j → j < gE g → zIn e (j + 1000 * q)) : (0 ≤ e.1 25 q 0 ∧ e.1 25 q 0 ≤ 8) ∧ M.2.2.1 (κ 0 q) 1 = some (κ 5 q) ∧ stC κ (κ 5 q) ∧ (∃ ow : Nat → Int, Ls M ow (κ 5 q) (fun j => κ 7 (8 * q + j)) (e.1 25 q 0) 1) ∧ ∀ k, 0 ≤ k → k < e.1 25 q 0 → (stC κ (κ 7 (8 * q + k)) ∧ M.2.2.2[κ 7 (8 * q + k)]? = some (11, 10)) ∧ M.1 (κ 7 (8 * q + k)) 1 = iI (e.1 26 (8 * q + k) 0) ∧ M.1 (κ 7 (8 * q + k)) 2 = iI (e.1 27 (8 * q + k) 0) ∧ M.1 (κ 7 (8 * q + k)) 5 = iI (if e.1 7 (8 * q + k) 0 < 0 then -2 else e.1 7 (8 * q + k) 0 - 1000 * q) ∧ (0 ≤ e.1 26 (8 * q + k) 0 ∧ e.1 26 (8 * q + k) 0 ≤ e.1 27 (8 * q + k) 0 ∧ e.1 27 (8 * q + k) 0 ≤ e.1 24 q 0) ∧ (∀ m, 0 ≤ m → m < e.1 24 q 0 → (e.1 3 (96 * q + m) 0 = 8 * q + k ↔ e.1 26 (8 * q + k) 0 ≤ m ∧ m < e.1 27 (8 * q + k) 0)) ∧ (0 ≤ e.1 7 (8 * q + k) 0 → zIn e (e.1 7 (8 * q + k) 0) ∧ (e.1 7 (8 * q + k) 0 < 1000 ↔ q = 0)) := by
  obtain ⟨⟨s1, ⟨k0, k1, k2, k3, k4, k5⟩, s3, s4, ⟨s5, s6, s7, s8⟩, s9, s10, s11⟩, hP, ⟨⟨⟨o1, o2, o3⟩, o4, o5, o6⟩, r, kk, hL, hT, hU⟩, hst, h91⟩ := h
  have n := hP.1.n2
  have l := hL 1 (by decide) (by decide)
  have r1 := rng_1 l.1.2.2.1
  rw [k0, k5, s7, s8]
  refine ⟨by omega, o4 1 (by decide) (by decide), hst _ r1.1 (by omega), ⟨rng (gL g) (gX g), ?_⟩, fun k a b => ?_⟩
  · rw [← n.2.2.1]
    exact l.cg fun j a b => s4 j a (by omega)
  · obtain ⟨c1, c2, c3⟩ := s11 k a b
    obtain ⟨⟨t1, t2, t3⟩, t4, t5, t6⟩ := hU k a (by omega)
    obtain ⟨-, -, -, -, w5, w6, -⟩ := hP.1.1.2.2.1 k a (by omega)
    have en : ∀ f tot, enU (gH g) ((gR g).1 1 0 0) f tot k = hEF (gH g) 1 f k := fun f tot => if_neg (by omega)
    rw [en 2] at w5
    rw [s4 k a (by omega), c1, c2]
    refine ⟨⟨hst _ t2 (by omega), t1⟩, t4 1 (by decide) (by decide) (by decide) (by decide), t4 2 (by decide) (by decide) (by decide) (by decide), ?_, by omega, fun m x y => ?_, fun z => ?_⟩
    · rw [t4 5 (by decide) (by decide) (by decide) (by decide)]
      rcases c3 with ⟨z1, z2, z3⟩ | ⟨z1, z2, z3, z4⟩
      · rw [z1, z3, if_pos (by decide)]
      · rcases s1 with s1 | s1 <;> subst s1 <;> rw [z1, z4, if_neg (by omega)] <;> exact congrArg iI (by omega)
    · have w := w6 m x (by omega)
      rw [en 2] at w
      have mk := hP.1.1.2.2.2.1 m x (by omega)
      have f1 := mk.2.1 1 (by decide) (by decide)
      rw [f1] at w
      rw [(s10 m x y).1.1.1, ← w]
      omega
    · rcases c3 with ⟨z1, z2, z3⟩ | ⟨z1, z2, z3, z4⟩
      · omega
      · rw [z1]
        refine ⟨hin _ z2 (by omega), ?_⟩
        rcases s1 with s1 | s1 <;> subst s1 <;> omega
/-- what a run's beginning reads -/
theorem zCA.mk (h : zEO g0 g1 fr p0 p1 L lk P D) (he : e = zenv g0 g1 fr p0 p1 lk P D W) (hP0 : PkP g0) (hC0 : PkC p0 g0 M) (hP1 : fr = 1 → PkP g1 ∧ PkC p1 g1 M ∧ (g1 = g0 ∨ gX g0 + 18 ≤ gL g1 ∨ gX g1 + 18 ≤ gL g0)) (hR : M.2.2.1 91 0 = some (gX g0) ∧ (fr = 1 → M.2.2.1 91 1 = some (gX g1))) : zCA e (zkap g0 g1 bo bl wt) M := by
  obtain ⟨κ, hκ⟩ : ∃ κ, κ = zkap g0 g1 bo bl wt := ⟨_, rfl⟩
  obtain ⟨r1, r2⟩ := hR
  have n0 := h.1.1.n2
  have gl := hP0.2.2
  have k8 : ∀ i : Nat, κ 8 i = gX g0 + 13 + i := fun i => by rw [hκ]; rfl
  have st0 : ∀ a, 259 ≤ a → (a < gX g0 + 13 ∨ gX g0 + 16 ≤ a) → stC κ a := fun a x y => by
    have e0 := k8 0
    have e1 := k8 1
    have e2 := k8 2
    refine ⟨x, ?_, ?_, ?_⟩
    · have : κ 8 0 = gX g0 + 13 := e0
      omega
    · have : κ 8 1 = gX g0 + 13 + 1 := e1
      omega
    · have : κ 8 2 = gX g0 + 13 + 2 := e2
      omega
  have S0 : SdM e κ 0 p0 g0 M := ⟨by rw [hκ]; exact SdF.s0 h e he, hP0, hC0, fun a x y => st0 a (by omega) (by omega), r1⟩
  have S1 : fr = 1 → SdM e κ 1 p1 g1 M := fun hf => by
    obtain ⟨q1, q2, q3⟩ := hP1 hf
    have gl1 := q1.2.2
    refine ⟨by rw [hκ]; exact SdF.s1 h hf e he, q1, q2, fun a x y => st0 a (by omega) ?_, r2 hf⟩
    rcases q3 with q3 | q3 | q3
    · rw [q3] at y; omega
    · omega
    · omega
  have e22 : e.1 22 0 0 = fr := by rw [he]; rfl
  have f01 : fr = 0 ∨ fr = 1 := by rcases h.2.1 with z | z <;> omega
  have f0 : fr = 0 → e.1 21 1 0 = 0 ∧ e.1 24 1 0 = 0 := fun z => by
    rw [he]
    exact ⟨(show (if fr = 1 then gE g1 else 0) = 0 from if_neg (by omega)), (show (if fr = 1 then (gR g1).1 2 0 0 else 0) = 0 from if_neg (by omega))⟩
  have sd : ∀ q, zSd e q → ∃ p g, SdM e κ q p g M := fun q z => by
    rcases z with z | ⟨z, z2⟩
    · exact ⟨p0, g0, by rw [z]; exact S0⟩
    · exact ⟨p1, g1, by rw [z]; exact S1 (by omega)⟩
  obtain ⟨-, -, -, -, ⟨s05, s06, s07, s08⟩, -⟩ := S0.1
  have in0 : ∀ j, 0 ≤ j → j < gE g0 → zIn e (j + 1000 * 0) := fun j a b => Or.inl ⟨by omega, by omega⟩
  have in1 : fr = 1 → ∀ j, 0 ≤ j → j < gE g1 → zIn e (j + 1000 * 1) := fun hf j a b => by
    obtain ⟨-, -, -, -, ⟨s5, -⟩, -⟩ := (S1 hf).1
    exact Or.inr ⟨by omega, by omega⟩
  -- a member by its number
  have mem : ∀ id, zId e id → (id < 96 ∧ 0 ≤ id ∧ id < (gR g0).1 2 0 0) ∨ (fr = 1 ∧ 96 ≤ id ∧ 0 ≤ id - 96 ∧ id - 96 < (gR g1).1 2 0 0) := fun id z => by
    rcases z with ⟨a, b⟩ | ⟨a, b⟩
    · rw [s07] at b; exact Or.inl ⟨by omega, a, b⟩
    · rcases f01 with w | w
      · have := (f0 w).2; omega
      · obtain ⟨-, -, -, -, ⟨-, -, s7, -⟩, -⟩ := (S1 w).1
        exact Or.inr ⟨w, a, by omega, by omega⟩
  have sx : ∀ id : Int, 96 * (1 : Int) + (id - 96) = id := fun id => by omega
  have sy : ∀ id : Int, 96 * (0 : Int) + id = id := fun id => by omega
  have mulz : 1000 * (0 : Int) = 0 ∧ 1000 * (1 : Int) = 1000 ∧ 8 * (0 : Int) = 0 ∧ 8 * (1 : Int) = 8 ∧ 4800 * (0 : Int) = 0 ∧ 4800 * (1 : Int) = 4800 := by decide
  obtain ⟨m1, m2, m3, m4, m5, m6⟩ := mulz
  rw [← hκ]
  refine ⟨⟨?_, ?_, fun q z => ?_⟩, ⟨fun q z => ?_, fun id z => ?_⟩, ⟨fun q z => ?_, fun id z => ?_⟩, ⟨fun id z => ?_, fun i j zi' zj' nij => ?_⟩, fun i z => by rcases z with z | z | z <;> subst z <;> rw [hκ] <;> show 259 ≤ gX g0 + 13 + _ <;> omega⟩
  · rw [e22]
    rcases f01 with z | z
    · exact Or.inr ⟨z, f0 z⟩
    · exact Or.inl z
  · refine ⟨by omega, by omega, ?_⟩
    rcases f01 with z | z
    · rw [(f0 z).1]; decide
    · obtain ⟨-, -, -, -, ⟨s5, -⟩, -⟩ := (S1 z).1
      have := (h.2.2.1 z).1.n2
      omega
  · obtain ⟨p, g, S⟩ := sd q z
    exact S.e1
  · obtain ⟨p, g, S⟩ := sd q z
    exact S.e2
  · rcases mem id z with ⟨a, b, c⟩ | ⟨w, a, b, c⟩
    · have S := S0.mem b c
      rw [sy, m1, m3, m5] at S
      rw [if_pos a, if_pos a, if_pos a]
      obtain ⟨y1, y2, y3, y4, y5, y6, y7, y8⟩ := S
      refine ⟨y1, y2, y3, y4, y5, fun k => ⟨(y6 k).1, (y6 k).2.1, ?_⟩, y7, y8⟩
      have := (y6 k).2.2
      omega
    · have S := (S1 w).mem b c
      rw [sx, m2, m4, m6] at S
      rw [if_neg (by omega), if_neg (by omega), if_neg (by omega)]
      obtain ⟨y1, y2, y3, y4, y5, y6, y7, y8⟩ := S
      refine ⟨y1, y2, y3, y4, y5, fun k => ⟨(y6 k).1, (y6 k).2.1, ?_⟩, y7, y8⟩
      have := (y6 k).2.2
      omega
  · rcases z with z | ⟨z, z2⟩
    · rw [z]; exact S0.e3 in0
    · rw [z]; exact (S1 (by omega)).e3 (in1 (by omega))
  · rcases mem id z with ⟨a, b, c⟩ | ⟨w, a, b, c⟩
    · rw [if_pos a, s08]
      have S := (S0.1.2.2.2.2.2.2.1 id b c).1
      obtain ⟨⟨y1, -⟩, y2, -⟩ := S
      rw [sy] at y1
      omega
    · rw [if_neg (by omega)]
      obtain ⟨-, -, -, -, ⟨-, -, -, s8⟩, -, s10, -⟩ := (S1 w).1
      obtain ⟨⟨⟨y1, -⟩, y2, -⟩, -⟩ := s10 (id - 96) b c
      rw [sx] at y1
      omega
  · rcases mem id z with ⟨a, b, c⟩ | ⟨w, a, b, c⟩
    · rw [if_pos a, if_pos a]
      have := (S0.1.cel hP0).1 id b c
      rw [sy, m5] at this
      omega
    · rw [if_neg (by omega), if_neg (by omega)]
      have := ((S1 w).1.cel (S1 w).2.1).1 (id - 96) b c
      rw [sx, m6] at this
      omega
  · rcases mem i zi' with ⟨a, b, c⟩ | ⟨w, a, b, c⟩
    · rcases mem j zj' with ⟨a', b', c'⟩ | ⟨w', a', b', c'⟩
      · have T := (S0.1.cel hP0).2
        rcases Int.lt_trichotomy i j with y | y | y
        · have := T i j b y c'
          rw [sy, sy] at this
          exact Or.inl this
        · exact absurd y nij
        · have := T j i b' y c
          rw [sy, sy] at this
          exact Or.inr this
      · have T0 := (S0.1.cel hP0).1 i b c
        have T1 := ((S1 w').1.cel (S1 w').2.1).1 (j - 96) b' c'
        rw [sy, m5] at T0
        rw [sx, m6] at T1
        omega
    · rcases mem j zj' with ⟨a', b', c'⟩ | ⟨w', a', b', c'⟩
      · have T0 := (S0.1.cel hP0).1 j b' c'
        have T1 := ((S1 w).1.cel (S1 w).2.1).1 (i - 96) b c
        rw [sy, m5] at T0
        rw [sx, m6] at T1
        omega
      · have T := ((S1 w).1.cel (S1 w).2.1).2
        rcases Int.lt_trichotomy i j with y | y | y
        · have := T (i - 96) (j - 96) b (by omega) c'
          rw [sx, sx] at this
          exact Or.inl this
        · exact absurd y nij
        · have := T (j - 96) (i - 96) b' (by omega) c
          rw [sx, sx] at this
          exact Or.inr this
theorem zCE.mk (h : zEO g0 g1 fr p0 p1 L lk P D) (he : e = zenv g0 g1 fr p0 p1 lk P D W) (hP0 : PkP g0) (hC0 : PkC p0 g0 M) (hP1 : fr = 1 → PkP g1 ∧ PkC p1 g1 M ∧ (g1 = g0 ∨ gX g0 + 18 ≤ gL g1 ∨ gX g1 + 18 ≤ gL g0)) (hR : rnC fr g0 g1 lk P bo bl M) (h7 : zE7 e M) (hwt : P 2 = 1 → wt = 1) : zCE e (zkap g0 g1 bo bl wt) M := by
  obtain ⟨κ, hκ⟩ : ∃ κ, κ = zkap g0 g1 bo bl wt := ⟨_, rfl⟩
  obtain ⟨⟨r1, r2, r3⟩, ⟨r4, r5, r6, r7, r8⟩, r9, r10⟩ := hR
  have n0 := h.1.1.n2
  have gl := hP0.2.2
  have k8 : ∀ i : Nat, κ 8 i = gX g0 + 13 + i := fun i => by rw [hκ]; rfl
  have st0 : ∀ a, 259 ≤ a → (a < gX g0 + 13 ∨ gX g0 + 16 ≤ a) → stC κ a := fun a x y => by
    have e0 := k8 0
    have e1 := k8 1
    have e2 := k8 2
    refine ⟨x, ?_, ?_, ?_⟩
    · have : κ 8 0 = gX g0 + 13 := e0
      omega
    · have : κ 8 1 = gX g0 + 13 + 1 := e1
      omega
    · have : κ 8 2 = gX g0 + 13 + 2 := e2
      omega
  have S0 : SdM e κ 0 p0 g0 M := ⟨by rw [hκ]; exact SdF.s0 h e he, hP0, hC0, fun a x y => st0 a (by omega) (by omega), r1⟩
  have S1 : fr = 1 → SdM e κ 1 p1 g1 M := fun hf => by
    obtain ⟨q1, q2, q3⟩ := hP1 hf
    have gl1 := q1.2.2
    refine ⟨by rw [hκ]; exact SdF.s1 h hf e he, q1, q2, fun a x y => st0 a (by omega) ?_, r2 hf⟩
    rcases q3 with q3 | q3 | q3
    · rw [q3] at y; omega
    · omega
    · omega
  have e22 : e.1 22 0 0 = fr := by rw [he]; rfl
  have f01 : fr = 0 ∨ fr = 1 := by rcases h.2.1 with z | z <;> omega
  have f0 : fr = 0 → e.1 21 1 0 = 0 ∧ e.1 24 1 0 = 0 := fun z => by
    rw [he]
    exact ⟨(show (if fr = 1 then gE g1 else 0) = 0 from if_neg (by omega)), (show (if fr = 1 then (gR g1).1 2 0 0 else 0) = 0 from if_neg (by omega))⟩
  have sd : ∀ q, zSd e q → ∃ p g, SdM e κ q p g M := fun q z => by
    rcases z with z | ⟨z, z2⟩
    · exact ⟨p0, g0, by rw [z]; exact S0⟩
    · exact ⟨p1, g1, by rw [z]; exact S1 (by omega)⟩
  obtain ⟨-, -, -, -, ⟨s05, s06, s07, s08⟩, -⟩ := S0.1
  have in0 : ∀ j, 0 ≤ j → j < gE g0 → zIn e (j + 1000 * 0) := fun j a b => Or.inl ⟨by omega, by omega⟩
  have in1 : fr = 1 → ∀ j, 0 ≤ j → j < gE g1 → zIn e (j + 1000 * 1) := fun hf j a b => by
    obtain ⟨-, -, -, -, ⟨s5, -⟩, -⟩ := (S1 hf).1
    exact Or.inr ⟨by omega, by omega⟩
  -- a member by its number
  have mem : ∀ id, zId e id → (id < 96 ∧ 0 ≤ id ∧ id < (gR g0).1 2 0 0) ∨ (fr = 1 ∧ 96 ≤ id ∧ 0 ≤ id - 96 ∧ id - 96 < (gR g1).1 2 0 0) := fun id z => by
    rcases z with ⟨a, b⟩ | ⟨a, b⟩
    · rw [s07] at b; exact Or.inl ⟨by omega, a, b⟩
    · rcases f01 with w | w
      · have := (f0 w).2; omega
      · obtain ⟨-, -, -, -, ⟨-, -, s7, -⟩, -⟩ := (S1 w).1
        exact Or.inr ⟨w, a, by omega, by omega⟩
  have sx : ∀ id : Int, 96 * (1 : Int) + (id - 96) = id := fun id => by omega
  have sy : ∀ id : Int, 96 * (0 : Int) + id = id := fun id => by omega
  have mulz : 1000 * (0 : Int) = 0 ∧ 1000 * (1 : Int) = 1000 ∧ 8 * (0 : Int) = 0 ∧ 8 * (1 : Int) = 8 ∧ 4800 * (0 : Int) = 0 ∧ 4800 * (1 : Int) = 4800 := by decide
  obtain ⟨m1, m2, m3, m4, m5, m6⟩ := mulz
  rw [← hκ]
  refine ⟨⟨?_, ?_, fun q z => ?_⟩, ⟨fun q z => ?_, fun id z => ?_⟩, ⟨fun q z => ?_, fun id z => ?_⟩, ⟨fun id z => ?_, fun i j zi' zj' nij => ?_⟩, ?_, ?_, h7⟩
  · rw [e22]
    rcases f01 with z | z
    · exact Or.inr ⟨z, f0 z⟩
    · exact Or.inl z
  · refine ⟨by omega, by omega, ?_⟩
    rcases f01 with z | z
    · rw [(f0 z).1]; decide
    · obtain ⟨-, -, -, -, ⟨s5, -⟩, -⟩ := (S1 z).1
      have := (h.2.2.1 z).1.n2
      omega
  · obtain ⟨p, g, S⟩ := sd q z
    exact S.e1
  · obtain ⟨p, g, S⟩ := sd q z
    exact S.e2
  · rcases mem id z with ⟨a, b, c⟩ | ⟨w, a, b, c⟩
    · have S := S0.mem b c
      rw [sy, m1, m3, m5] at S
      rw [if_pos a, if_pos a, if_pos a]
      obtain ⟨y1, y2, y3, y4, y5, y6, y7, y8⟩ := S
      refine ⟨y1, y2, y3, y4, y5, fun k => ⟨(y6 k).1, (y6 k).2.1, ?_⟩, y7, y8⟩
      have := (y6 k).2.2
      omega
    · have S := (S1 w).mem b c
      rw [sx, m2, m4, m6] at S
      rw [if_neg (by omega), if_neg (by omega), if_neg (by omega)]
      obtain ⟨y1, y2, y3, y4, y5, y6, y7, y8⟩ := S
      refine ⟨y1, y2, y3, y4, y5, fun k => ⟨(y6 k).1, (y6 k).2.1, ?_⟩, y7, y8⟩
      have := (y6 k).2.2
      omega
  · rcases z with z | ⟨z, z2⟩
    · rw [z]; exact S0.e3 in0
    · rw [z]; exact (S1 (by omega)).e3 (in1 (by omega))
  · rcases mem id z with ⟨a, b, c⟩ | ⟨w, a, b, c⟩
    · rw [if_pos a, s08]
      have S := (S0.1.2.2.2.2.2.2.1 id b c).1
      obtain ⟨⟨y1, -⟩, y2, -⟩ := S
      rw [sy] at y1
      omega
    · rw [if_neg (by omega)]
      obtain ⟨-, -, -, -, ⟨-, -, -, s8⟩, -, s10, -⟩ := (S1 w).1
      obtain ⟨⟨⟨y1, -⟩, y2, -⟩, -⟩ := s10 (id - 96) b c
      rw [sx] at y1
      omega
  · rcases mem id z with ⟨a, b, c⟩ | ⟨w, a, b, c⟩
    · rw [if_pos a, if_pos a]
      have := (S0.1.cel hP0).1 id b c
      rw [sy, m5] at this
      omega
    · rw [if_neg (by omega), if_neg (by omega)]
      have := ((S1 w).1.cel (S1 w).2.1).1 (id - 96) b c
      rw [sx, m6] at this
      omega
  · rcases mem i zi' with ⟨a, b, c⟩ | ⟨w, a, b, c⟩
    · rcases mem j zj' with ⟨a', b', c'⟩ | ⟨w', a', b', c'⟩
      · have T := (S0.1.cel hP0).2
        rcases Int.lt_trichotomy i j with y | y | y
        · have := T i j b y c'
          rw [sy, sy] at this
          exact Or.inl this
        · exact absurd y nij
        · have := T j i b' y c
          rw [sy, sy] at this
          exact Or.inr this
      · have T0 := (S0.1.cel hP0).1 i b c
        have T1 := ((S1 w').1.cel (S1 w').2.1).1 (j - 96) b' c'
        rw [sy, m5] at T0
        rw [sx, m6] at T1
        omega
    · rcases mem j zj' with ⟨a', b', c'⟩ | ⟨w', a', b', c'⟩
      · have T0 := (S0.1.cel hP0).1 j b' c'
        have T1 := ((S1 w).1.cel (S1 w).2.1).1 (i - 96) b c
        rw [sy, m5] at T0
        rw [sx, m6] at T1
        omega
      · have T := ((S1 w).1.cel (S1 w).2.1).2
        rcases Int.lt_trichotomy i j with y | y | y
        · have := T (i - 96) (j - 96) b (by omega) c'
          rw [sx, sx] at this
          exact Or.inl this
        · exact absurd y nij
        · have := T (j - 96) (i - 96) b' (by omega) c
          rw [sx, sx] at this
          exact Or.inr this
  · obtain ⟨⟨-, -, -, o9, o10, o11, o12⟩, ⟨-, -, -, -, -, y7, y8⟩, -⟩ := hC0
    have k0 : κ 0 0 = gX g0 := S0.1.2.1.1
    have k9 : κ 9 0 = gX g0 + 12 := by rw [hκ]; rfl
    obtain ⟨-, -, -, -, ⟨w1, w2, w3, w4, w5, w6, w7⟩, -⟩ := h
    unfold zE5
    rw [k0, k9, e22]
    have c0 : κ 8 0 = gX g0 + 13 := k8 0
    have c1 : κ 8 1 = gX g0 + 13 + 1 := k8 1
    have c2 : κ 8 2 = gX g0 + 13 + 2 := k8 2
    refine ⟨⟨?_, ?_, ?_, ?_, ?_⟩, ⟨o12, y7, fun i z => ?_⟩, by omega, ?_, fun z => ?_, fun z => ?_⟩
    · rw [he]; exact r4
    · rw [he]; exact r5
    · intro z
      have z2 : P 2 = 1 := by rw [he] at z; exact z
      rw [he]
      exact ⟨r6 z2, by rw [hκ]; exact hwt z2⟩
    · rw [he]; exact r7
    · rw [he]; exact r8
    · have q := y8 i z
      rw [k8, s05]
      exact ⟨q.1, q.2, by omega⟩
    · rw [he]; exact w1
    · have p2 : P 2 = 1 := by rw [he] at z; exact z
      have t : P 3 = 1 ∧ fr = 0 := by omega
      refine ⟨?_, t.2, ?_⟩
      · rw [he]; exact t.1
      · rw [he]; exact w6
    · have e8 : e.1 8 0 0 = P 1 := by rw [he]; rfl
      rw [e8] at z ⊢
      rcases w2 with w | ⟨w, w', w'', w'''⟩
      · omega
      · refine ⟨w, by omega, ?_⟩
        have y := (S0.1.2.2.2.2.2.1 (P 1) w' (by omega)).1
        rw [show 1000 * (0 : Int) + P 1 = P 1 by omega] at y
        rw [y]; exact w'''
  · have k10 : κ 10 0 = bo := by rw [hκ]; rfl
    have k11 : κ 11 0 = bl := by rw [hκ]; rfl
    have e28 : ∀ m, e.1 28 m 0 = lk m := fun m => by rw [he]; rfl
    unfold zE6
    rw [k10, k11, e22]
    refine ⟨r9, fun z => ?_, fun p hp h3 h7' => ?_⟩
    · obtain ⟨y1, y2, y3, y4, y5⟩ := r10 z
      rw [s07]
      exact ⟨y1, st0 _ y2.1 (by omega), y3, y4, fun m a b => by rw [e28]; exact y5 m a b⟩
    · have hp' := hp
      rw [he] at hp'
      rcases h.in hp' with a | ⟨hf, j, y, a⟩
      · obtain ⟨u1, u2, u3, u4, u5, u6, u7, u8⟩ := h.u0 e he a h3 h7'
        refine ⟨fun _ => ?_, fun z => by omega⟩
        rw [u2, u8, e28, s07]
        refine ⟨u3, fun z => ?_, fun z => ?_⟩
        · rcases h.2.1 with ⟨w1, w2, -⟩ | ⟨w1, -⟩
          · rw [w2]; exact glk_0
          · omega
        · rcases h.2.1 with ⟨w1, -⟩ | ⟨w1, w2⟩
          · omega
          · have e24 : e.1 24 1 0 = (gR g1).1 2 0 0 := (S1 z).1.2.2.2.2.1.2.2.1
            rcases w2 _ u3.1 u3.2 with ⟨-, z1⟩ | ⟨-, x, -, z2, z1 | z1⟩
            · rw [z1]; exact Or.inl ⟨rfl, glk_0⟩
            · rw [glk_p z1.1]
              exact Or.inr (Or.inl ⟨z1.1, by omega, rfl⟩)
            · rw [glk_n (by omega) (by omega)]
              exact Or.inr (Or.inr ⟨by omega, z1.1, rfl⟩)
      · subst y
        obtain ⟨u1, u2, u3, u4, u5, u6, u7, u8⟩ := h.u1 hf e he a h3 h7'
        have e24 : e.1 24 1 0 = (gR g1).1 2 0 0 := (S1 hf).1.2.2.2.2.1.2.2.1
        refine ⟨fun z => by omega, fun _ => ?_⟩
        rw [u2, u8, e24]
        exact ⟨u3, rfl⟩
end S9bx
