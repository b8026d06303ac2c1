/-! the reference's machine: what is told of the codes, in its rows -/
/-- a parcel: R what stands in its rows -/
def zRS (e : ZS) (R : RG) (q : Int) (M : Mem) : Prop := (0 ≤ e.1 29 q 0 ∧ e.1 29 q 0 < 8) ∧ M.1 160 (66 + q.toNat) = iI (e.1 29 q 0) ∧ RR M (e.1 29 q 0) R ∧ (R.1 2 0 0 = e.1 24 q 0 ∧ 0 ≤ e.1 24 q 0 ∧ e.1 24 q 0 ≤ 96) ∧ (0 ≤ e.1 25 q 0 ∧ e.1 25 q 0 ≤ 8) ∧ zRb R ∧ (∀ m, 0 ≤ m → m < e.1 24 q 0 → (0 ≤ R.1 2 1 m ∧ R.1 2 1 m < e.1 25 q 0) ∧ e.1 3 (96 * q + m) 0 = 8 * q + R.1 2 1 m ∧ e.1 4 (96 * q + m) 0 = R.1 2 2 m ∧ e.1 5 (96 * q + m) 0 = R.1 2 4 m ∧ e.2 0 (96 * q + m) 0 = iI (R.1 2 4 m) ∧ (R.1 2 2 m = 3 → 1 ≤ R.1 2 4 m ∧ R.1 2 4 m ≤ 50) ∧ (R.1 2 2 m = 4 → (0 ≤ R.1 2 4 m ∧ R.1 2 4 m ≤ 4) ∧ e.1 6 (96 * q + m) 0 = R.1 2 5 m + 1000 * q)) ∧ ∀ u, 0 ≤ u → u < e.1 25 q 0 → (-2 ≤ R.1 1 5 u ∧ R.1 1 5 u < 1000) ∧ e.1 7 (8 * q + u) 0 = if R.1 1 5 u < 0 then -1 else R.1 1 5 u + 1000 * q
/-- the parcel of the members that an instruction names -/
def zRE (e : ZS) (R : Int → RG) (L : Int → Int) (M : Mem) : Prop :=
  (∀ q, zSd e q → zRS e (R q) q M) ∧
  (e.1 22 0 0 = 1 ∨ (e.1 22 0 0 = 0 ∧ e.1 21 1 0 = 0 ∧ e.1 24 1 0 = 0 ∧ M.1 160 67 = iI (-1))) ∧
  (∀ p, zIn e p → M.1 189 (zrp e p).toNat = iI (e.1 0 p 0) ∧ M.1 190 (zrp e p).toNat = iI (e.1 1 p 0) ∧ 0 ≤ e.1 0 p 0 ∧ e.1 0 p 0 ≤ 29) ∧
  (M.1 160 90 = iI (e.1 8 0 0) ∧ M.1 160 91 = iI (e.1 10 0 0) ∧ M.1 160 92 = iI (e.1 10 1 0) ∧ M.1 160 97 = iI (e.1 10 2 0) ∧ (e.1 10 0 0 = 1 → M.1 160 93 = iI (e.1 16 0 0))) ∧
  ((-1 ≤ e.1 8 0 0 ∧ e.1 8 0 0 < 1000) ∧ (∀ k, k = 0 ∨ k = 1 ∨ k = 2 → e.1 10 k 0 = 0 ∨ e.1 10 k 0 = 1) ∧ (0 ≤ e.1 16 0 0 ∧ e.1 16 0 0 < 16) ∧ (0 ≤ e.1 21 0 0 ∧ e.1 21 0 0 ≤ 1000 ∧ 0 ≤ e.1 21 1 0 ∧ e.1 21 1 0 ≤ 1000) ∧ (e.1 10 0 0 = 1 → e.1 22 0 0 = 0)) ∧
  (∀ u, 0 ≤ u → u < e.1 25 0 0 → M.1 209 u.toNat = iI (L u) ∧ -2 ≤ L u ∧ L u ≤ 7 ∧ (0 ≤ L u → e.1 22 0 0 = 1)) ∧
  (∀ p, zIn e p → 3 ≤ zop e p → zop e p ≤ 7 → (p < 1000 → (0 ≤ e.1 1 p 0 ∧ e.1 1 p 0 < e.1 24 0 0) ∧ (L ((R 0).1 2 1 (e.1 1 p 0)) < 0 → e.1 2 p 0 = e.1 1 p 0) ∧ ∀ x, 0 ≤ L ((R 0).1 2 1 (e.1 1 p 0)) → MbF ((R 1).1 2 1) ((R 1).2 2) ((R 1).1 2 0 0) (L ((R 0).1 2 1 (e.1 1 p 0))) ((R 0).2 2 (e.1 1 p 0)) x → e.1 2 p 0 = zLk (R 0) (R 1) (e.1 1 p 0) x) ∧ (1000 ≤ p → (0 ≤ e.1 1 p 0 ∧ e.1 1 p 0 < e.1 24 1 0) ∧ e.1 2 p 0 = 96 + e.1 1 p 0)) ∧
  zR7 e M
/-- a member's parcel -/
def zq (id : Int) : Int := if id < 96 then 0 else 1
section S9b2
variable {d : Nat} {e s s' t u A : ZS} {M M' M1 M2 : Mem} {a b j N x y : Nat} {v v1 v2 v3 w : Int32} {c k i n m p o q id : Int} {R : Int → RG} {G : RG} {L : Int → Int}
theorem RR.ro (h : RR M p G) (f : zRo e M M') : RR M' p G := ⟨fun z y j a b => by
  have l : ∀ z, z ∈ rTI → ∀ w, w ∈ W_r → w.1 ≠ z.1 := by decide
  rw [f.2.1 _ _ (inW_n (l z y) _)]; exact h.1 z y j a b, fun z y j a b => by rw [congrArg (fun z => z.1) f.1]; exact h.2 z y j a b⟩
theorem zRst.ro {pid : Int} (f : zRo e M M') : zRst M' q pid m ↔ zRst M q pid m := by
  unfold zRst
  rw [f.2.1 _ _ (inW_n (by decide) _), f.2.1 _ _ (inW_n (by decide) _), f.2.1 _ _ (inW_n (by decide) _)]
theorem zR7.ro (h : zR7 e M) (f : zRo e M M') : zR7 e M' := by
  obtain ⟨h1, h2, h3⟩ := h
  refine ⟨fun q a b => ?_, h2, fun id a b => ?_⟩
  · obtain ⟨⟨n, pp, mm, x1, x2, x3, x4, x5, x6, x7, x8⟩, y1, y2, y3⟩ := h1 q a b
    refine ⟨⟨n, pp, mm, ?_, x2, x3, ?_, x5, x6, ?_, x8⟩, ?_, y2, fun r c z => ?_⟩
    · rw [f.2.1 _ _ (inW_n (by decide) _)]; exact x1
    · rw [f.2.1 _ _ (inW_n (by decide) _)]; exact x4
    · rw [f.2.1 _ _ (inW_n (by decide) _)]; exact x7
    · rw [f.2.1 _ _ (inW_n (by decide) _)]; exact y1
    · rw [f.2.1 _ _ (inW_n (by decide) _), f.2.1 _ _ (inW_n (by decide) _), f.2.1 _ _ (inW_n (by decide) _), f.2.1 _ _ (inW_n (by decide) _)]; exact y3 r c z
  · rcases h3 id a b with ⟨z1, z2⟩ | ⟨z1, z2, z3, z4, z5⟩
    · exact Or.inl ⟨z1, fun q c z w => z2 q c z ((zRst.ro f).1 w)⟩
    · exact Or.inr ⟨z1, z2, (zRst.ro f).2 z3, z4, fun q c z g w => z5 q c z g ((zRst.ro f).1 w)⟩
theorem zRE.ro (h : zRE e R L M) (f : zRo e M M') : zRE e R L M' := by
  obtain ⟨h1, h2, h3, ⟨h4, h5, h6, h7, h8⟩, h9, h10, h11, h12⟩ := h
  refine ⟨fun q z => ?_, ?_, fun p z => ?_, ⟨?_, ?_, ?_, ?_, ?_⟩, h9, fun u a b => ?_, h11, h12.ro f⟩
  · obtain ⟨a1, a2, a3, a4⟩ := h1 q z
    refine ⟨a1, ?_, a3.ro f, a4⟩
    rw [f.2.1 _ _ (by rcases z with z | ⟨z, -⟩ <;> subst z <;> decide)]; exact a2
  · rcases h2 with z | ⟨z1, z2, z3, z4⟩
    · exact Or.inl z
    · exact Or.inr ⟨z1, z2, z3, by rw [f.2.1 _ _ (by decide)]; exact z4⟩
  · rw [f.2.1 _ _ (inW_n (by decide) _), f.2.1 _ _ (inW_n (by decide) _)]; exact h3 p z
  · rw [f.2.1 _ _ (by decide)]; exact h4
  · rw [f.2.1 _ _ (by decide)]; exact h5
  · rw [f.2.1 _ _ (by decide)]; exact h6
  · rw [f.2.1 _ _ (by decide)]; exact h7
  · rw [f.2.1 _ _ (by decide)]; exact h8
  · rw [f.2.1 _ _ (inW_n (by decide) _)]; exact h10 u a b
/-- the parcel of a member that is there -/
theorem zRE.sd (h : zRE e R L M) (hi : zId e id) : zSd e (zq id) ∧ id = 96 * zq id + (id - 96 * zq id) ∧ 0 ≤ id - 96 * zq id ∧ id - 96 * zq id < e.1 24 (zq id) 0 ∧ (id < 96 ∧ zq id = 0 ∨ 96 ≤ id ∧ zq id = 1) := by
  unfold zq
  have h0 := (h.1 0 (Or.inl rfl)).2.2.2.1
  rcases hi with hi | hi
  · rw [if_pos (by omega)]
    exact ⟨Or.inl rfl, by omega, by omega, by omega, Or.inl ⟨by omega, rfl⟩⟩
  · rw [if_neg (by omega)]
    rcases h.2.1 with y | y
    · exact ⟨Or.inr ⟨rfl, y⟩, by omega, by omega, by omega, Or.inr ⟨by omega, rfl⟩⟩
    · omega
/-- what a member's row has -/
theorem zRE.mb (h : zRE e R L M) (hi : zId e id) : (0 ≤ id ∧ id < 192) ∧ (0 ≤ zrm e id ∧ zrm e id < 768) ∧ M.1 171 (zrm e id).toNat = iI (e.1 3 id 0 - 8 * zq id) ∧ M.1 172 (zrm e id).toNat = iI (e.1 4 id 0) ∧ M.1 174 (zrm e id).toNat = iI (e.1 5 id 0) ∧ (e.1 4 id 0 = 4 → M.1 175 (zrm e id).toNat = iI (e.1 6 id 0 - 1000 * zq id)) := by
  obtain ⟨g1, g2, g3, g4, g5⟩ := h.sd hi
  obtain ⟨a1, a2, a3, a4, a5, a6, a7, a8⟩ := h.1 _ g1
  obtain ⟨b1, b2, b3, b4, b5, b6, b7⟩ := a7 _ g3 g4
  rw [← g2] at b2 b3 b4 b5 b7
  have er : zrm e id = 96 * e.1 29 (zq id) 0 + (id - 96 * zq id) := by
    unfold zrm
    rcases g5 with ⟨y, z⟩ | ⟨y, z⟩
    · rw [if_pos y, z]; omega
    · rw [if_neg (by omega), z]; omega
  obtain ⟨m, hm⟩ : ∃ m, m = id - 96 * zq id := ⟨_, rfl⟩
  rw [← hm] at er g3 g4 b1 b2 b3 b4 b5 b6 b7
  refine ⟨by omega, by omega, ?_, ?_, ?_, fun z => ?_⟩
  · rw [er, b2, show 8 * zq id + (R (zq id)).1 2 1 m - 8 * zq id = (R (zq id)).1 2 1 m by omega]
    exact a3.gi (c := 171) (st := 96) (k := 2) (f := 1) (by decide) (by omega) rfl
  · rw [er, b3]
    exact a3.gi (c := 172) (st := 96) (k := 2) (f := 2) (by decide) (by omega) rfl
  · rw [er, b4]
    exact a3.gi (c := 174) (st := 96) (k := 2) (f := 4) (by decide) (by omega) rfl
  · obtain ⟨-, c2⟩ := b7 (by omega)
    rw [er, c2, show (R (zq id)).1 2 5 m + 1000 * zq id - 1000 * zq id = (R (zq id)).1 2 5 m by omega]
    exact a3.gi (c := 175) (st := 96) (k := 2) (f := 5) (by decide) (by omega) rfl
/-- where a member's row is -/
theorem zRE.r236 (hd : 1 ≤ d) (h : zRE e R L M) (hR : RT M) (hi : zId e id) (hv : v = iI id) : runX d 236 [va_rf (some 160), .int v] M = some (.int (iI (zrm e id)), M) := by
  obtain ⟨g1, g2, g3, g4, g5⟩ := h.sd hi
  have a0 := h.1 0 (Or.inl rfl)
  have e66 : M.1 160 66 = iI (e.1 29 0 0) := a0.2.1
  have b24 := a0.2.2.2.1
  obtain ⟨q, hq, hb, he⟩ : ∃ q, M.1 160 67 = iI q ∧ (-1 ≤ q ∧ q < 8) ∧ (96 ≤ id → q = e.1 29 1 0) := by
    rcases h.2.1 with y | ⟨y1, y2, y3, y4⟩
    · have a1 := h.1 1 (Or.inr ⟨rfl, y⟩)
      exact ⟨e.1 29 1 0, a1.2.1, by have := a1.1; omega, fun _ => rfl⟩
    · exact ⟨-1, y4, by omega, fun z => by rcases hi with w | w <;> omega⟩
  have := mR236 (d := d) (M := M) (v := v) (id := id) (p := e.1 29 0 0) (q := q) hd hR e66 hq ⟨a0.1.1, a0.1.2, hb⟩ hv (h.mb hi).1
  rw [this]
  unfold zrm
  by_cases y : id < 96
  · rw [if_pos y, if_pos y]
  · rw [if_neg y, if_neg y, he (by omega)]
/-- which member an instruction uses -/
theorem zRE.r238 (hd : 3 ≤ d) (h : zRE e R L M) (hR : RT M) (hp : zIn e p) (ho : 3 ≤ zop e p ∧ zop e p ≤ 7) (hv : v = iI p) : runX d 238 [va_rf (some 160), .int v] M = some (.int (iI (e.1 2 p 0)), M) := by
  obtain ⟨h1, h2, h3, h4, h5, h6, h7, h8⟩ := h
  have a0 := h1 0 (Or.inl rfl)
  have e66 : M.1 160 66 = iI (e.1 29 0 0) := a0.2.1
  obtain ⟨c1, c2, -⟩ := h3 p hp
  obtain ⟨k1, k2⟩ := h7 p hp ho.1 ho.2
  have hpb : 0 ≤ p ∧ p < 2000 := by
    have := h5.2.2.2.1
    unfold zIn at hp; omega
  by_cases y : p < 1000
  · obtain ⟨n1, n2, n3⟩ := k1 y
    obtain ⟨u1, -⟩ := a0.2.2.2.2.2.2.1 (e.1 1 p 0) n1.1 n1.2
    obtain ⟨l1, l2, l3, l4⟩ := h6 _ u1.1 u1.2
    have er : zrp e p = 1000 * e.1 29 0 0 + p := if_pos y
    rw [er] at c2
    have ub := a0.2.2.2.2.1
    have nb := a0.2.2.2.1
    obtain ⟨r, g1, g2, g3⟩ := a238_p (d := d) (M := M) (RP := R 0) (RQ := R 1) (p := e.1 29 0 0) (q := e.1 29 1 0) (n := e.1 1 p 0) (L := L ((R 0).1 2 1 (e.1 1 p 0))) (pc := p) (v1 := v) hd hR a0.2.2.1 (fun z => by
      have a1 := h1 1 (Or.inr ⟨rfl, l4 z⟩)
      exact ⟨a1.2.2.1, by have := a1.1; omega, by have := a1.2.2.2.1; omega, a1.2.2.2.2.2.1, a1.2.1⟩) (by have := a0.1; omega) e66 (by omega) a0.2.2.2.2.2.1 (by omega) ⟨hpb.1, y⟩ c2 l1 ⟨l2, l3⟩ hv
    rw [g1]
    by_cases z : L ((R 0).1 2 1 (e.1 1 p 0)) < 0
    · rw [g2 z, n2 z]
    · obtain ⟨x, x1, x2⟩ := g3 (by omega)
      rw [x2, n3 x (by omega) x1]
  · obtain ⟨n1, n2⟩ := k2 (by omega)
    have y22 : e.1 22 0 0 = 1 := by
      rcases h2 with z | z
      · exact z
      · omega
    have a1 := h1 1 (Or.inr ⟨rfl, y22⟩)
    have er : zrp e p = 1000 * (e.1 29 1 0 - 1) + p := if_neg y
    rw [er] at c2
    rw [n2]
    exact a238_q (d := d) (q := e.1 29 1 0) (n := e.1 1 p 0) (pc := p) (by omega) hR a1.2.1 (by have := a1.1; omega) ⟨by omega, hpb.2⟩ c2 hv
end S9b2
