/-! parcel(): what is known between calls stays -/
section S9ew
variable {K L0 T0 : Nat} {LL : Nat} {xs : Nat → Int32} {o : HO} {ow : Nat → Int} {sl p : Int} {k : Nat} {Mc Mr Mc' Mr' : Mem}
theorem Zpw_cl {a j : Nat} (h : Zpw ow a j) : (65 ≤ a ∧ a ≤ 87) ∨ (259 ≤ a ∧ ow a = 1) := by
  rcases h with h | h | h | h
  · exact Or.inl (by have := (Zrd_b h).1; omega)
  · exact Or.inl (by omega)
  · exact Or.inl (by omega)
  · exact Or.inr h
theorem Wpr_b {a j : Nat} (h : inW W_pr a j = true) : 160 ≤ a ∧ a < 259 ∧ a ≠ 161 ∧ a ≠ 194 ∧ a ≠ 216 ∧ a ≠ 217 ∧ (a < 209 ∨ a = 221 ∨ a = 238) ∧ (a = 160 → (36 ≤ j ∧ j ≤ 65) ∨ j = 1 ∨ j = 2) := by
  obtain ⟨z, z1, z2, z3⟩ := inW_x h
  have g : ∀ z, z ∈ W_pr → 160 ≤ z.1 ∧ z.1 < 259 ∧ z.1 ≠ 161 ∧ z.1 ≠ 194 ∧ z.1 ≠ 216 ∧ z.1 ≠ 217 ∧ (z.1 < 209 ∨ z.1 = 221 ∨ z.1 = 238) ∧ (z.1 = 160 → ((36 ≤ z.2 ∧ z.2 ≤ 65) ∨ z.2 = 1 ∨ z.2 = 2) ∧ z.2 ≠ 9999) := by decide +kernel
  obtain ⟨g1, g2, g3, g4, g5, g6, g7, g8⟩ := g z z1
  subst z2
  refine ⟨g1, g2, g3, g4, g5, g6, g7, fun y => ?_⟩
  obtain ⟨y1, y2⟩ := g8 y
  rcases z3 with z3 | z3
  · exact absurd z3 y2
  · rw [← z3]; exact y1
theorem op_2 : OpK LL xs L0 T0 64 130 231 [] := OpK.of fun k Mc Mr o ow sl hk h => by
  obtain ⟨⟨h1, hC, hR⟩, h4, h5, h6, h7, h8, h9, ⟨t1, t2, t3, t4⟩, h11, h12, h13, h14⟩ := id h
  obtain ⟨⟨T, n, i1, i1', hn⟩, i2, i3, i4, ⟨s0, i5, i5'⟩, i6, i7⟩ := id h6
  obtain ⟨tm, d1, d2, d3, d4⟩ := id h7
  obtain ⟨r, Mc', Mr', x1, x2, x3⟩ := parcel_pair (dl := 2040) (d := 2040) (by omega) (by omega) h1 hC hR i2 i1 ⟨hR.1.1.1, i1', i4⟩ (by omega) i3 i5 i5' i6
  refine ⟨r, Mc', Mr', x1, x2, x3.imp id ?_⟩
  rintro ⟨⟨fc, r1, r2⟩, f, kp, ⟨⟨s, e1, e1'⟩, e2, e3, e4, e5⟩, hh⟩
  have fr := fr_fg f hR.1.1.2
  have rm : Mr'.2.2.2 = Mr.2.2.2 := f.k
  have a1 : ln Mc' ≤ L0 + 1900 * (k + 1) := by rw [Nat.mul_add, ← Nat.add_assoc]; exact Nat.le_trans r1 (Nat.add_le_add h13 (by decide +kernel))
  have a2 : tot Mc'.2.2.2 ≤ T0 + 75000 * (k + 1) := by rw [Nat.mul_add, ← Nat.add_assoc]; exact Nat.le_trans r2 (Nat.add_le_add h14 (by decide +kernel))
  have zc : ∀ a j, Zpw ow a j → (65 ≤ a ∧ a ≤ 87) ∨ (259 ≤ a ∧ ow a = 1) := fun a j z => Zpw_cl z
  have zr : ∀ a j, inW W_pr a j = true → 160 ≤ a ∧ a < 259 ∧ a ≠ 161 ∧ a ≠ 194 ∧ a ≠ 216 ∧ a ≠ 217 ∧ (a < 209 ∨ a = 221 ∨ a = 238) ∧ (a = 160 → (36 ≤ j ∧ j ≤ 65) ∨ j = 1 ∨ j = 2) := fun a j z => Wpr_b z
  have tp : iTp (k + 1) Mc' Mr' := by
    have z71 : ∀ j, ¬ Zpw ow 71 j := fun j z => by
      rcases z with z | z | z | z
      · have g : ∀ z, z ∈ W_pc → z.1 ≠ 71 := by decide +kernel
        obtain ⟨q, q1, q2, -⟩ := inW_x z.2
        exact g q q1 q2
      · omega
      · omega
      · omega
    have z67 : ∀ j, ¬ Zpw ow 67 j := fun j z => by
      rcases z with z | z | z | z
      · have g : ∀ z, z ∈ W_pc → z.1 ≠ 67 := by decide +kernel
        obtain ⟨q, q1, q2, -⟩ := inW_x z.2
        exact g q q1 q2
      · omega
      · omega
      · omega
    refine ⟨⟨fun i => if i < 0 then T i else 0, 0, i1.up ⟨by omega, i1.2.1⟩ e3 fun i => fc.i (fc.lw (by decide)) (z67 i), i1'.up ⟨by omega, i1.2.1⟩ e4 fun i => f.c 161 (by decide +kernel) i, by omega⟩, fc.2.1 _ _ i2, fun i a b => (fc.l (fc.lw (by decide)) (z71 _)).trans (i3 i a b), fun i a b => (f.lc 194 (by decide +kernel) _).trans (i4 i a b), ⟨s, e1, e1'⟩, e2, e5⟩
  have hd : iHd Mc' Mr' := h8.fg fc fr (fun a j z y => by have := zc a j z; omega) (fun a j z => by have := zr a j z; omega)
  have td := t1.fg fc fr (fun a j z y => by have := zc a j z; omega) (fun a j z y => by have := zr a j z; omega)
  have sm := t2.fg fc fr (fun a j z y => by have := zc a j z; omega) (fun a j z y => by have := zr a j z; omega)
  have sh := t3.fg fc fr (fun a j z y => by have := zc a j z; omega) (fun a j z y => by have := zr a j z; omega)
  have bl := t4.fg fc fr (fun a j z y => by have := zc a j z; omega) (fun a j z y => by have := zr a j z; omega)
  have h78 : Mc'.1 88 2 = Mr'.1 160 78 := (fc.i (fc.lw (by decide)) fun z => by have := zc _ _ z; omega).trans (h5.trans (fr.i (fr.lw (by decide)) fun z => by have := zr _ _ z; omega).symm)
  have pk0 : ∀ (o' : HO) (q : Int), 0 ≤ q → q < oN o → oP o' q = oP o q → iOr o' q Mc' Mr' ∧ rsB o' q Mc' Mr' ∧ iKl o' q Mc' Mr' := fun o' q a b eo => by
    obtain ⟨⟨Od, g1, g1', g1''⟩, g2, wk, sw, km, g3, g3'⟩ := h9 q a b
    obtain ⟨b1, b2, b3⟩ := h1.bd ⟨a, b⟩
    have l17 := hC.l17 ⟨a, b⟩
    have g0 := (h1.2.2.1 q a b).2.2
    have p8 := h1.1
    have w : ∀ a' j, gX (oP o q) ≤ a' → a' < gX (oP o q) + 18 → ¬ Zpw ow a' j := fun a' j x y z => by
      have := zc _ _ z
      have := hC.2.1.2 q a b a' (by omega) y
      omega
    have kq : ∀ c : Nat, (c = 221 ∨ c = 238) → Mr'.1 c q.toNat = Mr.1 c q.toNat := fun c hc => (kp c).2.2 (by omega) q a (by omega)
    -- a memory that is the reference's but for these rows
    refine ⟨?_, ?_, ?_⟩
    · unfold iOr orB
      rw [eo]
      refine ⟨Od, g1, g1', fun j x y => ?_⟩
      obtain ⟨y1, y2⟩ := g1'' j x y
      exact ⟨(fc.i (by omega) (w _ _ (by omega) (by omega))).trans y1, ((kp 183).2.1 rfl _ (by omega) (by omega)).trans y2⟩
    · unfold rsB tlB cvB
      rw [eo, kq 221 (by decide), show Mc'.1 (gX (oP o q)) 13 = Mc.1 (gX (oP o q)) 13 from fc.i (by omega) (w _ _ (by omega) (by omega))]
      rcases g2 with g2 | ⟨g2, ⟨T, g4⟩, s, g5⟩
      · exact Or.inl g2
      · refine Or.inr ⟨g2, ⟨T, fun c x y t ht => ?_⟩, s, fun j x y => ?_⟩
        · obtain ⟨y1, y2⟩ := g4 c x y t ht
          exact ⟨(fc.i (by omega) (w _ _ (by omega) (by omega))).trans y1, (fr.i (fr.lw (by omega)) fun z => by have := zr _ _ z; omega).trans y2⟩
        · obtain ⟨⟨y1, y2⟩, y3, y4⟩ := g5 j x y
          exact ⟨⟨(fc.i (by omega) (w _ _ (by omega) (by omega))).trans y1, (fc.i (by omega) (w _ _ (by omega) (by omega))).trans y2⟩, (fr.i (fr.lw (by decide)) fun z => by have := zr _ _ z; omega).trans y3, (fr.i (fr.lw (by decide)) fun z => by have := zr _ _ z; omega).trans y4⟩
    · obtain ⟨⟨k1, k2, k3, k4, k5⟩, k6⟩ := g3
      obtain ⟨k7, k8⟩ := g3'
      have c : ∀ a' j, gX (oP o q) ≤ a' → a' < gX (oP o q) + 18 → Mc'.1 a' j = Mc.1 a' j ∧ Mc'.2.2.1 a' j = Mc.2.2.1 a' j := fun a' j x y => ⟨fc.i (by omega) (w a' j x y), fc.pt (by omega) (w a' j x y)⟩
      unfold iKl klC klR
      rw [eo, kq 238 (by decide)]
      refine ⟨wk, sw, km, ⟨⟨(c _ _ (by omega) (by omega)).1.trans k1, k2, k3, (c _ _ (by omega) (by omega)).2.trans k4, (c _ _ (by omega) (by omega)).2.trans k5⟩, fun z => ?_⟩, k7, fun z => ?_⟩
      · obtain ⟨g1, g2⟩ := k6 z
        refine ⟨fun j x y => ⟨(c _ _ (by omega) (by omega)).1.trans (g1 j x y).1, (g1 j x y).2⟩, ?_⟩
        rw [(c (gX (oP o q)) 17 (by omega) (by omega)).1]
        exact g2
      · obtain ⟨g1, m, g2, g3⟩ := k8 z
        exact ⟨fun j x y => ⟨(fr.i (fr.lw (by decide)) fun z => by have := zr _ _ z; omega).trans (g1 j x y).1, (g1 j x y).2⟩, m, (fr.i (fr.lw (by decide)) fun z => by have := zr _ _ z; omega).trans g2, g3⟩
  refine ⟨fc.m fun a j z => by have := zc a j z; unfold Zcl; omega, fr.m fun a j z => by have := zr a j z; unfold Zrf; omega, rm, ?_⟩
  have wb : ∀ a j, Zpw ow a j → ¬ (a = 140 ∨ (259 ≤ a ∧ (ow a = 2 ∨ (20 ≤ ow a ∧ ow a < 28)))) := fun a j z y => by have := zc a j z; omega
  have wb' : ∀ a j, inW W_pr a j = true → ¬ ((a = 160 ∧ j = 154) ∨ a = 257 ∨ a = 258) := fun a j z y => by have := zr a j z; omega
  have wh : ∀ a j, Zpw ow a j → ¬ (a = 141 ∨ (259 ≤ a ∧ (ow a = 3 ∨ 30 ≤ ow a))) := fun a j z y => by have := zc a j z; omega
  have wh' : ∀ a j, inW W_pr a j = true → ¬ ((a = 160 ∧ j = 138) ∨ (246 ≤ a ∧ a ≤ 252)) := fun a j z y => by have := zr a j z; omega
  have z64 : ¬ Zpw ow 64 3 := fun z => by have := zc _ _ z; omega
  have z111 : ¬ inW W_pr 160 111 = true := fun z => by have := zr _ _ z; omega
  rcases hh with ⟨hC', hR'⟩ | ⟨g, ow', ⟨y1, y2, y3⟩, hP', hC', hR', y4, y5, ⟨y6, y7⟩, y8, y9, y10, y11⟩
  · exact ⟨o, ow, sl, ⟨h1, hC', hR'⟩, h4, h78, tp, h7.fg (by omega) rfl fc fr z64 z111, hd, fun q a b => pk0 o q a b rfl, ⟨td, sm, sh, bl⟩, h11.fg (Int.le_refl _) (fun _ _ _ => rfl) (fun _ _ => rfl) fc fr wb wb', h12.fg hR'.1.1.1 (fun _ _ => rfl) fc fr wh wh', a1, a2⟩
  · have up : ∀ q, q < oN o → oP (oA o g) q = oP o q := fun q b => up1_n (by omega)
    have upn : oP (oA o g) (oN o) = g := up1_e rfl
    have eN : oN (oA o g) = oN o + 1 := rfl
    refine ⟨oA o g, ow', sl, ⟨hP', hC', hR'⟩, h4, h78, tp, h7.fg (by omega) rfl fc fr z64 z111, hd, fun q a b => ?_, ⟨td, sm, sh, bl⟩, h11.fg (by omega) (fun q a b => up q b) y3 fc fr wb wb', h12.fg hR'.1.1.1 y3 fc fr wh wh', a1, a2⟩
    by_cases e : q = oN o
    · subst e
      have b16 := (hP'.bd (p := oN o) ⟨a, b⟩).1
      rw [upn] at b16
      have n3 := pk_lo hP' (p := oN o) ⟨a, b⟩
      rw [upn] at n3
      refine ⟨⟨fun i => i, odK.id, odO.id, fun j x y => ?_⟩, Or.inl ⟨by rw [upn]; exact y6, y7⟩, 0, 0, fun _ => 0, ⟨⟨?_, Or.inl rfl, by decide, ?_, ?_⟩, fun z => absurd z (by decide)⟩, y11, fun z => absurd z (by decide)⟩
      · rw [upn] at y ⊢
        exact ⟨y4 j x y, y5 j x (by omega)⟩
      · rw [upn]; exact y8
      · rw [upn]; exact y9
      · rw [upn]; exact y10
    · exact pk0 (oA o g) q a (by omega) (up q (by omega))
end S9ew
