/-! the calls that change nothing -/
section S9ep
variable {K L0 T0 qc qr : Nat} {LL : Nat} {xs : Nat → Int32} {as : List Value} {v1 v2 v3 v4 : Int32} {o : HO} {ow : Nat → Int} {sl p : Int} {k : Nat} {Mc Mr : Mem}
theorem OpK.of (h : ∀ (k : Nat) (Mc Mr : Mem) (o : HO) (ow : Nat → Int) (sl : Int), k < K → IVx LL xs L0 T0 o ow sl k Mc Mr → ∃ (r : Int32) (Mc' Mr' : Mem), runX 2040 qc (va_rf (some 64) :: as) Mc = some (.int r, Mc') ∧ runX 2040 qr (va_rf (some 160) :: as) Mr = some (.int r, Mr') ∧ ((Mc' = Mc ∧ Mr' = Mr) ∨ (FG Zcl Mc Mc' ∧ FG Zrf Mr Mr' ∧ Mr'.2.2.2 = Mr.2.2.2 ∧ IV LL xs L0 T0 (k + 1) Mc' Mr'))) : OpK LL xs L0 T0 K qc qr as := by
  intro k Mc Mr hk hI
  obtain ⟨o, ow, sl, hI⟩ := hI
  obtain ⟨r, Mc', Mr', h1, h2, h3⟩ := h k Mc Mr o ow sl hk hI
  refine ⟨r, Mc', Mr', h1, h2, ?_⟩
  rcases h3 with ⟨rfl, rfl⟩ | h3
  · exact ⟨FG.r hI.1.2.1.1.1.2.2, FG.r hI.1.2.2.1.1.2, rfl, o, ow, sl, hI.up (by omega)⟩
  · exact h3
theorem OpK.same (h : ∀ (k : Nat) (Mc Mr : Mem) (o : HO) (ow : Nat → Int) (sl : Int), k < K → IVx LL xs L0 T0 o ow sl k Mc Mr → ∃ r : Int32, runX 2040 qc (va_rf (some 64) :: as) Mc = some (.int r, Mc) ∧ runX 2040 qr (va_rf (some 160) :: as) Mr = some (.int r, Mr)) : OpK LL xs L0 T0 K qc qr as := OpK.of fun k Mc Mr o ow sl hk hI => by
  obtain ⟨r, h1, h2⟩ := h k Mc Mr o ow sl hk hI
  exact ⟨r, Mc, Mr, h1, h2, Or.inl ⟨rfl, rfl⟩⟩
theorem IVx.kl (h : IVx LL xs L0 T0 o ow sl k Mc Mr) (p : Int) : ∃ wk sw km, 0 ≤ p → p < oN o → klC o p wk sw km Mc ∧ klR o p wk km Mr := by
  by_cases hp : 0 ≤ p ∧ p < oN o
  · obtain ⟨wk, sw, km, h1, h2⟩ := (h.2.2.2.2.2.2.1 p hp.1 hp.2).2.2
    exact ⟨wk, sw, km, fun _ _ => ⟨h1, h2⟩⟩
  · exact ⟨0, 0, fun _ => 0, fun a b => absurd ⟨a, b⟩ hp⟩
theorem op_3 : OpK LL xs L0 T0 K 131 234 [] := OpK.same fun k Mc Mr o ow sl hk h => fault_pair (by omega) (by omega) h.1.2.1.1.1.1 h.1.2.2.1.1.1 h.2.2.2.1.2.2.2.2.2.2
theorem op_4 : OpK LL xs L0 T0 K 132 263 [.int v1, .int v2] := OpK.same fun k Mc Mr o ow sl hk h => by
  obtain ⟨p, p1, p2, e1⟩ := iI_ex v1
  obtain ⟨q, q1, q2, e2⟩ := iI_ex v2
  exact count_pair (by omega) (by omega) h.1.1 h.1.2.1 h.1.2.2 e1 e2 (by omega) (by omega)
theorem op_5 : OpK LL xs L0 T0 K 133 264 [.int v1, .int v2, .int v3] := OpK.same fun k Mc Mr o ow sl hk h => by
  obtain ⟨p, p1, p2, e1⟩ := iI_ex v1
  obtain ⟨q, q1, q2, e2⟩ := iI_ex v2
  obtain ⟨r, r1, r2, e3⟩ := iI_ex v3
  exact member_pair2 (by omega) (by omega) h.1.1 h.1.2.1 h.1.2.2 e1 e2 e3 (by omega) (by omega) (by omega)
theorem op_6 : OpK LL xs L0 T0 K 134 265 [.int v1, .int v2, .int v3] := OpK.same fun k Mc Mr o ow sl hk h => by
  obtain ⟨p, p1, p2, e1⟩ := iI_ex v1
  obtain ⟨q, q1, q2, e2⟩ := iI_ex v2
  obtain ⟨r, r1, r2, e3⟩ := iI_ex v3
  exact about_pair (by omega) (by omega) h.1.1 h.1.2.1 h.1.2.2 e1 e2 e3 (by omega) (by omega) (by omega)
theorem op_7 : OpK LL xs L0 T0 K 135 266 [.int v1, .int v2, .int v3, .int v4] := OpK.same fun k Mc Mr o ow sl hk h => by
  obtain ⟨p, p1, p2, e1⟩ := iI_ex v1
  obtain ⟨q, q1, q2, e2⟩ := iI_ex v2
  obtain ⟨r, r1, r2, e3⟩ := iI_ex v3
  obtain ⟨s, s1, s2, e4⟩ := iI_ex v4
  subst e1; subst e2; subst e3; subst e4
  exact ⟨_, name_c (by omega) h.1.1 h.1.2.1 (by omega) (by omega) (by omega) (by omega), name_r (by omega) h.1.1 h.1.2.2 (by omega) (by omega) (by omega) (by omega)⟩
theorem op_8 : OpK LL xs L0 T0 K 136 267 [.int v1, .int v2, .int v3] := OpK.same fun k Mc Mr o ow sl hk h => by
  obtain ⟨p, p1, p2, e1⟩ := iI_ex v1
  obtain ⟨q, q1, q2, e2⟩ := iI_ex v2
  obtain ⟨r, r1, r2, e3⟩ := iI_ex v3
  exact code_pair2 (by omega) (by omega) h.1.1 h.1.2.1 h.1.2.2 e1 e2 e3 (by omega) (by omega) (by omega)
theorem op_13 : OpK LL xs L0 T0 K 141 258 [.int v1, .int v2, .int v3] := OpK.same fun k Mc Mr o ow sl hk h => by
  obtain ⟨p, p1, p2, e1⟩ := iI_ex v1
  obtain ⟨q, q1, q2, e2⟩ := iI_ex v2
  obtain ⟨r, r1, r2, e3⟩ := iI_ex v3
  exact verdict_pair (by omega) (by omega) h.1.1 h.1.2.1 h.1.2.2 (fun a b => (h.2.2.2.2.2.2.1 p a b).2.1) e1 e2 e3 (by omega) (by omega) (by omega)
theorem op_14 : OpK LL xs L0 T0 K 142 259 [.int v1, .int v2, .int v3] := OpK.same fun k Mc Mr o ow sl hk h => by
  obtain ⟨p, p1, p2, e1⟩ := iI_ex v1
  obtain ⟨q, q1, q2, e2⟩ := iI_ex v2
  obtain ⟨r, r1, r2, e3⟩ := iI_ex v3
  exact cover_pair (by omega) (by omega) h.1.1 h.1.2.1 h.1.2.2 (fun a b => (h.2.2.2.2.2.2.1 p a b).2.1) e1 e2 e3 (by omega) (by omega) (by omega)
theorem op_16 : OpK LL xs L0 T0 K 144 262 [.int v1] := OpK.same fun k Mc Mr o ow sl hk h => by
  obtain ⟨p, p1, p2, e1⟩ := iI_ex v1
  exact told_pair (by omega) (by omega) h.1.2.1.1.1.1 h.1.2.2.1.1.1 h.2.2.2.2.2.2.2.1.1 e1 (by omega)
theorem op_20 : OpK LL xs L0 T0 K 148 280 [.int v1, .int v2, .int v3] := OpK.same fun k Mc Mr o ow sl hk h => by
  obtain ⟨p, p1, p2, e1⟩ := iI_ex v1
  obtain ⟨q, q1, q2, e2⟩ := iI_ex v2
  obtain ⟨r, r1, r2, e3⟩ := iI_ex v3
  obtain ⟨tm, -, hI, -⟩ := h.2.2.2.2.1
  obtain ⟨hs, u1, u2, u3⟩ := h.2.2.2.2.2.1
  exact calls_pair (by omega) (by omega) h.1.1 h.1.2.1 h.1.2.2 hI u1 u2 (fun q => by have := u3 q; omega) e1 e2 e3 (by omega) (by omega) (by omega)
theorem op_21 : OpK LL xs L0 T0 K 149 281 [.int v1, .int v2, .int v3] := OpK.same fun k Mc Mr o ow sl hk h => by
  obtain ⟨p, p1, p2, e1⟩ := iI_ex v1
  obtain ⟨q, q1, q2, e2⟩ := iI_ex v2
  obtain ⟨r, r1, r2, e3⟩ := iI_ex v3
  obtain ⟨wk, sw, km, hh⟩ := h.kl p
  exact mutant_pair (by omega) (by omega) h.1.1 h.1.2.1 h.1.2.2 hh e1 e2 e3 (by omega) (by omega) (by omega)
theorem op_23 : OpK LL xs L0 T0 K 151 286 [.int v1, .int v2, .int v3] := OpK.same fun k Mc Mr o ow sl hk h => by
  obtain ⟨p, p1, p2, e1⟩ := iI_ex v1
  obtain ⟨q, q1, q2, e2⟩ := iI_ex v2
  obtain ⟨r, r1, r2, e3⟩ := iI_ex v3
  obtain ⟨wk, sw, km, hh⟩ := h.kl p
  exact killed_pair (by omega) (by omega) h.1.1 h.1.2.1 h.1.2.2 hh e1 e2 e3 (by omega) (by omega) (by omega)
theorem op_26 : OpK LL xs L0 T0 K 154 290 [.int v1] := OpK.same fun k Mc Mr o ow sl hk h => by
  obtain ⟨p, p1, p2, e1⟩ := iI_ex v1
  exact small_pair (by omega) (by omega) h.1.2.1.1.1.1 h.1.2.2.1.1.1 h.2.2.2.2.2.2.2.1.2.1 e1 (by omega)
theorem op_33 : OpK LL xs L0 T0 K 161 302 [.int v1] := OpK.same fun k Mc Mr o ow sl hk h => by
  obtain ⟨p, p1, p2, e1⟩ := iI_ex v1
  exact share_pair (by omega) (by omega) h.1.2.1.1.1.1 h.1.2.2.1.1.1 h.2.2.2.2.2.2.2.1.2.2.1 e1 (by omega)
theorem op_35 : OpK LL xs L0 T0 K 163 305 [.int v1] := OpK.same fun k Mc Mr o ow sl hk h => by
  obtain ⟨p, p1, p2, e1⟩ := iI_ex v1
  exact blamed_pair (by omega) (by omega) h.1.2.1.1.1.1 h.1.2.2.1.1.1 h.2.2.2.2.2.2.2.1.2.2.2 e1 (by omega)
theorem op_37 : OpK LL xs L0 T0 K 165 308 [.int v1, .int v2] := OpK.same fun k Mc Mr o ow sl hk h => by
  obtain ⟨p, p1, p2, e1⟩ := iI_ex v1
  obtain ⟨q, q1, q2, e2⟩ := iI_ex v2
  obtain ⟨nB, B, hn, hb, hr⟩ := h.2.2.2.2.2.2.2.2.1
  by_cases y : (0 ≤ p ∧ p < nB) ∧ 0 ≤ q ∧ q < gE (oP o (B p).1.1)
  · exact foretold_ok (by omega) (by omega) h.1.1 h.1.2.1 h.1.2.2 hb hr y.1 y.2 e1 e2
  · exact ⟨_, foretold_no (by omega) (by omega) h.1.1 h.1.2.1 h.1.2.2 hb hr e1 e2 (by omega) (by omega) y⟩
end S9ep
