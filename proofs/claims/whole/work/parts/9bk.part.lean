/-! both machines: a life, what it may change, what is told -/
def W_l : List (Nat × Nat) := (160, 84) :: (160, 101) :: (160, 102) :: (160, 103) :: W_r
/-- what the reference may change in a life -/
def zRl (e : ZS) (M M' : Mem) : Prop := M'.2 = M.2 ∧ (∀ a j, inW W_l a j = false → M'.1 a j = M.1 a j) ∧ ∀ a j : Nat, a = 216 ∨ a = 217 ∨ a = 218 → ((j : Int) < 1000 * e.1 29 0 0 ∨ 1000 * e.1 29 0 0 + 1000 ≤ j ∨ e.1 10 0 0 ≠ 1) → M'.1 a j = M.1 a j
/-- no WORK is left -/
def zSp (LL : Nat) (xs : Nat → Int32) (e : ZS) (κ : ZK) (R : Int → RG) (L : Int → Int) (s : ZS) (Mc Mr : Mem) : Prop := CT Mc ∧ OldOK LL xs Mc ∧ zCE e κ Mc ∧ Mc.1 88 19 = iI 3 ∧ Mc.1 88 10 = iI (-1) ∧ RT Mr ∧ Mr.1 160 85 = iI 1 ∧ Mr.1 160 84 = iI 1 ∧ zRE e R L Mr ∧ ∃ u, zFx e s u ∧ zIv e u ∧ u.1 12 0 0 = 0 ∧ zRH e u Mr ∧ zCX e κ u Mc
section S9bk
variable {d dl : Nat} {e s s' t u : ZS} {κ : ZK} {M M' M1 M2 Mc Mr Mc' Mr' : Mem} {a b j N x y LL : Nat} {xs : Nat → Int32} {v v1 v2 v3 w sd : Int32} {c k i n m p o q id par en B D r rc rr : Int} {R : Int → RG} {G : RG} {L : Int → Int} {Y : Nat → Int → Int}
theorem zRl.rf : zRl e M M := ⟨rfl, fun _ _ _ => rfl, fun _ _ _ _ => rfl⟩
theorem zRl.tr (h : zRl e M M1) (g : zRl e M1 M2) : zRl e M M2 := ⟨g.1.trans h.1, fun a j p => (g.2.1 a j p).trans (h.2.1 a j p), fun a j p q => (g.2.2 a j p q).trans (h.2.2 a j p q)⟩
theorem zRo.l (h : zRo e M M') : zRl e M M' := ⟨h.1, fun a j p => h.2.1 a j (inW_m (L := W_r) (L' := W_l) (fun q z => List.mem_cons_of_mem _ (List.mem_cons_of_mem _ (List.mem_cons_of_mem _ (List.mem_cons_of_mem _ z)))) p), h.2.2⟩
theorem zRl.sI (h : zRl e M M') (g : inW W_l a j = true) (f : a ≠ 216 ∧ a ≠ 217 ∧ a ≠ 218) : zRl e M (sI M' a j v) := ⟨h.1, fun b i p => by
  by_cases c : b = a
  · by_cases c2 : i = j
    · subst c; subst c2; rw [g] at p; cases p
    · exact (sI_nej c2).trans (h.2.1 b i p)
  · exact (sI_ne c).trans (h.2.1 b i p), fun b i p q => (sI_ne (by omega)).trans (h.2.2 b i p q)⟩
theorem RR.sub (h : RR M p G) (h2 : M'.2 = M.2) (f : ∀ a j, 161 ≤ a ∧ a < 210 → M'.1 a j = M.1 a j) : RR M' p G := ⟨fun z y j a b => by
  have l : ∀ z, z ∈ rTI → 161 ≤ z.1 ∧ z.1 < 210 := by decide
  rw [f _ _ (l z y)]; exact h.1 z y j a b, fun z y j a b => by rw [congrArg (fun z => z.1) h2]; exact h.2 z y j a b⟩
theorem zRE.sub (h : zRE e R L M) (h2 : M'.2 = M.2) (f : ∀ a j, (161 ≤ a ∧ a < 210) ∨ (227 ≤ a ∧ a < 235) ∨ (a = 160 ∧ (j = 66 ∨ j = 67 ∨ (90 ≤ j ∧ j ≤ 93) ∨ j = 97)) → M'.1 a j = M.1 a j) : zRE e R L M' := by
  obtain ⟨h1, h2', h3, ⟨h4, h5, h6, h7, h8⟩, h9, h10, h11, ⟨k1, k2, k3⟩⟩ := h
  have st : ∀ q pid m, zRst M' q pid m ↔ zRst M q pid m := fun q pid m => by
    unfold zRst
    rw [f 227 _ (by omega), f 228 _ (by omega), f 229 _ (by omega)]
  refine ⟨fun q z => ?_, ?_, fun p z => ?_, ⟨?_, ?_, ?_, ?_, ?_⟩, h9, fun u a b => ?_, h11, fun q a b => ?_, k2, fun id a b => ?_⟩
  · obtain ⟨a1, a2, a3, a4⟩ := h1 q z
    refine ⟨a1, ?_, a3.sub h2 fun a j w => f a j (Or.inl w), a4⟩
    rw [f _ _ (by rcases z with z | ⟨z, -⟩ <;> subst z <;> omega)]; exact a2
  · rcases h2' with z | ⟨z1, z2, z3, z4⟩
    · exact Or.inl z
    · exact Or.inr ⟨z1, z2, z3, by rw [f _ _ (by omega)]; exact z4⟩
  · rw [f _ _ (by omega), f _ _ (by omega)]; exact h3 p z
  · rw [f _ _ (by omega)]; exact h4
  · rw [f _ _ (by omega)]; exact h5
  · rw [f _ _ (by omega)]; exact h6
  · rw [f _ _ (by omega)]; exact h7
  · rw [f _ _ (by omega)]; exact h8
  · rw [f _ _ (by omega)]; exact h10 u a b
  · obtain ⟨⟨n, pp, mm, x1, x2, x3, x4, x5, x6, x7, x8⟩, y1, y2, y3⟩ := k1 q a b
    refine ⟨⟨n, pp, mm, ?_, x2, x3, ?_, x5, x6, ?_, x8⟩, ?_, y2, fun r c z => ?_⟩
    · rw [f _ _ (by omega)]; exact x1
    · rw [f _ _ (by omega)]; exact x4
    · rw [f _ _ (by omega)]; exact x7
    · rw [f _ _ (by omega)]; exact y1
    · rw [f _ _ (by omega), f _ _ (by omega), f _ _ (by omega), f _ _ (by omega)]; exact y3 r c z
  · rcases k3 id a b with ⟨z1, z2⟩ | ⟨z1, z2, z3, z4, z5⟩
    · exact Or.inl ⟨z1, fun q c z w => z2 q c z ((st _ _ _).1 w)⟩
    · exact Or.inr ⟨z1, z2, (st _ _ _).2 z3, z4, fun q c z g w => z5 q c z g ((st _ _ _).1 w)⟩
theorem W_lf (h : (161 ≤ a ∧ a < 210) ∨ (227 ≤ a ∧ a < 235) ∨ (a = 160 ∧ (j = 66 ∨ j = 67 ∨ (90 ≤ j ∧ j ≤ 93) ∨ j = 97 ∨ j = 77 ∨ j = 78))) : inW W_l a j = false := by
  rcases h with h | h | ⟨h, h2⟩
  · refine inW_n (fun z y => ?_) j
    have g : ∀ z, z ∈ W_l → z.1 = 160 ∨ 210 ≤ z.1 := by decide
    have := g z y
    omega
  · refine inW_n (fun z y => ?_) j
    have g : ∀ z, z ∈ W_l → z.1 ≤ 220 ∨ 235 ≤ z.1 := by decide
    have := g z y
    omega
  · subst h
    have : j = 66 ∨ j = 67 ∨ j = 90 ∨ j = 91 ∨ j = 92 ∨ j = 93 ∨ j = 97 ∨ j = 77 ∨ j = 78 := by omega
    rcases this with z | z | z | z | z | z | z | z | z <;> subst z <;> decide
theorem zRE.rl (h : zRE e R L M) (f : zRl e M M') : zRE e R L M' := h.sub f.1 fun a j z => f.2.1 a j (W_lf (by omega))
/-- what is told, in the class -/
theorem zc48 (hd : 1 ≤ d) (hC : CT M) : ∃ M', runX d 48 [va_rf (some 89), .int v1, .int v2, .int v3] M = some (.null, M') ∧ M' = sI (sI (sI M 89 0 v1) 89 1 v2) 89 2 v3 := by
  obtain ⟨d, rfl⟩ : ∃ e, d = e + 1 := ⟨d - 1, by omega⟩
  have k := ck_89 hC
  refine ⟨_, ?_, rfl⟩
  rw [r48]; unfold b48; rw [aR_e, aI_e, aI_e, aI_e, aZ_e]; unfold c48
  rw [ptI_e k, ptI_e (M := sI M 89 0 v1) k, ptI_e (M := sI (sI M 89 0 v1) 89 1 v2) k]
/-- and in the reference -/
theorem zr253 (hd : 1 ≤ d) (hR : RT M) : ∃ M', runX d 253 [va_rf (some 160), .int v] M = some (.null, M') ∧ M' = sI (sI (sI M 160 101 v) 160 102 (M.1 160 88)) 160 103 (M.1 160 89) := by
  obtain ⟨d, rfl⟩ : ∃ e, d = e + 1 := ⟨d - 1, by omega⟩
  have k := rk_160 hR
  refine ⟨_, ?_, rfl⟩
  have g1 : (sI M 160 101 v).1 160 88 = M.1 160 88 := sI_nej (by decide)
  have g2 : (sI (sI M 160 101 v) 160 102 (M.1 160 88)).1 160 89 = M.1 160 89 := (sI_nej (by decide)).trans (sI_nej (by decide))
  rw [r253]; unfold b253; rw [aR_e, aI_e, aZ_e]; unfold c253
  rw [ptI_e k, gtI_q (M := sI M 160 101 v) k g1, ptI_e (M := sI M 160 101 v) k, gtI_q (M := sI (sI M 160 101 v) 160 102 (M.1 160 88)) k g2, ptI_e (M := sI (sI M 160 101 v) 160 102 (M.1 160 88)) k]
/-- writes of the reference that the pair doesn't see -/
theorem zPr.mr (h : zPr LL xs e κ R L s Mc Mr) (h2 : Mr'.2 = Mr.2) (f : ∀ a j, ¬ (a = 160 ∧ (j = 73 ∨ j = 101 ∨ j = 102 ∨ j = 103)) → a ≠ 213 → Mr'.1 a j = Mr.1 a j) : zPr LL xs e κ R L s Mc Mr' := ⟨h.1, h.2.1, h.2.2.1.sub h2 fun a j z => f a j (by omega) (by omega), h.2.2.2.sub h2 fun a j z => f a j (by omega) (by omega)⟩
/-- writes of the class that the pair doesn't see -/
theorem zCG.sub (h : zCG e κ s M) (hk : zK8 κ) (f : ∀ a j, a ≠ 92 → ¬ (a = 89 ∧ j < 3) → M'.1 a j = M.1 a j) : zCG e κ s M' := by
  obtain ⟨h1, h2, h3, ⟨h4, h5, h6, h7⟩, h8, h9, h10⟩ := h
  have k0 := hk 0 (by omega)
  have k1 := hk 1 (by omega)
  have k2 := hk 2 (by omega)
  refine ⟨fun id p q => ?_, fun id p q r i u w => ?_, fun k p q => ?_, ⟨?_, ?_, ?_, ?_⟩, fun x p u w => ?_, fun q p r => ?_, fun x => ?_⟩
  · rw [f _ _ (by decide) (by omega)]; exact h1 id p q
  · rw [f _ _ (by decide) (by omega)]; exact h2 id p q r i u w
  · rw [f _ _ (by decide) (by omega)]; exact h3 k p q
  · rw [f _ _ (by decide) (by omega)]; exact h4
  · rw [f _ _ (by decide) (by omega)]; exact h5
  · rw [f _ _ (by decide) (by omega)]; exact h6
  · rw [f _ _ (by decide) (by omega)]; exact h7
  · rw [f _ _ (by omega) (by omega), f _ _ (by omega) (by omega), f _ _ (by omega) (by omega)]; exact h8 x p u w
  · obtain ⟨c1, c2, c3⟩ := h9 q p r
    have z7 : zTw q ≠ 92 ∧ zTw q ≠ 89 ∧ zTw q + 3 ≠ 92 ∧ zTw q + 3 ≠ 89 ∧ zTw q + 2 ≠ 92 ∧ zTw q + 2 ≠ 89 := by
      unfold zTw; omega
    rw [f _ _ (by omega) (by omega)]
    exact ⟨c1, fun j x y => by rw [f _ _ (by omega) (by omega)]; exact c2 j x y, fun j x y => by rw [f _ _ (by omega) (by omega)]; exact c3 j x y⟩
  · rw [f _ _ (by decide) (by omega), f _ _ (by decide) (by omega)]
    exact ⟨(h10 x).1, fun t p q => by rw [f _ _ (by decide) (by omega), f _ _ (by decide) (by omega)]; exact (h10 x).2 t p q⟩
/-- the frame of the class, with what is told -/
def W_y : List (Nat × Nat) := (89, 0) :: (89, 1) :: (89, 2) :: W_x
def zFl (κ : ZK) (M M' : Mem) : Prop := M'.2 = M.2 ∧ ∀ a j, inW W_y a j = false → (κ 12 0 = 1 → a ≠ κ 8 0) → (κ 12 0 = 1 → a ≠ κ 8 1) → (κ 12 0 = 1 → a ≠ κ 8 2) → M'.1 a j = M.1 a j
theorem zFl.rf : zFl κ M M := ⟨rfl, fun _ _ _ _ _ _ => rfl⟩
theorem zFl.tr (h : zFl κ M M1) (g : zFl κ M1 M2) : zFl κ M M2 := ⟨g.1.trans h.1, fun a j p q r u => (g.2 a j p q r u).trans (h.2 a j p q r u)⟩
theorem zFo.l (h : zFo κ M M') : zFl κ M M' := ⟨h.1, fun a j p q r u => h.2 a j (inW_m (L := W_x) (L' := W_y) (fun q z => List.mem_cons_of_mem _ (List.mem_cons_of_mem _ (List.mem_cons_of_mem _ z))) p) q r u⟩
theorem zFl.sI (h : zFl κ M M') (g : inW W_y a j = true) : zFl κ M (sI M' a j v) := ⟨h.1, fun b i p q r u => by
  by_cases c : b = a
  · by_cases c2 : i = j
    · subst c; subst c2; rw [g] at p; cases p
    · exact (sI_nej c2).trans (h.2 b i p q r u)
  · exact (sI_ne c).trans (h.2 b i p q r u)⟩
theorem zFl.st (f : zFl κ M M') (h : stC κ a) (j : Nat) : M'.1 a j = M.1 a j := f.2 a j (inW_n (fun z y => by
  have g : ∀ z, z ∈ W_y → z.1 < 259 := by decide
  have := g z y
  have := h.1
  omega) j) (fun _ => h.2.1) (fun _ => h.2.2.1) (fun _ => h.2.2.2)
theorem CT.keep (h : CT M) (g : M'.2 = M.2) : CT M' := ⟨fun q z => by rw [congrArg (fun z => z.2.2) g]; exact h.1 q z, fun q z => by rw [congrArg (fun z => z.2.1) g]; exact h.2 q z⟩
theorem OldOK.fl (h : OldOK LL xs M) (f : zFl κ M M') (hk : zK8 κ) : OldOK LL xs M' := ⟨fun a p => by rw [congrArg (fun z => z.2.2) f.1]; exact h.1 a p, fun a j p => by
  rw [← h.2 a j p]
  have k0 := hk 0 (by omega)
  have k1 := hk 1 (by omega)
  have k2 := hk 2 (by omega)
  exact f.2 a j (inW_n (fun z y => by
    have g : ∀ z, z ∈ W_y → 64 ≤ z.1 := by decide
    have := g z y
    omega) j) (by omega) (by omega) (by omega)⟩
/-- what an environment is read from, in the class -/
def zEr (κ : ZK) (a j : Nat) : Prop := stC κ a ∨ (a = 88 ∧ (j = 1 ∨ j = 3 ∨ j = 5 ∨ j = 6)) ∨ ∃ q, (0 ≤ q ∧ q < 8) ∧ ((a = zTw q ∧ (j = 0 ∨ j = 1 ∨ j = 2 ∨ j = 7 ∨ j = 8)) ∨ a = zTw q + 1)
theorem zCE.sub (h : zCE e κ M) (h2 : M'.2 = M.2) (f : ∀ a j, zEr κ a j → M'.1 a j = M.1 a j) : zCE e κ M' := by
  have p2 : M'.2.2.1 = M.2.2.1 := congrArg (fun z => z.2.1) h2
  have k2 : M'.2.2.2 = M.2.2.2 := congrArg (fun z => z.2.2) h2
  have st : ∀ a j, stC κ a → M'.1 a j = M.1 a j := fun a j z => f a j (Or.inl z)
  have ls : ∀ {ow : Nat → Int} {C : Int → Nat} {a : Nat} {n r : Int}, Ls M ow a C n r → stC κ a → Ls M' ow a C n r := fun {ow C a n r} z hs => by
    obtain ⟨⟨h1, h2, h3, h4⟩, h5, h6, D, cap, h7⟩ := z
    unfold Ls
    rw [p2, k2, st _ _ hs]
    exact ⟨⟨h1, h2, h3, h4⟩, h5, h6, D, cap, h7⟩
  obtain ⟨e1, e2, e3, e4, e5, e6, e7⟩ := h
  refine ⟨?_, ?_, ?_, e4, ?_, ?_, ?_⟩
  · obtain ⟨h1, h2, h3⟩ := e1
    refine ⟨h1, h2, fun q p => ?_⟩
    obtain ⟨⟨a1, a2, a3, a4, a5⟩, b, c, g⟩ := h3 q p
    rw [p2, k2]
    refine ⟨⟨a1, a2, a3, (st _ _ a3).trans a4, (st _ _ a3).trans a5⟩, b, c, fun j u w => ?_⟩
    rw [st _ _ (c 1 (by omega)).2, st _ _ (c 2 (by omega)).2, st _ _ (c 3 (by omega)).2]
    exact g j u w
  · obtain ⟨h1, h2⟩ := e2
    refine ⟨fun q p => ?_, fun id p => ?_⟩
    · obtain ⟨a1, a2, a3, ow, a4⟩ := h1 q p
      exact ⟨a1, by rw [p2]; exact a2, a3, ow, ls a4 a3⟩
    · obtain ⟨⟨a1, a2⟩, a3⟩ := h2 id p
      rw [k2, st _ _ a1, st _ _ a1, st _ _ a1, st _ _ a1, st _ _ a1]
      exact ⟨⟨a1, a2⟩, a3⟩
  · obtain ⟨h1, h2⟩ := e3
    refine ⟨fun q p => ?_, h2⟩
    obtain ⟨a1, a2, a3, ⟨ow, a4⟩, a5⟩ := h1 q p
    refine ⟨a1, by rw [p2]; exact a2, a3, ⟨ow, ls a4 a3⟩, fun k u w => ?_⟩
    obtain ⟨⟨b1, b2⟩, b3⟩ := a5 k u w
    rw [k2, st _ _ b1, st _ _ b1, st _ _ b1]
    exact ⟨⟨b1, b2⟩, b3⟩
  · obtain ⟨⟨h1, h2, h3, h4, h5⟩, h6, h7⟩ := e5
    unfold zE5
    rw [p2, k2, f 88 1 (by unfold zEr; omega), f 88 3 (by unfold zEr; omega), f 88 5 (by unfold zEr; omega), f 88 6 (by unfold zEr; omega)]
    exact ⟨⟨h1, h2, h3, h4, h5⟩, h6, h7⟩
  · obtain ⟨h1, h2, h3⟩ := e6
    refine ⟨by rw [p2]; exact h1, fun q => ?_, h3⟩
    obtain ⟨a1, a2, a3, a4, a5⟩ := h2 q
    rw [p2, k2]
    exact ⟨a1, a2, a3, a4, fun m u w => (st _ _ a2).trans (a5 m u w)⟩
  · have tj : ∀ q j, 0 ≤ q → q < 8 → (j = 0 ∨ j = 1 ∨ j = 2 ∨ j = 7 ∨ j = 8) → M'.1 (zTw q) j = M.1 (zTw q) j := fun q j a b c => f _ _ (Or.inr (Or.inr ⟨q, ⟨a, b⟩, Or.inl ⟨rfl, c⟩⟩))
    have tr : ∀ q j, 0 ≤ q → q < 8 → M'.1 (zTw q + 1) j = M.1 (zTw q + 1) j := fun q j a b => f _ _ (Or.inr (Or.inr ⟨q, ⟨a, b⟩, Or.inr rfl⟩))
    have sd : ∀ q pid m, 0 ≤ q → q < 8 → (zStd M' q pid m ↔ zStd M q pid m) := fun q pid m a b => by
      unfold zStd
      rw [tj q 0 a b (by omega), tj q 7 a b (by omega), tj q 8 a b (by omega)]
    obtain ⟨h1, h2, h3⟩ := e7
    refine ⟨fun q p r => ?_, h2, fun id p r => ?_⟩
    · obtain ⟨a1, a2, a3, a4⟩ := h1 q p r
      rw [tj q 0 p r (by omega), tj q 7 p r (by omega), tj q 8 p r (by omega), tj q 2 p r (by omega)]
      refine ⟨a1, a2, a3, fun r' u w => ?_⟩
      rw [tr q _ p r, tr q _ p r, tr q _ p r, tr q _ p r]
      exact a4 r' u w
    · rcases h3 id p r with ⟨a1, a2⟩ | ⟨a1, a2, a3, a4, a5, a6⟩
      · exact Or.inl ⟨a1, fun q u w z => a2 q u w ((sd q _ _ u w).1 z)⟩
      · exact Or.inr ⟨a1, a2, (sd _ _ _ a1 a2).2 a3, (tj _ 1 a1 a2 (by omega)).trans a4, a5, fun q u w x z => a6 q u w x ((sd q _ _ u w).1 z)⟩
theorem zCE.fl (h : zCE e κ M) (f : zFl κ M M') : zCE e κ M' := h.sub f.1 fun a j z => by
  have hk := h.2.2.2.2.1.k8
  have k0 := hk 0 (by omega)
  have k1 := hk 1 (by omega)
  have k2 := hk 2 (by omega)
  rcases z with z | ⟨z, y⟩ | ⟨q, hq, z⟩
  · exact f.st z j
  · subst z
    refine f.2 88 j ?_ (by omega) (by omega) (by omega)
    rcases y with y | y | y | y <;> subst y <;> decide
  · have c : q = 0 ∨ q = 1 ∨ q = 2 ∨ q = 3 ∨ q = 4 ∨ q = 5 ∨ q = 6 ∨ q = 7 := by omega
    have hb : a < 259 := by unfold zTw at z; omega
    refine f.2 a j ?_ (by omega) (by omega) (by omega)
    rcases z with ⟨z, y⟩ | z
    · subst z
      rcases c with c | c | c | c | c | c | c | c <;> subst c <;> rcases y with y | y | y | y | y <;> subst y <;> decide
    · subst z
      rcases c with c | c | c | c | c | c | c | c <;> subst c <;> exact inW_n (by decide) _
/-- both, when only what is told or the stack is written in the class -/
theorem zPr.mc (h : zPr LL xs e κ R L s Mc Mr) (f : zFl κ Mc Mc') (g : ∀ a j, a ≠ 92 → ¬ (a = 89 ∧ j < 3) → Mc'.1 a j = Mc.1 a j) : zPr LL xs e κ R L s Mc' Mr := by
  obtain ⟨h1, ⟨h2, h3, h4, h5⟩, h6⟩ := h
  have hk := h4.2.2.2.2.1.k8
  exact ⟨h1, ⟨h2.keep f.1, h3.sub hk g, h4.fl f, h5.fl f hk⟩, h6⟩
end S9bk
