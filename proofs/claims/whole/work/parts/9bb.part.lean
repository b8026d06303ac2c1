/-! the reference's machine: the loop of a code, cut -/
/-- behind an operation -/
def g726 (d : Nat) (x1 x7 : Int32) (j733 j778 : Mem → XA) (j89 : Int32 × Int32 × Mem → XA) (s40 : Int32 × Int32 × Mem) : XA :=
 gtI (13, 157) s40.2.2 (some 160) 85 fun x41 =>
 if x41 = 0 then (
 gtI (13, 157) s40.2.2 (some 160) 86 fun x42 =>
 jn (fun (s43 : Int32 × Int32 × Mem) =>
 j89 (s43.1, s43.2.1, s43.2.2)) fun j815 =>
 if x42 = 0 then (
 j815 (s40.1, s40.2.1, s40.2.2)) else (
 ptI (13, 157) s40.2.2 (some 160) 73 x7 fun M44 =>
 ptI (13, 157) M44 (some 160) 76 (x1 + ((1 : Int32))) fun M45 =>
 gtI (13, 157) M45 (some 160) 87 fun x46 =>
 if x46 = 0 then (
 if s40.1 = 0 then (
 j778 M45) else (
 ptZ (13, 157) M45 (some 160) 86 ((0 : Int32)) fun M47 =>
 lt (s40.1 + (-1 : Int32)) fun (x48 : Int32) =>
 gtI (13, 157) M47 (some 160) 88 fun x49 =>
 vC (13, 157) M47 (some 160) <|
 cV (runX d 241 [va_rf (some 160), .int x49] M47) fun M50 =>
 gtP (13, 157) M50 (some 160) 75 fun x51 =>
 alI 100 M50 x51 ((((25 : Int32)) * x1) + x48) fun x52 =>
 j815 (x48, x52, M50))) else (
 j778 M45))) else (
 j733 s40.2.2)
/-- an operation -/
def g352 (d : Nat) (x1 : Int32) (j685 : Int32 × Mem → XA) (j726 : Int32 × Int32 × Mem → XA) (tr pc x39 o : Int32) (M : Mem) (s38 : Int32) : XA :=
 swI o [
 ((1 : Int32), (
 gtP (13, 157) M (some 160) 74 fun x53 =>
 alI 100 M x53 ((((10 : Int32)) * x1) + s38) fun x54 =>
 vC (13, 157) M (some 160) <|
 cV (runX d 241 [va_rf (some 160), .int x54] M) fun M55 =>
 j726 (tr, x39, M55))),
 ((2 : Int32), (
 gtP (13, 157) M (some 160) 74 fun x56 =>
 vC (13, 157) M (some 160) <|
 cI (runX d 242 [va_rf (some 160)] M) fun x58 M57 =>
 asI 100 M57 x56 ((((10 : Int32)) * x1) + s38) x58 fun M59 =>
 j726 (tr, x39, M59))),
 ((3 : Int32), (
 vC (13, 157) M (some 160) <|
 cV (runX d 244 [va_rf (some 160), .int o, .int s38, .int pc] M) fun M60 =>
 j726 (tr, x39, M60))),
 ((4 : Int32), (
 vC (13, 157) M (some 160) <|
 cV (runX d 244 [va_rf (some 160), .int o, .int s38, .int pc] M) fun M60 =>
 j726 (tr, x39, M60))),
 ((5 : Int32), (
 vC (13, 157) M (some 160) <|
 cV (runX d 244 [va_rf (some 160), .int o, .int s38, .int pc] M) fun M60 =>
 j726 (tr, x39, M60))),
 ((6 : Int32), (
 vC (13, 157) M (some 160) <|
 cV (runX d 244 [va_rf (some 160), .int o, .int s38, .int pc] M) fun M60 =>
 j726 (tr, x39, M60))),
 ((7 : Int32), (
 vC (13, 157) M (some 160) <|
 cV (runX d 244 [va_rf (some 160), .int o, .int s38, .int pc] M) fun M60 =>
 j726 (tr, x39, M60))),
 ((8 : Int32), (
 j685 (o, M))),
 ((9 : Int32), (
 vC (13, 157) M (some 160) <|
 cV (runX d 244 [va_rf (some 160), .int o, .int s38, .int pc] M) fun M60 =>
 j726 (tr, x39, M60))),
 ((10 : Int32), (
 vC (13, 157) M (some 160) <|
 cV (runX d 244 [va_rf (some 160), .int o, .int s38, .int pc] M) fun M60 =>
 j726 (tr, x39, M60))),
 ((11 : Int32), (
 vC (13, 157) M (some 160) <|
 cV (runX d 244 [va_rf (some 160), .int o, .int s38, .int pc] M) fun M60 =>
 j726 (tr, x39, M60))),
 ((12 : Int32), (
 vC (13, 157) M (some 160) <|
 cV (runX d 244 [va_rf (some 160), .int o, .int s38, .int pc] M) fun M60 =>
 j726 (tr, x39, M60))),
 ((13 : Int32), (
 vC (13, 157) M (some 160) <|
 cV (runX d 244 [va_rf (some 160), .int o, .int s38, .int pc] M) fun M60 =>
 j726 (tr, x39, M60))),
 ((14 : Int32), (
 vC (13, 157) M (some 160) <|
 cV (runX d 244 [va_rf (some 160), .int o, .int s38, .int pc] M) fun M60 =>
 j726 (tr, x39, M60))),
 ((15 : Int32), (
 vC (13, 157) M (some 160) <|
 cV (runX d 244 [va_rf (some 160), .int o, .int s38, .int pc] M) fun M60 =>
 j726 (tr, x39, M60))),
 ((16 : Int32), (
 vC (13, 157) M (some 160) <|
 cV (runX d 244 [va_rf (some 160), .int o, .int s38, .int pc] M) fun M60 =>
 j726 (tr, x39, M60))),
 ((17 : Int32), (
 vC (13, 157) M (some 160) <|
 cV (runX d 244 [va_rf (some 160), .int o, .int s38, .int pc] M) fun M60 =>
 j726 (tr, x39, M60))),
 ((18 : Int32), (
 vC (13, 157) M (some 160) <|
 cV (runX d 244 [va_rf (some 160), .int o, .int s38, .int pc] M) fun M60 =>
 j726 (tr, x39, M60))),
 ((19 : Int32), (
 vC (13, 157) M (some 160) <|
 cV (runX d 244 [va_rf (some 160), .int o, .int s38, .int pc] M) fun M60 =>
 j726 (tr, x39, M60))),
 ((20 : Int32), (
 vC (13, 157) M (some 160) <|
 cV (runX d 244 [va_rf (some 160), .int o, .int s38, .int pc] M) fun M60 =>
 j726 (tr, x39, M60))),
 ((21 : Int32), (
 vC (13, 157) M (some 160) <|
 cV (runX d 244 [va_rf (some 160), .int o, .int s38, .int pc] M) fun M60 =>
 j726 (tr, x39, M60))),
 ((22 : Int32), (
 vC (13, 157) M (some 160) <|
 cV (runX d 244 [va_rf (some 160), .int o, .int s38, .int pc] M) fun M60 =>
 j726 (tr, x39, M60))),
 ((23 : Int32), (
 vC (13, 157) M (some 160) <|
 cV (runX d 244 [va_rf (some 160), .int o, .int s38, .int pc] M) fun M60 =>
 j726 (tr, x39, M60))),
 ((24 : Int32), (
 vC (13, 157) M (some 160) <|
 cI (runX d 242 [va_rf (some 160)] M) fun x81 M80 =>
 jn (fun (s82 : Int32) =>
 j726 (tr, s82, M80)) fun j580 =>
 if x81 = 0 then (
 jn (fun (s83 : Int32) =>
 j580 (s38 + s83)) fun j574 =>
 if ((1000 : Int32)) ≤ pc then (
 j574 ((1000 : Int32))) else (
 j574 ((0 : Int32)))) else (
 j580 x39))),
 ((25 : Int32), (
 jn (fun (s84 : Int32) =>
 lt (s38 + s84) fun (x85 : Int32) =>
 j726 (tr, x85, M)) fun j637 =>
 if ((1000 : Int32)) ≤ pc then (
 j637 ((1000 : Int32))) else (
 j637 ((0 : Int32))))),
 ((26 : Int32), (
 gtP (13, 157) M (some 160) 75 fun x86 =>
 jn (fun (s87 : Int32) =>
 asI 100 M x86 ((((25 : Int32)) * x1) + tr) ((s38 + s87)) fun M88 =>
 lt (tr + (1 : Int32)) fun (x89 : Int32) =>
 j726 (x89, x39, M88)) fun j671 =>
 if ((1000 : Int32)) ≤ pc then (
 j671 ((1000 : Int32))) else (
 j671 ((0 : Int32))))),
 ((27 : Int32), (
 lt (tr + (-1 : Int32)) fun (x90 : Int32) =>
 j726 (x90, x39, M))),
 ((28 : Int32), (
 vC (13, 157) M (some 160) <|
 cV (runX d 244 [va_rf (some 160), .int o, .int s38, .int pc] M) fun M60 =>
 j726 (tr, x39, M60))),
 ((29 : Int32), (
 vC (13, 157) M (some 160) <|
 cV (runX d 244 [va_rf (some 160), .int o, .int s38, .int pc] M) fun M60 =>
 j726 (tr, x39, M60))),
 ((30 : Int32), (
 vC (13, 157) M (some 160) <|
 cV (runX d 244 [va_rf (some 160), .int o, .int s38, .int pc] M) fun M60 =>
 j726 (tr, x39, M60))),
 ((31 : Int32), (
 vC (13, 157) M (some 160) <|
 cI (runX d 242 [va_rf (some 160)] M) fun x95 M94 =>
 jn (fun (s96 : Int32) =>
 j726 (tr, s96, M94)) fun j615 =>
 if x95 = 0 then (
 j615 x39) else (
 jn (fun (s97 : Int32) =>
 j615 (s38 + s97)) fun j609 =>
 if ((1000 : Int32)) ≤ pc then (
 j609 ((1000 : Int32))) else (
 j609 ((0 : Int32)))))),
 ((32 : Int32), (
 vC (13, 157) M (some 160) <|
 cV (runX d 244 [va_rf (some 160), .int o, .int s38, .int pc] M) fun M60 =>
 j726 (tr, x39, M60))),
 ((33 : Int32), (
 vC (13, 157) M (some 160) <|
 cV (runX d 244 [va_rf (some 160), .int o, .int s38, .int pc] M) fun M60 =>
 j726 (tr, x39, M60))),
 ((34 : Int32), (
 j685 (o, M)))] (
 vC (13, 157) M (some 160) <|
 cV (runX d 244 [va_rf (some 160), .int o, .int s38, .int pc] M) fun M100 =>
 j726 (tr, x39, M100))
/-- which operation, which number -/
def g34 (d : Nat) (x1 : Int32) (j685 : Int32 × Mem → XA) (j726 : Int32 × Int32 × Mem → XA) (tr pc : Int32) (s32 : Int32) (s34 : Mem) : XA :=
 gtI (13, 157) s34 (some 160) 90 fun x35 =>
 jn (fun (s36 : Int32) =>
 jn (fun (s37 : Int32 × Mem) =>
 jn (fun (s38 : Int32) =>
 lt (pc + ((1 : Int32))) fun (x39 : Int32) =>
 g352 d x1 j685 j726 tr pc x39 s37.1 s37.2 s38) fun j352 =>
 jn (fun (s101 : Unit) =>
 gtP (13, 157) s37.2 (some 160) 31 fun x102 =>
 alI 100 s37.2 x102 s32 fun x103 =>
 j352 x103) fun j345 =>
 if s36 = 0 then (
 j345 ()) else (
 if s37.1 = 0 then (
 gtP (13, 157) s37.2 (some 160) 31 fun x104 =>
 alI 100 s37.2 x104 s32 fun x105 =>
 j352 (x105 + ((1 : Int32)))) else (
 j345 ()))) fun j321 =>
 if s36 = 0 then (
 gtP (13, 157) s34 (some 160) 30 fun x106 =>
 alI 101 s34 x106 s32 fun x107 =>
 j321 (x107, s34)) else (
 gtP (13, 157) s34 (some 160) 30 fun x108 =>
 alI 101 s34 x108 s32 fun x109 =>
 cI (runX d 233 [.int x109] s34) fun x111 M110 =>
 j321 (x111, M110))) fun j294 =>
 if pc = x35 then (
 j294 ((1 : Int32))) else (
 j294 ((0 : Int32)))
/-- a STEP -/
def g24 (d : Nat) (x1 : Int32) (j142 : Mem → XA) (j685 : Int32 × Mem → XA) (j726 : Int32 × Int32 × Mem → XA) (tr pc : Int32) (s24 : Mem) : XA :=
 gtI (13, 157) s24 (some 160) 85 fun x25 =>
 if x25 = 0 then (
 gtI (13, 157) s24 (some 160) 80 fun x26 =>
 ptI (13, 157) s24 (some 160) 80 (x26 - ((1 : Int32))) fun M27 =>
 gtI (13, 157) M27 (some 160) 81 fun x28 =>
 ptI (13, 157) M27 (some 160) 81 (x28 + ((1 : Int32))) fun M29 =>
 gtI (13, 157) M29 (some 160) 83 fun x30 =>
 ptI (13, 157) M29 (some 160) 83 (x30 - ((1 : Int32))) fun M31 =>
 jn (fun (s32 : Int32) =>
 gtI (13, 157) M31 (some 160) 91 fun x33 =>
 jn (fun (s34 : Mem) =>
 g34 d x1 j685 j726 tr pc s32 s34) fun j280 =>
 if x33 = 0 then (
 j280 M31) else (
 gtP (13, 157) M31 (some 160) 94 fun x112 =>
 alI 100 M31 x112 s32 fun x113 =>
 asI 100 M31 x112 s32 ((x113 + ((1 : Int32)))) fun M114 =>
 gtP (13, 157) M114 (some 160) 95 fun x115 =>
 alI 100 M114 x115 s32 fun x116 =>
 gtP (13, 157) M114 (some 160) 96 fun x117 =>
 alI 100 M114 x117 s32 fun x118 =>
 gtI (13, 157) M114 (some 160) 93 fun x119 =>
 jn (fun (s120 : Int32) =>
 asI 100 M114 x115 s32 ((x116 + s120)) fun M121 =>
 gtP (13, 157) M121 (some 160) 96 fun x122 =>
 gtI (13, 157) M121 (some 160) 93 fun x123 =>
 asI 100 M121 x122 s32 x123 fun M124 =>
 j280 M124) fun j267 =>
 if x118 = x119 then (
 j267 ((0 : Int32))) else (
 j267 ((1 : Int32))))) fun j220 =>
 if ((1000 : Int32)) ≤ pc then (
 gtI (13, 157) M31 (some 160) 67 fun x125 =>
 j220 ((((1000 : Int32)) * (x125 - ((1 : Int32)))) + pc)) else (
 gtI (13, 157) M31 (some 160) 66 fun x126 =>
 j220 ((((1000 : Int32)) * x126) + pc))) else (
 j142 s24)
section S9bb
variable {d : Nat} {e s s' t u A : ZS} {M M' M1 M2 : Mem} {a b j N x y : Nat} {v v1 v2 v3 w : Int32} {c k i n m p o q id key par NN D r : Int} {R : Int → RG} {G : RG} {L : Int → Int} {Y : Nat → Int → Int}
theorem g89 {j142 j733 j778 : Mem → XA} {j685 : Int32 × Mem → XA} {j89 : Int32 × Int32 × Mem → XA} {x1 x7 tr pc : Int32} : c243_89 (runX d) (some 160) j142 j685 j733 j778 x1 x7 (tr, pc, M) j89 = (gtI (13, 157) M (some 160) 80 fun x23 =>
 if x23 = 0 then (
 ptZ (13, 157) M (some 160) 85 ((1 : Int32)) fun M127 =>
 vC (13, 157) M127 (some 160) <|
 cV (runX d 239 [va_rf (some 160), .int ((6 : Int32)), .int pc, .int ((1 : Int32))] M127) fun M128 =>
 g24 d x1 j142 j685 (g726 d x1 x7 j733 j778 j89) tr pc M128) else (
 gtI (13, 157) M (some 160) 83 fun x129 =>
 if x129 = 0 then (
 ptZ (13, 157) M (some 160) 84 ((1 : Int32)) fun M130 =>
 ptZ (13, 157) M130 (some 160) 85 ((1 : Int32)) fun M131 =>
 ptZ (13, 157) M131 (some 160) 86 ((1 : Int32)) fun M132 =>
 g24 d x1 j142 j685 (g726 d x1 x7 j733 j778 j89) tr pc M132) else (
 g24 d x1 j142 j685 (g726 d x1 x7 j733 j778 j89) tr pc M)) : XA) := rfl
theorem zRo.sI (h : zRo e M M') (g : inW W_r a j = true) (f : a ≠ 216 ∧ a ≠ 217 ∧ a ≠ 218) : zRo e M (sI M' a j v) := ⟨h.1, fun b i p => by
  by_cases c : b = a
  · by_cases c2 : i = j
    · subst c; subst c2; rw [g] at p; cases p
    · exact (sI_nej c2).trans (h.2.1 b i p)
  · exact (sI_ne c).trans (h.2.1 b i p), fun b i p q => (sI_ne (by omega)).trans (h.2.2 b i p q)⟩
/-- a STEP is counted -/
theorem g24_tick {x1 tr : Int32} {j142 : Mem → XA} {j685 : Int32 × Mem → XA} {j726 : Int32 × Int32 × Mem → XA} (hE : zRE e R L M) (h : zRM e s M) (hin : zIn e (zpc s)) (h15 : -1 ≤ s.1 15 (zpc s) 0 ∧ s.1 15 (zpc s) 0 ≤ 16) (hv : v = iI (zpc s)) : ∃ M', g24 d x1 j142 j685 j726 tr v M = g34 d x1 j685 j726 tr v (iI (zrp e (zpc s))) M' ∧ zRM e (ztick e s) M' ∧ zRo e M M' := by
  subst hv
  have hR := h.1.1
  have k := rk_160 hR
  obtain ⟨g0, g1, g2, g3, ⟨g4, g5, g6, g7, g8⟩, g9, g10, g11⟩ := h.1
  obtain ⟨p, hp⟩ : ∃ p, p = zpc s := ⟨_, rfl⟩
  obtain ⟨Ma, hMa⟩ : ∃ z, z = sI (sI (sI M 160 80 (iI (s.1 9 0 0 - 1))) 160 81 (iI (s.1 10 0 0 + 1))) 160 83 (iI (s.1 12 0 0 - 1)) := ⟨_, rfl⟩
  have fa : zRo e M Ma := by rw [hMa]; exact ((zRo.r.sI (by decide) (by decide)).sI (by decide) (by decide)).sI (by decide) (by decide)
  have Ra : RT Ma := hR.keep fa.1
  have ka := rk_160 Ra
  have Ea := hE.ro fa
  have oa : ∀ a j, ¬ (a = 160 ∧ (j = 80 ∨ j = 81 ∨ j = 83)) → Ma.1 a j = M.1 a j := fun a j z => by
    rw [hMa]
    by_cases y : a = 160
    · subst y
      exact (sI_nej fun w => z ⟨rfl, by omega⟩).trans ((sI_nej fun w => z ⟨rfl, by omega⟩).trans (sI_nej fun w => z ⟨rfl, by omega⟩))
    · exact (sI_ne y).trans ((sI_ne y).trans (sI_ne y))
  have n80 : Ma.1 160 80 = iI (s.1 9 0 0 - 1) := by rw [hMa]; exact (sI_nej (by decide)).trans ((sI_nej (by decide)).trans sI_eq)
  have n81 : Ma.1 160 81 = iI (s.1 10 0 0 + 1) := by rw [hMa]; exact (sI_nej (by decide)).trans sI_eq
  have n83 : Ma.1 160 83 = iI (s.1 12 0 0 - 1) := by rw [hMa]; exact sI_eq
  have a0 := Ea.1 0 (Or.inl rfl)
  have e66 : Ma.1 160 66 = iI (e.1 29 0 0) := a0.2.1
  have hb := hE.2.2.2.2.1.2.2.2.1
  have pb : 0 ≤ p ∧ p < 2000 ∧ 0 ≤ zrp e p ∧ zrp e p < 8000 := by
    rw [← hp] at hin
    unfold zrp
    unfold zIn at hin
    by_cases y : p < 1000
    · rw [if_pos y]; have := a0.1; omega
    · rw [if_neg y]
      have y22 : e.1 22 0 0 = 1 := by rcases hE.2.1 with z | z <;> omega
      have a1 := (hE.1 1 (Or.inr ⟨rfl, y22⟩)).1
      omega
  -- the state: what comes when the rows of what is counted are right
  have fin : ∀ M2 : Mem, zRo e Ma M2 → (∀ a j, a ≠ 216 → a ≠ 217 → a ≠ 218 → M2.1 a j = Ma.1 a j) → (e.1 10 0 0 = 1 → ∀ p', 0 ≤ p' → p' < e.1 21 0 0 → M2.1 216 (zrp e p').toNat = (ztick e s).2 7 p' 0 ∧ M2.1 217 (zrp e p').toNat = (ztick e s).2 8 p' 0 ∧ M2.1 218 (zrp e p').toNat = iI ((ztick e s).1 15 p' 0)) → zRM e (ztick e s) M2 ∧ zRo e M M2 := fun M2 f o hc => by
    have O : ∀ a j, a ≠ 216 → a ≠ 217 → a ≠ 218 → ¬ (a = 160 ∧ (j = 80 ∨ j = 81 ∨ j = 83)) → M2.1 a j = M.1 a j := fun a j z1 z2 z3 z4 => (o a j z1 z2 z3).trans (oa a j z4)
    refine ⟨h.glob ⟨g0.keep (f.1.trans fa.1), fun id p z => ?_, fun id p z z2 i u w => ?_, fun k p z => ?_, ⟨?_, ?_, ?_, ?_, ?_⟩, hc, fun q' p z => ?_, fun x => ?_⟩ (fun a j z => O a j (by omega) (by omega) (by omega) (by omega)) (fun k p => by rcases p with p | p | p | p | p | p <;> subst p <;> rfl) ⟨rfl, rfl⟩, fa.tr f⟩
    · rw [O _ _ (by decide) (by decide) (by decide) (by omega)]; exact g1 id p z
    · rw [O _ _ (by decide) (by decide) (by decide) (by omega)]; exact g2 id p z z2 i u w
    · rw [O _ _ (by decide) (by decide) (by decide) (by omega)]; exact g3 k p z
    · rw [O _ _ (by decide) (by decide) (by decide) (by decide)]; exact g4
    · exact (o _ _ (by decide) (by decide) (by decide)).trans n80
    · exact (o _ _ (by decide) (by decide) (by decide)).trans n81
    · rw [O _ _ (by decide) (by decide) (by decide) (by decide)]; exact g7
    · exact (o _ _ (by decide) (by decide) (by decide)).trans n83
    · obtain ⟨c1, c2, c3⟩ := g10 q' p z
      rw [O _ _ (by decide) (by decide) (by decide) (by omega)]
      exact ⟨c1, fun j x y => by rw [O _ _ (by decide) (by decide) (by decide) (by omega)]; exact c2 j x y, fun j x y => by rw [O _ _ (by decide) (by decide) (by decide) (by omega)]; exact c3 j x y⟩
    · rw [O _ _ (by decide) (by decide) (by decide) (by decide)]
      exact ⟨(g11 x).1, fun t p q => by rw [O _ _ (by decide) (by decide) (by decide) (by omega), O _ _ (by decide) (by decide) (by decide) (by omega)]; exact (g11 x).2 t p q⟩
  rw [← hp]
  have row : ∀ J : Int32 → XA, (if (1000 : Int32) ≤ iI p then (gtI (13, 157) Ma (some 160) 67 fun x125 => J (((1000 : Int32) * (x125 - (1 : Int32))) + iI p)) else (gtI (13, 157) Ma (some 160) 66 fun x126 => J (((1000 : Int32) * x126) + iI p)) : XA) = J (iI (zrp e p)) := fun J => by
    unfold zrp
    by_cases y : p < 1000
    · rw [if_neg (show ¬ (1000 : Int32) ≤ iI p from leI_n (x := 1000) rfl rfl (by omega)), if_pos y, gtI_q ka e66, show (1000 : Int32) * iI (e.1 29 0 0) + iI p = iI (1000 * e.1 29 0 0 + p) from adI (mlI (x := 1000) rfl rfl) rfl]
    · have y22 : e.1 22 0 0 = 1 := by
        rw [← hp] at hin
        unfold zIn at hin
        rcases hE.2.1 with z | z <;> omega
      have a1 := Ea.1 1 (Or.inr ⟨rfl, y22⟩)
      have e67 : Ma.1 160 67 = iI (e.1 29 1 0) := a1.2.1
      rw [if_pos (show (1000 : Int32) ≤ iI p from leI_p (x := 1000) rfl rfl (by omega)), if_neg y, gtI_q ka e67, show (1000 : Int32) * (iI (e.1 29 1 0) - 1) + iI p = iI (1000 * (e.1 29 1 0 - 1) + p) from adI (mlI (x := 1000) rfl (sbI rfl li_1)) rfl]
  unfold g24
  rw [gtI_q k h.2.2.2.2.1, if_pos (show iI 0 = 0 from rfl), gtI_q k g5, ptI_q (z := s.1 9 0 0 - 1) k (sbI rfl li_1)]
  have q81 : (sI M 160 80 (iI (s.1 9 0 0 - 1))).1 160 81 = iI (s.1 10 0 0) := (sI_nej (by decide)).trans g6
  rw [gtI_q (M := sI M 160 80 (iI (s.1 9 0 0 - 1))) k q81, ptI_q (M := sI M 160 80 (iI (s.1 9 0 0 - 1))) (z := s.1 10 0 0 + 1) k (adI rfl li_1)]
  have q83 : (sI (sI M 160 80 (iI (s.1 9 0 0 - 1))) 160 81 (iI (s.1 10 0 0 + 1))).1 160 83 = iI (s.1 12 0 0) := (sI_nej (by decide)).trans ((sI_nej (by decide)).trans g8)
  rw [gtI_q (M := sI (sI M 160 80 (iI (s.1 9 0 0 - 1))) 160 81 (iI (s.1 10 0 0 + 1))) k q83, ptI_q (M := sI (sI M 160 80 (iI (s.1 9 0 0 - 1))) 160 81 (iI (s.1 10 0 0 + 1))) (z := s.1 12 0 0 - 1) k (sbI rfl li_1), ← hMa, jn_v, row (jv _), jv_e]
  have e91 : Ma.1 160 91 = iI (e.1 10 0 0) := Ea.2.2.2.1.2.1
  have b91 := Ea.2.2.2.2.1.2.1 0 (by omega)
  rw [gtI_q ka e91, jn_v]
  by_cases y : e.1 10 0 0 = 1
  · have y22 := hE.2.2.2.2.1.2.2.2.2 y
    have e21 : e.1 21 1 0 = 0 := by rcases hE.2.1 with z | z <;> omega
    have pb0 : 0 ≤ p ∧ p < e.1 21 0 0 := by
      rw [← hp] at hin
      unfold zIn at hin; omega
    obtain ⟨z, hz⟩ : ∃ z, z = zrp e p := ⟨_, rfl⟩
    have ez : ∀ p', p' < 1000 → zrp e p' = 1000 * e.1 29 0 0 + p' := fun p' x => if_pos x
    have ezp := ez p (by omega)
    obtain ⟨c1, c2, c3⟩ := g9 y p pb0.1 pb0.2
    rw [← hz] at c1 c2 c3 pb ezp ⊢
    have c1' : Ma.1 216 z.toNat = s.2 7 p 0 := (oa _ _ (by omega)).trans c1
    obtain ⟨Mb, hMb⟩ : ∃ X, X = sI Ma 216 z.toNat (s.2 7 p 0 + 1) := ⟨_, rfl⟩
    have c2' : Mb.1 217 z.toNat = s.2 8 p 0 := by rw [hMb]; exact (sI_ne (by decide)).trans ((oa _ _ (by omega)).trans c2)
    have c3' : Mb.1 218 z.toNat = iI (s.1 15 p 0) := by rw [hMb]; exact (sI_ne (by decide)).trans ((oa _ _ (by omega)).trans c3)
    have Rb : RT Mb := by rw [hMb]; exact Ra.keep rfl
    have kb := rk_160 Rb
    have e93 : Mb.1 160 93 = iI (e.1 16 0 0) := by rw [hMb]; exact (sI_ne (by decide)).trans (Ea.2.2.2.1.2.2.2.2 y)
    have b16 := hE.2.2.2.2.1.2.2.1
    obtain ⟨W, hW⟩ : ∃ W, W = if s.1 15 p 0 = e.1 16 0 0 then s.2 8 p 0 else s.2 8 p 0 + 1 := ⟨_, rfl⟩
    obtain ⟨Mc, hMc⟩ : ∃ X, X = sI (sI Mb 217 z.toNat W) 218 z.toNat (iI (e.1 16 0 0)) := ⟨_, rfl⟩
    have fc : zRo e Ma Mc := by
      refine ⟨by rw [hMc, hMb]; rfl, fun a j g => ?_, fun a j g g2 => ?_⟩
      · rw [hMc, hMb]
        exact (sI_ne (fun w => by rw [w, inW_c (by decide)] at g; cases g)).trans ((sI_ne (fun w => by rw [w, inW_c (by decide)] at g; cases g)).trans (sI_ne (fun w => by rw [w, inW_c (by decide)] at g; cases g)))
      · rw [hMc, hMb]
        have nz : j ≠ z.toNat := by omega
        exact (sI_nej nz).trans ((sI_nej nz).trans (sI_nej nz))
    refine ⟨Mc, ?_, fin Mc fc (fun a j z1 z2 z3 => by rw [hMc, hMb]; exact (sI_ne z3).trans ((sI_ne z2).trans (sI_ne z1))) (fun _ p' x1 x2 => ?_)⟩
    · rw [if_neg (eqI_n rfl li_0 (by omega)), gtP_q ka (rf_94 Ra), alI_q (n := 8000) (z := z) (rk_216 Ra) rfl (by omega) c1', asI_e (rk_216 Ra) (by omega) (by omega) (by omega), ← hMb, gtP_q kb (rf_95 Rb), alI_q (n := 8000) (z := z) (rk_217 Rb) rfl (by omega) c2', gtP_q kb (rf_96 Rb), alI_q (n := 8000) (z := z) (rk_218 Rb) rfl (by omega) c3', gtI_q kb e93, jn_v]
      have last : ∀ w' : Int32, s.2 8 p 0 + w' = W → (jv (fun (s120 : Int32) => asI 100 Mb (some 217) (iI z) ((s.2 8 p 0 + s120)) fun M121 => gtP (13, 157) M121 (some 160) 96 fun x122 => gtI (13, 157) M121 (some 160) 93 fun x123 => asI 100 M121 x122 (iI z) x123 fun M124 => (jv (fun (s34 : Mem) => g34 d x1 j685 j726 tr (iI p) (iI z) s34) M124 : XA)) w' : XA) = g34 d x1 j685 j726 tr (iI p) (iI z) Mc := fun w' hw => by
        have e93' : (sI Mb 217 z.toNat W).1 160 93 = iI (e.1 16 0 0) := (sI_ne (by decide)).trans e93
        rw [jv_e, asI_e (rk_217 Rb) (by omega) (by omega) (by omega), hw, gtP_q (M := sI Mb 217 z.toNat W) kb (rf_96 (Rb.keep rfl)), gtI_q (M := sI Mb 217 z.toNat W) kb e93', asI_e (M := sI Mb 217 z.toNat W) (rk_218 (Rb.keep rfl)) (by omega) (by omega) (by omega), ← hMc, jv_e]
      by_cases y3 : s.1 15 p 0 = e.1 16 0 0
      · rw [if_pos (eqI_p rfl rfl y3)]
        rw [if_pos y3] at hW
        exact last 0 (by rw [hW]; exact Int32.add_zero _)
      · rw [if_neg (eqI_n rfl rfl (by rw [← hp] at h15; omega))]
        rw [if_neg y3] at hW
        exact last 1 hW.symm
    · have ep := ez p' (by omega)
      have zt2 : ∀ k i j, (ztick e s).2 k i j = if k = 7 ∧ e.1 10 0 0 = 1 ∧ i = zpc s then s.2 7 (zpc s) 0 + 1 else if k = 8 ∧ e.1 10 0 0 = 1 ∧ i = zpc s ∧ s.1 15 (zpc s) 0 ≠ e.1 16 0 0 then s.2 8 (zpc s) 0 + 1 else s.2 k i j := fun _ _ _ => rfl
      have zt1 : ∀ k i j, (ztick e s).1 k i j = if k = 9 then s.1 9 0 0 - 1 else if k = 10 then s.1 10 0 0 + 1 else if k = 12 then s.1 12 0 0 - 1 else if k = 15 ∧ e.1 10 0 0 = 1 ∧ i = zpc s then e.1 16 0 0 else s.1 k i j := fun _ _ _ => rfl
      have t7 : (ztick e s).2 7 p' 0 = if p' = p then s.2 7 p 0 + 1 else s.2 7 p' 0 := by
        show (if 7 = 7 ∧ e.1 10 0 0 = 1 ∧ p' = zpc s then _ else if 7 = 8 ∧ _ then _ else _) = _
        rw [← hp]
        by_cases w : p' = p
        · rw [if_pos ⟨rfl, y, w⟩, if_pos w]
        · rw [if_neg (fun g => w g.2.2), if_neg (fun g => absurd g.1 (by decide)), if_neg w]
      have t8 : (ztick e s).2 8 p' 0 = if p' = p then W else s.2 8 p' 0 := by
        rw [zt2, ← hp, if_neg (fun g => absurd g.1 (by decide))]
        by_cases w : p' = p
        · rw [if_pos w, hW]
          by_cases w2 : s.1 15 p 0 = e.1 16 0 0
          · rw [if_neg (fun g => g.2.2.2 w2), if_pos w2, w]
          · rw [if_pos ⟨rfl, y, w, w2⟩, if_neg w2]
        · rw [if_neg (fun g => w g.2.2.1), if_neg w]
      have t15 : (ztick e s).1 15 p' 0 = if p' = p then e.1 16 0 0 else s.1 15 p' 0 := by
        rw [zt1, ← hp, if_neg (by decide), if_neg (by decide), if_neg (by decide)]
        by_cases w : p' = p
        · rw [if_pos ⟨rfl, y, w⟩, if_pos w]
        · rw [if_neg (fun g => w g.2.2), if_neg w]
      rw [t7, t8, t15, hMc]
      by_cases w : p' = p
      · rw [if_pos w, if_pos w, if_pos w, w, ← hz]
        exact ⟨(sI_ne (by decide)).trans ((sI_ne (by decide)).trans (by rw [hMb]; exact sI_eq)), (sI_ne (by decide)).trans sI_eq, sI_eq⟩
      · rw [if_neg w, if_neg w, if_neg w, hMb]
        obtain ⟨d1, d2, d3⟩ := g9 y p' x1 x2
        have nz : (zrp e p').toNat ≠ z.toNat := by omega
        exact ⟨(sI_nej nz).trans ((sI_nej nz).trans ((sI_nej nz).trans ((oa _ _ (by omega)).trans d1))), (sI_nej nz).trans ((sI_nej nz).trans ((sI_nej nz).trans ((oa _ _ (by omega)).trans d2))), (sI_nej nz).trans ((sI_nej nz).trans ((sI_nej nz).trans ((oa _ _ (by omega)).trans d3)))⟩
  · refine ⟨Ma, ?_, fin Ma zRo.r (fun _ _ _ _ _ => rfl) (fun z => absurd z y)⟩
    rw [if_pos (eqI_p rfl li_0 (by omega)), jv_e]
end S9bb
