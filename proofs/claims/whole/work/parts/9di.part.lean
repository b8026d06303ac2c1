/-! a BUILD is made, in the class: all of it -/
/-- the BUILD at b of the parcels g0 and g1 -/
def bdK (g0 g1 : PG) (b : Nat) (L lk : Int → Int) (M : Mem) : Prop := (M.2.2.2[b]? = some (1, 4) ∧ M.2.2.2[b + 1]? = some (100, 8) ∧ M.2.2.2[b + 2]? = some (100, ((gR g0).1 2 0 0).toNat)) ∧ (M.2.2.1 b 0 = some (gX g0) ∧ M.2.2.1 b 1 = some (gX g1) ∧ M.2.2.1 b 2 = some (b + 1) ∧ M.2.2.1 b 3 = some (b + 2)) ∧ (∀ u : Int, 0 ≤ u → u < 8 → M.1 (b + 1) u.toNat = iI (if u < (gR g0).1 1 0 0 then (if L u = -1 then -2 else L u) else -2)) ∧ ∀ m : Int, 0 ≤ m → m < (gR g0).1 2 0 0 → M.1 (b + 2) m.toNat = iI (lk m)
/-- links, pure -/
def bdL (g0 g1 : PG) (L lk : Int → Int) : Prop := (∀ u, 0 ≤ u → u < (gR g0).1 1 0 0 → LcF ((gR g1).2 1) ((gR g1).1 1 0 0) ((gR g0).2 1 u) (L u)) ∧ LkF (gR g0) (gR g1) L lk
section S9di
variable {d : Nat} {g0 g1 : PG} {M M' : Mem} {a j x N b c t : Nat} {p p0 p1 k u i m z r r2 : Int} {y y0 : Int64} {v : Int32} {R0 R1 : RG} {L lk : Int → Int} {Z : Nat → Prop}
theorem Fo.fgx (h : Fo Z c t M M') (hl : 259 ≤ ln M) : FG (fun a _ => Z a) M M' := ⟨hl, fun _ _ e => h.kd e, fun a j l z => h.2 a l z j⟩
theorem Fz.fo {Z : Nat → Nat → Prop} {Y : Nat → Prop} (h : Fz Z M M') (f : ∀ a j, Z a j → Y a) : Fo Y 0 0 M M' := ⟨⟨by rw [show ln M' = ln M by unfold ln; rw [congrArg (fun z => z.2.2) h.1]]; exact Nat.le_refl _, by rw [show ln M' = ln M by unfold ln; rw [congrArg (fun z => z.2.2) h.1]]; exact Nat.le_refl _, by rw [congrArg (fun z => z.2.2) h.1]; exact Nat.le_refl _, fun a _ => by rw [congrArg (fun z => z.2.2) h.1]⟩, fun a _ z j => ⟨h.2 a j fun y => z (f a j y), by rw [congrArg (fun z => z.1) h.1], by rw [congrArg (fun z => z.2.1) h.1]⟩⟩
theorem bc0 (hd : 6 ≤ d) (h0 : PkP g0) (h1 : PkP g1) (hC0 : PkC p0 g0 M) (hC1 : PkC p1 g1 M) (hl : 259 ≤ ln M) (hb : b + 1 = ln M) (kb : M.2.2.2[b]? = some (1, 4)) (hx : gX g0 + 18 ≤ b ∧ gX g1 + 18 ≤ b) : ∃ M' L lk, runX d 0 [va_rf (some b), va_rf (some (gX g0)), va_rf (some (gX g1))] M = some (.null, M') ∧ Fo (fun a => a = b) 2 104 M M' ∧ ln M' = b + 3 ∧ bdK g0 g1 b L lk M' ∧ bdL g0 g1 L lk := by
  obtain ⟨d, rfl⟩ : ∃ e, d = e + 1 := ⟨d - 1, by omega⟩
  have n0 := h0.1.n2
  have n1 := h1.1.n2
  have g0l := h0.2.2
  have g1l := h1.2.2
  -- places of units, of members
  have HL : ∀ u : Int, ∃ r, LcF (hEX (gH g1) 1) (hEN (gH g1) 1) (hEX (gH g0) 1 u) r := fun u => by
    obtain ⟨r, t1, -⟩ := bc1 (d := d) (y := hEX (gH g0) 1 u) (by omega) h1 hC1
    exact ⟨r, t1⟩
  obtain ⟨L, hL⟩ : ∃ L : Int → Int, ∀ u, LcF (hEX (gH g1) 1) (hEN (gH g1) 1) (hEX (gH g0) 1 u) (L u) := ⟨fun u => (HL u).choose, fun u => (HL u).choose_spec⟩
  have Lb : ∀ u, -1 ≤ L u ∧ L u < (gR g1).1 1 0 0 := fun u => by
    rcases hL u with ⟨x1, x2, -⟩ | ⟨x1, -⟩
    · omega
    · omega
  have HK : ∀ m : Int, ∃ r, 0 ≤ m → m < (gR g0).1 2 0 0 → (L ((gR g0).1 2 1 m) < 0 ∧ r = -2) ∨ (0 ≤ L ((gR g0).1 2 1 m) ∧ lkB (gR g0) (gR g1) m (L ((gR g0).1 2 1 m)) r) := fun m => by
    by_cases c : 0 ≤ m ∧ m < (gR g0).1 2 0 0
    · by_cases c2 : 0 ≤ L ((gR g0).1 2 1 m)
      · obtain ⟨-, -, -, -, hT, -⟩ := hC0
        obtain ⟨⟨t1, t2, t3⟩, t4, t5⟩ := hT 2 (by decide) (by decide) m c.1 (by omega)
        obtain ⟨e1, e2, e3, e4, e5, e6, e7, -⟩ := h0.1.1.2.2.2.1 m c.1 (by omega)
        obtain ⟨r, y1, -⟩ := bc2 (d := d) (m := m) (u := L ((gR g0).1 2 1 m)) (R0 := gR g0) (by omega) h1 hC1 ⟨c2, (Lb _).2⟩ (cc := hEC (gH g0) 2 m) ⟨t1, t5.trans e1, (t4 2 (by decide) (by decide)).trans (congrArg iI (e2 2 (by decide) (by decide))), (t4 4 (by decide) (by decide)).trans (congrArg iI (e2 4 (by decide) (by decide)))⟩ ⟨e4, e6⟩ rfl
        exact ⟨r, fun _ _ => Or.inr ⟨c2, y1⟩⟩
      · exact ⟨-2, fun _ _ => Or.inl ⟨by omega, rfl⟩⟩
    · exact ⟨0, fun a b => absurd ⟨a, b⟩ c⟩
  obtain ⟨lk, hlk⟩ : ∃ lk : Int → Int, ∀ m, 0 ≤ m → m < (gR g0).1 2 0 0 → (L ((gR g0).1 2 1 m) < 0 ∧ lk m = -2) ∨ (0 ≤ L ((gR g0).1 2 1 m) ∧ lkB (gR g0) (gR g1) m (L ((gR g0).1 2 1 m)) (lk m)) := ⟨fun m => (HK m).choose, fun m => (HK m).choose_spec⟩
  -- the memories
  have lb : M.2.2.2.length = b + 1 := hb.symm
  obtain ⟨M2, hM2⟩ : ∃ X, X = nw M 100 8 := ⟨_, rfl⟩
  have f2 : Fo (fun a => b ≤ a) 1 8 M M2 := by rw [hM2]; exact Fo.nw
  have l2 : ln M2 = b + 2 := by rw [hM2, nw_ln, ← hb]
  have k2 : M2.2.2.2[b]? = some (1, 4) := f2.kd kb
  have k2' : M2.2.2.2[b + 1]? = some (100, 8) := by rw [hM2, hb]; exact nw_kd
  obtain ⟨M5, hM5⟩ : ∃ X, X = sP (sP (sP M2 b 2 (some (b + 1))) b 0 (some (gX g0))) b 1 (some (gX g1)) := ⟨_, rfl⟩
  have f5 : Fo (fun a => b ≤ a) 1 8 M M5 := by
    rw [hM5]
    exact ((f2.tr (Fo.sP (Nat.le_refl _))).tr (Fo.sP (Nat.le_refl _))).tr (Fo.sP (Nat.le_refl _))
  have l5 : ln M5 = b + 2 := by rw [hM5]; exact l2
  have k5 : M5.2.2.2[b]? = some (1, 4) := f5.kd kb
  have k5' : M5.2.2.2[b + 1]? = some (100, 8) := by rw [hM5]; exact k2'
  have p5 : M5.2.2.1 b 0 = some (gX g0) ∧ M5.2.2.1 b 1 = some (gX g1) ∧ M5.2.2.1 b 2 = some (b + 1) := by
    rw [hM5]
    exact ⟨(sP_nej (by decide)).trans sP_eq, sP_eq, (sP_nej (by decide)).trans ((sP_nej (by decide)).trans sP_eq)⟩
  have pk : ∀ X, Fo (fun a => b ≤ a) 1 8 M X → PkC p0 g0 X ∧ PkC p1 g1 X := fun X f => ⟨hC0.fg h0 (f.fgx hl) fun a j z x1 x2 => by omega, hC1.fg h1 (f.fgx hl) fun a j z x1 x2 => by omega⟩
  obtain ⟨hC05, hC15⟩ := pk M5 f5
  obtain ⟨M6, a1, a2, a3⟩ := bc0_24 (d := d) (M := M5) (L := L) (by omega) h0 h1 hC05 hC15 (by omega) ⟨k5, p5.2.2, k5'⟩ hx (fun u _ _ => hL u)
  have q6 : M6.2 = M5.2 := a2.1
  have l6 : ln M6 = b + 2 := by rw [show ln M6 = ln M5 by unfold ln; rw [congrArg (fun z => z.2.2) q6]]; exact l5
  have f6 : Fo (fun a => b ≤ a) 1 8 M M6 := f5.tr (a2.fo fun a j z => by omega)
  obtain ⟨hC06, hC16⟩ := pk M6 f6
  have k6 : M6.2.2.2[b]? = some (1, 4) := f6.kd kb
  have k6' : M6.2.2.2[b + 1]? = some (100, 8) := by rw [congrArg (fun z => z.2.2) q6]; exact k5'
  have p6 : M6.2.2.1 b 0 = some (gX g0) ∧ M6.2.2.1 b 1 = some (gX g1) ∧ M6.2.2.1 b 2 = some (b + 1) := by rw [congrArg (fun z => z.2.1) q6]; exact p5
  obtain ⟨M7, hM7⟩ : ∃ X, X = nw M6 100 ((gR g0).1 2 0 0).toNat := ⟨_, rfl⟩
  have f67 : Fo (fun a => b ≤ a) 1 ((gR g0).1 2 0 0).toNat M6 M7 := by rw [hM7]; exact Fo.nw
  have l7 : ln M7 = b + 3 := by rw [hM7, nw_ln, l6]
  have k7'' : M7.2.2.2[b + 2]? = some (100, ((gR g0).1 2 0 0).toNat) := by rw [hM7, ← l6]; exact nw_kd
  obtain ⟨M8, hM8⟩ : ∃ X, X = sP M7 b 3 (some (b + 2)) := ⟨_, rfl⟩
  have f68 : Fo (fun a => b ≤ a) 1 ((gR g0).1 2 0 0).toNat M6 M8 := by rw [hM8]; exact f67.tr (Fo.sP (Nat.le_refl _))
  have f8 : Fo (fun a => b ≤ a) 2 104 M M8 := (f6.tr f68).m (fun _ _ z => z) (by omega) (by omega)
  have l8 : ln M8 = b + 3 := by rw [hM8]; exact l7
  have z6 : ∀ a, a < b + 2 → a ≠ b → ∀ j, M8.1 a j = M6.1 a j := fun a x1 x2 j => by
    rw [hM8]
    show M7.1 a j = _
    rw [hM7]
    exact if_neg (show ¬ a = ln M6 by omega)
  have k8 : M8.2.2.2[b]? = some (1, 4) := f68.kd k6
  have k8' : M8.2.2.2[b + 1]? = some (100, 8) := f68.kd k6'
  have k8'' : M8.2.2.2[b + 2]? = some (100, ((gR g0).1 2 0 0).toNat) := by rw [hM8]; exact k7''
  have p7 : ∀ j, M7.2.2.1 b j = M6.2.2.1 b j := fun j => by
    rw [hM7]
    exact if_neg (show ¬ b = ln M6 by omega)
  have p8 : M8.2.2.1 b 0 = some (gX g0) ∧ M8.2.2.1 b 1 = some (gX g1) ∧ M8.2.2.1 b 2 = some (b + 1) ∧ M8.2.2.1 b 3 = some (b + 2) := by
    rw [hM8]
    exact ⟨(sP_nej (by decide)).trans ((p7 0).trans p6.1), (sP_nej (by decide)).trans ((p7 1).trans p6.2.1), (sP_nej (by decide)).trans ((p7 2).trans p6.2.2), sP_eq⟩
  have hC08 : PkC p0 g0 M8 := hC0.fg h0 (f8.fgx hl) fun a j z x1 x2 => by omega
  have hC18 : PkC p1 g1 M8 := hC1.fg h1 (f8.fgx hl) fun a j z x1 x2 => by omega
  obtain ⟨M9, c1, c2, c3⟩ := bc0_91 (d := d) (M := M8) (L := L) (lk := lk) (by omega) h0 h1 hC08 hC18 (by omega) ⟨k8, ⟨p8.2.2.1, p8.2.2.2⟩, k8', k8''⟩ hx (fun u _ _ => hL u) (fun u x1 x2 => by
    rw [z6 _ (by omega) (by omega), a3 u x1 (by omega), if_pos x2]) hlk
  have q9 : M9.2 = M8.2 := c2.1
  have f9 : Fo (fun a => b ≤ a) 2 104 M M9 := f8.tr (c2.fo fun a j z => by omega)
  refine ⟨M9, L, lk, ?_, f9.m (fun a l z => by omega) (Nat.le_refl _) (Nat.le_refl _), by rw [show ln M9 = ln M8 by unfold ln; rw [congrArg (fun z => z.2.2) q9]]; exact l8, ⟨⟨?_, ?_, ?_⟩, ?_, fun u x1 x2 => ?_, c3⟩, fun u x1 x2 => ?_, fun m x1 x2 => ?_⟩
  · obtain ⟨⟨⟨o1, o2, o3⟩, o4, -⟩, -, -, hLs, -⟩ := hC06
    have l := hLs 2 (by decide) (by decide)
    rw [r0]; unfold b0; rw [aR_e, aR_e, aR_e, aZ_e]; unfold c0
    rw [nn_e, show (8 : Int32) = iI 8 from rfl, nA_e (by decide) (by decide), lb, show nw M 100 (8 : Int).toNat = M2 from hM2.symm, ptP_e k2, ptP_e (M := sP M2 b 2 (some (b + 1))) k2, ptP_e (M := sP (sP M2 b 2 (some (b + 1))) b 0 (some (gX g0))) k2, ← hM5, jn_v, a1, jv_e, gtP_q o1 (o4 2 (by decide) (by decide)), vC_e l.1.2.1, cI_e (ls_size (by omega) l), nA_e (by omega) (by omega), show M6.2.2.2.length = b + 2 from l6, n0.1, ← hM7, ptP_e (M := M7) (f67.kd k6), ← hM8, jn_v, c1, jv_e]
  · rw [congrArg (fun z => z.2.2) q9]; exact k8
  · rw [congrArg (fun z => z.2.2) q9]; exact k8'
  · rw [congrArg (fun z => z.2.2) q9]; exact k8''
  · rw [congrArg (fun z => z.2.1) q9]; exact p8
  · rw [c2.2 _ _ (by omega), z6 _ (by omega) (by omega)]; exact a3 u x1 x2
  · -- names of units
    have e0 := (h0.1.1.2.2.1 u x1 (by omega)).1
    have hh := hL u
    rw [e0] at hh
    have en : ∀ j, 0 ≤ j → j < hEN (gH g1) 1 → hEX (gH g1) 1 j = (gR g1).2 1 j := fun j x1 x2 => (h1.1.1.2.2.1 j x1 (by omega)).1
    rcases hh with ⟨y1, y2, y3, y4⟩ | ⟨y1, y2⟩
    · exact Or.inl ⟨y1, by omega, (en _ y1 y2).symm.trans y3, fun j w1 w2 => fun z => y4 j w1 w2 ((en j w1 (by omega)).trans z)⟩
    · exact Or.inr ⟨y1, fun j w1 w2 => fun z => y2 j w1 (by omega) ((en j w1 (by omega)).trans z)⟩
  · exact hlk m x1 x2
end S9di
