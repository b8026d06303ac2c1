section XR4
variable {S : XS} {G : XG} {K : Nat × Nat} {l : Launch} {mt : XMt} {d : Nat} {pc : Nat} {lo : List (Option Value)} {st : List Value} {M : Mem} {c : Option (Value × Mem)}
theorem up2_at {α : Type} {f : Nat → Nat → α} {a j : Nat} {v : α} (i : Nat) : up2 f a j v a i = if i = j then v else f a i := by simp [up2]
theorem up2_ne {α : Type} {f : Nat → Nat → α} {a j b : Nat} {v : α} (h : b ≠ a) (i : Nat) : up2 f a j v b i = f b i := by simp [up2, h]
theorem xv_sI {a t j i : Nat} {v : Int32} (hk : xkk t j = 0) : xv G (sI M a j v) a t i = if i = j then .int v else xv G M a t i := by
  unfold xv
  simp only [sI, up2_at]
  by_cases e : i = j
  · subst e
    simp [hk]
  · simp [e]
theorem xv_sL {a t j i : Nat} {v : Int64} (hk : xkk t j = 1) : xv G (sL M a j v) a t i = if i = j then .long v else xv G M a t i := by
  unfold xv
  simp only [sL, up2_at]
  by_cases e : i = j
  · subst e
    simp [hk]
  · simp [e]
theorem xv_sP {a t j i : Nat} {v : Option Nat} (hk : xkk t j = 2) : xv G (sP M a j v) a t i = if i = j then va_rf (v.map (xtr G)) else xv G M a t i := by
  unfold xv
  simp only [sP, up2_at]
  by_cases e : i = j
  · subst e
    simp [hk]
  · simp [e]
theorem sI_off {a j : Nat} {v : Int32} : ∀ b i, b ≠ a → (sI M a j v).1 b i = M.1 b i ∧ (sI M a j v).2.1 b i = M.2.1 b i ∧ (sI M a j v).2.2.1 b i = M.2.2.1 b i := fun b i h => ⟨up2_ne h i, rfl, rfl⟩
theorem sL_off {a j : Nat} {v : Int64} : ∀ b i, b ≠ a → (sL M a j v).1 b i = M.1 b i ∧ (sL M a j v).2.1 b i = M.2.1 b i ∧ (sL M a j v).2.2.1 b i = M.2.2.1 b i := fun b i h => ⟨rfl, up2_ne h i, rfl⟩
theorem sP_off {a j : Nat} {v : Option Nat} : ∀ b i, b ≠ a → (sP M a j v).1 b i = M.1 b i ∧ (sP M a j v).2.1 b i = M.2.1 b i ∧ (sP M a j v).2.2.1 b i = M.2.2.1 b i := fun b i h => ⟨rfl, rfl, up2_ne h i⟩
theorem x_ptI {ci N index j : Nat} {r : Option Nat} {C ref : String} {T : u_T} {ty : Nat → FieldType} {v : Int32} {f : Mem → XA} (hc : XCi ci C T N ty) (hj : j < N) (hl : Cond.fieldLink mt.1.cls index ref (T j).2.1 (T j).2.2.1 ∈ xbig) (hsm : ref = (T j).1 ∨ Cond.sameField ref (T j).1 (T j).2.1 (T j).2.2.1 ∈ xbig) (hfin : (T j).2.2.2 = false ∨ ((T j).1 = mt.1.cls ∧ mt.1.name = "<init>")) (hk : xkd (T j).2.2.1 = 0) (hty : ty j = .int) (hd : decode mt.2.1 pc = .ok (.putfield index, 3)) (k : ∀ M', Xe S G K l mt d (pc + 3) lo st M' (f M')) : Xe S G K l mt d pc lo (.int v :: va_rf r :: st) M (ptI (ci, N) M r j v f) := by
  cases r with
  | none => exact x_none
  | some a =>
    unfold ptI
    by_cases ha : M.2.2.2[a]? = some (ci, N)
    · simp only [if_pos ha]
      exact fun r M' e => ⟨(k _ r M' e).1, fun h hn9 a1 b d9 f9 H locs ls h1 h2 h3 => x_fput h hc hj hl hsm (hfin.imp id (fun q => ⟨q.1, hn9.2.1.trans q.2⟩)) hd ha (v := .int v) (M' := sI M a j v) (by rw [hty]; rfl) (by rw [hty]; rfl) h2 h1 rfl sI_off (fun i => xv_sI ((xkk_c hc).trans hk)) (fun H' locs' h4 h5 => (k _ r M' e).2 h hn9 a1 b d9 f9 H' locs' ls h4 h5 h3)⟩
    · simp only [if_neg ha]
      exact x_none
theorem x_ptZ {ci N index j : Nat} {r : Option Nat} {C ref : String} {T : u_T} {ty : Nat → FieldType} {v : Int32} {f : Mem → XA} (hc : XCi ci C T N ty) (hj : j < N) (hl : Cond.fieldLink mt.1.cls index ref (T j).2.1 (T j).2.2.1 ∈ xbig) (hsm : ref = (T j).1 ∨ Cond.sameField ref (T j).1 (T j).2.1 (T j).2.2.1 ∈ xbig) (hfin : (T j).2.2.2 = false ∨ ((T j).1 = mt.1.cls ∧ mt.1.name = "<init>")) (hk : xkd (T j).2.2.1 = 0) (hty : ty j = .boolean) (hd : decode mt.2.1 pc = .ok (.putfield index, 3)) (k : ∀ M', Xe S G K l mt d (pc + 3) lo st M' (f M')) : Xe S G K l mt d pc lo (.int v :: va_rf r :: st) M (ptZ (ci, N) M r j v f) := by
  cases r with
  | none => exact x_none
  | some a =>
    unfold ptZ
    by_cases ha : M.2.2.2[a]? = some (ci, N) ∧ (v = 0 ∨ v = 1)
    · simp only [if_pos ha]
      exact fun r M' e => ⟨(k _ r M' e).1, fun h hn9 a1 b d9 f9 H locs ls h1 h2 h3 => x_fput h hc hj hl hsm (hfin.imp id (fun q => ⟨q.1, hn9.2.1.trans q.2⟩)) hd ha.1 (v := .int v) (M' := sI M a j v) (by rw [hty]; rcases ha.2 with rfl | rfl <;> rfl) (by rw [hty]; rcases ha.2 with rfl | rfl <;> rfl) h2 h1 rfl sI_off (fun i => xv_sI ((xkk_c hc).trans hk)) (fun H' locs' h4 h5 => (k _ r M' e).2 h hn9 a1 b d9 f9 H' locs' ls h4 h5 h3)⟩
    · simp only [if_neg ha]
      exact x_none
theorem x_ptL {ci N index j : Nat} {r : Option Nat} {C ref : String} {T : u_T} {ty : Nat → FieldType} {v : Int64} {f : Mem → XA} (hc : XCi ci C T N ty) (hj : j < N) (hl : Cond.fieldLink mt.1.cls index ref (T j).2.1 (T j).2.2.1 ∈ xbig) (hsm : ref = (T j).1 ∨ Cond.sameField ref (T j).1 (T j).2.1 (T j).2.2.1 ∈ xbig) (hfin : (T j).2.2.2 = false ∨ ((T j).1 = mt.1.cls ∧ mt.1.name = "<init>")) (hk : xkd (T j).2.2.1 = 1) (hty : ty j = .long) (hd : decode mt.2.1 pc = .ok (.putfield index, 3)) (k : ∀ M', Xe S G K l mt d (pc + 3) lo st M' (f M')) : Xe S G K l mt d pc lo (.long v :: va_rf r :: st) M (ptL (ci, N) M r j v f) := by
  cases r with
  | none => exact x_none
  | some a =>
    unfold ptL
    by_cases ha : M.2.2.2[a]? = some (ci, N)
    · simp only [if_pos ha]
      exact fun r M' e => ⟨(k _ r M' e).1, fun h hn9 a1 b d9 f9 H locs ls h1 h2 h3 => x_fput h hc hj hl hsm (hfin.imp id (fun q => ⟨q.1, hn9.2.1.trans q.2⟩)) hd ha (v := .long v) (M' := sL M a j v) (by rw [hty]; rfl) (by rw [hty]; rfl) h2 h1 rfl sL_off (fun i => xv_sL ((xkk_c hc).trans hk)) (fun H' locs' h4 h5 => (k _ r M' e).2 h hn9 a1 b d9 f9 H' locs' ls h4 h5 h3)⟩
    · simp only [if_neg ha]
      exact x_none
def xrty (t : FieldType) : Bool := match t with
  | .object _ => true
  | .array _ => true
  | _ => false
theorem xrty_ok {t : FieldType} (h : xrty t = true) (r : Option Nat) : narrow t (va_rf r) = va_rf r ∧ fits t (va_rf r) = true := by
  cases t <;> first | (simp [xrty] at h; done) | (cases r <;> exact ⟨rfl, rfl⟩)
theorem x_ptP {ci N index j : Nat} {r : Option Nat} {C ref : String} {T : u_T} {ty : Nat → FieldType} {v : Option Nat} {f : Mem → XA} (hc : XCi ci C T N ty) (hj : j < N) (hl : Cond.fieldLink mt.1.cls index ref (T j).2.1 (T j).2.2.1 ∈ xbig) (hsm : ref = (T j).1 ∨ Cond.sameField ref (T j).1 (T j).2.1 (T j).2.2.1 ∈ xbig) (hfin : (T j).2.2.2 = false ∨ ((T j).1 = mt.1.cls ∧ mt.1.name = "<init>")) (hk : xkd (T j).2.2.1 = 2) (hty : xrty (ty j) = true) (hd : decode mt.2.1 pc = .ok (.putfield index, 3)) (k : ∀ M', Xe S G K l mt d (pc + 3) lo st M' (f M')) : Xe S G K l mt d pc lo (va_rf v :: va_rf r :: st) M (ptP (ci, N) M r j v f) := by
  cases r with
  | none => exact x_none
  | some a =>
    unfold ptP
    by_cases ha : M.2.2.2[a]? = some (ci, N)
    · simp only [if_pos ha]
      refine fun r M' e => ⟨(k _ r M' e).1, fun h hn9 a1 b d9 f9 H locs ls h1 h2 h3 => ?_⟩
      show XW S H locs _ _ _ (F0 _ pc ls (cv G (va_rf v) :: .ref (xtr G a) :: st.map (cv G)))
      rw [cv_rf]
      exact x_fput h hc hj hl hsm (hfin.imp id (fun q => ⟨q.1, hn9.2.1.trans q.2⟩)) hd ha (v := va_rf (v.map (xtr G))) (M' := sP M a j v) (xrty_ok hty _).1 (xrty_ok hty _).2 h2 h1 rfl sP_off (fun i => xv_sP ((xkk_c hc).trans hk)) (fun H' locs' h4 h5 => (k _ r M' e).2 h hn9 a1 b d9 f9 H' locs' ls h4 h5 h3)
    · simp only [if_neg ha]
      exact x_none
/-! arrays -/
theorem xkk_a {t j : Nat} (h : 100 ≤ t) : xkk t j = if ta t < 104 then 0 else if ta t = 104 then 1 else 2 := by
  unfold xkk
  rw [if_neg (by omega)]
theorem ta_lo {t : Nat} (h : t < 200) : ta t = t := if_neg (by omega)
/-- an array that stood before -/
theorem mW_old {U : State} {H : Heap} (hX : XK G U) (h : mW G M H) {a t n : Nat} (ht : 200 ≤ t) (ht2 : t ≠ 220) (ha : M.2.2.2[a]? = some (t, n)) : ∃ cell : Cell, H[xtr G a]? = some cell ∧ U.isArrayOf cell (xft t) ∧ cell.vm ≠ .unknown ∧ n ≤ cell.slots.size ∧ cell.slots.size.toInt32 = Int32.ofNat n ∧ ∀ j, j < n → cell.slots[j]? = some (xv G M a t j) := by
  obtain ⟨h1, h2⟩ := h.2.2.2 a t n ha
  have h3 : a < 64 := by
    rcases Nat.lt_or_ge a 64 with h3 | h3
    · exact h3
    · have := h2 h3
      omega
  obtain ⟨e, h4⟩ := h1 h3
  obtain ⟨en, hb⟩ := h4 ht2
  obtain ⟨f, cell, q1, q2, q3, q4, q5, q6, q7⟩ := hX.2.2.2.2.2 a h3 (by rw [← e]; exact ht2)
  obtain ⟨cell', r1, r2⟩ := (h.2.2.1 a t n ha).2.2 ht ht2
  have hH := h.2.1 _ hb
  rw [xtr_old h3] at r1 ⊢
  rw [q1] at hH
  cases hH.symm.trans r1
  rw [← e] at q2
  rw [← en] at q4 q5
  exact ⟨_, r1, q2, q3, q4, q5, r2⟩
theorem mW_arr {H : Heap} (h : mW G M H) {a t n : Nat} (ht : 100 ≤ t) (ht3 : t < 200) (ha : M.2.2.2[a]? = some (t, n)) : H[xtr G a]? = some (arrV (G.2.1 t) n (fun j => xv G M a t j)) := (h.2.2.1 a t n ha).2.1 (by omega) ht3
theorem mW_arrI {H : Heap} (h : mW G M H) {a t n : Nat} (ht : 100 ≤ t) (ht2 : t < 104) (ha : M.2.2.2[a]? = some (t, n)) : H[xtr G a]? = some (arrV (G.2.1 t) n (fun j => .int (M.1 a j))) := by
  rw [mW_arr h ht (by omega) ha]
  congr 2
  funext j
  exact xv_I (by rw [xkk_a ht, ta_lo (by omega), if_pos ht2])
theorem mW_arrL {H : Heap} (h : mW G M H) {a n : Nat} (ha : M.2.2.2[a]? = some (104, n)) : H[xtr G a]? = some (arrV (G.2.1 104) n (fun j => .long (M.2.1 a j))) := by
  rw [mW_arr h (by decide) (by decide) ha]
  congr 2
theorem mW_arrP {H : Heap} (h : mW G M H) {a t n : Nat} (ht : 105 ≤ t) (ht3 : t < 200) (ha : M.2.2.2[a]? = some (t, n)) : H[xtr G a]? = some (arrV (G.2.1 t) n (fun j => va_rf ((M.2.2.1 a j).map (xtr G)))) := by
  rw [mW_arr h (by omega) ht3 ha]
  congr 2
  funext j
  exact xv_P (by rw [xkk_a (by omega), ta_lo ht3, if_neg (by omega), if_neg (by omega)])
theorem inA_of {a t : Nat} {i : Int32} (h : inAb M a t i = true) : ∃ n, M.2.2.2[a]? = some (t, n) ∧ vp_in i n := inAb_iff.mp h
theorem mW_1 {H : Heap} {A : Nat → Prop} {a : Nat} {e : va_E} (h : va_at G.1 vwCl (a, e) H) : va_P G.1 vwCl [(a, e)] H := fun k9 q hq => by
  have h0 : k9 < 1 := (List.getElem?_eq_some_iff.mp hq).1
  rw [show k9 = 0 by omega] at hq
  cases hq
  exact h
theorem x_ald {t : Nat} {r : Option Nat} {i : Int32} {f : Int32 → XA} (hrow : XO S G mt → ∀ {H : Heap} {locs : List Loc} {cells slots : Nat} {ls : Array Slot} {Q : State → Prop} {a n : Nat} {f : Nat → Int32} {i : Int32} {rest : List Value}, va_P G.1 vwCl [(a, .inl (G.2.1 t, n, .inl f))] H → vp_in i n → XW S H locs cells slots Q (F0 S.2.2.2.2.2.1 (pc + 1) ls (.int (f i.toNatClampNeg) :: rest)) → XW S H locs cells slots Q (F0 S.2.2.2.2.2.1 pc ls (.int i :: .ref a :: rest))) (hrowO : XO S G mt → ∀ {H : Heap} {locs : List Loc} {cells slots : Nat} {ls : Array Slot} {Q : State → Prop} {a : Nat} {cell : Cell} {i : Int32} {v : Value} {rest : List Value}, H[a]? = some cell → S.2.2.2.2.1.isArrayOf cell (xft (t + 100)) → cell.vm ≠ .unknown → ¬ (i < 0 ∨ cell.slots.size ≤ i.toNatClampNeg) → cell.slots[i.toNatClampNeg]? = some v → XW S H locs cells slots Q (F0 S.2.2.2.2.2.1 (pc + 1) ls (v :: rest)) → XW S H locs cells slots Q (F0 S.2.2.2.2.2.1 pc ls (.int i :: .ref a :: rest))) (ht : 100 ≤ t) (ht2 : t < 104) (k : ∀ x, Xe S G K l mt d (pc + 1) lo (.int x :: st) M (f x)) : Xe S G K l mt d pc lo (.int i :: va_rf r :: st) M (alI t M r i f) := by
  cases r with
  | none => exact x_none
  | some a =>
    unfold alI
    by_cases ha : inAb M a t i = true ∨ inAb M a (t + 100) i = true
    · simp only [if_pos ha]
      rcases ha with ha | ha
      · obtain ⟨n, h9, hi⟩ := inA_of ha
        exact fun r M' e => ⟨(k _ r M' e).1, fun h hn9 a1 b d9 f9 H locs ls h1 h2 h3 => hrow h (f := fun j => M.1 a j) (mW_1 (A := fun _ => True) (mW_arrI h1 ht ht2 h9)) hi ((k _ r M' e).2 h hn9 a1 b d9 f9 H locs ls h1 h2 h3)⟩
      · obtain ⟨n, h9, hi⟩ := inA_of ha
        refine fun r M' e => ⟨(k _ r M' e).1, fun h hn9 a1 b d9 f9 H locs ls h1 h2 h3 => ?_⟩
        obtain ⟨cell, c1, c2, c3, c4, c5, c6⟩ := mW_old h.2.2.2.2.2.2.2.2 h1 (by omega) (by omega) h9
        have hlt : i.toNatClampNeg < n := by
          rcases Nat.lt_or_ge i.toNatClampNeg n with q | q
          · exact q
          · exact absurd (Or.inr q) hi
        refine hrowO h c1 c2 c3 (fun q => q.elim (fun q => hi (Or.inl q)) (fun q => by omega)) (c6 _ hlt) ?_
        rw [xv_I (by rw [xkk_a (by omega), if_pos (by unfold ta; rw [if_pos (by omega)]; omega)])]
        exact (k _ r M' e).2 h hn9 a1 b d9 f9 H locs ls h1 h2 h3
    · simp only [if_neg ha]
      exact x_none
theorem x_iald {r : Option Nat} {i : Int32} {f : Int32 → XA} (hd : decode mt.2.1 pc = .ok (.iaload, 1)) (k : ∀ x, Xe S G K l mt d (pc + 1) lo (.int x :: st) M (f x)) : Xe S G K l mt d pc lo (.int i :: va_rf r :: st) M (alI 100 M r i f) :=
  x_ald (t := 100) (fun h {_ _ _ _ _ _ _ _ _ _ _} hP hi w => va_iald h.1 h.2.1 h.2.2.2.2.2.2.2.1 hP 0 0 rfl rfl hi hd w) (fun h {_ _ _ _ _ _ _ _ _ _ _} q1 q2 q3 q4 q5 w => W.iald h.1 h.2.1 q1 q2 q3 q4 q5 rfl rfl hd w) (by decide) (by decide) k
theorem x_bald {r : Option Nat} {i : Int32} {f : Int32 → XA} (hd : decode mt.2.1 pc = .ok (.baload, 1)) (k : ∀ x, Xe S G K l mt d (pc + 1) lo (.int x :: st) M (f x)) : Xe S G K l mt d pc lo (.int i :: va_rf r :: st) M (alI 101 M r i f) :=
  x_ald (t := 101) (fun h {_ _ _ _ _ _ _ _ _ _ _} hP hi w => va_bald h.1 h.2.1 h.2.2.2.2.2.2.2.1 hP 0 1 rfl rfl hi hd w) (fun h {_ _ _ _ _ _ _ _ _ _ _} q1 q2 q3 q4 q5 w => W.bald h.1 h.2.1 q1 q2 q3 q4 q5 rfl rfl hd w) (by decide) (by decide) k
def alX (t : Nat) (M : Mem) (r : Option Nat) (i : Int32) (k : Int32 → XA) : XA := match r with
  | none => none
  | some a => if inAb M a t i = true then k (M.1 a i.toNatClampNeg) else none
theorem x_aldx {t : Nat} {r : Option Nat} {i : Int32} {f : Int32 → XA} (hrow : XO S G mt → ∀ {H : Heap} {locs : List Loc} {cells slots : Nat} {ls : Array Slot} {Q : State → Prop} {a n : Nat} {f : Nat → Int32} {i : Int32} {rest : List Value}, va_P G.1 vwCl [(a, .inl (G.2.1 t, n, .inl f))] H → vp_in i n → XW S H locs cells slots Q (F0 S.2.2.2.2.2.1 (pc + 1) ls (.int (f i.toNatClampNeg) :: rest)) → XW S H locs cells slots Q (F0 S.2.2.2.2.2.1 pc ls (.int i :: .ref a :: rest))) (ht : 100 ≤ t) (ht2 : t < 104) (k : ∀ x, Xe S G K l mt d (pc + 1) lo (.int x :: st) M (f x)) : Xe S G K l mt d pc lo (.int i :: va_rf r :: st) M (alX t M r i f) := by
  cases r with
  | none => exact x_none
  | some a =>
    unfold alX
    by_cases ha : inAb M a t i = true
    · simp only [if_pos ha]
      obtain ⟨n, h9, hi⟩ := inA_of ha
      exact fun r M' e => ⟨(k _ r M' e).1, fun h hn9 a1 b d9 f9 H locs ls h1 h2 h3 => hrow h (f := fun j => M.1 a j) (mW_1 (A := fun _ => True) (mW_arrI h1 ht ht2 h9)) hi ((k _ r M' e).2 h hn9 a1 b d9 f9 H locs ls h1 h2 h3)⟩
    · simp only [if_neg ha]
      exact x_none
theorem x_zald {r : Option Nat} {i : Int32} {f : Int32 → XA} (hd : decode mt.2.1 pc = .ok (.baload, 1)) (k : ∀ x, Xe S G K l mt d (pc + 1) lo (.int x :: st) M (f x)) : Xe S G K l mt d pc lo (.int i :: va_rf r :: st) M (alX 102 M r i f) :=
  x_aldx (t := 102) (fun h {_ _ _ _ _ _ _ _ _ _ _} hP hi w => va_zald h.1 h.2.1 h.2.2.2.2.2.2.2.1 hP 0 2 rfl rfl hi hd w) (by decide) (by decide) k
theorem x_sald {r : Option Nat} {i : Int32} {f : Int32 → XA} (hd : decode mt.2.1 pc = .ok (.saload, 1)) (k : ∀ x, Xe S G K l mt d (pc + 1) lo (.int x :: st) M (f x)) : Xe S G K l mt d pc lo (.int i :: va_rf r :: st) M (alX 103 M r i f) :=
  x_aldx (t := 103) (fun h {_ _ _ _ _ _ _ _ _ _ _} hP hi w => va_sald h.1 h.2.1 h.2.2.2.2.2.2.2.1 hP 0 3 rfl rfl hi hd w) (by decide) (by decide) k
theorem x_lald {r : Option Nat} {i : Int32} {f : Int64 → XA} (hd : decode mt.2.1 pc = .ok (.laload, 1)) (k : ∀ x, Xe S G K l mt d (pc + 1) lo (.long x :: st) M (f x)) : Xe S G K l mt d pc lo (.int i :: va_rf r :: st) M (alL M r i f) := by
  cases r with
  | none => exact x_none
  | some a =>
    unfold alL
    by_cases ha : inAb M a 104 i = true
    · simp only [if_pos ha]
      obtain ⟨n, h9, hi⟩ := inA_of ha
      exact fun r M' e => ⟨(k _ r M' e).1, fun h hn9 a1 b d9 f9 H locs ls h1 h2 h3 => va_lald h.1 h.2.1 h.2.2.2.2.2.2.2.1 (f := fun j => M.2.1 a j) (mW_1 (A := fun _ => True) (a := xtr G a) (e := .inl (G.2.1 104, n, .inr (.inl (fun j => M.2.1 a j)))) (mW_arrL h1 h9)) 0 4 rfl rfl hi hd ((k _ r M' e).2 h hn9 a1 b d9 f9 H locs ls h1 h2 h3)⟩
    · simp only [if_neg ha]
      exact x_none
theorem x_aldq {t tn : Nat} {C : String} {r : Option Nat} {i : Int32} {f : Option Nat → XA} (ht : 105 ≤ t) (ht3 : t < 200) (htn : (xtys G.2.1)[tn]? = some (G.2.1 t, .object C)) (hd : decode mt.2.1 pc = .ok (.aaload, 1)) (k : ∀ x, Xe S G K l mt d (pc + 1) lo (va_rf x :: st) M (f x)) : Xe S G K l mt d pc lo (.int i :: va_rf r :: st) M (alP t M r i f) := by
  cases r with
  | none => exact x_none
  | some a =>
    unfold alP
    by_cases ha : inAb M a t i = true
    · simp only [if_pos ha]
      obtain ⟨n, h9, hi⟩ := inA_of ha
      exact fun r M' e => ⟨(k _ r M' e).1, fun h hn9 a1 b d9 f9 H locs ls h1 h2 h3 => va_aldq h.1 h.2.1 h.2.2.2.2.2.2.2.1 (f := fun j => (M.2.2.1 a j).map (xtr G)) (mW_1 (A := fun _ => True) (a := xtr G a) (e := .inl (G.2.1 t, n, .inr (.inr (.inr (.inr (fun j => (M.2.2.1 a j).map (xtr G))))))) (mW_arrP h1 ht ht3 h9)) 0 tn rfl htn hi hd (by rw [← cv_rf]; exact (k _ r M' e).2 h hn9 a1 b d9 f9 H locs ls h1 h2 h3)⟩
    · simp only [if_neg ha]
      exact x_none
end XR4
