/-- the locals at a method's entry -/
def xargs : List Value → List (Option Value)
  | [] => []
  | v :: l => some v :: (if v.category = 2 then none :: xargs l else xargs l)
theorem xargs_rf (r : Option Nat) (l : List Value) : xargs (va_rf r :: l) = some (va_rf r) :: xargs l := by cases r <;> rfl
theorem xargs_i (x : Int32) (l : List Value) : xargs (.int x :: l) = some (.int x) :: xargs l := rfl
theorem xargs_l (x : Int64) (l : List Value) : xargs (.long x :: l) = some (.long x) :: none :: xargs l := rfl
theorem xargs_lvs {G : XG} : ∀ (as : List Value) (n : Nat), ∀ q ∈ lvs G n (xargs as), q ∈ lv_args n (as.map (cv G))
  | [], n, q, h => by simp [xargs, lvs] at h
  | v :: l, n, q, h => by
    have hc : (cv G v).category = v.category := cv_cat v
    rw [List.map_cons, lv_args, hc]
    rw [xargs] at h
    rcases List.mem_cons.mp h with h | h
    · exact h ▸ List.mem_cons_self
    · refine List.mem_cons_of_mem _ ?_
      by_cases e : v.category = 2
      · rw [if_pos e] at h ⊢
        exact xargs_lvs l (n + 2) q h
      · rw [if_neg e] at h ⊢
        exact xargs_lvs l (n + 1) q h
theorem lg_len {G : XG} : ∀ (as : List Value), (lg_sl (as.map (cv G))).length = (xargs as).length
  | [] => rfl
  | v :: l => by
    have ih := lg_len (G := G) l
    have hc : (cv G v).category = v.category := cv_cat v
    rw [xargs]
    show (lg_sl (cv G v :: l.map (cv G))).length = _
    unfold lg_sl at ih ⊢
    rw [List.flatMap_cons, List.length_append, ih, hc]
    by_cases e : v.category = 2
    · simp [e]; omega
    · simp [e]; omega
/-- a method's contract out of its walk -/
theorem x_met {l : Launch} {q : XMt} {n d : Nat} (hm : XMi q n) {as : List Value} {M M' : Mem} {r : Value} {c : XA} {lo : List (Option Value)} (hl : xsub lo (xargs as)) (hsz : (xargs as).length ≤ q.2.2.1)
    (hb : ∀ (S : XS) (G : XG) (K : Nat × Nat), Xe S G K l q d 0 lo [] M c) (hc : c = some (r, M')) (hS : Nonempty XS) (hG : Nonempty XG) :
    M.2.2.2 <+: M'.2.2.2 ∧ ∀ (G : XG), Met l q.1 (xws q) (xrm (d + 1) (M'.2.2.2.length - M.2.2.2.length) (tot M'.2.2.2 - tot M.2.2.2)) (va_Pc (as.map (cv G)) (fun U => mW G M U.heap ∧ XE G U)) (fun _ _ o t => o = .returned (if q.2.2.2.isNone then none else some (cv G r)) ∧ mW G M' t.heap) (M'.2.2.2.length - M.2.2.2.length) (tot M'.2.2.2 - tot M.2.2.2) (fun q => G.2.2.2.2 ≤ q) := by
  obtain ⟨S0⟩ := hS
  obtain ⟨G0⟩ := hG
  refine ⟨(hb S0 G0 (0, 0) r M' hc).1, fun G => ?_⟩
  refine Met.ofW (cc := q.2.1) (maxL := q.2.2.1) (ret := q.2.2.2) hm.2.2.2.2.2 rfl ?_
  intro p e s m args below meth c1 s₁ B hml hv
  obtain ⟨rfl, hW, hE⟩ := hv
  have hts := atoms_spec (ws := xws q) B.pre
  have hown : s.vm.findClass q.1.cls = some m.cls := findClass_of_methodNamed B.named
  have hX := (hb (p, l, e, xrm (d + 1) (M'.2.2.2.length - M.2.2.2.length) (tot M'.2.2.2 - tot M.2.2.2), s, m, (as.map (cv G)).toArray, below, meth, c1) G (M.2.2.2.length, tot M.2.2.2) r M' hc).2
  have hX := hX ⟨B.exec, B.bytes, hml, hown, fun w hw => hts w (List.mem_cons_of_mem _ hw), B.notSynchronized, B.returns, hE⟩ ⟨rfl, (name_of_methodNamed B.named B.method).1, Nat.le_refl _, by show 40 * d + 40 ≤ 40 * (d + 1); omega⟩ (Nat.le_refl _) (Nat.le_refl _) (Nat.le_refl _) (Nat.le_refl _) s.heap []
  have hle := lv_entry (as.map (cv G)) (n := q.2.2.1) (by rw [lg_len]; exact hsz)
  have hX := hX _ hW (fun q hq => by simp at hq) ⟨hle.1, hle.2.1, fun z hz => by
    obtain ⟨i, v, hi, rfl⟩ := lvs_inv lo 0 z hz
    have h1 := lvs_mem (G := G) (xargs as) 0 i v (xsub_at _ _ _ _ hl hi)
    exact hle.2.2 _ (xargs_lvs as 0 _ h1)⟩
  rw [lg_entry_eq]
  rw [Nat.sub_self, Nat.sub_self] at hX
  exact hX
