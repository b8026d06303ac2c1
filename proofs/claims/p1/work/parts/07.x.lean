def xws (q : XMt) : List Cond := Cond.code q.1 q.2.1 q.2.2.1 q.2.2.2 :: xbig
def xrm (d c s : Nat) : Room := { frames := d, cells := c, slots := s, locals := 40 * d }
/-- the methods' meanings at depth d hold of the machine -/
def XSnd (l : Launch) (xmt : Nat → XMt) (rec : Nat → List Value → Mem → XA) (d : Nat) : Prop :=
  ∀ (q : Nat) (as : List Value) (M : Mem) (r : Value) (M' : Mem), rec q as M = some (r, M') → M.2.2.2 <+: M'.2.2.2 ∧ ∀ (G : XG),
    Met l (xmt q).1 (xws (xmt q)) (xrm d (M'.2.2.2.length - M.2.2.2.length) (tot M'.2.2.2 - tot M.2.2.2)) (va_Pc (as.map (cv G)) (fun U => mW G M U.heap ∧ XE G U)) (fun _ _ o t => o = .returned (if (xmt q).2.2.2.isNone then none else some (cv G r)) ∧ mW G M' t.heap) (M'.2.2.2.length - M.2.2.2.length) (tot M'.2.2.2 - tot M.2.2.2) (fun q => G.2.2.2.2 ≤ q)
/-- what is known of a method -/
def XMi (q : XMt) (n : Nat) : Prop := Cond.code q.1 q.2.1 q.2.2.1 q.2.2.2 ∈ xbig ∧ Cond.initialized q.1.cls ∈ xbig ∧ (q.1.cls ≠ "java/lang/invoke/MethodHandle" ∧ q.1.cls ≠ "java/lang/invoke/VarHandle") ∧ (parseMethodDescriptor q.1.desc).map (fun d => d.parameters.length) = some n ∧ q.2.2.1 ≤ 20 ∧ plainName q.1.cls = true
theorem xws_good {q : XMt} {n : Nat} (h : XMi q n) : GoodIn xbig (xws q) := fun w hw => by
  rcases List.mem_cons.mp hw with rfl | hw
  · exact xb_good _ h.1
  · exact xb_good _ hw
section XR7
variable {S : XS} {G : XG} {K : Nat × Nat} {l : Launch} {mt : XMt} {d : Nat} {pc : Nat} {lo : List (Option Value)} {st : List Value} {M : Mem} {c : Option (Value × Mem)}
theorem x_iret {x : Int32} (hret : mt.2.2.2 = some .int) (hd : decode mt.2.1 pc = .ok (.ireturn, 1)) : Xe S G K l mt d pc lo [.int x] M (some (.int x, M)) := by
  intro r M' e
  cases e
  refine ⟨List.prefix_refl _, fun h hn9 a1 b d9 f9 H locs ls h1 h2 h3 => ?_⟩
  exact W.iret h.1 h.2.1 (h.2.2.2.2.2.2.1.trans hret) (fun t ht hW => ⟨by rw [hret]; rfl, by rw [ht]; exact h1⟩) h2 hd h.2.2.2.2.2.1
theorem x_zret {x : Int32} (hret : mt.2.2.2 = some .boolean) (hd : decode mt.2.1 pc = .ok (.ireturn, 1)) : Xe S G K l mt d pc lo [.int x] M (rtZ x M) := by
  intro r M' e
  unfold rtZ at e
  by_cases hx : x = 0 ∨ x = 1
  · rw [if_pos hx] at e
    cases e
    refine ⟨List.prefix_refl _, fun h hn9 a1 b d9 f9 H locs ls h1 h2 h3 => ?_⟩
    exact W.zret h.1 h.2.1 (h.2.2.2.2.2.2.1.trans hret) (by rcases hx with rfl | rfl <;> rfl) (fun t ht hW => ⟨by rw [hret]; rfl, by rw [ht]; exact h1⟩) h2 hd h.2.2.2.2.2.1
  · rw [if_neg hx] at e
    cases e
theorem x_vret (hret : mt.2.2.2 = none) (hd : decode mt.2.1 pc = .ok (.return_, 1)) : Xe S G K l mt d pc lo [] M (some (.null, M)) := by
  intro r M' e
  cases e
  refine ⟨List.prefix_refl _, fun h hn9 a1 b d9 f9 H locs ls h1 h2 h3 => ?_⟩
  exact W.vret h.1 h.2.1 (h.2.2.2.2.2.2.1.trans hret) (fun t ht hW => ⟨by rw [hret]; rfl, by rw [ht]; exact h1⟩) h2 hd h.2.2.2.2.2.1
theorem x_cast {ci N index : Nat} {r : Option Nat} {C : String} {T : u_T} {ty : Nat → FieldType} {A : XA} (hc : XCi ci C T N ty) (hcl : Cond.classLink mt.1.cls index C ∈ xbig) (hd : decode mt.2.1 pc = .ok (.checkcast index, 3)) (k : Xe S G K l mt d (pc + 3) lo (va_rf r :: st) M A) : Xe S G K l mt d pc lo (va_rf r :: st) M (cst (ci, N) M r A) := by
  cases r with
  | none => exact x_pure (fun h _ _ _ _ _ _ w => lv_castN h.1 h.2.1 hd w) k
  | some a =>
    unfold cst
    by_cases ha : M.2.2.2[a]? = some (ci, N)
    · simp only [if_pos ha]
      exact fun r M' e => ⟨(k r M' e).1, fun h hn9 a1 b d9 f9 H locs ls h1 h2 h3 => va_castS h.1 h.2.1 h.2.2.2.1 (h.2.2.2.2.1 _ hcl) (h.2.2.2.2.2.2.2.1.1 ci _ hc.1).2 (mW_obj h.2.2.2.2.2.2.2.1 h1 hc ha) hd ((k r M' e).2 h hn9 a1 b d9 f9 H locs ls h1 h2 h3)⟩
    · simp only [if_neg ha]
      exact x_none
/-- behind a call -/
theorem x_back {mc ms : Nat} {g : JFrame} {rest : List Value} {Qa : State → Outcome → State → Prop} {free : Addr → Prop} {H : Heap} {locs : List Loc} {cells slots : Nat} {Q : State → Prop}
    (hr : CallRun S.1 S.2.1 S.2.2.1 S.2.2.2.1 S.2.2.2.2.1 S.2.2.2.2.2.1 S.2.2.2.2.2.2.1 S.2.2.2.2.2.2.2.1 S.2.2.2.2.2.2.2.2.1 S.2.2.2.2.2.2.2.2.2 H locs cells slots mc ms g rest Qa free)
    (kk : ∀ (v : Option Value) (st₀ t : State) (L : List Loc), st₀.heap = H → Qa st₀ (.returned v) t → (∀ q ∈ L, free q.base) → XW S t.heap (locs ++ L) (cells + mc) (slots + ms) Q { g with pc := g.pc + 3, stack := v.toList ++ rest }) : XW S H locs cells slots Q g := by
  intro T hT X
  obtain ⟨v, st₀, t, T', L, h0, X', hL, e1, hq, st⟩ := hr T hT X
  obtain ⟨t2, a1, b1⟩ := kk v st₀ t L h0 hq hL T' e1 X'
  exact ⟨t2, st t2 a1, b1⟩
theorem st_cat (l : List Value) : (l.map fun v => v.category).sum ≤ 2 * l.length := by
  induction l with
  | nil => simp
  | cons v l ih =>
    have : v.category ≤ 2 := by cases v <;> simp [Value.category]
    simp only [List.map_cons, List.sum_cons, List.length_cons]
    omega
/-- any call: what the machine needs of it is a CallRun; the rest is the same for all kinds -/
theorem x_call {rec : Nat → List Value → Mem → XA} {xmt : Nat → XMt} {q : Nat} {as : List Value} {st0 : List Value} {f : Value → Mem → XA} (hs : XSnd l xmt rec d) (hrow : XO S G mt → XN S l mt d → ∀ {M1 : Mem} {r1 : Value} {H : Heap} {locs : List Loc} {cells slots : Nat} {ls : Array Slot}, mW G M H → lv_has ls mt.2.2.1 (lvs G 0 lo) → rec q as M = some (r1, M1) → Met S.2.1 (xmt q).1 (xws (xmt q)) (xrm d (M1.2.2.2.length - M.2.2.2.length) (tot M1.2.2.2 - tot M.2.2.2)) (va_Pc (as.map (cv G)) (fun U => mW G M U.heap ∧ XE G U)) (fun _ _ o t => o = .returned (if (xmt q).2.2.2.isNone then none else some (cv G r1)) ∧ mW G M1 t.heap) (M1.2.2.2.length - M.2.2.2.length) (tot M1.2.2.2 - tot M.2.2.2) (fun q => G.2.2.2.2 ≤ q) →
      cells + (M1.2.2.2.length - M.2.2.2.length) ≤ S.2.2.2.1.cells → slots + (tot M1.2.2.2 - tot M.2.2.2) ≤ S.2.2.2.1.slots →
      CallRun S.1 S.2.1 S.2.2.1 S.2.2.2.1 S.2.2.2.2.1 S.2.2.2.2.2.1 S.2.2.2.2.2.2.1 S.2.2.2.2.2.2.2.1 S.2.2.2.2.2.2.2.2.1 S.2.2.2.2.2.2.2.2.2 H locs cells slots (M1.2.2.2.length - M.2.2.2.length) (tot M1.2.2.2 - tot M.2.2.2) (F0 S.2.2.2.2.2.1 pc ls (st0.map (cv G))) (st.map (cv G)) (fun _ o t => o = .returned (if (xmt q).2.2.2.isNone then none else some (cv G r1)) ∧ mW G M1 t.heap) (fun q => G.2.2.2.2 ≤ q)) (k : ∀ v M1, rec q as M = some (v, M1) → Xe S G K l mt d (pc + 3) lo ((if (xmt q).2.2.2.isNone then [] else [v]) ++ st) M1 (f v M1)) : Xe S G K l mt d pc lo st0 M ((rec q as M).bind (fun x => f x.1 x.2)) := by
  intro r M' e
  cases hq : rec q as M with
  | none => rw [hq] at e; cases e
  | some x =>
    obtain ⟨r1, M1⟩ := x
    rw [hq] at e
    obtain ⟨hp1, hmet⟩ := hs q as M r1 M1 hq
    obtain ⟨hp2, kk⟩ := k r1 M1 hq r M' e
    have l1 := pfx_len hp1
    have l2 := pfx_len hp2
    have t1 := pfx_tot hp1
    have t2 := pfx_tot hp2
    refine ⟨hp1.trans hp2, fun h hn9 a1 b d9 f9 H locs ls h1 h2 h3 => ?_⟩
    refine x_back (hrow h hn9 h1 h3 hq (by rw [hn9.1]; exact hmet G) (by omega) (by omega)) (fun v st₀ t L h0 hqa hL => ?_)
    obtain ⟨hv, hw⟩ := hqa
    have hv' : v = if (xmt q).2.2.2.isNone then none else some (cv G r1) := by cases hv; rfl
    have := kk h hn9 (by omega) (by omega) d9 f9 t.heap (locs ++ L) ls hw (fun q hq => (List.mem_append.mp hq).elim (h2 q) (hL q)) h3
    rw [show M.2.2.2.length - K.1 + (M1.2.2.2.length - M.2.2.2.length) = M1.2.2.2.length - K.1 by omega, show tot M.2.2.2 - K.2 + (tot M1.2.2.2 - tot M.2.2.2) = tot M1.2.2.2 - K.2 by omega]
    have es : v.toList ++ st.map (cv G) = ((if (xmt q).2.2.2.isNone then [] else [r1]) ++ st).map (cv G) := by
      rw [hv']
      split <;> rfl
    show XW S t.heap (locs ++ L) _ _ _ (F0 S.2.2.2.2.2.1 (pc + 3) ls (v.toList ++ st.map (cv G)))
    rw [es]
    exact this
theorem x_blind {as : List Value} {M : Mem} : FrameBlind (va_Pc (as.map (cv G)) (fun U => mW G M U.heap ∧ XE G U)) := fun a U g mk h => ⟨h.1, h.2.1, XE.same (u := U) (U := U.calling g mk a) rfl h.2.2⟩
theorem x_callB {q : XMt} {n index c1 s1 : Nat} (h : XO S G mt) (hN : XN S l mt d) (hm : XMi q n) (hl : Cond.methodLink mt.1.cls index q.1 ∈ xbig) : CallB S.2.2.2.1 S.2.2.2.2.1 S.2.2.2.2.2.2.1 mt.1.cls index q.1 q.2.1 q.2.2.1 q.2.2.2 (xws q) (xrm d c1 s1) c1 s1 n := by
  obtain ⟨m1, m2, m3, m4, m5, m6⟩ := id hm
  exact callB_of n h.2.2.2.2.1 (xws_good hm) rfl rfl rfl (h.2.2.2.2.1 _ m2) (h.2.2.2.2.1 _ hl) ⟨m3.1, m3.2, m4⟩ ⟨hN.2.2.1, by have := hN.2.2.2; show 8 + (q.2.2.1 + 11) + 40 * d ≤ _; omega⟩
theorem x_callS {rec : Nat → List Value → Mem → XA} {n index : Nat} {xmt : Nat → XMt} {q : Nat} {as st0 : List Value} {f : Value → Mem → XA} (hs : XSnd l xmt rec d) (hm : XMi (xmt q) n) (hl : Cond.methodLink mt.1.cls index (xmt q).1 ∈ xbig) (hst : Cond.static (xmt q).1 ∈ xbig) (hlen : as.length = n) (hst0 : st0 = as.reverse ++ st) (h8 : st.length ≤ 4) (hd : decode mt.2.1 pc = .ok (.invokestatic index, 3)) (k : ∀ v M1, rec q as M = some (v, M1) → Xe S G K l mt d (pc + 3) lo ((if (xmt q).2.2.2.isNone then [] else [v]) ++ st) M1 (f v M1)) : Xe S G K l mt d pc lo st0 M ((rec q as M).bind (fun x => f x.1 x.2)) := by
  subst hst0
  refine x_call hs (fun h hn9 {M1 r1 H locs cells slots ls} h1 h3 hq hmet hc1 hc2 => ?_) k
  exact W.runS (As := as.map (cv G)) ⟨h.1, h.2.1, h.2.2.1, h.2.2.2.1, h.2.2.2.2.1⟩ hmet ⟨x_callB h hn9 hm hl, h.2.2.2.2.1 _ hst⟩ ⟨x_blind, fun U hU hW => ⟨rfl, by rw [hU]; exact h1, XE.warm hW h.2.2.2.2.2.2.2⟩⟩ rfl (by rw [List.length_map]; exact hlen) h3.1 (by simp [List.map_append, List.map_reverse]) (Nat.le_trans (Nat.add_le_add_left (st_cat _) _) (by simp [JFrame.monitorRoom]; omega)) hd ⟨hc1, hc2⟩
theorem x_callV {rec : Nat → List Value → Mem → XA} {n index ci N : Nat} {xmt : Nat → XMt} {q : Nat} {T : u_T} {ty : Nat → FieldType} {r : Option Nat} {as st0 : List Value} {f : Value → Mem → XA} (hs : XSnd l xmt rec d) (hm : XMi (xmt q) n) (hci : XCi ci (xmt q).1.cls T N ty) (hl : Cond.methodLink mt.1.cls index (xmt q).1 ∈ xbig) (hin : Cond.instanceMethod (xmt q).1 ∈ xbig) (hse : Cond.selects (xmt q).1.cls (xmt q).1 (xmt q).1 ∈ xbig) (hlen : as.length = n) (hst0 : st0 = as.reverse ++ va_rf r :: st) (h8 : st.length ≤ 4) (hd : decode mt.2.1 pc = .ok (.invokevirtual index, 3)) (k : ∀ v M1, rec q (va_rf r :: as) M = some (v, M1) → Xe S G K l mt d (pc + 3) lo ((if (xmt q).2.2.2.isNone then [] else [v]) ++ st) M1 (f v M1)) : Xe S G K l mt d pc lo st0 M (vC (ci, N) M r ((rec q (va_rf r :: as) M).bind (fun x => f x.1 x.2))) := by
  subst hst0
  cases r with
  | none => exact x_none
  | some a =>
    unfold vC
    by_cases ha : M.2.2.2[a]? = some (ci, N)
    · simp only [if_pos ha]
      refine x_call hs (fun h hn9 {M1 r1 H locs cells slots ls} h1 h3 hq hmet hc1 hc2 => ?_) k
      exact W.runV (As := as.map (cv G)) (b := xtr G a) ⟨h.1, h.2.1, h.2.2.1, h.2.2.2.1, h.2.2.2.2.1⟩ hmet ⟨x_callB h hn9 hm hl, h.2.2.2.2.1 _ hin, h.2.2.2.2.1 _ hse⟩ ⟨x_blind, mW_obj h.2.2.2.2.2.2.2.1 h1 hci ha, fun U hU hW => ⟨rfl, by rw [hU]; exact h1, XE.warm hW h.2.2.2.2.2.2.2⟩⟩ rfl (by rw [List.length_map]; exact hlen) h3.1 (by simp [List.map_append, List.map_reverse, va_rf, cv]) (Nat.le_trans (Nat.add_le_add_left (st_cat _) _) (by simp [JFrame.monitorRoom]; omega)) hd ⟨hc1, hc2⟩
    · simp only [if_neg ha]
      exact x_none
theorem x_callI {rec : Nat → List Value → Mem → XA} {n index ci N : Nat} {xmt : Nat → XMt} {q : Nat} {r : Option Nat} {as st0 : List Value} {f : Value → Mem → XA} (hs : XSnd l xmt rec d) (hm : XMi (xmt q) n) (hl : Cond.methodLink mt.1.cls index (xmt q).1 ∈ xbig) (hin : Cond.instanceMethod (xmt q).1 ∈ xbig) (hy : (xmt q).1.name = "<init>") (hv : (xmt q).2.2.2 = none) (hlen : as.length = n) (hst0 : st0 = as.reverse ++ va_rf r :: st) (h8 : st.length ≤ 4) (hd : decode mt.2.1 pc = .ok (.invokespecial index, 3)) (k : ∀ v M1, rec q (va_rf r :: as) M = some (v, M1) → Xe S G K l mt d (pc + 3) lo ((if (xmt q).2.2.2.isNone then [] else [v]) ++ st) M1 (f v M1)) : Xe S G K l mt d pc lo st0 M (vC (ci, N) M r ((rec q (va_rf r :: as) M).bind (fun x => f x.1 x.2))) := by
  subst hst0
  cases r with
  | none => exact x_none
  | some a =>
    unfold vC
    by_cases ha : M.2.2.2[a]? = some (ci, N)
    · simp only [if_pos ha]
      refine x_call hs (fun h hn9 {M1 r1 H locs cells slots ls} h1 h3 hq hmet hc1 hc2 => ?_) k
      have hB := x_callB (c1 := M1.2.2.2.length - M.2.2.2.length) (s1 := tot M1.2.2.2 - tot M.2.2.2) h hn9 hm hl
      rw [hv] at hB
      exact W.runI (As := as.map (cv G)) (b := xtr G a) ⟨h.1, h.2.1, h.2.2.1, h.2.2.2.1, h.2.2.2.2.1⟩ hmet ⟨hB, hy, h.2.2.2.2.1 _ hin⟩ ⟨x_blind, fun U hU hW => ⟨rfl, by rw [hU]; exact h1, XE.warm hW h.2.2.2.2.2.2.2⟩⟩ rfl (by rw [List.length_map]; exact hlen) h3.1 (by simp [List.map_append, List.map_reverse, va_rf, cv]) (Nat.le_trans (Nat.add_le_add_left (st_cat _) _) (by simp [JFrame.monitorRoom]; omega)) hd ⟨hc1, hc2⟩
    · simp only [if_neg ha]
      exact x_none
theorem x_callCN {q : XMt} {n index c1 s1 : Nat} {host : String} (h : XO S G mt) (hN : XN S l mt d) (hm : XMi q n) (hl : ∀ U, XE G U → va_Nw (.methodLinkNest mt.1.cls index q.1 host) U) : va_CN S.2.2.2.1 S.2.2.2.2.1 S.2.2.2.2.2.2.1 mt.1.cls index q.1 host q.2.1 q.2.2.1 q.2.2.2 (xws q) (xrm d c1 s1) c1 s1 n := by
  obtain ⟨m1, m2, m3, m4, m5, m6⟩ := id hm
  exact va_cnB n h.2.2.2.2.1 (xws_good hm) rfl rfl rfl (hl _ h.2.2.2.2.2.2.2) (h.2.2.2.2.1 _ m2) ⟨m3.1, m3.2, m4⟩ ⟨hN.2.2.1, by have := hN.2.2.2; show 8 + (q.2.2.1 + 11) + 40 * d ≤ _; omega⟩
theorem x_callSN {rec : Nat → List Value → Mem → XA} {n index : Nat} {host : String} {xmt : Nat → XMt} {q : Nat} {as st0 : List Value} {f : Value → Mem → XA} (hs : XSnd l xmt rec d) (hm : XMi (xmt q) n) (hl : ∀ U, XE G U → va_Nw (.methodLinkNest mt.1.cls index (xmt q).1 host) U) (hst : Cond.static (xmt q).1 ∈ xbig) (hlen : as.length = n) (hst0 : st0 = as.reverse ++ st) (h8 : st.length ≤ 4) (hd : decode mt.2.1 pc = .ok (.invokestatic index, 3)) (k : ∀ v M1, rec q as M = some (v, M1) → Xe S G K l mt d (pc + 3) lo ((if (xmt q).2.2.2.isNone then [] else [v]) ++ st) M1 (f v M1)) : Xe S G K l mt d pc lo st0 M ((rec q as M).bind (fun x => f x.1 x.2)) := by
  subst hst0
  refine x_call hs (fun h hn9 {M1 r1 H locs cells slots ls} h1 h3 hq hmet hc1 hc2 => ?_) k
  exact va_Run.run (va_runSN (As := as.map (cv G)) ⟨h.1, h.2.1, h.2.2.1, h.2.2.2.1, h.2.2.2.2.1⟩ hmet ⟨x_callCN h hn9 hm hl, h.2.2.2.2.1 _ hst, trivial⟩ ⟨x_blind, fun U hU hW => ⟨rfl, by rw [hU]; exact h1, XE.warm hW h.2.2.2.2.2.2.2⟩⟩ rfl (by rw [List.length_map]; exact hlen) h3.1 (by simp [List.map_append, List.map_reverse]) (Nat.le_trans (Nat.add_le_add_left (st_cat _) _) (by simp [JFrame.monitorRoom]; omega)) hd ⟨hc1, hc2⟩)
theorem x_callIN {rec : Nat → List Value → Mem → XA} {n index ci N : Nat} {host : String} {xmt : Nat → XMt} {q : Nat} {r : Option Nat} {as st0 : List Value} {f : Value → Mem → XA} (hs : XSnd l xmt rec d) (hm : XMi (xmt q) n) (hl : ∀ U, XE G U → va_Nw (.methodLinkNest mt.1.cls index (xmt q).1 host) U) (hin : Cond.instanceMethod (xmt q).1 ∈ xbig) (hy : (xmt q).1.name = "<init>") (hv : (xmt q).2.2.2 = none) (hlen : as.length = n) (hst0 : st0 = as.reverse ++ va_rf r :: st) (h8 : st.length ≤ 4) (hd : decode mt.2.1 pc = .ok (.invokespecial index, 3)) (k : ∀ v M1, rec q (va_rf r :: as) M = some (v, M1) → Xe S G K l mt d (pc + 3) lo ((if (xmt q).2.2.2.isNone then [] else [v]) ++ st) M1 (f v M1)) : Xe S G K l mt d pc lo st0 M (vC (ci, N) M r ((rec q (va_rf r :: as) M).bind (fun x => f x.1 x.2))) := by
  subst hst0
  cases r with
  | none => exact x_none
  | some a =>
    unfold vC
    by_cases ha : M.2.2.2[a]? = some (ci, N)
    · simp only [if_pos ha]
      refine x_call hs (fun h hn9 {M1 r1 H locs cells slots ls} h1 h3 hq hmet hc1 hc2 => ?_) k
      have hB := x_callCN (c1 := M1.2.2.2.length - M.2.2.2.length) (s1 := tot M1.2.2.2 - tot M.2.2.2) h hn9 hm hl
      rw [hv] at hB
      exact va_Run.run (va_runIN (As := as.map (cv G)) (b := xtr G a) ⟨h.1, h.2.1, h.2.2.1, h.2.2.2.1, h.2.2.2.2.1⟩ hmet ⟨hB, hy, h.2.2.2.2.1 _ hin⟩ ⟨x_blind, fun U hU hW => ⟨rfl, by rw [hU]; exact h1, XE.warm hW h.2.2.2.2.2.2.2⟩⟩ rfl (by rw [List.length_map]; exact hlen) h3.1 (by simp [List.map_append, List.map_reverse, va_rf, cv]) (Nat.le_trans (Nat.add_le_add_left (st_cat _) _) (by simp [JFrame.monitorRoom]; omega)) hd ⟨hc1, hc2⟩)
    · simp only [if_neg ha]
      exact x_none
end XR7
