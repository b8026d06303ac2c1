section XR6
variable {S : XS} {G : XG} {K : Nat × Nat} {l : Launch} {mt : XMt} {d : Nat} {pc : Nat} {lo : List (Option Value)} {st : List Value} {M : Mem} {c : Option (Value × Mem)}
theorem x_nApre {t : Nat} {n : Int32} {c9 : Nat} {f : Option Nat → Mem → XA} (ht : 100 ≤ t) (ht3 : t < 200) (hrow : XO S G mt → ∀ {H : Heap} {locs : List Loc} {ls : Array Slot} {cells slots : Nat} {Q : State → Prop}, ¬ n < 0 → n.toNatClampNeg ≤ 100000 → cells + 1 ≤ S.2.2.2.1.cells → slots + n.toNatClampNeg ≤ S.2.2.2.1.slots → XW S (H.push (arrV (G.2.1 t) n.toNatClampNeg (fun _ => if xkk t 0 = 0 then .int 0 else if xkk t 0 = 1 then .long 0 else .null))) locs (cells + 1) (slots + n.toNatClampNeg) Q (F0 S.2.2.2.2.2.1 (pc + c9) ls (.ref H.size :: st.map (cv G))) → XW S H locs cells slots Q (F0 S.2.2.2.2.2.1 pc ls (.int n :: st.map (cv G)))) (k : ∀ r M', Xe S G K l mt d (pc + c9) lo (va_rf r :: st) M' (f r M')) : Xe S G K l mt d pc lo (.int n :: st) M (nA t M n f) := by
  unfold nA
  by_cases hl : ¬ n < 0 ∧ n.toNatClampNeg ≤ 100000
  · rw [if_pos hl]
    refine fun r M' e => ?_
    obtain ⟨hp, kk⟩ := k _ _ r M' e
    have hp0 : M.2.2.2 <+: M'.2.2.2 := List.IsPrefix.trans ⟨[(t, n.toNatClampNeg)], rfl⟩ hp
    refine ⟨hp0, fun h hn9 a1 b d9 f9 H locs ls h1 h2 h3 => ?_⟩
    have hlen := pfx_len hp
    have htot := pfx_tot hp
    have et : tot (nw M t n.toNatClampNeg).2.2.2 = tot M.2.2.2 + n.toNatClampNeg := tot_app _ _ _
    have el : (nw M t n.toNatClampNeg).2.2.2.length = M.2.2.2.length + 1 := by simp [nw]
    have ea : xtr G M.2.2.2.length = H.size := by rw [xtr_new h1.1.2]; have := h1.1.1; have := h1.1.2; omega
    refine hrow h hl.1 hl.2 (by omega) (by omega) ?_
    have := kk h hn9 (by omega) (by omega) d9 f9 (H.push (arrV (G.2.1 t) n.toNatClampNeg (fun _ => if xkk t 0 = 0 then .int 0 else if xkk t 0 = 1 then .long 0 else .null))) locs ls (mW_new h1 ht3 (by simp) (fun q hq => by rw [Array.getElem?_push, if_neg (Nat.ne_of_lt hq)]) ⟨fun h9 => by omega, fun _ _ => ?_, fun h9 => by omega⟩) h2 h3
    · rw [el, et] at this
      rw [show M.2.2.2.length - K.1 + 1 = M.2.2.2.length + 1 - K.1 by omega, show tot M.2.2.2 - K.2 + n.toNatClampNeg = tot M.2.2.2 + n.toNatClampNeg - K.2 by omega]
      rw [← ea]
      exact this
    · rw [ea]
      simp only [Array.getElem?_push, if_true]
      congr 2
      funext j
      rw [xv_nw]
      simp only [xkk_a ht]
  · rw [if_neg hl]
    exact x_none
theorem x_newa {t tn : Nat} {aty : ArrayType} {ft : FieldType} {n : Int32} {f : Option Nat → Mem → XA} (ht : 100 ≤ t) (ht3 : t < 200) (hft : newarray.typeOf aty = ft) (htn : (xtys G.2.1)[tn]? = some (G.2.1 t, ft)) (hw : Cond.arrayClass ft ∈ xbig) (hcb : componentBytes ft ≤ 8) (hdv : defaultValue ft = if xkk t 0 = 0 then .int 0 else if xkk t 0 = 1 then .long 0 else .null) (hra : ∀ U cA, va_RA U cA ft → U.vm.findClass ("[" ++ ft.toString) = some cA) (hd : decode mt.2.1 pc = .ok (.newarray aty, 2)) (k : ∀ r M', Xe S G K l mt d (pc + 2) lo (va_rf r :: st) M' (f r M')) : Xe S G K l mt d pc lo (.int n :: st) M (nA t M n f) := by
  subst hft
  refine x_nApre (c9 := 2) ht ht3 (fun h {H locs ls cells slots Q} hn hm hc hs w => ?_) k
  refine W.newa h.1 h.2.1 (h.2.2.2.2.1 _ hw) rfl hd rfl hn (Nat.le_trans (Nat.mul_le_mul hm hcb) (by decide)) hc hs fun cA kA comp f1 f2 f3 => ?_
  have := hra _ _ (h.2.2.2.2.2.2.2.1.2 tn _ htn).2
  cases f1.symm.trans this
  rw [arrV_new, hdv]
  exact w
theorem x_newq {t tn index : Nat} {C : String} {n : Int32} {f : Option Nat → Mem → XA} (ht : 105 ≤ t) (ht3 : t < 200) (htn : (xtys G.2.1)[tn]? = some (G.2.1 t, .object C)) (hcl : Cond.classLink mt.1.cls index C ∈ xbig) (hov : ∀ U, XE G U → va_AO C U) (hd : decode mt.2.1 pc = .ok (.anewarray index, 3)) (k : ∀ r M', Xe S G K l mt d (pc + 3) lo (va_rf r :: st) M' (f r M')) : Xe S G K l mt d pc lo (.int n :: st) M (nA t M n f) := by
  have hk : xkk t 0 = 2 := by rw [xkk_a (by omega), ta_lo ht3, if_neg (by omega), if_neg (by omega)]
  refine x_nApre (c9 := 3) (by omega) ht3 (fun h {H locs ls cells slots Q} hn hm hc hs w => ?_) k
  refine W.anew h.1 h.2.1 h.2.2.2.1 (h.2.2.2.2.1 _ hcl) (va_AO.use (hov _ h.2.2.2.2.2.2.2)) rfl hd rfl hn (Nat.le_trans (Nat.mul_le_mul_right 4 hm) (by decide)) hc hs fun cA kA comp f1 f2 f3 f4 => ?_
  obtain ⟨kA', comp', q1, q2, q3, q4⟩ := (h.2.2.2.2.2.2.2.1.2 tn _ htn).2
  cases f1.symm.trans q4
  rw [arrV_new]
  rw [hk, if_neg (by decide), if_neg (by decide)] at w
  exact w
/-- the length of an array; the empty row of a new list is told from what stood before -/
def aln (M : Mem) (r : Option Nat) (k : Int32 → XA) : XA := match r with
  | none => none
  | some a => match M.2.2.2[a]? with
    | none => none
    | some q => if (100 ≤ q.1 ∧ (q.1 ≤ 104 ∨ 110 ≤ q.1 ∧ q.1 ≤ 114)) ∨ (200 ≤ q.1 ∧ q.1 ≠ 220) then k (nI q.2) else none
theorem xtys_all {AC : Nat → ClassId} {t : Nat} (h : 100 ≤ t ∧ (t ≤ 104 ∨ 110 ≤ t ∧ t ≤ 114)) : ∃ (tn : Nat) (ft : FieldType), (xtys AC)[tn]? = some (AC t, ft) := by
  have : t = 100 ∨ t = 101 ∨ t = 102 ∨ t = 103 ∨ t = 104 ∨ t = 110 ∨ t = 111 ∨ t = 112 ∨ t = 113 ∨ t = 114 := by omega
  rcases this with rfl | rfl | rfl | rfl | rfl | rfl | rfl | rfl | rfl | rfl
  · exact ⟨0, _, rfl⟩
  · exact ⟨1, _, rfl⟩
  · exact ⟨2, _, rfl⟩
  · exact ⟨3, _, rfl⟩
  · exact ⟨4, _, rfl⟩
  · exact ⟨5, _, rfl⟩
  · exact ⟨6, _, rfl⟩
  · exact ⟨7, _, rfl⟩
  · exact ⟨8, _, rfl⟩
  · exact ⟨9, _, rfl⟩
theorem x_alen {r : Option Nat} {f : Int32 → XA} (hd : decode mt.2.1 pc = .ok (.arraylength, 1)) (k : ∀ x, Xe S G K l mt d (pc + 1) lo (.int x :: st) M (f x)) : Xe S G K l mt d pc lo (va_rf r :: st) M (aln M r f) := by
  cases r with
  | none => exact x_none
  | some a =>
    unfold aln
    cases ha : M.2.2.2[a]? with
    | none => simp only [ha]; exact x_none
    | some q =>
      obtain ⟨t, n⟩ := q
      simp only [ha]
      by_cases ht : (100 ≤ t ∧ (t ≤ 104 ∨ 110 ≤ t ∧ t ≤ 114)) ∨ (200 ≤ t ∧ t ≠ 220)
      · rw [if_pos ht]
        rcases ht with ht | ht
        · obtain ⟨tn, ft, htn⟩ := xtys_all (AC := G.2.1) ht
          exact fun r M' e => ⟨(k _ r M' e).1, fun h hn9 a1 b d9 f9 H locs ls h1 h2 h3 => W.alen h.1 h.2.1 (mW_arr h1 ht.1 (by omega) ha) ((h.2.2.2.2.2.2.2.1.2 tn _ htn).1 _ _) (by rw [arrV_size]; rfl) rfl rfl hd ((k (nI n) r M' e).2 h hn9 a1 b d9 f9 H locs ls h1 h2 h3)⟩
        · refine fun r M' e => ⟨(k _ r M' e).1, fun h hn9 a1 b d9 f9 H locs ls h1 h2 h3 => ?_⟩
          obtain ⟨cell, c1, c2, c3, c4, c5, c6⟩ := mW_old h.2.2.2.2.2.2.2.2 h1 ht.1 ht.2 ha
          exact W.alen h.1 h.2.1 c1 c2 c5 rfl rfl hd ((k (nI n) r M' e).2 h hn9 a1 b d9 f9 H locs ls h1 h2 h3)
      · rw [if_neg ht]
        exact x_none
/-- a known class's object -/
theorem mW_obj {U : State} (h : va_K G.1 vwCl (xtys G.2.1) U) {H : Heap} (hW : mW G M H) {ci N a : Nat} {C : String} {T : u_T} {ty : Nat → FieldType} (hc : XCi ci C T N ty) (ha : M.2.2.2[a]? = some (ci, N)) : ∃ cell : Cell, H[xtr G a]? = some cell ∧ cell.vm.isStatics = false ∧ U.vm.findClass C = some cell.cls := by
  obtain ⟨cell, q1, q2, q3, -⟩ := (hW.2.2.1 a ci N ha).1 hc.2.2.2.2
  exact ⟨cell, q1, by rw [q3]; rfl, by rw [q2]; exact (h.1 ci _ hc.1).2.1⟩
end XR6
