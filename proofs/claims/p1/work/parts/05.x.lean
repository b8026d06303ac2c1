section XR5
variable {S : XS} {G : XG} {K : Nat × Nat} {l : Launch} {mt : XMt} {d : Nat} {pc : Nat} {lo : List (Option Value)} {st : List Value} {M : Mem} {c : Option (Value × Mem)}
theorem mW_ast {M' : Mem} {H H' : Heap} (h : mW G M H) {a t n i : Nat} {v : Value} (ht : 100 ≤ t) (ht3 : t < 200) (ha : M.2.2.2[a]? = some (t, n)) (hk : M'.2.2.2 = M.2.2.2) (e1 : H'[xtr G a]? = some ((arrV (G.2.1 t) n (fun j => xv G M a t j)).setSlot i v)) (hs : H'.size = H.size) (ho : ∀ q, q ≠ xtr G a → H'[q]? = H[q]?)
    (hv : ∀ b j, b ≠ a → M'.1 b j = M.1 b j ∧ M'.2.1 b j = M.2.1 b j ∧ M'.2.2.1 b j = M.2.2.1 b j) (hx : ∀ j, xv G M' a t j = if j = i then v else xv G M a t j) : mW G M' H' := by
  refine mW_put h ha ht3 hk hs ho hv ⟨fun h9 => by omega, fun _ _ => ?_, fun _ => by omega⟩
  rw [e1, arrV_store]
  congr 2
  funext j
  rw [hx j]
  rfl
theorem hloc_app {locs : List Loc} {H : Heap} (hW : mW G M H) {a : Nat} {q : Nat × Nat} (hq3 : q.1 < 200) (ha : M.2.2.2[a]? = some q) (i : Nat) (h : ∀ q ∈ locs, G.2.2.2.2 ≤ q.base) : ∀ q ∈ locs ++ [⟨xtr G a, i⟩], G.2.2.2.2 ≤ q.base := fun q hq => by
  rcases List.mem_append.mp hq with h9 | h9
  · exact h q h9
  · rw [List.mem_singleton.mp h9]
    show G.2.2.2.2 ≤ xtr G a
    rw [(mW_lt hW ha hq3).2.2]
    omega
theorem x_iast {r : Option Nat} {i v : Int32} {f : Mem → XA} (hd : decode mt.2.1 pc = .ok (.iastore, 1)) (k : ∀ M', Xe S G K l mt d (pc + 1) lo st M' (f M')) : Xe S G K l mt d pc lo (.int v :: .int i :: va_rf r :: st) M (asI 100 M r i v f) := by
  cases r with
  | none => exact x_none
  | some a =>
    unfold asI
    by_cases ha : inAb M a 100 i = true
    · simp only [if_pos ha]
      obtain ⟨n, h9, hi⟩ := inA_of ha
      refine fun r M' e => ⟨(k _ r M' e).1, fun h hn9 a1 b d9 f9 H locs ls h1 h2 h3 => ?_⟩
      refine W.iast h.1 h.2.1 (mW_arr h1 (by decide) (by decide) h9) ((h.2.2.2.2.2.2.2.1.2 0 _ rfl).1 _ _) (fun q => by cases q) (by rw [arrV_size]; exact hi) rfl rfl hd fun H' e1 e2 e3 => ?_
      exact (k _ r M' e).2 h hn9 a1 b d9 f9 H' _ ls (mW_ast h1 (by decide) (by decide) h9 rfl e1 e2 e3 sI_off (fun j => xv_sI (xkk_a (by decide)))) (hloc_app h1 (by simp) h9 _ h2) h3
    · simp only [if_neg ha]
      exact x_none
theorem x_bast {r : Option Nat} {i v : Int32} {f : Mem → XA} (hd : decode mt.2.1 pc = .ok (.bastore, 1)) (k : ∀ M', Xe S G K l mt d (pc + 1) lo st M' (f M')) : Xe S G K l mt d pc lo (.int v :: .int i :: va_rf r :: st) M (asI 101 M r i v.toInt8.toInt32 f) := by
  cases r with
  | none => exact x_none
  | some a =>
    unfold asI
    by_cases ha : inAb M a 101 i = true
    · simp only [if_pos ha]
      obtain ⟨n, h9, hi⟩ := inA_of ha
      refine fun r M' e => ⟨(k _ r M' e).1, fun h hn9 a1 b d9 f9 H locs ls h1 h2 h3 => ?_⟩
      refine W.bast h.1 h.2.1 (mW_arr h1 (by decide) (by decide) h9) ((h.2.2.2.2.2.2.2.1.2 1 _ rfl).1 _ _) (fun q => by cases q) (by rw [arrV_size]; exact hi) rfl rfl hd fun H' e1 e2 e3 => ?_
      exact (k _ r M' e).2 h hn9 a1 b d9 f9 H' _ ls (mW_ast h1 (by decide) (by decide) h9 rfl e1 e2 e3 sI_off (fun j => xv_sI (xkk_a (by decide)))) (hloc_app h1 (by simp) h9 _ h2) h3
    · simp only [if_neg ha]
      exact x_none
theorem x_sast {r : Option Nat} {i v : Int32} {f : Mem → XA} (hd : decode mt.2.1 pc = .ok (.sastore, 1)) (k : ∀ M', Xe S G K l mt d (pc + 1) lo st M' (f M')) : Xe S G K l mt d pc lo (.int v :: .int i :: va_rf r :: st) M (asI 103 M r i v.toInt16.toInt32 f) := by
  cases r with
  | none => exact x_none
  | some a =>
    unfold asI
    by_cases ha : inAb M a 103 i = true
    · simp only [if_pos ha]
      obtain ⟨n, h9, hi⟩ := inA_of ha
      refine fun r M' e => ⟨(k _ r M' e).1, fun h hn9 a1 b d9 f9 H locs ls h1 h2 h3 => ?_⟩
      refine W.sast h.1 h.2.1 (mW_arr h1 (by decide) (by decide) h9) ((h.2.2.2.2.2.2.2.1.2 3 _ rfl).1 _ _) (fun q => by cases q) (by rw [arrV_size]; exact hi) rfl rfl hd fun H' e1 e2 e3 => ?_
      exact (k _ r M' e).2 h hn9 a1 b d9 f9 H' _ ls (mW_ast h1 (by decide) (by decide) h9 rfl e1 e2 e3 sI_off (fun j => xv_sI (xkk_a (by decide)))) (hloc_app h1 (by simp) h9 _ h2) h3
    · simp only [if_neg ha]
      exact x_none
def znar (v : Int32) : Int32 := v &&& 1
theorem znar_ok (v : Int32) : narrow .boolean (.int v) = .int (znar v) := rfl
theorem x_zast {r : Option Nat} {i v : Int32} {f : Mem → XA} (hd : decode mt.2.1 pc = .ok (.bastore, 1)) (k : ∀ M', Xe S G K l mt d (pc + 1) lo st M' (f M')) : Xe S G K l mt d pc lo (.int v :: .int i :: va_rf r :: st) M (asI 102 M r i (znar v) f) := by
  cases r with
  | none => exact x_none
  | some a =>
    unfold asI
    by_cases ha : inAb M a 102 i = true
    · simp only [if_pos ha]
      obtain ⟨n, h9, hi⟩ := inA_of ha
      refine fun r M' e => ⟨(k _ r M' e).1, fun h hn9 a1 b d9 f9 H locs ls h1 h2 h3 => ?_⟩
      refine W.zast h.1 h.2.1 (mW_arr h1 (by decide) (by decide) h9) ((h.2.2.2.2.2.2.2.1.2 2 _ rfl).1 _ _) (fun q => by cases q) (by rw [arrV_size]; exact hi) rfl rfl hd fun H' e1 e2 e3 => ?_
      exact (k _ r M' e).2 h hn9 a1 b d9 f9 H' _ ls (mW_ast h1 (by decide) (by decide) h9 rfl e1 e2 e3 sI_off (fun j => xv_sI (xkk_a (by decide)))) (hloc_app h1 (by simp) h9 _ h2) h3
    · simp only [if_neg ha]
      exact x_none
theorem x_last {r : Option Nat} {i : Int32} {v : Int64} {f : Mem → XA} (hd : decode mt.2.1 pc = .ok (.lastore, 1)) (k : ∀ M', Xe S G K l mt d (pc + 1) lo st M' (f M')) : Xe S G K l mt d pc lo (.long v :: .int i :: va_rf r :: st) M (asL M r i v f) := by
  cases r with
  | none => exact x_none
  | some a =>
    unfold asL
    by_cases ha : inAb M a 104 i = true
    · simp only [if_pos ha]
      obtain ⟨n, h9, hi⟩ := inA_of ha
      refine fun r M' e => ⟨(k _ r M' e).1, fun h hn9 a1 b d9 f9 H locs ls h1 h2 h3 => ?_⟩
      refine W.last h.1 h.2.1 (mW_arr h1 (by decide) (by decide) h9) ((h.2.2.2.2.2.2.2.1.2 4 _ rfl).1 _ _) (fun q => by cases q) (by rw [arrV_size]; exact hi) rfl rfl hd fun H' e1 e2 e3 => ?_
      exact (k _ r M' e).2 h hn9 a1 b d9 f9 H' _ ls (mW_ast h1 (by decide) (by decide) h9 rfl e1 e2 e3 sL_off (fun j => xv_sL (xkk_a (by decide)))) (hloc_app h1 (by simp) h9 _ h2) h3
    · simp only [if_neg ha]
      exact x_none
/-! new cells -/
theorem pfx_len {A B : List (Nat × Nat)} (h : A <+: B) : A.length ≤ B.length := h.length_le
theorem pfx_tot {A B : List (Nat × Nat)} (h : A <+: B) : tot A ≤ tot B := by
  obtain ⟨T, rfl⟩ := h
  simp [tot]
theorem tot_app (A : List (Nat × Nat)) (t n : Nat) : tot (A ++ [(t, n)]) = tot A + n := by simp [tot]
theorem mW_new {H H1 : Heap} (h : mW G M H) {t n : Nat} (ht3 : t < 200) (hs : H1.size = H.size + 1) (ho : ∀ q, q < H.size → H1[q]? = H[q]?) (hc : cO G (nw M t n) M.2.2.2.length t n H1) : mW G (nw M t n) H1 := by
  obtain ⟨⟨h1, h2⟩, h3, h4, h5⟩ := h
  have hl : (nw M t n).2.2.2.length = M.2.2.2.length + 1 := by simp [nw]
  have key : ∀ a u m, (nw M t n).2.2.2[a]? = some (u, m) → (a < M.2.2.2.length ∧ M.2.2.2[a]? = some (u, m)) ∨ (a = M.2.2.2.length ∧ (t, n) = (u, m)) := fun a u m ha => by
    by_cases e : a < M.2.2.2.length
    · left
      refine ⟨e, ?_⟩
      rw [← ha]
      show _ = (M.2.2.2 ++ [(t, n)])[a]?
      rw [List.getElem?_append_left e]
    · right
      have e2 : a = M.2.2.2.length := by
        have h9 := (List.getElem?_eq_some_iff.mp ha).1
        omega
      subst e2
      have h9 : (M.2.2.2 ++ [(t, n)])[M.2.2.2.length]? = some (u, m) := ha
      exact ⟨rfl, by simpa using h9⟩
  refine ⟨⟨by rw [hs, hl]; omega, by rw [hl]; omega⟩, fun q hq => by rw [ho q (by omega)]; exact h3 q hq, fun a u m ha => ?_, fun a u m ha => ?_⟩
  · rcases key a u m ha with ⟨e, ha'⟩ | ⟨rfl, e⟩
    · have hx : ∀ j, xv G (nw M t n) a u j = xv G M a u j := fun j => by
        have hne : a ≠ M.2.2.2.length := by omega
        unfold xv
        simp [nw, clr, hne]
      have hq : u ≠ 220 → xtr G a < H.size := fun hu => by
        rcases Nat.lt_or_ge a 64 with h9 | h9
        · rw [xtr_old h9]
          have := (((h5 a u m ha').1 h9).2 hu).2
          omega
        · rw [xtr_new h9]; omega
      obtain ⟨g1, g2, g3⟩ := h4 a u m ha'
      refine ⟨fun hu => t_OB.to ((g1 hu).kept (ho _ (hq (by omega)))) (fun j _ => (hx j).symm), fun hu hu2 => ?_, fun hu hu2 => ?_⟩
      · rw [ho _ (hq (by omega)), g2 hu hu2, show (fun j => xv G M a u j) = fun j => xv G (nw M t n) a u j from funext fun j => (hx j).symm]
      · obtain ⟨cell, c1, c2⟩ := g3 hu hu2
        exact ⟨cell, by rw [ho _ (hq hu2)]; exact c1, fun j hj => by rw [hx j]; exact c2 j hj⟩
    · cases e
      exact hc
  · rcases key a u m ha with ⟨e, ha'⟩ | ⟨rfl, e⟩
    · exact h5 a u m ha'
    · cases e
      exact ⟨fun h9 => by omega, fun _ => ht3⟩
theorem xv_nw {t n u j : Nat} : xv G (nw M t n) M.2.2.2.length u j = if xkk u j = 0 then .int 0 else if xkk u j = 1 then .long 0 else .null := by
  unfold xv
  simp [nw, clr, va_rf]
/-- the value that a new slot has -/
def xdef (ty : FieldType) : Nat := match ty with
  | .long => 1
  | .float => 3
  | .double => 3
  | .object _ => 2
  | .array _ => 2
  | _ => 0
theorem xdef_ok {ty : FieldType} {d : Nat} (h : xdef ty = d) (hd : d < 3) : defaultValue ty = if d = 0 then .int 0 else if d = 1 then .long 0 else .null := by
  subst h
  cases ty <;> first | rfl | (simp [xdef] at hd)
theorem x_nO {ci N index : Nat} {C : String} {T : u_T} {ty : Nat → FieldType} {f : Option Nat → Mem → XA} (hc : XCi ci C T N ty) (hdf : ∀ j, j < N → xdef (ty j) = xkd (T j).2.2.1) (hcl : Cond.classLink mt.1.cls index C ∈ xbig) (hin : Cond.instantiable C N ∈ xbig) (hini : Cond.initialized C ∈ xbig) (hd : decode mt.2.1 pc = .ok (.new index, 3)) (k : ∀ r M', Xe S G K l mt d (pc + 3) lo (va_rf r :: st) M' (f r M')) : Xe S G K l mt d pc lo st M (nO (ci, N) M f) := by
  unfold nO
  refine fun r M' e => ?_
  obtain ⟨hp, kk⟩ := k _ _ r M' e
  have hp0 : M.2.2.2 <+: M'.2.2.2 := List.IsPrefix.trans ⟨[(ci, N)], rfl⟩ hp
  refine ⟨hp0, fun h hn9 a1 b d9 f9 H locs ls h1 h2 h3 => ?_⟩
  have hlen := pfx_len hp
  have htot := pfx_tot hp
  have et : tot (nw M ci N).2.2.2 = tot M.2.2.2 + N := tot_app _ _ _
  have el : (nw M ci N).2.2.2.length = M.2.2.2.length + 1 := by simp [nw]
  obtain ⟨c1, c2, c3, c4, c5⟩ := hc
  have hKn := h.2.2.2.2.2.2.2.1.1 ci _ c1
  have et' : tot (nw M (ci, N).1 (ci, N).2).2.2.2 = tot M.2.2.2 + N := et
  have el' : (nw M (ci, N).1 (ci, N).2).2.2.2.length = M.2.2.2.length + 1 := el
  have ea : xtr G M.2.2.2.length = H.size := by rw [xtr_new h1.1.2]; have := h1.1.1; have := h1.1.2; omega
  refine W.newcK h.1 h.2.1 h.2.2.2.1 (h.2.2.2.2.1 _ hcl) (h.2.2.2.2.1 _ hin) (h.2.2.2.2.1 _ hini) rfl hd (by omega) (by omega) hKn.2.1 rfl fun H1 kC hkC e1 z1 o1 => ?_
  have := kk h hn9 (by omega) (by omega) d9 f9 H1 locs ls (mW_new h1 (by show ci < 200; omega) z1 o1 ⟨fun _ => ?_, fun q => absurd c5 q, fun q => by have q2 : 200 ≤ ci := q; omega⟩) h2 h3
  · rw [el', et'] at this
    rw [show M.2.2.2.length - K.1 + 1 = M.2.2.2.length + 1 - K.1 by omega, show tot M.2.2.2 - K.2 + N = tot M.2.2.2 + N - K.2 by omega]
    rw [← ea]
    exact this
  · rw [ea]
    refine t_OB.to (u_born ty h.2.2.2.2.1 c2 hKn hkC e1 c3) (fun j hj => ?_)
    show _ = xv G (nw M ci N) M.2.2.2.length ci j
    have h4 : xkd (T j).2.2.1 < 3 := by unfold xkd; split <;> decide
    rw [xv_nw, xkk_c ⟨c1, c2, c3, c4, c5⟩, xdef_ok (hdf j hj) h4]
end XR5
