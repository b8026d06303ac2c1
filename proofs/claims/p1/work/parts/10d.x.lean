section XR14
variable {S : XS} {G : XG} {K : Nat × Nat} {l : Launch} {mt : XMt} {d : Nat} {pc : Nat} {lo : List (Option Value)} {st : List Value} {M : Mem} {c : Option (Value × Mem)} {rec : Nat → List Value → Mem → XA} {xmt : Nat → XMt}
theorem nwAA_at {t ti n k a u m : Nat} (ha : (nwAA M t ti n k).2.2.2[a]? = some (u, m)) : (a < M.2.2.2.length ∧ M.2.2.2[a]? = some (u, m)) ∨ (a = M.2.2.2.length ∧ (t, n) = (u, m)) ∨ (∃ i, i < n ∧ a = M.2.2.2.length + 1 + i ∧ (ti, k) = (u, m)) := by
  have ha : (M.2.2.2 ++ (t, n) :: List.replicate n (ti, k))[a]? = some (u, m) := ha
  rcases Nat.lt_trichotomy a M.2.2.2.length with e | e | e
  · left
    rw [List.getElem?_append_left e] at ha
    exact ⟨e, ha⟩
  · right; left
    subst e
    exact ⟨rfl, by simpa using ha⟩
  · right; right
    rw [List.getElem?_append_right (by omega)] at ha
    obtain ⟨i, hi⟩ : ∃ i, a = M.2.2.2.length + 1 + i := ⟨a - M.2.2.2.length - 1, by omega⟩
    subst hi
    rw [show M.2.2.2.length + 1 + i - M.2.2.2.length = i + 1 by omega, List.getElem?_cons_succ] at ha
    have h9 := (List.getElem?_eq_some_iff.mp ha).1
    rw [List.length_replicate] at h9
    rw [List.getElem?_replicate, if_pos h9] at ha
    exact ⟨i, h9, rfl, by simpa using ha⟩
theorem mW_nwAA {H H1 : Heap} (h : mW G M H) {t ti n k : Nat} {dv : Value} (ht : 105 ≤ t) (ht3 : t < 200) (hti : 100 ≤ ti) (hti3 : ti < 105) (hdv : dv = if xkk ti 0 = 0 then .int 0 else if xkk ti 0 = 1 then .long 0 else .null) (hs : H1.size = H.size + 1 + n) (ho : ∀ x, x < H.size → H1[x]? = H[x]?) (h1 : H1[H.size]? = some (arrV (G.2.1 t) n (fun j => va_rf (if j < n then some (H.size + 1 + j) else none)))) (h2 : ∀ j, j < n → H1[H.size + 1 + j]? = some (arrV (G.2.1 ti) k (fun _ => dv))) : mW G (nwAA M t ti n k) H1 := by
  obtain ⟨⟨q1, q2⟩, q3, q4, q5⟩ := h
  have hl : (nwAA M t ti n k).2.2.2.length = M.2.2.2.length + 1 + n := by simp [nwAA]; omega
  have hH : H.size = G.2.2.2.2 + (M.2.2.2.length - 64) := by omega
  refine ⟨⟨by rw [hs, hl]; omega, by rw [hl]; omega⟩, fun q hq => by rw [ho q (by omega)]; exact q3 q hq, fun a u m ha => ?_, fun a u m ha => ?_⟩
  · rcases nwAA_at ha with ⟨e, ha'⟩ | ⟨rfl, e⟩ | ⟨i, hi, rfl, e⟩
    · have hx : ∀ j, xv G (nwAA M t ti n k) a u j = xv G M a u j := fun j => by
        unfold xv
        simp [nwAA, e]
      have hq : u ≠ 220 → xtr G a < H.size := fun hu => by
        rcases Nat.lt_or_ge a 64 with h9 | h9
        · rw [xtr_old h9]
          have := (((q5 a u m ha').1 h9).2 hu).2
          omega
        · rw [xtr_new h9]; omega
      obtain ⟨g1, g2, g3⟩ := q4 a u m ha'
      refine ⟨fun hu => t_OB.to ((g1 hu).kept (ho _ (hq (by omega)))) (fun j _ => (hx j).symm), fun hu hu2 => ?_, fun hu hu2 => ?_⟩
      · rw [ho _ (hq (by omega)), g2 hu hu2, show (fun j => xv G M a u j) = fun j => xv G (nwAA M t ti n k) a u j from funext fun j => (hx j).symm]
      · obtain ⟨cell, c1, c2⟩ := g3 hu hu2
        exact ⟨cell, by rw [ho _ (hq hu2)]; exact c1, fun j hj => by rw [hx j]; exact c2 j hj⟩
    · cases e
      refine ⟨fun h9 => by omega, fun _ _ => ?_, fun h9 => by omega⟩
      rw [xtr_new q2, ← hH, h1]
      congr 2
      funext j
      rw [xv_P (by rw [xkk_a (by omega), ta_lo ht3, if_neg (by omega), if_neg (by omega)])]
      simp only [nwAA, Nat.lt_irrefl, if_false, if_true]
      by_cases hj : j < n
      · rw [if_pos hj, if_pos hj]
        show _ = va_rf (some (xtr G (M.2.2.2.length + 1 + j)))
        rw [xtr_new (by omega)]
        congr 2
        omega
      · rw [if_neg hj, if_neg hj]
        rfl
    · cases e
      refine ⟨fun h9 => by omega, fun _ _ => ?_, fun h9 => by omega⟩
      rw [xtr_new (by omega), show G.2.2.2.2 + (M.2.2.2.length + 1 + i - 64) = H.size + 1 + i by omega, h2 i hi]
      congr 2
      funext j
      rw [hdv]
      unfold xv
      rw [xkk_a hti, xkk_a hti]
      have g1 : ¬ M.2.2.2.length + 1 + i < M.2.2.2.length := by omega
      have g2 : ¬ M.2.2.2.length + 1 + i = M.2.2.2.length := by omega
      simp only [nwAA, if_neg g1, if_neg g2]
      rfl
  · rcases nwAA_at ha with ⟨e, ha'⟩ | ⟨rfl, e⟩ | ⟨i, hi, rfl, e⟩
    · exact q5 a u m ha'
    · cases e
      exact ⟨fun h9 => by omega, fun _ => ht3⟩
    · cases e
      exact ⟨fun h9 => by omega, fun _ => by omega⟩
theorem tot_rep (A : List (Nat × Nat)) (t n ti k : Nat) : tot (A ++ (t, n) :: List.replicate n (ti, k)) = tot A + (n + n * k) := by simp [tot]
theorem x_mna {t ti tn tin index : Nat} {ty : FieldType} (ht : 105 ≤ t) (ht3 : t < 200) (hti : 100 ≤ ti) (hti3 : ti < 105) (htn : (xtys G.2.1)[tn]? = some (G.2.1 t, .array ty)) (htin : (xtys G.2.1)[tin]? = some (G.2.1 ti, ty)) (hcl : Cond.classLink mt.1.cls index ("[" ++ (FieldType.array ty).toString) ∈ xbig) (hov : ∀ U, XE G U → va_B (.arrayOver (.array ty)) U) (hw : Cond.arrayClass ty ∈ xbig)
    (hra : ∀ U cA, va_RA U cA ty → U.vm.findClass (FieldType.array ty).toString = some cA) (hra2 : ∀ U cA, va_RA U cA (.array ty) → U.vm.findClass ("[" ++ (FieldType.array ty).toString) = some cA) (hcb : componentBytes ty ≤ 8) (hdf : fits ty (defaultValue ty) = true) (hdd : (defaultValue ty).isDefault = true) (hdv : defaultValue ty = if xkk ti 0 = 0 then .int 0 else if xkk ti 0 = 1 then .long 0 else .null)
    (hd : decode mt.2.1 pc = .ok (.multianewarray index 2, 4)) {n k : Int32} {f : Option Nat → Mem → XA} (kk : ∀ r M', Xe S G K l mt d (pc + 4) lo (va_rf r :: st) M' (f r M')) : Xe S G K l mt d pc lo (.int k :: .int n :: st) M (nAA t ti M n k f) := by
  unfold nAA
  by_cases hc : ¬ n < 0 ∧ ¬ k < 0 ∧ n.toNatClampNeg ≤ 100000 ∧ k.toNatClampNeg ≤ 100000
  · rw [if_pos hc]
    refine fun r M' e => ?_
    obtain ⟨hp, k9⟩ := kk _ _ r M' e
    have hp0 : M.2.2.2 <+: M'.2.2.2 := List.IsPrefix.trans ⟨(t, n.toNatClampNeg) :: List.replicate n.toNatClampNeg (ti, k.toNatClampNeg), rfl⟩ hp
    refine ⟨hp0, fun h hn9 a1 b d9 f9 H locs ls h1 h2 h3 => ?_⟩
    have hlen := pfx_len hp
    have htot := pfx_tot hp
    have et : tot (nwAA M t ti n.toNatClampNeg k.toNatClampNeg).2.2.2 = tot M.2.2.2 + (n.toNatClampNeg + n.toNatClampNeg * k.toNatClampNeg) := tot_rep _ _ _ _ _
    have el : (nwAA M t ti n.toNatClampNeg k.toNatClampNeg).2.2.2.length = M.2.2.2.length + 1 + n.toNatClampNeg := by simp [nwAA]; omega
    have ea : xtr G M.2.2.2.length = H.size := by rw [xtr_new h1.1.2]; have := h1.1.1; have := h1.1.2; omega
    refine xw_mna (z := fun _ => defaultValue ty) h.1 h.2.1 h.2.2.2.1 (h.2.2.2.2.1 _ hcl) (va_B.use (hov _ h.2.2.2.2.2.2.2)) (h.2.2.2.2.1 _ hw) (hra _ _ (h.2.2.2.2.2.2.2.1.2 tin _ htin).2) hc.1 hc.2.1 (by omega) (Nat.le_trans (Nat.mul_le_mul hc.2.2.2 hcb) (by decide)) (by omega) hdf hdd (by omega) (by omega) (fun c => arrV_new ..) hd fun cA H1 fA z1 o1 e1 e2 => ?_
    have hA : cA = G.2.1 t := by
      have := hra2 _ _ (h.2.2.2.2.2.2.2.1.2 tn _ htn).2
      exact Option.some.inj (fA.symm.trans this)
    subst hA
    have := k9 h hn9 (by omega) (by omega) d9 f9 H1 locs ls (mW_nwAA h1 ht ht3 hti hti3 hdv z1 o1 e1 e2) h2 h3
    rw [el, et] at this
    rw [show M.2.2.2.length - K.1 + 1 + n.toNatClampNeg = M.2.2.2.length + 1 + n.toNatClampNeg - K.1 by omega, show tot M.2.2.2 - K.2 + n.toNatClampNeg + n.toNatClampNeg * k.toNatClampNeg = tot M.2.2.2 + (n.toNatClampNeg + n.toNatClampNeg * k.toNatClampNeg) - K.2 by omega]
    rw [← ea]
    exact this
  · rw [if_neg hc]
    exact x_none
end XR14
section XR16
variable {S : XS} {G : XG} {K : Nat × Nat} {l : Launch} {mt : XMt} {d : Nat} {pc : Nat} {lo : List (Option Value)} {st : List Value} {M : Mem} {c : Option (Value × Mem)}
theorem x_mmax {index : Nat} {x y : Int32} {f : Int32 → XA} (hl : Cond.methodLink mt.1.cls index Lib.Math.max.name ∈ xbig) (hst : Cond.static Lib.Math.max.name ∈ xbig) (hini : Cond.initialized "java/lang/Math" ∈ xbig) (hco : Cond.code Lib.Math.max.name Lib.Math.max.code 2 (some .int) ∈ xbig) (h8 : st.length ≤ 4) (hd : decode mt.2.1 pc = .ok (.invokestatic index, 3)) (k : ∀ z, Xe S G K l mt d (pc + 3) lo (.int z :: st) M (f z)) : Xe S G K l mt d pc lo (.int y :: .int x :: st) M (lt (if x < y then y else x) f) := by
  refine fun r M' e => ⟨(k _ r M' e).1, fun h hn9 a1 b d9 f9 H locs ls h1 h2 h3 => ?_⟩
  have hs := st_cat (st.map (cv G))
  rw [List.length_map] at hs
  have h40 := hn9.2.2.2
  have hlen := pfx_len (k _ r M' e).1
  have htot := pfx_tot (k _ r M' e).1
  exact va_mmax h.1 h.2.1 (h.2.2.1.trans h3.1.symm) h.2.2.2.1 (h.2.2.2.2.1 _ hl) (h.2.2.2.2.1 _ hst) (h.2.2.2.2.1 _ hini) (h.2.2.2.2.1 _ hco) (by have := hn9.2.2.1; omega) (by omega) (by omega) (by omega) hd ((k _ r M' e).2 h hn9 a1 b d9 f9 H locs ls h1 h2 h3)
theorem x_mmin {index : Nat} {x y : Int32} {f : Int32 → XA} (hl : Cond.methodLink mt.1.cls index Lib.Math.min.name ∈ xbig) (hst : Cond.static Lib.Math.min.name ∈ xbig) (hini : Cond.initialized "java/lang/Math" ∈ xbig) (hco : Cond.code Lib.Math.min.name Lib.Math.min.code 2 (some .int) ∈ xbig) (h8 : st.length ≤ 4) (hd : decode mt.2.1 pc = .ok (.invokestatic index, 3)) (k : ∀ z, Xe S G K l mt d (pc + 3) lo (.int z :: st) M (f z)) : Xe S G K l mt d pc lo (.int y :: .int x :: st) M (lt (if y < x then y else x) f) := by
  refine fun r M' e => ⟨(k _ r M' e).1, fun h hn9 a1 b d9 f9 H locs ls h1 h2 h3 => ?_⟩
  have hs := st_cat (st.map (cv G))
  rw [List.length_map] at hs
  have h40 := hn9.2.2.2
  have hlen := pfx_len (k _ r M' e).1
  have htot := pfx_tot (k _ r M' e).1
  exact va_mmin h.1 h.2.1 (h.2.2.1.trans h3.1.symm) h.2.2.2.1 (h.2.2.2.2.1 _ hl) (h.2.2.2.2.1 _ hst) (h.2.2.2.2.1 _ hini) (h.2.2.2.2.1 _ hco) (by have := hn9.2.2.1; omega) (by omega) (by omega) (by omega) hd ((k _ r M' e).2 h hn9 a1 b d9 f9 H locs ls h1 h2 h3)
theorem x_mabs {index : Nat} {x : Int64} {f : Int64 → XA} (hl : Cond.methodLink mt.1.cls index Lib.MathLoose.abs_long.x ∈ xbig) (hst : Cond.static Lib.MathLoose.abs_long.x ∈ xbig) (hini : Cond.initialized "java/lang/Math" ∈ xbig) (hco : Cond.code Lib.MathLoose.abs_long.x Lib.MathLoose.abs_long.code 2 (some .long) ∈ xbig) (h8 : st.length ≤ 4) (hd : decode mt.2.1 pc = .ok (.invokestatic index, 3)) (k : ∀ z, Xe S G K l mt d (pc + 3) lo (.long z :: st) M (f z)) : Xe S G K l mt d pc lo (.long x :: st) M (lt (if 0 < x then x else -x) f) := by
  refine fun r M' e => ⟨(k _ r M' e).1, fun h hn9 a1 b d9 f9 H locs ls h1 h2 h3 => ?_⟩
  have hs := st_cat (st.map (cv G))
  rw [List.length_map] at hs
  have h40 := hn9.2.2.2
  have hlen := pfx_len (k _ r M' e).1
  have htot := pfx_tot (k _ r M' e).1
  exact va_mabs_long h.1 h.2.1 (h.2.2.1.trans h3.1.symm) h.2.2.2.1 (h.2.2.2.2.1 _ hl) (h.2.2.2.2.1 _ hst) (h.2.2.2.2.1 _ hini) (h.2.2.2.2.1 _ hco) (by have := hn9.2.2.1; omega) (by omega) (by omega) (by omega) hd ((k _ r M' e).2 h hn9 a1 b d9 f9 H locs ls h1 h2 h3)
end XR16
