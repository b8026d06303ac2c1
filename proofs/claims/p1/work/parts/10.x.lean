section XR10
variable {S : XS} {G : XG} {K : Nat × Nat} {l : Launch} {mt : XMt} {d : Nat} {pc : Nat} {lo : List (Option Value)} {st : List Value} {M : Mem} {c : Option (Value × Mem)} {rec : Nat → List Value → Mem → XA} {xmt : Nat → XMt}
theorem x_callS_I {n index q : Nat} {qt : XMt} {as st0 : List Value} {f : Int32 → Mem → XA} (hs : XSnd l xmt rec d) (hqt : xmt q = qt) (hm : XMi qt n) (hb : qt.2.2.2.isNone = false) (hl : Cond.methodLink mt.1.cls index qt.1 ∈ xbig) (hst : Cond.static qt.1 ∈ xbig) (hlen : as.length = n) (hst0 : st0 = as.reverse ++ st) (h8 : st.length ≤ 4) (hd : decode mt.2.1 pc = .ok (.invokestatic index, 3)) (k : ∀ x M1, Xe S G K l mt d (pc + 3) lo (.int x :: st) M1 (f x M1)) : Xe S G K l mt d pc lo st0 M (cI (rec q as M) f) := by
  subst hqt
  rw [cI_bind]
  exact x_callS hs hm hl hst hlen hst0 h8 hd (f := fun v M1 => _) (fun v M1 _ => k_I hb k v M1)
theorem x_callV_I {n index ci N q : Nat} {qt : XMt} {T : u_T} {ty : Nat → FieldType} {r : Option Nat} {as st0 : List Value} {f : Int32 → Mem → XA} (hs : XSnd l xmt rec d) (hqt : xmt q = qt) (hm : XMi qt n) (hci : XCi ci qt.1.cls T N ty) (hb : qt.2.2.2.isNone = false) (hl : Cond.methodLink mt.1.cls index qt.1 ∈ xbig) (hin : Cond.instanceMethod qt.1 ∈ xbig) (hse : Cond.selects qt.1.cls qt.1 qt.1 ∈ xbig) (hlen : as.length = n) (hst0 : st0 = as.reverse ++ va_rf r :: st) (h8 : st.length ≤ 4) (hd : decode mt.2.1 pc = .ok (.invokevirtual index, 3)) (k : ∀ x M1, Xe S G K l mt d (pc + 3) lo (.int x :: st) M1 (f x M1)) : Xe S G K l mt d pc lo st0 M (vC (ci, N) M r (cI (rec q (va_rf r :: as) M) f)) := by
  subst hqt
  rw [cI_bind]
  exact x_callV hs hm hci hl hin hse hlen hst0 h8 hd (f := fun v M1 => _) (fun v M1 _ => k_I hb k v M1)
theorem x_callS_L {n index q : Nat} {qt : XMt} {as st0 : List Value} {f : Int64 → Mem → XA} (hs : XSnd l xmt rec d) (hqt : xmt q = qt) (hm : XMi qt n) (hb : qt.2.2.2.isNone = false) (hl : Cond.methodLink mt.1.cls index qt.1 ∈ xbig) (hst : Cond.static qt.1 ∈ xbig) (hlen : as.length = n) (hst0 : st0 = as.reverse ++ st) (h8 : st.length ≤ 4) (hd : decode mt.2.1 pc = .ok (.invokestatic index, 3)) (k : ∀ x M1, Xe S G K l mt d (pc + 3) lo (.long x :: st) M1 (f x M1)) : Xe S G K l mt d pc lo st0 M (cL (rec q as M) f) := by
  subst hqt
  rw [cL_bind]
  exact x_callS hs hm hl hst hlen hst0 h8 hd (f := fun v M1 => _) (fun v M1 _ => k_L hb k v M1)
theorem x_callV_L {n index ci N q : Nat} {qt : XMt} {T : u_T} {ty : Nat → FieldType} {r : Option Nat} {as st0 : List Value} {f : Int64 → Mem → XA} (hs : XSnd l xmt rec d) (hqt : xmt q = qt) (hm : XMi qt n) (hci : XCi ci qt.1.cls T N ty) (hb : qt.2.2.2.isNone = false) (hl : Cond.methodLink mt.1.cls index qt.1 ∈ xbig) (hin : Cond.instanceMethod qt.1 ∈ xbig) (hse : Cond.selects qt.1.cls qt.1 qt.1 ∈ xbig) (hlen : as.length = n) (hst0 : st0 = as.reverse ++ va_rf r :: st) (h8 : st.length ≤ 4) (hd : decode mt.2.1 pc = .ok (.invokevirtual index, 3)) (k : ∀ x M1, Xe S G K l mt d (pc + 3) lo (.long x :: st) M1 (f x M1)) : Xe S G K l mt d pc lo st0 M (vC (ci, N) M r (cL (rec q (va_rf r :: as) M) f)) := by
  subst hqt
  rw [cL_bind]
  exact x_callV hs hm hci hl hin hse hlen hst0 h8 hd (f := fun v M1 => _) (fun v M1 _ => k_L hb k v M1)
theorem x_callS_P {n index q : Nat} {qt : XMt} {as st0 : List Value} {f : Option Nat → Mem → XA} (hs : XSnd l xmt rec d) (hqt : xmt q = qt) (hm : XMi qt n) (hb : qt.2.2.2.isNone = false) (hl : Cond.methodLink mt.1.cls index qt.1 ∈ xbig) (hst : Cond.static qt.1 ∈ xbig) (hlen : as.length = n) (hst0 : st0 = as.reverse ++ st) (h8 : st.length ≤ 4) (hd : decode mt.2.1 pc = .ok (.invokestatic index, 3)) (k : ∀ x M1, Xe S G K l mt d (pc + 3) lo (va_rf x :: st) M1 (f x M1)) : Xe S G K l mt d pc lo st0 M (cP (rec q as M) f) := by
  subst hqt
  rw [cP_bind]
  exact x_callS hs hm hl hst hlen hst0 h8 hd (f := fun v M1 => _) (fun v M1 _ => k_P hb k v M1)
theorem x_callV_P {n index ci N q : Nat} {qt : XMt} {T : u_T} {ty : Nat → FieldType} {r : Option Nat} {as st0 : List Value} {f : Option Nat → Mem → XA} (hs : XSnd l xmt rec d) (hqt : xmt q = qt) (hm : XMi qt n) (hci : XCi ci qt.1.cls T N ty) (hb : qt.2.2.2.isNone = false) (hl : Cond.methodLink mt.1.cls index qt.1 ∈ xbig) (hin : Cond.instanceMethod qt.1 ∈ xbig) (hse : Cond.selects qt.1.cls qt.1 qt.1 ∈ xbig) (hlen : as.length = n) (hst0 : st0 = as.reverse ++ va_rf r :: st) (h8 : st.length ≤ 4) (hd : decode mt.2.1 pc = .ok (.invokevirtual index, 3)) (k : ∀ x M1, Xe S G K l mt d (pc + 3) lo (va_rf x :: st) M1 (f x M1)) : Xe S G K l mt d pc lo st0 M (vC (ci, N) M r (cP (rec q (va_rf r :: as) M) f)) := by
  subst hqt
  rw [cP_bind]
  exact x_callV hs hm hci hl hin hse hlen hst0 h8 hd (f := fun v M1 => _) (fun v M1 _ => k_P hb k v M1)
theorem x_callS_V {n index q : Nat} {qt : XMt} {as st0 : List Value} {f : Mem → XA} (hs : XSnd l xmt rec d) (hqt : xmt q = qt) (hm : XMi qt n) (hb : qt.2.2.2.isNone = true) (hl : Cond.methodLink mt.1.cls index qt.1 ∈ xbig) (hst : Cond.static qt.1 ∈ xbig) (hlen : as.length = n) (hst0 : st0 = as.reverse ++ st) (h8 : st.length ≤ 4) (hd : decode mt.2.1 pc = .ok (.invokestatic index, 3)) (k : ∀ M1, Xe S G K l mt d (pc + 3) lo st M1 (f M1)) : Xe S G K l mt d pc lo st0 M (cV (rec q as M) f) := by
  subst hqt
  rw [cV_bind]
  exact x_callS hs hm hl hst hlen hst0 h8 hd (f := fun v M1 => _) (fun v M1 _ => k_V hb k v M1)
theorem x_callV_V {n index ci N q : Nat} {qt : XMt} {T : u_T} {ty : Nat → FieldType} {r : Option Nat} {as st0 : List Value} {f : Mem → XA} (hs : XSnd l xmt rec d) (hqt : xmt q = qt) (hm : XMi qt n) (hci : XCi ci qt.1.cls T N ty) (hb : qt.2.2.2.isNone = true) (hl : Cond.methodLink mt.1.cls index qt.1 ∈ xbig) (hin : Cond.instanceMethod qt.1 ∈ xbig) (hse : Cond.selects qt.1.cls qt.1 qt.1 ∈ xbig) (hlen : as.length = n) (hst0 : st0 = as.reverse ++ va_rf r :: st) (h8 : st.length ≤ 4) (hd : decode mt.2.1 pc = .ok (.invokevirtual index, 3)) (k : ∀ M1, Xe S G K l mt d (pc + 3) lo st M1 (f M1)) : Xe S G K l mt d pc lo st0 M (vC (ci, N) M r (cV (rec q (va_rf r :: as) M) f)) := by
  subst hqt
  rw [cV_bind]
  exact x_callV hs hm hci hl hin hse hlen hst0 h8 hd (f := fun v M1 => _) (fun v M1 _ => k_V hb k v M1)
theorem x_callSN_I {n index q : Nat} {host : String} {qt : XMt} {as st0 : List Value} {f : Int32 → Mem → XA} (hs : XSnd l xmt rec d) (hqt : xmt q = qt) (hm : XMi qt n) (hb : qt.2.2.2.isNone = false) (hl : ∀ U, XE G U → va_Nw (.methodLinkNest mt.1.cls index qt.1 host) U) (hst : Cond.static qt.1 ∈ xbig) (hlen : as.length = n) (hst0 : st0 = as.reverse ++ st) (h8 : st.length ≤ 4) (hd : decode mt.2.1 pc = .ok (.invokestatic index, 3)) (k : ∀ x M1, Xe S G K l mt d (pc + 3) lo (.int x :: st) M1 (f x M1)) : Xe S G K l mt d pc lo st0 M (cI (rec q as M) f) := by
  subst hqt
  rw [cI_bind]
  exact x_callSN hs hm hl hst hlen hst0 h8 hd (f := fun v M1 => _) (fun v M1 _ => k_I hb k v M1)
theorem x_callSN_L {n index q : Nat} {host : String} {qt : XMt} {as st0 : List Value} {f : Int64 → Mem → XA} (hs : XSnd l xmt rec d) (hqt : xmt q = qt) (hm : XMi qt n) (hb : qt.2.2.2.isNone = false) (hl : ∀ U, XE G U → va_Nw (.methodLinkNest mt.1.cls index qt.1 host) U) (hst : Cond.static qt.1 ∈ xbig) (hlen : as.length = n) (hst0 : st0 = as.reverse ++ st) (h8 : st.length ≤ 4) (hd : decode mt.2.1 pc = .ok (.invokestatic index, 3)) (k : ∀ x M1, Xe S G K l mt d (pc + 3) lo (.long x :: st) M1 (f x M1)) : Xe S G K l mt d pc lo st0 M (cL (rec q as M) f) := by
  subst hqt
  rw [cL_bind]
  exact x_callSN hs hm hl hst hlen hst0 h8 hd (f := fun v M1 => _) (fun v M1 _ => k_L hb k v M1)
theorem x_callSN_P {n index q : Nat} {host : String} {qt : XMt} {as st0 : List Value} {f : Option Nat → Mem → XA} (hs : XSnd l xmt rec d) (hqt : xmt q = qt) (hm : XMi qt n) (hb : qt.2.2.2.isNone = false) (hl : ∀ U, XE G U → va_Nw (.methodLinkNest mt.1.cls index qt.1 host) U) (hst : Cond.static qt.1 ∈ xbig) (hlen : as.length = n) (hst0 : st0 = as.reverse ++ st) (h8 : st.length ≤ 4) (hd : decode mt.2.1 pc = .ok (.invokestatic index, 3)) (k : ∀ x M1, Xe S G K l mt d (pc + 3) lo (va_rf x :: st) M1 (f x M1)) : Xe S G K l mt d pc lo st0 M (cP (rec q as M) f) := by
  subst hqt
  rw [cP_bind]
  exact x_callSN hs hm hl hst hlen hst0 h8 hd (f := fun v M1 => _) (fun v M1 _ => k_P hb k v M1)
theorem x_callSN_V {n index q : Nat} {host : String} {qt : XMt} {as st0 : List Value} {f : Mem → XA} (hs : XSnd l xmt rec d) (hqt : xmt q = qt) (hm : XMi qt n) (hb : qt.2.2.2.isNone = true) (hl : ∀ U, XE G U → va_Nw (.methodLinkNest mt.1.cls index qt.1 host) U) (hst : Cond.static qt.1 ∈ xbig) (hlen : as.length = n) (hst0 : st0 = as.reverse ++ st) (h8 : st.length ≤ 4) (hd : decode mt.2.1 pc = .ok (.invokestatic index, 3)) (k : ∀ M1, Xe S G K l mt d (pc + 3) lo st M1 (f M1)) : Xe S G K l mt d pc lo st0 M (cV (rec q as M) f) := by
  subst hqt
  rw [cV_bind]
  exact x_callSN hs hm hl hst hlen hst0 h8 hd (f := fun v M1 => _) (fun v M1 _ => k_V hb k v M1)
theorem x_callI_V {n index ci N q : Nat} {qt : XMt} {r : Option Nat} {as st0 : List Value} {f : Mem → XA} (hs : XSnd l xmt rec d) (hqt : xmt q = qt) (hm : XMi qt n) (hy : qt.1.name = "<init>") (hv : qt.2.2.2 = none) (hl : Cond.methodLink mt.1.cls index qt.1 ∈ xbig) (hin : Cond.instanceMethod qt.1 ∈ xbig) (hlen : as.length = n) (hst0 : st0 = as.reverse ++ va_rf r :: st) (h8 : st.length ≤ 4) (hd : decode mt.2.1 pc = .ok (.invokespecial index, 3)) (k : ∀ M1, Xe S G K l mt d (pc + 3) lo st M1 (f M1)) : Xe S G K l mt d pc lo st0 M (vC (ci, N) M r (cV (rec q (va_rf r :: as) M) f)) := by
  subst hqt
  rw [cV_bind]
  exact x_callI hs hm hl hin hy hv hlen hst0 h8 hd (f := fun v M1 => _) (fun v M1 _ => k_V (by rw [hv]; rfl) k v M1)
theorem x_callIN_V {n index ci N q : Nat} {host : String} {qt : XMt} {r : Option Nat} {as st0 : List Value} {f : Mem → XA} (hs : XSnd l xmt rec d) (hqt : xmt q = qt) (hm : XMi qt n) (hy : qt.1.name = "<init>") (hv : qt.2.2.2 = none) (hl : ∀ U, XE G U → va_Nw (.methodLinkNest mt.1.cls index qt.1 host) U) (hin : Cond.instanceMethod qt.1 ∈ xbig) (hlen : as.length = n) (hst0 : st0 = as.reverse ++ va_rf r :: st) (h8 : st.length ≤ 4) (hd : decode mt.2.1 pc = .ok (.invokespecial index, 3)) (k : ∀ M1, Xe S G K l mt d (pc + 3) lo st M1 (f M1)) : Xe S G K l mt d pc lo st0 M (vC (ci, N) M r (cV (rec q (va_rf r :: as) M) f)) := by
  subst hqt
  rw [cV_bind]
  exact x_callIN hs hm hl hin hy hv hlen hst0 h8 hd (f := fun v M1 => _) (fun v M1 _ => k_V (by rw [hv]; rfl) k v M1)
def nn (r : Option Nat) (x : XA) : XA := match r with
  | none => none
  | some _ => x
theorem x_oi {index : Nat} {r : Option Nat} (hl : Cond.methodLink mt.1.cls index objectInit ∈ xbig) (hin : Cond.instanceMethod objectInit ∈ xbig) (hco : Cond.code objectInit ⟨#[0xb1]⟩ 1 none ∈ xbig) (h8 : st.length ≤ 4) (hd : decode mt.2.1 pc = .ok (.invokespecial index, 3)) (k : Xe S G K l mt d (pc + 3) lo st M c) : Xe S G K l mt d pc lo (va_rf r :: st) M (nn r c) := by
  cases r with
  | none => exact x_none
  | some a =>
    refine fun r M' e => ⟨(k r M' e).1, fun h hn9 a1 b d9 f9 H locs ls h1 h2 h3 => ?_⟩
    have hf : 1 ≤ S.2.2.2.1.frames := by have := hn9.2.2.1; omega
    have hs := st_cat (st.map (cv G))
    rw [List.length_map] at hs
    exact W.objInit h.1 h.2.1 h.2.2.2.1 (h.2.2.2.2.1 _ hl) (h.2.2.2.2.1 _ hin) (h.2.2.2.2.1 _ hco) rfl (h3.1.trans h.2.2.1.symm) rfl hd hf (by have := hn9.2.2.2; simp only [JFrame.monitorRoom]; omega) ((k r M' e).2 h hn9 a1 b d9 f9 H locs ls h1 h2 h3)
theorem x_aldg {t tn : Nat} {ft : FieldType} {r : Option Nat} {i : Int32} {f : Option Nat → XA} (ht : 105 ≤ t) (ht3 : t < 200) (htn : (xtys G.2.1)[tn]? = some (G.2.1 t, ft)) (hft : ft.isReference = true) (hd : decode mt.2.1 pc = .ok (.aaload, 1)) (k : ∀ x, Xe S G K l mt d (pc + 1) lo (va_rf x :: st) M (f x)) : Xe S G K l mt d pc lo (.int i :: va_rf r :: st) M (alP t M r i f) := by
  cases r with
  | none => exact x_none
  | some a =>
    unfold alP
    by_cases ha : inAb M a t i = true
    · simp only [if_pos ha]
      obtain ⟨n, h9, hi⟩ := inA_of ha
      refine fun r M' e => ⟨(k _ r M' e).1, fun h hn9 a1 b d9 f9 H locs ls h1 h2 h3 => ?_⟩
      have hlt : i.toNatClampNeg < n := by
        rcases Nat.lt_or_ge i.toNatClampNeg n with q | q
        · exact q
        · exact absurd (Or.inr q) hi
      refine W.aald h.1 h.2.1 (mW_arrP h1 ht ht3 h9) ((h.2.2.2.2.2.2.2.1.2 tn _ htn).1 _ _) hft (fun q => by cases q) (by rw [arrV_size]; exact hi) (arrV_read _ _ hlt) rfl rfl hd ?_
      rw [← cv_rf]
      exact (k _ r M' e).2 h hn9 a1 b d9 f9 H locs ls h1 h2 h3
    · simp only [if_neg ha]
      exact x_none
theorem asOK_at {t : Nat} {v : Nat} (h : asOK t M (some v) = true) : ∃ q, M.2.2.2[v]? = some q ∧ (if t = 110 then decide (q.1 < 14) else if t = 111 then q.1 == 6 else if t = 112 then q.1 == 10 else false) = true := by
  unfold asOK at h
  cases hq : M.2.2.2[v]? with
  | none => simp [hq] at h
  | some q => exact ⟨q, rfl, by simpa [hq] using h⟩
theorem x_aast {t tn : Nat} {C : String} {r : Option Nat} {i : Int32} {v : Option Nat} {f : Mem → XA} (ht : 105 ≤ t) (ht3 : t < 200) (htn : (xtys G.2.1)[tn]? = some (G.2.1 t, .object C)) (hasg : ∀ (U : State), XE G U → ∀ (q : Nat × Nat), (if t = 110 then decide (q.1 < 14) else if t = 111 then q.1 == 6 else if t = 112 then q.1 == 10 else false) = true → q.1 < 14 ∧ ∀ comp, U.vm.findClass C = some comp → U.vm.assignable (G.1.1 q.1) comp = true) (hd : decode mt.2.1 pc = .ok (.aastore, 1)) (k : ∀ M', Xe S G K l mt d (pc + 1) lo st M' (f M')) : Xe S G K l mt d pc lo (va_rf v :: .int i :: va_rf r :: st) M (asP t M r i v f) := by
  cases r with
  | none => exact x_none
  | some a =>
    unfold asP
    by_cases ha : inAb M a t i = true ∧ asOK t M v = true
    · simp only [if_pos ha]
      obtain ⟨n, h9, hi⟩ := inA_of ha.1
      have hx : xkk t i.toNatClampNeg = 2 := by rw [xkk_a (by omega), ta_lo ht3, if_neg (by omega), if_neg (by omega)]
      refine fun r M' e => ⟨(k _ r M' e).1, fun h hn9 a1 b d9 f9 H locs ls h1 h2 h3 => ?_⟩
      cases v with
      | none =>
        refine va_WaastN h.1 h.2.1 (mW_arr h1 (by omega) ht3 h9) ((h.2.2.2.2.2.2.2.1.2 tn _ htn).1 _ _) (fun q => by cases q) (by rw [arrV_size]; exact hi) rfl rfl hd fun H' e1 e2 e3 => ?_
        exact (k _ r M' e).2 h hn9 a1 b d9 f9 H' _ ls (mW_ast h1 (by omega) ht3 h9 rfl e1 e2 e3 sP_off (fun j => xv_sP hx)) (hloc_app h1 ht3 h9 _ h2) h3
      | some v =>
        obtain ⟨q, hq, hok⟩ := asOK_at ha.2
        obtain ⟨ci, nq⟩ := q
        obtain ⟨hlt, hass⟩ := hasg _ h.2.2.2.2.2.2.2 _ hok
        obtain ⟨cell, q1, q2, q3, -⟩ := (h1.2.2.1 v ci nq hq).1 (by simp at hlt; omega)
        obtain ⟨kA, comp, k1, k2, k3, -⟩ := (h.2.2.2.2.2.2.2.1.2 tn _ htn).2
        obtain ⟨kE, hkE, -⟩ := Vm.findClass_spec k3
        have hkc : ∃ rc, vwCl[ci]? = some rc := by
          have h14 : ci < vwCl.length := hlt
          exact ⟨_, List.getElem?_eq_getElem h14⟩
        obtain ⟨rc, hrc⟩ := hkc
        obtain ⟨kC, hkC, -⟩ := (h.2.2.2.2.2.2.2.1.1 ci _ hrc).2.2
        have hh : i.toNatClampNeg < n := by
          rcases Nat.lt_or_ge i.toNatClampNeg n with z | z
          · exact z
          · exact absurd (Or.inr z) hi
        refine W.aast h.1 h.2.1 (mW_arr h1 (by omega) ht3 h9) (fun z hz => by cases hz) (fun hz => by cases hz) k1 k2 rfl hkE ⟨fun z => hi (Or.inl z), by rw [arrV_size]; exact hh⟩ q1 (fun z hz => by rw [q3] at hz; cases hz) (by rw [q2]; exact hkC) (by rw [q2]; exact hass comp k3) rfl rfl hd fun H' e1 e2 e3 => ?_
        exact (k _ r M' e).2 h hn9 a1 b d9 f9 H' _ ls (mW_ast h1 (by omega) ht3 h9 rfl e1 e2 e3 sP_off (fun j => xv_sP hx)) (hloc_app h1 ht3 h9 _ h2) h3
    · simp only [if_neg ha]
      exact x_none

end XR10
