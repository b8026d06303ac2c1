def rtC (x : Int32) (M : Mem) : XA := if (x.toUInt32 % 65536).toInt32 = x then some (.int x, M) else none
def rtB (x : Int32) (M : Mem) : XA := if x.toInt8.toInt32 = x then some (.int x, M) else none
/-- two references may be told apart -/
def acd (M : Mem) (r1 r2 : Option Nat) : Bool := match r1, r2 with
  | some a, some b => (match M.2.2.2[a]?, M.2.2.2[b]? with
    | some p, some q => (p.1 != 220) && (q.1 != 220) && (decide (p.1 < 200) || decide (q.1 < 200))
    | _, _ => false)
  | none, none => false
  | _, _ => true
/-- a text constant's bytes, its coder -/
def gsV (r : Option Nat) (k : Option Nat → XA) : XA := match r with
  | none => none
  | some a => if 3 ≤ a ∧ a < 33 then k (some (a + 30)) else none
def gsC (r : Option Nat) (k : Int32 → XA) : XA := match r with
  | none => none
  | some a => if 3 ≤ a ∧ a < 33 then k 0 else none
def vS (r : Option Nat) (x : XA) : XA := match r with
  | none => none
  | some a => if 3 ≤ a ∧ a < 33 then x else none
/-- n elements of a0 from sp on, laid into a from dp on -/
def cpI (M : Mem) (a0 sp a dp n : Nat) : Mem := (fun b k => if b = a then va_cpy (M.1 a0) (M.1 a) sp dp n k else M.1 b k, M.2)
def cpP (M : Mem) (a0 sp a dp n : Nat) : Mem := (M.1, M.2.1, fun b k => if b = a then va_cpy (M.2.2.1 a0) (M.2.2.1 a) sp dp n k else M.2.2.1 b k, M.2.2.2)
def acOK (t : Nat) (M : Mem) (a0 : Nat) (sp : Int32) (a : Nat) (dp n : Int32) : Bool := match M.2.2.2[a0]?, M.2.2.2[a]? with
  | some p, some q => (p.1 == t) && (q.1 == t) && !decide (sp < 0) && !decide (dp < 0) && !decide (n < 0) && decide (sp.toNatClampNeg + n.toNatClampNeg ≤ p.2) && decide (dp.toNatClampNeg + n.toNatClampNeg ≤ q.2)
  | _, _ => false
def acI (M : Mem) (r0 : Option Nat) (sp : Int32) (r : Option Nat) (dp n : Int32) (k : Mem → XA) : XA := match r0, r with
  | some a0, some a => if acOK 100 M a0 sp a dp n = true then k (cpI M a0 sp.toNatClampNeg a dp.toNatClampNeg n.toNatClampNeg) else none
  | _, _ => none
/-- all n of them are null or made objects -/
def obN (M : Mem) (a0 sp : Nat) : Nat → Bool
  | 0 => true
  | n + 1 => obN M a0 sp n && asOK 110 M (M.2.2.1 a0 (sp + n))
def acP (M : Mem) (r0 : Option Nat) (sp : Int32) (r : Option Nat) (dp n : Int32) (k : Mem → XA) : XA := match r0, r with
  | some a0, some a => if acOK 110 M a0 sp a dp n = true ∧ obN M a0 sp.toNatClampNeg n.toNatClampNeg = true then k (cpP M a0 sp.toNatClampNeg a dp.toNatClampNeg n.toNatClampNeg) else none
  | _, _ => none
def clI (M : Mem) (r : Option Nat) (k : Option Nat → Mem → XA) : XA := match r with
  | none => none
  | some a => match M.2.2.2[a]? with
    | none => none
    | some q => if q.1 = 100 then k (some M.2.2.2.length) (fun b j => if b = M.2.2.2.length then M.1 a j else M.1 b j, clr M.2.1 M.2.2.2.length 0, clr M.2.2.1 M.2.2.2.length none, M.2.2.2 ++ [(100, q.2)]) else none
def gcl (M : Mem) (r : Option Nat) (k : Option Nat → XA) : XA := match r with
  | none => none
  | some a => match M.2.2.2[a]? with
    | none => none
    | some q => if q.1 = 110 then k (some 63) else none
def cstA (t : Nat) (M : Mem) (r : Option Nat) (x : XA) : XA := match r with
  | none => x
  | some a => match M.2.2.2[a]? with
    | none => none
    | some q => if q.1 = t then x else none
def pci (i n : Int32) (k : XA) : XA := if ¬ i < 0 ∧ i < n then k else none
/-- rows of rows -/
def nwAA (M : Mem) (t ti n k : Nat) : Mem := (fun b j => if b < M.2.2.2.length then M.1 b j else 0, fun b j => if b < M.2.2.2.length then M.2.1 b j else 0, fun b j => if b < M.2.2.2.length then M.2.2.1 b j else if b = M.2.2.2.length then (if j < n then some (M.2.2.2.length + 1 + j) else none) else none, M.2.2.2 ++ (t, n) :: List.replicate n (ti, k))
def nAA (t ti : Nat) (M : Mem) (n k : Int32) (f : Option Nat → Mem → XA) : XA := if ¬ n < 0 ∧ ¬ k < 0 ∧ n.toNatClampNeg ≤ 100000 ∧ k.toNatClampNeg ≤ 100000 then f (some M.2.2.2.length) (nwAA M t ti n.toNatClampNeg k.toNatClampNeg) else none
section XR12
variable {S : XS} {G : XG} {K : Nat × Nat} {l : Launch} {mt : XMt} {d : Nat} {pc : Nat} {lo : List (Option Value)} {st : List Value} {M : Mem} {c : Option (Value × Mem)} {rec : Nat → List Value → Mem → XA} {xmt : Nat → XMt}
theorem x_cret {x : Int32} (hret : mt.2.2.2 = some .char) (hd : decode mt.2.1 pc = .ok (.ireturn, 1)) : Xe S G K l mt d pc lo [.int x] M (rtC x M) := by
  intro r M' e
  unfold rtC at e
  by_cases hx : (x.toUInt32 % 65536).toInt32 = x
  · rw [if_pos hx] at e
    cases e
    refine ⟨List.prefix_refl _, fun h hn9 a1 b d9 f9 H locs ls h1 h2 h3 => ?_⟩
    exact W.zret h.1 h.2.1 (h.2.2.2.2.2.2.1.trans hret) (congrArg Value.int hx) (fun t ht hW => ⟨by rw [hret]; rfl, by rw [ht]; exact h1⟩) h2 hd h.2.2.2.2.2.1
  · rw [if_neg hx] at e
    cases e
theorem x_bret {x : Int32} (hret : mt.2.2.2 = some .byte) (hd : decode mt.2.1 pc = .ok (.ireturn, 1)) : Xe S G K l mt d pc lo [.int x] M (rtB x M) := by
  intro r M' e
  unfold rtB at e
  by_cases hx : x.toInt8.toInt32 = x
  · rw [if_pos hx] at e
    cases e
    refine ⟨List.prefix_refl _, fun h hn9 a1 b d9 f9 H locs ls h1 h2 h3 => ?_⟩
    exact W.zret h.1 h.2.1 (h.2.2.2.2.2.2.1.trans hret) (congrArg Value.int hx) (fun t ht hW => ⟨by rw [hret]; rfl, by rw [ht]; exact h1⟩) h2 hd h.2.2.2.2.2.1
  · rw [if_neg hx] at e
    cases e
theorem acd_ne {H : Heap} (hW : mW G M H) {r1 r2 : Option Nat} (h : acd M r1 r2 = true) (hne : r1 ≠ r2) : r1.map (xtr G) ≠ r2.map (xtr G) := by
  cases r1 with
  | none => cases r2 with
    | none => exact absurd rfl hne
    | some b => exact fun q => nomatch q
  | some a => cases r2 with
    | none => exact fun q => nomatch q
    | some b =>
      unfold acd at h
      cases hp : M.2.2.2[a]? with
      | none => simp [hp] at h
      | some p =>
        cases hq : M.2.2.2[b]? with
        | none => simp [hp, hq] at h
        | some q =>
          simp [hp, hq] at h
          obtain ⟨⟨h1, h2⟩, h3⟩ := h
          intro e
          have e : xtr G a = xtr G b := by simpa using e
          have hab : a ≠ b := fun z => hne (by rw [z])
          rcases h3 with h3 | h3
          · exact mW_ne hW hp h3 hq h2 (Ne.symm hab) e.symm
          · exact mW_ne hW hq h3 hp h1 hab e
theorem x_acmp_eq {r1 r2 : Option Nat} {off : Int} {tgt : Nat} {A B : XA} (hd : decode mt.2.1 pc = .ok (.if_acmp .eq off, 3)) (ht : (pc : Int) + off = (tgt : Int)) (kt : r1 = r2 → Xe S G K l mt d tgt lo st M A) (kf : ¬ r1 = r2 → Xe S G K l mt d (pc + 3) lo st M B) : Xe S G K l mt d pc lo (va_rf r2 :: va_rf r1 :: st) M (if r1 = r2 then A else if acd M r1 r2 = true then B else none) := by
  by_cases hc : r1 = r2
  · rw [if_pos hc]
    refine fun r M' e => ⟨(kt hc r M' e).1, fun h hn9 a1 b d9 f9 H locs ls h1 h2 h3 => ?_⟩
    show XW S H locs _ _ _ (F0 _ pc ls (cv G (va_rf r2) :: cv G (va_rf r1) :: st.map (cv G)))
    rw [cv_rf, cv_rf]
    exact lv_acmp_eq h.1 h.2.1 hd ht (fun _ => (kt hc r M' e).2 h hn9 a1 b d9 f9 H locs ls h1 h2 h3) (fun hn => absurd (by rw [hc]) hn)
  · rw [if_neg hc]
    by_cases ha : acd M r1 r2 = true
    · rw [if_pos ha]
      refine fun r M' e => ⟨(kf hc r M' e).1, fun h hn9 a1 b d9 f9 H locs ls h1 h2 h3 => ?_⟩
      show XW S H locs _ _ _ (F0 _ pc ls (cv G (va_rf r2) :: cv G (va_rf r1) :: st.map (cv G)))
      rw [cv_rf, cv_rf]
      exact lv_acmp_eq h.1 h.2.1 hd ht (fun hp => absurd hp (acd_ne h1 ha hc)) (fun _ => (kf hc r M' e).2 h hn9 a1 b d9 f9 H locs ls h1 h2 h3)
    · rw [if_neg ha]
      exact x_none
theorem x_acmp_ne {r1 r2 : Option Nat} {off : Int} {tgt : Nat} {A B : XA} (hd : decode mt.2.1 pc = .ok (.if_acmp .ne off, 3)) (ht : (pc : Int) + off = (tgt : Int)) (kt : r1 = r2 → Xe S G K l mt d (pc + 3) lo st M A) (kf : ¬ r1 = r2 → Xe S G K l mt d tgt lo st M B) : Xe S G K l mt d pc lo (va_rf r2 :: va_rf r1 :: st) M (if r1 = r2 then A else if acd M r1 r2 = true then B else none) := by
  by_cases hc : r1 = r2
  · rw [if_pos hc]
    refine fun r M' e => ⟨(kt hc r M' e).1, fun h hn9 a1 b d9 f9 H locs ls h1 h2 h3 => ?_⟩
    show XW S H locs _ _ _ (F0 _ pc ls (cv G (va_rf r2) :: cv G (va_rf r1) :: st.map (cv G)))
    rw [cv_rf, cv_rf]
    exact lv_acmp_ne h.1 h.2.1 hd ht (fun hn => absurd (by rw [hc]) hn) (fun _ => (kt hc r M' e).2 h hn9 a1 b d9 f9 H locs ls h1 h2 h3)
  · rw [if_neg hc]
    by_cases ha : acd M r1 r2 = true
    · rw [if_pos ha]
      refine fun r M' e => ⟨(kf hc r M' e).1, fun h hn9 a1 b d9 f9 H locs ls h1 h2 h3 => ?_⟩
      show XW S H locs _ _ _ (F0 _ pc ls (cv G (va_rf r2) :: cv G (va_rf r1) :: st.map (cv G)))
      rw [cv_rf, cv_rf]
      exact lv_acmp_ne h.1 h.2.1 hd ht (fun _ => (kf hc r M' e).2 h hn9 a1 b d9 f9 H locs ls h1 h2 h3) (fun hp => absurd hp (acd_ne h1 ha hc))
    · rw [if_neg ha]
      exact x_none
/-! statics -/
theorem x_gets {C n dd : String} {index : Nat} {v : Value} (hz : ∀ U, XE G U → va_Z C n dd (cv G v) (fun q => G.2.2.2.2 ≤ q) U G.2.2.2.1) (hl : Cond.fieldLink mt.1.cls index C n dd ∈ xbig) (hd : decode mt.2.1 pc = .ok (.getstatic index, 3)) (k : Xe S G K l mt d (pc + 3) lo (v :: st) M c) : Xe S G K l mt d pc lo st M c := by
  refine fun r M' e => ⟨(k r M' e).1, fun h hn9 a1 b d9 f9 H locs ls h1 h2 h3 => ?_⟩
  obtain ⟨cf, kf, fi, f, a, cell, q1, q2, q3, q4, q5, q6, q7, q8⟩ := hz _ h.2.2.2.2.2.2.2
  exact W.gets h.1 h.2.1 h.2.2.2.1 (h.2.2.2.2.1 _ hl) q1 q2 q3 q4 (by rw [h1.2.1 a (Nat.not_le.mp q8)]; exact q5) (fun z => by rw [z] at q6; cases q6) q7 rfl hd ((k r M' e).2 h hn9 a1 b d9 f9 H locs ls h1 h2 h3)
theorem x_getsN {C n dd host : String} {index : Nat} {v : Value} (hz : ∀ U, XE G U → va_Z C n dd (cv G v) (fun q => G.2.2.2.2 ≤ q) U G.2.2.2.1) (hl : ∀ U, XE G U → va_Nw (.fieldLinkNest mt.1.cls index C n dd host) U) (hd : decode mt.2.1 pc = .ok (.getstatic index, 3)) (k : Xe S G K l mt d (pc + 3) lo (v :: st) M c) : Xe S G K l mt d pc lo st M c := by
  refine fun r M' e => ⟨(k r M' e).1, fun h hn9 a1 b d9 f9 H locs ls h1 h2 h3 => ?_⟩
  obtain ⟨cf, kf, fi, f, a, cell, q1, q2, q3, q4, q5, q6, q7, q8⟩ := hz _ h.2.2.2.2.2.2.2
  exact va_WgetsN h.1 h.2.1 h.2.2.2.1 (va_Nw.use rfl (hl _ h.2.2.2.2.2.2.2)) q1 q2 q3 q4 (by rw [h1.2.1 a (Nat.not_le.mp q8)]; exact q5) (fun z => by rw [z] at q6; cases q6) q7 rfl hd ((k r M' e).2 h hn9 a1 b d9 f9 H locs ls h1 h2 h3)
theorem z_ins (U : State) (h : XE G U) : va_Z "TestHouse" "INSTEAD" "[I" (cv G (va_rf (some 1))) (fun q => G.2.2.2.2 ≤ q) U G.2.2.2.1 := h.2.1.1
theorem z_it (U : State) (h : XE G U) : va_Z "TestHouseModel" "IT" "J" (cv G (.long 26996)) (fun q => G.2.2.2.2 ≤ q) U G.2.2.2.1 := h.2.1.2.1
theorem z_emp (U : State) (h : XE G U) : va_Z "java/util/ArrayList" "DEFAULTCAPACITY_EMPTY_ELEMENTDATA" "[Ljava/lang/Object;" (cv G (va_rf (some 2))) (fun q => G.2.2.2.2 ≤ q) U G.2.2.2.1 := h.2.1.2.2.1
theorem z_com (U : State) (h : XE G U) : va_Z "java/lang/String" "COMPACT_STRINGS" "Z" (cv G (.int 1)) (fun q => G.2.2.2.2 ≤ q) U G.2.2.2.1 := h.2.1.2.2.2.1
/-! text constants -/
theorem xstr_at {i : Nat} (h : i < 30) : ∃ q, xstr[i]? = some q := ⟨_, List.getElem?_eq_getElem (show i < xstr.length from h)⟩
theorem x_ldcS {i index : Nat} {tx : String} {bs : List Int32} (hq : xstr[i]? = some (mt.1.cls, index, tx, bs)) (hi : i < 30) (hd : decode mt.2.1 pc = .ok (.ldc index, 2)) (k : Xe S G K l mt d (pc + 2) lo (va_rf (some (3 + i)) :: st) M c) : Xe S G K l mt d pc lo st M c := by
  refine x_pure (fun h _ _ _ _ _ _ w => va_ldcS h.1 h.2.1 h.2.2.2.1 (h.2.2.2.2.2.2.2.2.2.1 i _ hq).1 hd ?_) k
  have e : cv G (va_rf (some (3 + i))) = .ref (G.2.2.1 (3 + i)) := congrArg Value.ref (xtr_old (by omega))
  rw [← e]
  exact w
theorem x_ldcM {index : Nat} (hl : Cond.classLink mt.1.cls index "[Ljava/lang/Object;" ∈ xbig) (hd : decode mt.2.1 pc = .ok (.ldc index, 2)) (k : Xe S G K l mt d (pc + 2) lo (va_rf (some 63) :: st) M c) : Xe S G K l mt d pc lo st M c :=
  x_pure (fun h _ _ _ _ _ _ w => va_ldcM h.1 h.2.1 h.2.2.2.1 (h.2.2.2.2.1 _ hl) h.2.2.2.2.2.2.2.2.2.2.1 hd w) k
theorem x_gsV {index : Nat} {r : Option Nat} {f : Option Nat → XA} (hl : Cond.fieldLink mt.1.cls index "java/lang/String" "value" "[B" ∈ xbig) (hd : decode mt.2.1 pc = .ok (.getfield index, 3)) (k : ∀ x, Xe S G K l mt d (pc + 3) lo (va_rf x :: st) M (f x)) : Xe S G K l mt d pc lo (va_rf r :: st) M (gsV r f) := by
  cases r with
  | none => exact x_none
  | some a =>
    unfold gsV
    by_cases ha : 3 ≤ a ∧ a < 33
    · simp only [if_pos ha]
      refine fun r M' e => ⟨(k _ r M' e).1, fun h hn9 a1 b d9 f9 H locs ls h1 h2 h3 => ?_⟩
      obtain ⟨q, hq⟩ := xstr_at (i := a - 3) (by omega)
      obtain ⟨cf, kf, fi, fl, cell, p1, p2, p3, p4, p5, p6⟩ := (h.2.2.2.2.2.2.2.2.2.1 _ q hq).2.2.2
      rw [show 3 + (a - 3) = a by omega] at p3 p6
      have ea : xtr G a = G.2.2.1 a := xtr_old (by omega)
      show XW S H locs _ _ _ (F0 _ pc ls (.ref (xtr G a) :: st.map (cv G)))
      rw [ea]
      refine W.getf h.1 h.2.1 h.2.2.2.1 (h.2.2.2.2.1 _ hl) p1 p2 (by rw [h1.2.1 _ (Nat.not_le.mp p6)]; exact p3) p4 p5 rfl rfl hd ?_
      have e2 : cv G (va_rf (some (a + 30))) = .ref (G.2.2.1 (33 + (a - 3))) := by
        show Value.ref (xtr G (a + 30)) = _
        rw [xtr_old (by omega), show 33 + (a - 3) = a + 30 by omega]
      rw [← e2]
      exact (k _ r M' e).2 h hn9 a1 b d9 f9 H locs ls h1 h2 h3
    · simp only [if_neg ha]
      exact x_none
theorem x_gsC {index : Nat} {r : Option Nat} {f : Int32 → XA} (hl : Cond.fieldLink mt.1.cls index "java/lang/String" "coder" "B" ∈ xbig) (hd : decode mt.2.1 pc = .ok (.getfield index, 3)) (k : ∀ x, Xe S G K l mt d (pc + 3) lo (.int x :: st) M (f x)) : Xe S G K l mt d pc lo (va_rf r :: st) M (gsC r f) := by
  cases r with
  | none => exact x_none
  | some a =>
    unfold gsC
    by_cases ha : 3 ≤ a ∧ a < 33
    · simp only [if_pos ha]
      refine fun r M' e => ⟨(k _ r M' e).1, fun h hn9 a1 b d9 f9 H locs ls h1 h2 h3 => ?_⟩
      obtain ⟨q, hq⟩ := xstr_at (i := a - 3) (by omega)
      obtain ⟨cf, kf, fi, fl, cell, p1, p2, p3, p4, p5, p6⟩ := (h.2.2.2.2.2.2.2.2.2.1 _ q hq).2.2.1
      rw [show 3 + (a - 3) = a by omega] at p3 p6
      have ea : xtr G a = G.2.2.1 a := xtr_old (by omega)
      show XW S H locs _ _ _ (F0 _ pc ls (.ref (xtr G a) :: st.map (cv G)))
      rw [ea]
      exact W.getf h.1 h.2.1 h.2.2.2.1 (h.2.2.2.2.1 _ hl) p1 p2 (by rw [h1.2.1 _ (Nat.not_le.mp p6)]; exact p3) p4 p5 rfl rfl hd ((k _ r M' e).2 h hn9 a1 b d9 f9 H locs ls h1 h2 h3)
    · simp only [if_neg ha]
      exact x_none
theorem x_callVs {n index : Nat} {q : Nat} {r : Option Nat} {as st0 : List Value} {f : Value → Mem → XA} (hs : XSnd l xmt rec d) (hm : XMi (xmt q) n) (hcs : (xmt q).1.cls = "java/lang/String") (hl : Cond.methodLink mt.1.cls index (xmt q).1 ∈ xbig) (hin : Cond.instanceMethod (xmt q).1 ∈ xbig) (hse : Cond.selects (xmt q).1.cls (xmt q).1 (xmt q).1 ∈ xbig) (hlen : as.length = n) (hst0 : st0 = as.reverse ++ va_rf r :: st) (h8 : st.length ≤ 4) (hd : decode mt.2.1 pc = .ok (.invokevirtual index, 3)) (k : ∀ v M1, rec q (va_rf r :: as) M = some (v, M1) → Xe S G K l mt d (pc + 3) lo ((if (xmt q).2.2.2.isNone then [] else [v]) ++ st) M1 (f v M1)) : Xe S G K l mt d pc lo st0 M (vS r ((rec q (va_rf r :: as) M).bind (fun x => f x.1 x.2))) := by
  subst hst0
  cases r with
  | none => exact x_none
  | some a =>
    unfold vS
    by_cases ha : 3 ≤ a ∧ a < 33
    · simp only [if_pos ha]
      refine x_call hs (fun h hn9 {M1 r1 H locs cells slots ls} h1 h3 hq hmet hc1 hc2 => ?_) k
      obtain ⟨z, hz⟩ := xstr_at (i := a - 3) (by omega)
      obtain ⟨cell, p1, p2, p3, p4⟩ := (h.2.2.2.2.2.2.2.2.2.1 _ z hz).2.1
      rw [show 3 + (a - 3) = a by omega] at p1 p4
      have ea : xtr G a = G.2.2.1 a := xtr_old (by omega)
      exact W.runV (As := as.map (cv G)) (b := xtr G a) ⟨h.1, h.2.1, h.2.2.1, h.2.2.2.1, h.2.2.2.2.1⟩ hmet ⟨x_callB h hn9 hm hl, h.2.2.2.2.1 _ hin, h.2.2.2.2.1 _ hse⟩ ⟨x_blind, ⟨cell, by rw [ea, h1.2.1 _ (Nat.not_le.mp p4)]; exact p1, p2, by rw [hcs]; exact p3⟩, fun U hU hW => ⟨rfl, by rw [hU]; exact h1, XE.warm hW h.2.2.2.2.2.2.2⟩⟩ rfl (by rw [List.length_map]; exact hlen) h3.1 (by simp [List.map_append, List.map_reverse, va_rf, cv]) (Nat.le_trans (Nat.add_le_add_left (st_cat _) _) (by simp [JFrame.monitorRoom]; omega)) hd ⟨hc1, hc2⟩
    · simp only [if_neg ha]
      exact x_none
theorem x_callVs_I {n index q : Nat} {qt : XMt} {r : Option Nat} {as st0 : List Value} {f : Int32 → Mem → XA} (hs : XSnd l xmt rec d) (hqt : xmt q = qt) (hm : XMi qt n) (hcs : qt.1.cls = "java/lang/String") (hb : qt.2.2.2.isNone = false) (hl : Cond.methodLink mt.1.cls index qt.1 ∈ xbig) (hin : Cond.instanceMethod qt.1 ∈ xbig) (hse : Cond.selects qt.1.cls qt.1 qt.1 ∈ xbig) (hlen : as.length = n) (hst0 : st0 = as.reverse ++ va_rf r :: st) (h8 : st.length ≤ 4) (hd : decode mt.2.1 pc = .ok (.invokevirtual index, 3)) (k : ∀ x M1, Xe S G K l mt d (pc + 3) lo (.int x :: st) M1 (f x M1)) : Xe S G K l mt d pc lo st0 M (vS r (cI (rec q (va_rf r :: as) M) f)) := by
  subst hqt
  rw [cI_bind]
  exact x_callVs hs hm hcs hl hin hse hlen hst0 h8 hd (f := fun v M1 => _) (fun v M1 _ => k_I hb k v M1)
end XR12
