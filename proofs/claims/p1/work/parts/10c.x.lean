theorem vr_outer (c : ClassId) (N h0 : Nat) : ∀ i : Nat, Jvm.Free.Multi.outerC c N h0 i = arrV c N (fun j => va_rf (if j < i then some (h0 + 1 + j) else none))
  | 0 => by
    show ({ cls := c, slots := Array.replicate N .null, vm := .none } : Cell) = _
    rw [arrV_new]
    refine congrArg (arrV c N) (funext fun j => ?_)
    simp [va_rf]
  | i + 1 => by
    show (Jvm.Free.Multi.outerC c N h0 i).setSlot i (.ref (h0 + 1 + i)) = _
    rw [vr_outer c N h0 i, arrV_store]
    refine congrArg (arrV c N) (funext fun j => ?_)
    by_cases e : j = i
    · subst e
      simp [updV, va_rf]
    · by_cases h : j < i
      · simp [updV, e, h, Nat.lt_succ_of_lt h]
      · simp [updV, e, h, show ¬ j < i + 1 by omega]
section XRC
variable {p : Program} {l : Launch} {e : Env} {R : Room} {s : State} {m : MethodId} {args : Array Value} {below : List Frame} {meth : Method} {c : Code} {H : Heap} {locs : List Loc} {cells slots : Nat} {Q : State → Prop}
variable {cc : ByteArray} {pc : Nat} {ls : Array Slot} {rest : List Value} {D : va_G} {cl : List vw_C} {a : Nat} {tys : List (ClassId × FieldType)}
theorem xw_copyI (hexec : p.tables.exec = Jvm.exec) (hb : c.code = cc) (hml : c.maxLocals = ls.size) {own : String} {index : Nat} (hown : s.vm.findClass own = some m.cls) (hlink : (Cond.methodLink own index arraycopyName).before args s = true) (hnat : (Cond.native arraycopyName).before args s = true) (hstat : (Cond.static arraycopyName).before args s = true) (hini : (Cond.initialized "java/lang/System").before args s = true)
    (hK : va_K D cl tys s) (t0 : Nat) {a0 : Nat} {c0 : ClassId} {n0 n1 : Nat} {f g : Nat → Int32} (hc0 : H[a0]? = some (arrV c0 n0 (fun j => .int (f j)))) (hc1 : H[a]? = some (arrV c0 n1 (fun j => .int (g j)))) (ht0 : tys[t0]? = some (c0, .int))
    {sp dp n : Int32} (h1 : ¬ sp < 0) (h2 : ¬ dp < 0) (h3 : ¬ n < 0) (h4 : sp.toNatClampNeg + n.toNatClampNeg ≤ n0) (h5 : dp.toNatClampNeg + n.toNatClampNeg ≤ n1)
    (hframes : 1 ≤ R.frames) (hlocals : (rest.map fun v => v.category).sum + (nativeFrameWords "java/lang/System" "arraycopy" 5 + 11) ≤ R.locals) (hdg : decode cc pc = .ok (.invokestatic index, 3))
    (kk : ∀ (H1 : Heap) (locs1 : List Loc), H1[a]? = some (arrV c0 n1 (fun j => .int (va_cpy f g sp.toNatClampNeg dp.toNatClampNeg n.toNatClampNeg j))) → H1.size = H.size → (∀ q, q ≠ a → H1[q]? = H[q]?) → (∀ q ∈ locs1, q ∈ locs ∨ q.base = a) → W p l e R s m args below meth c H1 locs1 cells slots Q (F0 m (pc + 3) ls rest)) : W p l e R s m args below meth c H locs cells slots Q (F0 m pc ls (.int n :: .int dp :: .ref a :: .int sp :: .ref a0 :: rest)) := by
  have nn : ∀ z : Int32, ¬ z < 0 → z.toInt = (z.toNatClampNeg : Int) := by
    intro z hz
    have hz0 : (0 : Int) ≤ z.toInt := by
      have := Int32.not_lt.mp hz
      simpa using Int32.le_iff_toInt_le.mp this
    show z.toInt = ((z.toInt.toNat : Nat) : Int)
    omega
  intro T hT X
  obtain ⟨-, k0, hk0, cm0, hkk0⟩ := (hK.2 t0 _ ht0).1 n0 (fun j => .int (f j))
  obtain ⟨-, k1, hk1, cm1, hkk1⟩ := (hK.2 t0 _ ht0).1 n1 (fun j => .int (g j))
  obtain ⟨vm', X', step⟩ := X.arraycopy hexec hown hlink hnat hstat hini (src := a0) (dst := a) (cs := arrV c0 n0 (fun j => .int (f j))) (cd := arrV c0 n1 (fun j => .int (g j))) (srcPos := sp) (destPos := dp) (n := n) (by rw [hT]; exact hc0) (by rw [hT]; exact hc1)
    (fun _ h => by cases h) (fun _ h => by cases h) (fun h => by cases h) (fun h => by cases h) hk0 hk1 hkk0 hkk1 (by simp) h1 h2 h3
    (by rw [nn sp h1, nn n h3, arrV_size]; omega)
    (by rw [nn dp h2, nn n h3, arrV_size]; omega)
    (fun vm₁ _ i hi => by
      have e : (arrV c0 n0 (fun j => .int (f j))).slots.getD (sp.toNatClampNeg + i) .null = .int (f (sp.toNatClampNeg + i)) := by
        rw [Array.getD_eq_getD_getElem?, arrV_read _ _ (by omega)]
        rfl
      refine ⟨?_, ?_⟩
      · rw [e]
        rfl
      · rw [e]
        exact trivial)
    (g := F0 m pc ls (.int n :: .int dp :: .ref a :: .int sp :: .ref a0 :: rest)) rfl (by rw [hml]) (rest := rest) rfl (by rw [hb]; exact hdg) hframes (by show 2 * 0 + _ + _ ≤ _; omega)
  have e1 : copied (arrV c0 n0 (fun j => .int (f j))) (arrV c0 n1 (fun j => .int (g j))) sp dp n = arrV c0 n1 (fun j => .int (va_cpy f g sp.toNatClampNeg dp.toNatClampNeg n.toNatClampNeg j)) := va_copied (fun z => .int z) c0 c0 f g h4
  rw [e1] at X' step
  have hl : a < H.size := (Array.getElem?_eq_some_iff.mp hc1).1
  have hheap : ((T.setVm vm').setCell a (arrV c0 n1 (fun j => .int (va_cpy f g sp.toNatClampNeg dp.toNatClampNeg n.toNatClampNeg j)))).heap = H.setIfInBounds a (arrV c0 n1 (fun j => .int (va_cpy f g sp.toNatClampNeg dp.toNatClampNeg n.toNatClampNeg j))) := by rw [← hT]; rfl
  obtain ⟨t, a1, b1⟩ := kk _ _ (show (H.setIfInBounds a _)[a]? = some _ by simp [Array.getElem?_setIfInBounds, hl]) (by simp) (fun q hq => by simp [Array.getElem?_setIfInBounds, Ne.symm hq]) (fun q hq => by
      rcases List.mem_append.mp hq with h | h
      · exact Or.inl h
      · obtain ⟨z, -, hz⟩ := List.mem_map.mp h
        exact Or.inr (by rw [← hz])) _ hheap X'
  exact ⟨t, step t a1, b1⟩
theorem xw_copyP (hexec : p.tables.exec = Jvm.exec) (hb : c.code = cc) (hml : c.maxLocals = ls.size) {own : String} {index : Nat} (hown : s.vm.findClass own = some m.cls) (hlink : (Cond.methodLink own index arraycopyName).before args s = true) (hnat : (Cond.native arraycopyName).before args s = true) (hstat : (Cond.static arraycopyName).before args s = true) (hini : (Cond.initialized "java/lang/System").before args s = true)
    (hK : va_K D cl tys s) (t0 : Nat) {a0 : Nat} {c0 : ClassId} {n0 n1 : Nat} {f g : Nat → Option Nat} (hc0 : H[a0]? = some (arrV c0 n0 (fun j => va_rf (f j)))) (hc1 : H[a]? = some (arrV c0 n1 (fun j => va_rf (g j)))) (ht0 : tys[t0]? = some (c0, .object "java/lang/Object"))
    {sp dp n : Int32} (h1 : ¬ sp < 0) (h2 : ¬ dp < 0) (h3 : ¬ n < 0) (h4 : sp.toNatClampNeg + n.toNatClampNeg ≤ n0) (h5 : dp.toNatClampNeg + n.toNatClampNeg ≤ n1)
    (hel : ∀ i : Nat, i < n.toNatClampNeg → ∀ y : Nat, f (sp.toNatClampNeg + i) = some y → ∃ cellV : Cell, H[y]? = some cellV ∧ cellV.vm.isStatics = false ∧ (∃ nm, s.vm.findClass nm = some cellV.cls) ∧ ∀ comp, s.vm.findClass "java/lang/Object" = some comp → s.vm.assignable cellV.cls comp = true)
    (hframes : 1 ≤ R.frames) (hlocals : (rest.map fun v => v.category).sum + (nativeFrameWords "java/lang/System" "arraycopy" 5 + 11) ≤ R.locals) (hdg : decode cc pc = .ok (.invokestatic index, 3))
    (kk : ∀ (H1 : Heap) (locs1 : List Loc), H1[a]? = some (arrV c0 n1 (fun j => va_rf (va_cpy f g sp.toNatClampNeg dp.toNatClampNeg n.toNatClampNeg j))) → H1.size = H.size → (∀ q, q ≠ a → H1[q]? = H[q]?) → (∀ q ∈ locs1, q ∈ locs ∨ q.base = a) → W p l e R s m args below meth c H1 locs1 cells slots Q (F0 m (pc + 3) ls rest)) : W p l e R s m args below meth c H locs cells slots Q (F0 m pc ls (.int n :: .int dp :: .ref a :: .int sp :: .ref a0 :: rest)) := by
  have nn : ∀ z : Int32, ¬ z < 0 → z.toInt = (z.toNatClampNeg : Int) := by
    intro z hz
    have hz0 : (0 : Int) ≤ z.toInt := by
      have := Int32.not_lt.mp hz
      simpa using Int32.le_iff_toInt_le.mp this
    show z.toInt = ((z.toInt.toNat : Nat) : Int)
    omega
  intro T hT X
  obtain ⟨-, k0, hk0, cm0, hkk0⟩ := (hK.2 t0 _ ht0).1 n0 (fun j => va_rf (f j))
  obtain ⟨-, k1, hk1, cm1, hkk1⟩ := (hK.2 t0 _ ht0).1 n1 (fun j => va_rf (g j))
  obtain ⟨vm', X', step⟩ := X.arraycopy hexec hown hlink hnat hstat hini (src := a0) (dst := a) (cs := arrV c0 n0 (fun j => va_rf (f j))) (cd := arrV c0 n1 (fun j => va_rf (g j))) (srcPos := sp) (destPos := dp) (n := n) (by rw [hT]; exact hc0) (by rw [hT]; exact hc1)
    (fun _ h => by cases h) (fun _ h => by cases h) (fun h => by cases h) (fun h => by cases h) hk0 hk1 hkk0 hkk1 rfl h1 h2 h3
    (by rw [nn sp h1, nn n h3, arrV_size]; omega)
    (by rw [nn dp h2, nn n h3, arrV_size]; omega)
    (fun vm₁ hal i hi => by
      have e : (arrV c0 n0 (fun j => va_rf (f j))).slots.getD (sp.toNatClampNeg + i) .null = va_rf (f (sp.toNatClampNeg + i)) := by
        rw [Array.getD_eq_getD_getElem?, arrV_read _ _ (by omega)]
        rfl
      rw [e]
      cases hy : f (sp.toNatClampNeg + i) with
      | none => exact ⟨rfl, trivial⟩
      | some y =>
        obtain ⟨cellV, g1, g2, ⟨nm, g3⟩, g4⟩ := hel i hi y hy
        obtain ⟨kA, comp, r1, r2, r3, -⟩ := (hK.2 t0 _ ht0).2
        cases hk1.symm.trans r1
        cases hkk1.symm.trans r2
        obtain ⟨kC, hkC, -⟩ := Vm.findClass_spec g3
        obtain ⟨kE, hkE, -⟩ := Vm.findClass_spec r3
        obtain ⟨kC', hkC', -⟩ := hal.2.2 _ _ hkC
        obtain ⟨kE', hkE', -⟩ := hal.2.2 _ _ hkE
        refine ⟨rfl, cellV, (show T.heap[y]? = some cellV by rw [hT]; exact g1), (fun q h => by rw [h] at g2; cases g2), ⟨kC', hkC'⟩, ?_, ?_⟩
        · exact ⟨kE', hkE'⟩
        · show vm₁.assignable _ _ = true
          rw [hal.assignable]
          exact g4 _ r3)
    (g := F0 m pc ls (.int n :: .int dp :: .ref a :: .int sp :: .ref a0 :: rest)) rfl (by rw [hml]) (rest := rest) rfl (by rw [hb]; exact hdg) hframes (by show 2 * 0 + _ + _ ≤ _; omega)
  have e1 : copied (arrV c0 n0 (fun j => va_rf (f j))) (arrV c0 n1 (fun j => va_rf (g j))) sp dp n = arrV c0 n1 (fun j => va_rf (va_cpy f g sp.toNatClampNeg dp.toNatClampNeg n.toNatClampNeg j)) := va_copied va_rf c0 c0 f g h4
  rw [e1] at X' step
  have hl : a < H.size := (Array.getElem?_eq_some_iff.mp hc1).1
  have hheap : ((T.setVm vm').setCell a (arrV c0 n1 (fun j => va_rf (va_cpy f g sp.toNatClampNeg dp.toNatClampNeg n.toNatClampNeg j)))).heap = H.setIfInBounds a (arrV c0 n1 (fun j => va_rf (va_cpy f g sp.toNatClampNeg dp.toNatClampNeg n.toNatClampNeg j))) := by rw [← hT]; rfl
  obtain ⟨t, a1, b1⟩ := kk _ _ (show (H.setIfInBounds a _)[a]? = some _ by simp [Array.getElem?_setIfInBounds, hl]) (by simp) (fun q hq => by simp [Array.getElem?_setIfInBounds, Ne.symm hq]) (fun q hq => by
      rcases List.mem_append.mp hq with h | h
      · exact Or.inl h
      · obtain ⟨z, -, hz⟩ := List.mem_map.mp h
        exact Or.inr (by rw [← hz])) _ hheap X'
  exact ⟨t, step t a1, b1⟩
theorem xw_clone (hexec : p.tables.exec = Jvm.exec) (hb : c.code = cc) (hml : c.maxLocals = ls.size) {own ad : String} {index : Nat} (hown : s.vm.findClass own = some m.cls)
    (hlink : (Cond.methodLink own index ⟨ad, "clone", "()Ljava/lang/Object;"⟩).before args s = true) (hsame : (Cond.sameMethod ad "java/lang/Object" "clone" "()Ljava/lang/Object;").before args s = true)
    (hnat : (Cond.native ⟨"java/lang/Object", "clone", "()Ljava/lang/Object;"⟩).before args s = true) (hinst : (Cond.instanceMethod ⟨"java/lang/Object", "clone", "()Ljava/lang/Object;"⟩).before args s = true)
    (hsel : (Cond.selects ad ⟨ad, "clone", "()Ljava/lang/Object;"⟩ ⟨"java/lang/Object", "clone", "()Ljava/lang/Object;"⟩).before args s = true) (hcl : (Cond.castable ad "java/lang/Cloneable").before args s = true)
    (hK : va_K D cl tys s) (t0 : Nat) {cA : ClassId} {n : Nat} {f : Nat → Int32} (ha : H[a]? = some (arrV cA n (fun j => .int (f j)))) (ht : tys[t0]? = some (cA, .int))
    (hnm : s.vm.findClass ad = some cA)
    (hframes : 1 ≤ R.frames) (hlocals : (rest.map fun v => v.category).sum + 14 ≤ R.locals) (hcells : cells + 1 ≤ R.cells) (hslots : slots + n ≤ R.slots) (hdg : decode cc pc = .ok (.invokevirtual index, 3))
    (kk : W p l e R s m args below meth c (H.push (arrV cA n (fun j => .int (f j)))) locs (cells + 1) (slots + n) Q (F0 m (pc + 3) ls (.ref H.size :: rest))) : W p l e R s m args below meth c H locs cells slots Q (F0 m pc ls (.ref a :: rest)) := by
  have hcellE : ({ cls := (arrV cA n (fun j => .int (f j))).cls, slots := (arrV cA n (fun j => .int (f j))).slots } : Cell) = arrV cA n (fun j => .int (f j)) := rfl
  obtain ⟨c0, t0', f1, f2, f3⟩ := Cond.castable_spec hcl
  cases hnm.symm.trans f1
  intro T hT X
  have hcellT : T.heap[a]? = some (arrV cA n (fun j => .int (f j))) := by rw [hT]; exact ha
  obtain ⟨-, kA, hkA, comp, hkind⟩ := State.isArrayOf_alike X.warmed.alike ((hK.2 t0 _ ht).1 0 (fun _ => .null))
  obtain ⟨-, kS, hkS, compS, hkindS⟩ := (hK.2 t0 _ ht).1 0 (fun _ => .null)
  obtain ⟨vm', X', st⟩ := X.cloneArray hexec hown hlink hsame hnat hinst hsel (a := a) (cell := arrV cA n (fun j => .int (f j))) hcellT (fun k h => by cases h) (fun h => by cases h) hnm f2 f3
    (fun i v hv => by
      have hk' : T.vm.classes[(arrV cA n fun j => Value.int (f j)).cls]? = some kA := hkA
      have hfit : fits .int v = true := va_fit (F := fun j => .int (f j)) (fun i _ => rfl) i v hv
      simpa [State.fitsSlot, State.slotType?, hk', hkind] using hfit)
    (g := F0 m pc ls (.ref a :: rest)) rfl (by rw [hml]) rfl (by rw [hb]; exact hdg) hframes (by show 2 * 0 + _ + 14 ≤ _; omega) hcells (by rw [arrV_size]; exact hslots) (hloader := Vm.clonesLoader_of_array hkS hkindS)
  rw [hcellE, arrV_size] at X'
  obtain ⟨t, b1, b2⟩ := kk ((T.setVm vm').pushCell (arrV cA n (fun j => .int (f j)))) (by rw [← hT]; rfl) X'
  refine ⟨t, st t ?_, b2⟩
  rw [hcellE, hT]
  exact b1
theorem xw_mna (hexec : p.tables.exec = Jvm.exec) (hb : c.code = cc) {own : String} {index : Nat} {ty : FieldType} {cy : ClassId} (hown : s.vm.findClass own = some m.cls) (hclink : (Cond.classLink own index ("[" ++ (FieldType.array ty).toString)).before args s = true) (hover : (Cond.arrayOver (.array ty)).before args s = true) (harr : (Cond.arrayClass ty).before args s = true) (hcy : s.vm.findClass (FieldType.array ty).toString = some cy)
    {n k : Int32} {z : Nat → Value} (hn : ¬ n < 0) (hk : ¬ k < 0)
    (hb1 : n.toNatClampNeg * 4 ≤ 536870912) (hb2 : k.toNatClampNeg * componentBytes ty ≤ 536870912) (hb3 : k.toNatClampNeg ≤ 536870912) (hdf : fits ty (defaultValue ty) = true) (hdd : (defaultValue ty).isDefault = true) (hcells : cells + (1 + n.toNatClampNeg) ≤ R.cells) (hslots : slots + (n.toNatClampNeg + n.toNatClampNeg * k.toNatClampNeg) ≤ R.slots) (hz : ∀ c : ClassId, Jvm.Free.Multi.innerC c k.toNatClampNeg (defaultValue ty) = arrV c k.toNatClampNeg z) (hdg : decode cc pc = .ok (.multianewarray index 2, 4))
    (kk : ∀ (cA : ClassId) (H1 : Heap), s.vm.findClass ("[" ++ (FieldType.array ty).toString) = some cA → H1.size = H.size + 1 + n.toNatClampNeg → (∀ x, x < H.size → H1[x]? = H[x]?) → H1[H.size]? = some (arrV cA n.toNatClampNeg (fun j => va_rf (if j < n.toNatClampNeg then some (H.size + 1 + j) else none))) → (∀ j, j < n.toNatClampNeg → H1[H.size + 1 + j]? = some (arrV cy k.toNatClampNeg z)) →
      W p l e R s m args below meth c H1 locs (cells + 1 + n.toNatClampNeg) (slots + n.toNatClampNeg + n.toNatClampNeg * k.toNatClampNeg) Q (F0 m (pc + 4) ls (.ref H.size :: rest))) : W p l e R s m args below meth c H locs cells slots Q (F0 m pc ls (.int k :: .int n :: rest)) := by
  intro T hT Xs
  obtain ⟨vm₁, cA, comp, -, fA, fC, hO, -, X', step⟩ := Xs.multianewarray2F hexec hown hclink hover harr (g := F0 m pc ls (.int k :: .int n :: rest)) rfl (by rw [hb]; exact hdg) rfl hn hk hb1 hb2 hb3 hdf hdd hcells hslots
  have ec : some cy = some comp := hcy.symm.trans fC
  cases ec
  generalize hF : Jvm.Free.Multi.fill (T.setVm vm₁) cA cy n.toNatClampNeg k.toNatClampNeg (defaultValue ty) n.toNatClampNeg = F at X' step
  have hTh : (T.setVm vm₁).heap = H := hT
  obtain ⟨f1, f2, -, -⟩ := Jvm.Free.Multi.fill_facts (T.setVm vm₁) cA cy n.toNatClampNeg k.toNatClampNeg (defaultValue ty) n.toNatClampNeg
  rw [hF, hTh] at f1 f2
  have hold : ∀ x : Nat, x < H.size → F.heap[x]? = H[x]? := fun x hx => by
    have := Jvm.Free.Multi.fill_old (T.setVm vm₁) cA cy n.toNatClampNeg k.toNatClampNeg (defaultValue ty) (a := x) (by rw [hTh]; exact hx) n.toNatClampNeg
    rw [hF, hTh] at this
    exact this
  have hrow : ∀ j : Nat, j < n.toNatClampNeg → F.heap[H.size + 1 + j]? = some (arrV cy k.toNatClampNeg z) := fun j hj => by
    have := Jvm.Free.Multi.fill_inner (T.setVm vm₁) cA cy n.toNatClampNeg k.toNatClampNeg (defaultValue ty) n.toNatClampNeg j hj
    rw [hF, hTh, hz] at this
    exact this
  rw [vr_outer cA n.toNatClampNeg H.size n.toNatClampNeg] at f2
  obtain ⟨t, a1, b1⟩ := kk cA F.heap fA f1 hold f2 hrow F rfl X'
  refine ⟨t, step t ?_, b1⟩
  have e : T.heap.size = H.size := by rw [hT]
  rw [e]
  exact a1
end XRC
section XR13
variable {S : XS} {G : XG} {K : Nat × Nat} {l : Launch} {mt : XMt} {d : Nat} {pc : Nat} {lo : List (Option Value)} {st : List Value} {M : Mem} {c : Option (Value × Mem)} {rec : Nat → List Value → Mem → XA} {xmt : Nat → XMt}
theorem acOK_of {t : Nat} {a0 a : Nat} {sp dp n : Int32} (h : acOK t M a0 sp a dp n = true) : ∃ n0 n1, M.2.2.2[a0]? = some (t, n0) ∧ M.2.2.2[a]? = some (t, n1) ∧ ¬ sp < 0 ∧ ¬ dp < 0 ∧ ¬ n < 0 ∧ sp.toNatClampNeg + n.toNatClampNeg ≤ n0 ∧ dp.toNatClampNeg + n.toNatClampNeg ≤ n1 := by
  unfold acOK at h
  cases hp : M.2.2.2[a0]? with
  | none => simp [hp] at h
  | some p =>
    cases hq : M.2.2.2[a]? with
    | none => simp [hp, hq] at h
    | some q =>
      obtain ⟨p1, p2⟩ := p
      obtain ⟨q1, q2⟩ := q
      simp only [hp, hq, Bool.and_eq_true, beq_iff_eq, Bool.not_eq_true', decide_eq_false_iff_not, decide_eq_true_eq] at h
      obtain ⟨⟨⟨⟨⟨⟨h1, h2⟩, h3⟩, h4⟩, h5⟩, h6⟩, h7⟩ := h
      subst h1
      subst h2
      exact ⟨p2, q2, rfl, rfl, h3, h4, h5, h6, h7⟩
theorem mW_cp {M' : Mem} {H H' : Heap} (h : mW G M H) {a t n : Nat} {F : Nat → Value} (ht : 100 ≤ t) (ht3 : t < 200) (ha : M.2.2.2[a]? = some (t, n)) (hk : M'.2.2.2 = M.2.2.2) (e1 : H'[xtr G a]? = some (arrV (G.2.1 t) n F)) (hs : H'.size = H.size) (ho : ∀ q, q ≠ xtr G a → H'[q]? = H[q]?)
    (hv : ∀ b j, b ≠ a → M'.1 b j = M.1 b j ∧ M'.2.1 b j = M.2.1 b j ∧ M'.2.2.1 b j = M.2.2.1 b j) (hx : ∀ j, xv G M' a t j = F j) : mW G M' H' := by
  refine mW_put h ha ht3 hk hs ho hv ⟨fun h9 => by omega, fun _ _ => ?_, fun _ => by omega⟩
  rw [e1]
  congr 2
  funext j
  exact (hx j).symm
theorem hloc_or {locs locs1 : List Loc} {H : Heap} (hW : mW G M H) {a : Nat} {q : Nat × Nat} (hq3 : q.1 < 200) (ha : M.2.2.2[a]? = some q) (h : ∀ q ∈ locs, G.2.2.2.2 ≤ q.base) (h1 : ∀ q ∈ locs1, q ∈ locs ∨ q.base = xtr G a) : ∀ q ∈ locs1, G.2.2.2.2 ≤ q.base := fun q hq => by
  rcases h1 q hq with h9 | h9
  · exact h q h9
  · rw [h9, (mW_lt hW ha hq3).2.2]
    omega
theorem x_acI {index : Nat} {r0 r : Option Nat} {sp dp n : Int32} {f : Mem → XA} (hl : Cond.methodLink mt.1.cls index arraycopyName ∈ xbig) (hnat : Cond.native arraycopyName ∈ xbig) (hst : Cond.static arraycopyName ∈ xbig) (hini : Cond.initialized "java/lang/System" ∈ xbig) (h8 : st.length ≤ 4) (hd : decode mt.2.1 pc = .ok (.invokestatic index, 3)) (k : ∀ M', Xe S G K l mt d (pc + 3) lo st M' (f M')) : Xe S G K l mt d pc lo (.int n :: .int dp :: va_rf r :: .int sp :: va_rf r0 :: st) M (acI M r0 sp r dp n f) := by
  cases r0 with
  | none => exact x_none
  | some a0 =>
    cases r with
    | none => exact x_none
    | some a =>
      unfold acI
      by_cases ha : acOK 100 M a0 sp a dp n = true
      · simp only [if_pos ha]
        obtain ⟨n0, n1, p1, p2, p3, p4, p5, p6, p7⟩ := acOK_of ha
        refine fun r M' e => ⟨(k _ r M' e).1, fun h hn9 a1 b d9 f9 H locs ls h1 h2 h3 => ?_⟩
        have hs := st_cat (st.map (cv G))
        rw [List.length_map] at hs
        have h40 := hn9.2.2.2
        have hnw : nativeFrameWords "java/lang/System" "arraycopy" 5 + 11 ≤ 30 := by decide
        refine xw_copyI h.1 h.2.1 (h.2.2.1.trans h3.1.symm) h.2.2.2.1 (h.2.2.2.2.1 _ hl) (h.2.2.2.2.1 _ hnat) (h.2.2.2.2.1 _ hst) (h.2.2.2.2.1 _ hini) h.2.2.2.2.2.2.2.1 0 (mW_arrI h1 (by decide) (by decide) p1) (mW_arrI h1 (by decide) (by decide) p2) rfl p3 p4 p5 p6 p7 (by have := hn9.2.2.1; omega) (by omega) hd fun H1 locs1 e1 z1 o1 l1 => ?_
        exact (k _ r M' e).2 h hn9 a1 b d9 f9 H1 locs1 ls (mW_cp h1 (by decide) (by decide) p2 rfl e1 z1 o1 (fun b j hb => ⟨if_neg hb, rfl, rfl⟩) (fun j => (xv_I (xkk_a (by decide))).trans (congrArg Value.int (if_pos rfl)))) (hloc_or h1 (by simp) p2 h2 l1) h3
      · simp only [if_neg ha]
        exact x_none
theorem obN_at {a0 sp : Nat} : ∀ (n i : Nat), obN M a0 sp n = true → i < n → asOK 110 M (M.2.2.1 a0 (sp + i)) = true
  | 0, i, _, h => by omega
  | n + 1, i, h, hi => by
    simp only [obN, Bool.and_eq_true] at h
    by_cases e : i = n
    · subst e
      exact h.2
    · exact obN_at n i h.1 (by omega)
theorem x_acP {index : Nat} {r0 r : Option Nat} {sp dp n : Int32} {f : Mem → XA} (hl : Cond.methodLink mt.1.cls index arraycopyName ∈ xbig) (hnat : Cond.native arraycopyName ∈ xbig) (hst : Cond.static arraycopyName ∈ xbig) (hini : Cond.initialized "java/lang/System" ∈ xbig) (hasg : ∀ (U : State), XE G U → ∀ (q : Nat × Nat), (if 110 = 110 then decide (q.1 < 14) else if 110 = 111 then q.1 == 6 else if 110 = 112 then q.1 == 10 else false) = true → q.1 < 14 ∧ ∀ comp, U.vm.findClass "java/lang/Object" = some comp → U.vm.assignable (G.1.1 q.1) comp = true) (h8 : st.length ≤ 4) (hd : decode mt.2.1 pc = .ok (.invokestatic index, 3)) (k : ∀ M', Xe S G K l mt d (pc + 3) lo st M' (f M')) : Xe S G K l mt d pc lo (.int n :: .int dp :: va_rf r :: .int sp :: va_rf r0 :: st) M (acP M r0 sp r dp n f) := by
  cases r0 with
  | none => exact x_none
  | some a0 =>
    cases r with
    | none => exact x_none
    | some a =>
      unfold acP
      by_cases ha : acOK 110 M a0 sp a dp n = true ∧ obN M a0 sp.toNatClampNeg n.toNatClampNeg = true
      · simp only [if_pos ha]
        obtain ⟨n0, n1, p1, p2, p3, p4, p5, p6, p7⟩ := acOK_of ha.1
        refine fun r M' e => ⟨(k _ r M' e).1, fun h hn9 a1 b d9 f9 H locs ls h1 h2 h3 => ?_⟩
        have hs := st_cat (st.map (cv G))
        rw [List.length_map] at hs
        have h40 := hn9.2.2.2
        have hnw : nativeFrameWords "java/lang/System" "arraycopy" 5 + 11 ≤ 30 := by decide
        refine xw_copyP h.1 h.2.1 (h.2.2.1.trans h3.1.symm) h.2.2.2.1 (h.2.2.2.2.1 _ hl) (h.2.2.2.2.1 _ hnat) (h.2.2.2.2.1 _ hst) (h.2.2.2.2.1 _ hini) h.2.2.2.2.2.2.2.1 5 (mW_arrP h1 (by decide) (by decide) p1) (mW_arrP h1 (by decide) (by decide) p2) rfl p3 p4 p5 p6 p7 (fun i hi y hy => ?_) (by have := hn9.2.2.1; omega) (by omega) hd fun H1 locs1 e1 z1 o1 l1 => ?_
        · have h9 := obN_at _ i ha.2 hi
          cases hv : M.2.2.1 a0 (sp.toNatClampNeg + i) with
          | none => rw [hv] at hy; cases hy
          | some v =>
            rw [hv] at h9 hy
            cases hy
            obtain ⟨q, hq, hok⟩ := asOK_at h9
            obtain ⟨ci, nq⟩ := q
            obtain ⟨hlt, hass⟩ := hasg _ h.2.2.2.2.2.2.2 _ hok
            obtain ⟨cell, q1, q2, q3, -⟩ := (h1.2.2.1 v ci nq hq).1 (by simp at hlt; omega)
            have hkc : ∃ rc, vwCl[ci]? = some rc := ⟨_, List.getElem?_eq_getElem (show ci < vwCl.length from hlt)⟩
            obtain ⟨rc, hrc⟩ := hkc
            exact ⟨cell, q1, by rw [q3]; rfl, ⟨_, by rw [q2]; exact (h.2.2.2.2.2.2.2.1.1 ci _ hrc).2.1⟩, by rw [q2]; exact hass⟩
        · exact (k _ r M' e).2 h hn9 a1 b d9 f9 H1 locs1 ls (mW_cp h1 (by decide) (by decide) p2 rfl e1 z1 o1 (fun b j hb => ⟨rfl, rfl, if_neg hb⟩) (fun j => by
            rw [xv_P (xkk_a (by decide))]
            show va_rf (((cpP M a0 sp.toNatClampNeg a dp.toNatClampNeg n.toNatClampNeg).2.2.1 a j).map (xtr G)) = _
            congr 1
            simp only [cpP, if_true, va_cpy]
            split <;> rfl)) (hloc_or h1 (by simp) p2 h2 l1) h3
      · simp only [if_neg ha]
        exact x_none
theorem x_clI {index : Nat} (hl : Cond.methodLink mt.1.cls index ⟨"[I", "clone", "()Ljava/lang/Object;"⟩ ∈ xbig) (hsame : Cond.sameMethod "[I" "java/lang/Object" "clone" "()Ljava/lang/Object;" ∈ xbig) (hnat : Cond.native ⟨"java/lang/Object", "clone", "()Ljava/lang/Object;"⟩ ∈ xbig) (hinst : Cond.instanceMethod ⟨"java/lang/Object", "clone", "()Ljava/lang/Object;"⟩ ∈ xbig) (hsel : Cond.selects "[I" ⟨"[I", "clone", "()Ljava/lang/Object;"⟩ ⟨"java/lang/Object", "clone", "()Ljava/lang/Object;"⟩ ∈ xbig) (h8 : st.length ≤ 4) (hd : decode mt.2.1 pc = .ok (.invokevirtual index, 3)) {r : Option Nat} {f : Option Nat → Mem → XA} (k : ∀ x M', Xe S G K l mt d (pc + 3) lo (va_rf x :: st) M' (f x M')) : Xe S G K l mt d pc lo (va_rf r :: st) M (clI M r f) := by
  cases r with
  | none => exact x_none
  | some a =>
    unfold clI
    cases hq : M.2.2.2[a]? with
    | none => simp only [hq]; exact x_none
    | some q =>
      obtain ⟨t, n⟩ := q
      simp only [hq]
      by_cases ht : t = 100
      · subst ht
        rw [if_pos rfl]
        refine fun r M' e => ?_
        obtain ⟨hp, kk⟩ := k _ _ r M' e
        have hp0 : M.2.2.2 <+: M'.2.2.2 := List.IsPrefix.trans ⟨[(100, n)], rfl⟩ hp
        refine ⟨hp0, fun h hn9 a1 b d9 f9 H locs ls h1 h2 h3 => ?_⟩
        have hlen := pfx_len hp
        have htot := pfx_tot hp
        have et : tot (M.2.2.2 ++ [(100, n)]) = tot M.2.2.2 + n := tot_app _ _ _
        have el : (M.2.2.2 ++ [(100, n)]).length = M.2.2.2.length + 1 := by simp
        have ea : xtr G M.2.2.2.length = H.size := by rw [xtr_new h1.1.2]; have := h1.1.1; have := h1.1.2; omega
        have hs := st_cat (st.map (cv G))
        rw [List.length_map] at hs
        have h40 := hn9.2.2.2
        refine xw_clone h.1 h.2.1 (h.2.2.1.trans h3.1.symm) h.2.2.2.1 (h.2.2.2.2.1 _ hl) (h.2.2.2.2.1 _ hsame) (h.2.2.2.2.1 _ hnat) (h.2.2.2.2.1 _ hinst) (h.2.2.2.2.1 _ hsel) (va_Nw.use rfl h.2.2.2.2.2.2.2.2.2.2.2.2.1.2.2.1) h.2.2.2.2.2.2.2.1 0 (mW_arrI h1 (by decide) (by decide) hq) rfl ((h.2.2.2.2.2.2.2.1.2 0 _ rfl).2) (by have := hn9.2.2.1; omega) (by omega) (by simp only at hlen; omega) (by simp only at htot; omega) hd ?_
        have hlt : a < M.2.2.2.length := (List.getElem?_eq_some_iff.mp hq).1
        have hM2 : mW G (fun b j => if b = M.2.2.2.length then M.1 a j else M.1 b j, clr M.2.1 M.2.2.2.length 0, clr M.2.2.1 M.2.2.2.length none, M.2.2.2 ++ [(100, n)]) (H.push (arrV (G.2.1 100) n (fun j => .int (M.1 a j)))) := by
          have h0 := mW_new (H1 := H.push (arrV (G.2.1 100) n (fun j => .int 0))) (t := 100) (n := n) h1 (by decide) (by simp) (fun q hq => by rw [Array.getElem?_push, if_neg (Nat.ne_of_lt hq)]) ⟨fun h9 => by omega, fun _ _ => by
            rw [ea]
            simp only [Array.getElem?_push, if_true]
            congr 2
            funext j
            rw [xv_nw]
            rfl, fun h9 => by omega⟩
          have hk0 : (nw M 100 n).2.2.2[M.2.2.2.length]? = some (100, n) := by simp [nw]
          refine mW_cp h0 (by decide) (by decide) hk0 rfl (F := fun j => .int (M.1 a j)) (by rw [ea]; simp) (by simp) (fun q hq => ?_) (fun b j hb => ⟨?_, rfl, rfl⟩) (fun j => ?_)
          · rw [ea] at hq
            simp only [Array.getElem?_push, if_neg hq]
          · show (if b = M.2.2.2.length then M.1 a j else M.1 b j) = clr M.1 M.2.2.2.length 0 b j
            simp [clr, hb]
          · rw [xv_I (xkk_a (by decide))]
            simp
        have := kk h hn9 (by rw [el]; omega) (by rw [et]; omega) d9 f9 _ locs ls hM2 h2 h3
        simp only [et, el] at this
        rw [show M.2.2.2.length - K.1 + 1 = M.2.2.2.length + 1 - K.1 by omega, show tot M.2.2.2 - K.2 + n = tot M.2.2.2 + n - K.2 by omega]
        rw [← ea]
        exact this
      · rw [if_neg ht]
        exact x_none
theorem x_gcl {index : Nat} (hl : Cond.methodLink mt.1.cls index ⟨"java/lang/Object", "getClass", "()Ljava/lang/Class;"⟩ ∈ xbig) (hsel : Cond.selects "[Ljava/lang/Object;" ⟨"java/lang/Object", "getClass", "()Ljava/lang/Class;"⟩ ⟨"java/lang/Object", "getClass", "()Ljava/lang/Class;"⟩ ∈ xbig) (hinst : Cond.instanceMethod ⟨"java/lang/Object", "getClass", "()Ljava/lang/Class;"⟩ ∈ xbig) (hnat : Cond.native ⟨"java/lang/Object", "getClass", "()Ljava/lang/Class;"⟩ ∈ xbig) (h8 : st.length ≤ 4) (hd : decode mt.2.1 pc = .ok (.invokevirtual index, 3)) {r : Option Nat} {f : Option Nat → XA} (k : ∀ x, Xe S G K l mt d (pc + 3) lo (va_rf x :: st) M (f x)) : Xe S G K l mt d pc lo (va_rf r :: st) M (gcl M r f) := by
  cases r with
  | none => exact x_none
  | some a =>
    unfold gcl
    cases hq : M.2.2.2[a]? with
    | none => simp only [hq]; exact x_none
    | some q =>
      obtain ⟨t, n⟩ := q
      simp only [hq]
      by_cases ht : t = 110
      · subst ht
        rw [if_pos rfl]
        refine fun r M' e => ⟨(k _ r M' e).1, fun h hn9 a1 b d9 f9 H locs ls h1 h2 h3 => ?_⟩
        have hs := st_cat (st.map (cv G))
        rw [List.length_map] at hs
        have h40 := hn9.2.2.2
        refine va_getC h.1 h.2.1 (h.2.2.1.trans h3.1.symm) h.2.2.2.1 (h.2.2.2.2.1 _ hl) (va_Dc.use h.2.2.2.2.2.2.2.2.2.2.2.1) (h.2.2.2.2.1 _ hsel) (h.2.2.2.2.1 _ hinst) (h.2.2.2.2.1 _ hnat) h.2.2.2.2.2.2.2.2.2.2.1 ⟨_, mW_arr h1 (by decide) (by decide) hq, rfl, va_nmO (h.2.2.2.2.2.2.2.1.2 5 _ rfl).2 rfl⟩ (by have := hn9.2.2.1; omega) (by omega) hd ?_
        have e9 : cv G (va_rf (some 63)) = .ref (G.2.2.1 63) := congrArg Value.ref (xtr_old (by decide))
        rw [← e9]
        exact (k _ r M' e).2 h hn9 a1 b d9 f9 H locs ls h1 h2 h3
      · rw [if_neg ht]
        exact x_none
theorem x_cstA {t index : Nat} {nm : String} {A : XA} {r : Option Nat} (ht : 100 ≤ t) (ht3 : t < 200) (hnm : ∀ U, XE G U → U.vm.findClass nm = some (G.2.1 t)) (hcl : Cond.classLink mt.1.cls index nm ∈ xbig) (hd : decode mt.2.1 pc = .ok (.checkcast index, 3)) (k : Xe S G K l mt d (pc + 3) lo (va_rf r :: st) M A) : Xe S G K l mt d pc lo (va_rf r :: st) M (cstA t M r A) := by
  cases r with
  | none => exact x_pure (fun h _ _ _ _ _ _ w => lv_castN h.1 h.2.1 hd w) k
  | some a =>
    unfold cstA
    cases hq : M.2.2.2[a]? with
    | none => simp only [hq]; exact x_none
    | some q =>
      obtain ⟨u, n⟩ := q
      simp only [hq]
      by_cases hu : u = t
      · subst hu
        rw [if_pos rfl]
        exact fun r M' e => ⟨(k r M' e).1, fun h hn9 a1 b d9 f9 H locs ls h1 h2 h3 => va_castE h.1 h.2.1 h.2.2.2.1 (h.2.2.2.2.1 _ hcl) ⟨_, mW_arr h1 ht ht3 hq, rfl, hnm _ h.2.2.2.2.2.2.2⟩ hd ((k r M' e).2 h hn9 a1 b d9 f9 H locs ls h1 h2 h3)⟩
      · rw [if_neg hu]
        exact x_none
end XR13
