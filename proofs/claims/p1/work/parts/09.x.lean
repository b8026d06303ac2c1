def lt {α : Type} (e : α) (k : α → XA) : XA := k e
def swI (x : Int32) : List (Int32 × XA) → XA → XA
  | [], d => d
  | (c, a) :: l, d => if x = c then a else swI x l d
section XR9
variable {S : XS} {G : XG} {K : Nat × Nat} {l : Launch} {mt : XMt} {d : Nat} {pc : Nat} {lo : List (Option Value)} {st : List Value} {M : Mem} {c : Option (Value × Mem)}
theorem x_ltI {e : Int32} {f : Int32 → XA} (k : ∀ x, Xe S G K l mt d pc lo (.int x :: st) M (f x)) : Xe S G K l mt d pc lo (.int e :: st) M (lt e f) := k e
theorem x_ltL {e : Int64} {f : Int64 → XA} (k : ∀ x, Xe S G K l mt d pc lo (.long x :: st) M (f x)) : Xe S G K l mt d pc lo (.long e :: st) M (lt e f) := k e
theorem x_iincN {i : Nat} {n : Int} {x v : Int32} {f : Int32 → XA} {lo' : Int32 → List (Option Value)} (hv : Int32.ofInt n = v) (hd : decode mt.2.1 pc = .ok (.iinc i n, 3)) (hx : lo[i]? = some (some (.int x))) (hi : i < mt.2.2.1) (hok : xok1 lo i = true) (hs : ∀ x, lo.set i (some (.int x)) = lo' x) (k : ∀ x, Xe S G K l mt d (pc + 3) (lo' x) st M (f x)) : Xe S G K l mt d pc lo st M (lt (x + v) f) := by
  subst hv
  exact x_iinc hd hx hi hok (hs _) (k _)
theorem x_lret {x : Int64} (hret : mt.2.2.2 = some .long) (hd : decode mt.2.1 pc = .ok (.lreturn, 1)) : Xe S G K l mt d pc lo [.long x] M (some (.long x, M)) := by
  intro r M' e
  cases e
  refine ⟨List.prefix_refl _, fun h hn9 a1 b d9 f9 H locs ls h1 h2 h3 => ?_⟩
  exact W.lret h.1 h.2.1 (h.2.2.2.2.2.2.1.trans hret) (fun t ht hW => ⟨by rw [hret]; rfl, by rw [ht]; exact h1⟩) h2 hd h.2.2.2.2.2.1
theorem xrty_or {t : FieldType} (h : xrty t = true) : (∃ n, t = .object n) ∨ ∃ q, t = .array q := by
  cases t <;> first | exact Or.inl ⟨_, rfl⟩ | exact Or.inr ⟨_, rfl⟩ | (simp [xrty] at h)
theorem xrf_or (r : Option Nat) : va_rf r = .null ∨ ∃ a, va_rf r = .ref a := by
  cases r with
  | none => exact Or.inl rfl
  | some a => exact Or.inr ⟨a, rfl⟩
theorem x_aret {rt : FieldType} {x : Option Nat} (hret : mt.2.2.2 = some rt) (hrt : xrty rt = true) (hd : decode mt.2.1 pc = .ok (.areturn, 1)) : Xe S G K l mt d pc lo [va_rf x] M (some (va_rf x, M)) := by
  intro r M' e
  cases e
  refine ⟨List.prefix_refl _, fun h hn9 a1 b d9 f9 H locs ls h1 h2 h3 => ?_⟩
  show XW S H locs _ _ _ (F0 _ pc ls [cv G (va_rf x)])
  rw [cv_rf]
  exact W.aret h.1 h.2.1 (h.2.2.2.2.2.2.1.trans hret) (xrty_or hrt) (xrf_or _) (fun t ht hW => ⟨by rw [hret, ← cv_rf]; rfl, by rw [ht]; exact h1⟩) h2 hd h.2.2.2.2.2.1
/-- the ways of a switch: number, place, and what is done there -/
def swG (P : Nat → XA → Prop) : List (Int × Nat) → List (Int32 × XA) → Prop
  | [], [] => True
  | q :: ts, a :: as => (a.1.toInt = q.1 ∧ P q.2 a.2) ∧ swG P ts as
  | _, _ => False
theorem sw_lk {P : Nat → XA → Prop} {x : Int32} {B : XA} {dflt : Int} {pc tgt : Nat} (hD : (pc : Int) + dflt = (tgt : Int)) (hB : P tgt B) : ∀ (ps : List (Int × Int)) (ts : List (Int × Nat)) (as : List (Int32 × XA)), ps.map (fun q => (q.1, (pc : Int) + q.2)) = ts.map (fun q => (q.1, (q.2 : Int))) → swG P ts as → ∃ (t : Nat), (pc : Int) + lookupswitch.offset ps dflt x.toInt = (t : Int) ∧ P t (swI x as B)
  | [], [], [], _, _ => ⟨tgt, hD, hB⟩
  | [], [], a :: as, _, h => h.elim
  | [], q :: ts, as, h, _ => by simp at h
  | p :: ps, [], as, h, _ => by simp at h
  | p :: ps, q :: ts, [], _, h => h.elim
  | (v, o) :: ps, (w, t) :: ts, (c, a) :: as, h, hg => by
    simp only [List.map_cons, List.cons.injEq, Prod.mk.injEq] at h
    obtain ⟨⟨h1, h2⟩, h3⟩ := h
    obtain ⟨⟨g1, g2⟩, g3⟩ := hg
    by_cases e : v = x.toInt
    · have hc : x = c := Int32.toInt_inj.mp (by rw [← e, h1]; exact g1.symm)
      refine ⟨t, ?_, ?_⟩
      · rw [lookupswitch.offset_cons, if_pos e]; exact h2
      · rw [swI, if_pos hc]; exact g2
    · have hc : ¬ x = c := fun q => e (by rw [h1, q]; exact g1.symm)
      obtain ⟨u, k1, k2⟩ := sw_lk (x := x) hD hB ps ts as h3 g3
      refine ⟨u, ?_, ?_⟩
      · rw [lookupswitch.offset_cons, if_neg e]; exact k1
      · rw [swI, if_neg hc]; exact k2
theorem x_lookup {dflt : Int} {ps : Array (Int × Int)} {len tgt : Nat} {x : Int32} {B : XA} {as : List (Int32 × XA)} (hd : decode mt.2.1 pc = .ok (.lookupswitch dflt ps, len)) (ts : List (Int × Nat)) (hp : (ps.toList.zip (ps.toList.drop 1)).all (fun (a, next) => a.1 < next.1) = true) (ht : ps.toList.map (fun q => (q.1, (pc : Int) + q.2)) = ts.map (fun q => (q.1, (q.2 : Int)))) (hD : (pc : Int) + dflt = (tgt : Int)) (hA : swG (fun t a => Xe S G K l mt d t lo st M a) ts as) (hB : Xe S G K l mt d tgt lo st M B) : Xe S G K l mt d pc lo (.int x :: st) M (swI x as B) := by
  obtain ⟨t, h1, h2⟩ := sw_lk (P := fun t a => Xe S G K l mt d t lo st M a) (x := x) hD hB ps.toList ts as ht hA
  exact x_pure (fun h _ _ _ _ _ _ w => lv_lookup h.1 h.2.1 hd hp rfl h1 w) h2
theorem sw_tb {P : Nat → XA → Prop} {x : Int32} {B : XA} {pc : Nat} : ∀ (os : List Int) (ts : List (Int × Nat)) (as : List (Int32 × XA)) (k : Int), ts.map (fun q => (q.2 : Int)) = os.map (fun q => (pc : Int) + q) → (∀ (j : Nat) (q : Int × Nat), ts[j]? = some q → q.1 = k + j) → swG P ts as → (x.toInt < k ∨ k + os.length ≤ x.toInt → swI x as B = B) ∧ (k ≤ x.toInt → x.toInt < k + os.length → ∃ (t : Nat) (o : Int), os[(x.toInt - k).toNat]? = some o ∧ (pc : Int) + o = (t : Int) ∧ P t (swI x as B))
  | [], [], [], k, _, _, _ => ⟨fun _ => rfl, fun h1 h2 => by simp at h2; omega⟩
  | [], [], a :: as, k, _, _, h => h.elim
  | [], q :: ts, as, k, h, _, _ => by simp at h
  | p :: ps, [], as, k, h, _, _ => by simp at h
  | p :: ps, q :: ts, [], k, _, _, h => h.elim
  | o :: os, (w, t) :: ts, (c, a) :: as, k, h, hi, hg => by
    simp only [List.map_cons, List.cons.injEq] at h
    obtain ⟨h1, h2⟩ := h
    obtain ⟨⟨g1, g2⟩, g3⟩ := hg
    have hw : w = k := by simpa using hi 0 (w, t) rfl
    obtain ⟨i1, i2⟩ := sw_tb (P := P) (x := x) (B := B) (pc := pc) os ts as (k + 1) h2 (fun j q hq => by have := hi (j + 1) q (by simpa using hq); rw [this]; omega) g3
    have gc : c.toInt = k := g1.trans hw
    by_cases e : x = c
    · refine ⟨fun h => ?_, fun _ _ => ⟨t, o, ?_, h1.symm, ?_⟩⟩
      · subst e; simp only [List.length_cons] at h; omega
      · subst e
        rw [gc]
        simp
      · rw [swI, if_pos e]; exact g2
    · have ne : x.toInt ≠ k := fun q => e (Int32.toInt_inj.mp (q.trans gc.symm))
      rw [swI, if_neg e]
      refine ⟨fun h => i1 (by simp only [List.length_cons] at h; omega), fun h3 h4 => ?_⟩
      obtain ⟨t', o', j1, j2, j3⟩ := i2 (by omega) (by simp only [List.length_cons] at h4; omega)
      refine ⟨t', o', ?_, j2, j3⟩
      rw [show (x.toInt - k).toNat = (x.toInt - (k + 1)).toNat + 1 by omega]
      simpa using j1
theorem x_table {dflt lw hi : Int} {offs : Array Int} {len tgt : Nat} {x : Int32} {B : XA} {as : List (Int32 × XA)} (hd : decode mt.2.1 pc = .ok (.tableswitch dflt lw hi offs, len)) (ts : List (Int × Nat)) (hlen : hi + 1 = lw + offs.toList.length) (ht : ts.map (fun q => (q.2 : Int)) = offs.toList.map (fun q => (pc : Int) + q) ∧ ts.map (fun q => q.1) = (List.range ts.length).map (fun (j : Nat) => lw + (j : Int))) (hD : (pc : Int) + dflt = (tgt : Int)) (hA : swG (fun t a => Xe S G K l mt d t lo st M a) ts as) (hB : Xe S G K l mt d tgt lo st M B) : Xe S G K l mt d pc lo (.int x :: st) M (swI x as B) := by
  obtain ⟨i1, i2⟩ := sw_tb (P := fun t a => Xe S G K l mt d t lo st M a) (x := x) (B := B) (pc := pc) offs.toList ts as lw ht.1 (fun j q hq => by
    have h1 : (ts.map (fun q => q.1))[j]? = some q.1 := by rw [List.getElem?_map, hq]; rfl
    rw [ht.2, List.getElem?_map] at h1
    by_cases hj : j < ts.length
    · rw [List.getElem?_range hj] at h1
      exact (Option.some.inj h1).symm
    · rw [List.getElem?_eq_none (by rw [List.length_range]; omega)] at h1
      cases h1) hA
  by_cases h1 : x.toInt < lw ∨ hi < x.toInt
  · rw [i1 (by omega)]
    exact x_pure (fun h _ _ _ _ _ _ w => lv_tableOut h.1 h.2.1 hd h1 hD w) hB
  · obtain ⟨t, o, j1, j2, j3⟩ := i2 (by omega) (by omega)
    exact x_pure (fun h _ _ _ _ _ _ w => lv_tableIn h.1 h.2.1 hd (by omega) (by omega) (by rw [← Array.getElem?_toList]; exact j1) j2 w) j3
theorem cI_bind {x : XA} {f : Int32 → Mem → XA} : cI x f = x.bind (fun p => (match p.1 with
  | .int v => f v p.2
  | _ => none : XA)) := by
  unfold cI
  cases x with
  | none => rfl
  | some p => obtain ⟨v, M⟩ := p; cases v <;> rfl
theorem cL_bind {x : XA} {f : Int64 → Mem → XA} : cL x f = x.bind (fun p => (match p.1 with
  | .long v => f v p.2
  | _ => none : XA)) := by
  unfold cL
  cases x with
  | none => rfl
  | some p => obtain ⟨v, M⟩ := p; cases v <;> rfl
theorem cP_bind {x : XA} {f : Option Nat → Mem → XA} : cP x f = x.bind (fun p => (match p.1 with
  | .null => f none p.2
  | .ref a => f (some a) p.2
  | _ => none : XA)) := by
  unfold cP
  cases x with
  | none => rfl
  | some p => obtain ⟨v, M⟩ := p; cases v <;> rfl
theorem cV_bind {x : XA} {f : Mem → XA} : cV x f = x.bind (fun p => f p.2) := by
  unfold cV
  cases x with
  | none => rfl
  | some p => obtain ⟨v, M⟩ := p; cases v <;> rfl
theorem k_I {f : Int32 → Mem → XA} {b : Bool} (hb : b = false) {p9 : Nat} (k : ∀ x M1, Xe S G K l mt d p9 lo (.int x :: st) M1 (f x M1)) (v : Value) (M1 : Mem) : Xe S G K l mt d p9 lo ((if b then [] else [v]) ++ st) M1 (match v with
  | .int v => f v M1
  | _ => none : XA) := by
  subst hb
  cases v with
  | int x => exact k x M1
  | _ => exact x_none
theorem k_L {f : Int64 → Mem → XA} {b : Bool} (hb : b = false) {p9 : Nat} (k : ∀ x M1, Xe S G K l mt d p9 lo (.long x :: st) M1 (f x M1)) (v : Value) (M1 : Mem) : Xe S G K l mt d p9 lo ((if b then [] else [v]) ++ st) M1 (match v with
  | .long v => f v M1
  | _ => none : XA) := by
  subst hb
  cases v with
  | long x => exact k x M1
  | _ => exact x_none
theorem k_P {f : Option Nat → Mem → XA} {b : Bool} (hb : b = false) {p9 : Nat} (k : ∀ x M1, Xe S G K l mt d p9 lo (va_rf x :: st) M1 (f x M1)) (v : Value) (M1 : Mem) : Xe S G K l mt d p9 lo ((if b then [] else [v]) ++ st) M1 (match v with
  | .null => f none M1
  | .ref a => f (some a) M1
  | _ => none : XA) := by
  subst hb
  cases v with
  | null => exact k none M1
  | ref a => exact k (some a) M1
  | _ => exact x_none
theorem k_V {f : Mem → XA} {b : Bool} (hb : b = true) {p9 : Nat} (k : ∀ M1, Xe S G K l mt d p9 lo st M1 (f M1)) (v : Value) (M1 : Mem) : Xe S G K l mt d p9 lo ((if b then [] else [v]) ++ st) M1 (f M1) := by
  subst hb
  exact k M1
end XR9
theorem swG_c {P : Nat → XA → Prop} {q : Int × Nat} {a : Int32 × XA} {ts : List (Int × Nat)} {as : List (Int32 × XA)} (h1 : a.1.toInt = q.1) (h2 : P q.2 a.2) (h3 : swG P ts as) : swG P (q :: ts) (a :: as) := ⟨⟨h1, h2⟩, h3⟩
theorem xok_r {lo : List (Option Value)} {i : Nat} {r : Option Nat} (h : lo[i]? = some (some (va_rf r))) : xok1 lo (i + 1) = true := by
  unfold xok1
  simp only [h]
  cases r <;> rfl
