def aI (as : List Value) (k : Int32 → List Value → XA) : XA := match as with
  | .int v :: l => k v l
  | _ => none
def aL (as : List Value) (k : Int64 → List Value → XA) : XA := match as with
  | .long v :: l => k v l
  | _ => none
def aR (as : List Value) (k : Option Nat → List Value → XA) : XA := match as with
  | .null :: l => k none l
  | .ref a :: l => k (some a) l
  | _ => none
def aZ (as : List Value) (x : XA) : XA := match as with
  | [] => x
  | _ => none
theorem swG_d {P : Nat → XA → Prop} {z : Int} {t : Nat} {c : Int32} {a : XA} {ts : List (Int × Nat)} {as : List (Int32 × XA)} (h1 : c.toInt = z) (h2 : P t a) (h3 : swG P ts as) : swG P ((z, t) :: ts) ((c, a) :: as) := ⟨⟨h1, h2⟩, h3⟩
theorem xargs_nil : xargs [] = [] := rfl
theorem aI_inv {as : List Value} {k : Int32 → List Value → XA} {x : Value × Mem} (h : aI as k = some x) : ∃ v l, as = .int v :: l ∧ k v l = some x := by
  unfold aI at h
  split at h
  · exact ⟨_, _, rfl, h⟩
  · cases h
theorem aL_inv {as : List Value} {k : Int64 → List Value → XA} {x : Value × Mem} (h : aL as k = some x) : ∃ v l, as = .long v :: l ∧ k v l = some x := by
  unfold aL at h
  split at h
  · exact ⟨_, _, rfl, h⟩
  · cases h
theorem aR_inv {as : List Value} {k : Option Nat → List Value → XA} {x : Value × Mem} (h : aR as k = some x) : ∃ v l, as = va_rf v :: l ∧ k v l = some x := by
  unfold aR at h
  split at h
  · exact ⟨none, _, rfl, h⟩
  · exact ⟨some _, _, rfl, h⟩
  · cases h
theorem aZ_inv {as : List Value} {y : XA} {x : Value × Mem} (h : aZ as y = some x) : as = [] ∧ y = some x := by
  unfold aZ at h
  split at h
  · exact ⟨rfl, h⟩
  · cases h
/-- what holds of a method's meaning at the next depth -/
def Snd1 (l : Launch) (q : Nat) (b : List Value → Mem → XA) (d : Nat) : Prop :=
  ∀ (as : List Value) (M : Mem) (r : Value) (M' : Mem), b as M = some (r, M') → M.2.2.2 <+: M'.2.2.2 ∧ ∀ (G : XG),
    Met l (xmt q).1 (xws (xmt q)) (xrm (d + 1) (M'.2.2.2.length - M.2.2.2.length) (tot M'.2.2.2 - tot M.2.2.2)) (va_Pc (as.map (cv G)) (fun U => mW G M U.heap ∧ XE G U)) (fun _ _ o t => o = .returned (if (xmt q).2.2.2.isNone then none else some (cv G r)) ∧ mW G M' t.heap) (M'.2.2.2.length - M.2.2.2.length) (tot M'.2.2.2 - tot M.2.2.2) (fun q => G.2.2.2.2 ≤ q)
theorem xmet {l : Launch} {d n : Nat} (q : Nat) {qt : XMt} (hq : xmt q = qt) (hm : XMi qt n) {as : List Value} {M M' : Mem} {r : Value} {c : XA} {lo : List (Option Value)} (hl : xsub lo (xargs as)) (hsz : (xargs as).length ≤ qt.2.2.1)
    (hb : ∀ (S : XS) (G : XG) (K : Nat × Nat), Xe S G K l qt d 0 lo [] M c) (hc : c = some (r, M')) (hS : Nonempty XS) : M.2.2.2 <+: M'.2.2.2 ∧ ∀ (G : XG),
    Met l (xmt q).1 (xws (xmt q)) (xrm (d + 1) (M'.2.2.2.length - M.2.2.2.length) (tot M'.2.2.2 - tot M.2.2.2)) (va_Pc (as.map (cv G)) (fun U => mW G M U.heap ∧ XE G U)) (fun _ _ o t => o = .returned (if (xmt q).2.2.2.isNone then none else some (cv G r)) ∧ mW G M' t.heap) (M'.2.2.2.length - M.2.2.2.length) (tot M'.2.2.2 - tot M.2.2.2) (fun q => G.2.2.2.2 ≤ q) := by
  subst hq
  exact x_met hm hl hsz hb hc hS ⟨(((fun _ => 0), fun _ _ => 0), fun _ => 0, fun _ => 0, #[], 0)⟩
