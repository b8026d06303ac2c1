abbrev XA : Type := Option (Value × Mem)
def gtI (t : Nat × Nat) (M : Mem) (r : Option Nat) (j : Nat) (k : Int32 → XA) : XA := match r with
  | none => none
  | some a => if M.2.2.2[a]? = some t then k (M.1 a j) else none
def gtL (t : Nat × Nat) (M : Mem) (r : Option Nat) (j : Nat) (k : Int64 → XA) : XA := match r with
  | none => none
  | some a => if M.2.2.2[a]? = some t then k (M.2.1 a j) else none
def gtP (t : Nat × Nat) (M : Mem) (r : Option Nat) (j : Nat) (k : Option Nat → XA) : XA := match r with
  | none => none
  | some a => if M.2.2.2[a]? = some t then k (M.2.2.1 a j) else none
def ptI (t : Nat × Nat) (M : Mem) (r : Option Nat) (j : Nat) (v : Int32) (k : Mem → XA) : XA := match r with
  | none => none
  | some a => if M.2.2.2[a]? = some t then k (sI M a j v) else none
def ptZ (t : Nat × Nat) (M : Mem) (r : Option Nat) (j : Nat) (v : Int32) (k : Mem → XA) : XA := match r with
  | none => none
  | some a => if M.2.2.2[a]? = some t ∧ (v = 0 ∨ v = 1) then k (sI M a j v) else none
def ptL (t : Nat × Nat) (M : Mem) (r : Option Nat) (j : Nat) (v : Int64) (k : Mem → XA) : XA := match r with
  | none => none
  | some a => if M.2.2.2[a]? = some t then k (sL M a j v) else none
def ptP (t : Nat × Nat) (M : Mem) (r : Option Nat) (j : Nat) (v : Option Nat) (k : Mem → XA) : XA := match r with
  | none => none
  | some a => if M.2.2.2[a]? = some t then k (sP M a j v) else none
/-- a is an array of that tag, and i an index of it -/
def inA (M : Mem) (a t : Nat) (i : Int32) : Prop := ∃ n, M.2.2.2[a]? = some (t, n) ∧ vp_in i n
def inAb (M : Mem) (a t : Nat) (i : Int32) : Bool := match M.2.2.2[a]? with
  | none => false
  | some q => q.1 == t && (!(decide (i < 0)) && decide (i.toNatClampNeg < q.2))
theorem inAb_iff {M : Mem} {a t : Nat} {i : Int32} : inAb M a t i = true ↔ inA M a t i := by
  unfold inAb inA vp_in
  cases hq : M.2.2.2[a]? with
  | none => simp
  | some q =>
    obtain ⟨u, n⟩ := q
    simp only [Bool.and_eq_true, beq_iff_eq, Bool.not_eq_true', decide_eq_false_iff_not, decide_eq_true_eq, Option.some.injEq, Prod.mk.injEq]
    constructor
    · rintro ⟨rfl, h1, h2⟩
      exact ⟨n, ⟨rfl, rfl⟩, fun h => h.elim h1 (fun h => by omega)⟩
    · rintro ⟨n', ⟨rfl, rfl⟩, h⟩
      exact ⟨rfl, fun h1 => h (Or.inl h1), by
        rcases Nat.lt_or_ge i.toNatClampNeg n with q | q
        · exact q
        · exact absurd (Or.inr q) h⟩
def alI (t : Nat) (M : Mem) (r : Option Nat) (i : Int32) (k : Int32 → XA) : XA := match r with
  | none => none
  | some a => if inAb M a t i = true ∨ inAb M a (t + 100) i = true then k (M.1 a i.toNatClampNeg) else none
def alL (M : Mem) (r : Option Nat) (i : Int32) (k : Int64 → XA) : XA := match r with
  | none => none
  | some a => if inAb M a 104 i = true then k (M.2.1 a i.toNatClampNeg) else none
def alP (t : Nat) (M : Mem) (r : Option Nat) (i : Int32) (k : Option Nat → XA) : XA := match r with
  | none => none
  | some a => if inAb M a t i = true then k (M.2.2.1 a i.toNatClampNeg) else none
def asI (t : Nat) (M : Mem) (r : Option Nat) (i v : Int32) (k : Mem → XA) : XA := match r with
  | none => none
  | some a => if inAb M a t i = true then k (sI M a i.toNatClampNeg v) else none
def asL (M : Mem) (r : Option Nat) (i : Int32) (v : Int64) (k : Mem → XA) : XA := match r with
  | none => none
  | some a => if inAb M a 104 i = true then k (sL M a i.toNatClampNeg v) else none
/-- what an array of that tag may hold: Object[] any object, Parcel[] a Parcel, Twin[] a Twin -/
def asOK (t : Nat) (M : Mem) (v : Option Nat) : Bool := match v with
  | none => true
  | some b => match M.2.2.2[b]? with
    | none => false
    | some q => if t = 110 then decide (q.1 < 14) else if t = 111 then q.1 == 6 else if t = 112 then q.1 == 10 else false
def asP (t : Nat) (M : Mem) (r : Option Nat) (i : Int32) (v : Option Nat) (k : Mem → XA) : XA := match r with
  | none => none
  | some a => if inAb M a t i = true ∧ asOK t M v = true then k (sP M a i.toNatClampNeg v) else none
def jn {σ : Type} (f : σ → XA) (k : (σ → XA) → XA) : XA := k f
def lp {σ : Type} (body : σ → (σ → XA) → XA) : Nat → σ → XA
  | 0, _ => none
  | n + 1, s => body s (lp body n)
def cI (x : XA) (k : Int32 → Mem → XA) : XA := match x with
  | some (.int v, M) => k v M
  | _ => none
def cL (x : XA) (k : Int64 → Mem → XA) : XA := match x with
  | some (.long v, M) => k v M
  | _ => none
def cP (x : XA) (k : Option Nat → Mem → XA) : XA := match x with
  | some (.null, M) => k none M
  | some (.ref a, M) => k (some a) M
  | _ => none
def cV (x : XA) (k : Mem → XA) : XA := match x with
  | some (_, M) => k M
  | _ => none
/-- the one that is called is an object of that kind -/
def vC (t : Nat × Nat) (M : Mem) (r : Option Nat) (x : XA) : XA := match r with
  | none => none
  | some a => if M.2.2.2[a]? = some t then x else none
def cst (t : Nat × Nat) (M : Mem) (r : Option Nat) (x : XA) : XA := match r with
  | none => x
  | some a => if M.2.2.2[a]? = some t then x else none
def rtZ (x : Int32) (M : Mem) : XA := if x = 0 ∨ x = 1 then some (.int x, M) else none
def nO (t : Nat × Nat) (M : Mem) (k : Option Nat → Mem → XA) : XA := k (some M.2.2.2.length) (nw M t.1 t.2)
def nA (t : Nat) (M : Mem) (n : Int32) (k : Option Nat → Mem → XA) : XA := if ¬ n < 0 ∧ n.toNatClampNeg ≤ 100000 then k (some M.2.2.2.length) (nw M t n.toNatClampNeg) else none
def xrem (x y : Int32) : Int32 := x - x / y * y
def lrem (x y : Int64) : Int64 := x - x / y * y
section XR3
variable {S : XS} {G : XG} {K : Nat × Nat} {l : Launch} {mt : XMt} {d : Nat} {pc : Nat} {lo : List (Option Value)} {st : List Value} {M : Mem} {c : Option (Value × Mem)}
theorem x_jn {σ : Type} (pJ : Nat) (lJ : σ → List (Option Value)) (sJ : σ → List Value) (mJ : σ → Mem) {f : σ → XA} {k : (σ → XA) → XA} (hC : ∀ s, Xe S G K l mt d pJ (lJ s) (sJ s) (mJ s) (f s)) (hF : ∀ j : σ → XA, (∀ s, Xe S G K l mt d pJ (lJ s) (sJ s) (mJ s) (j s)) → Xe S G K l mt d pc lo st M (k j)) : Xe S G K l mt d pc lo st M (jn f k) := hF f hC
theorem x_lp {σ : Type} (pJ : Nat) (lJ : σ → List (Option Value)) (sJ : σ → List Value) (mJ : σ → Mem) {body : σ → (σ → XA) → XA} (hb : ∀ (s : σ) (j : σ → XA), (∀ s, Xe S G K l mt d pJ (lJ s) (sJ s) (mJ s) (j s)) → Xe S G K l mt d pJ (lJ s) (sJ s) (mJ s) (body s j)) : ∀ (n : Nat) (s : σ), Xe S G K l mt d pJ (lJ s) (sJ s) (mJ s) (lp body n s)
  | 0, _ => x_none
  | n + 1, s => hb s (lp body n) (x_lp pJ lJ sJ mJ hb n)
theorem x_if_eq {x : Int32} {off : Int} {tgt : Nat} {A B : Option (Value × Mem)} (hd : decode mt.2.1 pc = .ok (.ifCond .eq off, 3)) (ht : (pc : Int) + off = (tgt : Int)) (kt : x = 0 → Xe S G K l mt d tgt lo st M A) (kf : ¬ x = 0 → Xe S G K l mt d (pc + 3) lo st M B) : Xe S G K l mt d pc lo (.int x :: st) M (if x = 0 then A else B) := by
  by_cases hc : x = 0
  · rw [if_pos hc]
    exact x_pure (fun h _ _ _ _ _ _ w => lv_if_eq h.1 h.2.1 hd ht (fun _ => w) (fun hn => absurd hc hn)) (kt hc)
  · rw [if_neg hc]
    exact x_pure (fun h _ _ _ _ _ _ w => lv_if_eq h.1 h.2.1 hd ht (fun hp => absurd hp hc) (fun _ => w)) (kf hc)
theorem x_icmp_eq {x y : Int32} {off : Int} {tgt : Nat} {A B : Option (Value × Mem)} (hd : decode mt.2.1 pc = .ok (.if_icmp .eq off, 3)) (ht : (pc : Int) + off = (tgt : Int)) (kt : x = y → Xe S G K l mt d tgt lo st M A) (kf : ¬ x = y → Xe S G K l mt d (pc + 3) lo st M B) : Xe S G K l mt d pc lo (.int y :: .int x :: st) M (if x = y then A else B) := by
  by_cases hc : x = y
  · rw [if_pos hc]
    exact x_pure (fun h _ _ _ _ _ _ w => lv_icmp_eq h.1 h.2.1 hd ht (fun _ => w) (fun hn => absurd hc hn)) (kt hc)
  · rw [if_neg hc]
    exact x_pure (fun h _ _ _ _ _ _ w => lv_icmp_eq h.1 h.2.1 hd ht (fun hp => absurd hp hc) (fun _ => w)) (kf hc)
theorem x_if_ne {x : Int32} {off : Int} {tgt : Nat} {A B : Option (Value × Mem)} (hd : decode mt.2.1 pc = .ok (.ifCond .ne off, 3)) (ht : (pc : Int) + off = (tgt : Int)) (kt : x = 0 → Xe S G K l mt d (pc + 3) lo st M A) (kf : ¬ x = 0 → Xe S G K l mt d tgt lo st M B) : Xe S G K l mt d pc lo (.int x :: st) M (if x = 0 then A else B) := by
  by_cases hc : x = 0
  · rw [if_pos hc]
    exact x_pure (fun h _ _ _ _ _ _ w => lv_if_ne h.1 h.2.1 hd ht (fun hn => absurd hc hn) (fun _ => w)) (kt hc)
  · rw [if_neg hc]
    exact x_pure (fun h _ _ _ _ _ _ w => lv_if_ne h.1 h.2.1 hd ht (fun _ => w) (fun hp => absurd hp hc)) (kf hc)
theorem x_icmp_ne {x y : Int32} {off : Int} {tgt : Nat} {A B : Option (Value × Mem)} (hd : decode mt.2.1 pc = .ok (.if_icmp .ne off, 3)) (ht : (pc : Int) + off = (tgt : Int)) (kt : x = y → Xe S G K l mt d (pc + 3) lo st M A) (kf : ¬ x = y → Xe S G K l mt d tgt lo st M B) : Xe S G K l mt d pc lo (.int y :: .int x :: st) M (if x = y then A else B) := by
  by_cases hc : x = y
  · rw [if_pos hc]
    exact x_pure (fun h _ _ _ _ _ _ w => lv_icmp_ne h.1 h.2.1 hd ht (fun hn => absurd hc hn) (fun _ => w)) (kt hc)
  · rw [if_neg hc]
    exact x_pure (fun h _ _ _ _ _ _ w => lv_icmp_ne h.1 h.2.1 hd ht (fun _ => w) (fun hp => absurd hp hc)) (kf hc)
theorem x_if_lt {x : Int32} {off : Int} {tgt : Nat} {A B : Option (Value × Mem)} (hd : decode mt.2.1 pc = .ok (.ifCond .lt off, 3)) (ht : (pc : Int) + off = (tgt : Int)) (kt : x < 0 → Xe S G K l mt d tgt lo st M A) (kf : ¬ x < 0 → Xe S G K l mt d (pc + 3) lo st M B) : Xe S G K l mt d pc lo (.int x :: st) M (if x < 0 then A else B) := by
  by_cases hc : x < 0
  · rw [if_pos hc]
    exact x_pure (fun h _ _ _ _ _ _ w => lv_if_lt h.1 h.2.1 hd ht (fun _ => w) (fun hn => absurd hc hn)) (kt hc)
  · rw [if_neg hc]
    exact x_pure (fun h _ _ _ _ _ _ w => lv_if_lt h.1 h.2.1 hd ht (fun hp => absurd hp hc) (fun _ => w)) (kf hc)
theorem x_icmp_lt {x y : Int32} {off : Int} {tgt : Nat} {A B : Option (Value × Mem)} (hd : decode mt.2.1 pc = .ok (.if_icmp .lt off, 3)) (ht : (pc : Int) + off = (tgt : Int)) (kt : x < y → Xe S G K l mt d tgt lo st M A) (kf : ¬ x < y → Xe S G K l mt d (pc + 3) lo st M B) : Xe S G K l mt d pc lo (.int y :: .int x :: st) M (if x < y then A else B) := by
  by_cases hc : x < y
  · rw [if_pos hc]
    exact x_pure (fun h _ _ _ _ _ _ w => lv_icmp_lt h.1 h.2.1 hd ht (fun _ => w) (fun hn => absurd hc hn)) (kt hc)
  · rw [if_neg hc]
    exact x_pure (fun h _ _ _ _ _ _ w => lv_icmp_lt h.1 h.2.1 hd ht (fun hp => absurd hp hc) (fun _ => w)) (kf hc)
theorem x_if_ge {x : Int32} {off : Int} {tgt : Nat} {A B : Option (Value × Mem)} (hd : decode mt.2.1 pc = .ok (.ifCond .ge off, 3)) (ht : (pc : Int) + off = (tgt : Int)) (kt : 0 ≤ x → Xe S G K l mt d tgt lo st M A) (kf : ¬ 0 ≤ x → Xe S G K l mt d (pc + 3) lo st M B) : Xe S G K l mt d pc lo (.int x :: st) M (if 0 ≤ x then A else B) := by
  by_cases hc : 0 ≤ x
  · rw [if_pos hc]
    exact x_pure (fun h _ _ _ _ _ _ w => lv_if_ge h.1 h.2.1 hd ht (fun _ => w) (fun hn => absurd hc hn)) (kt hc)
  · rw [if_neg hc]
    exact x_pure (fun h _ _ _ _ _ _ w => lv_if_ge h.1 h.2.1 hd ht (fun hp => absurd hp hc) (fun _ => w)) (kf hc)
theorem x_icmp_ge {x y : Int32} {off : Int} {tgt : Nat} {A B : Option (Value × Mem)} (hd : decode mt.2.1 pc = .ok (.if_icmp .ge off, 3)) (ht : (pc : Int) + off = (tgt : Int)) (kt : y ≤ x → Xe S G K l mt d tgt lo st M A) (kf : ¬ y ≤ x → Xe S G K l mt d (pc + 3) lo st M B) : Xe S G K l mt d pc lo (.int y :: .int x :: st) M (if y ≤ x then A else B) := by
  by_cases hc : y ≤ x
  · rw [if_pos hc]
    exact x_pure (fun h _ _ _ _ _ _ w => lv_icmp_ge h.1 h.2.1 hd ht (fun _ => w) (fun hn => absurd hc hn)) (kt hc)
  · rw [if_neg hc]
    exact x_pure (fun h _ _ _ _ _ _ w => lv_icmp_ge h.1 h.2.1 hd ht (fun hp => absurd hp hc) (fun _ => w)) (kf hc)
theorem x_if_gt {x : Int32} {off : Int} {tgt : Nat} {A B : Option (Value × Mem)} (hd : decode mt.2.1 pc = .ok (.ifCond .gt off, 3)) (ht : (pc : Int) + off = (tgt : Int)) (kt : 0 < x → Xe S G K l mt d tgt lo st M A) (kf : ¬ 0 < x → Xe S G K l mt d (pc + 3) lo st M B) : Xe S G K l mt d pc lo (.int x :: st) M (if 0 < x then A else B) := by
  by_cases hc : 0 < x
  · rw [if_pos hc]
    exact x_pure (fun h _ _ _ _ _ _ w => lv_if_gt h.1 h.2.1 hd ht (fun _ => w) (fun hn => absurd hc hn)) (kt hc)
  · rw [if_neg hc]
    exact x_pure (fun h _ _ _ _ _ _ w => lv_if_gt h.1 h.2.1 hd ht (fun hp => absurd hp hc) (fun _ => w)) (kf hc)
theorem x_icmp_gt {x y : Int32} {off : Int} {tgt : Nat} {A B : Option (Value × Mem)} (hd : decode mt.2.1 pc = .ok (.if_icmp .gt off, 3)) (ht : (pc : Int) + off = (tgt : Int)) (kt : y < x → Xe S G K l mt d tgt lo st M A) (kf : ¬ y < x → Xe S G K l mt d (pc + 3) lo st M B) : Xe S G K l mt d pc lo (.int y :: .int x :: st) M (if y < x then A else B) := by
  by_cases hc : y < x
  · rw [if_pos hc]
    exact x_pure (fun h _ _ _ _ _ _ w => lv_icmp_gt h.1 h.2.1 hd ht (fun _ => w) (fun hn => absurd hc hn)) (kt hc)
  · rw [if_neg hc]
    exact x_pure (fun h _ _ _ _ _ _ w => lv_icmp_gt h.1 h.2.1 hd ht (fun hp => absurd hp hc) (fun _ => w)) (kf hc)
theorem x_if_le {x : Int32} {off : Int} {tgt : Nat} {A B : Option (Value × Mem)} (hd : decode mt.2.1 pc = .ok (.ifCond .le off, 3)) (ht : (pc : Int) + off = (tgt : Int)) (kt : x ≤ 0 → Xe S G K l mt d tgt lo st M A) (kf : ¬ x ≤ 0 → Xe S G K l mt d (pc + 3) lo st M B) : Xe S G K l mt d pc lo (.int x :: st) M (if x ≤ 0 then A else B) := by
  by_cases hc : x ≤ 0
  · rw [if_pos hc]
    exact x_pure (fun h _ _ _ _ _ _ w => lv_if_le h.1 h.2.1 hd ht (fun _ => w) (fun hn => absurd hc hn)) (kt hc)
  · rw [if_neg hc]
    exact x_pure (fun h _ _ _ _ _ _ w => lv_if_le h.1 h.2.1 hd ht (fun hp => absurd hp hc) (fun _ => w)) (kf hc)
theorem x_icmp_le {x y : Int32} {off : Int} {tgt : Nat} {A B : Option (Value × Mem)} (hd : decode mt.2.1 pc = .ok (.if_icmp .le off, 3)) (ht : (pc : Int) + off = (tgt : Int)) (kt : x ≤ y → Xe S G K l mt d tgt lo st M A) (kf : ¬ x ≤ y → Xe S G K l mt d (pc + 3) lo st M B) : Xe S G K l mt d pc lo (.int y :: .int x :: st) M (if x ≤ y then A else B) := by
  by_cases hc : x ≤ y
  · rw [if_pos hc]
    exact x_pure (fun h _ _ _ _ _ _ w => lv_icmp_le h.1 h.2.1 hd ht (fun _ => w) (fun hn => absurd hc hn)) (kt hc)
  · rw [if_neg hc]
    exact x_pure (fun h _ _ _ _ _ _ w => lv_icmp_le h.1 h.2.1 hd ht (fun hp => absurd hp hc) (fun _ => w)) (kf hc)
theorem x_ifnull {r : Option Nat} {off : Int} {tgt : Nat} {A B : XA} (hd : decode mt.2.1 pc = .ok (.ifnull off, 3)) (ht : (pc : Int) + off = (tgt : Int)) (kt : r = none → Xe S G K l mt d tgt lo st M A) (kf : ¬ r = none → Xe S G K l mt d (pc + 3) lo st M B) : Xe S G K l mt d pc lo (va_rf r :: st) M (if r = none then A else B) := by
  cases r with
  | none => exact x_pure (fun h _ _ _ _ _ _ w => lv_ifnullN h.1 h.2.1 hd ht w) (kt rfl)
  | some a => exact x_pure (fun h _ _ _ _ _ _ w => lv_ifnull h.1 h.2.1 hd w) (kf (fun q => nomatch q))
theorem x_ifnonnull {r : Option Nat} {off : Int} {tgt : Nat} {A B : XA} (hd : decode mt.2.1 pc = .ok (.ifnonnull off, 3)) (ht : (pc : Int) + off = (tgt : Int)) (kt : r = none → Xe S G K l mt d (pc + 3) lo st M A) (kf : ¬ r = none → Xe S G K l mt d tgt lo st M B) : Xe S G K l mt d pc lo (va_rf r :: st) M (if r = none then A else B) := by
  cases r with
  | none => exact x_pure (fun h _ _ _ _ _ _ w => lv_ifnonnullN h.1 h.2.1 hd w) (kt rfl)
  | some a => exact x_pure (fun h _ _ _ _ _ _ w => lv_ifnonnull h.1 h.2.1 hd ht w) (kf (fun q => nomatch q))
theorem x_idiv {x y : Int32} {A : XA} (hd : decode mt.2.1 pc = .ok (.idiv, 1)) (k : ¬ y = 0 → Xe S G K l mt d (pc + 1) lo (.int (x / y) :: st) M A) : Xe S G K l mt d pc lo (.int y :: .int x :: st) M (if y = 0 then none else A) := by
  by_cases hy : y = 0
  · rw [if_pos hy]; exact x_none
  · rw [if_neg hy]; exact x_pure (fun h _ _ _ _ _ _ w => lv_idiv h.1 h.2.1 hd hy w) (k hy)
theorem x_irem {x y : Int32} {A : XA} (hd : decode mt.2.1 pc = .ok (.irem, 1)) (k : ¬ y = 0 → Xe S G K l mt d (pc + 1) lo (.int (xrem x y) :: st) M A) : Xe S G K l mt d pc lo (.int y :: .int x :: st) M (if y = 0 then none else A) := by
  by_cases hy : y = 0
  · rw [if_pos hy]; exact x_none
  · rw [if_neg hy]; exact x_pure (fun h _ _ _ _ _ _ w => lv_irem h.1 h.2.1 hd hy w) (k hy)
theorem x_ldiv {x y : Int64} {A : XA} (hd : decode mt.2.1 pc = .ok (.ldiv, 1)) (k : ¬ y = 0 → Xe S G K l mt d (pc + 1) lo (.long (x / y) :: st) M A) : Xe S G K l mt d pc lo (.long y :: .long x :: st) M (if y = 0 then none else A) := by
  by_cases hy : y = 0
  · rw [if_pos hy]; exact x_none
  · rw [if_neg hy]; exact x_pure (fun h _ _ _ _ _ _ w => lv_ldiv h.1 h.2.1 hd hy w) (k hy)
theorem x_lrem {x y : Int64} {A : XA} (hd : decode mt.2.1 pc = .ok (.lrem, 1)) (k : ¬ y = 0 → Xe S G K l mt d (pc + 1) lo (.long (lrem x y) :: st) M A) : Xe S G K l mt d pc lo (.long y :: .long x :: st) M (if y = 0 then none else A) := by
  by_cases hy : y = 0
  · rw [if_pos hy]; exact x_none
  · rw [if_neg hy]; exact x_pure (fun h _ _ _ _ _ _ w => lv_lrem h.1 h.2.1 hd hy w) (k hy)
theorem x_ldc {index : Nat} {v : Int32} (hd : decode mt.2.1 pc = .ok (.ldc index, 2)) (hw : Cond.constant mt.1.cls index v ∈ xbig) (k : Xe S G K l mt d (pc + 2) lo (.int v :: st) M c) : Xe S G K l mt d pc lo st M c :=
  x_pure (fun h _ _ _ _ _ _ w => lv_ldc h.1 h.2.1 h.2.2.2.1 (h.2.2.2.2.1 _ hw) hd w) k
theorem x_ldcw {index : Nat} {v : Int32} (hd : decode mt.2.1 pc = .ok (.ldc_w index, 3)) (hw : Cond.constant mt.1.cls index v ∈ xbig) (k : Xe S G K l mt d (pc + 3) lo (.int v :: st) M c) : Xe S G K l mt d pc lo st M c :=
  x_pure (fun h _ _ _ _ _ _ w => lv_ldcw h.1 h.2.1 h.2.2.2.1 (h.2.2.2.2.1 _ hw) hd w) k
theorem x_ldc2 {index : Nat} {v : Int64} (hd : decode mt.2.1 pc = .ok (.ldc2_w index, 3)) (hw : Cond.constantLong mt.1.cls index v ∈ xbig) (k : Xe S G K l mt d (pc + 3) lo (.long v :: st) M c) : Xe S G K l mt d pc lo st M c :=
  x_pure (fun h _ _ _ _ _ _ w => lv_ldc2 h.1 h.2.1 h.2.2.2.1 (h.2.2.2.2.1 _ hw) hd w) k
/-! the memory under writing -/
theorem xtr_new {G : XG} {a : Nat} (h : 64 ≤ a) : xtr G a = G.2.2.2.2 + (a - 64) := if_neg (by omega)
theorem xtr_old {G : XG} {a : Nat} (h : a < 64) : xtr G a = G.2.2.1 a := if_pos h
theorem xot_le (a : Nat) : 200 ≤ xot a := by
  unfold xot
  repeat' split
  all_goals decide
theorem mW_lt {G : XG} {M : Mem} {H : Heap} (h : mW G M H) {a : Nat} {q : Nat × Nat} (ha : M.2.2.2[a]? = some q) (hq : q.1 < 200) : a < M.2.2.2.length ∧ 64 ≤ a ∧ xtr G a = G.2.2.2.2 + (a - 64) := by
  have h1 := (List.getElem?_eq_some_iff.mp ha).1
  have h2 : 64 ≤ a := by
    rcases Nat.lt_or_ge a 64 with h2 | h2
    · have := ((h.2.2.2 a q.1 q.2 ha).1 h2).1
      have := xot_le a
      omega
    · exact h2
  exact ⟨h1, h2, xtr_new h2⟩
theorem mW_ne {G : XG} {M : Mem} {H : Heap} (h : mW G M H) {a b : Nat} {q q' : Nat × Nat} (ha : M.2.2.2[a]? = some q) (hq : q.1 < 200) (hb : M.2.2.2[b]? = some q') (hq' : q'.1 ≠ 220) (hn : b ≠ a) : xtr G b ≠ xtr G a := by
  obtain ⟨-, h1, h2⟩ := mW_lt h ha hq
  rw [h2]
  rcases Nat.lt_or_ge b 64 with h3 | h3
  · have := (((h.2.2.2 b q'.1 q'.2 hb).1 h3).2 hq').2
    rw [xtr_old h3]
    omega
  · rw [xtr_new h3]
    omega
/-- one cell is written -/
theorem mW_put {G : XG} {M M' : Mem} {H H' : Heap} (h : mW G M H) {a : Nat} {t n : Nat} (ha : M.2.2.2[a]? = some (t, n)) (ht2 : t < 200) (hk : M'.2.2.2 = M.2.2.2) (hs : H'.size = H.size) (ho : ∀ q, q ≠ xtr G a → H'[q]? = H[q]?)
    (hv : ∀ b j, b ≠ a → M'.1 b j = M.1 b j ∧ M'.2.1 b j = M.2.1 b j ∧ M'.2.2.1 b j = M.2.2.1 b j) (hc : cO G M' a t n H') : mW G M' H' := by
  refine ⟨by rw [hs, hk]; exact h.1, fun q hq => ?_, fun b u m hb => ?_, by rw [hk]; exact h.2.2.2⟩
  · rw [ho q (by rw [(mW_lt h ha ht2).2.2]; omega)]
    exact h.2.1 q hq
  · rw [hk] at hb
    by_cases e : b = a
    · subst e
      cases ha.symm.trans hb
      exact hc
    · have hx : ∀ j, xv G M' b u j = xv G M b u j := fun j => by
        obtain ⟨h1, h2, h3⟩ := hv b j e
        unfold xv
        rw [h1, h2, h3]
      obtain ⟨g1, g2, g3⟩ := h.2.2.1 b u m hb
      refine ⟨fun hu => ?_, fun hu hu2 => ?_, fun hu hu2 => ?_⟩
      · have hne := mW_ne h ha ht2 hb (by show u ≠ 220; omega) e
        have := (g1 hu).kept (ho _ hne)
        exact t_OB.to this (fun j _ => (hx j).symm)
      · have hne := mW_ne h ha ht2 hb (by show u ≠ 220; omega) e
        rw [ho _ hne, g2 hu hu2, show (fun j => xv G M b u j) = fun j => xv G M' b u j from funext fun j => (hx j).symm]
      · have hne := mW_ne h ha ht2 hb hu2 e
        obtain ⟨cell, c1, c2⟩ := g3 hu hu2
        exact ⟨cell, by rw [ho _ hne]; exact c1, fun j hj => by rw [hx j]; exact c2 j hj⟩
/-- what is known of class number ci -/
def XCi (ci : Nat) (C : String) (T : u_T) (N : Nat) (ty : Nat → FieldType) : Prop := vwCl[ci]? = some (C, T, N) ∧ (∀ w ∈ u_ws C T N, w ∈ xbig) ∧ (∀ k, k < N → parseFieldDescriptor (T k).2.2.1 = some (ty k)) ∧ (∀ a, a < N → ∀ b, b < N → a ≠ b → (T a).2.1 ≠ (T b).2.1) ∧ ci < 100
theorem x_field {ci N index j a : Nat} {C ref : String} {T : u_T} {ty : Nat → FieldType} {H : Heap} {locs : List Loc} {cells slots : Nat} {ls : Array Slot} {Q : State → Prop} (h : XO S G mt) (hc : XCi ci C T N ty) (hj : j < N) (hl : Cond.fieldLink mt.1.cls index ref (T j).2.1 (T j).2.2.1 ∈ xbig) (hsm : ref = (T j).1 ∨ Cond.sameField ref (T j).1 (T j).2.1 (T j).2.2.1 ∈ xbig) (hd : decode mt.2.1 pc = .ok (.getfield index, 3)) (ha : M.2.2.2[a]? = some (ci, N)) (hW : mW G M H) (w : XW S H locs cells slots Q (F0 S.2.2.2.2.2.1 (pc + 3) ls (xv G M a ci j :: st))) : XW S H locs cells slots Q (F0 S.2.2.2.2.2.1 pc ls (.ref (xtr G a) :: st)) := by
  obtain ⟨h1, h2, h3, h4, h5⟩ := hc
  have hP : va_P G.1 vwCl [(xtr G a, .inr (ci, (List.range N).map (fun j => xv G M a ci j)))] H := fun k9 q hq => by
    have h0 : k9 < 1 := (List.getElem?_eq_some_iff.mp hq).1
    rw [show k9 = 0 by omega] at hq
    cases hq
    refine ⟨_, h1, t_OB.to ((hW.2.2.1 a ci N ha).1 h5) (fun j hj => ?_)⟩
    simp [vp_V, List.getD, hj]
  refine va_get h.1 h.2.1 h.2.2.2.2.1 h2 h.2.2.2.1 h.2.2.2.2.2.2.2.1 hP 0 rfl h1 j hj (h.2.2.2.2.1 _ hl) (fun x hx => ?_) (v := xv G M a ci j) (by simp [hj]) hd w
  rcases hsm with rfl | hsm
  · exact hx
  · exact u_same (h.2.2.2.2.1 _ hsm) x hx
theorem x_fput {ci N index j a : Nat} {C ref : String} {T : u_T} {ty : Nat → FieldType} {H : Heap} {locs : List Loc} {cells slots : Nat} {ls : Array Slot} {Q : State → Prop} {st' : List Value} {M' : Mem} {v : Value} (h : XO S G mt) (hc : XCi ci C T N ty) (hj : j < N) (hl : Cond.fieldLink mt.1.cls index ref (T j).2.1 (T j).2.2.1 ∈ xbig) (hsm : ref = (T j).1 ∨ Cond.sameField ref (T j).1 (T j).2.1 (T j).2.2.1 ∈ xbig) (hfin : (T j).2.2.2 = false ∨ ((T j).1 = mt.1.cls ∧ S.2.2.2.2.2.2.2.2.1.name = "<init>")) (hd : decode mt.2.1 pc = .ok (.putfield index, 3)) (ha : M.2.2.2[a]? = some (ci, N)) (hn : narrow (ty j) v = v) (hf : fits (ty j) v = true) (hloc : ∀ q ∈ locs, G.2.2.2.2 ≤ q.base) (hW : mW G M H) (hk : M'.2.2.2 = M.2.2.2) (hv : ∀ b j, b ≠ a → M'.1 b j = M.1 b j ∧ M'.2.1 b j = M.2.1 b j ∧ M'.2.2.1 b j = M.2.2.1 b j) (hvv : ∀ i, xv G M' a ci i = if i = j then v else xv G M a ci i) (w : ∀ (H' : Heap) (locs' : List Loc), mW G M' H' → (∀ q ∈ locs', G.2.2.2.2 ≤ q.base) → XW S H' locs' cells slots Q (F0 S.2.2.2.2.2.1 (pc + 3) ls st')) : XW S H locs cells slots Q (F0 S.2.2.2.2.2.1 pc ls (v :: .ref (xtr G a) :: st')) := by
  obtain ⟨h1, h2, h3, h4, h5⟩ := hc
  obtain ⟨hx, hb, -, hown, hts, -, -, hK, -⟩ := h
  have hap := va_apart (own := mt.1.cls) hts h2 ty h3 h4 hK h1
  obtain ⟨hS, hfc, kC, hkC, hkind⟩ := hK.1 ci _ h1
  obtain ⟨cf, kf, fi, f, hi, hsl⟩ := hS j hj
  have hob := (hW.2.2.1 a ci N ha).1 h5
  obtain ⟨cell, q1, q2, q3, q4⟩ := hob
  have hlay := hts _ (h2 _ (u_in_lay hj))
  have hst := (u_facts hfc hkC (u_lays hts h2 hj) hi).1
  have hi' : S.2.2.2.2.1.fieldFound? ref (T j).2.1 (T j).2.2.1 = some (cf, kf, fi, f) := by
    rcases hsm with rfl | hsm
    · exact hi
    · exact u_same (hts _ hsm) _ hi
  have hbase : G.2.2.2.2 ≤ xtr G a := by rw [(mW_lt hW ha (by show ci < 200; omega)).2.2]; omega
  have fin : ∀ (H' : Heap), H'[xtr G a]? = some (cell.setSlot f.slot v) → H'.size = H.size → (∀ q, q ≠ xtr G a → H'[q]? = H[q]?) → XW S H' (locs ++ [⟨xtr G a, f.slot⟩]) cells slots Q (F0 S.2.2.2.2.2.1 (pc + 3) ls st') := fun H' e1 e2 e3 => by
    refine w H' _ (mW_put hW ha (by omega) hk e2 e3 hv ⟨fun _ => ⟨_, e1, q2, q3, fun i hi9 => ?_⟩, fun hn9 => absurd h5 hn9, fun hn9 => by omega⟩) (fun q hq => ?_)
    · have := t_set q4 hap hj v i hi9
      rw [← hsl] at this
      show (cell.setSlot f.slot v).slots[G.1.2 ci i]? = some (xv G M' a ci i)
      rw [this, hvv i]
      rfl
    · rcases List.mem_append.mp hq with h9 | h9
      · exact hloc q h9
      · rw [List.mem_singleton.mp h9]
        exact hbase
  have hlt : f.slot < cell.slots.size := by
    have := k2_hasslot (q4 j hj)
    rwa [← hsl] at this
  unfold u_lay at hlay
  rcases hfin with hfin | ⟨hdecl, hin⟩
  · rw [if_neg (by rw [hfin]; decide)] at hlay
    have h6 := u_store hfc hkC hkind hlay hi (h3 j hj) hn hf
    exact W.putK hx hb (f := f) ⟨hown, hts _ hl, ⟨_, _, _, hi'⟩, hst⟩ (by rw [q2]; exact h6) q1 q3 hlt rfl rfl hd fin
  · cases hf9 : (T j).2.2.2 with
    | false =>
      rw [if_neg (by rw [hf9]; decide)] at hlay
      have h6 := u_store hfc hkC hkind hlay hi (h3 j hj) hn hf
      exact W.putK hx hb (f := f) ⟨hown, hts _ hl, ⟨_, _, _, hi'⟩, hst⟩ (by rw [q2]; exact h6) q1 q3 hlt rfl rfl hd fin
    | true =>
      rw [if_pos hf9] at hlay
      have hcf : S.2.2.2.2.2.1.cls = cf := by
        obtain ⟨_, _, c', _, _, _, -, -, hf', -, -, -, hown2, -⟩ := Cond.laysFinal_spec hlay
        have e1 : c' = cf := by have := hi.symm.trans hf'; simp at this; exact this.1.symm
        rw [hdecl] at hown2
        rw [← e1]; exact Option.some.inj (hown.symm.trans hown2)
      have h6 := u_fits hfc hkC hkind (Or.inr hlay) hi (h3 j hj) hn hf
      exact W.putFinK hx hb hown (hts _ hl) hi' hst hcf hin (by rw [q2]; exact h6) q1 q3 hlt rfl rfl hd fin
theorem xv_I {a t j : Nat} (h : xkk t j = 0) : xv G M a t j = .int (M.1 a j) := if_pos h
theorem xv_L {a t j : Nat} (h : xkk t j = 1) : xv G M a t j = .long (M.2.1 a j) := by unfold xv; rw [if_neg (by rw [h]; decide), if_pos h]
theorem xv_P {a t j : Nat} (h : xkk t j = 2) : xv G M a t j = va_rf ((M.2.2.1 a j).map (xtr G)) := by unfold xv; rw [if_neg (by rw [h]; decide), if_neg (by rw [h]; decide)]
theorem xkk_c {ci j N : Nat} {C : String} {T : u_T} {ty : Nat → FieldType} (hc : XCi ci C T N ty) : xkk ci j = xkd (T j).2.2.1 := by
  unfold xkk
  rw [if_pos hc.2.2.2.2, hc.1]
theorem x_gtI {ci N index j : Nat} {r : Option Nat} {C ref : String} {T : u_T} {ty : Nat → FieldType} {f : Int32 → XA} (hc : XCi ci C T N ty) (hj : j < N) (hl : Cond.fieldLink mt.1.cls index ref (T j).2.1 (T j).2.2.1 ∈ xbig) (hsm : ref = (T j).1 ∨ Cond.sameField ref (T j).1 (T j).2.1 (T j).2.2.1 ∈ xbig) (hk : xkd (T j).2.2.1 = 0) (hd : decode mt.2.1 pc = .ok (.getfield index, 3)) (k : ∀ x, Xe S G K l mt d (pc + 3) lo (.int x :: st) M (f x)) : Xe S G K l mt d pc lo (va_rf r :: st) M (gtI (ci, N) M r j f) := by
  cases r with
  | none => exact x_none
  | some a =>
    unfold gtI
    by_cases ha : M.2.2.2[a]? = some (ci, N)
    · simp only [if_pos ha]
      exact fun r M' e => ⟨(k _ r M' e).1, fun h hn9 a1 b d9 f9 H locs ls h1 h2 h3 => x_field h hc hj hl hsm hd ha h1 (by rw [xv_I ((xkk_c hc).trans hk)]; exact (k _ r M' e).2 h hn9 a1 b d9 f9 H locs ls h1 h2 h3)⟩
    · simp only [if_neg ha]
      exact x_none
theorem x_gtL {ci N index j : Nat} {r : Option Nat} {C ref : String} {T : u_T} {ty : Nat → FieldType} {f : Int64 → XA} (hc : XCi ci C T N ty) (hj : j < N) (hl : Cond.fieldLink mt.1.cls index ref (T j).2.1 (T j).2.2.1 ∈ xbig) (hsm : ref = (T j).1 ∨ Cond.sameField ref (T j).1 (T j).2.1 (T j).2.2.1 ∈ xbig) (hk : xkd (T j).2.2.1 = 1) (hd : decode mt.2.1 pc = .ok (.getfield index, 3)) (k : ∀ x, Xe S G K l mt d (pc + 3) lo (.long x :: st) M (f x)) : Xe S G K l mt d pc lo (va_rf r :: st) M (gtL (ci, N) M r j f) := by
  cases r with
  | none => exact x_none
  | some a =>
    unfold gtL
    by_cases ha : M.2.2.2[a]? = some (ci, N)
    · simp only [if_pos ha]
      exact fun r M' e => ⟨(k _ r M' e).1, fun h hn9 a1 b d9 f9 H locs ls h1 h2 h3 => x_field h hc hj hl hsm hd ha h1 (by rw [xv_L ((xkk_c hc).trans hk)]; exact (k _ r M' e).2 h hn9 a1 b d9 f9 H locs ls h1 h2 h3)⟩
    · simp only [if_neg ha]
      exact x_none
theorem x_gtP {ci N index j : Nat} {r : Option Nat} {C ref : String} {T : u_T} {ty : Nat → FieldType} {f : Option Nat → XA} (hc : XCi ci C T N ty) (hj : j < N) (hl : Cond.fieldLink mt.1.cls index ref (T j).2.1 (T j).2.2.1 ∈ xbig) (hsm : ref = (T j).1 ∨ Cond.sameField ref (T j).1 (T j).2.1 (T j).2.2.1 ∈ xbig) (hk : xkd (T j).2.2.1 = 2) (hd : decode mt.2.1 pc = .ok (.getfield index, 3)) (k : ∀ x, Xe S G K l mt d (pc + 3) lo (va_rf x :: st) M (f x)) : Xe S G K l mt d pc lo (va_rf r :: st) M (gtP (ci, N) M r j f) := by
  cases r with
  | none => exact x_none
  | some a =>
    unfold gtP
    by_cases ha : M.2.2.2[a]? = some (ci, N)
    · simp only [if_pos ha]
      exact fun r M' e => ⟨(k _ r M' e).1, fun h hn9 a1 b d9 f9 H locs ls h1 h2 h3 => x_field h hc hj hl hsm hd ha h1 (by rw [xv_P ((xkk_c hc).trans hk), ← cv_rf]; exact (k _ r M' e).2 h hn9 a1 b d9 f9 H locs ls h1 h2 h3)⟩
    · simp only [if_neg ha]
      exact x_none
end XR3
