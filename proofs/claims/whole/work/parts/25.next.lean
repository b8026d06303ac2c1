/-! the tape and its tokens -/
/-- the tape (its length stands in a, j; its bytes in b) has n bytes; T has 0 elsewhere -/
def Tp (a j b : Nat) (T : Int → Int) (n : Int) (M : Mem) : Prop := M.1 a j = iI n ∧ 0 ≤ n ∧ n ≤ 3000 ∧ (∀ i, 0 ≤ i → i < n → M.1 b i.toNat = iI (T i)) ∧ (∀ i, n ≤ i → T i = 0) ∧ ∀ i, -128 ≤ T i ∧ T i ≤ 127
theorem Tp.fr {a j b : Nat} {T : Int → Int} {n : Int} {W : List (Nat × Nat)} {M M2 : Mem} (h : Tp a j b T n M) (f : Fr W M M2) (h1 : inW W a j = false) (h2 : ∀ z, z ∈ W → z.1 ≠ b) : Tp a j b T n M2 := ⟨(f.i _ _ h1).trans h.1, h.2.1, h.2.2.1, fun i x y => (f.c _ h2 _).trans (h.2.2.2.1 i x y), h.2.2.2.2⟩
theorem Tp.z {a j b : Nat} {T : Int → Int} {n : Int} {M : Mem} (h : Tp a j b T n M) (i : Int) (hi : n ≤ i) : T i = 0 := h.2.2.2.2.1 i hi
theorem Tp.b {a j b : Nat} {T : Int → Int} {n : Int} {M : Mem} (h : Tp a j b T n M) (i : Int) : -128 ≤ T i ∧ T i ≤ 127 := h.2.2.2.2.2 i
theorem z190 {d : Nat} {M : Mem} (hd : 1 ≤ d) {T : Int → Int} {n x : Int} {v : Int32} (hR : RT M) (hT : Tp 160 1 161 T n M) (hv : v = iI x) (h : 0 ≤ x ∧ x ≤ 2147483647) : runX d 190 [va_rf (some 160), .int v] M = some (.int (iI (T x)), M) := by
  obtain ⟨d, rfl⟩ : ∃ e, d = e + 1 := ⟨d - 1, by omega⟩
  rw [r190]; unfold b190; rw [aR_e, aI_e, aZ_e]; unfold c190
  have hn := hT.2.1
  have hm := hT.2.2.1
  rw [gtI_q (w := iI n) (rk_160 hR) hT.1, jn_e]
  by_cases c : n ≤ x
  · rw [if_pos (leI_p rfl hv (by omega)), hT.z x c]
    exact congrArg (fun w => some (Value.int w, M)) li_0
  · rw [if_neg (leI_n rfl hv (by omega)), gtP_q (w := some 161) (rk_160 hR) (rf_0 hR), alI_q (n := 3000) (z := x) (w := iI (T x)) (rk_161 hR) hv (by omega) (hT.2.2.2.1 x h.1 (by omega))]
/-- the bytes of a name, one behind the other -/
def pk8 (T : Int → Int) (f : Int) : Nat → Int64
  | 0 => 0
  | k + 1 => (pk8 T f k <<< (Int32.toInt64 ((8 : Int32)) &&& 63)) ||| (iI (T (f + k))).toInt64
theorem pk8_z {T : Int → Int} {f p : Int} (h : p = f) : (0 : Int64) = pk8 T f (p - f).toNat := by
  rw [h, Int.sub_self]
  rfl
theorem pk8_s {T : Int → Int} {f p q : Int} {nm : Int64} (h : f ≤ p) (e : nm = pk8 T f (p - f).toNat) (hq : q = p + 1) : ((nm <<< (Int32.toInt64 ((8 : Int32)) &&& 63)) ||| (iI (T p)).toInt64) = pk8 T f (q - f).toNat := by
  obtain ⟨k, hk⟩ : ∃ k : Nat, p = f + k := ⟨(p - f).toNat, by omega⟩
  have h1 : (q - f).toNat = k + 1 := by omega
  have h2 : (p - f).toNat = k := by omega
  rw [h1, e, h2, hk]
  rfl
/-- the value of digits -/
def nm8 (T : Int → Int) (f : Int) : Nat → Int
  | 0 => 0
  | k + 1 => 10 * nm8 T f k + (T (f + k) - 48)
theorem nm8_z {T : Int → Int} {f p : Int} (h : p = f) : (0 : Int) = nm8 T f (p - f).toNat := by
  rw [h, Int.sub_self]
  rfl
theorem nm8_s {T : Int → Int} {f p q y : Int} {nb : Int} (h : f ≤ p) (e : nb = nm8 T f (p - f).toNat) (hq : q = p + 1) (hy : y = 10 * nb + T p - 48) : y = nm8 T f (q - f).toNat := by
  obtain ⟨k, hk⟩ : ∃ k : Nat, p = f + k := ⟨(p - f).toNat, by omega⟩
  have h1 : (q - f).toNat = k + 1 := by omega
  have h2 : (p - f).toNat = k := by omega
  rw [h1, hy, e, h2, hk]
  show _ = 10 * nm8 T f k + (T (f + k) - 48)
  omega
def bl (c : Int) : Prop := c = 10 ∨ c = 13 ∨ c = 32
def lt8 (c : Int) : Prop := 97 ≤ c ∧ c ≤ 122
def dg8 (c : Int) : Prop := 48 ≤ c ∧ c ≤ 57
def an8 (c : Int) : Prop := lt8 c ∨ dg8 c
/-- all from p to q are so -/
def Al (P : Int → Prop) (T : Int → Int) (p q : Int) : Prop := ∀ i, p ≤ i → i < q → P (T i)
theorem Al.z {P : Int → Prop} {T : Int → Int} {p q : Int} (h : q ≤ p) : Al P T p q := fun i h1 h2 => absurd h2 (by omega)
theorem Al.s {P : Int → Prop} {T : Int → Int} {p q r : Int} (h : Al P T p q) (hr : r = q + 1) (g : P (T q)) : Al P T p r := fun i h1 h2 => by
  by_cases c : i = q
  · rw [c]; exact g
  · exact h i h1 (by omega)
/-- a name among the words, from the first on: its number, or kn -/
def Wd (kn kw : Int) (W : Int → Int64) (nm : Int64) (w tk : Int) : Prop := (tk = kn ∧ ∀ i, 0 ≤ i → i < w → W i ≠ nm) ∨ ∃ i, 0 ≤ i ∧ i < w ∧ tk = kw + i ∧ W i = nm
section WD
variable {kn kw kx km kl : Int} {W : Int → Int64} {nm x : Int64} {w q tk t2 : Int}
theorem Wd.z (h : tk = kn) : Wd kn kw W nm 0 tk := Or.inl ⟨h, fun i h1 h2 => absurd h2 (by omega)⟩
theorem Wd.n (h : Wd kn kw W nm w tk) (ht : tk = kn) (hk : kn < kw) (hw : 0 ≤ w) (hq : q = w + 1) (hx : x = W w) (g : ¬ x = nm) : Wd kn kw W nm q tk := by
  rcases h with ⟨h1, h2⟩ | ⟨i, h1, h2, h3, h4⟩
  · refine Or.inl ⟨h1, fun i a b => ?_⟩
    by_cases c : i = w
    · rw [c, ← hx]; exact g
    · exact h2 i a (by omega)
  · omega
theorem Wd.f (ht : t2 = kw + w) (hw : 0 ≤ w) (hq : q = w + 1) (hx : x = W w) (g : x = nm) : Wd kn kw W nm q t2 := Or.inr ⟨w, hw, by omega, ht, by rw [← hx]; exact g⟩
theorem Wd.e (h : Wd kn kw W nm w tk) (ht : ¬ tk = kn) (hw : w ≤ 28) : Wd kn kw W nm 28 tk := by
  rcases h with ⟨h1, h2⟩ | ⟨i, h1, h2, h3, h4⟩
  · exact absurd h1 ht
  · exact Or.inr ⟨i, h1, by omega, h3, h4⟩
theorem Wd.e8 (h : Wd kn kw W nm w tk) (h1 : 28 ≤ w) (hw : w ≤ 28) : Wd kn kw W nm 28 tk := by
  have : w = 28 := by omega
  rw [← this]; exact h
end WD
/-- a name's token so far -/
def Wk (kx kn kw : Int) (T : Int → Int) (W : Int → Int64) (f e : Int) (nm : Int64) (w tk : Int) : Prop := (8 < e - f ∧ tk = kx) ∨ (e - f ≤ 8 ∧ nm = pk8 T f (e - f).toNat ∧ Wd kn kw W nm w tk)
def NbR (T : Int → Int) (f p nb : Int) : Prop := p - f ≤ 9 → nb = nm8 T f (p - f).toNat
theorem NbR.z {T : Int → Int} {f p : Int} (h : p = f) : NbR T f p 0 := fun _ => nm8_z h
theorem NbR.s {T : Int → Int} {f p q nb y : Int} (h : f ≤ p) (e : NbR T f p nb) (hq : q = p + 1) (hy : y = 10 * nb + T p - 48) : NbR T f q y := fun g => nm8_s h (e (by omega)) hq hy
theorem NbR.k {T : Int → Int} {f q nb : Int} (hq : 10 ≤ q - f) : NbR T f q nb := fun g => absurd g (by omega)
def sgk (c : Int) : Prop := c = 123 ∨ c = 125 ∨ c = 40 ∨ c = 41 ∨ c = 91 ∨ c = 93 ∨ c = 44 ∨ c = 59 ∨ c = 46 ∨ c = 61 ∨ c = 43 ∨ c = 45 ∨ c = 42 ∨ c = 47 ∨ c = 37 ∨ c = 60
def Sg (kx kl : Int) (T : Int → Int) (f e tk : Int) : Prop := ((T f = 60 ∨ T f = 61 ∨ T f = 33) ∧ T (f + 1) = 61 ∧ e = f + 2 ∧ ((T f = 60 ∧ tk = kl) ∨ (T f = 61 ∧ tk = kl + 1) ∨ (T f = 33 ∧ tk = kl + 2))) ∨ (¬ ((T f = 60 ∨ T f = 61 ∨ T f = 33) ∧ T (f + 1) = 61) ∧ e = f + 1 ∧ ((sgk (T f) ∧ tk = T f) ∨ (¬ sgk (T f) ∧ tk = kx)))
def SkR (T : Int → Int) (p0 f : Int) : Prop := p0 ≤ f ∧ Al bl T p0 f ∧ ¬ bl (T f)
/-- the token from place p0 on: its kind, where it begins and where it ends, its bytes or its value (Y); the numbers of the kinds: kx none, kn a name, km a number, kl and on the signs of two bytes, kw and on the words -/
def TkR (kx kn km kl kw : Int) (T : Int → Int) (W : Int → Int64) (n p0 tk f e : Int) (nm : Int64) (Y : Prop) : Prop := SkR T p0 f ∧ f ≤ e ∧ e ≤ n ∧ ((f = n ∧ tk = 0 ∧ e = f) ∨ (f < n ∧ lt8 (T f) ∧ Al an8 T f e ∧ ¬ an8 (T e) ∧ Wk kx kn kw T W f e nm 28 tk) ∨ (f < n ∧ dg8 (T f) ∧ Al dg8 T f e ∧ ¬ dg8 (T e) ∧ ((e - f ≤ 9 ∧ ¬ lt8 (T e) ∧ tk = km ∧ Y) ∨ ((9 < e - f ∨ lt8 (T e)) ∧ tk = kx))) ∨ (f < n ∧ ¬ lt8 (T f) ∧ ¬ dg8 (T f) ∧ Sg kx kl T f e tk))
theorem SkR.mk {T : Int → Int} {p0 f : Int} (h1 : p0 ≤ f) (h2 : Al bl T p0 f) (h3 : ¬ (T f = 10 ∨ T f = 13 ∨ T f = 32)) : SkR T p0 f := ⟨h1, h2, h3⟩
section TK
variable {kx kn km kl kw : Int} {T : Int → Int} {W : Int → Int64} {n p0 tk f e w : Int} {nm : Int64} {Y : Prop}
theorem Wk.z (h : (8 < e - f ∧ tk = kx) ∨ (e - f ≤ 8 ∧ tk = kn)) (g : nm = pk8 T f (e - f).toNat) : Wk kx kn kw T W f e nm 0 tk := by
  rcases h with h | h
  · exact Or.inl h
  · exact Or.inr ⟨h.1, g, Wd.z h.2⟩
theorem Wk.nx {x : Int64} {q : Int} (h : Wk kx kn kw T W f e nm w tk) (ht : tk = kn) (hk : kx < kn ∧ kn < kw) (hw : 0 ≤ w) (hq : q = w + 1) (hx : x = W w) (g : ¬ x = nm) : Wk kx kn kw T W f e nm q tk := by
  rcases h with h | h
  · omega
  · exact Or.inr ⟨h.1, h.2.1, h.2.2.n ht (by omega) hw hq hx g⟩
theorem Wk.fd {x : Int64} {q t2 : Int} (h : Wk kx kn kw T W f e nm w tk) (ht : tk = kn) (hk : kx < kn ∧ kn < kw) (h2 : t2 = kw + w) (hw : 0 ≤ w) (hq : q = w + 1) (hx : x = W w) (g : x = nm) : Wk kx kn kw T W f e nm q t2 := by
  rcases h with h | h
  · omega
  · exact Or.inr ⟨h.1, h.2.1, Wd.f h2 hw hq hx g⟩
theorem Wk.en (h : Wk kx kn kw T W f e nm w tk) (ht : 28 ≤ w ∨ ¬ tk = kn) (hw : w ≤ 28) : Wk kx kn kw T W f e nm 28 tk := by
  rcases h with h | h
  · exact Or.inl h
  · refine Or.inr ⟨h.1, h.2.1, ?_⟩
    by_cases c : 28 ≤ w
    · exact h.2.2.e8 c hw
    · exact h.2.2.e (by omega) hw
theorem TkR.end (h : SkR T p0 f) (h1 : f = n) (h2 : tk = 0) (h3 : e = f) : TkR kx kn km kl kw T W n p0 tk f e nm Y := ⟨h, by omega, by omega, Or.inl ⟨h1, h2, h3⟩⟩
theorem TkR.word (h : SkR T p0 f) (h1 : f < n ∧ f ≤ e ∧ e ≤ n) (h2 : 97 ≤ T f ∧ T f ≤ 122) (h3 : Al an8 T f e) (h4 : ¬ ((97 ≤ T e ∧ T e ≤ 122) ∨ (48 ≤ T e ∧ T e ≤ 57))) (h6 : Wk kx kn kw T W f e nm 28 tk) : TkR kx kn km kl kw T W n p0 tk f e nm Y := ⟨h, by omega, by omega, Or.inr (Or.inl ⟨by omega, h2, h3, h4, h6⟩)⟩
theorem TkR.num (h : SkR T p0 f) (h1 : f < n ∧ f ≤ e ∧ e ≤ n) (h2 : 48 ≤ T f ∧ T f ≤ 57) (h3 : Al dg8 T f e) (h4 : ¬ (48 ≤ T e ∧ T e ≤ 57)) (h5 : e - f ≤ 9 ∧ ¬ (97 ≤ T e ∧ T e ≤ 122) ∧ tk = km) (h6 : Y) : TkR kx kn km kl kw T W n p0 tk f e nm Y := ⟨h, by omega, by omega, Or.inr (Or.inr (Or.inl ⟨by omega, h2, h3, h4, Or.inl ⟨h5.1, h5.2.1, h5.2.2, h6⟩⟩))⟩
theorem TkR.bad (h : SkR T p0 f) (h1 : f < n ∧ f ≤ e ∧ e ≤ n) (h2 : 48 ≤ T f ∧ T f ≤ 57) (h3 : Al dg8 T f e) (h4 : ¬ (48 ≤ T e ∧ T e ≤ 57)) (h5 : (9 < e - f ∨ (97 ≤ T e ∧ T e ≤ 122)) ∧ tk = kx) : TkR kx kn km kl kw T W n p0 tk f e nm Y := ⟨h, by omega, by omega, Or.inr (Or.inr (Or.inl ⟨by omega, h2, h3, h4, Or.inr h5⟩))⟩
theorem TkR.sign (h : SkR T p0 f) (h1 : f < n ∧ f ≤ e ∧ e ≤ n) (h2 : ¬ (97 ≤ T f ∧ T f ≤ 122)) (h3 : ¬ (48 ≤ T f ∧ T f ≤ 57)) (h4 : Sg kx kl T f e tk) : TkR kx kn km kl kw T W n p0 tk f e nm Y := ⟨h, by omega, by omega, Or.inr (Or.inr (Or.inr ⟨by omega, h2, h3, h4⟩))⟩
end TK
def W_nx : List (Nat × Nat) := [(160, 36), (160, 37), (160, 38), (160, 39), (160, 40)]
theorem z191 {d : Nat} {M : Mem} (hd : 4 ≤ d) {T : Int → Int} {W : Int → Int64} {n p0 : Int} (hR : RT M) (hT : Tp 160 1 161 T n M) (hW : ∀ i, 0 ≤ i → i < 28 → M.2.1 194 i.toNat = W i) (hf : M.1 160 41 = iI 0) (hp : M.1 160 38 = iI p0) (h : 0 ≤ p0 ∧ p0 ≤ n ∧ n ≤ 3000) : Rt (runX d 191 [va_rf (some 160)] M) (fun _ M2 => ∃ (tk : Int) (f : Int) (e : Int) (nb : Int) (nm : Int64), Fr W_nx M M2 ∧ M2.1 160 36 = iI tk ∧ M2.1 160 37 = iI f ∧ M2.1 160 38 = iI e ∧ M2.1 160 40 = iI nb ∧ M2.2.1 160 39 = nm ∧ (-1 ≤ tk ∧ tk ≤ 429) ∧ (TkR (-1) 1 2 300 401 T W n p0 tk f e nm (NbR T f e nb))) := by
  obtain ⟨d, rfl⟩ : ∃ e, d = e + 1 := ⟨d - 1, by omega⟩
  rw [r191]; unfold b191; rw [aR_e, aZ_e]; unfold c191
  refine rs1 (gtI_q (w := iI 0) (rk_160 hR) (hf)) ?_
  refine rs1 (if_pos (eqI_p (rfl) (li_0) (by omega))) ?_
  refine Rt.jn (fun s => ∃ (f : Int), Fr W_nx M s ∧ s.1 160 38 = iI f ∧ (f ≤ n) ∧ (0 ≤ f) ∧ (SkR T p0 f)) (fun s hs => ?_) (fun j71 hj71 => ?_)
  ·
    obtain ⟨f, f1, e1_f, p1_0, p1_1, p1_2⟩ := hs
    refine rs1 (gtI_q (w := iI f) (rk_160 (hR.fr f1)) (e1_f)) ?_
    refine rs1 (ptI_q (z := f) (rk_160 (hR.fr f1)) (rfl)) ?_
    refine rs1 (gtI_q (w := iI f) (rk_160 (hR.fr f1).sI) (sI_eq)) ?_
    refine rs1 (vC_e (rk_160 (hR.fr f1).sI)) ?_
    refine rs1 (cI_e (z190 (by omega) (hR.fr f1).sI (hT.fr (Fr.sI (by decide) f1) (by decide) (by decide)) (rfl) (by omega))) ?_
    have b2 := hT.b f
    have b3 : f < n ∨ T f = 0 := (Int.lt_or_le f n).imp id (hT.z f)
    refine rs1 (gtI_q (w := iI f) (rk_160 (hR.fr f1).sI) (sI_eq)) ?_
    refine rs1 (gtI_q (w := iI n) (rk_160 (hR.fr f1).sI) ((sI_nej (by decide)).trans ((f1.i _ _ (by decide)).trans (hT.1)))) ?_
    refine Rt.jn (fun s => ∃ (tk : Int) (f : Int) (e : Int) (nb : Int) (nm : Int64), Fr W_nx M s ∧ s.1 160 36 = iI tk ∧ s.1 160 37 = iI f ∧ s.1 160 38 = iI e ∧ s.1 160 40 = iI nb ∧ s.2.1 160 39 = nm ∧ (-1 ≤ tk ∧ tk ≤ 429) ∧ (TkR (-1) 1 2 300 401 T W n p0 tk f e nm (NbR T f e nb))) (fun s hs => ?_) (fun j586 hj586 => ?_)
    ·
      exact Rt.ok hs
    ·
      by_cases c4 : f = n
      · refine rs1 (if_pos (eqI_p (rfl) (rfl) (by omega))) ?_
        refine rs1 (ptI_q (z := 0) (rk_160 (hR.fr f1).sI) (li_0)) ?_
        have b5 := V_r (M := s) (a := 160) (j := 40)
        exact hj586 _ ⟨0, f, f, ((V s 160 40)), (s.2.1 160 39), (Fr.sI (by decide) (Fr.sI (by decide) f1)), sI_eq, (sI_nej (by decide)).trans (sI_eq), (sI_nej (by decide)).trans ((sI_nej (by decide)).trans (e1_f)), (sI_nej (by decide)).trans ((sI_nej (by decide)).trans (eV)), (sI_l).trans ((sI_l)), by omega, by first | (exact TkR.end (by assumption) (by omega) rfl (by omega)) | (exact TkR.word (by assumption) (by omega) (by omega) (by assumption) (by omega) (by simp_all)) | (exact TkR.num (by assumption) (by omega) (by omega) (by assumption) (by omega) (by omega) (by assumption)) | (exact TkR.bad (by assumption) (by omega) (by omega) (by assumption) (by omega) (by omega)) | (exact TkR.sign (by assumption) (by omega) (by omega) (by omega) (by unfold Sg sgk; omega))⟩
      · refine rs1 (if_neg (eqI_n (rfl) (rfl) (by omega))) ?_
        by_cases c6 : 97 ≤ ((T f)) ∧ ((T f)) ≤ 122
        ·
          refine rs1 (cI_e (z188_1 (by omega) (rfl) (by omega))) ?_
          refine rs1 (if_neg (eqI_n (rfl) (li_0) (by omega))) ?_
          refine rs1 (ptL_q (w := (0 : Int64)) (rk_160 (hR.fr f1).sI) (rfl)) ?_
          refine Rt.jn (fun s => ∃ (e : Int) (nm : Int64), Fr W_nx M s ∧ s.1 160 38 = iI e ∧ s.2.1 160 39 = nm ∧ s.1 160 37 = iI f ∧ (f ≤ e) ∧ (e ≤ n) ∧ (Al an8 T f e) ∧ (¬ ((97 ≤ T e ∧ T e ≤ 122) ∨ (48 ≤ T e ∧ T e ≤ 57))) ∧ (nm = pk8 T f (e - f).toNat)) (fun s hs => ?_) (fun j181 hj181 => ?_)
          ·
            obtain ⟨e, nm, f7, e7_e, e7_nm, e7_k0, p7_0, p7_1, p7_2, p7_3, p7_4⟩ := hs
            refine rs1 (gtI_q (w := iI e) (rk_160 (hR.fr f7)) (e7_e)) ?_
            refine rs1 (gtI_q (w := iI f) (rk_160 (hR.fr f7)) (e7_k0)) ?_
            refine rs1 (jn_v) ?_
            by_cases c8 : (e - f) ≤ 8
            · refine rs1 (if_pos (leI_p (sbI (rfl) (rfl)) (li_8) (by omega))) ?_
              refine rs1 (jv_e) ?_
              refine rs1 (ptI_q (z := 1) (rk_160 (hR.fr f7)) (li_1)) ?_
              refine Rt.jn (fun s => ∃ (tk : Int) (nm2 : Int64), Fr W_nx M s ∧ s.1 160 36 = iI tk ∧ s.2.1 160 39 = nm2 ∧ s.1 160 37 = iI f ∧ s.1 160 38 = iI e ∧ (nm2 = nm) ∧ (-1 ≤ tk ∧ tk ≤ 429) ∧ (Wk (-1) 1 401 T W f e nm 28 tk)) (fun s hs => ?_) (fun j259 hj259 => ?_)
              ·
                obtain ⟨tk, nm2, f9, e9_tk, e9_nm2, e9_k0, e9_k1, p9_0, p9_1, p9_2⟩ := hs
                have b10 := V_r (M := s) (a := 160) (j := 40)
                exact hj586 _ ⟨tk, f, e, ((V s 160 40)), nm2, f9, e9_tk, e9_k0, e9_k1, eV, e9_nm2, by omega, by first | (exact TkR.end (by assumption) (by omega) rfl (by omega)) | (exact TkR.word (by assumption) (by omega) (by omega) (by assumption) (by omega) (by simp_all)) | (exact TkR.num (by assumption) (by omega) (by omega) (by assumption) (by omega) (by omega) (by assumption)) | (exact TkR.bad (by assumption) (by omega) (by omega) (by assumption) (by omega) (by omega)) | (exact TkR.sign (by assumption) (by omega) (by omega) (by omega) (by unfold Sg sgk; omega))⟩
              ·
                refine Rt.lp (fun m s => ∃ (w : Int) (tk : Int) (nm2 : Int64), s.1 = iI w ∧ Fr W_nx M s.2 ∧ s.2.1 160 36 = iI tk ∧ s.2.2.1 160 39 = nm2 ∧ s.2.1 160 37 = iI f ∧ s.2.1 160 38 = iI e ∧ (nm2 = nm) ∧ (0 ≤ w) ∧ (w ≤ 28) ∧ (-1 ≤ tk ∧ tk ≤ 429) ∧ (Wk (-1) 1 401 T W f e nm w tk) ∧ ((m : Int) = 28 - w)) (fun m s go hs hgo => ?_) (28 : Int).toNat _ _ (by omega) ⟨0, 1, nm, li_0, (Fr.sI (by decide) f7), sI_eq, (sI_l).trans (e7_nm), (sI_nej (by decide)).trans (e7_k0), (sI_nej (by decide)).trans (e7_e), by first | rfl | assumption, by omega, by omega, by omega, by first | exact Wk.z (by omega) (by assumption) | exact Wk.nx (by assumption) (by omega) (by omega) (by omega) rfl rfl (by simp_all) | exact Wk.fd (by assumption) (by omega) (by omega) (by omega) (by omega) rfl rfl (by simp_all), by omega⟩
                obtain ⟨t11, Mm12⟩ := s
                dsimp only at hs
                try dsimp only
                obtain ⟨w, tk, nm2, e13_w, f13, e13_tk, e13_nm2, e13_k0, e13_k1, p13_0, p13_1, p13_2, p13_3, p13_4, p13_5⟩ := hs
                unfold c191_206
                refine rs1 (gtP_q (w := some 194) (rk_160 (hR.fr f13)) (rf_35 (hR.fr f13))) ?_
                refine rs1 (aln_q (n := 28) (rk_194 (hR.fr f13)) (by decide)) ?_
                by_cases c14 : 28 ≤ w
                · refine rs1 (if_pos (leI_p (rfl) (e13_w) (by omega))) ?_
                  exact hj259 _ ⟨tk, nm2, f13, e13_tk, e13_nm2, e13_k0, e13_k1, by assumption, by omega, Wk.en (by assumption) (by omega) (by omega)⟩
                · refine rs1 (if_neg (leI_n (rfl) (e13_w) (by omega))) ?_
                  refine rs1 (gtI_q (w := iI tk) (rk_160 (hR.fr f13)) (e13_tk)) ?_
                  by_cases c15 : tk = 1
                  · refine rs1 (if_pos (eqI_p (rfl) (li_1) (by omega))) ?_
                    refine rs1 (gtP_q (w := some 194) (rk_160 (hR.fr f13)) (rf_35 (hR.fr f13))) ?_
                    refine rs1 (alL_q (n := 28) (z := w) (w := (W w)) (rk_194 (hR.fr f13)) (e13_w) (by omega) (((f13.lc _ (by decide) _)).trans (hW w (by omega) (by omega)))) ?_
                    refine rs1 (gtL_q (w := nm2) (rk_160 (hR.fr f13)) (e13_nm2)) ?_
                    refine rs1 (jn_v) ?_
                    by_cases c16 : (W w) = nm2
                    ·
                      refine rs1 (if_pos (lgc_p (rfl) (rfl) c16)) ?_
                      refine rs1 (jv_e) ?_
                      refine rs1 (ptI_q (z := (w + 401)) (rk_160 (hR.fr f13)) (cvI (adI (li_401) (e13_w)) (by omega))) ?_
                      refine rs1 (ltI_q (z := (w + 1)) (adI (e13_w) (li_1))) ?_
                      exact hgo (-w + 27).toNat _ (by omega) ⟨(w + 1), (w + 401), nm2, rfl, (Fr.sI (by decide) f13), sI_eq, (sI_l).trans (e13_nm2), (sI_nej (by decide)).trans (e13_k0), (sI_nej (by decide)).trans (e13_k1), by first | rfl | assumption, by omega, by omega, by omega, by first | exact Wk.z (by omega) (by assumption) | exact Wk.nx (by assumption) (by omega) (by omega) (by omega) rfl rfl (by simp_all) | exact Wk.fd (by assumption) (by omega) (by omega) (by omega) (by omega) rfl rfl (by simp_all), by omega⟩
                    ·
                      refine rs1 (if_neg (lgc_n (rfl) (rfl) c16)) ?_
                      refine rs1 (gtI_q (w := iI tk) (rk_160 (hR.fr f13)) (e13_tk)) ?_
                      refine rs1 (jv_e) ?_
                      refine rs1 (ptI_q (z := tk) (rk_160 (hR.fr f13)) (rfl)) ?_
                      refine rs1 (ltI_q (z := (w + 1)) (adI (e13_w) (li_1))) ?_
                      exact hgo (-w + 27).toNat _ (by omega) ⟨(w + 1), tk, nm2, rfl, (Fr.sI (by decide) f13), sI_eq, (sI_l).trans (e13_nm2), (sI_nej (by decide)).trans (e13_k0), (sI_nej (by decide)).trans (e13_k1), by first | rfl | assumption, by omega, by omega, by omega, by first | exact Wk.z (by omega) (by assumption) | exact Wk.nx (by assumption) (by omega) (by omega) (by omega) rfl rfl (by simp_all) | exact Wk.fd (by assumption) (by omega) (by omega) (by omega) (by omega) rfl rfl (by simp_all), by omega⟩
                  · refine rs1 (if_neg (eqI_n (rfl) (li_1) (by omega))) ?_
                    exact hj259 _ ⟨tk, nm2, f13, e13_tk, e13_nm2, e13_k0, e13_k1, by assumption, by omega, Wk.en (by assumption) (by omega) (by omega)⟩
            · refine rs1 (if_neg (leI_n (sbI (rfl) (rfl)) (li_8) (by omega))) ?_
              refine rs1 (jv_e) ?_
              refine rs1 (ptI_q (z := (-1)) (rk_160 (hR.fr f7)) (li_m1)) ?_
              refine Rt.jn (fun s => ∃ (tk : Int) (nm2 : Int64), Fr W_nx M s ∧ s.1 160 36 = iI tk ∧ s.2.1 160 39 = nm2 ∧ s.1 160 37 = iI f ∧ s.1 160 38 = iI e ∧ (nm2 = nm) ∧ (-1 ≤ tk ∧ tk ≤ 429) ∧ (Wk (-1) 1 401 T W f e nm 28 tk)) (fun s hs => ?_) (fun j259 hj259 => ?_)
              ·
                obtain ⟨tk, nm2, f17, e17_tk, e17_nm2, e17_k0, e17_k1, p17_0, p17_1, p17_2⟩ := hs
                have b18 := V_r (M := s) (a := 160) (j := 40)
                exact hj586 _ ⟨tk, f, e, ((V s 160 40)), nm2, f17, e17_tk, e17_k0, e17_k1, eV, e17_nm2, by omega, by first | (exact TkR.end (by assumption) (by omega) rfl (by omega)) | (exact TkR.word (by assumption) (by omega) (by omega) (by assumption) (by omega) (by simp_all)) | (exact TkR.num (by assumption) (by omega) (by omega) (by assumption) (by omega) (by omega) (by assumption)) | (exact TkR.bad (by assumption) (by omega) (by omega) (by assumption) (by omega) (by omega)) | (exact TkR.sign (by assumption) (by omega) (by omega) (by omega) (by unfold Sg sgk; omega))⟩
              ·
                refine Rt.lp (fun m s => ∃ (w : Int) (tk : Int) (nm2 : Int64), s.1 = iI w ∧ Fr W_nx M s.2 ∧ s.2.1 160 36 = iI tk ∧ s.2.2.1 160 39 = nm2 ∧ s.2.1 160 37 = iI f ∧ s.2.1 160 38 = iI e ∧ (nm2 = nm) ∧ (0 ≤ w) ∧ (w ≤ 28) ∧ (-1 ≤ tk ∧ tk ≤ 429) ∧ (Wk (-1) 1 401 T W f e nm w tk) ∧ ((m : Int) = 28 - w)) (fun m s go hs hgo => ?_) (28 : Int).toNat _ _ (by omega) ⟨0, (-1), nm, li_0, (Fr.sI (by decide) f7), sI_eq, (sI_l).trans (e7_nm), (sI_nej (by decide)).trans (e7_k0), (sI_nej (by decide)).trans (e7_e), by first | rfl | assumption, by omega, by omega, by omega, by first | exact Wk.z (by omega) (by assumption) | exact Wk.nx (by assumption) (by omega) (by omega) (by omega) rfl rfl (by simp_all) | exact Wk.fd (by assumption) (by omega) (by omega) (by omega) (by omega) rfl rfl (by simp_all), by omega⟩
                obtain ⟨t19, Mm20⟩ := s
                dsimp only at hs
                try dsimp only
                obtain ⟨w, tk, nm2, e21_w, f21, e21_tk, e21_nm2, e21_k0, e21_k1, p21_0, p21_1, p21_2, p21_3, p21_4, p21_5⟩ := hs
                unfold c191_206
                refine rs1 (gtP_q (w := some 194) (rk_160 (hR.fr f21)) (rf_35 (hR.fr f21))) ?_
                refine rs1 (aln_q (n := 28) (rk_194 (hR.fr f21)) (by decide)) ?_
                by_cases c22 : 28 ≤ w
                · refine rs1 (if_pos (leI_p (rfl) (e21_w) (by omega))) ?_
                  exact hj259 _ ⟨tk, nm2, f21, e21_tk, e21_nm2, e21_k0, e21_k1, by assumption, by omega, Wk.en (by assumption) (by omega) (by omega)⟩
                · refine rs1 (if_neg (leI_n (rfl) (e21_w) (by omega))) ?_
                  refine rs1 (gtI_q (w := iI tk) (rk_160 (hR.fr f21)) (e21_tk)) ?_
                  by_cases c23 : tk = 1
                  · refine rs1 (if_pos (eqI_p (rfl) (li_1) (by omega))) ?_
                    refine rs1 (gtP_q (w := some 194) (rk_160 (hR.fr f21)) (rf_35 (hR.fr f21))) ?_
                    refine rs1 (alL_q (n := 28) (z := w) (w := (W w)) (rk_194 (hR.fr f21)) (e21_w) (by omega) (((f21.lc _ (by decide) _)).trans (hW w (by omega) (by omega)))) ?_
                    refine rs1 (gtL_q (w := nm2) (rk_160 (hR.fr f21)) (e21_nm2)) ?_
                    refine rs1 (jn_v) ?_
                    by_cases c24 : (W w) = nm2
                    ·
                      refine rs1 (if_pos (lgc_p (rfl) (rfl) c24)) ?_
                      refine rs1 (jv_e) ?_
                      refine rs1 (ptI_q (z := (w + 401)) (rk_160 (hR.fr f21)) (cvI (adI (li_401) (e21_w)) (by omega))) ?_
                      refine rs1 (ltI_q (z := (w + 1)) (adI (e21_w) (li_1))) ?_
                      exact hgo (-w + 27).toNat _ (by omega) ⟨(w + 1), (w + 401), nm2, rfl, (Fr.sI (by decide) f21), sI_eq, (sI_l).trans (e21_nm2), (sI_nej (by decide)).trans (e21_k0), (sI_nej (by decide)).trans (e21_k1), by first | rfl | assumption, by omega, by omega, by omega, by first | exact Wk.z (by omega) (by assumption) | exact Wk.nx (by assumption) (by omega) (by omega) (by omega) rfl rfl (by simp_all) | exact Wk.fd (by assumption) (by omega) (by omega) (by omega) (by omega) rfl rfl (by simp_all), by omega⟩
                    ·
                      refine rs1 (if_neg (lgc_n (rfl) (rfl) c24)) ?_
                      refine rs1 (gtI_q (w := iI tk) (rk_160 (hR.fr f21)) (e21_tk)) ?_
                      refine rs1 (jv_e) ?_
                      refine rs1 (ptI_q (z := tk) (rk_160 (hR.fr f21)) (rfl)) ?_
                      refine rs1 (ltI_q (z := (w + 1)) (adI (e21_w) (li_1))) ?_
                      exact hgo (-w + 27).toNat _ (by omega) ⟨(w + 1), tk, nm2, rfl, (Fr.sI (by decide) f21), sI_eq, (sI_l).trans (e21_nm2), (sI_nej (by decide)).trans (e21_k0), (sI_nej (by decide)).trans (e21_k1), by first | rfl | assumption, by omega, by omega, by omega, by first | exact Wk.z (by omega) (by assumption) | exact Wk.nx (by assumption) (by omega) (by omega) (by omega) rfl rfl (by simp_all) | exact Wk.fd (by assumption) (by omega) (by omega) (by omega) (by omega) rfl rfl (by simp_all), by omega⟩
                  · refine rs1 (if_neg (eqI_n (rfl) (li_1) (by omega))) ?_
                    exact hj259 _ ⟨tk, nm2, f21, e21_tk, e21_nm2, e21_k0, e21_k1, by assumption, by omega, Wk.en (by assumption) (by omega) (by omega)⟩
          ·
            refine Rt.lp (fun m s => ∃ (p : Int) (nm : Int64), Fr W_nx M s ∧ s.1 160 38 = iI p ∧ s.2.1 160 39 = nm ∧ s.1 160 37 = iI f ∧ (f ≤ p) ∧ (p ≤ n) ∧ (Al an8 T f p) ∧ (nm = pk8 T f (p - f).toNat) ∧ ((m : Int) = n - p)) (fun m s go hs hgo => ?_) (n - f).toNat _ _ (by omega) ⟨f, (0 : Int64), (Fr.sL (by decide) (Fr.sI (by decide) f1)), (sL_i).trans ((sI_nej (by decide)).trans (e1_f)), sL_eq, (sL_i).trans (sI_eq), by omega, by omega, by first | exact Al.z (by omega) | exact Al.s (by assumption) (by omega) (by unfold an8 lt8 dg8; omega), by first | exact pk8_z rfl | exact pk8_s (by omega) (by assumption) rfl, by omega⟩
            obtain ⟨p, nm, f25, e25_p, e25_nm, e25_k0, p25_0, p25_1, p25_2, p25_3, p25_4⟩ := hs
            unfold c191_119
            refine rs1 (gtI_q (w := iI p) (rk_160 (hR.fr f25)) (e25_p)) ?_
            refine rs1 (vC_e (rk_160 (hR.fr f25))) ?_
            refine rs1 (cI_e (z190 (by omega) (hR.fr f25) (hT.fr f25 (by decide) (by decide)) (rfl) (by omega))) ?_
            have b26 := hT.b p
            have b27 : p < n ∨ T p = 0 := (Int.lt_or_le p n).imp id (hT.z p)
            by_cases c28 : 97 ≤ ((T p)) ∧ ((T p)) ≤ 122
            ·
              refine rs1 (cI_e (z188_1 (by omega) (rfl) (by omega))) ?_
              refine rs1 (jn_v) ?_
              refine rs1 (if_neg (eqI_n (rfl) (li_0) (by omega))) ?_
              refine rs1 (jv_e) ?_
              refine rs1 (gtL_q (w := nm) (rk_160 (hR.fr f25)) (e25_nm)) ?_
              refine rs1 (gtI_q (w := iI p) (rk_160 (hR.fr f25)) (e25_p)) ?_
              refine rs1 (vC_e (rk_160 (hR.fr f25))) ?_
              refine rs1 (cI_e (z190 (by omega) (hR.fr f25) (hT.fr f25 (by decide) (by decide)) (rfl) (by omega))) ?_
              refine rs1 (ptL_q (w := ((nm <<< (Int32.toInt64 ((8 : Int32)) &&& 63)) ||| (iI ((T p))).toInt64)) (rk_160 (hR.fr f25)) (rfl)) ?_
              refine rs1 (gtI_q (w := iI p) (rk_160 (hR.fr f25).sL) ((sL_i).trans (e25_p))) ?_
              refine rs1 (ptI_q (z := (p + 1)) (rk_160 (hR.fr f25).sL) (adI (rfl) (li_1))) ?_
              exact hgo (n - p - 1).toNat _ (by omega) ⟨(p + 1), ((nm <<< (Int32.toInt64 ((8 : Int32)) &&& 63)) ||| (iI ((T p))).toInt64), (Fr.sI (by decide) (Fr.sL (by decide) f25)), sI_eq, (sI_l).trans (sL_eq), (sI_nej (by decide)).trans ((sL_i).trans (e25_k0)), by omega, by omega, by first | exact Al.z (by omega) | exact Al.s (by assumption) (by omega) (by unfold an8 lt8 dg8; omega), by first | exact pk8_z rfl | exact pk8_s (by omega) (by assumption) rfl, by omega⟩
            ·
              refine rs1 (cI_e (z188_0 (by omega) (rfl) (by omega))) ?_
              refine rs1 (jn_v) ?_
              refine rs1 (if_pos (eqI_p (rfl) (li_0) (by omega))) ?_
              refine rs1 (gtI_q (w := iI p) (rk_160 (hR.fr f25)) (e25_p)) ?_
              refine rs1 (vC_e (rk_160 (hR.fr f25))) ?_
              refine rs1 (cI_e (z190 (by omega) (hR.fr f25) (hT.fr f25 (by decide) (by decide)) (rfl) (by omega))) ?_
              by_cases c29 : 48 ≤ ((T p)) ∧ ((T p)) ≤ 57
              ·
                refine rs1 (cI_e (z189_1 (by omega) (rfl) (by omega))) ?_
                refine rs1 (if_neg (eqI_n (rfl) (li_0) (by omega))) ?_
                refine rs1 (jv_e) ?_
                refine rs1 (gtL_q (w := nm) (rk_160 (hR.fr f25)) (e25_nm)) ?_
                refine rs1 (gtI_q (w := iI p) (rk_160 (hR.fr f25)) (e25_p)) ?_
                refine rs1 (vC_e (rk_160 (hR.fr f25))) ?_
                refine rs1 (cI_e (z190 (by omega) (hR.fr f25) (hT.fr f25 (by decide) (by decide)) (rfl) (by omega))) ?_
                refine rs1 (ptL_q (w := ((nm <<< (Int32.toInt64 ((8 : Int32)) &&& 63)) ||| (iI ((T p))).toInt64)) (rk_160 (hR.fr f25)) (rfl)) ?_
                refine rs1 (gtI_q (w := iI p) (rk_160 (hR.fr f25).sL) ((sL_i).trans (e25_p))) ?_
                refine rs1 (ptI_q (z := (p + 1)) (rk_160 (hR.fr f25).sL) (adI (rfl) (li_1))) ?_
                exact hgo (n - p - 1).toNat _ (by omega) ⟨(p + 1), ((nm <<< (Int32.toInt64 ((8 : Int32)) &&& 63)) ||| (iI ((T p))).toInt64), (Fr.sI (by decide) (Fr.sL (by decide) f25)), sI_eq, (sI_l).trans (sL_eq), (sI_nej (by decide)).trans ((sL_i).trans (e25_k0)), by omega, by omega, by first | exact Al.z (by omega) | exact Al.s (by assumption) (by omega) (by unfold an8 lt8 dg8; omega), by first | exact pk8_z rfl | exact pk8_s (by omega) (by assumption) rfl, by omega⟩
              ·
                refine rs1 (cI_e (z189_0 (by omega) (rfl) (by omega))) ?_
                refine rs1 (if_pos (eqI_p (rfl) (li_0) (by omega))) ?_
                exact hj181 _ ⟨p, nm, f25, e25_p, e25_nm, e25_k0, by omega, by omega, by assumption, by omega, by assumption⟩
        ·
          refine rs1 (cI_e (z188_0 (by omega) (rfl) (by omega))) ?_
          refine rs1 (if_pos (eqI_p (rfl) (li_0) (by omega))) ?_
          by_cases c30 : 48 ≤ ((T f)) ∧ ((T f)) ≤ 57
          ·
            refine rs1 (cI_e (z189_1 (by omega) (rfl) (by omega))) ?_
            refine rs1 (if_neg (eqI_n (rfl) (li_0) (by omega))) ?_
            refine rs1 (ptI_q (z := 0) (rk_160 (hR.fr f1).sI) (li_0)) ?_
            refine Rt.jn (fun s => ∃ (e : Int) (nb : Int), Fr W_nx M s ∧ s.1 160 38 = iI e ∧ s.1 160 40 = iI nb ∧ s.1 160 37 = iI f ∧ (f ≤ e) ∧ (e ≤ n) ∧ (Al dg8 T f e) ∧ (¬ (48 ≤ T e ∧ T e ≤ 57)) ∧ (NbR T f e nb)) (fun s hs => ?_) (fun j345 hj345 => ?_)
            ·
              obtain ⟨e, nb, f31, e31_e, e31_nb, e31_k0, p31_0, p31_1, p31_2, p31_3, p31_4⟩ := hs
              refine rs1 (gtI_q (w := iI e) (rk_160 (hR.fr f31)) (e31_e)) ?_
              refine rs1 (gtI_q (w := iI f) (rk_160 (hR.fr f31)) (e31_k0)) ?_
              refine rs1 (jn_v) ?_
              refine rs1 (jn_v) ?_
              by_cases c32 : 9 < (e - f)
              · refine rs1 (if_pos (lsI_p (li_9) (sbI (rfl) (rfl)) (by omega))) ?_
                refine rs1 (jv_e) ?_
                refine rs1 (jv_e) ?_
                try dsimp only
                refine rs1 (ptI_q (z := (-1)) (rk_160 (hR.fr f31)) (li_m1)) ?_
                exact hj586 _ ⟨(-1), f, e, nb, (s.2.1 160 39), (Fr.sI (by decide) f31), sI_eq, (sI_nej (by decide)).trans (e31_k0), (sI_nej (by decide)).trans (e31_e), (sI_nej (by decide)).trans (e31_nb), (sI_l), by omega, by first | (exact TkR.end (by assumption) (by omega) rfl (by omega)) | (exact TkR.word (by assumption) (by omega) (by omega) (by assumption) (by omega) (by simp_all)) | (exact TkR.num (by assumption) (by omega) (by omega) (by assumption) (by omega) (by omega) (by assumption)) | (exact TkR.bad (by assumption) (by omega) (by omega) (by assumption) (by omega) (by omega)) | (exact TkR.sign (by assumption) (by omega) (by omega) (by omega) (by unfold Sg sgk; omega))⟩
              · refine rs1 (if_neg (lsI_n (li_9) (sbI (rfl) (rfl)) (by omega))) ?_
                refine rs1 (gtI_q (w := iI e) (rk_160 (hR.fr f31)) (e31_e)) ?_
                refine rs1 (vC_e (rk_160 (hR.fr f31))) ?_
                refine rs1 (cI_e (z190 (by omega) (hR.fr f31) (hT.fr f31 (by decide) (by decide)) (rfl) (by omega))) ?_
                have b33 := hT.b e
                have b34 : e < n ∨ T e = 0 := (Int.lt_or_le e n).imp id (hT.z e)
                by_cases c35 : 97 ≤ ((T e)) ∧ ((T e)) ≤ 122
                ·
                  refine rs1 (cI_e (z188_1 (by omega) (rfl) (by omega))) ?_
                  refine rs1 (if_neg (eqI_n (rfl) (li_0) (by omega))) ?_
                  refine rs1 (jv_e) ?_
                  refine rs1 (jv_e) ?_
                  try dsimp only
                  refine rs1 (ptI_q (z := (-1)) (rk_160 (hR.fr f31)) (li_m1)) ?_
                  exact hj586 _ ⟨(-1), f, e, nb, (s.2.1 160 39), (Fr.sI (by decide) f31), sI_eq, (sI_nej (by decide)).trans (e31_k0), (sI_nej (by decide)).trans (e31_e), (sI_nej (by decide)).trans (e31_nb), (sI_l), by omega, by first | (exact TkR.end (by assumption) (by omega) rfl (by omega)) | (exact TkR.word (by assumption) (by omega) (by omega) (by assumption) (by omega) (by simp_all)) | (exact TkR.num (by assumption) (by omega) (by omega) (by assumption) (by omega) (by omega) (by assumption)) | (exact TkR.bad (by assumption) (by omega) (by omega) (by assumption) (by omega) (by omega)) | (exact TkR.sign (by assumption) (by omega) (by omega) (by omega) (by unfold Sg sgk; omega))⟩
                ·
                  refine rs1 (cI_e (z188_0 (by omega) (rfl) (by omega))) ?_
                  refine rs1 (if_pos (eqI_p (rfl) (li_0) (by omega))) ?_
                  refine rs1 (jv_e) ?_
                  try dsimp only
                  refine rs1 (ptI_q (z := 2) (rk_160 (hR.fr f31)) (li_2)) ?_
                  exact hj586 _ ⟨2, f, e, nb, (s.2.1 160 39), (Fr.sI (by decide) f31), sI_eq, (sI_nej (by decide)).trans (e31_k0), (sI_nej (by decide)).trans (e31_e), (sI_nej (by decide)).trans (e31_nb), (sI_l), by omega, by first | (exact TkR.end (by assumption) (by omega) rfl (by omega)) | (exact TkR.word (by assumption) (by omega) (by omega) (by assumption) (by omega) (by simp_all)) | (exact TkR.num (by assumption) (by omega) (by omega) (by assumption) (by omega) (by omega) (by assumption)) | (exact TkR.bad (by assumption) (by omega) (by omega) (by assumption) (by omega) (by omega)) | (exact TkR.sign (by assumption) (by omega) (by omega) (by omega) (by unfold Sg sgk; omega))⟩
            ·
              refine Rt.lp (fun m s => ∃ (p : Int) (nb : Int), Fr W_nx M s ∧ s.1 160 38 = iI p ∧ s.1 160 40 = iI nb ∧ s.1 160 37 = iI f ∧ (f ≤ p) ∧ (p ≤ n) ∧ (Al dg8 T f p) ∧ (NbR T f p nb) ∧ ((m : Int) = n - p)) (fun m s go hs hgo => ?_) (n - f).toNat _ _ (by omega) ⟨f, 0, (Fr.sI (by decide) (Fr.sI (by decide) f1)), (sI_nej (by decide)).trans ((sI_nej (by decide)).trans (e1_f)), sI_eq, (sI_nej (by decide)).trans (sI_eq), by omega, by omega, by first | exact Al.z (by omega) | exact Al.s (by assumption) (by omega) (by unfold dg8; omega), by first | exact NbR.z rfl | exact NbR.s (by omega) (by assumption) rfl (by omega) | exact NbR.k (by omega), by omega⟩
              obtain ⟨p, nb, f36, e36_p, e36_nb, e36_k0, p36_0, p36_1, p36_2, p36_3, p36_4⟩ := hs
              unfold c191_274
              refine rs1 (gtI_q (w := iI p) (rk_160 (hR.fr f36)) (e36_p)) ?_
              refine rs1 (vC_e (rk_160 (hR.fr f36))) ?_
              refine rs1 (cI_e (z190 (by omega) (hR.fr f36) (hT.fr f36 (by decide) (by decide)) (rfl) (by omega))) ?_
              have b37 := hT.b p
              have b38 : p < n ∨ T p = 0 := (Int.lt_or_le p n).imp id (hT.z p)
              by_cases c39 : 48 ≤ ((T p)) ∧ ((T p)) ≤ 57
              ·
                refine rs1 (cI_e (z189_1 (by omega) (rfl) (by omega))) ?_
                refine rs1 (if_neg (eqI_n (rfl) (li_0) (by omega))) ?_
                refine rs1 (gtI_q (w := iI p) (rk_160 (hR.fr f36)) (e36_p)) ?_
                refine rs1 (gtI_q (w := iI f) (rk_160 (hR.fr f36)) (e36_k0)) ?_
                refine rs1 (jn_v) ?_
                by_cases c40 : 9 ≤ (p - f)
                · refine rs1 (if_pos (leI_p (li_9) (sbI (rfl) (rfl)) (by omega))) ?_
                  refine rs1 (gtI_q (w := iI nb) (rk_160 (hR.fr f36)) (e36_nb)) ?_
                  refine rs1 (jv_e) ?_
                  try dsimp only
                  refine rs1 (ptI_q (z := nb) (rk_160 (hR.fr f36)) (rfl)) ?_
                  refine rs1 (gtI_q (w := iI p) (rk_160 (hR.fr f36).sI) ((sI_nej (by decide)).trans (e36_p))) ?_
                  refine rs1 (ptI_q (z := (p + 1)) (rk_160 (hR.fr f36).sI) (adI (rfl) (li_1))) ?_
                  exact hgo (n - p - 1).toNat _ (by omega) ⟨(p + 1), nb, (Fr.sI (by decide) (Fr.sI (by decide) f36)), sI_eq, (sI_nej (by decide)).trans (sI_eq), (sI_nej (by decide)).trans ((sI_nej (by decide)).trans (e36_k0)), by omega, by omega, by first | exact Al.z (by omega) | exact Al.s (by assumption) (by omega) (by unfold dg8; omega), by first | exact NbR.z rfl | exact NbR.s (by omega) (by assumption) rfl (by omega) | exact NbR.k (by omega), by omega⟩
                · refine rs1 (if_neg (leI_n (li_9) (sbI (rfl) (rfl)) (by omega))) ?_
                  refine rs1 (gtI_q (w := iI nb) (rk_160 (hR.fr f36)) (e36_nb)) ?_
                  refine rs1 (gtI_q (w := iI p) (rk_160 (hR.fr f36)) (e36_p)) ?_
                  refine rs1 (vC_e (rk_160 (hR.fr f36))) ?_
                  refine rs1 (cI_e (z190 (by omega) (hR.fr f36) (hT.fr f36 (by decide) (by decide)) (rfl) (by omega))) ?_
                  refine rs1 (jv_e) ?_
                  try dsimp only
                  refine rs1 (ptI_q (z := (10 * nb + (T p) - 48)) (rk_160 (hR.fr f36)) (cvI (sbI (adI (mlI (li_10) (rfl)) (rfl)) (li_48)) (by omega))) ?_
                  refine rs1 (gtI_q (w := iI p) (rk_160 (hR.fr f36).sI) ((sI_nej (by decide)).trans (e36_p))) ?_
                  refine rs1 (ptI_q (z := (p + 1)) (rk_160 (hR.fr f36).sI) (adI (rfl) (li_1))) ?_
                  exact hgo (n - p - 1).toNat _ (by omega) ⟨(p + 1), (10 * nb + (T p) - 48), (Fr.sI (by decide) (Fr.sI (by decide) f36)), sI_eq, (sI_nej (by decide)).trans (sI_eq), (sI_nej (by decide)).trans ((sI_nej (by decide)).trans (e36_k0)), by omega, by omega, by first | exact Al.z (by omega) | exact Al.s (by assumption) (by omega) (by unfold dg8; omega), by first | exact NbR.z rfl | exact NbR.s (by omega) (by assumption) rfl (by omega) | exact NbR.k (by omega), by omega⟩
              ·
                refine rs1 (cI_e (z189_0 (by omega) (rfl) (by omega))) ?_
                refine rs1 (if_pos (eqI_p (rfl) (li_0) (by omega))) ?_
                exact hj345 _ ⟨p, nb, f36, e36_p, e36_nb, e36_k0, by omega, by omega, by assumption, by omega, by assumption⟩
          ·
            refine rs1 (cI_e (z189_0 (by omega) (rfl) (by omega))) ?_
            refine rs1 (if_pos (eqI_p (rfl) (li_0) (by omega))) ?_
            refine rs1 (gtI_q (w := iI f) (rk_160 (hR.fr f1).sI) ((sI_nej (by decide)).trans (e1_f))) ?_
            refine rs1 (ptI_q (z := (f + 1)) (rk_160 (hR.fr f1).sI) (adI (rfl) (li_1))) ?_
            refine rs1 (gtI_q (w := iI (f + 1)) (rk_160 (hR.fr f1).sI.sI) (sI_eq)) ?_
            refine rs1 (vC_e (rk_160 (hR.fr f1).sI.sI)) ?_
            refine rs1 (cI_e (z190 (by omega) (hR.fr f1).sI.sI (hT.fr (Fr.sI (by decide) (Fr.sI (by decide) f1)) (by decide) (by decide)) (rfl) (by omega))) ?_
            have b41 := hT.b (f + 1)
            have b42 : (f + 1) < n ∨ T (f + 1) = 0 := (Int.lt_or_le (f + 1) n).imp id (hT.z (f + 1))
            refine rs1 (jn_v) ?_
            by_cases c43 : ((T (f + 1))) = 61
            · refine rs1 (if_pos (eqI_p (rfl) (li_61) (by omega))) ?_
              refine rs1 (jv_e) ?_
              refine rs1 (ptI_q (z := ((T f))) (rk_160 (hR.fr f1).sI.sI) (rfl)) ?_
              refine rs1 (jn_v) ?_
              refine rs1 (jn_v) ?_
              by_cases c44 : ((T f)) = 60
              · refine rs1 (if_pos (eqI_p (rfl) (li_60) (by omega))) ?_
                refine rs1 (jv_e) ?_
                refine rs1 (if_neg (eqI_n (li_1) (li_0) (by omega))) ?_
                refine rs1 (gtI_q (w := iI (f + 1)) (rk_160 (hR.fr f1).sI.sI.sI) ((sI_nej (by decide)).trans (sI_eq))) ?_
                refine rs1 (ptI_q (z := (f + 2)) (rk_160 (hR.fr f1).sI.sI.sI) (cvI (adI (rfl) (li_1)) (by omega))) ?_
                refine rs1 (jn_v) ?_
                refine rs1 (if_pos (eqI_p (rfl) (li_60) (by omega))) ?_
                refine rs1 (jv_e) ?_
                refine rs1 (ptI_q (z := 300) (rk_160 (hR.fr f1).sI.sI.sI.sI) (li_300)) ?_
                have b45 := V_r (M := s) (a := 160) (j := 40)
                exact hj586 _ ⟨300, f, (f + 2), ((V s 160 40)), (s.2.1 160 39), (Fr.sI (by decide) (Fr.sI (by decide) (Fr.sI (by decide) (Fr.sI (by decide) (Fr.sI (by decide) f1))))), sI_eq, (sI_nej (by decide)).trans ((sI_nej (by decide)).trans ((sI_nej (by decide)).trans ((sI_nej (by decide)).trans (sI_eq)))), (sI_nej (by decide)).trans (sI_eq), (sI_nej (by decide)).trans ((sI_nej (by decide)).trans ((sI_nej (by decide)).trans ((sI_nej (by decide)).trans ((sI_nej (by decide)).trans (eV))))), (sI_l).trans ((sI_l).trans ((sI_l).trans ((sI_l).trans ((sI_l))))), by omega, by first | (exact TkR.end (by assumption) (by omega) rfl (by omega)) | (exact TkR.word (by assumption) (by omega) (by omega) (by assumption) (by omega) (by simp_all)) | (exact TkR.num (by assumption) (by omega) (by omega) (by assumption) (by omega) (by omega) (by assumption)) | (exact TkR.bad (by assumption) (by omega) (by omega) (by assumption) (by omega) (by omega)) | (exact TkR.sign (by assumption) (by omega) (by omega) (by omega) (by unfold Sg sgk; omega))⟩
              · refine rs1 (if_neg (eqI_n (rfl) (li_60) (by omega))) ?_
                by_cases c46 : ((T f)) = 61
                · refine rs1 (if_pos (eqI_p (rfl) (li_61) (by omega))) ?_
                  refine rs1 (jv_e) ?_
                  refine rs1 (if_neg (eqI_n (li_1) (li_0) (by omega))) ?_
                  refine rs1 (gtI_q (w := iI (f + 1)) (rk_160 (hR.fr f1).sI.sI.sI) ((sI_nej (by decide)).trans (sI_eq))) ?_
                  refine rs1 (ptI_q (z := (f + 2)) (rk_160 (hR.fr f1).sI.sI.sI) (cvI (adI (rfl) (li_1)) (by omega))) ?_
                  refine rs1 (jn_v) ?_
                  refine rs1 (if_neg (eqI_n (rfl) (li_60) (by omega))) ?_
                  refine rs1 (if_pos (eqI_p (rfl) (li_61) (by omega))) ?_
                  refine rs1 (jv_e) ?_
                  refine rs1 (ptI_q (z := 301) (rk_160 (hR.fr f1).sI.sI.sI.sI) (li_301)) ?_
                  have b47 := V_r (M := s) (a := 160) (j := 40)
                  exact hj586 _ ⟨301, f, (f + 2), ((V s 160 40)), (s.2.1 160 39), (Fr.sI (by decide) (Fr.sI (by decide) (Fr.sI (by decide) (Fr.sI (by decide) (Fr.sI (by decide) f1))))), sI_eq, (sI_nej (by decide)).trans ((sI_nej (by decide)).trans ((sI_nej (by decide)).trans ((sI_nej (by decide)).trans (sI_eq)))), (sI_nej (by decide)).trans (sI_eq), (sI_nej (by decide)).trans ((sI_nej (by decide)).trans ((sI_nej (by decide)).trans ((sI_nej (by decide)).trans ((sI_nej (by decide)).trans (eV))))), (sI_l).trans ((sI_l).trans ((sI_l).trans ((sI_l).trans ((sI_l))))), by omega, by first | (exact TkR.end (by assumption) (by omega) rfl (by omega)) | (exact TkR.word (by assumption) (by omega) (by omega) (by assumption) (by omega) (by simp_all)) | (exact TkR.num (by assumption) (by omega) (by omega) (by assumption) (by omega) (by omega) (by assumption)) | (exact TkR.bad (by assumption) (by omega) (by omega) (by assumption) (by omega) (by omega)) | (exact TkR.sign (by assumption) (by omega) (by omega) (by omega) (by unfold Sg sgk; omega))⟩
                · refine rs1 (if_neg (eqI_n (rfl) (li_61) (by omega))) ?_
                  by_cases c48 : ((T f)) = 33
                  · refine rs1 (if_pos (eqI_p (rfl) (li_33) (by omega))) ?_
                    refine rs1 (jv_e) ?_
                    refine rs1 (if_neg (eqI_n (li_1) (li_0) (by omega))) ?_
                    refine rs1 (gtI_q (w := iI (f + 1)) (rk_160 (hR.fr f1).sI.sI.sI) ((sI_nej (by decide)).trans (sI_eq))) ?_
                    refine rs1 (ptI_q (z := (f + 2)) (rk_160 (hR.fr f1).sI.sI.sI) (cvI (adI (rfl) (li_1)) (by omega))) ?_
                    refine rs1 (jn_v) ?_
                    refine rs1 (if_neg (eqI_n (rfl) (li_60) (by omega))) ?_
                    refine rs1 (if_neg (eqI_n (rfl) (li_61) (by omega))) ?_
                    refine rs1 (jv_e) ?_
                    refine rs1 (ptI_q (z := 302) (rk_160 (hR.fr f1).sI.sI.sI.sI) (li_302)) ?_
                    have b49 := V_r (M := s) (a := 160) (j := 40)
                    exact hj586 _ ⟨302, f, (f + 2), ((V s 160 40)), (s.2.1 160 39), (Fr.sI (by decide) (Fr.sI (by decide) (Fr.sI (by decide) (Fr.sI (by decide) (Fr.sI (by decide) f1))))), sI_eq, (sI_nej (by decide)).trans ((sI_nej (by decide)).trans ((sI_nej (by decide)).trans ((sI_nej (by decide)).trans (sI_eq)))), (sI_nej (by decide)).trans (sI_eq), (sI_nej (by decide)).trans ((sI_nej (by decide)).trans ((sI_nej (by decide)).trans ((sI_nej (by decide)).trans ((sI_nej (by decide)).trans (eV))))), (sI_l).trans ((sI_l).trans ((sI_l).trans ((sI_l).trans ((sI_l))))), by omega, by first | (exact TkR.end (by assumption) (by omega) rfl (by omega)) | (exact TkR.word (by assumption) (by omega) (by omega) (by assumption) (by omega) (by simp_all)) | (exact TkR.num (by assumption) (by omega) (by omega) (by assumption) (by omega) (by omega) (by assumption)) | (exact TkR.bad (by assumption) (by omega) (by omega) (by assumption) (by omega) (by omega)) | (exact TkR.sign (by assumption) (by omega) (by omega) (by omega) (by unfold Sg sgk; omega))⟩
                  · refine rs1 (if_neg (eqI_n (rfl) (li_33) (by omega))) ?_
                    refine rs1 (jv_e) ?_
                    by_cases c50 : ((T f)) = 123
                    · refine rs1 (if_pos (eqI_p (rfl) (li_123) (by omega))) ?_
                      have b51 := V_r (M := s) (a := 160) (j := 40)
                      exact hj586 _ ⟨((T f)), f, (f + 1), ((V s 160 40)), (s.2.1 160 39), (Fr.sI (by decide) (Fr.sI (by decide) (Fr.sI (by decide) f1))), sI_eq, (sI_nej (by decide)).trans ((sI_nej (by decide)).trans (sI_eq)), (sI_nej (by decide)).trans (sI_eq), (sI_nej (by decide)).trans ((sI_nej (by decide)).trans ((sI_nej (by decide)).trans (eV))), (sI_l).trans ((sI_l).trans ((sI_l))), by omega, by first | (exact TkR.end (by assumption) (by omega) rfl (by omega)) | (exact TkR.word (by assumption) (by omega) (by omega) (by assumption) (by omega) (by simp_all)) | (exact TkR.num (by assumption) (by omega) (by omega) (by assumption) (by omega) (by omega) (by assumption)) | (exact TkR.bad (by assumption) (by omega) (by omega) (by assumption) (by omega) (by omega)) | (exact TkR.sign (by assumption) (by omega) (by omega) (by omega) (by unfold Sg sgk; omega))⟩
                    · refine rs1 (if_neg (eqI_n (rfl) (li_123) (by omega))) ?_
                      by_cases c52 : ((T f)) = 125
                      · refine rs1 (if_pos (eqI_p (rfl) (li_125) (by omega))) ?_
                        have b53 := V_r (M := s) (a := 160) (j := 40)
                        exact hj586 _ ⟨((T f)), f, (f + 1), ((V s 160 40)), (s.2.1 160 39), (Fr.sI (by decide) (Fr.sI (by decide) (Fr.sI (by decide) f1))), sI_eq, (sI_nej (by decide)).trans ((sI_nej (by decide)).trans (sI_eq)), (sI_nej (by decide)).trans (sI_eq), (sI_nej (by decide)).trans ((sI_nej (by decide)).trans ((sI_nej (by decide)).trans (eV))), (sI_l).trans ((sI_l).trans ((sI_l))), by omega, by first | (exact TkR.end (by assumption) (by omega) rfl (by omega)) | (exact TkR.word (by assumption) (by omega) (by omega) (by assumption) (by omega) (by simp_all)) | (exact TkR.num (by assumption) (by omega) (by omega) (by assumption) (by omega) (by omega) (by assumption)) | (exact TkR.bad (by assumption) (by omega) (by omega) (by assumption) (by omega) (by omega)) | (exact TkR.sign (by assumption) (by omega) (by omega) (by omega) (by unfold Sg sgk; omega))⟩
                      · refine rs1 (if_neg (eqI_n (rfl) (li_125) (by omega))) ?_
                        by_cases c54 : ((T f)) = 40
                        · refine rs1 (if_pos (eqI_p (rfl) (li_40) (by omega))) ?_
                          have b55 := V_r (M := s) (a := 160) (j := 40)
                          exact hj586 _ ⟨((T f)), f, (f + 1), ((V s 160 40)), (s.2.1 160 39), (Fr.sI (by decide) (Fr.sI (by decide) (Fr.sI (by decide) f1))), sI_eq, (sI_nej (by decide)).trans ((sI_nej (by decide)).trans (sI_eq)), (sI_nej (by decide)).trans (sI_eq), (sI_nej (by decide)).trans ((sI_nej (by decide)).trans ((sI_nej (by decide)).trans (eV))), (sI_l).trans ((sI_l).trans ((sI_l))), by omega, by first | (exact TkR.end (by assumption) (by omega) rfl (by omega)) | (exact TkR.word (by assumption) (by omega) (by omega) (by assumption) (by omega) (by simp_all)) | (exact TkR.num (by assumption) (by omega) (by omega) (by assumption) (by omega) (by omega) (by assumption)) | (exact TkR.bad (by assumption) (by omega) (by omega) (by assumption) (by omega) (by omega)) | (exact TkR.sign (by assumption) (by omega) (by omega) (by omega) (by unfold Sg sgk; omega))⟩
                        · refine rs1 (if_neg (eqI_n (rfl) (li_40) (by omega))) ?_
                          by_cases c56 : ((T f)) = 41
                          · refine rs1 (if_pos (eqI_p (rfl) (li_41) (by omega))) ?_
                            have b57 := V_r (M := s) (a := 160) (j := 40)
                            exact hj586 _ ⟨((T f)), f, (f + 1), ((V s 160 40)), (s.2.1 160 39), (Fr.sI (by decide) (Fr.sI (by decide) (Fr.sI (by decide) f1))), sI_eq, (sI_nej (by decide)).trans ((sI_nej (by decide)).trans (sI_eq)), (sI_nej (by decide)).trans (sI_eq), (sI_nej (by decide)).trans ((sI_nej (by decide)).trans ((sI_nej (by decide)).trans (eV))), (sI_l).trans ((sI_l).trans ((sI_l))), by omega, by first | (exact TkR.end (by assumption) (by omega) rfl (by omega)) | (exact TkR.word (by assumption) (by omega) (by omega) (by assumption) (by omega) (by simp_all)) | (exact TkR.num (by assumption) (by omega) (by omega) (by assumption) (by omega) (by omega) (by assumption)) | (exact TkR.bad (by assumption) (by omega) (by omega) (by assumption) (by omega) (by omega)) | (exact TkR.sign (by assumption) (by omega) (by omega) (by omega) (by unfold Sg sgk; omega))⟩
                          · refine rs1 (if_neg (eqI_n (rfl) (li_41) (by omega))) ?_
                            by_cases c58 : ((T f)) = 91
                            · refine rs1 (if_pos (eqI_p (rfl) (li_91) (by omega))) ?_
                              have b59 := V_r (M := s) (a := 160) (j := 40)
                              exact hj586 _ ⟨((T f)), f, (f + 1), ((V s 160 40)), (s.2.1 160 39), (Fr.sI (by decide) (Fr.sI (by decide) (Fr.sI (by decide) f1))), sI_eq, (sI_nej (by decide)).trans ((sI_nej (by decide)).trans (sI_eq)), (sI_nej (by decide)).trans (sI_eq), (sI_nej (by decide)).trans ((sI_nej (by decide)).trans ((sI_nej (by decide)).trans (eV))), (sI_l).trans ((sI_l).trans ((sI_l))), by omega, by first | (exact TkR.end (by assumption) (by omega) rfl (by omega)) | (exact TkR.word (by assumption) (by omega) (by omega) (by assumption) (by omega) (by simp_all)) | (exact TkR.num (by assumption) (by omega) (by omega) (by assumption) (by omega) (by omega) (by assumption)) | (exact TkR.bad (by assumption) (by omega) (by omega) (by assumption) (by omega) (by omega)) | (exact TkR.sign (by assumption) (by omega) (by omega) (by omega) (by unfold Sg sgk; omega))⟩
                            · refine rs1 (if_neg (eqI_n (rfl) (li_91) (by omega))) ?_
                              by_cases c60 : ((T f)) = 93
                              · refine rs1 (if_pos (eqI_p (rfl) (li_93) (by omega))) ?_
                                have b61 := V_r (M := s) (a := 160) (j := 40)
                                exact hj586 _ ⟨((T f)), f, (f + 1), ((V s 160 40)), (s.2.1 160 39), (Fr.sI (by decide) (Fr.sI (by decide) (Fr.sI (by decide) f1))), sI_eq, (sI_nej (by decide)).trans ((sI_nej (by decide)).trans (sI_eq)), (sI_nej (by decide)).trans (sI_eq), (sI_nej (by decide)).trans ((sI_nej (by decide)).trans ((sI_nej (by decide)).trans (eV))), (sI_l).trans ((sI_l).trans ((sI_l))), by omega, by first | (exact TkR.end (by assumption) (by omega) rfl (by omega)) | (exact TkR.word (by assumption) (by omega) (by omega) (by assumption) (by omega) (by simp_all)) | (exact TkR.num (by assumption) (by omega) (by omega) (by assumption) (by omega) (by omega) (by assumption)) | (exact TkR.bad (by assumption) (by omega) (by omega) (by assumption) (by omega) (by omega)) | (exact TkR.sign (by assumption) (by omega) (by omega) (by omega) (by unfold Sg sgk; omega))⟩
                              · refine rs1 (if_neg (eqI_n (rfl) (li_93) (by omega))) ?_
                                by_cases c62 : ((T f)) = 44
                                · refine rs1 (if_pos (eqI_p (rfl) (li_44) (by omega))) ?_
                                  have b63 := V_r (M := s) (a := 160) (j := 40)
                                  exact hj586 _ ⟨((T f)), f, (f + 1), ((V s 160 40)), (s.2.1 160 39), (Fr.sI (by decide) (Fr.sI (by decide) (Fr.sI (by decide) f1))), sI_eq, (sI_nej (by decide)).trans ((sI_nej (by decide)).trans (sI_eq)), (sI_nej (by decide)).trans (sI_eq), (sI_nej (by decide)).trans ((sI_nej (by decide)).trans ((sI_nej (by decide)).trans (eV))), (sI_l).trans ((sI_l).trans ((sI_l))), by omega, by first | (exact TkR.end (by assumption) (by omega) rfl (by omega)) | (exact TkR.word (by assumption) (by omega) (by omega) (by assumption) (by omega) (by simp_all)) | (exact TkR.num (by assumption) (by omega) (by omega) (by assumption) (by omega) (by omega) (by assumption)) | (exact TkR.bad (by assumption) (by omega) (by omega) (by assumption) (by omega) (by omega)) | (exact TkR.sign (by assumption) (by omega) (by omega) (by omega) (by unfold Sg sgk; omega))⟩
                                · refine rs1 (if_neg (eqI_n (rfl) (li_44) (by omega))) ?_
                                  by_cases c64 : ((T f)) = 59
                                  · refine rs1 (if_pos (eqI_p (rfl) (li_59) (by omega))) ?_
                                    have b65 := V_r (M := s) (a := 160) (j := 40)
                                    exact hj586 _ ⟨((T f)), f, (f + 1), ((V s 160 40)), (s.2.1 160 39), (Fr.sI (by decide) (Fr.sI (by decide) (Fr.sI (by decide) f1))), sI_eq, (sI_nej (by decide)).trans ((sI_nej (by decide)).trans (sI_eq)), (sI_nej (by decide)).trans (sI_eq), (sI_nej (by decide)).trans ((sI_nej (by decide)).trans ((sI_nej (by decide)).trans (eV))), (sI_l).trans ((sI_l).trans ((sI_l))), by omega, by first | (exact TkR.end (by assumption) (by omega) rfl (by omega)) | (exact TkR.word (by assumption) (by omega) (by omega) (by assumption) (by omega) (by simp_all)) | (exact TkR.num (by assumption) (by omega) (by omega) (by assumption) (by omega) (by omega) (by assumption)) | (exact TkR.bad (by assumption) (by omega) (by omega) (by assumption) (by omega) (by omega)) | (exact TkR.sign (by assumption) (by omega) (by omega) (by omega) (by unfold Sg sgk; omega))⟩
                                  · refine rs1 (if_neg (eqI_n (rfl) (li_59) (by omega))) ?_
                                    by_cases c66 : ((T f)) = 46
                                    · refine rs1 (if_pos (eqI_p (rfl) (li_46) (by omega))) ?_
                                      have b67 := V_r (M := s) (a := 160) (j := 40)
                                      exact hj586 _ ⟨((T f)), f, (f + 1), ((V s 160 40)), (s.2.1 160 39), (Fr.sI (by decide) (Fr.sI (by decide) (Fr.sI (by decide) f1))), sI_eq, (sI_nej (by decide)).trans ((sI_nej (by decide)).trans (sI_eq)), (sI_nej (by decide)).trans (sI_eq), (sI_nej (by decide)).trans ((sI_nej (by decide)).trans ((sI_nej (by decide)).trans (eV))), (sI_l).trans ((sI_l).trans ((sI_l))), by omega, by first | (exact TkR.end (by assumption) (by omega) rfl (by omega)) | (exact TkR.word (by assumption) (by omega) (by omega) (by assumption) (by omega) (by simp_all)) | (exact TkR.num (by assumption) (by omega) (by omega) (by assumption) (by omega) (by omega) (by assumption)) | (exact TkR.bad (by assumption) (by omega) (by omega) (by assumption) (by omega) (by omega)) | (exact TkR.sign (by assumption) (by omega) (by omega) (by omega) (by unfold Sg sgk; omega))⟩
                                    · refine rs1 (if_neg (eqI_n (rfl) (li_46) (by omega))) ?_
                                      refine rs1 (if_neg (eqI_n (rfl) (li_61) (by omega))) ?_
                                      by_cases c68 : ((T f)) = 43
                                      · refine rs1 (if_pos (eqI_p (rfl) (li_43) (by omega))) ?_
                                        have b69 := V_r (M := s) (a := 160) (j := 40)
                                        exact hj586 _ ⟨((T f)), f, (f + 1), ((V s 160 40)), (s.2.1 160 39), (Fr.sI (by decide) (Fr.sI (by decide) (Fr.sI (by decide) f1))), sI_eq, (sI_nej (by decide)).trans ((sI_nej (by decide)).trans (sI_eq)), (sI_nej (by decide)).trans (sI_eq), (sI_nej (by decide)).trans ((sI_nej (by decide)).trans ((sI_nej (by decide)).trans (eV))), (sI_l).trans ((sI_l).trans ((sI_l))), by omega, by first | (exact TkR.end (by assumption) (by omega) rfl (by omega)) | (exact TkR.word (by assumption) (by omega) (by omega) (by assumption) (by omega) (by simp_all)) | (exact TkR.num (by assumption) (by omega) (by omega) (by assumption) (by omega) (by omega) (by assumption)) | (exact TkR.bad (by assumption) (by omega) (by omega) (by assumption) (by omega) (by omega)) | (exact TkR.sign (by assumption) (by omega) (by omega) (by omega) (by unfold Sg sgk; omega))⟩
                                      · refine rs1 (if_neg (eqI_n (rfl) (li_43) (by omega))) ?_
                                        by_cases c70 : ((T f)) = 45
                                        · refine rs1 (if_pos (eqI_p (rfl) (li_45) (by omega))) ?_
                                          have b71 := V_r (M := s) (a := 160) (j := 40)
                                          exact hj586 _ ⟨((T f)), f, (f + 1), ((V s 160 40)), (s.2.1 160 39), (Fr.sI (by decide) (Fr.sI (by decide) (Fr.sI (by decide) f1))), sI_eq, (sI_nej (by decide)).trans ((sI_nej (by decide)).trans (sI_eq)), (sI_nej (by decide)).trans (sI_eq), (sI_nej (by decide)).trans ((sI_nej (by decide)).trans ((sI_nej (by decide)).trans (eV))), (sI_l).trans ((sI_l).trans ((sI_l))), by omega, by first | (exact TkR.end (by assumption) (by omega) rfl (by omega)) | (exact TkR.word (by assumption) (by omega) (by omega) (by assumption) (by omega) (by simp_all)) | (exact TkR.num (by assumption) (by omega) (by omega) (by assumption) (by omega) (by omega) (by assumption)) | (exact TkR.bad (by assumption) (by omega) (by omega) (by assumption) (by omega) (by omega)) | (exact TkR.sign (by assumption) (by omega) (by omega) (by omega) (by unfold Sg sgk; omega))⟩
                                        · refine rs1 (if_neg (eqI_n (rfl) (li_45) (by omega))) ?_
                                          by_cases c72 : ((T f)) = 42
                                          · refine rs1 (if_pos (eqI_p (rfl) (li_42) (by omega))) ?_
                                            have b73 := V_r (M := s) (a := 160) (j := 40)
                                            exact hj586 _ ⟨((T f)), f, (f + 1), ((V s 160 40)), (s.2.1 160 39), (Fr.sI (by decide) (Fr.sI (by decide) (Fr.sI (by decide) f1))), sI_eq, (sI_nej (by decide)).trans ((sI_nej (by decide)).trans (sI_eq)), (sI_nej (by decide)).trans (sI_eq), (sI_nej (by decide)).trans ((sI_nej (by decide)).trans ((sI_nej (by decide)).trans (eV))), (sI_l).trans ((sI_l).trans ((sI_l))), by omega, by first | (exact TkR.end (by assumption) (by omega) rfl (by omega)) | (exact TkR.word (by assumption) (by omega) (by omega) (by assumption) (by omega) (by simp_all)) | (exact TkR.num (by assumption) (by omega) (by omega) (by assumption) (by omega) (by omega) (by assumption)) | (exact TkR.bad (by assumption) (by omega) (by omega) (by assumption) (by omega) (by omega)) | (exact TkR.sign (by assumption) (by omega) (by omega) (by omega) (by unfold Sg sgk; omega))⟩
                                          · refine rs1 (if_neg (eqI_n (rfl) (li_42) (by omega))) ?_
                                            by_cases c74 : ((T f)) = 47
                                            · refine rs1 (if_pos (eqI_p (rfl) (li_47) (by omega))) ?_
                                              have b75 := V_r (M := s) (a := 160) (j := 40)
                                              exact hj586 _ ⟨((T f)), f, (f + 1), ((V s 160 40)), (s.2.1 160 39), (Fr.sI (by decide) (Fr.sI (by decide) (Fr.sI (by decide) f1))), sI_eq, (sI_nej (by decide)).trans ((sI_nej (by decide)).trans (sI_eq)), (sI_nej (by decide)).trans (sI_eq), (sI_nej (by decide)).trans ((sI_nej (by decide)).trans ((sI_nej (by decide)).trans (eV))), (sI_l).trans ((sI_l).trans ((sI_l))), by omega, by first | (exact TkR.end (by assumption) (by omega) rfl (by omega)) | (exact TkR.word (by assumption) (by omega) (by omega) (by assumption) (by omega) (by simp_all)) | (exact TkR.num (by assumption) (by omega) (by omega) (by assumption) (by omega) (by omega) (by assumption)) | (exact TkR.bad (by assumption) (by omega) (by omega) (by assumption) (by omega) (by omega)) | (exact TkR.sign (by assumption) (by omega) (by omega) (by omega) (by unfold Sg sgk; omega))⟩
                                            · refine rs1 (if_neg (eqI_n (rfl) (li_47) (by omega))) ?_
                                              by_cases c76 : ((T f)) = 37
                                              · refine rs1 (if_pos (eqI_p (rfl) (li_37) (by omega))) ?_
                                                have b77 := V_r (M := s) (a := 160) (j := 40)
                                                exact hj586 _ ⟨((T f)), f, (f + 1), ((V s 160 40)), (s.2.1 160 39), (Fr.sI (by decide) (Fr.sI (by decide) (Fr.sI (by decide) f1))), sI_eq, (sI_nej (by decide)).trans ((sI_nej (by decide)).trans (sI_eq)), (sI_nej (by decide)).trans (sI_eq), (sI_nej (by decide)).trans ((sI_nej (by decide)).trans ((sI_nej (by decide)).trans (eV))), (sI_l).trans ((sI_l).trans ((sI_l))), by omega, by first | (exact TkR.end (by assumption) (by omega) rfl (by omega)) | (exact TkR.word (by assumption) (by omega) (by omega) (by assumption) (by omega) (by simp_all)) | (exact TkR.num (by assumption) (by omega) (by omega) (by assumption) (by omega) (by omega) (by assumption)) | (exact TkR.bad (by assumption) (by omega) (by omega) (by assumption) (by omega) (by omega)) | (exact TkR.sign (by assumption) (by omega) (by omega) (by omega) (by unfold Sg sgk; omega))⟩
                                              · refine rs1 (if_neg (eqI_n (rfl) (li_37) (by omega))) ?_
                                                refine rs1 (if_neg (eqI_n (rfl) (li_60) (by omega))) ?_
                                                refine rs1 (ptI_q (z := (-1)) (rk_160 (hR.fr f1).sI.sI.sI) (li_m1)) ?_
                                                have b78 := V_r (M := s) (a := 160) (j := 40)
                                                exact hj586 _ ⟨(-1), f, (f + 1), ((V s 160 40)), (s.2.1 160 39), (Fr.sI (by decide) (Fr.sI (by decide) (Fr.sI (by decide) (Fr.sI (by decide) f1)))), sI_eq, (sI_nej (by decide)).trans ((sI_nej (by decide)).trans ((sI_nej (by decide)).trans (sI_eq))), (sI_nej (by decide)).trans ((sI_nej (by decide)).trans (sI_eq)), (sI_nej (by decide)).trans ((sI_nej (by decide)).trans ((sI_nej (by decide)).trans ((sI_nej (by decide)).trans (eV)))), (sI_l).trans ((sI_l).trans ((sI_l).trans ((sI_l)))), by omega, by first | (exact TkR.end (by assumption) (by omega) rfl (by omega)) | (exact TkR.word (by assumption) (by omega) (by omega) (by assumption) (by omega) (by simp_all)) | (exact TkR.num (by assumption) (by omega) (by omega) (by assumption) (by omega) (by omega) (by assumption)) | (exact TkR.bad (by assumption) (by omega) (by omega) (by assumption) (by omega) (by omega)) | (exact TkR.sign (by assumption) (by omega) (by omega) (by omega) (by unfold Sg sgk; omega))⟩
            · refine rs1 (if_neg (eqI_n (rfl) (li_61) (by omega))) ?_
              refine rs1 (jv_e) ?_
              refine rs1 (ptI_q (z := ((T f))) (rk_160 (hR.fr f1).sI.sI) (rfl)) ?_
              refine rs1 (jn_v) ?_
              refine rs1 (jn_v) ?_
              by_cases c79 : ((T f)) = 60
              · refine rs1 (if_pos (eqI_p (rfl) (li_60) (by omega))) ?_
                refine rs1 (jv_e) ?_
                refine rs1 (if_pos (eqI_p (li_0) (li_0) (by omega))) ?_
                refine rs1 (jv_e) ?_
                refine rs1 (if_neg (eqI_n (rfl) (li_123) (by omega))) ?_
                refine rs1 (if_neg (eqI_n (rfl) (li_125) (by omega))) ?_
                refine rs1 (if_neg (eqI_n (rfl) (li_40) (by omega))) ?_
                refine rs1 (if_neg (eqI_n (rfl) (li_41) (by omega))) ?_
                refine rs1 (if_neg (eqI_n (rfl) (li_91) (by omega))) ?_
                refine rs1 (if_neg (eqI_n (rfl) (li_93) (by omega))) ?_
                refine rs1 (if_neg (eqI_n (rfl) (li_44) (by omega))) ?_
                refine rs1 (if_neg (eqI_n (rfl) (li_59) (by omega))) ?_
                refine rs1 (if_neg (eqI_n (rfl) (li_46) (by omega))) ?_
                refine rs1 (if_neg (eqI_n (rfl) (li_61) (by omega))) ?_
                refine rs1 (if_neg (eqI_n (rfl) (li_43) (by omega))) ?_
                refine rs1 (if_neg (eqI_n (rfl) (li_45) (by omega))) ?_
                refine rs1 (if_neg (eqI_n (rfl) (li_42) (by omega))) ?_
                refine rs1 (if_neg (eqI_n (rfl) (li_47) (by omega))) ?_
                refine rs1 (if_neg (eqI_n (rfl) (li_37) (by omega))) ?_
                refine rs1 (if_pos (eqI_p (rfl) (li_60) (by omega))) ?_
                have b80 := V_r (M := s) (a := 160) (j := 40)
                exact hj586 _ ⟨((T f)), f, (f + 1), ((V s 160 40)), (s.2.1 160 39), (Fr.sI (by decide) (Fr.sI (by decide) (Fr.sI (by decide) f1))), sI_eq, (sI_nej (by decide)).trans ((sI_nej (by decide)).trans (sI_eq)), (sI_nej (by decide)).trans (sI_eq), (sI_nej (by decide)).trans ((sI_nej (by decide)).trans ((sI_nej (by decide)).trans (eV))), (sI_l).trans ((sI_l).trans ((sI_l))), by omega, by first | (exact TkR.end (by assumption) (by omega) rfl (by omega)) | (exact TkR.word (by assumption) (by omega) (by omega) (by assumption) (by omega) (by simp_all)) | (exact TkR.num (by assumption) (by omega) (by omega) (by assumption) (by omega) (by omega) (by assumption)) | (exact TkR.bad (by assumption) (by omega) (by omega) (by assumption) (by omega) (by omega)) | (exact TkR.sign (by assumption) (by omega) (by omega) (by omega) (by unfold Sg sgk; omega))⟩
              · refine rs1 (if_neg (eqI_n (rfl) (li_60) (by omega))) ?_
                by_cases c81 : ((T f)) = 61
                · refine rs1 (if_pos (eqI_p (rfl) (li_61) (by omega))) ?_
                  refine rs1 (jv_e) ?_
                  refine rs1 (if_pos (eqI_p (li_0) (li_0) (by omega))) ?_
                  refine rs1 (jv_e) ?_
                  refine rs1 (if_neg (eqI_n (rfl) (li_123) (by omega))) ?_
                  refine rs1 (if_neg (eqI_n (rfl) (li_125) (by omega))) ?_
                  refine rs1 (if_neg (eqI_n (rfl) (li_40) (by omega))) ?_
                  refine rs1 (if_neg (eqI_n (rfl) (li_41) (by omega))) ?_
                  refine rs1 (if_neg (eqI_n (rfl) (li_91) (by omega))) ?_
                  refine rs1 (if_neg (eqI_n (rfl) (li_93) (by omega))) ?_
                  refine rs1 (if_neg (eqI_n (rfl) (li_44) (by omega))) ?_
                  refine rs1 (if_neg (eqI_n (rfl) (li_59) (by omega))) ?_
                  refine rs1 (if_neg (eqI_n (rfl) (li_46) (by omega))) ?_
                  refine rs1 (if_pos (eqI_p (rfl) (li_61) (by omega))) ?_
                  have b82 := V_r (M := s) (a := 160) (j := 40)
                  exact hj586 _ ⟨((T f)), f, (f + 1), ((V s 160 40)), (s.2.1 160 39), (Fr.sI (by decide) (Fr.sI (by decide) (Fr.sI (by decide) f1))), sI_eq, (sI_nej (by decide)).trans ((sI_nej (by decide)).trans (sI_eq)), (sI_nej (by decide)).trans (sI_eq), (sI_nej (by decide)).trans ((sI_nej (by decide)).trans ((sI_nej (by decide)).trans (eV))), (sI_l).trans ((sI_l).trans ((sI_l))), by omega, by first | (exact TkR.end (by assumption) (by omega) rfl (by omega)) | (exact TkR.word (by assumption) (by omega) (by omega) (by assumption) (by omega) (by simp_all)) | (exact TkR.num (by assumption) (by omega) (by omega) (by assumption) (by omega) (by omega) (by assumption)) | (exact TkR.bad (by assumption) (by omega) (by omega) (by assumption) (by omega) (by omega)) | (exact TkR.sign (by assumption) (by omega) (by omega) (by omega) (by unfold Sg sgk; omega))⟩
                · refine rs1 (if_neg (eqI_n (rfl) (li_61) (by omega))) ?_
                  by_cases c83 : ((T f)) = 33
                  · refine rs1 (if_pos (eqI_p (rfl) (li_33) (by omega))) ?_
                    refine rs1 (jv_e) ?_
                    refine rs1 (if_pos (eqI_p (li_0) (li_0) (by omega))) ?_
                    refine rs1 (jv_e) ?_
                    refine rs1 (if_neg (eqI_n (rfl) (li_123) (by omega))) ?_
                    refine rs1 (if_neg (eqI_n (rfl) (li_125) (by omega))) ?_
                    refine rs1 (if_neg (eqI_n (rfl) (li_40) (by omega))) ?_
                    refine rs1 (if_neg (eqI_n (rfl) (li_41) (by omega))) ?_
                    refine rs1 (if_neg (eqI_n (rfl) (li_91) (by omega))) ?_
                    refine rs1 (if_neg (eqI_n (rfl) (li_93) (by omega))) ?_
                    refine rs1 (if_neg (eqI_n (rfl) (li_44) (by omega))) ?_
                    refine rs1 (if_neg (eqI_n (rfl) (li_59) (by omega))) ?_
                    refine rs1 (if_neg (eqI_n (rfl) (li_46) (by omega))) ?_
                    refine rs1 (if_neg (eqI_n (rfl) (li_61) (by omega))) ?_
                    refine rs1 (if_neg (eqI_n (rfl) (li_43) (by omega))) ?_
                    refine rs1 (if_neg (eqI_n (rfl) (li_45) (by omega))) ?_
                    refine rs1 (if_neg (eqI_n (rfl) (li_42) (by omega))) ?_
                    refine rs1 (if_neg (eqI_n (rfl) (li_47) (by omega))) ?_
                    refine rs1 (if_neg (eqI_n (rfl) (li_37) (by omega))) ?_
                    refine rs1 (if_neg (eqI_n (rfl) (li_60) (by omega))) ?_
                    refine rs1 (ptI_q (z := (-1)) (rk_160 (hR.fr f1).sI.sI.sI) (li_m1)) ?_
                    have b84 := V_r (M := s) (a := 160) (j := 40)
                    exact hj586 _ ⟨(-1), f, (f + 1), ((V s 160 40)), (s.2.1 160 39), (Fr.sI (by decide) (Fr.sI (by decide) (Fr.sI (by decide) (Fr.sI (by decide) f1)))), sI_eq, (sI_nej (by decide)).trans ((sI_nej (by decide)).trans ((sI_nej (by decide)).trans (sI_eq))), (sI_nej (by decide)).trans ((sI_nej (by decide)).trans (sI_eq)), (sI_nej (by decide)).trans ((sI_nej (by decide)).trans ((sI_nej (by decide)).trans ((sI_nej (by decide)).trans (eV)))), (sI_l).trans ((sI_l).trans ((sI_l).trans ((sI_l)))), by omega, by first | (exact TkR.end (by assumption) (by omega) rfl (by omega)) | (exact TkR.word (by assumption) (by omega) (by omega) (by assumption) (by omega) (by simp_all)) | (exact TkR.num (by assumption) (by omega) (by omega) (by assumption) (by omega) (by omega) (by assumption)) | (exact TkR.bad (by assumption) (by omega) (by omega) (by assumption) (by omega) (by omega)) | (exact TkR.sign (by assumption) (by omega) (by omega) (by omega) (by unfold Sg sgk; omega))⟩
                  · refine rs1 (if_neg (eqI_n (rfl) (li_33) (by omega))) ?_
                    refine rs1 (jv_e) ?_
                    by_cases c85 : ((T f)) = 123
                    · refine rs1 (if_pos (eqI_p (rfl) (li_123) (by omega))) ?_
                      have b86 := V_r (M := s) (a := 160) (j := 40)
                      exact hj586 _ ⟨((T f)), f, (f + 1), ((V s 160 40)), (s.2.1 160 39), (Fr.sI (by decide) (Fr.sI (by decide) (Fr.sI (by decide) f1))), sI_eq, (sI_nej (by decide)).trans ((sI_nej (by decide)).trans (sI_eq)), (sI_nej (by decide)).trans (sI_eq), (sI_nej (by decide)).trans ((sI_nej (by decide)).trans ((sI_nej (by decide)).trans (eV))), (sI_l).trans ((sI_l).trans ((sI_l))), by omega, by first | (exact TkR.end (by assumption) (by omega) rfl (by omega)) | (exact TkR.word (by assumption) (by omega) (by omega) (by assumption) (by omega) (by simp_all)) | (exact TkR.num (by assumption) (by omega) (by omega) (by assumption) (by omega) (by omega) (by assumption)) | (exact TkR.bad (by assumption) (by omega) (by omega) (by assumption) (by omega) (by omega)) | (exact TkR.sign (by assumption) (by omega) (by omega) (by omega) (by unfold Sg sgk; omega))⟩
                    · refine rs1 (if_neg (eqI_n (rfl) (li_123) (by omega))) ?_
                      by_cases c87 : ((T f)) = 125
                      · refine rs1 (if_pos (eqI_p (rfl) (li_125) (by omega))) ?_
                        have b88 := V_r (M := s) (a := 160) (j := 40)
                        exact hj586 _ ⟨((T f)), f, (f + 1), ((V s 160 40)), (s.2.1 160 39), (Fr.sI (by decide) (Fr.sI (by decide) (Fr.sI (by decide) f1))), sI_eq, (sI_nej (by decide)).trans ((sI_nej (by decide)).trans (sI_eq)), (sI_nej (by decide)).trans (sI_eq), (sI_nej (by decide)).trans ((sI_nej (by decide)).trans ((sI_nej (by decide)).trans (eV))), (sI_l).trans ((sI_l).trans ((sI_l))), by omega, by first | (exact TkR.end (by assumption) (by omega) rfl (by omega)) | (exact TkR.word (by assumption) (by omega) (by omega) (by assumption) (by omega) (by simp_all)) | (exact TkR.num (by assumption) (by omega) (by omega) (by assumption) (by omega) (by omega) (by assumption)) | (exact TkR.bad (by assumption) (by omega) (by omega) (by assumption) (by omega) (by omega)) | (exact TkR.sign (by assumption) (by omega) (by omega) (by omega) (by unfold Sg sgk; omega))⟩
                      · refine rs1 (if_neg (eqI_n (rfl) (li_125) (by omega))) ?_
                        by_cases c89 : ((T f)) = 40
                        · refine rs1 (if_pos (eqI_p (rfl) (li_40) (by omega))) ?_
                          have b90 := V_r (M := s) (a := 160) (j := 40)
                          exact hj586 _ ⟨((T f)), f, (f + 1), ((V s 160 40)), (s.2.1 160 39), (Fr.sI (by decide) (Fr.sI (by decide) (Fr.sI (by decide) f1))), sI_eq, (sI_nej (by decide)).trans ((sI_nej (by decide)).trans (sI_eq)), (sI_nej (by decide)).trans (sI_eq), (sI_nej (by decide)).trans ((sI_nej (by decide)).trans ((sI_nej (by decide)).trans (eV))), (sI_l).trans ((sI_l).trans ((sI_l))), by omega, by first | (exact TkR.end (by assumption) (by omega) rfl (by omega)) | (exact TkR.word (by assumption) (by omega) (by omega) (by assumption) (by omega) (by simp_all)) | (exact TkR.num (by assumption) (by omega) (by omega) (by assumption) (by omega) (by omega) (by assumption)) | (exact TkR.bad (by assumption) (by omega) (by omega) (by assumption) (by omega) (by omega)) | (exact TkR.sign (by assumption) (by omega) (by omega) (by omega) (by unfold Sg sgk; omega))⟩
                        · refine rs1 (if_neg (eqI_n (rfl) (li_40) (by omega))) ?_
                          by_cases c91 : ((T f)) = 41
                          · refine rs1 (if_pos (eqI_p (rfl) (li_41) (by omega))) ?_
                            have b92 := V_r (M := s) (a := 160) (j := 40)
                            exact hj586 _ ⟨((T f)), f, (f + 1), ((V s 160 40)), (s.2.1 160 39), (Fr.sI (by decide) (Fr.sI (by decide) (Fr.sI (by decide) f1))), sI_eq, (sI_nej (by decide)).trans ((sI_nej (by decide)).trans (sI_eq)), (sI_nej (by decide)).trans (sI_eq), (sI_nej (by decide)).trans ((sI_nej (by decide)).trans ((sI_nej (by decide)).trans (eV))), (sI_l).trans ((sI_l).trans ((sI_l))), by omega, by first | (exact TkR.end (by assumption) (by omega) rfl (by omega)) | (exact TkR.word (by assumption) (by omega) (by omega) (by assumption) (by omega) (by simp_all)) | (exact TkR.num (by assumption) (by omega) (by omega) (by assumption) (by omega) (by omega) (by assumption)) | (exact TkR.bad (by assumption) (by omega) (by omega) (by assumption) (by omega) (by omega)) | (exact TkR.sign (by assumption) (by omega) (by omega) (by omega) (by unfold Sg sgk; omega))⟩
                          · refine rs1 (if_neg (eqI_n (rfl) (li_41) (by omega))) ?_
                            by_cases c93 : ((T f)) = 91
                            · refine rs1 (if_pos (eqI_p (rfl) (li_91) (by omega))) ?_
                              have b94 := V_r (M := s) (a := 160) (j := 40)
                              exact hj586 _ ⟨((T f)), f, (f + 1), ((V s 160 40)), (s.2.1 160 39), (Fr.sI (by decide) (Fr.sI (by decide) (Fr.sI (by decide) f1))), sI_eq, (sI_nej (by decide)).trans ((sI_nej (by decide)).trans (sI_eq)), (sI_nej (by decide)).trans (sI_eq), (sI_nej (by decide)).trans ((sI_nej (by decide)).trans ((sI_nej (by decide)).trans (eV))), (sI_l).trans ((sI_l).trans ((sI_l))), by omega, by first | (exact TkR.end (by assumption) (by omega) rfl (by omega)) | (exact TkR.word (by assumption) (by omega) (by omega) (by assumption) (by omega) (by simp_all)) | (exact TkR.num (by assumption) (by omega) (by omega) (by assumption) (by omega) (by omega) (by assumption)) | (exact TkR.bad (by assumption) (by omega) (by omega) (by assumption) (by omega) (by omega)) | (exact TkR.sign (by assumption) (by omega) (by omega) (by omega) (by unfold Sg sgk; omega))⟩
                            · refine rs1 (if_neg (eqI_n (rfl) (li_91) (by omega))) ?_
                              by_cases c95 : ((T f)) = 93
                              · refine rs1 (if_pos (eqI_p (rfl) (li_93) (by omega))) ?_
                                have b96 := V_r (M := s) (a := 160) (j := 40)
                                exact hj586 _ ⟨((T f)), f, (f + 1), ((V s 160 40)), (s.2.1 160 39), (Fr.sI (by decide) (Fr.sI (by decide) (Fr.sI (by decide) f1))), sI_eq, (sI_nej (by decide)).trans ((sI_nej (by decide)).trans (sI_eq)), (sI_nej (by decide)).trans (sI_eq), (sI_nej (by decide)).trans ((sI_nej (by decide)).trans ((sI_nej (by decide)).trans (eV))), (sI_l).trans ((sI_l).trans ((sI_l))), by omega, by first | (exact TkR.end (by assumption) (by omega) rfl (by omega)) | (exact TkR.word (by assumption) (by omega) (by omega) (by assumption) (by omega) (by simp_all)) | (exact TkR.num (by assumption) (by omega) (by omega) (by assumption) (by omega) (by omega) (by assumption)) | (exact TkR.bad (by assumption) (by omega) (by omega) (by assumption) (by omega) (by omega)) | (exact TkR.sign (by assumption) (by omega) (by omega) (by omega) (by unfold Sg sgk; omega))⟩
                              · refine rs1 (if_neg (eqI_n (rfl) (li_93) (by omega))) ?_
                                by_cases c97 : ((T f)) = 44
                                · refine rs1 (if_pos (eqI_p (rfl) (li_44) (by omega))) ?_
                                  have b98 := V_r (M := s) (a := 160) (j := 40)
                                  exact hj586 _ ⟨((T f)), f, (f + 1), ((V s 160 40)), (s.2.1 160 39), (Fr.sI (by decide) (Fr.sI (by decide) (Fr.sI (by decide) f1))), sI_eq, (sI_nej (by decide)).trans ((sI_nej (by decide)).trans (sI_eq)), (sI_nej (by decide)).trans (sI_eq), (sI_nej (by decide)).trans ((sI_nej (by decide)).trans ((sI_nej (by decide)).trans (eV))), (sI_l).trans ((sI_l).trans ((sI_l))), by omega, by first | (exact TkR.end (by assumption) (by omega) rfl (by omega)) | (exact TkR.word (by assumption) (by omega) (by omega) (by assumption) (by omega) (by simp_all)) | (exact TkR.num (by assumption) (by omega) (by omega) (by assumption) (by omega) (by omega) (by assumption)) | (exact TkR.bad (by assumption) (by omega) (by omega) (by assumption) (by omega) (by omega)) | (exact TkR.sign (by assumption) (by omega) (by omega) (by omega) (by unfold Sg sgk; omega))⟩
                                · refine rs1 (if_neg (eqI_n (rfl) (li_44) (by omega))) ?_
                                  by_cases c99 : ((T f)) = 59
                                  · refine rs1 (if_pos (eqI_p (rfl) (li_59) (by omega))) ?_
                                    have b100 := V_r (M := s) (a := 160) (j := 40)
                                    exact hj586 _ ⟨((T f)), f, (f + 1), ((V s 160 40)), (s.2.1 160 39), (Fr.sI (by decide) (Fr.sI (by decide) (Fr.sI (by decide) f1))), sI_eq, (sI_nej (by decide)).trans ((sI_nej (by decide)).trans (sI_eq)), (sI_nej (by decide)).trans (sI_eq), (sI_nej (by decide)).trans ((sI_nej (by decide)).trans ((sI_nej (by decide)).trans (eV))), (sI_l).trans ((sI_l).trans ((sI_l))), by omega, by first | (exact TkR.end (by assumption) (by omega) rfl (by omega)) | (exact TkR.word (by assumption) (by omega) (by omega) (by assumption) (by omega) (by simp_all)) | (exact TkR.num (by assumption) (by omega) (by omega) (by assumption) (by omega) (by omega) (by assumption)) | (exact TkR.bad (by assumption) (by omega) (by omega) (by assumption) (by omega) (by omega)) | (exact TkR.sign (by assumption) (by omega) (by omega) (by omega) (by unfold Sg sgk; omega))⟩
                                  · refine rs1 (if_neg (eqI_n (rfl) (li_59) (by omega))) ?_
                                    by_cases c101 : ((T f)) = 46
                                    · refine rs1 (if_pos (eqI_p (rfl) (li_46) (by omega))) ?_
                                      have b102 := V_r (M := s) (a := 160) (j := 40)
                                      exact hj586 _ ⟨((T f)), f, (f + 1), ((V s 160 40)), (s.2.1 160 39), (Fr.sI (by decide) (Fr.sI (by decide) (Fr.sI (by decide) f1))), sI_eq, (sI_nej (by decide)).trans ((sI_nej (by decide)).trans (sI_eq)), (sI_nej (by decide)).trans (sI_eq), (sI_nej (by decide)).trans ((sI_nej (by decide)).trans ((sI_nej (by decide)).trans (eV))), (sI_l).trans ((sI_l).trans ((sI_l))), by omega, by first | (exact TkR.end (by assumption) (by omega) rfl (by omega)) | (exact TkR.word (by assumption) (by omega) (by omega) (by assumption) (by omega) (by simp_all)) | (exact TkR.num (by assumption) (by omega) (by omega) (by assumption) (by omega) (by omega) (by assumption)) | (exact TkR.bad (by assumption) (by omega) (by omega) (by assumption) (by omega) (by omega)) | (exact TkR.sign (by assumption) (by omega) (by omega) (by omega) (by unfold Sg sgk; omega))⟩
                                    · refine rs1 (if_neg (eqI_n (rfl) (li_46) (by omega))) ?_
                                      refine rs1 (if_neg (eqI_n (rfl) (li_61) (by omega))) ?_
                                      by_cases c103 : ((T f)) = 43
                                      · refine rs1 (if_pos (eqI_p (rfl) (li_43) (by omega))) ?_
                                        have b104 := V_r (M := s) (a := 160) (j := 40)
                                        exact hj586 _ ⟨((T f)), f, (f + 1), ((V s 160 40)), (s.2.1 160 39), (Fr.sI (by decide) (Fr.sI (by decide) (Fr.sI (by decide) f1))), sI_eq, (sI_nej (by decide)).trans ((sI_nej (by decide)).trans (sI_eq)), (sI_nej (by decide)).trans (sI_eq), (sI_nej (by decide)).trans ((sI_nej (by decide)).trans ((sI_nej (by decide)).trans (eV))), (sI_l).trans ((sI_l).trans ((sI_l))), by omega, by first | (exact TkR.end (by assumption) (by omega) rfl (by omega)) | (exact TkR.word (by assumption) (by omega) (by omega) (by assumption) (by omega) (by simp_all)) | (exact TkR.num (by assumption) (by omega) (by omega) (by assumption) (by omega) (by omega) (by assumption)) | (exact TkR.bad (by assumption) (by omega) (by omega) (by assumption) (by omega) (by omega)) | (exact TkR.sign (by assumption) (by omega) (by omega) (by omega) (by unfold Sg sgk; omega))⟩
                                      · refine rs1 (if_neg (eqI_n (rfl) (li_43) (by omega))) ?_
                                        by_cases c105 : ((T f)) = 45
                                        · refine rs1 (if_pos (eqI_p (rfl) (li_45) (by omega))) ?_
                                          have b106 := V_r (M := s) (a := 160) (j := 40)
                                          exact hj586 _ ⟨((T f)), f, (f + 1), ((V s 160 40)), (s.2.1 160 39), (Fr.sI (by decide) (Fr.sI (by decide) (Fr.sI (by decide) f1))), sI_eq, (sI_nej (by decide)).trans ((sI_nej (by decide)).trans (sI_eq)), (sI_nej (by decide)).trans (sI_eq), (sI_nej (by decide)).trans ((sI_nej (by decide)).trans ((sI_nej (by decide)).trans (eV))), (sI_l).trans ((sI_l).trans ((sI_l))), by omega, by first | (exact TkR.end (by assumption) (by omega) rfl (by omega)) | (exact TkR.word (by assumption) (by omega) (by omega) (by assumption) (by omega) (by simp_all)) | (exact TkR.num (by assumption) (by omega) (by omega) (by assumption) (by omega) (by omega) (by assumption)) | (exact TkR.bad (by assumption) (by omega) (by omega) (by assumption) (by omega) (by omega)) | (exact TkR.sign (by assumption) (by omega) (by omega) (by omega) (by unfold Sg sgk; omega))⟩
                                        · refine rs1 (if_neg (eqI_n (rfl) (li_45) (by omega))) ?_
                                          by_cases c107 : ((T f)) = 42
                                          · refine rs1 (if_pos (eqI_p (rfl) (li_42) (by omega))) ?_
                                            have b108 := V_r (M := s) (a := 160) (j := 40)
                                            exact hj586 _ ⟨((T f)), f, (f + 1), ((V s 160 40)), (s.2.1 160 39), (Fr.sI (by decide) (Fr.sI (by decide) (Fr.sI (by decide) f1))), sI_eq, (sI_nej (by decide)).trans ((sI_nej (by decide)).trans (sI_eq)), (sI_nej (by decide)).trans (sI_eq), (sI_nej (by decide)).trans ((sI_nej (by decide)).trans ((sI_nej (by decide)).trans (eV))), (sI_l).trans ((sI_l).trans ((sI_l))), by omega, by first | (exact TkR.end (by assumption) (by omega) rfl (by omega)) | (exact TkR.word (by assumption) (by omega) (by omega) (by assumption) (by omega) (by simp_all)) | (exact TkR.num (by assumption) (by omega) (by omega) (by assumption) (by omega) (by omega) (by assumption)) | (exact TkR.bad (by assumption) (by omega) (by omega) (by assumption) (by omega) (by omega)) | (exact TkR.sign (by assumption) (by omega) (by omega) (by omega) (by unfold Sg sgk; omega))⟩
                                          · refine rs1 (if_neg (eqI_n (rfl) (li_42) (by omega))) ?_
                                            by_cases c109 : ((T f)) = 47
                                            · refine rs1 (if_pos (eqI_p (rfl) (li_47) (by omega))) ?_
                                              have b110 := V_r (M := s) (a := 160) (j := 40)
                                              exact hj586 _ ⟨((T f)), f, (f + 1), ((V s 160 40)), (s.2.1 160 39), (Fr.sI (by decide) (Fr.sI (by decide) (Fr.sI (by decide) f1))), sI_eq, (sI_nej (by decide)).trans ((sI_nej (by decide)).trans (sI_eq)), (sI_nej (by decide)).trans (sI_eq), (sI_nej (by decide)).trans ((sI_nej (by decide)).trans ((sI_nej (by decide)).trans (eV))), (sI_l).trans ((sI_l).trans ((sI_l))), by omega, by first | (exact TkR.end (by assumption) (by omega) rfl (by omega)) | (exact TkR.word (by assumption) (by omega) (by omega) (by assumption) (by omega) (by simp_all)) | (exact TkR.num (by assumption) (by omega) (by omega) (by assumption) (by omega) (by omega) (by assumption)) | (exact TkR.bad (by assumption) (by omega) (by omega) (by assumption) (by omega) (by omega)) | (exact TkR.sign (by assumption) (by omega) (by omega) (by omega) (by unfold Sg sgk; omega))⟩
                                            · refine rs1 (if_neg (eqI_n (rfl) (li_47) (by omega))) ?_
                                              by_cases c111 : ((T f)) = 37
                                              · refine rs1 (if_pos (eqI_p (rfl) (li_37) (by omega))) ?_
                                                have b112 := V_r (M := s) (a := 160) (j := 40)
                                                exact hj586 _ ⟨((T f)), f, (f + 1), ((V s 160 40)), (s.2.1 160 39), (Fr.sI (by decide) (Fr.sI (by decide) (Fr.sI (by decide) f1))), sI_eq, (sI_nej (by decide)).trans ((sI_nej (by decide)).trans (sI_eq)), (sI_nej (by decide)).trans (sI_eq), (sI_nej (by decide)).trans ((sI_nej (by decide)).trans ((sI_nej (by decide)).trans (eV))), (sI_l).trans ((sI_l).trans ((sI_l))), by omega, by first | (exact TkR.end (by assumption) (by omega) rfl (by omega)) | (exact TkR.word (by assumption) (by omega) (by omega) (by assumption) (by omega) (by simp_all)) | (exact TkR.num (by assumption) (by omega) (by omega) (by assumption) (by omega) (by omega) (by assumption)) | (exact TkR.bad (by assumption) (by omega) (by omega) (by assumption) (by omega) (by omega)) | (exact TkR.sign (by assumption) (by omega) (by omega) (by omega) (by unfold Sg sgk; omega))⟩
                                              · refine rs1 (if_neg (eqI_n (rfl) (li_37) (by omega))) ?_
                                                refine rs1 (if_neg (eqI_n (rfl) (li_60) (by omega))) ?_
                                                refine rs1 (ptI_q (z := (-1)) (rk_160 (hR.fr f1).sI.sI.sI) (li_m1)) ?_
                                                have b113 := V_r (M := s) (a := 160) (j := 40)
                                                exact hj586 _ ⟨(-1), f, (f + 1), ((V s 160 40)), (s.2.1 160 39), (Fr.sI (by decide) (Fr.sI (by decide) (Fr.sI (by decide) (Fr.sI (by decide) f1)))), sI_eq, (sI_nej (by decide)).trans ((sI_nej (by decide)).trans ((sI_nej (by decide)).trans (sI_eq))), (sI_nej (by decide)).trans ((sI_nej (by decide)).trans (sI_eq)), (sI_nej (by decide)).trans ((sI_nej (by decide)).trans ((sI_nej (by decide)).trans ((sI_nej (by decide)).trans (eV)))), (sI_l).trans ((sI_l).trans ((sI_l).trans ((sI_l)))), by omega, by first | (exact TkR.end (by assumption) (by omega) rfl (by omega)) | (exact TkR.word (by assumption) (by omega) (by omega) (by assumption) (by omega) (by simp_all)) | (exact TkR.num (by assumption) (by omega) (by omega) (by assumption) (by omega) (by omega) (by assumption)) | (exact TkR.bad (by assumption) (by omega) (by omega) (by assumption) (by omega) (by omega)) | (exact TkR.sign (by assumption) (by omega) (by omega) (by omega) (by unfold Sg sgk; omega))⟩
  ·
    refine Rt.lp (fun m s => ∃ (p : Int), Fr W_nx M s ∧ s.1 160 38 = iI p ∧ (p0 ≤ p) ∧ (p ≤ n) ∧ (Al bl T p0 p) ∧ ((m : Int) = n - p)) (fun m s go hs hgo => ?_) (n - p0).toNat _ _ (by omega) ⟨p0, Fr.r, hp, by omega, by omega, by first | exact Al.z (by omega) | exact Al.s (by assumption) (by omega) (by unfold bl; omega), by omega⟩
    obtain ⟨p, f114, e114_p, p114_0, p114_1, p114_2, p114_3⟩ := hs
    have hz : p < n ∨ T p = 0 := (Int.lt_or_le p n).imp id (hT.z p)
    unfold c191_8
    refine rs1 (gtI_q (w := iI p) (rk_160 (hR.fr f114)) (e114_p)) ?_
    refine rs1 (gtI_q (w := iI n) (rk_160 (hR.fr f114)) ((f114.i _ _ (by decide)).trans (hT.1))) ?_
    by_cases c115 : n ≤ p
    · refine rs1 (if_pos (leI_p (rfl) (rfl) (by omega))) ?_
      exact hj71 _ ⟨p, f114, e114_p, by omega, by omega, SkR.mk (by omega) (by assumption) (by omega)⟩
    · refine rs1 (if_neg (leI_n (rfl) (rfl) (by omega))) ?_
      refine rs1 (gtI_q (w := iI p) (rk_160 (hR.fr f114)) (e114_p)) ?_
      refine rs1 (vC_e (rk_160 (hR.fr f114))) ?_
      refine rs1 (cI_e (z190 (by omega) (hR.fr f114) (hT.fr f114 (by decide) (by decide)) (rfl) (by omega))) ?_
      have b116 := hT.b p
      refine rs1 (jn_v) ?_
      by_cases c117 : ((T p)) = 10
      · refine rs1 (if_pos (eqI_p (rfl) (li_10) (by omega))) ?_
        refine rs1 (jv_e) ?_
        refine rs1 (gtI_q (w := iI p) (rk_160 (hR.fr f114)) (e114_p)) ?_
        refine rs1 (ptI_q (z := (p + 1)) (rk_160 (hR.fr f114)) (adI (rfl) (li_1))) ?_
        exact hgo (n - p - 1).toNat _ (by omega) ⟨(p + 1), (Fr.sI (by decide) f114), sI_eq, by omega, by omega, by first | exact Al.z (by omega) | exact Al.s (by assumption) (by omega) (by unfold bl; omega), by omega⟩
      · refine rs1 (if_neg (eqI_n (rfl) (li_10) (by omega))) ?_
        refine rs1 (gtI_q (w := iI p) (rk_160 (hR.fr f114)) (e114_p)) ?_
        refine rs1 (vC_e (rk_160 (hR.fr f114))) ?_
        refine rs1 (cI_e (z190 (by omega) (hR.fr f114) (hT.fr f114 (by decide) (by decide)) (rfl) (by omega))) ?_
        by_cases c118 : ((T p)) = 13
        · refine rs1 (if_pos (eqI_p (rfl) (li_13) (by omega))) ?_
          refine rs1 (jv_e) ?_
          refine rs1 (gtI_q (w := iI p) (rk_160 (hR.fr f114)) (e114_p)) ?_
          refine rs1 (ptI_q (z := (p + 1)) (rk_160 (hR.fr f114)) (adI (rfl) (li_1))) ?_
          exact hgo (n - p - 1).toNat _ (by omega) ⟨(p + 1), (Fr.sI (by decide) f114), sI_eq, by omega, by omega, by first | exact Al.z (by omega) | exact Al.s (by assumption) (by omega) (by unfold bl; omega), by omega⟩
        · refine rs1 (if_neg (eqI_n (rfl) (li_13) (by omega))) ?_
          refine rs1 (gtI_q (w := iI p) (rk_160 (hR.fr f114)) (e114_p)) ?_
          refine rs1 (vC_e (rk_160 (hR.fr f114))) ?_
          refine rs1 (cI_e (z190 (by omega) (hR.fr f114) (hT.fr f114 (by decide) (by decide)) (rfl) (by omega))) ?_
          by_cases c119 : ((T p)) = 32
          · refine rs1 (if_pos (eqI_p (rfl) (li_32) (by omega))) ?_
            refine rs1 (jv_e) ?_
            refine rs1 (gtI_q (w := iI p) (rk_160 (hR.fr f114)) (e114_p)) ?_
            refine rs1 (ptI_q (z := (p + 1)) (rk_160 (hR.fr f114)) (adI (rfl) (li_1))) ?_
            exact hgo (n - p - 1).toNat _ (by omega) ⟨(p + 1), (Fr.sI (by decide) f114), sI_eq, by omega, by omega, by first | exact Al.z (by omega) | exact Al.s (by assumption) (by omega) (by unfold bl; omega), by omega⟩
          · refine rs1 (if_neg (eqI_n (rfl) (li_32) (by omega))) ?_
            exact hj71 _ ⟨p, f114, e114_p, by omega, by omega, SkR.mk (by omega) (by assumption) (by omega)⟩
