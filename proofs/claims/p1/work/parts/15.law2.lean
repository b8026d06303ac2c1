/-! the law out of its calls -/
/-- the two systems' objects stand, and what stood before -/
def Base (L : Nat) (xs : Nat → Int32) (M : Mem) : Prop := OldOK L xs M ∧ M.2.2.2[64]? = some (12, 19) ∧ M.2.2.2[160]? = some (13, 157)
/-- one call of the class and of the reference: the same answer; the k-th call of all -/
def Sim (KM L : Nat) (xs : Nat → Int32) (Inv : Nat → Mem → Prop) (qc qr : Nat) (as : List Value) : Prop := ∀ (k : Nat) (M : Mem), k < KM → Inv k M → ∃ (r : Int32) (M1 M2 : Mem), runX 2040 qc (va_rf (some 64) :: as) M = some (.int r, M1) ∧ runX 2040 qr (va_rf (some 160) :: as) M1 = some (.int r, M2) ∧ Base L xs M1 ∧ Inv (k + 1) M2
def Sim0 (KM L : Nat) (xs : Nat → Int32) (Inv : Nat → Mem → Prop) : Prop := ∀ v1 v2 v3 v4 v5 : Int32, Sim KM L xs Inv 128 185 [.int v1, .int v2, .int v3, .int v4, .int v5]
def Sim1 (KM L : Nat) (xs : Nat → Int32) (Inv : Nat → Mem → Prop) : Prop := ∀ v1 : Int32, Sim KM L xs Inv 129 186 [.int v1]
def Sim2 (KM L : Nat) (xs : Nat → Int32) (Inv : Nat → Mem → Prop) : Prop := Sim KM L xs Inv 130 231 []
def Sim3 (KM L : Nat) (xs : Nat → Int32) (Inv : Nat → Mem → Prop) : Prop := Sim KM L xs Inv 131 234 []
def Sim4 (KM L : Nat) (xs : Nat → Int32) (Inv : Nat → Mem → Prop) : Prop := ∀ v1 v2 : Int32, Sim KM L xs Inv 132 263 [.int v1, .int v2]
def Sim5 (KM L : Nat) (xs : Nat → Int32) (Inv : Nat → Mem → Prop) : Prop := ∀ v1 v2 v3 : Int32, Sim KM L xs Inv 133 264 [.int v1, .int v2, .int v3]
def Sim6 (KM L : Nat) (xs : Nat → Int32) (Inv : Nat → Mem → Prop) : Prop := ∀ v1 v2 v3 : Int32, Sim KM L xs Inv 134 265 [.int v1, .int v2, .int v3]
def Sim7 (KM L : Nat) (xs : Nat → Int32) (Inv : Nat → Mem → Prop) : Prop := ∀ v1 v2 v3 v4 : Int32, Sim KM L xs Inv 135 266 [.int v1, .int v2, .int v3, .int v4]
def Sim8 (KM L : Nat) (xs : Nat → Int32) (Inv : Nat → Mem → Prop) : Prop := ∀ v1 v2 v3 : Int32, Sim KM L xs Inv 136 267 [.int v1, .int v2, .int v3]
def Sim9 (KM L : Nat) (xs : Nat → Int32) (Inv : Nat → Mem → Prop) : Prop := ∀ v1 : Int32, Sim KM L xs Inv 137 268 [.int v1]
def Sim10 (KM L : Nat) (xs : Nat → Int32) (Inv : Nat → Mem → Prop) : Prop := ∀ v1 : Int32, Sim KM L xs Inv 138 269 [.int v1]
def Sim11 (KM L : Nat) (xs : Nat → Int32) (Inv : Nat → Mem → Prop) : Prop := ∀ v1 v2 v3 : Int32, Sim KM L xs Inv 139 270 [.int v1, .int v2, .int v3]
def Sim12 (KM L : Nat) (xs : Nat → Int32) (Inv : Nat → Mem → Prop) : Prop := ∀ v1 : Int32, Sim KM L xs Inv 140 257 [.int v1]
def Sim13 (KM L : Nat) (xs : Nat → Int32) (Inv : Nat → Mem → Prop) : Prop := ∀ v1 v2 v3 : Int32, Sim KM L xs Inv 141 258 [.int v1, .int v2, .int v3]
def Sim14 (KM L : Nat) (xs : Nat → Int32) (Inv : Nat → Mem → Prop) : Prop := ∀ v1 v2 v3 : Int32, Sim KM L xs Inv 142 259 [.int v1, .int v2, .int v3]
def Sim15 (KM L : Nat) (xs : Nat → Int32) (Inv : Nat → Mem → Prop) : Prop := ∀ v1 v2 : Int32, Sim KM L xs Inv 143 261 [.int v1, .int v2]
def Sim16 (KM L : Nat) (xs : Nat → Int32) (Inv : Nat → Mem → Prop) : Prop := ∀ v1 : Int32, Sim KM L xs Inv 144 262 [.int v1]
def Sim17 (KM L : Nat) (xs : Nat → Int32) (Inv : Nat → Mem → Prop) : Prop := ∀ v1 v2 : Int32, Sim KM L xs Inv 145 273 [.int v1, .int v2]
def Sim18 (KM L : Nat) (xs : Nat → Int32) (Inv : Nat → Mem → Prop) : Prop := ∀ v1 v2 v3 v4 v5 : Int32, (v4 = 0 ∨ v4 = 1) → Sim KM L xs Inv 146 275 [.int v1, .int v2, .int v3, .int v4, .int v5]
def Sim19 (KM L : Nat) (xs : Nat → Int32) (Inv : Nat → Mem → Prop) : Prop := ∀ v1 : Int32, Sim KM L xs Inv 147 276 [.int v1]
def Sim20 (KM L : Nat) (xs : Nat → Int32) (Inv : Nat → Mem → Prop) : Prop := ∀ v1 v2 v3 : Int32, Sim KM L xs Inv 148 280 [.int v1, .int v2, .int v3]
def Sim21 (KM L : Nat) (xs : Nat → Int32) (Inv : Nat → Mem → Prop) : Prop := ∀ v1 v2 v3 : Int32, Sim KM L xs Inv 149 281 [.int v1, .int v2, .int v3]
def Sim22 (KM L : Nat) (xs : Nat → Int32) (Inv : Nat → Mem → Prop) : Prop := ∀ v1 : Int32, Sim KM L xs Inv 150 283 [.int v1]
def Sim23 (KM L : Nat) (xs : Nat → Int32) (Inv : Nat → Mem → Prop) : Prop := ∀ v1 v2 v3 : Int32, Sim KM L xs Inv 151 286 [.int v1, .int v2, .int v3]
def Sim24 (KM L : Nat) (xs : Nat → Int32) (Inv : Nat → Mem → Prop) : Prop := ∀ v1 v2 : Int32, Sim KM L xs Inv 152 287 [.int v1, .int v2]
def Sim25 (KM L : Nat) (xs : Nat → Int32) (Inv : Nat → Mem → Prop) : Prop := ∀ v1 v2 v3 : Int32, Sim KM L xs Inv 153 289 [.int v1, .int v2, .int v3]
def Sim26 (KM L : Nat) (xs : Nat → Int32) (Inv : Nat → Mem → Prop) : Prop := ∀ v1 : Int32, Sim KM L xs Inv 154 290 [.int v1]
def Sim27 (KM L : Nat) (xs : Nat → Int32) (Inv : Nat → Mem → Prop) : Prop := ∀ v1 v2 : Int32, Sim KM L xs Inv 155 292 [.int v1, .int v2]
def Sim28 (KM L : Nat) (xs : Nat → Int32) (Inv : Nat → Mem → Prop) : Prop := ∀ v1 : Int32, Sim KM L xs Inv 156 293 [.int v1]
def Sim29 (KM L : Nat) (xs : Nat → Int32) (Inv : Nat → Mem → Prop) : Prop := ∀ v1 v2 v3 v4 v5 v6 : Int32, Sim KM L xs Inv 157 294 [.int v1, .int v2, .int v3, .int v4, .int v5, .int v6]
def Sim30 (KM L : Nat) (xs : Nat → Int32) (Inv : Nat → Mem → Prop) : Prop := ∀ v1 : Int32, Sim KM L xs Inv 158 298 [.int v1]
def Sim31 (KM L : Nat) (xs : Nat → Int32) (Inv : Nat → Mem → Prop) : Prop := ∀ v1 v2 : Int32, Sim KM L xs Inv 159 299 [.int v1, .int v2]
def Sim32 (KM L : Nat) (xs : Nat → Int32) (Inv : Nat → Mem → Prop) : Prop := ∀ v1 v2 : Int32, Sim KM L xs Inv 160 301 [.int v1, .int v2]
def Sim33 (KM L : Nat) (xs : Nat → Int32) (Inv : Nat → Mem → Prop) : Prop := ∀ v1 : Int32, Sim KM L xs Inv 161 302 [.int v1]
def Sim34 (KM L : Nat) (xs : Nat → Int32) (Inv : Nat → Mem → Prop) : Prop := ∀ v1 v2 : Int32, Sim KM L xs Inv 162 304 [.int v1, .int v2]
def Sim35 (KM L : Nat) (xs : Nat → Int32) (Inv : Nat → Mem → Prop) : Prop := ∀ v1 : Int32, Sim KM L xs Inv 163 305 [.int v1]
def Sim36 (KM L : Nat) (xs : Nat → Int32) (Inv : Nat → Mem → Prop) : Prop := ∀ v1 v2 : Int32, Sim KM L xs Inv 164 306 [.int v1, .int v2]
def Sim37 (KM L : Nat) (xs : Nat → Int32) (Inv : Nat → Mem → Prop) : Prop := ∀ v1 v2 : Int32, Sim KM L xs Inv 165 308 [.int v1, .int v2]
def Sim38 (KM L : Nat) (xs : Nat → Int32) (Inv : Nat → Mem → Prop) : Prop := ∀ v1 v2 : Int32, Sim KM L xs Inv 166 309 [.int v1, .int v2]
def Sims (KM L : Nat) (xs : Nat → Int32) (Inv : Nat → Mem → Prop) : Prop := Sim0 KM L xs Inv ∧ Sim1 KM L xs Inv ∧ Sim2 KM L xs Inv ∧ Sim3 KM L xs Inv ∧ Sim4 KM L xs Inv ∧ Sim5 KM L xs Inv ∧ Sim6 KM L xs Inv ∧ Sim7 KM L xs Inv ∧ Sim8 KM L xs Inv ∧ Sim9 KM L xs Inv ∧ Sim10 KM L xs Inv ∧ Sim11 KM L xs Inv ∧ Sim12 KM L xs Inv ∧ Sim13 KM L xs Inv ∧ Sim14 KM L xs Inv ∧ Sim15 KM L xs Inv ∧ Sim16 KM L xs Inv ∧ Sim17 KM L xs Inv ∧ Sim18 KM L xs Inv ∧ Sim19 KM L xs Inv ∧ Sim20 KM L xs Inv ∧ Sim21 KM L xs Inv ∧ Sim22 KM L xs Inv ∧ Sim23 KM L xs Inv ∧ Sim24 KM L xs Inv ∧ Sim25 KM L xs Inv ∧ Sim26 KM L xs Inv ∧ Sim27 KM L xs Inv ∧ Sim28 KM L xs Inv ∧ Sim29 KM L xs Inv ∧ Sim30 KM L xs Inv ∧ Sim31 KM L xs Inv ∧ Sim32 KM L xs Inv ∧ Sim33 KM L xs Inv ∧ Sim34 KM L xs Inv ∧ Sim35 KM L xs Inv ∧ Sim36 KM L xs Inv ∧ Sim37 KM L xs Inv ∧ Sim38 KM L xs Inv
def Good (KM L : Nat) (xs : Nat → Int32) (Inv : Nat → Mem → Prop) : Prop := Inv 0 (app (Minit L xs) LQ183) ∧ (∀ k M, k ≤ KM → Inv k M → Base L xs M ∧ M.2.2.2.length ≤ 600064 ∧ tot M.2.2.2 ≤ tot (Minit L xs).2.2.2 + 7302250) ∧ (∀ k M, k < KM → Inv k M → Inv (k + 1) M) ∧ Sims KM L xs Inv
theorem scr_e {L : Nat} {xs : Nat → Int32} {M : Mem} {z : Nat} {k : Int32 → XA} (h : OldOK L xs M) (h1 : z < L) (h2 : L ≤ 448) : alI 100 M (some 0) (iI z) k = k (xs z) := by
  rw [alI_o (u := 100) (n := L) (h.1 0 (by decide)) (by omega) (by omega) (by omega), h.2 0 _ (by decide)]
  rfl
theorem iI_n (a b : Nat) : iI (a : Int) + iI (b : Int) = iI ((a + b : Nat) : Int) := by rw [iI_add]; rfl
theorem scr1 {L : Nat} {xs : Nat → Int32} {M : Mem} {z : Nat} {k : Int32 → XA} (h : OldOK L xs M) (h2 : L ≤ 448) (h1 : z + 7 ≤ L) : alI 100 M (some 0) (iI z + (1 : Int32)) k = k (xs (z + 1)) := by
  rw [show (1 : Int32) = iI ((1 : Nat) : Int) from by decide +kernel, iI_n, scr_e h (by omega) h2]
theorem scr2 {L : Nat} {xs : Nat → Int32} {M : Mem} {z : Nat} {k : Int32 → XA} (h : OldOK L xs M) (h2 : L ≤ 448) (h1 : z + 7 ≤ L) : alI 100 M (some 0) (iI z + (2 : Int32)) k = k (xs (z + 2)) := by
  rw [show (2 : Int32) = iI ((2 : Nat) : Int) from by decide +kernel, iI_n, scr_e h (by omega) h2]
theorem scr3 {L : Nat} {xs : Nat → Int32} {M : Mem} {z : Nat} {k : Int32 → XA} (h : OldOK L xs M) (h2 : L ≤ 448) (h1 : z + 7 ≤ L) : alI 100 M (some 0) (iI z + (3 : Int32)) k = k (xs (z + 3)) := by
  rw [show (3 : Int32) = iI ((3 : Nat) : Int) from by decide +kernel, iI_n, scr_e h (by omega) h2]
theorem scr4 {L : Nat} {xs : Nat → Int32} {M : Mem} {z : Nat} {k : Int32 → XA} (h : OldOK L xs M) (h2 : L ≤ 448) (h1 : z + 7 ≤ L) : alI 100 M (some 0) (iI z + (4 : Int32)) k = k (xs (z + 4)) := by
  rw [show (4 : Int32) = iI ((4 : Nat) : Int) from by decide +kernel, iI_n, scr_e h (by omega) h2]
theorem scr5 {L : Nat} {xs : Nat → Int32} {M : Mem} {z : Nat} {k : Int32 → XA} (h : OldOK L xs M) (h2 : L ≤ 448) (h1 : z + 7 ≤ L) : alI 100 M (some 0) (iI z + (5 : Int32)) k = k (xs (z + 5)) := by
  rw [show (5 : Int32) = iI ((5 : Nat) : Int) from by decide +kernel, iI_n, scr_e h (by omega) h2]
theorem scr6 {L : Nat} {xs : Nat → Int32} {M : Mem} {z : Nat} {k : Int32 → XA} (h : OldOK L xs M) (h2 : L ≤ 448) (h1 : z + 7 ≤ L) : alI 100 M (some 0) (iI z + (6 : Int32)) k = k (xs (z + 6)) := by
  rw [show (6 : Int32) = iI ((6 : Nat) : Int) from by decide +kernel, iI_n, scr_e h (by omega) h2]
theorem scr0 {L : Nat} {xs : Nat → Int32} {M : Mem} {z : Nat} {k : Int32 → XA} (h : OldOK L xs M) (h2 : L ≤ 448) (h1 : z + 7 ≤ L) : alI 100 M (some 0) (iI z) k = k (xs z) := scr_e h (by omega) h2
theorem scr7 (z : Nat) : iI (z : Int) + (7 : Int32) = iI ((z + 7 : Nat) : Int) := by
  rw [show (7 : Int32) = iI ((7 : Nat) : Int) from by decide +kernel, iI_n]
theorem scr_if {L z : Nat} (h2 : L ≤ 448) (h3 : z ≤ 448) : (iI (L : Int) - (7 : Int32) < iI (z : Int)) = ((L : Int) - 7 < z) := by
  rw [lit_7, iI_sub, iI_lt (by omega) (by omega) (by omega) (by omega)]
theorem swI_c {x c : Int32} {a d : XA} {l : List (Int32 × XA)} : swI x ((c, a) :: l) d = if x = c then a else swI x l d := rfl
theorem swQ {x c : Int32} {a d : XA} {l : List (Int32 × XA)} {I : Mem → Prop} {R : Mem → XA} (h1 : ∃ M2, I M2 ∧ a = R M2) (h2 : ∃ M2, I M2 ∧ swI x l d = R M2) : ∃ M2, I M2 ∧ swI x ((c, a) :: l) d = R M2 := by
  rw [swI_c]
  split
  · exact h1
  · exact h2
theorem swI_n {x : Int32} {d : XA} : swI x [] d = d := rfl
set_option maxRecDepth 100000 in
def la0 (rec : Nat → List Value → Mem → XA) (a0 x1 x4 : Option Nat) (s47 : Int32 × Mem) (j1569 j265 : Mem → XA) : XA :=
        alI 100 s47.2 a0 (s47.1 + ((1 : Int32))) fun x52 =>
        alI 100 s47.2 a0 (s47.1 + ((2 : Int32))) fun x53 =>
        alI 100 s47.2 a0 (s47.1 + ((3 : Int32))) fun x54 =>
        alI 100 s47.2 a0 (s47.1 + ((4 : Int32))) fun x55 =>
        alI 100 s47.2 a0 (s47.1 + ((5 : Int32))) fun x56 =>
        vC (12, 19) s47.2 x1 <|
        cI (rec 128 [va_rf x1, .int x52, .int x53, .int x54, .int x55, .int x56] s47.2) fun x58 M57 =>
        alI 100 M57 a0 (s47.1 + ((1 : Int32))) fun x59 =>
        alI 100 M57 a0 (s47.1 + ((2 : Int32))) fun x60 =>
        alI 100 M57 a0 (s47.1 + ((3 : Int32))) fun x61 =>
        alI 100 M57 a0 (s47.1 + ((4 : Int32))) fun x62 =>
        alI 100 M57 a0 (s47.1 + ((5 : Int32))) fun x63 =>
        vC (13, 157) M57 x4 <|
        cI (rec 185 [va_rf x4, .int x59, .int x60, .int x61, .int x62, .int x63] M57) fun x65 M64 =>
        if x58 = x65 then (
          j1569 M64) else (
          j265 M64)
set_option maxRecDepth 100000 in
def la1 (rec : Nat → List Value → Mem → XA) (a0 x1 x4 : Option Nat) (s47 : Int32 × Mem) (j1569 j288 : Mem → XA) : XA :=
        alI 100 s47.2 a0 (s47.1 + ((1 : Int32))) fun x66 =>
        vC (12, 19) s47.2 x1 <|
        cI (rec 129 [va_rf x1, .int x66] s47.2) fun x68 M67 =>
        alI 100 M67 a0 (s47.1 + ((1 : Int32))) fun x69 =>
        vC (13, 157) M67 x4 <|
        cI (rec 186 [va_rf x4, .int x69] M67) fun x71 M70 =>
        if x68 = x71 then (
          j1569 M70) else (
          j288 M70)
set_option maxRecDepth 100000 in
def la2 (rec : Nat → List Value → Mem → XA) (a0 x1 x4 : Option Nat) (s47 : Int32 × Mem) (j1569 j301 : Mem → XA) : XA :=
        vC (12, 19) s47.2 x1 <|
        cI (rec 130 [va_rf x1] s47.2) fun x73 M72 =>
        vC (13, 157) M72 x4 <|
        cI (rec 231 [va_rf x4] M72) fun x75 M74 =>
        if x73 = x75 then (
          j1569 M74) else (
          j301 M74)
set_option maxRecDepth 100000 in
def la3 (rec : Nat → List Value → Mem → XA) (a0 x1 x4 : Option Nat) (s47 : Int32 × Mem) (j1569 j314 : Mem → XA) : XA :=
        vC (12, 19) s47.2 x1 <|
        cI (rec 131 [va_rf x1] s47.2) fun x77 M76 =>
        vC (13, 157) M76 x4 <|
        cI (rec 234 [va_rf x4] M76) fun x79 M78 =>
        if x77 = x79 then (
          j1569 M78) else (
          j314 M78)
set_option maxRecDepth 100000 in
def la4 (rec : Nat → List Value → Mem → XA) (a0 x1 x4 : Option Nat) (s47 : Int32 × Mem) (j1569 j347 : Mem → XA) : XA :=
        alI 100 s47.2 a0 (s47.1 + ((1 : Int32))) fun x80 =>
        alI 100 s47.2 a0 (s47.1 + ((2 : Int32))) fun x81 =>
        vC (12, 19) s47.2 x1 <|
        cI (rec 132 [va_rf x1, .int x80, .int x81] s47.2) fun x83 M82 =>
        alI 100 M82 a0 (s47.1 + ((1 : Int32))) fun x84 =>
        alI 100 M82 a0 (s47.1 + ((2 : Int32))) fun x85 =>
        vC (13, 157) M82 x4 <|
        cI (rec 263 [va_rf x4, .int x84, .int x85] M82) fun x87 M86 =>
        if x83 = x87 then (
          j1569 M86) else (
          j347 M86)
set_option maxRecDepth 100000 in
def la5 (rec : Nat → List Value → Mem → XA) (a0 x1 x4 : Option Nat) (s47 : Int32 × Mem) (j1569 j390 : Mem → XA) : XA :=
        alI 100 s47.2 a0 (s47.1 + ((1 : Int32))) fun x88 =>
        alI 100 s47.2 a0 (s47.1 + ((2 : Int32))) fun x89 =>
        alI 100 s47.2 a0 (s47.1 + ((3 : Int32))) fun x90 =>
        vC (12, 19) s47.2 x1 <|
        cI (rec 133 [va_rf x1, .int x88, .int x89, .int x90] s47.2) fun x92 M91 =>
        alI 100 M91 a0 (s47.1 + ((1 : Int32))) fun x93 =>
        alI 100 M91 a0 (s47.1 + ((2 : Int32))) fun x94 =>
        alI 100 M91 a0 (s47.1 + ((3 : Int32))) fun x95 =>
        vC (13, 157) M91 x4 <|
        cI (rec 264 [va_rf x4, .int x93, .int x94, .int x95] M91) fun x97 M96 =>
        if x92 = x97 then (
          j1569 M96) else (
          j390 M96)
set_option maxRecDepth 100000 in
def la6 (rec : Nat → List Value → Mem → XA) (a0 x1 x4 : Option Nat) (s47 : Int32 × Mem) (j1569 j433 : Mem → XA) : XA :=
        alI 100 s47.2 a0 (s47.1 + ((1 : Int32))) fun x98 =>
        alI 100 s47.2 a0 (s47.1 + ((2 : Int32))) fun x99 =>
        alI 100 s47.2 a0 (s47.1 + ((3 : Int32))) fun x100 =>
        vC (12, 19) s47.2 x1 <|
        cI (rec 134 [va_rf x1, .int x98, .int x99, .int x100] s47.2) fun x102 M101 =>
        alI 100 M101 a0 (s47.1 + ((1 : Int32))) fun x103 =>
        alI 100 M101 a0 (s47.1 + ((2 : Int32))) fun x104 =>
        alI 100 M101 a0 (s47.1 + ((3 : Int32))) fun x105 =>
        vC (13, 157) M101 x4 <|
        cI (rec 265 [va_rf x4, .int x103, .int x104, .int x105] M101) fun x107 M106 =>
        if x102 = x107 then (
          j1569 M106) else (
          j433 M106)
set_option maxRecDepth 100000 in
def la7 (rec : Nat → List Value → Mem → XA) (a0 x1 x4 : Option Nat) (s47 : Int32 × Mem) (j1569 j486 : Mem → XA) : XA :=
        alI 100 s47.2 a0 (s47.1 + ((1 : Int32))) fun x108 =>
        alI 100 s47.2 a0 (s47.1 + ((2 : Int32))) fun x109 =>
        alI 100 s47.2 a0 (s47.1 + ((3 : Int32))) fun x110 =>
        alI 100 s47.2 a0 (s47.1 + ((4 : Int32))) fun x111 =>
        vC (12, 19) s47.2 x1 <|
        cI (rec 135 [va_rf x1, .int x108, .int x109, .int x110, .int x111] s47.2) fun x113 M112 =>
        alI 100 M112 a0 (s47.1 + ((1 : Int32))) fun x114 =>
        alI 100 M112 a0 (s47.1 + ((2 : Int32))) fun x115 =>
        alI 100 M112 a0 (s47.1 + ((3 : Int32))) fun x116 =>
        alI 100 M112 a0 (s47.1 + ((4 : Int32))) fun x117 =>
        vC (13, 157) M112 x4 <|
        cI (rec 266 [va_rf x4, .int x114, .int x115, .int x116, .int x117] M112) fun x119 M118 =>
        if x113 = x119 then (
          j1569 M118) else (
          j486 M118)
set_option maxRecDepth 100000 in
def la8 (rec : Nat → List Value → Mem → XA) (a0 x1 x4 : Option Nat) (s47 : Int32 × Mem) (j1569 j529 : Mem → XA) : XA :=
        alI 100 s47.2 a0 (s47.1 + ((1 : Int32))) fun x120 =>
        alI 100 s47.2 a0 (s47.1 + ((2 : Int32))) fun x121 =>
        alI 100 s47.2 a0 (s47.1 + ((3 : Int32))) fun x122 =>
        vC (12, 19) s47.2 x1 <|
        cI (rec 136 [va_rf x1, .int x120, .int x121, .int x122] s47.2) fun x124 M123 =>
        alI 100 M123 a0 (s47.1 + ((1 : Int32))) fun x125 =>
        alI 100 M123 a0 (s47.1 + ((2 : Int32))) fun x126 =>
        alI 100 M123 a0 (s47.1 + ((3 : Int32))) fun x127 =>
        vC (13, 157) M123 x4 <|
        cI (rec 267 [va_rf x4, .int x125, .int x126, .int x127] M123) fun x129 M128 =>
        if x124 = x129 then (
          j1569 M128) else (
          j529 M128)
set_option maxRecDepth 100000 in
def la9 (rec : Nat → List Value → Mem → XA) (a0 x1 x4 : Option Nat) (s47 : Int32 × Mem) (j1569 j552 : Mem → XA) : XA :=
        alI 100 s47.2 a0 (s47.1 + ((1 : Int32))) fun x130 =>
        vC (12, 19) s47.2 x1 <|
        cI (rec 137 [va_rf x1, .int x130] s47.2) fun x132 M131 =>
        alI 100 M131 a0 (s47.1 + ((1 : Int32))) fun x133 =>
        vC (13, 157) M131 x4 <|
        cI (rec 268 [va_rf x4, .int x133] M131) fun x135 M134 =>
        if x132 = x135 then (
          j1569 M134) else (
          j552 M134)
set_option maxRecDepth 100000 in
def la10 (rec : Nat → List Value → Mem → XA) (a0 x1 x4 : Option Nat) (s47 : Int32 × Mem) (j1569 j575 : Mem → XA) : XA :=
        alI 100 s47.2 a0 (s47.1 + ((1 : Int32))) fun x136 =>
        vC (12, 19) s47.2 x1 <|
        cI (rec 138 [va_rf x1, .int x136] s47.2) fun x138 M137 =>
        alI 100 M137 a0 (s47.1 + ((1 : Int32))) fun x139 =>
        vC (13, 157) M137 x4 <|
        cI (rec 269 [va_rf x4, .int x139] M137) fun x141 M140 =>
        if x138 = x141 then (
          j1569 M140) else (
          j575 M140)
set_option maxRecDepth 100000 in
def la11 (rec : Nat → List Value → Mem → XA) (a0 x1 x4 : Option Nat) (s47 : Int32 × Mem) (j1569 j618 : Mem → XA) : XA :=
        alI 100 s47.2 a0 (s47.1 + ((1 : Int32))) fun x142 =>
        alI 100 s47.2 a0 (s47.1 + ((2 : Int32))) fun x143 =>
        alI 100 s47.2 a0 (s47.1 + ((3 : Int32))) fun x144 =>
        vC (12, 19) s47.2 x1 <|
        cI (rec 139 [va_rf x1, .int x142, .int x143, .int x144] s47.2) fun x146 M145 =>
        alI 100 M145 a0 (s47.1 + ((1 : Int32))) fun x147 =>
        alI 100 M145 a0 (s47.1 + ((2 : Int32))) fun x148 =>
        alI 100 M145 a0 (s47.1 + ((3 : Int32))) fun x149 =>
        vC (13, 157) M145 x4 <|
        cI (rec 270 [va_rf x4, .int x147, .int x148, .int x149] M145) fun x151 M150 =>
        if x146 = x151 then (
          j1569 M150) else (
          j618 M150)
set_option maxRecDepth 100000 in
def la12 (rec : Nat → List Value → Mem → XA) (a0 x1 x4 : Option Nat) (s47 : Int32 × Mem) (j1569 j641 : Mem → XA) : XA :=
        alI 100 s47.2 a0 (s47.1 + ((1 : Int32))) fun x152 =>
        vC (12, 19) s47.2 x1 <|
        cI (rec 140 [va_rf x1, .int x152] s47.2) fun x154 M153 =>
        alI 100 M153 a0 (s47.1 + ((1 : Int32))) fun x155 =>
        vC (13, 157) M153 x4 <|
        cI (rec 257 [va_rf x4, .int x155] M153) fun x157 M156 =>
        if x154 = x157 then (
          j1569 M156) else (
          j641 M156)
set_option maxRecDepth 100000 in
def la13 (rec : Nat → List Value → Mem → XA) (a0 x1 x4 : Option Nat) (s47 : Int32 × Mem) (j1569 j684 : Mem → XA) : XA :=
        alI 100 s47.2 a0 (s47.1 + ((1 : Int32))) fun x158 =>
        alI 100 s47.2 a0 (s47.1 + ((2 : Int32))) fun x159 =>
        alI 100 s47.2 a0 (s47.1 + ((3 : Int32))) fun x160 =>
        vC (12, 19) s47.2 x1 <|
        cI (rec 141 [va_rf x1, .int x158, .int x159, .int x160] s47.2) fun x162 M161 =>
        alI 100 M161 a0 (s47.1 + ((1 : Int32))) fun x163 =>
        alI 100 M161 a0 (s47.1 + ((2 : Int32))) fun x164 =>
        alI 100 M161 a0 (s47.1 + ((3 : Int32))) fun x165 =>
        vC (13, 157) M161 x4 <|
        cI (rec 258 [va_rf x4, .int x163, .int x164, .int x165] M161) fun x167 M166 =>
        if x162 = x167 then (
          j1569 M166) else (
          j684 M166)
set_option maxRecDepth 100000 in
def la14 (rec : Nat → List Value → Mem → XA) (a0 x1 x4 : Option Nat) (s47 : Int32 × Mem) (j1569 j727 : Mem → XA) : XA :=
        alI 100 s47.2 a0 (s47.1 + ((1 : Int32))) fun x168 =>
        alI 100 s47.2 a0 (s47.1 + ((2 : Int32))) fun x169 =>
        alI 100 s47.2 a0 (s47.1 + ((3 : Int32))) fun x170 =>
        vC (12, 19) s47.2 x1 <|
        cI (rec 142 [va_rf x1, .int x168, .int x169, .int x170] s47.2) fun x172 M171 =>
        alI 100 M171 a0 (s47.1 + ((1 : Int32))) fun x173 =>
        alI 100 M171 a0 (s47.1 + ((2 : Int32))) fun x174 =>
        alI 100 M171 a0 (s47.1 + ((3 : Int32))) fun x175 =>
        vC (13, 157) M171 x4 <|
        cI (rec 259 [va_rf x4, .int x173, .int x174, .int x175] M171) fun x177 M176 =>
        if x172 = x177 then (
          j1569 M176) else (
          j727 M176)
set_option maxRecDepth 100000 in
def la15 (rec : Nat → List Value → Mem → XA) (a0 x1 x4 : Option Nat) (s47 : Int32 × Mem) (j1569 j760 : Mem → XA) : XA :=
        alI 100 s47.2 a0 (s47.1 + ((1 : Int32))) fun x178 =>
        alI 100 s47.2 a0 (s47.1 + ((2 : Int32))) fun x179 =>
        vC (12, 19) s47.2 x1 <|
        cI (rec 143 [va_rf x1, .int x178, .int x179] s47.2) fun x181 M180 =>
        alI 100 M180 a0 (s47.1 + ((1 : Int32))) fun x182 =>
        alI 100 M180 a0 (s47.1 + ((2 : Int32))) fun x183 =>
        vC (13, 157) M180 x4 <|
        cI (rec 261 [va_rf x4, .int x182, .int x183] M180) fun x185 M184 =>
        if x181 = x185 then (
          j1569 M184) else (
          j760 M184)
set_option maxRecDepth 100000 in
def la16 (rec : Nat → List Value → Mem → XA) (a0 x1 x4 : Option Nat) (s47 : Int32 × Mem) (j1569 j783 : Mem → XA) : XA :=
        alI 100 s47.2 a0 (s47.1 + ((1 : Int32))) fun x186 =>
        vC (12, 19) s47.2 x1 <|
        cI (rec 144 [va_rf x1, .int x186] s47.2) fun x188 M187 =>
        alI 100 M187 a0 (s47.1 + ((1 : Int32))) fun x189 =>
        vC (13, 157) M187 x4 <|
        cI (rec 262 [va_rf x4, .int x189] M187) fun x191 M190 =>
        if x188 = x191 then (
          j1569 M190) else (
          j783 M190)
set_option maxRecDepth 100000 in
def la17 (rec : Nat → List Value → Mem → XA) (a0 x1 x4 : Option Nat) (s47 : Int32 × Mem) (j1569 j816 : Mem → XA) : XA :=
        alI 100 s47.2 a0 (s47.1 + ((1 : Int32))) fun x192 =>
        alI 100 s47.2 a0 (s47.1 + ((2 : Int32))) fun x193 =>
        vC (12, 19) s47.2 x1 <|
        cI (rec 145 [va_rf x1, .int x192, .int x193] s47.2) fun x195 M194 =>
        alI 100 M194 a0 (s47.1 + ((1 : Int32))) fun x196 =>
        alI 100 M194 a0 (s47.1 + ((2 : Int32))) fun x197 =>
        vC (13, 157) M194 x4 <|
        cI (rec 273 [va_rf x4, .int x196, .int x197] M194) fun x199 M198 =>
        if x195 = x199 then (
          j1569 M198) else (
          j816 M198)
set_option maxRecDepth 100000 in
def la18 (rec : Nat → List Value → Mem → XA) (a0 x1 x4 : Option Nat) (s47 : Int32 × Mem) (j1569 j895 : Mem → XA) : XA :=
        alI 100 s47.2 a0 (s47.1 + ((1 : Int32))) fun x200 =>
        alI 100 s47.2 a0 (s47.1 + ((2 : Int32))) fun x201 =>
        alI 100 s47.2 a0 (s47.1 + ((3 : Int32))) fun x202 =>
        alI 100 s47.2 a0 (s47.1 + ((4 : Int32))) fun x203 =>
        jn (fun (s204 : Int32) =>
          alI 100 s47.2 a0 (s47.1 + ((5 : Int32))) fun x205 =>
          vC (12, 19) s47.2 x1 <|
          cI (rec 146 [va_rf x1, .int x200, .int x201, .int x202, .int s204, .int x205] s47.2) fun x207 M206 =>
          alI 100 M206 a0 (s47.1 + ((1 : Int32))) fun x208 =>
          alI 100 M206 a0 (s47.1 + ((2 : Int32))) fun x209 =>
          alI 100 M206 a0 (s47.1 + ((3 : Int32))) fun x210 =>
          alI 100 M206 a0 (s47.1 + ((4 : Int32))) fun x211 =>
          jn (fun (s212 : Int32) =>
            alI 100 M206 a0 (s47.1 + ((5 : Int32))) fun x213 =>
            vC (13, 157) M206 x4 <|
            cI (rec 275 [va_rf x4, .int x208, .int x209, .int x210, .int s212, .int x213] M206) fun x215 M214 =>
            if x207 = x215 then (
              j1569 M214) else (
              j895 M214)) fun j884 =>
          if x211 = 0 then (
            j884 ((0 : Int32))) else (
            j884 ((1 : Int32)))) fun j847 =>
        if x203 = 0 then (
          j847 ((0 : Int32))) else (
          j847 ((1 : Int32)))
set_option maxRecDepth 100000 in
def la19 (rec : Nat → List Value → Mem → XA) (a0 x1 x4 : Option Nat) (s47 : Int32 × Mem) (j1569 j918 : Mem → XA) : XA :=
        alI 100 s47.2 a0 (s47.1 + ((1 : Int32))) fun x216 =>
        vC (12, 19) s47.2 x1 <|
        cI (rec 147 [va_rf x1, .int x216] s47.2) fun x218 M217 =>
        alI 100 M217 a0 (s47.1 + ((1 : Int32))) fun x219 =>
        vC (13, 157) M217 x4 <|
        cI (rec 276 [va_rf x4, .int x219] M217) fun x221 M220 =>
        if x218 = x221 then (
          j1569 M220) else (
          j918 M220)
set_option maxRecDepth 100000 in
def la20 (rec : Nat → List Value → Mem → XA) (a0 x1 x4 : Option Nat) (s47 : Int32 × Mem) (j1569 j961 : Mem → XA) : XA :=
        alI 100 s47.2 a0 (s47.1 + ((1 : Int32))) fun x222 =>
        alI 100 s47.2 a0 (s47.1 + ((2 : Int32))) fun x223 =>
        alI 100 s47.2 a0 (s47.1 + ((3 : Int32))) fun x224 =>
        vC (12, 19) s47.2 x1 <|
        cI (rec 148 [va_rf x1, .int x222, .int x223, .int x224] s47.2) fun x226 M225 =>
        alI 100 M225 a0 (s47.1 + ((1 : Int32))) fun x227 =>
        alI 100 M225 a0 (s47.1 + ((2 : Int32))) fun x228 =>
        alI 100 M225 a0 (s47.1 + ((3 : Int32))) fun x229 =>
        vC (13, 157) M225 x4 <|
        cI (rec 280 [va_rf x4, .int x227, .int x228, .int x229] M225) fun x231 M230 =>
        if x226 = x231 then (
          j1569 M230) else (
          j961 M230)
set_option maxRecDepth 100000 in
def la21 (rec : Nat → List Value → Mem → XA) (a0 x1 x4 : Option Nat) (s47 : Int32 × Mem) (j1569 j1004 : Mem → XA) : XA :=
        alI 100 s47.2 a0 (s47.1 + ((1 : Int32))) fun x232 =>
        alI 100 s47.2 a0 (s47.1 + ((2 : Int32))) fun x233 =>
        alI 100 s47.2 a0 (s47.1 + ((3 : Int32))) fun x234 =>
        vC (12, 19) s47.2 x1 <|
        cI (rec 149 [va_rf x1, .int x232, .int x233, .int x234] s47.2) fun x236 M235 =>
        alI 100 M235 a0 (s47.1 + ((1 : Int32))) fun x237 =>
        alI 100 M235 a0 (s47.1 + ((2 : Int32))) fun x238 =>
        alI 100 M235 a0 (s47.1 + ((3 : Int32))) fun x239 =>
        vC (13, 157) M235 x4 <|
        cI (rec 281 [va_rf x4, .int x237, .int x238, .int x239] M235) fun x241 M240 =>
        if x236 = x241 then (
          j1569 M240) else (
          j1004 M240)
set_option maxRecDepth 100000 in
def la22 (rec : Nat → List Value → Mem → XA) (a0 x1 x4 : Option Nat) (s47 : Int32 × Mem) (j1569 j1027 : Mem → XA) : XA :=
        alI 100 s47.2 a0 (s47.1 + ((1 : Int32))) fun x242 =>
        vC (12, 19) s47.2 x1 <|
        cI (rec 150 [va_rf x1, .int x242] s47.2) fun x244 M243 =>
        alI 100 M243 a0 (s47.1 + ((1 : Int32))) fun x245 =>
        vC (13, 157) M243 x4 <|
        cI (rec 283 [va_rf x4, .int x245] M243) fun x247 M246 =>
        if x244 = x247 then (
          j1569 M246) else (
          j1027 M246)
set_option maxRecDepth 100000 in
def la23 (rec : Nat → List Value → Mem → XA) (a0 x1 x4 : Option Nat) (s47 : Int32 × Mem) (j1569 j1070 : Mem → XA) : XA :=
        alI 100 s47.2 a0 (s47.1 + ((1 : Int32))) fun x248 =>
        alI 100 s47.2 a0 (s47.1 + ((2 : Int32))) fun x249 =>
        alI 100 s47.2 a0 (s47.1 + ((3 : Int32))) fun x250 =>
        vC (12, 19) s47.2 x1 <|
        cI (rec 151 [va_rf x1, .int x248, .int x249, .int x250] s47.2) fun x252 M251 =>
        alI 100 M251 a0 (s47.1 + ((1 : Int32))) fun x253 =>
        alI 100 M251 a0 (s47.1 + ((2 : Int32))) fun x254 =>
        alI 100 M251 a0 (s47.1 + ((3 : Int32))) fun x255 =>
        vC (13, 157) M251 x4 <|
        cI (rec 286 [va_rf x4, .int x253, .int x254, .int x255] M251) fun x257 M256 =>
        if x252 = x257 then (
          j1569 M256) else (
          j1070 M256)
set_option maxRecDepth 100000 in
def la24 (rec : Nat → List Value → Mem → XA) (a0 x1 x4 : Option Nat) (s47 : Int32 × Mem) (j1569 j1103 : Mem → XA) : XA :=
        alI 100 s47.2 a0 (s47.1 + ((1 : Int32))) fun x258 =>
        alI 100 s47.2 a0 (s47.1 + ((2 : Int32))) fun x259 =>
        vC (12, 19) s47.2 x1 <|
        cI (rec 152 [va_rf x1, .int x258, .int x259] s47.2) fun x261 M260 =>
        alI 100 M260 a0 (s47.1 + ((1 : Int32))) fun x262 =>
        alI 100 M260 a0 (s47.1 + ((2 : Int32))) fun x263 =>
        vC (13, 157) M260 x4 <|
        cI (rec 287 [va_rf x4, .int x262, .int x263] M260) fun x265 M264 =>
        if x261 = x265 then (
          j1569 M264) else (
          j1103 M264)
set_option maxRecDepth 100000 in
def la25 (rec : Nat → List Value → Mem → XA) (a0 x1 x4 : Option Nat) (s47 : Int32 × Mem) (j1569 j1146 : Mem → XA) : XA :=
        alI 100 s47.2 a0 (s47.1 + ((1 : Int32))) fun x266 =>
        alI 100 s47.2 a0 (s47.1 + ((2 : Int32))) fun x267 =>
        alI 100 s47.2 a0 (s47.1 + ((3 : Int32))) fun x268 =>
        vC (12, 19) s47.2 x1 <|
        cI (rec 153 [va_rf x1, .int x266, .int x267, .int x268] s47.2) fun x270 M269 =>
        alI 100 M269 a0 (s47.1 + ((1 : Int32))) fun x271 =>
        alI 100 M269 a0 (s47.1 + ((2 : Int32))) fun x272 =>
        alI 100 M269 a0 (s47.1 + ((3 : Int32))) fun x273 =>
        vC (13, 157) M269 x4 <|
        cI (rec 289 [va_rf x4, .int x271, .int x272, .int x273] M269) fun x275 M274 =>
        if x270 = x275 then (
          j1569 M274) else (
          j1146 M274)
set_option maxRecDepth 100000 in
def la26 (rec : Nat → List Value → Mem → XA) (a0 x1 x4 : Option Nat) (s47 : Int32 × Mem) (j1569 j1169 : Mem → XA) : XA :=
        alI 100 s47.2 a0 (s47.1 + ((1 : Int32))) fun x276 =>
        vC (12, 19) s47.2 x1 <|
        cI (rec 154 [va_rf x1, .int x276] s47.2) fun x278 M277 =>
        alI 100 M277 a0 (s47.1 + ((1 : Int32))) fun x279 =>
        vC (13, 157) M277 x4 <|
        cI (rec 290 [va_rf x4, .int x279] M277) fun x281 M280 =>
        if x278 = x281 then (
          j1569 M280) else (
          j1169 M280)
set_option maxRecDepth 100000 in
def la27 (rec : Nat → List Value → Mem → XA) (a0 x1 x4 : Option Nat) (s47 : Int32 × Mem) (j1569 j1202 : Mem → XA) : XA :=
        alI 100 s47.2 a0 (s47.1 + ((1 : Int32))) fun x282 =>
        alI 100 s47.2 a0 (s47.1 + ((2 : Int32))) fun x283 =>
        vC (12, 19) s47.2 x1 <|
        cI (rec 155 [va_rf x1, .int x282, .int x283] s47.2) fun x285 M284 =>
        alI 100 M284 a0 (s47.1 + ((1 : Int32))) fun x286 =>
        alI 100 M284 a0 (s47.1 + ((2 : Int32))) fun x287 =>
        vC (13, 157) M284 x4 <|
        cI (rec 292 [va_rf x4, .int x286, .int x287] M284) fun x289 M288 =>
        if x285 = x289 then (
          j1569 M288) else (
          j1202 M288)
set_option maxRecDepth 100000 in
def la28 (rec : Nat → List Value → Mem → XA) (a0 x1 x4 : Option Nat) (s47 : Int32 × Mem) (j1569 j1225 : Mem → XA) : XA :=
        alI 100 s47.2 a0 (s47.1 + ((1 : Int32))) fun x290 =>
        vC (12, 19) s47.2 x1 <|
        cI (rec 156 [va_rf x1, .int x290] s47.2) fun x292 M291 =>
        alI 100 M291 a0 (s47.1 + ((1 : Int32))) fun x293 =>
        vC (13, 157) M291 x4 <|
        cI (rec 293 [va_rf x4, .int x293] M291) fun x295 M294 =>
        if x292 = x295 then (
          j1569 M294) else (
          j1225 M294)
set_option maxRecDepth 100000 in
def la29 (rec : Nat → List Value → Mem → XA) (a0 x1 x4 : Option Nat) (s47 : Int32 × Mem) (j1569 j1300 : Mem → XA) : XA :=
        alI 100 s47.2 a0 (s47.1 + ((1 : Int32))) fun x296 =>
        alI 100 s47.2 a0 (s47.1 + ((2 : Int32))) fun x297 =>
        alI 100 s47.2 a0 (s47.1 + ((3 : Int32))) fun x298 =>
        alI 100 s47.2 a0 (s47.1 + ((4 : Int32))) fun x299 =>
        alI 100 s47.2 a0 (s47.1 + ((5 : Int32))) fun x300 =>
        alI 100 s47.2 a0 (s47.1 + ((6 : Int32))) fun x301 =>
        vC (12, 19) s47.2 x1 <|
        cI (rec 157 [va_rf x1, .int x296, .int x297, .int x298, .int x299, .int x300, .int x301] s47.2) fun x303 M302 =>
        alI 100 M302 a0 (s47.1 + ((1 : Int32))) fun x304 =>
        alI 100 M302 a0 (s47.1 + ((2 : Int32))) fun x305 =>
        alI 100 M302 a0 (s47.1 + ((3 : Int32))) fun x306 =>
        alI 100 M302 a0 (s47.1 + ((4 : Int32))) fun x307 =>
        alI 100 M302 a0 (s47.1 + ((5 : Int32))) fun x308 =>
        alI 100 M302 a0 (s47.1 + ((6 : Int32))) fun x309 =>
        vC (13, 157) M302 x4 <|
        cI (rec 294 [va_rf x4, .int x304, .int x305, .int x306, .int x307, .int x308, .int x309] M302) fun x311 M310 =>
        if x303 = x311 then (
          j1569 M310) else (
          j1300 M310)
set_option maxRecDepth 100000 in
def la30 (rec : Nat → List Value → Mem → XA) (a0 x1 x4 : Option Nat) (s47 : Int32 × Mem) (j1569 j1323 : Mem → XA) : XA :=
        alI 100 s47.2 a0 (s47.1 + ((1 : Int32))) fun x312 =>
        vC (12, 19) s47.2 x1 <|
        cI (rec 158 [va_rf x1, .int x312] s47.2) fun x314 M313 =>
        alI 100 M313 a0 (s47.1 + ((1 : Int32))) fun x315 =>
        vC (13, 157) M313 x4 <|
        cI (rec 298 [va_rf x4, .int x315] M313) fun x317 M316 =>
        if x314 = x317 then (
          j1569 M316) else (
          j1323 M316)
set_option maxRecDepth 100000 in
def la31 (rec : Nat → List Value → Mem → XA) (a0 x1 x4 : Option Nat) (s47 : Int32 × Mem) (j1569 j1356 : Mem → XA) : XA :=
        alI 100 s47.2 a0 (s47.1 + ((1 : Int32))) fun x318 =>
        alI 100 s47.2 a0 (s47.1 + ((2 : Int32))) fun x319 =>
        vC (12, 19) s47.2 x1 <|
        cI (rec 159 [va_rf x1, .int x318, .int x319] s47.2) fun x321 M320 =>
        alI 100 M320 a0 (s47.1 + ((1 : Int32))) fun x322 =>
        alI 100 M320 a0 (s47.1 + ((2 : Int32))) fun x323 =>
        vC (13, 157) M320 x4 <|
        cI (rec 299 [va_rf x4, .int x322, .int x323] M320) fun x325 M324 =>
        if x321 = x325 then (
          j1569 M324) else (
          j1356 M324)
set_option maxRecDepth 100000 in
def la32 (rec : Nat → List Value → Mem → XA) (a0 x1 x4 : Option Nat) (s47 : Int32 × Mem) (j1569 j1389 : Mem → XA) : XA :=
        alI 100 s47.2 a0 (s47.1 + ((1 : Int32))) fun x326 =>
        alI 100 s47.2 a0 (s47.1 + ((2 : Int32))) fun x327 =>
        vC (12, 19) s47.2 x1 <|
        cI (rec 160 [va_rf x1, .int x326, .int x327] s47.2) fun x329 M328 =>
        alI 100 M328 a0 (s47.1 + ((1 : Int32))) fun x330 =>
        alI 100 M328 a0 (s47.1 + ((2 : Int32))) fun x331 =>
        vC (13, 157) M328 x4 <|
        cI (rec 301 [va_rf x4, .int x330, .int x331] M328) fun x333 M332 =>
        if x329 = x333 then (
          j1569 M332) else (
          j1389 M332)
set_option maxRecDepth 100000 in
def la33 (rec : Nat → List Value → Mem → XA) (a0 x1 x4 : Option Nat) (s47 : Int32 × Mem) (j1569 j1412 : Mem → XA) : XA :=
        alI 100 s47.2 a0 (s47.1 + ((1 : Int32))) fun x334 =>
        vC (12, 19) s47.2 x1 <|
        cI (rec 161 [va_rf x1, .int x334] s47.2) fun x336 M335 =>
        alI 100 M335 a0 (s47.1 + ((1 : Int32))) fun x337 =>
        vC (13, 157) M335 x4 <|
        cI (rec 302 [va_rf x4, .int x337] M335) fun x339 M338 =>
        if x336 = x339 then (
          j1569 M338) else (
          j1412 M338)
set_option maxRecDepth 100000 in
def la34 (rec : Nat → List Value → Mem → XA) (a0 x1 x4 : Option Nat) (s47 : Int32 × Mem) (j1569 j1445 : Mem → XA) : XA :=
        alI 100 s47.2 a0 (s47.1 + ((1 : Int32))) fun x340 =>
        alI 100 s47.2 a0 (s47.1 + ((2 : Int32))) fun x341 =>
        vC (12, 19) s47.2 x1 <|
        cI (rec 162 [va_rf x1, .int x340, .int x341] s47.2) fun x343 M342 =>
        alI 100 M342 a0 (s47.1 + ((1 : Int32))) fun x344 =>
        alI 100 M342 a0 (s47.1 + ((2 : Int32))) fun x345 =>
        vC (13, 157) M342 x4 <|
        cI (rec 304 [va_rf x4, .int x344, .int x345] M342) fun x347 M346 =>
        if x343 = x347 then (
          j1569 M346) else (
          j1445 M346)
set_option maxRecDepth 100000 in
def la35 (rec : Nat → List Value → Mem → XA) (a0 x1 x4 : Option Nat) (s47 : Int32 × Mem) (j1569 j1468 : Mem → XA) : XA :=
        alI 100 s47.2 a0 (s47.1 + ((1 : Int32))) fun x348 =>
        vC (12, 19) s47.2 x1 <|
        cI (rec 163 [va_rf x1, .int x348] s47.2) fun x350 M349 =>
        alI 100 M349 a0 (s47.1 + ((1 : Int32))) fun x351 =>
        vC (13, 157) M349 x4 <|
        cI (rec 305 [va_rf x4, .int x351] M349) fun x353 M352 =>
        if x350 = x353 then (
          j1569 M352) else (
          j1468 M352)
set_option maxRecDepth 100000 in
def la36 (rec : Nat → List Value → Mem → XA) (a0 x1 x4 : Option Nat) (s47 : Int32 × Mem) (j1569 j1501 : Mem → XA) : XA :=
        alI 100 s47.2 a0 (s47.1 + ((1 : Int32))) fun x354 =>
        alI 100 s47.2 a0 (s47.1 + ((2 : Int32))) fun x355 =>
        vC (12, 19) s47.2 x1 <|
        cI (rec 164 [va_rf x1, .int x354, .int x355] s47.2) fun x357 M356 =>
        alI 100 M356 a0 (s47.1 + ((1 : Int32))) fun x358 =>
        alI 100 M356 a0 (s47.1 + ((2 : Int32))) fun x359 =>
        vC (13, 157) M356 x4 <|
        cI (rec 306 [va_rf x4, .int x358, .int x359] M356) fun x361 M360 =>
        if x357 = x361 then (
          j1569 M360) else (
          j1501 M360)
set_option maxRecDepth 100000 in
def la37 (rec : Nat → List Value → Mem → XA) (a0 x1 x4 : Option Nat) (s47 : Int32 × Mem) (j1569 j1534 : Mem → XA) : XA :=
        alI 100 s47.2 a0 (s47.1 + ((1 : Int32))) fun x362 =>
        alI 100 s47.2 a0 (s47.1 + ((2 : Int32))) fun x363 =>
        vC (12, 19) s47.2 x1 <|
        cI (rec 165 [va_rf x1, .int x362, .int x363] s47.2) fun x365 M364 =>
        alI 100 M364 a0 (s47.1 + ((1 : Int32))) fun x366 =>
        alI 100 M364 a0 (s47.1 + ((2 : Int32))) fun x367 =>
        vC (13, 157) M364 x4 <|
        cI (rec 308 [va_rf x4, .int x366, .int x367] M364) fun x369 M368 =>
        if x365 = x369 then (
          j1569 M368) else (
          j1534 M368)
set_option maxRecDepth 100000 in
def la38 (rec : Nat → List Value → Mem → XA) (a0 x1 x4 : Option Nat) (s47 : Int32 × Mem) (j1569 j1567 : Mem → XA) : XA :=
        alI 100 s47.2 a0 (s47.1 + ((1 : Int32))) fun x370 =>
        alI 100 s47.2 a0 (s47.1 + ((2 : Int32))) fun x371 =>
        vC (12, 19) s47.2 x1 <|
        cI (rec 166 [va_rf x1, .int x370, .int x371] s47.2) fun x373 M372 =>
        alI 100 M372 a0 (s47.1 + ((1 : Int32))) fun x374 =>
        alI 100 M372 a0 (s47.1 + ((2 : Int32))) fun x375 =>
        vC (13, 157) M372 x4 <|
        cI (rec 309 [va_rf x4, .int x374, .int x375] M372) fun x377 M376 =>
        if x373 = x377 then (
          j1569 M376) else (
          j1567 M376)
set_option maxRecDepth 100000 in
theorem law_u (rec : Nat → List Value → Mem → XA) (a0 x1 x4 : Option Nat) (j265 j288 j301 j314 j347 j390 j433 j486 j529 j552 j575 j618 j641 j684 j727 j760 j783 j816 j895 j918 j961 j1004 j1027 j1070 j1103 j1146 j1169 j1202 j1225 j1300 j1323 j1356 j1389 j1412 j1445 j1468 j1501 j1534 j1567 j1575 : Mem → XA) : cLaw_18 rec a0 j265 j288 j301 j314 j347 j390 j433 j486 j529 j552 j575 j618 j641 j684 j727 j760 j783 j816 j895 j918 j961 j1004 j1027 j1070 j1103 j1146 j1169 j1202 j1225 j1300 j1323 j1356 j1389 j1412 j1445 j1468 j1501 j1534 j1567 j1575 x1 x4 = fun (s47 : Int32 × Mem) (j18 : Int32 × Mem → XA) => aln s47.2 a0 fun x48 => if (x48 - ((7 : Int32))) < s47.1 then (j1575 s47.2) else (alI 100 s47.2 a0 s47.1 fun x49 => jn (fun (s50 : Mem) => lt (s47.1 + (7 : Int32)) fun (x51 : Int32) => j18 (x51, s50)) fun j1569 => swI (x49 &&& ((63 : Int32))) [((0 : Int32), la0 rec a0 x1 x4 s47 j1569 j265), ((1 : Int32), la1 rec a0 x1 x4 s47 j1569 j288), ((2 : Int32), la2 rec a0 x1 x4 s47 j1569 j301), ((3 : Int32), la3 rec a0 x1 x4 s47 j1569 j314), ((4 : Int32), la4 rec a0 x1 x4 s47 j1569 j347), ((5 : Int32), la5 rec a0 x1 x4 s47 j1569 j390), ((6 : Int32), la6 rec a0 x1 x4 s47 j1569 j433), ((7 : Int32), la7 rec a0 x1 x4 s47 j1569 j486), ((8 : Int32), la8 rec a0 x1 x4 s47 j1569 j529), ((9 : Int32), la9 rec a0 x1 x4 s47 j1569 j552), ((10 : Int32), la10 rec a0 x1 x4 s47 j1569 j575), ((11 : Int32), la11 rec a0 x1 x4 s47 j1569 j618), ((12 : Int32), la12 rec a0 x1 x4 s47 j1569 j641), ((13 : Int32), la13 rec a0 x1 x4 s47 j1569 j684), ((14 : Int32), la14 rec a0 x1 x4 s47 j1569 j727), ((15 : Int32), la15 rec a0 x1 x4 s47 j1569 j760), ((16 : Int32), la16 rec a0 x1 x4 s47 j1569 j783), ((17 : Int32), la17 rec a0 x1 x4 s47 j1569 j816), ((18 : Int32), la18 rec a0 x1 x4 s47 j1569 j895), ((19 : Int32), la19 rec a0 x1 x4 s47 j1569 j918), ((20 : Int32), la20 rec a0 x1 x4 s47 j1569 j961), ((21 : Int32), la21 rec a0 x1 x4 s47 j1569 j1004), ((22 : Int32), la22 rec a0 x1 x4 s47 j1569 j1027), ((23 : Int32), la23 rec a0 x1 x4 s47 j1569 j1070), ((24 : Int32), la24 rec a0 x1 x4 s47 j1569 j1103), ((25 : Int32), la25 rec a0 x1 x4 s47 j1569 j1146), ((26 : Int32), la26 rec a0 x1 x4 s47 j1569 j1169), ((27 : Int32), la27 rec a0 x1 x4 s47 j1569 j1202), ((28 : Int32), la28 rec a0 x1 x4 s47 j1569 j1225), ((29 : Int32), la29 rec a0 x1 x4 s47 j1569 j1300), ((30 : Int32), la30 rec a0 x1 x4 s47 j1569 j1323), ((31 : Int32), la31 rec a0 x1 x4 s47 j1569 j1356), ((32 : Int32), la32 rec a0 x1 x4 s47 j1569 j1389), ((33 : Int32), la33 rec a0 x1 x4 s47 j1569 j1412), ((34 : Int32), la34 rec a0 x1 x4 s47 j1569 j1445), ((35 : Int32), la35 rec a0 x1 x4 s47 j1569 j1468), ((36 : Int32), la36 rec a0 x1 x4 s47 j1569 j1501), ((37 : Int32), la37 rec a0 x1 x4 s47 j1569 j1534), ((38 : Int32), la38 rec a0 x1 x4 s47 j1569 j1567)] (j1569 s47.2)) := rfl
set_option maxRecDepth 100000 in
theorem la0_e {KM L : Nat} {xs : Nat → Int32} {Inv : Nat → Mem → Prop} (hL : L ≤ 448) {k z : Nat} {M : Mem} (hk : k < KM) (hkL : z + 7 ≤ L) (hI : Inv k M) (hO : OldOK L xs M) (hx : M.2.2.2[64]? = some (12, 19)) (hs : Sim0 KM L xs Inv) (J j : Mem → XA) : ∃ M2, Inv (k + 1) M2 ∧ la0 (runX 2040) (some 0) (some 64) (some 160) (iI (z : Int), M) J j = J M2 := by
  obtain ⟨r, M1, M2, g1, g2, ⟨gO, gx, gy⟩, gI⟩ := hs (xs (z + 1)) (xs (z + 2)) (xs (z + 3)) (xs (z + 4)) (xs (z + 5)) k M hk hI
  refine ⟨M2, gI, ?_⟩
  unfold la0
  dsimp only
  rw [scr1 hO hL hkL, scr2 hO hL hkL, scr3 hO hL hkL, scr4 hO hL hkL, scr5 hO hL hkL, vC_e hx, cI_e g1, scr1 gO hL hkL, scr2 gO hL hkL, scr3 gO hL hkL, scr4 gO hL hkL, scr5 gO hL hkL, vC_e gy, cI_e g2, if_pos rfl]
set_option maxRecDepth 100000 in
theorem la1_e {KM L : Nat} {xs : Nat → Int32} {Inv : Nat → Mem → Prop} (hL : L ≤ 448) {k z : Nat} {M : Mem} (hk : k < KM) (hkL : z + 7 ≤ L) (hI : Inv k M) (hO : OldOK L xs M) (hx : M.2.2.2[64]? = some (12, 19)) (hs : Sim1 KM L xs Inv) (J j : Mem → XA) : ∃ M2, Inv (k + 1) M2 ∧ la1 (runX 2040) (some 0) (some 64) (some 160) (iI (z : Int), M) J j = J M2 := by
  obtain ⟨r, M1, M2, g1, g2, ⟨gO, gx, gy⟩, gI⟩ := hs (xs (z + 1)) k M hk hI
  refine ⟨M2, gI, ?_⟩
  unfold la1
  dsimp only
  rw [scr1 hO hL hkL, vC_e hx, cI_e g1, scr1 gO hL hkL, vC_e gy, cI_e g2, if_pos rfl]
set_option maxRecDepth 100000 in
theorem la2_e {KM L : Nat} {xs : Nat → Int32} {Inv : Nat → Mem → Prop} (hL : L ≤ 448) {k z : Nat} {M : Mem} (hk : k < KM) (hkL : z + 7 ≤ L) (hI : Inv k M) (hO : OldOK L xs M) (hx : M.2.2.2[64]? = some (12, 19)) (hs : Sim2 KM L xs Inv) (J j : Mem → XA) : ∃ M2, Inv (k + 1) M2 ∧ la2 (runX 2040) (some 0) (some 64) (some 160) (iI (z : Int), M) J j = J M2 := by
  obtain ⟨r, M1, M2, g1, g2, ⟨gO, gx, gy⟩, gI⟩ := hs  k M hk hI
  refine ⟨M2, gI, ?_⟩
  unfold la2
  dsimp only
  rw [vC_e hx, cI_e g1, vC_e gy, cI_e g2, if_pos rfl]
set_option maxRecDepth 100000 in
theorem la3_e {KM L : Nat} {xs : Nat → Int32} {Inv : Nat → Mem → Prop} (hL : L ≤ 448) {k z : Nat} {M : Mem} (hk : k < KM) (hkL : z + 7 ≤ L) (hI : Inv k M) (hO : OldOK L xs M) (hx : M.2.2.2[64]? = some (12, 19)) (hs : Sim3 KM L xs Inv) (J j : Mem → XA) : ∃ M2, Inv (k + 1) M2 ∧ la3 (runX 2040) (some 0) (some 64) (some 160) (iI (z : Int), M) J j = J M2 := by
  obtain ⟨r, M1, M2, g1, g2, ⟨gO, gx, gy⟩, gI⟩ := hs  k M hk hI
  refine ⟨M2, gI, ?_⟩
  unfold la3
  dsimp only
  rw [vC_e hx, cI_e g1, vC_e gy, cI_e g2, if_pos rfl]
set_option maxRecDepth 100000 in
theorem la4_e {KM L : Nat} {xs : Nat → Int32} {Inv : Nat → Mem → Prop} (hL : L ≤ 448) {k z : Nat} {M : Mem} (hk : k < KM) (hkL : z + 7 ≤ L) (hI : Inv k M) (hO : OldOK L xs M) (hx : M.2.2.2[64]? = some (12, 19)) (hs : Sim4 KM L xs Inv) (J j : Mem → XA) : ∃ M2, Inv (k + 1) M2 ∧ la4 (runX 2040) (some 0) (some 64) (some 160) (iI (z : Int), M) J j = J M2 := by
  obtain ⟨r, M1, M2, g1, g2, ⟨gO, gx, gy⟩, gI⟩ := hs (xs (z + 1)) (xs (z + 2)) k M hk hI
  refine ⟨M2, gI, ?_⟩
  unfold la4
  dsimp only
  rw [scr1 hO hL hkL, scr2 hO hL hkL, vC_e hx, cI_e g1, scr1 gO hL hkL, scr2 gO hL hkL, vC_e gy, cI_e g2, if_pos rfl]
set_option maxRecDepth 100000 in
theorem la5_e {KM L : Nat} {xs : Nat → Int32} {Inv : Nat → Mem → Prop} (hL : L ≤ 448) {k z : Nat} {M : Mem} (hk : k < KM) (hkL : z + 7 ≤ L) (hI : Inv k M) (hO : OldOK L xs M) (hx : M.2.2.2[64]? = some (12, 19)) (hs : Sim5 KM L xs Inv) (J j : Mem → XA) : ∃ M2, Inv (k + 1) M2 ∧ la5 (runX 2040) (some 0) (some 64) (some 160) (iI (z : Int), M) J j = J M2 := by
  obtain ⟨r, M1, M2, g1, g2, ⟨gO, gx, gy⟩, gI⟩ := hs (xs (z + 1)) (xs (z + 2)) (xs (z + 3)) k M hk hI
  refine ⟨M2, gI, ?_⟩
  unfold la5
  dsimp only
  rw [scr1 hO hL hkL, scr2 hO hL hkL, scr3 hO hL hkL, vC_e hx, cI_e g1, scr1 gO hL hkL, scr2 gO hL hkL, scr3 gO hL hkL, vC_e gy, cI_e g2, if_pos rfl]
set_option maxRecDepth 100000 in
theorem la6_e {KM L : Nat} {xs : Nat → Int32} {Inv : Nat → Mem → Prop} (hL : L ≤ 448) {k z : Nat} {M : Mem} (hk : k < KM) (hkL : z + 7 ≤ L) (hI : Inv k M) (hO : OldOK L xs M) (hx : M.2.2.2[64]? = some (12, 19)) (hs : Sim6 KM L xs Inv) (J j : Mem → XA) : ∃ M2, Inv (k + 1) M2 ∧ la6 (runX 2040) (some 0) (some 64) (some 160) (iI (z : Int), M) J j = J M2 := by
  obtain ⟨r, M1, M2, g1, g2, ⟨gO, gx, gy⟩, gI⟩ := hs (xs (z + 1)) (xs (z + 2)) (xs (z + 3)) k M hk hI
  refine ⟨M2, gI, ?_⟩
  unfold la6
  dsimp only
  rw [scr1 hO hL hkL, scr2 hO hL hkL, scr3 hO hL hkL, vC_e hx, cI_e g1, scr1 gO hL hkL, scr2 gO hL hkL, scr3 gO hL hkL, vC_e gy, cI_e g2, if_pos rfl]
set_option maxRecDepth 100000 in
theorem la7_e {KM L : Nat} {xs : Nat → Int32} {Inv : Nat → Mem → Prop} (hL : L ≤ 448) {k z : Nat} {M : Mem} (hk : k < KM) (hkL : z + 7 ≤ L) (hI : Inv k M) (hO : OldOK L xs M) (hx : M.2.2.2[64]? = some (12, 19)) (hs : Sim7 KM L xs Inv) (J j : Mem → XA) : ∃ M2, Inv (k + 1) M2 ∧ la7 (runX 2040) (some 0) (some 64) (some 160) (iI (z : Int), M) J j = J M2 := by
  obtain ⟨r, M1, M2, g1, g2, ⟨gO, gx, gy⟩, gI⟩ := hs (xs (z + 1)) (xs (z + 2)) (xs (z + 3)) (xs (z + 4)) k M hk hI
  refine ⟨M2, gI, ?_⟩
  unfold la7
  dsimp only
  rw [scr1 hO hL hkL, scr2 hO hL hkL, scr3 hO hL hkL, scr4 hO hL hkL, vC_e hx, cI_e g1, scr1 gO hL hkL, scr2 gO hL hkL, scr3 gO hL hkL, scr4 gO hL hkL, vC_e gy, cI_e g2, if_pos rfl]
set_option maxRecDepth 100000 in
theorem la8_e {KM L : Nat} {xs : Nat → Int32} {Inv : Nat → Mem → Prop} (hL : L ≤ 448) {k z : Nat} {M : Mem} (hk : k < KM) (hkL : z + 7 ≤ L) (hI : Inv k M) (hO : OldOK L xs M) (hx : M.2.2.2[64]? = some (12, 19)) (hs : Sim8 KM L xs Inv) (J j : Mem → XA) : ∃ M2, Inv (k + 1) M2 ∧ la8 (runX 2040) (some 0) (some 64) (some 160) (iI (z : Int), M) J j = J M2 := by
  obtain ⟨r, M1, M2, g1, g2, ⟨gO, gx, gy⟩, gI⟩ := hs (xs (z + 1)) (xs (z + 2)) (xs (z + 3)) k M hk hI
  refine ⟨M2, gI, ?_⟩
  unfold la8
  dsimp only
  rw [scr1 hO hL hkL, scr2 hO hL hkL, scr3 hO hL hkL, vC_e hx, cI_e g1, scr1 gO hL hkL, scr2 gO hL hkL, scr3 gO hL hkL, vC_e gy, cI_e g2, if_pos rfl]
set_option maxRecDepth 100000 in
theorem la9_e {KM L : Nat} {xs : Nat → Int32} {Inv : Nat → Mem → Prop} (hL : L ≤ 448) {k z : Nat} {M : Mem} (hk : k < KM) (hkL : z + 7 ≤ L) (hI : Inv k M) (hO : OldOK L xs M) (hx : M.2.2.2[64]? = some (12, 19)) (hs : Sim9 KM L xs Inv) (J j : Mem → XA) : ∃ M2, Inv (k + 1) M2 ∧ la9 (runX 2040) (some 0) (some 64) (some 160) (iI (z : Int), M) J j = J M2 := by
  obtain ⟨r, M1, M2, g1, g2, ⟨gO, gx, gy⟩, gI⟩ := hs (xs (z + 1)) k M hk hI
  refine ⟨M2, gI, ?_⟩
  unfold la9
  dsimp only
  rw [scr1 hO hL hkL, vC_e hx, cI_e g1, scr1 gO hL hkL, vC_e gy, cI_e g2, if_pos rfl]
set_option maxRecDepth 100000 in
theorem la10_e {KM L : Nat} {xs : Nat → Int32} {Inv : Nat → Mem → Prop} (hL : L ≤ 448) {k z : Nat} {M : Mem} (hk : k < KM) (hkL : z + 7 ≤ L) (hI : Inv k M) (hO : OldOK L xs M) (hx : M.2.2.2[64]? = some (12, 19)) (hs : Sim10 KM L xs Inv) (J j : Mem → XA) : ∃ M2, Inv (k + 1) M2 ∧ la10 (runX 2040) (some 0) (some 64) (some 160) (iI (z : Int), M) J j = J M2 := by
  obtain ⟨r, M1, M2, g1, g2, ⟨gO, gx, gy⟩, gI⟩ := hs (xs (z + 1)) k M hk hI
  refine ⟨M2, gI, ?_⟩
  unfold la10
  dsimp only
  rw [scr1 hO hL hkL, vC_e hx, cI_e g1, scr1 gO hL hkL, vC_e gy, cI_e g2, if_pos rfl]
set_option maxRecDepth 100000 in
theorem la11_e {KM L : Nat} {xs : Nat → Int32} {Inv : Nat → Mem → Prop} (hL : L ≤ 448) {k z : Nat} {M : Mem} (hk : k < KM) (hkL : z + 7 ≤ L) (hI : Inv k M) (hO : OldOK L xs M) (hx : M.2.2.2[64]? = some (12, 19)) (hs : Sim11 KM L xs Inv) (J j : Mem → XA) : ∃ M2, Inv (k + 1) M2 ∧ la11 (runX 2040) (some 0) (some 64) (some 160) (iI (z : Int), M) J j = J M2 := by
  obtain ⟨r, M1, M2, g1, g2, ⟨gO, gx, gy⟩, gI⟩ := hs (xs (z + 1)) (xs (z + 2)) (xs (z + 3)) k M hk hI
  refine ⟨M2, gI, ?_⟩
  unfold la11
  dsimp only
  rw [scr1 hO hL hkL, scr2 hO hL hkL, scr3 hO hL hkL, vC_e hx, cI_e g1, scr1 gO hL hkL, scr2 gO hL hkL, scr3 gO hL hkL, vC_e gy, cI_e g2, if_pos rfl]
set_option maxRecDepth 100000 in
theorem la12_e {KM L : Nat} {xs : Nat → Int32} {Inv : Nat → Mem → Prop} (hL : L ≤ 448) {k z : Nat} {M : Mem} (hk : k < KM) (hkL : z + 7 ≤ L) (hI : Inv k M) (hO : OldOK L xs M) (hx : M.2.2.2[64]? = some (12, 19)) (hs : Sim12 KM L xs Inv) (J j : Mem → XA) : ∃ M2, Inv (k + 1) M2 ∧ la12 (runX 2040) (some 0) (some 64) (some 160) (iI (z : Int), M) J j = J M2 := by
  obtain ⟨r, M1, M2, g1, g2, ⟨gO, gx, gy⟩, gI⟩ := hs (xs (z + 1)) k M hk hI
  refine ⟨M2, gI, ?_⟩
  unfold la12
  dsimp only
  rw [scr1 hO hL hkL, vC_e hx, cI_e g1, scr1 gO hL hkL, vC_e gy, cI_e g2, if_pos rfl]
set_option maxRecDepth 100000 in
theorem la13_e {KM L : Nat} {xs : Nat → Int32} {Inv : Nat → Mem → Prop} (hL : L ≤ 448) {k z : Nat} {M : Mem} (hk : k < KM) (hkL : z + 7 ≤ L) (hI : Inv k M) (hO : OldOK L xs M) (hx : M.2.2.2[64]? = some (12, 19)) (hs : Sim13 KM L xs Inv) (J j : Mem → XA) : ∃ M2, Inv (k + 1) M2 ∧ la13 (runX 2040) (some 0) (some 64) (some 160) (iI (z : Int), M) J j = J M2 := by
  obtain ⟨r, M1, M2, g1, g2, ⟨gO, gx, gy⟩, gI⟩ := hs (xs (z + 1)) (xs (z + 2)) (xs (z + 3)) k M hk hI
  refine ⟨M2, gI, ?_⟩
  unfold la13
  dsimp only
  rw [scr1 hO hL hkL, scr2 hO hL hkL, scr3 hO hL hkL, vC_e hx, cI_e g1, scr1 gO hL hkL, scr2 gO hL hkL, scr3 gO hL hkL, vC_e gy, cI_e g2, if_pos rfl]
set_option maxRecDepth 100000 in
theorem la14_e {KM L : Nat} {xs : Nat → Int32} {Inv : Nat → Mem → Prop} (hL : L ≤ 448) {k z : Nat} {M : Mem} (hk : k < KM) (hkL : z + 7 ≤ L) (hI : Inv k M) (hO : OldOK L xs M) (hx : M.2.2.2[64]? = some (12, 19)) (hs : Sim14 KM L xs Inv) (J j : Mem → XA) : ∃ M2, Inv (k + 1) M2 ∧ la14 (runX 2040) (some 0) (some 64) (some 160) (iI (z : Int), M) J j = J M2 := by
  obtain ⟨r, M1, M2, g1, g2, ⟨gO, gx, gy⟩, gI⟩ := hs (xs (z + 1)) (xs (z + 2)) (xs (z + 3)) k M hk hI
  refine ⟨M2, gI, ?_⟩
  unfold la14
  dsimp only
  rw [scr1 hO hL hkL, scr2 hO hL hkL, scr3 hO hL hkL, vC_e hx, cI_e g1, scr1 gO hL hkL, scr2 gO hL hkL, scr3 gO hL hkL, vC_e gy, cI_e g2, if_pos rfl]
set_option maxRecDepth 100000 in
theorem la15_e {KM L : Nat} {xs : Nat → Int32} {Inv : Nat → Mem → Prop} (hL : L ≤ 448) {k z : Nat} {M : Mem} (hk : k < KM) (hkL : z + 7 ≤ L) (hI : Inv k M) (hO : OldOK L xs M) (hx : M.2.2.2[64]? = some (12, 19)) (hs : Sim15 KM L xs Inv) (J j : Mem → XA) : ∃ M2, Inv (k + 1) M2 ∧ la15 (runX 2040) (some 0) (some 64) (some 160) (iI (z : Int), M) J j = J M2 := by
  obtain ⟨r, M1, M2, g1, g2, ⟨gO, gx, gy⟩, gI⟩ := hs (xs (z + 1)) (xs (z + 2)) k M hk hI
  refine ⟨M2, gI, ?_⟩
  unfold la15
  dsimp only
  rw [scr1 hO hL hkL, scr2 hO hL hkL, vC_e hx, cI_e g1, scr1 gO hL hkL, scr2 gO hL hkL, vC_e gy, cI_e g2, if_pos rfl]
set_option maxRecDepth 100000 in
theorem la16_e {KM L : Nat} {xs : Nat → Int32} {Inv : Nat → Mem → Prop} (hL : L ≤ 448) {k z : Nat} {M : Mem} (hk : k < KM) (hkL : z + 7 ≤ L) (hI : Inv k M) (hO : OldOK L xs M) (hx : M.2.2.2[64]? = some (12, 19)) (hs : Sim16 KM L xs Inv) (J j : Mem → XA) : ∃ M2, Inv (k + 1) M2 ∧ la16 (runX 2040) (some 0) (some 64) (some 160) (iI (z : Int), M) J j = J M2 := by
  obtain ⟨r, M1, M2, g1, g2, ⟨gO, gx, gy⟩, gI⟩ := hs (xs (z + 1)) k M hk hI
  refine ⟨M2, gI, ?_⟩
  unfold la16
  dsimp only
  rw [scr1 hO hL hkL, vC_e hx, cI_e g1, scr1 gO hL hkL, vC_e gy, cI_e g2, if_pos rfl]
set_option maxRecDepth 100000 in
theorem la17_e {KM L : Nat} {xs : Nat → Int32} {Inv : Nat → Mem → Prop} (hL : L ≤ 448) {k z : Nat} {M : Mem} (hk : k < KM) (hkL : z + 7 ≤ L) (hI : Inv k M) (hO : OldOK L xs M) (hx : M.2.2.2[64]? = some (12, 19)) (hs : Sim17 KM L xs Inv) (J j : Mem → XA) : ∃ M2, Inv (k + 1) M2 ∧ la17 (runX 2040) (some 0) (some 64) (some 160) (iI (z : Int), M) J j = J M2 := by
  obtain ⟨r, M1, M2, g1, g2, ⟨gO, gx, gy⟩, gI⟩ := hs (xs (z + 1)) (xs (z + 2)) k M hk hI
  refine ⟨M2, gI, ?_⟩
  unfold la17
  dsimp only
  rw [scr1 hO hL hkL, scr2 hO hL hkL, vC_e hx, cI_e g1, scr1 gO hL hkL, scr2 gO hL hkL, vC_e gy, cI_e g2, if_pos rfl]
set_option maxRecDepth 100000 in
theorem la18_e {KM L : Nat} {xs : Nat → Int32} {Inv : Nat → Mem → Prop} (hL : L ≤ 448) {k z : Nat} {M : Mem} (hk : k < KM) (hkL : z + 7 ≤ L) (hI : Inv k M) (hO : OldOK L xs M) (hx : M.2.2.2[64]? = some (12, 19)) (hs : Sim18 KM L xs Inv) (J j : Mem → XA) : ∃ M2, Inv (k + 1) M2 ∧ la18 (runX 2040) (some 0) (some 64) (some 160) (iI (z : Int), M) J j = J M2 := by
  obtain ⟨r, M1, M2, g1, g2, ⟨gO, gx, gy⟩, gI⟩ := hs (xs (z + 1)) (xs (z + 2)) (xs (z + 3)) (if xs (z + 4) = 0 then 0 else 1) (xs (z + 5)) (by split; exact Or.inl rfl; exact Or.inr rfl) k M hk hI
  refine ⟨M2, gI, ?_⟩
  unfold la18
  dsimp only
  by_cases hz : xs (z + 4) = 0
  · rw [if_pos hz] at g1 g2
    rw [scr1 hO hL hkL, scr2 hO hL hkL, scr3 hO hL hkL, scr4 hO hL hkL, jn_e, if_pos hz]
    dsimp only
    rw [scr5 hO hL hkL, vC_e hx, cI_e g1, scr1 gO hL hkL, scr2 gO hL hkL, scr3 gO hL hkL, scr4 gO hL hkL, jn_e, if_pos hz]
    dsimp only
    rw [scr5 gO hL hkL, vC_e gy, cI_e g2, if_pos rfl]
  · rw [if_neg hz] at g1 g2
    rw [scr1 hO hL hkL, scr2 hO hL hkL, scr3 hO hL hkL, scr4 hO hL hkL, jn_e, if_neg hz]
    dsimp only
    rw [scr5 hO hL hkL, vC_e hx, cI_e g1, scr1 gO hL hkL, scr2 gO hL hkL, scr3 gO hL hkL, scr4 gO hL hkL, jn_e, if_neg hz]
    dsimp only
    rw [scr5 gO hL hkL, vC_e gy, cI_e g2, if_pos rfl]
set_option maxRecDepth 100000 in
theorem la19_e {KM L : Nat} {xs : Nat → Int32} {Inv : Nat → Mem → Prop} (hL : L ≤ 448) {k z : Nat} {M : Mem} (hk : k < KM) (hkL : z + 7 ≤ L) (hI : Inv k M) (hO : OldOK L xs M) (hx : M.2.2.2[64]? = some (12, 19)) (hs : Sim19 KM L xs Inv) (J j : Mem → XA) : ∃ M2, Inv (k + 1) M2 ∧ la19 (runX 2040) (some 0) (some 64) (some 160) (iI (z : Int), M) J j = J M2 := by
  obtain ⟨r, M1, M2, g1, g2, ⟨gO, gx, gy⟩, gI⟩ := hs (xs (z + 1)) k M hk hI
  refine ⟨M2, gI, ?_⟩
  unfold la19
  dsimp only
  rw [scr1 hO hL hkL, vC_e hx, cI_e g1, scr1 gO hL hkL, vC_e gy, cI_e g2, if_pos rfl]
set_option maxRecDepth 100000 in
theorem la20_e {KM L : Nat} {xs : Nat → Int32} {Inv : Nat → Mem → Prop} (hL : L ≤ 448) {k z : Nat} {M : Mem} (hk : k < KM) (hkL : z + 7 ≤ L) (hI : Inv k M) (hO : OldOK L xs M) (hx : M.2.2.2[64]? = some (12, 19)) (hs : Sim20 KM L xs Inv) (J j : Mem → XA) : ∃ M2, Inv (k + 1) M2 ∧ la20 (runX 2040) (some 0) (some 64) (some 160) (iI (z : Int), M) J j = J M2 := by
  obtain ⟨r, M1, M2, g1, g2, ⟨gO, gx, gy⟩, gI⟩ := hs (xs (z + 1)) (xs (z + 2)) (xs (z + 3)) k M hk hI
  refine ⟨M2, gI, ?_⟩
  unfold la20
  dsimp only
  rw [scr1 hO hL hkL, scr2 hO hL hkL, scr3 hO hL hkL, vC_e hx, cI_e g1, scr1 gO hL hkL, scr2 gO hL hkL, scr3 gO hL hkL, vC_e gy, cI_e g2, if_pos rfl]
set_option maxRecDepth 100000 in
theorem la21_e {KM L : Nat} {xs : Nat → Int32} {Inv : Nat → Mem → Prop} (hL : L ≤ 448) {k z : Nat} {M : Mem} (hk : k < KM) (hkL : z + 7 ≤ L) (hI : Inv k M) (hO : OldOK L xs M) (hx : M.2.2.2[64]? = some (12, 19)) (hs : Sim21 KM L xs Inv) (J j : Mem → XA) : ∃ M2, Inv (k + 1) M2 ∧ la21 (runX 2040) (some 0) (some 64) (some 160) (iI (z : Int), M) J j = J M2 := by
  obtain ⟨r, M1, M2, g1, g2, ⟨gO, gx, gy⟩, gI⟩ := hs (xs (z + 1)) (xs (z + 2)) (xs (z + 3)) k M hk hI
  refine ⟨M2, gI, ?_⟩
  unfold la21
  dsimp only
  rw [scr1 hO hL hkL, scr2 hO hL hkL, scr3 hO hL hkL, vC_e hx, cI_e g1, scr1 gO hL hkL, scr2 gO hL hkL, scr3 gO hL hkL, vC_e gy, cI_e g2, if_pos rfl]
set_option maxRecDepth 100000 in
theorem la22_e {KM L : Nat} {xs : Nat → Int32} {Inv : Nat → Mem → Prop} (hL : L ≤ 448) {k z : Nat} {M : Mem} (hk : k < KM) (hkL : z + 7 ≤ L) (hI : Inv k M) (hO : OldOK L xs M) (hx : M.2.2.2[64]? = some (12, 19)) (hs : Sim22 KM L xs Inv) (J j : Mem → XA) : ∃ M2, Inv (k + 1) M2 ∧ la22 (runX 2040) (some 0) (some 64) (some 160) (iI (z : Int), M) J j = J M2 := by
  obtain ⟨r, M1, M2, g1, g2, ⟨gO, gx, gy⟩, gI⟩ := hs (xs (z + 1)) k M hk hI
  refine ⟨M2, gI, ?_⟩
  unfold la22
  dsimp only
  rw [scr1 hO hL hkL, vC_e hx, cI_e g1, scr1 gO hL hkL, vC_e gy, cI_e g2, if_pos rfl]
set_option maxRecDepth 100000 in
theorem la23_e {KM L : Nat} {xs : Nat → Int32} {Inv : Nat → Mem → Prop} (hL : L ≤ 448) {k z : Nat} {M : Mem} (hk : k < KM) (hkL : z + 7 ≤ L) (hI : Inv k M) (hO : OldOK L xs M) (hx : M.2.2.2[64]? = some (12, 19)) (hs : Sim23 KM L xs Inv) (J j : Mem → XA) : ∃ M2, Inv (k + 1) M2 ∧ la23 (runX 2040) (some 0) (some 64) (some 160) (iI (z : Int), M) J j = J M2 := by
  obtain ⟨r, M1, M2, g1, g2, ⟨gO, gx, gy⟩, gI⟩ := hs (xs (z + 1)) (xs (z + 2)) (xs (z + 3)) k M hk hI
  refine ⟨M2, gI, ?_⟩
  unfold la23
  dsimp only
  rw [scr1 hO hL hkL, scr2 hO hL hkL, scr3 hO hL hkL, vC_e hx, cI_e g1, scr1 gO hL hkL, scr2 gO hL hkL, scr3 gO hL hkL, vC_e gy, cI_e g2, if_pos rfl]
set_option maxRecDepth 100000 in
theorem la24_e {KM L : Nat} {xs : Nat → Int32} {Inv : Nat → Mem → Prop} (hL : L ≤ 448) {k z : Nat} {M : Mem} (hk : k < KM) (hkL : z + 7 ≤ L) (hI : Inv k M) (hO : OldOK L xs M) (hx : M.2.2.2[64]? = some (12, 19)) (hs : Sim24 KM L xs Inv) (J j : Mem → XA) : ∃ M2, Inv (k + 1) M2 ∧ la24 (runX 2040) (some 0) (some 64) (some 160) (iI (z : Int), M) J j = J M2 := by
  obtain ⟨r, M1, M2, g1, g2, ⟨gO, gx, gy⟩, gI⟩ := hs (xs (z + 1)) (xs (z + 2)) k M hk hI
  refine ⟨M2, gI, ?_⟩
  unfold la24
  dsimp only
  rw [scr1 hO hL hkL, scr2 hO hL hkL, vC_e hx, cI_e g1, scr1 gO hL hkL, scr2 gO hL hkL, vC_e gy, cI_e g2, if_pos rfl]
set_option maxRecDepth 100000 in
theorem la25_e {KM L : Nat} {xs : Nat → Int32} {Inv : Nat → Mem → Prop} (hL : L ≤ 448) {k z : Nat} {M : Mem} (hk : k < KM) (hkL : z + 7 ≤ L) (hI : Inv k M) (hO : OldOK L xs M) (hx : M.2.2.2[64]? = some (12, 19)) (hs : Sim25 KM L xs Inv) (J j : Mem → XA) : ∃ M2, Inv (k + 1) M2 ∧ la25 (runX 2040) (some 0) (some 64) (some 160) (iI (z : Int), M) J j = J M2 := by
  obtain ⟨r, M1, M2, g1, g2, ⟨gO, gx, gy⟩, gI⟩ := hs (xs (z + 1)) (xs (z + 2)) (xs (z + 3)) k M hk hI
  refine ⟨M2, gI, ?_⟩
  unfold la25
  dsimp only
  rw [scr1 hO hL hkL, scr2 hO hL hkL, scr3 hO hL hkL, vC_e hx, cI_e g1, scr1 gO hL hkL, scr2 gO hL hkL, scr3 gO hL hkL, vC_e gy, cI_e g2, if_pos rfl]
set_option maxRecDepth 100000 in
theorem la26_e {KM L : Nat} {xs : Nat → Int32} {Inv : Nat → Mem → Prop} (hL : L ≤ 448) {k z : Nat} {M : Mem} (hk : k < KM) (hkL : z + 7 ≤ L) (hI : Inv k M) (hO : OldOK L xs M) (hx : M.2.2.2[64]? = some (12, 19)) (hs : Sim26 KM L xs Inv) (J j : Mem → XA) : ∃ M2, Inv (k + 1) M2 ∧ la26 (runX 2040) (some 0) (some 64) (some 160) (iI (z : Int), M) J j = J M2 := by
  obtain ⟨r, M1, M2, g1, g2, ⟨gO, gx, gy⟩, gI⟩ := hs (xs (z + 1)) k M hk hI
  refine ⟨M2, gI, ?_⟩
  unfold la26
  dsimp only
  rw [scr1 hO hL hkL, vC_e hx, cI_e g1, scr1 gO hL hkL, vC_e gy, cI_e g2, if_pos rfl]
set_option maxRecDepth 100000 in
theorem la27_e {KM L : Nat} {xs : Nat → Int32} {Inv : Nat → Mem → Prop} (hL : L ≤ 448) {k z : Nat} {M : Mem} (hk : k < KM) (hkL : z + 7 ≤ L) (hI : Inv k M) (hO : OldOK L xs M) (hx : M.2.2.2[64]? = some (12, 19)) (hs : Sim27 KM L xs Inv) (J j : Mem → XA) : ∃ M2, Inv (k + 1) M2 ∧ la27 (runX 2040) (some 0) (some 64) (some 160) (iI (z : Int), M) J j = J M2 := by
  obtain ⟨r, M1, M2, g1, g2, ⟨gO, gx, gy⟩, gI⟩ := hs (xs (z + 1)) (xs (z + 2)) k M hk hI
  refine ⟨M2, gI, ?_⟩
  unfold la27
  dsimp only
  rw [scr1 hO hL hkL, scr2 hO hL hkL, vC_e hx, cI_e g1, scr1 gO hL hkL, scr2 gO hL hkL, vC_e gy, cI_e g2, if_pos rfl]
set_option maxRecDepth 100000 in
theorem la28_e {KM L : Nat} {xs : Nat → Int32} {Inv : Nat → Mem → Prop} (hL : L ≤ 448) {k z : Nat} {M : Mem} (hk : k < KM) (hkL : z + 7 ≤ L) (hI : Inv k M) (hO : OldOK L xs M) (hx : M.2.2.2[64]? = some (12, 19)) (hs : Sim28 KM L xs Inv) (J j : Mem → XA) : ∃ M2, Inv (k + 1) M2 ∧ la28 (runX 2040) (some 0) (some 64) (some 160) (iI (z : Int), M) J j = J M2 := by
  obtain ⟨r, M1, M2, g1, g2, ⟨gO, gx, gy⟩, gI⟩ := hs (xs (z + 1)) k M hk hI
  refine ⟨M2, gI, ?_⟩
  unfold la28
  dsimp only
  rw [scr1 hO hL hkL, vC_e hx, cI_e g1, scr1 gO hL hkL, vC_e gy, cI_e g2, if_pos rfl]
set_option maxRecDepth 100000 in
theorem la29_e {KM L : Nat} {xs : Nat → Int32} {Inv : Nat → Mem → Prop} (hL : L ≤ 448) {k z : Nat} {M : Mem} (hk : k < KM) (hkL : z + 7 ≤ L) (hI : Inv k M) (hO : OldOK L xs M) (hx : M.2.2.2[64]? = some (12, 19)) (hs : Sim29 KM L xs Inv) (J j : Mem → XA) : ∃ M2, Inv (k + 1) M2 ∧ la29 (runX 2040) (some 0) (some 64) (some 160) (iI (z : Int), M) J j = J M2 := by
  obtain ⟨r, M1, M2, g1, g2, ⟨gO, gx, gy⟩, gI⟩ := hs (xs (z + 1)) (xs (z + 2)) (xs (z + 3)) (xs (z + 4)) (xs (z + 5)) (xs (z + 6)) k M hk hI
  refine ⟨M2, gI, ?_⟩
  unfold la29
  dsimp only
  rw [scr1 hO hL hkL, scr2 hO hL hkL, scr3 hO hL hkL, scr4 hO hL hkL, scr5 hO hL hkL, scr6 hO hL hkL, vC_e hx, cI_e g1, scr1 gO hL hkL, scr2 gO hL hkL, scr3 gO hL hkL, scr4 gO hL hkL, scr5 gO hL hkL, scr6 gO hL hkL, vC_e gy, cI_e g2, if_pos rfl]
set_option maxRecDepth 100000 in
theorem la30_e {KM L : Nat} {xs : Nat → Int32} {Inv : Nat → Mem → Prop} (hL : L ≤ 448) {k z : Nat} {M : Mem} (hk : k < KM) (hkL : z + 7 ≤ L) (hI : Inv k M) (hO : OldOK L xs M) (hx : M.2.2.2[64]? = some (12, 19)) (hs : Sim30 KM L xs Inv) (J j : Mem → XA) : ∃ M2, Inv (k + 1) M2 ∧ la30 (runX 2040) (some 0) (some 64) (some 160) (iI (z : Int), M) J j = J M2 := by
  obtain ⟨r, M1, M2, g1, g2, ⟨gO, gx, gy⟩, gI⟩ := hs (xs (z + 1)) k M hk hI
  refine ⟨M2, gI, ?_⟩
  unfold la30
  dsimp only
  rw [scr1 hO hL hkL, vC_e hx, cI_e g1, scr1 gO hL hkL, vC_e gy, cI_e g2, if_pos rfl]
set_option maxRecDepth 100000 in
theorem la31_e {KM L : Nat} {xs : Nat → Int32} {Inv : Nat → Mem → Prop} (hL : L ≤ 448) {k z : Nat} {M : Mem} (hk : k < KM) (hkL : z + 7 ≤ L) (hI : Inv k M) (hO : OldOK L xs M) (hx : M.2.2.2[64]? = some (12, 19)) (hs : Sim31 KM L xs Inv) (J j : Mem → XA) : ∃ M2, Inv (k + 1) M2 ∧ la31 (runX 2040) (some 0) (some 64) (some 160) (iI (z : Int), M) J j = J M2 := by
  obtain ⟨r, M1, M2, g1, g2, ⟨gO, gx, gy⟩, gI⟩ := hs (xs (z + 1)) (xs (z + 2)) k M hk hI
  refine ⟨M2, gI, ?_⟩
  unfold la31
  dsimp only
  rw [scr1 hO hL hkL, scr2 hO hL hkL, vC_e hx, cI_e g1, scr1 gO hL hkL, scr2 gO hL hkL, vC_e gy, cI_e g2, if_pos rfl]
set_option maxRecDepth 100000 in
theorem la32_e {KM L : Nat} {xs : Nat → Int32} {Inv : Nat → Mem → Prop} (hL : L ≤ 448) {k z : Nat} {M : Mem} (hk : k < KM) (hkL : z + 7 ≤ L) (hI : Inv k M) (hO : OldOK L xs M) (hx : M.2.2.2[64]? = some (12, 19)) (hs : Sim32 KM L xs Inv) (J j : Mem → XA) : ∃ M2, Inv (k + 1) M2 ∧ la32 (runX 2040) (some 0) (some 64) (some 160) (iI (z : Int), M) J j = J M2 := by
  obtain ⟨r, M1, M2, g1, g2, ⟨gO, gx, gy⟩, gI⟩ := hs (xs (z + 1)) (xs (z + 2)) k M hk hI
  refine ⟨M2, gI, ?_⟩
  unfold la32
  dsimp only
  rw [scr1 hO hL hkL, scr2 hO hL hkL, vC_e hx, cI_e g1, scr1 gO hL hkL, scr2 gO hL hkL, vC_e gy, cI_e g2, if_pos rfl]
set_option maxRecDepth 100000 in
theorem la33_e {KM L : Nat} {xs : Nat → Int32} {Inv : Nat → Mem → Prop} (hL : L ≤ 448) {k z : Nat} {M : Mem} (hk : k < KM) (hkL : z + 7 ≤ L) (hI : Inv k M) (hO : OldOK L xs M) (hx : M.2.2.2[64]? = some (12, 19)) (hs : Sim33 KM L xs Inv) (J j : Mem → XA) : ∃ M2, Inv (k + 1) M2 ∧ la33 (runX 2040) (some 0) (some 64) (some 160) (iI (z : Int), M) J j = J M2 := by
  obtain ⟨r, M1, M2, g1, g2, ⟨gO, gx, gy⟩, gI⟩ := hs (xs (z + 1)) k M hk hI
  refine ⟨M2, gI, ?_⟩
  unfold la33
  dsimp only
  rw [scr1 hO hL hkL, vC_e hx, cI_e g1, scr1 gO hL hkL, vC_e gy, cI_e g2, if_pos rfl]
set_option maxRecDepth 100000 in
theorem la34_e {KM L : Nat} {xs : Nat → Int32} {Inv : Nat → Mem → Prop} (hL : L ≤ 448) {k z : Nat} {M : Mem} (hk : k < KM) (hkL : z + 7 ≤ L) (hI : Inv k M) (hO : OldOK L xs M) (hx : M.2.2.2[64]? = some (12, 19)) (hs : Sim34 KM L xs Inv) (J j : Mem → XA) : ∃ M2, Inv (k + 1) M2 ∧ la34 (runX 2040) (some 0) (some 64) (some 160) (iI (z : Int), M) J j = J M2 := by
  obtain ⟨r, M1, M2, g1, g2, ⟨gO, gx, gy⟩, gI⟩ := hs (xs (z + 1)) (xs (z + 2)) k M hk hI
  refine ⟨M2, gI, ?_⟩
  unfold la34
  dsimp only
  rw [scr1 hO hL hkL, scr2 hO hL hkL, vC_e hx, cI_e g1, scr1 gO hL hkL, scr2 gO hL hkL, vC_e gy, cI_e g2, if_pos rfl]
set_option maxRecDepth 100000 in
theorem la35_e {KM L : Nat} {xs : Nat → Int32} {Inv : Nat → Mem → Prop} (hL : L ≤ 448) {k z : Nat} {M : Mem} (hk : k < KM) (hkL : z + 7 ≤ L) (hI : Inv k M) (hO : OldOK L xs M) (hx : M.2.2.2[64]? = some (12, 19)) (hs : Sim35 KM L xs Inv) (J j : Mem → XA) : ∃ M2, Inv (k + 1) M2 ∧ la35 (runX 2040) (some 0) (some 64) (some 160) (iI (z : Int), M) J j = J M2 := by
  obtain ⟨r, M1, M2, g1, g2, ⟨gO, gx, gy⟩, gI⟩ := hs (xs (z + 1)) k M hk hI
  refine ⟨M2, gI, ?_⟩
  unfold la35
  dsimp only
  rw [scr1 hO hL hkL, vC_e hx, cI_e g1, scr1 gO hL hkL, vC_e gy, cI_e g2, if_pos rfl]
set_option maxRecDepth 100000 in
theorem la36_e {KM L : Nat} {xs : Nat → Int32} {Inv : Nat → Mem → Prop} (hL : L ≤ 448) {k z : Nat} {M : Mem} (hk : k < KM) (hkL : z + 7 ≤ L) (hI : Inv k M) (hO : OldOK L xs M) (hx : M.2.2.2[64]? = some (12, 19)) (hs : Sim36 KM L xs Inv) (J j : Mem → XA) : ∃ M2, Inv (k + 1) M2 ∧ la36 (runX 2040) (some 0) (some 64) (some 160) (iI (z : Int), M) J j = J M2 := by
  obtain ⟨r, M1, M2, g1, g2, ⟨gO, gx, gy⟩, gI⟩ := hs (xs (z + 1)) (xs (z + 2)) k M hk hI
  refine ⟨M2, gI, ?_⟩
  unfold la36
  dsimp only
  rw [scr1 hO hL hkL, scr2 hO hL hkL, vC_e hx, cI_e g1, scr1 gO hL hkL, scr2 gO hL hkL, vC_e gy, cI_e g2, if_pos rfl]
set_option maxRecDepth 100000 in
theorem la37_e {KM L : Nat} {xs : Nat → Int32} {Inv : Nat → Mem → Prop} (hL : L ≤ 448) {k z : Nat} {M : Mem} (hk : k < KM) (hkL : z + 7 ≤ L) (hI : Inv k M) (hO : OldOK L xs M) (hx : M.2.2.2[64]? = some (12, 19)) (hs : Sim37 KM L xs Inv) (J j : Mem → XA) : ∃ M2, Inv (k + 1) M2 ∧ la37 (runX 2040) (some 0) (some 64) (some 160) (iI (z : Int), M) J j = J M2 := by
  obtain ⟨r, M1, M2, g1, g2, ⟨gO, gx, gy⟩, gI⟩ := hs (xs (z + 1)) (xs (z + 2)) k M hk hI
  refine ⟨M2, gI, ?_⟩
  unfold la37
  dsimp only
  rw [scr1 hO hL hkL, scr2 hO hL hkL, vC_e hx, cI_e g1, scr1 gO hL hkL, scr2 gO hL hkL, vC_e gy, cI_e g2, if_pos rfl]
set_option maxRecDepth 100000 in
theorem la38_e {KM L : Nat} {xs : Nat → Int32} {Inv : Nat → Mem → Prop} (hL : L ≤ 448) {k z : Nat} {M : Mem} (hk : k < KM) (hkL : z + 7 ≤ L) (hI : Inv k M) (hO : OldOK L xs M) (hx : M.2.2.2[64]? = some (12, 19)) (hs : Sim38 KM L xs Inv) (J j : Mem → XA) : ∃ M2, Inv (k + 1) M2 ∧ la38 (runX 2040) (some 0) (some 64) (some 160) (iI (z : Int), M) J j = J M2 := by
  obtain ⟨r, M1, M2, g1, g2, ⟨gO, gx, gy⟩, gI⟩ := hs (xs (z + 1)) (xs (z + 2)) k M hk hI
  refine ⟨M2, gI, ?_⟩
  unfold la38
  dsimp only
  rw [scr1 hO hL hkL, scr2 hO hL hkL, vC_e hx, cI_e g1, scr1 gO hL hkL, scr2 gO hL hkL, vC_e gy, cI_e g2, if_pos rfl]
set_option maxRecDepth 100000 in
set_option maxHeartbeats 8000000 in
theorem law_step {KM L : Nat} {xs : Nat → Int32} {Inv : Nat → Mem → Prop} (hL : L ≤ 448) (hg : Good KM L xs Inv) {k z : Nat} {M : Mem} (hk : k < KM) (hkL : z + 7 ≤ L) (hI : Inv k M) (j265 j288 j301 j314 j347 j390 j433 j486 j529 j552 j575 j618 j641 j684 j727 j760 j783 j816 j895 j918 j961 j1004 j1027 j1070 j1103 j1146 j1169 j1202 j1225 j1300 j1323 j1356 j1389 j1412 j1445 j1468 j1501 j1534 j1567 j1575 : Mem → XA) (K : Int32 × Mem → XA) : ∃ M2, Inv (k + 1) M2 ∧ cLaw_18 (runX 2040) (some 0) j265 j288 j301 j314 j347 j390 j433 j486 j529 j552 j575 j618 j641 j684 j727 j760 j783 j816 j895 j918 j961 j1004 j1027 j1070 j1103 j1146 j1169 j1202 j1225 j1300 j1323 j1356 j1389 j1412 j1445 j1468 j1501 j1534 j1567 j1575 (some 64) (some 160) (iI (z : Int), M) K = K (iI ((z + 7 : Nat) : Int), M2) := by
  obtain ⟨-, hB, hm, hS⟩ := hg
  obtain ⟨⟨hO, hx, hy⟩, -⟩ := hB k M (by omega) hI
  obtain ⟨s0, s1, s2, s3, s4, s5, s6, s7, s8, s9, s10, s11, s12, s13, s14, s15, s16, s17, s18, s19, s20, s21, s22, s23, s24, s25, s26, s27, s28, s29, s30, s31, s32, s33, s34, s35, s36, s37, s38⟩ := hS
  have hlen : M.2.2.2[0]? = some (200, L) := hO.1 0 (by decide)
  have hc : ¬ (iI (L : Int) - (7 : Int32) < iI (z : Int)) := by rw [scr_if hL (by omega)]; omega
  rw [law_u, ← scr7]
  dsimp only
  rw [aln_e hlen (Or.inr ⟨by decide, by decide⟩), if_neg hc, scr0 hO hL hkL, jn_e]
  refine swQ (R := fun M2 => K (iI (z : Int) + 7, M2)) (la0_e hL hk hkL hI hO hx s0 (fun M2 => K (iI (z : Int) + 7, M2)) _) ?_
  refine swQ (R := fun M2 => K (iI (z : Int) + 7, M2)) (la1_e hL hk hkL hI hO hx s1 (fun M2 => K (iI (z : Int) + 7, M2)) _) ?_
  refine swQ (R := fun M2 => K (iI (z : Int) + 7, M2)) (la2_e hL hk hkL hI hO hx s2 (fun M2 => K (iI (z : Int) + 7, M2)) _) ?_
  refine swQ (R := fun M2 => K (iI (z : Int) + 7, M2)) (la3_e hL hk hkL hI hO hx s3 (fun M2 => K (iI (z : Int) + 7, M2)) _) ?_
  refine swQ (R := fun M2 => K (iI (z : Int) + 7, M2)) (la4_e hL hk hkL hI hO hx s4 (fun M2 => K (iI (z : Int) + 7, M2)) _) ?_
  refine swQ (R := fun M2 => K (iI (z : Int) + 7, M2)) (la5_e hL hk hkL hI hO hx s5 (fun M2 => K (iI (z : Int) + 7, M2)) _) ?_
  refine swQ (R := fun M2 => K (iI (z : Int) + 7, M2)) (la6_e hL hk hkL hI hO hx s6 (fun M2 => K (iI (z : Int) + 7, M2)) _) ?_
  refine swQ (R := fun M2 => K (iI (z : Int) + 7, M2)) (la7_e hL hk hkL hI hO hx s7 (fun M2 => K (iI (z : Int) + 7, M2)) _) ?_
  refine swQ (R := fun M2 => K (iI (z : Int) + 7, M2)) (la8_e hL hk hkL hI hO hx s8 (fun M2 => K (iI (z : Int) + 7, M2)) _) ?_
  refine swQ (R := fun M2 => K (iI (z : Int) + 7, M2)) (la9_e hL hk hkL hI hO hx s9 (fun M2 => K (iI (z : Int) + 7, M2)) _) ?_
  refine swQ (R := fun M2 => K (iI (z : Int) + 7, M2)) (la10_e hL hk hkL hI hO hx s10 (fun M2 => K (iI (z : Int) + 7, M2)) _) ?_
  refine swQ (R := fun M2 => K (iI (z : Int) + 7, M2)) (la11_e hL hk hkL hI hO hx s11 (fun M2 => K (iI (z : Int) + 7, M2)) _) ?_
  refine swQ (R := fun M2 => K (iI (z : Int) + 7, M2)) (la12_e hL hk hkL hI hO hx s12 (fun M2 => K (iI (z : Int) + 7, M2)) _) ?_
  refine swQ (R := fun M2 => K (iI (z : Int) + 7, M2)) (la13_e hL hk hkL hI hO hx s13 (fun M2 => K (iI (z : Int) + 7, M2)) _) ?_
  refine swQ (R := fun M2 => K (iI (z : Int) + 7, M2)) (la14_e hL hk hkL hI hO hx s14 (fun M2 => K (iI (z : Int) + 7, M2)) _) ?_
  refine swQ (R := fun M2 => K (iI (z : Int) + 7, M2)) (la15_e hL hk hkL hI hO hx s15 (fun M2 => K (iI (z : Int) + 7, M2)) _) ?_
  refine swQ (R := fun M2 => K (iI (z : Int) + 7, M2)) (la16_e hL hk hkL hI hO hx s16 (fun M2 => K (iI (z : Int) + 7, M2)) _) ?_
  refine swQ (R := fun M2 => K (iI (z : Int) + 7, M2)) (la17_e hL hk hkL hI hO hx s17 (fun M2 => K (iI (z : Int) + 7, M2)) _) ?_
  refine swQ (R := fun M2 => K (iI (z : Int) + 7, M2)) (la18_e hL hk hkL hI hO hx s18 (fun M2 => K (iI (z : Int) + 7, M2)) _) ?_
  refine swQ (R := fun M2 => K (iI (z : Int) + 7, M2)) (la19_e hL hk hkL hI hO hx s19 (fun M2 => K (iI (z : Int) + 7, M2)) _) ?_
  refine swQ (R := fun M2 => K (iI (z : Int) + 7, M2)) (la20_e hL hk hkL hI hO hx s20 (fun M2 => K (iI (z : Int) + 7, M2)) _) ?_
  refine swQ (R := fun M2 => K (iI (z : Int) + 7, M2)) (la21_e hL hk hkL hI hO hx s21 (fun M2 => K (iI (z : Int) + 7, M2)) _) ?_
  refine swQ (R := fun M2 => K (iI (z : Int) + 7, M2)) (la22_e hL hk hkL hI hO hx s22 (fun M2 => K (iI (z : Int) + 7, M2)) _) ?_
  refine swQ (R := fun M2 => K (iI (z : Int) + 7, M2)) (la23_e hL hk hkL hI hO hx s23 (fun M2 => K (iI (z : Int) + 7, M2)) _) ?_
  refine swQ (R := fun M2 => K (iI (z : Int) + 7, M2)) (la24_e hL hk hkL hI hO hx s24 (fun M2 => K (iI (z : Int) + 7, M2)) _) ?_
  refine swQ (R := fun M2 => K (iI (z : Int) + 7, M2)) (la25_e hL hk hkL hI hO hx s25 (fun M2 => K (iI (z : Int) + 7, M2)) _) ?_
  refine swQ (R := fun M2 => K (iI (z : Int) + 7, M2)) (la26_e hL hk hkL hI hO hx s26 (fun M2 => K (iI (z : Int) + 7, M2)) _) ?_
  refine swQ (R := fun M2 => K (iI (z : Int) + 7, M2)) (la27_e hL hk hkL hI hO hx s27 (fun M2 => K (iI (z : Int) + 7, M2)) _) ?_
  refine swQ (R := fun M2 => K (iI (z : Int) + 7, M2)) (la28_e hL hk hkL hI hO hx s28 (fun M2 => K (iI (z : Int) + 7, M2)) _) ?_
  refine swQ (R := fun M2 => K (iI (z : Int) + 7, M2)) (la29_e hL hk hkL hI hO hx s29 (fun M2 => K (iI (z : Int) + 7, M2)) _) ?_
  refine swQ (R := fun M2 => K (iI (z : Int) + 7, M2)) (la30_e hL hk hkL hI hO hx s30 (fun M2 => K (iI (z : Int) + 7, M2)) _) ?_
  refine swQ (R := fun M2 => K (iI (z : Int) + 7, M2)) (la31_e hL hk hkL hI hO hx s31 (fun M2 => K (iI (z : Int) + 7, M2)) _) ?_
  refine swQ (R := fun M2 => K (iI (z : Int) + 7, M2)) (la32_e hL hk hkL hI hO hx s32 (fun M2 => K (iI (z : Int) + 7, M2)) _) ?_
  refine swQ (R := fun M2 => K (iI (z : Int) + 7, M2)) (la33_e hL hk hkL hI hO hx s33 (fun M2 => K (iI (z : Int) + 7, M2)) _) ?_
  refine swQ (R := fun M2 => K (iI (z : Int) + 7, M2)) (la34_e hL hk hkL hI hO hx s34 (fun M2 => K (iI (z : Int) + 7, M2)) _) ?_
  refine swQ (R := fun M2 => K (iI (z : Int) + 7, M2)) (la35_e hL hk hkL hI hO hx s35 (fun M2 => K (iI (z : Int) + 7, M2)) _) ?_
  refine swQ (R := fun M2 => K (iI (z : Int) + 7, M2)) (la36_e hL hk hkL hI hO hx s36 (fun M2 => K (iI (z : Int) + 7, M2)) _) ?_
  refine swQ (R := fun M2 => K (iI (z : Int) + 7, M2)) (la37_e hL hk hkL hI hO hx s37 (fun M2 => K (iI (z : Int) + 7, M2)) _) ?_
  refine swQ (R := fun M2 => K (iI (z : Int) + 7, M2)) (la38_e hL hk hkL hI hO hx s38 (fun M2 => K (iI (z : Int) + 7, M2)) _) ?_
  exact ⟨M, hm k M hk hI, rfl⟩
set_option maxRecDepth 100000 in
set_option maxHeartbeats 8000000 in
theorem law_loop {KM L : Nat} {xs : Nat → Int32} {Inv : Nat → Mem → Prop} (hL : L ≤ 448) (hg : Good KM L xs Inv) (hKM : L < 7 * KM + 7) (j265 j288 j301 j314 j347 j390 j433 j486 j529 j552 j575 j618 j641 j684 j727 j760 j783 j816 j895 j918 j961 j1004 j1027 j1070 j1103 j1146 j1169 j1202 j1225 j1300 j1323 j1356 j1389 j1412 j1445 j1468 j1501 j1534 j1567 j1575 : Mem → XA) : ∀ (m k N : Nat) (M : Mem), m + k = KM → 7 * k ≤ L → m < N → Inv k M → ∃ k' M', k' ≤ KM ∧ Inv k' M' ∧ lp (cLaw_18 (runX 2040) (some 0) j265 j288 j301 j314 j347 j390 j433 j486 j529 j552 j575 j618 j641 j684 j727 j760 j783 j816 j895 j918 j961 j1004 j1027 j1070 j1103 j1146 j1169 j1202 j1225 j1300 j1323 j1356 j1389 j1412 j1445 j1468 j1501 j1534 j1567 j1575 (some 64) (some 160)) N (iI ((7 * k : Nat) : Int), M) = j1575 M' := by
  intro m
  induction m with
  | zero =>
    intro k N M h1 h2 h3 hI
    obtain ⟨N, rfl⟩ : ∃ n, N = n + 1 := ⟨N - 1, by omega⟩
    obtain ⟨⟨hO, hx, hy⟩, -⟩ := hg.2.1 k M (by omega) hI
    have hlen : M.2.2.2[0]? = some (200, L) := hO.1 0 (by decide)
    refine ⟨k, M, by omega, hI, ?_⟩
    rw [lp_e]
    generalize lp (cLaw_18 (runX 2040) (some 0) j265 j288 j301 j314 j347 j390 j433 j486 j529 j552 j575 j618 j641 j684 j727 j760 j783 j816 j895 j918 j961 j1004 j1027 j1070 j1103 j1146 j1169 j1202 j1225 j1300 j1323 j1356 j1389 j1412 j1445 j1468 j1501 j1534 j1567 j1575 (some 64) (some 160)) N = K
    have hc : iI (L : Int) - (7 : Int32) < iI ((7 * k : Nat) : Int) := by rw [scr_if hL (by omega)]; omega
    rw [law_u]
    dsimp only
    rw [aln_e hlen (Or.inr ⟨by decide, by decide⟩), if_pos hc]
  | succ m ih =>
    intro k N M h1 h2 h3 hI
    obtain ⟨N, rfl⟩ : ∃ n, N = n + 1 := ⟨N - 1, by omega⟩
    by_cases hz : 7 * k + 7 ≤ L
    · obtain ⟨M2, i2, e2⟩ := law_step hL hg (k := k) (z := 7 * k) (M := M) (by omega) hz hI j265 j288 j301 j314 j347 j390 j433 j486 j529 j552 j575 j618 j641 j684 j727 j760 j783 j816 j895 j918 j961 j1004 j1027 j1070 j1103 j1146 j1169 j1202 j1225 j1300 j1323 j1356 j1389 j1412 j1445 j1468 j1501 j1534 j1567 j1575 (lp (cLaw_18 (runX 2040) (some 0) j265 j288 j301 j314 j347 j390 j433 j486 j529 j552 j575 j618 j641 j684 j727 j760 j783 j816 j895 j918 j961 j1004 j1027 j1070 j1103 j1146 j1169 j1202 j1225 j1300 j1323 j1356 j1389 j1412 j1445 j1468 j1501 j1534 j1567 j1575 (some 64) (some 160)) N)
      rw [lp_e, e2]
      exact ih (k + 1) N M2 (by omega) (by omega) (by omega) i2
    · obtain ⟨⟨hO, hx, hy⟩, -⟩ := hg.2.1 k M (by omega) hI
      have hlen : M.2.2.2[0]? = some (200, L) := hO.1 0 (by decide)
      refine ⟨k, M, by omega, hI, ?_⟩
      rw [lp_e]
      generalize lp (cLaw_18 (runX 2040) (some 0) j265 j288 j301 j314 j347 j390 j433 j486 j529 j552 j575 j618 j641 j684 j727 j760 j783 j816 j895 j918 j961 j1004 j1027 j1070 j1103 j1146 j1169 j1202 j1225 j1300 j1323 j1356 j1389 j1412 j1445 j1468 j1501 j1534 j1567 j1575 (some 64) (some 160)) N = K
      have hc : iI (L : Int) - (7 : Int32) < iI ((7 * k : Nat) : Int) := by rw [scr_if hL (by omega)]; omega
      rw [law_u]
      dsimp only
      rw [aln_e hlen (Or.inr ⟨by decide, by decide⟩), if_pos hc]
set_option maxRecDepth 100000 in
set_option maxHeartbeats 8000000 in
theorem plain_of {KM L : Nat} {xs : Nat → Int32} {Inv : Nat → Mem → Prop} (hL : L ≤ 448) (hKM : L < 7 * KM + 7) (hK2 : KM ≤ 64) (hg : Good KM L xs Inv) : ∃ (d : Nat) (M' : Mem), cLaw (runX d) (some 0) (Minit L xs) = some (.int 1, M') ∧ M'.2.2.2.length - 64 ≤ 600000 ∧ tot M'.2.2.2 - tot (Minit L xs).2.2.2 ≤ 7302250 ∧ d + 1 ≤ 2048 := by
  have e0 : Minit L xs = app (Minit L xs) [] := rfl
  have hs : ∃ k' M', k' ≤ KM ∧ Inv k' M' ∧ cLaw (runX 2040) (some 0) (Minit L xs) = some (.int 1, M') := by
    obtain ⟨k', M', q1, q2, q3⟩ := law_loop hL hg hKM (fun s => rtZ 0 s) (fun s => rtZ 0 s) (fun s => rtZ 0 s) (fun s => rtZ 0 s) (fun s => rtZ 0 s) (fun s => rtZ 0 s) (fun s => rtZ 0 s) (fun s => rtZ 0 s) (fun s => rtZ 0 s) (fun s => rtZ 0 s) (fun s => rtZ 0 s) (fun s => rtZ 0 s) (fun s => rtZ 0 s) (fun s => rtZ 0 s) (fun s => rtZ 0 s) (fun s => rtZ 0 s) (fun s => rtZ 0 s) (fun s => rtZ 0 s) (fun s => rtZ 0 s) (fun s => rtZ 0 s) (fun s => rtZ 0 s) (fun s => rtZ 0 s) (fun s => rtZ 0 s) (fun s => rtZ 0 s) (fun s => rtZ 0 s) (fun s => rtZ 0 s) (fun s => rtZ 0 s) (fun s => rtZ 0 s) (fun s => rtZ 0 s) (fun s => rtZ 0 s) (fun s => rtZ 0 s) (fun s => rtZ 0 s) (fun s => rtZ 0 s) (fun s => rtZ 0 s) (fun s => rtZ 0 s) (fun s => rtZ 0 s) (fun s => rtZ 0 s) (fun s => rtZ 0 s) (fun s => rtZ 0 s) (fun s => rtZ 1 s) KM 0 4294967296 _ (by omega) (by omega) (by omega) hg.1
    refine ⟨k', M', q1, q2, ?_⟩
    have q4 : iI ((7 * 0 : Nat) : Int) = (0 : Int32) := by decide +kernel
    rw [q4, rtZ_e (Or.inr rfl)] at q3
    have w1 : app (Minit L xs) [(0, ((12, 19) : Nat × Nat).1, ((12, 19) : Nat × Nat).2, 0)] = app (Minit L xs) LP127 := rfl
    have w2 : app (Minit L xs) ((0, ((13, 157) : Nat × Nat).1, ((13, 157) : Nat × Nat).2, 0) :: LQ127) = app (Minit L xs) LP183 := congrArg (app (Minit L xs)) (by decide +kernel)
    unfold cLaw
    rw [e0, nO_c 64 rfl, vC_l (by decide +kernel), w1, cV_e (b_127 (L := L) (xs := xs) (d := 2034)), nO_c 160 (by decide +kernel), vC_l (by decide +kernel), w2, cV_e (b_183 (L := L) (xs := xs) (d := 2035))]
    rw [jn_e, jn_e, jn_e, jn_e, jn_e, jn_e, jn_e, jn_e, jn_e, jn_e, jn_e, jn_e, jn_e, jn_e, jn_e, jn_e, jn_e, jn_e, jn_e, jn_e, jn_e, jn_e, jn_e, jn_e, jn_e, jn_e, jn_e, jn_e, jn_e, jn_e, jn_e, jn_e, jn_e, jn_e, jn_e, jn_e, jn_e, jn_e, jn_e, jn_e]
    exact q3
  obtain ⟨k', M', q1, q2, q3⟩ := hs
  obtain ⟨-, h1, h2⟩ := hg.2.1 k' M' q1 q2
  exact ⟨2040, M', q3, by omega, by omega, by omega⟩
