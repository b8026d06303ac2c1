/-! THE MEMORY: whole numbers, longs, references (each by cell and place), and the kinds of the cells: (tag, length). The first 64 cells stood before the law began (0 the script, 1 TestHouse.INSTEAD, 2 the empty row of a new list, 3 .. 32 text constants, 33 .. 62 their bytes, 63 the mirror of Object[]): tags from 200 on, nobody writes them. Cell a from 64 on stands at base + (a - 64). -/
abbrev Mem : Type := (Nat → Nat → Int32) × (Nat → Nat → Int64) × (Nat → Nat → Option Nat) × List (Nat × Nat)
def up2 {α : Type} (f : Nat → Nat → α) (a j : Nat) (v : α) : Nat → Nat → α := fun b k => if b = a then (if k = j then v else f b k) else f b k
def clr {α : Type} (f : Nat → Nat → α) (a : Nat) (v : α) : Nat → Nat → α := fun b k => if b = a then v else f b k
def sI (M : Mem) (a j : Nat) (v : Int32) : Mem := (up2 M.1 a j v, M.2)
def sL (M : Mem) (a j : Nat) (v : Int64) : Mem := (M.1, up2 M.2.1 a j v, M.2.2)
def sP (M : Mem) (a j : Nat) (v : Option Nat) : Mem := (M.1, M.2.1, up2 M.2.2.1 a j v, M.2.2.2)
def nw (M : Mem) (t n : Nat) : Mem := (clr M.1 M.2.2.2.length 0, clr M.2.1 M.2.2.2.length 0, clr M.2.2.1 M.2.2.2.length none, M.2.2.2 ++ [(t, n)])
def tot (K : List (Nat × Nat)) : Nat := (K.map (fun q => q.2)).sum
/-- what a slot holds, by its descriptor: 0 whole number, 1 long, 2 reference -/
def xkd (d : String) : Nat := match d with
  | "I" => 0
  | "Z" => 0
  | "B" => 0
  | "J" => 1
  | _ => 2
def ta (t : Nat) : Nat := if 200 ≤ t then t - 100 else t
def xkk (t j : Nat) : Nat := if t < 100 then (match vwCl[t]? with
  | some q => xkd (q.2.1 j).2.2.1
  | none => 0) else if ta t < 104 then 0 else if ta t = 104 then 1 else 2
/-- a method: its name, its code, its locals, what it answers -/
abbrev XMt : Type := MethodName × ByteArray × Nat × Option FieldType
abbrev XS : Type := Program × Launch × Env × Room × State × MethodId × Array Value × List Frame × Method × Code
abbrev XG : Type := va_G × (Nat → ClassId) × (Nat → Nat) × Heap × Nat
def xtr (G : XG) (a : Nat) : Nat := if a < 64 then G.2.2.1 a else G.2.2.2.2 + (a - 64)
def cv (G : XG) (v : Value) : Value := match v with
  | .ref a => .ref (xtr G a)
  | v => v
def xv (G : XG) (M : Mem) (a t j : Nat) : Value := if xkk t j = 0 then .int (M.1 a j) else if xkk t j = 1 then .long (M.2.1 a j) else va_rf ((M.2.2.1 a j).map (xtr G))
def cO (G : XG) (M : Mem) (a t n : Nat) (H : Heap) : Prop :=
  (t < 100 → t_OB (xtr G a) (G.1.1 t) n (G.1.2 t) H (fun j => xv G M a t j)) ∧ (¬ t < 100 → t < 200 → H[xtr G a]? = some (arrV (G.2.1 t) n (fun j => xv G M a t j))) ∧ (200 ≤ t → t ≠ 220 → ∃ cell : Cell, H[xtr G a]? = some cell ∧ ∀ j, j < n → cell.slots[j]? = some (xv G M a t j))
/-- the tags of the cells that stood before; their arrays' elements -/
def xot (a : Nat) : Nat := if a < 2 then 200 else if a < 3 then 210 else if a < 33 then 220 else if a < 63 then 201 else 220
def xft (t : Nat) : FieldType := if t = 200 then .int else if t = 201 then .byte else .object "java/lang/Object"
def mW (G : XG) (M : Mem) (H : Heap) : Prop := (H.size + 64 = G.2.2.2.2 + M.2.2.2.length ∧ 64 ≤ M.2.2.2.length) ∧ (∀ q, q < G.2.2.2.2 → H[q]? = G.2.2.2.1[q]?) ∧ (∀ a t n, M.2.2.2[a]? = some (t, n) → cO G M a t n H) ∧ ∀ a t n, M.2.2.2[a]? = some (t, n) → (a < 64 → t = xot a ∧ (t ≠ 220 → n = G.2.2.1 (100 + a) ∧ G.2.2.1 a < G.2.2.2.2)) ∧ (64 ≤ a → t < 200)
/-- the locals that are known, by their places -/
def lvs (G : XG) : Nat → List (Option Value) → List (Nat × Value)
  | _, [] => []
  | i, none :: l => lvs G (i + 1) l
  | i, some v :: l => (i, cv G v) :: lvs G (i + 1) l
def XQ (S : XS) (G : XG) (K : Nat × Nat) (vd : Bool) (r : Value) (M' : Mem) : State → Prop :=
  MQ S.2.2.2.2.2.2.2.1 (fun _ _ o t => o = .returned (if vd then none else some (cv G r)) ∧ mW G M' t.heap) S.2.2.2.2.2.2.1 S.2.2.2.2.1 (M'.2.2.2.length - K.1) (tot M'.2.2.2 - K.2) (fun q => G.2.2.2.2 ≤ q)
abbrev XW (S : XS) (H : Heap) (locs : List Loc) (cells slots : Nat) (Q : State → Prop) (g : JFrame) : Prop := W S.1 S.2.1 S.2.2.1 S.2.2.2.1 S.2.2.2.2.1 S.2.2.2.2.2.1 S.2.2.2.2.2.2.1 S.2.2.2.2.2.2.2.1 S.2.2.2.2.2.2.2.2.1 S.2.2.2.2.2.2.2.2.2 H locs cells slots Q g
abbrev XF (S : XS) (G : XG) (pc : Nat) (ls : Array Slot) (st : List Value) : JFrame := F0 S.2.2.2.2.2.1 pc ls (st.map (cv G))
/-- the words that every method has -/
def xbig : List Cond := lw_tbl.filter goodWord
theorem xb_mem {w : Cond} (n : Nat) (h : lw_tbl[n]? = some w) (hg : goodWord w = true) : w ∈ xbig := List.mem_filter.mpr ⟨List.mem_of_getElem? h, hg⟩
theorem xb_good : GoodIn xbig xbig := fun w hw => ⟨hw, good_of_word (List.mem_filter.mp hw).2⟩
/-- the array classes by their tags -/
def xtys (AC : Nat → ClassId) : List (ClassId × FieldType) := [(AC 100, .int), (AC 101, .byte), (AC 102, .boolean), (AC 103, .short), (AC 104, .long), (AC 110, .object "java/lang/Object"), (AC 111, .object "TestHouse$Parcel"), (AC 112, .object "TestHouse$Twin"), (AC 113, .array .int), (AC 114, .array .long)]
/-- the text constants: owner, place, text, bytes -/
def xstr : List (String × Nat × String × List Int32) := [
  ("TestHouse$Scanner", 29, "unit own const var shared row start fun before after test skip raises with prop let if else while return check raise try catch draw and or not ", [117, 110, 105, 116, 32, 111, 119, 110, 32, 99, 111, 110, 115, 116, 32, 118, 97, 114, 32, 115, 104, 97, 114, 101, 100, 32, 114, 111, 119, 32, 115, 116, 97, 114, 116, 32, 102, 117, 110, 32, 98, 101, 102, 111, 114, 101, 32, 97, 102, 116, 101, 114, 32, 116, 101, 115, 116, 32, 115, 107, 105, 112, 32, 114, 97, 105, 115, 101, 115, 32, 119, 105, 116, 104, 32, 112, 114, 111, 112, 32, 108, 101, 116, 32, 105, 102, 32, 101, 108, 115, 101, 32, 119, 104, 105, 108, 101, 32, 114, 101, 116, 117, 114, 110, 32, 99, 104, 101, 99, 107, 32, 114, 97, 105, 115, 101, 32, 116, 114, 121, 32, 99, 97, 116, 99, 104, 32, 100, 114, 97, 119, 32, 97, 110, 100, 32, 111, 114, 32, 110, 111, 116, 32]),
  ("TestHouse$Scanner", 71, "{}()[],;.=+-*/%<", [123, 125, 40, 41, 91, 93, 44, 59, 46, 61, 43, 45, 42, 47, 37, 60]),
  ("TestHouseModel", 113, "unit", [117, 110, 105, 116]),
  ("TestHouseModel", 119, "own", [111, 119, 110]),
  ("TestHouseModel", 121, "const", [99, 111, 110, 115, 116]),
  ("TestHouseModel", 123, "var", [118, 97, 114]),
  ("TestHouseModel", 125, "shared", [115, 104, 97, 114, 101, 100]),
  ("TestHouseModel", 127, "row", [114, 111, 119]),
  ("TestHouseModel", 129, "fun", [102, 117, 110]),
  ("TestHouseModel", 131, "start", [115, 116, 97, 114, 116]),
  ("TestHouseModel", 133, "before", [98, 101, 102, 111, 114, 101]),
  ("TestHouseModel", 135, "after", [97, 102, 116, 101, 114]),
  ("TestHouseModel", 137, "test", [116, 101, 115, 116]),
  ("TestHouseModel", 139, "skip", [115, 107, 105, 112]),
  ("TestHouseModel", 141, "raises", [114, 97, 105, 115, 101, 115]),
  ("TestHouseModel", 143, "with", [119, 105, 116, 104]),
  ("TestHouseModel", 145, "prop", [112, 114, 111, 112]),
  ("TestHouseModel", 147, "let", [108, 101, 116]),
  ("TestHouseModel", 149, "if", [105, 102]),
  ("TestHouseModel", 151, "else", [101, 108, 115, 101]),
  ("TestHouseModel", 153, "while", [119, 104, 105, 108, 101]),
  ("TestHouseModel", 155, "return", [114, 101, 116, 117, 114, 110]),
  ("TestHouseModel", 157, "check", [99, 104, 101, 99, 107]),
  ("TestHouseModel", 159, "raise", [114, 97, 105, 115, 101]),
  ("TestHouseModel", 161, "try", [116, 114, 121]),
  ("TestHouseModel", 163, "catch", [99, 97, 116, 99, 104]),
  ("TestHouseModel", 165, "draw", [100, 114, 97, 119]),
  ("TestHouseModel", 167, "and", [97, 110, 100]),
  ("TestHouseModel", 169, "or", [111, 114]),
  ("TestHouseModel", 171, "not", [110, 111, 116])]
def xcas : List String := ["java/util/ArrayList", "TestHouse$Build", "TestHouse$History", "TestHouse$Luck", "TestHouse$Machine", "TestHouse$Outcome", "TestHouse$Parcel", "TestHouse$Parser", "TestHouse$Part", "TestHouse$Scanner", "TestHouse$Twin", "TestHouse$Unit", "TestHouse", "TestHouseModel"]
def xnest : List Cond := [.methodLinkNest "TestHouse" 11 ⟨"TestHouse$Parser", "<init>", "()V"⟩ "TestHouse",
  .methodLinkNest "TestHouse" 38 ⟨"TestHouse$Outcome", "<init>", "()V"⟩ "TestHouse",
  .methodLinkNest "TestHouse" 45 ⟨"TestHouse$Luck", "<init>", "()V"⟩ "TestHouse",
  .methodLinkNest "TestHouse$Machine" 11 ⟨"TestHouse$Outcome", "<init>", "()V"⟩ "TestHouse",
  .methodLinkNest "TestHouse$Machine" 52 ⟨"TestHouse$Twin", "<init>", "()V"⟩ "TestHouse",
  .methodLinkNest "TestHouse$Machine" 259 ⟨"TestHouse", "partAt", "(Ljava/util/ArrayList;I)LTestHouse$Part;"⟩ "TestHouse",
  .fieldLinkNest "TestHouse$Machine" 222 "TestHouse" "INSTEAD" "[I" "TestHouse",
  .fieldLinkNest "TestHouse$Parcel" 97 "TestHouse" "INSTEAD" "[I" "TestHouse"]
def va_B (w : Cond) (U : State) : Prop := w.before #[] U = true
/-- words that the tables of a callee don't carry -/
def XB (U : State) : Prop := (va_AO "java/lang/Object" U ∧ va_AO "TestHouse$Parcel" U ∧ va_AO "TestHouse$Twin" U) ∧ (∀ C ∈ xcas, va_Nw (.castable C "java/lang/Object") U) ∧ va_Nw (.castable "[I" "java/lang/Cloneable") U ∧ va_B (.arrayOver (.array .int)) U ∧ va_B (.arrayOver (.array .long)) U ∧ ∀ w ∈ xnest, va_Nw w U
theorem va_B.aa {ft : FieldType} {u U : State} (ha : u.vm.Alike U.vm) (h : va_B (.arrayOver (.array ft)) u) : va_B (.arrayOver (.array ft)) U := Jvm.Stand.arrayOver_alikeB ha h
theorem va_B.use {ft : FieldType} {A : Array Value} {U : State} (h : va_B (.arrayOver (.array ft)) U) : (Cond.arrayOver (.array ft)).before A U = true := Jvm.Stand.arrayOver_alikeB (Vm.Alike.refl U.vm) h
theorem XB.warm {u U : State} (hW : u.WarmedH U.vm) (h : XB u) : XB U := ⟨⟨h.1.1.moved hW.alike, h.1.2.1.moved hW.alike, h.1.2.2.moved hW.alike⟩, fun C hC => va_Nw.warmC hW (h.2.1 C hC), va_Nw.warmC hW h.2.2.1, va_B.aa hW.alike h.2.2.2.1, va_B.aa hW.alike h.2.2.2.2.1, fun w hw => (by
    simp only [xnest, List.mem_cons, List.not_mem_nil, or_false] at hw
    rcases hw with rfl | rfl | rfl | rfl | rfl | rfl | rfl | rfl
    · exact va_Nw.warmM hW (h.2.2.2.2.2 _ (List.mem_of_getElem? (i := 0) rfl))
    · exact va_Nw.warmM hW (h.2.2.2.2.2 _ (List.mem_of_getElem? (i := 1) rfl))
    · exact va_Nw.warmM hW (h.2.2.2.2.2 _ (List.mem_of_getElem? (i := 2) rfl))
    · exact va_Nw.warmM hW (h.2.2.2.2.2 _ (List.mem_of_getElem? (i := 3) rfl))
    · exact va_Nw.warmM hW (h.2.2.2.2.2 _ (List.mem_of_getElem? (i := 4) rfl))
    · exact va_Nw.warmM hW (h.2.2.2.2.2 _ (List.mem_of_getElem? (i := 5) rfl))
    · exact va_Nw.warmF hW (h.2.2.2.2.2 _ (List.mem_of_getElem? (i := 6) rfl))
    · exact va_Nw.warmF hW (h.2.2.2.2.2 _ (List.mem_of_getElem? (i := 7) rfl)))⟩
theorem XB.same {u U : State} (hv : U.vm = u.vm) (h : XB u) : XB U :=
  have ha : u.vm.Alike U.vm := hv ▸ Vm.Alike.refl u.vm
  ⟨⟨h.1.1.moved ha, h.1.2.1.moved ha, h.1.2.2.moved ha⟩, fun C hC => va_Nw.same rfl hv.symm (h.2.1 C hC), va_Nw.same rfl hv.symm h.2.2.1, va_B.aa ha h.2.2.2.1, va_B.aa ha h.2.2.2.2.1, fun w hw => (by
    have h9 := h.2.2.2.2.2 w hw
    simp only [xnest, List.mem_cons, List.not_mem_nil, or_false] at hw
    rcases hw with rfl | rfl | rfl | rfl | rfl | rfl | rfl | rfl <;> exact va_Nw.same rfl hv.symm h9)⟩
/-- what stood before the law began: statics, text constants, a mirror -/
def XK (G : XG) (U : State) : Prop :=
  (va_Z "TestHouse" "INSTEAD" "[I" (.ref (G.2.2.1 1)) (fun q => G.2.2.2.2 ≤ q) U G.2.2.2.1 ∧ va_Z "TestHouseModel" "IT" "J" (.long 26996) (fun q => G.2.2.2.2 ≤ q) U G.2.2.2.1 ∧ va_Z "java/util/ArrayList" "DEFAULTCAPACITY_EMPTY_ELEMENTDATA" "[Ljava/lang/Object;" (.ref (G.2.2.1 2)) (fun q => G.2.2.2.2 ≤ q) U G.2.2.2.1 ∧ va_Z "java/lang/String" "COMPACT_STRINGS" "Z" (.int 1) (fun q => G.2.2.2.2 ≤ q) U G.2.2.2.1 ∧
    ∃ v, va_Z "jdk/internal/util/Preconditions" "SIOOBE_FORMATTER" "Ljava/util/function/BiFunction;" v (fun q => G.2.2.2.2 ≤ q) U G.2.2.2.1 ∧ v.category = 1) ∧
  (∀ (i : Nat) q, xstr[i]? = some q → vk_R q.1 q.2.1 q.2.2.1 (G.2.2.1 (3 + i)) U ∧ va_O "java/lang/String" (G.2.2.1 (3 + i)) (fun q => G.2.2.2.2 ≤ q) U G.2.2.2.1 ∧ va_OF "java/lang/String" "coder" "B" (.int 0) (G.2.2.1 (3 + i)) (fun q => G.2.2.2.2 ≤ q) U G.2.2.2.1 ∧ va_OF "java/lang/String" "value" "[B" (.ref (G.2.2.1 (33 + i))) (G.2.2.1 (3 + i)) (fun q => G.2.2.2.2 ≤ q) U G.2.2.2.1) ∧
  va_Mi "[Ljava/lang/Object;" (G.2.2.1 63) U ∧ va_Dc U ∧
  XB U ∧ (∀ a, a < 64 → xot a ≠ 220 → ∃ f, va_T (xft (xot a)) (G.2.2.1 a) (G.2.2.1 (100 + a)) f (fun q => G.2.2.2.2 ≤ q) U G.2.2.2.1)
theorem XK.warm {G : XG} {u U : State} (hW : u.WarmedH U.vm) (h : XK G u) : XK G U :=
  ⟨⟨h.1.1.moved hW.alike, h.1.2.1.moved hW.alike, h.1.2.2.1.moved hW.alike, h.1.2.2.2.1.moved hW.alike, h.1.2.2.2.2.elim fun v hv => ⟨v, hv.1.moved hW.alike, hv.2⟩⟩, fun i q hq => ⟨vk_R.warm hW (h.2.1 i q hq).1, va_O.moved hW.alike (h.2.1 i q hq).2.1, va_OF.moved hW.alike (h.2.1 i q hq).2.2.1, va_OF.moved hW.alike (h.2.1 i q hq).2.2.2⟩, h.2.2.1.moved hW.alike, h.2.2.2.1.moved hW.alike, h.2.2.2.2.1.warm hW, fun a h1 h2 => (h.2.2.2.2.2 a h1 h2).elim fun f hf => ⟨f, va_T.moved hW.alike hf⟩⟩
theorem XK.same {G : XG} {u U : State} (hv : U.vm = u.vm) (h : XK G u) : XK G U :=
  have ha : u.vm.Alike U.vm := hv ▸ Vm.Alike.refl u.vm
  ⟨⟨h.1.1.moved ha, h.1.2.1.moved ha, h.1.2.2.1.moved ha, h.1.2.2.2.1.moved ha, h.1.2.2.2.2.elim fun v h9 => ⟨v, h9.1.moved ha, h9.2⟩⟩, fun i q hq => ⟨vk_R.same hv (h.2.1 i q hq).1, va_O.moved ha (h.2.1 i q hq).2.1, va_OF.moved ha (h.2.1 i q hq).2.2.1, va_OF.moved ha (h.2.1 i q hq).2.2.2⟩, h.2.2.1.moved ha, h.2.2.2.1.moved ha, h.2.2.2.2.1.same hv, fun a h1 h2 => (h.2.2.2.2.2 a h1 h2).elim fun f hf => ⟨f, va_T.moved ha hf⟩⟩
/-- what the machine knows of the classes -/
def XE (G : XG) (U : State) : Prop := va_K G.1 vwCl (xtys G.2.1) U ∧ XK G U
theorem XE.warm {G : XG} {u U : State} (hW : u.WarmedH U.vm) (h : XE G u) : XE G U := ⟨va_K.moved hW.alike h.1, h.2.warm hW⟩
theorem XE.same {G : XG} {u U : State} (hv : U.vm = u.vm) (h : XE G u) : XE G U := ⟨va_K.moved (hv ▸ Vm.Alike.refl u.vm) h.1, h.2.same hv⟩
def XO (S : XS) (G : XG) (mt : XMt) : Prop :=
  S.1.tables.exec = Jvm.exec ∧ S.2.2.2.2.2.2.2.2.2.code = mt.2.1 ∧ S.2.2.2.2.2.2.2.2.2.maxLocals = mt.2.2.1 ∧ S.2.2.2.2.1.vm.findClass mt.1.cls = some S.2.2.2.2.2.1.cls ∧ (∀ w ∈ xbig, w.before S.2.2.2.2.2.2.1 S.2.2.2.2.1 = true) ∧ S.2.2.2.2.2.2.2.2.1.locks = false ∧ S.2.2.2.2.2.2.2.2.1.sig.returnType = mt.2.2.2 ∧ XE G S.2.2.2.2.1
def XN (S : XS) (l : Launch) (mt : XMt) (d : Nat) : Prop := S.2.1 = l ∧ S.2.2.2.2.2.2.2.2.1.name = mt.1.name ∧ d + 1 ≤ S.2.2.2.1.frames ∧ 40 * d + 40 ≤ S.2.2.2.1.locals
/-- the machine, at pc with these locals, this stack and this memory, does what the computation c says. K: cells and slots at the method's start; d: the depth that its callees have -/
def Xe (S : XS) (G : XG) (K : Nat × Nat) (l : Launch) (mt : XMt) (d : Nat) (pc : Nat) (lo : List (Option Value)) (st : List Value) (M : Mem) (c : Option (Value × Mem)) : Prop :=
  ∀ r M', c = some (r, M') → M.2.2.2 <+: M'.2.2.2 ∧ (XO S G mt → XN S l mt d → K.1 ≤ M.2.2.2.length → K.2 ≤ tot M.2.2.2 → M'.2.2.2.length - K.1 ≤ S.2.2.2.1.cells → tot M'.2.2.2 - K.2 ≤ S.2.2.2.1.slots →
    ∀ (H : Heap) (locs : List Loc) (ls : Array Slot), mW G M H → (∀ q ∈ locs, G.2.2.2.2 ≤ q.base) → lv_has ls mt.2.2.1 (lvs G 0 lo) → XW S H locs (M.2.2.2.length - K.1) (tot M.2.2.2 - K.2) (XQ S G K mt.2.2.2.isNone r M') (XF S G pc ls st))
section XR
variable {S : XS} {G : XG} {K : Nat × Nat} {l : Launch} {mt : XMt} {d : Nat} {pc : Nat} {lo : List (Option Value)} {st : List Value} {M : Mem} {c : Option (Value × Mem)}
theorem x_pure {pc' : Nat} {st' : List Value} (hw : XO S G mt → ∀ (H : Heap) (locs : List Loc) (cells slots : Nat) (ls : Array Slot) (Q : State → Prop), XW S H locs cells slots Q (XF S G pc' ls st') → XW S H locs cells slots Q (XF S G pc ls st)) (k : Xe S G K l mt d pc' lo st' M c) : Xe S G K l mt d pc lo st M c :=
  fun r M' e => ⟨(k r M' e).1, fun h hn a b d9 f H locs ls h1 h2 h3 => hw h _ _ _ _ _ _ ((k r M' e).2 h hn a b d9 f H locs ls h1 h2 h3)⟩
theorem x_none : Xe S G K l mt d pc lo st M none := fun _ _ e => nomatch e
theorem x_iconst {n : Int} {v : Int32} (hd : decode mt.2.1 pc = .ok (.iconst n, 1)) (hv : Int32.ofInt n = v) (k : Xe S G K l mt d (pc + 1) lo (.int v :: st) M c) : Xe S G K l mt d pc lo st M c :=
  x_pure (fun h _ _ _ _ _ _ w => lv_iconst h.1 h.2.1 hd hv w) k
theorem x_bipush {n : Int} {v : Int32} (hd : decode mt.2.1 pc = .ok (.bipush n, 2)) (hv : (Int8.ofInt n).toInt32 = v) (k : Xe S G K l mt d (pc + 2) lo (.int v :: st) M c) : Xe S G K l mt d pc lo (st) M c :=
  x_pure (fun h _ _ _ _ _ _ w => lv_bipush h.1 h.2.1 hd hv w) k
theorem x_sipush {n : Int} {v : Int32} (hd : decode mt.2.1 pc = .ok (.sipush n, 3)) (hv : (Int16.ofInt n).toInt32 = v) (k : Xe S G K l mt d (pc + 3) lo (.int v :: st) M c) : Xe S G K l mt d pc lo (st) M c :=
  x_pure (fun h _ _ _ _ _ _ w => lv_sipush h.1 h.2.1 hd hv w) k
theorem x_lconst {n : Fin 2} {v : Int64} (hd : decode mt.2.1 pc = .ok (.lconst n, 1)) (hv : Int64.ofNat (n : Nat) = v) (k : Xe S G K l mt d (pc + 1) lo (.long v :: st) M c) : Xe S G K l mt d pc lo (st) M c :=
  x_pure (fun h _ _ _ _ _ _ w => lv_lconst h.1 h.2.1 hd hv w) k
theorem x_null (hd : decode mt.2.1 pc = .ok (.aconst_null, 1)) (k : Xe S G K l mt d (pc + 1) lo (va_rf none :: st) M c) : Xe S G K l mt d pc lo (st) M c :=
  x_pure (fun h _ _ _ _ _ _ w => lv_null h.1 h.2.1 hd w) k
theorem x_iadd {x y : Int32} (hd : decode mt.2.1 pc = .ok (.iadd, 1)) (k : Xe S G K l mt d (pc + 1) lo (.int (x + y) :: st) M c) : Xe S G K l mt d pc lo (.int y :: .int x :: st) M c :=
  x_pure (fun h _ _ _ _ _ _ w => lv_iadd h.1 h.2.1 hd w) k
theorem x_isub {x y : Int32} (hd : decode mt.2.1 pc = .ok (.isub, 1)) (k : Xe S G K l mt d (pc + 1) lo (.int (x - y) :: st) M c) : Xe S G K l mt d pc lo (.int y :: .int x :: st) M c :=
  x_pure (fun h _ _ _ _ _ _ w => lv_isub h.1 h.2.1 hd w) k
theorem x_imul {x y : Int32} (hd : decode mt.2.1 pc = .ok (.imul, 1)) (k : Xe S G K l mt d (pc + 1) lo (.int (x * y) :: st) M c) : Xe S G K l mt d pc lo (.int y :: .int x :: st) M c :=
  x_pure (fun h _ _ _ _ _ _ w => lv_imul h.1 h.2.1 hd w) k
theorem x_iand {x y : Int32} (hd : decode mt.2.1 pc = .ok (.iand, 1)) (k : Xe S G K l mt d (pc + 1) lo (.int (x &&& y) :: st) M c) : Xe S G K l mt d pc lo (.int y :: .int x :: st) M c :=
  x_pure (fun h _ _ _ _ _ _ w => lv_iand h.1 h.2.1 hd w) k
theorem x_ior {x y : Int32} (hd : decode mt.2.1 pc = .ok (.ior, 1)) (k : Xe S G K l mt d (pc + 1) lo (.int (x ||| y) :: st) M c) : Xe S G K l mt d pc lo (.int y :: .int x :: st) M c :=
  x_pure (fun h _ _ _ _ _ _ w => lv_ior h.1 h.2.1 hd w) k
theorem x_ixor {x y : Int32} (hd : decode mt.2.1 pc = .ok (.ixor, 1)) (k : Xe S G K l mt d (pc + 1) lo (.int (x ^^^ y) :: st) M c) : Xe S G K l mt d pc lo (.int y :: .int x :: st) M c :=
  x_pure (fun h _ _ _ _ _ _ w => lv_ixor h.1 h.2.1 hd w) k
theorem x_ishl {x y : Int32} (hd : decode mt.2.1 pc = .ok (.ishl, 1)) (k : Xe S G K l mt d (pc + 1) lo (.int (x <<< (y &&& 31)) :: st) M c) : Xe S G K l mt d pc lo (.int y :: .int x :: st) M c :=
  x_pure (fun h _ _ _ _ _ _ w => lv_ishl h.1 h.2.1 hd w) k
theorem x_ishr {x y : Int32} (hd : decode mt.2.1 pc = .ok (.ishr, 1)) (k : Xe S G K l mt d (pc + 1) lo (.int (x >>> (y &&& 31)) :: st) M c) : Xe S G K l mt d pc lo (.int y :: .int x :: st) M c :=
  x_pure (fun h _ _ _ _ _ _ w => lv_ishr h.1 h.2.1 hd w) k
theorem x_iushr {x y : Int32} (hd : decode mt.2.1 pc = .ok (.iushr, 1)) (k : Xe S G K l mt d (pc + 1) lo (.int ((x.toUInt32 >>> (y.toUInt32 &&& Int32.toUInt32 31)).toInt32) :: st) M c) : Xe S G K l mt d pc lo (.int y :: .int x :: st) M c :=
  x_pure (fun h _ _ _ _ _ _ w => lv_iushr h.1 h.2.1 hd rfl w) k
theorem x_ladd {x y : Int64} (hd : decode mt.2.1 pc = .ok (.ladd, 1)) (k : Xe S G K l mt d (pc + 1) lo (.long (x + y) :: st) M c) : Xe S G K l mt d pc lo (.long y :: .long x :: st) M c :=
  x_pure (fun h _ _ _ _ _ _ w => lv_ladd h.1 h.2.1 hd w) k
theorem x_lsub {x y : Int64} (hd : decode mt.2.1 pc = .ok (.lsub, 1)) (k : Xe S G K l mt d (pc + 1) lo (.long (x - y) :: st) M c) : Xe S G K l mt d pc lo (.long y :: .long x :: st) M c :=
  x_pure (fun h _ _ _ _ _ _ w => lv_lsub h.1 h.2.1 hd w) k
theorem x_lmul {x y : Int64} (hd : decode mt.2.1 pc = .ok (.lmul, 1)) (k : Xe S G K l mt d (pc + 1) lo (.long (x * y) :: st) M c) : Xe S G K l mt d pc lo (.long y :: .long x :: st) M c :=
  x_pure (fun h _ _ _ _ _ _ w => lv_lmul h.1 h.2.1 hd w) k
theorem x_land {x y : Int64} (hd : decode mt.2.1 pc = .ok (.land, 1)) (k : Xe S G K l mt d (pc + 1) lo (.long (x &&& y) :: st) M c) : Xe S G K l mt d pc lo (.long y :: .long x :: st) M c :=
  x_pure (fun h _ _ _ _ _ _ w => lv_land h.1 h.2.1 hd w) k
theorem x_lor {x y : Int64} (hd : decode mt.2.1 pc = .ok (.lor, 1)) (k : Xe S G K l mt d (pc + 1) lo (.long (x ||| y) :: st) M c) : Xe S G K l mt d pc lo (.long y :: .long x :: st) M c :=
  x_pure (fun h _ _ _ _ _ _ w => lv_lor h.1 h.2.1 hd w) k
theorem x_lxor {x y : Int64} (hd : decode mt.2.1 pc = .ok (.lxor, 1)) (k : Xe S G K l mt d (pc + 1) lo (.long (x ^^^ y) :: st) M c) : Xe S G K l mt d pc lo (.long y :: .long x :: st) M c :=
  x_pure (fun h _ _ _ _ _ _ w => lv_lxor h.1 h.2.1 hd w) k
theorem x_lshl {x : Int64} {y : Int32} (hd : decode mt.2.1 pc = .ok (.lshl, 1)) (k : Xe S G K l mt d (pc + 1) lo (.long (x <<< (y.toInt64 &&& 63)) :: st) M c) : Xe S G K l mt d pc lo (.int y :: .long x :: st) M c :=
  x_pure (fun h _ _ _ _ _ _ w => lv_lshl h.1 h.2.1 hd rfl w) k
theorem x_lushr {x : Int64} {y : Int32} (hd : decode mt.2.1 pc = .ok (.lushr, 1)) (k : Xe S G K l mt d (pc + 1) lo (.long ((x.toUInt64 >>> (y.toInt64.toUInt64 &&& Int64.toUInt64 63)).toInt64) :: st) M c) : Xe S G K l mt d pc lo (.int y :: .long x :: st) M c :=
  x_pure (fun h _ _ _ _ _ _ w => lv_lushr h.1 h.2.1 hd rfl w) k
theorem x_ineg {x : Int32} (hd : decode mt.2.1 pc = .ok (.ineg, 1)) (k : Xe S G K l mt d (pc + 1) lo (.int (-x) :: st) M c) : Xe S G K l mt d pc lo (.int x :: st) M c :=
  x_pure (fun h _ _ _ _ _ _ w => lv_ineg h.1 h.2.1 hd w) k
theorem x_lneg {x : Int64} (hd : decode mt.2.1 pc = .ok (.lneg, 1)) (k : Xe S G K l mt d (pc + 1) lo (.long (-x) :: st) M c) : Xe S G K l mt d pc lo (.long x :: st) M c :=
  x_pure (fun h _ _ _ _ _ _ w => lv_lneg h.1 h.2.1 hd w) k
theorem x_i2l {x : Int32} (hd : decode mt.2.1 pc = .ok (.i2l, 1)) (k : Xe S G K l mt d (pc + 1) lo (.long x.toInt64 :: st) M c) : Xe S G K l mt d pc lo (.int x :: st) M c :=
  x_pure (fun h _ _ _ _ _ _ w => lv_i2l h.1 h.2.1 hd rfl w) k
theorem x_l2i {x : Int64} (hd : decode mt.2.1 pc = .ok (.l2i, 1)) (k : Xe S G K l mt d (pc + 1) lo (.int x.toInt32 :: st) M c) : Xe S G K l mt d pc lo (.long x :: st) M c :=
  x_pure (fun h _ _ _ _ _ _ w => lv_l2i h.1 h.2.1 hd rfl w) k
theorem x_i2b {x : Int32} (hd : decode mt.2.1 pc = .ok (.i2b, 1)) (k : Xe S G K l mt d (pc + 1) lo (.int x.toInt8.toInt32 :: st) M c) : Xe S G K l mt d pc lo (.int x :: st) M c :=
  x_pure (fun h _ _ _ _ _ _ w => lv_i2b h.1 h.2.1 hd rfl w) k
theorem x_i2s {x : Int32} (hd : decode mt.2.1 pc = .ok (.i2s, 1)) (k : Xe S G K l mt d (pc + 1) lo (.int x.toInt16.toInt32 :: st) M c) : Xe S G K l mt d pc lo (.int x :: st) M c :=
  x_pure (fun h _ _ _ _ _ _ w => lv_i2s h.1 h.2.1 hd rfl w) k
theorem x_i2c {x : Int32} (hd : decode mt.2.1 pc = .ok (.i2c, 1)) (k : Xe S G K l mt d (pc + 1) lo (.int ((x.toUInt32 % 65536).toInt32) :: st) M c) : Xe S G K l mt d pc lo (.int x :: st) M c :=
  x_pure (fun h _ _ _ _ _ _ w => lv_i2c h.1 h.2.1 hd rfl w) k
theorem x_lcmp {x y : Int64} (hd : decode mt.2.1 pc = .ok (.lcmp, 1)) (k : Xe S G K l mt d (pc + 1) lo (.int (lg_cmp x y) :: st) M c) : Xe S G K l mt d pc lo (.long y :: .long x :: st) M c :=
  x_pure (fun h _ _ _ _ _ _ w => W.lcmp h.1 h.2.1 hd w) k
theorem cv_cat (v : Value) : (cv G v).category = v.category := by cases v <;> rfl
theorem cv_rf (r : Option Nat) : cv G (va_rf r) = va_rf (r.map (xtr G)) := by cases r <;> rfl
theorem lvs_mem : ∀ (lo : List (Option Value)) (n i : Nat) (v : Value), lo[i]? = some (some v) → (n + i, cv G v) ∈ lvs G n lo
  | [], n, i, v, h => by simp at h
  | none :: l, n, 0, v, h => by simp at h
  | none :: l, n, i + 1, v, h => by
    have h2 : l[i]? = some (some v) := by simpa using h
    have := lvs_mem l (n + 1) i v h2
    rw [show n + (i + 1) = n + 1 + i by omega]
    exact this
  | some w :: l, n, 0, v, h => by
    have h2 : w = v := by simpa using h
    subst h2
    exact List.mem_cons_self
  | some w :: l, n, i + 1, v, h => by
    have h2 : l[i]? = some (some v) := by simpa using h
    have := lvs_mem l (n + 1) i v h2
    rw [show n + (i + 1) = n + 1 + i by omega]
    exact List.mem_cons_of_mem _ this
theorem lvs_inv : ∀ (lo : List (Option Value)) (n : Nat) (q : Nat × Value), q ∈ lvs G n lo → ∃ i v, lo[i]? = some (some v) ∧ q = (n + i, cv G v)
  | [], n, q, h => by simp [lvs] at h
  | none :: l, n, q, h => by
    obtain ⟨i, v, h1, h2⟩ := lvs_inv l (n + 1) q h
    exact ⟨i + 1, v, by simpa using h1, by rw [h2]; congr 1; omega⟩
  | some w :: l, n, q, h => by
    rcases List.mem_cons.mp h with h | h
    · exact ⟨0, w, by simp, h⟩
    · obtain ⟨i, v, h1, h2⟩ := lvs_inv l (n + 1) q h
      exact ⟨i + 1, v, by simpa using h1, by rw [h2]; congr 1; omega⟩
theorem lvs_at {ls : Array Slot} {n i : Nat} {v : Value} (h : lv_has ls n (lvs G 0 lo)) (hi : lo[i]? = some (some v)) : ls[i]? = some (.val (cv G v)) := by
  have := h.2.2 _ (lvs_mem lo 0 i v hi)
  simpa using this
/-- fewer locals known -/
def xsub : List (Option Value) → List (Option Value) → Prop
  | [], _ => True
  | none :: a, [] => xsub a []
  | none :: a, _ :: b => xsub a b
  | some _ :: _, [] => False
  | some v :: a, w :: b => some v = w ∧ xsub a b
theorem xsub_at : ∀ (a b : List (Option Value)) (i : Nat) (v : Value), xsub a b → a[i]? = some (some v) → b[i]? = some (some v)
  | [], b, i, v, h, hi => by simp at hi
  | none :: a, [], 0, v, h, hi => by simp at hi
  | none :: a, [], i + 1, v, h, hi => by
    have := xsub_at a [] i v h (by simpa using hi)
    simp at this
  | none :: a, w :: b, 0, v, h, hi => by simp at hi
  | none :: a, w :: b, i + 1, v, h, hi => by
    have := xsub_at a b i v h (by simpa using hi)
    simpa using this
  | some v' :: a, [], i, v, h, hi => h.elim
  | some v' :: a, w :: b, 0, v, h, hi => by
    obtain ⟨rfl, -⟩ := h
    simpa using hi
  | some v' :: a, w :: b, i + 1, v, h, hi => by
    have := xsub_at a b i v h.2 (by simpa using hi)
    simpa using this
theorem x_weak {lo' : List (Option Value)} (hs : xsub lo' lo) (k : Xe S G K l mt d pc lo' st M c) : Xe S G K l mt d pc lo st M c :=
  fun r M' e => ⟨(k r M' e).1, fun h hn a b d9 f H locs ls h1 h2 h3 => (k r M' e).2 h hn a b d9 f H locs ls h1 h2 ⟨h3.1, h3.2.1, fun q hq => by
    obtain ⟨i, v, hi, rfl⟩ := lvs_inv lo' 0 q hq
    have := lvs_at h3 (xsub_at _ _ _ _ hs hi)
    simpa using this⟩⟩
theorem x_loc {pc' : Nat} {lo' : List (Option Value)} {st' : List Value} (hw : XO S G mt → ∀ (H : Heap) (locs : List Loc) (cells slots : Nat) (ls : Array Slot) (Q : State → Prop), lv_has ls mt.2.2.1 (lvs G 0 lo) → (∀ ls', lv_has ls' mt.2.2.1 (lvs G 0 lo') → XW S H locs cells slots Q (XF S G pc' ls' st')) → XW S H locs cells slots Q (XF S G pc ls st)) (k : Xe S G K l mt d pc' lo' st' M c) : Xe S G K l mt d pc lo st M c :=
  fun r M' e => ⟨(k r M' e).1, fun h hn a b d9 f H locs ls h1 h2 h3 => hw h _ _ _ _ _ _ h3 (fun ls' h4 => (k r M' e).2 h hn a b d9 f H locs ls' h1 h2 h4)⟩
theorem x_iload_n {i : Fin 4} {x : Int32} (hd : decode mt.2.1 pc = .ok (.iload_n i, 1)) (hi : lo[(i : Nat)]? = some (some (.int x))) (k : Xe S G K l mt d (pc + 1) lo (.int x :: st) M c) : Xe S G K l mt d pc lo st M c :=
  x_loc (fun h _ _ _ _ ls _ h3 w => lv_iload_n h.1 h.2.1 hd rfl (lvs_at h3 hi) (w ls h3)) k
theorem x_iload {i : Nat} {x : Int32} (hd : decode mt.2.1 pc = .ok (.iload i, 2)) (hi : lo[i]? = some (some (.int x))) (k : Xe S G K l mt d (pc + 2) lo (.int x :: st) M c) : Xe S G K l mt d pc lo st M c :=
  x_loc (fun h _ _ _ _ ls _ h3 w => lv_iload h.1 h.2.1 hd (lvs_at h3 hi) (w ls h3)) k
theorem x_lload_n {i : Fin 4} {x : Int64} (hd : decode mt.2.1 pc = .ok (.lload_n i, 1)) (hi : lo[(i : Nat)]? = some (some (.long x))) (k : Xe S G K l mt d (pc + 1) lo (.long x :: st) M c) : Xe S G K l mt d pc lo st M c :=
  x_loc (fun h _ _ _ _ ls _ h3 w => lv_lload_n h.1 h.2.1 hd rfl (lvs_at h3 hi) (w ls h3)) k
theorem x_lload {i : Nat} {x : Int64} (hd : decode mt.2.1 pc = .ok (.lload i, 2)) (hi : lo[i]? = some (some (.long x))) (k : Xe S G K l mt d (pc + 2) lo (.long x :: st) M c) : Xe S G K l mt d pc lo st M c :=
  x_loc (fun h _ _ _ _ ls _ h3 w => lv_lload h.1 h.2.1 hd (lvs_at h3 hi) (w ls h3)) k
theorem x_aload_n {i : Fin 4} {r : Option Nat} (hd : decode mt.2.1 pc = .ok (.aload_n i, 1)) (hi : lo[(i : Nat)]? = some (some (va_rf r))) (k : Xe S G K l mt d (pc + 1) lo (va_rf r :: st) M c) : Xe S G K l mt d pc lo st M c := by
  cases r with
  | none => exact x_loc (fun h _ _ _ _ ls _ h3 w => lv_aload_nN h.1 h.2.1 hd rfl (lvs_at h3 hi) (w ls h3)) k
  | some a => exact x_loc (fun h _ _ _ _ ls _ h3 w => lv_aload_n h.1 h.2.1 hd rfl (lvs_at h3 hi) (w ls h3)) k
theorem x_aload {i : Nat} {r : Option Nat} (hd : decode mt.2.1 pc = .ok (.aload i, 2)) (hi : lo[i]? = some (some (va_rf r))) (k : Xe S G K l mt d (pc + 2) lo (va_rf r :: st) M c) : Xe S G K l mt d pc lo st M c := by
  cases r with
  | none => exact x_loc (fun h _ _ _ _ ls _ h3 w => lv_aloadN h.1 h.2.1 hd (lvs_at h3 hi) (w ls h3)) k
  | some a => exact x_loc (fun h _ _ _ _ ls _ h3 w => lv_aload h.1 h.2.1 hd (lvs_at h3 hi) (w ls h3)) k
/-- a local is set: none of two words stands just ahead of it -/
def xok1 (lo : List (Option Value)) (i : Nat) : Bool := match i with
  | 0 => true
  | j + 1 => match lo[j]? with
    | some (some (.long _)) => false
    | some (some (.double _)) => false
    | _ => true
theorem xset1 {ls : Array Slot} {n i : Nat} {v : Value} (hok : xok1 lo i = true) (h : lv_has ls n ((i, cv G v) :: (lvs G 0 lo).filter (fun q => !(q.1 == i) && !(q.1 + 1 == i && q.2.category == 2)))) : lv_has ls n (lvs G 0 (lo.set i (some v))) := by
  refine ⟨h.1, h.2.1, fun q hq => h.2.2 q ?_⟩
  obtain ⟨j, w, hj, rfl⟩ := lvs_inv _ 0 q hq
  rw [Nat.zero_add]
  by_cases e : i = j
  · subst e
    rw [List.getElem?_set] at hj
    by_cases hl : i < lo.length
    · simp only [if_true, if_pos hl] at hj
      cases hj
      exact List.mem_cons_self
    · simp only [if_true, if_neg hl] at hj
      cases hj
  · rw [List.getElem?_set_ne e] at hj
    refine List.mem_cons_of_mem _ (List.mem_filter.mpr ⟨by simpa using lvs_mem (G := G) lo 0 j w hj, ?_⟩)
    have h1 : (j == i) = false := by simpa using fun q => e q.symm
    rw [cv_cat]
    simp only [h1, Bool.not_false, Bool.true_and]
    by_cases h2 : j + 1 = i
    · subst h2
      simp only [xok1, hj] at hok
      cases w <;> first | (simp [Value.category]; done) | (simp at hok)
    · simp [h2]
theorem x_istore_n {i : Fin 4} {x : Int32} {lo' : List (Option Value)} (hd : decode mt.2.1 pc = .ok (.istore_n i, 1)) (hi : (i : Nat) < mt.2.2.1) (hok : xok1 lo i = true) (hs : lo.set i (some (.int x)) = lo') (k : Xe S G K l mt d (pc + 1) lo' st M c) : Xe S G K l mt d pc lo (.int x :: st) M c := by
  subst hs
  exact x_loc (fun h _ _ _ _ ls _ h3 w => lv_istore_n h.1 h.2.1 hd rfl h3 hi rfl (fun ls' h4 => w ls' (xset1 (v := .int x) hok h4))) k
theorem x_istore {i : Nat} {x : Int32} {lo' : List (Option Value)} (hd : decode mt.2.1 pc = .ok (.istore i, 2)) (hi : i < mt.2.2.1) (hok : xok1 lo i = true) (hs : lo.set i (some (.int x)) = lo') (k : Xe S G K l mt d (pc + 2) lo' st M c) : Xe S G K l mt d pc lo (.int x :: st) M c := by
  subst hs
  exact x_loc (fun h _ _ _ _ ls _ h3 w => lv_istore h.1 h.2.1 hd h3 hi rfl (fun ls' h4 => w ls' (xset1 (v := .int x) hok h4))) k
theorem x_astore_n {i : Fin 4} {r : Option Nat} {lo' : List (Option Value)} (hd : decode mt.2.1 pc = .ok (.astore_n i, 1)) (hi : (i : Nat) < mt.2.2.1) (hok : xok1 lo i = true) (hs : lo.set i (some (va_rf r)) = lo') (k : Xe S G K l mt d (pc + 1) lo' st M c) : Xe S G K l mt d pc lo (va_rf r :: st) M c := by
  subst hs
  cases r with
  | none => exact x_loc (fun h _ _ _ _ ls _ h3 w => lv_astore_nN h.1 h.2.1 hd rfl h3 hi rfl (fun ls' h4 => w ls' (xset1 (v := va_rf none) hok h4))) k
  | some a => exact x_loc (fun h _ _ _ _ ls _ h3 w => lv_astore_n h.1 h.2.1 hd rfl h3 hi rfl (fun ls' h4 => w ls' (xset1 (v := va_rf (some a)) hok h4))) k
theorem x_astore {i : Nat} {r : Option Nat} {lo' : List (Option Value)} (hd : decode mt.2.1 pc = .ok (.astore i, 2)) (hi : i < mt.2.2.1) (hok : xok1 lo i = true) (hs : lo.set i (some (va_rf r)) = lo') (k : Xe S G K l mt d (pc + 2) lo' st M c) : Xe S G K l mt d pc lo (va_rf r :: st) M c := by
  subst hs
  cases r with
  | none => exact x_loc (fun h _ _ _ _ ls _ h3 w => lv_astoreN h.1 h.2.1 hd h3 hi rfl (fun ls' h4 => w ls' (xset1 (v := va_rf none) hok h4))) k
  | some a => exact x_loc (fun h _ _ _ _ ls _ h3 w => lv_astore h.1 h.2.1 hd h3 hi rfl (fun ls' h4 => w ls' (xset1 (v := va_rf (some a)) hok h4))) k
theorem x_iinc {i : Nat} {n : Int} {x : Int32} {lo' : List (Option Value)} (hd : decode mt.2.1 pc = .ok (.iinc i n, 3)) (hx : lo[i]? = some (some (.int x))) (hi : i < mt.2.2.1) (hok : xok1 lo i = true) (hs : lo.set i (some (.int (x + Int32.ofInt n))) = lo') (k : Xe S G K l mt d (pc + 3) lo' st M c) : Xe S G K l mt d pc lo st M c := by
  subst hs
  refine x_loc (fun h _ _ _ _ ls _ h3 w => ?_) k
  obtain ⟨k9, hk9⟩ := List.getElem?_of_mem (lvs_mem (G := G) lo 0 i _ hx)
  rw [Nat.zero_add] at hk9
  exact lv_iinc h.1 h.2.1 hd h3 hk9 rfl hi rfl (fun ls' h4 => w ls' (xset1 (v := .int (x + Int32.ofInt n)) hok h4))
theorem xset2 {ls : Array Slot} {n i : Nat} {x : Int64} (hok : xok1 lo i = true) (h : lv_has ls n ((i, Value.long x) :: (lvs G 0 lo).filter (fun q => !(q.1 == i) && (!(q.1 == i + 1) && !(q.1 + 1 == i && q.2.category == 2))))) : lv_has ls n (lvs G 0 ((lo.set i (some (.long x))).set (i + 1) none)) := by
  refine ⟨h.1, h.2.1, fun q hq => h.2.2 q ?_⟩
  obtain ⟨j, w, hj, rfl⟩ := lvs_inv _ 0 q hq
  rw [Nat.zero_add]
  by_cases e1 : i + 1 = j
  · subst e1
    rw [List.getElem?_set] at hj
    split at hj <;> first | (split at hj <;> simp at hj) | (simp at *)
  rw [List.getElem?_set_ne e1] at hj
  by_cases e : i = j
  · subst e
    rw [List.getElem?_set] at hj
    by_cases hl : i < lo.length
    · simp only [if_true, if_pos hl] at hj
      cases hj
      exact List.mem_cons_self
    · simp only [if_true, if_neg hl] at hj
      cases hj
  · rw [List.getElem?_set_ne e] at hj
    refine List.mem_cons_of_mem _ (List.mem_filter.mpr ⟨by simpa using lvs_mem (G := G) lo 0 j w hj, ?_⟩)
    have h1 : (j == i) = false := by simpa using fun q => e q.symm
    have h0 : (j == i + 1) = false := by simpa using fun q => e1 q.symm
    rw [cv_cat]
    simp only [h1, h0, Bool.not_false, Bool.true_and]
    by_cases h2 : j + 1 = i
    · subst h2
      simp only [xok1, hj] at hok
      cases w <;> first | (simp [Value.category]; done) | (simp at hok)
    · simp [h2]
theorem x_lstore_n {i : Fin 4} {x : Int64} {lo' : List (Option Value)} (hd : decode mt.2.1 pc = .ok (.lstore_n i, 1)) (hi : (i : Nat) + 1 < mt.2.2.1) (hok : xok1 lo i = true) (hs : (lo.set i (some (.long x))).set ((i : Nat) + 1) none = lo') (k : Xe S G K l mt d (pc + 1) lo' st M c) : Xe S G K l mt d pc lo (.long x :: st) M c := by
  subst hs
  exact x_loc (fun h _ _ _ _ ls _ h3 w => lv_lstore_n h.1 h.2.1 hd rfl h3 hi rfl (fun ls' h4 => w ls' (xset2 hok h4))) k
theorem x_lstore {i : Nat} {x : Int64} {lo' : List (Option Value)} (hd : decode mt.2.1 pc = .ok (.lstore i, 2)) (hi : i + 1 < mt.2.2.1) (hok : xok1 lo i = true) (hs : (lo.set i (some (.long x))).set (i + 1) none = lo') (k : Xe S G K l mt d (pc + 2) lo' st M c) : Xe S G K l mt d pc lo (.long x :: st) M c := by
  subst hs
  exact x_loc (fun h _ _ _ _ ls _ h3 w => lv_lstore h.1 h.2.1 hd h3 hi rfl (fun ls' h4 => w ls' (xset2 hok h4))) k
/-- one word -/
def xc1 (v : Value) : Prop := v.category = 1
theorem xc1_i (x : Int32) : xc1 (.int x) := rfl
theorem xc1_r (r : Option Nat) : xc1 (va_rf r) := by cases r <;> rfl
theorem x_dup {v : Value} (hd : decode mt.2.1 pc = .ok (.dup, 1)) (hv : xc1 v) (k : Xe S G K l mt d (pc + 1) lo (v :: v :: st) M c) : Xe S G K l mt d pc lo (v :: st) M c :=
  x_pure (fun h _ _ _ _ _ _ w => lv_dup h.1 h.2.1 hd ((cv_cat v).trans hv) w) k
theorem x_pop {v : Value} (hd : decode mt.2.1 pc = .ok (.pop, 1)) (hv : xc1 v) (k : Xe S G K l mt d (pc + 1) lo st M c) : Xe S G K l mt d pc lo (v :: st) M c :=
  x_pure (fun h _ _ _ _ _ _ w => lv_pop h.1 h.2.1 hd ((cv_cat v).trans hv) w) k
theorem x_dup_x1 {va vb : Value} (hd : decode mt.2.1 pc = .ok (.dup_x1, 1)) (hva : xc1 va) (hvb : xc1 vb) (k : Xe S G K l mt d (pc + 1) lo (va :: vb :: va :: st) M c) : Xe S G K l mt d pc lo (va :: vb :: st) M c :=
  x_pure (fun h _ _ _ _ _ _ w => lv_dup_x1 h.1 h.2.1 hd ((cv_cat va).trans hva) ((cv_cat vb).trans hvb) w) k
theorem x_dup2 {va vb : Value} (hd : decode mt.2.1 pc = .ok (.dup2, 1)) (hva : xc1 va) (hvb : xc1 vb) (k : Xe S G K l mt d (pc + 1) lo (va :: vb :: va :: vb :: st) M c) : Xe S G K l mt d pc lo (va :: vb :: st) M c :=
  x_pure (fun h _ _ _ _ _ _ w => lv_dup2_11 h.1 h.2.1 hd ((cv_cat va).trans hva) ((cv_cat vb).trans hvb) w) k
theorem x_goto {off : Int} {tgt : Nat} (hd : decode mt.2.1 pc = .ok (.goto off, 3)) (ht : (pc : Int) + off = (tgt : Int)) (k : Xe S G K l mt d tgt lo st M c) : Xe S G K l mt d pc lo st M c :=
  x_pure (fun h _ _ _ _ _ _ w => lv_goto h.1 h.2.1 hd ht w) k
end XR
