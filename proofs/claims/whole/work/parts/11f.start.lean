def xPC : List Cond := flatC (Jvm.Cond.and given_1 narrow_1)
theorem xpre {args : Array Value} {s : State} (h : (Jvm.Cond.and given_1 narrow_1).before args s = true) (k : Nat) {w : Cond} (hk : xPC[k]? = some w) : w.before args s = true := flat_of_before _ h _ (List.mem_of_getElem? hk)
def xins : List Int32 := [0, -2, -2, -2, 9, -2, 33, 32, 34, -2, 11, 10, 13, 12, 12, 16, 15, 18, 17, 20, 19, 30, 30, -2, 31, -2, -2, -2, 9, 9]
theorem xins_at : ∀ j, j < 30 → xPC[16 + j]? = some (.eq (.elem (.static "TestHouse" "INSTEAD" "[I") (.int (Int32.ofNat j))) (.int (xins.getD j 0))) := by decide +kernel
def xstx : List (Nat × Nat × Nat × Nat × Nat × Nat) := [(48, 49, 50, 51, 52, 143), (195, 196, 197, 198, 199, 16), (215, 216, 217, 218, 219, 4), (223, 224, 225, 226, 227, 3), (230, 231, 232, 233, 234, 5), (239, 240, 241, 242, 243, 3), (246, 247, 248, 249, 250, 6), (256, 257, 258, 259, 260, 3), (263, 264, 265, 266, 267, 3), (270, 271, 272, 273, 274, 5), (279, 280, 281, 282, 283, 6), (289, 290, 291, 292, 293, 5), (298, 299, 300, 301, 302, 4), (306, 307, 308, 309, 310, 4), (314, 315, 316, 317, 318, 6), (324, 325, 326, 327, 328, 4), (332, 333, 334, 335, 336, 4), (340, 341, 342, 343, 344, 3), (347, 348, 349, 350, 351, 2), (353, 354, 355, 356, 357, 4), (361, 362, 363, 364, 365, 5), (370, 371, 372, 373, 374, 6), (380, 381, 382, 383, 384, 5), (389, 390, 391, 392, 393, 5), (398, 399, 400, 401, 402, 3), (405, 406, 407, 408, 409, 5), (414, 415, 416, 417, 418, 4), (422, 423, 424, 425, 426, 3), (429, 430, 431, 432, 433, 2), (435, 436, 437, 438, 439, 3)]
/-- what the premises say of the text constants, by their places -/
def xstB (q : String × Nat × String × List Int32) (r : Nat × Nat × Nat × Nat × Nat × Nat) : Bool :=
  decide (xPC[r.1]? = some (.exactly (.string q.1 q.2.1) "java/lang/String")) && decide (xPC[r.2.1]? = some (.eq (.field (.string q.1 q.2.1) "java/lang/String" "coder" "B") (.int 0))) && decide (xPC[r.2.2.1]? = some (.arrayOf (.field (.string q.1 q.2.1) "java/lang/String" "value" "[B") .byte)) &&
  decide (xPC[r.2.2.2.1]? = some (.eq (.length (.field (.string q.1 q.2.1) "java/lang/String" "value" "[B")) (.int (Int32.ofNat r.2.2.2.2.2)))) && decide (r.2.2.2.2.2 = q.2.2.2.length) && decide (r.2.2.2.2.2 < 2 ^ 31) &&
  (List.range r.2.2.2.2.2).all (fun j => decide (xPC[r.2.2.2.2.1 + j]? = some (.eq (.elem (.field (.string q.1 q.2.1) "java/lang/String" "value" "[B") (.int (Int32.ofNat j))) (.int (q.2.2.2.getD j 0)))))
theorem xst0 : xstB (xstr.getD 0 ("", 0, "", [])) (xstx.getD 0 (0, 0, 0, 0, 0, 0)) = true := by decide +kernel
theorem xst1 : xstB (xstr.getD 1 ("", 0, "", [])) (xstx.getD 1 (0, 0, 0, 0, 0, 0)) = true := by decide +kernel
theorem xst2 : xstB (xstr.getD 2 ("", 0, "", [])) (xstx.getD 2 (0, 0, 0, 0, 0, 0)) = true := by decide +kernel
theorem xst3 : xstB (xstr.getD 3 ("", 0, "", [])) (xstx.getD 3 (0, 0, 0, 0, 0, 0)) = true := by decide +kernel
theorem xst4 : xstB (xstr.getD 4 ("", 0, "", [])) (xstx.getD 4 (0, 0, 0, 0, 0, 0)) = true := by decide +kernel
theorem xst5 : xstB (xstr.getD 5 ("", 0, "", [])) (xstx.getD 5 (0, 0, 0, 0, 0, 0)) = true := by decide +kernel
theorem xst6 : xstB (xstr.getD 6 ("", 0, "", [])) (xstx.getD 6 (0, 0, 0, 0, 0, 0)) = true := by decide +kernel
theorem xst7 : xstB (xstr.getD 7 ("", 0, "", [])) (xstx.getD 7 (0, 0, 0, 0, 0, 0)) = true := by decide +kernel
theorem xst8 : xstB (xstr.getD 8 ("", 0, "", [])) (xstx.getD 8 (0, 0, 0, 0, 0, 0)) = true := by decide +kernel
theorem xst9 : xstB (xstr.getD 9 ("", 0, "", [])) (xstx.getD 9 (0, 0, 0, 0, 0, 0)) = true := by decide +kernel
theorem xst10 : xstB (xstr.getD 10 ("", 0, "", [])) (xstx.getD 10 (0, 0, 0, 0, 0, 0)) = true := by decide +kernel
theorem xst11 : xstB (xstr.getD 11 ("", 0, "", [])) (xstx.getD 11 (0, 0, 0, 0, 0, 0)) = true := by decide +kernel
theorem xst12 : xstB (xstr.getD 12 ("", 0, "", [])) (xstx.getD 12 (0, 0, 0, 0, 0, 0)) = true := by decide +kernel
theorem xst13 : xstB (xstr.getD 13 ("", 0, "", [])) (xstx.getD 13 (0, 0, 0, 0, 0, 0)) = true := by decide +kernel
theorem xst14 : xstB (xstr.getD 14 ("", 0, "", [])) (xstx.getD 14 (0, 0, 0, 0, 0, 0)) = true := by decide +kernel
theorem xst15 : xstB (xstr.getD 15 ("", 0, "", [])) (xstx.getD 15 (0, 0, 0, 0, 0, 0)) = true := by decide +kernel
theorem xst16 : xstB (xstr.getD 16 ("", 0, "", [])) (xstx.getD 16 (0, 0, 0, 0, 0, 0)) = true := by decide +kernel
theorem xst17 : xstB (xstr.getD 17 ("", 0, "", [])) (xstx.getD 17 (0, 0, 0, 0, 0, 0)) = true := by decide +kernel
theorem xst18 : xstB (xstr.getD 18 ("", 0, "", [])) (xstx.getD 18 (0, 0, 0, 0, 0, 0)) = true := by decide +kernel
theorem xst19 : xstB (xstr.getD 19 ("", 0, "", [])) (xstx.getD 19 (0, 0, 0, 0, 0, 0)) = true := by decide +kernel
theorem xst20 : xstB (xstr.getD 20 ("", 0, "", [])) (xstx.getD 20 (0, 0, 0, 0, 0, 0)) = true := by decide +kernel
theorem xst21 : xstB (xstr.getD 21 ("", 0, "", [])) (xstx.getD 21 (0, 0, 0, 0, 0, 0)) = true := by decide +kernel
theorem xst22 : xstB (xstr.getD 22 ("", 0, "", [])) (xstx.getD 22 (0, 0, 0, 0, 0, 0)) = true := by decide +kernel
theorem xst23 : xstB (xstr.getD 23 ("", 0, "", [])) (xstx.getD 23 (0, 0, 0, 0, 0, 0)) = true := by decide +kernel
theorem xst24 : xstB (xstr.getD 24 ("", 0, "", [])) (xstx.getD 24 (0, 0, 0, 0, 0, 0)) = true := by decide +kernel
theorem xst25 : xstB (xstr.getD 25 ("", 0, "", [])) (xstx.getD 25 (0, 0, 0, 0, 0, 0)) = true := by decide +kernel
theorem xst26 : xstB (xstr.getD 26 ("", 0, "", [])) (xstx.getD 26 (0, 0, 0, 0, 0, 0)) = true := by decide +kernel
theorem xst27 : xstB (xstr.getD 27 ("", 0, "", [])) (xstx.getD 27 (0, 0, 0, 0, 0, 0)) = true := by decide +kernel
theorem xst28 : xstB (xstr.getD 28 ("", 0, "", [])) (xstx.getD 28 (0, 0, 0, 0, 0, 0)) = true := by decide +kernel
theorem xst29 : xstB (xstr.getD 29 ("", 0, "", [])) (xstx.getD 29 (0, 0, 0, 0, 0, 0)) = true := by decide +kernel
theorem xst_all (n : Nat) (h : n < 30) : xstB (xstr.getD n ("", 0, "", [])) (xstx.getD n (0, 0, 0, 0, 0, 0)) = true := by
  match n, h with
  | 0, _ => exact xst0
  | 1, _ => exact xst1
  | 2, _ => exact xst2
  | 3, _ => exact xst3
  | 4, _ => exact xst4
  | 5, _ => exact xst5
  | 6, _ => exact xst6
  | 7, _ => exact xst7
  | 8, _ => exact xst8
  | 9, _ => exact xst9
  | 10, _ => exact xst10
  | 11, _ => exact xst11
  | 12, _ => exact xst12
  | 13, _ => exact xst13
  | 14, _ => exact xst14
  | 15, _ => exact xst15
  | 16, _ => exact xst16
  | 17, _ => exact xst17
  | 18, _ => exact xst18
  | 19, _ => exact xst19
  | 20, _ => exact xst20
  | 21, _ => exact xst21
  | 22, _ => exact xst22
  | 23, _ => exact xst23
  | 24, _ => exact xst24
  | 25, _ => exact xst25
  | 26, _ => exact xst26
  | 27, _ => exact xst27
  | 28, _ => exact xst28
  | 29, _ => exact xst29
  | n + 30, h => omega
theorem xsr0 : lw_tbl[218]? = some (.stringRef "TestHouse$Scanner" 29 "unit own const var shared row start fun before after test skip raises with prop let if else while return check raise try catch draw and or not ") := by decide +kernel
theorem xsr1 : lw_tbl[706]? = some (.stringRef "TestHouse$Scanner" 71 "{}()[],;.=+-*/%<") := by decide +kernel
theorem xsr2 : lw_tbl[1802]? = some (.stringRef "TestHouseModel" 113 "unit") := by decide +kernel
theorem xsr3 : lw_tbl[1808]? = some (.stringRef "TestHouseModel" 119 "own") := by decide +kernel
theorem xsr4 : lw_tbl[1809]? = some (.stringRef "TestHouseModel" 121 "const") := by decide +kernel
theorem xsr5 : lw_tbl[1810]? = some (.stringRef "TestHouseModel" 123 "var") := by decide +kernel
theorem xsr6 : lw_tbl[1811]? = some (.stringRef "TestHouseModel" 125 "shared") := by decide +kernel
theorem xsr7 : lw_tbl[1812]? = some (.stringRef "TestHouseModel" 127 "row") := by decide +kernel
theorem xsr8 : lw_tbl[1813]? = some (.stringRef "TestHouseModel" 129 "fun") := by decide +kernel
theorem xsr9 : lw_tbl[1814]? = some (.stringRef "TestHouseModel" 131 "start") := by decide +kernel
theorem xsr10 : lw_tbl[1815]? = some (.stringRef "TestHouseModel" 133 "before") := by decide +kernel
theorem xsr11 : lw_tbl[1816]? = some (.stringRef "TestHouseModel" 135 "after") := by decide +kernel
theorem xsr12 : lw_tbl[1817]? = some (.stringRef "TestHouseModel" 137 "test") := by decide +kernel
theorem xsr13 : lw_tbl[1818]? = some (.stringRef "TestHouseModel" 139 "skip") := by decide +kernel
theorem xsr14 : lw_tbl[1819]? = some (.stringRef "TestHouseModel" 141 "raises") := by decide +kernel
theorem xsr15 : lw_tbl[1820]? = some (.stringRef "TestHouseModel" 143 "with") := by decide +kernel
theorem xsr16 : lw_tbl[1821]? = some (.stringRef "TestHouseModel" 145 "prop") := by decide +kernel
theorem xsr17 : lw_tbl[1822]? = some (.stringRef "TestHouseModel" 147 "let") := by decide +kernel
theorem xsr18 : lw_tbl[1823]? = some (.stringRef "TestHouseModel" 149 "if") := by decide +kernel
theorem xsr19 : lw_tbl[1824]? = some (.stringRef "TestHouseModel" 151 "else") := by decide +kernel
theorem xsr20 : lw_tbl[1825]? = some (.stringRef "TestHouseModel" 153 "while") := by decide +kernel
theorem xsr21 : lw_tbl[1826]? = some (.stringRef "TestHouseModel" 155 "return") := by decide +kernel
theorem xsr22 : lw_tbl[1827]? = some (.stringRef "TestHouseModel" 157 "check") := by decide +kernel
theorem xsr23 : lw_tbl[1828]? = some (.stringRef "TestHouseModel" 159 "raise") := by decide +kernel
theorem xsr24 : lw_tbl[1829]? = some (.stringRef "TestHouseModel" 161 "try") := by decide +kernel
theorem xsr25 : lw_tbl[1830]? = some (.stringRef "TestHouseModel" 163 "catch") := by decide +kernel
theorem xsr26 : lw_tbl[1831]? = some (.stringRef "TestHouseModel" 165 "draw") := by decide +kernel
theorem xsr27 : lw_tbl[1832]? = some (.stringRef "TestHouseModel" 167 "and") := by decide +kernel
theorem xsr28 : lw_tbl[1833]? = some (.stringRef "TestHouseModel" 169 "or") := by decide +kernel
theorem xsr29 : lw_tbl[1834]? = some (.stringRef "TestHouseModel" 171 "not") := by decide +kernel
theorem xsr_all (n : Nat) (h : n < 30) : Cond.stringRef (xstr.getD n ("", 0, "", [])).1 (xstr.getD n ("", 0, "", [])).2.1 (xstr.getD n ("", 0, "", [])).2.2.1 ∈ lw_tbl := by
  match n, h with
  | 0, _ => exact List.mem_of_getElem? xsr0
  | 1, _ => exact List.mem_of_getElem? xsr1
  | 2, _ => exact List.mem_of_getElem? xsr2
  | 3, _ => exact List.mem_of_getElem? xsr3
  | 4, _ => exact List.mem_of_getElem? xsr4
  | 5, _ => exact List.mem_of_getElem? xsr5
  | 6, _ => exact List.mem_of_getElem? xsr6
  | 7, _ => exact List.mem_of_getElem? xsr7
  | 8, _ => exact List.mem_of_getElem? xsr8
  | 9, _ => exact List.mem_of_getElem? xsr9
  | 10, _ => exact List.mem_of_getElem? xsr10
  | 11, _ => exact List.mem_of_getElem? xsr11
  | 12, _ => exact List.mem_of_getElem? xsr12
  | 13, _ => exact List.mem_of_getElem? xsr13
  | 14, _ => exact List.mem_of_getElem? xsr14
  | 15, _ => exact List.mem_of_getElem? xsr15
  | 16, _ => exact List.mem_of_getElem? xsr16
  | 17, _ => exact List.mem_of_getElem? xsr17
  | 18, _ => exact List.mem_of_getElem? xsr18
  | 19, _ => exact List.mem_of_getElem? xsr19
  | 20, _ => exact List.mem_of_getElem? xsr20
  | 21, _ => exact List.mem_of_getElem? xsr21
  | 22, _ => exact List.mem_of_getElem? xsr22
  | 23, _ => exact List.mem_of_getElem? xsr23
  | 24, _ => exact List.mem_of_getElem? xsr24
  | 25, _ => exact List.mem_of_getElem? xsr25
  | 26, _ => exact List.mem_of_getElem? xsr26
  | 27, _ => exact List.mem_of_getElem? xsr27
  | 28, _ => exact List.mem_of_getElem? xsr28
  | 29, _ => exact List.mem_of_getElem? xsr29
  | n + 30, h => omega
theorem xls_ins : Cond.laysStatic "TestHouse" "INSTEAD" "[I" ∈ lw_tbl := List.mem_of_getElem? (i := 1166) (by decide +kernel)
theorem xin_ins : Cond.initialized "TestHouse" ∈ lw_tbl := List.mem_of_getElem? (i := 170) (by decide +kernel)
theorem xls_it : Cond.laysStatic "TestHouseModel" "IT" "J" ∈ lw_tbl := List.mem_of_getElem? (i := 2482) (by decide +kernel)
theorem xin_it : Cond.initialized "TestHouseModel" ∈ lw_tbl := List.mem_of_getElem? (i := 184) (by decide +kernel)
theorem xls_emp : Cond.laysStatic "java/util/ArrayList" "DEFAULTCAPACITY_EMPTY_ELEMENTDATA" "[Ljava/lang/Object;" ∈ lw_tbl := List.mem_of_getElem? (i := 390) (by decide +kernel)
theorem xin_emp : Cond.initialized "java/util/ArrayList" ∈ lw_tbl := List.mem_of_getElem? (i := 179) (by decide +kernel)
theorem xls_com : Cond.laysStatic "java/lang/String" "COMPACT_STRINGS" "Z" ∈ lw_tbl := List.mem_of_getElem? (i := 228) (by decide +kernel)
theorem xin_com : Cond.initialized "java/lang/String" ∈ lw_tbl := List.mem_of_getElem? (i := 173) (by decide +kernel)
theorem xls_sio : Cond.laysStatic "jdk/internal/util/Preconditions" "SIOOBE_FORMATTER" "Ljava/util/function/BiFunction;" ∈ lw_tbl := List.mem_of_getElem? (i := 244) (by decide +kernel)
theorem xin_sio : Cond.initialized "jdk/internal/util/Preconditions" ∈ lw_tbl := List.mem_of_getElem? (i := 175) (by decide +kernel)
theorem xp_insA : xPC[14]? = some (.arrayOf (.static "TestHouse" "INSTEAD" "[I") .int) := by decide +kernel
theorem xp_insL : xPC[15]? = some (.eq (.length (.static "TestHouse" "INSTEAD" "[I")) (.int 30)) := by decide +kernel
theorem xp_empA : xPC[10]? = some (.arrayOf (.static "java/util/ArrayList" "DEFAULTCAPACITY_EMPTY_ELEMENTDATA" "[Ljava/lang/Object;") (.object "java/lang/Object")) := by decide +kernel
theorem xp_empL : xPC[12]? = some (.eq (.length (.static "java/util/ArrayList" "DEFAULTCAPACITY_EMPTY_ELEMENTDATA" "[Ljava/lang/Object;")) (.int 0)) := by decide +kernel
theorem xp_it : xPC[46]? = some (.eq (.static "TestHouseModel" "IT" "J") (.long 26996)) := by decide +kernel
theorem xp_com : xPC[4]? = some (.eq (.static "java/lang/String" "COMPACT_STRINGS" "Z") (.int 1)) := by decide +kernel
theorem xp_sio : xPC[5]? = some (.isRef (.static "jdk/internal/util/Preconditions" "SIOOBE_FORMATTER" "Ljava/util/function/BiFunction;")) := by decide +kernel
theorem xp_mir : xPC[47]? = some (.isRef (.mirror "[Ljava/lang/Object;")) := by decide +kernel
theorem xdecl : Cond.declares ⟨"java/lang/Object", "getClass", "()Ljava/lang/Class;"⟩ ∈ lw_tbl := List.mem_of_getElem? (i := 2830) (by decide +kernel)
theorem xwo_110 : Cond.arrayOver (.object "java/lang/Object") ∈ lw_tbl := List.mem_of_getElem? (i := 913) (by decide +kernel)
theorem xwo_111 : Cond.arrayOver (.object "TestHouse$Parcel") ∈ lw_tbl := List.mem_of_getElem? (i := 442) (by decide +kernel)
theorem xwo_112 : Cond.arrayOver (.object "TestHouse$Twin") ∈ lw_tbl := List.mem_of_getElem? (i := 440) (by decide +kernel)
theorem xwo_113 : Cond.arrayOver (.array .int) ∈ lw_tbl := List.mem_of_getElem? (i := 300) (by decide +kernel)
theorem xwo_114 : Cond.arrayOver (.array .long) ∈ lw_tbl := List.mem_of_getElem? (i := 302) (by decide +kernel)
theorem xwo_cl : Cond.castable "[I" "java/lang/Cloneable" ∈ lw_tbl := List.mem_of_getElem? (i := 1160) (by decide +kernel)
theorem xwc_Jx4a65c : Cond.castable "java/util/ArrayList" "java/lang/Object" ∈ lw_tbl := List.mem_of_getElem? (i := 2818) (by decide +kernel)
theorem xwc_X0 : Cond.castable "TestHouse$Build" "java/lang/Object" ∈ lw_tbl := List.mem_of_getElem? (i := 2826) (by decide +kernel)
theorem xwc_X1 : Cond.castable "TestHouse$History" "java/lang/Object" ∈ lw_tbl := List.mem_of_getElem? (i := 2825) (by decide +kernel)
theorem xwc_X2 : Cond.castable "TestHouse$Luck" "java/lang/Object" ∈ lw_tbl := List.mem_of_getElem? (i := 2821) (by decide +kernel)
theorem xwc_X3 : Cond.castable "TestHouse$Machine" "java/lang/Object" ∈ lw_tbl := List.mem_of_getElem? (i := 2819) (by decide +kernel)
theorem xwc_X4 : Cond.castable "TestHouse$Outcome" "java/lang/Object" ∈ lw_tbl := List.mem_of_getElem? (i := 2820) (by decide +kernel)
theorem xwc_X5 : Cond.castable "TestHouse$Parcel" "java/lang/Object" ∈ lw_tbl := List.mem_of_getElem? (i := 2814) (by decide +kernel)
theorem xwc_X6 : Cond.castable "TestHouse$Parser" "java/lang/Object" ∈ lw_tbl := List.mem_of_getElem? (i := 2816) (by decide +kernel)
theorem xwc_X7 : Cond.castable "TestHouse$Part" "java/lang/Object" ∈ lw_tbl := List.mem_of_getElem? (i := 2824) (by decide +kernel)
theorem xwc_X8 : Cond.castable "TestHouse$Scanner" "java/lang/Object" ∈ lw_tbl := List.mem_of_getElem? (i := 2817) (by decide +kernel)
theorem xwc_X9 : Cond.castable "TestHouse$Twin" "java/lang/Object" ∈ lw_tbl := List.mem_of_getElem? (i := 2813) (by decide +kernel)
theorem xwc_X10 : Cond.castable "TestHouse$Unit" "java/lang/Object" ∈ lw_tbl := List.mem_of_getElem? (i := 2823) (by decide +kernel)
theorem xwc_X11 : Cond.castable "TestHouse" "java/lang/Object" ∈ lw_tbl := List.mem_of_getElem? (i := 2815) (by decide +kernel)
theorem xwc_X12 : Cond.castable "TestHouseModel" "java/lang/Object" ∈ lw_tbl := List.mem_of_getElem? (i := 2822) (by decide +kernel)
theorem xwn_0 : (.methodLinkNest "TestHouse" 11 ⟨"TestHouse$Parser", "<init>", "()V"⟩ "TestHouse" : Cond) ∈ lw_tbl := List.mem_of_getElem? (i := 208) (by decide +kernel)
theorem xwn_1 : (.methodLinkNest "TestHouse" 38 ⟨"TestHouse$Outcome", "<init>", "()V"⟩ "TestHouse" : Cond) ∈ lw_tbl := List.mem_of_getElem? (i := 560) (by decide +kernel)
theorem xwn_2 : (.methodLinkNest "TestHouse" 45 ⟨"TestHouse$Luck", "<init>", "()V"⟩ "TestHouse" : Cond) ∈ lw_tbl := List.mem_of_getElem? (i := 563) (by decide +kernel)
theorem xwn_3 : (.methodLinkNest "TestHouse$Machine" 11 ⟨"TestHouse$Outcome", "<init>", "()V"⟩ "TestHouse" : Cond) ∈ lw_tbl := List.mem_of_getElem? (i := 411) (by decide +kernel)
theorem xwn_4 : (.methodLinkNest "TestHouse$Machine" 52 ⟨"TestHouse$Twin", "<init>", "()V"⟩ "TestHouse" : Cond) ∈ lw_tbl := List.mem_of_getElem? (i := 445) (by decide +kernel)
theorem xwn_5 : (.methodLinkNest "TestHouse$Machine" 259 ⟨"TestHouse", "partAt", "(Ljava/util/ArrayList;I)LTestHouse$Part;"⟩ "TestHouse" : Cond) ∈ lw_tbl := List.mem_of_getElem? (i := 1395) (by decide +kernel)
theorem xwn_6 : (.fieldLinkNest "TestHouse$Machine" 222 "TestHouse" "INSTEAD" "[I" "TestHouse" : Cond) ∈ lw_tbl := List.mem_of_getElem? (i := 1382) (by decide +kernel)
theorem xwn_7 : (.fieldLinkNest "TestHouse$Parcel" 97 "TestHouse" "INSTEAD" "[I" "TestHouse" : Cond) ∈ lw_tbl := List.mem_of_getElem? (i := 1165) (by decide +kernel)
abbrev xstd : String × Nat × String × List Int32 := ("", 0, "", [])
def xlen (L a : Nat) : Nat := if a = 0 then L else if a = 1 then 30 else if 33 ≤ a ∧ a < 63 then (xstr.getD (a - 33) xstd).2.2.2.length else 0
/-- the memory as the law finds it, with a script of L numbers xs -/
def Minit (L : Nat) (xs : Nat → Int32) : Mem := (fun a j => if a = 0 then xs j else if a = 1 then xins.getD j 0 else if 33 ≤ a ∧ a < 63 then (xstr.getD (a - 33) xstd).2.2.2.getD j 0 else 0, fun _ _ => 0, fun _ _ => none, (200, L) :: (200, 30) :: (210, 0) :: (List.replicate 30 (220, 0) ++ (xstr.map (fun q => (201, q.2.2.2.length)) ++ [(220, 0)])))
theorem Minit_tl : ∀ a, a < 63 → ((200, 30) :: (210, 0) :: (List.replicate 30 (220, 0) ++ (xstr.map (fun q => (201, q.2.2.2.length)) ++ [(220, 0)])))[a]? = some (xot (a + 1), xlen 0 (a + 1)) := by decide +kernel
theorem Minit_len (L : Nat) (xs : Nat → Int32) : (Minit L xs).2.2.2.length = 64 := rfl
theorem Minit_k {L : Nat} {xs : Nat → Int32} {a : Nat} (h : a < 64) : (Minit L xs).2.2.2[a]? = some (xot a, xlen L a) := by
  cases a with
  | zero => rfl
  | succ a =>
    show ((200, 30) :: (210, 0) :: (List.replicate 30 (220, 0) ++ (xstr.map (fun q => (201, q.2.2.2.length)) ++ [(220, 0)])))[a]? = _
    rw [Minit_tl a (by omega)]
    congr 2
theorem xac_of {s : State} {ft : FieldType} {args : Array Value} (h : (Cond.arrayClass ft).before args s = true) (hn : ∀ cA, s.vm.findClass ("[" ++ ft.toString) = some cA → va_RA s cA ft) : ∃ cA, ArrOfT s cA ft ∧ va_RA s cA ft := by
  obtain ⟨cA, kA, comp, h1, h2, h3⟩ := Cond.arrayClass_spec h
  exact ⟨cA, fun n z => ⟨(fun q hq => by cases hq), kA, h2, comp, h3⟩, hn cA h1⟩
theorem xao_of {s : State} {C : String} {args : Array Value} (h : (Cond.arrayOver (.object C)).before args s = true) : ∃ cA, ArrOfT s cA (.object C) ∧ va_RA s cA (.object C) := by
  obtain ⟨comp, cA, kA, h1, h2, h3, h4, h5⟩ := Cond.arrayOver_spec h
  exact ⟨cA, fun n z => ⟨(fun q hq => by cases hq), kA, h3, comp, h4⟩, kA, comp, h3, h4, h1, h5⟩
theorem xaa_of {s : State} {ft : FieldType} {args : Array Value} (h : (Cond.arrayOver (.array ft)).before args s = true) : ∃ cA, ArrOfT s cA (.array ft) ∧ va_RA s cA (.array ft) := by
  obtain ⟨comp, cA, kA, h1, h3, h4, h5⟩ := Cond.arrayOver_specA h
  exact ⟨cA, fun n z => ⟨(fun q hq => by cases hq), kA, h3, comp, h4⟩, h5⟩
def xtl : List (Nat × FieldType) := [(100, .int), (101, .byte), (102, .boolean), (103, .short), (104, .long), (110, .object "java/lang/Object"), (111, .object "TestHouse$Parcel"), (112, .object "TestHouse$Twin"), (113, .array .int), (114, .array .long)]
theorem xtl_ok {s : State} {args : Array Value} (hts : ∀ w ∈ lw_tbl, w.before args s = true) (hxb : ∀ w ∈ xbig, w.before args s = true) (q : Nat × FieldType) (hq : q ∈ xtl) : ∃ cA, ArrOfT s cA q.2 ∧ va_RA s cA q.2 := by
  simp only [xtl, List.mem_cons, List.not_mem_nil, or_false] at hq
  rcases hq with rfl | rfl | rfl | rfl | rfl | rfl | rfl | rfl | rfl | rfl
  · exact xac_of (hxb _ xac100) (fun _ h => h)
  · exact xac_of (hxb _ xac101) (fun _ h => h)
  · exact xac_of (hxb _ xac102) (fun _ h => h)
  · exact xac_of (hxb _ xac103) (fun _ h => h)
  · exact xac_of (hxb _ xac104) (fun _ h => h)
  · exact xao_of (hts _ xwo_110)
  · exact xao_of (hts _ xwo_111)
  · exact xao_of (hts _ xwo_112)
  · exact xaa_of (hts _ xwo_113)
  · exact xaa_of (hts _ xwo_114)
theorem xtl_inj : ∀ (q q' : Nat × FieldType), q ∈ xtl → q' ∈ xtl → q.1 = q'.1 → q = q' := by
  intro q q' hq hq' h
  simp only [xtl, List.mem_cons, List.not_mem_nil, or_false] at hq hq'
  rcases hq with rfl | rfl | rfl | rfl | rfl | rfl | rfl | rfl | rfl | rfl <;> rcases hq' with rfl | rfl | rfl | rfl | rfl | rfl | rfl | rfl | rfl | rfl <;> first | rfl | (simp at h)
set_option maxHeartbeats 4000000 in
theorem x_start {s : State} {b L : Nat} {xs : Nat → Int32} (hL : L < 2 ^ 31) (hts : ∀ w ∈ lw_tbl, w.before #[Value.ref b] s = true) (hX : va_X b L xs s s.heap) (hbl : b < s.heap.size) (hgv : (Jvm.Cond.and given_1 narrow_1).before #[Value.ref b] s = true) :
    ∃ G : XG, G.2.2.2.1 = s.heap ∧ G.2.2.2.2 = s.heap.size ∧ xtr G 0 = b ∧ XE G s ∧ mW G (Minit L xs) s.heap := by
  have hA : ∀ a : Nat, a < s.heap.size → ¬ (fun q : Nat => s.heap.size ≤ q) a := fun a h => Nat.not_le.mpr h
  have hxb : ∀ w ∈ xbig, w.before #[Value.ref b] s = true := fun w hw => hts w (List.mem_filter.mp hw).1
  have hC : ∀ (k : Nat) (q : vw_C), vwCl[k]? = some q → ∃ z : ClassId × (Nat → Nat), u_Kn s q.1 q.2.1 q.2.2 z.1 z.2 := by
    intro k q hq
    match k, hq with
    | 0, hq => cases hq; obtain ⟨z1, z2, z3⟩ := u_known hxb xcw0 (hxb _ inst0); exact ⟨(z1, z2), z3⟩
    | 1, hq => cases hq; obtain ⟨z1, z2, z3⟩ := u_known hxb xcw1 (hxb _ inst1); exact ⟨(z1, z2), z3⟩
    | 2, hq => cases hq; obtain ⟨z1, z2, z3⟩ := u_known hxb xcw2 (hxb _ inst2); exact ⟨(z1, z2), z3⟩
    | 3, hq => cases hq; obtain ⟨z1, z2, z3⟩ := u_known hxb xcw3 (hxb _ inst3); exact ⟨(z1, z2), z3⟩
    | 4, hq => cases hq; obtain ⟨z1, z2, z3⟩ := u_known hxb xcw4 (hxb _ inst4); exact ⟨(z1, z2), z3⟩
    | 5, hq => cases hq; obtain ⟨z1, z2, z3⟩ := u_known hxb xcw5 (hxb _ inst5); exact ⟨(z1, z2), z3⟩
    | 6, hq => cases hq; obtain ⟨z1, z2, z3⟩ := u_known hxb xcw6 (hxb _ inst6); exact ⟨(z1, z2), z3⟩
    | 7, hq => cases hq; obtain ⟨z1, z2, z3⟩ := u_known hxb xcw7 (hxb _ inst7); exact ⟨(z1, z2), z3⟩
    | 8, hq => cases hq; obtain ⟨z1, z2, z3⟩ := u_known hxb xcw8 (hxb _ inst8); exact ⟨(z1, z2), z3⟩
    | 9, hq => cases hq; obtain ⟨z1, z2, z3⟩ := u_known hxb xcw9 (hxb _ inst9); exact ⟨(z1, z2), z3⟩
    | 10, hq => cases hq; obtain ⟨z1, z2, z3⟩ := u_known hxb xcw10 (hxb _ inst10); exact ⟨(z1, z2), z3⟩
    | 11, hq => cases hq; obtain ⟨z1, z2, z3⟩ := u_known hxb xcw11 (hxb _ inst11); exact ⟨(z1, z2), z3⟩
    | 12, hq => cases hq; obtain ⟨z1, z2, z3⟩ := u_known hxb xcw12 (hxb _ inst12); exact ⟨(z1, z2), z3⟩
    | 13, hq => cases hq; obtain ⟨z1, z2, z3⟩ := u_known hxb xcw13 (hxb _ inst13); exact ⟨(z1, z2), z3⟩
    | k + 14, hq => simp [vwCl] at hq
  have hC2 : ∀ k : Nat, ∃ z : ClassId × (Nat → Nat), ∀ q : vw_C, vwCl[k]? = some q → u_Kn s q.1 q.2.1 q.2.2 z.1 z.2 := by
    intro k
    cases h : vwCl[k]? with
    | none => exact ⟨(0, fun _ => 0), fun q hq => nomatch hq⟩
    | some q =>
      obtain ⟨z, hz⟩ := hC k q h
      exact ⟨z, fun q' hq => by cases hq; exact hz⟩
  obtain ⟨dz, hdz⟩ := Classical.axiomOfChoice hC2
  have hR : ∀ t : Nat, ∃ cA : ClassId, ∀ q ∈ xtl, q.1 = t → ArrOfT s cA q.2 ∧ va_RA s cA q.2 := by
    intro t
    by_cases h : ∃ q ∈ xtl, q.1 = t
    · obtain ⟨q, hq, e⟩ := h
      obtain ⟨cA, h1⟩ := xtl_ok hts hxb q hq
      exact ⟨cA, fun q' hq' e' => by rw [xtl_inj q' q hq' hq (e'.trans e.symm)]; exact h1⟩
    · exact ⟨0, fun q hq e => absurd ⟨q, hq, e⟩ h⟩
  obtain ⟨AC, hAC⟩ := Classical.axiomOfChoice hR
  obtain ⟨t1, ht1, hT1⟩ := va_Tof (ty := .int) (N := 30) (f := fun j => .int (xins.getD j 0)) (A := fun q : Nat => s.heap.size ≤ q) (by decide) (xpre hgv _ xp_insA) (va_eqt (xpre hgv _ xp_insL)) (fun j hj => va_eqt (xpre hgv _ (xins_at j hj))) hA
  obtain ⟨t2, ht2, hT2⟩ := va_Tof (ty := .object "java/lang/Object") (N := 0) (f := fun _ => .null) (A := fun q : Nat => s.heap.size ≤ q) (by decide) (xpre hgv _ xp_empA) (va_eqt (xpre hgv _ xp_empL)) (fun j hj => absurd hj (Nat.not_lt_zero j)) hA
  have hS : ∀ i : Nat, ∃ z : Nat × Nat, i < 30 → vk_R (xstr.getD i xstd).1 (xstr.getD i xstd).2.1 (xstr.getD i xstd).2.2.1 z.1 s ∧ va_O "java/lang/String" z.1 (fun q : Nat => s.heap.size ≤ q) s s.heap ∧ va_OF "java/lang/String" "coder" "B" (.int 0) z.1 (fun q : Nat => s.heap.size ≤ q) s s.heap ∧ va_OF "java/lang/String" "value" "[B" (.ref z.2) z.1 (fun q : Nat => s.heap.size ≤ q) s s.heap ∧ va_T .byte z.2 (xstr.getD i xstd).2.2.2.length (fun j => .int ((xstr.getD i xstd).2.2.2.getD j 0)) (fun q : Nat => s.heap.size ≤ q) s s.heap := by
    intro i
    by_cases hi : i < 30
    · have hB := xst_all i hi
      unfold xstB at hB
      simp only [Bool.and_eq_true, decide_eq_true_eq, List.all_eq_true, List.mem_range] at hB
      obtain ⟨⟨⟨⟨⟨⟨b1, b2⟩, b3⟩, b4⟩, b5⟩, b6⟩, b7⟩ := hB
      have hsr := hts _ (xsr_all i hi)
      generalize xstr.getD i xstd = q at b1 b2 b3 b4 b5 b6 b7 hsr ⊢
      generalize xstx.getD i (0, 0, 0, 0, 0, 0) = r at b1 b2 b3 b4 b5 b6 b7
      obtain ⟨a, c, cA, kA, q1, q2, q3, q4, q5, q6, -⟩ := Cond.exactly_spec (args := #[Value.ref b]) (first := s) (o := none) (s := s) (idx := []) (t := .string q.1 q.2.1) (cls := "java/lang/String") (xpre hgv _ b1)
      obtain ⟨t, ht, hT⟩ := va_Tof (f := fun j => .int (q.2.2.2.getD j 0)) (A := fun q : Nat => s.heap.size ≤ q) b6 (xpre hgv _ b3) (va_eqt (xpre hgv _ b4)) (fun j hj => va_eqt (xpre hgv _ (b7 j hj))) hA
      rw [b5] at hT
      exact ⟨(a, t), fun _ => ⟨vk_R.of hsr q1, ⟨cA, q3, q5, by rw [q6]; exact q2, hA a (Array.getElem?_eq_some_iff.mp q3).1⟩, vk_OFof q1 (va_eqt (xpre hgv _ b2)) hA, vk_OFof q1 ht hA, hT⟩⟩
    · exact ⟨(0, 0), fun h => absurd h hi⟩
  obtain ⟨ad, had⟩ := Classical.axiomOfChoice hS
  obtain ⟨mi, hmi⟩ := va_Mi.of (xpre hgv _ xp_mir)
  have hlt : ∀ {ty : FieldType} {t N : Nat} {f : Nat → Value}, va_T ty t N f (fun q : Nat => s.heap.size ≤ q) s s.heap → t < s.heap.size := fun h => by
    obtain ⟨cell, h1, -⟩ := h
    exact (Array.getElem?_eq_some_iff.mp h1).1
  let OL : Nat → Nat := fun k => if k = 0 then b else if k = 1 then t1 else if k = 2 then t2 else if k < 33 then (ad (k - 3)).1 else if k < 63 then (ad (k - 33)).2 else if k = 63 then mi else xlen L (k - 100)
  have hO3 : ∀ i, i < 30 → OL (3 + i) = (ad i).1 := fun i hi => by
    show (if 3 + i = 0 then _ else _) = _
    rw [if_neg (by omega), if_neg (by omega), if_neg (by omega), if_pos (by omega), show 3 + i - 3 = i by omega]
  have hO33 : ∀ i, i < 30 → OL (33 + i) = (ad i).2 := fun i hi => by
    show (if 33 + i = 0 then _ else _) = _
    rw [if_neg (by omega), if_neg (by omega), if_neg (by omega), if_neg (by omega), if_pos (by omega), show 33 + i - 33 = i by omega]
  have hO100 : ∀ a, OL (100 + a) = xlen L a := fun a => by
    show (if 100 + a = 0 then _ else _) = _
    rw [if_neg (by omega), if_neg (by omega), if_neg (by omega), if_neg (by omega), if_neg (by omega), if_neg (by omega), show 100 + a - 100 = a by omega]
  have hstr : ∀ (i : Nat) (q : String × Nat × String × List Int32), xstr[i]? = some q → i < 30 ∧ xstr.getD i xstd = q := fun i q hq => ⟨(List.getElem?_eq_some_iff.mp hq).1, by rw [List.getD_eq_getElem?_getD, hq]; rfl⟩
  have hxT : va_T .int b L (fun j => .int (xs j)) (fun q : Nat => s.heap.size ≤ q) s s.heap := by
    obtain ⟨scr, h1, h2, h3, h4, h5⟩ := hX
    exact ⟨scr, h1, h2, h3, by omega, by rw [h4], h5, hA b hbl⟩
  have hold : ∀ a, a < 64 → xot a ≠ 220 → va_T (xft (xot a)) (OL a) (xlen L a) (fun j => xv (((fun k => (dz k).1), fun k => (dz k).2), AC, OL, s.heap, s.heap.size) (Minit L xs) a (xot a) j) (fun q : Nat => s.heap.size ≤ q) s s.heap := by
    intro a ha hna
    rcases (show a = 0 ∨ a = 1 ∨ a = 2 ∨ (3 ≤ a ∧ a < 33) ∨ (33 ≤ a ∧ a < 63) ∨ a = 63 by omega) with rfl | rfl | rfl | h | h | rfl
    · exact hxT
    · exact hT1
    · obtain ⟨cell, z1, z2, z3, z4, z5, z6, z7⟩ := hT2
      exact ⟨cell, z1, z2, z3, z4, z5, fun j hj => absurd hj (Nat.not_lt_zero j), z7⟩
    · exact absurd (by unfold xot; rw [if_neg (by omega), if_neg (by omega), if_pos (by omega)]) hna
    · obtain ⟨i, rfl⟩ : ∃ i, a = 33 + i := ⟨a - 33, by omega⟩
      have e1 : xot (33 + i) = 201 := by unfold xot; rw [if_neg (by omega), if_neg (by omega), if_neg (by omega), if_pos (by omega)]
      have e2 : xlen L (33 + i) = (xstr.getD i xstd).2.2.2.length := by unfold xlen; rw [if_neg (by omega), if_neg (by omega), if_pos (by omega), show 33 + i - 33 = i by omega]
      rw [e1, e2, hO33 i (by omega)]
      have hT := (had i (by omega)).2.2.2.2
      obtain ⟨cell, z1, z2, z3, z4, z5, z6, z7⟩ := hT
      refine ⟨cell, z1, z2, z3, z4, z5, fun j hj => ?_, z7⟩
      rw [z6 j hj]
      show some (Value.int _) = some (xv _ _ _ _ _)
      rw [xv_I (show xkk 201 j = 0 from rfl)]
      show some (Value.int _) = some (Value.int (if 33 + i = 0 then _ else _))
      rw [if_neg (by omega), if_neg (by omega), if_pos (by omega), show 33 + i - 33 = i by omega]
    · exact absurd rfl hna
  refine ⟨(((fun k => (dz k).1), fun k => (dz k).2), AC, OL, s.heap, s.heap.size), rfl, rfl, rfl, ⟨⟨fun k q hq => hdz k q hq, fun k q hq => ?_⟩, ⟨⟨va_Zref (hts _ xls_ins) (hts _ xin_ins) ht1 hA, va_Zof (hts _ xls_it) (hts _ xin_it) (va_eql (xpre hgv _ xp_it)) hA, va_Zref (hts _ xls_emp) (hts _ xin_emp) ht2 hA, va_Zof (hts _ xls_com) (hts _ xin_com) (va_eqi (xpre hgv _ xp_com)) hA, ?_⟩, fun i q hq => ?_, hmi, ?_, ⟨⟨va_AO.of (hts _ xwo_110), va_AO.of (hts _ xwo_111), va_AO.of (hts _ xwo_112)⟩, fun C hC => ?_, va_Nw.of rfl (hts _ xwo_cl), Jvm.Stand.arrayOver_alikeB (Vm.Alike.refl s.vm) (hts _ xwo_113), Jvm.Stand.arrayOver_alikeB (Vm.Alike.refl s.vm) (hts _ xwo_114), fun w hw => ?_⟩, fun a ha hna => ?_⟩⟩, ⟨⟨by rw [Minit_len], by rw [Minit_len]; omega⟩, fun q _ => rfl, fun a t n ha => ?_, fun a t n ha => ?_⟩⟩
  · obtain ⟨q', h1, rfl⟩ : ∃ q' ∈ xtl, (AC q'.1, q'.2) = q := by
      have h9 : (xtl.map (fun q => (AC q.1, q.2)))[k]? = some q := hq
      obtain ⟨q', h1, h2⟩ := List.mem_map.mp (List.mem_of_getElem? h9)
      exact ⟨q', h1, h2⟩
    exact hAC q'.1 q' h1 rfl
  · rcases va_Zqof (hts _ xls_sio) (hts _ xin_sio) (xpre hgv _ xp_sio) hA with h | ⟨t, h⟩
    · exact ⟨_, h, rfl⟩
    · exact ⟨_, h, rfl⟩
  · obtain ⟨hi, e⟩ := hstr i q hq
    have h9 := had i hi
    rw [e] at h9
    show vk_R _ _ _ (OL (3 + i)) s ∧ va_O _ (OL (3 + i)) _ _ _ ∧ va_OF _ _ _ _ (OL (3 + i)) _ _ _ ∧ va_OF _ _ _ (.ref (OL (33 + i))) (OL (3 + i)) _ _ _
    rw [hO3 i hi, hO33 i hi]
    exact ⟨h9.1, h9.2.1, h9.2.2.1, h9.2.2.2.1⟩
  · exact va_Dc.of (hts _ xdecl)
  · simp only [xcas, List.mem_cons, List.not_mem_nil, or_false] at hC
    rcases hC with rfl | rfl | rfl | rfl | rfl | rfl | rfl | rfl | rfl | rfl | rfl | rfl | rfl | rfl
    · exact va_Nw.of rfl (hts _ xwc_Jx4a65c)
    · exact va_Nw.of rfl (hts _ xwc_X0)
    · exact va_Nw.of rfl (hts _ xwc_X1)
    · exact va_Nw.of rfl (hts _ xwc_X2)
    · exact va_Nw.of rfl (hts _ xwc_X3)
    · exact va_Nw.of rfl (hts _ xwc_X4)
    · exact va_Nw.of rfl (hts _ xwc_X5)
    · exact va_Nw.of rfl (hts _ xwc_X6)
    · exact va_Nw.of rfl (hts _ xwc_X7)
    · exact va_Nw.of rfl (hts _ xwc_X8)
    · exact va_Nw.of rfl (hts _ xwc_X9)
    · exact va_Nw.of rfl (hts _ xwc_X10)
    · exact va_Nw.of rfl (hts _ xwc_X11)
    · exact va_Nw.of rfl (hts _ xwc_X12)
  · simp only [xnest, List.mem_cons, List.not_mem_nil, or_false] at hw
    rcases hw with rfl | rfl | rfl | rfl | rfl | rfl | rfl | rfl
    · exact va_Nw.of rfl (hts _ xwn_0)
    · exact va_Nw.of rfl (hts _ xwn_1)
    · exact va_Nw.of rfl (hts _ xwn_2)
    · exact va_Nw.of rfl (hts _ xwn_3)
    · exact va_Nw.of rfl (hts _ xwn_4)
    · exact va_Nw.of rfl (hts _ xwn_5)
    · exact va_Nw.of rfl (hts _ xwn_6)
    · exact va_Nw.of rfl (hts _ xwn_7)
  · have h9 := hold a ha hna
    rw [← hO100] at h9
    exact ⟨_, h9⟩
  · have ha64 : a < 64 := by
      have := (List.getElem?_eq_some_iff.mp ha).1
      rw [Minit_len] at this
      exact this
    rw [Minit_k ha64] at ha
    cases ha
    have h200 := xot_le a
    refine ⟨fun h => by omega, fun _ h => by omega, fun _ hna => ?_⟩
    obtain ⟨cell, z1, z2, z3, z4, z5, z6, z7⟩ := hold a ha64 hna
    exact ⟨cell, by rw [xtr_old ha64]; exact z1, z6⟩
  · have ha64 : a < 64 := by
      have := (List.getElem?_eq_some_iff.mp ha).1
      rw [Minit_len] at this
      exact this
    rw [Minit_k ha64] at ha
    cases ha
    exact ⟨fun _ => ⟨rfl, fun hna => ⟨(hO100 a).symm, hlt (hold a ha64 hna)⟩⟩, fun h => by omega⟩
