def h0_2P : List Op := LQ183
def h0_2Q : List Op := LQ183
theorem h0_2 {L d : Nat} {xs : Nat → Int32} : runX (d + 1) 346 [va_rf (some 141)] (app (Minit L xs) h0_2P) = some (.int (iI (0)), app (Minit L xs) h0_2Q) := by
  rw [r346]; unfold b346; rw [aR_e, aZ_e]; unfold c346
  rw [gtI_c (0) (by decide +kernel) (by decide +kernel) (by decide) (by decide +kernel)]
  first | done | exact congrArg (fun z => some (_, app (Minit L xs) z)) (by decide +kernel : _ = _) | exact rfl
def h0_3P : List Op := (0, 2, 7, 0) :: LQ183
def h0_3Q : List Op := (1, 259, 2, 0) :: (3, 259, 4, 267) :: (0, 100, 8, 0) :: (3, 259, 3, 261) :: (4, 113, 5, 8) :: (3, 259, 0, 260) :: (0, 100, 8, 0) :: (0, 2, 7, 0) :: LQ183
theorem h0_3 {L d : Nat} {xs : Nat → Int32} : runX (d + 1) 5 [va_rf (some 259), .int (iI (0))] (app (Minit L xs) h0_3P) = some (.null, app (Minit L xs) h0_3Q) := by
  rw [r5]; unfold b5; rw [aR_e, aI_e, aZ_e]; unfold c5
  rw [nn_e, nA_d 260 (z := 8) (by decide +kernel) (by decide +kernel) (by decide) (by decide), ptP_l (by decide +kernel), nAA_d 261 (z := 5) (y := 8) (by decide +kernel) (by decide +kernel) (by decide +kernel) (Or.inl ⟨rfl, rfl⟩) (by decide) (by decide) (by decide) (by decide), ptP_l (by decide +kernel), nA_d 267 (z := 8) (by decide +kernel) (by decide +kernel) (by decide) (by decide), ptP_l (by decide +kernel), ptI_c (0) (by decide +kernel) (by decide +kernel)]
  first | done | exact congrArg (fun z => some (_, app (Minit L xs) z)) (by decide +kernel : _ = _) | exact rfl
def h0_7P : List Op := (1, 141, 0, 1) :: (1, 259, 2, 0) :: (3, 259, 4, 267) :: (0, 100, 8, 0) :: (3, 259, 3, 261) :: (4, 113, 5, 8) :: (3, 259, 0, 260) :: (0, 100, 8, 0) :: (0, 2, 7, 0) :: LQ183
def h0_7Q : List Op := (3, 141, 1, 268) :: (0, 110, 10, 0) :: (1, 141, 0, 1) :: (1, 259, 2, 0) :: (3, 259, 4, 267) :: (0, 100, 8, 0) :: (3, 259, 3, 261) :: (4, 113, 5, 8) :: (3, 259, 0, 260) :: (0, 100, 8, 0) :: (0, 2, 7, 0) :: LQ183
theorem h0_7 {L d : Nat} {xs : Nat → Int32} : runX (d + 1) 344 [va_rf (some 141), .int ((iI (0) + (1 : Int32)))] (app (Minit L xs) h0_7P) = some (va_rf (some 268), app (Minit L xs) h0_7Q) := by
  rw [r344]; unfold b344; rw [aR_e, aI_e, aZ_e]; unfold c344
  rw [gtP_c (some 2) (by decide +kernel) (by decide +kernel) (by decide +kernel), aln_2 (by decide +kernel), jn_v, if_neg (by decide +kernel), gtP_c (some 2) (by decide +kernel) (by decide +kernel) (by decide +kernel), if_pos (by decide +kernel), lt_e, nA_d 268 (z := 10) (by decide +kernel) (by decide +kernel) (by decide) (by decide)]
  rw [ptP_l (by decide +kernel)]
  first | done | exact congrArg (fun z => some (_, app (Minit L xs) z)) (by decide +kernel : _ = _) | exact rfl
def h0_6P : List Op := (1, 141, 0, 1) :: (1, 259, 2, 0) :: (3, 259, 4, 267) :: (0, 100, 8, 0) :: (3, 259, 3, 261) :: (4, 113, 5, 8) :: (3, 259, 0, 260) :: (0, 100, 8, 0) :: (0, 2, 7, 0) :: LQ183
def h0_6Q : List Op := (3, 141, 1, 268) :: (0, 110, 10, 0) :: (1, 141, 0, 1) :: (1, 259, 2, 0) :: (3, 259, 4, 267) :: (0, 100, 8, 0) :: (3, 259, 3, 261) :: (4, 113, 5, 8) :: (3, 259, 0, 260) :: (0, 100, 8, 0) :: (0, 2, 7, 0) :: LQ183
theorem h0_6 {L d : Nat} {xs : Nat → Int32} : runX (d + 2) 345 [va_rf (some 141)] (app (Minit L xs) h0_6P) = some (va_rf (some 268), app (Minit L xs) h0_6Q) := by
  rw [r345]; unfold b345; rw [aR_e, aZ_e]; unfold c345
  rw [gtI_c (0) (by decide +kernel) (by decide +kernel) (by decide) (by decide +kernel), vC_l (by decide +kernel), cP_e ((congrArg (fun z => runX _ 344 [va_rf (some 141), .int ((iI (0) + (1 : Int32)))] (app (Minit L xs) z)) (show _ = h0_7P from by decide +kernel)).trans (h0_7 (d := _)))]
  show _ = _
  first | done | exact congrArg (fun z => some (_, app (Minit L xs) z)) (by decide +kernel : _ = _) | exact rfl
def h0_5P : List Op := (1, 141, 0, 1) :: (1, 259, 2, 0) :: (3, 259, 4, 267) :: (0, 100, 8, 0) :: (3, 259, 3, 261) :: (4, 113, 5, 8) :: (3, 259, 0, 260) :: (0, 100, 8, 0) :: (0, 2, 7, 0) :: LQ183
def h0_5Q : List Op := (1, 141, 2, 1) :: (3, 268, 0, 259) :: (3, 141, 1, 268) :: (0, 110, 10, 0) :: (1, 141, 0, 1) :: (1, 259, 2, 0) :: (3, 259, 4, 267) :: (0, 100, 8, 0) :: (3, 259, 3, 261) :: (4, 113, 5, 8) :: (3, 259, 0, 260) :: (0, 100, 8, 0) :: (0, 2, 7, 0) :: LQ183
theorem h0_5 {L d : Nat} {xs : Nat → Int32} : runX (d + 3) 349 [va_rf (some 141), va_rf (some 259), va_rf (some 2), .int (iI (0))] (app (Minit L xs) h0_5P) = some (.null, app (Minit L xs) h0_5Q) := by
  rw [r349]; unfold b349; rw [aR_e, aR_e, aR_e, aI_e, aZ_e]; unfold c349
  rw [aln_2 (by decide +kernel), jn_v, if_pos (by decide +kernel), vC_l (by decide +kernel), cP_e ((congrArg (fun z => runX _ 345 [va_rf (some 141)] (app (Minit L xs) z)) (show _ = h0_6P from by decide +kernel)).trans (h0_6 (d := _)))]
  show _ = _
  rw [jv_e]
  try dsimp only
  rw [asP_c (z := 0) (n := 10) (s := (2, 7)) (by decide +kernel) (by decide +kernel) (by decide) (by decide) (by decide) (by decide +kernel) (by decide), ptI_c (1) (by decide +kernel) (by decide +kernel)]
  first | done | exact congrArg (fun z => some (_, app (Minit L xs) z)) (by decide +kernel : _ = _) | exact rfl
def h0_4P : List Op := (1, 259, 2, 0) :: (3, 259, 4, 267) :: (0, 100, 8, 0) :: (3, 259, 3, 261) :: (4, 113, 5, 8) :: (3, 259, 0, 260) :: (0, 100, 8, 0) :: (0, 2, 7, 0) :: LQ183
def h0_4Q : List Op := (1, 141, 2, 1) :: (3, 268, 0, 259) :: (3, 141, 1, 268) :: (0, 110, 10, 0) :: (1, 141, 0, 1) :: (1, 259, 2, 0) :: (3, 259, 4, 267) :: (0, 100, 8, 0) :: (3, 259, 3, 261) :: (4, 113, 5, 8) :: (3, 259, 0, 260) :: (0, 100, 8, 0) :: (0, 2, 7, 0) :: LQ183
theorem h0_4 {L d : Nat} {xs : Nat → Int32} : runX (d + 4) 350 [va_rf (some 141), va_rf (some 259)] (app (Minit L xs) h0_4P) = some (.int ((1 : Int32)), app (Minit L xs) h0_4Q) := by
  rw [r350]; unfold b350; rw [aR_e, aR_e, aZ_e]; unfold c350
  rw [gtI_c (0) (by decide +kernel) (by decide +kernel) (by decide) (by decide +kernel), ptI_c (1) (by decide +kernel) (by decide +kernel), gtP_c (some 2) (by decide +kernel) (by decide +kernel) (by decide +kernel), gtI_c (0) (by decide +kernel) (by decide +kernel) (by decide) (by decide +kernel), vC_l (by decide +kernel), cV_e ((congrArg (fun z => runX _ 349 [va_rf (some 141), va_rf (some 259), va_rf (some 2), .int (iI (0))] (app (Minit L xs) z)) (show _ = h0_5P from by decide +kernel)).trans (h0_5 (d := _)))]
  show _ = _
  rw [rtZ_e (by decide +kernel)]
  first | done | exact congrArg (fun z => some (_, app (Minit L xs) z)) (by decide +kernel : _ = _) | exact rfl
def h0_8P : List Op := (1, 141, 2, 1) :: (3, 268, 0, 259) :: (3, 141, 1, 268) :: (0, 110, 10, 0) :: (1, 141, 0, 1) :: (1, 259, 2, 0) :: (3, 259, 4, 267) :: (0, 100, 8, 0) :: (3, 259, 3, 261) :: (4, 113, 5, 8) :: (3, 259, 0, 260) :: (0, 100, 8, 0) :: (0, 2, 7, 0) :: LQ183
def h0_8Q : List Op := (1, 141, 2, 1) :: (3, 268, 0, 259) :: (3, 141, 1, 268) :: (0, 110, 10, 0) :: (1, 141, 0, 1) :: (1, 259, 2, 0) :: (3, 259, 4, 267) :: (0, 100, 8, 0) :: (3, 259, 3, 261) :: (4, 113, 5, 8) :: (3, 259, 0, 260) :: (0, 100, 8, 0) :: (0, 2, 7, 0) :: LQ183
theorem h0_8 {L d : Nat} {xs : Nat → Int32} : runX (d + 1) 346 [va_rf (some 141)] (app (Minit L xs) h0_8P) = some (.int (iI (1)), app (Minit L xs) h0_8Q) := by
  rw [r346]; unfold b346; rw [aR_e, aZ_e]; unfold c346
  rw [gtI_c (1) (by decide +kernel) (by decide +kernel) (by decide) (by decide +kernel)]
  first | done | exact congrArg (fun z => some (_, app (Minit L xs) z)) (by decide +kernel : _ = _) | exact rfl
def h0_1P : List Op := LQ183
def h0_1Q : List Op := (1, 141, 2, 1) :: (3, 268, 0, 259) :: (3, 141, 1, 268) :: (0, 110, 10, 0) :: (1, 141, 0, 1) :: (1, 259, 2, 0) :: (3, 259, 4, 267) :: (0, 100, 8, 0) :: (3, 259, 3, 261) :: (4, 113, 5, 8) :: (3, 259, 0, 260) :: (0, 100, 8, 0) :: (0, 2, 7, 0) :: LQ183
theorem h0_1 {L d : Nat} {xs : Nat → Int32} : runX (d + 5) 156 [va_rf (some 64), .int (iI (0))] (app (Minit L xs) h0_1P) = some (.int ((iI (1) - (1 : Int32))), app (Minit L xs) h0_1Q) := by
  rw [r156]; unfold b156; rw [aR_e, aI_e, aZ_e]; unfold c156
  rw [jn_v, if_neg (by decide +kernel), if_pos (by decide +kernel), gtP_c (some 141) (by decide +kernel) (by decide +kernel) (by decide +kernel), vC_l (by decide +kernel), cI_e ((congrArg (fun z => runX _ 346 [va_rf (some 141)] (app (Minit L xs) z)) (show _ = h0_2P from by decide +kernel)).trans (h0_2 (d := _)))]
  show _ = _
  rw [if_pos (by decide +kernel), gtP_c (some 141) (by decide +kernel) (by decide +kernel) (by decide +kernel), nO_c 259 (by decide +kernel), vC_l (by decide +kernel), cV_e ((congrArg (fun z => runX _ 5 [va_rf (some 259), .int (iI (0))] (app (Minit L xs) z)) (show _ = h0_3P from by decide +kernel)).trans (h0_3 (d := _)))]
  show _ = _
  rw [vC_l (by decide +kernel), cI_e ((congrArg (fun z => runX _ 350 [va_rf (some 141), va_rf (some 259)] (app (Minit L xs) z)) (show _ = h0_4P from by decide +kernel)).trans (h0_4 (d := _)))]
  show _ = _
  rw [gtP_c (some 141) (by decide +kernel) (by decide +kernel) (by decide +kernel), vC_l (by decide +kernel), cI_e ((congrArg (fun z => runX _ 346 [va_rf (some 141)] (app (Minit L xs) z)) (show _ = h0_8P from by decide +kernel)).trans (h0_8 (d := _)))]
  show _ = _
  first | done | exact congrArg (fun z => some (_, app (Minit L xs) z)) (by decide +kernel : _ = _) | exact rfl
def h0_10P : List Op := (1, 141, 2, 1) :: (3, 268, 0, 259) :: (3, 141, 1, 268) :: (0, 110, 10, 0) :: (1, 141, 0, 1) :: (1, 259, 2, 0) :: (3, 259, 4, 267) :: (0, 100, 8, 0) :: (3, 259, 3, 261) :: (4, 113, 5, 8) :: (3, 259, 0, 260) :: (0, 100, 8, 0) :: (0, 2, 7, 0) :: LQ183
def h0_10Q : List Op := (1, 141, 2, 1) :: (3, 268, 0, 259) :: (3, 141, 1, 268) :: (0, 110, 10, 0) :: (1, 141, 0, 1) :: (1, 259, 2, 0) :: (3, 259, 4, 267) :: (0, 100, 8, 0) :: (3, 259, 3, 261) :: (4, 113, 5, 8) :: (3, 259, 0, 260) :: (0, 100, 8, 0) :: (0, 2, 7, 0) :: LQ183
theorem h0_10 {L d : Nat} {xs : Nat → Int32} : runX (d + 1) 184 [.int (iI (0)), .int ((0 : Int32)), .int ((2 : Int32))] (app (Minit L xs) h0_10P) = some (.int ((1 : Int32)), app (Minit L xs) h0_10Q) := by
  rw [r184]; unfold b184; rw [aI_e, aI_e, aI_e, aZ_e]; unfold c184
  rw [jn_v, jn_v, if_neg (by decide +kernel), if_neg (by decide +kernel), jv_e, rtZ_e (by decide +kernel)]
  first | done | exact congrArg (fun z => some (_, app (Minit L xs) z)) (by decide +kernel : _ = _) | exact rfl
def h0_9P : List Op := (1, 141, 2, 1) :: (3, 268, 0, 259) :: (3, 141, 1, 268) :: (0, 110, 10, 0) :: (1, 141, 0, 1) :: (1, 259, 2, 0) :: (3, 259, 4, 267) :: (0, 100, 8, 0) :: (3, 259, 3, 261) :: (4, 113, 5, 8) :: (3, 259, 0, 260) :: (0, 100, 8, 0) :: (0, 2, 7, 0) :: LQ183
def h0_9Q : List Op := (1, 160, 138, 1) :: (1, 247, 0, 0) :: (1, 246, 0, 0) :: (1, 141, 2, 1) :: (3, 268, 0, 259) :: (3, 141, 1, 268) :: (0, 110, 10, 0) :: (1, 141, 0, 1) :: (1, 259, 2, 0) :: (3, 259, 4, 267) :: (0, 100, 8, 0) :: (3, 259, 3, 261) :: (4, 113, 5, 8) :: (3, 259, 0, 260) :: (0, 100, 8, 0) :: (0, 2, 7, 0) :: LQ183
theorem h0_9 {L d : Nat} {xs : Nat → Int32} : runX (d + 2) 293 [va_rf (some 160), .int (iI (0))] (app (Minit L xs) h0_9P) = some (.int ((iI (1) - (1 : Int32))), app (Minit L xs) h0_9Q) := by
  rw [r293]; unfold b293; rw [aR_e, aI_e, aZ_e]; unfold c293
  rw [cI_e ((congrArg (fun z => runX _ 184 [.int (iI (0)), .int ((0 : Int32)), .int ((2 : Int32))] (app (Minit L xs) z)) (show _ = h0_10P from by decide +kernel)).trans (h0_10 (d := _)))]
  show _ = _
  rw [if_neg (by decide +kernel), gtI_c (0) (by decide +kernel) (by decide +kernel) (by decide) (by decide +kernel), if_neg (by decide +kernel), gtP_c (some 246) (by decide +kernel) (by decide +kernel) (by decide +kernel), gtI_c (0) (by decide +kernel) (by decide +kernel) (by decide) (by decide +kernel), asI_c (z := 0) (y := 0) (n := 8) (by decide +kernel) (by decide +kernel) (by decide +kernel) (by decide) (by decide) (by decide), gtP_c (some 247) (by decide +kernel) (by decide +kernel) (by decide +kernel), gtI_c (0) (by decide +kernel) (by decide +kernel) (by decide) (by decide +kernel)]
  rw [asI_c (z := 0) (y := 0) (n := 8) (by decide +kernel) (by decide +kernel) (by decide +kernel) (by decide) (by decide) (by decide), gtI_c (0) (by decide +kernel) (by decide +kernel) (by decide) (by decide +kernel), ptI_c (1) (by decide +kernel) (by decide +kernel), gtI_c (1) (by decide +kernel) (by decide +kernel) (by decide) (by decide +kernel)]
  first | done | exact congrArg (fun z => some (_, app (Minit L xs) z)) (by decide +kernel : _ = _) | exact rfl
