theorem xbt1 {w : Cond} (n : Nat) (h0 : tables_1_1[n]? = some w) (hg : goodWord w = true) : w ∈ xbig := by
  have h := List.mem_of_getElem? h0
  exact List.mem_filter.mpr ⟨List.mem_append_right _ (List.mem_append_left _ h), hg⟩
theorem xbt2 {w : Cond} (n : Nat) (h0 : tables_1_2[n]? = some w) (hg : goodWord w = true) : w ∈ xbig := by
  have h := List.mem_of_getElem? h0
  exact List.mem_filter.mpr ⟨List.mem_append_right _ (List.mem_append_right _ (List.mem_append_left _ h)), hg⟩
theorem xbt3 {w : Cond} (n : Nat) (h0 : tables_1_3[n]? = some w) (hg : goodWord w = true) : w ∈ xbig := by
  have h := List.mem_of_getElem? h0
  exact List.mem_filter.mpr ⟨List.mem_append_right _ (List.mem_append_right _ (List.mem_append_right _ (List.mem_append_left _ h))), hg⟩
theorem xbt4 {w : Cond} (n : Nat) (h0 : tables_1_4[n]? = some w) (hg : goodWord w = true) : w ∈ xbig := by
  have h := List.mem_of_getElem? h0
  exact List.mem_filter.mpr ⟨List.mem_append_right _ (List.mem_append_right _ (List.mem_append_right _ (List.mem_append_right _ (List.mem_append_left _ h)))), hg⟩
theorem xbt5 {w : Cond} (n : Nat) (h0 : tables_1_5[n]? = some w) (hg : goodWord w = true) : w ∈ xbig := by
  have h := List.mem_of_getElem? h0
  exact List.mem_filter.mpr ⟨List.mem_append_right _ (List.mem_append_right _ (List.mem_append_right _ (List.mem_append_right _ (List.mem_append_right _ (List.mem_append_left _ h))))), hg⟩
theorem xbt6 {w : Cond} (n : Nat) (h0 : tables_1_6[n]? = some w) (hg : goodWord w = true) : w ∈ xbig := by
  have h := List.mem_of_getElem? h0
  exact List.mem_filter.mpr ⟨List.mem_append_right _ (List.mem_append_right _ (List.mem_append_right _ (List.mem_append_right _ (List.mem_append_right _ (List.mem_append_right _ (List.mem_append_left _ h)))))), hg⟩
theorem xbt7 {w : Cond} (n : Nat) (h0 : tables_1_7[n]? = some w) (hg : goodWord w = true) : w ∈ xbig := by
  have h := List.mem_of_getElem? h0
  exact List.mem_filter.mpr ⟨List.mem_append_right _ (List.mem_append_right _ (List.mem_append_right _ (List.mem_append_right _ (List.mem_append_right _ (List.mem_append_right _ (List.mem_append_right _ (List.mem_append_left _ h))))))), hg⟩
theorem xbt8 {w : Cond} (n : Nat) (h0 : tables_1_8[n]? = some w) (hg : goodWord w = true) : w ∈ xbig := by
  have h := List.mem_of_getElem? h0
  exact List.mem_filter.mpr ⟨List.mem_append_right _ (List.mem_append_right _ (List.mem_append_right _ (List.mem_append_right _ (List.mem_append_right _ (List.mem_append_right _ (List.mem_append_right _ (List.mem_append_right _ (List.mem_append_left _ h)))))))), hg⟩
theorem xbt9 {w : Cond} (n : Nat) (h0 : tables_1_9[n]? = some w) (hg : goodWord w = true) : w ∈ xbig := by
  have h := List.mem_of_getElem? h0
  exact List.mem_filter.mpr ⟨List.mem_append_right _ (List.mem_append_right _ (List.mem_append_right _ (List.mem_append_right _ (List.mem_append_right _ (List.mem_append_right _ (List.mem_append_right _ (List.mem_append_right _ (List.mem_append_right _ (List.mem_append_left _ h))))))))), hg⟩
theorem xbt10 {w : Cond} (n : Nat) (h0 : tables_1_10[n]? = some w) (hg : goodWord w = true) : w ∈ xbig := by
  have h := List.mem_of_getElem? h0
  exact List.mem_filter.mpr ⟨List.mem_append_right _ (List.mem_append_right _ (List.mem_append_right _ (List.mem_append_right _ (List.mem_append_right _ (List.mem_append_right _ (List.mem_append_right _ (List.mem_append_right _ (List.mem_append_right _ (List.mem_append_right _ (List.mem_append_left _ h)))))))))), hg⟩
theorem xbt11 {w : Cond} (n : Nat) (h0 : tables_1_11[n]? = some w) (hg : goodWord w = true) : w ∈ xbig := by
  have h := List.mem_of_getElem? h0
  exact List.mem_filter.mpr ⟨List.mem_append_right _ (List.mem_append_right _ (List.mem_append_right _ (List.mem_append_right _ (List.mem_append_right _ (List.mem_append_right _ (List.mem_append_right _ (List.mem_append_right _ (List.mem_append_right _ (List.mem_append_right _ (List.mem_append_right _ (List.mem_append_left _ h))))))))))), hg⟩
theorem xbt12 {w : Cond} (n : Nat) (h0 : tables_1_12[n]? = some w) (hg : goodWord w = true) : w ∈ xbig := by
  have h := List.mem_of_getElem? h0
  exact List.mem_filter.mpr ⟨List.mem_append_right _ (List.mem_append_right _ (List.mem_append_right _ (List.mem_append_right _ (List.mem_append_right _ (List.mem_append_right _ (List.mem_append_right _ (List.mem_append_right _ (List.mem_append_right _ (List.mem_append_right _ (List.mem_append_right _ (List.mem_append_right _ h))))))))))), hg⟩
def xmtL : List XMt := [(yX0_init, cX0_init, 6, none),
  (yX0_unitNamed, cX0_unitNamed, 4, some .int),
  (yX0_linkTo, cX0_linkTo, 7, some .int),
  (yX0_isReplaced, cX0_isReplaced, 2, some .boolean),
  (yX0_linkOf, cX0_linkOf, 2, some .int),
  (yX1_init, cX1_init, 2, none),
  (yX1_add, cX1_add, 6, some .int),
  (yX1_isLinear, cX1_isLinear, 1, some .boolean),
  (yX1_completes, cX1_completes, 8, some .boolean),
  (yX1_completesBehind, cX1_completesBehind, 12, some .boolean),
  (yX1_mayBeNext, cX1_mayBeNext, 4, some .boolean),
  (yX2_init, cX2_init, 1, none),
  (yX2_begin, cX2_begin, 1, none),
  (yX2_beginRow, cX2_beginRow, 1, none),
  (yX2_next, cX2_next, 2, some .int),
  (yX2_nextRow, cX2_nextRow, 1, some .boolean),
  (yX2_addRow, cX2_addRow, 9, none),
  (yX2_commonDivisor, cX2_commonDivisor, 11, some .long),
  (yX3_init, cX3_init, 2, none),
  (yX3_prepare, cX3_prepare, 3, none),
  (yX3_takeBuild, cX3_takeBuild, 2, none),
  (yX3_watch, cX3_watch, 3, none),
  (yX3_isSpent, cX3_isSpent, 1, some .boolean),
  (yX3_beginRun, cX3_beginRun, 5, none),
  (yX3_beginState, cX3_beginState, 1, none),
  (yX3_live, cX3_live, 5, none),
  (yX3_judge, cX3_judge, 4, none),
  (yX3_holds, cX3_holds, 4, some .boolean),
  (yX3_execute, cX3_execute, 5, some .boolean),
  (yX3_enter, cX3_enter, 6, none),
  (yX3_begins, cX3_begins, 4, some .boolean),
  (yX3_obey, cX3_obey, 6, none),
  (yX3_push, cX3_push, 2, none),
  (yX3_pop, cX3_pop, 1, some .int),
  (yX3_doPlain, cX3_doPlain, 7, none),
  (yX3_checkValue, cX3_checkValue, 2, none),
  (yX3_jump, cX3_jump, 5, none),
  (yX3_combine, cX3_combine, 5, none),
  (yX3_combined, cX3_combined, 3, some .int),
  (yX3_drawNumber, cX3_drawNumber, 3, none),
  (yX3_leave, cX3_leave, 3, none),
  (yX3_fail, cX3_fail, 7, none),
  (yX3_useMember, cX3_useMember, 9, none),
  (yX3_useRow, cX3_useRow, 7, none),
  (yX3_seesTo, cX3_seesTo, 5, some .boolean),
  (yX3_setOut, cX3_setOut, 6, none),
  (yX3_callFun, cX3_callFun, 7, none),
  (yX4_init, cX4_init, 1, none),
  (yX4_tell, cX4_tell, 4, none),
  (yX4_copy, cX4_copy, 2, none),
  (yX5_init, cX5_init, 4, none),
  (yX5_mutantsOf, cX5_mutantsOf, 5, some (.array .int)),
  (yX5_shareCells, cX5_shareCells, 4, none),
  (yX5_unitOfCode, cX5_unitOfCode, 3, some .int),
  (yX5_clearCover, cX5_clearCover, 2, none),
  (yX5_noteBegun, cX5_noteBegun, 3, none),
  (yX5_takeKills, cX5_takeKills, 4, some .int),
  (yX5_leastSuite, cX5_leastSuite, 5, some .int),
  (yX5_isBetter, cX5_isBetter, 4, some .boolean),
  (yX5_killsAll, cX5_killsAll, 3, some .boolean),
  (yX6_init, cX6_init, 1, none),
  (yX6_read, cX6_read, 3, none),
  (yX6_stop, cX6_stop, 2, none),
  (yX6_advance, cX6_advance, 1, none),
  (yX6_expect, cX6_expect, 2, none),
  (yX6_text, cX6_text, 1, some .long),
  (yX6_newName, cX6_newName, 5, some .long),
  (yX6_numberFrom, cX6_numberFrom, 4, some .int),
  (yX6_signed, cX6_signed, 3, some .int),
  (yX6_goDeeper, cX6_goDeeper, 3, none),
  (yX6_unitNamed, cX6_unitNamed, 4, some .int),
  (yX6_memberNamed, cX6_memberNamed, 5, some .int),
  (yX6_isTold, cX6_isTold, 5, some .boolean),
  (yX6_isMemberTold, cX6_isMemberTold, 3, some .boolean),
  (yX6_localNamed, cX6_localNamed, 4, some .int),
  (yX6_addLocal, cX6_addLocal, 3, none),
  (yX6_readUnitHead, cX6_readUnitHead, 3, none),
  (yX6_readMember, cX6_readMember, 4, none),
  (yX6_newMember, cX6_newMember, 6, some (.object "TestHouse$Part")),
  (yX6_readValue, cX6_readValue, 4, none),
  (yX6_readRow, cX6_readRow, 3, none),
  (yX6_readFun, cX6_readFun, 3, none),
  (yX6_readParameters, cX6_readParameters, 3, none),
  (yX6_readNameless, cX6_readNameless, 4, none),
  (yX6_readTest, cX6_readTest, 6, none),
  (yX6_readWith, cX6_readWith, 4, none),
  (yX6_readProp, cX6_readProp, 2, none),
  (yX6_emit, cX6_emit, 3, some .int),
  (yX6_endCode, cX6_endCode, 1, none),
  (yX6_block, cX6_block, 4, none),
  (yX6_statement, cX6_statement, 2, none),
  (yX6_valueStatement, cX6_valueStatement, 3, none),
  (yX6_letStatement, cX6_letStatement, 4, none),
  (yX6_ifStatement, cX6_ifStatement, 4, none),
  (yX6_whileStatement, cX6_whileStatement, 4, none),
  (yX6_tryStatement, cX6_tryStatement, 8, none),
  (yX6_nameStatement, cX6_nameStatement, 4, none),
  (yX6_readCall, cX6_readCall, 6, none),
  (yX6_readIndex, cX6_readIndex, 2, none),
  (yX6_expression, cX6_expression, 5, none),
  (yX6_factor, cX6_factor, 2, none),
  (yX6_nameFactor, cX6_nameFactor, 3, none),
  (yX6_levelOf, cX6_levelOf, 1, some .int),
  (yX6_operationOf, cX6_operationOf, 1, some .int),
  (yX6_readUse, cX6_readUse, 2, some .int),
  (yX6_settleLater, cX6_settleLater, 4, none),
  (yX6_emitPlain, cX6_emitPlain, 6, none),
  (yX6_settleUses, cX6_settleUses, 2, none),
  (yX6_settle, cX6_settle, 10, none),
  (yX6_suits, cX6_suits, 3, some .boolean),
  (yX7_init, cX7_init, 5, none),
  (yX8_init, cX8_init, 4, none),
  (yX8_add, cX8_add, 3, none),
  (yX8_scan, cX8_scan, 3, none),
  (yX8_skipBlanks, cX8_skipBlanks, 1, none),
  (yX8_isLetter, cX8_isLetter, 2, some .boolean),
  (yX8_isDigit, cX8_isDigit, 2, some .boolean),
  (yX8_wordHere, cX8_wordHere, 5, some .int),
  (yX8_numberHere, cX8_numberHere, 4, some .int),
  (yX8_signHere, cX8_signHere, 3, some .int),
  (yX9_init, cX9_init, 1, none),
  (yX9_begin, cX9_begin, 5, none),
  (yX9_standsFor, cX9_standsFor, 3, some .boolean),
  (yX9_addRule, cX9_addRule, 6, some .int),
  (yX9_fitting, cX9_fitting, 6, some .int),
  (yX9_note, cX9_note, 5, none),
  (yX10_init, cX10_init, 5, none),
  (yX11_init, cX11_init, 1, none),
  (yX11_feed, cX11_feed, 7, some .int),
  (yX11_cut, cX11_cut, 3, some .int),
  (yX11_parcel, cX11_parcel, 2, some .int),
  (yX11_fault, cX11_fault, 1, some .int),
  (yX11_count, cX11_count, 4, some .int),
  (yX11_member, cX11_member, 6, some .int),
  (yX11_about, cX11_about, 5, some .int),
  (yX11_name, cX11_name, 7, some .int),
  (yX11_code, cX11_code, 5, some .int),
  (yX11_steps, cX11_steps, 3, some .int),
  (yX11_seed, cX11_seed, 3, some .int),
  (yX11_swap, cX11_swap, 6, some .int),
  (yX11_run, cX11_run, 5, some .int),
  (yX11_verdict, cX11_verdict, 5, some .int),
  (yX11_cover, cX11_cover, 5, some .int),
  (yX11_alone, cX11_alone, 5, some .int),
  (yX11_told, cX11_told, 2, some .int),
  (yX11_twin, cX11_twin, 7, some .int),
  (yX11_rule, cX11_rule, 7, some .int),
  (yX11_drop, cX11_drop, 3, some .int),
  (yX11_calls, cX11_calls, 5, some .int),
  (yX11_mutant, cX11_mutant, 6, some .int),
  (yX11_kill, cX11_kill, 4, some .int),
  (yX11_killed, cX11_killed, 5, some .int),
  (yX11_least, cX11_least, 5, some .int),
  (yX11_property, cX11_property, 9, some .int),
  (yX11_small, cX11_small, 2, some .int),
  (yX11_smaller, cX11_smaller, 3, some .int),
  (yX11_history, cX11_history, 2, some .int),
  (yX11_op, cX11_op, 8, some .int),
  (yX11_linear, cX11_linear, 3, some .int),
  (yX11_place, cX11_place, 4, some .int),
  (yX11_luck, cX11_luck, 6, some .int),
  (yX11_share, cX11_share, 2, some .int),
  (yX11_blame, cX11_blame, 13, some .int),
  (yX11_blamed, cX11_blamed, 2, some .int),
  (yX11_build, cX11_build, 5, some .int),
  (yX11_foretold, cX11_foretold, 5, some .int),
  (yX11_touch, cX11_touch, 5, some .int),
  (yX11_parcelAt, cX11_parcelAt, 2, some (.object "TestHouse$Parcel")),
  (yX11_partAt, cX11_partAt, 2, some (.object "TestHouse$Part")),
  (yX11_caseAt, cX11_caseAt, 2, some (.object "TestHouse$Part")),
  (yX11_twinAt, cX11_twinAt, 3, some (.object "TestHouse$Twin")),
  (yX11_historyAt, cX11_historyAt, 2, some (.object "TestHouse$History")),
  (yX11_buildAt, cX11_buildAt, 2, some (.object "TestHouse$Build")),
  (yX11_byteOf, cX11_byteOf, 4, some .int),
  (yX11_runCases, cX11_runCases, 10, none),
  (yX11_liveWatched, cX11_liveWatched, 2, some .int),
  (yX11_casesThatDiffer, cX11_casesThatDiffer, 4, some .int),
  (yX11_caseOfSuite, cX11_caseOfSuite, 4, some .int),
  (yX11_holdsOften, cX11_holdsOften, 8, some .boolean),
  (yX11_takesSmaller, cX11_takesSmaller, 6, some .boolean),
  (yX11_smallerCount, cX11_smallerCount, 2, some .int),
  (yX11_smallerNumber, cX11_smallerNumber, 3, some .int),
  (yX11_placeInOrder, cX11_placeInOrder, 4, some .int),
  (yX12_init, cX12_init, 1, none),
  (yX12_in, cX12_in, 3, some .boolean),
  (yX12_feed, cX12_feed, 8, some .int),
  (yX12_cut, cX12_cut, 2, some .int),
  (yX12_packed, cX12_packed, 4, some .long),
  (yX12_isLetter, cX12_isLetter, 1, some .boolean),
  (yX12_isDigit, cX12_isDigit, 1, some .boolean),
  (yX12_at, cX12_at, 2, some .int),
  (yX12_next, cX12_next, 3, none),
  (yX12_fail, cX12_fail, 3, none),
  (yX12_must, cX12_must, 2, some .boolean),
  (yX12_want, cX12_want, 3, some .boolean),
  (yX12_need, cX12_need, 2, some .boolean),
  (yX12_emit, cX12_emit, 3, some .int),
  (yX12_seenAs, cX12_seenAs, 4, some .int),
  (yX12_mayBeSeen, cX12_mayBeSeen, 1, some .boolean),
  (yX12_see, cX12_see, 3, none),
  (yX12_opens, cX12_opens, 1, some .boolean),
  (yX12_use, cX12_use, 2, some .int),
  (yX12_used, cX12_used, 4, none),
  (yX12_index, cX12_index, 1, none),
  (yX12_call, cX12_call, 4, none),
  (yX12_value, cX12_value, 3, none),
  (yX12_factor, cX12_factor, 2, none),
  (yX12_product, cX12_product, 2, none),
  (yX12_sum, cX12_sum, 2, none),
  (yX12_denied, cX12_denied, 2, none),
  (yX12_both, cX12_both, 1, none),
  (yX12_expr, cX12_expr, 1, none),
  (yX12_block, cX12_block, 2, none),
  (yX12_inner, cX12_inner, 1, none),
  (yX12_statement, cX12_statement, 4, none),
  (yX12_choice, cX12_choice, 3, none),
  (yX12_tryOne, cX12_tryOne, 3, none),
  (yX12_given, cX12_given, 3, none),
  (yX12_code, cX12_code, 3, some .int),
  (yX12_signed, cX12_signed, 2, none),
  (yX12_isTold, cX12_isTold, 5, some .boolean),
  (yX12_member, cX12_member, 6, none),
  (yX12_thing, cX12_thing, 5, none),
  (yX12_parameters, cX12_parameters, 2, none),
  (yX12_newCase, cX12_newCase, 8, none),
  (yX12_test, cX12_test, 9, none),
  (yX12_prop, cX12_prop, 3, none),
  (yX12_unitOf, cX12_unitOf, 5, some .int),
  (yX12_memberOf, cX12_memberOf, 6, some .int),
  (yX12_readUnit, cX12_readUnit, 3, none),
  (yX12_lookUp, cX12_lookUp, 10, none),
  (yX12_parcel, cX12_parcel, 3, some .int),
  (yX12_keep, cX12_keep, 3, none),
  (yX12_changed, cX12_changed, 1, some .int),
  (yX12_fault, cX12_fault, 1, some .int),
  (yX12_machine, cX12_machine, 4, none),
  (yX12_rowOf, cX12_rowOf, 2, some .int),
  (yX12_lookedUp, cX12_lookedUp, 8, some .int),
  (yX12_memberAt, cX12_memberAt, 4, some .int),
  (yX12_fails, cX12_fails, 4, none),
  (yX12_begins, cX12_begins, 10, some .boolean),
  (yX12_push, cX12_push, 2, none),
  (yX12_pop, cX12_pop, 1, some .int),
  (yX12_done, cX12_done, 13, some .int),
  (yX12_act, cX12_act, 6, none),
  (yX12_truth, cX12_truth, 1, some .int),
  (yX12_two, cX12_two, 5, none),
  (yX12_one, cX12_one, 4, none),
  (yX12_draw, cX12_draw, 3, none),
  (yX12_uses, cX12_uses, 7, none),
  (yX12_called, cX12_called, 7, none),
  (yX12_clear, cX12_clear, 2, none),
  (yX12_doesFail, cX12_doesFail, 4, some .boolean),
  (yX12_tells, cX12_tells, 2, none),
  (yX12_life, cX12_life, 5, none),
  (yX12_isParcel, cX12_isParcel, 2, some .boolean),
  (yX12_isCase, cX12_isCase, 3, some .boolean),
  (yX12_run, cX12_run, 5, some .int),
  (yX12_verdict, cX12_verdict, 5, some .int),
  (yX12_cover, cX12_cover, 4, some .int),
  (yX12_aloneIn, cX12_aloneIn, 2, some .int),
  (yX12_alone, cX12_alone, 3, some .int),
  (yX12_told, cX12_told, 2, some .int),
  (yX12_count, cX12_count, 3, some .int),
  (yX12_member_, cX12_member_, 5, some .int),
  (yX12_about, cX12_about, 5, some .int),
  (yX12_name, cX12_name, 8, some .int),
  (yX12_code_, cX12_code_, 6, some .int),
  (yX12_steps, cX12_steps, 3, some .int),
  (yX12_seed, cX12_seed, 3, some .int),
  (yX12_swap, cX12_swap, 5, some .int),
  (yX12_seatOf, cX12_seatOf, 4, some .int),
  (yX12_doubleOf, cX12_doubleOf, 5, some .int),
  (yX12_twin, cX12_twin, 4, some .int),
  (yX12_parametersOf, cX12_parametersOf, 2, some .int),
  (yX12_rule, cX12_rule, 8, some .int),
  (yX12_drop, cX12_drop, 3, some .int),
  (yX12_ruleFor, cX12_ruleFor, 6, some .int),
  (yX12_listen, cX12_listen, 2, none),
  (yX12_hear, cX12_hear, 6, none),
  (yX12_calls, cX12_calls, 5, some .int),
  (yX12_mutant, cX12_mutant, 5, some .int),
  (yX12_runWith, cX12_runWith, 6, some .int),
  (yX12_kill, cX12_kill, 5, some .int),
  (yX12_leastSuite, cX12_leastSuite, 7, some .int),
  (yX12_isAhead, cX12_isAhead, 3, some .boolean),
  (yX12_killed, cX12_killed, 4, some .int),
  (yX12_least, cX12_least, 6, some .int),
  (yX12_breaks, cX12_breaks, 4, some .boolean),
  (yX12_property, cX12_property, 13, some .int),
  (yX12_small, cX12_small, 2, some .int),
  (yX12_isSmaller, cX12_isSmaller, 6, some .boolean),
  (yX12_smaller, cX12_smaller, 3, some .int),
  (yX12_history, cX12_history, 2, some .int),
  (yX12_op, cX12_op, 8, some .int),
  (yX12_answers, cX12_answers, 10, some .boolean),
  (yX12_mayStand, cX12_mayStand, 8, some .boolean),
  (yX12_rows, cX12_rows, 4, some .boolean),
  (yX12_linear, cX12_linear, 2, some .int),
  (yX12_place, cX12_place, 3, some .int),
  (yX12_common, cX12_common, 10, some .long),
  (yX12_luck, cX12_luck, 18, some .int),
  (yX12_share, cX12_share, 2, some .int),
  (yX12_passesBehind, cX12_passesBehind, 6, some .boolean),
  (yX12_blame, cX12_blame, 8, some .int),
  (yX12_blamed, cX12_blamed, 2, some .int),
  (yX12_build, cX12_build, 3, some .int),
  (yX12_newUnitFor, cX12_newUnitFor, 3, some .int),
  (yX12_foretold, cX12_foretold, 7, some .int),
  (yX12_touch, cX12_touch, 3, some .int),
  (yJ11_isValidCodePoint_9a6ad, cJ11_isValidCodePoint_9a6ad, 2, some .boolean),
  (yJ11_highSurrogate_5068e, cJ11_highSurrogate_5068e, 1, some .char),
  (yJ11_lowSurrogate_5068e, cJ11_lowSurrogate_5068e, 1, some .char),
  (yJ6_lowestOneBit_0f7a4, cJ6_lowestOneBit_0f7a4, 1, some .int),
  (yJ6_numberOfLeadingZeros_0f7a4, cJ6_numberOfLeadingZeros_0f7a4, 2, some .int),
  (yJ6_bitCount_0f7a4, cJ6_bitCount_0f7a4, 1, some .int),
  (yJ13_numberOfLeadingZeros_95d88, cJ13_numberOfLeadingZeros_95d88, 3, some .int),
  (yJ9_abs_067f4, cJ9_abs_067f4, 2, some .long),
  (yJ9_max_7cf53, cJ9_max_7cf53, 2, some .int),
  (yJ9_min_7cf53, cJ9_min_7cf53, 2, some .int),
  (yJ0_length_8abf5, cJ0_length_8abf5, 1, some .int),
  (yJ0_charAt_5068e, cJ0_charAt_5068e, 2, some .char),
  (yJ0_indexOf_0f7a4, cJ0_indexOf_0f7a4, 2, some .int),
  (yJ0_indexOf_7cf53, cJ0_indexOf_7cf53, 3, some .int),
  (yJ0_coder_7d493, cJ0_coder_7d493, 1, some .byte),
  (yJ0_isLatin1_aae02, cJ0_isLatin1_aae02, 1, some .boolean),
  (yJ0_checkIndex_df160, cJ0_checkIndex_df160, 2, none),
  (yJ0_checkBoundsBeginEnd_23922, cJ0_checkBoundsBeginEnd_23922, 3, none),
  (yJ1_charAt_3b067, cJ1_charAt_3b067, 2, some .char),
  (yJ1_canEncode_9a6ad, cJ1_canEncode_9a6ad, 1, some .boolean),
  (yJ1_indexOf_4cfef, cJ1_indexOf_4cfef, 4, some .int),
  (yJ1_indexOfChar_4cfef, cJ1_indexOfChar_4cfef, 6, some .int),
  (yJ2_getChar_3b067, cJ2_getChar_3b067, 2, some .char),
  (yJ2_length_9d52b, cJ2_length_9d52b, 1, some .int),
  (yJ2_indexOf_4cfef, cJ2_indexOf_4cfef, 4, some .int),
  (yJ2_indexOfChar_4cfef, cJ2_indexOfChar_4cfef, 4, some .int),
  (yJ2_indexOfCharUnsafe_4cfef, cJ2_indexOfCharUnsafe_4cfef, 5, some .int),
  (yJ2_indexOfSupplementary_4cfef, cJ2_indexOfSupplementary_4cfef, 7, some .int),
  (yJ2_charAt_3b067, cJ2_charAt_3b067, 2, some .char),
  (yJ2_checkIndex_2214a, cJ2_checkIndex_2214a, 2, none),
  (yJ2_checkBoundsBeginEnd_d044e, cJ2_checkBoundsBeginEnd_d044e, 3, none),
  (yJxa1e45_init_da8c8, cJxa1e45_init_da8c8, 1, none),
  (yJxc12de_init_da8c8, cJxc12de_init_da8c8, 1, none),
  (yJx4a65c_init_da8c8, cJx4a65c_init_da8c8, 1, none),
  (yJx4a65c_grow_92f84, cJx4a65c_grow_92f84, 4, some (.array (.object "java/lang/Object"))),
  (yJx4a65c_grow_d5877, cJx4a65c_grow_d5877, 1, some (.array (.object "java/lang/Object"))),
  (yJx4a65c_size_8abf5, cJx4a65c_size_8abf5, 1, some .int),
  (yJx4a65c_elementData_915e3, cJx4a65c_elementData_915e3, 2, some (.object "java/lang/Object")),
  (yJx4a65c_get_915e3, cJx4a65c_get_915e3, 2, some (.object "java/lang/Object")),
  (yJx4a65c_add_72be8, cJx4a65c_add_72be8, 4, none),
  (yJx4a65c_add_9ea2d, cJx4a65c_add_9ea2d, 2, some .boolean),
  (yJ7_rangeCheck_23922, cJ7_rangeCheck_23922, 3, none),
  (yJ7_fill_53178, cJ7_fill_53178, 4, none),
  (yJ7_fill_fda19, cJ7_fill_fda19, 5, none),
  (yJ7_copyOf_1904c, cJ7_copyOf_1904c, 2, some (.array (.object "java/lang/Object"))),
  (yJ7_copyOf_6403c, cJ7_copyOf_6403c, 4, some (.array (.object "java/lang/Object"))),
  (yJ7_copyOf_59c91, cJ7_copyOf_59c91, 3, some (.array .int)),
  (yJ15_checkIndex_7cf53, cJ15_checkIndex_7cf53, 2, some .int),
  (yJ8_newLength_cabcc, cJ8_newLength_cabcc, 4, some .int),
  (yJ8_hugeLength_7cf53, cJ8_hugeLength_7cf53, 3, some .int),
  (yJ3_checkIndex_8e157, cJ3_checkIndex_8e157, 3, some .int),
  (yJ3_checkFromToIndex_8c36e, cJ3_checkFromToIndex_8c36e, 4, some .int),
  (yX11_lookAtRows, cX11_lookAtRows, 3, some .int),
  (yX11_passesAlone, cX11_passesAlone, 2, some .boolean)]
def xmt (q : Nat) : XMt := xmtL.getD q (yX0_init, cX0_init, 6, none)
theorem xl0_0 : u_lay RJx4a65c TJx4a65c 0 ∈ xbig := xbt1 231 (by decide +kernel) (by decide +kernel)
theorem xl0_1 : u_lay RJx4a65c TJx4a65c 1 ∈ xbig := xbt1 227 (by decide +kernel) (by decide +kernel)
theorem xl0_2 : u_lay RJx4a65c TJx4a65c 2 ∈ xbig := xbt1 229 (by decide +kernel) (by decide +kernel)
set_option maxRecDepth 10000 in
theorem xcw0 : ∀ w ∈ u_ws RJx4a65c TJx4a65c 3, w ∈ xbig := fun w hw => by
  obtain ⟨j, hj, rfl⟩ := List.mem_map.mp hw
  exact ((lt_s (lt_s (lt_s lt_0 xl0_0) xl0_1) xl0_2) : ∀ j, j < 3 → u_lay RJx4a65c TJx4a65c j ∈ xbig) j (List.mem_range.mp hj)
theorem xci0 : XCi 0 RJx4a65c TJx4a65c 3 tyJx4a65c := ⟨rfl, xcw0, tyJx4a65c_ok, nmJx4a65c, by decide⟩
theorem xdf0 : ∀ j, j < 3 → xdef (tyJx4a65c j) = xkd (TJx4a65c j).2.2.1 := by decide +kernel
theorem xl1_0 : u_lay RX0 TX0 0 ∈ xbig := xbt7 152 (by decide +kernel) (by decide +kernel)
theorem xl1_1 : u_lay RX0 TX0 1 ∈ xbig := xbt7 154 (by decide +kernel) (by decide +kernel)
theorem xl1_2 : u_lay RX0 TX0 2 ∈ xbig := xbt7 156 (by decide +kernel) (by decide +kernel)
theorem xl1_3 : u_lay RX0 TX0 3 ∈ xbig := xbt7 158 (by decide +kernel) (by decide +kernel)
set_option maxRecDepth 10000 in
theorem xcw1 : ∀ w ∈ u_ws RX0 TX0 4, w ∈ xbig := fun w hw => by
  obtain ⟨j, hj, rfl⟩ := List.mem_map.mp hw
  exact ((lt_s (lt_s (lt_s (lt_s lt_0 xl1_0) xl1_1) xl1_2) xl1_3) : ∀ j, j < 4 → u_lay RX0 TX0 j ∈ xbig) j (List.mem_range.mp hj)
theorem xci1 : XCi 1 RX0 TX0 4 tyX0 := ⟨rfl, xcw1, tyX0_ok, nmX0, by decide⟩
theorem xdf1 : ∀ j, j < 4 → xdef (tyX0 j) = xkd (TX0 j).2.2.1 := by decide +kernel
theorem xl2_0 : u_lay RX1 TX1 0 ∈ xbig := xbt7 27 (by decide +kernel) (by decide +kernel)
theorem xl2_1 : u_lay RX1 TX1 1 ∈ xbig := xbt7 29 (by decide +kernel) (by decide +kernel)
theorem xl2_2 : u_lay RX1 TX1 2 ∈ xbig := xbt7 31 (by decide +kernel) (by decide +kernel)
theorem xl2_3 : u_lay RX1 TX1 3 ∈ xbig := xbt7 33 (by decide +kernel) (by decide +kernel)
theorem xl2_4 : u_lay RX1 TX1 4 ∈ xbig := xbt7 35 (by decide +kernel) (by decide +kernel)
theorem xl2_5 : u_lay RX1 TX1 5 ∈ xbig := xbt7 37 (by decide +kernel) (by decide +kernel)
theorem xl2_6 : u_lay RX1 TX1 6 ∈ xbig := xbt7 39 (by decide +kernel) (by decide +kernel)
set_option maxRecDepth 10000 in
theorem xcw2 : ∀ w ∈ u_ws RX1 TX1 7, w ∈ xbig := fun w hw => by
  obtain ⟨j, hj, rfl⟩ := List.mem_map.mp hw
  exact ((lt_s (lt_s (lt_s (lt_s (lt_s (lt_s (lt_s lt_0 xl2_0) xl2_1) xl2_2) xl2_3) xl2_4) xl2_5) xl2_6) : ∀ j, j < 7 → u_lay RX1 TX1 j ∈ xbig) j (List.mem_range.mp hj)
theorem xci2 : XCi 2 RX1 TX1 7 tyX1 := ⟨rfl, xcw2, tyX1_ok, nmX1, by decide⟩
theorem xdf2 : ∀ j, j < 7 → xdef (tyX1 j) = xkd (TX1 j).2.2.1 := by decide +kernel
theorem xl3_0 : u_lay RX2 TX2 0 ∈ xbig := xbt2 168 (by decide +kernel) (by decide +kernel)
theorem xl3_1 : u_lay RX2 TX2 1 ∈ xbig := xbt2 170 (by decide +kernel) (by decide +kernel)
theorem xl3_2 : u_lay RX2 TX2 2 ∈ xbig := xbt2 172 (by decide +kernel) (by decide +kernel)
theorem xl3_3 : u_lay RX2 TX2 3 ∈ xbig := xbt2 174 (by decide +kernel) (by decide +kernel)
theorem xl3_4 : u_lay RX2 TX2 4 ∈ xbig := xbt2 176 (by decide +kernel) (by decide +kernel)
theorem xl3_5 : u_lay RX2 TX2 5 ∈ xbig := xbt2 178 (by decide +kernel) (by decide +kernel)
theorem xl3_6 : u_lay RX2 TX2 6 ∈ xbig := xbt2 180 (by decide +kernel) (by decide +kernel)
set_option maxRecDepth 10000 in
theorem xcw3 : ∀ w ∈ u_ws RX2 TX2 7, w ∈ xbig := fun w hw => by
  obtain ⟨j, hj, rfl⟩ := List.mem_map.mp hw
  exact ((lt_s (lt_s (lt_s (lt_s (lt_s (lt_s (lt_s lt_0 xl3_0) xl3_1) xl3_2) xl3_3) xl3_4) xl3_5) xl3_6) : ∀ j, j < 7 → u_lay RX2 TX2 j ∈ xbig) j (List.mem_range.mp hj)
theorem xci3 : XCi 3 RX2 TX2 7 tyX2 := ⟨rfl, xcw3, tyX2_ok, nmX2, by decide⟩
theorem xdf3 : ∀ j, j < 7 → xdef (tyX2 j) = xkd (TX2 j).2.2.1 := by decide +kernel
theorem xl4_0 : u_lay RX3 TX3 0 ∈ xbig := xbt2 105 (by decide +kernel) (by decide +kernel)
theorem xl4_1 : u_lay RX3 TX3 1 ∈ xbig := xbt2 107 (by decide +kernel) (by decide +kernel)
theorem xl4_2 : u_lay RX3 TX3 2 ∈ xbig := xbt2 109 (by decide +kernel) (by decide +kernel)
theorem xl4_3 : u_lay RX3 TX3 3 ∈ xbig := xbt2 111 (by decide +kernel) (by decide +kernel)
theorem xl4_4 : u_lay RX3 TX3 4 ∈ xbig := xbt2 113 (by decide +kernel) (by decide +kernel)
theorem xl4_5 : u_lay RX3 TX3 5 ∈ xbig := xbt2 115 (by decide +kernel) (by decide +kernel)
theorem xl4_6 : u_lay RX3 TX3 6 ∈ xbig := xbt2 117 (by decide +kernel) (by decide +kernel)
theorem xl4_7 : u_lay RX3 TX3 7 ∈ xbig := xbt2 119 (by decide +kernel) (by decide +kernel)
theorem xl4_8 : u_lay RX3 TX3 8 ∈ xbig := xbt2 121 (by decide +kernel) (by decide +kernel)
theorem xl4_9 : u_lay RX3 TX3 9 ∈ xbig := xbt2 123 (by decide +kernel) (by decide +kernel)
theorem xl4_10 : u_lay RX3 TX3 10 ∈ xbig := xbt2 125 (by decide +kernel) (by decide +kernel)
theorem xl4_11 : u_lay RX3 TX3 11 ∈ xbig := xbt2 127 (by decide +kernel) (by decide +kernel)
theorem xl4_12 : u_lay RX3 TX3 12 ∈ xbig := xbt2 129 (by decide +kernel) (by decide +kernel)
theorem xl4_13 : u_lay RX3 TX3 13 ∈ xbig := xbt2 131 (by decide +kernel) (by decide +kernel)
theorem xl4_14 : u_lay RX3 TX3 14 ∈ xbig := xbt2 133 (by decide +kernel) (by decide +kernel)
theorem xl4_15 : u_lay RX3 TX3 15 ∈ xbig := xbt2 135 (by decide +kernel) (by decide +kernel)
theorem xl4_16 : u_lay RX3 TX3 16 ∈ xbig := xbt2 137 (by decide +kernel) (by decide +kernel)
theorem xl4_17 : u_lay RX3 TX3 17 ∈ xbig := xbt2 139 (by decide +kernel) (by decide +kernel)
theorem xl4_18 : u_lay RX3 TX3 18 ∈ xbig := xbt2 141 (by decide +kernel) (by decide +kernel)
theorem xl4_19 : u_lay RX3 TX3 19 ∈ xbig := xbt2 143 (by decide +kernel) (by decide +kernel)
theorem xl4_20 : u_lay RX3 TX3 20 ∈ xbig := xbt2 145 (by decide +kernel) (by decide +kernel)
theorem xl4_21 : u_lay RX3 TX3 21 ∈ xbig := xbt2 147 (by decide +kernel) (by decide +kernel)
set_option maxRecDepth 10000 in
theorem xcw4 : ∀ w ∈ u_ws RX3 TX3 22, w ∈ xbig := fun w hw => by
  obtain ⟨j, hj, rfl⟩ := List.mem_map.mp hw
  exact ((lt_s (lt_s (lt_s (lt_s (lt_s (lt_s (lt_s (lt_s (lt_s (lt_s (lt_s (lt_s (lt_s (lt_s (lt_s (lt_s (lt_s (lt_s (lt_s (lt_s (lt_s (lt_s lt_0 xl4_0) xl4_1) xl4_2) xl4_3) xl4_4) xl4_5) xl4_6) xl4_7) xl4_8) xl4_9) xl4_10) xl4_11) xl4_12) xl4_13) xl4_14) xl4_15) xl4_16) xl4_17) xl4_18) xl4_19) xl4_20) xl4_21) : ∀ j, j < 22 → u_lay RX3 TX3 j ∈ xbig) j (List.mem_range.mp hj)
theorem xci4 : XCi 4 RX3 TX3 22 tyX3 := ⟨rfl, xcw4, tyX3_ok, nmX3, by decide⟩
theorem xdf4 : ∀ j, j < 22 → xdef (tyX3 j) = xkd (TX3 j).2.2.1 := by decide +kernel
theorem xl5_0 : u_lay RX4 TX4 0 ∈ xbig := xbt2 19 (by decide +kernel) (by decide +kernel)
theorem xl5_1 : u_lay RX4 TX4 1 ∈ xbig := xbt2 21 (by decide +kernel) (by decide +kernel)
theorem xl5_2 : u_lay RX4 TX4 2 ∈ xbig := xbt2 23 (by decide +kernel) (by decide +kernel)
theorem xl5_3 : u_lay RX4 TX4 3 ∈ xbig := xbt2 25 (by decide +kernel) (by decide +kernel)
theorem xl5_4 : u_lay RX4 TX4 4 ∈ xbig := xbt2 27 (by decide +kernel) (by decide +kernel)
set_option maxRecDepth 10000 in
theorem xcw5 : ∀ w ∈ u_ws RX4 TX4 5, w ∈ xbig := fun w hw => by
  obtain ⟨j, hj, rfl⟩ := List.mem_map.mp hw
  exact ((lt_s (lt_s (lt_s (lt_s (lt_s lt_0 xl5_0) xl5_1) xl5_2) xl5_3) xl5_4) : ∀ j, j < 5 → u_lay RX4 TX4 j ∈ xbig) j (List.mem_range.mp hj)
theorem xci5 : XCi 5 RX4 TX4 5 tyX4 := ⟨rfl, xcw5, tyX4_ok, nmX4, by decide⟩
theorem xdf5 : ∀ j, j < 5 → xdef (tyX4 j) = xkd (TX4 j).2.2.1 := by decide +kernel
theorem xl6_0 : u_lay RX5 TX5 0 ∈ xbig := xbt5 86 (by decide +kernel) (by decide +kernel)
theorem xl6_1 : u_lay RX5 TX5 1 ∈ xbig := xbt5 88 (by decide +kernel) (by decide +kernel)
theorem xl6_2 : u_lay RX5 TX5 2 ∈ xbig := xbt5 90 (by decide +kernel) (by decide +kernel)
theorem xl6_3 : u_lay RX5 TX5 3 ∈ xbig := xbt5 92 (by decide +kernel) (by decide +kernel)
theorem xl6_4 : u_lay RX5 TX5 4 ∈ xbig := xbt5 94 (by decide +kernel) (by decide +kernel)
theorem xl6_5 : u_lay RX5 TX5 5 ∈ xbig := xbt5 96 (by decide +kernel) (by decide +kernel)
theorem xl6_6 : u_lay RX5 TX5 6 ∈ xbig := xbt5 98 (by decide +kernel) (by decide +kernel)
theorem xl6_7 : u_lay RX5 TX5 7 ∈ xbig := xbt5 100 (by decide +kernel) (by decide +kernel)
theorem xl6_8 : u_lay RX5 TX5 8 ∈ xbig := xbt5 102 (by decide +kernel) (by decide +kernel)
theorem xl6_9 : u_lay RX5 TX5 9 ∈ xbig := xbt5 104 (by decide +kernel) (by decide +kernel)
theorem xl6_10 : u_lay RX5 TX5 10 ∈ xbig := xbt5 106 (by decide +kernel) (by decide +kernel)
theorem xl6_11 : u_lay RX5 TX5 11 ∈ xbig := xbt5 108 (by decide +kernel) (by decide +kernel)
theorem xl6_12 : u_lay RX5 TX5 12 ∈ xbig := xbt5 110 (by decide +kernel) (by decide +kernel)
theorem xl6_13 : u_lay RX5 TX5 13 ∈ xbig := xbt5 112 (by decide +kernel) (by decide +kernel)
theorem xl6_14 : u_lay RX5 TX5 14 ∈ xbig := xbt5 114 (by decide +kernel) (by decide +kernel)
theorem xl6_15 : u_lay RX5 TX5 15 ∈ xbig := xbt5 116 (by decide +kernel) (by decide +kernel)
theorem xl6_16 : u_lay RX5 TX5 16 ∈ xbig := xbt5 118 (by decide +kernel) (by decide +kernel)
theorem xl6_17 : u_lay RX5 TX5 17 ∈ xbig := xbt5 120 (by decide +kernel) (by decide +kernel)
set_option maxRecDepth 10000 in
theorem xcw6 : ∀ w ∈ u_ws RX5 TX5 18, w ∈ xbig := fun w hw => by
  obtain ⟨j, hj, rfl⟩ := List.mem_map.mp hw
  exact ((lt_s (lt_s (lt_s (lt_s (lt_s (lt_s (lt_s (lt_s (lt_s (lt_s (lt_s (lt_s (lt_s (lt_s (lt_s (lt_s (lt_s (lt_s lt_0 xl6_0) xl6_1) xl6_2) xl6_3) xl6_4) xl6_5) xl6_6) xl6_7) xl6_8) xl6_9) xl6_10) xl6_11) xl6_12) xl6_13) xl6_14) xl6_15) xl6_16) xl6_17) : ∀ j, j < 18 → u_lay RX5 TX5 j ∈ xbig) j (List.mem_range.mp hj)
theorem xci6 : XCi 6 RX5 TX5 18 tyX5 := ⟨rfl, xcw6, tyX5_ok, nmX5, by decide⟩
theorem xdf6 : ∀ j, j < 18 → xdef (tyX5 j) = xkd (TX5 j).2.2.1 := by decide +kernel
theorem xl7_0 : u_lay RX6 TX6 0 ∈ xbig := xbt1 166 (by decide +kernel) (by decide +kernel)
theorem xl7_1 : u_lay RX6 TX6 1 ∈ xbig := xbt1 168 (by decide +kernel) (by decide +kernel)
theorem xl7_2 : u_lay RX6 TX6 2 ∈ xbig := xbt1 170 (by decide +kernel) (by decide +kernel)
theorem xl7_3 : u_lay RX6 TX6 3 ∈ xbig := xbt1 172 (by decide +kernel) (by decide +kernel)
theorem xl7_4 : u_lay RX6 TX6 4 ∈ xbig := xbt1 174 (by decide +kernel) (by decide +kernel)
theorem xl7_5 : u_lay RX6 TX6 5 ∈ xbig := xbt1 176 (by decide +kernel) (by decide +kernel)
theorem xl7_6 : u_lay RX6 TX6 6 ∈ xbig := xbt1 178 (by decide +kernel) (by decide +kernel)
theorem xl7_7 : u_lay RX6 TX6 7 ∈ xbig := xbt1 180 (by decide +kernel) (by decide +kernel)
theorem xl7_8 : u_lay RX6 TX6 8 ∈ xbig := xbt1 182 (by decide +kernel) (by decide +kernel)
theorem xl7_9 : u_lay RX6 TX6 9 ∈ xbig := xbt1 184 (by decide +kernel) (by decide +kernel)
theorem xl7_10 : u_lay RX6 TX6 10 ∈ xbig := xbt1 186 (by decide +kernel) (by decide +kernel)
theorem xl7_11 : u_lay RX6 TX6 11 ∈ xbig := xbt1 188 (by decide +kernel) (by decide +kernel)
theorem xl7_12 : u_lay RX6 TX6 12 ∈ xbig := xbt1 190 (by decide +kernel) (by decide +kernel)
theorem xl7_13 : u_lay RX6 TX6 13 ∈ xbig := xbt1 192 (by decide +kernel) (by decide +kernel)
theorem xl7_14 : u_lay RX6 TX6 14 ∈ xbig := xbt1 194 (by decide +kernel) (by decide +kernel)
theorem xl7_15 : u_lay RX6 TX6 15 ∈ xbig := xbt1 196 (by decide +kernel) (by decide +kernel)
theorem xl7_16 : u_lay RX6 TX6 16 ∈ xbig := xbt1 198 (by decide +kernel) (by decide +kernel)
theorem xl7_17 : u_lay RX6 TX6 17 ∈ xbig := xbt1 200 (by decide +kernel) (by decide +kernel)
theorem xl7_18 : u_lay RX6 TX6 18 ∈ xbig := xbt1 202 (by decide +kernel) (by decide +kernel)
theorem xl7_19 : u_lay RX6 TX6 19 ∈ xbig := xbt1 204 (by decide +kernel) (by decide +kernel)
set_option maxRecDepth 10000 in
theorem xcw7 : ∀ w ∈ u_ws RX6 TX6 20, w ∈ xbig := fun w hw => by
  obtain ⟨j, hj, rfl⟩ := List.mem_map.mp hw
  exact ((lt_s (lt_s (lt_s (lt_s (lt_s (lt_s (lt_s (lt_s (lt_s (lt_s (lt_s (lt_s (lt_s (lt_s (lt_s (lt_s (lt_s (lt_s (lt_s (lt_s lt_0 xl7_0) xl7_1) xl7_2) xl7_3) xl7_4) xl7_5) xl7_6) xl7_7) xl7_8) xl7_9) xl7_10) xl7_11) xl7_12) xl7_13) xl7_14) xl7_15) xl7_16) xl7_17) xl7_18) xl7_19) : ∀ j, j < 20 → u_lay RX6 TX6 j ∈ xbig) j (List.mem_range.mp hj)
theorem xci7 : XCi 7 RX6 TX6 20 tyX6 := ⟨rfl, xcw7, tyX6_ok, nmX6, by decide⟩
theorem xdf7 : ∀ j, j < 20 → xdef (tyX6 j) = xkd (TX6 j).2.2.1 := by decide +kernel
theorem xl8_0 : u_lay RX7 TX7 0 ∈ xbig := xbt4 93 (by decide +kernel) (by decide +kernel)
theorem xl8_1 : u_lay RX7 TX7 1 ∈ xbig := xbt4 95 (by decide +kernel) (by decide +kernel)
theorem xl8_2 : u_lay RX7 TX7 2 ∈ xbig := xbt4 97 (by decide +kernel) (by decide +kernel)
theorem xl8_3 : u_lay RX7 TX7 3 ∈ xbig := xbt4 99 (by decide +kernel) (by decide +kernel)
theorem xl8_4 : u_lay RX7 TX7 4 ∈ xbig := xbt4 101 (by decide +kernel) (by decide +kernel)
theorem xl8_5 : u_lay RX7 TX7 5 ∈ xbig := xbt4 103 (by decide +kernel) (by decide +kernel)
theorem xl8_6 : u_lay RX7 TX7 6 ∈ xbig := xbt4 105 (by decide +kernel) (by decide +kernel)
theorem xl8_7 : u_lay RX7 TX7 7 ∈ xbig := xbt4 107 (by decide +kernel) (by decide +kernel)
theorem xl8_8 : u_lay RX7 TX7 8 ∈ xbig := xbt4 109 (by decide +kernel) (by decide +kernel)
set_option maxRecDepth 10000 in
theorem xcw8 : ∀ w ∈ u_ws RX7 TX7 9, w ∈ xbig := fun w hw => by
  obtain ⟨j, hj, rfl⟩ := List.mem_map.mp hw
  exact ((lt_s (lt_s (lt_s (lt_s (lt_s (lt_s (lt_s (lt_s (lt_s lt_0 xl8_0) xl8_1) xl8_2) xl8_3) xl8_4) xl8_5) xl8_6) xl8_7) xl8_8) : ∀ j, j < 9 → u_lay RX7 TX7 j ∈ xbig) j (List.mem_range.mp hj)
theorem xci8 : XCi 8 RX7 TX7 9 tyX7 := ⟨rfl, xcw8, tyX7_ok, nmX7, by decide⟩
theorem xdf8 : ∀ j, j < 9 → xdef (tyX7 j) = xkd (TX7 j).2.2.1 := by decide +kernel
theorem xl9_0 : u_lay RX8 TX8 0 ∈ xbig := xbt1 110 (by decide +kernel) (by decide +kernel)
theorem xl9_1 : u_lay RX8 TX8 1 ∈ xbig := xbt1 112 (by decide +kernel) (by decide +kernel)
theorem xl9_2 : u_lay RX8 TX8 2 ∈ xbig := xbt1 114 (by decide +kernel) (by decide +kernel)
theorem xl9_3 : u_lay RX8 TX8 3 ∈ xbig := xbt1 116 (by decide +kernel) (by decide +kernel)
theorem xl9_4 : u_lay RX8 TX8 4 ∈ xbig := xbt1 118 (by decide +kernel) (by decide +kernel)
theorem xl9_5 : u_lay RX8 TX8 5 ∈ xbig := xbt1 120 (by decide +kernel) (by decide +kernel)
theorem xl9_6 : u_lay RX8 TX8 6 ∈ xbig := xbt1 122 (by decide +kernel) (by decide +kernel)
theorem xl9_7 : u_lay RX8 TX8 7 ∈ xbig := xbt1 124 (by decide +kernel) (by decide +kernel)
set_option maxRecDepth 10000 in
theorem xcw9 : ∀ w ∈ u_ws RX8 TX8 8, w ∈ xbig := fun w hw => by
  obtain ⟨j, hj, rfl⟩ := List.mem_map.mp hw
  exact ((lt_s (lt_s (lt_s (lt_s (lt_s (lt_s (lt_s (lt_s lt_0 xl9_0) xl9_1) xl9_2) xl9_3) xl9_4) xl9_5) xl9_6) xl9_7) : ∀ j, j < 8 → u_lay RX8 TX8 j ∈ xbig) j (List.mem_range.mp hj)
theorem xci9 : XCi 9 RX8 TX8 8 tyX8 := ⟨rfl, xcw9, tyX8_ok, nmX8, by decide⟩
theorem xdf9 : ∀ j, j < 8 → xdef (tyX8 j) = xkd (TX8 j).2.2.1 := by decide +kernel
theorem xl10_0 : u_lay RX9 TX9 0 ∈ xbig := xbt2 57 (by decide +kernel) (by decide +kernel)
theorem xl10_1 : u_lay RX9 TX9 1 ∈ xbig := xbt2 59 (by decide +kernel) (by decide +kernel)
theorem xl10_2 : u_lay RX9 TX9 2 ∈ xbig := xbt2 61 (by decide +kernel) (by decide +kernel)
theorem xl10_3 : u_lay RX9 TX9 3 ∈ xbig := xbt2 63 (by decide +kernel) (by decide +kernel)
theorem xl10_4 : u_lay RX9 TX9 4 ∈ xbig := xbt2 65 (by decide +kernel) (by decide +kernel)
theorem xl10_5 : u_lay RX9 TX9 5 ∈ xbig := xbt2 67 (by decide +kernel) (by decide +kernel)
theorem xl10_6 : u_lay RX9 TX9 6 ∈ xbig := xbt2 69 (by decide +kernel) (by decide +kernel)
theorem xl10_7 : u_lay RX9 TX9 7 ∈ xbig := xbt2 71 (by decide +kernel) (by decide +kernel)
theorem xl10_8 : u_lay RX9 TX9 8 ∈ xbig := xbt2 73 (by decide +kernel) (by decide +kernel)
set_option maxRecDepth 10000 in
theorem xcw10 : ∀ w ∈ u_ws RX9 TX9 9, w ∈ xbig := fun w hw => by
  obtain ⟨j, hj, rfl⟩ := List.mem_map.mp hw
  exact ((lt_s (lt_s (lt_s (lt_s (lt_s (lt_s (lt_s (lt_s (lt_s lt_0 xl10_0) xl10_1) xl10_2) xl10_3) xl10_4) xl10_5) xl10_6) xl10_7) xl10_8) : ∀ j, j < 9 → u_lay RX9 TX9 j ∈ xbig) j (List.mem_range.mp hj)
theorem xci10 : XCi 10 RX9 TX9 9 tyX9 := ⟨rfl, xcw10, tyX9_ok, nmX9, by decide⟩
theorem xdf10 : ∀ j, j < 9 → xdef (tyX9 j) = xkd (TX9 j).2.2.1 := by decide +kernel
theorem xl11_0 : u_lay RX10 TX10 0 ∈ xbig := xbt3 194 (by decide +kernel) (by decide +kernel)
theorem xl11_1 : u_lay RX10 TX10 1 ∈ xbig := xbt3 196 (by decide +kernel) (by decide +kernel)
theorem xl11_2 : u_lay RX10 TX10 2 ∈ xbig := xbt3 198 (by decide +kernel) (by decide +kernel)
theorem xl11_3 : u_lay RX10 TX10 3 ∈ xbig := xbt3 200 (by decide +kernel) (by decide +kernel)
theorem xl11_4 : u_lay RX10 TX10 4 ∈ xbig := xbt3 202 (by decide +kernel) (by decide +kernel)
theorem xl11_5 : u_lay RX10 TX10 5 ∈ xbig := xbt3 204 (by decide +kernel) (by decide +kernel)
theorem xl11_6 : u_lay RX10 TX10 6 ∈ xbig := xbt3 206 (by decide +kernel) (by decide +kernel)
theorem xl11_7 : u_lay RX10 TX10 7 ∈ xbig := xbt3 208 (by decide +kernel) (by decide +kernel)
theorem xl11_8 : u_lay RX10 TX10 8 ∈ xbig := xbt3 210 (by decide +kernel) (by decide +kernel)
theorem xl11_9 : u_lay RX10 TX10 9 ∈ xbig := xbt3 212 (by decide +kernel) (by decide +kernel)
set_option maxRecDepth 10000 in
theorem xcw11 : ∀ w ∈ u_ws RX10 TX10 10, w ∈ xbig := fun w hw => by
  obtain ⟨j, hj, rfl⟩ := List.mem_map.mp hw
  exact ((lt_s (lt_s (lt_s (lt_s (lt_s (lt_s (lt_s (lt_s (lt_s (lt_s lt_0 xl11_0) xl11_1) xl11_2) xl11_3) xl11_4) xl11_5) xl11_6) xl11_7) xl11_8) xl11_9) : ∀ j, j < 10 → u_lay RX10 TX10 j ∈ xbig) j (List.mem_range.mp hj)
theorem xci11 : XCi 11 RX10 TX10 10 tyX10 := ⟨rfl, xcw11, tyX10_ok, nmX10, by decide⟩
theorem xdf11 : ∀ j, j < 10 → xdef (tyX10 j) = xkd (TX10 j).2.2.1 := by decide +kernel
theorem xl12_0 : u_lay RX11 TX11 0 ∈ xbig := xbt2 203 (by decide +kernel) (by decide +kernel)
theorem xl12_1 : u_lay RX11 TX11 1 ∈ xbig := xbt2 205 (by decide +kernel) (by decide +kernel)
theorem xl12_2 : u_lay RX11 TX11 2 ∈ xbig := xbt2 207 (by decide +kernel) (by decide +kernel)
theorem xl12_3 : u_lay RX11 TX11 3 ∈ xbig := xbt2 209 (by decide +kernel) (by decide +kernel)
theorem xl12_4 : u_lay RX11 TX11 4 ∈ xbig := xbt2 211 (by decide +kernel) (by decide +kernel)
theorem xl12_5 : u_lay RX11 TX11 5 ∈ xbig := xbt2 213 (by decide +kernel) (by decide +kernel)
theorem xl12_6 : u_lay RX11 TX11 6 ∈ xbig := xbt2 215 (by decide +kernel) (by decide +kernel)
theorem xl12_7 : u_lay RX11 TX11 7 ∈ xbig := xbt2 217 (by decide +kernel) (by decide +kernel)
theorem xl12_8 : u_lay RX11 TX11 8 ∈ xbig := xbt2 219 (by decide +kernel) (by decide +kernel)
theorem xl12_9 : u_lay RX11 TX11 9 ∈ xbig := xbt2 221 (by decide +kernel) (by decide +kernel)
theorem xl12_10 : u_lay RX11 TX11 10 ∈ xbig := xbt2 223 (by decide +kernel) (by decide +kernel)
theorem xl12_11 : u_lay RX11 TX11 11 ∈ xbig := xbt2 225 (by decide +kernel) (by decide +kernel)
theorem xl12_12 : u_lay RX11 TX11 12 ∈ xbig := xbt2 227 (by decide +kernel) (by decide +kernel)
theorem xl12_13 : u_lay RX11 TX11 13 ∈ xbig := xbt2 229 (by decide +kernel) (by decide +kernel)
theorem xl12_14 : u_lay RX11 TX11 14 ∈ xbig := xbt2 231 (by decide +kernel) (by decide +kernel)
theorem xl12_15 : u_lay RX11 TX11 15 ∈ xbig := xbt2 233 (by decide +kernel) (by decide +kernel)
theorem xl12_16 : u_lay RX11 TX11 16 ∈ xbig := xbt2 235 (by decide +kernel) (by decide +kernel)
theorem xl12_17 : u_lay RX11 TX11 17 ∈ xbig := xbt2 237 (by decide +kernel) (by decide +kernel)
theorem xl12_18 : u_lay RX11 TX11 18 ∈ xbig := xbt2 239 (by decide +kernel) (by decide +kernel)
set_option maxRecDepth 10000 in
theorem xcw12 : ∀ w ∈ u_ws RX11 TX11 19, w ∈ xbig := fun w hw => by
  obtain ⟨j, hj, rfl⟩ := List.mem_map.mp hw
  exact ((lt_s (lt_s (lt_s (lt_s (lt_s (lt_s (lt_s (lt_s (lt_s (lt_s (lt_s (lt_s (lt_s (lt_s (lt_s (lt_s (lt_s (lt_s (lt_s lt_0 xl12_0) xl12_1) xl12_2) xl12_3) xl12_4) xl12_5) xl12_6) xl12_7) xl12_8) xl12_9) xl12_10) xl12_11) xl12_12) xl12_13) xl12_14) xl12_15) xl12_16) xl12_17) xl12_18) : ∀ j, j < 19 → u_lay RX11 TX11 j ∈ xbig) j (List.mem_range.mp hj)
theorem xci12 : XCi 12 RX11 TX11 19 tyX11 := ⟨rfl, xcw12, tyX11_ok, nmX11, by decide⟩
theorem xdf12 : ∀ j, j < 19 → xdef (tyX11 j) = xkd (TX11 j).2.2.1 := by decide +kernel
theorem xl13_0 : u_lay RX12 TX12 0 ∈ xbig := xbt8 143 (by decide +kernel) (by decide +kernel)
theorem xl13_1 : u_lay RX12 TX12 1 ∈ xbig := xbt8 145 (by decide +kernel) (by decide +kernel)
theorem xl13_2 : u_lay RX12 TX12 2 ∈ xbig := xbt8 147 (by decide +kernel) (by decide +kernel)
theorem xl13_3 : u_lay RX12 TX12 3 ∈ xbig := xbt8 149 (by decide +kernel) (by decide +kernel)
theorem xl13_4 : u_lay RX12 TX12 4 ∈ xbig := xbt8 151 (by decide +kernel) (by decide +kernel)
theorem xl13_5 : u_lay RX12 TX12 5 ∈ xbig := xbt8 153 (by decide +kernel) (by decide +kernel)
theorem xl13_6 : u_lay RX12 TX12 6 ∈ xbig := xbt8 155 (by decide +kernel) (by decide +kernel)
theorem xl13_7 : u_lay RX12 TX12 7 ∈ xbig := xbt8 157 (by decide +kernel) (by decide +kernel)
theorem xl13_8 : u_lay RX12 TX12 8 ∈ xbig := xbt8 159 (by decide +kernel) (by decide +kernel)
theorem xl13_9 : u_lay RX12 TX12 9 ∈ xbig := xbt8 161 (by decide +kernel) (by decide +kernel)
theorem xl13_10 : u_lay RX12 TX12 10 ∈ xbig := xbt8 163 (by decide +kernel) (by decide +kernel)
theorem xl13_11 : u_lay RX12 TX12 11 ∈ xbig := xbt8 165 (by decide +kernel) (by decide +kernel)
theorem xl13_12 : u_lay RX12 TX12 12 ∈ xbig := xbt8 167 (by decide +kernel) (by decide +kernel)
theorem xl13_13 : u_lay RX12 TX12 13 ∈ xbig := xbt8 169 (by decide +kernel) (by decide +kernel)
theorem xl13_14 : u_lay RX12 TX12 14 ∈ xbig := xbt8 171 (by decide +kernel) (by decide +kernel)
theorem xl13_15 : u_lay RX12 TX12 15 ∈ xbig := xbt8 173 (by decide +kernel) (by decide +kernel)
theorem xl13_16 : u_lay RX12 TX12 16 ∈ xbig := xbt8 175 (by decide +kernel) (by decide +kernel)
theorem xl13_17 : u_lay RX12 TX12 17 ∈ xbig := xbt8 177 (by decide +kernel) (by decide +kernel)
theorem xl13_18 : u_lay RX12 TX12 18 ∈ xbig := xbt8 179 (by decide +kernel) (by decide +kernel)
theorem xl13_19 : u_lay RX12 TX12 19 ∈ xbig := xbt8 181 (by decide +kernel) (by decide +kernel)
theorem xl13_20 : u_lay RX12 TX12 20 ∈ xbig := xbt8 183 (by decide +kernel) (by decide +kernel)
theorem xl13_21 : u_lay RX12 TX12 21 ∈ xbig := xbt8 185 (by decide +kernel) (by decide +kernel)
theorem xl13_22 : u_lay RX12 TX12 22 ∈ xbig := xbt8 187 (by decide +kernel) (by decide +kernel)
theorem xl13_23 : u_lay RX12 TX12 23 ∈ xbig := xbt8 189 (by decide +kernel) (by decide +kernel)
theorem xl13_24 : u_lay RX12 TX12 24 ∈ xbig := xbt8 191 (by decide +kernel) (by decide +kernel)
theorem xl13_25 : u_lay RX12 TX12 25 ∈ xbig := xbt8 193 (by decide +kernel) (by decide +kernel)
theorem xl13_26 : u_lay RX12 TX12 26 ∈ xbig := xbt8 195 (by decide +kernel) (by decide +kernel)
theorem xl13_27 : u_lay RX12 TX12 27 ∈ xbig := xbt8 197 (by decide +kernel) (by decide +kernel)
theorem xl13_28 : u_lay RX12 TX12 28 ∈ xbig := xbt8 199 (by decide +kernel) (by decide +kernel)
theorem xl13_29 : u_lay RX12 TX12 29 ∈ xbig := xbt8 201 (by decide +kernel) (by decide +kernel)
theorem xl13_30 : u_lay RX12 TX12 30 ∈ xbig := xbt8 203 (by decide +kernel) (by decide +kernel)
theorem xl13_31 : u_lay RX12 TX12 31 ∈ xbig := xbt8 205 (by decide +kernel) (by decide +kernel)
theorem xl13_32 : u_lay RX12 TX12 32 ∈ xbig := xbt8 207 (by decide +kernel) (by decide +kernel)
theorem xl13_33 : u_lay RX12 TX12 33 ∈ xbig := xbt8 209 (by decide +kernel) (by decide +kernel)
theorem xl13_34 : u_lay RX12 TX12 34 ∈ xbig := xbt8 211 (by decide +kernel) (by decide +kernel)
theorem xl13_35 : u_lay RX12 TX12 35 ∈ xbig := xbt8 213 (by decide +kernel) (by decide +kernel)
theorem xl13_36 : u_lay RX12 TX12 36 ∈ xbig := xbt8 215 (by decide +kernel) (by decide +kernel)
theorem xl13_37 : u_lay RX12 TX12 37 ∈ xbig := xbt8 217 (by decide +kernel) (by decide +kernel)
theorem xl13_38 : u_lay RX12 TX12 38 ∈ xbig := xbt8 219 (by decide +kernel) (by decide +kernel)
theorem xl13_39 : u_lay RX12 TX12 39 ∈ xbig := xbt8 221 (by decide +kernel) (by decide +kernel)
theorem xl13_40 : u_lay RX12 TX12 40 ∈ xbig := xbt8 223 (by decide +kernel) (by decide +kernel)
theorem xl13_41 : u_lay RX12 TX12 41 ∈ xbig := xbt8 225 (by decide +kernel) (by decide +kernel)
theorem xl13_42 : u_lay RX12 TX12 42 ∈ xbig := xbt8 227 (by decide +kernel) (by decide +kernel)
theorem xl13_43 : u_lay RX12 TX12 43 ∈ xbig := xbt8 229 (by decide +kernel) (by decide +kernel)
theorem xl13_44 : u_lay RX12 TX12 44 ∈ xbig := xbt8 231 (by decide +kernel) (by decide +kernel)
theorem xl13_45 : u_lay RX12 TX12 45 ∈ xbig := xbt8 233 (by decide +kernel) (by decide +kernel)
theorem xl13_46 : u_lay RX12 TX12 46 ∈ xbig := xbt8 235 (by decide +kernel) (by decide +kernel)
theorem xl13_47 : u_lay RX12 TX12 47 ∈ xbig := xbt8 237 (by decide +kernel) (by decide +kernel)
theorem xl13_48 : u_lay RX12 TX12 48 ∈ xbig := xbt8 239 (by decide +kernel) (by decide +kernel)
theorem xl13_49 : u_lay RX12 TX12 49 ∈ xbig := xbt9 1 (by decide +kernel) (by decide +kernel)
theorem xl13_50 : u_lay RX12 TX12 50 ∈ xbig := xbt9 3 (by decide +kernel) (by decide +kernel)
theorem xl13_51 : u_lay RX12 TX12 51 ∈ xbig := xbt9 5 (by decide +kernel) (by decide +kernel)
theorem xl13_52 : u_lay RX12 TX12 52 ∈ xbig := xbt9 7 (by decide +kernel) (by decide +kernel)
theorem xl13_53 : u_lay RX12 TX12 53 ∈ xbig := xbt9 9 (by decide +kernel) (by decide +kernel)
theorem xl13_54 : u_lay RX12 TX12 54 ∈ xbig := xbt9 11 (by decide +kernel) (by decide +kernel)
theorem xl13_55 : u_lay RX12 TX12 55 ∈ xbig := xbt9 13 (by decide +kernel) (by decide +kernel)
theorem xl13_56 : u_lay RX12 TX12 56 ∈ xbig := xbt9 15 (by decide +kernel) (by decide +kernel)
theorem xl13_57 : u_lay RX12 TX12 57 ∈ xbig := xbt9 17 (by decide +kernel) (by decide +kernel)
theorem xl13_58 : u_lay RX12 TX12 58 ∈ xbig := xbt9 19 (by decide +kernel) (by decide +kernel)
theorem xl13_59 : u_lay RX12 TX12 59 ∈ xbig := xbt9 21 (by decide +kernel) (by decide +kernel)
theorem xl13_60 : u_lay RX12 TX12 60 ∈ xbig := xbt9 23 (by decide +kernel) (by decide +kernel)
theorem xl13_61 : u_lay RX12 TX12 61 ∈ xbig := xbt9 25 (by decide +kernel) (by decide +kernel)
theorem xl13_62 : u_lay RX12 TX12 62 ∈ xbig := xbt9 27 (by decide +kernel) (by decide +kernel)
theorem xl13_63 : u_lay RX12 TX12 63 ∈ xbig := xbt9 29 (by decide +kernel) (by decide +kernel)
theorem xl13_64 : u_lay RX12 TX12 64 ∈ xbig := xbt9 31 (by decide +kernel) (by decide +kernel)
theorem xl13_65 : u_lay RX12 TX12 65 ∈ xbig := xbt9 33 (by decide +kernel) (by decide +kernel)
theorem xl13_66 : u_lay RX12 TX12 66 ∈ xbig := xbt9 35 (by decide +kernel) (by decide +kernel)
theorem xl13_67 : u_lay RX12 TX12 67 ∈ xbig := xbt9 37 (by decide +kernel) (by decide +kernel)
theorem xl13_68 : u_lay RX12 TX12 68 ∈ xbig := xbt9 39 (by decide +kernel) (by decide +kernel)
theorem xl13_69 : u_lay RX12 TX12 69 ∈ xbig := xbt9 41 (by decide +kernel) (by decide +kernel)
theorem xl13_70 : u_lay RX12 TX12 70 ∈ xbig := xbt9 43 (by decide +kernel) (by decide +kernel)
theorem xl13_71 : u_lay RX12 TX12 71 ∈ xbig := xbt9 45 (by decide +kernel) (by decide +kernel)
theorem xl13_72 : u_lay RX12 TX12 72 ∈ xbig := xbt9 47 (by decide +kernel) (by decide +kernel)
theorem xl13_73 : u_lay RX12 TX12 73 ∈ xbig := xbt9 49 (by decide +kernel) (by decide +kernel)
theorem xl13_74 : u_lay RX12 TX12 74 ∈ xbig := xbt9 51 (by decide +kernel) (by decide +kernel)
theorem xl13_75 : u_lay RX12 TX12 75 ∈ xbig := xbt9 53 (by decide +kernel) (by decide +kernel)
theorem xl13_76 : u_lay RX12 TX12 76 ∈ xbig := xbt9 55 (by decide +kernel) (by decide +kernel)
theorem xl13_77 : u_lay RX12 TX12 77 ∈ xbig := xbt9 57 (by decide +kernel) (by decide +kernel)
theorem xl13_78 : u_lay RX12 TX12 78 ∈ xbig := xbt9 59 (by decide +kernel) (by decide +kernel)
theorem xl13_79 : u_lay RX12 TX12 79 ∈ xbig := xbt9 61 (by decide +kernel) (by decide +kernel)
theorem xl13_80 : u_lay RX12 TX12 80 ∈ xbig := xbt9 63 (by decide +kernel) (by decide +kernel)
theorem xl13_81 : u_lay RX12 TX12 81 ∈ xbig := xbt9 65 (by decide +kernel) (by decide +kernel)
theorem xl13_82 : u_lay RX12 TX12 82 ∈ xbig := xbt9 67 (by decide +kernel) (by decide +kernel)
theorem xl13_83 : u_lay RX12 TX12 83 ∈ xbig := xbt9 69 (by decide +kernel) (by decide +kernel)
theorem xl13_84 : u_lay RX12 TX12 84 ∈ xbig := xbt9 71 (by decide +kernel) (by decide +kernel)
theorem xl13_85 : u_lay RX12 TX12 85 ∈ xbig := xbt9 73 (by decide +kernel) (by decide +kernel)
theorem xl13_86 : u_lay RX12 TX12 86 ∈ xbig := xbt9 75 (by decide +kernel) (by decide +kernel)
theorem xl13_87 : u_lay RX12 TX12 87 ∈ xbig := xbt9 77 (by decide +kernel) (by decide +kernel)
theorem xl13_88 : u_lay RX12 TX12 88 ∈ xbig := xbt9 79 (by decide +kernel) (by decide +kernel)
theorem xl13_89 : u_lay RX12 TX12 89 ∈ xbig := xbt9 81 (by decide +kernel) (by decide +kernel)
theorem xl13_90 : u_lay RX12 TX12 90 ∈ xbig := xbt9 83 (by decide +kernel) (by decide +kernel)
theorem xl13_91 : u_lay RX12 TX12 91 ∈ xbig := xbt9 85 (by decide +kernel) (by decide +kernel)
theorem xl13_92 : u_lay RX12 TX12 92 ∈ xbig := xbt9 87 (by decide +kernel) (by decide +kernel)
theorem xl13_93 : u_lay RX12 TX12 93 ∈ xbig := xbt9 89 (by decide +kernel) (by decide +kernel)
theorem xl13_94 : u_lay RX12 TX12 94 ∈ xbig := xbt9 91 (by decide +kernel) (by decide +kernel)
theorem xl13_95 : u_lay RX12 TX12 95 ∈ xbig := xbt9 93 (by decide +kernel) (by decide +kernel)
theorem xl13_96 : u_lay RX12 TX12 96 ∈ xbig := xbt9 95 (by decide +kernel) (by decide +kernel)
theorem xl13_97 : u_lay RX12 TX12 97 ∈ xbig := xbt9 97 (by decide +kernel) (by decide +kernel)
theorem xl13_98 : u_lay RX12 TX12 98 ∈ xbig := xbt9 99 (by decide +kernel) (by decide +kernel)
theorem xl13_99 : u_lay RX12 TX12 99 ∈ xbig := xbt9 101 (by decide +kernel) (by decide +kernel)
theorem xl13_100 : u_lay RX12 TX12 100 ∈ xbig := xbt9 103 (by decide +kernel) (by decide +kernel)
theorem xl13_101 : u_lay RX12 TX12 101 ∈ xbig := xbt9 105 (by decide +kernel) (by decide +kernel)
theorem xl13_102 : u_lay RX12 TX12 102 ∈ xbig := xbt9 107 (by decide +kernel) (by decide +kernel)
theorem xl13_103 : u_lay RX12 TX12 103 ∈ xbig := xbt9 109 (by decide +kernel) (by decide +kernel)
theorem xl13_104 : u_lay RX12 TX12 104 ∈ xbig := xbt9 111 (by decide +kernel) (by decide +kernel)
theorem xl13_105 : u_lay RX12 TX12 105 ∈ xbig := xbt9 113 (by decide +kernel) (by decide +kernel)
theorem xl13_106 : u_lay RX12 TX12 106 ∈ xbig := xbt9 115 (by decide +kernel) (by decide +kernel)
theorem xl13_107 : u_lay RX12 TX12 107 ∈ xbig := xbt9 117 (by decide +kernel) (by decide +kernel)
theorem xl13_108 : u_lay RX12 TX12 108 ∈ xbig := xbt9 119 (by decide +kernel) (by decide +kernel)
theorem xl13_109 : u_lay RX12 TX12 109 ∈ xbig := xbt9 121 (by decide +kernel) (by decide +kernel)
theorem xl13_110 : u_lay RX12 TX12 110 ∈ xbig := xbt9 123 (by decide +kernel) (by decide +kernel)
theorem xl13_111 : u_lay RX12 TX12 111 ∈ xbig := xbt9 125 (by decide +kernel) (by decide +kernel)
theorem xl13_112 : u_lay RX12 TX12 112 ∈ xbig := xbt9 127 (by decide +kernel) (by decide +kernel)
theorem xl13_113 : u_lay RX12 TX12 113 ∈ xbig := xbt9 129 (by decide +kernel) (by decide +kernel)
theorem xl13_114 : u_lay RX12 TX12 114 ∈ xbig := xbt9 131 (by decide +kernel) (by decide +kernel)
theorem xl13_115 : u_lay RX12 TX12 115 ∈ xbig := xbt9 133 (by decide +kernel) (by decide +kernel)
theorem xl13_116 : u_lay RX12 TX12 116 ∈ xbig := xbt9 135 (by decide +kernel) (by decide +kernel)
theorem xl13_117 : u_lay RX12 TX12 117 ∈ xbig := xbt9 137 (by decide +kernel) (by decide +kernel)
theorem xl13_118 : u_lay RX12 TX12 118 ∈ xbig := xbt9 139 (by decide +kernel) (by decide +kernel)
theorem xl13_119 : u_lay RX12 TX12 119 ∈ xbig := xbt9 141 (by decide +kernel) (by decide +kernel)
theorem xl13_120 : u_lay RX12 TX12 120 ∈ xbig := xbt9 143 (by decide +kernel) (by decide +kernel)
theorem xl13_121 : u_lay RX12 TX12 121 ∈ xbig := xbt9 145 (by decide +kernel) (by decide +kernel)
theorem xl13_122 : u_lay RX12 TX12 122 ∈ xbig := xbt9 147 (by decide +kernel) (by decide +kernel)
theorem xl13_123 : u_lay RX12 TX12 123 ∈ xbig := xbt9 149 (by decide +kernel) (by decide +kernel)
theorem xl13_124 : u_lay RX12 TX12 124 ∈ xbig := xbt9 151 (by decide +kernel) (by decide +kernel)
theorem xl13_125 : u_lay RX12 TX12 125 ∈ xbig := xbt9 153 (by decide +kernel) (by decide +kernel)
theorem xl13_126 : u_lay RX12 TX12 126 ∈ xbig := xbt9 155 (by decide +kernel) (by decide +kernel)
theorem xl13_127 : u_lay RX12 TX12 127 ∈ xbig := xbt9 157 (by decide +kernel) (by decide +kernel)
theorem xl13_128 : u_lay RX12 TX12 128 ∈ xbig := xbt9 159 (by decide +kernel) (by decide +kernel)
theorem xl13_129 : u_lay RX12 TX12 129 ∈ xbig := xbt9 161 (by decide +kernel) (by decide +kernel)
theorem xl13_130 : u_lay RX12 TX12 130 ∈ xbig := xbt9 163 (by decide +kernel) (by decide +kernel)
theorem xl13_131 : u_lay RX12 TX12 131 ∈ xbig := xbt9 165 (by decide +kernel) (by decide +kernel)
theorem xl13_132 : u_lay RX12 TX12 132 ∈ xbig := xbt9 167 (by decide +kernel) (by decide +kernel)
theorem xl13_133 : u_lay RX12 TX12 133 ∈ xbig := xbt9 169 (by decide +kernel) (by decide +kernel)
theorem xl13_134 : u_lay RX12 TX12 134 ∈ xbig := xbt9 171 (by decide +kernel) (by decide +kernel)
theorem xl13_135 : u_lay RX12 TX12 135 ∈ xbig := xbt9 173 (by decide +kernel) (by decide +kernel)
theorem xl13_136 : u_lay RX12 TX12 136 ∈ xbig := xbt9 175 (by decide +kernel) (by decide +kernel)
theorem xl13_137 : u_lay RX12 TX12 137 ∈ xbig := xbt9 177 (by decide +kernel) (by decide +kernel)
theorem xl13_138 : u_lay RX12 TX12 138 ∈ xbig := xbt9 179 (by decide +kernel) (by decide +kernel)
theorem xl13_139 : u_lay RX12 TX12 139 ∈ xbig := xbt9 181 (by decide +kernel) (by decide +kernel)
theorem xl13_140 : u_lay RX12 TX12 140 ∈ xbig := xbt9 183 (by decide +kernel) (by decide +kernel)
theorem xl13_141 : u_lay RX12 TX12 141 ∈ xbig := xbt9 185 (by decide +kernel) (by decide +kernel)
theorem xl13_142 : u_lay RX12 TX12 142 ∈ xbig := xbt9 187 (by decide +kernel) (by decide +kernel)
theorem xl13_143 : u_lay RX12 TX12 143 ∈ xbig := xbt9 189 (by decide +kernel) (by decide +kernel)
theorem xl13_144 : u_lay RX12 TX12 144 ∈ xbig := xbt9 191 (by decide +kernel) (by decide +kernel)
theorem xl13_145 : u_lay RX12 TX12 145 ∈ xbig := xbt9 193 (by decide +kernel) (by decide +kernel)
theorem xl13_146 : u_lay RX12 TX12 146 ∈ xbig := xbt9 195 (by decide +kernel) (by decide +kernel)
theorem xl13_147 : u_lay RX12 TX12 147 ∈ xbig := xbt9 197 (by decide +kernel) (by decide +kernel)
theorem xl13_148 : u_lay RX12 TX12 148 ∈ xbig := xbt9 199 (by decide +kernel) (by decide +kernel)
theorem xl13_149 : u_lay RX12 TX12 149 ∈ xbig := xbt9 201 (by decide +kernel) (by decide +kernel)
theorem xl13_150 : u_lay RX12 TX12 150 ∈ xbig := xbt9 203 (by decide +kernel) (by decide +kernel)
theorem xl13_151 : u_lay RX12 TX12 151 ∈ xbig := xbt9 205 (by decide +kernel) (by decide +kernel)
theorem xl13_152 : u_lay RX12 TX12 152 ∈ xbig := xbt9 207 (by decide +kernel) (by decide +kernel)
theorem xl13_153 : u_lay RX12 TX12 153 ∈ xbig := xbt9 209 (by decide +kernel) (by decide +kernel)
theorem xl13_154 : u_lay RX12 TX12 154 ∈ xbig := xbt9 211 (by decide +kernel) (by decide +kernel)
theorem xl13_155 : u_lay RX12 TX12 155 ∈ xbig := xbt9 213 (by decide +kernel) (by decide +kernel)
theorem xl13_156 : u_lay RX12 TX12 156 ∈ xbig := xbt9 215 (by decide +kernel) (by decide +kernel)
set_option maxRecDepth 10000 in
theorem xcw13 : ∀ w ∈ u_ws RX12 TX12 157, w ∈ xbig := fun w hw => by
  obtain ⟨j, hj, rfl⟩ := List.mem_map.mp hw
  exact ((lt_s (lt_s (lt_s (lt_s (lt_s (lt_s (lt_s (lt_s (lt_s (lt_s (lt_s (lt_s (lt_s (lt_s (lt_s (lt_s (lt_s (lt_s (lt_s (lt_s (lt_s (lt_s (lt_s (lt_s (lt_s (lt_s (lt_s (lt_s (lt_s (lt_s (lt_s (lt_s (lt_s (lt_s (lt_s (lt_s (lt_s (lt_s (lt_s (lt_s (lt_s (lt_s (lt_s (lt_s (lt_s (lt_s (lt_s (lt_s (lt_s (lt_s (lt_s (lt_s (lt_s (lt_s (lt_s (lt_s (lt_s (lt_s (lt_s (lt_s (lt_s (lt_s (lt_s (lt_s (lt_s (lt_s (lt_s (lt_s (lt_s (lt_s (lt_s (lt_s (lt_s (lt_s (lt_s (lt_s (lt_s (lt_s (lt_s (lt_s (lt_s (lt_s (lt_s (lt_s (lt_s (lt_s (lt_s (lt_s (lt_s (lt_s (lt_s (lt_s (lt_s (lt_s (lt_s (lt_s (lt_s (lt_s (lt_s (lt_s (lt_s (lt_s (lt_s (lt_s (lt_s (lt_s (lt_s (lt_s (lt_s (lt_s (lt_s (lt_s (lt_s (lt_s (lt_s (lt_s (lt_s (lt_s (lt_s (lt_s (lt_s (lt_s (lt_s (lt_s (lt_s (lt_s (lt_s (lt_s (lt_s (lt_s (lt_s (lt_s (lt_s (lt_s (lt_s (lt_s (lt_s (lt_s (lt_s (lt_s (lt_s (lt_s (lt_s (lt_s (lt_s (lt_s (lt_s (lt_s (lt_s (lt_s (lt_s (lt_s (lt_s (lt_s (lt_s (lt_s (lt_s lt_0 xl13_0) xl13_1) xl13_2) xl13_3) xl13_4) xl13_5) xl13_6) xl13_7) xl13_8) xl13_9) xl13_10) xl13_11) xl13_12) xl13_13) xl13_14) xl13_15) xl13_16) xl13_17) xl13_18) xl13_19) xl13_20) xl13_21) xl13_22) xl13_23) xl13_24) xl13_25) xl13_26) xl13_27) xl13_28) xl13_29) xl13_30) xl13_31) xl13_32) xl13_33) xl13_34) xl13_35) xl13_36) xl13_37) xl13_38) xl13_39) xl13_40) xl13_41) xl13_42) xl13_43) xl13_44) xl13_45) xl13_46) xl13_47) xl13_48) xl13_49) xl13_50) xl13_51) xl13_52) xl13_53) xl13_54) xl13_55) xl13_56) xl13_57) xl13_58) xl13_59) xl13_60) xl13_61) xl13_62) xl13_63) xl13_64) xl13_65) xl13_66) xl13_67) xl13_68) xl13_69) xl13_70) xl13_71) xl13_72) xl13_73) xl13_74) xl13_75) xl13_76) xl13_77) xl13_78) xl13_79) xl13_80) xl13_81) xl13_82) xl13_83) xl13_84) xl13_85) xl13_86) xl13_87) xl13_88) xl13_89) xl13_90) xl13_91) xl13_92) xl13_93) xl13_94) xl13_95) xl13_96) xl13_97) xl13_98) xl13_99) xl13_100) xl13_101) xl13_102) xl13_103) xl13_104) xl13_105) xl13_106) xl13_107) xl13_108) xl13_109) xl13_110) xl13_111) xl13_112) xl13_113) xl13_114) xl13_115) xl13_116) xl13_117) xl13_118) xl13_119) xl13_120) xl13_121) xl13_122) xl13_123) xl13_124) xl13_125) xl13_126) xl13_127) xl13_128) xl13_129) xl13_130) xl13_131) xl13_132) xl13_133) xl13_134) xl13_135) xl13_136) xl13_137) xl13_138) xl13_139) xl13_140) xl13_141) xl13_142) xl13_143) xl13_144) xl13_145) xl13_146) xl13_147) xl13_148) xl13_149) xl13_150) xl13_151) xl13_152) xl13_153) xl13_154) xl13_155) xl13_156) : ∀ j, j < 157 → u_lay RX12 TX12 j ∈ xbig) j (List.mem_range.mp hj)
theorem xci13 : XCi 13 RX12 TX12 157 tyX12 := ⟨rfl, xcw13, tyX12_ok, nmX12, by decide⟩
theorem xdf13 : ∀ j, j < 157 → xdef (tyX12 j) = xkd (TX12 j).2.2.1 := by decide +kernel
theorem oiM : Cond.instanceMethod objectInit ∈ xbig := xbt1 35 (by decide +kernel) (by decide +kernel)
theorem oiC : Cond.code objectInit ⟨#[0xb1]⟩ 1 none ∈ xbig := xbt1 36 (by decide +kernel) (by decide +kernel)
theorem xac100 : Cond.arrayClass .int ∈ xbig := xbt1 128 (by decide +kernel) (by decide +kernel)
theorem xac101 : Cond.arrayClass .byte ∈ xbig := xbt1 127 (by decide +kernel) (by decide +kernel)
theorem xac102 : Cond.arrayClass .boolean ∈ xbig := xbt1 207 (by decide +kernel) (by decide +kernel)
theorem xac103 : Cond.arrayClass .short ∈ xbig := xbt9 218 (by decide +kernel) (by decide +kernel)
theorem xac104 : Cond.arrayClass .long ∈ xbig := xbt1 129 (by decide +kernel) (by decide +kernel)
theorem xov110 {G : XG} (U : State) (h : XE G U) : va_AO "java/lang/Object" U := h.2.2.2.2.2.1.1.1
theorem xov111 {G : XG} (U : State) (h : XE G U) : va_AO "TestHouse$Parcel" U := h.2.2.2.2.2.1.1.2.1
theorem xov112 {G : XG} (U : State) (h : XE G U) : va_AO "TestHouse$Twin" U := h.2.2.2.2.2.1.1.2.2
theorem w_acn : Cond.native arraycopyName ∈ xbig := xbt4 29 (by decide +kernel) (by decide +kernel)
theorem w_acs : Cond.static arraycopyName ∈ xbig := xbt4 28 (by decide +kernel) (by decide +kernel)
theorem w_aci : Cond.initialized "java/lang/System" ∈ xbig := xbt1 22 (by decide +kernel) (by decide +kernel)
theorem w_mi : Cond.initialized "java/lang/Math" ∈ xbig := xbt1 16 (by decide +kernel) (by decide +kernel)
theorem w_mmax1 : Cond.static Lib.Math.max.name ∈ xbig := xbt3 74 (by decide +kernel) (by decide +kernel)
theorem w_mmax2 : Cond.code Lib.Math.max.name Lib.Math.max.code 2 (some .int) ∈ xbig := xbt3 75 (by decide +kernel) (by decide +kernel)
theorem w_mmin1 : Cond.static Lib.Math.min.name ∈ xbig := xbt3 77 (by decide +kernel) (by decide +kernel)
theorem w_mmin2 : Cond.code Lib.Math.min.name Lib.Math.min.code 2 (some .int) ∈ xbig := xbt3 78 (by decide +kernel) (by decide +kernel)
theorem w_ma1 : Cond.static Lib.MathLoose.abs_long.x ∈ xbig := xbt6 233 (by decide +kernel) (by decide +kernel)
theorem w_ma2 : Cond.code Lib.MathLoose.abs_long.x Lib.MathLoose.abs_long.code 2 (some .long) ∈ xbig := xbt6 234 (by decide +kernel) (by decide +kernel)
theorem w_cl1 : Cond.sameMethod "[I" "java/lang/Object" "clone" "()Ljava/lang/Object;" ∈ xbig := xbt5 27 (by decide +kernel) (by decide +kernel)
theorem w_cl2 : Cond.native ⟨"java/lang/Object", "clone", "()Ljava/lang/Object;"⟩ ∈ xbig := xbt5 28 (by decide +kernel) (by decide +kernel)
theorem w_cl3 : Cond.instanceMethod ⟨"java/lang/Object", "clone", "()Ljava/lang/Object;"⟩ ∈ xbig := xbt5 29 (by decide +kernel) (by decide +kernel)
theorem w_cl4 : Cond.selects "[I" ⟨"[I", "clone", "()Ljava/lang/Object;"⟩ ⟨"java/lang/Object", "clone", "()Ljava/lang/Object;"⟩ ∈ xbig := xbt5 30 (by decide +kernel) (by decide +kernel)
theorem w_gc1 : Cond.selects "[Ljava/lang/Object;" ⟨"java/lang/Object", "getClass", "()Ljava/lang/Class;"⟩ ⟨"java/lang/Object", "getClass", "()Ljava/lang/Class;"⟩ ∈ xbig := xbt12 20 (by decide +kernel) (by decide +kernel)
theorem w_gc2 : Cond.instanceMethod ⟨"java/lang/Object", "getClass", "()Ljava/lang/Class;"⟩ ∈ xbig := xbt4 3 (by decide +kernel) (by decide +kernel)
theorem w_gc3 : Cond.native ⟨"java/lang/Object", "getClass", "()Ljava/lang/Class;"⟩ ∈ xbig := xbt4 19 (by decide +kernel) (by decide +kernel)
theorem w_ao113 {G : XG} (U : State) (h : XE G U) : va_B (.arrayOver (.array .int)) U := h.2.2.2.2.2.1.2.2.2.1
theorem w_ao114 {G : XG} (U : State) (h : XE G U) : va_B (.arrayOver (.array .long)) U := h.2.2.2.2.2.1.2.2.2.2.1
theorem nm_100 {G : XG} (U : State) (h : XE G U) : U.vm.findClass "[I" = some (G.2.1 100) := (h.1.2 0 _ rfl).2
theorem nm_110 {G : XG} (U : State) (h : XE G U) : U.vm.findClass "[Ljava/lang/Object;" = some (G.2.1 110) := va_nmO (h.1.2 5 _ rfl).2 rfl
theorem casg {G : XG} {U : State} {C : String} {i : Nat} {comp : ClassId} (hf : U.vm.findClass C = some (G.1.1 i)) (hw : va_Nw (.castable C "java/lang/Object") U) (hc : U.vm.findClass "java/lang/Object" = some comp) : U.vm.assignable (G.1.1 i) comp = true := by
  obtain ⟨c0, t0, f1, f2, f3⟩ := Cond.castable_spec (va_Nw.use (A := #[]) rfl hw)
  cases hf.symm.trans f1
  cases hc.symm.trans f2
  exact f3
theorem hasg110 {G : XG} (U : State) (h : XE G U) (q : Nat × Nat) (hq : (if 110 = 110 then decide (q.1 < 14) else if 110 = 111 then q.1 == 6 else if 110 = 112 then q.1 == 10 else false) = true) : q.1 < 14 ∧ ∀ comp, U.vm.findClass "java/lang/Object" = some comp → U.vm.assignable (G.1.1 q.1) comp = true := by
  obtain ⟨ci, n⟩ := q
  have h14 : ci < 14 := by simpa using hq
  refine ⟨h14, fun comp hc => ?_⟩
  show U.vm.assignable (G.1.1 ci) comp = true
  have : ci = 0 ∨ ci = 1 ∨ ci = 2 ∨ ci = 3 ∨ ci = 4 ∨ ci = 5 ∨ ci = 6 ∨ ci = 7 ∨ ci = 8 ∨ ci = 9 ∨ ci = 10 ∨ ci = 11 ∨ ci = 12 ∨ ci = 13 := by omega
  rcases this with rfl | rfl | rfl | rfl | rfl | rfl | rfl | rfl | rfl | rfl | rfl | rfl | rfl | rfl
  · exact casg (h.1.1 0 _ rfl).2.1 (h.2.2.2.2.2.1.2.1 _ (List.mem_of_getElem? (i := 0) rfl)) hc
  · exact casg (h.1.1 1 _ rfl).2.1 (h.2.2.2.2.2.1.2.1 _ (List.mem_of_getElem? (i := 1) rfl)) hc
  · exact casg (h.1.1 2 _ rfl).2.1 (h.2.2.2.2.2.1.2.1 _ (List.mem_of_getElem? (i := 2) rfl)) hc
  · exact casg (h.1.1 3 _ rfl).2.1 (h.2.2.2.2.2.1.2.1 _ (List.mem_of_getElem? (i := 3) rfl)) hc
  · exact casg (h.1.1 4 _ rfl).2.1 (h.2.2.2.2.2.1.2.1 _ (List.mem_of_getElem? (i := 4) rfl)) hc
  · exact casg (h.1.1 5 _ rfl).2.1 (h.2.2.2.2.2.1.2.1 _ (List.mem_of_getElem? (i := 5) rfl)) hc
  · exact casg (h.1.1 6 _ rfl).2.1 (h.2.2.2.2.2.1.2.1 _ (List.mem_of_getElem? (i := 6) rfl)) hc
  · exact casg (h.1.1 7 _ rfl).2.1 (h.2.2.2.2.2.1.2.1 _ (List.mem_of_getElem? (i := 7) rfl)) hc
  · exact casg (h.1.1 8 _ rfl).2.1 (h.2.2.2.2.2.1.2.1 _ (List.mem_of_getElem? (i := 8) rfl)) hc
  · exact casg (h.1.1 9 _ rfl).2.1 (h.2.2.2.2.2.1.2.1 _ (List.mem_of_getElem? (i := 9) rfl)) hc
  · exact casg (h.1.1 10 _ rfl).2.1 (h.2.2.2.2.2.1.2.1 _ (List.mem_of_getElem? (i := 10) rfl)) hc
  · exact casg (h.1.1 11 _ rfl).2.1 (h.2.2.2.2.2.1.2.1 _ (List.mem_of_getElem? (i := 11) rfl)) hc
  · exact casg (h.1.1 12 _ rfl).2.1 (h.2.2.2.2.2.1.2.1 _ (List.mem_of_getElem? (i := 12) rfl)) hc
  · exact casg (h.1.1 13 _ rfl).2.1 (h.2.2.2.2.2.1.2.1 _ (List.mem_of_getElem? (i := 13) rfl)) hc
theorem hasg111 {G : XG} (U : State) (h : XE G U) (q : Nat × Nat) (hq : (if 111 = 110 then decide (q.1 < 14) else if 111 = 111 then q.1 == 6 else if 111 = 112 then q.1 == 10 else false) = true) : q.1 < 14 ∧ ∀ comp, U.vm.findClass "TestHouse$Parcel" = some comp → U.vm.assignable (G.1.1 q.1) comp = true := by
  obtain ⟨ci, n⟩ := q
  have h14 : ci = 6 := by simpa using hq
  subst h14
  refine ⟨by simp, fun comp hc => ?_⟩
  have h9 := (h.1.1 6 _ rfl).2.1
  cases hc.symm.trans h9
  exact va_asg _ _
theorem hasg112 {G : XG} (U : State) (h : XE G U) (q : Nat × Nat) (hq : (if 112 = 110 then decide (q.1 < 14) else if 112 = 111 then q.1 == 6 else if 112 = 112 then q.1 == 10 else false) = true) : q.1 < 14 ∧ ∀ comp, U.vm.findClass "TestHouse$Twin" = some comp → U.vm.assignable (G.1.1 q.1) comp = true := by
  obtain ⟨ci, n⟩ := q
  have h14 : ci = 10 := by simpa using hq
  subst h14
  refine ⟨by simp, fun comp hc => ?_⟩
  have h9 := (h.1.1 10 _ rfl).2.1
  cases hc.symm.trans h9
  exact va_asg _ _
