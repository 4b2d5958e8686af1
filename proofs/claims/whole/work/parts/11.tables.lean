/-! the methods: name, bytes, locals, answer, static, class, parameters -/
def MTX0 : List dM := [(yX0_init, cX0_init, 3, none, false, 3, 2),
  (yX0_clear, cX0_clear, 1, none, false, 3, 0),
  (yX0_holds, cX0_holds, 2, (some .boolean), false, 3, 1),
  (yX0_holdsEnding, cX0_holdsEnding, 2, (some .boolean), false, 3, 1),
  (yX0_waysOf, cX0_waysOf, 2, (some .int), false, 3, 1),
  (yX0_divisorOf, cX0_divisorOf, 2, (some .int), false, 3, 1),
  (yX0_isTaken, cX0_isTaken, 3, (some .boolean), false, 3, 2),
  (yX0_callsOf, cX0_callsOf, 2, (some .int), false, 3, 1),
  (yX0_statementOf, cX0_statementOf, 3, (some .int), false, 3, 2),
  (yX0_hasVariable, cX0_hasVariable, 5, (some .boolean), false, 3, 3),
  (yX0_variableOf, cX0_variableOf, 4, (some .int), false, 3, 3),
  (yX0_chosen, cX0_chosen, 3, (some .int), false, 3, 1),
  (yX0_countTrue, cX0_countTrue, 4, (some .int), false, 3, 1),
  (yX0_howMany, cX0_howMany, 2, (some .int), false, 3, 1),
  (yX0_addNext, cX0_addNext, 5, (some .boolean), false, 3, 3),
  (yX0_lead, cX0_lead, 7, (some .boolean), false, 3, 3),
  (yX0_expand, cX0_expand, 6, (some .boolean), false, 3, 2),
  (yX0_survey, cX0_survey, 2, none, false, 3, 0),
  (yX0_discover, cX0_discover, 4, (some .int), false, 3, 2)]
def MTX1 : List dM := [(yX1_init, cX1_init, 1, none, false, 4, 0),
  (yX1_divide, cX1_divide, 18, none, false, 4, 2),
  (yX1_leap, cX1_leap, 23, (some .boolean), false, 4, 0),
  (yX1_blend, cX1_blend, 19, none, false, 4, 4),
  (yX1_common, cX1_common, 6, none, false, 4, 2),
  (yX1_reduce, cX1_reduce, 3, none, false, 4, 2),
  (yX1_join, cX1_join, 3, none, false, 4, 2)]
def MTX2 : List dM := [(yX2_shared, cX2_shared, 1, (some .int), false, 5, 0),
  (yX2_isShared, cX2_isShared, 2, (some .boolean), false, 5, 1),
  (yX2_column, cX2_column, 3, (some .int), false, 5, 2),
  (yX2_firstOf, cX2_firstOf, 2, (some .int), false, 5, 1),
  (yX2_init, cX2_init, 1, none, false, 5, 0),
  (yX2_clear, cX2_clear, 1, none, false, 5, 0),
  (yX2_howMany, cX2_howMany, 2, (some .int), false, 5, 1),
  (yX2_addStatement, cX2_addStatement, 2, (some .int), false, 5, 0),
  (yX2_setColumn, cX2_setColumn, 4, none, false, 5, 3),
  (yX2_emit, cX2_emit, 3, none, false, 5, 2),
  (yX2_linkFollows, cX2_linkFollows, 3, none, false, 5, 0)]
def MTX3 : List dM := [(yX3_init, cX3_init, 4, none, false, 6, 3),
  (yX3_clear, cX3_clear, 1, none, false, 6, 0),
  (yX3_lengthOf, cX3_lengthOf, 2, (some .int), false, 6, 1),
  (yX3_part, cX3_part, 3, (some .int), false, 6, 2),
  (yX3_isRow, cX3_isRow, 6, (some .boolean), false, 6, 3),
  (yX3_slotOf, cX3_slotOf, 6, (some .int), false, 6, 2),
  (yX3_find, cX3_find, 3, (some .int), false, 6, 2),
  (yX3_enter, cX3_enter, 6, (some .int), false, 6, 3),
  (yX3_copyTo, cX3_copyTo, 4, none, false, 6, 2)]
def MTX4 : List dM := [(yX4_length, cX4_length, 1, (some .int), false, 7, 0),
  (yX4_slot, cX4_slot, 3, (some .int), false, 7, 2),
  (yX4_put, cX4_put, 3, none, false, 7, 2),
  (yX4_proceed, cX4_proceed, 3, none, false, 7, 0),
  (yX4_begin, cX4_begin, 2, none, false, 7, 1),
  (yX4_load, cX4_load, 3, none, false, 7, 2),
  (yX4_fetch, cX4_fetch, 4, (some .int), false, 7, 2),
  (yX4_cellAt, cX4_cellAt, 4, (some .int), false, 7, 2),
  (yX4_combine, cX4_combine, 3, (some .int), true, 7, 3),
  (yX4_work, cX4_work, 4, (some .int), false, 7, 0),
  (yX4_aim, cX4_aim, 5, none, false, 7, 1),
  (yX4_fail, cX4_fail, 2, none, false, 7, 1),
  (yX4_spreadOut, cX4_spreadOut, 5, none, false, 7, 2),
  (yX4_offer, cX4_offer, 3, none, false, 7, 1),
  (yX4_openCall, cX4_openCall, 4, none, false, 7, 2),
  (yX4_obey, cX4_obey, 6, none, false, 7, 2),
  (yX4_act, cX4_act, 4, none, false, 7, 0),
  (yX4_settle, cX4_settle, 2, none, false, 7, 1),
  (yX4_init, cX4_init, 2, none, false, 7, 1),
  (yX4_wayAt, cX4_wayAt, 8, (some .int), false, 7, 1)]
def MTX5 : List dM := [(yX5_init, cX5_init, 2, none, false, 8, 1),
  (yX5_compare, cX5_compare, 3, (some .int), false, 8, 1),
  (yX5_put, cX5_put, 3, none, false, 8, 1),
  (yX5_copy, cX5_copy, 2, none, false, 8, 1),
  (yX5_small, cX5_small, 1, (some .long), false, 8, 0),
  (yX5_over, cX5_over, 7, (some .int), false, 8, 1),
  (yX5_bitsOf, cX5_bitsOf, 3, (some .int), true, 8, 1),
  (yX5_shiftFrom, cX5_shiftFrom, 7, none, false, 8, 2),
  (yX5_takeAt, cX5_takeAt, 15, (some .long), false, 8, 4),
  (yX5_shiftBack, cX5_shiftBack, 6, none, false, 8, 2),
  (yX5_bits, cX5_bits, 3, (some .int), false, 8, 0),
  (yX5_high, cX5_high, 10, (some .long), false, 8, 1),
  (yX5_widen, cX5_widen, 2, none, false, 8, 1),
  (yX5_isOne, cX5_isOne, 1, (some .boolean), false, 8, 0),
  (yX5_trim, cX5_trim, 1, none, false, 8, 0),
  (yX5_product, cX5_product, 14, none, false, 8, 2),
  (yX5_words, cX5_words, 1, (some .int), false, 8, 0),
  (yX5_word, cX5_word, 8, (some .int), false, 8, 1),
  (yX5_times, cX5_times, 8, none, false, 8, 1),
  (yX5_rest, cX5_rest, 5, (some .int), false, 8, 1),
  (yX5_plus, cX5_plus, 7, none, false, 8, 1),
  (yX5_minus, cX5_minus, 5, none, false, 8, 1)]
def MTX6 : List dM := [(yX6_init, cX6_init, 4, none, false, 9, 3),
  (yX6_lastOf, cX6_lastOf, 2, (some .int), false, 9, 1),
  (yX6_share, cX6_share, 6, (some .long), false, 9, 4),
  (yX6_unitsOf, cX6_unitsOf, 7, (some .long), false, 9, 3),
  (yX6_weighs, cX6_weighs, 5, (some .boolean), false, 9, 1),
  (yX6_weigh, cX6_weigh, 7, none, false, 9, 2),
  (yX6_showWeight, cX6_showWeight, 6, none, false, 9, 3),
  (yX6_makeRows, cX6_makeRows, 1, none, false, 9, 0),
  (yX6_comesToEnd, cX6_comesToEnd, 3, (some .boolean), false, 9, 2),
  (yX6_markEndings, cX6_markEndings, 4, (some .int), false, 9, 0),
  (yX6_group, cX6_group, 4, (some .int), false, 9, 3),
  (yX6_tableOf, cX6_tableOf, 5, (some .int), false, 9, 2),
  (yX6_rankOf, cX6_rankOf, 7, (some .int), false, 9, 4),
  (yX6_placeTables, cX6_placeTables, 4, (some .int), false, 9, 1),
  (yX6_linkCells, cX6_linkCells, 5, (some .boolean), false, 9, 1),
  (yX6_arrange, cX6_arrange, 11, (some .boolean), false, 9, 3),
  (yX6_throughCell, cX6_throughCell, 8, none, false, 9, 2),
  (yX6_edge, cX6_edge, 2, (some (.object "ChanceWorks$Num")), false, 9, 1),
  (yX6_rowsAgree, cX6_rowsAgree, 7, (some .boolean), false, 9, 3),
  (yX6_tablesAgree, cX6_tablesAgree, 3, (some .boolean), false, 9, 0)]
def MTX7 : List dM := [(yX7_init, cX7_init, 3, none, false, 10, 2),
  (yX7_take, cX7_take, 1, none, false, 10, 0),
  (yX7_refuse, cX7_refuse, 4, none, false, 10, 2),
  (yX7_expect, cX7_expect, 2, none, false, 10, 1),
  (yX7_newName, cX7_newName, 4, (some .int), false, 10, 2),
  (yX7_pass, cX7_pass, 2, none, false, 10, 1),
  (yX7_varItem, cX7_varItem, 4, none, false, 10, 0),
  (yX7_openSign, cX7_openSign, 2, none, false, 10, 1),
  (yX7_closeSign, cX7_closeSign, 2, none, false, 10, 1),
  (yX7_arrayItem, cX7_arrayItem, 3, none, false, 10, 0),
  (yX7_addOwn, cX7_addOwn, 2, none, false, 10, 1),
  (yX7_pushBlock, cX7_pushBlock, 3, none, false, 10, 2),
  (yX7_functionHead, cX7_functionHead, 4, none, false, 10, 0),
  (yX7_item, cX7_item, 2, none, false, 10, 0),
  (yX7_closeBlock, cX7_closeBlock, 2, none, false, 10, 0),
  (yX7_addStatement, cX7_addStatement, 4, (some .int), false, 10, 0),
  (yX7_hold, cX7_hold, 2, none, false, 10, 1),
  (yX7_operand, cX7_operand, 2, (some .boolean), false, 10, 0),
  (yX7_findArray, cX7_findArray, 3, (some .int), false, 10, 1),
  (yX7_findVariable, cX7_findVariable, 3, (some .int), false, 10, 1),
  (yX7_operandName, cX7_operandName, 3, (some .boolean), false, 10, 1),
  (yX7_binary, cX7_binary, 1, (some .int), true, 10, 1),
  (yX7_rankOf, cX7_rankOf, 1, (some .int), true, 10, 1),
  (yX7_emitWaiting, cX7_emitWaiting, 2, none, false, 10, 1),
  (yX7_operator, cX7_operator, 3, none, false, 10, 1),
  (yX7_closeInner, cX7_closeInner, 2, none, false, 10, 0),
  (yX7_expression, cX7_expression, 7, none, false, 10, 2),
  (yX7_setPlace, cX7_setPlace, 4, none, false, 10, 3),
  (yX7_localStatement, cX7_localStatement, 3, none, false, 10, 1),
  (yX7_wordStatement, cX7_wordStatement, 3, none, false, 10, 1),
  (yX7_behindPlace, cX7_behindPlace, 5, (some .int), false, 10, 1),
  (yX7_spread, cX7_spread, 4, none, false, 10, 1),
  (yX7_finish, cX7_finish, 5, none, false, 10, 2),
  (yX7_statement, cX7_statement, 5, none, false, 10, 1),
  (yX7_findCalled, cX7_findCalled, 4, none, false, 10, 0),
  (yX7_read, cX7_read, 3, none, false, 10, 1)]
def MTX8 : List dM := [(yX8_copy, cX8_copy, 2, none, false, 11, 1),
  (yX8_putZero, cX8_putZero, 1, none, false, 11, 0),
  (yX8_init, cX8_init, 2, none, false, 11, 1),
  (yX8_putOne, cX8_putOne, 1, none, false, 11, 0),
  (yX8_fits, cX8_fits, 1, (some .boolean), false, 11, 0),
  (yX8_scale, cX8_scale, 8, none, false, 11, 2),
  (yX8_addWhole, cX8_addWhole, 5, none, false, 11, 2)]
def MTX9 : List dM := [(yX9_unit, cX9_unit, 4, none, false, 12, 1),
  (yX9_addTerm, cX9_addTerm, 3, none, false, 12, 1),
  (yX9_settle, cX9_settle, 3, none, false, 12, 1),
  (yX9_init, cX9_init, 3, none, false, 12, 2),
  (yX9_fresh, cX9_fresh, 4, (some (.array (.object "ChanceWorks$Ratio"))), true, 12, 2),
  (yX9_comesIn, cX9_comesIn, 4, (some .boolean), false, 12, 2),
  (yX9_joinInflow, cX9_joinInflow, 3, none, false, 12, 1),
  (yX9_sumInflow, cX9_sumInflow, 3, none, false, 12, 1),
  (yX9_cell, cX9_cell, 4, (some (.object "ChanceWorks$Num")), false, 12, 2),
  (yX9_fillRow, cX9_fillRow, 7, none, false, 12, 3),
  (yX9_shrink, cX9_shrink, 3, none, false, 12, 2),
  (yX9_eliminate, cX9_eliminate, 11, none, false, 12, 2),
  (yX9_putBack, cX9_putBack, 6, none, false, 12, 2),
  (yX9_keepPart, cX9_keepPart, 3, (some .boolean), false, 12, 1),
  (yX9_keep, cX9_keep, 4, (some .boolean), false, 12, 3),
  (yX9_visitRing, cX9_visitRing, 8, (some .boolean), false, 12, 1),
  (yX9_visitOne, cX9_visitOne, 5, (some .boolean), false, 12, 1),
  (yX9_findVisits, cX9_findVisits, 3, (some .int), false, 12, 0),
  (yX9_showVisits, cX9_showVisits, 8, none, false, 12, 3),
  (yX9_worthBehind, cX9_worthBehind, 2, (some (.object "ChanceWorks$Ratio")), false, 12, 1),
  (yX9_isAbove, cX9_isAbove, 5, (some .boolean), false, 12, 2),
  (yX9_findWorth, cX9_findWorth, 4, (some .boolean), false, 12, 1),
  (yX9_mixWorths, cX9_mixWorths, 4, (some .boolean), false, 12, 1),
  (yX9_makePlan, cX9_makePlan, 4, (some .int), false, 12, 0)]
def MTX10 : List dM := [(yX10_byteAt, cX10_byteAt, 2, (some .int), false, 13, 1),
  (yX10_skipBlanks, cX10_skipBlanks, 5, (some .int), false, 13, 1),
  (yX10_isLetter, cX10_isLetter, 1, (some .boolean), true, 13, 1),
  (yX10_isDigit, cX10_isDigit, 1, (some .boolean), true, 13, 1),
  (yX10_sizeAt, cX10_sizeAt, 5, (some .int), false, 13, 1),
  (yX10_reads, cX10_reads, 6, (some .boolean), false, 13, 4),
  (yX10_wordOf, cX10_wordOf, 6, (some .int), false, 13, 2),
  (yX10_kindOf, cX10_kindOf, 4, (some .int), false, 13, 2),
  (yX10_addToken, cX10_addToken, 4, none, false, 13, 3),
  (yX10_split, cX10_split, 5, none, false, 13, 0),
  (yX10_findName, cX10_findName, 10, (some .int), false, 13, 3),
  (yX10_numberAt, cX10_numberAt, 4, (some .int), false, 13, 1),
  (yX10_isMain, cX10_isMain, 2, (some .boolean), false, 13, 1),
  (yX10_init, cX10_init, 1, none, false, 13, 0),
  (yX10_widen, cX10_widen, 2, none, false, 13, 1),
  (yX10_addWord, cX10_addWord, 3, none, false, 13, 1)]
def MTX11 : List dM := [(yX11_init, cX11_init, 1, none, false, 14, 0),
  (yX11_makeRows, cX11_makeRows, 1, none, false, 14, 0),
  (yX11_weaveBack, cX11_weaveBack, 6, none, false, 14, 2),
  (yX11_reach, cX11_reach, 7, none, false, 14, 1),
  (yX11_weave, cX11_weave, 7, none, false, 14, 2),
  (yX11_visit, cX11_visit, 3, none, false, 14, 2),
  (yX11_tie, cX11_tie, 5, none, false, 14, 1),
  (yX11_follow, cX11_follow, 9, none, false, 14, 1),
  (yX11_knot, cX11_knot, 2, none, false, 14, 0),
  (yX11_sizeOf, cX11_sizeOf, 2, (some .int), false, 14, 1),
  (yX11_isRing, cX11_isRing, 4, (some .boolean), false, 14, 1)]
def MTX12 : List dM := [(yX12_commonLong, cX12_commonLong, 11, (some .long), true, 15, 2),
  (yX12_commonInt, cX12_commonInt, 6, (some .int), true, 15, 2),
  (yX12_init, cX12_init, 2, none, false, 15, 0),
  (yX12_feed, cX12_feed, 6, (some .int), false, 15, 5),
  (yX12_end, cX12_end, 2, none, false, 15, 1),
  (yX12_fault, cX12_fault, 1, (some .int), false, 15, 0),
  (yX12_count, cX12_count, 2, (some .int), false, 15, 1),
  (yX12_explore, cX12_explore, 2, (some .int), false, 15, 1),
  (yX12_state, cX12_state, 3, (some .int), false, 15, 2),
  (yX12_value, cX12_value, 4, (some .int), false, 15, 3),
  (yX12_next, cX12_next, 5, (some .int), false, 15, 3),
  (yX12_ending, cX12_ending, 3, (some .int), false, 15, 2),
  (yX12_decide, cX12_decide, 4, (some .int), false, 15, 2),
  (yX12_decided, cX12_decided, 2, (some .int), false, 15, 1),
  (yX12_best, cX12_best, 1, (some .int), false, 15, 0),
  (yX12_solve, cX12_solve, 1, (some .int), false, 15, 0),
  (yX12_showsNow, cX12_showsNow, 2, (some .boolean), false, 15, 1),
  (yX12_showPlay, cX12_showPlay, 4, none, false, 15, 0),
  (yX12_show, cX12_show, 3, (some .int), false, 15, 2),
  (yX12_size, cX12_size, 2, (some .int), false, 15, 1),
  (yX12_limb, cX12_limb, 4, (some .int), false, 15, 2),
  (yX12_tell, cX12_tell, 2, (some .int), false, 15, 1),
  (yX12_forget, cX12_forget, 2, (some .int), false, 15, 0),
  (yX12_drawn, cX12_drawn, 3, (some .int), false, 15, 2),
  (yX12_note, cX12_note, 6, none, false, 15, 3),
  (yX12_perform, cX12_perform, 12, (some .int), false, 15, 3),
  (yX12_play, cX12_play, 4, (some .int), false, 15, 2),
  (yX12_walk, cX12_walk, 2, (some .int), false, 15, 1),
  (yX12_played, cX12_played, 3, (some .long), false, 15, 1),
  (yX12_independent, cX12_independent, 3, (some .boolean), false, 15, 2),
  (yX12_given, cX12_given, 4, (some .boolean), false, 15, 3)]
def MTX13 : List dM := [(yX13_init, cX13_init, 1, none, false, 16, 0),
  (yX13_within, cX13_within, 3, (some .boolean), true, 16, 3),
  (yX13_feed, cX13_feed, 8, (some .int), false, 16, 5),
  (yX13_end, cX13_end, 2, none, false, 16, 1),
  (yX13_byteAt, cX13_byteAt, 2, (some .int), false, 16, 1),
  (yX13_isLetter, cX13_isLetter, 1, (some .boolean), true, 16, 1),
  (yX13_isDigit, cX13_isDigit, 1, (some .boolean), true, 16, 1),
  (yX13_isBlank, cX13_isBlank, 1, (some .boolean), true, 16, 1),
  (yX13_skip, cX13_skip, 3, (some .int), false, 16, 1),
  (yX13_word, cX13_word, 7, (some .long), true, 16, 7),
  (yX13_shortWord, cX13_shortWord, 2, (some .int), true, 16, 1),
  (yX13_wordOf, cX13_wordOf, 3, (some .int), true, 16, 1),
  (yX13_isSign, cX13_isSign, 1, (some .boolean), true, 16, 1),
  (yX13_takeName, cX13_takeName, 5, (some .int), false, 16, 2),
  (yX13_take, cX13_take, 5, (some .int), false, 16, 1),
  (yX13_cutTape, cX13_cutTape, 3, none, false, 16, 0),
  (yX13_isRight, cX13_isRight, 1, (some .boolean), false, 16, 0),
  (yX13_flaw, cX13_flaw, 3, none, false, 16, 2),
  (yX13_readNext, cX13_readNext, 1, none, false, 16, 0),
  (yX13_go, cX13_go, 1, none, false, 16, 0),
  (yX13_isAt, cX13_isAt, 2, (some .boolean), false, 16, 1),
  (yX13_isNext, cX13_isNext, 2, (some .boolean), false, 16, 1),
  (yX13_isWord, cX13_isWord, 2, (some .boolean), false, 16, 1),
  (yX13_sign, cX13_sign, 2, none, false, 16, 1),
  (yX13_open, cX13_open, 2, none, false, 16, 1),
  (yX13_close, cX13_close, 2, none, false, 16, 1),
  (yX13_due, cX13_due, 2, (some .int), false, 16, 1),
  (yX13_isSame, cX13_isSame, 3, (some .boolean), false, 16, 2),
  (yX13_isTold, cX13_isTold, 4, (some .boolean), false, 16, 1),
  (yX13_variableOf, cX13_variableOf, 3, (some .int), false, 16, 1),
  (yX13_arrayOf, cX13_arrayOf, 3, (some .int), false, 16, 1),
  (yX13_functionOf, cX13_functionOf, 3, (some .int), false, 16, 1),
  (yX13_fresh, cX13_fresh, 7, (some .int), false, 16, 3),
  (yX13_tellVar, cX13_tellVar, 5, none, false, 16, 0),
  (yX13_tellArr, cX13_tellArr, 3, none, false, 16, 0),
  (yX13_openBlock, cX13_openBlock, 3, none, false, 16, 2),
  (yX13_newStatement, cX13_newStatement, 5, (some .int), false, 16, 1),
  (yX13_goesOn, cX13_goesOn, 1, (some .boolean), false, 16, 0),
  (yX13_hold, cX13_hold, 3, none, false, 16, 2),
  (yX13_top, cX13_top, 1, (some .int), false, 16, 0),
  (yX13_truth, cX13_truth, 1, (some .int), true, 16, 1),
  (yX13_turn, cX13_turn, 2, none, false, 16, 0),
  (yX13_push, cX13_push, 2, none, false, 16, 1),
  (yX13_look, cX13_look, 3, none, false, 16, 2),
  (yX13_valueOf, cX13_valueOf, 2, (some .int), false, 16, 1),
  (yX13_named, cX13_named, 3, (some .boolean), false, 16, 0),
  (yX13_operand, cX13_operand, 2, (some .boolean), false, 16, 0),
  (yX13_rank, cX13_rank, 1, (some .int), true, 16, 1),
  (yX13_compared, cX13_compared, 3, (some .int), true, 16, 3),
  (yX13_apply, cX13_apply, 5, none, false, 16, 0),
  (yX13_settle, cX13_settle, 2, none, false, 16, 1),
  (yX13_cellOf, cX13_cellOf, 4, (some .int), false, 16, 2),
  (yX13_behind, cX13_behind, 4, (some .int), false, 16, 0),
  (yX13_expression, cX13_expression, 2, (some .int), false, 16, 0),
  (yX13_arguments, cX13_arguments, 2, none, false, 16, 0),
  (yX13_tellDraw, cX13_tellDraw, 3, none, false, 16, 0),
  (yX13_tellNamed, cX13_tellNamed, 4, none, false, 16, 0),
  (yX13_tellLocal, cX13_tellLocal, 3, none, false, 16, 0),
  (yX13_tellStatement, cX13_tellStatement, 2, none, false, 16, 0),
  (yX13_endBlock, cX13_endBlock, 3, none, false, 16, 0),
  (yX13_tellStatements, cX13_tellStatements, 1, none, false, 16, 0),
  (yX13_tellFunc, cX13_tellFunc, 4, none, false, 16, 0),
  (yX13_swing, cX13_swing, 5, none, false, 16, 3),
  (yX13_swingAll, cX13_swingAll, 2, none, false, 16, 1),
  (yX13_calledBy, cX13_calledBy, 2, (some .int), false, 16, 1),
  (yX13_countArguments, cX13_countArguments, 7, (some .int), false, 16, 1),
  (yX13_lookAtCalls, cX13_lookAtCalls, 4, none, false, 16, 0),
  (yX13_tellProgram, cX13_tellProgram, 1, none, false, 16, 0),
  (yX13_program, cX13_program, 1, (some .int), false, 16, 0),
  (yX13_fault, cX13_fault, 1, (some .int), false, 16, 0),
  (yX13_store, cX13_store, 3, none, false, 16, 2),
  (yX13_leave, cX13_leave, 4, (some .int), false, 16, 1),
  (yX13_moveTo, cX13_moveTo, 2, (some .int), false, 16, 1),
  (yX13_begin, cX13_begin, 2, (some .int), false, 16, 0),
  (yX13_fail, cX13_fail, 2, (some .int), false, 16, 1),
  (yX13_workAt, cX13_workAt, 2, (some .int), false, 16, 1),
  (yX13_findPlace, cX13_findPlace, 4, none, false, 16, 1),
  (yX13_call, cX13_call, 5, (some .int), false, 16, 1),
  (yX13_outcome, cX13_outcome, 3, none, false, 16, 2),
  (yX13_draw, cX13_draw, 7, (some .int), false, 16, 1),
  (yX13_choose, cX13_choose, 4, (some .int), false, 16, 1),
  (yX13_act, cX13_act, 4, (some .int), false, 16, 0),
  (yX13_get, cX13_get, 2, (some .int), false, 16, 1),
  (yX13_pack, cX13_pack, 3, (some .int), false, 16, 0),
  (yX13_unpack, cX13_unpack, 5, none, false, 16, 1),
  (yX13_isKey, cX13_isKey, 4, (some .boolean), false, 16, 1),
  (yX13_stateNow, cX13_stateNow, 3, (some .int), false, 16, 0),
  (yX13_stateNumber, cX13_stateNumber, 3, (some .int), false, 16, 0),
  (yX13_endingNumber, cX13_endingNumber, 4, (some .int), false, 16, 0),
  (yX13_addNext, cX13_addNext, 7, (some .boolean), false, 16, 4),
  (yX13_expand, cX13_expand, 6, (some .boolean), false, 16, 1),
  (yX13_isTaken, cX13_isTaken, 4, (some .boolean), false, 16, 3),
  (yX13_leads, cX13_leads, 3, (some .boolean), false, 16, 2),
  (yX13_findReach, cX13_findReach, 7, none, false, 16, 3),
  (yX13_endsAtOnce, cX13_endsAtOnce, 5, (some .boolean), false, 16, 2),
  (yX13_canEnd, cX13_canEnd, 5, (some .boolean), false, 16, 2),
  (yX13_isRingWith, cX13_isRingWith, 3, (some .boolean), false, 16, 2),
  (yX13_ringOf, cX13_ringOf, 4, (some .int), false, 16, 1),
  (yX13_findRings, cX13_findRings, 3, none, false, 16, 0),
  (yX13_explore, cX13_explore, 4, (some .int), false, 16, 1),
  (yX13_count, cX13_count, 5, (some .int), false, 16, 1),
  (yX13_isState, cX13_isState, 2, (some .boolean), false, 16, 1),
  (yX13_latestAt, cX13_latestAt, 2, (some .int), false, 16, 1),
  (yX13_state, cX13_state, 3, (some .int), false, 16, 2),
  (yX13_value, cX13_value, 5, (some .int), false, 16, 3),
  (yX13_next, cX13_next, 5, (some .int), false, 16, 3),
  (yX13_ending, cX13_ending, 3, (some .int), false, 16, 2),
  (yX13_decide, cX13_decide, 4, (some .int), false, 16, 2),
  (yX13_decided, cX13_decided, 2, (some .int), false, 16, 1),
  (yX13_set, cX13_set, 7, none, false, 16, 2),
  (yX13_trim, cX13_trim, 2, none, false, 16, 1),
  (yX13_copy, cX13_copy, 4, none, false, 16, 2),
  (yX13_compare, cX13_compare, 5, (some .int), false, 16, 2),
  (yX13_plus, cX13_plus, 7, none, false, 16, 2),
  (yX13_minus, cX13_minus, 6, none, false, 16, 2),
  (yX13_times, cX13_times, 14, none, false, 16, 3),
  (yX13_shiftUp, cX13_shiftUp, 6, none, false, 16, 2),
  (yX13_shiftDown, cX13_shiftDown, 5, none, false, 16, 2),
  (yX13_oneDigit, cX13_oneDigit, 21, (some .int), false, 16, 3),
  (yX13_divide, cX13_divide, 8, none, false, 16, 3),
  (yX13_isZero, cX13_isZero, 2, (some .boolean), false, 16, 1),
  (yX13_reduce, cX13_reduce, 4, none, false, 16, 2),
  (yX13_clearSum, cX13_clearSum, 1, none, false, 16, 0),
  (yX13_add, cX13_add, 2, none, false, 16, 1),
  (yX13_scale, cX13_scale, 5, none, false, 16, 2),
  (yX13_keepIn, cX13_keepIn, 6, none, false, 16, 3),
  (yX13_load, cX13_load, 6, none, false, 16, 3),
  (yX13_addProduct, cX13_addProduct, 5, none, false, 16, 4),
  (yX13_isLong, cX13_isLong, 2, (some .boolean), false, 16, 1),
  (yX13_keepVisits, cX13_keepVisits, 4, none, false, 16, 1),
  (yX13_loadVisits, cX13_loadVisits, 4, none, false, 16, 1),
  (yX13_weightOf, cX13_weightOf, 3, (some .long), false, 16, 2),
  (yX13_totalOf, cX13_totalOf, 2, (some .long), false, 16, 1),
  (yX13_takeTimes, cX13_takeTimes, 2, none, false, 16, 1),
  (yX13_sumInflow, cX13_sumInflow, 5, none, false, 16, 2),
  (yX13_keepSmall, cX13_keepSmall, 6, none, false, 16, 3),
  (yX13_layRing, cX13_layRing, 9, none, false, 16, 0),
  (yX13_foldRing, cX13_foldRing, 4, none, false, 16, 0),
  (yX13_visitFrom, cX13_visitFrom, 4, none, false, 16, 1),
  (yX13_solveRing, cX13_solveRing, 4, (some .boolean), false, 16, 0),
  (yX13_findOrder, cX13_findOrder, 3, none, false, 16, 0),
  (yX13_solve, cX13_solve, 4, (some .int), false, 16, 0),
  (yX13_isSlot, cX13_isSlot, 2, (some .boolean), true, 16, 2),
  (yX13_isMeant, cX13_isMeant, 6, (some .boolean), false, 16, 3),
  (yX13_isVisited, cX13_isVisited, 2, (some .boolean), false, 16, 1),
  (yX13_addWeight, cX13_addWeight, 5, none, false, 16, 3),
  (yX13_sumWeights, cX13_sumWeights, 6, none, false, 16, 3),
  (yX13_sumVisits, cX13_sumVisits, 5, none, false, 16, 1),
  (yX13_sumOver, cX13_sumOver, 6, none, false, 16, 4),
  (yX13_loadWorth, cX13_loadWorth, 5, none, false, 16, 2),
  (yX13_show, cX13_show, 3, (some .int), false, 16, 2),
  (yX13_numbersOf, cX13_numbersOf, 2, (some .int), false, 16, 1),
  (yX13_size, cX13_size, 2, (some .int), false, 16, 1),
  (yX13_limb, cX13_limb, 5, (some .int), false, 16, 2),
  (yX13_tell, cX13_tell, 2, (some .int), false, 16, 1),
  (yX13_forget, cX13_forget, 2, (some .int), false, 16, 0),
  (yX13_drawn, cX13_drawn, 6, (some .int), false, 16, 0),
  (yX13_draws, cX13_draws, 2, (some .int), false, 16, 0),
  (yX13_chooses, cX13_chooses, 2, (some .int), false, 16, 0),
  (yX13_go_, cX13_go_, 5, (some .int), false, 16, 1),
  (yX13_play, cX13_play, 4, (some .int), false, 16, 2),
  (yX13_walk, cX13_walk, 2, (some .int), false, 16, 1),
  (yX13_played, cX13_played, 2, (some .long), false, 16, 1),
  (yX13_keepWorth, cX13_keepWorth, 4, none, false, 16, 1),
  (yX13_loadNext, cX13_loadNext, 2, (some .int), false, 16, 1),
  (yX13_isWorthDone, cX13_isWorthDone, 4, (some .boolean), false, 16, 1),
  (yX13_isGreater, cX13_isGreater, 5, (some .boolean), false, 16, 1),
  (yX13_takeNext, cX13_takeNext, 3, none, false, 16, 1),
  (yX13_findWorth, cX13_findWorth, 4, none, false, 16, 1),
  (yX13_best, cX13_best, 4, (some .int), false, 16, 0),
  (yX13_findHeavy, cX13_findHeavy, 3, none, false, 16, 0),
  (yX13_told, cX13_told, 3, (some .int), false, 16, 2),
  (yX13_list, cX13_list, 9, (some .int), false, 16, 4),
  (yX13_weigh, cX13_weigh, 11, none, false, 16, 7),
  (yX13_product, cX13_product, 4, none, false, 16, 3),
  (yX13_isPairFree, cX13_isPairFree, 7, (some .boolean), false, 16, 6),
  (yX13_isFree, cX13_isFree, 9, (some .boolean), false, 16, 4),
  (yX13_isGlobal, cX13_isGlobal, 2, (some .boolean), false, 16, 1),
  (yX13_independent, cX13_independent, 3, (some .boolean), false, 16, 2),
  (yX13_given, cX13_given, 7, (some .boolean), false, 16, 3)]
def MTJ0 : List dM := [(yJ0_charAt_5068e, cJ0_charAt_5068e, 2, (some .char), false, 0, 1),
  (yJ0_checkIndex_df160, cJ0_checkIndex_df160, 2, none, true, 0, 2),
  (yJ0_coder_7d493, cJ0_coder_7d493, 1, (some .byte), false, 0, 0),
  (yJ0_indexOf_0f7a4, cJ0_indexOf_0f7a4, 2, (some .int), false, 0, 1),
  (yJ0_indexOf_7cf53, cJ0_indexOf_7cf53, 3, (some .int), false, 0, 2),
  (yJ0_isLatin1_aae02, cJ0_isLatin1_aae02, 1, (some .boolean), false, 0, 0),
  (yJ0_length_8abf5, cJ0_length_8abf5, 1, (some .int), false, 0, 0)]
def MTJ1 : List dM := [(yJ1_canEncode_9a6ad, cJ1_canEncode_9a6ad, 1, (some .boolean), true, 101, 1),
  (yJ1_charAt_3b067, cJ1_charAt_3b067, 2, (some .char), true, 101, 2),
  (yJ1_indexOfChar_4cfef, cJ1_indexOfChar_4cfef, 6, (some .int), true, 101, 4),
  (yJ1_indexOf_4cfef, cJ1_indexOf_4cfef, 4, (some .int), true, 101, 4)]
def MTJ7 : List dM := [(yJ7_copyOf_59c91, cJ7_copyOf_59c91, 3, (some (.array .int)), true, 107, 2),
  (yJ7_copyOf_9075b, cJ7_copyOf_9075b, 3, (some (.array .byte)), true, 107, 2),
  (yJ7_fill_53178, cJ7_fill_53178, 4, none, true, 107, 2),
  (yJ7_fill_fda19, cJ7_fill_fda19, 5, none, true, 107, 4),
  (yJ7_rangeCheck_23922, cJ7_rangeCheck_23922, 3, none, true, 107, 3)]
def MTJ3 : List dM := [(yJ3_checkIndex_8e157, cJ3_checkIndex_8e157, 3, (some .int), true, 103, 3)]
def MTT : List dM := [(yX13_thrown, cX13_thrown, 1, (some .int), false, 16, 0)]
def MTs : List dM := MTX0 ++ MTX1 ++ MTX2 ++ MTX3 ++ MTX4 ++ MTX5 ++ MTX6 ++ MTX7 ++ MTX8 ++ MTX9 ++ MTX10 ++ MTX11 ++ MTX12 ++ MTX13 ++ MTJ0 ++ MTJ1 ++ MTJ7 ++ MTJ3 ++ MTT
def KMs : List (dM × dHH) := [((yX12_program, cX12_program, 3, (some .int), false, 15, 0), [(2, 13, 16, 126)]),
  ((yL_feed, cL_feed, 8, (some .int), true, 100, 7), [(0, 16, 19, 13)]),
  ((yL_end, cL_end, 3, (some .int), true, 100, 2), [(0, 5, 8, 19)]),
  ((yL_count, cL_count, 4, (some .int), true, 100, 3), [(0, 9, 12, 25)]),
  ((yL_explore, cL_explore, 4, (some .int), true, 100, 3), [(0, 9, 12, 30), (0, 9, 15, 19)]),
  ((yL_state, cL_state, 5, (some .int), true, 100, 4), [(0, 10, 13, 25)]),
  ((yL_value, cL_value, 6, (some .int), true, 100, 5), [(0, 12, 15, 25)]),
  ((yL_next, cL_next, 6, (some .int), true, 100, 5), [(0, 12, 15, 25)]),
  ((yL_ending, cL_ending, 5, (some .int), true, 100, 4), [(0, 10, 13, 25)]),
  ((yL_decide, cL_decide, 5, (some .int), true, 100, 4), [(0, 10, 13, 25)]),
  ((yL_decided, cL_decided, 4, (some .int), true, 100, 3), [(0, 9, 12, 25)]),
  ((yL_best, cL_best, 3, (some .int), true, 100, 2), [(0, 8, 11, 30)]),
  ((yL_solve, cL_solve, 3, (some .int), true, 100, 2), [(0, 8, 11, 30)]),
  ((yL_show, cL_show, 5, (some .int), true, 100, 4), [(0, 10, 13, 19), (0, 10, 17, 30), (0, 10, 21, 25)]),
  ((yL_size, cL_size, 4, (some .int), true, 100, 3), [(0, 9, 12, 25)]),
  ((yL_limb, cL_limb, 5, (some .int), true, 100, 4), [(0, 10, 13, 25)]),
  ((yL_tell, cL_tell, 4, (some .int), true, 100, 3), [(0, 9, 12, 13)]),
  ((yL_play, cL_play, 6, (some .int), true, 100, 4), [(0, 11, 14, 30), (0, 11, 18, 19)]),
  ((yL_walk, cL_walk, 4, (some .int), true, 100, 3), [(0, 9, 12, 30), (0, 9, 15, 19)]),
  ((yL_played, cL_played, 4, (some .int), true, 100, 3), [(0, 8, 11, 25)]),
  ((yL_independent, cL_independent, 5, (some .int), true, 100, 4), [(0, 17, 20, 30), (0, 17, 24, 25)]),
  ((yL_given, cL_given, 6, (some .int), true, 100, 5), [(0, 19, 22, 30), (0, 19, 26, 25)])]
def FLX0 : List (Nat × Nat × Nat) := [(9, 3, 0), (15, 3, 5), (22, 3, 1), (33, 3, 2), (37, 3, 3), (40, 3, 6), (44, 3, 7), (47, 3, 8), (50, 3, 9), (53, 3, 10), (57, 3, 11), (60, 3, 12), (63, 3, 13), (66, 3, 14), (78, 3, 15), (82, 3, 16), (85, 3, 17), (88, 3, 4), (92, 6, 6), (122, 5, 5), (125, 7, 1), (135, 7, 16), (147, 7, 11), (150, 7, 2), (170, 7, 15), (173, 7, 17), (174, 7, 14), (181, 7, 19), (186, 7, 12), (189, 7, 13), (211, 14, 6), (214, 14, 7)]
def FLX1 : List (Nat × Nat × Nat) := [(7, 4, 6), (18, 4, 0), (22, 4, 1), (25, 4, 2), (28, 4, 3), (31, 4, 4), (34, 4, 5), (37, 8, 1), (57, 8, 0)]
def FLX2 : List (Nat × Nat × Nat) := [(9, 5, 0), (15, 5, 1), (18, 5, 2), (21, 5, 3), (24, 5, 4), (27, 5, 5), (30, 5, 6), (33, 5, 7), (36, 5, 8), (39, 5, 9), (43, 5, 10), (46, 5, 11), (49, 5, 12), (52, 5, 13), (55, 5, 14), (58, 5, 15)]
def FLX3 : List (Nat × Nat × Nat) := [(9, 6, 0), (15, 6, 1), (18, 6, 2), (21, 6, 3), (25, 6, 4), (28, 6, 5), (37, 6, 6)]
def FLX4 : List (Nat × Nat × Nat) := [(11, 7, 0), (15, 7, 1), (19, 7, 5), (22, 7, 7), (25, 7, 18), (28, 7, 19), (43, 7, 2), (52, 5, 0), (55, 5, 9), (64, 7, 3), (67, 7, 4), (70, 7, 13), (73, 7, 14), (76, 7, 15), (79, 7, 11), (82, 5, 14), (89, 7, 9), (92, 7, 10), (113, 7, 6), (130, 7, 8), (136, 5, 2), (139, 5, 1), (160, 7, 12), (163, 7, 16), (166, 7, 17), (170, 5, 15), (173, 5, 7), (176, 5, 8)]
def FLX5 : List (Nat × Nat × Nat) := [(13, 8, 0), (25, 8, 1)]
def FLX6 : List (Nat × Nat × Nat) := [(9, 9, 0), (15, 9, 1), (19, 9, 2), (28, 9, 3), (37, 9, 4), (41, 9, 5), (45, 9, 6), (48, 9, 7), (51, 9, 8), (54, 9, 9), (57, 9, 10), (60, 9, 11), (63, 9, 12), (66, 9, 13), (74, 3, 3), (79, 3, 5), (93, 12, 5), (99, 11, 2), (105, 3, 6), (112, 3, 12), (115, 3, 13), (122, 3, 14), (125, 3, 2), (128, 6, 6), (135, 12, 12), (142, 12, 13), (151, 12, 7), (154, 12, 8), (157, 11, 1), (180, 3, 15), (246, 12, 11)]
def FLX7 : List (Nat × Nat × Nat) := [(9, 10, 0), (15, 10, 1), (19, 10, 6), (23, 10, 7), (26, 10, 8), (29, 10, 9), (32, 10, 11), (35, 10, 12), (38, 10, 13), (42, 10, 15), (55, 10, 2), (59, 10, 4), (62, 10, 5), (66, 10, 10), (69, 10, 14), (75, 13, 5), (78, 10, 3), (101, 13, 2), (104, 10, 17), (107, 13, 3), (110, 13, 1), (113, 10, 18), (130, 5, 9), (137, 5, 10), (140, 5, 12), (163, 5, 0), (172, 5, 1), (175, 5, 11), (178, 5, 2), (184, 5, 4), (191, 5, 5), (197, 5, 13), (205, 5, 3), (235, 10, 16), (276, 5, 14)]
def FLX8 : List (Nat × Nat × Nat) := [(14, 11, 0), (20, 11, 1), (27, 11, 2)]
def FLX9 : List (Nat × Nat × Nat) := [(9, 12, 0), (15, 12, 2), (19, 3, 1), (25, 12, 1), (28, 12, 5), (32, 12, 6), (40, 12, 7), (45, 12, 8), (49, 12, 9), (52, 12, 10), (55, 12, 11), (58, 12, 12), (61, 12, 13), (64, 12, 14), (68, 12, 15), (72, 12, 16), (84, 12, 3), (97, 14, 7), (101, 14, 6), (105, 14, 10), (108, 14, 8), (115, 14, 0), (139, 11, 0), (151, 11, 1), (158, 14, 4), (161, 14, 9), (164, 11, 2), (167, 14, 3), (174, 3, 14), (177, 14, 5), (233, 4, 0), (250, 8, 1), (271, 3, 2), (275, 6, 6), (278, 3, 8), (284, 3, 16), (287, 3, 10), (299, 3, 9), (308, 12, 4), (311, 3, 12), (314, 3, 13), (317, 3, 6), (331, 3, 7)]
def FLX10 : List (Nat × Nat × Nat) := [(9, 13, 0), (15, 13, 2), (19, 13, 3), (22, 13, 4), (31, 13, 1), (35, 13, 5)]
def FLX11 : List (Nat × Nat × Nat) := [(9, 14, 1), (15, 14, 2), (18, 14, 3), (21, 14, 4), (24, 14, 5), (27, 14, 6), (31, 14, 8), (34, 14, 9), (37, 14, 10), (40, 14, 11), (43, 14, 12), (46, 14, 13), (49, 14, 14), (52, 14, 15), (58, 3, 2), (64, 6, 6), (70, 14, 0), (71, 3, 15), (86, 3, 6), (91, 3, 12), (94, 3, 13), (105, 14, 7), (108, 14, 17), (111, 14, 16), (114, 14, 18)]
def FLX12 : List (Nat × Nat × Nat) := [(12, 15, 0), (19, 15, 2), (23, 15, 3), (31, 15, 1), (40, 15, 6), (49, 15, 7), (61, 15, 8), (70, 15, 9), (79, 15, 10), (83, 15, 11), (87, 15, 14), (91, 15, 15), (94, 15, 16), (97, 15, 17), (100, 13, 1), (128, 10, 17), (131, 15, 5), (132, 10, 18), (135, 15, 4), (139, 3, 4), (142, 12, 3), (145, 12, 4), (148, 15, 13), (151, 5, 13), (189, 3, 10), (193, 3, 11), (196, 3, 7), (211, 3, 6), (214, 3, 12), (217, 3, 13), (220, 3, 14), (232, 3, 3), (243, 3, 9), (268, 12, 6), (283, 11, 2), (288, 11, 0), (297, 11, 1), (305, 15, 12), (345, 7, 11), (351, 7, 15), (372, 7, 14), (379, 7, 16), (391, 7, 19), (392, 7, 17), (395, 7, 12), (398, 7, 13), (401, 7, 1)]
def FLX13 : List (Nat × Nat × Nat) := [(1, 16, 0), (14, 16, 1), (19, 16, 5), (22, 16, 6), (26, 16, 7), (29, 16, 8), (33, 16, 9), (36, 16, 20), (39, 16, 21), (42, 16, 22), (45, 16, 23), (48, 16, 24), (51, 16, 25), (54, 16, 26), (57, 16, 27), (60, 16, 28), (63, 16, 29), (66, 16, 30), (69, 16, 31), (72, 16, 32), (75, 16, 33), (78, 16, 34), (81, 16, 35), (84, 16, 36), (87, 16, 37), (90, 16, 38), (93, 16, 39), (96, 16, 43), (99, 16, 44), (102, 16, 45), (107, 16, 50), (110, 16, 51), (113, 16, 52), (116, 16, 54), (119, 16, 56), (122, 16, 57), (125, 16, 59), (128, 16, 60), (131, 16, 64), (134, 16, 65), (137, 16, 68), (141, 16, 73), (144, 16, 74), (148, 16, 75), (151, 16, 76), (154, 16, 77), (157, 16, 78), (160, 16, 79), (163, 16, 80), (166, 16, 81), (169, 16, 82), (172, 16, 83), (175, 16, 84), (178, 16, 86), (181, 16, 87), (185, 16, 90), (188, 16, 91), (192, 16, 93), (195, 16, 95), (198, 16, 96), (201, 16, 97), (204, 16, 98), (207, 16, 99), (210, 16, 101), (214, 16, 102), (217, 16, 105), (220, 16, 106), (223, 16, 111), (226, 16, 115), (229, 16, 116), (232, 16, 117), (235, 16, 118), (238, 16, 119), (241, 16, 120), (244, 16, 121), (247, 16, 122), (250, 16, 123), (253, 16, 2), (281, 16, 3), (284, 16, 4), (300, 16, 11), (303, 16, 12), (306, 16, 10), (322, 16, 13), (333, 16, 15), (340, 16, 16), (343, 16, 18), (346, 16, 41), (369, 16, 17), (375, 16, 42), (378, 16, 19), (425, 16, 48), (428, 16, 47), (435, 16, 49), (438, 16, 46), (484, 16, 55), (487, 16, 40), (526, 16, 53), (529, 16, 14), (533, 16, 69), (536, 16, 94), (539, 16, 114), (542, 16, 70), (545, 16, 71), (548, 16, 72), (551, 16, 58), (554, 16, 61), (566, 16, 67), (575, 16, 63), (581, 16, 66), (585, 16, 62), (609, 16, 85), (658, 16, 88), (661, 16, 89), (710, 16, 92), (755, 16, 100), (821, 16, 103), (827, 16, 104), (830, 16, 113), (833, 16, 109), (836, 16, 112), (847, 16, 108), (850, 16, 110), (859, 16, 107), (896, 16, 124), (899, 16, 125)]
def tFL : Nat → List (Nat × Nat × Nat) := fun o => match o with
  | 3 => FLX0
  | 4 => FLX1
  | 5 => FLX2
  | 6 => FLX3
  | 7 => FLX4
  | 8 => FLX5
  | 9 => FLX6
  | 10 => FLX7
  | 11 => FLX8
  | 12 => FLX9
  | 13 => FLX10
  | 14 => FLX11
  | 15 => FLX12
  | 16 => FLX13
  | _ => []
def MLX0 : List (Nat × Nat) := [(21, 191), (30, 37), (69, 38), (72, 426), (95, 39), (99, 26), (105, 40), (109, 27), (113, 7), (116, 8), (119, 28), (128, 46), (131, 43), (138, 12), (142, 1), (143, 50), (152, 44), (156, 16), (160, 17), (163, 51), (167, 62), (177, 15), (182, 63), (192, 14), (200, 424), (204, 195), (208, 199), (217, 201), (220, 200)]
def MLX1 : List (Nat × Nat) := [(15, 66), (41, 67), (45, 68), (49, 69), (53, 70), (61, 71), (65, 72), (68, 73), (84, 74), (88, 75), (93, 21), (97, 22), (101, 20), (110, 76), (114, 77), (120, 78), (123, 427), (129, 23), (132, 79), (135, 81)]
def MLX2 : List (Nat × Nat) := [(61, 426), (67, 424), (71, 427), (74, 28), (78, 34)]
def MLX3 : List (Nat × Nat) := [(31, 426), (40, 39), (57, 41), (61, 42), (65, 424)]
def MLX4 : List (Nat × Nat) := [(31, 26), (46, 426), (85, 29), (95, 49), (98, 45), (104, 39), (110, 28), (116, 56), (120, 55), (123, 61), (127, 47), (133, 53), (142, 48), (145, 58), (148, 59), (151, 60), (154, 57), (157, 427), (179, 52), (182, 54)]
def MLX5 : List (Nat × Nat) := [(19, 424), (37, 76), (41, 78), (45, 80), (48, 427)]
def MLX6 : List (Nat × Nat) := [(25, 66), (34, 37), (70, 89), (83, 26), (89, 40), (108, 6), (118, 90), (131, 91), (138, 68), (145, 151), (148, 152), (160, 25), (166, 69), (170, 93), (174, 153), (177, 144), (188, 95), (191, 38), (194, 97), (197, 99), (200, 100), (204, 101), (207, 102), (211, 426), (217, 96), (220, 44), (227, 98), (231, 106), (235, 104), (239, 105), (243, 81), (249, 67)]
def MLX7 : List (Nat × Nat) := [(45, 184), (50, 31), (72, 109), (81, 121), (84, 122), (87, 123), (91, 141), (95, 142), (98, 36), (123, 110), (127, 111), (133, 185), (143, 114), (146, 117), (149, 120), (152, 112), (156, 186), (160, 113), (166, 115), (169, 116), (181, 118), (187, 119), (194, 28), (200, 33), (201, 34), (208, 136), (211, 137), (214, 126), (217, 135), (220, 134), (223, 127), (226, 138), (229, 139), (232, 140), (238, 125), (242, 128), (246, 129), (249, 132), (252, 131), (255, 133), (258, 35), (261, 124), (264, 130), (267, 424), (273, 187)]
def MLX8 : List (Nat × Nat) := [(11, 66), (23, 68), (31, 69), (35, 76), (39, 145), (46, 85), (50, 71), (53, 84), (62, 67), (66, 87), (69, 86)]
def MLX9 : List (Nat × Nat) := [(37, 66), (44, 146), (81, 145), (88, 195), (94, 199), (111, 200), (118, 155), (122, 201), (126, 166), (129, 167), (132, 144), (136, 5), (142, 85), (148, 71), (154, 84), (170, 156), (180, 149), (184, 148), (188, 147), (191, 68), (194, 157), (197, 158), (200, 165), (204, 151), (207, 25), (213, 69), (216, 152), (223, 67), (227, 81), (230, 20), (236, 86), (239, 24), (242, 164), (246, 159), (253, 160), (257, 162), (260, 163), (264, 87), (267, 161), (281, 153), (290, 4), (293, 172), (296, 173), (320, 170), (324, 171), (328, 150)]
def MLX10 : List (Nat × Nat) := [(25, 425), (38, 176), (42, 179), (45, 182), (49, 183), (53, 424), (56, 175), (59, 177), (63, 178), (66, 181), (71, 416), (78, 419), (81, 413), (85, 180)]
def MLX11 : List (Nat × Nat) := [(55, 192), (80, 426), (87, 6), (97, 193), (101, 194), (117, 198), (120, 196), (126, 197), (129, 200)]
def MLX12 : List (Nat × Nat) := [(11, 188), (18, 30), (28, 108), (37, 64), (46, 0), (55, 19), (58, 154), (67, 88), (76, 146), (112, 189), (115, 190), (123, 143), (159, 32), (163, 13), (169, 18), (173, 2), (179, 7), (182, 8), (186, 4), (199, 9), (205, 10), (223, 3), (226, 26), (236, 40), (250, 174), (253, 168), (258, 218), (265, 219), (272, 144), (276, 169), (280, 94), (292, 82), (302, 83), (312, 227), (320, 27), (325, 103), (328, 107), (332, 92), (335, 147), (338, 149), (342, 50), (348, 62), (354, 11), (358, 63), (365, 65), (369, 225), (375, 226), (382, 57), (385, 424)]
def MLX13 : List (Nat × Nat) := [(256, 237), (260, 240), (264, 242), (268, 243), (272, 238), (275, 239), (278, 244), (287, 246), (291, 245), (294, 241), (297, 247), (309, 251), (312, 250), (316, 253), (319, 252), (325, 249), (329, 256), (336, 260), (349, 259), (352, 261), (355, 265), (359, 257), (362, 234), (366, 258), (372, 293), (381, 268), (385, 291), (388, 292), (391, 255), (394, 289), (397, 290), (400, 269), (403, 286), (407, 287), (410, 263), (413, 262), (416, 276), (419, 288), (422, 254), (431, 273), (441, 280), (444, 281), (448, 270), (451, 272), (454, 282), (457, 274), (460, 271), (463, 275), (466, 278), (469, 277), (472, 283), (475, 284), (478, 279), (481, 285), (490, 295), (495, 248), (498, 266), (501, 267), (504, 294), (507, 299), (510, 297), (513, 264), (516, 298), (519, 296), (523, 300), (557, 303), (560, 304), (563, 305), (569, 308), (572, 307), (578, 311), (588, 310), (591, 309), (594, 312), (597, 313), (600, 316), (603, 318), (606, 319), (612, 320), (615, 321), (618, 317), (621, 314), (624, 322), (628, 315), (631, 306), (634, 323), (637, 331), (640, 324), (644, 325), (647, 327), (651, 329), (654, 326), (664, 328), (667, 330), (670, 334), (673, 335), (680, 343), (683, 345), (687, 349), (690, 351), (693, 350), (696, 353), (699, 342), (703, 344), (706, 352), (712, 348), (715, 346), (718, 347), (721, 354), (724, 359), (727, 356), (730, 358), (737, 363), (740, 364), (744, 365), (748, 357), (752, 366), (758, 368), (762, 355), (765, 360), (769, 369), (772, 370), (775, 371), (778, 367), (781, 361), (784, 362), (787, 373), (790, 372), (793, 377), (796, 376), (799, 378), (803, 379), (807, 375), (810, 381), (814, 380), (817, 382), (824, 384), (844, 389), (853, 390), (856, 391), (862, 392), (864, 397), (867, 400), (870, 399), (873, 398), (876, 401), (879, 396), (882, 404), (885, 406), (889, 407), (892, 405), (902, 408), (906, 410), (909, 403), (912, 409)]
def MLJ0 : List (Nat × Nat) := [(335, 415), (492, 418), (495, 421), (505, 419), (633, 417), (637, 423), (1059, 429)]
def MLJ1 : List (Nat × Nat) := [(9, 414), (88, 420), (95, 422)]
def MLJ7 : List (Nat × Nat) := [(13, 428)]
def MLL : List (Nat × Nat) := [(7, 205), (15, 206), (21, 208), (27, 209), (32, 210), (36, 211), (40, 212), (43, 213), (46, 214), (49, 215), (52, 216), (56, 217), (59, 220), (62, 221), (65, 222), (68, 223), (71, 228), (75, 229), (78, 230), (82, 231), (86, 232), (90, 204), (93, 233), (99, 235), (100, 430), (106, 236), (110, 301), (111, 207), (114, 302), (118, 333), (121, 332), (125, 336), (129, 337), (132, 338), (135, 339), (138, 340), (141, 341), (145, 402), (148, 374), (151, 383), (154, 385), (157, 386), (160, 387), (161, 224), (164, 388), (170, 393), (173, 394), (176, 395), (179, 411), (182, 412)]
def tML : Nat → List (Nat × Nat) := fun o => match o with
  | 3 => MLX0
  | 4 => MLX1
  | 5 => MLX2
  | 6 => MLX3
  | 7 => MLX4
  | 8 => MLX5
  | 9 => MLX6
  | 10 => MLX7
  | 11 => MLX8
  | 12 => MLX9
  | 13 => MLX10
  | 14 => MLX11
  | 15 => MLX12
  | 16 => MLX13
  | 0 => MLJ0
  | 101 => MLJ1
  | 107 => MLJ7
  | 100 => MLL
  | _ => []
def MXX1 : List (Nat × Nat) := [(105, 202)]
def MXX8 : List (Nat × Nat) := [(42, 203)]
def MXX9 : List (Nat × Nat) := [(145, 203)]
def tMX : Nat → List (Nat × Nat) := fun o => match o with
  | 4 => MXX1
  | 11 => MXX8
  | 12 => MXX9
  | _ => []
def KLL : List (Nat × Nat) := [(94, 1), (103, 2), (107, 0), (115, 3), (119, 4), (122, 5), (126, 6), (130, 7), (133, 8), (136, 9), (139, 10), (142, 11), (146, 12), (149, 13), (152, 14), (155, 15), (158, 16), (167, 17), (171, 18), (174, 19), (177, 20), (180, 21)]
def tKL : Nat → List (Nat × Nat) := fun o => match o with
  | 100 => KLL
  | _ => []
def CNX1 : List (Nat × Int32) := [(92, 1000000)]
def CNX3 : List (Nat × Int32) := [(56, (-1640531535))]
def CNX4 : List (Nat × Int32) := [(169, 1000000)]
def CNX5 : List (Nat × Int32) := [(52, 2147483647)]
def CNX12 : List (Nat × Int32) := [(104, 65536)]
def CNX13 : List (Nat × Int32) := [(13, 65536), (18, 131074), (106, 66000), (140, 143000), (147, 35000), (184, 1200000), (191, 566000), (213, 34000), (494, 65537), (584, 1000000), (676, 40000), (679, 65535), (686, 32768), (733, 160000), (734, 200000), (735, 240000), (736, 280000)]
def tCN : Nat → List (Nat × Int32) := fun o => match o with
  | 4 => CNX1
  | 6 => CNX3
  | 7 => CNX4
  | 8 => CNX5
  | 15 => CNX12
  | 16 => CNX13
  | _ => []
def CLX1 : List (Nat × Int64) := [(78, 2147483647), (118, (-2147483647))]
def CLX5 : List (Nat × Int64) := [(29, 2147483647)]
def CLX11 : List (Nat × Int64) := [(124, 2)]
def CLX12 : List (Nat × Int64) := [(361, 6364136223846793005), (363, 1442695040888963407)]
def CLX13 : List (Nat × Int64) := [(677, 65535), (840, 6364136223846793005), (842, 1442695040888963407)]
def CLL : List (Nat × Int64) := [(165, 4294967295)]
def tCL : Nat → List (Nat × Int64) := fun o => match o with
  | 4 => CLX1
  | 8 => CLX5
  | 14 => CLX11
  | 15 => CLX12
  | 16 => CLX13
  | 100 => CLL
  | _ => []
def NWX0 : List (Nat × Nat) := [(19, 14), (26, 6)]
def NWX1 : List (Nat × Nat) := [(13, 8)]
def NWX6 : List (Nat × Nat) := [(23, 8), (32, 6)]
def NWX8 : List (Nat × Nat) := [(9, 8)]
def NWX9 : List (Nat × Nat) := [(26, 11), (35, 8)]
def NWX12 : List (Nat × Nat) := [(9, 13), (16, 5), (26, 10), (35, 7), (44, 3), (53, 4), (56, 12), (65, 9), (74, 11)]
def NWL : List (Nat × Nat) := [(8, 15), (91, 16)]
def tNW : Nat → List (Nat × Nat) := fun o => match o with
  | 3 => NWX0
  | 4 => NWX1
  | 9 => NWX6
  | 11 => NWX8
  | 12 => NWX9
  | 15 => NWX12
  | 100 => NWL
  | _ => []
def ANX6 : List (Nat × Nat) := [(23, 4)]
def ANX9 : List (Nat × Nat) := [(26, 5), (35, 4)]
def tAN : Nat → List (Nat × Nat) := fun o => match o with
  | 9 => ANX6
  | 12 => ANX9
  | _ => []
def BIX0 : List (Nat × Nat) := [(3, 0), (195, 1), (223, 2)]
def BIX1 : List (Nat × Nat) := [(1, 0), (72, 2), (80, 3)]
def BIX2 : List (Nat × Nat) := [(3, 0)]
def BIX3 : List (Nat × Nat) := [(3, 0), (44, 1), (50, 5)]
def BIX4 : List (Nat × Nat) := [(5, 0), (37, 1), (58, 5), (107, 2)]
def BIX5 : List (Nat × Nat) := [(1, 0), (7, 2), (31, 5), (53, 1)]
def BIX6 : List (Nat × Nat) := [(3, 0), (183, 1), (224, 2)]
def BIX7 : List (Nat × Nat) := [(3, 0)]
def BIX8 : List (Nat × Nat) := [(3, 0), (56, 4)]
def BIX9 : List (Nat × Nat) := [(3, 0), (75, 1), (219, 4), (302, 5)]
def BIX10 : List (Nat × Nat) := [(3, 0)]
def BIX11 : List (Nat × Nat) := [(3, 0), (74, 1)]
def BIX12 : List (Nat × Nat) := [(3, 0), (404, 1), (409, 5), (415, 2)]
def BIX13 : List (Nat × Nat) := [(7, 0)]
def BIJ1 : List (Nat × Nat) := [(38, 1), (92, 2)]
def BIJ7 : List (Nat × Nat) := [(150, 5), (304, 1)]
def tBI : Nat → List (Nat × Nat) := fun o => match o with
  | 3 => BIX0
  | 4 => BIX1
  | 5 => BIX2
  | 6 => BIX3
  | 7 => BIX4
  | 8 => BIX5
  | 9 => BIX6
  | 10 => BIX7
  | 11 => BIX8
  | 12 => BIX9
  | 13 => BIX10
  | 14 => BIX11
  | 15 => BIX12
  | 16 => BIX13
  | 101 => BIJ1
  | 107 => BIJ7
  | _ => []
def X1X7 : List (Nat × String) := [(116, "java/lang/IllegalStateException")]
def X1X12 : List (Nat × String) := [(105, "java/lang/UnsupportedOperationException"), (118, "java/lang/IllegalArgumentException"), (126, "java/lang/IllegalStateException"), (154, "java/lang/IndexOutOfBoundsException")]
def tX1 : Nat → List (Nat × String) := fun o => match o with
  | 10 => X1X7
  | 15 => X1X12
  | _ => []
def X2X7 : List (Nat × String) := [(120, "java/lang/IllegalStateException")]
def X2X12 : List (Nat × String) := [(109, "java/lang/UnsupportedOperationException"), (122, "java/lang/IllegalArgumentException"), (158, "java/lang/IndexOutOfBoundsException"), (166, "java/lang/IllegalStateException")]
def tX2 : Nat → List (Nat × String) := fun o => match o with
  | 10 => X2X7
  | 15 => X2X12
  | _ => []
def XHX12 : List (Nat × String) := [(105, "java/lang/UnsupportedOperationException"), (118, "java/lang/IllegalArgumentException"), (126, "java/lang/IllegalStateException"), (154, "java/lang/IndexOutOfBoundsException")]
def XHL : List (Nat × String) := [(13, "java/lang/UnsupportedOperationException"), (19, "java/lang/IllegalArgumentException"), (25, "java/lang/IndexOutOfBoundsException"), (30, "java/lang/IllegalStateException")]
def tXH : Nat → List (Nat × String) := fun o => match o with
  | 15 => XHX12
  | 100 => XHL
  | _ => []
def GSJ0 : List (Nat × Int32) := [(38, 1)]
def tGS : Nat → List (Nat × Int32) := fun o => match o with
  | 0 => GSJ0
  | _ => []
def SRX7 : List (Nat × Nat) := [(118, 2)]
def SRX10 : List (Nat × Nat) := [(76, 0), (69, 1), (89, 3)]
def SRX12 : List (Nat × Nat) := [(107, 4), (120, 5), (156, 6), (164, 7), (167, 8), (177, 9), (203, 10), (209, 11), (230, 12), (241, 13), (246, 14), (248, 15), (256, 16), (261, 17), (263, 18), (286, 19), (300, 20), (308, 21), (310, 22), (316, 23), (318, 24), (323, 25)]
def tSR : Nat → List (Nat × Nat) := fun o => match o with
  | 10 => SRX7
  | 13 => SRX10
  | 15 => SRX12
  | _ => []
def SFJ0 : List (Nat × Bool) := [(9, true), (15, false)]
def tSF : Nat → List (Nat × Bool) := fun o => match o with
  | 0 => SFJ0
  | _ => []
def nO : Nat → String := fun o => match o with
  | 3 => RX0
  | 4 => RX1
  | 5 => RX2
  | 6 => RX3
  | 7 => RX4
  | 8 => RX5
  | 9 => RX6
  | 10 => RX7
  | 11 => RX8
  | 12 => RX9
  | 13 => RX10
  | 14 => RX11
  | 15 => RX12
  | 16 => RX13
  | 0 => RJ0
  | 101 => RJ1
  | 107 => RJ7
  | 103 => RJ3
  | 100 => RL
  | _ => ""
def nT : Nat → u_T := fun o => match o with
  | 3 => TX0
  | 4 => TX1
  | 5 => TX2
  | 6 => TX3
  | 7 => TX4
  | 8 => TX5
  | 9 => TX6
  | 10 => TX7
  | 11 => TX8
  | 12 => TX9
  | 13 => TX10
  | 14 => TX11
  | 15 => TX12
  | 16 => TX13
  | 0 => TJ0
  | _ => fun _ => ("", "", "", false)
def nN : Nat → Nat := fun o => match o with
  | 3 => 18
  | 4 => 7
  | 5 => 16
  | 6 => 7
  | 7 => 20
  | 8 => 2
  | 9 => 14
  | 10 => 19
  | 11 => 3
  | 12 => 17
  | 13 => 6
  | 14 => 19
  | 15 => 18
  | 16 => 126
  | 0 => 4
  | _ => 0
def nY : Nat → (Nat → FieldType) := fun o => match o with
  | 3 => tyX0
  | 4 => tyX1
  | 5 => tyX2
  | 6 => tyX3
  | 7 => tyX4
  | 8 => tyX5
  | 9 => tyX6
  | 10 => tyX7
  | 11 => tyX8
  | 12 => tyX9
  | 13 => tyX10
  | 14 => tyX11
  | 15 => tyX12
  | 16 => tyX13
  | 0 => tyJ0
  | _ => fun _ => .int
def osC : List Nat := [3, 4, 5, 6, 7, 8, 9, 10, 11, 12, 13, 14, 15, 16, 0]
def osA : List Nat := [3, 4, 5, 6, 7, 8, 9, 10, 11, 12, 13, 14, 15, 16, 0, 101, 107, 103, 100]
def tFT (ci k : Nat) : Option (FieldType × Bool) := if k < nN ci then some (nY ci k, (nT ci k).2.2.2) else none
def tND (ci : Nat) : Option (List Value) := if ci ∈ osC then some ((List.range (nN ci)).map fun k => defaultValue (nY ci k)) else none
/-- texts: class, entry, text -/
def STs : List (String × Nat × String) := [(RX10, 76, "var arr func local if else while return observe gain pick flip choose "),
  (RX10, 69, "(){}[];,:~=<>+-*/%&|!"),
  (RX7, 118, "a fault of the text"),
  (RX10, 89, "main"),
  (RX12, 107, "the tape is full"),
  (RX12, 120, "the tape has not so many bytes"),
  (RX12, 156, "no such count"),
  (RX12, 164, "there is no program"),
  (RX12, 167, "most is not 1 .. 1000"),
  (RX12, 177, "no such state or question"),
  (RX12, 203, "no such state, call or variable"),
  (RX12, 209, "no such state, next or question"),
  (RX12, 230, "no such ending or variable"),
  (RX12, 241, "no such state that chooses, or next"),
  (RX12, 246, "no such state that chooses"),
  (RX12, 248, "nothing is explored"),
  (RX12, 256, "no such kind"),
  (RX12, 261, "there is no such fraction now"),
  (RX12, 263, "no such ending or state"),
  (RX12, 286, "no such part"),
  (RX12, 300, "no such number"),
  (RX12, 308, "200 draws are told"),
  (RX12, 310, "most is not 0 .. 2000"),
  (RX12, 316, "no such question"),
  (RX12, 318, "nothing is solved"),
  (RX12, 323, "no such variable")]
/-- what the static of the JDK's checks holds -/
def pvV (sa : Nat → Nat) : Value := if sa 99 = 0 then .null else .ref (sa 99 - 1)
def SLs (sa : Nat → Nat) (TL : List (Nat × Nat × List Int32)) : dSL := ((STs.zipIdx.map fun q => (q.1.1, q.1.2.1, sa q.2, q.1.2.2), pvV sa), TL)
def gSt (sa : Nat → Nat) (o i : Nat) : Option Value := match (tGS o).lookup i with
  | some v => some (.int v)
  | none => if o = 0 ∧ i = 1053 then some (pvV sa) else none
def dEE (sa : Nat → Nat) (TL : List (Nat × Nat × List Int32)) : dE := (fun j => MTs[j]?, fun o i => (tFL o).lookup i, fun o i => (tML o ++ tMX o).lookup i, fun o i => (tCN o).lookup i, fun o i => (tCL o).lookup i, tFT, fun o i => (tNW o).lookup i, tND, fun o i => (tAN o).lookup i, fun o i => (tBI o).lookup i, fun o i => ((tSR o).lookup i).map sa, gSt sa, fun o i => (tSF o).lookup i, TL)
def dXX : dX := (fun o i => (tX1 o).lookup i, fun o i => (tX2 o).lookup i)
def dKK : dKE := (fun j => KMs[j]?, fun o i => (tKL o).lookup i, fun o i => (tXH o).lookup i)
def rLaw : dM := (x, code, 8, ret, true, 100, 1)
def GS0 : List Cond := MTs.map (fun r => Cond.code r.1 r.2.1 r.2.2.1 r.2.2.2.1)
def GS1 : List Cond := KMs.map (fun q => Cond.codeWith q.1.1 q.1.2.1 q.1.2.2.1 q.1.2.2.2.1 q.2)
def GS2 : List Cond := osA.map (fun o => Cond.initialized (nO o))
def GS3 : List Cond := ((MTs ++ KMs.map (fun q => q.1)).filter (fun r => r.2.2.2.2.1)).map (fun r => Cond.static r.1)
def GS4 : List Cond := ((MTs ++ KMs.map (fun q => q.1)).filter (fun r => !r.2.2.2.2.1)).map (fun r => Cond.instanceMethod r.1)
def GS5 : List Cond := ((MTs ++ KMs.map (fun q => q.1)).filter (fun r => !r.2.2.2.2.1 && decide (r.1.name ≠ "<init>"))).map (fun r => Cond.selects r.1.cls r.1 r.1)
def GS6 : List Cond := osA.flatMap (fun o => (tFL o).map (fun q => Cond.fieldLink (nO o) q.1 (nO q.2.1) (nT q.2.1 q.2.2).2.1 (nT q.2.1 q.2.2).2.2.1))
def GS7 : List Cond := osA.flatMap (fun o => (tML o).filterMap (fun q => (MTs[q.2]?).map (fun r => Cond.methodLink (nO o) q.1 r.1)))
def GS8 : List Cond := osA.flatMap (fun o => (tKL o).filterMap (fun q => (KMs[q.2]?).map (fun r => Cond.methodLink (nO o) q.1 r.1.1)))
def GS9 : List Cond := osA.flatMap (fun o => (tCN o).map (fun q => Cond.constant (nO o) q.1 q.2))
def GS10 : List Cond := osA.flatMap (fun o => (tCL o).map (fun q => Cond.constantLong (nO o) q.1 q.2))
def GS11 : List Cond := osC.flatMap (fun o => u_ws (nO o) (nT o) (nN o))
def GS12 : List Cond := [Cond.arrayClass .int, Cond.arrayClass .byte, Cond.arrayClass .long, Cond.arrayClass .boolean]
def GS13 : List Cond := osA.flatMap (fun o => (tNW o).map (fun q => Cond.classLink (nO o) q.1 (nO q.2)))
def GS14 : List Cond := osA.flatMap (fun o => (tNW o).map (fun q => Cond.instantiable (nO q.2) (nN q.2)))
def GS15 : List Cond := osA.flatMap (fun o => (tAN o).map (fun q => Cond.classLink (nO o) q.1 (if q.2 = 4 then "ChanceWorks$Num" else "ChanceWorks$Ratio")))
def GS16 : List Cond := osA.flatMap (fun o => (tBI o).flatMap (fun q => dBW (nO o) q.1 q.2))
def GS17 : List Cond := osA.flatMap (fun o => (tGS o).map (fun q => Cond.fieldLink (nO o) q.1 "java/lang/String" "COMPACT_STRINGS" "Z"))
def GS18 : List Cond := osA.flatMap (fun o => (tX1 o).map (fun q => Cond.classLink (nO o) q.1 q.2))
def GS19 : List Cond := osA.flatMap (fun o => (tXH o).map (fun q => Cond.classLink (nO o) q.1 q.2))
def GS20 : List Cond := exs.map (fun c => Cond.initialized c)
def GS21 : List Cond := osA.flatMap (fun o => (tX2 o).flatMap (fun q => (vx_atS (nO o) q.1 q.2 xnm).filter goodWord))
def GS22 : List Cond := osA.flatMap (fun o => (tSF o).map (fun q => if q.2 = true then Cond.fieldLink (nO o) q.1 "java/lang/String" "value" "[B" else Cond.fieldLink (nO o) q.1 "java/lang/String" "coder" "B"))
def GS23 : List Cond := [Cond.fieldLink (nO 0) 1053 "jdk/internal/util/Preconditions" "SIOOBE_FORMATTER" "Ljava/util/function/BiFunction;"]
/-- all words that the runs need -/
def GWs : List Cond := GS0 ++ (GS1 ++ (GS2 ++ (GS3 ++ (GS4 ++ (GS5 ++ (GS6 ++ (GS7 ++ (GS8 ++ (GS9 ++ (GS10 ++ (GS11 ++ (GS12 ++ (GS13 ++ (GS14 ++ (GS15 ++ (GS16 ++ (GS17 ++ (GS18 ++ (GS19 ++ (GS20 ++ (GS21 ++ (GS22 ++ (GS23)))))))))))))))))))))))
