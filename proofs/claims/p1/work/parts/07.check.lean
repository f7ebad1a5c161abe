/-! WHAT THE WORDS OF THE TABLES SAY OF EACH INSTRUCTION: checked by program -/
abbrev jN : Type := MethodName × ByteArray × Nat × Option FieldType
def jYL : List jN := [(yX0_init, cX0_init, 1, none),
  (yX0_packed, cX0_packed, 7, some (.array .long)),
  (yX0_parse, cX0_parse, 4, some .boolean),
  (yX0_readTokens, cX0_readTokens, 6, none),
  (yX0_token, cX0_token, 12, some .int),
  (yX0_isLetter, cX0_isLetter, 1, some .boolean),
  (yX0_isDigit, cX0_isDigit, 1, some .boolean),
  (yX0_fail, cX0_fail, 3, some .int),
  (yX0_isNow, cX0_isNow, 2, some .boolean),
  (yX0_isNowKey, cX0_isNowKey, 2, some .boolean),
  (yX0_keyNow, cX0_keyNow, 1, some .int),
  (yX0_expect, cX0_expect, 2, some .boolean),
  (yX0_heading, cX0_heading, 5, some .long),
  (yX0_letStatement, cX0_letStatement, 4, none),
  (yX0_ruleStatement, cX0_ruleStatement, 4, none),
  (yX0_tableStatement, cX0_tableStatement, 4, none),
  (yX0_point, cX0_point, 6, none),
  (yX0_signedNumber, cX0_signedNumber, 3, some .int),
  (yX0_tell, cX0_tell, 5, none),
  (yX0_newName, cX0_newName, 3, some .long),
  (yX0_find, cX0_find, 5, some .int),
  (yX0_condition, cX0_condition, 6, some .int),
  (yX0_bothOf, cX0_bothOf, 6, some .int),
  (yX0_join, cX0_join, 4, some .int),
  (yX0_negation, cX0_negation, 4, some .int),
  (yX0_sum, cX0_sum, 7, some .int),
  (yX0_product, cX0_product, 7, some .int),
  (yX0_factor, cX0_factor, 3, some .int),
  (yX0_inBrackets, cX0_inBrackets, 3, some .int),
  (yX0_choice, cX0_choice, 5, some .int),
  (yX0_series, cX0_series, 9, some .int),
  (yX0_meaning, cX0_meaning, 8, some .int),
  (yX1_init, cX1_init, 1, none),
  (yX1_build, cX1_build, 4, none),
  (yX1_level, cX1_level, 13, some .int),
  (yX1_measure, cX1_measure, 20, none),
  (yX1_weigh, cX1_weigh, 23, none),
  (yX2_init, cX2_init, 1, none),
  (yX2_byteAt, cX2_byteAt, 2, some .int),
  (yX2_append, cX2_append, 6, some .boolean),
  (yX2_addBytes, cX2_addBytes, 4, none),
  (yX2_number, cX2_number, 5, some .int),
  (yX2_changesIn, cX2_changesIn, 2, some .int),
  (yX2_placeIn, cX2_placeIn, 3, some .int),
  (yX2_endOf, cX2_endOf, 3, some .int),
  (yX2_play, cX2_play, 6, none),
  (yX3_init, cX3_init, 1, none),
  (yX3_setLeast, cX3_setLeast, 3, none),
  (yX3_copy, cX3_copy, 2, none),
  (yX3_at, cX3_at, 2, some .int),
  (yX3_set, cX3_set, 3, none),
  (yX3_of, cX3_of, 5, some .int),
  (yX3_textBytes, cX3_textBytes, 1, some .int),
  (yX3_textByte, cX3_textByte, 2, some .int),
  (yX3_kindOf, cX3_kindOf, 2, some .int),
  (yX3_kinds, cX3_kinds, 3, some .int),
  (yX3_bottom, cX3_bottom, 3, some .int),
  (yX3_deck, cX3_deck, 2, some .int),
  (yX3_room, cX3_room, 6, some .int),
  (yX3_steelOf, cX3_steelOf, 10, some .long),
  (yX3_firstFault, cX3_firstFault, 3, some .int),
  (yX3_isRight, cX3_isRight, 3, some .boolean),
  (yX3_inOrder, cX3_inOrder, 4, some .boolean),
  (yX3_spaceRight, cX3_spaceRight, 3, some .boolean),
  (yX3_meet, cX3_meet, 7, some .boolean),
  (yX3_fillRight, cX3_fillRight, 3, some .boolean),
  (yX3_openingRight, cX3_openingRight, 4, some .boolean),
  (yX3_plateRight, cX3_plateRight, 4, some .boolean),
  (yX3_taskRight, cX3_taskRight, 5, some .boolean),
  (yX4_init, cX4_init, 1, none),
  (yX4_begin, cX4_begin, 2, none),
  (yX4_set, cX4_set, 4, none),
  (yX4_see, cX4_see, 4, some .int),
  (yX4_clash, cX4_clash, 3, some .int),
  (yX4_lay, cX4_lay, 3, none),
  (yX4_rowsWritten, cX4_rowsWritten, 3, some .int),
  (yX5_init, cX5_init, 1, none),
  (yX5_hasWay, cX5_hasWay, 2, some .boolean),
  (yX5_costOf, cX5_costOf, 2, some .int),
  (yX5_leadAll, cX5_leadAll, 3, none),
  (yX5_endOf, cX5_endOf, 3, some .int),
  (yX5_cellAt, cX5_cellAt, 3, some .int),
  (yX5_takeSolid, cX5_takeSolid, 6, none),
  (yX5_bar, cX5_bar, 9, none),
  (yX5_leadOne, cX5_leadOne, 5, none),
  (yX5_neighbour, cX5_neighbour, 5, some .int),
  (yX5_costOfStep, cX5_costOfStep, 1, some .int),
  (yX5_search, cX5_search, 11, some .int),
  (yX5_offer, cX5_offer, 4, none),
  (yX5_drop, cX5_drop, 2, none),
  (yX5_walk, cX5_walk, 9, none),
  (yX5_bestStep, cX5_bestStep, 7, some .int),
  (yX6_init, cX6_init, 1, none),
  (yX6_clear, cX6_clear, 1, none),
  (yX6_add, cX6_add, 6, some .int),
  (yX7_init, cX7_init, 2, none),
  (yX7_rests, cX7_rests, 1, some .boolean),
  (yX7_hasLiquid, cX7_hasLiquid, 2, some .boolean),
  (yX7_liquidLevel, cX7_liquidLevel, 2, some .int),
  (yX7_pointsIn, cX7_pointsIn, 4, some .int),
  (yX7_plane, cX7_plane, 3, some .int),
  (yX7_alongShip, cX7_alongShip, 8, some .long),
  (yX7_come, cX7_come, 7, some .int),
  (yX7_load, cX7_load, 5, none),
  (yX7_seaSet, cX7_seaSet, 1, some .int),
  (yX7_heel, cX7_heel, 11, some .int),
  (yX7_lever, cX7_lever, 7, some .long),
  (yX7_turning, cX7_turning, 3, some .long),
  (yX7_tilt, cX7_tilt, 6, some .int),
  (yX7_layDown, cX7_layDown, 4, none),
  (yX7_flooded, cX7_flooded, 6, some .int),
  (yX7_loadSlices, cX7_loadSlices, 7, none),
  (yX8_init, cX8_init, 1, none),
  (yX8_fill, cX8_fill, 6, none),
  (yX8_largest, cX8_largest, 7, some .int),
  (yX8_shapePlate, cX8_shapePlate, 8, none),
  (yX8_placeAll, cX8_placeAll, 7, none),
  (yX8_placeInRow, cX8_placeInRow, 7, some .boolean),
  (yX8_fits, cX8_fits, 8, some .boolean),
  (yX8_lay, cX8_lay, 10, none),
  (yX8_pieceTold, cX8_pieceTold, 3, some .int),
  (yX8_sheetTold, cX8_sheetTold, 3, some .int),
  (yX8_piecesOn, cX8_piecesOn, 4, some .int),
  (yX8_ownerAt, cX8_ownerAt, 4, some .int),
  (yX8_cellsOn, cX8_cellsOn, 5, some .int),
  (yX8_usedRows, cX8_usedRows, 5, some .int),
  (yX8_edgesOn, cX8_edgesOn, 6, some .int),
  (yX8_findRests, cX8_findRests, 5, none),
  (yX8_restFrom, cX8_restFrom, 7, some .int),
  (yX8_reach, cX8_reach, 6, some .int),
  (yX9_init, cX9_init, 1, none),
  (yX9_cutRods, cX9_cutRods, 3, none),
  (yX9_cutFrom, cX9_cutFrom, 8, some .boolean),
  (yX9_isPlanned, cX9_isPlanned, 2, some .boolean),
  (yX9_beginOf, cX9_beginOf, 2, some .int),
  (yX9_planWork, cX9_planWork, 3, none),
  (yX9_tryOrders, cX9_tryOrders, 9, none),
  (yX9_firstDay, cX9_firstDay, 9, some .int),
  (yX9_occupy, cX9_occupy, 9, none),
  (yX10_init, cX10_init, 6, none),
  (yX10_judge, cX10_judge, 4, some .int),
  (yX10_letPart, cX10_letPart, 3, some .long),
  (yX10_workOutLets, cX10_workOutLets, 3, none),
  (yX10_isOver, cX10_isOver, 1, some .boolean),
  (yX10_truth, cX10_truth, 4, some .int),
  (yX10_chainTruth, cX10_chainTruth, 8, some .int),
  (yX10_comparison, cX10_comparison, 9, some .int),
  (yX10_number, cX10_number, 4, none),
  (yX10_letWord, cX10_letWord, 2, none),
  (yX10_chain, cX10_chain, 9, none),
  (yX10_choice, cX10_choice, 4, none),
  (yX10_series, cX10_series, 14, none),
  (yX10_keepBetter, cX10_keepBetter, 7, none),
  (yX10_tableAt, cX10_tableAt, 10, none),
  (yX10_between, cX10_between, 6, none),
  (yX10_word, cX10_word, 2, none),
  (yX10_wordOfRest, cX10_wordOfRest, 2, none),
  (yX10_wordOf, cX10_wordOf, 10, none),
  (yX10_draught, cX10_draught, 2, none),
  (yX10_alongShip, cX10_alongShip, 3, none),
  (yX10_second, cX10_second, 4, none),
  (yX10_undone, cX10_undone, 1, none),
  (yX10_set, cX10_set, 12, none),
  (yX10_isBeyond, cX10_isBeyond, 2, some .boolean),
  (yX10_times, cX10_times, 4, some .long),
  (yX10_act, cX10_act, 14, none),
  (yX10_compare, cX10_compare, 12, some .int),
  (yX11_init, cX11_init, 6, none),
  (yX11_open, cX11_open, 2, some .int),
  (yX11_put, cX11_put, 6, some .int),
  (yX11_get, cX11_get, 5, some .int),
  (yX11_feed, cX11_feed, 6, some .int),
  (yX11_tapeInt, cX11_tapeInt, 3, none),
  (yX11_cut, cX11_cut, 2, some .int),
  (yX11_write, cX11_write, 6, some .int),
  (yX11_tapedInt, cX11_tapedInt, 4, some .int),
  (yX11_commit, cX11_commit, 5, some .int),
  (yX11_leave, cX11_leave, 2, some .int),
  (yX11_undo, cX11_undo, 7, some .int),
  (yX11_model, cX11_model, 4, some .int),
  (yX11_log, cX11_log, 2, some .int),
  (yX11_crash, cX11_crash, 3, some .int),
  (yX11_reopen, cX11_reopen, 4, some .int),
  (yX11_told, cX11_told, 2, some .int),
  (yX11_transactions, cX11_transactions, 3, some .int),
  (yX11_settle, cX11_settle, 4, some .int),
  (yX11_markChanges, cX11_markChanges, 4, none),
  (yX11_forgetWork, cX11_forgetWork, 1, none),
  (yX11_isPerson, cX11_isPerson, 1, some .boolean),
  (yX11_isPlace, cX11_isPlace, 3, some .boolean),
  (yX11_mayBe, cX11_mayBe, 4, some .boolean),
  (yX11_placeOf, cX11_placeOf, 3, some .int),
  (yX11_rowOf, cX11_rowOf, 2, some .int),
  (yX11_sea, cX11_sea, 2, some .int),
  (yX11_rest, cX11_rest, 2, some .long),
  (yX11_water, cX11_water, 3, some .int),
  (yX11_liquid, cX11_liquid, 2, some .int),
  (yX11_arm, cX11_arm, 2, some .long),
  (yX11_along, cX11_along, 3, some .long),
  (yX11_rules, cX11_rules, 2, some .int),
  (yX11_verdict, cX11_verdict, 2, some .int),
  (yX11_steps, cX11_steps, 2, some .int),
  (yX11_let, cX11_let, 3, some .long),
  (yX11_nest, cX11_nest, 2, some .int),
  (yX11_piece, cX11_piece, 3, some .int),
  (yX11_sheet, cX11_sheet, 3, some .int),
  (yX11_bars, cX11_bars, 1, some .int),
  (yX11_rod, cX11_rod, 2, some .int),
  (yX11_lead, cX11_lead, 1, some .int),
  (yX11_way, cX11_way, 3, some .int),
  (yX11_step, cX11_step, 3, some .int),
  (yX11_plan, cX11_plan, 1, some .int),
  (yX11_task, cX11_task, 3, some .int),
  (yX12_init, cX12_init, 5, none),
  (yX12_at, cX12_at, 4, some .int),
  (yX12_least, cX12_least, 2, some .int),
  (yX12_most, cX12_most, 2, some .int),
  (yX12_first, cX12_first, 6, none),
  (yX12_isField, cX12_isField, 4, some .boolean),
  (yX12_isPerson, cX12_isPerson, 1, some .boolean),
  (yX12_open, cX12_open, 2, some .int),
  (yX12_end, cX12_end, 3, none),
  (yX12_set, cX12_set, 4, none),
  (yX12_put, cX12_put, 6, some .int),
  (yX12_get, cX12_get, 6, some .int),
  (yX12_feed, cX12_feed, 6, some .int),
  (yX12_lay, cX12_lay, 3, none),
  (yX12_cut, cX12_cut, 2, some .int),
  (yX12_write, cX12_write, 6, some .int),
  (yX12_commit, cX12_commit, 3, some .int),
  (yX12_take, cX12_take, 6, some .int),
  (yX12_logBytes, cX12_logBytes, 4, none),
  (yX12_logNumber, cX12_logNumber, 5, some .int),
  (yX12_leave, cX12_leave, 4, some .int),
  (yX12_undo, cX12_undo, 7, some .int),
  (yX12_replay, cX12_replay, 5, some .int),
  (yX12_model, cX12_model, 4, some .int),
  (yX12_log, cX12_log, 2, some .int),
  (yX12_crash, cX12_crash, 3, some .int),
  (yX12_reopen, cX12_reopen, 4, some .int),
  (yX12_isWhole, cX12_isWhole, 2, some .boolean),
  (yX12_told, cX12_told, 4, some .int),
  (yX12_wrongRow, cX12_wrongRow, 4, some .int),
  (yX12_isRight, cX12_isRight, 5, some .boolean),
  (yX12_isSpaceRight, cX12_isSpaceRight, 10, some .boolean),
  (yX12_isPlateRight, cX12_isPlateRight, 5, some .boolean),
  (yX12_isTaskRight, cX12_isTaskRight, 6, some .boolean),
  (yX12_bottom, cX12_bottom, 4, some .int),
  (yX12_roomOf, cX12_roomOf, 9, some .int),
  (yX12_forget, cX12_forget, 1, none),
  (yX12_word, cX12_word, 4, some .long),
  (yX12_among, cX12_among, 7, some .int),
  (yX12_textByte, cX12_textByte, 3, some .int),
  (yX12_fails, cX12_fails, 3, some .boolean),
  (yX12_isLetter, cX12_isLetter, 1, some .boolean),
  (yX12_isDigit, cX12_isDigit, 1, some .boolean),
  (yX12_tokenize, cX12_tokenize, 9, some .boolean),
  (yX12_token, cX12_token, 5, none),
  (yX12_is, cX12_is, 2, some .boolean),
  (yX12_isWord, cX12_isWord, 2, some .boolean),
  (yX12_want, cX12_want, 2, some .boolean),
  (yX12_parse, cX12_parse, 2, some .boolean),
  (yX12_statement, cX12_statement, 6, none),
  (yX12_name, cX12_name, 5, some .long),
  (yX12_table, cX12_table, 8, none),
  (yX12_signed, cX12_signed, 4, some .long),
  (yX12_node, cX12_node, 7, some .int),
  (yX12_or, cX12_or, 3, some .int),
  (yX12_and, cX12_and, 3, some .int),
  (yX12_not, cX12_not, 4, some .int),
  (yX12_sum, cX12_sum, 4, some .int),
  (yX12_product, cX12_product, 4, some .int),
  (yX12_factor, cX12_factor, 6, some .int),
  (yX12_choice, cX12_choice, 5, some .int),
  (yX12_over, cX12_over, 8, some .int),
  (yX12_named, cX12_named, 6, some .int),
  (yX12_alone, cX12_alone, 2, some .int),
  (yX12_asked, cX12_asked, 3, some .int),
  (yX12_times, cX12_times, 9, some .long),
  (yX12_common, cX12_common, 10, some .long),
  (yX12_result, cX12_result, 7, none),
  (yX12_undone, cX12_undone, 1, none),
  (yX12_act, cX12_act, 14, none),
  (yX12_compare, cX12_compare, 13, some .int),
  (yX12_step, cX12_step, 1, none),
  (yX12_value, cX12_value, 7, none),
  (yX12_rounds, cX12_rounds, 14, none),
  (yX12_looked, cX12_looked, 14, none),
  (yX12_whole, cX12_whole, 3, none),
  (yX12_part, cX12_part, 5, none),
  (yX12_says, cX12_says, 8, some .int),
  (yX12_yardWord, cX12_yardWord, 2, none),
  (yX12_rests, cX12_rests, 1, some .boolean),
  (yX12_yardOf, cX12_yardOf, 12, none),
  (yX12_rules, cX12_rules, 2, some .int),
  (yX12_judge, cX12_judge, 3, some .int),
  (yX12_verdict, cX12_verdict, 2, some .int),
  (yX12_steps, cX12_steps, 2, some .int),
  (yX12_let, cX12_let, 3, some .long),
  (yX12_isIn, cX12_isIn, 5, some .boolean),
  (yX12_isOpenSpace, cX12_isOpenSpace, 2, some .boolean),
  (yX12_layRuns, cX12_layRuns, 11, none),
  (yX12_below, cX12_below, 10, some .long),
  (yX12_sums, cX12_sums, 11, none),
  (yX12_spaceLow, cX12_spaceLow, 6, some .int),
  (yX12_spaceHigh, cX12_spaceHigh, 5, some .int),
  (yX12_pointsBelow, cX12_pointsBelow, 14, some .long),
  (yX12_hasLiquid, cX12_hasLiquid, 2, some .boolean),
  (yX12_liquidPlane, cX12_liquidPlane, 9, some .int),
  (yX12_weightOfAll, cX12_weightOfAll, 5, some .long),
  (yX12_moments, cX12_moments, 8, none),
  (yX12_liquidMoments, cX12_liquidMoments, 16, none),
  (yX12_level, cX12_level, 6, some .int),
  (yX12_balance, cX12_balance, 3, none),
  (yX12_lengthwise, cX12_lengthwise, 5, some .long),
  (yX12_across, cX12_across, 4, some .long),
  (yX12_trim, cX12_trim, 5, some .int),
  (yX12_side, cX12_side, 3, some .int),
  (yX12_heel, cX12_heel, 7, some .int),
  (yX12_sea, cX12_sea, 3, some .int),
  (yX12_settle, cX12_settle, 2, none),
  (yX12_floods, cX12_floods, 8, some .boolean),
  (yX12_along, cX12_along, 8, none),
  (yX12_liquidLoads, cX12_liquidLoads, 10, none),
  (yX12_rest, cX12_rest, 2, some .long),
  (yX12_water, cX12_water, 3, some .int),
  (yX12_liquid, cX12_liquid, 2, some .int),
  (yX12_arm, cX12_arm, 3, some .long),
  (yX12_along_, cX12_along_, 3, some .long),
  (yX12_steel, cX12_steel, 11, some .long),
  (yX12_cellsOf, cX12_cellsOf, 5, some .int),
  (yX12_listPieces, cX12_listPieces, 5, none),
  (yX12_turned, cX12_turned, 7, none),
  (yX12_lies, cX12_lies, 9, some .boolean),
  (yX12_nest, cX12_nest, 3, some .int),
  (yX12_findPlace, cX12_findPlace, 9, none),
  (yX12_firstPlaceOf, cX12_firstPlaceOf, 5, some .long),
  (yX12_lay_, cX12_lay_, 8, none),
  (yX12_piece, cX12_piece, 3, some .int),
  (yX12_sheet, cX12_sheet, 7, some .int),
  (yX12_edges, cX12_edges, 10, some .int),
  (yX12_groups, cX12_groups, 15, some .int),
  (yX12_bars, cX12_bars, 3, some .int),
  (yX12_cutFrom, cX12_cutFrom, 8, some .boolean),
  (yX12_rod, cX12_rod, 2, some .int),
  (yX12_stepped, cX12_stepped, 7, some .int),
  (yX12_bar, cX12_bar, 8, none),
  (yX12_barAll, cX12_barAll, 7, none),
  (yX12_lead, cX12_lead, 2, some .int),
  (yX12_lead_, cX12_lead_, 15, none),
  (yX12_price, cX12_price, 2, some .int),
  (yX12_payBack, cX12_payBack, 6, none),
  (yX12_lower, cX12_lower, 3, none),
  (yX12_payAhead, cX12_payAhead, 5, none),
  (yX12_way, cX12_way, 3, some .int),
  (yX12_step_, cX12_step_, 3, some .int),
  (yX12_plan, cX12_plan, 4, some .int),
  (yX12_orders, cX12_orders, 6, none),
  (yX12_schedule, cX12_schedule, 9, none),
  (yX12_isRoom, cX12_isRoom, 4, some .boolean),
  (yX12_task, cX12_task, 3, some .int),
  (yJ6_bitCount_0f7a4, cJ6_bitCount_0f7a4, 1, some .int),
  (yJ13_compare_74951, cJ13_compare_74951, 4, some .int),
  (yJ7_fill_d0a16, cJ7_fill_d0a16, 5, none),
  (yJ7_fill_53178, cJ7_fill_53178, 4, none),
  (yJ7_fill_031fb, cJ7_fill_031fb, 4, none)]
def jY (k : Nat) : jN := jYL.getD k (⟨"", "", ""⟩, ⟨#[]⟩, 0, none)
def jtys : List (List Nat) := [[0, 0, 2, 2, 2, 2, 0, 0, 2, 2, 2, 2, 2, 2, 0, 2, 0], [2, 2, 2, 2, 2, 2, 2, 2, 2, 2, 1, 1, 1, 1, 1], [2, 0], [2], [3, 0, 2, 2, 2, 2], [3, 0, 2, 2, 2, 2, 2, 2, 2, 2, 2, 2, 0], [2, 2, 2, 2, 2, 2, 2, 2, 2, 2, 0, 0, 0, 0], [2, 2, 3, 2, 0, 0, 0, 1, 1, 2, 2, 2, 2, 2, 2, 2, 2, 2, 2], [3, 0, 0, 0, 0, 0, 0, 0, 2, 2, 2, 2, 2, 2, 2, 2, 2, 2, 2, 2], [3, 3, 0, 2, 2, 0, 2, 2, 0, 2, 2, 2, 2], [2, 2, 2, 2, 2, 2, 1, 1, 0, 2, 3, 2, 2, 2], [2, 2, 2, 2, 2, 2, 2, 0, 0, 0, 0, 3, 2, 2, 2, 2, 2, 2, 2, 2], [2, 2, 2, 2, 2, 2, 2, 2, 2, 2, 2, 2, 2, 2, 2, 0, 2, 0, 3, 2, 0, 0, 0, 0, 2, 2, 2, 0, 0, 0, 0, 2, 2, 2, 2, 2, 0, 2, 2, 0, 2, 2, 2, 2, 2, 0, 0, 2, 2, 0, 2, 2, 0, 3, 1, 1, 0, 3, 2, 3, 0, 0, 0, 1, 1, 1, 0, 0, 0, 2, 2, 2, 2, 2, 2, 2, 2, 2, 2, 1, 1, 1, 1, 1, 1, 1, 0, 3, 0, 0, 2, 2, 2, 2, 2, 2, 2, 2, 2, 0, 2, 2, 2, 3, 0, 2, 2, 3, 0, 2, 2, 2, 2, 2, 2, 2, 2, 2, 2, 0, 3, 0, 2, 2, 2, 2, 2, 2]]
def jty (c k : Nat) : Nat := (jtys.getD c []).getD k 9
def jsn : List String := ["ROWS", "FIELDS", "FIRST_ROW", "FIRST_PLACE", "FIRST_LIMIT", "LEAST", "MOST"]
def jtx : List String := ["let table rule if sum max min and or not ", "level trim heel water weight rounds length breadth placed left bars led end ", "draught force bend lever area axis second room fill price start ", "+-*/()[],;:=#<>", "+-*/()[],;:=#<>", "let", "table", "rule", " let table rule if sum max min and or not ", " level trim heel water weight rounds length breadth placed left bars led end ", " draught force bend lever area axis second room fill price start ", "not", "and", "or"]
def jtxo : List (String × Nat) := [("ShipYard$Grammar", 36), ("ShipYard$Grammar", 45), ("ShipYard$Grammar", 50), ("ShipYard$Grammar", 141), ("ShipYardModel", 411), ("ShipYardModel", 451), ("ShipYardModel", 457), ("ShipYardModel", 459), ("ShipYardModel", 476), ("ShipYardModel", 482), ("ShipYardModel", 484), ("ShipYardModel", 501), ("ShipYardModel", 500), ("ShipYardModel", 492)]
def jpos : List (List Nat) := [[311, 310, 0, 208, 2], [316, 315, 0, 208, 0], [1079, 1077, 1078, 208, 1], [1087, 1086, 11, 208, 1], [1100, 1099, 12, 208, 1], [1103, 1102, 0, 208, 0], [1106, 1105, 0, 208, 0], [1184, 1183, 17, 208, 1], [1172, 1171, 14, 208, 1], [1168, 1167, 13, 208, 1], [1192, 1191, 19, 208, 1], [1199, 1198, 20, 208, 1], [1180, 1179, 16, 208, 1], [1176, 1175, 15, 208, 1], [1267, 1266, 36, 208, 1], [1255, 1254, 33, 208, 1], [1259, 1258, 34, 208, 1], [1263, 1262, 35, 208, 1], [1251, 1250, 32, 208, 1], [1188, 1187, 18, 208, 1], [1195, 1194, 0, 208, 0], [1227, 1226, 26, 208, 1], [1231, 1230, 27, 208, 1], [1239, 1238, 29, 208, 1], [1235, 1234, 28, 208, 1], [1203, 1202, 21, 208, 1], [1207, 1206, 22, 208, 1], [1211, 1210, 23, 208, 1], [1219, 1218, 24, 208, 1], [1223, 1222, 25, 208, 1], [1243, 1242, 30, 208, 1], [1247, 1246, 31, 208, 1], [505, 504, 0, 215, 2], [1373, 1371, 1372, 215, 1], [1416, 1414, 1415, 215, 1], [1422, 1421, 46, 215, 1], [1399, 1397, 1398, 215, 1], [296, 295, 0, 207, 2], [1296, 1294, 1295, 207, 1], [1271, 1269, 1270, 207, 1], [1276, 1275, 37, 207, 1], [1292, 1291, 39, 207, 1], [1284, 1282, 1283, 207, 1], [1300, 1298, 1299, 207, 1], [1288, 1286, 1287, 207, 1], [1324, 1322, 1323, 207, 1], [237, 236, 0, 203, 2], [242, 240, 241, 203, 1], [1000, 998, 999, 203, 1], [968, 966, 967, 203, 1], [1011, 1009, 1010, 203, 1], [1035, 1033, 1034, 203, 1], [1091, 1089, 1090, 203, 1], [1096, 1094, 1095, 203, 1], [1031, 1029, 1030, 203, 1], [1365, 1363, 1364, 203, 1], [1062, 1060, 1061, 203, 1], [1058, 1056, 1057, 203, 1], [1054, 1052, 1053, 203, 1], [1491, 1489, 1490, 203, 1], [1019, 1017, 1018, 203, 1], [1023, 1022, 3, 203, 1], [1039, 1038, 5, 203, 1], [1027, 1026, 4, 203, 1], [1043, 1042, 6, 203, 1], [1050, 1049, 7, 203, 1], [1066, 1065, 8, 203, 1], [1070, 1069, 9, 203, 1], [1074, 1073, 10, 203, 1], [269, 268, 0, 206, 2], [927, 925, 926, 206, 1], [956, 954, 955, 206, 1], [964, 962, 963, 206, 1], [996, 994, 995, 206, 1], [1007, 1005, 1006, 206, 1], [1315, 1313, 1314, 206, 1], [698, 697, 0, 217, 2], [1600, 1598, 1599, 217, 1], [1596, 1594, 1595, 217, 1], [1769, 1767, 1768, 217, 1], [1788, 1787, 0, 217, 0], [1779, 1778, 0, 217, 0], [1776, 1775, 87, 217, 1], [1783, 1782, 88, 217, 1], [1792, 1791, 89, 217, 1], [1809, 1808, 0, 217, 0], [1812, 1811, 0, 217, 0], [1796, 1795, 90, 217, 1], [1802, 1801, 91, 217, 1], [1806, 1805, 92, 217, 1], [1816, 1815, 93, 217, 1], [1820, 1819, 94, 217, 1], [428, 427, 0, 213, 2], [1083, 1081, 1082, 213, 1], [1215, 1213, 1214, 213, 1], [499, 498, 0, 214, 2], [1457, 1455, 1456, 214, 1], [1426, 1424, 1425, 214, 1], [1477, 1475, 1476, 214, 1], [1466, 1464, 1465, 214, 1], [1443, 1442, 50, 214, 1], [1495, 1493, 1494, 214, 1], [1369, 1367, 1368, 214, 1], [1381, 1380, 42, 214, 1], [1394, 1393, 43, 214, 1], [1403, 1402, 44, 214, 1], [1407, 1405, 1406, 214, 1], [1430, 1429, 47, 214, 1], [1412, 1411, 45, 214, 1], [1435, 1434, 48, 214, 1], [1439, 1438, 49, 214, 1], [1447, 1446, 51, 214, 1], [625, 624, 0, 216, 2], [1661, 1659, 1660, 216, 1], [1667, 1666, 0, 216, 0], [1677, 1676, 73, 216, 1], [1681, 1680, 74, 216, 1], [1685, 1684, 75, 216, 1], [1689, 1688, 76, 216, 1], [1693, 1692, 77, 216, 1], [1703, 1701, 1702, 216, 1], [1711, 1709, 1710, 216, 1], [1715, 1714, 78, 216, 1], [1723, 1722, 80, 216, 1], [1719, 1718, 79, 216, 1], [1727, 1726, 81, 216, 1], [1731, 1730, 82, 216, 1], [1735, 1734, 83, 216, 1], [1739, 1738, 84, 216, 1], [1743, 1742, 85, 216, 1], [752, 751, 0, 218, 2], [1751, 1749, 1750, 218, 1], [1756, 1755, 86, 218, 1], [1608, 1606, 1607, 218, 1], [1604, 1602, 1603, 218, 1], [1837, 1835, 1836, 218, 1], [1842, 1841, 95, 218, 1], [1847, 1846, 96, 218, 1], [1851, 1850, 97, 218, 1], [809, 808, 0, 219, 2], [1641, 1639, 1640, 219, 1], [1653, 1651, 1652, 219, 1], [1507, 1505, 1506, 219, 1], [1519, 1518, 54, 219, 1], [1620, 1619, 68, 219, 1], [1624, 1623, 69, 219, 1], [1628, 1627, 70, 219, 1], [1511, 1510, 52, 219, 1], [1535, 1534, 56, 219, 1], [1612, 1611, 66, 219, 1], [1616, 1615, 67, 219, 1], [1632, 1631, 71, 219, 1], [1636, 1635, 72, 219, 1], [1539, 1538, 57, 219, 1], [1553, 1552, 58, 219, 1], [1561, 1560, 60, 219, 1], [1566, 1565, 61, 219, 1], [1573, 1572, 62, 219, 1], [1581, 1580, 63, 219, 1], [1585, 1584, 64, 219, 1], [1591, 1590, 65, 219, 1], [1515, 1514, 53, 219, 1], [1523, 1522, 55, 219, 1], [1526, 1525, 0, 219, 0], [1545, 1544, 0, 219, 0], [1557, 1556, 59, 219, 1], [1542, 1541, 0, 219, 0], [229, 228, 0, 202, 2], [920, 918, 919, 202, 1], [934, 932, 933, 202, 1], [960, 958, 959, 202, 1], [972, 970, 971, 202, 1], [976, 975, 0, 202, 1], [980, 978, 979, 202, 1], [984, 982, 983, 202, 1], [988, 987, 1, 202, 1], [992, 990, 991, 202, 1], [1311, 1309, 1310, 202, 1], [1319, 1317, 1318, 202, 1], [1333, 1331, 1332, 202, 1], [1338, 1336, 1337, 202, 1], [1343, 1341, 1342, 202, 1], [1347, 1345, 1346, 202, 1], [1353, 1351, 1352, 202, 1], [1357, 1356, 41, 202, 1], [1015, 1014, 2, 202, 1], [1280, 1279, 38, 202, 1], [1307, 1306, 40, 202, 1], [923, 922, 0, 202, 0], [937, 936, 0, 202, 0], [942, 941, 0, 202, 0], [949, 948, 0, 202, 0], [1303, 1302, 0, 202, 0], [1361, 1359, 1360, 202, 1], [1451, 1449, 1450, 202, 1], [1462, 1460, 1461, 202, 1], [1472, 1470, 1471, 202, 1], [1481, 1479, 1480, 202, 1], [1487, 1485, 1486, 202, 1], [1499, 1497, 1498, 202, 1], [1503, 1501, 1502, 202, 1], [1645, 1643, 1644, 202, 1], [1649, 1647, 1648, 202, 1], [1657, 1655, 1656, 202, 1], [1699, 1697, 1698, 202, 1], [1707, 1705, 1706, 202, 1], [1747, 1745, 1746, 202, 1], [1761, 1759, 1760, 202, 1], [1765, 1763, 1764, 202, 1], [1824, 1822, 1823, 202, 1], [1829, 1827, 1828, 202, 1], [1833, 1831, 1832, 202, 1], [1856, 1854, 1855, 202, 1], [1862, 1861, 0, 220, 2], [1876, 1875, 99, 220, 1], [1872, 1871, 0, 220, 0], [2406, 2405, 0, 220, 0], [1869, 1868, 98, 220, 1], [2403, 2402, 125, 220, 1], [2391, 2390, 0, 220, 0], [2388, 2386, 2387, 220, 1], [2395, 2394, 124, 220, 1], [2413, 2412, 126, 220, 1], [2399, 2397, 2398, 220, 1], [2417, 2415, 2416, 220, 1], [2421, 2419, 2420, 220, 1], [2425, 2424, 127, 220, 1], [2429, 2427, 2428, 220, 1], [2433, 2431, 2432, 220, 1], [2437, 2435, 2436, 220, 1], [2441, 2440, 128, 220, 1], [2473, 2472, 136, 220, 1], [2493, 2492, 139, 220, 1], [2481, 2479, 2480, 220, 1], [2485, 2483, 2484, 220, 1], [2489, 2488, 138, 220, 1], [2497, 2495, 2496, 220, 1], [2501, 2499, 2500, 220, 1], [2505, 2503, 2504, 220, 1], [2509, 2507, 2508, 220, 1], [2513, 2512, 140, 220, 1], [2517, 2515, 2516, 220, 1], [2445, 2444, 129, 220, 1], [2449, 2448, 130, 220, 1], [2453, 2452, 131, 220, 1], [2465, 2464, 134, 220, 1], [2469, 2468, 135, 220, 1], [2461, 2460, 133, 220, 1], [2457, 2456, 132, 220, 1], [2477, 2476, 137, 220, 1], [1922, 1921, 0, 220, 0], [1934, 1933, 0, 220, 0], [1888, 1887, 102, 220, 1], [1895, 1894, 103, 220, 1], [1891, 1890, 0, 220, 0], [1902, 1901, 0, 220, 0], [1884, 1883, 101, 220, 1], [1899, 1898, 104, 220, 1], [1910, 1909, 105, 220, 1], [1919, 1918, 107, 220, 1], [1940, 1939, 109, 220, 1], [1880, 1879, 100, 220, 1], [1914, 1913, 106, 220, 1], [1930, 1929, 108, 220, 1], [1995, 1994, 122, 220, 1], [1999, 1998, 123, 220, 1], [1956, 1955, 113, 220, 1], [1964, 1963, 115, 220, 1], [1968, 1967, 116, 220, 1], [1972, 1971, 117, 220, 1], [1944, 1943, 110, 220, 1], [1948, 1947, 111, 220, 1], [1952, 1951, 112, 220, 1], [1960, 1959, 114, 220, 1], [1979, 1978, 118, 220, 1], [1983, 1982, 119, 220, 1], [1987, 1986, 120, 220, 1], [1991, 1990, 121, 220, 1], [2557, 2556, 148, 220, 1], [2570, 2569, 0, 220, 0], [2566, 2565, 150, 220, 1], [2545, 2544, 145, 220, 1], [2574, 2573, 151, 220, 1], [2553, 2552, 147, 220, 1], [2537, 2536, 143, 220, 1], [2541, 2540, 144, 220, 1], [2666, 2665, 172, 220, 1], [2549, 2548, 146, 220, 1], [2562, 2561, 149, 220, 1], [2587, 2586, 154, 220, 1], [2533, 2532, 142, 220, 1], [2578, 2577, 152, 220, 1], [2582, 2581, 153, 220, 1], [2592, 2591, 155, 220, 1], [2521, 2519, 2520, 220, 1], [2529, 2528, 141, 220, 1], [2525, 2523, 2524, 220, 1], [2670, 2668, 2669, 220, 1], [2674, 2672, 2673, 220, 1], [2692, 2691, 175, 220, 1], [2633, 2632, 164, 220, 1], [2688, 2687, 174, 220, 1], [2616, 2615, 160, 220, 1], [2620, 2619, 161, 220, 1], [2649, 2648, 168, 220, 1], [2645, 2644, 167, 220, 1], [2641, 2640, 166, 220, 1], [2629, 2628, 163, 220, 1], [2637, 2636, 165, 220, 1], [2696, 2695, 176, 220, 1], [2624, 2623, 162, 220, 1], [2653, 2652, 169, 220, 1], [2610, 2609, 159, 220, 1], [2606, 2605, 158, 220, 1], [2602, 2601, 157, 220, 1], [2658, 2657, 170, 220, 1], [2598, 2597, 156, 220, 1], [2704, 2703, 178, 220, 1], [2700, 2699, 177, 220, 1], [2679, 2677, 2678, 220, 1], [2684, 2683, 173, 220, 1], [2708, 2707, 179, 220, 1], [2712, 2711, 180, 220, 1], [2716, 2715, 181, 220, 1], [2720, 2718, 2719, 220, 1], [2727, 2725, 2726, 220, 1], [2731, 2729, 2730, 220, 1], [2735, 2733, 2734, 220, 1], [2739, 2737, 2738, 220, 1], [2662, 2661, 171, 220, 1], [2751, 2750, 183, 220, 1], [2747, 2746, 182, 220, 1], [2760, 2759, 185, 220, 1], [2768, 2767, 187, 220, 1], [2743, 2741, 2742, 220, 1], [2755, 2754, 184, 220, 1], [2764, 2763, 186, 220, 1], [2775, 2774, 188, 220, 1], [2779, 2777, 2778, 220, 1], [2783, 2781, 2782, 220, 1], [2791, 2790, 190, 220, 1], [2787, 2786, 189, 220, 1], [2795, 2793, 2794, 220, 1], [2799, 2798, 191, 220, 1], [2803, 2801, 2802, 220, 1], [2835, 2834, 0, 220, 0], [2815, 2814, 193, 220, 1], [2811, 2810, 192, 220, 1], [2807, 2805, 2806, 220, 1], [2819, 2818, 194, 220, 1], [2838, 2837, 0, 220, 0], [2823, 2822, 195, 220, 1], [2828, 2827, 196, 220, 1], [2832, 2831, 197, 220, 1], [2842, 2840, 2841, 220, 1], [2846, 2844, 2845, 220, 1], [2850, 2848, 2849, 220, 1], [2854, 2853, 198, 220, 1], [2858, 2857, 199, 220, 1], [2862, 2861, 200, 220, 1], [2866, 2864, 2865, 220, 1], [1670, 1669, 0, 224, 0], [1549, 1548, 0, 223, 0], [1384, 1383, 0, 204, 0], [245, 244, 0, 204, 0], [930, 929, 0, 204, 0]]
def j_w (p : Nat) (w : Jvm.Cond) : Bool := decide (lw_tbl[p]? = some w)
def jlen : Instr → Nat
  | .bipush _ | .iload _ | .lload _ | .aload _ | .istore _ | .lstore _ | .astore _ | .ldc _ | .newarray _ => 2
  | .sipush _ | .ldc_w _ | .ldc2_w _ | .iinc _ _ | .goto _ | .ifCond _ _ | .if_icmp _ _ | .getfield _ | .putfield _ | .getstatic _ | .new _ | .anewarray _ | .invokestatic _ | .invokevirtual _ | .invokespecial _ => 3
  | _ => 1
def j_np (y : MethodName) (n : Nat) : Bool := decide ((parseMethodDescriptor y.desc).map (fun d => d.parameters.length) = some n)
def okF (own : String) (i : Nat) (aux : List Nat) : Bool := match aux with
  | [ci, k, tc, p, _] => match vwCl[ci]? with
    | some (C, T, N) => decide (k < N) && decide ((T k).1 = C) && decide (jty ci k = tc) && j_w p (.fieldLink own i C (T k).2.1 (T k).2.2.1)
    | none => false
  | _ => false
def okX (y : MethodName) (rt : Option FieldType) (e : jE) : Bool := match e.2.1 with
  | .iconst n => decide (e.2.2.2.2 = .int (Int32.ofInt n))
  | .bipush n => decide (e.2.2.2.2 = .int (Int8.ofInt n).toInt32)
  | .sipush n => decide (e.2.2.2.2 = .int (Int16.ofInt n).toInt32)
  | .lconst n => decide (e.2.2.2.2 = .long (Int64.ofNat (n : Nat)))
  | .ldc i => match e.2.2.2.2, e.2.2.2.1 with
    | .int v, [p] => j_w p (.constant y.cls i v)
    | .ref a, [p] => j_w p (.stringRef y.cls i (jtx.getD (a - 2000) "")) && decide (2000 ≤ a) && decide (a < 2014) && decide (jtxo.getD (a - 2000) ("", 0) = (y.cls, i))
    | _, _ => false
  | .ldc_w i => match e.2.2.2.2, e.2.2.2.1 with
    | .int v, [p] => j_w p (.constant y.cls i v)
    | .ref a, [p] => j_w p (.stringRef y.cls i (jtx.getD (a - 2000) "")) && decide (2000 ≤ a) && decide (a < 2014) && decide (jtxo.getD (a - 2000) ("", 0) = (y.cls, i))
    | _, _ => false
  | .ldc2_w i => match e.2.2.2.2, e.2.2.2.1 with
    | .long v, [p] => j_w p (.constantLong y.cls i v)
    | _, _ => false
  | .iinc _ d => decide (e.2.2.2.2 = .int (Int32.ofInt d))
  | .goto o => match e.2.2.2.1 with
    | [t] => decide ((e.1 : Int) + o = (t : Int))
    | _ => false
  | .ifCond _ o => match e.2.2.2.1 with
    | [t] => decide ((e.1 : Int) + o = (t : Int))
    | _ => false
  | .if_icmp _ o => match e.2.2.2.1 with
    | [t] => decide ((e.1 : Int) + o = (t : Int))
    | _ => false
  | .tableswitch dflt lo hi offs => match e.2.2.2.1 with
    | d :: ts => decide ((e.1 : Int) + dflt = (d : Int)) && decide (offs.toList.map (fun o => (e.1 : Int) + o) = ts.map (fun t : Nat => (t : Int))) && decide (hi = lo + (ts.length : Int) - 1) && decide (-1000 ≤ lo) && decide (hi ≤ 1000)
    | _ => false
  | .lookupswitch dflt ps => match e.2.2.2.1 with
    | d :: ts => decide ((e.1 : Int) + dflt = (d : Int)) && decide (ps.toList.map (fun o => (e.1 : Int) + o.2) = ts.map (fun t : Nat => (t : Int))) && ((ps.toList.zip (ps.toList.drop 1)).all (fun (a, next) => a.1 < next.1)) && ps.toList.all (fun q => decide (-100000 ≤ q.1) && decide (q.1 ≤ 100000))
    | _ => false
  | .getfield i => okF y.cls i e.2.2.2.1
  | .putfield i => okF y.cls i e.2.2.2.1 && (match e.2.2.2.1 with
    | ci :: k :: _ => match vwCl[ci]? with
      | some (C, T, _) => !(T k).2.2.2 || (decide (y.name = "<init>") && decide (y.cls = C))
      | none => false
    | _ => false)
  | .getstatic i => match e.2.2.2.1 with
    | [q, p, 0] => decide (q < 7) && j_w p (.fieldLink y.cls i "ShipYard" (jsn.getD q "") "[I")
    | [q, p, 1] => decide (q < 7) && j_w p (.fieldLinkNest y.cls i "ShipYard" (jsn.getD q "") "[I" "ShipYard")
    | _ => false
  | .new i => match e.2.2.2.1 with
    | [ci, n, p] => match vwCl[ci]? with
      | some (C, _, N) => decide (N = n) && j_w p (.classLink y.cls i C)
      | none => false
    | _ => false
  | .newarray a => match e.2.2.2.1 with
    | [k] => match a with
      | .int => decide (k = 100)
      | .byte => decide (k = 101)
      | .boolean => decide (k = 102)
      | .long => decide (k = 103)
      | _ => false
    | _ => false
  | .anewarray i => match e.2.2.2.1 with
    | [p] => j_w p (.classLink y.cls i "ShipYard$Person")
    | _ => false
  | .invokestatic i => match e.2.2.2.1 with
    | 0 :: k :: n :: p :: _ => decide (k < jYL.length) && j_w p (.methodLink y.cls i (jY k).1) && j_np (jY k).1 n && decide ((jpos.getD k []).getD 4 9 = 0)
    | 10 :: p :: _ => j_w p (.methodLink y.cls i Lib.Math.max.name)
    | 11 :: p :: _ => j_w p (.methodLink y.cls i Lib.Math.min.name)
    | 12 :: p :: _ => j_w p (.methodLink y.cls i Lib.MathLoose.abs_long.x)
    | 13 :: p :: _ => j_w p (.methodLink y.cls i arraycopyName)
    | _ => false
  | .invokevirtual i => match e.2.2.2.1 with
    | 1 :: k :: n :: ci :: p :: _ => match vwCl[ci]? with
      | some (C, _, _) => decide (k < jYL.length) && decide ((jY k).1.cls = C) && j_w p (.methodLink y.cls i (jY k).1) && j_np (jY k).1 n && decide ((jpos.getD k []).getD 4 9 = 1)
      | none => false
    | 20 :: p :: _ => j_w p (.methodLink y.cls i ⟨"java/lang/String", "length", "()I"⟩)
    | 21 :: p :: _ => j_w p (.methodLink y.cls i ⟨"java/lang/String", "charAt", "(I)C"⟩)
    | 22 :: p :: _ => j_w p (.methodLink y.cls i ⟨"java/lang/String", "indexOf", "(I)I"⟩)
    | _ => false
  | .invokespecial i => match e.2.2.2.1 with
    | [2, k, n, p, 0] => decide (k < jYL.length) && j_w p (.methodLink y.cls i (jY k).1) && j_np (jY k).1 n && decide ((jY k).1.name = "<init>") && decide ((jpos.getD k []).getD 4 9 = 2)
    | [2, k, n, p, 1] => decide (k < jYL.length) && j_w p (.methodLinkNest y.cls i (jY k).1 "ShipYard") && j_np (jY k).1 n && decide ((jY k).1.name = "<init>") && decide ((jpos.getD k []).getD 4 9 = 2)
    | 5 :: p :: _ => j_w p (.methodLink y.cls i Lib.objectInit)
    | _ => false
  | .ireturn => match e.2.2.2.1 with
    | [0] => decide (rt = some .int)
    | [1] => decide (rt = some .boolean)
    | _ => false
  | .lreturn => decide (rt = some .long)
  | .areturn => decide (rt = some (.array .long))
  | .return_ => decide (rt = none)
  | _ => true
/-- the length is the instruction's own; a switch's may be any -/
def okL (e : jE) : Bool := match e.2.1 with
  | .tableswitch .. => true
  | .lookupswitch .. => true
  | i => decide (e.2.2.1 = jlen i)
def okE (q : jN) (e : jE) : Bool := decide (decode q.2.1 e.1 = .ok (e.2.1, e.2.2.1)) && okL e && okX q.1 q.2.2.2 e
def okM (k : Nat) : Bool := match jpos.getD k [] with
  | [pc, pi, ps, pn, kind] => j_w pc (.code (jY k).1 (jY k).2.1 (jY k).2.2.1 (jY k).2.2.2) && j_w pn (.initialized (jY k).1.cls) && plainName (jY k).1.cls && decide ((jY k).1.cls ≠ "java/lang/invoke/MethodHandle") && decide ((jY k).1.cls ≠ "java/lang/invoke/VarHandle") && Nat.ble (jY k).2.2.1 23 && decide ((jMM k).2 = (jY k).2.2.1) && (match kind with
    | 0 => j_w pi (.static (jY k).1)
    | 1 => j_w pi (.instanceMethod (jY k).1) && j_w ps (.selects (jY k).1.cls (jY k).1 (jY k).1)
    | _ => j_w pi (.instanceMethod (jY k).1))
  | _ => false
