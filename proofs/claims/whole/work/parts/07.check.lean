/-! WHAT THE WORDS OF THE TABLES SAY OF EACH INSTRUCTION: checked by program -/
abbrev jN : Type := MethodName × ByteArray × Nat × Option FieldType
def jYL : List jN := [(yX0_init, cX0_init, 1, none),
  (yX0_packed, cX0_packed, 7, some (.array .long)),
  (yX0_parse, cX0_parse, 4, some .boolean),
  (yX0_readTokens, cX0_readTokens, 6, none),
  (yX0_token, cX0_token, 12, some .int),
  (yX0_isLetter, cX0_isLetter, 1, some .boolean),
  (yX0_isDigit, cX0_isDigit, 1, some .boolean),
  (yX0_fail, cX0_fail, 3, some .int),
  (yX0_isNow, cX0_isNow, 2, some .boolean),
  (yX0_isNowKey, cX0_isNowKey, 2, some .boolean),
  (yX0_keyNow, cX0_keyNow, 1, some .int),
  (yX0_expect, cX0_expect, 2, some .boolean),
  (yX0_heading, cX0_heading, 5, some .long),
  (yX0_letStatement, cX0_letStatement, 4, none),
  (yX0_ruleStatement, cX0_ruleStatement, 4, none),
  (yX0_tableStatement, cX0_tableStatement, 4, none),
  (yX0_point, cX0_point, 6, none),
  (yX0_signedNumber, cX0_signedNumber, 3, some .int),
  (yX0_tell, cX0_tell, 5, none),
  (yX0_newName, cX0_newName, 3, some .long),
  (yX0_find, cX0_find, 5, some .int),
  (yX0_condition, cX0_condition, 6, some .int),
  (yX0_bothOf, cX0_bothOf, 6, some .int),
  (yX0_join, cX0_join, 4, some .int),
  (yX0_negation, cX0_negation, 4, some .int),
  (yX0_sum, cX0_sum, 7, some .int),
  (yX0_product, cX0_product, 7, some .int),
  (yX0_factor, cX0_factor, 3, some .int),
  (yX0_inBrackets, cX0_inBrackets, 3, some .int),
  (yX0_choice, cX0_choice, 5, some .int),
  (yX0_series, cX0_series, 9, some .int),
  (yX0_meaning, cX0_meaning, 8, some .int),
  (yX1_init, cX1_init, 1, none),
  (yX1_build, cX1_build, 4, none),
  (yX1_level, cX1_level, 13, some .int),
  (yX1_measure, cX1_measure, 20, none),
  (yX1_weigh, cX1_weigh, 23, none),
  (yX2_init, cX2_init, 1, none),
  (yX2_byteAt, cX2_byteAt, 2, some .int),
  (yX2_append, cX2_append, 6, some .boolean),
  (yX2_addBytes, cX2_addBytes, 4, none),
  (yX2_number, cX2_number, 5, some .int),
  (yX2_changesIn, cX2_changesIn, 2, some .int),
  (yX2_placeIn, cX2_placeIn, 3, some .int),
  (yX2_endOf, cX2_endOf, 3, some .int),
  (yX2_play, cX2_play, 6, none),
  (yX3_init, cX3_init, 1, none),
  (yX3_setLeast, cX3_setLeast, 3, none),
  (yX3_copy, cX3_copy, 2, none),
  (yX3_at, cX3_at, 2, some .int),
  (yX3_set, cX3_set, 3, none),
  (yX3_of, cX3_of, 5, some .int),
  (yX3_textBytes, cX3_textBytes, 1, some .int),
  (yX3_textByte, cX3_textByte, 2, some .int),
  (yX3_kindOf, cX3_kindOf, 2, some .int),
  (yX3_kinds, cX3_kinds, 3, some .int),
  (yX3_bottom, cX3_bottom, 3, some .int),
  (yX3_deck, cX3_deck, 2, some .int),
  (yX3_room, cX3_room, 6, some .int),
  (yX3_steelOf, cX3_steelOf, 10, some .long),
  (yX3_firstFault, cX3_firstFault, 3, some .int),
  (yX3_isRight, cX3_isRight, 3, some .boolean),
  (yX3_inOrder, cX3_inOrder, 4, some .boolean),
  (yX3_spaceRight, cX3_spaceRight, 3, some .boolean),
  (yX3_meet, cX3_meet, 7, some .boolean),
  (yX3_fillRight, cX3_fillRight, 3, some .boolean),
  (yX3_openingRight, cX3_openingRight, 4, some .boolean),
  (yX3_plateRight, cX3_plateRight, 4, some .boolean),
  (yX3_taskRight, cX3_taskRight, 5, some .boolean),
  (yX4_init, cX4_init, 1, none),
  (yX4_begin, cX4_begin, 2, none),
  (yX4_set, cX4_set, 4, none),
  (yX4_see, cX4_see, 4, some .int),
  (yX4_clash, cX4_clash, 3, some .int),
  (yX4_lay, cX4_lay, 3, none),
  (yX4_rowsWritten, cX4_rowsWritten, 3, some .int),
  (yX5_init, cX5_init, 1, none),
  (yX5_hasWay, cX5_hasWay, 2, some .boolean),
  (yX5_costOf, cX5_costOf, 2, some .int),
  (yX5_leadAll, cX5_leadAll, 3, none),
  (yX5_endOf, cX5_endOf, 3, some .int),
  (yX5_cellAt, cX5_cellAt, 3, some .int),
  (yX5_takeSolid, cX5_takeSolid, 6, none),
  (yX5_bar, cX5_bar, 9, none),
  (yX5_leadOne, cX5_leadOne, 5, none),
  (yX5_neighbour, cX5_neighbour, 5, some .int),
  (yX5_costOfStep, cX5_costOfStep, 1, some .int),
  (yX5_search, cX5_search, 11, some .int),
  (yX5_offer, cX5_offer, 4, none),
  (yX5_drop, cX5_drop, 2, none),
  (yX5_walk, cX5_walk, 9, none),
  (yX5_bestStep, cX5_bestStep, 7, some .int),
  (yX6_init, cX6_init, 1, none),
  (yX6_clear, cX6_clear, 1, none),
  (yX6_add, cX6_add, 6, some .int),
  (yX7_init, cX7_init, 2, none),
  (yX7_rests, cX7_rests, 1, some .boolean),
  (yX7_hasLiquid, cX7_hasLiquid, 2, some .boolean),
  (yX7_liquidLevel, cX7_liquidLevel, 2, some .int),
  (yX7_pointsIn, cX7_pointsIn, 4, some .int),
  (yX7_plane, cX7_plane, 3, some .int),
  (yX7_alongShip, cX7_alongShip, 8, some .long),
  (yX7_come, cX7_come, 7, some .int),
  (yX7_load, cX7_load, 5, none),
  (yX7_seaSet, cX7_seaSet, 1, some .int),
  (yX7_heel, cX7_heel, 11, some .int),
  (yX7_lever, cX7_lever, 7, some .long),
  (yX7_turning, cX7_turning, 3, some .long),
  (yX7_tilt, cX7_tilt, 6, some .int),
  (yX7_layDown, cX7_layDown, 4, none),
  (yX7_flooded, cX7_flooded, 6, some .int),
  (yX7_loadSlices, cX7_loadSlices, 7, none),
  (yX8_init, cX8_init, 1, none),
  (yX8_fill, cX8_fill, 6, none),
  (yX8_largest, cX8_largest, 7, some .int),
  (yX8_shapePlate, cX8_shapePlate, 8, none),
  (yX8_placeAll, cX8_placeAll, 7, none),
  (yX8_placeInRow, cX8_placeInRow, 7, some .boolean),
  (yX8_fits, cX8_fits, 8, some .boolean),
  (yX8_lay, cX8_lay, 10, none),
  (yX8_pieceTold, cX8_pieceTold, 3, some .int),
  (yX8_sheetTold, cX8_sheetTold, 3, some .int),
  (yX8_piecesOn, cX8_piecesOn, 4, some .int),
  (yX8_ownerAt, cX8_ownerAt, 4, some .int),
  (yX8_cellsOn, cX8_cellsOn, 5, some .int),
  (yX8_usedRows, cX8_usedRows, 5, some .int),
  (yX8_edgesOn, cX8_edgesOn, 6, some .int),
  (yX8_findRests, cX8_findRests, 5, none),
  (yX8_restFrom, cX8_restFrom, 7, some .int),
  (yX8_reach, cX8_reach, 6, some .int),
  (yX9_init, cX9_init, 1, none),
  (yX9_cutRods, cX9_cutRods, 3, none),
  (yX9_cutFrom, cX9_cutFrom, 8, some .boolean),
  (yX9_isPlanned, cX9_isPlanned, 2, some .boolean),
  (yX9_beginOf, cX9_beginOf, 2, some .int),
  (yX9_planWork, cX9_planWork, 3, none),
  (yX9_tryOrders, cX9_tryOrders, 9, none),
  (yX9_firstDay, cX9_firstDay, 9, some .int),
  (yX9_occupy, cX9_occupy, 9, none),
  (yX10_init, cX10_init, 6, none),
  (yX10_judge, cX10_judge, 4, some .int),
  (yX10_letPart, cX10_letPart, 3, some .long),
  (yX10_workOutLets, cX10_workOutLets, 3, none),
  (yX10_isOver, cX10_isOver, 1, some .boolean),
  (yX10_truth, cX10_truth, 4, some .int),
  (yX10_chainTruth, cX10_chainTruth, 8, some .int),
  (yX10_comparison, cX10_comparison, 9, some .int),
  (yX10_number, cX10_number, 4, none),
  (yX10_letWord, cX10_letWord, 2, none),
  (yX10_chain, cX10_chain, 9, none),
  (yX10_choice, cX10_choice, 4, none),
  (yX10_series, cX10_series, 14, none),
  (yX10_keepBetter, cX10_keepBetter, 7, none),
  (yX10_tableAt, cX10_tableAt, 10, none),
  (yX10_between, cX10_between, 6, none),
  (yX10_word, cX10_word, 2, none),
  (yX10_wordOfRest, cX10_wordOfRest, 2, none),
  (yX10_wordOf, cX10_wordOf, 10, none),
  (yX10_draught, cX10_draught, 2, none),
  (yX10_alongShip, cX10_alongShip, 3, none),
  (yX10_second, cX10_second, 4, none),
  (yX10_undone, cX10_undone, 1, none),
  (yX10_set, cX10_set, 12, none),
  (yX10_isBeyond, cX10_isBeyond, 2, some .boolean),
  (yX10_times, cX10_times, 4, some .long),
  (yX10_act, cX10_act, 14, none),
  (yX10_compare, cX10_compare, 12, some .int),
  (yX11_init, cX11_init, 6, none),
  (yX11_open, cX11_open, 2, some .int),
  (yX11_put, cX11_put, 6, some .int),
  (yX11_get, cX11_get, 5, some .int),
  (yX11_feed, cX11_feed, 6, some .int),
  (yX11_tapeInt, cX11_tapeInt, 3, none),
  (yX11_cut, cX11_cut, 2, some .int),
  (yX11_write, cX11_write, 6, some .int),
  (yX11_tapedInt, cX11_tapedInt, 4, some .int),
  (yX11_commit, cX11_commit, 5, some .int),
  (yX11_leave, cX11_leave, 2, some .int),
  (yX11_undo, cX11_undo, 7, some .int),
  (yX11_model, cX11_model, 4, some .int),
  (yX11_log, cX11_log, 2, some .int),
  (yX11_crash, cX11_crash, 3, some .int),
  (yX11_reopen, cX11_reopen, 4, some .int),
  (yX11_told, cX11_told, 2, some .int),
  (yX11_transactions, cX11_transactions, 3, some .int),
  (yX11_settle, cX11_settle, 4, some .int),
  (yX11_markChanges, cX11_markChanges, 4, none),
  (yX11_forgetWork, cX11_forgetWork, 1, none),
  (yX11_isPerson, cX11_isPerson, 1, some .boolean),
  (yX11_isPlace, cX11_isPlace, 3, some .boolean),
  (yX11_mayBe, cX11_mayBe, 4, some .boolean),
  (yX11_placeOf, cX11_placeOf, 3, some .int),
  (yX11_rowOf, cX11_rowOf, 2, some .int),
  (yX11_sea, cX11_sea, 2, some .int),
  (yX11_rest, cX11_rest, 2, some .long),
  (yX11_water, cX11_water, 3, some .int),
  (yX11_liquid, cX11_liquid, 2, some .int),
  (yX11_arm, cX11_arm, 2, some .long),
  (yX11_along, cX11_along, 3, some .long),
  (yX11_rules, cX11_rules, 2, some .int),
  (yX11_verdict, cX11_verdict, 2, some .int),
  (yX11_steps, cX11_steps, 2, some .int),
  (yX11_let, cX11_let, 3, some .long),
  (yX11_nest, cX11_nest, 2, some .int),
  (yX11_piece, cX11_piece, 3, some .int),
  (yX11_sheet, cX11_sheet, 3, some .int),
  (yX11_bars, cX11_bars, 1, some .int),
  (yX11_rod, cX11_rod, 2, some .int),
  (yX11_lead, cX11_lead, 1, some .int),
  (yX11_way, cX11_way, 3, some .int),
  (yX11_step, cX11_step, 3, some .int),
  (yX11_plan, cX11_plan, 1, some .int),
  (yX11_task, cX11_task, 3, some .int),
  (yX12_init, cX12_init, 5, none),
  (yX12_at, cX12_at, 4, some .int),
  (yX12_least, cX12_least, 2, some .int),
  (yX12_most, cX12_most, 2, some .int),
  (yX12_first, cX12_first, 6, none),
  (yX12_isField, cX12_isField, 4, some .boolean),
  (yX12_isPerson, cX12_isPerson, 1, some .boolean),
  (yX12_open, cX12_open, 2, some .int),
  (yX12_end, cX12_end, 3, none),
  (yX12_set, cX12_set, 4, none),
  (yX12_put, cX12_put, 6, some .int),
  (yX12_get, cX12_get, 6, some .int),
  (yX12_feed, cX12_feed, 6, some .int),
  (yX12_lay, cX12_lay, 3, none),
  (yX12_cut, cX12_cut, 2, some .int),
  (yX12_write, cX12_write, 6, some .int),
  (yX12_commit, cX12_commit, 3, some .int),
  (yX12_take, cX12_take, 6, some .int),
  (yX12_logBytes, cX12_logBytes, 4, none),
  (yX12_logNumber, cX12_logNumber, 5, some .int),
  (yX12_leave, cX12_leave, 4, some .int),
  (yX12_undo, cX12_undo, 7, some .int),
  (yX12_replay, cX12_replay, 5, some .int),
  (yX12_model, cX12_model, 4, some .int),
  (yX12_log, cX12_log, 2, some .int),
  (yX12_crash, cX12_crash, 3, some .int),
  (yX12_reopen, cX12_reopen, 4, some .int),
  (yX12_isWhole, cX12_isWhole, 2, some .boolean),
  (yX12_told, cX12_told, 4, some .int),
  (yX12_wrongRow, cX12_wrongRow, 4, some .int),
  (yX12_isRight, cX12_isRight, 5, some .boolean),
  (yX12_isSpaceRight, cX12_isSpaceRight, 10, some .boolean),
  (yX12_isPlateRight, cX12_isPlateRight, 5, some .boolean),
  (yX12_isTaskRight, cX12_isTaskRight, 6, some .boolean),
  (yX12_bottom, cX12_bottom, 4, some .int),
  (yX12_roomOf, cX12_roomOf, 9, some .int),
  (yX12_forget, cX12_forget, 1, none),
  (yX12_word, cX12_word, 4, some .long),
  (yX12_among, cX12_among, 7, some .int),
  (yX12_textByte, cX12_textByte, 3, some .int),
  (yX12_fails, cX12_fails, 3, some .boolean),
  (yX12_isLetter, cX12_isLetter, 1, some .boolean),
  (yX12_isDigit, cX12_isDigit, 1, some .boolean),
  (yX12_tokenize, cX12_tokenize, 9, some .boolean),
  (yX12_token, cX12_token, 5, none),
  (yX12_is, cX12_is, 2, some .boolean),
  (yX12_isWord, cX12_isWord, 2, some .boolean),
  (yX12_want, cX12_want, 2, some .boolean),
  (yX12_parse, cX12_parse, 2, some .boolean),
  (yX12_statement, cX12_statement, 6, none),
  (yX12_name, cX12_name, 5, some .long),
  (yX12_table, cX12_table, 8, none),
  (yX12_signed, cX12_signed, 4, some .long),
  (yX12_node, cX12_node, 7, some .int),
  (yX12_or, cX12_or, 3, some .int),
  (yX12_and, cX12_and, 3, some .int),
  (yX12_not, cX12_not, 4, some .int),
  (yX12_sum, cX12_sum, 4, some .int),
  (yX12_product, cX12_product, 4, some .int),
  (yX12_factor, cX12_factor, 6, some .int),
  (yX12_choice, cX12_choice, 5, some .int),
  (yX12_over, cX12_over, 8, some .int),
  (yX12_named, cX12_named, 6, some .int),
  (yX12_alone, cX12_alone, 2, some .int),
  (yX12_asked, cX12_asked, 3, some .int),
  (yX12_times, cX12_times, 9, some .long),
  (yX12_common, cX12_common, 10, some .long),
  (yX12_result, cX12_result, 7, none),
  (yX12_undone, cX12_undone, 1, none),
  (yX12_act, cX12_act, 14, none),
  (yX12_compare, cX12_compare, 13, some .int),
  (yX12_step, cX12_step, 1, none),
  (yX12_value, cX12_value, 7, none),
  (yX12_rounds, cX12_rounds, 14, none),
  (yX12_looked, cX12_looked, 14, none),
  (yX12_whole, cX12_whole, 3, none),
  (yX12_part, cX12_part, 5, none),
  (yX12_says, cX12_says, 8, some .int),
  (yX12_yardWord, cX12_yardWord, 2, none),
  (yX12_rests, cX12_rests, 1, some .boolean),
  (yX12_yardOf, cX12_yardOf, 12, none),
  (yX12_rules, cX12_rules, 2, some .int),
  (yX12_judge, cX12_judge, 3, some .int),
  (yX12_verdict, cX12_verdict, 2, some .int),
  (yX12_steps, cX12_steps, 2, some .int),
  (yX12_let, cX12_let, 3, some .long),
  (yX12_isIn, cX12_isIn, 5, some .boolean),
  (yX12_isOpenSpace, cX12_isOpenSpace, 2, some .boolean),
  (yX12_layRuns, cX12_layRuns, 11, none),
  (yX12_below, cX12_below, 10, some .long),
  (yX12_sums, cX12_sums, 11, none),
  (yX12_spaceLow, cX12_spaceLow, 6, some .int),
  (yX12_spaceHigh, cX12_spaceHigh, 5, some .int),
  (yX12_pointsBelow, cX12_pointsBelow, 14, some .long),
  (yX12_hasLiquid, cX12_hasLiquid, 2, some .boolean),
  (yX12_liquidPlane, cX12_liquidPlane, 9, some .int),
  (yX12_weightOfAll, cX12_weightOfAll, 5, some .long),
  (yX12_moments, cX12_moments, 8, none),
  (yX12_liquidMoments, cX12_liquidMoments, 16, none),
  (yX12_level, cX12_level, 6, some .int),
  (yX12_balance, cX12_balance, 3, none),
  (yX12_lengthwise, cX12_lengthwise, 5, some .long),
  (yX12_across, cX12_across, 4, some .long),
  (yX12_trim, cX12_trim, 5, some .int),
  (yX12_side, cX12_side, 3, some .int),
  (yX12_heel, cX12_heel, 7, some .int),
  (yX12_sea, cX12_sea, 3, some .int),
  (yX12_settle, cX12_settle, 2, none),
  (yX12_floods, cX12_floods, 8, some .boolean),
  (yX12_along, cX12_along, 8, none),
  (yX12_liquidLoads, cX12_liquidLoads, 10, none),
  (yX12_rest, cX12_rest, 2, some .long),
  (yX12_water, cX12_water, 3, some .int),
  (yX12_liquid, cX12_liquid, 2, some .int),
  (yX12_arm, cX12_arm, 3, some .long),
  (yX12_along_, cX12_along_, 3, some .long),
  (yX12_steel, cX12_steel, 11, some .long),
  (yX12_cellsOf, cX12_cellsOf, 5, some .int),
  (yX12_listPieces, cX12_listPieces, 5, none),
  (yX12_turned, cX12_turned, 7, none),
  (yX12_lies, cX12_lies, 9, some .boolean),
  (yX12_nest, cX12_nest, 3, some .int),
  (yX12_findPlace, cX12_findPlace, 9, none),
  (yX12_firstPlaceOf, cX12_firstPlaceOf, 5, some .long),
  (yX12_lay_, cX12_lay_, 8, none),
  (yX12_piece, cX12_piece, 3, some .int),
  (yX12_sheet, cX12_sheet, 7, some .int),
  (yX12_edges, cX12_edges, 10, some .int),
  (yX12_groups, cX12_groups, 15, some .int),
  (yX12_bars, cX12_bars, 3, some .int),
  (yX12_cutFrom, cX12_cutFrom, 8, some .boolean),
  (yX12_rod, cX12_rod, 2, some .int),
  (yX12_stepped, cX12_stepped, 7, some .int),
  (yX12_bar, cX12_bar, 8, none),
  (yX12_barAll, cX12_barAll, 7, none),
  (yX12_lead, cX12_lead, 2, some .int),
  (yX12_lead_, cX12_lead_, 15, none),
  (yX12_price, cX12_price, 2, some .int),
  (yX12_payBack, cX12_payBack, 6, none),
  (yX12_lower, cX12_lower, 3, none),
  (yX12_payAhead, cX12_payAhead, 5, none),
  (yX12_way, cX12_way, 3, some .int),
  (yX12_step_, cX12_step_, 3, some .int),
  (yX12_plan, cX12_plan, 4, some .int),
  (yX12_orders, cX12_orders, 6, none),
  (yX12_schedule, cX12_schedule, 9, none),
  (yX12_isRoom, cX12_isRoom, 4, some .boolean),
  (yX12_task, cX12_task, 3, some .int),
  (yJ6_bitCount_0f7a4, cJ6_bitCount_0f7a4, 1, some .int),
  (yJ13_compare_74951, cJ13_compare_74951, 4, some .int),
  (yJ7_fill_d0a16, cJ7_fill_d0a16, 5, none),
  (yJ7_fill_53178, cJ7_fill_53178, 4, none),
  (yJ7_fill_031fb, cJ7_fill_031fb, 4, none)]
def jY (k : Nat) : jN := jYL.getD k (⟨"", "", ""⟩, ⟨#[]⟩, 0, none)
def jtys : List (List Nat) := [[0, 0, 2, 2, 2, 2, 0, 0, 2, 2, 2, 2, 2, 2, 0, 2, 0], [2, 2, 2, 2, 2, 2, 2, 2, 2, 2, 1, 1, 1, 1, 1], [2, 0], [2], [3, 0, 2, 2, 2, 2], [3, 0, 2, 2, 2, 2, 2, 2, 2, 2, 2, 2, 0], [2, 2, 2, 2, 2, 2, 2, 2, 2, 2, 0, 0, 0, 0], [2, 2, 3, 2, 0, 0, 0, 1, 1, 2, 2, 2, 2, 2, 2, 2, 2, 2, 2], [3, 0, 0, 0, 0, 0, 0, 0, 2, 2, 2, 2, 2, 2, 2, 2, 2, 2, 2, 2], [3, 3, 0, 2, 2, 0, 2, 2, 0, 2, 2, 2, 2], [2, 2, 2, 2, 2, 2, 1, 1, 0, 2, 3, 2, 2, 2], [2, 2, 2, 2, 2, 2, 2, 0, 0, 0, 0, 3, 2, 2, 2, 2, 2, 2, 2, 2], [2, 2, 2, 2, 2, 2, 2, 2, 2, 2, 2, 2, 2, 2, 2, 0, 2, 0, 3, 2, 0, 0, 0, 0, 2, 2, 2, 0, 0, 0, 0, 2, 2, 2, 2, 2, 0, 2, 2, 0, 2, 2, 2, 2, 2, 0, 0, 2, 2, 0, 2, 2, 0, 3, 1, 1, 0, 3, 2, 3, 0, 0, 0, 1, 1, 1, 0, 0, 0, 2, 2, 2, 2, 2, 2, 2, 2, 2, 2, 1, 1, 1, 1, 1, 1, 1, 0, 3, 0, 0, 2, 2, 2, 2, 2, 2, 2, 2, 2, 0, 2, 2, 2, 3, 0, 2, 2, 3, 0, 2, 2, 2, 2, 2, 2, 2, 2, 2, 2, 0, 3, 0, 2, 2, 2, 2, 2, 2]]
def jty (c k : Nat) : Nat := (jtys.getD c []).getD k 9
def jsn : List String := ["ROWS", "FIELDS", "FIRST_ROW", "FIRST_PLACE", "FIRST_LIMIT", "LEAST", "MOST"]
def jtx : List String := ["let table rule if sum max min and or not ", "level trim heel water weight rounds length breadth placed left bars led end ", "draught force bend lever area axis second room fill price start ", "+-*/()[],;:=#<>", "+-*/()[],;:=#<>", "let", "table", "rule", " let table rule if sum max min and or not ", " level trim heel water weight rounds length breadth placed left bars led end ", " draught force bend lever area axis second room fill price start ", "not", "and", "or"]
def j_w (p : Nat) (w : Jvm.Cond) : Bool := decide (lw_tbl[p]? = some w)
def jlen : Instr → Nat
  | .bipush _ | .iload _ | .lload _ | .aload _ | .istore _ | .lstore _ | .astore _ | .ldc _ | .newarray _ => 2
  | .sipush _ | .ldc_w _ | .ldc2_w _ | .iinc _ _ | .goto _ | .ifCond _ _ | .if_icmp _ _ | .getfield _ | .putfield _ | .getstatic _ | .new _ | .anewarray _ | .invokestatic _ | .invokevirtual _ | .invokespecial _ => 3
  | _ => 1
def j_np (y : MethodName) (n : Nat) : Bool := decide ((parseMethodDescriptor y.desc).map (fun d => d.parameters.length) = some n)
def okF (own : String) (i : Nat) (aux : List Nat) : Bool := match aux with
  | [ci, k, tc, p, _] => match vwCl[ci]? with
    | some (C, T, N) => decide (k < N) && decide ((T k).1 = C) && decide (jty ci k = tc) && j_w p (.fieldLink own i C (T k).2.1 (T k).2.2.1)
    | none => false
  | _ => false
def okX (y : MethodName) (rt : Option FieldType) (e : jE) : Bool := match e.2.1 with
  | .iconst n => decide (e.2.2.2.2 = .int (Int32.ofInt n))
  | .bipush n => decide (e.2.2.2.2 = .int (Int8.ofInt n).toInt32)
  | .sipush n => decide (e.2.2.2.2 = .int (Int16.ofInt n).toInt32)
  | .lconst n => decide (e.2.2.2.2 = .long (Int64.ofNat (n : Nat)))
  | .ldc i => match e.2.2.2.2, e.2.2.2.1 with
    | .int v, [p] => j_w p (.constant y.cls i v)
    | .ref a, [p] => j_w p (.stringRef y.cls i (jtx.getD (a - 2000) "")) && decide (2000 ≤ a)
    | _, _ => false
  | .ldc_w i => match e.2.2.2.2, e.2.2.2.1 with
    | .int v, [p] => j_w p (.constant y.cls i v)
    | .ref a, [p] => j_w p (.stringRef y.cls i (jtx.getD (a - 2000) "")) && decide (2000 ≤ a)
    | _, _ => false
  | .ldc2_w i => match e.2.2.2.2, e.2.2.2.1 with
    | .long v, [p] => j_w p (.constantLong y.cls i v)
    | _, _ => false
  | .iinc _ d => decide (e.2.2.2.2 = .int (Int32.ofInt d))
  | .goto o => match e.2.2.2.1 with
    | [t] => decide ((e.1 : Int) + o = (t : Int))
    | _ => false
  | .ifCond _ o => match e.2.2.2.1 with
    | [t] => decide ((e.1 : Int) + o = (t : Int))
    | _ => false
  | .if_icmp _ o => match e.2.2.2.1 with
    | [t] => decide ((e.1 : Int) + o = (t : Int))
    | _ => false
  | .tableswitch dflt lo hi offs => match e.2.2.2.1 with
    | d :: ts => decide ((e.1 : Int) + dflt = (d : Int)) && decide (offs.toList.map (fun o => (e.1 : Int) + o) = ts.map (fun t : Nat => (t : Int))) && decide (hi = lo + (ts.length : Int) - 1) && decide (-1000 ≤ lo) && decide (hi ≤ 1000)
    | _ => false
  | .lookupswitch dflt ps => match e.2.2.2.1 with
    | d :: ts => decide ((e.1 : Int) + dflt = (d : Int)) && decide (ps.toList.map (fun o => (e.1 : Int) + o.2) = ts.map (fun t : Nat => (t : Int))) && ((ps.toList.zip (ps.toList.drop 1)).all (fun (a, next) => a.1 < next.1)) && ps.toList.all (fun q => decide (-100000 ≤ q.1) && decide (q.1 ≤ 100000))
    | _ => false
  | .getfield i => okF y.cls i e.2.2.2.1
  | .putfield i => okF y.cls i e.2.2.2.1 && (match e.2.2.2.1 with
    | ci :: k :: _ => match vwCl[ci]? with
      | some (C, T, _) => !(T k).2.2.2 || (decide (y.name = "<init>") && decide (y.cls = C))
      | none => false
    | _ => false)
  | .getstatic i => match e.2.2.2.1 with
    | [q, p, 0] => decide (q < 7) && j_w p (.fieldLink y.cls i "ShipYard" (jsn.getD q "") "[I")
    | [q, p, 1] => decide (q < 7) && j_w p (.fieldLinkNest y.cls i "ShipYard" (jsn.getD q "") "[I" "ShipYard")
    | _ => false
  | .new i => match e.2.2.2.1 with
    | [ci, n, p] => match vwCl[ci]? with
      | some (C, _, N) => decide (N = n) && j_w p (.classLink y.cls i C)
      | none => false
    | _ => false
  | .newarray a => match e.2.2.2.1 with
    | [k] => match a with
      | .int => decide (k = 100)
      | .byte => decide (k = 101)
      | .boolean => decide (k = 102)
      | .long => decide (k = 103)
      | _ => false
    | _ => false
  | .anewarray i => match e.2.2.2.1 with
    | [p] => j_w p (.classLink y.cls i "ShipYard$Person")
    | _ => false
  | .invokestatic i => match e.2.2.2.1 with
    | 0 :: k :: n :: p :: _ => decide (k < jYL.length) && j_w p (.methodLink y.cls i (jY k).1) && j_np (jY k).1 n && decide ((jY k).1.name ≠ "<init>")
    | 10 :: p :: _ => j_w p (.methodLink y.cls i Lib.Math.max.name)
    | 11 :: p :: _ => j_w p (.methodLink y.cls i Lib.Math.min.name)
    | 12 :: p :: _ => j_w p (.methodLink y.cls i Lib.MathLoose.abs_long.x)
    | 13 :: p :: _ => j_w p (.methodLink y.cls i arraycopyName)
    | _ => false
  | .invokevirtual i => match e.2.2.2.1 with
    | 1 :: k :: n :: ci :: p :: _ => match vwCl[ci]? with
      | some (C, _, _) => decide (k < jYL.length) && decide ((jY k).1.cls = C) && j_w p (.methodLink y.cls i (jY k).1) && j_np (jY k).1 n && decide ((jY k).1.name ≠ "<init>")
      | none => false
    | 20 :: p :: _ => j_w p (.methodLink y.cls i ⟨"java/lang/String", "length", "()I"⟩)
    | 21 :: p :: _ => j_w p (.methodLink y.cls i ⟨"java/lang/String", "charAt", "(I)C"⟩)
    | 22 :: p :: _ => j_w p (.methodLink y.cls i ⟨"java/lang/String", "indexOf", "(I)I"⟩)
    | _ => false
  | .invokespecial i => match e.2.2.2.1 with
    | [2, k, n, p, 0] => decide (k < jYL.length) && j_w p (.methodLink y.cls i (jY k).1) && j_np (jY k).1 n && decide ((jY k).1.name = "<init>")
    | [2, k, n, p, 1] => decide (k < jYL.length) && j_w p (.methodLinkNest y.cls i (jY k).1 "ShipYard") && j_np (jY k).1 n && decide ((jY k).1.name = "<init>")
    | 5 :: p :: _ => j_w p (.methodLink y.cls i Lib.objectInit)
    | _ => false
  | .ireturn => match e.2.2.2.1 with
    | [0] => decide (rt = some .int)
    | [1] => decide (rt = some .boolean)
    | _ => false
  | .lreturn => decide (rt = some .long)
  | .areturn => decide (rt = some (.array .long))
  | .return_ => decide (rt = none)
  | _ => true
/-- the length is the instruction's own; a switch's may be any -/
def okL (e : jE) : Bool := match e.2.1 with
  | .tableswitch .. => true
  | .lookupswitch .. => true
  | i => decide (e.2.2.1 = jlen i)
def okE (q : jN) (e : jE) : Bool := decide (decode q.2.1 e.1 = .ok (e.2.1, e.2.2.1)) && okL e && okX q.1 q.2.2.2 e
