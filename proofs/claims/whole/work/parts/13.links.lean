theorem in_t1 {w : Cond} (h : w ∈ tables_1_1) : w ∈ lw_tbl := List.mem_append_right _ (show w ∈ tables_1_1 ++ (tables_1_2 ++ (tables_1_3 ++ (tables_1_4 ++ (tables_1_5 ++ (tables_1_6 ++ (tables_1_7 ++ tables_1_8)))))) from List.mem_append_left _ h)
theorem in_t2 {w : Cond} (h : w ∈ tables_1_2) : w ∈ lw_tbl := List.mem_append_right _ (show w ∈ tables_1_1 ++ (tables_1_2 ++ (tables_1_3 ++ (tables_1_4 ++ (tables_1_5 ++ (tables_1_6 ++ (tables_1_7 ++ tables_1_8)))))) from List.mem_append_right _ (List.mem_append_left _ h))
theorem in_t3 {w : Cond} (h : w ∈ tables_1_3) : w ∈ lw_tbl := List.mem_append_right _ (show w ∈ tables_1_1 ++ (tables_1_2 ++ (tables_1_3 ++ (tables_1_4 ++ (tables_1_5 ++ (tables_1_6 ++ (tables_1_7 ++ tables_1_8)))))) from List.mem_append_right _ (List.mem_append_right _ (List.mem_append_left _ h)))
theorem in_t4 {w : Cond} (h : w ∈ tables_1_4) : w ∈ lw_tbl := List.mem_append_right _ (show w ∈ tables_1_1 ++ (tables_1_2 ++ (tables_1_3 ++ (tables_1_4 ++ (tables_1_5 ++ (tables_1_6 ++ (tables_1_7 ++ tables_1_8)))))) from List.mem_append_right _ (List.mem_append_right _ (List.mem_append_right _ (List.mem_append_left _ h))))
theorem in_t5 {w : Cond} (h : w ∈ tables_1_5) : w ∈ lw_tbl := List.mem_append_right _ (show w ∈ tables_1_1 ++ (tables_1_2 ++ (tables_1_3 ++ (tables_1_4 ++ (tables_1_5 ++ (tables_1_6 ++ (tables_1_7 ++ tables_1_8)))))) from List.mem_append_right _ (List.mem_append_right _ (List.mem_append_right _ (List.mem_append_right _ (List.mem_append_left _ h)))))
theorem in_t6 {w : Cond} (h : w ∈ tables_1_6) : w ∈ lw_tbl := List.mem_append_right _ (show w ∈ tables_1_1 ++ (tables_1_2 ++ (tables_1_3 ++ (tables_1_4 ++ (tables_1_5 ++ (tables_1_6 ++ (tables_1_7 ++ tables_1_8)))))) from List.mem_append_right _ (List.mem_append_right _ (List.mem_append_right _ (List.mem_append_right _ (List.mem_append_right _ (List.mem_append_left _ h))))))
theorem in_t7 {w : Cond} (h : w ∈ tables_1_7) : w ∈ lw_tbl := List.mem_append_right _ (show w ∈ tables_1_1 ++ (tables_1_2 ++ (tables_1_3 ++ (tables_1_4 ++ (tables_1_5 ++ (tables_1_6 ++ (tables_1_7 ++ tables_1_8)))))) from List.mem_append_right _ (List.mem_append_right _ (List.mem_append_right _ (List.mem_append_right _ (List.mem_append_right _ (List.mem_append_right _ (List.mem_append_left _ h)))))))
theorem in_t8 {w : Cond} (h : w ∈ tables_1_8) : w ∈ lw_tbl := List.mem_append_right _ (show w ∈ tables_1_1 ++ (tables_1_2 ++ (tables_1_3 ++ (tables_1_4 ++ (tables_1_5 ++ (tables_1_6 ++ (tables_1_7 ++ tables_1_8)))))) from List.mem_append_right _ (List.mem_append_right _ (List.mem_append_right _ (List.mem_append_right _ (List.mem_append_right _ (List.mem_append_right _ (List.mem_append_right _ (h))))))))
theorem in_p1 {w : Cond} (h : w ∈ k2_sels lw_privs_1) : w ∈ lw_tbl := by
  obtain ⟨q, hq, rfl⟩ := List.mem_map.mp h
  exact List.mem_append_left _ (List.mem_map.mpr ⟨q, (show q ∈ lw_privs_1 ++ (lw_privs_2 ++ (lw_privs_3 ++ (lw_privs_4 ++ (lw_privs_5 ++ (lw_privs_6 ++ (lw_privs_7)))))) from List.mem_append_left _ hq), rfl⟩)
theorem in_p2 {w : Cond} (h : w ∈ k2_sels lw_privs_2) : w ∈ lw_tbl := by
  obtain ⟨q, hq, rfl⟩ := List.mem_map.mp h
  exact List.mem_append_left _ (List.mem_map.mpr ⟨q, (show q ∈ lw_privs_1 ++ (lw_privs_2 ++ (lw_privs_3 ++ (lw_privs_4 ++ (lw_privs_5 ++ (lw_privs_6 ++ (lw_privs_7)))))) from List.mem_append_right _ (List.mem_append_left _ hq)), rfl⟩)
theorem in_p3 {w : Cond} (h : w ∈ k2_sels lw_privs_3) : w ∈ lw_tbl := by
  obtain ⟨q, hq, rfl⟩ := List.mem_map.mp h
  exact List.mem_append_left _ (List.mem_map.mpr ⟨q, (show q ∈ lw_privs_1 ++ (lw_privs_2 ++ (lw_privs_3 ++ (lw_privs_4 ++ (lw_privs_5 ++ (lw_privs_6 ++ (lw_privs_7)))))) from List.mem_append_right _ (List.mem_append_right _ (List.mem_append_left _ hq))), rfl⟩)
theorem in_p4 {w : Cond} (h : w ∈ k2_sels lw_privs_4) : w ∈ lw_tbl := by
  obtain ⟨q, hq, rfl⟩ := List.mem_map.mp h
  exact List.mem_append_left _ (List.mem_map.mpr ⟨q, (show q ∈ lw_privs_1 ++ (lw_privs_2 ++ (lw_privs_3 ++ (lw_privs_4 ++ (lw_privs_5 ++ (lw_privs_6 ++ (lw_privs_7)))))) from List.mem_append_right _ (List.mem_append_right _ (List.mem_append_right _ (List.mem_append_left _ hq)))), rfl⟩)
theorem in_p5 {w : Cond} (h : w ∈ k2_sels lw_privs_5) : w ∈ lw_tbl := by
  obtain ⟨q, hq, rfl⟩ := List.mem_map.mp h
  exact List.mem_append_left _ (List.mem_map.mpr ⟨q, (show q ∈ lw_privs_1 ++ (lw_privs_2 ++ (lw_privs_3 ++ (lw_privs_4 ++ (lw_privs_5 ++ (lw_privs_6 ++ (lw_privs_7)))))) from List.mem_append_right _ (List.mem_append_right _ (List.mem_append_right _ (List.mem_append_right _ (List.mem_append_left _ hq))))), rfl⟩)
theorem in_p6 {w : Cond} (h : w ∈ k2_sels lw_privs_6) : w ∈ lw_tbl := by
  obtain ⟨q, hq, rfl⟩ := List.mem_map.mp h
  exact List.mem_append_left _ (List.mem_map.mpr ⟨q, (show q ∈ lw_privs_1 ++ (lw_privs_2 ++ (lw_privs_3 ++ (lw_privs_4 ++ (lw_privs_5 ++ (lw_privs_6 ++ (lw_privs_7)))))) from List.mem_append_right _ (List.mem_append_right _ (List.mem_append_right _ (List.mem_append_right _ (List.mem_append_right _ (List.mem_append_left _ hq)))))), rfl⟩)
theorem in_p7 {w : Cond} (h : w ∈ k2_sels lw_privs_7) : w ∈ lw_tbl := by
  obtain ⟨q, hq, rfl⟩ := List.mem_map.mp h
  exact List.mem_append_left _ (List.mem_map.mpr ⟨q, (show q ∈ lw_privs_1 ++ (lw_privs_2 ++ (lw_privs_3 ++ (lw_privs_4 ++ (lw_privs_5 ++ (lw_privs_6 ++ (lw_privs_7)))))) from List.mem_append_right _ (List.mem_append_right _ (List.mem_append_right _ (List.mem_append_right _ (List.mem_append_right _ (List.mem_append_right _ (hq))))))), rfl⟩)
abbrev mX0_init : MI := (yX0_init, cX0_init, 1, none)
abbrev mX0_loose : MI := (yX0_loose, cX0_loose, 5, (some .int))
abbrev mX0_believes : MI := (yX0_believes, cX0_believes, 5, (some .int))
abbrev mX0_wears : MI := (yX0_wears, cX0_wears, 5, (some .int))
abbrev mX0_pass : MI := (yX0_pass, cX0_pass, 6, (some .int))
abbrev mX0_printRoll : MI := (yX0_printRoll, cX0_printRoll, 8, none)
abbrev mX0_asked : MI := (yX0_asked, cX0_asked, 10, (some .int))
abbrev mX0_push : MI := (yX0_push, cX0_push, 2, none)
abbrev mX0_pop : MI := (yX0_pop, cX0_pop, 1, (some .int))
abbrev mX0_named : MI := (yX0_named, cX0_named, 3, (some .int))
abbrev mX0_ofOne : MI := (yX0_ofOne, cX0_ofOne, 3, (some .int))
abbrev mX0_crossSum : MI := (yX0_crossSum, cX0_crossSum, 4, (some .int))
abbrev mX0_ofTwo : MI := (yX0_ofTwo, cX0_ofTwo, 3, (some .int))
abbrev mX0_held : MI := (yX0_held, cX0_held, 2, (some .int))
abbrev mX1_init : MI := (yX1_init, cX1_init, 1, none)
abbrev mX1_prefers : MI := (yX1_prefers, cX1_prefers, 6, (some .boolean))
abbrev mX1_pairAll : MI := (yX1_pairAll, cX1_pairAll, 7, none)
abbrev mX1_lowestFree : MI := (yX1_lowestFree, cX1_lowestFree, 2, (some .int))
abbrev mX1_bestUnasked : MI := (yX1_bestUnasked, cX1_bestUnasked, 6, (some .int))
abbrev mX2_init : MI := (yX2_init, cX2_init, 2, none)
abbrev mX2_read : MI := (yX2_read, cX2_read, 3, (some .boolean))
abbrev mX2_compiled : MI := (yX2_compiled, cX2_compiled, 1, (some (.object "MachinesDream$Text")))
abbrev mX2_refuse : MI := (yX2_refuse, cX2_refuse, 2, (some .boolean))
abbrev mX2_expect : MI := (yX2_expect, cX2_expect, 2, (some .boolean))
abbrev mX2_readClause : MI := (yX2_readClause, cX2_readClause, 3, (some .boolean))
abbrev mX2_readOrder : MI := (yX2_readOrder, cX2_readOrder, 2, (some .boolean))
abbrev mX2_readPart : MI := (yX2_readPart, cX2_readPart, 4, (some .boolean))
abbrev mX2_readSum : MI := (yX2_readSum, cX2_readSum, 4, (some .boolean))
abbrev mX2_readProduct : MI := (yX2_readProduct, cX2_readProduct, 4, (some .boolean))
abbrev mX2_readOne : MI := (yX2_readOne, cX2_readOne, 3, (some .boolean))
abbrev mX2_readNumber : MI := (yX2_readNumber, cX2_readNumber, 1, (some .boolean))
abbrev mX2_readName : MI := (yX2_readName, cX2_readName, 2, (some .boolean))
abbrev mX2_readOpened : MI := (yX2_readOpened, cX2_readOpened, 3, (some .boolean))
abbrev mX2_readChoice : MI := (yX2_readChoice, cX2_readChoice, 3, (some .boolean))
abbrev mX2_readEither : MI := (yX2_readEither, cX2_readEither, 3, (some .boolean))
abbrev mX2_readBoth : MI := (yX2_readBoth, cX2_readBoth, 3, (some .boolean))
abbrev mX2_readAsk : MI := (yX2_readAsk, cX2_readAsk, 2, (some .boolean))
abbrev mX2_readComparison : MI := (yX2_readComparison, cX2_readComparison, 3, (some .boolean))
abbrev mX2_order : MI := (yX2_order, cX2_order, 3, (some .int))
abbrev mX2_aim : MI := (yX2_aim, cX2_aim, 2, none)
abbrev mX3_init : MI := (yX3_init, cX3_init, 2, none)
abbrev mX3_has : MI := (yX3_has, cX3_has, 2, (some .boolean))
abbrev mX3_get : MI := (yX3_get, cX3_get, 2, (some .int))
abbrev mX3_append : MI := (yX3_append, cX3_append, 2, (some .boolean))
abbrev mX3_copyFrom : MI := (yX3_copyFrom, cX3_copyFrom, 2, none)
abbrev mX4_init : MI := (yX4_init, cX4_init, 2, none)
abbrev mX4_theText : MI := (yX4_theText, cX4_theText, 1, (some (.object "MachinesDream$Text")))
abbrev mX4_remember : MI := (yX4_remember, cX4_remember, 1, none)
abbrev mX4_takeBack : MI := (yX4_takeBack, cX4_takeBack, 1, (some .boolean))
abbrev mX4_copyFrom : MI := (yX4_copyFrom, cX4_copyFrom, 3, none)
abbrev mX5_init : MI := (yX5_init, cX5_init, 1, none)
abbrev mX5_plan : MI := (yX5_plan, cX5_plan, 10, none)
abbrev mX6_init : MI := (yX6_init, cX6_init, 1, none)
abbrev mX6_weigh : MI := (yX6_weigh, cX6_weigh, 10, (some .int))
abbrev mX6_spread : MI := (yX6_spread, cX6_spread, 4, none)
abbrev mX6_chance : MI := (yX6_chance, cX6_chance, 7, (some .int))
abbrev mX6_behind : MI := (yX6_behind, cX6_behind, 4, (some .int))
abbrev mX6_fewest : MI := (yX6_fewest, cX6_fewest, 7, none)
abbrev mX6_placesInto : MI := (yX6_placesInto, cX6_placesInto, 6, (some .int))
abbrev mX6_onward : MI := (yX6_onward, cX6_onward, 6, (some .int))
abbrev mX6_onwardFrom : MI := (yX6_onwardFrom, cX6_onwardFrom, 7, (some .int))
abbrev mX6_woven : MI := (yX6_woven, cX6_woven, 10, (some .int))
abbrev mX6_longestInBoth : MI := (yX6_longestInBoth, cX6_longestInBoth, 7, none)
abbrev mX6_longBehind : MI := (yX6_longBehind, cX6_longBehind, 8, (some .int))
abbrev mX6_next : MI := (yX6_next, cX6_next, 4, (some .int))
abbrev mX6_distance : MI := (yX6_distance, cX6_distance, 7, (some .int))
abbrev mX6_grown : MI := (yX6_grown, cX6_grown, 7, (some .int))
abbrev mX6_growOnce : MI := (yX6_growOnce, cX6_growOnce, 4, none)
abbrev mX7_init : MI := (yX7_init, cX7_init, 1, none)
abbrev mX7_append : MI := (yX7_append, cX7_append, 3, none)
abbrev mX7_rewind : MI := (yX7_rewind, cX7_rewind, 1, none)
abbrev mX7_advance : MI := (yX7_advance, cX7_advance, 2, none)
abbrev mX7_scanWord : MI := (yX7_scanWord, cX7_scanWord, 5, none)
abbrev mX7_scanNumber : MI := (yX7_scanNumber, cX7_scanNumber, 1, none)
abbrev mX7_scanSymbol : MI := (yX7_scanSymbol, cX7_scanSymbol, 3, none)
abbrev mX7_byteAt : MI := (yX7_byteAt, cX7_byteAt, 2, (some .int))
abbrev mX7_isLetter : MI := (yX7_isLetter, cX7_isLetter, 1, (some .boolean))
abbrev mX7_isDigit : MI := (yX7_isDigit, cX7_isDigit, 1, (some .boolean))
abbrev mX8_init : MI := (yX8_init, cX8_init, 7, none)
abbrev mX8_hasLaw : MI := (yX8_hasLaw, cX8_hasLaw, 2, (some .boolean))
abbrev mX8_clausePart : MI := (yX8_clausePart, cX8_clausePart, 4, (some .int))
abbrev mX9_init : MI := (yX9_init, cX9_init, 1, none)
abbrev mX9_has : MI := (yX9_has, cX9_has, 2, (some .boolean))
abbrev mX9_install : MI := (yX9_install, cX9_install, 3, (some .int))
abbrev mX9_setAsTold : MI := (yX9_setAsTold, cX9_setAsTold, 2, none)
abbrev mX9_canTurn : MI := (yX9_canTurn, cX9_canTurn, 2, (some .boolean))
abbrev mX9_turn : MI := (yX9_turn, cX9_turn, 3, none)
abbrev mX9_hasRoll : MI := (yX9_hasRoll, cX9_hasRoll, 2, (some .boolean))
abbrev mX9_rollDigit : MI := (yX9_rollDigit, cX9_rollDigit, 3, (some .int))
abbrev mX9_printWord : MI := (yX9_printWord, cX9_printWord, 3, none)
abbrev mX9_printDigit : MI := (yX9_printDigit, cX9_printDigit, 4, none)
abbrev mX9_rollNumber : MI := (yX9_rollNumber, cX9_rollNumber, 4, (some .int))
abbrev mX9_renewX : MI := (yX9_renewX, cX9_renewX, 1, none)
abbrev mX9_draw : MI := (yX9_draw, cX9_draw, 2, (some .int))
abbrev mX9_believe : MI := (yX9_believe, cX9_believe, 4, none)
abbrev mX9_bookedOf : MI := (yX9_bookedOf, cX9_bookedOf, 4, (some .int))
abbrev mX9_sumOf : MI := (yX9_sumOf, cX9_sumOf, 4, (some .int))
abbrev mX9_copyFrom : MI := (yX9_copyFrom, cX9_copyFrom, 2, none)
abbrev mX9_goBackTo : MI := (yX9_goBackTo, cX9_goBackTo, 3, none)
abbrev mX9_copyChanging : MI := (yX9_copyChanging, cX9_copyChanging, 2, none)
abbrev mX10_init : MI := (yX10_init, cX10_init, 1, none)
abbrev mX10_machine : MI := (yX10_machine, cX10_machine, 3, (some .int))
abbrev mX10_rule : MI := (yX10_rule, cX10_rule, 4, (some .boolean))
abbrev mX10_feed : MI := (yX10_feed, cX10_feed, 6, (some .int))
abbrev mX10_end : MI := (yX10_end, cX10_end, 2, (some .int))
abbrev mX10_text : MI := (yX10_text, cX10_text, 2, (some .int))
abbrev mX10_fault : MI := (yX10_fault, cX10_fault, 2, (some .int))
abbrev mX10_by : MI := (yX10_by, cX10_by, 2, (some .boolean))
abbrev mX10_crank : MI := (yX10_crank, cX10_crank, 3, (some .int))
abbrev mX10_oil : MI := (yX10_oil, cX10_oil, 3, (some .boolean))
abbrev mX10_lift : MI := (yX10_lift, cX10_lift, 2, (some .boolean))
abbrev mX10_night : MI := (yX10_night, cX10_night, 2, (some .int))
abbrev mX10_played : MI := (yX10_played, cX10_played, 4, (some .int))
abbrev mX10_decades : MI := (yX10_decades, cX10_decades, 5, (some .int))
abbrev mX10_undo : MI := (yX10_undo, cX10_undo, 1, (some .int))
abbrev mX10_of : MI := (yX10_of, cX10_of, 4, (some .int))
abbrev mX10_told : MI := (yX10_told, cX10_told, 3, (some .int))
abbrev mX10_is : MI := (yX10_is, cX10_is, 2, (some .int))
abbrev mX10_book : MI := (yX10_book, cX10_book, 3, (some .int))
abbrev mX10_foretold : MI := (yX10_foretold, cX10_foretold, 6, (some .int))
abbrev mX10_put : MI := (yX10_put, cX10_put, 2, (some .int))
abbrev mX10_may : MI := (yX10_may, cX10_may, 2, (some .long))
abbrev mX10_odds : MI := (yX10_odds, cX10_odds, 6, (some .long))
abbrev mX10_day : MI := (yX10_day, cX10_day, 2, (some .int))
abbrev mX10_fits : MI := (yX10_fits, cX10_fits, 3, (some .int))
abbrev mX10_likeliest : MI := (yX10_likeliest, cX10_likeliest, 6, (some .int))
abbrev mX10_add : MI := (yX10_add, cX10_add, 2, (some .int))
abbrev mX10_second : MI := (yX10_second, cX10_second, 2, (some .int))
abbrev mX10_duet : MI := (yX10_duet, cX10_duet, 3, (some .int))
abbrev mX10_common : MI := (yX10_common, cX10_common, 2, (some .int))
abbrev mX10_apart : MI := (yX10_apart, cX10_apart, 1, (some .int))
abbrev mX10_grows : MI := (yX10_grows, cX10_grows, 3, (some .int))
abbrev mX10_stays : MI := (yX10_stays, cX10_stays, 4, (some .int))
abbrev mX10_likes : MI := (yX10_likes, cX10_likes, 6, (some .boolean))
abbrev mX10_paired : MI := (yX10_paired, cX10_paired, 2, (some .int))
abbrev mX10_blocks : MI := (yX10_blocks, cX10_blocks, 4, (some .int))
abbrev mX10_needs : MI := (yX10_needs, cX10_needs, 3, (some .boolean))
abbrev mX10_stock : MI := (yX10_stock, cX10_stock, 4, (some .int))
abbrev mX10_looser : MI := (yX10_looser, cX10_looser, 3, (some .int))
abbrev mX10_whose : MI := (yX10_whose, cX10_whose, 3, (some .int))
abbrev mX10_forgiven : MI := (yX10_forgiven, cX10_forgiven, 7, (some .int))
abbrev mX10_snow : MI := (yX10_snow, cX10_snow, 5, (some .int))
abbrev mX10_worn : MI := (yX10_worn, cX10_worn, 3, (some .int))
abbrev mX10_blank : MI := (yX10_blank, cX10_blank, 3, (some .int))
abbrev mX10_ledger : MI := (yX10_ledger, cX10_ledger, 2, (some .int))
abbrev mX10_image : MI := (yX10_image, cX10_image, 1, (some .int))
abbrev mX10_back : MI := (yX10_back, cX10_back, 1, (some .int))
abbrev mX10_about : MI := (yX10_about, cX10_about, 2, (some .int))
abbrev mX10_passNights : MI := (yX10_passNights, cX10_passNights, 5, (some .int))
abbrev mX10_playClause : MI := (yX10_playClause, cX10_playClause, 6, (some .boolean))
abbrev mX10_handle : MI := (yX10_handle, cX10_handle, 5, none)
abbrev mX10_lengthen : MI := (yX10_lengthen, cX10_lengthen, 2, (some .int))
abbrev mX10_comesBack : MI := (yX10_comesBack, cX10_comesBack, 6, (some .boolean))
abbrev mX10_agrees : MI := (yX10_agrees, cX10_agrees, 4, (some .boolean))
abbrev mX10_within : MI := (yX10_within, cX10_within, 3, (some .boolean))
abbrev mX10_ruleIndex : MI := (yX10_ruleIndex, cX10_ruleIndex, 2, (some .int))
abbrev mX10_commonDivisor : MI := (yX10_commonDivisor, cX10_commonDivisor, 6, (some .int))
abbrev mX10_digitCount : MI := (yX10_digitCount, cX10_digitCount, 3, (some .int))
abbrev mX10_digitAt : MI := (yX10_digitAt, cX10_digitAt, 3, (some .int))
abbrev mX11_init : MI := (yX11_init, cX11_init, 2, none)
abbrev mX11_copy : MI := (yX11_copy, cX11_copy, 3, none)
abbrev mX11_isIn : MI := (yX11_isIn, cX11_isIn, 3, (some .boolean))
abbrev mX11_cut : MI := (yX11_cut, cX11_cut, 4, (some .int))
abbrev mX11_has : MI := (yX11_has, cX11_has, 2, (some .boolean))
abbrev mX11_bits : MI := (yX11_bits, cX11_bits, 3, (some .int))
abbrev mX11_isMachine : MI := (yX11_isMachine, cX11_isMachine, 2, (some .boolean))
abbrev mX11_isDigit : MI := (yX11_isDigit, cX11_isDigit, 1, (some .boolean))
abbrev mX11_isNumber : MI := (yX11_isNumber, cX11_isNumber, 1, (some .boolean))
abbrev mX11_get : MI := (yX11_get, cX11_get, 3, (some .int))
abbrev mX11_lay : MI := (yX11_lay, cX11_lay, 4, none)
abbrev mX11_longOf : MI := (yX11_longOf, cX11_longOf, 1, (some .int))
abbrev mX11_digitOf : MI := (yX11_digitOf, cX11_digitOf, 4, (some .int))
abbrev mX11_wordLong : MI := (yX11_wordLong, cX11_wordLong, 1, (some .int))
abbrev mX11_wordDigit : MI := (yX11_wordDigit, cX11_wordDigit, 2, (some .int))
abbrev mX11_ruleOf : MI := (yX11_ruleOf, cX11_ruleOf, 3, (some .int))
abbrev mX11_machine : MI := (yX11_machine, cX11_machine, 4, (some .int))
abbrev mX11_begin : MI := (yX11_begin, cX11_begin, 3, none)
abbrev mX11_rule : MI := (yX11_rule, cX11_rule, 4, (some .boolean))
abbrev mX11_four : MI := (yX11_four, cX11_four, 3, none)
abbrev mX11_feed : MI := (yX11_feed, cX11_feed, 6, (some .int))
abbrev mX11_end : MI := (yX11_end, cX11_end, 2, (some .int))
abbrev mX11_byteAt : MI := (yX11_byteAt, cX11_byteAt, 2, (some .int))
abbrev mX11_isLetterByte : MI := (yX11_isLetterByte, cX11_isLetterByte, 1, (some .boolean))
abbrev mX11_isFigure : MI := (yX11_isFigure, cX11_isFigure, 1, (some .boolean))
abbrev mX11_isSign : MI := (yX11_isSign, cX11_isSign, 1, (some .boolean))
abbrev mX11_nextToken : MI := (yX11_nextToken, cX11_nextToken, 2, none)
abbrev mX11_w2 : MI := (yX11_w2, cX11_w2, 2, (some .long))
abbrev mX11_w3 : MI := (yX11_w3, cX11_w3, 3, (some .long))
abbrev mX11_w4 : MI := (yX11_w4, cX11_w4, 4, (some .long))
abbrev mX11_w5 : MI := (yX11_w5, cX11_w5, 5, (some .long))
abbrev mX11_w6 : MI := (yX11_w6, cX11_w6, 6, (some .long))
abbrev mX11_isWord : MI := (yX11_isWord, cX11_isWord, 3, (some .boolean))
abbrev mX11_emit : MI := (yX11_emit, cX11_emit, 3, none)
abbrev mX11_isLong : MI := (yX11_isLong, cX11_isLong, 8, (some .boolean))
abbrev mX11_nameOf : MI := (yX11_nameOf, cX11_nameOf, 1, (some .int))
abbrev mX11_isOf : MI := (yX11_isOf, cX11_isOf, 2, (some .boolean))
abbrev mX11_rank : MI := (yX11_rank, cX11_rank, 1, (some .int))
abbrev mX11_settle : MI := (yX11_settle, cX11_settle, 2, none)
abbrev mX11_openAt : MI := (yX11_openAt, cX11_openAt, 2, (some .int))
abbrev mX11_openNow : MI := (yX11_openNow, cX11_openNow, 1, (some .int))
abbrev mX11_isCompared : MI := (yX11_isCompared, cX11_isCompared, 2, (some .boolean))
abbrev mX11_isAskAhead : MI := (yX11_isAskAhead, cX11_isAskAhead, 1, (some .boolean))
abbrev mX11_opened : MI := (yX11_opened, cX11_opened, 2, (some .int))
abbrev mX11_beginOne : MI := (yX11_beginOne, cX11_beginOne, 2, (some .int))
abbrev mX11_compareOf : MI := (yX11_compareOf, cX11_compareOf, 1, (some .int))
abbrev mX11_betweenOf : MI := (yX11_betweenOf, cX11_betweenOf, 1, (some .int))
abbrev mX11_partOf : MI := (yX11_partOf, cX11_partOf, 2, (some .int))
abbrev mX11_behindOne : MI := (yX11_behindOne, cX11_behindOne, 4, (some .boolean))
abbrev mX11_summed : MI := (yX11_summed, cX11_summed, 2, (some .int))
abbrev mX11_figure : MI := (yX11_figure, cX11_figure, 4, (some .int))
abbrev mX11_worded : MI := (yX11_worded, cX11_worded, 5, (some .int))
abbrev mX11_lawClause : MI := (yX11_lawClause, cX11_lawClause, 3, (some .int))
abbrev mX11_pair : MI := (yX11_pair, cX11_pair, 7, (some .int))
abbrev mX11_body : MI := (yX11_body, cX11_body, 3, (some .int))
abbrev mX11_sortOf : MI := (yX11_sortOf, cX11_sortOf, 1, (some .int))
abbrev mX11_clause : MI := (yX11_clause, cX11_clause, 5, (some .int))
abbrev mX11_readText : MI := (yX11_readText, cX11_readText, 2, (some .int))
abbrev mX11_text : MI := (yX11_text, cX11_text, 1, (some .int))
abbrev mX11_fault : MI := (yX11_fault, cX11_fault, 2, (some .int))
abbrev mX11_by : MI := (yX11_by, cX11_by, 2, (some .boolean))
abbrev mX11_clip : MI := (yX11_clip, cX11_clip, 2, (some .long))
abbrev mX11_two : MI := (yX11_two, cX11_two, 5, (some .long))
abbrev mX11_isAsked : MI := (yX11_isAsked, cX11_isAsked, 5, (some .boolean))
abbrev mX11_digitsOf : MI := (yX11_digitsOf, cX11_digitsOf, 6, (some .long))
abbrev mX11_sumsOf : MI := (yX11_sumsOf, cX11_sumsOf, 3, (some .long))
abbrev mX11_joined : MI := (yX11_joined, cX11_joined, 3, (some .boolean))
abbrev mX11_summedUp : MI := (yX11_summedUp, cX11_summedUp, 10, (some .long))
abbrev mX11_says : MI := (yX11_says, cX11_says, 6, (some .int))
abbrev mX11_name : MI := (yX11_name, cX11_name, 2, none)
abbrev mX11_looseOf : MI := (yX11_looseOf, cX11_looseOf, 3, (some .int))
abbrev mX11_believesOf : MI := (yX11_believesOf, cX11_believesOf, 2, (some .int))
abbrev mX11_wearsOf : MI := (yX11_wearsOf, cX11_wearsOf, 2, (some .int))
abbrev mX11_write : MI := (yX11_write, cX11_write, 5, none)
abbrev mX11_drawn : MI := (yX11_drawn, cX11_drawn, 2, (some .int))
abbrev mX11_anew : MI := (yX11_anew, cX11_anew, 1, none)
abbrev mX11_roll : MI := (yX11_roll, cX11_roll, 4, none)
abbrev mX11_numberOfRoll : MI := (yX11_numberOfRoll, cX11_numberOfRoll, 4, (some .int))
abbrev mX11_clearRoll : MI := (yX11_clearRoll, cX11_clearRoll, 3, none)
abbrev mX11_dream : MI := (yX11_dream, cX11_dream, 5, none)
abbrev mX11_pass : MI := (yX11_pass, cX11_pass, 2, none)
abbrev mX11_keep : MI := (yX11_keep, cX11_keep, 4, none)
abbrev mX11_undo : MI := (yX11_undo, cX11_undo, 4, (some .int))
abbrev mX11_canCrank : MI := (yX11_canCrank, cX11_canCrank, 2, (some .boolean))
abbrev mX11_crankNow : MI := (yX11_crankNow, cX11_crankNow, 3, none)
abbrev mX11_crank : MI := (yX11_crank, cX11_crank, 3, (some .int))
abbrev mX11_oil : MI := (yX11_oil, cX11_oil, 3, (some .boolean))
abbrev mX11_canLift : MI := (yX11_canLift, cX11_canLift, 2, (some .boolean))
abbrev mX11_lift : MI := (yX11_lift, cX11_lift, 2, (some .boolean))
abbrev mX11_arePassed : MI := (yX11_arePassed, cX11_arePassed, 3, (some .boolean))
abbrev mX11_night : MI := (yX11_night, cX11_night, 2, (some .int))
abbrev mX11_isPlayed : MI := (yX11_isPlayed, cX11_isPlayed, 4, (some .boolean))
abbrev mX11_played : MI := (yX11_played, cX11_played, 3, (some .int))
abbrev mX11_happens : MI := (yX11_happens, cX11_happens, 3, none)
abbrev mX11_decades : MI := (yX11_decades, cX11_decades, 5, (some .int))
abbrev mX11_of : MI := (yX11_of, cX11_of, 3, (some .int))
abbrev mX11_told : MI := (yX11_told, cX11_told, 3, (some .int))
abbrev mX11_is : MI := (yX11_is, cX11_is, 2, (some .int))
abbrev mX11_book : MI := (yX11_book, cX11_book, 4, (some .int))
abbrev mX11_ledger : MI := (yX11_ledger, cX11_ledger, 4, (some .int))
abbrev mX11_snow : MI := (yX11_snow, cX11_snow, 4, (some .int))
abbrev mX11_worn : MI := (yX11_worn, cX11_worn, 3, (some .int))
abbrev mX11_blank : MI := (yX11_blank, cX11_blank, 3, (some .int))
abbrev mX11_sumOf : MI := (yX11_sumOf, cX11_sumOf, 4, (some .int))
abbrev mX11_forgiven : MI := (yX11_forgiven, cX11_forgiven, 4, (some .int))
abbrev mX11_setAside : MI := (yX11_setAside, cX11_setAside, 2, none)
abbrev mX11_putBack : MI := (yX11_putBack, cX11_putBack, 2, none)
abbrev mX11_foretold : MI := (yX11_foretold, cX11_foretold, 5, (some .int))
abbrev mX11_behind : MI := (yX11_behind, cX11_behind, 4, (some .int))
abbrev mX11_put : MI := (yX11_put, cX11_put, 2, (some .int))
abbrev mX11_second : MI := (yX11_second, cX11_second, 2, (some .int))
abbrev mX11_goesOn : MI := (yX11_goesOn, cX11_goesOn, 4, (some .int))
abbrev mX11_waysOf : MI := (yX11_waysOf, cX11_waysOf, 8, (some .long))
abbrev mX11_may : MI := (yX11_may, cX11_may, 2, (some .long))
abbrev mX11_divisor : MI := (yX11_divisor, cX11_divisor, 10, (some .long))
abbrev mX11_tens : MI := (yX11_tens, cX11_tens, 4, (some .long))
abbrev mX11_odds : MI := (yX11_odds, cX11_odds, 8, (some .long))
abbrev mX11_day : MI := (yX11_day, cX11_day, 2, (some .int))
abbrev mX11_fits : MI := (yX11_fits, cX11_fits, 3, (some .int))
abbrev mX11_likeliest : MI := (yX11_likeliest, cX11_likeliest, 8, (some .int))
abbrev mX11_takesBy : MI := (yX11_takesBy, cX11_takesBy, 5, (some .int))
abbrev mX11_layTakes : MI := (yX11_layTakes, cX11_layTakes, 4, none)
abbrev mX11_placesBy : MI := (yX11_placesBy, cX11_placesBy, 6, (some .int))
abbrev mX11_layRow : MI := (yX11_layRow, cX11_layRow, 4, (some .int))
abbrev mX11_add : MI := (yX11_add, cX11_add, 3, (some .int))
abbrev mX11_duet : MI := (yX11_duet, cX11_duet, 6, (some .int))
abbrev mX11_layCommon : MI := (yX11_layCommon, cX11_layCommon, 4, none)
abbrev mX11_firstOf : MI := (yX11_firstOf, cX11_firstOf, 6, (some .int))
abbrev mX11_common : MI := (yX11_common, cX11_common, 7, (some .int))
abbrev mX11_isNextOf : MI := (yX11_isNextOf, cX11_isNextOf, 7, (some .boolean))
abbrev mX11_apart : MI := (yX11_apart, cX11_apart, 4, (some .int))
abbrev mX11_grows : MI := (yX11_grows, cX11_grows, 6, (some .int))
abbrev mX11_stays : MI := (yX11_stays, cX11_stays, 7, (some .int))
abbrev mX11_likes : MI := (yX11_likes, cX11_likes, 5, (some .boolean))
abbrev mX11_isBetter : MI := (yX11_isBetter, cX11_isBetter, 6, (some .boolean))
abbrev mX11_bestOf : MI := (yX11_bestOf, cX11_bestOf, 4, (some .int))
abbrev mX11_layPairs : MI := (yX11_layPairs, cX11_layPairs, 5, none)
abbrev mX11_paired : MI := (yX11_paired, cX11_paired, 3, (some .int))
abbrev mX11_blocks : MI := (yX11_blocks, cX11_blocks, 3, (some .int))
abbrev mX11_needs : MI := (yX11_needs, cX11_needs, 3, (some .boolean))
abbrev mX11_costBy : MI := (yX11_costBy, cX11_costBy, 7, (some .int))
abbrev mX11_isMore : MI := (yX11_isMore, cX11_isMore, 2, (some .boolean))
abbrev mX11_stock : MI := (yX11_stock, cX11_stock, 8, (some .int))
abbrev mX11_looser : MI := (yX11_looser, cX11_looser, 3, (some .int))
abbrev mX11_whose : MI := (yX11_whose, cX11_whose, 5, (some .int))
abbrev mX11_image : MI := (yX11_image, cX11_image, 1, (some .int))
abbrev mX11_back : MI := (yX11_back, cX11_back, 1, (some .int))
abbrev mX11_about : MI := (yX11_about, cX11_about, 2, (some .int))
abbrev mJ11_isValidCodePoint_9a6ad : MI := (yJ11_isValidCodePoint_9a6ad, cJ11_isValidCodePoint_9a6ad, 2, (some .boolean))
abbrev mJ11_highSurrogate_5068e : MI := (yJ11_highSurrogate_5068e, cJ11_highSurrogate_5068e, 1, (some .char))
abbrev mJ11_lowSurrogate_5068e : MI := (yJ11_lowSurrogate_5068e, cJ11_lowSurrogate_5068e, 1, (some .char))
abbrev mJ6_bitCount_0f7a4 : MI := (yJ6_bitCount_0f7a4, cJ6_bitCount_0f7a4, 1, (some .int))
abbrev mJ9_abs_0f7a4 : MI := (yJ9_abs_0f7a4, cJ9_abs_0f7a4, 1, (some .int))
abbrev mJ9_max_7cf53 : MI := (yJ9_max_7cf53, cJ9_max_7cf53, 2, (some .int))
abbrev mJ9_min_7cf53 : MI := (yJ9_min_7cf53, cJ9_min_7cf53, 2, (some .int))
abbrev mJ0_length_8abf5 : MI := (yJ0_length_8abf5, cJ0_length_8abf5, 1, (some .int))
abbrev mJ0_charAt_5068e : MI := (yJ0_charAt_5068e, cJ0_charAt_5068e, 2, (some .char))
abbrev mJ0_indexOf_0f7a4 : MI := (yJ0_indexOf_0f7a4, cJ0_indexOf_0f7a4, 2, (some .int))
abbrev mJ0_indexOf_7cf53 : MI := (yJ0_indexOf_7cf53, cJ0_indexOf_7cf53, 3, (some .int))
abbrev mJ0_coder_7d493 : MI := (yJ0_coder_7d493, cJ0_coder_7d493, 1, (some .byte))
abbrev mJ0_isLatin1_aae02 : MI := (yJ0_isLatin1_aae02, cJ0_isLatin1_aae02, 1, (some .boolean))
abbrev mJ0_checkIndex_df160 : MI := (yJ0_checkIndex_df160, cJ0_checkIndex_df160, 2, none)
abbrev mJ0_checkBoundsBeginEnd_23922 : MI := (yJ0_checkBoundsBeginEnd_23922, cJ0_checkBoundsBeginEnd_23922, 3, none)
abbrev mJ1_charAt_3b067 : MI := (yJ1_charAt_3b067, cJ1_charAt_3b067, 2, (some .char))
abbrev mJ1_canEncode_9a6ad : MI := (yJ1_canEncode_9a6ad, cJ1_canEncode_9a6ad, 1, (some .boolean))
abbrev mJ1_indexOf_4cfef : MI := (yJ1_indexOf_4cfef, cJ1_indexOf_4cfef, 4, (some .int))
abbrev mJ1_indexOfChar_4cfef : MI := (yJ1_indexOfChar_4cfef, cJ1_indexOfChar_4cfef, 6, (some .int))
abbrev mJ2_getChar_3b067 : MI := (yJ2_getChar_3b067, cJ2_getChar_3b067, 2, (some .char))
abbrev mJ2_length_9d52b : MI := (yJ2_length_9d52b, cJ2_length_9d52b, 1, (some .int))
abbrev mJ2_indexOf_4cfef : MI := (yJ2_indexOf_4cfef, cJ2_indexOf_4cfef, 4, (some .int))
abbrev mJ2_indexOfChar_4cfef : MI := (yJ2_indexOfChar_4cfef, cJ2_indexOfChar_4cfef, 4, (some .int))
abbrev mJ2_indexOfCharUnsafe_4cfef : MI := (yJ2_indexOfCharUnsafe_4cfef, cJ2_indexOfCharUnsafe_4cfef, 5, (some .int))
abbrev mJ2_indexOfSupplementary_4cfef : MI := (yJ2_indexOfSupplementary_4cfef, cJ2_indexOfSupplementary_4cfef, 7, (some .int))
abbrev mJ2_charAt_3b067 : MI := (yJ2_charAt_3b067, cJ2_charAt_3b067, 2, (some .char))
abbrev mJ2_checkIndex_2214a : MI := (yJ2_checkIndex_2214a, cJ2_checkIndex_2214a, 2, none)
abbrev mJ2_checkBoundsBeginEnd_d044e : MI := (yJ2_checkBoundsBeginEnd_d044e, cJ2_checkBoundsBeginEnd_d044e, 3, none)
abbrev mJ7_fill_53178 : MI := (yJ7_fill_53178, cJ7_fill_53178, 4, none)
abbrev mJ7_copyOf_59c91 : MI := (yJ7_copyOf_59c91, cJ7_copyOf_59c91, 3, (some (.array .int)))
abbrev mJ3_checkIndex_8e157 : MI := (yJ3_checkIndex_8e157, cJ3_checkIndex_8e157, 3, (some .int))
abbrev mJ3_checkFromToIndex_8c36e : MI := (yJ3_checkFromToIndex_8c36e, cJ3_checkFromToIndex_8c36e, 4, (some .int))
abbrev mL_law : MI := (x, code, 4, ret)
theorem jX0_init : mx_J mX0_init 0 := ⟨mx_mem (in_t2 (List.mem_of_getElem? (i := 19) (by decide +kernel))) (by decide +kernel), mx_mem (in_t1 (List.mem_of_getElem? (i := 8) (by decide +kernel))) (by decide +kernel), ⟨by decide, by decide, by decide +kernel⟩, by decide⟩
theorem jiX0_init : Cond.instanceMethod yX0_init ∈ mx_g := mx_mem (in_t2 (List.mem_of_getElem? (i := 18) (by decide +kernel))) (by decide +kernel)
theorem jX0_loose : mx_J mX0_loose 3 := ⟨mx_mem (in_t4 (List.mem_of_getElem? (i := 26) (by decide +kernel))) (by decide +kernel), mx_mem (in_t1 (List.mem_of_getElem? (i := 8) (by decide +kernel))) (by decide +kernel), ⟨by decide, by decide, by decide +kernel⟩, by decide⟩
theorem jiX0_loose : Cond.instanceMethod yX0_loose ∈ mx_g := mx_mem (in_t4 (List.mem_of_getElem? (i := 24) (by decide +kernel))) (by decide +kernel)
theorem jvX0_loose : Cond.selects (yX0_loose).cls yX0_loose yX0_loose ∈ mx_g := mx_mem (in_t4 (List.mem_of_getElem? (i := 25) (by decide +kernel))) (by decide +kernel)
theorem jX0_believes : mx_J mX0_believes 3 := ⟨mx_mem (in_t4 (List.mem_of_getElem? (i := 101) (by decide +kernel))) (by decide +kernel), mx_mem (in_t1 (List.mem_of_getElem? (i := 8) (by decide +kernel))) (by decide +kernel), ⟨by decide, by decide, by decide +kernel⟩, by decide⟩
theorem jiX0_believes : Cond.instanceMethod yX0_believes ∈ mx_g := mx_mem (in_t4 (List.mem_of_getElem? (i := 99) (by decide +kernel))) (by decide +kernel)
theorem jvX0_believes : Cond.selects (yX0_believes).cls yX0_believes yX0_believes ∈ mx_g := mx_mem (in_t4 (List.mem_of_getElem? (i := 100) (by decide +kernel))) (by decide +kernel)
theorem jX0_wears : mx_J mX0_wears 3 := ⟨mx_mem (in_t4 (List.mem_of_getElem? (i := 118) (by decide +kernel))) (by decide +kernel), mx_mem (in_t1 (List.mem_of_getElem? (i := 8) (by decide +kernel))) (by decide +kernel), ⟨by decide, by decide, by decide +kernel⟩, by decide⟩
theorem jiX0_wears : Cond.instanceMethod yX0_wears ∈ mx_g := mx_mem (in_t4 (List.mem_of_getElem? (i := 116) (by decide +kernel))) (by decide +kernel)
theorem jvX0_wears : Cond.selects (yX0_wears).cls yX0_wears yX0_wears ∈ mx_g := mx_mem (in_t4 (List.mem_of_getElem? (i := 117) (by decide +kernel))) (by decide +kernel)
theorem jX0_pass : mx_J mX0_pass 3 := ⟨mx_mem (in_t4 (List.mem_of_getElem? (i := 22) (by decide +kernel))) (by decide +kernel), mx_mem (in_t1 (List.mem_of_getElem? (i := 8) (by decide +kernel))) (by decide +kernel), ⟨by decide, by decide, by decide +kernel⟩, by decide⟩
theorem jiX0_pass : Cond.instanceMethod yX0_pass ∈ mx_g := mx_mem (in_t4 (List.mem_of_getElem? (i := 20) (by decide +kernel))) (by decide +kernel)
theorem jvX0_pass : Cond.selects (yX0_pass).cls yX0_pass yX0_pass ∈ mx_g := mx_mem (in_t4 (List.mem_of_getElem? (i := 21) (by decide +kernel))) (by decide +kernel)
theorem jX0_printRoll : mx_J mX0_printRoll 4 := ⟨mx_mem (in_t4 (List.mem_of_getElem? (i := 76) (by decide +kernel))) (by decide +kernel), mx_mem (in_t1 (List.mem_of_getElem? (i := 8) (by decide +kernel))) (by decide +kernel), ⟨by decide, by decide, by decide +kernel⟩, by decide⟩
theorem jsX0_printRoll : Cond.static yX0_printRoll ∈ mx_g := mx_mem (in_t4 (List.mem_of_getElem? (i := 75) (by decide +kernel))) (by decide +kernel)
theorem jX0_asked : mx_J mX0_asked 4 := ⟨mx_mem (in_t4 (List.mem_of_getElem? (i := 34) (by decide +kernel))) (by decide +kernel), mx_mem (in_t1 (List.mem_of_getElem? (i := 8) (by decide +kernel))) (by decide +kernel), ⟨by decide, by decide, by decide +kernel⟩, by decide⟩
theorem jiX0_asked : Cond.instanceMethod yX0_asked ∈ mx_g := mx_mem (in_t4 (List.mem_of_getElem? (i := 33) (by decide +kernel))) (by decide +kernel)
theorem jvX0_asked : Cond.selects (yX0_asked).cls yX0_asked yX0_asked ∈ mx_g := mx_mem (in_p2 (List.mem_of_getElem? (i := 9) (by decide +kernel))) (by decide +kernel)
theorem jX0_push : mx_J mX0_push 1 := ⟨mx_mem (in_t4 (List.mem_of_getElem? (i := 45) (by decide +kernel))) (by decide +kernel), mx_mem (in_t1 (List.mem_of_getElem? (i := 8) (by decide +kernel))) (by decide +kernel), ⟨by decide, by decide, by decide +kernel⟩, by decide⟩
theorem jiX0_push : Cond.instanceMethod yX0_push ∈ mx_g := mx_mem (in_t4 (List.mem_of_getElem? (i := 44) (by decide +kernel))) (by decide +kernel)
theorem jvX0_push : Cond.selects (yX0_push).cls yX0_push yX0_push ∈ mx_g := mx_mem (in_p2 (List.mem_of_getElem? (i := 11) (by decide +kernel))) (by decide +kernel)
theorem jX0_pop : mx_J mX0_pop 0 := ⟨mx_mem (in_t4 (List.mem_of_getElem? (i := 40) (by decide +kernel))) (by decide +kernel), mx_mem (in_t1 (List.mem_of_getElem? (i := 8) (by decide +kernel))) (by decide +kernel), ⟨by decide, by decide, by decide +kernel⟩, by decide⟩
theorem jiX0_pop : Cond.instanceMethod yX0_pop ∈ mx_g := mx_mem (in_t4 (List.mem_of_getElem? (i := 39) (by decide +kernel))) (by decide +kernel)
theorem jvX0_pop : Cond.selects (yX0_pop).cls yX0_pop yX0_pop ∈ mx_g := mx_mem (in_p2 (List.mem_of_getElem? (i := 10) (by decide +kernel))) (by decide +kernel)
theorem jX0_named : mx_J mX0_named 3 := ⟨mx_mem (in_t4 (List.mem_of_getElem? (i := 48) (by decide +kernel))) (by decide +kernel), mx_mem (in_t1 (List.mem_of_getElem? (i := 8) (by decide +kernel))) (by decide +kernel), ⟨by decide, by decide, by decide +kernel⟩, by decide⟩
theorem jsX0_named : Cond.static yX0_named ∈ mx_g := mx_mem (in_t4 (List.mem_of_getElem? (i := 47) (by decide +kernel))) (by decide +kernel)
theorem jX0_ofOne : mx_J mX0_ofOne 3 := ⟨mx_mem (in_t4 (List.mem_of_getElem? (i := 56) (by decide +kernel))) (by decide +kernel), mx_mem (in_t1 (List.mem_of_getElem? (i := 8) (by decide +kernel))) (by decide +kernel), ⟨by decide, by decide, by decide +kernel⟩, by decide⟩
theorem jsX0_ofOne : Cond.static yX0_ofOne ∈ mx_g := mx_mem (in_t4 (List.mem_of_getElem? (i := 55) (by decide +kernel))) (by decide +kernel)
theorem jX0_crossSum : mx_J mX0_crossSum 1 := ⟨mx_mem (in_t4 (List.mem_of_getElem? (i := 63) (by decide +kernel))) (by decide +kernel), mx_mem (in_t1 (List.mem_of_getElem? (i := 8) (by decide +kernel))) (by decide +kernel), ⟨by decide, by decide, by decide +kernel⟩, by decide⟩
theorem jsX0_crossSum : Cond.static yX0_crossSum ∈ mx_g := mx_mem (in_t4 (List.mem_of_getElem? (i := 62) (by decide +kernel))) (by decide +kernel)
theorem jX0_ofTwo : mx_J mX0_ofTwo 3 := ⟨mx_mem (in_t4 (List.mem_of_getElem? (i := 66) (by decide +kernel))) (by decide +kernel), mx_mem (in_t1 (List.mem_of_getElem? (i := 8) (by decide +kernel))) (by decide +kernel), ⟨by decide, by decide, by decide +kernel⟩, by decide⟩
theorem jsX0_ofTwo : Cond.static yX0_ofTwo ∈ mx_g := mx_mem (in_t4 (List.mem_of_getElem? (i := 65) (by decide +kernel))) (by decide +kernel)
theorem jX0_held : mx_J mX0_held 1 := ⟨mx_mem (in_t4 (List.mem_of_getElem? (i := 69) (by decide +kernel))) (by decide +kernel), mx_mem (in_t1 (List.mem_of_getElem? (i := 8) (by decide +kernel))) (by decide +kernel), ⟨by decide, by decide, by decide +kernel⟩, by decide⟩
theorem jsX0_held : Cond.static yX0_held ∈ mx_g := mx_mem (in_t4 (List.mem_of_getElem? (i := 68) (by decide +kernel))) (by decide +kernel)
theorem jX1_init : mx_J mX1_init 0 := ⟨mx_mem (in_t2 (List.mem_of_getElem? (i := 65) (by decide +kernel))) (by decide +kernel), mx_mem (in_t1 (List.mem_of_getElem? (i := 10) (by decide +kernel))) (by decide +kernel), ⟨by decide, by decide, by decide +kernel⟩, by decide⟩
theorem jiX1_init : Cond.instanceMethod yX1_init ∈ mx_g := mx_mem (in_t2 (List.mem_of_getElem? (i := 64) (by decide +kernel))) (by decide +kernel)
theorem jX1_prefers : mx_J mX1_prefers 4 := ⟨mx_mem (in_t5 (List.mem_of_getElem? (i := 109) (by decide +kernel))) (by decide +kernel), mx_mem (in_t1 (List.mem_of_getElem? (i := 10) (by decide +kernel))) (by decide +kernel), ⟨by decide, by decide, by decide +kernel⟩, by decide⟩
theorem jsX1_prefers : Cond.static yX1_prefers ∈ mx_g := mx_mem (in_t5 (List.mem_of_getElem? (i := 108) (by decide +kernel))) (by decide +kernel)
theorem jX1_pairAll : mx_J mX1_pairAll 2 := ⟨mx_mem (in_t5 (List.mem_of_getElem? (i := 97) (by decide +kernel))) (by decide +kernel), mx_mem (in_t1 (List.mem_of_getElem? (i := 10) (by decide +kernel))) (by decide +kernel), ⟨by decide, by decide, by decide +kernel⟩, by decide⟩
theorem jiX1_pairAll : Cond.instanceMethod yX1_pairAll ∈ mx_g := mx_mem (in_t5 (List.mem_of_getElem? (i := 95) (by decide +kernel))) (by decide +kernel)
theorem jvX1_pairAll : Cond.selects (yX1_pairAll).cls yX1_pairAll yX1_pairAll ∈ mx_g := mx_mem (in_t5 (List.mem_of_getElem? (i := 96) (by decide +kernel))) (by decide +kernel)
theorem jX1_lowestFree : mx_J mX1_lowestFree 0 := ⟨mx_mem (in_t5 (List.mem_of_getElem? (i := 102) (by decide +kernel))) (by decide +kernel), mx_mem (in_t1 (List.mem_of_getElem? (i := 10) (by decide +kernel))) (by decide +kernel), ⟨by decide, by decide, by decide +kernel⟩, by decide⟩
theorem jiX1_lowestFree : Cond.instanceMethod yX1_lowestFree ∈ mx_g := mx_mem (in_t5 (List.mem_of_getElem? (i := 101) (by decide +kernel))) (by decide +kernel)
theorem jvX1_lowestFree : Cond.selects (yX1_lowestFree).cls yX1_lowestFree yX1_lowestFree ∈ mx_g := mx_mem (in_p3 (List.mem_of_getElem? (i := 4) (by decide +kernel))) (by decide +kernel)
theorem jX1_bestUnasked : mx_J mX1_bestUnasked 2 := ⟨mx_mem (in_t5 (List.mem_of_getElem? (i := 106) (by decide +kernel))) (by decide +kernel), mx_mem (in_t1 (List.mem_of_getElem? (i := 10) (by decide +kernel))) (by decide +kernel), ⟨by decide, by decide, by decide +kernel⟩, by decide⟩
theorem jiX1_bestUnasked : Cond.instanceMethod yX1_bestUnasked ∈ mx_g := mx_mem (in_t5 (List.mem_of_getElem? (i := 105) (by decide +kernel))) (by decide +kernel)
theorem jvX1_bestUnasked : Cond.selects (yX1_bestUnasked).cls yX1_bestUnasked yX1_bestUnasked ∈ mx_g := mx_mem (in_p3 (List.mem_of_getElem? (i := 5) (by decide +kernel))) (by decide +kernel)
theorem jX2_init : mx_J mX2_init 1 := ⟨mx_mem (in_t1 (List.mem_of_getElem? (i := 214) (by decide +kernel))) (by decide +kernel), mx_mem (in_t1 (List.mem_of_getElem? (i := 7) (by decide +kernel))) (by decide +kernel), ⟨by decide, by decide, by decide +kernel⟩, by decide⟩
theorem jiX2_init : Cond.instanceMethod yX2_init ∈ mx_g := mx_mem (in_t1 (List.mem_of_getElem? (i := 213) (by decide +kernel))) (by decide +kernel)
theorem jX2_read : mx_J mX2_read 0 := ⟨mx_mem (in_t2 (List.mem_of_getElem? (i := 169) (by decide +kernel))) (by decide +kernel), mx_mem (in_t1 (List.mem_of_getElem? (i := 7) (by decide +kernel))) (by decide +kernel), ⟨by decide, by decide, by decide +kernel⟩, by decide⟩
theorem jiX2_read : Cond.instanceMethod yX2_read ∈ mx_g := mx_mem (in_t2 (List.mem_of_getElem? (i := 167) (by decide +kernel))) (by decide +kernel)
theorem jvX2_read : Cond.selects (yX2_read).cls yX2_read yX2_read ∈ mx_g := mx_mem (in_t2 (List.mem_of_getElem? (i := 168) (by decide +kernel))) (by decide +kernel)
theorem jX2_compiled : mx_J mX2_compiled 0 := ⟨mx_mem (in_t3 (List.mem_of_getElem? (i := 148) (by decide +kernel))) (by decide +kernel), mx_mem (in_t1 (List.mem_of_getElem? (i := 7) (by decide +kernel))) (by decide +kernel), ⟨by decide, by decide, by decide +kernel⟩, by decide⟩
theorem jiX2_compiled : Cond.instanceMethod yX2_compiled ∈ mx_g := mx_mem (in_t3 (List.mem_of_getElem? (i := 146) (by decide +kernel))) (by decide +kernel)
theorem jvX2_compiled : Cond.selects (yX2_compiled).cls yX2_compiled yX2_compiled ∈ mx_g := mx_mem (in_t3 (List.mem_of_getElem? (i := 147) (by decide +kernel))) (by decide +kernel)
theorem jX2_refuse : mx_J mX2_refuse 1 := ⟨mx_mem (in_t3 (List.mem_of_getElem? (i := 78) (by decide +kernel))) (by decide +kernel), mx_mem (in_t1 (List.mem_of_getElem? (i := 7) (by decide +kernel))) (by decide +kernel), ⟨by decide, by decide, by decide +kernel⟩, by decide⟩
theorem jiX2_refuse : Cond.instanceMethod yX2_refuse ∈ mx_g := mx_mem (in_t3 (List.mem_of_getElem? (i := 77) (by decide +kernel))) (by decide +kernel)
theorem jvX2_refuse : Cond.selects (yX2_refuse).cls yX2_refuse yX2_refuse ∈ mx_g := mx_mem (in_p1 (List.mem_of_getElem? (i := 6) (by decide +kernel))) (by decide +kernel)
theorem jX2_expect : mx_J mX2_expect 1 := ⟨mx_mem (in_t3 (List.mem_of_getElem? (i := 112) (by decide +kernel))) (by decide +kernel), mx_mem (in_t1 (List.mem_of_getElem? (i := 7) (by decide +kernel))) (by decide +kernel), ⟨by decide, by decide, by decide +kernel⟩, by decide⟩
theorem jiX2_expect : Cond.instanceMethod yX2_expect ∈ mx_g := mx_mem (in_t3 (List.mem_of_getElem? (i := 111) (by decide +kernel))) (by decide +kernel)
theorem jvX2_expect : Cond.selects (yX2_expect).cls yX2_expect yX2_expect ∈ mx_g := mx_mem (in_p1 (List.mem_of_getElem? (i := 14) (by decide +kernel))) (by decide +kernel)
theorem jX2_readClause : mx_J mX2_readClause 0 := ⟨mx_mem (in_t3 (List.mem_of_getElem? (i := 74) (by decide +kernel))) (by decide +kernel), mx_mem (in_t1 (List.mem_of_getElem? (i := 7) (by decide +kernel))) (by decide +kernel), ⟨by decide, by decide, by decide +kernel⟩, by decide⟩
theorem jiX2_readClause : Cond.instanceMethod yX2_readClause ∈ mx_g := mx_mem (in_t3 (List.mem_of_getElem? (i := 73) (by decide +kernel))) (by decide +kernel)
theorem jvX2_readClause : Cond.selects (yX2_readClause).cls yX2_readClause yX2_readClause ∈ mx_g := mx_mem (in_p1 (List.mem_of_getElem? (i := 5) (by decide +kernel))) (by decide +kernel)
theorem jX2_readOrder : mx_J mX2_readOrder 1 := ⟨mx_mem (in_t3 (List.mem_of_getElem? (i := 140) (by decide +kernel))) (by decide +kernel), mx_mem (in_t1 (List.mem_of_getElem? (i := 7) (by decide +kernel))) (by decide +kernel), ⟨by decide, by decide, by decide +kernel⟩, by decide⟩
theorem jiX2_readOrder : Cond.instanceMethod yX2_readOrder ∈ mx_g := mx_mem (in_t3 (List.mem_of_getElem? (i := 139) (by decide +kernel))) (by decide +kernel)
theorem jvX2_readOrder : Cond.selects (yX2_readOrder).cls yX2_readOrder yX2_readOrder ∈ mx_g := mx_mem (in_p2 (List.mem_of_getElem? (i := 5) (by decide +kernel))) (by decide +kernel)
theorem jX2_readPart : mx_J mX2_readPart 3 := ⟨mx_mem (in_t3 (List.mem_of_getElem? (i := 144) (by decide +kernel))) (by decide +kernel), mx_mem (in_t1 (List.mem_of_getElem? (i := 7) (by decide +kernel))) (by decide +kernel), ⟨by decide, by decide, by decide +kernel⟩, by decide⟩
theorem jiX2_readPart : Cond.instanceMethod yX2_readPart ∈ mx_g := mx_mem (in_t3 (List.mem_of_getElem? (i := 143) (by decide +kernel))) (by decide +kernel)
theorem jvX2_readPart : Cond.selects (yX2_readPart).cls yX2_readPart yX2_readPart ∈ mx_g := mx_mem (in_p2 (List.mem_of_getElem? (i := 6) (by decide +kernel))) (by decide +kernel)
theorem jX2_readSum : mx_J mX2_readSum 0 := ⟨mx_mem (in_t3 (List.mem_of_getElem? (i := 83) (by decide +kernel))) (by decide +kernel), mx_mem (in_t1 (List.mem_of_getElem? (i := 7) (by decide +kernel))) (by decide +kernel), ⟨by decide, by decide, by decide +kernel⟩, by decide⟩
theorem jiX2_readSum : Cond.instanceMethod yX2_readSum ∈ mx_g := mx_mem (in_t3 (List.mem_of_getElem? (i := 82) (by decide +kernel))) (by decide +kernel)
theorem jvX2_readSum : Cond.selects (yX2_readSum).cls yX2_readSum yX2_readSum ∈ mx_g := mx_mem (in_p1 (List.mem_of_getElem? (i := 7) (by decide +kernel))) (by decide +kernel)
theorem jX2_readProduct : mx_J mX2_readProduct 0 := ⟨mx_mem (in_t3 (List.mem_of_getElem? (i := 87) (by decide +kernel))) (by decide +kernel), mx_mem (in_t1 (List.mem_of_getElem? (i := 7) (by decide +kernel))) (by decide +kernel), ⟨by decide, by decide, by decide +kernel⟩, by decide⟩
theorem jiX2_readProduct : Cond.instanceMethod yX2_readProduct ∈ mx_g := mx_mem (in_t3 (List.mem_of_getElem? (i := 86) (by decide +kernel))) (by decide +kernel)
theorem jvX2_readProduct : Cond.selects (yX2_readProduct).cls yX2_readProduct yX2_readProduct ∈ mx_g := mx_mem (in_p1 (List.mem_of_getElem? (i := 8) (by decide +kernel))) (by decide +kernel)
theorem jX2_readOne : mx_J mX2_readOne 0 := ⟨mx_mem (in_t3 (List.mem_of_getElem? (i := 91) (by decide +kernel))) (by decide +kernel), mx_mem (in_t1 (List.mem_of_getElem? (i := 7) (by decide +kernel))) (by decide +kernel), ⟨by decide, by decide, by decide +kernel⟩, by decide⟩
theorem jiX2_readOne : Cond.instanceMethod yX2_readOne ∈ mx_g := mx_mem (in_t3 (List.mem_of_getElem? (i := 90) (by decide +kernel))) (by decide +kernel)
theorem jvX2_readOne : Cond.selects (yX2_readOne).cls yX2_readOne yX2_readOne ∈ mx_g := mx_mem (in_p1 (List.mem_of_getElem? (i := 9) (by decide +kernel))) (by decide +kernel)
theorem jX2_readNumber : mx_J mX2_readNumber 0 := ⟨mx_mem (in_t3 (List.mem_of_getElem? (i := 95) (by decide +kernel))) (by decide +kernel), mx_mem (in_t1 (List.mem_of_getElem? (i := 7) (by decide +kernel))) (by decide +kernel), ⟨by decide, by decide, by decide +kernel⟩, by decide⟩
theorem jiX2_readNumber : Cond.instanceMethod yX2_readNumber ∈ mx_g := mx_mem (in_t3 (List.mem_of_getElem? (i := 94) (by decide +kernel))) (by decide +kernel)
theorem jvX2_readNumber : Cond.selects (yX2_readNumber).cls yX2_readNumber yX2_readNumber ∈ mx_g := mx_mem (in_p1 (List.mem_of_getElem? (i := 10) (by decide +kernel))) (by decide +kernel)
theorem jX2_readName : mx_J mX2_readName 1 := ⟨mx_mem (in_t3 (List.mem_of_getElem? (i := 104) (by decide +kernel))) (by decide +kernel), mx_mem (in_t1 (List.mem_of_getElem? (i := 7) (by decide +kernel))) (by decide +kernel), ⟨by decide, by decide, by decide +kernel⟩, by decide⟩
theorem jiX2_readName : Cond.instanceMethod yX2_readName ∈ mx_g := mx_mem (in_t3 (List.mem_of_getElem? (i := 103) (by decide +kernel))) (by decide +kernel)
theorem jvX2_readName : Cond.selects (yX2_readName).cls yX2_readName yX2_readName ∈ mx_g := mx_mem (in_p1 (List.mem_of_getElem? (i := 12) (by decide +kernel))) (by decide +kernel)
theorem jX2_readOpened : mx_J mX2_readOpened 1 := ⟨mx_mem (in_t3 (List.mem_of_getElem? (i := 108) (by decide +kernel))) (by decide +kernel), mx_mem (in_t1 (List.mem_of_getElem? (i := 7) (by decide +kernel))) (by decide +kernel), ⟨by decide, by decide, by decide +kernel⟩, by decide⟩
theorem jiX2_readOpened : Cond.instanceMethod yX2_readOpened ∈ mx_g := mx_mem (in_t3 (List.mem_of_getElem? (i := 107) (by decide +kernel))) (by decide +kernel)
theorem jvX2_readOpened : Cond.selects (yX2_readOpened).cls yX2_readOpened yX2_readOpened ∈ mx_g := mx_mem (in_p1 (List.mem_of_getElem? (i := 13) (by decide +kernel))) (by decide +kernel)
theorem jX2_readChoice : mx_J mX2_readChoice 0 := ⟨mx_mem (in_t3 (List.mem_of_getElem? (i := 116) (by decide +kernel))) (by decide +kernel), mx_mem (in_t1 (List.mem_of_getElem? (i := 7) (by decide +kernel))) (by decide +kernel), ⟨by decide, by decide, by decide +kernel⟩, by decide⟩
theorem jiX2_readChoice : Cond.instanceMethod yX2_readChoice ∈ mx_g := mx_mem (in_t3 (List.mem_of_getElem? (i := 115) (by decide +kernel))) (by decide +kernel)
theorem jvX2_readChoice : Cond.selects (yX2_readChoice).cls yX2_readChoice yX2_readChoice ∈ mx_g := mx_mem (in_p1 (List.mem_of_getElem? (i := 15) (by decide +kernel))) (by decide +kernel)
theorem jX2_readEither : mx_J mX2_readEither 0 := ⟨mx_mem (in_t3 (List.mem_of_getElem? (i := 120) (by decide +kernel))) (by decide +kernel), mx_mem (in_t1 (List.mem_of_getElem? (i := 7) (by decide +kernel))) (by decide +kernel), ⟨by decide, by decide, by decide +kernel⟩, by decide⟩
theorem jiX2_readEither : Cond.instanceMethod yX2_readEither ∈ mx_g := mx_mem (in_t3 (List.mem_of_getElem? (i := 119) (by decide +kernel))) (by decide +kernel)
theorem jvX2_readEither : Cond.selects (yX2_readEither).cls yX2_readEither yX2_readEither ∈ mx_g := mx_mem (in_p2 (List.mem_of_getElem? (i := 0) (by decide +kernel))) (by decide +kernel)
theorem jX2_readBoth : mx_J mX2_readBoth 0 := ⟨mx_mem (in_t3 (List.mem_of_getElem? (i := 124) (by decide +kernel))) (by decide +kernel), mx_mem (in_t1 (List.mem_of_getElem? (i := 7) (by decide +kernel))) (by decide +kernel), ⟨by decide, by decide, by decide +kernel⟩, by decide⟩
theorem jiX2_readBoth : Cond.instanceMethod yX2_readBoth ∈ mx_g := mx_mem (in_t3 (List.mem_of_getElem? (i := 123) (by decide +kernel))) (by decide +kernel)
theorem jvX2_readBoth : Cond.selects (yX2_readBoth).cls yX2_readBoth yX2_readBoth ∈ mx_g := mx_mem (in_p2 (List.mem_of_getElem? (i := 1) (by decide +kernel))) (by decide +kernel)
theorem jX2_readAsk : mx_J mX2_readAsk 0 := ⟨mx_mem (in_t3 (List.mem_of_getElem? (i := 128) (by decide +kernel))) (by decide +kernel), mx_mem (in_t1 (List.mem_of_getElem? (i := 7) (by decide +kernel))) (by decide +kernel), ⟨by decide, by decide, by decide +kernel⟩, by decide⟩
theorem jiX2_readAsk : Cond.instanceMethod yX2_readAsk ∈ mx_g := mx_mem (in_t3 (List.mem_of_getElem? (i := 127) (by decide +kernel))) (by decide +kernel)
theorem jvX2_readAsk : Cond.selects (yX2_readAsk).cls yX2_readAsk yX2_readAsk ∈ mx_g := mx_mem (in_p2 (List.mem_of_getElem? (i := 2) (by decide +kernel))) (by decide +kernel)
theorem jX2_readComparison : mx_J mX2_readComparison 0 := ⟨mx_mem (in_t3 (List.mem_of_getElem? (i := 132) (by decide +kernel))) (by decide +kernel), mx_mem (in_t1 (List.mem_of_getElem? (i := 7) (by decide +kernel))) (by decide +kernel), ⟨by decide, by decide, by decide +kernel⟩, by decide⟩
theorem jiX2_readComparison : Cond.instanceMethod yX2_readComparison ∈ mx_g := mx_mem (in_t3 (List.mem_of_getElem? (i := 131) (by decide +kernel))) (by decide +kernel)
theorem jvX2_readComparison : Cond.selects (yX2_readComparison).cls yX2_readComparison yX2_readComparison ∈ mx_g := mx_mem (in_p2 (List.mem_of_getElem? (i := 3) (by decide +kernel))) (by decide +kernel)
theorem jX2_order : mx_J mX2_order 2 := ⟨mx_mem (in_t3 (List.mem_of_getElem? (i := 99) (by decide +kernel))) (by decide +kernel), mx_mem (in_t1 (List.mem_of_getElem? (i := 7) (by decide +kernel))) (by decide +kernel), ⟨by decide, by decide, by decide +kernel⟩, by decide⟩
theorem jiX2_order : Cond.instanceMethod yX2_order ∈ mx_g := mx_mem (in_t3 (List.mem_of_getElem? (i := 98) (by decide +kernel))) (by decide +kernel)
theorem jvX2_order : Cond.selects (yX2_order).cls yX2_order yX2_order ∈ mx_g := mx_mem (in_p1 (List.mem_of_getElem? (i := 11) (by decide +kernel))) (by decide +kernel)
theorem jX2_aim : mx_J mX2_aim 1 := ⟨mx_mem (in_t3 (List.mem_of_getElem? (i := 136) (by decide +kernel))) (by decide +kernel), mx_mem (in_t1 (List.mem_of_getElem? (i := 7) (by decide +kernel))) (by decide +kernel), ⟨by decide, by decide, by decide +kernel⟩, by decide⟩
theorem jiX2_aim : Cond.instanceMethod yX2_aim ∈ mx_g := mx_mem (in_t3 (List.mem_of_getElem? (i := 135) (by decide +kernel))) (by decide +kernel)
theorem jvX2_aim : Cond.selects (yX2_aim).cls yX2_aim yX2_aim ∈ mx_g := mx_mem (in_p2 (List.mem_of_getElem? (i := 4) (by decide +kernel))) (by decide +kernel)
theorem jX3_init : mx_J mX3_init 1 := ⟨mx_mem (in_t1 (List.mem_of_getElem? (i := 104) (by decide +kernel))) (by decide +kernel), mx_mem (in_t1 (List.mem_of_getElem? (i := 4) (by decide +kernel))) (by decide +kernel), ⟨by decide, by decide, by decide +kernel⟩, by decide⟩
theorem jiX3_init : Cond.instanceMethod yX3_init ∈ mx_g := mx_mem (in_t1 (List.mem_of_getElem? (i := 103) (by decide +kernel))) (by decide +kernel)
theorem jX3_has : mx_J mX3_has 1 := ⟨mx_mem (in_t4 (List.mem_of_getElem? (i := 213) (by decide +kernel))) (by decide +kernel), mx_mem (in_t1 (List.mem_of_getElem? (i := 4) (by decide +kernel))) (by decide +kernel), ⟨by decide, by decide, by decide +kernel⟩, by decide⟩
theorem jiX3_has : Cond.instanceMethod yX3_has ∈ mx_g := mx_mem (in_t4 (List.mem_of_getElem? (i := 211) (by decide +kernel))) (by decide +kernel)
theorem jvX3_has : Cond.selects (yX3_has).cls yX3_has yX3_has ∈ mx_g := mx_mem (in_t4 (List.mem_of_getElem? (i := 212) (by decide +kernel))) (by decide +kernel)
theorem jX3_get : mx_J mX3_get 1 := ⟨mx_mem (in_t4 (List.mem_of_getElem? (i := 217) (by decide +kernel))) (by decide +kernel), mx_mem (in_t1 (List.mem_of_getElem? (i := 4) (by decide +kernel))) (by decide +kernel), ⟨by decide, by decide, by decide +kernel⟩, by decide⟩
theorem jiX3_get : Cond.instanceMethod yX3_get ∈ mx_g := mx_mem (in_t4 (List.mem_of_getElem? (i := 215) (by decide +kernel))) (by decide +kernel)
theorem jvX3_get : Cond.selects (yX3_get).cls yX3_get yX3_get ∈ mx_g := mx_mem (in_t4 (List.mem_of_getElem? (i := 216) (by decide +kernel))) (by decide +kernel)
theorem jX3_append : mx_J mX3_append 1 := ⟨mx_mem (in_t4 (List.mem_of_getElem? (i := 192) (by decide +kernel))) (by decide +kernel), mx_mem (in_t1 (List.mem_of_getElem? (i := 4) (by decide +kernel))) (by decide +kernel), ⟨by decide, by decide, by decide +kernel⟩, by decide⟩
theorem jiX3_append : Cond.instanceMethod yX3_append ∈ mx_g := mx_mem (in_t4 (List.mem_of_getElem? (i := 190) (by decide +kernel))) (by decide +kernel)
theorem jvX3_append : Cond.selects (yX3_append).cls yX3_append yX3_append ∈ mx_g := mx_mem (in_t4 (List.mem_of_getElem? (i := 191) (by decide +kernel))) (by decide +kernel)
theorem jX3_copyFrom : mx_J mX3_copyFrom 1 := ⟨mx_mem (in_t5 (List.mem_of_getElem? (i := 186) (by decide +kernel))) (by decide +kernel), mx_mem (in_t1 (List.mem_of_getElem? (i := 4) (by decide +kernel))) (by decide +kernel), ⟨by decide, by decide, by decide +kernel⟩, by decide⟩
theorem jiX3_copyFrom : Cond.instanceMethod yX3_copyFrom ∈ mx_g := mx_mem (in_t5 (List.mem_of_getElem? (i := 184) (by decide +kernel))) (by decide +kernel)
theorem jvX3_copyFrom : Cond.selects (yX3_copyFrom).cls yX3_copyFrom yX3_copyFrom ∈ mx_g := mx_mem (in_t5 (List.mem_of_getElem? (i := 185) (by decide +kernel))) (by decide +kernel)
theorem jX4_init : mx_J mX4_init 0 := ⟨mx_mem (in_t1 (List.mem_of_getElem? (i := 34) (by decide +kernel))) (by decide +kernel), mx_mem (in_t1 (List.mem_of_getElem? (i := 2) (by decide +kernel))) (by decide +kernel), ⟨by decide, by decide, by decide +kernel⟩, by decide⟩
theorem jiX4_init : Cond.instanceMethod yX4_init ∈ mx_g := mx_mem (in_t1 (List.mem_of_getElem? (i := 33) (by decide +kernel))) (by decide +kernel)
theorem jX4_theText : mx_J mX4_theText 0 := ⟨mx_mem (in_t4 (List.mem_of_getElem? (i := 18) (by decide +kernel))) (by decide +kernel), mx_mem (in_t1 (List.mem_of_getElem? (i := 2) (by decide +kernel))) (by decide +kernel), ⟨by decide, by decide, by decide +kernel⟩, by decide⟩
theorem jiX4_theText : Cond.instanceMethod yX4_theText ∈ mx_g := mx_mem (in_t4 (List.mem_of_getElem? (i := 16) (by decide +kernel))) (by decide +kernel)
theorem jvX4_theText : Cond.selects (yX4_theText).cls yX4_theText yX4_theText ∈ mx_g := mx_mem (in_t4 (List.mem_of_getElem? (i := 17) (by decide +kernel))) (by decide +kernel)
theorem jX4_remember : mx_J mX4_remember 0 := ⟨mx_mem (in_t3 (List.mem_of_getElem? (i := 219) (by decide +kernel))) (by decide +kernel), mx_mem (in_t1 (List.mem_of_getElem? (i := 2) (by decide +kernel))) (by decide +kernel), ⟨by decide, by decide, by decide +kernel⟩, by decide⟩
theorem jiX4_remember : Cond.instanceMethod yX4_remember ∈ mx_g := mx_mem (in_t3 (List.mem_of_getElem? (i := 217) (by decide +kernel))) (by decide +kernel)
theorem jvX4_remember : Cond.selects (yX4_remember).cls yX4_remember yX4_remember ∈ mx_g := mx_mem (in_t3 (List.mem_of_getElem? (i := 218) (by decide +kernel))) (by decide +kernel)
theorem jX4_takeBack : mx_J mX4_takeBack 0 := ⟨mx_mem (in_t4 (List.mem_of_getElem? (i := 152) (by decide +kernel))) (by decide +kernel), mx_mem (in_t1 (List.mem_of_getElem? (i := 2) (by decide +kernel))) (by decide +kernel), ⟨by decide, by decide, by decide +kernel⟩, by decide⟩
theorem jiX4_takeBack : Cond.instanceMethod yX4_takeBack ∈ mx_g := mx_mem (in_t4 (List.mem_of_getElem? (i := 150) (by decide +kernel))) (by decide +kernel)
theorem jvX4_takeBack : Cond.selects (yX4_takeBack).cls yX4_takeBack yX4_takeBack ∈ mx_g := mx_mem (in_t4 (List.mem_of_getElem? (i := 151) (by decide +kernel))) (by decide +kernel)
theorem jX4_copyFrom : mx_J mX4_copyFrom 1 := ⟨mx_mem (in_t5 (List.mem_of_getElem? (i := 181) (by decide +kernel))) (by decide +kernel), mx_mem (in_t1 (List.mem_of_getElem? (i := 2) (by decide +kernel))) (by decide +kernel), ⟨by decide, by decide, by decide +kernel⟩, by decide⟩
theorem jiX4_copyFrom : Cond.instanceMethod yX4_copyFrom ∈ mx_g := mx_mem (in_t5 (List.mem_of_getElem? (i := 179) (by decide +kernel))) (by decide +kernel)
theorem jvX4_copyFrom : Cond.selects (yX4_copyFrom).cls yX4_copyFrom yX4_copyFrom ∈ mx_g := mx_mem (in_t5 (List.mem_of_getElem? (i := 180) (by decide +kernel))) (by decide +kernel)
theorem jX5_init : mx_J mX5_init 0 := ⟨mx_mem (in_t2 (List.mem_of_getElem? (i := 82) (by decide +kernel))) (by decide +kernel), mx_mem (in_t1 (List.mem_of_getElem? (i := 11) (by decide +kernel))) (by decide +kernel), ⟨by decide, by decide, by decide +kernel⟩, by decide⟩
theorem jiX5_init : Cond.instanceMethod yX5_init ∈ mx_g := mx_mem (in_t2 (List.mem_of_getElem? (i := 81) (by decide +kernel))) (by decide +kernel)
theorem jX5_plan : mx_J mX5_plan 3 := ⟨mx_mem (in_t5 (List.mem_of_getElem? (i := 126) (by decide +kernel))) (by decide +kernel), mx_mem (in_t1 (List.mem_of_getElem? (i := 11) (by decide +kernel))) (by decide +kernel), ⟨by decide, by decide, by decide +kernel⟩, by decide⟩
theorem jiX5_plan : Cond.instanceMethod yX5_plan ∈ mx_g := mx_mem (in_t5 (List.mem_of_getElem? (i := 124) (by decide +kernel))) (by decide +kernel)
theorem jvX5_plan : Cond.selects (yX5_plan).cls yX5_plan yX5_plan ∈ mx_g := mx_mem (in_t5 (List.mem_of_getElem? (i := 125) (by decide +kernel))) (by decide +kernel)
theorem jX6_init : mx_J mX6_init 0 := ⟨mx_mem (in_t2 (List.mem_of_getElem? (i := 32) (by decide +kernel))) (by decide +kernel), mx_mem (in_t1 (List.mem_of_getElem? (i := 9) (by decide +kernel))) (by decide +kernel), ⟨by decide, by decide, by decide +kernel⟩, by decide⟩
theorem jiX6_init : Cond.instanceMethod yX6_init ∈ mx_g := mx_mem (in_t2 (List.mem_of_getElem? (i := 31) (by decide +kernel))) (by decide +kernel)
theorem jX6_weigh : mx_J mX6_weigh 5 := ⟨mx_mem (in_t4 (List.mem_of_getElem? (i := 202) (by decide +kernel))) (by decide +kernel), mx_mem (in_t1 (List.mem_of_getElem? (i := 9) (by decide +kernel))) (by decide +kernel), ⟨by decide, by decide, by decide +kernel⟩, by decide⟩
theorem jiX6_weigh : Cond.instanceMethod yX6_weigh ∈ mx_g := mx_mem (in_t4 (List.mem_of_getElem? (i := 200) (by decide +kernel))) (by decide +kernel)
theorem jvX6_weigh : Cond.selects (yX6_weigh).cls yX6_weigh yX6_weigh ∈ mx_g := mx_mem (in_t4 (List.mem_of_getElem? (i := 201) (by decide +kernel))) (by decide +kernel)
theorem jX6_spread : mx_J mX6_spread 3 := ⟨mx_mem (in_t4 (List.mem_of_getElem? (i := 222) (by decide +kernel))) (by decide +kernel), mx_mem (in_t1 (List.mem_of_getElem? (i := 9) (by decide +kernel))) (by decide +kernel), ⟨by decide, by decide, by decide +kernel⟩, by decide⟩
theorem jiX6_spread : Cond.instanceMethod yX6_spread ∈ mx_g := mx_mem (in_t4 (List.mem_of_getElem? (i := 221) (by decide +kernel))) (by decide +kernel)
theorem jvX6_spread : Cond.selects (yX6_spread).cls yX6_spread yX6_spread ∈ mx_g := mx_mem (in_p3 (List.mem_of_getElem? (i := 0) (by decide +kernel))) (by decide +kernel)
theorem jX6_chance : mx_J mX6_chance 4 := ⟨mx_mem (in_t4 (List.mem_of_getElem? (i := 232) (by decide +kernel))) (by decide +kernel), mx_mem (in_t1 (List.mem_of_getElem? (i := 9) (by decide +kernel))) (by decide +kernel), ⟨by decide, by decide, by decide +kernel⟩, by decide⟩
theorem jiX6_chance : Cond.instanceMethod yX6_chance ∈ mx_g := mx_mem (in_t4 (List.mem_of_getElem? (i := 230) (by decide +kernel))) (by decide +kernel)
theorem jvX6_chance : Cond.selects (yX6_chance).cls yX6_chance yX6_chance ∈ mx_g := mx_mem (in_t4 (List.mem_of_getElem? (i := 231) (by decide +kernel))) (by decide +kernel)
theorem jX6_behind : mx_J mX6_behind 3 := ⟨mx_mem (in_t4 (List.mem_of_getElem? (i := 209) (by decide +kernel))) (by decide +kernel), mx_mem (in_t1 (List.mem_of_getElem? (i := 9) (by decide +kernel))) (by decide +kernel), ⟨by decide, by decide, by decide +kernel⟩, by decide⟩
theorem jsX6_behind : Cond.static yX6_behind ∈ mx_g := mx_mem (in_t4 (List.mem_of_getElem? (i := 208) (by decide +kernel))) (by decide +kernel)
theorem jX6_fewest : mx_J mX6_fewest 2 := ⟨mx_mem (in_t5 (List.mem_of_getElem? (i := 17) (by decide +kernel))) (by decide +kernel), mx_mem (in_t1 (List.mem_of_getElem? (i := 9) (by decide +kernel))) (by decide +kernel), ⟨by decide, by decide, by decide +kernel⟩, by decide⟩
theorem jiX6_fewest : Cond.instanceMethod yX6_fewest ∈ mx_g := mx_mem (in_t5 (List.mem_of_getElem? (i := 15) (by decide +kernel))) (by decide +kernel)
theorem jvX6_fewest : Cond.selects (yX6_fewest).cls yX6_fewest yX6_fewest ∈ mx_g := mx_mem (in_t5 (List.mem_of_getElem? (i := 16) (by decide +kernel))) (by decide +kernel)
theorem jX6_placesInto : mx_J mX6_placesInto 3 := ⟨mx_mem (in_t5 (List.mem_of_getElem? (i := 20) (by decide +kernel))) (by decide +kernel), mx_mem (in_t1 (List.mem_of_getElem? (i := 9) (by decide +kernel))) (by decide +kernel), ⟨by decide, by decide, by decide +kernel⟩, by decide⟩
theorem jsX6_placesInto : Cond.static yX6_placesInto ∈ mx_g := mx_mem (in_t5 (List.mem_of_getElem? (i := 19) (by decide +kernel))) (by decide +kernel)
theorem jX6_onward : mx_J mX6_onward 4 := ⟨mx_mem (in_t5 (List.mem_of_getElem? (i := 26) (by decide +kernel))) (by decide +kernel), mx_mem (in_t1 (List.mem_of_getElem? (i := 9) (by decide +kernel))) (by decide +kernel), ⟨by decide, by decide, by decide +kernel⟩, by decide⟩
theorem jsX6_onward : Cond.static yX6_onward ∈ mx_g := mx_mem (in_t5 (List.mem_of_getElem? (i := 25) (by decide +kernel))) (by decide +kernel)
theorem jX6_onwardFrom : mx_J mX6_onwardFrom 4 := ⟨mx_mem (in_t5 (List.mem_of_getElem? (i := 23) (by decide +kernel))) (by decide +kernel), mx_mem (in_t1 (List.mem_of_getElem? (i := 9) (by decide +kernel))) (by decide +kernel), ⟨by decide, by decide, by decide +kernel⟩, by decide⟩
theorem jsX6_onwardFrom : Cond.static yX6_onwardFrom ∈ mx_g := mx_mem (in_t5 (List.mem_of_getElem? (i := 22) (by decide +kernel))) (by decide +kernel)
theorem jX6_woven : mx_J mX6_woven 3 := ⟨mx_mem (in_t5 (List.mem_of_getElem? (i := 40) (by decide +kernel))) (by decide +kernel), mx_mem (in_t1 (List.mem_of_getElem? (i := 9) (by decide +kernel))) (by decide +kernel), ⟨by decide, by decide, by decide +kernel⟩, by decide⟩
theorem jiX6_woven : Cond.instanceMethod yX6_woven ∈ mx_g := mx_mem (in_t5 (List.mem_of_getElem? (i := 38) (by decide +kernel))) (by decide +kernel)
theorem jvX6_woven : Cond.selects (yX6_woven).cls yX6_woven yX6_woven ∈ mx_g := mx_mem (in_t5 (List.mem_of_getElem? (i := 39) (by decide +kernel))) (by decide +kernel)
theorem jX6_longestInBoth : mx_J mX6_longestInBoth 2 := ⟨mx_mem (in_t5 (List.mem_of_getElem? (i := 48) (by decide +kernel))) (by decide +kernel), mx_mem (in_t1 (List.mem_of_getElem? (i := 9) (by decide +kernel))) (by decide +kernel), ⟨by decide, by decide, by decide +kernel⟩, by decide⟩
theorem jiX6_longestInBoth : Cond.instanceMethod yX6_longestInBoth ∈ mx_g := mx_mem (in_t5 (List.mem_of_getElem? (i := 46) (by decide +kernel))) (by decide +kernel)
theorem jvX6_longestInBoth : Cond.selects (yX6_longestInBoth).cls yX6_longestInBoth yX6_longestInBoth ∈ mx_g := mx_mem (in_t5 (List.mem_of_getElem? (i := 47) (by decide +kernel))) (by decide +kernel)
theorem jX6_longBehind : mx_J mX6_longBehind 5 := ⟨mx_mem (in_t5 (List.mem_of_getElem? (i := 53) (by decide +kernel))) (by decide +kernel), mx_mem (in_t1 (List.mem_of_getElem? (i := 9) (by decide +kernel))) (by decide +kernel), ⟨by decide, by decide, by decide +kernel⟩, by decide⟩
theorem jiX6_longBehind : Cond.instanceMethod yX6_longBehind ∈ mx_g := mx_mem (in_t5 (List.mem_of_getElem? (i := 52) (by decide +kernel))) (by decide +kernel)
theorem jvX6_longBehind : Cond.selects (yX6_longBehind).cls yX6_longBehind yX6_longBehind ∈ mx_g := mx_mem (in_p3 (List.mem_of_getElem? (i := 1) (by decide +kernel))) (by decide +kernel)
theorem jX6_next : mx_J mX6_next 3 := ⟨mx_mem (in_t5 (List.mem_of_getElem? (i := 56) (by decide +kernel))) (by decide +kernel), mx_mem (in_t1 (List.mem_of_getElem? (i := 9) (by decide +kernel))) (by decide +kernel), ⟨by decide, by decide, by decide +kernel⟩, by decide⟩
theorem jsX6_next : Cond.static yX6_next ∈ mx_g := mx_mem (in_t5 (List.mem_of_getElem? (i := 55) (by decide +kernel))) (by decide +kernel)
theorem jX6_distance : mx_J mX6_distance 2 := ⟨mx_mem (in_t5 (List.mem_of_getElem? (i := 64) (by decide +kernel))) (by decide +kernel), mx_mem (in_t1 (List.mem_of_getElem? (i := 9) (by decide +kernel))) (by decide +kernel), ⟨by decide, by decide, by decide +kernel⟩, by decide⟩
theorem jiX6_distance : Cond.instanceMethod yX6_distance ∈ mx_g := mx_mem (in_t5 (List.mem_of_getElem? (i := 62) (by decide +kernel))) (by decide +kernel)
theorem jvX6_distance : Cond.selects (yX6_distance).cls yX6_distance yX6_distance ∈ mx_g := mx_mem (in_t5 (List.mem_of_getElem? (i := 63) (by decide +kernel))) (by decide +kernel)
theorem jX6_grown : mx_J mX6_grown 3 := ⟨mx_mem (in_t5 (List.mem_of_getElem? (i := 73) (by decide +kernel))) (by decide +kernel), mx_mem (in_t1 (List.mem_of_getElem? (i := 9) (by decide +kernel))) (by decide +kernel), ⟨by decide, by decide, by decide +kernel⟩, by decide⟩
theorem jiX6_grown : Cond.instanceMethod yX6_grown ∈ mx_g := mx_mem (in_t5 (List.mem_of_getElem? (i := 71) (by decide +kernel))) (by decide +kernel)
theorem jvX6_grown : Cond.selects (yX6_grown).cls yX6_grown yX6_grown ∈ mx_g := mx_mem (in_t5 (List.mem_of_getElem? (i := 72) (by decide +kernel))) (by decide +kernel)
theorem jX6_growOnce : mx_J mX6_growOnce 1 := ⟨mx_mem (in_t5 (List.mem_of_getElem? (i := 77) (by decide +kernel))) (by decide +kernel), mx_mem (in_t1 (List.mem_of_getElem? (i := 9) (by decide +kernel))) (by decide +kernel), ⟨by decide, by decide, by decide +kernel⟩, by decide⟩
theorem jiX6_growOnce : Cond.instanceMethod yX6_growOnce ∈ mx_g := mx_mem (in_t5 (List.mem_of_getElem? (i := 76) (by decide +kernel))) (by decide +kernel)
theorem jvX6_growOnce : Cond.selects (yX6_growOnce).cls yX6_growOnce yX6_growOnce ∈ mx_g := mx_mem (in_p3 (List.mem_of_getElem? (i := 2) (by decide +kernel))) (by decide +kernel)
theorem jX7_init : mx_J mX7_init 0 := ⟨mx_mem (in_t1 (List.mem_of_getElem? (i := 185) (by decide +kernel))) (by decide +kernel), mx_mem (in_t1 (List.mem_of_getElem? (i := 6) (by decide +kernel))) (by decide +kernel), ⟨by decide, by decide, by decide +kernel⟩, by decide⟩
theorem jiX7_init : Cond.instanceMethod yX7_init ∈ mx_g := mx_mem (in_t1 (List.mem_of_getElem? (i := 184) (by decide +kernel))) (by decide +kernel)
theorem jX7_append : mx_J mX7_append 1 := ⟨mx_mem (in_t2 (List.mem_of_getElem? (i := 156) (by decide +kernel))) (by decide +kernel), mx_mem (in_t1 (List.mem_of_getElem? (i := 6) (by decide +kernel))) (by decide +kernel), ⟨by decide, by decide, by decide +kernel⟩, by decide⟩
theorem jiX7_append : Cond.instanceMethod yX7_append ∈ mx_g := mx_mem (in_t2 (List.mem_of_getElem? (i := 154) (by decide +kernel))) (by decide +kernel)
theorem jvX7_append : Cond.selects (yX7_append).cls yX7_append yX7_append ∈ mx_g := mx_mem (in_t2 (List.mem_of_getElem? (i := 155) (by decide +kernel))) (by decide +kernel)
theorem jX7_rewind : mx_J mX7_rewind 0 := ⟨mx_mem (in_t2 (List.mem_of_getElem? (i := 176) (by decide +kernel))) (by decide +kernel), mx_mem (in_t1 (List.mem_of_getElem? (i := 6) (by decide +kernel))) (by decide +kernel), ⟨by decide, by decide, by decide +kernel⟩, by decide⟩
theorem jiX7_rewind : Cond.instanceMethod yX7_rewind ∈ mx_g := mx_mem (in_t2 (List.mem_of_getElem? (i := 174) (by decide +kernel))) (by decide +kernel)
theorem jvX7_rewind : Cond.selects (yX7_rewind).cls yX7_rewind yX7_rewind ∈ mx_g := mx_mem (in_t2 (List.mem_of_getElem? (i := 175) (by decide +kernel))) (by decide +kernel)
theorem jX7_advance : mx_J mX7_advance 0 := ⟨mx_mem (in_t2 (List.mem_of_getElem? (i := 180) (by decide +kernel))) (by decide +kernel), mx_mem (in_t1 (List.mem_of_getElem? (i := 6) (by decide +kernel))) (by decide +kernel), ⟨by decide, by decide, by decide +kernel⟩, by decide⟩
theorem jiX7_advance : Cond.instanceMethod yX7_advance ∈ mx_g := mx_mem (in_t2 (List.mem_of_getElem? (i := 178) (by decide +kernel))) (by decide +kernel)
theorem jvX7_advance : Cond.selects (yX7_advance).cls yX7_advance yX7_advance ∈ mx_g := mx_mem (in_t2 (List.mem_of_getElem? (i := 179) (by decide +kernel))) (by decide +kernel)
theorem jX7_scanWord : mx_J mX7_scanWord 0 := ⟨mx_mem (in_t2 (List.mem_of_getElem? (i := 191) (by decide +kernel))) (by decide +kernel), mx_mem (in_t1 (List.mem_of_getElem? (i := 6) (by decide +kernel))) (by decide +kernel), ⟨by decide, by decide, by decide +kernel⟩, by decide⟩
theorem jiX7_scanWord : Cond.instanceMethod yX7_scanWord ∈ mx_g := mx_mem (in_t2 (List.mem_of_getElem? (i := 190) (by decide +kernel))) (by decide +kernel)
theorem jvX7_scanWord : Cond.selects (yX7_scanWord).cls yX7_scanWord yX7_scanWord ∈ mx_g := mx_mem (in_p1 (List.mem_of_getElem? (i := 2) (by decide +kernel))) (by decide +kernel)
theorem jX7_scanNumber : mx_J mX7_scanNumber 0 := ⟨mx_mem (in_t3 (List.mem_of_getElem? (i := 7) (by decide +kernel))) (by decide +kernel), mx_mem (in_t1 (List.mem_of_getElem? (i := 6) (by decide +kernel))) (by decide +kernel), ⟨by decide, by decide, by decide +kernel⟩, by decide⟩
theorem jiX7_scanNumber : Cond.instanceMethod yX7_scanNumber ∈ mx_g := mx_mem (in_t3 (List.mem_of_getElem? (i := 6) (by decide +kernel))) (by decide +kernel)
theorem jvX7_scanNumber : Cond.selects (yX7_scanNumber).cls yX7_scanNumber yX7_scanNumber ∈ mx_g := mx_mem (in_p1 (List.mem_of_getElem? (i := 3) (by decide +kernel))) (by decide +kernel)
theorem jX7_scanSymbol : mx_J mX7_scanSymbol 1 := ⟨mx_mem (in_t3 (List.mem_of_getElem? (i := 14) (by decide +kernel))) (by decide +kernel), mx_mem (in_t1 (List.mem_of_getElem? (i := 6) (by decide +kernel))) (by decide +kernel), ⟨by decide, by decide, by decide +kernel⟩, by decide⟩
theorem jiX7_scanSymbol : Cond.instanceMethod yX7_scanSymbol ∈ mx_g := mx_mem (in_t3 (List.mem_of_getElem? (i := 13) (by decide +kernel))) (by decide +kernel)
theorem jvX7_scanSymbol : Cond.selects (yX7_scanSymbol).cls yX7_scanSymbol yX7_scanSymbol ∈ mx_g := mx_mem (in_p1 (List.mem_of_getElem? (i := 4) (by decide +kernel))) (by decide +kernel)
theorem jX7_byteAt : mx_J mX7_byteAt 1 := ⟨mx_mem (in_t2 (List.mem_of_getElem? (i := 184) (by decide +kernel))) (by decide +kernel), mx_mem (in_t1 (List.mem_of_getElem? (i := 6) (by decide +kernel))) (by decide +kernel), ⟨by decide, by decide, by decide +kernel⟩, by decide⟩
theorem jiX7_byteAt : Cond.instanceMethod yX7_byteAt ∈ mx_g := mx_mem (in_t2 (List.mem_of_getElem? (i := 183) (by decide +kernel))) (by decide +kernel)
theorem jvX7_byteAt : Cond.selects (yX7_byteAt).cls yX7_byteAt yX7_byteAt ∈ mx_g := mx_mem (in_p1 (List.mem_of_getElem? (i := 1) (by decide +kernel))) (by decide +kernel)
theorem jX7_isLetter : mx_J mX7_isLetter 1 := ⟨mx_mem (in_t2 (List.mem_of_getElem? (i := 187) (by decide +kernel))) (by decide +kernel), mx_mem (in_t1 (List.mem_of_getElem? (i := 6) (by decide +kernel))) (by decide +kernel), ⟨by decide, by decide, by decide +kernel⟩, by decide⟩
theorem jsX7_isLetter : Cond.static yX7_isLetter ∈ mx_g := mx_mem (in_t2 (List.mem_of_getElem? (i := 186) (by decide +kernel))) (by decide +kernel)
theorem jX7_isDigit : mx_J mX7_isDigit 1 := ⟨mx_mem (in_t3 (List.mem_of_getElem? (i := 3) (by decide +kernel))) (by decide +kernel), mx_mem (in_t1 (List.mem_of_getElem? (i := 6) (by decide +kernel))) (by decide +kernel), ⟨by decide, by decide, by decide +kernel⟩, by decide⟩
theorem jsX7_isDigit : Cond.static yX7_isDigit ∈ mx_g := mx_mem (in_t3 (List.mem_of_getElem? (i := 2) (by decide +kernel))) (by decide +kernel)
theorem jX8_init : mx_J mX8_init 6 := ⟨mx_mem (in_t3 (List.mem_of_getElem? (i := 169) (by decide +kernel))) (by decide +kernel), mx_mem (in_t1 (List.mem_of_getElem? (i := 19) (by decide +kernel))) (by decide +kernel), ⟨by decide, by decide, by decide +kernel⟩, by decide⟩
theorem jiX8_init : Cond.instanceMethod yX8_init ∈ mx_g := mx_mem (in_t3 (List.mem_of_getElem? (i := 168) (by decide +kernel))) (by decide +kernel)
theorem jX8_hasLaw : mx_J mX8_hasLaw 1 := ⟨mx_mem (in_t4 (List.mem_of_getElem? (i := 30) (by decide +kernel))) (by decide +kernel), mx_mem (in_t1 (List.mem_of_getElem? (i := 19) (by decide +kernel))) (by decide +kernel), ⟨by decide, by decide, by decide +kernel⟩, by decide⟩
theorem jiX8_hasLaw : Cond.instanceMethod yX8_hasLaw ∈ mx_g := mx_mem (in_t4 (List.mem_of_getElem? (i := 28) (by decide +kernel))) (by decide +kernel)
theorem jvX8_hasLaw : Cond.selects (yX8_hasLaw).cls yX8_hasLaw yX8_hasLaw ∈ mx_g := mx_mem (in_t4 (List.mem_of_getElem? (i := 29) (by decide +kernel))) (by decide +kernel)
theorem jX8_clausePart : mx_J mX8_clausePart 2 := ⟨mx_mem (in_t4 (List.mem_of_getElem? (i := 130) (by decide +kernel))) (by decide +kernel), mx_mem (in_t1 (List.mem_of_getElem? (i := 19) (by decide +kernel))) (by decide +kernel), ⟨by decide, by decide, by decide +kernel⟩, by decide⟩
theorem jiX8_clausePart : Cond.instanceMethod yX8_clausePart ∈ mx_g := mx_mem (in_t4 (List.mem_of_getElem? (i := 128) (by decide +kernel))) (by decide +kernel)
theorem jvX8_clausePart : Cond.selects (yX8_clausePart).cls yX8_clausePart yX8_clausePart ∈ mx_g := mx_mem (in_t4 (List.mem_of_getElem? (i := 129) (by decide +kernel))) (by decide +kernel)
theorem jX9_init : mx_J mX9_init 0 := ⟨mx_mem (in_t1 (List.mem_of_getElem? (i := 40) (by decide +kernel))) (by decide +kernel), mx_mem (in_t1 (List.mem_of_getElem? (i := 3) (by decide +kernel))) (by decide +kernel), ⟨by decide, by decide, by decide +kernel⟩, by decide⟩
theorem jiX9_init : Cond.instanceMethod yX9_init ∈ mx_g := mx_mem (in_t1 (List.mem_of_getElem? (i := 39) (by decide +kernel))) (by decide +kernel)
theorem jX9_has : mx_J mX9_has 1 := ⟨mx_mem (in_t3 (List.mem_of_getElem? (i := 215) (by decide +kernel))) (by decide +kernel), mx_mem (in_t1 (List.mem_of_getElem? (i := 3) (by decide +kernel))) (by decide +kernel), ⟨by decide, by decide, by decide +kernel⟩, by decide⟩
theorem jiX9_has : Cond.instanceMethod yX9_has ∈ mx_g := mx_mem (in_t3 (List.mem_of_getElem? (i := 213) (by decide +kernel))) (by decide +kernel)
theorem jvX9_has : Cond.selects (yX9_has).cls yX9_has yX9_has ∈ mx_g := mx_mem (in_t3 (List.mem_of_getElem? (i := 214) (by decide +kernel))) (by decide +kernel)
theorem jX9_install : mx_J mX9_install 2 := ⟨mx_mem (in_t2 (List.mem_of_getElem? (i := 136) (by decide +kernel))) (by decide +kernel), mx_mem (in_t1 (List.mem_of_getElem? (i := 3) (by decide +kernel))) (by decide +kernel), ⟨by decide, by decide, by decide +kernel⟩, by decide⟩
theorem jiX9_install : Cond.instanceMethod yX9_install ∈ mx_g := mx_mem (in_t2 (List.mem_of_getElem? (i := 134) (by decide +kernel))) (by decide +kernel)
theorem jvX9_install : Cond.selects (yX9_install).cls yX9_install yX9_install ∈ mx_g := mx_mem (in_t2 (List.mem_of_getElem? (i := 135) (by decide +kernel))) (by decide +kernel)
theorem jX9_setAsTold : mx_J mX9_setAsTold 1 := ⟨mx_mem (in_t2 (List.mem_of_getElem? (i := 141) (by decide +kernel))) (by decide +kernel), mx_mem (in_t1 (List.mem_of_getElem? (i := 3) (by decide +kernel))) (by decide +kernel), ⟨by decide, by decide, by decide +kernel⟩, by decide⟩
theorem jiX9_setAsTold : Cond.instanceMethod yX9_setAsTold ∈ mx_g := mx_mem (in_t2 (List.mem_of_getElem? (i := 140) (by decide +kernel))) (by decide +kernel)
theorem jvX9_setAsTold : Cond.selects (yX9_setAsTold).cls yX9_setAsTold yX9_setAsTold ∈ mx_g := mx_mem (in_p1 (List.mem_of_getElem? (i := 0) (by decide +kernel))) (by decide +kernel)
theorem jX9_canTurn : mx_J mX9_canTurn 1 := ⟨mx_mem (in_t3 (List.mem_of_getElem? (i := 211) (by decide +kernel))) (by decide +kernel), mx_mem (in_t1 (List.mem_of_getElem? (i := 3) (by decide +kernel))) (by decide +kernel), ⟨by decide, by decide, by decide +kernel⟩, by decide⟩
theorem jiX9_canTurn : Cond.instanceMethod yX9_canTurn ∈ mx_g := mx_mem (in_t3 (List.mem_of_getElem? (i := 209) (by decide +kernel))) (by decide +kernel)
theorem jvX9_canTurn : Cond.selects (yX9_canTurn).cls yX9_canTurn yX9_canTurn ∈ mx_g := mx_mem (in_t3 (List.mem_of_getElem? (i := 210) (by decide +kernel))) (by decide +kernel)
theorem jX9_turn : mx_J mX9_turn 2 := ⟨mx_mem (in_t3 (List.mem_of_getElem? (i := 232) (by decide +kernel))) (by decide +kernel), mx_mem (in_t1 (List.mem_of_getElem? (i := 3) (by decide +kernel))) (by decide +kernel), ⟨by decide, by decide, by decide +kernel⟩, by decide⟩
theorem jiX9_turn : Cond.instanceMethod yX9_turn ∈ mx_g := mx_mem (in_t3 (List.mem_of_getElem? (i := 230) (by decide +kernel))) (by decide +kernel)
theorem jvX9_turn : Cond.selects (yX9_turn).cls yX9_turn yX9_turn ∈ mx_g := mx_mem (in_t3 (List.mem_of_getElem? (i := 231) (by decide +kernel))) (by decide +kernel)
theorem jX9_hasRoll : mx_J mX9_hasRoll 1 := ⟨mx_mem (in_t4 (List.mem_of_getElem? (i := 5) (by decide +kernel))) (by decide +kernel), mx_mem (in_t1 (List.mem_of_getElem? (i := 3) (by decide +kernel))) (by decide +kernel), ⟨by decide, by decide, by decide +kernel⟩, by decide⟩
theorem jiX9_hasRoll : Cond.instanceMethod yX9_hasRoll ∈ mx_g := mx_mem (in_t4 (List.mem_of_getElem? (i := 3) (by decide +kernel))) (by decide +kernel)
theorem jvX9_hasRoll : Cond.selects (yX9_hasRoll).cls yX9_hasRoll yX9_hasRoll ∈ mx_g := mx_mem (in_t4 (List.mem_of_getElem? (i := 4) (by decide +kernel))) (by decide +kernel)
theorem jX9_rollDigit : mx_J mX9_rollDigit 2 := ⟨mx_mem (in_t4 (List.mem_of_getElem? (i := 114) (by decide +kernel))) (by decide +kernel), mx_mem (in_t1 (List.mem_of_getElem? (i := 3) (by decide +kernel))) (by decide +kernel), ⟨by decide, by decide, by decide +kernel⟩, by decide⟩
theorem jiX9_rollDigit : Cond.instanceMethod yX9_rollDigit ∈ mx_g := mx_mem (in_t4 (List.mem_of_getElem? (i := 112) (by decide +kernel))) (by decide +kernel)
theorem jvX9_rollDigit : Cond.selects (yX9_rollDigit).cls yX9_rollDigit yX9_rollDigit ∈ mx_g := mx_mem (in_t4 (List.mem_of_getElem? (i := 113) (by decide +kernel))) (by decide +kernel)
theorem jX9_printWord : mx_J mX9_printWord 2 := ⟨mx_mem (in_t4 (List.mem_of_getElem? (i := 93) (by decide +kernel))) (by decide +kernel), mx_mem (in_t1 (List.mem_of_getElem? (i := 3) (by decide +kernel))) (by decide +kernel), ⟨by decide, by decide, by decide +kernel⟩, by decide⟩
theorem jiX9_printWord : Cond.instanceMethod yX9_printWord ∈ mx_g := mx_mem (in_t4 (List.mem_of_getElem? (i := 91) (by decide +kernel))) (by decide +kernel)
theorem jvX9_printWord : Cond.selects (yX9_printWord).cls yX9_printWord yX9_printWord ∈ mx_g := mx_mem (in_t4 (List.mem_of_getElem? (i := 92) (by decide +kernel))) (by decide +kernel)
theorem jX9_printDigit : mx_J mX9_printDigit 2 := ⟨mx_mem (in_t4 (List.mem_of_getElem? (i := 97) (by decide +kernel))) (by decide +kernel), mx_mem (in_t1 (List.mem_of_getElem? (i := 3) (by decide +kernel))) (by decide +kernel), ⟨by decide, by decide, by decide +kernel⟩, by decide⟩
theorem jiX9_printDigit : Cond.instanceMethod yX9_printDigit ∈ mx_g := mx_mem (in_t4 (List.mem_of_getElem? (i := 96) (by decide +kernel))) (by decide +kernel)
theorem jvX9_printDigit : Cond.selects (yX9_printDigit).cls yX9_printDigit yX9_printDigit ∈ mx_g := mx_mem (in_p2 (List.mem_of_getElem? (i := 12) (by decide +kernel))) (by decide +kernel)
theorem jX9_rollNumber : mx_J mX9_rollNumber 1 := ⟨mx_mem (in_t4 (List.mem_of_getElem? (i := 109) (by decide +kernel))) (by decide +kernel), mx_mem (in_t1 (List.mem_of_getElem? (i := 3) (by decide +kernel))) (by decide +kernel), ⟨by decide, by decide, by decide +kernel⟩, by decide⟩
theorem jiX9_rollNumber : Cond.instanceMethod yX9_rollNumber ∈ mx_g := mx_mem (in_t4 (List.mem_of_getElem? (i := 108) (by decide +kernel))) (by decide +kernel)
theorem jvX9_rollNumber : Cond.selects (yX9_rollNumber).cls yX9_rollNumber yX9_rollNumber ∈ mx_g := mx_mem (in_p2 (List.mem_of_getElem? (i := 13) (by decide +kernel))) (by decide +kernel)
theorem jX9_renewX : mx_J mX9_renewX 0 := ⟨mx_mem (in_t4 (List.mem_of_getElem? (i := 88) (by decide +kernel))) (by decide +kernel), mx_mem (in_t1 (List.mem_of_getElem? (i := 3) (by decide +kernel))) (by decide +kernel), ⟨by decide, by decide, by decide +kernel⟩, by decide⟩
theorem jiX9_renewX : Cond.instanceMethod yX9_renewX ∈ mx_g := mx_mem (in_t4 (List.mem_of_getElem? (i := 86) (by decide +kernel))) (by decide +kernel)
theorem jvX9_renewX : Cond.selects (yX9_renewX).cls yX9_renewX yX9_renewX ∈ mx_g := mx_mem (in_t4 (List.mem_of_getElem? (i := 87) (by decide +kernel))) (by decide +kernel)
theorem jX9_draw : mx_J mX9_draw 0 := ⟨mx_mem (in_t4 (List.mem_of_getElem? (i := 84) (by decide +kernel))) (by decide +kernel), mx_mem (in_t1 (List.mem_of_getElem? (i := 3) (by decide +kernel))) (by decide +kernel), ⟨by decide, by decide, by decide +kernel⟩, by decide⟩
theorem jiX9_draw : Cond.instanceMethod yX9_draw ∈ mx_g := mx_mem (in_t4 (List.mem_of_getElem? (i := 82) (by decide +kernel))) (by decide +kernel)
theorem jvX9_draw : Cond.selects (yX9_draw).cls yX9_draw yX9_draw ∈ mx_g := mx_mem (in_t4 (List.mem_of_getElem? (i := 83) (by decide +kernel))) (by decide +kernel)
theorem jX9_believe : mx_J mX9_believe 1 := ⟨mx_mem (in_t4 (List.mem_of_getElem? (i := 105) (by decide +kernel))) (by decide +kernel), mx_mem (in_t1 (List.mem_of_getElem? (i := 3) (by decide +kernel))) (by decide +kernel), ⟨by decide, by decide, by decide +kernel⟩, by decide⟩
theorem jiX9_believe : Cond.instanceMethod yX9_believe ∈ mx_g := mx_mem (in_t4 (List.mem_of_getElem? (i := 103) (by decide +kernel))) (by decide +kernel)
theorem jvX9_believe : Cond.selects (yX9_believe).cls yX9_believe yX9_believe ∈ mx_g := mx_mem (in_t4 (List.mem_of_getElem? (i := 104) (by decide +kernel))) (by decide +kernel)
theorem jX9_bookedOf : mx_J mX9_bookedOf 1 := ⟨mx_mem (in_t5 (List.mem_of_getElem? (i := 173) (by decide +kernel))) (by decide +kernel), mx_mem (in_t1 (List.mem_of_getElem? (i := 3) (by decide +kernel))) (by decide +kernel), ⟨by decide, by decide, by decide +kernel⟩, by decide⟩
theorem jiX9_bookedOf : Cond.instanceMethod yX9_bookedOf ∈ mx_g := mx_mem (in_t5 (List.mem_of_getElem? (i := 171) (by decide +kernel))) (by decide +kernel)
theorem jvX9_bookedOf : Cond.selects (yX9_bookedOf).cls yX9_bookedOf yX9_bookedOf ∈ mx_g := mx_mem (in_t5 (List.mem_of_getElem? (i := 172) (by decide +kernel))) (by decide +kernel)
theorem jX9_sumOf : mx_J mX9_sumOf 1 := ⟨mx_mem (in_t5 (List.mem_of_getElem? (i := 146) (by decide +kernel))) (by decide +kernel), mx_mem (in_t1 (List.mem_of_getElem? (i := 3) (by decide +kernel))) (by decide +kernel), ⟨by decide, by decide, by decide +kernel⟩, by decide⟩
theorem jiX9_sumOf : Cond.instanceMethod yX9_sumOf ∈ mx_g := mx_mem (in_t5 (List.mem_of_getElem? (i := 144) (by decide +kernel))) (by decide +kernel)
theorem jvX9_sumOf : Cond.selects (yX9_sumOf).cls yX9_sumOf yX9_sumOf ∈ mx_g := mx_mem (in_t5 (List.mem_of_getElem? (i := 145) (by decide +kernel))) (by decide +kernel)
theorem jX9_copyFrom : mx_J mX9_copyFrom 1 := ⟨mx_mem (in_t3 (List.mem_of_getElem? (i := 223) (by decide +kernel))) (by decide +kernel), mx_mem (in_t1 (List.mem_of_getElem? (i := 3) (by decide +kernel))) (by decide +kernel), ⟨by decide, by decide, by decide +kernel⟩, by decide⟩
theorem jiX9_copyFrom : Cond.instanceMethod yX9_copyFrom ∈ mx_g := mx_mem (in_t3 (List.mem_of_getElem? (i := 221) (by decide +kernel))) (by decide +kernel)
theorem jvX9_copyFrom : Cond.selects (yX9_copyFrom).cls yX9_copyFrom yX9_copyFrom ∈ mx_g := mx_mem (in_t3 (List.mem_of_getElem? (i := 222) (by decide +kernel))) (by decide +kernel)
theorem jX9_goBackTo : mx_J mX9_goBackTo 1 := ⟨mx_mem (in_t4 (List.mem_of_getElem? (i := 156) (by decide +kernel))) (by decide +kernel), mx_mem (in_t1 (List.mem_of_getElem? (i := 3) (by decide +kernel))) (by decide +kernel), ⟨by decide, by decide, by decide +kernel⟩, by decide⟩
theorem jiX9_goBackTo : Cond.instanceMethod yX9_goBackTo ∈ mx_g := mx_mem (in_t4 (List.mem_of_getElem? (i := 154) (by decide +kernel))) (by decide +kernel)
theorem jvX9_goBackTo : Cond.selects (yX9_goBackTo).cls yX9_goBackTo yX9_goBackTo ∈ mx_g := mx_mem (in_t4 (List.mem_of_getElem? (i := 155) (by decide +kernel))) (by decide +kernel)
theorem jX9_copyChanging : mx_J mX9_copyChanging 1 := ⟨mx_mem (in_t3 (List.mem_of_getElem? (i := 228) (by decide +kernel))) (by decide +kernel), mx_mem (in_t1 (List.mem_of_getElem? (i := 3) (by decide +kernel))) (by decide +kernel), ⟨by decide, by decide, by decide +kernel⟩, by decide⟩
theorem jiX9_copyChanging : Cond.instanceMethod yX9_copyChanging ∈ mx_g := mx_mem (in_t3 (List.mem_of_getElem? (i := 227) (by decide +kernel))) (by decide +kernel)
theorem jvX9_copyChanging : Cond.selects (yX9_copyChanging).cls yX9_copyChanging yX9_copyChanging ∈ mx_g := mx_mem (in_p2 (List.mem_of_getElem? (i := 7) (by decide +kernel))) (by decide +kernel)
theorem jX10_init : mx_J mX10_init 0 := ⟨mx_mem (in_t1 (List.mem_of_getElem? (i := 26) (by decide +kernel))) (by decide +kernel), mx_mem (in_t1 (List.mem_of_getElem? (i := 1) (by decide +kernel))) (by decide +kernel), ⟨by decide, by decide, by decide +kernel⟩, by decide⟩
theorem jiX10_init : Cond.instanceMethod yX10_init ∈ mx_g := mx_mem (in_t1 (List.mem_of_getElem? (i := 25) (by decide +kernel))) (by decide +kernel)
theorem jX10_machine : mx_J mX10_machine 2 := ⟨mx_mem (in_t2 (List.mem_of_getElem? (i := 129) (by decide +kernel))) (by decide +kernel), mx_mem (in_t1 (List.mem_of_getElem? (i := 1) (by decide +kernel))) (by decide +kernel), ⟨by decide, by decide, by decide +kernel⟩, by decide⟩
theorem jiX10_machine : Cond.instanceMethod yX10_machine ∈ mx_g := mx_mem (in_t2 (List.mem_of_getElem? (i := 127) (by decide +kernel))) (by decide +kernel)
theorem jvX10_machine : Cond.selects (yX10_machine).cls yX10_machine yX10_machine ∈ mx_g := mx_mem (in_t2 (List.mem_of_getElem? (i := 128) (by decide +kernel))) (by decide +kernel)
theorem jX10_rule : mx_J mX10_rule 3 := ⟨mx_mem (in_t2 (List.mem_of_getElem? (i := 145) (by decide +kernel))) (by decide +kernel), mx_mem (in_t1 (List.mem_of_getElem? (i := 1) (by decide +kernel))) (by decide +kernel), ⟨by decide, by decide, by decide +kernel⟩, by decide⟩
theorem jiX10_rule : Cond.instanceMethod yX10_rule ∈ mx_g := mx_mem (in_t2 (List.mem_of_getElem? (i := 143) (by decide +kernel))) (by decide +kernel)
theorem jvX10_rule : Cond.selects (yX10_rule).cls yX10_rule yX10_rule ∈ mx_g := mx_mem (in_t2 (List.mem_of_getElem? (i := 144) (by decide +kernel))) (by decide +kernel)
theorem jX10_feed : mx_J mX10_feed 5 := ⟨mx_mem (in_t2 (List.mem_of_getElem? (i := 152) (by decide +kernel))) (by decide +kernel), mx_mem (in_t1 (List.mem_of_getElem? (i := 1) (by decide +kernel))) (by decide +kernel), ⟨by decide, by decide, by decide +kernel⟩, by decide⟩
theorem jiX10_feed : Cond.instanceMethod yX10_feed ∈ mx_g := mx_mem (in_t2 (List.mem_of_getElem? (i := 150) (by decide +kernel))) (by decide +kernel)
theorem jvX10_feed : Cond.selects (yX10_feed).cls yX10_feed yX10_feed ∈ mx_g := mx_mem (in_t2 (List.mem_of_getElem? (i := 151) (by decide +kernel))) (by decide +kernel)
theorem jX10_end : mx_J mX10_end 1 := ⟨mx_mem (in_t2 (List.mem_of_getElem? (i := 161) (by decide +kernel))) (by decide +kernel), mx_mem (in_t1 (List.mem_of_getElem? (i := 1) (by decide +kernel))) (by decide +kernel), ⟨by decide, by decide, by decide +kernel⟩, by decide⟩
theorem jiX10_end : Cond.instanceMethod yX10_end ∈ mx_g := mx_mem (in_t2 (List.mem_of_getElem? (i := 159) (by decide +kernel))) (by decide +kernel)
theorem jvX10_end : Cond.selects (yX10_end).cls yX10_end yX10_end ∈ mx_g := mx_mem (in_t2 (List.mem_of_getElem? (i := 160) (by decide +kernel))) (by decide +kernel)
theorem jX10_text : mx_J mX10_text 0 := ⟨mx_mem (in_t2 (List.mem_of_getElem? (i := 165) (by decide +kernel))) (by decide +kernel), mx_mem (in_t1 (List.mem_of_getElem? (i := 1) (by decide +kernel))) (by decide +kernel), ⟨by decide, by decide, by decide +kernel⟩, by decide⟩
theorem jiX10_text : Cond.instanceMethod yX10_text ∈ mx_g := mx_mem (in_t2 (List.mem_of_getElem? (i := 163) (by decide +kernel))) (by decide +kernel)
theorem jvX10_text : Cond.selects (yX10_text).cls yX10_text yX10_text ∈ mx_g := mx_mem (in_t2 (List.mem_of_getElem? (i := 164) (by decide +kernel))) (by decide +kernel)
theorem jX10_fault : mx_J mX10_fault 1 := ⟨mx_mem (in_t3 (List.mem_of_getElem? (i := 199) (by decide +kernel))) (by decide +kernel), mx_mem (in_t1 (List.mem_of_getElem? (i := 1) (by decide +kernel))) (by decide +kernel), ⟨by decide, by decide, by decide +kernel⟩, by decide⟩
theorem jiX10_fault : Cond.instanceMethod yX10_fault ∈ mx_g := mx_mem (in_t3 (List.mem_of_getElem? (i := 197) (by decide +kernel))) (by decide +kernel)
theorem jvX10_fault : Cond.selects (yX10_fault).cls yX10_fault yX10_fault ∈ mx_g := mx_mem (in_t3 (List.mem_of_getElem? (i := 198) (by decide +kernel))) (by decide +kernel)
theorem jX10_by : mx_J mX10_by 1 := ⟨mx_mem (in_t3 (List.mem_of_getElem? (i := 203) (by decide +kernel))) (by decide +kernel), mx_mem (in_t1 (List.mem_of_getElem? (i := 1) (by decide +kernel))) (by decide +kernel), ⟨by decide, by decide, by decide +kernel⟩, by decide⟩
theorem jiX10_by : Cond.instanceMethod yX10_by ∈ mx_g := mx_mem (in_t3 (List.mem_of_getElem? (i := 201) (by decide +kernel))) (by decide +kernel)
theorem jvX10_by : Cond.selects (yX10_by).cls yX10_by yX10_by ∈ mx_g := mx_mem (in_t3 (List.mem_of_getElem? (i := 202) (by decide +kernel))) (by decide +kernel)
theorem jX10_crank : mx_J mX10_crank 2 := ⟨mx_mem (in_t3 (List.mem_of_getElem? (i := 207) (by decide +kernel))) (by decide +kernel), mx_mem (in_t1 (List.mem_of_getElem? (i := 1) (by decide +kernel))) (by decide +kernel), ⟨by decide, by decide, by decide +kernel⟩, by decide⟩
theorem jiX10_crank : Cond.instanceMethod yX10_crank ∈ mx_g := mx_mem (in_t3 (List.mem_of_getElem? (i := 205) (by decide +kernel))) (by decide +kernel)
theorem jvX10_crank : Cond.selects (yX10_crank).cls yX10_crank yX10_crank ∈ mx_g := mx_mem (in_t3 (List.mem_of_getElem? (i := 206) (by decide +kernel))) (by decide +kernel)
theorem jX10_oil : mx_J mX10_oil 2 := ⟨mx_mem (in_t3 (List.mem_of_getElem? (i := 236) (by decide +kernel))) (by decide +kernel), mx_mem (in_t1 (List.mem_of_getElem? (i := 1) (by decide +kernel))) (by decide +kernel), ⟨by decide, by decide, by decide +kernel⟩, by decide⟩
theorem jiX10_oil : Cond.instanceMethod yX10_oil ∈ mx_g := mx_mem (in_t3 (List.mem_of_getElem? (i := 234) (by decide +kernel))) (by decide +kernel)
theorem jvX10_oil : Cond.selects (yX10_oil).cls yX10_oil yX10_oil ∈ mx_g := mx_mem (in_t3 (List.mem_of_getElem? (i := 235) (by decide +kernel))) (by decide +kernel)
theorem jX10_lift : mx_J mX10_lift 1 := ⟨mx_mem (in_t4 (List.mem_of_getElem? (i := 1) (by decide +kernel))) (by decide +kernel), mx_mem (in_t1 (List.mem_of_getElem? (i := 1) (by decide +kernel))) (by decide +kernel), ⟨by decide, by decide, by decide +kernel⟩, by decide⟩
theorem jiX10_lift : Cond.instanceMethod yX10_lift ∈ mx_g := mx_mem (in_t3 (List.mem_of_getElem? (i := 239) (by decide +kernel))) (by decide +kernel)
theorem jvX10_lift : Cond.selects (yX10_lift).cls yX10_lift yX10_lift ∈ mx_g := mx_mem (in_t4 (List.mem_of_getElem? (i := 0) (by decide +kernel))) (by decide +kernel)
theorem jX10_night : mx_J mX10_night 1 := ⟨mx_mem (in_t4 (List.mem_of_getElem? (i := 9) (by decide +kernel))) (by decide +kernel), mx_mem (in_t1 (List.mem_of_getElem? (i := 1) (by decide +kernel))) (by decide +kernel), ⟨by decide, by decide, by decide +kernel⟩, by decide⟩
theorem jiX10_night : Cond.instanceMethod yX10_night ∈ mx_g := mx_mem (in_t4 (List.mem_of_getElem? (i := 7) (by decide +kernel))) (by decide +kernel)
theorem jvX10_night : Cond.selects (yX10_night).cls yX10_night yX10_night ∈ mx_g := mx_mem (in_t4 (List.mem_of_getElem? (i := 8) (by decide +kernel))) (by decide +kernel)
theorem jX10_played : mx_J mX10_played 1 := ⟨mx_mem (in_t4 (List.mem_of_getElem? (i := 122) (by decide +kernel))) (by decide +kernel), mx_mem (in_t1 (List.mem_of_getElem? (i := 1) (by decide +kernel))) (by decide +kernel), ⟨by decide, by decide, by decide +kernel⟩, by decide⟩
theorem jiX10_played : Cond.instanceMethod yX10_played ∈ mx_g := mx_mem (in_t4 (List.mem_of_getElem? (i := 120) (by decide +kernel))) (by decide +kernel)
theorem jvX10_played : Cond.selects (yX10_played).cls yX10_played yX10_played ∈ mx_g := mx_mem (in_t4 (List.mem_of_getElem? (i := 121) (by decide +kernel))) (by decide +kernel)
theorem jX10_decades : mx_J mX10_decades 2 := ⟨mx_mem (in_t4 (List.mem_of_getElem? (i := 139) (by decide +kernel))) (by decide +kernel), mx_mem (in_t1 (List.mem_of_getElem? (i := 1) (by decide +kernel))) (by decide +kernel), ⟨by decide, by decide, by decide +kernel⟩, by decide⟩
theorem jiX10_decades : Cond.instanceMethod yX10_decades ∈ mx_g := mx_mem (in_t4 (List.mem_of_getElem? (i := 137) (by decide +kernel))) (by decide +kernel)
theorem jvX10_decades : Cond.selects (yX10_decades).cls yX10_decades yX10_decades ∈ mx_g := mx_mem (in_t4 (List.mem_of_getElem? (i := 138) (by decide +kernel))) (by decide +kernel)
theorem jX10_undo : mx_J mX10_undo 0 := ⟨mx_mem (in_t4 (List.mem_of_getElem? (i := 148) (by decide +kernel))) (by decide +kernel), mx_mem (in_t1 (List.mem_of_getElem? (i := 1) (by decide +kernel))) (by decide +kernel), ⟨by decide, by decide, by decide +kernel⟩, by decide⟩
theorem jiX10_undo : Cond.instanceMethod yX10_undo ∈ mx_g := mx_mem (in_t4 (List.mem_of_getElem? (i := 146) (by decide +kernel))) (by decide +kernel)
theorem jvX10_undo : Cond.selects (yX10_undo).cls yX10_undo yX10_undo ∈ mx_g := mx_mem (in_t4 (List.mem_of_getElem? (i := 147) (by decide +kernel))) (by decide +kernel)
theorem jX10_of : mx_J mX10_of 2 := ⟨mx_mem (in_t4 (List.mem_of_getElem? (i := 160) (by decide +kernel))) (by decide +kernel), mx_mem (in_t1 (List.mem_of_getElem? (i := 1) (by decide +kernel))) (by decide +kernel), ⟨by decide, by decide, by decide +kernel⟩, by decide⟩
theorem jiX10_of : Cond.instanceMethod yX10_of ∈ mx_g := mx_mem (in_t4 (List.mem_of_getElem? (i := 158) (by decide +kernel))) (by decide +kernel)
theorem jvX10_of : Cond.selects (yX10_of).cls yX10_of yX10_of ∈ mx_g := mx_mem (in_t4 (List.mem_of_getElem? (i := 159) (by decide +kernel))) (by decide +kernel)
theorem jX10_told : mx_J mX10_told 2 := ⟨mx_mem (in_t4 (List.mem_of_getElem? (i := 168) (by decide +kernel))) (by decide +kernel), mx_mem (in_t1 (List.mem_of_getElem? (i := 1) (by decide +kernel))) (by decide +kernel), ⟨by decide, by decide, by decide +kernel⟩, by decide⟩
theorem jiX10_told : Cond.instanceMethod yX10_told ∈ mx_g := mx_mem (in_t4 (List.mem_of_getElem? (i := 166) (by decide +kernel))) (by decide +kernel)
theorem jvX10_told : Cond.selects (yX10_told).cls yX10_told yX10_told ∈ mx_g := mx_mem (in_t4 (List.mem_of_getElem? (i := 167) (by decide +kernel))) (by decide +kernel)
theorem jX10_is : mx_J mX10_is 1 := ⟨mx_mem (in_t4 (List.mem_of_getElem? (i := 172) (by decide +kernel))) (by decide +kernel), mx_mem (in_t1 (List.mem_of_getElem? (i := 1) (by decide +kernel))) (by decide +kernel), ⟨by decide, by decide, by decide +kernel⟩, by decide⟩
theorem jiX10_is : Cond.instanceMethod yX10_is ∈ mx_g := mx_mem (in_t4 (List.mem_of_getElem? (i := 170) (by decide +kernel))) (by decide +kernel)
theorem jvX10_is : Cond.selects (yX10_is).cls yX10_is yX10_is ∈ mx_g := mx_mem (in_t4 (List.mem_of_getElem? (i := 171) (by decide +kernel))) (by decide +kernel)
theorem jX10_book : mx_J mX10_book 2 := ⟨mx_mem (in_t4 (List.mem_of_getElem? (i := 176) (by decide +kernel))) (by decide +kernel), mx_mem (in_t1 (List.mem_of_getElem? (i := 1) (by decide +kernel))) (by decide +kernel), ⟨by decide, by decide, by decide +kernel⟩, by decide⟩
theorem jiX10_book : Cond.instanceMethod yX10_book ∈ mx_g := mx_mem (in_t4 (List.mem_of_getElem? (i := 174) (by decide +kernel))) (by decide +kernel)
theorem jvX10_book : Cond.selects (yX10_book).cls yX10_book yX10_book ∈ mx_g := mx_mem (in_t4 (List.mem_of_getElem? (i := 175) (by decide +kernel))) (by decide +kernel)
theorem jX10_foretold : mx_J mX10_foretold 3 := ⟨mx_mem (in_t4 (List.mem_of_getElem? (i := 180) (by decide +kernel))) (by decide +kernel), mx_mem (in_t1 (List.mem_of_getElem? (i := 1) (by decide +kernel))) (by decide +kernel), ⟨by decide, by decide, by decide +kernel⟩, by decide⟩
theorem jiX10_foretold : Cond.instanceMethod yX10_foretold ∈ mx_g := mx_mem (in_t4 (List.mem_of_getElem? (i := 178) (by decide +kernel))) (by decide +kernel)
theorem jvX10_foretold : Cond.selects (yX10_foretold).cls yX10_foretold yX10_foretold ∈ mx_g := mx_mem (in_t4 (List.mem_of_getElem? (i := 179) (by decide +kernel))) (by decide +kernel)
theorem jX10_put : mx_J mX10_put 1 := ⟨mx_mem (in_t4 (List.mem_of_getElem? (i := 185) (by decide +kernel))) (by decide +kernel), mx_mem (in_t1 (List.mem_of_getElem? (i := 1) (by decide +kernel))) (by decide +kernel), ⟨by decide, by decide, by decide +kernel⟩, by decide⟩
theorem jiX10_put : Cond.instanceMethod yX10_put ∈ mx_g := mx_mem (in_t4 (List.mem_of_getElem? (i := 183) (by decide +kernel))) (by decide +kernel)
theorem jvX10_put : Cond.selects (yX10_put).cls yX10_put yX10_put ∈ mx_g := mx_mem (in_t4 (List.mem_of_getElem? (i := 184) (by decide +kernel))) (by decide +kernel)
theorem jX10_may : mx_J mX10_may 1 := ⟨mx_mem (in_t4 (List.mem_of_getElem? (i := 197) (by decide +kernel))) (by decide +kernel), mx_mem (in_t1 (List.mem_of_getElem? (i := 1) (by decide +kernel))) (by decide +kernel), ⟨by decide, by decide, by decide +kernel⟩, by decide⟩
theorem jiX10_may : Cond.instanceMethod yX10_may ∈ mx_g := mx_mem (in_t4 (List.mem_of_getElem? (i := 195) (by decide +kernel))) (by decide +kernel)
theorem jvX10_may : Cond.selects (yX10_may).cls yX10_may yX10_may ∈ mx_g := mx_mem (in_t4 (List.mem_of_getElem? (i := 196) (by decide +kernel))) (by decide +kernel)
theorem jX10_odds : mx_J mX10_odds 3 := ⟨mx_mem (in_t4 (List.mem_of_getElem? (i := 228) (by decide +kernel))) (by decide +kernel), mx_mem (in_t1 (List.mem_of_getElem? (i := 1) (by decide +kernel))) (by decide +kernel), ⟨by decide, by decide, by decide +kernel⟩, by decide⟩
theorem jiX10_odds : Cond.instanceMethod yX10_odds ∈ mx_g := mx_mem (in_t4 (List.mem_of_getElem? (i := 226) (by decide +kernel))) (by decide +kernel)
theorem jvX10_odds : Cond.selects (yX10_odds).cls yX10_odds yX10_odds ∈ mx_g := mx_mem (in_t4 (List.mem_of_getElem? (i := 227) (by decide +kernel))) (by decide +kernel)
theorem jX10_day : mx_J mX10_day 1 := ⟨mx_mem (in_t5 (List.mem_of_getElem? (i := 0) (by decide +kernel))) (by decide +kernel), mx_mem (in_t1 (List.mem_of_getElem? (i := 1) (by decide +kernel))) (by decide +kernel), ⟨by decide, by decide, by decide +kernel⟩, by decide⟩
theorem jiX10_day : Cond.instanceMethod yX10_day ∈ mx_g := mx_mem (in_t4 (List.mem_of_getElem? (i := 238) (by decide +kernel))) (by decide +kernel)
theorem jvX10_day : Cond.selects (yX10_day).cls yX10_day yX10_day ∈ mx_g := mx_mem (in_t4 (List.mem_of_getElem? (i := 239) (by decide +kernel))) (by decide +kernel)
theorem jX10_fits : mx_J mX10_fits 0 := ⟨mx_mem (in_t5 (List.mem_of_getElem? (i := 4) (by decide +kernel))) (by decide +kernel), mx_mem (in_t1 (List.mem_of_getElem? (i := 1) (by decide +kernel))) (by decide +kernel), ⟨by decide, by decide, by decide +kernel⟩, by decide⟩
theorem jiX10_fits : Cond.instanceMethod yX10_fits ∈ mx_g := mx_mem (in_t5 (List.mem_of_getElem? (i := 2) (by decide +kernel))) (by decide +kernel)
theorem jvX10_fits : Cond.selects (yX10_fits).cls yX10_fits yX10_fits ∈ mx_g := mx_mem (in_t5 (List.mem_of_getElem? (i := 3) (by decide +kernel))) (by decide +kernel)
theorem jX10_likeliest : mx_J mX10_likeliest 1 := ⟨mx_mem (in_t5 (List.mem_of_getElem? (i := 9) (by decide +kernel))) (by decide +kernel), mx_mem (in_t1 (List.mem_of_getElem? (i := 1) (by decide +kernel))) (by decide +kernel), ⟨by decide, by decide, by decide +kernel⟩, by decide⟩
theorem jiX10_likeliest : Cond.instanceMethod yX10_likeliest ∈ mx_g := mx_mem (in_t5 (List.mem_of_getElem? (i := 7) (by decide +kernel))) (by decide +kernel)
theorem jvX10_likeliest : Cond.selects (yX10_likeliest).cls yX10_likeliest yX10_likeliest ∈ mx_g := mx_mem (in_t5 (List.mem_of_getElem? (i := 8) (by decide +kernel))) (by decide +kernel)
theorem jX10_add : mx_J mX10_add 1 := ⟨mx_mem (in_t5 (List.mem_of_getElem? (i := 13) (by decide +kernel))) (by decide +kernel), mx_mem (in_t1 (List.mem_of_getElem? (i := 1) (by decide +kernel))) (by decide +kernel), ⟨by decide, by decide, by decide +kernel⟩, by decide⟩
theorem jiX10_add : Cond.instanceMethod yX10_add ∈ mx_g := mx_mem (in_t5 (List.mem_of_getElem? (i := 11) (by decide +kernel))) (by decide +kernel)
theorem jvX10_add : Cond.selects (yX10_add).cls yX10_add yX10_add ∈ mx_g := mx_mem (in_t5 (List.mem_of_getElem? (i := 12) (by decide +kernel))) (by decide +kernel)
theorem jX10_second : mx_J mX10_second 1 := ⟨mx_mem (in_t5 (List.mem_of_getElem? (i := 32) (by decide +kernel))) (by decide +kernel), mx_mem (in_t1 (List.mem_of_getElem? (i := 1) (by decide +kernel))) (by decide +kernel), ⟨by decide, by decide, by decide +kernel⟩, by decide⟩
theorem jiX10_second : Cond.instanceMethod yX10_second ∈ mx_g := mx_mem (in_t5 (List.mem_of_getElem? (i := 30) (by decide +kernel))) (by decide +kernel)
theorem jvX10_second : Cond.selects (yX10_second).cls yX10_second yX10_second ∈ mx_g := mx_mem (in_t5 (List.mem_of_getElem? (i := 31) (by decide +kernel))) (by decide +kernel)
theorem jX10_duet : mx_J mX10_duet 2 := ⟨mx_mem (in_t5 (List.mem_of_getElem? (i := 36) (by decide +kernel))) (by decide +kernel), mx_mem (in_t1 (List.mem_of_getElem? (i := 1) (by decide +kernel))) (by decide +kernel), ⟨by decide, by decide, by decide +kernel⟩, by decide⟩
theorem jiX10_duet : Cond.instanceMethod yX10_duet ∈ mx_g := mx_mem (in_t5 (List.mem_of_getElem? (i := 34) (by decide +kernel))) (by decide +kernel)
theorem jvX10_duet : Cond.selects (yX10_duet).cls yX10_duet yX10_duet ∈ mx_g := mx_mem (in_t5 (List.mem_of_getElem? (i := 35) (by decide +kernel))) (by decide +kernel)
theorem jX10_common : mx_J mX10_common 1 := ⟨mx_mem (in_t5 (List.mem_of_getElem? (i := 44) (by decide +kernel))) (by decide +kernel), mx_mem (in_t1 (List.mem_of_getElem? (i := 1) (by decide +kernel))) (by decide +kernel), ⟨by decide, by decide, by decide +kernel⟩, by decide⟩
theorem jiX10_common : Cond.instanceMethod yX10_common ∈ mx_g := mx_mem (in_t5 (List.mem_of_getElem? (i := 42) (by decide +kernel))) (by decide +kernel)
theorem jvX10_common : Cond.selects (yX10_common).cls yX10_common yX10_common ∈ mx_g := mx_mem (in_t5 (List.mem_of_getElem? (i := 43) (by decide +kernel))) (by decide +kernel)
theorem jX10_apart : mx_J mX10_apart 0 := ⟨mx_mem (in_t5 (List.mem_of_getElem? (i := 60) (by decide +kernel))) (by decide +kernel), mx_mem (in_t1 (List.mem_of_getElem? (i := 1) (by decide +kernel))) (by decide +kernel), ⟨by decide, by decide, by decide +kernel⟩, by decide⟩
theorem jiX10_apart : Cond.instanceMethod yX10_apart ∈ mx_g := mx_mem (in_t5 (List.mem_of_getElem? (i := 58) (by decide +kernel))) (by decide +kernel)
theorem jvX10_apart : Cond.selects (yX10_apart).cls yX10_apart yX10_apart ∈ mx_g := mx_mem (in_t5 (List.mem_of_getElem? (i := 59) (by decide +kernel))) (by decide +kernel)
theorem jX10_grows : mx_J mX10_grows 2 := ⟨mx_mem (in_t5 (List.mem_of_getElem? (i := 69) (by decide +kernel))) (by decide +kernel), mx_mem (in_t1 (List.mem_of_getElem? (i := 1) (by decide +kernel))) (by decide +kernel), ⟨by decide, by decide, by decide +kernel⟩, by decide⟩
theorem jiX10_grows : Cond.instanceMethod yX10_grows ∈ mx_g := mx_mem (in_t5 (List.mem_of_getElem? (i := 67) (by decide +kernel))) (by decide +kernel)
theorem jvX10_grows : Cond.selects (yX10_grows).cls yX10_grows yX10_grows ∈ mx_g := mx_mem (in_t5 (List.mem_of_getElem? (i := 68) (by decide +kernel))) (by decide +kernel)
theorem jX10_stays : mx_J mX10_stays 1 := ⟨mx_mem (in_t5 (List.mem_of_getElem? (i := 81) (by decide +kernel))) (by decide +kernel), mx_mem (in_t1 (List.mem_of_getElem? (i := 1) (by decide +kernel))) (by decide +kernel), ⟨by decide, by decide, by decide +kernel⟩, by decide⟩
theorem jiX10_stays : Cond.instanceMethod yX10_stays ∈ mx_g := mx_mem (in_t5 (List.mem_of_getElem? (i := 79) (by decide +kernel))) (by decide +kernel)
theorem jvX10_stays : Cond.selects (yX10_stays).cls yX10_stays yX10_stays ∈ mx_g := mx_mem (in_t5 (List.mem_of_getElem? (i := 80) (by decide +kernel))) (by decide +kernel)
theorem jX10_likes : mx_J mX10_likes 4 := ⟨mx_mem (in_t5 (List.mem_of_getElem? (i := 89) (by decide +kernel))) (by decide +kernel), mx_mem (in_t1 (List.mem_of_getElem? (i := 1) (by decide +kernel))) (by decide +kernel), ⟨by decide, by decide, by decide +kernel⟩, by decide⟩
theorem jiX10_likes : Cond.instanceMethod yX10_likes ∈ mx_g := mx_mem (in_t5 (List.mem_of_getElem? (i := 87) (by decide +kernel))) (by decide +kernel)
theorem jvX10_likes : Cond.selects (yX10_likes).cls yX10_likes yX10_likes ∈ mx_g := mx_mem (in_t5 (List.mem_of_getElem? (i := 88) (by decide +kernel))) (by decide +kernel)
theorem jX10_paired : mx_J mX10_paired 1 := ⟨mx_mem (in_t5 (List.mem_of_getElem? (i := 93) (by decide +kernel))) (by decide +kernel), mx_mem (in_t1 (List.mem_of_getElem? (i := 1) (by decide +kernel))) (by decide +kernel), ⟨by decide, by decide, by decide +kernel⟩, by decide⟩
theorem jiX10_paired : Cond.instanceMethod yX10_paired ∈ mx_g := mx_mem (in_t5 (List.mem_of_getElem? (i := 91) (by decide +kernel))) (by decide +kernel)
theorem jvX10_paired : Cond.selects (yX10_paired).cls yX10_paired yX10_paired ∈ mx_g := mx_mem (in_t5 (List.mem_of_getElem? (i := 92) (by decide +kernel))) (by decide +kernel)
theorem jX10_blocks : mx_J mX10_blocks 2 := ⟨mx_mem (in_t5 (List.mem_of_getElem? (i := 113) (by decide +kernel))) (by decide +kernel), mx_mem (in_t1 (List.mem_of_getElem? (i := 1) (by decide +kernel))) (by decide +kernel), ⟨by decide, by decide, by decide +kernel⟩, by decide⟩
theorem jiX10_blocks : Cond.instanceMethod yX10_blocks ∈ mx_g := mx_mem (in_t5 (List.mem_of_getElem? (i := 111) (by decide +kernel))) (by decide +kernel)
theorem jvX10_blocks : Cond.selects (yX10_blocks).cls yX10_blocks yX10_blocks ∈ mx_g := mx_mem (in_t5 (List.mem_of_getElem? (i := 112) (by decide +kernel))) (by decide +kernel)
theorem jX10_needs : mx_J mX10_needs 2 := ⟨mx_mem (in_t5 (List.mem_of_getElem? (i := 118) (by decide +kernel))) (by decide +kernel), mx_mem (in_t1 (List.mem_of_getElem? (i := 1) (by decide +kernel))) (by decide +kernel), ⟨by decide, by decide, by decide +kernel⟩, by decide⟩
theorem jiX10_needs : Cond.instanceMethod yX10_needs ∈ mx_g := mx_mem (in_t5 (List.mem_of_getElem? (i := 116) (by decide +kernel))) (by decide +kernel)
theorem jvX10_needs : Cond.selects (yX10_needs).cls yX10_needs yX10_needs ∈ mx_g := mx_mem (in_t5 (List.mem_of_getElem? (i := 117) (by decide +kernel))) (by decide +kernel)
theorem jX10_stock : mx_J mX10_stock 3 := ⟨mx_mem (in_t5 (List.mem_of_getElem? (i := 122) (by decide +kernel))) (by decide +kernel), mx_mem (in_t1 (List.mem_of_getElem? (i := 1) (by decide +kernel))) (by decide +kernel), ⟨by decide, by decide, by decide +kernel⟩, by decide⟩
theorem jiX10_stock : Cond.instanceMethod yX10_stock ∈ mx_g := mx_mem (in_t5 (List.mem_of_getElem? (i := 120) (by decide +kernel))) (by decide +kernel)
theorem jvX10_stock : Cond.selects (yX10_stock).cls yX10_stock yX10_stock ∈ mx_g := mx_mem (in_t5 (List.mem_of_getElem? (i := 121) (by decide +kernel))) (by decide +kernel)
theorem jX10_looser : mx_J mX10_looser 2 := ⟨mx_mem (in_t5 (List.mem_of_getElem? (i := 130) (by decide +kernel))) (by decide +kernel), mx_mem (in_t1 (List.mem_of_getElem? (i := 1) (by decide +kernel))) (by decide +kernel), ⟨by decide, by decide, by decide +kernel⟩, by decide⟩
theorem jiX10_looser : Cond.instanceMethod yX10_looser ∈ mx_g := mx_mem (in_t5 (List.mem_of_getElem? (i := 128) (by decide +kernel))) (by decide +kernel)
theorem jvX10_looser : Cond.selects (yX10_looser).cls yX10_looser yX10_looser ∈ mx_g := mx_mem (in_t5 (List.mem_of_getElem? (i := 129) (by decide +kernel))) (by decide +kernel)
theorem jX10_whose : mx_J mX10_whose 0 := ⟨mx_mem (in_t5 (List.mem_of_getElem? (i := 134) (by decide +kernel))) (by decide +kernel), mx_mem (in_t1 (List.mem_of_getElem? (i := 1) (by decide +kernel))) (by decide +kernel), ⟨by decide, by decide, by decide +kernel⟩, by decide⟩
theorem jiX10_whose : Cond.instanceMethod yX10_whose ∈ mx_g := mx_mem (in_t5 (List.mem_of_getElem? (i := 132) (by decide +kernel))) (by decide +kernel)
theorem jvX10_whose : Cond.selects (yX10_whose).cls yX10_whose yX10_whose ∈ mx_g := mx_mem (in_t5 (List.mem_of_getElem? (i := 133) (by decide +kernel))) (by decide +kernel)
theorem jX10_forgiven : mx_J mX10_forgiven 1 := ⟨mx_mem (in_t5 (List.mem_of_getElem? (i := 142) (by decide +kernel))) (by decide +kernel), mx_mem (in_t1 (List.mem_of_getElem? (i := 1) (by decide +kernel))) (by decide +kernel), ⟨by decide, by decide, by decide +kernel⟩, by decide⟩
theorem jiX10_forgiven : Cond.instanceMethod yX10_forgiven ∈ mx_g := mx_mem (in_t5 (List.mem_of_getElem? (i := 140) (by decide +kernel))) (by decide +kernel)
theorem jvX10_forgiven : Cond.selects (yX10_forgiven).cls yX10_forgiven yX10_forgiven ∈ mx_g := mx_mem (in_t5 (List.mem_of_getElem? (i := 141) (by decide +kernel))) (by decide +kernel)
theorem jX10_snow : mx_J mX10_snow 0 := ⟨mx_mem (in_t5 (List.mem_of_getElem? (i := 156) (by decide +kernel))) (by decide +kernel), mx_mem (in_t1 (List.mem_of_getElem? (i := 1) (by decide +kernel))) (by decide +kernel), ⟨by decide, by decide, by decide +kernel⟩, by decide⟩
theorem jiX10_snow : Cond.instanceMethod yX10_snow ∈ mx_g := mx_mem (in_t5 (List.mem_of_getElem? (i := 154) (by decide +kernel))) (by decide +kernel)
theorem jvX10_snow : Cond.selects (yX10_snow).cls yX10_snow yX10_snow ∈ mx_g := mx_mem (in_t5 (List.mem_of_getElem? (i := 155) (by decide +kernel))) (by decide +kernel)
theorem jX10_worn : mx_J mX10_worn 0 := ⟨mx_mem (in_t5 (List.mem_of_getElem? (i := 161) (by decide +kernel))) (by decide +kernel), mx_mem (in_t1 (List.mem_of_getElem? (i := 1) (by decide +kernel))) (by decide +kernel), ⟨by decide, by decide, by decide +kernel⟩, by decide⟩
theorem jiX10_worn : Cond.instanceMethod yX10_worn ∈ mx_g := mx_mem (in_t5 (List.mem_of_getElem? (i := 159) (by decide +kernel))) (by decide +kernel)
theorem jvX10_worn : Cond.selects (yX10_worn).cls yX10_worn yX10_worn ∈ mx_g := mx_mem (in_t5 (List.mem_of_getElem? (i := 160) (by decide +kernel))) (by decide +kernel)
theorem jX10_blank : mx_J mX10_blank 0 := ⟨mx_mem (in_t5 (List.mem_of_getElem? (i := 165) (by decide +kernel))) (by decide +kernel), mx_mem (in_t1 (List.mem_of_getElem? (i := 1) (by decide +kernel))) (by decide +kernel), ⟨by decide, by decide, by decide +kernel⟩, by decide⟩
theorem jiX10_blank : Cond.instanceMethod yX10_blank ∈ mx_g := mx_mem (in_t5 (List.mem_of_getElem? (i := 163) (by decide +kernel))) (by decide +kernel)
theorem jvX10_blank : Cond.selects (yX10_blank).cls yX10_blank yX10_blank ∈ mx_g := mx_mem (in_t5 (List.mem_of_getElem? (i := 164) (by decide +kernel))) (by decide +kernel)
theorem jX10_ledger : mx_J mX10_ledger 1 := ⟨mx_mem (in_t5 (List.mem_of_getElem? (i := 169) (by decide +kernel))) (by decide +kernel), mx_mem (in_t1 (List.mem_of_getElem? (i := 1) (by decide +kernel))) (by decide +kernel), ⟨by decide, by decide, by decide +kernel⟩, by decide⟩
theorem jiX10_ledger : Cond.instanceMethod yX10_ledger ∈ mx_g := mx_mem (in_t5 (List.mem_of_getElem? (i := 167) (by decide +kernel))) (by decide +kernel)
theorem jvX10_ledger : Cond.selects (yX10_ledger).cls yX10_ledger yX10_ledger ∈ mx_g := mx_mem (in_t5 (List.mem_of_getElem? (i := 168) (by decide +kernel))) (by decide +kernel)
theorem jX10_image : mx_J mX10_image 0 := ⟨mx_mem (in_t5 (List.mem_of_getElem? (i := 177) (by decide +kernel))) (by decide +kernel), mx_mem (in_t1 (List.mem_of_getElem? (i := 1) (by decide +kernel))) (by decide +kernel), ⟨by decide, by decide, by decide +kernel⟩, by decide⟩
theorem jiX10_image : Cond.instanceMethod yX10_image ∈ mx_g := mx_mem (in_t5 (List.mem_of_getElem? (i := 175) (by decide +kernel))) (by decide +kernel)
theorem jvX10_image : Cond.selects (yX10_image).cls yX10_image yX10_image ∈ mx_g := mx_mem (in_t5 (List.mem_of_getElem? (i := 176) (by decide +kernel))) (by decide +kernel)
theorem jX10_back : mx_J mX10_back 0 := ⟨mx_mem (in_t5 (List.mem_of_getElem? (i := 192) (by decide +kernel))) (by decide +kernel), mx_mem (in_t1 (List.mem_of_getElem? (i := 1) (by decide +kernel))) (by decide +kernel), ⟨by decide, by decide, by decide +kernel⟩, by decide⟩
theorem jiX10_back : Cond.instanceMethod yX10_back ∈ mx_g := mx_mem (in_t5 (List.mem_of_getElem? (i := 190) (by decide +kernel))) (by decide +kernel)
theorem jvX10_back : Cond.selects (yX10_back).cls yX10_back yX10_back ∈ mx_g := mx_mem (in_t5 (List.mem_of_getElem? (i := 191) (by decide +kernel))) (by decide +kernel)
theorem jX10_about : mx_J mX10_about 1 := ⟨mx_mem (in_t5 (List.mem_of_getElem? (i := 196) (by decide +kernel))) (by decide +kernel), mx_mem (in_t1 (List.mem_of_getElem? (i := 1) (by decide +kernel))) (by decide +kernel), ⟨by decide, by decide, by decide +kernel⟩, by decide⟩
theorem jiX10_about : Cond.instanceMethod yX10_about ∈ mx_g := mx_mem (in_t5 (List.mem_of_getElem? (i := 194) (by decide +kernel))) (by decide +kernel)
theorem jvX10_about : Cond.selects (yX10_about).cls yX10_about yX10_about ∈ mx_g := mx_mem (in_t5 (List.mem_of_getElem? (i := 195) (by decide +kernel))) (by decide +kernel)
theorem jX10_passNights : mx_J mX10_passNights 1 := ⟨mx_mem (in_t4 (List.mem_of_getElem? (i := 13) (by decide +kernel))) (by decide +kernel), mx_mem (in_t1 (List.mem_of_getElem? (i := 1) (by decide +kernel))) (by decide +kernel), ⟨by decide, by decide, by decide +kernel⟩, by decide⟩
theorem jiX10_passNights : Cond.instanceMethod yX10_passNights ∈ mx_g := mx_mem (in_t4 (List.mem_of_getElem? (i := 12) (by decide +kernel))) (by decide +kernel)
theorem jvX10_passNights : Cond.selects (yX10_passNights).cls yX10_passNights yX10_passNights ∈ mx_g := mx_mem (in_p2 (List.mem_of_getElem? (i := 8) (by decide +kernel))) (by decide +kernel)
theorem jX10_playClause : mx_J mX10_playClause 2 := ⟨mx_mem (in_t4 (List.mem_of_getElem? (i := 126) (by decide +kernel))) (by decide +kernel), mx_mem (in_t1 (List.mem_of_getElem? (i := 1) (by decide +kernel))) (by decide +kernel), ⟨by decide, by decide, by decide +kernel⟩, by decide⟩
theorem jiX10_playClause : Cond.instanceMethod yX10_playClause ∈ mx_g := mx_mem (in_t4 (List.mem_of_getElem? (i := 125) (by decide +kernel))) (by decide +kernel)
theorem jvX10_playClause : Cond.selects (yX10_playClause).cls yX10_playClause yX10_playClause ∈ mx_g := mx_mem (in_p2 (List.mem_of_getElem? (i := 14) (by decide +kernel))) (by decide +kernel)
theorem jX10_handle : mx_J mX10_handle 2 := ⟨mx_mem (in_t4 (List.mem_of_getElem? (i := 144) (by decide +kernel))) (by decide +kernel), mx_mem (in_t1 (List.mem_of_getElem? (i := 1) (by decide +kernel))) (by decide +kernel), ⟨by decide, by decide, by decide +kernel⟩, by decide⟩
theorem jiX10_handle : Cond.instanceMethod yX10_handle ∈ mx_g := mx_mem (in_t4 (List.mem_of_getElem? (i := 143) (by decide +kernel))) (by decide +kernel)
theorem jvX10_handle : Cond.selects (yX10_handle).cls yX10_handle yX10_handle ∈ mx_g := mx_mem (in_p2 (List.mem_of_getElem? (i := 15) (by decide +kernel))) (by decide +kernel)
theorem jX10_lengthen : mx_J mX10_lengthen 2 := ⟨mx_mem (in_t4 (List.mem_of_getElem? (i := 188) (by decide +kernel))) (by decide +kernel), mx_mem (in_t1 (List.mem_of_getElem? (i := 1) (by decide +kernel))) (by decide +kernel), ⟨by decide, by decide, by decide +kernel⟩, by decide⟩
theorem jsX10_lengthen : Cond.static yX10_lengthen ∈ mx_g := mx_mem (in_t4 (List.mem_of_getElem? (i := 187) (by decide +kernel))) (by decide +kernel)
theorem jX10_comesBack : mx_J mX10_comesBack 2 := ⟨mx_mem (in_t5 (List.mem_of_getElem? (i := 85) (by decide +kernel))) (by decide +kernel), mx_mem (in_t1 (List.mem_of_getElem? (i := 1) (by decide +kernel))) (by decide +kernel), ⟨by decide, by decide, by decide +kernel⟩, by decide⟩
theorem jiX10_comesBack : Cond.instanceMethod yX10_comesBack ∈ mx_g := mx_mem (in_t5 (List.mem_of_getElem? (i := 84) (by decide +kernel))) (by decide +kernel)
theorem jvX10_comesBack : Cond.selects (yX10_comesBack).cls yX10_comesBack yX10_comesBack ∈ mx_g := mx_mem (in_p3 (List.mem_of_getElem? (i := 3) (by decide +kernel))) (by decide +kernel)
theorem jX10_agrees : mx_J mX10_agrees 1 := ⟨mx_mem (in_t5 (List.mem_of_getElem? (i := 138) (by decide +kernel))) (by decide +kernel), mx_mem (in_t1 (List.mem_of_getElem? (i := 1) (by decide +kernel))) (by decide +kernel), ⟨by decide, by decide, by decide +kernel⟩, by decide⟩
theorem jiX10_agrees : Cond.instanceMethod yX10_agrees ∈ mx_g := mx_mem (in_t5 (List.mem_of_getElem? (i := 137) (by decide +kernel))) (by decide +kernel)
theorem jvX10_agrees : Cond.selects (yX10_agrees).cls yX10_agrees yX10_agrees ∈ mx_g := mx_mem (in_p3 (List.mem_of_getElem? (i := 6) (by decide +kernel))) (by decide +kernel)
theorem jX10_within : mx_J mX10_within 3 := ⟨mx_mem (in_t2 (List.mem_of_getElem? (i := 132) (by decide +kernel))) (by decide +kernel), mx_mem (in_t1 (List.mem_of_getElem? (i := 1) (by decide +kernel))) (by decide +kernel), ⟨by decide, by decide, by decide +kernel⟩, by decide⟩
theorem jsX10_within : Cond.static yX10_within ∈ mx_g := mx_mem (in_t2 (List.mem_of_getElem? (i := 131) (by decide +kernel))) (by decide +kernel)
theorem jX10_ruleIndex : mx_J mX10_ruleIndex 2 := ⟨mx_mem (in_t2 (List.mem_of_getElem? (i := 148) (by decide +kernel))) (by decide +kernel), mx_mem (in_t1 (List.mem_of_getElem? (i := 1) (by decide +kernel))) (by decide +kernel), ⟨by decide, by decide, by decide +kernel⟩, by decide⟩
theorem jsX10_ruleIndex : Cond.static yX10_ruleIndex ∈ mx_g := mx_mem (in_t2 (List.mem_of_getElem? (i := 147) (by decide +kernel))) (by decide +kernel)
theorem jX10_commonDivisor : mx_J mX10_commonDivisor 2 := ⟨mx_mem (in_t4 (List.mem_of_getElem? (i := 236) (by decide +kernel))) (by decide +kernel), mx_mem (in_t1 (List.mem_of_getElem? (i := 1) (by decide +kernel))) (by decide +kernel), ⟨by decide, by decide, by decide +kernel⟩, by decide⟩
theorem jsX10_commonDivisor : Cond.static yX10_commonDivisor ∈ mx_g := mx_mem (in_t4 (List.mem_of_getElem? (i := 235) (by decide +kernel))) (by decide +kernel)
theorem jX10_digitCount : mx_J mX10_digitCount 1 := ⟨mx_mem (in_t4 (List.mem_of_getElem? (i := 51) (by decide +kernel))) (by decide +kernel), mx_mem (in_t1 (List.mem_of_getElem? (i := 1) (by decide +kernel))) (by decide +kernel), ⟨by decide, by decide, by decide +kernel⟩, by decide⟩
theorem jsX10_digitCount : Cond.static yX10_digitCount ∈ mx_g := mx_mem (in_t4 (List.mem_of_getElem? (i := 50) (by decide +kernel))) (by decide +kernel)
theorem jX10_digitAt : mx_J mX10_digitAt 2 := ⟨mx_mem (in_t4 (List.mem_of_getElem? (i := 79) (by decide +kernel))) (by decide +kernel), mx_mem (in_t1 (List.mem_of_getElem? (i := 1) (by decide +kernel))) (by decide +kernel), ⟨by decide, by decide, by decide +kernel⟩, by decide⟩
theorem jsX10_digitAt : Cond.static yX10_digitAt ∈ mx_g := mx_mem (in_t4 (List.mem_of_getElem? (i := 78) (by decide +kernel))) (by decide +kernel)
theorem jX11_init : mx_J mX11_init 0 := ⟨mx_mem (in_t5 (List.mem_of_getElem? (i := 201) (by decide +kernel))) (by decide +kernel), mx_mem (in_t1 (List.mem_of_getElem? (i := 12) (by decide +kernel))) (by decide +kernel), ⟨by decide, by decide, by decide +kernel⟩, by decide⟩
theorem jiX11_init : Cond.instanceMethod yX11_init ∈ mx_g := mx_mem (in_t5 (List.mem_of_getElem? (i := 200) (by decide +kernel))) (by decide +kernel)
theorem jX11_copy : mx_J mX11_copy 2 := ⟨mx_mem (in_t5 (List.mem_of_getElem? (i := 205) (by decide +kernel))) (by decide +kernel), mx_mem (in_t1 (List.mem_of_getElem? (i := 12) (by decide +kernel))) (by decide +kernel), ⟨by decide, by decide, by decide +kernel⟩, by decide⟩
theorem jsX11_copy : Cond.static yX11_copy ∈ mx_g := mx_mem (in_t5 (List.mem_of_getElem? (i := 204) (by decide +kernel))) (by decide +kernel)
theorem jX11_isIn : mx_J mX11_isIn 3 := ⟨mx_mem (in_t6 (List.mem_of_getElem? (i := 89) (by decide +kernel))) (by decide +kernel), mx_mem (in_t1 (List.mem_of_getElem? (i := 12) (by decide +kernel))) (by decide +kernel), ⟨by decide, by decide, by decide +kernel⟩, by decide⟩
theorem jsX11_isIn : Cond.static yX11_isIn ∈ mx_g := mx_mem (in_t6 (List.mem_of_getElem? (i := 88) (by decide +kernel))) (by decide +kernel)
theorem jX11_cut : mx_J mX11_cut 3 := ⟨mx_mem (in_t7 (List.mem_of_getElem? (i := 132) (by decide +kernel))) (by decide +kernel), mx_mem (in_t1 (List.mem_of_getElem? (i := 12) (by decide +kernel))) (by decide +kernel), ⟨by decide, by decide, by decide +kernel⟩, by decide⟩
theorem jsX11_cut : Cond.static yX11_cut ∈ mx_g := mx_mem (in_t7 (List.mem_of_getElem? (i := 131) (by decide +kernel))) (by decide +kernel)
theorem jX11_has : mx_J mX11_has 2 := ⟨mx_mem (in_t6 (List.mem_of_getElem? (i := 178) (by decide +kernel))) (by decide +kernel), mx_mem (in_t1 (List.mem_of_getElem? (i := 12) (by decide +kernel))) (by decide +kernel), ⟨by decide, by decide, by decide +kernel⟩, by decide⟩
theorem jsX11_has : Cond.static yX11_has ∈ mx_g := mx_mem (in_t6 (List.mem_of_getElem? (i := 177) (by decide +kernel))) (by decide +kernel)
theorem jX11_bits : mx_J mX11_bits 1 := ⟨mx_mem (in_t8 (List.mem_of_getElem? (i := 1) (by decide +kernel))) (by decide +kernel), mx_mem (in_t1 (List.mem_of_getElem? (i := 12) (by decide +kernel))) (by decide +kernel), ⟨by decide, by decide, by decide +kernel⟩, by decide⟩
theorem jsX11_bits : Cond.static yX11_bits ∈ mx_g := mx_mem (in_t8 (List.mem_of_getElem? (i := 0) (by decide +kernel))) (by decide +kernel)
theorem jX11_isMachine : mx_J mX11_isMachine 1 := ⟨mx_mem (in_t7 (List.mem_of_getElem? (i := 45) (by decide +kernel))) (by decide +kernel), mx_mem (in_t1 (List.mem_of_getElem? (i := 12) (by decide +kernel))) (by decide +kernel), ⟨by decide, by decide, by decide +kernel⟩, by decide⟩
theorem jiX11_isMachine : Cond.instanceMethod yX11_isMachine ∈ mx_g := mx_mem (in_t7 (List.mem_of_getElem? (i := 44) (by decide +kernel))) (by decide +kernel)
theorem jvX11_isMachine : Cond.selects (yX11_isMachine).cls yX11_isMachine yX11_isMachine ∈ mx_g := mx_mem (in_p5 (List.mem_of_getElem? (i := 7) (by decide +kernel))) (by decide +kernel)
theorem jX11_isDigit : mx_J mX11_isDigit 1 := ⟨mx_mem (in_t6 (List.mem_of_getElem? (i := 86) (by decide +kernel))) (by decide +kernel), mx_mem (in_t1 (List.mem_of_getElem? (i := 12) (by decide +kernel))) (by decide +kernel), ⟨by decide, by decide, by decide +kernel⟩, by decide⟩
theorem jsX11_isDigit : Cond.static yX11_isDigit ∈ mx_g := mx_mem (in_t6 (List.mem_of_getElem? (i := 85) (by decide +kernel))) (by decide +kernel)
theorem jX11_isNumber : mx_J mX11_isNumber 1 := ⟨mx_mem (in_t7 (List.mem_of_getElem? (i := 48) (by decide +kernel))) (by decide +kernel), mx_mem (in_t1 (List.mem_of_getElem? (i := 12) (by decide +kernel))) (by decide +kernel), ⟨by decide, by decide, by decide +kernel⟩, by decide⟩
theorem jsX11_isNumber : Cond.static yX11_isNumber ∈ mx_g := mx_mem (in_t7 (List.mem_of_getElem? (i := 47) (by decide +kernel))) (by decide +kernel)
theorem jX11_get : mx_J mX11_get 2 := ⟨mx_mem (in_t6 (List.mem_of_getElem? (i := 101) (by decide +kernel))) (by decide +kernel), mx_mem (in_t1 (List.mem_of_getElem? (i := 12) (by decide +kernel))) (by decide +kernel), ⟨by decide, by decide, by decide +kernel⟩, by decide⟩
theorem jiX11_get : Cond.instanceMethod yX11_get ∈ mx_g := mx_mem (in_t6 (List.mem_of_getElem? (i := 100) (by decide +kernel))) (by decide +kernel)
theorem jvX11_get : Cond.selects (yX11_get).cls yX11_get yX11_get ∈ mx_g := mx_mem (in_p3 (List.mem_of_getElem? (i := 9) (by decide +kernel))) (by decide +kernel)
theorem jX11_lay : mx_J mX11_lay 3 := ⟨mx_mem (in_t6 (List.mem_of_getElem? (i := 93) (by decide +kernel))) (by decide +kernel), mx_mem (in_t1 (List.mem_of_getElem? (i := 12) (by decide +kernel))) (by decide +kernel), ⟨by decide, by decide, by decide +kernel⟩, by decide⟩
theorem jiX11_lay : Cond.instanceMethod yX11_lay ∈ mx_g := mx_mem (in_t6 (List.mem_of_getElem? (i := 92) (by decide +kernel))) (by decide +kernel)
theorem jvX11_lay : Cond.selects (yX11_lay).cls yX11_lay yX11_lay ∈ mx_g := mx_mem (in_p3 (List.mem_of_getElem? (i := 7) (by decide +kernel))) (by decide +kernel)
theorem jX11_longOf : mx_J mX11_longOf 1 := ⟨mx_mem (in_t7 (List.mem_of_getElem? (i := 99) (by decide +kernel))) (by decide +kernel), mx_mem (in_t1 (List.mem_of_getElem? (i := 12) (by decide +kernel))) (by decide +kernel), ⟨by decide, by decide, by decide +kernel⟩, by decide⟩
theorem jsX11_longOf : Cond.static yX11_longOf ∈ mx_g := mx_mem (in_t7 (List.mem_of_getElem? (i := 98) (by decide +kernel))) (by decide +kernel)
theorem jX11_digitOf : mx_J mX11_digitOf 2 := ⟨mx_mem (in_t7 (List.mem_of_getElem? (i := 135) (by decide +kernel))) (by decide +kernel), mx_mem (in_t1 (List.mem_of_getElem? (i := 12) (by decide +kernel))) (by decide +kernel), ⟨by decide, by decide, by decide +kernel⟩, by decide⟩
theorem jsX11_digitOf : Cond.static yX11_digitOf ∈ mx_g := mx_mem (in_t7 (List.mem_of_getElem? (i := 134) (by decide +kernel))) (by decide +kernel)
theorem jX11_wordLong : mx_J mX11_wordLong 1 := ⟨mx_mem (in_t7 (List.mem_of_getElem? (i := 157) (by decide +kernel))) (by decide +kernel), mx_mem (in_t1 (List.mem_of_getElem? (i := 12) (by decide +kernel))) (by decide +kernel), ⟨by decide, by decide, by decide +kernel⟩, by decide⟩
theorem jsX11_wordLong : Cond.static yX11_wordLong ∈ mx_g := mx_mem (in_t7 (List.mem_of_getElem? (i := 156) (by decide +kernel))) (by decide +kernel)
theorem jX11_wordDigit : mx_J mX11_wordDigit 2 := ⟨mx_mem (in_t7 (List.mem_of_getElem? (i := 160) (by decide +kernel))) (by decide +kernel), mx_mem (in_t1 (List.mem_of_getElem? (i := 12) (by decide +kernel))) (by decide +kernel), ⟨by decide, by decide, by decide +kernel⟩, by decide⟩
theorem jsX11_wordDigit : Cond.static yX11_wordDigit ∈ mx_g := mx_mem (in_t7 (List.mem_of_getElem? (i := 159) (by decide +kernel))) (by decide +kernel)
theorem jX11_ruleOf : mx_J mX11_ruleOf 2 := ⟨mx_mem (in_t7 (List.mem_of_getElem? (i := 150) (by decide +kernel))) (by decide +kernel), mx_mem (in_t1 (List.mem_of_getElem? (i := 12) (by decide +kernel))) (by decide +kernel), ⟨by decide, by decide, by decide +kernel⟩, by decide⟩
theorem jiX11_ruleOf : Cond.instanceMethod yX11_ruleOf ∈ mx_g := mx_mem (in_t7 (List.mem_of_getElem? (i := 149) (by decide +kernel))) (by decide +kernel)
theorem jvX11_ruleOf : Cond.selects (yX11_ruleOf).cls yX11_ruleOf yX11_ruleOf ∈ mx_g := mx_mem (in_p6 (List.mem_of_getElem? (i := 6) (by decide +kernel))) (by decide +kernel)
theorem jX11_machine : mx_J mX11_machine 2 := ⟨mx_mem (in_t6 (List.mem_of_getElem? (i := 83) (by decide +kernel))) (by decide +kernel), mx_mem (in_t1 (List.mem_of_getElem? (i := 12) (by decide +kernel))) (by decide +kernel), ⟨by decide, by decide, by decide +kernel⟩, by decide⟩
theorem jiX11_machine : Cond.instanceMethod yX11_machine ∈ mx_g := mx_mem (in_t6 (List.mem_of_getElem? (i := 81) (by decide +kernel))) (by decide +kernel)
theorem jvX11_machine : Cond.selects (yX11_machine).cls yX11_machine yX11_machine ∈ mx_g := mx_mem (in_t6 (List.mem_of_getElem? (i := 82) (by decide +kernel))) (by decide +kernel)
theorem jX11_begin : mx_J mX11_begin 1 := ⟨mx_mem (in_t6 (List.mem_of_getElem? (i := 97) (by decide +kernel))) (by decide +kernel), mx_mem (in_t1 (List.mem_of_getElem? (i := 12) (by decide +kernel))) (by decide +kernel), ⟨by decide, by decide, by decide +kernel⟩, by decide⟩
theorem jiX11_begin : Cond.instanceMethod yX11_begin ∈ mx_g := mx_mem (in_t6 (List.mem_of_getElem? (i := 96) (by decide +kernel))) (by decide +kernel)
theorem jvX11_begin : Cond.selects (yX11_begin).cls yX11_begin yX11_begin ∈ mx_g := mx_mem (in_p3 (List.mem_of_getElem? (i := 8) (by decide +kernel))) (by decide +kernel)
theorem jX11_rule : mx_J mX11_rule 3 := ⟨mx_mem (in_t6 (List.mem_of_getElem? (i := 105) (by decide +kernel))) (by decide +kernel), mx_mem (in_t1 (List.mem_of_getElem? (i := 12) (by decide +kernel))) (by decide +kernel), ⟨by decide, by decide, by decide +kernel⟩, by decide⟩
theorem jiX11_rule : Cond.instanceMethod yX11_rule ∈ mx_g := mx_mem (in_t6 (List.mem_of_getElem? (i := 103) (by decide +kernel))) (by decide +kernel)
theorem jvX11_rule : Cond.selects (yX11_rule).cls yX11_rule yX11_rule ∈ mx_g := mx_mem (in_t6 (List.mem_of_getElem? (i := 104) (by decide +kernel))) (by decide +kernel)
theorem jX11_four : mx_J mX11_four 1 := ⟨mx_mem (in_t6 (List.mem_of_getElem? (i := 113) (by decide +kernel))) (by decide +kernel), mx_mem (in_t1 (List.mem_of_getElem? (i := 12) (by decide +kernel))) (by decide +kernel), ⟨by decide, by decide, by decide +kernel⟩, by decide⟩
theorem jiX11_four : Cond.instanceMethod yX11_four ∈ mx_g := mx_mem (in_t6 (List.mem_of_getElem? (i := 112) (by decide +kernel))) (by decide +kernel)
theorem jvX11_four : Cond.selects (yX11_four).cls yX11_four yX11_four ∈ mx_g := mx_mem (in_p3 (List.mem_of_getElem? (i := 10) (by decide +kernel))) (by decide +kernel)
theorem jX11_feed : mx_J mX11_feed 5 := ⟨mx_mem (in_t6 (List.mem_of_getElem? (i := 109) (by decide +kernel))) (by decide +kernel), mx_mem (in_t1 (List.mem_of_getElem? (i := 12) (by decide +kernel))) (by decide +kernel), ⟨by decide, by decide, by decide +kernel⟩, by decide⟩
theorem jiX11_feed : Cond.instanceMethod yX11_feed ∈ mx_g := mx_mem (in_t6 (List.mem_of_getElem? (i := 107) (by decide +kernel))) (by decide +kernel)
theorem jvX11_feed : Cond.selects (yX11_feed).cls yX11_feed yX11_feed ∈ mx_g := mx_mem (in_t6 (List.mem_of_getElem? (i := 108) (by decide +kernel))) (by decide +kernel)
theorem jX11_end : mx_J mX11_end 1 := ⟨mx_mem (in_t6 (List.mem_of_getElem? (i := 117) (by decide +kernel))) (by decide +kernel), mx_mem (in_t1 (List.mem_of_getElem? (i := 12) (by decide +kernel))) (by decide +kernel), ⟨by decide, by decide, by decide +kernel⟩, by decide⟩
theorem jiX11_end : Cond.instanceMethod yX11_end ∈ mx_g := mx_mem (in_t6 (List.mem_of_getElem? (i := 115) (by decide +kernel))) (by decide +kernel)
theorem jvX11_end : Cond.selects (yX11_end).cls yX11_end yX11_end ∈ mx_g := mx_mem (in_t6 (List.mem_of_getElem? (i := 116) (by decide +kernel))) (by decide +kernel)
theorem jX11_byteAt : mx_J mX11_byteAt 1 := ⟨mx_mem (in_t6 (List.mem_of_getElem? (i := 133) (by decide +kernel))) (by decide +kernel), mx_mem (in_t1 (List.mem_of_getElem? (i := 12) (by decide +kernel))) (by decide +kernel), ⟨by decide, by decide, by decide +kernel⟩, by decide⟩
theorem jiX11_byteAt : Cond.instanceMethod yX11_byteAt ∈ mx_g := mx_mem (in_t6 (List.mem_of_getElem? (i := 132) (by decide +kernel))) (by decide +kernel)
theorem jvX11_byteAt : Cond.selects (yX11_byteAt).cls yX11_byteAt yX11_byteAt ∈ mx_g := mx_mem (in_p3 (List.mem_of_getElem? (i := 13) (by decide +kernel))) (by decide +kernel)
theorem jX11_isLetterByte : mx_J mX11_isLetterByte 1 := ⟨mx_mem (in_t6 (List.mem_of_getElem? (i := 140) (by decide +kernel))) (by decide +kernel), mx_mem (in_t1 (List.mem_of_getElem? (i := 12) (by decide +kernel))) (by decide +kernel), ⟨by decide, by decide, by decide +kernel⟩, by decide⟩
theorem jsX11_isLetterByte : Cond.static yX11_isLetterByte ∈ mx_g := mx_mem (in_t6 (List.mem_of_getElem? (i := 139) (by decide +kernel))) (by decide +kernel)
theorem jX11_isFigure : mx_J mX11_isFigure 1 := ⟨mx_mem (in_t6 (List.mem_of_getElem? (i := 136) (by decide +kernel))) (by decide +kernel), mx_mem (in_t1 (List.mem_of_getElem? (i := 12) (by decide +kernel))) (by decide +kernel), ⟨by decide, by decide, by decide +kernel⟩, by decide⟩
theorem jsX11_isFigure : Cond.static yX11_isFigure ∈ mx_g := mx_mem (in_t6 (List.mem_of_getElem? (i := 135) (by decide +kernel))) (by decide +kernel)
theorem jX11_isSign : mx_J mX11_isSign 1 := ⟨mx_mem (in_t6 (List.mem_of_getElem? (i := 144) (by decide +kernel))) (by decide +kernel), mx_mem (in_t1 (List.mem_of_getElem? (i := 12) (by decide +kernel))) (by decide +kernel), ⟨by decide, by decide, by decide +kernel⟩, by decide⟩
theorem jsX11_isSign : Cond.static yX11_isSign ∈ mx_g := mx_mem (in_t6 (List.mem_of_getElem? (i := 143) (by decide +kernel))) (by decide +kernel)
theorem jX11_nextToken : mx_J mX11_nextToken 0 := ⟨mx_mem (in_t6 (List.mem_of_getElem? (i := 129) (by decide +kernel))) (by decide +kernel), mx_mem (in_t1 (List.mem_of_getElem? (i := 12) (by decide +kernel))) (by decide +kernel), ⟨by decide, by decide, by decide +kernel⟩, by decide⟩
theorem jiX11_nextToken : Cond.instanceMethod yX11_nextToken ∈ mx_g := mx_mem (in_t6 (List.mem_of_getElem? (i := 128) (by decide +kernel))) (by decide +kernel)
theorem jvX11_nextToken : Cond.selects (yX11_nextToken).cls yX11_nextToken yX11_nextToken ∈ mx_g := mx_mem (in_p3 (List.mem_of_getElem? (i := 12) (by decide +kernel))) (by decide +kernel)
theorem jX11_w2 : mx_J mX11_w2 2 := ⟨mx_mem (in_t6 (List.mem_of_getElem? (i := 164) (by decide +kernel))) (by decide +kernel), mx_mem (in_t1 (List.mem_of_getElem? (i := 12) (by decide +kernel))) (by decide +kernel), ⟨by decide, by decide, by decide +kernel⟩, by decide⟩
theorem jsX11_w2 : Cond.static yX11_w2 ∈ mx_g := mx_mem (in_t6 (List.mem_of_getElem? (i := 163) (by decide +kernel))) (by decide +kernel)
theorem jX11_w3 : mx_J mX11_w3 3 := ⟨mx_mem (in_t6 (List.mem_of_getElem? (i := 161) (by decide +kernel))) (by decide +kernel), mx_mem (in_t1 (List.mem_of_getElem? (i := 12) (by decide +kernel))) (by decide +kernel), ⟨by decide, by decide, by decide +kernel⟩, by decide⟩
theorem jsX11_w3 : Cond.static yX11_w3 ∈ mx_g := mx_mem (in_t6 (List.mem_of_getElem? (i := 160) (by decide +kernel))) (by decide +kernel)
theorem jX11_w4 : mx_J mX11_w4 4 := ⟨mx_mem (in_t6 (List.mem_of_getElem? (i := 158) (by decide +kernel))) (by decide +kernel), mx_mem (in_t1 (List.mem_of_getElem? (i := 12) (by decide +kernel))) (by decide +kernel), ⟨by decide, by decide, by decide +kernel⟩, by decide⟩
theorem jsX11_w4 : Cond.static yX11_w4 ∈ mx_g := mx_mem (in_t6 (List.mem_of_getElem? (i := 157) (by decide +kernel))) (by decide +kernel)
theorem jX11_w5 : mx_J mX11_w5 5 := ⟨mx_mem (in_t6 (List.mem_of_getElem? (i := 155) (by decide +kernel))) (by decide +kernel), mx_mem (in_t1 (List.mem_of_getElem? (i := 12) (by decide +kernel))) (by decide +kernel), ⟨by decide, by decide, by decide +kernel⟩, by decide⟩
theorem jsX11_w5 : Cond.static yX11_w5 ∈ mx_g := mx_mem (in_t6 (List.mem_of_getElem? (i := 154) (by decide +kernel))) (by decide +kernel)
theorem jX11_w6 : mx_J mX11_w6 6 := ⟨mx_mem (in_t6 (List.mem_of_getElem? (i := 175) (by decide +kernel))) (by decide +kernel), mx_mem (in_t1 (List.mem_of_getElem? (i := 12) (by decide +kernel))) (by decide +kernel), ⟨by decide, by decide, by decide +kernel⟩, by decide⟩
theorem jsX11_w6 : Cond.static yX11_w6 ∈ mx_g := mx_mem (in_t6 (List.mem_of_getElem? (i := 174) (by decide +kernel))) (by decide +kernel)
theorem jX11_isWord : mx_J mX11_isWord 1 := ⟨mx_mem (in_t6 (List.mem_of_getElem? (i := 168) (by decide +kernel))) (by decide +kernel), mx_mem (in_t1 (List.mem_of_getElem? (i := 12) (by decide +kernel))) (by decide +kernel), ⟨by decide, by decide, by decide +kernel⟩, by decide⟩
theorem jiX11_isWord : Cond.instanceMethod yX11_isWord ∈ mx_g := mx_mem (in_t6 (List.mem_of_getElem? (i := 167) (by decide +kernel))) (by decide +kernel)
theorem jvX11_isWord : Cond.selects (yX11_isWord).cls yX11_isWord yX11_isWord ∈ mx_g := mx_mem (in_p4 (List.mem_of_getElem? (i := 0) (by decide +kernel))) (by decide +kernel)
theorem jX11_emit : mx_J mX11_emit 2 := ⟨mx_mem (in_t6 (List.mem_of_getElem? (i := 237) (by decide +kernel))) (by decide +kernel), mx_mem (in_t1 (List.mem_of_getElem? (i := 12) (by decide +kernel))) (by decide +kernel), ⟨by decide, by decide, by decide +kernel⟩, by decide⟩
theorem jiX11_emit : Cond.instanceMethod yX11_emit ∈ mx_g := mx_mem (in_t6 (List.mem_of_getElem? (i := 236) (by decide +kernel))) (by decide +kernel)
theorem jvX11_emit : Cond.selects (yX11_emit).cls yX11_emit yX11_emit ∈ mx_g := mx_mem (in_p4 (List.mem_of_getElem? (i := 15) (by decide +kernel))) (by decide +kernel)
theorem jX11_isLong : mx_J mX11_isLong 3 := ⟨mx_mem (in_t6 (List.mem_of_getElem? (i := 172) (by decide +kernel))) (by decide +kernel), mx_mem (in_t1 (List.mem_of_getElem? (i := 12) (by decide +kernel))) (by decide +kernel), ⟨by decide, by decide, by decide +kernel⟩, by decide⟩
theorem jiX11_isLong : Cond.instanceMethod yX11_isLong ∈ mx_g := mx_mem (in_t6 (List.mem_of_getElem? (i := 171) (by decide +kernel))) (by decide +kernel)
theorem jvX11_isLong : Cond.selects (yX11_isLong).cls yX11_isLong yX11_isLong ∈ mx_g := mx_mem (in_p4 (List.mem_of_getElem? (i := 1) (by decide +kernel))) (by decide +kernel)
theorem jX11_nameOf : mx_J mX11_nameOf 0 := ⟨mx_mem (in_t7 (List.mem_of_getElem? (i := 9) (by decide +kernel))) (by decide +kernel), mx_mem (in_t1 (List.mem_of_getElem? (i := 12) (by decide +kernel))) (by decide +kernel), ⟨by decide, by decide, by decide +kernel⟩, by decide⟩
theorem jiX11_nameOf : Cond.instanceMethod yX11_nameOf ∈ mx_g := mx_mem (in_t7 (List.mem_of_getElem? (i := 8) (by decide +kernel))) (by decide +kernel)
theorem jvX11_nameOf : Cond.selects (yX11_nameOf).cls yX11_nameOf yX11_nameOf ∈ mx_g := mx_mem (in_p5 (List.mem_of_getElem? (i := 2) (by decide +kernel))) (by decide +kernel)
theorem jX11_isOf : mx_J mX11_isOf 1 := ⟨mx_mem (in_t7 (List.mem_of_getElem? (i := 13) (by decide +kernel))) (by decide +kernel), mx_mem (in_t1 (List.mem_of_getElem? (i := 12) (by decide +kernel))) (by decide +kernel), ⟨by decide, by decide, by decide +kernel⟩, by decide⟩
theorem jiX11_isOf : Cond.instanceMethod yX11_isOf ∈ mx_g := mx_mem (in_t7 (List.mem_of_getElem? (i := 12) (by decide +kernel))) (by decide +kernel)
theorem jvX11_isOf : Cond.selects (yX11_isOf).cls yX11_isOf yX11_isOf ∈ mx_g := mx_mem (in_p5 (List.mem_of_getElem? (i := 3) (by decide +kernel))) (by decide +kernel)
theorem jX11_rank : mx_J mX11_rank 1 := ⟨mx_mem (in_t6 (List.mem_of_getElem? (i := 225) (by decide +kernel))) (by decide +kernel), mx_mem (in_t1 (List.mem_of_getElem? (i := 12) (by decide +kernel))) (by decide +kernel), ⟨by decide, by decide, by decide +kernel⟩, by decide⟩
theorem jsX11_rank : Cond.static yX11_rank ∈ mx_g := mx_mem (in_t6 (List.mem_of_getElem? (i := 224) (by decide +kernel))) (by decide +kernel)
theorem jX11_settle : mx_J mX11_settle 1 := ⟨mx_mem (in_t6 (List.mem_of_getElem? (i := 233) (by decide +kernel))) (by decide +kernel), mx_mem (in_t1 (List.mem_of_getElem? (i := 12) (by decide +kernel))) (by decide +kernel), ⟨by decide, by decide, by decide +kernel⟩, by decide⟩
theorem jiX11_settle : Cond.instanceMethod yX11_settle ∈ mx_g := mx_mem (in_t6 (List.mem_of_getElem? (i := 232) (by decide +kernel))) (by decide +kernel)
theorem jvX11_settle : Cond.selects (yX11_settle).cls yX11_settle yX11_settle ∈ mx_g := mx_mem (in_p4 (List.mem_of_getElem? (i := 14) (by decide +kernel))) (by decide +kernel)
theorem jX11_openAt : mx_J mX11_openAt 0 := ⟨mx_mem (in_t6 (List.mem_of_getElem? (i := 218) (by decide +kernel))) (by decide +kernel), mx_mem (in_t1 (List.mem_of_getElem? (i := 12) (by decide +kernel))) (by decide +kernel), ⟨by decide, by decide, by decide +kernel⟩, by decide⟩
theorem jiX11_openAt : Cond.instanceMethod yX11_openAt ∈ mx_g := mx_mem (in_t6 (List.mem_of_getElem? (i := 217) (by decide +kernel))) (by decide +kernel)
theorem jvX11_openAt : Cond.selects (yX11_openAt).cls yX11_openAt yX11_openAt ∈ mx_g := mx_mem (in_p4 (List.mem_of_getElem? (i := 11) (by decide +kernel))) (by decide +kernel)
theorem jX11_openNow : mx_J mX11_openNow 0 := ⟨mx_mem (in_t6 (List.mem_of_getElem? (i := 214) (by decide +kernel))) (by decide +kernel), mx_mem (in_t1 (List.mem_of_getElem? (i := 12) (by decide +kernel))) (by decide +kernel), ⟨by decide, by decide, by decide +kernel⟩, by decide⟩
theorem jiX11_openNow : Cond.instanceMethod yX11_openNow ∈ mx_g := mx_mem (in_t6 (List.mem_of_getElem? (i := 213) (by decide +kernel))) (by decide +kernel)
theorem jvX11_openNow : Cond.selects (yX11_openNow).cls yX11_openNow yX11_openNow ∈ mx_g := mx_mem (in_p4 (List.mem_of_getElem? (i := 10) (by decide +kernel))) (by decide +kernel)
theorem jX11_isCompared : mx_J mX11_isCompared 0 := ⟨mx_mem (in_t6 (List.mem_of_getElem? (i := 222) (by decide +kernel))) (by decide +kernel), mx_mem (in_t1 (List.mem_of_getElem? (i := 12) (by decide +kernel))) (by decide +kernel), ⟨by decide, by decide, by decide +kernel⟩, by decide⟩
theorem jiX11_isCompared : Cond.instanceMethod yX11_isCompared ∈ mx_g := mx_mem (in_t6 (List.mem_of_getElem? (i := 221) (by decide +kernel))) (by decide +kernel)
theorem jvX11_isCompared : Cond.selects (yX11_isCompared).cls yX11_isCompared yX11_isCompared ∈ mx_g := mx_mem (in_p4 (List.mem_of_getElem? (i := 12) (by decide +kernel))) (by decide +kernel)
theorem jX11_isAskAhead : mx_J mX11_isAskAhead 0 := ⟨mx_mem (in_t7 (List.mem_of_getElem? (i := 21) (by decide +kernel))) (by decide +kernel), mx_mem (in_t1 (List.mem_of_getElem? (i := 12) (by decide +kernel))) (by decide +kernel), ⟨by decide, by decide, by decide +kernel⟩, by decide⟩
theorem jiX11_isAskAhead : Cond.instanceMethod yX11_isAskAhead ∈ mx_g := mx_mem (in_t7 (List.mem_of_getElem? (i := 20) (by decide +kernel))) (by decide +kernel)
theorem jvX11_isAskAhead : Cond.selects (yX11_isAskAhead).cls yX11_isAskAhead yX11_isAskAhead ∈ mx_g := mx_mem (in_p5 (List.mem_of_getElem? (i := 5) (by decide +kernel))) (by decide +kernel)
theorem jX11_opened : mx_J mX11_opened 1 := ⟨mx_mem (in_t7 (List.mem_of_getElem? (i := 17) (by decide +kernel))) (by decide +kernel), mx_mem (in_t1 (List.mem_of_getElem? (i := 12) (by decide +kernel))) (by decide +kernel), ⟨by decide, by decide, by decide +kernel⟩, by decide⟩
theorem jiX11_opened : Cond.instanceMethod yX11_opened ∈ mx_g := mx_mem (in_t7 (List.mem_of_getElem? (i := 16) (by decide +kernel))) (by decide +kernel)
theorem jvX11_opened : Cond.selects (yX11_opened).cls yX11_opened yX11_opened ∈ mx_g := mx_mem (in_p5 (List.mem_of_getElem? (i := 4) (by decide +kernel))) (by decide +kernel)
theorem jX11_beginOne : mx_J mX11_beginOne 0 := ⟨mx_mem (in_t7 (List.mem_of_getElem? (i := 5) (by decide +kernel))) (by decide +kernel), mx_mem (in_t1 (List.mem_of_getElem? (i := 12) (by decide +kernel))) (by decide +kernel), ⟨by decide, by decide, by decide +kernel⟩, by decide⟩
theorem jiX11_beginOne : Cond.instanceMethod yX11_beginOne ∈ mx_g := mx_mem (in_t7 (List.mem_of_getElem? (i := 4) (by decide +kernel))) (by decide +kernel)
theorem jvX11_beginOne : Cond.selects (yX11_beginOne).cls yX11_beginOne yX11_beginOne ∈ mx_g := mx_mem (in_p5 (List.mem_of_getElem? (i := 1) (by decide +kernel))) (by decide +kernel)
theorem jX11_compareOf : mx_J mX11_compareOf 0 := ⟨mx_mem (in_t6 (List.mem_of_getElem? (i := 229) (by decide +kernel))) (by decide +kernel), mx_mem (in_t1 (List.mem_of_getElem? (i := 12) (by decide +kernel))) (by decide +kernel), ⟨by decide, by decide, by decide +kernel⟩, by decide⟩
theorem jiX11_compareOf : Cond.instanceMethod yX11_compareOf ∈ mx_g := mx_mem (in_t6 (List.mem_of_getElem? (i := 228) (by decide +kernel))) (by decide +kernel)
theorem jvX11_compareOf : Cond.selects (yX11_compareOf).cls yX11_compareOf yX11_compareOf ∈ mx_g := mx_mem (in_p4 (List.mem_of_getElem? (i := 13) (by decide +kernel))) (by decide +kernel)
theorem jX11_betweenOf : mx_J mX11_betweenOf 0 := ⟨mx_mem (in_t6 (List.mem_of_getElem? (i := 210) (by decide +kernel))) (by decide +kernel), mx_mem (in_t1 (List.mem_of_getElem? (i := 12) (by decide +kernel))) (by decide +kernel), ⟨by decide, by decide, by decide +kernel⟩, by decide⟩
theorem jiX11_betweenOf : Cond.instanceMethod yX11_betweenOf ∈ mx_g := mx_mem (in_t6 (List.mem_of_getElem? (i := 209) (by decide +kernel))) (by decide +kernel)
theorem jvX11_betweenOf : Cond.selects (yX11_betweenOf).cls yX11_betweenOf yX11_betweenOf ∈ mx_g := mx_mem (in_p4 (List.mem_of_getElem? (i := 9) (by decide +kernel))) (by decide +kernel)
theorem jX11_partOf : mx_J mX11_partOf 1 := ⟨mx_mem (in_t7 (List.mem_of_getElem? (i := 1) (by decide +kernel))) (by decide +kernel), mx_mem (in_t1 (List.mem_of_getElem? (i := 12) (by decide +kernel))) (by decide +kernel), ⟨by decide, by decide, by decide +kernel⟩, by decide⟩
theorem jiX11_partOf : Cond.instanceMethod yX11_partOf ∈ mx_g := mx_mem (in_t7 (List.mem_of_getElem? (i := 0) (by decide +kernel))) (by decide +kernel)
theorem jvX11_partOf : Cond.selects (yX11_partOf).cls yX11_partOf yX11_partOf ∈ mx_g := mx_mem (in_p5 (List.mem_of_getElem? (i := 0) (by decide +kernel))) (by decide +kernel)
theorem jX11_behindOne : mx_J mX11_behindOne 0 := ⟨mx_mem (in_t6 (List.mem_of_getElem? (i := 206) (by decide +kernel))) (by decide +kernel), mx_mem (in_t1 (List.mem_of_getElem? (i := 12) (by decide +kernel))) (by decide +kernel), ⟨by decide, by decide, by decide +kernel⟩, by decide⟩
theorem jiX11_behindOne : Cond.instanceMethod yX11_behindOne ∈ mx_g := mx_mem (in_t6 (List.mem_of_getElem? (i := 205) (by decide +kernel))) (by decide +kernel)
theorem jvX11_behindOne : Cond.selects (yX11_behindOne).cls yX11_behindOne yX11_behindOne ∈ mx_g := mx_mem (in_p4 (List.mem_of_getElem? (i := 8) (by decide +kernel))) (by decide +kernel)
theorem jX11_summed : mx_J mX11_summed 0 := ⟨mx_mem (in_t6 (List.mem_of_getElem? (i := 202) (by decide +kernel))) (by decide +kernel), mx_mem (in_t1 (List.mem_of_getElem? (i := 12) (by decide +kernel))) (by decide +kernel), ⟨by decide, by decide, by decide +kernel⟩, by decide⟩
theorem jiX11_summed : Cond.instanceMethod yX11_summed ∈ mx_g := mx_mem (in_t6 (List.mem_of_getElem? (i := 201) (by decide +kernel))) (by decide +kernel)
theorem jvX11_summed : Cond.selects (yX11_summed).cls yX11_summed yX11_summed ∈ mx_g := mx_mem (in_p4 (List.mem_of_getElem? (i := 7) (by decide +kernel))) (by decide +kernel)
theorem jX11_figure : mx_J mX11_figure 3 := ⟨mx_mem (in_t6 (List.mem_of_getElem? (i := 190) (by decide +kernel))) (by decide +kernel), mx_mem (in_t1 (List.mem_of_getElem? (i := 12) (by decide +kernel))) (by decide +kernel), ⟨by decide, by decide, by decide +kernel⟩, by decide⟩
theorem jiX11_figure : Cond.instanceMethod yX11_figure ∈ mx_g := mx_mem (in_t6 (List.mem_of_getElem? (i := 189) (by decide +kernel))) (by decide +kernel)
theorem jvX11_figure : Cond.selects (yX11_figure).cls yX11_figure yX11_figure ∈ mx_g := mx_mem (in_p4 (List.mem_of_getElem? (i := 4) (by decide +kernel))) (by decide +kernel)
theorem jX11_worded : mx_J mX11_worded 3 := ⟨mx_mem (in_t6 (List.mem_of_getElem? (i := 194) (by decide +kernel))) (by decide +kernel), mx_mem (in_t1 (List.mem_of_getElem? (i := 12) (by decide +kernel))) (by decide +kernel), ⟨by decide, by decide, by decide +kernel⟩, by decide⟩
theorem jiX11_worded : Cond.instanceMethod yX11_worded ∈ mx_g := mx_mem (in_t6 (List.mem_of_getElem? (i := 193) (by decide +kernel))) (by decide +kernel)
theorem jvX11_worded : Cond.selects (yX11_worded).cls yX11_worded yX11_worded ∈ mx_g := mx_mem (in_p4 (List.mem_of_getElem? (i := 5) (by decide +kernel))) (by decide +kernel)
theorem jX11_lawClause : mx_J mX11_lawClause 1 := ⟨mx_mem (in_t6 (List.mem_of_getElem? (i := 198) (by decide +kernel))) (by decide +kernel), mx_mem (in_t1 (List.mem_of_getElem? (i := 12) (by decide +kernel))) (by decide +kernel), ⟨by decide, by decide, by decide +kernel⟩, by decide⟩
theorem jiX11_lawClause : Cond.instanceMethod yX11_lawClause ∈ mx_g := mx_mem (in_t6 (List.mem_of_getElem? (i := 197) (by decide +kernel))) (by decide +kernel)
theorem jvX11_lawClause : Cond.selects (yX11_lawClause).cls yX11_lawClause yX11_lawClause ∈ mx_g := mx_mem (in_p4 (List.mem_of_getElem? (i := 6) (by decide +kernel))) (by decide +kernel)
theorem jX11_pair : mx_J mX11_pair 4 := ⟨mx_mem (in_t6 (List.mem_of_getElem? (i := 186) (by decide +kernel))) (by decide +kernel), mx_mem (in_t1 (List.mem_of_getElem? (i := 12) (by decide +kernel))) (by decide +kernel), ⟨by decide, by decide, by decide +kernel⟩, by decide⟩
theorem jiX11_pair : Cond.instanceMethod yX11_pair ∈ mx_g := mx_mem (in_t6 (List.mem_of_getElem? (i := 185) (by decide +kernel))) (by decide +kernel)
theorem jvX11_pair : Cond.selects (yX11_pair).cls yX11_pair yX11_pair ∈ mx_g := mx_mem (in_p4 (List.mem_of_getElem? (i := 3) (by decide +kernel))) (by decide +kernel)
theorem jX11_body : mx_J mX11_body 2 := ⟨mx_mem (in_t6 (List.mem_of_getElem? (i := 182) (by decide +kernel))) (by decide +kernel), mx_mem (in_t1 (List.mem_of_getElem? (i := 12) (by decide +kernel))) (by decide +kernel), ⟨by decide, by decide, by decide +kernel⟩, by decide⟩
theorem jiX11_body : Cond.instanceMethod yX11_body ∈ mx_g := mx_mem (in_t6 (List.mem_of_getElem? (i := 181) (by decide +kernel))) (by decide +kernel)
theorem jvX11_body : Cond.selects (yX11_body).cls yX11_body yX11_body ∈ mx_g := mx_mem (in_p4 (List.mem_of_getElem? (i := 2) (by decide +kernel))) (by decide +kernel)
theorem jX11_sortOf : mx_J mX11_sortOf 0 := ⟨mx_mem (in_t6 (List.mem_of_getElem? (i := 152) (by decide +kernel))) (by decide +kernel), mx_mem (in_t1 (List.mem_of_getElem? (i := 12) (by decide +kernel))) (by decide +kernel), ⟨by decide, by decide, by decide +kernel⟩, by decide⟩
theorem jiX11_sortOf : Cond.instanceMethod yX11_sortOf ∈ mx_g := mx_mem (in_t6 (List.mem_of_getElem? (i := 151) (by decide +kernel))) (by decide +kernel)
theorem jvX11_sortOf : Cond.selects (yX11_sortOf).cls yX11_sortOf yX11_sortOf ∈ mx_g := mx_mem (in_p3 (List.mem_of_getElem? (i := 15) (by decide +kernel))) (by decide +kernel)
theorem jX11_clause : mx_J mX11_clause 0 := ⟨mx_mem (in_t6 (List.mem_of_getElem? (i := 148) (by decide +kernel))) (by decide +kernel), mx_mem (in_t1 (List.mem_of_getElem? (i := 12) (by decide +kernel))) (by decide +kernel), ⟨by decide, by decide, by decide +kernel⟩, by decide⟩
theorem jiX11_clause : Cond.instanceMethod yX11_clause ∈ mx_g := mx_mem (in_t6 (List.mem_of_getElem? (i := 147) (by decide +kernel))) (by decide +kernel)
theorem jvX11_clause : Cond.selects (yX11_clause).cls yX11_clause yX11_clause ∈ mx_g := mx_mem (in_p3 (List.mem_of_getElem? (i := 14) (by decide +kernel))) (by decide +kernel)
theorem jX11_readText : mx_J mX11_readText 0 := ⟨mx_mem (in_t6 (List.mem_of_getElem? (i := 125) (by decide +kernel))) (by decide +kernel), mx_mem (in_t1 (List.mem_of_getElem? (i := 12) (by decide +kernel))) (by decide +kernel), ⟨by decide, by decide, by decide +kernel⟩, by decide⟩
theorem jiX11_readText : Cond.instanceMethod yX11_readText ∈ mx_g := mx_mem (in_t6 (List.mem_of_getElem? (i := 124) (by decide +kernel))) (by decide +kernel)
theorem jvX11_readText : Cond.selects (yX11_readText).cls yX11_readText yX11_readText ∈ mx_g := mx_mem (in_p3 (List.mem_of_getElem? (i := 11) (by decide +kernel))) (by decide +kernel)
theorem jX11_text : mx_J mX11_text 0 := ⟨mx_mem (in_t6 (List.mem_of_getElem? (i := 121) (by decide +kernel))) (by decide +kernel), mx_mem (in_t1 (List.mem_of_getElem? (i := 12) (by decide +kernel))) (by decide +kernel), ⟨by decide, by decide, by decide +kernel⟩, by decide⟩
theorem jiX11_text : Cond.instanceMethod yX11_text ∈ mx_g := mx_mem (in_t6 (List.mem_of_getElem? (i := 119) (by decide +kernel))) (by decide +kernel)
theorem jvX11_text : Cond.selects (yX11_text).cls yX11_text yX11_text ∈ mx_g := mx_mem (in_t6 (List.mem_of_getElem? (i := 120) (by decide +kernel))) (by decide +kernel)
theorem jX11_fault : mx_J mX11_fault 1 := ⟨mx_mem (in_t7 (List.mem_of_getElem? (i := 25) (by decide +kernel))) (by decide +kernel), mx_mem (in_t1 (List.mem_of_getElem? (i := 12) (by decide +kernel))) (by decide +kernel), ⟨by decide, by decide, by decide +kernel⟩, by decide⟩
theorem jiX11_fault : Cond.instanceMethod yX11_fault ∈ mx_g := mx_mem (in_t7 (List.mem_of_getElem? (i := 23) (by decide +kernel))) (by decide +kernel)
theorem jvX11_fault : Cond.selects (yX11_fault).cls yX11_fault yX11_fault ∈ mx_g := mx_mem (in_t7 (List.mem_of_getElem? (i := 24) (by decide +kernel))) (by decide +kernel)
theorem jX11_by : mx_J mX11_by 1 := ⟨mx_mem (in_t7 (List.mem_of_getElem? (i := 29) (by decide +kernel))) (by decide +kernel), mx_mem (in_t1 (List.mem_of_getElem? (i := 12) (by decide +kernel))) (by decide +kernel), ⟨by decide, by decide, by decide +kernel⟩, by decide⟩
theorem jiX11_by : Cond.instanceMethod yX11_by ∈ mx_g := mx_mem (in_t7 (List.mem_of_getElem? (i := 27) (by decide +kernel))) (by decide +kernel)
theorem jvX11_by : Cond.selects (yX11_by).cls yX11_by yX11_by ∈ mx_g := mx_mem (in_t7 (List.mem_of_getElem? (i := 28) (by decide +kernel))) (by decide +kernel)
theorem jX11_clip : mx_J mX11_clip 1 := ⟨mx_mem (in_t7 (List.mem_of_getElem? (i := 121) (by decide +kernel))) (by decide +kernel), mx_mem (in_t1 (List.mem_of_getElem? (i := 12) (by decide +kernel))) (by decide +kernel), ⟨by decide, by decide, by decide +kernel⟩, by decide⟩
theorem jsX11_clip : Cond.static yX11_clip ∈ mx_g := mx_mem (in_t7 (List.mem_of_getElem? (i := 120) (by decide +kernel))) (by decide +kernel)
theorem jX11_two : mx_J mX11_two 3 := ⟨mx_mem (in_t7 (List.mem_of_getElem? (i := 118) (by decide +kernel))) (by decide +kernel), mx_mem (in_t1 (List.mem_of_getElem? (i := 12) (by decide +kernel))) (by decide +kernel), ⟨by decide, by decide, by decide +kernel⟩, by decide⟩
theorem jsX11_two : Cond.static yX11_two ∈ mx_g := mx_mem (in_t7 (List.mem_of_getElem? (i := 117) (by decide +kernel))) (by decide +kernel)
theorem jX11_isAsked : mx_J mX11_isAsked 3 := ⟨mx_mem (in_t7 (List.mem_of_getElem? (i := 126) (by decide +kernel))) (by decide +kernel), mx_mem (in_t1 (List.mem_of_getElem? (i := 12) (by decide +kernel))) (by decide +kernel), ⟨by decide, by decide, by decide +kernel⟩, by decide⟩
theorem jsX11_isAsked : Cond.static yX11_isAsked ∈ mx_g := mx_mem (in_t7 (List.mem_of_getElem? (i := 125) (by decide +kernel))) (by decide +kernel)
theorem jX11_digitsOf : mx_J mX11_digitsOf 1 := ⟨mx_mem (in_t7 (List.mem_of_getElem? (i := 114) (by decide +kernel))) (by decide +kernel), mx_mem (in_t1 (List.mem_of_getElem? (i := 12) (by decide +kernel))) (by decide +kernel), ⟨by decide, by decide, by decide +kernel⟩, by decide⟩
theorem jsX11_digitsOf : Cond.static yX11_digitsOf ∈ mx_g := mx_mem (in_t7 (List.mem_of_getElem? (i := 113) (by decide +kernel))) (by decide +kernel)
theorem jX11_sumsOf : mx_J mX11_sumsOf 1 := ⟨mx_mem (in_t7 (List.mem_of_getElem? (i := 111) (by decide +kernel))) (by decide +kernel), mx_mem (in_t1 (List.mem_of_getElem? (i := 12) (by decide +kernel))) (by decide +kernel), ⟨by decide, by decide, by decide +kernel⟩, by decide⟩
theorem jiX11_sumsOf : Cond.instanceMethod yX11_sumsOf ∈ mx_g := mx_mem (in_t7 (List.mem_of_getElem? (i := 110) (by decide +kernel))) (by decide +kernel)
theorem jvX11_sumsOf : Cond.selects (yX11_sumsOf).cls yX11_sumsOf yX11_sumsOf ∈ mx_g := mx_mem (in_p6 (List.mem_of_getElem? (i := 3) (by decide +kernel))) (by decide +kernel)
theorem jX11_joined : mx_J mX11_joined 3 := ⟨mx_mem (in_t7 (List.mem_of_getElem? (i := 129) (by decide +kernel))) (by decide +kernel), mx_mem (in_t1 (List.mem_of_getElem? (i := 12) (by decide +kernel))) (by decide +kernel), ⟨by decide, by decide, by decide +kernel⟩, by decide⟩
theorem jsX11_joined : Cond.static yX11_joined ∈ mx_g := mx_mem (in_t7 (List.mem_of_getElem? (i := 128) (by decide +kernel))) (by decide +kernel)
theorem jX11_summedUp : mx_J mX11_summedUp 2 := ⟨mx_mem (in_t7 (List.mem_of_getElem? (i := 107) (by decide +kernel))) (by decide +kernel), mx_mem (in_t1 (List.mem_of_getElem? (i := 12) (by decide +kernel))) (by decide +kernel), ⟨by decide, by decide, by decide +kernel⟩, by decide⟩
theorem jiX11_summedUp : Cond.instanceMethod yX11_summedUp ∈ mx_g := mx_mem (in_t7 (List.mem_of_getElem? (i := 106) (by decide +kernel))) (by decide +kernel)
theorem jvX11_summedUp : Cond.selects (yX11_summedUp).cls yX11_summedUp yX11_summedUp ∈ mx_g := mx_mem (in_p6 (List.mem_of_getElem? (i := 2) (by decide +kernel))) (by decide +kernel)
theorem jX11_says : mx_J mX11_says 4 := ⟨mx_mem (in_t7 (List.mem_of_getElem? (i := 103) (by decide +kernel))) (by decide +kernel), mx_mem (in_t1 (List.mem_of_getElem? (i := 12) (by decide +kernel))) (by decide +kernel), ⟨by decide, by decide, by decide +kernel⟩, by decide⟩
theorem jiX11_says : Cond.instanceMethod yX11_says ∈ mx_g := mx_mem (in_t7 (List.mem_of_getElem? (i := 102) (by decide +kernel))) (by decide +kernel)
theorem jvX11_says : Cond.selects (yX11_says).cls yX11_says yX11_says ∈ mx_g := mx_mem (in_p6 (List.mem_of_getElem? (i := 1) (by decide +kernel))) (by decide +kernel)
theorem jX11_name : mx_J mX11_name 1 := ⟨mx_mem (in_t7 (List.mem_of_getElem? (i := 96) (by decide +kernel))) (by decide +kernel), mx_mem (in_t1 (List.mem_of_getElem? (i := 12) (by decide +kernel))) (by decide +kernel), ⟨by decide, by decide, by decide +kernel⟩, by decide⟩
theorem jiX11_name : Cond.instanceMethod yX11_name ∈ mx_g := mx_mem (in_t7 (List.mem_of_getElem? (i := 95) (by decide +kernel))) (by decide +kernel)
theorem jvX11_name : Cond.selects (yX11_name).cls yX11_name yX11_name ∈ mx_g := mx_mem (in_p6 (List.mem_of_getElem? (i := 0) (by decide +kernel))) (by decide +kernel)
theorem jX11_looseOf : mx_J mX11_looseOf 2 := ⟨mx_mem (in_t7 (List.mem_of_getElem? (i := 92) (by decide +kernel))) (by decide +kernel), mx_mem (in_t1 (List.mem_of_getElem? (i := 12) (by decide +kernel))) (by decide +kernel), ⟨by decide, by decide, by decide +kernel⟩, by decide⟩
theorem jiX11_looseOf : Cond.instanceMethod yX11_looseOf ∈ mx_g := mx_mem (in_t7 (List.mem_of_getElem? (i := 91) (by decide +kernel))) (by decide +kernel)
theorem jvX11_looseOf : Cond.selects (yX11_looseOf).cls yX11_looseOf yX11_looseOf ∈ mx_g := mx_mem (in_p5 (List.mem_of_getElem? (i := 15) (by decide +kernel))) (by decide +kernel)
theorem jX11_believesOf : mx_J mX11_believesOf 1 := ⟨mx_mem (in_t7 (List.mem_of_getElem? (i := 164) (by decide +kernel))) (by decide +kernel), mx_mem (in_t1 (List.mem_of_getElem? (i := 12) (by decide +kernel))) (by decide +kernel), ⟨by decide, by decide, by decide +kernel⟩, by decide⟩
theorem jiX11_believesOf : Cond.instanceMethod yX11_believesOf ∈ mx_g := mx_mem (in_t7 (List.mem_of_getElem? (i := 163) (by decide +kernel))) (by decide +kernel)
theorem jvX11_believesOf : Cond.selects (yX11_believesOf).cls yX11_believesOf yX11_believesOf ∈ mx_g := mx_mem (in_p6 (List.mem_of_getElem? (i := 8) (by decide +kernel))) (by decide +kernel)
theorem jX11_wearsOf : mx_J mX11_wearsOf 1 := ⟨mx_mem (in_t7 (List.mem_of_getElem? (i := 176) (by decide +kernel))) (by decide +kernel), mx_mem (in_t1 (List.mem_of_getElem? (i := 12) (by decide +kernel))) (by decide +kernel), ⟨by decide, by decide, by decide +kernel⟩, by decide⟩
theorem jiX11_wearsOf : Cond.instanceMethod yX11_wearsOf ∈ mx_g := mx_mem (in_t7 (List.mem_of_getElem? (i := 175) (by decide +kernel))) (by decide +kernel)
theorem jvX11_wearsOf : Cond.selects (yX11_wearsOf).cls yX11_wearsOf yX11_wearsOf ∈ mx_g := mx_mem (in_p6 (List.mem_of_getElem? (i := 11) (by decide +kernel))) (by decide +kernel)
theorem jX11_write : mx_J mX11_write 3 := ⟨mx_mem (in_t7 (List.mem_of_getElem? (i := 172) (by decide +kernel))) (by decide +kernel), mx_mem (in_t1 (List.mem_of_getElem? (i := 12) (by decide +kernel))) (by decide +kernel), ⟨by decide, by decide, by decide +kernel⟩, by decide⟩
theorem jiX11_write : Cond.instanceMethod yX11_write ∈ mx_g := mx_mem (in_t7 (List.mem_of_getElem? (i := 171) (by decide +kernel))) (by decide +kernel)
theorem jvX11_write : Cond.selects (yX11_write).cls yX11_write yX11_write ∈ mx_g := mx_mem (in_p6 (List.mem_of_getElem? (i := 10) (by decide +kernel))) (by decide +kernel)
theorem jX11_drawn : mx_J mX11_drawn 0 := ⟨mx_mem (in_t7 (List.mem_of_getElem? (i := 139) (by decide +kernel))) (by decide +kernel), mx_mem (in_t1 (List.mem_of_getElem? (i := 12) (by decide +kernel))) (by decide +kernel), ⟨by decide, by decide, by decide +kernel⟩, by decide⟩
theorem jiX11_drawn : Cond.instanceMethod yX11_drawn ∈ mx_g := mx_mem (in_t7 (List.mem_of_getElem? (i := 138) (by decide +kernel))) (by decide +kernel)
theorem jvX11_drawn : Cond.selects (yX11_drawn).cls yX11_drawn yX11_drawn ∈ mx_g := mx_mem (in_p6 (List.mem_of_getElem? (i := 4) (by decide +kernel))) (by decide +kernel)
theorem jX11_anew : mx_J mX11_anew 0 := ⟨mx_mem (in_t7 (List.mem_of_getElem? (i := 143) (by decide +kernel))) (by decide +kernel), mx_mem (in_t1 (List.mem_of_getElem? (i := 12) (by decide +kernel))) (by decide +kernel), ⟨by decide, by decide, by decide +kernel⟩, by decide⟩
theorem jiX11_anew : Cond.instanceMethod yX11_anew ∈ mx_g := mx_mem (in_t7 (List.mem_of_getElem? (i := 142) (by decide +kernel))) (by decide +kernel)
theorem jvX11_anew : Cond.selects (yX11_anew).cls yX11_anew yX11_anew ∈ mx_g := mx_mem (in_p6 (List.mem_of_getElem? (i := 5) (by decide +kernel))) (by decide +kernel)
theorem jX11_roll : mx_J mX11_roll 2 := ⟨mx_mem (in_t7 (List.mem_of_getElem? (i := 154) (by decide +kernel))) (by decide +kernel), mx_mem (in_t1 (List.mem_of_getElem? (i := 12) (by decide +kernel))) (by decide +kernel), ⟨by decide, by decide, by decide +kernel⟩, by decide⟩
theorem jiX11_roll : Cond.instanceMethod yX11_roll ∈ mx_g := mx_mem (in_t7 (List.mem_of_getElem? (i := 153) (by decide +kernel))) (by decide +kernel)
theorem jvX11_roll : Cond.selects (yX11_roll).cls yX11_roll yX11_roll ∈ mx_g := mx_mem (in_p6 (List.mem_of_getElem? (i := 7) (by decide +kernel))) (by decide +kernel)
theorem jX11_numberOfRoll : mx_J mX11_numberOfRoll 1 := ⟨mx_mem (in_t7 (List.mem_of_getElem? (i := 168) (by decide +kernel))) (by decide +kernel), mx_mem (in_t1 (List.mem_of_getElem? (i := 12) (by decide +kernel))) (by decide +kernel), ⟨by decide, by decide, by decide +kernel⟩, by decide⟩
theorem jiX11_numberOfRoll : Cond.instanceMethod yX11_numberOfRoll ∈ mx_g := mx_mem (in_t7 (List.mem_of_getElem? (i := 167) (by decide +kernel))) (by decide +kernel)
theorem jvX11_numberOfRoll : Cond.selects (yX11_numberOfRoll).cls yX11_numberOfRoll yX11_numberOfRoll ∈ mx_g := mx_mem (in_p6 (List.mem_of_getElem? (i := 9) (by decide +kernel))) (by decide +kernel)
theorem jX11_clearRoll : mx_J mX11_clearRoll 1 := ⟨mx_mem (in_t7 (List.mem_of_getElem? (i := 72) (by decide +kernel))) (by decide +kernel), mx_mem (in_t1 (List.mem_of_getElem? (i := 12) (by decide +kernel))) (by decide +kernel), ⟨by decide, by decide, by decide +kernel⟩, by decide⟩
theorem jiX11_clearRoll : Cond.instanceMethod yX11_clearRoll ∈ mx_g := mx_mem (in_t7 (List.mem_of_getElem? (i := 71) (by decide +kernel))) (by decide +kernel)
theorem jvX11_clearRoll : Cond.selects (yX11_clearRoll).cls yX11_clearRoll yX11_clearRoll ∈ mx_g := mx_mem (in_p5 (List.mem_of_getElem? (i := 11) (by decide +kernel))) (by decide +kernel)
theorem jX11_dream : mx_J mX11_dream 1 := ⟨mx_mem (in_t7 (List.mem_of_getElem? (i := 88) (by decide +kernel))) (by decide +kernel), mx_mem (in_t1 (List.mem_of_getElem? (i := 12) (by decide +kernel))) (by decide +kernel), ⟨by decide, by decide, by decide +kernel⟩, by decide⟩
theorem jiX11_dream : Cond.instanceMethod yX11_dream ∈ mx_g := mx_mem (in_t7 (List.mem_of_getElem? (i := 87) (by decide +kernel))) (by decide +kernel)
theorem jvX11_dream : Cond.selects (yX11_dream).cls yX11_dream yX11_dream ∈ mx_g := mx_mem (in_p5 (List.mem_of_getElem? (i := 14) (by decide +kernel))) (by decide +kernel)
theorem jX11_pass : mx_J mX11_pass 0 := ⟨mx_mem (in_t7 (List.mem_of_getElem? (i := 84) (by decide +kernel))) (by decide +kernel), mx_mem (in_t1 (List.mem_of_getElem? (i := 12) (by decide +kernel))) (by decide +kernel), ⟨by decide, by decide, by decide +kernel⟩, by decide⟩
theorem jiX11_pass : Cond.instanceMethod yX11_pass ∈ mx_g := mx_mem (in_t7 (List.mem_of_getElem? (i := 83) (by decide +kernel))) (by decide +kernel)
theorem jvX11_pass : Cond.selects (yX11_pass).cls yX11_pass yX11_pass ∈ mx_g := mx_mem (in_p5 (List.mem_of_getElem? (i := 13) (by decide +kernel))) (by decide +kernel)
theorem jX11_keep : mx_J mX11_keep 0 := ⟨mx_mem (in_t7 (List.mem_of_getElem? (i := 52) (by decide +kernel))) (by decide +kernel), mx_mem (in_t1 (List.mem_of_getElem? (i := 12) (by decide +kernel))) (by decide +kernel), ⟨by decide, by decide, by decide +kernel⟩, by decide⟩
theorem jiX11_keep : Cond.instanceMethod yX11_keep ∈ mx_g := mx_mem (in_t7 (List.mem_of_getElem? (i := 51) (by decide +kernel))) (by decide +kernel)
theorem jvX11_keep : Cond.selects (yX11_keep).cls yX11_keep yX11_keep ∈ mx_g := mx_mem (in_p5 (List.mem_of_getElem? (i := 8) (by decide +kernel))) (by decide +kernel)
theorem jX11_undo : mx_J mX11_undo 0 := ⟨mx_mem (in_t7 (List.mem_of_getElem? (i := 33) (by decide +kernel))) (by decide +kernel), mx_mem (in_t1 (List.mem_of_getElem? (i := 12) (by decide +kernel))) (by decide +kernel), ⟨by decide, by decide, by decide +kernel⟩, by decide⟩
theorem jiX11_undo : Cond.instanceMethod yX11_undo ∈ mx_g := mx_mem (in_t7 (List.mem_of_getElem? (i := 31) (by decide +kernel))) (by decide +kernel)
theorem jvX11_undo : Cond.selects (yX11_undo).cls yX11_undo yX11_undo ∈ mx_g := mx_mem (in_t7 (List.mem_of_getElem? (i := 32) (by decide +kernel))) (by decide +kernel)
theorem jX11_canCrank : mx_J mX11_canCrank 1 := ⟨mx_mem (in_t7 (List.mem_of_getElem? (i := 41) (by decide +kernel))) (by decide +kernel), mx_mem (in_t1 (List.mem_of_getElem? (i := 12) (by decide +kernel))) (by decide +kernel), ⟨by decide, by decide, by decide +kernel⟩, by decide⟩
theorem jiX11_canCrank : Cond.instanceMethod yX11_canCrank ∈ mx_g := mx_mem (in_t7 (List.mem_of_getElem? (i := 40) (by decide +kernel))) (by decide +kernel)
theorem jvX11_canCrank : Cond.selects (yX11_canCrank).cls yX11_canCrank yX11_canCrank ∈ mx_g := mx_mem (in_p5 (List.mem_of_getElem? (i := 6) (by decide +kernel))) (by decide +kernel)
theorem jX11_crankNow : mx_J mX11_crankNow 2 := ⟨mx_mem (in_t7 (List.mem_of_getElem? (i := 56) (by decide +kernel))) (by decide +kernel), mx_mem (in_t1 (List.mem_of_getElem? (i := 12) (by decide +kernel))) (by decide +kernel), ⟨by decide, by decide, by decide +kernel⟩, by decide⟩
theorem jiX11_crankNow : Cond.instanceMethod yX11_crankNow ∈ mx_g := mx_mem (in_t7 (List.mem_of_getElem? (i := 55) (by decide +kernel))) (by decide +kernel)
theorem jvX11_crankNow : Cond.selects (yX11_crankNow).cls yX11_crankNow yX11_crankNow ∈ mx_g := mx_mem (in_p5 (List.mem_of_getElem? (i := 9) (by decide +kernel))) (by decide +kernel)
theorem jX11_crank : mx_J mX11_crank 2 := ⟨mx_mem (in_t7 (List.mem_of_getElem? (i := 37) (by decide +kernel))) (by decide +kernel), mx_mem (in_t1 (List.mem_of_getElem? (i := 12) (by decide +kernel))) (by decide +kernel), ⟨by decide, by decide, by decide +kernel⟩, by decide⟩
theorem jiX11_crank : Cond.instanceMethod yX11_crank ∈ mx_g := mx_mem (in_t7 (List.mem_of_getElem? (i := 35) (by decide +kernel))) (by decide +kernel)
theorem jvX11_crank : Cond.selects (yX11_crank).cls yX11_crank yX11_crank ∈ mx_g := mx_mem (in_t7 (List.mem_of_getElem? (i := 36) (by decide +kernel))) (by decide +kernel)
theorem jX11_oil : mx_J mX11_oil 2 := ⟨mx_mem (in_t7 (List.mem_of_getElem? (i := 60) (by decide +kernel))) (by decide +kernel), mx_mem (in_t1 (List.mem_of_getElem? (i := 12) (by decide +kernel))) (by decide +kernel), ⟨by decide, by decide, by decide +kernel⟩, by decide⟩
theorem jiX11_oil : Cond.instanceMethod yX11_oil ∈ mx_g := mx_mem (in_t7 (List.mem_of_getElem? (i := 58) (by decide +kernel))) (by decide +kernel)
theorem jvX11_oil : Cond.selects (yX11_oil).cls yX11_oil yX11_oil ∈ mx_g := mx_mem (in_t7 (List.mem_of_getElem? (i := 59) (by decide +kernel))) (by decide +kernel)
theorem jX11_canLift : mx_J mX11_canLift 1 := ⟨mx_mem (in_t7 (List.mem_of_getElem? (i := 68) (by decide +kernel))) (by decide +kernel), mx_mem (in_t1 (List.mem_of_getElem? (i := 12) (by decide +kernel))) (by decide +kernel), ⟨by decide, by decide, by decide +kernel⟩, by decide⟩
theorem jiX11_canLift : Cond.instanceMethod yX11_canLift ∈ mx_g := mx_mem (in_t7 (List.mem_of_getElem? (i := 67) (by decide +kernel))) (by decide +kernel)
theorem jvX11_canLift : Cond.selects (yX11_canLift).cls yX11_canLift yX11_canLift ∈ mx_g := mx_mem (in_p5 (List.mem_of_getElem? (i := 10) (by decide +kernel))) (by decide +kernel)
theorem jX11_lift : mx_J mX11_lift 1 := ⟨mx_mem (in_t7 (List.mem_of_getElem? (i := 64) (by decide +kernel))) (by decide +kernel), mx_mem (in_t1 (List.mem_of_getElem? (i := 12) (by decide +kernel))) (by decide +kernel), ⟨by decide, by decide, by decide +kernel⟩, by decide⟩
theorem jiX11_lift : Cond.instanceMethod yX11_lift ∈ mx_g := mx_mem (in_t7 (List.mem_of_getElem? (i := 62) (by decide +kernel))) (by decide +kernel)
theorem jvX11_lift : Cond.selects (yX11_lift).cls yX11_lift yX11_lift ∈ mx_g := mx_mem (in_t7 (List.mem_of_getElem? (i := 63) (by decide +kernel))) (by decide +kernel)
theorem jX11_arePassed : mx_J mX11_arePassed 1 := ⟨mx_mem (in_t7 (List.mem_of_getElem? (i := 80) (by decide +kernel))) (by decide +kernel), mx_mem (in_t1 (List.mem_of_getElem? (i := 12) (by decide +kernel))) (by decide +kernel), ⟨by decide, by decide, by decide +kernel⟩, by decide⟩
theorem jiX11_arePassed : Cond.instanceMethod yX11_arePassed ∈ mx_g := mx_mem (in_t7 (List.mem_of_getElem? (i := 79) (by decide +kernel))) (by decide +kernel)
theorem jvX11_arePassed : Cond.selects (yX11_arePassed).cls yX11_arePassed yX11_arePassed ∈ mx_g := mx_mem (in_p5 (List.mem_of_getElem? (i := 12) (by decide +kernel))) (by decide +kernel)
theorem jX11_night : mx_J mX11_night 1 := ⟨mx_mem (in_t7 (List.mem_of_getElem? (i := 76) (by decide +kernel))) (by decide +kernel), mx_mem (in_t1 (List.mem_of_getElem? (i := 12) (by decide +kernel))) (by decide +kernel), ⟨by decide, by decide, by decide +kernel⟩, by decide⟩
theorem jiX11_night : Cond.instanceMethod yX11_night ∈ mx_g := mx_mem (in_t7 (List.mem_of_getElem? (i := 74) (by decide +kernel))) (by decide +kernel)
theorem jvX11_night : Cond.selects (yX11_night).cls yX11_night yX11_night ∈ mx_g := mx_mem (in_t7 (List.mem_of_getElem? (i := 75) (by decide +kernel))) (by decide +kernel)
theorem jX11_isPlayed : mx_J mX11_isPlayed 1 := ⟨mx_mem (in_t7 (List.mem_of_getElem? (i := 184) (by decide +kernel))) (by decide +kernel), mx_mem (in_t1 (List.mem_of_getElem? (i := 12) (by decide +kernel))) (by decide +kernel), ⟨by decide, by decide, by decide +kernel⟩, by decide⟩
theorem jiX11_isPlayed : Cond.instanceMethod yX11_isPlayed ∈ mx_g := mx_mem (in_t7 (List.mem_of_getElem? (i := 183) (by decide +kernel))) (by decide +kernel)
theorem jvX11_isPlayed : Cond.selects (yX11_isPlayed).cls yX11_isPlayed yX11_isPlayed ∈ mx_g := mx_mem (in_p6 (List.mem_of_getElem? (i := 12) (by decide +kernel))) (by decide +kernel)
theorem jX11_played : mx_J mX11_played 1 := ⟨mx_mem (in_t7 (List.mem_of_getElem? (i := 180) (by decide +kernel))) (by decide +kernel), mx_mem (in_t1 (List.mem_of_getElem? (i := 12) (by decide +kernel))) (by decide +kernel), ⟨by decide, by decide, by decide +kernel⟩, by decide⟩
theorem jiX11_played : Cond.instanceMethod yX11_played ∈ mx_g := mx_mem (in_t7 (List.mem_of_getElem? (i := 178) (by decide +kernel))) (by decide +kernel)
theorem jvX11_played : Cond.selects (yX11_played).cls yX11_played yX11_played ∈ mx_g := mx_mem (in_t7 (List.mem_of_getElem? (i := 179) (by decide +kernel))) (by decide +kernel)
theorem jX11_happens : mx_J mX11_happens 1 := ⟨mx_mem (in_t7 (List.mem_of_getElem? (i := 197) (by decide +kernel))) (by decide +kernel), mx_mem (in_t1 (List.mem_of_getElem? (i := 12) (by decide +kernel))) (by decide +kernel), ⟨by decide, by decide, by decide +kernel⟩, by decide⟩
theorem jiX11_happens : Cond.instanceMethod yX11_happens ∈ mx_g := mx_mem (in_t7 (List.mem_of_getElem? (i := 196) (by decide +kernel))) (by decide +kernel)
theorem jvX11_happens : Cond.selects (yX11_happens).cls yX11_happens yX11_happens ∈ mx_g := mx_mem (in_p6 (List.mem_of_getElem? (i := 13) (by decide +kernel))) (by decide +kernel)
theorem jX11_decades : mx_J mX11_decades 2 := ⟨mx_mem (in_t7 (List.mem_of_getElem? (i := 193) (by decide +kernel))) (by decide +kernel), mx_mem (in_t1 (List.mem_of_getElem? (i := 12) (by decide +kernel))) (by decide +kernel), ⟨by decide, by decide, by decide +kernel⟩, by decide⟩
theorem jiX11_decades : Cond.instanceMethod yX11_decades ∈ mx_g := mx_mem (in_t7 (List.mem_of_getElem? (i := 191) (by decide +kernel))) (by decide +kernel)
theorem jvX11_decades : Cond.selects (yX11_decades).cls yX11_decades yX11_decades ∈ mx_g := mx_mem (in_t7 (List.mem_of_getElem? (i := 192) (by decide +kernel))) (by decide +kernel)
theorem jX11_of : mx_J mX11_of 2 := ⟨mx_mem (in_t7 (List.mem_of_getElem? (i := 201) (by decide +kernel))) (by decide +kernel), mx_mem (in_t1 (List.mem_of_getElem? (i := 12) (by decide +kernel))) (by decide +kernel), ⟨by decide, by decide, by decide +kernel⟩, by decide⟩
theorem jiX11_of : Cond.instanceMethod yX11_of ∈ mx_g := mx_mem (in_t7 (List.mem_of_getElem? (i := 199) (by decide +kernel))) (by decide +kernel)
theorem jvX11_of : Cond.selects (yX11_of).cls yX11_of yX11_of ∈ mx_g := mx_mem (in_t7 (List.mem_of_getElem? (i := 200) (by decide +kernel))) (by decide +kernel)
theorem jX11_told : mx_J mX11_told 2 := ⟨mx_mem (in_t7 (List.mem_of_getElem? (i := 205) (by decide +kernel))) (by decide +kernel), mx_mem (in_t1 (List.mem_of_getElem? (i := 12) (by decide +kernel))) (by decide +kernel), ⟨by decide, by decide, by decide +kernel⟩, by decide⟩
theorem jiX11_told : Cond.instanceMethod yX11_told ∈ mx_g := mx_mem (in_t7 (List.mem_of_getElem? (i := 203) (by decide +kernel))) (by decide +kernel)
theorem jvX11_told : Cond.selects (yX11_told).cls yX11_told yX11_told ∈ mx_g := mx_mem (in_t7 (List.mem_of_getElem? (i := 204) (by decide +kernel))) (by decide +kernel)
theorem jX11_is : mx_J mX11_is 1 := ⟨mx_mem (in_t7 (List.mem_of_getElem? (i := 209) (by decide +kernel))) (by decide +kernel), mx_mem (in_t1 (List.mem_of_getElem? (i := 12) (by decide +kernel))) (by decide +kernel), ⟨by decide, by decide, by decide +kernel⟩, by decide⟩
theorem jiX11_is : Cond.instanceMethod yX11_is ∈ mx_g := mx_mem (in_t7 (List.mem_of_getElem? (i := 207) (by decide +kernel))) (by decide +kernel)
theorem jvX11_is : Cond.selects (yX11_is).cls yX11_is yX11_is ∈ mx_g := mx_mem (in_t7 (List.mem_of_getElem? (i := 208) (by decide +kernel))) (by decide +kernel)
theorem jX11_book : mx_J mX11_book 2 := ⟨mx_mem (in_t7 (List.mem_of_getElem? (i := 213) (by decide +kernel))) (by decide +kernel), mx_mem (in_t1 (List.mem_of_getElem? (i := 12) (by decide +kernel))) (by decide +kernel), ⟨by decide, by decide, by decide +kernel⟩, by decide⟩
theorem jiX11_book : Cond.instanceMethod yX11_book ∈ mx_g := mx_mem (in_t7 (List.mem_of_getElem? (i := 211) (by decide +kernel))) (by decide +kernel)
theorem jvX11_book : Cond.selects (yX11_book).cls yX11_book yX11_book ∈ mx_g := mx_mem (in_t7 (List.mem_of_getElem? (i := 212) (by decide +kernel))) (by decide +kernel)
theorem jX11_ledger : mx_J mX11_ledger 1 := ⟨mx_mem (in_t7 (List.mem_of_getElem? (i := 217) (by decide +kernel))) (by decide +kernel), mx_mem (in_t1 (List.mem_of_getElem? (i := 12) (by decide +kernel))) (by decide +kernel), ⟨by decide, by decide, by decide +kernel⟩, by decide⟩
theorem jiX11_ledger : Cond.instanceMethod yX11_ledger ∈ mx_g := mx_mem (in_t7 (List.mem_of_getElem? (i := 215) (by decide +kernel))) (by decide +kernel)
theorem jvX11_ledger : Cond.selects (yX11_ledger).cls yX11_ledger yX11_ledger ∈ mx_g := mx_mem (in_t7 (List.mem_of_getElem? (i := 216) (by decide +kernel))) (by decide +kernel)
theorem jX11_snow : mx_J mX11_snow 0 := ⟨mx_mem (in_t7 (List.mem_of_getElem? (i := 222) (by decide +kernel))) (by decide +kernel), mx_mem (in_t1 (List.mem_of_getElem? (i := 12) (by decide +kernel))) (by decide +kernel), ⟨by decide, by decide, by decide +kernel⟩, by decide⟩
theorem jiX11_snow : Cond.instanceMethod yX11_snow ∈ mx_g := mx_mem (in_t7 (List.mem_of_getElem? (i := 220) (by decide +kernel))) (by decide +kernel)
theorem jvX11_snow : Cond.selects (yX11_snow).cls yX11_snow yX11_snow ∈ mx_g := mx_mem (in_t7 (List.mem_of_getElem? (i := 221) (by decide +kernel))) (by decide +kernel)
theorem jX11_worn : mx_J mX11_worn 0 := ⟨mx_mem (in_t7 (List.mem_of_getElem? (i := 226) (by decide +kernel))) (by decide +kernel), mx_mem (in_t1 (List.mem_of_getElem? (i := 12) (by decide +kernel))) (by decide +kernel), ⟨by decide, by decide, by decide +kernel⟩, by decide⟩
theorem jiX11_worn : Cond.instanceMethod yX11_worn ∈ mx_g := mx_mem (in_t7 (List.mem_of_getElem? (i := 224) (by decide +kernel))) (by decide +kernel)
theorem jvX11_worn : Cond.selects (yX11_worn).cls yX11_worn yX11_worn ∈ mx_g := mx_mem (in_t7 (List.mem_of_getElem? (i := 225) (by decide +kernel))) (by decide +kernel)
theorem jX11_blank : mx_J mX11_blank 0 := ⟨mx_mem (in_t7 (List.mem_of_getElem? (i := 230) (by decide +kernel))) (by decide +kernel), mx_mem (in_t1 (List.mem_of_getElem? (i := 12) (by decide +kernel))) (by decide +kernel), ⟨by decide, by decide, by decide +kernel⟩, by decide⟩
theorem jiX11_blank : Cond.instanceMethod yX11_blank ∈ mx_g := mx_mem (in_t7 (List.mem_of_getElem? (i := 228) (by decide +kernel))) (by decide +kernel)
theorem jvX11_blank : Cond.selects (yX11_blank).cls yX11_blank yX11_blank ∈ mx_g := mx_mem (in_t7 (List.mem_of_getElem? (i := 229) (by decide +kernel))) (by decide +kernel)
theorem jX11_sumOf : mx_J mX11_sumOf 1 := ⟨mx_mem (in_t7 (List.mem_of_getElem? (i := 238) (by decide +kernel))) (by decide +kernel), mx_mem (in_t1 (List.mem_of_getElem? (i := 12) (by decide +kernel))) (by decide +kernel), ⟨by decide, by decide, by decide +kernel⟩, by decide⟩
theorem jiX11_sumOf : Cond.instanceMethod yX11_sumOf ∈ mx_g := mx_mem (in_t7 (List.mem_of_getElem? (i := 237) (by decide +kernel))) (by decide +kernel)
theorem jvX11_sumOf : Cond.selects (yX11_sumOf).cls yX11_sumOf yX11_sumOf ∈ mx_g := mx_mem (in_p6 (List.mem_of_getElem? (i := 14) (by decide +kernel))) (by decide +kernel)
theorem jX11_forgiven : mx_J mX11_forgiven 1 := ⟨mx_mem (in_t7 (List.mem_of_getElem? (i := 234) (by decide +kernel))) (by decide +kernel), mx_mem (in_t1 (List.mem_of_getElem? (i := 12) (by decide +kernel))) (by decide +kernel), ⟨by decide, by decide, by decide +kernel⟩, by decide⟩
theorem jiX11_forgiven : Cond.instanceMethod yX11_forgiven ∈ mx_g := mx_mem (in_t7 (List.mem_of_getElem? (i := 232) (by decide +kernel))) (by decide +kernel)
theorem jvX11_forgiven : Cond.selects (yX11_forgiven).cls yX11_forgiven yX11_forgiven ∈ mx_g := mx_mem (in_t7 (List.mem_of_getElem? (i := 233) (by decide +kernel))) (by decide +kernel)
theorem jX11_setAside : mx_J mX11_setAside 0 := ⟨mx_mem (in_t8 (List.mem_of_getElem? (i := 9) (by decide +kernel))) (by decide +kernel), mx_mem (in_t1 (List.mem_of_getElem? (i := 12) (by decide +kernel))) (by decide +kernel), ⟨by decide, by decide, by decide +kernel⟩, by decide⟩
theorem jiX11_setAside : Cond.instanceMethod yX11_setAside ∈ mx_g := mx_mem (in_t8 (List.mem_of_getElem? (i := 8) (by decide +kernel))) (by decide +kernel)
theorem jvX11_setAside : Cond.selects (yX11_setAside).cls yX11_setAside yX11_setAside ∈ mx_g := mx_mem (in_p6 (List.mem_of_getElem? (i := 15) (by decide +kernel))) (by decide +kernel)
theorem jX11_putBack : mx_J mX11_putBack 0 := ⟨mx_mem (in_t8 (List.mem_of_getElem? (i := 13) (by decide +kernel))) (by decide +kernel), mx_mem (in_t1 (List.mem_of_getElem? (i := 12) (by decide +kernel))) (by decide +kernel), ⟨by decide, by decide, by decide +kernel⟩, by decide⟩
theorem jiX11_putBack : Cond.instanceMethod yX11_putBack ∈ mx_g := mx_mem (in_t8 (List.mem_of_getElem? (i := 12) (by decide +kernel))) (by decide +kernel)
theorem jvX11_putBack : Cond.selects (yX11_putBack).cls yX11_putBack yX11_putBack ∈ mx_g := mx_mem (in_p7 (List.mem_of_getElem? (i := 0) (by decide +kernel))) (by decide +kernel)
theorem jX11_foretold : mx_J mX11_foretold 3 := ⟨mx_mem (in_t8 (List.mem_of_getElem? (i := 5) (by decide +kernel))) (by decide +kernel), mx_mem (in_t1 (List.mem_of_getElem? (i := 12) (by decide +kernel))) (by decide +kernel), ⟨by decide, by decide, by decide +kernel⟩, by decide⟩
theorem jiX11_foretold : Cond.instanceMethod yX11_foretold ∈ mx_g := mx_mem (in_t8 (List.mem_of_getElem? (i := 3) (by decide +kernel))) (by decide +kernel)
theorem jvX11_foretold : Cond.selects (yX11_foretold).cls yX11_foretold yX11_foretold ∈ mx_g := mx_mem (in_t8 (List.mem_of_getElem? (i := 4) (by decide +kernel))) (by decide +kernel)
theorem jX11_behind : mx_J mX11_behind 3 := ⟨mx_mem (in_t8 (List.mem_of_getElem? (i := 21) (by decide +kernel))) (by decide +kernel), mx_mem (in_t1 (List.mem_of_getElem? (i := 12) (by decide +kernel))) (by decide +kernel), ⟨by decide, by decide, by decide +kernel⟩, by decide⟩
theorem jiX11_behind : Cond.instanceMethod yX11_behind ∈ mx_g := mx_mem (in_t8 (List.mem_of_getElem? (i := 20) (by decide +kernel))) (by decide +kernel)
theorem jvX11_behind : Cond.selects (yX11_behind).cls yX11_behind yX11_behind ∈ mx_g := mx_mem (in_p7 (List.mem_of_getElem? (i := 1) (by decide +kernel))) (by decide +kernel)
theorem jX11_put : mx_J mX11_put 1 := ⟨mx_mem (in_t8 (List.mem_of_getElem? (i := 17) (by decide +kernel))) (by decide +kernel), mx_mem (in_t1 (List.mem_of_getElem? (i := 12) (by decide +kernel))) (by decide +kernel), ⟨by decide, by decide, by decide +kernel⟩, by decide⟩
theorem jiX11_put : Cond.instanceMethod yX11_put ∈ mx_g := mx_mem (in_t8 (List.mem_of_getElem? (i := 15) (by decide +kernel))) (by decide +kernel)
theorem jvX11_put : Cond.selects (yX11_put).cls yX11_put yX11_put ∈ mx_g := mx_mem (in_t8 (List.mem_of_getElem? (i := 16) (by decide +kernel))) (by decide +kernel)
theorem jX11_second : mx_J mX11_second 1 := ⟨mx_mem (in_t8 (List.mem_of_getElem? (i := 25) (by decide +kernel))) (by decide +kernel), mx_mem (in_t1 (List.mem_of_getElem? (i := 12) (by decide +kernel))) (by decide +kernel), ⟨by decide, by decide, by decide +kernel⟩, by decide⟩
theorem jiX11_second : Cond.instanceMethod yX11_second ∈ mx_g := mx_mem (in_t8 (List.mem_of_getElem? (i := 23) (by decide +kernel))) (by decide +kernel)
theorem jvX11_second : Cond.selects (yX11_second).cls yX11_second yX11_second ∈ mx_g := mx_mem (in_t8 (List.mem_of_getElem? (i := 24) (by decide +kernel))) (by decide +kernel)
theorem jX11_goesOn : mx_J mX11_goesOn 2 := ⟨mx_mem (in_t8 (List.mem_of_getElem? (i := 37) (by decide +kernel))) (by decide +kernel), mx_mem (in_t1 (List.mem_of_getElem? (i := 12) (by decide +kernel))) (by decide +kernel), ⟨by decide, by decide, by decide +kernel⟩, by decide⟩
theorem jiX11_goesOn : Cond.instanceMethod yX11_goesOn ∈ mx_g := mx_mem (in_t8 (List.mem_of_getElem? (i := 36) (by decide +kernel))) (by decide +kernel)
theorem jvX11_goesOn : Cond.selects (yX11_goesOn).cls yX11_goesOn yX11_goesOn ∈ mx_g := mx_mem (in_p7 (List.mem_of_getElem? (i := 3) (by decide +kernel))) (by decide +kernel)
theorem jX11_waysOf : mx_J mX11_waysOf 3 := ⟨mx_mem (in_t8 (List.mem_of_getElem? (i := 33) (by decide +kernel))) (by decide +kernel), mx_mem (in_t1 (List.mem_of_getElem? (i := 12) (by decide +kernel))) (by decide +kernel), ⟨by decide, by decide, by decide +kernel⟩, by decide⟩
theorem jiX11_waysOf : Cond.instanceMethod yX11_waysOf ∈ mx_g := mx_mem (in_t8 (List.mem_of_getElem? (i := 32) (by decide +kernel))) (by decide +kernel)
theorem jvX11_waysOf : Cond.selects (yX11_waysOf).cls yX11_waysOf yX11_waysOf ∈ mx_g := mx_mem (in_p7 (List.mem_of_getElem? (i := 2) (by decide +kernel))) (by decide +kernel)
theorem jX11_may : mx_J mX11_may 1 := ⟨mx_mem (in_t8 (List.mem_of_getElem? (i := 29) (by decide +kernel))) (by decide +kernel), mx_mem (in_t1 (List.mem_of_getElem? (i := 12) (by decide +kernel))) (by decide +kernel), ⟨by decide, by decide, by decide +kernel⟩, by decide⟩
theorem jiX11_may : Cond.instanceMethod yX11_may ∈ mx_g := mx_mem (in_t8 (List.mem_of_getElem? (i := 27) (by decide +kernel))) (by decide +kernel)
theorem jvX11_may : Cond.selects (yX11_may).cls yX11_may yX11_may ∈ mx_g := mx_mem (in_t8 (List.mem_of_getElem? (i := 28) (by decide +kernel))) (by decide +kernel)
theorem jX11_divisor : mx_J mX11_divisor 2 := ⟨mx_mem (in_t8 (List.mem_of_getElem? (i := 48) (by decide +kernel))) (by decide +kernel), mx_mem (in_t1 (List.mem_of_getElem? (i := 12) (by decide +kernel))) (by decide +kernel), ⟨by decide, by decide, by decide +kernel⟩, by decide⟩
theorem jsX11_divisor : Cond.static yX11_divisor ∈ mx_g := mx_mem (in_t8 (List.mem_of_getElem? (i := 47) (by decide +kernel))) (by decide +kernel)
theorem jX11_tens : mx_J mX11_tens 1 := ⟨mx_mem (in_t8 (List.mem_of_getElem? (i := 45) (by decide +kernel))) (by decide +kernel), mx_mem (in_t1 (List.mem_of_getElem? (i := 12) (by decide +kernel))) (by decide +kernel), ⟨by decide, by decide, by decide +kernel⟩, by decide⟩
theorem jsX11_tens : Cond.static yX11_tens ∈ mx_g := mx_mem (in_t8 (List.mem_of_getElem? (i := 44) (by decide +kernel))) (by decide +kernel)
theorem jX11_odds : mx_J mX11_odds 3 := ⟨mx_mem (in_t8 (List.mem_of_getElem? (i := 42) (by decide +kernel))) (by decide +kernel), mx_mem (in_t1 (List.mem_of_getElem? (i := 12) (by decide +kernel))) (by decide +kernel), ⟨by decide, by decide, by decide +kernel⟩, by decide⟩
theorem jiX11_odds : Cond.instanceMethod yX11_odds ∈ mx_g := mx_mem (in_t8 (List.mem_of_getElem? (i := 40) (by decide +kernel))) (by decide +kernel)
theorem jvX11_odds : Cond.selects (yX11_odds).cls yX11_odds yX11_odds ∈ mx_g := mx_mem (in_t8 (List.mem_of_getElem? (i := 41) (by decide +kernel))) (by decide +kernel)
theorem jX11_day : mx_J mX11_day 1 := ⟨mx_mem (in_t8 (List.mem_of_getElem? (i := 52) (by decide +kernel))) (by decide +kernel), mx_mem (in_t1 (List.mem_of_getElem? (i := 12) (by decide +kernel))) (by decide +kernel), ⟨by decide, by decide, by decide +kernel⟩, by decide⟩
theorem jiX11_day : Cond.instanceMethod yX11_day ∈ mx_g := mx_mem (in_t8 (List.mem_of_getElem? (i := 50) (by decide +kernel))) (by decide +kernel)
theorem jvX11_day : Cond.selects (yX11_day).cls yX11_day yX11_day ∈ mx_g := mx_mem (in_t8 (List.mem_of_getElem? (i := 51) (by decide +kernel))) (by decide +kernel)
theorem jX11_fits : mx_J mX11_fits 0 := ⟨mx_mem (in_t8 (List.mem_of_getElem? (i := 56) (by decide +kernel))) (by decide +kernel), mx_mem (in_t1 (List.mem_of_getElem? (i := 12) (by decide +kernel))) (by decide +kernel), ⟨by decide, by decide, by decide +kernel⟩, by decide⟩
theorem jiX11_fits : Cond.instanceMethod yX11_fits ∈ mx_g := mx_mem (in_t8 (List.mem_of_getElem? (i := 54) (by decide +kernel))) (by decide +kernel)
theorem jvX11_fits : Cond.selects (yX11_fits).cls yX11_fits yX11_fits ∈ mx_g := mx_mem (in_t8 (List.mem_of_getElem? (i := 55) (by decide +kernel))) (by decide +kernel)
theorem jX11_likeliest : mx_J mX11_likeliest 1 := ⟨mx_mem (in_t8 (List.mem_of_getElem? (i := 60) (by decide +kernel))) (by decide +kernel), mx_mem (in_t1 (List.mem_of_getElem? (i := 12) (by decide +kernel))) (by decide +kernel), ⟨by decide, by decide, by decide +kernel⟩, by decide⟩
theorem jiX11_likeliest : Cond.instanceMethod yX11_likeliest ∈ mx_g := mx_mem (in_t8 (List.mem_of_getElem? (i := 58) (by decide +kernel))) (by decide +kernel)
theorem jvX11_likeliest : Cond.selects (yX11_likeliest).cls yX11_likeliest yX11_likeliest ∈ mx_g := mx_mem (in_t8 (List.mem_of_getElem? (i := 59) (by decide +kernel))) (by decide +kernel)
theorem jX11_takesBy : mx_J mX11_takesBy 3 := ⟨mx_mem (in_t8 (List.mem_of_getElem? (i := 77) (by decide +kernel))) (by decide +kernel), mx_mem (in_t1 (List.mem_of_getElem? (i := 12) (by decide +kernel))) (by decide +kernel), ⟨by decide, by decide, by decide +kernel⟩, by decide⟩
theorem jiX11_takesBy : Cond.instanceMethod yX11_takesBy ∈ mx_g := mx_mem (in_t8 (List.mem_of_getElem? (i := 76) (by decide +kernel))) (by decide +kernel)
theorem jvX11_takesBy : Cond.selects (yX11_takesBy).cls yX11_takesBy yX11_takesBy ∈ mx_g := mx_mem (in_p7 (List.mem_of_getElem? (i := 6) (by decide +kernel))) (by decide +kernel)
theorem jX11_layTakes : mx_J mX11_layTakes 0 := ⟨mx_mem (in_t8 (List.mem_of_getElem? (i := 72) (by decide +kernel))) (by decide +kernel), mx_mem (in_t1 (List.mem_of_getElem? (i := 12) (by decide +kernel))) (by decide +kernel), ⟨by decide, by decide, by decide +kernel⟩, by decide⟩
theorem jiX11_layTakes : Cond.instanceMethod yX11_layTakes ∈ mx_g := mx_mem (in_t8 (List.mem_of_getElem? (i := 71) (by decide +kernel))) (by decide +kernel)
theorem jvX11_layTakes : Cond.selects (yX11_layTakes).cls yX11_layTakes yX11_layTakes ∈ mx_g := mx_mem (in_p7 (List.mem_of_getElem? (i := 5) (by decide +kernel))) (by decide +kernel)
theorem jX11_placesBy : mx_J mX11_placesBy 2 := ⟨mx_mem (in_t8 (List.mem_of_getElem? (i := 81) (by decide +kernel))) (by decide +kernel), mx_mem (in_t1 (List.mem_of_getElem? (i := 12) (by decide +kernel))) (by decide +kernel), ⟨by decide, by decide, by decide +kernel⟩, by decide⟩
theorem jiX11_placesBy : Cond.instanceMethod yX11_placesBy ∈ mx_g := mx_mem (in_t8 (List.mem_of_getElem? (i := 80) (by decide +kernel))) (by decide +kernel)
theorem jvX11_placesBy : Cond.selects (yX11_placesBy).cls yX11_placesBy yX11_placesBy ∈ mx_g := mx_mem (in_p7 (List.mem_of_getElem? (i := 7) (by decide +kernel))) (by decide +kernel)
theorem jX11_layRow : mx_J mX11_layRow 0 := ⟨mx_mem (in_t8 (List.mem_of_getElem? (i := 68) (by decide +kernel))) (by decide +kernel), mx_mem (in_t1 (List.mem_of_getElem? (i := 12) (by decide +kernel))) (by decide +kernel), ⟨by decide, by decide, by decide +kernel⟩, by decide⟩
theorem jiX11_layRow : Cond.instanceMethod yX11_layRow ∈ mx_g := mx_mem (in_t8 (List.mem_of_getElem? (i := 67) (by decide +kernel))) (by decide +kernel)
theorem jvX11_layRow : Cond.selects (yX11_layRow).cls yX11_layRow yX11_layRow ∈ mx_g := mx_mem (in_p7 (List.mem_of_getElem? (i := 4) (by decide +kernel))) (by decide +kernel)
theorem jX11_add : mx_J mX11_add 1 := ⟨mx_mem (in_t8 (List.mem_of_getElem? (i := 64) (by decide +kernel))) (by decide +kernel), mx_mem (in_t1 (List.mem_of_getElem? (i := 12) (by decide +kernel))) (by decide +kernel), ⟨by decide, by decide, by decide +kernel⟩, by decide⟩
theorem jiX11_add : Cond.instanceMethod yX11_add ∈ mx_g := mx_mem (in_t8 (List.mem_of_getElem? (i := 62) (by decide +kernel))) (by decide +kernel)
theorem jvX11_add : Cond.selects (yX11_add).cls yX11_add yX11_add ∈ mx_g := mx_mem (in_t8 (List.mem_of_getElem? (i := 63) (by decide +kernel))) (by decide +kernel)
theorem jX11_duet : mx_J mX11_duet 2 := ⟨mx_mem (in_t8 (List.mem_of_getElem? (i := 85) (by decide +kernel))) (by decide +kernel), mx_mem (in_t1 (List.mem_of_getElem? (i := 12) (by decide +kernel))) (by decide +kernel), ⟨by decide, by decide, by decide +kernel⟩, by decide⟩
theorem jiX11_duet : Cond.instanceMethod yX11_duet ∈ mx_g := mx_mem (in_t8 (List.mem_of_getElem? (i := 83) (by decide +kernel))) (by decide +kernel)
theorem jvX11_duet : Cond.selects (yX11_duet).cls yX11_duet yX11_duet ∈ mx_g := mx_mem (in_t8 (List.mem_of_getElem? (i := 84) (by decide +kernel))) (by decide +kernel)
theorem jX11_layCommon : mx_J mX11_layCommon 0 := ⟨mx_mem (in_t8 (List.mem_of_getElem? (i := 93) (by decide +kernel))) (by decide +kernel), mx_mem (in_t1 (List.mem_of_getElem? (i := 12) (by decide +kernel))) (by decide +kernel), ⟨by decide, by decide, by decide +kernel⟩, by decide⟩
theorem jiX11_layCommon : Cond.instanceMethod yX11_layCommon ∈ mx_g := mx_mem (in_t8 (List.mem_of_getElem? (i := 92) (by decide +kernel))) (by decide +kernel)
theorem jvX11_layCommon : Cond.selects (yX11_layCommon).cls yX11_layCommon yX11_layCommon ∈ mx_g := mx_mem (in_p7 (List.mem_of_getElem? (i := 8) (by decide +kernel))) (by decide +kernel)
theorem jX11_firstOf : mx_J mX11_firstOf 4 := ⟨mx_mem (in_t8 (List.mem_of_getElem? (i := 101) (by decide +kernel))) (by decide +kernel), mx_mem (in_t1 (List.mem_of_getElem? (i := 12) (by decide +kernel))) (by decide +kernel), ⟨by decide, by decide, by decide +kernel⟩, by decide⟩
theorem jiX11_firstOf : Cond.instanceMethod yX11_firstOf ∈ mx_g := mx_mem (in_t8 (List.mem_of_getElem? (i := 100) (by decide +kernel))) (by decide +kernel)
theorem jvX11_firstOf : Cond.selects (yX11_firstOf).cls yX11_firstOf yX11_firstOf ∈ mx_g := mx_mem (in_p7 (List.mem_of_getElem? (i := 10) (by decide +kernel))) (by decide +kernel)
theorem jX11_common : mx_J mX11_common 1 := ⟨mx_mem (in_t8 (List.mem_of_getElem? (i := 89) (by decide +kernel))) (by decide +kernel), mx_mem (in_t1 (List.mem_of_getElem? (i := 12) (by decide +kernel))) (by decide +kernel), ⟨by decide, by decide, by decide +kernel⟩, by decide⟩
theorem jiX11_common : Cond.instanceMethod yX11_common ∈ mx_g := mx_mem (in_t8 (List.mem_of_getElem? (i := 87) (by decide +kernel))) (by decide +kernel)
theorem jvX11_common : Cond.selects (yX11_common).cls yX11_common yX11_common ∈ mx_g := mx_mem (in_t8 (List.mem_of_getElem? (i := 88) (by decide +kernel))) (by decide +kernel)
theorem jX11_isNextOf : mx_J mX11_isNextOf 4 := ⟨mx_mem (in_t8 (List.mem_of_getElem? (i := 97) (by decide +kernel))) (by decide +kernel), mx_mem (in_t1 (List.mem_of_getElem? (i := 12) (by decide +kernel))) (by decide +kernel), ⟨by decide, by decide, by decide +kernel⟩, by decide⟩
theorem jiX11_isNextOf : Cond.instanceMethod yX11_isNextOf ∈ mx_g := mx_mem (in_t8 (List.mem_of_getElem? (i := 96) (by decide +kernel))) (by decide +kernel)
theorem jvX11_isNextOf : Cond.selects (yX11_isNextOf).cls yX11_isNextOf yX11_isNextOf ∈ mx_g := mx_mem (in_p7 (List.mem_of_getElem? (i := 9) (by decide +kernel))) (by decide +kernel)
theorem jX11_apart : mx_J mX11_apart 0 := ⟨mx_mem (in_t8 (List.mem_of_getElem? (i := 105) (by decide +kernel))) (by decide +kernel), mx_mem (in_t1 (List.mem_of_getElem? (i := 12) (by decide +kernel))) (by decide +kernel), ⟨by decide, by decide, by decide +kernel⟩, by decide⟩
theorem jiX11_apart : Cond.instanceMethod yX11_apart ∈ mx_g := mx_mem (in_t8 (List.mem_of_getElem? (i := 103) (by decide +kernel))) (by decide +kernel)
theorem jvX11_apart : Cond.selects (yX11_apart).cls yX11_apart yX11_apart ∈ mx_g := mx_mem (in_t8 (List.mem_of_getElem? (i := 104) (by decide +kernel))) (by decide +kernel)
theorem jX11_grows : mx_J mX11_grows 2 := ⟨mx_mem (in_t8 (List.mem_of_getElem? (i := 109) (by decide +kernel))) (by decide +kernel), mx_mem (in_t1 (List.mem_of_getElem? (i := 12) (by decide +kernel))) (by decide +kernel), ⟨by decide, by decide, by decide +kernel⟩, by decide⟩
theorem jiX11_grows : Cond.instanceMethod yX11_grows ∈ mx_g := mx_mem (in_t8 (List.mem_of_getElem? (i := 107) (by decide +kernel))) (by decide +kernel)
theorem jvX11_grows : Cond.selects (yX11_grows).cls yX11_grows yX11_grows ∈ mx_g := mx_mem (in_t8 (List.mem_of_getElem? (i := 108) (by decide +kernel))) (by decide +kernel)
theorem jX11_stays : mx_J mX11_stays 1 := ⟨mx_mem (in_t8 (List.mem_of_getElem? (i := 113) (by decide +kernel))) (by decide +kernel), mx_mem (in_t1 (List.mem_of_getElem? (i := 12) (by decide +kernel))) (by decide +kernel), ⟨by decide, by decide, by decide +kernel⟩, by decide⟩
theorem jiX11_stays : Cond.instanceMethod yX11_stays ∈ mx_g := mx_mem (in_t8 (List.mem_of_getElem? (i := 111) (by decide +kernel))) (by decide +kernel)
theorem jvX11_stays : Cond.selects (yX11_stays).cls yX11_stays yX11_stays ∈ mx_g := mx_mem (in_t8 (List.mem_of_getElem? (i := 112) (by decide +kernel))) (by decide +kernel)
theorem jX11_likes : mx_J mX11_likes 4 := ⟨mx_mem (in_t8 (List.mem_of_getElem? (i := 117) (by decide +kernel))) (by decide +kernel), mx_mem (in_t1 (List.mem_of_getElem? (i := 12) (by decide +kernel))) (by decide +kernel), ⟨by decide, by decide, by decide +kernel⟩, by decide⟩
theorem jiX11_likes : Cond.instanceMethod yX11_likes ∈ mx_g := mx_mem (in_t8 (List.mem_of_getElem? (i := 115) (by decide +kernel))) (by decide +kernel)
theorem jvX11_likes : Cond.selects (yX11_likes).cls yX11_likes yX11_likes ∈ mx_g := mx_mem (in_t8 (List.mem_of_getElem? (i := 116) (by decide +kernel))) (by decide +kernel)
theorem jX11_isBetter : mx_J mX11_isBetter 4 := ⟨mx_mem (in_t8 (List.mem_of_getElem? (i := 133) (by decide +kernel))) (by decide +kernel), mx_mem (in_t1 (List.mem_of_getElem? (i := 12) (by decide +kernel))) (by decide +kernel), ⟨by decide, by decide, by decide +kernel⟩, by decide⟩
theorem jiX11_isBetter : Cond.instanceMethod yX11_isBetter ∈ mx_g := mx_mem (in_t8 (List.mem_of_getElem? (i := 132) (by decide +kernel))) (by decide +kernel)
theorem jvX11_isBetter : Cond.selects (yX11_isBetter).cls yX11_isBetter yX11_isBetter ∈ mx_g := mx_mem (in_p7 (List.mem_of_getElem? (i := 13) (by decide +kernel))) (by decide +kernel)
theorem jX11_bestOf : mx_J mX11_bestOf 1 := ⟨mx_mem (in_t8 (List.mem_of_getElem? (i := 129) (by decide +kernel))) (by decide +kernel), mx_mem (in_t1 (List.mem_of_getElem? (i := 12) (by decide +kernel))) (by decide +kernel), ⟨by decide, by decide, by decide +kernel⟩, by decide⟩
theorem jiX11_bestOf : Cond.instanceMethod yX11_bestOf ∈ mx_g := mx_mem (in_t8 (List.mem_of_getElem? (i := 128) (by decide +kernel))) (by decide +kernel)
theorem jvX11_bestOf : Cond.selects (yX11_bestOf).cls yX11_bestOf yX11_bestOf ∈ mx_g := mx_mem (in_p7 (List.mem_of_getElem? (i := 12) (by decide +kernel))) (by decide +kernel)
theorem jX11_layPairs : mx_J mX11_layPairs 0 := ⟨mx_mem (in_t8 (List.mem_of_getElem? (i := 125) (by decide +kernel))) (by decide +kernel), mx_mem (in_t1 (List.mem_of_getElem? (i := 12) (by decide +kernel))) (by decide +kernel), ⟨by decide, by decide, by decide +kernel⟩, by decide⟩
theorem jiX11_layPairs : Cond.instanceMethod yX11_layPairs ∈ mx_g := mx_mem (in_t8 (List.mem_of_getElem? (i := 124) (by decide +kernel))) (by decide +kernel)
theorem jvX11_layPairs : Cond.selects (yX11_layPairs).cls yX11_layPairs yX11_layPairs ∈ mx_g := mx_mem (in_p7 (List.mem_of_getElem? (i := 11) (by decide +kernel))) (by decide +kernel)
theorem jX11_paired : mx_J mX11_paired 1 := ⟨mx_mem (in_t8 (List.mem_of_getElem? (i := 121) (by decide +kernel))) (by decide +kernel), mx_mem (in_t1 (List.mem_of_getElem? (i := 12) (by decide +kernel))) (by decide +kernel), ⟨by decide, by decide, by decide +kernel⟩, by decide⟩
theorem jiX11_paired : Cond.instanceMethod yX11_paired ∈ mx_g := mx_mem (in_t8 (List.mem_of_getElem? (i := 119) (by decide +kernel))) (by decide +kernel)
theorem jvX11_paired : Cond.selects (yX11_paired).cls yX11_paired yX11_paired ∈ mx_g := mx_mem (in_t8 (List.mem_of_getElem? (i := 120) (by decide +kernel))) (by decide +kernel)
theorem jX11_blocks : mx_J mX11_blocks 2 := ⟨mx_mem (in_t8 (List.mem_of_getElem? (i := 137) (by decide +kernel))) (by decide +kernel), mx_mem (in_t1 (List.mem_of_getElem? (i := 12) (by decide +kernel))) (by decide +kernel), ⟨by decide, by decide, by decide +kernel⟩, by decide⟩
theorem jiX11_blocks : Cond.instanceMethod yX11_blocks ∈ mx_g := mx_mem (in_t8 (List.mem_of_getElem? (i := 135) (by decide +kernel))) (by decide +kernel)
theorem jvX11_blocks : Cond.selects (yX11_blocks).cls yX11_blocks yX11_blocks ∈ mx_g := mx_mem (in_t8 (List.mem_of_getElem? (i := 136) (by decide +kernel))) (by decide +kernel)
theorem jX11_needs : mx_J mX11_needs 2 := ⟨mx_mem (in_t8 (List.mem_of_getElem? (i := 141) (by decide +kernel))) (by decide +kernel), mx_mem (in_t1 (List.mem_of_getElem? (i := 12) (by decide +kernel))) (by decide +kernel), ⟨by decide, by decide, by decide +kernel⟩, by decide⟩
theorem jiX11_needs : Cond.instanceMethod yX11_needs ∈ mx_g := mx_mem (in_t8 (List.mem_of_getElem? (i := 139) (by decide +kernel))) (by decide +kernel)
theorem jvX11_needs : Cond.selects (yX11_needs).cls yX11_needs yX11_needs ∈ mx_g := mx_mem (in_t8 (List.mem_of_getElem? (i := 140) (by decide +kernel))) (by decide +kernel)
theorem jX11_costBy : mx_J mX11_costBy 3 := ⟨mx_mem (in_t8 (List.mem_of_getElem? (i := 149) (by decide +kernel))) (by decide +kernel), mx_mem (in_t1 (List.mem_of_getElem? (i := 12) (by decide +kernel))) (by decide +kernel), ⟨by decide, by decide, by decide +kernel⟩, by decide⟩
theorem jiX11_costBy : Cond.instanceMethod yX11_costBy ∈ mx_g := mx_mem (in_t8 (List.mem_of_getElem? (i := 148) (by decide +kernel))) (by decide +kernel)
theorem jvX11_costBy : Cond.selects (yX11_costBy).cls yX11_costBy yX11_costBy ∈ mx_g := mx_mem (in_p7 (List.mem_of_getElem? (i := 14) (by decide +kernel))) (by decide +kernel)
theorem jX11_isMore : mx_J mX11_isMore 0 := ⟨mx_mem (in_t8 (List.mem_of_getElem? (i := 153) (by decide +kernel))) (by decide +kernel), mx_mem (in_t1 (List.mem_of_getElem? (i := 12) (by decide +kernel))) (by decide +kernel), ⟨by decide, by decide, by decide +kernel⟩, by decide⟩
theorem jiX11_isMore : Cond.instanceMethod yX11_isMore ∈ mx_g := mx_mem (in_t8 (List.mem_of_getElem? (i := 152) (by decide +kernel))) (by decide +kernel)
theorem jvX11_isMore : Cond.selects (yX11_isMore).cls yX11_isMore yX11_isMore ∈ mx_g := mx_mem (in_p7 (List.mem_of_getElem? (i := 15) (by decide +kernel))) (by decide +kernel)
theorem jX11_stock : mx_J mX11_stock 3 := ⟨mx_mem (in_t8 (List.mem_of_getElem? (i := 145) (by decide +kernel))) (by decide +kernel), mx_mem (in_t1 (List.mem_of_getElem? (i := 12) (by decide +kernel))) (by decide +kernel), ⟨by decide, by decide, by decide +kernel⟩, by decide⟩
theorem jiX11_stock : Cond.instanceMethod yX11_stock ∈ mx_g := mx_mem (in_t8 (List.mem_of_getElem? (i := 143) (by decide +kernel))) (by decide +kernel)
theorem jvX11_stock : Cond.selects (yX11_stock).cls yX11_stock yX11_stock ∈ mx_g := mx_mem (in_t8 (List.mem_of_getElem? (i := 144) (by decide +kernel))) (by decide +kernel)
theorem jX11_looser : mx_J mX11_looser 2 := ⟨mx_mem (in_t8 (List.mem_of_getElem? (i := 157) (by decide +kernel))) (by decide +kernel), mx_mem (in_t1 (List.mem_of_getElem? (i := 12) (by decide +kernel))) (by decide +kernel), ⟨by decide, by decide, by decide +kernel⟩, by decide⟩
theorem jiX11_looser : Cond.instanceMethod yX11_looser ∈ mx_g := mx_mem (in_t8 (List.mem_of_getElem? (i := 155) (by decide +kernel))) (by decide +kernel)
theorem jvX11_looser : Cond.selects (yX11_looser).cls yX11_looser yX11_looser ∈ mx_g := mx_mem (in_t8 (List.mem_of_getElem? (i := 156) (by decide +kernel))) (by decide +kernel)
theorem jX11_whose : mx_J mX11_whose 0 := ⟨mx_mem (in_t8 (List.mem_of_getElem? (i := 161) (by decide +kernel))) (by decide +kernel), mx_mem (in_t1 (List.mem_of_getElem? (i := 12) (by decide +kernel))) (by decide +kernel), ⟨by decide, by decide, by decide +kernel⟩, by decide⟩
theorem jiX11_whose : Cond.instanceMethod yX11_whose ∈ mx_g := mx_mem (in_t8 (List.mem_of_getElem? (i := 159) (by decide +kernel))) (by decide +kernel)
theorem jvX11_whose : Cond.selects (yX11_whose).cls yX11_whose yX11_whose ∈ mx_g := mx_mem (in_t8 (List.mem_of_getElem? (i := 160) (by decide +kernel))) (by decide +kernel)
theorem jX11_image : mx_J mX11_image 0 := ⟨mx_mem (in_t8 (List.mem_of_getElem? (i := 165) (by decide +kernel))) (by decide +kernel), mx_mem (in_t1 (List.mem_of_getElem? (i := 12) (by decide +kernel))) (by decide +kernel), ⟨by decide, by decide, by decide +kernel⟩, by decide⟩
theorem jiX11_image : Cond.instanceMethod yX11_image ∈ mx_g := mx_mem (in_t8 (List.mem_of_getElem? (i := 163) (by decide +kernel))) (by decide +kernel)
theorem jvX11_image : Cond.selects (yX11_image).cls yX11_image yX11_image ∈ mx_g := mx_mem (in_t8 (List.mem_of_getElem? (i := 164) (by decide +kernel))) (by decide +kernel)
theorem jX11_back : mx_J mX11_back 0 := ⟨mx_mem (in_t8 (List.mem_of_getElem? (i := 169) (by decide +kernel))) (by decide +kernel), mx_mem (in_t1 (List.mem_of_getElem? (i := 12) (by decide +kernel))) (by decide +kernel), ⟨by decide, by decide, by decide +kernel⟩, by decide⟩
theorem jiX11_back : Cond.instanceMethod yX11_back ∈ mx_g := mx_mem (in_t8 (List.mem_of_getElem? (i := 167) (by decide +kernel))) (by decide +kernel)
theorem jvX11_back : Cond.selects (yX11_back).cls yX11_back yX11_back ∈ mx_g := mx_mem (in_t8 (List.mem_of_getElem? (i := 168) (by decide +kernel))) (by decide +kernel)
theorem jX11_about : mx_J mX11_about 1 := ⟨mx_mem (in_t8 (List.mem_of_getElem? (i := 173) (by decide +kernel))) (by decide +kernel), mx_mem (in_t1 (List.mem_of_getElem? (i := 12) (by decide +kernel))) (by decide +kernel), ⟨by decide, by decide, by decide +kernel⟩, by decide⟩
theorem jiX11_about : Cond.instanceMethod yX11_about ∈ mx_g := mx_mem (in_t8 (List.mem_of_getElem? (i := 171) (by decide +kernel))) (by decide +kernel)
theorem jvX11_about : Cond.selects (yX11_about).cls yX11_about yX11_about ∈ mx_g := mx_mem (in_t8 (List.mem_of_getElem? (i := 172) (by decide +kernel))) (by decide +kernel)
theorem jJ11_isValidCodePoint_9a6ad : mx_J mJ11_isValidCodePoint_9a6ad 1 := ⟨mx_mem (in_t3 (List.mem_of_getElem? (i := 62) (by decide +kernel))) (by decide +kernel), mx_mem (in_t1 (List.mem_of_getElem? (i := 18) (by decide +kernel))) (by decide +kernel), ⟨by decide, by decide, by decide +kernel⟩, by decide⟩
theorem jsJ11_isValidCodePoint_9a6ad : Cond.static yJ11_isValidCodePoint_9a6ad ∈ mx_g := mx_mem (in_t3 (List.mem_of_getElem? (i := 61) (by decide +kernel))) (by decide +kernel)
theorem jJ11_highSurrogate_5068e : mx_J mJ11_highSurrogate_5068e 1 := ⟨mx_mem (in_t3 (List.mem_of_getElem? (i := 65) (by decide +kernel))) (by decide +kernel), mx_mem (in_t1 (List.mem_of_getElem? (i := 18) (by decide +kernel))) (by decide +kernel), ⟨by decide, by decide, by decide +kernel⟩, by decide⟩
theorem jsJ11_highSurrogate_5068e : Cond.static yJ11_highSurrogate_5068e ∈ mx_g := mx_mem (in_t3 (List.mem_of_getElem? (i := 64) (by decide +kernel))) (by decide +kernel)
theorem jJ11_lowSurrogate_5068e : mx_J mJ11_lowSurrogate_5068e 1 := ⟨mx_mem (in_t3 (List.mem_of_getElem? (i := 69) (by decide +kernel))) (by decide +kernel), mx_mem (in_t1 (List.mem_of_getElem? (i := 18) (by decide +kernel))) (by decide +kernel), ⟨by decide, by decide, by decide +kernel⟩, by decide⟩
theorem jsJ11_lowSurrogate_5068e : Cond.static yJ11_lowSurrogate_5068e ∈ mx_g := mx_mem (in_t3 (List.mem_of_getElem? (i := 68) (by decide +kernel))) (by decide +kernel)
theorem jJ6_bitCount_0f7a4 : mx_J mJ6_bitCount_0f7a4 1 := ⟨mx_mem (in_t5 (List.mem_of_getElem? (i := 149) (by decide +kernel))) (by decide +kernel), mx_mem (in_t1 (List.mem_of_getElem? (i := 21) (by decide +kernel))) (by decide +kernel), ⟨by decide, by decide, by decide +kernel⟩, by decide⟩
theorem jsJ6_bitCount_0f7a4 : Cond.static yJ6_bitCount_0f7a4 ∈ mx_g := mx_mem (in_t5 (List.mem_of_getElem? (i := 148) (by decide +kernel))) (by decide +kernel)
theorem jJ9_abs_0f7a4 : mx_J mJ9_abs_0f7a4 1 := ⟨mx_mem (in_t4 (List.mem_of_getElem? (i := 60) (by decide +kernel))) (by decide +kernel), mx_mem (in_t1 (List.mem_of_getElem? (i := 5) (by decide +kernel))) (by decide +kernel), ⟨by decide, by decide, by decide +kernel⟩, by decide⟩
theorem jsJ9_abs_0f7a4 : Cond.static yJ9_abs_0f7a4 ∈ mx_g := mx_mem (in_t4 (List.mem_of_getElem? (i := 59) (by decide +kernel))) (by decide +kernel)
theorem jJ9_max_7cf53 : mx_J mJ9_max_7cf53 2 := ⟨mx_mem (in_t1 (List.mem_of_getElem? (i := 108) (by decide +kernel))) (by decide +kernel), mx_mem (in_t1 (List.mem_of_getElem? (i := 5) (by decide +kernel))) (by decide +kernel), ⟨by decide, by decide, by decide +kernel⟩, by decide⟩
theorem jsJ9_max_7cf53 : Cond.static yJ9_max_7cf53 ∈ mx_g := mx_mem (in_t1 (List.mem_of_getElem? (i := 107) (by decide +kernel))) (by decide +kernel)
theorem jJ9_min_7cf53 : mx_J mJ9_min_7cf53 2 := ⟨mx_mem (in_t3 (List.mem_of_getElem? (i := 10) (by decide +kernel))) (by decide +kernel), mx_mem (in_t1 (List.mem_of_getElem? (i := 5) (by decide +kernel))) (by decide +kernel), ⟨by decide, by decide, by decide +kernel⟩, by decide⟩
theorem jsJ9_min_7cf53 : Cond.static yJ9_min_7cf53 ∈ mx_g := mx_mem (in_t3 (List.mem_of_getElem? (i := 9) (by decide +kernel))) (by decide +kernel)
theorem jJ0_length_8abf5 : mx_J mJ0_length_8abf5 0 := ⟨mx_mem (in_t2 (List.mem_of_getElem? (i := 196) (by decide +kernel))) (by decide +kernel), mx_mem (in_t1 (List.mem_of_getElem? (i := 14) (by decide +kernel))) (by decide +kernel), ⟨by decide, by decide, by decide +kernel⟩, by decide⟩
theorem jiJ0_length_8abf5 : Cond.instanceMethod yJ0_length_8abf5 ∈ mx_g := mx_mem (in_t2 (List.mem_of_getElem? (i := 194) (by decide +kernel))) (by decide +kernel)
theorem jvJ0_length_8abf5 : Cond.selects (yJ0_length_8abf5).cls yJ0_length_8abf5 yJ0_length_8abf5 ∈ mx_g := mx_mem (in_t2 (List.mem_of_getElem? (i := 195) (by decide +kernel))) (by decide +kernel)
theorem jJ0_charAt_5068e : mx_J mJ0_charAt_5068e 1 := ⟨mx_mem (in_t2 (List.mem_of_getElem? (i := 206) (by decide +kernel))) (by decide +kernel), mx_mem (in_t1 (List.mem_of_getElem? (i := 14) (by decide +kernel))) (by decide +kernel), ⟨by decide, by decide, by decide +kernel⟩, by decide⟩
theorem jiJ0_charAt_5068e : Cond.instanceMethod yJ0_charAt_5068e ∈ mx_g := mx_mem (in_t2 (List.mem_of_getElem? (i := 204) (by decide +kernel))) (by decide +kernel)
theorem jvJ0_charAt_5068e : Cond.selects (yJ0_charAt_5068e).cls yJ0_charAt_5068e yJ0_charAt_5068e ∈ mx_g := mx_mem (in_t2 (List.mem_of_getElem? (i := 205) (by decide +kernel))) (by decide +kernel)
theorem jJ0_indexOf_0f7a4 : mx_J mJ0_indexOf_0f7a4 1 := ⟨mx_mem (in_t3 (List.mem_of_getElem? (i := 19) (by decide +kernel))) (by decide +kernel), mx_mem (in_t1 (List.mem_of_getElem? (i := 14) (by decide +kernel))) (by decide +kernel), ⟨by decide, by decide, by decide +kernel⟩, by decide⟩
theorem jiJ0_indexOf_0f7a4 : Cond.instanceMethod yJ0_indexOf_0f7a4 ∈ mx_g := mx_mem (in_t3 (List.mem_of_getElem? (i := 17) (by decide +kernel))) (by decide +kernel)
theorem jvJ0_indexOf_0f7a4 : Cond.selects (yJ0_indexOf_0f7a4).cls yJ0_indexOf_0f7a4 yJ0_indexOf_0f7a4 ∈ mx_g := mx_mem (in_t3 (List.mem_of_getElem? (i := 18) (by decide +kernel))) (by decide +kernel)
theorem jJ0_indexOf_7cf53 : mx_J mJ0_indexOf_7cf53 2 := ⟨mx_mem (in_t3 (List.mem_of_getElem? (i := 23) (by decide +kernel))) (by decide +kernel), mx_mem (in_t1 (List.mem_of_getElem? (i := 14) (by decide +kernel))) (by decide +kernel), ⟨by decide, by decide, by decide +kernel⟩, by decide⟩
theorem jiJ0_indexOf_7cf53 : Cond.instanceMethod yJ0_indexOf_7cf53 ∈ mx_g := mx_mem (in_t3 (List.mem_of_getElem? (i := 21) (by decide +kernel))) (by decide +kernel)
theorem jvJ0_indexOf_7cf53 : Cond.selects (yJ0_indexOf_7cf53).cls yJ0_indexOf_7cf53 yJ0_indexOf_7cf53 ∈ mx_g := mx_mem (in_t3 (List.mem_of_getElem? (i := 22) (by decide +kernel))) (by decide +kernel)
theorem jJ0_coder_7d493 : mx_J mJ0_coder_7d493 0 := ⟨mx_mem (in_t2 (List.mem_of_getElem? (i := 200) (by decide +kernel))) (by decide +kernel), mx_mem (in_t1 (List.mem_of_getElem? (i := 14) (by decide +kernel))) (by decide +kernel), ⟨by decide, by decide, by decide +kernel⟩, by decide⟩
theorem jiJ0_coder_7d493 : Cond.instanceMethod yJ0_coder_7d493 ∈ mx_g := mx_mem (in_t2 (List.mem_of_getElem? (i := 198) (by decide +kernel))) (by decide +kernel)
theorem jvJ0_coder_7d493 : Cond.selects (yJ0_coder_7d493).cls yJ0_coder_7d493 yJ0_coder_7d493 ∈ mx_g := mx_mem (in_t2 (List.mem_of_getElem? (i := 199) (by decide +kernel))) (by decide +kernel)
theorem jJ0_isLatin1_aae02 : mx_J mJ0_isLatin1_aae02 0 := ⟨mx_mem (in_t2 (List.mem_of_getElem? (i := 210) (by decide +kernel))) (by decide +kernel), mx_mem (in_t1 (List.mem_of_getElem? (i := 14) (by decide +kernel))) (by decide +kernel), ⟨by decide, by decide, by decide +kernel⟩, by decide⟩
theorem jiJ0_isLatin1_aae02 : Cond.instanceMethod yJ0_isLatin1_aae02 ∈ mx_g := mx_mem (in_t2 (List.mem_of_getElem? (i := 208) (by decide +kernel))) (by decide +kernel)
theorem jvJ0_isLatin1_aae02 : Cond.selects (yJ0_isLatin1_aae02).cls yJ0_isLatin1_aae02 yJ0_isLatin1_aae02 ∈ mx_g := mx_mem (in_t2 (List.mem_of_getElem? (i := 209) (by decide +kernel))) (by decide +kernel)
theorem jJ0_checkIndex_df160 : mx_J mJ0_checkIndex_df160 2 := ⟨mx_mem (in_t2 (List.mem_of_getElem? (i := 216) (by decide +kernel))) (by decide +kernel), mx_mem (in_t1 (List.mem_of_getElem? (i := 14) (by decide +kernel))) (by decide +kernel), ⟨by decide, by decide, by decide +kernel⟩, by decide⟩
theorem jsJ0_checkIndex_df160 : Cond.static yJ0_checkIndex_df160 ∈ mx_g := mx_mem (in_t2 (List.mem_of_getElem? (i := 215) (by decide +kernel))) (by decide +kernel)
theorem jJ0_checkBoundsBeginEnd_23922 : mx_J mJ0_checkBoundsBeginEnd_23922 3 := ⟨mx_mem (in_t3 (List.mem_of_getElem? (i := 50) (by decide +kernel))) (by decide +kernel), mx_mem (in_t1 (List.mem_of_getElem? (i := 14) (by decide +kernel))) (by decide +kernel), ⟨by decide, by decide, by decide +kernel⟩, by decide⟩
theorem jsJ0_checkBoundsBeginEnd_23922 : Cond.static yJ0_checkBoundsBeginEnd_23922 ∈ mx_g := mx_mem (in_t3 (List.mem_of_getElem? (i := 49) (by decide +kernel))) (by decide +kernel)
theorem jJ1_charAt_3b067 : mx_J mJ1_charAt_3b067 2 := ⟨mx_mem (in_t2 (List.mem_of_getElem? (i := 213) (by decide +kernel))) (by decide +kernel), mx_mem (in_t1 (List.mem_of_getElem? (i := 15) (by decide +kernel))) (by decide +kernel), ⟨by decide, by decide, by decide +kernel⟩, by decide⟩
theorem jsJ1_charAt_3b067 : Cond.static yJ1_charAt_3b067 ∈ mx_g := mx_mem (in_t2 (List.mem_of_getElem? (i := 212) (by decide +kernel))) (by decide +kernel)
theorem jJ1_canEncode_9a6ad : mx_J mJ1_canEncode_9a6ad 1 := ⟨mx_mem (in_t3 (List.mem_of_getElem? (i := 30) (by decide +kernel))) (by decide +kernel), mx_mem (in_t1 (List.mem_of_getElem? (i := 15) (by decide +kernel))) (by decide +kernel), ⟨by decide, by decide, by decide +kernel⟩, by decide⟩
theorem jsJ1_canEncode_9a6ad : Cond.static yJ1_canEncode_9a6ad ∈ mx_g := mx_mem (in_t3 (List.mem_of_getElem? (i := 29) (by decide +kernel))) (by decide +kernel)
theorem jJ1_indexOf_4cfef : mx_J mJ1_indexOf_4cfef 4 := ⟨mx_mem (in_t3 (List.mem_of_getElem? (i := 27) (by decide +kernel))) (by decide +kernel), mx_mem (in_t1 (List.mem_of_getElem? (i := 15) (by decide +kernel))) (by decide +kernel), ⟨by decide, by decide, by decide +kernel⟩, by decide⟩
theorem jsJ1_indexOf_4cfef : Cond.static yJ1_indexOf_4cfef ∈ mx_g := mx_mem (in_t3 (List.mem_of_getElem? (i := 26) (by decide +kernel))) (by decide +kernel)
theorem jJ1_indexOfChar_4cfef : mx_J mJ1_indexOfChar_4cfef 4 := ⟨mx_mem (in_t3 (List.mem_of_getElem? (i := 35) (by decide +kernel))) (by decide +kernel), mx_mem (in_t1 (List.mem_of_getElem? (i := 15) (by decide +kernel))) (by decide +kernel), ⟨by decide, by decide, by decide +kernel⟩, by decide⟩
theorem jsJ1_indexOfChar_4cfef : Cond.static yJ1_indexOfChar_4cfef ∈ mx_g := mx_mem (in_t3 (List.mem_of_getElem? (i := 34) (by decide +kernel))) (by decide +kernel)
theorem jJ2_getChar_3b067 : mx_J mJ2_getChar_3b067 2 := ⟨mx_mem (in_t2 (List.mem_of_getElem? (i := 234) (by decide +kernel))) (by decide +kernel), mx_mem (in_t1 (List.mem_of_getElem? (i := 17) (by decide +kernel))) (by decide +kernel), ⟨by decide, by decide, by decide +kernel⟩, by decide⟩
theorem jsJ2_getChar_3b067 : Cond.static yJ2_getChar_3b067 ∈ mx_g := mx_mem (in_t2 (List.mem_of_getElem? (i := 233) (by decide +kernel))) (by decide +kernel)
theorem jJ2_length_9d52b : mx_J mJ2_length_9d52b 1 := ⟨mx_mem (in_t2 (List.mem_of_getElem? (i := 230) (by decide +kernel))) (by decide +kernel), mx_mem (in_t1 (List.mem_of_getElem? (i := 17) (by decide +kernel))) (by decide +kernel), ⟨by decide, by decide, by decide +kernel⟩, by decide⟩
theorem jsJ2_length_9d52b : Cond.static yJ2_length_9d52b ∈ mx_g := mx_mem (in_t2 (List.mem_of_getElem? (i := 229) (by decide +kernel))) (by decide +kernel)
theorem jJ2_indexOf_4cfef : mx_J mJ2_indexOf_4cfef 4 := ⟨mx_mem (in_t3 (List.mem_of_getElem? (i := 38) (by decide +kernel))) (by decide +kernel), mx_mem (in_t1 (List.mem_of_getElem? (i := 17) (by decide +kernel))) (by decide +kernel), ⟨by decide, by decide, by decide +kernel⟩, by decide⟩
theorem jsJ2_indexOf_4cfef : Cond.static yJ2_indexOf_4cfef ∈ mx_g := mx_mem (in_t3 (List.mem_of_getElem? (i := 37) (by decide +kernel))) (by decide +kernel)
theorem jJ2_indexOfChar_4cfef : mx_J mJ2_indexOfChar_4cfef 4 := ⟨mx_mem (in_t3 (List.mem_of_getElem? (i := 44) (by decide +kernel))) (by decide +kernel), mx_mem (in_t1 (List.mem_of_getElem? (i := 17) (by decide +kernel))) (by decide +kernel), ⟨by decide, by decide, by decide +kernel⟩, by decide⟩
theorem jsJ2_indexOfChar_4cfef : Cond.static yJ2_indexOfChar_4cfef ∈ mx_g := mx_mem (in_t3 (List.mem_of_getElem? (i := 43) (by decide +kernel))) (by decide +kernel)
theorem jJ2_indexOfCharUnsafe_4cfef : mx_J mJ2_indexOfCharUnsafe_4cfef 4 := ⟨mx_mem (in_t3 (List.mem_of_getElem? (i := 56) (by decide +kernel))) (by decide +kernel), mx_mem (in_t1 (List.mem_of_getElem? (i := 17) (by decide +kernel))) (by decide +kernel), ⟨by decide, by decide, by decide +kernel⟩, by decide⟩
theorem jsJ2_indexOfCharUnsafe_4cfef : Cond.static yJ2_indexOfCharUnsafe_4cfef ∈ mx_g := mx_mem (in_t3 (List.mem_of_getElem? (i := 55) (by decide +kernel))) (by decide +kernel)
theorem jJ2_indexOfSupplementary_4cfef : mx_J mJ2_indexOfSupplementary_4cfef 4 := ⟨mx_mem (in_t3 (List.mem_of_getElem? (i := 59) (by decide +kernel))) (by decide +kernel), mx_mem (in_t1 (List.mem_of_getElem? (i := 17) (by decide +kernel))) (by decide +kernel), ⟨by decide, by decide, by decide +kernel⟩, by decide⟩
theorem jsJ2_indexOfSupplementary_4cfef : Cond.static yJ2_indexOfSupplementary_4cfef ∈ mx_g := mx_mem (in_t3 (List.mem_of_getElem? (i := 58) (by decide +kernel))) (by decide +kernel)
theorem jJ2_charAt_3b067 : mx_J mJ2_charAt_3b067 2 := ⟨mx_mem (in_t2 (List.mem_of_getElem? (i := 224) (by decide +kernel))) (by decide +kernel), mx_mem (in_t1 (List.mem_of_getElem? (i := 17) (by decide +kernel))) (by decide +kernel), ⟨by decide, by decide, by decide +kernel⟩, by decide⟩
theorem jsJ2_charAt_3b067 : Cond.static yJ2_charAt_3b067 ∈ mx_g := mx_mem (in_t2 (List.mem_of_getElem? (i := 223) (by decide +kernel))) (by decide +kernel)
theorem jJ2_checkIndex_2214a : mx_J mJ2_checkIndex_2214a 2 := ⟨mx_mem (in_t2 (List.mem_of_getElem? (i := 227) (by decide +kernel))) (by decide +kernel), mx_mem (in_t1 (List.mem_of_getElem? (i := 17) (by decide +kernel))) (by decide +kernel), ⟨by decide, by decide, by decide +kernel⟩, by decide⟩
theorem jsJ2_checkIndex_2214a : Cond.static yJ2_checkIndex_2214a ∈ mx_g := mx_mem (in_t2 (List.mem_of_getElem? (i := 226) (by decide +kernel))) (by decide +kernel)
theorem jJ2_checkBoundsBeginEnd_d044e : mx_J mJ2_checkBoundsBeginEnd_d044e 3 := ⟨mx_mem (in_t3 (List.mem_of_getElem? (i := 47) (by decide +kernel))) (by decide +kernel), mx_mem (in_t1 (List.mem_of_getElem? (i := 17) (by decide +kernel))) (by decide +kernel), ⟨by decide, by decide, by decide +kernel⟩, by decide⟩
theorem jsJ2_checkBoundsBeginEnd_d044e : Cond.static yJ2_checkBoundsBeginEnd_d044e ∈ mx_g := mx_mem (in_t3 (List.mem_of_getElem? (i := 46) (by decide +kernel))) (by decide +kernel)
theorem jJ7_fill_53178 : mx_J mJ7_fill_53178 2 := ⟨mx_mem (in_t2 (List.mem_of_getElem? (i := 172) (by decide +kernel))) (by decide +kernel), mx_mem (in_t1 (List.mem_of_getElem? (i := 13) (by decide +kernel))) (by decide +kernel), ⟨by decide, by decide, by decide +kernel⟩, by decide⟩
theorem jsJ7_fill_53178 : Cond.static yJ7_fill_53178 ∈ mx_g := mx_mem (in_t2 (List.mem_of_getElem? (i := 171) (by decide +kernel))) (by decide +kernel)
theorem jJ7_copyOf_59c91 : mx_J mJ7_copyOf_59c91 2 := ⟨mx_mem (in_t3 (List.mem_of_getElem? (i := 153) (by decide +kernel))) (by decide +kernel), mx_mem (in_t1 (List.mem_of_getElem? (i := 13) (by decide +kernel))) (by decide +kernel), ⟨by decide, by decide, by decide +kernel⟩, by decide⟩
theorem jsJ7_copyOf_59c91 : Cond.static yJ7_copyOf_59c91 ∈ mx_g := mx_mem (in_t3 (List.mem_of_getElem? (i := 152) (by decide +kernel))) (by decide +kernel)
theorem jJ3_checkIndex_8e157 : mx_J mJ3_checkIndex_8e157 3 := ⟨mx_mem (in_t2 (List.mem_of_getElem? (i := 221) (by decide +kernel))) (by decide +kernel), mx_mem (in_t1 (List.mem_of_getElem? (i := 16) (by decide +kernel))) (by decide +kernel), ⟨by decide, by decide, by decide +kernel⟩, by decide⟩
theorem jsJ3_checkIndex_8e157 : Cond.static yJ3_checkIndex_8e157 ∈ mx_g := mx_mem (in_t2 (List.mem_of_getElem? (i := 220) (by decide +kernel))) (by decide +kernel)
theorem jJ3_checkFromToIndex_8c36e : mx_J mJ3_checkFromToIndex_8c36e 4 := ⟨mx_mem (in_t3 (List.mem_of_getElem? (i := 53) (by decide +kernel))) (by decide +kernel), mx_mem (in_t1 (List.mem_of_getElem? (i := 16) (by decide +kernel))) (by decide +kernel), ⟨by decide, by decide, by decide +kernel⟩, by decide⟩
theorem jsJ3_checkFromToIndex_8c36e : Cond.static yJ3_checkFromToIndex_8c36e ∈ mx_g := mx_mem (in_t3 (List.mem_of_getElem? (i := 52) (by decide +kernel))) (by decide +kernel)
theorem lfX9_40 : mx_F RX9 40 9 0 := ⟨_, _, _, rfl, by decide, mx_mem (in_t1 (List.mem_of_getElem? (i := 42) (by decide +kernel))) (by decide +kernel)⟩
theorem lfX0_42 : mx_F RX0 42 9 0 := ⟨_, _, _, rfl, by decide, mx_mem (in_t1 (List.mem_of_getElem? (i := 43) (by decide +kernel))) (by decide +kernel)⟩
theorem lfX10_176 : mx_F RX10 176 9 0 := ⟨_, _, _, rfl, by decide, mx_mem (in_t1 (List.mem_of_getElem? (i := 44) (by decide +kernel))) (by decide +kernel)⟩
theorem lfX0_71 : mx_F RX0 71 9 1 := ⟨_, _, _, rfl, by decide, mx_mem (in_t1 (List.mem_of_getElem? (i := 45) (by decide +kernel))) (by decide +kernel)⟩
theorem lfX10_147 : mx_F RX10 147 9 1 := ⟨_, _, _, rfl, by decide, mx_mem (in_t1 (List.mem_of_getElem? (i := 46) (by decide +kernel))) (by decide +kernel)⟩
theorem lfX9_84 : mx_F RX9 84 9 1 := ⟨_, _, _, rfl, by decide, mx_mem (in_t1 (List.mem_of_getElem? (i := 47) (by decide +kernel))) (by decide +kernel)⟩
theorem lfX9_9 : mx_F RX9 9 9 2 := ⟨_, _, _, rfl, by decide, mx_mem (in_t1 (List.mem_of_getElem? (i := 48) (by decide +kernel))) (by decide +kernel)⟩
theorem lfX10_163 : mx_F RX10 163 9 2 := ⟨_, _, _, rfl, by decide, mx_mem (in_t1 (List.mem_of_getElem? (i := 49) (by decide +kernel))) (by decide +kernel)⟩
theorem lfX9_75 : mx_F RX9 75 9 3 := ⟨_, _, _, rfl, by decide, mx_mem (in_t1 (List.mem_of_getElem? (i := 50) (by decide +kernel))) (by decide +kernel)⟩
theorem lfX10_207 : mx_F RX10 207 9 3 := ⟨_, _, _, rfl, by decide, mx_mem (in_t1 (List.mem_of_getElem? (i := 51) (by decide +kernel))) (by decide +kernel)⟩
theorem lfX9_15 : mx_F RX9 15 9 4 := ⟨_, _, _, rfl, by decide, mx_mem (in_t1 (List.mem_of_getElem? (i := 52) (by decide +kernel))) (by decide +kernel)⟩
theorem lfX0_20 : mx_F RX0 20 9 4 := ⟨_, _, _, rfl, by decide, mx_mem (in_t1 (List.mem_of_getElem? (i := 53) (by decide +kernel))) (by decide +kernel)⟩
theorem lfX10_188 : mx_F RX10 188 9 4 := ⟨_, _, _, rfl, by decide, mx_mem (in_t1 (List.mem_of_getElem? (i := 54) (by decide +kernel))) (by decide +kernel)⟩
theorem lfX9_19 : mx_F RX9 19 9 5 := ⟨_, _, _, rfl, by decide, mx_mem (in_t1 (List.mem_of_getElem? (i := 55) (by decide +kernel))) (by decide +kernel)⟩
theorem lfX9_22 : mx_F RX9 22 9 6 := ⟨_, _, _, rfl, by decide, mx_mem (in_t1 (List.mem_of_getElem? (i := 56) (by decide +kernel))) (by decide +kernel)⟩
theorem lfX0_65 : mx_F RX0 65 9 6 := ⟨_, _, _, rfl, by decide, mx_mem (in_t1 (List.mem_of_getElem? (i := 57) (by decide +kernel))) (by decide +kernel)⟩
theorem lfX10_191 : mx_F RX10 191 9 6 := ⟨_, _, _, rfl, by decide, mx_mem (in_t1 (List.mem_of_getElem? (i := 58) (by decide +kernel))) (by decide +kernel)⟩
theorem lfX9_25 : mx_F RX9 25 9 7 := ⟨_, _, _, rfl, by decide, mx_mem (in_t1 (List.mem_of_getElem? (i := 59) (by decide +kernel))) (by decide +kernel)⟩
theorem lfX0_15 : mx_F RX0 15 9 7 := ⟨_, _, _, rfl, by decide, mx_mem (in_t1 (List.mem_of_getElem? (i := 60) (by decide +kernel))) (by decide +kernel)⟩
theorem lfX10_138 : mx_F RX10 138 9 7 := ⟨_, _, _, rfl, by decide, mx_mem (in_t1 (List.mem_of_getElem? (i := 61) (by decide +kernel))) (by decide +kernel)⟩
theorem lfX9_28 : mx_F RX9 28 9 8 := ⟨_, _, _, rfl, by decide, mx_mem (in_t1 (List.mem_of_getElem? (i := 62) (by decide +kernel))) (by decide +kernel)⟩
theorem lfX0_77 : mx_F RX0 77 9 8 := ⟨_, _, _, rfl, by decide, mx_mem (in_t1 (List.mem_of_getElem? (i := 63) (by decide +kernel))) (by decide +kernel)⟩
theorem lfX10_132 : mx_F RX10 132 9 8 := ⟨_, _, _, rfl, by decide, mx_mem (in_t1 (List.mem_of_getElem? (i := 64) (by decide +kernel))) (by decide +kernel)⟩
theorem lfX9_31 : mx_F RX9 31 9 9 := ⟨_, _, _, rfl, by decide, mx_mem (in_t1 (List.mem_of_getElem? (i := 65) (by decide +kernel))) (by decide +kernel)⟩
theorem lfX0_74 : mx_F RX0 74 9 9 := ⟨_, _, _, rfl, by decide, mx_mem (in_t1 (List.mem_of_getElem? (i := 66) (by decide +kernel))) (by decide +kernel)⟩
theorem lfX10_144 : mx_F RX10 144 9 9 := ⟨_, _, _, rfl, by decide, mx_mem (in_t1 (List.mem_of_getElem? (i := 67) (by decide +kernel))) (by decide +kernel)⟩
theorem lfX9_34 : mx_F RX9 34 9 10 := ⟨_, _, _, rfl, by decide, mx_mem (in_t1 (List.mem_of_getElem? (i := 68) (by decide +kernel))) (by decide +kernel)⟩
theorem lfX9_37 : mx_F RX9 37 9 11 := ⟨_, _, _, rfl, by decide, mx_mem (in_t1 (List.mem_of_getElem? (i := 69) (by decide +kernel))) (by decide +kernel)⟩
theorem lfX10_210 : mx_F RX10 210 9 11 := ⟨_, _, _, rfl, by decide, mx_mem (in_t1 (List.mem_of_getElem? (i := 70) (by decide +kernel))) (by decide +kernel)⟩
theorem lfX3_13 : mx_F RX3 13 3 0 := ⟨_, _, _, rfl, by decide, mx_mem (in_t1 (List.mem_of_getElem? (i := 109) (by decide +kernel))) (by decide +kernel)⟩
theorem lfX3_19 : mx_F RX3 19 3 1 := ⟨_, _, _, rfl, by decide, mx_mem (in_t1 (List.mem_of_getElem? (i := 110) (by decide +kernel))) (by decide +kernel)⟩
theorem lfX6_59 : mx_F RX6 59 3 1 := ⟨_, _, _, rfl, by decide, mx_mem (in_t1 (List.mem_of_getElem? (i := 111) (by decide +kernel))) (by decide +kernel)⟩
theorem lfX10_246 : mx_F RX10 246 3 1 := ⟨_, _, _, rfl, by decide, mx_mem (in_t1 (List.mem_of_getElem? (i := 112) (by decide +kernel))) (by decide +kernel)⟩
theorem lfX4_12 : mx_F RX4 12 4 0 := ⟨_, _, _, rfl, by decide, mx_mem (in_t1 (List.mem_of_getElem? (i := 118) (by decide +kernel))) (by decide +kernel)⟩
theorem lfX10_74 : mx_F RX10 74 4 0 := ⟨_, _, _, rfl, by decide, mx_mem (in_t1 (List.mem_of_getElem? (i := 119) (by decide +kernel))) (by decide +kernel)⟩
theorem lfX4_18 : mx_F RX4 18 4 1 := ⟨_, _, _, rfl, by decide, mx_mem (in_t1 (List.mem_of_getElem? (i := 120) (by decide +kernel))) (by decide +kernel)⟩
theorem lfX4_69 : mx_F RX4 69 4 2 := ⟨_, _, _, rfl, by decide, mx_mem (in_t1 (List.mem_of_getElem? (i := 121) (by decide +kernel))) (by decide +kernel)⟩
theorem lfX4_72 : mx_F RX4 72 4 3 := ⟨_, _, _, rfl, by decide, mx_mem (in_t1 (List.mem_of_getElem? (i := 122) (by decide +kernel))) (by decide +kernel)⟩
theorem lfX10_185 : mx_F RX10 185 4 3 := ⟨_, _, _, rfl, by decide, mx_mem (in_t1 (List.mem_of_getElem? (i := 123) (by decide +kernel))) (by decide +kernel)⟩
theorem lfX4_24 : mx_F RX4 24 4 4 := ⟨_, _, _, rfl, by decide, mx_mem (in_t1 (List.mem_of_getElem? (i := 124) (by decide +kernel))) (by decide +kernel)⟩
theorem lfX10_104 : mx_F RX10 104 4 4 := ⟨_, _, _, rfl, by decide, mx_mem (in_t1 (List.mem_of_getElem? (i := 125) (by decide +kernel))) (by decide +kernel)⟩
theorem lfX4_66 : mx_F RX4 66 4 5 := ⟨_, _, _, rfl, by decide, mx_mem (in_t1 (List.mem_of_getElem? (i := 126) (by decide +kernel))) (by decide +kernel)⟩
theorem lfX10_97 : mx_F RX10 97 4 5 := ⟨_, _, _, rfl, by decide, mx_mem (in_t1 (List.mem_of_getElem? (i := 127) (by decide +kernel))) (by decide +kernel)⟩
theorem lfX4_28 : mx_F RX4 28 4 6 := ⟨_, _, _, rfl, by decide, mx_mem (in_t1 (List.mem_of_getElem? (i := 128) (by decide +kernel))) (by decide +kernel)⟩
theorem lfX10_118 : mx_F RX10 118 4 6 := ⟨_, _, _, rfl, by decide, mx_mem (in_t1 (List.mem_of_getElem? (i := 129) (by decide +kernel))) (by decide +kernel)⟩
theorem lfX4_32 : mx_F RX4 32 4 7 := ⟨_, _, _, rfl, by decide, mx_mem (in_t1 (List.mem_of_getElem? (i := 130) (by decide +kernel))) (by decide +kernel)⟩
theorem lfX10_81 : mx_F RX10 81 4 7 := ⟨_, _, _, rfl, by decide, mx_mem (in_t1 (List.mem_of_getElem? (i := 131) (by decide +kernel))) (by decide +kernel)⟩
theorem lfX4_41 : mx_F RX4 41 4 8 := ⟨_, _, _, rfl, by decide, mx_mem (in_t1 (List.mem_of_getElem? (i := 132) (by decide +kernel))) (by decide +kernel)⟩
theorem lfX10_222 : mx_F RX10 222 4 8 := ⟨_, _, _, rfl, by decide, mx_mem (in_t1 (List.mem_of_getElem? (i := 133) (by decide +kernel))) (by decide +kernel)⟩
theorem lfX4_45 : mx_F RX4 45 4 9 := ⟨_, _, _, rfl, by decide, mx_mem (in_t1 (List.mem_of_getElem? (i := 134) (by decide +kernel))) (by decide +kernel)⟩
theorem lfX10_264 : mx_F RX10 264 4 9 := ⟨_, _, _, rfl, by decide, mx_mem (in_t1 (List.mem_of_getElem? (i := 135) (by decide +kernel))) (by decide +kernel)⟩
theorem lfX4_48 : mx_F RX4 48 4 10 := ⟨_, _, _, rfl, by decide, mx_mem (in_t1 (List.mem_of_getElem? (i := 136) (by decide +kernel))) (by decide +kernel)⟩
theorem lfX10_243 : mx_F RX10 243 4 10 := ⟨_, _, _, rfl, by decide, mx_mem (in_t1 (List.mem_of_getElem? (i := 137) (by decide +kernel))) (by decide +kernel)⟩
theorem lfX4_51 : mx_F RX4 51 4 11 := ⟨_, _, _, rfl, by decide, mx_mem (in_t1 (List.mem_of_getElem? (i := 138) (by decide +kernel))) (by decide +kernel)⟩
theorem lfX10_317 : mx_F RX10 317 4 11 := ⟨_, _, _, rfl, by decide, mx_mem (in_t1 (List.mem_of_getElem? (i := 139) (by decide +kernel))) (by decide +kernel)⟩
theorem lfX4_54 : mx_F RX4 54 4 12 := ⟨_, _, _, rfl, by decide, mx_mem (in_t1 (List.mem_of_getElem? (i := 140) (by decide +kernel))) (by decide +kernel)⟩
theorem lfX10_320 : mx_F RX10 320 4 12 := ⟨_, _, _, rfl, by decide, mx_mem (in_t1 (List.mem_of_getElem? (i := 141) (by decide +kernel))) (by decide +kernel)⟩
theorem lfX4_57 : mx_F RX4 57 4 13 := ⟨_, _, _, rfl, by decide, mx_mem (in_t1 (List.mem_of_getElem? (i := 142) (by decide +kernel))) (by decide +kernel)⟩
theorem lfX10_287 : mx_F RX10 287 4 13 := ⟨_, _, _, rfl, by decide, mx_mem (in_t1 (List.mem_of_getElem? (i := 143) (by decide +kernel))) (by decide +kernel)⟩
theorem lfX4_60 : mx_F RX4 60 4 14 := ⟨_, _, _, rfl, by decide, mx_mem (in_t1 (List.mem_of_getElem? (i := 144) (by decide +kernel))) (by decide +kernel)⟩
theorem lfX10_290 : mx_F RX10 290 4 14 := ⟨_, _, _, rfl, by decide, mx_mem (in_t1 (List.mem_of_getElem? (i := 145) (by decide +kernel))) (by decide +kernel)⟩
theorem lfX4_63 : mx_F RX4 63 4 15 := ⟨_, _, _, rfl, by decide, mx_mem (in_t1 (List.mem_of_getElem? (i := 146) (by decide +kernel))) (by decide +kernel)⟩
theorem lfX10_304 : mx_F RX10 304 4 15 := ⟨_, _, _, rfl, by decide, mx_mem (in_t1 (List.mem_of_getElem? (i := 147) (by decide +kernel))) (by decide +kernel)⟩
theorem lfX7_9 : mx_F RX7 9 7 0 := ⟨_, _, _, rfl, by decide, mx_mem (in_t1 (List.mem_of_getElem? (i := 187) (by decide +kernel))) (by decide +kernel)⟩
theorem lfX7_15 : mx_F RX7 15 7 1 := ⟨_, _, _, rfl, by decide, mx_mem (in_t1 (List.mem_of_getElem? (i := 188) (by decide +kernel))) (by decide +kernel)⟩
theorem lfX10_89 : mx_F RX10 89 7 1 := ⟨_, _, _, rfl, by decide, mx_mem (in_t1 (List.mem_of_getElem? (i := 189) (by decide +kernel))) (by decide +kernel)⟩
theorem lfX2_58 : mx_F RX2 58 7 2 := ⟨_, _, _, rfl, by decide, mx_mem (in_t1 (List.mem_of_getElem? (i := 190) (by decide +kernel))) (by decide +kernel)⟩
theorem lfX7_36 : mx_F RX7 36 7 2 := ⟨_, _, _, rfl, by decide, mx_mem (in_t1 (List.mem_of_getElem? (i := 191) (by decide +kernel))) (by decide +kernel)⟩
theorem lfX7_67 : mx_F RX7 67 7 3 := ⟨_, _, _, rfl, by decide, mx_mem (in_t1 (List.mem_of_getElem? (i := 192) (by decide +kernel))) (by decide +kernel)⟩
theorem lfX2_105 : mx_F RX2 105 7 3 := ⟨_, _, _, rfl, by decide, mx_mem (in_t1 (List.mem_of_getElem? (i := 193) (by decide +kernel))) (by decide +kernel)⟩
theorem lfX7_29 : mx_F RX7 29 7 4 := ⟨_, _, _, rfl, by decide, mx_mem (in_t1 (List.mem_of_getElem? (i := 194) (by decide +kernel))) (by decide +kernel)⟩
theorem lfX2_79 : mx_F RX2 79 7 4 := ⟨_, _, _, rfl, by decide, mx_mem (in_t1 (List.mem_of_getElem? (i := 195) (by decide +kernel))) (by decide +kernel)⟩
theorem lfX7_23 : mx_F RX7 23 7 5 := ⟨_, _, _, rfl, by decide, mx_mem (in_t1 (List.mem_of_getElem? (i := 196) (by decide +kernel))) (by decide +kernel)⟩
theorem lfX2_34 : mx_F RX2 34 2 0 := ⟨_, _, _, rfl, by decide, mx_mem (in_t1 (List.mem_of_getElem? (i := 216) (by decide +kernel))) (by decide +kernel)⟩
theorem lfX2_9 : mx_F RX2 9 2 1 := ⟨_, _, _, rfl, by decide, mx_mem (in_t1 (List.mem_of_getElem? (i := 217) (by decide +kernel))) (by decide +kernel)⟩
theorem lfX10_112 : mx_F RX10 112 2 1 := ⟨_, _, _, rfl, by decide, mx_mem (in_t1 (List.mem_of_getElem? (i := 218) (by decide +kernel))) (by decide +kernel)⟩
theorem lfX2_15 : mx_F RX2 15 2 2 := ⟨_, _, _, rfl, by decide, mx_mem (in_t1 (List.mem_of_getElem? (i := 219) (by decide +kernel))) (by decide +kernel)⟩
theorem lfX10_115 : mx_F RX10 115 2 2 := ⟨_, _, _, rfl, by decide, mx_mem (in_t1 (List.mem_of_getElem? (i := 220) (by decide +kernel))) (by decide +kernel)⟩
theorem lfX2_89 : mx_F RX2 89 2 3 := ⟨_, _, _, rfl, by decide, mx_mem (in_t1 (List.mem_of_getElem? (i := 221) (by decide +kernel))) (by decide +kernel)⟩
theorem lfX2_38 : mx_F RX2 38 2 4 := ⟨_, _, _, rfl, by decide, mx_mem (in_t1 (List.mem_of_getElem? (i := 222) (by decide +kernel))) (by decide +kernel)⟩
theorem lfX2_41 : mx_F RX2 41 2 5 := ⟨_, _, _, rfl, by decide, mx_mem (in_t1 (List.mem_of_getElem? (i := 223) (by decide +kernel))) (by decide +kernel)⟩
theorem lfX2_44 : mx_F RX2 44 2 6 := ⟨_, _, _, rfl, by decide, mx_mem (in_t1 (List.mem_of_getElem? (i := 224) (by decide +kernel))) (by decide +kernel)⟩
theorem lfX2_18 : mx_F RX2 18 2 7 := ⟨_, _, _, rfl, by decide, mx_mem (in_t1 (List.mem_of_getElem? (i := 225) (by decide +kernel))) (by decide +kernel)⟩
theorem lfX2_22 : mx_F RX2 22 2 8 := ⟨_, _, _, rfl, by decide, mx_mem (in_t1 (List.mem_of_getElem? (i := 226) (by decide +kernel))) (by decide +kernel)⟩
theorem lfX2_25 : mx_F RX2 25 2 9 := ⟨_, _, _, rfl, by decide, mx_mem (in_t1 (List.mem_of_getElem? (i := 227) (by decide +kernel))) (by decide +kernel)⟩
theorem lfX2_28 : mx_F RX2 28 2 10 := ⟨_, _, _, rfl, by decide, mx_mem (in_t1 (List.mem_of_getElem? (i := 228) (by decide +kernel))) (by decide +kernel)⟩
theorem lfX2_31 : mx_F RX2 31 2 11 := ⟨_, _, _, rfl, by decide, mx_mem (in_t1 (List.mem_of_getElem? (i := 229) (by decide +kernel))) (by decide +kernel)⟩
theorem lfX0_9 : mx_F RX0 9 0 0 := ⟨_, _, _, rfl, by decide, mx_mem (in_t2 (List.mem_of_getElem? (i := 21) (by decide +kernel))) (by decide +kernel)⟩
theorem lfX0_99 : mx_F RX0 99 0 1 := ⟨_, _, _, rfl, by decide, mx_mem (in_t2 (List.mem_of_getElem? (i := 22) (by decide +kernel))) (by decide +kernel)⟩
theorem lfX6_14 : mx_F RX6 14 6 0 := ⟨_, _, _, rfl, by decide, mx_mem (in_t2 (List.mem_of_getElem? (i := 38) (by decide +kernel))) (by decide +kernel)⟩
theorem lfX10_260 : mx_F RX10 260 6 0 := ⟨_, _, _, rfl, by decide, mx_mem (in_t2 (List.mem_of_getElem? (i := 39) (by decide +kernel))) (by decide +kernel)⟩
theorem lfX6_20 : mx_F RX6 20 6 1 := ⟨_, _, _, rfl, by decide, mx_mem (in_t2 (List.mem_of_getElem? (i := 40) (by decide +kernel))) (by decide +kernel)⟩
theorem lfX6_24 : mx_F RX6 24 6 2 := ⟨_, _, _, rfl, by decide, mx_mem (in_t2 (List.mem_of_getElem? (i := 41) (by decide +kernel))) (by decide +kernel)⟩
theorem lfX6_27 : mx_F RX6 27 6 3 := ⟨_, _, _, rfl, by decide, mx_mem (in_t2 (List.mem_of_getElem? (i := 42) (by decide +kernel))) (by decide +kernel)⟩
theorem lfX6_32 : mx_F RX6 32 6 4 := ⟨_, _, _, rfl, by decide, mx_mem (in_t2 (List.mem_of_getElem? (i := 43) (by decide +kernel))) (by decide +kernel)⟩
theorem lfX6_35 : mx_F RX6 35 6 5 := ⟨_, _, _, rfl, by decide, mx_mem (in_t2 (List.mem_of_getElem? (i := 44) (by decide +kernel))) (by decide +kernel)⟩
theorem lfX6_38 : mx_F RX6 38 6 6 := ⟨_, _, _, rfl, by decide, mx_mem (in_t2 (List.mem_of_getElem? (i := 45) (by decide +kernel))) (by decide +kernel)⟩
theorem lfX1_9 : mx_F RX1 9 1 0 := ⟨_, _, _, rfl, by decide, mx_mem (in_t2 (List.mem_of_getElem? (i := 67) (by decide +kernel))) (by decide +kernel)⟩
theorem lfX10_297 : mx_F RX10 297 1 0 := ⟨_, _, _, rfl, by decide, mx_mem (in_t2 (List.mem_of_getElem? (i := 68) (by decide +kernel))) (by decide +kernel)⟩
theorem lfX1_15 : mx_F RX1 15 1 1 := ⟨_, _, _, rfl, by decide, mx_mem (in_t2 (List.mem_of_getElem? (i := 69) (by decide +kernel))) (by decide +kernel)⟩
theorem lfX1_18 : mx_F RX1 18 1 2 := ⟨_, _, _, rfl, by decide, mx_mem (in_t2 (List.mem_of_getElem? (i := 70) (by decide +kernel))) (by decide +kernel)⟩
theorem lfX5_9 : mx_F RX5 9 5 0 := ⟨_, _, _, rfl, by decide, mx_mem (in_t2 (List.mem_of_getElem? (i := 84) (by decide +kernel))) (by decide +kernel)⟩
theorem lfX10_311 : mx_F RX10 311 5 0 := ⟨_, _, _, rfl, by decide, mx_mem (in_t2 (List.mem_of_getElem? (i := 85) (by decide +kernel))) (by decide +kernel)⟩
theorem lfX5_15 : mx_F RX5 15 5 1 := ⟨_, _, _, rfl, by decide, mx_mem (in_t2 (List.mem_of_getElem? (i := 86) (by decide +kernel))) (by decide +kernel)⟩
theorem lfX10_314 : mx_F RX10 314 5 1 := ⟨_, _, _, rfl, by decide, mx_mem (in_t2 (List.mem_of_getElem? (i := 87) (by decide +kernel))) (by decide +kernel)⟩
theorem lfX5_18 : mx_F RX5 18 5 2 := ⟨_, _, _, rfl, by decide, mx_mem (in_t2 (List.mem_of_getElem? (i := 88) (by decide +kernel))) (by decide +kernel)⟩
theorem lfX10_10 : mx_F RX10 10 10 0 := ⟨_, _, _, rfl, by decide, mx_mem (in_t2 (List.mem_of_getElem? (i := 98) (by decide +kernel))) (by decide +kernel)⟩
theorem lfX10_16 : mx_F RX10 16 10 1 := ⟨_, _, _, rfl, by decide, mx_mem (in_t2 (List.mem_of_getElem? (i := 99) (by decide +kernel))) (by decide +kernel)⟩
theorem lfX10_22 : mx_F RX10 22 10 2 := ⟨_, _, _, rfl, by decide, mx_mem (in_t2 (List.mem_of_getElem? (i := 100) (by decide +kernel))) (by decide +kernel)⟩
theorem lfX10_31 : mx_F RX10 31 10 3 := ⟨_, _, _, rfl, by decide, mx_mem (in_t2 (List.mem_of_getElem? (i := 101) (by decide +kernel))) (by decide +kernel)⟩
theorem lfX10_38 : mx_F RX10 38 10 4 := ⟨_, _, _, rfl, by decide, mx_mem (in_t2 (List.mem_of_getElem? (i := 102) (by decide +kernel))) (by decide +kernel)⟩
theorem lfX10_45 : mx_F RX10 45 10 5 := ⟨_, _, _, rfl, by decide, mx_mem (in_t2 (List.mem_of_getElem? (i := 103) (by decide +kernel))) (by decide +kernel)⟩
theorem lfX10_52 : mx_F RX10 52 10 6 := ⟨_, _, _, rfl, by decide, mx_mem (in_t2 (List.mem_of_getElem? (i := 104) (by decide +kernel))) (by decide +kernel)⟩
theorem lfX10_59 : mx_F RX10 59 10 7 := ⟨_, _, _, rfl, by decide, mx_mem (in_t2 (List.mem_of_getElem? (i := 105) (by decide +kernel))) (by decide +kernel)⟩
theorem lfX10_66 : mx_F RX10 66 10 8 := ⟨_, _, _, rfl, by decide, mx_mem (in_t2 (List.mem_of_getElem? (i := 106) (by decide +kernel))) (by decide +kernel)⟩
theorem lsJ0_38 : Cond.fieldLink RJ0 38 "java/lang/String" "COMPACT_STRINGS" "Z" ∈ mx_g := mx_mem (in_t2 (List.mem_of_getElem? (i := 201) (by decide +kernel))) (by decide +kernel)
theorem lsJ0_1053 : Cond.fieldLink RJ0 1053 "jdk/internal/util/Preconditions" "SIOOBE_FORMATTER" "Ljava/util/function/BiFunction;" ∈ mx_g := mx_mem (in_t2 (List.mem_of_getElem? (i := 217) (by decide +kernel))) (by decide +kernel)
theorem lsJ2_44 : Cond.fieldLink RJ2 44 "java/lang/StringUTF16" "$assertionsDisabled" "Z" ∈ mx_g := mx_mem (in_t2 (List.mem_of_getElem? (i := 235) (by decide +kernel))) (by decide +kernel)
theorem lsJ2_59 : Cond.fieldLink RJ2 59 "java/lang/StringUTF16" "HI_BYTE_SHIFT" "I" ∈ mx_g := mx_mem (in_t2 (List.mem_of_getElem? (i := 237) (by decide +kernel))) (by decide +kernel)
theorem lsJ2_63 : Cond.fieldLink RJ2 63 "java/lang/StringUTF16" "LO_BYTE_SHIFT" "I" ∈ mx_g := mx_mem (in_t2 (List.mem_of_getElem? (i := 239) (by decide +kernel))) (by decide +kernel)
theorem lfX8_9 : mx_F RX8 9 8 0 := ⟨_, _, _, rfl, by decide, mx_mem (in_t3 (List.mem_of_getElem? (i := 171) (by decide +kernel))) (by decide +kernel)⟩
theorem lfX0_105 : mx_F RX0 105 8 0 := ⟨_, _, _, rfl, by decide, mx_mem (in_t3 (List.mem_of_getElem? (i := 172) (by decide +kernel))) (by decide +kernel)⟩
theorem lfX8_15 : mx_F RX8 15 8 1 := ⟨_, _, _, rfl, by decide, mx_mem (in_t3 (List.mem_of_getElem? (i := 173) (by decide +kernel))) (by decide +kernel)⟩
theorem lfX0_111 : mx_F RX0 111 8 1 := ⟨_, _, _, rfl, by decide, mx_mem (in_t3 (List.mem_of_getElem? (i := 174) (by decide +kernel))) (by decide +kernel)⟩
theorem lfX8_18 : mx_F RX8 18 8 2 := ⟨_, _, _, rfl, by decide, mx_mem (in_t3 (List.mem_of_getElem? (i := 175) (by decide +kernel))) (by decide +kernel)⟩
theorem lfX0_108 : mx_F RX0 108 8 2 := ⟨_, _, _, rfl, by decide, mx_mem (in_t3 (List.mem_of_getElem? (i := 176) (by decide +kernel))) (by decide +kernel)⟩
theorem lfX8_21 : mx_F RX8 21 8 3 := ⟨_, _, _, rfl, by decide, mx_mem (in_t3 (List.mem_of_getElem? (i := 177) (by decide +kernel))) (by decide +kernel)⟩
theorem lfX0_102 : mx_F RX0 102 8 3 := ⟨_, _, _, rfl, by decide, mx_mem (in_t3 (List.mem_of_getElem? (i := 178) (by decide +kernel))) (by decide +kernel)⟩
theorem lfX8_24 : mx_F RX8 24 8 4 := ⟨_, _, _, rfl, by decide, mx_mem (in_t3 (List.mem_of_getElem? (i := 179) (by decide +kernel))) (by decide +kernel)⟩
theorem lfX8_27 : mx_F RX8 27 8 5 := ⟨_, _, _, rfl, by decide, mx_mem (in_t3 (List.mem_of_getElem? (i := 180) (by decide +kernel))) (by decide +kernel)⟩
theorem lfX10_154 : mx_F RX10 154 8 5 := ⟨_, _, _, rfl, by decide, mx_mem (in_t3 (List.mem_of_getElem? (i := 181) (by decide +kernel))) (by decide +kernel)⟩
theorem lsX10_366 : Cond.fieldLink RX10 366 "MachinesDream" "POWERS" "[I" ∈ mx_g := mx_mem (in_t4 (List.mem_of_getElem? (i := 52) (by decide +kernel))) (by decide +kernel)
theorem lfX11_7 : mx_F RX11 7 11 0 := ⟨_, _, _, rfl, by decide, mx_mem (in_t5 (List.mem_of_getElem? (i := 206) (by decide +kernel))) (by decide +kernel)⟩
theorem lfX11_13 : mx_F RX11 13 11 1 := ⟨_, _, _, rfl, by decide, mx_mem (in_t5 (List.mem_of_getElem? (i := 207) (by decide +kernel))) (by decide +kernel)⟩
theorem lfX11_16 : mx_F RX11 16 11 2 := ⟨_, _, _, rfl, by decide, mx_mem (in_t5 (List.mem_of_getElem? (i := 208) (by decide +kernel))) (by decide +kernel)⟩
theorem lfX11_19 : mx_F RX11 19 11 3 := ⟨_, _, _, rfl, by decide, mx_mem (in_t5 (List.mem_of_getElem? (i := 209) (by decide +kernel))) (by decide +kernel)⟩
theorem lfX11_111 : mx_F RX11 111 11 4 := ⟨_, _, _, rfl, by decide, mx_mem (in_t5 (List.mem_of_getElem? (i := 210) (by decide +kernel))) (by decide +kernel)⟩
theorem lfX11_22 : mx_F RX11 22 11 5 := ⟨_, _, _, rfl, by decide, mx_mem (in_t5 (List.mem_of_getElem? (i := 211) (by decide +kernel))) (by decide +kernel)⟩
theorem lfX11_26 : mx_F RX11 26 11 6 := ⟨_, _, _, rfl, by decide, mx_mem (in_t5 (List.mem_of_getElem? (i := 212) (by decide +kernel))) (by decide +kernel)⟩
theorem lfX11_117 : mx_F RX11 117 11 7 := ⟨_, _, _, rfl, by decide, mx_mem (in_t5 (List.mem_of_getElem? (i := 213) (by decide +kernel))) (by decide +kernel)⟩
theorem lfX11_123 : mx_F RX11 123 11 8 := ⟨_, _, _, rfl, by decide, mx_mem (in_t5 (List.mem_of_getElem? (i := 214) (by decide +kernel))) (by decide +kernel)⟩
theorem lfX11_126 : mx_F RX11 126 11 9 := ⟨_, _, _, rfl, by decide, mx_mem (in_t5 (List.mem_of_getElem? (i := 215) (by decide +kernel))) (by decide +kernel)⟩
theorem lfX11_132 : mx_F RX11 132 11 10 := ⟨_, _, _, rfl, by decide, mx_mem (in_t5 (List.mem_of_getElem? (i := 216) (by decide +kernel))) (by decide +kernel)⟩
theorem lfX11_139 : mx_F RX11 139 11 11 := ⟨_, _, _, rfl, by decide, mx_mem (in_t5 (List.mem_of_getElem? (i := 217) (by decide +kernel))) (by decide +kernel)⟩
theorem lfX11_164 : mx_F RX11 164 11 12 := ⟨_, _, _, rfl, by decide, mx_mem (in_t5 (List.mem_of_getElem? (i := 218) (by decide +kernel))) (by decide +kernel)⟩
theorem lfX11_167 : mx_F RX11 167 11 13 := ⟨_, _, _, rfl, by decide, mx_mem (in_t5 (List.mem_of_getElem? (i := 219) (by decide +kernel))) (by decide +kernel)⟩
theorem lfX11_170 : mx_F RX11 170 11 14 := ⟨_, _, _, rfl, by decide, mx_mem (in_t5 (List.mem_of_getElem? (i := 220) (by decide +kernel))) (by decide +kernel)⟩
theorem lfX11_29 : mx_F RX11 29 11 15 := ⟨_, _, _, rfl, by decide, mx_mem (in_t5 (List.mem_of_getElem? (i := 221) (by decide +kernel))) (by decide +kernel)⟩
theorem lfX11_173 : mx_F RX11 173 11 16 := ⟨_, _, _, rfl, by decide, mx_mem (in_t5 (List.mem_of_getElem? (i := 222) (by decide +kernel))) (by decide +kernel)⟩
theorem lfX11_183 : mx_F RX11 183 11 17 := ⟨_, _, _, rfl, by decide, mx_mem (in_t5 (List.mem_of_getElem? (i := 223) (by decide +kernel))) (by decide +kernel)⟩
theorem lfX11_202 : mx_F RX11 202 11 18 := ⟨_, _, _, rfl, by decide, mx_mem (in_t5 (List.mem_of_getElem? (i := 224) (by decide +kernel))) (by decide +kernel)⟩
theorem lfX11_266 : mx_F RX11 266 11 19 := ⟨_, _, _, rfl, by decide, mx_mem (in_t5 (List.mem_of_getElem? (i := 225) (by decide +kernel))) (by decide +kernel)⟩
theorem lfX11_32 : mx_F RX11 32 11 20 := ⟨_, _, _, rfl, by decide, mx_mem (in_t5 (List.mem_of_getElem? (i := 226) (by decide +kernel))) (by decide +kernel)⟩
theorem lfX11_35 : mx_F RX11 35 11 21 := ⟨_, _, _, rfl, by decide, mx_mem (in_t5 (List.mem_of_getElem? (i := 227) (by decide +kernel))) (by decide +kernel)⟩
theorem lfX11_39 : mx_F RX11 39 11 22 := ⟨_, _, _, rfl, by decide, mx_mem (in_t5 (List.mem_of_getElem? (i := 228) (by decide +kernel))) (by decide +kernel)⟩
theorem lfX11_43 : mx_F RX11 43 11 23 := ⟨_, _, _, rfl, by decide, mx_mem (in_t5 (List.mem_of_getElem? (i := 229) (by decide +kernel))) (by decide +kernel)⟩
theorem lfX11_362 : mx_F RX11 362 11 24 := ⟨_, _, _, rfl, by decide, mx_mem (in_t5 (List.mem_of_getElem? (i := 230) (by decide +kernel))) (by decide +kernel)⟩
theorem lfX11_47 : mx_F RX11 47 11 25 := ⟨_, _, _, rfl, by decide, mx_mem (in_t5 (List.mem_of_getElem? (i := 231) (by decide +kernel))) (by decide +kernel)⟩
theorem lfX11_50 : mx_F RX11 50 11 26 := ⟨_, _, _, rfl, by decide, mx_mem (in_t5 (List.mem_of_getElem? (i := 232) (by decide +kernel))) (by decide +kernel)⟩
theorem lfX11_53 : mx_F RX11 53 11 27 := ⟨_, _, _, rfl, by decide, mx_mem (in_t5 (List.mem_of_getElem? (i := 233) (by decide +kernel))) (by decide +kernel)⟩
theorem lfX11_56 : mx_F RX11 56 11 28 := ⟨_, _, _, rfl, by decide, mx_mem (in_t5 (List.mem_of_getElem? (i := 234) (by decide +kernel))) (by decide +kernel)⟩
theorem lfX11_59 : mx_F RX11 59 11 29 := ⟨_, _, _, rfl, by decide, mx_mem (in_t5 (List.mem_of_getElem? (i := 235) (by decide +kernel))) (by decide +kernel)⟩
theorem lfX11_62 : mx_F RX11 62 11 30 := ⟨_, _, _, rfl, by decide, mx_mem (in_t5 (List.mem_of_getElem? (i := 236) (by decide +kernel))) (by decide +kernel)⟩
theorem lfX11_65 : mx_F RX11 65 11 31 := ⟨_, _, _, rfl, by decide, mx_mem (in_t5 (List.mem_of_getElem? (i := 237) (by decide +kernel))) (by decide +kernel)⟩
theorem lfX11_68 : mx_F RX11 68 11 32 := ⟨_, _, _, rfl, by decide, mx_mem (in_t5 (List.mem_of_getElem? (i := 238) (by decide +kernel))) (by decide +kernel)⟩
theorem lfX11_71 : mx_F RX11 71 11 33 := ⟨_, _, _, rfl, by decide, mx_mem (in_t5 (List.mem_of_getElem? (i := 239) (by decide +kernel))) (by decide +kernel)⟩
theorem lfX11_74 : mx_F RX11 74 11 34 := ⟨_, _, _, rfl, by decide, mx_mem (in_t6 (List.mem_of_getElem? (i := 0) (by decide +kernel))) (by decide +kernel)⟩
theorem lfX11_77 : mx_F RX11 77 11 35 := ⟨_, _, _, rfl, by decide, mx_mem (in_t6 (List.mem_of_getElem? (i := 1) (by decide +kernel))) (by decide +kernel)⟩
theorem lfX11_80 : mx_F RX11 80 11 36 := ⟨_, _, _, rfl, by decide, mx_mem (in_t6 (List.mem_of_getElem? (i := 2) (by decide +kernel))) (by decide +kernel)⟩
theorem lsJ0_9 : Cond.fieldLink RJ0 9 "java/lang/String" "value" "[B" ∈ mx_g := mx_mem (in_t8 (List.mem_of_getElem? (i := 174) (by decide +kernel))) (by decide +kernel)
theorem lsJ0_15 : Cond.fieldLink RJ0 15 "java/lang/String" "coder" "B" ∈ mx_g := mx_mem (in_t8 (List.mem_of_getElem? (i := 175) (by decide +kernel))) (by decide +kernel)
theorem lmL_9 : Cond.methodLink RL 9 yX10_init ∈ mx_g := mx_mem (in_t1 (List.mem_of_getElem? (i := 24) (by decide +kernel))) (by decide +kernel)
theorem lmX10_1 : Cond.methodLink RX10 1 ⟨"java/lang/Object", "<init>", "()V"⟩ ∈ mx_g := mx_mem (in_t1 (List.mem_of_getElem? (i := 27) (by decide +kernel))) (by decide +kernel)
theorem lmX10_9 : Cond.methodLink RX10 9 yX4_init ∈ mx_g := mx_mem (in_t1 (List.mem_of_getElem? (i := 32) (by decide +kernel))) (by decide +kernel)
theorem lmX4_3 : Cond.methodLink RX4 3 ⟨"java/lang/Object", "<init>", "()V"⟩ ∈ mx_g := mx_mem (in_t1 (List.mem_of_getElem? (i := 35) (by decide +kernel))) (by decide +kernel)
theorem lmX9_3 : Cond.methodLink RX9 3 ⟨"java/lang/Object", "<init>", "()V"⟩ ∈ mx_g := mx_mem (in_t1 (List.mem_of_getElem? (i := 41) (by decide +kernel))) (by decide +kernel)
theorem lmX4_38 : Cond.methodLink RX4 38 yX3_init ∈ mx_g := mx_mem (in_t1 (List.mem_of_getElem? (i := 102) (by decide +kernel))) (by decide +kernel)
theorem lmX3_1 : Cond.methodLink RX3 1 ⟨"java/lang/Object", "<init>", "()V"⟩ ∈ mx_g := mx_mem (in_t1 (List.mem_of_getElem? (i := 105) (by decide +kernel))) (by decide +kernel)
theorem lmX3_7 : Cond.methodLink RX3 7 yJ9_max_7cf53 ∈ mx_g := mx_mem (in_t1 (List.mem_of_getElem? (i := 106) (by decide +kernel))) (by decide +kernel)
theorem lmX7_3 : Cond.methodLink RX7 3 ⟨"java/lang/Object", "<init>", "()V"⟩ ∈ mx_g := mx_mem (in_t1 (List.mem_of_getElem? (i := 186) (by decide +kernel))) (by decide +kernel)
theorem lmX10_28 : Cond.methodLink RX10 28 yX2_init ∈ mx_g := mx_mem (in_t1 (List.mem_of_getElem? (i := 212) (by decide +kernel))) (by decide +kernel)
theorem lmX2_3 : Cond.methodLink RX2 3 ⟨"java/lang/Object", "<init>", "()V"⟩ ∈ mx_g := mx_mem (in_t1 (List.mem_of_getElem? (i := 215) (by decide +kernel))) (by decide +kernel)
theorem lmX0_3 : Cond.methodLink RX0 3 ⟨"java/lang/Object", "<init>", "()V"⟩ ∈ mx_g := mx_mem (in_t2 (List.mem_of_getElem? (i := 20) (by decide +kernel))) (by decide +kernel)
theorem lmX6_3 : Cond.methodLink RX6 3 ⟨"java/lang/Object", "<init>", "()V"⟩ ∈ mx_g := mx_mem (in_t2 (List.mem_of_getElem? (i := 33) (by decide +kernel))) (by decide +kernel)
theorem lmX6_11 : Cond.methodLink RX6 11 yX3_init ∈ mx_g := mx_mem (in_t2 (List.mem_of_getElem? (i := 35) (by decide +kernel))) (by decide +kernel)
theorem lmX1_3 : Cond.methodLink RX1 3 ⟨"java/lang/Object", "<init>", "()V"⟩ ∈ mx_g := mx_mem (in_t2 (List.mem_of_getElem? (i := 66) (by decide +kernel))) (by decide +kernel)
theorem lmX5_3 : Cond.methodLink RX5 3 ⟨"java/lang/Object", "<init>", "()V"⟩ ∈ mx_g := mx_mem (in_t2 (List.mem_of_getElem? (i := 83) (by decide +kernel))) (by decide +kernel)
theorem lmL_13 : Cond.methodLink RL 13 yX10_machine ∈ mx_g := mx_mem (in_t2 (List.mem_of_getElem? (i := 126) (by decide +kernel))) (by decide +kernel)
theorem lmX10_70 : Cond.methodLink RX10 70 yX10_within ∈ mx_g := mx_mem (in_t2 (List.mem_of_getElem? (i := 130) (by decide +kernel))) (by decide +kernel)
theorem lmX10_77 : Cond.methodLink RX10 77 yX9_install ∈ mx_g := mx_mem (in_t2 (List.mem_of_getElem? (i := 133) (by decide +kernel))) (by decide +kernel)
theorem lmX9_47 : Cond.methodLink RX9 47 yX9_setAsTold ∈ mx_g := mx_mem (in_t2 (List.mem_of_getElem? (i := 138) (by decide +kernel))) (by decide +kernel)
theorem lmL_18 : Cond.methodLink RL 18 yX10_rule ∈ mx_g := mx_mem (in_t2 (List.mem_of_getElem? (i := 142) (by decide +kernel))) (by decide +kernel)
theorem lmX10_85 : Cond.methodLink RX10 85 yX10_ruleIndex ∈ mx_g := mx_mem (in_t2 (List.mem_of_getElem? (i := 146) (by decide +kernel))) (by decide +kernel)
theorem lmL_23 : Cond.methodLink RL 23 yX10_feed ∈ mx_g := mx_mem (in_t2 (List.mem_of_getElem? (i := 149) (by decide +kernel))) (by decide +kernel)
theorem lmX10_93 : Cond.methodLink RX10 93 yX7_append ∈ mx_g := mx_mem (in_t2 (List.mem_of_getElem? (i := 153) (by decide +kernel))) (by decide +kernel)
theorem lmL_28 : Cond.methodLink RL 28 yX10_end ∈ mx_g := mx_mem (in_t2 (List.mem_of_getElem? (i := 158) (by decide +kernel))) (by decide +kernel)
theorem lmL_33 : Cond.methodLink RL 33 yX10_text ∈ mx_g := mx_mem (in_t2 (List.mem_of_getElem? (i := 162) (by decide +kernel))) (by decide +kernel)
theorem lmX10_100 : Cond.methodLink RX10 100 yX2_read ∈ mx_g := mx_mem (in_t2 (List.mem_of_getElem? (i := 166) (by decide +kernel))) (by decide +kernel)
theorem lmX2_47 : Cond.methodLink RX2 47 yJ7_fill_53178 ∈ mx_g := mx_mem (in_t2 (List.mem_of_getElem? (i := 170) (by decide +kernel))) (by decide +kernel)
theorem lmX2_53 : Cond.methodLink RX2 53 yX7_rewind ∈ mx_g := mx_mem (in_t2 (List.mem_of_getElem? (i := 173) (by decide +kernel))) (by decide +kernel)
theorem lmX7_26 : Cond.methodLink RX7 26 yX7_advance ∈ mx_g := mx_mem (in_t2 (List.mem_of_getElem? (i := 177) (by decide +kernel))) (by decide +kernel)
theorem lmX7_32 : Cond.methodLink RX7 32 yX7_byteAt ∈ mx_g := mx_mem (in_t2 (List.mem_of_getElem? (i := 181) (by decide +kernel))) (by decide +kernel)
theorem lmX7_39 : Cond.methodLink RX7 39 yX7_isLetter ∈ mx_g := mx_mem (in_t2 (List.mem_of_getElem? (i := 185) (by decide +kernel))) (by decide +kernel)
theorem lmX7_43 : Cond.methodLink RX7 43 yX7_scanWord ∈ mx_g := mx_mem (in_t2 (List.mem_of_getElem? (i := 188) (by decide +kernel))) (by decide +kernel)
theorem lmX7_58 : Cond.methodLink RX7 58 yJ0_length_8abf5 ∈ mx_g := mx_mem (in_t2 (List.mem_of_getElem? (i := 193) (by decide +kernel))) (by decide +kernel)
theorem lmJ0_335 : Cond.methodLink RJ0 335 yJ0_coder_7d493 ∈ mx_g := mx_mem (in_t2 (List.mem_of_getElem? (i := 197) (by decide +kernel))) (by decide +kernel)
theorem lmX7_63 : Cond.methodLink RX7 63 yJ0_charAt_5068e ∈ mx_g := mx_mem (in_t2 (List.mem_of_getElem? (i := 203) (by decide +kernel))) (by decide +kernel)
theorem lmJ0_492 : Cond.methodLink RJ0 492 yJ0_isLatin1_aae02 ∈ mx_g := mx_mem (in_t2 (List.mem_of_getElem? (i := 207) (by decide +kernel))) (by decide +kernel)
theorem lmJ0_495 : Cond.methodLink RJ0 495 yJ1_charAt_3b067 ∈ mx_g := mx_mem (in_t2 (List.mem_of_getElem? (i := 211) (by decide +kernel))) (by decide +kernel)
theorem lmJ1_9 : Cond.methodLink RJ1 9 yJ0_checkIndex_df160 ∈ mx_g := mx_mem (in_t2 (List.mem_of_getElem? (i := 214) (by decide +kernel))) (by decide +kernel)
theorem lmJ0_1059 : Cond.methodLink RJ0 1059 yJ3_checkIndex_8e157 ∈ mx_g := mx_mem (in_t2 (List.mem_of_getElem? (i := 219) (by decide +kernel))) (by decide +kernel)
theorem lmJ0_498 : Cond.methodLink RJ0 498 yJ2_charAt_3b067 ∈ mx_g := mx_mem (in_t2 (List.mem_of_getElem? (i := 222) (by decide +kernel))) (by decide +kernel)
theorem lmJ2_67 : Cond.methodLink RJ2 67 yJ2_checkIndex_2214a ∈ mx_g := mx_mem (in_t2 (List.mem_of_getElem? (i := 225) (by decide +kernel))) (by decide +kernel)
theorem lmJ2_48 : Cond.methodLink RJ2 48 yJ2_length_9d52b ∈ mx_g := mx_mem (in_t2 (List.mem_of_getElem? (i := 228) (by decide +kernel))) (by decide +kernel)
theorem lmJ2_414 : Cond.methodLink RJ2 414 yJ0_checkIndex_df160 ∈ mx_g := mx_mem (in_t2 (List.mem_of_getElem? (i := 231) (by decide +kernel))) (by decide +kernel)
theorem lmJ2_71 : Cond.methodLink RJ2 71 yJ2_getChar_3b067 ∈ mx_g := mx_mem (in_t2 (List.mem_of_getElem? (i := 232) (by decide +kernel))) (by decide +kernel)
theorem lmX7_46 : Cond.methodLink RX7 46 yX7_isDigit ∈ mx_g := mx_mem (in_t3 (List.mem_of_getElem? (i := 1) (by decide +kernel))) (by decide +kernel)
theorem lmX7_49 : Cond.methodLink RX7 49 yX7_scanNumber ∈ mx_g := mx_mem (in_t3 (List.mem_of_getElem? (i := 4) (by decide +kernel))) (by decide +kernel)
theorem lmX7_70 : Cond.methodLink RX7 70 yJ9_min_7cf53 ∈ mx_g := mx_mem (in_t3 (List.mem_of_getElem? (i := 8) (by decide +kernel))) (by decide +kernel)
theorem lmX7_52 : Cond.methodLink RX7 52 yX7_scanSymbol ∈ mx_g := mx_mem (in_t3 (List.mem_of_getElem? (i := 11) (by decide +kernel))) (by decide +kernel)
theorem lmX7_78 : Cond.methodLink RX7 78 yJ0_indexOf_0f7a4 ∈ mx_g := mx_mem (in_t3 (List.mem_of_getElem? (i := 16) (by decide +kernel))) (by decide +kernel)
theorem lmJ0_633 : Cond.methodLink RJ0 633 yJ0_indexOf_7cf53 ∈ mx_g := mx_mem (in_t3 (List.mem_of_getElem? (i := 20) (by decide +kernel))) (by decide +kernel)
theorem lmJ0_505 : Cond.methodLink RJ0 505 yJ0_length_8abf5 ∈ mx_g := mx_mem (in_t3 (List.mem_of_getElem? (i := 24) (by decide +kernel))) (by decide +kernel)
theorem lmJ0_637 : Cond.methodLink RJ0 637 yJ1_indexOf_4cfef ∈ mx_g := mx_mem (in_t3 (List.mem_of_getElem? (i := 25) (by decide +kernel))) (by decide +kernel)
theorem lmJ1_88 : Cond.methodLink RJ1 88 yJ1_canEncode_9a6ad ∈ mx_g := mx_mem (in_t3 (List.mem_of_getElem? (i := 28) (by decide +kernel))) (by decide +kernel)
theorem lmJ1_92 : Cond.methodLink RJ1 92 yJ9_max_7cf53 ∈ mx_g := mx_mem (in_t3 (List.mem_of_getElem? (i := 31) (by decide +kernel))) (by decide +kernel)
theorem lmJ1_38 : Cond.methodLink RJ1 38 yJ9_min_7cf53 ∈ mx_g := mx_mem (in_t3 (List.mem_of_getElem? (i := 32) (by decide +kernel))) (by decide +kernel)
theorem lmJ1_95 : Cond.methodLink RJ1 95 yJ1_indexOfChar_4cfef ∈ mx_g := mx_mem (in_t3 (List.mem_of_getElem? (i := 33) (by decide +kernel))) (by decide +kernel)
theorem lmJ0_640 : Cond.methodLink RJ0 640 yJ2_indexOf_4cfef ∈ mx_g := mx_mem (in_t3 (List.mem_of_getElem? (i := 36) (by decide +kernel))) (by decide +kernel)
theorem lmJ2_224 : Cond.methodLink RJ2 224 yJ9_max_7cf53 ∈ mx_g := mx_mem (in_t3 (List.mem_of_getElem? (i := 39) (by decide +kernel))) (by decide +kernel)
theorem lmJ2_183 : Cond.methodLink RJ2 183 yJ9_min_7cf53 ∈ mx_g := mx_mem (in_t3 (List.mem_of_getElem? (i := 40) (by decide +kernel))) (by decide +kernel)
theorem lmJ2_228 : Cond.methodLink RJ2 228 yJ2_indexOfChar_4cfef ∈ mx_g := mx_mem (in_t3 (List.mem_of_getElem? (i := 42) (by decide +kernel))) (by decide +kernel)
theorem lmJ2_96 : Cond.methodLink RJ2 96 yJ2_checkBoundsBeginEnd_d044e ∈ mx_g := mx_mem (in_t3 (List.mem_of_getElem? (i := 45) (by decide +kernel))) (by decide +kernel)
theorem lmJ2_241 : Cond.methodLink RJ2 241 yJ0_checkBoundsBeginEnd_23922 ∈ mx_g := mx_mem (in_t3 (List.mem_of_getElem? (i := 48) (by decide +kernel))) (by decide +kernel)
theorem lmJ0_1062 : Cond.methodLink RJ0 1062 yJ3_checkFromToIndex_8c36e ∈ mx_g := mx_mem (in_t3 (List.mem_of_getElem? (i := 51) (by decide +kernel))) (by decide +kernel)
theorem lmJ2_244 : Cond.methodLink RJ2 244 yJ2_indexOfCharUnsafe_4cfef ∈ mx_g := mx_mem (in_t3 (List.mem_of_getElem? (i := 54) (by decide +kernel))) (by decide +kernel)
theorem lmJ2_232 : Cond.methodLink RJ2 232 yJ2_indexOfSupplementary_4cfef ∈ mx_g := mx_mem (in_t3 (List.mem_of_getElem? (i := 57) (by decide +kernel))) (by decide +kernel)
theorem lmJ2_164 : Cond.methodLink RJ2 164 yJ11_isValidCodePoint_9a6ad ∈ mx_g := mx_mem (in_t3 (List.mem_of_getElem? (i := 60) (by decide +kernel))) (by decide +kernel)
theorem lmJ2_157 : Cond.methodLink RJ2 157 yJ11_highSurrogate_5068e ∈ mx_g := mx_mem (in_t3 (List.mem_of_getElem? (i := 63) (by decide +kernel))) (by decide +kernel)
theorem lmJ2_161 : Cond.methodLink RJ2 161 yJ11_lowSurrogate_5068e ∈ mx_g := mx_mem (in_t3 (List.mem_of_getElem? (i := 67) (by decide +kernel))) (by decide +kernel)
theorem lmX2_61 : Cond.methodLink RX2 61 yX2_readClause ∈ mx_g := mx_mem (in_t3 (List.mem_of_getElem? (i := 71) (by decide +kernel))) (by decide +kernel)
theorem lmX2_82 : Cond.methodLink RX2 82 yX2_refuse ∈ mx_g := mx_mem (in_t3 (List.mem_of_getElem? (i := 75) (by decide +kernel))) (by decide +kernel)
theorem lmX2_86 : Cond.methodLink RX2 86 yX7_advance ∈ mx_g := mx_mem (in_t3 (List.mem_of_getElem? (i := 79) (by decide +kernel))) (by decide +kernel)
theorem lmX2_92 : Cond.methodLink RX2 92 yX2_readSum ∈ mx_g := mx_mem (in_t3 (List.mem_of_getElem? (i := 80) (by decide +kernel))) (by decide +kernel)
theorem lmX2_111 : Cond.methodLink RX2 111 yX2_readProduct ∈ mx_g := mx_mem (in_t3 (List.mem_of_getElem? (i := 84) (by decide +kernel))) (by decide +kernel)
theorem lmX2_118 : Cond.methodLink RX2 118 yX2_readOne ∈ mx_g := mx_mem (in_t3 (List.mem_of_getElem? (i := 88) (by decide +kernel))) (by decide +kernel)
theorem lmX2_121 : Cond.methodLink RX2 121 yX2_readNumber ∈ mx_g := mx_mem (in_t3 (List.mem_of_getElem? (i := 92) (by decide +kernel))) (by decide +kernel)
theorem lmX2_114 : Cond.methodLink RX2 114 yX2_order ∈ mx_g := mx_mem (in_t3 (List.mem_of_getElem? (i := 96) (by decide +kernel))) (by decide +kernel)
theorem lmX2_124 : Cond.methodLink RX2 124 yX2_readName ∈ mx_g := mx_mem (in_t3 (List.mem_of_getElem? (i := 101) (by decide +kernel))) (by decide +kernel)
theorem lmX2_127 : Cond.methodLink RX2 127 yX2_readOpened ∈ mx_g := mx_mem (in_t3 (List.mem_of_getElem? (i := 105) (by decide +kernel))) (by decide +kernel)
theorem lmX2_98 : Cond.methodLink RX2 98 yX2_expect ∈ mx_g := mx_mem (in_t3 (List.mem_of_getElem? (i := 109) (by decide +kernel))) (by decide +kernel)
theorem lmX2_130 : Cond.methodLink RX2 130 yX2_readChoice ∈ mx_g := mx_mem (in_t3 (List.mem_of_getElem? (i := 113) (by decide +kernel))) (by decide +kernel)
theorem lmX2_133 : Cond.methodLink RX2 133 yX2_readEither ∈ mx_g := mx_mem (in_t3 (List.mem_of_getElem? (i := 117) (by decide +kernel))) (by decide +kernel)
theorem lmX2_140 : Cond.methodLink RX2 140 yX2_readBoth ∈ mx_g := mx_mem (in_t3 (List.mem_of_getElem? (i := 121) (by decide +kernel))) (by decide +kernel)
theorem lmX2_143 : Cond.methodLink RX2 143 yX2_readAsk ∈ mx_g := mx_mem (in_t3 (List.mem_of_getElem? (i := 125) (by decide +kernel))) (by decide +kernel)
theorem lmX2_146 : Cond.methodLink RX2 146 yX2_readComparison ∈ mx_g := mx_mem (in_t3 (List.mem_of_getElem? (i := 129) (by decide +kernel))) (by decide +kernel)
theorem lmX2_136 : Cond.methodLink RX2 136 yX2_aim ∈ mx_g := mx_mem (in_t3 (List.mem_of_getElem? (i := 133) (by decide +kernel))) (by decide +kernel)
theorem lmX2_95 : Cond.methodLink RX2 95 yX2_readOrder ∈ mx_g := mx_mem (in_t3 (List.mem_of_getElem? (i := 137) (by decide +kernel))) (by decide +kernel)
theorem lmX2_101 : Cond.methodLink RX2 101 yX2_readPart ∈ mx_g := mx_mem (in_t3 (List.mem_of_getElem? (i := 141) (by decide +kernel))) (by decide +kernel)
theorem lmX10_108 : Cond.methodLink RX10 108 yX2_compiled ∈ mx_g := mx_mem (in_t3 (List.mem_of_getElem? (i := 145) (by decide +kernel))) (by decide +kernel)
theorem lmX2_67 : Cond.methodLink RX2 67 yJ7_copyOf_59c91 ∈ mx_g := mx_mem (in_t3 (List.mem_of_getElem? (i := 151) (by decide +kernel))) (by decide +kernel)
theorem lmJ7_316 : Cond.methodLink RJ7 316 ⟨"[I", "clone", "()Ljava/lang/Object;"⟩ ∈ mx_g := mx_mem (in_t3 (List.mem_of_getElem? (i := 154) (by decide +kernel))) (by decide +kernel)
theorem lmJ7_304 : Cond.methodLink RJ7 304 yJ9_min_7cf53 ∈ mx_g := mx_mem (in_t3 (List.mem_of_getElem? (i := 161) (by decide +kernel))) (by decide +kernel)
theorem lmJ7_150 : Cond.methodLink RJ7 150 ⟨"java/lang/System", "arraycopy", "(Ljava/lang/Object;ILjava/lang/Object;II)V"⟩ ∈ mx_g := mx_mem (in_t3 (List.mem_of_getElem? (i := 162) (by decide +kernel))) (by decide +kernel)
theorem lmX2_71 : Cond.methodLink RX2 71 ⟨"[I", "clone", "()Ljava/lang/Object;"⟩ ∈ mx_g := mx_mem (in_t3 (List.mem_of_getElem? (i := 165) (by decide +kernel))) (by decide +kernel)
theorem lmX2_76 : Cond.methodLink RX2 76 yX8_init ∈ mx_g := mx_mem (in_t3 (List.mem_of_getElem? (i := 167) (by decide +kernel))) (by decide +kernel)
theorem lmX8_3 : Cond.methodLink RX8 3 ⟨"java/lang/Object", "<init>", "()V"⟩ ∈ mx_g := mx_mem (in_t3 (List.mem_of_getElem? (i := 170) (by decide +kernel))) (by decide +kernel)
theorem lmL_38 : Cond.methodLink RL 38 yX10_fault ∈ mx_g := mx_mem (in_t3 (List.mem_of_getElem? (i := 196) (by decide +kernel))) (by decide +kernel)
theorem lmL_42 : Cond.methodLink RL 42 yX10_by ∈ mx_g := mx_mem (in_t3 (List.mem_of_getElem? (i := 200) (by decide +kernel))) (by decide +kernel)
theorem lmL_47 : Cond.methodLink RL 47 yX10_crank ∈ mx_g := mx_mem (in_t3 (List.mem_of_getElem? (i := 204) (by decide +kernel))) (by decide +kernel)
theorem lmX10_121 : Cond.methodLink RX10 121 yX9_canTurn ∈ mx_g := mx_mem (in_t3 (List.mem_of_getElem? (i := 208) (by decide +kernel))) (by decide +kernel)
theorem lmX9_51 : Cond.methodLink RX9 51 yX9_has ∈ mx_g := mx_mem (in_t3 (List.mem_of_getElem? (i := 212) (by decide +kernel))) (by decide +kernel)
theorem lmX10_125 : Cond.methodLink RX10 125 yX4_remember ∈ mx_g := mx_mem (in_t3 (List.mem_of_getElem? (i := 216) (by decide +kernel))) (by decide +kernel)
theorem lmX4_75 : Cond.methodLink RX4 75 yX9_copyFrom ∈ mx_g := mx_mem (in_t3 (List.mem_of_getElem? (i := 220) (by decide +kernel))) (by decide +kernel)
theorem lmX9_78 : Cond.methodLink RX9 78 ⟨"java/lang/System", "arraycopy", "(Ljava/lang/Object;ILjava/lang/Object;II)V"⟩ ∈ mx_g := mx_mem (in_t3 (List.mem_of_getElem? (i := 224) (by decide +kernel))) (by decide +kernel)
theorem lmX9_87 : Cond.methodLink RX9 87 yX9_copyChanging ∈ mx_g := mx_mem (in_t3 (List.mem_of_getElem? (i := 225) (by decide +kernel))) (by decide +kernel)
theorem lmX10_128 : Cond.methodLink RX10 128 yX9_turn ∈ mx_g := mx_mem (in_t3 (List.mem_of_getElem? (i := 229) (by decide +kernel))) (by decide +kernel)
theorem lmL_51 : Cond.methodLink RL 51 yX10_oil ∈ mx_g := mx_mem (in_t3 (List.mem_of_getElem? (i := 233) (by decide +kernel))) (by decide +kernel)
theorem lmX10_135 : Cond.methodLink RX10 135 yX9_has ∈ mx_g := mx_mem (in_t3 (List.mem_of_getElem? (i := 237) (by decide +kernel))) (by decide +kernel)
theorem lmL_56 : Cond.methodLink RL 56 yX10_lift ∈ mx_g := mx_mem (in_t3 (List.mem_of_getElem? (i := 238) (by decide +kernel))) (by decide +kernel)
theorem lmX10_141 : Cond.methodLink RX10 141 yX9_hasRoll ∈ mx_g := mx_mem (in_t4 (List.mem_of_getElem? (i := 2) (by decide +kernel))) (by decide +kernel)
theorem lmL_60 : Cond.methodLink RL 60 yX10_night ∈ mx_g := mx_mem (in_t4 (List.mem_of_getElem? (i := 6) (by decide +kernel))) (by decide +kernel)
theorem lmX10_150 : Cond.methodLink RX10 150 yX10_passNights ∈ mx_g := mx_mem (in_t4 (List.mem_of_getElem? (i := 10) (by decide +kernel))) (by decide +kernel)
theorem lmX10_217 : Cond.methodLink RX10 217 yJ9_min_7cf53 ∈ mx_g := mx_mem (in_t4 (List.mem_of_getElem? (i := 14) (by decide +kernel))) (by decide +kernel)
theorem lmX10_169 : Cond.methodLink RX10 169 yX4_theText ∈ mx_g := mx_mem (in_t4 (List.mem_of_getElem? (i := 15) (by decide +kernel))) (by decide +kernel)
theorem lmX10_172 : Cond.methodLink RX10 172 yX0_pass ∈ mx_g := mx_mem (in_t4 (List.mem_of_getElem? (i := 19) (by decide +kernel))) (by decide +kernel)
theorem lmX0_46 : Cond.methodLink RX0 46 yX0_loose ∈ mx_g := mx_mem (in_t4 (List.mem_of_getElem? (i := 23) (by decide +kernel))) (by decide +kernel)
theorem lmX0_23 : Cond.methodLink RX0 23 yX8_hasLaw ∈ mx_g := mx_mem (in_t4 (List.mem_of_getElem? (i := 27) (by decide +kernel))) (by decide +kernel)
theorem lmX0_29 : Cond.methodLink RX0 29 yX0_asked ∈ mx_g := mx_mem (in_t4 (List.mem_of_getElem? (i := 31) (by decide +kernel))) (by decide +kernel)
theorem lmX0_33 : Cond.methodLink RX0 33 yJ9_min_7cf53 ∈ mx_g := mx_mem (in_t4 (List.mem_of_getElem? (i := 35) (by decide +kernel))) (by decide +kernel)
theorem lmX0_39 : Cond.methodLink RX0 39 yJ9_max_7cf53 ∈ mx_g := mx_mem (in_t4 (List.mem_of_getElem? (i := 36) (by decide +kernel))) (by decide +kernel)
theorem lmX0_114 : Cond.methodLink RX0 114 yX0_pop ∈ mx_g := mx_mem (in_t4 (List.mem_of_getElem? (i := 37) (by decide +kernel))) (by decide +kernel)
theorem lmX0_117 : Cond.methodLink RX0 117 yX0_push ∈ mx_g := mx_mem (in_t4 (List.mem_of_getElem? (i := 42) (by decide +kernel))) (by decide +kernel)
theorem lmX0_120 : Cond.methodLink RX0 120 yX0_named ∈ mx_g := mx_mem (in_t4 (List.mem_of_getElem? (i := 46) (by decide +kernel))) (by decide +kernel)
theorem lmX0_124 : Cond.methodLink RX0 124 yX0_ofOne ∈ mx_g := mx_mem (in_t4 (List.mem_of_getElem? (i := 54) (by decide +kernel))) (by decide +kernel)
theorem lmX0_132 : Cond.methodLink RX0 132 yX9_has ∈ mx_g := mx_mem (in_t4 (List.mem_of_getElem? (i := 57) (by decide +kernel))) (by decide +kernel)
theorem lmX0_135 : Cond.methodLink RX0 135 yJ9_abs_0f7a4 ∈ mx_g := mx_mem (in_t4 (List.mem_of_getElem? (i := 58) (by decide +kernel))) (by decide +kernel)
theorem lmX0_138 : Cond.methodLink RX0 138 yX0_crossSum ∈ mx_g := mx_mem (in_t4 (List.mem_of_getElem? (i := 61) (by decide +kernel))) (by decide +kernel)
theorem lmX0_128 : Cond.methodLink RX0 128 yX0_ofTwo ∈ mx_g := mx_mem (in_t4 (List.mem_of_getElem? (i := 64) (by decide +kernel))) (by decide +kernel)
theorem lmX0_141 : Cond.methodLink RX0 141 yX0_held ∈ mx_g := mx_mem (in_t4 (List.mem_of_getElem? (i := 67) (by decide +kernel))) (by decide +kernel)
theorem lmX0_50 : Cond.methodLink RX0 50 yX0_printRoll ∈ mx_g := mx_mem (in_t4 (List.mem_of_getElem? (i := 74) (by decide +kernel))) (by decide +kernel)
theorem lmX10_335 : Cond.methodLink RX10 335 yX10_digitCount ∈ mx_g := mx_mem (in_t4 (List.mem_of_getElem? (i := 80) (by decide +kernel))) (by decide +kernel)
theorem lmX0_54 : Cond.methodLink RX0 54 yX9_draw ∈ mx_g := mx_mem (in_t4 (List.mem_of_getElem? (i := 81) (by decide +kernel))) (by decide +kernel)
theorem lmX9_68 : Cond.methodLink RX9 68 yX9_renewX ∈ mx_g := mx_mem (in_t4 (List.mem_of_getElem? (i := 85) (by decide +kernel))) (by decide +kernel)
theorem lmX0_95 : Cond.methodLink RX0 95 yX9_printWord ∈ mx_g := mx_mem (in_t4 (List.mem_of_getElem? (i := 90) (by decide +kernel))) (by decide +kernel)
theorem lmX9_55 : Cond.methodLink RX9 55 yX9_printDigit ∈ mx_g := mx_mem (in_t4 (List.mem_of_getElem? (i := 94) (by decide +kernel))) (by decide +kernel)
theorem lmX0_58 : Cond.methodLink RX0 58 yX0_believes ∈ mx_g := mx_mem (in_t4 (List.mem_of_getElem? (i := 98) (by decide +kernel))) (by decide +kernel)
theorem lmX0_61 : Cond.methodLink RX0 61 yX9_believe ∈ mx_g := mx_mem (in_t4 (List.mem_of_getElem? (i := 102) (by decide +kernel))) (by decide +kernel)
theorem lmX9_71 : Cond.methodLink RX9 71 yX9_rollNumber ∈ mx_g := mx_mem (in_t4 (List.mem_of_getElem? (i := 106) (by decide +kernel))) (by decide +kernel)
theorem lmX9_59 : Cond.methodLink RX9 59 yJ9_max_7cf53 ∈ mx_g := mx_mem (in_t4 (List.mem_of_getElem? (i := 110) (by decide +kernel))) (by decide +kernel)
theorem lmX9_65 : Cond.methodLink RX9 65 yX9_rollDigit ∈ mx_g := mx_mem (in_t4 (List.mem_of_getElem? (i := 111) (by decide +kernel))) (by decide +kernel)
theorem lmX0_68 : Cond.methodLink RX0 68 yX0_wears ∈ mx_g := mx_mem (in_t4 (List.mem_of_getElem? (i := 115) (by decide +kernel))) (by decide +kernel)
theorem lmL_64 : Cond.methodLink RL 64 yX10_played ∈ mx_g := mx_mem (in_t4 (List.mem_of_getElem? (i := 119) (by decide +kernel))) (by decide +kernel)
theorem lmX10_159 : Cond.methodLink RX10 159 yX10_playClause ∈ mx_g := mx_mem (in_t4 (List.mem_of_getElem? (i := 123) (by decide +kernel))) (by decide +kernel)
theorem lmX10_347 : Cond.methodLink RX10 347 yX8_clausePart ∈ mx_g := mx_mem (in_t4 (List.mem_of_getElem? (i := 127) (by decide +kernel))) (by decide +kernel)
theorem lmX10_350 : Cond.methodLink RX10 350 yX10_machine ∈ mx_g := mx_mem (in_t4 (List.mem_of_getElem? (i := 131) (by decide +kernel))) (by decide +kernel)
theorem lmX10_353 : Cond.methodLink RX10 353 yX10_rule ∈ mx_g := mx_mem (in_t4 (List.mem_of_getElem? (i := 132) (by decide +kernel))) (by decide +kernel)
theorem lmX10_357 : Cond.methodLink RX10 357 yX10_crank ∈ mx_g := mx_mem (in_t4 (List.mem_of_getElem? (i := 133) (by decide +kernel))) (by decide +kernel)
theorem lmX10_360 : Cond.methodLink RX10 360 yX10_oil ∈ mx_g := mx_mem (in_t4 (List.mem_of_getElem? (i := 134) (by decide +kernel))) (by decide +kernel)
theorem lmX10_363 : Cond.methodLink RX10 363 yX10_lift ∈ mx_g := mx_mem (in_t4 (List.mem_of_getElem? (i := 135) (by decide +kernel))) (by decide +kernel)
theorem lmL_68 : Cond.methodLink RL 68 yX10_decades ∈ mx_g := mx_mem (in_t4 (List.mem_of_getElem? (i := 136) (by decide +kernel))) (by decide +kernel)
theorem lmX10_166 : Cond.methodLink RX10 166 yX9_renewX ∈ mx_g := mx_mem (in_t4 (List.mem_of_getElem? (i := 140) (by decide +kernel))) (by decide +kernel)
theorem lmX10_179 : Cond.methodLink RX10 179 yX10_handle ∈ mx_g := mx_mem (in_t4 (List.mem_of_getElem? (i := 141) (by decide +kernel))) (by decide +kernel)
theorem lmL_72 : Cond.methodLink RL 72 yX10_undo ∈ mx_g := mx_mem (in_t4 (List.mem_of_getElem? (i := 145) (by decide +kernel))) (by decide +kernel)
theorem lmX10_182 : Cond.methodLink RX10 182 yX4_takeBack ∈ mx_g := mx_mem (in_t4 (List.mem_of_getElem? (i := 149) (by decide +kernel))) (by decide +kernel)
theorem lmX4_79 : Cond.methodLink RX4 79 yX9_goBackTo ∈ mx_g := mx_mem (in_t4 (List.mem_of_getElem? (i := 153) (by decide +kernel))) (by decide +kernel)
theorem lmL_76 : Cond.methodLink RL 76 yX10_of ∈ mx_g := mx_mem (in_t4 (List.mem_of_getElem? (i := 157) (by decide +kernel))) (by decide +kernel)
theorem lmX10_194 : Cond.methodLink RX10 194 yX0_loose ∈ mx_g := mx_mem (in_t4 (List.mem_of_getElem? (i := 161) (by decide +kernel))) (by decide +kernel)
theorem lmX10_198 : Cond.methodLink RX10 198 yX0_believes ∈ mx_g := mx_mem (in_t4 (List.mem_of_getElem? (i := 162) (by decide +kernel))) (by decide +kernel)
theorem lmX10_201 : Cond.methodLink RX10 201 yX0_wears ∈ mx_g := mx_mem (in_t4 (List.mem_of_getElem? (i := 163) (by decide +kernel))) (by decide +kernel)
theorem lmX10_204 : Cond.methodLink RX10 204 yX9_rollDigit ∈ mx_g := mx_mem (in_t4 (List.mem_of_getElem? (i := 164) (by decide +kernel))) (by decide +kernel)
theorem lmL_80 : Cond.methodLink RL 80 yX10_told ∈ mx_g := mx_mem (in_t4 (List.mem_of_getElem? (i := 165) (by decide +kernel))) (by decide +kernel)
theorem lmL_85 : Cond.methodLink RL 85 yX10_is ∈ mx_g := mx_mem (in_t4 (List.mem_of_getElem? (i := 169) (by decide +kernel))) (by decide +kernel)
theorem lmL_89 : Cond.methodLink RL 89 yX10_book ∈ mx_g := mx_mem (in_t4 (List.mem_of_getElem? (i := 173) (by decide +kernel))) (by decide +kernel)
theorem lmL_93 : Cond.methodLink RL 93 yX10_foretold ∈ mx_g := mx_mem (in_t4 (List.mem_of_getElem? (i := 177) (by decide +kernel))) (by decide +kernel)
theorem lmX10_213 : Cond.methodLink RX10 213 yX9_copyFrom ∈ mx_g := mx_mem (in_t4 (List.mem_of_getElem? (i := 181) (by decide +kernel))) (by decide +kernel)
theorem lmL_98 : Cond.methodLink RL 98 yX10_put ∈ mx_g := mx_mem (in_t4 (List.mem_of_getElem? (i := 182) (by decide +kernel))) (by decide +kernel)
theorem lmX10_226 : Cond.methodLink RX10 226 yX10_lengthen ∈ mx_g := mx_mem (in_t4 (List.mem_of_getElem? (i := 186) (by decide +kernel))) (by decide +kernel)
theorem lmX10_251 : Cond.methodLink RX10 251 yX3_append ∈ mx_g := mx_mem (in_t4 (List.mem_of_getElem? (i := 189) (by decide +kernel))) (by decide +kernel)
theorem lmL_102 : Cond.methodLink RL 102 yX10_may ∈ mx_g := mx_mem (in_t4 (List.mem_of_getElem? (i := 194) (by decide +kernel))) (by decide +kernel)
theorem lmX10_232 : Cond.methodLink RX10 232 yX6_weigh ∈ mx_g := mx_mem (in_t4 (List.mem_of_getElem? (i := 199) (by decide +kernel))) (by decide +kernel)
theorem lmX6_41 : Cond.methodLink RX6 41 yJ7_fill_53178 ∈ mx_g := mx_mem (in_t4 (List.mem_of_getElem? (i := 203) (by decide +kernel))) (by decide +kernel)
theorem lmX6_63 : Cond.methodLink RX6 63 yX6_behind ∈ mx_g := mx_mem (in_t4 (List.mem_of_getElem? (i := 207) (by decide +kernel))) (by decide +kernel)
theorem lmX6_85 : Cond.methodLink RX6 85 yX3_has ∈ mx_g := mx_mem (in_t4 (List.mem_of_getElem? (i := 210) (by decide +kernel))) (by decide +kernel)
theorem lmX6_89 : Cond.methodLink RX6 89 yX3_get ∈ mx_g := mx_mem (in_t4 (List.mem_of_getElem? (i := 214) (by decide +kernel))) (by decide +kernel)
theorem lmX3_23 : Cond.methodLink RX3 23 yX3_has ∈ mx_g := mx_mem (in_t4 (List.mem_of_getElem? (i := 218) (by decide +kernel))) (by decide +kernel)
theorem lmX6_67 : Cond.methodLink RX6 67 yX6_spread ∈ mx_g := mx_mem (in_t4 (List.mem_of_getElem? (i := 219) (by decide +kernel))) (by decide +kernel)
theorem lmX6_71 : Cond.methodLink RX6 71 ⟨"java/lang/System", "arraycopy", "(Ljava/lang/Object;ILjava/lang/Object;II)V"⟩ ∈ mx_g := mx_mem (in_t4 (List.mem_of_getElem? (i := 224) (by decide +kernel))) (by decide +kernel)
theorem lmL_107 : Cond.methodLink RL 107 yX10_odds ∈ mx_g := mx_mem (in_t4 (List.mem_of_getElem? (i := 225) (by decide +kernel))) (by decide +kernel)
theorem lmX10_236 : Cond.methodLink RX10 236 yX6_chance ∈ mx_g := mx_mem (in_t4 (List.mem_of_getElem? (i := 229) (by decide +kernel))) (by decide +kernel)
theorem lmX6_81 : Cond.methodLink RX6 81 yX6_weigh ∈ mx_g := mx_mem (in_t4 (List.mem_of_getElem? (i := 233) (by decide +kernel))) (by decide +kernel)
theorem lmX10_240 : Cond.methodLink RX10 240 yX10_commonDivisor ∈ mx_g := mx_mem (in_t4 (List.mem_of_getElem? (i := 234) (by decide +kernel))) (by decide +kernel)
theorem lmL_112 : Cond.methodLink RL 112 yX10_day ∈ mx_g := mx_mem (in_t4 (List.mem_of_getElem? (i := 237) (by decide +kernel))) (by decide +kernel)
theorem lmL_116 : Cond.methodLink RL 116 yX10_fits ∈ mx_g := mx_mem (in_t5 (List.mem_of_getElem? (i := 1) (by decide +kernel))) (by decide +kernel)
theorem lmX10_253 : Cond.methodLink RX10 253 yX3_get ∈ mx_g := mx_mem (in_t5 (List.mem_of_getElem? (i := 5) (by decide +kernel))) (by decide +kernel)
theorem lmL_120 : Cond.methodLink RL 120 yX10_likeliest ∈ mx_g := mx_mem (in_t5 (List.mem_of_getElem? (i := 6) (by decide +kernel))) (by decide +kernel)
theorem lmL_124 : Cond.methodLink RL 124 yX10_add ∈ mx_g := mx_mem (in_t5 (List.mem_of_getElem? (i := 10) (by decide +kernel))) (by decide +kernel)
theorem lmX10_256 : Cond.methodLink RX10 256 yX6_fewest ∈ mx_g := mx_mem (in_t5 (List.mem_of_getElem? (i := 14) (by decide +kernel))) (by decide +kernel)
theorem lmX6_92 : Cond.methodLink RX6 92 yX6_placesInto ∈ mx_g := mx_mem (in_t5 (List.mem_of_getElem? (i := 18) (by decide +kernel))) (by decide +kernel)
theorem lmX6_103 : Cond.methodLink RX6 103 yX6_onwardFrom ∈ mx_g := mx_mem (in_t5 (List.mem_of_getElem? (i := 21) (by decide +kernel))) (by decide +kernel)
theorem lmX6_96 : Cond.methodLink RX6 96 yX6_onward ∈ mx_g := mx_mem (in_t5 (List.mem_of_getElem? (i := 24) (by decide +kernel))) (by decide +kernel)
theorem lmX6_100 : Cond.methodLink RX6 100 yX3_append ∈ mx_g := mx_mem (in_t5 (List.mem_of_getElem? (i := 27) (by decide +kernel))) (by decide +kernel)
theorem lmX10_263 : Cond.methodLink RX10 263 yX3_has ∈ mx_g := mx_mem (in_t5 (List.mem_of_getElem? (i := 28) (by decide +kernel))) (by decide +kernel)
theorem lmL_128 : Cond.methodLink RL 128 yX10_second ∈ mx_g := mx_mem (in_t5 (List.mem_of_getElem? (i := 29) (by decide +kernel))) (by decide +kernel)
theorem lmL_132 : Cond.methodLink RL 132 yX10_duet ∈ mx_g := mx_mem (in_t5 (List.mem_of_getElem? (i := 33) (by decide +kernel))) (by decide +kernel)
theorem lmX10_267 : Cond.methodLink RX10 267 yX6_woven ∈ mx_g := mx_mem (in_t5 (List.mem_of_getElem? (i := 37) (by decide +kernel))) (by decide +kernel)
theorem lmL_136 : Cond.methodLink RL 136 yX10_common ∈ mx_g := mx_mem (in_t5 (List.mem_of_getElem? (i := 41) (by decide +kernel))) (by decide +kernel)
theorem lmX10_271 : Cond.methodLink RX10 271 yX6_longestInBoth ∈ mx_g := mx_mem (in_t5 (List.mem_of_getElem? (i := 45) (by decide +kernel))) (by decide +kernel)
theorem lmX6_106 : Cond.methodLink RX6 106 yJ9_max_7cf53 ∈ mx_g := mx_mem (in_t5 (List.mem_of_getElem? (i := 49) (by decide +kernel))) (by decide +kernel)
theorem lmX6_111 : Cond.methodLink RX6 111 yX6_longBehind ∈ mx_g := mx_mem (in_t5 (List.mem_of_getElem? (i := 50) (by decide +kernel))) (by decide +kernel)
theorem lmX6_115 : Cond.methodLink RX6 115 yX6_next ∈ mx_g := mx_mem (in_t5 (List.mem_of_getElem? (i := 54) (by decide +kernel))) (by decide +kernel)
theorem lmL_140 : Cond.methodLink RL 140 yX10_apart ∈ mx_g := mx_mem (in_t5 (List.mem_of_getElem? (i := 57) (by decide +kernel))) (by decide +kernel)
theorem lmX10_275 : Cond.methodLink RX10 275 yX6_distance ∈ mx_g := mx_mem (in_t5 (List.mem_of_getElem? (i := 61) (by decide +kernel))) (by decide +kernel)
theorem lmX6_118 : Cond.methodLink RX6 118 yJ9_min_7cf53 ∈ mx_g := mx_mem (in_t5 (List.mem_of_getElem? (i := 65) (by decide +kernel))) (by decide +kernel)
theorem lmL_144 : Cond.methodLink RL 144 yX10_grows ∈ mx_g := mx_mem (in_t5 (List.mem_of_getElem? (i := 66) (by decide +kernel))) (by decide +kernel)
theorem lmX10_279 : Cond.methodLink RX10 279 yX6_grown ∈ mx_g := mx_mem (in_t5 (List.mem_of_getElem? (i := 70) (by decide +kernel))) (by decide +kernel)
theorem lmX6_121 : Cond.methodLink RX6 121 yX6_growOnce ∈ mx_g := mx_mem (in_t5 (List.mem_of_getElem? (i := 74) (by decide +kernel))) (by decide +kernel)
theorem lmL_148 : Cond.methodLink RL 148 yX10_stays ∈ mx_g := mx_mem (in_t5 (List.mem_of_getElem? (i := 78) (by decide +kernel))) (by decide +kernel)
theorem lmX10_283 : Cond.methodLink RX10 283 yX10_comesBack ∈ mx_g := mx_mem (in_t5 (List.mem_of_getElem? (i := 82) (by decide +kernel))) (by decide +kernel)
theorem lmL_153 : Cond.methodLink RL 153 yX10_likes ∈ mx_g := mx_mem (in_t5 (List.mem_of_getElem? (i := 86) (by decide +kernel))) (by decide +kernel)
theorem lmL_158 : Cond.methodLink RL 158 yX10_paired ∈ mx_g := mx_mem (in_t5 (List.mem_of_getElem? (i := 90) (by decide +kernel))) (by decide +kernel)
theorem lmX10_293 : Cond.methodLink RX10 293 yX1_pairAll ∈ mx_g := mx_mem (in_t5 (List.mem_of_getElem? (i := 94) (by decide +kernel))) (by decide +kernel)
theorem lmX1_21 : Cond.methodLink RX1 21 yJ7_fill_53178 ∈ mx_g := mx_mem (in_t5 (List.mem_of_getElem? (i := 98) (by decide +kernel))) (by decide +kernel)
theorem lmX1_27 : Cond.methodLink RX1 27 yX1_lowestFree ∈ mx_g := mx_mem (in_t5 (List.mem_of_getElem? (i := 99) (by decide +kernel))) (by decide +kernel)
theorem lmX1_31 : Cond.methodLink RX1 31 yX1_bestUnasked ∈ mx_g := mx_mem (in_t5 (List.mem_of_getElem? (i := 103) (by decide +kernel))) (by decide +kernel)
theorem lmX1_35 : Cond.methodLink RX1 35 yX1_prefers ∈ mx_g := mx_mem (in_t5 (List.mem_of_getElem? (i := 107) (by decide +kernel))) (by decide +kernel)
theorem lmL_162 : Cond.methodLink RL 162 yX10_blocks ∈ mx_g := mx_mem (in_t5 (List.mem_of_getElem? (i := 110) (by decide +kernel))) (by decide +kernel)
theorem lmX10_300 : Cond.methodLink RX10 300 yX1_prefers ∈ mx_g := mx_mem (in_t5 (List.mem_of_getElem? (i := 114) (by decide +kernel))) (by decide +kernel)
theorem lmL_166 : Cond.methodLink RL 166 yX10_needs ∈ mx_g := mx_mem (in_t5 (List.mem_of_getElem? (i := 115) (by decide +kernel))) (by decide +kernel)
theorem lmL_170 : Cond.methodLink RL 170 yX10_stock ∈ mx_g := mx_mem (in_t5 (List.mem_of_getElem? (i := 119) (by decide +kernel))) (by decide +kernel)
theorem lmX10_307 : Cond.methodLink RX10 307 yX5_plan ∈ mx_g := mx_mem (in_t5 (List.mem_of_getElem? (i := 123) (by decide +kernel))) (by decide +kernel)
theorem lmL_174 : Cond.methodLink RL 174 yX10_looser ∈ mx_g := mx_mem (in_t5 (List.mem_of_getElem? (i := 127) (by decide +kernel))) (by decide +kernel)
theorem lmL_178 : Cond.methodLink RL 178 yX10_whose ∈ mx_g := mx_mem (in_t5 (List.mem_of_getElem? (i := 131) (by decide +kernel))) (by decide +kernel)
theorem lmX10_323 : Cond.methodLink RX10 323 yX10_agrees ∈ mx_g := mx_mem (in_t5 (List.mem_of_getElem? (i := 135) (by decide +kernel))) (by decide +kernel)
theorem lmL_182 : Cond.methodLink RL 182 yX10_forgiven ∈ mx_g := mx_mem (in_t5 (List.mem_of_getElem? (i := 139) (by decide +kernel))) (by decide +kernel)
theorem lmX10_327 : Cond.methodLink RX10 327 yX9_sumOf ∈ mx_g := mx_mem (in_t5 (List.mem_of_getElem? (i := 143) (by decide +kernel))) (by decide +kernel)
theorem lmX10_330 : Cond.methodLink RX10 330 yJ6_bitCount_0f7a4 ∈ mx_g := mx_mem (in_t5 (List.mem_of_getElem? (i := 147) (by decide +kernel))) (by decide +kernel)
theorem lmL_186 : Cond.methodLink RL 186 yX10_snow ∈ mx_g := mx_mem (in_t5 (List.mem_of_getElem? (i := 153) (by decide +kernel))) (by decide +kernel)
theorem lmX10_338 : Cond.methodLink RX10 338 yX10_digitAt ∈ mx_g := mx_mem (in_t5 (List.mem_of_getElem? (i := 157) (by decide +kernel))) (by decide +kernel)
theorem lmL_190 : Cond.methodLink RL 190 yX10_worn ∈ mx_g := mx_mem (in_t5 (List.mem_of_getElem? (i := 158) (by decide +kernel))) (by decide +kernel)
theorem lmL_194 : Cond.methodLink RL 194 yX10_blank ∈ mx_g := mx_mem (in_t5 (List.mem_of_getElem? (i := 162) (by decide +kernel))) (by decide +kernel)
theorem lmL_198 : Cond.methodLink RL 198 yX10_ledger ∈ mx_g := mx_mem (in_t5 (List.mem_of_getElem? (i := 166) (by decide +kernel))) (by decide +kernel)
theorem lmX10_341 : Cond.methodLink RX10 341 yX9_bookedOf ∈ mx_g := mx_mem (in_t5 (List.mem_of_getElem? (i := 170) (by decide +kernel))) (by decide +kernel)
theorem lmL_202 : Cond.methodLink RL 202 yX10_image ∈ mx_g := mx_mem (in_t5 (List.mem_of_getElem? (i := 174) (by decide +kernel))) (by decide +kernel)
theorem lmX10_344 : Cond.methodLink RX10 344 yX4_copyFrom ∈ mx_g := mx_mem (in_t5 (List.mem_of_getElem? (i := 178) (by decide +kernel))) (by decide +kernel)
theorem lmX4_82 : Cond.methodLink RX4 82 ⟨"java/lang/System", "arraycopy", "(Ljava/lang/Object;ILjava/lang/Object;II)V"⟩ ∈ mx_g := mx_mem (in_t5 (List.mem_of_getElem? (i := 182) (by decide +kernel))) (by decide +kernel)
theorem lmX4_88 : Cond.methodLink RX4 88 yX3_copyFrom ∈ mx_g := mx_mem (in_t5 (List.mem_of_getElem? (i := 183) (by decide +kernel))) (by decide +kernel)
theorem lmX3_33 : Cond.methodLink RX3 33 yJ9_min_7cf53 ∈ mx_g := mx_mem (in_t5 (List.mem_of_getElem? (i := 187) (by decide +kernel))) (by decide +kernel)
theorem lmX3_36 : Cond.methodLink RX3 36 ⟨"java/lang/System", "arraycopy", "(Ljava/lang/Object;ILjava/lang/Object;II)V"⟩ ∈ mx_g := mx_mem (in_t5 (List.mem_of_getElem? (i := 188) (by decide +kernel))) (by decide +kernel)
theorem lmL_206 : Cond.methodLink RL 206 yX10_back ∈ mx_g := mx_mem (in_t5 (List.mem_of_getElem? (i := 189) (by decide +kernel))) (by decide +kernel)
theorem lmL_210 : Cond.methodLink RL 210 yX10_about ∈ mx_g := mx_mem (in_t5 (List.mem_of_getElem? (i := 193) (by decide +kernel))) (by decide +kernel)
theorem lmL_12 : Cond.methodLink RL 12 yX11_init ∈ mx_g := mx_mem (in_t5 (List.mem_of_getElem? (i := 199) (by decide +kernel))) (by decide +kernel)
theorem lmX11_1 : Cond.methodLink RX11 1 ⟨"java/lang/Object", "<init>", "()V"⟩ ∈ mx_g := mx_mem (in_t5 (List.mem_of_getElem? (i := 202) (by decide +kernel))) (by decide +kernel)
theorem lmX11_83 : Cond.methodLink RX11 83 yX11_copy ∈ mx_g := mx_mem (in_t5 (List.mem_of_getElem? (i := 203) (by decide +kernel))) (by decide +kernel)
theorem lmL_17 : Cond.methodLink RL 17 yX11_machine ∈ mx_g := mx_mem (in_t6 (List.mem_of_getElem? (i := 80) (by decide +kernel))) (by decide +kernel)
theorem lmX11_95 : Cond.methodLink RX11 95 yX11_isDigit ∈ mx_g := mx_mem (in_t6 (List.mem_of_getElem? (i := 84) (by decide +kernel))) (by decide +kernel)
theorem lmX11_87 : Cond.methodLink RX11 87 yX11_isIn ∈ mx_g := mx_mem (in_t6 (List.mem_of_getElem? (i := 87) (by decide +kernel))) (by decide +kernel)
theorem lmX11_99 : Cond.methodLink RX11 99 yX11_lay ∈ mx_g := mx_mem (in_t6 (List.mem_of_getElem? (i := 90) (by decide +kernel))) (by decide +kernel)
theorem lmX11_103 : Cond.methodLink RX11 103 yX11_begin ∈ mx_g := mx_mem (in_t6 (List.mem_of_getElem? (i := 94) (by decide +kernel))) (by decide +kernel)
theorem lmX11_107 : Cond.methodLink RX11 107 yX11_get ∈ mx_g := mx_mem (in_t6 (List.mem_of_getElem? (i := 98) (by decide +kernel))) (by decide +kernel)
theorem lmL_22 : Cond.methodLink RL 22 yX11_rule ∈ mx_g := mx_mem (in_t6 (List.mem_of_getElem? (i := 102) (by decide +kernel))) (by decide +kernel)
theorem lmL_27 : Cond.methodLink RL 27 yX11_feed ∈ mx_g := mx_mem (in_t6 (List.mem_of_getElem? (i := 106) (by decide +kernel))) (by decide +kernel)
theorem lmX11_114 : Cond.methodLink RX11 114 yX11_four ∈ mx_g := mx_mem (in_t6 (List.mem_of_getElem? (i := 110) (by decide +kernel))) (by decide +kernel)
theorem lmL_32 : Cond.methodLink RL 32 yX11_end ∈ mx_g := mx_mem (in_t6 (List.mem_of_getElem? (i := 114) (by decide +kernel))) (by decide +kernel)
theorem lmL_37 : Cond.methodLink RL 37 yX11_text ∈ mx_g := mx_mem (in_t6 (List.mem_of_getElem? (i := 118) (by decide +kernel))) (by decide +kernel)
theorem lmX11_279 : Cond.methodLink RX11 279 yX11_readText ∈ mx_g := mx_mem (in_t6 (List.mem_of_getElem? (i := 122) (by decide +kernel))) (by decide +kernel)
theorem lmX11_193 : Cond.methodLink RX11 193 yX11_nextToken ∈ mx_g := mx_mem (in_t6 (List.mem_of_getElem? (i := 126) (by decide +kernel))) (by decide +kernel)
theorem lmX11_120 : Cond.methodLink RX11 120 yX11_byteAt ∈ mx_g := mx_mem (in_t6 (List.mem_of_getElem? (i := 130) (by decide +kernel))) (by decide +kernel)
theorem lmX11_129 : Cond.methodLink RX11 129 yX11_isFigure ∈ mx_g := mx_mem (in_t6 (List.mem_of_getElem? (i := 134) (by decide +kernel))) (by decide +kernel)
theorem lmX11_136 : Cond.methodLink RX11 136 yX11_isLetterByte ∈ mx_g := mx_mem (in_t6 (List.mem_of_getElem? (i := 138) (by decide +kernel))) (by decide +kernel)
theorem lmX11_145 : Cond.methodLink RX11 145 yX11_isSign ∈ mx_g := mx_mem (in_t6 (List.mem_of_getElem? (i := 142) (by decide +kernel))) (by decide +kernel)
theorem lmX11_276 : Cond.methodLink RX11 276 yX11_clause ∈ mx_g := mx_mem (in_t6 (List.mem_of_getElem? (i := 145) (by decide +kernel))) (by decide +kernel)
theorem lmX11_263 : Cond.methodLink RX11 263 yX11_sortOf ∈ mx_g := mx_mem (in_t6 (List.mem_of_getElem? (i := 149) (by decide +kernel))) (by decide +kernel)
theorem lmX11_160 : Cond.methodLink RX11 160 yX11_w5 ∈ mx_g := mx_mem (in_t6 (List.mem_of_getElem? (i := 153) (by decide +kernel))) (by decide +kernel)
theorem lmX11_156 : Cond.methodLink RX11 156 yX11_w4 ∈ mx_g := mx_mem (in_t6 (List.mem_of_getElem? (i := 156) (by decide +kernel))) (by decide +kernel)
theorem lmX11_152 : Cond.methodLink RX11 152 yX11_w3 ∈ mx_g := mx_mem (in_t6 (List.mem_of_getElem? (i := 159) (by decide +kernel))) (by decide +kernel)
theorem lmX11_148 : Cond.methodLink RX11 148 yX11_w2 ∈ mx_g := mx_mem (in_t6 (List.mem_of_getElem? (i := 162) (by decide +kernel))) (by decide +kernel)
theorem lmX11_215 : Cond.methodLink RX11 215 yX11_isWord ∈ mx_g := mx_mem (in_t6 (List.mem_of_getElem? (i := 165) (by decide +kernel))) (by decide +kernel)
theorem lmX11_259 : Cond.methodLink RX11 259 yX11_isLong ∈ mx_g := mx_mem (in_t6 (List.mem_of_getElem? (i := 169) (by decide +kernel))) (by decide +kernel)
theorem lmX11_211 : Cond.methodLink RX11 211 yX11_w6 ∈ mx_g := mx_mem (in_t6 (List.mem_of_getElem? (i := 173) (by decide +kernel))) (by decide +kernel)
theorem lmX11_269 : Cond.methodLink RX11 269 yX11_has ∈ mx_g := mx_mem (in_t6 (List.mem_of_getElem? (i := 176) (by decide +kernel))) (by decide +kernel)
theorem lmX11_273 : Cond.methodLink RX11 273 yX11_body ∈ mx_g := mx_mem (in_t6 (List.mem_of_getElem? (i := 179) (by decide +kernel))) (by decide +kernel)
theorem lmX11_252 : Cond.methodLink RX11 252 yX11_pair ∈ mx_g := mx_mem (in_t6 (List.mem_of_getElem? (i := 183) (by decide +kernel))) (by decide +kernel)
theorem lmX11_241 : Cond.methodLink RX11 241 yX11_figure ∈ mx_g := mx_mem (in_t6 (List.mem_of_getElem? (i := 187) (by decide +kernel))) (by decide +kernel)
theorem lmX11_248 : Cond.methodLink RX11 248 yX11_worded ∈ mx_g := mx_mem (in_t6 (List.mem_of_getElem? (i := 191) (by decide +kernel))) (by decide +kernel)
theorem lmX11_256 : Cond.methodLink RX11 256 yX11_lawClause ∈ mx_g := mx_mem (in_t6 (List.mem_of_getElem? (i := 195) (by decide +kernel))) (by decide +kernel)
theorem lmX11_245 : Cond.methodLink RX11 245 yX11_summed ∈ mx_g := mx_mem (in_t6 (List.mem_of_getElem? (i := 199) (by decide +kernel))) (by decide +kernel)
theorem lmX11_235 : Cond.methodLink RX11 235 yX11_behindOne ∈ mx_g := mx_mem (in_t6 (List.mem_of_getElem? (i := 203) (by decide +kernel))) (by decide +kernel)
theorem lmX11_229 : Cond.methodLink RX11 229 yX11_betweenOf ∈ mx_g := mx_mem (in_t6 (List.mem_of_getElem? (i := 207) (by decide +kernel))) (by decide +kernel)
theorem lmX11_190 : Cond.methodLink RX11 190 yX11_openNow ∈ mx_g := mx_mem (in_t6 (List.mem_of_getElem? (i := 211) (by decide +kernel))) (by decide +kernel)
theorem lmX11_186 : Cond.methodLink RX11 186 yX11_openAt ∈ mx_g := mx_mem (in_t6 (List.mem_of_getElem? (i := 215) (by decide +kernel))) (by decide +kernel)
theorem lmX11_223 : Cond.methodLink RX11 223 yX11_isCompared ∈ mx_g := mx_mem (in_t6 (List.mem_of_getElem? (i := 219) (by decide +kernel))) (by decide +kernel)
theorem lmX11_176 : Cond.methodLink RX11 176 yX11_rank ∈ mx_g := mx_mem (in_t6 (List.mem_of_getElem? (i := 223) (by decide +kernel))) (by decide +kernel)
theorem lmX11_226 : Cond.methodLink RX11 226 yX11_compareOf ∈ mx_g := mx_mem (in_t6 (List.mem_of_getElem? (i := 226) (by decide +kernel))) (by decide +kernel)
theorem lmX11_205 : Cond.methodLink RX11 205 yX11_settle ∈ mx_g := mx_mem (in_t6 (List.mem_of_getElem? (i := 230) (by decide +kernel))) (by decide +kernel)
theorem lmX11_179 : Cond.methodLink RX11 179 yX11_emit ∈ mx_g := mx_mem (in_t6 (List.mem_of_getElem? (i := 234) (by decide +kernel))) (by decide +kernel)
theorem lmX11_232 : Cond.methodLink RX11 232 yX11_partOf ∈ mx_g := mx_mem (in_t6 (List.mem_of_getElem? (i := 238) (by decide +kernel))) (by decide +kernel)
theorem lmX11_238 : Cond.methodLink RX11 238 yX11_beginOne ∈ mx_g := mx_mem (in_t7 (List.mem_of_getElem? (i := 2) (by decide +kernel))) (by decide +kernel)
theorem lmX11_196 : Cond.methodLink RX11 196 yX11_nameOf ∈ mx_g := mx_mem (in_t7 (List.mem_of_getElem? (i := 6) (by decide +kernel))) (by decide +kernel)
theorem lmX11_199 : Cond.methodLink RX11 199 yX11_isOf ∈ mx_g := mx_mem (in_t7 (List.mem_of_getElem? (i := 10) (by decide +kernel))) (by decide +kernel)
theorem lmX11_208 : Cond.methodLink RX11 208 yX11_opened ∈ mx_g := mx_mem (in_t7 (List.mem_of_getElem? (i := 14) (by decide +kernel))) (by decide +kernel)
theorem lmX11_219 : Cond.methodLink RX11 219 yX11_isAskAhead ∈ mx_g := mx_mem (in_t7 (List.mem_of_getElem? (i := 18) (by decide +kernel))) (by decide +kernel)
theorem lmL_41 : Cond.methodLink RL 41 yX11_fault ∈ mx_g := mx_mem (in_t7 (List.mem_of_getElem? (i := 22) (by decide +kernel))) (by decide +kernel)
theorem lmL_46 : Cond.methodLink RL 46 yX11_by ∈ mx_g := mx_mem (in_t7 (List.mem_of_getElem? (i := 26) (by decide +kernel))) (by decide +kernel)
theorem lmL_75 : Cond.methodLink RL 75 yX11_undo ∈ mx_g := mx_mem (in_t7 (List.mem_of_getElem? (i := 30) (by decide +kernel))) (by decide +kernel)
theorem lmL_50 : Cond.methodLink RL 50 yX11_crank ∈ mx_g := mx_mem (in_t7 (List.mem_of_getElem? (i := 34) (by decide +kernel))) (by decide +kernel)
theorem lmX11_377 : Cond.methodLink RX11 377 yX11_canCrank ∈ mx_g := mx_mem (in_t7 (List.mem_of_getElem? (i := 38) (by decide +kernel))) (by decide +kernel)
theorem lmX11_374 : Cond.methodLink RX11 374 yX11_isMachine ∈ mx_g := mx_mem (in_t7 (List.mem_of_getElem? (i := 42) (by decide +kernel))) (by decide +kernel)
theorem lmX11_380 : Cond.methodLink RX11 380 yX11_isNumber ∈ mx_g := mx_mem (in_t7 (List.mem_of_getElem? (i := 46) (by decide +kernel))) (by decide +kernel)
theorem lmX11_383 : Cond.methodLink RX11 383 yX11_keep ∈ mx_g := mx_mem (in_t7 (List.mem_of_getElem? (i := 49) (by decide +kernel))) (by decide +kernel)
theorem lmX11_386 : Cond.methodLink RX11 386 yX11_crankNow ∈ mx_g := mx_mem (in_t7 (List.mem_of_getElem? (i := 53) (by decide +kernel))) (by decide +kernel)
theorem lmL_55 : Cond.methodLink RL 55 yX11_oil ∈ mx_g := mx_mem (in_t7 (List.mem_of_getElem? (i := 57) (by decide +kernel))) (by decide +kernel)
theorem lmL_59 : Cond.methodLink RL 59 yX11_lift ∈ mx_g := mx_mem (in_t7 (List.mem_of_getElem? (i := 61) (by decide +kernel))) (by decide +kernel)
theorem lmX11_389 : Cond.methodLink RX11 389 yX11_canLift ∈ mx_g := mx_mem (in_t7 (List.mem_of_getElem? (i := 65) (by decide +kernel))) (by decide +kernel)
theorem lmX11_341 : Cond.methodLink RX11 341 yX11_clearRoll ∈ mx_g := mx_mem (in_t7 (List.mem_of_getElem? (i := 69) (by decide +kernel))) (by decide +kernel)
theorem lmL_63 : Cond.methodLink RL 63 yX11_night ∈ mx_g := mx_mem (in_t7 (List.mem_of_getElem? (i := 73) (by decide +kernel))) (by decide +kernel)
theorem lmX11_395 : Cond.methodLink RX11 395 yX11_arePassed ∈ mx_g := mx_mem (in_t7 (List.mem_of_getElem? (i := 77) (by decide +kernel))) (by decide +kernel)
theorem lmX11_392 : Cond.methodLink RX11 392 yX11_pass ∈ mx_g := mx_mem (in_t7 (List.mem_of_getElem? (i := 81) (by decide +kernel))) (by decide +kernel)
theorem lmX11_371 : Cond.methodLink RX11 371 yX11_dream ∈ mx_g := mx_mem (in_t7 (List.mem_of_getElem? (i := 85) (by decide +kernel))) (by decide +kernel)
theorem lmX11_338 : Cond.methodLink RX11 338 yX11_looseOf ∈ mx_g := mx_mem (in_t7 (List.mem_of_getElem? (i := 89) (by decide +kernel))) (by decide +kernel)
theorem lmX11_316 : Cond.methodLink RX11 316 yX11_name ∈ mx_g := mx_mem (in_t7 (List.mem_of_getElem? (i := 93) (by decide +kernel))) (by decide +kernel)
theorem lmX11_91 : Cond.methodLink RX11 91 yX11_longOf ∈ mx_g := mx_mem (in_t7 (List.mem_of_getElem? (i := 97) (by decide +kernel))) (by decide +kernel)
theorem lmX11_319 : Cond.methodLink RX11 319 yX11_says ∈ mx_g := mx_mem (in_t7 (List.mem_of_getElem? (i := 100) (by decide +kernel))) (by decide +kernel)
theorem lmX11_310 : Cond.methodLink RX11 310 yX11_summedUp ∈ mx_g := mx_mem (in_t7 (List.mem_of_getElem? (i := 104) (by decide +kernel))) (by decide +kernel)
theorem lmX11_292 : Cond.methodLink RX11 292 yX11_sumsOf ∈ mx_g := mx_mem (in_t7 (List.mem_of_getElem? (i := 108) (by decide +kernel))) (by decide +kernel)
theorem lmX11_295 : Cond.methodLink RX11 295 yX11_digitsOf ∈ mx_g := mx_mem (in_t7 (List.mem_of_getElem? (i := 112) (by decide +kernel))) (by decide +kernel)
theorem lmX11_298 : Cond.methodLink RX11 298 yX11_two ∈ mx_g := mx_mem (in_t7 (List.mem_of_getElem? (i := 116) (by decide +kernel))) (by decide +kernel)
theorem lmX11_286 : Cond.methodLink RX11 286 yX11_clip ∈ mx_g := mx_mem (in_t7 (List.mem_of_getElem? (i := 119) (by decide +kernel))) (by decide +kernel)
theorem lmX11_302 : Cond.methodLink RX11 302 yX11_isAsked ∈ mx_g := mx_mem (in_t7 (List.mem_of_getElem? (i := 124) (by decide +kernel))) (by decide +kernel)
theorem lmX11_306 : Cond.methodLink RX11 306 yX11_joined ∈ mx_g := mx_mem (in_t7 (List.mem_of_getElem? (i := 127) (by decide +kernel))) (by decide +kernel)
theorem lmX11_313 : Cond.methodLink RX11 313 yX11_cut ∈ mx_g := mx_mem (in_t7 (List.mem_of_getElem? (i := 130) (by decide +kernel))) (by decide +kernel)
theorem lmX11_344 : Cond.methodLink RX11 344 yX11_digitOf ∈ mx_g := mx_mem (in_t7 (List.mem_of_getElem? (i := 133) (by decide +kernel))) (by decide +kernel)
theorem lmX11_347 : Cond.methodLink RX11 347 yX11_drawn ∈ mx_g := mx_mem (in_t7 (List.mem_of_getElem? (i := 136) (by decide +kernel))) (by decide +kernel)
theorem lmX11_323 : Cond.methodLink RX11 323 yX11_anew ∈ mx_g := mx_mem (in_t7 (List.mem_of_getElem? (i := 140) (by decide +kernel))) (by decide +kernel)
theorem lmX11_350 : Cond.methodLink RX11 350 yX11_ruleOf ∈ mx_g := mx_mem (in_t7 (List.mem_of_getElem? (i := 147) (by decide +kernel))) (by decide +kernel)
theorem lmX11_353 : Cond.methodLink RX11 353 yX11_roll ∈ mx_g := mx_mem (in_t7 (List.mem_of_getElem? (i := 151) (by decide +kernel))) (by decide +kernel)
theorem lmX11_332 : Cond.methodLink RX11 332 yX11_wordLong ∈ mx_g := mx_mem (in_t7 (List.mem_of_getElem? (i := 155) (by decide +kernel))) (by decide +kernel)
theorem lmX11_335 : Cond.methodLink RX11 335 yX11_wordDigit ∈ mx_g := mx_mem (in_t7 (List.mem_of_getElem? (i := 158) (by decide +kernel))) (by decide +kernel)
theorem lmX11_356 : Cond.methodLink RX11 356 yX11_believesOf ∈ mx_g := mx_mem (in_t7 (List.mem_of_getElem? (i := 161) (by decide +kernel))) (by decide +kernel)
theorem lmX11_359 : Cond.methodLink RX11 359 yX11_numberOfRoll ∈ mx_g := mx_mem (in_t7 (List.mem_of_getElem? (i := 165) (by decide +kernel))) (by decide +kernel)
theorem lmX11_365 : Cond.methodLink RX11 365 yX11_write ∈ mx_g := mx_mem (in_t7 (List.mem_of_getElem? (i := 169) (by decide +kernel))) (by decide +kernel)
theorem lmX11_368 : Cond.methodLink RX11 368 yX11_wearsOf ∈ mx_g := mx_mem (in_t7 (List.mem_of_getElem? (i := 173) (by decide +kernel))) (by decide +kernel)
theorem lmL_67 : Cond.methodLink RL 67 yX11_played ∈ mx_g := mx_mem (in_t7 (List.mem_of_getElem? (i := 177) (by decide +kernel))) (by decide +kernel)
theorem lmX11_414 : Cond.methodLink RX11 414 yX11_isPlayed ∈ mx_g := mx_mem (in_t7 (List.mem_of_getElem? (i := 181) (by decide +kernel))) (by decide +kernel)
theorem lmX11_398 : Cond.methodLink RX11 398 yX11_machine ∈ mx_g := mx_mem (in_t7 (List.mem_of_getElem? (i := 185) (by decide +kernel))) (by decide +kernel)
theorem lmX11_401 : Cond.methodLink RX11 401 yX11_rule ∈ mx_g := mx_mem (in_t7 (List.mem_of_getElem? (i := 186) (by decide +kernel))) (by decide +kernel)
theorem lmX11_405 : Cond.methodLink RX11 405 yX11_crank ∈ mx_g := mx_mem (in_t7 (List.mem_of_getElem? (i := 187) (by decide +kernel))) (by decide +kernel)
theorem lmX11_408 : Cond.methodLink RX11 408 yX11_oil ∈ mx_g := mx_mem (in_t7 (List.mem_of_getElem? (i := 188) (by decide +kernel))) (by decide +kernel)
theorem lmX11_411 : Cond.methodLink RX11 411 yX11_lift ∈ mx_g := mx_mem (in_t7 (List.mem_of_getElem? (i := 189) (by decide +kernel))) (by decide +kernel)
theorem lmL_71 : Cond.methodLink RL 71 yX11_decades ∈ mx_g := mx_mem (in_t7 (List.mem_of_getElem? (i := 190) (by decide +kernel))) (by decide +kernel)
theorem lmX11_417 : Cond.methodLink RX11 417 yX11_happens ∈ mx_g := mx_mem (in_t7 (List.mem_of_getElem? (i := 194) (by decide +kernel))) (by decide +kernel)
theorem lmL_79 : Cond.methodLink RL 79 yX11_of ∈ mx_g := mx_mem (in_t7 (List.mem_of_getElem? (i := 198) (by decide +kernel))) (by decide +kernel)
theorem lmL_84 : Cond.methodLink RL 84 yX11_told ∈ mx_g := mx_mem (in_t7 (List.mem_of_getElem? (i := 202) (by decide +kernel))) (by decide +kernel)
theorem lmL_88 : Cond.methodLink RL 88 yX11_is ∈ mx_g := mx_mem (in_t7 (List.mem_of_getElem? (i := 206) (by decide +kernel))) (by decide +kernel)
theorem lmL_92 : Cond.methodLink RL 92 yX11_book ∈ mx_g := mx_mem (in_t7 (List.mem_of_getElem? (i := 210) (by decide +kernel))) (by decide +kernel)
theorem lmL_201 : Cond.methodLink RL 201 yX11_ledger ∈ mx_g := mx_mem (in_t7 (List.mem_of_getElem? (i := 214) (by decide +kernel))) (by decide +kernel)
theorem lmX11_420 : Cond.methodLink RX11 420 yX11_book ∈ mx_g := mx_mem (in_t7 (List.mem_of_getElem? (i := 218) (by decide +kernel))) (by decide +kernel)
theorem lmL_189 : Cond.methodLink RL 189 yX11_snow ∈ mx_g := mx_mem (in_t7 (List.mem_of_getElem? (i := 219) (by decide +kernel))) (by decide +kernel)
theorem lmL_193 : Cond.methodLink RL 193 yX11_worn ∈ mx_g := mx_mem (in_t7 (List.mem_of_getElem? (i := 223) (by decide +kernel))) (by decide +kernel)
theorem lmL_197 : Cond.methodLink RL 197 yX11_blank ∈ mx_g := mx_mem (in_t7 (List.mem_of_getElem? (i := 227) (by decide +kernel))) (by decide +kernel)
theorem lmL_185 : Cond.methodLink RL 185 yX11_forgiven ∈ mx_g := mx_mem (in_t7 (List.mem_of_getElem? (i := 231) (by decide +kernel))) (by decide +kernel)
theorem lmX11_423 : Cond.methodLink RX11 423 yX11_sumOf ∈ mx_g := mx_mem (in_t7 (List.mem_of_getElem? (i := 235) (by decide +kernel))) (by decide +kernel)
theorem lmX11_426 : Cond.methodLink RX11 426 yX11_bits ∈ mx_g := mx_mem (in_t7 (List.mem_of_getElem? (i := 239) (by decide +kernel))) (by decide +kernel)
theorem lmL_97 : Cond.methodLink RL 97 yX11_foretold ∈ mx_g := mx_mem (in_t8 (List.mem_of_getElem? (i := 2) (by decide +kernel))) (by decide +kernel)
theorem lmX11_429 : Cond.methodLink RX11 429 yX11_setAside ∈ mx_g := mx_mem (in_t8 (List.mem_of_getElem? (i := 6) (by decide +kernel))) (by decide +kernel)
theorem lmX11_432 : Cond.methodLink RX11 432 yX11_putBack ∈ mx_g := mx_mem (in_t8 (List.mem_of_getElem? (i := 10) (by decide +kernel))) (by decide +kernel)
theorem lmL_101 : Cond.methodLink RL 101 yX11_put ∈ mx_g := mx_mem (in_t8 (List.mem_of_getElem? (i := 14) (by decide +kernel))) (by decide +kernel)
theorem lmX11_435 : Cond.methodLink RX11 435 yX11_behind ∈ mx_g := mx_mem (in_t8 (List.mem_of_getElem? (i := 18) (by decide +kernel))) (by decide +kernel)
theorem lmL_131 : Cond.methodLink RL 131 yX11_second ∈ mx_g := mx_mem (in_t8 (List.mem_of_getElem? (i := 22) (by decide +kernel))) (by decide +kernel)
theorem lmL_106 : Cond.methodLink RL 106 yX11_may ∈ mx_g := mx_mem (in_t8 (List.mem_of_getElem? (i := 26) (by decide +kernel))) (by decide +kernel)
theorem lmX11_441 : Cond.methodLink RX11 441 yX11_waysOf ∈ mx_g := mx_mem (in_t8 (List.mem_of_getElem? (i := 30) (by decide +kernel))) (by decide +kernel)
theorem lmX11_438 : Cond.methodLink RX11 438 yX11_goesOn ∈ mx_g := mx_mem (in_t8 (List.mem_of_getElem? (i := 34) (by decide +kernel))) (by decide +kernel)
theorem lmL_111 : Cond.methodLink RL 111 yX11_odds ∈ mx_g := mx_mem (in_t8 (List.mem_of_getElem? (i := 39) (by decide +kernel))) (by decide +kernel)
theorem lmX11_446 : Cond.methodLink RX11 446 yX11_tens ∈ mx_g := mx_mem (in_t8 (List.mem_of_getElem? (i := 43) (by decide +kernel))) (by decide +kernel)
theorem lmX11_450 : Cond.methodLink RX11 450 yX11_divisor ∈ mx_g := mx_mem (in_t8 (List.mem_of_getElem? (i := 46) (by decide +kernel))) (by decide +kernel)
theorem lmL_115 : Cond.methodLink RL 115 yX11_day ∈ mx_g := mx_mem (in_t8 (List.mem_of_getElem? (i := 49) (by decide +kernel))) (by decide +kernel)
theorem lmL_119 : Cond.methodLink RL 119 yX11_fits ∈ mx_g := mx_mem (in_t8 (List.mem_of_getElem? (i := 53) (by decide +kernel))) (by decide +kernel)
theorem lmL_123 : Cond.methodLink RL 123 yX11_likeliest ∈ mx_g := mx_mem (in_t8 (List.mem_of_getElem? (i := 57) (by decide +kernel))) (by decide +kernel)
theorem lmL_127 : Cond.methodLink RL 127 yX11_add ∈ mx_g := mx_mem (in_t8 (List.mem_of_getElem? (i := 61) (by decide +kernel))) (by decide +kernel)
theorem lmX11_464 : Cond.methodLink RX11 464 yX11_layRow ∈ mx_g := mx_mem (in_t8 (List.mem_of_getElem? (i := 65) (by decide +kernel))) (by decide +kernel)
theorem lmX11_458 : Cond.methodLink RX11 458 yX11_layTakes ∈ mx_g := mx_mem (in_t8 (List.mem_of_getElem? (i := 69) (by decide +kernel))) (by decide +kernel)
theorem lmX11_455 : Cond.methodLink RX11 455 yX11_takesBy ∈ mx_g := mx_mem (in_t8 (List.mem_of_getElem? (i := 74) (by decide +kernel))) (by decide +kernel)
theorem lmX11_461 : Cond.methodLink RX11 461 yX11_placesBy ∈ mx_g := mx_mem (in_t8 (List.mem_of_getElem? (i := 78) (by decide +kernel))) (by decide +kernel)
theorem lmL_135 : Cond.methodLink RL 135 yX11_duet ∈ mx_g := mx_mem (in_t8 (List.mem_of_getElem? (i := 82) (by decide +kernel))) (by decide +kernel)
theorem lmL_139 : Cond.methodLink RL 139 yX11_common ∈ mx_g := mx_mem (in_t8 (List.mem_of_getElem? (i := 86) (by decide +kernel))) (by decide +kernel)
theorem lmX11_467 : Cond.methodLink RX11 467 yX11_layCommon ∈ mx_g := mx_mem (in_t8 (List.mem_of_getElem? (i := 90) (by decide +kernel))) (by decide +kernel)
theorem lmX11_470 : Cond.methodLink RX11 470 yX11_isNextOf ∈ mx_g := mx_mem (in_t8 (List.mem_of_getElem? (i := 94) (by decide +kernel))) (by decide +kernel)
theorem lmX11_474 : Cond.methodLink RX11 474 yX11_firstOf ∈ mx_g := mx_mem (in_t8 (List.mem_of_getElem? (i := 98) (by decide +kernel))) (by decide +kernel)
theorem lmL_143 : Cond.methodLink RL 143 yX11_apart ∈ mx_g := mx_mem (in_t8 (List.mem_of_getElem? (i := 102) (by decide +kernel))) (by decide +kernel)
theorem lmL_147 : Cond.methodLink RL 147 yX11_grows ∈ mx_g := mx_mem (in_t8 (List.mem_of_getElem? (i := 106) (by decide +kernel))) (by decide +kernel)
theorem lmL_152 : Cond.methodLink RL 152 yX11_stays ∈ mx_g := mx_mem (in_t8 (List.mem_of_getElem? (i := 110) (by decide +kernel))) (by decide +kernel)
theorem lmL_157 : Cond.methodLink RL 157 yX11_likes ∈ mx_g := mx_mem (in_t8 (List.mem_of_getElem? (i := 114) (by decide +kernel))) (by decide +kernel)
theorem lmL_161 : Cond.methodLink RL 161 yX11_paired ∈ mx_g := mx_mem (in_t8 (List.mem_of_getElem? (i := 118) (by decide +kernel))) (by decide +kernel)
theorem lmX11_483 : Cond.methodLink RX11 483 yX11_layPairs ∈ mx_g := mx_mem (in_t8 (List.mem_of_getElem? (i := 122) (by decide +kernel))) (by decide +kernel)
theorem lmX11_480 : Cond.methodLink RX11 480 yX11_bestOf ∈ mx_g := mx_mem (in_t8 (List.mem_of_getElem? (i := 126) (by decide +kernel))) (by decide +kernel)
theorem lmX11_477 : Cond.methodLink RX11 477 yX11_isBetter ∈ mx_g := mx_mem (in_t8 (List.mem_of_getElem? (i := 130) (by decide +kernel))) (by decide +kernel)
theorem lmL_165 : Cond.methodLink RL 165 yX11_blocks ∈ mx_g := mx_mem (in_t8 (List.mem_of_getElem? (i := 134) (by decide +kernel))) (by decide +kernel)
theorem lmL_169 : Cond.methodLink RL 169 yX11_needs ∈ mx_g := mx_mem (in_t8 (List.mem_of_getElem? (i := 138) (by decide +kernel))) (by decide +kernel)
theorem lmL_173 : Cond.methodLink RL 173 yX11_stock ∈ mx_g := mx_mem (in_t8 (List.mem_of_getElem? (i := 142) (by decide +kernel))) (by decide +kernel)
theorem lmX11_486 : Cond.methodLink RX11 486 yX11_costBy ∈ mx_g := mx_mem (in_t8 (List.mem_of_getElem? (i := 146) (by decide +kernel))) (by decide +kernel)
theorem lmX11_489 : Cond.methodLink RX11 489 yX11_isMore ∈ mx_g := mx_mem (in_t8 (List.mem_of_getElem? (i := 150) (by decide +kernel))) (by decide +kernel)
theorem lmL_177 : Cond.methodLink RL 177 yX11_looser ∈ mx_g := mx_mem (in_t8 (List.mem_of_getElem? (i := 154) (by decide +kernel))) (by decide +kernel)
theorem lmL_181 : Cond.methodLink RL 181 yX11_whose ∈ mx_g := mx_mem (in_t8 (List.mem_of_getElem? (i := 158) (by decide +kernel))) (by decide +kernel)
theorem lmL_205 : Cond.methodLink RL 205 yX11_image ∈ mx_g := mx_mem (in_t8 (List.mem_of_getElem? (i := 162) (by decide +kernel))) (by decide +kernel)
theorem lmL_209 : Cond.methodLink RL 209 yX11_back ∈ mx_g := mx_mem (in_t8 (List.mem_of_getElem? (i := 166) (by decide +kernel))) (by decide +kernel)
theorem lmL_213 : Cond.methodLink RL 213 yX11_about ∈ mx_g := mx_mem (in_t8 (List.mem_of_getElem? (i := 170) (by decide +kernel))) (by decide +kernel)
theorem lnX4_11 : Cond.methodLinkNest RX4 11 yX9_init "MachinesDream" ∈ mx_n := List.mem_filter.mpr ⟨(in_t1 (List.mem_of_getElem? (i := 38) (by decide +kernel))), by decide +kernel⟩
theorem lnX10_21 : Cond.methodLinkNest RX10 21 yX7_init "MachinesDream" ∈ mx_n := List.mem_filter.mpr ⟨(in_t1 (List.mem_of_getElem? (i := 183) (by decide +kernel))), by decide +kernel⟩
theorem lnX10_37 : Cond.methodLinkNest RX10 37 yX0_init "MachinesDream" ∈ mx_n := List.mem_filter.mpr ⟨(in_t2 (List.mem_of_getElem? (i := 17) (by decide +kernel))), by decide +kernel⟩
theorem lnX10_44 : Cond.methodLinkNest RX10 44 yX6_init "MachinesDream" ∈ mx_n := List.mem_filter.mpr ⟨(in_t2 (List.mem_of_getElem? (i := 30) (by decide +kernel))), by decide +kernel⟩
theorem lnX10_51 : Cond.methodLinkNest RX10 51 yX1_init "MachinesDream" ∈ mx_n := List.mem_filter.mpr ⟨(in_t2 (List.mem_of_getElem? (i := 63) (by decide +kernel))), by decide +kernel⟩
theorem lnX10_58 : Cond.methodLinkNest RX10 58 yX5_init "MachinesDream" ∈ mx_n := List.mem_filter.mpr ⟨(in_t2 (List.mem_of_getElem? (i := 80) (by decide +kernel))), by decide +kernel⟩
theorem lnX10_65 : Cond.methodLinkNest RX10 65 yX9_init "MachinesDream" ∈ mx_n := List.mem_filter.mpr ⟨(in_t2 (List.mem_of_getElem? (i := 97) (by decide +kernel))), by decide +kernel⟩
theorem lnX9_43 : Cond.methodLinkNest RX9 43 yX10_within "MachinesDream" ∈ mx_n := List.mem_filter.mpr ⟨(in_t2 (List.mem_of_getElem? (i := 137) (by decide +kernel))), by decide +kernel⟩
theorem lnX7_19 : Cond.methodLinkNest RX7 19 yX10_within "MachinesDream" ∈ mx_n := List.mem_filter.mpr ⟨(in_t2 (List.mem_of_getElem? (i := 157) (by decide +kernel))), by decide +kernel⟩
theorem lnX2_108 : Cond.methodLinkNest RX2 108 yX10_within "MachinesDream" ∈ mx_n := List.mem_filter.mpr ⟨(in_t3 (List.mem_of_getElem? (i := 100) (by decide +kernel))), by decide +kernel⟩
theorem lnX0_91 : Cond.methodLinkNest RX0 91 yX10_within "MachinesDream" ∈ mx_n := List.mem_filter.mpr ⟨(in_t4 (List.mem_of_getElem? (i := 41) (by decide +kernel))), by decide +kernel⟩
theorem lnX0_80 : Cond.methodLinkNest RX0 80 yX10_digitCount "MachinesDream" ∈ mx_n := List.mem_filter.mpr ⟨(in_t4 (List.mem_of_getElem? (i := 49) (by decide +kernel))), by decide +kernel⟩
theorem lnX0_84 : Cond.methodLinkNest RX0 84 yX10_digitAt "MachinesDream" ∈ mx_n := List.mem_filter.mpr ⟨(in_t4 (List.mem_of_getElem? (i := 77) (by decide +kernel))), by decide +kernel⟩
theorem lnX0_87 : Cond.methodLinkNest RX0 87 yX10_ruleIndex "MachinesDream" ∈ mx_n := List.mem_filter.mpr ⟨(in_t4 (List.mem_of_getElem? (i := 89) (by decide +kernel))), by decide +kernel⟩
theorem lnX3_27 : Cond.methodLinkNest RX3 27 yX10_within "MachinesDream" ∈ mx_n := List.mem_filter.mpr ⟨(in_t4 (List.mem_of_getElem? (i := 193) (by decide +kernel))), by decide +kernel⟩
theorem lnX6_47 : Cond.methodLinkNest RX6 47 yX10_digitCount "MachinesDream" ∈ mx_n := List.mem_filter.mpr ⟨(in_t4 (List.mem_of_getElem? (i := 204) (by decide +kernel))), by decide +kernel⟩
theorem lnX6_51 : Cond.methodLinkNest RX6 51 yX10_digitAt "MachinesDream" ∈ mx_n := List.mem_filter.mpr ⟨(in_t4 (List.mem_of_getElem? (i := 205) (by decide +kernel))), by decide +kernel⟩
theorem lnX6_55 : Cond.methodLinkNest RX6 55 yX10_ruleIndex "MachinesDream" ∈ mx_n := List.mem_filter.mpr ⟨(in_t4 (List.mem_of_getElem? (i := 206) (by decide +kernel))), by decide +kernel⟩
theorem lnX6_77 : Cond.methodLinkNest RX6 77 yX10_within "MachinesDream" ∈ mx_n := List.mem_filter.mpr ⟨(in_t4 (List.mem_of_getElem? (i := 223) (by decide +kernel))), by decide +kernel⟩
theorem lcL_7 : Cond.classLink RL 7 RX10 ∈ mx_g := mx_mem (in_t1 (List.mem_of_getElem? (i := 22) (by decide +kernel))) (by decide +kernel)
theorem lwL_7 : mx_N RL 7 10 9 := ⟨_, _, rfl, mx_mem (in_t1 (List.mem_of_getElem? (i := 22) (by decide +kernel))) (by decide +kernel), mx_mem (in_t1 (List.mem_of_getElem? (i := 23) (by decide +kernel))) (by decide +kernel), mx_mem (in_t1 (List.mem_of_getElem? (i := 1) (by decide +kernel))) (by decide +kernel)⟩
theorem lcX10_7 : Cond.classLink RX10 7 RX4 ∈ mx_g := mx_mem (in_t1 (List.mem_of_getElem? (i := 30) (by decide +kernel))) (by decide +kernel)
theorem lwX10_7 : mx_N RX10 7 4 16 := ⟨_, _, rfl, mx_mem (in_t1 (List.mem_of_getElem? (i := 30) (by decide +kernel))) (by decide +kernel), mx_mem (in_t1 (List.mem_of_getElem? (i := 31) (by decide +kernel))) (by decide +kernel), mx_mem (in_t1 (List.mem_of_getElem? (i := 2) (by decide +kernel))) (by decide +kernel)⟩
theorem lcX4_9 : Cond.classLink RX4 9 RX9 ∈ mx_g := mx_mem (in_t1 (List.mem_of_getElem? (i := 36) (by decide +kernel))) (by decide +kernel)
theorem lwX4_9 : mx_N RX4 9 9 12 := ⟨_, _, rfl, mx_mem (in_t1 (List.mem_of_getElem? (i := 36) (by decide +kernel))) (by decide +kernel), mx_mem (in_t1 (List.mem_of_getElem? (i := 37) (by decide +kernel))) (by decide +kernel), mx_mem (in_t1 (List.mem_of_getElem? (i := 3) (by decide +kernel))) (by decide +kernel)⟩
theorem lcX4_22 : Cond.classLink RX4 22 RX8 ∈ mx_g := mx_mem (in_t1 (List.mem_of_getElem? (i := 98) (by decide +kernel))) (by decide +kernel)
theorem lwX4_22 : mx_N RX4 22 8 6 := ⟨_, _, rfl, mx_mem (in_t1 (List.mem_of_getElem? (i := 98) (by decide +kernel))) (by decide +kernel), mx_mem (in_t3 (List.mem_of_getElem? (i := 150) (by decide +kernel))) (by decide +kernel), mx_mem (in_t1 (List.mem_of_getElem? (i := 19) (by decide +kernel))) (by decide +kernel)⟩
theorem lcX4_36 : Cond.classLink RX4 36 RX3 ∈ mx_g := mx_mem (in_t1 (List.mem_of_getElem? (i := 100) (by decide +kernel))) (by decide +kernel)
theorem lwX4_36 : mx_N RX4 36 3 2 := ⟨_, _, rfl, mx_mem (in_t1 (List.mem_of_getElem? (i := 100) (by decide +kernel))) (by decide +kernel), mx_mem (in_t1 (List.mem_of_getElem? (i := 101) (by decide +kernel))) (by decide +kernel), mx_mem (in_t1 (List.mem_of_getElem? (i := 4) (by decide +kernel))) (by decide +kernel)⟩
theorem lcX10_19 : Cond.classLink RX10 19 RX7 ∈ mx_g := mx_mem (in_t1 (List.mem_of_getElem? (i := 181) (by decide +kernel))) (by decide +kernel)
theorem lwX10_19 : mx_N RX10 19 7 6 := ⟨_, _, rfl, mx_mem (in_t1 (List.mem_of_getElem? (i := 181) (by decide +kernel))) (by decide +kernel), mx_mem (in_t1 (List.mem_of_getElem? (i := 182) (by decide +kernel))) (by decide +kernel), mx_mem (in_t1 (List.mem_of_getElem? (i := 6) (by decide +kernel))) (by decide +kernel)⟩
theorem lcX10_26 : Cond.classLink RX10 26 RX2 ∈ mx_g := mx_mem (in_t1 (List.mem_of_getElem? (i := 210) (by decide +kernel))) (by decide +kernel)
theorem lwX10_26 : mx_N RX10 26 2 12 := ⟨_, _, rfl, mx_mem (in_t1 (List.mem_of_getElem? (i := 210) (by decide +kernel))) (by decide +kernel), mx_mem (in_t1 (List.mem_of_getElem? (i := 211) (by decide +kernel))) (by decide +kernel), mx_mem (in_t1 (List.mem_of_getElem? (i := 7) (by decide +kernel))) (by decide +kernel)⟩
theorem lcX10_35 : Cond.classLink RX10 35 RX0 ∈ mx_g := mx_mem (in_t2 (List.mem_of_getElem? (i := 15) (by decide +kernel))) (by decide +kernel)
theorem lwX10_35 : mx_N RX10 35 0 2 := ⟨_, _, rfl, mx_mem (in_t2 (List.mem_of_getElem? (i := 15) (by decide +kernel))) (by decide +kernel), mx_mem (in_t2 (List.mem_of_getElem? (i := 16) (by decide +kernel))) (by decide +kernel), mx_mem (in_t1 (List.mem_of_getElem? (i := 8) (by decide +kernel))) (by decide +kernel)⟩
theorem lcX10_42 : Cond.classLink RX10 42 RX6 ∈ mx_g := mx_mem (in_t2 (List.mem_of_getElem? (i := 28) (by decide +kernel))) (by decide +kernel)
theorem lwX10_42 : mx_N RX10 42 6 7 := ⟨_, _, rfl, mx_mem (in_t2 (List.mem_of_getElem? (i := 28) (by decide +kernel))) (by decide +kernel), mx_mem (in_t2 (List.mem_of_getElem? (i := 29) (by decide +kernel))) (by decide +kernel), mx_mem (in_t1 (List.mem_of_getElem? (i := 9) (by decide +kernel))) (by decide +kernel)⟩
theorem lcX6_9 : Cond.classLink RX6 9 RX3 ∈ mx_g := mx_mem (in_t2 (List.mem_of_getElem? (i := 34) (by decide +kernel))) (by decide +kernel)
theorem lwX6_9 : mx_N RX6 9 3 2 := ⟨_, _, rfl, mx_mem (in_t2 (List.mem_of_getElem? (i := 34) (by decide +kernel))) (by decide +kernel), mx_mem (in_t1 (List.mem_of_getElem? (i := 101) (by decide +kernel))) (by decide +kernel), mx_mem (in_t1 (List.mem_of_getElem? (i := 4) (by decide +kernel))) (by decide +kernel)⟩
theorem lcX6_30 : Cond.classLink RX6 30 "[[I" ∈ mx_g := mx_mem (in_t2 (List.mem_of_getElem? (i := 36) (by decide +kernel))) (by decide +kernel)
theorem lcX10_49 : Cond.classLink RX10 49 RX1 ∈ mx_g := mx_mem (in_t2 (List.mem_of_getElem? (i := 61) (by decide +kernel))) (by decide +kernel)
theorem lwX10_49 : mx_N RX10 49 1 3 := ⟨_, _, rfl, mx_mem (in_t2 (List.mem_of_getElem? (i := 61) (by decide +kernel))) (by decide +kernel), mx_mem (in_t2 (List.mem_of_getElem? (i := 62) (by decide +kernel))) (by decide +kernel), mx_mem (in_t1 (List.mem_of_getElem? (i := 10) (by decide +kernel))) (by decide +kernel)⟩
theorem lcX10_56 : Cond.classLink RX10 56 RX5 ∈ mx_g := mx_mem (in_t2 (List.mem_of_getElem? (i := 78) (by decide +kernel))) (by decide +kernel)
theorem lwX10_56 : mx_N RX10 56 5 3 := ⟨_, _, rfl, mx_mem (in_t2 (List.mem_of_getElem? (i := 78) (by decide +kernel))) (by decide +kernel), mx_mem (in_t2 (List.mem_of_getElem? (i := 79) (by decide +kernel))) (by decide +kernel), mx_mem (in_t1 (List.mem_of_getElem? (i := 11) (by decide +kernel))) (by decide +kernel)⟩
theorem lcX10_63 : Cond.classLink RX10 63 RX9 ∈ mx_g := mx_mem (in_t2 (List.mem_of_getElem? (i := 96) (by decide +kernel))) (by decide +kernel)
theorem lwX10_63 : mx_N RX10 63 9 12 := ⟨_, _, rfl, mx_mem (in_t2 (List.mem_of_getElem? (i := 96) (by decide +kernel))) (by decide +kernel), mx_mem (in_t1 (List.mem_of_getElem? (i := 37) (by decide +kernel))) (by decide +kernel), mx_mem (in_t1 (List.mem_of_getElem? (i := 3) (by decide +kernel))) (by decide +kernel)⟩
theorem lcX2_65 : Cond.classLink RX2 65 RX8 ∈ mx_g := mx_mem (in_t3 (List.mem_of_getElem? (i := 149) (by decide +kernel))) (by decide +kernel)
theorem lwX2_65 : mx_N RX2 65 8 6 := ⟨_, _, rfl, mx_mem (in_t3 (List.mem_of_getElem? (i := 149) (by decide +kernel))) (by decide +kernel), mx_mem (in_t3 (List.mem_of_getElem? (i := 150) (by decide +kernel))) (by decide +kernel), mx_mem (in_t1 (List.mem_of_getElem? (i := 19) (by decide +kernel))) (by decide +kernel)⟩
theorem lcJ7_317 : Cond.classLink RJ7 317 "[I" ∈ mx_g := mx_mem (in_t3 (List.mem_of_getElem? (i := 160) (by decide +kernel))) (by decide +kernel)
theorem lcX2_72 : Cond.classLink RX2 72 "[I" ∈ mx_g := mx_mem (in_t3 (List.mem_of_getElem? (i := 166) (by decide +kernel))) (by decide +kernel)
theorem lcL_10 : Cond.classLink RL 10 RX11 ∈ mx_g := mx_mem (in_t5 (List.mem_of_getElem? (i := 197) (by decide +kernel))) (by decide +kernel)
theorem lwL_10 : mx_N RL 10 11 37 := ⟨_, _, rfl, mx_mem (in_t5 (List.mem_of_getElem? (i := 197) (by decide +kernel))) (by decide +kernel), mx_mem (in_t5 (List.mem_of_getElem? (i := 198) (by decide +kernel))) (by decide +kernel), mx_mem (in_t1 (List.mem_of_getElem? (i := 12) (by decide +kernel))) (by decide +kernel)⟩
theorem lkJ2_227 : Cond.constant RJ2 227 (65536) ∈ mx_g := mx_mem (in_t3 (List.mem_of_getElem? (i := 41) (by decide +kernel))) (by decide +kernel)
theorem lkJ11_110 : Cond.constant RJ11 110 (55232) ∈ mx_g := mx_mem (in_t3 (List.mem_of_getElem? (i := 66) (by decide +kernel))) (by decide +kernel)
theorem lkJ11_76 : Cond.constant RJ11 76 (56320) ∈ mx_g := mx_mem (in_t3 (List.mem_of_getElem? (i := 70) (by decide +kernel))) (by decide +kernel)
theorem lkX0_147 : Cond.constant RX0 147 (1000000) ∈ mx_g := mx_mem (in_t4 (List.mem_of_getElem? (i := 71) (by decide +kernel))) (by decide +kernel)
theorem lkX0_150 : Cond.constant RX0 150 (-1000000) ∈ mx_g := mx_mem (in_t4 (List.mem_of_getElem? (i := 73) (by decide +kernel))) (by decide +kernel)
theorem lkJ6_265 : Cond.constant RJ6 265 (1431655765) ∈ mx_g := mx_mem (in_t5 (List.mem_of_getElem? (i := 150) (by decide +kernel))) (by decide +kernel)
theorem lkJ6_266 : Cond.constant RJ6 266 (858993459) ∈ mx_g := mx_mem (in_t5 (List.mem_of_getElem? (i := 151) (by decide +kernel))) (by decide +kernel)
theorem lkJ6_267 : Cond.constant RJ6 267 (252645135) ∈ mx_g := mx_mem (in_t5 (List.mem_of_getElem? (i := 152) (by decide +kernel))) (by decide +kernel)
theorem lkX11_135 : Cond.constant RX11 135 (99999) ∈ mx_g := mx_mem (in_t6 (List.mem_of_getElem? (i := 137) (by decide +kernel))) (by decide +kernel)
theorem lkX11_454 : Cond.constant RX11 454 (1000000000) ∈ mx_g := mx_mem (in_t8 (List.mem_of_getElem? (i := 73) (by decide +kernel))) (by decide +kernel)
theorem lkX0_145 : Cond.constantLong RX0 145 (1000000) ∈ mx_g := mx_mem (in_t4 (List.mem_of_getElem? (i := 70) (by decide +kernel))) (by decide +kernel)
theorem lkX0_148 : Cond.constantLong RX0 148 (-1000000) ∈ mx_g := mx_mem (in_t4 (List.mem_of_getElem? (i := 72) (by decide +kernel))) (by decide +kernel)
theorem lkX10_230 : Cond.constantLong RX10 230 (-1) ∈ mx_g := mx_mem (in_t4 (List.mem_of_getElem? (i := 198) (by decide +kernel))) (by decide +kernel)
theorem lkX11_143 : Cond.constantLong RX11 143 (1152921504606846976) ∈ mx_g := mx_mem (in_t6 (List.mem_of_getElem? (i := 141) (by decide +kernel))) (by decide +kernel)
theorem lkX11_290 : Cond.constantLong RX11 290 (10) ∈ mx_g := mx_mem (in_t7 (List.mem_of_getElem? (i := 115) (by decide +kernel))) (by decide +kernel)
theorem lkX11_282 : Cond.constantLong RX11 282 (1000000) ∈ mx_g := mx_mem (in_t7 (List.mem_of_getElem? (i := 122) (by decide +kernel))) (by decide +kernel)
theorem lkX11_284 : Cond.constantLong RX11 284 (-1000000) ∈ mx_g := mx_mem (in_t7 (List.mem_of_getElem? (i := 123) (by decide +kernel))) (by decide +kernel)
theorem lkX11_326 : Cond.constantLong RX11 326 (433) ∈ mx_g := mx_mem (in_t7 (List.mem_of_getElem? (i := 144) (by decide +kernel))) (by decide +kernel)
theorem lkX11_328 : Cond.constantLong RX11 328 (313) ∈ mx_g := mx_mem (in_t7 (List.mem_of_getElem? (i := 145) (by decide +kernel))) (by decide +kernel)
theorem lkX11_330 : Cond.constantLong RX11 330 (30557) ∈ mx_g := mx_mem (in_t7 (List.mem_of_getElem? (i := 146) (by decide +kernel))) (by decide +kernel)
theorem lkX11_444 : Cond.constantLong RX11 444 (-1) ∈ mx_g := mx_mem (in_t8 (List.mem_of_getElem? (i := 38) (by decide +kernel))) (by decide +kernel)
