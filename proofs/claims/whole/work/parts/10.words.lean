/-! words of the tables: by their places -/
theorem tl_X0 : ∀ w ∈ u_ws RX0 TX0 5, w ∈ TT := tt_sub _ [133, 135, 137, 139, 141] (by decide +kernel) (by decide +kernel)
theorem tl_X1 : ∀ w ∈ u_ws RX1 TX1 2, w ∈ TT := tt_sub _ [115, 117] (by decide +kernel) (by decide +kernel)
theorem tl_X2 : ∀ w ∈ u_ws RX2 TX2 2, w ∈ TT := tt_sub _ [61, 63] (by decide +kernel) (by decide +kernel)
theorem tl_X3 : ∀ w ∈ u_ws RX3 TX3 9, w ∈ TT := tt_sub _ [84, 86, 88, 90, 92, 94, 96, 98, 100] (by decide +kernel) (by decide +kernel)
theorem tl_X4 : ∀ w ∈ u_ws RX4 TX4 4, w ∈ TT := tt_sub _ [155, 157, 159, 161] (by decide +kernel) (by decide +kernel)
theorem tl_X5 : ∀ w ∈ u_ws RX5 TX5 10, w ∈ TT := tt_sub _ [174, 176, 178, 180, 182, 184, 186, 188, 190, 192] (by decide +kernel) (by decide +kernel)
theorem tl_X6 : ∀ w ∈ u_ws RX6 TX6 25, w ∈ TT := tt_sub _ [590, 592, 594, 596, 598, 600, 602, 604, 606, 608, 610, 612, 614, 616, 618, 620, 622, 624, 626, 628, 630, 632, 634, 636, 638] (by decide +kernel) (by decide +kernel)
theorem ti_X5 : Cond.initialized RX5 ∈ TT := tt_in 35 (by decide +kernel) (by decide +kernel)
theorem ti_X0 : Cond.initialized RX0 ∈ TT := tt_in 39 (by decide +kernel) (by decide +kernel)
theorem ti_X1 : Cond.initialized RX1 ∈ TT := tt_in 38 (by decide +kernel) (by decide +kernel)
theorem ti_X2 : Cond.initialized RX2 ∈ TT := tt_in 36 (by decide +kernel) (by decide +kernel)
theorem ti_X3 : Cond.initialized RX3 ∈ TT := tt_in 37 (by decide +kernel) (by decide +kernel)
theorem ti_X4 : Cond.initialized RX4 ∈ TT := tt_in 40 (by decide +kernel) (by decide +kernel)
theorem ti_L : Cond.initialized RL ∈ TT := tt_in 34 (by decide +kernel) (by decide +kernel)
theorem ti_X6 : Cond.initialized RX6 ∈ TT := tt_in 41 (by decide +kernel) (by decide +kernel)
theorem ti_J6 : Cond.initialized RJ6 ∈ TT := tt_in 44 (by decide +kernel) (by decide +kernel)
theorem ti_J9 : Cond.initialized RJ9 ∈ TT := tt_in 42 (by decide +kernel) (by decide +kernel)
theorem ti_J10 : Cond.initialized RJ10 ∈ TT := tt_in 43 (by decide +kernel) (by decide +kernel)
abbrev mX5_init : AM := (yX5_init, cX5_init, 2, none, 0)
set_option maxRecDepth 20000 in
theorem kb_X5_init : ac_B mX5_init := ⟨tt_in 49 rfl rfl, ti_X5, ⟨by decide, by decide, by decide⟩, by decide⟩
abbrev mX2_init : AM := (yX2_init, cX2_init, 1, none, 0)
set_option maxRecDepth 20000 in
theorem kb_X2_init : ac_B mX2_init := ⟨tt_in 57 rfl rfl, ti_X2, ⟨by decide, by decide, by decide⟩, by decide⟩
abbrev mX3_init : AM := (yX3_init, cX3_init, 1, none, 0)
set_option maxRecDepth 20000 in
theorem kb_X3_init : ac_B mX3_init := ⟨tt_in 71 rfl rfl, ti_X3, ⟨by decide, by decide, by decide⟩, by decide⟩
abbrev mX1_init : AM := (yX1_init, cX1_init, 2, none, 0)
set_option maxRecDepth 20000 in
theorem kb_X1_init : ac_B mX1_init := ⟨tt_in 108 rfl rfl, ti_X1, ⟨by decide, by decide, by decide⟩, by decide⟩
abbrev mX0_init : AM := (yX0_init, cX0_init, 1, none, 0)
set_option maxRecDepth 20000 in
theorem kb_X0_init : ac_B mX0_init := ⟨tt_in 124 rfl rfl, ti_X0, ⟨by decide, by decide, by decide⟩, by decide⟩
abbrev mX4_init : AM := (yX4_init, cX4_init, 1, none, 0)
set_option maxRecDepth 20000 in
theorem kb_X4_init : ac_B mX4_init := ⟨tt_in 149 rfl rfl, ti_X4, ⟨by decide, by decide, by decide⟩, by decide⟩
abbrev mX5_type : AM := (yX5_type, cX5_type, 2, (some .int), 1)
set_option maxRecDepth 20000 in
theorem kb_X5_type : ac_B mX5_type := ⟨tt_in 198 rfl rfl, ti_X5, ⟨by decide, by decide, by decide⟩, by decide⟩
abbrev mX3_append : AM := (yX3_append, cX3_append, 2, (some .boolean), 1)
set_option maxRecDepth 20000 in
theorem kb_X3_append : ac_B mX3_append := ⟨tt_in 202 rfl rfl, ti_X3, ⟨by decide, by decide, by decide⟩, by decide⟩
abbrev mX3_length : AM := (yX3_length, cX3_length, 1, (some .int), 0)
set_option maxRecDepth 20000 in
theorem kb_X3_length : ac_B mX3_length := ⟨tt_in 206 rfl rfl, ti_X3, ⟨by decide, by decide, by decide⟩, by decide⟩
abbrev mX5_clear : AM := (yX5_clear, cX5_clear, 2, (some .int), 0)
set_option maxRecDepth 20000 in
theorem kb_X5_clear : ac_B mX5_clear := ⟨tt_in 210 rfl rfl, ti_X5, ⟨by decide, by decide, by decide⟩, by decide⟩
abbrev mX3_wipe : AM := (yX3_wipe, cX3_wipe, 1, none, 0)
set_option maxRecDepth 20000 in
theorem kb_X3_wipe : ac_B mX3_wipe := ⟨tt_in 214 rfl rfl, ti_X3, ⟨by decide, by decide, by decide⟩, by decide⟩
abbrev mX5_fraction : AM := (yX5_fraction, cX5_fraction, 2, (some .int), 0)
set_option maxRecDepth 20000 in
theorem kb_X5_fraction : ac_B mX5_fraction := ⟨tt_in 218 rfl rfl, ti_X5, ⟨by decide, by decide, by decide⟩, by decide⟩
abbrev mX3_read : AM := (yX3_read, cX3_read, 3, (some .int), 0)
set_option maxRecDepth 20000 in
theorem kb_X3_read : ac_B mX3_read := ⟨tt_in 222 rfl rfl, ti_X3, ⟨by decide, by decide, by decide⟩, by decide⟩
abbrev mX2_wipe : AM := (yX2_wipe, cX2_wipe, 1, none, 0)
set_option maxRecDepth 20000 in
theorem kb_X2_wipe : ac_B mX2_wipe := ⟨tt_in 226 rfl rfl, ti_X2, ⟨by decide, by decide, by decide⟩, by decide⟩
abbrev mX3_readToken : AM := (yX3_readToken, cX3_readToken, 2, none, 0)
set_option maxRecDepth 20000 in
theorem kb_X3_readToken : ac_B mX3_readToken := ⟨tt_in 230 rfl rfl, ti_X3, ⟨by decide, by decide, by decide⟩, by decide⟩
abbrev mX3_isFigure : AM := (yX3_isFigure, cX3_isFigure, 1, (some .boolean), 1)
set_option maxRecDepth 20000 in
theorem kb_X3_isFigure : ac_B mX3_isFigure := ⟨tt_in 233 rfl rfl, ti_X3, ⟨by decide, by decide, by decide⟩, by decide⟩
abbrev mX3_readNumber : AM := (yX3_readNumber, cX3_readNumber, 2, none, 0)
set_option maxRecDepth 20000 in
theorem kb_X3_readNumber : ac_B mX3_readNumber := ⟨tt_in 237 rfl rfl, ti_X3, ⟨by decide, by decide, by decide⟩, by decide⟩
abbrev mX3_kindOf : AM := (yX3_kindOf, cX3_kindOf, 1, (some .int), 1)
set_option maxRecDepth 20000 in
theorem kb_X3_kindOf : ac_B mX3_kindOf := ⟨tt_in 243 rfl rfl, ti_X3, ⟨by decide, by decide, by decide⟩, by decide⟩
abbrev mX3_follow : AM := (yX3_follow, cX3_follow, 2, (some .int), 1)
set_option maxRecDepth 20000 in
theorem kb_X3_follow : ac_B mX3_follow := ⟨tt_in 247 rfl rfl, ti_X3, ⟨by decide, by decide, by decide⟩, by decide⟩
abbrev mX3_takeAbove : AM := (yX3_takeAbove, cX3_takeAbove, 1, (some .int), 0)
set_option maxRecDepth 20000 in
theorem kb_X3_takeAbove : ac_B mX3_takeAbove := ⟨tt_in 251 rfl rfl, ti_X3, ⟨by decide, by decide, by decide⟩, by decide⟩
abbrev mX3_isNumberTo : AM := (yX3_isNumberTo, cX3_isNumberTo, 2, (some .boolean), 1)
set_option maxRecDepth 20000 in
theorem kb_X3_isNumberTo : ac_B mX3_isNumberTo := ⟨tt_in 255 rfl rfl, ti_X3, ⟨by decide, by decide, by decide⟩, by decide⟩
abbrev mX3_takeBelow : AM := (yX3_takeBelow, cX3_takeBelow, 1, (some .int), 0)
set_option maxRecDepth 20000 in
theorem kb_X3_takeBelow : ac_B mX3_takeBelow := ⟨tt_in 259 rfl rfl, ti_X3, ⟨by decide, by decide, by decide⟩, by decide⟩
abbrev mX3_takeTerm : AM := (yX3_takeTerm, cX3_takeTerm, 1, (some .int), 0)
set_option maxRecDepth 20000 in
theorem kb_X3_takeTerm : ac_B mX3_takeTerm := ⟨tt_in 263 rfl rfl, ti_X3, ⟨by decide, by decide, by decide⟩, by decide⟩
abbrev mX2_length : AM := (yX2_length, cX2_length, 1, (some .int), 0)
set_option maxRecDepth 20000 in
theorem kb_X2_length : ac_B mX2_length := ⟨tt_in 267 rfl rfl, ti_X2, ⟨by decide, by decide, by decide⟩, by decide⟩
abbrev mX2_at : AM := (yX2_at, cX2_at, 2, (some .int), 1)
set_option maxRecDepth 20000 in
theorem kb_X2_at : ac_B mX2_at := ⟨tt_in 271 rfl rfl, ti_X2, ⟨by decide, by decide, by decide⟩, by decide⟩
abbrev mX2_reaches : AM := (yX2_reaches, cX2_reaches, 2, (some .boolean), 1)
set_option maxRecDepth 20000 in
theorem kb_X2_reaches : ac_B mX2_reaches := ⟨tt_in 275 rfl rfl, ti_X2, ⟨by decide, by decide, by decide⟩, by decide⟩
abbrev mX2_insert : AM := (yX2_insert, cX2_insert, 5, (some .boolean), 1)
set_option maxRecDepth 20000 in
theorem kb_X2_insert : ac_B mX2_insert := ⟨tt_in 279 rfl rfl, ti_X2, ⟨by decide, by decide, by decide⟩, by decide⟩
abbrev mX3_endSum : AM := (yX3_endSum, cX3_endSum, 1, (some .int), 0)
set_option maxRecDepth 20000 in
theorem kb_X3_endSum : ac_B mX3_endSum := ⟨tt_in 284 rfl rfl, ti_X3, ⟨by decide, by decide, by decide⟩, by decide⟩
abbrev mX2_adds : AM := (yX2_adds, cX2_adds, 8, (some .boolean), 2)
set_option maxRecDepth 20000 in
theorem kb_X2_adds : ac_B mX2_adds := ⟨tt_in 288 rfl rfl, ti_X2, ⟨by decide, by decide, by decide⟩, by decide⟩
abbrev mX5_startAnew : AM := (yX5_startAnew, cX5_startAnew, 2, none, 0)
set_option maxRecDepth 20000 in
theorem kb_X5_startAnew : ac_B mX5_startAnew := ⟨tt_in 292 rfl rfl, ti_X5, ⟨by decide, by decide, by decide⟩, by decide⟩
abbrev mX3_toldP : AM := (yX3_toldP, cX3_toldP, 1, (some .int), 0)
set_option maxRecDepth 20000 in
theorem kb_X3_toldP : ac_B mX3_toldP := ⟨tt_in 296 rfl rfl, ti_X3, ⟨by decide, by decide, by decide⟩, by decide⟩
abbrev mX3_toldQ : AM := (yX3_toldQ, cX3_toldQ, 1, (some .int), 0)
set_option maxRecDepth 20000 in
theorem kb_X3_toldQ : ac_B mX3_toldQ := ⟨tt_in 300 rfl rfl, ti_X3, ⟨by decide, by decide, by decide⟩, by decide⟩
abbrev mX3_toldTerms : AM := (yX3_toldTerms, cX3_toldTerms, 1, (some (.object RX2)), 0)
set_option maxRecDepth 20000 in
theorem kb_X3_toldTerms : ac_B mX3_toldTerms := ⟨tt_in 304 rfl rfl, ti_X3, ⟨by decide, by decide, by decide⟩, by decide⟩
abbrev mX2_copy : AM := (yX2_copy, cX2_copy, 2, none, 1)
set_option maxRecDepth 20000 in
theorem kb_X2_copy : ac_B mX2_copy := ⟨tt_in 308 rfl rfl, ti_X2, ⟨by decide, by decide, by decide⟩, by decide⟩
abbrev mX1_wipe : AM := (yX1_wipe, cX1_wipe, 1, none, 0)
set_option maxRecDepth 20000 in
theorem kb_X1_wipe : ac_B mX1_wipe := ⟨tt_in 315 rfl rfl, ti_X1, ⟨by decide, by decide, by decide⟩, by decide⟩
abbrev mX4_wipe : AM := (yX4_wipe, cX4_wipe, 1, none, 0)
set_option maxRecDepth 20000 in
theorem kb_X4_wipe : ac_B mX4_wipe := ⟨tt_in 319 rfl rfl, ti_X4, ⟨by decide, by decide, by decide⟩, by decide⟩
abbrev mX0_turnTo : AM := (yX0_turnTo, cX0_turnTo, 4, none, 2)
set_option maxRecDepth 20000 in
theorem kb_X0_turnTo : ac_B mX0_turnTo := ⟨tt_in 323 rfl rfl, ti_X0, ⟨by decide, by decide, by decide⟩, by decide⟩
abbrev mX5_makes : AM := (yX5_makes, cX5_makes, 2, (some .int), 1)
set_option maxRecDepth 20000 in
theorem kb_X5_makes : ac_B mX5_makes := ⟨tt_in 327 rfl rfl, ti_X5, ⟨by decide, by decide, by decide⟩, by decide⟩
abbrev mX5_draftBy : AM := (yX5_draftBy, cX5_draftBy, 3, (some .boolean), 1)
set_option maxRecDepth 20000 in
theorem kb_X5_draftBy : ac_B mX5_draftBy := ⟨tt_in 331 rfl rfl, ti_X5, ⟨by decide, by decide, by decide⟩, by decide⟩
abbrev mX5_takeGreedily : AM := (yX5_takeGreedily, cX5_takeGreedily, 13, (some .boolean), 4)
set_option maxRecDepth 20000 in
theorem kb_X5_takeGreedily : ac_B mX5_takeGreedily := ⟨tt_in 334 rfl rfl, ti_X5, ⟨by decide, by decide, by decide⟩, by decide⟩
abbrev mX5_commonDivisor : AM := (yX5_commonDivisor, cX5_commonDivisor, 7, (some .long), 2)
set_option maxRecDepth 20000 in
theorem kb_X5_commonDivisor : ac_B mX5_commonDivisor := ⟨tt_in 343 rfl rfl, ti_X5, ⟨by decide, by decide, by decide⟩, by decide⟩
abbrev mX0_leastLength : AM := (yX0_leastLength, cX0_leastLength, 3, (some .int), 1)
set_option maxRecDepth 20000 in
theorem kb_X0_leastLength : ac_B mX0_leastLength := ⟨tt_in 347 rfl rfl, ti_X0, ⟨by decide, by decide, by decide⟩, by decide⟩
abbrev mX0_howMany : AM := (yX0_howMany, cX0_howMany, 6, (some .int), 2)
set_option maxRecDepth 20000 in
theorem kb_X0_howMany : ac_B mX0_howMany := ⟨tt_in 351 rfl rfl, ti_X0, ⟨by decide, by decide, by decide⟩, by decide⟩
abbrev mX0_seek : AM := (yX0_seek, cX0_seek, 2, (some .int), 1)
set_option maxRecDepth 20000 in
theorem kb_X0_seek : ac_B mX0_seek := ⟨tt_in 355 rfl rfl, ti_X0, ⟨by decide, by decide, by decide⟩, by decide⟩
abbrev mX5_isLength : AM := (yX5_isLength, cX5_isLength, 1, (some .boolean), 1)
set_option maxRecDepth 20000 in
theorem kb_X5_isLength : ac_B mX5_isLength := ⟨tt_in 358 rfl rfl, ti_X5, ⟨by decide, by decide, by decide⟩, by decide⟩
abbrev mX0_extend : AM := (yX0_extend, cX0_extend, 15, none, 6)
set_option maxRecDepth 20000 in
theorem kb_X0_extend : ac_B mX0_extend := ⟨tt_in 361 rfl rfl, ti_X0, ⟨by decide, by decide, by decide⟩, by decide⟩
abbrev mX0_greatest : AM := (yX0_greatest, cX0_greatest, 1, (some .int), 1)
set_option maxRecDepth 20000 in
theorem kb_X0_greatest : ac_B mX0_greatest := ⟨tt_in 364 rfl rfl, ti_X0, ⟨by decide, by decide, by decide⟩, by decide⟩
abbrev mX0_end : AM := (yX0_end, cX0_end, 10, none, 5)
set_option maxRecDepth 20000 in
theorem kb_X0_end : ac_B mX0_end := ⟨tt_in 368 rfl rfl, ti_X0, ⟨by decide, by decide, by decide⟩, by decide⟩
abbrev mX0_copyFirst : AM := (yX0_copyFirst, cX0_copyFirst, 6, (some .boolean), 3)
set_option maxRecDepth 20000 in
theorem kb_X0_copyFirst : ac_B mX0_copyFirst := ⟨tt_in 374 rfl rfl, ti_X0, ⟨by decide, by decide, by decide⟩, by decide⟩
abbrev mX0_pick : AM := (yX0_pick, cX0_pick, 7, (some .int), 3)
set_option maxRecDepth 20000 in
theorem kb_X0_pick : ac_B mX0_pick := ⟨tt_in 378 rfl rfl, ti_X0, ⟨by decide, by decide, by decide⟩, by decide⟩
abbrev mX0_unpack : AM := (yX0_unpack, cX0_unpack, 3, (some .int), 3)
set_option maxRecDepth 20000 in
theorem kb_X0_unpack : ac_B mX0_unpack := ⟨tt_in 382 rfl rfl, ti_X0, ⟨by decide, by decide, by decide⟩, by decide⟩
abbrev mX0_lengthOfLeastBound : AM := (yX0_lengthOfLeastBound, cX0_lengthOfLeastBound, 5, (some .int), 0)
set_option maxRecDepth 20000 in
theorem kb_X0_lengthOfLeastBound : ac_B mX0_lengthOfLeastBound := ⟨tt_in 387 rfl rfl, ti_X0, ⟨by decide, by decide, by decide⟩, by decide⟩
abbrev mX0_leastBound : AM := (yX0_leastBound, cX0_leastBound, 6, (some .int), 1)
set_option maxRecDepth 20000 in
theorem kb_X0_leastBound : ac_B mX0_leastBound := ⟨tt_in 391 rfl rfl, ti_X0, ⟨by decide, by decide, by decide⟩, by decide⟩
abbrev mX5_takeDraft : AM := (yX5_takeDraft, cX5_takeDraft, 1, (some .int), 0)
set_option maxRecDepth 20000 in
theorem kb_X5_takeDraft : ac_B mX5_takeDraft := ⟨tt_in 396 rfl rfl, ti_X5, ⟨by decide, by decide, by decide⟩, by decide⟩
abbrev mX1_store : AM := (yX1_store, cX1_store, 2, none, 1)
set_option maxRecDepth 20000 in
theorem kb_X1_store : ac_B mX1_store := ⟨tt_in 400 rfl rfl, ti_X1, ⟨by decide, by decide, by decide⟩, by decide⟩
abbrev mX1_loseOldest : AM := (yX1_loseOldest, cX1_loseOldest, 3, none, 0)
set_option maxRecDepth 20000 in
theorem kb_X1_loseOldest : ac_B mX1_loseOldest := ⟨tt_in 404 rfl rfl, ti_X1, ⟨by decide, by decide, by decide⟩, by decide⟩
abbrev mX5_splits : AM := (yX5_splits, cX5_splits, 3, (some .int), 2)
set_option maxRecDepth 20000 in
theorem kb_X5_splits : ac_B mX5_splits := ⟨tt_in 410 rfl rfl, ti_X5, ⟨by decide, by decide, by decide⟩, by decide⟩
abbrev mX2_drop : AM := (yX2_drop, cX2_drop, 3, none, 1)
set_option maxRecDepth 20000 in
theorem kb_X2_drop : ac_B mX2_drop := ⟨tt_in 415 rfl rfl, ti_X2, ⟨by decide, by decide, by decide⟩, by decide⟩
abbrev mX5_splitInto : AM := (yX5_splitInto, cX5_splitInto, 4, (some .boolean), 3)
set_option maxRecDepth 20000 in
theorem kb_X5_splitInto : ac_B mX5_splitInto := ⟨tt_in 419 rfl rfl, ti_X5, ⟨by decide, by decide, by decide⟩, by decide⟩
abbrev mX5_joins : AM := (yX5_joins, cX5_joins, 4, (some .int), 2)
set_option maxRecDepth 20000 in
theorem kb_X5_joins : ac_B mX5_joins := ⟨tt_in 426 rfl rfl, ti_X5, ⟨by decide, by decide, by decide⟩, by decide⟩
abbrev mX5_oneForTwo : AM := (yX5_oneForTwo, cX5_oneForTwo, 6, (some .int), 2)
set_option maxRecDepth 20000 in
theorem kb_X5_oneForTwo : ac_B mX5_oneForTwo := ⟨tt_in 429 rfl rfl, ti_X5, ⟨by decide, by decide, by decide⟩, by decide⟩
abbrev mX5_undo : AM := (yX5_undo, cX5_undo, 1, (some .int), 0)
set_option maxRecDepth 20000 in
theorem kb_X5_undo : ac_B mX5_undo := ⟨tt_in 437 rfl rfl, ti_X5, ⟨by decide, by decide, by decide⟩, by decide⟩
abbrev mX1_restore : AM := (yX1_restore, cX1_restore, 2, (some .boolean), 1)
set_option maxRecDepth 20000 in
theorem kb_X1_restore : ac_B mX1_restore := ⟨tt_in 441 rfl rfl, ti_X1, ⟨by decide, by decide, by decide⟩, by decide⟩
abbrev mX1_length : AM := (yX1_length, cX1_length, 1, (some .int), 0)
set_option maxRecDepth 20000 in
theorem kb_X1_length : ac_B mX1_length := ⟨tt_in 445 rfl rfl, ti_X1, ⟨by decide, by decide, by decide⟩, by decide⟩
abbrev mX5_term : AM := (yX5_term, cX5_term, 2, (some .int), 1)
set_option maxRecDepth 20000 in
theorem kb_X5_term : ac_B mX5_term := ⟨tt_in 449 rfl rfl, ti_X5, ⟨by decide, by decide, by decide⟩, by decide⟩
abbrev mX5_greedy : AM := (yX5_greedy, cX5_greedy, 3, (some .int), 2)
set_option maxRecDepth 20000 in
theorem kb_X5_greedy : ac_B mX5_greedy := ⟨tt_in 453 rfl rfl, ti_X5, ⟨by decide, by decide, by decide⟩, by decide⟩
abbrev mX5_sums : AM := (yX5_sums, cX5_sums, 3, (some .int), 2)
set_option maxRecDepth 20000 in
theorem kb_X5_sums : ac_B mX5_sums := ⟨tt_in 457 rfl rfl, ti_X5, ⟨by decide, by decide, by decide⟩, by decide⟩
abbrev mX5_isBound : AM := (yX5_isBound, cX5_isBound, 1, (some .boolean), 1)
set_option maxRecDepth 20000 in
theorem kb_X5_isBound : ac_B mX5_isBound := ⟨tt_in 461 rfl rfl, ti_X5, ⟨by decide, by decide, by decide⟩, by decide⟩
abbrev mX5_sum : AM := (yX5_sum, cX5_sum, 5, (some .int), 4)
set_option maxRecDepth 20000 in
theorem kb_X5_sum : ac_B mX5_sum := ⟨tt_in 466 rfl rfl, ti_X5, ⟨by decide, by decide, by decide⟩, by decide⟩
abbrev mX0_numberOf : AM := (yX0_numberOf, cX0_numberOf, 6, (some .int), 4)
set_option maxRecDepth 20000 in
theorem kb_X0_numberOf : ac_B mX0_numberOf := ⟨tt_in 470 rfl rfl, ti_X0, ⟨by decide, by decide, by decide⟩, by decide⟩
abbrev mX5_fewest : AM := (yX5_fewest, cX5_fewest, 2, (some .int), 1)
set_option maxRecDepth 20000 in
theorem kb_X5_fewest : ac_B mX5_fewest := ⟨tt_in 474 rfl rfl, ti_X5, ⟨by decide, by decide, by decide⟩, by decide⟩
abbrev mX5_bound : AM := (yX5_bound, cX5_bound, 2, (some .int), 1)
set_option maxRecDepth 20000 in
theorem kb_X5_bound : ac_B mX5_bound := ⟨tt_in 478 rfl rfl, ti_X5, ⟨by decide, by decide, by decide⟩, by decide⟩
abbrev mX5_holds : AM := (yX5_holds, cX5_holds, 4, (some .int), 3)
set_option maxRecDepth 20000 in
theorem kb_X5_holds : ac_B mX5_holds := ⟨tt_in 482 rfl rfl, ti_X5, ⟨by decide, by decide, by decide⟩, by decide⟩
abbrev mX5_isNumerator : AM := (yX5_isNumerator, cX5_isNumerator, 1, (some .boolean), 1)
set_option maxRecDepth 20000 in
theorem kb_X5_isNumerator : ac_B mX5_isNumerator := ⟨tt_in 485 rfl rfl, ti_X5, ⟨by decide, by decide, by decide⟩, by decide⟩
abbrev mX5_isSplit : AM := (yX5_isSplit, cX5_isSplit, 3, (some .boolean), 3)
set_option maxRecDepth 20000 in
theorem kb_X5_isSplit : ac_B mX5_isSplit := ⟨tt_in 488 rfl rfl, ti_X5, ⟨by decide, by decide, by decide⟩, by decide⟩
abbrev mX5_divides : AM := (yX5_divides, cX5_divides, 2, (some .boolean), 2)
set_option maxRecDepth 20000 in
theorem kb_X5_divides : ac_B mX5_divides := ⟨tt_in 491 rfl rfl, ti_X5, ⟨by decide, by decide, by decide⟩, by decide⟩
abbrev mX5_covered : AM := (yX5_covered, cX5_covered, 6, (some .int), 3)
set_option maxRecDepth 20000 in
theorem kb_X5_covered : ac_B mX5_covered := ⟨tt_in 495 rfl rfl, ti_X5, ⟨by decide, by decide, by decide⟩, by decide⟩
abbrev mX5_isChoice : AM := (yX5_isChoice, cX5_isChoice, 1, (some .boolean), 1)
set_option maxRecDepth 20000 in
theorem kb_X5_isChoice : ac_B mX5_isChoice := ⟨tt_in 498 rfl rfl, ti_X5, ⟨by decide, by decide, by decide⟩, by decide⟩
abbrev mX5_isCovered : AM := (yX5_isCovered, cX5_isCovered, 7, (some .boolean), 4)
set_option maxRecDepth 20000 in
theorem kb_X5_isCovered : ac_B mX5_isCovered := ⟨tt_in 501 rfl rfl, ti_X5, ⟨by decide, by decide, by decide⟩, by decide⟩
abbrev mX5_splitters : AM := (yX5_splitters, cX5_splitters, 4, (some .int), 2)
set_option maxRecDepth 20000 in
theorem kb_X5_splitters : ac_B mX5_splitters := ⟨tt_in 504 rfl rfl, ti_X5, ⟨by decide, by decide, by decide⟩, by decide⟩
abbrev mX5_open : AM := (yX5_open, cX5_open, 4, (some .int), 2)
set_option maxRecDepth 20000 in
theorem kb_X5_open : ac_B mX5_open := ⟨tt_in 508 rfl rfl, ti_X5, ⟨by decide, by decide, by decide⟩, by decide⟩
abbrev mX5_sees : AM := (yX5_sees, cX5_sees, 4, (some .int), 3)
set_option maxRecDepth 20000 in
theorem kb_X5_sees : ac_B mX5_sees := ⟨tt_in 512 rfl rfl, ti_X5, ⟨by decide, by decide, by decide⟩, by decide⟩
abbrev mX4_add : AM := (yX4_add, cX4_add, 4, (some .boolean), 3)
set_option maxRecDepth 20000 in
theorem kb_X4_add : ac_B mX4_add := ⟨tt_in 516 rfl rfl, ti_X4, ⟨by decide, by decide, by decide⟩, by decide⟩
abbrev mX4_length : AM := (yX4_length, cX4_length, 1, (some .int), 0)
set_option maxRecDepth 20000 in
theorem kb_X4_length : ac_B mX4_length := ⟨tt_in 520 rfl rfl, ti_X4, ⟨by decide, by decide, by decide⟩, by decide⟩
abbrev mX5_forget : AM := (yX5_forget, cX5_forget, 2, (some .int), 0)
set_option maxRecDepth 20000 in
theorem kb_X5_forget : ac_B mX5_forget := ⟨tt_in 524 rfl rfl, ti_X5, ⟨by decide, by decide, by decide⟩, by decide⟩
abbrev mX5_unseen : AM := (yX5_unseen, cX5_unseen, 1, (some .int), 0)
set_option maxRecDepth 20000 in
theorem kb_X5_unseen : ac_B mX5_unseen := ⟨tt_in 528 rfl rfl, ti_X5, ⟨by decide, by decide, by decide⟩, by decide⟩
abbrev mX4_suspects : AM := (yX4_suspects, cX4_suspects, 4, (some .int), 0)
set_option maxRecDepth 20000 in
theorem kb_X4_suspects : ac_B mX4_suspects := ⟨tt_in 532 rfl rfl, ti_X4, ⟨by decide, by decide, by decide⟩, by decide⟩
abbrev mX5_ask : AM := (yX5_ask, cX5_ask, 2, (some .int), 1)
set_option maxRecDepth 20000 in
theorem kb_X5_ask : ac_B mX5_ask := ⟨tt_in 537 rfl rfl, ti_X5, ⟨by decide, by decide, by decide⟩, by decide⟩
abbrev mX5_bestQuestion : AM := (yX5_bestQuestion, cX5_bestQuestion, 8, (some .int), 2)
set_option maxRecDepth 20000 in
theorem kb_X5_bestQuestion : ac_B mX5_bestQuestion := ⟨tt_in 540 rfl rfl, ti_X5, ⟨by decide, by decide, by decide⟩, by decide⟩
abbrev mJ6_bitCount_0f7a4 : AM := (yJ6_bitCount_0f7a4, cJ6_bitCount_0f7a4, 1, (some .int), 1)
set_option maxRecDepth 20000 in
theorem kb_J6_bitCount_0f7a4 : ac_B mJ6_bitCount_0f7a4 := ⟨tt_in 543 rfl rfl, ti_J6, ⟨by decide, by decide, by decide⟩, by decide⟩
abbrev mX5_keep : AM := (yX5_keep, cX5_keep, 2, (some .int), 1)
set_option maxRecDepth 20000 in
theorem kb_X5_keep : ac_B mX5_keep := ⟨tt_in 550 rfl rfl, ti_X5, ⟨by decide, by decide, by decide⟩, by decide⟩
abbrev mX5_back : AM := (yX5_back, cX5_back, 2, (some .int), 1)
set_option maxRecDepth 20000 in
theorem kb_X5_back : ac_B mX5_back := ⟨tt_in 554 rfl rfl, ti_X5, ⟨by decide, by decide, by decide⟩, by decide⟩
abbrev mX5_count : AM := (yX5_count, cX5_count, 2, (some .int), 1)
set_option maxRecDepth 20000 in
theorem kb_X5_count : ac_B mX5_count := ⟨tt_in 558 rfl rfl, ti_X5, ⟨by decide, by decide, by decide⟩, by decide⟩
abbrev mX6_init : AM := (yX6_init, cX6_init, 1, none, 0)
set_option maxRecDepth 20000 in
theorem kb_X6_init : ac_B mX6_init := ⟨tt_in 563 rfl rfl, ti_X6, ⟨by decide, by decide, by decide⟩, by decide⟩
abbrev mX6_type : AM := (yX6_type, cX6_type, 2, (some .int), 1)
set_option maxRecDepth 20000 in
theorem kb_X6_type : ac_B mX6_type := ⟨tt_in 645 rfl rfl, ti_X6, ⟨by decide, by decide, by decide⟩, by decide⟩
abbrev mX6_in : AM := (yX6_in, cX6_in, 6, (some .boolean), 3)
set_option maxRecDepth 20000 in
theorem kb_X6_in : ac_B mX6_in := ⟨tt_in 649 rfl rfl, ti_X6, ⟨by decide, by decide, by decide⟩, by decide⟩
abbrev mX6_clear : AM := (yX6_clear, cX6_clear, 2, (some .int), 0)
set_option maxRecDepth 20000 in
theorem kb_X6_clear : ac_B mX6_clear := ⟨tt_in 653 rfl rfl, ti_X6, ⟨by decide, by decide, by decide⟩, by decide⟩
abbrev mX6_fraction : AM := (yX6_fraction, cX6_fraction, 2, (some .int), 0)
set_option maxRecDepth 20000 in
theorem kb_X6_fraction : ac_B mX6_fraction := ⟨tt_in 657 rfl rfl, ti_X6, ⟨by decide, by decide, by decide⟩, by decide⟩
abbrev mX6_reads : AM := (yX6_reads, cX6_reads, 2, (some .boolean), 0)
set_option maxRecDepth 20000 in
theorem kb_X6_reads : ac_B mX6_reads := ⟨tt_in 661 rfl rfl, ti_X6, ⟨by decide, by decide, by decide⟩, by decide⟩
abbrev mX6_take : AM := (yX6_take, cX6_take, 2, none, 0)
set_option maxRecDepth 20000 in
theorem kb_X6_take : ac_B mX6_take := ⟨tt_in 665 rfl rfl, ti_X6, ⟨by decide, by decide, by decide⟩, by decide⟩
abbrev mX6_isDigit : AM := (yX6_isDigit, cX6_isDigit, 1, (some .boolean), 1)
set_option maxRecDepth 20000 in
theorem kb_X6_isDigit : ac_B mX6_isDigit := ⟨tt_in 668 rfl rfl, ti_X6, ⟨by decide, by decide, by decide⟩, by decide⟩
abbrev mX6_readsFraction : AM := (yX6_readsFraction, cX6_readsFraction, 1, (some .boolean), 0)
set_option maxRecDepth 20000 in
theorem kb_X6_readsFraction : ac_B mX6_readsFraction := ⟨tt_in 674 rfl rfl, ti_X6, ⟨by decide, by decide, by decide⟩, by decide⟩
abbrev mX6_isNumber : AM := (yX6_isNumber, cX6_isNumber, 3, (some .boolean), 2)
set_option maxRecDepth 20000 in
theorem kb_X6_isNumber : ac_B mX6_isNumber := ⟨tt_in 678 rfl rfl, ti_X6, ⟨by decide, by decide, by decide⟩, by decide⟩
abbrev mX6_readsEnd : AM := (yX6_readsEnd, cX6_readsEnd, 2, (some .boolean), 0)
set_option maxRecDepth 20000 in
theorem kb_X6_readsEnd : ac_B mX6_readsEnd := ⟨tt_in 682 rfl rfl, ti_X6, ⟨by decide, by decide, by decide⟩, by decide⟩
abbrev mX6_readsSum : AM := (yX6_readsSum, cX6_readsSum, 1, (some .boolean), 0)
set_option maxRecDepth 20000 in
theorem kb_X6_readsSum : ac_B mX6_readsSum := ⟨tt_in 686 rfl rfl, ti_X6, ⟨by decide, by decide, by decide⟩, by decide⟩
abbrev mX6_isWhole : AM := (yX6_isWhole, cX6_isWhole, 6, (some .boolean), 0)
set_option maxRecDepth 20000 in
theorem kb_X6_isWhole : ac_B mX6_isWhole := ⟨tt_in 690 rfl rfl, ti_X6, ⟨by decide, by decide, by decide⟩, by decide⟩
abbrev mX6_greedy : AM := (yX6_greedy, cX6_greedy, 4, (some .int), 2)
set_option maxRecDepth 20000 in
theorem kb_X6_greedy : ac_B mX6_greedy := ⟨tt_in 694 rfl rfl, ti_X6, ⟨by decide, by decide, by decide⟩, by decide⟩
abbrev mX6_least : AM := (yX6_least, cX6_least, 13, (some .int), 1)
set_option maxRecDepth 20000 in
theorem kb_X6_least : ac_B mX6_least := ⟨tt_in 698 rfl rfl, ti_X6, ⟨by decide, by decide, by decide⟩, by decide⟩
abbrev mX6_common : AM := (yX6_common, cX6_common, 10, (some .long), 2)
set_option maxRecDepth 20000 in
theorem kb_X6_common : ac_B mX6_common := ⟨tt_in 703 rfl rfl, ti_X6, ⟨by decide, by decide, by decide⟩, by decide⟩
abbrev mX6_sums : AM := (yX6_sums, cX6_sums, 3, (some .int), 2)
set_option maxRecDepth 20000 in
theorem kb_X6_sums : ac_B mX6_sums := ⟨tt_in 707 rfl rfl, ti_X6, ⟨by decide, by decide, by decide⟩, by decide⟩
abbrev mX6_goesThrough : AM := (yX6_goesThrough, cX6_goesThrough, 16, (some .int), 3)
set_option maxRecDepth 20000 in
theorem kb_X6_goesThrough : ac_B mX6_goesThrough := ⟨tt_in 713 rfl rfl, ti_X6, ⟨by decide, by decide, by decide⟩, by decide⟩
abbrev mX6_sum : AM := (yX6_sum, cX6_sum, 5, (some .int), 4)
set_option maxRecDepth 20000 in
theorem kb_X6_sum : ac_B mX6_sum := ⟨tt_in 717 rfl rfl, ti_X6, ⟨by decide, by decide, by decide⟩, by decide⟩
abbrev mX6_fewest : AM := (yX6_fewest, cX6_fewest, 2, (some .int), 1)
set_option maxRecDepth 20000 in
theorem kb_X6_fewest : ac_B mX6_fewest := ⟨tt_in 721 rfl rfl, ti_X6, ⟨by decide, by decide, by decide⟩, by decide⟩
abbrev mX6_few : AM := (yX6_few, cX6_few, 3, (some .int), 1)
set_option maxRecDepth 20000 in
theorem kb_X6_few : ac_B mX6_few := ⟨tt_in 725 rfl rfl, ti_X6, ⟨by decide, by decide, by decide⟩, by decide⟩
abbrev mX6_bound : AM := (yX6_bound, cX6_bound, 2, (some .int), 1)
set_option maxRecDepth 20000 in
theorem kb_X6_bound : ac_B mX6_bound := ⟨tt_in 729 rfl rfl, ti_X6, ⟨by decide, by decide, by decide⟩, by decide⟩
abbrev mX6_top : AM := (yX6_top, cX6_top, 2, (some .int), 1)
set_option maxRecDepth 20000 in
theorem kb_X6_top : ac_B mX6_top := ⟨tt_in 733 rfl rfl, ti_X6, ⟨by decide, by decide, by decide⟩, by decide⟩
abbrev mX6_makes : AM := (yX6_makes, cX6_makes, 4, (some .int), 1)
set_option maxRecDepth 20000 in
theorem kb_X6_makes : ac_B mX6_makes := ⟨tt_in 737 rfl rfl, ti_X6, ⟨by decide, by decide, by decide⟩, by decide⟩
abbrev mX6_firstOf : AM := (yX6_firstOf, cX6_firstOf, 4, (some .int), 2)
set_option maxRecDepth 20000 in
theorem kb_X6_firstOf : ac_B mX6_firstOf := ⟨tt_in 742 rfl rfl, ti_X6, ⟨by decide, by decide, by decide⟩, by decide⟩
abbrev mX6_byLeastTop : AM := (yX6_byLeastTop, cX6_byLeastTop, 5, (some .int), 0)
set_option maxRecDepth 20000 in
theorem kb_X6_byLeastTop : ac_B mX6_byLeastTop := ⟨tt_in 746 rfl rfl, ti_X6, ⟨by decide, by decide, by decide⟩, by decide⟩
abbrev mX6_minds : AM := (yX6_minds, cX6_minds, 2, none, 0)
set_option maxRecDepth 20000 in
theorem kb_X6_minds : ac_B mX6_minds := ⟨tt_in 750 rfl rfl, ti_X6, ⟨by decide, by decide, by decide⟩, by decide⟩
abbrev mX6_copy : AM := (yX6_copy, cX6_copy, 4, none, 2)
set_option maxRecDepth 20000 in
theorem kb_X6_copy : ac_B mX6_copy := ⟨tt_in 754 rfl rfl, ti_X6, ⟨by decide, by decide, by decide⟩, by decide⟩
abbrev mX6_splits : AM := (yX6_splits, cX6_splits, 6, (some .int), 2)
set_option maxRecDepth 20000 in
theorem kb_X6_splits : ac_B mX6_splits := ⟨tt_in 758 rfl rfl, ti_X6, ⟨by decide, by decide, by decide⟩, by decide⟩
abbrev mX6_maySplit : AM := (yX6_maySplit, cX6_maySplit, 7, (some .boolean), 2)
set_option maxRecDepth 20000 in
theorem kb_X6_maySplit : ac_B mX6_maySplit := ⟨tt_in 762 rfl rfl, ti_X6, ⟨by decide, by decide, by decide⟩, by decide⟩
abbrev mX6_part : AM := (yX6_part, cX6_part, 4, (some .long), 3)
set_option maxRecDepth 20000 in
theorem kb_X6_part : ac_B mX6_part := ⟨tt_in 765 rfl rfl, ti_X6, ⟨by decide, by decide, by decide⟩, by decide⟩
abbrev mX6_isTerm : AM := (yX6_isTerm, cX6_isTerm, 3, (some .boolean), 1)
set_option maxRecDepth 20000 in
theorem kb_X6_isTerm : ac_B mX6_isTerm := ⟨tt_in 771 rfl rfl, ti_X6, ⟨by decide, by decide, by decide⟩, by decide⟩
abbrev mX6_goes : AM := (yX6_goes, cX6_goes, 3, none, 1)
set_option maxRecDepth 20000 in
theorem kb_X6_goes : ac_B mX6_goes := ⟨tt_in 775 rfl rfl, ti_X6, ⟨by decide, by decide, by decide⟩, by decide⟩
abbrev mX6_comes : AM := (yX6_comes, cX6_comes, 3, none, 1)
set_option maxRecDepth 20000 in
theorem kb_X6_comes : ac_B mX6_comes := ⟨tt_in 779 rfl rfl, ti_X6, ⟨by decide, by decide, by decide⟩, by decide⟩
abbrev mX6_joins : AM := (yX6_joins, cX6_joins, 8, (some .int), 2)
set_option maxRecDepth 20000 in
theorem kb_X6_joins : ac_B mX6_joins := ⟨tt_in 783 rfl rfl, ti_X6, ⟨by decide, by decide, by decide⟩, by decide⟩
abbrev mX6_undo : AM := (yX6_undo, cX6_undo, 1, (some .int), 0)
set_option maxRecDepth 20000 in
theorem kb_X6_undo : ac_B mX6_undo := ⟨tt_in 787 rfl rfl, ti_X6, ⟨by decide, by decide, by decide⟩, by decide⟩
abbrev mX6_term : AM := (yX6_term, cX6_term, 2, (some .int), 1)
set_option maxRecDepth 20000 in
theorem kb_X6_term : ac_B mX6_term := ⟨tt_in 791 rfl rfl, ti_X6, ⟨by decide, by decide, by decide⟩, by decide⟩
abbrev mX6_holds : AM := (yX6_holds, cX6_holds, 4, (some .int), 3)
set_option maxRecDepth 20000 in
theorem kb_X6_holds : ac_B mX6_holds := ⟨tt_in 795 rfl rfl, ti_X6, ⟨by decide, by decide, by decide⟩, by decide⟩
abbrev mX6_held : AM := (yX6_held, cX6_held, 4, (some .int), 2)
set_option maxRecDepth 20000 in
theorem kb_X6_held : ac_B mX6_held := ⟨tt_in 800 rfl rfl, ti_X6, ⟨by decide, by decide, by decide⟩, by decide⟩
abbrev mX6_isHeld : AM := (yX6_isHeld, cX6_isHeld, 3, (some .boolean), 3)
set_option maxRecDepth 20000 in
theorem kb_X6_isHeld : ac_B mX6_isHeld := ⟨tt_in 803 rfl rfl, ti_X6, ⟨by decide, by decide, by decide⟩, by decide⟩
abbrev mX6_covered : AM := (yX6_covered, cX6_covered, 8, (some .int), 3)
set_option maxRecDepth 20000 in
theorem kb_X6_covered : ac_B mX6_covered := ⟨tt_in 807 rfl rfl, ti_X6, ⟨by decide, by decide, by decide⟩, by decide⟩
abbrev mX6_open : AM := (yX6_open, cX6_open, 4, (some .int), 2)
set_option maxRecDepth 20000 in
theorem kb_X6_open : ac_B mX6_open := ⟨tt_in 813 rfl rfl, ti_X6, ⟨by decide, by decide, by decide⟩, by decide⟩
abbrev mX6_sees : AM := (yX6_sees, cX6_sees, 4, (some .int), 3)
set_option maxRecDepth 20000 in
theorem kb_X6_sees : ac_B mX6_sees := ⟨tt_in 817 rfl rfl, ti_X6, ⟨by decide, by decide, by decide⟩, by decide⟩
abbrev mX6_forget : AM := (yX6_forget, cX6_forget, 2, (some .int), 0)
set_option maxRecDepth 20000 in
theorem kb_X6_forget : ac_B mX6_forget := ⟨tt_in 821 rfl rfl, ti_X6, ⟨by decide, by decide, by decide⟩, by decide⟩
abbrev mX6_unseen : AM := (yX6_unseen, cX6_unseen, 4, (some .int), 0)
set_option maxRecDepth 20000 in
theorem kb_X6_unseen : ac_B mX6_unseen := ⟨tt_in 825 rfl rfl, ti_X6, ⟨by decide, by decide, by decide⟩, by decide⟩
abbrev mX6_ask : AM := (yX6_ask, cX6_ask, 9, (some .int), 1)
set_option maxRecDepth 20000 in
theorem kb_X6_ask : ac_B mX6_ask := ⟨tt_in 829 rfl rfl, ti_X6, ⟨by decide, by decide, by decide⟩, by decide⟩
abbrev mX6_ones : AM := (yX6_ones, cX6_ones, 3, (some .int), 1)
set_option maxRecDepth 20000 in
theorem kb_X6_ones : ac_B mX6_ones := ⟨tt_in 833 rfl rfl, ti_X6, ⟨by decide, by decide, by decide⟩, by decide⟩
abbrev mX6_keep : AM := (yX6_keep, cX6_keep, 2, (some .int), 1)
set_option maxRecDepth 20000 in
theorem kb_X6_keep : ac_B mX6_keep := ⟨tt_in 837 rfl rfl, ti_X6, ⟨by decide, by decide, by decide⟩, by decide⟩
abbrev mX6_back : AM := (yX6_back, cX6_back, 2, (some .int), 1)
set_option maxRecDepth 20000 in
theorem kb_X6_back : ac_B mX6_back := ⟨tt_in 841 rfl rfl, ti_X6, ⟨by decide, by decide, by decide⟩, by decide⟩
abbrev mX6_count : AM := (yX6_count, cX6_count, 2, (some .int), 1)
set_option maxRecDepth 20000 in
theorem kb_X6_count : ac_B mX6_count := ⟨tt_in 845 rfl rfl, ti_X6, ⟨by decide, by decide, by decide⟩, by decide⟩
set_option maxRecDepth 20000 in
theorem kd_Lib_Math_max_name : Cond.code Lib.Math.max.name Lib.Math.max.code 2 (some .int) ∈ TT := tt_in 432 rfl rfl
theorem ks_Lib_Math_max_name : Cond.static Lib.Math.max.name ∈ TT := tt_in 431 (by decide +kernel) (by decide +kernel)
set_option maxRecDepth 20000 in
theorem kd_Lib_Math_min_name : Cond.code Lib.Math.min.name Lib.Math.min.code 2 (some .int) ∈ TT := tt_in 240 rfl rfl
theorem ks_Lib_Math_min_name : Cond.static Lib.Math.min.name ∈ TT := tt_in 239 (by decide +kernel) (by decide +kernel)
set_option maxRecDepth 20000 in
theorem kd_Lib_MathLoose_max_long_x : Cond.code Lib.MathLoose.max_long.x Lib.MathLoose.max_long.code 4 (some .long) ∈ TT := tt_in 338 rfl rfl
theorem ks_Lib_MathLoose_max_long_x : Cond.static Lib.MathLoose.max_long.x ∈ TT := tt_in 337 (by decide +kernel) (by decide +kernel)
set_option maxRecDepth 20000 in
theorem kd_obj : Cond.code objectInit ⟨#[0xb1]⟩ 1 none ∈ TT := tt_in 52 rfl rfl
theorem ks_obj : Cond.instanceMethod objectInit ∈ TT := tt_in 51 (by decide +kernel) (by decide +kernel)
theorem ks_cpn : Cond.native arraycopyName ∈ TT := tt_in 311 (by decide +kernel) (by decide +kernel)
theorem ks_cps : Cond.static arraycopyName ∈ TT := tt_in 310 (by decide +kernel) (by decide +kernel)
theorem kc_L_9 : ac_I RL 9 mX5_init := ⟨kb_X5_init, tt_in 47 (by decide +kernel) (by decide +kernel), tt_in 48 (by decide +kernel) (by decide +kernel), rfl, rfl⟩
theorem kc_X5_1 : Cond.methodLink RX5 1 objectInit ∈ TT := tt_in 50 (by decide +kernel) (by decide +kernel)
theorem kc_X5_18 : ac_J RX5 18 mX2_init := ⟨kb_X2_init, ⟨RX5, by simp [am_nest]⟩, tt_in 56 (by decide +kernel) (by decide +kernel), rfl, rfl⟩
theorem kc_X2_3 : Cond.methodLink RX2 3 objectInit ∈ TT := tt_in 58 (by decide +kernel) (by decide +kernel)
theorem kc_X5_28 : ac_J RX5 28 mX3_init := ⟨kb_X3_init, ⟨RX5, by simp [am_nest]⟩, tt_in 70 (by decide +kernel) (by decide +kernel), rfl, rfl⟩
theorem kc_X3_3 : Cond.methodLink RX3 3 objectInit ∈ TT := tt_in 72 (by decide +kernel) (by decide +kernel)
theorem kc_X3_39 : ac_J RX3 39 mX2_init := ⟨kb_X2_init, ⟨RX5, by simp [am_nest]⟩, tt_in 56 (by decide +kernel) (by decide +kernel), rfl, rfl⟩
theorem kc_X5_35 : ac_I RX5 35 mX1_init := ⟨kb_X1_init, tt_in 106 (by decide +kernel) (by decide +kernel), tt_in 107 (by decide +kernel) (by decide +kernel), rfl, rfl⟩
theorem kc_X1_3 : Cond.methodLink RX1 3 objectInit ∈ TT := tt_in 109 (by decide +kernel) (by decide +kernel)
theorem kc_X1_21 : ac_J RX1 21 mX2_init := ⟨kb_X2_init, ⟨RX5, by simp [am_nest]⟩, tt_in 56 (by decide +kernel) (by decide +kernel), rfl, rfl⟩
theorem kc_X5_50 : ac_J RX5 50 mX0_init := ⟨kb_X0_init, ⟨RX5, by simp [am_nest]⟩, tt_in 123 (by decide +kernel) (by decide +kernel), rfl, rfl⟩
theorem kc_X0_3 : Cond.methodLink RX0 3 objectInit ∈ TT := tt_in 125 (by decide +kernel) (by decide +kernel)
theorem kc_X5_57 : ac_J RX5 57 mX4_init := ⟨kb_X4_init, ⟨RX5, by simp [am_nest]⟩, tt_in 148 (by decide +kernel) (by decide +kernel), rfl, rfl⟩
theorem kc_X4_3 : Cond.methodLink RX4 3 objectInit ∈ TT := tt_in 150 (by decide +kernel) (by decide +kernel)
theorem kc_L_13 : ac_V RL 13 mX5_type := ⟨kb_X5_type, tt_in 195 (by decide +kernel) (by decide +kernel), tt_in 196 (by decide +kernel) (by decide +kernel), tt_in 197 (by decide +kernel) (by decide +kernel)⟩
theorem kc_X5_62 : ac_V RX5 62 mX3_append := ⟨kb_X3_append, tt_in 199 (by decide +kernel) (by decide +kernel), tt_in 200 (by decide +kernel) (by decide +kernel), tt_in 201 (by decide +kernel) (by decide +kernel)⟩
theorem kc_X5_66 : ac_V RX5 66 mX3_length := ⟨kb_X3_length, tt_in 203 (by decide +kernel) (by decide +kernel), tt_in 204 (by decide +kernel) (by decide +kernel), tt_in 205 (by decide +kernel) (by decide +kernel)⟩
theorem kc_L_18 : ac_V RL 18 mX5_clear := ⟨kb_X5_clear, tt_in 207 (by decide +kernel) (by decide +kernel), tt_in 208 (by decide +kernel) (by decide +kernel), tt_in 209 (by decide +kernel) (by decide +kernel)⟩
theorem kc_X5_70 : ac_V RX5 70 mX3_wipe := ⟨kb_X3_wipe, tt_in 211 (by decide +kernel) (by decide +kernel), tt_in 212 (by decide +kernel) (by decide +kernel), tt_in 213 (by decide +kernel) (by decide +kernel)⟩
theorem kc_L_23 : ac_V RL 23 mX5_fraction := ⟨kb_X5_fraction, tt_in 215 (by decide +kernel) (by decide +kernel), tt_in 216 (by decide +kernel) (by decide +kernel), tt_in 217 (by decide +kernel) (by decide +kernel)⟩
theorem kc_X5_73 : ac_V RX5 73 mX3_read := ⟨kb_X3_read, tt_in 219 (by decide +kernel) (by decide +kernel), tt_in 220 (by decide +kernel) (by decide +kernel), tt_in 221 (by decide +kernel) (by decide +kernel)⟩
theorem kc_X3_44 : ac_V RX3 44 mX2_wipe := ⟨kb_X2_wipe, tt_in 223 (by decide +kernel) (by decide +kernel), tt_in 224 (by decide +kernel) (by decide +kernel), tt_in 225 (by decide +kernel) (by decide +kernel)⟩
theorem kc_X3_47 : ac_V RX3 47 mX3_readToken := ⟨kb_X3_readToken, tt_in 227 (by decide +kernel) (by decide +kernel), tt_in 229 (by decide +kernel) (by decide +kernel), tt_in 0 (by decide +kernel) (by decide +kernel)⟩
theorem kc_X3_84 : ac_S RX3 84 mX3_isFigure := ⟨kb_X3_isFigure, tt_in 231 (by decide +kernel) (by decide +kernel), tt_in 232 (by decide +kernel) (by decide +kernel)⟩
theorem kc_X3_88 : ac_V RX3 88 mX3_readNumber := ⟨kb_X3_readNumber, tt_in 234 (by decide +kernel) (by decide +kernel), tt_in 236 (by decide +kernel) (by decide +kernel), tt_in 1 (by decide +kernel) (by decide +kernel)⟩
theorem kc_X3_95 : Cond.methodLink RX3 95 Lib.Math.min.name ∈ TT := tt_in 238 (by decide +kernel) (by decide +kernel)
theorem kc_X3_91 : ac_S RX3 91 mX3_kindOf := ⟨kb_X3_kindOf, tt_in 241 (by decide +kernel) (by decide +kernel), tt_in 242 (by decide +kernel) (by decide +kernel)⟩
theorem kc_X3_50 : ac_V RX3 50 mX3_follow := ⟨kb_X3_follow, tt_in 244 (by decide +kernel) (by decide +kernel), tt_in 246 (by decide +kernel) (by decide +kernel), tt_in 2 (by decide +kernel) (by decide +kernel)⟩
theorem kc_X3_54 : ac_V RX3 54 mX3_takeAbove := ⟨kb_X3_takeAbove, tt_in 248 (by decide +kernel) (by decide +kernel), tt_in 250 (by decide +kernel) (by decide +kernel), tt_in 3 (by decide +kernel) (by decide +kernel)⟩
theorem kc_X3_67 : ac_V RX3 67 mX3_isNumberTo := ⟨kb_X3_isNumberTo, tt_in 252 (by decide +kernel) (by decide +kernel), tt_in 254 (by decide +kernel) (by decide +kernel), tt_in 4 (by decide +kernel) (by decide +kernel)⟩
theorem kc_X3_58 : ac_V RX3 58 mX3_takeBelow := ⟨kb_X3_takeBelow, tt_in 256 (by decide +kernel) (by decide +kernel), tt_in 258 (by decide +kernel) (by decide +kernel), tt_in 5 (by decide +kernel) (by decide +kernel)⟩
theorem kc_X3_61 : ac_V RX3 61 mX3_takeTerm := ⟨kb_X3_takeTerm, tt_in 260 (by decide +kernel) (by decide +kernel), tt_in 262 (by decide +kernel) (by decide +kernel), tt_in 6 (by decide +kernel) (by decide +kernel)⟩
theorem kc_X3_71 : ac_V RX3 71 mX2_length := ⟨kb_X2_length, tt_in 264 (by decide +kernel) (by decide +kernel), tt_in 265 (by decide +kernel) (by decide +kernel), tt_in 266 (by decide +kernel) (by decide +kernel)⟩
theorem kc_X3_73 : ac_V RX3 73 mX2_at := ⟨kb_X2_at, tt_in 268 (by decide +kernel) (by decide +kernel), tt_in 269 (by decide +kernel) (by decide +kernel), tt_in 270 (by decide +kernel) (by decide +kernel)⟩
theorem kc_X2_19 : ac_V RX2 19 mX2_reaches := ⟨kb_X2_reaches, tt_in 272 (by decide +kernel) (by decide +kernel), tt_in 273 (by decide +kernel) (by decide +kernel), tt_in 274 (by decide +kernel) (by decide +kernel)⟩
theorem kc_X3_76 : ac_V RX3 76 mX2_insert := ⟨kb_X2_insert, tt_in 276 (by decide +kernel) (by decide +kernel), tt_in 277 (by decide +kernel) (by decide +kernel), tt_in 278 (by decide +kernel) (by decide +kernel)⟩
theorem kc_X3_64 : ac_V RX3 64 mX3_endSum := ⟨kb_X3_endSum, tt_in 281 (by decide +kernel) (by decide +kernel), tt_in 283 (by decide +kernel) (by decide +kernel), tt_in 7 (by decide +kernel) (by decide +kernel)⟩
theorem kc_X3_80 : ac_V RX3 80 mX2_adds := ⟨kb_X2_adds, tt_in 285 (by decide +kernel) (by decide +kernel), tt_in 286 (by decide +kernel) (by decide +kernel), tt_in 287 (by decide +kernel) (by decide +kernel)⟩
theorem kc_X5_76 : ac_V RX5 76 mX5_startAnew := ⟨kb_X5_startAnew, tt_in 289 (by decide +kernel) (by decide +kernel), tt_in 291 (by decide +kernel) (by decide +kernel), tt_in 8 (by decide +kernel) (by decide +kernel)⟩
theorem kc_X5_180 : ac_V RX5 180 mX3_toldP := ⟨kb_X3_toldP, tt_in 293 (by decide +kernel) (by decide +kernel), tt_in 294 (by decide +kernel) (by decide +kernel), tt_in 295 (by decide +kernel) (by decide +kernel)⟩
theorem kc_X5_183 : ac_V RX5 183 mX3_toldQ := ⟨kb_X3_toldQ, tt_in 297 (by decide +kernel) (by decide +kernel), tt_in 298 (by decide +kernel) (by decide +kernel), tt_in 299 (by decide +kernel) (by decide +kernel)⟩
theorem kc_X5_186 : ac_V RX5 186 mX3_toldTerms := ⟨kb_X3_toldTerms, tt_in 301 (by decide +kernel) (by decide +kernel), tt_in 302 (by decide +kernel) (by decide +kernel), tt_in 303 (by decide +kernel) (by decide +kernel)⟩
theorem kc_X5_88 : ac_V RX5 88 mX2_copy := ⟨kb_X2_copy, tt_in 305 (by decide +kernel) (by decide +kernel), tt_in 306 (by decide +kernel) (by decide +kernel), tt_in 307 (by decide +kernel) (by decide +kernel)⟩
theorem kc_X2_23 : Cond.methodLink RX2 23 arraycopyName ∈ TT := tt_in 309 (by decide +kernel) (by decide +kernel)
theorem kc_X5_179 : ac_V RX5 179 mX1_wipe := ⟨kb_X1_wipe, tt_in 312 (by decide +kernel) (by decide +kernel), tt_in 313 (by decide +kernel) (by decide +kernel), tt_in 314 (by decide +kernel) (by decide +kernel)⟩
theorem kc_X5_172 : ac_V RX5 172 mX4_wipe := ⟨kb_X4_wipe, tt_in 316 (by decide +kernel) (by decide +kernel), tt_in 317 (by decide +kernel) (by decide +kernel), tt_in 318 (by decide +kernel) (by decide +kernel)⟩
theorem kc_X5_190 : ac_V RX5 190 mX0_turnTo := ⟨kb_X0_turnTo, tt_in 320 (by decide +kernel) (by decide +kernel), tt_in 321 (by decide +kernel) (by decide +kernel), tt_in 322 (by decide +kernel) (by decide +kernel)⟩
theorem kc_L_27 : ac_V RL 27 mX5_makes := ⟨kb_X5_makes, tt_in 324 (by decide +kernel) (by decide +kernel), tt_in 325 (by decide +kernel) (by decide +kernel), tt_in 326 (by decide +kernel) (by decide +kernel)⟩
theorem kc_X5_79 : ac_V RX5 79 mX5_draftBy := ⟨kb_X5_draftBy, tt_in 328 (by decide +kernel) (by decide +kernel), tt_in 330 (by decide +kernel) (by decide +kernel), tt_in 9 (by decide +kernel) (by decide +kernel)⟩
theorem kc_X5_126 : ac_S RX5 126 mX5_takeGreedily := ⟨kb_X5_takeGreedily, tt_in 332 (by decide +kernel) (by decide +kernel), tt_in 333 (by decide +kernel) (by decide +kernel)⟩
theorem kc_X5_212 : ac_V RX5 212 mX2_wipe := ⟨kb_X2_wipe, tt_in 335 (by decide +kernel) (by decide +kernel), tt_in 224 (by decide +kernel) (by decide +kernel), tt_in 225 (by decide +kernel) (by decide +kernel)⟩
theorem kc_X5_213 : Cond.methodLink RX5 213 Lib.MathLoose.max_long.x ∈ TT := tt_in 336 (by decide +kernel) (by decide +kernel)
theorem kc_X5_117 : ac_V RX5 117 mX2_insert := ⟨kb_X2_insert, tt_in 340 (by decide +kernel) (by decide +kernel), tt_in 277 (by decide +kernel) (by decide +kernel), tt_in 278 (by decide +kernel) (by decide +kernel)⟩
theorem kc_X5_216 : ac_S RX5 216 mX5_commonDivisor := ⟨kb_X5_commonDivisor, tt_in 341 (by decide +kernel) (by decide +kernel), tt_in 342 (by decide +kernel) (by decide +kernel)⟩
theorem kc_X5_144 : ac_V RX5 144 mX0_leastLength := ⟨kb_X0_leastLength, tt_in 344 (by decide +kernel) (by decide +kernel), tt_in 345 (by decide +kernel) (by decide +kernel), tt_in 346 (by decide +kernel) (by decide +kernel)⟩
theorem kc_X0_45 : ac_V RX0 45 mX0_howMany := ⟨kb_X0_howMany, tt_in 348 (by decide +kernel) (by decide +kernel), tt_in 349 (by decide +kernel) (by decide +kernel), tt_in 350 (by decide +kernel) (by decide +kernel)⟩
theorem kc_X0_31 : ac_V RX0 31 mX0_seek := ⟨kb_X0_seek, tt_in 352 (by decide +kernel) (by decide +kernel), tt_in 354 (by decide +kernel) (by decide +kernel), tt_in 10 (by decide +kernel) (by decide +kernel)⟩
theorem kc_X0_61 : ac_T RX0 61 mX5_isLength := ⟨kb_X5_isLength, ⟨RX5, by simp [am_nest]⟩, tt_in 357 (by decide +kernel) (by decide +kernel)⟩
theorem kc_X0_65 : ac_S RX0 65 mX0_extend := ⟨kb_X0_extend, tt_in 359 (by decide +kernel) (by decide +kernel), tt_in 360 (by decide +kernel) (by decide +kernel)⟩
theorem kc_X0_35 : ac_S RX0 35 mX0_greatest := ⟨kb_X0_greatest, tt_in 362 (by decide +kernel) (by decide +kernel), tt_in 363 (by decide +kernel) (by decide +kernel)⟩
theorem kc_X0_69 : ac_V RX0 69 mX0_end := ⟨kb_X0_end, tt_in 365 (by decide +kernel) (by decide +kernel), tt_in 367 (by decide +kernel) (by decide +kernel), tt_in 11 (by decide +kernel) (by decide +kernel)⟩
theorem kc_X0_73 : Cond.methodLink RX0 73 Lib.MathLoose.max_long.x ∈ TT := tt_in 370 (by decide +kernel) (by decide +kernel)
theorem kc_X5_197 : ac_V RX5 197 mX0_copyFirst := ⟨kb_X0_copyFirst, tt_in 371 (by decide +kernel) (by decide +kernel), tt_in 372 (by decide +kernel) (by decide +kernel), tt_in 373 (by decide +kernel) (by decide +kernel)⟩
theorem kc_X0_38 : ac_V RX0 38 mX0_pick := ⟨kb_X0_pick, tt_in 375 (by decide +kernel) (by decide +kernel), tt_in 377 (by decide +kernel) (by decide +kernel), tt_in 12 (by decide +kernel) (by decide +kernel)⟩
theorem kc_X0_52 : ac_V RX0 52 mX2_wipe := ⟨kb_X2_wipe, tt_in 379 (by decide +kernel) (by decide +kernel), tt_in 224 (by decide +kernel) (by decide +kernel), tt_in 225 (by decide +kernel) (by decide +kernel)⟩
theorem kc_X0_42 : ac_S RX0 42 mX0_unpack := ⟨kb_X0_unpack, tt_in 380 (by decide +kernel) (by decide +kernel), tt_in 381 (by decide +kernel) (by decide +kernel)⟩
theorem kc_X0_57 : ac_V RX0 57 mX2_insert := ⟨kb_X2_insert, tt_in 383 (by decide +kernel) (by decide +kernel), tt_in 277 (by decide +kernel) (by decide +kernel), tt_in 278 (by decide +kernel) (by decide +kernel)⟩
theorem kc_X5_201 : ac_V RX5 201 mX0_lengthOfLeastBound := ⟨kb_X0_lengthOfLeastBound, tt_in 384 (by decide +kernel) (by decide +kernel), tt_in 385 (by decide +kernel) (by decide +kernel), tt_in 386 (by decide +kernel) (by decide +kernel)⟩
theorem kc_X0_49 : ac_V RX0 49 mX0_leastBound := ⟨kb_X0_leastBound, tt_in 388 (by decide +kernel) (by decide +kernel), tt_in 389 (by decide +kernel) (by decide +kernel), tt_in 390 (by decide +kernel) (by decide +kernel)⟩
theorem kc_X5_147 : ac_V RX5 147 mX0_leastBound := ⟨kb_X0_leastBound, tt_in 392 (by decide +kernel) (by decide +kernel), tt_in 389 (by decide +kernel) (by decide +kernel), tt_in 390 (by decide +kernel) (by decide +kernel)⟩
theorem kc_X5_82 : ac_V RX5 82 mX5_takeDraft := ⟨kb_X5_takeDraft, tt_in 393 (by decide +kernel) (by decide +kernel), tt_in 395 (by decide +kernel) (by decide +kernel), tt_in 13 (by decide +kernel) (by decide +kernel)⟩
theorem kc_X5_194 : ac_V RX5 194 mX1_store := ⟨kb_X1_store, tt_in 397 (by decide +kernel) (by decide +kernel), tt_in 398 (by decide +kernel) (by decide +kernel), tt_in 399 (by decide +kernel) (by decide +kernel)⟩
theorem kc_X1_22 : ac_V RX1 22 mX1_loseOldest := ⟨kb_X1_loseOldest, tt_in 401 (by decide +kernel) (by decide +kernel), tt_in 403 (by decide +kernel) (by decide +kernel), tt_in 14 (by decide +kernel) (by decide +kernel)⟩
theorem kc_X1_25 : ac_V RX1 25 mX2_copy := ⟨kb_X2_copy, tt_in 405 (by decide +kernel) (by decide +kernel), tt_in 306 (by decide +kernel) (by decide +kernel), tt_in 307 (by decide +kernel) (by decide +kernel)⟩
theorem kc_X5_130 : ac_V RX5 130 mX2_length := ⟨kb_X2_length, tt_in 406 (by decide +kernel) (by decide +kernel), tt_in 265 (by decide +kernel) (by decide +kernel), tt_in 266 (by decide +kernel) (by decide +kernel)⟩
theorem kc_L_31 : ac_V RL 31 mX5_splits := ⟨kb_X5_splits, tt_in 407 (by decide +kernel) (by decide +kernel), tt_in 408 (by decide +kernel) (by decide +kernel), tt_in 409 (by decide +kernel) (by decide +kernel)⟩
theorem kc_X5_85 : ac_V RX5 85 mX2_reaches := ⟨kb_X2_reaches, tt_in 411 (by decide +kernel) (by decide +kernel), tt_in 273 (by decide +kernel) (by decide +kernel), tt_in 274 (by decide +kernel) (by decide +kernel)⟩
theorem kc_X5_92 : ac_V RX5 92 mX2_drop := ⟨kb_X2_drop, tt_in 412 (by decide +kernel) (by decide +kernel), tt_in 413 (by decide +kernel) (by decide +kernel), tt_in 414 (by decide +kernel) (by decide +kernel)⟩
theorem kc_X5_96 : ac_V RX5 96 mX2_at := ⟨kb_X2_at, tt_in 416 (by decide +kernel) (by decide +kernel), tt_in 269 (by decide +kernel) (by decide +kernel), tt_in 270 (by decide +kernel) (by decide +kernel)⟩
theorem kc_X5_100 : ac_S RX5 100 mX5_splitInto := ⟨kb_X5_splitInto, tt_in 417 (by decide +kernel) (by decide +kernel), tt_in 418 (by decide +kernel) (by decide +kernel)⟩
theorem kc_L_36 : ac_V RL 36 mX5_joins := ⟨kb_X5_joins, tt_in 423 (by decide +kernel) (by decide +kernel), tt_in 424 (by decide +kernel) (by decide +kernel), tt_in 425 (by decide +kernel) (by decide +kernel)⟩
theorem kc_X5_104 : ac_S RX5 104 mX5_oneForTwo := ⟨kb_X5_oneForTwo, tt_in 427 (by decide +kernel) (by decide +kernel), tt_in 428 (by decide +kernel) (by decide +kernel)⟩
theorem kc_X5_108 : Cond.methodLink RX5 108 Lib.Math.max.name ∈ TT := tt_in 430 (by decide +kernel) (by decide +kernel)
theorem kc_X5_114 : Cond.methodLink RX5 114 Lib.Math.min.name ∈ TT := tt_in 433 (by decide +kernel) (by decide +kernel)
theorem kc_L_40 : ac_V RL 40 mX5_undo := ⟨kb_X5_undo, tt_in 434 (by decide +kernel) (by decide +kernel), tt_in 435 (by decide +kernel) (by decide +kernel), tt_in 436 (by decide +kernel) (by decide +kernel)⟩
theorem kc_X5_121 : ac_V RX5 121 mX1_restore := ⟨kb_X1_restore, tt_in 438 (by decide +kernel) (by decide +kernel), tt_in 439 (by decide +kernel) (by decide +kernel), tt_in 440 (by decide +kernel) (by decide +kernel)⟩
theorem kc_X5_125 : ac_V RX5 125 mX1_length := ⟨kb_X1_length, tt_in 442 (by decide +kernel) (by decide +kernel), tt_in 443 (by decide +kernel) (by decide +kernel), tt_in 444 (by decide +kernel) (by decide +kernel)⟩
theorem kc_L_44 : ac_V RL 44 mX5_term := ⟨kb_X5_term, tt_in 446 (by decide +kernel) (by decide +kernel), tt_in 447 (by decide +kernel) (by decide +kernel), tt_in 448 (by decide +kernel) (by decide +kernel)⟩
theorem kc_L_48 : ac_V RL 48 mX5_greedy := ⟨kb_X5_greedy, tt_in 450 (by decide +kernel) (by decide +kernel), tt_in 451 (by decide +kernel) (by decide +kernel), tt_in 452 (by decide +kernel) (by decide +kernel)⟩
theorem kc_L_52 : ac_V RL 52 mX5_sums := ⟨kb_X5_sums, tt_in 454 (by decide +kernel) (by decide +kernel), tt_in 455 (by decide +kernel) (by decide +kernel), tt_in 456 (by decide +kernel) (by decide +kernel)⟩
theorem kc_X5_131 : ac_S RX5 131 mX5_isLength := ⟨kb_X5_isLength, tt_in 458 (by decide +kernel) (by decide +kernel), tt_in 357 (by decide +kernel) (by decide +kernel)⟩
theorem kc_X5_134 : ac_S RX5 134 mX5_isBound := ⟨kb_X5_isBound, tt_in 459 (by decide +kernel) (by decide +kernel), tt_in 460 (by decide +kernel) (by decide +kernel)⟩
theorem kc_X5_137 : ac_V RX5 137 mX0_howMany := ⟨kb_X0_howMany, tt_in 462 (by decide +kernel) (by decide +kernel), tt_in 349 (by decide +kernel) (by decide +kernel), tt_in 350 (by decide +kernel) (by decide +kernel)⟩
theorem kc_L_56 : ac_V RL 56 mX5_sum := ⟨kb_X5_sum, tt_in 463 (by decide +kernel) (by decide +kernel), tt_in 464 (by decide +kernel) (by decide +kernel), tt_in 465 (by decide +kernel) (by decide +kernel)⟩
theorem kc_X5_140 : ac_V RX5 140 mX0_numberOf := ⟨kb_X0_numberOf, tt_in 467 (by decide +kernel) (by decide +kernel), tt_in 468 (by decide +kernel) (by decide +kernel), tt_in 469 (by decide +kernel) (by decide +kernel)⟩
theorem kc_L_61 : ac_V RL 61 mX5_fewest := ⟨kb_X5_fewest, tt_in 471 (by decide +kernel) (by decide +kernel), tt_in 472 (by decide +kernel) (by decide +kernel), tt_in 473 (by decide +kernel) (by decide +kernel)⟩
theorem kc_L_65 : ac_V RL 65 mX5_bound := ⟨kb_X5_bound, tt_in 475 (by decide +kernel) (by decide +kernel), tt_in 476 (by decide +kernel) (by decide +kernel), tt_in 477 (by decide +kernel) (by decide +kernel)⟩
theorem kc_L_69 : ac_V RL 69 mX5_holds := ⟨kb_X5_holds, tt_in 479 (by decide +kernel) (by decide +kernel), tt_in 480 (by decide +kernel) (by decide +kernel), tt_in 481 (by decide +kernel) (by decide +kernel)⟩
theorem kc_X5_150 : ac_S RX5 150 mX5_isNumerator := ⟨kb_X5_isNumerator, tt_in 483 (by decide +kernel) (by decide +kernel), tt_in 484 (by decide +kernel) (by decide +kernel)⟩
theorem kc_X5_153 : ac_S RX5 153 mX5_isSplit := ⟨kb_X5_isSplit, tt_in 486 (by decide +kernel) (by decide +kernel), tt_in 487 (by decide +kernel) (by decide +kernel)⟩
theorem kc_X5_219 : ac_S RX5 219 mX5_divides := ⟨kb_X5_divides, tt_in 489 (by decide +kernel) (by decide +kernel), tt_in 490 (by decide +kernel) (by decide +kernel)⟩
theorem kc_L_74 : ac_V RL 74 mX5_covered := ⟨kb_X5_covered, tt_in 492 (by decide +kernel) (by decide +kernel), tt_in 493 (by decide +kernel) (by decide +kernel), tt_in 494 (by decide +kernel) (by decide +kernel)⟩
theorem kc_X5_157 : ac_S RX5 157 mX5_isChoice := ⟨kb_X5_isChoice, tt_in 496 (by decide +kernel) (by decide +kernel), tt_in 497 (by decide +kernel) (by decide +kernel)⟩
theorem kc_X5_160 : ac_S RX5 160 mX5_isCovered := ⟨kb_X5_isCovered, tt_in 499 (by decide +kernel) (by decide +kernel), tt_in 500 (by decide +kernel) (by decide +kernel)⟩
theorem kc_X5_164 : ac_S RX5 164 mX5_splitters := ⟨kb_X5_splitters, tt_in 502 (by decide +kernel) (by decide +kernel), tt_in 503 (by decide +kernel) (by decide +kernel)⟩
theorem kc_L_78 : ac_V RL 78 mX5_open := ⟨kb_X5_open, tt_in 505 (by decide +kernel) (by decide +kernel), tt_in 506 (by decide +kernel) (by decide +kernel), tt_in 507 (by decide +kernel) (by decide +kernel)⟩
theorem kc_L_82 : ac_V RL 82 mX5_sees := ⟨kb_X5_sees, tt_in 509 (by decide +kernel) (by decide +kernel), tt_in 510 (by decide +kernel) (by decide +kernel), tt_in 511 (by decide +kernel) (by decide +kernel)⟩
theorem kc_X5_167 : ac_V RX5 167 mX4_add := ⟨kb_X4_add, tt_in 513 (by decide +kernel) (by decide +kernel), tt_in 514 (by decide +kernel) (by decide +kernel), tt_in 515 (by decide +kernel) (by decide +kernel)⟩
theorem kc_X5_171 : ac_V RX5 171 mX4_length := ⟨kb_X4_length, tt_in 517 (by decide +kernel) (by decide +kernel), tt_in 518 (by decide +kernel) (by decide +kernel), tt_in 519 (by decide +kernel) (by decide +kernel)⟩
theorem kc_L_86 : ac_V RL 86 mX5_forget := ⟨kb_X5_forget, tt_in 521 (by decide +kernel) (by decide +kernel), tt_in 522 (by decide +kernel) (by decide +kernel), tt_in 523 (by decide +kernel) (by decide +kernel)⟩
theorem kc_L_90 : ac_V RL 90 mX5_unseen := ⟨kb_X5_unseen, tt_in 525 (by decide +kernel) (by decide +kernel), tt_in 526 (by decide +kernel) (by decide +kernel), tt_in 527 (by decide +kernel) (by decide +kernel)⟩
theorem kc_X5_173 : ac_V RX5 173 mX4_suspects := ⟨kb_X4_suspects, tt_in 529 (by decide +kernel) (by decide +kernel), tt_in 530 (by decide +kernel) (by decide +kernel), tt_in 531 (by decide +kernel) (by decide +kernel)⟩
theorem kc_X4_26 : ac_T RX4 26 mX5_splitters := ⟨kb_X5_splitters, ⟨RX5, by simp [am_nest]⟩, tt_in 503 (by decide +kernel) (by decide +kernel)⟩
theorem kc_L_94 : ac_V RL 94 mX5_ask := ⟨kb_X5_ask, tt_in 534 (by decide +kernel) (by decide +kernel), tt_in 535 (by decide +kernel) (by decide +kernel), tt_in 536 (by decide +kernel) (by decide +kernel)⟩
theorem kc_X5_176 : ac_S RX5 176 mX5_bestQuestion := ⟨kb_X5_bestQuestion, tt_in 538 (by decide +kernel) (by decide +kernel), tt_in 539 (by decide +kernel) (by decide +kernel)⟩
theorem kc_X5_223 : ac_S RX5 223 mJ6_bitCount_0f7a4 := ⟨kb_J6_bitCount_0f7a4, tt_in 541 (by decide +kernel) (by decide +kernel), tt_in 542 (by decide +kernel) (by decide +kernel)⟩
theorem kc_L_98 : ac_V RL 98 mX5_keep := ⟨kb_X5_keep, tt_in 547 (by decide +kernel) (by decide +kernel), tt_in 548 (by decide +kernel) (by decide +kernel), tt_in 549 (by decide +kernel) (by decide +kernel)⟩
theorem kc_L_102 : ac_V RL 102 mX5_back := ⟨kb_X5_back, tt_in 551 (by decide +kernel) (by decide +kernel), tt_in 552 (by decide +kernel) (by decide +kernel), tt_in 553 (by decide +kernel) (by decide +kernel)⟩
theorem kc_L_106 : ac_V RL 106 mX5_count := ⟨kb_X5_count, tt_in 555 (by decide +kernel) (by decide +kernel), tt_in 556 (by decide +kernel) (by decide +kernel), tt_in 557 (by decide +kernel) (by decide +kernel)⟩
theorem kc_L_12 : ac_I RL 12 mX6_init := ⟨kb_X6_init, tt_in 561 (by decide +kernel) (by decide +kernel), tt_in 562 (by decide +kernel) (by decide +kernel), rfl, rfl⟩
theorem kc_X6_1 : Cond.methodLink RX6 1 objectInit ∈ TT := tt_in 564 (by decide +kernel) (by decide +kernel)
theorem kc_L_17 : ac_V RL 17 mX6_type := ⟨kb_X6_type, tt_in 642 (by decide +kernel) (by decide +kernel), tt_in 643 (by decide +kernel) (by decide +kernel), tt_in 644 (by decide +kernel) (by decide +kernel)⟩
theorem kc_X6_66 : ac_S RX6 66 mX6_in := ⟨kb_X6_in, tt_in 647 (by decide +kernel) (by decide +kernel), tt_in 648 (by decide +kernel) (by decide +kernel)⟩
theorem kc_L_22 : ac_V RL 22 mX6_clear := ⟨kb_X6_clear, tt_in 650 (by decide +kernel) (by decide +kernel), tt_in 651 (by decide +kernel) (by decide +kernel), tt_in 652 (by decide +kernel) (by decide +kernel)⟩
theorem kc_L_26 : ac_V RL 26 mX6_fraction := ⟨kb_X6_fraction, tt_in 654 (by decide +kernel) (by decide +kernel), tt_in 655 (by decide +kernel) (by decide +kernel), tt_in 656 (by decide +kernel) (by decide +kernel)⟩
theorem kc_X6_120 : ac_V RX6 120 mX6_reads := ⟨kb_X6_reads, tt_in 658 (by decide +kernel) (by decide +kernel), tt_in 660 (by decide +kernel) (by decide +kernel), tt_in 15 (by decide +kernel) (by decide +kernel)⟩
theorem kc_X6_86 : ac_V RX6 86 mX6_take := ⟨kb_X6_take, tt_in 662 (by decide +kernel) (by decide +kernel), tt_in 664 (by decide +kernel) (by decide +kernel), tt_in 16 (by decide +kernel) (by decide +kernel)⟩
theorem kc_X6_82 : ac_S RX6 82 mX6_isDigit := ⟨kb_X6_isDigit, tt_in 666 (by decide +kernel) (by decide +kernel), tt_in 667 (by decide +kernel) (by decide +kernel)⟩
theorem kc_X6_112 : ac_V RX6 112 mX6_readsFraction := ⟨kb_X6_readsFraction, tt_in 671 (by decide +kernel) (by decide +kernel), tt_in 673 (by decide +kernel) (by decide +kernel), tt_in 17 (by decide +kernel) (by decide +kernel)⟩
theorem kc_X6_92 : ac_V RX6 92 mX6_isNumber := ⟨kb_X6_isNumber, tt_in 675 (by decide +kernel) (by decide +kernel), tt_in 677 (by decide +kernel) (by decide +kernel), tt_in 18 (by decide +kernel) (by decide +kernel)⟩
theorem kc_X6_102 : ac_V RX6 102 mX6_readsEnd := ⟨kb_X6_readsEnd, tt_in 679 (by decide +kernel) (by decide +kernel), tt_in 681 (by decide +kernel) (by decide +kernel), tt_in 19 (by decide +kernel) (by decide +kernel)⟩
theorem kc_X6_115 : ac_V RX6 115 mX6_readsSum := ⟨kb_X6_readsSum, tt_in 683 (by decide +kernel) (by decide +kernel), tt_in 685 (by decide +kernel) (by decide +kernel), tt_in 20 (by decide +kernel) (by decide +kernel)⟩
theorem kc_X6_109 : ac_V RX6 109 mX6_isWhole := ⟨kb_X6_isWhole, tt_in 687 (by decide +kernel) (by decide +kernel), tt_in 689 (by decide +kernel) (by decide +kernel), tt_in 21 (by decide +kernel) (by decide +kernel)⟩
theorem kc_L_51 : ac_V RL 51 mX6_greedy := ⟨kb_X6_greedy, tt_in 691 (by decide +kernel) (by decide +kernel), tt_in 692 (by decide +kernel) (by decide +kernel), tt_in 693 (by decide +kernel) (by decide +kernel)⟩
theorem kc_X6_151 : ac_V RX6 151 mX6_least := ⟨kb_X6_least, tt_in 695 (by decide +kernel) (by decide +kernel), tt_in 697 (by decide +kernel) (by decide +kernel), tt_in 22 (by decide +kernel) (by decide +kernel)⟩
theorem kc_X6_130 : ac_S RX6 130 mX6_common := ⟨kb_X6_common, tt_in 701 (by decide +kernel) (by decide +kernel), tt_in 702 (by decide +kernel) (by decide +kernel)⟩
theorem kc_L_55 : ac_V RL 55 mX6_sums := ⟨kb_X6_sums, tt_in 704 (by decide +kernel) (by decide +kernel), tt_in 705 (by decide +kernel) (by decide +kernel), tt_in 706 (by decide +kernel) (by decide +kernel)⟩
theorem kc_X6_139 : ac_V RX6 139 mX6_goesThrough := ⟨kb_X6_goesThrough, tt_in 710 (by decide +kernel) (by decide +kernel), tt_in 712 (by decide +kernel) (by decide +kernel), tt_in 23 (by decide +kernel) (by decide +kernel)⟩
theorem kc_L_60 : ac_V RL 60 mX6_sum := ⟨kb_X6_sum, tt_in 714 (by decide +kernel) (by decide +kernel), tt_in 715 (by decide +kernel) (by decide +kernel), tt_in 716 (by decide +kernel) (by decide +kernel)⟩
theorem kc_L_64 : ac_V RL 64 mX6_fewest := ⟨kb_X6_fewest, tt_in 718 (by decide +kernel) (by decide +kernel), tt_in 719 (by decide +kernel) (by decide +kernel), tt_in 720 (by decide +kernel) (by decide +kernel)⟩
theorem kc_X6_156 : ac_V RX6 156 mX6_few := ⟨kb_X6_few, tt_in 722 (by decide +kernel) (by decide +kernel), tt_in 724 (by decide +kernel) (by decide +kernel), tt_in 24 (by decide +kernel) (by decide +kernel)⟩
theorem kc_L_68 : ac_V RL 68 mX6_bound := ⟨kb_X6_bound, tt_in 726 (by decide +kernel) (by decide +kernel), tt_in 727 (by decide +kernel) (by decide +kernel), tt_in 728 (by decide +kernel) (by decide +kernel)⟩
theorem kc_X6_143 : ac_V RX6 143 mX6_top := ⟨kb_X6_top, tt_in 730 (by decide +kernel) (by decide +kernel), tt_in 732 (by decide +kernel) (by decide +kernel), tt_in 25 (by decide +kernel) (by decide +kernel)⟩
theorem kc_L_30 : ac_V RL 30 mX6_makes := ⟨kb_X6_makes, tt_in 734 (by decide +kernel) (by decide +kernel), tt_in 735 (by decide +kernel) (by decide +kernel), tt_in 736 (by decide +kernel) (by decide +kernel)⟩
theorem kc_X6_147 : ac_V RX6 147 mX6_firstOf := ⟨kb_X6_firstOf, tt_in 739 (by decide +kernel) (by decide +kernel), tt_in 741 (by decide +kernel) (by decide +kernel), tt_in 26 (by decide +kernel) (by decide +kernel)⟩
theorem kc_X6_161 : ac_V RX6 161 mX6_byLeastTop := ⟨kb_X6_byLeastTop, tt_in 743 (by decide +kernel) (by decide +kernel), tt_in 745 (by decide +kernel) (by decide +kernel), tt_in 27 (by decide +kernel) (by decide +kernel)⟩
theorem kc_X6_165 : ac_V RX6 165 mX6_minds := ⟨kb_X6_minds, tt_in 747 (by decide +kernel) (by decide +kernel), tt_in 749 (by decide +kernel) (by decide +kernel), tt_in 28 (by decide +kernel) (by decide +kernel)⟩
theorem kc_X6_58 : ac_V RX6 58 mX6_copy := ⟨kb_X6_copy, tt_in 751 (by decide +kernel) (by decide +kernel), tt_in 753 (by decide +kernel) (by decide +kernel), tt_in 29 (by decide +kernel) (by decide +kernel)⟩
theorem kc_L_35 : ac_V RL 35 mX6_splits := ⟨kb_X6_splits, tt_in 755 (by decide +kernel) (by decide +kernel), tt_in 756 (by decide +kernel) (by decide +kernel), tt_in 757 (by decide +kernel) (by decide +kernel)⟩
theorem kc_X6_179 : ac_V RX6 179 mX6_maySplit := ⟨kb_X6_maySplit, tt_in 759 (by decide +kernel) (by decide +kernel), tt_in 761 (by decide +kernel) (by decide +kernel), tt_in 30 (by decide +kernel) (by decide +kernel)⟩
theorem kc_X6_172 : ac_S RX6 172 mX6_part := ⟨kb_X6_part, tt_in 763 (by decide +kernel) (by decide +kernel), tt_in 764 (by decide +kernel) (by decide +kernel)⟩
theorem kc_X6_176 : ac_V RX6 176 mX6_isTerm := ⟨kb_X6_isTerm, tt_in 768 (by decide +kernel) (by decide +kernel), tt_in 770 (by decide +kernel) (by decide +kernel), tt_in 31 (by decide +kernel) (by decide +kernel)⟩
theorem kc_X6_182 : ac_V RX6 182 mX6_goes := ⟨kb_X6_goes, tt_in 772 (by decide +kernel) (by decide +kernel), tt_in 774 (by decide +kernel) (by decide +kernel), tt_in 32 (by decide +kernel) (by decide +kernel)⟩
theorem kc_X6_186 : ac_V RX6 186 mX6_comes := ⟨kb_X6_comes, tt_in 776 (by decide +kernel) (by decide +kernel), tt_in 778 (by decide +kernel) (by decide +kernel), tt_in 33 (by decide +kernel) (by decide +kernel)⟩
theorem kc_L_39 : ac_V RL 39 mX6_joins := ⟨kb_X6_joins, tt_in 780 (by decide +kernel) (by decide +kernel), tt_in 781 (by decide +kernel) (by decide +kernel), tt_in 782 (by decide +kernel) (by decide +kernel)⟩
theorem kc_L_43 : ac_V RL 43 mX6_undo := ⟨kb_X6_undo, tt_in 784 (by decide +kernel) (by decide +kernel), tt_in 785 (by decide +kernel) (by decide +kernel), tt_in 786 (by decide +kernel) (by decide +kernel)⟩
theorem kc_L_47 : ac_V RL 47 mX6_term := ⟨kb_X6_term, tt_in 788 (by decide +kernel) (by decide +kernel), tt_in 789 (by decide +kernel) (by decide +kernel), tt_in 790 (by decide +kernel) (by decide +kernel)⟩
theorem kc_L_73 : ac_V RL 73 mX6_holds := ⟨kb_X6_holds, tt_in 792 (by decide +kernel) (by decide +kernel), tt_in 793 (by decide +kernel) (by decide +kernel), tt_in 794 (by decide +kernel) (by decide +kernel)⟩
theorem kc_X6_197 : ac_S RX6 197 mX6_held := ⟨kb_X6_held, tt_in 798 (by decide +kernel) (by decide +kernel), tt_in 799 (by decide +kernel) (by decide +kernel)⟩
theorem kc_X6_189 : ac_S RX6 189 mX6_isHeld := ⟨kb_X6_isHeld, tt_in 801 (by decide +kernel) (by decide +kernel), tt_in 802 (by decide +kernel) (by decide +kernel)⟩
theorem kc_L_77 : ac_V RL 77 mX6_covered := ⟨kb_X6_covered, tt_in 804 (by decide +kernel) (by decide +kernel), tt_in 805 (by decide +kernel) (by decide +kernel), tt_in 806 (by decide +kernel) (by decide +kernel)⟩
theorem kc_L_81 : ac_V RL 81 mX6_open := ⟨kb_X6_open, tt_in 810 (by decide +kernel) (by decide +kernel), tt_in 811 (by decide +kernel) (by decide +kernel), tt_in 812 (by decide +kernel) (by decide +kernel)⟩
theorem kc_L_85 : ac_V RL 85 mX6_sees := ⟨kb_X6_sees, tt_in 814 (by decide +kernel) (by decide +kernel), tt_in 815 (by decide +kernel) (by decide +kernel), tt_in 816 (by decide +kernel) (by decide +kernel)⟩
theorem kc_L_89 : ac_V RL 89 mX6_forget := ⟨kb_X6_forget, tt_in 818 (by decide +kernel) (by decide +kernel), tt_in 819 (by decide +kernel) (by decide +kernel), tt_in 820 (by decide +kernel) (by decide +kernel)⟩
theorem kc_L_93 : ac_V RL 93 mX6_unseen := ⟨kb_X6_unseen, tt_in 822 (by decide +kernel) (by decide +kernel), tt_in 823 (by decide +kernel) (by decide +kernel), tt_in 824 (by decide +kernel) (by decide +kernel)⟩
theorem kc_L_97 : ac_V RL 97 mX6_ask := ⟨kb_X6_ask, tt_in 826 (by decide +kernel) (by decide +kernel), tt_in 827 (by decide +kernel) (by decide +kernel), tt_in 828 (by decide +kernel) (by decide +kernel)⟩
theorem kc_X6_204 : ac_V RX6 204 mX6_unseen := ⟨kb_X6_unseen, tt_in 830 (by decide +kernel) (by decide +kernel), tt_in 823 (by decide +kernel) (by decide +kernel), tt_in 824 (by decide +kernel) (by decide +kernel)⟩
theorem kc_X6_207 : ac_S RX6 207 mX6_ones := ⟨kb_X6_ones, tt_in 831 (by decide +kernel) (by decide +kernel), tt_in 832 (by decide +kernel) (by decide +kernel)⟩
theorem kc_L_101 : ac_V RL 101 mX6_keep := ⟨kb_X6_keep, tt_in 834 (by decide +kernel) (by decide +kernel), tt_in 835 (by decide +kernel) (by decide +kernel), tt_in 836 (by decide +kernel) (by decide +kernel)⟩
theorem kc_L_105 : ac_V RL 105 mX6_back := ⟨kb_X6_back, tt_in 838 (by decide +kernel) (by decide +kernel), tt_in 839 (by decide +kernel) (by decide +kernel), tt_in 840 (by decide +kernel) (by decide +kernel)⟩
theorem kc_L_109 : ac_V RL 109 mX6_count := ⟨kb_X6_count, tt_in 842 (by decide +kernel) (by decide +kernel), tt_in 843 (by decide +kernel) (by decide +kernel), tt_in 844 (by decide +kernel) (by decide +kernel)⟩
theorem kw_X2_9 : Cond.fieldLink RX2 9 (TX2 0).1 (TX2 0).2.1 (TX2 0).2.2.1 ∈ TT := tt_in 59 (by decide +kernel) (by decide +kernel)
theorem kg_X2_9 : afG RX2 9 2 0 := ⟨(RX2, TX2, 2), rfl, by decide, tl_X2, kw_X2_9⟩
theorem kp_X2_9 : afP RX2 9 2 0 true (.array .int) := ⟨(RX2, TX2, 2), tyX2, rfl, by decide, tl_X2, kw_X2_9, tyX2_ok, nmX2, rfl, rfl, by decide +kernel⟩
theorem kw_X2_15 : Cond.fieldLink RX2 15 (TX2 1).1 (TX2 1).2.1 (TX2 1).2.2.1 ∈ TT := tt_in 60 (by decide +kernel) (by decide +kernel)
theorem kg_X2_15 : afG RX2 15 2 1 := ⟨(RX2, TX2, 2), rfl, by decide, tl_X2, kw_X2_15⟩
theorem kp_X2_15 : afP RX2 15 2 1 false .int := ⟨(RX2, TX2, 2), tyX2, rfl, by decide, tl_X2, kw_X2_15, tyX2_ok, nmX2, rfl, rfl, by decide +kernel⟩
theorem kw_X3_9 : Cond.fieldLink RX3 9 (TX3 0).1 (TX3 0).2.1 (TX3 0).2.2.1 ∈ TT := tt_in 75 (by decide +kernel) (by decide +kernel)
theorem kg_X3_9 : afG RX3 9 3 0 := ⟨(RX3, TX3, 9), rfl, by decide, tl_X3, kw_X3_9⟩
theorem kp_X3_9 : afP RX3 9 3 0 true (.array .char) := ⟨(RX3, TX3, 9), tyX3, rfl, by decide, tl_X3, kw_X3_9, tyX3_ok, nmX3, rfl, rfl, by decide +kernel⟩
theorem kw_X3_15 : Cond.fieldLink RX3 15 (TX3 1).1 (TX3 1).2.1 (TX3 1).2.2.1 ∈ TT := tt_in 76 (by decide +kernel) (by decide +kernel)
theorem kg_X3_15 : afG RX3 15 3 1 := ⟨(RX3, TX3, 9), rfl, by decide, tl_X3, kw_X3_15⟩
theorem kp_X3_15 : afP RX3 15 3 1 false .int := ⟨(RX3, TX3, 9), tyX3, rfl, by decide, tl_X3, kw_X3_15, tyX3_ok, nmX3, rfl, rfl, by decide +kernel⟩
theorem kw_X3_19 : Cond.fieldLink RX3 19 (TX3 2).1 (TX3 2).2.1 (TX3 2).2.2.1 ∈ TT := tt_in 77 (by decide +kernel) (by decide +kernel)
theorem kg_X3_19 : afG RX3 19 3 2 := ⟨(RX3, TX3, 9), rfl, by decide, tl_X3, kw_X3_19⟩
theorem kp_X3_19 : afP RX3 19 3 2 false .int := ⟨(RX3, TX3, 9), tyX3, rfl, by decide, tl_X3, kw_X3_19, tyX3_ok, nmX3, rfl, rfl, by decide +kernel⟩
theorem kw_X3_22 : Cond.fieldLink RX3 22 (TX3 3).1 (TX3 3).2.1 (TX3 3).2.2.1 ∈ TT := tt_in 78 (by decide +kernel) (by decide +kernel)
theorem kg_X3_22 : afG RX3 22 3 3 := ⟨(RX3, TX3, 9), rfl, by decide, tl_X3, kw_X3_22⟩
theorem kp_X3_22 : afP RX3 22 3 3 false .int := ⟨(RX3, TX3, 9), tyX3, rfl, by decide, tl_X3, kw_X3_22, tyX3_ok, nmX3, rfl, rfl, by decide +kernel⟩
theorem kw_X3_25 : Cond.fieldLink RX3 25 (TX3 4).1 (TX3 4).2.1 (TX3 4).2.2.1 ∈ TT := tt_in 79 (by decide +kernel) (by decide +kernel)
theorem kg_X3_25 : afG RX3 25 3 4 := ⟨(RX3, TX3, 9), rfl, by decide, tl_X3, kw_X3_25⟩
theorem kp_X3_25 : afP RX3 25 3 4 false .int := ⟨(RX3, TX3, 9), tyX3, rfl, by decide, tl_X3, kw_X3_25, tyX3_ok, nmX3, rfl, rfl, by decide +kernel⟩
theorem kw_X3_28 : Cond.fieldLink RX3 28 (TX3 5).1 (TX3 5).2.1 (TX3 5).2.2.1 ∈ TT := tt_in 80 (by decide +kernel) (by decide +kernel)
theorem kg_X3_28 : afG RX3 28 3 5 := ⟨(RX3, TX3, 9), rfl, by decide, tl_X3, kw_X3_28⟩
theorem kp_X3_28 : afP RX3 28 3 5 false .int := ⟨(RX3, TX3, 9), tyX3, rfl, by decide, tl_X3, kw_X3_28, tyX3_ok, nmX3, rfl, rfl, by decide +kernel⟩
theorem kw_X3_31 : Cond.fieldLink RX3 31 (TX3 6).1 (TX3 6).2.1 (TX3 6).2.2.1 ∈ TT := tt_in 81 (by decide +kernel) (by decide +kernel)
theorem kg_X3_31 : afG RX3 31 3 6 := ⟨(RX3, TX3, 9), rfl, by decide, tl_X3, kw_X3_31⟩
theorem kp_X3_31 : afP RX3 31 3 6 false .int := ⟨(RX3, TX3, 9), tyX3, rfl, by decide, tl_X3, kw_X3_31, tyX3_ok, nmX3, rfl, rfl, by decide +kernel⟩
theorem kw_X3_34 : Cond.fieldLink RX3 34 (TX3 7).1 (TX3 7).2.1 (TX3 7).2.2.1 ∈ TT := tt_in 82 (by decide +kernel) (by decide +kernel)
theorem kg_X3_34 : afG RX3 34 3 7 := ⟨(RX3, TX3, 9), rfl, by decide, tl_X3, kw_X3_34⟩
theorem kp_X3_34 : afP RX3 34 3 7 false .int := ⟨(RX3, TX3, 9), tyX3, rfl, by decide, tl_X3, kw_X3_34, tyX3_ok, nmX3, rfl, rfl, by decide +kernel⟩
theorem kw_X3_40 : Cond.fieldLink RX3 40 (TX3 8).1 (TX3 8).2.1 (TX3 8).2.2.1 ∈ TT := tt_in 83 (by decide +kernel) (by decide +kernel)
theorem kg_X3_40 : afG RX3 40 3 8 := ⟨(RX3, TX3, 9), rfl, by decide, tl_X3, kw_X3_40⟩
theorem kp_X3_40 : afP RX3 40 3 8 true (.object RX2) := ⟨(RX3, TX3, 9), tyX3, rfl, by decide, tl_X3, kw_X3_40, tyX3_ok, nmX3, rfl, rfl, by decide +kernel⟩
theorem kw_X1_11 : Cond.fieldLink RX1 11 (TX1 0).1 (TX1 0).2.1 (TX1 0).2.2.1 ∈ TT := tt_in 113 (by decide +kernel) (by decide +kernel)
theorem kg_X1_11 : afG RX1 11 1 0 := ⟨(RX1, TX1, 2), rfl, by decide, tl_X1, kw_X1_11⟩
theorem kp_X1_11 : afP RX1 11 1 0 true (.array (.object RX2)) := ⟨(RX1, TX1, 2), tyX1, rfl, by decide, tl_X1, kw_X1_11, tyX1_ok, nmX1, rfl, rfl, by decide +kernel⟩
theorem kw_X1_17 : Cond.fieldLink RX1 17 (TX1 1).1 (TX1 1).2.1 (TX1 1).2.2.1 ∈ TT := tt_in 114 (by decide +kernel) (by decide +kernel)
theorem kg_X1_17 : afG RX1 17 1 1 := ⟨(RX1, TX1, 2), rfl, by decide, tl_X1, kw_X1_17⟩
theorem kp_X1_17 : afP RX1 17 1 1 false .int := ⟨(RX1, TX1, 2), tyX1, rfl, by decide, tl_X1, kw_X1_17, tyX1_ok, nmX1, rfl, rfl, by decide +kernel⟩
theorem kw_X0_9 : Cond.fieldLink RX0 9 (TX0 0).1 (TX0 0).2.1 (TX0 0).2.2.1 ∈ TT := tt_in 128 (by decide +kernel) (by decide +kernel)
theorem kg_X0_9 : afG RX0 9 0 0 := ⟨(RX0, TX0, 5), rfl, by decide, tl_X0, kw_X0_9⟩
theorem kp_X0_9 : afP RX0 9 0 0 false .int := ⟨(RX0, TX0, 5), tyX0, rfl, by decide, tl_X0, kw_X0_9, tyX0_ok, nmX0, rfl, rfl, by decide +kernel⟩
theorem kw_X0_15 : Cond.fieldLink RX0 15 (TX0 1).1 (TX0 1).2.1 (TX0 1).2.2.1 ∈ TT := tt_in 129 (by decide +kernel) (by decide +kernel)
theorem kg_X0_15 : afG RX0 15 0 1 := ⟨(RX0, TX0, 5), rfl, by decide, tl_X0, kw_X0_15⟩
theorem kp_X0_15 : afP RX0 15 0 1 false .int := ⟨(RX0, TX0, 5), tyX0, rfl, by decide, tl_X0, kw_X0_15, tyX0_ok, nmX0, rfl, rfl, by decide +kernel⟩
theorem kw_X0_20 : Cond.fieldLink RX0 20 (TX0 2).1 (TX0 2).2.1 (TX0 2).2.2.1 ∈ TT := tt_in 130 (by decide +kernel) (by decide +kernel)
theorem kg_X0_20 : afG RX0 20 0 2 := ⟨(RX0, TX0, 5), rfl, by decide, tl_X0, kw_X0_20⟩
theorem kp_X0_20 : afP RX0 20 0 2 true (.array (.array .int)) := ⟨(RX0, TX0, 5), tyX0, rfl, by decide, tl_X0, kw_X0_20, tyX0_ok, nmX0, rfl, rfl, by decide +kernel⟩
theorem kw_X0_23 : Cond.fieldLink RX0 23 (TX0 3).1 (TX0 3).2.1 (TX0 3).2.2.1 ∈ TT := tt_in 131 (by decide +kernel) (by decide +kernel)
theorem kg_X0_23 : afG RX0 23 0 3 := ⟨(RX0, TX0, 5), rfl, by decide, tl_X0, kw_X0_23⟩
theorem kp_X0_23 : afP RX0 23 0 3 true (.array .int) := ⟨(RX0, TX0, 5), tyX0, rfl, by decide, tl_X0, kw_X0_23, tyX0_ok, nmX0, rfl, rfl, by decide +kernel⟩
theorem kw_X0_27 : Cond.fieldLink RX0 27 (TX0 4).1 (TX0 4).2.1 (TX0 4).2.2.1 ∈ TT := tt_in 132 (by decide +kernel) (by decide +kernel)
theorem kg_X0_27 : afG RX0 27 0 4 := ⟨(RX0, TX0, 5), rfl, by decide, tl_X0, kw_X0_27⟩
theorem kp_X0_27 : afP RX0 27 0 4 true (.array .boolean) := ⟨(RX0, TX0, 5), tyX0, rfl, by decide, tl_X0, kw_X0_27, tyX0_ok, nmX0, rfl, rfl, by decide +kernel⟩
theorem kw_X4_9 : Cond.fieldLink RX4 9 (TX4 0).1 (TX4 0).2.1 (TX4 0).2.2.1 ∈ TT := tt_in 151 (by decide +kernel) (by decide +kernel)
theorem kg_X4_9 : afG RX4 9 4 0 := ⟨(RX4, TX4, 4), rfl, by decide, tl_X4, kw_X4_9⟩
theorem kp_X4_9 : afP RX4 9 4 0 true (.array .int) := ⟨(RX4, TX4, 4), tyX4, rfl, by decide, tl_X4, kw_X4_9, tyX4_ok, nmX4, rfl, rfl, by decide +kernel⟩
theorem kw_X4_15 : Cond.fieldLink RX4 15 (TX4 1).1 (TX4 1).2.1 (TX4 1).2.2.1 ∈ TT := tt_in 152 (by decide +kernel) (by decide +kernel)
theorem kg_X4_15 : afG RX4 15 4 1 := ⟨(RX4, TX4, 4), rfl, by decide, tl_X4, kw_X4_15⟩
theorem kp_X4_15 : afP RX4 15 4 1 true (.array .int) := ⟨(RX4, TX4, 4), tyX4, rfl, by decide, tl_X4, kw_X4_15, tyX4_ok, nmX4, rfl, rfl, by decide +kernel⟩
theorem kw_X4_18 : Cond.fieldLink RX4 18 (TX4 2).1 (TX4 2).2.1 (TX4 2).2.2.1 ∈ TT := tt_in 153 (by decide +kernel) (by decide +kernel)
theorem kg_X4_18 : afG RX4 18 4 2 := ⟨(RX4, TX4, 4), rfl, by decide, tl_X4, kw_X4_18⟩
theorem kp_X4_18 : afP RX4 18 4 2 true (.array .boolean) := ⟨(RX4, TX4, 4), tyX4, rfl, by decide, tl_X4, kw_X4_18, tyX4_ok, nmX4, rfl, rfl, by decide +kernel⟩
theorem kw_X4_22 : Cond.fieldLink RX4 22 (TX4 3).1 (TX4 3).2.1 (TX4 3).2.2.1 ∈ TT := tt_in 154 (by decide +kernel) (by decide +kernel)
theorem kg_X4_22 : afG RX4 22 4 3 := ⟨(RX4, TX4, 4), rfl, by decide, tl_X4, kw_X4_22⟩
theorem kp_X4_22 : afP RX4 22 4 3 false .int := ⟨(RX4, TX4, 4), tyX4, rfl, by decide, tl_X4, kw_X4_22, tyX4_ok, nmX4, rfl, rfl, by decide +kernel⟩
theorem kw_X5_9 : Cond.fieldLink RX5 9 (TX5 0).1 (TX5 0).2.1 (TX5 0).2.2.1 ∈ TT := tt_in 164 (by decide +kernel) (by decide +kernel)
theorem kg_X5_9 : afG RX5 9 5 0 := ⟨(RX5, TX5, 10), rfl, by decide, tl_X5, kw_X5_9⟩
theorem kp_X5_9 : afP RX5 9 5 0 false .int := ⟨(RX5, TX5, 10), tyX5, rfl, by decide, tl_X5, kw_X5_9, tyX5_ok, nmX5, rfl, rfl, by decide +kernel⟩
theorem kw_X5_13 : Cond.fieldLink RX5 13 (TX5 1).1 (TX5 1).2.1 (TX5 1).2.2.1 ∈ TT := tt_in 165 (by decide +kernel) (by decide +kernel)
theorem kg_X5_13 : afG RX5 13 5 1 := ⟨(RX5, TX5, 10), rfl, by decide, tl_X5, kw_X5_13⟩
theorem kp_X5_13 : afP RX5 13 5 1 false .int := ⟨(RX5, TX5, 10), tyX5, rfl, by decide, tl_X5, kw_X5_13, tyX5_ok, nmX5, rfl, rfl, by decide +kernel⟩
theorem kw_X5_19 : Cond.fieldLink RX5 19 (TX5 2).1 (TX5 2).2.1 (TX5 2).2.2.1 ∈ TT := tt_in 166 (by decide +kernel) (by decide +kernel)
theorem kg_X5_19 : afG RX5 19 5 2 := ⟨(RX5, TX5, 10), rfl, by decide, tl_X5, kw_X5_19⟩
theorem kp_X5_19 : afP RX5 19 5 2 true (.object RX2) := ⟨(RX5, TX5, 10), tyX5, rfl, by decide, tl_X5, kw_X5_19, tyX5_ok, nmX5, rfl, rfl, by decide +kernel⟩
theorem kw_X5_23 : Cond.fieldLink RX5 23 (TX5 3).1 (TX5 3).2.1 (TX5 3).2.2.1 ∈ TT := tt_in 167 (by decide +kernel) (by decide +kernel)
theorem kg_X5_23 : afG RX5 23 5 3 := ⟨(RX5, TX5, 10), rfl, by decide, tl_X5, kw_X5_23⟩
theorem kp_X5_23 : afP RX5 23 5 3 true (.object RX2) := ⟨(RX5, TX5, 10), tyX5, rfl, by decide, tl_X5, kw_X5_23, tyX5_ok, nmX5, rfl, rfl, by decide +kernel⟩
theorem kw_X5_29 : Cond.fieldLink RX5 29 (TX5 4).1 (TX5 4).2.1 (TX5 4).2.2.1 ∈ TT := tt_in 168 (by decide +kernel) (by decide +kernel)
theorem kg_X5_29 : afG RX5 29 5 4 := ⟨(RX5, TX5, 10), rfl, by decide, tl_X5, kw_X5_29⟩
theorem kp_X5_29 : afP RX5 29 5 4 true (.object RX3) := ⟨(RX5, TX5, 10), tyX5, rfl, by decide, tl_X5, kw_X5_29, tyX5_ok, nmX5, rfl, rfl, by decide +kernel⟩
theorem kw_X5_36 : Cond.fieldLink RX5 36 (TX5 5).1 (TX5 5).2.1 (TX5 5).2.2.1 ∈ TT := tt_in 169 (by decide +kernel) (by decide +kernel)
theorem kg_X5_36 : afG RX5 36 5 5 := ⟨(RX5, TX5, 10), rfl, by decide, tl_X5, kw_X5_36⟩
theorem kp_X5_36 : afP RX5 36 5 5 true (.object RX1) := ⟨(RX5, TX5, 10), tyX5, rfl, by decide, tl_X5, kw_X5_36, tyX5_ok, nmX5, rfl, rfl, by decide +kernel⟩
theorem kw_X5_40 : Cond.fieldLink RX5 40 (TX5 6).1 (TX5 6).2.1 (TX5 6).2.2.1 ∈ TT := tt_in 170 (by decide +kernel) (by decide +kernel)
theorem kg_X5_40 : afG RX5 40 5 6 := ⟨(RX5, TX5, 10), rfl, by decide, tl_X5, kw_X5_40⟩
theorem kp_X5_40 : afP RX5 40 5 6 true (.array (.object RX2)) := ⟨(RX5, TX5, 10), tyX5, rfl, by decide, tl_X5, kw_X5_40, tyX5_ok, nmX5, rfl, rfl, by decide +kernel⟩
theorem kw_X5_44 : Cond.fieldLink RX5 44 (TX5 7).1 (TX5 7).2.1 (TX5 7).2.2.1 ∈ TT := tt_in 171 (by decide +kernel) (by decide +kernel)
theorem kg_X5_44 : afG RX5 44 5 7 := ⟨(RX5, TX5, 10), rfl, by decide, tl_X5, kw_X5_44⟩
theorem kp_X5_44 : afP RX5 44 5 7 true (.array .boolean) := ⟨(RX5, TX5, 10), tyX5, rfl, by decide, tl_X5, kw_X5_44, tyX5_ok, nmX5, rfl, rfl, by decide +kernel⟩
theorem kw_X5_51 : Cond.fieldLink RX5 51 (TX5 8).1 (TX5 8).2.1 (TX5 8).2.2.1 ∈ TT := tt_in 172 (by decide +kernel) (by decide +kernel)
theorem kg_X5_51 : afG RX5 51 5 8 := ⟨(RX5, TX5, 10), rfl, by decide, tl_X5, kw_X5_51⟩
theorem kp_X5_51 : afP RX5 51 5 8 true (.object RX0) := ⟨(RX5, TX5, 10), tyX5, rfl, by decide, tl_X5, kw_X5_51, tyX5_ok, nmX5, rfl, rfl, by decide +kernel⟩
theorem kw_X5_58 : Cond.fieldLink RX5 58 (TX5 9).1 (TX5 9).2.1 (TX5 9).2.2.1 ∈ TT := tt_in 173 (by decide +kernel) (by decide +kernel)
theorem kg_X5_58 : afG RX5 58 5 9 := ⟨(RX5, TX5, 10), rfl, by decide, tl_X5, kw_X5_58⟩
theorem kp_X5_58 : afP RX5 58 5 9 true (.object RX4) := ⟨(RX5, TX5, 10), tyX5, rfl, by decide, tl_X5, kw_X5_58, tyX5_ok, nmX5, rfl, rfl, by decide +kernel⟩
theorem kw_X6_7 : Cond.fieldLink RX6 7 (TX6 0).1 (TX6 0).2.1 (TX6 0).2.2.1 ∈ TT := tt_in 565 (by decide +kernel) (by decide +kernel)
theorem kg_X6_7 : afG RX6 7 6 0 := ⟨(RX6, TX6, 25), rfl, by decide, tl_X6, kw_X6_7⟩
theorem kp_X6_7 : afP RX6 7 6 0 true (.array .int) := ⟨(RX6, TX6, 25), tyX6, rfl, by decide, tl_X6, kw_X6_7, tyX6_ok, nmX6, rfl, rfl, by decide +kernel⟩
theorem kw_X6_13 : Cond.fieldLink RX6 13 (TX6 1).1 (TX6 1).2.1 (TX6 1).2.2.1 ∈ TT := tt_in 566 (by decide +kernel) (by decide +kernel)
theorem kg_X6_13 : afG RX6 13 6 1 := ⟨(RX6, TX6, 25), rfl, by decide, tl_X6, kw_X6_13⟩
theorem kp_X6_13 : afP RX6 13 6 1 true (.array .boolean) := ⟨(RX6, TX6, 25), tyX6, rfl, by decide, tl_X6, kw_X6_13, tyX6_ok, nmX6, rfl, rfl, by decide +kernel⟩
theorem kw_X6_55 : Cond.fieldLink RX6 55 (TX6 2).1 (TX6 2).2.1 (TX6 2).2.2.1 ∈ TT := tt_in 567 (by decide +kernel) (by decide +kernel)
theorem kg_X6_55 : afG RX6 55 6 2 := ⟨(RX6, TX6, 25), rfl, by decide, tl_X6, kw_X6_55⟩
theorem kp_X6_55 : afP RX6 55 6 2 false .int := ⟨(RX6, TX6, 25), tyX6, rfl, by decide, tl_X6, kw_X6_55, tyX6_ok, nmX6, rfl, rfl, by decide +kernel⟩
theorem kw_X6_17 : Cond.fieldLink RX6 17 (TX6 3).1 (TX6 3).2.1 (TX6 3).2.2.1 ∈ TT := tt_in 568 (by decide +kernel) (by decide +kernel)
theorem kg_X6_17 : afG RX6 17 6 3 := ⟨(RX6, TX6, 25), rfl, by decide, tl_X6, kw_X6_17⟩
theorem kp_X6_17 : afP RX6 17 6 3 false .int := ⟨(RX6, TX6, 25), tyX6, rfl, by decide, tl_X6, kw_X6_17, tyX6_ok, nmX6, rfl, rfl, by decide +kernel⟩
theorem kw_X6_21 : Cond.fieldLink RX6 21 (TX6 4).1 (TX6 4).2.1 (TX6 4).2.2.1 ∈ TT := tt_in 569 (by decide +kernel) (by decide +kernel)
theorem kg_X6_21 : afG RX6 21 6 4 := ⟨(RX6, TX6, 25), rfl, by decide, tl_X6, kw_X6_21⟩
theorem kp_X6_21 : afP RX6 21 6 4 false .int := ⟨(RX6, TX6, 25), tyX6, rfl, by decide, tl_X6, kw_X6_21, tyX6_ok, nmX6, rfl, rfl, by decide +kernel⟩
theorem kw_X6_24 : Cond.fieldLink RX6 24 (TX6 5).1 (TX6 5).2.1 (TX6 5).2.2.1 ∈ TT := tt_in 570 (by decide +kernel) (by decide +kernel)
theorem kg_X6_24 : afG RX6 24 6 5 := ⟨(RX6, TX6, 25), rfl, by decide, tl_X6, kw_X6_24⟩
theorem kp_X6_24 : afP RX6 24 6 5 true (.array .int) := ⟨(RX6, TX6, 25), tyX6, rfl, by decide, tl_X6, kw_X6_24, tyX6_ok, nmX6, rfl, rfl, by decide +kernel⟩
theorem kw_X6_27 : Cond.fieldLink RX6 27 (TX6 6).1 (TX6 6).2.1 (TX6 6).2.2.1 ∈ TT := tt_in 571 (by decide +kernel) (by decide +kernel)
theorem kg_X6_27 : afG RX6 27 6 6 := ⟨(RX6, TX6, 25), rfl, by decide, tl_X6, kw_X6_27⟩
theorem kp_X6_27 : afP RX6 27 6 6 true (.array .int) := ⟨(RX6, TX6, 25), tyX6, rfl, by decide, tl_X6, kw_X6_27, tyX6_ok, nmX6, rfl, rfl, by decide +kernel⟩
theorem kw_X6_30 : Cond.fieldLink RX6 30 (TX6 7).1 (TX6 7).2.1 (TX6 7).2.2.1 ∈ TT := tt_in 572 (by decide +kernel) (by decide +kernel)
theorem kg_X6_30 : afG RX6 30 6 7 := ⟨(RX6, TX6, 25), rfl, by decide, tl_X6, kw_X6_30⟩
theorem kp_X6_30 : afP RX6 30 6 7 true (.array .int) := ⟨(RX6, TX6, 25), tyX6, rfl, by decide, tl_X6, kw_X6_30, tyX6_ok, nmX6, rfl, rfl, by decide +kernel⟩
theorem kw_X6_123 : Cond.fieldLink RX6 123 (TX6 8).1 (TX6 8).2.1 (TX6 8).2.2.1 ∈ TT := tt_in 573 (by decide +kernel) (by decide +kernel)
theorem kg_X6_123 : afG RX6 123 6 8 := ⟨(RX6, TX6, 25), rfl, by decide, tl_X6, kw_X6_123⟩
theorem kp_X6_123 : afP RX6 123 6 8 false .int := ⟨(RX6, TX6, 25), tyX6, rfl, by decide, tl_X6, kw_X6_123, tyX6_ok, nmX6, rfl, rfl, by decide +kernel⟩
theorem kw_X6_33 : Cond.fieldLink RX6 33 (TX6 9).1 (TX6 9).2.1 (TX6 9).2.2.1 ∈ TT := tt_in 574 (by decide +kernel) (by decide +kernel)
theorem kg_X6_33 : afG RX6 33 6 9 := ⟨(RX6, TX6, 25), rfl, by decide, tl_X6, kw_X6_33⟩
theorem kp_X6_33 : afP RX6 33 6 9 true (.array .int) := ⟨(RX6, TX6, 25), tyX6, rfl, by decide, tl_X6, kw_X6_33, tyX6_ok, nmX6, rfl, rfl, by decide +kernel⟩
theorem kw_X6_73 : Cond.fieldLink RX6 73 (TX6 10).1 (TX6 10).2.1 (TX6 10).2.2.1 ∈ TT := tt_in 575 (by decide +kernel) (by decide +kernel)
theorem kg_X6_73 : afG RX6 73 6 10 := ⟨(RX6, TX6, 25), rfl, by decide, tl_X6, kw_X6_73⟩
theorem kp_X6_73 : afP RX6 73 6 10 false .int := ⟨(RX6, TX6, 25), tyX6, rfl, by decide, tl_X6, kw_X6_73, tyX6_ok, nmX6, rfl, rfl, by decide +kernel⟩
theorem kw_X6_70 : Cond.fieldLink RX6 70 (TX6 11).1 (TX6 11).2.1 (TX6 11).2.2.1 ∈ TT := tt_in 576 (by decide +kernel) (by decide +kernel)
theorem kg_X6_70 : afG RX6 70 6 11 := ⟨(RX6, TX6, 25), rfl, by decide, tl_X6, kw_X6_70⟩
theorem kp_X6_70 : afP RX6 70 6 11 false .int := ⟨(RX6, TX6, 25), tyX6, rfl, by decide, tl_X6, kw_X6_70, tyX6_ok, nmX6, rfl, rfl, by decide +kernel⟩
theorem kw_X6_76 : Cond.fieldLink RX6 76 (TX6 12).1 (TX6 12).2.1 (TX6 12).2.2.1 ∈ TT := tt_in 577 (by decide +kernel) (by decide +kernel)
theorem kg_X6_76 : afG RX6 76 6 12 := ⟨(RX6, TX6, 25), rfl, by decide, tl_X6, kw_X6_76⟩
theorem kp_X6_76 : afP RX6 76 6 12 false .int := ⟨(RX6, TX6, 25), tyX6, rfl, by decide, tl_X6, kw_X6_76, tyX6_ok, nmX6, rfl, rfl, by decide +kernel⟩
theorem kw_X6_79 : Cond.fieldLink RX6 79 (TX6 13).1 (TX6 13).2.1 (TX6 13).2.2.1 ∈ TT := tt_in 578 (by decide +kernel) (by decide +kernel)
theorem kg_X6_79 : afG RX6 79 6 13 := ⟨(RX6, TX6, 25), rfl, by decide, tl_X6, kw_X6_79⟩
theorem kp_X6_79 : afP RX6 79 6 13 false .int := ⟨(RX6, TX6, 25), tyX6, rfl, by decide, tl_X6, kw_X6_79, tyX6_ok, nmX6, rfl, rfl, by decide +kernel⟩
theorem kw_X6_89 : Cond.fieldLink RX6 89 (TX6 14).1 (TX6 14).2.1 (TX6 14).2.2.1 ∈ TT := tt_in 579 (by decide +kernel) (by decide +kernel)
theorem kg_X6_89 : afG RX6 89 6 14 := ⟨(RX6, TX6, 25), rfl, by decide, tl_X6, kw_X6_89⟩
theorem kp_X6_89 : afP RX6 89 6 14 false .int := ⟨(RX6, TX6, 25), tyX6, rfl, by decide, tl_X6, kw_X6_89, tyX6_ok, nmX6, rfl, rfl, by decide +kernel⟩
theorem kw_X6_96 : Cond.fieldLink RX6 96 (TX6 15).1 (TX6 15).2.1 (TX6 15).2.2.1 ∈ TT := tt_in 580 (by decide +kernel) (by decide +kernel)
theorem kg_X6_96 : afG RX6 96 6 15 := ⟨(RX6, TX6, 25), rfl, by decide, tl_X6, kw_X6_96⟩
theorem kp_X6_96 : afP RX6 96 6 15 false .int := ⟨(RX6, TX6, 25), tyX6, rfl, by decide, tl_X6, kw_X6_96, tyX6_ok, nmX6, rfl, rfl, by decide +kernel⟩
theorem kw_X6_99 : Cond.fieldLink RX6 99 (TX6 16).1 (TX6 16).2.1 (TX6 16).2.2.1 ∈ TT := tt_in 581 (by decide +kernel) (by decide +kernel)
theorem kg_X6_99 : afG RX6 99 6 16 := ⟨(RX6, TX6, 25), rfl, by decide, tl_X6, kw_X6_99⟩
theorem kp_X6_99 : afP RX6 99 6 16 false .int := ⟨(RX6, TX6, 25), tyX6, rfl, by decide, tl_X6, kw_X6_99, tyX6_ok, nmX6, rfl, rfl, by decide +kernel⟩
theorem kw_X6_106 : Cond.fieldLink RX6 106 (TX6 17).1 (TX6 17).2.1 (TX6 17).2.2.1 ∈ TT := tt_in 582 (by decide +kernel) (by decide +kernel)
theorem kg_X6_106 : afG RX6 106 6 17 := ⟨(RX6, TX6, 25), rfl, by decide, tl_X6, kw_X6_106⟩
theorem kp_X6_106 : afP RX6 106 6 17 false .int := ⟨(RX6, TX6, 25), tyX6, rfl, by decide, tl_X6, kw_X6_106, tyX6_ok, nmX6, rfl, rfl, by decide +kernel⟩
theorem kw_X6_36 : Cond.fieldLink RX6 36 (TX6 18).1 (TX6 18).2.1 (TX6 18).2.2.1 ∈ TT := tt_in 583 (by decide +kernel) (by decide +kernel)
theorem kg_X6_36 : afG RX6 36 6 18 := ⟨(RX6, TX6, 25), rfl, by decide, tl_X6, kw_X6_36⟩
theorem kp_X6_36 : afP RX6 36 6 18 true (.array .int) := ⟨(RX6, TX6, 25), tyX6, rfl, by decide, tl_X6, kw_X6_36, tyX6_ok, nmX6, rfl, rfl, by decide +kernel⟩
theorem kw_X6_39 : Cond.fieldLink RX6 39 (TX6 19).1 (TX6 19).2.1 (TX6 19).2.2.1 ∈ TT := tt_in 584 (by decide +kernel) (by decide +kernel)
theorem kg_X6_39 : afG RX6 39 6 19 := ⟨(RX6, TX6, 25), rfl, by decide, tl_X6, kw_X6_39⟩
theorem kp_X6_39 : afP RX6 39 6 19 true (.array .int) := ⟨(RX6, TX6, 25), tyX6, rfl, by decide, tl_X6, kw_X6_39, tyX6_ok, nmX6, rfl, rfl, by decide +kernel⟩
theorem kw_X6_42 : Cond.fieldLink RX6 42 (TX6 20).1 (TX6 20).2.1 (TX6 20).2.2.1 ∈ TT := tt_in 585 (by decide +kernel) (by decide +kernel)
theorem kg_X6_42 : afG RX6 42 6 20 := ⟨(RX6, TX6, 25), rfl, by decide, tl_X6, kw_X6_42⟩
theorem kp_X6_42 : afP RX6 42 6 20 true (.array .long) := ⟨(RX6, TX6, 25), tyX6, rfl, by decide, tl_X6, kw_X6_42, tyX6_ok, nmX6, rfl, rfl, by decide +kernel⟩
theorem kw_X6_46 : Cond.fieldLink RX6 46 (TX6 21).1 (TX6 21).2.1 (TX6 21).2.2.1 ∈ TT := tt_in 586 (by decide +kernel) (by decide +kernel)
theorem kg_X6_46 : afG RX6 46 6 21 := ⟨(RX6, TX6, 25), rfl, by decide, tl_X6, kw_X6_46⟩
theorem kp_X6_46 : afP RX6 46 6 21 true (.array .long) := ⟨(RX6, TX6, 25), tyX6, rfl, by decide, tl_X6, kw_X6_46, tyX6_ok, nmX6, rfl, rfl, by decide +kernel⟩
theorem kw_X6_49 : Cond.fieldLink RX6 49 (TX6 22).1 (TX6 22).2.1 (TX6 22).2.2.1 ∈ TT := tt_in 587 (by decide +kernel) (by decide +kernel)
theorem kg_X6_49 : afG RX6 49 6 22 := ⟨(RX6, TX6, 25), rfl, by decide, tl_X6, kw_X6_49⟩
theorem kp_X6_49 : afP RX6 49 6 22 true (.array .int) := ⟨(RX6, TX6, 25), tyX6, rfl, by decide, tl_X6, kw_X6_49, tyX6_ok, nmX6, rfl, rfl, by decide +kernel⟩
theorem kw_X6_52 : Cond.fieldLink RX6 52 (TX6 23).1 (TX6 23).2.1 (TX6 23).2.2.1 ∈ TT := tt_in 588 (by decide +kernel) (by decide +kernel)
theorem kg_X6_52 : afG RX6 52 6 23 := ⟨(RX6, TX6, 25), rfl, by decide, tl_X6, kw_X6_52⟩
theorem kp_X6_52 : afP RX6 52 6 23 true (.array .int) := ⟨(RX6, TX6, 25), tyX6, rfl, by decide, tl_X6, kw_X6_52, tyX6_ok, nmX6, rfl, rfl, by decide +kernel⟩
theorem kw_X6_134 : Cond.fieldLink RX6 134 (TX6 24).1 (TX6 24).2.1 (TX6 24).2.2.1 ∈ TT := tt_in 589 (by decide +kernel) (by decide +kernel)
theorem kg_X6_134 : afG RX6 134 6 24 := ⟨(RX6, TX6, 25), rfl, by decide, tl_X6, kw_X6_134⟩
theorem kp_X6_134 : afP RX6 134 6 24 false .int := ⟨(RX6, TX6, 25), tyX6, rfl, by decide, tl_X6, kw_X6_134, tyX6_ok, nmX6, rfl, rfl, by decide +kernel⟩
theorem kn_L_7 : Cond.classLink RL 7 RX5 ∈ TT := tt_in 45 (by decide +kernel) (by decide +kernel)
theorem kn_X5_16 : Cond.classLink RX5 16 RX2 ∈ TT := tt_in 53 (by decide +kernel) (by decide +kernel)
theorem ka_int : Cond.arrayClass .int ∈ TT := tt_in 66 (by decide +kernel) (by decide +kernel)
theorem kn_X5_26 : Cond.classLink RX5 26 RX3 ∈ TT := tt_in 67 (by decide +kernel) (by decide +kernel)
theorem kn_X3_37 : Cond.classLink RX3 37 RX2 ∈ TT := tt_in 73 (by decide +kernel) (by decide +kernel)
theorem ka_char : Cond.arrayClass .char ∈ TT := tt_in 103 (by decide +kernel) (by decide +kernel)
theorem kn_X5_33 : Cond.classLink RX5 33 RX1 ∈ TT := tt_in 104 (by decide +kernel) (by decide +kernel)
theorem kn_X1_9 : Cond.classLink RX1 9 RX2 ∈ TT := tt_in 110 (by decide +kernel) (by decide +kernel)
theorem kn_X5_48 : Cond.classLink RX5 48 RX0 ∈ TT := tt_in 120 (by decide +kernel) (by decide +kernel)
theorem kn_X0_18 : Cond.classLink RX0 18 "[[I" ∈ TT := tt_in 126 (by decide +kernel) (by decide +kernel)
theorem ka_boolean : Cond.arrayClass .boolean ∈ TT := tt_in 144 (by decide +kernel) (by decide +kernel)
theorem kn_X5_55 : Cond.classLink RX5 55 RX4 ∈ TT := tt_in 145 (by decide +kernel) (by decide +kernel)
theorem kl_X2_29 : Cond.constantLong RX2 29 (lL 1000000) ∈ TT := tt_in 280 (by decide +kernel) (by decide +kernel)
theorem kl_X5_204 : Cond.constantLong RX5 204 (lL 2) ∈ TT := tt_in 339 (by decide +kernel) (by decide +kernel)
theorem kl_X0_79 : Cond.constantLong RX0 79 (lL 60) ∈ TT := tt_in 369 (by decide +kernel) (by decide +kernel)
theorem kl_X5_206 : Cond.constantLong RX5 206 (lL 3) ∈ TT := tt_in 420 (by decide +kernel) (by decide +kernel)
theorem kl_X5_208 : Cond.constantLong RX5 208 (lL 4) ∈ TT := tt_in 421 (by decide +kernel) (by decide +kernel)
theorem kl_X5_210 : Cond.constantLong RX5 210 (lL 6) ∈ TT := tt_in 422 (by decide +kernel) (by decide +kernel)
theorem ki_J6_265 : Cond.constant RJ6 265 (iI 1431655765) ∈ TT := tt_in 544 (by decide +kernel) (by decide +kernel)
theorem ki_J6_266 : Cond.constant RJ6 266 (iI 858993459) ∈ TT := tt_in 545 (by decide +kernel) (by decide +kernel)
theorem ki_J6_267 : Cond.constant RJ6 267 (iI 252645135) ∈ TT := tt_in 546 (by decide +kernel) (by decide +kernel)
theorem kn_L_10 : Cond.classLink RL 10 RX6 ∈ TT := tt_in 559 (by decide +kernel) (by decide +kernel)
theorem ka_long : Cond.arrayClass .long ∈ TT := tt_in 641 (by decide +kernel) (by decide +kernel)
theorem kl_X6_118 : Cond.constantLong RX6 118 (lL 255) ∈ TT := tt_in 646 (by decide +kernel) (by decide +kernel)
theorem kl_X6_62 : Cond.constantLong RX6 62 (lL 48) ∈ TT := tt_in 669 (by decide +kernel) (by decide +kernel)
theorem kl_X6_64 : Cond.constantLong RX6 64 (lL 57) ∈ TT := tt_in 670 (by decide +kernel) (by decide +kernel)
theorem kl_X6_126 : Cond.constantLong RX6 126 (lL 2) ∈ TT := tt_in 699 (by decide +kernel) (by decide +kernel)
theorem kl_X6_128 : Cond.constantLong RX6 128 (lL 1000000) ∈ TT := tt_in 700 (by decide +kernel) (by decide +kernel)
theorem kl_X6_154 : Cond.constantLong RX6 154 (lL 5) ∈ TT := tt_in 708 (by decide +kernel) (by decide +kernel)
theorem kl_X6_137 : Cond.constantLong RX6 137 (lL 60) ∈ TT := tt_in 709 (by decide +kernel) (by decide +kernel)
theorem kl_X6_159 : Cond.constantLong RX6 159 (lL 3) ∈ TT := tt_in 738 (by decide +kernel) (by decide +kernel)
theorem kl_X6_168 : Cond.constantLong RX6 168 (lL 4) ∈ TT := tt_in 766 (by decide +kernel) (by decide +kernel)
theorem kl_X6_170 : Cond.constantLong RX6 170 (lL 6) ∈ TT := tt_in 767 (by decide +kernel) (by decide +kernel)
theorem kl_X6_193 : Cond.constantLong RX6 193 (lL 7) ∈ TT := tt_in 796 (by decide +kernel) (by decide +kernel)
theorem kl_X6_195 : Cond.constantLong RX6 195 (lL 999) ∈ TT := tt_in 797 (by decide +kernel) (by decide +kernel)
theorem kl_X6_200 : Cond.constantLong RX6 200 (lL 24) ∈ TT := tt_in 808 (by decide +kernel) (by decide +kernel)
theorem kl_X6_202 : Cond.constantLong RX6 202 (lL 31) ∈ TT := tt_in 809 (by decide +kernel) (by decide +kernel)
theorem kt_X0 : Cond.instantiable RX0 5 ∈ TT := tt_in 121 (by decide +kernel) (by decide +kernel)
theorem kt_X1 : Cond.instantiable RX1 2 ∈ TT := tt_in 105 (by decide +kernel) (by decide +kernel)
theorem kt_X2 : Cond.instantiable RX2 2 ∈ TT := tt_in 54 (by decide +kernel) (by decide +kernel)
theorem kt_X3 : Cond.instantiable RX3 9 ∈ TT := tt_in 68 (by decide +kernel) (by decide +kernel)
theorem kt_X4 : Cond.instantiable RX4 4 ∈ TT := tt_in 146 (by decide +kernel) (by decide +kernel)
theorem kt_X5 : Cond.instantiable RX5 10 ∈ TT := tt_in 46 (by decide +kernel) (by decide +kernel)
theorem kt_X6 : Cond.instantiable RX6 25 ∈ TT := tt_in 560 (by decide +kernel) (by decide +kernel)
