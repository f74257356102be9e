/-! THE METHODS by number, and the links of the classes: tables by program. -/
def xk_ML : List xq_M := [(yX0_init, cX0_init, 1, none, 2, 0),
  (yX1_init, cX1_init, 1, none, 2, 0),
  (yX1_amount, cX1_amount, 4, (some .int), 1, 2),
  (yX1_put, cX1_put, 5, none, 1, 3),
  (yX1_who, cX1_who, 3, (some .int), 1, 2),
  (yX1_take, cX1_take, 2, none, 1, 1),
  (yX1_takeOf, cX1_takeOf, 4, none, 1, 2),
  (yX2_init, cX2_init, 1, none, 2, 0),
  (yX2_everyone, cX2_everyone, 1, (some .int), 1, 0),
  (yX2_come, cX2_come, 4, (some .int), 1, 3),
  (yX2_note, cX2_note, 5, none, 1, 1),
  (yX2_singsBefore, cX2_singsBefore, 3, (some .boolean), 0, 3),
  (yX2_knowsThen, cX2_knowsThen, 3, (some .int), 0, 3),
  (yX2_isOf, cX2_isOf, 5, (some .boolean), 1, 2),
  (yX2_singers, cX2_singers, 3, (some .int), 1, 2),
  (yX2_anySpoils, cX2_anySpoils, 2, (some .boolean), 1, 1),
  (yX2_wholeOf, cX2_wholeOf, 5, (some .int), 1, 3),
  (yX2_halfOf, cX2_halfOf, 5, (some .int), 1, 3),
  (yX3_init, cX3_init, 4, none, 2, 3),
  (yX3_prepare, cX3_prepare, 5, none, 1, 4),
  (yX3_seek, cX3_seek, 5, (some .int), 1, 3),
  (yX3_standing, cX3_standing, 2, (some .int), 0, 2),
  (yX3_goOn, cX3_goOn, 8, none, 1, 4),
  (yX3_isMoved, cX3_isMoved, 9, (some .boolean), 1, 3),
  (yX3_isLesson, cX3_isLesson, 6, (some .boolean), 1, 3),
  (yX3_reach, cX3_reach, 6, none, 1, 4),
  (yX4_init, cX4_init, 1, none, 2, 0),
  (yX4_add, cX4_add, 2, none, 1, 1),
  (yX4_clear, cX4_clear, 1, none, 1, 0),
  (yX4_read, cX4_read, 3, (some (.object "WhoeverKnowsSings$Text")), 1, 0),
  (yX4_readPart, cX4_readPart, 2, none, 1, 1),
  (yX4_readOr, cX4_readOr, 3, none, 1, 1),
  (yX4_readAnd, cX4_readAnd, 3, none, 1, 1),
  (yX4_readNot, cX4_readNot, 3, none, 1, 1),
  (yX4_readSum, cX4_readSum, 4, none, 1, 1),
  (yX4_readTerm, cX4_readTerm, 3, none, 1, 1),
  (yX4_readSingle, cX4_readSingle, 2, none, 1, 1),
  (yX4_step, cX4_step, 2, none, 1, 1),
  (yX4_expect, cX4_expect, 2, none, 1, 1),
  (yX4_fail, cX4_fail, 1, none, 1, 0),
  (yX4_next, cX4_next, 1, none, 1, 0),
  (yX4_readWord, cX4_readWord, 1, none, 1, 0),
  (yX4_readNumber, cX4_readNumber, 1, none, 1, 0),
  (yX4_readSign, cX4_readSign, 3, none, 1, 0),
  (yX4_isLetter, cX4_isLetter, 1, (some .boolean), 0, 1),
  (yX4_isDigit, cX4_isDigit, 1, (some .boolean), 0, 1),
  (yX4_wordToken, cX4_wordToken, 1, (some .int), 1, 0),
  (yX4_spells, cX4_spells, 3, (some .boolean), 1, 1),
  (yX5_init, cX5_init, 1, none, 2, 0),
  (yX5_become, cX5_become, 3, none, 1, 2),
  (yX5_has, cX5_has, 2, (some .boolean), 1, 1),
  (yX5_hasRange, cX5_hasRange, 3, (some .boolean), 1, 2),
  (yX5_at, cX5_at, 2, (some .int), 1, 1),
  (yX5_put, cX5_put, 3, none, 1, 2),
  (yX6_init, cX6_init, 3, none, 2, 2),
  (yX6_begin, cX6_begin, 5, none, 1, 4),
  (yX6_before, cX6_before, 4, none, 1, 3),
  (yX6_may, cX6_may, 4, (some .boolean), 1, 2),
  (yX6_spread, cX6_spread, 7, none, 1, 3),
  (yX6_singers, cX6_singers, 3, (some .int), 1, 2),
  (yX6_able, cX6_able, 4, (some .int), 1, 1),
  (yX6_couldTeach, cX6_couldTeach, 3, (some .boolean), 1, 2),
  (yX6_hear, cX6_hear, 12, none, 1, 4),
  (yX6_says, cX6_says, 9, (some .boolean), 1, 1),
  (yX6_valueOf, cX6_valueOf, 3, (some .int), 1, 1),
  (yX6_unary, cX6_unary, 2, (some .int), 0, 2),
  (yX6_binary, cX6_binary, 3, (some .int), 0, 3),
  (yX7_init, cX7_init, 4, none, 2, 3),
  (yX7_from, cX7_from, 2, (some .int), 1, 1),
  (yX7_to, cX7_to, 2, (some .int), 1, 1),
  (yX8_init, cX8_init, 2, none, 2, 0),
  (yX8_wall, cX8_wall, 5, (some .int), 1, 3),
  (yX8_seat, cX8_seat, 4, (some .int), 1, 2),
  (yX8_count, cX8_count, 2, (some .int), 1, 1),
  (yX8_feed, cX8_feed, 7, (some .int), 1, 6),
  (yX8_text, cX8_text, 2, (some .int), 1, 0),
  (yX8_force, cX8_force, 3, (some .int), 1, 1),
  (yX8_asks, cX8_asks, 5, (some .int), 1, 4),
  (yX8_song, cX8_song, 2, (some .int), 1, 1),
  (yX8_needs, cX8_needs, 2, (some .int), 1, 1),
  (yX8_person, cX8_person, 4, (some .int), 1, 3),
  (yX8_teach, cX8_teach, 5, (some .int), 1, 3),
  (yX8_told, cX8_told, 3, (some .int), 1, 2),
  (yX8_evening, cX8_evening, 7, (some .int), 1, 3),
  (yX8_forget, cX8_forget, 1, (some .int), 1, 0),
  (yX8_eveningTold, cX8_eveningTold, 3, (some .int), 1, 2),
  (yX8_knows, cX8_knows, 4, (some .int), 1, 3),
  (yX8_all, cX8_all, 4, (some .int), 1, 3),
  (yX8_judge, cX8_judge, 1, (some .int), 1, 0),
  (yX8_laws, cX8_laws, 3, (some .int), 1, 0),
  (yX8_feast, cX8_feast, 5, (some .int), 1, 2),
  (yX8_leave, cX8_leave, 7, (some .int), 1, 3),
  (yX8_bars, cX8_bars, 7, (some .int), 1, 3),
  (yX8_ends, cX8_ends, 5, (some .int), 1, 2),
  (yX8_least, cX8_least, 6, (some .int), 1, 5),
  (yX8_why, cX8_why, 8, (some .int), 1, 4),
  (yX8_place, cX8_place, 8, (some .int), 1, 3),
  (yX8_whole, cX8_whole, 6, (some .int), 1, 2),
  (yX8_was, cX8_was, 10, (some .int), 1, 4),
  (yX8_lost, cX8_lost, 3, (some .long), 1, 2),
  (yX8_keep, cX8_keep, 6, (some .int), 1, 2),
  (yX8_rarest, cX8_rarest, 7, (some .int), 1, 0),
  (yX8_drawn, cX8_drawn, 5, (some .int), 1, 4),
  (yX8_odds, cX8_odds, 10, (some .long), 1, 5),
  (yX8_image, cX8_image, 1, (some .int), 1, 0),
  (yX8_back, cX8_back, 1, (some .int), 1, 0),
  (yX8_sheet, cX8_sheet, 6, (some .int), 1, 3),
  (yX8_cell, cX8_cell, 5, (some .int), 1, 3),
  (yX8_copy, cX8_copy, 8, (some .int), 1, 5),
  (yX8_peopleBy, cX8_peopleBy, 9, (some .int), 1, 4),
  (yX8_taken, cX8_taken, 4, (some .int), 1, 2),
  (yX8_isRoom, cX8_isRoom, 1, (some .boolean), 0, 1),
  (yX8_isSheet, cX8_isSheet, 1, (some .boolean), 0, 1),
  (yX8_isSeed, cX8_isSeed, 1, (some .boolean), 0, 1),
  (yX8_isHow, cX8_isHow, 1, (some .boolean), 0, 1),
  (yX8_isSong, cX8_isSong, 2, (some .boolean), 1, 1),
  (yX8_isOne, cX8_isOne, 2, (some .boolean), 1, 1),
  (yX8_arePeople, cX8_arePeople, 2, (some .boolean), 1, 1),
  (yX8_isBehind, cX8_isBehind, 2, (some .boolean), 1, 1),
  (yX8_lawText, cX8_lawText, 1, (some (.object "WhoeverKnowsSings$Text")), 1, 0),
  (yX8_rowOf, cX8_rowOf, 3, (some (.object "WhoeverKnowsSings$Sheet")), 1, 1),
  (yX8_tellsRooms, cX8_tellsRooms, 2, (some .boolean), 0, 1),
  (yX8_isSeated, cX8_isSeated, 5, (some .boolean), 1, 1),
  (yX8_live, cX8_live, 8, (some .int), 1, 2),
  (yX8_peopleIn, cX8_peopleIn, 5, (some .int), 0, 2),
  (yX8_mayAtFirst, cX8_mayAtFirst, 4, (some .boolean), 1, 3),
  (yX8_isOverFor, cX8_isOverFor, 6, (some .boolean), 1, 3),
  (yX8_comesOf, cX8_comesOf, 6, (some .boolean), 1, 4),
  (yX8_partsLost, cX8_partsLost, 7, (some .long), 1, 2),
  (yX8_draw, cX8_draw, 12, none, 1, 3),
  (yX8_commonDivisor, cX8_commonDivisor, 3, (some .int), 0, 2),
  (yX9_isIn, cX9_isIn, 3, (some .boolean), 0, 3),
  (yX9_wall, cX9_wall, 5, (some .int), 1, 3),
  (yX9_seat, cX9_seat, 4, (some .int), 1, 2),
  (yX9_count, cX9_count, 2, (some .int), 1, 1),
  (yX9_put, cX9_put, 2, none, 1, 1),
  (yX9_feed, cX9_feed, 7, (some .int), 1, 6),
  (yX9_isLetter, cX9_isLetter, 2, (some .boolean), 1, 1),
  (yX9_isDigit, cX9_isDigit, 2, (some .boolean), 1, 1),
  (yX9_readWord, cX9_readWord, 5, none, 1, 0),
  (yX9_readNumber, cX9_readNumber, 1, none, 1, 0),
  (yX9_next, cX9_next, 2, none, 1, 0),
  (yX9_isSign, cX9_isSign, 2, (some .boolean), 1, 1),
  (yX9_isKey, cX9_isKey, 2, (some .boolean), 1, 1),
  (yX9_emit, cX9_emit, 2, none, 1, 1),
  (yX9_rank, cX9_rank, 1, (some .int), 0, 1),
  (yX9_doAll, cX9_doAll, 2, none, 1, 1),
  (yX9_await, cX9_await, 2, none, 1, 1),
  (yX9_between, cX9_between, 2, (some .boolean), 1, 0),
  (yX9_closes, cX9_closes, 1, (some .boolean), 1, 0),
  (yX9_ahead, cX9_ahead, 3, (some .boolean), 1, 1),
  (yX9_readE, cX9_readE, 5, (some .boolean), 1, 1),
  (yX9_readAll, cX9_readAll, 3, (some .int), 1, 1),
  (yX9_text, cX9_text, 2, (some .int), 1, 0),
  (yX9_force, cX9_force, 3, (some .int), 1, 1),
  (yX9_init, cX9_init, 1, none, 2, 0),
  (yX9_done, cX9_done, 3, (some .int), 0, 3),
  (yX9_says, cX9_says, 7, (some .boolean), 1, 2),
  (yX9_asks, cX9_asks, 5, (some .int), 1, 4),
  (yX9_isSong, cX9_isSong, 2, (some .boolean), 1, 1),
  (yX9_isOne, cX9_isOne, 2, (some .boolean), 1, 1),
  (yX9_areSome, cX9_areSome, 2, (some .boolean), 1, 1),
  (yX9_song, cX9_song, 3, (some .int), 1, 1),
  (yX9_needs, cX9_needs, 2, (some .int), 1, 1),
  (yX9_person, cX9_person, 4, (some .int), 1, 3),
  (yX9_teach, cX9_teach, 5, (some .int), 1, 3),
  (yX9_told, cX9_told, 3, (some .int), 1, 2),
  (yX9_size, cX9_size, 3, (some .int), 0, 1),
  (yX9_may, cX9_may, 9, (some .boolean), 1, 5),
  (yX9_heard, cX9_heard, 3, (some .int), 0, 3),
  (yX9_begin, cX9_begin, 13, (some .boolean), 1, 7),
  (yX9_whoHas, cX9_whoHas, 5, (some .int), 1, 2),
  (yX9_take, cX9_take, 4, none, 1, 2),
  (yX9_replay, cX9_replay, 10, (some .int), 1, 2),
  (yX9_evening, cX9_evening, 7, (some .int), 1, 3),
  (yX9_forget, cX9_forget, 1, (some .int), 1, 0),
  (yX9_eveningTold, cX9_eveningTold, 3, (some .int), 1, 2),
  (yX9_knows, cX9_knows, 4, (some .int), 1, 3),
  (yX9_isSo, cX9_isSo, 2, (some .boolean), 0, 2),
  (yX9_all, cX9_all, 6, (some .int), 1, 3),
  (yX9_judge, cX9_judge, 1, (some .int), 1, 0),
  (yX9_laws, cX9_laws, 3, (some .int), 1, 0),
  (yX9_mayBefore, cX9_mayBefore, 4, (some .boolean), 1, 3),
  (yX9_feast, cX9_feast, 5, (some .int), 1, 2),
  (yX9_leave, cX9_leave, 6, (some .int), 1, 3),
  (yX9_bars, cX9_bars, 7, (some .int), 1, 3),
  (yX9_ends, cX9_ends, 7, (some .int), 1, 2),
  (yX9_state, cX9_state, 3, (some .int), 1, 0),
  (yX9_take_, cX9_take_, 3, none, 1, 1),
  (yX9_much, cX9_much, 3, (some .int), 0, 2),
  (yX9_isDone, cX9_isDone, 7, (some .boolean), 1, 4),
  (yX9_plan, cX9_plan, 16, none, 1, 5),
  (yX9_isAsked, cX9_isAsked, 5, (some .boolean), 1, 4),
  (yX9_least, cX9_least, 6, (some .int), 1, 5),
  (yX9_why, cX9_why, 7, (some .int), 1, 4),
  (yX9_place, cX9_place, 7, (some .int), 1, 3),
  (yX9_whole, cX9_whole, 5, (some .int), 1, 2),
  (yX9_was, cX9_was, 12, (some .int), 1, 4),
  (yX9_parts, cX9_parts, 6, (some .long), 1, 2),
  (yX9_lost, cX9_lost, 3, (some .long), 1, 2),
  (yX9_keep, cX9_keep, 5, (some .int), 1, 2),
  (yX9_rarest, cX9_rarest, 5, (some .int), 1, 0),
  (yX9_draw, cX9_draw, 11, none, 1, 4),
  (yX9_isHow, cX9_isHow, 1, (some .boolean), 0, 1),
  (yX9_drawn, cX9_drawn, 7, (some .int), 1, 4),
  (yX9_divisor, cX9_divisor, 5, (some .int), 0, 2),
  (yX9_odds, cX9_odds, 9, (some .long), 1, 5),
  (yX9_copy, cX9_copy, 3, none, 0, 2),
  (yX9_image, cX9_image, 1, (some .int), 1, 0),
  (yX9_back, cX9_back, 3, (some .int), 1, 0),
  (yX9_isSheet, cX9_isSheet, 1, (some .boolean), 0, 1),
  (yX9_sheet, cX9_sheet, 5, (some .int), 1, 3),
  (yX9_cell, cX9_cell, 4, (some .int), 1, 3),
  (yX9_copy_, cX9_copy_, 7, (some .int), 1, 5),
  (yX9_peopleBy, cX9_peopleBy, 10, (some .int), 1, 4),
  (yX9_taken, cX9_taken, 6, (some .int), 1, 2),
  (yJ6_bitCount_0f7a4, cJ6_bitCount_0f7a4, 1, (some .int), 0, 1),
  (yJ7_fill_53178, cJ7_fill_53178, 4, none, 0, 2),
  (yJ7_copyOf_59c91, cJ7_copyOf_59c91, 3, (some (.array .int)), 0, 2),
  (yJ0_length_8abf5, cJ0_length_8abf5, 1, (some .int), 1, 0),
  (yJ0_charAt_5068e, cJ0_charAt_5068e, 2, (some .char), 1, 1)]
def xk_M (k : Nat) : Option xq_M := xk_ML[k]?
set_option maxRecDepth 100000 in
theorem xk_m0 : xq_mf (yX0_init, cX0_init, 1, none, 2, 0) := ⟨xq_wr (pl := 281) rfl rfl, by decide +kernel, by decide +kernel, xq_wd_in (pl := 76) (by decide +kernel), fun h => absurd h (by decide), fun h => absurd h (by decide), fun _ => ⟨rfl, xq_wd_in (pl := 280) (by decide +kernel), rfl⟩, Nat.le_of_ble_eq_true rfl⟩
set_option maxRecDepth 100000 in
theorem xk_m1 : xq_mf (yX1_init, cX1_init, 1, none, 2, 0) := ⟨xq_wr (pl := 136) rfl rfl, by decide +kernel, by decide +kernel, xq_wd_in (pl := 72) (by decide +kernel), fun h => absurd h (by decide), fun h => absurd h (by decide), fun _ => ⟨rfl, xq_wd_in (pl := 135) (by decide +kernel), rfl⟩, Nat.le_of_ble_eq_true rfl⟩
set_option maxRecDepth 100000 in
theorem xk_m2 : xq_mf (yX1_amount, cX1_amount, 4, (some .int), 1, 2) := ⟨xq_wr (pl := 669) rfl rfl, by decide +kernel, by decide +kernel, xq_wd_in (pl := 72) (by decide +kernel), fun h => absurd h (by decide), fun _ => ⟨xq_wd_in (pl := 667) (by decide +kernel), xq_wd_in (pl := 668) (by decide +kernel)⟩, fun h => absurd h (by decide), Nat.le_of_ble_eq_true rfl⟩
set_option maxRecDepth 100000 in
theorem xk_m3 : xq_mf (yX1_put, cX1_put, 5, none, 1, 3) := ⟨xq_wr (pl := 673) rfl rfl, by decide +kernel, by decide +kernel, xq_wd_in (pl := 72) (by decide +kernel), fun h => absurd h (by decide), fun _ => ⟨xq_wd_in (pl := 671) (by decide +kernel), xq_wd_in (pl := 672) (by decide +kernel)⟩, fun h => absurd h (by decide), Nat.le_of_ble_eq_true rfl⟩
set_option maxRecDepth 100000 in
theorem xk_m4 : xq_mf (yX1_who, cX1_who, 3, (some .int), 1, 2) := ⟨xq_wr (pl := 786) rfl rfl, by decide +kernel, by decide +kernel, xq_wd_in (pl := 72) (by decide +kernel), fun h => absurd h (by decide), fun _ => ⟨xq_wd_in (pl := 784) (by decide +kernel), xq_wd_in (pl := 785) (by decide +kernel)⟩, fun h => absurd h (by decide), Nat.le_of_ble_eq_true rfl⟩
set_option maxRecDepth 100000 in
theorem xk_m5 : xq_mf (yX1_take, cX1_take, 2, none, 1, 1) := ⟨xq_wr (pl := 727) rfl rfl, by decide +kernel, by decide +kernel, xq_wd_in (pl := 72) (by decide +kernel), fun h => absurd h (by decide), fun _ => ⟨xq_wd_in (pl := 725) (by decide +kernel), xq_wd_in (pl := 726) (by decide +kernel)⟩, fun h => absurd h (by decide), Nat.le_of_ble_eq_true rfl⟩
set_option maxRecDepth 100000 in
theorem xk_m6 : xq_mf (yX1_takeOf, cX1_takeOf, 4, none, 1, 2) := ⟨xq_wr (pl := 731) rfl rfl, by decide +kernel, by decide +kernel, xq_wd_in (pl := 72) (by decide +kernel), fun h => absurd h (by decide), fun _ => ⟨xq_wd_in (pl := 729) (by decide +kernel), xq_wd_in (pl := 730) (by decide +kernel)⟩, fun h => absurd h (by decide), Nat.le_of_ble_eq_true rfl⟩
set_option maxRecDepth 100000 in
theorem xk_m7 : xq_mf (yX2_init, cX2_init, 1, none, 2, 0) := ⟨xq_wr (pl := 100) rfl rfl, by decide +kernel, by decide +kernel, xq_wd_in (pl := 71) (by decide +kernel), fun h => absurd h (by decide), fun h => absurd h (by decide), fun _ => ⟨rfl, xq_wd_in (pl := 99) (by decide +kernel), rfl⟩, Nat.le_of_ble_eq_true rfl⟩
set_option maxRecDepth 100000 in
theorem xk_m8 : xq_mf (yX2_everyone, cX2_everyone, 1, (some .int), 1, 0) := ⟨xq_wr (pl := 806) rfl rfl, by decide +kernel, by decide +kernel, xq_wd_in (pl := 71) (by decide +kernel), fun h => absurd h (by decide), fun _ => ⟨xq_wd_in (pl := 804) (by decide +kernel), xq_wd_in (pl := 805) (by decide +kernel)⟩, fun h => absurd h (by decide), Nat.le_of_ble_eq_true rfl⟩
set_option maxRecDepth 100000 in
theorem xk_m9 : xq_mf (yX2_come, cX2_come, 4, (some .int), 1, 3) := ⟨xq_wr (pl := 647) rfl rfl, by decide +kernel, by decide +kernel, xq_wd_in (pl := 71) (by decide +kernel), fun h => absurd h (by decide), fun _ => ⟨xq_wd_in (pl := 645) (by decide +kernel), xq_wd_in (pl := 646) (by decide +kernel)⟩, fun h => absurd h (by decide), Nat.le_of_ble_eq_true rfl⟩
set_option maxRecDepth 100000 in
theorem xk_m10 : xq_mf (yX2_note, cX2_note, 5, none, 1, 1) := ⟨xq_wr (pl := 651) rfl rfl, by decide +kernel, by decide +kernel, xq_wd_in (pl := 71) (by decide +kernel), fun h => absurd h (by decide), fun _ => ⟨xq_wd_in (pl := 650) (by decide +kernel), xq_wd_in (pl := 19) (by decide +kernel)⟩, fun h => absurd h (by decide), Nat.le_of_ble_eq_true rfl⟩
set_option maxRecDepth 100000 in
theorem xk_m11 : xq_mf (yX2_singsBefore, cX2_singsBefore, 3, (some .boolean), 0, 3) := ⟨xq_wr (pl := 654) rfl rfl, by decide +kernel, by decide +kernel, xq_wd_in (pl := 71) (by decide +kernel), fun _ => xq_wd_in (pl := 653) (by decide +kernel), fun h => absurd h (by decide), fun h => absurd h (by decide), Nat.le_of_ble_eq_true rfl⟩
set_option maxRecDepth 100000 in
theorem xk_m12 : xq_mf (yX2_knowsThen, cX2_knowsThen, 3, (some .int), 0, 3) := ⟨xq_wr (pl := 657) rfl rfl, by decide +kernel, by decide +kernel, xq_wd_in (pl := 71) (by decide +kernel), fun _ => xq_wd_in (pl := 656) (by decide +kernel), fun h => absurd h (by decide), fun h => absurd h (by decide), Nat.le_of_ble_eq_true rfl⟩
set_option maxRecDepth 100000 in
theorem xk_m13 : xq_mf (yX2_isOf, cX2_isOf, 5, (some .boolean), 1, 2) := ⟨xq_wr (pl := 991) rfl rfl, by decide +kernel, by decide +kernel, xq_wd_in (pl := 71) (by decide +kernel), fun h => absurd h (by decide), fun _ => ⟨xq_wd_in (pl := 989) (by decide +kernel), xq_wd_in (pl := 990) (by decide +kernel)⟩, fun h => absurd h (by decide), Nat.le_of_ble_eq_true rfl⟩
set_option maxRecDepth 100000 in
theorem xk_m14 : xq_mf (yX2_singers, cX2_singers, 3, (some .int), 1, 2) := ⟨xq_wr (pl := 752) rfl rfl, by decide +kernel, by decide +kernel, xq_wd_in (pl := 71) (by decide +kernel), fun h => absurd h (by decide), fun _ => ⟨xq_wd_in (pl := 750) (by decide +kernel), xq_wd_in (pl := 751) (by decide +kernel)⟩, fun h => absurd h (by decide), Nat.le_of_ble_eq_true rfl⟩
set_option maxRecDepth 100000 in
theorem xk_m15 : xq_mf (yX2_anySpoils, cX2_anySpoils, 2, (some .boolean), 1, 1) := ⟨xq_wr (pl := 778) rfl rfl, by decide +kernel, by decide +kernel, xq_wd_in (pl := 71) (by decide +kernel), fun h => absurd h (by decide), fun _ => ⟨xq_wd_in (pl := 776) (by decide +kernel), xq_wd_in (pl := 777) (by decide +kernel)⟩, fun h => absurd h (by decide), Nat.le_of_ble_eq_true rfl⟩
set_option maxRecDepth 100000 in
theorem xk_m16 : xq_mf (yX2_wholeOf, cX2_wholeOf, 5, (some .int), 1, 3) := ⟨xq_wr (pl := 770) rfl rfl, by decide +kernel, by decide +kernel, xq_wd_in (pl := 71) (by decide +kernel), fun h => absurd h (by decide), fun _ => ⟨xq_wd_in (pl := 768) (by decide +kernel), xq_wd_in (pl := 769) (by decide +kernel)⟩, fun h => absurd h (by decide), Nat.le_of_ble_eq_true rfl⟩
set_option maxRecDepth 100000 in
theorem xk_m17 : xq_mf (yX2_halfOf, cX2_halfOf, 5, (some .int), 1, 3) := ⟨xq_wr (pl := 774) rfl rfl, by decide +kernel, by decide +kernel, xq_wd_in (pl := 71) (by decide +kernel), fun h => absurd h (by decide), fun _ => ⟨xq_wd_in (pl := 772) (by decide +kernel), xq_wd_in (pl := 773) (by decide +kernel)⟩, fun h => absurd h (by decide), Nat.le_of_ble_eq_true rfl⟩
set_option maxRecDepth 100000 in
theorem xk_m18 : xq_mf (yX3_init, cX3_init, 4, none, 2, 3) := ⟨xq_wr (pl := 183) rfl rfl, by decide +kernel, by decide +kernel, xq_wd_in (pl := 74) (by decide +kernel), fun h => absurd h (by decide), fun h => absurd h (by decide), fun _ => ⟨rfl, xq_wd_in (pl := 182) (by decide +kernel), rfl⟩, Nat.le_of_ble_eq_true rfl⟩
set_option maxRecDepth 100000 in
theorem xk_m19 : xq_mf (yX3_prepare, cX3_prepare, 5, none, 1, 4) := ⟨xq_wr (pl := 835) rfl rfl, by decide +kernel, by decide +kernel, xq_wd_in (pl := 74) (by decide +kernel), fun h => absurd h (by decide), fun _ => ⟨xq_wd_in (pl := 833) (by decide +kernel), xq_wd_in (pl := 834) (by decide +kernel)⟩, fun h => absurd h (by decide), Nat.le_of_ble_eq_true rfl⟩
set_option maxRecDepth 100000 in
theorem xk_m20 : xq_mf (yX3_seek, cX3_seek, 5, (some .int), 1, 3) := ⟨xq_wr (pl := 841) rfl rfl, by decide +kernel, by decide +kernel, xq_wd_in (pl := 74) (by decide +kernel), fun h => absurd h (by decide), fun _ => ⟨xq_wd_in (pl := 839) (by decide +kernel), xq_wd_in (pl := 840) (by decide +kernel)⟩, fun h => absurd h (by decide), Nat.le_of_ble_eq_true rfl⟩
set_option maxRecDepth 100000 in
theorem xk_m21 : xq_mf (yX3_standing, cX3_standing, 2, (some .int), 0, 2) := ⟨xq_wr (pl := 849) rfl rfl, by decide +kernel, by decide +kernel, xq_wd_in (pl := 74) (by decide +kernel), fun _ => xq_wd_in (pl := 848) (by decide +kernel), fun h => absurd h (by decide), fun h => absurd h (by decide), Nat.le_of_ble_eq_true rfl⟩
set_option maxRecDepth 100000 in
theorem xk_m22 : xq_mf (yX3_goOn, cX3_goOn, 8, none, 1, 4) := ⟨xq_wr (pl := 855) rfl rfl, by decide +kernel, by decide +kernel, xq_wd_in (pl := 74) (by decide +kernel), fun h => absurd h (by decide), fun _ => ⟨xq_wd_in (pl := 854) (by decide +kernel), xq_wd_in (pl := 30) (by decide +kernel)⟩, fun h => absurd h (by decide), Nat.le_of_ble_eq_true rfl⟩
set_option maxRecDepth 100000 in
theorem xk_m23 : xq_mf (yX3_isMoved, cX3_isMoved, 9, (some .boolean), 1, 3) := ⟨xq_wr (pl := 861) rfl rfl, by decide +kernel, by decide +kernel, xq_wd_in (pl := 74) (by decide +kernel), fun h => absurd h (by decide), fun _ => ⟨xq_wd_in (pl := 860) (by decide +kernel), xq_wd_in (pl := 31) (by decide +kernel)⟩, fun h => absurd h (by decide), Nat.le_of_ble_eq_true rfl⟩
set_option maxRecDepth 100000 in
theorem xk_m24 : xq_mf (yX3_isLesson, cX3_isLesson, 6, (some .boolean), 1, 3) := ⟨xq_wr (pl := 870) rfl rfl, by decide +kernel, by decide +kernel, xq_wd_in (pl := 74) (by decide +kernel), fun h => absurd h (by decide), fun _ => ⟨xq_wd_in (pl := 869) (by decide +kernel), xq_wd_in (pl := 32) (by decide +kernel)⟩, fun h => absurd h (by decide), Nat.le_of_ble_eq_true rfl⟩
set_option maxRecDepth 100000 in
theorem xk_m25 : xq_mf (yX3_reach, cX3_reach, 6, none, 1, 4) := ⟨xq_wr (pl := 846) rfl rfl, by decide +kernel, by decide +kernel, xq_wd_in (pl := 74) (by decide +kernel), fun h => absurd h (by decide), fun _ => ⟨xq_wd_in (pl := 845) (by decide +kernel), xq_wd_in (pl := 29) (by decide +kernel)⟩, fun h => absurd h (by decide), Nat.le_of_ble_eq_true rfl⟩
set_option maxRecDepth 100000 in
theorem xk_m26 : xq_mf (yX4_init, cX4_init, 1, none, 2, 0) := ⟨xq_wr (pl := 239) rfl rfl, by decide +kernel, by decide +kernel, xq_wd_in (pl := 75) (by decide +kernel), fun h => absurd h (by decide), fun h => absurd h (by decide), fun _ => ⟨rfl, xq_wd_in (pl := 238) (by decide +kernel), rfl⟩, Nat.le_of_ble_eq_true rfl⟩
set_option maxRecDepth 100000 in
theorem xk_m27 : xq_mf (yX4_add, cX4_add, 2, none, 1, 1) := ⟨xq_wr (pl := 383) rfl rfl, by decide +kernel, by decide +kernel, xq_wd_in (pl := 75) (by decide +kernel), fun h => absurd h (by decide), fun _ => ⟨xq_wd_in (pl := 381) (by decide +kernel), xq_wd_in (pl := 382) (by decide +kernel)⟩, fun h => absurd h (by decide), Nat.le_of_ble_eq_true rfl⟩
set_option maxRecDepth 100000 in
theorem xk_m28 : xq_mf (yX4_clear, cX4_clear, 1, none, 1, 0) := ⟨xq_wr (pl := 509) rfl rfl, by decide +kernel, by decide +kernel, xq_wd_in (pl := 75) (by decide +kernel), fun h => absurd h (by decide), fun _ => ⟨xq_wd_in (pl := 507) (by decide +kernel), xq_wd_in (pl := 508) (by decide +kernel)⟩, fun h => absurd h (by decide), Nat.le_of_ble_eq_true rfl⟩
set_option maxRecDepth 100000 in
theorem xk_m29 : xq_mf (yX4_read, cX4_read, 3, (some (.object "WhoeverKnowsSings$Text")), 1, 0) := ⟨xq_wr (pl := 387) rfl rfl, by decide +kernel, by decide +kernel, xq_wd_in (pl := 75) (by decide +kernel), fun h => absurd h (by decide), fun _ => ⟨xq_wd_in (pl := 385) (by decide +kernel), xq_wd_in (pl := 386) (by decide +kernel)⟩, fun h => absurd h (by decide), Nat.le_of_ble_eq_true rfl⟩
set_option maxRecDepth 100000 in
theorem xk_m30 : xq_mf (yX4_readPart, cX4_readPart, 2, none, 1, 1) := ⟨xq_wr (pl := 439) rfl rfl, by decide +kernel, by decide +kernel, xq_wd_in (pl := 75) (by decide +kernel), fun h => absurd h (by decide), fun _ => ⟨xq_wd_in (pl := 438) (by decide +kernel), xq_wd_in (pl := 7) (by decide +kernel)⟩, fun h => absurd h (by decide), Nat.le_of_ble_eq_true rfl⟩
set_option maxRecDepth 100000 in
theorem xk_m31 : xq_mf (yX4_readOr, cX4_readOr, 3, none, 1, 1) := ⟨xq_wr (pl := 447) rfl rfl, by decide +kernel, by decide +kernel, xq_wd_in (pl := 75) (by decide +kernel), fun h => absurd h (by decide), fun _ => ⟨xq_wd_in (pl := 446) (by decide +kernel), xq_wd_in (pl := 9) (by decide +kernel)⟩, fun h => absurd h (by decide), Nat.le_of_ble_eq_true rfl⟩
set_option maxRecDepth 100000 in
theorem xk_m32 : xq_mf (yX4_readAnd, cX4_readAnd, 3, none, 1, 1) := ⟨xq_wr (pl := 451) rfl rfl, by decide +kernel, by decide +kernel, xq_wd_in (pl := 75) (by decide +kernel), fun h => absurd h (by decide), fun _ => ⟨xq_wd_in (pl := 450) (by decide +kernel), xq_wd_in (pl := 10) (by decide +kernel)⟩, fun h => absurd h (by decide), Nat.le_of_ble_eq_true rfl⟩
set_option maxRecDepth 100000 in
theorem xk_m33 : xq_mf (yX4_readNot, cX4_readNot, 3, none, 1, 1) := ⟨xq_wr (pl := 455) rfl rfl, by decide +kernel, by decide +kernel, xq_wd_in (pl := 75) (by decide +kernel), fun h => absurd h (by decide), fun _ => ⟨xq_wd_in (pl := 454) (by decide +kernel), xq_wd_in (pl := 11) (by decide +kernel)⟩, fun h => absurd h (by decide), Nat.le_of_ble_eq_true rfl⟩
set_option maxRecDepth 100000 in
theorem xk_m34 : xq_mf (yX4_readSum, cX4_readSum, 4, none, 1, 1) := ⟨xq_wr (pl := 463) rfl rfl, by decide +kernel, by decide +kernel, xq_wd_in (pl := 75) (by decide +kernel), fun h => absurd h (by decide), fun _ => ⟨xq_wd_in (pl := 462) (by decide +kernel), xq_wd_in (pl := 13) (by decide +kernel)⟩, fun h => absurd h (by decide), Nat.le_of_ble_eq_true rfl⟩
set_option maxRecDepth 100000 in
theorem xk_m35 : xq_mf (yX4_readTerm, cX4_readTerm, 3, none, 1, 1) := ⟨xq_wr (pl := 467) rfl rfl, by decide +kernel, by decide +kernel, xq_wd_in (pl := 75) (by decide +kernel), fun h => absurd h (by decide), fun _ => ⟨xq_wd_in (pl := 466) (by decide +kernel), xq_wd_in (pl := 14) (by decide +kernel)⟩, fun h => absurd h (by decide), Nat.le_of_ble_eq_true rfl⟩
set_option maxRecDepth 100000 in
theorem xk_m36 : xq_mf (yX4_readSingle, cX4_readSingle, 2, none, 1, 1) := ⟨xq_wr (pl := 471) rfl rfl, by decide +kernel, by decide +kernel, xq_wd_in (pl := 75) (by decide +kernel), fun h => absurd h (by decide), fun _ => ⟨xq_wd_in (pl := 470) (by decide +kernel), xq_wd_in (pl := 15) (by decide +kernel)⟩, fun h => absurd h (by decide), Nat.le_of_ble_eq_true rfl⟩
set_option maxRecDepth 100000 in
theorem xk_m37 : xq_mf (yX4_step, cX4_step, 2, none, 1, 1) := ⟨xq_wr (pl := 459) rfl rfl, by decide +kernel, by decide +kernel, xq_wd_in (pl := 75) (by decide +kernel), fun h => absurd h (by decide), fun _ => ⟨xq_wd_in (pl := 458) (by decide +kernel), xq_wd_in (pl := 12) (by decide +kernel)⟩, fun h => absurd h (by decide), Nat.le_of_ble_eq_true rfl⟩
set_option maxRecDepth 100000 in
theorem xk_m38 : xq_mf (yX4_expect, cX4_expect, 2, none, 1, 1) := ⟨xq_wr (pl := 443) rfl rfl, by decide +kernel, by decide +kernel, xq_wd_in (pl := 75) (by decide +kernel), fun h => absurd h (by decide), fun _ => ⟨xq_wd_in (pl := 442) (by decide +kernel), xq_wd_in (pl := 8) (by decide +kernel)⟩, fun h => absurd h (by decide), Nat.le_of_ble_eq_true rfl⟩
set_option maxRecDepth 100000 in
theorem xk_m39 : xq_mf (yX4_fail, cX4_fail, 1, none, 1, 0) := ⟨xq_wr (pl := 424) rfl rfl, by decide +kernel, by decide +kernel, xq_wd_in (pl := 75) (by decide +kernel), fun h => absurd h (by decide), fun _ => ⟨xq_wd_in (pl := 423) (by decide +kernel), xq_wd_in (pl := 4) (by decide +kernel)⟩, fun h => absurd h (by decide), Nat.le_of_ble_eq_true rfl⟩
set_option maxRecDepth 100000 in
theorem xk_m40 : xq_mf (yX4_next, cX4_next, 1, none, 1, 0) := ⟨xq_wr (pl := 391) rfl rfl, by decide +kernel, by decide +kernel, xq_wd_in (pl := 75) (by decide +kernel), fun h => absurd h (by decide), fun _ => ⟨xq_wd_in (pl := 390) (by decide +kernel), xq_wd_in (pl := 0) (by decide +kernel)⟩, fun h => absurd h (by decide), Nat.le_of_ble_eq_true rfl⟩
set_option maxRecDepth 100000 in
theorem xk_m41 : xq_mf (yX4_readWord, cX4_readWord, 1, none, 1, 0) := ⟨xq_wr (pl := 398) rfl rfl, by decide +kernel, by decide +kernel, xq_wd_in (pl := 75) (by decide +kernel), fun h => absurd h (by decide), fun _ => ⟨xq_wd_in (pl := 397) (by decide +kernel), xq_wd_in (pl := 1) (by decide +kernel)⟩, fun h => absurd h (by decide), Nat.le_of_ble_eq_true rfl⟩
set_option maxRecDepth 100000 in
theorem xk_m42 : xq_mf (yX4_readNumber, cX4_readNumber, 1, none, 1, 0) := ⟨xq_wr (pl := 431) rfl rfl, by decide +kernel, by decide +kernel, xq_wd_in (pl := 75) (by decide +kernel), fun h => absurd h (by decide), fun _ => ⟨xq_wd_in (pl := 430) (by decide +kernel), xq_wd_in (pl := 5) (by decide +kernel)⟩, fun h => absurd h (by decide), Nat.le_of_ble_eq_true rfl⟩
set_option maxRecDepth 100000 in
theorem xk_m43 : xq_mf (yX4_readSign, cX4_readSign, 3, none, 1, 0) := ⟨xq_wr (pl := 435) rfl rfl, by decide +kernel, by decide +kernel, xq_wd_in (pl := 75) (by decide +kernel), fun h => absurd h (by decide), fun _ => ⟨xq_wd_in (pl := 434) (by decide +kernel), xq_wd_in (pl := 6) (by decide +kernel)⟩, fun h => absurd h (by decide), Nat.le_of_ble_eq_true rfl⟩
set_option maxRecDepth 100000 in
theorem xk_m44 : xq_mf (yX4_isLetter, cX4_isLetter, 1, (some .boolean), 0, 1) := ⟨xq_wr (pl := 394) rfl rfl, by decide +kernel, by decide +kernel, xq_wd_in (pl := 75) (by decide +kernel), fun _ => xq_wd_in (pl := 393) (by decide +kernel), fun h => absurd h (by decide), fun h => absurd h (by decide), Nat.le_of_ble_eq_true rfl⟩
set_option maxRecDepth 100000 in
theorem xk_m45 : xq_mf (yX4_isDigit, cX4_isDigit, 1, (some .boolean), 0, 1) := ⟨xq_wr (pl := 427) rfl rfl, by decide +kernel, by decide +kernel, xq_wd_in (pl := 75) (by decide +kernel), fun _ => xq_wd_in (pl := 426) (by decide +kernel), fun h => absurd h (by decide), fun h => absurd h (by decide), Nat.le_of_ble_eq_true rfl⟩
set_option maxRecDepth 100000 in
theorem xk_m46 : xq_mf (yX4_wordToken, cX4_wordToken, 1, (some .int), 1, 0) := ⟨xq_wr (pl := 402) rfl rfl, by decide +kernel, by decide +kernel, xq_wd_in (pl := 75) (by decide +kernel), fun h => absurd h (by decide), fun _ => ⟨xq_wd_in (pl := 401) (by decide +kernel), xq_wd_in (pl := 2) (by decide +kernel)⟩, fun h => absurd h (by decide), Nat.le_of_ble_eq_true rfl⟩
set_option maxRecDepth 100000 in
theorem xk_m47 : xq_mf (yX4_spells, cX4_spells, 3, (some .boolean), 1, 1) := ⟨xq_wr (pl := 407) rfl rfl, by decide +kernel, by decide +kernel, xq_wd_in (pl := 75) (by decide +kernel), fun h => absurd h (by decide), fun _ => ⟨xq_wd_in (pl := 406) (by decide +kernel), xq_wd_in (pl := 3) (by decide +kernel)⟩, fun h => absurd h (by decide), Nat.le_of_ble_eq_true rfl⟩
set_option maxRecDepth 100000 in
theorem xk_m48 : xq_mf (yX5_init, cX5_init, 1, none, 2, 0) := ⟨xq_wr (pl := 316) rfl rfl, by decide +kernel, by decide +kernel, xq_wd_in (pl := 78) (by decide +kernel), fun h => absurd h (by decide), fun h => absurd h (by decide), fun _ => ⟨rfl, xq_wd_in (pl := 315) (by decide +kernel), rfl⟩, Nat.le_of_ble_eq_true rfl⟩
set_option maxRecDepth 100000 in
theorem xk_m49 : xq_mf (yX5_become, cX5_become, 3, none, 1, 2) := ⟨xq_wr (pl := 961) rfl rfl, by decide +kernel, by decide +kernel, xq_wd_in (pl := 78) (by decide +kernel), fun h => absurd h (by decide), fun _ => ⟨xq_wd_in (pl := 959) (by decide +kernel), xq_wd_in (pl := 960) (by decide +kernel)⟩, fun h => absurd h (by decide), Nat.le_of_ble_eq_true rfl⟩
set_option maxRecDepth 100000 in
theorem xk_m50 : xq_mf (yX5_has, cX5_has, 2, (some .boolean), 1, 1) := ⟨xq_wr (pl := 699) rfl rfl, by decide +kernel, by decide +kernel, xq_wd_in (pl := 78) (by decide +kernel), fun h => absurd h (by decide), fun _ => ⟨xq_wd_in (pl := 697) (by decide +kernel), xq_wd_in (pl := 698) (by decide +kernel)⟩, fun h => absurd h (by decide), Nat.le_of_ble_eq_true rfl⟩
set_option maxRecDepth 100000 in
theorem xk_m51 : xq_mf (yX5_hasRange, cX5_hasRange, 3, (some .boolean), 1, 2) := ⟨xq_wr (pl := 979) rfl rfl, by decide +kernel, by decide +kernel, xq_wd_in (pl := 78) (by decide +kernel), fun h => absurd h (by decide), fun _ => ⟨xq_wd_in (pl := 977) (by decide +kernel), xq_wd_in (pl := 978) (by decide +kernel)⟩, fun h => absurd h (by decide), Nat.le_of_ble_eq_true rfl⟩
set_option maxRecDepth 100000 in
theorem xk_m52 : xq_mf (yX5_at, cX5_at, 2, (some .int), 1, 1) := ⟨xq_wr (pl := 695) rfl rfl, by decide +kernel, by decide +kernel, xq_wd_in (pl := 78) (by decide +kernel), fun h => absurd h (by decide), fun _ => ⟨xq_wd_in (pl := 693) (by decide +kernel), xq_wd_in (pl := 694) (by decide +kernel)⟩, fun h => absurd h (by decide), Nat.le_of_ble_eq_true rfl⟩
set_option maxRecDepth 100000 in
theorem xk_m53 : xq_mf (yX5_put, cX5_put, 3, none, 1, 2) := ⟨xq_wr (pl := 971) rfl rfl, by decide +kernel, by decide +kernel, xq_wd_in (pl := 78) (by decide +kernel), fun h => absurd h (by decide), fun _ => ⟨xq_wd_in (pl := 969) (by decide +kernel), xq_wd_in (pl := 970) (by decide +kernel)⟩, fun h => absurd h (by decide), Nat.le_of_ble_eq_true rfl⟩
set_option maxRecDepth 100000 in
theorem xk_m54 : xq_mf (yX6_init, cX6_init, 3, none, 2, 2) := ⟨xq_wr (pl := 158) rfl rfl, by decide +kernel, by decide +kernel, xq_wd_in (pl := 73) (by decide +kernel), fun h => absurd h (by decide), fun h => absurd h (by decide), fun _ => ⟨rfl, xq_wd_in (pl := 157) (by decide +kernel), rfl⟩, Nat.le_of_ble_eq_true rfl⟩
set_option maxRecDepth 100000 in
theorem xk_m55 : xq_mf (yX6_begin, cX6_begin, 5, none, 1, 4) := ⟨xq_wr (pl := 600) rfl rfl, by decide +kernel, by decide +kernel, xq_wd_in (pl := 73) (by decide +kernel), fun h => absurd h (by decide), fun _ => ⟨xq_wd_in (pl := 598) (by decide +kernel), xq_wd_in (pl := 599) (by decide +kernel)⟩, fun h => absurd h (by decide), Nat.le_of_ble_eq_true rfl⟩
set_option maxRecDepth 100000 in
theorem xk_m56 : xq_mf (yX6_before, cX6_before, 4, none, 1, 3) := ⟨xq_wr (pl := 604) rfl rfl, by decide +kernel, by decide +kernel, xq_wd_in (pl := 73) (by decide +kernel), fun h => absurd h (by decide), fun _ => ⟨xq_wd_in (pl := 602) (by decide +kernel), xq_wd_in (pl := 603) (by decide +kernel)⟩, fun h => absurd h (by decide), Nat.le_of_ble_eq_true rfl⟩
set_option maxRecDepth 100000 in
theorem xk_m57 : xq_mf (yX6_may, cX6_may, 4, (some .boolean), 1, 2) := ⟨xq_wr (pl := 738) rfl rfl, by decide +kernel, by decide +kernel, xq_wd_in (pl := 73) (by decide +kernel), fun h => absurd h (by decide), fun _ => ⟨xq_wd_in (pl := 736) (by decide +kernel), xq_wd_in (pl := 737) (by decide +kernel)⟩, fun h => absurd h (by decide), Nat.le_of_ble_eq_true rfl⟩
set_option maxRecDepth 100000 in
theorem xk_m58 : xq_mf (yX6_spread, cX6_spread, 7, none, 1, 3) := ⟨xq_wr (pl := 758) rfl rfl, by decide +kernel, by decide +kernel, xq_wd_in (pl := 73) (by decide +kernel), fun h => absurd h (by decide), fun _ => ⟨xq_wd_in (pl := 756) (by decide +kernel), xq_wd_in (pl := 757) (by decide +kernel)⟩, fun h => absurd h (by decide), Nat.le_of_ble_eq_true rfl⟩
set_option maxRecDepth 100000 in
theorem xk_m59 : xq_mf (yX6_singers, cX6_singers, 3, (some .int), 1, 2) := ⟨xq_wr (pl := 748) rfl rfl, by decide +kernel, by decide +kernel, xq_wd_in (pl := 73) (by decide +kernel), fun h => absurd h (by decide), fun _ => ⟨xq_wd_in (pl := 746) (by decide +kernel), xq_wd_in (pl := 747) (by decide +kernel)⟩, fun h => absurd h (by decide), Nat.le_of_ble_eq_true rfl⟩
set_option maxRecDepth 100000 in
theorem xk_m60 : xq_mf (yX6_able, cX6_able, 4, (some .int), 1, 1) := ⟨xq_wr (pl := 766) rfl rfl, by decide +kernel, by decide +kernel, xq_wd_in (pl := 73) (by decide +kernel), fun h => absurd h (by decide), fun _ => ⟨xq_wd_in (pl := 765) (by decide +kernel), xq_wd_in (pl := 25) (by decide +kernel)⟩, fun h => absurd h (by decide), Nat.le_of_ble_eq_true rfl⟩
set_option maxRecDepth 100000 in
theorem xk_m61 : xq_mf (yX6_couldTeach, cX6_couldTeach, 3, (some .boolean), 1, 2) := ⟨xq_wr (pl := 865) rfl rfl, by decide +kernel, by decide +kernel, xq_wd_in (pl := 73) (by decide +kernel), fun h => absurd h (by decide), fun _ => ⟨xq_wd_in (pl := 863) (by decide +kernel), xq_wd_in (pl := 864) (by decide +kernel)⟩, fun h => absurd h (by decide), Nat.le_of_ble_eq_true rfl⟩
set_option maxRecDepth 100000 in
theorem xk_m62 : xq_mf (yX6_hear, cX6_hear, 12, none, 1, 4) := ⟨xq_wr (pl := 762) rfl rfl, by decide +kernel, by decide +kernel, xq_wd_in (pl := 73) (by decide +kernel), fun h => absurd h (by decide), fun _ => ⟨xq_wd_in (pl := 760) (by decide +kernel), xq_wd_in (pl := 761) (by decide +kernel)⟩, fun h => absurd h (by decide), Nat.le_of_ble_eq_true rfl⟩
set_option maxRecDepth 100000 in
theorem xk_m63 : xq_mf (yX6_says, cX6_says, 9, (some .boolean), 1, 1) := ⟨xq_wr (pl := 608) rfl rfl, by decide +kernel, by decide +kernel, xq_wd_in (pl := 73) (by decide +kernel), fun h => absurd h (by decide), fun _ => ⟨xq_wd_in (pl := 606) (by decide +kernel), xq_wd_in (pl := 607) (by decide +kernel)⟩, fun h => absurd h (by decide), Nat.le_of_ble_eq_true rfl⟩
set_option maxRecDepth 100000 in
theorem xk_m64 : xq_mf (yX6_valueOf, cX6_valueOf, 3, (some .int), 1, 1) := ⟨xq_wr (pl := 621) rfl rfl, by decide +kernel, by decide +kernel, xq_wd_in (pl := 73) (by decide +kernel), fun h => absurd h (by decide), fun _ => ⟨xq_wd_in (pl := 620) (by decide +kernel), xq_wd_in (pl := 17) (by decide +kernel)⟩, fun h => absurd h (by decide), Nat.le_of_ble_eq_true rfl⟩
set_option maxRecDepth 100000 in
theorem xk_m65 : xq_mf (yX6_unary, cX6_unary, 2, (some .int), 0, 2) := ⟨xq_wr (pl := 624) rfl rfl, by decide +kernel, by decide +kernel, xq_wd_in (pl := 73) (by decide +kernel), fun _ => xq_wd_in (pl := 623) (by decide +kernel), fun h => absurd h (by decide), fun h => absurd h (by decide), Nat.le_of_ble_eq_true rfl⟩
set_option maxRecDepth 100000 in
theorem xk_m66 : xq_mf (yX6_binary, cX6_binary, 3, (some .int), 0, 3) := ⟨xq_wr (pl := 627) rfl rfl, by decide +kernel, by decide +kernel, xq_wd_in (pl := 73) (by decide +kernel), fun _ => xq_wd_in (pl := 626) (by decide +kernel), fun h => absurd h (by decide), fun h => absurd h (by decide), Nat.le_of_ble_eq_true rfl⟩
set_option maxRecDepth 100000 in
theorem xk_m67 : xq_mf (yX7_init, cX7_init, 4, none, 2, 3) := ⟨xq_wr (pl := 492) rfl rfl, by decide +kernel, by decide +kernel, xq_wd_in (pl := 83) (by decide +kernel), fun h => absurd h (by decide), fun h => absurd h (by decide), fun _ => ⟨rfl, xq_wd_in (pl := 491) (by decide +kernel), rfl⟩, Nat.le_of_ble_eq_true rfl⟩
set_option maxRecDepth 100000 in
theorem xk_m68 : xq_mf (yX7_from, cX7_from, 2, (some .int), 1, 1) := ⟨xq_wr (pl := 617) rfl rfl, by decide +kernel, by decide +kernel, xq_wd_in (pl := 83) (by decide +kernel), fun h => absurd h (by decide), fun _ => ⟨xq_wd_in (pl := 615) (by decide +kernel), xq_wd_in (pl := 616) (by decide +kernel)⟩, fun h => absurd h (by decide), Nat.le_of_ble_eq_true rfl⟩
set_option maxRecDepth 100000 in
theorem xk_m69 : xq_mf (yX7_to, cX7_to, 2, (some .int), 1, 1) := ⟨xq_wr (pl := 612) rfl rfl, by decide +kernel, by decide +kernel, xq_wd_in (pl := 83) (by decide +kernel), fun h => absurd h (by decide), fun _ => ⟨xq_wd_in (pl := 610) (by decide +kernel), xq_wd_in (pl := 611) (by decide +kernel)⟩, fun h => absurd h (by decide), Nat.le_of_ble_eq_true rfl⟩
set_option maxRecDepth 100000 in
theorem xk_m70 : xq_mf (yX8_init, cX8_init, 2, none, 2, 0) := ⟨xq_wr (pl := 92) rfl rfl, by decide +kernel, by decide +kernel, xq_wd_in (pl := 70) (by decide +kernel), fun h => absurd h (by decide), fun h => absurd h (by decide), fun _ => ⟨rfl, xq_wd_in (pl := 91) (by decide +kernel), rfl⟩, Nat.le_of_ble_eq_true rfl⟩
set_option maxRecDepth 100000 in
theorem xk_m71 : xq_mf (yX8_wall, cX8_wall, 5, (some .int), 1, 3) := ⟨xq_wr (pl := 565) rfl rfl, by decide +kernel, by decide +kernel, xq_wd_in (pl := 70) (by decide +kernel), fun h => absurd h (by decide), fun _ => ⟨xq_wd_in (pl := 563) (by decide +kernel), xq_wd_in (pl := 564) (by decide +kernel)⟩, fun h => absurd h (by decide), Nat.le_of_ble_eq_true rfl⟩
set_option maxRecDepth 100000 in
theorem xk_m72 : xq_mf (yX8_seat, cX8_seat, 4, (some .int), 1, 2) := ⟨xq_wr (pl := 572) rfl rfl, by decide +kernel, by decide +kernel, xq_wd_in (pl := 70) (by decide +kernel), fun h => absurd h (by decide), fun _ => ⟨xq_wd_in (pl := 570) (by decide +kernel), xq_wd_in (pl := 571) (by decide +kernel)⟩, fun h => absurd h (by decide), Nat.le_of_ble_eq_true rfl⟩
set_option maxRecDepth 100000 in
theorem xk_m73 : xq_mf (yX8_count, cX8_count, 2, (some .int), 1, 1) := ⟨xq_wr (pl := 576) rfl rfl, by decide +kernel, by decide +kernel, xq_wd_in (pl := 70) (by decide +kernel), fun h => absurd h (by decide), fun _ => ⟨xq_wd_in (pl := 574) (by decide +kernel), xq_wd_in (pl := 575) (by decide +kernel)⟩, fun h => absurd h (by decide), Nat.le_of_ble_eq_true rfl⟩
set_option maxRecDepth 100000 in
theorem xk_m74 : xq_mf (yX8_feed, cX8_feed, 7, (some .int), 1, 6) := ⟨xq_wr (pl := 580) rfl rfl, by decide +kernel, by decide +kernel, xq_wd_in (pl := 70) (by decide +kernel), fun h => absurd h (by decide), fun _ => ⟨xq_wd_in (pl := 578) (by decide +kernel), xq_wd_in (pl := 579) (by decide +kernel)⟩, fun h => absurd h (by decide), Nat.le_of_ble_eq_true rfl⟩
set_option maxRecDepth 100000 in
theorem xk_m75 : xq_mf (yX8_text, cX8_text, 2, (some .int), 1, 0) := ⟨xq_wr (pl := 584) rfl rfl, by decide +kernel, by decide +kernel, xq_wd_in (pl := 70) (by decide +kernel), fun h => absurd h (by decide), fun _ => ⟨xq_wd_in (pl := 582) (by decide +kernel), xq_wd_in (pl := 583) (by decide +kernel)⟩, fun h => absurd h (by decide), Nat.le_of_ble_eq_true rfl⟩
set_option maxRecDepth 100000 in
theorem xk_m76 : xq_mf (yX8_force, cX8_force, 3, (some .int), 1, 1) := ⟨xq_wr (pl := 588) rfl rfl, by decide +kernel, by decide +kernel, xq_wd_in (pl := 70) (by decide +kernel), fun h => absurd h (by decide), fun _ => ⟨xq_wd_in (pl := 586) (by decide +kernel), xq_wd_in (pl := 587) (by decide +kernel)⟩, fun h => absurd h (by decide), Nat.le_of_ble_eq_true rfl⟩
set_option maxRecDepth 100000 in
theorem xk_m77 : xq_mf (yX8_asks, cX8_asks, 5, (some .int), 1, 4) := ⟨xq_wr (pl := 592) rfl rfl, by decide +kernel, by decide +kernel, xq_wd_in (pl := 70) (by decide +kernel), fun h => absurd h (by decide), fun _ => ⟨xq_wd_in (pl := 590) (by decide +kernel), xq_wd_in (pl := 591) (by decide +kernel)⟩, fun h => absurd h (by decide), Nat.le_of_ble_eq_true rfl⟩
set_option maxRecDepth 100000 in
theorem xk_m78 : xq_mf (yX8_song, cX8_song, 2, (some .int), 1, 1) := ⟨xq_wr (pl := 631) rfl rfl, by decide +kernel, by decide +kernel, xq_wd_in (pl := 70) (by decide +kernel), fun h => absurd h (by decide), fun _ => ⟨xq_wd_in (pl := 629) (by decide +kernel), xq_wd_in (pl := 630) (by decide +kernel)⟩, fun h => absurd h (by decide), Nat.le_of_ble_eq_true rfl⟩
set_option maxRecDepth 100000 in
theorem xk_m79 : xq_mf (yX8_needs, cX8_needs, 2, (some .int), 1, 1) := ⟨xq_wr (pl := 639) rfl rfl, by decide +kernel, by decide +kernel, xq_wd_in (pl := 70) (by decide +kernel), fun h => absurd h (by decide), fun _ => ⟨xq_wd_in (pl := 637) (by decide +kernel), xq_wd_in (pl := 638) (by decide +kernel)⟩, fun h => absurd h (by decide), Nat.le_of_ble_eq_true rfl⟩
set_option maxRecDepth 100000 in
theorem xk_m80 : xq_mf (yX8_person, cX8_person, 4, (some .int), 1, 3) := ⟨xq_wr (pl := 643) rfl rfl, by decide +kernel, by decide +kernel, xq_wd_in (pl := 70) (by decide +kernel), fun h => absurd h (by decide), fun _ => ⟨xq_wd_in (pl := 641) (by decide +kernel), xq_wd_in (pl := 642) (by decide +kernel)⟩, fun h => absurd h (by decide), Nat.le_of_ble_eq_true rfl⟩
set_option maxRecDepth 100000 in
theorem xk_m81 : xq_mf (yX8_teach, cX8_teach, 5, (some .int), 1, 3) := ⟨xq_wr (pl := 661) rfl rfl, by decide +kernel, by decide +kernel, xq_wd_in (pl := 70) (by decide +kernel), fun h => absurd h (by decide), fun _ => ⟨xq_wd_in (pl := 659) (by decide +kernel), xq_wd_in (pl := 660) (by decide +kernel)⟩, fun h => absurd h (by decide), Nat.le_of_ble_eq_true rfl⟩
set_option maxRecDepth 100000 in
theorem xk_m82 : xq_mf (yX8_told, cX8_told, 3, (some .int), 1, 2) := ⟨xq_wr (pl := 677) rfl rfl, by decide +kernel, by decide +kernel, xq_wd_in (pl := 70) (by decide +kernel), fun h => absurd h (by decide), fun _ => ⟨xq_wd_in (pl := 675) (by decide +kernel), xq_wd_in (pl := 676) (by decide +kernel)⟩, fun h => absurd h (by decide), Nat.le_of_ble_eq_true rfl⟩
set_option maxRecDepth 100000 in
theorem xk_m83 : xq_mf (yX8_evening, cX8_evening, 7, (some .int), 1, 3) := ⟨xq_wr (pl := 681) rfl rfl, by decide +kernel, by decide +kernel, xq_wd_in (pl := 70) (by decide +kernel), fun h => absurd h (by decide), fun _ => ⟨xq_wd_in (pl := 679) (by decide +kernel), xq_wd_in (pl := 680) (by decide +kernel)⟩, fun h => absurd h (by decide), Nat.le_of_ble_eq_true rfl⟩
set_option maxRecDepth 100000 in
theorem xk_m84 : xq_mf (yX8_forget, cX8_forget, 1, (some .int), 1, 0) := ⟨xq_wr (pl := 707) rfl rfl, by decide +kernel, by decide +kernel, xq_wd_in (pl := 70) (by decide +kernel), fun h => absurd h (by decide), fun _ => ⟨xq_wd_in (pl := 705) (by decide +kernel), xq_wd_in (pl := 706) (by decide +kernel)⟩, fun h => absurd h (by decide), Nat.le_of_ble_eq_true rfl⟩
set_option maxRecDepth 100000 in
theorem xk_m85 : xq_mf (yX8_eveningTold, cX8_eveningTold, 3, (some .int), 1, 2) := ⟨xq_wr (pl := 711) rfl rfl, by decide +kernel, by decide +kernel, xq_wd_in (pl := 70) (by decide +kernel), fun h => absurd h (by decide), fun _ => ⟨xq_wd_in (pl := 709) (by decide +kernel), xq_wd_in (pl := 710) (by decide +kernel)⟩, fun h => absurd h (by decide), Nat.le_of_ble_eq_true rfl⟩
set_option maxRecDepth 100000 in
theorem xk_m86 : xq_mf (yX8_knows, cX8_knows, 4, (some .int), 1, 3) := ⟨xq_wr (pl := 715) rfl rfl, by decide +kernel, by decide +kernel, xq_wd_in (pl := 70) (by decide +kernel), fun h => absurd h (by decide), fun _ => ⟨xq_wd_in (pl := 713) (by decide +kernel), xq_wd_in (pl := 714) (by decide +kernel)⟩, fun h => absurd h (by decide), Nat.le_of_ble_eq_true rfl⟩
set_option maxRecDepth 100000 in
theorem xk_m87 : xq_mf (yX8_all, cX8_all, 4, (some .int), 1, 3) := ⟨xq_wr (pl := 782) rfl rfl, by decide +kernel, by decide +kernel, xq_wd_in (pl := 70) (by decide +kernel), fun h => absurd h (by decide), fun _ => ⟨xq_wd_in (pl := 780) (by decide +kernel), xq_wd_in (pl := 781) (by decide +kernel)⟩, fun h => absurd h (by decide), Nat.le_of_ble_eq_true rfl⟩
set_option maxRecDepth 100000 in
theorem xk_m88 : xq_mf (yX8_judge, cX8_judge, 1, (some .int), 1, 0) := ⟨xq_wr (pl := 790) rfl rfl, by decide +kernel, by decide +kernel, xq_wd_in (pl := 70) (by decide +kernel), fun h => absurd h (by decide), fun _ => ⟨xq_wd_in (pl := 788) (by decide +kernel), xq_wd_in (pl := 789) (by decide +kernel)⟩, fun h => absurd h (by decide), Nat.le_of_ble_eq_true rfl⟩
set_option maxRecDepth 100000 in
theorem xk_m89 : xq_mf (yX8_laws, cX8_laws, 3, (some .int), 1, 0) := ⟨xq_wr (pl := 794) rfl rfl, by decide +kernel, by decide +kernel, xq_wd_in (pl := 70) (by decide +kernel), fun h => absurd h (by decide), fun _ => ⟨xq_wd_in (pl := 792) (by decide +kernel), xq_wd_in (pl := 793) (by decide +kernel)⟩, fun h => absurd h (by decide), Nat.le_of_ble_eq_true rfl⟩
set_option maxRecDepth 100000 in
theorem xk_m90 : xq_mf (yX8_feast, cX8_feast, 5, (some .int), 1, 2) := ⟨xq_wr (pl := 798) rfl rfl, by decide +kernel, by decide +kernel, xq_wd_in (pl := 70) (by decide +kernel), fun h => absurd h (by decide), fun _ => ⟨xq_wd_in (pl := 796) (by decide +kernel), xq_wd_in (pl := 797) (by decide +kernel)⟩, fun h => absurd h (by decide), Nat.le_of_ble_eq_true rfl⟩
set_option maxRecDepth 100000 in
theorem xk_m91 : xq_mf (yX8_leave, cX8_leave, 7, (some .int), 1, 3) := ⟨xq_wr (pl := 814) rfl rfl, by decide +kernel, by decide +kernel, xq_wd_in (pl := 70) (by decide +kernel), fun h => absurd h (by decide), fun _ => ⟨xq_wd_in (pl := 812) (by decide +kernel), xq_wd_in (pl := 813) (by decide +kernel)⟩, fun h => absurd h (by decide), Nat.le_of_ble_eq_true rfl⟩
set_option maxRecDepth 100000 in
theorem xk_m92 : xq_mf (yX8_bars, cX8_bars, 7, (some .int), 1, 3) := ⟨xq_wr (pl := 819) rfl rfl, by decide +kernel, by decide +kernel, xq_wd_in (pl := 70) (by decide +kernel), fun h => absurd h (by decide), fun _ => ⟨xq_wd_in (pl := 817) (by decide +kernel), xq_wd_in (pl := 818) (by decide +kernel)⟩, fun h => absurd h (by decide), Nat.le_of_ble_eq_true rfl⟩
set_option maxRecDepth 100000 in
theorem xk_m93 : xq_mf (yX8_ends, cX8_ends, 5, (some .int), 1, 2) := ⟨xq_wr (pl := 823) rfl rfl, by decide +kernel, by decide +kernel, xq_wd_in (pl := 70) (by decide +kernel), fun h => absurd h (by decide), fun _ => ⟨xq_wd_in (pl := 821) (by decide +kernel), xq_wd_in (pl := 822) (by decide +kernel)⟩, fun h => absurd h (by decide), Nat.le_of_ble_eq_true rfl⟩
set_option maxRecDepth 100000 in
theorem xk_m94 : xq_mf (yX8_least, cX8_least, 6, (some .int), 1, 5) := ⟨xq_wr (pl := 831) rfl rfl, by decide +kernel, by decide +kernel, xq_wd_in (pl := 70) (by decide +kernel), fun h => absurd h (by decide), fun _ => ⟨xq_wd_in (pl := 829) (by decide +kernel), xq_wd_in (pl := 830) (by decide +kernel)⟩, fun h => absurd h (by decide), Nat.le_of_ble_eq_true rfl⟩
set_option maxRecDepth 100000 in
theorem xk_m95 : xq_mf (yX8_why, cX8_why, 8, (some .int), 1, 4) := ⟨xq_wr (pl := 877) rfl rfl, by decide +kernel, by decide +kernel, xq_wd_in (pl := 70) (by decide +kernel), fun h => absurd h (by decide), fun _ => ⟨xq_wd_in (pl := 875) (by decide +kernel), xq_wd_in (pl := 876) (by decide +kernel)⟩, fun h => absurd h (by decide), Nat.le_of_ble_eq_true rfl⟩
set_option maxRecDepth 100000 in
theorem xk_m96 : xq_mf (yX8_place, cX8_place, 8, (some .int), 1, 3) := ⟨xq_wr (pl := 881) rfl rfl, by decide +kernel, by decide +kernel, xq_wd_in (pl := 70) (by decide +kernel), fun h => absurd h (by decide), fun _ => ⟨xq_wd_in (pl := 879) (by decide +kernel), xq_wd_in (pl := 880) (by decide +kernel)⟩, fun h => absurd h (by decide), Nat.le_of_ble_eq_true rfl⟩
set_option maxRecDepth 100000 in
theorem xk_m97 : xq_mf (yX8_whole, cX8_whole, 6, (some .int), 1, 2) := ⟨xq_wr (pl := 885) rfl rfl, by decide +kernel, by decide +kernel, xq_wd_in (pl := 70) (by decide +kernel), fun h => absurd h (by decide), fun _ => ⟨xq_wd_in (pl := 883) (by decide +kernel), xq_wd_in (pl := 884) (by decide +kernel)⟩, fun h => absurd h (by decide), Nat.le_of_ble_eq_true rfl⟩
set_option maxRecDepth 100000 in
theorem xk_m98 : xq_mf (yX8_was, cX8_was, 10, (some .int), 1, 4) := ⟨xq_wr (pl := 889) rfl rfl, by decide +kernel, by decide +kernel, xq_wd_in (pl := 70) (by decide +kernel), fun h => absurd h (by decide), fun _ => ⟨xq_wd_in (pl := 887) (by decide +kernel), xq_wd_in (pl := 888) (by decide +kernel)⟩, fun h => absurd h (by decide), Nat.le_of_ble_eq_true rfl⟩
set_option maxRecDepth 100000 in
theorem xk_m99 : xq_mf (yX8_lost, cX8_lost, 3, (some .long), 1, 2) := ⟨xq_wr (pl := 898) rfl rfl, by decide +kernel, by decide +kernel, xq_wd_in (pl := 70) (by decide +kernel), fun h => absurd h (by decide), fun _ => ⟨xq_wd_in (pl := 896) (by decide +kernel), xq_wd_in (pl := 897) (by decide +kernel)⟩, fun h => absurd h (by decide), Nat.le_of_ble_eq_true rfl⟩
set_option maxRecDepth 100000 in
theorem xk_m100 : xq_mf (yX8_keep, cX8_keep, 6, (some .int), 1, 2) := ⟨xq_wr (pl := 909) rfl rfl, by decide +kernel, by decide +kernel, xq_wd_in (pl := 70) (by decide +kernel), fun h => absurd h (by decide), fun _ => ⟨xq_wd_in (pl := 907) (by decide +kernel), xq_wd_in (pl := 908) (by decide +kernel)⟩, fun h => absurd h (by decide), Nat.le_of_ble_eq_true rfl⟩
set_option maxRecDepth 100000 in
theorem xk_m101 : xq_mf (yX8_rarest, cX8_rarest, 7, (some .int), 1, 0) := ⟨xq_wr (pl := 914) rfl rfl, by decide +kernel, by decide +kernel, xq_wd_in (pl := 70) (by decide +kernel), fun h => absurd h (by decide), fun _ => ⟨xq_wd_in (pl := 912) (by decide +kernel), xq_wd_in (pl := 913) (by decide +kernel)⟩, fun h => absurd h (by decide), Nat.le_of_ble_eq_true rfl⟩
set_option maxRecDepth 100000 in
theorem xk_m102 : xq_mf (yX8_drawn, cX8_drawn, 5, (some .int), 1, 4) := ⟨xq_wr (pl := 919) rfl rfl, by decide +kernel, by decide +kernel, xq_wd_in (pl := 70) (by decide +kernel), fun h => absurd h (by decide), fun _ => ⟨xq_wd_in (pl := 917) (by decide +kernel), xq_wd_in (pl := 918) (by decide +kernel)⟩, fun h => absurd h (by decide), Nat.le_of_ble_eq_true rfl⟩
set_option maxRecDepth 100000 in
theorem xk_m103 : xq_mf (yX8_odds, cX8_odds, 10, (some .long), 1, 5) := ⟨xq_wr (pl := 937) rfl rfl, by decide +kernel, by decide +kernel, xq_wd_in (pl := 70) (by decide +kernel), fun h => absurd h (by decide), fun _ => ⟨xq_wd_in (pl := 935) (by decide +kernel), xq_wd_in (pl := 936) (by decide +kernel)⟩, fun h => absurd h (by decide), Nat.le_of_ble_eq_true rfl⟩
set_option maxRecDepth 100000 in
theorem xk_m104 : xq_mf (yX8_image, cX8_image, 1, (some .int), 1, 0) := ⟨xq_wr (pl := 947) rfl rfl, by decide +kernel, by decide +kernel, xq_wd_in (pl := 70) (by decide +kernel), fun h => absurd h (by decide), fun _ => ⟨xq_wd_in (pl := 945) (by decide +kernel), xq_wd_in (pl := 946) (by decide +kernel)⟩, fun h => absurd h (by decide), Nat.le_of_ble_eq_true rfl⟩
set_option maxRecDepth 100000 in
theorem xk_m105 : xq_mf (yX8_back, cX8_back, 1, (some .int), 1, 0) := ⟨xq_wr (pl := 952) rfl rfl, by decide +kernel, by decide +kernel, xq_wd_in (pl := 70) (by decide +kernel), fun h => absurd h (by decide), fun _ => ⟨xq_wd_in (pl := 950) (by decide +kernel), xq_wd_in (pl := 951) (by decide +kernel)⟩, fun h => absurd h (by decide), Nat.le_of_ble_eq_true rfl⟩
set_option maxRecDepth 100000 in
theorem xk_m106 : xq_mf (yX8_sheet, cX8_sheet, 6, (some .int), 1, 3) := ⟨xq_wr (pl := 957) rfl rfl, by decide +kernel, by decide +kernel, xq_wd_in (pl := 70) (by decide +kernel), fun h => absurd h (by decide), fun _ => ⟨xq_wd_in (pl := 955) (by decide +kernel), xq_wd_in (pl := 956) (by decide +kernel)⟩, fun h => absurd h (by decide), Nat.le_of_ble_eq_true rfl⟩
set_option maxRecDepth 100000 in
theorem xk_m107 : xq_mf (yX8_cell, cX8_cell, 5, (some .int), 1, 3) := ⟨xq_wr (pl := 966) rfl rfl, by decide +kernel, by decide +kernel, xq_wd_in (pl := 70) (by decide +kernel), fun h => absurd h (by decide), fun _ => ⟨xq_wd_in (pl := 964) (by decide +kernel), xq_wd_in (pl := 965) (by decide +kernel)⟩, fun h => absurd h (by decide), Nat.le_of_ble_eq_true rfl⟩
set_option maxRecDepth 100000 in
theorem xk_m108 : xq_mf (yX8_copy, cX8_copy, 8, (some .int), 1, 5) := ⟨xq_wr (pl := 975) rfl rfl, by decide +kernel, by decide +kernel, xq_wd_in (pl := 70) (by decide +kernel), fun h => absurd h (by decide), fun _ => ⟨xq_wd_in (pl := 973) (by decide +kernel), xq_wd_in (pl := 974) (by decide +kernel)⟩, fun h => absurd h (by decide), Nat.le_of_ble_eq_true rfl⟩
set_option maxRecDepth 100000 in
theorem xk_m109 : xq_mf (yX8_peopleBy, cX8_peopleBy, 9, (some .int), 1, 4) := ⟨xq_wr (pl := 983) rfl rfl, by decide +kernel, by decide +kernel, xq_wd_in (pl := 70) (by decide +kernel), fun h => absurd h (by decide), fun _ => ⟨xq_wd_in (pl := 981) (by decide +kernel), xq_wd_in (pl := 982) (by decide +kernel)⟩, fun h => absurd h (by decide), Nat.le_of_ble_eq_true rfl⟩
set_option maxRecDepth 100000 in
theorem xk_m110 : xq_mf (yX8_taken, cX8_taken, 4, (some .int), 1, 2) := ⟨xq_wr (pl := 987) rfl rfl, by decide +kernel, by decide +kernel, xq_wd_in (pl := 70) (by decide +kernel), fun h => absurd h (by decide), fun _ => ⟨xq_wd_in (pl := 985) (by decide +kernel), xq_wd_in (pl := 986) (by decide +kernel)⟩, fun h => absurd h (by decide), Nat.le_of_ble_eq_true rfl⟩
set_option maxRecDepth 100000 in
theorem xk_m111 : xq_mf (yX8_isRoom, cX8_isRoom, 1, (some .boolean), 0, 1) := ⟨xq_wr (pl := 568) rfl rfl, by decide +kernel, by decide +kernel, xq_wd_in (pl := 70) (by decide +kernel), fun _ => xq_wd_in (pl := 567) (by decide +kernel), fun h => absurd h (by decide), fun h => absurd h (by decide), Nat.le_of_ble_eq_true rfl⟩
set_option maxRecDepth 100000 in
theorem xk_m112 : xq_mf (yX8_isSheet, cX8_isSheet, 1, (some .boolean), 0, 1) := ⟨xq_wr (pl := 684) rfl rfl, by decide +kernel, by decide +kernel, xq_wd_in (pl := 70) (by decide +kernel), fun _ => xq_wd_in (pl := 683) (by decide +kernel), fun h => absurd h (by decide), fun h => absurd h (by decide), Nat.le_of_ble_eq_true rfl⟩
set_option maxRecDepth 100000 in
theorem xk_m113 : xq_mf (yX8_isSeed, cX8_isSeed, 1, (some .boolean), 0, 1) := ⟨xq_wr (pl := 922) rfl rfl, by decide +kernel, by decide +kernel, xq_wd_in (pl := 70) (by decide +kernel), fun _ => xq_wd_in (pl := 921) (by decide +kernel), fun h => absurd h (by decide), fun h => absurd h (by decide), Nat.le_of_ble_eq_true rfl⟩
set_option maxRecDepth 100000 in
theorem xk_m114 : xq_mf (yX8_isHow, cX8_isHow, 1, (some .boolean), 0, 1) := ⟨xq_wr (pl := 926) rfl rfl, by decide +kernel, by decide +kernel, xq_wd_in (pl := 70) (by decide +kernel), fun _ => xq_wd_in (pl := 925) (by decide +kernel), fun h => absurd h (by decide), fun h => absurd h (by decide), Nat.le_of_ble_eq_true rfl⟩
set_option maxRecDepth 100000 in
theorem xk_m115 : xq_mf (yX8_isSong, cX8_isSong, 2, (some .boolean), 1, 1) := ⟨xq_wr (pl := 635) rfl rfl, by decide +kernel, by decide +kernel, xq_wd_in (pl := 70) (by decide +kernel), fun h => absurd h (by decide), fun _ => ⟨xq_wd_in (pl := 634) (by decide +kernel), xq_wd_in (pl := 18) (by decide +kernel)⟩, fun h => absurd h (by decide), Nat.le_of_ble_eq_true rfl⟩
set_option maxRecDepth 100000 in
theorem xk_m116 : xq_mf (yX8_isOne, cX8_isOne, 2, (some .boolean), 1, 1) := ⟨xq_wr (pl := 665) rfl rfl, by decide +kernel, by decide +kernel, xq_wd_in (pl := 70) (by decide +kernel), fun h => absurd h (by decide), fun _ => ⟨xq_wd_in (pl := 664) (by decide +kernel), xq_wd_in (pl := 20) (by decide +kernel)⟩, fun h => absurd h (by decide), Nat.le_of_ble_eq_true rfl⟩
set_option maxRecDepth 100000 in
theorem xk_m117 : xq_mf (yX8_arePeople, cX8_arePeople, 2, (some .boolean), 1, 1) := ⟨xq_wr (pl := 802) rfl rfl, by decide +kernel, by decide +kernel, xq_wd_in (pl := 70) (by decide +kernel), fun h => absurd h (by decide), fun _ => ⟨xq_wd_in (pl := 801) (by decide +kernel), xq_wd_in (pl := 26) (by decide +kernel)⟩, fun h => absurd h (by decide), Nat.le_of_ble_eq_true rfl⟩
set_option maxRecDepth 100000 in
theorem xk_m118 : xq_mf (yX8_isBehind, cX8_isBehind, 2, (some .boolean), 1, 1) := ⟨xq_wr (pl := 719) rfl rfl, by decide +kernel, by decide +kernel, xq_wd_in (pl := 70) (by decide +kernel), fun h => absurd h (by decide), fun _ => ⟨xq_wd_in (pl := 718) (by decide +kernel), xq_wd_in (pl := 23) (by decide +kernel)⟩, fun h => absurd h (by decide), Nat.le_of_ble_eq_true rfl⟩
set_option maxRecDepth 100000 in
theorem xk_m119 : xq_mf (yX8_lawText, cX8_lawText, 1, (some (.object "WhoeverKnowsSings$Text")), 1, 0) := ⟨xq_wr (pl := 596) rfl rfl, by decide +kernel, by decide +kernel, xq_wd_in (pl := 70) (by decide +kernel), fun h => absurd h (by decide), fun _ => ⟨xq_wd_in (pl := 595) (by decide +kernel), xq_wd_in (pl := 16) (by decide +kernel)⟩, fun h => absurd h (by decide), Nat.le_of_ble_eq_true rfl⟩
set_option maxRecDepth 100000 in
theorem xk_m120 : xq_mf (yX8_rowOf, cX8_rowOf, 3, (some (.object "WhoeverKnowsSings$Sheet")), 1, 1) := ⟨xq_wr (pl := 688) rfl rfl, by decide +kernel, by decide +kernel, xq_wd_in (pl := 70) (by decide +kernel), fun h => absurd h (by decide), fun _ => ⟨xq_wd_in (pl := 687) (by decide +kernel), xq_wd_in (pl := 21) (by decide +kernel)⟩, fun h => absurd h (by decide), Nat.le_of_ble_eq_true rfl⟩
set_option maxRecDepth 100000 in
theorem xk_m121 : xq_mf (yX8_tellsRooms, cX8_tellsRooms, 2, (some .boolean), 0, 1) := ⟨xq_wr (pl := 691) rfl rfl, by decide +kernel, by decide +kernel, xq_wd_in (pl := 70) (by decide +kernel), fun _ => xq_wd_in (pl := 690) (by decide +kernel), fun h => absurd h (by decide), fun h => absurd h (by decide), Nat.le_of_ble_eq_true rfl⟩
set_option maxRecDepth 100000 in
theorem xk_m122 : xq_mf (yX8_isSeated, cX8_isSeated, 5, (some .boolean), 1, 1) := ⟨xq_wr (pl := 703) rfl rfl, by decide +kernel, by decide +kernel, xq_wd_in (pl := 70) (by decide +kernel), fun h => absurd h (by decide), fun _ => ⟨xq_wd_in (pl := 702) (by decide +kernel), xq_wd_in (pl := 22) (by decide +kernel)⟩, fun h => absurd h (by decide), Nat.le_of_ble_eq_true rfl⟩
set_option maxRecDepth 100000 in
theorem xk_m123 : xq_mf (yX8_live, cX8_live, 8, (some .int), 1, 2) := ⟨xq_wr (pl := 723) rfl rfl, by decide +kernel, by decide +kernel, xq_wd_in (pl := 70) (by decide +kernel), fun h => absurd h (by decide), fun _ => ⟨xq_wd_in (pl := 722) (by decide +kernel), xq_wd_in (pl := 24) (by decide +kernel)⟩, fun h => absurd h (by decide), Nat.le_of_ble_eq_true rfl⟩
set_option maxRecDepth 100000 in
theorem xk_m124 : xq_mf (yX8_peopleIn, cX8_peopleIn, 5, (some .int), 0, 2) := ⟨xq_wr (pl := 734) rfl rfl, by decide +kernel, by decide +kernel, xq_wd_in (pl := 70) (by decide +kernel), fun _ => xq_wd_in (pl := 733) (by decide +kernel), fun h => absurd h (by decide), fun h => absurd h (by decide), Nat.le_of_ble_eq_true rfl⟩
set_option maxRecDepth 100000 in
theorem xk_m125 : xq_mf (yX8_mayAtFirst, cX8_mayAtFirst, 4, (some .boolean), 1, 3) := ⟨xq_wr (pl := 810) rfl rfl, by decide +kernel, by decide +kernel, xq_wd_in (pl := 70) (by decide +kernel), fun h => absurd h (by decide), fun _ => ⟨xq_wd_in (pl := 809) (by decide +kernel), xq_wd_in (pl := 27) (by decide +kernel)⟩, fun h => absurd h (by decide), Nat.le_of_ble_eq_true rfl⟩
set_option maxRecDepth 100000 in
theorem xk_m126 : xq_mf (yX8_isOverFor, cX8_isOverFor, 6, (some .boolean), 1, 3) := ⟨xq_wr (pl := 827) rfl rfl, by decide +kernel, by decide +kernel, xq_wd_in (pl := 70) (by decide +kernel), fun h => absurd h (by decide), fun _ => ⟨xq_wd_in (pl := 826) (by decide +kernel), xq_wd_in (pl := 28) (by decide +kernel)⟩, fun h => absurd h (by decide), Nat.le_of_ble_eq_true rfl⟩
set_option maxRecDepth 100000 in
theorem xk_m127 : xq_mf (yX8_comesOf, cX8_comesOf, 6, (some .boolean), 1, 4) := ⟨xq_wr (pl := 893) rfl rfl, by decide +kernel, by decide +kernel, xq_wd_in (pl := 70) (by decide +kernel), fun h => absurd h (by decide), fun _ => ⟨xq_wd_in (pl := 892) (by decide +kernel), xq_wd_in (pl := 33) (by decide +kernel)⟩, fun h => absurd h (by decide), Nat.le_of_ble_eq_true rfl⟩
set_option maxRecDepth 100000 in
theorem xk_m128 : xq_mf (yX8_partsLost, cX8_partsLost, 7, (some .long), 1, 2) := ⟨xq_wr (pl := 903) rfl rfl, by decide +kernel, by decide +kernel, xq_wd_in (pl := 70) (by decide +kernel), fun h => absurd h (by decide), fun _ => ⟨xq_wd_in (pl := 902) (by decide +kernel), xq_wd_in (pl := 34) (by decide +kernel)⟩, fun h => absurd h (by decide), Nat.le_of_ble_eq_true rfl⟩
set_option maxRecDepth 100000 in
theorem xk_m129 : xq_mf (yX8_draw, cX8_draw, 12, none, 1, 3) := ⟨xq_wr (pl := 930) rfl rfl, by decide +kernel, by decide +kernel, xq_wd_in (pl := 70) (by decide +kernel), fun h => absurd h (by decide), fun _ => ⟨xq_wd_in (pl := 929) (by decide +kernel), xq_wd_in (pl := 35) (by decide +kernel)⟩, fun h => absurd h (by decide), Nat.le_of_ble_eq_true rfl⟩
set_option maxRecDepth 100000 in
theorem xk_m130 : xq_mf (yX8_commonDivisor, cX8_commonDivisor, 3, (some .int), 0, 2) := ⟨xq_wr (pl := 940) rfl rfl, by decide +kernel, by decide +kernel, xq_wd_in (pl := 70) (by decide +kernel), fun _ => xq_wd_in (pl := 939) (by decide +kernel), fun h => absurd h (by decide), fun h => absurd h (by decide), Nat.le_of_ble_eq_true rfl⟩
set_option maxRecDepth 100000 in
theorem xk_m131 : xq_mf (yX9_isIn, cX9_isIn, 3, (some .boolean), 0, 3) := ⟨xq_wr (pl := 1000) rfl rfl, by decide +kernel, by decide +kernel, xq_wd_in (pl := 86) (by decide +kernel), fun _ => xq_wd_in (pl := 999) (by decide +kernel), fun h => absurd h (by decide), fun h => absurd h (by decide), Nat.le_of_ble_eq_true rfl⟩
set_option maxRecDepth 100000 in
theorem xk_m132 : xq_mf (yX9_wall, cX9_wall, 5, (some .int), 1, 3) := ⟨xq_wr (pl := 997) rfl rfl, by decide +kernel, by decide +kernel, xq_wd_in (pl := 86) (by decide +kernel), fun h => absurd h (by decide), fun _ => ⟨xq_wd_in (pl := 995) (by decide +kernel), xq_wd_in (pl := 996) (by decide +kernel)⟩, fun h => absurd h (by decide), Nat.le_of_ble_eq_true rfl⟩
set_option maxRecDepth 100000 in
theorem xk_m133 : xq_mf (yX9_seat, cX9_seat, 4, (some .int), 1, 2) := ⟨xq_wr (pl := 1004) rfl rfl, by decide +kernel, by decide +kernel, xq_wd_in (pl := 86) (by decide +kernel), fun h => absurd h (by decide), fun _ => ⟨xq_wd_in (pl := 1002) (by decide +kernel), xq_wd_in (pl := 1003) (by decide +kernel)⟩, fun h => absurd h (by decide), Nat.le_of_ble_eq_true rfl⟩
set_option maxRecDepth 100000 in
theorem xk_m134 : xq_mf (yX9_count, cX9_count, 2, (some .int), 1, 1) := ⟨xq_wr (pl := 1008) rfl rfl, by decide +kernel, by decide +kernel, xq_wd_in (pl := 86) (by decide +kernel), fun h => absurd h (by decide), fun _ => ⟨xq_wd_in (pl := 1006) (by decide +kernel), xq_wd_in (pl := 1007) (by decide +kernel)⟩, fun h => absurd h (by decide), Nat.le_of_ble_eq_true rfl⟩
set_option maxRecDepth 100000 in
theorem xk_m135 : xq_mf (yX9_put, cX9_put, 2, none, 1, 1) := ⟨xq_wr (pl := 1017) rfl rfl, by decide +kernel, by decide +kernel, xq_wd_in (pl := 86) (by decide +kernel), fun h => absurd h (by decide), fun _ => ⟨xq_wd_in (pl := 1015) (by decide +kernel), xq_wd_in (pl := 36) (by decide +kernel)⟩, fun h => absurd h (by decide), Nat.le_of_ble_eq_true rfl⟩
set_option maxRecDepth 100000 in
theorem xk_m136 : xq_mf (yX9_feed, cX9_feed, 7, (some .int), 1, 6) := ⟨xq_wr (pl := 1012) rfl rfl, by decide +kernel, by decide +kernel, xq_wd_in (pl := 86) (by decide +kernel), fun h => absurd h (by decide), fun _ => ⟨xq_wd_in (pl := 1010) (by decide +kernel), xq_wd_in (pl := 1011) (by decide +kernel)⟩, fun h => absurd h (by decide), Nat.le_of_ble_eq_true rfl⟩
set_option maxRecDepth 100000 in
theorem xk_m137 : xq_mf (yX9_isLetter, cX9_isLetter, 2, (some .boolean), 1, 1) := ⟨xq_wr (pl := 1033) rfl rfl, by decide +kernel, by decide +kernel, xq_wd_in (pl := 86) (by decide +kernel), fun h => absurd h (by decide), fun _ => ⟨xq_wd_in (pl := 1032) (by decide +kernel), xq_wd_in (pl := 39) (by decide +kernel)⟩, fun h => absurd h (by decide), Nat.le_of_ble_eq_true rfl⟩
set_option maxRecDepth 100000 in
theorem xk_m138 : xq_mf (yX9_isDigit, cX9_isDigit, 2, (some .boolean), 1, 1) := ⟨xq_wr (pl := 1041) rfl rfl, by decide +kernel, by decide +kernel, xq_wd_in (pl := 86) (by decide +kernel), fun h => absurd h (by decide), fun _ => ⟨xq_wd_in (pl := 1040) (by decide +kernel), xq_wd_in (pl := 41) (by decide +kernel)⟩, fun h => absurd h (by decide), Nat.le_of_ble_eq_true rfl⟩
set_option maxRecDepth 100000 in
theorem xk_m139 : xq_mf (yX9_readWord, cX9_readWord, 5, none, 1, 0) := ⟨xq_wr (pl := 1037) rfl rfl, by decide +kernel, by decide +kernel, xq_wd_in (pl := 86) (by decide +kernel), fun h => absurd h (by decide), fun _ => ⟨xq_wd_in (pl := 1036) (by decide +kernel), xq_wd_in (pl := 40) (by decide +kernel)⟩, fun h => absurd h (by decide), Nat.le_of_ble_eq_true rfl⟩
set_option maxRecDepth 100000 in
theorem xk_m140 : xq_mf (yX9_readNumber, cX9_readNumber, 1, none, 1, 0) := ⟨xq_wr (pl := 1045) rfl rfl, by decide +kernel, by decide +kernel, xq_wd_in (pl := 86) (by decide +kernel), fun h => absurd h (by decide), fun _ => ⟨xq_wd_in (pl := 1044) (by decide +kernel), xq_wd_in (pl := 42) (by decide +kernel)⟩, fun h => absurd h (by decide), Nat.le_of_ble_eq_true rfl⟩
set_option maxRecDepth 100000 in
theorem xk_m141 : xq_mf (yX9_next, cX9_next, 2, none, 1, 0) := ⟨xq_wr (pl := 1029) rfl rfl, by decide +kernel, by decide +kernel, xq_wd_in (pl := 86) (by decide +kernel), fun h => absurd h (by decide), fun _ => ⟨xq_wd_in (pl := 1028) (by decide +kernel), xq_wd_in (pl := 38) (by decide +kernel)⟩, fun h => absurd h (by decide), Nat.le_of_ble_eq_true rfl⟩
set_option maxRecDepth 100000 in
theorem xk_m142 : xq_mf (yX9_isSign, cX9_isSign, 2, (some .boolean), 1, 1) := ⟨xq_wr (pl := 1068) rfl rfl, by decide +kernel, by decide +kernel, xq_wd_in (pl := 86) (by decide +kernel), fun h => absurd h (by decide), fun _ => ⟨xq_wd_in (pl := 1067) (by decide +kernel), xq_wd_in (pl := 47) (by decide +kernel)⟩, fun h => absurd h (by decide), Nat.le_of_ble_eq_true rfl⟩
set_option maxRecDepth 100000 in
theorem xk_m143 : xq_mf (yX9_isKey, cX9_isKey, 2, (some .boolean), 1, 1) := ⟨xq_wr (pl := 1049) rfl rfl, by decide +kernel, by decide +kernel, xq_wd_in (pl := 86) (by decide +kernel), fun h => absurd h (by decide), fun _ => ⟨xq_wd_in (pl := 1048) (by decide +kernel), xq_wd_in (pl := 43) (by decide +kernel)⟩, fun h => absurd h (by decide), Nat.le_of_ble_eq_true rfl⟩
set_option maxRecDepth 100000 in
theorem xk_m144 : xq_mf (yX9_emit, cX9_emit, 2, none, 1, 1) := ⟨xq_wr (pl := 1057) rfl rfl, by decide +kernel, by decide +kernel, xq_wd_in (pl := 86) (by decide +kernel), fun h => absurd h (by decide), fun _ => ⟨xq_wd_in (pl := 1056) (by decide +kernel), xq_wd_in (pl := 45) (by decide +kernel)⟩, fun h => absurd h (by decide), Nat.le_of_ble_eq_true rfl⟩
set_option maxRecDepth 100000 in
theorem xk_m145 : xq_mf (yX9_rank, cX9_rank, 1, (some .int), 0, 1) := ⟨xq_wr (pl := 1064) rfl rfl, by decide +kernel, by decide +kernel, xq_wd_in (pl := 86) (by decide +kernel), fun _ => xq_wd_in (pl := 1063) (by decide +kernel), fun h => absurd h (by decide), fun h => absurd h (by decide), Nat.le_of_ble_eq_true rfl⟩
set_option maxRecDepth 100000 in
theorem xk_m146 : xq_mf (yX9_doAll, cX9_doAll, 2, none, 1, 1) := ⟨xq_wr (pl := 1061) rfl rfl, by decide +kernel, by decide +kernel, xq_wd_in (pl := 86) (by decide +kernel), fun h => absurd h (by decide), fun _ => ⟨xq_wd_in (pl := 1060) (by decide +kernel), xq_wd_in (pl := 46) (by decide +kernel)⟩, fun h => absurd h (by decide), Nat.le_of_ble_eq_true rfl⟩
set_option maxRecDepth 100000 in
theorem xk_m147 : xq_mf (yX9_await, cX9_await, 2, none, 1, 1) := ⟨xq_wr (pl := 1076) rfl rfl, by decide +kernel, by decide +kernel, xq_wd_in (pl := 86) (by decide +kernel), fun h => absurd h (by decide), fun _ => ⟨xq_wd_in (pl := 1075) (by decide +kernel), xq_wd_in (pl := 49) (by decide +kernel)⟩, fun h => absurd h (by decide), Nat.le_of_ble_eq_true rfl⟩
set_option maxRecDepth 100000 in
theorem xk_m148 : xq_mf (yX9_between, cX9_between, 2, (some .boolean), 1, 0) := ⟨xq_wr (pl := 1080) rfl rfl, by decide +kernel, by decide +kernel, xq_wd_in (pl := 86) (by decide +kernel), fun h => absurd h (by decide), fun _ => ⟨xq_wd_in (pl := 1079) (by decide +kernel), xq_wd_in (pl := 50) (by decide +kernel)⟩, fun h => absurd h (by decide), Nat.le_of_ble_eq_true rfl⟩
set_option maxRecDepth 100000 in
theorem xk_m149 : xq_mf (yX9_closes, cX9_closes, 1, (some .boolean), 1, 0) := ⟨xq_wr (pl := 1084) rfl rfl, by decide +kernel, by decide +kernel, xq_wd_in (pl := 86) (by decide +kernel), fun h => absurd h (by decide), fun _ => ⟨xq_wd_in (pl := 1083) (by decide +kernel), xq_wd_in (pl := 51) (by decide +kernel)⟩, fun h => absurd h (by decide), Nat.le_of_ble_eq_true rfl⟩
set_option maxRecDepth 100000 in
theorem xk_m150 : xq_mf (yX9_ahead, cX9_ahead, 3, (some .boolean), 1, 1) := ⟨xq_wr (pl := 1072) rfl rfl, by decide +kernel, by decide +kernel, xq_wd_in (pl := 86) (by decide +kernel), fun h => absurd h (by decide), fun _ => ⟨xq_wd_in (pl := 1071) (by decide +kernel), xq_wd_in (pl := 48) (by decide +kernel)⟩, fun h => absurd h (by decide), Nat.le_of_ble_eq_true rfl⟩
set_option maxRecDepth 100000 in
theorem xk_m151 : xq_mf (yX9_readE, cX9_readE, 5, (some .boolean), 1, 1) := ⟨xq_wr (pl := 1053) rfl rfl, by decide +kernel, by decide +kernel, xq_wd_in (pl := 86) (by decide +kernel), fun h => absurd h (by decide), fun _ => ⟨xq_wd_in (pl := 1052) (by decide +kernel), xq_wd_in (pl := 44) (by decide +kernel)⟩, fun h => absurd h (by decide), Nat.le_of_ble_eq_true rfl⟩
set_option maxRecDepth 100000 in
theorem xk_m152 : xq_mf (yX9_readAll, cX9_readAll, 3, (some .int), 1, 1) := ⟨xq_wr (pl := 1025) rfl rfl, by decide +kernel, by decide +kernel, xq_wd_in (pl := 86) (by decide +kernel), fun h => absurd h (by decide), fun _ => ⟨xq_wd_in (pl := 1024) (by decide +kernel), xq_wd_in (pl := 37) (by decide +kernel)⟩, fun h => absurd h (by decide), Nat.le_of_ble_eq_true rfl⟩
set_option maxRecDepth 100000 in
theorem xk_m153 : xq_mf (yX9_text, cX9_text, 2, (some .int), 1, 0) := ⟨xq_wr (pl := 1021) rfl rfl, by decide +kernel, by decide +kernel, xq_wd_in (pl := 86) (by decide +kernel), fun h => absurd h (by decide), fun _ => ⟨xq_wd_in (pl := 1019) (by decide +kernel), xq_wd_in (pl := 1020) (by decide +kernel)⟩, fun h => absurd h (by decide), Nat.le_of_ble_eq_true rfl⟩
set_option maxRecDepth 100000 in
theorem xk_m154 : xq_mf (yX9_force, cX9_force, 3, (some .int), 1, 1) := ⟨xq_wr (pl := 1088) rfl rfl, by decide +kernel, by decide +kernel, xq_wd_in (pl := 86) (by decide +kernel), fun h => absurd h (by decide), fun _ => ⟨xq_wd_in (pl := 1086) (by decide +kernel), xq_wd_in (pl := 1087) (by decide +kernel)⟩, fun h => absurd h (by decide), Nat.le_of_ble_eq_true rfl⟩
set_option maxRecDepth 100000 in
theorem xk_m155 : xq_mf (yX9_init, cX9_init, 1, none, 2, 0) := ⟨xq_wr (pl := 1092) rfl rfl, by decide +kernel, by decide +kernel, xq_wd_in (pl := 86) (by decide +kernel), fun h => absurd h (by decide), fun h => absurd h (by decide), fun _ => ⟨rfl, xq_wd_in (pl := 1091) (by decide +kernel), rfl⟩, Nat.le_of_ble_eq_true rfl⟩
set_option maxRecDepth 100000 in
theorem xk_m156 : xq_mf (yX9_done, cX9_done, 3, (some .int), 0, 3) := ⟨xq_wr (pl := 1272) rfl rfl, by decide +kernel, by decide +kernel, xq_wd_in (pl := 86) (by decide +kernel), fun _ => xq_wd_in (pl := 1271) (by decide +kernel), fun h => absurd h (by decide), fun h => absurd h (by decide), Nat.le_of_ble_eq_true rfl⟩
set_option maxRecDepth 100000 in
theorem xk_m157 : xq_mf (yX9_says, cX9_says, 7, (some .boolean), 1, 2) := ⟨xq_wr (pl := 1269) rfl rfl, by decide +kernel, by decide +kernel, xq_wd_in (pl := 86) (by decide +kernel), fun h => absurd h (by decide), fun _ => ⟨xq_wd_in (pl := 1268) (by decide +kernel), xq_wd_in (pl := 52) (by decide +kernel)⟩, fun h => absurd h (by decide), Nat.le_of_ble_eq_true rfl⟩
set_option maxRecDepth 100000 in
theorem xk_m158 : xq_mf (yX9_asks, cX9_asks, 5, (some .int), 1, 4) := ⟨xq_wr (pl := 1265) rfl rfl, by decide +kernel, by decide +kernel, xq_wd_in (pl := 86) (by decide +kernel), fun h => absurd h (by decide), fun _ => ⟨xq_wd_in (pl := 1263) (by decide +kernel), xq_wd_in (pl := 1264) (by decide +kernel)⟩, fun h => absurd h (by decide), Nat.le_of_ble_eq_true rfl⟩
set_option maxRecDepth 100000 in
theorem xk_m159 : xq_mf (yX9_isSong, cX9_isSong, 2, (some .boolean), 1, 1) := ⟨xq_wr (pl := 1284) rfl rfl, by decide +kernel, by decide +kernel, xq_wd_in (pl := 86) (by decide +kernel), fun h => absurd h (by decide), fun _ => ⟨xq_wd_in (pl := 1283) (by decide +kernel), xq_wd_in (pl := 53) (by decide +kernel)⟩, fun h => absurd h (by decide), Nat.le_of_ble_eq_true rfl⟩
set_option maxRecDepth 100000 in
theorem xk_m160 : xq_mf (yX9_isOne, cX9_isOne, 2, (some .boolean), 1, 1) := ⟨xq_wr (pl := 1296) rfl rfl, by decide +kernel, by decide +kernel, xq_wd_in (pl := 86) (by decide +kernel), fun h => absurd h (by decide), fun _ => ⟨xq_wd_in (pl := 1295) (by decide +kernel), xq_wd_in (pl := 54) (by decide +kernel)⟩, fun h => absurd h (by decide), Nat.le_of_ble_eq_true rfl⟩
set_option maxRecDepth 100000 in
theorem xk_m161 : xq_mf (yX9_areSome, cX9_areSome, 2, (some .boolean), 1, 1) := ⟨xq_wr (pl := 1369) rfl rfl, by decide +kernel, by decide +kernel, xq_wd_in (pl := 86) (by decide +kernel), fun h => absurd h (by decide), fun _ => ⟨xq_wd_in (pl := 1368) (by decide +kernel), xq_wd_in (pl := 60) (by decide +kernel)⟩, fun h => absurd h (by decide), Nat.le_of_ble_eq_true rfl⟩
set_option maxRecDepth 100000 in
theorem xk_m162 : xq_mf (yX9_song, cX9_song, 3, (some .int), 1, 1) := ⟨xq_wr (pl := 1276) rfl rfl, by decide +kernel, by decide +kernel, xq_wd_in (pl := 86) (by decide +kernel), fun h => absurd h (by decide), fun _ => ⟨xq_wd_in (pl := 1274) (by decide +kernel), xq_wd_in (pl := 1275) (by decide +kernel)⟩, fun h => absurd h (by decide), Nat.le_of_ble_eq_true rfl⟩
set_option maxRecDepth 100000 in
theorem xk_m163 : xq_mf (yX9_needs, cX9_needs, 2, (some .int), 1, 1) := ⟨xq_wr (pl := 1280) rfl rfl, by decide +kernel, by decide +kernel, xq_wd_in (pl := 86) (by decide +kernel), fun h => absurd h (by decide), fun _ => ⟨xq_wd_in (pl := 1278) (by decide +kernel), xq_wd_in (pl := 1279) (by decide +kernel)⟩, fun h => absurd h (by decide), Nat.le_of_ble_eq_true rfl⟩
set_option maxRecDepth 100000 in
theorem xk_m164 : xq_mf (yX9_person, cX9_person, 4, (some .int), 1, 3) := ⟨xq_wr (pl := 1288) rfl rfl, by decide +kernel, by decide +kernel, xq_wd_in (pl := 86) (by decide +kernel), fun h => absurd h (by decide), fun _ => ⟨xq_wd_in (pl := 1286) (by decide +kernel), xq_wd_in (pl := 1287) (by decide +kernel)⟩, fun h => absurd h (by decide), Nat.le_of_ble_eq_true rfl⟩
set_option maxRecDepth 100000 in
theorem xk_m165 : xq_mf (yX9_teach, cX9_teach, 5, (some .int), 1, 3) := ⟨xq_wr (pl := 1292) rfl rfl, by decide +kernel, by decide +kernel, xq_wd_in (pl := 86) (by decide +kernel), fun h => absurd h (by decide), fun _ => ⟨xq_wd_in (pl := 1290) (by decide +kernel), xq_wd_in (pl := 1291) (by decide +kernel)⟩, fun h => absurd h (by decide), Nat.le_of_ble_eq_true rfl⟩
set_option maxRecDepth 100000 in
theorem xk_m166 : xq_mf (yX9_told, cX9_told, 3, (some .int), 1, 2) := ⟨xq_wr (pl := 1300) rfl rfl, by decide +kernel, by decide +kernel, xq_wd_in (pl := 86) (by decide +kernel), fun h => absurd h (by decide), fun _ => ⟨xq_wd_in (pl := 1298) (by decide +kernel), xq_wd_in (pl := 1299) (by decide +kernel)⟩, fun h => absurd h (by decide), Nat.le_of_ble_eq_true rfl⟩
set_option maxRecDepth 100000 in
theorem xk_m167 : xq_mf (yX9_size, cX9_size, 3, (some .int), 0, 1) := ⟨xq_wr (pl := 1342) rfl rfl, by decide +kernel, by decide +kernel, xq_wd_in (pl := 86) (by decide +kernel), fun _ => xq_wd_in (pl := 1341) (by decide +kernel), fun h => absurd h (by decide), fun h => absurd h (by decide), Nat.le_of_ble_eq_true rfl⟩
set_option maxRecDepth 100000 in
theorem xk_m168 : xq_mf (yX9_may, cX9_may, 9, (some .boolean), 1, 5) := ⟨xq_wr (pl := 1339) rfl rfl, by decide +kernel, by decide +kernel, xq_wd_in (pl := 86) (by decide +kernel), fun h => absurd h (by decide), fun _ => ⟨xq_wd_in (pl := 1338) (by decide +kernel), xq_wd_in (pl := 59) (by decide +kernel)⟩, fun h => absurd h (by decide), Nat.le_of_ble_eq_true rfl⟩
set_option maxRecDepth 100000 in
theorem xk_m169 : xq_mf (yX9_heard, cX9_heard, 3, (some .int), 0, 3) := ⟨xq_wr (pl := 1345) rfl rfl, by decide +kernel, by decide +kernel, xq_wd_in (pl := 86) (by decide +kernel), fun _ => xq_wd_in (pl := 1344) (by decide +kernel), fun h => absurd h (by decide), fun h => absurd h (by decide), Nat.le_of_ble_eq_true rfl⟩
set_option maxRecDepth 100000 in
theorem xk_m170 : xq_mf (yX9_begin, cX9_begin, 13, (some .boolean), 1, 7) := ⟨xq_wr (pl := 1335) rfl rfl, by decide +kernel, by decide +kernel, xq_wd_in (pl := 86) (by decide +kernel), fun h => absurd h (by decide), fun _ => ⟨xq_wd_in (pl := 1334) (by decide +kernel), xq_wd_in (pl := 58) (by decide +kernel)⟩, fun h => absurd h (by decide), Nat.le_of_ble_eq_true rfl⟩
set_option maxRecDepth 100000 in
theorem xk_m171 : xq_mf (yX9_whoHas, cX9_whoHas, 5, (some .int), 1, 2) := ⟨xq_wr (pl := 1331) rfl rfl, by decide +kernel, by decide +kernel, xq_wd_in (pl := 86) (by decide +kernel), fun h => absurd h (by decide), fun _ => ⟨xq_wd_in (pl := 1330) (by decide +kernel), xq_wd_in (pl := 57) (by decide +kernel)⟩, fun h => absurd h (by decide), Nat.le_of_ble_eq_true rfl⟩
set_option maxRecDepth 100000 in
theorem xk_m172 : xq_mf (yX9_take, cX9_take, 4, none, 1, 2) := ⟨xq_wr (pl := 1327) rfl rfl, by decide +kernel, by decide +kernel, xq_wd_in (pl := 86) (by decide +kernel), fun h => absurd h (by decide), fun _ => ⟨xq_wd_in (pl := 1326) (by decide +kernel), xq_wd_in (pl := 56) (by decide +kernel)⟩, fun h => absurd h (by decide), Nat.le_of_ble_eq_true rfl⟩
set_option maxRecDepth 100000 in
theorem xk_m173 : xq_mf (yX9_replay, cX9_replay, 10, (some .int), 1, 2) := ⟨xq_wr (pl := 1323) rfl rfl, by decide +kernel, by decide +kernel, xq_wd_in (pl := 86) (by decide +kernel), fun h => absurd h (by decide), fun _ => ⟨xq_wd_in (pl := 1322) (by decide +kernel), xq_wd_in (pl := 55) (by decide +kernel)⟩, fun h => absurd h (by decide), Nat.le_of_ble_eq_true rfl⟩
set_option maxRecDepth 100000 in
theorem xk_m174 : xq_mf (yX9_evening, cX9_evening, 7, (some .int), 1, 3) := ⟨xq_wr (pl := 1304) rfl rfl, by decide +kernel, by decide +kernel, xq_wd_in (pl := 86) (by decide +kernel), fun h => absurd h (by decide), fun _ => ⟨xq_wd_in (pl := 1302) (by decide +kernel), xq_wd_in (pl := 1303) (by decide +kernel)⟩, fun h => absurd h (by decide), Nat.le_of_ble_eq_true rfl⟩
set_option maxRecDepth 100000 in
theorem xk_m175 : xq_mf (yX9_forget, cX9_forget, 1, (some .int), 1, 0) := ⟨xq_wr (pl := 1311) rfl rfl, by decide +kernel, by decide +kernel, xq_wd_in (pl := 86) (by decide +kernel), fun h => absurd h (by decide), fun _ => ⟨xq_wd_in (pl := 1309) (by decide +kernel), xq_wd_in (pl := 1310) (by decide +kernel)⟩, fun h => absurd h (by decide), Nat.le_of_ble_eq_true rfl⟩
set_option maxRecDepth 100000 in
theorem xk_m176 : xq_mf (yX9_eveningTold, cX9_eveningTold, 3, (some .int), 1, 2) := ⟨xq_wr (pl := 1315) rfl rfl, by decide +kernel, by decide +kernel, xq_wd_in (pl := 86) (by decide +kernel), fun h => absurd h (by decide), fun _ => ⟨xq_wd_in (pl := 1313) (by decide +kernel), xq_wd_in (pl := 1314) (by decide +kernel)⟩, fun h => absurd h (by decide), Nat.le_of_ble_eq_true rfl⟩
set_option maxRecDepth 100000 in
theorem xk_m177 : xq_mf (yX9_knows, cX9_knows, 4, (some .int), 1, 3) := ⟨xq_wr (pl := 1319) rfl rfl, by decide +kernel, by decide +kernel, xq_wd_in (pl := 86) (by decide +kernel), fun h => absurd h (by decide), fun _ => ⟨xq_wd_in (pl := 1317) (by decide +kernel), xq_wd_in (pl := 1318) (by decide +kernel)⟩, fun h => absurd h (by decide), Nat.le_of_ble_eq_true rfl⟩
set_option maxRecDepth 100000 in
theorem xk_m178 : xq_mf (yX9_isSo, cX9_isSo, 2, (some .boolean), 0, 2) := ⟨xq_wr (pl := 1353) rfl rfl, by decide +kernel, by decide +kernel, xq_wd_in (pl := 86) (by decide +kernel), fun _ => xq_wd_in (pl := 1352) (by decide +kernel), fun h => absurd h (by decide), fun h => absurd h (by decide), Nat.le_of_ble_eq_true rfl⟩
set_option maxRecDepth 100000 in
theorem xk_m179 : xq_mf (yX9_all, cX9_all, 6, (some .int), 1, 3) := ⟨xq_wr (pl := 1350) rfl rfl, by decide +kernel, by decide +kernel, xq_wd_in (pl := 86) (by decide +kernel), fun h => absurd h (by decide), fun _ => ⟨xq_wd_in (pl := 1348) (by decide +kernel), xq_wd_in (pl := 1349) (by decide +kernel)⟩, fun h => absurd h (by decide), Nat.le_of_ble_eq_true rfl⟩
set_option maxRecDepth 100000 in
theorem xk_m180 : xq_mf (yX9_judge, cX9_judge, 1, (some .int), 1, 0) := ⟨xq_wr (pl := 1357) rfl rfl, by decide +kernel, by decide +kernel, xq_wd_in (pl := 86) (by decide +kernel), fun h => absurd h (by decide), fun _ => ⟨xq_wd_in (pl := 1355) (by decide +kernel), xq_wd_in (pl := 1356) (by decide +kernel)⟩, fun h => absurd h (by decide), Nat.le_of_ble_eq_true rfl⟩
set_option maxRecDepth 100000 in
theorem xk_m181 : xq_mf (yX9_laws, cX9_laws, 3, (some .int), 1, 0) := ⟨xq_wr (pl := 1361) rfl rfl, by decide +kernel, by decide +kernel, xq_wd_in (pl := 86) (by decide +kernel), fun h => absurd h (by decide), fun _ => ⟨xq_wd_in (pl := 1359) (by decide +kernel), xq_wd_in (pl := 1360) (by decide +kernel)⟩, fun h => absurd h (by decide), Nat.le_of_ble_eq_true rfl⟩
set_option maxRecDepth 100000 in
theorem xk_m182 : xq_mf (yX9_mayBefore, cX9_mayBefore, 4, (some .boolean), 1, 3) := ⟨xq_wr (pl := 1373) rfl rfl, by decide +kernel, by decide +kernel, xq_wd_in (pl := 86) (by decide +kernel), fun h => absurd h (by decide), fun _ => ⟨xq_wd_in (pl := 1372) (by decide +kernel), xq_wd_in (pl := 61) (by decide +kernel)⟩, fun h => absurd h (by decide), Nat.le_of_ble_eq_true rfl⟩
set_option maxRecDepth 100000 in
theorem xk_m183 : xq_mf (yX9_feast, cX9_feast, 5, (some .int), 1, 2) := ⟨xq_wr (pl := 1365) rfl rfl, by decide +kernel, by decide +kernel, xq_wd_in (pl := 86) (by decide +kernel), fun h => absurd h (by decide), fun _ => ⟨xq_wd_in (pl := 1363) (by decide +kernel), xq_wd_in (pl := 1364) (by decide +kernel)⟩, fun h => absurd h (by decide), Nat.le_of_ble_eq_true rfl⟩
set_option maxRecDepth 100000 in
theorem xk_m184 : xq_mf (yX9_leave, cX9_leave, 6, (some .int), 1, 3) := ⟨xq_wr (pl := 1377) rfl rfl, by decide +kernel, by decide +kernel, xq_wd_in (pl := 86) (by decide +kernel), fun h => absurd h (by decide), fun _ => ⟨xq_wd_in (pl := 1375) (by decide +kernel), xq_wd_in (pl := 1376) (by decide +kernel)⟩, fun h => absurd h (by decide), Nat.le_of_ble_eq_true rfl⟩
set_option maxRecDepth 100000 in
theorem xk_m185 : xq_mf (yX9_bars, cX9_bars, 7, (some .int), 1, 3) := ⟨xq_wr (pl := 1381) rfl rfl, by decide +kernel, by decide +kernel, xq_wd_in (pl := 86) (by decide +kernel), fun h => absurd h (by decide), fun _ => ⟨xq_wd_in (pl := 1379) (by decide +kernel), xq_wd_in (pl := 1380) (by decide +kernel)⟩, fun h => absurd h (by decide), Nat.le_of_ble_eq_true rfl⟩
set_option maxRecDepth 100000 in
theorem xk_m186 : xq_mf (yX9_ends, cX9_ends, 7, (some .int), 1, 2) := ⟨xq_wr (pl := 1385) rfl rfl, by decide +kernel, by decide +kernel, xq_wd_in (pl := 86) (by decide +kernel), fun h => absurd h (by decide), fun _ => ⟨xq_wd_in (pl := 1383) (by decide +kernel), xq_wd_in (pl := 1384) (by decide +kernel)⟩, fun h => absurd h (by decide), Nat.le_of_ble_eq_true rfl⟩
set_option maxRecDepth 100000 in
theorem xk_m187 : xq_mf (yX9_state, cX9_state, 3, (some .int), 1, 0) := ⟨xq_wr (pl := 1401) rfl rfl, by decide +kernel, by decide +kernel, xq_wd_in (pl := 86) (by decide +kernel), fun h => absurd h (by decide), fun _ => ⟨xq_wd_in (pl := 1400) (by decide +kernel), xq_wd_in (pl := 64) (by decide +kernel)⟩, fun h => absurd h (by decide), Nat.le_of_ble_eq_true rfl⟩
set_option maxRecDepth 100000 in
theorem xk_m188 : xq_mf (yX9_take_, cX9_take_, 3, none, 1, 1) := ⟨xq_wr (pl := 1412) rfl rfl, by decide +kernel, by decide +kernel, xq_wd_in (pl := 86) (by decide +kernel), fun h => absurd h (by decide), fun _ => ⟨xq_wd_in (pl := 1411) (by decide +kernel), xq_wd_in (pl := 66) (by decide +kernel)⟩, fun h => absurd h (by decide), Nat.le_of_ble_eq_true rfl⟩
set_option maxRecDepth 100000 in
theorem xk_m189 : xq_mf (yX9_much, cX9_much, 3, (some .int), 0, 2) := ⟨xq_wr (pl := 1408) rfl rfl, by decide +kernel, by decide +kernel, xq_wd_in (pl := 86) (by decide +kernel), fun _ => xq_wd_in (pl := 1407) (by decide +kernel), fun h => absurd h (by decide), fun h => absurd h (by decide), Nat.le_of_ble_eq_true rfl⟩
set_option maxRecDepth 100000 in
theorem xk_m190 : xq_mf (yX9_isDone, cX9_isDone, 7, (some .boolean), 1, 4) := ⟨xq_wr (pl := 1405) rfl rfl, by decide +kernel, by decide +kernel, xq_wd_in (pl := 86) (by decide +kernel), fun h => absurd h (by decide), fun _ => ⟨xq_wd_in (pl := 1404) (by decide +kernel), xq_wd_in (pl := 65) (by decide +kernel)⟩, fun h => absurd h (by decide), Nat.le_of_ble_eq_true rfl⟩
set_option maxRecDepth 100000 in
theorem xk_m191 : xq_mf (yX9_plan, cX9_plan, 16, none, 1, 5) := ⟨xq_wr (pl := 1397) rfl rfl, by decide +kernel, by decide +kernel, xq_wd_in (pl := 86) (by decide +kernel), fun h => absurd h (by decide), fun _ => ⟨xq_wd_in (pl := 1396) (by decide +kernel), xq_wd_in (pl := 63) (by decide +kernel)⟩, fun h => absurd h (by decide), Nat.le_of_ble_eq_true rfl⟩
set_option maxRecDepth 100000 in
theorem xk_m192 : xq_mf (yX9_isAsked, cX9_isAsked, 5, (some .boolean), 1, 4) := ⟨xq_wr (pl := 1393) rfl rfl, by decide +kernel, by decide +kernel, xq_wd_in (pl := 86) (by decide +kernel), fun h => absurd h (by decide), fun _ => ⟨xq_wd_in (pl := 1392) (by decide +kernel), xq_wd_in (pl := 62) (by decide +kernel)⟩, fun h => absurd h (by decide), Nat.le_of_ble_eq_true rfl⟩
set_option maxRecDepth 100000 in
theorem xk_m193 : xq_mf (yX9_least, cX9_least, 6, (some .int), 1, 5) := ⟨xq_wr (pl := 1389) rfl rfl, by decide +kernel, by decide +kernel, xq_wd_in (pl := 86) (by decide +kernel), fun h => absurd h (by decide), fun _ => ⟨xq_wd_in (pl := 1387) (by decide +kernel), xq_wd_in (pl := 1388) (by decide +kernel)⟩, fun h => absurd h (by decide), Nat.le_of_ble_eq_true rfl⟩
set_option maxRecDepth 100000 in
theorem xk_m194 : xq_mf (yX9_why, cX9_why, 7, (some .int), 1, 4) := ⟨xq_wr (pl := 1416) rfl rfl, by decide +kernel, by decide +kernel, xq_wd_in (pl := 86) (by decide +kernel), fun h => absurd h (by decide), fun _ => ⟨xq_wd_in (pl := 1414) (by decide +kernel), xq_wd_in (pl := 1415) (by decide +kernel)⟩, fun h => absurd h (by decide), Nat.le_of_ble_eq_true rfl⟩
set_option maxRecDepth 100000 in
theorem xk_m195 : xq_mf (yX9_place, cX9_place, 7, (some .int), 1, 3) := ⟨xq_wr (pl := 1420) rfl rfl, by decide +kernel, by decide +kernel, xq_wd_in (pl := 86) (by decide +kernel), fun h => absurd h (by decide), fun _ => ⟨xq_wd_in (pl := 1418) (by decide +kernel), xq_wd_in (pl := 1419) (by decide +kernel)⟩, fun h => absurd h (by decide), Nat.le_of_ble_eq_true rfl⟩
set_option maxRecDepth 100000 in
theorem xk_m196 : xq_mf (yX9_whole, cX9_whole, 5, (some .int), 1, 2) := ⟨xq_wr (pl := 1424) rfl rfl, by decide +kernel, by decide +kernel, xq_wd_in (pl := 86) (by decide +kernel), fun h => absurd h (by decide), fun _ => ⟨xq_wd_in (pl := 1422) (by decide +kernel), xq_wd_in (pl := 1423) (by decide +kernel)⟩, fun h => absurd h (by decide), Nat.le_of_ble_eq_true rfl⟩
set_option maxRecDepth 100000 in
theorem xk_m197 : xq_mf (yX9_was, cX9_was, 12, (some .int), 1, 4) := ⟨xq_wr (pl := 1428) rfl rfl, by decide +kernel, by decide +kernel, xq_wd_in (pl := 86) (by decide +kernel), fun h => absurd h (by decide), fun _ => ⟨xq_wd_in (pl := 1426) (by decide +kernel), xq_wd_in (pl := 1427) (by decide +kernel)⟩, fun h => absurd h (by decide), Nat.le_of_ble_eq_true rfl⟩
set_option maxRecDepth 100000 in
theorem xk_m198 : xq_mf (yX9_parts, cX9_parts, 6, (some .long), 1, 2) := ⟨xq_wr (pl := 1436) rfl rfl, by decide +kernel, by decide +kernel, xq_wd_in (pl := 86) (by decide +kernel), fun h => absurd h (by decide), fun _ => ⟨xq_wd_in (pl := 1435) (by decide +kernel), xq_wd_in (pl := 67) (by decide +kernel)⟩, fun h => absurd h (by decide), Nat.le_of_ble_eq_true rfl⟩
set_option maxRecDepth 100000 in
theorem xk_m199 : xq_mf (yX9_lost, cX9_lost, 3, (some .long), 1, 2) := ⟨xq_wr (pl := 1432) rfl rfl, by decide +kernel, by decide +kernel, xq_wd_in (pl := 86) (by decide +kernel), fun h => absurd h (by decide), fun _ => ⟨xq_wd_in (pl := 1430) (by decide +kernel), xq_wd_in (pl := 1431) (by decide +kernel)⟩, fun h => absurd h (by decide), Nat.le_of_ble_eq_true rfl⟩
set_option maxRecDepth 100000 in
theorem xk_m200 : xq_mf (yX9_keep, cX9_keep, 5, (some .int), 1, 2) := ⟨xq_wr (pl := 1443) rfl rfl, by decide +kernel, by decide +kernel, xq_wd_in (pl := 86) (by decide +kernel), fun h => absurd h (by decide), fun _ => ⟨xq_wd_in (pl := 1441) (by decide +kernel), xq_wd_in (pl := 1442) (by decide +kernel)⟩, fun h => absurd h (by decide), Nat.le_of_ble_eq_true rfl⟩
set_option maxRecDepth 100000 in
theorem xk_m201 : xq_mf (yX9_rarest, cX9_rarest, 5, (some .int), 1, 0) := ⟨xq_wr (pl := 1448) rfl rfl, by decide +kernel, by decide +kernel, xq_wd_in (pl := 86) (by decide +kernel), fun h => absurd h (by decide), fun _ => ⟨xq_wd_in (pl := 1446) (by decide +kernel), xq_wd_in (pl := 1447) (by decide +kernel)⟩, fun h => absurd h (by decide), Nat.le_of_ble_eq_true rfl⟩
set_option maxRecDepth 100000 in
theorem xk_m202 : xq_mf (yX9_draw, cX9_draw, 11, none, 1, 4) := ⟨xq_wr (pl := 1461) rfl rfl, by decide +kernel, by decide +kernel, xq_wd_in (pl := 86) (by decide +kernel), fun h => absurd h (by decide), fun _ => ⟨xq_wd_in (pl := 1460) (by decide +kernel), xq_wd_in (pl := 68) (by decide +kernel)⟩, fun h => absurd h (by decide), Nat.le_of_ble_eq_true rfl⟩
set_option maxRecDepth 100000 in
theorem xk_m203 : xq_mf (yX9_isHow, cX9_isHow, 1, (some .boolean), 0, 1) := ⟨xq_wr (pl := 1457) rfl rfl, by decide +kernel, by decide +kernel, xq_wd_in (pl := 86) (by decide +kernel), fun _ => xq_wd_in (pl := 1456) (by decide +kernel), fun h => absurd h (by decide), fun h => absurd h (by decide), Nat.le_of_ble_eq_true rfl⟩
set_option maxRecDepth 100000 in
theorem xk_m204 : xq_mf (yX9_drawn, cX9_drawn, 7, (some .int), 1, 4) := ⟨xq_wr (pl := 1453) rfl rfl, by decide +kernel, by decide +kernel, xq_wd_in (pl := 86) (by decide +kernel), fun h => absurd h (by decide), fun _ => ⟨xq_wd_in (pl := 1451) (by decide +kernel), xq_wd_in (pl := 1452) (by decide +kernel)⟩, fun h => absurd h (by decide), Nat.le_of_ble_eq_true rfl⟩
set_option maxRecDepth 100000 in
theorem xk_m205 : xq_mf (yX9_divisor, cX9_divisor, 5, (some .int), 0, 2) := ⟨xq_wr (pl := 1471) rfl rfl, by decide +kernel, by decide +kernel, xq_wd_in (pl := 86) (by decide +kernel), fun _ => xq_wd_in (pl := 1470) (by decide +kernel), fun h => absurd h (by decide), fun h => absurd h (by decide), Nat.le_of_ble_eq_true rfl⟩
set_option maxRecDepth 100000 in
theorem xk_m206 : xq_mf (yX9_odds, cX9_odds, 9, (some .long), 1, 5) := ⟨xq_wr (pl := 1468) rfl rfl, by decide +kernel, by decide +kernel, xq_wd_in (pl := 86) (by decide +kernel), fun h => absurd h (by decide), fun _ => ⟨xq_wd_in (pl := 1466) (by decide +kernel), xq_wd_in (pl := 1467) (by decide +kernel)⟩, fun h => absurd h (by decide), Nat.le_of_ble_eq_true rfl⟩
set_option maxRecDepth 100000 in
theorem xk_m207 : xq_mf (yX9_copy, cX9_copy, 3, none, 0, 2) := ⟨xq_wr (pl := 1478) rfl rfl, by decide +kernel, by decide +kernel, xq_wd_in (pl := 86) (by decide +kernel), fun _ => xq_wd_in (pl := 1477) (by decide +kernel), fun h => absurd h (by decide), fun h => absurd h (by decide), Nat.le_of_ble_eq_true rfl⟩
set_option maxRecDepth 100000 in
theorem xk_m208 : xq_mf (yX9_image, cX9_image, 1, (some .int), 1, 0) := ⟨xq_wr (pl := 1475) rfl rfl, by decide +kernel, by decide +kernel, xq_wd_in (pl := 86) (by decide +kernel), fun h => absurd h (by decide), fun _ => ⟨xq_wd_in (pl := 1473) (by decide +kernel), xq_wd_in (pl := 1474) (by decide +kernel)⟩, fun h => absurd h (by decide), Nat.le_of_ble_eq_true rfl⟩
set_option maxRecDepth 100000 in
theorem xk_m209 : xq_mf (yX9_back, cX9_back, 3, (some .int), 1, 0) := ⟨xq_wr (pl := 1482) rfl rfl, by decide +kernel, by decide +kernel, xq_wd_in (pl := 86) (by decide +kernel), fun h => absurd h (by decide), fun _ => ⟨xq_wd_in (pl := 1480) (by decide +kernel), xq_wd_in (pl := 1481) (by decide +kernel)⟩, fun h => absurd h (by decide), Nat.le_of_ble_eq_true rfl⟩
set_option maxRecDepth 100000 in
theorem xk_m210 : xq_mf (yX9_isSheet, cX9_isSheet, 1, (some .boolean), 0, 1) := ⟨xq_wr (pl := 1307) rfl rfl, by decide +kernel, by decide +kernel, xq_wd_in (pl := 86) (by decide +kernel), fun _ => xq_wd_in (pl := 1306) (by decide +kernel), fun h => absurd h (by decide), fun h => absurd h (by decide), Nat.le_of_ble_eq_true rfl⟩
set_option maxRecDepth 100000 in
theorem xk_m211 : xq_mf (yX9_sheet, cX9_sheet, 5, (some .int), 1, 3) := ⟨xq_wr (pl := 1486) rfl rfl, by decide +kernel, by decide +kernel, xq_wd_in (pl := 86) (by decide +kernel), fun h => absurd h (by decide), fun _ => ⟨xq_wd_in (pl := 1484) (by decide +kernel), xq_wd_in (pl := 1485) (by decide +kernel)⟩, fun h => absurd h (by decide), Nat.le_of_ble_eq_true rfl⟩
set_option maxRecDepth 100000 in
theorem xk_m212 : xq_mf (yX9_cell, cX9_cell, 4, (some .int), 1, 3) := ⟨xq_wr (pl := 1490) rfl rfl, by decide +kernel, by decide +kernel, xq_wd_in (pl := 86) (by decide +kernel), fun h => absurd h (by decide), fun _ => ⟨xq_wd_in (pl := 1488) (by decide +kernel), xq_wd_in (pl := 1489) (by decide +kernel)⟩, fun h => absurd h (by decide), Nat.le_of_ble_eq_true rfl⟩
set_option maxRecDepth 100000 in
theorem xk_m213 : xq_mf (yX9_copy_, cX9_copy_, 7, (some .int), 1, 5) := ⟨xq_wr (pl := 1494) rfl rfl, by decide +kernel, by decide +kernel, xq_wd_in (pl := 86) (by decide +kernel), fun h => absurd h (by decide), fun _ => ⟨xq_wd_in (pl := 1492) (by decide +kernel), xq_wd_in (pl := 1493) (by decide +kernel)⟩, fun h => absurd h (by decide), Nat.le_of_ble_eq_true rfl⟩
set_option maxRecDepth 100000 in
theorem xk_m214 : xq_mf (yX9_peopleBy, cX9_peopleBy, 10, (some .int), 1, 4) := ⟨xq_wr (pl := 1498) rfl rfl, by decide +kernel, by decide +kernel, xq_wd_in (pl := 86) (by decide +kernel), fun h => absurd h (by decide), fun _ => ⟨xq_wd_in (pl := 1496) (by decide +kernel), xq_wd_in (pl := 1497) (by decide +kernel)⟩, fun h => absurd h (by decide), Nat.le_of_ble_eq_true rfl⟩
set_option maxRecDepth 100000 in
theorem xk_m215 : xq_mf (yX9_taken, cX9_taken, 6, (some .int), 1, 2) := ⟨xq_wr (pl := 1504) rfl rfl, by decide +kernel, by decide +kernel, xq_wd_in (pl := 86) (by decide +kernel), fun h => absurd h (by decide), fun _ => ⟨xq_wd_in (pl := 1502) (by decide +kernel), xq_wd_in (pl := 1503) (by decide +kernel)⟩, fun h => absurd h (by decide), Nat.le_of_ble_eq_true rfl⟩
set_option maxRecDepth 100000 in
theorem xk_m216 : xq_mf (yJ6_bitCount_0f7a4, cJ6_bitCount_0f7a4, 1, (some .int), 0, 1) := ⟨xq_wr (pl := 741) rfl rfl, by decide +kernel, by decide +kernel, xq_wd_in (pl := 87) (by decide +kernel), fun _ => xq_wd_in (pl := 740) (by decide +kernel), fun h => absurd h (by decide), fun h => absurd h (by decide), Nat.le_of_ble_eq_true rfl⟩
set_option maxRecDepth 100000 in
theorem xk_m217 : xq_mf (yJ7_fill_53178, cJ7_fill_53178, 4, none, 0, 2) := ⟨xq_wr (pl := 312) rfl rfl, by decide +kernel, by decide +kernel, xq_wd_in (pl := 77) (by decide +kernel), fun _ => xq_wd_in (pl := 311) (by decide +kernel), fun h => absurd h (by decide), fun h => absurd h (by decide), Nat.le_of_ble_eq_true rfl⟩
set_option maxRecDepth 100000 in
theorem xk_m218 : xq_mf (yJ7_copyOf_59c91, cJ7_copyOf_59c91, 3, (some (.array .int)), 0, 2) := ⟨xq_wr (pl := 476) rfl rfl, by decide +kernel, by decide +kernel, xq_wd_in (pl := 77) (by decide +kernel), fun _ => xq_wd_in (pl := 475) (by decide +kernel), fun h => absurd h (by decide), fun h => absurd h (by decide), Nat.le_of_ble_eq_true rfl⟩
set_option maxRecDepth 100000 in
theorem xk_m219 : xq_mf (yJ0_length_8abf5, cJ0_length_8abf5, 1, (some .int), 1, 0) := ⟨xq_wr (pl := 335) rfl rfl, by decide +kernel, by decide +kernel, xq_wd_in (pl := 79) (by decide +kernel), fun h => absurd h (by decide), fun _ => ⟨xq_wd_in (pl := 333) (by decide +kernel), xq_wd_in (pl := 334) (by decide +kernel)⟩, fun h => absurd h (by decide), Nat.le_of_ble_eq_true rfl⟩
set_option maxRecDepth 100000 in
theorem xk_m220 : xq_mf (yJ0_charAt_5068e, cJ0_charAt_5068e, 2, (some .char), 1, 1) := ⟨xq_wr (pl := 345) rfl rfl, by decide +kernel, by decide +kernel, xq_wd_in (pl := 79) (by decide +kernel), fun h => absurd h (by decide), fun _ => ⟨xq_wd_in (pl := 343) (by decide +kernel), xq_wd_in (pl := 344) (by decide +kernel)⟩, fun h => absurd h (by decide), Nat.le_of_ble_eq_true rfl⟩
def xk_ML0 : List xq_M := [(yX0_init, cX0_init, 1, none, 2, 0), (yX1_init, cX1_init, 1, none, 2, 0), (yX1_amount, cX1_amount, 4, (some .int), 1, 2), (yX1_put, cX1_put, 5, none, 1, 3), (yX1_who, cX1_who, 3, (some .int), 1, 2), (yX1_take, cX1_take, 2, none, 1, 1), (yX1_takeOf, cX1_takeOf, 4, none, 1, 2), (yX2_init, cX2_init, 1, none, 2, 0), (yX2_everyone, cX2_everyone, 1, (some .int), 1, 0), (yX2_come, cX2_come, 4, (some .int), 1, 3), (yX2_note, cX2_note, 5, none, 1, 1), (yX2_singsBefore, cX2_singsBefore, 3, (some .boolean), 0, 3), (yX2_knowsThen, cX2_knowsThen, 3, (some .int), 0, 3), (yX2_isOf, cX2_isOf, 5, (some .boolean), 1, 2), (yX2_singers, cX2_singers, 3, (some .int), 1, 2), (yX2_anySpoils, cX2_anySpoils, 2, (some .boolean), 1, 1), (yX2_wholeOf, cX2_wholeOf, 5, (some .int), 1, 3), (yX2_halfOf, cX2_halfOf, 5, (some .int), 1, 3), (yX3_init, cX3_init, 4, none, 2, 3), (yX3_prepare, cX3_prepare, 5, none, 1, 4)]
theorem xk_MA0 : ∀ M ∈ xk_ML0, xq_mf M := (List.forall_mem_cons.mpr ⟨xk_m0, (List.forall_mem_cons.mpr ⟨xk_m1, (List.forall_mem_cons.mpr ⟨xk_m2, (List.forall_mem_cons.mpr ⟨xk_m3, (List.forall_mem_cons.mpr ⟨xk_m4, (List.forall_mem_cons.mpr ⟨xk_m5, (List.forall_mem_cons.mpr ⟨xk_m6, (List.forall_mem_cons.mpr ⟨xk_m7, (List.forall_mem_cons.mpr ⟨xk_m8, (List.forall_mem_cons.mpr ⟨xk_m9, (List.forall_mem_cons.mpr ⟨xk_m10, (List.forall_mem_cons.mpr ⟨xk_m11, (List.forall_mem_cons.mpr ⟨xk_m12, (List.forall_mem_cons.mpr ⟨xk_m13, (List.forall_mem_cons.mpr ⟨xk_m14, (List.forall_mem_cons.mpr ⟨xk_m15, (List.forall_mem_cons.mpr ⟨xk_m16, (List.forall_mem_cons.mpr ⟨xk_m17, (List.forall_mem_cons.mpr ⟨xk_m18, (List.forall_mem_cons.mpr ⟨xk_m19, (fun _ h => absurd h List.not_mem_nil)⟩)⟩)⟩)⟩)⟩)⟩)⟩)⟩)⟩)⟩)⟩)⟩)⟩)⟩)⟩)⟩)⟩)⟩)⟩)⟩)
def xk_ML1 : List xq_M := [(yX3_seek, cX3_seek, 5, (some .int), 1, 3), (yX3_standing, cX3_standing, 2, (some .int), 0, 2), (yX3_goOn, cX3_goOn, 8, none, 1, 4), (yX3_isMoved, cX3_isMoved, 9, (some .boolean), 1, 3), (yX3_isLesson, cX3_isLesson, 6, (some .boolean), 1, 3), (yX3_reach, cX3_reach, 6, none, 1, 4), (yX4_init, cX4_init, 1, none, 2, 0), (yX4_add, cX4_add, 2, none, 1, 1), (yX4_clear, cX4_clear, 1, none, 1, 0), (yX4_read, cX4_read, 3, (some (.object "WhoeverKnowsSings$Text")), 1, 0), (yX4_readPart, cX4_readPart, 2, none, 1, 1), (yX4_readOr, cX4_readOr, 3, none, 1, 1), (yX4_readAnd, cX4_readAnd, 3, none, 1, 1), (yX4_readNot, cX4_readNot, 3, none, 1, 1), (yX4_readSum, cX4_readSum, 4, none, 1, 1), (yX4_readTerm, cX4_readTerm, 3, none, 1, 1), (yX4_readSingle, cX4_readSingle, 2, none, 1, 1), (yX4_step, cX4_step, 2, none, 1, 1), (yX4_expect, cX4_expect, 2, none, 1, 1), (yX4_fail, cX4_fail, 1, none, 1, 0)]
theorem xk_MA1 : ∀ M ∈ xk_ML1, xq_mf M := (List.forall_mem_cons.mpr ⟨xk_m20, (List.forall_mem_cons.mpr ⟨xk_m21, (List.forall_mem_cons.mpr ⟨xk_m22, (List.forall_mem_cons.mpr ⟨xk_m23, (List.forall_mem_cons.mpr ⟨xk_m24, (List.forall_mem_cons.mpr ⟨xk_m25, (List.forall_mem_cons.mpr ⟨xk_m26, (List.forall_mem_cons.mpr ⟨xk_m27, (List.forall_mem_cons.mpr ⟨xk_m28, (List.forall_mem_cons.mpr ⟨xk_m29, (List.forall_mem_cons.mpr ⟨xk_m30, (List.forall_mem_cons.mpr ⟨xk_m31, (List.forall_mem_cons.mpr ⟨xk_m32, (List.forall_mem_cons.mpr ⟨xk_m33, (List.forall_mem_cons.mpr ⟨xk_m34, (List.forall_mem_cons.mpr ⟨xk_m35, (List.forall_mem_cons.mpr ⟨xk_m36, (List.forall_mem_cons.mpr ⟨xk_m37, (List.forall_mem_cons.mpr ⟨xk_m38, (List.forall_mem_cons.mpr ⟨xk_m39, (fun _ h => absurd h List.not_mem_nil)⟩)⟩)⟩)⟩)⟩)⟩)⟩)⟩)⟩)⟩)⟩)⟩)⟩)⟩)⟩)⟩)⟩)⟩)⟩)⟩)
def xk_ML2 : List xq_M := [(yX4_next, cX4_next, 1, none, 1, 0), (yX4_readWord, cX4_readWord, 1, none, 1, 0), (yX4_readNumber, cX4_readNumber, 1, none, 1, 0), (yX4_readSign, cX4_readSign, 3, none, 1, 0), (yX4_isLetter, cX4_isLetter, 1, (some .boolean), 0, 1), (yX4_isDigit, cX4_isDigit, 1, (some .boolean), 0, 1), (yX4_wordToken, cX4_wordToken, 1, (some .int), 1, 0), (yX4_spells, cX4_spells, 3, (some .boolean), 1, 1), (yX5_init, cX5_init, 1, none, 2, 0), (yX5_become, cX5_become, 3, none, 1, 2), (yX5_has, cX5_has, 2, (some .boolean), 1, 1), (yX5_hasRange, cX5_hasRange, 3, (some .boolean), 1, 2), (yX5_at, cX5_at, 2, (some .int), 1, 1), (yX5_put, cX5_put, 3, none, 1, 2), (yX6_init, cX6_init, 3, none, 2, 2), (yX6_begin, cX6_begin, 5, none, 1, 4), (yX6_before, cX6_before, 4, none, 1, 3), (yX6_may, cX6_may, 4, (some .boolean), 1, 2), (yX6_spread, cX6_spread, 7, none, 1, 3), (yX6_singers, cX6_singers, 3, (some .int), 1, 2)]
theorem xk_MA2 : ∀ M ∈ xk_ML2, xq_mf M := (List.forall_mem_cons.mpr ⟨xk_m40, (List.forall_mem_cons.mpr ⟨xk_m41, (List.forall_mem_cons.mpr ⟨xk_m42, (List.forall_mem_cons.mpr ⟨xk_m43, (List.forall_mem_cons.mpr ⟨xk_m44, (List.forall_mem_cons.mpr ⟨xk_m45, (List.forall_mem_cons.mpr ⟨xk_m46, (List.forall_mem_cons.mpr ⟨xk_m47, (List.forall_mem_cons.mpr ⟨xk_m48, (List.forall_mem_cons.mpr ⟨xk_m49, (List.forall_mem_cons.mpr ⟨xk_m50, (List.forall_mem_cons.mpr ⟨xk_m51, (List.forall_mem_cons.mpr ⟨xk_m52, (List.forall_mem_cons.mpr ⟨xk_m53, (List.forall_mem_cons.mpr ⟨xk_m54, (List.forall_mem_cons.mpr ⟨xk_m55, (List.forall_mem_cons.mpr ⟨xk_m56, (List.forall_mem_cons.mpr ⟨xk_m57, (List.forall_mem_cons.mpr ⟨xk_m58, (List.forall_mem_cons.mpr ⟨xk_m59, (fun _ h => absurd h List.not_mem_nil)⟩)⟩)⟩)⟩)⟩)⟩)⟩)⟩)⟩)⟩)⟩)⟩)⟩)⟩)⟩)⟩)⟩)⟩)⟩)⟩)
def xk_ML3 : List xq_M := [(yX6_able, cX6_able, 4, (some .int), 1, 1), (yX6_couldTeach, cX6_couldTeach, 3, (some .boolean), 1, 2), (yX6_hear, cX6_hear, 12, none, 1, 4), (yX6_says, cX6_says, 9, (some .boolean), 1, 1), (yX6_valueOf, cX6_valueOf, 3, (some .int), 1, 1), (yX6_unary, cX6_unary, 2, (some .int), 0, 2), (yX6_binary, cX6_binary, 3, (some .int), 0, 3), (yX7_init, cX7_init, 4, none, 2, 3), (yX7_from, cX7_from, 2, (some .int), 1, 1), (yX7_to, cX7_to, 2, (some .int), 1, 1), (yX8_init, cX8_init, 2, none, 2, 0), (yX8_wall, cX8_wall, 5, (some .int), 1, 3), (yX8_seat, cX8_seat, 4, (some .int), 1, 2), (yX8_count, cX8_count, 2, (some .int), 1, 1), (yX8_feed, cX8_feed, 7, (some .int), 1, 6), (yX8_text, cX8_text, 2, (some .int), 1, 0), (yX8_force, cX8_force, 3, (some .int), 1, 1), (yX8_asks, cX8_asks, 5, (some .int), 1, 4), (yX8_song, cX8_song, 2, (some .int), 1, 1), (yX8_needs, cX8_needs, 2, (some .int), 1, 1)]
theorem xk_MA3 : ∀ M ∈ xk_ML3, xq_mf M := (List.forall_mem_cons.mpr ⟨xk_m60, (List.forall_mem_cons.mpr ⟨xk_m61, (List.forall_mem_cons.mpr ⟨xk_m62, (List.forall_mem_cons.mpr ⟨xk_m63, (List.forall_mem_cons.mpr ⟨xk_m64, (List.forall_mem_cons.mpr ⟨xk_m65, (List.forall_mem_cons.mpr ⟨xk_m66, (List.forall_mem_cons.mpr ⟨xk_m67, (List.forall_mem_cons.mpr ⟨xk_m68, (List.forall_mem_cons.mpr ⟨xk_m69, (List.forall_mem_cons.mpr ⟨xk_m70, (List.forall_mem_cons.mpr ⟨xk_m71, (List.forall_mem_cons.mpr ⟨xk_m72, (List.forall_mem_cons.mpr ⟨xk_m73, (List.forall_mem_cons.mpr ⟨xk_m74, (List.forall_mem_cons.mpr ⟨xk_m75, (List.forall_mem_cons.mpr ⟨xk_m76, (List.forall_mem_cons.mpr ⟨xk_m77, (List.forall_mem_cons.mpr ⟨xk_m78, (List.forall_mem_cons.mpr ⟨xk_m79, (fun _ h => absurd h List.not_mem_nil)⟩)⟩)⟩)⟩)⟩)⟩)⟩)⟩)⟩)⟩)⟩)⟩)⟩)⟩)⟩)⟩)⟩)⟩)⟩)⟩)
def xk_ML4 : List xq_M := [(yX8_person, cX8_person, 4, (some .int), 1, 3), (yX8_teach, cX8_teach, 5, (some .int), 1, 3), (yX8_told, cX8_told, 3, (some .int), 1, 2), (yX8_evening, cX8_evening, 7, (some .int), 1, 3), (yX8_forget, cX8_forget, 1, (some .int), 1, 0), (yX8_eveningTold, cX8_eveningTold, 3, (some .int), 1, 2), (yX8_knows, cX8_knows, 4, (some .int), 1, 3), (yX8_all, cX8_all, 4, (some .int), 1, 3), (yX8_judge, cX8_judge, 1, (some .int), 1, 0), (yX8_laws, cX8_laws, 3, (some .int), 1, 0), (yX8_feast, cX8_feast, 5, (some .int), 1, 2), (yX8_leave, cX8_leave, 7, (some .int), 1, 3), (yX8_bars, cX8_bars, 7, (some .int), 1, 3), (yX8_ends, cX8_ends, 5, (some .int), 1, 2), (yX8_least, cX8_least, 6, (some .int), 1, 5), (yX8_why, cX8_why, 8, (some .int), 1, 4), (yX8_place, cX8_place, 8, (some .int), 1, 3), (yX8_whole, cX8_whole, 6, (some .int), 1, 2), (yX8_was, cX8_was, 10, (some .int), 1, 4), (yX8_lost, cX8_lost, 3, (some .long), 1, 2)]
theorem xk_MA4 : ∀ M ∈ xk_ML4, xq_mf M := (List.forall_mem_cons.mpr ⟨xk_m80, (List.forall_mem_cons.mpr ⟨xk_m81, (List.forall_mem_cons.mpr ⟨xk_m82, (List.forall_mem_cons.mpr ⟨xk_m83, (List.forall_mem_cons.mpr ⟨xk_m84, (List.forall_mem_cons.mpr ⟨xk_m85, (List.forall_mem_cons.mpr ⟨xk_m86, (List.forall_mem_cons.mpr ⟨xk_m87, (List.forall_mem_cons.mpr ⟨xk_m88, (List.forall_mem_cons.mpr ⟨xk_m89, (List.forall_mem_cons.mpr ⟨xk_m90, (List.forall_mem_cons.mpr ⟨xk_m91, (List.forall_mem_cons.mpr ⟨xk_m92, (List.forall_mem_cons.mpr ⟨xk_m93, (List.forall_mem_cons.mpr ⟨xk_m94, (List.forall_mem_cons.mpr ⟨xk_m95, (List.forall_mem_cons.mpr ⟨xk_m96, (List.forall_mem_cons.mpr ⟨xk_m97, (List.forall_mem_cons.mpr ⟨xk_m98, (List.forall_mem_cons.mpr ⟨xk_m99, (fun _ h => absurd h List.not_mem_nil)⟩)⟩)⟩)⟩)⟩)⟩)⟩)⟩)⟩)⟩)⟩)⟩)⟩)⟩)⟩)⟩)⟩)⟩)⟩)⟩)
def xk_ML5 : List xq_M := [(yX8_keep, cX8_keep, 6, (some .int), 1, 2), (yX8_rarest, cX8_rarest, 7, (some .int), 1, 0), (yX8_drawn, cX8_drawn, 5, (some .int), 1, 4), (yX8_odds, cX8_odds, 10, (some .long), 1, 5), (yX8_image, cX8_image, 1, (some .int), 1, 0), (yX8_back, cX8_back, 1, (some .int), 1, 0), (yX8_sheet, cX8_sheet, 6, (some .int), 1, 3), (yX8_cell, cX8_cell, 5, (some .int), 1, 3), (yX8_copy, cX8_copy, 8, (some .int), 1, 5), (yX8_peopleBy, cX8_peopleBy, 9, (some .int), 1, 4), (yX8_taken, cX8_taken, 4, (some .int), 1, 2), (yX8_isRoom, cX8_isRoom, 1, (some .boolean), 0, 1), (yX8_isSheet, cX8_isSheet, 1, (some .boolean), 0, 1), (yX8_isSeed, cX8_isSeed, 1, (some .boolean), 0, 1), (yX8_isHow, cX8_isHow, 1, (some .boolean), 0, 1), (yX8_isSong, cX8_isSong, 2, (some .boolean), 1, 1), (yX8_isOne, cX8_isOne, 2, (some .boolean), 1, 1), (yX8_arePeople, cX8_arePeople, 2, (some .boolean), 1, 1), (yX8_isBehind, cX8_isBehind, 2, (some .boolean), 1, 1), (yX8_lawText, cX8_lawText, 1, (some (.object "WhoeverKnowsSings$Text")), 1, 0)]
theorem xk_MA5 : ∀ M ∈ xk_ML5, xq_mf M := (List.forall_mem_cons.mpr ⟨xk_m100, (List.forall_mem_cons.mpr ⟨xk_m101, (List.forall_mem_cons.mpr ⟨xk_m102, (List.forall_mem_cons.mpr ⟨xk_m103, (List.forall_mem_cons.mpr ⟨xk_m104, (List.forall_mem_cons.mpr ⟨xk_m105, (List.forall_mem_cons.mpr ⟨xk_m106, (List.forall_mem_cons.mpr ⟨xk_m107, (List.forall_mem_cons.mpr ⟨xk_m108, (List.forall_mem_cons.mpr ⟨xk_m109, (List.forall_mem_cons.mpr ⟨xk_m110, (List.forall_mem_cons.mpr ⟨xk_m111, (List.forall_mem_cons.mpr ⟨xk_m112, (List.forall_mem_cons.mpr ⟨xk_m113, (List.forall_mem_cons.mpr ⟨xk_m114, (List.forall_mem_cons.mpr ⟨xk_m115, (List.forall_mem_cons.mpr ⟨xk_m116, (List.forall_mem_cons.mpr ⟨xk_m117, (List.forall_mem_cons.mpr ⟨xk_m118, (List.forall_mem_cons.mpr ⟨xk_m119, (fun _ h => absurd h List.not_mem_nil)⟩)⟩)⟩)⟩)⟩)⟩)⟩)⟩)⟩)⟩)⟩)⟩)⟩)⟩)⟩)⟩)⟩)⟩)⟩)⟩)
def xk_ML6 : List xq_M := [(yX8_rowOf, cX8_rowOf, 3, (some (.object "WhoeverKnowsSings$Sheet")), 1, 1), (yX8_tellsRooms, cX8_tellsRooms, 2, (some .boolean), 0, 1), (yX8_isSeated, cX8_isSeated, 5, (some .boolean), 1, 1), (yX8_live, cX8_live, 8, (some .int), 1, 2), (yX8_peopleIn, cX8_peopleIn, 5, (some .int), 0, 2), (yX8_mayAtFirst, cX8_mayAtFirst, 4, (some .boolean), 1, 3), (yX8_isOverFor, cX8_isOverFor, 6, (some .boolean), 1, 3), (yX8_comesOf, cX8_comesOf, 6, (some .boolean), 1, 4), (yX8_partsLost, cX8_partsLost, 7, (some .long), 1, 2), (yX8_draw, cX8_draw, 12, none, 1, 3), (yX8_commonDivisor, cX8_commonDivisor, 3, (some .int), 0, 2), (yX9_isIn, cX9_isIn, 3, (some .boolean), 0, 3), (yX9_wall, cX9_wall, 5, (some .int), 1, 3), (yX9_seat, cX9_seat, 4, (some .int), 1, 2), (yX9_count, cX9_count, 2, (some .int), 1, 1), (yX9_put, cX9_put, 2, none, 1, 1), (yX9_feed, cX9_feed, 7, (some .int), 1, 6), (yX9_isLetter, cX9_isLetter, 2, (some .boolean), 1, 1), (yX9_isDigit, cX9_isDigit, 2, (some .boolean), 1, 1), (yX9_readWord, cX9_readWord, 5, none, 1, 0)]
theorem xk_MA6 : ∀ M ∈ xk_ML6, xq_mf M := (List.forall_mem_cons.mpr ⟨xk_m120, (List.forall_mem_cons.mpr ⟨xk_m121, (List.forall_mem_cons.mpr ⟨xk_m122, (List.forall_mem_cons.mpr ⟨xk_m123, (List.forall_mem_cons.mpr ⟨xk_m124, (List.forall_mem_cons.mpr ⟨xk_m125, (List.forall_mem_cons.mpr ⟨xk_m126, (List.forall_mem_cons.mpr ⟨xk_m127, (List.forall_mem_cons.mpr ⟨xk_m128, (List.forall_mem_cons.mpr ⟨xk_m129, (List.forall_mem_cons.mpr ⟨xk_m130, (List.forall_mem_cons.mpr ⟨xk_m131, (List.forall_mem_cons.mpr ⟨xk_m132, (List.forall_mem_cons.mpr ⟨xk_m133, (List.forall_mem_cons.mpr ⟨xk_m134, (List.forall_mem_cons.mpr ⟨xk_m135, (List.forall_mem_cons.mpr ⟨xk_m136, (List.forall_mem_cons.mpr ⟨xk_m137, (List.forall_mem_cons.mpr ⟨xk_m138, (List.forall_mem_cons.mpr ⟨xk_m139, (fun _ h => absurd h List.not_mem_nil)⟩)⟩)⟩)⟩)⟩)⟩)⟩)⟩)⟩)⟩)⟩)⟩)⟩)⟩)⟩)⟩)⟩)⟩)⟩)⟩)
def xk_ML7 : List xq_M := [(yX9_readNumber, cX9_readNumber, 1, none, 1, 0), (yX9_next, cX9_next, 2, none, 1, 0), (yX9_isSign, cX9_isSign, 2, (some .boolean), 1, 1), (yX9_isKey, cX9_isKey, 2, (some .boolean), 1, 1), (yX9_emit, cX9_emit, 2, none, 1, 1), (yX9_rank, cX9_rank, 1, (some .int), 0, 1), (yX9_doAll, cX9_doAll, 2, none, 1, 1), (yX9_await, cX9_await, 2, none, 1, 1), (yX9_between, cX9_between, 2, (some .boolean), 1, 0), (yX9_closes, cX9_closes, 1, (some .boolean), 1, 0), (yX9_ahead, cX9_ahead, 3, (some .boolean), 1, 1), (yX9_readE, cX9_readE, 5, (some .boolean), 1, 1), (yX9_readAll, cX9_readAll, 3, (some .int), 1, 1), (yX9_text, cX9_text, 2, (some .int), 1, 0), (yX9_force, cX9_force, 3, (some .int), 1, 1), (yX9_init, cX9_init, 1, none, 2, 0), (yX9_done, cX9_done, 3, (some .int), 0, 3), (yX9_says, cX9_says, 7, (some .boolean), 1, 2), (yX9_asks, cX9_asks, 5, (some .int), 1, 4), (yX9_isSong, cX9_isSong, 2, (some .boolean), 1, 1)]
theorem xk_MA7 : ∀ M ∈ xk_ML7, xq_mf M := (List.forall_mem_cons.mpr ⟨xk_m140, (List.forall_mem_cons.mpr ⟨xk_m141, (List.forall_mem_cons.mpr ⟨xk_m142, (List.forall_mem_cons.mpr ⟨xk_m143, (List.forall_mem_cons.mpr ⟨xk_m144, (List.forall_mem_cons.mpr ⟨xk_m145, (List.forall_mem_cons.mpr ⟨xk_m146, (List.forall_mem_cons.mpr ⟨xk_m147, (List.forall_mem_cons.mpr ⟨xk_m148, (List.forall_mem_cons.mpr ⟨xk_m149, (List.forall_mem_cons.mpr ⟨xk_m150, (List.forall_mem_cons.mpr ⟨xk_m151, (List.forall_mem_cons.mpr ⟨xk_m152, (List.forall_mem_cons.mpr ⟨xk_m153, (List.forall_mem_cons.mpr ⟨xk_m154, (List.forall_mem_cons.mpr ⟨xk_m155, (List.forall_mem_cons.mpr ⟨xk_m156, (List.forall_mem_cons.mpr ⟨xk_m157, (List.forall_mem_cons.mpr ⟨xk_m158, (List.forall_mem_cons.mpr ⟨xk_m159, (fun _ h => absurd h List.not_mem_nil)⟩)⟩)⟩)⟩)⟩)⟩)⟩)⟩)⟩)⟩)⟩)⟩)⟩)⟩)⟩)⟩)⟩)⟩)⟩)⟩)
def xk_ML8 : List xq_M := [(yX9_isOne, cX9_isOne, 2, (some .boolean), 1, 1), (yX9_areSome, cX9_areSome, 2, (some .boolean), 1, 1), (yX9_song, cX9_song, 3, (some .int), 1, 1), (yX9_needs, cX9_needs, 2, (some .int), 1, 1), (yX9_person, cX9_person, 4, (some .int), 1, 3), (yX9_teach, cX9_teach, 5, (some .int), 1, 3), (yX9_told, cX9_told, 3, (some .int), 1, 2), (yX9_size, cX9_size, 3, (some .int), 0, 1), (yX9_may, cX9_may, 9, (some .boolean), 1, 5), (yX9_heard, cX9_heard, 3, (some .int), 0, 3), (yX9_begin, cX9_begin, 13, (some .boolean), 1, 7), (yX9_whoHas, cX9_whoHas, 5, (some .int), 1, 2), (yX9_take, cX9_take, 4, none, 1, 2), (yX9_replay, cX9_replay, 10, (some .int), 1, 2), (yX9_evening, cX9_evening, 7, (some .int), 1, 3), (yX9_forget, cX9_forget, 1, (some .int), 1, 0), (yX9_eveningTold, cX9_eveningTold, 3, (some .int), 1, 2), (yX9_knows, cX9_knows, 4, (some .int), 1, 3), (yX9_isSo, cX9_isSo, 2, (some .boolean), 0, 2), (yX9_all, cX9_all, 6, (some .int), 1, 3)]
theorem xk_MA8 : ∀ M ∈ xk_ML8, xq_mf M := (List.forall_mem_cons.mpr ⟨xk_m160, (List.forall_mem_cons.mpr ⟨xk_m161, (List.forall_mem_cons.mpr ⟨xk_m162, (List.forall_mem_cons.mpr ⟨xk_m163, (List.forall_mem_cons.mpr ⟨xk_m164, (List.forall_mem_cons.mpr ⟨xk_m165, (List.forall_mem_cons.mpr ⟨xk_m166, (List.forall_mem_cons.mpr ⟨xk_m167, (List.forall_mem_cons.mpr ⟨xk_m168, (List.forall_mem_cons.mpr ⟨xk_m169, (List.forall_mem_cons.mpr ⟨xk_m170, (List.forall_mem_cons.mpr ⟨xk_m171, (List.forall_mem_cons.mpr ⟨xk_m172, (List.forall_mem_cons.mpr ⟨xk_m173, (List.forall_mem_cons.mpr ⟨xk_m174, (List.forall_mem_cons.mpr ⟨xk_m175, (List.forall_mem_cons.mpr ⟨xk_m176, (List.forall_mem_cons.mpr ⟨xk_m177, (List.forall_mem_cons.mpr ⟨xk_m178, (List.forall_mem_cons.mpr ⟨xk_m179, (fun _ h => absurd h List.not_mem_nil)⟩)⟩)⟩)⟩)⟩)⟩)⟩)⟩)⟩)⟩)⟩)⟩)⟩)⟩)⟩)⟩)⟩)⟩)⟩)⟩)
def xk_ML9 : List xq_M := [(yX9_judge, cX9_judge, 1, (some .int), 1, 0), (yX9_laws, cX9_laws, 3, (some .int), 1, 0), (yX9_mayBefore, cX9_mayBefore, 4, (some .boolean), 1, 3), (yX9_feast, cX9_feast, 5, (some .int), 1, 2), (yX9_leave, cX9_leave, 6, (some .int), 1, 3), (yX9_bars, cX9_bars, 7, (some .int), 1, 3), (yX9_ends, cX9_ends, 7, (some .int), 1, 2), (yX9_state, cX9_state, 3, (some .int), 1, 0), (yX9_take_, cX9_take_, 3, none, 1, 1), (yX9_much, cX9_much, 3, (some .int), 0, 2), (yX9_isDone, cX9_isDone, 7, (some .boolean), 1, 4), (yX9_plan, cX9_plan, 16, none, 1, 5), (yX9_isAsked, cX9_isAsked, 5, (some .boolean), 1, 4), (yX9_least, cX9_least, 6, (some .int), 1, 5), (yX9_why, cX9_why, 7, (some .int), 1, 4), (yX9_place, cX9_place, 7, (some .int), 1, 3), (yX9_whole, cX9_whole, 5, (some .int), 1, 2), (yX9_was, cX9_was, 12, (some .int), 1, 4), (yX9_parts, cX9_parts, 6, (some .long), 1, 2), (yX9_lost, cX9_lost, 3, (some .long), 1, 2)]
theorem xk_MA9 : ∀ M ∈ xk_ML9, xq_mf M := (List.forall_mem_cons.mpr ⟨xk_m180, (List.forall_mem_cons.mpr ⟨xk_m181, (List.forall_mem_cons.mpr ⟨xk_m182, (List.forall_mem_cons.mpr ⟨xk_m183, (List.forall_mem_cons.mpr ⟨xk_m184, (List.forall_mem_cons.mpr ⟨xk_m185, (List.forall_mem_cons.mpr ⟨xk_m186, (List.forall_mem_cons.mpr ⟨xk_m187, (List.forall_mem_cons.mpr ⟨xk_m188, (List.forall_mem_cons.mpr ⟨xk_m189, (List.forall_mem_cons.mpr ⟨xk_m190, (List.forall_mem_cons.mpr ⟨xk_m191, (List.forall_mem_cons.mpr ⟨xk_m192, (List.forall_mem_cons.mpr ⟨xk_m193, (List.forall_mem_cons.mpr ⟨xk_m194, (List.forall_mem_cons.mpr ⟨xk_m195, (List.forall_mem_cons.mpr ⟨xk_m196, (List.forall_mem_cons.mpr ⟨xk_m197, (List.forall_mem_cons.mpr ⟨xk_m198, (List.forall_mem_cons.mpr ⟨xk_m199, (fun _ h => absurd h List.not_mem_nil)⟩)⟩)⟩)⟩)⟩)⟩)⟩)⟩)⟩)⟩)⟩)⟩)⟩)⟩)⟩)⟩)⟩)⟩)⟩)⟩)
def xk_ML10 : List xq_M := [(yX9_keep, cX9_keep, 5, (some .int), 1, 2), (yX9_rarest, cX9_rarest, 5, (some .int), 1, 0), (yX9_draw, cX9_draw, 11, none, 1, 4), (yX9_isHow, cX9_isHow, 1, (some .boolean), 0, 1), (yX9_drawn, cX9_drawn, 7, (some .int), 1, 4), (yX9_divisor, cX9_divisor, 5, (some .int), 0, 2), (yX9_odds, cX9_odds, 9, (some .long), 1, 5), (yX9_copy, cX9_copy, 3, none, 0, 2), (yX9_image, cX9_image, 1, (some .int), 1, 0), (yX9_back, cX9_back, 3, (some .int), 1, 0), (yX9_isSheet, cX9_isSheet, 1, (some .boolean), 0, 1), (yX9_sheet, cX9_sheet, 5, (some .int), 1, 3), (yX9_cell, cX9_cell, 4, (some .int), 1, 3), (yX9_copy_, cX9_copy_, 7, (some .int), 1, 5), (yX9_peopleBy, cX9_peopleBy, 10, (some .int), 1, 4), (yX9_taken, cX9_taken, 6, (some .int), 1, 2), (yJ6_bitCount_0f7a4, cJ6_bitCount_0f7a4, 1, (some .int), 0, 1), (yJ7_fill_53178, cJ7_fill_53178, 4, none, 0, 2), (yJ7_copyOf_59c91, cJ7_copyOf_59c91, 3, (some (.array .int)), 0, 2), (yJ0_length_8abf5, cJ0_length_8abf5, 1, (some .int), 1, 0)]
theorem xk_MA10 : ∀ M ∈ xk_ML10, xq_mf M := (List.forall_mem_cons.mpr ⟨xk_m200, (List.forall_mem_cons.mpr ⟨xk_m201, (List.forall_mem_cons.mpr ⟨xk_m202, (List.forall_mem_cons.mpr ⟨xk_m203, (List.forall_mem_cons.mpr ⟨xk_m204, (List.forall_mem_cons.mpr ⟨xk_m205, (List.forall_mem_cons.mpr ⟨xk_m206, (List.forall_mem_cons.mpr ⟨xk_m207, (List.forall_mem_cons.mpr ⟨xk_m208, (List.forall_mem_cons.mpr ⟨xk_m209, (List.forall_mem_cons.mpr ⟨xk_m210, (List.forall_mem_cons.mpr ⟨xk_m211, (List.forall_mem_cons.mpr ⟨xk_m212, (List.forall_mem_cons.mpr ⟨xk_m213, (List.forall_mem_cons.mpr ⟨xk_m214, (List.forall_mem_cons.mpr ⟨xk_m215, (List.forall_mem_cons.mpr ⟨xk_m216, (List.forall_mem_cons.mpr ⟨xk_m217, (List.forall_mem_cons.mpr ⟨xk_m218, (List.forall_mem_cons.mpr ⟨xk_m219, (fun _ h => absurd h List.not_mem_nil)⟩)⟩)⟩)⟩)⟩)⟩)⟩)⟩)⟩)⟩)⟩)⟩)⟩)⟩)⟩)⟩)⟩)⟩)⟩)⟩)
def xk_ML11 : List xq_M := [(yJ0_charAt_5068e, cJ0_charAt_5068e, 2, (some .char), 1, 1)]
theorem xk_MA11 : ∀ M ∈ xk_ML11, xq_mf M := (List.forall_mem_cons.mpr ⟨xk_m220, (fun _ h => absurd h List.not_mem_nil)⟩)
set_option maxRecDepth 100000 in
theorem xk_ML_eq : xk_ML = xk_ML0 ++ (xk_ML1 ++ (xk_ML2 ++ (xk_ML3 ++ (xk_ML4 ++ (xk_ML5 ++ (xk_ML6 ++ (xk_ML7 ++ (xk_ML8 ++ (xk_ML9 ++ (xk_ML10 ++ (xk_ML11))))))))))) := rfl
theorem xk_MA : ∀ (k : Nat) (M : xq_M), xk_M k = some M → xq_mf M := fun k M hk => by
  have h : M ∈ xk_ML := List.mem_of_getElem? hk
  rw [xk_ML_eq] at h
  simp only [List.mem_append] at h
  rcases h with h | h | h | h | h | h | h | h | h | h | h | h
  · exact xk_MA0 M h
  · exact xk_MA1 M h
  · exact xk_MA2 M h
  · exact xk_MA3 M h
  · exact xk_MA4 M h
  · exact xk_MA5 M h
  · exact xk_MA6 M h
  · exact xk_MA7 M h
  · exact xk_MA8 M h
  · exact xk_MA9 M h
  · exact xk_MA10 M h
  · exact xk_MA11 M h
