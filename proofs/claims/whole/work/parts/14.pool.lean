/-! The words of the tables that carry over to every call, and what they say of the rows of the methods -/
abbrev vwCl : List vw_C := [(RX0, TX0, 8), (RX1, TX1, 4), (RX2, TX2, 9), (RX3, TX3, 3), (RX4, TX4, 11), (RX5, TX5, 3), (RX6, TX6, 4), (RX7, TX7, 5), (RX8, TX8, 10), (RX9, TX9, 3), (RX11, TX11, 15), (RX12, TX12, 47)]
def mm_TW : List Cond := lw_tbl.filter goodWord
theorem mm_tw {w : Cond} (i : Nat) (h : tables_1[i]? = some w) (hg : goodWord w = true) : w ∈ mm_TW := List.mem_filter.mpr ⟨List.mem_append_right _ (List.mem_of_getElem? h), hg⟩
theorem mm_tp {w : Cond} (i : Nat) (h : (k2_sels lw_privs)[i]? = some w) (hg : goodWord w = true) : w ∈ mm_TW := List.mem_filter.mpr ⟨List.mem_append_left _ (List.mem_of_getElem? h), hg⟩
def mm_xl : List String := [RX0, RX1, RX2, RX3, RX4, RX5, RX6, RX7, RX8, RX9, RX10, RX11, RX12]
def mm_xn (x : Nat) : String := mm_xl.getD x ""
def mm_ms : List (MethodName × ByteArray × Option FieldType × Nat × Nat × Nat) := [(yX0_readBook, cX0_readBook, (some .boolean), 0, 2, 0),
  (yX0_readLine, cX0_readLine, (some .boolean), 0, 2, 0),
  (yX0_isAct, cX0_isAct, (some .boolean), 0, 1, 1),
  (yX0_actOf, cX0_actOf, (some .int), 0, 1, 1),
  (yX0_readRelieve, cX0_readRelieve, (some .boolean), 0, 2, 0),
  (yX0_readWalk, cX0_readWalk, (some .boolean), 0, 2, 0),
  (yX0_add, cX0_add, (some .boolean), 0, 2, 0),
  (yX0_live, cX0_live, (some .int), 0, 2, 0),
  (yX0_tell, cX0_tell, (some .int), 0, 1, 0),
  (yX1_judge, cX1_judge, (some .int), 1, 2, 0),
  (yX1_arePairs, cX1_arePairs, (some .boolean), 1, 2, 1),
  (yX1_leavesRests, cX1_leavesRests, (some .boolean), 1, 3, 1),
  (yX1_keepBounds, cX1_keepBounds, none, 1, 0, 0),
  (yX1_thingToLookAt, cX1_thingToLookAt, (some .int), 1, 1, 0),
  (yX1_mostLeftBy, cX1_mostLeftBy, (some .int), 1, 1, 0),
  (yX2_begin, cX2_begin, none, 2, 1, 0),
  (yX2_copyFrom, cX2_copyFrom, none, 2, 1, 0),
  (yX2_isOut, cX2_isOut, (some .boolean), 2, 1, 0),
  (yX2_isDone, cX2_isDone, (some .boolean), 2, 1, 0),
  (yX2_secondsLeft, cX2_secondsLeft, (some .int), 2, 0, 0),
  (yX2_doneWorks, cX2_doneWorks, (some .int), 2, 1, 0),
  (yX2_openWorks, cX2_openWorks, (some .int), 2, 1, 0),
  (yX2_howWorkIs, cX2_howWorkIs, (some .int), 2, 2, 0),
  (yX2_isBusy, cX2_isBusy, (some .boolean), 2, 2, 0),
  (yX2_placeBehind, cX2_placeBehind, (some .int), 2, 3, 0),
  (yX2_somebodyWalksAt, cX2_somebodyWalksAt, (some .boolean), 2, 2, 0),
  (yX2_act, cX2_act, (some .int), 2, 3, 0),
  (yX2_takeFright, cX2_takeFright, (some .int), 2, 1, 0),
  (yX2_takeCure, cX2_takeCure, (some .int), 2, 0, 0),
  (yX2_takeFly, cX2_takeFly, (some .int), 2, 0, 0),
  (yX2_changeBeater, cX2_changeBeater, (some .int), 2, 2, 0),
  (yX2_goOut, cX2_goOut, (some .int), 2, 1, 0),
  (yX2_comeIn, cX2_comeIn, (some .int), 2, 2, 0),
  (yX2_passAll, cX2_passAll, (some .int), 2, 2, 0),
  (yX2_passSecond, cX2_passSecond, none, 2, 1, 0),
  (yX2_beat, cX2_beat, none, 2, 1, 0),
  (yX2_secondsTillDone, cX2_secondsTillDone, (some .int), 2, 2, 0),
  (yX2_secondsTillFree, cX2_secondsTillFree, (some .int), 2, 2, 0),
  (yX2_passDrawn, cX2_passDrawn, (some .int), 2, 3, 0),
  (yX2_passDrawnSecond, cX2_passDrawnSecond, (some .int), 2, 2, 0),
  (yX2_leaveOrJoin, cX2_leaveOrJoin, none, 2, 2, 0),
  (yX2_stir, cX2_stir, (some .int), 2, 1, 1),
  (yX2_drawOf, cX2_drawOf, (some .int), 2, 2, 1),
  (yX2_votesBehindRound, cX2_votesBehindRound, (some .int), 2, 2, 0),
  (yX2_votesBehind, cX2_votesBehind, (some .int), 2, 3, 0),
  (yX2_willBeNear, cX2_willBeNear, (some .boolean), 2, 3, 0),
  (yX3_forget, cX3_forget, none, 3, 0, 0),
  (yX3_keep, cX3_keep, none, 3, 1, 0),
  (yX3_takeBack, cX3_takeBack, (some .int), 3, 1, 0),
  (yX4_clear, cX4_clear, none, 4, 0, 0),
  (yX4_copyFrom, cX4_copyFrom, none, 4, 1, 0),
  (yX4_has, cX4_has, (some .boolean), 4, 2, 0),
  (yX4_isFull, cX4_isFull, (some .boolean), 4, 1, 0),
  (yX4_beaters, cX4_beaters, (some .int), 4, 0, 0),
  (yX4_mayBeat, cX4_mayBeat, (some .boolean), 4, 1, 0),
  (yX4_gapOf, cX4_gapOf, (some .int), 4, 1, 0),
  (yX4_addName, cX4_addName, (some .int), 4, 2, 0),
  (yX4_nameOf, cX4_nameOf, (some .long), 4, 2, 0),
  (yX4_numberOf, cX4_numberOf, (some .int), 4, 2, 0),
  (yX4_knows, cX4_knows, (some .boolean), 4, 1, 0),
  (yX4_placeOn, cX4_placeOn, (some .int), 4, 2, 0),
  (yX5_countFor, cX5_countFor, (some .int), 5, 3, 0),
  (yX5_waysWithOneMore, cX5_waysWithOneMore, (some .int), 5, 3, 0),
  (yX5_keepFirst, cX5_keepFirst, none, 5, 3, 0),
  (yX5_leastBeater, cX5_leastBeater, (some .int), 5, 3, 0),
  (yX6_begin, cX6_begin, none, 6, 1, 0),
  (yX6_copyFrom, cX6_copyFrom, none, 6, 1, 0),
  (yX7_clear, cX7_clear, none, 7, 0, 0),
  (yX7_isTold, cX7_isTold, (some .boolean), 7, 0, 0),
  (yX7_copyFrom, cX7_copyFrom, none, 7, 1, 0),
  (yX7_readSentence, cX7_readSentence, (some .boolean), 7, 2, 0),
  (yX7_readCond, cX7_readCond, (some .boolean), 7, 3, 0),
  (yX7_readAll, cX7_readAll, (some .boolean), 7, 3, 0),
  (yX7_readOne, cX7_readOne, (some .boolean), 7, 3, 0),
  (yX7_beginsOne, cX7_beginsOne, (some .boolean), 7, 1, 1),
  (yX7_isSign, cX7_isSign, (some .boolean), 7, 1, 1),
  (yX7_add, cX7_add, (some .boolean), 7, 3, 0),
  (yX7_holds, cX7_holds, (some .boolean), 7, 3, 0),
  (yX7_holdsAlone, cX7_holdsAlone, (some .boolean), 7, 4, 0),
  (yX7_measure, cX7_measure, (some .int), 7, 4, 1),
  (yX7_compares, cX7_compares, (some .boolean), 7, 3, 1),
  (yX8_append, cX8_append, none, 8, 1, 0),
  (yX8_get, cX8_get, (some .int), 8, 1, 0),
  (yX8_beginText, cX8_beginText, none, 8, 1, 0),
  (yX8_advance, cX8_advance, none, 8, 0, 0),
  (yX8_skipBlanks, cX8_skipBlanks, none, 8, 0, 0),
  (yX8_readToken, cX8_readToken, none, 8, 0, 0),
  (yX11_imageAt, cX11_imageAt, (some (.object "HiccupTown$Scene")), 11, 1, 0),
  (yX8_readToken, cX8_readToken, none, 8, 0, 0),
  (yX8_failAt, cX8_failAt, (some .boolean), 8, 2, 0),
  (yX8_fail, cX8_fail, (some .boolean), 8, 1, 0),
  (yX8_take, cX8_take, (some .boolean), 8, 1, 0),
  (yX8_takeNumber, cX8_takeNumber, (some .int), 8, 2, 0),
  (yX8_takeOneOf, cX8_takeOneOf, (some .int), 8, 2, 0),
  (yX9_readTown, cX9_readTown, (some .int), 9, 1, 0),
  (yX9_readLine, cX9_readLine, (some .boolean), 9, 1, 0),
  (yX9_readRing, cX9_readRing, (some .boolean), 9, 1, 0),
  (yX9_readGap, cX9_readGap, (some .boolean), 9, 1, 0),
  (yX9_readNewOne, cX9_readNewOne, (some .int), 9, 2, 0),
  (yX9_readCousin, cX9_readCousin, (some .boolean), 9, 1, 0),
  (yX9_readPerson, cX9_readPerson, (some .boolean), 9, 1, 0),
  (yX9_readWork, cX9_readWork, (some .boolean), 9, 1, 0),
  (yX9_readAfter, cX9_readAfter, (some .boolean), 9, 1, 0),
  (yX9_readThing, cX9_readThing, (some .boolean), 9, 1, 0),
  (yX10_find, cX10_find, (some (.object "HiccupTown$Word")), 10, 2, 1),
  (yX11_feed, cX11_feed, (some .int), 11, 5, 0),
  (yX11_end, cX11_end, (some .boolean), 11, 1, 0),
  (yX11_town, cX11_town, (some .int), 11, 0, 0),
  (yX11_fault, cX11_fault, (some .int), 11, 0, 0),
  (yX11_work, cX11_work, (some .int), 11, 2, 0),
  (yX11_gap, cX11_gap, (some .int), 11, 1, 0),
  (yX11_now, cX11_now, (some .int), 11, 1, 0),
  (yX11_fright, cX11_fright, (some .int), 11, 0, 0),
  (yX11_cure, cX11_cure, (some .int), 11, 0, 0),
  (yX11_fly, cX11_fly, (some .int), 11, 0, 0),
  (yX11_relieve, cX11_relieve, (some .int), 11, 1, 0),
  (yX11_leave, cX11_leave, (some .int), 11, 1, 0),
  (yX11_join, cX11_join, (some .int), 11, 1, 0),
  (yX11_seconds, cX11_seconds, (some .int), 11, 1, 0),
  (yX11_undo, cX11_undo, (some .int), 11, 0, 0),
  (yX11_at, cX11_at, (some .int), 11, 2, 0),
  (yX11_meet, cX11_meet, (some .int), 11, 2, 0),
  (yX11_when, cX11_when, (some .int), 11, 1, 0),
  (yX11_once, cX11_once, (some .int), 11, 2, 0),
  (yX11_stood, cX11_stood, (some .int), 11, 0, 0),
  (yX11_stoodLeast, cX11_stoodLeast, (some .int), 11, 0, 0),
  (yX11_stoodMost, cX11_stoodMost, (some .int), 11, 0, 0),
  (yX11_next, cX11_next, (some .int), 11, 0, 0),
  (yX11_rows, cX11_rows, (some .int), 11, 2, 0),
  (yX11_rowAt, cX11_rowAt, (some .int), 11, 1, 0),
  (yX11_swift, cX11_swift, (some .int), 11, 1, 0),
  (yX11_joins, cX11_joins, (some .int), 11, 1, 0),
  (yX11_vote, cX11_vote, (some .int), 11, 0, 0),
  (yX11_voted, cX11_voted, (some .int), 11, 0, 0),
  (yX11_tag, cX11_tag, (some .int), 11, 1, 0),
  (yX11_byteAt, cX11_byteAt, (some .int), 11, 1, 0),
  (yX11_drawn, cX11_drawn, (some .int), 11, 2, 0),
  (yX11_odds, cX11_odds, (some .int), 11, 3, 0),
  (yX11_book, cX11_book, (some .int), 11, 1, 0),
  (yX11_told, cX11_told, (some .int), 11, 1, 0),
  (yX11_sentence, cX11_sentence, (some .int), 11, 0, 0),
  (yX11_said, cX11_said, (some .int), 11, 1, 0),
  (yX11_image, cX11_image, (some .boolean), 11, 1, 0),
  (yX11_restore, cX11_restore, (some .boolean), 11, 1, 0),
  (yX11_count, cX11_count, (some .int), 11, 1, 0),
  (yX11_endText, cX11_endText, (some .boolean), 11, 0, 0),
  (yX11_actKept, cX11_actKept, (some .int), 11, 2, 0),
  (yX11_keepBefore, cX11_keepBefore, none, 11, 1, 0),
  (yX11_tagByte, cX11_tagByte, none, 11, 1, 0),
  (yX11_tagName, cX11_tagName, none, 11, 1, 0),
  (yX11_tagText, cX11_tagText, none, 11, 1, 0),
  (yX11_tagNumber, cX11_tagNumber, none, 11, 1, 0),
  (yX11_hasBit, cX11_hasBit, (some .boolean), 11, 2, 1),
  (yX11_remainder, cX11_remainder, (some .int), 11, 2, 1),
  (yX12_thrown, cX12_thrown, (some .int), 12, 0, 0),
  (yX12_refuse, cX12_refuse, (some .int), 12, 0, 0),
  (yX12_come, cX12_come, none, 12, 1, 0),
  (yX12_feed, cX12_feed, (some .int), 12, 5, 0),
  (yX12_end, cX12_end, (some .boolean), 12, 1, 0),
  (yX12_take, cX12_take, (some .int), 12, 0, 0),
  (yX12_isIn, cX12_isIn, (some .boolean), 12, 3, 1),
  (yX12_has, cX12_has, (some .boolean), 12, 2, 1),
  (yX12_least, cX12_least, (some .int), 12, 2, 1),
  (yX12_size, cX12_size, (some .int), 12, 1, 1),
  (yX12_common, cX12_common, (some .int), 12, 2, 1),
  (yX12_tapeAt, cX12_tapeAt, (some .int), 12, 1, 0),
  (yX12_isDigit, cX12_isDigit, (some .boolean), 12, 1, 1),
  (yX12_isLetter, cX12_isLetter, (some .boolean), 12, 1, 1),
  (yX12_go, cX12_go, none, 12, 0, 0),
  (yX12_spelt, cX12_spelt, (some .long), 12, 7, 1),
  (yX12_wordOf, cX12_wordOf, (some .long), 12, 1, 1),
  (yX12_isWord, cX12_isWord, (some .boolean), 12, 1, 0),
  (yX12_isSign, cX12_isSign, (some .boolean), 12, 1, 0),
  (yX12_isName, cX12_isName, (some .boolean), 12, 0, 0),
  (yX12_bad, cX12_bad, (some .boolean), 12, 1, 0),
  (yX12_readNumber, cX12_readNumber, (some .boolean), 12, 2, 0),
  (yX12_readEnd, cX12_readEnd, (some .boolean), 12, 0, 0),
  (yX12_begin, cX12_begin, none, 12, 1, 0),
  (yX12_startRead, cX12_startRead, none, 12, 0, 0),
  (yX12_startSo, cX12_startSo, none, 12, 0, 0),
  (yX12_findIn, cX12_findIn, (some .int), 12, 4, 1),
  (yX12_isTaken, cX12_isTaken, (some .boolean), 12, 0, 0),
  (yX12_readNew, cX12_readNew, (some .boolean), 12, 1, 0),
  (yX12_readFirst, cX12_readFirst, (some .boolean), 12, 2, 0),
  (yX12_put, cX12_put, (some .boolean), 12, 2, 0),
  (yX12_isFresh, cX12_isFresh, (some .boolean), 12, 1, 0),
  (yX12_readRing, cX12_readRing, (some .boolean), 12, 0, 0),
  (yX12_readCousin, cX12_readCousin, (some .boolean), 12, 0, 0),
  (yX12_readPlace, cX12_readPlace, (some .boolean), 12, 1, 0),
  (yX12_readPerson, cX12_readPerson, (some .boolean), 12, 0, 0),
  (yX12_readWork, cX12_readWork, (some .boolean), 12, 0, 0),
  (yX12_isWorkHere, cX12_isWorkHere, (some .boolean), 12, 0, 0),
  (yX12_readAfter, cX12_readAfter, (some .boolean), 12, 0, 0),
  (yX12_readThing, cX12_readThing, (some .boolean), 12, 0, 0),
  (yX12_readLine, cX12_readLine, (some .boolean), 12, 0, 0),
  (yX12_town, cX12_town, (some .int), 12, 0, 0),
  (yX12_fault, cX12_fault, (some .int), 12, 0, 0),
  (yX12_isBeater, cX12_isBeater, (some .boolean), 12, 1, 0),
  (yX12_isPerson, cX12_isPerson, (some .boolean), 12, 1, 0),
  (yX12_isWork, cX12_isWork, (some .boolean), 12, 1, 0),
  (yX12_isOut, cX12_isOut, (some .boolean), 12, 1, 0),
  (yX12_isStanding, cX12_isStanding, (some .boolean), 12, 0, 0),
  (yX12_doneWorks, cX12_doneWorks, (some .int), 12, 0, 0),
  (yX12_openWorks, cX12_openWorks, (some .int), 12, 0, 0),
  (yX12_isBusy, cX12_isBusy, (some .boolean), 12, 1, 0),
  (yX12_person, cX12_person, (some .int), 12, 2, 0),
  (yX12_work, cX12_work, (some .int), 12, 2, 0),
  (yX12_gap, cX12_gap, (some .int), 12, 1, 0),
  (yX12_now, cX12_now, (some .int), 12, 1, 0),
  (yX12_snap, cX12_snap, none, 12, 0, 0),
  (yX12_isCrowded, cX12_isCrowded, (some .boolean), 12, 1, 0),
  (yX12_why, cX12_why, (some .int), 12, 2, 0),
  (yX12_relieved, cX12_relieved, none, 12, 1, 0),
  (yX12_live, cX12_live, none, 12, 2, 0),
  (yX12_act, cX12_act, (some .int), 12, 3, 0),
  (yX12_fright, cX12_fright, (some .int), 12, 0, 0),
  (yX12_cure, cX12_cure, (some .int), 12, 0, 0),
  (yX12_fly, cX12_fly, (some .int), 12, 0, 0),
  (yX12_relieve, cX12_relieve, (some .int), 12, 1, 0),
  (yX12_leave, cX12_leave, (some .int), 12, 1, 0),
  (yX12_join, cX12_join, (some .int), 12, 1, 0),
  (yX12_undo, cX12_undo, (some .int), 12, 0, 0),
  (yX12_beat, cX12_beat, none, 12, 0, 0),
  (yX12_oneSecond, cX12_oneSecond, none, 12, 0, 0),
  (yX12_passSeconds, cX12_passSeconds, (some .int), 12, 1, 0),
  (yX12_seconds, cX12_seconds, (some .int), 12, 1, 0),
  (yX12_placeBehind, cX12_placeBehind, (some .int), 12, 2, 0),
  (yX12_at, cX12_at, (some .int), 12, 2, 0),
  (yX12_meet, cX12_meet, (some .int), 12, 2, 0),
  (yX12_layAside, cX12_layAside, none, 12, 0, 0),
  (yX12_takeBack, cX12_takeBack, none, 12, 0, 0),
  (yX12_doneBy, cX12_doneBy, (some .int), 12, 2, 0),
  (yX12_when, cX12_when, (some .int), 12, 1, 0),
  (yX12_swift, cX12_swift, (some .int), 12, 1, 0),
  (yX12_joins, cX12_joins, (some .int), 12, 1, 0),
  (yX12_once, cX12_once, (some .int), 12, 2, 0),
  (yX12_hasStood, cX12_hasStood, (some .boolean), 12, 2, 0),
  (yX12_leftBy, cX12_leftBy, (some .int), 12, 2, 0),
  (yX12_stood, cX12_stood, (some .int), 12, 0, 0),
  (yX12_stoodLeast, cX12_stoodLeast, (some .int), 12, 0, 0),
  (yX12_stoodMost, cX12_stoodMost, (some .int), 12, 0, 0),
  (yX12_next, cX12_next, (some .int), 12, 0, 0),
  (yX12_rowsOf, cX12_rowsOf, (some .int), 12, 2, 0),
  (yX12_layRows, cX12_layRows, none, 12, 1, 0),
  (yX12_rows, cX12_rows, (some .int), 12, 2, 0),
  (yX12_rowAt, cX12_rowAt, (some .int), 12, 1, 0),
  (yX12_areNear, cX12_areNear, (some .boolean), 12, 2, 0),
  (yX12_isFor, cX12_isFor, (some .boolean), 12, 2, 0),
  (yX12_vote, cX12_vote, (some .int), 12, 0, 0),
  (yX12_voted, cX12_voted, (some .int), 12, 0, 0),
  (yX12_write, cX12_write, none, 12, 1, 0),
  (yX12_writeWord, cX12_writeWord, none, 12, 1, 0),
  (yX12_writeNumber, cX12_writeNumber, none, 12, 1, 0),
  (yX12_writeNext, cX12_writeNext, none, 12, 1, 0),
  (yX12_tag, cX12_tag, (some .int), 12, 1, 0),
  (yX12_byteAt, cX12_byteAt, (some .int), 12, 1, 0),
  (yX12_draw, cX12_draw, (some .int), 12, 1, 0),
  (yX12_drawsFor, cX12_drawsFor, none, 12, 2, 0),
  (yX12_drawSeconds, cX12_drawSeconds, (some .int), 12, 2, 0),
  (yX12_drawn, cX12_drawn, (some .int), 12, 2, 0),
  (yX12_odds, cX12_odds, (some .int), 12, 3, 0),
  (yX12_keep, cX12_keep, (some .boolean), 12, 2, 0),
  (yX12_readNamed, cX12_readNamed, (some .boolean), 12, 2, 0),
  (yX12_readBeater, cX12_readBeater, (some .boolean), 12, 0, 0),
  (yX12_readDoes, cX12_readDoes, (some .boolean), 12, 1, 0),
  (yX12_readBookLine, cX12_readBookLine, (some .boolean), 12, 0, 0),
  (yX12_goBy, cX12_goBy, (some .int), 12, 1, 0),
  (yX12_book, cX12_book, (some .int), 12, 1, 0),
  (yX12_stay, cX12_stay, none, 12, 1, 0),
  (yX12_told, cX12_told, (some .int), 12, 1, 0),
  (yX12_saysOne, cX12_saysOne, (some .int), 12, 4, 0),
  (yX12_readOr, cX12_readOr, (some .boolean), 12, 0, 0),
  (yX12_readAnd, cX12_readAnd, (some .boolean), 12, 0, 0),
  (yX12_readSaid, cX12_readSaid, (some .boolean), 12, 0, 0),
  (yX12_readNot, cX12_readNot, (some .boolean), 12, 0, 0),
  (yX12_readBracket, cX12_readBracket, (some .boolean), 12, 0, 0),
  (yX12_readOf, cX12_readOf, (some .boolean), 12, 1, 0),
  (yX12_readCompare, cX12_readCompare, (some .boolean), 12, 1, 0),
  (yX12_sentence, cX12_sentence, (some .int), 12, 0, 0),
  (yX12_holds, cX12_holds, (some .boolean), 12, 2, 0),
  (yX12_said, cX12_said, (some .int), 12, 1, 0),
  (yX12_image, cX12_image, (some .boolean), 12, 1, 0),
  (yX12_restore, cX12_restore, (some .boolean), 12, 1, 0),
  (yX12_count, cX12_count, (some .int), 12, 1, 0),
  (yX11_person, cX11_person, (some .int), 11, 2, 0),
  (yX12_init, cX12_init, none, 12, 0, 2)]
def mm_mq (q : Nat) : MethodName × ByteArray × Option FieldType × Nat × Nat × Nat := mm_ms.getD q (⟨"", "", ""⟩, ⟨#[]⟩, none, 0, 0, 0)
def mm_y (q : Nat) : MethodName := (mm_mq q).1
def mm_b (q : Nat) : ByteArray := (mm_mq q).2.1
def mm_r (q : Nat) : Option FieldType := (mm_mq q).2.2.1
/-- the number of its class -/
def mm_xq (q : Nat) : Nat := (mm_mq q).2.2.2.1
/-- how many parameters -/
def mm_na (q : Nat) : Nat := (mm_mq q).2.2.2.2.1
/-- 1: static -/
def mm_sq (q : Nat) : Nat := (mm_mq q).2.2.2.2.2
/-- the tag of what comes back; 8: nothing -/
def mm_rt (q : Nat) : Nat := match mm_r q with
  | none => 8
  | some .int => 0
  | some .boolean => 0
  | some .long => 1
  | _ => bif q == 87 then 6 else 2
/-- the kind of the objects of the class of a number (0: none) -/
def mm_xt (x : Nat) : Nat := [10, 11, 12, 13, 14, 15, 16, 17, 18, 19, 0, 20, 21].getD x 0
/-- the fields of the kinds 10 and on: 0 int, 1 long, 2 a Word, 5 boolean, 3 what lies at a distance (its kind, the distance) -/
def mm_fcl : List (List (Nat × Nat × Nat)) := [[(3, 26, 1), (3, 26, 2), (0, 0, 0), (5, 0, 0), (0, 0, 0), (0, 0, 0), (0, 0, 0), (0, 0, 0)],
  [(3, 31, 1), (0, 0, 0), (0, 0, 0), (0, 0, 0)],
  [(0, 0, 0), (0, 0, 0), (0, 0, 0), (5, 0, 0), (0, 0, 0), (0, 0, 0), (3, 25, 1), (3, 25, 2), (3, 24, 3)],
  [(3, 33, 1), (0, 0, 0), (0, 0, 0)],
  [(0, 0, 0), (0, 0, 0), (3, 22, 1), (3, 28, 2), (3, 23, 3), (3, 25, 4), (3, 25, 5), (3, 24, 6), (3, 24, 7), (3, 24, 8), (3, 23, 9)],
  [(3, 35, 1), (3, 23, 8), (0, 0, 0)],
  [(3, 14, 1), (3, 12, 11), (3, 17, 15), (5, 0, 0)],
  [(3, 32, 1), (3, 32, 2), (3, 26, 3), (0, 0, 0), (0, 0, 0)],
  [(3, 29, 1), (0, 0, 0), (0, 0, 0), (0, 0, 0), (2, 0, 0), (0, 0, 0), (0, 0, 0), (1, 0, 0), (0, 0, 0), (0, 0, 0)],
  [(3, 14, 1), (5, 0, 0), (5, 0, 0)],
  [(3, 18, 1), (3, 19, 3), (3, 16, 14), (3, 34, 33), (3, 13, 34), (3, 12, 68), (3, 12, 72), (3, 11, 76), (3, 15, 78), (3, 10, 87), (3, 17, 90), (3, 30, 94), (0, 0, 0), (0, 0, 0), (0, 0, 0)],
  [(0, 0, 0), (3, 36, 1), (0, 0, 0), (0, 0, 0), (0, 0, 0), (0, 0, 0), (0, 0, 0), (0, 0, 0), (0, 0, 0), (0, 0, 0), (0, 0, 0), (0, 0, 0), (1, 0, 0), (0, 0, 0), (3, 37, 2), (3, 38, 3), (3, 39, 4), (3, 40, 5), (3, 41, 6), (3, 42, 7), (3, 42, 8), (3, 43, 9), (3, 44, 10), (3, 44, 11), (0, 0, 0), (5, 0, 0), (3, 45, 12), (3, 46, 13), (0, 0, 0), (0, 0, 0), (0, 0, 0), (3, 47, 14), (3, 23, 15), (0, 0, 0), (0, 0, 0), (3, 48, 16), (0, 0, 0), (0, 0, 0), (3, 49, 17), (3, 22, 18), (0, 0, 0), (5, 0, 0), (3, 50, 19), (0, 0, 0), (0, 0, 0), (0, 0, 0), (0, 0, 0)]]
def mm_fcd (t k : Nat) : Nat × Nat × Nat := (mm_fcl.getD (t - 10) []).getD k (9, 0, 0)
def mm_fn (t : Nat) : Nat := (mm_fcl.getD (t - 10) []).length
/-- the kinds of the objects, by their numbers -/
def mm_kdl : List Nat := [20, 18, 29, 19, 14, 22, 28, 23, 25, 25, 24, 24, 24, 23, 16, 14, 22, 28, 23, 25, 25, 24, 24, 24, 23, 12, 25, 25, 24, 17, 32, 32, 26, 34, 13, 33, 12, 25, 25, 24, 12, 25, 25, 24, 12, 25, 25, 24, 12, 25, 25, 24, 12, 25, 25, 24, 12, 25, 25, 24, 12, 25, 25, 24, 12, 25, 25, 24, 12, 25, 25, 24, 12, 25, 25, 24, 11, 31, 15, 35, 27, 27, 27, 27, 27, 27, 23, 10, 26, 26, 17, 32, 32, 26, 30, 16, 14, 22, 28, 23, 25, 25, 24, 24, 24, 23, 12, 25, 25, 24, 17, 32, 32, 26, 16, 14, 22, 28, 23, 25, 25, 24, 24, 24, 23, 12, 25, 25, 24, 17, 32, 32, 26, 21, 36, 37, 38, 39, 40, 41, 42, 42, 43, 44, 44, 45, 46, 47, 23, 48, 49, 22, 50]
def mm_kd (o : Nat) : Nat := mm_kdl.getD o 0
/-- fields: class, pool place, kind, slot -/
def mm_pf : List (Nat × Nat × Nat × Nat) := [(0, 11, 10, 0), (0, 15, 10, 1), (0, 18, 10, 2), (0, 22, 18, 4), (0, 47, 18, 7), (0, 114, 10, 3), (0, 118, 10, 4), (0, 121, 10, 5), (0, 130, 12, 0), (0, 133, 10, 6), (0, 140, 10, 7), (1, 11, 11, 0), (1, 15, 11, 1), (1, 19, 11, 2), (1, 22, 11, 3), (1, 40, 18, 1), (1, 55, 14, 10), (1, 63, 14, 2), (2, 11, 12, 2), (2, 17, 12, 6), (2, 21, 12, 7), (2, 24, 12, 8), (2, 27, 12, 0), (2, 30, 12, 1), (2, 37, 12, 3), (2, 41, 12, 4), (2, 44, 14, 1), (2, 47, 12, 5), (2, 50, 14, 5), (2, 53, 14, 8), (2, 62, 14, 2), (2, 69, 14, 9), (2, 86, 14, 7), (2, 89, 14, 6), (2, 169, 14, 0), (3, 13, 13, 0), (3, 18, 13, 2), (3, 22, 13, 1), (4, 11, 14, 0), (4, 15, 14, 2), (4, 19, 14, 3), (4, 23, 14, 4), (4, 26, 14, 5), (4, 29, 14, 6), (4, 32, 14, 7), (4, 35, 14, 8), (4, 38, 14, 9), (4, 41, 14, 10), (4, 44, 14, 1), (5, 11, 15, 0), (5, 14, 15, 1), (5, 32, 14, 4), (5, 38, 15, 2), (6, 10, 16, 0), (6, 19, 16, 1), (6, 26, 16, 2), (7, 13, 17, 0), (7, 17, 17, 1), (7, 20, 17, 2), (7, 24, 17, 3), (7, 28, 17, 4), (7, 51, 18, 4), (7, 149, 12, 6), (7, 152, 14, 7), (7, 163, 14, 6), (7, 166, 12, 7), (8, 9, 18, 0), (8, 21, 18, 4), (8, 24, 18, 1), (8, 28, 18, 2), (8, 31, 18, 3), (8, 34, 18, 8), (8, 37, 18, 9), (8, 46, 18, 5), (8, 49, 18, 6), (8, 52, 18, 7), (9, 12, 19, 0), (9, 21, 19, 1), (9, 25, 19, 2), (9, 28, 18, 4), (9, 96, 14, 2), (9, 107, 14, 0), (9, 111, 14, 4), (9, 120, 18, 7), (9, 136, 14, 5), (9, 139, 14, 6), (9, 145, 14, 1), (9, 148, 14, 7), (9, 151, 14, 8), (9, 154, 14, 9), (9, 161, 18, 5), (9, 171, 14, 10), (11, 10, 20, 0), (11, 19, 20, 1), (11, 26, 20, 2), (11, 30, 20, 3), (11, 37, 20, 4), (11, 44, 20, 5), (11, 48, 20, 6), (11, 54, 20, 7), (11, 61, 20, 8), (11, 68, 20, 9), (11, 75, 20, 10), (11, 79, 20, 11), (11, 83, 20, 14), (11, 87, 18, 1), (11, 105, 18, 9), (11, 108, 19, 0), (11, 119, 20, 13), (11, 122, 16, 0), (11, 136, 16, 1), (11, 139, 12, 6), (11, 143, 14, 6), (11, 150, 12, 7), (11, 159, 14, 7), (11, 162, 14, 8), (11, 165, 12, 8), (11, 172, 14, 9), (11, 179, 12, 0), (11, 182, 12, 1), (11, 185, 12, 2), (11, 188, 12, 3), (11, 192, 12, 4), (11, 195, 12, 5), (11, 240, 14, 0), (11, 253, 11, 1), (11, 256, 11, 2), (11, 259, 11, 3), (11, 265, 15, 2), (11, 268, 15, 1), (11, 283, 20, 12), (11, 319, 10, 5), (11, 328, 16, 2), (11, 334, 17, 4), (11, 340, 14, 2), (11, 354, 16, 3), (11, 357, 18, 8), (12, 1, 21, 0), (12, 7, 21, 1), (12, 11, 21, 2), (12, 18, 21, 3), (12, 21, 21, 5), (12, 24, 21, 6), (12, 27, 21, 4), (12, 30, 21, 7), (12, 40, 21, 9), (12, 43, 21, 12), (12, 47, 21, 8), (12, 66, 21, 10), (12, 69, 21, 11), (12, 79, 21, 13), (12, 98, 21, 14), (12, 101, 21, 15), (12, 104, 21, 16), (12, 107, 21, 17), (12, 110, 21, 18), (12, 113, 21, 19), (12, 117, 21, 20), (12, 120, 21, 21), (12, 123, 21, 22), (12, 127, 21, 23), (12, 130, 21, 26), (12, 133, 21, 27), (12, 136, 21, 28), (12, 139, 21, 29), (12, 142, 21, 30), (12, 145, 21, 31), (12, 148, 21, 32), (12, 151, 21, 34), (12, 154, 21, 35), (12, 157, 21, 38), (12, 160, 21, 39), (12, 163, 21, 42), (12, 172, 21, 25), (12, 243, 21, 24), (12, 334, 21, 33), (12, 345, 21, 36), (12, 361, 21, 37), (12, 377, 21, 40), (12, 395, 21, 41), (12, 402, 21, 43), (12, 408, 21, 46), (12, 418, 21, 44), (12, 421, 21, 45)]
/-- calls: class, pool place, method, 0 virtual, 1 static, 2 static of a nest mate -/
def mm_pm : List (Nat × Nat × Nat × Nat) := [(0, 33, 1, 0), (0, 40, 91, 0), (0, 51, 58, 0), (0, 57, 90, 0), (0, 61, 2, 1), (0, 64, 84, 0), (0, 70, 4, 0), (0, 76, 92, 0), (0, 80, 6, 0), (0, 84, 5, 0), (0, 88, 3, 1), (0, 104, 93, 0), (0, 124, 26, 0), (0, 136, 20, 0), (1, 25, 10, 1), (1, 29, 11, 1), (1, 33, 12, 0), (1, 36, 13, 0), (1, 45, 82, 0), (1, 49, 51, 0), (1, 59, 153, 2), (1, 66, 14, 0), (2, 33, 55, 0), (2, 65, 20, 0), (2, 72, 18, 0), (2, 76, 21, 0), (2, 79, 152, 2), (2, 83, 17, 0), (2, 92, 60, 0), (2, 96, 27, 0), (2, 99, 28, 0), (2, 103, 29, 0), (2, 106, 30, 0), (2, 110, 31, 0), (2, 113, 32, 0), (2, 116, 33, 0), (2, 124, 25, 0), (2, 128, 19, 0), (2, 131, 34, 0), (2, 135, 35, 0), (2, 138, 39, 0), (2, 141, 41, 1), (2, 144, 42, 1), (2, 147, 40, 0), (2, 152, 153, 2), (2, 155, 44, 0), (2, 159, 45, 0), (2, 163, 24, 0), (3, 25, 16, 0), (4, 56, 54, 0), (4, 60, 51, 0), (4, 64, 58, 0), (4, 68, 153, 2), (5, 18, 62, 0), (5, 22, 63, 0), (5, 26, 53, 0), (5, 35, 64, 0), (6, 30, 50, 0), (6, 34, 15, 0), (6, 37, 67, 0), (6, 40, 16, 0), (6, 43, 69, 0), (7, 31, 67, 0), (7, 34, 71, 0), (7, 42, 91, 0), (7, 48, 72, 0), (7, 57, 84, 0), (7, 60, 76, 0), (7, 64, 73, 0), (7, 70, 74, 1), (7, 73, 90, 0), (7, 98, 93, 0), (7, 102, 75, 1), (7, 105, 92, 0), (7, 130, 78, 0), (7, 134, 17, 0), (7, 139, 23, 0), (7, 143, 51, 0), (7, 155, 79, 1), (7, 159, 80, 1), (8, 40, 84, 0), (8, 43, 85, 0), (8, 59, 86, 0), (8, 62, 104, 1), (8, 72, 89, 0), (8, 76, 90, 0), (8, 80, 58, 0), (9, 18, 49, 0), (9, 39, 95, 0), (9, 46, 91, 0), (9, 53, 96, 0), (9, 59, 97, 0), (9, 65, 99, 0), (9, 71, 100, 0), (9, 77, 101, 0), (9, 83, 102, 0), (9, 89, 103, 0), (9, 92, 90, 0), (9, 100, 84, 0), (9, 103, 92, 0), (9, 114, 52, 0), (9, 124, 59, 0), (9, 128, 56, 0), (9, 132, 98, 0), (9, 157, 93, 0), (9, 164, 152, 2), (9, 168, 89, 0), (11, 90, 81, 0), (11, 94, 83, 0), (11, 97, 94, 0), (11, 101, 145, 0), (11, 112, 65, 0), (11, 116, 46, 0), (11, 123, 51, 0), (11, 146, 17, 0), (11, 153, 23, 0), (11, 168, 22, 0), (11, 175, 55, 0), (11, 198, 20, 0), (11, 202, 21, 0), (11, 205, 146, 0), (11, 209, 54, 0), (11, 212, 16, 0), (11, 216, 19, 0), (11, 225, 26, 0), (11, 229, 147, 0), (11, 233, 48, 0), (11, 237, 24, 0), (11, 243, 36, 0), (11, 246, 153, 1), (11, 249, 9, 0), (11, 262, 61, 0), (11, 271, 18, 0), (11, 274, 53, 0), (11, 277, 37, 0), (11, 280, 43, 0), (11, 286, 57, 0), (11, 290, 149, 0), (11, 296, 150, 0), (11, 299, 151, 0), (11, 308, 38, 0), (11, 311, 0, 0), (11, 315, 7, 0), (11, 322, 8, 0), (11, 325, 70, 0), (11, 331, 69, 0), (11, 337, 68, 0), (11, 343, 77, 0), (11, 347, 87, 0), (11, 351, 66, 0), (11, 360, 47, 0), (11, 365, 148, 0), (12, 14, 156, 0), (12, 33, 167, 1), (12, 37, 166, 1), (12, 50, 165, 0), (12, 58, 169, 1), (12, 62, 170, 1), (12, 72, 174, 0), (12, 75, 160, 1), (12, 82, 168, 0), (12, 86, 172, 0), (12, 89, 159, 0), (12, 166, 178, 0), (12, 169, 179, 0), (12, 176, 180, 1), (12, 180, 173, 0), (12, 184, 181, 0), (12, 187, 185, 0), (12, 190, 175, 0), (12, 194, 184, 0), (12, 198, 183, 0), (12, 201, 182, 0), (12, 204, 188, 0), (12, 207, 171, 0), (12, 210, 191, 0), (12, 213, 161, 1), (12, 216, 186, 0), (12, 219, 187, 0), (12, 222, 189, 0), (12, 225, 190, 0), (12, 228, 192, 0), (12, 231, 193, 0), (12, 234, 177, 0), (12, 237, 194, 0), (12, 240, 176, 0), (12, 246, 202, 0), (12, 249, 200, 0), (12, 252, 203, 0), (12, 255, 198, 0), (12, 258, 155, 0), (12, 261, 204, 0), (12, 264, 199, 0), (12, 267, 197, 0), (12, 270, 210, 0), (12, 273, 162, 1), (12, 277, 212, 0), (12, 280, 211, 0), (12, 283, 209, 0), (12, 286, 213, 0), (12, 290, 214, 0), (12, 294, 201, 0), (12, 297, 222, 0), (12, 300, 223, 0), (12, 303, 224, 0), (12, 306, 226, 0), (12, 309, 229, 0), (12, 313, 230, 0), (12, 316, 231, 0), (12, 319, 164, 1), (12, 322, 236, 0), (12, 325, 237, 0), (12, 328, 242, 0), (12, 331, 243, 0), (12, 337, 163, 1), (12, 339, 246, 0), (12, 342, 247, 0), (12, 348, 251, 0), (12, 352, 250, 0), (12, 355, 252, 0), (12, 358, 253, 0), (12, 365, 256, 0), (12, 368, 257, 0), (12, 371, 258, 0), (12, 374, 262, 0), (12, 380, 264, 0), (12, 383, 263, 0), (12, 386, 261, 0), (12, 389, 265, 0), (12, 392, 266, 0), (12, 398, 268, 0), (12, 405, 272, 0), (12, 411, 270, 0), (12, 415, 273, 0), (12, 424, 275, 0), (12, 427, 274, 0), (12, 430, 276, 0), (12, 433, 277, 0), (12, 436, 271, 0), (12, 439, 279, 0)]
/-- statics: class, pool place, tag, number -/
def mm_pz : List (Nat × Nat × Nat × Int) := [(0, 28, 2, 0), (0, 37, 2, 4), (0, 44, 2, 2), (0, 67, 2, 21), (0, 73, 2, 25), (0, 92, 2, 18), (0, 95, 2, 19), (0, 98, 2, 20), (0, 101, 2, 22), (0, 108, 2, 23), (0, 111, 2, 24), (4, 53, 5, 0), (7, 38, 2, 0), (7, 54, 2, 26), (7, 67, 2, 27), (7, 77, 2, 28), (7, 80, 2, 8), (7, 83, 2, 9), (7, 86, 2, 17), (7, 89, 2, 31), (7, 92, 2, 29), (7, 95, 2, 30), (7, 109, 2, 32), (7, 112, 2, 33), (7, 115, 2, 34), (7, 118, 2, 35), (7, 121, 2, 5), (7, 124, 2, 6), (7, 127, 2, 7), (8, 15, 2, 0), (8, 56, 2, 1), (8, 66, 2, 2), (8, 69, 2, 3), (9, 34, 2, 0), (9, 43, 2, 4), (9, 50, 2, 10), (9, 56, 2, 11), (9, 62, 2, 12), (9, 68, 2, 13), (9, 74, 2, 14), (9, 80, 2, 15), (9, 86, 2, 16), (9, 117, 2, 2), (9, 142, 2, 17), (10, 149, 4, 0)]
def mm_pk : List (Nat × Nat × Int) := [(2, 151, 1103515245), (12, 312, 100000), (12, 364, 1103515245)]
def mm_pl : List (Nat × Nat × Int) := [(12, 54, 27), (12, 56, 96)]
/-- text constants: class, pool place, which -/
def mm_ps : List (Nat × Nat × Int) := [(11, 294, 0), (11, 302, 1), (11, 304, 2), (11, 306, 3)]
/-- members of the JDK, and the key of a Word (9): class, pool place, which -/
def mm_pi : List (Nat × Nat × Nat) := [(1, 69, 2), (2, 56, 4), (2, 119, 1), (2, 166, 3), (3, 29, 1), (4, 47, 4), (10, 135, 9), (11, 220, 1), (11, 368, 11), (11, 372, 12)]
def mm_chk (x q : Nat) (e : mm_E) : Bool := match e.2.1 with
  | .getfield i => bif e.2.2.2.1.getD 2 9 == 4 then e.2.2.2.1.getD 0 9 == 2 && mm_pi.elem (x, i, 9) else mm_pf.elem (x, i, e.2.2.2.1.getD 0 9, e.2.2.2.1.getD 1 0) && (match e.2.2.2.1.getD 2 9 with
      | 0 => (mm_fcd (e.2.2.2.1.getD 0 9) (e.2.2.2.1.getD 1 0)).1 == 0 || (mm_fcd (e.2.2.2.1.getD 0 9) (e.2.2.2.1.getD 1 0)).1 == 5
      | 1 => (mm_fcd (e.2.2.2.1.getD 0 9) (e.2.2.2.1.getD 1 0)).1 == 1
      | 2 => (mm_fcd (e.2.2.2.1.getD 0 9) (e.2.2.2.1.getD 1 0)).1 == 2
      | 3 => mm_fcd (e.2.2.2.1.getD 0 9) (e.2.2.2.1.getD 1 0) == (3, e.2.2.2.1.getD 3 9, e.2.2.2.1.getD 4 0)
      | _ => false)
  | .putfield i => mm_pf.elem (x, i, e.2.2.2.1.getD 0 9, e.2.2.2.1.getD 1 0) && (mm_fcd (e.2.2.2.1.getD 0 9) (e.2.2.2.1.getD 1 0)).1 == e.2.2.2.1.getD 2 9 && !(e.2.2.2.1.getD 2 9 == 3)
  | .getstatic i => mm_pz.elem (x, i, e.2.2.2.1.headD 9, e.2.2.2.2)
  | .ldc i => (e.2.2.2.1.headD 0 == 0 && mm_pk.elem (x, i, e.2.2.2.2))
  | .ldc_w i => (e.2.2.2.1.headD 0 == 0 && mm_pk.elem (x, i, e.2.2.2.2)) || (e.2.2.2.1.headD 0 == 3 && mm_ps.elem (x, i, e.2.2.2.2))
  | .ldc2_w i => mm_pl.elem (x, i, e.2.2.2.2)
  | .invokevirtual i => match e.2.2.2.1.getD 0 9 with
      | 0 => mm_pm.elem (x, i, e.2.2.2.1.getD 1 0, 0) && e.2.2.2.1.getD 2 0 == mm_na (e.2.2.2.1.getD 1 0) + 1 && e.2.2.2.1.getD 3 9 == mm_rt (e.2.2.2.1.getD 1 0) && e.2.2.2.1.getD 4 9 == mm_xt (mm_xq (e.2.2.2.1.getD 1 0))
      | k => mm_pi.elem (x, i, k + 10)
  | .invokestatic i => match e.2.2.2.1.getD 0 9 with
      | 0 => (mm_pm.elem (x, i, e.2.2.2.1.getD 1 0, 1) || mm_pm.elem (x, i, e.2.2.2.1.getD 1 0, 2)) && e.2.2.2.1.getD 2 0 == mm_na (e.2.2.2.1.getD 1 0) && e.2.2.2.1.getD 3 9 == mm_rt (e.2.2.2.1.getD 1 0)
      | k => mm_pi.elem (x, i, k)
  | .ireturn => match mm_r q with
      | some .int => !(e.2.2.2.1.headD 0 == 5)
      | some .boolean => e.2.2.2.1.headD 0 == 5
      | _ => false
  | .lreturn => mm_rt q == 1
  | .areturn => bif e.2.2.2.1.headD 0 == 6 then decide (mm_r q = some (.object "HiccupTown$Scene")) && mm_rt q == 6 else decide (mm_r q = some (.object "HiccupTown$Word")) && mm_rt q == 2
  | .return_ => mm_rt q == 8
  | _ => true
/-- what holds of a method's rows -/
def mm_rok (q : Nat) : Prop := ((mm_prog q).1.all fun e => decide (decode (mm_b q) e.1 = .ok (e.2.1, e.2.2.1)) && mm_chk (mm_xq q) q e) = true
set_option maxRecDepth 100000 in
theorem mm_rk0 : mm_rok 0 := by show (T_X0_readBook.all fun e => decide (decode cX0_readBook e.1 = .ok (e.2.1, e.2.2.1)) && mm_chk 0 0 e) = true; decide +kernel
set_option maxRecDepth 100000 in
theorem mm_rk1 : mm_rok 1 := by show (T_X0_readLine.all fun e => decide (decode cX0_readLine e.1 = .ok (e.2.1, e.2.2.1)) && mm_chk 0 1 e) = true; decide +kernel
set_option maxRecDepth 100000 in
theorem mm_rk2 : mm_rok 2 := by show (T_X0_isAct.all fun e => decide (decode cX0_isAct e.1 = .ok (e.2.1, e.2.2.1)) && mm_chk 0 2 e) = true; decide +kernel
set_option maxRecDepth 100000 in
theorem mm_rk3 : mm_rok 3 := by show (T_X0_actOf.all fun e => decide (decode cX0_actOf e.1 = .ok (e.2.1, e.2.2.1)) && mm_chk 0 3 e) = true; decide +kernel
set_option maxRecDepth 100000 in
theorem mm_rk4 : mm_rok 4 := by show (T_X0_readRelieve.all fun e => decide (decode cX0_readRelieve e.1 = .ok (e.2.1, e.2.2.1)) && mm_chk 0 4 e) = true; decide +kernel
set_option maxRecDepth 100000 in
theorem mm_rk5 : mm_rok 5 := by show (T_X0_readWalk.all fun e => decide (decode cX0_readWalk e.1 = .ok (e.2.1, e.2.2.1)) && mm_chk 0 5 e) = true; decide +kernel
set_option maxRecDepth 100000 in
theorem mm_rk6 : mm_rok 6 := by show (T_X0_add.all fun e => decide (decode cX0_add e.1 = .ok (e.2.1, e.2.2.1)) && mm_chk 0 6 e) = true; decide +kernel
set_option maxRecDepth 100000 in
theorem mm_rk7 : mm_rok 7 := by show (T_X0_live.all fun e => decide (decode cX0_live e.1 = .ok (e.2.1, e.2.2.1)) && mm_chk 0 7 e) = true; decide +kernel
set_option maxRecDepth 100000 in
theorem mm_rk8 : mm_rok 8 := by show (T_X0_tell.all fun e => decide (decode cX0_tell e.1 = .ok (e.2.1, e.2.2.1)) && mm_chk 0 8 e) = true; decide +kernel
set_option maxRecDepth 100000 in
theorem mm_rk9 : mm_rok 9 := by show (T_X1_judge.all fun e => decide (decode cX1_judge e.1 = .ok (e.2.1, e.2.2.1)) && mm_chk 1 9 e) = true; decide +kernel
set_option maxRecDepth 100000 in
theorem mm_rk10 : mm_rok 10 := by show (T_X1_arePairs.all fun e => decide (decode cX1_arePairs e.1 = .ok (e.2.1, e.2.2.1)) && mm_chk 1 10 e) = true; decide +kernel
set_option maxRecDepth 100000 in
theorem mm_rk11 : mm_rok 11 := by show (T_X1_leavesRests.all fun e => decide (decode cX1_leavesRests e.1 = .ok (e.2.1, e.2.2.1)) && mm_chk 1 11 e) = true; decide +kernel
set_option maxRecDepth 100000 in
theorem mm_rk12 : mm_rok 12 := by show (T_X1_keepBounds.all fun e => decide (decode cX1_keepBounds e.1 = .ok (e.2.1, e.2.2.1)) && mm_chk 1 12 e) = true; decide +kernel
set_option maxRecDepth 100000 in
theorem mm_rk13 : mm_rok 13 := by show (T_X1_thingToLookAt.all fun e => decide (decode cX1_thingToLookAt e.1 = .ok (e.2.1, e.2.2.1)) && mm_chk 1 13 e) = true; decide +kernel
set_option maxRecDepth 100000 in
theorem mm_rk14 : mm_rok 14 := by show (T_X1_mostLeftBy.all fun e => decide (decode cX1_mostLeftBy e.1 = .ok (e.2.1, e.2.2.1)) && mm_chk 1 14 e) = true; decide +kernel
set_option maxRecDepth 100000 in
theorem mm_rk15 : mm_rok 15 := by show (T_X2_begin.all fun e => decide (decode cX2_begin e.1 = .ok (e.2.1, e.2.2.1)) && mm_chk 2 15 e) = true; decide +kernel
set_option maxRecDepth 100000 in
theorem mm_rk16 : mm_rok 16 := by show (T_X2_copyFrom.all fun e => decide (decode cX2_copyFrom e.1 = .ok (e.2.1, e.2.2.1)) && mm_chk 2 16 e) = true; decide +kernel
set_option maxRecDepth 100000 in
theorem mm_rk17 : mm_rok 17 := by show (T_X2_isOut.all fun e => decide (decode cX2_isOut e.1 = .ok (e.2.1, e.2.2.1)) && mm_chk 2 17 e) = true; decide +kernel
set_option maxRecDepth 100000 in
theorem mm_rk18 : mm_rok 18 := by show (T_X2_isDone.all fun e => decide (decode cX2_isDone e.1 = .ok (e.2.1, e.2.2.1)) && mm_chk 2 18 e) = true; decide +kernel
set_option maxRecDepth 100000 in
theorem mm_rk19 : mm_rok 19 := by show (T_X2_secondsLeft.all fun e => decide (decode cX2_secondsLeft e.1 = .ok (e.2.1, e.2.2.1)) && mm_chk 2 19 e) = true; decide +kernel
set_option maxRecDepth 100000 in
theorem mm_rk20 : mm_rok 20 := by show (T_X2_doneWorks.all fun e => decide (decode cX2_doneWorks e.1 = .ok (e.2.1, e.2.2.1)) && mm_chk 2 20 e) = true; decide +kernel
set_option maxRecDepth 100000 in
theorem mm_rk21 : mm_rok 21 := by show (T_X2_openWorks.all fun e => decide (decode cX2_openWorks e.1 = .ok (e.2.1, e.2.2.1)) && mm_chk 2 21 e) = true; decide +kernel
set_option maxRecDepth 100000 in
theorem mm_rk22 : mm_rok 22 := by show (T_X2_howWorkIs.all fun e => decide (decode cX2_howWorkIs e.1 = .ok (e.2.1, e.2.2.1)) && mm_chk 2 22 e) = true; decide +kernel
set_option maxRecDepth 100000 in
theorem mm_rk23 : mm_rok 23 := by show (T_X2_isBusy.all fun e => decide (decode cX2_isBusy e.1 = .ok (e.2.1, e.2.2.1)) && mm_chk 2 23 e) = true; decide +kernel
set_option maxRecDepth 100000 in
theorem mm_rk24 : mm_rok 24 := by show (T_X2_placeBehind.all fun e => decide (decode cX2_placeBehind e.1 = .ok (e.2.1, e.2.2.1)) && mm_chk 2 24 e) = true; decide +kernel
set_option maxRecDepth 100000 in
theorem mm_rk25 : mm_rok 25 := by show (T_X2_somebodyWalksAt.all fun e => decide (decode cX2_somebodyWalksAt e.1 = .ok (e.2.1, e.2.2.1)) && mm_chk 2 25 e) = true; decide +kernel
set_option maxRecDepth 100000 in
theorem mm_rk26 : mm_rok 26 := by show (T_X2_act.all fun e => decide (decode cX2_act e.1 = .ok (e.2.1, e.2.2.1)) && mm_chk 2 26 e) = true; decide +kernel
set_option maxRecDepth 100000 in
theorem mm_rk27 : mm_rok 27 := by show (T_X2_takeFright.all fun e => decide (decode cX2_takeFright e.1 = .ok (e.2.1, e.2.2.1)) && mm_chk 2 27 e) = true; decide +kernel
set_option maxRecDepth 100000 in
theorem mm_rk28 : mm_rok 28 := by show (T_X2_takeCure.all fun e => decide (decode cX2_takeCure e.1 = .ok (e.2.1, e.2.2.1)) && mm_chk 2 28 e) = true; decide +kernel
set_option maxRecDepth 100000 in
theorem mm_rk29 : mm_rok 29 := by show (T_X2_takeFly.all fun e => decide (decode cX2_takeFly e.1 = .ok (e.2.1, e.2.2.1)) && mm_chk 2 29 e) = true; decide +kernel
set_option maxRecDepth 100000 in
theorem mm_rk30 : mm_rok 30 := by show (T_X2_changeBeater.all fun e => decide (decode cX2_changeBeater e.1 = .ok (e.2.1, e.2.2.1)) && mm_chk 2 30 e) = true; decide +kernel
set_option maxRecDepth 100000 in
theorem mm_rk31 : mm_rok 31 := by show (T_X2_goOut.all fun e => decide (decode cX2_goOut e.1 = .ok (e.2.1, e.2.2.1)) && mm_chk 2 31 e) = true; decide +kernel
set_option maxRecDepth 100000 in
theorem mm_rk32 : mm_rok 32 := by show (T_X2_comeIn.all fun e => decide (decode cX2_comeIn e.1 = .ok (e.2.1, e.2.2.1)) && mm_chk 2 32 e) = true; decide +kernel
set_option maxRecDepth 100000 in
theorem mm_rk33 : mm_rok 33 := by show (T_X2_passAll.all fun e => decide (decode cX2_passAll e.1 = .ok (e.2.1, e.2.2.1)) && mm_chk 2 33 e) = true; decide +kernel
set_option maxRecDepth 100000 in
theorem mm_rk34 : mm_rok 34 := by show (T_X2_passSecond.all fun e => decide (decode cX2_passSecond e.1 = .ok (e.2.1, e.2.2.1)) && mm_chk 2 34 e) = true; decide +kernel
set_option maxRecDepth 100000 in
theorem mm_rk35 : mm_rok 35 := by show (T_X2_beat.all fun e => decide (decode cX2_beat e.1 = .ok (e.2.1, e.2.2.1)) && mm_chk 2 35 e) = true; decide +kernel
set_option maxRecDepth 100000 in
theorem mm_rk36 : mm_rok 36 := by show (T_X2_secondsTillDone.all fun e => decide (decode cX2_secondsTillDone e.1 = .ok (e.2.1, e.2.2.1)) && mm_chk 2 36 e) = true; decide +kernel
set_option maxRecDepth 100000 in
theorem mm_rk37 : mm_rok 37 := by show (T_X2_secondsTillFree.all fun e => decide (decode cX2_secondsTillFree e.1 = .ok (e.2.1, e.2.2.1)) && mm_chk 2 37 e) = true; decide +kernel
set_option maxRecDepth 100000 in
theorem mm_rk38 : mm_rok 38 := by show (T_X2_passDrawn.all fun e => decide (decode cX2_passDrawn e.1 = .ok (e.2.1, e.2.2.1)) && mm_chk 2 38 e) = true; decide +kernel
set_option maxRecDepth 100000 in
theorem mm_rk39 : mm_rok 39 := by show (T_X2_passDrawnSecond.all fun e => decide (decode cX2_passDrawnSecond e.1 = .ok (e.2.1, e.2.2.1)) && mm_chk 2 39 e) = true; decide +kernel
set_option maxRecDepth 100000 in
theorem mm_rk40 : mm_rok 40 := by show (T_X2_leaveOrJoin.all fun e => decide (decode cX2_leaveOrJoin e.1 = .ok (e.2.1, e.2.2.1)) && mm_chk 2 40 e) = true; decide +kernel
set_option maxRecDepth 100000 in
theorem mm_rk41 : mm_rok 41 := by show (T_X2_stir.all fun e => decide (decode cX2_stir e.1 = .ok (e.2.1, e.2.2.1)) && mm_chk 2 41 e) = true; decide +kernel
set_option maxRecDepth 100000 in
theorem mm_rk42 : mm_rok 42 := by show (T_X2_drawOf.all fun e => decide (decode cX2_drawOf e.1 = .ok (e.2.1, e.2.2.1)) && mm_chk 2 42 e) = true; decide +kernel
set_option maxRecDepth 100000 in
theorem mm_rk43 : mm_rok 43 := by show (T_X2_votesBehindRound.all fun e => decide (decode cX2_votesBehindRound e.1 = .ok (e.2.1, e.2.2.1)) && mm_chk 2 43 e) = true; decide +kernel
set_option maxRecDepth 100000 in
theorem mm_rk44 : mm_rok 44 := by show (T_X2_votesBehind.all fun e => decide (decode cX2_votesBehind e.1 = .ok (e.2.1, e.2.2.1)) && mm_chk 2 44 e) = true; decide +kernel
set_option maxRecDepth 100000 in
theorem mm_rk45 : mm_rok 45 := by show (T_X2_willBeNear.all fun e => decide (decode cX2_willBeNear e.1 = .ok (e.2.1, e.2.2.1)) && mm_chk 2 45 e) = true; decide +kernel
set_option maxRecDepth 100000 in
theorem mm_rk46 : mm_rok 46 := by show (T_X3_forget.all fun e => decide (decode cX3_forget e.1 = .ok (e.2.1, e.2.2.1)) && mm_chk 3 46 e) = true; decide +kernel
set_option maxRecDepth 100000 in
theorem mm_rk47 : mm_rok 47 := by show (T_X3_keep.all fun e => decide (decode cX3_keep e.1 = .ok (e.2.1, e.2.2.1)) && mm_chk 3 47 e) = true; decide +kernel
set_option maxRecDepth 100000 in
theorem mm_rk48 : mm_rok 48 := by show (T_X3_takeBack.all fun e => decide (decode cX3_takeBack e.1 = .ok (e.2.1, e.2.2.1)) && mm_chk 3 48 e) = true; decide +kernel
set_option maxRecDepth 100000 in
theorem mm_rk49 : mm_rok 49 := by show (T_X4_clear.all fun e => decide (decode cX4_clear e.1 = .ok (e.2.1, e.2.2.1)) && mm_chk 4 49 e) = true; decide +kernel
set_option maxRecDepth 100000 in
theorem mm_rk50 : mm_rok 50 := by show (T_X4_copyFrom.all fun e => decide (decode cX4_copyFrom e.1 = .ok (e.2.1, e.2.2.1)) && mm_chk 4 50 e) = true; decide +kernel
set_option maxRecDepth 100000 in
theorem mm_rk51 : mm_rok 51 := by show (T_X4_has.all fun e => decide (decode cX4_has e.1 = .ok (e.2.1, e.2.2.1)) && mm_chk 4 51 e) = true; decide +kernel
set_option maxRecDepth 100000 in
theorem mm_rk52 : mm_rok 52 := by show (T_X4_isFull.all fun e => decide (decode cX4_isFull e.1 = .ok (e.2.1, e.2.2.1)) && mm_chk 4 52 e) = true; decide +kernel
set_option maxRecDepth 100000 in
theorem mm_rk53 : mm_rok 53 := by show (T_X4_beaters.all fun e => decide (decode cX4_beaters e.1 = .ok (e.2.1, e.2.2.1)) && mm_chk 4 53 e) = true; decide +kernel
set_option maxRecDepth 100000 in
theorem mm_rk54 : mm_rok 54 := by show (T_X4_mayBeat.all fun e => decide (decode cX4_mayBeat e.1 = .ok (e.2.1, e.2.2.1)) && mm_chk 4 54 e) = true; decide +kernel
set_option maxRecDepth 100000 in
theorem mm_rk55 : mm_rok 55 := by show (T_X4_gapOf.all fun e => decide (decode cX4_gapOf e.1 = .ok (e.2.1, e.2.2.1)) && mm_chk 4 55 e) = true; decide +kernel
set_option maxRecDepth 100000 in
theorem mm_rk56 : mm_rok 56 := by show (T_X4_addName.all fun e => decide (decode cX4_addName e.1 = .ok (e.2.1, e.2.2.1)) && mm_chk 4 56 e) = true; decide +kernel
set_option maxRecDepth 100000 in
theorem mm_rk57 : mm_rok 57 := by show (T_X4_nameOf.all fun e => decide (decode cX4_nameOf e.1 = .ok (e.2.1, e.2.2.1)) && mm_chk 4 57 e) = true; decide +kernel
set_option maxRecDepth 100000 in
theorem mm_rk58 : mm_rok 58 := by show (T_X4_numberOf.all fun e => decide (decode cX4_numberOf e.1 = .ok (e.2.1, e.2.2.1)) && mm_chk 4 58 e) = true; decide +kernel
set_option maxRecDepth 100000 in
theorem mm_rk59 : mm_rok 59 := by show (T_X4_knows.all fun e => decide (decode cX4_knows e.1 = .ok (e.2.1, e.2.2.1)) && mm_chk 4 59 e) = true; decide +kernel
set_option maxRecDepth 100000 in
theorem mm_rk60 : mm_rok 60 := by show (T_X4_placeOn.all fun e => decide (decode cX4_placeOn e.1 = .ok (e.2.1, e.2.2.1)) && mm_chk 4 60 e) = true; decide +kernel
set_option maxRecDepth 100000 in
theorem mm_rk61 : mm_rok 61 := by show (T_X5_countFor.all fun e => decide (decode cX5_countFor e.1 = .ok (e.2.1, e.2.2.1)) && mm_chk 5 61 e) = true; decide +kernel
set_option maxRecDepth 100000 in
theorem mm_rk62 : mm_rok 62 := by show (T_X5_waysWithOneMore.all fun e => decide (decode cX5_waysWithOneMore e.1 = .ok (e.2.1, e.2.2.1)) && mm_chk 5 62 e) = true; decide +kernel
set_option maxRecDepth 100000 in
theorem mm_rk63 : mm_rok 63 := by show (T_X5_keepFirst.all fun e => decide (decode cX5_keepFirst e.1 = .ok (e.2.1, e.2.2.1)) && mm_chk 5 63 e) = true; decide +kernel
set_option maxRecDepth 100000 in
theorem mm_rk64 : mm_rok 64 := by show (T_X5_leastBeater.all fun e => decide (decode cX5_leastBeater e.1 = .ok (e.2.1, e.2.2.1)) && mm_chk 5 64 e) = true; decide +kernel
set_option maxRecDepth 100000 in
theorem mm_rk65 : mm_rok 65 := by show (T_X6_begin.all fun e => decide (decode cX6_begin e.1 = .ok (e.2.1, e.2.2.1)) && mm_chk 6 65 e) = true; decide +kernel
set_option maxRecDepth 100000 in
theorem mm_rk66 : mm_rok 66 := by show (T_X6_copyFrom.all fun e => decide (decode cX6_copyFrom e.1 = .ok (e.2.1, e.2.2.1)) && mm_chk 6 66 e) = true; decide +kernel
set_option maxRecDepth 100000 in
theorem mm_rk67 : mm_rok 67 := by show (T_X7_clear.all fun e => decide (decode cX7_clear e.1 = .ok (e.2.1, e.2.2.1)) && mm_chk 7 67 e) = true; decide +kernel
set_option maxRecDepth 100000 in
theorem mm_rk68 : mm_rok 68 := by show (T_X7_isTold.all fun e => decide (decode cX7_isTold e.1 = .ok (e.2.1, e.2.2.1)) && mm_chk 7 68 e) = true; decide +kernel
set_option maxRecDepth 100000 in
theorem mm_rk69 : mm_rok 69 := by show (T_X7_copyFrom.all fun e => decide (decode cX7_copyFrom e.1 = .ok (e.2.1, e.2.2.1)) && mm_chk 7 69 e) = true; decide +kernel
set_option maxRecDepth 100000 in
theorem mm_rk70 : mm_rok 70 := by show (T_X7_readSentence.all fun e => decide (decode cX7_readSentence e.1 = .ok (e.2.1, e.2.2.1)) && mm_chk 7 70 e) = true; decide +kernel
set_option maxRecDepth 100000 in
theorem mm_rk71 : mm_rok 71 := by show (T_X7_readCond.all fun e => decide (decode cX7_readCond e.1 = .ok (e.2.1, e.2.2.1)) && mm_chk 7 71 e) = true; decide +kernel
set_option maxRecDepth 100000 in
theorem mm_rk72 : mm_rok 72 := by show (T_X7_readAll.all fun e => decide (decode cX7_readAll e.1 = .ok (e.2.1, e.2.2.1)) && mm_chk 7 72 e) = true; decide +kernel
set_option maxRecDepth 100000 in
theorem mm_rk73 : mm_rok 73 := by show (T_X7_readOne.all fun e => decide (decode cX7_readOne e.1 = .ok (e.2.1, e.2.2.1)) && mm_chk 7 73 e) = true; decide +kernel
set_option maxRecDepth 100000 in
theorem mm_rk74 : mm_rok 74 := by show (T_X7_beginsOne.all fun e => decide (decode cX7_beginsOne e.1 = .ok (e.2.1, e.2.2.1)) && mm_chk 7 74 e) = true; decide +kernel
set_option maxRecDepth 100000 in
theorem mm_rk75 : mm_rok 75 := by show (T_X7_isSign.all fun e => decide (decode cX7_isSign e.1 = .ok (e.2.1, e.2.2.1)) && mm_chk 7 75 e) = true; decide +kernel
set_option maxRecDepth 100000 in
theorem mm_rk76 : mm_rok 76 := by show (T_X7_add.all fun e => decide (decode cX7_add e.1 = .ok (e.2.1, e.2.2.1)) && mm_chk 7 76 e) = true; decide +kernel
set_option maxRecDepth 100000 in
theorem mm_rk77 : mm_rok 77 := by show (T_X7_holds.all fun e => decide (decode cX7_holds e.1 = .ok (e.2.1, e.2.2.1)) && mm_chk 7 77 e) = true; decide +kernel
set_option maxRecDepth 100000 in
theorem mm_rk78 : mm_rok 78 := by show (T_X7_holdsAlone.all fun e => decide (decode cX7_holdsAlone e.1 = .ok (e.2.1, e.2.2.1)) && mm_chk 7 78 e) = true; decide +kernel
set_option maxRecDepth 100000 in
theorem mm_rk79 : mm_rok 79 := by show (T_X7_measure.all fun e => decide (decode cX7_measure e.1 = .ok (e.2.1, e.2.2.1)) && mm_chk 7 79 e) = true; decide +kernel
set_option maxRecDepth 100000 in
theorem mm_rk80 : mm_rok 80 := by show (T_X7_compares.all fun e => decide (decode cX7_compares e.1 = .ok (e.2.1, e.2.2.1)) && mm_chk 7 80 e) = true; decide +kernel
set_option maxRecDepth 100000 in
theorem mm_rk81 : mm_rok 81 := by show (T_X8_append.all fun e => decide (decode cX8_append e.1 = .ok (e.2.1, e.2.2.1)) && mm_chk 8 81 e) = true; decide +kernel
set_option maxRecDepth 100000 in
theorem mm_rk82 : mm_rok 82 := by show (T_X8_get.all fun e => decide (decode cX8_get e.1 = .ok (e.2.1, e.2.2.1)) && mm_chk 8 82 e) = true; decide +kernel
set_option maxRecDepth 100000 in
theorem mm_rk83 : mm_rok 83 := by show (T_X8_beginText.all fun e => decide (decode cX8_beginText e.1 = .ok (e.2.1, e.2.2.1)) && mm_chk 8 83 e) = true; decide +kernel
set_option maxRecDepth 100000 in
theorem mm_rk84 : mm_rok 84 := by show (T_X8_advance.all fun e => decide (decode cX8_advance e.1 = .ok (e.2.1, e.2.2.1)) && mm_chk 8 84 e) = true; decide +kernel
set_option maxRecDepth 100000 in
theorem mm_rk85 : mm_rok 85 := by show (T_X8_skipBlanks.all fun e => decide (decode cX8_skipBlanks e.1 = .ok (e.2.1, e.2.2.1)) && mm_chk 8 85 e) = true; decide +kernel
set_option maxRecDepth 100000 in
theorem mm_rk86 : mm_rok 86 := by show (T_X8_readToken.all fun e => decide (decode cX8_readToken e.1 = .ok (e.2.1, e.2.2.1)) && mm_chk 8 86 e) = true; decide +kernel
set_option maxRecDepth 100000 in
theorem mm_rk87 : mm_rok 87 := by show (T_X11_imageAt.all fun e => decide (decode cX11_imageAt e.1 = .ok (e.2.1, e.2.2.1)) && mm_chk 11 87 e) = true; decide +kernel
set_option maxRecDepth 100000 in
theorem mm_rk88 : mm_rok 88 := by show (T_X8_readToken.all fun e => decide (decode cX8_readToken e.1 = .ok (e.2.1, e.2.2.1)) && mm_chk 8 88 e) = true; decide +kernel
set_option maxRecDepth 100000 in
theorem mm_rk89 : mm_rok 89 := by show (T_X8_failAt.all fun e => decide (decode cX8_failAt e.1 = .ok (e.2.1, e.2.2.1)) && mm_chk 8 89 e) = true; decide +kernel
set_option maxRecDepth 100000 in
theorem mm_rk90 : mm_rok 90 := by show (T_X8_fail.all fun e => decide (decode cX8_fail e.1 = .ok (e.2.1, e.2.2.1)) && mm_chk 8 90 e) = true; decide +kernel
set_option maxRecDepth 100000 in
theorem mm_rk91 : mm_rok 91 := by show (T_X8_take.all fun e => decide (decode cX8_take e.1 = .ok (e.2.1, e.2.2.1)) && mm_chk 8 91 e) = true; decide +kernel
set_option maxRecDepth 100000 in
theorem mm_rk92 : mm_rok 92 := by show (T_X8_takeNumber.all fun e => decide (decode cX8_takeNumber e.1 = .ok (e.2.1, e.2.2.1)) && mm_chk 8 92 e) = true; decide +kernel
set_option maxRecDepth 100000 in
theorem mm_rk93 : mm_rok 93 := by show (T_X8_takeOneOf.all fun e => decide (decode cX8_takeOneOf e.1 = .ok (e.2.1, e.2.2.1)) && mm_chk 8 93 e) = true; decide +kernel
set_option maxRecDepth 100000 in
theorem mm_rk94 : mm_rok 94 := by show (T_X9_readTown.all fun e => decide (decode cX9_readTown e.1 = .ok (e.2.1, e.2.2.1)) && mm_chk 9 94 e) = true; decide +kernel
set_option maxRecDepth 100000 in
theorem mm_rk95 : mm_rok 95 := by show (T_X9_readLine.all fun e => decide (decode cX9_readLine e.1 = .ok (e.2.1, e.2.2.1)) && mm_chk 9 95 e) = true; decide +kernel
set_option maxRecDepth 100000 in
theorem mm_rk96 : mm_rok 96 := by show (T_X9_readRing.all fun e => decide (decode cX9_readRing e.1 = .ok (e.2.1, e.2.2.1)) && mm_chk 9 96 e) = true; decide +kernel
set_option maxRecDepth 100000 in
theorem mm_rk97 : mm_rok 97 := by show (T_X9_readGap.all fun e => decide (decode cX9_readGap e.1 = .ok (e.2.1, e.2.2.1)) && mm_chk 9 97 e) = true; decide +kernel
set_option maxRecDepth 100000 in
theorem mm_rk98 : mm_rok 98 := by show (T_X9_readNewOne.all fun e => decide (decode cX9_readNewOne e.1 = .ok (e.2.1, e.2.2.1)) && mm_chk 9 98 e) = true; decide +kernel
set_option maxRecDepth 100000 in
theorem mm_rk99 : mm_rok 99 := by show (T_X9_readCousin.all fun e => decide (decode cX9_readCousin e.1 = .ok (e.2.1, e.2.2.1)) && mm_chk 9 99 e) = true; decide +kernel
set_option maxRecDepth 100000 in
theorem mm_rk100 : mm_rok 100 := by show (T_X9_readPerson.all fun e => decide (decode cX9_readPerson e.1 = .ok (e.2.1, e.2.2.1)) && mm_chk 9 100 e) = true; decide +kernel
set_option maxRecDepth 100000 in
theorem mm_rk101 : mm_rok 101 := by show (T_X9_readWork.all fun e => decide (decode cX9_readWork e.1 = .ok (e.2.1, e.2.2.1)) && mm_chk 9 101 e) = true; decide +kernel
set_option maxRecDepth 100000 in
theorem mm_rk102 : mm_rok 102 := by show (T_X9_readAfter.all fun e => decide (decode cX9_readAfter e.1 = .ok (e.2.1, e.2.2.1)) && mm_chk 9 102 e) = true; decide +kernel
set_option maxRecDepth 100000 in
theorem mm_rk103 : mm_rok 103 := by show (T_X9_readThing.all fun e => decide (decode cX9_readThing e.1 = .ok (e.2.1, e.2.2.1)) && mm_chk 9 103 e) = true; decide +kernel
set_option maxRecDepth 100000 in
theorem mm_rk104 : mm_rok 104 := by show (T_X10_find.all fun e => decide (decode cX10_find e.1 = .ok (e.2.1, e.2.2.1)) && mm_chk 10 104 e) = true; decide +kernel
set_option maxRecDepth 100000 in
theorem mm_rk105 : mm_rok 105 := by show (T_X11_feed.all fun e => decide (decode cX11_feed e.1 = .ok (e.2.1, e.2.2.1)) && mm_chk 11 105 e) = true; decide +kernel
set_option maxRecDepth 100000 in
theorem mm_rk106 : mm_rok 106 := by show (T_X11_end.all fun e => decide (decode cX11_end e.1 = .ok (e.2.1, e.2.2.1)) && mm_chk 11 106 e) = true; decide +kernel
set_option maxRecDepth 100000 in
theorem mm_rk107 : mm_rok 107 := by show (T_X11_town.all fun e => decide (decode cX11_town e.1 = .ok (e.2.1, e.2.2.1)) && mm_chk 11 107 e) = true; decide +kernel
set_option maxRecDepth 100000 in
theorem mm_rk108 : mm_rok 108 := by show (T_X11_fault.all fun e => decide (decode cX11_fault e.1 = .ok (e.2.1, e.2.2.1)) && mm_chk 11 108 e) = true; decide +kernel
set_option maxRecDepth 100000 in
theorem mm_rk109 : mm_rok 109 := by show (T_X11_work.all fun e => decide (decode cX11_work e.1 = .ok (e.2.1, e.2.2.1)) && mm_chk 11 109 e) = true; decide +kernel
set_option maxRecDepth 100000 in
theorem mm_rk110 : mm_rok 110 := by show (T_X11_gap.all fun e => decide (decode cX11_gap e.1 = .ok (e.2.1, e.2.2.1)) && mm_chk 11 110 e) = true; decide +kernel
set_option maxRecDepth 100000 in
theorem mm_rk111 : mm_rok 111 := by show (T_X11_now.all fun e => decide (decode cX11_now e.1 = .ok (e.2.1, e.2.2.1)) && mm_chk 11 111 e) = true; decide +kernel
set_option maxRecDepth 100000 in
theorem mm_rk112 : mm_rok 112 := by show (T_X11_fright.all fun e => decide (decode cX11_fright e.1 = .ok (e.2.1, e.2.2.1)) && mm_chk 11 112 e) = true; decide +kernel
set_option maxRecDepth 100000 in
theorem mm_rk113 : mm_rok 113 := by show (T_X11_cure.all fun e => decide (decode cX11_cure e.1 = .ok (e.2.1, e.2.2.1)) && mm_chk 11 113 e) = true; decide +kernel
set_option maxRecDepth 100000 in
theorem mm_rk114 : mm_rok 114 := by show (T_X11_fly.all fun e => decide (decode cX11_fly e.1 = .ok (e.2.1, e.2.2.1)) && mm_chk 11 114 e) = true; decide +kernel
set_option maxRecDepth 100000 in
theorem mm_rk115 : mm_rok 115 := by show (T_X11_relieve.all fun e => decide (decode cX11_relieve e.1 = .ok (e.2.1, e.2.2.1)) && mm_chk 11 115 e) = true; decide +kernel
set_option maxRecDepth 100000 in
theorem mm_rk116 : mm_rok 116 := by show (T_X11_leave.all fun e => decide (decode cX11_leave e.1 = .ok (e.2.1, e.2.2.1)) && mm_chk 11 116 e) = true; decide +kernel
set_option maxRecDepth 100000 in
theorem mm_rk117 : mm_rok 117 := by show (T_X11_join.all fun e => decide (decode cX11_join e.1 = .ok (e.2.1, e.2.2.1)) && mm_chk 11 117 e) = true; decide +kernel
set_option maxRecDepth 100000 in
theorem mm_rk118 : mm_rok 118 := by show (T_X11_seconds.all fun e => decide (decode cX11_seconds e.1 = .ok (e.2.1, e.2.2.1)) && mm_chk 11 118 e) = true; decide +kernel
set_option maxRecDepth 100000 in
theorem mm_rk119 : mm_rok 119 := by show (T_X11_undo.all fun e => decide (decode cX11_undo e.1 = .ok (e.2.1, e.2.2.1)) && mm_chk 11 119 e) = true; decide +kernel
set_option maxRecDepth 100000 in
theorem mm_rk120 : mm_rok 120 := by show (T_X11_at.all fun e => decide (decode cX11_at e.1 = .ok (e.2.1, e.2.2.1)) && mm_chk 11 120 e) = true; decide +kernel
set_option maxRecDepth 100000 in
theorem mm_rk121 : mm_rok 121 := by show (T_X11_meet.all fun e => decide (decode cX11_meet e.1 = .ok (e.2.1, e.2.2.1)) && mm_chk 11 121 e) = true; decide +kernel
set_option maxRecDepth 100000 in
theorem mm_rk122 : mm_rok 122 := by show (T_X11_when.all fun e => decide (decode cX11_when e.1 = .ok (e.2.1, e.2.2.1)) && mm_chk 11 122 e) = true; decide +kernel
set_option maxRecDepth 100000 in
theorem mm_rk123 : mm_rok 123 := by show (T_X11_once.all fun e => decide (decode cX11_once e.1 = .ok (e.2.1, e.2.2.1)) && mm_chk 11 123 e) = true; decide +kernel
set_option maxRecDepth 100000 in
theorem mm_rk124 : mm_rok 124 := by show (T_X11_stood.all fun e => decide (decode cX11_stood e.1 = .ok (e.2.1, e.2.2.1)) && mm_chk 11 124 e) = true; decide +kernel
set_option maxRecDepth 100000 in
theorem mm_rk125 : mm_rok 125 := by show (T_X11_stoodLeast.all fun e => decide (decode cX11_stoodLeast e.1 = .ok (e.2.1, e.2.2.1)) && mm_chk 11 125 e) = true; decide +kernel
set_option maxRecDepth 100000 in
theorem mm_rk126 : mm_rok 126 := by show (T_X11_stoodMost.all fun e => decide (decode cX11_stoodMost e.1 = .ok (e.2.1, e.2.2.1)) && mm_chk 11 126 e) = true; decide +kernel
set_option maxRecDepth 100000 in
theorem mm_rk127 : mm_rok 127 := by show (T_X11_next.all fun e => decide (decode cX11_next e.1 = .ok (e.2.1, e.2.2.1)) && mm_chk 11 127 e) = true; decide +kernel
set_option maxRecDepth 100000 in
theorem mm_rk128 : mm_rok 128 := by show (T_X11_rows.all fun e => decide (decode cX11_rows e.1 = .ok (e.2.1, e.2.2.1)) && mm_chk 11 128 e) = true; decide +kernel
set_option maxRecDepth 100000 in
theorem mm_rk129 : mm_rok 129 := by show (T_X11_rowAt.all fun e => decide (decode cX11_rowAt e.1 = .ok (e.2.1, e.2.2.1)) && mm_chk 11 129 e) = true; decide +kernel
set_option maxRecDepth 100000 in
theorem mm_rk130 : mm_rok 130 := by show (T_X11_swift.all fun e => decide (decode cX11_swift e.1 = .ok (e.2.1, e.2.2.1)) && mm_chk 11 130 e) = true; decide +kernel
set_option maxRecDepth 100000 in
theorem mm_rk131 : mm_rok 131 := by show (T_X11_joins.all fun e => decide (decode cX11_joins e.1 = .ok (e.2.1, e.2.2.1)) && mm_chk 11 131 e) = true; decide +kernel
set_option maxRecDepth 100000 in
theorem mm_rk132 : mm_rok 132 := by show (T_X11_vote.all fun e => decide (decode cX11_vote e.1 = .ok (e.2.1, e.2.2.1)) && mm_chk 11 132 e) = true; decide +kernel
set_option maxRecDepth 100000 in
theorem mm_rk133 : mm_rok 133 := by show (T_X11_voted.all fun e => decide (decode cX11_voted e.1 = .ok (e.2.1, e.2.2.1)) && mm_chk 11 133 e) = true; decide +kernel
set_option maxRecDepth 100000 in
theorem mm_rk134 : mm_rok 134 := by show (T_X11_tag.all fun e => decide (decode cX11_tag e.1 = .ok (e.2.1, e.2.2.1)) && mm_chk 11 134 e) = true; decide +kernel
set_option maxRecDepth 100000 in
theorem mm_rk135 : mm_rok 135 := by show (T_X11_byteAt.all fun e => decide (decode cX11_byteAt e.1 = .ok (e.2.1, e.2.2.1)) && mm_chk 11 135 e) = true; decide +kernel
set_option maxRecDepth 100000 in
theorem mm_rk136 : mm_rok 136 := by show (T_X11_drawn.all fun e => decide (decode cX11_drawn e.1 = .ok (e.2.1, e.2.2.1)) && mm_chk 11 136 e) = true; decide +kernel
set_option maxRecDepth 100000 in
theorem mm_rk137 : mm_rok 137 := by show (T_X11_odds.all fun e => decide (decode cX11_odds e.1 = .ok (e.2.1, e.2.2.1)) && mm_chk 11 137 e) = true; decide +kernel
set_option maxRecDepth 100000 in
theorem mm_rk138 : mm_rok 138 := by show (T_X11_book.all fun e => decide (decode cX11_book e.1 = .ok (e.2.1, e.2.2.1)) && mm_chk 11 138 e) = true; decide +kernel
set_option maxRecDepth 100000 in
theorem mm_rk139 : mm_rok 139 := by show (T_X11_told.all fun e => decide (decode cX11_told e.1 = .ok (e.2.1, e.2.2.1)) && mm_chk 11 139 e) = true; decide +kernel
set_option maxRecDepth 100000 in
theorem mm_rk140 : mm_rok 140 := by show (T_X11_sentence.all fun e => decide (decode cX11_sentence e.1 = .ok (e.2.1, e.2.2.1)) && mm_chk 11 140 e) = true; decide +kernel
set_option maxRecDepth 100000 in
theorem mm_rk141 : mm_rok 141 := by show (T_X11_said.all fun e => decide (decode cX11_said e.1 = .ok (e.2.1, e.2.2.1)) && mm_chk 11 141 e) = true; decide +kernel
set_option maxRecDepth 100000 in
theorem mm_rk142 : mm_rok 142 := by show (T_X11_image.all fun e => decide (decode cX11_image e.1 = .ok (e.2.1, e.2.2.1)) && mm_chk 11 142 e) = true; decide +kernel
set_option maxRecDepth 100000 in
theorem mm_rk143 : mm_rok 143 := by show (T_X11_restore.all fun e => decide (decode cX11_restore e.1 = .ok (e.2.1, e.2.2.1)) && mm_chk 11 143 e) = true; decide +kernel
set_option maxRecDepth 100000 in
theorem mm_rk144 : mm_rok 144 := by show (T_X11_count.all fun e => decide (decode cX11_count e.1 = .ok (e.2.1, e.2.2.1)) && mm_chk 11 144 e) = true; decide +kernel
set_option maxRecDepth 100000 in
theorem mm_rk145 : mm_rok 145 := by show (T_X11_endText.all fun e => decide (decode cX11_endText e.1 = .ok (e.2.1, e.2.2.1)) && mm_chk 11 145 e) = true; decide +kernel
set_option maxRecDepth 100000 in
theorem mm_rk146 : mm_rok 146 := by show (T_X11_actKept.all fun e => decide (decode cX11_actKept e.1 = .ok (e.2.1, e.2.2.1)) && mm_chk 11 146 e) = true; decide +kernel
set_option maxRecDepth 100000 in
theorem mm_rk147 : mm_rok 147 := by show (T_X11_keepBefore.all fun e => decide (decode cX11_keepBefore e.1 = .ok (e.2.1, e.2.2.1)) && mm_chk 11 147 e) = true; decide +kernel
set_option maxRecDepth 100000 in
theorem mm_rk148 : mm_rok 148 := by show (T_X11_tagByte.all fun e => decide (decode cX11_tagByte e.1 = .ok (e.2.1, e.2.2.1)) && mm_chk 11 148 e) = true; decide +kernel
set_option maxRecDepth 100000 in
theorem mm_rk149 : mm_rok 149 := by show (T_X11_tagName.all fun e => decide (decode cX11_tagName e.1 = .ok (e.2.1, e.2.2.1)) && mm_chk 11 149 e) = true; decide +kernel
set_option maxRecDepth 100000 in
theorem mm_rk150 : mm_rok 150 := by show (T_X11_tagText.all fun e => decide (decode cX11_tagText e.1 = .ok (e.2.1, e.2.2.1)) && mm_chk 11 150 e) = true; decide +kernel
set_option maxRecDepth 100000 in
theorem mm_rk151 : mm_rok 151 := by show (T_X11_tagNumber.all fun e => decide (decode cX11_tagNumber e.1 = .ok (e.2.1, e.2.2.1)) && mm_chk 11 151 e) = true; decide +kernel
set_option maxRecDepth 100000 in
theorem mm_rk152 : mm_rok 152 := by show (T_X11_hasBit.all fun e => decide (decode cX11_hasBit e.1 = .ok (e.2.1, e.2.2.1)) && mm_chk 11 152 e) = true; decide +kernel
set_option maxRecDepth 100000 in
theorem mm_rk153 : mm_rok 153 := by show (T_X11_remainder.all fun e => decide (decode cX11_remainder e.1 = .ok (e.2.1, e.2.2.1)) && mm_chk 11 153 e) = true; decide +kernel
set_option maxRecDepth 100000 in
theorem mm_rk154 : mm_rok 154 := by show (T_X12_thrown.all fun e => decide (decode cX12_thrown e.1 = .ok (e.2.1, e.2.2.1)) && mm_chk 12 154 e) = true; decide +kernel
set_option maxRecDepth 100000 in
theorem mm_rk155 : mm_rok 155 := by show (T_X12_refuse.all fun e => decide (decode cX12_refuse e.1 = .ok (e.2.1, e.2.2.1)) && mm_chk 12 155 e) = true; decide +kernel
set_option maxRecDepth 100000 in
theorem mm_rk156 : mm_rok 156 := by show (T_X12_come.all fun e => decide (decode cX12_come e.1 = .ok (e.2.1, e.2.2.1)) && mm_chk 12 156 e) = true; decide +kernel
set_option maxRecDepth 100000 in
theorem mm_rk157 : mm_rok 157 := by show (T_X12_feed.all fun e => decide (decode cX12_feed e.1 = .ok (e.2.1, e.2.2.1)) && mm_chk 12 157 e) = true; decide +kernel
set_option maxRecDepth 100000 in
theorem mm_rk158 : mm_rok 158 := by show (T_X12_end.all fun e => decide (decode cX12_end e.1 = .ok (e.2.1, e.2.2.1)) && mm_chk 12 158 e) = true; decide +kernel
set_option maxRecDepth 100000 in
theorem mm_rk159 : mm_rok 159 := by show (T_X12_take.all fun e => decide (decode cX12_take e.1 = .ok (e.2.1, e.2.2.1)) && mm_chk 12 159 e) = true; decide +kernel
set_option maxRecDepth 100000 in
theorem mm_rk160 : mm_rok 160 := by show (T_X12_isIn.all fun e => decide (decode cX12_isIn e.1 = .ok (e.2.1, e.2.2.1)) && mm_chk 12 160 e) = true; decide +kernel
set_option maxRecDepth 100000 in
theorem mm_rk161 : mm_rok 161 := by show (T_X12_has.all fun e => decide (decode cX12_has e.1 = .ok (e.2.1, e.2.2.1)) && mm_chk 12 161 e) = true; decide +kernel
set_option maxRecDepth 100000 in
theorem mm_rk162 : mm_rok 162 := by show (T_X12_least.all fun e => decide (decode cX12_least e.1 = .ok (e.2.1, e.2.2.1)) && mm_chk 12 162 e) = true; decide +kernel
set_option maxRecDepth 100000 in
theorem mm_rk163 : mm_rok 163 := by show (T_X12_size.all fun e => decide (decode cX12_size e.1 = .ok (e.2.1, e.2.2.1)) && mm_chk 12 163 e) = true; decide +kernel
set_option maxRecDepth 100000 in
theorem mm_rk164 : mm_rok 164 := by show (T_X12_common.all fun e => decide (decode cX12_common e.1 = .ok (e.2.1, e.2.2.1)) && mm_chk 12 164 e) = true; decide +kernel
set_option maxRecDepth 100000 in
theorem mm_rk165 : mm_rok 165 := by show (T_X12_tapeAt.all fun e => decide (decode cX12_tapeAt e.1 = .ok (e.2.1, e.2.2.1)) && mm_chk 12 165 e) = true; decide +kernel
set_option maxRecDepth 100000 in
theorem mm_rk166 : mm_rok 166 := by show (T_X12_isDigit.all fun e => decide (decode cX12_isDigit e.1 = .ok (e.2.1, e.2.2.1)) && mm_chk 12 166 e) = true; decide +kernel
set_option maxRecDepth 100000 in
theorem mm_rk167 : mm_rok 167 := by show (T_X12_isLetter.all fun e => decide (decode cX12_isLetter e.1 = .ok (e.2.1, e.2.2.1)) && mm_chk 12 167 e) = true; decide +kernel
set_option maxRecDepth 100000 in
theorem mm_rk168 : mm_rok 168 := by show (T_X12_go.all fun e => decide (decode cX12_go e.1 = .ok (e.2.1, e.2.2.1)) && mm_chk 12 168 e) = true; decide +kernel
set_option maxRecDepth 100000 in
theorem mm_rk169 : mm_rok 169 := by show (T_X12_spelt.all fun e => decide (decode cX12_spelt e.1 = .ok (e.2.1, e.2.2.1)) && mm_chk 12 169 e) = true; decide +kernel
set_option maxRecDepth 100000 in
theorem mm_rk170 : mm_rok 170 := by show (T_X12_wordOf.all fun e => decide (decode cX12_wordOf e.1 = .ok (e.2.1, e.2.2.1)) && mm_chk 12 170 e) = true; decide +kernel
set_option maxRecDepth 100000 in
theorem mm_rk171 : mm_rok 171 := by show (T_X12_isWord.all fun e => decide (decode cX12_isWord e.1 = .ok (e.2.1, e.2.2.1)) && mm_chk 12 171 e) = true; decide +kernel
set_option maxRecDepth 100000 in
theorem mm_rk172 : mm_rok 172 := by show (T_X12_isSign.all fun e => decide (decode cX12_isSign e.1 = .ok (e.2.1, e.2.2.1)) && mm_chk 12 172 e) = true; decide +kernel
set_option maxRecDepth 100000 in
theorem mm_rk173 : mm_rok 173 := by show (T_X12_isName.all fun e => decide (decode cX12_isName e.1 = .ok (e.2.1, e.2.2.1)) && mm_chk 12 173 e) = true; decide +kernel
set_option maxRecDepth 100000 in
theorem mm_rk174 : mm_rok 174 := by show (T_X12_bad.all fun e => decide (decode cX12_bad e.1 = .ok (e.2.1, e.2.2.1)) && mm_chk 12 174 e) = true; decide +kernel
set_option maxRecDepth 100000 in
theorem mm_rk175 : mm_rok 175 := by show (T_X12_readNumber.all fun e => decide (decode cX12_readNumber e.1 = .ok (e.2.1, e.2.2.1)) && mm_chk 12 175 e) = true; decide +kernel
set_option maxRecDepth 100000 in
theorem mm_rk176 : mm_rok 176 := by show (T_X12_readEnd.all fun e => decide (decode cX12_readEnd e.1 = .ok (e.2.1, e.2.2.1)) && mm_chk 12 176 e) = true; decide +kernel
set_option maxRecDepth 100000 in
theorem mm_rk177 : mm_rok 177 := by show (T_X12_begin.all fun e => decide (decode cX12_begin e.1 = .ok (e.2.1, e.2.2.1)) && mm_chk 12 177 e) = true; decide +kernel
set_option maxRecDepth 100000 in
theorem mm_rk178 : mm_rok 178 := by show (T_X12_startRead.all fun e => decide (decode cX12_startRead e.1 = .ok (e.2.1, e.2.2.1)) && mm_chk 12 178 e) = true; decide +kernel
set_option maxRecDepth 100000 in
theorem mm_rk179 : mm_rok 179 := by show (T_X12_startSo.all fun e => decide (decode cX12_startSo e.1 = .ok (e.2.1, e.2.2.1)) && mm_chk 12 179 e) = true; decide +kernel
set_option maxRecDepth 100000 in
theorem mm_rk180 : mm_rok 180 := by show (T_X12_findIn.all fun e => decide (decode cX12_findIn e.1 = .ok (e.2.1, e.2.2.1)) && mm_chk 12 180 e) = true; decide +kernel
set_option maxRecDepth 100000 in
theorem mm_rk181 : mm_rok 181 := by show (T_X12_isTaken.all fun e => decide (decode cX12_isTaken e.1 = .ok (e.2.1, e.2.2.1)) && mm_chk 12 181 e) = true; decide +kernel
set_option maxRecDepth 100000 in
theorem mm_rk182 : mm_rok 182 := by show (T_X12_readNew.all fun e => decide (decode cX12_readNew e.1 = .ok (e.2.1, e.2.2.1)) && mm_chk 12 182 e) = true; decide +kernel
set_option maxRecDepth 100000 in
theorem mm_rk183 : mm_rok 183 := by show (T_X12_readFirst.all fun e => decide (decode cX12_readFirst e.1 = .ok (e.2.1, e.2.2.1)) && mm_chk 12 183 e) = true; decide +kernel
set_option maxRecDepth 100000 in
theorem mm_rk184 : mm_rok 184 := by show (T_X12_put.all fun e => decide (decode cX12_put e.1 = .ok (e.2.1, e.2.2.1)) && mm_chk 12 184 e) = true; decide +kernel
set_option maxRecDepth 100000 in
theorem mm_rk185 : mm_rok 185 := by show (T_X12_isFresh.all fun e => decide (decode cX12_isFresh e.1 = .ok (e.2.1, e.2.2.1)) && mm_chk 12 185 e) = true; decide +kernel
set_option maxRecDepth 100000 in
theorem mm_rk186 : mm_rok 186 := by show (T_X12_readRing.all fun e => decide (decode cX12_readRing e.1 = .ok (e.2.1, e.2.2.1)) && mm_chk 12 186 e) = true; decide +kernel
set_option maxRecDepth 100000 in
theorem mm_rk187 : mm_rok 187 := by show (T_X12_readCousin.all fun e => decide (decode cX12_readCousin e.1 = .ok (e.2.1, e.2.2.1)) && mm_chk 12 187 e) = true; decide +kernel
set_option maxRecDepth 100000 in
theorem mm_rk188 : mm_rok 188 := by show (T_X12_readPlace.all fun e => decide (decode cX12_readPlace e.1 = .ok (e.2.1, e.2.2.1)) && mm_chk 12 188 e) = true; decide +kernel
set_option maxRecDepth 100000 in
theorem mm_rk189 : mm_rok 189 := by show (T_X12_readPerson.all fun e => decide (decode cX12_readPerson e.1 = .ok (e.2.1, e.2.2.1)) && mm_chk 12 189 e) = true; decide +kernel
set_option maxRecDepth 100000 in
theorem mm_rk190 : mm_rok 190 := by show (T_X12_readWork.all fun e => decide (decode cX12_readWork e.1 = .ok (e.2.1, e.2.2.1)) && mm_chk 12 190 e) = true; decide +kernel
set_option maxRecDepth 100000 in
theorem mm_rk191 : mm_rok 191 := by show (T_X12_isWorkHere.all fun e => decide (decode cX12_isWorkHere e.1 = .ok (e.2.1, e.2.2.1)) && mm_chk 12 191 e) = true; decide +kernel
set_option maxRecDepth 100000 in
theorem mm_rk192 : mm_rok 192 := by show (T_X12_readAfter.all fun e => decide (decode cX12_readAfter e.1 = .ok (e.2.1, e.2.2.1)) && mm_chk 12 192 e) = true; decide +kernel
set_option maxRecDepth 100000 in
theorem mm_rk193 : mm_rok 193 := by show (T_X12_readThing.all fun e => decide (decode cX12_readThing e.1 = .ok (e.2.1, e.2.2.1)) && mm_chk 12 193 e) = true; decide +kernel
set_option maxRecDepth 100000 in
theorem mm_rk194 : mm_rok 194 := by show (T_X12_readLine.all fun e => decide (decode cX12_readLine e.1 = .ok (e.2.1, e.2.2.1)) && mm_chk 12 194 e) = true; decide +kernel
set_option maxRecDepth 100000 in
theorem mm_rk195 : mm_rok 195 := by show (T_X12_town.all fun e => decide (decode cX12_town e.1 = .ok (e.2.1, e.2.2.1)) && mm_chk 12 195 e) = true; decide +kernel
set_option maxRecDepth 100000 in
theorem mm_rk196 : mm_rok 196 := by show (T_X12_fault.all fun e => decide (decode cX12_fault e.1 = .ok (e.2.1, e.2.2.1)) && mm_chk 12 196 e) = true; decide +kernel
set_option maxRecDepth 100000 in
theorem mm_rk197 : mm_rok 197 := by show (T_X12_isBeater.all fun e => decide (decode cX12_isBeater e.1 = .ok (e.2.1, e.2.2.1)) && mm_chk 12 197 e) = true; decide +kernel
set_option maxRecDepth 100000 in
theorem mm_rk198 : mm_rok 198 := by show (T_X12_isPerson.all fun e => decide (decode cX12_isPerson e.1 = .ok (e.2.1, e.2.2.1)) && mm_chk 12 198 e) = true; decide +kernel
set_option maxRecDepth 100000 in
theorem mm_rk199 : mm_rok 199 := by show (T_X12_isWork.all fun e => decide (decode cX12_isWork e.1 = .ok (e.2.1, e.2.2.1)) && mm_chk 12 199 e) = true; decide +kernel
set_option maxRecDepth 100000 in
theorem mm_rk200 : mm_rok 200 := by show (T_X12_isOut.all fun e => decide (decode cX12_isOut e.1 = .ok (e.2.1, e.2.2.1)) && mm_chk 12 200 e) = true; decide +kernel
set_option maxRecDepth 100000 in
theorem mm_rk201 : mm_rok 201 := by show (T_X12_isStanding.all fun e => decide (decode cX12_isStanding e.1 = .ok (e.2.1, e.2.2.1)) && mm_chk 12 201 e) = true; decide +kernel
set_option maxRecDepth 100000 in
theorem mm_rk202 : mm_rok 202 := by show (T_X12_doneWorks.all fun e => decide (decode cX12_doneWorks e.1 = .ok (e.2.1, e.2.2.1)) && mm_chk 12 202 e) = true; decide +kernel
set_option maxRecDepth 100000 in
theorem mm_rk203 : mm_rok 203 := by show (T_X12_openWorks.all fun e => decide (decode cX12_openWorks e.1 = .ok (e.2.1, e.2.2.1)) && mm_chk 12 203 e) = true; decide +kernel
set_option maxRecDepth 100000 in
theorem mm_rk204 : mm_rok 204 := by show (T_X12_isBusy.all fun e => decide (decode cX12_isBusy e.1 = .ok (e.2.1, e.2.2.1)) && mm_chk 12 204 e) = true; decide +kernel
set_option maxRecDepth 100000 in
theorem mm_rk205 : mm_rok 205 := by show (T_X12_person.all fun e => decide (decode cX12_person e.1 = .ok (e.2.1, e.2.2.1)) && mm_chk 12 205 e) = true; decide +kernel
set_option maxRecDepth 100000 in
theorem mm_rk206 : mm_rok 206 := by show (T_X12_work.all fun e => decide (decode cX12_work e.1 = .ok (e.2.1, e.2.2.1)) && mm_chk 12 206 e) = true; decide +kernel
set_option maxRecDepth 100000 in
theorem mm_rk207 : mm_rok 207 := by show (T_X12_gap.all fun e => decide (decode cX12_gap e.1 = .ok (e.2.1, e.2.2.1)) && mm_chk 12 207 e) = true; decide +kernel
set_option maxRecDepth 100000 in
theorem mm_rk208 : mm_rok 208 := by show (T_X12_now.all fun e => decide (decode cX12_now e.1 = .ok (e.2.1, e.2.2.1)) && mm_chk 12 208 e) = true; decide +kernel
set_option maxRecDepth 100000 in
theorem mm_rk209 : mm_rok 209 := by show (T_X12_snap.all fun e => decide (decode cX12_snap e.1 = .ok (e.2.1, e.2.2.1)) && mm_chk 12 209 e) = true; decide +kernel
set_option maxRecDepth 100000 in
theorem mm_rk210 : mm_rok 210 := by show (T_X12_isCrowded.all fun e => decide (decode cX12_isCrowded e.1 = .ok (e.2.1, e.2.2.1)) && mm_chk 12 210 e) = true; decide +kernel
set_option maxRecDepth 100000 in
theorem mm_rk211 : mm_rok 211 := by show (T_X12_why.all fun e => decide (decode cX12_why e.1 = .ok (e.2.1, e.2.2.1)) && mm_chk 12 211 e) = true; decide +kernel
set_option maxRecDepth 100000 in
theorem mm_rk212 : mm_rok 212 := by show (T_X12_relieved.all fun e => decide (decode cX12_relieved e.1 = .ok (e.2.1, e.2.2.1)) && mm_chk 12 212 e) = true; decide +kernel
set_option maxRecDepth 100000 in
theorem mm_rk213 : mm_rok 213 := by show (T_X12_live.all fun e => decide (decode cX12_live e.1 = .ok (e.2.1, e.2.2.1)) && mm_chk 12 213 e) = true; decide +kernel
set_option maxRecDepth 100000 in
theorem mm_rk214 : mm_rok 214 := by show (T_X12_act.all fun e => decide (decode cX12_act e.1 = .ok (e.2.1, e.2.2.1)) && mm_chk 12 214 e) = true; decide +kernel
set_option maxRecDepth 100000 in
theorem mm_rk215 : mm_rok 215 := by show (T_X12_fright.all fun e => decide (decode cX12_fright e.1 = .ok (e.2.1, e.2.2.1)) && mm_chk 12 215 e) = true; decide +kernel
set_option maxRecDepth 100000 in
theorem mm_rk216 : mm_rok 216 := by show (T_X12_cure.all fun e => decide (decode cX12_cure e.1 = .ok (e.2.1, e.2.2.1)) && mm_chk 12 216 e) = true; decide +kernel
set_option maxRecDepth 100000 in
theorem mm_rk217 : mm_rok 217 := by show (T_X12_fly.all fun e => decide (decode cX12_fly e.1 = .ok (e.2.1, e.2.2.1)) && mm_chk 12 217 e) = true; decide +kernel
set_option maxRecDepth 100000 in
theorem mm_rk218 : mm_rok 218 := by show (T_X12_relieve.all fun e => decide (decode cX12_relieve e.1 = .ok (e.2.1, e.2.2.1)) && mm_chk 12 218 e) = true; decide +kernel
set_option maxRecDepth 100000 in
theorem mm_rk219 : mm_rok 219 := by show (T_X12_leave.all fun e => decide (decode cX12_leave e.1 = .ok (e.2.1, e.2.2.1)) && mm_chk 12 219 e) = true; decide +kernel
set_option maxRecDepth 100000 in
theorem mm_rk220 : mm_rok 220 := by show (T_X12_join.all fun e => decide (decode cX12_join e.1 = .ok (e.2.1, e.2.2.1)) && mm_chk 12 220 e) = true; decide +kernel
set_option maxRecDepth 100000 in
theorem mm_rk221 : mm_rok 221 := by show (T_X12_undo.all fun e => decide (decode cX12_undo e.1 = .ok (e.2.1, e.2.2.1)) && mm_chk 12 221 e) = true; decide +kernel
set_option maxRecDepth 100000 in
theorem mm_rk222 : mm_rok 222 := by show (T_X12_beat.all fun e => decide (decode cX12_beat e.1 = .ok (e.2.1, e.2.2.1)) && mm_chk 12 222 e) = true; decide +kernel
set_option maxRecDepth 100000 in
theorem mm_rk223 : mm_rok 223 := by show (T_X12_oneSecond.all fun e => decide (decode cX12_oneSecond e.1 = .ok (e.2.1, e.2.2.1)) && mm_chk 12 223 e) = true; decide +kernel
set_option maxRecDepth 100000 in
theorem mm_rk224 : mm_rok 224 := by show (T_X12_passSeconds.all fun e => decide (decode cX12_passSeconds e.1 = .ok (e.2.1, e.2.2.1)) && mm_chk 12 224 e) = true; decide +kernel
set_option maxRecDepth 100000 in
theorem mm_rk225 : mm_rok 225 := by show (T_X12_seconds.all fun e => decide (decode cX12_seconds e.1 = .ok (e.2.1, e.2.2.1)) && mm_chk 12 225 e) = true; decide +kernel
set_option maxRecDepth 100000 in
theorem mm_rk226 : mm_rok 226 := by show (T_X12_placeBehind.all fun e => decide (decode cX12_placeBehind e.1 = .ok (e.2.1, e.2.2.1)) && mm_chk 12 226 e) = true; decide +kernel
set_option maxRecDepth 100000 in
theorem mm_rk227 : mm_rok 227 := by show (T_X12_at.all fun e => decide (decode cX12_at e.1 = .ok (e.2.1, e.2.2.1)) && mm_chk 12 227 e) = true; decide +kernel
set_option maxRecDepth 100000 in
theorem mm_rk228 : mm_rok 228 := by show (T_X12_meet.all fun e => decide (decode cX12_meet e.1 = .ok (e.2.1, e.2.2.1)) && mm_chk 12 228 e) = true; decide +kernel
set_option maxRecDepth 100000 in
theorem mm_rk229 : mm_rok 229 := by show (T_X12_layAside.all fun e => decide (decode cX12_layAside e.1 = .ok (e.2.1, e.2.2.1)) && mm_chk 12 229 e) = true; decide +kernel
set_option maxRecDepth 100000 in
theorem mm_rk230 : mm_rok 230 := by show (T_X12_takeBack.all fun e => decide (decode cX12_takeBack e.1 = .ok (e.2.1, e.2.2.1)) && mm_chk 12 230 e) = true; decide +kernel
set_option maxRecDepth 100000 in
theorem mm_rk231 : mm_rok 231 := by show (T_X12_doneBy.all fun e => decide (decode cX12_doneBy e.1 = .ok (e.2.1, e.2.2.1)) && mm_chk 12 231 e) = true; decide +kernel
set_option maxRecDepth 100000 in
theorem mm_rk232 : mm_rok 232 := by show (T_X12_when.all fun e => decide (decode cX12_when e.1 = .ok (e.2.1, e.2.2.1)) && mm_chk 12 232 e) = true; decide +kernel
set_option maxRecDepth 100000 in
theorem mm_rk233 : mm_rok 233 := by show (T_X12_swift.all fun e => decide (decode cX12_swift e.1 = .ok (e.2.1, e.2.2.1)) && mm_chk 12 233 e) = true; decide +kernel
set_option maxRecDepth 100000 in
theorem mm_rk234 : mm_rok 234 := by show (T_X12_joins.all fun e => decide (decode cX12_joins e.1 = .ok (e.2.1, e.2.2.1)) && mm_chk 12 234 e) = true; decide +kernel
set_option maxRecDepth 100000 in
theorem mm_rk235 : mm_rok 235 := by show (T_X12_once.all fun e => decide (decode cX12_once e.1 = .ok (e.2.1, e.2.2.1)) && mm_chk 12 235 e) = true; decide +kernel
set_option maxRecDepth 100000 in
theorem mm_rk236 : mm_rok 236 := by show (T_X12_hasStood.all fun e => decide (decode cX12_hasStood e.1 = .ok (e.2.1, e.2.2.1)) && mm_chk 12 236 e) = true; decide +kernel
set_option maxRecDepth 100000 in
theorem mm_rk237 : mm_rok 237 := by show (T_X12_leftBy.all fun e => decide (decode cX12_leftBy e.1 = .ok (e.2.1, e.2.2.1)) && mm_chk 12 237 e) = true; decide +kernel
set_option maxRecDepth 100000 in
theorem mm_rk238 : mm_rok 238 := by show (T_X12_stood.all fun e => decide (decode cX12_stood e.1 = .ok (e.2.1, e.2.2.1)) && mm_chk 12 238 e) = true; decide +kernel
set_option maxRecDepth 100000 in
theorem mm_rk239 : mm_rok 239 := by show (T_X12_stoodLeast.all fun e => decide (decode cX12_stoodLeast e.1 = .ok (e.2.1, e.2.2.1)) && mm_chk 12 239 e) = true; decide +kernel
set_option maxRecDepth 100000 in
theorem mm_rk240 : mm_rok 240 := by show (T_X12_stoodMost.all fun e => decide (decode cX12_stoodMost e.1 = .ok (e.2.1, e.2.2.1)) && mm_chk 12 240 e) = true; decide +kernel
set_option maxRecDepth 100000 in
theorem mm_rk241 : mm_rok 241 := by show (T_X12_next.all fun e => decide (decode cX12_next e.1 = .ok (e.2.1, e.2.2.1)) && mm_chk 12 241 e) = true; decide +kernel
set_option maxRecDepth 100000 in
theorem mm_rk242 : mm_rok 242 := by show (T_X12_rowsOf.all fun e => decide (decode cX12_rowsOf e.1 = .ok (e.2.1, e.2.2.1)) && mm_chk 12 242 e) = true; decide +kernel
set_option maxRecDepth 100000 in
theorem mm_rk243 : mm_rok 243 := by show (T_X12_layRows.all fun e => decide (decode cX12_layRows e.1 = .ok (e.2.1, e.2.2.1)) && mm_chk 12 243 e) = true; decide +kernel
set_option maxRecDepth 100000 in
theorem mm_rk244 : mm_rok 244 := by show (T_X12_rows.all fun e => decide (decode cX12_rows e.1 = .ok (e.2.1, e.2.2.1)) && mm_chk 12 244 e) = true; decide +kernel
set_option maxRecDepth 100000 in
theorem mm_rk245 : mm_rok 245 := by show (T_X12_rowAt.all fun e => decide (decode cX12_rowAt e.1 = .ok (e.2.1, e.2.2.1)) && mm_chk 12 245 e) = true; decide +kernel
set_option maxRecDepth 100000 in
theorem mm_rk246 : mm_rok 246 := by show (T_X12_areNear.all fun e => decide (decode cX12_areNear e.1 = .ok (e.2.1, e.2.2.1)) && mm_chk 12 246 e) = true; decide +kernel
set_option maxRecDepth 100000 in
theorem mm_rk247 : mm_rok 247 := by show (T_X12_isFor.all fun e => decide (decode cX12_isFor e.1 = .ok (e.2.1, e.2.2.1)) && mm_chk 12 247 e) = true; decide +kernel
set_option maxRecDepth 100000 in
theorem mm_rk248 : mm_rok 248 := by show (T_X12_vote.all fun e => decide (decode cX12_vote e.1 = .ok (e.2.1, e.2.2.1)) && mm_chk 12 248 e) = true; decide +kernel
set_option maxRecDepth 100000 in
theorem mm_rk249 : mm_rok 249 := by show (T_X12_voted.all fun e => decide (decode cX12_voted e.1 = .ok (e.2.1, e.2.2.1)) && mm_chk 12 249 e) = true; decide +kernel
set_option maxRecDepth 100000 in
theorem mm_rk250 : mm_rok 250 := by show (T_X12_write.all fun e => decide (decode cX12_write e.1 = .ok (e.2.1, e.2.2.1)) && mm_chk 12 250 e) = true; decide +kernel
set_option maxRecDepth 100000 in
theorem mm_rk251 : mm_rok 251 := by show (T_X12_writeWord.all fun e => decide (decode cX12_writeWord e.1 = .ok (e.2.1, e.2.2.1)) && mm_chk 12 251 e) = true; decide +kernel
set_option maxRecDepth 100000 in
theorem mm_rk252 : mm_rok 252 := by show (T_X12_writeNumber.all fun e => decide (decode cX12_writeNumber e.1 = .ok (e.2.1, e.2.2.1)) && mm_chk 12 252 e) = true; decide +kernel
set_option maxRecDepth 100000 in
theorem mm_rk253 : mm_rok 253 := by show (T_X12_writeNext.all fun e => decide (decode cX12_writeNext e.1 = .ok (e.2.1, e.2.2.1)) && mm_chk 12 253 e) = true; decide +kernel
set_option maxRecDepth 100000 in
theorem mm_rk254 : mm_rok 254 := by show (T_X12_tag.all fun e => decide (decode cX12_tag e.1 = .ok (e.2.1, e.2.2.1)) && mm_chk 12 254 e) = true; decide +kernel
set_option maxRecDepth 100000 in
theorem mm_rk255 : mm_rok 255 := by show (T_X12_byteAt.all fun e => decide (decode cX12_byteAt e.1 = .ok (e.2.1, e.2.2.1)) && mm_chk 12 255 e) = true; decide +kernel
set_option maxRecDepth 100000 in
theorem mm_rk256 : mm_rok 256 := by show (T_X12_draw.all fun e => decide (decode cX12_draw e.1 = .ok (e.2.1, e.2.2.1)) && mm_chk 12 256 e) = true; decide +kernel
set_option maxRecDepth 100000 in
theorem mm_rk257 : mm_rok 257 := by show (T_X12_drawsFor.all fun e => decide (decode cX12_drawsFor e.1 = .ok (e.2.1, e.2.2.1)) && mm_chk 12 257 e) = true; decide +kernel
set_option maxRecDepth 100000 in
theorem mm_rk258 : mm_rok 258 := by show (T_X12_drawSeconds.all fun e => decide (decode cX12_drawSeconds e.1 = .ok (e.2.1, e.2.2.1)) && mm_chk 12 258 e) = true; decide +kernel
set_option maxRecDepth 100000 in
theorem mm_rk259 : mm_rok 259 := by show (T_X12_drawn.all fun e => decide (decode cX12_drawn e.1 = .ok (e.2.1, e.2.2.1)) && mm_chk 12 259 e) = true; decide +kernel
set_option maxRecDepth 100000 in
theorem mm_rk260 : mm_rok 260 := by show (T_X12_odds.all fun e => decide (decode cX12_odds e.1 = .ok (e.2.1, e.2.2.1)) && mm_chk 12 260 e) = true; decide +kernel
set_option maxRecDepth 100000 in
theorem mm_rk261 : mm_rok 261 := by show (T_X12_keep.all fun e => decide (decode cX12_keep e.1 = .ok (e.2.1, e.2.2.1)) && mm_chk 12 261 e) = true; decide +kernel
set_option maxRecDepth 100000 in
theorem mm_rk262 : mm_rok 262 := by show (T_X12_readNamed.all fun e => decide (decode cX12_readNamed e.1 = .ok (e.2.1, e.2.2.1)) && mm_chk 12 262 e) = true; decide +kernel
set_option maxRecDepth 100000 in
theorem mm_rk263 : mm_rok 263 := by show (T_X12_readBeater.all fun e => decide (decode cX12_readBeater e.1 = .ok (e.2.1, e.2.2.1)) && mm_chk 12 263 e) = true; decide +kernel
set_option maxRecDepth 100000 in
theorem mm_rk264 : mm_rok 264 := by show (T_X12_readDoes.all fun e => decide (decode cX12_readDoes e.1 = .ok (e.2.1, e.2.2.1)) && mm_chk 12 264 e) = true; decide +kernel
set_option maxRecDepth 100000 in
theorem mm_rk265 : mm_rok 265 := by show (T_X12_readBookLine.all fun e => decide (decode cX12_readBookLine e.1 = .ok (e.2.1, e.2.2.1)) && mm_chk 12 265 e) = true; decide +kernel
set_option maxRecDepth 100000 in
theorem mm_rk266 : mm_rok 266 := by show (T_X12_goBy.all fun e => decide (decode cX12_goBy e.1 = .ok (e.2.1, e.2.2.1)) && mm_chk 12 266 e) = true; decide +kernel
set_option maxRecDepth 100000 in
theorem mm_rk267 : mm_rok 267 := by show (T_X12_book.all fun e => decide (decode cX12_book e.1 = .ok (e.2.1, e.2.2.1)) && mm_chk 12 267 e) = true; decide +kernel
set_option maxRecDepth 100000 in
theorem mm_rk268 : mm_rok 268 := by show (T_X12_stay.all fun e => decide (decode cX12_stay e.1 = .ok (e.2.1, e.2.2.1)) && mm_chk 12 268 e) = true; decide +kernel
set_option maxRecDepth 100000 in
theorem mm_rk269 : mm_rok 269 := by show (T_X12_told.all fun e => decide (decode cX12_told e.1 = .ok (e.2.1, e.2.2.1)) && mm_chk 12 269 e) = true; decide +kernel
set_option maxRecDepth 100000 in
theorem mm_rk270 : mm_rok 270 := by show (T_X12_saysOne.all fun e => decide (decode cX12_saysOne e.1 = .ok (e.2.1, e.2.2.1)) && mm_chk 12 270 e) = true; decide +kernel
set_option maxRecDepth 100000 in
theorem mm_rk271 : mm_rok 271 := by show (T_X12_readOr.all fun e => decide (decode cX12_readOr e.1 = .ok (e.2.1, e.2.2.1)) && mm_chk 12 271 e) = true; decide +kernel
set_option maxRecDepth 100000 in
theorem mm_rk272 : mm_rok 272 := by show (T_X12_readAnd.all fun e => decide (decode cX12_readAnd e.1 = .ok (e.2.1, e.2.2.1)) && mm_chk 12 272 e) = true; decide +kernel
set_option maxRecDepth 100000 in
theorem mm_rk273 : mm_rok 273 := by show (T_X12_readSaid.all fun e => decide (decode cX12_readSaid e.1 = .ok (e.2.1, e.2.2.1)) && mm_chk 12 273 e) = true; decide +kernel
set_option maxRecDepth 100000 in
theorem mm_rk274 : mm_rok 274 := by show (T_X12_readNot.all fun e => decide (decode cX12_readNot e.1 = .ok (e.2.1, e.2.2.1)) && mm_chk 12 274 e) = true; decide +kernel
set_option maxRecDepth 100000 in
theorem mm_rk275 : mm_rok 275 := by show (T_X12_readBracket.all fun e => decide (decode cX12_readBracket e.1 = .ok (e.2.1, e.2.2.1)) && mm_chk 12 275 e) = true; decide +kernel
set_option maxRecDepth 100000 in
theorem mm_rk276 : mm_rok 276 := by show (T_X12_readOf.all fun e => decide (decode cX12_readOf e.1 = .ok (e.2.1, e.2.2.1)) && mm_chk 12 276 e) = true; decide +kernel
set_option maxRecDepth 100000 in
theorem mm_rk277 : mm_rok 277 := by show (T_X12_readCompare.all fun e => decide (decode cX12_readCompare e.1 = .ok (e.2.1, e.2.2.1)) && mm_chk 12 277 e) = true; decide +kernel
set_option maxRecDepth 100000 in
theorem mm_rk278 : mm_rok 278 := by show (T_X12_sentence.all fun e => decide (decode cX12_sentence e.1 = .ok (e.2.1, e.2.2.1)) && mm_chk 12 278 e) = true; decide +kernel
set_option maxRecDepth 100000 in
theorem mm_rk279 : mm_rok 279 := by show (T_X12_holds.all fun e => decide (decode cX12_holds e.1 = .ok (e.2.1, e.2.2.1)) && mm_chk 12 279 e) = true; decide +kernel
set_option maxRecDepth 100000 in
theorem mm_rk280 : mm_rok 280 := by show (T_X12_said.all fun e => decide (decode cX12_said e.1 = .ok (e.2.1, e.2.2.1)) && mm_chk 12 280 e) = true; decide +kernel
set_option maxRecDepth 100000 in
theorem mm_rk281 : mm_rok 281 := by show (T_X12_image.all fun e => decide (decode cX12_image e.1 = .ok (e.2.1, e.2.2.1)) && mm_chk 12 281 e) = true; decide +kernel
set_option maxRecDepth 100000 in
theorem mm_rk282 : mm_rok 282 := by show (T_X12_restore.all fun e => decide (decode cX12_restore e.1 = .ok (e.2.1, e.2.2.1)) && mm_chk 12 282 e) = true; decide +kernel
set_option maxRecDepth 100000 in
theorem mm_rk283 : mm_rok 283 := by show (T_X12_count.all fun e => decide (decode cX12_count e.1 = .ok (e.2.1, e.2.2.1)) && mm_chk 12 283 e) = true; decide +kernel
set_option maxRecDepth 100000 in
theorem mm_rk284 : mm_rok 284 := by show (T_X11_person.all fun e => decide (decode cX11_person e.1 = .ok (e.2.1, e.2.2.1)) && mm_chk 11 284 e) = true; decide +kernel
set_option maxRecDepth 100000 in
theorem mm_rk285 : mm_rok 285 := by show (T_X12_init.all fun e => decide (decode cX12_init e.1 = .ok (e.2.1, e.2.2.1)) && mm_chk 12 285 e) = true; decide +kernel
