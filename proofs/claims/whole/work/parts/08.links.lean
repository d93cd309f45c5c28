abbrev mX0_init : gm_M := (yX0_init, cX0_init, 1, none, { frames := 1, cells := 7, slots := 160, locals := 20 })
abbrev mX0_has : gm_M := (yX0_has, cX0_has, 2, (some .boolean), { frames := 0, cells := 0, slots := 0, locals := 0 })
abbrev mX0_hasAll : gm_M := (yX0_hasAll, cX0_hasAll, 2, (some .boolean), { frames := 0, cells := 0, slots := 0, locals := 0 })
abbrev mX0_hasParts : gm_M := (yX0_hasParts, cX0_hasParts, 2, (some .boolean), { frames := 1, cells := 0, slots := 0, locals := 21 })
abbrev mX0_isAsTold : gm_M := (yX0_isAsTold, cX0_isAsTold, 5, (some .boolean), { frames := 2, cells := 0, slots := 0, locals := 43 })
abbrev mX0_canJoin : gm_M := (yX0_canJoin, cX0_canJoin, 3, (some .boolean), { frames := 1, cells := 0, slots := 0, locals := 21 })
abbrev mX0_add : gm_M := (yX0_add, cX0_add, 8, (some .int), { frames := 1, cells := 0, slots := 0, locals := 24 })
abbrev mX0_join : gm_M := (yX0_join, cX0_join, 5, (some .int), { frames := 1, cells := 0, slots := 0, locals := 24 })
abbrev mX0_open : gm_M := (yX0_open, cX0_open, 5, (some .int), { frames := 0, cells := 0, slots := 0, locals := 0 })
abbrev mX0_seat : gm_M := (yX0_seat, cX0_seat, 4, none, { frames := 0, cells := 0, slots := 0, locals := 0 })
abbrev mX0_voicesOf : gm_M := (yX0_voicesOf, cX0_voicesOf, 4, (some .int), { frames := 0, cells := 0, slots := 0, locals := 0 })
abbrev mX0_sizeOfSet : gm_M := (yX0_sizeOfSet, cX0_sizeOfSet, 4, (some .int), { frames := 0, cells := 0, slots := 0, locals := 0 })
abbrev mX0_changeOf : gm_M := (yX0_changeOf, cX0_changeOf, 4, (some .int), { frames := 1, cells := 0, slots := 0, locals := 21 })
abbrev mX0_votesFor : gm_M := (yX0_votesFor, cX0_votesFor, 5, (some .int), { frames := 1, cells := 0, slots := 0, locals := 21 })
abbrev mX0_setOfKind : gm_M := (yX0_setOfKind, cX0_setOfKind, 4, (some .int), { frames := 0, cells := 0, slots := 0, locals := 0 })
abbrev mX1_init : gm_M := (yX1_init, cX1_init, 1, none, { frames := 1, cells := 2, slots := 192, locals := 23 })
abbrev mX1_has : gm_M := (yX1_has, cX1_has, 3, (some .boolean), { frames := 0, cells := 0, slots := 0, locals := 0 })
abbrev mX1_songIn : gm_M := (yX1_songIn, cX1_songIn, 3, (some .int), { frames := 0, cells := 0, slots := 0, locals := 0 })
abbrev mX1_isFree : gm_M := (yX1_isFree, cX1_isFree, 3, (some .boolean), { frames := 1, cells := 0, slots := 0, locals := 22 })
abbrev mX1_busyAt : gm_M := (yX1_busyAt, cX1_busyAt, 4, (some .int), { frames := 0, cells := 0, slots := 0, locals := 0 })
abbrev mX1_take : gm_M := (yX1_take, cX1_take, 5, none, { frames := 0, cells := 0, slots := 0, locals := 0 })
abbrev mX2_init : gm_M := (yX2_init, cX2_init, 1, none, { frames := 1, cells := 2, slots := 102, locals := 23 })
abbrev mX2_has : gm_M := (yX2_has, cX2_has, 2, (some .boolean), { frames := 0, cells := 0, slots := 0, locals := 0 })
abbrev mX2_add : gm_M := (yX2_add, cX2_add, 3, (some .int), { frames := 0, cells := 0, slots := 0, locals := 0 })
abbrev mX2_give : gm_M := (yX2_give, cX2_give, 5, (some .int), { frames := 0, cells := 0, slots := 0, locals := 0 })
abbrev mX2_meanOf : gm_M := (yX2_meanOf, cX2_meanOf, 6, (some .int), { frames := 0, cells := 0, slots := 0, locals := 0 })
abbrev mX2_scaleOf : gm_M := (yX2_scaleOf, cX2_scaleOf, 8, (some .int), { frames := 1, cells := 0, slots := 0, locals := 22 })
abbrev mX3_init : gm_M := (yX3_init, cX3_init, 2, none, { frames := 1, cells := 2, slots := 24, locals := 23 })
abbrev mX3_taken : gm_M := (yX3_taken, cX3_taken, 4, (some .int), { frames := 0, cells := 0, slots := 0, locals := 0 })
abbrev mX3_freeBeds : gm_M := (yX3_freeBeds, cX3_freeBeds, 2, (some .int), { frames := 1, cells := 0, slots := 0, locals := 23 })
abbrev mX3_bedsFor : gm_M := (yX3_bedsFor, cX3_bedsFor, 4, (some .int), { frames := 2, cells := 0, slots := 0, locals := 44 })
abbrev mX3_canTake : gm_M := (yX3_canTake, cX3_canTake, 3, (some .boolean), { frames := 3, cells := 0, slots := 0, locals := 67 })
abbrev mX3_tightestTown : gm_M := (yX3_tightestTown, cX3_tightestTown, 5, (some .int), { frames := 4, cells := 0, slots := 0, locals := 89 })
abbrev mX3_sleepers : gm_M := (yX3_sleepers, cX3_sleepers, 3, (some .int), { frames := 0, cells := 0, slots := 0, locals := 0 })
abbrev mX4_init : gm_M := (yX4_init, cX4_init, 2, none, { frames := 1, cells := 0, slots := 0, locals := 20 })
abbrev mX4_holds : gm_M := (yX4_holds, cX4_holds, 2, (some .boolean), { frames := 0, cells := 0, slots := 0, locals := 0 })
abbrev mX4_add : gm_M := (yX4_add, cX4_add, 2, none, { frames := 0, cells := 0, slots := 0, locals := 0 })
abbrev mX4_remove : gm_M := (yX4_remove, cX4_remove, 2, none, { frames := 0, cells := 0, slots := 0, locals := 0 })
abbrev mX4_number : gm_M := (yX4_number, cX4_number, 1, (some .int), { frames := 1, cells := 0, slots := 0, locals := 20 })
abbrev mX4_length : gm_M := (yX4_length, cX4_length, 3, (some .int), { frames := 2, cells := 0, slots := 0, locals := 40 })
abbrev mX5_init : gm_M := (yX5_init, cX5_init, 1, none, { frames := 1, cells := 5, slots := 108, locals := 20 })
abbrev mX5_begin : gm_M := (yX5_begin, cX5_begin, 1, none, { frames := 0, cells := 1, slots := 4608, locals := 0 })
abbrev mX5_add : gm_M := (yX5_add, cX5_add, 3, none, { frames := 0, cells := 0, slots := 0, locals := 0 })
abbrev mX5_price : gm_M := (yX5_price, cX5_price, 6, none, { frames := 2, cells := 0, slots := 0, locals := 44 })
abbrev mX5_leastSum : gm_M := (yX5_leastSum, cX5_leastSum, 3, (some .int), { frames := 3, cells := 0, slots := 0, locals := 69 })
abbrev mX5_leastRest : gm_M := (yX5_leastRest, cX5_leastRest, 5, (some .int), { frames := 2, cells := 0, slots := 0, locals := 45 })
abbrev mX5_sumWith : gm_M := (yX5_sumWith, cX5_sumWith, 5, (some .int), { frames := 1, cells := 0, slots := 0, locals := 21 })
abbrev mX5_keepOrder : gm_M := (yX5_keepOrder, cX5_keepOrder, 7, none, { frames := 3, cells := 0, slots := 0, locals := 69 })
abbrev mX5_leastNext : gm_M := (yX5_leastNext, cX5_leastNext, 5, (some .int), { frames := 2, cells := 0, slots := 0, locals := 45 })
abbrev mX6_init : gm_M := (yX6_init, cX6_init, 1, none, { frames := 1, cells := 6, slots := 108, locals := 20 })
abbrev mX6_add : gm_M := (yX6_add, cX6_add, 4, (some .int), { frames := 0, cells := 0, slots := 0, locals := 0 })
abbrev mX6_fieldOf : gm_M := (yX6_fieldOf, cX6_fieldOf, 3, (some .int), { frames := 0, cells := 0, slots := 0, locals := 0 })
abbrev mX6_testHolds : gm_M := (yX6_testHolds, cX6_testHolds, 5, (some .boolean), { frames := 0, cells := 0, slots := 0, locals := 0 })
abbrev mX7_init : gm_M := (yX7_init, cX7_init, 1, none, { frames := 1, cells := 4, slots := 36, locals := 20 })
abbrev mX7_has : gm_M := (yX7_has, cX7_has, 2, (some .boolean), { frames := 0, cells := 0, slots := 0, locals := 0 })
abbrev mX7_hasAll : gm_M := (yX7_hasAll, cX7_hasAll, 2, (some .boolean), { frames := 0, cells := 0, slots := 0, locals := 0 })
abbrev mX7_add : gm_M := (yX7_add, cX7_add, 5, (some .int), { frames := 0, cells := 0, slots := 0, locals := 0 })
abbrev mX8_init : gm_M := (yX8_init, cX8_init, 2, none, { frames := 1, cells := 4, slots := 40, locals := 23 })
abbrev mX8_hasRow : gm_M := (yX8_hasRow, cX8_hasRow, 2, (some .boolean), { frames := 0, cells := 0, slots := 0, locals := 0 })
abbrev mX8_holds : gm_M := (yX8_holds, cX8_holds, 2, (some .boolean), { frames := 0, cells := 0, slots := 0, locals := 0 })
abbrev mX8_blocks : gm_M := (yX8_blocks, cX8_blocks, 3, (some .int), { frames := 1, cells := 0, slots := 0, locals := 21 })
abbrev mX8_isFree : gm_M := (yX8_isFree, cX8_isFree, 2, (some .boolean), { frames := 1, cells := 0, slots := 0, locals := 25 })
abbrev mX8_hasRoom : gm_M := (yX8_hasRoom, cX8_hasRoom, 6, (some .boolean), { frames := 0, cells := 0, slots := 0, locals := 0 })
abbrev mX8_put : gm_M := (yX8_put, cX8_put, 4, none, { frames := 0, cells := 0, slots := 0, locals := 0 })
abbrev mX8_isHidden : gm_M := (yX8_isHidden, cX8_isHidden, 4, (some .boolean), { frames := 1, cells := 0, slots := 0, locals := 21 })
abbrev mX8_seconds : gm_M := (yX8_seconds, cX8_seconds, 3, (some .int), { frames := 1, cells := 0, slots := 0, locals := 22 })
abbrev mX8_placesRight : gm_M := (yX8_placesRight, cX8_placesRight, 3, (some .int), { frames := 0, cells := 0, slots := 0, locals := 0 })
abbrev mX8_resetDoors : gm_M := (yX8_resetDoors, cX8_resetDoors, 1, none, { frames := 0, cells := 0, slots := 0, locals := 0 })
abbrev mX8_sendOff : gm_M := (yX8_sendOff, cX8_sendOff, 3, none, { frames := 2, cells := 0, slots := 0, locals := 44 })
abbrev mX8_clearOfAll : gm_M := (yX8_clearOfAll, cX8_clearOfAll, 2, (some .int), { frames := 3, cells := 0, slots := 0, locals := 66 })
abbrev mX8_clearOfLine : gm_M := (yX8_clearOfLine, cX8_clearOfLine, 5, (some .int), { frames := 3, cells := 0, slots := 0, locals := 66 })
abbrev mX8_putBestLine : gm_M := (yX8_putBestLine, cX8_putBestLine, 8, (some .int), { frames := 4, cells := 0, slots := 0, locals := 90 })
abbrev mX8_firstLine : gm_M := (yX8_firstLine, cX8_firstLine, 4, (some .int), { frames := 0, cells := 0, slots := 0, locals := 0 })
abbrev mX8_nextLine : gm_M := (yX8_nextLine, cX8_nextLine, 6, (some .boolean), { frames := 1, cells := 0, slots := 0, locals := 23 })
abbrev mX8_swapInLine : gm_M := (yX8_swapInLine, cX8_swapInLine, 4, none, { frames := 0, cells := 0, slots := 0, locals := 0 })
abbrev mX9_init : gm_M := (yX9_init, cX9_init, 1, none, { frames := 1, cells := 4, slots := 126, locals := 20 })
abbrev mX9_append : gm_M := (yX9_append, cX9_append, 5, (some .int), { frames := 0, cells := 0, slots := 0, locals := 0 })
abbrev mX9_readRule : gm_M := (yX9_readRule, cX9_readRule, 1, (some .boolean), { frames := 9, cells := 0, slots := 0, locals := 191 })
abbrev mX9_readVerb : gm_M := (yX9_readVerb, cX9_readVerb, 1, (some .boolean), { frames := 6, cells := 0, slots := 0, locals := 128 })
abbrev mX9_readKind : gm_M := (yX9_readKind, cX9_readKind, 2, (some .boolean), { frames := 1, cells := 0, slots := 0, locals := 22 })
abbrev mX9_readTests : gm_M := (yX9_readTests, cX9_readTests, 2, (some .boolean), { frames := 8, cells := 0, slots := 0, locals := 170 })
abbrev mX9_readTest : gm_M := (yX9_readTest, cX9_readTest, 2, (some .boolean), { frames := 7, cells := 0, slots := 0, locals := 149 })
abbrev mX9_readField : gm_M := (yX9_readField, cX9_readField, 2, (some .boolean), { frames := 6, cells := 0, slots := 0, locals := 128 })
abbrev mX9_readSign : gm_M := (yX9_readSign, cX9_readSign, 3, (some .boolean), { frames := 1, cells := 0, slots := 0, locals := 20 })
abbrev mX9_readNumber : gm_M := (yX9_readNumber, cX9_readNumber, 4, (some .boolean), { frames := 1, cells := 0, slots := 0, locals := 22 })
abbrev mX9_readWord : gm_M := (yX9_readWord, cX9_readWord, 3, (some .boolean), { frames := 5, cells := 0, slots := 0, locals := 106 })
abbrev mX9_isAtEnd : gm_M := (yX9_isAtEnd, cX9_isAtEnd, 1, (some .boolean), { frames := 0, cells := 0, slots := 0, locals := 0 })
abbrev mX9_here : gm_M := (yX9_here, cX9_here, 1, (some .int), { frames := 0, cells := 0, slots := 0, locals := 0 })
abbrev mX10_init : gm_M := (yX10_init, cX10_init, 1, none, { frames := 2, cells := 46, slots := 952, locals := 44 })
abbrev mX10_choir : gm_M := (yX10_choir, cX10_choir, 5, (some .int), { frames := 3, cells := 0, slots := 0, locals := 67 })
abbrev mX10_day : gm_M := (yX10_day, cX10_day, 3, (some .int), { frames := 0, cells := 0, slots := 0, locals := 0 })
abbrev mX10_song : gm_M := (yX10_song, cX10_song, 5, (some .int), { frames := 1, cells := 0, slots := 0, locals := 24 })
abbrev mX10_judge : gm_M := (yX10_judge, cX10_judge, 2, (some .int), { frames := 1, cells := 0, slots := 0, locals := 22 })
abbrev mX10_mark : gm_M := (yX10_mark, cX10_mark, 4, (some .int), { frames := 1, cells := 0, slots := 0, locals := 24 })
abbrev mX10_mean : gm_M := (yX10_mean, cX10_mean, 2, (some .int), { frames := 1, cells := 0, slots := 0, locals := 25 })
abbrev mX10_scale : gm_M := (yX10_scale, cX10_scale, 3, (some .int), { frames := 2, cells := 0, slots := 0, locals := 49 })
abbrev mX10_about : gm_M := (yX10_about, cX10_about, 3, (some .int), { frames := 1, cells := 0, slots := 0, locals := 21 })
abbrev mX10_voice : gm_M := (yX10_voice, cX10_voice, 3, (some .int), { frames := 1, cells := 0, slots := 0, locals := 21 })
abbrev mX10_feed : gm_M := (yX10_feed, cX10_feed, 4, (some .int), { frames := 1, cells := 0, slots := 0, locals := 24 })
abbrev mX10_rule : gm_M := (yX10_rule, cX10_rule, 2, (some .int), { frames := 10, cells := 0, slots := 0, locals := 211 })
abbrev mX10_may : gm_M := (yX10_may, cX10_may, 3, (some .int), { frames := 5, cells := 0, slots := 0, locals := 119 })
abbrev mX10_why : gm_M := (yX10_why, cX10_why, 3, (some .int), { frames := 4, cells := 0, slots := 0, locals := 96 })
abbrev mX10_vote : gm_M := (yX10_vote, cX10_vote, 4, (some .int), { frames := 1, cells := 0, slots := 0, locals := 22 })
abbrev mX10_leader : gm_M := (yX10_leader, cX10_leader, 7, (some .int), { frames := 6, cells := 0, slots := 0, locals := 142 })
abbrev mX10_stage : gm_M := (yX10_stage, cX10_stage, 3, (some .int), { frames := 2, cells := 0, slots := 0, locals := 43 })
abbrev mX10_tall : gm_M := (yX10_tall, cX10_tall, 4, (some .int), { frames := 1, cells := 0, slots := 0, locals := 22 })
abbrev mX10_stand : gm_M := (yX10_stand, cX10_stand, 4, (some .int), { frames := 1, cells := 0, slots := 0, locals := 25 })
abbrev mX10_off : gm_M := (yX10_off, cX10_off, 3, (some .int), { frames := 2, cells := 0, slots := 0, locals := 44 })
abbrev mX10_well : gm_M := (yX10_well, cX10_well, 2, (some .int), { frames := 2, cells := 0, slots := 0, locals := 44 })
abbrev mX10_clear : gm_M := (yX10_clear, cX10_clear, 1, (some .int), { frames := 4, cells := 0, slots := 0, locals := 87 })
abbrev mX10_lay : gm_M := (yX10_lay, cX10_lay, 3, (some .int), { frames := 5, cells := 0, slots := 0, locals := 117 })
abbrev mX10_change : gm_M := (yX10_change, cX10_change, 3, (some .int), { frames := 6, cells := 0, slots := 0, locals := 142 })
abbrev mX10_order : gm_M := (yX10_order, cX10_order, 3, (some .int), { frames := 6, cells := 1, slots := 4608, locals := 142 })
abbrev mX10_ordered : gm_M := (yX10_ordered, cX10_ordered, 2, (some .int), { frames := 0, cells := 0, slots := 0, locals := 0 })
abbrev mX10_rehearse : gm_M := (yX10_rehearse, cX10_rehearse, 6, (some .int), { frames := 6, cells := 0, slots := 0, locals := 142 })
abbrev mX10_hall : gm_M := (yX10_hall, cX10_hall, 3, (some .int), { frames := 1, cells := 0, slots := 0, locals := 22 })
abbrev mX10_whole : gm_M := (yX10_whole, cX10_whole, 3, (some .int), { frames := 6, cells := 0, slots := 0, locals := 142 })
abbrev mX10_beds : gm_M := (yX10_beds, cX10_beds, 4, (some .int), { frames := 1, cells := 0, slots := 0, locals := 23 })
abbrev mX10_sleep : gm_M := (yX10_sleep, cX10_sleep, 4, (some .int), { frames := 4, cells := 0, slots := 0, locals := 89 })
abbrev mX10_bed : gm_M := (yX10_bed, cX10_bed, 5, (some .int), { frames := 5, cells := 0, slots := 0, locals := 113 })
abbrev mX10_march : gm_M := (yX10_march, cX10_march, 2, (some .int), { frames := 3, cells := 0, slots := 0, locals := 62 })
abbrev mX10_leave : gm_M := (yX10_leave, cX10_leave, 2, (some .int), { frames := 3, cells := 0, slots := 0, locals := 62 })
abbrev mX10_gap : gm_M := (yX10_gap, cX10_gap, 3, (some .int), { frames := 1, cells := 0, slots := 0, locals := 22 })
abbrev mX10_count : gm_M := (yX10_count, cX10_count, 2, (some .int), { frames := 3, cells := 0, slots := 0, locals := 62 })
abbrev mX10_isWithin : gm_M := (yX10_isWithin, cX10_isWithin, 3, (some .boolean), { frames := 0, cells := 0, slots := 0, locals := 0 })
abbrev mX10_isTown : gm_M := (yX10_isTown, cX10_isTown, 1, (some .boolean), { frames := 0, cells := 0, slots := 0, locals := 0 })
abbrev mX10_firstPart : gm_M := (yX10_firstPart, cX10_firstPart, 1, (some .int), { frames := 0, cells := 0, slots := 0, locals := 0 })
abbrev mX10_secondPart : gm_M := (yX10_secondPart, cX10_secondPart, 1, (some .int), { frames := 0, cells := 0, slots := 0, locals := 0 })
abbrev mX10_portions : gm_M := (yX10_portions, cX10_portions, 2, (some .int), { frames := 0, cells := 0, slots := 0, locals := 0 })
abbrev mX10_isSetOfChoirs : gm_M := (yX10_isSetOfChoirs, cX10_isSetOfChoirs, 2, (some .boolean), { frames := 1, cells := 0, slots := 0, locals := 21 })
abbrev mX10_isThere : gm_M := (yX10_isThere, cX10_isThere, 2, (some .boolean), { frames := 0, cells := 0, slots := 0, locals := 0 })
abbrev mX10_singersThere : gm_M := (yX10_singersThere, cX10_singersThere, 3, (some .int), { frames := 1, cells := 0, slots := 0, locals := 21 })
abbrev mX10_areReadyToBeLaid : gm_M := (yX10_areReadyToBeLaid, cX10_areReadyToBeLaid, 3, (some .boolean), { frames := 1, cells := 0, slots := 0, locals := 21 })
abbrev mX10_verdict : gm_M := (yX10_verdict, cX10_verdict, 4, (some .int), { frames := 4, cells := 0, slots := 0, locals := 96 })
abbrev mX10_lastRuleThatHolds : gm_M := (yX10_lastRuleThatHolds, cX10_lastRuleThatHolds, 4, (some .int), { frames := 3, cells := 0, slots := 0, locals := 73 })
abbrev mX10_ruleHolds : gm_M := (yX10_ruleHolds, cX10_ruleHolds, 6, (some .boolean), { frames := 2, cells := 0, slots := 0, locals := 48 })
abbrev mX10_valueOf : gm_M := (yX10_valueOf, cX10_valueOf, 4, (some .int), { frames := 1, cells := 0, slots := 0, locals := 25 })
abbrev mX10_choirsThatMay : gm_M := (yX10_choirsThatMay, cX10_choirsThatMay, 4, (some .int), { frames := 5, cells := 0, slots := 0, locals := 119 })
abbrev mX11_init : gm_M := (yX11_init, cX11_init, 1, none, { frames := 1, cells := 37, slots := 5670, locals := 20 })
abbrev mX11_isIn : gm_M := (yX11_isIn, cX11_isIn, 6, (some .boolean), { frames := 0, cells := 0, slots := 0, locals := 0 })
abbrev mX11_up : gm_M := (yX11_up, cX11_up, 2, (some .int), { frames := 0, cells := 0, slots := 0, locals := 0 })
abbrev mX11_isChoir : gm_M := (yX11_isChoir, cX11_isChoir, 2, (some .boolean), { frames := 0, cells := 0, slots := 0, locals := 0 })
abbrev mX11_isSong : gm_M := (yX11_isSong, cX11_isSong, 2, (some .boolean), { frames := 0, cells := 0, slots := 0, locals := 0 })
abbrev mX11_isJudge : gm_M := (yX11_isJudge, cX11_isJudge, 2, (some .boolean), { frames := 0, cells := 0, slots := 0, locals := 0 })
abbrev mX11_isTown : gm_M := (yX11_isTown, cX11_isTown, 1, (some .boolean), { frames := 1, cells := 0, slots := 0, locals := 25 })
abbrev mX11_digits : gm_M := (yX11_digits, cX11_digits, 2, (some .int), { frames := 0, cells := 0, slots := 0, locals := 0 })
abbrev mX11_suits : gm_M := (yX11_suits, cX11_suits, 6, (some .boolean), { frames := 1, cells := 0, slots := 0, locals := 25 })
abbrev mX11_choir : gm_M := (yX11_choir, cX11_choir, 8, (some .int), { frames := 2, cells := 0, slots := 0, locals := 50 })
abbrev mX11_day : gm_M := (yX11_day, cX11_day, 3, (some .int), { frames := 1, cells := 0, slots := 0, locals := 25 })
abbrev mX11_song : gm_M := (yX11_song, cX11_song, 5, (some .int), { frames := 1, cells := 0, slots := 0, locals := 25 })
abbrev mX11_judge : gm_M := (yX11_judge, cX11_judge, 2, (some .int), { frames := 2, cells := 0, slots := 0, locals := 45 })
abbrev mX11_mark : gm_M := (yX11_mark, cX11_mark, 5, (some .int), { frames := 1, cells := 0, slots := 0, locals := 25 })
abbrev mX11_meanOf : gm_M := (yX11_meanOf, cX11_meanOf, 5, (some .int), { frames := 0, cells := 0, slots := 0, locals := 0 })
abbrev mX11_mean : gm_M := (yX11_mean, cX11_mean, 2, (some .int), { frames := 1, cells := 0, slots := 0, locals := 24 })
abbrev mX11_scale : gm_M := (yX11_scale, cX11_scale, 7, (some .int), { frames := 1, cells := 0, slots := 0, locals := 21 })
abbrev mX11_sizeOf : gm_M := (yX11_sizeOf, cX11_sizeOf, 2, (some .int), { frames := 0, cells := 0, slots := 0, locals := 0 })
abbrev mX11_hasCome : gm_M := (yX11_hasCome, cX11_hasCome, 2, (some .boolean), { frames := 0, cells := 0, slots := 0, locals := 0 })
abbrev mX11_isThere : gm_M := (yX11_isThere, cX11_isThere, 2, (some .boolean), { frames := 1, cells := 0, slots := 0, locals := 21 })
abbrev mX11_about : gm_M := (yX11_about, cX11_about, 3, (some .int), { frames := 2, cells := 0, slots := 0, locals := 42 })
abbrev mX11_voice : gm_M := (yX11_voice, cX11_voice, 3, (some .int), { frames := 1, cells := 0, slots := 0, locals := 25 })
abbrev mX11_feed : gm_M := (yX11_feed, cX11_feed, 5, (some .int), { frames := 1, cells := 0, slots := 0, locals := 25 })
abbrev mX11_letter : gm_M := (yX11_letter, cX11_letter, 1, (some .int), { frames := 0, cells := 0, slots := 0, locals := 0 })
abbrev mX11_expect : gm_M := (yX11_expect, cX11_expect, 5, none, { frames := 1, cells := 0, slots := 0, locals := 20 })
abbrev mX11_isDigit : gm_M := (yX11_isDigit, cX11_isDigit, 1, (some .boolean), { frames := 0, cells := 0, slots := 0, locals := 0 })
abbrev mX11_readTest : gm_M := (yX11_readTest, cX11_readTest, 5, none, { frames := 2, cells := 0, slots := 0, locals := 44 })
abbrev mX11_read : gm_M := (yX11_read, cX11_read, 3, none, { frames := 3, cells := 0, slots := 0, locals := 68 })
abbrev mX11_rule : gm_M := (yX11_rule, cX11_rule, 1, (some .int), { frames := 4, cells := 0, slots := 0, locals := 90 })
abbrev mX11_holds : gm_M := (yX11_holds, cX11_holds, 10, (some .boolean), { frames := 1, cells := 0, slots := 0, locals := 24 })
abbrev mX11_ruleFor : gm_M := (yX11_ruleFor, cX11_ruleFor, 5, (some .int), { frames := 2, cells := 0, slots := 0, locals := 53 })
abbrev mX11_mayOf : gm_M := (yX11_mayOf, cX11_mayOf, 4, (some .int), { frames := 3, cells := 0, slots := 0, locals := 77 })
abbrev mX11_may : gm_M := (yX11_may, cX11_may, 3, (some .int), { frames := 4, cells := 0, slots := 0, locals := 100 })
abbrev mX11_why : gm_M := (yX11_why, cX11_why, 3, (some .int), { frames := 3, cells := 0, slots := 0, locals := 77 })
abbrev mX11_vote : gm_M := (yX11_vote, cX11_vote, 4, (some .int), { frames := 1, cells := 0, slots := 0, locals := 25 })
abbrev mX11_leader : gm_M := (yX11_leader, cX11_leader, 4, (some .int), { frames := 4, cells := 0, slots := 0, locals := 100 })
abbrev mX11_blocks : gm_M := (yX11_blocks, cX11_blocks, 3, (some .int), { frames := 0, cells := 0, slots := 0, locals := 0 })
abbrev mX11_stage : gm_M := (yX11_stage, cX11_stage, 3, (some .int), { frames := 1, cells := 0, slots := 0, locals := 25 })
abbrev mX11_tall : gm_M := (yX11_tall, cX11_tall, 4, (some .int), { frames := 1, cells := 0, slots := 0, locals := 25 })
abbrev mX11_isFree : gm_M := (yX11_isFree, cX11_isFree, 6, (some .boolean), { frames := 1, cells := 0, slots := 0, locals := 21 })
abbrev mX11_stand : gm_M := (yX11_stand, cX11_stand, 4, (some .int), { frames := 2, cells := 0, slots := 0, locals := 46 })
abbrev mX11_goesLeft : gm_M := (yX11_goesLeft, cX11_goesLeft, 3, (some .boolean), { frames := 0, cells := 0, slots := 0, locals := 0 })
abbrev mX11_secondsOf : gm_M := (yX11_secondsOf, cX11_secondsOf, 3, (some .int), { frames := 1, cells := 0, slots := 0, locals := 22 })
abbrev mX11_off : gm_M := (yX11_off, cX11_off, 3, (some .int), { frames := 2, cells := 0, slots := 0, locals := 44 })
abbrev mX11_well : gm_M := (yX11_well, cX11_well, 4, (some .int), { frames := 1, cells := 0, slots := 0, locals := 21 })
abbrev mX11_clear : gm_M := (yX11_clear, cX11_clear, 5, (some .int), { frames := 2, cells := 0, slots := 0, locals := 44 })
abbrev mX11_countBits : gm_M := (yX11_countBits, cX11_countBits, 3, (some .int), { frames := 0, cells := 0, slots := 0, locals := 0 })
abbrev mX11_clearOf : gm_M := (yX11_clearOf, cX11_clearOf, 8, (some .int), { frames := 2, cells := 0, slots := 0, locals := 44 })
abbrev mX11_isNext : gm_M := (yX11_isNext, cX11_isNext, 7, (some .boolean), { frames := 0, cells := 0, slots := 0, locals := 0 })
abbrev mX11_lay : gm_M := (yX11_lay, cX11_lay, 10, (some .int), { frames := 3, cells := 0, slots := 0, locals := 71 })
abbrev mX11_ask : gm_M := (yX11_ask, cX11_ask, 5, none, { frames := 4, cells := 0, slots := 0, locals := 100 })
abbrev mX11_change : gm_M := (yX11_change, cX11_change, 3, (some .int), { frames := 5, cells := 0, slots := 0, locals := 124 })
abbrev mX11_mayCome : gm_M := (yX11_mayCome, cX11_mayCome, 3, (some .boolean), { frames := 0, cells := 0, slots := 0, locals := 0 })
abbrev mX11_findLeast : gm_M := (yX11_findLeast, cX11_findLeast, 7, none, { frames := 1, cells := 0, slots := 0, locals := 22 })
abbrev mX11_order : gm_M := (yX11_order, cX11_order, 9, (some .int), { frames := 5, cells := 0, slots := 0, locals := 124 })
abbrev mX11_ordered : gm_M := (yX11_ordered, cX11_ordered, 2, (some .int), { frames := 0, cells := 0, slots := 0, locals := 0 })
abbrev mX11_rehearse : gm_M := (yX11_rehearse, cX11_rehearse, 7, (some .int), { frames := 4, cells := 0, slots := 0, locals := 100 })
abbrev mX11_hall : gm_M := (yX11_hall, cX11_hall, 3, (some .int), { frames := 1, cells := 0, slots := 0, locals := 25 })
abbrev mX11_whole : gm_M := (yX11_whole, cX11_whole, 7, (some .int), { frames := 4, cells := 0, slots := 0, locals := 100 })
abbrev mX11_takenIn : gm_M := (yX11_takenIn, cX11_takenIn, 4, (some .int), { frames := 1, cells := 0, slots := 0, locals := 21 })
abbrev mX11_beds : gm_M := (yX11_beds, cX11_beds, 4, (some .int), { frames := 2, cells := 0, slots := 0, locals := 45 })
abbrev mX11_sleep : gm_M := (yX11_sleep, cX11_sleep, 4, (some .int), { frames := 2, cells := 0, slots := 0, locals := 45 })
abbrev mX11_bed : gm_M := (yX11_bed, cX11_bed, 8, (some .int), { frames := 2, cells := 0, slots := 0, locals := 44 })
abbrev mX11_length : gm_M := (yX11_length, cX11_length, 3, (some .int), { frames := 1, cells := 0, slots := 0, locals := 21 })
abbrev mX11_placeIn : gm_M := (yX11_placeIn, cX11_placeIn, 3, (some .int), { frames := 0, cells := 0, slots := 0, locals := 0 })
abbrev mX11_march : gm_M := (yX11_march, cX11_march, 2, (some .int), { frames := 2, cells := 0, slots := 0, locals := 43 })
abbrev mX11_leave : gm_M := (yX11_leave, cX11_leave, 4, (some .int), { frames := 2, cells := 0, slots := 0, locals := 43 })
abbrev mX11_gap : gm_M := (yX11_gap, cX11_gap, 3, (some .int), { frames := 1, cells := 0, slots := 0, locals := 25 })
abbrev mX11_count : gm_M := (yX11_count, cX11_count, 4, (some .int), { frames := 2, cells := 0, slots := 0, locals := 43 })
abbrev mJ6_bitCount_0f7a4 : gm_M := (yJ6_bitCount_0f7a4, cJ6_bitCount_0f7a4, 1, (some .int), { frames := 0, cells := 0, slots := 0, locals := 0 })
abbrev mJ9_floorDiv_7cf53 : gm_M := (yJ9_floorDiv_7cf53, cJ9_floorDiv_7cf53, 3, (some .int), { frames := 0, cells := 0, slots := 0, locals := 0 })
abbrev mJ9_max_7cf53 : gm_M := (yJ9_max_7cf53, cJ9_max_7cf53, 2, (some .int), { frames := 0, cells := 0, slots := 0, locals := 0 })
abbrev mJ9_min_7cf53 : gm_M := (yJ9_min_7cf53, cJ9_min_7cf53, 2, (some .int), { frames := 0, cells := 0, slots := 0, locals := 0 })
abbrev mJ0_length_8abf5 : gm_M := (yJ0_length_8abf5, cJ0_length_8abf5, 1, (some .int), { frames := 1, cells := 0, slots := 0, locals := 20 })
abbrev mJ0_charAt_5068e : gm_M := (yJ0_charAt_5068e, cJ0_charAt_5068e, 2, (some .char), { frames := 4, cells := 0, slots := 0, locals := 85 })
abbrev mJ0_coder_7d493 : gm_M := (yJ0_coder_7d493, cJ0_coder_7d493, 1, (some .byte), { frames := 0, cells := 0, slots := 0, locals := 0 })
abbrev mJ0_isLatin1_aae02 : gm_M := (yJ0_isLatin1_aae02, cJ0_isLatin1_aae02, 1, (some .boolean), { frames := 0, cells := 0, slots := 0, locals := 0 })
abbrev mJ0_checkIndex_df160 : gm_M := (yJ0_checkIndex_df160, cJ0_checkIndex_df160, 2, none, { frames := 1, cells := 0, slots := 0, locals := 22 })
abbrev mJ1_charAt_3b067 : gm_M := (yJ1_charAt_3b067, cJ1_charAt_3b067, 2, (some .char), { frames := 2, cells := 0, slots := 0, locals := 43 })
abbrev mJ2_getChar_3b067 : gm_M := (yJ2_getChar_3b067, cJ2_getChar_3b067, 2, (some .char), { frames := 1, cells := 0, slots := 0, locals := 20 })
abbrev mJ2_length_9d52b : gm_M := (yJ2_length_9d52b, cJ2_length_9d52b, 1, (some .int), { frames := 0, cells := 0, slots := 0, locals := 0 })
abbrev mJ2_charAt_3b067 : gm_M := (yJ2_charAt_3b067, cJ2_charAt_3b067, 2, (some .char), { frames := 3, cells := 0, slots := 0, locals := 64 })
abbrev mJ2_checkIndex_2214a : gm_M := (yJ2_checkIndex_2214a, cJ2_checkIndex_2214a, 2, none, { frames := 2, cells := 0, slots := 0, locals := 43 })
abbrev mJ7_fill_53178 : gm_M := (yJ7_fill_53178, cJ7_fill_53178, 4, none, { frames := 0, cells := 0, slots := 0, locals := 0 })
abbrev mJ3_checkIndex_8e157 : gm_M := (yJ3_checkIndex_8e157, cJ3_checkIndex_8e157, 3, (some .int), { frames := 0, cells := 0, slots := 0, locals := 0 })
abbrev mL_law : gm_M := (yL_law, cL_law, 4, (some .boolean), { frames := 13, cells := 600000, slots := 7302250, locals := 464 })
theorem tw_0 : lw_tbl[0]? = some (Cond.selects RX0 yX0_canJoin yX0_canJoin) := by decide +kernel
theorem tw_1 : lw_tbl[1]? = some (Cond.selects RX0 yX0_open yX0_open) := by decide +kernel
theorem tw_2 : lw_tbl[2]? = some (Cond.selects RX0 yX0_seat yX0_seat) := by decide +kernel
theorem tw_3 : lw_tbl[3]? = some (Cond.selects RX10 yX10_isThere yX10_isThere) := by decide +kernel
theorem tw_4 : lw_tbl[4]? = some (Cond.selects RX9 yX9_readVerb yX9_readVerb) := by decide +kernel
theorem tw_5 : lw_tbl[5]? = some (Cond.selects RX9 yX9_here yX9_here) := by decide +kernel
theorem tw_6 : lw_tbl[6]? = some (Cond.selects RX9 yX9_readWord yX9_readWord) := by decide +kernel
theorem tw_7 : lw_tbl[7]? = some (Cond.selects RX9 yX9_readKind yX9_readKind) := by decide +kernel
theorem tw_8 : lw_tbl[8]? = some (Cond.selects RX9 yX9_readTests yX9_readTests) := by decide +kernel
theorem tw_9 : lw_tbl[9]? = some (Cond.selects RX9 yX9_isAtEnd yX9_isAtEnd) := by decide +kernel
theorem tw_10 : lw_tbl[10]? = some (Cond.selects RX9 yX9_readTest yX9_readTest) := by decide +kernel
theorem tw_11 : lw_tbl[11]? = some (Cond.selects RX9 yX9_readField yX9_readField) := by decide +kernel
theorem tw_12 : lw_tbl[12]? = some (Cond.selects RX9 yX9_readSign yX9_readSign) := by decide +kernel
theorem tw_13 : lw_tbl[13]? = some (Cond.selects RX9 yX9_readNumber yX9_readNumber) := by decide +kernel
theorem tw_14 : lw_tbl[14]? = some (Cond.selects RX10 yX10_verdict yX10_verdict) := by decide +kernel
theorem tw_15 : lw_tbl[15]? = some (Cond.selects RX10 yX10_lastRuleThatHolds yX10_lastRuleThatHolds) := by decide +kernel
theorem tw_16 : lw_tbl[16]? = some (Cond.selects RX10 yX10_ruleHolds yX10_ruleHolds) := by decide +kernel
theorem tw_17 : lw_tbl[17]? = some (Cond.selects RX10 yX10_valueOf yX10_valueOf) := by decide +kernel
theorem tw_18 : lw_tbl[18]? = some (Cond.selects RX10 yX10_choirsThatMay yX10_choirsThatMay) := by decide +kernel
theorem tw_19 : lw_tbl[19]? = some (Cond.selects RX8 yX8_placesRight yX8_placesRight) := by decide +kernel
theorem tw_20 : lw_tbl[20]? = some (Cond.selects RX8 yX8_resetDoors yX8_resetDoors) := by decide +kernel
theorem tw_21 : lw_tbl[21]? = some (Cond.selects RX8 yX8_sendOff yX8_sendOff) := by decide +kernel
theorem tw_22 : lw_tbl[22]? = some (Cond.selects RX10 yX10_isSetOfChoirs yX10_isSetOfChoirs) := by decide +kernel
theorem tw_23 : lw_tbl[23]? = some (Cond.selects RX10 yX10_areReadyToBeLaid yX10_areReadyToBeLaid) := by decide +kernel
theorem tw_24 : lw_tbl[24]? = some (Cond.selects RX8 yX8_firstLine yX8_firstLine) := by decide +kernel
theorem tw_25 : lw_tbl[25]? = some (Cond.selects RX8 yX8_clearOfLine yX8_clearOfLine) := by decide +kernel
theorem tw_26 : lw_tbl[26]? = some (Cond.selects RX8 yX8_nextLine yX8_nextLine) := by decide +kernel
theorem tw_27 : lw_tbl[27]? = some (Cond.selects RX8 yX8_swapInLine yX8_swapInLine) := by decide +kernel
theorem tw_28 : lw_tbl[28]? = some (Cond.selects RX5 yX5_leastRest yX5_leastRest) := by decide +kernel
theorem tw_29 : lw_tbl[29]? = some (Cond.selects RX5 yX5_sumWith yX5_sumWith) := by decide +kernel
theorem tw_30 : lw_tbl[30]? = some (Cond.selects RX5 yX5_leastNext yX5_leastNext) := by decide +kernel
theorem tw_31 : lw_tbl[31]? = some (Cond.selects RX3 yX3_bedsFor yX3_bedsFor) := by decide +kernel
theorem tw_32 : lw_tbl[32]? = some (Cond.selects RX3 yX3_freeBeds yX3_freeBeds) := by decide +kernel
theorem tw_33 : lw_tbl[33]? = some (Cond.selects RX10 yX10_singersThere yX10_singersThere) := by decide +kernel
theorem tw_34 : lw_tbl[34]? = some (Cond.selects RX11 yX11_isChoir yX11_isChoir) := by decide +kernel
theorem tw_35 : lw_tbl[35]? = some (Cond.selects RX11 yX11_isJudge yX11_isJudge) := by decide +kernel
theorem tw_36 : lw_tbl[36]? = some (Cond.selects RX11 yX11_meanOf yX11_meanOf) := by decide +kernel
theorem tw_37 : lw_tbl[37]? = some (Cond.selects RX11 yX11_sizeOf yX11_sizeOf) := by decide +kernel
theorem tw_38 : lw_tbl[38]? = some (Cond.selects RX11 yX11_isThere yX11_isThere) := by decide +kernel
theorem tw_39 : lw_tbl[39]? = some (Cond.selects RX11 yX11_hasCome yX11_hasCome) := by decide +kernel
theorem tw_40 : lw_tbl[40]? = some (Cond.selects RX11 yX11_read yX11_read) := by decide +kernel
theorem tw_41 : lw_tbl[41]? = some (Cond.selects RX11 yX11_letter yX11_letter) := by decide +kernel
theorem tw_42 : lw_tbl[42]? = some (Cond.selects RX11 yX11_expect yX11_expect) := by decide +kernel
theorem tw_43 : lw_tbl[43]? = some (Cond.selects RX11 yX11_readTest yX11_readTest) := by decide +kernel
theorem tw_44 : lw_tbl[44]? = some (Cond.selects RX11 yX11_isSong yX11_isSong) := by decide +kernel
theorem tw_45 : lw_tbl[45]? = some (Cond.selects RX11 yX11_mayOf yX11_mayOf) := by decide +kernel
theorem tw_46 : lw_tbl[46]? = some (Cond.selects RX11 yX11_ruleFor yX11_ruleFor) := by decide +kernel
theorem tw_47 : lw_tbl[47]? = some (Cond.selects RX11 yX11_holds yX11_holds) := by decide +kernel
theorem tw_48 : lw_tbl[48]? = some (Cond.selects RX11 yX11_blocks yX11_blocks) := by decide +kernel
theorem tw_49 : lw_tbl[49]? = some (Cond.selects RX11 yX11_isFree yX11_isFree) := by decide +kernel
theorem tw_50 : lw_tbl[50]? = some (Cond.selects RX11 yX11_secondsOf yX11_secondsOf) := by decide +kernel
theorem tw_51 : lw_tbl[51]? = some (Cond.selects RX11 yX11_goesLeft yX11_goesLeft) := by decide +kernel
theorem tw_52 : lw_tbl[52]? = some (Cond.selects RX11 yX11_clearOf yX11_clearOf) := by decide +kernel
theorem tw_53 : lw_tbl[53]? = some (Cond.selects RX11 yX11_isNext yX11_isNext) := by decide +kernel
theorem tw_54 : lw_tbl[54]? = some (Cond.selects RX11 yX11_ask yX11_ask) := by decide +kernel
theorem tw_55 : lw_tbl[55]? = some (Cond.selects RX11 yX11_findLeast yX11_findLeast) := by decide +kernel
theorem tw_56 : lw_tbl[56]? = some (Cond.selects RX11 yX11_mayCome yX11_mayCome) := by decide +kernel
theorem tw_57 : lw_tbl[57]? = some (Cond.selects RX11 yX11_takenIn yX11_takenIn) := by decide +kernel
theorem tw_58 : lw_tbl[58]? = some (Cond.selects RX11 yX11_placeIn yX11_placeIn) := by decide +kernel
theorem tw_59 : lw_tbl[59]? = some (Cond.selects RX11 yX11_length yX11_length) := by decide +kernel
theorem tw_61 : lw_tbl[61]? = some (Cond.initialized RX10) := by decide +kernel
theorem tw_62 : lw_tbl[62]? = some (Cond.initialized RX0) := by decide +kernel
theorem tw_63 : lw_tbl[63]? = some (Cond.initialized RX7) := by decide +kernel
theorem tw_64 : lw_tbl[64]? = some (Cond.initialized RX2) := by decide +kernel
theorem tw_65 : lw_tbl[65]? = some (Cond.initialized RJ7) := by decide +kernel
theorem tw_66 : lw_tbl[66]? = some (Cond.initialized RX9) := by decide +kernel
theorem tw_67 : lw_tbl[67]? = some (Cond.initialized RX6) := by decide +kernel
theorem tw_68 : lw_tbl[68]? = some (Cond.initialized RX8) := by decide +kernel
theorem tw_69 : lw_tbl[69]? = some (Cond.initialized RX5) := by decide +kernel
theorem tw_70 : lw_tbl[70]? = some (Cond.initialized RX1) := by decide +kernel
theorem tw_71 : lw_tbl[71]? = some (Cond.initialized RX3) := by decide +kernel
theorem tw_72 : lw_tbl[72]? = some (Cond.initialized RX4) := by decide +kernel
theorem tw_73 : lw_tbl[73]? = some (Cond.initialized RX11) := by decide +kernel
theorem tw_74 : lw_tbl[74]? = some (Cond.initialized RJ9) := by decide +kernel
theorem tw_75 : lw_tbl[75]? = some (Cond.initialized RJ0) := by decide +kernel
theorem tw_79 : lw_tbl[79]? = some (Cond.initialized RJ6) := by decide +kernel
theorem tw_81 : lw_tbl[81]? = some (Cond.classLink RL 7 RX10) := by decide +kernel
theorem tw_82 : lw_tbl[82]? = some (Cond.instantiable RX10 11) := by decide +kernel
theorem tw_83 : lw_tbl[83]? = some (Cond.methodLink RL 9 yX10_init) := by decide +kernel
theorem tw_84 : lw_tbl[84]? = some (Cond.instanceMethod yX10_init) := by decide +kernel
theorem tw_85 : lw_tbl[85]? = some (Cond.code yX10_init prog_1_method_1_code 1 none) := by decide +kernel
theorem tw_86 : lw_tbl[86]? = some (Cond.methodLink RX10 1 objectInit) := by decide +kernel
theorem tw_89 : lw_tbl[89]? = some (Cond.classLink RX10 7 RX0) := by decide +kernel
theorem tw_90 : lw_tbl[90]? = some (Cond.instantiable RX0 8) := by decide +kernel
theorem tw_91 : lw_tbl[91]? = some (Cond.methodLinkNest RX10 9 yX0_init RX10) := by decide +kernel
theorem tw_92 : lw_tbl[92]? = some (Cond.instanceMethod yX0_init) := by decide +kernel
theorem tw_93 : lw_tbl[93]? = some (Cond.code yX0_init prog_2_method_1_code 1 none) := by decide +kernel
theorem tw_94 : lw_tbl[94]? = some (Cond.methodLink RX0 3 objectInit) := by decide +kernel
theorem tw_95 : lw_tbl[95]? = some (Cond.fieldLink RX0 9 RX0 "number" "I") := by decide +kernel
theorem tw_96 : lw_tbl[96]? = some (Cond.fieldLink RX3 28 RX0 "number" "I") := by decide +kernel
theorem tw_97 : lw_tbl[97]? = some (Cond.fieldLink RX10 96 RX0 "number" "I") := by decide +kernel
theorem tw_98 : lw_tbl[98]? = some (Cond.fieldLink RX8 47 RX0 "number" "I") := by decide +kernel
theorem tw_99 : lw_tbl[99]? = some (Cond.fieldLink RX4 26 RX0 "number" "I") := by decide +kernel
theorem tw_100 : lw_tbl[100]? = some (Cond.fieldLink RX0 15 RX0 "kind" "[I") := by decide +kernel
theorem tw_101 : lw_tbl[101]? = some (Cond.fieldLink RX10 142 RX0 "kind" "[I") := by decide +kernel
theorem tw_102 : lw_tbl[102]? = some (Cond.fieldLink RX0 19 RX0 "town" "[I") := by decide +kernel
theorem tw_103 : lw_tbl[103]? = some (Cond.fieldLink RX3 44 RX0 "town" "[I") := by decide +kernel
theorem tw_104 : lw_tbl[104]? = some (Cond.fieldLink RX10 132 RX0 "town" "[I") := by decide +kernel
theorem tw_105 : lw_tbl[105]? = some (Cond.fieldLink RX0 22 RX0 "firstDay" "[I") := by decide +kernel
theorem tw_106 : lw_tbl[106]? = some (Cond.fieldLink RX10 331 RX0 "firstDay" "[I") := by decide +kernel
theorem tw_107 : lw_tbl[107]? = some (Cond.fieldLink RX0 25 RX0 "singers" "[I") := by decide +kernel
theorem tw_108 : lw_tbl[108]? = some (Cond.fieldLink RX10 166 RX0 "singers" "[I") := by decide +kernel
theorem tw_109 : lw_tbl[109]? = some (Cond.fieldLink RX0 28 RX0 "size" "[I") := by decide +kernel
theorem tw_110 : lw_tbl[110]? = some (Cond.fieldLink RX3 34 RX0 "size" "[I") := by decide +kernel
theorem tw_111 : lw_tbl[111]? = some (Cond.fieldLink RX4 35 RX0 "size" "[I") := by decide +kernel
theorem tw_112 : lw_tbl[112]? = some (Cond.fieldLink RX8 60 RX0 "size" "[I") := by decide +kernel
theorem tw_113 : lw_tbl[113]? = some (Cond.fieldLink RX10 145 RX0 "size" "[I") := by decide +kernel
theorem tw_114 : lw_tbl[114]? = some (Cond.fieldLink RX0 31 RX0 "height" "[I") := by decide +kernel
theorem tw_115 : lw_tbl[115]? = some (Cond.fieldLink RX8 63 RX0 "height" "[I") := by decide +kernel
theorem tw_116 : lw_tbl[116]? = some (Cond.fieldLink RX10 151 RX0 "height" "[I") := by decide +kernel
theorem tw_117 : lw_tbl[117]? = some (Cond.fieldLink RX0 34 RX0 "conductor" "[I") := by decide +kernel
theorem tw_118 : lw_tbl[118]? = some (Cond.fieldLink RX10 163 RX0 "conductor" "[I") := by decide +kernel
theorem tw_136 : lw_tbl[136]? = some (Cond.arrayClass .int) := by decide +kernel
theorem tw_137 : lw_tbl[137]? = some (Cond.classLink RX10 16 RX7) := by decide +kernel
theorem tw_138 : lw_tbl[138]? = some (Cond.instantiable RX7 5) := by decide +kernel
theorem tw_139 : lw_tbl[139]? = some (Cond.methodLinkNest RX10 18 yX7_init RX10) := by decide +kernel
theorem tw_140 : lw_tbl[140]? = some (Cond.instanceMethod yX7_init) := by decide +kernel
theorem tw_141 : lw_tbl[141]? = some (Cond.code yX7_init prog_9_method_1_code 1 none) := by decide +kernel
theorem tw_142 : lw_tbl[142]? = some (Cond.methodLink RX7 3 objectInit) := by decide +kernel
theorem tw_143 : lw_tbl[143]? = some (Cond.fieldLink RX7 9 RX7 "number" "I") := by decide +kernel
theorem tw_144 : lw_tbl[144]? = some (Cond.fieldLink RX10 117 RX7 "number" "I") := by decide +kernel
theorem tw_145 : lw_tbl[145]? = some (Cond.fieldLink RX7 15 RX7 "kinds" "[I") := by decide +kernel
theorem tw_146 : lw_tbl[146]? = some (Cond.fieldLink RX10 334 RX7 "kinds" "[I") := by decide +kernel
theorem tw_147 : lw_tbl[147]? = some (Cond.fieldLink RX7 19 RX7 "voices" "[I") := by decide +kernel
theorem tw_148 : lw_tbl[148]? = some (Cond.fieldLink RX10 337 RX7 "voices" "[I") := by decide +kernel
theorem tw_149 : lw_tbl[149]? = some (Cond.fieldLink RX7 22 RX7 "hardness" "[I") := by decide +kernel
theorem tw_150 : lw_tbl[150]? = some (Cond.fieldLink RX10 368 RX7 "hardness" "[I") := by decide +kernel
theorem tw_151 : lw_tbl[151]? = some (Cond.fieldLink RX7 25 RX7 "rehearsedBy" "[I") := by decide +kernel
theorem tw_152 : lw_tbl[152]? = some (Cond.fieldLink RX10 293 RX7 "rehearsedBy" "[I") := by decide +kernel
theorem tw_164 : lw_tbl[164]? = some (Cond.classLink RX10 23 RX2) := by decide +kernel
theorem tw_165 : lw_tbl[165]? = some (Cond.instantiable RX2 3) := by decide +kernel
theorem tw_166 : lw_tbl[166]? = some (Cond.methodLink RX10 25 yX2_init) := by decide +kernel
theorem tw_167 : lw_tbl[167]? = some (Cond.instanceMethod yX2_init) := by decide +kernel
theorem tw_168 : lw_tbl[168]? = some (Cond.code yX2_init prog_4_method_1_code 1 none) := by decide +kernel
theorem tw_169 : lw_tbl[169]? = some (Cond.methodLink RX2 3 objectInit) := by decide +kernel
theorem tw_170 : lw_tbl[170]? = some (Cond.methodLink RX2 22 yJ7_fill_53178) := by decide +kernel
theorem tw_171 : lw_tbl[171]? = some (Cond.static yJ7_fill_53178) := by decide +kernel
theorem tw_172 : lw_tbl[172]? = some (Cond.code yJ7_fill_53178 prog_20_method_103_code 4 none) := by decide +kernel
theorem tw_173 : lw_tbl[173]? = some (Cond.fieldLink RX2 9 RX2 "number" "I") := by decide +kernel
theorem tw_174 : lw_tbl[174]? = some (Cond.fieldLink RX10 121 RX2 "number" "I") := by decide +kernel
theorem tw_175 : lw_tbl[175]? = some (Cond.fieldLink RX2 15 RX2 "town" "[I") := by decide +kernel
theorem tw_176 : lw_tbl[176]? = some (Cond.fieldLink RX10 128 RX2 "town" "[I") := by decide +kernel
theorem tw_177 : lw_tbl[177]? = some (Cond.fieldLink RX2 19 RX2 "marks" "[I") := by decide +kernel
theorem tw_185 : lw_tbl[185]? = some (Cond.classLink RX10 30 RX9) := by decide +kernel
theorem tw_186 : lw_tbl[186]? = some (Cond.instantiable RX9 9) := by decide +kernel
theorem tw_187 : lw_tbl[187]? = some (Cond.methodLinkNest RX10 32 yX9_init RX10) := by decide +kernel
theorem tw_188 : lw_tbl[188]? = some (Cond.instanceMethod yX9_init) := by decide +kernel
theorem tw_189 : lw_tbl[189]? = some (Cond.code yX9_init prog_11_method_1_code 1 none) := by decide +kernel
theorem tw_190 : lw_tbl[190]? = some (Cond.methodLink RX9 3 objectInit) := by decide +kernel
theorem tw_191 : lw_tbl[191]? = some (Cond.fieldLink RX9 9 RX9 "length" "I") := by decide +kernel
theorem tw_192 : lw_tbl[192]? = some (Cond.fieldLink RX10 169 RX9 "length" "I") := by decide +kernel
theorem tw_193 : lw_tbl[193]? = some (Cond.fieldLink RX9 15 RX9 "at" "I") := by decide +kernel
theorem tw_194 : lw_tbl[194]? = some (Cond.fieldLink RX10 184 RX9 "at" "I") := by decide +kernel
theorem tw_195 : lw_tbl[195]? = some (Cond.fieldLink RX9 18 RX9 "bars" "Z") := by decide +kernel
theorem tw_196 : lw_tbl[196]? = some (Cond.fieldLink RX6 35 RX9 "bars" "Z") := by decide +kernel
theorem tw_197 : lw_tbl[197]? = some (Cond.fieldLink RX9 22 RX9 "kind" "I") := by decide +kernel
theorem tw_198 : lw_tbl[198]? = some (Cond.fieldLink RX6 40 RX9 "kind" "I") := by decide +kernel
theorem tw_199 : lw_tbl[199]? = some (Cond.fieldLink RX9 25 RX9 "tests" "I") := by decide +kernel
theorem tw_200 : lw_tbl[200]? = some (Cond.fieldLink RX6 42 RX9 "tests" "I") := by decide +kernel
theorem tw_201 : lw_tbl[201]? = some (Cond.fieldLink RX9 28 RX9 "bytes" "[I") := by decide +kernel
theorem tw_202 : lw_tbl[202]? = some (Cond.fieldLink RX9 32 RX9 "fields" "[I") := by decide +kernel
theorem tw_203 : lw_tbl[203]? = some (Cond.fieldLink RX6 44 RX9 "fields" "[I") := by decide +kernel
theorem tw_204 : lw_tbl[204]? = some (Cond.fieldLink RX9 35 RX9 "signs" "[I") := by decide +kernel
theorem tw_205 : lw_tbl[205]? = some (Cond.fieldLink RX6 45 RX9 "signs" "[I") := by decide +kernel
theorem tw_206 : lw_tbl[206]? = some (Cond.fieldLink RX9 38 RX9 "numbers" "[I") := by decide +kernel
theorem tw_207 : lw_tbl[207]? = some (Cond.fieldLink RX6 46 RX9 "numbers" "[I") := by decide +kernel
theorem tw_227 : lw_tbl[227]? = some (Cond.classLink RX10 37 RX6) := by decide +kernel
theorem tw_228 : lw_tbl[228]? = some (Cond.instantiable RX6 7) := by decide +kernel
theorem tw_229 : lw_tbl[229]? = some (Cond.methodLinkNest RX10 39 yX6_init RX10) := by decide +kernel
theorem tw_230 : lw_tbl[230]? = some (Cond.instanceMethod yX6_init) := by decide +kernel
theorem tw_231 : lw_tbl[231]? = some (Cond.code yX6_init prog_8_method_1_code 1 none) := by decide +kernel
theorem tw_232 : lw_tbl[232]? = some (Cond.methodLink RX6 3 objectInit) := by decide +kernel
theorem tw_233 : lw_tbl[233]? = some (Cond.fieldLink RX6 9 RX6 "number" "I") := by decide +kernel
theorem tw_234 : lw_tbl[234]? = some (Cond.fieldLink RX10 176 RX6 "number" "I") := by decide +kernel
theorem tw_235 : lw_tbl[235]? = some (Cond.fieldLink RX6 15 RX6 "bars" "[Z") := by decide +kernel
theorem tw_236 : lw_tbl[236]? = some (Cond.fieldLink RX10 343 RX6 "bars" "[Z") := by decide +kernel
theorem tw_237 : lw_tbl[237]? = some (Cond.fieldLink RX6 19 RX6 "kind" "[I") := by decide +kernel
theorem tw_238 : lw_tbl[238]? = some (Cond.fieldLink RX10 350 RX6 "kind" "[I") := by decide +kernel
theorem tw_239 : lw_tbl[239]? = some (Cond.fieldLink RX6 23 RX6 "tests" "[I") := by decide +kernel
theorem tw_240 : lw_tbl[240]? = some (Cond.fieldLink RX10 351 RX6 "tests" "[I") := by decide +kernel
theorem tw_241 : lw_tbl[241]? = some (Cond.fieldLink RX6 26 RX6 "fields" "[I") := by decide +kernel
theorem tw_242 : lw_tbl[242]? = some (Cond.fieldLink RX6 29 RX6 "signs" "[I") := by decide +kernel
theorem tw_243 : lw_tbl[243]? = some (Cond.fieldLink RX6 32 RX6 "numbers" "[I") := by decide +kernel
theorem tw_259 : lw_tbl[259]? = some (Cond.arrayClass .boolean) := by decide +kernel
theorem tw_260 : lw_tbl[260]? = some (Cond.classLink RX10 44 RX8) := by decide +kernel
theorem tw_261 : lw_tbl[261]? = some (Cond.instantiable RX8 9) := by decide +kernel
theorem tw_262 : lw_tbl[262]? = some (Cond.methodLink RX10 46 yX8_init) := by decide +kernel
theorem tw_263 : lw_tbl[263]? = some (Cond.instanceMethod yX8_init) := by decide +kernel
theorem tw_264 : lw_tbl[264]? = some (Cond.code yX8_init prog_10_method_1_code 2 none) := by decide +kernel
theorem tw_265 : lw_tbl[265]? = some (Cond.methodLink RX8 3 objectInit) := by decide +kernel
theorem tw_266 : lw_tbl[266]? = some (Cond.methodLink RX8 41 yJ7_fill_53178) := by decide +kernel
theorem tw_267 : lw_tbl[267]? = some (Cond.fieldLink RX8 9 RX8 "rows" "I") := by decide +kernel
theorem tw_268 : lw_tbl[268]? = some (Cond.fieldLink RX10 204 RX8 "rows" "I") := by decide +kernel
theorem tw_269 : lw_tbl[269]? = some (Cond.fieldLink RX8 15 RX8 "width" "I") := by decide +kernel
theorem tw_270 : lw_tbl[270]? = some (Cond.fieldLink RX10 207 RX8 "width" "I") := by decide +kernel
theorem tw_271 : lw_tbl[271]? = some (Cond.fieldLink RX8 18 RX8 "rowOf" "[I") := by decide +kernel
theorem tw_272 : lw_tbl[272]? = some (Cond.fieldLink RX10 157 RX8 "rowOf" "[I") := by decide +kernel
theorem tw_273 : lw_tbl[273]? = some (Cond.fieldLink RX8 22 RX8 "placeOf" "[I") := by decide +kernel
theorem tw_274 : lw_tbl[274]? = some (Cond.fieldLink RX10 160 RX8 "placeOf" "[I") := by decide +kernel
theorem tw_275 : lw_tbl[275]? = some (Cond.fieldLink RX8 37 RX8 "choirs" "LSongField$Choirs;") := by decide +kernel
theorem tw_276 : lw_tbl[276]? = some (Cond.fieldLink RX8 25 RX8 "line" "[I") := by decide +kernel
theorem tw_277 : lw_tbl[277]? = some (Cond.fieldLink RX8 28 RX8 "bestLine" "[I") := by decide +kernel
theorem tw_278 : lw_tbl[278]? = some (Cond.fieldLink RX8 31 RX8 "leftSum" "I") := by decide +kernel
theorem tw_279 : lw_tbl[279]? = some (Cond.fieldLink RX8 34 RX8 "rightSum" "I") := by decide +kernel
theorem tw_299 : lw_tbl[299]? = some (Cond.classLink RX10 53 RX5) := by decide +kernel
theorem tw_300 : lw_tbl[300]? = some (Cond.instantiable RX5 7) := by decide +kernel
theorem tw_301 : lw_tbl[301]? = some (Cond.methodLinkNest RX10 55 yX5_init RX10) := by decide +kernel
theorem tw_302 : lw_tbl[302]? = some (Cond.instanceMethod yX5_init) := by decide +kernel
theorem tw_303 : lw_tbl[303]? = some (Cond.code yX5_init prog_7_method_1_code 1 none) := by decide +kernel
theorem tw_304 : lw_tbl[304]? = some (Cond.methodLink RX5 3 objectInit) := by decide +kernel
theorem tw_305 : lw_tbl[305]? = some (Cond.fieldLink RX5 9 RX5 "keptLength" "I") := by decide +kernel
theorem tw_306 : lw_tbl[306]? = some (Cond.fieldLink RX10 275 RX5 "keptLength" "I") := by decide +kernel
theorem tw_307 : lw_tbl[307]? = some (Cond.fieldLink RX5 15 RX5 "kept" "[I") := by decide +kernel
theorem tw_308 : lw_tbl[308]? = some (Cond.fieldLink RX10 278 RX5 "kept" "[I") := by decide +kernel
theorem tw_309 : lw_tbl[309]? = some (Cond.fieldLink RX5 19 RX5 "n" "I") := by decide +kernel
theorem tw_310 : lw_tbl[310]? = some (Cond.fieldLink RX5 22 RX5 "item" "[I") := by decide +kernel
theorem tw_311 : lw_tbl[311]? = some (Cond.fieldLink RX5 25 RX5 "singing" "[I") := by decide +kernel
theorem tw_312 : lw_tbl[312]? = some (Cond.fieldLink RX5 28 RX5 "cost" "[I") := by decide +kernel
theorem tw_313 : lw_tbl[313]? = some (Cond.fieldLink RX5 31 RX5 "rest" "[I") := by decide +kernel
theorem tw_329 : lw_tbl[329]? = some (Cond.classLink RX10 60 RX1) := by decide +kernel
theorem tw_330 : lw_tbl[330]? = some (Cond.instantiable RX1 2) := by decide +kernel
theorem tw_331 : lw_tbl[331]? = some (Cond.methodLink RX10 62 yX1_init) := by decide +kernel
theorem tw_332 : lw_tbl[332]? = some (Cond.instanceMethod yX1_init) := by decide +kernel
theorem tw_333 : lw_tbl[333]? = some (Cond.code yX1_init prog_3_method_1_code 1 none) := by decide +kernel
theorem tw_334 : lw_tbl[334]? = some (Cond.methodLink RX1 3 objectInit) := by decide +kernel
theorem tw_335 : lw_tbl[335]? = some (Cond.methodLink RX1 18 yJ7_fill_53178) := by decide +kernel
theorem tw_336 : lw_tbl[336]? = some (Cond.fieldLink RX1 9 RX1 "songAt" "[I") := by decide +kernel
theorem tw_337 : lw_tbl[337]? = some (Cond.fieldLink RX1 15 RX1 "choirsAt" "[I") := by decide +kernel
theorem tw_343 : lw_tbl[343]? = some (Cond.classLink RX10 67 RX3) := by decide +kernel
theorem tw_344 : lw_tbl[344]? = some (Cond.instantiable RX3 3) := by decide +kernel
theorem tw_345 : lw_tbl[345]? = some (Cond.methodLink RX10 69 yX3_init) := by decide +kernel
theorem tw_346 : lw_tbl[346]? = some (Cond.instanceMethod yX3_init) := by decide +kernel
theorem tw_347 : lw_tbl[347]? = some (Cond.code yX3_init prog_5_method_1_code 2 none) := by decide +kernel
theorem tw_348 : lw_tbl[348]? = some (Cond.methodLink RX3 3 objectInit) := by decide +kernel
theorem tw_349 : lw_tbl[349]? = some (Cond.methodLink RX3 22 yJ7_fill_53178) := by decide +kernel
theorem tw_350 : lw_tbl[350]? = some (Cond.fieldLink RX3 9 RX3 "bedsOf" "[I") := by decide +kernel
theorem tw_351 : lw_tbl[351]? = some (Cond.fieldLink RX10 302 RX3 "bedsOf" "[I") := by decide +kernel
theorem tw_352 : lw_tbl[352]? = some (Cond.fieldLink RX3 15 RX3 "townOf" "[I") := by decide +kernel
theorem tw_353 : lw_tbl[353]? = some (Cond.fieldLink RX10 154 RX3 "townOf" "[I") := by decide +kernel
theorem tw_354 : lw_tbl[354]? = some (Cond.fieldLink RX3 18 RX3 "choirs" "LSongField$Choirs;") := by decide +kernel
theorem tw_362 : lw_tbl[362]? = some (Cond.classLink RX10 74 RX4) := by decide +kernel
theorem tw_363 : lw_tbl[363]? = some (Cond.instantiable RX4 3) := by decide +kernel
theorem tw_364 : lw_tbl[364]? = some (Cond.methodLink RX10 76 yX4_init) := by decide +kernel
theorem tw_365 : lw_tbl[365]? = some (Cond.instanceMethod yX4_init) := by decide +kernel
theorem tw_366 : lw_tbl[366]? = some (Cond.code yX4_init prog_6_method_1_code 2 none) := by decide +kernel
theorem tw_367 : lw_tbl[367]? = some (Cond.methodLink RX4 1 objectInit) := by decide +kernel
theorem tw_368 : lw_tbl[368]? = some (Cond.fieldLink RX4 7 RX4 "space" "I") := by decide +kernel
theorem tw_369 : lw_tbl[369]? = some (Cond.fieldLink RX10 320 RX4 "space" "I") := by decide +kernel
theorem tw_370 : lw_tbl[370]? = some (Cond.fieldLink RX4 13 RX4 "set" "I") := by decide +kernel
theorem tw_371 : lw_tbl[371]? = some (Cond.fieldLink RX4 16 RX4 "choirs" "LSongField$Choirs;") := by decide +kernel
theorem tw_379 : lw_tbl[379]? = some (Cond.fieldLink RX10 10 RX10 "choirs" "LSongField$Choirs;") := by decide +kernel
theorem tw_380 : lw_tbl[380]? = some (Cond.fieldLink RX10 19 RX10 "songs" "LSongField$Songs;") := by decide +kernel
theorem tw_381 : lw_tbl[381]? = some (Cond.fieldLink RX10 26 RX10 "judges" "LSongField$Judges;") := by decide +kernel
theorem tw_382 : lw_tbl[382]? = some (Cond.fieldLink RX10 33 RX10 "tape" "LSongField$Tape;") := by decide +kernel
theorem tw_383 : lw_tbl[383]? = some (Cond.fieldLink RX10 40 RX10 "rules" "LSongField$Rules;") := by decide +kernel
theorem tw_384 : lw_tbl[384]? = some (Cond.fieldLink RX10 49 RX10 "theStage" "LSongField$Stage;") := by decide +kernel
theorem tw_385 : lw_tbl[385]? = some (Cond.fieldLink RX10 56 RX10 "program" "LSongField$Program;") := by decide +kernel
theorem tw_386 : lw_tbl[386]? = some (Cond.fieldLink RX10 63 RX10 "halls" "LSongField$Halls;") := by decide +kernel
theorem tw_387 : lw_tbl[387]? = some (Cond.fieldLink RX10 70 RX10 "lodging" "LSongField$Lodging;") := by decide +kernel
theorem tw_388 : lw_tbl[388]? = some (Cond.fieldLink RX10 77 RX10 "theMarch" "LSongField$March;") := by decide +kernel
theorem tw_389 : lw_tbl[389]? = some (Cond.fieldLink RX10 81 RX10 "today" "I") := by decide +kernel
theorem tw_413 : lw_tbl[413]? = some (Cond.methodLink RL 13 yX10_choir) := by decide +kernel
theorem tw_414 : lw_tbl[414]? = some (Cond.instanceMethod yX10_choir) := by decide +kernel
theorem tw_415 : lw_tbl[415]? = some (Cond.selects RX10 yX10_choir yX10_choir) := by decide +kernel
theorem tw_416 : lw_tbl[416]? = some (Cond.code yX10_choir prog_1_method_2_code 5 (some .int)) := by decide +kernel
theorem tw_417 : lw_tbl[417]? = some (Cond.methodLink RX10 85 yX10_isTown) := by decide +kernel
theorem tw_418 : lw_tbl[418]? = some (Cond.static yX10_isTown) := by decide +kernel
theorem tw_419 : lw_tbl[419]? = some (Cond.code yX10_isTown prog_1_method_38_code 1 (some .boolean)) := by decide +kernel
theorem tw_420 : lw_tbl[420]? = some (Cond.methodLink RX10 89 yX0_hasParts) := by decide +kernel
theorem tw_421 : lw_tbl[421]? = some (Cond.instanceMethod yX0_hasParts) := by decide +kernel
theorem tw_422 : lw_tbl[422]? = some (Cond.selects RX0 yX0_hasParts yX0_hasParts) := by decide +kernel
theorem tw_423 : lw_tbl[423]? = some (Cond.code yX0_hasParts prog_2_method_4_code 2 (some .boolean)) := by decide +kernel
theorem tw_424 : lw_tbl[424]? = some (Cond.methodLinkNest RX0 37 yX10_firstPart RX10) := by decide +kernel
theorem tw_425 : lw_tbl[425]? = some (Cond.static yX10_firstPart) := by decide +kernel
theorem tw_426 : lw_tbl[426]? = some (Cond.code yX10_firstPart prog_1_method_39_code 1 (some .int)) := by decide +kernel
theorem tw_427 : lw_tbl[427]? = some (Cond.methodLink RX0 41 yX0_has) := by decide +kernel
theorem tw_428 : lw_tbl[428]? = some (Cond.instanceMethod yX0_has) := by decide +kernel
theorem tw_429 : lw_tbl[429]? = some (Cond.selects RX0 yX0_has yX0_has) := by decide +kernel
theorem tw_430 : lw_tbl[430]? = some (Cond.code yX0_has prog_2_method_2_code 2 (some .boolean)) := by decide +kernel
theorem tw_431 : lw_tbl[431]? = some (Cond.methodLinkNest RX0 45 yX10_secondPart RX10) := by decide +kernel
theorem tw_432 : lw_tbl[432]? = some (Cond.static yX10_secondPart) := by decide +kernel
theorem tw_433 : lw_tbl[433]? = some (Cond.code yX10_secondPart prog_1_method_40_code 1 (some .int)) := by decide +kernel
theorem tw_434 : lw_tbl[434]? = some (Cond.methodLink RX10 92 yX0_isAsTold) := by decide +kernel
theorem tw_435 : lw_tbl[435]? = some (Cond.instanceMethod yX0_isAsTold) := by decide +kernel
theorem tw_436 : lw_tbl[436]? = some (Cond.selects RX0 yX0_isAsTold yX0_isAsTold) := by decide +kernel
theorem tw_437 : lw_tbl[437]? = some (Cond.code yX0_isAsTold prog_2_method_5_code 5 (some .boolean)) := by decide +kernel
theorem tw_438 : lw_tbl[438]? = some (Cond.methodLink RX0 48 yX0_canJoin) := by decide +kernel
theorem tw_440 : lw_tbl[440]? = some (Cond.instanceMethod yX0_canJoin) := by decide +kernel
theorem tw_441 : lw_tbl[441]? = some (Cond.code yX0_canJoin prog_2_method_6_code 3 (some .boolean)) := by decide +kernel
theorem tw_442 : lw_tbl[442]? = some (Cond.methodLinkNest RX0 52 yX10_isWithin RX10) := by decide +kernel
theorem tw_443 : lw_tbl[443]? = some (Cond.static yX10_isWithin) := by decide +kernel
theorem tw_444 : lw_tbl[444]? = some (Cond.code yX10_isWithin prog_1_method_37_code 3 (some .boolean)) := by decide +kernel
theorem tw_445 : lw_tbl[445]? = some (Cond.constant RX0 56 99999999) := by decide +kernel
theorem tw_446 : lw_tbl[446]? = some (Cond.methodLink RX10 99 yX10_firstPart) := by decide +kernel
theorem tw_447 : lw_tbl[447]? = some (Cond.methodLink RX10 103 yX10_secondPart) := by decide +kernel
theorem tw_448 : lw_tbl[448]? = some (Cond.methodLink RX10 106 yX0_join) := by decide +kernel
theorem tw_449 : lw_tbl[449]? = some (Cond.instanceMethod yX0_join) := by decide +kernel
theorem tw_450 : lw_tbl[450]? = some (Cond.selects RX0 yX0_join yX0_join) := by decide +kernel
theorem tw_451 : lw_tbl[451]? = some (Cond.code yX0_join prog_2_method_8_code 5 (some .int)) := by decide +kernel
theorem tw_452 : lw_tbl[452]? = some (Cond.methodLink RX0 65 yJ9_max_7cf53) := by decide +kernel
theorem tw_453 : lw_tbl[453]? = some (Cond.static yJ9_max_7cf53) := by decide +kernel
theorem tw_454 : lw_tbl[454]? = some (Cond.code yJ9_max_7cf53 prog_15_method_65_code 2 (some .int)) := by decide +kernel
theorem tw_455 : lw_tbl[455]? = some (Cond.methodLink RX0 57 yX0_open) := by decide +kernel
theorem tw_457 : lw_tbl[457]? = some (Cond.instanceMethod yX0_open) := by decide +kernel
theorem tw_458 : lw_tbl[458]? = some (Cond.code yX0_open prog_2_method_9_code 5 (some .int)) := by decide +kernel
theorem tw_459 : lw_tbl[459]? = some (Cond.methodLink RX0 61 yX0_seat) := by decide +kernel
theorem tw_461 : lw_tbl[461]? = some (Cond.instanceMethod yX0_seat) := by decide +kernel
theorem tw_462 : lw_tbl[462]? = some (Cond.code yX0_seat prog_2_method_10_code 4 none) := by decide +kernel
theorem tw_463 : lw_tbl[463]? = some (Cond.methodLink RX10 110 yX0_add) := by decide +kernel
theorem tw_464 : lw_tbl[464]? = some (Cond.instanceMethod yX0_add) := by decide +kernel
theorem tw_465 : lw_tbl[465]? = some (Cond.selects RX0 yX0_add yX0_add) := by decide +kernel
theorem tw_466 : lw_tbl[466]? = some (Cond.code yX0_add prog_2_method_7_code 8 (some .int)) := by decide +kernel
theorem tw_467 : lw_tbl[467]? = some (Cond.methodLink RL 18 yX10_day) := by decide +kernel
theorem tw_468 : lw_tbl[468]? = some (Cond.instanceMethod yX10_day) := by decide +kernel
theorem tw_469 : lw_tbl[469]? = some (Cond.selects RX10 yX10_day yX10_day) := by decide +kernel
theorem tw_470 : lw_tbl[470]? = some (Cond.code yX10_day prog_1_method_3_code 3 (some .int)) := by decide +kernel
theorem tw_471 : lw_tbl[471]? = some (Cond.methodLink RL 23 yX10_song) := by decide +kernel
theorem tw_472 : lw_tbl[472]? = some (Cond.instanceMethod yX10_song) := by decide +kernel
theorem tw_473 : lw_tbl[473]? = some (Cond.selects RX10 yX10_song yX10_song) := by decide +kernel
theorem tw_474 : lw_tbl[474]? = some (Cond.code yX10_song prog_1_method_4_code 5 (some .int)) := by decide +kernel
theorem tw_475 : lw_tbl[475]? = some (Cond.methodLink RX10 114 yX10_isWithin) := by decide +kernel
theorem tw_476 : lw_tbl[476]? = some (Cond.methodLink RX10 118 yX7_add) := by decide +kernel
theorem tw_477 : lw_tbl[477]? = some (Cond.instanceMethod yX7_add) := by decide +kernel
theorem tw_478 : lw_tbl[478]? = some (Cond.selects RX7 yX7_add yX7_add) := by decide +kernel
theorem tw_479 : lw_tbl[479]? = some (Cond.code yX7_add prog_9_method_4_code 5 (some .int)) := by decide +kernel
theorem tw_480 : lw_tbl[480]? = some (Cond.methodLink RL 27 yX10_judge) := by decide +kernel
theorem tw_481 : lw_tbl[481]? = some (Cond.instanceMethod yX10_judge) := by decide +kernel
theorem tw_482 : lw_tbl[482]? = some (Cond.selects RX10 yX10_judge yX10_judge) := by decide +kernel
theorem tw_483 : lw_tbl[483]? = some (Cond.code yX10_judge prog_1_method_5_code 2 (some .int)) := by decide +kernel
theorem tw_484 : lw_tbl[484]? = some (Cond.methodLink RX10 122 yX2_add) := by decide +kernel
theorem tw_485 : lw_tbl[485]? = some (Cond.instanceMethod yX2_add) := by decide +kernel
theorem tw_486 : lw_tbl[486]? = some (Cond.selects RX2 yX2_add yX2_add) := by decide +kernel
theorem tw_487 : lw_tbl[487]? = some (Cond.code yX2_add prog_4_method_3_code 3 (some .int)) := by decide +kernel
theorem tw_488 : lw_tbl[488]? = some (Cond.methodLink RL 31 yX10_mark) := by decide +kernel
theorem tw_489 : lw_tbl[489]? = some (Cond.instanceMethod yX10_mark) := by decide +kernel
theorem tw_490 : lw_tbl[490]? = some (Cond.selects RX10 yX10_mark yX10_mark) := by decide +kernel
theorem tw_491 : lw_tbl[491]? = some (Cond.code yX10_mark prog_1_method_6_code 4 (some .int)) := by decide +kernel
theorem tw_492 : lw_tbl[492]? = some (Cond.methodLink RX10 124 yX2_has) := by decide +kernel
theorem tw_493 : lw_tbl[493]? = some (Cond.instanceMethod yX2_has) := by decide +kernel
theorem tw_494 : lw_tbl[494]? = some (Cond.selects RX2 yX2_has yX2_has) := by decide +kernel
theorem tw_495 : lw_tbl[495]? = some (Cond.code yX2_has prog_4_method_2_code 2 (some .boolean)) := by decide +kernel
theorem tw_496 : lw_tbl[496]? = some (Cond.methodLink RX10 127 yX0_has) := by decide +kernel
theorem tw_497 : lw_tbl[497]? = some (Cond.methodLink RX10 133 yX2_give) := by decide +kernel
theorem tw_498 : lw_tbl[498]? = some (Cond.instanceMethod yX2_give) := by decide +kernel
theorem tw_499 : lw_tbl[499]? = some (Cond.selects RX2 yX2_give yX2_give) := by decide +kernel
theorem tw_500 : lw_tbl[500]? = some (Cond.code yX2_give prog_4_method_4_code 5 (some .int)) := by decide +kernel
theorem tw_501 : lw_tbl[501]? = some (Cond.methodLink RL 36 yX10_mean) := by decide +kernel
theorem tw_502 : lw_tbl[502]? = some (Cond.instanceMethod yX10_mean) := by decide +kernel
theorem tw_503 : lw_tbl[503]? = some (Cond.selects RX10 yX10_mean yX10_mean) := by decide +kernel
theorem tw_504 : lw_tbl[504]? = some (Cond.code yX10_mean prog_1_method_7_code 2 (some .int)) := by decide +kernel
theorem tw_505 : lw_tbl[505]? = some (Cond.methodLink RX10 136 yX2_meanOf) := by decide +kernel
theorem tw_506 : lw_tbl[506]? = some (Cond.instanceMethod yX2_meanOf) := by decide +kernel
theorem tw_507 : lw_tbl[507]? = some (Cond.selects RX2 yX2_meanOf yX2_meanOf) := by decide +kernel
theorem tw_508 : lw_tbl[508]? = some (Cond.code yX2_meanOf prog_4_method_5_code 6 (some .int)) := by decide +kernel
theorem tw_509 : lw_tbl[509]? = some (Cond.methodLink RL 40 yX10_scale) := by decide +kernel
theorem tw_510 : lw_tbl[510]? = some (Cond.instanceMethod yX10_scale) := by decide +kernel
theorem tw_511 : lw_tbl[511]? = some (Cond.selects RX10 yX10_scale yX10_scale) := by decide +kernel
theorem tw_512 : lw_tbl[512]? = some (Cond.code yX10_scale prog_1_method_8_code 3 (some .int)) := by decide +kernel
theorem tw_513 : lw_tbl[513]? = some (Cond.methodLink RX10 139 yX2_scaleOf) := by decide +kernel
theorem tw_514 : lw_tbl[514]? = some (Cond.instanceMethod yX2_scaleOf) := by decide +kernel
theorem tw_515 : lw_tbl[515]? = some (Cond.selects RX2 yX2_scaleOf yX2_scaleOf) := by decide +kernel
theorem tw_516 : lw_tbl[516]? = some (Cond.code yX2_scaleOf prog_4_method_6_code 8 (some .int)) := by decide +kernel
theorem tw_517 : lw_tbl[517]? = some (Cond.methodLink RX2 28 yJ9_floorDiv_7cf53) := by decide +kernel
theorem tw_518 : lw_tbl[518]? = some (Cond.static yJ9_floorDiv_7cf53) := by decide +kernel
theorem tw_519 : lw_tbl[519]? = some (Cond.code yJ9_floorDiv_7cf53 prog_15_method_47_code 3 (some .int)) := by decide +kernel
theorem tw_520 : lw_tbl[520]? = some (Cond.methodLink RL 45 yX10_about) := by decide +kernel
theorem tw_521 : lw_tbl[521]? = some (Cond.instanceMethod yX10_about) := by decide +kernel
theorem tw_522 : lw_tbl[522]? = some (Cond.selects RX10 yX10_about yX10_about) := by decide +kernel
theorem tw_523 : lw_tbl[523]? = some (Cond.code yX10_about prog_1_method_9_code 3 (some .int)) := by decide +kernel
theorem tw_524 : lw_tbl[524]? = some (Cond.methodLink RX10 148 yX10_isThere) := by decide +kernel
theorem tw_526 : lw_tbl[526]? = some (Cond.instanceMethod yX10_isThere) := by decide +kernel
theorem tw_527 : lw_tbl[527]? = some (Cond.code yX10_isThere prog_1_method_43_code 2 (some .boolean)) := by decide +kernel
theorem tw_528 : lw_tbl[528]? = some (Cond.methodLink RL 49 yX10_voice) := by decide +kernel
theorem tw_529 : lw_tbl[529]? = some (Cond.instanceMethod yX10_voice) := by decide +kernel
theorem tw_530 : lw_tbl[530]? = some (Cond.selects RX10 yX10_voice yX10_voice) := by decide +kernel
theorem tw_531 : lw_tbl[531]? = some (Cond.code yX10_voice prog_1_method_10_code 3 (some .int)) := by decide +kernel
theorem tw_532 : lw_tbl[532]? = some (Cond.methodLink RL 55 yX10_feed) := by decide +kernel
theorem tw_533 : lw_tbl[533]? = some (Cond.instanceMethod yX10_feed) := by decide +kernel
theorem tw_534 : lw_tbl[534]? = some (Cond.selects RX10 yX10_feed yX10_feed) := by decide +kernel
theorem tw_535 : lw_tbl[535]? = some (Cond.code yX10_feed prog_1_method_11_code 4 (some .int)) := by decide +kernel
theorem tw_536 : lw_tbl[536]? = some (Cond.methodLink RX10 172 yX9_append) := by decide +kernel
theorem tw_537 : lw_tbl[537]? = some (Cond.instanceMethod yX9_append) := by decide +kernel
theorem tw_538 : lw_tbl[538]? = some (Cond.selects RX9 yX9_append yX9_append) := by decide +kernel
theorem tw_539 : lw_tbl[539]? = some (Cond.code yX9_append prog_11_method_2_code 5 (some .int)) := by decide +kernel
theorem tw_540 : lw_tbl[540]? = some (Cond.constantLong RX9 41 255) := by decide +kernel
theorem tw_541 : lw_tbl[541]? = some (Cond.methodLink RL 60 yX10_rule) := by decide +kernel
theorem tw_542 : lw_tbl[542]? = some (Cond.instanceMethod yX10_rule) := by decide +kernel
theorem tw_543 : lw_tbl[543]? = some (Cond.selects RX10 yX10_rule yX10_rule) := by decide +kernel
theorem tw_544 : lw_tbl[544]? = some (Cond.code yX10_rule prog_1_method_12_code 2 (some .int)) := by decide +kernel
theorem tw_545 : lw_tbl[545]? = some (Cond.methodLink RX10 177 yX9_readRule) := by decide +kernel
theorem tw_546 : lw_tbl[546]? = some (Cond.instanceMethod yX9_readRule) := by decide +kernel
theorem tw_547 : lw_tbl[547]? = some (Cond.selects RX9 yX9_readRule yX9_readRule) := by decide +kernel
theorem tw_548 : lw_tbl[548]? = some (Cond.code yX9_readRule prog_11_method_3_code 1 (some .boolean)) := by decide +kernel
theorem tw_549 : lw_tbl[549]? = some (Cond.methodLink RX9 43 yX9_readVerb) := by decide +kernel
theorem tw_551 : lw_tbl[551]? = some (Cond.instanceMethod yX9_readVerb) := by decide +kernel
theorem tw_552 : lw_tbl[552]? = some (Cond.code yX9_readVerb prog_11_method_4_code 1 (some .boolean)) := by decide +kernel
theorem tw_553 : lw_tbl[553]? = some (Cond.methodLink RX9 62 yX9_here) := by decide +kernel
theorem tw_555 : lw_tbl[555]? = some (Cond.instanceMethod yX9_here) := by decide +kernel
theorem tw_556 : lw_tbl[556]? = some (Cond.code yX9_here prog_11_method_13_code 1 (some .int)) := by decide +kernel
theorem tw_559 : lw_tbl[559]? = some (Cond.methodLink RX9 49 yX9_readWord) := by decide +kernel
theorem tw_561 : lw_tbl[561]? = some (Cond.instanceMethod yX9_readWord) := by decide +kernel
theorem tw_562 : lw_tbl[562]? = some (Cond.code yX9_readWord prog_11_method_11_code 3 (some .boolean)) := by decide +kernel
theorem tw_563 : lw_tbl[563]? = some (Cond.methodLink RX9 101 yJ0_length_8abf5) := by decide +kernel
theorem tw_564 : lw_tbl[564]? = some (Cond.instanceMethod yJ0_length_8abf5) := by decide +kernel
theorem tw_565 : lw_tbl[565]? = some (Cond.selects RJ0 yJ0_length_8abf5 yJ0_length_8abf5) := by decide +kernel
theorem tw_566 : lw_tbl[566]? = some (Cond.code yJ0_length_8abf5 prog_16_method_54_code 1 (some .int)) := by decide +kernel
theorem tw_573 : lw_tbl[573]? = some (Cond.methodLink RX9 105 yJ0_charAt_5068e) := by decide +kernel
theorem tw_574 : lw_tbl[574]? = some (Cond.instanceMethod yJ0_charAt_5068e) := by decide +kernel
theorem tw_575 : lw_tbl[575]? = some (Cond.selects RJ0 yJ0_charAt_5068e yJ0_charAt_5068e) := by decide +kernel
theorem tw_576 : lw_tbl[576]? = some (Cond.code yJ0_charAt_5068e prog_16_method_56_code 2 (some .char)) := by decide +kernel
theorem tw_612 : lw_tbl[612]? = some (Cond.methodLink RX9 53 yX9_readKind) := by decide +kernel
theorem tw_614 : lw_tbl[614]? = some (Cond.instanceMethod yX9_readKind) := by decide +kernel
theorem tw_615 : lw_tbl[615]? = some (Cond.code yX9_readKind prog_11_method_5_code 2 (some .boolean)) := by decide +kernel
theorem tw_616 : lw_tbl[616]? = some (Cond.methodLinkNest RX9 70 yX10_isWithin RX10) := by decide +kernel
theorem tw_617 : lw_tbl[617]? = some (Cond.methodLink RX9 56 yX9_readTests) := by decide +kernel
theorem tw_619 : lw_tbl[619]? = some (Cond.instanceMethod yX9_readTests) := by decide +kernel
theorem tw_620 : lw_tbl[620]? = some (Cond.code yX9_readTests prog_11_method_6_code 2 (some .boolean)) := by decide +kernel
theorem tw_621 : lw_tbl[621]? = some (Cond.methodLink RX9 59 yX9_isAtEnd) := by decide +kernel
theorem tw_623 : lw_tbl[623]? = some (Cond.instanceMethod yX9_isAtEnd) := by decide +kernel
theorem tw_624 : lw_tbl[624]? = some (Cond.code yX9_isAtEnd prog_11_method_12_code 1 (some .boolean)) := by decide +kernel
theorem tw_627 : lw_tbl[627]? = some (Cond.methodLink RX9 78 yX9_readTest) := by decide +kernel
theorem tw_629 : lw_tbl[629]? = some (Cond.instanceMethod yX9_readTest) := by decide +kernel
theorem tw_630 : lw_tbl[630]? = some (Cond.code yX9_readTest prog_11_method_7_code 2 (some .boolean)) := by decide +kernel
theorem tw_631 : lw_tbl[631]? = some (Cond.methodLink RX9 82 yX9_readField) := by decide +kernel
theorem tw_633 : lw_tbl[633]? = some (Cond.instanceMethod yX9_readField) := by decide +kernel
theorem tw_634 : lw_tbl[634]? = some (Cond.code yX9_readField prog_11_method_8_code 2 (some .boolean)) := by decide +kernel
theorem tw_640 : lw_tbl[640]? = some (Cond.methodLink RX9 85 yX9_readSign) := by decide +kernel
theorem tw_642 : lw_tbl[642]? = some (Cond.instanceMethod yX9_readSign) := by decide +kernel
theorem tw_643 : lw_tbl[643]? = some (Cond.code yX9_readSign prog_11_method_9_code 3 (some .boolean)) := by decide +kernel
theorem tw_644 : lw_tbl[644]? = some (Cond.methodLink RX9 88 yX9_readNumber) := by decide +kernel
theorem tw_646 : lw_tbl[646]? = some (Cond.instanceMethod yX9_readNumber) := by decide +kernel
theorem tw_647 : lw_tbl[647]? = some (Cond.code yX9_readNumber prog_11_method_10_code 4 (some .boolean)) := by decide +kernel
theorem tw_648 : lw_tbl[648]? = some (Cond.methodLink RX10 181 yX6_add) := by decide +kernel
theorem tw_649 : lw_tbl[649]? = some (Cond.instanceMethod yX6_add) := by decide +kernel
theorem tw_650 : lw_tbl[650]? = some (Cond.selects RX6 yX6_add yX6_add) := by decide +kernel
theorem tw_651 : lw_tbl[651]? = some (Cond.code yX6_add prog_8_method_2_code 4 (some .int)) := by decide +kernel
theorem tw_652 : lw_tbl[652]? = some (Cond.arrayClass .byte) := by decide +kernel
theorem tw_653 : lw_tbl[653]? = some (Cond.methodLink RL 65 yX10_may) := by decide +kernel
theorem tw_654 : lw_tbl[654]? = some (Cond.instanceMethod yX10_may) := by decide +kernel
theorem tw_655 : lw_tbl[655]? = some (Cond.selects RX10 yX10_may yX10_may) := by decide +kernel
theorem tw_656 : lw_tbl[656]? = some (Cond.code yX10_may prog_1_method_13_code 3 (some .int)) := by decide +kernel
theorem tw_657 : lw_tbl[657]? = some (Cond.methodLink RX10 187 yX7_has) := by decide +kernel
theorem tw_658 : lw_tbl[658]? = some (Cond.instanceMethod yX7_has) := by decide +kernel
theorem tw_659 : lw_tbl[659]? = some (Cond.selects RX7 yX7_has yX7_has) := by decide +kernel
theorem tw_660 : lw_tbl[660]? = some (Cond.code yX7_has prog_9_method_2_code 2 (some .boolean)) := by decide +kernel
theorem tw_661 : lw_tbl[661]? = some (Cond.methodLink RX10 188 yX10_verdict) := by decide +kernel
theorem tw_663 : lw_tbl[663]? = some (Cond.instanceMethod yX10_verdict) := by decide +kernel
theorem tw_664 : lw_tbl[664]? = some (Cond.code yX10_verdict prog_1_method_46_code 4 (some .int)) := by decide +kernel
theorem tw_665 : lw_tbl[665]? = some (Cond.methodLink RX10 340 yX0_voicesOf) := by decide +kernel
theorem tw_666 : lw_tbl[666]? = some (Cond.instanceMethod yX0_voicesOf) := by decide +kernel
theorem tw_667 : lw_tbl[667]? = some (Cond.selects RX0 yX0_voicesOf yX0_voicesOf) := by decide +kernel
theorem tw_668 : lw_tbl[668]? = some (Cond.code yX0_voicesOf prog_2_method_11_code 4 (some .int)) := by decide +kernel
theorem tw_669 : lw_tbl[669]? = some (Cond.methodLink RX10 191 yX10_lastRuleThatHolds) := by decide +kernel
theorem tw_671 : lw_tbl[671]? = some (Cond.instanceMethod yX10_lastRuleThatHolds) := by decide +kernel
theorem tw_672 : lw_tbl[672]? = some (Cond.code yX10_lastRuleThatHolds prog_1_method_47_code 4 (some .int)) := by decide +kernel
theorem tw_673 : lw_tbl[673]? = some (Cond.methodLink RX10 347 yX10_ruleHolds) := by decide +kernel
theorem tw_675 : lw_tbl[675]? = some (Cond.instanceMethod yX10_ruleHolds) := by decide +kernel
theorem tw_676 : lw_tbl[676]? = some (Cond.code yX10_ruleHolds prog_1_method_48_code 6 (some .boolean)) := by decide +kernel
theorem tw_677 : lw_tbl[677]? = some (Cond.methodLink RX10 354 yX6_fieldOf) := by decide +kernel
theorem tw_678 : lw_tbl[678]? = some (Cond.instanceMethod yX6_fieldOf) := by decide +kernel
theorem tw_679 : lw_tbl[679]? = some (Cond.selects RX6 yX6_fieldOf yX6_fieldOf) := by decide +kernel
theorem tw_680 : lw_tbl[680]? = some (Cond.code yX6_fieldOf prog_8_method_3_code 3 (some .int)) := by decide +kernel
theorem tw_681 : lw_tbl[681]? = some (Cond.methodLink RX10 357 yX10_valueOf) := by decide +kernel
theorem tw_683 : lw_tbl[683]? = some (Cond.instanceMethod yX10_valueOf) := by decide +kernel
theorem tw_684 : lw_tbl[684]? = some (Cond.code yX10_valueOf prog_1_method_49_code 4 (some .int)) := by decide +kernel
theorem tw_685 : lw_tbl[685]? = some (Cond.methodLink RX10 363 yJ9_max_7cf53) := by decide +kernel
theorem tw_686 : lw_tbl[686]? = some (Cond.methodLink RX10 360 yX6_testHolds) := by decide +kernel
theorem tw_687 : lw_tbl[687]? = some (Cond.instanceMethod yX6_testHolds) := by decide +kernel
theorem tw_688 : lw_tbl[688]? = some (Cond.selects RX6 yX6_testHolds yX6_testHolds) := by decide +kernel
theorem tw_689 : lw_tbl[689]? = some (Cond.code yX6_testHolds prog_8_method_4_code 5 (some .boolean)) := by decide +kernel
theorem tw_690 : lw_tbl[690]? = some (Cond.methodLink RL 69 yX10_why) := by decide +kernel
theorem tw_691 : lw_tbl[691]? = some (Cond.instanceMethod yX10_why) := by decide +kernel
theorem tw_692 : lw_tbl[692]? = some (Cond.selects RX10 yX10_why yX10_why) := by decide +kernel
theorem tw_693 : lw_tbl[693]? = some (Cond.code yX10_why prog_1_method_14_code 3 (some .int)) := by decide +kernel
theorem tw_694 : lw_tbl[694]? = some (Cond.methodLink RL 73 yX10_vote) := by decide +kernel
theorem tw_695 : lw_tbl[695]? = some (Cond.instanceMethod yX10_vote) := by decide +kernel
theorem tw_696 : lw_tbl[696]? = some (Cond.selects RX10 yX10_vote yX10_vote) := by decide +kernel
theorem tw_697 : lw_tbl[697]? = some (Cond.code yX10_vote prog_1_method_15_code 4 (some .int)) := by decide +kernel
theorem tw_698 : lw_tbl[698]? = some (Cond.methodLink RL 77 yX10_leader) := by decide +kernel
theorem tw_699 : lw_tbl[699]? = some (Cond.instanceMethod yX10_leader) := by decide +kernel
theorem tw_700 : lw_tbl[700]? = some (Cond.selects RX10 yX10_leader yX10_leader) := by decide +kernel
theorem tw_701 : lw_tbl[701]? = some (Cond.code yX10_leader prog_1_method_16_code 7 (some .int)) := by decide +kernel
theorem tw_702 : lw_tbl[702]? = some (Cond.methodLink RX10 194 yX10_choirsThatMay) := by decide +kernel
theorem tw_704 : lw_tbl[704]? = some (Cond.instanceMethod yX10_choirsThatMay) := by decide +kernel
theorem tw_705 : lw_tbl[705]? = some (Cond.code yX10_choirsThatMay prog_1_method_50_code 4 (some .int)) := by decide +kernel
theorem tw_706 : lw_tbl[706]? = some (Cond.methodLink RX10 197 yX0_votesFor) := by decide +kernel
theorem tw_707 : lw_tbl[707]? = some (Cond.instanceMethod yX0_votesFor) := by decide +kernel
theorem tw_708 : lw_tbl[708]? = some (Cond.selects RX0 yX0_votesFor yX0_votesFor) := by decide +kernel
theorem tw_709 : lw_tbl[709]? = some (Cond.code yX0_votesFor prog_2_method_14_code 5 (some .int)) := by decide +kernel
theorem tw_710 : lw_tbl[710]? = some (Cond.methodLinkNest RX0 71 yX10_portions RX10) := by decide +kernel
theorem tw_711 : lw_tbl[711]? = some (Cond.static yX10_portions) := by decide +kernel
theorem tw_712 : lw_tbl[712]? = some (Cond.code yX10_portions prog_1_method_41_code 2 (some .int)) := by decide +kernel
theorem tw_713 : lw_tbl[713]? = some (Cond.methodLink RL 81 yX10_stage) := by decide +kernel
theorem tw_714 : lw_tbl[714]? = some (Cond.instanceMethod yX10_stage) := by decide +kernel
theorem tw_715 : lw_tbl[715]? = some (Cond.selects RX10 yX10_stage yX10_stage) := by decide +kernel
theorem tw_716 : lw_tbl[716]? = some (Cond.code yX10_stage prog_1_method_17_code 3 (some .int)) := by decide +kernel
theorem tw_717 : lw_tbl[717]? = some (Cond.methodLink RX10 200 yX8_blocks) := by decide +kernel
theorem tw_718 : lw_tbl[718]? = some (Cond.instanceMethod yX8_blocks) := by decide +kernel
theorem tw_719 : lw_tbl[719]? = some (Cond.selects RX8 yX8_blocks yX8_blocks) := by decide +kernel
theorem tw_720 : lw_tbl[720]? = some (Cond.code yX8_blocks prog_10_method_4_code 3 (some .int)) := by decide +kernel
theorem tw_721 : lw_tbl[721]? = some (Cond.methodLink RX8 52 yX8_holds) := by decide +kernel
theorem tw_722 : lw_tbl[722]? = some (Cond.instanceMethod yX8_holds) := by decide +kernel
theorem tw_723 : lw_tbl[723]? = some (Cond.selects RX8 yX8_holds yX8_holds) := by decide +kernel
theorem tw_724 : lw_tbl[724]? = some (Cond.code yX8_holds prog_10_method_3_code 2 (some .boolean)) := by decide +kernel
theorem tw_725 : lw_tbl[725]? = some (Cond.methodLink RL 85 yX10_tall) := by decide +kernel
theorem tw_726 : lw_tbl[726]? = some (Cond.instanceMethod yX10_tall) := by decide +kernel
theorem tw_727 : lw_tbl[727]? = some (Cond.selects RX10 yX10_tall yX10_tall) := by decide +kernel
theorem tw_728 : lw_tbl[728]? = some (Cond.code yX10_tall prog_1_method_18_code 4 (some .int)) := by decide +kernel
theorem tw_729 : lw_tbl[729]? = some (Cond.methodLink RL 89 yX10_stand) := by decide +kernel
theorem tw_730 : lw_tbl[730]? = some (Cond.instanceMethod yX10_stand) := by decide +kernel
theorem tw_731 : lw_tbl[731]? = some (Cond.selects RX10 yX10_stand yX10_stand) := by decide +kernel
theorem tw_732 : lw_tbl[732]? = some (Cond.code yX10_stand prog_1_method_19_code 4 (some .int)) := by decide +kernel
theorem tw_733 : lw_tbl[733]? = some (Cond.methodLink RX10 210 yX8_hasRow) := by decide +kernel
theorem tw_734 : lw_tbl[734]? = some (Cond.instanceMethod yX8_hasRow) := by decide +kernel
theorem tw_735 : lw_tbl[735]? = some (Cond.selects RX8 yX8_hasRow yX8_hasRow) := by decide +kernel
theorem tw_736 : lw_tbl[736]? = some (Cond.code yX8_hasRow prog_10_method_2_code 2 (some .boolean)) := by decide +kernel
theorem tw_737 : lw_tbl[737]? = some (Cond.methodLink RX10 213 yX8_holds) := by decide +kernel
theorem tw_738 : lw_tbl[738]? = some (Cond.methodLink RX10 216 yX8_hasRoom) := by decide +kernel
theorem tw_739 : lw_tbl[739]? = some (Cond.instanceMethod yX8_hasRoom) := by decide +kernel
theorem tw_740 : lw_tbl[740]? = some (Cond.selects RX8 yX8_hasRoom yX8_hasRoom) := by decide +kernel
theorem tw_741 : lw_tbl[741]? = some (Cond.code yX8_hasRoom prog_10_method_6_code 6 (some .boolean)) := by decide +kernel
theorem tw_742 : lw_tbl[742]? = some (Cond.methodLink RX10 219 yX8_put) := by decide +kernel
theorem tw_743 : lw_tbl[743]? = some (Cond.instanceMethod yX8_put) := by decide +kernel
theorem tw_744 : lw_tbl[744]? = some (Cond.selects RX8 yX8_put yX8_put) := by decide +kernel
theorem tw_745 : lw_tbl[745]? = some (Cond.code yX8_put prog_10_method_7_code 4 none) := by decide +kernel
theorem tw_746 : lw_tbl[746]? = some (Cond.methodLink RL 93 yX10_off) := by decide +kernel
theorem tw_747 : lw_tbl[747]? = some (Cond.instanceMethod yX10_off) := by decide +kernel
theorem tw_748 : lw_tbl[748]? = some (Cond.selects RX10 yX10_off yX10_off) := by decide +kernel
theorem tw_749 : lw_tbl[749]? = some (Cond.code yX10_off prog_1_method_20_code 3 (some .int)) := by decide +kernel
theorem tw_750 : lw_tbl[750]? = some (Cond.methodLink RX10 223 yX8_seconds) := by decide +kernel
theorem tw_751 : lw_tbl[751]? = some (Cond.instanceMethod yX8_seconds) := by decide +kernel
theorem tw_752 : lw_tbl[752]? = some (Cond.selects RX8 yX8_seconds yX8_seconds) := by decide +kernel
theorem tw_753 : lw_tbl[753]? = some (Cond.code yX8_seconds prog_10_method_9_code 3 (some .int)) := by decide +kernel
theorem tw_754 : lw_tbl[754]? = some (Cond.methodLink RX8 66 yX8_placesRight) := by decide +kernel
theorem tw_756 : lw_tbl[756]? = some (Cond.instanceMethod yX8_placesRight) := by decide +kernel
theorem tw_757 : lw_tbl[757]? = some (Cond.code yX8_placesRight prog_10_method_10_code 3 (some .int)) := by decide +kernel
theorem tw_758 : lw_tbl[758]? = some (Cond.methodLink RX8 70 yJ9_min_7cf53) := by decide +kernel
theorem tw_759 : lw_tbl[759]? = some (Cond.static yJ9_min_7cf53) := by decide +kernel
theorem tw_760 : lw_tbl[760]? = some (Cond.code yJ9_min_7cf53 prog_15_method_69_code 2 (some .int)) := by decide +kernel
theorem tw_761 : lw_tbl[761]? = some (Cond.methodLink RL 97 yX10_well) := by decide +kernel
theorem tw_762 : lw_tbl[762]? = some (Cond.instanceMethod yX10_well) := by decide +kernel
theorem tw_763 : lw_tbl[763]? = some (Cond.selects RX10 yX10_well yX10_well) := by decide +kernel
theorem tw_764 : lw_tbl[764]? = some (Cond.code yX10_well prog_1_method_21_code 2 (some .int)) := by decide +kernel
theorem tw_765 : lw_tbl[765]? = some (Cond.methodLink RX10 226 yX8_isHidden) := by decide +kernel
theorem tw_766 : lw_tbl[766]? = some (Cond.instanceMethod yX8_isHidden) := by decide +kernel
theorem tw_767 : lw_tbl[767]? = some (Cond.selects RX8 yX8_isHidden yX8_isHidden) := by decide +kernel
theorem tw_768 : lw_tbl[768]? = some (Cond.code yX8_isHidden prog_10_method_8_code 4 (some .boolean)) := by decide +kernel
theorem tw_769 : lw_tbl[769]? = some (Cond.methodLink RL 101 yX10_clear) := by decide +kernel
theorem tw_770 : lw_tbl[770]? = some (Cond.instanceMethod yX10_clear) := by decide +kernel
theorem tw_771 : lw_tbl[771]? = some (Cond.selects RX10 yX10_clear yX10_clear) := by decide +kernel
theorem tw_772 : lw_tbl[772]? = some (Cond.code yX10_clear prog_1_method_22_code 1 (some .int)) := by decide +kernel
theorem tw_773 : lw_tbl[773]? = some (Cond.methodLink RX10 229 yX8_clearOfAll) := by decide +kernel
theorem tw_774 : lw_tbl[774]? = some (Cond.instanceMethod yX8_clearOfAll) := by decide +kernel
theorem tw_775 : lw_tbl[775]? = some (Cond.selects RX8 yX8_clearOfAll yX8_clearOfAll) := by decide +kernel
theorem tw_776 : lw_tbl[776]? = some (Cond.code yX8_clearOfAll prog_10_method_13_code 2 (some .int)) := by decide +kernel
theorem tw_777 : lw_tbl[777]? = some (Cond.methodLink RX8 78 yX8_resetDoors) := by decide +kernel
theorem tw_779 : lw_tbl[779]? = some (Cond.instanceMethod yX8_resetDoors) := by decide +kernel
theorem tw_780 : lw_tbl[780]? = some (Cond.code yX8_resetDoors prog_10_method_11_code 1 none) := by decide +kernel
theorem tw_781 : lw_tbl[781]? = some (Cond.methodLink RX8 81 yX8_sendOff) := by decide +kernel
theorem tw_783 : lw_tbl[783]? = some (Cond.instanceMethod yX8_sendOff) := by decide +kernel
theorem tw_784 : lw_tbl[784]? = some (Cond.code yX8_sendOff prog_10_method_12_code 3 none) := by decide +kernel
theorem tw_785 : lw_tbl[785]? = some (Cond.methodLink RX8 75 yX8_seconds) := by decide +kernel
theorem tw_786 : lw_tbl[786]? = some (Cond.methodLink RX8 85 yJ9_max_7cf53) := by decide +kernel
theorem tw_787 : lw_tbl[787]? = some (Cond.methodLink RL 105 yX10_lay) := by decide +kernel
theorem tw_788 : lw_tbl[788]? = some (Cond.instanceMethod yX10_lay) := by decide +kernel
theorem tw_789 : lw_tbl[789]? = some (Cond.selects RX10 yX10_lay yX10_lay) := by decide +kernel
theorem tw_790 : lw_tbl[790]? = some (Cond.code yX10_lay prog_1_method_23_code 3 (some .int)) := by decide +kernel
theorem tw_791 : lw_tbl[791]? = some (Cond.methodLink RX10 232 yX10_isSetOfChoirs) := by decide +kernel
theorem tw_793 : lw_tbl[793]? = some (Cond.instanceMethod yX10_isSetOfChoirs) := by decide +kernel
theorem tw_794 : lw_tbl[794]? = some (Cond.code yX10_isSetOfChoirs prog_1_method_42_code 2 (some .boolean)) := by decide +kernel
theorem tw_795 : lw_tbl[795]? = some (Cond.methodLink RX10 308 yX0_hasAll) := by decide +kernel
theorem tw_796 : lw_tbl[796]? = some (Cond.instanceMethod yX0_hasAll) := by decide +kernel
theorem tw_797 : lw_tbl[797]? = some (Cond.selects RX0 yX0_hasAll yX0_hasAll) := by decide +kernel
theorem tw_798 : lw_tbl[798]? = some (Cond.code yX0_hasAll prog_2_method_3_code 2 (some .boolean)) := by decide +kernel
theorem tw_799 : lw_tbl[799]? = some (Cond.methodLink RX10 235 yJ6_bitCount_0f7a4) := by decide +kernel
theorem tw_800 : lw_tbl[800]? = some (Cond.static yJ6_bitCount_0f7a4) := by decide +kernel
theorem tw_801 : lw_tbl[801]? = some (Cond.code yJ6_bitCount_0f7a4 prog_14_method_49_code 1 (some .int)) := by decide +kernel
theorem tw_802 : lw_tbl[802]? = some (Cond.constant RJ6 265 1431655765) := by decide +kernel
theorem tw_803 : lw_tbl[803]? = some (Cond.constant RJ6 266 858993459) := by decide +kernel
theorem tw_804 : lw_tbl[804]? = some (Cond.constant RJ6 267 252645135) := by decide +kernel
theorem tw_805 : lw_tbl[805]? = some (Cond.methodLink RX10 240 yX10_areReadyToBeLaid) := by decide +kernel
theorem tw_807 : lw_tbl[807]? = some (Cond.instanceMethod yX10_areReadyToBeLaid) := by decide +kernel
theorem tw_808 : lw_tbl[808]? = some (Cond.code yX10_areReadyToBeLaid prog_1_method_45_code 3 (some .boolean)) := by decide +kernel
theorem tw_809 : lw_tbl[809]? = some (Cond.methodLink RX10 243 yX8_isFree) := by decide +kernel
theorem tw_810 : lw_tbl[810]? = some (Cond.instanceMethod yX8_isFree) := by decide +kernel
theorem tw_811 : lw_tbl[811]? = some (Cond.selects RX8 yX8_isFree yX8_isFree) := by decide +kernel
theorem tw_812 : lw_tbl[812]? = some (Cond.code yX8_isFree prog_10_method_5_code 2 (some .boolean)) := by decide +kernel
theorem tw_813 : lw_tbl[813]? = some (Cond.methodLink RX8 56 yX8_hasRoom) := by decide +kernel
theorem tw_814 : lw_tbl[814]? = some (Cond.methodLink RX10 246 yX0_sizeOfSet) := by decide +kernel
theorem tw_815 : lw_tbl[815]? = some (Cond.instanceMethod yX0_sizeOfSet) := by decide +kernel
theorem tw_816 : lw_tbl[816]? = some (Cond.selects RX0 yX0_sizeOfSet yX0_sizeOfSet) := by decide +kernel
theorem tw_817 : lw_tbl[817]? = some (Cond.code yX0_sizeOfSet prog_2_method_12_code 4 (some .int)) := by decide +kernel
theorem tw_818 : lw_tbl[818]? = some (Cond.methodLink RX10 249 yX8_putBestLine) := by decide +kernel
theorem tw_819 : lw_tbl[819]? = some (Cond.instanceMethod yX8_putBestLine) := by decide +kernel
theorem tw_820 : lw_tbl[820]? = some (Cond.selects RX8 yX8_putBestLine yX8_putBestLine) := by decide +kernel
theorem tw_821 : lw_tbl[821]? = some (Cond.code yX8_putBestLine prog_10_method_15_code 8 (some .int)) := by decide +kernel
theorem tw_822 : lw_tbl[822]? = some (Cond.methodLink RX8 88 yX8_firstLine) := by decide +kernel
theorem tw_824 : lw_tbl[824]? = some (Cond.instanceMethod yX8_firstLine) := by decide +kernel
theorem tw_825 : lw_tbl[825]? = some (Cond.code yX8_firstLine prog_10_method_16_code 4 (some .int)) := by decide +kernel
theorem tw_826 : lw_tbl[826]? = some (Cond.constant RX8 92 1000000) := by decide +kernel
theorem tw_827 : lw_tbl[827]? = some (Cond.methodLink RX8 93 yX8_clearOfLine) := by decide +kernel
theorem tw_829 : lw_tbl[829]? = some (Cond.instanceMethod yX8_clearOfLine) := by decide +kernel
theorem tw_830 : lw_tbl[830]? = some (Cond.code yX8_clearOfLine prog_10_method_14_code 5 (some .int)) := by decide +kernel
theorem tw_834 : lw_tbl[834]? = some (Cond.methodLink RX8 102 yX8_nextLine) := by decide +kernel
theorem tw_836 : lw_tbl[836]? = some (Cond.instanceMethod yX8_nextLine) := by decide +kernel
theorem tw_837 : lw_tbl[837]? = some (Cond.code yX8_nextLine prog_10_method_17_code 6 (some .boolean)) := by decide +kernel
theorem tw_838 : lw_tbl[838]? = some (Cond.methodLink RX8 109 yX8_swapInLine) := by decide +kernel
theorem tw_840 : lw_tbl[840]? = some (Cond.instanceMethod yX8_swapInLine) := by decide +kernel
theorem tw_841 : lw_tbl[841]? = some (Cond.code yX8_swapInLine prog_10_method_18_code 4 none) := by decide +kernel
theorem tw_842 : lw_tbl[842]? = some (Cond.methodLink RX8 105 yX8_put) := by decide +kernel
theorem tw_843 : lw_tbl[843]? = some (Cond.methodLink RL 109 yX10_change) := by decide +kernel
theorem tw_844 : lw_tbl[844]? = some (Cond.instanceMethod yX10_change) := by decide +kernel
theorem tw_845 : lw_tbl[845]? = some (Cond.selects RX10 yX10_change yX10_change) := by decide +kernel
theorem tw_846 : lw_tbl[846]? = some (Cond.code yX10_change prog_1_method_24_code 3 (some .int)) := by decide +kernel
theorem tw_847 : lw_tbl[847]? = some (Cond.methodLink RX10 252 yX0_changeOf) := by decide +kernel
theorem tw_848 : lw_tbl[848]? = some (Cond.instanceMethod yX0_changeOf) := by decide +kernel
theorem tw_849 : lw_tbl[849]? = some (Cond.selects RX0 yX0_changeOf yX0_changeOf) := by decide +kernel
theorem tw_850 : lw_tbl[850]? = some (Cond.code yX0_changeOf prog_2_method_13_code 4 (some .int)) := by decide +kernel
theorem tw_851 : lw_tbl[851]? = some (Cond.methodLink RL 113 yX10_order) := by decide +kernel
theorem tw_852 : lw_tbl[852]? = some (Cond.instanceMethod yX10_order) := by decide +kernel
theorem tw_853 : lw_tbl[853]? = some (Cond.selects RX10 yX10_order yX10_order) := by decide +kernel
theorem tw_854 : lw_tbl[854]? = some (Cond.code yX10_order prog_1_method_25_code 3 (some .int)) := by decide +kernel
theorem tw_855 : lw_tbl[855]? = some (Cond.methodLink RX10 255 yX7_hasAll) := by decide +kernel
theorem tw_856 : lw_tbl[856]? = some (Cond.instanceMethod yX7_hasAll) := by decide +kernel
theorem tw_857 : lw_tbl[857]? = some (Cond.selects RX7 yX7_hasAll yX7_hasAll) := by decide +kernel
theorem tw_858 : lw_tbl[858]? = some (Cond.code yX7_hasAll prog_9_method_3_code 2 (some .boolean)) := by decide +kernel
theorem tw_859 : lw_tbl[859]? = some (Cond.methodLink RX10 258 yX5_begin) := by decide +kernel
theorem tw_860 : lw_tbl[860]? = some (Cond.instanceMethod yX5_begin) := by decide +kernel
theorem tw_861 : lw_tbl[861]? = some (Cond.selects RX5 yX5_begin yX5_begin) := by decide +kernel
theorem tw_862 : lw_tbl[862]? = some (Cond.code yX5_begin prog_7_method_2_code 1 none) := by decide +kernel
theorem tw_863 : lw_tbl[863]? = some (Cond.methodLink RX10 261 yX5_add) := by decide +kernel
theorem tw_864 : lw_tbl[864]? = some (Cond.instanceMethod yX5_add) := by decide +kernel
theorem tw_865 : lw_tbl[865]? = some (Cond.selects RX5 yX5_add yX5_add) := by decide +kernel
theorem tw_866 : lw_tbl[866]? = some (Cond.code yX5_add prog_7_method_3_code 3 none) := by decide +kernel
theorem tw_867 : lw_tbl[867]? = some (Cond.methodLink RX10 264 yX5_price) := by decide +kernel
theorem tw_868 : lw_tbl[868]? = some (Cond.instanceMethod yX5_price) := by decide +kernel
theorem tw_869 : lw_tbl[869]? = some (Cond.selects RX5 yX5_price yX5_price) := by decide +kernel
theorem tw_870 : lw_tbl[870]? = some (Cond.code yX5_price prog_7_method_4_code 6 none) := by decide +kernel
theorem tw_871 : lw_tbl[871]? = some (Cond.methodLink RX5 34 yX0_setOfKind) := by decide +kernel
theorem tw_872 : lw_tbl[872]? = some (Cond.instanceMethod yX0_setOfKind) := by decide +kernel
theorem tw_873 : lw_tbl[873]? = some (Cond.selects RX0 yX0_setOfKind yX0_setOfKind) := by decide +kernel
theorem tw_874 : lw_tbl[874]? = some (Cond.code yX0_setOfKind prog_2_method_15_code 4 (some .int)) := by decide +kernel
theorem tw_875 : lw_tbl[875]? = some (Cond.constant RX5 40 1000000) := by decide +kernel
theorem tw_876 : lw_tbl[876]? = some (Cond.methodLink RX5 41 yX0_changeOf) := by decide +kernel
theorem tw_877 : lw_tbl[877]? = some (Cond.methodLink RX10 267 yX5_leastSum) := by decide +kernel
theorem tw_878 : lw_tbl[878]? = some (Cond.instanceMethod yX5_leastSum) := by decide +kernel
theorem tw_879 : lw_tbl[879]? = some (Cond.selects RX5 yX5_leastSum yX5_leastSum) := by decide +kernel
theorem tw_880 : lw_tbl[880]? = some (Cond.code yX5_leastSum prog_7_method_5_code 3 (some .int)) := by decide +kernel
theorem tw_881 : lw_tbl[881]? = some (Cond.methodLink RX5 44 yX5_leastRest) := by decide +kernel
theorem tw_883 : lw_tbl[883]? = some (Cond.instanceMethod yX5_leastRest) := by decide +kernel
theorem tw_884 : lw_tbl[884]? = some (Cond.code yX5_leastRest prog_7_method_6_code 5 (some .int)) := by decide +kernel
theorem tw_885 : lw_tbl[885]? = some (Cond.methodLink RX5 48 yX5_sumWith) := by decide +kernel
theorem tw_887 : lw_tbl[887]? = some (Cond.instanceMethod yX5_sumWith) := by decide +kernel
theorem tw_888 : lw_tbl[888]? = some (Cond.code yX5_sumWith prog_7_method_7_code 5 (some .int)) := by decide +kernel
theorem tw_889 : lw_tbl[889]? = some (Cond.methodLink RX5 52 yJ9_min_7cf53) := by decide +kernel
theorem tw_890 : lw_tbl[890]? = some (Cond.constant RX10 270 1000000) := by decide +kernel
theorem tw_891 : lw_tbl[891]? = some (Cond.methodLink RX10 271 yX5_keepOrder) := by decide +kernel
theorem tw_892 : lw_tbl[892]? = some (Cond.instanceMethod yX5_keepOrder) := by decide +kernel
theorem tw_893 : lw_tbl[893]? = some (Cond.selects RX5 yX5_keepOrder yX5_keepOrder) := by decide +kernel
theorem tw_894 : lw_tbl[894]? = some (Cond.code yX5_keepOrder prog_7_method_8_code 7 none) := by decide +kernel
theorem tw_895 : lw_tbl[895]? = some (Cond.methodLink RX5 57 yX5_leastNext) := by decide +kernel
theorem tw_897 : lw_tbl[897]? = some (Cond.instanceMethod yX5_leastNext) := by decide +kernel
theorem tw_898 : lw_tbl[898]? = some (Cond.code yX5_leastNext prog_7_method_9_code 5 (some .int)) := by decide +kernel
theorem tw_899 : lw_tbl[899]? = some (Cond.methodLink RL 117 yX10_ordered) := by decide +kernel
theorem tw_900 : lw_tbl[900]? = some (Cond.instanceMethod yX10_ordered) := by decide +kernel
theorem tw_901 : lw_tbl[901]? = some (Cond.selects RX10 yX10_ordered yX10_ordered) := by decide +kernel
theorem tw_902 : lw_tbl[902]? = some (Cond.code yX10_ordered prog_1_method_26_code 2 (some .int)) := by decide +kernel
theorem tw_903 : lw_tbl[903]? = some (Cond.methodLink RL 121 yX10_rehearse) := by decide +kernel
theorem tw_904 : lw_tbl[904]? = some (Cond.instanceMethod yX10_rehearse) := by decide +kernel
theorem tw_905 : lw_tbl[905]? = some (Cond.selects RX10 yX10_rehearse yX10_rehearse) := by decide +kernel
theorem tw_906 : lw_tbl[906]? = some (Cond.code yX10_rehearse prog_1_method_27_code 6 (some .int)) := by decide +kernel
theorem tw_907 : lw_tbl[907]? = some (Cond.methodLink RX10 281 yX1_has) := by decide +kernel
theorem tw_908 : lw_tbl[908]? = some (Cond.instanceMethod yX1_has) := by decide +kernel
theorem tw_909 : lw_tbl[909]? = some (Cond.selects RX1 yX1_has yX1_has) := by decide +kernel
theorem tw_910 : lw_tbl[910]? = some (Cond.code yX1_has prog_3_method_2_code 3 (some .boolean)) := by decide +kernel
theorem tw_911 : lw_tbl[911]? = some (Cond.methodLink RX10 284 yX1_isFree) := by decide +kernel
theorem tw_912 : lw_tbl[912]? = some (Cond.instanceMethod yX1_isFree) := by decide +kernel
theorem tw_913 : lw_tbl[913]? = some (Cond.selects RX1 yX1_isFree yX1_isFree) := by decide +kernel
theorem tw_914 : lw_tbl[914]? = some (Cond.code yX1_isFree prog_3_method_4_code 3 (some .boolean)) := by decide +kernel
theorem tw_915 : lw_tbl[915]? = some (Cond.methodLink RX1 24 yX1_songIn) := by decide +kernel
theorem tw_916 : lw_tbl[916]? = some (Cond.instanceMethod yX1_songIn) := by decide +kernel
theorem tw_917 : lw_tbl[917]? = some (Cond.selects RX1 yX1_songIn yX1_songIn) := by decide +kernel
theorem tw_918 : lw_tbl[918]? = some (Cond.code yX1_songIn prog_3_method_3_code 3 (some .int)) := by decide +kernel
theorem tw_919 : lw_tbl[919]? = some (Cond.methodLink RX10 286 yX1_busyAt) := by decide +kernel
theorem tw_920 : lw_tbl[920]? = some (Cond.instanceMethod yX1_busyAt) := by decide +kernel
theorem tw_921 : lw_tbl[921]? = some (Cond.selects RX1 yX1_busyAt yX1_busyAt) := by decide +kernel
theorem tw_922 : lw_tbl[922]? = some (Cond.code yX1_busyAt prog_3_method_5_code 4 (some .int)) := by decide +kernel
theorem tw_923 : lw_tbl[923]? = some (Cond.methodLink RX10 289 yX1_take) := by decide +kernel
theorem tw_924 : lw_tbl[924]? = some (Cond.instanceMethod yX1_take) := by decide +kernel
theorem tw_925 : lw_tbl[925]? = some (Cond.selects RX1 yX1_take yX1_take) := by decide +kernel
theorem tw_926 : lw_tbl[926]? = some (Cond.code yX1_take prog_3_method_6_code 5 none) := by decide +kernel
theorem tw_927 : lw_tbl[927]? = some (Cond.methodLink RL 125 yX10_hall) := by decide +kernel
theorem tw_928 : lw_tbl[928]? = some (Cond.instanceMethod yX10_hall) := by decide +kernel
theorem tw_929 : lw_tbl[929]? = some (Cond.selects RX10 yX10_hall yX10_hall) := by decide +kernel
theorem tw_930 : lw_tbl[930]? = some (Cond.code yX10_hall prog_1_method_28_code 3 (some .int)) := by decide +kernel
theorem tw_931 : lw_tbl[931]? = some (Cond.methodLink RX10 296 yX1_songIn) := by decide +kernel
theorem tw_932 : lw_tbl[932]? = some (Cond.methodLink RL 129 yX10_whole) := by decide +kernel
theorem tw_933 : lw_tbl[933]? = some (Cond.instanceMethod yX10_whole) := by decide +kernel
theorem tw_934 : lw_tbl[934]? = some (Cond.selects RX10 yX10_whole yX10_whole) := by decide +kernel
theorem tw_935 : lw_tbl[935]? = some (Cond.code yX10_whole prog_1_method_29_code 3 (some .int)) := by decide +kernel
theorem tw_936 : lw_tbl[936]? = some (Cond.methodLink RL 133 yX10_beds) := by decide +kernel
theorem tw_937 : lw_tbl[937]? = some (Cond.instanceMethod yX10_beds) := by decide +kernel
theorem tw_938 : lw_tbl[938]? = some (Cond.selects RX10 yX10_beds yX10_beds) := by decide +kernel
theorem tw_939 : lw_tbl[939]? = some (Cond.code yX10_beds prog_1_method_30_code 4 (some .int)) := by decide +kernel
theorem tw_940 : lw_tbl[940]? = some (Cond.methodLink RX10 299 yX3_taken) := by decide +kernel
theorem tw_941 : lw_tbl[941]? = some (Cond.instanceMethod yX3_taken) := by decide +kernel
theorem tw_942 : lw_tbl[942]? = some (Cond.selects RX3 yX3_taken yX3_taken) := by decide +kernel
theorem tw_943 : lw_tbl[943]? = some (Cond.code yX3_taken prog_5_method_2_code 4 (some .int)) := by decide +kernel
theorem tw_944 : lw_tbl[944]? = some (Cond.methodLink RL 137 yX10_sleep) := by decide +kernel
theorem tw_945 : lw_tbl[945]? = some (Cond.instanceMethod yX10_sleep) := by decide +kernel
theorem tw_946 : lw_tbl[946]? = some (Cond.selects RX10 yX10_sleep yX10_sleep) := by decide +kernel
theorem tw_947 : lw_tbl[947]? = some (Cond.code yX10_sleep prog_1_method_31_code 4 (some .int)) := by decide +kernel
theorem tw_948 : lw_tbl[948]? = some (Cond.methodLink RX10 305 yX3_canTake) := by decide +kernel
theorem tw_949 : lw_tbl[949]? = some (Cond.instanceMethod yX3_canTake) := by decide +kernel
theorem tw_950 : lw_tbl[950]? = some (Cond.selects RX3 yX3_canTake yX3_canTake) := by decide +kernel
theorem tw_951 : lw_tbl[951]? = some (Cond.code yX3_canTake prog_5_method_5_code 3 (some .boolean)) := by decide +kernel
theorem tw_952 : lw_tbl[952]? = some (Cond.methodLink RX3 47 yX3_bedsFor) := by decide +kernel
theorem tw_954 : lw_tbl[954]? = some (Cond.instanceMethod yX3_bedsFor) := by decide +kernel
theorem tw_955 : lw_tbl[955]? = some (Cond.code yX3_bedsFor prog_5_method_4_code 4 (some .int)) := by decide +kernel
theorem tw_956 : lw_tbl[956]? = some (Cond.methodLink RX3 41 yX3_freeBeds) := by decide +kernel
theorem tw_958 : lw_tbl[958]? = some (Cond.instanceMethod yX3_freeBeds) := by decide +kernel
theorem tw_959 : lw_tbl[959]? = some (Cond.code yX3_freeBeds prog_5_method_3_code 2 (some .int)) := by decide +kernel
theorem tw_960 : lw_tbl[960]? = some (Cond.methodLink RX3 37 yX3_taken) := by decide +kernel
theorem tw_961 : lw_tbl[961]? = some (Cond.methodLink RL 141 yX10_bed) := by decide +kernel
theorem tw_962 : lw_tbl[962]? = some (Cond.instanceMethod yX10_bed) := by decide +kernel
theorem tw_963 : lw_tbl[963]? = some (Cond.selects RX10 yX10_bed yX10_bed) := by decide +kernel
theorem tw_964 : lw_tbl[964]? = some (Cond.code yX10_bed prog_1_method_32_code 5 (some .int)) := by decide +kernel
theorem tw_965 : lw_tbl[965]? = some (Cond.methodLink RX10 309 yX3_tightestTown) := by decide +kernel
theorem tw_966 : lw_tbl[966]? = some (Cond.instanceMethod yX3_tightestTown) := by decide +kernel
theorem tw_967 : lw_tbl[967]? = some (Cond.selects RX3 yX3_tightestTown yX3_tightestTown) := by decide +kernel
theorem tw_968 : lw_tbl[968]? = some (Cond.code yX3_tightestTown prog_5_method_6_code 5 (some .int)) := by decide +kernel
theorem tw_969 : lw_tbl[969]? = some (Cond.methodLink RX3 51 yX3_canTake) := by decide +kernel
theorem tw_970 : lw_tbl[970]? = some (Cond.methodLink RL 145 yX10_march) := by decide +kernel
theorem tw_971 : lw_tbl[971]? = some (Cond.instanceMethod yX10_march) := by decide +kernel
theorem tw_972 : lw_tbl[972]? = some (Cond.selects RX10 yX10_march yX10_march) := by decide +kernel
theorem tw_973 : lw_tbl[973]? = some (Cond.code yX10_march prog_1_method_33_code 2 (some .int)) := by decide +kernel
theorem tw_974 : lw_tbl[974]? = some (Cond.methodLink RX10 312 yX4_holds) := by decide +kernel
theorem tw_975 : lw_tbl[975]? = some (Cond.instanceMethod yX4_holds) := by decide +kernel
theorem tw_976 : lw_tbl[976]? = some (Cond.selects RX4 yX4_holds yX4_holds) := by decide +kernel
theorem tw_977 : lw_tbl[977]? = some (Cond.code yX4_holds prog_6_method_2_code 2 (some .boolean)) := by decide +kernel
theorem tw_978 : lw_tbl[978]? = some (Cond.methodLink RX10 313 yX4_add) := by decide +kernel
theorem tw_979 : lw_tbl[979]? = some (Cond.instanceMethod yX4_add) := by decide +kernel
theorem tw_980 : lw_tbl[980]? = some (Cond.selects RX4 yX4_add yX4_add) := by decide +kernel
theorem tw_981 : lw_tbl[981]? = some (Cond.code yX4_add prog_6_method_3_code 2 none) := by decide +kernel
theorem tw_982 : lw_tbl[982]? = some (Cond.methodLink RX10 315 yX4_length) := by decide +kernel
theorem tw_983 : lw_tbl[983]? = some (Cond.instanceMethod yX4_length) := by decide +kernel
theorem tw_984 : lw_tbl[984]? = some (Cond.selects RX4 yX4_length yX4_length) := by decide +kernel
theorem tw_985 : lw_tbl[985]? = some (Cond.code yX4_length prog_6_method_6_code 3 (some .int)) := by decide +kernel
theorem tw_986 : lw_tbl[986]? = some (Cond.methodLink RX4 31 yX4_holds) := by decide +kernel
theorem tw_987 : lw_tbl[987]? = some (Cond.methodLinkNest RX4 39 yX10_portions RX10) := by decide +kernel
theorem tw_988 : lw_tbl[988]? = some (Cond.methodLink RX4 45 yX4_number) := by decide +kernel
theorem tw_989 : lw_tbl[989]? = some (Cond.instanceMethod yX4_number) := by decide +kernel
theorem tw_990 : lw_tbl[990]? = some (Cond.selects RX4 yX4_number yX4_number) := by decide +kernel
theorem tw_991 : lw_tbl[991]? = some (Cond.code yX4_number prog_6_method_5_code 1 (some .int)) := by decide +kernel
theorem tw_992 : lw_tbl[992]? = some (Cond.methodLink RX4 20 yJ6_bitCount_0f7a4) := by decide +kernel
theorem tw_993 : lw_tbl[993]? = some (Cond.methodLink RX4 48 yJ9_max_7cf53) := by decide +kernel
theorem tw_994 : lw_tbl[994]? = some (Cond.methodLink RL 149 yX10_leave) := by decide +kernel
theorem tw_995 : lw_tbl[995]? = some (Cond.instanceMethod yX10_leave) := by decide +kernel
theorem tw_996 : lw_tbl[996]? = some (Cond.selects RX10 yX10_leave yX10_leave) := by decide +kernel
theorem tw_997 : lw_tbl[997]? = some (Cond.code yX10_leave prog_1_method_34_code 2 (some .int)) := by decide +kernel
theorem tw_998 : lw_tbl[998]? = some (Cond.methodLink RX10 317 yX4_remove) := by decide +kernel
theorem tw_999 : lw_tbl[999]? = some (Cond.instanceMethod yX4_remove) := by decide +kernel
theorem tw_1000 : lw_tbl[1000]? = some (Cond.selects RX4 yX4_remove yX4_remove) := by decide +kernel
theorem tw_1001 : lw_tbl[1001]? = some (Cond.code yX4_remove prog_6_method_4_code 2 none) := by decide +kernel
theorem tw_1002 : lw_tbl[1002]? = some (Cond.methodLink RL 153 yX10_gap) := by decide +kernel
theorem tw_1003 : lw_tbl[1003]? = some (Cond.instanceMethod yX10_gap) := by decide +kernel
theorem tw_1004 : lw_tbl[1004]? = some (Cond.selects RX10 yX10_gap yX10_gap) := by decide +kernel
theorem tw_1005 : lw_tbl[1005]? = some (Cond.code yX10_gap prog_1_method_35_code 3 (some .int)) := by decide +kernel
theorem tw_1006 : lw_tbl[1006]? = some (Cond.methodLink RL 157 yX10_count) := by decide +kernel
theorem tw_1007 : lw_tbl[1007]? = some (Cond.instanceMethod yX10_count) := by decide +kernel
theorem tw_1008 : lw_tbl[1008]? = some (Cond.selects RX10 yX10_count yX10_count) := by decide +kernel
theorem tw_1009 : lw_tbl[1009]? = some (Cond.code yX10_count prog_1_method_36_code 2 (some .int)) := by decide +kernel
theorem tw_1010 : lw_tbl[1010]? = some (Cond.methodLink RX10 323 yX4_number) := by decide +kernel
theorem tw_1011 : lw_tbl[1011]? = some (Cond.methodLink RX10 325 yX3_sleepers) := by decide +kernel
theorem tw_1012 : lw_tbl[1012]? = some (Cond.instanceMethod yX3_sleepers) := by decide +kernel
theorem tw_1013 : lw_tbl[1013]? = some (Cond.selects RX3 yX3_sleepers yX3_sleepers) := by decide +kernel
theorem tw_1014 : lw_tbl[1014]? = some (Cond.code yX3_sleepers prog_5_method_7_code 3 (some .int)) := by decide +kernel
theorem tw_1015 : lw_tbl[1015]? = some (Cond.methodLink RX10 328 yX10_singersThere) := by decide +kernel
theorem tw_1017 : lw_tbl[1017]? = some (Cond.instanceMethod yX10_singersThere) := by decide +kernel
theorem tw_1018 : lw_tbl[1018]? = some (Cond.code yX10_singersThere prog_1_method_44_code 3 (some .int)) := by decide +kernel
theorem tw_1019 : lw_tbl[1019]? = some (Cond.classLink RL 10 RX11) := by decide +kernel
theorem tw_1020 : lw_tbl[1020]? = some (Cond.instantiable RX11 50) := by decide +kernel
theorem tw_1021 : lw_tbl[1021]? = some (Cond.methodLink RL 12 yX11_init) := by decide +kernel
theorem tw_1022 : lw_tbl[1022]? = some (Cond.instanceMethod yX11_init) := by decide +kernel
theorem tw_1023 : lw_tbl[1023]? = some (Cond.code yX11_init prog_13_method_1_code 1 none) := by decide +kernel
theorem tw_1024 : lw_tbl[1024]? = some (Cond.methodLink RX11 1 objectInit) := by decide +kernel
theorem tw_1025 : lw_tbl[1025]? = some (Cond.fieldLink RX11 134 RX11 "choirs" "I") := by decide +kernel
theorem tw_1026 : lw_tbl[1026]? = some (Cond.fieldLink RX11 7 RX11 "kind" "[I") := by decide +kernel
theorem tw_1027 : lw_tbl[1027]? = some (Cond.fieldLink RX11 13 RX11 "town" "[I") := by decide +kernel
theorem tw_1028 : lw_tbl[1028]? = some (Cond.fieldLink RX11 16 RX11 "voices" "[I") := by decide +kernel
theorem tw_1029 : lw_tbl[1029]? = some (Cond.fieldLink RX11 19 RX11 "extra" "[I") := by decide +kernel
theorem tw_1030 : lw_tbl[1030]? = some (Cond.fieldLink RX11 22 RX11 "tall" "[I") := by decide +kernel
theorem tw_1031 : lw_tbl[1031]? = some (Cond.fieldLink RX11 25 RX11 "sleeps" "[I") := by decide +kernel
theorem tw_1032 : lw_tbl[1032]? = some (Cond.fieldLink RX11 28 RX11 "votes" "[I") := by decide +kernel
theorem tw_1033 : lw_tbl[1033]? = some (Cond.fieldLink RX11 31 RX11 "row" "[I") := by decide +kernel
theorem tw_1034 : lw_tbl[1034]? = some (Cond.fieldLink RX11 34 RX11 "place" "[I") := by decide +kernel
theorem tw_1035 : lw_tbl[1035]? = some (Cond.fieldLink RX11 171 RX11 "today" "I") := by decide +kernel
theorem tw_1036 : lw_tbl[1036]? = some (Cond.fieldLink RX11 137 RX11 "songs" "I") := by decide +kernel
theorem tw_1037 : lw_tbl[1037]? = some (Cond.fieldLink RX11 37 RX11 "kinds" "[I") := by decide +kernel
theorem tw_1038 : lw_tbl[1038]? = some (Cond.fieldLink RX11 40 RX11 "wanted" "[I") := by decide +kernel
theorem tw_1039 : lw_tbl[1039]? = some (Cond.fieldLink RX11 43 RX11 "hard" "[I") := by decide +kernel
theorem tw_1040 : lw_tbl[1040]? = some (Cond.fieldLink RX11 46 RX11 "minutes" "[I") := by decide +kernel
theorem tw_1041 : lw_tbl[1041]? = some (Cond.fieldLink RX11 140 RX11 "judges" "I") := by decide +kernel
theorem tw_1042 : lw_tbl[1042]? = some (Cond.fieldLink RX11 49 RX11 "judgeTown" "[I") := by decide +kernel
theorem tw_1043 : lw_tbl[1043]? = some (Cond.fieldLink RX11 52 RX11 "marks" "[I") := by decide +kernel
theorem tw_1044 : lw_tbl[1044]? = some (Cond.fieldLink RX11 55 RX11 "tape" "[B") := by decide +kernel
theorem tw_1045 : lw_tbl[1045]? = some (Cond.fieldLink RX11 205 RX11 "taped" "I") := by decide +kernel
theorem tw_1046 : lw_tbl[1046]? = some (Cond.fieldLink RX11 243 RX11 "rules" "I") := by decide +kernel
theorem tw_1047 : lw_tbl[1047]? = some (Cond.fieldLink RX11 59 RX11 "isBar" "[Z") := by decide +kernel
theorem tw_1048 : lw_tbl[1048]? = some (Cond.fieldLink RX11 63 RX11 "ruleKind" "[I") := by decide +kernel
theorem tw_1049 : lw_tbl[1049]? = some (Cond.fieldLink RX11 66 RX11 "tests" "[I") := by decide +kernel
theorem tw_1050 : lw_tbl[1050]? = some (Cond.fieldLink RX11 69 RX11 "testField" "[I") := by decide +kernel
theorem tw_1051 : lw_tbl[1051]? = some (Cond.fieldLink RX11 72 RX11 "testSign" "[I") := by decide +kernel
theorem tw_1052 : lw_tbl[1052]? = some (Cond.fieldLink RX11 75 RX11 "testNumber" "[I") := by decide +kernel
theorem tw_1053 : lw_tbl[1053]? = some (Cond.fieldLink RX11 208 RX11 "at" "I") := by decide +kernel
theorem tw_1054 : lw_tbl[1054]? = some (Cond.fieldLink RX11 211 RX11 "fault" "I") := by decide +kernel
theorem tw_1055 : lw_tbl[1055]? = some (Cond.fieldLink RX11 78 RX11 "letters" "[C") := by decide +kernel
theorem tw_1056 : lw_tbl[1056]? = some (Cond.fieldLink RX11 82 RX11 "begins" "[I") := by decide +kernel
theorem tw_1057 : lw_tbl[1057]? = some (Cond.fieldLink RX11 85 RX11 "sizes" "[I") := by decide +kernel
theorem tw_1058 : lw_tbl[1058]? = some (Cond.fieldLink RX11 88 RX11 "sums" "[I") := by decide +kernel
theorem tw_1059 : lw_tbl[1059]? = some (Cond.fieldLink RX11 91 RX11 "rows" "I") := by decide +kernel
theorem tw_1060 : lw_tbl[1060]? = some (Cond.fieldLink RX11 95 RX11 "wide" "I") := by decide +kernel
theorem tw_1061 : lw_tbl[1061]? = some (Cond.fieldLink RX11 98 RX11 "way" "[I") := by decide +kernel
theorem tw_1062 : lw_tbl[1062]? = some (Cond.fieldLink RX11 101 RX11 "bestWay" "[I") := by decide +kernel
theorem tw_1063 : lw_tbl[1063]? = some (Cond.fieldLink RX11 104 RX11 "sings" "[Z") := by decide +kernel
theorem tw_1064 : lw_tbl[1064]? = some (Cond.fieldLink RX11 107 RX11 "isYoung" "[Z") := by decide +kernel
theorem tw_1065 : lw_tbl[1065]? = some (Cond.fieldLink RX11 110 RX11 "cost" "[I") := by decide +kernel
theorem tw_1066 : lw_tbl[1066]? = some (Cond.fieldLink RX11 113 RX11 "least" "[I") := by decide +kernel
theorem tw_1067 : lw_tbl[1067]? = some (Cond.fieldLink RX11 116 RX11 "ordered" "[I") := by decide +kernel
theorem tw_1068 : lw_tbl[1068]? = some (Cond.fieldLink RX11 296 RX11 "orderMany" "I") := by decide +kernel
theorem tw_1069 : lw_tbl[1069]? = some (Cond.fieldLink RX11 119 RX11 "hallSong" "[I") := by decide +kernel
theorem tw_1070 : lw_tbl[1070]? = some (Cond.fieldLink RX11 122 RX11 "hallSet" "[I") := by decide +kernel
theorem tw_1071 : lw_tbl[1071]? = some (Cond.fieldLink RX11 125 RX11 "beds" "[I") := by decide +kernel
theorem tw_1072 : lw_tbl[1072]? = some (Cond.fieldLink RX11 128 RX11 "march" "[I") := by decide +kernel
theorem tw_1073 : lw_tbl[1073]? = some (Cond.fieldLink RX11 306 RX11 "marching" "I") := by decide +kernel
theorem tw_1074 : lw_tbl[1074]? = some (Cond.fieldLink RX11 131 RX11 "gap" "I") := by decide +kernel
theorem tw_1176 : lw_tbl[1176]? = some (Cond.arrayClass .char) := by decide +kernel
theorem tw_1177 : lw_tbl[1177]? = some (Cond.methodLink RL 17 yX11_choir) := by decide +kernel
theorem tw_1178 : lw_tbl[1178]? = some (Cond.instanceMethod yX11_choir) := by decide +kernel
theorem tw_1179 : lw_tbl[1179]? = some (Cond.selects RX11 yX11_choir yX11_choir) := by decide +kernel
theorem tw_1180 : lw_tbl[1180]? = some (Cond.code yX11_choir prog_13_method_10_code 8 (some .int)) := by decide +kernel
theorem tw_1181 : lw_tbl[1181]? = some (Cond.methodLink RX11 158 yX11_isTown) := by decide +kernel
theorem tw_1182 : lw_tbl[1182]? = some (Cond.static yX11_isTown) := by decide +kernel
theorem tw_1183 : lw_tbl[1183]? = some (Cond.code yX11_isTown prog_13_method_7_code 1 (some .boolean)) := by decide +kernel
theorem tw_1184 : lw_tbl[1184]? = some (Cond.constantLong RX11 143 7) := by decide +kernel
theorem tw_1185 : lw_tbl[1185]? = some (Cond.methodLink RX11 145 yX11_isIn) := by decide +kernel
theorem tw_1186 : lw_tbl[1186]? = some (Cond.static yX11_isIn) := by decide +kernel
theorem tw_1187 : lw_tbl[1187]? = some (Cond.code yX11_isIn prog_13_method_2_code 6 (some .boolean)) := by decide +kernel
theorem tw_1188 : lw_tbl[1188]? = some (Cond.methodLink RX11 162 yX11_isChoir) := by decide +kernel
theorem tw_1190 : lw_tbl[1190]? = some (Cond.instanceMethod yX11_isChoir) := by decide +kernel
theorem tw_1191 : lw_tbl[1191]? = some (Cond.code yX11_isChoir prog_13_method_4_code 2 (some .boolean)) := by decide +kernel
theorem tw_1192 : lw_tbl[1192]? = some (Cond.constantLong RX11 165 5) := by decide +kernel
theorem tw_1193 : lw_tbl[1193]? = some (Cond.methodLink RX11 167 yX11_suits) := by decide +kernel
theorem tw_1194 : lw_tbl[1194]? = some (Cond.static yX11_suits) := by decide +kernel
theorem tw_1195 : lw_tbl[1195]? = some (Cond.code yX11_suits prog_13_method_9_code 6 (some .boolean)) := by decide +kernel
theorem tw_1196 : lw_tbl[1196]? = some (Cond.methodLink RX11 150 yX11_digits) := by decide +kernel
theorem tw_1197 : lw_tbl[1197]? = some (Cond.static yX11_digits) := by decide +kernel
theorem tw_1198 : lw_tbl[1198]? = some (Cond.code yX11_digits prog_13_method_8_code 2 (some .int)) := by decide +kernel
theorem tw_1199 : lw_tbl[1199]? = some (Cond.constant RX11 149 1000000) := by decide +kernel
theorem tw_1200 : lw_tbl[1200]? = some (Cond.constantLong RX11 154 99999999) := by decide +kernel
theorem tw_1201 : lw_tbl[1201]? = some (Cond.constantLong RX11 156 3) := by decide +kernel
theorem tw_1202 : lw_tbl[1202]? = some (Cond.methodLink RL 22 yX11_day) := by decide +kernel
theorem tw_1203 : lw_tbl[1203]? = some (Cond.instanceMethod yX11_day) := by decide +kernel
theorem tw_1204 : lw_tbl[1204]? = some (Cond.selects RX11 yX11_day yX11_day) := by decide +kernel
theorem tw_1205 : lw_tbl[1205]? = some (Cond.code yX11_day prog_13_method_11_code 3 (some .int)) := by decide +kernel
theorem tw_1206 : lw_tbl[1206]? = some (Cond.methodLink RL 26 yX11_song) := by decide +kernel
theorem tw_1207 : lw_tbl[1207]? = some (Cond.instanceMethod yX11_song) := by decide +kernel
theorem tw_1208 : lw_tbl[1208]? = some (Cond.selects RX11 yX11_song yX11_song) := by decide +kernel
theorem tw_1209 : lw_tbl[1209]? = some (Cond.code yX11_song prog_13_method_12_code 5 (some .int)) := by decide +kernel
theorem tw_1210 : lw_tbl[1210]? = some (Cond.constantLong RX11 174 63) := by decide +kernel
theorem tw_1211 : lw_tbl[1211]? = some (Cond.constantLong RX11 176 15) := by decide +kernel
theorem tw_1212 : lw_tbl[1212]? = some (Cond.constantLong RX11 178 9) := by decide +kernel
theorem tw_1213 : lw_tbl[1213]? = some (Cond.constantLong RX11 180 30) := by decide +kernel
theorem tw_1214 : lw_tbl[1214]? = some (Cond.methodLink RL 30 yX11_judge) := by decide +kernel
theorem tw_1215 : lw_tbl[1215]? = some (Cond.instanceMethod yX11_judge) := by decide +kernel
theorem tw_1216 : lw_tbl[1216]? = some (Cond.selects RX11 yX11_judge yX11_judge) := by decide +kernel
theorem tw_1217 : lw_tbl[1217]? = some (Cond.code yX11_judge prog_13_method_13_code 2 (some .int)) := by decide +kernel
theorem tw_1218 : lw_tbl[1218]? = some (Cond.methodLink RL 35 yX11_mark) := by decide +kernel
theorem tw_1219 : lw_tbl[1219]? = some (Cond.instanceMethod yX11_mark) := by decide +kernel
theorem tw_1220 : lw_tbl[1220]? = some (Cond.selects RX11 yX11_mark yX11_mark) := by decide +kernel
theorem tw_1221 : lw_tbl[1221]? = some (Cond.code yX11_mark prog_13_method_14_code 5 (some .int)) := by decide +kernel
theorem tw_1222 : lw_tbl[1222]? = some (Cond.methodLink RX11 182 yX11_isJudge) := by decide +kernel
theorem tw_1224 : lw_tbl[1224]? = some (Cond.instanceMethod yX11_isJudge) := by decide +kernel
theorem tw_1225 : lw_tbl[1225]? = some (Cond.code yX11_isJudge prog_13_method_6_code 2 (some .boolean)) := by decide +kernel
theorem tw_1226 : lw_tbl[1226]? = some (Cond.constantLong RX11 185 100) := by decide +kernel
theorem tw_1227 : lw_tbl[1227]? = some (Cond.methodLink RL 39 yX11_mean) := by decide +kernel
theorem tw_1228 : lw_tbl[1228]? = some (Cond.instanceMethod yX11_mean) := by decide +kernel
theorem tw_1229 : lw_tbl[1229]? = some (Cond.selects RX11 yX11_mean yX11_mean) := by decide +kernel
theorem tw_1230 : lw_tbl[1230]? = some (Cond.code yX11_mean prog_13_method_16_code 2 (some .int)) := by decide +kernel
theorem tw_1231 : lw_tbl[1231]? = some (Cond.methodLink RX11 187 yX11_meanOf) := by decide +kernel
theorem tw_1233 : lw_tbl[1233]? = some (Cond.instanceMethod yX11_meanOf) := by decide +kernel
theorem tw_1234 : lw_tbl[1234]? = some (Cond.code yX11_meanOf prog_13_method_15_code 5 (some .int)) := by decide +kernel
theorem tw_1235 : lw_tbl[1235]? = some (Cond.methodLink RL 44 yX11_scale) := by decide +kernel
theorem tw_1236 : lw_tbl[1236]? = some (Cond.instanceMethod yX11_scale) := by decide +kernel
theorem tw_1237 : lw_tbl[1237]? = some (Cond.selects RX11 yX11_scale yX11_scale) := by decide +kernel
theorem tw_1238 : lw_tbl[1238]? = some (Cond.code yX11_scale prog_13_method_17_code 7 (some .int)) := by decide +kernel
theorem tw_1239 : lw_tbl[1239]? = some (Cond.methodLink RX11 191 yX11_up) := by decide +kernel
theorem tw_1240 : lw_tbl[1240]? = some (Cond.static yX11_up) := by decide +kernel
theorem tw_1241 : lw_tbl[1241]? = some (Cond.code yX11_up prog_13_method_3_code 2 (some .int)) := by decide +kernel
theorem tw_1242 : lw_tbl[1242]? = some (Cond.methodLink RL 48 yX11_about) := by decide +kernel
theorem tw_1243 : lw_tbl[1243]? = some (Cond.instanceMethod yX11_about) := by decide +kernel
theorem tw_1244 : lw_tbl[1244]? = some (Cond.selects RX11 yX11_about yX11_about) := by decide +kernel
theorem tw_1245 : lw_tbl[1245]? = some (Cond.code yX11_about prog_13_method_21_code 3 (some .int)) := by decide +kernel
theorem tw_1246 : lw_tbl[1246]? = some (Cond.methodLink RX11 197 yX11_sizeOf) := by decide +kernel
theorem tw_1248 : lw_tbl[1248]? = some (Cond.instanceMethod yX11_sizeOf) := by decide +kernel
theorem tw_1249 : lw_tbl[1249]? = some (Cond.code yX11_sizeOf prog_13_method_18_code 2 (some .int)) := by decide +kernel
theorem tw_1250 : lw_tbl[1250]? = some (Cond.methodLink RX11 200 yX11_isThere) := by decide +kernel
theorem tw_1252 : lw_tbl[1252]? = some (Cond.instanceMethod yX11_isThere) := by decide +kernel
theorem tw_1253 : lw_tbl[1253]? = some (Cond.code yX11_isThere prog_13_method_20_code 2 (some .boolean)) := by decide +kernel
theorem tw_1254 : lw_tbl[1254]? = some (Cond.methodLink RX11 194 yX11_hasCome) := by decide +kernel
theorem tw_1256 : lw_tbl[1256]? = some (Cond.instanceMethod yX11_hasCome) := by decide +kernel
theorem tw_1257 : lw_tbl[1257]? = some (Cond.code yX11_hasCome prog_13_method_19_code 2 (some .boolean)) := by decide +kernel
theorem tw_1258 : lw_tbl[1258]? = some (Cond.methodLink RL 52 yX11_voice) := by decide +kernel
theorem tw_1259 : lw_tbl[1259]? = some (Cond.instanceMethod yX11_voice) := by decide +kernel
theorem tw_1260 : lw_tbl[1260]? = some (Cond.selects RX11 yX11_voice yX11_voice) := by decide +kernel
theorem tw_1261 : lw_tbl[1261]? = some (Cond.code yX11_voice prog_13_method_22_code 3 (some .int)) := by decide +kernel
theorem tw_1262 : lw_tbl[1262]? = some (Cond.methodLink RL 59 yX11_feed) := by decide +kernel
theorem tw_1263 : lw_tbl[1263]? = some (Cond.instanceMethod yX11_feed) := by decide +kernel
theorem tw_1264 : lw_tbl[1264]? = some (Cond.selects RX11 yX11_feed yX11_feed) := by decide +kernel
theorem tw_1265 : lw_tbl[1265]? = some (Cond.code yX11_feed prog_13_method_23_code 5 (some .int)) := by decide +kernel
theorem tw_1266 : lw_tbl[1266]? = some (Cond.constantLong RX11 203 8) := by decide +kernel
theorem tw_1267 : lw_tbl[1267]? = some (Cond.methodLink RL 64 yX11_rule) := by decide +kernel
theorem tw_1268 : lw_tbl[1268]? = some (Cond.instanceMethod yX11_rule) := by decide +kernel
theorem tw_1269 : lw_tbl[1269]? = some (Cond.selects RX11 yX11_rule yX11_rule) := by decide +kernel
theorem tw_1270 : lw_tbl[1270]? = some (Cond.code yX11_rule prog_13_method_29_code 1 (some .int)) := by decide +kernel
theorem tw_1271 : lw_tbl[1271]? = some (Cond.methodLink RX11 246 yX11_read) := by decide +kernel
theorem tw_1273 : lw_tbl[1273]? = some (Cond.instanceMethod yX11_read) := by decide +kernel
theorem tw_1274 : lw_tbl[1274]? = some (Cond.code yX11_read prog_13_method_28_code 3 none) := by decide +kernel
theorem tw_1275 : lw_tbl[1275]? = some (Cond.methodLink RX11 214 yX11_letter) := by decide +kernel
theorem tw_1277 : lw_tbl[1277]? = some (Cond.instanceMethod yX11_letter) := by decide +kernel
theorem tw_1278 : lw_tbl[1278]? = some (Cond.code yX11_letter prog_13_method_24_code 1 (some .int)) := by decide +kernel
theorem tw_1279 : lw_tbl[1279]? = some (Cond.constantLong RX11 227 1650553376) := by decide +kernel
theorem tw_1280 : lw_tbl[1280]? = some (Cond.constantLong RX11 229 1818588192) := by decide +kernel
theorem tw_1281 : lw_tbl[1281]? = some (Cond.methodLink RX11 220 yX11_expect) := by decide +kernel
theorem tw_1283 : lw_tbl[1283]? = some (Cond.instanceMethod yX11_expect) := by decide +kernel
theorem tw_1284 : lw_tbl[1284]? = some (Cond.code yX11_expect prog_13_method_25_code 5 none) := by decide +kernel
theorem tw_1285 : lw_tbl[1285]? = some (Cond.constantLong RX11 218 255) := by decide +kernel
theorem tw_1286 : lw_tbl[1286]? = some (Cond.constantLong RX11 231 48) := by decide +kernel
theorem tw_1287 : lw_tbl[1287]? = some (Cond.constantLong RX11 233 53) := by decide +kernel
theorem tw_1288 : lw_tbl[1288]? = some (Cond.constantLong RX11 235 543778336) := by decide +kernel
theorem tw_1289 : lw_tbl[1289]? = some (Cond.constantLong RX11 237 139073578016) := by decide +kernel
theorem tw_1290 : lw_tbl[1290]? = some (Cond.methodLink RX11 239 yX11_readTest) := by decide +kernel
theorem tw_1292 : lw_tbl[1292]? = some (Cond.instanceMethod yX11_readTest) := by decide +kernel
theorem tw_1293 : lw_tbl[1293]? = some (Cond.code yX11_readTest prog_13_method_27_code 5 none) := by decide +kernel
theorem tw_1294 : lw_tbl[1294]? = some (Cond.methodLink RX11 224 yX11_isDigit) := by decide +kernel
theorem tw_1295 : lw_tbl[1295]? = some (Cond.static yX11_isDigit) := by decide +kernel
theorem tw_1296 : lw_tbl[1296]? = some (Cond.code yX11_isDigit prog_13_method_26_code 1 (some .boolean)) := by decide +kernel
theorem tw_1297 : lw_tbl[1297]? = some (Cond.methodLink RL 68 yX11_may) := by decide +kernel
theorem tw_1298 : lw_tbl[1298]? = some (Cond.instanceMethod yX11_may) := by decide +kernel
theorem tw_1299 : lw_tbl[1299]? = some (Cond.selects RX11 yX11_may yX11_may) := by decide +kernel
theorem tw_1300 : lw_tbl[1300]? = some (Cond.code yX11_may prog_13_method_33_code 3 (some .int)) := by decide +kernel
theorem tw_1301 : lw_tbl[1301]? = some (Cond.methodLink RX11 255 yX11_isSong) := by decide +kernel
theorem tw_1303 : lw_tbl[1303]? = some (Cond.instanceMethod yX11_isSong) := by decide +kernel
theorem tw_1304 : lw_tbl[1304]? = some (Cond.code yX11_isSong prog_13_method_5_code 2 (some .boolean)) := by decide +kernel
theorem tw_1305 : lw_tbl[1305]? = some (Cond.methodLink RX11 258 yX11_mayOf) := by decide +kernel
theorem tw_1307 : lw_tbl[1307]? = some (Cond.instanceMethod yX11_mayOf) := by decide +kernel
theorem tw_1308 : lw_tbl[1308]? = some (Cond.code yX11_mayOf prog_13_method_32_code 4 (some .int)) := by decide +kernel
theorem tw_1309 : lw_tbl[1309]? = some (Cond.methodLink RX11 252 yX11_ruleFor) := by decide +kernel
theorem tw_1311 : lw_tbl[1311]? = some (Cond.instanceMethod yX11_ruleFor) := by decide +kernel
theorem tw_1312 : lw_tbl[1312]? = some (Cond.code yX11_ruleFor prog_13_method_31_code 5 (some .int)) := by decide +kernel
theorem tw_1313 : lw_tbl[1313]? = some (Cond.methodLink RX11 249 yX11_holds) := by decide +kernel
theorem tw_1315 : lw_tbl[1315]? = some (Cond.instanceMethod yX11_holds) := by decide +kernel
theorem tw_1316 : lw_tbl[1316]? = some (Cond.code yX11_holds prog_13_method_30_code 10 (some .boolean)) := by decide +kernel
theorem tw_1317 : lw_tbl[1317]? = some (Cond.methodLink RL 72 yX11_why) := by decide +kernel
theorem tw_1318 : lw_tbl[1318]? = some (Cond.instanceMethod yX11_why) := by decide +kernel
theorem tw_1319 : lw_tbl[1319]? = some (Cond.selects RX11 yX11_why yX11_why) := by decide +kernel
theorem tw_1320 : lw_tbl[1320]? = some (Cond.code yX11_why prog_13_method_34_code 3 (some .int)) := by decide +kernel
theorem tw_1321 : lw_tbl[1321]? = some (Cond.methodLink RL 76 yX11_vote) := by decide +kernel
theorem tw_1322 : lw_tbl[1322]? = some (Cond.instanceMethod yX11_vote) := by decide +kernel
theorem tw_1323 : lw_tbl[1323]? = some (Cond.selects RX11 yX11_vote yX11_vote) := by decide +kernel
theorem tw_1324 : lw_tbl[1324]? = some (Cond.code yX11_vote prog_13_method_35_code 4 (some .int)) := by decide +kernel
theorem tw_1325 : lw_tbl[1325]? = some (Cond.constantLong RX11 261 (-1)) := by decide +kernel
theorem tw_1326 : lw_tbl[1326]? = some (Cond.methodLink RL 80 yX11_leader) := by decide +kernel
theorem tw_1327 : lw_tbl[1327]? = some (Cond.instanceMethod yX11_leader) := by decide +kernel
theorem tw_1328 : lw_tbl[1328]? = some (Cond.selects RX11 yX11_leader yX11_leader) := by decide +kernel
theorem tw_1329 : lw_tbl[1329]? = some (Cond.code yX11_leader prog_13_method_36_code 4 (some .int)) := by decide +kernel
theorem tw_1330 : lw_tbl[1330]? = some (Cond.methodLink RL 84 yX11_stage) := by decide +kernel
theorem tw_1331 : lw_tbl[1331]? = some (Cond.instanceMethod yX11_stage) := by decide +kernel
theorem tw_1332 : lw_tbl[1332]? = some (Cond.selects RX11 yX11_stage yX11_stage) := by decide +kernel
theorem tw_1333 : lw_tbl[1333]? = some (Cond.code yX11_stage prog_13_method_38_code 3 (some .int)) := by decide +kernel
theorem tw_1334 : lw_tbl[1334]? = some (Cond.constantLong RX11 263 60) := by decide +kernel
theorem tw_1335 : lw_tbl[1335]? = some (Cond.methodLink RX11 265 yX11_blocks) := by decide +kernel
theorem tw_1337 : lw_tbl[1337]? = some (Cond.instanceMethod yX11_blocks) := by decide +kernel
theorem tw_1338 : lw_tbl[1338]? = some (Cond.code yX11_blocks prog_13_method_37_code 3 (some .int)) := by decide +kernel
theorem tw_1339 : lw_tbl[1339]? = some (Cond.methodLink RL 88 yX11_tall) := by decide +kernel
theorem tw_1340 : lw_tbl[1340]? = some (Cond.instanceMethod yX11_tall) := by decide +kernel
theorem tw_1341 : lw_tbl[1341]? = some (Cond.selects RX11 yX11_tall yX11_tall) := by decide +kernel
theorem tw_1342 : lw_tbl[1342]? = some (Cond.code yX11_tall prog_13_method_39_code 4 (some .int)) := by decide +kernel
theorem tw_1343 : lw_tbl[1343]? = some (Cond.methodLink RL 92 yX11_stand) := by decide +kernel
theorem tw_1344 : lw_tbl[1344]? = some (Cond.instanceMethod yX11_stand) := by decide +kernel
theorem tw_1345 : lw_tbl[1345]? = some (Cond.selects RX11 yX11_stand yX11_stand) := by decide +kernel
theorem tw_1346 : lw_tbl[1346]? = some (Cond.code yX11_stand prog_13_method_41_code 4 (some .int)) := by decide +kernel
theorem tw_1347 : lw_tbl[1347]? = some (Cond.methodLink RX11 268 yX11_isFree) := by decide +kernel
theorem tw_1349 : lw_tbl[1349]? = some (Cond.instanceMethod yX11_isFree) := by decide +kernel
theorem tw_1350 : lw_tbl[1350]? = some (Cond.code yX11_isFree prog_13_method_40_code 6 (some .boolean)) := by decide +kernel
theorem tw_1351 : lw_tbl[1351]? = some (Cond.methodLink RL 96 yX11_off) := by decide +kernel
theorem tw_1352 : lw_tbl[1352]? = some (Cond.instanceMethod yX11_off) := by decide +kernel
theorem tw_1353 : lw_tbl[1353]? = some (Cond.selects RX11 yX11_off yX11_off) := by decide +kernel
theorem tw_1354 : lw_tbl[1354]? = some (Cond.code yX11_off prog_13_method_44_code 3 (some .int)) := by decide +kernel
theorem tw_1355 : lw_tbl[1355]? = some (Cond.methodLink RX11 275 yX11_secondsOf) := by decide +kernel
theorem tw_1357 : lw_tbl[1357]? = some (Cond.instanceMethod yX11_secondsOf) := by decide +kernel
theorem tw_1358 : lw_tbl[1358]? = some (Cond.code yX11_secondsOf prog_13_method_43_code 3 (some .int)) := by decide +kernel
theorem tw_1359 : lw_tbl[1359]? = some (Cond.methodLink RX11 271 yX11_goesLeft) := by decide +kernel
theorem tw_1361 : lw_tbl[1361]? = some (Cond.instanceMethod yX11_goesLeft) := by decide +kernel
theorem tw_1362 : lw_tbl[1362]? = some (Cond.code yX11_goesLeft prog_13_method_42_code 3 (some .boolean)) := by decide +kernel
theorem tw_1363 : lw_tbl[1363]? = some (Cond.methodLink RL 100 yX11_well) := by decide +kernel
theorem tw_1364 : lw_tbl[1364]? = some (Cond.instanceMethod yX11_well) := by decide +kernel
theorem tw_1365 : lw_tbl[1365]? = some (Cond.selects RX11 yX11_well yX11_well) := by decide +kernel
theorem tw_1366 : lw_tbl[1366]? = some (Cond.code yX11_well prog_13_method_45_code 4 (some .int)) := by decide +kernel
theorem tw_1367 : lw_tbl[1367]? = some (Cond.methodLink RL 104 yX11_clear) := by decide +kernel
theorem tw_1368 : lw_tbl[1368]? = some (Cond.instanceMethod yX11_clear) := by decide +kernel
theorem tw_1369 : lw_tbl[1369]? = some (Cond.selects RX11 yX11_clear yX11_clear) := by decide +kernel
theorem tw_1370 : lw_tbl[1370]? = some (Cond.code yX11_clear prog_13_method_46_code 5 (some .int)) := by decide +kernel
theorem tw_1371 : lw_tbl[1371]? = some (Cond.methodLink RL 108 yX11_lay) := by decide +kernel
theorem tw_1372 : lw_tbl[1372]? = some (Cond.instanceMethod yX11_lay) := by decide +kernel
theorem tw_1373 : lw_tbl[1373]? = some (Cond.selects RX11 yX11_lay yX11_lay) := by decide +kernel
theorem tw_1374 : lw_tbl[1374]? = some (Cond.code yX11_lay prog_13_method_50_code 10 (some .int)) := by decide +kernel
theorem tw_1375 : lw_tbl[1375]? = some (Cond.methodLink RX11 278 yX11_countBits) := by decide +kernel
theorem tw_1376 : lw_tbl[1376]? = some (Cond.static yX11_countBits) := by decide +kernel
theorem tw_1377 : lw_tbl[1377]? = some (Cond.code yX11_countBits prog_13_method_47_code 3 (some .int)) := by decide +kernel
theorem tw_1378 : lw_tbl[1378]? = some (Cond.methodLink RX11 281 yX11_clearOf) := by decide +kernel
theorem tw_1380 : lw_tbl[1380]? = some (Cond.instanceMethod yX11_clearOf) := by decide +kernel
theorem tw_1381 : lw_tbl[1381]? = some (Cond.code yX11_clearOf prog_13_method_48_code 8 (some .int)) := by decide +kernel
theorem tw_1382 : lw_tbl[1382]? = some (Cond.methodLink RX11 284 yX11_isNext) := by decide +kernel
theorem tw_1384 : lw_tbl[1384]? = some (Cond.instanceMethod yX11_isNext) := by decide +kernel
theorem tw_1385 : lw_tbl[1385]? = some (Cond.code yX11_isNext prog_13_method_49_code 7 (some .boolean)) := by decide +kernel
theorem tw_1386 : lw_tbl[1386]? = some (Cond.methodLink RL 112 yX11_change) := by decide +kernel
theorem tw_1387 : lw_tbl[1387]? = some (Cond.instanceMethod yX11_change) := by decide +kernel
theorem tw_1388 : lw_tbl[1388]? = some (Cond.selects RX11 yX11_change yX11_change) := by decide +kernel
theorem tw_1389 : lw_tbl[1389]? = some (Cond.code yX11_change prog_13_method_52_code 3 (some .int)) := by decide +kernel
theorem tw_1390 : lw_tbl[1390]? = some (Cond.methodLink RX11 287 yX11_ask) := by decide +kernel
theorem tw_1392 : lw_tbl[1392]? = some (Cond.instanceMethod yX11_ask) := by decide +kernel
theorem tw_1393 : lw_tbl[1393]? = some (Cond.code yX11_ask prog_13_method_51_code 5 none) := by decide +kernel
theorem tw_1394 : lw_tbl[1394]? = some (Cond.methodLink RL 116 yX11_order) := by decide +kernel
theorem tw_1395 : lw_tbl[1395]? = some (Cond.instanceMethod yX11_order) := by decide +kernel
theorem tw_1396 : lw_tbl[1396]? = some (Cond.selects RX11 yX11_order yX11_order) := by decide +kernel
theorem tw_1397 : lw_tbl[1397]? = some (Cond.code yX11_order prog_13_method_55_code 9 (some .int)) := by decide +kernel
theorem tw_1398 : lw_tbl[1398]? = some (Cond.methodLink RX11 293 yX11_findLeast) := by decide +kernel
theorem tw_1400 : lw_tbl[1400]? = some (Cond.instanceMethod yX11_findLeast) := by decide +kernel
theorem tw_1401 : lw_tbl[1401]? = some (Cond.code yX11_findLeast prog_13_method_54_code 7 none) := by decide +kernel
theorem tw_1402 : lw_tbl[1402]? = some (Cond.methodLink RX11 290 yX11_mayCome) := by decide +kernel
theorem tw_1404 : lw_tbl[1404]? = some (Cond.instanceMethod yX11_mayCome) := by decide +kernel
theorem tw_1405 : lw_tbl[1405]? = some (Cond.code yX11_mayCome prog_13_method_53_code 3 (some .boolean)) := by decide +kernel
theorem tw_1406 : lw_tbl[1406]? = some (Cond.methodLink RL 120 yX11_ordered) := by decide +kernel
theorem tw_1407 : lw_tbl[1407]? = some (Cond.instanceMethod yX11_ordered) := by decide +kernel
theorem tw_1408 : lw_tbl[1408]? = some (Cond.selects RX11 yX11_ordered yX11_ordered) := by decide +kernel
theorem tw_1409 : lw_tbl[1409]? = some (Cond.code yX11_ordered prog_13_method_56_code 2 (some .int)) := by decide +kernel
theorem tw_1410 : lw_tbl[1410]? = some (Cond.methodLink RL 124 yX11_rehearse) := by decide +kernel
theorem tw_1411 : lw_tbl[1411]? = some (Cond.instanceMethod yX11_rehearse) := by decide +kernel
theorem tw_1412 : lw_tbl[1412]? = some (Cond.selects RX11 yX11_rehearse yX11_rehearse) := by decide +kernel
theorem tw_1413 : lw_tbl[1413]? = some (Cond.code yX11_rehearse prog_13_method_57_code 7 (some .int)) := by decide +kernel
theorem tw_1414 : lw_tbl[1414]? = some (Cond.constantLong RX11 299 23) := by decide +kernel
theorem tw_1415 : lw_tbl[1415]? = some (Cond.methodLink RL 128 yX11_hall) := by decide +kernel
theorem tw_1416 : lw_tbl[1416]? = some (Cond.instanceMethod yX11_hall) := by decide +kernel
theorem tw_1417 : lw_tbl[1417]? = some (Cond.selects RX11 yX11_hall yX11_hall) := by decide +kernel
theorem tw_1418 : lw_tbl[1418]? = some (Cond.code yX11_hall prog_13_method_58_code 3 (some .int)) := by decide +kernel
theorem tw_1419 : lw_tbl[1419]? = some (Cond.methodLink RL 132 yX11_whole) := by decide +kernel
theorem tw_1420 : lw_tbl[1420]? = some (Cond.instanceMethod yX11_whole) := by decide +kernel
theorem tw_1421 : lw_tbl[1421]? = some (Cond.selects RX11 yX11_whole yX11_whole) := by decide +kernel
theorem tw_1422 : lw_tbl[1422]? = some (Cond.code yX11_whole prog_13_method_59_code 7 (some .int)) := by decide +kernel
theorem tw_1423 : lw_tbl[1423]? = some (Cond.methodLink RL 136 yX11_beds) := by decide +kernel
theorem tw_1424 : lw_tbl[1424]? = some (Cond.instanceMethod yX11_beds) := by decide +kernel
theorem tw_1425 : lw_tbl[1425]? = some (Cond.selects RX11 yX11_beds yX11_beds) := by decide +kernel
theorem tw_1426 : lw_tbl[1426]? = some (Cond.code yX11_beds prog_13_method_61_code 4 (some .int)) := by decide +kernel
theorem tw_1427 : lw_tbl[1427]? = some (Cond.constantLong RX11 301 999) := by decide +kernel
theorem tw_1428 : lw_tbl[1428]? = some (Cond.methodLink RX11 303 yX11_takenIn) := by decide +kernel
theorem tw_1430 : lw_tbl[1430]? = some (Cond.instanceMethod yX11_takenIn) := by decide +kernel
theorem tw_1431 : lw_tbl[1431]? = some (Cond.code yX11_takenIn prog_13_method_60_code 4 (some .int)) := by decide +kernel
theorem tw_1432 : lw_tbl[1432]? = some (Cond.methodLink RL 140 yX11_sleep) := by decide +kernel
theorem tw_1433 : lw_tbl[1433]? = some (Cond.instanceMethod yX11_sleep) := by decide +kernel
theorem tw_1434 : lw_tbl[1434]? = some (Cond.selects RX11 yX11_sleep yX11_sleep) := by decide +kernel
theorem tw_1435 : lw_tbl[1435]? = some (Cond.code yX11_sleep prog_13_method_62_code 4 (some .int)) := by decide +kernel
theorem tw_1436 : lw_tbl[1436]? = some (Cond.methodLink RL 144 yX11_bed) := by decide +kernel
theorem tw_1437 : lw_tbl[1437]? = some (Cond.instanceMethod yX11_bed) := by decide +kernel
theorem tw_1438 : lw_tbl[1438]? = some (Cond.selects RX11 yX11_bed yX11_bed) := by decide +kernel
theorem tw_1439 : lw_tbl[1439]? = some (Cond.code yX11_bed prog_13_method_63_code 8 (some .int)) := by decide +kernel
theorem tw_1440 : lw_tbl[1440]? = some (Cond.methodLink RL 148 yX11_march) := by decide +kernel
theorem tw_1441 : lw_tbl[1441]? = some (Cond.instanceMethod yX11_march) := by decide +kernel
theorem tw_1442 : lw_tbl[1442]? = some (Cond.selects RX11 yX11_march yX11_march) := by decide +kernel
theorem tw_1443 : lw_tbl[1443]? = some (Cond.code yX11_march prog_13_method_66_code 2 (some .int)) := by decide +kernel
theorem tw_1444 : lw_tbl[1444]? = some (Cond.methodLink RX11 309 yX11_placeIn) := by decide +kernel
theorem tw_1446 : lw_tbl[1446]? = some (Cond.instanceMethod yX11_placeIn) := by decide +kernel
theorem tw_1447 : lw_tbl[1447]? = some (Cond.code yX11_placeIn prog_13_method_65_code 3 (some .int)) := by decide +kernel
theorem tw_1448 : lw_tbl[1448]? = some (Cond.methodLink RX11 312 yX11_length) := by decide +kernel
theorem tw_1450 : lw_tbl[1450]? = some (Cond.instanceMethod yX11_length) := by decide +kernel
theorem tw_1451 : lw_tbl[1451]? = some (Cond.code yX11_length prog_13_method_64_code 3 (some .int)) := by decide +kernel
theorem tw_1452 : lw_tbl[1452]? = some (Cond.methodLink RL 152 yX11_leave) := by decide +kernel
theorem tw_1453 : lw_tbl[1453]? = some (Cond.instanceMethod yX11_leave) := by decide +kernel
theorem tw_1454 : lw_tbl[1454]? = some (Cond.selects RX11 yX11_leave yX11_leave) := by decide +kernel
theorem tw_1455 : lw_tbl[1455]? = some (Cond.code yX11_leave prog_13_method_67_code 4 (some .int)) := by decide +kernel
theorem tw_1456 : lw_tbl[1456]? = some (Cond.methodLink RL 156 yX11_gap) := by decide +kernel
theorem tw_1457 : lw_tbl[1457]? = some (Cond.instanceMethod yX11_gap) := by decide +kernel
theorem tw_1458 : lw_tbl[1458]? = some (Cond.selects RX11 yX11_gap yX11_gap) := by decide +kernel
theorem tw_1459 : lw_tbl[1459]? = some (Cond.code yX11_gap prog_13_method_68_code 3 (some .int)) := by decide +kernel
theorem tw_1460 : lw_tbl[1460]? = some (Cond.methodLink RL 160 yX11_count) := by decide +kernel
theorem tw_1461 : lw_tbl[1461]? = some (Cond.instanceMethod yX11_count) := by decide +kernel
theorem tw_1462 : lw_tbl[1462]? = some (Cond.selects RX11 yX11_count yX11_count) := by decide +kernel
theorem tw_1463 : lw_tbl[1463]? = some (Cond.code yX11_count prog_13_method_69_code 4 (some .int)) := by decide +kernel
theorem tw_1464 : lw_tbl[1464]? = some (Cond.constantLong RL 53 4294967295) := by decide +kernel
