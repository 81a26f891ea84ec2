/-! ===== the methods: names, codes, rooms ===== -/
def FU : Nat := 10000
def q_X5_init : MI := (yX5_init, cX5_init, 1, none, 1, 20, 2, 0)
def q_X1_init : MI := (yX1_init, cX1_init, 1, none, 1, 20, 2, 0)
def q_X6_init : MI := (yX6_init, cX6_init, 1, none, 2, 40, 2, 0)
def q_X3_init : MI := (yX3_init, cX3_init, 1, none, 1, 20, 2, 0)
def q_X4_init : MI := (yX4_init, cX4_init, 1, none, 2, 40, 2, 0)
def q_X2_init : MI := (yX2_init, cX2_init, 1, none, 3, 60, 2, 0)
def q_X7_init : MI := (yX7_init, cX7_init, 2, none, 4, 80, 2, 0)
def q_X5_append : MI := (yX5_append, cX5_append, 3, none, 1, 20, 1, 1)
def q_X7_feed : MI := (yX7_feed, cX7_feed, 6, (some .int), 2, 42, 1, 5)
def q_X7_refuse : MI := (yX7_refuse, cX7_refuse, 2, (some .int), 1, 20, 1, 1)
def q_X1_empty : MI := (yX1_empty, cX1_empty, 2, none, 1, 20, 1, 0)
def q_X6_empty : MI := (yX6_empty, cX6_empty, 2, none, 2, 41, 1, 0)
def q_X5_byteAt : MI := (yX5_byteAt, cX5_byteAt, 2, (some .int), 1, 20, 1, 1)
def q_X5_isSmall : MI := (yX5_isSmall, cX5_isSmall, 1, (some .boolean), 1, 20, 0, 1)
def q_X5_isDigit : MI := (yX5_isDigit, cX5_isDigit, 1, (some .boolean), 1, 20, 0, 1)
def q_X5_advance : MI := (yX5_advance, cX5_advance, 2, none, 2, 41, 1, 0)
def q_X5_isName : MI := (yX5_isName, cX5_isName, 3, (some .boolean), 7, 221, 1, 1)
def q_X5_fails : MI := (yX5_fails, cX5_fails, 2, (some .boolean), 1, 20, 1, 1)
def q_X5_isWhole : MI := (yX5_isWhole, cX5_isWhole, 3, (some .boolean), 2, 41, 1, 2)
def q_X5_readsMachine : MI := (yX5_readsMachine, cX5_readsMachine, 2, (some .boolean), 8, 243, 1, 1)
def q_X5_lineSort : MI := (yX5_lineSort, cX5_lineSort, 1, (some .int), 8, 243, 1, 0)
def q_X5_isFull : MI := (yX5_isFull, cX5_isFull, 2, (some .boolean), 1, 20, 0, 2)
def q_X1_isBacked : MI := (yX1_isBacked, cX1_isBacked, 2, (some .boolean), 1, 20, 1, 1)
def q_X1_isTaken : MI := (yX1_isTaken, cX1_isTaken, 3, (some .boolean), 1, 20, 1, 1)
def q_X1_backWith : MI := (yX1_backWith, cX1_backWith, 4, none, 1, 20, 1, 3)
def q_X6_addHost : MI := (yX6_addHost, cX6_addHost, 4, none, 2, 43, 1, 3)
def q_X5_readsHost : MI := (yX5_readsHost, cX5_readsHost, 5, (some .boolean), 8, 243, 1, 1)
def q_X1_spot : MI := (yX1_spot, cX1_spot, 2, (some .int), 1, 20, 0, 2)
def q_X6_toldWord : MI := (yX6_toldWord, cX6_toldWord, 3, (some .boolean), 2, 41, 1, 2)
def q_X6_doubted : MI := (yX6_doubted, cX6_doubted, 4, (some .boolean), 2, 41, 1, 2)
def q_X1_setWord : MI := (yX1_setWord, cX1_setWord, 4, none, 2, 41, 1, 3)
def q_X6_addWord : MI := (yX6_addWord, cX6_addWord, 4, none, 3, 64, 1, 3)
def q_X6_addDoubt : MI := (yX6_addDoubt, cX6_addDoubt, 4, none, 2, 41, 1, 3)
def q_X5_readsWord : MI := (yX5_readsWord, cX5_readsWord, 5, (some .boolean), 4, 87, 1, 2)
def q_X5_modeNamed : MI := (yX5_modeNamed, cX5_modeNamed, 1, (some .int), 8, 243, 1, 0)
def q_X5_isWay : MI := (yX5_isWay, cX5_isWay, 3, (some .boolean), 9, 263, 1, 0)
def q_X6_addStep : MI := (yX6_addStep, cX6_addStep, 2, none, 1, 20, 1, 1)
def q_X5_readsRun : MI := (yX5_readsRun, cX5_readsRun, 2, (some .boolean), 10, 285, 1, 1)
def q_X6_sighted : MI := (yX6_sighted, cX6_sighted, 3, (some .boolean), 1, 20, 1, 1)
def q_X5_howNamed : MI := (yX5_howNamed, cX5_howNamed, 1, (some .int), 8, 243, 1, 0)
def q_X6_addSight : MI := (yX6_addSight, cX6_addSight, 3, none, 1, 20, 1, 2)
def q_X5_readsSaw : MI := (yX5_readsSaw, cX5_readsSaw, 4, (some .boolean), 10, 285, 1, 1)
def q_X5_readsLine : MI := (yX5_readsLine, cX5_readsLine, 3, (some .boolean), 11, 308, 1, 1)
def q_X5_reads : MI := (yX5_reads, cX5_reads, 4, (some .boolean), 12, 330, 1, 2)
def q_X1_copyFrom : MI := (yX1_copyFrom, cX1_copyFrom, 2, none, 1, 60, 1, 1)
def q_X3_vacate : MI := (yX3_vacate, cX3_vacate, 3, none, 1, 20, 1, 1)
def q_X3_startWith : MI := (yX3_startWith, cX3_startWith, 3, none, 2, 42, 1, 1)
def q_X2_clearCounts : MI := (yX2_clearCounts, cX2_clearCounts, 1, none, 1, 20, 1, 0)
def q_X2_startAnew : MI := (yX2_startAnew, cX2_startAnew, 3, none, 3, 81, 1, 2)
def q_X7_begin : MI := (yX7_begin, cX7_begin, 1, none, 4, 103, 1, 0)
def q_X7_answer : MI := (yX7_answer, cX7_answer, 2, (some .int), 1, 20, 1, 1)
def q_X7_machine : MI := (yX7_machine, cX7_machine, 3, (some .int), 13, 353, 1, 1)
def q_X7_fault : MI := (yX7_fault, cX7_fault, 1, (some .int), 1, 20, 1, 0)
def q_X7_where : MI := (yX7_where, cX7_where, 1, (some .int), 1, 20, 1, 0)
def q_X7_isFrame : MI := (yX7_isFrame, cX7_isFrame, 2, (some .boolean), 1, 20, 1, 1)
def q_X7_isPlace : MI := (yX7_isPlace, cX7_isPlace, 1, (some .boolean), 1, 20, 0, 1)
def q_X1_wordAt : MI := (yX1_wordAt, cX1_wordAt, 3, (some .int), 1, 20, 1, 2)
def q_X7_word : MI := (yX7_word, cX7_word, 3, (some .int), 2, 42, 1, 2)
def q_X1_hostOf : MI := (yX1_hostOf, cX1_hostOf, 2, (some .int), 1, 20, 1, 1)
def q_X7_backing : MI := (yX7_backing, cX7_backing, 2, (some .int), 2, 41, 1, 1)
def q_X7_has : MI := (yX7_has, cX7_has, 2, (some .boolean), 1, 20, 0, 2)
def q_X1_isWritable : MI := (yX1_isWritable, cX1_isWritable, 2, (some .boolean), 2, 41, 1, 1)
def q_X7_bit : MI := (yX7_bit, cX7_bit, 1, (some .int), 1, 20, 0, 1)
def q_X7_writes : MI := (yX7_writes, cX7_writes, 2, (some .int), 3, 62, 1, 1)
def q_X7_root : MI := (yX7_root, cX7_root, 1, (some .int), 2, 41, 1, 0)
def q_X7_marks : MI := (yX7_marks, cX7_marks, 1, (some .int), 2, 41, 1, 0)
def q_X1_placesWith : MI := (yX1_placesWith, cX1_placesWith, 5, (some .int), 2, 42, 1, 2)
def q_X7_wordsWith : MI := (yX7_wordsWith, cX7_wordsWith, 3, (some .int), 3, 66, 1, 2)
def q_X7_isPage : MI := (yX7_isPage, cX7_isPage, 2, (some .boolean), 1, 20, 1, 1)
def q_X7_mode : MI := (yX7_mode, cX7_mode, 2, (some .int), 1, 20, 0, 2)
def q_X1_upperWord : MI := (yX1_upperWord, cX1_upperWord, 2, (some .int), 2, 42, 1, 1)
def q_X1_barOf : MI := (yX1_barOf, cX1_barOf, 2, (some .int), 2, 41, 0, 2)
def q_X7_frameIn : MI := (yX7_frameIn, cX7_frameIn, 1, (some .int), 1, 20, 0, 1)
def q_X1_lastWord : MI := (yX1_lastWord, cX1_lastWord, 3, (some .int), 2, 42, 1, 1)
def q_X1_firstOfLarge : MI := (yX1_firstOfLarge, cX1_firstOfLarge, 1, (some .int), 1, 20, 0, 1)
def q_X1_frameTold : MI := (yX1_frameTold, cX1_frameTold, 3, (some .int), 2, 42, 1, 1)
def q_X1_seek : MI := (yX1_seek, cX1_seek, 6, (some .int), 3, 64, 1, 2)
def q_X7_look : MI := (yX7_look, cX7_look, 4, (some .int), 4, 89, 1, 3)
def q_X1_frameBehind : MI := (yX1_frameBehind, cX1_frameBehind, 2, (some .int), 3, 64, 1, 1)
def q_X7_leads : MI := (yX7_leads, cX7_leads, 2, (some .int), 4, 85, 1, 1)
def q_X1_modesDone : MI := (yX1_modesDone, cX1_modesDone, 4, (some .int), 4, 89, 1, 1)
def q_X7_rights : MI := (yX7_rights, cX7_rights, 2, (some .int), 5, 112, 1, 1)
def q_X7_large : MI := (yX7_large, cX7_large, 3, (some .int), 3, 63, 1, 1)
def q_X1_pagesTo : MI := (yX1_pagesTo, cX1_pagesTo, 4, (some .int), 4, 85, 1, 1)
def q_X7_aliases : MI := (yX7_aliases, cX7_aliases, 2, (some .int), 5, 108, 1, 1)
def q_X1_tableFrames : MI := (yX1_tableFrames, cX1_tableFrames, 4, (some .int), 2, 42, 1, 0)
def q_X7_tables : MI := (yX7_tables, cX7_tables, 1, (some .int), 3, 65, 1, 0)
def q_X3_find : MI := (yX3_find, cX3_find, 4, (some .int), 1, 20, 1, 2)
def q_X3_entryAt : MI := (yX3_entryAt, cX3_entryAt, 3, (some .int), 1, 20, 1, 2)
def q_X3_upperEntry : MI := (yX3_upperEntry, cX3_upperEntry, 4, (some .int), 2, 43, 1, 2)
def q_X3_hitEntry : MI := (yX3_hitEntry, cX3_hitEntry, 7, (some .int), 3, 66, 1, 3)
def q_X2_hostByHardware : MI := (yX2_hostByHardware, cX2_hostByHardware, 4, (some .int), 4, 92, 1, 2)
def q_X7_hits : MI := (yX7_hits, cX7_hits, 4, (some .int), 5, 115, 1, 3)
def q_X2_isStale : MI := (yX2_isStale, cX2_isStale, 4, (some .boolean), 5, 115, 1, 2)
def q_X2_staleWays : MI := (yX2_staleWays, cX2_staleWays, 3, (some .int), 6, 138, 1, 0)
def q_X7_stale : MI := (yX7_stale, cX7_stale, 1, (some .int), 7, 160, 1, 0)
def q_X2_firstStalePage : MI := (yX2_firstStalePage, cX2_firstStalePage, 2, (some .int), 6, 138, 1, 0)
def q_X7_staleAt : MI := (yX7_staleAt, cX7_staleAt, 1, (some .int), 7, 159, 1, 0)
def q_X2_missingWays : MI := (yX2_missingWays, cX2_missingWays, 5, (some .int), 5, 115, 1, 0)
def q_X7_missing : MI := (yX7_missing, cX7_missing, 1, (some .int), 6, 139, 1, 0)
def q_X7_isTable : MI := (yX7_isTable, cX7_isTable, 2, (some .boolean), 1, 20, 1, 1)
def q_X3_kindOf : MI := (yX3_kindOf, cX3_kindOf, 2, (some .int), 1, 20, 1, 1)
def q_X3_ownerOf : MI := (yX3_ownerOf, cX3_ownerOf, 2, (some .int), 1, 20, 1, 1)
def q_X3_isAstray : MI := (yX3_isAstray, cX3_isAstray, 2, (some .boolean), 2, 41, 1, 1)
def q_X3_entriesThere : MI := (yX3_entriesThere, cX3_entriesThere, 4, (some .int), 2, 42, 1, 1)
def q_X3_madeAhead : MI := (yX3_madeAhead, cX3_madeAhead, 5, (some .int), 2, 40, 1, 1)
def q_X3_isRootEntry : MI := (yX3_isRootEntry, cX3_isRootEntry, 3, (some .boolean), 1, 20, 1, 2)
def q_X3_toldByRoots : MI := (yX3_toldByRoots, cX3_toldByRoots, 4, (some .int), 2, 42, 1, 1)
def q_X3_property : MI := (yX3_property, cX3_property, 3, (some .int), 3, 65, 1, 2)
def q_X7_shadow : MI := (yX7_shadow, cX7_shadow, 3, (some .int), 4, 87, 1, 2)
def q_X7_entry : MI := (yX7_entry, cX7_entry, 3, (some .int), 2, 42, 1, 2)
def q_X3_isMap : MI := (yX3_isMap, cX3_isMap, 4, (some .boolean), 1, 20, 1, 2)
def q_X3_countMaps : MI := (yX3_countMaps, cX3_countMaps, 5, (some .int), 2, 43, 1, 2)
def q_X7_maps : MI := (yX7_maps, cX7_maps, 2, (some .int), 3, 67, 1, 1)
def q_X7_writers : MI := (yX7_writers, cX7_writers, 2, (some .int), 3, 67, 1, 1)
def q_X3_watches : MI := (yX3_watches, cX3_watches, 3, (some .boolean), 3, 62, 1, 1)
def q_X7_watched : MI := (yX7_watched, cX7_watched, 2, (some .int), 4, 84, 1, 1)
def q_X7_outOfStep : MI := (yX7_outOfStep, cX7_outOfStep, 1, (some .int), 2, 41, 1, 0)
def q_X3_freeAt : MI := (yX3_freeAt, cX3_freeAt, 4, (some .int), 1, 20, 1, 1)
def q_X3_oldestBeside : MI := (yX3_oldestBeside, cX3_oldestBeside, 5, (some .int), 1, 20, 1, 1)
def q_X7_dropsNext : MI := (yX7_dropsNext, cX7_dropsNext, 1, (some .int), 2, 44, 1, 0)
def q_X7_declines : MI := (yX7_declines, cX7_declines, 2, (some .boolean), 1, 20, 1, 1)
def q_X7_agrees : MI := (yX7_agrees, cX7_agrees, 1, (some .boolean), 1, 20, 1, 0)
def q_X7_mayRun : MI := (yX7_mayRun, cX7_mayRun, 2, (some .boolean), 2, 41, 1, 1)
def q_X1_setMark : MI := (yX1_setMark, cX1_setMark, 2, none, 1, 20, 1, 1)
def q_X1_noteUse : MI := (yX1_noteUse, cX1_noteUse, 8, none, 3, 64, 1, 2)
def q_X3_drop : MI := (yX3_drop, cX3_drop, 3, none, 2, 42, 1, 1)
def q_X3_make : MI := (yX3_make, cX3_make, 4, none, 1, 20, 1, 3)
def q_X3_takeWrite : MI := (yX3_takeWrite, cX3_takeWrite, 4, (some .int), 2, 43, 1, 1)
def q_X2_tableOf : MI := (yX2_tableOf, cX2_tableOf, 5, (some .int), 3, 66, 1, 2)
def q_X3_spot : MI := (yX3_spot, cX3_spot, 2, (some .int), 1, 20, 0, 2)
def q_X3_tell : MI := (yX3_tell, cX3_tell, 6, none, 2, 41, 1, 5)
def q_X1_isMarked : MI := (yX1_isMarked, cX1_isMarked, 2, (some .boolean), 2, 41, 1, 1)
def q_X2_fill : MI := (yX2_fill, cX2_fill, 10, none, 4, 91, 1, 2)
def q_X2_reach : MI := (yX2_reach, cX2_reach, 5, (some .int), 5, 120, 1, 2)
def q_X7_runTold : MI := (yX7_runTold, cX7_runTold, 3, none, 6, 144, 1, 1)
def q_X7_runFaults : MI := (yX7_runFaults, cX7_runFaults, 2, (some .int), 7, 166, 1, 1)
def q_X7_runRefused : MI := (yX7_runRefused, cX7_runRefused, 2, (some .int), 7, 166, 1, 1)
def q_X7_runDrops : MI := (yX7_runDrops, cX7_runDrops, 2, (some .int), 7, 166, 1, 1)
def q_X7_poolFor : MI := (yX7_poolFor, cX7_poolFor, 3, (some .int), 7, 166, 1, 1)
def q_X3_copyFrom : MI := (yX3_copyFrom, cX3_copyFrom, 2, none, 1, 60, 1, 1)
def q_X4_copyFrom : MI := (yX4_copyFrom, cX4_copyFrom, 2, none, 2, 81, 1, 1)
def q_X2_startFrom : MI := (yX2_startFrom, cX2_startFrom, 2, none, 3, 102, 1, 1)
def q_X7_sweep : MI := (yX7_sweep, cX7_sweep, 4, (some .int), 6, 144, 1, 2)
def q_X7_mayDraw : MI := (yX7_mayDraw, cX7_mayDraw, 3, (some .boolean), 2, 41, 1, 2)
def q_X7_nextSeed : MI := (yX7_nextSeed, cX7_nextSeed, 1, (some .int), 1, 20, 0, 1)
def q_X7_runDrawn : MI := (yX7_runDrawn, cX7_runDrawn, 6, none, 6, 144, 1, 2)
def q_X7_drawnFaults : MI := (yX7_drawnFaults, cX7_drawnFaults, 3, (some .int), 7, 169, 1, 2)
def q_X7_drawnMarks : MI := (yX7_drawnMarks, cX7_drawnMarks, 3, (some .int), 7, 169, 1, 2)
def q_X7_divisor : MI := (yX7_divisor, cX7_divisor, 6, (some .int), 1, 20, 0, 2)
def q_X7_rate : MI := (yX7_rate, cX7_rate, 4, (some .long), 2, 45, 1, 1)
def q_X6_firstUntrue : MI := (yX6_firstUntrue, cX6_firstUntrue, 5, (some .int), 4, 89, 1, 1)
def q_X6_fittingSets : MI := (yX6_fittingSets, cX6_fittingSets, 5, (some .int), 5, 113, 1, 1)
def q_X7_fitting : MI := (yX7_fitting, cX7_fitting, 1, (some .int), 6, 137, 1, 0)
def q_J6_bitCount_0f7a4 : MI := (yJ6_bitCount_0f7a4, cJ6_bitCount_0f7a4, 1, (some .int), 1, 20, 0, 1)
def q_X7_fits : MI := (yX7_fits, cX7_fits, 1, (some .int), 7, 157, 1, 0)
def q_X0_setAt : MI := (yX0_setAt, cX0_setAt, 4, (some .int), 2, 41, 0, 2)
def q_X7_fitAt : MI := (yX7_fitAt, cX7_fitAt, 3, (some .int), 7, 157, 1, 1)
def q_X0_inSome : MI := (yX0_inSome, cX0_inSome, 3, (some .int), 2, 41, 0, 1)
def q_X7_could : MI := (yX7_could, cX7_could, 1, (some .int), 7, 157, 1, 0)
def q_X0_inAll : MI := (yX0_inAll, cX0_inAll, 3, (some .int), 2, 41, 0, 1)
def q_X7_surely : MI := (yX7_surely, cX7_surely, 1, (some .int), 7, 157, 1, 0)
def q_J9_max_7cf53 : MI := (yJ9_max_7cf53, cJ9_max_7cf53, 2, (some .int), 1, 20, 0, 2)
def q_X0_leftAtMost : MI := (yX0_leftAtMost, cX0_leftAtMost, 4, (some .int), 2, 41, 0, 2)
def q_X0_bestToAsk : MI := (yX0_bestToAsk, cX0_bestToAsk, 4, (some .int), 3, 64, 0, 2)
def q_X7_ask : MI := (yX7_ask, cX7_ask, 1, (some .int), 7, 157, 1, 0)
def q_X7_askLeaves : MI := (yX7_askLeaves, cX7_askLeaves, 3, (some .int), 7, 157, 1, 0)
def q_X7_judge : MI := (yX7_judge, cX7_judge, 1, (some .int), 5, 113, 1, 0)
def q_X7_keep : MI := (yX7_keep, cX7_keep, 1, none, 3, 102, 1, 0)
def q_X7_access : MI := (yX7_access, cX7_access, 4, (some .int), 6, 144, 1, 3)
def q_X7_isWord : MI := (yX7_isWord, cX7_isWord, 1, (some .boolean), 1, 20, 0, 1)
def q_X3_remove : MI := (yX3_remove, cX3_remove, 5, (some .int), 2, 41, 1, 2)
def q_X3_loosen : MI := (yX3_loosen, cX3_loosen, 5, none, 3, 65, 1, 2)
def q_X3_allowWrite : MI := (yX3_allowWrite, cX3_allowWrite, 4, none, 2, 41, 1, 2)
def q_X2_putBehindFault : MI := (yX2_putBehindFault, cX2_putBehindFault, 6, none, 4, 89, 1, 3)
def q_X2_put : MI := (yX2_put, cX2_put, 7, (some .int), 6, 144, 1, 4)
def q_X7_store : MI := (yX7_store, cX7_store, 5, (some .int), 7, 170, 1, 4)
def q_X2_bringBack : MI := (yX2_bringBack, cX2_bringBack, 7, none, 3, 66, 1, 1)
def q_X2_takeRoot : MI := (yX2_takeRoot, cX2_takeRoot, 4, (some .int), 4, 92, 1, 1)
def q_X7_load : MI := (yX7_load, cX7_load, 2, (some .int), 5, 122, 1, 1)
def q_X2_forget : MI := (yX2_forget, cX2_forget, 3, (some .int), 3, 66, 1, 1)
def q_X7_flush : MI := (yX7_flush, cX7_flush, 2, (some .int), 4, 122, 1, 1)
def q_X3_forgetPlace : MI := (yX3_forgetPlace, cX3_forgetPlace, 6, (some .int), 3, 65, 1, 2)
def q_X2_putPastWatching : MI := (yX2_putPastWatching, cX2_putPastWatching, 4, (some .int), 4, 90, 1, 3)
def q_X7_device : MI := (yX7_device, cX7_device, 4, (some .int), 5, 122, 1, 3)
def q_X1_takeAway : MI := (yX1_takeAway, cX1_takeAway, 2, none, 1, 20, 1, 1)
def q_X3_removeMaps : MI := (yX3_removeMaps, cX3_removeMaps, 4, (some .int), 2, 43, 1, 1)
def q_X7_unmap : MI := (yX7_unmap, cX7_unmap, 2, (some .int), 4, 122, 1, 1)
def q_X1_unmark : MI := (yX1_unmark, cX1_unmark, 2, none, 1, 20, 1, 1)
def q_X7_give : MI := (yX7_give, cX7_give, 4, (some .boolean), 4, 122, 1, 3)
def q_X1_makeReadOnly : MI := (yX1_makeReadOnly, cX1_makeReadOnly, 2, none, 1, 20, 1, 1)
def q_X7_protect : MI := (yX7_protect, cX7_protect, 2, (some .int), 4, 122, 1, 1)
def q_X7_clean : MI := (yX7_clean, cX7_clean, 3, (some .int), 4, 122, 1, 1)
def q_X7_undo : MI := (yX7_undo, cX7_undo, 1, (some .boolean), 3, 102, 1, 0)
def q_X7_image : MI := (yX7_image, cX7_image, 1, (some .int), 3, 102, 1, 0)
def q_X7_back : MI := (yX7_back, cX7_back, 2, (some .boolean), 3, 102, 1, 1)
def q_X1_countBacked : MI := (yX1_countBacked, cX1_countBacked, 3, (some .int), 2, 41, 1, 0)
def q_X7_size : MI := (yX7_size, cX7_size, 2, (some .int), 3, 63, 1, 1)
def q_X7_trouble : MI := (yX7_trouble, cX7_trouble, 1, (some .int), 1, 20, 1, 0)
def q_X9_init : MI := (yX9_init, cX9_init, 1, none, 1, 20, 2, 0)
def q_X9_thrown : MI := (yX9_thrown, cX9_thrown, 1, (some .int), 1, 20, 1, 0)
def q_X9_feed : MI := (yX9_feed, cX9_feed, 8, (some .int), 1, 20, 1, 5)
def q_X9_refused : MI := (yX9_refused, cX9_refused, 2, (some .int), 1, 20, 1, 1)
def q_X8_init : MI := (yX8_init, cX8_init, 1, none, 1, 20, 2, 0)
def q_X9_byteAt : MI := (yX9_byteAt, cX9_byteAt, 2, (some .int), 1, 20, 1, 1)
def q_X9_isLetter : MI := (yX9_isLetter, cX9_isLetter, 1, (some .boolean), 1, 20, 0, 1)
def q_X9_isDigit : MI := (yX9_isDigit, cX9_isDigit, 1, (some .boolean), 1, 20, 0, 1)
def q_X9_goesOn : MI := (yX9_goesOn, cX9_goesOn, 3, none, 2, 41, 1, 0)
def q_X9_packed : MI := (yX9_packed, cX9_packed, 4, (some .long), 7, 221, 0, 1)
def q_X9_isWord : MI := (yX9_isWord, cX9_isWord, 2, (some .boolean), 8, 244, 1, 1)
def q_X9_flaw : MI := (yX9_flaw, cX9_flaw, 2, none, 1, 20, 1, 1)
def q_X9_needs : MI := (yX9_needs, cX9_needs, 2, none, 9, 265, 1, 1)
def q_X9_in : MI := (yX9_in, cX9_in, 3, (some .boolean), 1, 20, 0, 3)
def q_X9_wholeAt : MI := (yX9_wholeAt, cX9_wholeAt, 3, (some .int), 2, 42, 1, 2)
def q_X9_readWhole : MI := (yX9_readWhole, cX9_readWhole, 4, (some .int), 3, 64, 1, 2)
def q_X9_readMachine : MI := (yX9_readMachine, cX9_readMachine, 3, none, 10, 286, 1, 0)
def q_X9_lineBegins : MI := (yX9_lineBegins, cX9_lineBegins, 3, none, 3, 63, 1, 2)
def q_X8_isGiven : MI := (yX8_isGiven, cX8_isGiven, 3, (some .boolean), 1, 20, 1, 1)
def q_X9_readHost : MI := (yX9_readHost, cX9_readHost, 4, none, 9, 265, 1, 0)
def q_X9_readWord : MI := (yX9_readWord, cX9_readWord, 4, none, 4, 87, 1, 0)
def q_X9_modeAt : MI := (yX9_modeAt, cX9_modeAt, 2, (some .int), 9, 265, 1, 0)
def q_X9_readRun : MI := (yX9_readRun, cX9_readRun, 3, none, 10, 286, 1, 0)
def q_X8_isUnsure : MI := (yX8_isUnsure, cX8_isUnsure, 3, (some .boolean), 1, 20, 1, 1)
def q_X9_readUnsure : MI := (yX9_readUnsure, cX9_readUnsure, 4, none, 4, 87, 1, 0)
def q_X8_isSaw : MI := (yX8_isSaw, cX8_isSaw, 4, (some .boolean), 1, 20, 1, 2)
def q_X9_readSaw : MI := (yX9_readSaw, cX9_readSaw, 4, none, 10, 286, 1, 0)
def q_X9_readLine : MI := (yX9_readLine, cX9_readLine, 1, none, 11, 309, 1, 0)
def q_X9_eatsSemicolon : MI := (yX9_eatsSemicolon, cX9_eatsSemicolon, 2, (some .boolean), 3, 63, 1, 0)
def q_X9_readAll : MI := (yX9_readAll, cX9_readAll, 2, none, 12, 329, 1, 0)
def q_X9_bit : MI := (yX9_bit, cX9_bit, 2, (some .boolean), 1, 20, 0, 2)
def q_X9_frees : MI := (yX9_frees, cX9_frees, 3, none, 1, 20, 1, 1)
def q_X9_begins : MI := (yX9_begins, cX9_begins, 1, none, 1, 20, 1, 0)
def q_X9_asTold : MI := (yX9_asTold, cX9_asTold, 3, none, 2, 42, 1, 1)
def q_X9_remains : MI := (yX9_remains, cX9_remains, 2, none, 1, 20, 1, 0)
def q_X9_good : MI := (yX9_good, cX9_good, 2, (some .int), 1, 20, 1, 1)
def q_X9_machine : MI := (yX9_machine, cX9_machine, 2, (some .int), 13, 350, 1, 1)
def q_X9_fault : MI := (yX9_fault, cX9_fault, 1, (some .int), 1, 20, 1, 0)
def q_X9_where : MI := (yX9_where, cX9_where, 1, (some .int), 1, 20, 1, 0)
def q_X9_isFrame : MI := (yX9_isFrame, cX9_isFrame, 1, (some .boolean), 1, 20, 0, 1)
def q_X9_word : MI := (yX9_word, cX9_word, 3, (some .int), 2, 42, 1, 2)
def q_X9_works : MI := (yX9_works, cX9_works, 2, none, 2, 40, 1, 0)
def q_X9_isBacked : MI := (yX9_isBacked, cX9_isBacked, 2, (some .boolean), 1, 20, 1, 1)
def q_X9_hostOf : MI := (yX9_hostOf, cX9_hostOf, 2, (some .int), 1, 20, 1, 1)
def q_X9_backing : MI := (yX9_backing, cX9_backing, 2, (some .int), 3, 61, 1, 1)
def q_X9_isRw : MI := (yX9_isRw, cX9_isRw, 2, (some .boolean), 2, 41, 1, 1)
def q_X9_writes : MI := (yX9_writes, cX9_writes, 2, (some .int), 3, 62, 1, 1)
def q_X9_root : MI := (yX9_root, cX9_root, 1, (some .int), 2, 41, 1, 0)
def q_X9_marks : MI := (yX9_marks, cX9_marks, 1, (some .int), 2, 41, 1, 0)
def q_X9_has : MI := (yX9_has, cX9_has, 2, (some .boolean), 1, 20, 0, 2)
def q_X9_wordsWith : MI := (yX9_wordsWith, cX9_wordsWith, 5, (some .int), 2, 42, 1, 2)
def q_X9_isPage : MI := (yX9_isPage, cX9_isPage, 1, (some .boolean), 1, 20, 0, 1)
def q_X9_isAsked : MI := (yX9_isAsked, cX9_isAsked, 2, (some .boolean), 2, 40, 1, 1)
def q_X9_rootWord : MI := (yX9_rootWord, cX9_rootWord, 2, (some .int), 1, 20, 1, 1)
def q_X9_lets : MI := (yX9_lets, cX9_lets, 3, (some .boolean), 2, 41, 0, 3)
def q_X9_isLarge : MI := (yX9_isLarge, cX9_isLarge, 1, (some .boolean), 2, 41, 0, 1)
def q_X9_tells : MI := (yX9_tells, cX9_tells, 1, (some .int), 1, 20, 0, 1)
def q_X9_otherWord : MI := (yX9_otherWord, cX9_otherWord, 2, (some .int), 2, 41, 1, 1)
def q_X9_largeFrame : MI := (yX9_largeFrame, cX9_largeFrame, 2, (some .int), 2, 40, 0, 2)
def q_X9_leadsTo : MI := (yX9_leadsTo, cX9_leadsTo, 3, (some .int), 3, 62, 1, 1)
def q_X9_looks : MI := (yX9_looks, cX9_looks, 6, (some .int), 4, 84, 1, 3)
def q_X9_look : MI := (yX9_look, cX9_look, 4, (some .int), 5, 109, 1, 3)
def q_X9_leads : MI := (yX9_leads, cX9_leads, 2, (some .int), 4, 84, 1, 1)
def q_X9_rights : MI := (yX9_rights, cX9_rights, 4, (some .int), 5, 109, 1, 1)
def q_X9_large : MI := (yX9_large, cX9_large, 2, (some .int), 3, 61, 1, 1)
def q_X9_aliases : MI := (yX9_aliases, cX9_aliases, 4, (some .int), 4, 84, 1, 1)
def q_X9_tables : MI := (yX9_tables, cX9_tables, 4, (some .int), 3, 61, 1, 0)
def q_X9_tableOf : MI := (yX9_tableOf, cX9_tableOf, 4, (some .int), 1, 20, 1, 2)
def q_X9_hitAt : MI := (yX9_hitAt, cX9_hitAt, 8, (some .int), 2, 43, 1, 3)
def q_X9_hits : MI := (yX9_hits, cX9_hits, 5, (some .int), 3, 70, 1, 3)
def q_X9_isStale : MI := (yX9_isStale, cX9_isStale, 4, (some .boolean), 5, 109, 1, 2)
def q_X9_compares : MI := (yX9_compares, cX9_compares, 3, none, 6, 132, 1, 0)
def q_X9_stale : MI := (yX9_stale, cX9_stale, 1, (some .int), 7, 154, 1, 0)
def q_X9_staleAt : MI := (yX9_staleAt, cX9_staleAt, 1, (some .int), 7, 154, 1, 0)
def q_X9_missing : MI := (yX9_missing, cX9_missing, 1, (some .int), 7, 154, 1, 0)
def q_X9_isTable : MI := (yX9_isTable, cX9_isTable, 2, (some .boolean), 1, 20, 1, 1)
def q_X9_entriesOf : MI := (yX9_entriesOf, cX9_entriesOf, 4, (some .int), 1, 20, 1, 1)
def q_X9_aheadOf : MI := (yX9_aheadOf, cX9_aheadOf, 4, (some .int), 1, 20, 1, 1)
def q_X9_tellingOf : MI := (yX9_tellingOf, cX9_tellingOf, 4, (some .int), 1, 20, 1, 1)
def q_X9_shadow : MI := (yX9_shadow, cX9_shadow, 3, (some .int), 3, 61, 1, 2)
def q_X9_entry : MI := (yX9_entry, cX9_entry, 4, (some .int), 2, 42, 1, 2)
def q_X9_isMap : MI := (yX9_isMap, cX9_isMap, 3, (some .boolean), 1, 20, 1, 2)
def q_X9_mapsOf : MI := (yX9_mapsOf, cX9_mapsOf, 5, (some .int), 2, 42, 1, 2)
def q_X9_maps : MI := (yX9_maps, cX9_maps, 2, (some .int), 3, 66, 1, 1)
def q_X9_writers : MI := (yX9_writers, cX9_writers, 2, (some .int), 3, 66, 1, 1)
def q_X9_isWatched : MI := (yX9_isWatched, cX9_isWatched, 3, (some .boolean), 2, 43, 1, 1)
def q_X9_watched : MI := (yX9_watched, cX9_watched, 2, (some .int), 3, 65, 1, 1)
def q_X9_outOfStep : MI := (yX9_outOfStep, cX9_outOfStep, 3, (some .int), 2, 41, 1, 0)
def q_X9_freeOne : MI := (yX9_freeOne, cX9_freeOne, 2, (some .int), 1, 20, 1, 0)
def q_X9_longestAgo : MI := (yX9_longestAgo, cX9_longestAgo, 3, (some .int), 1, 20, 1, 0)
def q_X9_dropsNext : MI := (yX9_dropsNext, cX9_dropsNext, 1, (some .int), 3, 61, 1, 0)
def q_X9_refusesPool : MI := (yX9_refusesPool, cX9_refusesPool, 2, (some .int), 2, 42, 1, 1)
def q_X9_dropped : MI := (yX9_dropped, cX9_dropped, 3, none, 2, 42, 1, 1)
def q_X9_losesW : MI := (yX9_losesW, cX9_losesW, 4, (some .int), 2, 42, 1, 1)
def q_X9_needsTable : MI := (yX9_needsTable, cX9_needsTable, 5, (some .int), 3, 65, 1, 2)
def q_X9_filled : MI := (yX9_filled, cX9_filled, 11, none, 4, 89, 1, 2)
def q_X9_reaches : MI := (yX9_reaches, cX9_reaches, 5, (some .int), 5, 119, 1, 3)
def q_X9_runs : MI := (yX9_runs, cX9_runs, 3, none, 6, 143, 1, 1)
def q_X9_runFaults : MI := (yX9_runFaults, cX9_runFaults, 3, (some .int), 7, 165, 1, 1)
def q_X9_runRefused : MI := (yX9_runRefused, cX9_runRefused, 3, (some .int), 7, 165, 1, 1)
def q_X9_runDrops : MI := (yX9_runDrops, cX9_runDrops, 3, (some .int), 7, 165, 1, 1)
def q_X9_poolFor : MI := (yX9_poolFor, cX9_poolFor, 3, (some .int), 7, 165, 1, 1)
def q_X9_sweep : MI := (yX9_sweep, cX9_sweep, 4, (some .int), 6, 143, 1, 2)
def q_X9_refusesDraw : MI := (yX9_refusesDraw, cX9_refusesDraw, 3, (some .int), 2, 42, 1, 2)
def q_X9_draws : MI := (yX9_draws, cX9_draws, 6, none, 6, 143, 1, 2)
def q_X9_drawnFaults : MI := (yX9_drawnFaults, cX9_drawnFaults, 4, (some .int), 7, 168, 1, 2)
def q_X9_drawnMarks : MI := (yX9_drawnMarks, cX9_drawnMarks, 4, (some .int), 7, 168, 1, 2)
def q_X9_common : MI := (yX9_common, cX9_common, 10, (some .long), 1, 20, 0, 2)
def q_X9_fraction : MI := (yX9_fraction, cX9_fraction, 6, (some .long), 2, 49, 1, 3)
def q_X9_rate : MI := (yX9_rate, cX9_rate, 2, (some .long), 3, 74, 1, 1)
def q_X9_wrongSaw : MI := (yX9_wrongSaw, cX9_wrongSaw, 4, (some .int), 5, 109, 1, 1)
def q_X9_fitting : MI := (yX9_fitting, cX9_fitting, 5, (some .int), 6, 132, 1, 1)
def q_X9_fits : MI := (yX9_fits, cX9_fits, 1, (some .int), 7, 156, 1, 0)
def q_X9_fitAt : MI := (yX9_fitAt, cX9_fitAt, 3, (some .int), 7, 156, 1, 1)
def q_X9_could : MI := (yX9_could, cX9_could, 1, (some .int), 7, 156, 1, 0)
def q_X9_surely : MI := (yX9_surely, cX9_surely, 1, (some .int), 7, 156, 1, 0)
def q_X9_asks : MI := (yX9_asks, cX9_asks, 4, (some .int), 7, 156, 1, 0)
def q_X9_ask : MI := (yX9_ask, cX9_ask, 1, (some .int), 8, 179, 1, 0)
def q_X9_askLeaves : MI := (yX9_askLeaves, cX9_askLeaves, 1, (some .int), 8, 179, 1, 0)
def q_X9_judge : MI := (yX9_judge, cX9_judge, 1, (some .int), 6, 132, 1, 0)
def q_X9_remembers : MI := (yX9_remembers, cX9_remembers, 2, none, 3, 61, 1, 0)
def q_X9_counted : MI := (yX9_counted, cX9_counted, 2, (some .int), 2, 41, 1, 1)
def q_X9_access : MI := (yX9_access, cX9_access, 4, (some .int), 6, 143, 1, 3)
def q_X9_stores : MI := (yX9_stores, cX9_stores, 10, (some .int), 6, 143, 1, 4)
def q_X9_store : MI := (yX9_store, cX9_store, 6, (some .int), 7, 172, 1, 4)
def q_X9_steps : MI := (yX9_steps, cX9_steps, 5, none, 2, 41, 1, 1)
def q_X9_load : MI := (yX9_load, cX9_load, 4, (some .int), 4, 82, 1, 1)
def q_X9_flush : MI := (yX9_flush, cX9_flush, 3, (some .int), 4, 82, 1, 1)
def q_X9_takesEntry : MI := (yX9_takesEntry, cX9_takesEntry, 3, (some .int), 1, 20, 1, 2)
def q_X9_device : MI := (yX9_device, cX9_device, 6, (some .int), 4, 82, 1, 3)
def q_X9_unmap : MI := (yX9_unmap, cX9_unmap, 4, (some .int), 4, 82, 1, 1)
def q_X9_denied : MI := (yX9_denied, cX9_denied, 2, (some .boolean), 2, 41, 1, 1)
def q_X9_granted : MI := (yX9_granted, cX9_granted, 1, (some .boolean), 2, 41, 1, 0)
def q_X9_give : MI := (yX9_give, cX9_give, 5, (some .boolean), 4, 82, 1, 3)
def q_X9_protect : MI := (yX9_protect, cX9_protect, 3, (some .int), 4, 82, 1, 1)
def q_X9_clean : MI := (yX9_clean, cX9_clean, 3, (some .int), 4, 82, 1, 1)
def q_X9_undo : MI := (yX9_undo, cX9_undo, 2, (some .boolean), 3, 62, 1, 0)
def q_X9_image : MI := (yX9_image, cX9_image, 2, (some .int), 2, 41, 1, 0)
def q_X9_back : MI := (yX9_back, cX9_back, 3, (some .boolean), 3, 62, 1, 1)
def q_X9_led : MI := (yX9_led, cX9_led, 4, (some .int), 1, 20, 1, 1)
def q_X9_backedMany : MI := (yX9_backedMany, cX9_backedMany, 3, (some .int), 1, 20, 1, 0)
def q_X9_size : MI := (yX9_size, cX9_size, 2, (some .int), 2, 42, 1, 1)
def q_X9_trouble : MI := (yX9_trouble, cX9_trouble, 1, (some .int), 1, 20, 1, 0)
def mtab : List MI := [q_X5_init, q_X1_init, q_X6_init, q_X3_init, q_X4_init, q_X2_init, q_X7_init, q_X5_append, q_X7_feed, q_X7_refuse, q_X1_empty, q_X6_empty, q_X5_byteAt, q_X5_isSmall, q_X5_isDigit, q_X5_advance, q_X5_isName, q_X5_fails, q_X5_isWhole, q_X5_readsMachine, q_X5_lineSort, q_X5_isFull, q_X1_isBacked, q_X1_isTaken, q_X1_backWith, q_X6_addHost, q_X5_readsHost, q_X1_spot, q_X6_toldWord, q_X6_doubted, q_X1_setWord, q_X6_addWord, q_X6_addDoubt, q_X5_readsWord, q_X5_modeNamed, q_X5_isWay, q_X6_addStep, q_X5_readsRun, q_X6_sighted, q_X5_howNamed, q_X6_addSight, q_X5_readsSaw, q_X5_readsLine, q_X5_reads, q_X1_copyFrom, q_X3_vacate, q_X3_startWith, q_X2_clearCounts, q_X2_startAnew, q_X7_begin, q_X7_answer, q_X7_machine, q_X7_fault, q_X7_where, q_X7_isFrame, q_X7_isPlace, q_X1_wordAt, q_X7_word, q_X1_hostOf, q_X7_backing, q_X7_has, q_X1_isWritable, q_X7_bit, q_X7_writes, q_X7_root, q_X7_marks, q_X1_placesWith, q_X7_wordsWith, q_X7_isPage, q_X7_mode, q_X1_upperWord, q_X1_barOf, q_X7_frameIn, q_X1_lastWord, q_X1_firstOfLarge, q_X1_frameTold, q_X1_seek, q_X7_look, q_X1_frameBehind, q_X7_leads, q_X1_modesDone, q_X7_rights, q_X7_large, q_X1_pagesTo, q_X7_aliases, q_X1_tableFrames, q_X7_tables, q_X3_find, q_X3_entryAt, q_X3_upperEntry, q_X3_hitEntry, q_X2_hostByHardware, q_X7_hits, q_X2_isStale, q_X2_staleWays, q_X7_stale, q_X2_firstStalePage, q_X7_staleAt, q_X2_missingWays, q_X7_missing, q_X7_isTable, q_X3_kindOf, q_X3_ownerOf, q_X3_isAstray, q_X3_entriesThere, q_X3_madeAhead, q_X3_isRootEntry, q_X3_toldByRoots, q_X3_property, q_X7_shadow, q_X7_entry, q_X3_isMap, q_X3_countMaps, q_X7_maps, q_X7_writers, q_X3_watches, q_X7_watched, q_X7_outOfStep, q_X3_freeAt, q_X3_oldestBeside, q_X7_dropsNext, q_X7_declines, q_X7_agrees, q_X7_mayRun, q_X1_setMark, q_X1_noteUse, q_X3_drop, q_X3_make, q_X3_takeWrite, q_X2_tableOf, q_X3_spot, q_X3_tell, q_X1_isMarked, q_X2_fill, q_X2_reach, q_X7_runTold, q_X7_runFaults, q_X7_runRefused, q_X7_runDrops, q_X7_poolFor, q_X3_copyFrom, q_X4_copyFrom, q_X2_startFrom, q_X7_sweep, q_X7_mayDraw, q_X7_nextSeed, q_X7_runDrawn, q_X7_drawnFaults, q_X7_drawnMarks, q_X7_divisor, q_X7_rate, q_X6_firstUntrue, q_X6_fittingSets, q_X7_fitting, q_J6_bitCount_0f7a4, q_X7_fits, q_X0_setAt, q_X7_fitAt, q_X0_inSome, q_X7_could, q_X0_inAll, q_X7_surely, q_J9_max_7cf53, q_X0_leftAtMost, q_X0_bestToAsk, q_X7_ask, q_X7_askLeaves, q_X7_judge, q_X7_keep, q_X7_access, q_X7_isWord, q_X3_remove, q_X3_loosen, q_X3_allowWrite, q_X2_putBehindFault, q_X2_put, q_X7_store, q_X2_bringBack, q_X2_takeRoot, q_X7_load, q_X2_forget, q_X7_flush, q_X3_forgetPlace, q_X2_putPastWatching, q_X7_device, q_X1_takeAway, q_X3_removeMaps, q_X7_unmap, q_X1_unmark, q_X7_give, q_X1_makeReadOnly, q_X7_protect, q_X7_clean, q_X7_undo, q_X7_image, q_X7_back, q_X1_countBacked, q_X7_size, q_X7_trouble, q_X9_init, q_X9_thrown, q_X9_feed, q_X9_refused, q_X8_init, q_X9_byteAt, q_X9_isLetter, q_X9_isDigit, q_X9_goesOn, q_X9_packed, q_X9_isWord, q_X9_flaw, q_X9_needs, q_X9_in, q_X9_wholeAt, q_X9_readWhole, q_X9_readMachine, q_X9_lineBegins, q_X8_isGiven, q_X9_readHost, q_X9_readWord, q_X9_modeAt, q_X9_readRun, q_X8_isUnsure, q_X9_readUnsure, q_X8_isSaw, q_X9_readSaw, q_X9_readLine, q_X9_eatsSemicolon, q_X9_readAll, q_X9_bit, q_X9_frees, q_X9_begins, q_X9_asTold, q_X9_remains, q_X9_good, q_X9_machine, q_X9_fault, q_X9_where, q_X9_isFrame, q_X9_word, q_X9_works, q_X9_isBacked, q_X9_hostOf, q_X9_backing, q_X9_isRw, q_X9_writes, q_X9_root, q_X9_marks, q_X9_has, q_X9_wordsWith, q_X9_isPage, q_X9_isAsked, q_X9_rootWord, q_X9_lets, q_X9_isLarge, q_X9_tells, q_X9_otherWord, q_X9_largeFrame, q_X9_leadsTo, q_X9_looks, q_X9_look, q_X9_leads, q_X9_rights, q_X9_large, q_X9_aliases, q_X9_tables, q_X9_tableOf, q_X9_hitAt, q_X9_hits, q_X9_isStale, q_X9_compares, q_X9_stale, q_X9_staleAt, q_X9_missing, q_X9_isTable, q_X9_entriesOf, q_X9_aheadOf, q_X9_tellingOf, q_X9_shadow, q_X9_entry, q_X9_isMap, q_X9_mapsOf, q_X9_maps, q_X9_writers, q_X9_isWatched, q_X9_watched, q_X9_outOfStep, q_X9_freeOne, q_X9_longestAgo, q_X9_dropsNext, q_X9_refusesPool, q_X9_dropped, q_X9_losesW, q_X9_needsTable, q_X9_filled, q_X9_reaches, q_X9_runs, q_X9_runFaults, q_X9_runRefused, q_X9_runDrops, q_X9_poolFor, q_X9_sweep, q_X9_refusesDraw, q_X9_draws, q_X9_drawnFaults, q_X9_drawnMarks, q_X9_common, q_X9_fraction, q_X9_rate, q_X9_wrongSaw, q_X9_fitting, q_X9_fits, q_X9_fitAt, q_X9_could, q_X9_surely, q_X9_asks, q_X9_ask, q_X9_askLeaves, q_X9_judge, q_X9_remembers, q_X9_counted, q_X9_access, q_X9_stores, q_X9_store, q_X9_steps, q_X9_load, q_X9_flush, q_X9_takesEntry, q_X9_device, q_X9_unmap, q_X9_denied, q_X9_granted, q_X9_give, q_X9_protect, q_X9_clean, q_X9_undo, q_X9_image, q_X9_back, q_X9_led, q_X9_backedMany, q_X9_size, q_X9_trouble]
def MT (mi : Nat) : MI := mtab.getD mi q_X5_init
def qLen : MI := (yJ0_length_8abf5, cJ0_length_8abf5, 1, (some .int), 3, 80, 1, 0)
def qCh : MI := (yJ0_charAt_5068e, cJ0_charAt_5068e, 2, (some .char), 6, 200, 1, 1)
/-- a method's words, by their places in the tables -/
def mokB (q : MI) (p1 p2 p3 p4 : Nat) : Bool := okW p1 (.code q.1 q.2.1 q.2.2.1 q.2.2.2.1) && okW p2 (.initialized q.1.cls) && decide (q.1.cls ≠ "java/lang/invoke/MethodHandle" ∧ q.1.cls ≠ "java/lang/invoke/VarHandle") && decide ((parseMethodDescriptor q.1.desc).map (fun d => d.parameters.length) = some q.2.2.2.2.2.2.2) &&
  (if q.2.2.2.2.2.2.1 = 0 then okW p3 (.static q.1) else if q.2.2.2.2.2.2.1 = 1 then okW p3 (.instanceMethod q.1) && okW p4 (.selects q.1.cls q.1 q.1) else decide (q.2.2.2.2.2.2.1 = 2 ∧ q.1.name = "<init>" ∧ q.2.2.2.1 = none) && okW p3 (.instanceMethod q.1))
theorem mokB_ok {q : MI} {p1 p2 p3 p4 : Nat} (h : mokB q p1 p2 p3 p4 = true) : MOk q := by
  unfold mokB at h
  rw [Bool.and_eq_true, Bool.and_eq_true, Bool.and_eq_true, Bool.and_eq_true, decide_eq_true_eq, decide_eq_true_eq] at h
  obtain ⟨⟨⟨⟨h1, h2⟩, h3⟩, h4⟩, h5⟩ := h
  refine ⟨okW_mem h1, okW_mem h2, h3, h4, fun e => ?_, fun e => ?_, fun e => ?_⟩
  · rw [if_pos e] at h5; exact okW_mem h5
  · rw [if_neg (by rw [e]; decide), if_pos e, Bool.and_eq_true] at h5; exact ⟨okW_mem h5.1, okW_mem h5.2⟩
  · rw [if_neg (by rw [e]; decide), if_neg (by rw [e]; decide), Bool.and_eq_true, decide_eq_true_eq] at h5; exact ⟨h5.1.2.1, okW_mem h5.2, h5.1.2.2⟩
theorem mok_0 : ([q_X5_init, q_X1_init, q_X6_init, q_X3_init, q_X4_init, q_X2_init, q_X7_init, q_X5_append, q_X7_feed, q_X7_refuse, q_X1_empty, q_X6_empty, q_X5_byteAt, q_X5_isSmall, q_X5_isDigit, q_X5_advance, q_X5_isName, q_X5_fails, q_X5_isWhole, q_X5_readsMachine, q_X5_lineSort, q_X5_isFull, q_X1_isBacked, q_X1_isTaken, q_X1_backWith, q_X6_addHost, q_X5_readsHost, q_X1_spot, q_X6_toldWord, q_X6_doubted, q_X1_setWord, q_X6_addWord, q_X6_addDoubt, q_X5_readsWord, q_X5_modeNamed, q_X5_isWay, q_X6_addStep, q_X5_readsRun, q_X6_sighted, q_X5_howNamed] : List MI).zip [(143, 111, 142, 0), (187, 113, 186, 0), (181, 112, 180, 0), (283, 116, 282, 0), (275, 115, 274, 0), (269, 114, 268, 0), (135, 110, 134, 0), (398, 111, 396, 397), (394, 110, 392, 393), (406, 110, 405, 0), (418, 113, 416, 417), (414, 112, 412, 413), (426, 111, 425, 2), (429, 111, 428, 0), (432, 111, 431, 0), (422, 111, 421, 1), (441, 111, 440, 4), (497, 111, 496, 6), (502, 111, 501, 7), (493, 111, 492, 5), (507, 111, 506, 8), (515, 111, 514, 0), (523, 113, 521, 522), (527, 113, 525, 526), (537, 113, 535, 536), (533, 112, 531, 532), (519, 111, 518, 9), (548, 113, 547, 0), (545, 112, 543, 544), (552, 112, 550, 551), (560, 113, 558, 559), (556, 112, 554, 555), (565, 112, 563, 564), (541, 111, 540, 10), (577, 111, 576, 13), (573, 111, 572, 12), (585, 112, 583, 584), (569, 111, 568, 11), (593, 112, 591, 592), (597, 111, 596, 15)] |>.all (fun q => mokB q.1 q.2.1 q.2.2.1 q.2.2.2.1 q.2.2.2.2) = true := by decide +kernel
theorem mok_1 : ([q_X6_addSight, q_X5_readsSaw, q_X5_readsLine, q_X5_reads, q_X1_copyFrom, q_X3_vacate, q_X3_startWith, q_X2_clearCounts, q_X2_startAnew, q_X7_begin, q_X7_answer, q_X7_machine, q_X7_fault, q_X7_where, q_X7_isFrame, q_X7_isPlace, q_X1_wordAt, q_X7_word, q_X1_hostOf, q_X7_backing, q_X7_has, q_X1_isWritable, q_X7_bit, q_X7_writes, q_X7_root, q_X7_marks, q_X1_placesWith, q_X7_wordsWith, q_X7_isPage, q_X7_mode, q_X1_upperWord, q_X1_barOf, q_X7_frameIn, q_X1_lastWord, q_X1_firstOfLarge, q_X1_frameTold, q_X1_seek, q_X7_look, q_X1_frameBehind, q_X7_leads] : List MI).zip [(605, 112, 603, 604), (589, 111, 588, 14), (436, 111, 435, 3), (410, 111, 408, 409), (617, 113, 615, 616), (628, 116, 627, 17), (624, 116, 622, 623), (632, 114, 631, 18), (613, 114, 611, 612), (609, 110, 608, 16), (636, 110, 635, 19), (402, 110, 400, 401), (640, 110, 638, 639), (644, 110, 642, 643), (652, 110, 651, 20), (655, 110, 654, 0), (659, 113, 657, 658), (648, 110, 646, 647), (667, 113, 665, 666), (663, 110, 661, 662), (679, 110, 678, 0), (675, 113, 673, 674), (682, 110, 681, 0), (671, 110, 669, 670), (686, 110, 684, 685), (690, 110, 688, 689), (698, 113, 696, 697), (694, 110, 692, 693), (707, 110, 706, 21), (710, 110, 709, 0), (718, 113, 716, 717), (721, 113, 720, 0), (728, 110, 727, 0), (725, 113, 723, 724), (735, 113, 734, 0), (732, 113, 730, 731), (714, 113, 712, 713), (703, 110, 701, 702), (745, 113, 743, 744), (741, 110, 739, 740)] |>.all (fun q => mokB q.1 q.2.1 q.2.2.1 q.2.2.2.1 q.2.2.2.2) = true := by decide +kernel
theorem mok_2 : ([q_X1_modesDone, q_X7_rights, q_X7_large, q_X1_pagesTo, q_X7_aliases, q_X1_tableFrames, q_X7_tables, q_X3_find, q_X3_entryAt, q_X3_upperEntry, q_X3_hitEntry, q_X2_hostByHardware, q_X7_hits, q_X2_isStale, q_X2_staleWays, q_X7_stale, q_X2_firstStalePage, q_X7_staleAt, q_X2_missingWays, q_X7_missing, q_X7_isTable, q_X3_kindOf, q_X3_ownerOf, q_X3_isAstray, q_X3_entriesThere, q_X3_madeAhead, q_X3_isRootEntry, q_X3_toldByRoots, q_X3_property, q_X7_shadow, q_X7_entry, q_X3_isMap, q_X3_countMaps, q_X7_maps, q_X7_writers, q_X3_watches, q_X7_watched, q_X7_outOfStep, q_X3_freeAt, q_X3_oldestBeside] : List MI).zip [(753, 113, 751, 752), (749, 110, 747, 748), (758, 110, 756, 757), (768, 113, 766, 767), (764, 110, 762, 763), (778, 113, 776, 777), (774, 110, 772, 773), (798, 116, 796, 797), (802, 116, 800, 801), (794, 116, 792, 793), (790, 116, 788, 789), (786, 114, 784, 785), (782, 110, 780, 781), (816, 114, 815, 22), (812, 114, 810, 811), (808, 110, 806, 807), (827, 114, 825, 826), (823, 110, 821, 822), (835, 114, 833, 834), (831, 110, 829, 830), (843, 110, 842, 23), (851, 116, 849, 850), (855, 116, 853, 854), (859, 116, 857, 858), (864, 116, 863, 24), (868, 116, 867, 25), (876, 116, 875, 27), (872, 116, 871, 26), (847, 116, 845, 846), (839, 110, 837, 838), (880, 110, 878, 879), (893, 116, 892, 28), (889, 116, 887, 888), (885, 110, 883, 884), (897, 110, 895, 896), (905, 116, 903, 904), (901, 110, 899, 900), (909, 110, 907, 908), (917, 116, 915, 916), (921, 116, 919, 920)] |>.all (fun q => mokB q.1 q.2.1 q.2.2.1 q.2.2.2.1 q.2.2.2.2) = true := by decide +kernel
theorem mok_3 : ([q_X7_dropsNext, q_X7_declines, q_X7_agrees, q_X7_mayRun, q_X1_setMark, q_X1_noteUse, q_X3_drop, q_X3_make, q_X3_takeWrite, q_X2_tableOf, q_X3_spot, q_X3_tell, q_X1_isMarked, q_X2_fill, q_X2_reach, q_X7_runTold, q_X7_runFaults, q_X7_runRefused, q_X7_runDrops, q_X7_poolFor, q_X3_copyFrom, q_X4_copyFrom, q_X2_startFrom, q_X7_sweep, q_X7_mayDraw, q_X7_nextSeed, q_X7_runDrawn, q_X7_drawnFaults, q_X7_drawnMarks, q_X7_divisor, q_X7_rate, q_X6_firstUntrue, q_X6_fittingSets, q_X7_fitting, q_J6_bitCount_0f7a4, q_X7_fits, q_X0_setAt, q_X7_fitAt, q_X0_inSome, q_X7_could] : List MI).zip [(913, 110, 911, 912), (933, 110, 932, 30), (937, 110, 936, 31), (929, 110, 928, 29), (958, 113, 956, 957), (953, 113, 951, 952), (971, 116, 969, 970), (975, 116, 973, 974), (979, 116, 977, 978), (964, 114, 963, 34), (988, 116, 987, 0), (985, 116, 983, 984), (995, 113, 993, 994), (949, 114, 948, 33), (945, 114, 943, 944), (941, 110, 940, 32), (925, 110, 923, 924), (1000, 110, 998, 999), (1004, 110, 1002, 1003), (1008, 110, 1006, 1007), (1025, 116, 1023, 1024), (1020, 115, 1018, 1019), (1016, 114, 1014, 1015), (1012, 110, 1010, 1011), (1034, 110, 1033, 35), (1042, 110, 1041, 0), (1039, 110, 1038, 36), (1030, 110, 1028, 1029), (1047, 110, 1045, 1046), (1054, 110, 1053, 0), (1051, 110, 1049, 1050), (1072, 112, 1070, 1071), (1066, 112, 1064, 1065), (1062, 110, 1061, 37), (1076, 124, 1075, 0), (1058, 110, 1056, 1057), (1086, 125, 1085, 0), (1083, 110, 1081, 1082), (1094, 125, 1093, 0), (1091, 110, 1089, 1090)] |>.all (fun q => mokB q.1 q.2.1 q.2.2.1 q.2.2.2.1 q.2.2.2.2) = true := by decide +kernel
theorem mok_4 : ([q_X0_inAll, q_X7_surely, q_J9_max_7cf53, q_X0_leftAtMost, q_X0_bestToAsk, q_X7_ask, q_X7_askLeaves, q_X7_judge, q_X7_keep, q_X7_access, q_X7_isWord, q_X3_remove, q_X3_loosen, q_X3_allowWrite, q_X2_putBehindFault, q_X2_put, q_X7_store, q_X2_bringBack, q_X2_takeRoot, q_X7_load, q_X2_forget, q_X7_flush, q_X3_forgetPlace, q_X2_putPastWatching, q_X7_device, q_X1_takeAway, q_X3_removeMaps, q_X7_unmap, q_X1_unmark, q_X7_give, q_X1_makeReadOnly, q_X7_protect, q_X7_clean, q_X7_undo, q_X7_image, q_X7_back, q_X1_countBacked, q_X7_size, q_X7_trouble, q_X9_init] : List MI).zip [(1101, 125, 1100, 0), (1098, 110, 1096, 1097), (1116, 126, 1115, 0), (1111, 125, 1110, 0), (1108, 125, 1107, 0), (1105, 110, 1103, 1104), (1120, 110, 1118, 1119), (1125, 110, 1123, 1124), (1134, 110, 1133, 38), (1130, 110, 1128, 1129), (1142, 110, 1141, 0), (1161, 116, 1159, 1160), (1157, 116, 1155, 1156), (1165, 116, 1163, 1164), (1152, 114, 1151, 39), (1146, 114, 1144, 1145), (1139, 110, 1137, 1138), (1179, 114, 1178, 40), (1173, 114, 1171, 1172), (1169, 110, 1167, 1168), (1191, 114, 1189, 1190), (1187, 110, 1185, 1186), (1205, 116, 1203, 1204), (1200, 114, 1198, 1199), (1195, 110, 1193, 1194), (1213, 113, 1211, 1212), (1217, 116, 1215, 1216), (1209, 110, 1207, 1208), (1227, 113, 1225, 1226), (1221, 110, 1219, 1220), (1235, 113, 1233, 1234), (1231, 110, 1229, 1230), (1240, 110, 1238, 1239), (1245, 110, 1243, 1244), (1249, 110, 1247, 1248), (1253, 110, 1251, 1252), (1261, 113, 1259, 1260), (1257, 110, 1255, 1256), (1265, 110, 1263, 1264), (1303, 117, 1302, 0)] |>.all (fun q => mokB q.1 q.2.1 q.2.2.1 q.2.2.2.1 q.2.2.2.2) = true := by decide +kernel
theorem mok_5 : ([q_X9_thrown, q_X9_feed, q_X9_refused, q_X8_init, q_X9_byteAt, q_X9_isLetter, q_X9_isDigit, q_X9_goesOn, q_X9_packed, q_X9_isWord, q_X9_flaw, q_X9_needs, q_X9_in, q_X9_wholeAt, q_X9_readWhole, q_X9_readMachine, q_X9_lineBegins, q_X8_isGiven, q_X9_readHost, q_X9_readWord, q_X9_modeAt, q_X9_readRun, q_X8_isUnsure, q_X9_readUnsure, q_X8_isSaw, q_X9_readSaw, q_X9_readLine, q_X9_eatsSemicolon, q_X9_readAll, q_X9_bit, q_X9_frees, q_X9_begins, q_X9_asTold, q_X9_remains, q_X9_good, q_X9_machine, q_X9_fault, q_X9_where, q_X9_isFrame, q_X9_word] : List MI).zip [(1432, 117, 1430, 1431), (1436, 117, 1434, 1435), (1444, 117, 1443, 42), (1449, 123, 1448, 0), (1525, 117, 1524, 44), (1528, 117, 1527, 0), (1532, 117, 1531, 0), (1521, 117, 1520, 43), (1548, 117, 1547, 0), (1545, 117, 1544, 47), (1558, 117, 1557, 49), (1563, 117, 1562, 50), (1574, 117, 1573, 0), (1571, 117, 1570, 52), (1567, 117, 1566, 51), (1554, 117, 1553, 48), (1584, 117, 1583, 54), (1588, 123, 1586, 1587), (1580, 117, 1579, 53), (1595, 117, 1594, 55), (1604, 117, 1603, 57), (1600, 117, 1599, 56), (1617, 123, 1615, 1616), (1613, 117, 1612, 58), (1626, 123, 1624, 1625), (1622, 117, 1621, 59), (1540, 117, 1539, 46), (1634, 117, 1633, 60), (1536, 117, 1535, 45), (1641, 117, 1640, 0), (1645, 117, 1644, 62), (1649, 117, 1648, 63), (1638, 117, 1637, 61), (1653, 117, 1652, 64), (1657, 117, 1656, 65), (1440, 117, 1438, 1439), (1661, 117, 1659, 1660), (1665, 117, 1663, 1664), (1672, 117, 1671, 0), (1669, 117, 1667, 1668)] |>.all (fun q => mokB q.1 q.2.1 q.2.2.1 q.2.2.2.1 q.2.2.2.2) = true := by decide +kernel
theorem mok_6 : ([q_X9_works, q_X9_isBacked, q_X9_hostOf, q_X9_backing, q_X9_isRw, q_X9_writes, q_X9_root, q_X9_marks, q_X9_has, q_X9_wordsWith, q_X9_isPage, q_X9_isAsked, q_X9_rootWord, q_X9_lets, q_X9_isLarge, q_X9_tells, q_X9_otherWord, q_X9_largeFrame, q_X9_leadsTo, q_X9_looks, q_X9_look, q_X9_leads, q_X9_rights, q_X9_large, q_X9_aliases, q_X9_tables, q_X9_tableOf, q_X9_hitAt, q_X9_hits, q_X9_isStale, q_X9_compares, q_X9_stale, q_X9_staleAt, q_X9_missing, q_X9_isTable, q_X9_entriesOf, q_X9_aheadOf, q_X9_tellingOf, q_X9_shadow, q_X9_entry] : List MI).zip [(1680, 117, 1679, 66), (1684, 117, 1683, 67), (1688, 117, 1687, 68), (1676, 117, 1674, 1675), (1696, 117, 1695, 69), (1692, 117, 1690, 1691), (1700, 117, 1698, 1699), (1704, 117, 1702, 1703), (1711, 117, 1710, 0), (1708, 117, 1706, 1707), (1722, 117, 1721, 0), (1719, 117, 1718, 70), (1730, 117, 1729, 72), (1733, 117, 1732, 0), (1736, 117, 1735, 0), (1743, 117, 1742, 0), (1740, 117, 1739, 73), (1750, 117, 1749, 0), (1747, 117, 1746, 74), (1726, 117, 1725, 71), (1715, 117, 1713, 1714), (1754, 117, 1752, 1753), (1758, 117, 1756, 1757), (1762, 117, 1760, 1761), (1766, 117, 1764, 1765), (1770, 117, 1768, 1769), (1782, 117, 1781, 76), (1778, 117, 1777, 75), (1774, 117, 1772, 1773), (1794, 117, 1793, 78), (1790, 117, 1789, 77), (1786, 117, 1784, 1785), (1798, 117, 1796, 1797), (1802, 117, 1800, 1801), (1810, 117, 1809, 79), (1814, 117, 1813, 80), (1818, 117, 1817, 81), (1822, 117, 1821, 82), (1806, 117, 1804, 1805), (1826, 117, 1824, 1825)] |>.all (fun q => mokB q.1 q.2.1 q.2.2.1 q.2.2.2.1 q.2.2.2.2) = true := by decide +kernel
theorem mok_7 : ([q_X9_isMap, q_X9_mapsOf, q_X9_maps, q_X9_writers, q_X9_isWatched, q_X9_watched, q_X9_outOfStep, q_X9_freeOne, q_X9_longestAgo, q_X9_dropsNext, q_X9_refusesPool, q_X9_dropped, q_X9_losesW, q_X9_needsTable, q_X9_filled, q_X9_reaches, q_X9_runs, q_X9_runFaults, q_X9_runRefused, q_X9_runDrops, q_X9_poolFor, q_X9_sweep, q_X9_refusesDraw, q_X9_draws, q_X9_drawnFaults, q_X9_drawnMarks, q_X9_common, q_X9_fraction, q_X9_rate, q_X9_wrongSaw, q_X9_fitting, q_X9_fits, q_X9_fitAt, q_X9_could, q_X9_surely, q_X9_asks, q_X9_ask, q_X9_askLeaves, q_X9_judge, q_X9_remembers] : List MI).zip [(1838, 117, 1837, 84), (1834, 117, 1833, 83), (1830, 117, 1828, 1829), (1842, 117, 1840, 1841), (1850, 117, 1849, 85), (1846, 117, 1844, 1845), (1854, 117, 1852, 1853), (1862, 117, 1861, 86), (1866, 117, 1865, 87), (1858, 117, 1856, 1857), (1874, 117, 1873, 88), (1894, 117, 1893, 93), (1898, 117, 1897, 94), (1890, 117, 1889, 92), (1886, 117, 1885, 91), (1882, 117, 1881, 90), (1878, 117, 1877, 89), (1870, 117, 1868, 1869), (1902, 117, 1900, 1901), (1906, 117, 1904, 1905), (1910, 117, 1908, 1909), (1914, 117, 1912, 1913), (1922, 117, 1921, 95), (1927, 117, 1926, 96), (1918, 117, 1916, 1917), (1934, 117, 1932, 1933), (1945, 117, 1944, 0), (1942, 117, 1941, 97), (1938, 117, 1936, 1937), (1957, 117, 1956, 99), (1953, 117, 1952, 98), (1949, 117, 1947, 1948), (1961, 117, 1959, 1960), (1965, 117, 1963, 1964), (1969, 117, 1967, 1968), (1977, 117, 1976, 100), (1973, 117, 1971, 1972), (1981, 117, 1979, 1980), (1985, 117, 1983, 1984), (1993, 117, 1992, 101)] |>.all (fun q => mokB q.1 q.2.1 q.2.2.1 q.2.2.2.1 q.2.2.2.2) = true := by decide +kernel
theorem mok_8 : ([q_X9_counted, q_X9_access, q_X9_stores, q_X9_store, q_X9_steps, q_X9_load, q_X9_flush, q_X9_takesEntry, q_X9_device, q_X9_unmap, q_X9_denied, q_X9_granted, q_X9_give, q_X9_protect, q_X9_clean, q_X9_undo, q_X9_image, q_X9_back, q_X9_led, q_X9_backedMany, q_X9_size, q_X9_trouble] : List MI).zip [(1997, 117, 1996, 102), (1989, 117, 1987, 1988), (2005, 117, 2004, 103), (2001, 117, 1999, 2000), (2013, 117, 2012, 104), (2009, 117, 2007, 2008), (2017, 117, 2015, 2016), (2025, 117, 2024, 105), (2021, 117, 2019, 2020), (2029, 117, 2027, 2028), (2037, 117, 2036, 106), (2041, 117, 2040, 107), (2033, 117, 2031, 2032), (2045, 117, 2043, 2044), (2049, 117, 2047, 2048), (2053, 117, 2051, 2052), (2057, 117, 2055, 2056), (2061, 117, 2059, 2060), (2065, 117, 2063, 2064), (2073, 117, 2072, 108), (2069, 117, 2067, 2068), (2077, 117, 2075, 2076), (445, 118, 443, 444), (455, 118, 453, 454)] |>.all (fun q => mokB q.1 q.2.1 q.2.2.1 q.2.2.2.1 q.2.2.2.2) = true := by decide +kernel
theorem zip_all {α β : Type} {f : α × β → Bool} {P : α → Prop} (hP : ∀ a b, f (a, b) = true → P a) : ∀ (l : List α) (m : List β), l.length = m.length → (l.zip m).all f = true → ∀ a ∈ l, P a
  | [], _, _, _ => fun _ h => nomatch h
  | a :: l, [], hl, _ => nomatch hl
  | a :: l, b :: m, hl, h => by
    rw [List.zip_cons_cons, List.all_cons, Bool.and_eq_true] at h
    exact List.forall_mem_cons.mpr ⟨hP a b h.1, zip_all hP l m (Nat.succ.inj hl) h.2⟩
theorem mok_all : ∀ q ∈ mtab, MOk q := by
  have hh : ∀ (a : MI) (b : Nat × Nat × Nat × Nat), mokB a b.1 b.2.1 b.2.2.1 b.2.2.2 = true → MOk a := fun a b h => mokB_ok h
  have e : mtab = [q_X5_init, q_X1_init, q_X6_init, q_X3_init, q_X4_init, q_X2_init, q_X7_init, q_X5_append, q_X7_feed, q_X7_refuse, q_X1_empty, q_X6_empty, q_X5_byteAt, q_X5_isSmall, q_X5_isDigit, q_X5_advance, q_X5_isName, q_X5_fails, q_X5_isWhole, q_X5_readsMachine, q_X5_lineSort, q_X5_isFull, q_X1_isBacked, q_X1_isTaken, q_X1_backWith, q_X6_addHost, q_X5_readsHost, q_X1_spot, q_X6_toldWord, q_X6_doubted, q_X1_setWord, q_X6_addWord, q_X6_addDoubt, q_X5_readsWord, q_X5_modeNamed, q_X5_isWay, q_X6_addStep, q_X5_readsRun, q_X6_sighted, q_X5_howNamed] ++ ([q_X6_addSight, q_X5_readsSaw, q_X5_readsLine, q_X5_reads, q_X1_copyFrom, q_X3_vacate, q_X3_startWith, q_X2_clearCounts, q_X2_startAnew, q_X7_begin, q_X7_answer, q_X7_machine, q_X7_fault, q_X7_where, q_X7_isFrame, q_X7_isPlace, q_X1_wordAt, q_X7_word, q_X1_hostOf, q_X7_backing, q_X7_has, q_X1_isWritable, q_X7_bit, q_X7_writes, q_X7_root, q_X7_marks, q_X1_placesWith, q_X7_wordsWith, q_X7_isPage, q_X7_mode, q_X1_upperWord, q_X1_barOf, q_X7_frameIn, q_X1_lastWord, q_X1_firstOfLarge, q_X1_frameTold, q_X1_seek, q_X7_look, q_X1_frameBehind, q_X7_leads] ++ ([q_X1_modesDone, q_X7_rights, q_X7_large, q_X1_pagesTo, q_X7_aliases, q_X1_tableFrames, q_X7_tables, q_X3_find, q_X3_entryAt, q_X3_upperEntry, q_X3_hitEntry, q_X2_hostByHardware, q_X7_hits, q_X2_isStale, q_X2_staleWays, q_X7_stale, q_X2_firstStalePage, q_X7_staleAt, q_X2_missingWays, q_X7_missing, q_X7_isTable, q_X3_kindOf, q_X3_ownerOf, q_X3_isAstray, q_X3_entriesThere, q_X3_madeAhead, q_X3_isRootEntry, q_X3_toldByRoots, q_X3_property, q_X7_shadow, q_X7_entry, q_X3_isMap, q_X3_countMaps, q_X7_maps, q_X7_writers, q_X3_watches, q_X7_watched, q_X7_outOfStep, q_X3_freeAt, q_X3_oldestBeside] ++ ([q_X7_dropsNext, q_X7_declines, q_X7_agrees, q_X7_mayRun, q_X1_setMark, q_X1_noteUse, q_X3_drop, q_X3_make, q_X3_takeWrite, q_X2_tableOf, q_X3_spot, q_X3_tell, q_X1_isMarked, q_X2_fill, q_X2_reach, q_X7_runTold, q_X7_runFaults, q_X7_runRefused, q_X7_runDrops, q_X7_poolFor, q_X3_copyFrom, q_X4_copyFrom, q_X2_startFrom, q_X7_sweep, q_X7_mayDraw, q_X7_nextSeed, q_X7_runDrawn, q_X7_drawnFaults, q_X7_drawnMarks, q_X7_divisor, q_X7_rate, q_X6_firstUntrue, q_X6_fittingSets, q_X7_fitting, q_J6_bitCount_0f7a4, q_X7_fits, q_X0_setAt, q_X7_fitAt, q_X0_inSome, q_X7_could] ++ ([q_X0_inAll, q_X7_surely, q_J9_max_7cf53, q_X0_leftAtMost, q_X0_bestToAsk, q_X7_ask, q_X7_askLeaves, q_X7_judge, q_X7_keep, q_X7_access, q_X7_isWord, q_X3_remove, q_X3_loosen, q_X3_allowWrite, q_X2_putBehindFault, q_X2_put, q_X7_store, q_X2_bringBack, q_X2_takeRoot, q_X7_load, q_X2_forget, q_X7_flush, q_X3_forgetPlace, q_X2_putPastWatching, q_X7_device, q_X1_takeAway, q_X3_removeMaps, q_X7_unmap, q_X1_unmark, q_X7_give, q_X1_makeReadOnly, q_X7_protect, q_X7_clean, q_X7_undo, q_X7_image, q_X7_back, q_X1_countBacked, q_X7_size, q_X7_trouble, q_X9_init] ++ ([q_X9_thrown, q_X9_feed, q_X9_refused, q_X8_init, q_X9_byteAt, q_X9_isLetter, q_X9_isDigit, q_X9_goesOn, q_X9_packed, q_X9_isWord, q_X9_flaw, q_X9_needs, q_X9_in, q_X9_wholeAt, q_X9_readWhole, q_X9_readMachine, q_X9_lineBegins, q_X8_isGiven, q_X9_readHost, q_X9_readWord, q_X9_modeAt, q_X9_readRun, q_X8_isUnsure, q_X9_readUnsure, q_X8_isSaw, q_X9_readSaw, q_X9_readLine, q_X9_eatsSemicolon, q_X9_readAll, q_X9_bit, q_X9_frees, q_X9_begins, q_X9_asTold, q_X9_remains, q_X9_good, q_X9_machine, q_X9_fault, q_X9_where, q_X9_isFrame, q_X9_word] ++ ([q_X9_works, q_X9_isBacked, q_X9_hostOf, q_X9_backing, q_X9_isRw, q_X9_writes, q_X9_root, q_X9_marks, q_X9_has, q_X9_wordsWith, q_X9_isPage, q_X9_isAsked, q_X9_rootWord, q_X9_lets, q_X9_isLarge, q_X9_tells, q_X9_otherWord, q_X9_largeFrame, q_X9_leadsTo, q_X9_looks, q_X9_look, q_X9_leads, q_X9_rights, q_X9_large, q_X9_aliases, q_X9_tables, q_X9_tableOf, q_X9_hitAt, q_X9_hits, q_X9_isStale, q_X9_compares, q_X9_stale, q_X9_staleAt, q_X9_missing, q_X9_isTable, q_X9_entriesOf, q_X9_aheadOf, q_X9_tellingOf, q_X9_shadow, q_X9_entry] ++ ([q_X9_isMap, q_X9_mapsOf, q_X9_maps, q_X9_writers, q_X9_isWatched, q_X9_watched, q_X9_outOfStep, q_X9_freeOne, q_X9_longestAgo, q_X9_dropsNext, q_X9_refusesPool, q_X9_dropped, q_X9_losesW, q_X9_needsTable, q_X9_filled, q_X9_reaches, q_X9_runs, q_X9_runFaults, q_X9_runRefused, q_X9_runDrops, q_X9_poolFor, q_X9_sweep, q_X9_refusesDraw, q_X9_draws, q_X9_drawnFaults, q_X9_drawnMarks, q_X9_common, q_X9_fraction, q_X9_rate, q_X9_wrongSaw, q_X9_fitting, q_X9_fits, q_X9_fitAt, q_X9_could, q_X9_surely, q_X9_asks, q_X9_ask, q_X9_askLeaves, q_X9_judge, q_X9_remembers] ++ ([q_X9_counted, q_X9_access, q_X9_stores, q_X9_store, q_X9_steps, q_X9_load, q_X9_flush, q_X9_takesEntry, q_X9_device, q_X9_unmap, q_X9_denied, q_X9_granted, q_X9_give, q_X9_protect, q_X9_clean, q_X9_undo, q_X9_image, q_X9_back, q_X9_led, q_X9_backedMany, q_X9_size, q_X9_trouble] := rfl
  rw [e]
  intro q hq))))))))
  rcases List.mem_append.mp hq with hq | hq
  · exact zip_all (f := fun q => mokB q.1 q.2.1 q.2.2.1 q.2.2.2.1 q.2.2.2.2) hh _ _ rfl mok_0 q hq
  rcases List.mem_append.mp hq with hq | hq
  · exact zip_all (f := fun q => mokB q.1 q.2.1 q.2.2.1 q.2.2.2.1 q.2.2.2.2) hh _ _ rfl mok_1 q hq
  rcases List.mem_append.mp hq with hq | hq
  · exact zip_all (f := fun q => mokB q.1 q.2.1 q.2.2.1 q.2.2.2.1 q.2.2.2.2) hh _ _ rfl mok_2 q hq
  rcases List.mem_append.mp hq with hq | hq
  · exact zip_all (f := fun q => mokB q.1 q.2.1 q.2.2.1 q.2.2.2.1 q.2.2.2.2) hh _ _ rfl mok_3 q hq
  rcases List.mem_append.mp hq with hq | hq
  · exact zip_all (f := fun q => mokB q.1 q.2.1 q.2.2.1 q.2.2.2.1 q.2.2.2.2) hh _ _ rfl mok_4 q hq
  rcases List.mem_append.mp hq with hq | hq
  · exact zip_all (f := fun q => mokB q.1 q.2.1 q.2.2.1 q.2.2.2.1 q.2.2.2.2) hh _ _ rfl mok_5 q hq
  rcases List.mem_append.mp hq with hq | hq
  · exact zip_all (f := fun q => mokB q.1 q.2.1 q.2.2.1 q.2.2.2.1 q.2.2.2.2) hh _ _ rfl mok_6 q hq
  rcases List.mem_append.mp hq with hq | hq
  · exact zip_all (f := fun q => mokB q.1 q.2.1 q.2.2.1 q.2.2.2.1 q.2.2.2.2) hh _ _ rfl mok_7 q hq
  exact zip_all (f := fun q => mokB q.1 q.2.1 q.2.2.1 q.2.2.2.1 q.2.2.2.2) hh _ _ rfl mok_8 q hq
theorem hMT (mi : Nat) : MOk (MT mi) := by
  unfold MT
  rw [List.getD_eq_getElem?_getD]
  cases e : mtab[mi]? with
  | none => exact mok_all _ List.mem_cons_self
  | some q => exact mok_all _ (List.mem_of_getElem? e)
theorem mokLen : MOk qLen := mokB_ok (p1 := 445) (p2 := 118) (p3 := 443) (p4 := 444) (by decide +kernel)
theorem mokCh : MOk qCh := mokB_ok (p1 := 455) (p2 := 118) (p3 := 453) (p4 := 454) (by decide +kernel)
def clsB (ci : Nat) (q : vw_C) (ps : List Nat) (p1 p2 : Nat) : Bool := (List.range q.2.2).all (fun k => okW (ps.getD k 0) (u_lay q.1 q.2.1 k) && decide (parseFieldDescriptor (q.2.1 k).2.2.1 = some (cty ci k)) && decide (defaultValue (cty ci k) = (match fty ci k with | 1 => .long 0 | 2 => .null | _ => .int 0)) && (List.range q.2.2).all (fun b => decide (k = b ∨ (q.2.1 k).2.1 ≠ (q.2.1 b).2.1))) && okW p1 (.instantiable q.1 q.2.2) && okW p2 (.initialized q.1)
theorem clsB_ok {ci : Nat} {q : vw_C} {ps : List Nat} {p1 p2 : Nat} (h : clsB ci q ps p1 p2 = true) : ClsOk ci q := by
  unfold clsB at h
  rw [Bool.and_eq_true, Bool.and_eq_true] at h
  obtain ⟨⟨h1, h2⟩, h3⟩ := h
  have h4 : ∀ k, k < q.2.2 → ((okW (ps.getD k 0) (u_lay q.1 q.2.1 k) = true ∧ parseFieldDescriptor (q.2.1 k).2.2.1 = some (cty ci k)) ∧ defaultValue (cty ci k) = (match fty ci k with | 1 => .long 0 | 2 => .null | _ => .int 0)) ∧ ∀ b, b < q.2.2 → k = b ∨ (q.2.1 k).2.1 ≠ (q.2.1 b).2.1 := by
    intro k hk
    have h5 := List.all_eq_true.mp h1 k (List.mem_range.mpr hk)
    rw [Bool.and_eq_true, Bool.and_eq_true, Bool.and_eq_true, decide_eq_true_eq, decide_eq_true_eq] at h5
    exact ⟨h5.1, fun b hb => of_decide_eq_true (List.all_eq_true.mp h5.2 b (List.mem_range.mpr hb))⟩
  refine ⟨fun w hw => ?_, fun k hk => (h4 k hk).1.1.2, fun a ha b hb hne => ?_, okW_mem h2, okW_mem h3, fun k hk => (h4 k hk).1.2⟩
  · obtain ⟨k, hk, rfl⟩ := List.mem_map.mp hw
    exact okW_mem (h4 k (List.mem_range.mp hk)).1.1.1
  · rcases (h4 a ha).2 b hb with e | e
    · exact absurd e hne
    · exact e
theorem cls_0 : ClsOk 0 (RX1, TX1, 5) := clsB_ok (ps := [198, 200, 202, 204, 206]) (p1 := 184) (p2 := 113) (by decide +kernel)
theorem cls_1 : ClsOk 1 (RX2, TX2, 8) := clsB_ok (ps := [334, 336, 338, 340, 342, 344, 346, 348]) (p1 := 266) (p2 := 114) (by decide +kernel)
theorem cls_2 : ClsOk 2 (RX3, TX3, 7) := clsB_ok (ps := [294, 296, 298, 300, 302, 304, 306]) (p1 := 280) (p2 := 116) (by decide +kernel)
theorem cls_3 : ClsOk 3 (RX4, TX4, 2) := clsB_ok (ps := [313, 315]) (p1 := 272) (p2 := 115) (by decide +kernel)
theorem cls_4 : ClsOk 4 (RX5, TX5, 9) := clsB_ok (ps := [157, 159, 161, 163, 165, 167, 169, 171, 173]) (p1 := 140) (p2 := 111) (by decide +kernel)
theorem cls_5 : ClsOk 5 (RX6, TX6, 13) := clsB_ok (ps := [237, 239, 241, 243, 245, 247, 249, 251, 253, 255, 257, 259, 261]) (p1 := 178) (p2 := 112) (by decide +kernel)
theorem cls_6 : ClsOk 6 (RX7, TX7, 12) := clsB_ok (ps := [366, 368, 370, 372, 374, 376, 378, 380, 382, 384, 386, 388]) (p1 := 132) (p2 := 110) (by decide +kernel)
theorem cls_7 : ClsOk 7 (RX8, TX8, 18) := clsB_ok (ps := [1481, 1483, 1485, 1487, 1489, 1491, 1493, 1495, 1497, 1499, 1501, 1503, 1505, 1507, 1509, 1511, 1513, 1515]) (p1 := 1446) (p2 := 123) (by decide +kernel)
theorem cls_8 : ClsOk 8 (RX9, TX9, 41) := clsB_ok (ps := [1346, 1348, 1350, 1352, 1354, 1356, 1358, 1360, 1362, 1364, 1366, 1368, 1370, 1372, 1374, 1376, 1378, 1380, 1382, 1384, 1386, 1388, 1390, 1392, 1394, 1396, 1398, 1400, 1402, 1404, 1406, 1408, 1410, 1412, 1414, 1416, 1418, 1420, 1422, 1424, 1426]) (p1 := 1300) (p2 := 117) (by decide +kernel)
theorem cls_ok : ∀ ci q, cls[ci]? = some q → ClsOk ci q := by
  intro ci q h
  match ci, h with
  | 0, h => cases h; exact cls_0
  | 1, h => cases h; exact cls_1
  | 2, h => cases h; exact cls_2
  | 3, h => cases h; exact cls_3
  | 4, h => cases h; exact cls_4
  | 5, h => cases h; exact cls_5
  | 6, h => cases h; exact cls_6
  | 7, h => cases h; exact cls_7
  | 8, h => cases h; exact cls_8
  | ci + 9, h => cases h
theorem glob : GlobOk qLen qCh := by
  refine ⟨cls_ok, ⟨okW_mem (pos := 137) (by decide +kernel), okW_mem (pos := 138) (by decide +kernel)⟩, ⟨okW_mem (pos := 620) (by decide +kernel), okW_mem (pos := 619) (by decide +kernel), okW_mem (pos := 122) (by decide +kernel)⟩, fun t ht => ?_, ⟨mokLen, rfl, rfl, rfl⟩, ⟨mokCh, rfl, rfl, rfl⟩⟩
  rcases ht with rfl | rfl | rfl | rfl
  · exact okW_mem (pos := 209) (by decide +kernel)
  · exact okW_mem (pos := 176) (by decide +kernel)
  · exact okW_mem (pos := 264) (by decide +kernel)
  · exact okW_mem (pos := 2078) (by decide +kernel)
section STEP9
variable {l : Launch} {D : va_G} {dA : Nat → ClassId} {z : Nat} {sa : Nat → Nat} {Hz : Heap} {q : MI} {h0 fin : AH} {v : Option Value}
variable {ρ : Type} {K : Nat → LA → List Value → AH → Option ρ} {FI : Nat → List Value → AH → Option (Int32 × AH)} {FV : Nat → List Value → AH → Option AH} {FL : Nat → List Value → AH → Option (Int64 × AH)} {rt : Option Value → AH → Option ρ} {ft : Nat} {r : ρ}
theorem step (E : StrOK qLen qCh l D dA z sa Hz) {is : List AI} {pc : Nat} {la : LA} {st : List Value} {h : AH}
    (hev : evL K FI FV FL strLen strCh (0, fun _ => 0) rt ft is la st h = some r) (hok : vBL MT qLen qCh false q.2.2.2.2.1 q.2.2.2.2.2.1 q.2.2.1 q.1.cls q.1.name q.2.1 ft pc is = true)
    (hK : ∀ t la st h, K t la st h = some r → GM l D dA z sa Hz q h0 v fin t la st h)
    (hFI : ∀ mi As h x h', FI mi As h = some (x, h') → CalOK l D dA z sa Hz (MT mi) As h (some (.int x)) h') (hFV : ∀ mi As h h', FV mi As h = some h' → CalOK l D dA z sa Hz (MT mi) As h none h') (hFL : ∀ mi As h x h', FL mi As h = some (x, h') → CalOK l D dA z sa Hz (MT mi) As h (some (.long x)) h')
    (hrt : ∀ v' h', rt v' h' = some r → v' = v ∧ h' = fin ∧ RetOk q v) : GM l D dA z sa Hz q h0 v fin pc la st h := step0 glob hMT E hev hok hK hFI hFV hFL hrt
def cx {α : Type} (n : Nat) (f : List Value → AH → Option α) (g : Nat → List Value → AH → Option α) : Nat → List Value → AH → Option α := fun mi As h => if mi = n then f As h else g mi As h
def sT (st : List Value) (k : Nat → List Value → Option ρ) : Option ρ := match st with
  | .retAddr x :: st => k x st
  | _ => none
theorem sT_inv {st : List Value} {k : Nat → List Value → Option ρ} (h : sT st k = some r) : ∃ x st', st = .retAddr x :: st' ∧ k x st' = some r := by
  unfold sT at h
  split at h
  · exact ⟨_, _, rfl, h⟩
  · cases h
theorem cxI_ok {n : Nat} {f : List Value → AH → Option (Int32 × AH)} {g : Nat → List Value → AH → Option (Int32 × AH)} (hf : ∀ As h x h', f As h = some (x, h') → CalOK l D dA z sa Hz (MT n) As h (some (.int x)) h') (hg : ∀ mi As h x h', g mi As h = some (x, h') → CalOK l D dA z sa Hz (MT mi) As h (some (.int x)) h') : ∀ mi As h x h', cx n f g mi As h = some (x, h') → CalOK l D dA z sa Hz (MT mi) As h (some (.int x)) h' := by
  intro mi As h x h' e
  unfold cx at e
  by_cases ht : mi = n
  · rw [if_pos ht] at e; subst ht; exact hf As h x h' e
  · rw [if_neg ht] at e; exact hg mi As h x h' e
theorem cxL_ok {n : Nat} {f : List Value → AH → Option (Int64 × AH)} {g : Nat → List Value → AH → Option (Int64 × AH)} (hf : ∀ As h x h', f As h = some (x, h') → CalOK l D dA z sa Hz (MT n) As h (some (.long x)) h') (hg : ∀ mi As h x h', g mi As h = some (x, h') → CalOK l D dA z sa Hz (MT mi) As h (some (.long x)) h') : ∀ mi As h x h', cx n f g mi As h = some (x, h') → CalOK l D dA z sa Hz (MT mi) As h (some (.long x)) h' := by
  intro mi As h x h' e
  unfold cx at e
  by_cases ht : mi = n
  · rw [if_pos ht] at e; subst ht; exact hf As h x h' e
  · rw [if_neg ht] at e; exact hg mi As h x h' e
theorem cxV_ok {n : Nat} {f : List Value → AH → Option AH} {g : Nat → List Value → AH → Option AH} (hf : ∀ As h h', f As h = some h' → CalOK l D dA z sa Hz (MT n) As h none h') (hg : ∀ mi As h h', g mi As h = some h' → CalOK l D dA z sa Hz (MT mi) As h none h') : ∀ mi As h h', cx n f g mi As h = some h' → CalOK l D dA z sa Hz (MT mi) As h none h' := by
  intro mi As h h' e
  unfold cx at e
  by_cases ht : mi = n
  · rw [if_pos ht] at e; subst ht; exact hf As h h' e
  · rw [if_neg ht] at e; exact hg mi As h h' e
theorem fI0_ok (E : StrOK qLen qCh l D dA z sa Hz) : ∀ mi As h x h', fI0 mi As h = some (x, h') → CalOK l D dA z sa Hz (MT mi) As h (some (.int x)) h' := fun _ _ _ _ _ e => nomatch e
theorem fV0_ok (E : StrOK qLen qCh l D dA z sa Hz) : ∀ mi As h h', fV0 mi As h = some h' → CalOK l D dA z sa Hz (MT mi) As h none h' := fun _ _ _ _ e => nomatch e
theorem fL0_ok (E : StrOK qLen qCh l D dA z sa Hz) : ∀ mi As h x h', fL0 mi As h = some (x, h') → CalOK l D dA z sa Hz (MT mi) As h (some (.long x)) h' := fun _ _ _ _ _ e => nomatch e
end STEP9
