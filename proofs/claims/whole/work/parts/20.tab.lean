/-! ===== the methods: names, codes, rooms ===== -/
def FU : Nat := 10000
def q_X5_init : MI := (yX5_init, cX5_init, 1, none, 1, 20, 2, 0)
def q_X1_init : MI := (yX1_init, cX1_init, 1, none, 1, 20, 2, 0)
def q_X6_init : MI := (yX6_init, cX6_init, 1, none, 2, 40, 2, 0)
def q_X3_init : MI := (yX3_init, cX3_init, 1, none, 1, 20, 2, 0)
def q_X4_init : MI := (yX4_init, cX4_init, 1, none, 2, 40, 2, 0)
def q_X2_init : MI := (yX2_init, cX2_init, 1, none, 3, 60, 2, 0)
def q_X7_init : MI := (yX7_init, cX7_init, 2, none, 4, 80, 2, 0)
def q_X5_append : MI := (yX5_append, cX5_append, 3, none, 1, 20, 1, 1)
def q_X7_feed : MI := (yX7_feed, cX7_feed, 6, (some .int), 2, 42, 1, 5)
def q_X7_refuse : MI := (yX7_refuse, cX7_refuse, 2, (some .int), 1, 20, 1, 1)
def q_X1_empty : MI := (yX1_empty, cX1_empty, 2, none, 1, 20, 1, 0)
def q_X6_empty : MI := (yX6_empty, cX6_empty, 2, none, 2, 41, 1, 0)
def q_X5_byteAt : MI := (yX5_byteAt, cX5_byteAt, 2, (some .int), 1, 20, 1, 1)
def q_X5_isSmall : MI := (yX5_isSmall, cX5_isSmall, 1, (some .boolean), 1, 20, 0, 1)
def q_X5_isDigit : MI := (yX5_isDigit, cX5_isDigit, 1, (some .boolean), 1, 20, 0, 1)
def q_X5_advance : MI := (yX5_advance, cX5_advance, 2, none, 2, 41, 1, 0)
def q_X5_isName : MI := (yX5_isName, cX5_isName, 3, (some .boolean), 7, 221, 1, 1)
def q_X5_fails : MI := (yX5_fails, cX5_fails, 2, (some .boolean), 1, 20, 1, 1)
def q_X5_isWhole : MI := (yX5_isWhole, cX5_isWhole, 3, (some .boolean), 2, 41, 1, 2)
def q_X5_readsMachine : MI := (yX5_readsMachine, cX5_readsMachine, 2, (some .boolean), 8, 243, 1, 1)
def q_X5_lineSort : MI := (yX5_lineSort, cX5_lineSort, 1, (some .int), 8, 243, 1, 0)
def q_X5_isFull : MI := (yX5_isFull, cX5_isFull, 2, (some .boolean), 1, 20, 0, 2)
def q_X1_isBacked : MI := (yX1_isBacked, cX1_isBacked, 2, (some .boolean), 1, 20, 1, 1)
def q_X1_isTaken : MI := (yX1_isTaken, cX1_isTaken, 3, (some .boolean), 1, 20, 1, 1)
def q_X1_backWith : MI := (yX1_backWith, cX1_backWith, 4, none, 1, 20, 1, 3)
def q_X6_addHost : MI := (yX6_addHost, cX6_addHost, 4, none, 2, 43, 1, 3)
def q_X5_readsHost : MI := (yX5_readsHost, cX5_readsHost, 5, (some .boolean), 8, 243, 1, 1)
def q_X1_spot : MI := (yX1_spot, cX1_spot, 2, (some .int), 1, 20, 0, 2)
def q_X6_toldWord : MI := (yX6_toldWord, cX6_toldWord, 3, (some .boolean), 2, 41, 1, 2)
def q_X6_doubted : MI := (yX6_doubted, cX6_doubted, 4, (some .boolean), 2, 41, 1, 2)
def q_X1_setWord : MI := (yX1_setWord, cX1_setWord, 4, none, 2, 41, 1, 3)
def q_X6_addWord : MI := (yX6_addWord, cX6_addWord, 4, none, 3, 64, 1, 3)
def q_X6_addDoubt : MI := (yX6_addDoubt, cX6_addDoubt, 4, none, 2, 41, 1, 3)
def q_X5_readsWord : MI := (yX5_readsWord, cX5_readsWord, 5, (some .boolean), 4, 87, 1, 2)
def q_X5_modeNamed : MI := (yX5_modeNamed, cX5_modeNamed, 1, (some .int), 8, 243, 1, 0)
def q_X5_isWay : MI := (yX5_isWay, cX5_isWay, 3, (some .boolean), 9, 263, 1, 0)
def q_X6_addStep : MI := (yX6_addStep, cX6_addStep, 2, none, 1, 20, 1, 1)
def q_X5_readsRun : MI := (yX5_readsRun, cX5_readsRun, 2, (some .boolean), 10, 285, 1, 1)
def q_X6_sighted : MI := (yX6_sighted, cX6_sighted, 3, (some .boolean), 1, 20, 1, 1)
def q_X5_howNamed : MI := (yX5_howNamed, cX5_howNamed, 1, (some .int), 8, 243, 1, 0)
def q_X6_addSight : MI := (yX6_addSight, cX6_addSight, 3, none, 1, 20, 1, 2)
def q_X5_readsSaw : MI := (yX5_readsSaw, cX5_readsSaw, 4, (some .boolean), 10, 285, 1, 1)
def q_X5_readsLine : MI := (yX5_readsLine, cX5_readsLine, 3, (some .boolean), 11, 308, 1, 1)
def q_X5_reads : MI := (yX5_reads, cX5_reads, 4, (some .boolean), 12, 330, 1, 2)
def q_X1_copyFrom : MI := (yX1_copyFrom, cX1_copyFrom, 2, none, 1, 60, 1, 1)
def q_X3_vacate : MI := (yX3_vacate, cX3_vacate, 3, none, 1, 20, 1, 1)
def q_X3_startWith : MI := (yX3_startWith, cX3_startWith, 3, none, 2, 42, 1, 1)
def q_X2_clearCounts : MI := (yX2_clearCounts, cX2_clearCounts, 1, none, 1, 20, 1, 0)
def q_X2_startAnew : MI := (yX2_startAnew, cX2_startAnew, 3, none, 3, 81, 1, 2)
def q_X7_begin : MI := (yX7_begin, cX7_begin, 1, none, 4, 103, 1, 0)
def q_X7_answer : MI := (yX7_answer, cX7_answer, 2, (some .int), 1, 20, 1, 1)
def q_X7_machine : MI := (yX7_machine, cX7_machine, 3, (some .int), 13, 353, 1, 1)
def q_X7_fault : MI := (yX7_fault, cX7_fault, 1, (some .int), 1, 20, 1, 0)
def q_X7_where : MI := (yX7_where, cX7_where, 1, (some .int), 1, 20, 1, 0)
def q_X7_isFrame : MI := (yX7_isFrame, cX7_isFrame, 2, (some .boolean), 1, 20, 1, 1)
def q_X7_isPlace : MI := (yX7_isPlace, cX7_isPlace, 1, (some .boolean), 1, 20, 0, 1)
def q_X1_wordAt : MI := (yX1_wordAt, cX1_wordAt, 3, (some .int), 1, 20, 1, 2)
def q_X7_word : MI := (yX7_word, cX7_word, 3, (some .int), 2, 42, 1, 2)
def q_X1_hostOf : MI := (yX1_hostOf, cX1_hostOf, 2, (some .int), 1, 20, 1, 1)
def q_X7_backing : MI := (yX7_backing, cX7_backing, 2, (some .int), 2, 41, 1, 1)
def q_X7_has : MI := (yX7_has, cX7_has, 2, (some .boolean), 1, 20, 0, 2)
def q_X1_isWritable : MI := (yX1_isWritable, cX1_isWritable, 2, (some .boolean), 2, 41, 1, 1)
def q_X7_bit : MI := (yX7_bit, cX7_bit, 1, (some .int), 1, 20, 0, 1)
def q_X7_writes : MI := (yX7_writes, cX7_writes, 2, (some .int), 3, 62, 1, 1)
def q_X7_root : MI := (yX7_root, cX7_root, 1, (some .int), 2, 41, 1, 0)
def q_X7_marks : MI := (yX7_marks, cX7_marks, 1, (some .int), 2, 41, 1, 0)
def q_X1_placesWith : MI := (yX1_placesWith, cX1_placesWith, 5, (some .int), 2, 42, 1, 2)
def q_X7_wordsWith : MI := (yX7_wordsWith, cX7_wordsWith, 3, (some .int), 3, 66, 1, 2)
def q_X7_isPage : MI := (yX7_isPage, cX7_isPage, 2, (some .boolean), 1, 20, 1, 1)
def q_X7_mode : MI := (yX7_mode, cX7_mode, 2, (some .int), 1, 20, 0, 2)
def q_X1_upperWord : MI := (yX1_upperWord, cX1_upperWord, 2, (some .int), 2, 42, 1, 1)
def q_X1_barOf : MI := (yX1_barOf, cX1_barOf, 2, (some .int), 2, 41, 0, 2)
def q_X7_frameIn : MI := (yX7_frameIn, cX7_frameIn, 1, (some .int), 1, 20, 0, 1)
def q_X1_lastWord : MI := (yX1_lastWord, cX1_lastWord, 3, (some .int), 2, 42, 1, 1)
def q_X1_firstOfLarge : MI := (yX1_firstOfLarge, cX1_firstOfLarge, 1, (some .int), 1, 20, 0, 1)
def q_X1_frameTold : MI := (yX1_frameTold, cX1_frameTold, 3, (some .int), 2, 42, 1, 1)
def q_X1_seek : MI := (yX1_seek, cX1_seek, 6, (some .int), 3, 64, 1, 2)
def q_X7_look : MI := (yX7_look, cX7_look, 4, (some .int), 4, 89, 1, 3)
def q_X1_frameBehind : MI := (yX1_frameBehind, cX1_frameBehind, 2, (some .int), 3, 64, 1, 1)
def q_X7_leads : MI := (yX7_leads, cX7_leads, 2, (some .int), 4, 85, 1, 1)
def q_X1_modesDone : MI := (yX1_modesDone, cX1_modesDone, 4, (some .int), 4, 89, 1, 1)
def q_X7_rights : MI := (yX7_rights, cX7_rights, 2, (some .int), 5, 112, 1, 1)
def q_X7_large : MI := (yX7_large, cX7_large, 3, (some .int), 3, 63, 1, 1)
def q_X1_pagesTo : MI := (yX1_pagesTo, cX1_pagesTo, 4, (some .int), 4, 85, 1, 1)
def q_X7_aliases : MI := (yX7_aliases, cX7_aliases, 2, (some .int), 5, 108, 1, 1)
def q_X1_tableFrames : MI := (yX1_tableFrames, cX1_tableFrames, 4, (some .int), 2, 42, 1, 0)
def q_X7_tables : MI := (yX7_tables, cX7_tables, 1, (some .int), 3, 65, 1, 0)
def q_X3_find : MI := (yX3_find, cX3_find, 4, (some .int), 1, 20, 1, 2)
def q_X3_entryAt : MI := (yX3_entryAt, cX3_entryAt, 3, (some .int), 1, 20, 1, 2)
def q_X3_upperEntry : MI := (yX3_upperEntry, cX3_upperEntry, 4, (some .int), 2, 43, 1, 2)
def q_X3_hitEntry : MI := (yX3_hitEntry, cX3_hitEntry, 7, (some .int), 3, 66, 1, 3)
def q_X2_hostByHardware : MI := (yX2_hostByHardware, cX2_hostByHardware, 4, (some .int), 4, 92, 1, 2)
def q_X7_hits : MI := (yX7_hits, cX7_hits, 4, (some .int), 5, 115, 1, 3)
def q_X2_isStale : MI := (yX2_isStale, cX2_isStale, 4, (some .boolean), 5, 115, 1, 2)
def q_X2_staleWays : MI := (yX2_staleWays, cX2_staleWays, 3, (some .int), 6, 138, 1, 0)
def q_X7_stale : MI := (yX7_stale, cX7_stale, 1, (some .int), 7, 160, 1, 0)
def q_X2_firstStalePage : MI := (yX2_firstStalePage, cX2_firstStalePage, 2, (some .int), 6, 138, 1, 0)
def q_X7_staleAt : MI := (yX7_staleAt, cX7_staleAt, 1, (some .int), 7, 159, 1, 0)
def q_X2_missingWays : MI := (yX2_missingWays, cX2_missingWays, 5, (some .int), 5, 115, 1, 0)
def q_X7_missing : MI := (yX7_missing, cX7_missing, 1, (some .int), 6, 139, 1, 0)
def q_X7_isTable : MI := (yX7_isTable, cX7_isTable, 2, (some .boolean), 1, 20, 1, 1)
def q_X3_kindOf : MI := (yX3_kindOf, cX3_kindOf, 2, (some .int), 1, 20, 1, 1)
def q_X3_ownerOf : MI := (yX3_ownerOf, cX3_ownerOf, 2, (some .int), 1, 20, 1, 1)
def q_X3_isAstray : MI := (yX3_isAstray, cX3_isAstray, 2, (some .boolean), 2, 41, 1, 1)
def q_X3_entriesThere : MI := (yX3_entriesThere, cX3_entriesThere, 4, (some .int), 2, 42, 1, 1)
def q_X3_madeAhead : MI := (yX3_madeAhead, cX3_madeAhead, 5, (some .int), 2, 40, 1, 1)
def q_X3_isRootEntry : MI := (yX3_isRootEntry, cX3_isRootEntry, 3, (some .boolean), 1, 20, 1, 2)
def q_X3_toldByRoots : MI := (yX3_toldByRoots, cX3_toldByRoots, 4, (some .int), 2, 42, 1, 1)
def q_X3_property : MI := (yX3_property, cX3_property, 3, (some .int), 3, 65, 1, 2)
def q_X7_shadow : MI := (yX7_shadow, cX7_shadow, 3, (some .int), 4, 87, 1, 2)
def q_X7_entry : MI := (yX7_entry, cX7_entry, 3, (some .int), 2, 42, 1, 2)
def q_X3_isMap : MI := (yX3_isMap, cX3_isMap, 4, (some .boolean), 1, 20, 1, 2)
def q_X3_countMaps : MI := (yX3_countMaps, cX3_countMaps, 5, (some .int), 2, 43, 1, 2)
def q_X7_maps : MI := (yX7_maps, cX7_maps, 2, (some .int), 3, 67, 1, 1)
def q_X7_writers : MI := (yX7_writers, cX7_writers, 2, (some .int), 3, 67, 1, 1)
def q_X3_watches : MI := (yX3_watches, cX3_watches, 3, (some .boolean), 3, 62, 1, 1)
def q_X7_watched : MI := (yX7_watched, cX7_watched, 2, (some .int), 4, 84, 1, 1)
def q_X7_outOfStep : MI := (yX7_outOfStep, cX7_outOfStep, 1, (some .int), 2, 41, 1, 0)
def q_X3_freeAt : MI := (yX3_freeAt, cX3_freeAt, 4, (some .int), 1, 20, 1, 1)
def q_X3_oldestBeside : MI := (yX3_oldestBeside, cX3_oldestBeside, 5, (some .int), 1, 20, 1, 1)
def q_X7_dropsNext : MI := (yX7_dropsNext, cX7_dropsNext, 1, (some .int), 2, 44, 1, 0)
def q_X7_declines : MI := (yX7_declines, cX7_declines, 2, (some .boolean), 1, 20, 1, 1)
def q_X7_agrees : MI := (yX7_agrees, cX7_agrees, 1, (some .boolean), 1, 20, 1, 0)
def q_X7_mayRun : MI := (yX7_mayRun, cX7_mayRun, 2, (some .boolean), 2, 41, 1, 1)
def q_X1_setMark : MI := (yX1_setMark, cX1_setMark, 2, none, 1, 20, 1, 1)
def q_X1_noteUse : MI := (yX1_noteUse, cX1_noteUse, 8, none, 3, 64, 1, 2)
def q_X3_drop : MI := (yX3_drop, cX3_drop, 3, none, 2, 42, 1, 1)
def q_X3_make : MI := (yX3_make, cX3_make, 4, none, 1, 20, 1, 3)
def q_X3_takeWrite : MI := (yX3_takeWrite, cX3_takeWrite, 4, (some .int), 2, 43, 1, 1)
def q_X2_tableOf : MI := (yX2_tableOf, cX2_tableOf, 5, (some .int), 3, 66, 1, 2)
def q_X3_spot : MI := (yX3_spot, cX3_spot, 2, (some .int), 1, 20, 0, 2)
def q_X3_tell : MI := (yX3_tell, cX3_tell, 6, none, 2, 41, 1, 5)
def q_X1_isMarked : MI := (yX1_isMarked, cX1_isMarked, 2, (some .boolean), 2, 41, 1, 1)
def q_X2_fill : MI := (yX2_fill, cX2_fill, 10, none, 4, 91, 1, 2)
def q_X2_reach : MI := (yX2_reach, cX2_reach, 5, (some .int), 5, 120, 1, 2)
def q_X7_runTold : MI := (yX7_runTold, cX7_runTold, 3, none, 6, 144, 1, 1)
def q_X7_runFaults : MI := (yX7_runFaults, cX7_runFaults, 2, (some .int), 7, 166, 1, 1)
def q_X7_runRefused : MI := (yX7_runRefused, cX7_runRefused, 2, (some .int), 7, 166, 1, 1)
def q_X7_runDrops : MI := (yX7_runDrops, cX7_runDrops, 2, (some .int), 7, 166, 1, 1)
def q_X7_poolFor : MI := (yX7_poolFor, cX7_poolFor, 3, (some .int), 7, 166, 1, 1)
def q_X3_copyFrom : MI := (yX3_copyFrom, cX3_copyFrom, 2, none, 1, 60, 1, 1)
def q_X4_copyFrom : MI := (yX4_copyFrom, cX4_copyFrom, 2, none, 2, 81, 1, 1)
def q_X2_startFrom : MI := (yX2_startFrom, cX2_startFrom, 2, none, 3, 102, 1, 1)
def q_X7_sweep : MI := (yX7_sweep, cX7_sweep, 4, (some .int), 6, 144, 1, 2)
def q_X7_mayDraw : MI := (yX7_mayDraw, cX7_mayDraw, 3, (some .boolean), 2, 41, 1, 2)
def q_X7_nextSeed : MI := (yX7_nextSeed, cX7_nextSeed, 1, (some .int), 1, 20, 0, 1)
def q_X7_runDrawn : MI := (yX7_runDrawn, cX7_runDrawn, 6, none, 6, 144, 1, 2)
def q_X7_drawnFaults : MI := (yX7_drawnFaults, cX7_drawnFaults, 3, (some .int), 7, 169, 1, 2)
def q_X7_drawnMarks : MI := (yX7_drawnMarks, cX7_drawnMarks, 3, (some .int), 7, 169, 1, 2)
def q_X7_divisor : MI := (yX7_divisor, cX7_divisor, 6, (some .int), 1, 20, 0, 2)
def q_X7_rate : MI := (yX7_rate, cX7_rate, 4, (some .long), 2, 45, 1, 1)
def q_X6_firstUntrue : MI := (yX6_firstUntrue, cX6_firstUntrue, 5, (some .int), 4, 89, 1, 1)
def q_X6_fittingSets : MI := (yX6_fittingSets, cX6_fittingSets, 5, (some .int), 5, 113, 1, 1)
def q_X7_fitting : MI := (yX7_fitting, cX7_fitting, 1, (some .int), 6, 137, 1, 0)
def q_J6_bitCount_0f7a4 : MI := (yJ6_bitCount_0f7a4, cJ6_bitCount_0f7a4, 1, (some .int), 1, 20, 0, 1)
def q_X7_fits : MI := (yX7_fits, cX7_fits, 1, (some .int), 7, 157, 1, 0)
def q_X0_setAt : MI := (yX0_setAt, cX0_setAt, 4, (some .int), 2, 41, 0, 2)
def q_X7_fitAt : MI := (yX7_fitAt, cX7_fitAt, 3, (some .int), 7, 157, 1, 1)
def q_X0_inSome : MI := (yX0_inSome, cX0_inSome, 3, (some .int), 2, 41, 0, 1)
def q_X7_could : MI := (yX7_could, cX7_could, 1, (some .int), 7, 157, 1, 0)
def q_X0_inAll : MI := (yX0_inAll, cX0_inAll, 3, (some .int), 2, 41, 0, 1)
def q_X7_surely : MI := (yX7_surely, cX7_surely, 1, (some .int), 7, 157, 1, 0)
def q_X0_leftAtMost : MI := (yX0_leftAtMost, cX0_leftAtMost, 4, (some .int), 2, 41, 0, 2)
def q_X0_bestToAsk : MI := (yX0_bestToAsk, cX0_bestToAsk, 4, (some .int), 3, 64, 0, 2)
def q_X7_ask : MI := (yX7_ask, cX7_ask, 1, (some .int), 7, 157, 1, 0)
def q_X7_askLeaves : MI := (yX7_askLeaves, cX7_askLeaves, 3, (some .int), 7, 157, 1, 0)
def q_X7_judge : MI := (yX7_judge, cX7_judge, 1, (some .int), 5, 113, 1, 0)
def q_X7_keep : MI := (yX7_keep, cX7_keep, 1, none, 3, 102, 1, 0)
def q_X7_access : MI := (yX7_access, cX7_access, 4, (some .int), 6, 144, 1, 3)
def q_X7_isWord : MI := (yX7_isWord, cX7_isWord, 1, (some .boolean), 1, 20, 0, 1)
def q_X3_remove : MI := (yX3_remove, cX3_remove, 5, (some .int), 2, 41, 1, 2)
def q_X3_loosen : MI := (yX3_loosen, cX3_loosen, 5, none, 3, 65, 1, 2)
def q_X3_allowWrite : MI := (yX3_allowWrite, cX3_allowWrite, 4, none, 2, 41, 1, 2)
def q_X2_putBehindFault : MI := (yX2_putBehindFault, cX2_putBehindFault, 6, none, 4, 89, 1, 3)
def q_X2_put : MI := (yX2_put, cX2_put, 7, (some .int), 6, 144, 1, 4)
def q_X7_store : MI := (yX7_store, cX7_store, 5, (some .int), 7, 170, 1, 4)
def q_X2_bringBack : MI := (yX2_bringBack, cX2_bringBack, 7, none, 3, 66, 1, 1)
def q_X2_takeRoot : MI := (yX2_takeRoot, cX2_takeRoot, 4, (some .int), 4, 92, 1, 1)
def q_X7_load : MI := (yX7_load, cX7_load, 2, (some .int), 5, 122, 1, 1)
def q_X2_forget : MI := (yX2_forget, cX2_forget, 3, (some .int), 3, 66, 1, 1)
def q_X7_flush : MI := (yX7_flush, cX7_flush, 2, (some .int), 4, 122, 1, 1)
def q_X3_forgetPlace : MI := (yX3_forgetPlace, cX3_forgetPlace, 6, (some .int), 3, 65, 1, 2)
def q_X2_putPastWatching : MI := (yX2_putPastWatching, cX2_putPastWatching, 4, (some .int), 4, 90, 1, 3)
def q_X7_device : MI := (yX7_device, cX7_device, 4, (some .int), 5, 122, 1, 3)
def q_X1_takeAway : MI := (yX1_takeAway, cX1_takeAway, 2, none, 1, 20, 1, 1)
def q_X3_removeMaps : MI := (yX3_removeMaps, cX3_removeMaps, 4, (some .int), 2, 43, 1, 1)
def q_X7_unmap : MI := (yX7_unmap, cX7_unmap, 2, (some .int), 4, 122, 1, 1)
def q_X1_unmark : MI := (yX1_unmark, cX1_unmark, 2, none, 1, 20, 1, 1)
def q_X7_give : MI := (yX7_give, cX7_give, 4, (some .boolean), 4, 122, 1, 3)
def q_X1_makeReadOnly : MI := (yX1_makeReadOnly, cX1_makeReadOnly, 2, none, 1, 20, 1, 1)
def q_X7_protect : MI := (yX7_protect, cX7_protect, 2, (some .int), 4, 122, 1, 1)
def q_X7_clean : MI := (yX7_clean, cX7_clean, 3, (some .int), 4, 122, 1, 1)
def q_X7_undo : MI := (yX7_undo, cX7_undo, 1, (some .boolean), 3, 102, 1, 0)
def q_X7_image : MI := (yX7_image, cX7_image, 1, (some .int), 3, 102, 1, 0)
def q_X7_back : MI := (yX7_back, cX7_back, 2, (some .boolean), 3, 102, 1, 1)
def q_X1_countBacked : MI := (yX1_countBacked, cX1_countBacked, 3, (some .int), 2, 41, 1, 0)
def q_X7_size : MI := (yX7_size, cX7_size, 2, (some .int), 3, 63, 1, 1)
def q_X7_trouble : MI := (yX7_trouble, cX7_trouble, 1, (some .int), 1, 20, 1, 0)
def q_X9_init : MI := (yX9_init, cX9_init, 1, none, 1, 20, 2, 0)
def q_X9_thrown : MI := (yX9_thrown, cX9_thrown, 1, (some .int), 1, 20, 1, 0)
def q_X9_feed : MI := (yX9_feed, cX9_feed, 8, (some .int), 1, 20, 1, 5)
def q_X9_refused : MI := (yX9_refused, cX9_refused, 2, (some .int), 1, 20, 1, 1)
def q_X8_init : MI := (yX8_init, cX8_init, 1, none, 1, 20, 2, 0)
def q_X9_byteAt : MI := (yX9_byteAt, cX9_byteAt, 2, (some .int), 1, 20, 1, 1)
def q_X9_isLetter : MI := (yX9_isLetter, cX9_isLetter, 1, (some .boolean), 1, 20, 0, 1)
def q_X9_isDigit : MI := (yX9_isDigit, cX9_isDigit, 1, (some .boolean), 1, 20, 0, 1)
def q_X9_goesOn : MI := (yX9_goesOn, cX9_goesOn, 3, none, 2, 41, 1, 0)
def q_X9_packed : MI := (yX9_packed, cX9_packed, 4, (some .long), 7, 221, 0, 1)
def q_X9_isWord : MI := (yX9_isWord, cX9_isWord, 2, (some .boolean), 8, 244, 1, 1)
def q_X9_flaw : MI := (yX9_flaw, cX9_flaw, 2, none, 1, 20, 1, 1)
def q_X9_needs : MI := (yX9_needs, cX9_needs, 2, none, 9, 265, 1, 1)
def q_X9_in : MI := (yX9_in, cX9_in, 3, (some .boolean), 1, 20, 0, 3)
def q_X9_wholeAt : MI := (yX9_wholeAt, cX9_wholeAt, 3, (some .int), 2, 42, 1, 2)
def q_X9_readWhole : MI := (yX9_readWhole, cX9_readWhole, 4, (some .int), 3, 64, 1, 2)
def q_X9_readMachine : MI := (yX9_readMachine, cX9_readMachine, 3, none, 10, 286, 1, 0)
def q_X9_lineBegins : MI := (yX9_lineBegins, cX9_lineBegins, 3, none, 3, 63, 1, 2)
def q_X8_isGiven : MI := (yX8_isGiven, cX8_isGiven, 3, (some .boolean), 1, 20, 1, 1)
def q_X9_readHost : MI := (yX9_readHost, cX9_readHost, 4, none, 9, 265, 1, 0)
def q_X9_readWord : MI := (yX9_readWord, cX9_readWord, 4, none, 4, 87, 1, 0)
def q_X9_modeAt : MI := (yX9_modeAt, cX9_modeAt, 2, (some .int), 9, 265, 1, 0)
def q_X9_readRun : MI := (yX9_readRun, cX9_readRun, 3, none, 10, 286, 1, 0)
def q_X8_isUnsure : MI := (yX8_isUnsure, cX8_isUnsure, 3, (some .boolean), 1, 20, 1, 1)
def q_X9_readUnsure : MI := (yX9_readUnsure, cX9_readUnsure, 4, none, 4, 87, 1, 0)
def q_X8_isSaw : MI := (yX8_isSaw, cX8_isSaw, 4, (some .boolean), 1, 20, 1, 2)
def q_X9_readSaw : MI := (yX9_readSaw, cX9_readSaw, 4, none, 10, 286, 1, 0)
def q_X9_readLine : MI := (yX9_readLine, cX9_readLine, 1, none, 11, 309, 1, 0)
def q_X9_eatsSemicolon : MI := (yX9_eatsSemicolon, cX9_eatsSemicolon, 2, (some .boolean), 3, 63, 1, 0)
def q_X9_readAll : MI := (yX9_readAll, cX9_readAll, 2, none, 12, 329, 1, 0)
def q_X9_bit : MI := (yX9_bit, cX9_bit, 2, (some .boolean), 1, 20, 0, 2)
def q_X9_frees : MI := (yX9_frees, cX9_frees, 3, none, 1, 20, 1, 1)
def q_X9_begins : MI := (yX9_begins, cX9_begins, 1, none, 1, 20, 1, 0)
def q_X9_asTold : MI := (yX9_asTold, cX9_asTold, 3, none, 2, 42, 1, 1)
def q_X9_remains : MI := (yX9_remains, cX9_remains, 2, none, 1, 20, 1, 0)
def q_X9_good : MI := (yX9_good, cX9_good, 2, (some .int), 1, 20, 1, 1)
def q_X9_machine : MI := (yX9_machine, cX9_machine, 2, (some .int), 13, 350, 1, 1)
def q_X9_fault : MI := (yX9_fault, cX9_fault, 1, (some .int), 1, 20, 1, 0)
def q_X9_where : MI := (yX9_where, cX9_where, 1, (some .int), 1, 20, 1, 0)
def q_X9_isFrame : MI := (yX9_isFrame, cX9_isFrame, 1, (some .boolean), 1, 20, 0, 1)
def q_X9_word : MI := (yX9_word, cX9_word, 3, (some .int), 2, 42, 1, 2)
def q_X9_works : MI := (yX9_works, cX9_works, 2, none, 2, 40, 1, 0)
def q_X9_isBacked : MI := (yX9_isBacked, cX9_isBacked, 2, (some .boolean), 1, 20, 1, 1)
def q_X9_hostOf : MI := (yX9_hostOf, cX9_hostOf, 2, (some .int), 1, 20, 1, 1)
def q_X9_backing : MI := (yX9_backing, cX9_backing, 2, (some .int), 3, 61, 1, 1)
def q_X9_isRw : MI := (yX9_isRw, cX9_isRw, 2, (some .boolean), 2, 41, 1, 1)
def q_X9_writes : MI := (yX9_writes, cX9_writes, 2, (some .int), 3, 62, 1, 1)
def q_X9_root : MI := (yX9_root, cX9_root, 1, (some .int), 2, 41, 1, 0)
def q_X9_marks : MI := (yX9_marks, cX9_marks, 1, (some .int), 2, 41, 1, 0)
def q_X9_has : MI := (yX9_has, cX9_has, 2, (some .boolean), 1, 20, 0, 2)
def q_X9_wordsWith : MI := (yX9_wordsWith, cX9_wordsWith, 5, (some .int), 2, 42, 1, 2)
def q_X9_isPage : MI := (yX9_isPage, cX9_isPage, 1, (some .boolean), 1, 20, 0, 1)
def q_X9_isAsked : MI := (yX9_isAsked, cX9_isAsked, 2, (some .boolean), 2, 40, 1, 1)
def q_X9_rootWord : MI := (yX9_rootWord, cX9_rootWord, 2, (some .int), 1, 20, 1, 1)
def q_X9_lets : MI := (yX9_lets, cX9_lets, 3, (some .boolean), 2, 41, 0, 3)
def q_X9_isLarge : MI := (yX9_isLarge, cX9_isLarge, 1, (some .boolean), 2, 41, 0, 1)
def q_X9_tells : MI := (yX9_tells, cX9_tells, 1, (some .int), 1, 20, 0, 1)
def q_X9_otherWord : MI := (yX9_otherWord, cX9_otherWord, 2, (some .int), 2, 41, 1, 1)
def q_X9_largeFrame : MI := (yX9_largeFrame, cX9_largeFrame, 2, (some .int), 2, 40, 0, 2)
def q_X9_leadsTo : MI := (yX9_leadsTo, cX9_leadsTo, 3, (some .int), 3, 62, 1, 1)
def q_X9_looks : MI := (yX9_looks, cX9_looks, 6, (some .int), 4, 84, 1, 3)
def q_X9_look : MI := (yX9_look, cX9_look, 4, (some .int), 5, 109, 1, 3)
def q_X9_leads : MI := (yX9_leads, cX9_leads, 2, (some .int), 4, 84, 1, 1)
def q_X9_rights : MI := (yX9_rights, cX9_rights, 4, (some .int), 5, 109, 1, 1)
def q_X9_large : MI := (yX9_large, cX9_large, 2, (some .int), 3, 61, 1, 1)
def q_X9_aliases : MI := (yX9_aliases, cX9_aliases, 4, (some .int), 4, 84, 1, 1)
def q_X9_tables : MI := (yX9_tables, cX9_tables, 4, (some .int), 3, 61, 1, 0)
def q_X9_tableOf : MI := (yX9_tableOf, cX9_tableOf, 4, (some .int), 1, 20, 1, 2)
def q_X9_hitAt : MI := (yX9_hitAt, cX9_hitAt, 8, (some .int), 2, 43, 1, 3)
def q_X9_hits : MI := (yX9_hits, cX9_hits, 5, (some .int), 3, 70, 1, 3)
def q_X9_isStale : MI := (yX9_isStale, cX9_isStale, 4, (some .boolean), 5, 109, 1, 2)
def q_X9_compares : MI := (yX9_compares, cX9_compares, 3, none, 6, 132, 1, 0)
def q_X9_stale : MI := (yX9_stale, cX9_stale, 1, (some .int), 7, 154, 1, 0)
def q_X9_staleAt : MI := (yX9_staleAt, cX9_staleAt, 1, (some .int), 7, 154, 1, 0)
def q_X9_missing : MI := (yX9_missing, cX9_missing, 1, (some .int), 7, 154, 1, 0)
def q_X9_isTable : MI := (yX9_isTable, cX9_isTable, 2, (some .boolean), 1, 20, 1, 1)
def q_X9_entriesOf : MI := (yX9_entriesOf, cX9_entriesOf, 4, (some .int), 1, 20, 1, 1)
def q_X9_aheadOf : MI := (yX9_aheadOf, cX9_aheadOf, 4, (some .int), 1, 20, 1, 1)
def q_X9_tellingOf : MI := (yX9_tellingOf, cX9_tellingOf, 4, (some .int), 1, 20, 1, 1)
def q_X9_shadow : MI := (yX9_shadow, cX9_shadow, 3, (some .int), 3, 61, 1, 2)
def q_X9_entry : MI := (yX9_entry, cX9_entry, 4, (some .int), 2, 42, 1, 2)
def q_X9_isMap : MI := (yX9_isMap, cX9_isMap, 3, (some .boolean), 1, 20, 1, 2)
def q_X9_mapsOf : MI := (yX9_mapsOf, cX9_mapsOf, 5, (some .int), 2, 42, 1, 2)
def q_X9_maps : MI := (yX9_maps, cX9_maps, 2, (some .int), 3, 66, 1, 1)
def q_X9_writers : MI := (yX9_writers, cX9_writers, 2, (some .int), 3, 66, 1, 1)
def q_X9_isWatched : MI := (yX9_isWatched, cX9_isWatched, 3, (some .boolean), 2, 43, 1, 1)
def q_X9_watched : MI := (yX9_watched, cX9_watched, 2, (some .int), 3, 65, 1, 1)
def q_X9_outOfStep : MI := (yX9_outOfStep, cX9_outOfStep, 3, (some .int), 2, 41, 1, 0)
def q_X9_freeOne : MI := (yX9_freeOne, cX9_freeOne, 2, (some .int), 1, 20, 1, 0)
def q_X9_longestAgo : MI := (yX9_longestAgo, cX9_longestAgo, 3, (some .int), 1, 20, 1, 0)
def q_X9_dropsNext : MI := (yX9_dropsNext, cX9_dropsNext, 1, (some .int), 3, 61, 1, 0)
def q_X9_refusesPool : MI := (yX9_refusesPool, cX9_refusesPool, 2, (some .int), 2, 42, 1, 1)
def q_X9_dropped : MI := (yX9_dropped, cX9_dropped, 3, none, 2, 42, 1, 1)
def q_X9_losesW : MI := (yX9_losesW, cX9_losesW, 4, (some .int), 2, 42, 1, 1)
def q_X9_needsTable : MI := (yX9_needsTable, cX9_needsTable, 5, (some .int), 3, 65, 1, 2)
def q_X9_filled : MI := (yX9_filled, cX9_filled, 11, none, 4, 89, 1, 2)
def q_X9_reaches : MI := (yX9_reaches, cX9_reaches, 5, (some .int), 5, 119, 1, 3)
def q_X9_runs : MI := (yX9_runs, cX9_runs, 3, none, 6, 143, 1, 1)
def q_X9_runFaults : MI := (yX9_runFaults, cX9_runFaults, 3, (some .int), 7, 165, 1, 1)
def q_X9_runRefused : MI := (yX9_runRefused, cX9_runRefused, 3, (some .int), 7, 165, 1, 1)
def q_X9_runDrops : MI := (yX9_runDrops, cX9_runDrops, 3, (some .int), 7, 165, 1, 1)
def q_X9_poolFor : MI := (yX9_poolFor, cX9_poolFor, 3, (some .int), 7, 165, 1, 1)
def q_X9_sweep : MI := (yX9_sweep, cX9_sweep, 4, (some .int), 6, 143, 1, 2)
def q_X9_refusesDraw : MI := (yX9_refusesDraw, cX9_refusesDraw, 3, (some .int), 2, 42, 1, 2)
def q_X9_draws : MI := (yX9_draws, cX9_draws, 6, none, 6, 143, 1, 2)
def q_X9_drawnFaults : MI := (yX9_drawnFaults, cX9_drawnFaults, 4, (some .int), 7, 168, 1, 2)
def q_X9_drawnMarks : MI := (yX9_drawnMarks, cX9_drawnMarks, 4, (some .int), 7, 168, 1, 2)
def q_X9_common : MI := (yX9_common, cX9_common, 10, (some .long), 1, 20, 0, 2)
def q_X9_fraction : MI := (yX9_fraction, cX9_fraction, 6, (some .long), 2, 49, 1, 3)
def q_X9_rate : MI := (yX9_rate, cX9_rate, 2, (some .long), 3, 74, 1, 1)
def q_X9_wrongSaw : MI := (yX9_wrongSaw, cX9_wrongSaw, 4, (some .int), 5, 109, 1, 1)
def q_X9_fitting : MI := (yX9_fitting, cX9_fitting, 5, (some .int), 6, 132, 1, 1)
def q_X9_fits : MI := (yX9_fits, cX9_fits, 1, (some .int), 7, 156, 1, 0)
def q_X9_fitAt : MI := (yX9_fitAt, cX9_fitAt, 3, (some .int), 7, 156, 1, 1)
def q_X9_could : MI := (yX9_could, cX9_could, 1, (some .int), 7, 156, 1, 0)
def q_X9_surely : MI := (yX9_surely, cX9_surely, 1, (some .int), 7, 156, 1, 0)
def q_X9_asks : MI := (yX9_asks, cX9_asks, 4, (some .int), 7, 156, 1, 0)
def q_X9_ask : MI := (yX9_ask, cX9_ask, 1, (some .int), 8, 179, 1, 0)
def q_X9_askLeaves : MI := (yX9_askLeaves, cX9_askLeaves, 1, (some .int), 8, 179, 1, 0)
def q_X9_judge : MI := (yX9_judge, cX9_judge, 1, (some .int), 6, 132, 1, 0)
def q_X9_remembers : MI := (yX9_remembers, cX9_remembers, 2, none, 3, 61, 1, 0)
def q_X9_counted : MI := (yX9_counted, cX9_counted, 2, (some .int), 2, 41, 1, 1)
def q_X9_access : MI := (yX9_access, cX9_access, 4, (some .int), 6, 143, 1, 3)
def q_X9_stores : MI := (yX9_stores, cX9_stores, 10, (some .int), 6, 143, 1, 4)
def q_X9_store : MI := (yX9_store, cX9_store, 6, (some .int), 7, 172, 1, 4)
def q_X9_steps : MI := (yX9_steps, cX9_steps, 5, none, 2, 41, 1, 1)
def q_X9_load : MI := (yX9_load, cX9_load, 4, (some .int), 4, 82, 1, 1)
def q_X9_flush : MI := (yX9_flush, cX9_flush, 3, (some .int), 4, 82, 1, 1)
def q_X9_takesEntry : MI := (yX9_takesEntry, cX9_takesEntry, 3, (some .int), 1, 20, 1, 2)
def q_X9_device : MI := (yX9_device, cX9_device, 6, (some .int), 4, 82, 1, 3)
def q_X9_unmap : MI := (yX9_unmap, cX9_unmap, 4, (some .int), 4, 82, 1, 1)
def q_X9_denied : MI := (yX9_denied, cX9_denied, 2, (some .boolean), 2, 41, 1, 1)
def q_X9_granted : MI := (yX9_granted, cX9_granted, 1, (some .boolean), 2, 41, 1, 0)
def q_X9_give : MI := (yX9_give, cX9_give, 5, (some .boolean), 4, 82, 1, 3)
def q_X9_protect : MI := (yX9_protect, cX9_protect, 3, (some .int), 4, 82, 1, 1)
def q_X9_clean : MI := (yX9_clean, cX9_clean, 3, (some .int), 4, 82, 1, 1)
def q_X9_undo : MI := (yX9_undo, cX9_undo, 2, (some .boolean), 3, 62, 1, 0)
def q_X9_image : MI := (yX9_image, cX9_image, 2, (some .int), 2, 41, 1, 0)
def q_X9_back : MI := (yX9_back, cX9_back, 3, (some .boolean), 3, 62, 1, 1)
def q_X9_led : MI := (yX9_led, cX9_led, 4, (some .int), 1, 20, 1, 1)
def q_X9_backedMany : MI := (yX9_backedMany, cX9_backedMany, 3, (some .int), 1, 20, 1, 0)
def q_X9_size : MI := (yX9_size, cX9_size, 2, (some .int), 2, 42, 1, 1)
def q_X9_trouble : MI := (yX9_trouble, cX9_trouble, 1, (some .int), 1, 20, 1, 0)
def mtab_0 : List MI := [q_X5_init, q_X1_init, q_X6_init, q_X3_init, q_X4_init, q_X2_init, q_X7_init, q_X5_append, q_X7_feed, q_X7_refuse, q_X1_empty, q_X6_empty, q_X5_byteAt, q_X5_isSmall, q_X5_isDigit, q_X5_advance, q_X5_isName, q_X5_fails, q_X5_isWhole, q_X5_readsMachine]
def mtab_1 : List MI := [q_X5_lineSort, q_X5_isFull, q_X1_isBacked, q_X1_isTaken, q_X1_backWith, q_X6_addHost, q_X5_readsHost, q_X1_spot, q_X6_toldWord, q_X6_doubted, q_X1_setWord, q_X6_addWord, q_X6_addDoubt, q_X5_readsWord, q_X5_modeNamed, q_X5_isWay, q_X6_addStep, q_X5_readsRun, q_X6_sighted, q_X5_howNamed]
def mtab_2 : List MI := [q_X6_addSight, q_X5_readsSaw, q_X5_readsLine, q_X5_reads, q_X1_copyFrom, q_X3_vacate, q_X3_startWith, q_X2_clearCounts, q_X2_startAnew, q_X7_begin, q_X7_answer, q_X7_machine, q_X7_fault, q_X7_where, q_X7_isFrame, q_X7_isPlace, q_X1_wordAt, q_X7_word, q_X1_hostOf, q_X7_backing]
def mtab_3 : List MI := [q_X7_has, q_X1_isWritable, q_X7_bit, q_X7_writes, q_X7_root, q_X7_marks, q_X1_placesWith, q_X7_wordsWith, q_X7_isPage, q_X7_mode, q_X1_upperWord, q_X1_barOf, q_X7_frameIn, q_X1_lastWord, q_X1_firstOfLarge, q_X1_frameTold, q_X1_seek, q_X7_look, q_X1_frameBehind, q_X7_leads]
def mtab_4 : List MI := [q_X1_modesDone, q_X7_rights, q_X7_large, q_X1_pagesTo, q_X7_aliases, q_X1_tableFrames, q_X7_tables, q_X3_find, q_X3_entryAt, q_X3_upperEntry, q_X3_hitEntry, q_X2_hostByHardware, q_X7_hits, q_X2_isStale, q_X2_staleWays, q_X7_stale, q_X2_firstStalePage, q_X7_staleAt, q_X2_missingWays, q_X7_missing]
def mtab_5 : List MI := [q_X7_isTable, q_X3_kindOf, q_X3_ownerOf, q_X3_isAstray, q_X3_entriesThere, q_X3_madeAhead, q_X3_isRootEntry, q_X3_toldByRoots, q_X3_property, q_X7_shadow, q_X7_entry, q_X3_isMap, q_X3_countMaps, q_X7_maps, q_X7_writers, q_X3_watches, q_X7_watched, q_X7_outOfStep, q_X3_freeAt, q_X3_oldestBeside]
def mtab_6 : List MI := [q_X7_dropsNext, q_X7_declines, q_X7_agrees, q_X7_mayRun, q_X1_setMark, q_X1_noteUse, q_X3_drop, q_X3_make, q_X3_takeWrite, q_X2_tableOf, q_X3_spot, q_X3_tell, q_X1_isMarked, q_X2_fill, q_X2_reach, q_X7_runTold, q_X7_runFaults, q_X7_runRefused, q_X7_runDrops, q_X7_poolFor]
def mtab_7 : List MI := [q_X3_copyFrom, q_X4_copyFrom, q_X2_startFrom, q_X7_sweep, q_X7_mayDraw, q_X7_nextSeed, q_X7_runDrawn, q_X7_drawnFaults, q_X7_drawnMarks, q_X7_divisor, q_X7_rate, q_X6_firstUntrue, q_X6_fittingSets, q_X7_fitting, q_J6_bitCount_0f7a4, q_X7_fits, q_X0_setAt, q_X7_fitAt, q_X0_inSome, q_X7_could]
def mtab_8 : List MI := [q_X0_inAll, q_X7_surely, q_X0_leftAtMost, q_X0_bestToAsk, q_X7_ask, q_X7_askLeaves, q_X7_judge, q_X7_keep, q_X7_access, q_X7_isWord, q_X3_remove, q_X3_loosen, q_X3_allowWrite, q_X2_putBehindFault, q_X2_put, q_X7_store, q_X2_bringBack, q_X2_takeRoot, q_X7_load, q_X2_forget]
def mtab_9 : List MI := [q_X7_flush, q_X3_forgetPlace, q_X2_putPastWatching, q_X7_device, q_X1_takeAway, q_X3_removeMaps, q_X7_unmap, q_X1_unmark, q_X7_give, q_X1_makeReadOnly, q_X7_protect, q_X7_clean, q_X7_undo, q_X7_image, q_X7_back, q_X1_countBacked, q_X7_size, q_X7_trouble, q_X9_init, q_X9_thrown]
def mtab_10 : List MI := [q_X9_feed, q_X9_refused, q_X8_init, q_X9_byteAt, q_X9_isLetter, q_X9_isDigit, q_X9_goesOn, q_X9_packed, q_X9_isWord, q_X9_flaw, q_X9_needs, q_X9_in, q_X9_wholeAt, q_X9_readWhole, q_X9_readMachine, q_X9_lineBegins, q_X8_isGiven, q_X9_readHost, q_X9_readWord, q_X9_modeAt]
def mtab_11 : List MI := [q_X9_readRun, q_X8_isUnsure, q_X9_readUnsure, q_X8_isSaw, q_X9_readSaw, q_X9_readLine, q_X9_eatsSemicolon, q_X9_readAll, q_X9_bit, q_X9_frees, q_X9_begins, q_X9_asTold, q_X9_remains, q_X9_good, q_X9_machine, q_X9_fault, q_X9_where, q_X9_isFrame, q_X9_word, q_X9_works]
def mtab_12 : List MI := [q_X9_isBacked, q_X9_hostOf, q_X9_backing, q_X9_isRw, q_X9_writes, q_X9_root, q_X9_marks, q_X9_has, q_X9_wordsWith, q_X9_isPage, q_X9_isAsked, q_X9_rootWord, q_X9_lets, q_X9_isLarge, q_X9_tells, q_X9_otherWord, q_X9_largeFrame, q_X9_leadsTo, q_X9_looks, q_X9_look]
def mtab_13 : List MI := [q_X9_leads, q_X9_rights, q_X9_large, q_X9_aliases, q_X9_tables, q_X9_tableOf, q_X9_hitAt, q_X9_hits, q_X9_isStale, q_X9_compares, q_X9_stale, q_X9_staleAt, q_X9_missing, q_X9_isTable, q_X9_entriesOf, q_X9_aheadOf, q_X9_tellingOf, q_X9_shadow, q_X9_entry, q_X9_isMap]
def mtab_14 : List MI := [q_X9_mapsOf, q_X9_maps, q_X9_writers, q_X9_isWatched, q_X9_watched, q_X9_outOfStep, q_X9_freeOne, q_X9_longestAgo, q_X9_dropsNext, q_X9_refusesPool, q_X9_dropped, q_X9_losesW, q_X9_needsTable, q_X9_filled, q_X9_reaches, q_X9_runs, q_X9_runFaults, q_X9_runRefused, q_X9_runDrops, q_X9_poolFor]
def mtab_15 : List MI := [q_X9_sweep, q_X9_refusesDraw, q_X9_draws, q_X9_drawnFaults, q_X9_drawnMarks, q_X9_common, q_X9_fraction, q_X9_rate, q_X9_wrongSaw, q_X9_fitting, q_X9_fits, q_X9_fitAt, q_X9_could, q_X9_surely, q_X9_asks, q_X9_ask, q_X9_askLeaves, q_X9_judge, q_X9_remembers, q_X9_counted]
def mtab_16 : List MI := [q_X9_access, q_X9_stores, q_X9_store, q_X9_steps, q_X9_load, q_X9_flush, q_X9_takesEntry, q_X9_device, q_X9_unmap, q_X9_denied, q_X9_granted, q_X9_give, q_X9_protect, q_X9_clean, q_X9_undo, q_X9_image, q_X9_back, q_X9_led, q_X9_backedMany, q_X9_size]
def mtab_17 : List MI := [q_X9_trouble]
def mtab : List MI := mtab_0 ++ (mtab_1 ++ (mtab_2 ++ (mtab_3 ++ (mtab_4 ++ (mtab_5 ++ (mtab_6 ++ (mtab_7 ++ (mtab_8 ++ (mtab_9 ++ (mtab_10 ++ (mtab_11 ++ (mtab_12 ++ (mtab_13 ++ (mtab_14 ++ (mtab_15 ++ (mtab_16 ++ (mtab_17)))))))))))))))))
def MT (mi : Nat) : MI := mtab.getD mi q_X5_init
def qLen : MI := (yJ0_length_8abf5, cJ0_length_8abf5, 1, (some .int), 3, 80, 1, 0)
def qCh : MI := (yJ0_charAt_5068e, cJ0_charAt_5068e, 2, (some .char), 6, 200, 1, 1)
/-- a method's words, by their places in the tables -/
def mokB (q : MI) (p2 p3 p4 : Nat) : Bool := okW p2 (.initialized q.1.cls) && decide (q.1.cls ≠ "java/lang/invoke/MethodHandle" ∧ q.1.cls ≠ "java/lang/invoke/VarHandle") && decide ((parseMethodDescriptor q.1.desc).map (fun d => d.parameters.length) = some q.2.2.2.2.2.2.2) &&
  (if q.2.2.2.2.2.2.1 = 0 then okW p3 (.static q.1) else if q.2.2.2.2.2.2.1 = 1 then okW p3 (.instanceMethod q.1) && okW p4 (.selects q.1.cls q.1 q.1) else decide (q.2.2.2.2.2.2.1 = 2 ∧ q.1.name = "<init>" ∧ q.2.2.2.1 = none) && okW p3 (.instanceMethod q.1))
theorem mokB_ok {q : MI} {p2 p3 p4 : Nat} (hc : Cond.code q.1 q.2.1 q.2.2.1 q.2.2.2.1 ∈ gW) (h : mokB q p2 p3 p4 = true) : MOk q := by
  unfold mokB at h
  rw [Bool.and_eq_true, Bool.and_eq_true, Bool.and_eq_true, decide_eq_true_eq, decide_eq_true_eq] at h
  obtain ⟨⟨⟨h2, h3⟩, h4⟩, h5⟩ := h
  refine ⟨hc, okW_mem h2, h3, h4, fun e => ?_, fun e => ?_, fun e => ?_⟩
  · rw [if_pos e] at h5; exact okW_mem h5
  · rw [if_neg (by rw [e]; decide), if_pos e, Bool.and_eq_true] at h5; exact ⟨okW_mem h5.1, okW_mem h5.2⟩
  · rw [if_neg (by rw [e]; decide), if_neg (by rw [e]; decide), Bool.and_eq_true, decide_eq_true_eq] at h5; exact ⟨h5.1.2.1, okW_mem h5.2, h5.1.2.2⟩
theorem gW_at {pos : Nat} {w : Cond} (h : lw_tbl[pos]? = some w) (g : goodWord w = true) : w ∈ gW := List.mem_filter.mpr ⟨List.mem_of_getElem? h, g⟩
set_option maxRecDepth 100000 in
theorem mk_X5_init : MOk q_X5_init := mokB_ok (p2 := 111) (p3 := 142) (p4 := 0) (gW_at (pos := 143) rfl rfl) (by decide +kernel)
set_option maxRecDepth 100000 in
theorem mk_X1_init : MOk q_X1_init := mokB_ok (p2 := 113) (p3 := 186) (p4 := 0) (gW_at (pos := 187) rfl rfl) (by decide +kernel)
set_option maxRecDepth 100000 in
theorem mk_X6_init : MOk q_X6_init := mokB_ok (p2 := 112) (p3 := 180) (p4 := 0) (gW_at (pos := 181) rfl rfl) (by decide +kernel)
set_option maxRecDepth 100000 in
theorem mk_X3_init : MOk q_X3_init := mokB_ok (p2 := 116) (p3 := 282) (p4 := 0) (gW_at (pos := 283) rfl rfl) (by decide +kernel)
set_option maxRecDepth 100000 in
theorem mk_X4_init : MOk q_X4_init := mokB_ok (p2 := 115) (p3 := 274) (p4 := 0) (gW_at (pos := 275) rfl rfl) (by decide +kernel)
set_option maxRecDepth 100000 in
theorem mk_X2_init : MOk q_X2_init := mokB_ok (p2 := 114) (p3 := 268) (p4 := 0) (gW_at (pos := 269) rfl rfl) (by decide +kernel)
set_option maxRecDepth 100000 in
theorem mk_X7_init : MOk q_X7_init := mokB_ok (p2 := 110) (p3 := 134) (p4 := 0) (gW_at (pos := 135) rfl rfl) (by decide +kernel)
set_option maxRecDepth 100000 in
theorem mk_X5_append : MOk q_X5_append := mokB_ok (p2 := 111) (p3 := 396) (p4 := 397) (gW_at (pos := 398) rfl rfl) (by decide +kernel)
set_option maxRecDepth 100000 in
theorem mk_X7_feed : MOk q_X7_feed := mokB_ok (p2 := 110) (p3 := 392) (p4 := 393) (gW_at (pos := 394) rfl rfl) (by decide +kernel)
set_option maxRecDepth 100000 in
theorem mk_X7_refuse : MOk q_X7_refuse := mokB_ok (p2 := 110) (p3 := 405) (p4 := 0) (gW_at (pos := 406) rfl rfl) (by decide +kernel)
set_option maxRecDepth 100000 in
theorem mk_X1_empty : MOk q_X1_empty := mokB_ok (p2 := 113) (p3 := 416) (p4 := 417) (gW_at (pos := 418) rfl rfl) (by decide +kernel)
set_option maxRecDepth 100000 in
theorem mk_X6_empty : MOk q_X6_empty := mokB_ok (p2 := 112) (p3 := 412) (p4 := 413) (gW_at (pos := 414) rfl rfl) (by decide +kernel)
set_option maxRecDepth 100000 in
theorem mk_X5_byteAt : MOk q_X5_byteAt := mokB_ok (p2 := 111) (p3 := 425) (p4 := 2) (gW_at (pos := 426) rfl rfl) (by decide +kernel)
set_option maxRecDepth 100000 in
theorem mk_X5_isSmall : MOk q_X5_isSmall := mokB_ok (p2 := 111) (p3 := 428) (p4 := 0) (gW_at (pos := 429) rfl rfl) (by decide +kernel)
set_option maxRecDepth 100000 in
theorem mk_X5_isDigit : MOk q_X5_isDigit := mokB_ok (p2 := 111) (p3 := 431) (p4 := 0) (gW_at (pos := 432) rfl rfl) (by decide +kernel)
set_option maxRecDepth 100000 in
theorem mk_X5_advance : MOk q_X5_advance := mokB_ok (p2 := 111) (p3 := 421) (p4 := 1) (gW_at (pos := 422) rfl rfl) (by decide +kernel)
set_option maxRecDepth 100000 in
theorem mk_X5_isName : MOk q_X5_isName := mokB_ok (p2 := 111) (p3 := 440) (p4 := 4) (gW_at (pos := 441) rfl rfl) (by decide +kernel)
set_option maxRecDepth 100000 in
theorem mk_X5_fails : MOk q_X5_fails := mokB_ok (p2 := 111) (p3 := 496) (p4 := 6) (gW_at (pos := 497) rfl rfl) (by decide +kernel)
set_option maxRecDepth 100000 in
theorem mk_X5_isWhole : MOk q_X5_isWhole := mokB_ok (p2 := 111) (p3 := 501) (p4 := 7) (gW_at (pos := 502) rfl rfl) (by decide +kernel)
set_option maxRecDepth 100000 in
theorem mk_X5_readsMachine : MOk q_X5_readsMachine := mokB_ok (p2 := 111) (p3 := 492) (p4 := 5) (gW_at (pos := 493) rfl rfl) (by decide +kernel)
set_option maxRecDepth 100000 in
theorem mk_X5_lineSort : MOk q_X5_lineSort := mokB_ok (p2 := 111) (p3 := 506) (p4 := 8) (gW_at (pos := 507) rfl rfl) (by decide +kernel)
set_option maxRecDepth 100000 in
theorem mk_X5_isFull : MOk q_X5_isFull := mokB_ok (p2 := 111) (p3 := 514) (p4 := 0) (gW_at (pos := 515) rfl rfl) (by decide +kernel)
set_option maxRecDepth 100000 in
theorem mk_X1_isBacked : MOk q_X1_isBacked := mokB_ok (p2 := 113) (p3 := 521) (p4 := 522) (gW_at (pos := 523) rfl rfl) (by decide +kernel)
set_option maxRecDepth 100000 in
theorem mk_X1_isTaken : MOk q_X1_isTaken := mokB_ok (p2 := 113) (p3 := 525) (p4 := 526) (gW_at (pos := 527) rfl rfl) (by decide +kernel)
set_option maxRecDepth 100000 in
theorem mk_X1_backWith : MOk q_X1_backWith := mokB_ok (p2 := 113) (p3 := 535) (p4 := 536) (gW_at (pos := 537) rfl rfl) (by decide +kernel)
set_option maxRecDepth 100000 in
theorem mk_X6_addHost : MOk q_X6_addHost := mokB_ok (p2 := 112) (p3 := 531) (p4 := 532) (gW_at (pos := 533) rfl rfl) (by decide +kernel)
set_option maxRecDepth 100000 in
theorem mk_X5_readsHost : MOk q_X5_readsHost := mokB_ok (p2 := 111) (p3 := 518) (p4 := 9) (gW_at (pos := 519) rfl rfl) (by decide +kernel)
set_option maxRecDepth 100000 in
theorem mk_X1_spot : MOk q_X1_spot := mokB_ok (p2 := 113) (p3 := 547) (p4 := 0) (gW_at (pos := 548) rfl rfl) (by decide +kernel)
set_option maxRecDepth 100000 in
theorem mk_X6_toldWord : MOk q_X6_toldWord := mokB_ok (p2 := 112) (p3 := 543) (p4 := 544) (gW_at (pos := 545) rfl rfl) (by decide +kernel)
set_option maxRecDepth 100000 in
theorem mk_X6_doubted : MOk q_X6_doubted := mokB_ok (p2 := 112) (p3 := 550) (p4 := 551) (gW_at (pos := 552) rfl rfl) (by decide +kernel)
set_option maxRecDepth 100000 in
theorem mk_X1_setWord : MOk q_X1_setWord := mokB_ok (p2 := 113) (p3 := 558) (p4 := 559) (gW_at (pos := 560) rfl rfl) (by decide +kernel)
set_option maxRecDepth 100000 in
theorem mk_X6_addWord : MOk q_X6_addWord := mokB_ok (p2 := 112) (p3 := 554) (p4 := 555) (gW_at (pos := 556) rfl rfl) (by decide +kernel)
set_option maxRecDepth 100000 in
theorem mk_X6_addDoubt : MOk q_X6_addDoubt := mokB_ok (p2 := 112) (p3 := 563) (p4 := 564) (gW_at (pos := 565) rfl rfl) (by decide +kernel)
set_option maxRecDepth 100000 in
theorem mk_X5_readsWord : MOk q_X5_readsWord := mokB_ok (p2 := 111) (p3 := 540) (p4 := 10) (gW_at (pos := 541) rfl rfl) (by decide +kernel)
set_option maxRecDepth 100000 in
theorem mk_X5_modeNamed : MOk q_X5_modeNamed := mokB_ok (p2 := 111) (p3 := 576) (p4 := 13) (gW_at (pos := 577) rfl rfl) (by decide +kernel)
set_option maxRecDepth 100000 in
theorem mk_X5_isWay : MOk q_X5_isWay := mokB_ok (p2 := 111) (p3 := 572) (p4 := 12) (gW_at (pos := 573) rfl rfl) (by decide +kernel)
set_option maxRecDepth 100000 in
theorem mk_X6_addStep : MOk q_X6_addStep := mokB_ok (p2 := 112) (p3 := 583) (p4 := 584) (gW_at (pos := 585) rfl rfl) (by decide +kernel)
set_option maxRecDepth 100000 in
theorem mk_X5_readsRun : MOk q_X5_readsRun := mokB_ok (p2 := 111) (p3 := 568) (p4 := 11) (gW_at (pos := 569) rfl rfl) (by decide +kernel)
set_option maxRecDepth 100000 in
theorem mk_X6_sighted : MOk q_X6_sighted := mokB_ok (p2 := 112) (p3 := 591) (p4 := 592) (gW_at (pos := 593) rfl rfl) (by decide +kernel)
set_option maxRecDepth 100000 in
theorem mk_X5_howNamed : MOk q_X5_howNamed := mokB_ok (p2 := 111) (p3 := 596) (p4 := 15) (gW_at (pos := 597) rfl rfl) (by decide +kernel)
set_option maxRecDepth 100000 in
theorem mk_X6_addSight : MOk q_X6_addSight := mokB_ok (p2 := 112) (p3 := 603) (p4 := 604) (gW_at (pos := 605) rfl rfl) (by decide +kernel)
set_option maxRecDepth 100000 in
theorem mk_X5_readsSaw : MOk q_X5_readsSaw := mokB_ok (p2 := 111) (p3 := 588) (p4 := 14) (gW_at (pos := 589) rfl rfl) (by decide +kernel)
set_option maxRecDepth 100000 in
theorem mk_X5_readsLine : MOk q_X5_readsLine := mokB_ok (p2 := 111) (p3 := 435) (p4 := 3) (gW_at (pos := 436) rfl rfl) (by decide +kernel)
set_option maxRecDepth 100000 in
theorem mk_X5_reads : MOk q_X5_reads := mokB_ok (p2 := 111) (p3 := 408) (p4 := 409) (gW_at (pos := 410) rfl rfl) (by decide +kernel)
set_option maxRecDepth 100000 in
theorem mk_X1_copyFrom : MOk q_X1_copyFrom := mokB_ok (p2 := 113) (p3 := 615) (p4 := 616) (gW_at (pos := 617) rfl rfl) (by decide +kernel)
set_option maxRecDepth 100000 in
theorem mk_X3_vacate : MOk q_X3_vacate := mokB_ok (p2 := 116) (p3 := 627) (p4 := 17) (gW_at (pos := 628) rfl rfl) (by decide +kernel)
set_option maxRecDepth 100000 in
theorem mk_X3_startWith : MOk q_X3_startWith := mokB_ok (p2 := 116) (p3 := 622) (p4 := 623) (gW_at (pos := 624) rfl rfl) (by decide +kernel)
set_option maxRecDepth 100000 in
theorem mk_X2_clearCounts : MOk q_X2_clearCounts := mokB_ok (p2 := 114) (p3 := 631) (p4 := 18) (gW_at (pos := 632) rfl rfl) (by decide +kernel)
set_option maxRecDepth 100000 in
theorem mk_X2_startAnew : MOk q_X2_startAnew := mokB_ok (p2 := 114) (p3 := 611) (p4 := 612) (gW_at (pos := 613) rfl rfl) (by decide +kernel)
set_option maxRecDepth 100000 in
theorem mk_X7_begin : MOk q_X7_begin := mokB_ok (p2 := 110) (p3 := 608) (p4 := 16) (gW_at (pos := 609) rfl rfl) (by decide +kernel)
set_option maxRecDepth 100000 in
theorem mk_X7_answer : MOk q_X7_answer := mokB_ok (p2 := 110) (p3 := 635) (p4 := 19) (gW_at (pos := 636) rfl rfl) (by decide +kernel)
set_option maxRecDepth 100000 in
theorem mk_X7_machine : MOk q_X7_machine := mokB_ok (p2 := 110) (p3 := 400) (p4 := 401) (gW_at (pos := 402) rfl rfl) (by decide +kernel)
set_option maxRecDepth 100000 in
theorem mk_X7_fault : MOk q_X7_fault := mokB_ok (p2 := 110) (p3 := 638) (p4 := 639) (gW_at (pos := 640) rfl rfl) (by decide +kernel)
set_option maxRecDepth 100000 in
theorem mk_X7_where : MOk q_X7_where := mokB_ok (p2 := 110) (p3 := 642) (p4 := 643) (gW_at (pos := 644) rfl rfl) (by decide +kernel)
set_option maxRecDepth 100000 in
theorem mk_X7_isFrame : MOk q_X7_isFrame := mokB_ok (p2 := 110) (p3 := 651) (p4 := 20) (gW_at (pos := 652) rfl rfl) (by decide +kernel)
set_option maxRecDepth 100000 in
theorem mk_X7_isPlace : MOk q_X7_isPlace := mokB_ok (p2 := 110) (p3 := 654) (p4 := 0) (gW_at (pos := 655) rfl rfl) (by decide +kernel)
set_option maxRecDepth 100000 in
theorem mk_X1_wordAt : MOk q_X1_wordAt := mokB_ok (p2 := 113) (p3 := 657) (p4 := 658) (gW_at (pos := 659) rfl rfl) (by decide +kernel)
set_option maxRecDepth 100000 in
theorem mk_X7_word : MOk q_X7_word := mokB_ok (p2 := 110) (p3 := 646) (p4 := 647) (gW_at (pos := 648) rfl rfl) (by decide +kernel)
set_option maxRecDepth 100000 in
theorem mk_X1_hostOf : MOk q_X1_hostOf := mokB_ok (p2 := 113) (p3 := 665) (p4 := 666) (gW_at (pos := 667) rfl rfl) (by decide +kernel)
set_option maxRecDepth 100000 in
theorem mk_X7_backing : MOk q_X7_backing := mokB_ok (p2 := 110) (p3 := 661) (p4 := 662) (gW_at (pos := 663) rfl rfl) (by decide +kernel)
set_option maxRecDepth 100000 in
theorem mk_X7_has : MOk q_X7_has := mokB_ok (p2 := 110) (p3 := 678) (p4 := 0) (gW_at (pos := 679) rfl rfl) (by decide +kernel)
set_option maxRecDepth 100000 in
theorem mk_X1_isWritable : MOk q_X1_isWritable := mokB_ok (p2 := 113) (p3 := 673) (p4 := 674) (gW_at (pos := 675) rfl rfl) (by decide +kernel)
set_option maxRecDepth 100000 in
theorem mk_X7_bit : MOk q_X7_bit := mokB_ok (p2 := 110) (p3 := 681) (p4 := 0) (gW_at (pos := 682) rfl rfl) (by decide +kernel)
set_option maxRecDepth 100000 in
theorem mk_X7_writes : MOk q_X7_writes := mokB_ok (p2 := 110) (p3 := 669) (p4 := 670) (gW_at (pos := 671) rfl rfl) (by decide +kernel)
set_option maxRecDepth 100000 in
theorem mk_X7_root : MOk q_X7_root := mokB_ok (p2 := 110) (p3 := 684) (p4 := 685) (gW_at (pos := 686) rfl rfl) (by decide +kernel)
set_option maxRecDepth 100000 in
theorem mk_X7_marks : MOk q_X7_marks := mokB_ok (p2 := 110) (p3 := 688) (p4 := 689) (gW_at (pos := 690) rfl rfl) (by decide +kernel)
set_option maxRecDepth 100000 in
theorem mk_X1_placesWith : MOk q_X1_placesWith := mokB_ok (p2 := 113) (p3 := 696) (p4 := 697) (gW_at (pos := 698) rfl rfl) (by decide +kernel)
set_option maxRecDepth 100000 in
theorem mk_X7_wordsWith : MOk q_X7_wordsWith := mokB_ok (p2 := 110) (p3 := 692) (p4 := 693) (gW_at (pos := 694) rfl rfl) (by decide +kernel)
set_option maxRecDepth 100000 in
theorem mk_X7_isPage : MOk q_X7_isPage := mokB_ok (p2 := 110) (p3 := 706) (p4 := 21) (gW_at (pos := 707) rfl rfl) (by decide +kernel)
set_option maxRecDepth 100000 in
theorem mk_X7_mode : MOk q_X7_mode := mokB_ok (p2 := 110) (p3 := 709) (p4 := 0) (gW_at (pos := 710) rfl rfl) (by decide +kernel)
set_option maxRecDepth 100000 in
theorem mk_X1_upperWord : MOk q_X1_upperWord := mokB_ok (p2 := 113) (p3 := 716) (p4 := 717) (gW_at (pos := 718) rfl rfl) (by decide +kernel)
set_option maxRecDepth 100000 in
theorem mk_X1_barOf : MOk q_X1_barOf := mokB_ok (p2 := 113) (p3 := 720) (p4 := 0) (gW_at (pos := 721) rfl rfl) (by decide +kernel)
set_option maxRecDepth 100000 in
theorem mk_X7_frameIn : MOk q_X7_frameIn := mokB_ok (p2 := 110) (p3 := 727) (p4 := 0) (gW_at (pos := 728) rfl rfl) (by decide +kernel)
set_option maxRecDepth 100000 in
theorem mk_X1_lastWord : MOk q_X1_lastWord := mokB_ok (p2 := 113) (p3 := 723) (p4 := 724) (gW_at (pos := 725) rfl rfl) (by decide +kernel)
set_option maxRecDepth 100000 in
theorem mk_X1_firstOfLarge : MOk q_X1_firstOfLarge := mokB_ok (p2 := 113) (p3 := 734) (p4 := 0) (gW_at (pos := 735) rfl rfl) (by decide +kernel)
set_option maxRecDepth 100000 in
theorem mk_X1_frameTold : MOk q_X1_frameTold := mokB_ok (p2 := 113) (p3 := 730) (p4 := 731) (gW_at (pos := 732) rfl rfl) (by decide +kernel)
set_option maxRecDepth 100000 in
theorem mk_X1_seek : MOk q_X1_seek := mokB_ok (p2 := 113) (p3 := 712) (p4 := 713) (gW_at (pos := 714) rfl rfl) (by decide +kernel)
set_option maxRecDepth 100000 in
theorem mk_X7_look : MOk q_X7_look := mokB_ok (p2 := 110) (p3 := 701) (p4 := 702) (gW_at (pos := 703) rfl rfl) (by decide +kernel)
set_option maxRecDepth 100000 in
theorem mk_X1_frameBehind : MOk q_X1_frameBehind := mokB_ok (p2 := 113) (p3 := 743) (p4 := 744) (gW_at (pos := 745) rfl rfl) (by decide +kernel)
set_option maxRecDepth 100000 in
theorem mk_X7_leads : MOk q_X7_leads := mokB_ok (p2 := 110) (p3 := 739) (p4 := 740) (gW_at (pos := 741) rfl rfl) (by decide +kernel)
set_option maxRecDepth 100000 in
theorem mk_X1_modesDone : MOk q_X1_modesDone := mokB_ok (p2 := 113) (p3 := 751) (p4 := 752) (gW_at (pos := 753) rfl rfl) (by decide +kernel)
set_option maxRecDepth 100000 in
theorem mk_X7_rights : MOk q_X7_rights := mokB_ok (p2 := 110) (p3 := 747) (p4 := 748) (gW_at (pos := 749) rfl rfl) (by decide +kernel)
set_option maxRecDepth 100000 in
theorem mk_X7_large : MOk q_X7_large := mokB_ok (p2 := 110) (p3 := 756) (p4 := 757) (gW_at (pos := 758) rfl rfl) (by decide +kernel)
set_option maxRecDepth 100000 in
theorem mk_X1_pagesTo : MOk q_X1_pagesTo := mokB_ok (p2 := 113) (p3 := 766) (p4 := 767) (gW_at (pos := 768) rfl rfl) (by decide +kernel)
set_option maxRecDepth 100000 in
theorem mk_X7_aliases : MOk q_X7_aliases := mokB_ok (p2 := 110) (p3 := 762) (p4 := 763) (gW_at (pos := 764) rfl rfl) (by decide +kernel)
set_option maxRecDepth 100000 in
theorem mk_X1_tableFrames : MOk q_X1_tableFrames := mokB_ok (p2 := 113) (p3 := 776) (p4 := 777) (gW_at (pos := 778) rfl rfl) (by decide +kernel)
set_option maxRecDepth 100000 in
theorem mk_X7_tables : MOk q_X7_tables := mokB_ok (p2 := 110) (p3 := 772) (p4 := 773) (gW_at (pos := 774) rfl rfl) (by decide +kernel)
set_option maxRecDepth 100000 in
theorem mk_X3_find : MOk q_X3_find := mokB_ok (p2 := 116) (p3 := 796) (p4 := 797) (gW_at (pos := 798) rfl rfl) (by decide +kernel)
set_option maxRecDepth 100000 in
theorem mk_X3_entryAt : MOk q_X3_entryAt := mokB_ok (p2 := 116) (p3 := 800) (p4 := 801) (gW_at (pos := 802) rfl rfl) (by decide +kernel)
set_option maxRecDepth 100000 in
theorem mk_X3_upperEntry : MOk q_X3_upperEntry := mokB_ok (p2 := 116) (p3 := 792) (p4 := 793) (gW_at (pos := 794) rfl rfl) (by decide +kernel)
set_option maxRecDepth 100000 in
theorem mk_X3_hitEntry : MOk q_X3_hitEntry := mokB_ok (p2 := 116) (p3 := 788) (p4 := 789) (gW_at (pos := 790) rfl rfl) (by decide +kernel)
set_option maxRecDepth 100000 in
theorem mk_X2_hostByHardware : MOk q_X2_hostByHardware := mokB_ok (p2 := 114) (p3 := 784) (p4 := 785) (gW_at (pos := 786) rfl rfl) (by decide +kernel)
set_option maxRecDepth 100000 in
theorem mk_X7_hits : MOk q_X7_hits := mokB_ok (p2 := 110) (p3 := 780) (p4 := 781) (gW_at (pos := 782) rfl rfl) (by decide +kernel)
set_option maxRecDepth 100000 in
theorem mk_X2_isStale : MOk q_X2_isStale := mokB_ok (p2 := 114) (p3 := 815) (p4 := 22) (gW_at (pos := 816) rfl rfl) (by decide +kernel)
set_option maxRecDepth 100000 in
theorem mk_X2_staleWays : MOk q_X2_staleWays := mokB_ok (p2 := 114) (p3 := 810) (p4 := 811) (gW_at (pos := 812) rfl rfl) (by decide +kernel)
set_option maxRecDepth 100000 in
theorem mk_X7_stale : MOk q_X7_stale := mokB_ok (p2 := 110) (p3 := 806) (p4 := 807) (gW_at (pos := 808) rfl rfl) (by decide +kernel)
set_option maxRecDepth 100000 in
theorem mk_X2_firstStalePage : MOk q_X2_firstStalePage := mokB_ok (p2 := 114) (p3 := 825) (p4 := 826) (gW_at (pos := 827) rfl rfl) (by decide +kernel)
set_option maxRecDepth 100000 in
theorem mk_X7_staleAt : MOk q_X7_staleAt := mokB_ok (p2 := 110) (p3 := 821) (p4 := 822) (gW_at (pos := 823) rfl rfl) (by decide +kernel)
set_option maxRecDepth 100000 in
theorem mk_X2_missingWays : MOk q_X2_missingWays := mokB_ok (p2 := 114) (p3 := 833) (p4 := 834) (gW_at (pos := 835) rfl rfl) (by decide +kernel)
set_option maxRecDepth 100000 in
theorem mk_X7_missing : MOk q_X7_missing := mokB_ok (p2 := 110) (p3 := 829) (p4 := 830) (gW_at (pos := 831) rfl rfl) (by decide +kernel)
set_option maxRecDepth 100000 in
theorem mk_X7_isTable : MOk q_X7_isTable := mokB_ok (p2 := 110) (p3 := 842) (p4 := 23) (gW_at (pos := 843) rfl rfl) (by decide +kernel)
set_option maxRecDepth 100000 in
theorem mk_X3_kindOf : MOk q_X3_kindOf := mokB_ok (p2 := 116) (p3 := 849) (p4 := 850) (gW_at (pos := 851) rfl rfl) (by decide +kernel)
set_option maxRecDepth 100000 in
theorem mk_X3_ownerOf : MOk q_X3_ownerOf := mokB_ok (p2 := 116) (p3 := 853) (p4 := 854) (gW_at (pos := 855) rfl rfl) (by decide +kernel)
set_option maxRecDepth 100000 in
theorem mk_X3_isAstray : MOk q_X3_isAstray := mokB_ok (p2 := 116) (p3 := 857) (p4 := 858) (gW_at (pos := 859) rfl rfl) (by decide +kernel)
set_option maxRecDepth 100000 in
theorem mk_X3_entriesThere : MOk q_X3_entriesThere := mokB_ok (p2 := 116) (p3 := 863) (p4 := 24) (gW_at (pos := 864) rfl rfl) (by decide +kernel)
set_option maxRecDepth 100000 in
theorem mk_X3_madeAhead : MOk q_X3_madeAhead := mokB_ok (p2 := 116) (p3 := 867) (p4 := 25) (gW_at (pos := 868) rfl rfl) (by decide +kernel)
set_option maxRecDepth 100000 in
theorem mk_X3_isRootEntry : MOk q_X3_isRootEntry := mokB_ok (p2 := 116) (p3 := 875) (p4 := 27) (gW_at (pos := 876) rfl rfl) (by decide +kernel)
set_option maxRecDepth 100000 in
theorem mk_X3_toldByRoots : MOk q_X3_toldByRoots := mokB_ok (p2 := 116) (p3 := 871) (p4 := 26) (gW_at (pos := 872) rfl rfl) (by decide +kernel)
set_option maxRecDepth 100000 in
theorem mk_X3_property : MOk q_X3_property := mokB_ok (p2 := 116) (p3 := 845) (p4 := 846) (gW_at (pos := 847) rfl rfl) (by decide +kernel)
set_option maxRecDepth 100000 in
theorem mk_X7_shadow : MOk q_X7_shadow := mokB_ok (p2 := 110) (p3 := 837) (p4 := 838) (gW_at (pos := 839) rfl rfl) (by decide +kernel)
set_option maxRecDepth 100000 in
theorem mk_X7_entry : MOk q_X7_entry := mokB_ok (p2 := 110) (p3 := 878) (p4 := 879) (gW_at (pos := 880) rfl rfl) (by decide +kernel)
set_option maxRecDepth 100000 in
theorem mk_X3_isMap : MOk q_X3_isMap := mokB_ok (p2 := 116) (p3 := 892) (p4 := 28) (gW_at (pos := 893) rfl rfl) (by decide +kernel)
set_option maxRecDepth 100000 in
theorem mk_X3_countMaps : MOk q_X3_countMaps := mokB_ok (p2 := 116) (p3 := 887) (p4 := 888) (gW_at (pos := 889) rfl rfl) (by decide +kernel)
set_option maxRecDepth 100000 in
theorem mk_X7_maps : MOk q_X7_maps := mokB_ok (p2 := 110) (p3 := 883) (p4 := 884) (gW_at (pos := 885) rfl rfl) (by decide +kernel)
set_option maxRecDepth 100000 in
theorem mk_X7_writers : MOk q_X7_writers := mokB_ok (p2 := 110) (p3 := 895) (p4 := 896) (gW_at (pos := 897) rfl rfl) (by decide +kernel)
set_option maxRecDepth 100000 in
theorem mk_X3_watches : MOk q_X3_watches := mokB_ok (p2 := 116) (p3 := 903) (p4 := 904) (gW_at (pos := 905) rfl rfl) (by decide +kernel)
set_option maxRecDepth 100000 in
theorem mk_X7_watched : MOk q_X7_watched := mokB_ok (p2 := 110) (p3 := 899) (p4 := 900) (gW_at (pos := 901) rfl rfl) (by decide +kernel)
set_option maxRecDepth 100000 in
theorem mk_X7_outOfStep : MOk q_X7_outOfStep := mokB_ok (p2 := 110) (p3 := 907) (p4 := 908) (gW_at (pos := 909) rfl rfl) (by decide +kernel)
set_option maxRecDepth 100000 in
theorem mk_X3_freeAt : MOk q_X3_freeAt := mokB_ok (p2 := 116) (p3 := 915) (p4 := 916) (gW_at (pos := 917) rfl rfl) (by decide +kernel)
set_option maxRecDepth 100000 in
theorem mk_X3_oldestBeside : MOk q_X3_oldestBeside := mokB_ok (p2 := 116) (p3 := 919) (p4 := 920) (gW_at (pos := 921) rfl rfl) (by decide +kernel)
set_option maxRecDepth 100000 in
theorem mk_X7_dropsNext : MOk q_X7_dropsNext := mokB_ok (p2 := 110) (p3 := 911) (p4 := 912) (gW_at (pos := 913) rfl rfl) (by decide +kernel)
set_option maxRecDepth 100000 in
theorem mk_X7_declines : MOk q_X7_declines := mokB_ok (p2 := 110) (p3 := 932) (p4 := 30) (gW_at (pos := 933) rfl rfl) (by decide +kernel)
set_option maxRecDepth 100000 in
theorem mk_X7_agrees : MOk q_X7_agrees := mokB_ok (p2 := 110) (p3 := 936) (p4 := 31) (gW_at (pos := 937) rfl rfl) (by decide +kernel)
set_option maxRecDepth 100000 in
theorem mk_X7_mayRun : MOk q_X7_mayRun := mokB_ok (p2 := 110) (p3 := 928) (p4 := 29) (gW_at (pos := 929) rfl rfl) (by decide +kernel)
set_option maxRecDepth 100000 in
theorem mk_X1_setMark : MOk q_X1_setMark := mokB_ok (p2 := 113) (p3 := 956) (p4 := 957) (gW_at (pos := 958) rfl rfl) (by decide +kernel)
set_option maxRecDepth 100000 in
theorem mk_X1_noteUse : MOk q_X1_noteUse := mokB_ok (p2 := 113) (p3 := 951) (p4 := 952) (gW_at (pos := 953) rfl rfl) (by decide +kernel)
set_option maxRecDepth 100000 in
theorem mk_X3_drop : MOk q_X3_drop := mokB_ok (p2 := 116) (p3 := 969) (p4 := 970) (gW_at (pos := 971) rfl rfl) (by decide +kernel)
set_option maxRecDepth 100000 in
theorem mk_X3_make : MOk q_X3_make := mokB_ok (p2 := 116) (p3 := 973) (p4 := 974) (gW_at (pos := 975) rfl rfl) (by decide +kernel)
set_option maxRecDepth 100000 in
theorem mk_X3_takeWrite : MOk q_X3_takeWrite := mokB_ok (p2 := 116) (p3 := 977) (p4 := 978) (gW_at (pos := 979) rfl rfl) (by decide +kernel)
set_option maxRecDepth 100000 in
theorem mk_X2_tableOf : MOk q_X2_tableOf := mokB_ok (p2 := 114) (p3 := 963) (p4 := 34) (gW_at (pos := 964) rfl rfl) (by decide +kernel)
set_option maxRecDepth 100000 in
theorem mk_X3_spot : MOk q_X3_spot := mokB_ok (p2 := 116) (p3 := 987) (p4 := 0) (gW_at (pos := 988) rfl rfl) (by decide +kernel)
set_option maxRecDepth 100000 in
theorem mk_X3_tell : MOk q_X3_tell := mokB_ok (p2 := 116) (p3 := 983) (p4 := 984) (gW_at (pos := 985) rfl rfl) (by decide +kernel)
set_option maxRecDepth 100000 in
theorem mk_X1_isMarked : MOk q_X1_isMarked := mokB_ok (p2 := 113) (p3 := 993) (p4 := 994) (gW_at (pos := 995) rfl rfl) (by decide +kernel)
set_option maxRecDepth 100000 in
theorem mk_X2_fill : MOk q_X2_fill := mokB_ok (p2 := 114) (p3 := 948) (p4 := 33) (gW_at (pos := 949) rfl rfl) (by decide +kernel)
set_option maxRecDepth 100000 in
theorem mk_X2_reach : MOk q_X2_reach := mokB_ok (p2 := 114) (p3 := 943) (p4 := 944) (gW_at (pos := 945) rfl rfl) (by decide +kernel)
set_option maxRecDepth 100000 in
theorem mk_X7_runTold : MOk q_X7_runTold := mokB_ok (p2 := 110) (p3 := 940) (p4 := 32) (gW_at (pos := 941) rfl rfl) (by decide +kernel)
set_option maxRecDepth 100000 in
theorem mk_X7_runFaults : MOk q_X7_runFaults := mokB_ok (p2 := 110) (p3 := 923) (p4 := 924) (gW_at (pos := 925) rfl rfl) (by decide +kernel)
set_option maxRecDepth 100000 in
theorem mk_X7_runRefused : MOk q_X7_runRefused := mokB_ok (p2 := 110) (p3 := 998) (p4 := 999) (gW_at (pos := 1000) rfl rfl) (by decide +kernel)
set_option maxRecDepth 100000 in
theorem mk_X7_runDrops : MOk q_X7_runDrops := mokB_ok (p2 := 110) (p3 := 1002) (p4 := 1003) (gW_at (pos := 1004) rfl rfl) (by decide +kernel)
set_option maxRecDepth 100000 in
theorem mk_X7_poolFor : MOk q_X7_poolFor := mokB_ok (p2 := 110) (p3 := 1006) (p4 := 1007) (gW_at (pos := 1008) rfl rfl) (by decide +kernel)
set_option maxRecDepth 100000 in
theorem mk_X3_copyFrom : MOk q_X3_copyFrom := mokB_ok (p2 := 116) (p3 := 1023) (p4 := 1024) (gW_at (pos := 1025) rfl rfl) (by decide +kernel)
set_option maxRecDepth 100000 in
theorem mk_X4_copyFrom : MOk q_X4_copyFrom := mokB_ok (p2 := 115) (p3 := 1018) (p4 := 1019) (gW_at (pos := 1020) rfl rfl) (by decide +kernel)
set_option maxRecDepth 100000 in
theorem mk_X2_startFrom : MOk q_X2_startFrom := mokB_ok (p2 := 114) (p3 := 1014) (p4 := 1015) (gW_at (pos := 1016) rfl rfl) (by decide +kernel)
set_option maxRecDepth 100000 in
theorem mk_X7_sweep : MOk q_X7_sweep := mokB_ok (p2 := 110) (p3 := 1010) (p4 := 1011) (gW_at (pos := 1012) rfl rfl) (by decide +kernel)
set_option maxRecDepth 100000 in
theorem mk_X7_mayDraw : MOk q_X7_mayDraw := mokB_ok (p2 := 110) (p3 := 1033) (p4 := 35) (gW_at (pos := 1034) rfl rfl) (by decide +kernel)
set_option maxRecDepth 100000 in
theorem mk_X7_nextSeed : MOk q_X7_nextSeed := mokB_ok (p2 := 110) (p3 := 1041) (p4 := 0) (gW_at (pos := 1042) rfl rfl) (by decide +kernel)
set_option maxRecDepth 100000 in
theorem mk_X7_runDrawn : MOk q_X7_runDrawn := mokB_ok (p2 := 110) (p3 := 1038) (p4 := 36) (gW_at (pos := 1039) rfl rfl) (by decide +kernel)
set_option maxRecDepth 100000 in
theorem mk_X7_drawnFaults : MOk q_X7_drawnFaults := mokB_ok (p2 := 110) (p3 := 1028) (p4 := 1029) (gW_at (pos := 1030) rfl rfl) (by decide +kernel)
set_option maxRecDepth 100000 in
theorem mk_X7_drawnMarks : MOk q_X7_drawnMarks := mokB_ok (p2 := 110) (p3 := 1045) (p4 := 1046) (gW_at (pos := 1047) rfl rfl) (by decide +kernel)
set_option maxRecDepth 100000 in
theorem mk_X7_divisor : MOk q_X7_divisor := mokB_ok (p2 := 110) (p3 := 1053) (p4 := 0) (gW_at (pos := 1054) rfl rfl) (by decide +kernel)
set_option maxRecDepth 100000 in
theorem mk_X7_rate : MOk q_X7_rate := mokB_ok (p2 := 110) (p3 := 1049) (p4 := 1050) (gW_at (pos := 1051) rfl rfl) (by decide +kernel)
set_option maxRecDepth 100000 in
theorem mk_X6_firstUntrue : MOk q_X6_firstUntrue := mokB_ok (p2 := 112) (p3 := 1070) (p4 := 1071) (gW_at (pos := 1072) rfl rfl) (by decide +kernel)
set_option maxRecDepth 100000 in
theorem mk_X6_fittingSets : MOk q_X6_fittingSets := mokB_ok (p2 := 112) (p3 := 1064) (p4 := 1065) (gW_at (pos := 1066) rfl rfl) (by decide +kernel)
set_option maxRecDepth 100000 in
theorem mk_X7_fitting : MOk q_X7_fitting := mokB_ok (p2 := 110) (p3 := 1061) (p4 := 37) (gW_at (pos := 1062) rfl rfl) (by decide +kernel)
set_option maxRecDepth 100000 in
theorem mk_J6_bitCount_0f7a4 : MOk q_J6_bitCount_0f7a4 := mokB_ok (p2 := 124) (p3 := 1075) (p4 := 0) (gW_at (pos := 1076) rfl rfl) (by decide +kernel)
set_option maxRecDepth 100000 in
theorem mk_X7_fits : MOk q_X7_fits := mokB_ok (p2 := 110) (p3 := 1056) (p4 := 1057) (gW_at (pos := 1058) rfl rfl) (by decide +kernel)
set_option maxRecDepth 100000 in
theorem mk_X0_setAt : MOk q_X0_setAt := mokB_ok (p2 := 125) (p3 := 1085) (p4 := 0) (gW_at (pos := 1086) rfl rfl) (by decide +kernel)
set_option maxRecDepth 100000 in
theorem mk_X7_fitAt : MOk q_X7_fitAt := mokB_ok (p2 := 110) (p3 := 1081) (p4 := 1082) (gW_at (pos := 1083) rfl rfl) (by decide +kernel)
set_option maxRecDepth 100000 in
theorem mk_X0_inSome : MOk q_X0_inSome := mokB_ok (p2 := 125) (p3 := 1093) (p4 := 0) (gW_at (pos := 1094) rfl rfl) (by decide +kernel)
set_option maxRecDepth 100000 in
theorem mk_X7_could : MOk q_X7_could := mokB_ok (p2 := 110) (p3 := 1089) (p4 := 1090) (gW_at (pos := 1091) rfl rfl) (by decide +kernel)
set_option maxRecDepth 100000 in
theorem mk_X0_inAll : MOk q_X0_inAll := mokB_ok (p2 := 125) (p3 := 1100) (p4 := 0) (gW_at (pos := 1101) rfl rfl) (by decide +kernel)
set_option maxRecDepth 100000 in
theorem mk_X7_surely : MOk q_X7_surely := mokB_ok (p2 := 110) (p3 := 1096) (p4 := 1097) (gW_at (pos := 1098) rfl rfl) (by decide +kernel)
set_option maxRecDepth 100000 in
theorem mk_X0_leftAtMost : MOk q_X0_leftAtMost := mokB_ok (p2 := 125) (p3 := 1110) (p4 := 0) (gW_at (pos := 1111) rfl rfl) (by decide +kernel)
set_option maxRecDepth 100000 in
theorem mk_X0_bestToAsk : MOk q_X0_bestToAsk := mokB_ok (p2 := 125) (p3 := 1107) (p4 := 0) (gW_at (pos := 1108) rfl rfl) (by decide +kernel)
set_option maxRecDepth 100000 in
theorem mk_X7_ask : MOk q_X7_ask := mokB_ok (p2 := 110) (p3 := 1103) (p4 := 1104) (gW_at (pos := 1105) rfl rfl) (by decide +kernel)
set_option maxRecDepth 100000 in
theorem mk_X7_askLeaves : MOk q_X7_askLeaves := mokB_ok (p2 := 110) (p3 := 1118) (p4 := 1119) (gW_at (pos := 1120) rfl rfl) (by decide +kernel)
set_option maxRecDepth 100000 in
theorem mk_X7_judge : MOk q_X7_judge := mokB_ok (p2 := 110) (p3 := 1123) (p4 := 1124) (gW_at (pos := 1125) rfl rfl) (by decide +kernel)
set_option maxRecDepth 100000 in
theorem mk_X7_keep : MOk q_X7_keep := mokB_ok (p2 := 110) (p3 := 1133) (p4 := 38) (gW_at (pos := 1134) rfl rfl) (by decide +kernel)
set_option maxRecDepth 100000 in
theorem mk_X7_access : MOk q_X7_access := mokB_ok (p2 := 110) (p3 := 1128) (p4 := 1129) (gW_at (pos := 1130) rfl rfl) (by decide +kernel)
set_option maxRecDepth 100000 in
theorem mk_X7_isWord : MOk q_X7_isWord := mokB_ok (p2 := 110) (p3 := 1141) (p4 := 0) (gW_at (pos := 1142) rfl rfl) (by decide +kernel)
set_option maxRecDepth 100000 in
theorem mk_X3_remove : MOk q_X3_remove := mokB_ok (p2 := 116) (p3 := 1159) (p4 := 1160) (gW_at (pos := 1161) rfl rfl) (by decide +kernel)
set_option maxRecDepth 100000 in
theorem mk_X3_loosen : MOk q_X3_loosen := mokB_ok (p2 := 116) (p3 := 1155) (p4 := 1156) (gW_at (pos := 1157) rfl rfl) (by decide +kernel)
set_option maxRecDepth 100000 in
theorem mk_X3_allowWrite : MOk q_X3_allowWrite := mokB_ok (p2 := 116) (p3 := 1163) (p4 := 1164) (gW_at (pos := 1165) rfl rfl) (by decide +kernel)
set_option maxRecDepth 100000 in
theorem mk_X2_putBehindFault : MOk q_X2_putBehindFault := mokB_ok (p2 := 114) (p3 := 1151) (p4 := 39) (gW_at (pos := 1152) rfl rfl) (by decide +kernel)
set_option maxRecDepth 100000 in
theorem mk_X2_put : MOk q_X2_put := mokB_ok (p2 := 114) (p3 := 1144) (p4 := 1145) (gW_at (pos := 1146) rfl rfl) (by decide +kernel)
set_option maxRecDepth 100000 in
theorem mk_X7_store : MOk q_X7_store := mokB_ok (p2 := 110) (p3 := 1137) (p4 := 1138) (gW_at (pos := 1139) rfl rfl) (by decide +kernel)
set_option maxRecDepth 100000 in
theorem mk_X2_bringBack : MOk q_X2_bringBack := mokB_ok (p2 := 114) (p3 := 1178) (p4 := 40) (gW_at (pos := 1179) rfl rfl) (by decide +kernel)
set_option maxRecDepth 100000 in
theorem mk_X2_takeRoot : MOk q_X2_takeRoot := mokB_ok (p2 := 114) (p3 := 1171) (p4 := 1172) (gW_at (pos := 1173) rfl rfl) (by decide +kernel)
set_option maxRecDepth 100000 in
theorem mk_X7_load : MOk q_X7_load := mokB_ok (p2 := 110) (p3 := 1167) (p4 := 1168) (gW_at (pos := 1169) rfl rfl) (by decide +kernel)
set_option maxRecDepth 100000 in
theorem mk_X2_forget : MOk q_X2_forget := mokB_ok (p2 := 114) (p3 := 1189) (p4 := 1190) (gW_at (pos := 1191) rfl rfl) (by decide +kernel)
set_option maxRecDepth 100000 in
theorem mk_X7_flush : MOk q_X7_flush := mokB_ok (p2 := 110) (p3 := 1185) (p4 := 1186) (gW_at (pos := 1187) rfl rfl) (by decide +kernel)
set_option maxRecDepth 100000 in
theorem mk_X3_forgetPlace : MOk q_X3_forgetPlace := mokB_ok (p2 := 116) (p3 := 1203) (p4 := 1204) (gW_at (pos := 1205) rfl rfl) (by decide +kernel)
set_option maxRecDepth 100000 in
theorem mk_X2_putPastWatching : MOk q_X2_putPastWatching := mokB_ok (p2 := 114) (p3 := 1198) (p4 := 1199) (gW_at (pos := 1200) rfl rfl) (by decide +kernel)
set_option maxRecDepth 100000 in
theorem mk_X7_device : MOk q_X7_device := mokB_ok (p2 := 110) (p3 := 1193) (p4 := 1194) (gW_at (pos := 1195) rfl rfl) (by decide +kernel)
set_option maxRecDepth 100000 in
theorem mk_X1_takeAway : MOk q_X1_takeAway := mokB_ok (p2 := 113) (p3 := 1211) (p4 := 1212) (gW_at (pos := 1213) rfl rfl) (by decide +kernel)
set_option maxRecDepth 100000 in
theorem mk_X3_removeMaps : MOk q_X3_removeMaps := mokB_ok (p2 := 116) (p3 := 1215) (p4 := 1216) (gW_at (pos := 1217) rfl rfl) (by decide +kernel)
set_option maxRecDepth 100000 in
theorem mk_X7_unmap : MOk q_X7_unmap := mokB_ok (p2 := 110) (p3 := 1207) (p4 := 1208) (gW_at (pos := 1209) rfl rfl) (by decide +kernel)
set_option maxRecDepth 100000 in
theorem mk_X1_unmark : MOk q_X1_unmark := mokB_ok (p2 := 113) (p3 := 1225) (p4 := 1226) (gW_at (pos := 1227) rfl rfl) (by decide +kernel)
set_option maxRecDepth 100000 in
theorem mk_X7_give : MOk q_X7_give := mokB_ok (p2 := 110) (p3 := 1219) (p4 := 1220) (gW_at (pos := 1221) rfl rfl) (by decide +kernel)
set_option maxRecDepth 100000 in
theorem mk_X1_makeReadOnly : MOk q_X1_makeReadOnly := mokB_ok (p2 := 113) (p3 := 1233) (p4 := 1234) (gW_at (pos := 1235) rfl rfl) (by decide +kernel)
set_option maxRecDepth 100000 in
theorem mk_X7_protect : MOk q_X7_protect := mokB_ok (p2 := 110) (p3 := 1229) (p4 := 1230) (gW_at (pos := 1231) rfl rfl) (by decide +kernel)
set_option maxRecDepth 100000 in
theorem mk_X7_clean : MOk q_X7_clean := mokB_ok (p2 := 110) (p3 := 1238) (p4 := 1239) (gW_at (pos := 1240) rfl rfl) (by decide +kernel)
set_option maxRecDepth 100000 in
theorem mk_X7_undo : MOk q_X7_undo := mokB_ok (p2 := 110) (p3 := 1243) (p4 := 1244) (gW_at (pos := 1245) rfl rfl) (by decide +kernel)
set_option maxRecDepth 100000 in
theorem mk_X7_image : MOk q_X7_image := mokB_ok (p2 := 110) (p3 := 1247) (p4 := 1248) (gW_at (pos := 1249) rfl rfl) (by decide +kernel)
set_option maxRecDepth 100000 in
theorem mk_X7_back : MOk q_X7_back := mokB_ok (p2 := 110) (p3 := 1251) (p4 := 1252) (gW_at (pos := 1253) rfl rfl) (by decide +kernel)
set_option maxRecDepth 100000 in
theorem mk_X1_countBacked : MOk q_X1_countBacked := mokB_ok (p2 := 113) (p3 := 1259) (p4 := 1260) (gW_at (pos := 1261) rfl rfl) (by decide +kernel)
set_option maxRecDepth 100000 in
theorem mk_X7_size : MOk q_X7_size := mokB_ok (p2 := 110) (p3 := 1255) (p4 := 1256) (gW_at (pos := 1257) rfl rfl) (by decide +kernel)
set_option maxRecDepth 100000 in
theorem mk_X7_trouble : MOk q_X7_trouble := mokB_ok (p2 := 110) (p3 := 1263) (p4 := 1264) (gW_at (pos := 1265) rfl rfl) (by decide +kernel)
set_option maxRecDepth 100000 in
theorem mk_X9_init : MOk q_X9_init := mokB_ok (p2 := 117) (p3 := 1342) (p4 := 0) (gW_at (pos := 1343) rfl rfl) (by decide +kernel)
set_option maxRecDepth 100000 in
theorem mk_X9_thrown : MOk q_X9_thrown := mokB_ok (p2 := 117) (p3 := 1470) (p4 := 1471) (gW_at (pos := 1472) rfl rfl) (by decide +kernel)
set_option maxRecDepth 100000 in
theorem mk_X9_feed : MOk q_X9_feed := mokB_ok (p2 := 117) (p3 := 1474) (p4 := 1475) (gW_at (pos := 1476) rfl rfl) (by decide +kernel)
set_option maxRecDepth 100000 in
theorem mk_X9_refused : MOk q_X9_refused := mokB_ok (p2 := 117) (p3 := 1483) (p4 := 42) (gW_at (pos := 1484) rfl rfl) (by decide +kernel)
set_option maxRecDepth 100000 in
theorem mk_X8_init : MOk q_X8_init := mokB_ok (p2 := 123) (p3 := 1488) (p4 := 0) (gW_at (pos := 1489) rfl rfl) (by decide +kernel)
set_option maxRecDepth 100000 in
theorem mk_X9_byteAt : MOk q_X9_byteAt := mokB_ok (p2 := 117) (p3 := 1564) (p4 := 44) (gW_at (pos := 1565) rfl rfl) (by decide +kernel)
set_option maxRecDepth 100000 in
theorem mk_X9_isLetter : MOk q_X9_isLetter := mokB_ok (p2 := 117) (p3 := 1567) (p4 := 0) (gW_at (pos := 1568) rfl rfl) (by decide +kernel)
set_option maxRecDepth 100000 in
theorem mk_X9_isDigit : MOk q_X9_isDigit := mokB_ok (p2 := 117) (p3 := 1571) (p4 := 0) (gW_at (pos := 1572) rfl rfl) (by decide +kernel)
set_option maxRecDepth 100000 in
theorem mk_X9_goesOn : MOk q_X9_goesOn := mokB_ok (p2 := 117) (p3 := 1560) (p4 := 43) (gW_at (pos := 1561) rfl rfl) (by decide +kernel)
set_option maxRecDepth 100000 in
theorem mk_X9_packed : MOk q_X9_packed := mokB_ok (p2 := 117) (p3 := 1587) (p4 := 0) (gW_at (pos := 1588) rfl rfl) (by decide +kernel)
set_option maxRecDepth 100000 in
theorem mk_X9_isWord : MOk q_X9_isWord := mokB_ok (p2 := 117) (p3 := 1584) (p4 := 47) (gW_at (pos := 1585) rfl rfl) (by decide +kernel)
set_option maxRecDepth 100000 in
theorem mk_X9_flaw : MOk q_X9_flaw := mokB_ok (p2 := 117) (p3 := 1597) (p4 := 49) (gW_at (pos := 1598) rfl rfl) (by decide +kernel)
set_option maxRecDepth 100000 in
theorem mk_X9_needs : MOk q_X9_needs := mokB_ok (p2 := 117) (p3 := 1602) (p4 := 50) (gW_at (pos := 1603) rfl rfl) (by decide +kernel)
set_option maxRecDepth 100000 in
theorem mk_X9_in : MOk q_X9_in := mokB_ok (p2 := 117) (p3 := 1613) (p4 := 0) (gW_at (pos := 1614) rfl rfl) (by decide +kernel)
set_option maxRecDepth 100000 in
theorem mk_X9_wholeAt : MOk q_X9_wholeAt := mokB_ok (p2 := 117) (p3 := 1610) (p4 := 52) (gW_at (pos := 1611) rfl rfl) (by decide +kernel)
set_option maxRecDepth 100000 in
theorem mk_X9_readWhole : MOk q_X9_readWhole := mokB_ok (p2 := 117) (p3 := 1606) (p4 := 51) (gW_at (pos := 1607) rfl rfl) (by decide +kernel)
set_option maxRecDepth 100000 in
theorem mk_X9_readMachine : MOk q_X9_readMachine := mokB_ok (p2 := 117) (p3 := 1593) (p4 := 48) (gW_at (pos := 1594) rfl rfl) (by decide +kernel)
set_option maxRecDepth 100000 in
theorem mk_X9_lineBegins : MOk q_X9_lineBegins := mokB_ok (p2 := 117) (p3 := 1623) (p4 := 54) (gW_at (pos := 1624) rfl rfl) (by decide +kernel)
set_option maxRecDepth 100000 in
theorem mk_X8_isGiven : MOk q_X8_isGiven := mokB_ok (p2 := 123) (p3 := 1626) (p4 := 1627) (gW_at (pos := 1628) rfl rfl) (by decide +kernel)
set_option maxRecDepth 100000 in
theorem mk_X9_readHost : MOk q_X9_readHost := mokB_ok (p2 := 117) (p3 := 1619) (p4 := 53) (gW_at (pos := 1620) rfl rfl) (by decide +kernel)
set_option maxRecDepth 100000 in
theorem mk_X9_readWord : MOk q_X9_readWord := mokB_ok (p2 := 117) (p3 := 1634) (p4 := 55) (gW_at (pos := 1635) rfl rfl) (by decide +kernel)
set_option maxRecDepth 100000 in
theorem mk_X9_modeAt : MOk q_X9_modeAt := mokB_ok (p2 := 117) (p3 := 1643) (p4 := 57) (gW_at (pos := 1644) rfl rfl) (by decide +kernel)
set_option maxRecDepth 100000 in
theorem mk_X9_readRun : MOk q_X9_readRun := mokB_ok (p2 := 117) (p3 := 1639) (p4 := 56) (gW_at (pos := 1640) rfl rfl) (by decide +kernel)
set_option maxRecDepth 100000 in
theorem mk_X8_isUnsure : MOk q_X8_isUnsure := mokB_ok (p2 := 123) (p3 := 1655) (p4 := 1656) (gW_at (pos := 1657) rfl rfl) (by decide +kernel)
set_option maxRecDepth 100000 in
theorem mk_X9_readUnsure : MOk q_X9_readUnsure := mokB_ok (p2 := 117) (p3 := 1652) (p4 := 58) (gW_at (pos := 1653) rfl rfl) (by decide +kernel)
set_option maxRecDepth 100000 in
theorem mk_X8_isSaw : MOk q_X8_isSaw := mokB_ok (p2 := 123) (p3 := 1664) (p4 := 1665) (gW_at (pos := 1666) rfl rfl) (by decide +kernel)
set_option maxRecDepth 100000 in
theorem mk_X9_readSaw : MOk q_X9_readSaw := mokB_ok (p2 := 117) (p3 := 1661) (p4 := 59) (gW_at (pos := 1662) rfl rfl) (by decide +kernel)
set_option maxRecDepth 100000 in
theorem mk_X9_readLine : MOk q_X9_readLine := mokB_ok (p2 := 117) (p3 := 1579) (p4 := 46) (gW_at (pos := 1580) rfl rfl) (by decide +kernel)
set_option maxRecDepth 100000 in
theorem mk_X9_eatsSemicolon : MOk q_X9_eatsSemicolon := mokB_ok (p2 := 117) (p3 := 1673) (p4 := 60) (gW_at (pos := 1674) rfl rfl) (by decide +kernel)
set_option maxRecDepth 100000 in
theorem mk_X9_readAll : MOk q_X9_readAll := mokB_ok (p2 := 117) (p3 := 1575) (p4 := 45) (gW_at (pos := 1576) rfl rfl) (by decide +kernel)
set_option maxRecDepth 100000 in
theorem mk_X9_bit : MOk q_X9_bit := mokB_ok (p2 := 117) (p3 := 1680) (p4 := 0) (gW_at (pos := 1681) rfl rfl) (by decide +kernel)
set_option maxRecDepth 100000 in
theorem mk_X9_frees : MOk q_X9_frees := mokB_ok (p2 := 117) (p3 := 1684) (p4 := 62) (gW_at (pos := 1685) rfl rfl) (by decide +kernel)
set_option maxRecDepth 100000 in
theorem mk_X9_begins : MOk q_X9_begins := mokB_ok (p2 := 117) (p3 := 1688) (p4 := 63) (gW_at (pos := 1689) rfl rfl) (by decide +kernel)
set_option maxRecDepth 100000 in
theorem mk_X9_asTold : MOk q_X9_asTold := mokB_ok (p2 := 117) (p3 := 1677) (p4 := 61) (gW_at (pos := 1678) rfl rfl) (by decide +kernel)
set_option maxRecDepth 100000 in
theorem mk_X9_remains : MOk q_X9_remains := mokB_ok (p2 := 117) (p3 := 1692) (p4 := 64) (gW_at (pos := 1693) rfl rfl) (by decide +kernel)
set_option maxRecDepth 100000 in
theorem mk_X9_good : MOk q_X9_good := mokB_ok (p2 := 117) (p3 := 1696) (p4 := 65) (gW_at (pos := 1697) rfl rfl) (by decide +kernel)
set_option maxRecDepth 100000 in
theorem mk_X9_machine : MOk q_X9_machine := mokB_ok (p2 := 117) (p3 := 1478) (p4 := 1479) (gW_at (pos := 1480) rfl rfl) (by decide +kernel)
set_option maxRecDepth 100000 in
theorem mk_X9_fault : MOk q_X9_fault := mokB_ok (p2 := 117) (p3 := 1699) (p4 := 1700) (gW_at (pos := 1701) rfl rfl) (by decide +kernel)
set_option maxRecDepth 100000 in
theorem mk_X9_where : MOk q_X9_where := mokB_ok (p2 := 117) (p3 := 1703) (p4 := 1704) (gW_at (pos := 1705) rfl rfl) (by decide +kernel)
set_option maxRecDepth 100000 in
theorem mk_X9_isFrame : MOk q_X9_isFrame := mokB_ok (p2 := 117) (p3 := 1711) (p4 := 0) (gW_at (pos := 1712) rfl rfl) (by decide +kernel)
set_option maxRecDepth 100000 in
theorem mk_X9_word : MOk q_X9_word := mokB_ok (p2 := 117) (p3 := 1707) (p4 := 1708) (gW_at (pos := 1709) rfl rfl) (by decide +kernel)
set_option maxRecDepth 100000 in
theorem mk_X9_works : MOk q_X9_works := mokB_ok (p2 := 117) (p3 := 1719) (p4 := 66) (gW_at (pos := 1720) rfl rfl) (by decide +kernel)
set_option maxRecDepth 100000 in
theorem mk_X9_isBacked : MOk q_X9_isBacked := mokB_ok (p2 := 117) (p3 := 1723) (p4 := 67) (gW_at (pos := 1724) rfl rfl) (by decide +kernel)
set_option maxRecDepth 100000 in
theorem mk_X9_hostOf : MOk q_X9_hostOf := mokB_ok (p2 := 117) (p3 := 1727) (p4 := 68) (gW_at (pos := 1728) rfl rfl) (by decide +kernel)
set_option maxRecDepth 100000 in
theorem mk_X9_backing : MOk q_X9_backing := mokB_ok (p2 := 117) (p3 := 1714) (p4 := 1715) (gW_at (pos := 1716) rfl rfl) (by decide +kernel)
set_option maxRecDepth 100000 in
theorem mk_X9_isRw : MOk q_X9_isRw := mokB_ok (p2 := 117) (p3 := 1735) (p4 := 69) (gW_at (pos := 1736) rfl rfl) (by decide +kernel)
set_option maxRecDepth 100000 in
theorem mk_X9_writes : MOk q_X9_writes := mokB_ok (p2 := 117) (p3 := 1730) (p4 := 1731) (gW_at (pos := 1732) rfl rfl) (by decide +kernel)
set_option maxRecDepth 100000 in
theorem mk_X9_root : MOk q_X9_root := mokB_ok (p2 := 117) (p3 := 1738) (p4 := 1739) (gW_at (pos := 1740) rfl rfl) (by decide +kernel)
set_option maxRecDepth 100000 in
theorem mk_X9_marks : MOk q_X9_marks := mokB_ok (p2 := 117) (p3 := 1742) (p4 := 1743) (gW_at (pos := 1744) rfl rfl) (by decide +kernel)
set_option maxRecDepth 100000 in
theorem mk_X9_has : MOk q_X9_has := mokB_ok (p2 := 117) (p3 := 1750) (p4 := 0) (gW_at (pos := 1751) rfl rfl) (by decide +kernel)
set_option maxRecDepth 100000 in
theorem mk_X9_wordsWith : MOk q_X9_wordsWith := mokB_ok (p2 := 117) (p3 := 1746) (p4 := 1747) (gW_at (pos := 1748) rfl rfl) (by decide +kernel)
set_option maxRecDepth 100000 in
theorem mk_X9_isPage : MOk q_X9_isPage := mokB_ok (p2 := 117) (p3 := 1761) (p4 := 0) (gW_at (pos := 1762) rfl rfl) (by decide +kernel)
set_option maxRecDepth 100000 in
theorem mk_X9_isAsked : MOk q_X9_isAsked := mokB_ok (p2 := 117) (p3 := 1758) (p4 := 70) (gW_at (pos := 1759) rfl rfl) (by decide +kernel)
set_option maxRecDepth 100000 in
theorem mk_X9_rootWord : MOk q_X9_rootWord := mokB_ok (p2 := 117) (p3 := 1769) (p4 := 72) (gW_at (pos := 1770) rfl rfl) (by decide +kernel)
set_option maxRecDepth 100000 in
theorem mk_X9_lets : MOk q_X9_lets := mokB_ok (p2 := 117) (p3 := 1772) (p4 := 0) (gW_at (pos := 1773) rfl rfl) (by decide +kernel)
set_option maxRecDepth 100000 in
theorem mk_X9_isLarge : MOk q_X9_isLarge := mokB_ok (p2 := 117) (p3 := 1775) (p4 := 0) (gW_at (pos := 1776) rfl rfl) (by decide +kernel)
set_option maxRecDepth 100000 in
theorem mk_X9_tells : MOk q_X9_tells := mokB_ok (p2 := 117) (p3 := 1782) (p4 := 0) (gW_at (pos := 1783) rfl rfl) (by decide +kernel)
set_option maxRecDepth 100000 in
theorem mk_X9_otherWord : MOk q_X9_otherWord := mokB_ok (p2 := 117) (p3 := 1779) (p4 := 73) (gW_at (pos := 1780) rfl rfl) (by decide +kernel)
set_option maxRecDepth 100000 in
theorem mk_X9_largeFrame : MOk q_X9_largeFrame := mokB_ok (p2 := 117) (p3 := 1789) (p4 := 0) (gW_at (pos := 1790) rfl rfl) (by decide +kernel)
set_option maxRecDepth 100000 in
theorem mk_X9_leadsTo : MOk q_X9_leadsTo := mokB_ok (p2 := 117) (p3 := 1786) (p4 := 74) (gW_at (pos := 1787) rfl rfl) (by decide +kernel)
set_option maxRecDepth 100000 in
theorem mk_X9_looks : MOk q_X9_looks := mokB_ok (p2 := 117) (p3 := 1765) (p4 := 71) (gW_at (pos := 1766) rfl rfl) (by decide +kernel)
set_option maxRecDepth 100000 in
theorem mk_X9_look : MOk q_X9_look := mokB_ok (p2 := 117) (p3 := 1753) (p4 := 1754) (gW_at (pos := 1755) rfl rfl) (by decide +kernel)
set_option maxRecDepth 100000 in
theorem mk_X9_leads : MOk q_X9_leads := mokB_ok (p2 := 117) (p3 := 1792) (p4 := 1793) (gW_at (pos := 1794) rfl rfl) (by decide +kernel)
set_option maxRecDepth 100000 in
theorem mk_X9_rights : MOk q_X9_rights := mokB_ok (p2 := 117) (p3 := 1796) (p4 := 1797) (gW_at (pos := 1798) rfl rfl) (by decide +kernel)
set_option maxRecDepth 100000 in
theorem mk_X9_large : MOk q_X9_large := mokB_ok (p2 := 117) (p3 := 1800) (p4 := 1801) (gW_at (pos := 1802) rfl rfl) (by decide +kernel)
set_option maxRecDepth 100000 in
theorem mk_X9_aliases : MOk q_X9_aliases := mokB_ok (p2 := 117) (p3 := 1804) (p4 := 1805) (gW_at (pos := 1806) rfl rfl) (by decide +kernel)
set_option maxRecDepth 100000 in
theorem mk_X9_tables : MOk q_X9_tables := mokB_ok (p2 := 117) (p3 := 1808) (p4 := 1809) (gW_at (pos := 1810) rfl rfl) (by decide +kernel)
set_option maxRecDepth 100000 in
theorem mk_X9_tableOf : MOk q_X9_tableOf := mokB_ok (p2 := 117) (p3 := 1821) (p4 := 76) (gW_at (pos := 1822) rfl rfl) (by decide +kernel)
set_option maxRecDepth 100000 in
theorem mk_X9_hitAt : MOk q_X9_hitAt := mokB_ok (p2 := 117) (p3 := 1817) (p4 := 75) (gW_at (pos := 1818) rfl rfl) (by decide +kernel)
set_option maxRecDepth 100000 in
theorem mk_X9_hits : MOk q_X9_hits := mokB_ok (p2 := 117) (p3 := 1812) (p4 := 1813) (gW_at (pos := 1814) rfl rfl) (by decide +kernel)
set_option maxRecDepth 100000 in
theorem mk_X9_isStale : MOk q_X9_isStale := mokB_ok (p2 := 117) (p3 := 1833) (p4 := 78) (gW_at (pos := 1834) rfl rfl) (by decide +kernel)
set_option maxRecDepth 100000 in
theorem mk_X9_compares : MOk q_X9_compares := mokB_ok (p2 := 117) (p3 := 1829) (p4 := 77) (gW_at (pos := 1830) rfl rfl) (by decide +kernel)
set_option maxRecDepth 100000 in
theorem mk_X9_stale : MOk q_X9_stale := mokB_ok (p2 := 117) (p3 := 1824) (p4 := 1825) (gW_at (pos := 1826) rfl rfl) (by decide +kernel)
set_option maxRecDepth 100000 in
theorem mk_X9_staleAt : MOk q_X9_staleAt := mokB_ok (p2 := 117) (p3 := 1836) (p4 := 1837) (gW_at (pos := 1838) rfl rfl) (by decide +kernel)
set_option maxRecDepth 100000 in
theorem mk_X9_missing : MOk q_X9_missing := mokB_ok (p2 := 117) (p3 := 1840) (p4 := 1841) (gW_at (pos := 1842) rfl rfl) (by decide +kernel)
set_option maxRecDepth 100000 in
theorem mk_X9_isTable : MOk q_X9_isTable := mokB_ok (p2 := 117) (p3 := 1849) (p4 := 79) (gW_at (pos := 1850) rfl rfl) (by decide +kernel)
set_option maxRecDepth 100000 in
theorem mk_X9_entriesOf : MOk q_X9_entriesOf := mokB_ok (p2 := 117) (p3 := 1853) (p4 := 80) (gW_at (pos := 1854) rfl rfl) (by decide +kernel)
set_option maxRecDepth 100000 in
theorem mk_X9_aheadOf : MOk q_X9_aheadOf := mokB_ok (p2 := 117) (p3 := 1857) (p4 := 81) (gW_at (pos := 1858) rfl rfl) (by decide +kernel)
set_option maxRecDepth 100000 in
theorem mk_X9_tellingOf : MOk q_X9_tellingOf := mokB_ok (p2 := 117) (p3 := 1861) (p4 := 82) (gW_at (pos := 1862) rfl rfl) (by decide +kernel)
set_option maxRecDepth 100000 in
theorem mk_X9_shadow : MOk q_X9_shadow := mokB_ok (p2 := 117) (p3 := 1844) (p4 := 1845) (gW_at (pos := 1846) rfl rfl) (by decide +kernel)
set_option maxRecDepth 100000 in
theorem mk_X9_entry : MOk q_X9_entry := mokB_ok (p2 := 117) (p3 := 1864) (p4 := 1865) (gW_at (pos := 1866) rfl rfl) (by decide +kernel)
set_option maxRecDepth 100000 in
theorem mk_X9_isMap : MOk q_X9_isMap := mokB_ok (p2 := 117) (p3 := 1877) (p4 := 84) (gW_at (pos := 1878) rfl rfl) (by decide +kernel)
set_option maxRecDepth 100000 in
theorem mk_X9_mapsOf : MOk q_X9_mapsOf := mokB_ok (p2 := 117) (p3 := 1873) (p4 := 83) (gW_at (pos := 1874) rfl rfl) (by decide +kernel)
set_option maxRecDepth 100000 in
theorem mk_X9_maps : MOk q_X9_maps := mokB_ok (p2 := 117) (p3 := 1868) (p4 := 1869) (gW_at (pos := 1870) rfl rfl) (by decide +kernel)
set_option maxRecDepth 100000 in
theorem mk_X9_writers : MOk q_X9_writers := mokB_ok (p2 := 117) (p3 := 1880) (p4 := 1881) (gW_at (pos := 1882) rfl rfl) (by decide +kernel)
set_option maxRecDepth 100000 in
theorem mk_X9_isWatched : MOk q_X9_isWatched := mokB_ok (p2 := 117) (p3 := 1889) (p4 := 85) (gW_at (pos := 1890) rfl rfl) (by decide +kernel)
set_option maxRecDepth 100000 in
theorem mk_X9_watched : MOk q_X9_watched := mokB_ok (p2 := 117) (p3 := 1884) (p4 := 1885) (gW_at (pos := 1886) rfl rfl) (by decide +kernel)
set_option maxRecDepth 100000 in
theorem mk_X9_outOfStep : MOk q_X9_outOfStep := mokB_ok (p2 := 117) (p3 := 1892) (p4 := 1893) (gW_at (pos := 1894) rfl rfl) (by decide +kernel)
set_option maxRecDepth 100000 in
theorem mk_X9_freeOne : MOk q_X9_freeOne := mokB_ok (p2 := 117) (p3 := 1901) (p4 := 86) (gW_at (pos := 1902) rfl rfl) (by decide +kernel)
set_option maxRecDepth 100000 in
theorem mk_X9_longestAgo : MOk q_X9_longestAgo := mokB_ok (p2 := 117) (p3 := 1905) (p4 := 87) (gW_at (pos := 1906) rfl rfl) (by decide +kernel)
set_option maxRecDepth 100000 in
theorem mk_X9_dropsNext : MOk q_X9_dropsNext := mokB_ok (p2 := 117) (p3 := 1896) (p4 := 1897) (gW_at (pos := 1898) rfl rfl) (by decide +kernel)
set_option maxRecDepth 100000 in
theorem mk_X9_refusesPool : MOk q_X9_refusesPool := mokB_ok (p2 := 117) (p3 := 1913) (p4 := 88) (gW_at (pos := 1914) rfl rfl) (by decide +kernel)
set_option maxRecDepth 100000 in
theorem mk_X9_dropped : MOk q_X9_dropped := mokB_ok (p2 := 117) (p3 := 1933) (p4 := 93) (gW_at (pos := 1934) rfl rfl) (by decide +kernel)
set_option maxRecDepth 100000 in
theorem mk_X9_losesW : MOk q_X9_losesW := mokB_ok (p2 := 117) (p3 := 1937) (p4 := 94) (gW_at (pos := 1938) rfl rfl) (by decide +kernel)
set_option maxRecDepth 100000 in
theorem mk_X9_needsTable : MOk q_X9_needsTable := mokB_ok (p2 := 117) (p3 := 1929) (p4 := 92) (gW_at (pos := 1930) rfl rfl) (by decide +kernel)
set_option maxRecDepth 100000 in
theorem mk_X9_filled : MOk q_X9_filled := mokB_ok (p2 := 117) (p3 := 1925) (p4 := 91) (gW_at (pos := 1926) rfl rfl) (by decide +kernel)
set_option maxRecDepth 100000 in
theorem mk_X9_reaches : MOk q_X9_reaches := mokB_ok (p2 := 117) (p3 := 1921) (p4 := 90) (gW_at (pos := 1922) rfl rfl) (by decide +kernel)
set_option maxRecDepth 100000 in
theorem mk_X9_runs : MOk q_X9_runs := mokB_ok (p2 := 117) (p3 := 1917) (p4 := 89) (gW_at (pos := 1918) rfl rfl) (by decide +kernel)
set_option maxRecDepth 100000 in
theorem mk_X9_runFaults : MOk q_X9_runFaults := mokB_ok (p2 := 117) (p3 := 1908) (p4 := 1909) (gW_at (pos := 1910) rfl rfl) (by decide +kernel)
set_option maxRecDepth 100000 in
theorem mk_X9_runRefused : MOk q_X9_runRefused := mokB_ok (p2 := 117) (p3 := 1940) (p4 := 1941) (gW_at (pos := 1942) rfl rfl) (by decide +kernel)
set_option maxRecDepth 100000 in
theorem mk_X9_runDrops : MOk q_X9_runDrops := mokB_ok (p2 := 117) (p3 := 1944) (p4 := 1945) (gW_at (pos := 1946) rfl rfl) (by decide +kernel)
set_option maxRecDepth 100000 in
theorem mk_X9_poolFor : MOk q_X9_poolFor := mokB_ok (p2 := 117) (p3 := 1948) (p4 := 1949) (gW_at (pos := 1950) rfl rfl) (by decide +kernel)
set_option maxRecDepth 100000 in
theorem mk_X9_sweep : MOk q_X9_sweep := mokB_ok (p2 := 117) (p3 := 1952) (p4 := 1953) (gW_at (pos := 1954) rfl rfl) (by decide +kernel)
set_option maxRecDepth 100000 in
theorem mk_X9_refusesDraw : MOk q_X9_refusesDraw := mokB_ok (p2 := 117) (p3 := 1961) (p4 := 95) (gW_at (pos := 1962) rfl rfl) (by decide +kernel)
set_option maxRecDepth 100000 in
theorem mk_X9_draws : MOk q_X9_draws := mokB_ok (p2 := 117) (p3 := 1966) (p4 := 96) (gW_at (pos := 1967) rfl rfl) (by decide +kernel)
set_option maxRecDepth 100000 in
theorem mk_X9_drawnFaults : MOk q_X9_drawnFaults := mokB_ok (p2 := 117) (p3 := 1956) (p4 := 1957) (gW_at (pos := 1958) rfl rfl) (by decide +kernel)
set_option maxRecDepth 100000 in
theorem mk_X9_drawnMarks : MOk q_X9_drawnMarks := mokB_ok (p2 := 117) (p3 := 1972) (p4 := 1973) (gW_at (pos := 1974) rfl rfl) (by decide +kernel)
set_option maxRecDepth 100000 in
theorem mk_X9_common : MOk q_X9_common := mokB_ok (p2 := 117) (p3 := 1984) (p4 := 0) (gW_at (pos := 1985) rfl rfl) (by decide +kernel)
set_option maxRecDepth 100000 in
theorem mk_X9_fraction : MOk q_X9_fraction := mokB_ok (p2 := 117) (p3 := 1981) (p4 := 97) (gW_at (pos := 1982) rfl rfl) (by decide +kernel)
set_option maxRecDepth 100000 in
theorem mk_X9_rate : MOk q_X9_rate := mokB_ok (p2 := 117) (p3 := 1976) (p4 := 1977) (gW_at (pos := 1978) rfl rfl) (by decide +kernel)
set_option maxRecDepth 100000 in
theorem mk_X9_wrongSaw : MOk q_X9_wrongSaw := mokB_ok (p2 := 117) (p3 := 1996) (p4 := 99) (gW_at (pos := 1997) rfl rfl) (by decide +kernel)
set_option maxRecDepth 100000 in
theorem mk_X9_fitting : MOk q_X9_fitting := mokB_ok (p2 := 117) (p3 := 1992) (p4 := 98) (gW_at (pos := 1993) rfl rfl) (by decide +kernel)
set_option maxRecDepth 100000 in
theorem mk_X9_fits : MOk q_X9_fits := mokB_ok (p2 := 117) (p3 := 1987) (p4 := 1988) (gW_at (pos := 1989) rfl rfl) (by decide +kernel)
set_option maxRecDepth 100000 in
theorem mk_X9_fitAt : MOk q_X9_fitAt := mokB_ok (p2 := 117) (p3 := 1999) (p4 := 2000) (gW_at (pos := 2001) rfl rfl) (by decide +kernel)
set_option maxRecDepth 100000 in
theorem mk_X9_could : MOk q_X9_could := mokB_ok (p2 := 117) (p3 := 2003) (p4 := 2004) (gW_at (pos := 2005) rfl rfl) (by decide +kernel)
set_option maxRecDepth 100000 in
theorem mk_X9_surely : MOk q_X9_surely := mokB_ok (p2 := 117) (p3 := 2007) (p4 := 2008) (gW_at (pos := 2009) rfl rfl) (by decide +kernel)
set_option maxRecDepth 100000 in
theorem mk_X9_asks : MOk q_X9_asks := mokB_ok (p2 := 117) (p3 := 2016) (p4 := 100) (gW_at (pos := 2017) rfl rfl) (by decide +kernel)
set_option maxRecDepth 100000 in
theorem mk_X9_ask : MOk q_X9_ask := mokB_ok (p2 := 117) (p3 := 2011) (p4 := 2012) (gW_at (pos := 2013) rfl rfl) (by decide +kernel)
set_option maxRecDepth 100000 in
theorem mk_X9_askLeaves : MOk q_X9_askLeaves := mokB_ok (p2 := 117) (p3 := 2019) (p4 := 2020) (gW_at (pos := 2021) rfl rfl) (by decide +kernel)
set_option maxRecDepth 100000 in
theorem mk_X9_judge : MOk q_X9_judge := mokB_ok (p2 := 117) (p3 := 2023) (p4 := 2024) (gW_at (pos := 2025) rfl rfl) (by decide +kernel)
set_option maxRecDepth 100000 in
theorem mk_X9_remembers : MOk q_X9_remembers := mokB_ok (p2 := 117) (p3 := 2032) (p4 := 101) (gW_at (pos := 2033) rfl rfl) (by decide +kernel)
set_option maxRecDepth 100000 in
theorem mk_X9_counted : MOk q_X9_counted := mokB_ok (p2 := 117) (p3 := 2036) (p4 := 102) (gW_at (pos := 2037) rfl rfl) (by decide +kernel)
set_option maxRecDepth 100000 in
theorem mk_X9_access : MOk q_X9_access := mokB_ok (p2 := 117) (p3 := 2027) (p4 := 2028) (gW_at (pos := 2029) rfl rfl) (by decide +kernel)
set_option maxRecDepth 100000 in
theorem mk_X9_stores : MOk q_X9_stores := mokB_ok (p2 := 117) (p3 := 2044) (p4 := 103) (gW_at (pos := 2045) rfl rfl) (by decide +kernel)
set_option maxRecDepth 100000 in
theorem mk_X9_store : MOk q_X9_store := mokB_ok (p2 := 117) (p3 := 2039) (p4 := 2040) (gW_at (pos := 2041) rfl rfl) (by decide +kernel)
set_option maxRecDepth 100000 in
theorem mk_X9_steps : MOk q_X9_steps := mokB_ok (p2 := 117) (p3 := 2052) (p4 := 104) (gW_at (pos := 2053) rfl rfl) (by decide +kernel)
set_option maxRecDepth 100000 in
theorem mk_X9_load : MOk q_X9_load := mokB_ok (p2 := 117) (p3 := 2047) (p4 := 2048) (gW_at (pos := 2049) rfl rfl) (by decide +kernel)
set_option maxRecDepth 100000 in
theorem mk_X9_flush : MOk q_X9_flush := mokB_ok (p2 := 117) (p3 := 2055) (p4 := 2056) (gW_at (pos := 2057) rfl rfl) (by decide +kernel)
set_option maxRecDepth 100000 in
theorem mk_X9_takesEntry : MOk q_X9_takesEntry := mokB_ok (p2 := 117) (p3 := 2064) (p4 := 105) (gW_at (pos := 2065) rfl rfl) (by decide +kernel)
set_option maxRecDepth 100000 in
theorem mk_X9_device : MOk q_X9_device := mokB_ok (p2 := 117) (p3 := 2059) (p4 := 2060) (gW_at (pos := 2061) rfl rfl) (by decide +kernel)
set_option maxRecDepth 100000 in
theorem mk_X9_unmap : MOk q_X9_unmap := mokB_ok (p2 := 117) (p3 := 2067) (p4 := 2068) (gW_at (pos := 2069) rfl rfl) (by decide +kernel)
set_option maxRecDepth 100000 in
theorem mk_X9_denied : MOk q_X9_denied := mokB_ok (p2 := 117) (p3 := 2076) (p4 := 106) (gW_at (pos := 2077) rfl rfl) (by decide +kernel)
set_option maxRecDepth 100000 in
theorem mk_X9_granted : MOk q_X9_granted := mokB_ok (p2 := 117) (p3 := 2080) (p4 := 107) (gW_at (pos := 2081) rfl rfl) (by decide +kernel)
set_option maxRecDepth 100000 in
theorem mk_X9_give : MOk q_X9_give := mokB_ok (p2 := 117) (p3 := 2071) (p4 := 2072) (gW_at (pos := 2073) rfl rfl) (by decide +kernel)
set_option maxRecDepth 100000 in
theorem mk_X9_protect : MOk q_X9_protect := mokB_ok (p2 := 117) (p3 := 2083) (p4 := 2084) (gW_at (pos := 2085) rfl rfl) (by decide +kernel)
set_option maxRecDepth 100000 in
theorem mk_X9_clean : MOk q_X9_clean := mokB_ok (p2 := 117) (p3 := 2087) (p4 := 2088) (gW_at (pos := 2089) rfl rfl) (by decide +kernel)
set_option maxRecDepth 100000 in
theorem mk_X9_undo : MOk q_X9_undo := mokB_ok (p2 := 117) (p3 := 2091) (p4 := 2092) (gW_at (pos := 2093) rfl rfl) (by decide +kernel)
set_option maxRecDepth 100000 in
theorem mk_X9_image : MOk q_X9_image := mokB_ok (p2 := 117) (p3 := 2095) (p4 := 2096) (gW_at (pos := 2097) rfl rfl) (by decide +kernel)
set_option maxRecDepth 100000 in
theorem mk_X9_back : MOk q_X9_back := mokB_ok (p2 := 117) (p3 := 2099) (p4 := 2100) (gW_at (pos := 2101) rfl rfl) (by decide +kernel)
set_option maxRecDepth 100000 in
theorem mk_X9_led : MOk q_X9_led := mokB_ok (p2 := 117) (p3 := 2103) (p4 := 2104) (gW_at (pos := 2105) rfl rfl) (by decide +kernel)
set_option maxRecDepth 100000 in
theorem mk_X9_backedMany : MOk q_X9_backedMany := mokB_ok (p2 := 117) (p3 := 2112) (p4 := 108) (gW_at (pos := 2113) rfl rfl) (by decide +kernel)
set_option maxRecDepth 100000 in
theorem mk_X9_size : MOk q_X9_size := mokB_ok (p2 := 117) (p3 := 2107) (p4 := 2108) (gW_at (pos := 2109) rfl rfl) (by decide +kernel)
set_option maxRecDepth 100000 in
theorem mk_X9_trouble : MOk q_X9_trouble := mokB_ok (p2 := 117) (p3 := 2115) (p4 := 2116) (gW_at (pos := 2117) rfl rfl) (by decide +kernel)
theorem mq_c {P : MI → Prop} {a : MI} {l : List MI} (h : P a) (t : ∀ q ∈ l, P q) : ∀ q ∈ a :: l, P q := List.forall_mem_cons.mpr ⟨h, t⟩
theorem mq_n {P : MI → Prop} : ∀ q ∈ ([] : List MI), P q := fun _ h => nomatch h
theorem mok_0 : ∀ q ∈ mtab_0, MOk q := (mq_c mk_X5_init (mq_c mk_X1_init (mq_c mk_X6_init (mq_c mk_X3_init (mq_c mk_X4_init (mq_c mk_X2_init (mq_c mk_X7_init (mq_c mk_X5_append (mq_c mk_X7_feed (mq_c mk_X7_refuse (mq_c mk_X1_empty (mq_c mk_X6_empty (mq_c mk_X5_byteAt (mq_c mk_X5_isSmall (mq_c mk_X5_isDigit (mq_c mk_X5_advance (mq_c mk_X5_isName (mq_c mk_X5_fails (mq_c mk_X5_isWhole (mq_c mk_X5_readsMachine mq_n))))))))))))))))))))
theorem mok_1 : ∀ q ∈ mtab_1, MOk q := (mq_c mk_X5_lineSort (mq_c mk_X5_isFull (mq_c mk_X1_isBacked (mq_c mk_X1_isTaken (mq_c mk_X1_backWith (mq_c mk_X6_addHost (mq_c mk_X5_readsHost (mq_c mk_X1_spot (mq_c mk_X6_toldWord (mq_c mk_X6_doubted (mq_c mk_X1_setWord (mq_c mk_X6_addWord (mq_c mk_X6_addDoubt (mq_c mk_X5_readsWord (mq_c mk_X5_modeNamed (mq_c mk_X5_isWay (mq_c mk_X6_addStep (mq_c mk_X5_readsRun (mq_c mk_X6_sighted (mq_c mk_X5_howNamed mq_n))))))))))))))))))))
theorem mok_2 : ∀ q ∈ mtab_2, MOk q := (mq_c mk_X6_addSight (mq_c mk_X5_readsSaw (mq_c mk_X5_readsLine (mq_c mk_X5_reads (mq_c mk_X1_copyFrom (mq_c mk_X3_vacate (mq_c mk_X3_startWith (mq_c mk_X2_clearCounts (mq_c mk_X2_startAnew (mq_c mk_X7_begin (mq_c mk_X7_answer (mq_c mk_X7_machine (mq_c mk_X7_fault (mq_c mk_X7_where (mq_c mk_X7_isFrame (mq_c mk_X7_isPlace (mq_c mk_X1_wordAt (mq_c mk_X7_word (mq_c mk_X1_hostOf (mq_c mk_X7_backing mq_n))))))))))))))))))))
theorem mok_3 : ∀ q ∈ mtab_3, MOk q := (mq_c mk_X7_has (mq_c mk_X1_isWritable (mq_c mk_X7_bit (mq_c mk_X7_writes (mq_c mk_X7_root (mq_c mk_X7_marks (mq_c mk_X1_placesWith (mq_c mk_X7_wordsWith (mq_c mk_X7_isPage (mq_c mk_X7_mode (mq_c mk_X1_upperWord (mq_c mk_X1_barOf (mq_c mk_X7_frameIn (mq_c mk_X1_lastWord (mq_c mk_X1_firstOfLarge (mq_c mk_X1_frameTold (mq_c mk_X1_seek (mq_c mk_X7_look (mq_c mk_X1_frameBehind (mq_c mk_X7_leads mq_n))))))))))))))))))))
theorem mok_4 : ∀ q ∈ mtab_4, MOk q := (mq_c mk_X1_modesDone (mq_c mk_X7_rights (mq_c mk_X7_large (mq_c mk_X1_pagesTo (mq_c mk_X7_aliases (mq_c mk_X1_tableFrames (mq_c mk_X7_tables (mq_c mk_X3_find (mq_c mk_X3_entryAt (mq_c mk_X3_upperEntry (mq_c mk_X3_hitEntry (mq_c mk_X2_hostByHardware (mq_c mk_X7_hits (mq_c mk_X2_isStale (mq_c mk_X2_staleWays (mq_c mk_X7_stale (mq_c mk_X2_firstStalePage (mq_c mk_X7_staleAt (mq_c mk_X2_missingWays (mq_c mk_X7_missing mq_n))))))))))))))))))))
theorem mok_5 : ∀ q ∈ mtab_5, MOk q := (mq_c mk_X7_isTable (mq_c mk_X3_kindOf (mq_c mk_X3_ownerOf (mq_c mk_X3_isAstray (mq_c mk_X3_entriesThere (mq_c mk_X3_madeAhead (mq_c mk_X3_isRootEntry (mq_c mk_X3_toldByRoots (mq_c mk_X3_property (mq_c mk_X7_shadow (mq_c mk_X7_entry (mq_c mk_X3_isMap (mq_c mk_X3_countMaps (mq_c mk_X7_maps (mq_c mk_X7_writers (mq_c mk_X3_watches (mq_c mk_X7_watched (mq_c mk_X7_outOfStep (mq_c mk_X3_freeAt (mq_c mk_X3_oldestBeside mq_n))))))))))))))))))))
theorem mok_6 : ∀ q ∈ mtab_6, MOk q := (mq_c mk_X7_dropsNext (mq_c mk_X7_declines (mq_c mk_X7_agrees (mq_c mk_X7_mayRun (mq_c mk_X1_setMark (mq_c mk_X1_noteUse (mq_c mk_X3_drop (mq_c mk_X3_make (mq_c mk_X3_takeWrite (mq_c mk_X2_tableOf (mq_c mk_X3_spot (mq_c mk_X3_tell (mq_c mk_X1_isMarked (mq_c mk_X2_fill (mq_c mk_X2_reach (mq_c mk_X7_runTold (mq_c mk_X7_runFaults (mq_c mk_X7_runRefused (mq_c mk_X7_runDrops (mq_c mk_X7_poolFor mq_n))))))))))))))))))))
theorem mok_7 : ∀ q ∈ mtab_7, MOk q := (mq_c mk_X3_copyFrom (mq_c mk_X4_copyFrom (mq_c mk_X2_startFrom (mq_c mk_X7_sweep (mq_c mk_X7_mayDraw (mq_c mk_X7_nextSeed (mq_c mk_X7_runDrawn (mq_c mk_X7_drawnFaults (mq_c mk_X7_drawnMarks (mq_c mk_X7_divisor (mq_c mk_X7_rate (mq_c mk_X6_firstUntrue (mq_c mk_X6_fittingSets (mq_c mk_X7_fitting (mq_c mk_J6_bitCount_0f7a4 (mq_c mk_X7_fits (mq_c mk_X0_setAt (mq_c mk_X7_fitAt (mq_c mk_X0_inSome (mq_c mk_X7_could mq_n))))))))))))))))))))
theorem mok_8 : ∀ q ∈ mtab_8, MOk q := (mq_c mk_X0_inAll (mq_c mk_X7_surely (mq_c mk_X0_leftAtMost (mq_c mk_X0_bestToAsk (mq_c mk_X7_ask (mq_c mk_X7_askLeaves (mq_c mk_X7_judge (mq_c mk_X7_keep (mq_c mk_X7_access (mq_c mk_X7_isWord (mq_c mk_X3_remove (mq_c mk_X3_loosen (mq_c mk_X3_allowWrite (mq_c mk_X2_putBehindFault (mq_c mk_X2_put (mq_c mk_X7_store (mq_c mk_X2_bringBack (mq_c mk_X2_takeRoot (mq_c mk_X7_load (mq_c mk_X2_forget mq_n))))))))))))))))))))
theorem mok_9 : ∀ q ∈ mtab_9, MOk q := (mq_c mk_X7_flush (mq_c mk_X3_forgetPlace (mq_c mk_X2_putPastWatching (mq_c mk_X7_device (mq_c mk_X1_takeAway (mq_c mk_X3_removeMaps (mq_c mk_X7_unmap (mq_c mk_X1_unmark (mq_c mk_X7_give (mq_c mk_X1_makeReadOnly (mq_c mk_X7_protect (mq_c mk_X7_clean (mq_c mk_X7_undo (mq_c mk_X7_image (mq_c mk_X7_back (mq_c mk_X1_countBacked (mq_c mk_X7_size (mq_c mk_X7_trouble (mq_c mk_X9_init (mq_c mk_X9_thrown mq_n))))))))))))))))))))
theorem mok_10 : ∀ q ∈ mtab_10, MOk q := (mq_c mk_X9_feed (mq_c mk_X9_refused (mq_c mk_X8_init (mq_c mk_X9_byteAt (mq_c mk_X9_isLetter (mq_c mk_X9_isDigit (mq_c mk_X9_goesOn (mq_c mk_X9_packed (mq_c mk_X9_isWord (mq_c mk_X9_flaw (mq_c mk_X9_needs (mq_c mk_X9_in (mq_c mk_X9_wholeAt (mq_c mk_X9_readWhole (mq_c mk_X9_readMachine (mq_c mk_X9_lineBegins (mq_c mk_X8_isGiven (mq_c mk_X9_readHost (mq_c mk_X9_readWord (mq_c mk_X9_modeAt mq_n))))))))))))))))))))
theorem mok_11 : ∀ q ∈ mtab_11, MOk q := (mq_c mk_X9_readRun (mq_c mk_X8_isUnsure (mq_c mk_X9_readUnsure (mq_c mk_X8_isSaw (mq_c mk_X9_readSaw (mq_c mk_X9_readLine (mq_c mk_X9_eatsSemicolon (mq_c mk_X9_readAll (mq_c mk_X9_bit (mq_c mk_X9_frees (mq_c mk_X9_begins (mq_c mk_X9_asTold (mq_c mk_X9_remains (mq_c mk_X9_good (mq_c mk_X9_machine (mq_c mk_X9_fault (mq_c mk_X9_where (mq_c mk_X9_isFrame (mq_c mk_X9_word (mq_c mk_X9_works mq_n))))))))))))))))))))
theorem mok_12 : ∀ q ∈ mtab_12, MOk q := (mq_c mk_X9_isBacked (mq_c mk_X9_hostOf (mq_c mk_X9_backing (mq_c mk_X9_isRw (mq_c mk_X9_writes (mq_c mk_X9_root (mq_c mk_X9_marks (mq_c mk_X9_has (mq_c mk_X9_wordsWith (mq_c mk_X9_isPage (mq_c mk_X9_isAsked (mq_c mk_X9_rootWord (mq_c mk_X9_lets (mq_c mk_X9_isLarge (mq_c mk_X9_tells (mq_c mk_X9_otherWord (mq_c mk_X9_largeFrame (mq_c mk_X9_leadsTo (mq_c mk_X9_looks (mq_c mk_X9_look mq_n))))))))))))))))))))
theorem mok_13 : ∀ q ∈ mtab_13, MOk q := (mq_c mk_X9_leads (mq_c mk_X9_rights (mq_c mk_X9_large (mq_c mk_X9_aliases (mq_c mk_X9_tables (mq_c mk_X9_tableOf (mq_c mk_X9_hitAt (mq_c mk_X9_hits (mq_c mk_X9_isStale (mq_c mk_X9_compares (mq_c mk_X9_stale (mq_c mk_X9_staleAt (mq_c mk_X9_missing (mq_c mk_X9_isTable (mq_c mk_X9_entriesOf (mq_c mk_X9_aheadOf (mq_c mk_X9_tellingOf (mq_c mk_X9_shadow (mq_c mk_X9_entry (mq_c mk_X9_isMap mq_n))))))))))))))))))))
theorem mok_14 : ∀ q ∈ mtab_14, MOk q := (mq_c mk_X9_mapsOf (mq_c mk_X9_maps (mq_c mk_X9_writers (mq_c mk_X9_isWatched (mq_c mk_X9_watched (mq_c mk_X9_outOfStep (mq_c mk_X9_freeOne (mq_c mk_X9_longestAgo (mq_c mk_X9_dropsNext (mq_c mk_X9_refusesPool (mq_c mk_X9_dropped (mq_c mk_X9_losesW (mq_c mk_X9_needsTable (mq_c mk_X9_filled (mq_c mk_X9_reaches (mq_c mk_X9_runs (mq_c mk_X9_runFaults (mq_c mk_X9_runRefused (mq_c mk_X9_runDrops (mq_c mk_X9_poolFor mq_n))))))))))))))))))))
theorem mok_15 : ∀ q ∈ mtab_15, MOk q := (mq_c mk_X9_sweep (mq_c mk_X9_refusesDraw (mq_c mk_X9_draws (mq_c mk_X9_drawnFaults (mq_c mk_X9_drawnMarks (mq_c mk_X9_common (mq_c mk_X9_fraction (mq_c mk_X9_rate (mq_c mk_X9_wrongSaw (mq_c mk_X9_fitting (mq_c mk_X9_fits (mq_c mk_X9_fitAt (mq_c mk_X9_could (mq_c mk_X9_surely (mq_c mk_X9_asks (mq_c mk_X9_ask (mq_c mk_X9_askLeaves (mq_c mk_X9_judge (mq_c mk_X9_remembers (mq_c mk_X9_counted mq_n))))))))))))))))))))
theorem mok_16 : ∀ q ∈ mtab_16, MOk q := (mq_c mk_X9_access (mq_c mk_X9_stores (mq_c mk_X9_store (mq_c mk_X9_steps (mq_c mk_X9_load (mq_c mk_X9_flush (mq_c mk_X9_takesEntry (mq_c mk_X9_device (mq_c mk_X9_unmap (mq_c mk_X9_denied (mq_c mk_X9_granted (mq_c mk_X9_give (mq_c mk_X9_protect (mq_c mk_X9_clean (mq_c mk_X9_undo (mq_c mk_X9_image (mq_c mk_X9_back (mq_c mk_X9_led (mq_c mk_X9_backedMany (mq_c mk_X9_size mq_n))))))))))))))))))))
theorem mok_17 : ∀ q ∈ mtab_17, MOk q := (mq_c mk_X9_trouble mq_n)
theorem mq_a {P : MI → Prop} {a b : List MI} (h : ∀ q ∈ a, P q) (t : ∀ q ∈ b, P q) : ∀ q ∈ a ++ b, P q := fun q hq => (List.mem_append.mp hq).elim (h q) (t q)
theorem mok_all : ∀ q ∈ mtab, MOk q := (mq_a mok_0 (mq_a mok_1 (mq_a mok_2 (mq_a mok_3 (mq_a mok_4 (mq_a mok_5 (mq_a mok_6 (mq_a mok_7 (mq_a mok_8 (mq_a mok_9 (mq_a mok_10 (mq_a mok_11 (mq_a mok_12 (mq_a mok_13 (mq_a mok_14 (mq_a mok_15 (mq_a mok_16 mok_17)))))))))))))))))
theorem hMT (mi : Nat) : MOk (MT mi) := by
  unfold MT
  rw [List.getD_eq_getElem?_getD]
  cases e : mtab[mi]? with
  | none => exact mok_all _ List.mem_cons_self
  | some q => exact mok_all _ (List.mem_of_getElem? e)
set_option maxRecDepth 100000 in
theorem mokLen : MOk qLen := mokB_ok (p2 := 118) (p3 := 443) (p4 := 444) (gW_at (pos := 445) rfl rfl) (by decide +kernel)
set_option maxRecDepth 100000 in
theorem mokCh : MOk qCh := mokB_ok (p2 := 118) (p3 := 453) (p4 := 454) (gW_at (pos := 455) rfl rfl) (by decide +kernel)
def clsB (ci : Nat) (q : vw_C) (ps : List Nat) (p1 p2 : Nat) : Bool := (List.range q.2.2).all (fun k => okW (ps.getD k 0) (u_lay q.1 q.2.1 k) && decide (parseFieldDescriptor (q.2.1 k).2.2.1 = some (cty ci k)) && decide (defaultValue (cty ci k) = (match fty ci k with | 1 => .long 0 | 2 => .null | _ => .int 0)) && (List.range q.2.2).all (fun b => decide (k = b ∨ (q.2.1 k).2.1 ≠ (q.2.1 b).2.1))) && okW p1 (.instantiable q.1 q.2.2) && okW p2 (.initialized q.1)
theorem clsB_ok {ci : Nat} {q : vw_C} {ps : List Nat} {p1 p2 : Nat} (h : clsB ci q ps p1 p2 = true) : ClsOk ci q := by
  unfold clsB at h
  rw [Bool.and_eq_true, Bool.and_eq_true] at h
  obtain ⟨⟨h1, h2⟩, h3⟩ := h
  have h4 : ∀ k, k < q.2.2 → ((okW (ps.getD k 0) (u_lay q.1 q.2.1 k) = true ∧ parseFieldDescriptor (q.2.1 k).2.2.1 = some (cty ci k)) ∧ defaultValue (cty ci k) = (match fty ci k with | 1 => .long 0 | 2 => .null | _ => .int 0)) ∧ ∀ b, b < q.2.2 → k = b ∨ (q.2.1 k).2.1 ≠ (q.2.1 b).2.1 := by
    intro k hk
    have h5 := List.all_eq_true.mp h1 k (List.mem_range.mpr hk)
    rw [Bool.and_eq_true, Bool.and_eq_true, Bool.and_eq_true, decide_eq_true_eq, decide_eq_true_eq] at h5
    exact ⟨h5.1, fun b hb => of_decide_eq_true (List.all_eq_true.mp h5.2 b (List.mem_range.mpr hb))⟩
  refine ⟨fun w hw => ?_, fun k hk => (h4 k hk).1.1.2, fun a ha b hb hne => ?_, okW_mem h2, okW_mem h3, fun k hk => (h4 k hk).1.2⟩
  · obtain ⟨k, hk, rfl⟩ := List.mem_map.mp hw
    exact okW_mem (h4 k (List.mem_range.mp hk)).1.1.1
  · rcases (h4 a ha).2 b hb with e | e
    · exact absurd e hne
    · exact e
theorem cls_0 : ClsOk 0 (RX1, TX1, 5) := clsB_ok (ps := [198, 200, 202, 204, 206]) (p1 := 184) (p2 := 113) (by decide +kernel)
theorem cls_1 : ClsOk 1 (RX2, TX2, 8) := clsB_ok (ps := [334, 336, 338, 340, 342, 344, 346, 348]) (p1 := 266) (p2 := 114) (by decide +kernel)
theorem cls_2 : ClsOk 2 (RX3, TX3, 7) := clsB_ok (ps := [294, 296, 298, 300, 302, 304, 306]) (p1 := 280) (p2 := 116) (by decide +kernel)
theorem cls_3 : ClsOk 3 (RX4, TX4, 2) := clsB_ok (ps := [313, 315]) (p1 := 272) (p2 := 115) (by decide +kernel)
theorem cls_4 : ClsOk 4 (RX5, TX5, 9) := clsB_ok (ps := [157, 159, 161, 163, 165, 167, 169, 171, 173]) (p1 := 140) (p2 := 111) (by decide +kernel)
theorem cls_5 : ClsOk 5 (RX6, TX6, 13) := clsB_ok (ps := [237, 239, 241, 243, 245, 247, 249, 251, 253, 255, 257, 259, 261]) (p1 := 178) (p2 := 112) (by decide +kernel)
theorem cls_6 : ClsOk 6 (RX7, TX7, 12) := clsB_ok (ps := [366, 368, 370, 372, 374, 376, 378, 380, 382, 384, 386, 388]) (p1 := 132) (p2 := 110) (by decide +kernel)
theorem cls_7 : ClsOk 7 (RX8, TX8, 18) := clsB_ok (ps := [1521, 1523, 1525, 1527, 1529, 1531, 1533, 1535, 1537, 1539, 1541, 1543, 1545, 1547, 1549, 1551, 1553, 1555]) (p1 := 1486) (p2 := 123) (by decide +kernel)
theorem cls_8 : ClsOk 8 (RX9, TX9, 41) := clsB_ok (ps := [1386, 1388, 1390, 1392, 1394, 1396, 1398, 1400, 1402, 1404, 1406, 1408, 1410, 1412, 1414, 1416, 1418, 1420, 1422, 1424, 1426, 1428, 1430, 1432, 1434, 1436, 1438, 1440, 1442, 1444, 1446, 1448, 1450, 1452, 1454, 1456, 1458, 1460, 1462, 1464, 1466]) (p1 := 1340) (p2 := 117) (by decide +kernel)
theorem cls_ok : ∀ ci q, 0 < q.2.2 → cls[ci]? = some q → ClsOk ci q := by
  intro ci q h0 h
  match ci, h with
  | 0, h => cases h; exact cls_0
  | 1, h => cases h; exact cls_1
  | 2, h => cases h; exact cls_2
  | 3, h => cases h; exact cls_3
  | 4, h => cases h; exact cls_4
  | 5, h => cases h; exact cls_5
  | 6, h => cases h; exact cls_6
  | 7, h => cases h; exact cls_7
  | 8, h => cases h; exact cls_8
  | 9, h => cases h; exact absurd h0 (Nat.lt_irrefl 0)
  | ci + 10, h => cases h
set_option maxRecDepth 100000 in
theorem glob : GlobOk qLen qCh := by
  refine ⟨cls_ok, ⟨okW_mem (pos := 137) (by decide +kernel), gW_at (pos := 138) rfl rfl⟩, ⟨okW_mem (pos := 620) (by decide +kernel), okW_mem (pos := 619) (by decide +kernel), okW_mem (pos := 122) (by decide +kernel)⟩, fun t ht => ?_, ⟨mokLen, rfl, rfl, rfl⟩, ⟨mokCh, rfl, rfl, rfl⟩, ⟨okW_mem (pos := 1115) (by decide +kernel), okW_mem (pos := 126) (by decide +kernel), gW_at (pos := 1116) rfl rfl⟩⟩
  rcases ht with rfl | rfl | rfl | rfl
  · exact okW_mem (pos := 209) (by decide +kernel)
  · exact okW_mem (pos := 176) (by decide +kernel)
  · exact okW_mem (pos := 264) (by decide +kernel)
  · exact okW_mem (pos := 2118) (by decide +kernel)
section STEP9
variable {l : Launch} {D : va_G} {dA : Nat → ClassId} {z : Nat} {sa : Nat → Nat} {Hz : Heap} {q : MI} {h0 fin : AH} {v : Option Value}
variable {ρ : Type} {K : Nat → LA → List Value → AH → Option ρ} {FI : Nat → List Value → AH → Option (Int32 × AH)} {FV : Nat → List Value → AH → Option AH} {FL : Nat → List Value → AH → Option (Int64 × AH)} {rt : Option Value → AH → Option ρ} {ft : Nat} {r : ρ}
theorem step (E : StrOK qLen qCh l D dA z sa Hz) {is : List AI} {pc : Nat} {la : LA} {st : List Value} {h : AH}
    (hev : evL K FI FV FL strLen strCh (0, fun _ => 0) rt ft is la st h = some r) (hok : vBL MT qLen qCh false q.2.2.2.2.1 q.2.2.2.2.2.1 q.2.2.1 q.1.cls q.1.name q.2.1 ft pc is = true)
    (hK : ∀ t la st h, K t la st h = some r → GM l D dA z sa Hz q h0 v fin t la st h)
    (hFI : ∀ mi As h x h', FI mi As h = some (x, h') → CalOK l D dA z sa Hz (MT mi) As h (some (.int x)) h') (hFV : ∀ mi As h h', FV mi As h = some h' → CalOK l D dA z sa Hz (MT mi) As h none h') (hFL : ∀ mi As h x h', FL mi As h = some (x, h') → CalOK l D dA z sa Hz (MT mi) As h (some (.long x)) h')
    (hrt : ∀ v' h', rt v' h' = some r → v' = v ∧ h' = fin ∧ RetOk q v) : GM l D dA z sa Hz q h0 v fin pc la st h := step0 glob hMT E hev hok hK hFI hFV hFL hrt
def cx {α : Type} (n : Nat) (f : List Value → AH → Option α) (g : Nat → List Value → AH → Option α) : Nat → List Value → AH → Option α := fun mi As h => if mi = n then f As h else g mi As h
def sT (st : List Value) (k : Nat → List Value → Option ρ) : Option ρ := match st with
  | .retAddr x :: st => k x st
  | _ => none
theorem sT_inv {st : List Value} {k : Nat → List Value → Option ρ} (h : sT st k = some r) : ∃ x st', st = .retAddr x :: st' ∧ k x st' = some r := by
  unfold sT at h
  split at h
  · exact ⟨_, _, rfl, h⟩
  · cases h
theorem cxI_ok {n : Nat} {f : List Value → AH → Option (Int32 × AH)} {g : Nat → List Value → AH → Option (Int32 × AH)} (hf : ∀ As h x h', f As h = some (x, h') → CalOK l D dA z sa Hz (MT n) As h (some (.int x)) h') (hg : ∀ mi As h x h', g mi As h = some (x, h') → CalOK l D dA z sa Hz (MT mi) As h (some (.int x)) h') : ∀ mi As h x h', cx n f g mi As h = some (x, h') → CalOK l D dA z sa Hz (MT mi) As h (some (.int x)) h' := by
  intro mi As h x h' e
  unfold cx at e
  by_cases ht : mi = n
  · rw [if_pos ht] at e; subst ht; exact hf As h x h' e
  · rw [if_neg ht] at e; exact hg mi As h x h' e
theorem cxL_ok {n : Nat} {f : List Value → AH → Option (Int64 × AH)} {g : Nat → List Value → AH → Option (Int64 × AH)} (hf : ∀ As h x h', f As h = some (x, h') → CalOK l D dA z sa Hz (MT n) As h (some (.long x)) h') (hg : ∀ mi As h x h', g mi As h = some (x, h') → CalOK l D dA z sa Hz (MT mi) As h (some (.long x)) h') : ∀ mi As h x h', cx n f g mi As h = some (x, h') → CalOK l D dA z sa Hz (MT mi) As h (some (.long x)) h' := by
  intro mi As h x h' e
  unfold cx at e
  by_cases ht : mi = n
  · rw [if_pos ht] at e; subst ht; exact hf As h x h' e
  · rw [if_neg ht] at e; exact hg mi As h x h' e
theorem cxV_ok {n : Nat} {f : List Value → AH → Option AH} {g : Nat → List Value → AH → Option AH} (hf : ∀ As h h', f As h = some h' → CalOK l D dA z sa Hz (MT n) As h none h') (hg : ∀ mi As h h', g mi As h = some h' → CalOK l D dA z sa Hz (MT mi) As h none h') : ∀ mi As h h', cx n f g mi As h = some h' → CalOK l D dA z sa Hz (MT mi) As h none h' := by
  intro mi As h h' e
  unfold cx at e
  by_cases ht : mi = n
  · rw [if_pos ht] at e; subst ht; exact hf As h h' e
  · rw [if_neg ht] at e; exact hg mi As h h' e
theorem fI0_ok (E : StrOK qLen qCh l D dA z sa Hz) : ∀ mi As h x h', fI0 mi As h = some (x, h') → CalOK l D dA z sa Hz (MT mi) As h (some (.int x)) h' := fun _ _ _ _ _ e => nomatch e
theorem fV0_ok (E : StrOK qLen qCh l D dA z sa Hz) : ∀ mi As h h', fV0 mi As h = some h' → CalOK l D dA z sa Hz (MT mi) As h none h' := fun _ _ _ _ e => nomatch e
theorem fL0_ok (E : StrOK qLen qCh l D dA z sa Hz) : ∀ mi As h x h', fL0 mi As h = some (x, h') → CalOK l D dA z sa Hz (MT mi) As h (some (.long x)) h' := fun _ _ _ _ _ e => nomatch e
end STEP9
