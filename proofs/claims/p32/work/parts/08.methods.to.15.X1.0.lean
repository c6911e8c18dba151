section
theorem mdJ9_floorDiv_7cf53 : MD yJ9_floorDiv_7cf53 cJ9_floorDiv_7cf53 3 (some .int) 2 := ⟨w586, w136, by decide +kernel, by decide⟩
theorem mdJ9_floorMod_7cf53 : MD yJ9_floorMod_7cf53 cJ9_floorMod_7cf53 3 (some .int) 2 := ⟨w589, w136, by decide +kernel, by decide⟩
theorem mdX0_add : MD yX0_add cX0_add 2 none 1 := ⟨w847, w123, by decide +kernel, by decide⟩
theorem mdX0_isTold : MD yX0_isTold cX0_isTold 1 (some .boolean) 0 := ⟨w571, w123, by decide +kernel, by decide⟩
theorem mdX10_across : MD yX10_across cX10_across 5 (some .int) 3 := ⟨w1079, w134, by decide +kernel, by decide⟩
theorem mdX10_canBeAt : MD yX10_canBeAt cX10_canBeAt 3 (some .boolean) 2 := ⟨w1083, w134, by decide +kernel, by decide⟩
theorem mdX10_goOutFrom : MD yX10_goOutFrom cX10_goOutFrom 6 none 2 := ⟨w1076, w134, by decide +kernel, by decide⟩
theorem mdX10_shorten : MD yX10_shorten cX10_shorten 4 none 3 := ⟨w1062, w134, by decide +kernel, by decide⟩
theorem mdX10_stepsOf : MD yX10_stepsOf cX10_stepsOf 6 (some .int) 3 := ⟨w1057, w134, by decide +kernel, by decide⟩
theorem mdX11_begin : MD yX11_begin cX11_begin 1 none 0 := ⟨w543, w120, by decide +kernel, by decide⟩
theorem mdX11_countPlanned : MD yX11_countPlanned cX11_countPlanned 3 (some .int) 0 := ⟨w1018, w120, by decide +kernel, by decide⟩
theorem mdX11_countRowsOfOne : MD yX11_countRowsOfOne cX11_countRowsOfOne 5 (some .long) 1 := ⟨w1040, w120, by decide +kernel, by decide⟩
theorem mdX11_countRowsOfTwo : MD yX11_countRowsOfTwo cX11_countRowsOfTwo 7 (some .long) 1 := ⟨w1049, w120, by decide +kernel, by decide⟩
theorem mdX11_countRowsWithout : MD yX11_countRowsWithout cX11_countRowsWithout 3 (some .long) 0 := ⟨w1045, w120, by decide +kernel, by decide⟩
theorem mdX11_countStaying : MD yX11_countStaying cX11_countStaying 5 (some .int) 2 := ⟨w1030, w120, by decide +kernel, by decide⟩
theorem mdX11_doesAll : MD yX11_doesAll cX11_doesAll 7 (some .boolean) 4 := ⟨w1002, w120, by decide +kernel, by decide⟩
theorem mdX11_doesWithout : MD yX11_doesWithout cX11_doesWithout 5 (some .boolean) 4 := ⟨w998, w120, by decide +kernel, by decide⟩
theorem mdX11_draw : MD yX11_draw cX11_draw 2 (some .int) 1 := ⟨w1157, w120, by decide +kernel, by decide⟩
theorem mdX11_findGiving : MD yX11_findGiving cX11_findGiving 5 (some .int) 3 := ⟨w1014, w120, by decide +kernel, by decide⟩
theorem mdX11_findHeld : MD yX11_findHeld cX11_findHeld 5 (some .int) 1 := ⟨w1101, w120, by decide +kernel, by decide⟩
theorem mdX11_foresee : MD yX11_foresee cX11_foresee 4 (some .int) 3 := ⟨w969, w120, by decide +kernel, by decide⟩
theorem mdX11_hourAt : MD yX11_hourAt cX11_hourAt 2 (some .int) 1 := ⟨w947, w120, by decide +kernel, by decide⟩
theorem mdX11_isBeyond : MD yX11_isBeyond cX11_isBeyond 2 (some .boolean) 1 := ⟨w965, w120, by decide +kernel, by decide⟩
theorem mdX11_letPass : MD yX11_letPass cX11_letPass 2 (some .int) 0 := ⟨w1153, w120, by decide +kernel, by decide⟩
theorem mdX11_lookAt : MD yX11_lookAt cX11_lookAt 2 none 1 := ⟨w951, w120, by decide +kernel, by decide⟩
theorem mdX11_planAnywhere : MD yX11_planAnywhere cX11_planAnywhere 4 (some .boolean) 2 := ⟨w1022, w120, by decide +kernel, by decide⟩
theorem mdX11_planNeeded : MD yX11_planNeeded cX11_planNeeded 4 (some .boolean) 2 := ⟨w1010, w120, by decide +kernel, by decide⟩
theorem mdX11_planNothing : MD yX11_planNothing cX11_planNothing 4 (some .boolean) 2 := ⟨w994, w120, by decide +kernel, by decide⟩
theorem mdX11_putByAct : MD yX11_putByAct cX11_putByAct 3 (some .int) 2 := ⟨w1169, w120, by decide +kernel, by decide⟩
theorem mdX11_refuse : MD yX11_refuse cX11_refuse 2 (some .int) 1 := ⟨w674, w120, by decide +kernel, by decide⟩
theorem mdX11_tellsWithin : MD yX11_tellsWithin cX11_tellsWithin 5 (some .boolean) 3 := ⟨w1006, w120, by decide +kernel, by decide⟩
theorem mdX12_add : MD yX12_add cX12_add 3 none 2 := ⟨w1620, w137, by decide +kernel, by decide⟩
theorem mdX12_ahead : MD yX12_ahead cX12_ahead 6 none 0 := ⟨w1476, w137, by decide +kernel, by decide⟩
theorem mdX12_at : MD yX12_at cX12_at 4 (some .int) 3 := ⟨w1472, w137, by decide +kernel, by decide⟩
theorem mdX12_begin : MD yX12_begin cX12_begin 2 none 0 := ⟨w1652, w137, by decide +kernel, by decide⟩
theorem mdX12_bits : MD yX12_bits cX12_bits 3 (some .int) 1 := ⟨w1715, w137, by decide +kernel, by decide⟩
theorem mdX12_blame : MD yX12_blame cX12_blame 3 none 2 := ⟨w1494, w137, by decide +kernel, by decide⟩
theorem mdX12_comesOn : MD yX12_comesOn cX12_comesOn 5 (some .boolean) 1 := ⟨w1879, w137, by decide +kernel, by decide⟩
theorem mdX12_copies : MD yX12_copies cX12_copies 4 none 2 := ⟨w1708, w137, by decide +kernel, by decide⟩
theorem mdX12_cornerOn : MD yX12_cornerOn cX12_cornerOn 4 (some .boolean) 2 := ⟨w1883, w137, by decide +kernel, by decide⟩
theorem mdX12_cornering : MD yX12_cornering cX12_cornering 1 none 0 := ⟨w1566, w137, by decide +kernel, by decide⟩
theorem mdX12_counts : MD yX12_counts cX12_counts 2 (some .boolean) 1 := ⟨w1507, w137, by decide +kernel, by decide⟩
theorem mdX12_doings : MD yX12_doings cX12_doings 2 none 0 := ⟨w1585, w137, by decide +kernel, by decide⟩
theorem mdX12_draw : MD yX12_draw cX12_draw 2 (some .int) 1 := ⟨w1839, w137, by decide +kernel, by decide⟩
theorem mdX12_finishes : MD yX12_finishes cX12_finishes 3 none 1 := ⟨w1639, w137, by decide +kernel, by decide⟩
theorem mdX12_finishesDoings : MD yX12_finishesDoings cX12_finishesDoings 4 (some .int) 1 := ⟨w1656, w137, by decide +kernel, by decide⟩
theorem mdX12_floor : MD yX12_floor cX12_floor 6 (some .long) 2 := ⟨w1683, w137, by decide +kernel, by decide⟩
theorem mdX12_fresh : MD yX12_fresh cX12_fresh 3 (some .long) 0 := ⟨w1511, w137, by decide +kernel, by decide⟩
theorem mdX12_goesOn : MD yX12_goesOn cX12_goesOn 5 (some .boolean) 0 := ⟨w1624, w137, by decide +kernel, by decide⟩
theorem mdX12_has2 : MD yX12_has2 cX12_has2 2 (some .boolean) 2 := ⟨w1577, w137, by decide +kernel, by decide⟩
theorem mdX12_heldBits : MD yX12_heldBits cX12_heldBits 7 (some .int) 1 := ⟨w1819, w137, by decide +kernel, by decide⟩
theorem mdX12_holdsBack : MD yX12_holdsBack cX12_holdsBack 2 none 1 := ⟨w1608, w137, by decide +kernel, by decide⟩
theorem mdX12_hour : MD yX12_hour cX12_hour 5 (some .int) 2 := ⟨w1660, w137, by decide +kernel, by decide⟩
theorem mdX12_is : MD yX12_is cX12_is 3 (some .boolean) 3 := ⟨w1562, w137, by decide +kernel, by decide⟩
theorem mdX12_isAhead : MD yX12_isAhead cX12_isAhead 4 (some .boolean) 3 := ⟨w1752, w137, by decide +kernel, by decide⟩
theorem mdX12_isCorner : MD yX12_isCorner cX12_isCorner 2 (some .boolean) 1 := ⟨w1736, w137, by decide +kernel, by decide⟩
theorem mdX12_isDigit : MD yX12_isDigit cX12_isDigit 1 (some .boolean) 1 := ⟨w1482, w137, by decide +kernel, by decide⟩
theorem mdX12_isDoing : MD yX12_isDoing cX12_isDoing 2 (some .boolean) 1 := ⟨w1744, w137, by decide +kernel, by decide⟩
theorem mdX12_isDoneBy : MD yX12_isDoneBy cX12_isDoneBy 4 (some .boolean) 2 := ⟨w1784, w137, by decide +kernel, by decide⟩
theorem mdX12_isGone : MD yX12_isGone cX12_isGone 3 (some .boolean) 2 := ⟨w1764, w137, by decide +kernel, by decide⟩
theorem mdX12_isLetter : MD yX12_isLetter cX12_isLetter 1 (some .boolean) 1 := ⟨w1479, w137, by decide +kernel, by decide⟩
theorem mdX12_isOwn : MD yX12_isOwn cX12_isOwn 3 (some .boolean) 1 := ⟨w1515, w137, by decide +kernel, by decide⟩
theorem mdX12_isSign : MD yX12_isSign cX12_isSign 2 (some .boolean) 1 := ⟨w1612, w137, by decide +kernel, by decide⟩
theorem mdX12_isTest : MD yX12_isTest cX12_isTest 1 (some .boolean) 1 := ⟨w1604, w137, by decide +kernel, by decide⟩
theorem mdX12_isThing : MD yX12_isThing cX12_isThing 2 (some .boolean) 1 := ⟨w1728, w137, by decide +kernel, by decide⟩
theorem mdX12_isTold : MD yX12_isTold cX12_isTold 2 (some .boolean) 1 := ⟨w1668, w137, by decide +kernel, by decide⟩
theorem mdX12_isWord : MD yX12_isWord cX12_isWord 3 (some .boolean) 1 := ⟨w1499, w137, by decide +kernel, by decide⟩
theorem mdX12_joins : MD yX12_joins cX12_joins 2 none 1 := ⟨w1628, w137, by decide +kernel, by decide⟩
theorem mdX12_keeps : MD yX12_keeps cX12_keeps 1 none 0 := ⟨w1831, w137, by decide +kernel, by decide⟩
theorem mdX12_knownBut : MD yX12_knownBut cX12_knownBut 4 (some .int) 2 := ⟨w1574, w137, by decide +kernel, by decide⟩
theorem mdX12_later : MD yX12_later cX12_later 4 (some .int) 2 := ⟨w1748, w137, by decide +kernel, by decide⟩
theorem mdX12_lays : MD yX12_lays cX12_lays 4 none 2 := ⟨w1664, w137, by decide +kernel, by decide⟩
theorem mdX12_lex : MD yX12_lex cX12_lex 1 none 0 := ⟨w1490, w137, by decide +kernel, by decide⟩
theorem mdX12_manyOf : MD yX12_manyOf cX12_manyOf 3 (some .int) 2 := ⟨w1547, w137, by decide +kernel, by decide⟩
theorem mdX12_measures : MD yX12_measures cX12_measures 5 none 0 := ⟨w1647, w137, by decide +kernel, by decide⟩
theorem mdX12_must : MD yX12_must cX12_must 2 none 1 := ⟨w1643, w137, by decide +kernel, by decide⟩
theorem mdX12_must_ : MD yX12_must_ cX12_must_ 3 none 1 := ⟨w1555, w137, by decide +kernel, by decide⟩
theorem mdX12_nameOf : MD yX12_nameOf cX12_nameOf 4 (some .long) 3 := ⟨w1551, w137, by decide +kernel, by decide⟩
theorem mdX12_named : MD yX12_named cX12_named 5 (some .int) 2 := ⟨w1543, w137, by decide +kernel, by decide⟩
theorem mdX12_number : MD yX12_number cX12_number 4 (some .int) 2 := ⟨w1559, w137, by decide +kernel, by decide⟩
theorem mdX12_opens : MD yX12_opens cX12_opens 2 none 1 := ⟨w1616, w137, by decide +kernel, by decide⟩
theorem mdX12_operand : MD yX12_operand cX12_operand 4 (some .boolean) 0 := ⟨w1601, w137, by decide +kernel, by decide⟩
theorem mdX12_palming : MD yX12_palming cX12_palming 4 none 0 := ⟨w1581, w137, by decide +kernel, by decide⟩
theorem mdX12_passes : MD yX12_passes cX12_passes 2 (some .int) 1 := ⟨w1756, w137, by decide +kernel, by decide⟩
theorem mdX12_passing : MD yX12_passing cX12_passing 2 none 0 := ⟨w1635, w137, by decide +kernel, by decide⟩
theorem mdX12_pushes : MD yX12_pushes cX12_pushes 2 none 1 := ⟨w1597, w137, by decide +kernel, by decide⟩
theorem mdX12_put : MD yX12_put cX12_put 3 none 1 := ⟨w1460, w137, by decide +kernel, by decide⟩
theorem mdX12_puts : MD yX12_puts cX12_puts 4 none 3 := ⟨w1768, w137, by decide +kernel, by decide⟩
theorem mdX12_rank : MD yX12_rank cX12_rank 1 (some .int) 1 := ⟨w1631, w137, by decide +kernel, by decide⟩
theorem mdX12_reading : MD yX12_reading cX12_reading 3 none 1 := ⟨w1589, w137, by decide +kernel, by decide⟩
theorem mdX12_reads : MD yX12_reads cX12_reads 3 none 1 := ⟨w1593, w137, by decide +kernel, by decide⟩
theorem mdX12_reckons : MD yX12_reckons cX12_reckons 5 (some .long) 1 := ⟨w1672, w137, by decide +kernel, by decide⟩
theorem mdX12_refuses : MD yX12_refuses cX12_refuses 2 (some .int) 1 := ⟨w1456, w137, by decide +kernel, by decide⟩
theorem mdX12_roading : MD yX12_roading cX12_roading 5 none 0 := ⟨w1570, w137, by decide +kernel, by decide⟩
theorem mdX12_slot : MD yX12_slot cX12_slot 2 (some .int) 1 := ⟨w1704, w137, by decide +kernel, by decide⟩
theorem mdX12_statement : MD yX12_statement cX12_statement 1 none 0 := ⟨w1486, w137, by decide +kernel, by decide⟩
theorem mdX12_thinging : MD yX12_thinging cX12_thinging 2 none 0 := ⟨w1503, w137, by decide +kernel, by decide⟩
theorem mdX12_ticks : MD yX12_ticks cX12_ticks 3 none 1 := ⟨w1760, w137, by decide +kernel, by decide⟩
theorem mdX12_two : MD yX12_two cX12_two 5 (some .long) 3 := ⟨w1675, w137, by decide +kernel, by decide⟩
theorem mdX12_way : MD yX12_way cX12_way 3 (some .int) 2 := ⟨w1797, w137, by decide +kernel, by decide⟩
theorem mdX12_within : MD yX12_within cX12_within 2 (some .long) 1 := ⟨w1678, w137, by decide +kernel, by decide⟩
theorem mdX12_writes : MD yX12_writes cX12_writes 2 none 1 := ⟨w1867, w137, by decide +kernel, by decide⟩
theorem mdX12_writesDown : MD yX12_writesDown cX12_writesDown 4 none 2 := ⟨w1688, w137, by decide +kernel, by decide⟩
theorem mdX1_foresee : MD yX1_foresee cX1_foresee 5 (some .int) 2 := ⟨w973, w131, by decide +kernel, by decide⟩
theorem mdX1_goOn : MD yX1_goOn cX1_goOn 2 none 0 := ⟨w977, w131, by decide +kernel, by decide⟩
theorem mdX1_hold : MD yX1_hold cX1_hold 5 none 4 := ⟨w563, w131, by decide +kernel, by decide⟩
theorem mdX1_hourNow : MD yX1_hourNow cX1_hourNow 2 (some .int) 0 := ⟨w567, w131, by decide +kernel, by decide⟩
theorem mdX1_join : MD yX1_join cX1_join 8 none 1 := ⟨w583, w131, by decide +kernel, by decide⟩
theorem mdX1_valueOf : MD yX1_valueOf cX1_valueOf 5 (some .int) 1 := ⟨w575, w131, by decide +kernel, by decide⟩
theorem mdX2_bringBack : MD yX2_bringBack cX2_bringBack 2 (some .boolean) 1 := ⟨w1181, w133, by decide +kernel, by decide⟩
theorem mdX2_remember : MD yX2_remember cX2_remember 2 none 1 := ⟨w1131, w133, by decide +kernel, by decide⟩
theorem mdX3_add : MD yX3_add cX3_add 2 (some .boolean) 1 := ⟨w863, w130, by decide +kernel, by decide⟩
theorem mdX3_addAndAdvance : MD yX3_addAndAdvance cX3_addAndAdvance 2 (some .boolean) 1 := ⟨w843, w130, by decide +kernel, by decide⟩
theorem mdX3_comparisonStep : MD yX3_comparisonStep cX3_comparisonStep 1 (some .int) 0 := ⟨w887, w130, by decide +kernel, by decide⟩
theorem mdX3_goIn : MD yX3_goIn cX3_goIn 3 (some .boolean) 2 := ⟨w857, w130, by decide +kernel, by decide⟩
theorem mdX3_productStep : MD yX3_productStep cX3_productStep 1 (some .int) 0 := ⟨w891, w130, by decide +kernel, by decide⟩
theorem mdX3_readBoth : MD yX3_readBoth cX3_readBoth 3 (some .boolean) 1 := ⟨w875, w130, by decide +kernel, by decide⟩
theorem mdX3_readChoice : MD yX3_readChoice cX3_readChoice 2 (some .boolean) 1 := ⟨w867, w130, by decide +kernel, by decide⟩
theorem mdX3_readComparison : MD yX3_readComparison cX3_readComparison 3 (some .boolean) 1 := ⟨w883, w130, by decide +kernel, by decide⟩
theorem mdX3_readFact : MD yX3_readFact cX3_readFact 2 (some .boolean) 1 := ⟨w879, w130, by decide +kernel, by decide⟩
theorem mdX3_readGone : MD yX3_readGone cX3_readGone 2 (some .boolean) 1 := ⟨w899, w130, by decide +kernel, by decide⟩
theorem mdX3_readPair : MD yX3_readPair cX3_readPair 3 (some .boolean) 2 := ⟨w853, w130, by decide +kernel, by decide⟩
theorem mdX3_readPart : MD yX3_readPart cX3_readPart 2 (some .boolean) 1 := ⟨w839, w130, by decide +kernel, by decide⟩
theorem mdX3_readProduct : MD yX3_readProduct cX3_readProduct 4 (some .boolean) 1 := ⟨w835, w130, by decide +kernel, by decide⟩
theorem mdX3_readSays : MD yX3_readSays cX3_readSays 2 (some .boolean) 1 := ⟨w827, w130, by decide +kernel, by decide⟩
theorem mdX3_readSum : MD yX3_readSum cX3_readSum 4 (some .boolean) 1 := ⟨w831, w130, by decide +kernel, by decide⟩
theorem mdX3_readTest : MD yX3_readTest cX3_readTest 3 (some .boolean) 1 := ⟨w871, w130, by decide +kernel, by decide⟩
theorem mdX3_sumStep : MD yX3_sumStep cX3_sumStep 1 (some .int) 0 := ⟨w895, w130, by decide +kernel, by decide⟩
theorem mdX4_cornerHere : MD yX4_cornerHere cX4_cornerHere 2 (some .int) 0 := ⟨w802, w124, by decide +kernel, by decide⟩
theorem mdX4_newName : MD yX4_newName cX4_newName 2 (some .int) 0 := ⟨w753, w124, by decide +kernel, by decide⟩
theorem mdX4_number : MD yX4_number cX4_number 4 (some .int) 2 := ⟨w782, w124, by decide +kernel, by decide⟩
theorem mdX4_read : MD yX4_read cX4_read 3 (some .boolean) 1 := ⟨w690, w124, by decide +kernel, by decide⟩
theorem mdX4_readCorner : MD yX4_readCorner cX4_readCorner 2 (some .boolean) 0 := ⟨w790, w124, by decide +kernel, by decide⟩
theorem mdX4_readDoing : MD yX4_readDoing cX4_readDoing 4 (some .boolean) 0 := ⟨w818, w124, by decide +kernel, by decide⟩
theorem mdX4_readPalm : MD yX4_readPalm cX4_readPalm 3 (some .boolean) 0 := ⟨w814, w124, by decide +kernel, by decide⟩
theorem mdX4_readPass : MD yX4_readPass cX4_readPass 2 (some .boolean) 0 := ⟨w903, w124, by decide +kernel, by decide⟩
theorem mdX4_readRoad : MD yX4_readRoad cX4_readRoad 4 (some .boolean) 0 := ⟨w798, w124, by decide +kernel, by decide⟩
theorem mdX4_readStatement : MD yX4_readStatement cX4_readStatement 1 (some .boolean) 0 := ⟨w736, w124, by decide +kernel, by decide⟩
theorem mdX4_readThing : MD yX4_readThing cX4_readThing 4 (some .boolean) 0 := ⟨w749, w124, by decide +kernel, by decide⟩
theorem mdX4_skipFirst : MD yX4_skipFirst cX4_skipFirst 2 (some .boolean) 1 := ⟨w740, w124, by decide +kernel, by decide⟩
theorem mdX5_isAbout : MD yX5_isAbout cX5_isAbout 3 (some .boolean) 1 := ⟨w1105, w135, by decide +kernel, by decide⟩
theorem mdX5_isSo : MD yX5_isSo cX5_isSo 6 (some .boolean) 3 := ⟨w1109, w135, by decide +kernel, by decide⟩
theorem mdX5_mostLeft : MD yX5_mostLeft cX5_mostLeft 8 (some .int) 2 := ⟨w1122, w135, by decide +kernel, by decide⟩
theorem mdX5_noteHours : MD yX5_noteHours cX5_noteHours 5 none 3 := ⟨w1113, w135, by decide +kernel, by decide⟩
theorem mdX5_read : MD yX5_read cX5_read 6 (some .boolean) 2 := ⟨w1091, w135, by decide +kernel, by decide⟩
theorem mdX6_begin : MD yX6_begin cX6_begin 3 none 1 := ⟨w547, w132, by decide +kernel, by decide⟩
theorem mdX6_bringBack : MD yX6_bringBack cX6_bringBack 2 none 1 := ⟨w1185, w132, by decide +kernel, by decide⟩
theorem mdX6_checkOf : MD yX6_checkOf cX6_checkOf 4 (some .int) 2 := ⟨w1208, w132, by decide +kernel, by decide⟩
theorem mdX6_countDone : MD yX6_countDone cX6_countDone 3 (some .int) 0 := ⟨w915, w132, by decide +kernel, by decide⟩
theorem mdX6_countEmpty : MD yX6_countEmpty cX6_countEmpty 3 (some .int) 0 := ⟨w919, w132, by decide +kernel, by decide⟩
theorem mdX6_doWhatIsDue : MD yX6_doWhatIsDue cX6_doWhatIsDue 4 (some .int) 1 := ⟨w555, w132, by decide +kernel, by decide⟩
theorem mdX6_goOn : MD yX6_goOn cX6_goOn 3 none 1 := ⟨w1143, w132, by decide +kernel, by decide⟩
theorem mdX6_imageSize : MD yX6_imageSize cX6_imageSize 1 (some .int) 0 := ⟨w1205, w132, by decide +kernel, by decide⟩
theorem mdX6_isDue : MD yX6_isDue cX6_isDue 4 (some .boolean) 2 := ⟨w559, w132, by decide +kernel, by decide⟩
theorem mdX6_isImage : MD yX6_isImage cX6_isImage 6 (some .boolean) 1 := ⟨w1220, w132, by decide +kernel, by decide⟩
theorem mdX6_keep : MD yX6_keep cX6_keep 2 none 1 := ⟨w607, w132, by decide +kernel, by decide⟩
theorem mdX6_put : MD yX6_put cX6_put 3 none 2 := ⟨w551, w132, by decide +kernel, by decide⟩
theorem mdX6_readImage : MD yX6_readImage cX6_readImage 4 none 1 := ⟨w1231, w132, by decide +kernel, by decide⟩
theorem mdX6_save : MD yX6_save cX6_save 2 none 1 := ⟨w1135, w132, by decide +kernel, by decide⟩
theorem mdX6_writeImage : MD yX6_writeImage cX6_writeImage 5 (some .int) 1 := ⟨w1201, w132, by decide +kernel, by decide⟩
theorem mdX7_addNumber : MD yX7_addNumber cX7_addNumber 3 none 1 := ⟨w678, w121, by decide +kernel, by decide⟩
theorem mdX7_at : MD yX7_at cX7_at 2 (some .int) 1 := ⟨w714, w121, by decide +kernel, by decide⟩
theorem mdX7_hasRoomFor : MD yX7_hasRoomFor cX7_hasRoomFor 2 (some .boolean) 1 := ⟨w670, w121, by decide +kernel, by decide⟩
theorem mdX7_pairAt : MD yX7_pairAt cX7_pairAt 2 (some .int) 1 := ⟨w1224, w121, by decide +kernel, by decide⟩
theorem mdX8_advance : MD yX8_advance cX8_advance 4 none 0 := ⟨w702, w125, by decide +kernel, by decide⟩
theorem mdX8_begin : MD yX8_begin cX8_begin 1 none 0 := ⟨w698, w125, by decide +kernel, by decide⟩
theorem mdX8_fail : MD yX8_fail cX8_fail 3 (some .boolean) 2 := ⟨w744, w125, by decide +kernel, by decide⟩
theorem mdX8_failHere : MD yX8_failHere cX8_failHere 1 (some .boolean) 0 := ⟨w757, w125, by decide +kernel, by decide⟩
theorem mdX8_fillUp : MD yX8_fillUp cX8_fillUp 4 (some .int) 2 := ⟨w345, w125, by decide +kernel, by decide⟩
theorem mdX8_isDigit : MD yX8_isDigit cX8_isDigit 1 (some .boolean) 1 := ⟨w728, w125, by decide +kernel, by decide⟩
theorem mdX8_isLetter : MD yX8_isLetter cX8_isLetter 1 (some .boolean) 1 := ⟨w717, w125, by decide +kernel, by decide⟩
theorem mdX8_isWordOrNumber : MD yX8_isWordOrNumber cX8_isWordOrNumber 1 (some .boolean) 0 := ⟨w706, w125, by decide +kernel, by decide⟩
theorem mdX8_kindOf : MD yX8_kindOf cX8_kindOf 3 (some .int) 1 := ⟨w725, w125, by decide +kernel, by decide⟩
theorem mdX8_letterOf : MD yX8_letterOf cX8_letterOf 4 (some .int) 2 := ⟨w927, w125, by decide +kernel, by decide⟩
theorem mdX8_readNumber : MD yX8_readNumber cX8_readNumber 3 none 0 := ⟨w732, w125, by decide +kernel, by decide⟩
theorem mdX8_readWord : MD yX8_readWord cX8_readWord 3 none 0 := ⟨w721, w125, by decide +kernel, by decide⟩
theorem mdX8_skip : MD yX8_skip cX8_skip 2 (some .boolean) 1 := ⟨w777, w125, by decide +kernel, by decide⟩
theorem mdX8_skipBlanks : MD yX8_skipBlanks cX8_skipBlanks 2 none 0 := ⟨w710, w125, by decide +kernel, by decide⟩
theorem mdX9_addCorner : MD yX9_addCorner cX9_addCorner 2 none 1 := ⟨w794, w122, by decide +kernel, by decide⟩
theorem mdX9_addDoing : MD yX9_addDoing cX9_addDoing 4 none 3 := ⟨w822, w122, by decide +kernel, by decide⟩
theorem mdX9_addRoad : MD yX9_addRoad cX9_addRoad 4 none 3 := ⟨w810, w122, by decide +kernel, by decide⟩
theorem mdX9_addThing : MD yX9_addThing cX9_addThing 4 none 3 := ⟨w786, w122, by decide +kernel, by decide⟩
theorem mdX9_clear : MD yX9_clear cX9_clear 1 none 0 := ⟨w694, w122, by decide +kernel, by decide⟩
theorem mdX9_find : MD yX9_find cX9_find 4 (some .int) 3 := ⟨w765, w122, by decide +kernel, by decide⟩
theorem mdX9_findCorner : MD yX9_findCorner cX9_findCorner 2 (some .int) 1 := ⟨w769, w122, by decide +kernel, by decide⟩
theorem mdX9_findDoing : MD yX9_findDoing cX9_findDoing 2 (some .int) 1 := ⟨w773, w122, by decide +kernel, by decide⟩
theorem mdX9_findThing : MD yX9_findThing cX9_findThing 2 (some .int) 1 := ⟨w762, w122, by decide +kernel, by decide⟩
theorem mdX9_hasRoad : MD yX9_hasRoad cX9_hasRoad 6 (some .boolean) 2 := ⟨w806, w122, by decide +kernel, by decide⟩
theorem mdX9_isCorner : MD yX9_isCorner cX9_isCorner 2 (some .boolean) 1 := ⟨w931, w122, by decide +kernel, by decide⟩
theorem mdX9_isDoing : MD yX9_isDoing cX9_isDoing 2 (some .boolean) 1 := ⟨w935, w122, by decide +kernel, by decide⟩
theorem mdX9_isThing : MD yX9_isThing cX9_isThing 2 (some .boolean) 1 := ⟨w579, w122, by decide +kernel, by decide⟩
theorem mvX0_add : MV yX0_add := ⟨w845, w846⟩
theorem mvX0_isTold : MV yX0_isTold := ⟨w569, w570⟩
theorem mvX10_canBeAt : MV yX10_canBeAt := ⟨w1081, w1082⟩
theorem mvX10_goOutFrom : MV yX10_goOutFrom := ⟨w1074, w1075⟩
theorem mvX10_shorten : MV yX10_shorten := ⟨w1061, w53⟩
theorem mvX10_stepsOf : MV yX10_stepsOf := ⟨w1055, w1056⟩
theorem mvX11_begin : MV yX11_begin := ⟨w542, w0⟩
theorem mvX11_countPlanned : MV yX11_countPlanned := ⟨w1017, w47⟩
theorem mvX11_countRowsOfOne : MV yX11_countRowsOfOne := ⟨w1039, w50⟩
theorem mvX11_countRowsOfTwo : MV yX11_countRowsOfTwo := ⟨w1048, w52⟩
theorem mvX11_countRowsWithout : MV yX11_countRowsWithout := ⟨w1044, w51⟩
theorem mvX11_countStaying : MV yX11_countStaying := ⟨w1029, w49⟩
theorem mvX11_doesAll : MV yX11_doesAll := ⟨w1001, w43⟩
theorem mvX11_doesWithout : MV yX11_doesWithout := ⟨w997, w42⟩
theorem mvX11_draw : MV yX11_draw := ⟨w1156, w56⟩
theorem mvX11_findGiving : MV yX11_findGiving := ⟨w1013, w46⟩
theorem mvX11_findHeld : MV yX11_findHeld := ⟨w1100, w54⟩
theorem mvX11_foresee : MV yX11_foresee := ⟨w968, w40⟩
theorem mvX11_hourAt : MV yX11_hourAt := ⟨w946, w37⟩
theorem mvX11_isBeyond : MV yX11_isBeyond := ⟨w964, w39⟩
theorem mvX11_letPass : MV yX11_letPass := ⟨w1152, w55⟩
theorem mvX11_lookAt : MV yX11_lookAt := ⟨w950, w38⟩
theorem mvX11_planAnywhere : MV yX11_planAnywhere := ⟨w1021, w48⟩
theorem mvX11_planNeeded : MV yX11_planNeeded := ⟨w1009, w45⟩
theorem mvX11_planNothing : MV yX11_planNothing := ⟨w993, w41⟩
theorem mvX11_putByAct : MV yX11_putByAct := ⟨w1168, w57⟩
theorem mvX11_refuse : MV yX11_refuse := ⟨w673, w5⟩
theorem mvX11_tellsWithin : MV yX11_tellsWithin := ⟨w1005, w44⟩
theorem mvX12_add : MV yX12_add := ⟨w1619, w88⟩
theorem mvX12_ahead : MV yX12_ahead := ⟨w1475, w62⟩
theorem mvX12_at : MV yX12_at := ⟨w1471, w61⟩
theorem mvX12_begin : MV yX12_begin := ⟨w1651, w95⟩
theorem mvX12_blame : MV yX12_blame := ⟨w1493, w65⟩
theorem mvX12_comesOn : MV yX12_comesOn := ⟨w1878, w117⟩
theorem mvX12_copies : MV yX12_copies := ⟨w1707, w103⟩
theorem mvX12_cornerOn : MV yX12_cornerOn := ⟨w1882, w118⟩
theorem mvX12_cornering : MV yX12_cornering := ⟨w1565, w76⟩
theorem mvX12_counts : MV yX12_counts := ⟨w1506, w68⟩
theorem mvX12_doings : MV yX12_doings := ⟨w1584, w80⟩
theorem mvX12_draw : MV yX12_draw := ⟨w1838, w115⟩
theorem mvX12_finishes : MV yX12_finishes := ⟨w1638, w92⟩
theorem mvX12_finishesDoings : MV yX12_finishesDoings := ⟨w1655, w96⟩
theorem mvX12_fresh : MV yX12_fresh := ⟨w1510, w69⟩
theorem mvX12_goesOn : MV yX12_goesOn := ⟨w1623, w89⟩
theorem mvX12_heldBits : MV yX12_heldBits := ⟨w1818, w113⟩
theorem mvX12_holdsBack : MV yX12_holdsBack := ⟨w1607, w85⟩
theorem mvX12_hour : MV yX12_hour := ⟨w1659, w97⟩
theorem mvX12_isAhead : MV yX12_isAhead := ⟨w1751, w107⟩
theorem mvX12_isCorner : MV yX12_isCorner := ⟨w1735, w105⟩
theorem mvX12_isDoing : MV yX12_isDoing := ⟨w1743, w106⟩
theorem mvX12_isDoneBy : MV yX12_isDoneBy := ⟨w1783, w112⟩
theorem mvX12_isGone : MV yX12_isGone := ⟨w1763, w110⟩
theorem mvX12_isOwn : MV yX12_isOwn := ⟨w1514, w70⟩
theorem mvX12_isSign : MV yX12_isSign := ⟨w1611, w86⟩
theorem mvX12_isThing : MV yX12_isThing := ⟨w1727, w104⟩
theorem mvX12_isTold : MV yX12_isTold := ⟨w1667, w99⟩
theorem mvX12_isWord : MV yX12_isWord := ⟨w1498, w66⟩
theorem mvX12_joins : MV yX12_joins := ⟨w1627, w90⟩
theorem mvX12_keeps : MV yX12_keeps := ⟨w1830, w114⟩
theorem mvX12_knownBut : MV yX12_knownBut := ⟨w1573, w78⟩
theorem mvX12_later : MV yX12_later := ⟨w1746, w1747⟩
theorem mvX12_lays : MV yX12_lays := ⟨w1663, w98⟩
theorem mvX12_lex : MV yX12_lex := ⟨w1489, w64⟩
theorem mvX12_manyOf : MV yX12_manyOf := ⟨w1546, w72⟩
theorem mvX12_measures : MV yX12_measures := ⟨w1646, w94⟩
theorem mvX12_must : MV yX12_must := ⟨w1642, w93⟩
theorem mvX12_must_ : MV yX12_must_ := ⟨w1554, w74⟩
theorem mvX12_nameOf : MV yX12_nameOf := ⟨w1550, w73⟩
theorem mvX12_named : MV yX12_named := ⟨w1542, w71⟩
theorem mvX12_number : MV yX12_number := ⟨w1558, w75⟩
theorem mvX12_opens : MV yX12_opens := ⟨w1615, w87⟩
theorem mvX12_operand : MV yX12_operand := ⟨w1600, w84⟩
theorem mvX12_palming : MV yX12_palming := ⟨w1580, w79⟩
theorem mvX12_passes : MV yX12_passes := ⟨w1755, w108⟩
theorem mvX12_passing : MV yX12_passing := ⟨w1634, w91⟩
theorem mvX12_pushes : MV yX12_pushes := ⟨w1596, w83⟩
theorem mvX12_put : MV yX12_put := ⟨w1459, w60⟩
theorem mvX12_puts : MV yX12_puts := ⟨w1767, w111⟩
theorem mvX12_reading : MV yX12_reading := ⟨w1588, w81⟩
theorem mvX12_reads : MV yX12_reads := ⟨w1592, w82⟩
theorem mvX12_reckons : MV yX12_reckons := ⟨w1671, w100⟩
theorem mvX12_refuses : MV yX12_refuses := ⟨w1455, w59⟩
theorem mvX12_roading : MV yX12_roading := ⟨w1569, w77⟩
theorem mvX12_slot : MV yX12_slot := ⟨w1703, w102⟩
theorem mvX12_statement : MV yX12_statement := ⟨w1485, w63⟩
theorem mvX12_thinging : MV yX12_thinging := ⟨w1502, w67⟩
theorem mvX12_ticks : MV yX12_ticks := ⟨w1759, w109⟩
theorem mvX12_way : MV yX12_way := ⟨w1795, w1796⟩
theorem mvX12_writes : MV yX12_writes := ⟨w1866, w116⟩
theorem mvX12_writesDown : MV yX12_writesDown := ⟨w1687, w101⟩
theorem mvX1_foresee : MV yX1_foresee := ⟨w971, w972⟩
theorem mvX1_goOn : MV yX1_goOn := ⟨w975, w976⟩
theorem mvX1_hold : MV yX1_hold := ⟨w561, w562⟩
theorem mvX1_hourNow : MV yX1_hourNow := ⟨w565, w566⟩
theorem mvX1_join : MV yX1_join := ⟨w582, w3⟩
theorem mvX1_valueOf : MV yX1_valueOf := ⟨w574, w2⟩
theorem mvX2_bringBack : MV yX2_bringBack := ⟨w1179, w1180⟩
theorem mvX2_remember : MV yX2_remember := ⟨w1129, w1130⟩
theorem mvX3_add : MV yX3_add := ⟨w862, w27⟩
theorem mvX3_addAndAdvance : MV yX3_addAndAdvance := ⟨w842, w24⟩
theorem mvX3_comparisonStep : MV yX3_comparisonStep := ⟨w886, w33⟩
theorem mvX3_goIn : MV yX3_goIn := ⟨w856, w26⟩
theorem mvX3_productStep : MV yX3_productStep := ⟨w890, w34⟩
theorem mvX3_readBoth : MV yX3_readBoth := ⟨w874, w30⟩
theorem mvX3_readChoice : MV yX3_readChoice := ⟨w866, w28⟩
theorem mvX3_readComparison : MV yX3_readComparison := ⟨w882, w32⟩
theorem mvX3_readFact : MV yX3_readFact := ⟨w878, w31⟩
theorem mvX3_readGone : MV yX3_readGone := ⟨w897, w898⟩
theorem mvX3_readPair : MV yX3_readPair := ⟨w852, w25⟩
theorem mvX3_readPart : MV yX3_readPart := ⟨w838, w23⟩
theorem mvX3_readProduct : MV yX3_readProduct := ⟨w834, w22⟩
theorem mvX3_readSays : MV yX3_readSays := ⟨w825, w826⟩
theorem mvX3_readSum : MV yX3_readSum := ⟨w830, w21⟩
theorem mvX3_readTest : MV yX3_readTest := ⟨w870, w29⟩
theorem mvX3_sumStep : MV yX3_sumStep := ⟨w894, w35⟩
theorem mvX4_cornerHere : MV yX4_cornerHere := ⟨w801, w18⟩
theorem mvX4_newName : MV yX4_newName := ⟨w752, w14⟩
theorem mvX4_number : MV yX4_number := ⟨w781, w15⟩
theorem mvX4_read : MV yX4_read := ⟨w688, w689⟩
theorem mvX4_readCorner : MV yX4_readCorner := ⟨w789, w16⟩
theorem mvX4_readDoing : MV yX4_readDoing := ⟨w817, w20⟩
theorem mvX4_readPalm : MV yX4_readPalm := ⟨w813, w19⟩
theorem mvX4_readPass : MV yX4_readPass := ⟨w902, w36⟩
theorem mvX4_readRoad : MV yX4_readRoad := ⟨w797, w17⟩
theorem mvX4_readStatement : MV yX4_readStatement := ⟨w735, w11⟩
theorem mvX4_readThing : MV yX4_readThing := ⟨w748, w13⟩
theorem mvX4_skipFirst : MV yX4_skipFirst := ⟨w739, w12⟩
theorem mvX5_isAbout : MV yX5_isAbout := ⟨w1103, w1104⟩
theorem mvX5_isSo : MV yX5_isSo := ⟨w1107, w1108⟩
theorem mvX5_mostLeft : MV yX5_mostLeft := ⟨w1120, w1121⟩
theorem mvX5_noteHours : MV yX5_noteHours := ⟨w1111, w1112⟩
theorem mvX5_read : MV yX5_read := ⟨w1089, w1090⟩
theorem mvX6_begin : MV yX6_begin := ⟨w545, w546⟩
theorem mvX6_bringBack : MV yX6_bringBack := ⟨w1183, w1184⟩
theorem mvX6_countDone : MV yX6_countDone := ⟨w913, w914⟩
theorem mvX6_countEmpty : MV yX6_countEmpty := ⟨w917, w918⟩
theorem mvX6_doWhatIsDue : MV yX6_doWhatIsDue := ⟨w553, w554⟩
theorem mvX6_goOn : MV yX6_goOn := ⟨w1141, w1142⟩
theorem mvX6_imageSize : MV yX6_imageSize := ⟨w1204, w58⟩
theorem mvX6_isDue : MV yX6_isDue := ⟨w558, w1⟩
theorem mvX6_isImage : MV yX6_isImage := ⟨w1218, w1219⟩
theorem mvX6_keep : MV yX6_keep := ⟨w606, w4⟩
theorem mvX6_put : MV yX6_put := ⟨w549, w550⟩
theorem mvX6_readImage : MV yX6_readImage := ⟨w1229, w1230⟩
theorem mvX6_save : MV yX6_save := ⟨w1133, w1134⟩
theorem mvX6_writeImage : MV yX6_writeImage := ⟨w1199, w1200⟩
theorem mvX7_addNumber : MV yX7_addNumber := ⟨w676, w677⟩
theorem mvX7_at : MV yX7_at := ⟨w712, w713⟩
theorem mvX7_hasRoomFor : MV yX7_hasRoomFor := ⟨w668, w669⟩
theorem mvX7_pairAt : MV yX7_pairAt := ⟨w1222, w1223⟩
theorem mvX8_advance : MV yX8_advance := ⟨w700, w701⟩
theorem mvX8_begin : MV yX8_begin := ⟨w696, w697⟩
theorem mvX8_fail : MV yX8_fail := ⟨w742, w743⟩
theorem mvX8_failHere : MV yX8_failHere := ⟨w755, w756⟩
theorem mvX8_isWordOrNumber : MV yX8_isWordOrNumber := ⟨w705, w6⟩
theorem mvX8_kindOf : MV yX8_kindOf := ⟨w724, w9⟩
theorem mvX8_readNumber : MV yX8_readNumber := ⟨w731, w10⟩
theorem mvX8_readWord : MV yX8_readWord := ⟨w720, w8⟩
theorem mvX8_skip : MV yX8_skip := ⟨w775, w776⟩
theorem mvX8_skipBlanks : MV yX8_skipBlanks := ⟨w709, w7⟩
theorem mvX9_addCorner : MV yX9_addCorner := ⟨w792, w793⟩
theorem mvX9_addDoing : MV yX9_addDoing := ⟨w820, w821⟩
theorem mvX9_addRoad : MV yX9_addRoad := ⟨w808, w809⟩
theorem mvX9_addThing : MV yX9_addThing := ⟨w784, w785⟩
theorem mvX9_clear : MV yX9_clear := ⟨w692, w693⟩
theorem mvX9_findCorner : MV yX9_findCorner := ⟨w767, w768⟩
theorem mvX9_findDoing : MV yX9_findDoing := ⟨w771, w772⟩
theorem mvX9_findThing : MV yX9_findThing := ⟨w760, w761⟩
theorem mvX9_hasRoad : MV yX9_hasRoad := ⟨w804, w805⟩
theorem mvX9_isCorner : MV yX9_isCorner := ⟨w929, w930⟩
theorem mvX9_isDoing : MV yX9_isDoing := ⟨w933, w934⟩
theorem mvX9_isThing : MV yX9_isThing := ⟨w577, w578⟩
end
section
/-- a method of a JDK class that no row of the natives runs: its contract out of a walk -/
theorem mt_ofWF {l : Launch} {y : MethodName} {ws ws' : List Cond} {rm : Room} {Pc : Array Value → State → Prop} {Qc : Array Value → State → Outcome → State → Prop} {mc ms : Nat} {free : Addr → Prop} {cc : ByteArray} {maxL : Nat} {ret : Option FieldType}
    (hy : plainFor y = true) (hw : ws = Cond.code y cc maxL ret :: ws')
    (body : ∀ p e s m args below meth c s₁, BodyLoose p l y (headSpec ws rm) cc maxL ret e s m args below meth c s₁ → c.maxLocals = maxL → Pc args s →
      W p l e (headSpec ws rm).room s m args below meth c s.heap [] 0 0 (MQ below Qc args s mc ms free) (entryFrame m args maxL)) : Met l y ws rm Pc Qc mc ms free := by
  refine MetFree.of_bodySF (code := cc) (maxLocals := maxL) (ret := ret) hy ?_ ?_
  · intro args s m h hn
    obtain ⟨meth, c, h1, h2, h3, h4, h5, h6, -, -⟩ := Cond.code_spec hn (atoms_spec (ws := ws) h _ (by rw [hw]; exact List.mem_cons_self))
    exact ⟨meth, c, h1, h2, h3, h4, h5, h6⟩
  · intro p e s m args below meth c s₁ B hml hP _
    have hh0 : s₁.heap = s.heap := by rw [B.state]; rfl
    obtain ⟨t, a1, o, b1, b2, b3⟩ := body p e s m args below meth c s₁ B hml hP s₁ hh0 (Stand.of_body B)
    exact ⟨t, o, a1, b1, b2, ⟨b3.1, b3.2⟩⟩
theorem CT.mkF {l : Launch} {G : Lay} {D : va_G} {cy : Nat → ClassId} {ad : Nat → Nat} {d : Nat} {ρ : Type} {Qf : ρ → Array Value → State → Outcome → State → Prop} {M : Mem} {o : Option ρ} {y : MethodName} {bytes : ByteArray} {maxL : Nat} {rt2 : Option FieldType} {av : List Value} (hG : LOK G) (hI : Inj G ad) (hy : plainFor y = true) (hlen : (lg_sl av).length ≤ maxL) (body : ∀ {p : Program} {e : Env} {s : State} {m : MethodId} {args : Array Value} {below : List Frame} {meth : Method} {c : Code}, OKc p (rmL d) s m args meth c G D cy ad bytes y.cls maxL d rt2 → BL p l e (rmL d) s m args below meth c G D cy ad maxL Qf 0 (lv_args 0 av) [] M o) : CT l G D cy ad y bytes maxL rt2 d Qf av M o := fun r hr => by
  refine mt_ofWF (cc := bytes) (maxL := maxL) (ret := rt2) hy rfl ?_
  intro p e s m args below meth c s₁ B hml hv
  obtain ⟨rfl, hW, hK⟩ := hv
  have hts := atoms_spec (ws := .code y bytes maxL rt2 :: lw_g) B.pre
  have hown : s.vm.findClass y.cls = some m.cls := findClass_of_methodNamed B.named
  have hl := lv_entry av (n := maxL) hlen
  rw [lg_entry_eq]
  exact body ⟨B.exec, B.bytes, hml, hown, fun w hw => hts w (List.mem_cons_of_mem _ hw), hK, hI, B.notSynchronized, B.returns, rfl, hG⟩ r hr s.heap [] _ hW va_S.rf hl
end
section
section
variable {p : Program} {l : Launch} {e : Env} {s : State} {m : MethodId} {args : Array Value} {below : List Frame} {meth : Method} {c : Code} {D : va_G} {cy : Nat → ClassId} {ad : Nat → Nat} {dd : Nat}

/-! J9_floorDiv_7cf53 -/
def fJ9_floorDiv_7cf53 (n0 : Nat) (x0 : Int32) (x1 : Int32) (M : Mem) : Option (Int32 × Mem) :=
  if x1 = 0 then none else
  bnd (x0 / x1) fun x2_3 =>
  if 0 ≤ (x0 ^^^ x1) then
    some (x2_3, M)
  else
    if (x2_3 * x1) = x0 then
      some (x2_3, M)
    else
      some ((x2_3 - (1 : Int32)), M)
theorem tfJ9_floorDiv_7cf53 (n0 : Nat) (hO : OKc p (rmL 1) s m args meth c LX D cy ad cJ9_floorDiv_7cf53 RJ9 3 1 (some .int)) (x0 : Int32) (x1 : Int32) (M : Mem) : BL p l e (rmL 1) s m args below meth c LX D cy ad 3 (QI LX D cy ad) 0 [(0, .int x0), (1, .int x1)] [] M (fJ9_floorDiv_7cf53 n0 x0 x1 M) := by
  unfold fJ9_floorDiv_7cf53
  refine b_iload_n hO dJ9_floorDiv_7cf53_0 0 rfl rfl ?_
  refine b_iload_n hO dJ9_floorDiv_7cf53_1 1 rfl rfl ?_
  refine b_idiv hO dJ9_floorDiv_7cf53_2 ?_
  refine b_topI (fun x2_3 => ?_)
  refine b_istore_n hO dJ9_floorDiv_7cf53_3 rfl (by decide) (lv' := [(2, .int _), (0, .int _), (1, .int _)]) rfl ?_
  refine b_iload_n hO dJ9_floorDiv_7cf53_4 1 rfl rfl ?_
  refine b_iload_n hO dJ9_floorDiv_7cf53_5 2 rfl rfl ?_
  refine b_ixor hO dJ9_floorDiv_7cf53_6 ?_
  refine b_if_ge hO dJ9_floorDiv_7cf53_7 (tgt := 21) (by decide) ?_ ?_
  · refine b_iload_n hO dJ9_floorDiv_7cf53_21 0 rfl rfl ?_
    exact b_iret hO dJ9_floorDiv_7cf53_22
  · refine b_iload_n hO dJ9_floorDiv_7cf53_10 0 rfl rfl ?_
    refine b_iload_n hO dJ9_floorDiv_7cf53_11 2 rfl rfl ?_
    refine b_imul hO dJ9_floorDiv_7cf53_12 ?_
    refine b_iload_n hO dJ9_floorDiv_7cf53_13 1 rfl rfl ?_
    refine b_icmp_eq hO dJ9_floorDiv_7cf53_14 (tgt := 21) (by decide) ?_ ?_
    · refine b_iload_n hO dJ9_floorDiv_7cf53_21 0 rfl rfl ?_
      exact b_iret hO dJ9_floorDiv_7cf53_22
    · refine b_iload_n hO dJ9_floorDiv_7cf53_17 0 rfl rfl ?_
      refine b_iconst hO dJ9_floorDiv_7cf53_18 ic_i_1 ?_
      refine b_isub hO dJ9_floorDiv_7cf53_19 ?_
      exact b_iret hO dJ9_floorDiv_7cf53_20
theorem ctJ9_floorDiv_7cf53 (n0 : Nat) (hI : Inj LX ad) (x0 : Int32) (x1 : Int32) (M : Mem) : CT l LX D cy ad yJ9_floorDiv_7cf53 cJ9_floorDiv_7cf53 3 (some .int) 1 (QI LX D cy ad) [.int x0, .int x1] M (fJ9_floorDiv_7cf53 n0 x0 x1 M) :=
  CT.mkF LXok hI (by decide +kernel) (Nat.le_of_ble_eq_true rfl) (fun hO => tfJ9_floorDiv_7cf53 n0 hO x0 x1 M)
/-! J9_floorMod_7cf53 -/
def fJ9_floorMod_7cf53 (n0 : Nat) (x0 : Int32) (x1 : Int32) (M : Mem) : Option (Int32 × Mem) :=
  if x1 = 0 then none else
  bnd (rem32 x0 x1) fun x2_3 =>
  if 0 ≤ (x0 ^^^ x1) then
    some (x2_3, M)
  else
    if x2_3 = 0 then
      some (x2_3, M)
    else
      some ((x2_3 + x1), M)
theorem tfJ9_floorMod_7cf53 (n0 : Nat) (hO : OKc p (rmL 1) s m args meth c LX D cy ad cJ9_floorMod_7cf53 RJ9 3 1 (some .int)) (x0 : Int32) (x1 : Int32) (M : Mem) : BL p l e (rmL 1) s m args below meth c LX D cy ad 3 (QI LX D cy ad) 0 [(0, .int x0), (1, .int x1)] [] M (fJ9_floorMod_7cf53 n0 x0 x1 M) := by
  unfold fJ9_floorMod_7cf53
  refine b_iload_n hO dJ9_floorMod_7cf53_0 0 rfl rfl ?_
  refine b_iload_n hO dJ9_floorMod_7cf53_1 1 rfl rfl ?_
  refine b_irem hO dJ9_floorMod_7cf53_2 ?_
  refine b_topI (fun x2_3 => ?_)
  refine b_istore_n hO dJ9_floorMod_7cf53_3 rfl (by decide) (lv' := [(2, .int _), (0, .int _), (1, .int _)]) rfl ?_
  refine b_iload_n hO dJ9_floorMod_7cf53_4 1 rfl rfl ?_
  refine b_iload_n hO dJ9_floorMod_7cf53_5 2 rfl rfl ?_
  refine b_ixor hO dJ9_floorMod_7cf53_6 ?_
  refine b_if_ge hO dJ9_floorMod_7cf53_7 (tgt := 18) (by decide) ?_ ?_
  · refine b_iload_n hO dJ9_floorMod_7cf53_18 0 rfl rfl ?_
    exact b_iret hO dJ9_floorMod_7cf53_19
  · refine b_iload_n hO dJ9_floorMod_7cf53_10 0 rfl rfl ?_
    refine b_if_eq hO dJ9_floorMod_7cf53_11 (tgt := 18) (by decide) ?_ ?_
    · refine b_iload_n hO dJ9_floorMod_7cf53_18 0 rfl rfl ?_
      exact b_iret hO dJ9_floorMod_7cf53_19
    · refine b_iload_n hO dJ9_floorMod_7cf53_14 0 rfl rfl ?_
      refine b_iload_n hO dJ9_floorMod_7cf53_15 2 rfl rfl ?_
      refine b_iadd hO dJ9_floorMod_7cf53_16 ?_
      exact b_iret hO dJ9_floorMod_7cf53_17
theorem ctJ9_floorMod_7cf53 (n0 : Nat) (hI : Inj LX ad) (x0 : Int32) (x1 : Int32) (M : Mem) : CT l LX D cy ad yJ9_floorMod_7cf53 cJ9_floorMod_7cf53 3 (some .int) 1 (QI LX D cy ad) [.int x0, .int x1] M (fJ9_floorMod_7cf53 n0 x0 x1 M) :=
  CT.mkF LXok hI (by decide +kernel) (Nat.le_of_ble_eq_true rfl) (fun hO => tfJ9_floorMod_7cf53 n0 hO x0 x1 M)
end
end
section
section
variable {p : Program} {l : Launch} {e : Env} {s : State} {m : MethodId} {args : Array Value} {below : List Frame} {meth : Method} {c : Code} {D : va_G} {cy : Nat → ClassId} {ad : Nat → Nat} {dd : Nat}

/-! X0_isTold -/
def fX0_isTold (n0 : Nat) (q0 : Nat) (M : Mem) : Option (Int32 × Mem) :=
  if (gI M (128 * q0 + 1)) ≤ 0 then
    some ((0 : Int32), M)
  else
    some ((1 : Int32), M)
theorem tfX0_isTold (n0 : Nat) (q0 : Nat) (hq0 : isK LX q0 0) (hO : OKc p (rmL 1) s m args meth c LX D cy ad cX0_isTold RX0 1 1 (some .boolean)) (M : Mem) : BL p l e (rmL 1) s m args below meth c LX D cy ad 1 (QI LX D cy ad) 0 [(0, .ref (ad q0))] [] M (fX0_isTold n0 q0 M) := by
  unfold fX0_isTold
  refine b_aload_n hO dX0_isTold_0 0 rfl rfl ?_
  refine b_get hO flX0_15 hq0 (v := .int (gI _ (128 * q0 + 1))) rfl dX0_isTold_1 ?_
  refine b_if_le hO dX0_isTold_4 (tgt := 11) (by decide) ?_ ?_
  · refine b_iconst hO dX0_isTold_11 ic_i_0 ?_
    exact b_zretc hO (Or.inl rfl) dX0_isTold_12
  · refine b_iconst hO dX0_isTold_7 ic_i_1 ?_
    refine b_goto hO dX0_isTold_8 (tgt := 12) (by decide) ?_
    exact b_zretc hO (Or.inr rfl) dX0_isTold_12
theorem ctX0_isTold (n0 : Nat) (q0 : Nat) (hq0 : isK LX q0 0) (hI : Inj LX ad) (M : Mem) : CT l LX D cy ad yX0_isTold cX0_isTold 1 (some .boolean) 1 (QI LX D cy ad) [.ref (ad q0)] M (fX0_isTold n0 q0 M) :=
  CT.mk LXok hI (by decide) (Nat.le_of_ble_eq_true rfl) (fun hO => tfX0_isTold n0 q0 hq0 hO M)
/-! X0_add -/
def fX0_add (n0 : Nat) (q0 : Nat) (x1 : Int32) (M : Mem) : Option (Mem) :=
  if (1600 : Int32) ≤ (gI M (128 * q0 + 1)) then
    some M
  else
    if oob (gI M (128 * q0 + 1)) 1600 then none else
    bnd (sA M (q0 + 1) (Int32.toNatClampNeg (gI M (128 * q0 + 1))) x1) fun M19 =>
    some (sI M19 (128 * q0 + 1) ((gI M19 (128 * q0 + 1)) + (1 : Int32)))
theorem tfX0_add (n0 : Nat) (q0 : Nat) (hq0 : isK LX q0 0) (hO : OKc p (rmL 1) s m args meth c LX D cy ad cX0_add RX0 2 1 none) (x1 : Int32) (M : Mem) : BL p l e (rmL 1) s m args below meth c LX D cy ad 2 (QV LX D cy ad) 0 [(0, .ref (ad q0)), (1, .int x1)] [] M (fX0_add n0 q0 x1 M) := by
  unfold fX0_add
  refine b_aload_n hO dX0_add_0 0 rfl rfl ?_
  refine b_get hO flX0_15 hq0 (v := .int (gI _ (128 * q0 + 1))) rfl dX0_add_1 ?_
  refine b_sipush hO dX0_add_4 ic_s_1600 ?_
  refine b_icmp_ge hO dX0_add_7 (tgt := 30) (by decide) ?_ ?_
  · exact b_vret hO dX0_add_30
  · refine b_aload_n hO dX0_add_10 0 rfl rfl ?_
    refine b_get hO flX0_9 hq0 (v := .ref (ad (q0 + 1))) rfl dX0_add_11 ?_
    refine b_aload_n hO dX0_add_14 0 rfl rfl ?_
    refine b_get hO flX0_15 hq0 (v := .int (gI _ (128 * q0 + 1))) rfl dX0_add_15 ?_
    refine b_iload_n hO dX0_add_18 1 rfl rfl ?_
    refine b_iast hO (kt_0_1 hq0) (n := 1600) (lt_0_1 hq0) dX0_add_19 ?_
    refine b_bnd (fun M19 => ?_)
    refine b_aload_n hO dX0_add_20 0 rfl rfl ?_
    refine b_dup hO dX0_add_21 rfl ?_
    refine b_get hO flX0_15 hq0 (v := .int (gI _ (128 * q0 + 1))) rfl dX0_add_22 ?_
    refine b_iconst hO dX0_add_25 ic_i_1 ?_
    refine b_iadd hO dX0_add_26 ?_
    refine b_putI hO flX0_15 hq0 rfl rfl rfl (id := (128 * q0 + 1)) rfl dX0_add_27 ?_
    exact b_vret hO dX0_add_30
theorem ctX0_add (n0 : Nat) (q0 : Nat) (hq0 : isK LX q0 0) (hI : Inj LX ad) (x1 : Int32) (M : Mem) : CT l LX D cy ad yX0_add cX0_add 2 none 1 (QV LX D cy ad) [.ref (ad q0), .int x1] M (fX0_add n0 q0 x1 M) :=
  CT.mk LXok hI (by decide) (Nat.le_of_ble_eq_true rfl) (fun hO => tfX0_add n0 q0 hq0 hO x1 M)
end
end
section
section
variable {p : Program} {l : Launch} {e : Env} {s : State} {m : MethodId} {args : Array Value} {below : List Frame} {meth : Method} {c : Code} {D : va_G} {cy : Nat → ClassId} {ad : Nat → Nat} {dd : Nat}

/-! X7_hasRoomFor -/
def fX7_hasRoomFor (n0 : Nat) (x1 : Int32) (M : Mem) : Option (Int32 × Mem) :=
  if (1600 : Int32) < ((gI M 641) + x1) then
    some ((0 : Int32), M)
  else
    some ((1 : Int32), M)
theorem tfX7_hasRoomFor (n0 : Nat) (hO : OKc p (rmL 1) s m args meth c LX D cy ad cX7_hasRoomFor RX7 2 1 (some .boolean)) (x1 : Int32) (M : Mem) : BL p l e (rmL 1) s m args below meth c LX D cy ad 2 (QI LX D cy ad) 0 [(0, .ref (ad 5)), (1, .int x1)] [] M (fX7_hasRoomFor n0 x1 M) := by
  unfold fX7_hasRoomFor
  refine b_aload_n hO dX7_hasRoomFor_0 0 rfl rfl ?_
  refine b_get hO flX7_15 kLX_5 (v := .int (gI _ 641)) rfl dX7_hasRoomFor_1 ?_
  refine b_iload_n hO dX7_hasRoomFor_4 1 rfl rfl ?_
  refine b_iadd hO dX7_hasRoomFor_5 ?_
  refine b_sipush hO dX7_hasRoomFor_6 ic_s_1600 ?_
  refine b_icmp_gt hO dX7_hasRoomFor_9 (tgt := 16) (by decide) ?_ ?_
  · refine b_iconst hO dX7_hasRoomFor_16 ic_i_0 ?_
    exact b_zretc hO (Or.inl rfl) dX7_hasRoomFor_17
  · refine b_iconst hO dX7_hasRoomFor_12 ic_i_1 ?_
    refine b_goto hO dX7_hasRoomFor_13 (tgt := 17) (by decide) ?_
    exact b_zretc hO (Or.inr rfl) dX7_hasRoomFor_17
theorem ctX7_hasRoomFor (n0 : Nat) (hI : Inj LX ad) (x1 : Int32) (M : Mem) : CT l LX D cy ad yX7_hasRoomFor cX7_hasRoomFor 2 (some .boolean) 1 (QI LX D cy ad) [.ref (ad 5), .int x1] M (fX7_hasRoomFor n0 x1 M) :=
  CT.mk LXok hI (by decide) (Nat.le_of_ble_eq_true rfl) (fun hO => tfX7_hasRoomFor n0 hO x1 M)
/-! X7_addNumber -/
def fX7_addNumber_43 (n0 : Nat) (k3 : Int32 → Int32 → Mem → Option (Mem)) (x1 : Int32) (x2 : Int32) (M : Mem) : Option (Mem) :=
  k3 x1 (x2 + (-8 : Int32)) M
def bX7_addNumber_3 (n0 : Nat) (k3 : Int32 → Int32 → Mem → Option (Mem)) (x1 : Int32) (x2 : Int32) (M : Mem) : Option (Mem) :=
  if x2 < 0 then
    some M
  else
    if (1600 : Int32) ≤ (gI M 641) then
      fX7_addNumber_43 n0 k3 x1 x2 M
    else
      if oob (gI M 641) 1600 then none else
      bnd (sA M 6 (Int32.toNatClampNeg (gI M 641)) ((x1 >>> (x2 &&& 31)) &&& (255 : Int32))) fun M32 =>
      fX7_addNumber_43 n0 k3 x1 x2 (sI M32 641 ((gI M32 641) + (1 : Int32)))
def fX7_addNumber_3 (n0 : Nat) : Int32 → Int32 → Mem → Option (Mem) := loopN (bX7_addNumber_3 n0) (fun _ _ _ => none) n0
def fX7_addNumber (n0 : Nat) (x1 : Int32) (M : Mem) : Option (Mem) :=
  fX7_addNumber_3 n0 x1 (24 : Int32) M
theorem tfX7_addNumber_43 (n0 : Nat) (hO : OKc p (rmL 1) s m args meth c LX D cy ad cX7_addNumber RX7 3 1 none) (k3 : Int32 → Int32 → Mem → Option (Mem)) (hk3 : ∀ (x1 : Int32) (x2 : Int32) (M : Mem), BL p l e (rmL 1) s m args below meth c LX D cy ad 3 (QV LX D cy ad) 3 [(0, .ref (ad 5)), (1, .int x1), (2, .int x2)] [] M (k3 x1 x2 M)) (x1 : Int32) (x2 : Int32) (M : Mem) : BL p l e (rmL 1) s m args below meth c LX D cy ad 3 (QV LX D cy ad) 43 [(0, .ref (ad 5)), (1, .int x1), (2, .int x2)] [] M (fX7_addNumber_43 n0 k3 x1 x2 M) := by
  unfold fX7_addNumber_43
  refine b_iinc hO dX7_addNumber_43 2 rfl ic_i_m8 (by decide) (lv' := [(2, .int _), (0, .ref _), (1, .int _)]) rfl ?_
  refine b_goto hO dX7_addNumber_46 (tgt := 3) (by decide) ?_
  refine b_sub [1, 2, 0] rfl ?_
  exact hk3 _ _ _
theorem tbX7_addNumber_3 (n0 : Nat) (hO : OKc p (rmL 1) s m args meth c LX D cy ad cX7_addNumber RX7 3 1 none) (k3 : Int32 → Int32 → Mem → Option (Mem)) (hk3 : ∀ (x1 : Int32) (x2 : Int32) (M : Mem), BL p l e (rmL 1) s m args below meth c LX D cy ad 3 (QV LX D cy ad) 3 [(0, .ref (ad 5)), (1, .int x1), (2, .int x2)] [] M (k3 x1 x2 M)) (x1 : Int32) (x2 : Int32) (M : Mem) : BL p l e (rmL 1) s m args below meth c LX D cy ad 3 (QV LX D cy ad) 3 [(0, .ref (ad 5)), (1, .int x1), (2, .int x2)] [] M (bX7_addNumber_3 n0 k3 x1 x2 M) := by
  unfold bX7_addNumber_3
  refine b_iload_n hO dX7_addNumber_3 2 rfl rfl ?_
  refine b_if_lt hO dX7_addNumber_4 (tgt := 49) (by decide) ?_ ?_
  · exact b_vret hO dX7_addNumber_49
  · refine b_aload_n hO dX7_addNumber_7 0 rfl rfl ?_
    refine b_get hO flX7_15 kLX_5 (v := .int (gI _ 641)) rfl dX7_addNumber_8 ?_
    refine b_sipush hO dX7_addNumber_11 ic_s_1600 ?_
    refine b_icmp_ge hO dX7_addNumber_14 (tgt := 43) (by decide) ?_ ?_
    · exact tfX7_addNumber_43 n0 hO k3 hk3 _ _ _
    · refine b_aload_n hO dX7_addNumber_17 0 rfl rfl ?_
      refine b_get hO flX7_9 kLX_5 (v := .ref (ad 6)) rfl dX7_addNumber_18 ?_
      refine b_aload_n hO dX7_addNumber_21 0 rfl rfl ?_
      refine b_get hO flX7_15 kLX_5 (v := .int (gI _ 641)) rfl dX7_addNumber_22 ?_
      refine b_iload_n hO dX7_addNumber_25 1 rfl rfl ?_
      refine b_iload_n hO dX7_addNumber_26 2 rfl rfl ?_
      refine b_ishr hO dX7_addNumber_27 ?_
      refine b_sipush hO dX7_addNumber_28 ic_s_255 ?_
      refine b_iand hO dX7_addNumber_31 ?_
      refine b_iast hO kLX_6 (n := 1600) rfl dX7_addNumber_32 ?_
      refine b_bnd (fun M32 => ?_)
      refine b_aload_n hO dX7_addNumber_33 0 rfl rfl ?_
      refine b_dup hO dX7_addNumber_34 rfl ?_
      refine b_get hO flX7_15 kLX_5 (v := .int (gI _ 641)) rfl dX7_addNumber_35 ?_
      refine b_iconst hO dX7_addNumber_38 ic_i_1 ?_
      refine b_iadd hO dX7_addNumber_39 ?_
      refine b_putI hO flX7_15 kLX_5 rfl rfl rfl (id := 641) rfl dX7_addNumber_40 ?_
      exact tfX7_addNumber_43 n0 hO k3 hk3 _ _ _
theorem lX7_addNumber_3 (n0 : Nat) (hO : OKc p (rmL 1) s m args meth c LX D cy ad cX7_addNumber RX7 3 1 none) : ∀ (w : Nat) (x1 : Int32) (x2 : Int32) (M : Mem), BL p l e (rmL 1) s m args below meth c LX D cy ad 3 (QV LX D cy ad) 3 [(0, .ref (ad 5)), (1, .int x1), (2, .int x2)] [] M (loopN (bX7_addNumber_3 n0) (fun _ _ _ => none) w x1 x2 M) := by
  intro w
  induction w with
  | zero =>
    intros
    exact b_none
  | succ w ih =>
    intro x1 x2 M
    exact tbX7_addNumber_3 n0 hO _ ih x1 x2 M
theorem tfX7_addNumber_3 (n0 : Nat) (hO : OKc p (rmL 1) s m args meth c LX D cy ad cX7_addNumber RX7 3 1 none) (x1 : Int32) (x2 : Int32) (M : Mem) : BL p l e (rmL 1) s m args below meth c LX D cy ad 3 (QV LX D cy ad) 3 [(0, .ref (ad 5)), (1, .int x1), (2, .int x2)] [] M (fX7_addNumber_3 n0 x1 x2 M) := lX7_addNumber_3 n0 hO n0 x1 x2 M
theorem tfX7_addNumber (n0 : Nat) (hO : OKc p (rmL 1) s m args meth c LX D cy ad cX7_addNumber RX7 3 1 none) (x1 : Int32) (M : Mem) : BL p l e (rmL 1) s m args below meth c LX D cy ad 3 (QV LX D cy ad) 0 [(0, .ref (ad 5)), (1, .int x1)] [] M (fX7_addNumber n0 x1 M) := by
  unfold fX7_addNumber
  refine b_bipush hO dX7_addNumber_0 ic_b_24 ?_
  refine b_istore_n hO dX7_addNumber_2 rfl (by decide) (lv' := [(2, .int _), (0, .ref _), (1, .int _)]) rfl ?_
  refine b_sub [1, 2, 0] rfl ?_
  exact tfX7_addNumber_3 n0 hO _ _ _
theorem ctX7_addNumber (n0 : Nat) (hI : Inj LX ad) (x1 : Int32) (M : Mem) : CT l LX D cy ad yX7_addNumber cX7_addNumber 3 none 1 (QV LX D cy ad) [.ref (ad 5), .int x1] M (fX7_addNumber n0 x1 M) :=
  CT.mk LXok hI (by decide) (Nat.le_of_ble_eq_true rfl) (fun hO => tfX7_addNumber n0 hO x1 M)
/-! X7_at -/
def fX7_at (n0 : Nat) (x1 : Int32) (M : Mem) : Option (Int32 × Mem) :=
  if x1 < 0 then
    some ((-1 : Int32), M)
  else
    if (gI M 641) ≤ x1 then
      some ((-1 : Int32), M)
    else
      if oob x1 1600 then none else
      some ((gA M 6 (Int32.toNatClampNeg x1)), M)
theorem tfX7_at (n0 : Nat) (hO : OKc p (rmL 1) s m args meth c LX D cy ad cX7_at RX7 2 1 (some .int)) (x1 : Int32) (M : Mem) : BL p l e (rmL 1) s m args below meth c LX D cy ad 2 (QI LX D cy ad) 0 [(0, .ref (ad 5)), (1, .int x1)] [] M (fX7_at n0 x1 M) := by
  unfold fX7_at
  refine b_iload_n hO dX7_at_0 1 rfl rfl ?_
  refine b_if_lt hO dX7_at_1 (tgt := 21) (by decide) ?_ ?_
  · refine b_iconst hO dX7_at_21 ic_i_m1 ?_
    exact b_iret hO dX7_at_22
  · refine b_iload_n hO dX7_at_4 1 rfl rfl ?_
    refine b_aload_n hO dX7_at_5 0 rfl rfl ?_
    refine b_get hO flX7_15 kLX_5 (v := .int (gI _ 641)) rfl dX7_at_6 ?_
    refine b_icmp_ge hO dX7_at_9 (tgt := 21) (by decide) ?_ ?_
    · refine b_iconst hO dX7_at_21 ic_i_m1 ?_
      exact b_iret hO dX7_at_22
    · refine b_aload_n hO dX7_at_12 0 rfl rfl ?_
      refine b_get hO flX7_9 kLX_5 (v := .ref (ad 6)) rfl dX7_at_13 ?_
      refine b_iload_n hO dX7_at_16 1 rfl rfl ?_
      refine b_iald hO kLX_6 (n := 1600) rfl dX7_at_17 ?_
      refine b_goto hO dX7_at_18 (tgt := 22) (by decide) ?_
      exact b_iret hO dX7_at_22
theorem ctX7_at (n0 : Nat) (hI : Inj LX ad) (x1 : Int32) (M : Mem) : CT l LX D cy ad yX7_at cX7_at 2 (some .int) 1 (QI LX D cy ad) [.ref (ad 5), .int x1] M (fX7_at n0 x1 M) :=
  CT.mk LXok hI (by decide) (Nat.le_of_ble_eq_true rfl) (fun hO => tfX7_at n0 hO x1 M)
/-! X7_pairAt -/
def fX7_pairAt (n0 : Nat) (x1 : Int32) (M : Mem) : Option (Int32 × Mem) :=
  (fX7_at n0 x1 M).bind fun z5 =>
  (fX7_at n0 (x1 + (1 : Int32)) z5.2).bind fun z13 =>
  some ((((256 : Int32) * z5.1) + z13.1), z13.2)
theorem tfX7_pairAt (n0 : Nat) (hO : OKc p (rmL 2) s m args meth c LX D cy ad cX7_pairAt RX7 2 2 (some .int)) (x1 : Int32) (M : Mem) : BL p l e (rmL 2) s m args below meth c LX D cy ad 2 (QI LX D cy ad) 0 [(0, .ref (ad 5)), (1, .int x1)] [] M (fX7_pairAt n0 x1 M) := by
  unfold fX7_pairAt
  refine b_sipush hO dX7_pairAt_0 ic_s_256 ?_
  refine b_aload_n hO dX7_pairAt_3 0 rfl rfl ?_
  refine b_iload_n hO dX7_pairAt_4 1 rfl rfl ?_
  refine b_callVI hO mdX7_at mvX7_at w1225 (ci := 7) rfl rfl (by decide) kLX_5 (As := [.int _]) (st := [.int _]) (ctX7_at n0 hO.2.2.2.2.2.2.1 _ _) (Nat.le_of_ble_eq_true rfl) rfl rfl (Nat.le_of_ble_eq_true rfl) dX7_pairAt_5 (fun z5 => ?_)
  refine b_imul hO dX7_pairAt_8 ?_
  refine b_aload_n hO dX7_pairAt_9 0 rfl rfl ?_
  refine b_iload_n hO dX7_pairAt_10 1 rfl rfl ?_
  refine b_iconst hO dX7_pairAt_11 ic_i_1 ?_
  refine b_iadd hO dX7_pairAt_12 ?_
  refine b_callVI hO mdX7_at mvX7_at w1225 (ci := 7) rfl rfl (by decide) kLX_5 (As := [.int _]) (st := [.int _]) (ctX7_at n0 hO.2.2.2.2.2.2.1 _ _) (Nat.le_of_ble_eq_true rfl) rfl rfl (Nat.le_of_ble_eq_true rfl) dX7_pairAt_13 (fun z13 => ?_)
  refine b_iadd hO dX7_pairAt_16 ?_
  exact b_iret hO dX7_pairAt_17
theorem ctX7_pairAt (n0 : Nat) (hI : Inj LX ad) (x1 : Int32) (M : Mem) : CT l LX D cy ad yX7_pairAt cX7_pairAt 2 (some .int) 2 (QI LX D cy ad) [.ref (ad 5), .int x1] M (fX7_pairAt n0 x1 M) :=
  CT.mk LXok hI (by decide) (Nat.le_of_ble_eq_true rfl) (fun hO => tfX7_pairAt n0 hO x1 M)
end
end
section
section
variable {p : Program} {l : Launch} {e : Env} {s : State} {m : MethodId} {args : Array Value} {below : List Frame} {meth : Method} {c : Code} {D : va_G} {cy : Nat → ClassId} {ad : Nat → Nat} {dd : Nat}

/-! X8_letterOf -/
def bX8_letterOf_4 (n0 : Nat) (k4 : Int32 → Int32 → Int32 → Mem → Option (Int32 × Mem)) (x1 : Int32) (x2 : Int32) (x3 : Int32) (M : Mem) : Option (Int32 × Mem) :=
  if x3 ≤ x1 then
    if (27 : Int32) = 0 then none else
    some ((rem32 x2 (27 : Int32)), M)
  else
    if (27 : Int32) = 0 then none else
    bnd (x2 / (27 : Int32)) fun x2_13 =>
    k4 x1 x2_13 (x3 + (-1 : Int32)) M
def fX8_letterOf_4 (n0 : Nat) : Int32 → Int32 → Int32 → Mem → Option (Int32 × Mem) := loopN (bX8_letterOf_4 n0) (fun _ _ _ _ => none) n0
def fX8_letterOf (n0 : Nat) (x0 : Int32) (x1 : Int32) (M : Mem) : Option (Int32 × Mem) :=
  fX8_letterOf_4 n0 x1 x0 (5 : Int32) M
theorem tbX8_letterOf_4 (n0 : Nat) (hO : OKc p (rmL 1) s m args meth c LX D cy ad cX8_letterOf RX8 4 1 (some .int)) (k4 : Int32 → Int32 → Int32 → Mem → Option (Int32 × Mem)) (hk4 : ∀ (x1 : Int32) (x2 : Int32) (x3 : Int32) (M : Mem), BL p l e (rmL 1) s m args below meth c LX D cy ad 4 (QI LX D cy ad) 4 [(1, .int x1), (2, .int x2), (3, .int x3)] [] M (k4 x1 x2 x3 M)) (x1 : Int32) (x2 : Int32) (x3 : Int32) (M : Mem) : BL p l e (rmL 1) s m args below meth c LX D cy ad 4 (QI LX D cy ad) 4 [(1, .int x1), (2, .int x2), (3, .int x3)] [] M (bX8_letterOf_4 n0 k4 x1 x2 x3 M) := by
  unfold bX8_letterOf_4
  refine b_iload_n hO dX8_letterOf_4 2 rfl rfl ?_
  refine b_iload_n hO dX8_letterOf_5 0 rfl rfl ?_
  refine b_icmp_le hO dX8_letterOf_6 (tgt := 20) (by decide) ?_ ?_
  · refine b_iload_n hO dX8_letterOf_20 1 rfl rfl ?_
    refine b_bipush hO dX8_letterOf_21 ic_b_27 ?_
    refine b_irem hO dX8_letterOf_23 ?_
    exact b_iret hO dX8_letterOf_24
  · refine b_iload_n hO dX8_letterOf_9 1 rfl rfl ?_
    refine b_bipush hO dX8_letterOf_10 ic_b_27 ?_
    refine b_idiv hO dX8_letterOf_12 ?_
    refine b_topI (fun x2_13 => ?_)
    refine b_istore_n hO dX8_letterOf_13 rfl (by decide) (lv' := [(2, .int _), (1, .int _), (3, .int _)]) rfl ?_
    refine b_iinc hO dX8_letterOf_14 2 rfl ic_i_m1 (by decide) (lv' := [(3, .int _), (2, .int _), (1, .int _)]) rfl ?_
    refine b_goto hO dX8_letterOf_17 (tgt := 4) (by decide) ?_
    refine b_sub [2, 1, 0] rfl ?_
    exact hk4 _ _ _ _
theorem lX8_letterOf_4 (n0 : Nat) (hO : OKc p (rmL 1) s m args meth c LX D cy ad cX8_letterOf RX8 4 1 (some .int)) : ∀ (w : Nat) (x1 : Int32) (x2 : Int32) (x3 : Int32) (M : Mem), BL p l e (rmL 1) s m args below meth c LX D cy ad 4 (QI LX D cy ad) 4 [(1, .int x1), (2, .int x2), (3, .int x3)] [] M (loopN (bX8_letterOf_4 n0) (fun _ _ _ _ => none) w x1 x2 x3 M) := by
  intro w
  induction w with
  | zero =>
    intros
    exact b_none
  | succ w ih =>
    intro x1 x2 x3 M
    exact tbX8_letterOf_4 n0 hO _ ih x1 x2 x3 M
theorem tfX8_letterOf_4 (n0 : Nat) (hO : OKc p (rmL 1) s m args meth c LX D cy ad cX8_letterOf RX8 4 1 (some .int)) (x1 : Int32) (x2 : Int32) (x3 : Int32) (M : Mem) : BL p l e (rmL 1) s m args below meth c LX D cy ad 4 (QI LX D cy ad) 4 [(1, .int x1), (2, .int x2), (3, .int x3)] [] M (fX8_letterOf_4 n0 x1 x2 x3 M) := lX8_letterOf_4 n0 hO n0 x1 x2 x3 M
theorem tfX8_letterOf (n0 : Nat) (hO : OKc p (rmL 1) s m args meth c LX D cy ad cX8_letterOf RX8 4 1 (some .int)) (x0 : Int32) (x1 : Int32) (M : Mem) : BL p l e (rmL 1) s m args below meth c LX D cy ad 4 (QI LX D cy ad) 0 [(0, .int x0), (1, .int x1)] [] M (fX8_letterOf n0 x0 x1 M) := by
  unfold fX8_letterOf
  refine b_iload_n hO dX8_letterOf_0 0 rfl rfl ?_
  refine b_istore_n hO dX8_letterOf_1 rfl (by decide) (lv' := [(2, .int _), (0, .int _), (1, .int _)]) rfl ?_
  refine b_iconst hO dX8_letterOf_2 ic_i_5 ?_
  refine b_istore_n hO dX8_letterOf_3 rfl (by decide) (lv' := [(3, .int _), (2, .int _), (0, .int _), (1, .int _)]) rfl ?_
  refine b_sub [3, 1, 0] rfl ?_
  exact tfX8_letterOf_4 n0 hO _ _ _ _
theorem ctX8_letterOf (n0 : Nat) (hI : Inj LX ad) (x0 : Int32) (x1 : Int32) (M : Mem) : CT l LX D cy ad yX8_letterOf cX8_letterOf 4 (some .int) 1 (QI LX D cy ad) [.int x0, .int x1] M (fX8_letterOf n0 x0 x1 M) :=
  CT.mk LXok hI (by decide) (Nat.le_of_ble_eq_true rfl) (fun hO => tfX8_letterOf n0 hO x0 x1 M)
/-! X8_fillUp -/
def bX8_fillUp_4 (n0 : Nat) (k4 : Int32 → Int32 → Mem → Option (Int32 × Mem)) (x2 : Int32) (x3 : Int32) (M : Mem) : Option (Int32 × Mem) :=
  if (6 : Int32) ≤ x3 then
    some (x2, M)
  else
    bnd (x2 * (27 : Int32)) fun x2_14 =>
    k4 x2_14 (x3 + (1 : Int32)) M
def fX8_fillUp_4 (n0 : Nat) : Int32 → Int32 → Mem → Option (Int32 × Mem) := loopN (bX8_fillUp_4 n0) (fun _ _ _ => none) n0
def fX8_fillUp (n0 : Nat) (x0 : Int32) (x1 : Int32) (M : Mem) : Option (Int32 × Mem) :=
  fX8_fillUp_4 n0 x0 x1 M
theorem tbX8_fillUp_4 (n0 : Nat) (hO : OKc p (rmL 1) s m args meth c LX D cy ad cX8_fillUp RX8 4 1 (some .int)) (k4 : Int32 → Int32 → Mem → Option (Int32 × Mem)) (hk4 : ∀ (x2 : Int32) (x3 : Int32) (M : Mem), BL p l e (rmL 1) s m args below meth c LX D cy ad 4 (QI LX D cy ad) 4 [(2, .int x2), (3, .int x3)] [] M (k4 x2 x3 M)) (x2 : Int32) (x3 : Int32) (M : Mem) : BL p l e (rmL 1) s m args below meth c LX D cy ad 4 (QI LX D cy ad) 4 [(2, .int x2), (3, .int x3)] [] M (bX8_fillUp_4 n0 k4 x2 x3 M) := by
  unfold bX8_fillUp_4
  refine b_iload_n hO dX8_fillUp_4 1 rfl rfl ?_
  refine b_bipush hO dX8_fillUp_5 ic_b_6 ?_
  refine b_icmp_ge hO dX8_fillUp_7 (tgt := 21) (by decide) ?_ ?_
  · refine b_iload_n hO dX8_fillUp_21 0 rfl rfl ?_
    exact b_iret hO dX8_fillUp_22
  · refine b_iload_n hO dX8_fillUp_10 0 rfl rfl ?_
    refine b_bipush hO dX8_fillUp_11 ic_b_27 ?_
    refine b_imul hO dX8_fillUp_13 ?_
    refine b_topI (fun x2_14 => ?_)
    refine b_istore_n hO dX8_fillUp_14 rfl (by decide) (lv' := [(2, .int _), (3, .int _)]) rfl ?_
    refine b_iinc hO dX8_fillUp_15 1 rfl ic_i_1 (by decide) (lv' := [(3, .int _), (2, .int _)]) rfl ?_
    refine b_goto hO dX8_fillUp_18 (tgt := 4) (by decide) ?_
    refine b_sub [1, 0] rfl ?_
    exact hk4 _ _ _
theorem lX8_fillUp_4 (n0 : Nat) (hO : OKc p (rmL 1) s m args meth c LX D cy ad cX8_fillUp RX8 4 1 (some .int)) : ∀ (w : Nat) (x2 : Int32) (x3 : Int32) (M : Mem), BL p l e (rmL 1) s m args below meth c LX D cy ad 4 (QI LX D cy ad) 4 [(2, .int x2), (3, .int x3)] [] M (loopN (bX8_fillUp_4 n0) (fun _ _ _ => none) w x2 x3 M) := by
  intro w
  induction w with
  | zero =>
    intros
    exact b_none
  | succ w ih =>
    intro x2 x3 M
    exact tbX8_fillUp_4 n0 hO _ ih x2 x3 M
theorem tfX8_fillUp_4 (n0 : Nat) (hO : OKc p (rmL 1) s m args meth c LX D cy ad cX8_fillUp RX8 4 1 (some .int)) (x2 : Int32) (x3 : Int32) (M : Mem) : BL p l e (rmL 1) s m args below meth c LX D cy ad 4 (QI LX D cy ad) 4 [(2, .int x2), (3, .int x3)] [] M (fX8_fillUp_4 n0 x2 x3 M) := lX8_fillUp_4 n0 hO n0 x2 x3 M
theorem tfX8_fillUp (n0 : Nat) (hO : OKc p (rmL 1) s m args meth c LX D cy ad cX8_fillUp RX8 4 1 (some .int)) (x0 : Int32) (x1 : Int32) (M : Mem) : BL p l e (rmL 1) s m args below meth c LX D cy ad 4 (QI LX D cy ad) 0 [(0, .int x0), (1, .int x1)] [] M (fX8_fillUp n0 x0 x1 M) := by
  unfold fX8_fillUp
  refine b_iload_n hO dX8_fillUp_0 0 rfl rfl ?_
  refine b_istore_n hO dX8_fillUp_1 rfl (by decide) (lv' := [(2, .int _), (0, .int _), (1, .int _)]) rfl ?_
  refine b_iload_n hO dX8_fillUp_2 2 rfl rfl ?_
  refine b_istore_n hO dX8_fillUp_3 rfl (by decide) (lv' := [(3, .int _), (2, .int _), (0, .int _), (1, .int _)]) rfl ?_
  refine b_sub [1, 0] rfl ?_
  exact tfX8_fillUp_4 n0 hO _ _ _
theorem ctX8_fillUp (n0 : Nat) (hI : Inj LX ad) (x0 : Int32) (x1 : Int32) (M : Mem) : CT l LX D cy ad yX8_fillUp cX8_fillUp 4 (some .int) 1 (QI LX D cy ad) [.int x0, .int x1] M (fX8_fillUp n0 x0 x1 M) :=
  CT.mk LXok hI (by decide) (Nat.le_of_ble_eq_true rfl) (fun hO => tfX8_fillUp n0 hO x0 x1 M)
/-! X8_isWordOrNumber -/
def fX8_isWordOrNumber (n0 : Nat) (M : Mem) : Option (Int32 × Mem) :=
  if (gI M 386) < (256 : Int32) then
    some ((0 : Int32), M)
  else
    if (gI M 386) = (259 : Int32) then
      some ((0 : Int32), M)
    else
      some ((1 : Int32), M)
theorem tfX8_isWordOrNumber (n0 : Nat) (hO : OKc p (rmL 1) s m args meth c LX D cy ad cX8_isWordOrNumber RX8 1 1 (some .boolean)) (M : Mem) : BL p l e (rmL 1) s m args below meth c LX D cy ad 1 (QI LX D cy ad) 0 [(0, .ref (ad 3))] [] M (fX8_isWordOrNumber n0 M) := by
  unfold fX8_isWordOrNumber
  refine b_aload_n hO dX8_isWordOrNumber_0 0 rfl rfl ?_
  refine b_get hO flX8_15 kLX_3 (v := .int (gI _ 386)) rfl dX8_isWordOrNumber_1 ?_
  refine b_sipush hO dX8_isWordOrNumber_4 ic_s_256 ?_
  refine b_icmp_lt hO dX8_isWordOrNumber_7 (tgt := 24) (by decide) ?_ ?_
  · refine b_iconst hO dX8_isWordOrNumber_24 ic_i_0 ?_
    exact b_zretc hO (Or.inl rfl) dX8_isWordOrNumber_25
  · refine b_aload_n hO dX8_isWordOrNumber_10 0 rfl rfl ?_
    refine b_get hO flX8_15 kLX_3 (v := .int (gI _ 386)) rfl dX8_isWordOrNumber_11 ?_
    refine b_sipush hO dX8_isWordOrNumber_14 ic_s_259 ?_
    refine b_icmp_eq hO dX8_isWordOrNumber_17 (tgt := 24) (by decide) ?_ ?_
    · refine b_iconst hO dX8_isWordOrNumber_24 ic_i_0 ?_
      exact b_zretc hO (Or.inl rfl) dX8_isWordOrNumber_25
    · refine b_iconst hO dX8_isWordOrNumber_20 ic_i_1 ?_
      refine b_goto hO dX8_isWordOrNumber_21 (tgt := 25) (by decide) ?_
      exact b_zretc hO (Or.inr rfl) dX8_isWordOrNumber_25
theorem ctX8_isWordOrNumber (n0 : Nat) (hI : Inj LX ad) (M : Mem) : CT l LX D cy ad yX8_isWordOrNumber cX8_isWordOrNumber 1 (some .boolean) 1 (QI LX D cy ad) [.ref (ad 3)] M (fX8_isWordOrNumber n0 M) :=
  CT.mk LXok hI (by decide) (Nat.le_of_ble_eq_true rfl) (fun hO => tfX8_isWordOrNumber n0 hO M)
/-! X8_skipBlanks -/
def fX8_skipBlanks_42 (n0 : Nat) (k5 : Int32 → Mem → Option (Mem)) (x1 : Int32) (M : Mem) : Option (Mem) :=
  bnd (sI M 390 (x1 + (1 : Int32))) fun M46 =>
  k5 (x1 + (1 : Int32)) M46
def bX8_skipBlanks_5 (n0 : Nat) (k5 : Int32 → Mem → Option (Mem)) (x1 : Int32) (M : Mem) : Option (Mem) :=
  if (gI M 641) ≤ x1 then
    some M
  else
    (fX7_at n0 x1 M).bind fun z21 =>
    if z21.1 = (32 : Int32) then
      fX8_skipBlanks_42 n0 k5 x1 z21.2
    else
      (fX7_at n0 x1 z21.2).bind fun z34 =>
      if z34.1 = (10 : Int32) then
        fX8_skipBlanks_42 n0 k5 x1 z34.2
      else
        some z34.2
def fX8_skipBlanks_5 (n0 : Nat) : Int32 → Mem → Option (Mem) := loopN (bX8_skipBlanks_5 n0) (fun _ _ => none) n0
def fX8_skipBlanks (n0 : Nat) (M : Mem) : Option (Mem) :=
  bnd (gI M 390) fun x1_4 =>
  fX8_skipBlanks_5 n0 x1_4 M
theorem tfX8_skipBlanks_42 (n0 : Nat) (hO : OKc p (rmL 2) s m args meth c LX D cy ad cX8_skipBlanks RX8 2 2 none) (k5 : Int32 → Mem → Option (Mem)) (hk5 : ∀ (x1 : Int32) (M : Mem), BL p l e (rmL 2) s m args below meth c LX D cy ad 2 (QV LX D cy ad) 5 [(0, .ref (ad 3)), (1, .int x1)] [] M (k5 x1 M)) (x1 : Int32) (M : Mem) : BL p l e (rmL 2) s m args below meth c LX D cy ad 2 (QV LX D cy ad) 42 [(0, .ref (ad 3)), (1, .int x1)] [] M (fX8_skipBlanks_42 n0 k5 x1 M) := by
  unfold fX8_skipBlanks_42
  refine b_aload_n hO dX8_skipBlanks_42 0 rfl rfl ?_
  refine b_iload_n hO dX8_skipBlanks_43 1 rfl rfl ?_
  refine b_iconst hO dX8_skipBlanks_44 ic_i_1 ?_
  refine b_iadd hO dX8_skipBlanks_45 ?_
  refine b_putI hO flX8_28 kLX_3 rfl rfl rfl (id := 390) rfl dX8_skipBlanks_46 ?_
  refine b_bnd (fun M46 => ?_)
  refine b_iinc hO dX8_skipBlanks_49 1 rfl ic_i_1 (by decide) (lv' := [(1, .int _), (0, .ref _)]) rfl ?_
  refine b_goto hO dX8_skipBlanks_52 (tgt := 5) (by decide) ?_
  refine b_sub [1, 0] rfl ?_
  exact hk5 _ _
theorem tbX8_skipBlanks_5 (n0 : Nat) (hO : OKc p (rmL 2) s m args meth c LX D cy ad cX8_skipBlanks RX8 2 2 none) (k5 : Int32 → Mem → Option (Mem)) (hk5 : ∀ (x1 : Int32) (M : Mem), BL p l e (rmL 2) s m args below meth c LX D cy ad 2 (QV LX D cy ad) 5 [(0, .ref (ad 3)), (1, .int x1)] [] M (k5 x1 M)) (x1 : Int32) (M : Mem) : BL p l e (rmL 2) s m args below meth c LX D cy ad 2 (QV LX D cy ad) 5 [(0, .ref (ad 3)), (1, .int x1)] [] M (bX8_skipBlanks_5 n0 k5 x1 M) := by
  unfold bX8_skipBlanks_5
  refine b_iload_n hO dX8_skipBlanks_5 1 rfl rfl ?_
  refine b_aload_n hO dX8_skipBlanks_6 0 rfl rfl ?_
  refine b_get hO flX8_37 kLX_3 (v := .ref (ad 5)) rfl dX8_skipBlanks_7 ?_
  refine b_get hO flX8_93 kLX_5 (v := .int (gI _ 641)) rfl dX8_skipBlanks_10 ?_
  refine b_icmp_ge hO dX8_skipBlanks_13 (tgt := 55) (by decide) ?_ ?_
  · exact b_vret hO dX8_skipBlanks_55
  · refine b_aload_n hO dX8_skipBlanks_16 0 rfl rfl ?_
    refine b_get hO flX8_37 kLX_3 (v := .ref (ad 5)) rfl dX8_skipBlanks_17 ?_
    refine b_iload_n hO dX8_skipBlanks_20 1 rfl rfl ?_
    refine b_callVI hO mdX7_at mvX7_at w711 (ci := 7) rfl rfl (by decide) kLX_5 (As := [.int _]) (st := []) (ctX7_at n0 hO.2.2.2.2.2.2.1 _ _) (Nat.le_of_ble_eq_true rfl) rfl rfl (Nat.le_of_ble_eq_true rfl) dX8_skipBlanks_21 (fun z21 => ?_)
    refine b_bipush hO dX8_skipBlanks_24 ic_b_32 ?_
    refine b_icmp_eq hO dX8_skipBlanks_26 (tgt := 42) (by decide) ?_ ?_
    · exact tfX8_skipBlanks_42 n0 hO k5 hk5 _ _
    · refine b_aload_n hO dX8_skipBlanks_29 0 rfl rfl ?_
      refine b_get hO flX8_37 kLX_3 (v := .ref (ad 5)) rfl dX8_skipBlanks_30 ?_
      refine b_iload_n hO dX8_skipBlanks_33 1 rfl rfl ?_
      refine b_callVI hO mdX7_at mvX7_at w711 (ci := 7) rfl rfl (by decide) kLX_5 (As := [.int _]) (st := []) (ctX7_at n0 hO.2.2.2.2.2.2.1 _ _) (Nat.le_of_ble_eq_true rfl) rfl rfl (Nat.le_of_ble_eq_true rfl) dX8_skipBlanks_34 (fun z34 => ?_)
      refine b_bipush hO dX8_skipBlanks_37 ic_b_10 ?_
      refine b_icmp_ne hO dX8_skipBlanks_39 (tgt := 55) (by decide) ?_ ?_
      · exact b_vret hO dX8_skipBlanks_55
      · exact tfX8_skipBlanks_42 n0 hO k5 hk5 _ _
theorem lX8_skipBlanks_5 (n0 : Nat) (hO : OKc p (rmL 2) s m args meth c LX D cy ad cX8_skipBlanks RX8 2 2 none) : ∀ (w : Nat) (x1 : Int32) (M : Mem), BL p l e (rmL 2) s m args below meth c LX D cy ad 2 (QV LX D cy ad) 5 [(0, .ref (ad 3)), (1, .int x1)] [] M (loopN (bX8_skipBlanks_5 n0) (fun _ _ => none) w x1 M) := by
  intro w
  induction w with
  | zero =>
    intros
    exact b_none
  | succ w ih =>
    intro x1 M
    exact tbX8_skipBlanks_5 n0 hO _ ih x1 M
theorem tfX8_skipBlanks_5 (n0 : Nat) (hO : OKc p (rmL 2) s m args meth c LX D cy ad cX8_skipBlanks RX8 2 2 none) (x1 : Int32) (M : Mem) : BL p l e (rmL 2) s m args below meth c LX D cy ad 2 (QV LX D cy ad) 5 [(0, .ref (ad 3)), (1, .int x1)] [] M (fX8_skipBlanks_5 n0 x1 M) := lX8_skipBlanks_5 n0 hO n0 x1 M
theorem tfX8_skipBlanks (n0 : Nat) (hO : OKc p (rmL 2) s m args meth c LX D cy ad cX8_skipBlanks RX8 2 2 none) (M : Mem) : BL p l e (rmL 2) s m args below meth c LX D cy ad 2 (QV LX D cy ad) 0 [(0, .ref (ad 3))] [] M (fX8_skipBlanks n0 M) := by
  unfold fX8_skipBlanks
  refine b_aload_n hO dX8_skipBlanks_0 0 rfl rfl ?_
  refine b_get hO flX8_28 kLX_3 (v := .int (gI _ 390)) rfl dX8_skipBlanks_1 ?_
  refine b_topI (fun x1_4 => ?_)
  refine b_istore_n hO dX8_skipBlanks_4 rfl (by decide) (lv' := [(1, .int _), (0, .ref _)]) rfl ?_
  refine b_sub [1, 0] rfl ?_
  exact tfX8_skipBlanks_5 n0 hO _ _
theorem ctX8_skipBlanks (n0 : Nat) (hI : Inj LX ad) (M : Mem) : CT l LX D cy ad yX8_skipBlanks cX8_skipBlanks 2 none 2 (QV LX D cy ad) [.ref (ad 3)] M (fX8_skipBlanks n0 M) :=
  CT.mk LXok hI (by decide) (Nat.le_of_ble_eq_true rfl) (fun hO => tfX8_skipBlanks n0 hO M)
/-! X8_isLetter -/
def fX8_isLetter (n0 : Nat) (x0 : Int32) (M : Mem) : Option (Int32 × Mem) :=
  if x0 < (97 : Int32) then
    some ((0 : Int32), M)
  else
    if (122 : Int32) < x0 then
      some ((0 : Int32), M)
    else
      some ((1 : Int32), M)
theorem tfX8_isLetter (n0 : Nat) (hO : OKc p (rmL 1) s m args meth c LX D cy ad cX8_isLetter RX8 1 1 (some .boolean)) (x0 : Int32) (M : Mem) : BL p l e (rmL 1) s m args below meth c LX D cy ad 1 (QI LX D cy ad) 0 [(0, .int x0)] [] M (fX8_isLetter n0 x0 M) := by
  unfold fX8_isLetter
  refine b_iload_n hO dX8_isLetter_0 0 rfl rfl ?_
  refine b_bipush hO dX8_isLetter_1 ic_b_97 ?_
  refine b_icmp_lt hO dX8_isLetter_3 (tgt := 16) (by decide) ?_ ?_
  · refine b_iconst hO dX8_isLetter_16 ic_i_0 ?_
    exact b_zretc hO (Or.inl rfl) dX8_isLetter_17
  · refine b_iload_n hO dX8_isLetter_6 0 rfl rfl ?_
    refine b_bipush hO dX8_isLetter_7 ic_b_122 ?_
    refine b_icmp_gt hO dX8_isLetter_9 (tgt := 16) (by decide) ?_ ?_
    · refine b_iconst hO dX8_isLetter_16 ic_i_0 ?_
      exact b_zretc hO (Or.inl rfl) dX8_isLetter_17
    · refine b_iconst hO dX8_isLetter_12 ic_i_1 ?_
      refine b_goto hO dX8_isLetter_13 (tgt := 17) (by decide) ?_
      exact b_zretc hO (Or.inr rfl) dX8_isLetter_17
theorem ctX8_isLetter (n0 : Nat) (hI : Inj LX ad) (x0 : Int32) (M : Mem) : CT l LX D cy ad yX8_isLetter cX8_isLetter 1 (some .boolean) 1 (QI LX D cy ad) [.int x0] M (fX8_isLetter n0 x0 M) :=
  CT.mk LXok hI (by decide) (Nat.le_of_ble_eq_true rfl) (fun hO => tfX8_isLetter n0 hO x0 M)
/-! X8_kindOf -/
def bX8_kindOf_2 (n0 : Nat) (k2 : Int32 → Int32 → Mem → Option (Int32 × Mem)) (x1 : Int32) (x2 : Int32) (M : Mem) : Option (Int32 × Mem) :=
  if (25 : Int32) ≤ x2 then
    some ((257 : Int32), M)
  else
    if oob x2 25 then none else
    if (gA M 4 (Int32.toNatClampNeg x2)) = x1 then
      some (((260 : Int32) + x2), M)
    else
      k2 x1 (x2 + (1 : Int32)) M
def fX8_kindOf_2 (n0 : Nat) : Int32 → Int32 → Mem → Option (Int32 × Mem) := loopN (bX8_kindOf_2 n0) (fun _ _ _ => none) n0
def fX8_kindOf (n0 : Nat) (x1 : Int32) (M : Mem) : Option (Int32 × Mem) :=
  fX8_kindOf_2 n0 x1 (0 : Int32) M
theorem tbX8_kindOf_2 (n0 : Nat) (hO : OKc p (rmL 1) s m args meth c LX D cy ad cX8_kindOf RX8 3 1 (some .int)) (k2 : Int32 → Int32 → Mem → Option (Int32 × Mem)) (hk2 : ∀ (x1 : Int32) (x2 : Int32) (M : Mem), BL p l e (rmL 1) s m args below meth c LX D cy ad 3 (QI LX D cy ad) 2 [(0, .ref (ad 3)), (1, .int x1), (2, .int x2)] [] M (k2 x1 x2 M)) (x1 : Int32) (x2 : Int32) (M : Mem) : BL p l e (rmL 1) s m args below meth c LX D cy ad 3 (QI LX D cy ad) 2 [(0, .ref (ad 3)), (1, .int x1), (2, .int x2)] [] M (bX8_kindOf_2 n0 k2 x1 x2 M) := by
  unfold bX8_kindOf_2
  refine b_iload_n hO dX8_kindOf_2 2 rfl rfl ?_
  refine b_bipush hO dX8_kindOf_3 ic_b_25 ?_
  refine b_icmp_ge hO dX8_kindOf_5 (tgt := 30) (by decide) ?_ ?_
  · refine b_sipush hO dX8_kindOf_30 ic_s_257 ?_
    exact b_iret hO dX8_kindOf_33
  · refine b_aload_n hO dX8_kindOf_8 0 rfl rfl ?_
    refine b_get hO flX8_11 kLX_3 (v := .ref (ad 4)) rfl dX8_kindOf_9 ?_
    refine b_iload_n hO dX8_kindOf_12 2 rfl rfl ?_
    refine b_iald hO kLX_4 (n := 25) rfl dX8_kindOf_13 ?_
    refine b_iload_n hO dX8_kindOf_14 1 rfl rfl ?_
    refine b_icmp_ne hO dX8_kindOf_15 (tgt := 24) (by decide) ?_ ?_
    · refine b_iinc hO dX8_kindOf_24 2 rfl ic_i_1 (by decide) (lv' := [(2, .int _), (0, .ref _), (1, .int _)]) rfl ?_
      refine b_goto hO dX8_kindOf_27 (tgt := 2) (by decide) ?_
      refine b_sub [1, 2, 0] rfl ?_
      exact hk2 _ _ _
    · refine b_sipush hO dX8_kindOf_18 ic_s_260 ?_
      refine b_iload_n hO dX8_kindOf_21 2 rfl rfl ?_
      refine b_iadd hO dX8_kindOf_22 ?_
      exact b_iret hO dX8_kindOf_23
theorem lX8_kindOf_2 (n0 : Nat) (hO : OKc p (rmL 1) s m args meth c LX D cy ad cX8_kindOf RX8 3 1 (some .int)) : ∀ (w : Nat) (x1 : Int32) (x2 : Int32) (M : Mem), BL p l e (rmL 1) s m args below meth c LX D cy ad 3 (QI LX D cy ad) 2 [(0, .ref (ad 3)), (1, .int x1), (2, .int x2)] [] M (loopN (bX8_kindOf_2 n0) (fun _ _ _ => none) w x1 x2 M) := by
  intro w
  induction w with
  | zero =>
    intros
    exact b_none
  | succ w ih =>
    intro x1 x2 M
    exact tbX8_kindOf_2 n0 hO _ ih x1 x2 M
theorem tfX8_kindOf_2 (n0 : Nat) (hO : OKc p (rmL 1) s m args meth c LX D cy ad cX8_kindOf RX8 3 1 (some .int)) (x1 : Int32) (x2 : Int32) (M : Mem) : BL p l e (rmL 1) s m args below meth c LX D cy ad 3 (QI LX D cy ad) 2 [(0, .ref (ad 3)), (1, .int x1), (2, .int x2)] [] M (fX8_kindOf_2 n0 x1 x2 M) := lX8_kindOf_2 n0 hO n0 x1 x2 M
theorem tfX8_kindOf (n0 : Nat) (hO : OKc p (rmL 1) s m args meth c LX D cy ad cX8_kindOf RX8 3 1 (some .int)) (x1 : Int32) (M : Mem) : BL p l e (rmL 1) s m args below meth c LX D cy ad 3 (QI LX D cy ad) 0 [(0, .ref (ad 3)), (1, .int x1)] [] M (fX8_kindOf n0 x1 M) := by
  unfold fX8_kindOf
  refine b_iconst hO dX8_kindOf_0 ic_i_0 ?_
  refine b_istore_n hO dX8_kindOf_1 rfl (by decide) (lv' := [(2, .int _), (0, .ref _), (1, .int _)]) rfl ?_
  refine b_sub [1, 2, 0] rfl ?_
  exact tfX8_kindOf_2 n0 hO _ _ _
theorem ctX8_kindOf (n0 : Nat) (hI : Inj LX ad) (x1 : Int32) (M : Mem) : CT l LX D cy ad yX8_kindOf cX8_kindOf 3 (some .int) 1 (QI LX D cy ad) [.ref (ad 3), .int x1] M (fX8_kindOf n0 x1 M) :=
  CT.mk LXok hI (by decide) (Nat.le_of_ble_eq_true rfl) (fun hO => tfX8_kindOf n0 hO x1 M)
/-! X8_readWord -/
def fX8_readWord_62 (n0 : Nat) (k7 : Int32 → Int32 → Mem → Option (Mem)) (x1 : Int32) (x2 : Int32) (M : Mem) : Option (Mem) :=
  bnd (sI M 390 (x2 + (1 : Int32))) fun M66 =>
  k7 x1 (x2 + (1 : Int32)) M66
def fX8_readWord_75 (n0 : Nat) (x1 : Int32) (M : Mem) : Option (Mem) :=
  if ((gI M 390) - (gI M 387)) ≤ (6 : Int32) then
    (fX8_fillUp n0 x1 ((gI M 390) - (gI M 387)) M).bind fun z119 =>
    bnd (sI z119.2 389 z119.1) fun M122 =>
    (fX8_kindOf n0 (gI M122 389) M122).bind fun z131 =>
    some (sI z131.2 386 z131.1)
  else
    bnd (sI M 386 (258 : Int32)) fun M93 =>
    some (sI M93 388 ((gI M93 387) + (6 : Int32)))
def bX8_readWord_7 (n0 : Nat) (k7 : Int32 → Int32 → Mem → Option (Mem)) (x1 : Int32) (x2 : Int32) (M : Mem) : Option (Mem) :=
  if (gI M 641) ≤ x2 then
    fX8_readWord_75 n0 x1 M
  else
    (fX7_at n0 x2 M).bind fun z23 =>
    (fX8_isLetter n0 z23.1 z23.2).bind fun z26 =>
    if z26.1 = 0 then
      fX8_readWord_75 n0 x1 z26.2
    else
      if (6 : Int32) ≤ (x2 - (gI z26.2 387)) then
        fX8_readWord_62 n0 k7 x1 x2 z26.2
      else
        (fX7_at n0 x2 z26.2).bind fun z52 =>
        bnd (((((27 : Int32) * x1) + z52.1) - (97 : Int32)) + (1 : Int32)) fun x1_61 =>
        fX8_readWord_62 n0 k7 x1_61 x2 z52.2
def fX8_readWord_7 (n0 : Nat) : Int32 → Int32 → Mem → Option (Mem) := loopN (bX8_readWord_7 n0) (fun _ _ _ => none) n0
def fX8_readWord (n0 : Nat) (M : Mem) : Option (Mem) :=
  bnd (gI M 387) fun x2_6 =>
  fX8_readWord_7 n0 (0 : Int32) x2_6 M
theorem tfX8_readWord_62 (n0 : Nat) (hO : OKc p (rmL 2) s m args meth c LX D cy ad cX8_readWord RX8 3 2 none) (k7 : Int32 → Int32 → Mem → Option (Mem)) (hk7 : ∀ (x1 : Int32) (x2 : Int32) (M : Mem), BL p l e (rmL 2) s m args below meth c LX D cy ad 3 (QV LX D cy ad) 7 [(0, .ref (ad 3)), (1, .int x1), (2, .int x2)] [] M (k7 x1 x2 M)) (x1 : Int32) (x2 : Int32) (M : Mem) : BL p l e (rmL 2) s m args below meth c LX D cy ad 3 (QV LX D cy ad) 62 [(0, .ref (ad 3)), (1, .int x1), (2, .int x2)] [] M (fX8_readWord_62 n0 k7 x1 x2 M) := by
  unfold fX8_readWord_62
  refine b_aload_n hO dX8_readWord_62 0 rfl rfl ?_
  refine b_iload_n hO dX8_readWord_63 2 rfl rfl ?_
  refine b_iconst hO dX8_readWord_64 ic_i_1 ?_
  refine b_iadd hO dX8_readWord_65 ?_
  refine b_putI hO flX8_28 kLX_3 rfl rfl rfl (id := 390) rfl dX8_readWord_66 ?_
  refine b_bnd (fun M66 => ?_)
  refine b_iinc hO dX8_readWord_69 2 rfl ic_i_1 (by decide) (lv' := [(2, .int _), (0, .ref _), (1, .int _)]) rfl ?_
  refine b_goto hO dX8_readWord_72 (tgt := 7) (by decide) ?_
  refine b_sub [1, 2, 0] rfl ?_
  exact hk7 _ _ _
theorem tfX8_readWord_75 (n0 : Nat) (hO : OKc p (rmL 2) s m args meth c LX D cy ad cX8_readWord RX8 3 2 none) (x1 : Int32) (M : Mem) : BL p l e (rmL 2) s m args below meth c LX D cy ad 3 (QV LX D cy ad) 75 [(0, .ref (ad 3)), (1, .int x1)] [] M (fX8_readWord_75 n0 x1 M) := by
  unfold fX8_readWord_75
  refine b_aload_n hO dX8_readWord_75 0 rfl rfl ?_
  refine b_get hO flX8_28 kLX_3 (v := .int (gI _ 390)) rfl dX8_readWord_76 ?_
  refine b_aload_n hO dX8_readWord_79 0 rfl rfl ?_
  refine b_get hO flX8_19 kLX_3 (v := .int (gI _ 387)) rfl dX8_readWord_80 ?_
  refine b_isub hO dX8_readWord_83 ?_
  refine b_bipush hO dX8_readWord_84 ic_b_6 ?_
  refine b_icmp_le hO dX8_readWord_86 (tgt := 108) (by decide) ?_ ?_
  · refine b_aload_n hO dX8_readWord_108 0 rfl rfl ?_
    refine b_iload_n hO dX8_readWord_109 1 rfl rfl ?_
    refine b_aload_n hO dX8_readWord_110 0 rfl rfl ?_
    refine b_get hO flX8_28 kLX_3 (v := .int (gI _ 390)) rfl dX8_readWord_111 ?_
    refine b_aload_n hO dX8_readWord_114 0 rfl rfl ?_
    refine b_get hO flX8_19 kLX_3 (v := .int (gI _ 387)) rfl dX8_readWord_115 ?_
    refine b_isub hO dX8_readWord_118 ?_
    refine b_callSI hO mdX8_fillUp w344 w343 (As := [.int _, .int _]) (st := [.ref _]) (ctX8_fillUp n0 hO.2.2.2.2.2.2.1 _ _ _) (Nat.le_of_ble_eq_true rfl) rfl rfl (Nat.le_of_ble_eq_true rfl) dX8_readWord_119 (fun z119 => ?_)
    refine b_putI hO flX8_25 kLX_3 rfl rfl rfl (id := 389) rfl dX8_readWord_122 ?_
    refine b_bnd (fun M122 => ?_)
    refine b_aload_n hO dX8_readWord_125 0 rfl rfl ?_
    refine b_aload_n hO dX8_readWord_126 0 rfl rfl ?_
    refine b_aload_n hO dX8_readWord_127 0 rfl rfl ?_
    refine b_get hO flX8_25 kLX_3 (v := .int (gI _ 389)) rfl dX8_readWord_128 ?_
    refine b_callVI hO mdX8_kindOf mvX8_kindOf w722 (ci := 8) rfl rfl (by decide) kLX_3 (As := [.int _]) (st := [.ref _]) (ctX8_kindOf n0 hO.2.2.2.2.2.2.1 _ _) (Nat.le_of_ble_eq_true rfl) rfl rfl (Nat.le_of_ble_eq_true rfl) dX8_readWord_131 (fun z131 => ?_)
    refine b_putI hO flX8_15 kLX_3 rfl rfl rfl (id := 386) rfl dX8_readWord_134 ?_
    exact b_vret hO dX8_readWord_137
  · refine b_aload_n hO dX8_readWord_89 0 rfl rfl ?_
    refine b_sipush hO dX8_readWord_90 ic_s_258 ?_
    refine b_putI hO flX8_15 kLX_3 rfl rfl rfl (id := 386) rfl dX8_readWord_93 ?_
    refine b_bnd (fun M93 => ?_)
    refine b_aload_n hO dX8_readWord_96 0 rfl rfl ?_
    refine b_aload_n hO dX8_readWord_97 0 rfl rfl ?_
    refine b_get hO flX8_19 kLX_3 (v := .int (gI _ 387)) rfl dX8_readWord_98 ?_
    refine b_bipush hO dX8_readWord_101 ic_b_6 ?_
    refine b_iadd hO dX8_readWord_103 ?_
    refine b_putI hO flX8_22 kLX_3 rfl rfl rfl (id := 388) rfl dX8_readWord_104 ?_
    exact b_vret hO dX8_readWord_107
theorem tbX8_readWord_7 (n0 : Nat) (hO : OKc p (rmL 2) s m args meth c LX D cy ad cX8_readWord RX8 3 2 none) (k7 : Int32 → Int32 → Mem → Option (Mem)) (hk7 : ∀ (x1 : Int32) (x2 : Int32) (M : Mem), BL p l e (rmL 2) s m args below meth c LX D cy ad 3 (QV LX D cy ad) 7 [(0, .ref (ad 3)), (1, .int x1), (2, .int x2)] [] M (k7 x1 x2 M)) (x1 : Int32) (x2 : Int32) (M : Mem) : BL p l e (rmL 2) s m args below meth c LX D cy ad 3 (QV LX D cy ad) 7 [(0, .ref (ad 3)), (1, .int x1), (2, .int x2)] [] M (bX8_readWord_7 n0 k7 x1 x2 M) := by
  unfold bX8_readWord_7
  refine b_iload_n hO dX8_readWord_7 2 rfl rfl ?_
  refine b_aload_n hO dX8_readWord_8 0 rfl rfl ?_
  refine b_get hO flX8_37 kLX_3 (v := .ref (ad 5)) rfl dX8_readWord_9 ?_
  refine b_get hO flX8_93 kLX_5 (v := .int (gI _ 641)) rfl dX8_readWord_12 ?_
  refine b_icmp_ge hO dX8_readWord_15 (tgt := 75) (by decide) ?_ ?_
  · refine b_sub [0, 1] rfl ?_
    exact tfX8_readWord_75 n0 hO _ _
  · refine b_aload_n hO dX8_readWord_18 0 rfl rfl ?_
    refine b_get hO flX8_37 kLX_3 (v := .ref (ad 5)) rfl dX8_readWord_19 ?_
    refine b_iload_n hO dX8_readWord_22 2 rfl rfl ?_
    refine b_callVI hO mdX7_at mvX7_at w711 (ci := 7) rfl rfl (by decide) kLX_5 (As := [.int _]) (st := []) (ctX7_at n0 hO.2.2.2.2.2.2.1 _ _) (Nat.le_of_ble_eq_true rfl) rfl rfl (Nat.le_of_ble_eq_true rfl) dX8_readWord_23 (fun z23 => ?_)
    refine b_callSI hO mdX8_isLetter w716 w715 (As := [.int _]) (st := []) (ctX8_isLetter n0 hO.2.2.2.2.2.2.1 _ _) (Nat.le_of_ble_eq_true rfl) rfl rfl (Nat.le_of_ble_eq_true rfl) dX8_readWord_26 (fun z26 => ?_)
    refine b_if_eq hO dX8_readWord_29 (tgt := 75) (by decide) ?_ ?_
    · refine b_sub [0, 1] rfl ?_
      exact tfX8_readWord_75 n0 hO _ _
    · refine b_iload_n hO dX8_readWord_32 2 rfl rfl ?_
      refine b_aload_n hO dX8_readWord_33 0 rfl rfl ?_
      refine b_get hO flX8_19 kLX_3 (v := .int (gI _ 387)) rfl dX8_readWord_34 ?_
      refine b_isub hO dX8_readWord_37 ?_
      refine b_bipush hO dX8_readWord_38 ic_b_6 ?_
      refine b_icmp_ge hO dX8_readWord_40 (tgt := 62) (by decide) ?_ ?_
      · exact tfX8_readWord_62 n0 hO k7 hk7 _ _ _
      · refine b_bipush hO dX8_readWord_43 ic_b_27 ?_
        refine b_iload_n hO dX8_readWord_45 1 rfl rfl ?_
        refine b_imul hO dX8_readWord_46 ?_
        refine b_aload_n hO dX8_readWord_47 0 rfl rfl ?_
        refine b_get hO flX8_37 kLX_3 (v := .ref (ad 5)) rfl dX8_readWord_48 ?_
        refine b_iload_n hO dX8_readWord_51 2 rfl rfl ?_
        refine b_callVI hO mdX7_at mvX7_at w711 (ci := 7) rfl rfl (by decide) kLX_5 (As := [.int _]) (st := [.int _]) (ctX7_at n0 hO.2.2.2.2.2.2.1 _ _) (Nat.le_of_ble_eq_true rfl) rfl rfl (Nat.le_of_ble_eq_true rfl) dX8_readWord_52 (fun z52 => ?_)
        refine b_iadd hO dX8_readWord_55 ?_
        refine b_bipush hO dX8_readWord_56 ic_b_97 ?_
        refine b_isub hO dX8_readWord_58 ?_
        refine b_iconst hO dX8_readWord_59 ic_i_1 ?_
        refine b_iadd hO dX8_readWord_60 ?_
        refine b_topI (fun x1_61 => ?_)
        refine b_istore_n hO dX8_readWord_61 rfl (by decide) (lv' := [(1, .int _), (0, .ref _), (2, .int _)]) rfl ?_
        refine b_sub [1, 0, 2] rfl ?_
        exact tfX8_readWord_62 n0 hO k7 hk7 _ _ _
theorem lX8_readWord_7 (n0 : Nat) (hO : OKc p (rmL 2) s m args meth c LX D cy ad cX8_readWord RX8 3 2 none) : ∀ (w : Nat) (x1 : Int32) (x2 : Int32) (M : Mem), BL p l e (rmL 2) s m args below meth c LX D cy ad 3 (QV LX D cy ad) 7 [(0, .ref (ad 3)), (1, .int x1), (2, .int x2)] [] M (loopN (bX8_readWord_7 n0) (fun _ _ _ => none) w x1 x2 M) := by
  intro w
  induction w with
  | zero =>
    intros
    exact b_none
  | succ w ih =>
    intro x1 x2 M
    exact tbX8_readWord_7 n0 hO _ ih x1 x2 M
theorem tfX8_readWord_7 (n0 : Nat) (hO : OKc p (rmL 2) s m args meth c LX D cy ad cX8_readWord RX8 3 2 none) (x1 : Int32) (x2 : Int32) (M : Mem) : BL p l e (rmL 2) s m args below meth c LX D cy ad 3 (QV LX D cy ad) 7 [(0, .ref (ad 3)), (1, .int x1), (2, .int x2)] [] M (fX8_readWord_7 n0 x1 x2 M) := lX8_readWord_7 n0 hO n0 x1 x2 M
theorem tfX8_readWord (n0 : Nat) (hO : OKc p (rmL 2) s m args meth c LX D cy ad cX8_readWord RX8 3 2 none) (M : Mem) : BL p l e (rmL 2) s m args below meth c LX D cy ad 3 (QV LX D cy ad) 0 [(0, .ref (ad 3))] [] M (fX8_readWord n0 M) := by
  unfold fX8_readWord
  refine b_iconst hO dX8_readWord_0 ic_i_0 ?_
  refine b_istore_n hO dX8_readWord_1 rfl (by decide) (lv' := [(1, .int _), (0, .ref _)]) rfl ?_
  refine b_aload_n hO dX8_readWord_2 1 rfl rfl ?_
  refine b_get hO flX8_19 kLX_3 (v := .int (gI _ 387)) rfl dX8_readWord_3 ?_
  refine b_topI (fun x2_6 => ?_)
  refine b_istore_n hO dX8_readWord_6 rfl (by decide) (lv' := [(2, .int _), (1, .int _), (0, .ref _)]) rfl ?_
  refine b_sub [2, 1, 0] rfl ?_
  exact tfX8_readWord_7 n0 hO _ _ _
theorem ctX8_readWord (n0 : Nat) (hI : Inj LX ad) (M : Mem) : CT l LX D cy ad yX8_readWord cX8_readWord 3 none 2 (QV LX D cy ad) [.ref (ad 3)] M (fX8_readWord n0 M) :=
  CT.mk LXok hI (by decide) (Nat.le_of_ble_eq_true rfl) (fun hO => tfX8_readWord n0 hO M)
/-! X8_isDigit -/
def fX8_isDigit (n0 : Nat) (x0 : Int32) (M : Mem) : Option (Int32 × Mem) :=
  if x0 < (48 : Int32) then
    some ((0 : Int32), M)
  else
    if (57 : Int32) < x0 then
      some ((0 : Int32), M)
    else
      some ((1 : Int32), M)
theorem tfX8_isDigit (n0 : Nat) (hO : OKc p (rmL 1) s m args meth c LX D cy ad cX8_isDigit RX8 1 1 (some .boolean)) (x0 : Int32) (M : Mem) : BL p l e (rmL 1) s m args below meth c LX D cy ad 1 (QI LX D cy ad) 0 [(0, .int x0)] [] M (fX8_isDigit n0 x0 M) := by
  unfold fX8_isDigit
  refine b_iload_n hO dX8_isDigit_0 0 rfl rfl ?_
  refine b_bipush hO dX8_isDigit_1 ic_b_48 ?_
  refine b_icmp_lt hO dX8_isDigit_3 (tgt := 16) (by decide) ?_ ?_
  · refine b_iconst hO dX8_isDigit_16 ic_i_0 ?_
    exact b_zretc hO (Or.inl rfl) dX8_isDigit_17
  · refine b_iload_n hO dX8_isDigit_6 0 rfl rfl ?_
    refine b_bipush hO dX8_isDigit_7 ic_b_57 ?_
    refine b_icmp_gt hO dX8_isDigit_9 (tgt := 16) (by decide) ?_ ?_
    · refine b_iconst hO dX8_isDigit_16 ic_i_0 ?_
      exact b_zretc hO (Or.inl rfl) dX8_isDigit_17
    · refine b_iconst hO dX8_isDigit_12 ic_i_1 ?_
      refine b_goto hO dX8_isDigit_13 (tgt := 17) (by decide) ?_
      exact b_zretc hO (Or.inr rfl) dX8_isDigit_17
theorem ctX8_isDigit (n0 : Nat) (hI : Inj LX ad) (x0 : Int32) (M : Mem) : CT l LX D cy ad yX8_isDigit cX8_isDigit 1 (some .boolean) 1 (QI LX D cy ad) [.int x0] M (fX8_isDigit n0 x0 M) :=
  CT.mk LXok hI (by decide) (Nat.le_of_ble_eq_true rfl) (fun hO => tfX8_isDigit n0 hO x0 M)
/-! X8_readNumber -/
def fX8_readNumber_59 (n0 : Nat) (k7 : Int32 → Int32 → Mem → Option (Mem)) (x1 : Int32) (x2 : Int32) (M : Mem) : Option (Mem) :=
  bnd (sI M 390 (x2 + (1 : Int32))) fun M63 =>
  k7 x1 (x2 + (1 : Int32)) M63
def fX8_readNumber_72 (n0 : Nat) (x1 : Int32) (M : Mem) : Option (Mem) :=
  bnd (sI M 389 x1) fun M74 =>
  bnd (sI M74 386 (256 : Int32)) fun M81 =>
  if ((gI M81 390) - (gI M81 387)) ≤ (4 : Int32) then
    some M81
  else
    bnd (sI M81 386 (258 : Int32)) fun M101 =>
    some (sI M101 388 ((gI M101 387) + (4 : Int32)))
def bX8_readNumber_7 (n0 : Nat) (k7 : Int32 → Int32 → Mem → Option (Mem)) (x1 : Int32) (x2 : Int32) (M : Mem) : Option (Mem) :=
  if (gI M 641) ≤ x2 then
    fX8_readNumber_72 n0 x1 M
  else
    (fX7_at n0 x2 M).bind fun z23 =>
    (fX8_isDigit n0 z23.1 z23.2).bind fun z26 =>
    if z26.1 = 0 then
      fX8_readNumber_72 n0 x1 z26.2
    else
      if (4 : Int32) ≤ (x2 - (gI z26.2 387)) then
        fX8_readNumber_59 n0 k7 x1 x2 z26.2
      else
        (fX7_at n0 x2 z26.2).bind fun z51 =>
        bnd ((((10 : Int32) * x1) + z51.1) - (48 : Int32)) fun x1_58 =>
        fX8_readNumber_59 n0 k7 x1_58 x2 z51.2
def fX8_readNumber_7 (n0 : Nat) : Int32 → Int32 → Mem → Option (Mem) := loopN (bX8_readNumber_7 n0) (fun _ _ _ => none) n0
def fX8_readNumber (n0 : Nat) (M : Mem) : Option (Mem) :=
  bnd (gI M 387) fun x2_6 =>
  fX8_readNumber_7 n0 (0 : Int32) x2_6 M
theorem tfX8_readNumber_59 (n0 : Nat) (hO : OKc p (rmL 2) s m args meth c LX D cy ad cX8_readNumber RX8 3 2 none) (k7 : Int32 → Int32 → Mem → Option (Mem)) (hk7 : ∀ (x1 : Int32) (x2 : Int32) (M : Mem), BL p l e (rmL 2) s m args below meth c LX D cy ad 3 (QV LX D cy ad) 7 [(0, .ref (ad 3)), (1, .int x1), (2, .int x2)] [] M (k7 x1 x2 M)) (x1 : Int32) (x2 : Int32) (M : Mem) : BL p l e (rmL 2) s m args below meth c LX D cy ad 3 (QV LX D cy ad) 59 [(0, .ref (ad 3)), (1, .int x1), (2, .int x2)] [] M (fX8_readNumber_59 n0 k7 x1 x2 M) := by
  unfold fX8_readNumber_59
  refine b_aload_n hO dX8_readNumber_59 0 rfl rfl ?_
  refine b_iload_n hO dX8_readNumber_60 2 rfl rfl ?_
  refine b_iconst hO dX8_readNumber_61 ic_i_1 ?_
  refine b_iadd hO dX8_readNumber_62 ?_
  refine b_putI hO flX8_28 kLX_3 rfl rfl rfl (id := 390) rfl dX8_readNumber_63 ?_
  refine b_bnd (fun M63 => ?_)
  refine b_iinc hO dX8_readNumber_66 2 rfl ic_i_1 (by decide) (lv' := [(2, .int _), (0, .ref _), (1, .int _)]) rfl ?_
  refine b_goto hO dX8_readNumber_69 (tgt := 7) (by decide) ?_
  refine b_sub [1, 2, 0] rfl ?_
  exact hk7 _ _ _
theorem tfX8_readNumber_72 (n0 : Nat) (hO : OKc p (rmL 2) s m args meth c LX D cy ad cX8_readNumber RX8 3 2 none) (x1 : Int32) (M : Mem) : BL p l e (rmL 2) s m args below meth c LX D cy ad 3 (QV LX D cy ad) 72 [(0, .ref (ad 3)), (1, .int x1)] [] M (fX8_readNumber_72 n0 x1 M) := by
  unfold fX8_readNumber_72
  refine b_aload_n hO dX8_readNumber_72 0 rfl rfl ?_
  refine b_iload_n hO dX8_readNumber_73 1 rfl rfl ?_
  refine b_putI hO flX8_25 kLX_3 rfl rfl rfl (id := 389) rfl dX8_readNumber_74 ?_
  refine b_bnd (fun M74 => ?_)
  refine b_aload_n hO dX8_readNumber_77 0 rfl rfl ?_
  refine b_sipush hO dX8_readNumber_78 ic_s_256 ?_
  refine b_putI hO flX8_15 kLX_3 rfl rfl rfl (id := 386) rfl dX8_readNumber_81 ?_
  refine b_bnd (fun M81 => ?_)
  refine b_aload_n hO dX8_readNumber_84 0 rfl rfl ?_
  refine b_get hO flX8_28 kLX_3 (v := .int (gI _ 390)) rfl dX8_readNumber_85 ?_
  refine b_aload_n hO dX8_readNumber_88 0 rfl rfl ?_
  refine b_get hO flX8_19 kLX_3 (v := .int (gI _ 387)) rfl dX8_readNumber_89 ?_
  refine b_isub hO dX8_readNumber_92 ?_
  refine b_iconst hO dX8_readNumber_93 ic_i_4 ?_
  refine b_icmp_le hO dX8_readNumber_94 (tgt := 114) (by decide) ?_ ?_
  · exact b_vret hO dX8_readNumber_114
  · refine b_aload_n hO dX8_readNumber_97 0 rfl rfl ?_
    refine b_sipush hO dX8_readNumber_98 ic_s_258 ?_
    refine b_putI hO flX8_15 kLX_3 rfl rfl rfl (id := 386) rfl dX8_readNumber_101 ?_
    refine b_bnd (fun M101 => ?_)
    refine b_aload_n hO dX8_readNumber_104 0 rfl rfl ?_
    refine b_aload_n hO dX8_readNumber_105 0 rfl rfl ?_
    refine b_get hO flX8_19 kLX_3 (v := .int (gI _ 387)) rfl dX8_readNumber_106 ?_
    refine b_iconst hO dX8_readNumber_109 ic_i_4 ?_
    refine b_iadd hO dX8_readNumber_110 ?_
    refine b_putI hO flX8_22 kLX_3 rfl rfl rfl (id := 388) rfl dX8_readNumber_111 ?_
    exact b_vret hO dX8_readNumber_114
theorem tbX8_readNumber_7 (n0 : Nat) (hO : OKc p (rmL 2) s m args meth c LX D cy ad cX8_readNumber RX8 3 2 none) (k7 : Int32 → Int32 → Mem → Option (Mem)) (hk7 : ∀ (x1 : Int32) (x2 : Int32) (M : Mem), BL p l e (rmL 2) s m args below meth c LX D cy ad 3 (QV LX D cy ad) 7 [(0, .ref (ad 3)), (1, .int x1), (2, .int x2)] [] M (k7 x1 x2 M)) (x1 : Int32) (x2 : Int32) (M : Mem) : BL p l e (rmL 2) s m args below meth c LX D cy ad 3 (QV LX D cy ad) 7 [(0, .ref (ad 3)), (1, .int x1), (2, .int x2)] [] M (bX8_readNumber_7 n0 k7 x1 x2 M) := by
  unfold bX8_readNumber_7
  refine b_iload_n hO dX8_readNumber_7 2 rfl rfl ?_
  refine b_aload_n hO dX8_readNumber_8 0 rfl rfl ?_
  refine b_get hO flX8_37 kLX_3 (v := .ref (ad 5)) rfl dX8_readNumber_9 ?_
  refine b_get hO flX8_93 kLX_5 (v := .int (gI _ 641)) rfl dX8_readNumber_12 ?_
  refine b_icmp_ge hO dX8_readNumber_15 (tgt := 72) (by decide) ?_ ?_
  · refine b_sub [0, 1] rfl ?_
    exact tfX8_readNumber_72 n0 hO _ _
  · refine b_aload_n hO dX8_readNumber_18 0 rfl rfl ?_
    refine b_get hO flX8_37 kLX_3 (v := .ref (ad 5)) rfl dX8_readNumber_19 ?_
    refine b_iload_n hO dX8_readNumber_22 2 rfl rfl ?_
    refine b_callVI hO mdX7_at mvX7_at w711 (ci := 7) rfl rfl (by decide) kLX_5 (As := [.int _]) (st := []) (ctX7_at n0 hO.2.2.2.2.2.2.1 _ _) (Nat.le_of_ble_eq_true rfl) rfl rfl (Nat.le_of_ble_eq_true rfl) dX8_readNumber_23 (fun z23 => ?_)
    refine b_callSI hO mdX8_isDigit w727 w726 (As := [.int _]) (st := []) (ctX8_isDigit n0 hO.2.2.2.2.2.2.1 _ _) (Nat.le_of_ble_eq_true rfl) rfl rfl (Nat.le_of_ble_eq_true rfl) dX8_readNumber_26 (fun z26 => ?_)
    refine b_if_eq hO dX8_readNumber_29 (tgt := 72) (by decide) ?_ ?_
    · refine b_sub [0, 1] rfl ?_
      exact tfX8_readNumber_72 n0 hO _ _
    · refine b_iload_n hO dX8_readNumber_32 2 rfl rfl ?_
      refine b_aload_n hO dX8_readNumber_33 0 rfl rfl ?_
      refine b_get hO flX8_19 kLX_3 (v := .int (gI _ 387)) rfl dX8_readNumber_34 ?_
      refine b_isub hO dX8_readNumber_37 ?_
      refine b_iconst hO dX8_readNumber_38 ic_i_4 ?_
      refine b_icmp_ge hO dX8_readNumber_39 (tgt := 59) (by decide) ?_ ?_
      · exact tfX8_readNumber_59 n0 hO k7 hk7 _ _ _
      · refine b_bipush hO dX8_readNumber_42 ic_b_10 ?_
        refine b_iload_n hO dX8_readNumber_44 1 rfl rfl ?_
        refine b_imul hO dX8_readNumber_45 ?_
        refine b_aload_n hO dX8_readNumber_46 0 rfl rfl ?_
        refine b_get hO flX8_37 kLX_3 (v := .ref (ad 5)) rfl dX8_readNumber_47 ?_
        refine b_iload_n hO dX8_readNumber_50 2 rfl rfl ?_
        refine b_callVI hO mdX7_at mvX7_at w711 (ci := 7) rfl rfl (by decide) kLX_5 (As := [.int _]) (st := [.int _]) (ctX7_at n0 hO.2.2.2.2.2.2.1 _ _) (Nat.le_of_ble_eq_true rfl) rfl rfl (Nat.le_of_ble_eq_true rfl) dX8_readNumber_51 (fun z51 => ?_)
        refine b_iadd hO dX8_readNumber_54 ?_
        refine b_bipush hO dX8_readNumber_55 ic_b_48 ?_
        refine b_isub hO dX8_readNumber_57 ?_
        refine b_topI (fun x1_58 => ?_)
        refine b_istore_n hO dX8_readNumber_58 rfl (by decide) (lv' := [(1, .int _), (0, .ref _), (2, .int _)]) rfl ?_
        refine b_sub [1, 0, 2] rfl ?_
        exact tfX8_readNumber_59 n0 hO k7 hk7 _ _ _
theorem lX8_readNumber_7 (n0 : Nat) (hO : OKc p (rmL 2) s m args meth c LX D cy ad cX8_readNumber RX8 3 2 none) : ∀ (w : Nat) (x1 : Int32) (x2 : Int32) (M : Mem), BL p l e (rmL 2) s m args below meth c LX D cy ad 3 (QV LX D cy ad) 7 [(0, .ref (ad 3)), (1, .int x1), (2, .int x2)] [] M (loopN (bX8_readNumber_7 n0) (fun _ _ _ => none) w x1 x2 M) := by
  intro w
  induction w with
  | zero =>
    intros
    exact b_none
  | succ w ih =>
    intro x1 x2 M
    exact tbX8_readNumber_7 n0 hO _ ih x1 x2 M
theorem tfX8_readNumber_7 (n0 : Nat) (hO : OKc p (rmL 2) s m args meth c LX D cy ad cX8_readNumber RX8 3 2 none) (x1 : Int32) (x2 : Int32) (M : Mem) : BL p l e (rmL 2) s m args below meth c LX D cy ad 3 (QV LX D cy ad) 7 [(0, .ref (ad 3)), (1, .int x1), (2, .int x2)] [] M (fX8_readNumber_7 n0 x1 x2 M) := lX8_readNumber_7 n0 hO n0 x1 x2 M
theorem tfX8_readNumber (n0 : Nat) (hO : OKc p (rmL 2) s m args meth c LX D cy ad cX8_readNumber RX8 3 2 none) (M : Mem) : BL p l e (rmL 2) s m args below meth c LX D cy ad 3 (QV LX D cy ad) 0 [(0, .ref (ad 3))] [] M (fX8_readNumber n0 M) := by
  unfold fX8_readNumber
  refine b_iconst hO dX8_readNumber_0 ic_i_0 ?_
  refine b_istore_n hO dX8_readNumber_1 rfl (by decide) (lv' := [(1, .int _), (0, .ref _)]) rfl ?_
  refine b_aload_n hO dX8_readNumber_2 1 rfl rfl ?_
  refine b_get hO flX8_19 kLX_3 (v := .int (gI _ 387)) rfl dX8_readNumber_3 ?_
  refine b_topI (fun x2_6 => ?_)
  refine b_istore_n hO dX8_readNumber_6 rfl (by decide) (lv' := [(2, .int _), (1, .int _), (0, .ref _)]) rfl ?_
  refine b_sub [2, 1, 0] rfl ?_
  exact tfX8_readNumber_7 n0 hO _ _ _
theorem ctX8_readNumber (n0 : Nat) (hI : Inj LX ad) (M : Mem) : CT l LX D cy ad yX8_readNumber cX8_readNumber 3 none 2 (QV LX D cy ad) [.ref (ad 3)] M (fX8_readNumber n0 M) :=
  CT.mk LXok hI (by decide) (Nat.le_of_ble_eq_true rfl) (fun hO => tfX8_readNumber n0 hO M)
/-! X8_advance -/
def fX8_advance_100 (n0 : Nat) (x1 : Int32) (x2 : Int32) (M : Mem) : Option (Mem) :=
  if x1 = 0 then
    some M
  else
    if (gI M 387) = x2 then
      (fX8_isWordOrNumber n0 M).bind fun z113 =>
      if z113.1 = 0 then
        some z113.2
      else
        bnd (sI z113.2 386 (258 : Int32)) fun M123 =>
        some (sI M123 388 (gI M123 387))
    else
      some M
def fX8_advance (n0 : Nat) (M : Mem) : Option (Mem) :=
  (fX8_isWordOrNumber n0 M).bind fun z1 =>
  bnd (gI z1.2 390) fun x2_9 =>
  (fX8_skipBlanks n0 z1.2).bind fun z11 =>
  bnd (sI z11 387 (gI z11 390)) fun M19 =>
  bnd (sI M19 388 (gI M19 390)) fun M27 =>
  (fX7_at n0 (gI M27 390) M27).bind fun z38 =>
  (fX8_isLetter n0 z38.1 z38.2).bind fun z43 =>
  if z43.1 = 0 then
    (fX8_isDigit n0 z38.1 z43.2).bind fun z57 =>
    if z57.1 = 0 then
      if z38.1 = (-1 : Int32) then
        fX8_advance_100 n0 z1.1 x2_9 (sI z57.2 386 (259 : Int32))
      else
        bnd (sI z57.2 386 z38.1) fun M87 =>
        fX8_advance_100 n0 z1.1 x2_9 (sI M87 390 ((gI M87 390) + (1 : Int32)))
    else
      (fX8_readNumber n0 z57.2).bind fun z64 =>
      fX8_advance_100 n0 z1.1 x2_9 z64
  else
    (fX8_readWord n0 z43.2).bind fun z50 =>
    fX8_advance_100 n0 z1.1 x2_9 z50
theorem tfX8_advance_100 (n0 : Nat) (hO : OKc p (rmL 3) s m args meth c LX D cy ad cX8_advance RX8 4 3 none) (x1 : Int32) (x2 : Int32) (M : Mem) : BL p l e (rmL 3) s m args below meth c LX D cy ad 4 (QV LX D cy ad) 100 [(0, .ref (ad 3)), (1, .int x1), (2, .int x2)] [] M (fX8_advance_100 n0 x1 x2 M) := by
  unfold fX8_advance_100
  refine b_iload_n hO dX8_advance_100 1 rfl rfl ?_
  refine b_if_eq hO dX8_advance_101 (tgt := 134) (by decide) ?_ ?_
  · exact b_vret hO dX8_advance_134
  · refine b_aload_n hO dX8_advance_104 0 rfl rfl ?_
    refine b_get hO flX8_19 kLX_3 (v := .int (gI _ 387)) rfl dX8_advance_105 ?_
    refine b_iload_n hO dX8_advance_108 2 rfl rfl ?_
    refine b_icmp_ne hO dX8_advance_109 (tgt := 134) (by decide) ?_ ?_
    · exact b_vret hO dX8_advance_134
    · refine b_aload_n hO dX8_advance_112 0 rfl rfl ?_
      refine b_callVI hO mdX8_isWordOrNumber mvX8_isWordOrNumber w703 (ci := 8) rfl rfl (by decide) kLX_3 (As := []) (st := []) (ctX8_isWordOrNumber n0 hO.2.2.2.2.2.2.1 _) (Nat.le_of_ble_eq_true rfl) rfl rfl (Nat.le_of_ble_eq_true rfl) dX8_advance_113 (fun z113 => ?_)
      refine b_if_eq hO dX8_advance_116 (tgt := 134) (by decide) ?_ ?_
      · exact b_vret hO dX8_advance_134
      · refine b_aload_n hO dX8_advance_119 0 rfl rfl ?_
        refine b_sipush hO dX8_advance_120 ic_s_258 ?_
        refine b_putI hO flX8_15 kLX_3 rfl rfl rfl (id := 386) rfl dX8_advance_123 ?_
        refine b_bnd (fun M123 => ?_)
        refine b_aload_n hO dX8_advance_126 0 rfl rfl ?_
        refine b_aload_n hO dX8_advance_127 0 rfl rfl ?_
        refine b_get hO flX8_19 kLX_3 (v := .int (gI _ 387)) rfl dX8_advance_128 ?_
        refine b_putI hO flX8_22 kLX_3 rfl rfl rfl (id := 388) rfl dX8_advance_131 ?_
        exact b_vret hO dX8_advance_134
theorem tfX8_advance (n0 : Nat) (hO : OKc p (rmL 3) s m args meth c LX D cy ad cX8_advance RX8 4 3 none) (M : Mem) : BL p l e (rmL 3) s m args below meth c LX D cy ad 4 (QV LX D cy ad) 0 [(0, .ref (ad 3))] [] M (fX8_advance n0 M) := by
  unfold fX8_advance
  refine b_aload_n hO dX8_advance_0 0 rfl rfl ?_
  refine b_callVI hO mdX8_isWordOrNumber mvX8_isWordOrNumber w703 (ci := 8) rfl rfl (by decide) kLX_3 (As := []) (st := []) (ctX8_isWordOrNumber n0 hO.2.2.2.2.2.2.1 _) (Nat.le_of_ble_eq_true rfl) rfl rfl (Nat.le_of_ble_eq_true rfl) dX8_advance_1 (fun z1 => ?_)
  refine b_istore_n hO dX8_advance_4 rfl (by decide) (lv' := [(1, .int _), (0, .ref _)]) rfl ?_
  refine b_aload_n hO dX8_advance_5 1 rfl rfl ?_
  refine b_get hO flX8_28 kLX_3 (v := .int (gI _ 390)) rfl dX8_advance_6 ?_
  refine b_topI (fun x2_9 => ?_)
  refine b_istore_n hO dX8_advance_9 rfl (by decide) (lv' := [(2, .int _), (1, .int _), (0, .ref _)]) rfl ?_
  refine b_aload_n hO dX8_advance_10 2 rfl rfl ?_
  refine b_callVV hO mdX8_skipBlanks mvX8_skipBlanks w707 (ci := 8) rfl rfl (by decide) kLX_3 (As := []) (st := []) (ctX8_skipBlanks n0 hO.2.2.2.2.2.2.1 _) (Nat.le_of_ble_eq_true rfl) rfl rfl (Nat.le_of_ble_eq_true rfl) dX8_advance_11 (fun z11 => ?_)
  refine b_aload_n hO dX8_advance_14 2 rfl rfl ?_
  refine b_aload_n hO dX8_advance_15 2 rfl rfl ?_
  refine b_get hO flX8_28 kLX_3 (v := .int (gI _ 390)) rfl dX8_advance_16 ?_
  refine b_putI hO flX8_19 kLX_3 rfl rfl rfl (id := 387) rfl dX8_advance_19 ?_
  refine b_bnd (fun M19 => ?_)
  refine b_aload_n hO dX8_advance_22 2 rfl rfl ?_
  refine b_aload_n hO dX8_advance_23 2 rfl rfl ?_
  refine b_get hO flX8_28 kLX_3 (v := .int (gI _ 390)) rfl dX8_advance_24 ?_
  refine b_putI hO flX8_22 kLX_3 rfl rfl rfl (id := 388) rfl dX8_advance_27 ?_
  refine b_bnd (fun M27 => ?_)
  refine b_aload_n hO dX8_advance_30 2 rfl rfl ?_
  refine b_get hO flX8_37 kLX_3 (v := .ref (ad 5)) rfl dX8_advance_31 ?_
  refine b_aload_n hO dX8_advance_34 2 rfl rfl ?_
  refine b_get hO flX8_28 kLX_3 (v := .int (gI _ 390)) rfl dX8_advance_35 ?_
  refine b_callVI hO mdX7_at mvX7_at w711 (ci := 7) rfl rfl (by decide) kLX_5 (As := [.int _]) (st := []) (ctX7_at n0 hO.2.2.2.2.2.2.1 _ _) (Nat.le_of_ble_eq_true rfl) rfl rfl (Nat.le_of_ble_eq_true rfl) dX8_advance_38 (fun z38 => ?_)
  refine b_istore_n hO dX8_advance_41 rfl (by decide) (lv' := [(3, .int _), (2, .int _), (1, .int _), (0, .ref _)]) rfl ?_
  refine b_iload_n hO dX8_advance_42 0 rfl rfl ?_
  refine b_callSI hO mdX8_isLetter w716 w715 (As := [.int _]) (st := []) (ctX8_isLetter n0 hO.2.2.2.2.2.2.1 _ _) (Nat.le_of_ble_eq_true rfl) rfl rfl (Nat.le_of_ble_eq_true rfl) dX8_advance_43 (fun z43 => ?_)
  refine b_if_eq hO dX8_advance_46 (tgt := 56) (by decide) ?_ ?_
  · refine b_iload_n hO dX8_advance_56 0 rfl rfl ?_
    refine b_callSI hO mdX8_isDigit w727 w726 (As := [.int _]) (st := []) (ctX8_isDigit n0 hO.2.2.2.2.2.2.1 _ _) (Nat.le_of_ble_eq_true rfl) rfl rfl (Nat.le_of_ble_eq_true rfl) dX8_advance_57 (fun z57 => ?_)
    refine b_if_eq hO dX8_advance_60 (tgt := 70) (by decide) ?_ ?_
    · refine b_iload_n hO dX8_advance_70 0 rfl rfl ?_
      refine b_iconst hO dX8_advance_71 ic_i_m1 ?_
      refine b_icmp_ne hO dX8_advance_72 (tgt := 85) (by decide) ?_ ?_
      · refine b_aload_n hO dX8_advance_85 3 rfl rfl ?_
        refine b_iload_n hO dX8_advance_86 0 rfl rfl ?_
        refine b_putI hO flX8_15 kLX_3 rfl rfl rfl (id := 386) rfl dX8_advance_87 ?_
        refine b_bnd (fun M87 => ?_)
        refine b_aload_n hO dX8_advance_90 3 rfl rfl ?_
        refine b_dup hO dX8_advance_91 rfl ?_
        refine b_get hO flX8_28 kLX_3 (v := .int (gI _ 390)) rfl dX8_advance_92 ?_
        refine b_iconst hO dX8_advance_95 ic_i_1 ?_
        refine b_iadd hO dX8_advance_96 ?_
        refine b_putI hO flX8_28 kLX_3 rfl rfl rfl (id := 390) rfl dX8_advance_97 ?_
        refine b_sub [3, 2, 1] rfl ?_
        exact tfX8_advance_100 n0 hO _ _ _
      · refine b_aload_n hO dX8_advance_75 3 rfl rfl ?_
        refine b_sipush hO dX8_advance_76 ic_s_259 ?_
        refine b_putI hO flX8_15 kLX_3 rfl rfl rfl (id := 386) rfl dX8_advance_79 ?_
        refine b_goto hO dX8_advance_82 (tgt := 100) (by decide) ?_
        refine b_sub [3, 2, 1] rfl ?_
        exact tfX8_advance_100 n0 hO _ _ _
    · refine b_aload_n hO dX8_advance_63 3 rfl rfl ?_
      refine b_callVV hO mdX8_readNumber mvX8_readNumber w729 (ci := 8) rfl rfl (by decide) kLX_3 (As := []) (st := []) (ctX8_readNumber n0 hO.2.2.2.2.2.2.1 _) (Nat.le_of_ble_eq_true rfl) rfl rfl (Nat.le_of_ble_eq_true rfl) dX8_advance_64 (fun z64 => ?_)
      refine b_goto hO dX8_advance_67 (tgt := 100) (by decide) ?_
      refine b_sub [3, 2, 1] rfl ?_
      exact tfX8_advance_100 n0 hO _ _ _
  · refine b_aload_n hO dX8_advance_49 3 rfl rfl ?_
    refine b_callVV hO mdX8_readWord mvX8_readWord w718 (ci := 8) rfl rfl (by decide) kLX_3 (As := []) (st := []) (ctX8_readWord n0 hO.2.2.2.2.2.2.1 _) (Nat.le_of_ble_eq_true rfl) rfl rfl (Nat.le_of_ble_eq_true rfl) dX8_advance_50 (fun z50 => ?_)
    refine b_goto hO dX8_advance_53 (tgt := 100) (by decide) ?_
    refine b_sub [3, 2, 1] rfl ?_
    exact tfX8_advance_100 n0 hO _ _ _
theorem ctX8_advance (n0 : Nat) (hI : Inj LX ad) (M : Mem) : CT l LX D cy ad yX8_advance cX8_advance 4 none 3 (QV LX D cy ad) [.ref (ad 3)] M (fX8_advance n0 M) :=
  CT.mk LXok hI (by decide) (Nat.le_of_ble_eq_true rfl) (fun hO => tfX8_advance n0 hO M)
/-! X8_begin -/
def fX8_begin (n0 : Nat) (M : Mem) : Option (Mem) :=
  bnd (sI M 391 (0 : Int32)) fun M2 =>
  bnd (sI M2 392 (-1 : Int32)) fun M7 =>
  bnd (sI M7 386 (259 : Int32)) fun M14 =>
  bnd (sI M14 390 (0 : Int32)) fun M19 =>
  (fX8_advance n0 M19).bind fun z23 =>
  some z23
theorem tfX8_begin (n0 : Nat) (hO : OKc p (rmL 4) s m args meth c LX D cy ad cX8_begin RX8 1 4 none) (M : Mem) : BL p l e (rmL 4) s m args below meth c LX D cy ad 1 (QV LX D cy ad) 0 [(0, .ref (ad 3))] [] M (fX8_begin n0 M) := by
  unfold fX8_begin
  refine b_aload_n hO dX8_begin_0 0 rfl rfl ?_
  refine b_iconst hO dX8_begin_1 ic_i_0 ?_
  refine b_putI hO flX8_31 kLX_3 rfl rfl rfl (id := 391) rfl dX8_begin_2 ?_
  refine b_bnd (fun M2 => ?_)
  refine b_aload_n hO dX8_begin_5 0 rfl rfl ?_
  refine b_iconst hO dX8_begin_6 ic_i_m1 ?_
  refine b_putI hO flX8_34 kLX_3 rfl rfl rfl (id := 392) rfl dX8_begin_7 ?_
  refine b_bnd (fun M7 => ?_)
  refine b_aload_n hO dX8_begin_10 0 rfl rfl ?_
  refine b_sipush hO dX8_begin_11 ic_s_259 ?_
  refine b_putI hO flX8_15 kLX_3 rfl rfl rfl (id := 386) rfl dX8_begin_14 ?_
  refine b_bnd (fun M14 => ?_)
  refine b_aload_n hO dX8_begin_17 0 rfl rfl ?_
  refine b_iconst hO dX8_begin_18 ic_i_0 ?_
  refine b_putI hO flX8_28 kLX_3 rfl rfl rfl (id := 390) rfl dX8_begin_19 ?_
  refine b_bnd (fun M19 => ?_)
  refine b_aload_n hO dX8_begin_22 0 rfl rfl ?_
  refine b_callVV hO mdX8_advance mvX8_advance w699 (ci := 8) rfl rfl (by decide) kLX_3 (As := []) (st := []) (ctX8_advance n0 hO.2.2.2.2.2.2.1 _) (Nat.le_of_ble_eq_true rfl) rfl rfl (Nat.le_of_ble_eq_true rfl) dX8_begin_23 (fun z23 => ?_)
  exact b_vret hO dX8_begin_26
theorem ctX8_begin (n0 : Nat) (hI : Inj LX ad) (M : Mem) : CT l LX D cy ad yX8_begin cX8_begin 1 none 4 (QV LX D cy ad) [.ref (ad 3)] M (fX8_begin n0 M) :=
  CT.mk LXok hI (by decide) (Nat.le_of_ble_eq_true rfl) (fun hO => tfX8_begin n0 hO M)
/-! X8_fail -/
def fX8_fail (n0 : Nat) (x1 : Int32) (x2 : Int32) (M : Mem) : Option (Int32 × Mem) :=
  bnd (sI M 391 x1) fun M2 =>
  bnd (sI M2 392 x2) fun M7 =>
  some ((0 : Int32), M7)
theorem tfX8_fail (n0 : Nat) (hO : OKc p (rmL 1) s m args meth c LX D cy ad cX8_fail RX8 3 1 (some .boolean)) (x1 : Int32) (x2 : Int32) (M : Mem) : BL p l e (rmL 1) s m args below meth c LX D cy ad 3 (QI LX D cy ad) 0 [(0, .ref (ad 3)), (1, .int x1), (2, .int x2)] [] M (fX8_fail n0 x1 x2 M) := by
  unfold fX8_fail
  refine b_aload_n hO dX8_fail_0 0 rfl rfl ?_
  refine b_iload_n hO dX8_fail_1 1 rfl rfl ?_
  refine b_putI hO flX8_31 kLX_3 rfl rfl rfl (id := 391) rfl dX8_fail_2 ?_
  refine b_bnd (fun M2 => ?_)
  refine b_aload_n hO dX8_fail_5 0 rfl rfl ?_
  refine b_iload_n hO dX8_fail_6 2 rfl rfl ?_
  refine b_putI hO flX8_34 kLX_3 rfl rfl rfl (id := 392) rfl dX8_fail_7 ?_
  refine b_bnd (fun M7 => ?_)
  refine b_iconst hO dX8_fail_10 ic_i_0 ?_
  exact b_zretc hO (Or.inl rfl) dX8_fail_11
theorem ctX8_fail (n0 : Nat) (hI : Inj LX ad) (x1 : Int32) (x2 : Int32) (M : Mem) : CT l LX D cy ad yX8_fail cX8_fail 3 (some .boolean) 1 (QI LX D cy ad) [.ref (ad 3), .int x1, .int x2] M (fX8_fail n0 x1 x2 M) :=
  CT.mk LXok hI (by decide) (Nat.le_of_ble_eq_true rfl) (fun hO => tfX8_fail n0 hO x1 x2 M)
/-! X8_failHere -/
def fX8_failHere (n0 : Nat) (M : Mem) : Option (Int32 × Mem) :=
  (fX8_fail n0 (1 : Int32) (gI M 388) M).bind fun z6 =>
  if z6.1 = 0 ∨ z6.1 = 1 then some (z6.1, z6.2) else none
theorem tfX8_failHere (n0 : Nat) (hO : OKc p (rmL 2) s m args meth c LX D cy ad cX8_failHere RX8 1 2 (some .boolean)) (M : Mem) : BL p l e (rmL 2) s m args below meth c LX D cy ad 1 (QI LX D cy ad) 0 [(0, .ref (ad 3))] [] M (fX8_failHere n0 M) := by
  unfold fX8_failHere
  refine b_aload_n hO dX8_failHere_0 0 rfl rfl ?_
  refine b_iconst hO dX8_failHere_1 ic_i_1 ?_
  refine b_aload_n hO dX8_failHere_2 0 rfl rfl ?_
  refine b_get hO flX8_22 kLX_3 (v := .int (gI _ 388)) rfl dX8_failHere_3 ?_
  refine b_callVI hO mdX8_fail mvX8_fail w758 (ci := 8) rfl rfl (by decide) kLX_3 (As := [.int _, .int _]) (st := []) (ctX8_fail n0 hO.2.2.2.2.2.2.1 _ _ _) (Nat.le_of_ble_eq_true rfl) rfl rfl (Nat.le_of_ble_eq_true rfl) dX8_failHere_6 (fun z6 => ?_)
  exact b_zret hO dX8_failHere_9
theorem ctX8_failHere (n0 : Nat) (hI : Inj LX ad) (M : Mem) : CT l LX D cy ad yX8_failHere cX8_failHere 1 (some .boolean) 2 (QI LX D cy ad) [.ref (ad 3)] M (fX8_failHere n0 M) :=
  CT.mk LXok hI (by decide) (Nat.le_of_ble_eq_true rfl) (fun hO => tfX8_failHere n0 hO M)
/-! X8_skip -/
def fX8_skip (n0 : Nat) (x1 : Int32) (M : Mem) : Option (Int32 × Mem) :=
  if (gI M 386) = x1 then
    (fX8_advance n0 M).bind fun z14 =>
    some ((1 : Int32), z14)
  else
    (fX8_failHere n0 M).bind fun z9 =>
    if z9.1 = 0 ∨ z9.1 = 1 then some (z9.1, z9.2) else none
theorem tfX8_skip (n0 : Nat) (hO : OKc p (rmL 4) s m args meth c LX D cy ad cX8_skip RX8 2 4 (some .boolean)) (x1 : Int32) (M : Mem) : BL p l e (rmL 4) s m args below meth c LX D cy ad 2 (QI LX D cy ad) 0 [(0, .ref (ad 3)), (1, .int x1)] [] M (fX8_skip n0 x1 M) := by
  unfold fX8_skip
  refine b_aload_n hO dX8_skip_0 0 rfl rfl ?_
  refine b_get hO flX8_15 kLX_3 (v := .int (gI _ 386)) rfl dX8_skip_1 ?_
  refine b_iload_n hO dX8_skip_4 1 rfl rfl ?_
  refine b_icmp_eq hO dX8_skip_5 (tgt := 13) (by decide) ?_ ?_
  · refine b_aload_n hO dX8_skip_13 0 rfl rfl ?_
    refine b_callVV hO mdX8_advance mvX8_advance w699 (ci := 8) rfl rfl (by decide) kLX_3 (As := []) (st := []) (ctX8_advance n0 hO.2.2.2.2.2.2.1 _) (Nat.le_of_ble_eq_true rfl) rfl rfl (Nat.le_of_ble_eq_true rfl) dX8_skip_14 (fun z14 => ?_)
    refine b_iconst hO dX8_skip_17 ic_i_1 ?_
    exact b_zretc hO (Or.inr rfl) dX8_skip_18
  · refine b_aload_n hO dX8_skip_8 0 rfl rfl ?_
    refine b_callVI hO mdX8_failHere mvX8_failHere w778 (ci := 8) rfl rfl (by decide) kLX_3 (As := []) (st := []) (ctX8_failHere n0 hO.2.2.2.2.2.2.1 _) (Nat.le_of_ble_eq_true rfl) rfl rfl (Nat.le_of_ble_eq_true rfl) dX8_skip_9 (fun z9 => ?_)
    exact b_zret hO dX8_skip_12
theorem ctX8_skip (n0 : Nat) (hI : Inj LX ad) (x1 : Int32) (M : Mem) : CT l LX D cy ad yX8_skip cX8_skip 2 (some .boolean) 4 (QI LX D cy ad) [.ref (ad 3), .int x1] M (fX8_skip n0 x1 M) :=
  CT.mk LXok hI (by decide) (Nat.le_of_ble_eq_true rfl) (fun hO => tfX8_skip n0 hO x1 M)
end
end
section
section
variable {p : Program} {l : Launch} {e : Env} {s : State} {m : MethodId} {args : Array Value} {below : List Frame} {meth : Method} {c : Code} {D : va_G} {cy : Nat → ClassId} {ad : Nat → Nat} {dd : Nat}

/-! X9_clear -/
def fX9_clear (n0 : Nat) (q0 : Nat) (M : Mem) : Option (Mem) :=
  bnd (sI M (128 * q0 + 0) (0 : Int32)) fun M2 =>
  bnd (sI M2 (128 * q0 + 1) (0 : Int32)) fun M7 =>
  bnd (sI M7 (128 * q0 + 5) (0 : Int32)) fun M12 =>
  bnd (sI M12 (128 * q0 + 8) (0 : Int32)) fun M17 =>
  bnd (sI M17 (128 * q0 + 12) (0 : Int32)) fun M22 =>
  bnd (sI M22 (128 * q0 + 16) (0 : Int32)) fun M27 =>
  bnd (sI M27 (128 * (q0 + 12) + 1) (0 : Int32)) fun M35 =>
  some (sI M35 (128 * (q0 + 14) + 1) (0 : Int32))
theorem tfX9_clear (n0 : Nat) (q0 : Nat) (hq0 : isK LX q0 9) (hO : OKc p (rmL 1) s m args meth c LX D cy ad cX9_clear RX9 1 1 none) (M : Mem) : BL p l e (rmL 1) s m args below meth c LX D cy ad 1 (QV LX D cy ad) 0 [(0, .ref (ad q0))] [] M (fX9_clear n0 q0 M) := by
  unfold fX9_clear
  refine b_aload_n hO dX9_clear_0 0 rfl rfl ?_
  refine b_iconst hO dX9_clear_1 ic_i_0 ?_
  refine b_putI hO flX9_9 hq0 rfl rfl rfl (id := (128 * q0 + 0)) rfl dX9_clear_2 ?_
  refine b_bnd (fun M2 => ?_)
  refine b_aload_n hO dX9_clear_5 0 rfl rfl ?_
  refine b_iconst hO dX9_clear_6 ic_i_0 ?_
  refine b_putI hO flX9_15 hq0 rfl rfl rfl (id := (128 * q0 + 1)) rfl dX9_clear_7 ?_
  refine b_bnd (fun M7 => ?_)
  refine b_aload_n hO dX9_clear_10 0 rfl rfl ?_
  refine b_iconst hO dX9_clear_11 ic_i_0 ?_
  refine b_putI hO flX9_28 hq0 rfl rfl rfl (id := (128 * q0 + 5)) rfl dX9_clear_12 ?_
  refine b_bnd (fun M12 => ?_)
  refine b_aload_n hO dX9_clear_15 0 rfl rfl ?_
  refine b_iconst hO dX9_clear_16 ic_i_0 ?_
  refine b_putI hO flX9_37 hq0 rfl rfl rfl (id := (128 * q0 + 8)) rfl dX9_clear_17 ?_
  refine b_bnd (fun M17 => ?_)
  refine b_aload_n hO dX9_clear_20 0 rfl rfl ?_
  refine b_iconst hO dX9_clear_21 ic_i_0 ?_
  refine b_putI hO flX9_49 hq0 rfl rfl rfl (id := (128 * q0 + 12)) rfl dX9_clear_22 ?_
  refine b_bnd (fun M22 => ?_)
  refine b_aload_n hO dX9_clear_25 0 rfl rfl ?_
  refine b_iconst hO dX9_clear_26 ic_i_0 ?_
  refine b_putI hO flX9_61 hq0 rfl rfl rfl (id := (128 * q0 + 16)) rfl dX9_clear_27 ?_
  refine b_bnd (fun M27 => ?_)
  refine b_aload_n hO dX9_clear_30 0 rfl rfl ?_
  refine b_get hO flX9_67 hq0 (v := .ref (ad (q0 + 12))) rfl dX9_clear_31 ?_
  refine b_iconst hO dX9_clear_34 ic_i_0 ?_
  refine b_putI hO flX9_74 (kt_9_12 hq0) rfl rfl rfl (id := (128 * (q0 + 12) + 1)) rfl dX9_clear_35 ?_
  refine b_bnd (fun M35 => ?_)
  refine b_aload_n hO dX9_clear_38 0 rfl rfl ?_
  refine b_get hO flX9_71 hq0 (v := .ref (ad (q0 + 14))) rfl dX9_clear_39 ?_
  refine b_iconst hO dX9_clear_42 ic_i_0 ?_
  refine b_putI hO flX9_74 (kt_9_14 hq0) rfl rfl rfl (id := (128 * (q0 + 14) + 1)) rfl dX9_clear_43 ?_
  exact b_vret hO dX9_clear_46
theorem ctX9_clear (n0 : Nat) (q0 : Nat) (hq0 : isK LX q0 9) (hI : Inj LX ad) (M : Mem) : CT l LX D cy ad yX9_clear cX9_clear 1 none 1 (QV LX D cy ad) [.ref (ad q0)] M (fX9_clear n0 q0 M) :=
  CT.mk LXok hI (by decide) (Nat.le_of_ble_eq_true rfl) (fun hO => tfX9_clear n0 q0 hq0 hO M)
/-! X9_isThing -/
def fX9_isThing (n0 : Nat) (q0 : Nat) (x1 : Int32) (M : Mem) : Option (Int32 × Mem) :=
  if x1 < 0 then
    some ((0 : Int32), M)
  else
    if (gI M (128 * q0 + 1)) ≤ x1 then
      some ((0 : Int32), M)
    else
      some ((1 : Int32), M)
theorem tfX9_isThing (n0 : Nat) (q0 : Nat) (hq0 : isK LX q0 9) (hO : OKc p (rmL 1) s m args meth c LX D cy ad cX9_isThing RX9 2 1 (some .boolean)) (x1 : Int32) (M : Mem) : BL p l e (rmL 1) s m args below meth c LX D cy ad 2 (QI LX D cy ad) 0 [(0, .ref (ad q0)), (1, .int x1)] [] M (fX9_isThing n0 q0 x1 M) := by
  unfold fX9_isThing
  refine b_iload_n hO dX9_isThing_0 1 rfl rfl ?_
  refine b_if_lt hO dX9_isThing_1 (tgt := 16) (by decide) ?_ ?_
  · refine b_iconst hO dX9_isThing_16 ic_i_0 ?_
    exact b_zretc hO (Or.inl rfl) dX9_isThing_17
  · refine b_iload_n hO dX9_isThing_4 1 rfl rfl ?_
    refine b_aload_n hO dX9_isThing_5 0 rfl rfl ?_
    refine b_get hO flX9_15 hq0 (v := .int (gI _ (128 * q0 + 1))) rfl dX9_isThing_6 ?_
    refine b_icmp_ge hO dX9_isThing_9 (tgt := 16) (by decide) ?_ ?_
    · refine b_iconst hO dX9_isThing_16 ic_i_0 ?_
      exact b_zretc hO (Or.inl rfl) dX9_isThing_17
    · refine b_iconst hO dX9_isThing_12 ic_i_1 ?_
      refine b_goto hO dX9_isThing_13 (tgt := 17) (by decide) ?_
      exact b_zretc hO (Or.inr rfl) dX9_isThing_17
theorem ctX9_isThing (n0 : Nat) (q0 : Nat) (hq0 : isK LX q0 9) (hI : Inj LX ad) (x1 : Int32) (M : Mem) : CT l LX D cy ad yX9_isThing cX9_isThing 2 (some .boolean) 1 (QI LX D cy ad) [.ref (ad q0), .int x1] M (fX9_isThing n0 q0 x1 M) :=
  CT.mk LXok hI (by decide) (Nat.le_of_ble_eq_true rfl) (fun hO => tfX9_isThing n0 q0 hq0 hO x1 M)
/-! X9_isCorner -/
def fX9_isCorner (n0 : Nat) (q0 : Nat) (x1 : Int32) (M : Mem) : Option (Int32 × Mem) :=
  if x1 < 0 then
    some ((0 : Int32), M)
  else
    if (gI M (128 * q0 + 5)) ≤ x1 then
      some ((0 : Int32), M)
    else
      some ((1 : Int32), M)
theorem tfX9_isCorner (n0 : Nat) (q0 : Nat) (hq0 : isK LX q0 9) (hO : OKc p (rmL 1) s m args meth c LX D cy ad cX9_isCorner RX9 2 1 (some .boolean)) (x1 : Int32) (M : Mem) : BL p l e (rmL 1) s m args below meth c LX D cy ad 2 (QI LX D cy ad) 0 [(0, .ref (ad q0)), (1, .int x1)] [] M (fX9_isCorner n0 q0 x1 M) := by
  unfold fX9_isCorner
  refine b_iload_n hO dX9_isCorner_0 1 rfl rfl ?_
  refine b_if_lt hO dX9_isCorner_1 (tgt := 16) (by decide) ?_ ?_
  · refine b_iconst hO dX9_isCorner_16 ic_i_0 ?_
    exact b_zretc hO (Or.inl rfl) dX9_isCorner_17
  · refine b_iload_n hO dX9_isCorner_4 1 rfl rfl ?_
    refine b_aload_n hO dX9_isCorner_5 0 rfl rfl ?_
    refine b_get hO flX9_28 hq0 (v := .int (gI _ (128 * q0 + 5))) rfl dX9_isCorner_6 ?_
    refine b_icmp_ge hO dX9_isCorner_9 (tgt := 16) (by decide) ?_ ?_
    · refine b_iconst hO dX9_isCorner_16 ic_i_0 ?_
      exact b_zretc hO (Or.inl rfl) dX9_isCorner_17
    · refine b_iconst hO dX9_isCorner_12 ic_i_1 ?_
      refine b_goto hO dX9_isCorner_13 (tgt := 17) (by decide) ?_
      exact b_zretc hO (Or.inr rfl) dX9_isCorner_17
theorem ctX9_isCorner (n0 : Nat) (q0 : Nat) (hq0 : isK LX q0 9) (hI : Inj LX ad) (x1 : Int32) (M : Mem) : CT l LX D cy ad yX9_isCorner cX9_isCorner 2 (some .boolean) 1 (QI LX D cy ad) [.ref (ad q0), .int x1] M (fX9_isCorner n0 q0 x1 M) :=
  CT.mk LXok hI (by decide) (Nat.le_of_ble_eq_true rfl) (fun hO => tfX9_isCorner n0 q0 hq0 hO x1 M)
/-! X9_isDoing -/
def fX9_isDoing (n0 : Nat) (q0 : Nat) (x1 : Int32) (M : Mem) : Option (Int32 × Mem) :=
  if x1 < 0 then
    some ((0 : Int32), M)
  else
    if (gI M (128 * q0 + 12)) ≤ x1 then
      some ((0 : Int32), M)
    else
      some ((1 : Int32), M)
theorem tfX9_isDoing (n0 : Nat) (q0 : Nat) (hq0 : isK LX q0 9) (hO : OKc p (rmL 1) s m args meth c LX D cy ad cX9_isDoing RX9 2 1 (some .boolean)) (x1 : Int32) (M : Mem) : BL p l e (rmL 1) s m args below meth c LX D cy ad 2 (QI LX D cy ad) 0 [(0, .ref (ad q0)), (1, .int x1)] [] M (fX9_isDoing n0 q0 x1 M) := by
  unfold fX9_isDoing
  refine b_iload_n hO dX9_isDoing_0 1 rfl rfl ?_
  refine b_if_lt hO dX9_isDoing_1 (tgt := 16) (by decide) ?_ ?_
  · refine b_iconst hO dX9_isDoing_16 ic_i_0 ?_
    exact b_zretc hO (Or.inl rfl) dX9_isDoing_17
  · refine b_iload_n hO dX9_isDoing_4 1 rfl rfl ?_
    refine b_aload_n hO dX9_isDoing_5 0 rfl rfl ?_
    refine b_get hO flX9_49 hq0 (v := .int (gI _ (128 * q0 + 12))) rfl dX9_isDoing_6 ?_
    refine b_icmp_ge hO dX9_isDoing_9 (tgt := 16) (by decide) ?_ ?_
    · refine b_iconst hO dX9_isDoing_16 ic_i_0 ?_
      exact b_zretc hO (Or.inl rfl) dX9_isDoing_17
    · refine b_iconst hO dX9_isDoing_12 ic_i_1 ?_
      refine b_goto hO dX9_isDoing_13 (tgt := 17) (by decide) ?_
      exact b_zretc hO (Or.inr rfl) dX9_isDoing_17
theorem ctX9_isDoing (n0 : Nat) (q0 : Nat) (hq0 : isK LX q0 9) (hI : Inj LX ad) (x1 : Int32) (M : Mem) : CT l LX D cy ad yX9_isDoing cX9_isDoing 2 (some .boolean) 1 (QI LX D cy ad) [.ref (ad q0), .int x1] M (fX9_isDoing n0 q0 x1 M) :=
  CT.mk LXok hI (by decide) (Nat.le_of_ble_eq_true rfl) (fun hO => tfX9_isDoing n0 q0 hq0 hO x1 M)
/-! X9_find -/
def bX9_find_2 (n0 : Nat) (q0 : Nat) (k2 : Int32 → Int32 → Int32 → Mem → Option (Int32 × Mem)) (x1 : Int32) (x2 : Int32) (x3 : Int32) (M : Mem) : Option (Int32 × Mem) :=
  if x1 ≤ x3 then
    some ((-1 : Int32), M)
  else
    if (Int32.ofNat (LX.ln q0)) ≤ x3 then
      some ((-1 : Int32), M)
    else
      if oob x3 (LX.ln q0) then none else
      if (gA M q0 (Int32.toNatClampNeg x3)) = x2 then
        some (x3, M)
      else
        k2 x1 x2 (x3 + (1 : Int32)) M
def fX9_find_2 (n0 : Nat) (q0 : Nat) : Int32 → Int32 → Int32 → Mem → Option (Int32 × Mem) := loopN (bX9_find_2 n0 q0) (fun _ _ _ _ => none) n0
def fX9_find (n0 : Nat) (q0 : Nat) (x1 : Int32) (x2 : Int32) (M : Mem) : Option (Int32 × Mem) :=
  fX9_find_2 n0 q0 x1 x2 (0 : Int32) M
theorem tbX9_find_2 (n0 : Nat) (q0 : Nat) (hq0 : isK LX q0 13) (hO : OKc p (rmL 1) s m args meth c LX D cy ad cX9_find RX9 4 1 (some .int)) (k2 : Int32 → Int32 → Int32 → Mem → Option (Int32 × Mem)) (hk2 : ∀ (x1 : Int32) (x2 : Int32) (x3 : Int32) (M : Mem), BL p l e (rmL 1) s m args below meth c LX D cy ad 4 (QI LX D cy ad) 2 [(0, .ref (ad q0)), (1, .int x1), (2, .int x2), (3, .int x3)] [] M (k2 x1 x2 x3 M)) (x1 : Int32) (x2 : Int32) (x3 : Int32) (M : Mem) : BL p l e (rmL 1) s m args below meth c LX D cy ad 4 (QI LX D cy ad) 2 [(0, .ref (ad q0)), (1, .int x1), (2, .int x2), (3, .int x3)] [] M (bX9_find_2 n0 q0 k2 x1 x2 x3 M) := by
  unfold bX9_find_2
  refine b_iload_n hO dX9_find_2 3 rfl rfl ?_
  refine b_iload_n hO dX9_find_3 1 rfl rfl ?_
  refine b_icmp_ge hO dX9_find_4 (tgt := 28) (by decide) ?_ ?_
  · refine b_iconst hO dX9_find_28 ic_i_m1 ?_
    exact b_iret hO dX9_find_29
  · refine b_iload_n hO dX9_find_7 3 rfl rfl ?_
    refine b_aload_n hO dX9_find_8 0 rfl rfl ?_
    refine b_alen hO hq0 rfl dX9_find_9 ?_
    refine b_icmp_ge hO dX9_find_10 (tgt := 28) (by decide) ?_ ?_
    · refine b_iconst hO dX9_find_28 ic_i_m1 ?_
      exact b_iret hO dX9_find_29
    · refine b_aload_n hO dX9_find_13 0 rfl rfl ?_
      refine b_iload_n hO dX9_find_14 3 rfl rfl ?_
      refine b_iald hO hq0 (n := (LX.ln q0)) rfl dX9_find_15 ?_
      refine b_iload_n hO dX9_find_16 2 rfl rfl ?_
      refine b_icmp_ne hO dX9_find_17 (tgt := 22) (by decide) ?_ ?_
      · refine b_iinc hO dX9_find_22 3 rfl ic_i_1 (by decide) (lv' := [(3, .int _), (0, .ref _), (1, .int _), (2, .int _)]) rfl ?_
        refine b_goto hO dX9_find_25 (tgt := 2) (by decide) ?_
        refine b_sub [1, 2, 3, 0] rfl ?_
        exact hk2 _ _ _ _
      · refine b_iload_n hO dX9_find_20 3 rfl rfl ?_
        exact b_iret hO dX9_find_21
theorem lX9_find_2 (n0 : Nat) (q0 : Nat) (hq0 : isK LX q0 13) (hO : OKc p (rmL 1) s m args meth c LX D cy ad cX9_find RX9 4 1 (some .int)) : ∀ (w : Nat) (x1 : Int32) (x2 : Int32) (x3 : Int32) (M : Mem), BL p l e (rmL 1) s m args below meth c LX D cy ad 4 (QI LX D cy ad) 2 [(0, .ref (ad q0)), (1, .int x1), (2, .int x2), (3, .int x3)] [] M (loopN (bX9_find_2 n0 q0) (fun _ _ _ _ => none) w x1 x2 x3 M) := by
  intro w
  induction w with
  | zero =>
    intros
    exact b_none
  | succ w ih =>
    intro x1 x2 x3 M
    exact tbX9_find_2 n0 q0 hq0 hO _ ih x1 x2 x3 M
theorem tfX9_find_2 (n0 : Nat) (q0 : Nat) (hq0 : isK LX q0 13) (hO : OKc p (rmL 1) s m args meth c LX D cy ad cX9_find RX9 4 1 (some .int)) (x1 : Int32) (x2 : Int32) (x3 : Int32) (M : Mem) : BL p l e (rmL 1) s m args below meth c LX D cy ad 4 (QI LX D cy ad) 2 [(0, .ref (ad q0)), (1, .int x1), (2, .int x2), (3, .int x3)] [] M (fX9_find_2 n0 q0 x1 x2 x3 M) := lX9_find_2 n0 q0 hq0 hO n0 x1 x2 x3 M
theorem tfX9_find (n0 : Nat) (q0 : Nat) (hq0 : isK LX q0 13) (hO : OKc p (rmL 1) s m args meth c LX D cy ad cX9_find RX9 4 1 (some .int)) (x1 : Int32) (x2 : Int32) (M : Mem) : BL p l e (rmL 1) s m args below meth c LX D cy ad 4 (QI LX D cy ad) 0 [(0, .ref (ad q0)), (1, .int x1), (2, .int x2)] [] M (fX9_find n0 q0 x1 x2 M) := by
  unfold fX9_find
  refine b_iconst hO dX9_find_0 ic_i_0 ?_
  refine b_istore_n hO dX9_find_1 rfl (by decide) (lv' := [(3, .int _), (0, .ref _), (1, .int _), (2, .int _)]) rfl ?_
  refine b_sub [1, 2, 3, 0] rfl ?_
  exact tfX9_find_2 n0 q0 hq0 hO _ _ _ _
theorem ctX9_find (n0 : Nat) (q0 : Nat) (hq0 : isK LX q0 13) (hI : Inj LX ad) (x1 : Int32) (x2 : Int32) (M : Mem) : CT l LX D cy ad yX9_find cX9_find 4 (some .int) 1 (QI LX D cy ad) [.ref (ad q0), .int x1, .int x2] M (fX9_find n0 q0 x1 x2 M) :=
  CT.mk LXok hI (by decide) (Nat.le_of_ble_eq_true rfl) (fun hO => tfX9_find n0 q0 hq0 hO x1 x2 M)
/-! X9_findThing -/
def fX9_findThing (n0 : Nat) (q0 : Nat) (x1 : Int32) (M : Mem) : Option (Int32 × Mem) :=
  (fX9_find n0 (q0 + 1) (gI M (128 * q0 + 1)) x1 M).bind fun z9 =>
  some (z9.1, z9.2)
theorem tfX9_findThing (n0 : Nat) (q0 : Nat) (hq0 : isK LX q0 9) (hO : OKc p (rmL 2) s m args meth c LX D cy ad cX9_findThing RX9 2 2 (some .int)) (x1 : Int32) (M : Mem) : BL p l e (rmL 2) s m args below meth c LX D cy ad 2 (QI LX D cy ad) 0 [(0, .ref (ad q0)), (1, .int x1)] [] M (fX9_findThing n0 q0 x1 M) := by
  unfold fX9_findThing
  refine b_aload_n hO dX9_findThing_0 0 rfl rfl ?_
  refine b_get hO flX9_18 hq0 (v := .ref (ad (q0 + 1))) rfl dX9_findThing_1 ?_
  refine b_aload_n hO dX9_findThing_4 0 rfl rfl ?_
  refine b_get hO flX9_15 hq0 (v := .int (gI _ (128 * q0 + 1))) rfl dX9_findThing_5 ?_
  refine b_iload_n hO dX9_findThing_8 1 rfl rfl ?_
  refine b_callSI hO mdX9_find w764 w763 (As := [.ref _, .int _, .int _]) (st := []) (ctX9_find n0 _ (kt_9_1 hq0) hO.2.2.2.2.2.2.1 _ _ _) (Nat.le_of_ble_eq_true rfl) rfl rfl (Nat.le_of_ble_eq_true rfl) dX9_findThing_9 (fun z9 => ?_)
  exact b_iret hO dX9_findThing_12
theorem ctX9_findThing (n0 : Nat) (q0 : Nat) (hq0 : isK LX q0 9) (hI : Inj LX ad) (x1 : Int32) (M : Mem) : CT l LX D cy ad yX9_findThing cX9_findThing 2 (some .int) 2 (QI LX D cy ad) [.ref (ad q0), .int x1] M (fX9_findThing n0 q0 x1 M) :=
  CT.mk LXok hI (by decide) (Nat.le_of_ble_eq_true rfl) (fun hO => tfX9_findThing n0 q0 hq0 hO x1 M)
/-! X9_findCorner -/
def fX9_findCorner (n0 : Nat) (q0 : Nat) (x1 : Int32) (M : Mem) : Option (Int32 × Mem) :=
  (fX9_find n0 (q0 + 4) (gI M (128 * q0 + 5)) x1 M).bind fun z9 =>
  some (z9.1, z9.2)
theorem tfX9_findCorner (n0 : Nat) (q0 : Nat) (hq0 : isK LX q0 9) (hO : OKc p (rmL 2) s m args meth c LX D cy ad cX9_findCorner RX9 2 2 (some .int)) (x1 : Int32) (M : Mem) : BL p l e (rmL 2) s m args below meth c LX D cy ad 2 (QI LX D cy ad) 0 [(0, .ref (ad q0)), (1, .int x1)] [] M (fX9_findCorner n0 q0 x1 M) := by
  unfold fX9_findCorner
  refine b_aload_n hO dX9_findCorner_0 0 rfl rfl ?_
  refine b_get hO flX9_31 hq0 (v := .ref (ad (q0 + 4))) rfl dX9_findCorner_1 ?_
  refine b_aload_n hO dX9_findCorner_4 0 rfl rfl ?_
  refine b_get hO flX9_28 hq0 (v := .int (gI _ (128 * q0 + 5))) rfl dX9_findCorner_5 ?_
  refine b_iload_n hO dX9_findCorner_8 1 rfl rfl ?_
  refine b_callSI hO mdX9_find w764 w763 (As := [.ref _, .int _, .int _]) (st := []) (ctX9_find n0 _ (kt_9_4 hq0) hO.2.2.2.2.2.2.1 _ _ _) (Nat.le_of_ble_eq_true rfl) rfl rfl (Nat.le_of_ble_eq_true rfl) dX9_findCorner_9 (fun z9 => ?_)
  exact b_iret hO dX9_findCorner_12
theorem ctX9_findCorner (n0 : Nat) (q0 : Nat) (hq0 : isK LX q0 9) (hI : Inj LX ad) (x1 : Int32) (M : Mem) : CT l LX D cy ad yX9_findCorner cX9_findCorner 2 (some .int) 2 (QI LX D cy ad) [.ref (ad q0), .int x1] M (fX9_findCorner n0 q0 x1 M) :=
  CT.mk LXok hI (by decide) (Nat.le_of_ble_eq_true rfl) (fun hO => tfX9_findCorner n0 q0 hq0 hO x1 M)
/-! X9_findDoing -/
def fX9_findDoing (n0 : Nat) (q0 : Nat) (x1 : Int32) (M : Mem) : Option (Int32 × Mem) :=
  (fX9_find n0 (q0 + 9) (gI M (128 * q0 + 12)) x1 M).bind fun z9 =>
  some (z9.1, z9.2)
theorem tfX9_findDoing (n0 : Nat) (q0 : Nat) (hq0 : isK LX q0 9) (hO : OKc p (rmL 2) s m args meth c LX D cy ad cX9_findDoing RX9 2 2 (some .int)) (x1 : Int32) (M : Mem) : BL p l e (rmL 2) s m args below meth c LX D cy ad 2 (QI LX D cy ad) 0 [(0, .ref (ad q0)), (1, .int x1)] [] M (fX9_findDoing n0 q0 x1 M) := by
  unfold fX9_findDoing
  refine b_aload_n hO dX9_findDoing_0 0 rfl rfl ?_
  refine b_get hO flX9_52 hq0 (v := .ref (ad (q0 + 9))) rfl dX9_findDoing_1 ?_
  refine b_aload_n hO dX9_findDoing_4 0 rfl rfl ?_
  refine b_get hO flX9_49 hq0 (v := .int (gI _ (128 * q0 + 12))) rfl dX9_findDoing_5 ?_
  refine b_iload_n hO dX9_findDoing_8 1 rfl rfl ?_
  refine b_callSI hO mdX9_find w764 w763 (As := [.ref _, .int _, .int _]) (st := []) (ctX9_find n0 _ (kt_9_9 hq0) hO.2.2.2.2.2.2.1 _ _ _) (Nat.le_of_ble_eq_true rfl) rfl rfl (Nat.le_of_ble_eq_true rfl) dX9_findDoing_9 (fun z9 => ?_)
  exact b_iret hO dX9_findDoing_12
theorem ctX9_findDoing (n0 : Nat) (q0 : Nat) (hq0 : isK LX q0 9) (hI : Inj LX ad) (x1 : Int32) (M : Mem) : CT l LX D cy ad yX9_findDoing cX9_findDoing 2 (some .int) 2 (QI LX D cy ad) [.ref (ad q0), .int x1] M (fX9_findDoing n0 q0 x1 M) :=
  CT.mk LXok hI (by decide) (Nat.le_of_ble_eq_true rfl) (fun hO => tfX9_findDoing n0 q0 hq0 hO x1 M)
/-! X9_hasRoad -/
def fX9_hasRoad_62 (n0 : Nat) (q0 : Nat) (k2 : Int32 → Int32 → Int32 → Mem → Option (Int32 × Mem)) (x1 : Int32) (x2 : Int32) (x3 : Int32) (x4 : Int32) (u0 : Int32) (M : Mem) : Option (Int32 × Mem) :=
  if x4 = 0 then
    if u0 = 0 then
      k2 x1 x2 (x3 + (1 : Int32)) M
    else
      some ((1 : Int32), M)
  else
    some ((1 : Int32), M)
def fX9_hasRoad_61 (n0 : Nat) (q0 : Nat) (k2 : Int32 → Int32 → Int32 → Mem → Option (Int32 × Mem)) (x1 : Int32) (x2 : Int32) (x3 : Int32) (x4 : Int32) (M : Mem) : Option (Int32 × Mem) :=
  fX9_hasRoad_62 n0 q0 k2 x1 x2 x3 x4 (0 : Int32) M
def fX9_hasRoad_35 (n0 : Nat) (q0 : Nat) (k2 : Int32 → Int32 → Int32 → Mem → Option (Int32 × Mem)) (x1 : Int32) (x2 : Int32) (x3 : Int32) (u0 : Int32) (M : Mem) : Option (Int32 × Mem) :=
  if oob x3 10 then none else
  if (gA M (q0 + 6) (Int32.toNatClampNeg x3)) = x2 then
    if oob x3 10 then none else
    if (gA M (q0 + 7) (Int32.toNatClampNeg x3)) = x1 then
      fX9_hasRoad_62 n0 q0 k2 x1 x2 x3 u0 (1 : Int32) M
    else
      fX9_hasRoad_61 n0 q0 k2 x1 x2 x3 u0 M
  else
    fX9_hasRoad_61 n0 q0 k2 x1 x2 x3 u0 M
def fX9_hasRoad_34 (n0 : Nat) (q0 : Nat) (k2 : Int32 → Int32 → Int32 → Mem → Option (Int32 × Mem)) (x1 : Int32) (x2 : Int32) (x3 : Int32) (M : Mem) : Option (Int32 × Mem) :=
  fX9_hasRoad_35 n0 q0 k2 x1 x2 x3 (0 : Int32) M
def bX9_hasRoad_2 (n0 : Nat) (q0 : Nat) (k2 : Int32 → Int32 → Int32 → Mem → Option (Int32 × Mem)) (x1 : Int32) (x2 : Int32) (x3 : Int32) (M : Mem) : Option (Int32 × Mem) :=
  if (gI M (128 * q0 + 8)) ≤ x3 then
    some ((0 : Int32), M)
  else
    if oob x3 10 then none else
    if (gA M (q0 + 6) (Int32.toNatClampNeg x3)) = x1 then
      if oob x3 10 then none else
      if (gA M (q0 + 7) (Int32.toNatClampNeg x3)) = x2 then
        fX9_hasRoad_35 n0 q0 k2 x1 x2 x3 (1 : Int32) M
      else
        fX9_hasRoad_34 n0 q0 k2 x1 x2 x3 M
    else
      fX9_hasRoad_34 n0 q0 k2 x1 x2 x3 M
def fX9_hasRoad_2 (n0 : Nat) (q0 : Nat) : Int32 → Int32 → Int32 → Mem → Option (Int32 × Mem) := loopN (bX9_hasRoad_2 n0 q0) (fun _ _ _ _ => none) n0
def fX9_hasRoad (n0 : Nat) (q0 : Nat) (x1 : Int32) (x2 : Int32) (M : Mem) : Option (Int32 × Mem) :=
  fX9_hasRoad_2 n0 q0 x1 x2 (0 : Int32) M
theorem tfX9_hasRoad_62 (n0 : Nat) (q0 : Nat) (hq0 : isK LX q0 9) (hO : OKc p (rmL 1) s m args meth c LX D cy ad cX9_hasRoad RX9 6 1 (some .boolean)) (k2 : Int32 → Int32 → Int32 → Mem → Option (Int32 × Mem)) (hk2 : ∀ (x1 : Int32) (x2 : Int32) (x3 : Int32) (M : Mem), BL p l e (rmL 1) s m args below meth c LX D cy ad 6 (QI LX D cy ad) 2 [(0, .ref (ad q0)), (1, .int x1), (2, .int x2), (3, .int x3)] [] M (k2 x1 x2 x3 M)) (x1 : Int32) (x2 : Int32) (x3 : Int32) (x4 : Int32) (u0 : Int32) (M : Mem) : BL p l e (rmL 1) s m args below meth c LX D cy ad 6 (QI LX D cy ad) 62 [(0, .ref (ad q0)), (1, .int x1), (2, .int x2), (3, .int x3), (4, .int x4)] [.int u0] M (fX9_hasRoad_62 n0 q0 k2 x1 x2 x3 x4 u0 M) := by
  unfold fX9_hasRoad_62
  refine b_istore hO dX9_hasRoad_62 (by decide) (lv' := [(5, .int _), (0, .ref _), (1, .int _), (2, .int _), (3, .int _), (4, .int _)]) rfl ?_
  refine b_iload hO dX9_hasRoad_64 5 rfl ?_
  refine b_if_ne hO dX9_hasRoad_66 (tgt := 74) (by decide) ?_ ?_
  · refine b_iconst hO dX9_hasRoad_74 ic_i_1 ?_
    exact b_zretc hO (Or.inr rfl) dX9_hasRoad_75
  · refine b_iload hO dX9_hasRoad_69 0 rfl ?_
    refine b_if_eq hO dX9_hasRoad_71 (tgt := 76) (by decide) ?_ ?_
    · refine b_iinc hO dX9_hasRoad_76 4 rfl ic_i_1 (by decide) (lv' := [(3, .int _), (5, .int _), (0, .ref _), (1, .int _), (2, .int _), (4, .int _)]) rfl ?_
      refine b_goto hO dX9_hasRoad_79 (tgt := 2) (by decide) ?_
      refine b_sub [2, 3, 4, 0] rfl ?_
      exact hk2 _ _ _ _
    · refine b_iconst hO dX9_hasRoad_74 ic_i_1 ?_
      exact b_zretc hO (Or.inr rfl) dX9_hasRoad_75
theorem tfX9_hasRoad_61 (n0 : Nat) (q0 : Nat) (hq0 : isK LX q0 9) (hO : OKc p (rmL 1) s m args meth c LX D cy ad cX9_hasRoad RX9 6 1 (some .boolean)) (k2 : Int32 → Int32 → Int32 → Mem → Option (Int32 × Mem)) (hk2 : ∀ (x1 : Int32) (x2 : Int32) (x3 : Int32) (M : Mem), BL p l e (rmL 1) s m args below meth c LX D cy ad 6 (QI LX D cy ad) 2 [(0, .ref (ad q0)), (1, .int x1), (2, .int x2), (3, .int x3)] [] M (k2 x1 x2 x3 M)) (x1 : Int32) (x2 : Int32) (x3 : Int32) (x4 : Int32) (M : Mem) : BL p l e (rmL 1) s m args below meth c LX D cy ad 6 (QI LX D cy ad) 61 [(0, .ref (ad q0)), (1, .int x1), (2, .int x2), (3, .int x3), (4, .int x4)] [] M (fX9_hasRoad_61 n0 q0 k2 x1 x2 x3 x4 M) := by
  unfold fX9_hasRoad_61
  refine b_iconst hO dX9_hasRoad_61 ic_i_0 ?_
  exact tfX9_hasRoad_62 n0 q0 hq0 hO k2 hk2 _ _ _ _ _ _
theorem tfX9_hasRoad_35 (n0 : Nat) (q0 : Nat) (hq0 : isK LX q0 9) (hO : OKc p (rmL 1) s m args meth c LX D cy ad cX9_hasRoad RX9 6 1 (some .boolean)) (k2 : Int32 → Int32 → Int32 → Mem → Option (Int32 × Mem)) (hk2 : ∀ (x1 : Int32) (x2 : Int32) (x3 : Int32) (M : Mem), BL p l e (rmL 1) s m args below meth c LX D cy ad 6 (QI LX D cy ad) 2 [(0, .ref (ad q0)), (1, .int x1), (2, .int x2), (3, .int x3)] [] M (k2 x1 x2 x3 M)) (x1 : Int32) (x2 : Int32) (x3 : Int32) (u0 : Int32) (M : Mem) : BL p l e (rmL 1) s m args below meth c LX D cy ad 6 (QI LX D cy ad) 35 [(0, .ref (ad q0)), (1, .int x1), (2, .int x2), (3, .int x3)] [.int u0] M (fX9_hasRoad_35 n0 q0 k2 x1 x2 x3 u0 M) := by
  unfold fX9_hasRoad_35
  refine b_istore hO dX9_hasRoad_35 (by decide) (lv' := [(4, .int _), (0, .ref _), (1, .int _), (2, .int _), (3, .int _)]) rfl ?_
  refine b_aload_n hO dX9_hasRoad_37 1 rfl rfl ?_
  refine b_get hO flX9_40 hq0 (v := .ref (ad (q0 + 6))) rfl dX9_hasRoad_38 ?_
  refine b_iload_n hO dX9_hasRoad_41 4 rfl rfl ?_
  refine b_iald hO (kt_9_6 hq0) (n := 10) (lt_9_6 hq0) dX9_hasRoad_42 ?_
  refine b_iload_n hO dX9_hasRoad_43 3 rfl rfl ?_
  refine b_icmp_ne hO dX9_hasRoad_44 (tgt := 61) (by decide) ?_ ?_
  · refine b_sub [1, 2, 3, 4, 0] rfl ?_
    exact tfX9_hasRoad_61 n0 q0 hq0 hO k2 hk2 _ _ _ _ _
  · refine b_aload_n hO dX9_hasRoad_47 1 rfl rfl ?_
    refine b_get hO flX9_43 hq0 (v := .ref (ad (q0 + 7))) rfl dX9_hasRoad_48 ?_
    refine b_iload_n hO dX9_hasRoad_51 4 rfl rfl ?_
    refine b_iald hO (kt_9_7 hq0) (n := 10) (lt_9_7 hq0) dX9_hasRoad_52 ?_
    refine b_iload_n hO dX9_hasRoad_53 2 rfl rfl ?_
    refine b_icmp_ne hO dX9_hasRoad_54 (tgt := 61) (by decide) ?_ ?_
    · refine b_sub [1, 2, 3, 4, 0] rfl ?_
      exact tfX9_hasRoad_61 n0 q0 hq0 hO k2 hk2 _ _ _ _ _
    · refine b_iconst hO dX9_hasRoad_57 ic_i_1 ?_
      refine b_goto hO dX9_hasRoad_58 (tgt := 62) (by decide) ?_
      refine b_sub [1, 2, 3, 4, 0] rfl ?_
      exact tfX9_hasRoad_62 n0 q0 hq0 hO k2 hk2 _ _ _ _ _ _
theorem tfX9_hasRoad_34 (n0 : Nat) (q0 : Nat) (hq0 : isK LX q0 9) (hO : OKc p (rmL 1) s m args meth c LX D cy ad cX9_hasRoad RX9 6 1 (some .boolean)) (k2 : Int32 → Int32 → Int32 → Mem → Option (Int32 × Mem)) (hk2 : ∀ (x1 : Int32) (x2 : Int32) (x3 : Int32) (M : Mem), BL p l e (rmL 1) s m args below meth c LX D cy ad 6 (QI LX D cy ad) 2 [(0, .ref (ad q0)), (1, .int x1), (2, .int x2), (3, .int x3)] [] M (k2 x1 x2 x3 M)) (x1 : Int32) (x2 : Int32) (x3 : Int32) (M : Mem) : BL p l e (rmL 1) s m args below meth c LX D cy ad 6 (QI LX D cy ad) 34 [(0, .ref (ad q0)), (1, .int x1), (2, .int x2), (3, .int x3)] [] M (fX9_hasRoad_34 n0 q0 k2 x1 x2 x3 M) := by
  unfold fX9_hasRoad_34
  refine b_iconst hO dX9_hasRoad_34 ic_i_0 ?_
  exact tfX9_hasRoad_35 n0 q0 hq0 hO k2 hk2 _ _ _ _ _
theorem tbX9_hasRoad_2 (n0 : Nat) (q0 : Nat) (hq0 : isK LX q0 9) (hO : OKc p (rmL 1) s m args meth c LX D cy ad cX9_hasRoad RX9 6 1 (some .boolean)) (k2 : Int32 → Int32 → Int32 → Mem → Option (Int32 × Mem)) (hk2 : ∀ (x1 : Int32) (x2 : Int32) (x3 : Int32) (M : Mem), BL p l e (rmL 1) s m args below meth c LX D cy ad 6 (QI LX D cy ad) 2 [(0, .ref (ad q0)), (1, .int x1), (2, .int x2), (3, .int x3)] [] M (k2 x1 x2 x3 M)) (x1 : Int32) (x2 : Int32) (x3 : Int32) (M : Mem) : BL p l e (rmL 1) s m args below meth c LX D cy ad 6 (QI LX D cy ad) 2 [(0, .ref (ad q0)), (1, .int x1), (2, .int x2), (3, .int x3)] [] M (bX9_hasRoad_2 n0 q0 k2 x1 x2 x3 M) := by
  unfold bX9_hasRoad_2
  refine b_iload_n hO dX9_hasRoad_2 3 rfl rfl ?_
  refine b_aload_n hO dX9_hasRoad_3 0 rfl rfl ?_
  refine b_get hO flX9_37 hq0 (v := .int (gI _ (128 * q0 + 8))) rfl dX9_hasRoad_4 ?_
  refine b_icmp_ge hO dX9_hasRoad_7 (tgt := 82) (by decide) ?_ ?_
  · refine b_iconst hO dX9_hasRoad_82 ic_i_0 ?_
    exact b_zretc hO (Or.inl rfl) dX9_hasRoad_83
  · refine b_aload_n hO dX9_hasRoad_10 0 rfl rfl ?_
    refine b_get hO flX9_40 hq0 (v := .ref (ad (q0 + 6))) rfl dX9_hasRoad_11 ?_
    refine b_iload_n hO dX9_hasRoad_14 3 rfl rfl ?_
    refine b_iald hO (kt_9_6 hq0) (n := 10) (lt_9_6 hq0) dX9_hasRoad_15 ?_
    refine b_iload_n hO dX9_hasRoad_16 1 rfl rfl ?_
    refine b_icmp_ne hO dX9_hasRoad_17 (tgt := 34) (by decide) ?_ ?_
    · exact tfX9_hasRoad_34 n0 q0 hq0 hO k2 hk2 _ _ _ _
    · refine b_aload_n hO dX9_hasRoad_20 0 rfl rfl ?_
      refine b_get hO flX9_43 hq0 (v := .ref (ad (q0 + 7))) rfl dX9_hasRoad_21 ?_
      refine b_iload_n hO dX9_hasRoad_24 3 rfl rfl ?_
      refine b_iald hO (kt_9_7 hq0) (n := 10) (lt_9_7 hq0) dX9_hasRoad_25 ?_
      refine b_iload_n hO dX9_hasRoad_26 2 rfl rfl ?_
      refine b_icmp_ne hO dX9_hasRoad_27 (tgt := 34) (by decide) ?_ ?_
      · exact tfX9_hasRoad_34 n0 q0 hq0 hO k2 hk2 _ _ _ _
      · refine b_iconst hO dX9_hasRoad_30 ic_i_1 ?_
        refine b_goto hO dX9_hasRoad_31 (tgt := 35) (by decide) ?_
        exact tfX9_hasRoad_35 n0 q0 hq0 hO k2 hk2 _ _ _ _ _
theorem lX9_hasRoad_2 (n0 : Nat) (q0 : Nat) (hq0 : isK LX q0 9) (hO : OKc p (rmL 1) s m args meth c LX D cy ad cX9_hasRoad RX9 6 1 (some .boolean)) : ∀ (w : Nat) (x1 : Int32) (x2 : Int32) (x3 : Int32) (M : Mem), BL p l e (rmL 1) s m args below meth c LX D cy ad 6 (QI LX D cy ad) 2 [(0, .ref (ad q0)), (1, .int x1), (2, .int x2), (3, .int x3)] [] M (loopN (bX9_hasRoad_2 n0 q0) (fun _ _ _ _ => none) w x1 x2 x3 M) := by
  intro w
  induction w with
  | zero =>
    intros
    exact b_none
  | succ w ih =>
    intro x1 x2 x3 M
    exact tbX9_hasRoad_2 n0 q0 hq0 hO _ ih x1 x2 x3 M
theorem tfX9_hasRoad_2 (n0 : Nat) (q0 : Nat) (hq0 : isK LX q0 9) (hO : OKc p (rmL 1) s m args meth c LX D cy ad cX9_hasRoad RX9 6 1 (some .boolean)) (x1 : Int32) (x2 : Int32) (x3 : Int32) (M : Mem) : BL p l e (rmL 1) s m args below meth c LX D cy ad 6 (QI LX D cy ad) 2 [(0, .ref (ad q0)), (1, .int x1), (2, .int x2), (3, .int x3)] [] M (fX9_hasRoad_2 n0 q0 x1 x2 x3 M) := lX9_hasRoad_2 n0 q0 hq0 hO n0 x1 x2 x3 M
theorem tfX9_hasRoad (n0 : Nat) (q0 : Nat) (hq0 : isK LX q0 9) (hO : OKc p (rmL 1) s m args meth c LX D cy ad cX9_hasRoad RX9 6 1 (some .boolean)) (x1 : Int32) (x2 : Int32) (M : Mem) : BL p l e (rmL 1) s m args below meth c LX D cy ad 6 (QI LX D cy ad) 0 [(0, .ref (ad q0)), (1, .int x1), (2, .int x2)] [] M (fX9_hasRoad n0 q0 x1 x2 M) := by
  unfold fX9_hasRoad
  refine b_iconst hO dX9_hasRoad_0 ic_i_0 ?_
  refine b_istore_n hO dX9_hasRoad_1 rfl (by decide) (lv' := [(3, .int _), (0, .ref _), (1, .int _), (2, .int _)]) rfl ?_
  refine b_sub [1, 2, 3, 0] rfl ?_
  exact tfX9_hasRoad_2 n0 q0 hq0 hO _ _ _ _
theorem ctX9_hasRoad (n0 : Nat) (q0 : Nat) (hq0 : isK LX q0 9) (hI : Inj LX ad) (x1 : Int32) (x2 : Int32) (M : Mem) : CT l LX D cy ad yX9_hasRoad cX9_hasRoad 6 (some .boolean) 1 (QI LX D cy ad) [.ref (ad q0), .int x1, .int x2] M (fX9_hasRoad n0 q0 x1 x2 M) :=
  CT.mk LXok hI (by decide) (Nat.le_of_ble_eq_true rfl) (fun hO => tfX9_hasRoad n0 q0 hq0 hO x1 x2 M)
/-! X9_addThing -/
def fX9_addThing (n0 : Nat) (q0 : Nat) (x1 : Int32) (x2 : Int32) (x3 : Int32) (M : Mem) : Option (Mem) :=
  if (6 : Int32) ≤ (gI M (128 * q0 + 1)) then
    some M
  else
    if oob (gI M (128 * q0 + 1)) 6 then none else
    bnd (sA M (q0 + 1) (Int32.toNatClampNeg (gI M (128 * q0 + 1))) x1) fun M18 =>
    if oob (gI M18 (128 * q0 + 1)) 6 then none else
    bnd (sA M18 (q0 + 2) (Int32.toNatClampNeg (gI M18 (128 * q0 + 1))) x2) fun M28 =>
    if oob (gI M28 (128 * q0 + 1)) 6 then none else
    bnd (sA M28 (q0 + 3) (Int32.toNatClampNeg (gI M28 (128 * q0 + 1))) x3) fun M38 =>
    some (sI M38 (128 * q0 + 1) ((gI M38 (128 * q0 + 1)) + (1 : Int32)))
theorem tfX9_addThing (n0 : Nat) (q0 : Nat) (hq0 : isK LX q0 9) (hO : OKc p (rmL 1) s m args meth c LX D cy ad cX9_addThing RX9 4 1 none) (x1 : Int32) (x2 : Int32) (x3 : Int32) (M : Mem) : BL p l e (rmL 1) s m args below meth c LX D cy ad 4 (QV LX D cy ad) 0 [(0, .ref (ad q0)), (1, .int x1), (2, .int x2), (3, .int x3)] [] M (fX9_addThing n0 q0 x1 x2 x3 M) := by
  unfold fX9_addThing
  refine b_aload_n hO dX9_addThing_0 0 rfl rfl ?_
  refine b_get hO flX9_15 hq0 (v := .int (gI _ (128 * q0 + 1))) rfl dX9_addThing_1 ?_
  refine b_bipush hO dX9_addThing_4 ic_b_6 ?_
  refine b_icmp_ge hO dX9_addThing_6 (tgt := 49) (by decide) ?_ ?_
  · exact b_vret hO dX9_addThing_49
  · refine b_aload_n hO dX9_addThing_9 0 rfl rfl ?_
    refine b_get hO flX9_18 hq0 (v := .ref (ad (q0 + 1))) rfl dX9_addThing_10 ?_
    refine b_aload_n hO dX9_addThing_13 0 rfl rfl ?_
    refine b_get hO flX9_15 hq0 (v := .int (gI _ (128 * q0 + 1))) rfl dX9_addThing_14 ?_
    refine b_iload_n hO dX9_addThing_17 1 rfl rfl ?_
    refine b_iast hO (kt_9_1 hq0) (n := 6) (lt_9_1 hq0) dX9_addThing_18 ?_
    refine b_bnd (fun M18 => ?_)
    refine b_aload_n hO dX9_addThing_19 0 rfl rfl ?_
    refine b_get hO flX9_22 hq0 (v := .ref (ad (q0 + 2))) rfl dX9_addThing_20 ?_
    refine b_aload_n hO dX9_addThing_23 0 rfl rfl ?_
    refine b_get hO flX9_15 hq0 (v := .int (gI _ (128 * q0 + 1))) rfl dX9_addThing_24 ?_
    refine b_iload_n hO dX9_addThing_27 2 rfl rfl ?_
    refine b_iast hO (kt_9_2 hq0) (n := 6) (lt_9_2 hq0) dX9_addThing_28 ?_
    refine b_bnd (fun M28 => ?_)
    refine b_aload_n hO dX9_addThing_29 0 rfl rfl ?_
    refine b_get hO flX9_25 hq0 (v := .ref (ad (q0 + 3))) rfl dX9_addThing_30 ?_
    refine b_aload_n hO dX9_addThing_33 0 rfl rfl ?_
    refine b_get hO flX9_15 hq0 (v := .int (gI _ (128 * q0 + 1))) rfl dX9_addThing_34 ?_
    refine b_iload_n hO dX9_addThing_37 3 rfl rfl ?_
    refine b_iast hO (kt_9_3 hq0) (n := 6) (lt_9_3 hq0) dX9_addThing_38 ?_
    refine b_bnd (fun M38 => ?_)
    refine b_aload_n hO dX9_addThing_39 0 rfl rfl ?_
    refine b_dup hO dX9_addThing_40 rfl ?_
    refine b_get hO flX9_15 hq0 (v := .int (gI _ (128 * q0 + 1))) rfl dX9_addThing_41 ?_
    refine b_iconst hO dX9_addThing_44 ic_i_1 ?_
    refine b_iadd hO dX9_addThing_45 ?_
    refine b_putI hO flX9_15 hq0 rfl rfl rfl (id := (128 * q0 + 1)) rfl dX9_addThing_46 ?_
    exact b_vret hO dX9_addThing_49
theorem ctX9_addThing (n0 : Nat) (q0 : Nat) (hq0 : isK LX q0 9) (hI : Inj LX ad) (x1 : Int32) (x2 : Int32) (x3 : Int32) (M : Mem) : CT l LX D cy ad yX9_addThing cX9_addThing 4 none 1 (QV LX D cy ad) [.ref (ad q0), .int x1, .int x2, .int x3] M (fX9_addThing n0 q0 x1 x2 x3 M) :=
  CT.mk LXok hI (by decide) (Nat.le_of_ble_eq_true rfl) (fun hO => tfX9_addThing n0 q0 hq0 hO x1 x2 x3 M)
/-! X9_addCorner -/
def fX9_addCorner (n0 : Nat) (q0 : Nat) (x1 : Int32) (M : Mem) : Option (Mem) :=
  if (5 : Int32) ≤ (gI M (128 * q0 + 5)) then
    some M
  else
    if oob (gI M (128 * q0 + 5)) 5 then none else
    bnd (sA M (q0 + 4) (Int32.toNatClampNeg (gI M (128 * q0 + 5))) x1) fun M17 =>
    if oob (gI M17 (128 * q0 + 5)) 5 then none else
    bnd (sA M17 (q0 + 5) (Int32.toNatClampNeg (gI M17 (128 * q0 + 5))) (-1 : Int32)) fun M27 =>
    some (sI M27 (128 * q0 + 5) ((gI M27 (128 * q0 + 5)) + (1 : Int32)))
theorem tfX9_addCorner (n0 : Nat) (q0 : Nat) (hq0 : isK LX q0 9) (hO : OKc p (rmL 1) s m args meth c LX D cy ad cX9_addCorner RX9 2 1 none) (x1 : Int32) (M : Mem) : BL p l e (rmL 1) s m args below meth c LX D cy ad 2 (QV LX D cy ad) 0 [(0, .ref (ad q0)), (1, .int x1)] [] M (fX9_addCorner n0 q0 x1 M) := by
  unfold fX9_addCorner
  refine b_aload_n hO dX9_addCorner_0 0 rfl rfl ?_
  refine b_get hO flX9_28 hq0 (v := .int (gI _ (128 * q0 + 5))) rfl dX9_addCorner_1 ?_
  refine b_iconst hO dX9_addCorner_4 ic_i_5 ?_
  refine b_icmp_ge hO dX9_addCorner_5 (tgt := 38) (by decide) ?_ ?_
  · exact b_vret hO dX9_addCorner_38
  · refine b_aload_n hO dX9_addCorner_8 0 rfl rfl ?_
    refine b_get hO flX9_31 hq0 (v := .ref (ad (q0 + 4))) rfl dX9_addCorner_9 ?_
    refine b_aload_n hO dX9_addCorner_12 0 rfl rfl ?_
    refine b_get hO flX9_28 hq0 (v := .int (gI _ (128 * q0 + 5))) rfl dX9_addCorner_13 ?_
    refine b_iload_n hO dX9_addCorner_16 1 rfl rfl ?_
    refine b_iast hO (kt_9_4 hq0) (n := 5) (lt_9_4 hq0) dX9_addCorner_17 ?_
    refine b_bnd (fun M17 => ?_)
    refine b_aload_n hO dX9_addCorner_18 0 rfl rfl ?_
    refine b_get hO flX9_34 hq0 (v := .ref (ad (q0 + 5))) rfl dX9_addCorner_19 ?_
    refine b_aload_n hO dX9_addCorner_22 0 rfl rfl ?_
    refine b_get hO flX9_28 hq0 (v := .int (gI _ (128 * q0 + 5))) rfl dX9_addCorner_23 ?_
    refine b_iconst hO dX9_addCorner_26 ic_i_m1 ?_
    refine b_iast hO (kt_9_5 hq0) (n := 5) (lt_9_5 hq0) dX9_addCorner_27 ?_
    refine b_bnd (fun M27 => ?_)
    refine b_aload_n hO dX9_addCorner_28 0 rfl rfl ?_
    refine b_dup hO dX9_addCorner_29 rfl ?_
    refine b_get hO flX9_28 hq0 (v := .int (gI _ (128 * q0 + 5))) rfl dX9_addCorner_30 ?_
    refine b_iconst hO dX9_addCorner_33 ic_i_1 ?_
    refine b_iadd hO dX9_addCorner_34 ?_
    refine b_putI hO flX9_28 hq0 rfl rfl rfl (id := (128 * q0 + 5)) rfl dX9_addCorner_35 ?_
    exact b_vret hO dX9_addCorner_38
theorem ctX9_addCorner (n0 : Nat) (q0 : Nat) (hq0 : isK LX q0 9) (hI : Inj LX ad) (x1 : Int32) (M : Mem) : CT l LX D cy ad yX9_addCorner cX9_addCorner 2 none 1 (QV LX D cy ad) [.ref (ad q0), .int x1] M (fX9_addCorner n0 q0 x1 M) :=
  CT.mk LXok hI (by decide) (Nat.le_of_ble_eq_true rfl) (fun hO => tfX9_addCorner n0 q0 hq0 hO x1 M)
/-! X9_addRoad -/
def fX9_addRoad (n0 : Nat) (q0 : Nat) (x1 : Int32) (x2 : Int32) (x3 : Int32) (M : Mem) : Option (Mem) :=
  if (10 : Int32) ≤ (gI M (128 * q0 + 8)) then
    some M
  else
    if oob (gI M (128 * q0 + 8)) 10 then none else
    bnd (sA M (q0 + 6) (Int32.toNatClampNeg (gI M (128 * q0 + 8))) x1) fun M18 =>
    if oob (gI M18 (128 * q0 + 8)) 10 then none else
    bnd (sA M18 (q0 + 7) (Int32.toNatClampNeg (gI M18 (128 * q0 + 8))) x2) fun M28 =>
    if oob (gI M28 (128 * q0 + 8)) 10 then none else
    bnd (sA M28 (q0 + 8) (Int32.toNatClampNeg (gI M28 (128 * q0 + 8))) x3) fun M38 =>
    some (sI M38 (128 * q0 + 8) ((gI M38 (128 * q0 + 8)) + (1 : Int32)))
theorem tfX9_addRoad (n0 : Nat) (q0 : Nat) (hq0 : isK LX q0 9) (hO : OKc p (rmL 1) s m args meth c LX D cy ad cX9_addRoad RX9 4 1 none) (x1 : Int32) (x2 : Int32) (x3 : Int32) (M : Mem) : BL p l e (rmL 1) s m args below meth c LX D cy ad 4 (QV LX D cy ad) 0 [(0, .ref (ad q0)), (1, .int x1), (2, .int x2), (3, .int x3)] [] M (fX9_addRoad n0 q0 x1 x2 x3 M) := by
  unfold fX9_addRoad
  refine b_aload_n hO dX9_addRoad_0 0 rfl rfl ?_
  refine b_get hO flX9_37 hq0 (v := .int (gI _ (128 * q0 + 8))) rfl dX9_addRoad_1 ?_
  refine b_bipush hO dX9_addRoad_4 ic_b_10 ?_
  refine b_icmp_ge hO dX9_addRoad_6 (tgt := 49) (by decide) ?_ ?_
  · exact b_vret hO dX9_addRoad_49
  · refine b_aload_n hO dX9_addRoad_9 0 rfl rfl ?_
    refine b_get hO flX9_40 hq0 (v := .ref (ad (q0 + 6))) rfl dX9_addRoad_10 ?_
    refine b_aload_n hO dX9_addRoad_13 0 rfl rfl ?_
    refine b_get hO flX9_37 hq0 (v := .int (gI _ (128 * q0 + 8))) rfl dX9_addRoad_14 ?_
    refine b_iload_n hO dX9_addRoad_17 1 rfl rfl ?_
    refine b_iast hO (kt_9_6 hq0) (n := 10) (lt_9_6 hq0) dX9_addRoad_18 ?_
    refine b_bnd (fun M18 => ?_)
    refine b_aload_n hO dX9_addRoad_19 0 rfl rfl ?_
    refine b_get hO flX9_43 hq0 (v := .ref (ad (q0 + 7))) rfl dX9_addRoad_20 ?_
    refine b_aload_n hO dX9_addRoad_23 0 rfl rfl ?_
    refine b_get hO flX9_37 hq0 (v := .int (gI _ (128 * q0 + 8))) rfl dX9_addRoad_24 ?_
    refine b_iload_n hO dX9_addRoad_27 2 rfl rfl ?_
    refine b_iast hO (kt_9_7 hq0) (n := 10) (lt_9_7 hq0) dX9_addRoad_28 ?_
    refine b_bnd (fun M28 => ?_)
    refine b_aload_n hO dX9_addRoad_29 0 rfl rfl ?_
    refine b_get hO flX9_46 hq0 (v := .ref (ad (q0 + 8))) rfl dX9_addRoad_30 ?_
    refine b_aload_n hO dX9_addRoad_33 0 rfl rfl ?_
    refine b_get hO flX9_37 hq0 (v := .int (gI _ (128 * q0 + 8))) rfl dX9_addRoad_34 ?_
    refine b_iload_n hO dX9_addRoad_37 3 rfl rfl ?_
    refine b_iast hO (kt_9_8 hq0) (n := 10) (lt_9_8 hq0) dX9_addRoad_38 ?_
    refine b_bnd (fun M38 => ?_)
    refine b_aload_n hO dX9_addRoad_39 0 rfl rfl ?_
    refine b_dup hO dX9_addRoad_40 rfl ?_
    refine b_get hO flX9_37 hq0 (v := .int (gI _ (128 * q0 + 8))) rfl dX9_addRoad_41 ?_
    refine b_iconst hO dX9_addRoad_44 ic_i_1 ?_
    refine b_iadd hO dX9_addRoad_45 ?_
    refine b_putI hO flX9_37 hq0 rfl rfl rfl (id := (128 * q0 + 8)) rfl dX9_addRoad_46 ?_
    exact b_vret hO dX9_addRoad_49
theorem ctX9_addRoad (n0 : Nat) (q0 : Nat) (hq0 : isK LX q0 9) (hI : Inj LX ad) (x1 : Int32) (x2 : Int32) (x3 : Int32) (M : Mem) : CT l LX D cy ad yX9_addRoad cX9_addRoad 4 none 1 (QV LX D cy ad) [.ref (ad q0), .int x1, .int x2, .int x3] M (fX9_addRoad n0 q0 x1 x2 x3 M) :=
  CT.mk LXok hI (by decide) (Nat.le_of_ble_eq_true rfl) (fun hO => tfX9_addRoad n0 q0 hq0 hO x1 x2 x3 M)
/-! X9_addDoing -/
def fX9_addDoing (n0 : Nat) (q0 : Nat) (x1 : Int32) (x2 : Int32) (x3 : Int32) (M : Mem) : Option (Mem) :=
  if (6 : Int32) ≤ (gI M (128 * q0 + 12)) then
    some M
  else
    if oob (gI M (128 * q0 + 12)) 6 then none else
    bnd (sA M (q0 + 9) (Int32.toNatClampNeg (gI M (128 * q0 + 12))) x1) fun M18 =>
    if oob (gI M18 (128 * q0 + 12)) 6 then none else
    bnd (sA M18 (q0 + 10) (Int32.toNatClampNeg (gI M18 (128 * q0 + 12))) x2) fun M28 =>
    if oob (gI M28 (128 * q0 + 12)) 6 then none else
    bnd (sA M28 (q0 + 11) (Int32.toNatClampNeg (gI M28 (128 * q0 + 12))) x3) fun M38 =>
    some (sI M38 (128 * q0 + 12) ((gI M38 (128 * q0 + 12)) + (1 : Int32)))
theorem tfX9_addDoing (n0 : Nat) (q0 : Nat) (hq0 : isK LX q0 9) (hO : OKc p (rmL 1) s m args meth c LX D cy ad cX9_addDoing RX9 4 1 none) (x1 : Int32) (x2 : Int32) (x3 : Int32) (M : Mem) : BL p l e (rmL 1) s m args below meth c LX D cy ad 4 (QV LX D cy ad) 0 [(0, .ref (ad q0)), (1, .int x1), (2, .int x2), (3, .int x3)] [] M (fX9_addDoing n0 q0 x1 x2 x3 M) := by
  unfold fX9_addDoing
  refine b_aload_n hO dX9_addDoing_0 0 rfl rfl ?_
  refine b_get hO flX9_49 hq0 (v := .int (gI _ (128 * q0 + 12))) rfl dX9_addDoing_1 ?_
  refine b_bipush hO dX9_addDoing_4 ic_b_6 ?_
  refine b_icmp_ge hO dX9_addDoing_6 (tgt := 49) (by decide) ?_ ?_
  · exact b_vret hO dX9_addDoing_49
  · refine b_aload_n hO dX9_addDoing_9 0 rfl rfl ?_
    refine b_get hO flX9_52 hq0 (v := .ref (ad (q0 + 9))) rfl dX9_addDoing_10 ?_
    refine b_aload_n hO dX9_addDoing_13 0 rfl rfl ?_
    refine b_get hO flX9_49 hq0 (v := .int (gI _ (128 * q0 + 12))) rfl dX9_addDoing_14 ?_
    refine b_iload_n hO dX9_addDoing_17 1 rfl rfl ?_
    refine b_iast hO (kt_9_9 hq0) (n := 6) (lt_9_9 hq0) dX9_addDoing_18 ?_
    refine b_bnd (fun M18 => ?_)
    refine b_aload_n hO dX9_addDoing_19 0 rfl rfl ?_
    refine b_get hO flX9_55 hq0 (v := .ref (ad (q0 + 10))) rfl dX9_addDoing_20 ?_
    refine b_aload_n hO dX9_addDoing_23 0 rfl rfl ?_
    refine b_get hO flX9_49 hq0 (v := .int (gI _ (128 * q0 + 12))) rfl dX9_addDoing_24 ?_
    refine b_iload_n hO dX9_addDoing_27 2 rfl rfl ?_
    refine b_iast hO (kt_9_10 hq0) (n := 6) (lt_9_10 hq0) dX9_addDoing_28 ?_
    refine b_bnd (fun M28 => ?_)
    refine b_aload_n hO dX9_addDoing_29 0 rfl rfl ?_
    refine b_get hO flX9_58 hq0 (v := .ref (ad (q0 + 11))) rfl dX9_addDoing_30 ?_
    refine b_aload_n hO dX9_addDoing_33 0 rfl rfl ?_
    refine b_get hO flX9_49 hq0 (v := .int (gI _ (128 * q0 + 12))) rfl dX9_addDoing_34 ?_
    refine b_iload_n hO dX9_addDoing_37 3 rfl rfl ?_
    refine b_iast hO (kt_9_11 hq0) (n := 6) (lt_9_11 hq0) dX9_addDoing_38 ?_
    refine b_bnd (fun M38 => ?_)
    refine b_aload_n hO dX9_addDoing_39 0 rfl rfl ?_
    refine b_dup hO dX9_addDoing_40 rfl ?_
    refine b_get hO flX9_49 hq0 (v := .int (gI _ (128 * q0 + 12))) rfl dX9_addDoing_41 ?_
    refine b_iconst hO dX9_addDoing_44 ic_i_1 ?_
    refine b_iadd hO dX9_addDoing_45 ?_
    refine b_putI hO flX9_49 hq0 rfl rfl rfl (id := (128 * q0 + 12)) rfl dX9_addDoing_46 ?_
    exact b_vret hO dX9_addDoing_49
theorem ctX9_addDoing (n0 : Nat) (q0 : Nat) (hq0 : isK LX q0 9) (hI : Inj LX ad) (x1 : Int32) (x2 : Int32) (x3 : Int32) (M : Mem) : CT l LX D cy ad yX9_addDoing cX9_addDoing 4 none 1 (QV LX D cy ad) [.ref (ad q0), .int x1, .int x2, .int x3] M (fX9_addDoing n0 q0 x1 x2 x3 M) :=
  CT.mk LXok hI (by decide) (Nat.le_of_ble_eq_true rfl) (fun hO => tfX9_addDoing n0 q0 hq0 hO x1 x2 x3 M)
end
end
section
section
variable {p : Program} {l : Launch} {e : Env} {s : State} {m : MethodId} {args : Array Value} {below : List Frame} {meth : Method} {c : Code} {D : va_G} {cy : Nat → ClassId} {ad : Nat → Nat} {dd : Nat}

/-! X1_hold -/
def fX1_hold (n0 : Nat) (x1 : Int32) (x2 : Int32) (x3 : Int32) (x4 : Int32) (M : Mem) : Option (Mem) :=
  bnd (sI M 897 x1) fun M2 =>
  bnd (sI M2 898 x2) fun M7 =>
  bnd (sI M7 899 x3) fun M12 =>
  some (sI M12 900 x4)
theorem tfX1_hold (n0 : Nat) (hO : OKc p (rmL 1) s m args meth c LX D cy ad cX1_hold RX1 5 1 none) (x1 : Int32) (x2 : Int32) (x3 : Int32) (x4 : Int32) (M : Mem) : BL p l e (rmL 1) s m args below meth c LX D cy ad 5 (QV LX D cy ad) 0 [(0, .ref (ad 7)), (1, .int x1), (2, .int x2), (3, .int x3), (4, .int x4)] [] M (fX1_hold n0 x1 x2 x3 x4 M) := by
  unfold fX1_hold
  refine b_aload_n hO dX1_hold_0 0 rfl rfl ?_
  refine b_iload_n hO dX1_hold_1 1 rfl rfl ?_
  refine b_putI hO flX1_9 kLX_7 rfl rfl rfl (id := 897) rfl dX1_hold_2 ?_
  refine b_bnd (fun M2 => ?_)
  refine b_aload_n hO dX1_hold_5 0 rfl rfl ?_
  refine b_iload_n hO dX1_hold_6 2 rfl rfl ?_
  refine b_putI hO flX1_15 kLX_7 rfl rfl rfl (id := 898) rfl dX1_hold_7 ?_
  refine b_bnd (fun M7 => ?_)
  refine b_aload_n hO dX1_hold_10 0 rfl rfl ?_
  refine b_iload_n hO dX1_hold_11 3 rfl rfl ?_
  refine b_putI hO flX1_18 kLX_7 rfl rfl rfl (id := 899) rfl dX1_hold_12 ?_
  refine b_bnd (fun M12 => ?_)
  refine b_aload_n hO dX1_hold_15 0 rfl rfl ?_
  refine b_iload hO dX1_hold_16 4 rfl ?_
  refine b_putI hO flX1_21 kLX_7 rfl rfl rfl (id := 900) rfl dX1_hold_18 ?_
  exact b_vret hO dX1_hold_21
theorem ctX1_hold (n0 : Nat) (hI : Inj LX ad) (x1 : Int32) (x2 : Int32) (x3 : Int32) (x4 : Int32) (M : Mem) : CT l LX D cy ad yX1_hold cX1_hold 5 none 1 (QV LX D cy ad) [.ref (ad 7), .int x1, .int x2, .int x3, .int x4] M (fX1_hold n0 x1 x2 x3 x4 M) :=
  CT.mk LXok hI (by decide) (Nat.le_of_ble_eq_true rfl) (fun hO => tfX1_hold n0 hO x1 x2 x3 x4 M)
/-! X1_join -/
def fX1_join_332 (n0 : Nat) (x3 : Int32) (y6 : Int64) (M : Mem) : Option (Mem) :=
  if oob x3 64 then none else
  some (sA M 9 (Int32.toNatClampNeg x3) ((lmax (-1000000 : Int64) (lmin (1000000 : Int64) y6))).toInt32)
def fX1_join_181 (n0 : Nat) (x3 : Int32) (v0 : Int64) (M : Mem) : Option (Mem) :=
  fX1_join_332 n0 x3 v0 M
def fX1_join_203 (n0 : Nat) (x3 : Int32) (v0 : Int64) (M : Mem) : Option (Mem) :=
  fX1_join_332 n0 x3 v0 M
def fX1_join_254 (n0 : Nat) (x3 : Int32) (v0 : Int64) (M : Mem) : Option (Mem) :=
  fX1_join_332 n0 x3 v0 M
def fX1_join_271 (n0 : Nat) (x3 : Int32) (v0 : Int64) (M : Mem) : Option (Mem) :=
  fX1_join_332 n0 x3 v0 M
def fX1_join_288 (n0 : Nat) (x3 : Int32) (v0 : Int64) (M : Mem) : Option (Mem) :=
  fX1_join_332 n0 x3 v0 M
def fX1_join_305 (n0 : Nat) (x3 : Int32) (v0 : Int64) (M : Mem) : Option (Mem) :=
  fX1_join_332 n0 x3 v0 M
def fX1_join_11 (n0 : Nat) (x1 : Int32) (u0 : Int32) (M : Mem) : Option (Mem) :=
  if u0 ≤ (gI M 903) then
    bnd (sI M 903 ((gI M 903) - (u0 - (1 : Int32)))) fun M30 =>
    bnd ((gI M30 903) - (1 : Int32)) fun x3_39 =>
    if oob x3_39 64 then none else
    bnd (gA M30 9 (Int32.toNatClampNeg x3_39)) fun x4_46 =>
    if oob (x3_39 + (1 : Int32)) 64 then none else
    bnd (gA M30 9 (Int32.toNatClampNeg (x3_39 + (1 : Int32)))) fun x5_56 =>
    if x1 = (-19 : Int32) then
      bnd ((x4_46 ||| x5_56)).toInt64 fun y6_327 =>
      fX1_join_332 n0 x3_39 y6_327 M30
    else
    if x1 = (-18 : Int32) then
      bnd ((x4_46 &&& x5_56)).toInt64 fun y6_316 =>
      fX1_join_332 n0 x3_39 y6_316 M30
    else
    if x1 = (-17 : Int32) then
      if x4_46 = x5_56 then
        fX1_join_305 n0 x3_39 (1 : Int64) M30
      else
        fX1_join_305 n0 x3_39 (0 : Int64) M30
    else
    if x1 = (-16 : Int32) then
      if x4_46 ≤ x5_56 then
        fX1_join_288 n0 x3_39 (0 : Int64) M30
      else
        fX1_join_288 n0 x3_39 (1 : Int64) M30
    else
    if x1 = (-15 : Int32) then
      if x5_56 ≤ x4_46 then
        fX1_join_271 n0 x3_39 (0 : Int64) M30
      else
        fX1_join_271 n0 x3_39 (1 : Int64) M30
    else
    if x1 = (-14 : Int32) then
      if x4_46 = 0 then
        if oob (x3_39 + (2 : Int32)) 64 then none else
        fX1_join_254 n0 x3_39 ((gA M30 9 (Int32.toNatClampNeg (x3_39 + (2 : Int32))))).toInt64 M30
      else
        fX1_join_254 n0 x3_39 (x5_56).toInt64 M30
    else
    if x1 = (-13 : Int32) then
      bnd ((imax x4_46 x5_56)).toInt64 fun y6_229 =>
      fX1_join_332 n0 x3_39 y6_229 M30
    else
    if x1 = (-12 : Int32) then
      bnd ((imin x4_46 x5_56)).toInt64 fun y6_216 =>
      fX1_join_332 n0 x3_39 y6_216 M30
    else
    if x1 = (-11 : Int32) then
      if x5_56 = 0 then
        fX1_join_203 n0 x3_39 (0 : Int64) M30
      else
        (fJ9_floorMod_7cf53 n0 x4_46 x5_56 M30).bind fun z199 =>
        fX1_join_203 n0 x3_39 (z199.1).toInt64 z199.2
    else
    if x1 = (-10 : Int32) then
      if x5_56 = 0 then
        fX1_join_181 n0 x3_39 (0 : Int64) M30
      else
        (fJ9_floorDiv_7cf53 n0 x4_46 x5_56 M30).bind fun z177 =>
        fX1_join_181 n0 x3_39 (z177.1).toInt64 z177.2
    else
    if x1 = (-9 : Int32) then
      bnd ((x4_46).toInt64 * (x5_56).toInt64) fun y6_159 =>
      fX1_join_332 n0 x3_39 y6_159 M30
    else
    if x1 = (-8 : Int32) then
      bnd ((x4_46).toInt64 - (x5_56).toInt64) fun y6_147 =>
      fX1_join_332 n0 x3_39 y6_147 M30
    else
    if x1 = (-7 : Int32) then
      bnd ((x4_46).toInt64 + (x5_56).toInt64) fun y6_135 =>
      fX1_join_332 n0 x3_39 y6_135 M30
    else
    fX1_join_332 n0 x3_39 (0 : Int64) M30
  else
    some M
def fX1_join (n0 : Nat) (x1 : Int32) (M : Mem) : Option (Mem) :=
  if x1 = (-14 : Int32) then
    fX1_join_11 n0 x1 (3 : Int32) M
  else
    fX1_join_11 n0 x1 (2 : Int32) M
theorem tfX1_join_332 (n0 : Nat) (hO : OKc p (rmL 2) s m args meth c LX D cy ad cX1_join RX1 8 2 none) (x3 : Int32) (y6 : Int64) (M : Mem) : BL p l e (rmL 2) s m args below meth c LX D cy ad 8 (QV LX D cy ad) 332 [(0, .ref (ad 7)), (3, .int x3), (6, .long y6)] [] M (fX1_join_332 n0 x3 y6 M) := by
  unfold fX1_join_332
  refine b_aload_n hO dX1_join_332 0 rfl rfl ?_
  refine b_get hO flX1_28 kLX_7 (v := .ref (ad 9)) rfl dX1_join_333 ?_
  refine b_iload_n hO dX1_join_336 1 rfl rfl ?_
  refine b_ldc2 hO w596 dX1_join_337 ?_
  refine b_ldc2 hO w597 dX1_join_340 ?_
  refine b_lload hO dX1_join_343 2 rfl ?_
  refine b_mmin_long hO w598 w599 w136 wm600 (by first | decide | omega) (Nat.le_of_ble_eq_true rfl) dX1_join_345 ?_
  refine b_mmax_long hO w601 w602 w136 wm603 (by first | decide | omega) (Nat.le_of_ble_eq_true rfl) dX1_join_348 ?_
  refine b_l2i hO dX1_join_351 ?_
  refine b_iast hO kLX_9 (n := 64) rfl dX1_join_352 ?_
  exact b_vret hO dX1_join_353
theorem tfX1_join_181 (n0 : Nat) (hO : OKc p (rmL 2) s m args meth c LX D cy ad cX1_join RX1 8 2 none) (x3 : Int32) (v0 : Int64) (M : Mem) : BL p l e (rmL 2) s m args below meth c LX D cy ad 8 (QV LX D cy ad) 181 [(0, .ref (ad 7)), (3, .int x3)] [.long v0] M (fX1_join_181 n0 x3 v0 M) := by
  unfold fX1_join_181
  refine b_lstore hO dX1_join_181 (by decide) (lv' := [(6, .long _), (0, .ref _), (3, .int _)]) rfl ?_
  refine b_goto hO dX1_join_183 (tgt := 332) (by decide) ?_
  refine b_sub [1, 2, 0] rfl ?_
  exact tfX1_join_332 n0 hO _ _ _
theorem tfX1_join_203 (n0 : Nat) (hO : OKc p (rmL 2) s m args meth c LX D cy ad cX1_join RX1 8 2 none) (x3 : Int32) (v0 : Int64) (M : Mem) : BL p l e (rmL 2) s m args below meth c LX D cy ad 8 (QV LX D cy ad) 203 [(0, .ref (ad 7)), (3, .int x3)] [.long v0] M (fX1_join_203 n0 x3 v0 M) := by
  unfold fX1_join_203
  refine b_lstore hO dX1_join_203 (by decide) (lv' := [(6, .long _), (0, .ref _), (3, .int _)]) rfl ?_
  refine b_goto hO dX1_join_205 (tgt := 332) (by decide) ?_
  refine b_sub [1, 2, 0] rfl ?_
  exact tfX1_join_332 n0 hO _ _ _
theorem tfX1_join_254 (n0 : Nat) (hO : OKc p (rmL 2) s m args meth c LX D cy ad cX1_join RX1 8 2 none) (x3 : Int32) (v0 : Int64) (M : Mem) : BL p l e (rmL 2) s m args below meth c LX D cy ad 8 (QV LX D cy ad) 254 [(0, .ref (ad 7)), (3, .int x3)] [.long v0] M (fX1_join_254 n0 x3 v0 M) := by
  unfold fX1_join_254
  refine b_lstore hO dX1_join_254 (by decide) (lv' := [(6, .long _), (0, .ref _), (3, .int _)]) rfl ?_
  refine b_goto hO dX1_join_256 (tgt := 332) (by decide) ?_
  refine b_sub [1, 2, 0] rfl ?_
  exact tfX1_join_332 n0 hO _ _ _
theorem tfX1_join_271 (n0 : Nat) (hO : OKc p (rmL 2) s m args meth c LX D cy ad cX1_join RX1 8 2 none) (x3 : Int32) (v0 : Int64) (M : Mem) : BL p l e (rmL 2) s m args below meth c LX D cy ad 8 (QV LX D cy ad) 271 [(0, .ref (ad 7)), (3, .int x3)] [.long v0] M (fX1_join_271 n0 x3 v0 M) := by
  unfold fX1_join_271
  refine b_lstore hO dX1_join_271 (by decide) (lv' := [(6, .long _), (0, .ref _), (3, .int _)]) rfl ?_
  refine b_goto hO dX1_join_273 (tgt := 332) (by decide) ?_
  refine b_sub [1, 2, 0] rfl ?_
  exact tfX1_join_332 n0 hO _ _ _
theorem tfX1_join_288 (n0 : Nat) (hO : OKc p (rmL 2) s m args meth c LX D cy ad cX1_join RX1 8 2 none) (x3 : Int32) (v0 : Int64) (M : Mem) : BL p l e (rmL 2) s m args below meth c LX D cy ad 8 (QV LX D cy ad) 288 [(0, .ref (ad 7)), (3, .int x3)] [.long v0] M (fX1_join_288 n0 x3 v0 M) := by
  unfold fX1_join_288
  refine b_lstore hO dX1_join_288 (by decide) (lv' := [(6, .long _), (0, .ref _), (3, .int _)]) rfl ?_
  refine b_goto hO dX1_join_290 (tgt := 332) (by decide) ?_
  refine b_sub [1, 2, 0] rfl ?_
  exact tfX1_join_332 n0 hO _ _ _
theorem tfX1_join_305 (n0 : Nat) (hO : OKc p (rmL 2) s m args meth c LX D cy ad cX1_join RX1 8 2 none) (x3 : Int32) (v0 : Int64) (M : Mem) : BL p l e (rmL 2) s m args below meth c LX D cy ad 8 (QV LX D cy ad) 305 [(0, .ref (ad 7)), (3, .int x3)] [.long v0] M (fX1_join_305 n0 x3 v0 M) := by
  unfold fX1_join_305
  refine b_lstore hO dX1_join_305 (by decide) (lv' := [(6, .long _), (0, .ref _), (3, .int _)]) rfl ?_
  refine b_goto hO dX1_join_307 (tgt := 332) (by decide) ?_
  refine b_sub [1, 2, 0] rfl ?_
  exact tfX1_join_332 n0 hO _ _ _
theorem tfX1_join_11 (n0 : Nat) (hO : OKc p (rmL 2) s m args meth c LX D cy ad cX1_join RX1 8 2 none) (x1 : Int32) (u0 : Int32) (M : Mem) : BL p l e (rmL 2) s m args below meth c LX D cy ad 8 (QV LX D cy ad) 11 [(0, .ref (ad 7)), (1, .int x1)] [.int u0] M (fX1_join_11 n0 x1 u0 M) := by
  unfold fX1_join_11
  refine b_istore_n hO dX1_join_11 rfl (by decide) (lv' := [(2, .int _), (0, .ref _), (1, .int _)]) rfl ?_
  refine b_aload_n hO dX1_join_12 1 rfl rfl ?_
  refine b_get hO flX1_31 kLX_7 (v := .int (gI _ 903)) rfl dX1_join_13 ?_
  refine b_iload_n hO dX1_join_16 0 rfl rfl ?_
  refine b_icmp_ge hO dX1_join_17 (tgt := 21) (by decide) ?_ ?_
  · refine b_aload_n hO dX1_join_21 1 rfl rfl ?_
    refine b_dup hO dX1_join_22 rfl ?_
    refine b_get hO flX1_31 kLX_7 (v := .int (gI _ 903)) rfl dX1_join_23 ?_
    refine b_iload_n hO dX1_join_26 0 rfl rfl ?_
    refine b_iconst hO dX1_join_27 ic_i_1 ?_
    refine b_isub hO dX1_join_28 ?_
    refine b_isub hO dX1_join_29 ?_
    refine b_putI hO flX1_31 kLX_7 rfl rfl rfl (id := 903) rfl dX1_join_30 ?_
    refine b_bnd (fun M30 => ?_)
    refine b_aload_n hO dX1_join_33 1 rfl rfl ?_
    refine b_get hO flX1_31 kLX_7 (v := .int (gI _ 903)) rfl dX1_join_34 ?_
    refine b_iconst hO dX1_join_37 ic_i_1 ?_
    refine b_isub hO dX1_join_38 ?_
    refine b_topI (fun x3_39 => ?_)
    refine b_istore_n hO dX1_join_39 rfl (by decide) (lv' := [(3, .int _), (2, .int _), (0, .ref _), (1, .int _)]) rfl ?_
    refine b_aload_n hO dX1_join_40 2 rfl rfl ?_
    refine b_get hO flX1_28 kLX_7 (v := .ref (ad 9)) rfl dX1_join_41 ?_
    refine b_iload_n hO dX1_join_44 0 rfl rfl ?_
    refine b_iald hO kLX_9 (n := 64) rfl dX1_join_45 ?_
    refine b_topI (fun x4_46 => ?_)
    refine b_istore hO dX1_join_46 (by decide) (lv' := [(4, .int _), (3, .int _), (2, .int _), (0, .ref _), (1, .int _)]) rfl ?_
    refine b_aload_n hO dX1_join_48 3 rfl rfl ?_
    refine b_get hO flX1_28 kLX_7 (v := .ref (ad 9)) rfl dX1_join_49 ?_
    refine b_iload_n hO dX1_join_52 1 rfl rfl ?_
    refine b_iconst hO dX1_join_53 ic_i_1 ?_
    refine b_iadd hO dX1_join_54 ?_
    refine b_iald hO kLX_9 (n := 64) rfl dX1_join_55 ?_
    refine b_topI (fun x5_56 => ?_)
    refine b_istore hO dX1_join_56 (by decide) (lv' := [(5, .int _), (4, .int _), (3, .int _), (2, .int _), (0, .ref _), (1, .int _)]) rfl ?_
    refine b_lconst hO dX1_join_58 (v := 0) rfl ?_
    refine b_lstore hO dX1_join_59 (by decide) (lv' := [(6, .long _), (5, .int _), (4, .int _), (3, .int _), (2, .int _), (0, .ref _), (1, .int _)]) rfl ?_
    refine b_iload_n hO dX1_join_61 6 rfl rfl ?_
    refine b_tabIn hO dX1_join_62 (v := (-19 : Int32)) (z := -19) (tgt := 321) (by decide) (by decide) (by decide) rfl (by decide) ?_ (fun hn0 => ?_)
    · refine b_iload hO dX1_join_321 2 rfl ?_
      refine b_iload hO dX1_join_323 1 rfl ?_
      refine b_ior hO dX1_join_325 ?_
      refine b_i2l hO dX1_join_326 ?_
      refine b_topL (fun y6_327 => ?_)
      refine b_lstore hO dX1_join_327 (by decide) (lv' := [(6, .long _), (5, .int _), (4, .int _), (3, .int _), (2, .int _), (0, .ref _), (1, .int _)]) rfl ?_
      refine b_goto hO dX1_join_329 (tgt := 332) (by decide) ?_
      refine b_sub [5, 3, 0] rfl ?_
      exact tfX1_join_332 n0 hO _ _ _
    refine b_tabIn hO dX1_join_62 (v := (-18 : Int32)) (z := -18) (tgt := 310) (by decide) (by decide) (by decide) rfl (by decide) ?_ (fun hn1 => ?_)
    · refine b_iload hO dX1_join_310 2 rfl ?_
      refine b_iload hO dX1_join_312 1 rfl ?_
      refine b_iand hO dX1_join_314 ?_
      refine b_i2l hO dX1_join_315 ?_
      refine b_topL (fun y6_316 => ?_)
      refine b_lstore hO dX1_join_316 (by decide) (lv' := [(6, .long _), (5, .int _), (4, .int _), (3, .int _), (2, .int _), (0, .ref _), (1, .int _)]) rfl ?_
      refine b_goto hO dX1_join_318 (tgt := 332) (by decide) ?_
      refine b_sub [5, 3, 0] rfl ?_
      exact tfX1_join_332 n0 hO _ _ _
    refine b_tabIn hO dX1_join_62 (v := (-17 : Int32)) (z := -17) (tgt := 293) (by decide) (by decide) (by decide) rfl (by decide) ?_ (fun hn2 => ?_)
    · refine b_iload hO dX1_join_293 2 rfl ?_
      refine b_iload hO dX1_join_295 1 rfl ?_
      refine b_icmp_ne hO dX1_join_297 (tgt := 304) (by decide) ?_ ?_
      · refine b_lconst hO dX1_join_304 (v := 0) rfl ?_
        refine b_sub [5, 3] rfl ?_
        exact tfX1_join_305 n0 hO _ _ _
      · refine b_lconst hO dX1_join_300 (v := 1) rfl ?_
        refine b_goto hO dX1_join_301 (tgt := 305) (by decide) ?_
        refine b_sub [5, 3] rfl ?_
        exact tfX1_join_305 n0 hO _ _ _
    refine b_tabIn hO dX1_join_62 (v := (-16 : Int32)) (z := -16) (tgt := 276) (by decide) (by decide) (by decide) rfl (by decide) ?_ (fun hn3 => ?_)
    · refine b_iload hO dX1_join_276 2 rfl ?_
      refine b_iload hO dX1_join_278 1 rfl ?_
      refine b_icmp_le hO dX1_join_280 (tgt := 287) (by decide) ?_ ?_
      · refine b_lconst hO dX1_join_287 (v := 0) rfl ?_
        refine b_sub [5, 3] rfl ?_
        exact tfX1_join_288 n0 hO _ _ _
      · refine b_lconst hO dX1_join_283 (v := 1) rfl ?_
        refine b_goto hO dX1_join_284 (tgt := 288) (by decide) ?_
        refine b_sub [5, 3] rfl ?_
        exact tfX1_join_288 n0 hO _ _ _
    refine b_tabIn hO dX1_join_62 (v := (-15 : Int32)) (z := -15) (tgt := 259) (by decide) (by decide) (by decide) rfl (by decide) ?_ (fun hn4 => ?_)
    · refine b_iload hO dX1_join_259 2 rfl ?_
      refine b_iload hO dX1_join_261 1 rfl ?_
      refine b_icmp_ge hO dX1_join_263 (tgt := 270) (by decide) ?_ ?_
      · refine b_lconst hO dX1_join_270 (v := 0) rfl ?_
        refine b_sub [5, 3] rfl ?_
        exact tfX1_join_271 n0 hO _ _ _
      · refine b_lconst hO dX1_join_266 (v := 1) rfl ?_
        refine b_goto hO dX1_join_267 (tgt := 271) (by decide) ?_
        refine b_sub [5, 3] rfl ?_
        exact tfX1_join_271 n0 hO _ _ _
    refine b_tabIn hO dX1_join_62 (v := (-14 : Int32)) (z := -14) (tgt := 234) (by decide) (by decide) (by decide) rfl (by decide) ?_ (fun hn5 => ?_)
    · refine b_iload hO dX1_join_234 2 rfl ?_
      refine b_if_eq hO dX1_join_236 (tgt := 245) (by decide) ?_ ?_
      · refine b_aload_n hO dX1_join_245 5 rfl rfl ?_
        refine b_get hO flX1_28 kLX_7 (v := .ref (ad 9)) rfl dX1_join_246 ?_
        refine b_iload_n hO dX1_join_249 3 rfl rfl ?_
        refine b_iconst hO dX1_join_250 ic_i_2 ?_
        refine b_iadd hO dX1_join_251 ?_
        refine b_iald hO kLX_9 (n := 64) rfl dX1_join_252 ?_
        refine b_i2l hO dX1_join_253 ?_
        refine b_sub [5, 3] rfl ?_
        exact tfX1_join_254 n0 hO _ _ _
      · refine b_iload hO dX1_join_239 1 rfl ?_
        refine b_i2l hO dX1_join_241 ?_
        refine b_goto hO dX1_join_242 (tgt := 254) (by decide) ?_
        refine b_sub [5, 3] rfl ?_
        exact tfX1_join_254 n0 hO _ _ _
    refine b_tabIn hO dX1_join_62 (v := (-13 : Int32)) (z := -13) (tgt := 221) (by decide) (by decide) (by decide) rfl (by decide) ?_ (fun hn6 => ?_)
    · refine b_iload hO dX1_join_221 2 rfl ?_
      refine b_iload hO dX1_join_223 1 rfl ?_
      refine b_mmax hO w593 w594 w136 wm595 (by first | decide | omega) (Nat.le_of_ble_eq_true rfl) dX1_join_225 ?_
      refine b_i2l hO dX1_join_228 ?_
      refine b_topL (fun y6_229 => ?_)
      refine b_lstore hO dX1_join_229 (by decide) (lv' := [(6, .long _), (5, .int _), (4, .int _), (3, .int _), (2, .int _), (0, .ref _), (1, .int _)]) rfl ?_
      refine b_goto hO dX1_join_231 (tgt := 332) (by decide) ?_
      refine b_sub [5, 3, 0] rfl ?_
      exact tfX1_join_332 n0 hO _ _ _
    refine b_tabIn hO dX1_join_62 (v := (-12 : Int32)) (z := -12) (tgt := 208) (by decide) (by decide) (by decide) rfl (by decide) ?_ (fun hn7 => ?_)
    · refine b_iload hO dX1_join_208 2 rfl ?_
      refine b_iload hO dX1_join_210 1 rfl ?_
      refine b_mmin hO w590 w591 w136 wm592 (by first | decide | omega) (Nat.le_of_ble_eq_true rfl) dX1_join_212 ?_
      refine b_i2l hO dX1_join_215 ?_
      refine b_topL (fun y6_216 => ?_)
      refine b_lstore hO dX1_join_216 (by decide) (lv' := [(6, .long _), (5, .int _), (4, .int _), (3, .int _), (2, .int _), (0, .ref _), (1, .int _)]) rfl ?_
      refine b_goto hO dX1_join_218 (tgt := 332) (by decide) ?_
      refine b_sub [5, 3, 0] rfl ?_
      exact tfX1_join_332 n0 hO _ _ _
    refine b_tabIn hO dX1_join_62 (v := (-11 : Int32)) (z := -11) (tgt := 186) (by decide) (by decide) (by decide) rfl (by decide) ?_ (fun hn8 => ?_)
    · refine b_iload hO dX1_join_186 1 rfl ?_
      refine b_if_ne hO dX1_join_188 (tgt := 195) (by decide) ?_ ?_
      · refine b_iload hO dX1_join_195 2 rfl ?_
        refine b_iload hO dX1_join_197 1 rfl ?_
        refine b_callSI hO mdJ9_floorMod_7cf53 w588 w587 (As := [.int _, .int _]) (st := []) (ctJ9_floorMod_7cf53 n0 hO.2.2.2.2.2.2.1 _ _ _) (Nat.le_of_ble_eq_true rfl) rfl rfl (Nat.le_of_ble_eq_true rfl) dX1_join_199 (fun z199 => ?_)
        refine b_i2l hO dX1_join_202 ?_
        refine b_sub [5, 3] rfl ?_
        exact tfX1_join_203 n0 hO _ _ _
      · refine b_lconst hO dX1_join_191 (v := 0) rfl ?_
        refine b_goto hO dX1_join_192 (tgt := 203) (by decide) ?_
        refine b_sub [5, 3] rfl ?_
        exact tfX1_join_203 n0 hO _ _ _
    refine b_tabIn hO dX1_join_62 (v := (-10 : Int32)) (z := -10) (tgt := 164) (by decide) (by decide) (by decide) rfl (by decide) ?_ (fun hn9 => ?_)
    · refine b_iload hO dX1_join_164 1 rfl ?_
      refine b_if_ne hO dX1_join_166 (tgt := 173) (by decide) ?_ ?_
      · refine b_iload hO dX1_join_173 2 rfl ?_
        refine b_iload hO dX1_join_175 1 rfl ?_
        refine b_callSI hO mdJ9_floorDiv_7cf53 w585 w584 (As := [.int _, .int _]) (st := []) (ctJ9_floorDiv_7cf53 n0 hO.2.2.2.2.2.2.1 _ _ _) (Nat.le_of_ble_eq_true rfl) rfl rfl (Nat.le_of_ble_eq_true rfl) dX1_join_177 (fun z177 => ?_)
        refine b_i2l hO dX1_join_180 ?_
        refine b_sub [5, 3] rfl ?_
        exact tfX1_join_181 n0 hO _ _ _
      · refine b_lconst hO dX1_join_169 (v := 0) rfl ?_
        refine b_goto hO dX1_join_170 (tgt := 181) (by decide) ?_
        refine b_sub [5, 3] rfl ?_
        exact tfX1_join_181 n0 hO _ _ _
    refine b_tabIn hO dX1_join_62 (v := (-9 : Int32)) (z := -9) (tgt := 152) (by decide) (by decide) (by decide) rfl (by decide) ?_ (fun hn10 => ?_)
    · refine b_iload hO dX1_join_152 2 rfl ?_
      refine b_i2l hO dX1_join_154 ?_
      refine b_iload hO dX1_join_155 1 rfl ?_
      refine b_i2l hO dX1_join_157 ?_
      refine b_lmul hO dX1_join_158 ?_
      refine b_topL (fun y6_159 => ?_)
      refine b_lstore hO dX1_join_159 (by decide) (lv' := [(6, .long _), (5, .int _), (4, .int _), (3, .int _), (2, .int _), (0, .ref _), (1, .int _)]) rfl ?_
      refine b_goto hO dX1_join_161 (tgt := 332) (by decide) ?_
      refine b_sub [5, 3, 0] rfl ?_
      exact tfX1_join_332 n0 hO _ _ _
    refine b_tabIn hO dX1_join_62 (v := (-8 : Int32)) (z := -8) (tgt := 140) (by decide) (by decide) (by decide) rfl (by decide) ?_ (fun hn11 => ?_)
    · refine b_iload hO dX1_join_140 2 rfl ?_
      refine b_i2l hO dX1_join_142 ?_
      refine b_iload hO dX1_join_143 1 rfl ?_
      refine b_i2l hO dX1_join_145 ?_
      refine b_lsub hO dX1_join_146 ?_
      refine b_topL (fun y6_147 => ?_)
      refine b_lstore hO dX1_join_147 (by decide) (lv' := [(6, .long _), (5, .int _), (4, .int _), (3, .int _), (2, .int _), (0, .ref _), (1, .int _)]) rfl ?_
      refine b_goto hO dX1_join_149 (tgt := 332) (by decide) ?_
      refine b_sub [5, 3, 0] rfl ?_
      exact tfX1_join_332 n0 hO _ _ _
    refine b_tabIn hO dX1_join_62 (v := (-7 : Int32)) (z := -7) (tgt := 128) (by decide) (by decide) (by decide) rfl (by decide) ?_ (fun hn12 => ?_)
    · refine b_iload hO dX1_join_128 2 rfl ?_
      refine b_i2l hO dX1_join_130 ?_
      refine b_iload hO dX1_join_131 1 rfl ?_
      refine b_i2l hO dX1_join_133 ?_
      refine b_ladd hO dX1_join_134 ?_
      refine b_topL (fun y6_135 => ?_)
      refine b_lstore hO dX1_join_135 (by decide) (lv' := [(6, .long _), (5, .int _), (4, .int _), (3, .int _), (2, .int _), (0, .ref _), (1, .int _)]) rfl ?_
      refine b_goto hO dX1_join_137 (tgt := 332) (by decide) ?_
      refine b_sub [5, 3, 0] rfl ?_
      exact tfX1_join_332 n0 hO _ _ _
    refine b_tabOut hO dX1_join_62 (tgt := 332) (by omega) (by decide) ?_
    refine b_sub [5, 3, 0] rfl ?_
    exact tfX1_join_332 n0 hO _ _ _
  · exact b_vret hO dX1_join_20
theorem tfX1_join (n0 : Nat) (hO : OKc p (rmL 2) s m args meth c LX D cy ad cX1_join RX1 8 2 none) (x1 : Int32) (M : Mem) : BL p l e (rmL 2) s m args below meth c LX D cy ad 8 (QV LX D cy ad) 0 [(0, .ref (ad 7)), (1, .int x1)] [] M (fX1_join n0 x1 M) := by
  unfold fX1_join
  refine b_iload_n hO dX1_join_0 1 rfl rfl ?_
  refine b_bipush hO dX1_join_1 ic_b_m14 ?_
  refine b_icmp_ne hO dX1_join_3 (tgt := 10) (by decide) ?_ ?_
  · refine b_iconst hO dX1_join_10 ic_i_2 ?_
    exact tfX1_join_11 n0 hO _ _ _
  · refine b_iconst hO dX1_join_6 ic_i_3 ?_
    refine b_goto hO dX1_join_7 (tgt := 11) (by decide) ?_
    exact tfX1_join_11 n0 hO _ _ _
theorem ctX1_join (n0 : Nat) (hI : Inj LX ad) (x1 : Int32) (M : Mem) : CT l LX D cy ad yX1_join cX1_join 8 none 2 (QV LX D cy ad) [.ref (ad 7), .int x1] M (fX1_join n0 x1 M) :=
  CT.mk LXok hI (by decide) (Nat.le_of_ble_eq_true rfl) (fun hO => tfX1_join n0 hO x1 M)
/-! X1_valueOf -/
def fX1_valueOf_203 (n0 : Nat) (q1 : Nat) (k124 : Int32 → Mem → Option (Int32 × Mem)) (x3 : Int32) (M : Mem) : Option (Int32 × Mem) :=
  k124 (x3 + (1 : Int32)) M
def fX1_valueOf_192 (n0 : Nat) (q1 : Nat) (k124 : Int32 → Mem → Option (Int32 × Mem)) (x3 : Int32) (u1 : Int32) (u2 : Int32) (M : Mem) : Option (Int32 × Mem) :=
  if oob u1 64 then none else
  bnd (sA M 9 (Int32.toNatClampNeg u1) u2) fun M192 =>
  fX1_valueOf_203 n0 q1 k124 x3 (sI M192 903 ((gI M192 903) + (1 : Int32)))
def bX1_valueOf_124 (n0 : Nat) (q1 : Nat) (k124 : Int32 → Mem → Option (Int32 × Mem)) (x3 : Int32) (M : Mem) : Option (Int32 × Mem) :=
  if (gI M (128 * q1 + 1)) ≤ x3 then
    if (gI M 903) ≤ 0 then
      some ((0 : Int32), M)
    else
      if oob (0 : Int32) 64 then none else
      some ((gA M 9 (Int32.toNatClampNeg (0 : Int32))), M)
  else
    if oob x3 1600 then none else
    bnd (gA M (q1 + 1) (Int32.toNatClampNeg x3)) fun x4_138 =>
    if (-6 : Int32) ≤ x4_138 then
      if (64 : Int32) ≤ (gI M 903) then
        fX1_valueOf_203 n0 q1 k124 x3 M
      else
        if x4_138 < 0 then
          if oob ((-1 : Int32) - x4_138) 6 then none else
          fX1_valueOf_192 n0 q1 k124 x3 (gI M 903) (gA M 8 (Int32.toNatClampNeg ((-1 : Int32) - x4_138))) M
        else
          fX1_valueOf_192 n0 q1 k124 x3 (gI M 903) x4_138 M
    else
      (fX1_join n0 x4_138 M).bind fun z150 =>
      fX1_valueOf_203 n0 q1 k124 x3 z150
def fX1_valueOf_124 (n0 : Nat) (q1 : Nat) : Int32 → Mem → Option (Int32 × Mem) := loopN (bX1_valueOf_124 n0 q1) (fun _ _ => none) n0
def fX1_valueOf_116 (n0 : Nat) (q1 : Nat) (u1 : Int32) (u2 : Int32) (M : Mem) : Option (Int32 × Mem) :=
  if oob u1 6 then none else
  bnd (sA M 8 (Int32.toNatClampNeg u1) u2) fun M116 =>
  bnd (sI M116 903 (0 : Int32)) fun M119 =>
  fX1_valueOf_124 n0 q1 (0 : Int32) M119
def fX1_valueOf_90 (n0 : Nat) (q1 : Nat) (x2 : Int32) (u1 : Int32) (u2 : Int32) (M : Mem) : Option (Int32 × Mem) :=
  if oob u1 6 then none else
  bnd (sA M 8 (Int32.toNatClampNeg u1) u2) fun M90 =>
  if x2 = 0 then
    if oob (gI M90 898) 6 then none else
    fX1_valueOf_116 n0 q1 (5 : Int32) (gA M90 ((gR M90 896) + 3) (Int32.toNatClampNeg (gI M90 898))) M90
  else
    fX1_valueOf_116 n0 q1 (5 : Int32) (0 : Int32) M90
def fX1_valueOf_45 (n0 : Nat) (q1 : Nat) (x2 : Int32) (u1 : Int32) (u2 : Int32) (M : Mem) : Option (Int32 × Mem) :=
  if oob u1 6 then none else
  bnd (sA M 8 (Int32.toNatClampNeg u1) u2) fun M45 =>
  if oob (1 : Int32) 6 then none else
  bnd (sA M45 8 (Int32.toNatClampNeg (1 : Int32)) (gI M45 899)) fun M55 =>
  if oob (2 : Int32) 6 then none else
  bnd (sA M55 8 (Int32.toNatClampNeg (2 : Int32)) (gI M55 897)) fun M65 =>
  if oob (3 : Int32) 6 then none else
  bnd (sA M65 8 (Int32.toNatClampNeg (3 : Int32)) (gI M65 900)) fun M75 =>
  if x2 = 0 then
    fX1_valueOf_90 n0 q1 x2 (4 : Int32) (0 : Int32) M75
  else
    fX1_valueOf_90 n0 q1 x2 (4 : Int32) (1 : Int32) M75
def fX1_valueOf_19 (n0 : Nat) (q1 : Nat) (u0 : Int32) (M : Mem) : Option (Int32 × Mem) :=
  if u0 = 0 then
    if oob (gI M 898) 6 then none else
    fX1_valueOf_45 n0 q1 u0 (0 : Int32) (gA M ((gR M 896) + 2) (Int32.toNatClampNeg (gI M 898))) M
  else
    fX1_valueOf_45 n0 q1 u0 (0 : Int32) (0 : Int32) M
def fX1_valueOf (n0 : Nat) (q1 : Nat) (M : Mem) : Option (Int32 × Mem) :=
  (fX9_isThing n0 (gR M 896) (gI M 898) M).bind fun z8 =>
  if z8.1 = 0 then
    fX1_valueOf_19 n0 q1 (1 : Int32) z8.2
  else
    fX1_valueOf_19 n0 q1 (0 : Int32) z8.2
theorem tfX1_valueOf_203 (n0 : Nat) (q1 : Nat) (hq1 : isK LX q1 0) (hO : OKc p (rmL 3) s m args meth c LX D cy ad cX1_valueOf RX1 5 3 (some .int)) (k124 : Int32 → Mem → Option (Int32 × Mem)) (hk124 : ∀ (x3 : Int32) (M : Mem), BL p l e (rmL 3) s m args below meth c LX D cy ad 5 (QI LX D cy ad) 124 [(0, .ref (ad 7)), (1, .ref (ad q1)), (3, .int x3)] [] M (k124 x3 M)) (x3 : Int32) (M : Mem) : BL p l e (rmL 3) s m args below meth c LX D cy ad 5 (QI LX D cy ad) 203 [(0, .ref (ad 7)), (1, .ref (ad q1)), (3, .int x3)] [] M (fX1_valueOf_203 n0 q1 k124 x3 M) := by
  unfold fX1_valueOf_203
  refine b_iinc hO dX1_valueOf_203 2 rfl ic_i_1 (by decide) (lv' := [(3, .int _), (0, .ref _), (1, .ref _)]) rfl ?_
  refine b_goto hO dX1_valueOf_206 (tgt := 124) (by decide) ?_
  refine b_sub [1, 2, 0] rfl ?_
  exact hk124 _ _
theorem tfX1_valueOf_192 (n0 : Nat) (q1 : Nat) (hq1 : isK LX q1 0) (hO : OKc p (rmL 3) s m args meth c LX D cy ad cX1_valueOf RX1 5 3 (some .int)) (k124 : Int32 → Mem → Option (Int32 × Mem)) (hk124 : ∀ (x3 : Int32) (M : Mem), BL p l e (rmL 3) s m args below meth c LX D cy ad 5 (QI LX D cy ad) 124 [(0, .ref (ad 7)), (1, .ref (ad q1)), (3, .int x3)] [] M (k124 x3 M)) (x3 : Int32) (u1 : Int32) (u2 : Int32) (M : Mem) : BL p l e (rmL 3) s m args below meth c LX D cy ad 5 (QI LX D cy ad) 192 [(0, .ref (ad 7)), (1, .ref (ad q1)), (3, .int x3)] [.int u2, .int u1, .ref (ad 9)] M (fX1_valueOf_192 n0 q1 k124 x3 u1 u2 M) := by
  unfold fX1_valueOf_192
  refine b_iast hO kLX_9 (n := 64) rfl dX1_valueOf_192 ?_
  refine b_bnd (fun M192 => ?_)
  refine b_aload_n hO dX1_valueOf_193 0 rfl rfl ?_
  refine b_dup hO dX1_valueOf_194 rfl ?_
  refine b_get hO flX1_31 kLX_7 (v := .int (gI _ 903)) rfl dX1_valueOf_195 ?_
  refine b_iconst hO dX1_valueOf_198 ic_i_1 ?_
  refine b_iadd hO dX1_valueOf_199 ?_
  refine b_putI hO flX1_31 kLX_7 rfl rfl rfl (id := 903) rfl dX1_valueOf_200 ?_
  exact tfX1_valueOf_203 n0 q1 hq1 hO k124 hk124 _ _
theorem tbX1_valueOf_124 (n0 : Nat) (q1 : Nat) (hq1 : isK LX q1 0) (hO : OKc p (rmL 3) s m args meth c LX D cy ad cX1_valueOf RX1 5 3 (some .int)) (k124 : Int32 → Mem → Option (Int32 × Mem)) (hk124 : ∀ (x3 : Int32) (M : Mem), BL p l e (rmL 3) s m args below meth c LX D cy ad 5 (QI LX D cy ad) 124 [(0, .ref (ad 7)), (1, .ref (ad q1)), (3, .int x3)] [] M (k124 x3 M)) (x3 : Int32) (M : Mem) : BL p l e (rmL 3) s m args below meth c LX D cy ad 5 (QI LX D cy ad) 124 [(0, .ref (ad 7)), (1, .ref (ad q1)), (3, .int x3)] [] M (bX1_valueOf_124 n0 q1 k124 x3 M) := by
  unfold bX1_valueOf_124
  refine b_iload_n hO dX1_valueOf_124 2 rfl rfl ?_
  refine b_aload_n hO dX1_valueOf_125 1 rfl rfl ?_
  refine b_get hO flX1_83 hq1 (v := .int (gI _ (128 * q1 + 1))) rfl dX1_valueOf_126 ?_
  refine b_icmp_ge hO dX1_valueOf_129 (tgt := 209) (by decide) ?_ ?_
  · refine b_aload_n hO dX1_valueOf_209 0 rfl rfl ?_
    refine b_get hO flX1_31 kLX_7 (v := .int (gI _ 903)) rfl dX1_valueOf_210 ?_
    refine b_if_le hO dX1_valueOf_213 (tgt := 225) (by decide) ?_ ?_
    · refine b_iconst hO dX1_valueOf_225 ic_i_0 ?_
      exact b_iret hO dX1_valueOf_226
    · refine b_aload_n hO dX1_valueOf_216 0 rfl rfl ?_
      refine b_get hO flX1_28 kLX_7 (v := .ref (ad 9)) rfl dX1_valueOf_217 ?_
      refine b_iconst hO dX1_valueOf_220 ic_i_0 ?_
      refine b_iald hO kLX_9 (n := 64) rfl dX1_valueOf_221 ?_
      refine b_goto hO dX1_valueOf_222 (tgt := 226) (by decide) ?_
      exact b_iret hO dX1_valueOf_226
  · refine b_aload_n hO dX1_valueOf_132 1 rfl rfl ?_
    refine b_get hO flX1_86 hq1 (v := .ref (ad (q1 + 1))) rfl dX1_valueOf_133 ?_
    refine b_iload_n hO dX1_valueOf_136 2 rfl rfl ?_
    refine b_iald hO (kt_0_1 hq1) (n := 1600) (lt_0_1 hq1) dX1_valueOf_137 ?_
    refine b_topI (fun x4_138 => ?_)
    refine b_istore hO dX1_valueOf_138 (by decide) (lv' := [(4, .int _), (0, .ref _), (1, .ref _), (3, .int _)]) rfl ?_
    refine b_iload hO dX1_valueOf_140 0 rfl ?_
    refine b_bipush hO dX1_valueOf_142 ic_b_m6 ?_
    refine b_icmp_ge hO dX1_valueOf_144 (tgt := 156) (by decide) ?_ ?_
    · refine b_aload_n hO dX1_valueOf_156 1 rfl rfl ?_
      refine b_get hO flX1_31 kLX_7 (v := .int (gI _ 903)) rfl dX1_valueOf_157 ?_
      refine b_bipush hO dX1_valueOf_160 ic_b_64 ?_
      refine b_icmp_ge hO dX1_valueOf_162 (tgt := 203) (by decide) ?_ ?_
      · refine b_sub [1, 2, 3] rfl ?_
        exact tfX1_valueOf_203 n0 q1 hq1 hO k124 hk124 _ _
      · refine b_aload_n hO dX1_valueOf_165 1 rfl rfl ?_
        refine b_get hO flX1_28 kLX_7 (v := .ref (ad 9)) rfl dX1_valueOf_166 ?_
        refine b_aload_n hO dX1_valueOf_169 1 rfl rfl ?_
        refine b_get hO flX1_31 kLX_7 (v := .int (gI _ 903)) rfl dX1_valueOf_170 ?_
        refine b_iload hO dX1_valueOf_173 0 rfl ?_
        refine b_if_lt hO dX1_valueOf_175 (tgt := 183) (by decide) ?_ ?_
        · refine b_aload_n hO dX1_valueOf_183 1 rfl rfl ?_
          refine b_get hO flX1_24 kLX_7 (v := .ref (ad 8)) rfl dX1_valueOf_184 ?_
          refine b_iconst hO dX1_valueOf_187 ic_i_m1 ?_
          refine b_iload hO dX1_valueOf_188 0 rfl ?_
          refine b_isub hO dX1_valueOf_190 ?_
          refine b_iald hO kLX_8 (n := 6) rfl dX1_valueOf_191 ?_
          refine b_sub [1, 2, 3] rfl ?_
          exact tfX1_valueOf_192 n0 q1 hq1 hO k124 hk124 _ _ _ _
        · refine b_iload hO dX1_valueOf_178 0 rfl ?_
          refine b_goto hO dX1_valueOf_180 (tgt := 192) (by decide) ?_
          refine b_sub [1, 2, 3] rfl ?_
          exact tfX1_valueOf_192 n0 q1 hq1 hO k124 hk124 _ _ _ _
    · refine b_aload_n hO dX1_valueOf_147 1 rfl rfl ?_
      refine b_iload hO dX1_valueOf_148 0 rfl ?_
      refine b_callVV hO mdX1_join mvX1_join w580 (ci := 1) rfl rfl (by decide) kLX_7 (As := [.int _]) (st := []) (ctX1_join n0 hO.2.2.2.2.2.2.1 _ _) (Nat.le_of_ble_eq_true rfl) rfl rfl (Nat.le_of_ble_eq_true rfl) dX1_valueOf_150 (fun z150 => ?_)
      refine b_goto hO dX1_valueOf_153 (tgt := 203) (by decide) ?_
      refine b_sub [1, 2, 3] rfl ?_
      exact tfX1_valueOf_203 n0 q1 hq1 hO k124 hk124 _ _
theorem lX1_valueOf_124 (n0 : Nat) (q1 : Nat) (hq1 : isK LX q1 0) (hO : OKc p (rmL 3) s m args meth c LX D cy ad cX1_valueOf RX1 5 3 (some .int)) : ∀ (w : Nat) (x3 : Int32) (M : Mem), BL p l e (rmL 3) s m args below meth c LX D cy ad 5 (QI LX D cy ad) 124 [(0, .ref (ad 7)), (1, .ref (ad q1)), (3, .int x3)] [] M (loopN (bX1_valueOf_124 n0 q1) (fun _ _ => none) w x3 M) := by
  intro w
  induction w with
  | zero =>
    intros
    exact b_none
  | succ w ih =>
    intro x3 M
    exact tbX1_valueOf_124 n0 q1 hq1 hO _ ih x3 M
theorem tfX1_valueOf_124 (n0 : Nat) (q1 : Nat) (hq1 : isK LX q1 0) (hO : OKc p (rmL 3) s m args meth c LX D cy ad cX1_valueOf RX1 5 3 (some .int)) (x3 : Int32) (M : Mem) : BL p l e (rmL 3) s m args below meth c LX D cy ad 5 (QI LX D cy ad) 124 [(0, .ref (ad 7)), (1, .ref (ad q1)), (3, .int x3)] [] M (fX1_valueOf_124 n0 q1 x3 M) := lX1_valueOf_124 n0 q1 hq1 hO n0 x3 M
theorem tfX1_valueOf_116 (n0 : Nat) (q1 : Nat) (hq1 : isK LX q1 0) (hO : OKc p (rmL 3) s m args meth c LX D cy ad cX1_valueOf RX1 5 3 (some .int)) (u1 : Int32) (u2 : Int32) (M : Mem) : BL p l e (rmL 3) s m args below meth c LX D cy ad 5 (QI LX D cy ad) 116 [(0, .ref (ad 7)), (1, .ref (ad q1))] [.int u2, .int u1, .ref (ad 8)] M (fX1_valueOf_116 n0 q1 u1 u2 M) := by
  unfold fX1_valueOf_116
  refine b_iast hO kLX_8 (n := 6) rfl dX1_valueOf_116 ?_
  refine b_bnd (fun M116 => ?_)
  refine b_aload_n hO dX1_valueOf_117 0 rfl rfl ?_
  refine b_iconst hO dX1_valueOf_118 ic_i_0 ?_
  refine b_putI hO flX1_31 kLX_7 rfl rfl rfl (id := 903) rfl dX1_valueOf_119 ?_
  refine b_bnd (fun M119 => ?_)
  refine b_iconst hO dX1_valueOf_122 ic_i_0 ?_
  refine b_istore_n hO dX1_valueOf_123 rfl (by decide) (lv' := [(3, .int _), (0, .ref _), (1, .ref _)]) rfl ?_
  refine b_sub [1, 2, 0] rfl ?_
  exact tfX1_valueOf_124 n0 q1 hq1 hO _ _
theorem tfX1_valueOf_90 (n0 : Nat) (q1 : Nat) (hq1 : isK LX q1 0) (hO : OKc p (rmL 3) s m args meth c LX D cy ad cX1_valueOf RX1 5 3 (some .int)) (x2 : Int32) (u1 : Int32) (u2 : Int32) (M : Mem) : BL p l e (rmL 3) s m args below meth c LX D cy ad 5 (QI LX D cy ad) 90 [(0, .ref (ad 7)), (1, .ref (ad q1)), (2, .int x2)] [.int u2, .int u1, .ref (ad 8)] M (fX1_valueOf_90 n0 q1 x2 u1 u2 M) := by
  unfold fX1_valueOf_90
  refine b_iast hO kLX_8 (n := 6) rfl dX1_valueOf_90 ?_
  refine b_bnd (fun M90 => ?_)
  refine b_aload_n hO dX1_valueOf_91 0 rfl rfl ?_
  refine b_get hO flX1_24 kLX_7 (v := .ref (ad 8)) rfl dX1_valueOf_92 ?_
  refine b_iconst hO dX1_valueOf_95 ic_i_5 ?_
  refine b_iload_n hO dX1_valueOf_96 2 rfl rfl ?_
  refine b_if_eq hO dX1_valueOf_97 (tgt := 104) (by decide) ?_ ?_
  · refine b_aload_n hO dX1_valueOf_104 0 rfl rfl ?_
    refine b_getR hO flX1_34 kLX_7 (id := 896) rfl rfl (rk := 9) rfl (by decide) dX1_valueOf_105 (fun hg1 => ?_)
    refine b_get hO flX1_73 hg1 (v := .ref (ad ((gR M90 896) + 3))) rfl dX1_valueOf_108 ?_
    refine b_aload_n hO dX1_valueOf_111 0 rfl rfl ?_
    refine b_get hO flX1_15 kLX_7 (v := .int (gI _ 898)) rfl dX1_valueOf_112 ?_
    refine b_iald hO (kt_9_3 hg1) (n := 6) (lt_9_3 hg1) dX1_valueOf_115 ?_
    refine b_sub [0, 1] rfl ?_
    exact tfX1_valueOf_116 n0 q1 hq1 hO _ _ _
  · refine b_iconst hO dX1_valueOf_100 ic_i_0 ?_
    refine b_goto hO dX1_valueOf_101 (tgt := 116) (by decide) ?_
    refine b_sub [0, 1] rfl ?_
    exact tfX1_valueOf_116 n0 q1 hq1 hO _ _ _
theorem tfX1_valueOf_45 (n0 : Nat) (q1 : Nat) (hq1 : isK LX q1 0) (hO : OKc p (rmL 3) s m args meth c LX D cy ad cX1_valueOf RX1 5 3 (some .int)) (x2 : Int32) (u1 : Int32) (u2 : Int32) (M : Mem) : BL p l e (rmL 3) s m args below meth c LX D cy ad 5 (QI LX D cy ad) 45 [(0, .ref (ad 7)), (1, .ref (ad q1)), (2, .int x2)] [.int u2, .int u1, .ref (ad 8)] M (fX1_valueOf_45 n0 q1 x2 u1 u2 M) := by
  unfold fX1_valueOf_45
  refine b_iast hO kLX_8 (n := 6) rfl dX1_valueOf_45 ?_
  refine b_bnd (fun M45 => ?_)
  refine b_aload_n hO dX1_valueOf_46 0 rfl rfl ?_
  refine b_get hO flX1_24 kLX_7 (v := .ref (ad 8)) rfl dX1_valueOf_47 ?_
  refine b_iconst hO dX1_valueOf_50 ic_i_1 ?_
  refine b_aload_n hO dX1_valueOf_51 0 rfl rfl ?_
  refine b_get hO flX1_18 kLX_7 (v := .int (gI _ 899)) rfl dX1_valueOf_52 ?_
  refine b_iast hO kLX_8 (n := 6) rfl dX1_valueOf_55 ?_
  refine b_bnd (fun M55 => ?_)
  refine b_aload_n hO dX1_valueOf_56 0 rfl rfl ?_
  refine b_get hO flX1_24 kLX_7 (v := .ref (ad 8)) rfl dX1_valueOf_57 ?_
  refine b_iconst hO dX1_valueOf_60 ic_i_2 ?_
  refine b_aload_n hO dX1_valueOf_61 0 rfl rfl ?_
  refine b_get hO flX1_9 kLX_7 (v := .int (gI _ 897)) rfl dX1_valueOf_62 ?_
  refine b_iast hO kLX_8 (n := 6) rfl dX1_valueOf_65 ?_
  refine b_bnd (fun M65 => ?_)
  refine b_aload_n hO dX1_valueOf_66 0 rfl rfl ?_
  refine b_get hO flX1_24 kLX_7 (v := .ref (ad 8)) rfl dX1_valueOf_67 ?_
  refine b_iconst hO dX1_valueOf_70 ic_i_3 ?_
  refine b_aload_n hO dX1_valueOf_71 0 rfl rfl ?_
  refine b_get hO flX1_21 kLX_7 (v := .int (gI _ 900)) rfl dX1_valueOf_72 ?_
  refine b_iast hO kLX_8 (n := 6) rfl dX1_valueOf_75 ?_
  refine b_bnd (fun M75 => ?_)
  refine b_aload_n hO dX1_valueOf_76 0 rfl rfl ?_
  refine b_get hO flX1_24 kLX_7 (v := .ref (ad 8)) rfl dX1_valueOf_77 ?_
  refine b_iconst hO dX1_valueOf_80 ic_i_4 ?_
  refine b_iload_n hO dX1_valueOf_81 2 rfl rfl ?_
  refine b_if_eq hO dX1_valueOf_82 (tgt := 89) (by decide) ?_ ?_
  · refine b_iconst hO dX1_valueOf_89 ic_i_0 ?_
    exact tfX1_valueOf_90 n0 q1 hq1 hO _ _ _ _
  · refine b_iconst hO dX1_valueOf_85 ic_i_1 ?_
    refine b_goto hO dX1_valueOf_86 (tgt := 90) (by decide) ?_
    exact tfX1_valueOf_90 n0 q1 hq1 hO _ _ _ _
theorem tfX1_valueOf_19 (n0 : Nat) (q1 : Nat) (hq1 : isK LX q1 0) (hO : OKc p (rmL 3) s m args meth c LX D cy ad cX1_valueOf RX1 5 3 (some .int)) (u0 : Int32) (M : Mem) : BL p l e (rmL 3) s m args below meth c LX D cy ad 5 (QI LX D cy ad) 19 [(0, .ref (ad 7)), (1, .ref (ad q1))] [.int u0] M (fX1_valueOf_19 n0 q1 u0 M) := by
  unfold fX1_valueOf_19
  refine b_istore_n hO dX1_valueOf_19 rfl (by decide) (lv' := [(2, .int _), (0, .ref _), (1, .ref _)]) rfl ?_
  refine b_aload_n hO dX1_valueOf_20 1 rfl rfl ?_
  refine b_get hO flX1_24 kLX_7 (v := .ref (ad 8)) rfl dX1_valueOf_21 ?_
  refine b_iconst hO dX1_valueOf_24 ic_i_0 ?_
  refine b_iload_n hO dX1_valueOf_25 0 rfl rfl ?_
  refine b_if_eq hO dX1_valueOf_26 (tgt := 33) (by decide) ?_ ?_
  · refine b_aload_n hO dX1_valueOf_33 1 rfl rfl ?_
    refine b_getR hO flX1_34 kLX_7 (id := 896) rfl rfl (rk := 9) rfl (by decide) dX1_valueOf_34 (fun hg1 => ?_)
    refine b_get hO flX1_58 hg1 (v := .ref (ad ((gR M 896) + 2))) rfl dX1_valueOf_37 ?_
    refine b_aload_n hO dX1_valueOf_40 1 rfl rfl ?_
    refine b_get hO flX1_15 kLX_7 (v := .int (gI _ 898)) rfl dX1_valueOf_41 ?_
    refine b_iald hO (kt_9_2 hg1) (n := 6) (lt_9_2 hg1) dX1_valueOf_44 ?_
    refine b_sub [1, 2, 0] rfl ?_
    exact tfX1_valueOf_45 n0 q1 hq1 hO _ _ _ _
  · refine b_iconst hO dX1_valueOf_29 ic_i_0 ?_
    refine b_goto hO dX1_valueOf_30 (tgt := 45) (by decide) ?_
    refine b_sub [1, 2, 0] rfl ?_
    exact tfX1_valueOf_45 n0 q1 hq1 hO _ _ _ _
theorem tfX1_valueOf (n0 : Nat) (q1 : Nat) (hq1 : isK LX q1 0) (hO : OKc p (rmL 3) s m args meth c LX D cy ad cX1_valueOf RX1 5 3 (some .int)) (M : Mem) : BL p l e (rmL 3) s m args below meth c LX D cy ad 5 (QI LX D cy ad) 0 [(0, .ref (ad 7)), (1, .ref (ad q1))] [] M (fX1_valueOf n0 q1 M) := by
  unfold fX1_valueOf
  refine b_aload_n hO dX1_valueOf_0 0 rfl rfl ?_
  refine b_getR hO flX1_34 kLX_7 (id := 896) rfl rfl (rk := 9) rfl (by decide) dX1_valueOf_1 (fun hg1 => ?_)
  refine b_aload_n hO dX1_valueOf_4 0 rfl rfl ?_
  refine b_get hO flX1_15 kLX_7 (v := .int (gI _ 898)) rfl dX1_valueOf_5 ?_
  refine b_callVI hO mdX9_isThing mvX9_isThing w576 (ci := 9) rfl rfl (by decide) hg1 (As := [.int _]) (st := []) (ctX9_isThing n0 _ hg1 hO.2.2.2.2.2.2.1 _ _) (Nat.le_of_ble_eq_true rfl) rfl rfl (Nat.le_of_ble_eq_true rfl) dX1_valueOf_8 (fun z8 => ?_)
  refine b_if_ne hO dX1_valueOf_11 (tgt := 18) (by decide) ?_ ?_
  · refine b_iconst hO dX1_valueOf_18 ic_i_0 ?_
    exact tfX1_valueOf_19 n0 q1 hq1 hO _ _
  · refine b_iconst hO dX1_valueOf_14 ic_i_1 ?_
    refine b_goto hO dX1_valueOf_15 (tgt := 19) (by decide) ?_
    exact tfX1_valueOf_19 n0 q1 hq1 hO _ _
theorem ctX1_valueOf (n0 : Nat) (q1 : Nat) (hq1 : isK LX q1 0) (hI : Inj LX ad) (M : Mem) : CT l LX D cy ad yX1_valueOf cX1_valueOf 5 (some .int) 3 (QI LX D cy ad) [.ref (ad 7), .ref (ad q1)] M (fX1_valueOf n0 q1 M) :=
  CT.mk LXok hI (by decide) (Nat.le_of_ble_eq_true rfl) (fun hO => tfX1_valueOf n0 q1 hq1 hO M)
/-! X1_hourNow -/
def fX1_hourNow_57 (n0 : Nat) (x1 : Int32) (M : Mem) : Option (Int32 × Mem) :=
  some ((imax (0 : Int32) (imin (23 : Int32) x1)), M)
def fX1_hourNow (n0 : Nat) (M : Mem) : Option (Int32 × Mem) :=
  (fX0_isTold n0 ((gR M 896) + 12) M).bind fun z9 =>
  if z9.1 = 0 then
    (fX9_isThing n0 (gR z9.2 896) (gI z9.2 898) z9.2).bind fun z38 =>
    if z38.1 = 0 then
      fX1_hourNow_57 n0 (0 : Int32) z38.2
    else
      if oob (gI z38.2 898) 6 then none else
      bnd (gA z38.2 ((gR z38.2 896) + 2) (Int32.toNatClampNeg (gI z38.2 898))) fun x1_56 =>
      fX1_hourNow_57 n0 x1_56 z38.2
  else
    (fX1_valueOf n0 ((gR z9.2 896) + 12) z9.2).bind fun z23 =>
    fX1_hourNow_57 n0 z23.1 z23.2
theorem tfX1_hourNow_57 (n0 : Nat) (hO : OKc p (rmL 4) s m args meth c LX D cy ad cX1_hourNow RX1 2 4 (some .int)) (x1 : Int32) (M : Mem) : BL p l e (rmL 4) s m args below meth c LX D cy ad 2 (QI LX D cy ad) 57 [(1, .int x1)] [] M (fX1_hourNow_57 n0 x1 M) := by
  unfold fX1_hourNow_57
  refine b_iconst hO dX1_hourNow_57 ic_i_0 ?_
  refine b_bipush hO dX1_hourNow_58 ic_b_23 ?_
  refine b_iload_n hO dX1_hourNow_60 0 rfl rfl ?_
  refine b_mmin hO w590 w591 w136 wm592 (by first | decide | omega) (Nat.le_of_ble_eq_true rfl) dX1_hourNow_61 ?_
  refine b_mmax hO w593 w594 w136 wm595 (by first | decide | omega) (Nat.le_of_ble_eq_true rfl) dX1_hourNow_64 ?_
  exact b_iret hO dX1_hourNow_67
theorem tfX1_hourNow (n0 : Nat) (hO : OKc p (rmL 4) s m args meth c LX D cy ad cX1_hourNow RX1 2 4 (some .int)) (M : Mem) : BL p l e (rmL 4) s m args below meth c LX D cy ad 2 (QI LX D cy ad) 0 [(0, .ref (ad 7))] [] M (fX1_hourNow n0 M) := by
  unfold fX1_hourNow
  refine b_iconst hO dX1_hourNow_0 ic_i_0 ?_
  refine b_istore_n hO dX1_hourNow_1 rfl (by decide) (lv' := [(1, .int _), (0, .ref _)]) rfl ?_
  refine b_aload_n hO dX1_hourNow_2 1 rfl rfl ?_
  refine b_getR hO flX1_34 kLX_7 (id := 896) rfl rfl (rk := 9) rfl (by decide) dX1_hourNow_3 (fun hg1 => ?_)
  refine b_get hO flX1_38 hg1 (v := .ref (ad ((gR M 896) + 12))) rfl dX1_hourNow_6 ?_
  refine b_callVI hO mdX0_isTold mvX0_isTold w568 (ci := 0) rfl rfl (by decide) (kt_9_12 hg1) (As := []) (st := []) (ctX0_isTold n0 _ (kt_9_12 hg1) hO.2.2.2.2.2.2.1 _) (Nat.le_of_ble_eq_true rfl) rfl rfl (Nat.le_of_ble_eq_true rfl) dX1_hourNow_9 (fun z9 => ?_)
  refine b_if_eq hO dX1_hourNow_12 (tgt := 30) (by decide) ?_ ?_
  · refine b_aload_n hO dX1_hourNow_30 1 rfl rfl ?_
    refine b_getR hO flX1_34 kLX_7 (id := 896) rfl rfl (rk := 9) rfl (by decide) dX1_hourNow_31 (fun hg2 => ?_)
    refine b_aload_n hO dX1_hourNow_34 1 rfl rfl ?_
    refine b_get hO flX1_15 kLX_7 (v := .int (gI _ 898)) rfl dX1_hourNow_35 ?_
    refine b_callVI hO mdX9_isThing mvX9_isThing w576 (ci := 9) rfl rfl (by decide) hg2 (As := [.int _]) (st := []) (ctX9_isThing n0 _ hg2 hO.2.2.2.2.2.2.1 _ _) (Nat.le_of_ble_eq_true rfl) rfl rfl (Nat.le_of_ble_eq_true rfl) dX1_hourNow_38 (fun z38 => ?_)
    refine b_if_eq hO dX1_hourNow_41 (tgt := 57) (by decide) ?_ ?_
    · refine b_sub [0] rfl ?_
      exact tfX1_hourNow_57 n0 hO _ _
    · refine b_aload_n hO dX1_hourNow_44 1 rfl rfl ?_
      refine b_getR hO flX1_34 kLX_7 (id := 896) rfl rfl (rk := 9) rfl (by decide) dX1_hourNow_45 (fun hg3 => ?_)
      refine b_get hO flX1_58 hg3 (v := .ref (ad ((gR z38.2 896) + 2))) rfl dX1_hourNow_48 ?_
      refine b_aload_n hO dX1_hourNow_51 1 rfl rfl ?_
      refine b_get hO flX1_15 kLX_7 (v := .int (gI _ 898)) rfl dX1_hourNow_52 ?_
      refine b_iald hO (kt_9_2 hg3) (n := 6) (lt_9_2 hg3) dX1_hourNow_55 ?_
      refine b_topI (fun x1_56 => ?_)
      refine b_istore_n hO dX1_hourNow_56 rfl (by decide) (lv' := [(1, .int _), (0, .ref _)]) rfl ?_
      refine b_sub [0] rfl ?_
      exact tfX1_hourNow_57 n0 hO _ _
  · refine b_aload_n hO dX1_hourNow_15 1 rfl rfl ?_
    refine b_aload_n hO dX1_hourNow_16 1 rfl rfl ?_
    refine b_getR hO flX1_34 kLX_7 (id := 896) rfl rfl (rk := 9) rfl (by decide) dX1_hourNow_17 (fun hg4 => ?_)
    refine b_get hO flX1_38 hg4 (v := .ref (ad ((gR z9.2 896) + 12))) rfl dX1_hourNow_20 ?_
    refine b_callVI hO mdX1_valueOf mvX1_valueOf w572 (ci := 1) rfl rfl (by decide) kLX_7 (As := [.ref _]) (st := []) (ctX1_valueOf n0 _ (kt_9_12 hg4) hO.2.2.2.2.2.2.1 _) (Nat.le_of_ble_eq_true rfl) rfl rfl (Nat.le_of_ble_eq_true rfl) dX1_hourNow_23 (fun z23 => ?_)
    refine b_istore_n hO dX1_hourNow_26 rfl (by decide) (lv' := [(1, .int _), (0, .ref _)]) rfl ?_
    refine b_goto hO dX1_hourNow_27 (tgt := 57) (by decide) ?_
    refine b_sub [0] rfl ?_
    exact tfX1_hourNow_57 n0 hO _ _
theorem ctX1_hourNow (n0 : Nat) (hI : Inj LX ad) (M : Mem) : CT l LX D cy ad yX1_hourNow cX1_hourNow 2 (some .int) 4 (QI LX D cy ad) [.ref (ad 7)] M (fX1_hourNow n0 M) :=
  CT.mk LXok hI (by decide) (Nat.le_of_ble_eq_true rfl) (fun hO => tfX1_hourNow n0 hO M)
/-! X1_goOn -/
def fX1_goOn_106 (n0 : Nat) (u0 : Int32) (M : Mem) : Option (Mem) :=
  if u0 = 0 then
    some M
  else
    bnd (sI M 898 (-1 : Int32)) fun M113 =>
    some (sI M113 899 (0 : Int32))
def fX1_goOn (n0 : Nat) (M : Mem) : Option (Mem) :=
  bnd (sI M 900 (imin (9999 : Int32) ((gI M 900) + (1 : Int32)))) fun M13 =>
  bnd (sI M13 899 (imin (999 : Int32) ((gI M13 899) + (1 : Int32)))) fun M29 =>
  (fX9_isThing n0 (gR M29 896) (gI M29 898) M29).bind fun z40 =>
  if z40.1 = 0 then
    some z40.2
  else
    (fX0_isTold n0 ((gR z40.2 896) + 14) z40.2).bind fun z54 =>
    if z54.1 = 0 then
      if oob (gI z54.2 898) 6 then none else
      if (gI z54.2 899) < (gA z54.2 ((gR z54.2 896) + 3) (Int32.toNatClampNeg (gI z54.2 898))) then
        fX1_goOn_106 n0 (0 : Int32) z54.2
      else
        fX1_goOn_106 n0 (1 : Int32) z54.2
    else
      (fX1_valueOf n0 ((gR z54.2 896) + 14) z54.2).bind fun z68 =>
      if z68.1 = 0 then
        fX1_goOn_106 n0 (0 : Int32) z68.2
      else
        fX1_goOn_106 n0 (1 : Int32) z68.2
theorem tfX1_goOn_106 (n0 : Nat) (hO : OKc p (rmL 4) s m args meth c LX D cy ad cX1_goOn RX1 2 4 none) (u0 : Int32) (M : Mem) : BL p l e (rmL 4) s m args below meth c LX D cy ad 2 (QV LX D cy ad) 106 [(0, .ref (ad 7))] [.int u0] M (fX1_goOn_106 n0 u0 M) := by
  unfold fX1_goOn_106
  refine b_istore_n hO dX1_goOn_106 rfl (by decide) (lv' := [(1, .int _), (0, .ref _)]) rfl ?_
  refine b_iload_n hO dX1_goOn_107 0 rfl rfl ?_
  refine b_if_eq hO dX1_goOn_108 (tgt := 121) (by decide) ?_ ?_
  · exact b_vret hO dX1_goOn_121
  · refine b_aload_n hO dX1_goOn_111 1 rfl rfl ?_
    refine b_iconst hO dX1_goOn_112 ic_i_m1 ?_
    refine b_putI hO flX1_15 kLX_7 rfl rfl rfl (id := 898) rfl dX1_goOn_113 ?_
    refine b_bnd (fun M113 => ?_)
    refine b_aload_n hO dX1_goOn_116 1 rfl rfl ?_
    refine b_iconst hO dX1_goOn_117 ic_i_0 ?_
    refine b_putI hO flX1_18 kLX_7 rfl rfl rfl (id := 899) rfl dX1_goOn_118 ?_
    exact b_vret hO dX1_goOn_121
theorem tfX1_goOn (n0 : Nat) (hO : OKc p (rmL 4) s m args meth c LX D cy ad cX1_goOn RX1 2 4 none) (M : Mem) : BL p l e (rmL 4) s m args below meth c LX D cy ad 2 (QV LX D cy ad) 0 [(0, .ref (ad 7))] [] M (fX1_goOn n0 M) := by
  unfold fX1_goOn
  refine b_aload_n hO dX1_goOn_0 0 rfl rfl ?_
  refine b_sipush hO dX1_goOn_1 ic_s_9999 ?_
  refine b_aload_n hO dX1_goOn_4 0 rfl rfl ?_
  refine b_get hO flX1_21 kLX_7 (v := .int (gI _ 900)) rfl dX1_goOn_5 ?_
  refine b_iconst hO dX1_goOn_8 ic_i_1 ?_
  refine b_iadd hO dX1_goOn_9 ?_
  refine b_mmin hO w590 w591 w136 wm592 (by first | decide | omega) (Nat.le_of_ble_eq_true rfl) dX1_goOn_10 ?_
  refine b_putI hO flX1_21 kLX_7 rfl rfl rfl (id := 900) rfl dX1_goOn_13 ?_
  refine b_bnd (fun M13 => ?_)
  refine b_aload_n hO dX1_goOn_16 0 rfl rfl ?_
  refine b_sipush hO dX1_goOn_17 ic_s_999 ?_
  refine b_aload_n hO dX1_goOn_20 0 rfl rfl ?_
  refine b_get hO flX1_18 kLX_7 (v := .int (gI _ 899)) rfl dX1_goOn_21 ?_
  refine b_iconst hO dX1_goOn_24 ic_i_1 ?_
  refine b_iadd hO dX1_goOn_25 ?_
  refine b_mmin hO w590 w591 w136 wm592 (by first | decide | omega) (Nat.le_of_ble_eq_true rfl) dX1_goOn_26 ?_
  refine b_putI hO flX1_18 kLX_7 rfl rfl rfl (id := 899) rfl dX1_goOn_29 ?_
  refine b_bnd (fun M29 => ?_)
  refine b_aload_n hO dX1_goOn_32 0 rfl rfl ?_
  refine b_getR hO flX1_34 kLX_7 (id := 896) rfl rfl (rk := 9) rfl (by decide) dX1_goOn_33 (fun hg1 => ?_)
  refine b_aload_n hO dX1_goOn_36 0 rfl rfl ?_
  refine b_get hO flX1_15 kLX_7 (v := .int (gI _ 898)) rfl dX1_goOn_37 ?_
  refine b_callVI hO mdX9_isThing mvX9_isThing w576 (ci := 9) rfl rfl (by decide) hg1 (As := [.int _]) (st := []) (ctX9_isThing n0 _ hg1 hO.2.2.2.2.2.2.1 _ _) (Nat.le_of_ble_eq_true rfl) rfl rfl (Nat.le_of_ble_eq_true rfl) dX1_goOn_40 (fun z40 => ?_)
  refine b_if_ne hO dX1_goOn_43 (tgt := 47) (by decide) ?_ ?_
  · refine b_aload_n hO dX1_goOn_47 0 rfl rfl ?_
    refine b_getR hO flX1_34 kLX_7 (id := 896) rfl rfl (rk := 9) rfl (by decide) dX1_goOn_48 (fun hg2 => ?_)
    refine b_get hO flX1_70 hg2 (v := .ref (ad ((gR z40.2 896) + 14))) rfl dX1_goOn_51 ?_
    refine b_callVI hO mdX0_isTold mvX0_isTold w568 (ci := 0) rfl rfl (by decide) (kt_9_14 hg2) (As := []) (st := []) (ctX0_isTold n0 _ (kt_9_14 hg2) hO.2.2.2.2.2.2.1 _) (Nat.le_of_ble_eq_true rfl) rfl rfl (Nat.le_of_ble_eq_true rfl) dX1_goOn_54 (fun z54 => ?_)
    refine b_if_eq hO dX1_goOn_57 (tgt := 82) (by decide) ?_ ?_
    · refine b_aload_n hO dX1_goOn_82 0 rfl rfl ?_
      refine b_get hO flX1_18 kLX_7 (v := .int (gI _ 899)) rfl dX1_goOn_83 ?_
      refine b_aload_n hO dX1_goOn_86 0 rfl rfl ?_
      refine b_getR hO flX1_34 kLX_7 (id := 896) rfl rfl (rk := 9) rfl (by decide) dX1_goOn_87 (fun hg3 => ?_)
      refine b_get hO flX1_73 hg3 (v := .ref (ad ((gR z54.2 896) + 3))) rfl dX1_goOn_90 ?_
      refine b_aload_n hO dX1_goOn_93 0 rfl rfl ?_
      refine b_get hO flX1_15 kLX_7 (v := .int (gI _ 898)) rfl dX1_goOn_94 ?_
      refine b_iald hO (kt_9_3 hg3) (n := 6) (lt_9_3 hg3) dX1_goOn_97 ?_
      refine b_icmp_lt hO dX1_goOn_98 (tgt := 105) (by decide) ?_ ?_
      · refine b_iconst hO dX1_goOn_105 ic_i_0 ?_
        exact tfX1_goOn_106 n0 hO _ _
      · refine b_iconst hO dX1_goOn_101 ic_i_1 ?_
        refine b_goto hO dX1_goOn_102 (tgt := 106) (by decide) ?_
        exact tfX1_goOn_106 n0 hO _ _
    · refine b_aload_n hO dX1_goOn_60 0 rfl rfl ?_
      refine b_aload_n hO dX1_goOn_61 0 rfl rfl ?_
      refine b_getR hO flX1_34 kLX_7 (id := 896) rfl rfl (rk := 9) rfl (by decide) dX1_goOn_62 (fun hg4 => ?_)
      refine b_get hO flX1_70 hg4 (v := .ref (ad ((gR z54.2 896) + 14))) rfl dX1_goOn_65 ?_
      refine b_callVI hO mdX1_valueOf mvX1_valueOf w572 (ci := 1) rfl rfl (by decide) kLX_7 (As := [.ref _]) (st := []) (ctX1_valueOf n0 _ (kt_9_14 hg4) hO.2.2.2.2.2.2.1 _) (Nat.le_of_ble_eq_true rfl) rfl rfl (Nat.le_of_ble_eq_true rfl) dX1_goOn_68 (fun z68 => ?_)
      refine b_if_eq hO dX1_goOn_71 (tgt := 78) (by decide) ?_ ?_
      · refine b_iconst hO dX1_goOn_78 ic_i_0 ?_
        refine b_goto hO dX1_goOn_79 (tgt := 106) (by decide) ?_
        exact tfX1_goOn_106 n0 hO _ _
      · refine b_iconst hO dX1_goOn_74 ic_i_1 ?_
        refine b_goto hO dX1_goOn_75 (tgt := 106) (by decide) ?_
        exact tfX1_goOn_106 n0 hO _ _
  · exact b_vret hO dX1_goOn_46
theorem ctX1_goOn (n0 : Nat) (hI : Inj LX ad) (M : Mem) : CT l LX D cy ad yX1_goOn cX1_goOn 2 none 4 (QV LX D cy ad) [.ref (ad 7)] M (fX1_goOn n0 M) :=
  CT.mk LXok hI (by decide) (Nat.le_of_ble_eq_true rfl) (fun hO => tfX1_goOn n0 hO M)
/-! X1_foresee -/
def fX1_foresee_38 (n0 : Nat) (q1 : Nat) (k23 : Int32 → Int32 → Mem → Option (Int32 × Mem)) (x3 : Int32) (x4 : Int32) (M : Mem) : Option (Int32 × Mem) :=
  (fX1_hourNow n0 M).bind fun z42 =>
  if oob x4 (LX.ln q1) then none else
  bnd (sA z42.2 q1 (Int32.toNatClampNeg x4) z42.1) fun M45 =>
  k23 x3 (x4 + (1 : Int32)) M45
def bX1_foresee_23 (n0 : Nat) (q1 : Nat) (k23 : Int32 → Int32 → Mem → Option (Int32 × Mem)) (x3 : Int32) (x4 : Int32) (M : Mem) : Option (Int32 × Mem) :=
  if x3 < x4 then
    some (x3, M)
  else
    if x4 ≤ 0 then
      fX1_foresee_38 n0 q1 k23 x3 x4 M
    else
      (fX1_goOn n0 M).bind fun z35 =>
      fX1_foresee_38 n0 q1 k23 x3 x4 z35
def fX1_foresee_23 (n0 : Nat) (q1 : Nat) : Int32 → Int32 → Mem → Option (Int32 × Mem) := loopN (bX1_foresee_23 n0 q1) (fun _ _ _ => none) n0
def fX1_foresee (n0 : Nat) (q1 : Nat) (x2 : Int32) (M : Mem) : Option (Int32 × Mem) :=
  bnd (imin (imin x2 ((Int32.ofNat (LX.ln q1)) - (1 : Int32))) ((9999 : Int32) - (gI M 900))) fun x3_19 =>
  fX1_foresee_23 n0 q1 x3_19 (0 : Int32) M
theorem tfX1_foresee_38 (n0 : Nat) (q1 : Nat) (hq1 : isK LX q1 13) (hO : OKc p (rmL 5) s m args meth c LX D cy ad cX1_foresee RX1 5 5 (some .int)) (k23 : Int32 → Int32 → Mem → Option (Int32 × Mem)) (hk23 : ∀ (x3 : Int32) (x4 : Int32) (M : Mem), BL p l e (rmL 5) s m args below meth c LX D cy ad 5 (QI LX D cy ad) 23 [(0, .ref (ad 7)), (1, .ref (ad q1)), (3, .int x3), (4, .int x4)] [] M (k23 x3 x4 M)) (x3 : Int32) (x4 : Int32) (M : Mem) : BL p l e (rmL 5) s m args below meth c LX D cy ad 5 (QI LX D cy ad) 38 [(0, .ref (ad 7)), (1, .ref (ad q1)), (3, .int x3), (4, .int x4)] [] M (fX1_foresee_38 n0 q1 k23 x3 x4 M) := by
  unfold fX1_foresee_38
  refine b_aload_n hO dX1_foresee_38 1 rfl rfl ?_
  refine b_iload hO dX1_foresee_39 3 rfl ?_
  refine b_aload_n hO dX1_foresee_41 0 rfl rfl ?_
  refine b_callVI hO mdX1_hourNow mvX1_hourNow w978 (ci := 1) rfl rfl (by decide) kLX_7 (As := []) (st := [.int _, .ref _]) (ctX1_hourNow n0 hO.2.2.2.2.2.2.1 _) (Nat.le_of_ble_eq_true rfl) rfl rfl (Nat.le_of_ble_eq_true rfl) dX1_foresee_42 (fun z42 => ?_)
  refine b_iast hO hq1 (n := (LX.ln q1)) rfl dX1_foresee_45 ?_
  refine b_bnd (fun M45 => ?_)
  refine b_iinc hO dX1_foresee_46 3 rfl ic_i_1 (by decide) (lv' := [(4, .int _), (0, .ref _), (1, .ref _), (3, .int _)]) rfl ?_
  refine b_goto hO dX1_foresee_49 (tgt := 23) (by decide) ?_
  refine b_sub [1, 2, 3, 0] rfl ?_
  exact hk23 _ _ _
theorem tbX1_foresee_23 (n0 : Nat) (q1 : Nat) (hq1 : isK LX q1 13) (hO : OKc p (rmL 5) s m args meth c LX D cy ad cX1_foresee RX1 5 5 (some .int)) (k23 : Int32 → Int32 → Mem → Option (Int32 × Mem)) (hk23 : ∀ (x3 : Int32) (x4 : Int32) (M : Mem), BL p l e (rmL 5) s m args below meth c LX D cy ad 5 (QI LX D cy ad) 23 [(0, .ref (ad 7)), (1, .ref (ad q1)), (3, .int x3), (4, .int x4)] [] M (k23 x3 x4 M)) (x3 : Int32) (x4 : Int32) (M : Mem) : BL p l e (rmL 5) s m args below meth c LX D cy ad 5 (QI LX D cy ad) 23 [(0, .ref (ad 7)), (1, .ref (ad q1)), (3, .int x3), (4, .int x4)] [] M (bX1_foresee_23 n0 q1 k23 x3 x4 M) := by
  unfold bX1_foresee_23
  refine b_iload hO dX1_foresee_23 3 rfl ?_
  refine b_iload_n hO dX1_foresee_25 2 rfl rfl ?_
  refine b_icmp_gt hO dX1_foresee_26 (tgt := 52) (by decide) ?_ ?_
  · refine b_iload_n hO dX1_foresee_52 2 rfl rfl ?_
    exact b_iret hO dX1_foresee_53
  · refine b_iload hO dX1_foresee_29 3 rfl ?_
    refine b_if_le hO dX1_foresee_31 (tgt := 38) (by decide) ?_ ?_
    · exact tfX1_foresee_38 n0 q1 hq1 hO k23 hk23 _ _ _
    · refine b_aload_n hO dX1_foresee_34 0 rfl rfl ?_
      refine b_callVV hO mdX1_goOn mvX1_goOn w974 (ci := 1) rfl rfl (by decide) kLX_7 (As := []) (st := []) (ctX1_goOn n0 hO.2.2.2.2.2.2.1 _) (Nat.le_of_ble_eq_true rfl) rfl rfl (Nat.le_of_ble_eq_true rfl) dX1_foresee_35 (fun z35 => ?_)
      exact tfX1_foresee_38 n0 q1 hq1 hO k23 hk23 _ _ _
theorem lX1_foresee_23 (n0 : Nat) (q1 : Nat) (hq1 : isK LX q1 13) (hO : OKc p (rmL 5) s m args meth c LX D cy ad cX1_foresee RX1 5 5 (some .int)) : ∀ (w : Nat) (x3 : Int32) (x4 : Int32) (M : Mem), BL p l e (rmL 5) s m args below meth c LX D cy ad 5 (QI LX D cy ad) 23 [(0, .ref (ad 7)), (1, .ref (ad q1)), (3, .int x3), (4, .int x4)] [] M (loopN (bX1_foresee_23 n0 q1) (fun _ _ _ => none) w x3 x4 M) := by
  intro w
  induction w with
  | zero =>
    intros
    exact b_none
  | succ w ih =>
    intro x3 x4 M
    exact tbX1_foresee_23 n0 q1 hq1 hO _ ih x3 x4 M
theorem tfX1_foresee_23 (n0 : Nat) (q1 : Nat) (hq1 : isK LX q1 13) (hO : OKc p (rmL 5) s m args meth c LX D cy ad cX1_foresee RX1 5 5 (some .int)) (x3 : Int32) (x4 : Int32) (M : Mem) : BL p l e (rmL 5) s m args below meth c LX D cy ad 5 (QI LX D cy ad) 23 [(0, .ref (ad 7)), (1, .ref (ad q1)), (3, .int x3), (4, .int x4)] [] M (fX1_foresee_23 n0 q1 x3 x4 M) := lX1_foresee_23 n0 q1 hq1 hO n0 x3 x4 M
theorem tfX1_foresee (n0 : Nat) (q1 : Nat) (hq1 : isK LX q1 13) (hO : OKc p (rmL 5) s m args meth c LX D cy ad cX1_foresee RX1 5 5 (some .int)) (x2 : Int32) (M : Mem) : BL p l e (rmL 5) s m args below meth c LX D cy ad 5 (QI LX D cy ad) 0 [(0, .ref (ad 7)), (1, .ref (ad q1)), (2, .int x2)] [] M (fX1_foresee n0 q1 x2 M) := by
  unfold fX1_foresee
  refine b_iload_n hO dX1_foresee_0 2 rfl rfl ?_
  refine b_aload_n hO dX1_foresee_1 1 rfl rfl ?_
  refine b_alen hO hq1 rfl dX1_foresee_2 ?_
  refine b_iconst hO dX1_foresee_3 ic_i_1 ?_
  refine b_isub hO dX1_foresee_4 ?_
  refine b_mmin hO w590 w591 w136 wm592 (by first | decide | omega) (Nat.le_of_ble_eq_true rfl) dX1_foresee_5 ?_
  refine b_sipush hO dX1_foresee_8 ic_s_9999 ?_
  refine b_aload_n hO dX1_foresee_11 0 rfl rfl ?_
  refine b_get hO flX1_21 kLX_7 (v := .int (gI _ 900)) rfl dX1_foresee_12 ?_
  refine b_isub hO dX1_foresee_15 ?_
  refine b_mmin hO w590 w591 w136 wm592 (by first | decide | omega) (Nat.le_of_ble_eq_true rfl) dX1_foresee_16 ?_
  refine b_topI (fun x3_19 => ?_)
  refine b_istore_n hO dX1_foresee_19 rfl (by decide) (lv' := [(3, .int _), (0, .ref _), (1, .ref _), (2, .int _)]) rfl ?_
  refine b_iconst hO dX1_foresee_20 ic_i_0 ?_
  refine b_istore hO dX1_foresee_21 (by decide) (lv' := [(4, .int _), (3, .int _), (0, .ref _), (1, .ref _), (2, .int _)]) rfl ?_
  refine b_sub [2, 3, 1, 0] rfl ?_
  exact tfX1_foresee_23 n0 q1 hq1 hO _ _ _
theorem ctX1_foresee (n0 : Nat) (q1 : Nat) (hq1 : isK LX q1 13) (hI : Inj LX ad) (x2 : Int32) (M : Mem) : CT l LX D cy ad yX1_foresee cX1_foresee 5 (some .int) 5 (QI LX D cy ad) [.ref (ad 7), .ref (ad q1), .int x2] M (fX1_foresee n0 q1 x2 M) :=
  CT.mk LXok hI (by decide) (Nat.le_of_ble_eq_true rfl) (fun hO => tfX1_foresee n0 q1 hq1 hO x2 M)
end
end
