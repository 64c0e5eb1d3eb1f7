def wsL_law0_r1 : List Cond := [Cond.classLink RL 8 RX4, Cond.instantiable RX4 5, Cond.initialized RX4, Cond.classLink RL 103 RX5, Cond.instantiable RX5 6, Cond.initialized RX5, Cond.arrayClass .long, Cond.arrayClass .double, Cond.methodLink RL 102 yX4_init, Cond.instanceMethod yX4_init, Cond.code yX4_init cX4_init 2 none, Cond.methodLink RX4 3 objectInit, Cond.instanceMethod objectInit, Cond.code objectInit ⟨#[0xb1]⟩ 1 none, Cond.classLink RX4 9 RX2, Cond.instantiable RX2 3, Cond.initialized RX2, Cond.fieldLink RX4 12 "ToneLoader" "now" "LToneLoader$State;", Cond.fieldLink RX4 16 "ToneLoader" "saved" "[LToneLoader$State;", Cond.fieldLink RX4 20 "ToneLoader" "newestSaved" "I", Cond.fieldLink RX4 24 "ToneLoader" "savedCount" "I", Cond.classLink RX4 27 RX1, Cond.instantiable RX1 3, Cond.initialized RX1]
def wsL_law0_r2 : List Cond := [Cond.fieldLink RX4 30 "ToneLoader" "plan" "LToneLoader$Plan;", Cond.methodLink RX4 11 yX2_init, Cond.instanceMethod yX2_init, Cond.code yX2_init cX2_init 1 none, Cond.methodLink RX2 1 objectInit, Cond.fieldLink RX2 7 "ToneLoader$State" "frames" "I", Cond.classLink RX2 13 RX0, Cond.instantiable RX0 10, Cond.initialized RX0, Cond.fieldLink RX2 16 "ToneLoader$State" "pair0" "LToneLoader$Pair;", Cond.fieldLink RX2 20 "ToneLoader$State" "pair1" "LToneLoader$Pair;", Cond.methodLink RX2 15 yX0_init, Cond.instanceMethod yX0_init, Cond.code yX0_init cX0_init 1 none, Cond.methodLink RX0 3 objectInit, Cond.arrayClass .int, Cond.fieldLink RX0 9 "ToneLoader$Pair" "noise" "[I", Cond.fieldLink RX0 15 "ToneLoader$Pair" "coupling" "[I", Cond.fieldLink RX0 18 "ToneLoader$Pair" "limit" "[I", Cond.fieldLink RX0 21 "ToneLoader$Pair" "received" "[I", Cond.fieldLink RX0 24 "ToneLoader$Pair" "sent" "[I", Cond.fieldLink RX0 27 "ToneLoader$Pair" "energies" "[J", Cond.classLink RX0 31 RX3, Cond.instantiable RX3 14]
def wsL_law0_r3 : List Cond := [Cond.initialized RX3, Cond.fieldLink RX0 34 "ToneLoader$Pair" "talk" "LToneLoader$Talk;", Cond.constant RX0 44 (1000000), Cond.fieldLink RX0 45 "ToneLoader$Pair" "budget" "I", Cond.fieldLink RX0 49 "ToneLoader$Pair" "broken" "I", Cond.fieldLink RX0 52 "ToneLoader$Pair" "apart" "Z", Cond.methodLink RX0 33 yX3_init, Cond.instanceMethod yX3_init, Cond.code yX3_init cX3_init 1 none, Cond.methodLink RX3 3 objectInit, Cond.fieldLink RX3 9 "ToneLoader$Talk" "notedFrame" "I", Cond.fieldLink RX3 15 "ToneLoader$Talk" "answeredFrame" "I", Cond.fieldLink RX3 18 "ToneLoader$Talk" "agreedNumber" "I", Cond.fieldLink RX3 21 "ToneLoader$Talk" "agreedFrame" "I", Cond.methodLink RX0 38 yJ7_fill_53178, Cond.static yJ7_fill_53178, Cond.initialized RJ7, Cond.code yJ7_fill_53178 cJ7_fill_53178 4 none, Cond.methodLink RX4 29 yX1_init, Cond.instanceMethod yX1_init, Cond.code yX1_init cX1_init 1 none, Cond.methodLink RX1 3 objectInit, Cond.fieldLink RX1 9 "ToneLoader$Plan" "noise" "[J", Cond.fieldLink RX1 15 "ToneLoader$Plan" "limit" "[I"]
def wsL_law0_r4 : List Cond := [Cond.fieldLink RX1 19 "ToneLoader$Plan" "count" "[I", Cond.methodLink RL 105 yX5_init, Cond.instanceMethod yX5_init, Cond.code yX5_init cX5_init 3 none, Cond.methodLink RX5 1 objectInit, Cond.fieldLink RX5 7 "ToneLoaderModel" "now" "[J", Cond.fieldLink RX5 13 "ToneLoaderModel" "past" "[J", Cond.fieldLink RX5 16 "ToneLoaderModel" "before" "[J", Cond.constantLong RX5 23 (1000000), Cond.constantLong RX5 25 (100), Cond.constantLong RX5 27 (12), Cond.methodLink RX5 19 yX5_at, Cond.static yX5_at, Cond.code yX5_at cX5_at 2 (some .int), Cond.methodLink RX5 29 yX5_drop, Cond.instanceMethod yX5_drop, Cond.selects RX5 yX5_drop yX5_drop, Cond.code yX5_drop cX5_drop 3 none, Cond.constantLong RX5 94 (-1), Cond.methodLink RL 106 yL_setNoise, Cond.static yL_setNoise, Cond.initialized RL, Cond.codeWith yL_setNoise cL_setNoise 6 (some .int) [(0, 12, 15, 13), (0, 12, 19, 15)], Cond.classLink RL 13 "java/lang/IndexOutOfBoundsException"]
def wsL_law0_r5 : List Cond := [Cond.classLink RL 15 "java/lang/IllegalArgumentException", Cond.methodLink RL 7 yX4_setNoise, Cond.instanceMethod yX4_setNoise, Cond.selects RX4 yX4_setNoise yX4_setNoise, Cond.code yX4_setNoise cX4_setNoise 6 (some .int), Cond.fieldLink RX4 49 "ToneLoader$Pair" "noise" "[I", Cond.methodLink RX4 34 yX4_pairAt, Cond.instanceMethod yX4_pairAt, Cond.selects RX4 yX4_pairAt yX4_pairAt, Cond.code yX4_pairAt cX4_pairAt 2 (some (.object "ToneLoader$Pair")), Cond.classLink RX4 224 "java/lang/IndexOutOfBoundsException", Cond.initialized "java/lang/IndexOutOfBoundsException", Cond.fieldLink RX4 116 "ToneLoader$State" "pair0" "LToneLoader$Pair;", Cond.fieldLink RX4 120 "ToneLoader$State" "pair1" "LToneLoader$Pair;", Cond.methodLink RX4 38 yX4_checkTone, Cond.static yX4_checkTone, Cond.code yX4_checkTone cX4_checkTone 1 none, Cond.methodLink RX4 229 yX4_isTone, Cond.static yX4_isTone, Cond.code yX4_isTone cX4_isTone 1 (some .boolean), Cond.methodLink RX4 42 yX4_checkRange, Cond.static yX4_checkRange, Cond.code yX4_checkRange cX4_checkRange 3 none, Cond.classLink RX4 147 "java/lang/IllegalArgumentException"]
def wsL_law0_r6 : List Cond := [Cond.initialized "java/lang/IllegalArgumentException", Cond.methodLink RX4 46 yX4_saveState, Cond.instanceMethod yX4_saveState, Cond.selects RX4 yX4_saveState yX4_saveState, Cond.code yX4_saveState cX4_saveState 1 none, Cond.methodLink RX4 207 yJ9_floorMod_7cf53, Cond.static yJ9_floorMod_7cf53, Cond.initialized RJ9, Cond.code yJ9_floorMod_7cf53 cJ9_floorMod_7cf53 3 (some .int), Cond.methodLink RX4 212 yX2_copyFrom, Cond.instanceMethod yX2_copyFrom, Cond.selects RX2 yX2_copyFrom yX2_copyFrom, Cond.code yX2_copyFrom cX2_copyFrom 2 none, Cond.methodLink RX2 23 yX0_copyFrom, Cond.instanceMethod yX0_copyFrom, Cond.selects RX0 yX0_copyFrom yX0_copyFrom, Cond.code yX0_copyFrom cX0_copyFrom 2 none, Cond.methodLink RX0 56 arraycopyName, Cond.native arraycopyName, Cond.static arraycopyName, Cond.initialized "java/lang/System", Cond.methodLink RX0 62 yX3_copyFrom, Cond.instanceMethod yX3_copyFrom, Cond.selects RX3 yX3_copyFrom yX3_copyFrom]
def wsL_law0_r7 : List Cond := [Cond.code yX3_copyFrom cX3_copyFrom 2 none, Cond.fieldLink RX3 24 "ToneLoader$Talk" "nextNumber" "I", Cond.fieldLink RX3 27 "ToneLoader$Talk" "open" "Z", Cond.fieldLink RX3 31 "ToneLoader$Talk" "number" "I", Cond.fieldLink RX3 34 "ToneLoader$Talk" "from" "I", Cond.fieldLink RX3 37 "ToneLoader$Talk" "to" "I", Cond.fieldLink RX3 40 "ToneLoader$Talk" "requestOnWay" "Z", Cond.fieldLink RX3 43 "ToneLoader$Talk" "answerOnWay" "Z", Cond.fieldLink RX3 46 "ToneLoader$Talk" "answeredNumber" "I", Cond.fieldLink RX3 49 "ToneLoader$Talk" "agreedFrom" "I", Cond.fieldLink RX3 52 "ToneLoader$Talk" "agreedTo" "I", Cond.methodLink RL 111 yX5_setNoise, Cond.instanceMethod yX5_setNoise, Cond.selects RX5 yX5_setNoise yX5_setNoise, Cond.code yX5_setNoise cX5_setNoise 4 (some .int), Cond.constantLong RX5 63 (10000), Cond.fieldLink RX5 33 "ToneLoaderModel" "thrown" "I", Cond.methodLink RX5 56 yX5_isPair, Cond.static yX5_isPair, Cond.code yX5_isPair cX5_isPair 1 (some .boolean), Cond.methodLink RX5 39 yX5_in, Cond.static yX5_in, Cond.code yX5_in cX5_in 6 (some .boolean), Cond.methodLink RX5 60 yX5_isTone]
def wsL_law0_r8 : List Cond := [Cond.static yX5_isTone, Cond.code yX5_isTone cX5_isTone 1 (some .boolean), Cond.constantLong RX5 37 (15), Cond.methodLink RX5 65 yX5_changed, Cond.instanceMethod yX5_changed, Cond.selects RX5 yX5_changed yX5_changed, Cond.code yX5_changed cX5_changed 4 (some .int), Cond.methodLink RX5 53 yX5_save, Cond.instanceMethod yX5_save, Cond.selects RX5 yX5_save yX5_save, Cond.code yX5_save cX5_save 2 none, Cond.fieldLink RX5 43 "ToneLoaderModel" "states" "I", Cond.methodLink RL 112 yX5_thrown, Cond.instanceMethod yX5_thrown, Cond.selects RX5 yX5_thrown yX5_thrown, Cond.code yX5_thrown cX5_thrown 1 (some .int), Cond.methodLink RL 115 yL_setCoupling, Cond.static yL_setCoupling, Cond.codeWith yL_setCoupling cL_setCoupling 6 (some .int) [(0, 12, 15, 13), (0, 12, 19, 15)], Cond.methodLink RL 17 yX4_setCoupling, Cond.instanceMethod yX4_setCoupling, Cond.selects RX4 yX4_setCoupling yX4_setCoupling, Cond.code yX4_setCoupling cX4_setCoupling 6 (some .int), Cond.fieldLink RX4 55 "ToneLoader$Pair" "coupling" "[I"]
def wsL_law0_r9 : List Cond := [Cond.methodLink RL 117 yX5_setCoupling, Cond.instanceMethod yX5_setCoupling, Cond.selects RX5 yX5_setCoupling yX5_setCoupling, Cond.code yX5_setCoupling cX5_setCoupling 4 (some .int), Cond.constantLong RX5 68 (1000), Cond.methodLink RL 118 yL_setLimit, Cond.static yL_setLimit, Cond.codeWith yL_setLimit cL_setLimit 6 (some .int) [(0, 12, 15, 13), (0, 12, 19, 15), (0, 12, 23, 23)], Cond.classLink RL 23 "java/lang/IllegalStateException", Cond.methodLink RL 20 yX4_setLimit, Cond.instanceMethod yX4_setLimit, Cond.selects RX4 yX4_setLimit yX4_setLimit, Cond.code yX4_setLimit cX4_setLimit 6 (some .int), Cond.classLink RX4 64 "java/lang/IllegalStateException", Cond.initialized "java/lang/IllegalStateException", Cond.fieldLink RX4 58 "ToneLoader$Pair" "received" "[I", Cond.fieldLink RX4 61 "ToneLoader$Pair" "sent" "[I", Cond.fieldLink RX4 71 "ToneLoader$Pair" "limit" "[I", Cond.methodLink RL 120 yX5_setLimit, Cond.instanceMethod yX5_setLimit, Cond.selects RX5 yX5_setLimit yX5_setLimit, Cond.code yX5_setLimit cX5_setLimit 4 (some .int), Cond.methodLink RL 121 yL_setBudget, Cond.static yL_setBudget]
def wsL_law0_r10 : List Cond := [Cond.codeWith yL_setBudget cL_setBudget 5 (some .int) [(0, 10, 13, 13), (0, 10, 17, 15)], Cond.methodLink RL 25 yX4_setBudget, Cond.instanceMethod yX4_setBudget, Cond.selects RX4 yX4_setBudget yX4_setBudget, Cond.code yX4_setBudget cX4_setBudget 5 (some .int), Cond.constant RX4 74 (1000000000), Cond.fieldLink RX4 75 "ToneLoader$Pair" "budget" "I", Cond.methodLink RL 124 yX5_setBudget, Cond.instanceMethod yX5_setBudget, Cond.selects RX5 yX5_setBudget yX5_setBudget, Cond.code yX5_setBudget cX5_setBudget 3 (some .int), Cond.constantLong RX5 70 (1000000000), Cond.methodLink RL 125 yL_loadRate, Cond.static yL_loadRate, Cond.codeWith yL_loadRate cL_loadRate 4 (some .int) [(0, 9, 12, 13)], Cond.methodLink RL 29 yX4_loadRate, Cond.instanceMethod yX4_loadRate, Cond.selects RX4 yX4_loadRate yX4_loadRate, Cond.code yX4_loadRate cX4_loadRate 3 (some .int), Cond.methodLink RX4 78 yX4_otherOf, Cond.instanceMethod yX4_otherOf, Cond.selects RX4 yX4_otherOf yX4_otherOf, Cond.code yX4_otherOf cX4_otherOf 2 (some (.object "ToneLoader$Pair")), Cond.methodLink RX4 81 yX4_loadForRate]
def wsL_law0_r11 : List Cond := [Cond.instanceMethod yX4_loadForRate, Cond.selects RX4 yX4_loadForRate yX4_loadForRate, Cond.code yX4_loadForRate cX4_loadForRate 3 (some .boolean), Cond.methodLink RX4 89 yX1_readLine, Cond.instanceMethod yX1_readLine, Cond.selects RX1 yX1_readLine yX1_readLine, Cond.code yX1_readLine cX1_readLine 4 none, Cond.fieldLink RX1 28 "ToneLoader$Pair" "limit" "[I", Cond.methodLink RX1 29 arraycopyName, Cond.methodLink RX1 22 yX0_noiseBeside, Cond.instanceMethod yX0_noiseBeside, Cond.selects RX0 yX0_noiseBeside yX0_noiseBeside, Cond.code yX0_noiseBeside cX0_noiseBeside 3 (some .long), Cond.constantLong RX0 66 (1000), Cond.methodLink RX4 93 yX1_clearBits, Cond.instanceMethod yX1_clearBits, Cond.selects RX1 yX1_clearBits yX1_clearBits, Cond.code yX1_clearBits cX1_clearBits 1 none, Cond.methodLink RX1 42 yJ7_fill_53178, Cond.methodLink RX4 236 yX1_fillToBudget, Cond.instanceMethod yX1_fillToBudget, Cond.selects RX1 yX1_fillToBudget yX1_fillToBudget, Cond.code yX1_fillToBudget cX1_fillToBudget 7 none, Cond.methodLink RX1 48 yX1_cheapestTone]
def wsL_law0_r12 : List Cond := [Cond.instanceMethod yX1_cheapestTone, Cond.selects RX1 yX1_cheapestTone yX1_cheapestTone, Cond.code yX1_cheapestTone cX1_cheapestTone 8 (some .int), Cond.methodLink RX1 52 yX1_stepOf, Cond.instanceMethod yX1_stepOf, Cond.selects RX1 yX1_stepOf yX1_stepOf, Cond.code yX1_stepOf cX1_stepOf 2 (some .long), Cond.methodLink RX4 102 yX1_settle, Cond.instanceMethod yX1_settle, Cond.selects RX1 yX1_settle yX1_settle, Cond.code yX1_settle cX1_settle 6 (some .boolean), Cond.fieldLink RX1 39 "ToneLoader$Pair" "received" "[I", Cond.fieldLink RX1 75 "ToneLoader$Pair" "energies" "[J", Cond.fieldLink RX1 78 "ToneLoader$Pair" "sent" "[I", Cond.fieldLink RX1 81 "ToneLoader$Pair" "apart" "Z", Cond.fieldLink RX1 85 "ToneLoader$Pair" "talk" "LToneLoader$Talk;", Cond.static yX4_needFor, Cond.code yX4_needFor cX4_needFor 3 (some .long), Cond.static yX4_cappedEnergy, Cond.code yX4_cappedEnergy cX4_cappedEnergy 2 (some .long), Cond.constantLong RX4 260 (1000000000000), Cond.methodLink RX1 89 yX3_dropAll, Cond.instanceMethod yX3_dropAll, Cond.selects RX3 yX3_dropAll yX3_dropAll]
def wsL_law0_r13 : List Cond := [Cond.code yX3_dropAll cX3_dropAll 1 none, Cond.methodLink RX4 85 yX0_tableBits, Cond.instanceMethod yX0_tableBits, Cond.selects RX0 yX0_tableBits yX0_tableBits, Cond.code yX0_tableBits cX0_tableBits 3 (some .int), Cond.methodLink RL 128 yX5_loadRate, Cond.instanceMethod yX5_loadRate, Cond.selects RX5 yX5_loadRate yX5_loadRate, Cond.code yX5_loadRate cX5_loadRate 2 (some .int), Cond.methodLink RX5 109 yX5_load, Cond.instanceMethod yX5_load, Cond.selects RX5 yX5_load yX5_load, Cond.code yX5_load cX5_load 8 none, Cond.methodLink RX5 100 yX5_clear, Cond.instanceMethod yX5_clear, Cond.selects RX5 yX5_clear yX5_clear, Cond.code yX5_clear cX5_clear 3 none, Cond.methodLink RX5 103 yX5_cheapest, Cond.instanceMethod yX5_cheapest, Cond.selects RX5 yX5_cheapest yX5_cheapest, Cond.code yX5_cheapest cX5_cheapest 6 (some .int), Cond.methodLink RX5 90 yX5_isBelow, Cond.instanceMethod yX5_isBelow, Cond.selects RX5 yX5_isBelow yX5_isBelow]
def wsL_law0_r14 : List Cond := [Cond.code yX5_isBelow cX5_isBelow 3 (some .boolean), Cond.methodLink RX5 76 yX5_stepOf, Cond.instanceMethod yX5_stepOf, Cond.selects RX5 yX5_stepOf yX5_stepOf, Cond.code yX5_stepOf cX5_stepOf 3 (some .long), Cond.methodLink RX5 72 yX5_noiseOf, Cond.instanceMethod yX5_noiseOf, Cond.selects RX5 yX5_noiseOf yX5_noiseOf, Cond.code yX5_noiseOf cX5_noiseOf 3 (some .long), Cond.methodLink RX5 106 yX5_finish, Cond.instanceMethod yX5_finish, Cond.selects RX5 yX5_finish yX5_finish, Cond.code yX5_finish cX5_finish 3 none, Cond.methodLink RX5 96 yX5_feed, Cond.instanceMethod yX5_feed, Cond.selects RX5 yX5_feed yX5_feed, Cond.code yX5_feed cX5_feed 5 none, Cond.constantLong RX5 88 (1000000000000), Cond.methodLink RX5 85 yX5_needOf, Cond.instanceMethod yX5_needOf, Cond.selects RX5 yX5_needOf yX5_needOf, Cond.code yX5_needOf cX5_needOf 3 (some .long), Cond.methodLink RX5 81 yX5_need, Cond.static yX5_need]
def wsL_law0_r15 : List Cond := [Cond.code yX5_need cX5_need 4 (some .long), Cond.methodLink RX5 112 yX5_rateOf, Cond.instanceMethod yX5_rateOf, Cond.selects RX5 yX5_rateOf yX5_rateOf, Cond.code yX5_rateOf cX5_rateOf 5 (some .int), Cond.methodLink RL 129 yL_loadBits, Cond.static yL_loadBits, Cond.codeWith yL_loadBits cL_loadBits 5 (some .int) [(0, 9, 12, 13), (0, 9, 16, 15), (0, 9, 20, 23)], Cond.methodLink RL 33 yX4_loadBits, Cond.instanceMethod yX4_loadBits, Cond.selects RX4 yX4_loadBits yX4_loadBits, Cond.code yX4_loadBits cX4_loadBits 4 (some .long), Cond.methodLink RX4 96 yX1_fillToTarget, Cond.instanceMethod yX1_fillToTarget, Cond.selects RX1 yX1_fillToTarget yX1_fillToTarget, Cond.code yX1_fillToTarget cX1_fillToTarget 4 (some .boolean), Cond.methodLink RX4 106 yX0_energySum, Cond.instanceMethod yX0_energySum, Cond.selects RX0 yX0_energySum yX0_energySum, Cond.code yX0_energySum cX0_energySum 4 (some .long), Cond.methodLink RL 131 yX5_loadBits, Cond.instanceMethod yX5_loadBits, Cond.selects RX5 yX5_loadBits yX5_loadBits, Cond.code yX5_loadBits cX5_loadBits 5 (some .long)]
def wsL_law0_r16 : List Cond := [Cond.constantLong RX5 115 (192), Cond.methodLink RX5 46 yX5_bad, Cond.instanceMethod yX5_bad, Cond.selects RX5 yX5_bad yX5_bad, Cond.code yX5_bad cX5_bad 2 (some .int), Cond.methodLink RX5 117 yX5_energyOf, Cond.instanceMethod yX5_energyOf, Cond.selects RX5 yX5_energyOf yX5_energyOf, Cond.code yX5_energyOf cX5_energyOf 5 (some .long), Cond.methodLink RL 132 yL_repair, Cond.static yL_repair, Cond.codeWith yL_repair cL_repair 4 (some .int) [(0, 9, 12, 13)], Cond.methodLink RL 37 yX4_repair, Cond.instanceMethod yX4_repair, Cond.selects RX4 yX4_repair yX4_repair, Cond.code yX4_repair cX4_repair 4 (some .int), Cond.methodLink RX4 110 yX1_readTable, Cond.instanceMethod yX1_readTable, Cond.selects RX1 yX1_readTable yX1_readTable, Cond.code yX1_readTable cX1_readTable 3 none, Cond.methodLink RX1 35 yX1_readLine, Cond.methodLink RX4 113 yX1_makeEfficient, Cond.instanceMethod yX1_makeEfficient, Cond.selects RX1 yX1_makeEfficient yX1_makeEfficient]
def wsL_law0_r17 : List Cond := [Cond.code yX1_makeEfficient cX1_makeEfficient 4 (some .int), Cond.methodLink RX1 56 yX1_dearestTone, Cond.instanceMethod yX1_dearestTone, Cond.selects RX1 yX1_dearestTone yX1_dearestTone, Cond.code yX1_dearestTone cX1_dearestTone 7 (some .int), Cond.methodLink RX1 64 yX1_lastCostOf, Cond.instanceMethod yX1_lastCostOf, Cond.selects RX1 yX1_lastCostOf yX1_lastCostOf, Cond.code yX1_lastCostOf cX1_lastCostOf 2 (some .long), Cond.methodLink RX1 60 yX1_canSave, Cond.instanceMethod yX1_canSave, Cond.selects RX1 yX1_canSave yX1_canSave, Cond.code yX1_canSave cX1_canSave 3 (some .boolean), Cond.methodLink RL 134 yX5_repair, Cond.instanceMethod yX5_repair, Cond.selects RX5 yX5_repair yX5_repair, Cond.code yX5_repair cX5_repair 5 (some .int), Cond.methodLink RX5 127 yX5_efficient, Cond.instanceMethod yX5_efficient, Cond.selects RX5 yX5_efficient yX5_efficient, Cond.code yX5_efficient cX5_efficient 4 (some .boolean), Cond.methodLink RX5 124 yX5_dearest, Cond.instanceMethod yX5_dearest, Cond.selects RX5 yX5_dearest yX5_dearest]
def wsL_law0_r18 : List Cond := [Cond.code yX5_dearest cX5_dearest 5 (some .int), Cond.methodLink RX5 121 yX5_lastOf, Cond.instanceMethod yX5_lastOf, Cond.selects RX5 yX5_lastOf yX5_lastOf, Cond.code yX5_lastOf cX5_lastOf 3 (some .long), Cond.constantLong RX5 79 (2), Cond.methodLink RL 135 yL_balance, Cond.static yL_balance, Cond.codeWith yL_balance cL_balance 4 (some .int) [(0, 9, 12, 15)], Cond.methodLink RL 40 yX4_balance, Cond.instanceMethod yX4_balance, Cond.selects RX4 yX4_balance yX4_balance, Cond.code yX4_balance cX4_balance 6 (some .int), Cond.methodLink RL 137 yX5_balance, Cond.instanceMethod yX5_balance, Cond.selects RX5 yX5_balance yX5_balance, Cond.code yX5_balance cX5_balance 4 (some .int), Cond.constantLong RX5 130 (20), Cond.methodLink RX5 132 yX5_isSame, Cond.instanceMethod yX5_isSame, Cond.selects RX5 yX5_isSame yX5_isSame, Cond.code yX5_isSame cX5_isSame 6 (some .boolean), Cond.methodLink RL 138 yL_bits, Cond.static yL_bits]
def wsL_law0_r19 : List Cond := [Cond.codeWith yL_bits cL_bits 6 (some .int) [(0, 12, 15, 13), (0, 12, 19, 15)], Cond.methodLink RL 43 yX4_bits, Cond.instanceMethod yX4_bits, Cond.selects RX4 yX4_bits yX4_bits, Cond.code yX4_bits cX4_bits 5 (some .int), Cond.methodLink RL 140 yX5_bits, Cond.instanceMethod yX5_bits, Cond.selects RX5 yX5_bits yX5_bits, Cond.code yX5_bits cX5_bits 4 (some .int), Cond.methodLink RX5 136 yX5_toneCheck, Cond.instanceMethod yX5_toneCheck, Cond.selects RX5 yX5_toneCheck yX5_toneCheck, Cond.code yX5_toneCheck cX5_toneCheck 3 none, Cond.methodLink RL 141 yL_rate, Cond.static yL_rate, Cond.codeWith yL_rate cL_rate 4 (some .int) [(0, 9, 12, 13)], Cond.methodLink RL 46 yX4_rate, Cond.instanceMethod yX4_rate, Cond.selects RX4 yX4_rate yX4_rate, Cond.code yX4_rate cX4_rate 2 (some .int), Cond.methodLink RL 143 yX5_rate, Cond.instanceMethod yX5_rate, Cond.selects RX5 yX5_rate yX5_rate, Cond.code yX5_rate cX5_rate 2 (some .int)]
def wsL_law0_r20 : List Cond := [Cond.methodLink RL 144 yL_energy, Cond.static yL_energy, Cond.codeWith yL_energy cL_energy 5 (some .int) [(0, 9, 12, 13)], Cond.methodLink RL 49 yX4_energy, Cond.instanceMethod yX4_energy, Cond.selects RX4 yX4_energy yX4_energy, Cond.code yX4_energy cX4_energy 4 (some .long), Cond.fieldLink RX4 123 "ToneLoader$Pair" "energies" "[J", Cond.methodLink RL 146 yX5_energy, Cond.instanceMethod yX5_energy, Cond.selects RX5 yX5_energy yX5_energy, Cond.code yX5_energy cX5_energy 3 (some .long), Cond.methodLink RL 147 yL_totalEnergy, Cond.static yL_totalEnergy, Cond.codeWith yL_totalEnergy cL_totalEnergy 4 (some .int) [(0, 8, 11, 13)], Cond.methodLink RL 52 yX4_totalEnergy, Cond.instanceMethod yX4_totalEnergy, Cond.selects RX4 yX4_totalEnergy yX4_totalEnergy, Cond.code yX4_totalEnergy cX4_totalEnergy 2 (some .long), Cond.methodLink RL 149 yX5_totalEnergy, Cond.instanceMethod yX5_totalEnergy, Cond.selects RX5 yX5_totalEnergy yX5_totalEnergy, Cond.code yX5_totalEnergy cX5_totalEnergy 2 (some .long), Cond.methodLink RL 150 yL_disturbedNoise]
def wsL_law0_r21 : List Cond := [Cond.static yL_disturbedNoise, Cond.codeWith yL_disturbedNoise cL_disturbedNoise 5 (some .int) [(0, 9, 12, 13)], Cond.methodLink RL 56 yX4_disturbedNoise, Cond.instanceMethod yX4_disturbedNoise, Cond.selects RX4 yX4_disturbedNoise yX4_disturbedNoise, Cond.code yX4_disturbedNoise cX4_disturbedNoise 4 (some .long), Cond.methodLink RX4 127 yX0_noiseBeside, Cond.methodLink RL 152 yX5_disturbedNoise, Cond.instanceMethod yX5_disturbedNoise, Cond.selects RX5 yX5_disturbedNoise yX5_disturbedNoise, Cond.code yX5_disturbedNoise cX5_disturbedNoise 3 (some .long), Cond.methodLink RL 153 yL_margin, Cond.static yL_margin, Cond.codeWith yL_margin cL_margin 5 (some .int) [(0, 9, 12, 13)], Cond.methodLink RL 59 yX4_margin, Cond.instanceMethod yX4_margin, Cond.selects RX4 yX4_margin yX4_margin, Cond.code yX4_margin cX4_margin 4 (some .long), Cond.methodLink RX4 131 yX0_marginBeside, Cond.instanceMethod yX0_marginBeside, Cond.selects RX0 yX0_marginBeside yX0_marginBeside, Cond.code yX0_marginBeside cX0_marginBeside 5 (some .long), Cond.constantLong RX0 79 (-1), Cond.constantLong RX0 81 (100)]
def wsL_law0_r22 : List Cond := [Cond.methodLink RX0 76 yX0_needBeside, Cond.instanceMethod yX0_needBeside, Cond.selects RX0 yX0_needBeside yX0_needBeside, Cond.code yX0_needBeside cX0_needBeside 3 (some .long), Cond.methodLink RX0 68 yX0_noiseBeside, Cond.methodLink RL 155 yX5_margin, Cond.instanceMethod yX5_margin, Cond.selects RX5 yX5_margin yX5_margin, Cond.code yX5_margin cX5_margin 3 (some .long), Cond.methodLink RX5 139 yX5_marginOf, Cond.instanceMethod yX5_marginOf, Cond.selects RX5 yX5_marginOf yX5_marginOf, Cond.code yX5_marginOf cX5_marginOf 3 (some .long), Cond.methodLink RL 156 yL_leastMargin, Cond.static yL_leastMargin, Cond.codeWith yL_leastMargin cL_leastMargin 4 (some .int) [(0, 8, 11, 13)], Cond.methodLink RL 62 yX4_leastMargin, Cond.instanceMethod yX4_leastMargin, Cond.selects RX4 yX4_leastMargin yX4_leastMargin, Cond.code yX4_leastMargin cX4_leastMargin 5 (some .long), Cond.constantLong RX4 138 (-1), Cond.methodLink RX4 134 yX0_weakestTone, Cond.instanceMethod yX0_weakestTone, Cond.selects RX0 yX0_weakestTone yX0_weakestTone]
def wsL_law0_r23 : List Cond := [Cond.code yX0_weakestTone cX0_weakestTone 8 (some .int), Cond.methodLink RX0 83 yX0_marginBeside, Cond.methodLink RL 158 yX5_leastMargin, Cond.instanceMethod yX5_leastMargin, Cond.selects RX5 yX5_leastMargin yX5_leastMargin, Cond.code yX5_leastMargin cX5_leastMargin 3 (some .long), Cond.methodLink RX5 142 yX5_weakest, Cond.instanceMethod yX5_weakest, Cond.selects RX5 yX5_weakest yX5_weakest, Cond.code yX5_weakest cX5_weakest 5 (some .int), Cond.methodLink RL 159 yL_badTones, Cond.static yL_badTones, Cond.codeWith yL_badTones cL_badTones 4 (some .int) [(0, 9, 12, 13)], Cond.methodLink RL 65 yX4_badTones, Cond.instanceMethod yX4_badTones, Cond.selects RX4 yX4_badTones yX4_badTones, Cond.code yX4_badTones cX4_badTones 8 (some .int), Cond.constantLong RX4 140 (100), Cond.methodLink RL 161 yX5_badTones, Cond.instanceMethod yX5_badTones, Cond.selects RX5 yX5_badTones yX5_badTones, Cond.code yX5_badTones cX5_badTones 6 (some .int), Cond.methodLink RL 162 yL_isEfficient, Cond.static yL_isEfficient]
def wsL_law0_r24 : List Cond := [Cond.codeWith yL_isEfficient cL_isEfficient 4 (some .int) [(0, 16, 19, 13)], Cond.methodLink RL 68 yX4_isEfficient, Cond.instanceMethod yX4_isEfficient, Cond.selects RX4 yX4_isEfficient yX4_isEfficient, Cond.code yX4_isEfficient cX4_isEfficient 3 (some .boolean), Cond.methodLink RX4 142 yX4_efficient, Cond.instanceMethod yX4_efficient, Cond.selects RX4 yX4_efficient yX4_efficient, Cond.code yX4_efficient cX4_efficient 3 (some .boolean), Cond.methodLink RX4 240 yX1_dearestTone, Cond.methodLink RX4 173 yX1_cheapestTone, Cond.methodLink RX4 243 yX1_canSave, Cond.methodLink RL 164 yX5_isEfficient, Cond.instanceMethod yX5_isEfficient, Cond.selects RX5 yX5_isEfficient yX5_isEfficient, Cond.code yX5_isEfficient cX5_isEfficient 2 (some .boolean), Cond.methodLink RL 165 yL_meanBits, Cond.static yL_meanBits, Cond.codeWith yL_meanBits cL_meanBits 4 (some .int) [(0, 8, 11, 13)], Cond.methodLink RL 72 yX4_meanBits, Cond.instanceMethod yX4_meanBits, Cond.selects RX4 yX4_meanBits yX4_meanBits, Cond.code yX4_meanBits cX4_meanBits 2 (some .double), Cond.constantDouble RX4 145 (4625196817309499392)]
def wsL_law0_r25 : List Cond := [Cond.methodLink RL 168 yX5_meanBits, Cond.instanceMethod yX5_meanBits, Cond.selects RX5 yX5_meanBits yX5_meanBits, Cond.code yX5_meanBits cX5_meanBits 2 (some .double), Cond.constantDouble RX5 145 (4625196817309499392), Cond.methodLink RL 169 yL_request, Cond.static yL_request, Cond.codeWith yL_request cL_request 6 (some .int) [(0, 12, 15, 13), (0, 12, 19, 15), (0, 12, 23, 23)], Cond.methodLink RL 76 yX4_request, Cond.instanceMethod yX4_request, Cond.selects RX4 yX4_request yX4_request, Cond.code yX4_request cX4_request 5 (some .int), Cond.fieldLink RX4 152 "ToneLoader$Pair" "talk" "LToneLoader$Talk;", Cond.fieldLink RX4 156 "ToneLoader$Talk" "open" "Z", Cond.fieldLink RX4 162 "ToneLoader$Pair" "apart" "Z", Cond.methodLink RX4 169 yX3_openRequest, Cond.instanceMethod yX3_openRequest, Cond.selects RX3 yX3_openRequest yX3_openRequest, Cond.code yX3_openRequest cX3_openRequest 3 (some .int), Cond.methodLink RX3 55 yJ9_floorMod_7cf53, Cond.methodLink RL 171 yX5_request, Cond.instanceMethod yX5_request, Cond.selects RX5 yX5_request yX5_request, Cond.code yX5_request cX5_request 4 (some .int)]
def wsL_law0_r26 : List Cond := [Cond.constantLong RX5 150 (8), Cond.methodLink RX5 147 yX5_inStepNow, Cond.instanceMethod yX5_inStepNow, Cond.selects RX5 yX5_inStepNow yX5_inStepNow, Cond.code yX5_inStepNow cX5_inStepNow 4 (some .boolean), Cond.methodLink RX5 152 yX5_send, Cond.instanceMethod yX5_send, Cond.selects RX5 yX5_send yX5_send, Cond.code yX5_send cX5_send 3 (some .int), Cond.methodLink RL 172 yL_suggest, Cond.static yL_suggest, Cond.codeWith yL_suggest cL_suggest 4 (some .int) [(0, 9, 12, 13)], Cond.methodLink RL 79 yX4_suggest, Cond.instanceMethod yX4_suggest, Cond.selects RX4 yX4_suggest yX4_suggest, Cond.code yX4_suggest cX4_suggest 6 (some .int), Cond.methodLink RL 174 yX5_suggest, Cond.instanceMethod yX5_suggest, Cond.selects RX5 yX5_suggest yX5_suggest, Cond.code yX5_suggest cX5_suggest 4 (some .int), Cond.methodLink RL 175 yL_resend, Cond.static yL_resend, Cond.codeWith yL_resend cL_resend 4 (some .int) [(0, 9, 12, 13), (0, 9, 15, 23)], Cond.methodLink RL 82 yX4_resend]
def wsL_law0_r27 : List Cond := [Cond.instanceMethod yX4_resend, Cond.selects RX4 yX4_resend yX4_resend, Cond.code yX4_resend cX4_resend 3 (some .int), Cond.fieldLink RX4 179 "ToneLoader$Talk" "requestOnWay" "Z", Cond.fieldLink RX4 182 "ToneLoader$Talk" "number" "I", Cond.methodLink RL 177 yX5_resend, Cond.instanceMethod yX5_resend, Cond.selects RX5 yX5_resend yX5_resend, Cond.code yX5_resend cX5_resend 2 (some .int), Cond.methodLink RL 178 yL_deliver, Cond.static yL_deliver, Cond.codeWith yL_deliver cL_deliver 6 (some .int) [(0, 12, 15, 13), (0, 12, 19, 15), (0, 12, 23, 23)], Cond.methodLink RL 85 yX4_deliver, Cond.instanceMethod yX4_deliver, Cond.selects RX4 yX4_deliver yX4_deliver, Cond.code yX4_deliver cX4_deliver 6 (some .int), Cond.fieldLink RX4 185 "ToneLoader$Talk" "answerOnWay" "Z", Cond.fieldLink RX4 190 "ToneLoader$State" "frames" "I", Cond.methodLink RX4 193 yX3_answerRequest, Cond.instanceMethod yX3_answerRequest, Cond.selects RX3 yX3_answerRequest yX3_answerRequest, Cond.code yX3_answerRequest cX3_answerRequest 2 (some .int), Cond.methodLink RX4 196 yX3_noteAnswer, Cond.instanceMethod yX3_noteAnswer]
def wsL_law0_r28 : List Cond := [Cond.selects RX3 yX3_noteAnswer yX3_noteAnswer, Cond.code yX3_noteAnswer cX3_noteAnswer 1 (some .int), Cond.methodLink RL 181 yX5_deliver, Cond.instanceMethod yX5_deliver, Cond.selects RX5 yX5_deliver yX5_deliver, Cond.code yX5_deliver cX5_deliver 5 (some .int), Cond.methodLink RX5 155 yX5_askSender, Cond.instanceMethod yX5_askSender, Cond.selects RX5 yX5_askSender yX5_askSender, Cond.code yX5_askSender cX5_askSender 4 (some .int), Cond.methodLink RX5 158 yX5_tellReceiver, Cond.instanceMethod yX5_tellReceiver, Cond.selects RX5 yX5_tellReceiver yX5_tellReceiver, Cond.code yX5_tellReceiver cX5_tellReceiver 2 (some .int), Cond.methodLink RL 182 yL_run, Cond.static yL_run, Cond.codeWith yL_run cL_run 4 (some .int) [(0, 9, 12, 15)], Cond.methodLink RL 89 yX4_run, Cond.instanceMethod yX4_run, Cond.selects RX4 yX4_run yX4_run, Cond.code yX4_run cX4_run 3 (some .int), Cond.methodLink RX4 199 yX2_passFrame, Cond.instanceMethod yX2_passFrame, Cond.selects RX2 yX2_passFrame yX2_passFrame]
def wsL_law0_r29 : List Cond := [Cond.code yX2_passFrame cX2_passFrame 1 none, Cond.methodLink RX2 27 yX0_enterFrame, Cond.instanceMethod yX0_enterFrame, Cond.selects RX0 yX0_enterFrame yX0_enterFrame, Cond.code yX0_enterFrame cX0_enterFrame 5 none, Cond.fieldLink RX0 86 "ToneLoader$Talk" "agreedFrame" "I", Cond.fieldLink RX0 93 "ToneLoader$Talk" "agreedFrom" "I", Cond.fieldLink RX0 96 "ToneLoader$Talk" "agreedTo" "I", Cond.fieldLink RX0 103 "ToneLoader$Talk" "from" "I", Cond.fieldLink RX0 106 "ToneLoader$Talk" "to" "I", Cond.fieldLink RX0 113 "ToneLoader$Talk" "open" "Z", Cond.methodLink RX0 89 yX3_isDue, Cond.instanceMethod yX3_isDue, Cond.selects RX3 yX3_isDue yX3_isDue, Cond.code yX3_isDue cX3_isDue 2 (some .boolean), Cond.methodLink RX0 99 yX0_moveBit, Cond.static yX0_moveBit, Cond.code yX0_moveBit cX0_moveBit 3 none, Cond.methodLink RX0 109 yX0_renewEnergy, Cond.instanceMethod yX0_renewEnergy, Cond.selects RX0 yX0_renewEnergy yX0_renewEnergy, Cond.code yX0_renewEnergy cX0_renewEnergy 3 none, Cond.methodLink RX0 116 yX0_endsDiffer, Cond.instanceMethod yX0_endsDiffer]
def wsL_law0_r30 : List Cond := [Cond.selects RX0 yX0_endsDiffer yX0_endsDiffer, Cond.code yX0_endsDiffer cX0_endsDiffer 2 (some .boolean), Cond.methodLink RX2 31 yX0_countFrame, Cond.instanceMethod yX0_countFrame, Cond.selects RX0 yX0_countFrame yX0_countFrame, Cond.code yX0_countFrame cX0_countFrame 1 none, Cond.methodLink RL 184 yX5_run, Cond.instanceMethod yX5_run, Cond.selects RX5 yX5_run yX5_run, Cond.code yX5_run cX5_run 3 (some .int), Cond.methodLink RX5 161 yX5_frame, Cond.instanceMethod yX5_frame, Cond.selects RX5 yX5_frame yX5_frame, Cond.code yX5_frame cX5_frame 5 none, Cond.methodLink RL 185 yL_inStep, Cond.static yL_inStep, Cond.codeWith yL_inStep cL_inStep 4 (some .int) [(0, 16, 19, 13)], Cond.methodLink RL 92 yX4_inStep, Cond.instanceMethod yX4_inStep, Cond.selects RX4 yX4_inStep yX4_inStep, Cond.code yX4_inStep cX4_inStep 2 (some .boolean), Cond.methodLink RL 187 yX5_inStep, Cond.instanceMethod yX5_inStep, Cond.selects RX5 yX5_inStep yX5_inStep]
def wsL_law0_r31 : List Cond := [Cond.code yX5_inStep cX5_inStep 2 (some .boolean), Cond.methodLink RL 188 yL_brokenFrames, Cond.static yL_brokenFrames, Cond.codeWith yL_brokenFrames cL_brokenFrames 4 (some .int) [(0, 9, 12, 13)], Cond.methodLink RL 95 yX4_brokenFrames, Cond.instanceMethod yX4_brokenFrames, Cond.selects RX4 yX4_brokenFrames yX4_brokenFrames, Cond.code yX4_brokenFrames cX4_brokenFrames 2 (some .int), Cond.fieldLink RX4 202 "ToneLoader$Pair" "broken" "I", Cond.methodLink RL 190 yX5_brokenFrames, Cond.instanceMethod yX5_brokenFrames, Cond.selects RX5 yX5_brokenFrames yX5_brokenFrames, Cond.code yX5_brokenFrames cX5_brokenFrames 2 (some .int), Cond.methodLink RL 191 yL_undo, Cond.static yL_undo, Cond.codeWith yL_undo cL_undo 3 (some .int) [(0, 8, 11, 23)], Cond.methodLink RL 98 yX4_undo, Cond.instanceMethod yX4_undo, Cond.selects RX4 yX4_undo yX4_undo, Cond.code yX4_undo cX4_undo 1 (some .int), Cond.methodLink RL 194 yX5_undo, Cond.instanceMethod yX5_undo, Cond.selects RX5 yX5_undo yX5_undo, Cond.code yX5_undo cX5_undo 1 (some .int)]
def wsL_law0_r32 : List Cond := [Cond.methodLink RX5 50 yX5_back, Cond.instanceMethod yX5_back, Cond.selects RX5 yX5_back yX5_back, Cond.code yX5_back cX5_back 2 none, Cond.methodLink RL 195 yX4_digest, Cond.instanceMethod yX4_digest, Cond.selects RX4 yX4_digest yX4_digest, Cond.code yX4_digest cX4_digest 3 (some .long), Cond.constantLong RX4 216 (86459), Cond.constantLong RX4 222 (31), Cond.methodLink RX4 218 yX4_hashPair, Cond.instanceMethod yX4_hashPair, Cond.selects RX4 yX4_hashPair yX4_hashPair, Cond.code yX4_hashPair cX4_hashPair 8 (some .long), Cond.methodLink RX4 247 yX4_hashTalk, Cond.static yX4_hashTalk, Cond.code yX4_hashTalk cX4_hashTalk 5 (some .long), Cond.fieldLink RX4 251 "ToneLoader$Talk" "from" "I", Cond.fieldLink RX4 254 "ToneLoader$Talk" "to" "I", Cond.fieldLink RX4 257 "ToneLoader$Talk" "notedFrame" "I", Cond.methodLink RL 199 yX5_digest, Cond.instanceMethod yX5_digest, Cond.selects RX5 yX5_digest yX5_digest, Cond.code yX5_digest cX5_digest 1 (some .long)]
def wsL_law0_r33 : List Cond := [Cond.constantLong RX5 174 (2789), Cond.fieldLink RX5 166 "ToneLoaderModel" "hash" "J", Cond.methodLink RX5 170 yX5_mix, Cond.instanceMethod yX5_mix, Cond.selects RX5 yX5_mix yX5_mix, Cond.code yX5_mix cX5_mix 3 none, Cond.constantLong RX5 164 (31), Cond.methodLink RX5 176 yX5_mixPair, Cond.instanceMethod yX5_mixPair, Cond.selects RX5 yX5_mixPair yX5_mixPair, Cond.code yX5_mixPair cX5_mixPair 4 none]
def wsL_law0 : List Cond := (wsL_law0_r1 ++ (wsL_law0_r2 ++ (wsL_law0_r3 ++ (wsL_law0_r4 ++ (wsL_law0_r5 ++ (wsL_law0_r6 ++ (wsL_law0_r7 ++ (wsL_law0_r8 ++ (wsL_law0_r9 ++ (wsL_law0_r10 ++ (wsL_law0_r11 ++ (wsL_law0_r12 ++ (wsL_law0_r13 ++ (wsL_law0_r14 ++ (wsL_law0_r15 ++ (wsL_law0_r16 ++ (wsL_law0_r17 ++ (wsL_law0_r18 ++ (wsL_law0_r19 ++ (wsL_law0_r20 ++ (wsL_law0_r21 ++ (wsL_law0_r22 ++ (wsL_law0_r23 ++ (wsL_law0_r24 ++ (wsL_law0_r25 ++ (wsL_law0_r26 ++ (wsL_law0_r27 ++ (wsL_law0_r28 ++ (wsL_law0_r29 ++ (wsL_law0_r30 ++ (wsL_law0_r31 ++ (wsL_law0_r32 ++ wsL_law0_r33)))))))))))))))))))))))))))))))) ++ wsX40 ++ wsX50 ++ wsX20 ++ wsX10 ++ wsX00 ++ wsX30 ++ ([] : List Cond)
def wsL_law : List Cond := wsL_law0 ++ (vx_atS RX4 228 "java/lang/IndexOutOfBoundsException" ["java/lang/RuntimeException", "java/lang/Exception"]).filter goodWord ++ (vx_atS RX4 151 "java/lang/IllegalArgumentException" ["java/lang/RuntimeException", "java/lang/Exception"]).filter goodWord ++ (vx_atS RX4 68 "java/lang/IllegalStateException" ["java/lang/RuntimeException", "java/lang/Exception"]).filter goodWord
theorem wsL_inr1 : ∀ w ∈ wsL_law0_r1, w ∈ lw_tbl := by decide +kernel
theorem wsL_inr2 : ∀ w ∈ wsL_law0_r2, w ∈ lw_tbl := by decide +kernel
theorem wsL_inr3 : ∀ w ∈ wsL_law0_r3, w ∈ lw_tbl := by decide +kernel
theorem wsL_inr4 : ∀ w ∈ wsL_law0_r4, w ∈ lw_tbl := by decide +kernel
theorem wsL_inr5 : ∀ w ∈ wsL_law0_r5, w ∈ lw_tbl := by decide +kernel
theorem wsL_inr6 : ∀ w ∈ wsL_law0_r6, w ∈ lw_tbl := by decide +kernel
theorem wsL_inr7 : ∀ w ∈ wsL_law0_r7, w ∈ lw_tbl := by decide +kernel
theorem wsL_inr8 : ∀ w ∈ wsL_law0_r8, w ∈ lw_tbl := by decide +kernel
theorem wsL_inr9 : ∀ w ∈ wsL_law0_r9, w ∈ lw_tbl := by decide +kernel
theorem wsL_inr10 : ∀ w ∈ wsL_law0_r10, w ∈ lw_tbl := by decide +kernel
theorem wsL_inr11 : ∀ w ∈ wsL_law0_r11, w ∈ lw_tbl := by decide +kernel
theorem wsL_inr12 : ∀ w ∈ wsL_law0_r12, w ∈ lw_tbl := by decide +kernel
theorem wsL_inr13 : ∀ w ∈ wsL_law0_r13, w ∈ lw_tbl := by decide +kernel
theorem wsL_inr14 : ∀ w ∈ wsL_law0_r14, w ∈ lw_tbl := by decide +kernel
theorem wsL_inr15 : ∀ w ∈ wsL_law0_r15, w ∈ lw_tbl := by decide +kernel
theorem wsL_inr16 : ∀ w ∈ wsL_law0_r16, w ∈ lw_tbl := by decide +kernel
theorem wsL_inr17 : ∀ w ∈ wsL_law0_r17, w ∈ lw_tbl := by decide +kernel
theorem wsL_inr18 : ∀ w ∈ wsL_law0_r18, w ∈ lw_tbl := by decide +kernel
theorem wsL_inr19 : ∀ w ∈ wsL_law0_r19, w ∈ lw_tbl := by decide +kernel
theorem wsL_inr20 : ∀ w ∈ wsL_law0_r20, w ∈ lw_tbl := by decide +kernel
theorem wsL_inr21 : ∀ w ∈ wsL_law0_r21, w ∈ lw_tbl := by decide +kernel
theorem wsL_inr22 : ∀ w ∈ wsL_law0_r22, w ∈ lw_tbl := by decide +kernel
theorem wsL_inr23 : ∀ w ∈ wsL_law0_r23, w ∈ lw_tbl := by decide +kernel
theorem wsL_inr24 : ∀ w ∈ wsL_law0_r24, w ∈ lw_tbl := by decide +kernel
theorem wsL_inr25 : ∀ w ∈ wsL_law0_r25, w ∈ lw_tbl := by decide +kernel
theorem wsL_inr26 : ∀ w ∈ wsL_law0_r26, w ∈ lw_tbl := by decide +kernel
theorem wsL_inr27 : ∀ w ∈ wsL_law0_r27, w ∈ lw_tbl := by decide +kernel
theorem wsL_inr28 : ∀ w ∈ wsL_law0_r28, w ∈ lw_tbl := by decide +kernel
theorem wsL_inr29 : ∀ w ∈ wsL_law0_r29, w ∈ lw_tbl := by decide +kernel
theorem wsL_inr30 : ∀ w ∈ wsL_law0_r30, w ∈ lw_tbl := by decide +kernel
theorem wsL_inr31 : ∀ w ∈ wsL_law0_r31, w ∈ lw_tbl := by decide +kernel
theorem wsL_inr32 : ∀ w ∈ wsL_law0_r32, w ∈ lw_tbl := by decide +kernel
theorem wsL_inr33 : ∀ w ∈ wsL_law0_r33, w ∈ lw_tbl := by decide +kernel
theorem wsL_inwsX40 : ∀ w ∈ wsX40, w ∈ lw_tbl := by decide +kernel
theorem wsL_inwsX50 : ∀ w ∈ wsX50, w ∈ lw_tbl := by decide +kernel
theorem wsL_inwsX20 : ∀ w ∈ wsX20, w ∈ lw_tbl := by decide +kernel
theorem wsL_inwsX10 : ∀ w ∈ wsX10, w ∈ lw_tbl := by decide +kernel
theorem wsL_inwsX00 : ∀ w ∈ wsX00, w ∈ lw_tbl := by decide +kernel
theorem wsL_inwsX30 : ∀ w ∈ wsX30, w ∈ lw_tbl := by decide +kernel
theorem wsL_law_in0 : ∀ w ∈ wsL_law0, w ∈ lw_tbl := (List.forall_mem_append.mpr ⟨(List.forall_mem_append.mpr ⟨(List.forall_mem_append.mpr ⟨(List.forall_mem_append.mpr ⟨(List.forall_mem_append.mpr ⟨(List.forall_mem_append.mpr ⟨(List.forall_mem_append.mpr ⟨(List.forall_mem_append.mpr ⟨wsL_inr1, (List.forall_mem_append.mpr ⟨wsL_inr2, (List.forall_mem_append.mpr ⟨wsL_inr3, (List.forall_mem_append.mpr ⟨wsL_inr4, (List.forall_mem_append.mpr ⟨wsL_inr5, (List.forall_mem_append.mpr ⟨wsL_inr6, (List.forall_mem_append.mpr ⟨wsL_inr7, (List.forall_mem_append.mpr ⟨wsL_inr8, (List.forall_mem_append.mpr ⟨wsL_inr9, (List.forall_mem_append.mpr ⟨wsL_inr10, (List.forall_mem_append.mpr ⟨wsL_inr11, (List.forall_mem_append.mpr ⟨wsL_inr12, (List.forall_mem_append.mpr ⟨wsL_inr13, (List.forall_mem_append.mpr ⟨wsL_inr14, (List.forall_mem_append.mpr ⟨wsL_inr15, (List.forall_mem_append.mpr ⟨wsL_inr16, (List.forall_mem_append.mpr ⟨wsL_inr17, (List.forall_mem_append.mpr ⟨wsL_inr18, (List.forall_mem_append.mpr ⟨wsL_inr19, (List.forall_mem_append.mpr ⟨wsL_inr20, (List.forall_mem_append.mpr ⟨wsL_inr21, (List.forall_mem_append.mpr ⟨wsL_inr22, (List.forall_mem_append.mpr ⟨wsL_inr23, (List.forall_mem_append.mpr ⟨wsL_inr24, (List.forall_mem_append.mpr ⟨wsL_inr25, (List.forall_mem_append.mpr ⟨wsL_inr26, (List.forall_mem_append.mpr ⟨wsL_inr27, (List.forall_mem_append.mpr ⟨wsL_inr28, (List.forall_mem_append.mpr ⟨wsL_inr29, (List.forall_mem_append.mpr ⟨wsL_inr30, (List.forall_mem_append.mpr ⟨wsL_inr31, (List.forall_mem_append.mpr ⟨wsL_inr32, wsL_inr33⟩)⟩)⟩)⟩)⟩)⟩)⟩)⟩)⟩)⟩)⟩)⟩)⟩)⟩)⟩)⟩)⟩)⟩)⟩)⟩)⟩)⟩)⟩)⟩)⟩)⟩)⟩)⟩)⟩)⟩)⟩)⟩), wsL_inwsX40⟩), wsL_inwsX50⟩), wsL_inwsX20⟩), wsL_inwsX10⟩), wsL_inwsX00⟩), wsL_inwsX30⟩), (fun _ h => absurd h List.not_mem_nil)⟩)
theorem wsL_law_x0 : ∀ w ∈ (vx_atS RX4 228 "java/lang/IndexOutOfBoundsException" ["java/lang/RuntimeException", "java/lang/Exception"]).filter goodWord, w ∈ lw_tbl := by decide +kernel
theorem wsL_law_x1 : ∀ w ∈ (vx_atS RX4 151 "java/lang/IllegalArgumentException" ["java/lang/RuntimeException", "java/lang/Exception"]).filter goodWord, w ∈ lw_tbl := by decide +kernel
theorem wsL_law_x2 : ∀ w ∈ (vx_atS RX4 68 "java/lang/IllegalStateException" ["java/lang/RuntimeException", "java/lang/Exception"]).filter goodWord, w ∈ lw_tbl := by decide +kernel
theorem wsL_law_in : ∀ w ∈ wsL_law, w ∈ lw_tbl := fun w h => (List.mem_append.mp h).elim (fun h => (List.mem_append.mp h).elim (fun h => (List.mem_append.mp h).elim (fun h => wsL_law_in0 w h) (fun h => wsL_law_x0 w h)) (fun h => wsL_law_x1 w h)) (fun h => wsL_law_x2 w h)
theorem inlX0 : ∀ w ∈ wsX00, w ∈ wsL_law := fun _ h => List.mem_append_left _ (List.mem_append_left _ (List.mem_append_left _ (List.mem_append_left _ (List.mem_append_left _ (List.mem_append_right _ h)))))
theorem inX0 : ∀ w ∈ wsX00, w ∈ lw_tbl := fun w h => wsL_law_in w (inlX0 w h)
theorem inlX1 : ∀ w ∈ wsX10, w ∈ wsL_law := fun _ h => List.mem_append_left _ (List.mem_append_left _ (List.mem_append_left _ (List.mem_append_left _ (List.mem_append_left _ (List.mem_append_left _ (List.mem_append_right _ h))))))
theorem inX1 : ∀ w ∈ wsX10, w ∈ lw_tbl := fun w h => wsL_law_in w (inlX1 w h)
theorem inlX2 : ∀ w ∈ wsX20, w ∈ wsL_law := fun _ h => List.mem_append_left _ (List.mem_append_left _ (List.mem_append_left _ (List.mem_append_left _ (List.mem_append_left _ (List.mem_append_left _ (List.mem_append_left _ (List.mem_append_right _ h)))))))
theorem inX2 : ∀ w ∈ wsX20, w ∈ lw_tbl := fun w h => wsL_law_in w (inlX2 w h)
theorem inlX3 : ∀ w ∈ wsX30, w ∈ wsL_law := fun _ h => List.mem_append_left _ (List.mem_append_left _ (List.mem_append_left _ (List.mem_append_left _ (List.mem_append_right _ h))))
theorem inX3 : ∀ w ∈ wsX30, w ∈ lw_tbl := fun w h => wsL_law_in w (inlX3 w h)
theorem inlX4 : ∀ w ∈ wsX40, w ∈ wsL_law := fun _ h => List.mem_append_left _ (List.mem_append_left _ (List.mem_append_left _ (List.mem_append_left _ (List.mem_append_left _ (List.mem_append_left _ (List.mem_append_left _ (List.mem_append_left _ (List.mem_append_left _ (List.mem_append_right _ h)))))))))
theorem inX4 : ∀ w ∈ wsX40, w ∈ lw_tbl := fun w h => wsL_law_in w (inlX4 w h)
theorem inlX5 : ∀ w ∈ wsX50, w ∈ wsL_law := fun _ h => List.mem_append_left _ (List.mem_append_left _ (List.mem_append_left _ (List.mem_append_left _ (List.mem_append_left _ (List.mem_append_left _ (List.mem_append_left _ (List.mem_append_left _ (List.mem_append_right _ h))))))))
theorem inX5 : ∀ w ∈ wsX50, w ∈ lw_tbl := fun w h => wsL_law_in w (inlX5 w h)
theorem inJx145de : ∀ w ∈ wsJx145de0, w ∈ lw_tbl := by decide +kernel
theorem inJ9 : ∀ w ∈ wsJ90, w ∈ lw_tbl := by decide +kernel
theorem inJ0 : ∀ w ∈ wsJ00, w ∈ lw_tbl := by decide +kernel
theorem inJ10 : ∀ w ∈ wsJ100, w ∈ lw_tbl := by decide +kernel
theorem inJ7 : ∀ w ∈ wsJ70, w ∈ lw_tbl := by decide +kernel
set_option maxRecDepth 20000 in
theorem ggL_law_X4_init : GoodIn wsL_law wsX4_init := goodIn_r _ [10, 11, 12, 13, 14, 15, 16, 17, 18, 19, 20, 21, 22, 23, 24, 25, 26, 27, 28, 29, 30, 31, 32, 33, 34, 35, 36, 37, 38, 39, 40, 41, 42, 43, 44, 6, 45, 46, 47, 48, 49, 50, 51, 52, 53, 54, 55, 56, 57, 58, 59, 60, 61, 62, 63, 64, 65, 66, 67, 68, 69, 70, 71, 72, 790, 791, 792, 779, 780, 781, 782, 783, 793, 794, 795, 796, 797, 798, 799, 800, 801, 802, 803, 804, 805, 806, 807, 808, 809, 810, 811, 812, 813, 814, 815, 816, 817, 818, 819] (by decide +kernel) (by decide +kernel)
set_option maxRecDepth 20000 in
theorem gL_law_X4_init : GoodIn wsL_law (wsX4_init) := ggL_law_X4_init
set_option maxRecDepth 20000 in
theorem ggL_law_X5_init : GoodIn wsL_law wsX5_init := goodIn_r _ [75, 76, 12, 13, 6, 77, 78, 79, 80, 81, 82, 83, 84, 5, 85, 86, 87, 88, 89, 90, 784, 785, 786, 787, 788, 789] (by decide +kernel) (by decide +kernel)
set_option maxRecDepth 20000 in
theorem gL_law_X5_init : GoodIn wsL_law (wsX5_init) := ggL_law_X5_init
set_option maxRecDepth 20000 in
theorem ggL_law_L_setNoise : GoodIn wsL_law wsL_setNoise := goodIn_ca (goodIn_ca (goodIn_r _ [94, 95, 96, 97, 98, 99, 2, 100, 101, 102, 103, 104, 105, 106, 107, 17, 108, 109, 110, 111, 112, 113, 114, 115, 116, 117, 118, 119, 120, 121, 122, 123, 124, 19, 18, 20, 125, 126, 127, 128, 129, 130, 131, 16, 132, 29, 33, 34, 133, 134, 135, 32, 136, 40, 137, 138, 139, 140, 41, 42, 43, 44, 45, 49, 51, 52, 53, 141, 142, 143, 48, 144, 145, 146, 147, 148, 149, 58, 150, 151, 152, 59, 60, 61, 153, 154, 796, 797, 798, 799, 800, 801, 802, 803, 804, 805, 779, 780, 781, 782, 783, 790, 791, 792, 806, 807, 808, 809, 810, 811, 812, 813, 814, 815, 816, 817, 818, 819] (by decide +kernel) (by decide +kernel)) (goodIn_sub (fun _ h => List.mem_append_left _ (List.mem_append_left _ (List.mem_append_right _ h))) (by decide +kernel))) (goodIn_sub (fun _ h => List.mem_append_left _ (List.mem_append_right _ h)) (by decide +kernel))
set_option maxRecDepth 20000 in
theorem gL_law_L_setNoise : GoodIn wsL_law (va_wsS RL 106 yL_setNoise wsL_setNoise) := goodIn_app (goodIn_of _ (by decide +kernel)) ggL_law_L_setNoise
set_option maxRecDepth 20000 in
theorem ggL_law_X5_setNoise : GoodIn wsL_law wsX5_setNoise := goodIn_r _ [158, 159, 160, 161, 162, 5, 163, 164, 165, 166, 167, 168, 169, 170, 83, 84, 85, 171, 172, 173, 174, 77, 175, 176, 177, 178, 179, 78, 784, 785, 786, 787, 788, 789] (by decide +kernel) (by decide +kernel)
set_option maxRecDepth 20000 in
theorem gL_law_X5_setNoise : GoodIn wsL_law (wsV RL 111 RX5 yX5_setNoise wsX5_setNoise) := goodIn_app (goodIn_of _ (by decide +kernel)) ggL_law_X5_setNoise
set_option maxRecDepth 20000 in
theorem ggL_law_X5_thrown : GoodIn wsL_law wsX5_thrown := goodIn_r _ [183, 160, 784, 785, 786, 787, 788, 789] (by decide +kernel) (by decide +kernel)
set_option maxRecDepth 20000 in
theorem gL_law_X5_thrown : GoodIn wsL_law (wsV RL 112 RX5 yX5_thrown wsX5_thrown) := goodIn_app (goodIn_of _ (by decide +kernel)) ggL_law_X5_thrown
set_option maxRecDepth 20000 in
theorem ggL_law_L_setCoupling : GoodIn wsL_law wsL_setCoupling := goodIn_ca (goodIn_ca (goodIn_r _ [186, 95, 96, 187, 188, 189, 2, 190, 191, 102, 103, 104, 105, 106, 107, 17, 108, 109, 110, 111, 112, 113, 114, 115, 116, 117, 118, 119, 120, 121, 122, 123, 124, 19, 18, 20, 125, 126, 127, 128, 129, 130, 131, 16, 132, 29, 33, 34, 133, 134, 135, 32, 136, 40, 137, 138, 139, 140, 41, 42, 43, 44, 45, 49, 51, 52, 53, 141, 142, 143, 48, 144, 145, 146, 147, 148, 149, 58, 150, 151, 152, 59, 60, 61, 153, 154, 796, 797, 798, 799, 800, 801, 802, 803, 804, 805, 779, 780, 781, 782, 783, 790, 791, 792, 806, 807, 808, 809, 810, 811, 812, 813, 814, 815, 816, 817, 818, 819] (by decide +kernel) (by decide +kernel)) (goodIn_sub (fun _ h => List.mem_append_left _ (List.mem_append_left _ (List.mem_append_right _ h))) (by decide +kernel))) (goodIn_sub (fun _ h => List.mem_append_left _ (List.mem_append_right _ h)) (by decide +kernel))
set_option maxRecDepth 20000 in
theorem gL_law_L_setCoupling : GoodIn wsL_law (va_wsS RL 115 yL_setCoupling wsL_setCoupling) := goodIn_app (goodIn_of _ (by decide +kernel)) ggL_law_L_setCoupling
set_option maxRecDepth 20000 in
theorem ggL_law_X5_setCoupling : GoodIn wsL_law wsX5_setCoupling := goodIn_r _ [195, 196, 160, 161, 162, 5, 163, 164, 165, 166, 167, 168, 169, 170, 83, 84, 85, 171, 172, 173, 174, 77, 175, 176, 177, 178, 179, 78, 784, 785, 786, 787, 788, 789] (by decide +kernel) (by decide +kernel)
set_option maxRecDepth 20000 in
theorem gL_law_X5_setCoupling : GoodIn wsL_law (wsV RL 117 RX5 yX5_setCoupling wsX5_setCoupling) := goodIn_app (goodIn_of _ (by decide +kernel)) ggL_law_X5_setCoupling
set_option maxRecDepth 20000 in
theorem ggL_law_L_setLimit : GoodIn wsL_law wsL_setLimit := goodIn_ca (goodIn_ca (goodIn_ca (goodIn_r _ [199, 95, 96, 200, 201, 202, 203, 2, 204, 205, 206, 207, 208, 209, 102, 103, 104, 105, 106, 107, 17, 108, 109, 110, 111, 112, 113, 114, 115, 116, 117, 118, 119, 120, 121, 122, 123, 124, 19, 18, 20, 125, 126, 127, 128, 129, 130, 131, 16, 132, 29, 33, 34, 133, 134, 135, 32, 136, 40, 137, 138, 139, 140, 41, 42, 43, 44, 45, 49, 51, 52, 53, 141, 142, 143, 48, 144, 145, 146, 147, 148, 149, 58, 150, 151, 152, 59, 60, 61, 153, 154, 796, 797, 798, 799, 800, 801, 802, 803, 804, 805, 779, 780, 781, 782, 783, 790, 791, 792, 806, 807, 808, 809, 810, 811, 812, 813, 814, 815, 816, 817, 818, 819] (by decide +kernel) (by decide +kernel)) (goodIn_sub (fun _ h => List.mem_append_right _ h) (by decide +kernel))) (goodIn_sub (fun _ h => List.mem_append_left _ (List.mem_append_left _ (List.mem_append_right _ h))) (by decide +kernel))) (goodIn_sub (fun _ h => List.mem_append_left _ (List.mem_append_right _ h)) (by decide +kernel))
set_option maxRecDepth 20000 in
theorem gL_law_L_setLimit : GoodIn wsL_law (va_wsS RL 118 yL_setLimit wsL_setLimit) := goodIn_app (goodIn_of _ (by decide +kernel)) ggL_law_L_setLimit
set_option maxRecDepth 20000 in
theorem ggL_law_X5_setLimit : GoodIn wsL_law wsX5_setLimit := goodIn_r _ [213, 82, 160, 77, 161, 162, 5, 163, 164, 165, 166, 167, 168, 169, 170, 83, 84, 85, 171, 172, 173, 174, 175, 176, 177, 178, 179, 78, 784, 785, 786, 787, 788, 789] (by decide +kernel) (by decide +kernel)
set_option maxRecDepth 20000 in
theorem gL_law_X5_setLimit : GoodIn wsL_law (wsV RL 120 RX5 yX5_setLimit wsX5_setLimit) := goodIn_app (goodIn_of _ (by decide +kernel)) ggL_law_X5_setLimit
set_option maxRecDepth 20000 in
theorem ggL_law_L_setBudget : GoodIn wsL_law wsL_setBudget := goodIn_ca (goodIn_ca (goodIn_r _ [216, 95, 96, 217, 218, 219, 2, 220, 221, 222, 102, 103, 104, 105, 106, 107, 17, 108, 109, 116, 117, 118, 119, 120, 121, 122, 123, 124, 19, 18, 20, 125, 126, 127, 128, 129, 130, 131, 16, 132, 29, 33, 34, 133, 134, 135, 32, 136, 40, 137, 138, 139, 140, 41, 42, 43, 44, 45, 49, 51, 52, 53, 141, 142, 143, 48, 144, 145, 146, 147, 148, 149, 58, 150, 151, 152, 59, 60, 61, 153, 154, 796, 797, 798, 799, 800, 801, 802, 803, 804, 805, 779, 780, 781, 782, 783, 790, 791, 792, 806, 807, 808, 809, 810, 811, 812, 813, 814, 815, 816, 817, 818, 819] (by decide +kernel) (by decide +kernel)) (goodIn_sub (fun _ h => List.mem_append_left _ (List.mem_append_left _ (List.mem_append_right _ h))) (by decide +kernel))) (goodIn_sub (fun _ h => List.mem_append_left _ (List.mem_append_right _ h)) (by decide +kernel))
set_option maxRecDepth 20000 in
theorem gL_law_L_setBudget : GoodIn wsL_law (va_wsS RL 121 yL_setBudget wsL_setBudget) := goodIn_app (goodIn_of _ (by decide +kernel)) ggL_law_L_setBudget
set_option maxRecDepth 20000 in
theorem ggL_law_X5_setBudget : GoodIn wsL_law wsX5_setBudget := goodIn_r _ [226, 227, 160, 161, 162, 5, 163, 164, 165, 166, 83, 84, 85, 171, 172, 173, 174, 77, 175, 176, 177, 178, 179, 78, 784, 785, 786, 787, 788, 789] (by decide +kernel) (by decide +kernel)
set_option maxRecDepth 20000 in
theorem gL_law_X5_setBudget : GoodIn wsL_law (wsV RL 124 RX5 yX5_setBudget wsX5_setBudget) := goodIn_app (goodIn_of _ (by decide +kernel)) ggL_law_X5_setBudget
set_option maxRecDepth 20000 in
theorem ggL_law_L_loadRate : GoodIn wsL_law wsL_loadRate := goodIn_ca (goodIn_r _ [230, 95, 231, 232, 233, 2, 234, 102, 103, 104, 105, 106, 107, 17, 108, 109, 121, 122, 123, 124, 19, 18, 20, 125, 126, 127, 128, 129, 130, 131, 16, 132, 29, 33, 34, 133, 134, 135, 32, 136, 40, 137, 138, 139, 140, 41, 42, 43, 44, 45, 49, 51, 52, 53, 141, 142, 143, 48, 144, 145, 146, 147, 148, 149, 58, 150, 151, 152, 59, 60, 61, 153, 154, 235, 236, 237, 238, 239, 240, 241, 242, 24, 222, 243, 244, 245, 23, 246, 70, 247, 71, 248, 249, 250, 251, 252, 253, 254, 255, 256, 257, 72, 258, 63, 64, 65, 259, 260, 261, 262, 263, 264, 265, 266, 267, 268, 269, 270, 271, 272, 273, 274, 275, 276, 277, 278, 279, 280, 281, 282, 283, 284, 285, 286, 287, 288, 289, 290, 291, 292, 779, 780, 781, 782, 783, 790, 791, 792, 796, 797, 798, 799, 800, 801, 802, 803, 804, 805, 806, 807, 808, 809, 810, 811, 812, 813, 814, 815, 816, 817, 818, 819, 793, 794, 795] (by decide +kernel) (by decide +kernel)) (goodIn_sub (fun _ h => List.mem_append_left _ (List.mem_append_left _ (List.mem_append_right _ h))) (by decide +kernel))
set_option maxRecDepth 20000 in
theorem gL_law_L_loadRate : GoodIn wsL_law (va_wsS RL 125 yL_loadRate wsL_loadRate) := goodIn_app (goodIn_of _ (by decide +kernel)) ggL_law_L_loadRate
set_option maxRecDepth 20000 in
theorem ggL_law_X5_loadRate : GoodIn wsL_law wsX5_loadRate := goodIn_r _ [296, 160, 161, 162, 5, 163, 164, 165, 166, 175, 176, 177, 178, 179, 78, 77, 297, 298, 299, 300, 301, 302, 303, 304, 83, 84, 85, 305, 306, 307, 308, 309, 310, 311, 312, 313, 314, 315, 316, 317, 318, 319, 320, 196, 321, 322, 323, 324, 325, 326, 327, 328, 329, 330, 331, 332, 333, 334, 335, 336, 86, 87, 88, 89, 90, 337, 338, 339, 340, 784, 785, 786, 787, 788, 789] (by decide +kernel) (by decide +kernel)
set_option maxRecDepth 20000 in
theorem gL_law_X5_loadRate : GoodIn wsL_law (wsV RL 128 RX5 yX5_loadRate wsX5_loadRate) := goodIn_app (goodIn_of _ (by decide +kernel)) ggL_law_X5_loadRate
set_option maxRecDepth 20000 in
theorem ggL_law_L_loadBits : GoodIn wsL_law wsL_loadBits := goodIn_ca (goodIn_ca (goodIn_ca (goodIn_r _ [343, 95, 96, 200, 344, 345, 346, 2, 347, 205, 206, 24, 102, 103, 104, 105, 106, 107, 17, 108, 109, 116, 117, 118, 119, 120, 235, 236, 237, 238, 243, 244, 245, 23, 246, 70, 247, 71, 248, 138, 139, 140, 249, 250, 251, 32, 252, 40, 41, 45, 253, 254, 255, 256, 257, 72, 258, 63, 64, 65, 348, 349, 350, 351, 263, 264, 265, 266, 267, 268, 269, 270, 121, 122, 123, 124, 19, 18, 20, 125, 126, 127, 128, 129, 130, 131, 16, 132, 29, 33, 34, 133, 134, 135, 136, 137, 42, 43, 44, 49, 51, 52, 53, 141, 142, 143, 48, 144, 145, 146, 147, 148, 149, 58, 150, 151, 152, 59, 60, 61, 153, 154, 271, 272, 273, 274, 275, 276, 277, 278, 279, 280, 281, 282, 283, 284, 285, 286, 287, 288, 352, 353, 354, 355, 779, 780, 781, 782, 783, 790, 791, 792, 793, 794, 795, 796, 797, 798, 799, 800, 801, 802, 803, 804, 805, 806, 807, 808, 809, 810, 811, 812, 813, 814, 815, 816, 817, 818, 819] (by decide +kernel) (by decide +kernel)) (goodIn_sub (fun _ h => List.mem_append_right _ h) (by decide +kernel))) (goodIn_sub (fun _ h => List.mem_append_left _ (List.mem_append_left _ (List.mem_append_right _ h))) (by decide +kernel))) (goodIn_sub (fun _ h => List.mem_append_left _ (List.mem_append_right _ h)) (by decide +kernel))
set_option maxRecDepth 20000 in
theorem gL_law_L_loadBits : GoodIn wsL_law (va_wsS RL 129 yL_loadBits wsL_loadBits) := goodIn_app (goodIn_of _ (by decide +kernel)) ggL_law_L_loadBits
set_option maxRecDepth 20000 in
theorem ggL_law_X5_loadBits : GoodIn wsL_law wsX5_loadBits := goodIn_r _ [359, 360, 160, 77, 161, 162, 5, 163, 164, 165, 166, 83, 84, 85, 361, 362, 363, 364, 175, 176, 177, 178, 179, 78, 301, 302, 303, 304, 305, 306, 307, 308, 309, 310, 311, 312, 313, 314, 315, 316, 317, 318, 319, 320, 196, 321, 322, 323, 324, 325, 326, 327, 328, 329, 330, 331, 332, 333, 334, 335, 336, 86, 87, 88, 89, 90, 365, 366, 367, 368, 784, 785, 786, 787, 788, 789] (by decide +kernel) (by decide +kernel)
set_option maxRecDepth 20000 in
theorem gL_law_X5_loadBits : GoodIn wsL_law (wsV RL 131 RX5 yX5_loadBits wsX5_loadBits) := goodIn_app (goodIn_of _ (by decide +kernel)) ggL_law_X5_loadBits
set_option maxRecDepth 20000 in
theorem ggL_law_L_repair : GoodIn wsL_law wsL_repair := goodIn_ca (goodIn_r _ [371, 95, 372, 373, 374, 2, 375, 24, 102, 103, 104, 105, 106, 107, 17, 108, 109, 121, 122, 123, 124, 19, 18, 20, 125, 126, 127, 128, 129, 130, 131, 16, 132, 29, 33, 34, 133, 134, 135, 32, 136, 40, 137, 138, 139, 140, 41, 42, 43, 44, 45, 49, 51, 52, 53, 141, 142, 143, 48, 144, 145, 146, 147, 148, 149, 58, 150, 151, 152, 59, 60, 61, 153, 154, 235, 236, 237, 238, 376, 377, 378, 23, 379, 275, 72, 248, 380, 244, 245, 246, 70, 247, 71, 249, 250, 251, 252, 253, 381, 382, 383, 384, 385, 386, 387, 388, 389, 390, 391, 392, 263, 264, 265, 266, 267, 268, 269, 270, 393, 394, 395, 396, 271, 272, 273, 274, 276, 277, 278, 279, 280, 281, 282, 283, 284, 285, 286, 287, 288, 779, 780, 781, 782, 783, 790, 791, 792, 796, 797, 798, 799, 800, 801, 802, 803, 804, 805, 806, 807, 808, 809, 810, 811, 812, 813, 814, 815, 816, 817, 818, 819, 793, 794, 795] (by decide +kernel) (by decide +kernel)) (goodIn_sub (fun _ h => List.mem_append_left _ (List.mem_append_left _ (List.mem_append_right _ h))) (by decide +kernel))
set_option maxRecDepth 20000 in
theorem gL_law_L_repair : GoodIn wsL_law (va_wsS RL 132 yL_repair wsL_repair) := goodIn_app (goodIn_of _ (by decide +kernel)) ggL_law_L_repair
set_option maxRecDepth 20000 in
theorem ggL_law_X5_repair : GoodIn wsL_law wsX5_repair := goodIn_r _ [400, 160, 77, 161, 162, 5, 163, 164, 165, 166, 175, 176, 177, 178, 179, 78, 401, 402, 403, 404, 405, 406, 407, 408, 83, 84, 85, 409, 410, 411, 412, 413, 313, 314, 315, 316, 317, 318, 319, 320, 196, 305, 306, 307, 308, 309, 310, 311, 312, 321, 322, 323, 324, 325, 326, 327, 328, 329, 330, 331, 332, 333, 334, 335, 336, 86, 87, 88, 89, 90, 784, 785, 786, 787, 788, 789] (by decide +kernel) (by decide +kernel)
set_option maxRecDepth 20000 in
theorem gL_law_X5_repair : GoodIn wsL_law (wsV RL 134 RX5 yX5_repair wsX5_repair) := goodIn_app (goodIn_of _ (by decide +kernel)) ggL_law_X5_repair
set_option maxRecDepth 20000 in
theorem ggL_law_L_balance : GoodIn wsL_law wsL_balance := goodIn_ca (goodIn_r _ [416, 96, 417, 418, 419, 2, 420, 17, 108, 109, 116, 117, 118, 119, 120, 121, 122, 123, 124, 19, 18, 20, 125, 126, 127, 128, 129, 130, 131, 16, 132, 29, 33, 34, 133, 134, 135, 32, 136, 40, 137, 138, 139, 140, 41, 42, 43, 44, 45, 49, 51, 52, 53, 141, 142, 143, 48, 144, 145, 146, 147, 148, 149, 58, 150, 151, 152, 59, 60, 61, 153, 154, 239, 240, 241, 242, 24, 222, 243, 244, 245, 23, 246, 70, 247, 71, 248, 249, 250, 251, 252, 253, 254, 255, 256, 257, 72, 258, 63, 64, 65, 259, 260, 261, 262, 263, 264, 265, 266, 267, 268, 269, 270, 271, 272, 273, 274, 275, 276, 277, 278, 279, 280, 281, 282, 283, 284, 285, 286, 287, 288, 779, 780, 781, 782, 783, 790, 791, 792, 796, 797, 798, 799, 800, 801, 802, 803, 804, 805, 806, 807, 808, 809, 810, 811, 812, 813, 814, 815, 816, 817, 818, 819, 793, 794, 795] (by decide +kernel) (by decide +kernel)) (goodIn_sub (fun _ h => List.mem_append_left _ (List.mem_append_right _ h)) (by decide +kernel))
set_option maxRecDepth 20000 in
theorem gL_law_L_balance : GoodIn wsL_law (va_wsS RL 135 yL_balance wsL_balance) := goodIn_app (goodIn_of _ (by decide +kernel)) ggL_law_L_balance
set_option maxRecDepth 20000 in
theorem ggL_law_X5_balance : GoodIn wsL_law wsX5_balance := goodIn_r _ [424, 425, 160, 164, 165, 5, 166, 175, 176, 177, 178, 179, 78, 77, 426, 427, 428, 429, 79, 83, 84, 85, 297, 298, 299, 300, 301, 302, 303, 304, 305, 306, 307, 308, 309, 310, 311, 312, 313, 314, 315, 316, 317, 318, 319, 320, 196, 321, 322, 323, 324, 325, 326, 327, 328, 329, 330, 331, 332, 333, 334, 335, 336, 86, 87, 88, 89, 90, 784, 785, 786, 787, 788, 789] (by decide +kernel) (by decide +kernel)
set_option maxRecDepth 20000 in
theorem gL_law_X5_balance : GoodIn wsL_law (wsV RL 137 RX5 yX5_balance wsX5_balance) := goodIn_app (goodIn_of _ (by decide +kernel)) ggL_law_X5_balance
set_option maxRecDepth 20000 in
theorem ggL_law_L_bits : GoodIn wsL_law wsL_bits := goodIn_ca (goodIn_ca (goodIn_r _ [432, 95, 96, 433, 434, 435, 2, 436, 207, 208, 102, 103, 104, 105, 106, 107, 17, 108, 109, 110, 111, 112, 113, 114, 115, 116, 117, 118, 119, 120, 796, 797, 798, 799, 800, 801, 802, 803, 804, 805, 779, 780, 781, 782, 783, 790, 791, 792] (by decide +kernel) (by decide +kernel)) (goodIn_sub (fun _ h => List.mem_append_left _ (List.mem_append_left _ (List.mem_append_right _ h))) (by decide +kernel))) (goodIn_sub (fun _ h => List.mem_append_left _ (List.mem_append_right _ h)) (by decide +kernel))
set_option maxRecDepth 20000 in
theorem gL_law_L_bits : GoodIn wsL_law (va_wsS RL 138 yL_bits wsL_bits) := goodIn_app (goodIn_of _ (by decide +kernel)) ggL_law_L_bits
set_option maxRecDepth 20000 in
theorem ggL_law_X5_bits : GoodIn wsL_law wsX5_bits := goodIn_r _ [440, 160, 77, 441, 442, 443, 5, 444, 161, 162, 163, 164, 165, 166, 167, 168, 169, 170, 83, 84, 85, 784, 785, 786, 787, 788, 789] (by decide +kernel) (by decide +kernel)
set_option maxRecDepth 20000 in
theorem gL_law_X5_bits : GoodIn wsL_law (wsV RL 140 RX5 yX5_bits wsX5_bits) := goodIn_app (goodIn_of _ (by decide +kernel)) ggL_law_X5_bits
set_option maxRecDepth 20000 in
theorem ggL_law_L_rate : GoodIn wsL_law wsL_rate := goodIn_ca (goodIn_r _ [447, 95, 448, 449, 450, 2, 451, 102, 103, 104, 105, 106, 107, 17, 108, 109, 289, 290, 291, 32, 292, 43, 779, 780, 781, 782, 783, 790, 791, 792, 796, 797, 798, 799, 800, 801, 802, 803, 804, 805] (by decide +kernel) (by decide +kernel)) (goodIn_sub (fun _ h => List.mem_append_left _ (List.mem_append_left _ (List.mem_append_right _ h))) (by decide +kernel))
set_option maxRecDepth 20000 in
theorem gL_law_L_rate : GoodIn wsL_law (va_wsS RL 141 yL_rate wsL_rate) := goodIn_app (goodIn_of _ (by decide +kernel)) ggL_law_L_rate
set_option maxRecDepth 20000 in
theorem ggL_law_X5_rate : GoodIn wsL_law wsX5_rate := goodIn_r _ [455, 160, 161, 162, 5, 163, 164, 165, 166, 337, 338, 339, 340, 77, 83, 84, 85, 784, 785, 786, 787, 788, 789] (by decide +kernel) (by decide +kernel)
set_option maxRecDepth 20000 in
theorem gL_law_X5_rate : GoodIn wsL_law (wsV RL 143 RX5 yX5_rate wsX5_rate) := goodIn_app (goodIn_of _ (by decide +kernel)) ggL_law_X5_rate
set_option maxRecDepth 20000 in
theorem ggL_law_L_energy : GoodIn wsL_law wsL_energy := goodIn_ca (goodIn_r _ [458, 95, 459, 460, 461, 2, 462, 463, 102, 103, 104, 105, 106, 107, 17, 108, 109, 110, 111, 112, 113, 114, 115, 796, 797, 798, 799, 800, 801, 802, 803, 804, 805, 779, 780, 781, 782, 783, 790, 791, 792] (by decide +kernel) (by decide +kernel)) (goodIn_sub (fun _ h => List.mem_append_left _ (List.mem_append_left _ (List.mem_append_right _ h))) (by decide +kernel))
set_option maxRecDepth 20000 in
theorem gL_law_L_energy : GoodIn wsL_law (va_wsS RL 144 yL_energy wsL_energy) := goodIn_app (goodIn_of _ (by decide +kernel)) ggL_law_L_energy
set_option maxRecDepth 20000 in
theorem ggL_law_X5_energy : GoodIn wsL_law wsX5_energy := goodIn_r _ [467, 160, 77, 441, 442, 443, 5, 444, 161, 162, 163, 164, 165, 166, 167, 168, 169, 170, 83, 84, 85, 784, 785, 786, 787, 788, 789] (by decide +kernel) (by decide +kernel)
set_option maxRecDepth 20000 in
theorem gL_law_X5_energy : GoodIn wsL_law (wsV RL 146 RX5 yX5_energy wsX5_energy) := goodIn_app (goodIn_of _ (by decide +kernel)) ggL_law_X5_energy
set_option maxRecDepth 20000 in
theorem ggL_law_L_totalEnergy : GoodIn wsL_law wsL_totalEnergy := goodIn_ca (goodIn_r _ [470, 95, 471, 472, 473, 2, 474, 102, 103, 104, 105, 106, 107, 17, 108, 109, 352, 353, 354, 32, 355, 45, 779, 780, 781, 782, 783, 790, 791, 792, 796, 797, 798, 799, 800, 801, 802, 803, 804, 805] (by decide +kernel) (by decide +kernel)) (goodIn_sub (fun _ h => List.mem_append_left _ (List.mem_append_left _ (List.mem_append_right _ h))) (by decide +kernel))
set_option maxRecDepth 20000 in
theorem gL_law_L_totalEnergy : GoodIn wsL_law (va_wsS RL 147 yL_totalEnergy wsL_totalEnergy) := goodIn_app (goodIn_of _ (by decide +kernel)) ggL_law_L_totalEnergy
set_option maxRecDepth 20000 in
theorem ggL_law_X5_totalEnergy : GoodIn wsL_law wsX5_totalEnergy := goodIn_r _ [478, 160, 161, 162, 5, 163, 164, 165, 166, 365, 366, 367, 368, 77, 83, 84, 85, 784, 785, 786, 787, 788, 789] (by decide +kernel) (by decide +kernel)
set_option maxRecDepth 20000 in
theorem gL_law_X5_totalEnergy : GoodIn wsL_law (wsV RL 149 RX5 yX5_totalEnergy wsX5_totalEnergy) := goodIn_app (goodIn_of _ (by decide +kernel)) ggL_law_X5_totalEnergy
set_option maxRecDepth 20000 in
theorem ggL_law_L_disturbedNoise : GoodIn wsL_law wsL_disturbedNoise := goodIn_ca (goodIn_r _ [481, 95, 482, 483, 484, 2, 485, 102, 103, 104, 105, 106, 107, 17, 108, 109, 110, 111, 112, 113, 114, 115, 235, 236, 237, 238, 486, 250, 251, 32, 252, 40, 41, 45, 253, 779, 780, 781, 782, 783, 790, 791, 792, 796, 797, 798, 799, 800, 801, 802, 803, 804, 805] (by decide +kernel) (by decide +kernel)) (goodIn_sub (fun _ h => List.mem_append_left _ (List.mem_append_left _ (List.mem_append_right _ h))) (by decide +kernel))
set_option maxRecDepth 20000 in
theorem gL_law_L_disturbedNoise : GoodIn wsL_law (va_wsS RL 150 yL_disturbedNoise wsL_disturbedNoise) := goodIn_app (goodIn_of _ (by decide +kernel)) ggL_law_L_disturbedNoise
set_option maxRecDepth 20000 in
theorem ggL_law_X5_disturbedNoise : GoodIn wsL_law wsX5_disturbedNoise := goodIn_r _ [490, 160, 441, 442, 443, 5, 444, 161, 162, 163, 164, 165, 166, 167, 168, 169, 170, 317, 318, 319, 320, 77, 196, 83, 84, 85, 784, 785, 786, 787, 788, 789] (by decide +kernel) (by decide +kernel)
set_option maxRecDepth 20000 in
theorem gL_law_X5_disturbedNoise : GoodIn wsL_law (wsV RL 152 RX5 yX5_disturbedNoise wsX5_disturbedNoise) := goodIn_app (goodIn_of _ (by decide +kernel)) ggL_law_X5_disturbedNoise
set_option maxRecDepth 20000 in
theorem ggL_law_L_margin : GoodIn wsL_law wsL_margin := goodIn_ca (goodIn_r _ [493, 95, 494, 495, 496, 2, 497, 102, 103, 104, 105, 106, 107, 17, 108, 109, 110, 111, 112, 113, 114, 115, 235, 236, 237, 238, 498, 499, 500, 32, 501, 502, 503, 45, 504, 505, 506, 507, 43, 508, 250, 251, 252, 40, 41, 253, 280, 281, 779, 780, 781, 782, 783, 790, 791, 792, 796, 797, 798, 799, 800, 801, 802, 803, 804, 805] (by decide +kernel) (by decide +kernel)) (goodIn_sub (fun _ h => List.mem_append_left _ (List.mem_append_left _ (List.mem_append_right _ h))) (by decide +kernel))
set_option maxRecDepth 20000 in
theorem gL_law_L_margin : GoodIn wsL_law (va_wsS RL 153 yL_margin wsL_margin) := goodIn_app (goodIn_of _ (by decide +kernel)) ggL_law_L_margin
set_option maxRecDepth 20000 in
theorem ggL_law_X5_margin : GoodIn wsL_law wsX5_margin := goodIn_r _ [512, 160, 441, 442, 443, 5, 444, 161, 162, 163, 164, 165, 166, 167, 168, 169, 170, 513, 514, 515, 516, 77, 90, 81, 83, 84, 85, 330, 331, 332, 333, 317, 318, 319, 320, 196, 334, 335, 336, 784, 785, 786, 787, 788, 789] (by decide +kernel) (by decide +kernel)
set_option maxRecDepth 20000 in
theorem gL_law_X5_margin : GoodIn wsL_law (wsV RL 155 RX5 yX5_margin wsX5_margin) := goodIn_app (goodIn_of _ (by decide +kernel)) ggL_law_X5_margin
set_option maxRecDepth 20000 in
theorem ggL_law_L_leastMargin : GoodIn wsL_law wsL_leastMargin := goodIn_ca (goodIn_r _ [519, 95, 520, 521, 522, 2, 523, 524, 102, 103, 104, 105, 106, 107, 17, 108, 109, 235, 236, 237, 238, 525, 526, 527, 32, 528, 502, 529, 499, 500, 501, 503, 45, 504, 505, 506, 507, 43, 508, 250, 251, 252, 40, 41, 253, 280, 281, 498, 779, 780, 781, 782, 783, 790, 791, 792, 796, 797, 798, 799, 800, 801, 802, 803, 804, 805] (by decide +kernel) (by decide +kernel)) (goodIn_sub (fun _ h => List.mem_append_left _ (List.mem_append_left _ (List.mem_append_right _ h))) (by decide +kernel))
set_option maxRecDepth 20000 in
theorem gL_law_L_leastMargin : GoodIn wsL_law (va_wsS RL 156 yL_leastMargin wsL_leastMargin) := goodIn_app (goodIn_of _ (by decide +kernel)) ggL_law_L_leastMargin
set_option maxRecDepth 20000 in
theorem ggL_law_X5_leastMargin : GoodIn wsL_law wsX5_leastMargin := goodIn_r _ [533, 160, 90, 161, 162, 5, 163, 164, 165, 166, 534, 535, 536, 537, 77, 83, 84, 85, 513, 514, 515, 516, 81, 330, 331, 332, 333, 317, 318, 319, 320, 196, 334, 335, 336, 784, 785, 786, 787, 788, 789] (by decide +kernel) (by decide +kernel)
set_option maxRecDepth 20000 in
theorem gL_law_X5_leastMargin : GoodIn wsL_law (wsV RL 158 RX5 yX5_leastMargin wsX5_leastMargin) := goodIn_app (goodIn_of _ (by decide +kernel)) ggL_law_X5_leastMargin
set_option maxRecDepth 20000 in
theorem ggL_law_L_badTones : GoodIn wsL_law wsL_badTones := goodIn_ca (goodIn_r _ [540, 95, 541, 542, 543, 2, 544, 524, 545, 102, 103, 104, 105, 106, 107, 17, 108, 109, 235, 236, 237, 238, 498, 499, 500, 32, 501, 502, 503, 45, 504, 505, 506, 507, 43, 508, 250, 251, 252, 40, 41, 253, 280, 281, 779, 780, 781, 782, 783, 790, 791, 792, 796, 797, 798, 799, 800, 801, 802, 803, 804, 805] (by decide +kernel) (by decide +kernel)) (goodIn_sub (fun _ h => List.mem_append_left _ (List.mem_append_left _ (List.mem_append_right _ h))) (by decide +kernel))
set_option maxRecDepth 20000 in
theorem gL_law_L_badTones : GoodIn wsL_law (va_wsS RL 159 yL_badTones wsL_badTones) := goodIn_app (goodIn_of _ (by decide +kernel)) ggL_law_L_badTones
set_option maxRecDepth 20000 in
theorem ggL_law_X5_badTones : GoodIn wsL_law wsX5_badTones := goodIn_r _ [549, 160, 90, 81, 161, 162, 5, 163, 164, 165, 166, 513, 514, 515, 516, 77, 83, 84, 85, 330, 331, 332, 333, 317, 318, 319, 320, 196, 334, 335, 336, 784, 785, 786, 787, 788, 789] (by decide +kernel) (by decide +kernel)
set_option maxRecDepth 20000 in
theorem gL_law_X5_badTones : GoodIn wsL_law (wsV RL 161 RX5 yX5_badTones wsX5_badTones) := goodIn_app (goodIn_of _ (by decide +kernel)) ggL_law_X5_badTones
set_option maxRecDepth 20000 in
theorem ggL_law_L_isEfficient : GoodIn wsL_law wsL_isEfficient := goodIn_ca (goodIn_r _ [552, 95, 553, 554, 555, 2, 556, 102, 103, 104, 105, 106, 107, 17, 108, 109, 235, 236, 237, 238, 557, 558, 559, 560, 24, 376, 377, 378, 23, 379, 275, 72, 248, 138, 139, 140, 380, 244, 245, 246, 70, 247, 71, 249, 250, 251, 32, 252, 40, 41, 45, 253, 561, 386, 387, 388, 389, 390, 391, 392, 562, 264, 265, 266, 267, 268, 269, 270, 563, 394, 395, 396, 779, 780, 781, 782, 783, 790, 791, 792, 796, 797, 798, 799, 800, 801, 802, 803, 804, 805, 793, 794, 795] (by decide +kernel) (by decide +kernel)) (goodIn_sub (fun _ h => List.mem_append_left _ (List.mem_append_left _ (List.mem_append_right _ h))) (by decide +kernel))
set_option maxRecDepth 20000 in
theorem gL_law_L_isEfficient : GoodIn wsL_law (va_wsS RL 162 yL_isEfficient wsL_isEfficient) := goodIn_app (goodIn_of _ (by decide +kernel)) ggL_law_L_isEfficient
set_option maxRecDepth 20000 in
theorem ggL_law_X5_isEfficient : GoodIn wsL_law wsX5_isEfficient := goodIn_r _ [567, 160, 161, 162, 5, 163, 164, 165, 166, 401, 402, 403, 404, 405, 406, 407, 408, 77, 83, 84, 85, 409, 410, 411, 412, 413, 313, 314, 315, 316, 317, 318, 319, 320, 196, 305, 306, 307, 308, 309, 310, 311, 312, 784, 785, 786, 787, 788, 789] (by decide +kernel) (by decide +kernel)
set_option maxRecDepth 20000 in
theorem gL_law_X5_isEfficient : GoodIn wsL_law (wsV RL 164 RX5 yX5_isEfficient wsX5_isEfficient) := goodIn_app (goodIn_of _ (by decide +kernel)) ggL_law_X5_isEfficient
set_option maxRecDepth 20000 in
theorem ggL_law_L_meanBits : GoodIn wsL_law wsL_meanBits := goodIn_ca (goodIn_r _ [570, 95, 571, 572, 573, 2, 574, 575, 102, 103, 104, 105, 106, 107, 17, 108, 109, 289, 290, 291, 32, 292, 43, 779, 780, 781, 782, 783, 790, 791, 792, 796, 797, 798, 799, 800, 801, 802, 803, 804, 805] (by decide +kernel) (by decide +kernel)) (goodIn_sub (fun _ h => List.mem_append_left _ (List.mem_append_left _ (List.mem_append_right _ h))) (by decide +kernel))
set_option maxRecDepth 20000 in
theorem gL_law_L_meanBits : GoodIn wsL_law (va_wsS RL 165 yL_meanBits wsL_meanBits) := goodIn_app (goodIn_of _ (by decide +kernel)) ggL_law_L_meanBits
set_option maxRecDepth 20000 in
theorem ggL_law_X5_meanBits : GoodIn wsL_law wsX5_meanBits := goodIn_r _ [579, 160, 580, 161, 162, 5, 163, 164, 165, 166, 337, 338, 339, 340, 77, 83, 84, 85, 784, 785, 786, 787, 788, 789] (by decide +kernel) (by decide +kernel)
set_option maxRecDepth 20000 in
theorem gL_law_X5_meanBits : GoodIn wsL_law (wsV RL 168 RX5 yX5_meanBits wsX5_meanBits) := goodIn_app (goodIn_of _ (by decide +kernel)) ggL_law_X5_meanBits
set_option maxRecDepth 20000 in
theorem ggL_law_L_request : GoodIn wsL_law wsL_request := goodIn_ca (goodIn_ca (goodIn_ca (goodIn_r _ [583, 95, 96, 200, 584, 585, 586, 2, 587, 119, 120, 205, 206, 588, 589, 590, 207, 209, 102, 103, 104, 105, 106, 107, 17, 108, 109, 110, 111, 112, 113, 114, 115, 121, 122, 123, 124, 19, 18, 20, 125, 126, 127, 128, 129, 130, 131, 16, 132, 29, 33, 34, 133, 134, 135, 32, 136, 40, 137, 138, 139, 140, 41, 42, 43, 44, 45, 49, 51, 52, 53, 141, 142, 143, 48, 144, 145, 146, 147, 148, 149, 58, 150, 151, 152, 59, 60, 61, 153, 154, 591, 592, 593, 594, 595, 796, 797, 798, 799, 800, 801, 802, 803, 804, 805, 806, 807, 808, 809, 810, 811, 812, 813, 814, 815, 816, 817, 818, 819, 779, 780, 781, 782, 783, 790, 791, 792] (by decide +kernel) (by decide +kernel)) (goodIn_sub (fun _ h => List.mem_append_left _ (List.mem_append_right _ h)) (by decide +kernel))) (goodIn_sub (fun _ h => List.mem_append_right _ h) (by decide +kernel))) (goodIn_sub (fun _ h => List.mem_append_left _ (List.mem_append_left _ (List.mem_append_right _ h))) (by decide +kernel))
set_option maxRecDepth 20000 in
theorem gL_law_L_request : GoodIn wsL_law (va_wsS RL 169 yL_request wsL_request) := goodIn_app (goodIn_of _ (by decide +kernel)) ggL_law_L_request
set_option maxRecDepth 20000 in
theorem ggL_law_X5_request : GoodIn wsL_law wsX5_request := goodIn_r _ [599, 160, 77, 90, 600, 441, 442, 443, 5, 444, 161, 162, 163, 164, 165, 166, 167, 168, 169, 170, 83, 84, 85, 309, 310, 311, 312, 601, 602, 603, 604, 361, 362, 363, 364, 175, 176, 177, 178, 179, 78, 605, 606, 607, 608, 784, 785, 786, 787, 788, 789] (by decide +kernel) (by decide +kernel)
set_option maxRecDepth 20000 in
theorem gL_law_X5_request : GoodIn wsL_law (wsV RL 171 RX5 yX5_request wsX5_request) := goodIn_app (goodIn_of _ (by decide +kernel)) ggL_law_X5_request
set_option maxRecDepth 20000 in
theorem ggL_law_L_suggest : GoodIn wsL_law wsL_suggest := goodIn_ca (goodIn_r _ [611, 95, 612, 613, 614, 2, 615, 24, 102, 103, 104, 105, 106, 107, 17, 108, 109, 235, 236, 237, 238, 525, 526, 527, 32, 528, 502, 529, 499, 500, 501, 503, 45, 504, 505, 506, 507, 43, 508, 250, 251, 252, 40, 41, 253, 280, 281, 376, 377, 378, 23, 379, 275, 72, 248, 138, 139, 140, 380, 244, 245, 246, 70, 247, 71, 249, 562, 264, 265, 266, 267, 268, 269, 270, 779, 780, 781, 782, 783, 790, 791, 792, 796, 797, 798, 799, 800, 801, 802, 803, 804, 805, 793, 794, 795] (by decide +kernel) (by decide +kernel)) (goodIn_sub (fun _ h => List.mem_append_left _ (List.mem_append_left _ (List.mem_append_right _ h))) (by decide +kernel))
set_option maxRecDepth 20000 in
theorem gL_law_L_suggest : GoodIn wsL_law (va_wsS RL 172 yL_suggest wsL_suggest) := goodIn_app (goodIn_of _ (by decide +kernel)) ggL_law_L_suggest
set_option maxRecDepth 20000 in
theorem ggL_law_X5_suggest : GoodIn wsL_law wsX5_suggest := goodIn_r _ [619, 160, 161, 162, 5, 163, 164, 165, 166, 534, 535, 536, 537, 77, 83, 84, 85, 513, 514, 515, 516, 90, 81, 330, 331, 332, 333, 317, 318, 319, 320, 196, 334, 335, 336, 305, 306, 307, 308, 309, 310, 311, 312, 313, 314, 315, 316, 784, 785, 786, 787, 788, 789] (by decide +kernel) (by decide +kernel)
set_option maxRecDepth 20000 in
theorem gL_law_X5_suggest : GoodIn wsL_law (wsV RL 174 RX5 yX5_suggest wsX5_suggest) := goodIn_app (goodIn_of _ (by decide +kernel)) ggL_law_X5_suggest
set_option maxRecDepth 20000 in
theorem ggL_law_L_resend : GoodIn wsL_law wsL_resend := goodIn_ca (goodIn_ca (goodIn_r _ [622, 95, 200, 623, 624, 625, 2, 626, 205, 206, 588, 589, 627, 628, 102, 103, 104, 105, 106, 107, 17, 108, 109, 121, 122, 123, 124, 19, 18, 20, 125, 126, 127, 128, 129, 130, 131, 16, 132, 29, 33, 34, 133, 134, 135, 32, 136, 40, 137, 138, 139, 140, 41, 42, 43, 44, 45, 49, 51, 52, 53, 141, 142, 143, 48, 144, 145, 146, 147, 148, 149, 58, 150, 151, 152, 59, 60, 61, 153, 154, 796, 797, 798, 799, 800, 801, 802, 803, 804, 805, 806, 807, 808, 809, 810, 811, 812, 813, 814, 815, 816, 817, 818, 819, 779, 780, 781, 782, 783, 790, 791, 792] (by decide +kernel) (by decide +kernel)) (goodIn_sub (fun _ h => List.mem_append_right _ h) (by decide +kernel))) (goodIn_sub (fun _ h => List.mem_append_left _ (List.mem_append_left _ (List.mem_append_right _ h))) (by decide +kernel))
set_option maxRecDepth 20000 in
theorem gL_law_L_resend : GoodIn wsL_law (va_wsS RL 175 yL_resend wsL_resend) := goodIn_app (goodIn_of _ (by decide +kernel)) ggL_law_L_resend
set_option maxRecDepth 20000 in
theorem ggL_law_X5_resend : GoodIn wsL_law wsX5_resend := goodIn_r _ [632, 160, 77, 161, 162, 5, 163, 164, 165, 166, 83, 84, 85, 361, 362, 363, 364, 175, 176, 177, 178, 179, 78, 605, 606, 607, 608, 784, 785, 786, 787, 788, 789] (by decide +kernel) (by decide +kernel)
set_option maxRecDepth 20000 in
theorem gL_law_X5_resend : GoodIn wsL_law (wsV RL 177 RX5 yX5_resend wsX5_resend) := goodIn_app (goodIn_of _ (by decide +kernel)) ggL_law_X5_resend
set_option maxRecDepth 20000 in
theorem ggL_law_L_deliver : GoodIn wsL_law wsL_deliver := goodIn_ca (goodIn_ca (goodIn_ca (goodIn_r _ [635, 95, 96, 200, 636, 637, 638, 2, 639, 205, 206, 588, 627, 640, 17, 641, 102, 103, 104, 105, 106, 107, 108, 109, 116, 117, 118, 119, 120, 121, 122, 123, 124, 19, 18, 20, 125, 126, 127, 128, 129, 130, 131, 16, 132, 29, 33, 34, 133, 134, 135, 32, 136, 40, 137, 138, 139, 140, 41, 42, 43, 44, 45, 49, 51, 52, 53, 141, 142, 143, 48, 144, 145, 146, 147, 148, 149, 58, 150, 151, 152, 59, 60, 61, 153, 154, 642, 643, 644, 645, 646, 647, 648, 649, 796, 797, 798, 799, 800, 801, 802, 803, 804, 805, 806, 807, 808, 809, 810, 811, 812, 813, 814, 815, 816, 817, 818, 819, 779, 780, 781, 782, 783, 790, 791, 792] (by decide +kernel) (by decide +kernel)) (goodIn_sub (fun _ h => List.mem_append_right _ h) (by decide +kernel))) (goodIn_sub (fun _ h => List.mem_append_left _ (List.mem_append_left _ (List.mem_append_right _ h))) (by decide +kernel))) (goodIn_sub (fun _ h => List.mem_append_left _ (List.mem_append_right _ h)) (by decide +kernel))
set_option maxRecDepth 20000 in
theorem gL_law_L_deliver : GoodIn wsL_law (va_wsS RL 178 yL_deliver wsL_deliver) := goodIn_app (goodIn_of _ (by decide +kernel)) ggL_law_L_deliver
set_option maxRecDepth 20000 in
theorem ggL_law_X5_deliver : GoodIn wsL_law wsX5_deliver := goodIn_r _ [653, 160, 77, 161, 162, 5, 163, 164, 165, 166, 83, 84, 85, 361, 362, 363, 364, 175, 176, 177, 178, 179, 78, 654, 655, 656, 657, 600, 658, 659, 660, 661, 784, 785, 786, 787, 788, 789] (by decide +kernel) (by decide +kernel)
set_option maxRecDepth 20000 in
theorem gL_law_X5_deliver : GoodIn wsL_law (wsV RL 181 RX5 yX5_deliver wsX5_deliver) := goodIn_app (goodIn_of _ (by decide +kernel)) ggL_law_X5_deliver
set_option maxRecDepth 20000 in
theorem ggL_law_L_run : GoodIn wsL_law wsL_run := goodIn_ca (goodIn_r _ [664, 96, 665, 666, 667, 2, 668, 17, 641, 116, 117, 118, 119, 120, 121, 122, 123, 124, 19, 18, 20, 125, 126, 127, 128, 129, 130, 131, 16, 132, 29, 33, 34, 133, 134, 135, 32, 136, 40, 137, 138, 139, 140, 41, 42, 43, 44, 45, 49, 51, 52, 53, 141, 142, 143, 48, 144, 145, 146, 147, 148, 149, 58, 150, 151, 152, 59, 60, 61, 153, 154, 669, 670, 671, 672, 673, 674, 675, 676, 677, 678, 679, 680, 681, 682, 683, 684, 685, 686, 687, 688, 689, 114, 115, 690, 691, 692, 693, 504, 505, 506, 507, 508, 250, 251, 252, 253, 280, 281, 282, 283, 284, 694, 695, 696, 697, 698, 699, 700, 701, 779, 780, 781, 782, 783, 790, 791, 792, 796, 797, 798, 799, 800, 801, 802, 803, 804, 805, 806, 807, 808, 809, 810, 811, 812, 813, 814, 815, 816, 817, 818, 819] (by decide +kernel) (by decide +kernel)) (goodIn_sub (fun _ h => List.mem_append_left _ (List.mem_append_right _ h)) (by decide +kernel))
set_option maxRecDepth 20000 in
theorem gL_law_L_run : GoodIn wsL_law (va_wsS RL 182 yL_run wsL_run) := goodIn_app (goodIn_of _ (by decide +kernel)) ggL_law_L_run
set_option maxRecDepth 20000 in
theorem ggL_law_X5_run : GoodIn wsL_law wsX5_run := goodIn_r _ [705, 196, 160, 77, 164, 165, 5, 166, 175, 176, 177, 178, 179, 78, 706, 707, 708, 709, 90, 83, 84, 85, 325, 326, 327, 328, 329, 330, 331, 332, 333, 317, 318, 319, 320, 334, 335, 336, 601, 602, 603, 604, 784, 785, 786, 787, 788, 789] (by decide +kernel) (by decide +kernel)
set_option maxRecDepth 20000 in
theorem gL_law_X5_run : GoodIn wsL_law (wsV RL 184 RX5 yX5_run wsX5_run) := goodIn_app (goodIn_of _ (by decide +kernel)) ggL_law_X5_run
set_option maxRecDepth 20000 in
theorem ggL_law_L_inStep : GoodIn wsL_law wsL_inStep := goodIn_ca (goodIn_r _ [712, 95, 713, 714, 715, 2, 716, 590, 102, 103, 104, 105, 106, 107, 17, 108, 109, 796, 797, 798, 799, 800, 801, 802, 803, 804, 805, 779, 780, 781, 782, 783, 790, 791, 792] (by decide +kernel) (by decide +kernel)) (goodIn_sub (fun _ h => List.mem_append_left _ (List.mem_append_left _ (List.mem_append_right _ h))) (by decide +kernel))
set_option maxRecDepth 20000 in
theorem gL_law_L_inStep : GoodIn wsL_law (va_wsS RL 185 yL_inStep wsL_inStep) := goodIn_app (goodIn_of _ (by decide +kernel)) ggL_law_L_inStep
set_option maxRecDepth 20000 in
theorem ggL_law_X5_inStep : GoodIn wsL_law wsX5_inStep := goodIn_r _ [720, 160, 161, 162, 5, 163, 164, 165, 166, 601, 602, 603, 604, 77, 83, 84, 85, 784, 785, 786, 787, 788, 789] (by decide +kernel) (by decide +kernel)
set_option maxRecDepth 20000 in
theorem gL_law_X5_inStep : GoodIn wsL_law (wsV RL 187 RX5 yX5_inStep wsX5_inStep) := goodIn_app (goodIn_of _ (by decide +kernel)) ggL_law_X5_inStep
set_option maxRecDepth 20000 in
theorem ggL_law_L_brokenFrames : GoodIn wsL_law wsL_brokenFrames := goodIn_ca (goodIn_r _ [723, 95, 724, 725, 726, 2, 727, 728, 102, 103, 104, 105, 106, 107, 17, 108, 109, 796, 797, 798, 799, 800, 801, 802, 803, 804, 805, 779, 780, 781, 782, 783, 790, 791, 792] (by decide +kernel) (by decide +kernel)) (goodIn_sub (fun _ h => List.mem_append_left _ (List.mem_append_left _ (List.mem_append_right _ h))) (by decide +kernel))
set_option maxRecDepth 20000 in
theorem gL_law_L_brokenFrames : GoodIn wsL_law (va_wsS RL 188 yL_brokenFrames wsL_brokenFrames) := goodIn_app (goodIn_of _ (by decide +kernel)) ggL_law_L_brokenFrames
set_option maxRecDepth 20000 in
theorem ggL_law_X5_brokenFrames : GoodIn wsL_law wsX5_brokenFrames := goodIn_r _ [732, 160, 77, 161, 162, 5, 163, 164, 165, 166, 83, 84, 85, 784, 785, 786, 787, 788, 789] (by decide +kernel) (by decide +kernel)
set_option maxRecDepth 20000 in
theorem gL_law_X5_brokenFrames : GoodIn wsL_law (wsV RL 190 RX5 yX5_brokenFrames wsX5_brokenFrames) := goodIn_app (goodIn_of _ (by decide +kernel)) ggL_law_X5_brokenFrames
set_option maxRecDepth 20000 in
theorem ggL_law_L_undo : GoodIn wsL_law wsL_undo := goodIn_ca (goodIn_r _ [735, 200, 736, 737, 738, 2, 739, 205, 206, 20, 17, 18, 19, 125, 126, 127, 128, 129, 130, 131, 16, 132, 29, 33, 34, 133, 134, 135, 32, 136, 40, 137, 138, 139, 140, 41, 42, 43, 44, 45, 49, 51, 52, 53, 141, 142, 143, 48, 144, 145, 146, 147, 148, 149, 58, 150, 151, 152, 59, 60, 61, 153, 154, 779, 780, 781, 782, 783, 790, 791, 792, 796, 797, 798, 799, 800, 801, 802, 803, 804, 805, 806, 807, 808, 809, 810, 811, 812, 813, 814, 815, 816, 817, 818, 819] (by decide +kernel) (by decide +kernel)) (goodIn_sub (fun _ h => List.mem_append_right _ h) (by decide +kernel))
set_option maxRecDepth 20000 in
theorem gL_law_L_undo : GoodIn wsL_law (va_wsS RL 191 yL_undo wsL_undo) := goodIn_app (goodIn_of _ (by decide +kernel)) ggL_law_L_undo
set_option maxRecDepth 20000 in
theorem ggL_law_X5_undo : GoodIn wsL_law wsX5_undo := goodIn_r _ [743, 160, 179, 361, 362, 363, 5, 364, 744, 745, 746, 747, 77, 78, 784, 785, 786, 787, 788, 789] (by decide +kernel) (by decide +kernel)
set_option maxRecDepth 20000 in
theorem gL_law_X5_undo : GoodIn wsL_law (wsV RL 194 RX5 yX5_undo wsX5_undo) := goodIn_app (goodIn_of _ (by decide +kernel)) ggL_law_X5_undo
set_option maxRecDepth 20000 in
theorem ggL_law_X4_digest : GoodIn wsL_law wsX4_digest := goodIn_r _ [751, 752, 17, 641, 108, 109, 753, 20, 754, 755, 756, 2, 757, 222, 101, 191, 209, 207, 208, 463, 588, 728, 498, 499, 500, 32, 501, 502, 503, 45, 504, 505, 506, 507, 43, 508, 250, 251, 252, 40, 41, 253, 280, 281, 557, 558, 559, 560, 24, 376, 377, 378, 23, 379, 275, 72, 248, 138, 139, 140, 380, 244, 245, 246, 70, 247, 71, 249, 561, 386, 387, 388, 389, 390, 391, 392, 562, 264, 265, 266, 267, 268, 269, 270, 563, 394, 395, 396, 758, 759, 760, 589, 628, 761, 762, 763, 627, 640, 779, 780, 781, 782, 783, 790, 791, 792, 796, 797, 798, 799, 800, 801, 802, 803, 804, 805, 793, 794, 795, 806, 807, 808, 809, 810, 811, 812, 813, 814, 815, 816, 817, 818, 819] (by decide +kernel) (by decide +kernel)
set_option maxRecDepth 20000 in
theorem gL_law_X4_digest : GoodIn wsL_law (wsV RL 195 RX4 yX4_digest wsX4_digest) := goodIn_app (goodIn_of _ (by decide +kernel)) ggL_law_X4_digest
set_option maxRecDepth 20000 in
theorem ggL_law_X5_digest : GoodIn wsL_law wsX5_digest := goodIn_r _ [767, 160, 768, 769, 77, 179, 770, 771, 772, 5, 773, 774, 775, 776, 777, 778, 83, 84, 85, 513, 514, 515, 516, 90, 81, 330, 331, 332, 333, 317, 318, 319, 320, 196, 334, 335, 336, 401, 402, 403, 404, 405, 406, 407, 408, 409, 410, 411, 412, 413, 313, 314, 315, 316, 305, 306, 307, 308, 309, 310, 311, 312, 784, 785, 786, 787, 788, 789] (by decide +kernel) (by decide +kernel)
set_option maxRecDepth 20000 in
theorem gL_law_X5_digest : GoodIn wsL_law (wsV RL 199 RX5 yX5_digest wsX5_digest) := goodIn_app (goodIn_of _ (by decide +kernel)) ggL_law_X5_digest
theorem dL_law_0 : decode cL_law 0 = .ok (.new 8, 3) := by decide +kernel
theorem dL_law_3 : decode cL_law 3 = .ok (.dup, 1) := by decide +kernel
theorem dL_law_4 : decode cL_law 4 = .ok (.invokespecial 102, 3) := by decide +kernel
theorem dL_law_7 : decode cL_law 7 = .ok (.astore_n 1, 1) := by decide +kernel
theorem dL_law_8 : decode cL_law 8 = .ok (.new 103, 3) := by decide +kernel
theorem dL_law_11 : decode cL_law 11 = .ok (.dup, 1) := by decide +kernel
theorem dL_law_12 : decode cL_law 12 = .ok (.invokespecial 105, 3) := by decide +kernel
theorem dL_law_15 : decode cL_law 15 = .ok (.astore_n 2, 1) := by decide +kernel
theorem dL_law_16 : decode cL_law 16 = .ok (.iconst 1, 1) := by decide +kernel
theorem dL_law_17 : decode cL_law 17 = .ok (.newarray .long, 2) := by decide +kernel
theorem dL_law_19 : decode cL_law 19 = .ok (.astore_n 3, 1) := by decide +kernel
theorem dL_law_20 : decode cL_law 20 = .ok (.iconst 1, 1) := by decide +kernel
theorem dL_law_21 : decode cL_law 21 = .ok (.newarray .double, 2) := by decide +kernel
theorem dL_law_23 : decode cL_law 23 = .ok (.astore 4, 2) := by decide +kernel
theorem dL_law_25 : decode cL_law 25 = .ok (.iconst 0, 1) := by decide +kernel
theorem dL_law_26 : decode cL_law 26 = .ok (.istore 5, 2) := by decide +kernel
theorem dL_law_28 : decode cL_law 28 = .ok (.iload 5, 2) := by decide +kernel
theorem dL_law_30 : decode cL_law 30 = .ok (.aload_n 0, 1) := by decide +kernel
theorem dL_law_31 : decode cL_law 31 = .ok (.arraylength, 1) := by decide +kernel
theorem dL_law_32 : decode cL_law 32 = .ok (.iconst 4, 1) := by decide +kernel
theorem dL_law_33 : decode cL_law 33 = .ok (.isub, 1) := by decide +kernel
theorem dL_law_34 : decode cL_law 34 = .ok (.if_icmp .gt 1847, 3) := by decide +kernel
theorem dL_law_37 : decode cL_law 37 = .ok (.aload_n 0, 1) := by decide +kernel
theorem dL_law_38 : decode cL_law 38 = .ok (.iload 5, 2) := by decide +kernel
theorem dL_law_40 : decode cL_law 40 = .ok (.iaload, 1) := by decide +kernel
theorem dL_law_41 : decode cL_law 41 = .ok (.bipush 31, 2) := by decide +kernel
theorem dL_law_43 : decode cL_law 43 = .ok (.iand, 1) := by decide +kernel
theorem dL_law_44 : decode cL_law 44 = .ok (.tableswitch 1831 0 26 #[124, 204, 284, 364, 432, 488, 555, 611, 667, 747, 803, 870, 925, 992, 1059, 1114, 1170, 1233, 1310, 1390, 1446, 1502, 1598, 1654, 1717, 1773, 1817], 124) := by decide +kernel
theorem dL_law_168 : decode cL_law 168 = .ok (.aload_n 1, 1) := by decide +kernel
theorem dL_law_169 : decode cL_law 169 = .ok (.aload_n 0, 1) := by decide +kernel
theorem dL_law_170 : decode cL_law 170 = .ok (.iload 5, 2) := by decide +kernel
theorem dL_law_172 : decode cL_law 172 = .ok (.iconst 1, 1) := by decide +kernel
theorem dL_law_173 : decode cL_law 173 = .ok (.iadd, 1) := by decide +kernel
theorem dL_law_174 : decode cL_law 174 = .ok (.iaload, 1) := by decide +kernel
theorem dL_law_175 : decode cL_law 175 = .ok (.aload_n 0, 1) := by decide +kernel
theorem dL_law_176 : decode cL_law 176 = .ok (.iload 5, 2) := by decide +kernel
theorem dL_law_178 : decode cL_law 178 = .ok (.iconst 2, 1) := by decide +kernel
theorem dL_law_179 : decode cL_law 179 = .ok (.iadd, 1) := by decide +kernel
theorem dL_law_180 : decode cL_law 180 = .ok (.iaload, 1) := by decide +kernel
theorem dL_law_181 : decode cL_law 181 = .ok (.aload_n 0, 1) := by decide +kernel
theorem dL_law_182 : decode cL_law 182 = .ok (.iload 5, 2) := by decide +kernel
theorem dL_law_184 : decode cL_law 184 = .ok (.iconst 3, 1) := by decide +kernel
theorem dL_law_185 : decode cL_law 185 = .ok (.iadd, 1) := by decide +kernel
theorem dL_law_186 : decode cL_law 186 = .ok (.iaload, 1) := by decide +kernel
theorem dL_law_187 : decode cL_law 187 = .ok (.aload_n 3, 1) := by decide +kernel
theorem dL_law_188 : decode cL_law 188 = .ok (.invokestatic 106, 3) := by decide +kernel
theorem dL_law_191 : decode cL_law 191 = .ok (.istore 6, 2) := by decide +kernel
theorem dL_law_193 : decode cL_law 193 = .ok (.aload_n 2, 1) := by decide +kernel
theorem dL_law_194 : decode cL_law 194 = .ok (.aload_n 0, 1) := by decide +kernel
theorem dL_law_195 : decode cL_law 195 = .ok (.iload 5, 2) := by decide +kernel
theorem dL_law_197 : decode cL_law 197 = .ok (.iconst 1, 1) := by decide +kernel
theorem dL_law_198 : decode cL_law 198 = .ok (.iadd, 1) := by decide +kernel
theorem dL_law_199 : decode cL_law 199 = .ok (.iaload, 1) := by decide +kernel
theorem dL_law_200 : decode cL_law 200 = .ok (.aload_n 0, 1) := by decide +kernel
theorem dL_law_201 : decode cL_law 201 = .ok (.iload 5, 2) := by decide +kernel
theorem dL_law_203 : decode cL_law 203 = .ok (.iconst 2, 1) := by decide +kernel
theorem dL_law_204 : decode cL_law 204 = .ok (.iadd, 1) := by decide +kernel
theorem dL_law_205 : decode cL_law 205 = .ok (.iaload, 1) := by decide +kernel
theorem dL_law_206 : decode cL_law 206 = .ok (.aload_n 0, 1) := by decide +kernel
theorem dL_law_207 : decode cL_law 207 = .ok (.iload 5, 2) := by decide +kernel
theorem dL_law_209 : decode cL_law 209 = .ok (.iconst 3, 1) := by decide +kernel
theorem dL_law_210 : decode cL_law 210 = .ok (.iadd, 1) := by decide +kernel
theorem dL_law_211 : decode cL_law 211 = .ok (.iaload, 1) := by decide +kernel
theorem dL_law_212 : decode cL_law 212 = .ok (.invokevirtual 111, 3) := by decide +kernel
theorem dL_law_215 : decode cL_law 215 = .ok (.istore 7, 2) := by decide +kernel
theorem dL_law_217 : decode cL_law 217 = .ok (.aload_n 2, 1) := by decide +kernel
theorem dL_law_218 : decode cL_law 218 = .ok (.invokevirtual 112, 3) := by decide +kernel
theorem dL_law_221 : decode cL_law 221 = .ok (.iload 6, 2) := by decide +kernel
theorem dL_law_223 : decode cL_law 223 = .ok (.if_icmp .eq 5, 3) := by decide +kernel
theorem dL_law_226 : decode cL_law 226 = .ok (.iconst 0, 1) := by decide +kernel
theorem dL_law_227 : decode cL_law 227 = .ok (.ireturn, 1) := by decide +kernel
theorem dL_law_228 : decode cL_law 228 = .ok (.iload 6, 2) := by decide +kernel
theorem dL_law_230 : decode cL_law 230 = .ok (.ifCond .ne 15, 3) := by decide +kernel
theorem dL_law_233 : decode cL_law 233 = .ok (.aload_n 3, 1) := by decide +kernel
theorem dL_law_234 : decode cL_law 234 = .ok (.iconst 0, 1) := by decide +kernel
theorem dL_law_235 : decode cL_law 235 = .ok (.laload, 1) := by decide +kernel
theorem dL_law_236 : decode cL_law 236 = .ok (.iload 7, 2) := by decide +kernel
theorem dL_law_238 : decode cL_law 238 = .ok (.i2l, 1) := by decide +kernel
theorem dL_law_239 : decode cL_law 239 = .ok (.lcmp, 1) := by decide +kernel
theorem dL_law_240 : decode cL_law 240 = .ok (.ifCond .eq 5, 3) := by decide +kernel
theorem dL_law_243 : decode cL_law 243 = .ok (.iconst 0, 1) := by decide +kernel
theorem dL_law_244 : decode cL_law 244 = .ok (.ireturn, 1) := by decide +kernel
theorem dL_law_245 : decode cL_law 245 = .ok (.goto 1630, 3) := by decide +kernel
theorem dL_law_248 : decode cL_law 248 = .ok (.aload_n 1, 1) := by decide +kernel
theorem dL_law_249 : decode cL_law 249 = .ok (.aload_n 0, 1) := by decide +kernel
theorem dL_law_250 : decode cL_law 250 = .ok (.iload 5, 2) := by decide +kernel
theorem dL_law_252 : decode cL_law 252 = .ok (.iconst 1, 1) := by decide +kernel
theorem dL_law_253 : decode cL_law 253 = .ok (.iadd, 1) := by decide +kernel
theorem dL_law_254 : decode cL_law 254 = .ok (.iaload, 1) := by decide +kernel
theorem dL_law_255 : decode cL_law 255 = .ok (.aload_n 0, 1) := by decide +kernel
theorem dL_law_256 : decode cL_law 256 = .ok (.iload 5, 2) := by decide +kernel
theorem dL_law_258 : decode cL_law 258 = .ok (.iconst 2, 1) := by decide +kernel
theorem dL_law_259 : decode cL_law 259 = .ok (.iadd, 1) := by decide +kernel
theorem dL_law_260 : decode cL_law 260 = .ok (.iaload, 1) := by decide +kernel
theorem dL_law_261 : decode cL_law 261 = .ok (.aload_n 0, 1) := by decide +kernel
theorem dL_law_262 : decode cL_law 262 = .ok (.iload 5, 2) := by decide +kernel
theorem dL_law_264 : decode cL_law 264 = .ok (.iconst 3, 1) := by decide +kernel
theorem dL_law_265 : decode cL_law 265 = .ok (.iadd, 1) := by decide +kernel
theorem dL_law_266 : decode cL_law 266 = .ok (.iaload, 1) := by decide +kernel
theorem dL_law_267 : decode cL_law 267 = .ok (.aload_n 3, 1) := by decide +kernel
theorem dL_law_268 : decode cL_law 268 = .ok (.invokestatic 115, 3) := by decide +kernel
theorem dL_law_271 : decode cL_law 271 = .ok (.istore 6, 2) := by decide +kernel
theorem dL_law_273 : decode cL_law 273 = .ok (.aload_n 2, 1) := by decide +kernel
theorem dL_law_274 : decode cL_law 274 = .ok (.aload_n 0, 1) := by decide +kernel
theorem dL_law_275 : decode cL_law 275 = .ok (.iload 5, 2) := by decide +kernel
theorem dL_law_277 : decode cL_law 277 = .ok (.iconst 1, 1) := by decide +kernel
theorem dL_law_278 : decode cL_law 278 = .ok (.iadd, 1) := by decide +kernel
theorem dL_law_279 : decode cL_law 279 = .ok (.iaload, 1) := by decide +kernel
theorem dL_law_280 : decode cL_law 280 = .ok (.aload_n 0, 1) := by decide +kernel
theorem dL_law_281 : decode cL_law 281 = .ok (.iload 5, 2) := by decide +kernel
theorem dL_law_283 : decode cL_law 283 = .ok (.iconst 2, 1) := by decide +kernel
theorem dL_law_284 : decode cL_law 284 = .ok (.iadd, 1) := by decide +kernel
theorem dL_law_285 : decode cL_law 285 = .ok (.iaload, 1) := by decide +kernel
theorem dL_law_286 : decode cL_law 286 = .ok (.aload_n 0, 1) := by decide +kernel
theorem dL_law_287 : decode cL_law 287 = .ok (.iload 5, 2) := by decide +kernel
theorem dL_law_289 : decode cL_law 289 = .ok (.iconst 3, 1) := by decide +kernel
theorem dL_law_290 : decode cL_law 290 = .ok (.iadd, 1) := by decide +kernel
theorem dL_law_291 : decode cL_law 291 = .ok (.iaload, 1) := by decide +kernel
theorem dL_law_292 : decode cL_law 292 = .ok (.invokevirtual 117, 3) := by decide +kernel
theorem dL_law_295 : decode cL_law 295 = .ok (.istore 7, 2) := by decide +kernel
theorem dL_law_297 : decode cL_law 297 = .ok (.aload_n 2, 1) := by decide +kernel
theorem dL_law_298 : decode cL_law 298 = .ok (.invokevirtual 112, 3) := by decide +kernel
theorem dL_law_301 : decode cL_law 301 = .ok (.iload 6, 2) := by decide +kernel
theorem dL_law_303 : decode cL_law 303 = .ok (.if_icmp .eq 5, 3) := by decide +kernel
theorem dL_law_306 : decode cL_law 306 = .ok (.iconst 0, 1) := by decide +kernel
theorem dL_law_307 : decode cL_law 307 = .ok (.ireturn, 1) := by decide +kernel
theorem dL_law_308 : decode cL_law 308 = .ok (.iload 6, 2) := by decide +kernel
theorem dL_law_310 : decode cL_law 310 = .ok (.ifCond .ne 15, 3) := by decide +kernel
theorem dL_law_313 : decode cL_law 313 = .ok (.aload_n 3, 1) := by decide +kernel
theorem dL_law_314 : decode cL_law 314 = .ok (.iconst 0, 1) := by decide +kernel
theorem dL_law_315 : decode cL_law 315 = .ok (.laload, 1) := by decide +kernel
theorem dL_law_316 : decode cL_law 316 = .ok (.iload 7, 2) := by decide +kernel
theorem dL_law_318 : decode cL_law 318 = .ok (.i2l, 1) := by decide +kernel
theorem dL_law_319 : decode cL_law 319 = .ok (.lcmp, 1) := by decide +kernel
theorem dL_law_320 : decode cL_law 320 = .ok (.ifCond .eq 5, 3) := by decide +kernel
theorem dL_law_323 : decode cL_law 323 = .ok (.iconst 0, 1) := by decide +kernel
theorem dL_law_324 : decode cL_law 324 = .ok (.ireturn, 1) := by decide +kernel
theorem dL_law_325 : decode cL_law 325 = .ok (.goto 1550, 3) := by decide +kernel
theorem dL_law_328 : decode cL_law 328 = .ok (.aload_n 1, 1) := by decide +kernel
theorem dL_law_329 : decode cL_law 329 = .ok (.aload_n 0, 1) := by decide +kernel
theorem dL_law_330 : decode cL_law 330 = .ok (.iload 5, 2) := by decide +kernel
theorem dL_law_332 : decode cL_law 332 = .ok (.iconst 1, 1) := by decide +kernel
theorem dL_law_333 : decode cL_law 333 = .ok (.iadd, 1) := by decide +kernel
theorem dL_law_334 : decode cL_law 334 = .ok (.iaload, 1) := by decide +kernel
theorem dL_law_335 : decode cL_law 335 = .ok (.aload_n 0, 1) := by decide +kernel
theorem dL_law_336 : decode cL_law 336 = .ok (.iload 5, 2) := by decide +kernel
theorem dL_law_338 : decode cL_law 338 = .ok (.iconst 2, 1) := by decide +kernel
theorem dL_law_339 : decode cL_law 339 = .ok (.iadd, 1) := by decide +kernel
theorem dL_law_340 : decode cL_law 340 = .ok (.iaload, 1) := by decide +kernel
theorem dL_law_341 : decode cL_law 341 = .ok (.aload_n 0, 1) := by decide +kernel
theorem dL_law_342 : decode cL_law 342 = .ok (.iload 5, 2) := by decide +kernel
theorem dL_law_344 : decode cL_law 344 = .ok (.iconst 3, 1) := by decide +kernel
theorem dL_law_345 : decode cL_law 345 = .ok (.iadd, 1) := by decide +kernel
theorem dL_law_346 : decode cL_law 346 = .ok (.iaload, 1) := by decide +kernel
theorem dL_law_347 : decode cL_law 347 = .ok (.aload_n 3, 1) := by decide +kernel
theorem dL_law_348 : decode cL_law 348 = .ok (.invokestatic 118, 3) := by decide +kernel
theorem dL_law_351 : decode cL_law 351 = .ok (.istore 6, 2) := by decide +kernel
theorem dL_law_353 : decode cL_law 353 = .ok (.aload_n 2, 1) := by decide +kernel
theorem dL_law_354 : decode cL_law 354 = .ok (.aload_n 0, 1) := by decide +kernel
theorem dL_law_355 : decode cL_law 355 = .ok (.iload 5, 2) := by decide +kernel
theorem dL_law_357 : decode cL_law 357 = .ok (.iconst 1, 1) := by decide +kernel
theorem dL_law_358 : decode cL_law 358 = .ok (.iadd, 1) := by decide +kernel
theorem dL_law_359 : decode cL_law 359 = .ok (.iaload, 1) := by decide +kernel
theorem dL_law_360 : decode cL_law 360 = .ok (.aload_n 0, 1) := by decide +kernel
theorem dL_law_361 : decode cL_law 361 = .ok (.iload 5, 2) := by decide +kernel
theorem dL_law_363 : decode cL_law 363 = .ok (.iconst 2, 1) := by decide +kernel
theorem dL_law_364 : decode cL_law 364 = .ok (.iadd, 1) := by decide +kernel
theorem dL_law_365 : decode cL_law 365 = .ok (.iaload, 1) := by decide +kernel
theorem dL_law_366 : decode cL_law 366 = .ok (.aload_n 0, 1) := by decide +kernel
theorem dL_law_367 : decode cL_law 367 = .ok (.iload 5, 2) := by decide +kernel
theorem dL_law_369 : decode cL_law 369 = .ok (.iconst 3, 1) := by decide +kernel
theorem dL_law_370 : decode cL_law 370 = .ok (.iadd, 1) := by decide +kernel
theorem dL_law_371 : decode cL_law 371 = .ok (.iaload, 1) := by decide +kernel
theorem dL_law_372 : decode cL_law 372 = .ok (.invokevirtual 120, 3) := by decide +kernel
theorem dL_law_375 : decode cL_law 375 = .ok (.istore 7, 2) := by decide +kernel
theorem dL_law_377 : decode cL_law 377 = .ok (.aload_n 2, 1) := by decide +kernel
theorem dL_law_378 : decode cL_law 378 = .ok (.invokevirtual 112, 3) := by decide +kernel
theorem dL_law_381 : decode cL_law 381 = .ok (.iload 6, 2) := by decide +kernel
theorem dL_law_383 : decode cL_law 383 = .ok (.if_icmp .eq 5, 3) := by decide +kernel
theorem dL_law_386 : decode cL_law 386 = .ok (.iconst 0, 1) := by decide +kernel
theorem dL_law_387 : decode cL_law 387 = .ok (.ireturn, 1) := by decide +kernel
theorem dL_law_388 : decode cL_law 388 = .ok (.iload 6, 2) := by decide +kernel
theorem dL_law_390 : decode cL_law 390 = .ok (.ifCond .ne 15, 3) := by decide +kernel
theorem dL_law_393 : decode cL_law 393 = .ok (.aload_n 3, 1) := by decide +kernel
theorem dL_law_394 : decode cL_law 394 = .ok (.iconst 0, 1) := by decide +kernel
theorem dL_law_395 : decode cL_law 395 = .ok (.laload, 1) := by decide +kernel
theorem dL_law_396 : decode cL_law 396 = .ok (.iload 7, 2) := by decide +kernel
theorem dL_law_398 : decode cL_law 398 = .ok (.i2l, 1) := by decide +kernel
theorem dL_law_399 : decode cL_law 399 = .ok (.lcmp, 1) := by decide +kernel
theorem dL_law_400 : decode cL_law 400 = .ok (.ifCond .eq 5, 3) := by decide +kernel
theorem dL_law_403 : decode cL_law 403 = .ok (.iconst 0, 1) := by decide +kernel
theorem dL_law_404 : decode cL_law 404 = .ok (.ireturn, 1) := by decide +kernel
theorem dL_law_405 : decode cL_law 405 = .ok (.goto 1470, 3) := by decide +kernel
theorem dL_law_408 : decode cL_law 408 = .ok (.aload_n 1, 1) := by decide +kernel
theorem dL_law_409 : decode cL_law 409 = .ok (.aload_n 0, 1) := by decide +kernel
theorem dL_law_410 : decode cL_law 410 = .ok (.iload 5, 2) := by decide +kernel
theorem dL_law_412 : decode cL_law 412 = .ok (.iconst 1, 1) := by decide +kernel
theorem dL_law_413 : decode cL_law 413 = .ok (.iadd, 1) := by decide +kernel
theorem dL_law_414 : decode cL_law 414 = .ok (.iaload, 1) := by decide +kernel
theorem dL_law_415 : decode cL_law 415 = .ok (.aload_n 0, 1) := by decide +kernel
theorem dL_law_416 : decode cL_law 416 = .ok (.iload 5, 2) := by decide +kernel
theorem dL_law_418 : decode cL_law 418 = .ok (.iconst 2, 1) := by decide +kernel
theorem dL_law_419 : decode cL_law 419 = .ok (.iadd, 1) := by decide +kernel
theorem dL_law_420 : decode cL_law 420 = .ok (.iaload, 1) := by decide +kernel
theorem dL_law_421 : decode cL_law 421 = .ok (.aload_n 3, 1) := by decide +kernel
theorem dL_law_422 : decode cL_law 422 = .ok (.invokestatic 121, 3) := by decide +kernel
theorem dL_law_425 : decode cL_law 425 = .ok (.istore 6, 2) := by decide +kernel
theorem dL_law_427 : decode cL_law 427 = .ok (.aload_n 2, 1) := by decide +kernel
theorem dL_law_428 : decode cL_law 428 = .ok (.aload_n 0, 1) := by decide +kernel
theorem dL_law_429 : decode cL_law 429 = .ok (.iload 5, 2) := by decide +kernel
theorem dL_law_431 : decode cL_law 431 = .ok (.iconst 1, 1) := by decide +kernel
theorem dL_law_432 : decode cL_law 432 = .ok (.iadd, 1) := by decide +kernel
theorem dL_law_433 : decode cL_law 433 = .ok (.iaload, 1) := by decide +kernel
theorem dL_law_434 : decode cL_law 434 = .ok (.aload_n 0, 1) := by decide +kernel
theorem dL_law_435 : decode cL_law 435 = .ok (.iload 5, 2) := by decide +kernel
theorem dL_law_437 : decode cL_law 437 = .ok (.iconst 2, 1) := by decide +kernel
theorem dL_law_438 : decode cL_law 438 = .ok (.iadd, 1) := by decide +kernel
theorem dL_law_439 : decode cL_law 439 = .ok (.iaload, 1) := by decide +kernel
theorem dL_law_440 : decode cL_law 440 = .ok (.invokevirtual 124, 3) := by decide +kernel
theorem dL_law_443 : decode cL_law 443 = .ok (.istore 7, 2) := by decide +kernel
theorem dL_law_445 : decode cL_law 445 = .ok (.aload_n 2, 1) := by decide +kernel
theorem dL_law_446 : decode cL_law 446 = .ok (.invokevirtual 112, 3) := by decide +kernel
theorem dL_law_449 : decode cL_law 449 = .ok (.iload 6, 2) := by decide +kernel
theorem dL_law_451 : decode cL_law 451 = .ok (.if_icmp .eq 5, 3) := by decide +kernel
theorem dL_law_454 : decode cL_law 454 = .ok (.iconst 0, 1) := by decide +kernel
theorem dL_law_455 : decode cL_law 455 = .ok (.ireturn, 1) := by decide +kernel
theorem dL_law_456 : decode cL_law 456 = .ok (.iload 6, 2) := by decide +kernel
theorem dL_law_458 : decode cL_law 458 = .ok (.ifCond .ne 15, 3) := by decide +kernel
theorem dL_law_461 : decode cL_law 461 = .ok (.aload_n 3, 1) := by decide +kernel
theorem dL_law_462 : decode cL_law 462 = .ok (.iconst 0, 1) := by decide +kernel
theorem dL_law_463 : decode cL_law 463 = .ok (.laload, 1) := by decide +kernel
theorem dL_law_464 : decode cL_law 464 = .ok (.iload 7, 2) := by decide +kernel
theorem dL_law_466 : decode cL_law 466 = .ok (.i2l, 1) := by decide +kernel
theorem dL_law_467 : decode cL_law 467 = .ok (.lcmp, 1) := by decide +kernel
theorem dL_law_468 : decode cL_law 468 = .ok (.ifCond .eq 5, 3) := by decide +kernel
theorem dL_law_471 : decode cL_law 471 = .ok (.iconst 0, 1) := by decide +kernel
theorem dL_law_472 : decode cL_law 472 = .ok (.ireturn, 1) := by decide +kernel
theorem dL_law_473 : decode cL_law 473 = .ok (.goto 1402, 3) := by decide +kernel
theorem dL_law_476 : decode cL_law 476 = .ok (.aload_n 1, 1) := by decide +kernel
theorem dL_law_477 : decode cL_law 477 = .ok (.aload_n 0, 1) := by decide +kernel
theorem dL_law_478 : decode cL_law 478 = .ok (.iload 5, 2) := by decide +kernel
theorem dL_law_480 : decode cL_law 480 = .ok (.iconst 1, 1) := by decide +kernel
theorem dL_law_481 : decode cL_law 481 = .ok (.iadd, 1) := by decide +kernel
theorem dL_law_482 : decode cL_law 482 = .ok (.iaload, 1) := by decide +kernel
theorem dL_law_483 : decode cL_law 483 = .ok (.aload_n 3, 1) := by decide +kernel
theorem dL_law_484 : decode cL_law 484 = .ok (.invokestatic 125, 3) := by decide +kernel
theorem dL_law_487 : decode cL_law 487 = .ok (.istore 6, 2) := by decide +kernel
theorem dL_law_489 : decode cL_law 489 = .ok (.aload_n 2, 1) := by decide +kernel
theorem dL_law_490 : decode cL_law 490 = .ok (.aload_n 0, 1) := by decide +kernel
theorem dL_law_491 : decode cL_law 491 = .ok (.iload 5, 2) := by decide +kernel
theorem dL_law_493 : decode cL_law 493 = .ok (.iconst 1, 1) := by decide +kernel
theorem dL_law_494 : decode cL_law 494 = .ok (.iadd, 1) := by decide +kernel
theorem dL_law_495 : decode cL_law 495 = .ok (.iaload, 1) := by decide +kernel
theorem dL_law_496 : decode cL_law 496 = .ok (.invokevirtual 128, 3) := by decide +kernel
theorem dL_law_499 : decode cL_law 499 = .ok (.istore 7, 2) := by decide +kernel
theorem dL_law_501 : decode cL_law 501 = .ok (.aload_n 2, 1) := by decide +kernel
theorem dL_law_502 : decode cL_law 502 = .ok (.invokevirtual 112, 3) := by decide +kernel
theorem dL_law_505 : decode cL_law 505 = .ok (.iload 6, 2) := by decide +kernel
theorem dL_law_507 : decode cL_law 507 = .ok (.if_icmp .eq 5, 3) := by decide +kernel
theorem dL_law_510 : decode cL_law 510 = .ok (.iconst 0, 1) := by decide +kernel
theorem dL_law_511 : decode cL_law 511 = .ok (.ireturn, 1) := by decide +kernel
theorem dL_law_512 : decode cL_law 512 = .ok (.iload 6, 2) := by decide +kernel
theorem dL_law_514 : decode cL_law 514 = .ok (.ifCond .ne 15, 3) := by decide +kernel
theorem dL_law_517 : decode cL_law 517 = .ok (.aload_n 3, 1) := by decide +kernel
theorem dL_law_518 : decode cL_law 518 = .ok (.iconst 0, 1) := by decide +kernel
theorem dL_law_519 : decode cL_law 519 = .ok (.laload, 1) := by decide +kernel
theorem dL_law_520 : decode cL_law 520 = .ok (.iload 7, 2) := by decide +kernel
theorem dL_law_522 : decode cL_law 522 = .ok (.i2l, 1) := by decide +kernel
theorem dL_law_523 : decode cL_law 523 = .ok (.lcmp, 1) := by decide +kernel
theorem dL_law_524 : decode cL_law 524 = .ok (.ifCond .eq 5, 3) := by decide +kernel
theorem dL_law_527 : decode cL_law 527 = .ok (.iconst 0, 1) := by decide +kernel
theorem dL_law_528 : decode cL_law 528 = .ok (.ireturn, 1) := by decide +kernel
theorem dL_law_529 : decode cL_law 529 = .ok (.goto 1346, 3) := by decide +kernel
theorem dL_law_532 : decode cL_law 532 = .ok (.aload_n 1, 1) := by decide +kernel
theorem dL_law_533 : decode cL_law 533 = .ok (.aload_n 0, 1) := by decide +kernel
theorem dL_law_534 : decode cL_law 534 = .ok (.iload 5, 2) := by decide +kernel
theorem dL_law_536 : decode cL_law 536 = .ok (.iconst 1, 1) := by decide +kernel
theorem dL_law_537 : decode cL_law 537 = .ok (.iadd, 1) := by decide +kernel
theorem dL_law_538 : decode cL_law 538 = .ok (.iaload, 1) := by decide +kernel
theorem dL_law_539 : decode cL_law 539 = .ok (.aload_n 0, 1) := by decide +kernel
theorem dL_law_540 : decode cL_law 540 = .ok (.iload 5, 2) := by decide +kernel
theorem dL_law_542 : decode cL_law 542 = .ok (.iconst 2, 1) := by decide +kernel
theorem dL_law_543 : decode cL_law 543 = .ok (.iadd, 1) := by decide +kernel
theorem dL_law_544 : decode cL_law 544 = .ok (.iaload, 1) := by decide +kernel
theorem dL_law_545 : decode cL_law 545 = .ok (.aload_n 3, 1) := by decide +kernel
theorem dL_law_546 : decode cL_law 546 = .ok (.invokestatic 129, 3) := by decide +kernel
theorem dL_law_549 : decode cL_law 549 = .ok (.istore 6, 2) := by decide +kernel
theorem dL_law_551 : decode cL_law 551 = .ok (.aload_n 2, 1) := by decide +kernel
theorem dL_law_552 : decode cL_law 552 = .ok (.aload_n 0, 1) := by decide +kernel
theorem dL_law_553 : decode cL_law 553 = .ok (.iload 5, 2) := by decide +kernel
theorem dL_law_555 : decode cL_law 555 = .ok (.iconst 1, 1) := by decide +kernel
theorem dL_law_556 : decode cL_law 556 = .ok (.iadd, 1) := by decide +kernel
theorem dL_law_557 : decode cL_law 557 = .ok (.iaload, 1) := by decide +kernel
theorem dL_law_558 : decode cL_law 558 = .ok (.aload_n 0, 1) := by decide +kernel
theorem dL_law_559 : decode cL_law 559 = .ok (.iload 5, 2) := by decide +kernel
theorem dL_law_561 : decode cL_law 561 = .ok (.iconst 2, 1) := by decide +kernel
theorem dL_law_562 : decode cL_law 562 = .ok (.iadd, 1) := by decide +kernel
theorem dL_law_563 : decode cL_law 563 = .ok (.iaload, 1) := by decide +kernel
theorem dL_law_564 : decode cL_law 564 = .ok (.invokevirtual 131, 3) := by decide +kernel
theorem dL_law_567 : decode cL_law 567 = .ok (.lstore 7, 2) := by decide +kernel
theorem dL_law_569 : decode cL_law 569 = .ok (.aload_n 2, 1) := by decide +kernel
theorem dL_law_570 : decode cL_law 570 = .ok (.invokevirtual 112, 3) := by decide +kernel
theorem dL_law_573 : decode cL_law 573 = .ok (.iload 6, 2) := by decide +kernel
theorem dL_law_575 : decode cL_law 575 = .ok (.if_icmp .eq 5, 3) := by decide +kernel
theorem dL_law_578 : decode cL_law 578 = .ok (.iconst 0, 1) := by decide +kernel
theorem dL_law_579 : decode cL_law 579 = .ok (.ireturn, 1) := by decide +kernel
theorem dL_law_580 : decode cL_law 580 = .ok (.iload 6, 2) := by decide +kernel
theorem dL_law_582 : decode cL_law 582 = .ok (.ifCond .ne 14, 3) := by decide +kernel
theorem dL_law_585 : decode cL_law 585 = .ok (.aload_n 3, 1) := by decide +kernel
theorem dL_law_586 : decode cL_law 586 = .ok (.iconst 0, 1) := by decide +kernel
theorem dL_law_587 : decode cL_law 587 = .ok (.laload, 1) := by decide +kernel
theorem dL_law_588 : decode cL_law 588 = .ok (.lload 7, 2) := by decide +kernel
theorem dL_law_590 : decode cL_law 590 = .ok (.lcmp, 1) := by decide +kernel
theorem dL_law_591 : decode cL_law 591 = .ok (.ifCond .eq 5, 3) := by decide +kernel
theorem dL_law_594 : decode cL_law 594 = .ok (.iconst 0, 1) := by decide +kernel
theorem dL_law_595 : decode cL_law 595 = .ok (.ireturn, 1) := by decide +kernel
theorem dL_law_596 : decode cL_law 596 = .ok (.goto 1279, 3) := by decide +kernel
theorem dL_law_599 : decode cL_law 599 = .ok (.aload_n 1, 1) := by decide +kernel
theorem dL_law_600 : decode cL_law 600 = .ok (.aload_n 0, 1) := by decide +kernel
theorem dL_law_601 : decode cL_law 601 = .ok (.iload 5, 2) := by decide +kernel
theorem dL_law_603 : decode cL_law 603 = .ok (.iconst 1, 1) := by decide +kernel
theorem dL_law_604 : decode cL_law 604 = .ok (.iadd, 1) := by decide +kernel
theorem dL_law_605 : decode cL_law 605 = .ok (.iaload, 1) := by decide +kernel
theorem dL_law_606 : decode cL_law 606 = .ok (.aload_n 3, 1) := by decide +kernel
theorem dL_law_607 : decode cL_law 607 = .ok (.invokestatic 132, 3) := by decide +kernel
theorem dL_law_610 : decode cL_law 610 = .ok (.istore 6, 2) := by decide +kernel
theorem dL_law_612 : decode cL_law 612 = .ok (.aload_n 2, 1) := by decide +kernel
theorem dL_law_613 : decode cL_law 613 = .ok (.aload_n 0, 1) := by decide +kernel
theorem dL_law_614 : decode cL_law 614 = .ok (.iload 5, 2) := by decide +kernel
theorem dL_law_616 : decode cL_law 616 = .ok (.iconst 1, 1) := by decide +kernel
theorem dL_law_617 : decode cL_law 617 = .ok (.iadd, 1) := by decide +kernel
theorem dL_law_618 : decode cL_law 618 = .ok (.iaload, 1) := by decide +kernel
theorem dL_law_619 : decode cL_law 619 = .ok (.invokevirtual 134, 3) := by decide +kernel
theorem dL_law_622 : decode cL_law 622 = .ok (.istore 7, 2) := by decide +kernel
theorem dL_law_624 : decode cL_law 624 = .ok (.aload_n 2, 1) := by decide +kernel
theorem dL_law_625 : decode cL_law 625 = .ok (.invokevirtual 112, 3) := by decide +kernel
theorem dL_law_628 : decode cL_law 628 = .ok (.iload 6, 2) := by decide +kernel
theorem dL_law_630 : decode cL_law 630 = .ok (.if_icmp .eq 5, 3) := by decide +kernel
theorem dL_law_633 : decode cL_law 633 = .ok (.iconst 0, 1) := by decide +kernel
theorem dL_law_634 : decode cL_law 634 = .ok (.ireturn, 1) := by decide +kernel
theorem dL_law_635 : decode cL_law 635 = .ok (.iload 6, 2) := by decide +kernel
theorem dL_law_637 : decode cL_law 637 = .ok (.ifCond .ne 15, 3) := by decide +kernel
theorem dL_law_640 : decode cL_law 640 = .ok (.aload_n 3, 1) := by decide +kernel
theorem dL_law_641 : decode cL_law 641 = .ok (.iconst 0, 1) := by decide +kernel
theorem dL_law_642 : decode cL_law 642 = .ok (.laload, 1) := by decide +kernel
theorem dL_law_643 : decode cL_law 643 = .ok (.iload 7, 2) := by decide +kernel
theorem dL_law_645 : decode cL_law 645 = .ok (.i2l, 1) := by decide +kernel
theorem dL_law_646 : decode cL_law 646 = .ok (.lcmp, 1) := by decide +kernel
theorem dL_law_647 : decode cL_law 647 = .ok (.ifCond .eq 5, 3) := by decide +kernel
theorem dL_law_650 : decode cL_law 650 = .ok (.iconst 0, 1) := by decide +kernel
theorem dL_law_651 : decode cL_law 651 = .ok (.ireturn, 1) := by decide +kernel
theorem dL_law_652 : decode cL_law 652 = .ok (.goto 1223, 3) := by decide +kernel
theorem dL_law_655 : decode cL_law 655 = .ok (.aload_n 1, 1) := by decide +kernel
theorem dL_law_656 : decode cL_law 656 = .ok (.aload_n 0, 1) := by decide +kernel
theorem dL_law_657 : decode cL_law 657 = .ok (.iload 5, 2) := by decide +kernel
theorem dL_law_659 : decode cL_law 659 = .ok (.iconst 1, 1) := by decide +kernel
theorem dL_law_660 : decode cL_law 660 = .ok (.iadd, 1) := by decide +kernel
theorem dL_law_661 : decode cL_law 661 = .ok (.iaload, 1) := by decide +kernel
theorem dL_law_662 : decode cL_law 662 = .ok (.aload_n 3, 1) := by decide +kernel
theorem dL_law_663 : decode cL_law 663 = .ok (.invokestatic 135, 3) := by decide +kernel
theorem dL_law_666 : decode cL_law 666 = .ok (.istore 6, 2) := by decide +kernel
theorem dL_law_668 : decode cL_law 668 = .ok (.aload_n 2, 1) := by decide +kernel
theorem dL_law_669 : decode cL_law 669 = .ok (.aload_n 0, 1) := by decide +kernel
theorem dL_law_670 : decode cL_law 670 = .ok (.iload 5, 2) := by decide +kernel
theorem dL_law_672 : decode cL_law 672 = .ok (.iconst 1, 1) := by decide +kernel
theorem dL_law_673 : decode cL_law 673 = .ok (.iadd, 1) := by decide +kernel
theorem dL_law_674 : decode cL_law 674 = .ok (.iaload, 1) := by decide +kernel
theorem dL_law_675 : decode cL_law 675 = .ok (.invokevirtual 137, 3) := by decide +kernel
theorem dL_law_678 : decode cL_law 678 = .ok (.istore 7, 2) := by decide +kernel
theorem dL_law_680 : decode cL_law 680 = .ok (.aload_n 2, 1) := by decide +kernel
theorem dL_law_681 : decode cL_law 681 = .ok (.invokevirtual 112, 3) := by decide +kernel
theorem dL_law_684 : decode cL_law 684 = .ok (.iload 6, 2) := by decide +kernel
theorem dL_law_686 : decode cL_law 686 = .ok (.if_icmp .eq 5, 3) := by decide +kernel
theorem dL_law_689 : decode cL_law 689 = .ok (.iconst 0, 1) := by decide +kernel
theorem dL_law_690 : decode cL_law 690 = .ok (.ireturn, 1) := by decide +kernel
theorem dL_law_691 : decode cL_law 691 = .ok (.iload 6, 2) := by decide +kernel
theorem dL_law_693 : decode cL_law 693 = .ok (.ifCond .ne 15, 3) := by decide +kernel
theorem dL_law_696 : decode cL_law 696 = .ok (.aload_n 3, 1) := by decide +kernel
theorem dL_law_697 : decode cL_law 697 = .ok (.iconst 0, 1) := by decide +kernel
theorem dL_law_698 : decode cL_law 698 = .ok (.laload, 1) := by decide +kernel
theorem dL_law_699 : decode cL_law 699 = .ok (.iload 7, 2) := by decide +kernel
theorem dL_law_701 : decode cL_law 701 = .ok (.i2l, 1) := by decide +kernel
theorem dL_law_702 : decode cL_law 702 = .ok (.lcmp, 1) := by decide +kernel
theorem dL_law_703 : decode cL_law 703 = .ok (.ifCond .eq 5, 3) := by decide +kernel
theorem dL_law_706 : decode cL_law 706 = .ok (.iconst 0, 1) := by decide +kernel
theorem dL_law_707 : decode cL_law 707 = .ok (.ireturn, 1) := by decide +kernel
theorem dL_law_708 : decode cL_law 708 = .ok (.goto 1167, 3) := by decide +kernel
theorem dL_law_711 : decode cL_law 711 = .ok (.aload_n 1, 1) := by decide +kernel
theorem dL_law_712 : decode cL_law 712 = .ok (.aload_n 0, 1) := by decide +kernel
theorem dL_law_713 : decode cL_law 713 = .ok (.iload 5, 2) := by decide +kernel
theorem dL_law_715 : decode cL_law 715 = .ok (.iconst 1, 1) := by decide +kernel
theorem dL_law_716 : decode cL_law 716 = .ok (.iadd, 1) := by decide +kernel
theorem dL_law_717 : decode cL_law 717 = .ok (.iaload, 1) := by decide +kernel
theorem dL_law_718 : decode cL_law 718 = .ok (.aload_n 0, 1) := by decide +kernel
theorem dL_law_719 : decode cL_law 719 = .ok (.iload 5, 2) := by decide +kernel
theorem dL_law_721 : decode cL_law 721 = .ok (.iconst 2, 1) := by decide +kernel
theorem dL_law_722 : decode cL_law 722 = .ok (.iadd, 1) := by decide +kernel
theorem dL_law_723 : decode cL_law 723 = .ok (.iaload, 1) := by decide +kernel
theorem dL_law_724 : decode cL_law 724 = .ok (.aload_n 0, 1) := by decide +kernel
theorem dL_law_725 : decode cL_law 725 = .ok (.iload 5, 2) := by decide +kernel
theorem dL_law_727 : decode cL_law 727 = .ok (.iconst 3, 1) := by decide +kernel
theorem dL_law_728 : decode cL_law 728 = .ok (.iadd, 1) := by decide +kernel
theorem dL_law_729 : decode cL_law 729 = .ok (.iaload, 1) := by decide +kernel
theorem dL_law_730 : decode cL_law 730 = .ok (.aload_n 3, 1) := by decide +kernel
theorem dL_law_731 : decode cL_law 731 = .ok (.invokestatic 138, 3) := by decide +kernel
theorem dL_law_734 : decode cL_law 734 = .ok (.istore 6, 2) := by decide +kernel
theorem dL_law_736 : decode cL_law 736 = .ok (.aload_n 2, 1) := by decide +kernel
theorem dL_law_737 : decode cL_law 737 = .ok (.aload_n 0, 1) := by decide +kernel
theorem dL_law_738 : decode cL_law 738 = .ok (.iload 5, 2) := by decide +kernel
theorem dL_law_740 : decode cL_law 740 = .ok (.iconst 1, 1) := by decide +kernel
theorem dL_law_741 : decode cL_law 741 = .ok (.iadd, 1) := by decide +kernel
theorem dL_law_742 : decode cL_law 742 = .ok (.iaload, 1) := by decide +kernel
theorem dL_law_743 : decode cL_law 743 = .ok (.aload_n 0, 1) := by decide +kernel
theorem dL_law_744 : decode cL_law 744 = .ok (.iload 5, 2) := by decide +kernel
theorem dL_law_746 : decode cL_law 746 = .ok (.iconst 2, 1) := by decide +kernel
theorem dL_law_747 : decode cL_law 747 = .ok (.iadd, 1) := by decide +kernel
theorem dL_law_748 : decode cL_law 748 = .ok (.iaload, 1) := by decide +kernel
theorem dL_law_749 : decode cL_law 749 = .ok (.aload_n 0, 1) := by decide +kernel
theorem dL_law_750 : decode cL_law 750 = .ok (.iload 5, 2) := by decide +kernel
theorem dL_law_752 : decode cL_law 752 = .ok (.iconst 3, 1) := by decide +kernel
theorem dL_law_753 : decode cL_law 753 = .ok (.iadd, 1) := by decide +kernel
theorem dL_law_754 : decode cL_law 754 = .ok (.iaload, 1) := by decide +kernel
theorem dL_law_755 : decode cL_law 755 = .ok (.invokevirtual 140, 3) := by decide +kernel
theorem dL_law_758 : decode cL_law 758 = .ok (.istore 7, 2) := by decide +kernel
theorem dL_law_760 : decode cL_law 760 = .ok (.aload_n 2, 1) := by decide +kernel
theorem dL_law_761 : decode cL_law 761 = .ok (.invokevirtual 112, 3) := by decide +kernel
theorem dL_law_764 : decode cL_law 764 = .ok (.iload 6, 2) := by decide +kernel
theorem dL_law_766 : decode cL_law 766 = .ok (.if_icmp .eq 5, 3) := by decide +kernel
theorem dL_law_769 : decode cL_law 769 = .ok (.iconst 0, 1) := by decide +kernel
theorem dL_law_770 : decode cL_law 770 = .ok (.ireturn, 1) := by decide +kernel
theorem dL_law_771 : decode cL_law 771 = .ok (.iload 6, 2) := by decide +kernel
theorem dL_law_773 : decode cL_law 773 = .ok (.ifCond .ne 15, 3) := by decide +kernel
theorem dL_law_776 : decode cL_law 776 = .ok (.aload_n 3, 1) := by decide +kernel
theorem dL_law_777 : decode cL_law 777 = .ok (.iconst 0, 1) := by decide +kernel
theorem dL_law_778 : decode cL_law 778 = .ok (.laload, 1) := by decide +kernel
theorem dL_law_779 : decode cL_law 779 = .ok (.iload 7, 2) := by decide +kernel
theorem dL_law_781 : decode cL_law 781 = .ok (.i2l, 1) := by decide +kernel
theorem dL_law_782 : decode cL_law 782 = .ok (.lcmp, 1) := by decide +kernel
theorem dL_law_783 : decode cL_law 783 = .ok (.ifCond .eq 5, 3) := by decide +kernel
