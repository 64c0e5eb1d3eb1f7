def wsL_suggest_r4 : List Cond := [Cond.code yX1_stepOf cX1_stepOf 2 (some .long)]
def wsL_suggest : List Cond := .codeWith yL_suggest cL_suggest 4 (some .int) [(0, 9, 12, 13)] :: ((wsL_suggest_r1 ++ (wsL_suggest_r2 ++ (wsL_suggest_r3 ++ wsL_suggest_r4))) ++ wsX40 ++ wsX20 ++ wsX00 ++ wsX10 ++ (vx_atS RX4 228 "java/lang/IndexOutOfBoundsException" ["java/lang/RuntimeException", "java/lang/Exception"]).filter goodWord)
def wsL_resend_r1 : List Cond := [Cond.classLink RL 13 "java/lang/IndexOutOfBoundsException", Cond.classLink RL 23 "java/lang/IllegalStateException", Cond.methodLink RL 82 yX4_resend, Cond.instanceMethod yX4_resend, Cond.selects RX4 yX4_resend yX4_resend, Cond.initialized RX4, Cond.code yX4_resend cX4_resend 3 (some .int), Cond.classLink RX4 64 "java/lang/IllegalStateException", Cond.initialized "java/lang/IllegalStateException", Cond.fieldLink RX4 152 "ToneLoader$Pair" "talk" "LToneLoader$Talk;", Cond.fieldLink RX4 156 "ToneLoader$Talk" "open" "Z", Cond.fieldLink RX4 179 "ToneLoader$Talk" "requestOnWay" "Z", Cond.fieldLink RX4 182 "ToneLoader$Talk" "number" "I", Cond.methodLink RX4 34 yX4_pairAt, Cond.instanceMethod yX4_pairAt, Cond.selects RX4 yX4_pairAt yX4_pairAt, Cond.code yX4_pairAt cX4_pairAt 2 (some (.object "ToneLoader$Pair")), Cond.classLink RX4 224 "java/lang/IndexOutOfBoundsException", Cond.initialized "java/lang/IndexOutOfBoundsException", Cond.fieldLink RX4 12 "ToneLoader" "now" "LToneLoader$State;", Cond.fieldLink RX4 116 "ToneLoader$State" "pair0" "LToneLoader$Pair;", Cond.fieldLink RX4 120 "ToneLoader$State" "pair1" "LToneLoader$Pair;", Cond.methodLink RX4 46 yX4_saveState, Cond.instanceMethod yX4_saveState]
def wsL_resend_r2 : List Cond := [Cond.selects RX4 yX4_saveState yX4_saveState, Cond.code yX4_saveState cX4_saveState 1 none, Cond.fieldLink RX4 20 "ToneLoader" "newestSaved" "I", Cond.fieldLink RX4 16 "ToneLoader" "saved" "[LToneLoader$State;", Cond.fieldLink RX4 24 "ToneLoader" "savedCount" "I", Cond.methodLink RX4 207 yJ9_floorMod_7cf53, Cond.static yJ9_floorMod_7cf53, Cond.initialized RJ9, Cond.code yJ9_floorMod_7cf53 cJ9_floorMod_7cf53 3 (some .int), Cond.methodLink RX4 212 yX2_copyFrom, Cond.instanceMethod yX2_copyFrom, Cond.selects RX2 yX2_copyFrom yX2_copyFrom, Cond.initialized RX2, Cond.code yX2_copyFrom cX2_copyFrom 2 none, Cond.fieldLink RX2 7 "ToneLoader$State" "frames" "I", Cond.fieldLink RX2 16 "ToneLoader$State" "pair0" "LToneLoader$Pair;", Cond.fieldLink RX2 20 "ToneLoader$State" "pair1" "LToneLoader$Pair;", Cond.methodLink RX2 23 yX0_copyFrom, Cond.instanceMethod yX0_copyFrom, Cond.selects RX0 yX0_copyFrom yX0_copyFrom, Cond.initialized RX0, Cond.code yX0_copyFrom cX0_copyFrom 2 none, Cond.fieldLink RX0 9 "ToneLoader$Pair" "noise" "[I", Cond.methodLink RX0 56 arraycopyName]
def wsL_resend_r3 : List Cond := [Cond.native arraycopyName, Cond.static arraycopyName, Cond.initialized "java/lang/System", Cond.fieldLink RX0 15 "ToneLoader$Pair" "coupling" "[I", Cond.fieldLink RX0 18 "ToneLoader$Pair" "limit" "[I", Cond.fieldLink RX0 21 "ToneLoader$Pair" "received" "[I", Cond.fieldLink RX0 24 "ToneLoader$Pair" "sent" "[I", Cond.fieldLink RX0 27 "ToneLoader$Pair" "energies" "[J", Cond.fieldLink RX0 34 "ToneLoader$Pair" "talk" "LToneLoader$Talk;", Cond.fieldLink RX0 45 "ToneLoader$Pair" "budget" "I", Cond.fieldLink RX0 49 "ToneLoader$Pair" "broken" "I", Cond.fieldLink RX0 52 "ToneLoader$Pair" "apart" "Z", Cond.methodLink RX0 62 yX3_copyFrom, Cond.instanceMethod yX3_copyFrom, Cond.selects RX3 yX3_copyFrom yX3_copyFrom, Cond.initialized RX3, Cond.code yX3_copyFrom cX3_copyFrom 2 none, Cond.fieldLink RX3 24 "ToneLoader$Talk" "nextNumber" "I", Cond.fieldLink RX3 27 "ToneLoader$Talk" "open" "Z", Cond.fieldLink RX3 31 "ToneLoader$Talk" "number" "I", Cond.fieldLink RX3 34 "ToneLoader$Talk" "from" "I", Cond.fieldLink RX3 37 "ToneLoader$Talk" "to" "I", Cond.fieldLink RX3 9 "ToneLoader$Talk" "notedFrame" "I", Cond.fieldLink RX3 40 "ToneLoader$Talk" "requestOnWay" "Z"]
def wsL_resend_r4 : List Cond := [Cond.fieldLink RX3 43 "ToneLoader$Talk" "answerOnWay" "Z", Cond.fieldLink RX3 46 "ToneLoader$Talk" "answeredNumber" "I", Cond.fieldLink RX3 15 "ToneLoader$Talk" "answeredFrame" "I", Cond.fieldLink RX3 18 "ToneLoader$Talk" "agreedNumber" "I", Cond.fieldLink RX3 21 "ToneLoader$Talk" "agreedFrame" "I", Cond.fieldLink RX3 49 "ToneLoader$Talk" "agreedFrom" "I", Cond.fieldLink RX3 52 "ToneLoader$Talk" "agreedTo" "I"]
def wsL_resend : List Cond := .codeWith yL_resend cL_resend 4 (some .int) [(0, 9, 12, 13), (0, 9, 15, 23)] :: ((wsL_resend_r1 ++ (wsL_resend_r2 ++ (wsL_resend_r3 ++ wsL_resend_r4))) ++ wsX00 ++ wsX30 ++ wsX40 ++ wsX20 ++ (vx_atS RX4 68 "java/lang/IllegalStateException" ["java/lang/RuntimeException", "java/lang/Exception"]).filter goodWord ++ (vx_atS RX4 228 "java/lang/IndexOutOfBoundsException" ["java/lang/RuntimeException", "java/lang/Exception"]).filter goodWord)
def wsL_deliver_r1 : List Cond := [Cond.classLink RL 13 "java/lang/IndexOutOfBoundsException", Cond.classLink RL 15 "java/lang/IllegalArgumentException", Cond.classLink RL 23 "java/lang/IllegalStateException", Cond.methodLink RL 85 yX4_deliver, Cond.instanceMethod yX4_deliver, Cond.selects RX4 yX4_deliver yX4_deliver, Cond.initialized RX4, Cond.code yX4_deliver cX4_deliver 6 (some .int), Cond.classLink RX4 64 "java/lang/IllegalStateException", Cond.initialized "java/lang/IllegalStateException", Cond.fieldLink RX4 152 "ToneLoader$Pair" "talk" "LToneLoader$Talk;", Cond.fieldLink RX4 179 "ToneLoader$Talk" "requestOnWay" "Z", Cond.fieldLink RX4 185 "ToneLoader$Talk" "answerOnWay" "Z", Cond.fieldLink RX4 12 "ToneLoader" "now" "LToneLoader$State;", Cond.fieldLink RX4 190 "ToneLoader$State" "frames" "I", Cond.methodLink RX4 34 yX4_pairAt, Cond.instanceMethod yX4_pairAt, Cond.selects RX4 yX4_pairAt yX4_pairAt, Cond.code yX4_pairAt cX4_pairAt 2 (some (.object "ToneLoader$Pair")), Cond.classLink RX4 224 "java/lang/IndexOutOfBoundsException", Cond.initialized "java/lang/IndexOutOfBoundsException", Cond.fieldLink RX4 116 "ToneLoader$State" "pair0" "LToneLoader$Pair;", Cond.fieldLink RX4 120 "ToneLoader$State" "pair1" "LToneLoader$Pair;", Cond.methodLink RX4 42 yX4_checkRange]
def wsL_deliver_r2 : List Cond := [Cond.static yX4_checkRange, Cond.code yX4_checkRange cX4_checkRange 3 none, Cond.classLink RX4 147 "java/lang/IllegalArgumentException", Cond.initialized "java/lang/IllegalArgumentException", Cond.methodLink RX4 46 yX4_saveState, Cond.instanceMethod yX4_saveState, Cond.selects RX4 yX4_saveState yX4_saveState, Cond.code yX4_saveState cX4_saveState 1 none, Cond.fieldLink RX4 20 "ToneLoader" "newestSaved" "I", Cond.fieldLink RX4 16 "ToneLoader" "saved" "[LToneLoader$State;", Cond.fieldLink RX4 24 "ToneLoader" "savedCount" "I", Cond.methodLink RX4 207 yJ9_floorMod_7cf53, Cond.static yJ9_floorMod_7cf53, Cond.initialized RJ9, Cond.code yJ9_floorMod_7cf53 cJ9_floorMod_7cf53 3 (some .int), Cond.methodLink RX4 212 yX2_copyFrom, Cond.instanceMethod yX2_copyFrom, Cond.selects RX2 yX2_copyFrom yX2_copyFrom, Cond.initialized RX2, Cond.code yX2_copyFrom cX2_copyFrom 2 none, Cond.fieldLink RX2 7 "ToneLoader$State" "frames" "I", Cond.fieldLink RX2 16 "ToneLoader$State" "pair0" "LToneLoader$Pair;", Cond.fieldLink RX2 20 "ToneLoader$State" "pair1" "LToneLoader$Pair;", Cond.methodLink RX2 23 yX0_copyFrom]
def wsL_deliver_r3 : List Cond := [Cond.instanceMethod yX0_copyFrom, Cond.selects RX0 yX0_copyFrom yX0_copyFrom, Cond.initialized RX0, Cond.code yX0_copyFrom cX0_copyFrom 2 none, Cond.fieldLink RX0 9 "ToneLoader$Pair" "noise" "[I", Cond.methodLink RX0 56 arraycopyName, Cond.native arraycopyName, Cond.static arraycopyName, Cond.initialized "java/lang/System", Cond.fieldLink RX0 15 "ToneLoader$Pair" "coupling" "[I", Cond.fieldLink RX0 18 "ToneLoader$Pair" "limit" "[I", Cond.fieldLink RX0 21 "ToneLoader$Pair" "received" "[I", Cond.fieldLink RX0 24 "ToneLoader$Pair" "sent" "[I", Cond.fieldLink RX0 27 "ToneLoader$Pair" "energies" "[J", Cond.fieldLink RX0 34 "ToneLoader$Pair" "talk" "LToneLoader$Talk;", Cond.fieldLink RX0 45 "ToneLoader$Pair" "budget" "I", Cond.fieldLink RX0 49 "ToneLoader$Pair" "broken" "I", Cond.fieldLink RX0 52 "ToneLoader$Pair" "apart" "Z", Cond.methodLink RX0 62 yX3_copyFrom, Cond.instanceMethod yX3_copyFrom, Cond.selects RX3 yX3_copyFrom yX3_copyFrom, Cond.initialized RX3, Cond.code yX3_copyFrom cX3_copyFrom 2 none, Cond.fieldLink RX3 24 "ToneLoader$Talk" "nextNumber" "I"]
def wsL_deliver_r4 : List Cond := [Cond.fieldLink RX3 27 "ToneLoader$Talk" "open" "Z", Cond.fieldLink RX3 31 "ToneLoader$Talk" "number" "I", Cond.fieldLink RX3 34 "ToneLoader$Talk" "from" "I", Cond.fieldLink RX3 37 "ToneLoader$Talk" "to" "I", Cond.fieldLink RX3 9 "ToneLoader$Talk" "notedFrame" "I", Cond.fieldLink RX3 40 "ToneLoader$Talk" "requestOnWay" "Z", Cond.fieldLink RX3 43 "ToneLoader$Talk" "answerOnWay" "Z", Cond.fieldLink RX3 46 "ToneLoader$Talk" "answeredNumber" "I", Cond.fieldLink RX3 15 "ToneLoader$Talk" "answeredFrame" "I", Cond.fieldLink RX3 18 "ToneLoader$Talk" "agreedNumber" "I", Cond.fieldLink RX3 21 "ToneLoader$Talk" "agreedFrame" "I", Cond.fieldLink RX3 49 "ToneLoader$Talk" "agreedFrom" "I", Cond.fieldLink RX3 52 "ToneLoader$Talk" "agreedTo" "I", Cond.methodLink RX4 193 yX3_answerRequest, Cond.instanceMethod yX3_answerRequest, Cond.selects RX3 yX3_answerRequest yX3_answerRequest, Cond.code yX3_answerRequest cX3_answerRequest 2 (some .int), Cond.methodLink RX4 196 yX3_noteAnswer, Cond.instanceMethod yX3_noteAnswer, Cond.selects RX3 yX3_noteAnswer yX3_noteAnswer, Cond.code yX3_noteAnswer cX3_noteAnswer 1 (some .int)]
def wsL_deliver : List Cond := .codeWith yL_deliver cL_deliver 6 (some .int) [(0, 12, 15, 13), (0, 12, 19, 15), (0, 12, 23, 23)] :: ((wsL_deliver_r1 ++ (wsL_deliver_r2 ++ (wsL_deliver_r3 ++ wsL_deliver_r4))) ++ wsX00 ++ wsX30 ++ wsX40 ++ wsX20 ++ (vx_atS RX4 68 "java/lang/IllegalStateException" ["java/lang/RuntimeException", "java/lang/Exception"]).filter goodWord ++ (vx_atS RX4 228 "java/lang/IndexOutOfBoundsException" ["java/lang/RuntimeException", "java/lang/Exception"]).filter goodWord ++ (vx_atS RX4 151 "java/lang/IllegalArgumentException" ["java/lang/RuntimeException", "java/lang/Exception"]).filter goodWord)
def wsL_run_r1 : List Cond := [Cond.classLink RL 15 "java/lang/IllegalArgumentException", Cond.methodLink RL 89 yX4_run, Cond.instanceMethod yX4_run, Cond.selects RX4 yX4_run yX4_run, Cond.initialized RX4, Cond.code yX4_run cX4_run 3 (some .int), Cond.fieldLink RX4 12 "ToneLoader" "now" "LToneLoader$State;", Cond.fieldLink RX4 190 "ToneLoader$State" "frames" "I", Cond.methodLink RX4 42 yX4_checkRange, Cond.static yX4_checkRange, Cond.code yX4_checkRange cX4_checkRange 3 none, Cond.classLink RX4 147 "java/lang/IllegalArgumentException", Cond.initialized "java/lang/IllegalArgumentException", Cond.methodLink RX4 46 yX4_saveState, Cond.instanceMethod yX4_saveState, Cond.selects RX4 yX4_saveState yX4_saveState, Cond.code yX4_saveState cX4_saveState 1 none, Cond.fieldLink RX4 20 "ToneLoader" "newestSaved" "I", Cond.fieldLink RX4 16 "ToneLoader" "saved" "[LToneLoader$State;", Cond.fieldLink RX4 24 "ToneLoader" "savedCount" "I", Cond.methodLink RX4 207 yJ9_floorMod_7cf53, Cond.static yJ9_floorMod_7cf53, Cond.initialized RJ9, Cond.code yJ9_floorMod_7cf53 cJ9_floorMod_7cf53 3 (some .int)]
def wsL_run_r2 : List Cond := [Cond.methodLink RX4 212 yX2_copyFrom, Cond.instanceMethod yX2_copyFrom, Cond.selects RX2 yX2_copyFrom yX2_copyFrom, Cond.initialized RX2, Cond.code yX2_copyFrom cX2_copyFrom 2 none, Cond.fieldLink RX2 7 "ToneLoader$State" "frames" "I", Cond.fieldLink RX2 16 "ToneLoader$State" "pair0" "LToneLoader$Pair;", Cond.fieldLink RX2 20 "ToneLoader$State" "pair1" "LToneLoader$Pair;", Cond.methodLink RX2 23 yX0_copyFrom, Cond.instanceMethod yX0_copyFrom, Cond.selects RX0 yX0_copyFrom yX0_copyFrom, Cond.initialized RX0, Cond.code yX0_copyFrom cX0_copyFrom 2 none, Cond.fieldLink RX0 9 "ToneLoader$Pair" "noise" "[I", Cond.methodLink RX0 56 arraycopyName, Cond.native arraycopyName, Cond.static arraycopyName, Cond.initialized "java/lang/System", Cond.fieldLink RX0 15 "ToneLoader$Pair" "coupling" "[I", Cond.fieldLink RX0 18 "ToneLoader$Pair" "limit" "[I", Cond.fieldLink RX0 21 "ToneLoader$Pair" "received" "[I", Cond.fieldLink RX0 24 "ToneLoader$Pair" "sent" "[I", Cond.fieldLink RX0 27 "ToneLoader$Pair" "energies" "[J", Cond.fieldLink RX0 34 "ToneLoader$Pair" "talk" "LToneLoader$Talk;"]
def wsL_run_r3 : List Cond := [Cond.fieldLink RX0 45 "ToneLoader$Pair" "budget" "I", Cond.fieldLink RX0 49 "ToneLoader$Pair" "broken" "I", Cond.fieldLink RX0 52 "ToneLoader$Pair" "apart" "Z", Cond.methodLink RX0 62 yX3_copyFrom, Cond.instanceMethod yX3_copyFrom, Cond.selects RX3 yX3_copyFrom yX3_copyFrom, Cond.initialized RX3, Cond.code yX3_copyFrom cX3_copyFrom 2 none, Cond.fieldLink RX3 24 "ToneLoader$Talk" "nextNumber" "I", Cond.fieldLink RX3 27 "ToneLoader$Talk" "open" "Z", Cond.fieldLink RX3 31 "ToneLoader$Talk" "number" "I", Cond.fieldLink RX3 34 "ToneLoader$Talk" "from" "I", Cond.fieldLink RX3 37 "ToneLoader$Talk" "to" "I", Cond.fieldLink RX3 9 "ToneLoader$Talk" "notedFrame" "I", Cond.fieldLink RX3 40 "ToneLoader$Talk" "requestOnWay" "Z", Cond.fieldLink RX3 43 "ToneLoader$Talk" "answerOnWay" "Z", Cond.fieldLink RX3 46 "ToneLoader$Talk" "answeredNumber" "I", Cond.fieldLink RX3 15 "ToneLoader$Talk" "answeredFrame" "I", Cond.fieldLink RX3 18 "ToneLoader$Talk" "agreedNumber" "I", Cond.fieldLink RX3 21 "ToneLoader$Talk" "agreedFrame" "I", Cond.fieldLink RX3 49 "ToneLoader$Talk" "agreedFrom" "I", Cond.fieldLink RX3 52 "ToneLoader$Talk" "agreedTo" "I", Cond.methodLink RX4 199 yX2_passFrame, Cond.instanceMethod yX2_passFrame]
def wsL_run_r4 : List Cond := [Cond.selects RX2 yX2_passFrame yX2_passFrame, Cond.code yX2_passFrame cX2_passFrame 1 none, Cond.methodLink RX2 27 yX0_enterFrame, Cond.instanceMethod yX0_enterFrame, Cond.selects RX0 yX0_enterFrame yX0_enterFrame, Cond.code yX0_enterFrame cX0_enterFrame 5 none, Cond.fieldLink RX0 86 "ToneLoader$Talk" "agreedFrame" "I", Cond.fieldLink RX0 93 "ToneLoader$Talk" "agreedFrom" "I", Cond.fieldLink RX0 96 "ToneLoader$Talk" "agreedTo" "I", Cond.fieldLink RX0 103 "ToneLoader$Talk" "from" "I", Cond.fieldLink RX0 106 "ToneLoader$Talk" "to" "I", Cond.fieldLink RX0 113 "ToneLoader$Talk" "open" "Z", Cond.methodLink RX0 89 yX3_isDue, Cond.instanceMethod yX3_isDue, Cond.selects RX3 yX3_isDue yX3_isDue, Cond.code yX3_isDue cX3_isDue 2 (some .boolean), Cond.methodLink RX0 99 yX0_moveBit, Cond.static yX0_moveBit, Cond.code yX0_moveBit cX0_moveBit 3 none, Cond.static yX4_isTone, Cond.code yX4_isTone cX4_isTone 1 (some .boolean), Cond.methodLink RX0 109 yX0_renewEnergy, Cond.instanceMethod yX0_renewEnergy, Cond.selects RX0 yX0_renewEnergy yX0_renewEnergy]
def wsL_run_r5 : List Cond := [Cond.code yX0_renewEnergy cX0_renewEnergy 3 none, Cond.methodLink RX0 76 yX0_needBeside, Cond.instanceMethod yX0_needBeside, Cond.selects RX0 yX0_needBeside yX0_needBeside, Cond.code yX0_needBeside cX0_needBeside 3 (some .long), Cond.methodLink RX0 68 yX0_noiseBeside, Cond.instanceMethod yX0_noiseBeside, Cond.selects RX0 yX0_noiseBeside yX0_noiseBeside, Cond.code yX0_noiseBeside cX0_noiseBeside 3 (some .long), Cond.constantLong RX0 66 (1000), Cond.static yX4_needFor, Cond.code yX4_needFor cX4_needFor 3 (some .long), Cond.static yX4_cappedEnergy, Cond.code yX4_cappedEnergy cX4_cappedEnergy 2 (some .long), Cond.constantLong RX4 260 (1000000000000), Cond.methodLink RX0 116 yX0_endsDiffer, Cond.instanceMethod yX0_endsDiffer, Cond.selects RX0 yX0_endsDiffer yX0_endsDiffer, Cond.code yX0_endsDiffer cX0_endsDiffer 2 (some .boolean), Cond.methodLink RX2 31 yX0_countFrame, Cond.instanceMethod yX0_countFrame, Cond.selects RX0 yX0_countFrame yX0_countFrame, Cond.code yX0_countFrame cX0_countFrame 1 none]
def wsL_run : List Cond := .codeWith yL_run cL_run 4 (some .int) [(0, 9, 12, 15)] :: ((wsL_run_r1 ++ (wsL_run_r2 ++ (wsL_run_r3 ++ (wsL_run_r4 ++ wsL_run_r5)))) ++ wsX40 ++ wsX20 ++ wsX00 ++ wsX30 ++ (vx_atS RX4 151 "java/lang/IllegalArgumentException" ["java/lang/RuntimeException", "java/lang/Exception"]).filter goodWord)
def wsL_inStep : List Cond := .codeWith yL_inStep cL_inStep 4 (some .int) [(0, 16, 19, 13)] :: ([.classLink RL 13 "java/lang/IndexOutOfBoundsException", .methodLink RL 92 yX4_inStep, .instanceMethod yX4_inStep, .selects RX4 yX4_inStep yX4_inStep, .initialized RX4, .code yX4_inStep cX4_inStep 2 (some .boolean), .fieldLink RX4 162 "ToneLoader$Pair" "apart" "Z", .methodLink RX4 34 yX4_pairAt, .instanceMethod yX4_pairAt, .selects RX4 yX4_pairAt yX4_pairAt, .code yX4_pairAt cX4_pairAt 2 (some (.object "ToneLoader$Pair")), .classLink RX4 224 "java/lang/IndexOutOfBoundsException", .initialized "java/lang/IndexOutOfBoundsException", .fieldLink RX4 12 "ToneLoader" "now" "LToneLoader$State;", .fieldLink RX4 116 "ToneLoader$State" "pair0" "LToneLoader$Pair;", .fieldLink RX4 120 "ToneLoader$State" "pair1" "LToneLoader$Pair;"] ++ wsX00 ++ wsX40 ++ wsX20 ++ (vx_atS RX4 228 "java/lang/IndexOutOfBoundsException" ["java/lang/RuntimeException", "java/lang/Exception"]).filter goodWord)
def wsL_brokenFrames : List Cond := .codeWith yL_brokenFrames cL_brokenFrames 4 (some .int) [(0, 9, 12, 13)] :: ([.classLink RL 13 "java/lang/IndexOutOfBoundsException", .methodLink RL 95 yX4_brokenFrames, .instanceMethod yX4_brokenFrames, .selects RX4 yX4_brokenFrames yX4_brokenFrames, .initialized RX4, .code yX4_brokenFrames cX4_brokenFrames 2 (some .int), .fieldLink RX4 202 "ToneLoader$Pair" "broken" "I", .methodLink RX4 34 yX4_pairAt, .instanceMethod yX4_pairAt, .selects RX4 yX4_pairAt yX4_pairAt, .code yX4_pairAt cX4_pairAt 2 (some (.object "ToneLoader$Pair")), .classLink RX4 224 "java/lang/IndexOutOfBoundsException", .initialized "java/lang/IndexOutOfBoundsException", .fieldLink RX4 12 "ToneLoader" "now" "LToneLoader$State;", .fieldLink RX4 116 "ToneLoader$State" "pair0" "LToneLoader$Pair;", .fieldLink RX4 120 "ToneLoader$State" "pair1" "LToneLoader$Pair;"] ++ wsX00 ++ wsX40 ++ wsX20 ++ (vx_atS RX4 228 "java/lang/IndexOutOfBoundsException" ["java/lang/RuntimeException", "java/lang/Exception"]).filter goodWord)
def wsL_undo_r1 : List Cond := [Cond.classLink RL 23 "java/lang/IllegalStateException", Cond.methodLink RL 98 yX4_undo, Cond.instanceMethod yX4_undo, Cond.selects RX4 yX4_undo yX4_undo, Cond.initialized RX4, Cond.code yX4_undo cX4_undo 1 (some .int), Cond.classLink RX4 64 "java/lang/IllegalStateException", Cond.initialized "java/lang/IllegalStateException", Cond.fieldLink RX4 24 "ToneLoader" "savedCount" "I", Cond.fieldLink RX4 12 "ToneLoader" "now" "LToneLoader$State;", Cond.fieldLink RX4 16 "ToneLoader" "saved" "[LToneLoader$State;", Cond.fieldLink RX4 20 "ToneLoader" "newestSaved" "I", Cond.methodLink RX4 207 yJ9_floorMod_7cf53, Cond.static yJ9_floorMod_7cf53, Cond.initialized RJ9, Cond.code yJ9_floorMod_7cf53 cJ9_floorMod_7cf53 3 (some .int), Cond.methodLink RX4 212 yX2_copyFrom, Cond.instanceMethod yX2_copyFrom, Cond.selects RX2 yX2_copyFrom yX2_copyFrom, Cond.initialized RX2, Cond.code yX2_copyFrom cX2_copyFrom 2 none, Cond.fieldLink RX2 7 "ToneLoader$State" "frames" "I", Cond.fieldLink RX2 16 "ToneLoader$State" "pair0" "LToneLoader$Pair;", Cond.fieldLink RX2 20 "ToneLoader$State" "pair1" "LToneLoader$Pair;"]
def wsL_undo_r2 : List Cond := [Cond.methodLink RX2 23 yX0_copyFrom, Cond.instanceMethod yX0_copyFrom, Cond.selects RX0 yX0_copyFrom yX0_copyFrom, Cond.initialized RX0, Cond.code yX0_copyFrom cX0_copyFrom 2 none, Cond.fieldLink RX0 9 "ToneLoader$Pair" "noise" "[I", Cond.methodLink RX0 56 arraycopyName, Cond.native arraycopyName, Cond.static arraycopyName, Cond.initialized "java/lang/System", Cond.fieldLink RX0 15 "ToneLoader$Pair" "coupling" "[I", Cond.fieldLink RX0 18 "ToneLoader$Pair" "limit" "[I", Cond.fieldLink RX0 21 "ToneLoader$Pair" "received" "[I", Cond.fieldLink RX0 24 "ToneLoader$Pair" "sent" "[I", Cond.fieldLink RX0 27 "ToneLoader$Pair" "energies" "[J", Cond.fieldLink RX0 34 "ToneLoader$Pair" "talk" "LToneLoader$Talk;", Cond.fieldLink RX0 45 "ToneLoader$Pair" "budget" "I", Cond.fieldLink RX0 49 "ToneLoader$Pair" "broken" "I", Cond.fieldLink RX0 52 "ToneLoader$Pair" "apart" "Z", Cond.methodLink RX0 62 yX3_copyFrom, Cond.instanceMethod yX3_copyFrom, Cond.selects RX3 yX3_copyFrom yX3_copyFrom, Cond.initialized RX3, Cond.code yX3_copyFrom cX3_copyFrom 2 none]
def wsL_undo_r3 : List Cond := [Cond.fieldLink RX3 24 "ToneLoader$Talk" "nextNumber" "I", Cond.fieldLink RX3 27 "ToneLoader$Talk" "open" "Z", Cond.fieldLink RX3 31 "ToneLoader$Talk" "number" "I", Cond.fieldLink RX3 34 "ToneLoader$Talk" "from" "I", Cond.fieldLink RX3 37 "ToneLoader$Talk" "to" "I", Cond.fieldLink RX3 9 "ToneLoader$Talk" "notedFrame" "I", Cond.fieldLink RX3 40 "ToneLoader$Talk" "requestOnWay" "Z", Cond.fieldLink RX3 43 "ToneLoader$Talk" "answerOnWay" "Z", Cond.fieldLink RX3 46 "ToneLoader$Talk" "answeredNumber" "I", Cond.fieldLink RX3 15 "ToneLoader$Talk" "answeredFrame" "I", Cond.fieldLink RX3 18 "ToneLoader$Talk" "agreedNumber" "I", Cond.fieldLink RX3 21 "ToneLoader$Talk" "agreedFrame" "I", Cond.fieldLink RX3 49 "ToneLoader$Talk" "agreedFrom" "I", Cond.fieldLink RX3 52 "ToneLoader$Talk" "agreedTo" "I"]
def wsL_undo : List Cond := .codeWith yL_undo cL_undo 3 (some .int) [(0, 8, 11, 23)] :: ((wsL_undo_r1 ++ (wsL_undo_r2 ++ wsL_undo_r3)) ++ wsX40 ++ wsX20 ++ wsX00 ++ wsX30 ++ (vx_atS RX4 68 "java/lang/IllegalStateException" ["java/lang/RuntimeException", "java/lang/Exception"]).filter goodWord)
set_option maxRecDepth 20000 in
theorem ggX0_init_X3_init : GoodIn wsX0_init wsX3_init := goodIn_r _ [22, 23, 2, 3, 24, 25, 26, 27, 42, 43, 44, 45, 46, 47, 48, 49, 50, 51, 52, 53, 54, 55] (by decide +kernel) (by decide +kernel)
set_option maxRecDepth 20000 in
theorem gX0_init_X3_init : GoodIn wsX0_init (wsX3_init) := ggX0_init_X3_init
set_option maxRecDepth 20000 in
theorem ggX0_init_J7_fill_53178 : GoodIn wsX0_init wsJ7_fill_53178 := goodIn_r _ [31] (by decide +kernel) (by decide +kernel)
set_option maxRecDepth 20000 in
theorem gX0_init_J7_fill_53178 : GoodIn wsX0_init (va_wsS RX0 38 yJ7_fill_53178 wsJ7_fill_53178) := goodIn_app (goodIn_of _ (by decide +kernel)) ggX0_init_J7_fill_53178
theorem dX0_init_0 : decode cX0_init 0 = .ok (.aload_n 0, 1) := by decide +kernel
theorem dX0_init_1 : decode cX0_init 1 = .ok (.invokespecial 3, 3) := by decide +kernel
theorem dX0_init_4 : decode cX0_init 4 = .ok (.aload_n 0, 1) := by decide +kernel
theorem dX0_init_5 : decode cX0_init 5 = .ok (.bipush 16, 2) := by decide +kernel
theorem dX0_init_7 : decode cX0_init 7 = .ok (.newarray .int, 2) := by decide +kernel
theorem dX0_init_9 : decode cX0_init 9 = .ok (.putfield 9, 3) := by decide +kernel
theorem dX0_init_12 : decode cX0_init 12 = .ok (.aload_n 0, 1) := by decide +kernel
theorem dX0_init_13 : decode cX0_init 13 = .ok (.bipush 16, 2) := by decide +kernel
theorem dX0_init_15 : decode cX0_init 15 = .ok (.newarray .int, 2) := by decide +kernel
theorem dX0_init_17 : decode cX0_init 17 = .ok (.putfield 15, 3) := by decide +kernel
theorem dX0_init_20 : decode cX0_init 20 = .ok (.aload_n 0, 1) := by decide +kernel
theorem dX0_init_21 : decode cX0_init 21 = .ok (.bipush 16, 2) := by decide +kernel
theorem dX0_init_23 : decode cX0_init 23 = .ok (.newarray .int, 2) := by decide +kernel
theorem dX0_init_25 : decode cX0_init 25 = .ok (.putfield 18, 3) := by decide +kernel
theorem dX0_init_28 : decode cX0_init 28 = .ok (.aload_n 0, 1) := by decide +kernel
theorem dX0_init_29 : decode cX0_init 29 = .ok (.bipush 16, 2) := by decide +kernel
theorem dX0_init_31 : decode cX0_init 31 = .ok (.newarray .int, 2) := by decide +kernel
theorem dX0_init_33 : decode cX0_init 33 = .ok (.putfield 21, 3) := by decide +kernel
theorem dX0_init_36 : decode cX0_init 36 = .ok (.aload_n 0, 1) := by decide +kernel
theorem dX0_init_37 : decode cX0_init 37 = .ok (.bipush 16, 2) := by decide +kernel
theorem dX0_init_39 : decode cX0_init 39 = .ok (.newarray .int, 2) := by decide +kernel
theorem dX0_init_41 : decode cX0_init 41 = .ok (.putfield 24, 3) := by decide +kernel
theorem dX0_init_44 : decode cX0_init 44 = .ok (.aload_n 0, 1) := by decide +kernel
theorem dX0_init_45 : decode cX0_init 45 = .ok (.bipush 16, 2) := by decide +kernel
theorem dX0_init_47 : decode cX0_init 47 = .ok (.newarray .long, 2) := by decide +kernel
theorem dX0_init_49 : decode cX0_init 49 = .ok (.putfield 27, 3) := by decide +kernel
theorem dX0_init_52 : decode cX0_init 52 = .ok (.aload_n 0, 1) := by decide +kernel
theorem dX0_init_53 : decode cX0_init 53 = .ok (.new 31, 3) := by decide +kernel
theorem dX0_init_56 : decode cX0_init 56 = .ok (.dup, 1) := by decide +kernel
theorem dX0_init_57 : decode cX0_init 57 = .ok (.invokespecial 33, 3) := by decide +kernel
theorem dX0_init_60 : decode cX0_init 60 = .ok (.putfield 34, 3) := by decide +kernel
theorem dX0_init_63 : decode cX0_init 63 = .ok (.aload_n 0, 1) := by decide +kernel
theorem dX0_init_64 : decode cX0_init 64 = .ok (.getfield 9, 3) := by decide +kernel
theorem dX0_init_67 : decode cX0_init 67 = .ok (.bipush 100, 2) := by decide +kernel
theorem dX0_init_69 : decode cX0_init 69 = .ok (.invokestatic 38, 3) := by decide +kernel
theorem dX0_init_72 : decode cX0_init 72 = .ok (.aload_n 0, 1) := by decide +kernel
theorem dX0_init_73 : decode cX0_init 73 = .ok (.getfield 18, 3) := by decide +kernel
theorem dX0_init_76 : decode cX0_init 76 = .ok (.bipush 12, 2) := by decide +kernel
theorem dX0_init_78 : decode cX0_init 78 = .ok (.invokestatic 38, 3) := by decide +kernel
theorem dX0_init_81 : decode cX0_init 81 = .ok (.aload_n 0, 1) := by decide +kernel
theorem dX0_init_82 : decode cX0_init 82 = .ok (.ldc 44, 2) := by decide +kernel
theorem dX0_init_84 : decode cX0_init 84 = .ok (.putfield 45, 3) := by decide +kernel
theorem dX0_init_87 : decode cX0_init 87 = .ok (.aload_n 0, 1) := by decide +kernel
theorem dX0_init_88 : decode cX0_init 88 = .ok (.iconst 0, 1) := by decide +kernel
theorem dX0_init_89 : decode cX0_init 89 = .ok (.putfield 49, 3) := by decide +kernel
theorem dX0_init_92 : decode cX0_init 92 = .ok (.aload_n 0, 1) := by decide +kernel
theorem dX0_init_93 : decode cX0_init 93 = .ok (.iconst 0, 1) := by decide +kernel
theorem dX0_init_94 : decode cX0_init 94 = .ok (.putfield 52, 3) := by decide +kernel
theorem dX0_init_97 : decode cX0_init 97 = .ok (.return_, 1) := by decide +kernel
set_option maxRecDepth 20000 in
theorem ggX0_copyFrom_X3_copyFrom : GoodIn wsX0_copyFrom wsX3_copyFrom := goodIn_r _ [19, 20, 21, 22, 23, 24, 25, 26, 27, 28, 29, 30, 31, 32, 33, 44, 45, 46, 47, 48, 49, 50, 51, 52, 53, 54, 55, 56, 57] (by decide +kernel) (by decide +kernel)
set_option maxRecDepth 20000 in
theorem gX0_copyFrom_X3_copyFrom : GoodIn wsX0_copyFrom (wsV RX0 62 RX3 yX3_copyFrom wsX3_copyFrom) := goodIn_app (goodIn_of _ (by decide +kernel)) ggX0_copyFrom_X3_copyFrom
theorem dX0_copyFrom_0 : decode cX0_copyFrom 0 = .ok (.aload_n 1, 1) := by decide +kernel
theorem dX0_copyFrom_1 : decode cX0_copyFrom 1 = .ok (.getfield 9, 3) := by decide +kernel
theorem dX0_copyFrom_4 : decode cX0_copyFrom 4 = .ok (.iconst 0, 1) := by decide +kernel
theorem dX0_copyFrom_5 : decode cX0_copyFrom 5 = .ok (.aload_n 0, 1) := by decide +kernel
theorem dX0_copyFrom_6 : decode cX0_copyFrom 6 = .ok (.getfield 9, 3) := by decide +kernel
theorem dX0_copyFrom_9 : decode cX0_copyFrom 9 = .ok (.iconst 0, 1) := by decide +kernel
theorem dX0_copyFrom_10 : decode cX0_copyFrom 10 = .ok (.bipush 16, 2) := by decide +kernel
theorem dX0_copyFrom_12 : decode cX0_copyFrom 12 = .ok (.invokestatic 56, 3) := by decide +kernel
theorem dX0_copyFrom_15 : decode cX0_copyFrom 15 = .ok (.aload_n 1, 1) := by decide +kernel
theorem dX0_copyFrom_16 : decode cX0_copyFrom 16 = .ok (.getfield 15, 3) := by decide +kernel
theorem dX0_copyFrom_19 : decode cX0_copyFrom 19 = .ok (.iconst 0, 1) := by decide +kernel
theorem dX0_copyFrom_20 : decode cX0_copyFrom 20 = .ok (.aload_n 0, 1) := by decide +kernel
theorem dX0_copyFrom_21 : decode cX0_copyFrom 21 = .ok (.getfield 15, 3) := by decide +kernel
theorem dX0_copyFrom_24 : decode cX0_copyFrom 24 = .ok (.iconst 0, 1) := by decide +kernel
theorem dX0_copyFrom_25 : decode cX0_copyFrom 25 = .ok (.bipush 16, 2) := by decide +kernel
theorem dX0_copyFrom_27 : decode cX0_copyFrom 27 = .ok (.invokestatic 56, 3) := by decide +kernel
theorem dX0_copyFrom_30 : decode cX0_copyFrom 30 = .ok (.aload_n 1, 1) := by decide +kernel
theorem dX0_copyFrom_31 : decode cX0_copyFrom 31 = .ok (.getfield 18, 3) := by decide +kernel
theorem dX0_copyFrom_34 : decode cX0_copyFrom 34 = .ok (.iconst 0, 1) := by decide +kernel
theorem dX0_copyFrom_35 : decode cX0_copyFrom 35 = .ok (.aload_n 0, 1) := by decide +kernel
theorem dX0_copyFrom_36 : decode cX0_copyFrom 36 = .ok (.getfield 18, 3) := by decide +kernel
theorem dX0_copyFrom_39 : decode cX0_copyFrom 39 = .ok (.iconst 0, 1) := by decide +kernel
theorem dX0_copyFrom_40 : decode cX0_copyFrom 40 = .ok (.bipush 16, 2) := by decide +kernel
theorem dX0_copyFrom_42 : decode cX0_copyFrom 42 = .ok (.invokestatic 56, 3) := by decide +kernel
theorem dX0_copyFrom_45 : decode cX0_copyFrom 45 = .ok (.aload_n 1, 1) := by decide +kernel
theorem dX0_copyFrom_46 : decode cX0_copyFrom 46 = .ok (.getfield 21, 3) := by decide +kernel
theorem dX0_copyFrom_49 : decode cX0_copyFrom 49 = .ok (.iconst 0, 1) := by decide +kernel
theorem dX0_copyFrom_50 : decode cX0_copyFrom 50 = .ok (.aload_n 0, 1) := by decide +kernel
theorem dX0_copyFrom_51 : decode cX0_copyFrom 51 = .ok (.getfield 21, 3) := by decide +kernel
theorem dX0_copyFrom_54 : decode cX0_copyFrom 54 = .ok (.iconst 0, 1) := by decide +kernel
theorem dX0_copyFrom_55 : decode cX0_copyFrom 55 = .ok (.bipush 16, 2) := by decide +kernel
theorem dX0_copyFrom_57 : decode cX0_copyFrom 57 = .ok (.invokestatic 56, 3) := by decide +kernel
theorem dX0_copyFrom_60 : decode cX0_copyFrom 60 = .ok (.aload_n 1, 1) := by decide +kernel
theorem dX0_copyFrom_61 : decode cX0_copyFrom 61 = .ok (.getfield 24, 3) := by decide +kernel
theorem dX0_copyFrom_64 : decode cX0_copyFrom 64 = .ok (.iconst 0, 1) := by decide +kernel
theorem dX0_copyFrom_65 : decode cX0_copyFrom 65 = .ok (.aload_n 0, 1) := by decide +kernel
theorem dX0_copyFrom_66 : decode cX0_copyFrom 66 = .ok (.getfield 24, 3) := by decide +kernel
theorem dX0_copyFrom_69 : decode cX0_copyFrom 69 = .ok (.iconst 0, 1) := by decide +kernel
theorem dX0_copyFrom_70 : decode cX0_copyFrom 70 = .ok (.bipush 16, 2) := by decide +kernel
theorem dX0_copyFrom_72 : decode cX0_copyFrom 72 = .ok (.invokestatic 56, 3) := by decide +kernel
theorem dX0_copyFrom_75 : decode cX0_copyFrom 75 = .ok (.aload_n 1, 1) := by decide +kernel
theorem dX0_copyFrom_76 : decode cX0_copyFrom 76 = .ok (.getfield 27, 3) := by decide +kernel
theorem dX0_copyFrom_79 : decode cX0_copyFrom 79 = .ok (.iconst 0, 1) := by decide +kernel
theorem dX0_copyFrom_80 : decode cX0_copyFrom 80 = .ok (.aload_n 0, 1) := by decide +kernel
theorem dX0_copyFrom_81 : decode cX0_copyFrom 81 = .ok (.getfield 27, 3) := by decide +kernel
theorem dX0_copyFrom_84 : decode cX0_copyFrom 84 = .ok (.iconst 0, 1) := by decide +kernel
theorem dX0_copyFrom_85 : decode cX0_copyFrom 85 = .ok (.bipush 16, 2) := by decide +kernel
theorem dX0_copyFrom_87 : decode cX0_copyFrom 87 = .ok (.invokestatic 56, 3) := by decide +kernel
theorem dX0_copyFrom_90 : decode cX0_copyFrom 90 = .ok (.aload_n 0, 1) := by decide +kernel
theorem dX0_copyFrom_91 : decode cX0_copyFrom 91 = .ok (.getfield 34, 3) := by decide +kernel
theorem dX0_copyFrom_94 : decode cX0_copyFrom 94 = .ok (.aload_n 1, 1) := by decide +kernel
theorem dX0_copyFrom_95 : decode cX0_copyFrom 95 = .ok (.getfield 34, 3) := by decide +kernel
theorem dX0_copyFrom_98 : decode cX0_copyFrom 98 = .ok (.invokevirtual 62, 3) := by decide +kernel
theorem dX0_copyFrom_101 : decode cX0_copyFrom 101 = .ok (.aload_n 0, 1) := by decide +kernel
theorem dX0_copyFrom_102 : decode cX0_copyFrom 102 = .ok (.aload_n 1, 1) := by decide +kernel
theorem dX0_copyFrom_103 : decode cX0_copyFrom 103 = .ok (.getfield 45, 3) := by decide +kernel
theorem dX0_copyFrom_106 : decode cX0_copyFrom 106 = .ok (.putfield 45, 3) := by decide +kernel
theorem dX0_copyFrom_109 : decode cX0_copyFrom 109 = .ok (.aload_n 0, 1) := by decide +kernel
theorem dX0_copyFrom_110 : decode cX0_copyFrom 110 = .ok (.aload_n 1, 1) := by decide +kernel
theorem dX0_copyFrom_111 : decode cX0_copyFrom 111 = .ok (.getfield 49, 3) := by decide +kernel
theorem dX0_copyFrom_114 : decode cX0_copyFrom 114 = .ok (.putfield 49, 3) := by decide +kernel
theorem dX0_copyFrom_117 : decode cX0_copyFrom 117 = .ok (.aload_n 0, 1) := by decide +kernel
theorem dX0_copyFrom_118 : decode cX0_copyFrom 118 = .ok (.aload_n 1, 1) := by decide +kernel
theorem dX0_copyFrom_119 : decode cX0_copyFrom 119 = .ok (.getfield 52, 3) := by decide +kernel
theorem dX0_copyFrom_122 : decode cX0_copyFrom 122 = .ok (.putfield 52, 3) := by decide +kernel
theorem dX0_copyFrom_125 : decode cX0_copyFrom 125 = .ok (.return_, 1) := by decide +kernel
theorem dX0_tableBits_0 : decode cX0_tableBits 0 = .ok (.iconst 0, 1) := by decide +kernel
theorem dX0_tableBits_1 : decode cX0_tableBits 1 = .ok (.istore_n 1, 1) := by decide +kernel
theorem dX0_tableBits_2 : decode cX0_tableBits 2 = .ok (.iconst 0, 1) := by decide +kernel
theorem dX0_tableBits_3 : decode cX0_tableBits 3 = .ok (.istore_n 2, 1) := by decide +kernel
theorem dX0_tableBits_4 : decode cX0_tableBits 4 = .ok (.iload_n 2, 1) := by decide +kernel
theorem dX0_tableBits_5 : decode cX0_tableBits 5 = .ok (.bipush 16, 2) := by decide +kernel
theorem dX0_tableBits_7 : decode cX0_tableBits 7 = .ok (.if_icmp .ge 18, 3) := by decide +kernel
theorem dX0_tableBits_10 : decode cX0_tableBits 10 = .ok (.iload_n 1, 1) := by decide +kernel
theorem dX0_tableBits_11 : decode cX0_tableBits 11 = .ok (.aload_n 0, 1) := by decide +kernel
theorem dX0_tableBits_12 : decode cX0_tableBits 12 = .ok (.getfield 21, 3) := by decide +kernel
theorem dX0_tableBits_15 : decode cX0_tableBits 15 = .ok (.iload_n 2, 1) := by decide +kernel
theorem dX0_tableBits_16 : decode cX0_tableBits 16 = .ok (.iaload, 1) := by decide +kernel
theorem dX0_tableBits_17 : decode cX0_tableBits 17 = .ok (.iadd, 1) := by decide +kernel
theorem dX0_tableBits_18 : decode cX0_tableBits 18 = .ok (.istore_n 1, 1) := by decide +kernel
theorem dX0_tableBits_19 : decode cX0_tableBits 19 = .ok (.iinc 2 1, 3) := by decide +kernel
theorem dX0_tableBits_22 : decode cX0_tableBits 22 = .ok (.goto (-18), 3) := by decide +kernel
theorem dX0_tableBits_25 : decode cX0_tableBits 25 = .ok (.iload_n 1, 1) := by decide +kernel
theorem dX0_tableBits_26 : decode cX0_tableBits 26 = .ok (.ireturn, 1) := by decide +kernel
theorem dX0_energySum_0 : decode cX0_energySum 0 = .ok (.lconst 0, 1) := by decide +kernel
theorem dX0_energySum_1 : decode cX0_energySum 1 = .ok (.lstore_n 1, 1) := by decide +kernel
theorem dX0_energySum_2 : decode cX0_energySum 2 = .ok (.iconst 0, 1) := by decide +kernel
theorem dX0_energySum_3 : decode cX0_energySum 3 = .ok (.istore_n 3, 1) := by decide +kernel
theorem dX0_energySum_4 : decode cX0_energySum 4 = .ok (.iload_n 3, 1) := by decide +kernel
theorem dX0_energySum_5 : decode cX0_energySum 5 = .ok (.bipush 16, 2) := by decide +kernel
theorem dX0_energySum_7 : decode cX0_energySum 7 = .ok (.if_icmp .ge 18, 3) := by decide +kernel
theorem dX0_energySum_10 : decode cX0_energySum 10 = .ok (.lload_n 1, 1) := by decide +kernel
theorem dX0_energySum_11 : decode cX0_energySum 11 = .ok (.aload_n 0, 1) := by decide +kernel
theorem dX0_energySum_12 : decode cX0_energySum 12 = .ok (.getfield 27, 3) := by decide +kernel
theorem dX0_energySum_15 : decode cX0_energySum 15 = .ok (.iload_n 3, 1) := by decide +kernel
theorem dX0_energySum_16 : decode cX0_energySum 16 = .ok (.laload, 1) := by decide +kernel
theorem dX0_energySum_17 : decode cX0_energySum 17 = .ok (.ladd, 1) := by decide +kernel
theorem dX0_energySum_18 : decode cX0_energySum 18 = .ok (.lstore_n 1, 1) := by decide +kernel
theorem dX0_energySum_19 : decode cX0_energySum 19 = .ok (.iinc 3 1, 3) := by decide +kernel
theorem dX0_energySum_22 : decode cX0_energySum 22 = .ok (.goto (-18), 3) := by decide +kernel
theorem dX0_energySum_25 : decode cX0_energySum 25 = .ok (.lload_n 1, 1) := by decide +kernel
theorem dX0_energySum_26 : decode cX0_energySum 26 = .ok (.lreturn, 1) := by decide +kernel
theorem dX0_noiseBeside_0 : decode cX0_noiseBeside 0 = .ok (.aload_n 0, 1) := by decide +kernel
theorem dX0_noiseBeside_1 : decode cX0_noiseBeside 1 = .ok (.getfield 9, 3) := by decide +kernel
theorem dX0_noiseBeside_4 : decode cX0_noiseBeside 4 = .ok (.iload_n 2, 1) := by decide +kernel
theorem dX0_noiseBeside_5 : decode cX0_noiseBeside 5 = .ok (.iaload, 1) := by decide +kernel
theorem dX0_noiseBeside_6 : decode cX0_noiseBeside 6 = .ok (.i2l, 1) := by decide +kernel
theorem dX0_noiseBeside_7 : decode cX0_noiseBeside 7 = .ok (.aload_n 0, 1) := by decide +kernel
theorem dX0_noiseBeside_8 : decode cX0_noiseBeside 8 = .ok (.getfield 15, 3) := by decide +kernel
theorem dX0_noiseBeside_11 : decode cX0_noiseBeside 11 = .ok (.iload_n 2, 1) := by decide +kernel
theorem dX0_noiseBeside_12 : decode cX0_noiseBeside 12 = .ok (.iaload, 1) := by decide +kernel
theorem dX0_noiseBeside_13 : decode cX0_noiseBeside 13 = .ok (.i2l, 1) := by decide +kernel
theorem dX0_noiseBeside_14 : decode cX0_noiseBeside 14 = .ok (.aload_n 1, 1) := by decide +kernel
theorem dX0_noiseBeside_15 : decode cX0_noiseBeside 15 = .ok (.getfield 27, 3) := by decide +kernel
theorem dX0_noiseBeside_18 : decode cX0_noiseBeside 18 = .ok (.iload_n 2, 1) := by decide +kernel
theorem dX0_noiseBeside_19 : decode cX0_noiseBeside 19 = .ok (.laload, 1) := by decide +kernel
theorem dX0_noiseBeside_20 : decode cX0_noiseBeside 20 = .ok (.lmul, 1) := by decide +kernel
theorem dX0_noiseBeside_21 : decode cX0_noiseBeside 21 = .ok (.ldc2_w 66, 3) := by decide +kernel
theorem dX0_noiseBeside_24 : decode cX0_noiseBeside 24 = .ok (.ldiv, 1) := by decide +kernel
theorem dX0_noiseBeside_25 : decode cX0_noiseBeside 25 = .ok (.ladd, 1) := by decide +kernel
theorem dX0_noiseBeside_26 : decode cX0_noiseBeside 26 = .ok (.lreturn, 1) := by decide +kernel
set_option maxRecDepth 20000 in
theorem ggX0_needBeside_X0_noiseBeside : GoodIn wsX0_needBeside wsX0_noiseBeside := goodIn_r _ [6, 7, 8, 9, 10, 14, 15, 16, 17, 18, 19, 20, 21, 22, 23] (by decide +kernel) (by decide +kernel)
set_option maxRecDepth 20000 in
theorem gX0_needBeside_X0_noiseBeside : GoodIn wsX0_needBeside (wsV RX0 68 RX0 yX0_noiseBeside wsX0_noiseBeside) := goodIn_app (goodIn_of _ (by decide +kernel)) ggX0_needBeside_X0_noiseBeside
set_option maxRecDepth 20000 in
theorem ggX0_needBeside_X4_needFor : GoodIn wsX0_needBeside wsX4_needFor := goodIn_r _ [13] (by decide +kernel) (by decide +kernel)
set_option maxRecDepth 20000 in
theorem gX0_needBeside_X4_needFor_n72 : GoodIn wsX0_needBeside (wsX4_needFor) := ggX0_needBeside_X4_needFor
theorem dX0_needBeside_0 : decode cX0_needBeside 0 = .ok (.aload_n 0, 1) := by decide +kernel
theorem dX0_needBeside_1 : decode cX0_needBeside 1 = .ok (.getfield 21, 3) := by decide +kernel
theorem dX0_needBeside_4 : decode cX0_needBeside 4 = .ok (.iload_n 2, 1) := by decide +kernel
theorem dX0_needBeside_5 : decode cX0_needBeside 5 = .ok (.iaload, 1) := by decide +kernel
theorem dX0_needBeside_6 : decode cX0_needBeside 6 = .ok (.aload_n 0, 1) := by decide +kernel
theorem dX0_needBeside_7 : decode cX0_needBeside 7 = .ok (.aload_n 1, 1) := by decide +kernel
theorem dX0_needBeside_8 : decode cX0_needBeside 8 = .ok (.iload_n 2, 1) := by decide +kernel
theorem dX0_needBeside_9 : decode cX0_needBeside 9 = .ok (.invokevirtual 68, 3) := by decide +kernel
theorem dX0_needBeside_12 : decode cX0_needBeside 12 = .ok (.invokestatic 72, 3) := by decide +kernel
theorem dX0_needBeside_15 : decode cX0_needBeside 15 = .ok (.lreturn, 1) := by decide +kernel
set_option maxRecDepth 20000 in
theorem ggX0_marginBeside_X0_needBeside : GoodIn wsX0_marginBeside wsX0_needBeside := goodIn_r _ [8, 9, 10, 11, 12, 7, 13, 14, 15, 3, 16, 17, 18, 19, 20, 21, 22, 23, 24, 25, 26, 27, 28, 29] (by decide +kernel) (by decide +kernel)
set_option maxRecDepth 20000 in
theorem gX0_marginBeside_X0_needBeside : GoodIn wsX0_marginBeside (wsV RX0 76 RX0 yX0_needBeside wsX0_needBeside) := goodIn_app (goodIn_of _ (by decide +kernel)) ggX0_marginBeside_X0_needBeside
theorem dX0_marginBeside_0 : decode cX0_marginBeside 0 = .ok (.aload_n 0, 1) := by decide +kernel
theorem dX0_marginBeside_1 : decode cX0_marginBeside 1 = .ok (.aload_n 1, 1) := by decide +kernel
theorem dX0_marginBeside_2 : decode cX0_marginBeside 2 = .ok (.iload_n 2, 1) := by decide +kernel
theorem dX0_marginBeside_3 : decode cX0_marginBeside 3 = .ok (.invokevirtual 76, 3) := by decide +kernel
theorem dX0_marginBeside_6 : decode cX0_marginBeside 6 = .ok (.lstore_n 3, 1) := by decide +kernel
theorem dX0_marginBeside_7 : decode cX0_marginBeside 7 = .ok (.lload_n 3, 1) := by decide +kernel
theorem dX0_marginBeside_8 : decode cX0_marginBeside 8 = .ok (.lconst 1, 1) := by decide +kernel
theorem dX0_marginBeside_9 : decode cX0_marginBeside 9 = .ok (.lcmp, 1) := by decide +kernel
theorem dX0_marginBeside_10 : decode cX0_marginBeside 10 = .ok (.ifCond .ge 9, 3) := by decide +kernel
theorem dX0_marginBeside_13 : decode cX0_marginBeside 13 = .ok (.ldc2_w 79, 3) := by decide +kernel
theorem dX0_marginBeside_16 : decode cX0_marginBeside 16 = .ok (.goto 15, 3) := by decide +kernel
theorem dX0_marginBeside_19 : decode cX0_marginBeside 19 = .ok (.ldc2_w 81, 3) := by decide +kernel
theorem dX0_marginBeside_22 : decode cX0_marginBeside 22 = .ok (.aload_n 0, 1) := by decide +kernel
theorem dX0_marginBeside_23 : decode cX0_marginBeside 23 = .ok (.getfield 27, 3) := by decide +kernel
theorem dX0_marginBeside_26 : decode cX0_marginBeside 26 = .ok (.iload_n 2, 1) := by decide +kernel
theorem dX0_marginBeside_27 : decode cX0_marginBeside 27 = .ok (.laload, 1) := by decide +kernel
theorem dX0_marginBeside_28 : decode cX0_marginBeside 28 = .ok (.lmul, 1) := by decide +kernel
theorem dX0_marginBeside_29 : decode cX0_marginBeside 29 = .ok (.lload_n 3, 1) := by decide +kernel
theorem dX0_marginBeside_30 : decode cX0_marginBeside 30 = .ok (.ldiv, 1) := by decide +kernel
theorem dX0_marginBeside_31 : decode cX0_marginBeside 31 = .ok (.lreturn, 1) := by decide +kernel
set_option maxRecDepth 20000 in
theorem ggX0_weakestTone_X0_marginBeside : GoodIn wsX0_weakestTone wsX0_marginBeside := goodIn_r _ [6, 1, 7, 8, 9, 10, 11, 5, 12, 13, 14, 15, 16, 17, 18, 19, 20, 21, 22, 23, 24, 25, 26, 27, 28, 29, 30, 31, 32, 33] (by decide +kernel) (by decide +kernel)
set_option maxRecDepth 20000 in
theorem gX0_weakestTone_X0_marginBeside : GoodIn wsX0_weakestTone (wsV RX0 83 RX0 yX0_marginBeside wsX0_marginBeside) := goodIn_app (goodIn_of _ (by decide +kernel)) ggX0_weakestTone_X0_marginBeside
theorem dX0_weakestTone_0 : decode cX0_weakestTone 0 = .ok (.iconst (-1), 1) := by decide +kernel
theorem dX0_weakestTone_1 : decode cX0_weakestTone 1 = .ok (.istore_n 2, 1) := by decide +kernel
theorem dX0_weakestTone_2 : decode cX0_weakestTone 2 = .ok (.lconst 0, 1) := by decide +kernel
theorem dX0_weakestTone_3 : decode cX0_weakestTone 3 = .ok (.lstore_n 3, 1) := by decide +kernel
theorem dX0_weakestTone_4 : decode cX0_weakestTone 4 = .ok (.iconst 0, 1) := by decide +kernel
theorem dX0_weakestTone_5 : decode cX0_weakestTone 5 = .ok (.istore 5, 2) := by decide +kernel
theorem dX0_weakestTone_7 : decode cX0_weakestTone 7 = .ok (.iload 5, 2) := by decide +kernel
theorem dX0_weakestTone_9 : decode cX0_weakestTone 9 = .ok (.bipush 16, 2) := by decide +kernel
theorem dX0_weakestTone_11 : decode cX0_weakestTone 11 = .ok (.if_icmp .ge 44, 3) := by decide +kernel
theorem dX0_weakestTone_14 : decode cX0_weakestTone 14 = .ok (.aload_n 0, 1) := by decide +kernel
theorem dX0_weakestTone_15 : decode cX0_weakestTone 15 = .ok (.aload_n 1, 1) := by decide +kernel
theorem dX0_weakestTone_16 : decode cX0_weakestTone 16 = .ok (.iload 5, 2) := by decide +kernel
theorem dX0_weakestTone_18 : decode cX0_weakestTone 18 = .ok (.invokevirtual 83, 3) := by decide +kernel
theorem dX0_weakestTone_21 : decode cX0_weakestTone 21 = .ok (.lstore 6, 2) := by decide +kernel
theorem dX0_weakestTone_23 : decode cX0_weakestTone 23 = .ok (.lload 6, 2) := by decide +kernel
theorem dX0_weakestTone_25 : decode cX0_weakestTone 25 = .ok (.ldc2_w 79, 3) := by decide +kernel
theorem dX0_weakestTone_28 : decode cX0_weakestTone 28 = .ok (.lcmp, 1) := by decide +kernel
theorem dX0_weakestTone_29 : decode cX0_weakestTone 29 = .ok (.ifCond .eq 20, 3) := by decide +kernel
theorem dX0_weakestTone_32 : decode cX0_weakestTone 32 = .ok (.iload_n 2, 1) := by decide +kernel
theorem dX0_weakestTone_33 : decode cX0_weakestTone 33 = .ok (.ifCond .lt 10, 3) := by decide +kernel
theorem dX0_weakestTone_36 : decode cX0_weakestTone 36 = .ok (.lload 6, 2) := by decide +kernel
theorem dX0_weakestTone_38 : decode cX0_weakestTone 38 = .ok (.lload_n 3, 1) := by decide +kernel
theorem dX0_weakestTone_39 : decode cX0_weakestTone 39 = .ok (.lcmp, 1) := by decide +kernel
theorem dX0_weakestTone_40 : decode cX0_weakestTone 40 = .ok (.ifCond .ge 9, 3) := by decide +kernel
theorem dX0_weakestTone_43 : decode cX0_weakestTone 43 = .ok (.iload 5, 2) := by decide +kernel
theorem dX0_weakestTone_45 : decode cX0_weakestTone 45 = .ok (.istore_n 2, 1) := by decide +kernel
theorem dX0_weakestTone_46 : decode cX0_weakestTone 46 = .ok (.lload 6, 2) := by decide +kernel
theorem dX0_weakestTone_48 : decode cX0_weakestTone 48 = .ok (.lstore_n 3, 1) := by decide +kernel
theorem dX0_weakestTone_49 : decode cX0_weakestTone 49 = .ok (.iinc 5 1, 3) := by decide +kernel
theorem dX0_weakestTone_52 : decode cX0_weakestTone 52 = .ok (.goto (-45), 3) := by decide +kernel
theorem dX0_weakestTone_55 : decode cX0_weakestTone 55 = .ok (.iload_n 2, 1) := by decide +kernel
theorem dX0_weakestTone_56 : decode cX0_weakestTone 56 = .ok (.ireturn, 1) := by decide +kernel
set_option maxRecDepth 20000 in
theorem ggX0_enterFrame_X3_isDue : GoodIn wsX0_enterFrame wsX3_isDue := goodIn_r _ [15, 16, 17, 60, 61, 62, 63, 64, 65, 66, 67, 68, 69, 70, 71, 72, 73] (by decide +kernel) (by decide +kernel)
set_option maxRecDepth 20000 in
theorem gX0_enterFrame_X3_isDue : GoodIn wsX0_enterFrame (wsV RX0 89 RX3 yX3_isDue wsX3_isDue) := goodIn_app (goodIn_of _ (by decide +kernel)) ggX0_enterFrame_X3_isDue
set_option maxRecDepth 20000 in
theorem ggX0_enterFrame_X0_moveBit : GoodIn wsX0_enterFrame wsX0_moveBit := goodIn_r _ [21, 22, 23, 24] (by decide +kernel) (by decide +kernel)
set_option maxRecDepth 20000 in
theorem gX0_enterFrame_X0_moveBit : GoodIn wsX0_enterFrame (va_wsS RX0 99 yX0_moveBit wsX0_moveBit) := goodIn_app (goodIn_of _ (by decide +kernel)) ggX0_enterFrame_X0_moveBit
set_option maxRecDepth 20000 in
theorem ggX0_enterFrame_X0_renewEnergy : GoodIn wsX0_enterFrame wsX0_renewEnergy := goodIn_r _ [28, 29, 22, 23, 24, 30, 31, 32, 20, 33, 6, 34, 35, 36, 37, 38, 39, 40, 41, 42, 43, 44, 45, 50, 51, 52, 53, 54, 55, 56, 57, 58, 59] (by decide +kernel) (by decide +kernel)
set_option maxRecDepth 20000 in
theorem gX0_enterFrame_X0_renewEnergy : GoodIn wsX0_enterFrame (wsV RX0 109 RX0 yX0_renewEnergy wsX0_renewEnergy) := goodIn_app (goodIn_of _ (by decide +kernel)) ggX0_enterFrame_X0_renewEnergy
set_option maxRecDepth 20000 in
theorem ggX0_enterFrame_X0_endsDiffer : GoodIn wsX0_enterFrame wsX0_endsDiffer := goodIn_r _ [49, 6, 3, 50, 51, 52, 53, 54, 55, 56, 57, 58, 59] (by decide +kernel) (by decide +kernel)
set_option maxRecDepth 20000 in
theorem gX0_enterFrame_X0_endsDiffer : GoodIn wsX0_enterFrame (wsV RX0 116 RX0 yX0_endsDiffer wsX0_endsDiffer) := goodIn_app (goodIn_of _ (by decide +kernel)) ggX0_enterFrame_X0_endsDiffer
theorem dX0_enterFrame_0 : decode cX0_enterFrame 0 = .ok (.aload_n 0, 1) := by decide +kernel
theorem dX0_enterFrame_1 : decode cX0_enterFrame 1 = .ok (.getfield 34, 3) := by decide +kernel
theorem dX0_enterFrame_4 : decode cX0_enterFrame 4 = .ok (.getfield 86, 3) := by decide +kernel
theorem dX0_enterFrame_7 : decode cX0_enterFrame 7 = .ok (.iload_n 1, 1) := by decide +kernel
theorem dX0_enterFrame_8 : decode cX0_enterFrame 8 = .ok (.if_icmp .ne 7, 3) := by decide +kernel
theorem dX0_enterFrame_11 : decode cX0_enterFrame 11 = .ok (.iconst 1, 1) := by decide +kernel
theorem dX0_enterFrame_12 : decode cX0_enterFrame 12 = .ok (.goto 4, 3) := by decide +kernel
theorem dX0_enterFrame_15 : decode cX0_enterFrame 15 = .ok (.iconst 0, 1) := by decide +kernel
theorem dX0_enterFrame_16 : decode cX0_enterFrame 16 = .ok (.istore_n 3, 1) := by decide +kernel
theorem dX0_enterFrame_17 : decode cX0_enterFrame 17 = .ok (.aload_n 0, 1) := by decide +kernel
theorem dX0_enterFrame_18 : decode cX0_enterFrame 18 = .ok (.getfield 34, 3) := by decide +kernel
theorem dX0_enterFrame_21 : decode cX0_enterFrame 21 = .ok (.iload_n 1, 1) := by decide +kernel
theorem dX0_enterFrame_22 : decode cX0_enterFrame 22 = .ok (.invokevirtual 89, 3) := by decide +kernel
theorem dX0_enterFrame_25 : decode cX0_enterFrame 25 = .ok (.istore 4, 2) := by decide +kernel
theorem dX0_enterFrame_27 : decode cX0_enterFrame 27 = .ok (.iload_n 3, 1) := by decide +kernel
theorem dX0_enterFrame_28 : decode cX0_enterFrame 28 = .ok (.ifCond .eq 24, 3) := by decide +kernel
theorem dX0_enterFrame_31 : decode cX0_enterFrame 31 = .ok (.aload_n 0, 1) := by decide +kernel
theorem dX0_enterFrame_32 : decode cX0_enterFrame 32 = .ok (.getfield 24, 3) := by decide +kernel
theorem dX0_enterFrame_35 : decode cX0_enterFrame 35 = .ok (.aload_n 0, 1) := by decide +kernel
theorem dX0_enterFrame_36 : decode cX0_enterFrame 36 = .ok (.getfield 34, 3) := by decide +kernel
theorem dX0_enterFrame_39 : decode cX0_enterFrame 39 = .ok (.getfield 93, 3) := by decide +kernel
theorem dX0_enterFrame_42 : decode cX0_enterFrame 42 = .ok (.aload_n 0, 1) := by decide +kernel
theorem dX0_enterFrame_43 : decode cX0_enterFrame 43 = .ok (.getfield 34, 3) := by decide +kernel
theorem dX0_enterFrame_46 : decode cX0_enterFrame 46 = .ok (.getfield 96, 3) := by decide +kernel
theorem dX0_enterFrame_49 : decode cX0_enterFrame 49 = .ok (.invokestatic 99, 3) := by decide +kernel
theorem dX0_enterFrame_52 : decode cX0_enterFrame 52 = .ok (.iload 4, 2) := by decide +kernel
theorem dX0_enterFrame_54 : decode cX0_enterFrame 54 = .ok (.ifCond .eq 56, 3) := by decide +kernel
theorem dX0_enterFrame_57 : decode cX0_enterFrame 57 = .ok (.aload_n 0, 1) := by decide +kernel
theorem dX0_enterFrame_58 : decode cX0_enterFrame 58 = .ok (.getfield 21, 3) := by decide +kernel
theorem dX0_enterFrame_61 : decode cX0_enterFrame 61 = .ok (.aload_n 0, 1) := by decide +kernel
theorem dX0_enterFrame_62 : decode cX0_enterFrame 62 = .ok (.getfield 34, 3) := by decide +kernel
theorem dX0_enterFrame_65 : decode cX0_enterFrame 65 = .ok (.getfield 103, 3) := by decide +kernel
theorem dX0_enterFrame_68 : decode cX0_enterFrame 68 = .ok (.aload_n 0, 1) := by decide +kernel
theorem dX0_enterFrame_69 : decode cX0_enterFrame 69 = .ok (.getfield 34, 3) := by decide +kernel
theorem dX0_enterFrame_72 : decode cX0_enterFrame 72 = .ok (.getfield 106, 3) := by decide +kernel
theorem dX0_enterFrame_75 : decode cX0_enterFrame 75 = .ok (.invokestatic 99, 3) := by decide +kernel
theorem dX0_enterFrame_78 : decode cX0_enterFrame 78 = .ok (.aload_n 0, 1) := by decide +kernel
theorem dX0_enterFrame_79 : decode cX0_enterFrame 79 = .ok (.aload_n 0, 1) := by decide +kernel
theorem dX0_enterFrame_80 : decode cX0_enterFrame 80 = .ok (.getfield 34, 3) := by decide +kernel
theorem dX0_enterFrame_83 : decode cX0_enterFrame 83 = .ok (.getfield 103, 3) := by decide +kernel
theorem dX0_enterFrame_86 : decode cX0_enterFrame 86 = .ok (.aload_n 2, 1) := by decide +kernel
theorem dX0_enterFrame_87 : decode cX0_enterFrame 87 = .ok (.invokevirtual 109, 3) := by decide +kernel
theorem dX0_enterFrame_90 : decode cX0_enterFrame 90 = .ok (.aload_n 0, 1) := by decide +kernel
theorem dX0_enterFrame_91 : decode cX0_enterFrame 91 = .ok (.aload_n 0, 1) := by decide +kernel
theorem dX0_enterFrame_92 : decode cX0_enterFrame 92 = .ok (.getfield 34, 3) := by decide +kernel
theorem dX0_enterFrame_95 : decode cX0_enterFrame 95 = .ok (.getfield 106, 3) := by decide +kernel
theorem dX0_enterFrame_98 : decode cX0_enterFrame 98 = .ok (.aload_n 2, 1) := by decide +kernel
theorem dX0_enterFrame_99 : decode cX0_enterFrame 99 = .ok (.invokevirtual 109, 3) := by decide +kernel
theorem dX0_enterFrame_102 : decode cX0_enterFrame 102 = .ok (.aload_n 0, 1) := by decide +kernel
theorem dX0_enterFrame_103 : decode cX0_enterFrame 103 = .ok (.getfield 34, 3) := by decide +kernel
theorem dX0_enterFrame_106 : decode cX0_enterFrame 106 = .ok (.iconst 0, 1) := by decide +kernel
theorem dX0_enterFrame_107 : decode cX0_enterFrame 107 = .ok (.putfield 113, 3) := by decide +kernel
theorem dX0_enterFrame_110 : decode cX0_enterFrame 110 = .ok (.iload_n 3, 1) := by decide +kernel
theorem dX0_enterFrame_111 : decode cX0_enterFrame 111 = .ok (.ifCond .ne 8, 3) := by decide +kernel
theorem dX0_enterFrame_114 : decode cX0_enterFrame 114 = .ok (.iload 4, 2) := by decide +kernel
theorem dX0_enterFrame_116 : decode cX0_enterFrame 116 = .ok (.ifCond .eq 11, 3) := by decide +kernel
theorem dX0_enterFrame_119 : decode cX0_enterFrame 119 = .ok (.aload_n 0, 1) := by decide +kernel
theorem dX0_enterFrame_120 : decode cX0_enterFrame 120 = .ok (.aload_n 0, 1) := by decide +kernel
theorem dX0_enterFrame_121 : decode cX0_enterFrame 121 = .ok (.invokevirtual 116, 3) := by decide +kernel
theorem dX0_enterFrame_124 : decode cX0_enterFrame 124 = .ok (.putfield 52, 3) := by decide +kernel
theorem dX0_enterFrame_127 : decode cX0_enterFrame 127 = .ok (.return_, 1) := by decide +kernel
theorem dX0_countFrame_0 : decode cX0_countFrame 0 = .ok (.aload_n 0, 1) := by decide +kernel
theorem dX0_countFrame_1 : decode cX0_countFrame 1 = .ok (.getfield 52, 3) := by decide +kernel
theorem dX0_countFrame_4 : decode cX0_countFrame 4 = .ok (.ifCond .eq 13, 3) := by decide +kernel
theorem dX0_countFrame_7 : decode cX0_countFrame 7 = .ok (.aload_n 0, 1) := by decide +kernel
theorem dX0_countFrame_8 : decode cX0_countFrame 8 = .ok (.dup, 1) := by decide +kernel
theorem dX0_countFrame_9 : decode cX0_countFrame 9 = .ok (.getfield 49, 3) := by decide +kernel
theorem dX0_countFrame_12 : decode cX0_countFrame 12 = .ok (.iconst 1, 1) := by decide +kernel
theorem dX0_countFrame_13 : decode cX0_countFrame 13 = .ok (.iadd, 1) := by decide +kernel
theorem dX0_countFrame_14 : decode cX0_countFrame 14 = .ok (.putfield 49, 3) := by decide +kernel
theorem dX0_countFrame_17 : decode cX0_countFrame 17 = .ok (.return_, 1) := by decide +kernel
set_option maxRecDepth 20000 in
theorem ggX0_renewEnergy_X4_isTone : GoodIn wsX0_renewEnergy wsX4_isTone := goodIn_r _ [4] (by decide +kernel) (by decide +kernel)
set_option maxRecDepth 20000 in
theorem gX0_renewEnergy_X4_isTone_n120 : GoodIn wsX0_renewEnergy (wsX4_isTone) := ggX0_renewEnergy_X4_isTone
set_option maxRecDepth 20000 in
theorem ggX0_renewEnergy_X0_needBeside : GoodIn wsX0_renewEnergy wsX0_needBeside := goodIn_r _ [9, 10, 11, 12, 13, 8, 14, 15, 16, 1, 17, 18, 3, 19, 23, 24, 25, 26, 27, 28, 29, 30, 31, 32] (by decide +kernel) (by decide +kernel)
set_option maxRecDepth 20000 in
theorem gX0_renewEnergy_X0_needBeside : GoodIn wsX0_renewEnergy (wsV RX0 76 RX0 yX0_needBeside wsX0_needBeside) := goodIn_app (goodIn_of _ (by decide +kernel)) ggX0_renewEnergy_X0_needBeside
set_option maxRecDepth 20000 in
theorem ggX0_renewEnergy_X4_cappedEnergy : GoodIn wsX0_renewEnergy wsX4_cappedEnergy := goodIn_r _ [21, 22] (by decide +kernel) (by decide +kernel)
set_option maxRecDepth 20000 in
theorem gX0_renewEnergy_X4_cappedEnergy_n123 : GoodIn wsX0_renewEnergy (wsX4_cappedEnergy) := ggX0_renewEnergy_X4_cappedEnergy
theorem dX0_renewEnergy_0 : decode cX0_renewEnergy 0 = .ok (.iload_n 1, 1) := by decide +kernel
theorem dX0_renewEnergy_1 : decode cX0_renewEnergy 1 = .ok (.invokestatic 120, 3) := by decide +kernel
theorem dX0_renewEnergy_4 : decode cX0_renewEnergy 4 = .ok (.ifCond .eq 18, 3) := by decide +kernel
theorem dX0_renewEnergy_7 : decode cX0_renewEnergy 7 = .ok (.aload_n 0, 1) := by decide +kernel
theorem dX0_renewEnergy_8 : decode cX0_renewEnergy 8 = .ok (.getfield 27, 3) := by decide +kernel
theorem dX0_renewEnergy_11 : decode cX0_renewEnergy 11 = .ok (.iload_n 1, 1) := by decide +kernel
theorem dX0_renewEnergy_12 : decode cX0_renewEnergy 12 = .ok (.aload_n 0, 1) := by decide +kernel
theorem dX0_renewEnergy_13 : decode cX0_renewEnergy 13 = .ok (.aload_n 2, 1) := by decide +kernel
theorem dX0_renewEnergy_14 : decode cX0_renewEnergy 14 = .ok (.iload_n 1, 1) := by decide +kernel
theorem dX0_renewEnergy_15 : decode cX0_renewEnergy 15 = .ok (.invokevirtual 76, 3) := by decide +kernel
theorem dX0_renewEnergy_18 : decode cX0_renewEnergy 18 = .ok (.invokestatic 123, 3) := by decide +kernel
theorem dX0_renewEnergy_21 : decode cX0_renewEnergy 21 = .ok (.lastore, 1) := by decide +kernel
theorem dX0_renewEnergy_22 : decode cX0_renewEnergy 22 = .ok (.return_, 1) := by decide +kernel
theorem dX0_endsDiffer_0 : decode cX0_endsDiffer 0 = .ok (.iconst 0, 1) := by decide +kernel
theorem dX0_endsDiffer_1 : decode cX0_endsDiffer 1 = .ok (.istore_n 1, 1) := by decide +kernel
theorem dX0_endsDiffer_2 : decode cX0_endsDiffer 2 = .ok (.iload_n 1, 1) := by decide +kernel
theorem dX0_endsDiffer_3 : decode cX0_endsDiffer 3 = .ok (.bipush 16, 2) := by decide +kernel
theorem dX0_endsDiffer_5 : decode cX0_endsDiffer 5 = .ok (.if_icmp .ge 26, 3) := by decide +kernel
theorem dX0_endsDiffer_8 : decode cX0_endsDiffer 8 = .ok (.aload_n 0, 1) := by decide +kernel
theorem dX0_endsDiffer_9 : decode cX0_endsDiffer 9 = .ok (.getfield 21, 3) := by decide +kernel
theorem dX0_endsDiffer_12 : decode cX0_endsDiffer 12 = .ok (.iload_n 1, 1) := by decide +kernel
theorem dX0_endsDiffer_13 : decode cX0_endsDiffer 13 = .ok (.iaload, 1) := by decide +kernel
theorem dX0_endsDiffer_14 : decode cX0_endsDiffer 14 = .ok (.aload_n 0, 1) := by decide +kernel
theorem dX0_endsDiffer_15 : decode cX0_endsDiffer 15 = .ok (.getfield 24, 3) := by decide +kernel
theorem dX0_endsDiffer_18 : decode cX0_endsDiffer 18 = .ok (.iload_n 1, 1) := by decide +kernel
theorem dX0_endsDiffer_19 : decode cX0_endsDiffer 19 = .ok (.iaload, 1) := by decide +kernel
theorem dX0_endsDiffer_20 : decode cX0_endsDiffer 20 = .ok (.if_icmp .eq 5, 3) := by decide +kernel
theorem dX0_endsDiffer_23 : decode cX0_endsDiffer 23 = .ok (.iconst 1, 1) := by decide +kernel
theorem dX0_endsDiffer_24 : decode cX0_endsDiffer 24 = .ok (.ireturn, 1) := by decide +kernel
theorem dX0_endsDiffer_25 : decode cX0_endsDiffer 25 = .ok (.iinc 1 1, 3) := by decide +kernel
theorem dX0_endsDiffer_28 : decode cX0_endsDiffer 28 = .ok (.goto (-26), 3) := by decide +kernel
theorem dX0_endsDiffer_31 : decode cX0_endsDiffer 31 = .ok (.iconst 0, 1) := by decide +kernel
theorem dX0_endsDiffer_32 : decode cX0_endsDiffer 32 = .ok (.ireturn, 1) := by decide +kernel
set_option maxRecDepth 20000 in
theorem ggX0_moveBit_X4_isTone : GoodIn wsX0_moveBit wsX4_isTone := goodIn_r _ [3] (by decide +kernel) (by decide +kernel)
set_option maxRecDepth 20000 in
theorem gX0_moveBit_X4_isTone_n120 : GoodIn wsX0_moveBit (wsX4_isTone) := ggX0_moveBit_X4_isTone
theorem dX0_moveBit_0 : decode cX0_moveBit 0 = .ok (.iload_n 1, 1) := by decide +kernel
theorem dX0_moveBit_1 : decode cX0_moveBit 1 = .ok (.invokestatic 120, 3) := by decide +kernel
theorem dX0_moveBit_4 : decode cX0_moveBit 4 = .ok (.ifCond .eq 24, 3) := by decide +kernel
theorem dX0_moveBit_7 : decode cX0_moveBit 7 = .ok (.iload_n 2, 1) := by decide +kernel
theorem dX0_moveBit_8 : decode cX0_moveBit 8 = .ok (.invokestatic 120, 3) := by decide +kernel
theorem dX0_moveBit_11 : decode cX0_moveBit 11 = .ok (.ifCond .eq 17, 3) := by decide +kernel
theorem dX0_moveBit_14 : decode cX0_moveBit 14 = .ok (.aload_n 0, 1) := by decide +kernel
theorem dX0_moveBit_15 : decode cX0_moveBit 15 = .ok (.iload_n 1, 1) := by decide +kernel
theorem dX0_moveBit_16 : decode cX0_moveBit 16 = .ok (.dup2, 1) := by decide +kernel
theorem dX0_moveBit_17 : decode cX0_moveBit 17 = .ok (.iaload, 1) := by decide +kernel
theorem dX0_moveBit_18 : decode cX0_moveBit 18 = .ok (.iconst 1, 1) := by decide +kernel
theorem dX0_moveBit_19 : decode cX0_moveBit 19 = .ok (.isub, 1) := by decide +kernel
theorem dX0_moveBit_20 : decode cX0_moveBit 20 = .ok (.iastore, 1) := by decide +kernel
theorem dX0_moveBit_21 : decode cX0_moveBit 21 = .ok (.aload_n 0, 1) := by decide +kernel
theorem dX0_moveBit_22 : decode cX0_moveBit 22 = .ok (.iload_n 2, 1) := by decide +kernel
theorem dX0_moveBit_23 : decode cX0_moveBit 23 = .ok (.dup2, 1) := by decide +kernel
theorem dX0_moveBit_24 : decode cX0_moveBit 24 = .ok (.iaload, 1) := by decide +kernel
theorem dX0_moveBit_25 : decode cX0_moveBit 25 = .ok (.iconst 1, 1) := by decide +kernel
theorem dX0_moveBit_26 : decode cX0_moveBit 26 = .ok (.iadd, 1) := by decide +kernel
theorem dX0_moveBit_27 : decode cX0_moveBit 27 = .ok (.iastore, 1) := by decide +kernel
theorem dX0_moveBit_28 : decode cX0_moveBit 28 = .ok (.return_, 1) := by decide +kernel
theorem dX1_init_0 : decode cX1_init 0 = .ok (.aload_n 0, 1) := by decide +kernel
theorem dX1_init_1 : decode cX1_init 1 = .ok (.invokespecial 3, 3) := by decide +kernel
theorem dX1_init_4 : decode cX1_init 4 = .ok (.aload_n 0, 1) := by decide +kernel
theorem dX1_init_5 : decode cX1_init 5 = .ok (.bipush 16, 2) := by decide +kernel
theorem dX1_init_7 : decode cX1_init 7 = .ok (.newarray .long, 2) := by decide +kernel
theorem dX1_init_9 : decode cX1_init 9 = .ok (.putfield 9, 3) := by decide +kernel
theorem dX1_init_12 : decode cX1_init 12 = .ok (.aload_n 0, 1) := by decide +kernel
theorem dX1_init_13 : decode cX1_init 13 = .ok (.bipush 16, 2) := by decide +kernel
theorem dX1_init_15 : decode cX1_init 15 = .ok (.newarray .int, 2) := by decide +kernel
theorem dX1_init_17 : decode cX1_init 17 = .ok (.putfield 15, 3) := by decide +kernel
theorem dX1_init_20 : decode cX1_init 20 = .ok (.aload_n 0, 1) := by decide +kernel
theorem dX1_init_21 : decode cX1_init 21 = .ok (.bipush 16, 2) := by decide +kernel
theorem dX1_init_23 : decode cX1_init 23 = .ok (.newarray .int, 2) := by decide +kernel
theorem dX1_init_25 : decode cX1_init 25 = .ok (.putfield 19, 3) := by decide +kernel
theorem dX1_init_28 : decode cX1_init 28 = .ok (.return_, 1) := by decide +kernel
set_option maxRecDepth 20000 in
theorem ggX1_readLine_X0_noiseBeside : GoodIn wsX1_readLine wsX0_noiseBeside := goodIn_r _ [12, 13, 14, 15, 16, 20, 21, 22, 23, 24, 25, 26, 27, 28, 29] (by decide +kernel) (by decide +kernel)
set_option maxRecDepth 20000 in
theorem gX1_readLine_X0_noiseBeside : GoodIn wsX1_readLine (wsV RX1 22 RX0 yX0_noiseBeside wsX0_noiseBeside) := goodIn_app (goodIn_of _ (by decide +kernel)) ggX1_readLine_X0_noiseBeside
theorem dX1_readLine_0 : decode cX1_readLine 0 = .ok (.iconst 0, 1) := by decide +kernel
theorem dX1_readLine_1 : decode cX1_readLine 1 = .ok (.istore_n 3, 1) := by decide +kernel
theorem dX1_readLine_2 : decode cX1_readLine 2 = .ok (.iload_n 3, 1) := by decide +kernel
theorem dX1_readLine_3 : decode cX1_readLine 3 = .ok (.bipush 16, 2) := by decide +kernel
theorem dX1_readLine_5 : decode cX1_readLine 5 = .ok (.if_icmp .ge 21, 3) := by decide +kernel
theorem dX1_readLine_8 : decode cX1_readLine 8 = .ok (.aload_n 0, 1) := by decide +kernel
theorem dX1_readLine_9 : decode cX1_readLine 9 = .ok (.getfield 9, 3) := by decide +kernel
theorem dX1_readLine_12 : decode cX1_readLine 12 = .ok (.iload_n 3, 1) := by decide +kernel
theorem dX1_readLine_13 : decode cX1_readLine 13 = .ok (.aload_n 1, 1) := by decide +kernel
theorem dX1_readLine_14 : decode cX1_readLine 14 = .ok (.aload_n 2, 1) := by decide +kernel
theorem dX1_readLine_15 : decode cX1_readLine 15 = .ok (.iload_n 3, 1) := by decide +kernel
theorem dX1_readLine_16 : decode cX1_readLine 16 = .ok (.invokevirtual 22, 3) := by decide +kernel
theorem dX1_readLine_19 : decode cX1_readLine 19 = .ok (.lastore, 1) := by decide +kernel
theorem dX1_readLine_20 : decode cX1_readLine 20 = .ok (.iinc 3 1, 3) := by decide +kernel
theorem dX1_readLine_23 : decode cX1_readLine 23 = .ok (.goto (-21), 3) := by decide +kernel
theorem dX1_readLine_26 : decode cX1_readLine 26 = .ok (.aload_n 1, 1) := by decide +kernel
theorem dX1_readLine_27 : decode cX1_readLine 27 = .ok (.getfield 28, 3) := by decide +kernel
theorem dX1_readLine_30 : decode cX1_readLine 30 = .ok (.iconst 0, 1) := by decide +kernel
theorem dX1_readLine_31 : decode cX1_readLine 31 = .ok (.aload_n 0, 1) := by decide +kernel
theorem dX1_readLine_32 : decode cX1_readLine 32 = .ok (.getfield 15, 3) := by decide +kernel
theorem dX1_readLine_35 : decode cX1_readLine 35 = .ok (.iconst 0, 1) := by decide +kernel
theorem dX1_readLine_36 : decode cX1_readLine 36 = .ok (.bipush 16, 2) := by decide +kernel
theorem dX1_readLine_38 : decode cX1_readLine 38 = .ok (.invokestatic 29, 3) := by decide +kernel
theorem dX1_readLine_41 : decode cX1_readLine 41 = .ok (.return_, 1) := by decide +kernel
set_option maxRecDepth 20000 in
theorem ggX1_readTable_X1_readLine : GoodIn wsX1_readTable wsX1_readLine := goodIn_r _ [11, 12, 13, 14, 3, 4, 5, 6, 15, 16, 17, 18, 19, 20, 21, 22, 23, 34, 35, 36, 24, 25, 26, 27, 28, 29, 30, 31, 32, 33] (by decide +kernel) (by decide +kernel)
set_option maxRecDepth 20000 in
theorem gX1_readTable_X1_readLine : GoodIn wsX1_readTable (wsV RX1 35 RX1 yX1_readLine wsX1_readLine) := goodIn_app (goodIn_of _ (by decide +kernel)) ggX1_readTable_X1_readLine
theorem dX1_readTable_0 : decode cX1_readTable 0 = .ok (.aload_n 0, 1) := by decide +kernel
theorem dX1_readTable_1 : decode cX1_readTable 1 = .ok (.aload_n 1, 1) := by decide +kernel
theorem dX1_readTable_2 : decode cX1_readTable 2 = .ok (.aload_n 2, 1) := by decide +kernel
theorem dX1_readTable_3 : decode cX1_readTable 3 = .ok (.invokevirtual 35, 3) := by decide +kernel
theorem dX1_readTable_6 : decode cX1_readTable 6 = .ok (.aload_n 1, 1) := by decide +kernel
theorem dX1_readTable_7 : decode cX1_readTable 7 = .ok (.getfield 39, 3) := by decide +kernel
theorem dX1_readTable_10 : decode cX1_readTable 10 = .ok (.iconst 0, 1) := by decide +kernel
theorem dX1_readTable_11 : decode cX1_readTable 11 = .ok (.aload_n 0, 1) := by decide +kernel
theorem dX1_readTable_12 : decode cX1_readTable 12 = .ok (.getfield 19, 3) := by decide +kernel
theorem dX1_readTable_15 : decode cX1_readTable 15 = .ok (.iconst 0, 1) := by decide +kernel
theorem dX1_readTable_16 : decode cX1_readTable 16 = .ok (.bipush 16, 2) := by decide +kernel
theorem dX1_readTable_18 : decode cX1_readTable 18 = .ok (.invokestatic 29, 3) := by decide +kernel
theorem dX1_readTable_21 : decode cX1_readTable 21 = .ok (.return_, 1) := by decide +kernel
set_option maxRecDepth 20000 in
theorem ggX1_clearBits_J7_fill_53178 : GoodIn wsX1_clearBits wsJ7_fill_53178 := goodIn_r _ [5] (by decide +kernel) (by decide +kernel)
set_option maxRecDepth 20000 in
theorem gX1_clearBits_J7_fill_53178 : GoodIn wsX1_clearBits (va_wsS RX1 42 yJ7_fill_53178 wsJ7_fill_53178) := goodIn_app (goodIn_of _ (by decide +kernel)) ggX1_clearBits_J7_fill_53178
theorem dX1_clearBits_0 : decode cX1_clearBits 0 = .ok (.aload_n 0, 1) := by decide +kernel
theorem dX1_clearBits_1 : decode cX1_clearBits 1 = .ok (.getfield 19, 3) := by decide +kernel
theorem dX1_clearBits_4 : decode cX1_clearBits 4 = .ok (.iconst 0, 1) := by decide +kernel
theorem dX1_clearBits_5 : decode cX1_clearBits 5 = .ok (.invokestatic 42, 3) := by decide +kernel
theorem dX1_clearBits_8 : decode cX1_clearBits 8 = .ok (.return_, 1) := by decide +kernel
set_option maxRecDepth 20000 in
theorem ggX1_fillToBudget_X1_cheapestTone : GoodIn wsX1_fillToBudget wsX1_cheapestTone := goodIn_r _ [6, 1, 7, 8, 9, 10, 5, 11, 12, 13, 14, 15] (by decide +kernel) (by decide +kernel)
set_option maxRecDepth 20000 in
theorem gX1_fillToBudget_X1_cheapestTone : GoodIn wsX1_fillToBudget (wsV RX1 48 RX1 yX1_cheapestTone wsX1_cheapestTone) := goodIn_app (goodIn_of _ (by decide +kernel)) ggX1_fillToBudget_X1_cheapestTone
set_option maxRecDepth 20000 in
theorem ggX1_fillToBudget_X1_stepOf : GoodIn wsX1_fillToBudget wsX1_stepOf := goodIn_r _ [11, 12, 1, 13, 14, 15] (by decide +kernel) (by decide +kernel)
set_option maxRecDepth 20000 in
theorem gX1_fillToBudget_X1_stepOf : GoodIn wsX1_fillToBudget (wsV RX1 52 RX1 yX1_stepOf wsX1_stepOf) := goodIn_app (goodIn_of _ (by decide +kernel)) ggX1_fillToBudget_X1_stepOf
theorem dX1_fillToBudget_0 : decode cX1_fillToBudget 0 = .ok (.lconst 0, 1) := by decide +kernel
theorem dX1_fillToBudget_1 : decode cX1_fillToBudget 1 = .ok (.lstore_n 3, 1) := by decide +kernel
theorem dX1_fillToBudget_2 : decode cX1_fillToBudget 2 = .ok (.iconst 0, 1) := by decide +kernel
theorem dX1_fillToBudget_3 : decode cX1_fillToBudget 3 = .ok (.istore 5, 2) := by decide +kernel
theorem dX1_fillToBudget_5 : decode cX1_fillToBudget 5 = .ok (.iload 5, 2) := by decide +kernel
theorem dX1_fillToBudget_7 : decode cX1_fillToBudget 7 = .ok (.sipush 192, 3) := by decide +kernel
theorem dX1_fillToBudget_10 : decode cX1_fillToBudget 10 = .ok (.if_icmp .ge 49, 3) := by decide +kernel
theorem dX1_fillToBudget_13 : decode cX1_fillToBudget 13 = .ok (.aload_n 0, 1) := by decide +kernel
theorem dX1_fillToBudget_14 : decode cX1_fillToBudget 14 = .ok (.iconst (-1), 1) := by decide +kernel
theorem dX1_fillToBudget_15 : decode cX1_fillToBudget 15 = .ok (.invokevirtual 48, 3) := by decide +kernel
theorem dX1_fillToBudget_18 : decode cX1_fillToBudget 18 = .ok (.istore 6, 2) := by decide +kernel
theorem dX1_fillToBudget_20 : decode cX1_fillToBudget 20 = .ok (.iload 6, 2) := by decide +kernel
theorem dX1_fillToBudget_22 : decode cX1_fillToBudget 22 = .ok (.ifCond .ge 4, 3) := by decide +kernel
theorem dX1_fillToBudget_25 : decode cX1_fillToBudget 25 = .ok (.return_, 1) := by decide +kernel
theorem dX1_fillToBudget_26 : decode cX1_fillToBudget 26 = .ok (.lload_n 3, 1) := by decide +kernel
theorem dX1_fillToBudget_27 : decode cX1_fillToBudget 27 = .ok (.aload_n 0, 1) := by decide +kernel
theorem dX1_fillToBudget_28 : decode cX1_fillToBudget 28 = .ok (.iload 6, 2) := by decide +kernel
theorem dX1_fillToBudget_30 : decode cX1_fillToBudget 30 = .ok (.invokevirtual 52, 3) := by decide +kernel
theorem dX1_fillToBudget_33 : decode cX1_fillToBudget 33 = .ok (.ladd, 1) := by decide +kernel
theorem dX1_fillToBudget_34 : decode cX1_fillToBudget 34 = .ok (.lstore_n 3, 1) := by decide +kernel
theorem dX1_fillToBudget_35 : decode cX1_fillToBudget 35 = .ok (.lload_n 3, 1) := by decide +kernel
theorem dX1_fillToBudget_36 : decode cX1_fillToBudget 36 = .ok (.lload_n 1, 1) := by decide +kernel
theorem dX1_fillToBudget_37 : decode cX1_fillToBudget 37 = .ok (.lcmp, 1) := by decide +kernel
theorem dX1_fillToBudget_38 : decode cX1_fillToBudget 38 = .ok (.ifCond .le 4, 3) := by decide +kernel
theorem dX1_fillToBudget_41 : decode cX1_fillToBudget 41 = .ok (.return_, 1) := by decide +kernel
theorem dX1_fillToBudget_42 : decode cX1_fillToBudget 42 = .ok (.aload_n 0, 1) := by decide +kernel
theorem dX1_fillToBudget_43 : decode cX1_fillToBudget 43 = .ok (.getfield 19, 3) := by decide +kernel
theorem dX1_fillToBudget_46 : decode cX1_fillToBudget 46 = .ok (.iload 6, 2) := by decide +kernel
theorem dX1_fillToBudget_48 : decode cX1_fillToBudget 48 = .ok (.dup2, 1) := by decide +kernel
theorem dX1_fillToBudget_49 : decode cX1_fillToBudget 49 = .ok (.iaload, 1) := by decide +kernel
theorem dX1_fillToBudget_50 : decode cX1_fillToBudget 50 = .ok (.iconst 1, 1) := by decide +kernel
theorem dX1_fillToBudget_51 : decode cX1_fillToBudget 51 = .ok (.iadd, 1) := by decide +kernel
theorem dX1_fillToBudget_52 : decode cX1_fillToBudget 52 = .ok (.iastore, 1) := by decide +kernel
theorem dX1_fillToBudget_53 : decode cX1_fillToBudget 53 = .ok (.iinc 5 1, 3) := by decide +kernel
theorem dX1_fillToBudget_56 : decode cX1_fillToBudget 56 = .ok (.goto (-51), 3) := by decide +kernel
theorem dX1_fillToBudget_59 : decode cX1_fillToBudget 59 = .ok (.return_, 1) := by decide +kernel
set_option maxRecDepth 20000 in
theorem ggX1_fillToTarget_X1_cheapestTone : GoodIn wsX1_fillToTarget wsX1_cheapestTone := goodIn_r _ [6, 1, 7, 8, 9, 10, 5, 11, 12, 13, 14, 15] (by decide +kernel) (by decide +kernel)
set_option maxRecDepth 20000 in
theorem gX1_fillToTarget_X1_cheapestTone : GoodIn wsX1_fillToTarget (wsV RX1 48 RX1 yX1_cheapestTone wsX1_cheapestTone) := goodIn_app (goodIn_of _ (by decide +kernel)) ggX1_fillToTarget_X1_cheapestTone
theorem dX1_fillToTarget_0 : decode cX1_fillToTarget 0 = .ok (.iconst 0, 1) := by decide +kernel
theorem dX1_fillToTarget_1 : decode cX1_fillToTarget 1 = .ok (.istore_n 2, 1) := by decide +kernel
theorem dX1_fillToTarget_2 : decode cX1_fillToTarget 2 = .ok (.iload_n 2, 1) := by decide +kernel
theorem dX1_fillToTarget_3 : decode cX1_fillToTarget 3 = .ok (.iload_n 1, 1) := by decide +kernel
theorem dX1_fillToTarget_4 : decode cX1_fillToTarget 4 = .ok (.if_icmp .ge 31, 3) := by decide +kernel
theorem dX1_fillToTarget_7 : decode cX1_fillToTarget 7 = .ok (.aload_n 0, 1) := by decide +kernel
theorem dX1_fillToTarget_8 : decode cX1_fillToTarget 8 = .ok (.iconst (-1), 1) := by decide +kernel
theorem dX1_fillToTarget_9 : decode cX1_fillToTarget 9 = .ok (.invokevirtual 48, 3) := by decide +kernel
theorem dX1_fillToTarget_12 : decode cX1_fillToTarget 12 = .ok (.istore_n 3, 1) := by decide +kernel
theorem dX1_fillToTarget_13 : decode cX1_fillToTarget 13 = .ok (.iload_n 3, 1) := by decide +kernel
theorem dX1_fillToTarget_14 : decode cX1_fillToTarget 14 = .ok (.ifCond .ge 5, 3) := by decide +kernel
theorem dX1_fillToTarget_17 : decode cX1_fillToTarget 17 = .ok (.iconst 0, 1) := by decide +kernel
theorem dX1_fillToTarget_18 : decode cX1_fillToTarget 18 = .ok (.ireturn, 1) := by decide +kernel
theorem dX1_fillToTarget_19 : decode cX1_fillToTarget 19 = .ok (.aload_n 0, 1) := by decide +kernel
theorem dX1_fillToTarget_20 : decode cX1_fillToTarget 20 = .ok (.getfield 19, 3) := by decide +kernel
theorem dX1_fillToTarget_23 : decode cX1_fillToTarget 23 = .ok (.iload_n 3, 1) := by decide +kernel
theorem dX1_fillToTarget_24 : decode cX1_fillToTarget 24 = .ok (.dup2, 1) := by decide +kernel
theorem dX1_fillToTarget_25 : decode cX1_fillToTarget 25 = .ok (.iaload, 1) := by decide +kernel
theorem dX1_fillToTarget_26 : decode cX1_fillToTarget 26 = .ok (.iconst 1, 1) := by decide +kernel
theorem dX1_fillToTarget_27 : decode cX1_fillToTarget 27 = .ok (.iadd, 1) := by decide +kernel
theorem dX1_fillToTarget_28 : decode cX1_fillToTarget 28 = .ok (.iastore, 1) := by decide +kernel
theorem dX1_fillToTarget_29 : decode cX1_fillToTarget 29 = .ok (.iinc 2 1, 3) := by decide +kernel
theorem dX1_fillToTarget_32 : decode cX1_fillToTarget 32 = .ok (.goto (-30), 3) := by decide +kernel
theorem dX1_fillToTarget_35 : decode cX1_fillToTarget 35 = .ok (.iconst 1, 1) := by decide +kernel
theorem dX1_fillToTarget_36 : decode cX1_fillToTarget 36 = .ok (.ireturn, 1) := by decide +kernel
set_option maxRecDepth 20000 in
theorem ggX1_makeEfficient_X1_dearestTone : GoodIn wsX1_makeEfficient wsX1_dearestTone := goodIn_r _ [6, 1, 7, 8, 9, 5, 10, 11, 25, 26, 27] (by decide +kernel) (by decide +kernel)
set_option maxRecDepth 20000 in
theorem gX1_makeEfficient_X1_dearestTone : GoodIn wsX1_makeEfficient (wsV RX1 56 RX1 yX1_dearestTone wsX1_dearestTone) := goodIn_app (goodIn_of _ (by decide +kernel)) ggX1_makeEfficient_X1_dearestTone
set_option maxRecDepth 20000 in
theorem ggX1_makeEfficient_X1_cheapestTone : GoodIn wsX1_makeEfficient wsX1_cheapestTone := goodIn_r _ [15, 1, 16, 17, 18, 19, 5, 20, 11, 25, 26, 27] (by decide +kernel) (by decide +kernel)
set_option maxRecDepth 20000 in
theorem gX1_makeEfficient_X1_cheapestTone : GoodIn wsX1_makeEfficient (wsV RX1 48 RX1 yX1_cheapestTone wsX1_cheapestTone) := goodIn_app (goodIn_of _ (by decide +kernel)) ggX1_makeEfficient_X1_cheapestTone
set_option maxRecDepth 20000 in
theorem ggX1_makeEfficient_X1_canSave : GoodIn wsX1_makeEfficient wsX1_canSave := goodIn_r _ [24, 7, 8, 9, 5, 10, 11, 1, 17, 18, 19, 20, 25, 26, 27] (by decide +kernel) (by decide +kernel)
set_option maxRecDepth 20000 in
theorem gX1_makeEfficient_X1_canSave : GoodIn wsX1_makeEfficient (wsV RX1 60 RX1 yX1_canSave wsX1_canSave) := goodIn_app (goodIn_of _ (by decide +kernel)) ggX1_makeEfficient_X1_canSave
theorem dX1_makeEfficient_0 : decode cX1_makeEfficient 0 = .ok (.iconst 0, 1) := by decide +kernel
theorem dX1_makeEfficient_1 : decode cX1_makeEfficient 1 = .ok (.istore_n 1, 1) := by decide +kernel
theorem dX1_makeEfficient_2 : decode cX1_makeEfficient 2 = .ok (.iload_n 1, 1) := by decide +kernel
theorem dX1_makeEfficient_3 : decode cX1_makeEfficient 3 = .ok (.sipush 10000, 3) := by decide +kernel
theorem dX1_makeEfficient_6 : decode cX1_makeEfficient 6 = .ok (.if_icmp .ge 59, 3) := by decide +kernel
theorem dX1_makeEfficient_9 : decode cX1_makeEfficient 9 = .ok (.aload_n 0, 1) := by decide +kernel
theorem dX1_makeEfficient_10 : decode cX1_makeEfficient 10 = .ok (.invokevirtual 56, 3) := by decide +kernel
theorem dX1_makeEfficient_13 : decode cX1_makeEfficient 13 = .ok (.istore_n 2, 1) := by decide +kernel
theorem dX1_makeEfficient_14 : decode cX1_makeEfficient 14 = .ok (.aload_n 0, 1) := by decide +kernel
theorem dX1_makeEfficient_15 : decode cX1_makeEfficient 15 = .ok (.iconst (-1), 1) := by decide +kernel
theorem dX1_makeEfficient_16 : decode cX1_makeEfficient 16 = .ok (.invokevirtual 48, 3) := by decide +kernel
theorem dX1_makeEfficient_19 : decode cX1_makeEfficient 19 = .ok (.istore_n 3, 1) := by decide +kernel
theorem dX1_makeEfficient_20 : decode cX1_makeEfficient 20 = .ok (.iload_n 2, 1) := by decide +kernel
theorem dX1_makeEfficient_21 : decode cX1_makeEfficient 21 = .ok (.ifCond .lt 16, 3) := by decide +kernel
theorem dX1_makeEfficient_24 : decode cX1_makeEfficient 24 = .ok (.iload_n 3, 1) := by decide +kernel
theorem dX1_makeEfficient_25 : decode cX1_makeEfficient 25 = .ok (.ifCond .lt 12, 3) := by decide +kernel
theorem dX1_makeEfficient_28 : decode cX1_makeEfficient 28 = .ok (.aload_n 0, 1) := by decide +kernel
theorem dX1_makeEfficient_29 : decode cX1_makeEfficient 29 = .ok (.iload_n 2, 1) := by decide +kernel
theorem dX1_makeEfficient_30 : decode cX1_makeEfficient 30 = .ok (.iload_n 3, 1) := by decide +kernel
theorem dX1_makeEfficient_31 : decode cX1_makeEfficient 31 = .ok (.invokevirtual 60, 3) := by decide +kernel
theorem dX1_makeEfficient_34 : decode cX1_makeEfficient 34 = .ok (.ifCond .ne 5, 3) := by decide +kernel
theorem dX1_makeEfficient_37 : decode cX1_makeEfficient 37 = .ok (.iload_n 1, 1) := by decide +kernel
theorem dX1_makeEfficient_38 : decode cX1_makeEfficient 38 = .ok (.ireturn, 1) := by decide +kernel
theorem dX1_makeEfficient_39 : decode cX1_makeEfficient 39 = .ok (.aload_n 0, 1) := by decide +kernel
theorem dX1_makeEfficient_40 : decode cX1_makeEfficient 40 = .ok (.getfield 19, 3) := by decide +kernel
theorem dX1_makeEfficient_43 : decode cX1_makeEfficient 43 = .ok (.iload_n 2, 1) := by decide +kernel
theorem dX1_makeEfficient_44 : decode cX1_makeEfficient 44 = .ok (.dup2, 1) := by decide +kernel
theorem dX1_makeEfficient_45 : decode cX1_makeEfficient 45 = .ok (.iaload, 1) := by decide +kernel
theorem dX1_makeEfficient_46 : decode cX1_makeEfficient 46 = .ok (.iconst 1, 1) := by decide +kernel
theorem dX1_makeEfficient_47 : decode cX1_makeEfficient 47 = .ok (.isub, 1) := by decide +kernel
theorem dX1_makeEfficient_48 : decode cX1_makeEfficient 48 = .ok (.iastore, 1) := by decide +kernel
theorem dX1_makeEfficient_49 : decode cX1_makeEfficient 49 = .ok (.aload_n 0, 1) := by decide +kernel
theorem dX1_makeEfficient_50 : decode cX1_makeEfficient 50 = .ok (.getfield 19, 3) := by decide +kernel
theorem dX1_makeEfficient_53 : decode cX1_makeEfficient 53 = .ok (.iload_n 3, 1) := by decide +kernel
theorem dX1_makeEfficient_54 : decode cX1_makeEfficient 54 = .ok (.dup2, 1) := by decide +kernel
theorem dX1_makeEfficient_55 : decode cX1_makeEfficient 55 = .ok (.iaload, 1) := by decide +kernel
theorem dX1_makeEfficient_56 : decode cX1_makeEfficient 56 = .ok (.iconst 1, 1) := by decide +kernel
theorem dX1_makeEfficient_57 : decode cX1_makeEfficient 57 = .ok (.iadd, 1) := by decide +kernel
theorem dX1_makeEfficient_58 : decode cX1_makeEfficient 58 = .ok (.iastore, 1) := by decide +kernel
theorem dX1_makeEfficient_59 : decode cX1_makeEfficient 59 = .ok (.iinc 1 1, 3) := by decide +kernel
theorem dX1_makeEfficient_62 : decode cX1_makeEfficient 62 = .ok (.goto (-60), 3) := by decide +kernel
theorem dX1_makeEfficient_65 : decode cX1_makeEfficient 65 = .ok (.iload_n 1, 1) := by decide +kernel
theorem dX1_makeEfficient_66 : decode cX1_makeEfficient 66 = .ok (.ireturn, 1) := by decide +kernel
set_option maxRecDepth 20000 in
theorem ggX1_canSave_X1_lastCostOf : GoodIn wsX1_canSave wsX1_lastCostOf := goodIn_r _ [5, 6, 7, 12, 13, 14] (by decide +kernel) (by decide +kernel)
set_option maxRecDepth 20000 in
theorem gX1_canSave_X1_lastCostOf : GoodIn wsX1_canSave (wsV RX1 64 RX1 yX1_lastCostOf wsX1_lastCostOf) := goodIn_app (goodIn_of _ (by decide +kernel)) ggX1_canSave_X1_lastCostOf
set_option maxRecDepth 20000 in
theorem ggX1_canSave_X1_stepOf : GoodIn wsX1_canSave wsX1_stepOf := goodIn_r _ [11, 6, 7, 12, 13, 14] (by decide +kernel) (by decide +kernel)
set_option maxRecDepth 20000 in
theorem gX1_canSave_X1_stepOf : GoodIn wsX1_canSave (wsV RX1 52 RX1 yX1_stepOf wsX1_stepOf) := goodIn_app (goodIn_of _ (by decide +kernel)) ggX1_canSave_X1_stepOf
theorem dX1_canSave_0 : decode cX1_canSave 0 = .ok (.iload_n 1, 1) := by decide +kernel
theorem dX1_canSave_1 : decode cX1_canSave 1 = .ok (.ifCond .lt 25, 3) := by decide +kernel
theorem dX1_canSave_4 : decode cX1_canSave 4 = .ok (.iload_n 2, 1) := by decide +kernel
theorem dX1_canSave_5 : decode cX1_canSave 5 = .ok (.ifCond .lt 21, 3) := by decide +kernel
theorem dX1_canSave_8 : decode cX1_canSave 8 = .ok (.aload_n 0, 1) := by decide +kernel
theorem dX1_canSave_9 : decode cX1_canSave 9 = .ok (.iload_n 1, 1) := by decide +kernel
theorem dX1_canSave_10 : decode cX1_canSave 10 = .ok (.invokevirtual 64, 3) := by decide +kernel
theorem dX1_canSave_13 : decode cX1_canSave 13 = .ok (.aload_n 0, 1) := by decide +kernel
theorem dX1_canSave_14 : decode cX1_canSave 14 = .ok (.iload_n 2, 1) := by decide +kernel
theorem dX1_canSave_15 : decode cX1_canSave 15 = .ok (.invokevirtual 52, 3) := by decide +kernel
theorem dX1_canSave_18 : decode cX1_canSave 18 = .ok (.lcmp, 1) := by decide +kernel
theorem dX1_canSave_19 : decode cX1_canSave 19 = .ok (.ifCond .le 7, 3) := by decide +kernel
theorem dX1_canSave_22 : decode cX1_canSave 22 = .ok (.iconst 1, 1) := by decide +kernel
theorem dX1_canSave_23 : decode cX1_canSave 23 = .ok (.goto 4, 3) := by decide +kernel
theorem dX1_canSave_26 : decode cX1_canSave 26 = .ok (.iconst 0, 1) := by decide +kernel
theorem dX1_canSave_27 : decode cX1_canSave 27 = .ok (.ireturn, 1) := by decide +kernel
set_option maxRecDepth 20000 in
theorem ggX1_cheapestTone_X1_stepOf : GoodIn wsX1_cheapestTone wsX1_stepOf := goodIn_r _ [7, 8, 1, 9, 10, 11] (by decide +kernel) (by decide +kernel)
set_option maxRecDepth 20000 in
theorem gX1_cheapestTone_X1_stepOf : GoodIn wsX1_cheapestTone (wsV RX1 52 RX1 yX1_stepOf wsX1_stepOf) := goodIn_app (goodIn_of _ (by decide +kernel)) ggX1_cheapestTone_X1_stepOf
theorem dX1_cheapestTone_0 : decode cX1_cheapestTone 0 = .ok (.iconst (-1), 1) := by decide +kernel
theorem dX1_cheapestTone_1 : decode cX1_cheapestTone 1 = .ok (.istore_n 2, 1) := by decide +kernel
theorem dX1_cheapestTone_2 : decode cX1_cheapestTone 2 = .ok (.lconst 0, 1) := by decide +kernel
theorem dX1_cheapestTone_3 : decode cX1_cheapestTone 3 = .ok (.lstore_n 3, 1) := by decide +kernel
theorem dX1_cheapestTone_4 : decode cX1_cheapestTone 4 = .ok (.iconst 0, 1) := by decide +kernel
theorem dX1_cheapestTone_5 : decode cX1_cheapestTone 5 = .ok (.istore 5, 2) := by decide +kernel
theorem dX1_cheapestTone_7 : decode cX1_cheapestTone 7 = .ok (.iload 5, 2) := by decide +kernel
theorem dX1_cheapestTone_9 : decode cX1_cheapestTone 9 = .ok (.bipush 16, 2) := by decide +kernel
theorem dX1_cheapestTone_11 : decode cX1_cheapestTone 11 = .ok (.if_icmp .ge 57, 3) := by decide +kernel
theorem dX1_cheapestTone_14 : decode cX1_cheapestTone 14 = .ok (.iload 5, 2) := by decide +kernel
theorem dX1_cheapestTone_16 : decode cX1_cheapestTone 16 = .ok (.iload_n 1, 1) := by decide +kernel
theorem dX1_cheapestTone_17 : decode cX1_cheapestTone 17 = .ok (.if_icmp .eq 45, 3) := by decide +kernel
theorem dX1_cheapestTone_20 : decode cX1_cheapestTone 20 = .ok (.aload_n 0, 1) := by decide +kernel
theorem dX1_cheapestTone_21 : decode cX1_cheapestTone 21 = .ok (.getfield 19, 3) := by decide +kernel
theorem dX1_cheapestTone_24 : decode cX1_cheapestTone 24 = .ok (.iload 5, 2) := by decide +kernel
theorem dX1_cheapestTone_26 : decode cX1_cheapestTone 26 = .ok (.iaload, 1) := by decide +kernel
theorem dX1_cheapestTone_27 : decode cX1_cheapestTone 27 = .ok (.aload_n 0, 1) := by decide +kernel
theorem dX1_cheapestTone_28 : decode cX1_cheapestTone 28 = .ok (.getfield 15, 3) := by decide +kernel
theorem dX1_cheapestTone_31 : decode cX1_cheapestTone 31 = .ok (.iload 5, 2) := by decide +kernel
theorem dX1_cheapestTone_33 : decode cX1_cheapestTone 33 = .ok (.iaload, 1) := by decide +kernel
theorem dX1_cheapestTone_34 : decode cX1_cheapestTone 34 = .ok (.if_icmp .ge 28, 3) := by decide +kernel
theorem dX1_cheapestTone_37 : decode cX1_cheapestTone 37 = .ok (.aload_n 0, 1) := by decide +kernel
theorem dX1_cheapestTone_38 : decode cX1_cheapestTone 38 = .ok (.iload 5, 2) := by decide +kernel
theorem dX1_cheapestTone_40 : decode cX1_cheapestTone 40 = .ok (.invokevirtual 52, 3) := by decide +kernel
theorem dX1_cheapestTone_43 : decode cX1_cheapestTone 43 = .ok (.lstore 6, 2) := by decide +kernel
theorem dX1_cheapestTone_45 : decode cX1_cheapestTone 45 = .ok (.iload_n 2, 1) := by decide +kernel
theorem dX1_cheapestTone_46 : decode cX1_cheapestTone 46 = .ok (.ifCond .lt 10, 3) := by decide +kernel
theorem dX1_cheapestTone_49 : decode cX1_cheapestTone 49 = .ok (.lload 6, 2) := by decide +kernel
theorem dX1_cheapestTone_51 : decode cX1_cheapestTone 51 = .ok (.lload_n 3, 1) := by decide +kernel
theorem dX1_cheapestTone_52 : decode cX1_cheapestTone 52 = .ok (.lcmp, 1) := by decide +kernel
theorem dX1_cheapestTone_53 : decode cX1_cheapestTone 53 = .ok (.ifCond .ge 9, 3) := by decide +kernel
theorem dX1_cheapestTone_56 : decode cX1_cheapestTone 56 = .ok (.iload 5, 2) := by decide +kernel
theorem dX1_cheapestTone_58 : decode cX1_cheapestTone 58 = .ok (.istore_n 2, 1) := by decide +kernel
theorem dX1_cheapestTone_59 : decode cX1_cheapestTone 59 = .ok (.lload 6, 2) := by decide +kernel
theorem dX1_cheapestTone_61 : decode cX1_cheapestTone 61 = .ok (.lstore_n 3, 1) := by decide +kernel
theorem dX1_cheapestTone_62 : decode cX1_cheapestTone 62 = .ok (.iinc 5 1, 3) := by decide +kernel
theorem dX1_cheapestTone_65 : decode cX1_cheapestTone 65 = .ok (.goto (-58), 3) := by decide +kernel
theorem dX1_cheapestTone_68 : decode cX1_cheapestTone 68 = .ok (.iload_n 2, 1) := by decide +kernel
theorem dX1_cheapestTone_69 : decode cX1_cheapestTone 69 = .ok (.ireturn, 1) := by decide +kernel
set_option maxRecDepth 20000 in
theorem ggX1_dearestTone_X1_lastCostOf : GoodIn wsX1_dearestTone wsX1_lastCostOf := goodIn_r _ [6, 7, 1, 8, 9, 10] (by decide +kernel) (by decide +kernel)
set_option maxRecDepth 20000 in
theorem gX1_dearestTone_X1_lastCostOf : GoodIn wsX1_dearestTone (wsV RX1 64 RX1 yX1_lastCostOf wsX1_lastCostOf) := goodIn_app (goodIn_of _ (by decide +kernel)) ggX1_dearestTone_X1_lastCostOf
theorem dX1_dearestTone_0 : decode cX1_dearestTone 0 = .ok (.iconst (-1), 1) := by decide +kernel
theorem dX1_dearestTone_1 : decode cX1_dearestTone 1 = .ok (.istore_n 1, 1) := by decide +kernel
theorem dX1_dearestTone_2 : decode cX1_dearestTone 2 = .ok (.lconst 0, 1) := by decide +kernel
theorem dX1_dearestTone_3 : decode cX1_dearestTone 3 = .ok (.lstore_n 2, 1) := by decide +kernel
theorem dX1_dearestTone_4 : decode cX1_dearestTone 4 = .ok (.iconst 0, 1) := by decide +kernel
theorem dX1_dearestTone_5 : decode cX1_dearestTone 5 = .ok (.istore 4, 2) := by decide +kernel
theorem dX1_dearestTone_7 : decode cX1_dearestTone 7 = .ok (.iload 4, 2) := by decide +kernel
theorem dX1_dearestTone_9 : decode cX1_dearestTone 9 = .ok (.bipush 16, 2) := by decide +kernel
theorem dX1_dearestTone_11 : decode cX1_dearestTone 11 = .ok (.if_icmp .ge 40, 3) := by decide +kernel
theorem dX1_dearestTone_14 : decode cX1_dearestTone 14 = .ok (.aload_n 0, 1) := by decide +kernel
theorem dX1_dearestTone_15 : decode cX1_dearestTone 15 = .ok (.getfield 19, 3) := by decide +kernel
theorem dX1_dearestTone_18 : decode cX1_dearestTone 18 = .ok (.iload 4, 2) := by decide +kernel
theorem dX1_dearestTone_20 : decode cX1_dearestTone 20 = .ok (.iaload, 1) := by decide +kernel
theorem dX1_dearestTone_21 : decode cX1_dearestTone 21 = .ok (.ifCond .le 24, 3) := by decide +kernel
theorem dX1_dearestTone_24 : decode cX1_dearestTone 24 = .ok (.aload_n 0, 1) := by decide +kernel
theorem dX1_dearestTone_25 : decode cX1_dearestTone 25 = .ok (.iload 4, 2) := by decide +kernel
theorem dX1_dearestTone_27 : decode cX1_dearestTone 27 = .ok (.invokevirtual 64, 3) := by decide +kernel
theorem dX1_dearestTone_30 : decode cX1_dearestTone 30 = .ok (.lstore 5, 2) := by decide +kernel
theorem dX1_dearestTone_32 : decode cX1_dearestTone 32 = .ok (.lload 5, 2) := by decide +kernel
theorem dX1_dearestTone_34 : decode cX1_dearestTone 34 = .ok (.lload_n 2, 1) := by decide +kernel
theorem dX1_dearestTone_35 : decode cX1_dearestTone 35 = .ok (.lcmp, 1) := by decide +kernel
theorem dX1_dearestTone_36 : decode cX1_dearestTone 36 = .ok (.ifCond .lt 9, 3) := by decide +kernel
theorem dX1_dearestTone_39 : decode cX1_dearestTone 39 = .ok (.iload 4, 2) := by decide +kernel
theorem dX1_dearestTone_41 : decode cX1_dearestTone 41 = .ok (.istore_n 1, 1) := by decide +kernel
theorem dX1_dearestTone_42 : decode cX1_dearestTone 42 = .ok (.lload 5, 2) := by decide +kernel
theorem dX1_dearestTone_44 : decode cX1_dearestTone 44 = .ok (.lstore_n 2, 1) := by decide +kernel
theorem dX1_dearestTone_45 : decode cX1_dearestTone 45 = .ok (.iinc 4 1, 3) := by decide +kernel
theorem dX1_dearestTone_48 : decode cX1_dearestTone 48 = .ok (.goto (-41), 3) := by decide +kernel
theorem dX1_dearestTone_51 : decode cX1_dearestTone 51 = .ok (.iload_n 1, 1) := by decide +kernel
theorem dX1_dearestTone_52 : decode cX1_dearestTone 52 = .ok (.ireturn, 1) := by decide +kernel
set_option maxRecDepth 20000 in
theorem ggX1_settle_X4_needFor : GoodIn wsX1_settle wsX4_needFor := goodIn_r _ [10] (by decide +kernel) (by decide +kernel)
set_option maxRecDepth 20000 in
theorem gX1_settle_X4_needFor_n67 : GoodIn wsX1_settle (wsX4_needFor) := ggX1_settle_X4_needFor
set_option maxRecDepth 20000 in
theorem ggX1_settle_X4_cappedEnergy : GoodIn wsX1_settle wsX4_cappedEnergy := goodIn_r _ [12, 13] (by decide +kernel) (by decide +kernel)
set_option maxRecDepth 20000 in
theorem gX1_settle_X4_cappedEnergy_n71 : GoodIn wsX1_settle (wsX4_cappedEnergy) := ggX1_settle_X4_cappedEnergy
set_option maxRecDepth 20000 in
theorem ggX1_settle_X3_dropAll : GoodIn wsX1_settle wsX3_dropAll := goodIn_r _ [18, 19, 20, 21, 22, 23, 24, 38, 39, 40, 41, 42, 43, 44, 45, 46, 47, 48, 49, 50, 51] (by decide +kernel) (by decide +kernel)
set_option maxRecDepth 20000 in
theorem gX1_settle_X3_dropAll : GoodIn wsX1_settle (wsV RX1 89 RX3 yX3_dropAll wsX3_dropAll) := goodIn_app (goodIn_of _ (by decide +kernel)) ggX1_settle_X3_dropAll
theorem dX1_settle_0 : decode cX1_settle 0 = .ok (.iconst 0, 1) := by decide +kernel
theorem dX1_settle_1 : decode cX1_settle 1 = .ok (.istore_n 2, 1) := by decide +kernel
theorem dX1_settle_2 : decode cX1_settle 2 = .ok (.iconst 0, 1) := by decide +kernel
theorem dX1_settle_3 : decode cX1_settle 3 = .ok (.istore_n 3, 1) := by decide +kernel
theorem dX1_settle_4 : decode cX1_settle 4 = .ok (.iload_n 3, 1) := by decide +kernel
theorem dX1_settle_5 : decode cX1_settle 5 = .ok (.bipush 16, 2) := by decide +kernel
theorem dX1_settle_7 : decode cX1_settle 7 = .ok (.if_icmp .ge 90, 3) := by decide +kernel
theorem dX1_settle_10 : decode cX1_settle 10 = .ok (.aload_n 0, 1) := by decide +kernel
theorem dX1_settle_11 : decode cX1_settle 11 = .ok (.getfield 19, 3) := by decide +kernel
theorem dX1_settle_14 : decode cX1_settle 14 = .ok (.iload_n 3, 1) := by decide +kernel
theorem dX1_settle_15 : decode cX1_settle 15 = .ok (.iaload, 1) := by decide +kernel
theorem dX1_settle_16 : decode cX1_settle 16 = .ok (.aload_n 0, 1) := by decide +kernel
theorem dX1_settle_17 : decode cX1_settle 17 = .ok (.getfield 9, 3) := by decide +kernel
theorem dX1_settle_20 : decode cX1_settle 20 = .ok (.iload_n 3, 1) := by decide +kernel
theorem dX1_settle_21 : decode cX1_settle 21 = .ok (.laload, 1) := by decide +kernel
theorem dX1_settle_22 : decode cX1_settle 22 = .ok (.invokestatic 67, 3) := by decide +kernel
theorem dX1_settle_25 : decode cX1_settle 25 = .ok (.invokestatic 71, 3) := by decide +kernel
theorem dX1_settle_28 : decode cX1_settle 28 = .ok (.lstore 4, 2) := by decide +kernel
theorem dX1_settle_30 : decode cX1_settle 30 = .ok (.aload_n 1, 1) := by decide +kernel
theorem dX1_settle_31 : decode cX1_settle 31 = .ok (.getfield 39, 3) := by decide +kernel
theorem dX1_settle_34 : decode cX1_settle 34 = .ok (.iload_n 3, 1) := by decide +kernel
theorem dX1_settle_35 : decode cX1_settle 35 = .ok (.iaload, 1) := by decide +kernel
theorem dX1_settle_36 : decode cX1_settle 36 = .ok (.aload_n 0, 1) := by decide +kernel
theorem dX1_settle_37 : decode cX1_settle 37 = .ok (.getfield 19, 3) := by decide +kernel
theorem dX1_settle_40 : decode cX1_settle 40 = .ok (.iload_n 3, 1) := by decide +kernel
theorem dX1_settle_41 : decode cX1_settle 41 = .ok (.iaload, 1) := by decide +kernel
theorem dX1_settle_42 : decode cX1_settle 42 = .ok (.if_icmp .ne 15, 3) := by decide +kernel
theorem dX1_settle_45 : decode cX1_settle 45 = .ok (.aload_n 1, 1) := by decide +kernel
theorem dX1_settle_46 : decode cX1_settle 46 = .ok (.getfield 75, 3) := by decide +kernel
theorem dX1_settle_49 : decode cX1_settle 49 = .ok (.iload_n 3, 1) := by decide +kernel
theorem dX1_settle_50 : decode cX1_settle 50 = .ok (.laload, 1) := by decide +kernel
theorem dX1_settle_51 : decode cX1_settle 51 = .ok (.lload 4, 2) := by decide +kernel
theorem dX1_settle_53 : decode cX1_settle 53 = .ok (.lcmp, 1) := by decide +kernel
theorem dX1_settle_54 : decode cX1_settle 54 = .ok (.ifCond .eq 5, 3) := by decide +kernel
theorem dX1_settle_57 : decode cX1_settle 57 = .ok (.iconst 1, 1) := by decide +kernel
theorem dX1_settle_58 : decode cX1_settle 58 = .ok (.istore_n 2, 1) := by decide +kernel
theorem dX1_settle_59 : decode cX1_settle 59 = .ok (.aload_n 1, 1) := by decide +kernel
theorem dX1_settle_60 : decode cX1_settle 60 = .ok (.getfield 39, 3) := by decide +kernel
theorem dX1_settle_63 : decode cX1_settle 63 = .ok (.iload_n 3, 1) := by decide +kernel
theorem dX1_settle_64 : decode cX1_settle 64 = .ok (.aload_n 0, 1) := by decide +kernel
theorem dX1_settle_65 : decode cX1_settle 65 = .ok (.getfield 19, 3) := by decide +kernel
theorem dX1_settle_68 : decode cX1_settle 68 = .ok (.iload_n 3, 1) := by decide +kernel
theorem dX1_settle_69 : decode cX1_settle 69 = .ok (.iaload, 1) := by decide +kernel
theorem dX1_settle_70 : decode cX1_settle 70 = .ok (.iastore, 1) := by decide +kernel
theorem dX1_settle_71 : decode cX1_settle 71 = .ok (.aload_n 1, 1) := by decide +kernel
theorem dX1_settle_72 : decode cX1_settle 72 = .ok (.getfield 78, 3) := by decide +kernel
theorem dX1_settle_75 : decode cX1_settle 75 = .ok (.iload_n 3, 1) := by decide +kernel
theorem dX1_settle_76 : decode cX1_settle 76 = .ok (.aload_n 0, 1) := by decide +kernel
theorem dX1_settle_77 : decode cX1_settle 77 = .ok (.getfield 19, 3) := by decide +kernel
theorem dX1_settle_80 : decode cX1_settle 80 = .ok (.iload_n 3, 1) := by decide +kernel
theorem dX1_settle_81 : decode cX1_settle 81 = .ok (.iaload, 1) := by decide +kernel
theorem dX1_settle_82 : decode cX1_settle 82 = .ok (.iastore, 1) := by decide +kernel
theorem dX1_settle_83 : decode cX1_settle 83 = .ok (.aload_n 1, 1) := by decide +kernel
theorem dX1_settle_84 : decode cX1_settle 84 = .ok (.getfield 75, 3) := by decide +kernel
theorem dX1_settle_87 : decode cX1_settle 87 = .ok (.iload_n 3, 1) := by decide +kernel
theorem dX1_settle_88 : decode cX1_settle 88 = .ok (.lload 4, 2) := by decide +kernel
theorem dX1_settle_90 : decode cX1_settle 90 = .ok (.lastore, 1) := by decide +kernel
theorem dX1_settle_91 : decode cX1_settle 91 = .ok (.iinc 3 1, 3) := by decide +kernel
theorem dX1_settle_94 : decode cX1_settle 94 = .ok (.goto (-90), 3) := by decide +kernel
theorem dX1_settle_97 : decode cX1_settle 97 = .ok (.aload_n 1, 1) := by decide +kernel
theorem dX1_settle_98 : decode cX1_settle 98 = .ok (.iconst 0, 1) := by decide +kernel
theorem dX1_settle_99 : decode cX1_settle 99 = .ok (.putfield 81, 3) := by decide +kernel
theorem dX1_settle_102 : decode cX1_settle 102 = .ok (.aload_n 1, 1) := by decide +kernel
theorem dX1_settle_103 : decode cX1_settle 103 = .ok (.getfield 85, 3) := by decide +kernel
theorem dX1_settle_106 : decode cX1_settle 106 = .ok (.invokevirtual 89, 3) := by decide +kernel
theorem dX1_settle_109 : decode cX1_settle 109 = .ok (.iload_n 2, 1) := by decide +kernel
theorem dX1_settle_110 : decode cX1_settle 110 = .ok (.ireturn, 1) := by decide +kernel
theorem dX1_stepOf_0 : decode cX1_stepOf 0 = .ok (.aload_n 0, 1) := by decide +kernel
theorem dX1_stepOf_1 : decode cX1_stepOf 1 = .ok (.getfield 9, 3) := by decide +kernel
theorem dX1_stepOf_4 : decode cX1_stepOf 4 = .ok (.iload_n 1, 1) := by decide +kernel
theorem dX1_stepOf_5 : decode cX1_stepOf 5 = .ok (.laload, 1) := by decide +kernel
theorem dX1_stepOf_6 : decode cX1_stepOf 6 = .ok (.aload_n 0, 1) := by decide +kernel
theorem dX1_stepOf_7 : decode cX1_stepOf 7 = .ok (.getfield 19, 3) := by decide +kernel
theorem dX1_stepOf_10 : decode cX1_stepOf 10 = .ok (.iload_n 1, 1) := by decide +kernel
theorem dX1_stepOf_11 : decode cX1_stepOf 11 = .ok (.iaload, 1) := by decide +kernel
theorem dX1_stepOf_12 : decode cX1_stepOf 12 = .ok (.lshl, 1) := by decide +kernel
theorem dX1_stepOf_13 : decode cX1_stepOf 13 = .ok (.lreturn, 1) := by decide +kernel
theorem dX1_lastCostOf_0 : decode cX1_lastCostOf 0 = .ok (.aload_n 0, 1) := by decide +kernel
theorem dX1_lastCostOf_1 : decode cX1_lastCostOf 1 = .ok (.getfield 9, 3) := by decide +kernel
theorem dX1_lastCostOf_4 : decode cX1_lastCostOf 4 = .ok (.iload_n 1, 1) := by decide +kernel
theorem dX1_lastCostOf_5 : decode cX1_lastCostOf 5 = .ok (.laload, 1) := by decide +kernel
theorem dX1_lastCostOf_6 : decode cX1_lastCostOf 6 = .ok (.aload_n 0, 1) := by decide +kernel
theorem dX1_lastCostOf_7 : decode cX1_lastCostOf 7 = .ok (.getfield 19, 3) := by decide +kernel
theorem dX1_lastCostOf_10 : decode cX1_lastCostOf 10 = .ok (.iload_n 1, 1) := by decide +kernel
theorem dX1_lastCostOf_11 : decode cX1_lastCostOf 11 = .ok (.iaload, 1) := by decide +kernel
theorem dX1_lastCostOf_12 : decode cX1_lastCostOf 12 = .ok (.iconst 1, 1) := by decide +kernel
theorem dX1_lastCostOf_13 : decode cX1_lastCostOf 13 = .ok (.isub, 1) := by decide +kernel
theorem dX1_lastCostOf_14 : decode cX1_lastCostOf 14 = .ok (.lshl, 1) := by decide +kernel
theorem dX1_lastCostOf_15 : decode cX1_lastCostOf 15 = .ok (.lreturn, 1) := by decide +kernel
set_option maxRecDepth 20000 in
theorem ggX2_init_X0_init : GoodIn wsX2_init wsX0_init := goodIn_r _ [12, 13, 2, 3, 14, 15, 16, 17, 18, 19, 20, 21, 22, 23, 24, 25, 26, 27, 28, 29, 30, 31, 32, 33, 34, 35, 36, 37, 38, 39, 40, 41, 45, 46, 47, 48, 49, 50, 51, 52, 53, 54, 55, 56, 57, 58, 59, 60, 61, 62, 63, 64, 65, 66, 67, 68] (by decide +kernel) (by decide +kernel)
set_option maxRecDepth 20000 in
theorem gX2_init_X0_init : GoodIn wsX2_init (wsX0_init) := ggX2_init_X0_init
theorem dX2_init_0 : decode cX2_init 0 = .ok (.aload_n 0, 1) := by decide +kernel
theorem dX2_init_1 : decode cX2_init 1 = .ok (.invokespecial 1, 3) := by decide +kernel
theorem dX2_init_4 : decode cX2_init 4 = .ok (.aload_n 0, 1) := by decide +kernel
theorem dX2_init_5 : decode cX2_init 5 = .ok (.iconst 0, 1) := by decide +kernel
theorem dX2_init_6 : decode cX2_init 6 = .ok (.putfield 7, 3) := by decide +kernel
theorem dX2_init_9 : decode cX2_init 9 = .ok (.aload_n 0, 1) := by decide +kernel
theorem dX2_init_10 : decode cX2_init 10 = .ok (.new 13, 3) := by decide +kernel
theorem dX2_init_13 : decode cX2_init 13 = .ok (.dup, 1) := by decide +kernel
theorem dX2_init_14 : decode cX2_init 14 = .ok (.invokespecial 15, 3) := by decide +kernel
theorem dX2_init_17 : decode cX2_init 17 = .ok (.putfield 16, 3) := by decide +kernel
theorem dX2_init_20 : decode cX2_init 20 = .ok (.aload_n 0, 1) := by decide +kernel
theorem dX2_init_21 : decode cX2_init 21 = .ok (.new 13, 3) := by decide +kernel
theorem dX2_init_24 : decode cX2_init 24 = .ok (.dup, 1) := by decide +kernel
theorem dX2_init_25 : decode cX2_init 25 = .ok (.invokespecial 15, 3) := by decide +kernel
theorem dX2_init_28 : decode cX2_init 28 = .ok (.putfield 20, 3) := by decide +kernel
theorem dX2_init_31 : decode cX2_init 31 = .ok (.return_, 1) := by decide +kernel
set_option maxRecDepth 20000 in
theorem ggX2_copyFrom_X0_copyFrom : GoodIn wsX2_copyFrom wsX0_copyFrom := goodIn_r _ [8, 9, 10, 11, 12, 13, 14, 15, 16, 17, 18, 19, 20, 21, 22, 23, 24, 25, 26, 27, 28, 29, 30, 31, 32, 33, 34, 35, 36, 37, 38, 39, 40, 41, 45, 46, 47, 48, 49, 50, 51, 52, 53, 54, 55, 56, 57, 58, 59, 60, 61, 62, 63, 64, 65, 66, 67, 68] (by decide +kernel) (by decide +kernel)
set_option maxRecDepth 20000 in
theorem gX2_copyFrom_X0_copyFrom : GoodIn wsX2_copyFrom (wsV RX2 23 RX0 yX0_copyFrom wsX0_copyFrom) := goodIn_app (goodIn_of _ (by decide +kernel)) ggX2_copyFrom_X0_copyFrom
theorem dX2_copyFrom_0 : decode cX2_copyFrom 0 = .ok (.aload_n 0, 1) := by decide +kernel
theorem dX2_copyFrom_1 : decode cX2_copyFrom 1 = .ok (.aload_n 1, 1) := by decide +kernel
theorem dX2_copyFrom_2 : decode cX2_copyFrom 2 = .ok (.getfield 7, 3) := by decide +kernel
theorem dX2_copyFrom_5 : decode cX2_copyFrom 5 = .ok (.putfield 7, 3) := by decide +kernel
theorem dX2_copyFrom_8 : decode cX2_copyFrom 8 = .ok (.aload_n 0, 1) := by decide +kernel
theorem dX2_copyFrom_9 : decode cX2_copyFrom 9 = .ok (.getfield 16, 3) := by decide +kernel
theorem dX2_copyFrom_12 : decode cX2_copyFrom 12 = .ok (.aload_n 1, 1) := by decide +kernel
theorem dX2_copyFrom_13 : decode cX2_copyFrom 13 = .ok (.getfield 16, 3) := by decide +kernel
theorem dX2_copyFrom_16 : decode cX2_copyFrom 16 = .ok (.invokevirtual 23, 3) := by decide +kernel
theorem dX2_copyFrom_19 : decode cX2_copyFrom 19 = .ok (.aload_n 0, 1) := by decide +kernel
theorem dX2_copyFrom_20 : decode cX2_copyFrom 20 = .ok (.getfield 20, 3) := by decide +kernel
theorem dX2_copyFrom_23 : decode cX2_copyFrom 23 = .ok (.aload_n 1, 1) := by decide +kernel
theorem dX2_copyFrom_24 : decode cX2_copyFrom 24 = .ok (.getfield 20, 3) := by decide +kernel
theorem dX2_copyFrom_27 : decode cX2_copyFrom 27 = .ok (.invokevirtual 23, 3) := by decide +kernel
theorem dX2_copyFrom_30 : decode cX2_copyFrom 30 = .ok (.return_, 1) := by decide +kernel
set_option maxRecDepth 20000 in
theorem ggX2_passFrame_X0_enterFrame : GoodIn wsX2_passFrame wsX0_enterFrame := goodIn_r _ [8, 9, 10, 11, 12, 13, 14, 15, 16, 17, 18, 19, 20, 21, 22, 23, 24, 25, 26, 27, 7, 28, 29, 30, 31, 32, 33, 34, 35, 36, 37, 38, 39, 40, 41, 42, 43, 44, 45, 46, 47, 48, 49, 50, 51, 52, 53, 54, 55, 56, 65, 66, 67, 68, 69, 70, 71, 72, 73, 74, 75, 76, 77, 78, 79, 80, 81, 82, 83, 84, 85, 86, 87, 88] (by decide +kernel) (by decide +kernel)
set_option maxRecDepth 20000 in
theorem gX2_passFrame_X0_enterFrame : GoodIn wsX2_passFrame (wsV RX2 27 RX0 yX0_enterFrame wsX0_enterFrame) := goodIn_app (goodIn_of _ (by decide +kernel)) ggX2_passFrame_X0_enterFrame
set_option maxRecDepth 20000 in
theorem ggX2_passFrame_X0_countFrame : GoodIn wsX2_passFrame wsX0_countFrame := goodIn_r _ [60, 18, 61, 65, 66, 67, 68, 69, 70, 71, 72, 73, 74] (by decide +kernel) (by decide +kernel)
set_option maxRecDepth 20000 in
theorem gX2_passFrame_X0_countFrame : GoodIn wsX2_passFrame (wsV RX2 31 RX0 yX0_countFrame wsX0_countFrame) := goodIn_app (goodIn_of _ (by decide +kernel)) ggX2_passFrame_X0_countFrame
theorem dX2_passFrame_0 : decode cX2_passFrame 0 = .ok (.aload_n 0, 1) := by decide +kernel
theorem dX2_passFrame_1 : decode cX2_passFrame 1 = .ok (.dup, 1) := by decide +kernel
theorem dX2_passFrame_2 : decode cX2_passFrame 2 = .ok (.getfield 7, 3) := by decide +kernel
theorem dX2_passFrame_5 : decode cX2_passFrame 5 = .ok (.iconst 1, 1) := by decide +kernel
theorem dX2_passFrame_6 : decode cX2_passFrame 6 = .ok (.iadd, 1) := by decide +kernel
theorem dX2_passFrame_7 : decode cX2_passFrame 7 = .ok (.putfield 7, 3) := by decide +kernel
theorem dX2_passFrame_10 : decode cX2_passFrame 10 = .ok (.aload_n 0, 1) := by decide +kernel
theorem dX2_passFrame_11 : decode cX2_passFrame 11 = .ok (.getfield 16, 3) := by decide +kernel
theorem dX2_passFrame_14 : decode cX2_passFrame 14 = .ok (.aload_n 0, 1) := by decide +kernel
theorem dX2_passFrame_15 : decode cX2_passFrame 15 = .ok (.getfield 7, 3) := by decide +kernel
theorem dX2_passFrame_18 : decode cX2_passFrame 18 = .ok (.aload_n 0, 1) := by decide +kernel
theorem dX2_passFrame_19 : decode cX2_passFrame 19 = .ok (.getfield 20, 3) := by decide +kernel
theorem dX2_passFrame_22 : decode cX2_passFrame 22 = .ok (.invokevirtual 27, 3) := by decide +kernel
theorem dX2_passFrame_25 : decode cX2_passFrame 25 = .ok (.aload_n 0, 1) := by decide +kernel
theorem dX2_passFrame_26 : decode cX2_passFrame 26 = .ok (.getfield 20, 3) := by decide +kernel
theorem dX2_passFrame_29 : decode cX2_passFrame 29 = .ok (.aload_n 0, 1) := by decide +kernel
theorem dX2_passFrame_30 : decode cX2_passFrame 30 = .ok (.getfield 7, 3) := by decide +kernel
theorem dX2_passFrame_33 : decode cX2_passFrame 33 = .ok (.aload_n 0, 1) := by decide +kernel
theorem dX2_passFrame_34 : decode cX2_passFrame 34 = .ok (.getfield 16, 3) := by decide +kernel
theorem dX2_passFrame_37 : decode cX2_passFrame 37 = .ok (.invokevirtual 27, 3) := by decide +kernel
theorem dX2_passFrame_40 : decode cX2_passFrame 40 = .ok (.aload_n 0, 1) := by decide +kernel
theorem dX2_passFrame_41 : decode cX2_passFrame 41 = .ok (.getfield 16, 3) := by decide +kernel
theorem dX2_passFrame_44 : decode cX2_passFrame 44 = .ok (.invokevirtual 31, 3) := by decide +kernel
theorem dX2_passFrame_47 : decode cX2_passFrame 47 = .ok (.aload_n 0, 1) := by decide +kernel
theorem dX2_passFrame_48 : decode cX2_passFrame 48 = .ok (.getfield 20, 3) := by decide +kernel
theorem dX2_passFrame_51 : decode cX2_passFrame 51 = .ok (.invokevirtual 31, 3) := by decide +kernel
theorem dX2_passFrame_54 : decode cX2_passFrame 54 = .ok (.return_, 1) := by decide +kernel
theorem dX3_init_0 : decode cX3_init 0 = .ok (.aload_n 0, 1) := by decide +kernel
theorem dX3_init_1 : decode cX3_init 1 = .ok (.invokespecial 3, 3) := by decide +kernel
theorem dX3_init_4 : decode cX3_init 4 = .ok (.aload_n 0, 1) := by decide +kernel
theorem dX3_init_5 : decode cX3_init 5 = .ok (.iconst (-1), 1) := by decide +kernel
theorem dX3_init_6 : decode cX3_init 6 = .ok (.putfield 9, 3) := by decide +kernel
theorem dX3_init_9 : decode cX3_init 9 = .ok (.aload_n 0, 1) := by decide +kernel
theorem dX3_init_10 : decode cX3_init 10 = .ok (.iconst (-1), 1) := by decide +kernel
theorem dX3_init_11 : decode cX3_init 11 = .ok (.putfield 15, 3) := by decide +kernel
theorem dX3_init_14 : decode cX3_init 14 = .ok (.aload_n 0, 1) := by decide +kernel
theorem dX3_init_15 : decode cX3_init 15 = .ok (.iconst (-1), 1) := by decide +kernel
theorem dX3_init_16 : decode cX3_init 16 = .ok (.putfield 18, 3) := by decide +kernel
theorem dX3_init_19 : decode cX3_init 19 = .ok (.aload_n 0, 1) := by decide +kernel
theorem dX3_init_20 : decode cX3_init 20 = .ok (.iconst (-1), 1) := by decide +kernel
theorem dX3_init_21 : decode cX3_init 21 = .ok (.putfield 21, 3) := by decide +kernel
theorem dX3_init_24 : decode cX3_init 24 = .ok (.return_, 1) := by decide +kernel
theorem dX3_copyFrom_0 : decode cX3_copyFrom 0 = .ok (.aload_n 0, 1) := by decide +kernel
theorem dX3_copyFrom_1 : decode cX3_copyFrom 1 = .ok (.aload_n 1, 1) := by decide +kernel
theorem dX3_copyFrom_2 : decode cX3_copyFrom 2 = .ok (.getfield 24, 3) := by decide +kernel
theorem dX3_copyFrom_5 : decode cX3_copyFrom 5 = .ok (.putfield 24, 3) := by decide +kernel
theorem dX3_copyFrom_8 : decode cX3_copyFrom 8 = .ok (.aload_n 0, 1) := by decide +kernel
theorem dX3_copyFrom_9 : decode cX3_copyFrom 9 = .ok (.aload_n 1, 1) := by decide +kernel
theorem dX3_copyFrom_10 : decode cX3_copyFrom 10 = .ok (.getfield 27, 3) := by decide +kernel
theorem dX3_copyFrom_13 : decode cX3_copyFrom 13 = .ok (.putfield 27, 3) := by decide +kernel
theorem dX3_copyFrom_16 : decode cX3_copyFrom 16 = .ok (.aload_n 0, 1) := by decide +kernel
theorem dX3_copyFrom_17 : decode cX3_copyFrom 17 = .ok (.aload_n 1, 1) := by decide +kernel
theorem dX3_copyFrom_18 : decode cX3_copyFrom 18 = .ok (.getfield 31, 3) := by decide +kernel
theorem dX3_copyFrom_21 : decode cX3_copyFrom 21 = .ok (.putfield 31, 3) := by decide +kernel
theorem dX3_copyFrom_24 : decode cX3_copyFrom 24 = .ok (.aload_n 0, 1) := by decide +kernel
theorem dX3_copyFrom_25 : decode cX3_copyFrom 25 = .ok (.aload_n 1, 1) := by decide +kernel
theorem dX3_copyFrom_26 : decode cX3_copyFrom 26 = .ok (.getfield 34, 3) := by decide +kernel
theorem dX3_copyFrom_29 : decode cX3_copyFrom 29 = .ok (.putfield 34, 3) := by decide +kernel
theorem dX3_copyFrom_32 : decode cX3_copyFrom 32 = .ok (.aload_n 0, 1) := by decide +kernel
theorem dX3_copyFrom_33 : decode cX3_copyFrom 33 = .ok (.aload_n 1, 1) := by decide +kernel
theorem dX3_copyFrom_34 : decode cX3_copyFrom 34 = .ok (.getfield 37, 3) := by decide +kernel
theorem dX3_copyFrom_37 : decode cX3_copyFrom 37 = .ok (.putfield 37, 3) := by decide +kernel
theorem dX3_copyFrom_40 : decode cX3_copyFrom 40 = .ok (.aload_n 0, 1) := by decide +kernel
theorem dX3_copyFrom_41 : decode cX3_copyFrom 41 = .ok (.aload_n 1, 1) := by decide +kernel
theorem dX3_copyFrom_42 : decode cX3_copyFrom 42 = .ok (.getfield 9, 3) := by decide +kernel
theorem dX3_copyFrom_45 : decode cX3_copyFrom 45 = .ok (.putfield 9, 3) := by decide +kernel
theorem dX3_copyFrom_48 : decode cX3_copyFrom 48 = .ok (.aload_n 0, 1) := by decide +kernel
theorem dX3_copyFrom_49 : decode cX3_copyFrom 49 = .ok (.aload_n 1, 1) := by decide +kernel
theorem dX3_copyFrom_50 : decode cX3_copyFrom 50 = .ok (.getfield 40, 3) := by decide +kernel
theorem dX3_copyFrom_53 : decode cX3_copyFrom 53 = .ok (.putfield 40, 3) := by decide +kernel
theorem dX3_copyFrom_56 : decode cX3_copyFrom 56 = .ok (.aload_n 0, 1) := by decide +kernel
theorem dX3_copyFrom_57 : decode cX3_copyFrom 57 = .ok (.aload_n 1, 1) := by decide +kernel
theorem dX3_copyFrom_58 : decode cX3_copyFrom 58 = .ok (.getfield 43, 3) := by decide +kernel
theorem dX3_copyFrom_61 : decode cX3_copyFrom 61 = .ok (.putfield 43, 3) := by decide +kernel
theorem dX3_copyFrom_64 : decode cX3_copyFrom 64 = .ok (.aload_n 0, 1) := by decide +kernel
theorem dX3_copyFrom_65 : decode cX3_copyFrom 65 = .ok (.aload_n 1, 1) := by decide +kernel
theorem dX3_copyFrom_66 : decode cX3_copyFrom 66 = .ok (.getfield 46, 3) := by decide +kernel
theorem dX3_copyFrom_69 : decode cX3_copyFrom 69 = .ok (.putfield 46, 3) := by decide +kernel
theorem dX3_copyFrom_72 : decode cX3_copyFrom 72 = .ok (.aload_n 0, 1) := by decide +kernel
theorem dX3_copyFrom_73 : decode cX3_copyFrom 73 = .ok (.aload_n 1, 1) := by decide +kernel
theorem dX3_copyFrom_74 : decode cX3_copyFrom 74 = .ok (.getfield 15, 3) := by decide +kernel
theorem dX3_copyFrom_77 : decode cX3_copyFrom 77 = .ok (.putfield 15, 3) := by decide +kernel
theorem dX3_copyFrom_80 : decode cX3_copyFrom 80 = .ok (.aload_n 0, 1) := by decide +kernel
theorem dX3_copyFrom_81 : decode cX3_copyFrom 81 = .ok (.aload_n 1, 1) := by decide +kernel
theorem dX3_copyFrom_82 : decode cX3_copyFrom 82 = .ok (.getfield 18, 3) := by decide +kernel
theorem dX3_copyFrom_85 : decode cX3_copyFrom 85 = .ok (.putfield 18, 3) := by decide +kernel
theorem dX3_copyFrom_88 : decode cX3_copyFrom 88 = .ok (.aload_n 0, 1) := by decide +kernel
theorem dX3_copyFrom_89 : decode cX3_copyFrom 89 = .ok (.aload_n 1, 1) := by decide +kernel
theorem dX3_copyFrom_90 : decode cX3_copyFrom 90 = .ok (.getfield 21, 3) := by decide +kernel
theorem dX3_copyFrom_93 : decode cX3_copyFrom 93 = .ok (.putfield 21, 3) := by decide +kernel
theorem dX3_copyFrom_96 : decode cX3_copyFrom 96 = .ok (.aload_n 0, 1) := by decide +kernel
theorem dX3_copyFrom_97 : decode cX3_copyFrom 97 = .ok (.aload_n 1, 1) := by decide +kernel
theorem dX3_copyFrom_98 : decode cX3_copyFrom 98 = .ok (.getfield 49, 3) := by decide +kernel
theorem dX3_copyFrom_101 : decode cX3_copyFrom 101 = .ok (.putfield 49, 3) := by decide +kernel
theorem dX3_copyFrom_104 : decode cX3_copyFrom 104 = .ok (.aload_n 0, 1) := by decide +kernel
theorem dX3_copyFrom_105 : decode cX3_copyFrom 105 = .ok (.aload_n 1, 1) := by decide +kernel
theorem dX3_copyFrom_106 : decode cX3_copyFrom 106 = .ok (.getfield 52, 3) := by decide +kernel
theorem dX3_copyFrom_109 : decode cX3_copyFrom 109 = .ok (.putfield 52, 3) := by decide +kernel
theorem dX3_copyFrom_112 : decode cX3_copyFrom 112 = .ok (.return_, 1) := by decide +kernel
theorem dX3_dropAll_0 : decode cX3_dropAll 0 = .ok (.aload_n 0, 1) := by decide +kernel
theorem dX3_dropAll_1 : decode cX3_dropAll 1 = .ok (.iconst 0, 1) := by decide +kernel
theorem dX3_dropAll_2 : decode cX3_dropAll 2 = .ok (.putfield 24, 3) := by decide +kernel
theorem dX3_dropAll_5 : decode cX3_dropAll 5 = .ok (.aload_n 0, 1) := by decide +kernel
theorem dX3_dropAll_6 : decode cX3_dropAll 6 = .ok (.iconst 0, 1) := by decide +kernel
theorem dX3_dropAll_7 : decode cX3_dropAll 7 = .ok (.putfield 27, 3) := by decide +kernel
theorem dX3_dropAll_10 : decode cX3_dropAll 10 = .ok (.aload_n 0, 1) := by decide +kernel
theorem dX3_dropAll_11 : decode cX3_dropAll 11 = .ok (.iconst 0, 1) := by decide +kernel
theorem dX3_dropAll_12 : decode cX3_dropAll 12 = .ok (.putfield 40, 3) := by decide +kernel
theorem dX3_dropAll_15 : decode cX3_dropAll 15 = .ok (.aload_n 0, 1) := by decide +kernel
theorem dX3_dropAll_16 : decode cX3_dropAll 16 = .ok (.iconst 0, 1) := by decide +kernel
theorem dX3_dropAll_17 : decode cX3_dropAll 17 = .ok (.putfield 43, 3) := by decide +kernel
theorem dX3_dropAll_20 : decode cX3_dropAll 20 = .ok (.aload_n 0, 1) := by decide +kernel
theorem dX3_dropAll_21 : decode cX3_dropAll 21 = .ok (.iconst (-1), 1) := by decide +kernel
theorem dX3_dropAll_22 : decode cX3_dropAll 22 = .ok (.putfield 18, 3) := by decide +kernel
theorem dX3_dropAll_25 : decode cX3_dropAll 25 = .ok (.aload_n 0, 1) := by decide +kernel
theorem dX3_dropAll_26 : decode cX3_dropAll 26 = .ok (.iconst (-1), 1) := by decide +kernel
theorem dX3_dropAll_27 : decode cX3_dropAll 27 = .ok (.putfield 21, 3) := by decide +kernel
theorem dX3_dropAll_30 : decode cX3_dropAll 30 = .ok (.return_, 1) := by decide +kernel
set_option maxRecDepth 20000 in
theorem ggX3_openRequest_J9_floorMod_7cf53 : GoodIn wsX3_openRequest wsJ9_floorMod_7cf53 := goodIn_r _ [11] (by decide +kernel) (by decide +kernel)
set_option maxRecDepth 20000 in
theorem gX3_openRequest_J9_floorMod_7cf53 : GoodIn wsX3_openRequest (va_wsS RX3 55 yJ9_floorMod_7cf53 wsJ9_floorMod_7cf53) := goodIn_app (goodIn_of _ (by decide +kernel)) ggX3_openRequest_J9_floorMod_7cf53
theorem dX3_openRequest_0 : decode cX3_openRequest 0 = .ok (.aload_n 0, 1) := by decide +kernel
theorem dX3_openRequest_1 : decode cX3_openRequest 1 = .ok (.iconst 1, 1) := by decide +kernel
theorem dX3_openRequest_2 : decode cX3_openRequest 2 = .ok (.putfield 27, 3) := by decide +kernel
theorem dX3_openRequest_5 : decode cX3_openRequest 5 = .ok (.aload_n 0, 1) := by decide +kernel
theorem dX3_openRequest_6 : decode cX3_openRequest 6 = .ok (.aload_n 0, 1) := by decide +kernel
theorem dX3_openRequest_7 : decode cX3_openRequest 7 = .ok (.getfield 24, 3) := by decide +kernel
theorem dX3_openRequest_10 : decode cX3_openRequest 10 = .ok (.putfield 31, 3) := by decide +kernel
theorem dX3_openRequest_13 : decode cX3_openRequest 13 = .ok (.aload_n 0, 1) := by decide +kernel
theorem dX3_openRequest_14 : decode cX3_openRequest 14 = .ok (.iload_n 1, 1) := by decide +kernel
theorem dX3_openRequest_15 : decode cX3_openRequest 15 = .ok (.putfield 34, 3) := by decide +kernel
theorem dX3_openRequest_18 : decode cX3_openRequest 18 = .ok (.aload_n 0, 1) := by decide +kernel
theorem dX3_openRequest_19 : decode cX3_openRequest 19 = .ok (.iload_n 2, 1) := by decide +kernel
theorem dX3_openRequest_20 : decode cX3_openRequest 20 = .ok (.putfield 37, 3) := by decide +kernel
theorem dX3_openRequest_23 : decode cX3_openRequest 23 = .ok (.aload_n 0, 1) := by decide +kernel
theorem dX3_openRequest_24 : decode cX3_openRequest 24 = .ok (.iconst (-1), 1) := by decide +kernel
theorem dX3_openRequest_25 : decode cX3_openRequest 25 = .ok (.putfield 9, 3) := by decide +kernel
theorem dX3_openRequest_28 : decode cX3_openRequest 28 = .ok (.aload_n 0, 1) := by decide +kernel
theorem dX3_openRequest_29 : decode cX3_openRequest 29 = .ok (.iconst 1, 1) := by decide +kernel
theorem dX3_openRequest_30 : decode cX3_openRequest 30 = .ok (.putfield 40, 3) := by decide +kernel
theorem dX3_openRequest_33 : decode cX3_openRequest 33 = .ok (.aload_n 0, 1) := by decide +kernel
theorem dX3_openRequest_34 : decode cX3_openRequest 34 = .ok (.aload_n 0, 1) := by decide +kernel
theorem dX3_openRequest_35 : decode cX3_openRequest 35 = .ok (.getfield 24, 3) := by decide +kernel
theorem dX3_openRequest_38 : decode cX3_openRequest 38 = .ok (.iconst 1, 1) := by decide +kernel
theorem dX3_openRequest_39 : decode cX3_openRequest 39 = .ok (.iadd, 1) := by decide +kernel
theorem dX3_openRequest_40 : decode cX3_openRequest 40 = .ok (.bipush 8, 2) := by decide +kernel
theorem dX3_openRequest_42 : decode cX3_openRequest 42 = .ok (.invokestatic 55, 3) := by decide +kernel
theorem dX3_openRequest_45 : decode cX3_openRequest 45 = .ok (.putfield 24, 3) := by decide +kernel
theorem dX3_openRequest_48 : decode cX3_openRequest 48 = .ok (.aload_n 0, 1) := by decide +kernel
theorem dX3_openRequest_49 : decode cX3_openRequest 49 = .ok (.getfield 31, 3) := by decide +kernel
theorem dX3_openRequest_52 : decode cX3_openRequest 52 = .ok (.ireturn, 1) := by decide +kernel
theorem dX3_answerRequest_0 : decode cX3_answerRequest 0 = .ok (.aload_n 0, 1) := by decide +kernel
theorem dX3_answerRequest_1 : decode cX3_answerRequest 1 = .ok (.getfield 18, 3) := by decide +kernel
theorem dX3_answerRequest_4 : decode cX3_answerRequest 4 = .ok (.aload_n 0, 1) := by decide +kernel
theorem dX3_answerRequest_5 : decode cX3_answerRequest 5 = .ok (.getfield 31, 3) := by decide +kernel
theorem dX3_answerRequest_8 : decode cX3_answerRequest 8 = .ok (.if_icmp .eq 35, 3) := by decide +kernel
theorem dX3_answerRequest_11 : decode cX3_answerRequest 11 = .ok (.aload_n 0, 1) := by decide +kernel
theorem dX3_answerRequest_12 : decode cX3_answerRequest 12 = .ok (.aload_n 0, 1) := by decide +kernel
theorem dX3_answerRequest_13 : decode cX3_answerRequest 13 = .ok (.getfield 31, 3) := by decide +kernel
theorem dX3_answerRequest_16 : decode cX3_answerRequest 16 = .ok (.putfield 18, 3) := by decide +kernel
theorem dX3_answerRequest_19 : decode cX3_answerRequest 19 = .ok (.aload_n 0, 1) := by decide +kernel
theorem dX3_answerRequest_20 : decode cX3_answerRequest 20 = .ok (.iload_n 1, 1) := by decide +kernel
theorem dX3_answerRequest_21 : decode cX3_answerRequest 21 = .ok (.bipush 8, 2) := by decide +kernel
theorem dX3_answerRequest_23 : decode cX3_answerRequest 23 = .ok (.iadd, 1) := by decide +kernel
theorem dX3_answerRequest_24 : decode cX3_answerRequest 24 = .ok (.putfield 21, 3) := by decide +kernel
theorem dX3_answerRequest_27 : decode cX3_answerRequest 27 = .ok (.aload_n 0, 1) := by decide +kernel
theorem dX3_answerRequest_28 : decode cX3_answerRequest 28 = .ok (.aload_n 0, 1) := by decide +kernel
theorem dX3_answerRequest_29 : decode cX3_answerRequest 29 = .ok (.getfield 34, 3) := by decide +kernel
theorem dX3_answerRequest_32 : decode cX3_answerRequest 32 = .ok (.putfield 49, 3) := by decide +kernel
theorem dX3_answerRequest_35 : decode cX3_answerRequest 35 = .ok (.aload_n 0, 1) := by decide +kernel
theorem dX3_answerRequest_36 : decode cX3_answerRequest 36 = .ok (.aload_n 0, 1) := by decide +kernel
theorem dX3_answerRequest_37 : decode cX3_answerRequest 37 = .ok (.getfield 37, 3) := by decide +kernel
theorem dX3_answerRequest_40 : decode cX3_answerRequest 40 = .ok (.putfield 52, 3) := by decide +kernel
theorem dX3_answerRequest_43 : decode cX3_answerRequest 43 = .ok (.aload_n 0, 1) := by decide +kernel
theorem dX3_answerRequest_44 : decode cX3_answerRequest 44 = .ok (.iconst 1, 1) := by decide +kernel
theorem dX3_answerRequest_45 : decode cX3_answerRequest 45 = .ok (.putfield 43, 3) := by decide +kernel
theorem dX3_answerRequest_48 : decode cX3_answerRequest 48 = .ok (.aload_n 0, 1) := by decide +kernel
theorem dX3_answerRequest_49 : decode cX3_answerRequest 49 = .ok (.aload_n 0, 1) := by decide +kernel
theorem dX3_answerRequest_50 : decode cX3_answerRequest 50 = .ok (.getfield 18, 3) := by decide +kernel
theorem dX3_answerRequest_53 : decode cX3_answerRequest 53 = .ok (.putfield 46, 3) := by decide +kernel
theorem dX3_answerRequest_56 : decode cX3_answerRequest 56 = .ok (.aload_n 0, 1) := by decide +kernel
theorem dX3_answerRequest_57 : decode cX3_answerRequest 57 = .ok (.aload_n 0, 1) := by decide +kernel
theorem dX3_answerRequest_58 : decode cX3_answerRequest 58 = .ok (.getfield 21, 3) := by decide +kernel
theorem dX3_answerRequest_61 : decode cX3_answerRequest 61 = .ok (.putfield 15, 3) := by decide +kernel
theorem dX3_answerRequest_64 : decode cX3_answerRequest 64 = .ok (.aload_n 0, 1) := by decide +kernel
theorem dX3_answerRequest_65 : decode cX3_answerRequest 65 = .ok (.getfield 15, 3) := by decide +kernel
theorem dX3_answerRequest_68 : decode cX3_answerRequest 68 = .ok (.ireturn, 1) := by decide +kernel
theorem dX3_noteAnswer_0 : decode cX3_noteAnswer 0 = .ok (.aload_n 0, 1) := by decide +kernel
theorem dX3_noteAnswer_1 : decode cX3_noteAnswer 1 = .ok (.getfield 27, 3) := by decide +kernel
theorem dX3_noteAnswer_4 : decode cX3_noteAnswer 4 = .ok (.ifCond .eq 14, 3) := by decide +kernel
theorem dX3_noteAnswer_7 : decode cX3_noteAnswer 7 = .ok (.aload_n 0, 1) := by decide +kernel
theorem dX3_noteAnswer_8 : decode cX3_noteAnswer 8 = .ok (.getfield 46, 3) := by decide +kernel
theorem dX3_noteAnswer_11 : decode cX3_noteAnswer 11 = .ok (.aload_n 0, 1) := by decide +kernel
theorem dX3_noteAnswer_12 : decode cX3_noteAnswer 12 = .ok (.getfield 31, 3) := by decide +kernel
theorem dX3_noteAnswer_15 : decode cX3_noteAnswer 15 = .ok (.if_icmp .eq 5, 3) := by decide +kernel
theorem dX3_noteAnswer_18 : decode cX3_noteAnswer 18 = .ok (.iconst (-1), 1) := by decide +kernel
theorem dX3_noteAnswer_19 : decode cX3_noteAnswer 19 = .ok (.ireturn, 1) := by decide +kernel
theorem dX3_noteAnswer_20 : decode cX3_noteAnswer 20 = .ok (.aload_n 0, 1) := by decide +kernel
theorem dX3_noteAnswer_21 : decode cX3_noteAnswer 21 = .ok (.aload_n 0, 1) := by decide +kernel
theorem dX3_noteAnswer_22 : decode cX3_noteAnswer 22 = .ok (.getfield 15, 3) := by decide +kernel
theorem dX3_noteAnswer_25 : decode cX3_noteAnswer 25 = .ok (.putfield 9, 3) := by decide +kernel
theorem dX3_noteAnswer_28 : decode cX3_noteAnswer 28 = .ok (.aload_n 0, 1) := by decide +kernel
theorem dX3_noteAnswer_29 : decode cX3_noteAnswer 29 = .ok (.getfield 9, 3) := by decide +kernel
theorem dX3_noteAnswer_32 : decode cX3_noteAnswer 32 = .ok (.ireturn, 1) := by decide +kernel
theorem dX3_isDue_0 : decode cX3_isDue 0 = .ok (.aload_n 0, 1) := by decide +kernel
theorem dX3_isDue_1 : decode cX3_isDue 1 = .ok (.getfield 27, 3) := by decide +kernel
theorem dX3_isDue_4 : decode cX3_isDue 4 = .ok (.ifCond .eq 23, 3) := by decide +kernel
theorem dX3_isDue_7 : decode cX3_isDue 7 = .ok (.aload_n 0, 1) := by decide +kernel
theorem dX3_isDue_8 : decode cX3_isDue 8 = .ok (.getfield 9, 3) := by decide +kernel
theorem dX3_isDue_11 : decode cX3_isDue 11 = .ok (.iconst (-1), 1) := by decide +kernel
theorem dX3_isDue_12 : decode cX3_isDue 12 = .ok (.if_icmp .eq 15, 3) := by decide +kernel
theorem dX3_isDue_15 : decode cX3_isDue 15 = .ok (.aload_n 0, 1) := by decide +kernel
theorem dX3_isDue_16 : decode cX3_isDue 16 = .ok (.getfield 9, 3) := by decide +kernel
theorem dX3_isDue_19 : decode cX3_isDue 19 = .ok (.iload_n 1, 1) := by decide +kernel
theorem dX3_isDue_20 : decode cX3_isDue 20 = .ok (.if_icmp .gt 7, 3) := by decide +kernel
theorem dX3_isDue_23 : decode cX3_isDue 23 = .ok (.iconst 1, 1) := by decide +kernel
theorem dX3_isDue_24 : decode cX3_isDue 24 = .ok (.goto 4, 3) := by decide +kernel
theorem dX3_isDue_27 : decode cX3_isDue 27 = .ok (.iconst 0, 1) := by decide +kernel
theorem dX3_isDue_28 : decode cX3_isDue 28 = .ok (.ireturn, 1) := by decide +kernel
set_option maxRecDepth 20000 in
theorem ggX4_init_X2_init : GoodIn wsX4_init wsX2_init := goodIn_r _ [17, 18, 2, 3, 19, 20, 21, 22, 23, 24, 25, 26, 27, 28, 29, 30, 31, 32, 33, 34, 35, 36, 37, 38, 39, 40, 41, 42, 43, 44, 45, 46, 47, 48, 49, 50, 51, 52, 53, 54, 55, 56, 64, 65, 66, 75, 76, 77, 78, 79, 80, 81, 82, 83, 84, 85, 86, 87, 88, 89, 90, 91, 92, 93, 94, 95, 96, 97, 98] (by decide +kernel) (by decide +kernel)
set_option maxRecDepth 20000 in
theorem gX4_init_X2_init : GoodIn wsX4_init (wsX2_init) := ggX4_init_X2_init
set_option maxRecDepth 20000 in
theorem ggX4_init_X1_init : GoodIn wsX4_init wsX1_init := goodIn_r _ [59, 60, 2, 3, 35, 61, 29, 62, 63, 72, 73, 74] (by decide +kernel) (by decide +kernel)
set_option maxRecDepth 20000 in
theorem gX4_init_X1_init : GoodIn wsX4_init (wsX1_init) := ggX4_init_X1_init
theorem dX4_init_0 : decode cX4_init 0 = .ok (.aload_n 0, 1) := by decide +kernel
theorem dX4_init_1 : decode cX4_init 1 = .ok (.invokespecial 3, 3) := by decide +kernel
theorem dX4_init_4 : decode cX4_init 4 = .ok (.aload_n 0, 1) := by decide +kernel
theorem dX4_init_5 : decode cX4_init 5 = .ok (.new 9, 3) := by decide +kernel
theorem dX4_init_8 : decode cX4_init 8 = .ok (.dup, 1) := by decide +kernel
theorem dX4_init_9 : decode cX4_init 9 = .ok (.invokespecial 11, 3) := by decide +kernel
theorem dX4_init_12 : decode cX4_init 12 = .ok (.putfield 12, 3) := by decide +kernel
theorem dX4_init_15 : decode cX4_init 15 = .ok (.aload_n 0, 1) := by decide +kernel
theorem dX4_init_16 : decode cX4_init 16 = .ok (.iconst 4, 1) := by decide +kernel
theorem dX4_init_17 : decode cX4_init 17 = .ok (.anewarray 9, 3) := by decide +kernel
theorem dX4_init_20 : decode cX4_init 20 = .ok (.putfield 16, 3) := by decide +kernel
theorem dX4_init_23 : decode cX4_init 23 = .ok (.iconst 0, 1) := by decide +kernel
theorem dX4_init_24 : decode cX4_init 24 = .ok (.istore_n 1, 1) := by decide +kernel
theorem dX4_init_25 : decode cX4_init 25 = .ok (.iload_n 1, 1) := by decide +kernel
theorem dX4_init_26 : decode cX4_init 26 = .ok (.iconst 4, 1) := by decide +kernel
theorem dX4_init_27 : decode cX4_init 27 = .ok (.if_icmp .ge 22, 3) := by decide +kernel
theorem dX4_init_30 : decode cX4_init 30 = .ok (.aload_n 0, 1) := by decide +kernel
theorem dX4_init_31 : decode cX4_init 31 = .ok (.getfield 16, 3) := by decide +kernel
theorem dX4_init_34 : decode cX4_init 34 = .ok (.iload_n 1, 1) := by decide +kernel
theorem dX4_init_35 : decode cX4_init 35 = .ok (.new 9, 3) := by decide +kernel
theorem dX4_init_38 : decode cX4_init 38 = .ok (.dup, 1) := by decide +kernel
theorem dX4_init_39 : decode cX4_init 39 = .ok (.invokespecial 11, 3) := by decide +kernel
theorem dX4_init_42 : decode cX4_init 42 = .ok (.aastore, 1) := by decide +kernel
theorem dX4_init_43 : decode cX4_init 43 = .ok (.iinc 1 1, 3) := by decide +kernel
theorem dX4_init_46 : decode cX4_init 46 = .ok (.goto (-21), 3) := by decide +kernel
theorem dX4_init_49 : decode cX4_init 49 = .ok (.aload_n 0, 1) := by decide +kernel
theorem dX4_init_50 : decode cX4_init 50 = .ok (.iconst 0, 1) := by decide +kernel
theorem dX4_init_51 : decode cX4_init 51 = .ok (.putfield 20, 3) := by decide +kernel
theorem dX4_init_54 : decode cX4_init 54 = .ok (.aload_n 0, 1) := by decide +kernel
theorem dX4_init_55 : decode cX4_init 55 = .ok (.iconst 0, 1) := by decide +kernel
theorem dX4_init_56 : decode cX4_init 56 = .ok (.putfield 24, 3) := by decide +kernel
theorem dX4_init_59 : decode cX4_init 59 = .ok (.aload_n 0, 1) := by decide +kernel
theorem dX4_init_60 : decode cX4_init 60 = .ok (.new 27, 3) := by decide +kernel
theorem dX4_init_63 : decode cX4_init 63 = .ok (.dup, 1) := by decide +kernel
theorem dX4_init_64 : decode cX4_init 64 = .ok (.invokespecial 29, 3) := by decide +kernel
theorem dX4_init_67 : decode cX4_init 67 = .ok (.putfield 30, 3) := by decide +kernel
theorem dX4_init_70 : decode cX4_init 70 = .ok (.return_, 1) := by decide +kernel
set_option maxRecDepth 20000 in
theorem ggX4_setNoise_X4_pairAt : GoodIn wsX4_setNoise wsX4_pairAt := goodIn_ca (goodIn_r _ [6, 7, 8, 9, 10, 11, 90, 91, 92, 93, 94, 95, 96, 97] (by decide +kernel) (by decide +kernel)) (goodIn_sub (fun _ h => List.mem_cons_of_mem _ (List.mem_append_left _ (List.mem_append_right _ h))) (by decide +kernel))
set_option maxRecDepth 20000 in
theorem gX4_setNoise_X4_pairAt : GoodIn wsX4_setNoise (wsV RX4 34 RX4 yX4_pairAt wsX4_pairAt) := goodIn_app (goodIn_of _ (by decide +kernel)) ggX4_setNoise_X4_pairAt
set_option maxRecDepth 20000 in
theorem ggX4_setNoise_X4_checkTone : GoodIn wsX4_setNoise wsX4_checkTone := goodIn_ca (goodIn_r _ [14, 7, 8, 15, 16, 5, 17] (by decide +kernel) (by decide +kernel)) (goodIn_sub (fun _ h => List.mem_cons_of_mem _ (List.mem_append_left _ (List.mem_append_right _ h))) (by decide +kernel))
set_option maxRecDepth 20000 in
theorem gX4_setNoise_X4_checkTone : GoodIn wsX4_setNoise (va_wsS RX4 38 yX4_checkTone wsX4_checkTone) := goodIn_app (goodIn_of _ (by decide +kernel)) ggX4_setNoise_X4_checkTone
set_option maxRecDepth 20000 in
theorem ggX4_setNoise_X4_checkRange : GoodIn wsX4_setNoise wsX4_checkRange := goodIn_ca (goodIn_r _ [20, 21, 22] (by decide +kernel) (by decide +kernel)) (goodIn_sub (fun _ h => List.mem_cons_of_mem _ (List.mem_append_right _ h)) (by decide +kernel))
set_option maxRecDepth 20000 in
theorem gX4_setNoise_X4_checkRange : GoodIn wsX4_setNoise (va_wsS RX4 42 yX4_checkRange wsX4_checkRange) := goodIn_app (goodIn_of _ (by decide +kernel)) ggX4_setNoise_X4_checkRange
set_option maxRecDepth 20000 in
theorem ggX4_setNoise_X4_saveState : GoodIn wsX4_setNoise wsX4_saveState := goodIn_r _ [26, 27, 28, 9, 29, 30, 31, 32, 33, 34, 35, 36, 37, 38, 39, 40, 41, 42, 43, 44, 45, 46, 47, 48, 49, 50, 51, 52, 53, 54, 55, 56, 57, 58, 59, 60, 61, 62, 63, 64, 65, 66, 67, 68, 69, 70, 71, 72, 73, 74, 75, 76, 77, 78, 79, 90, 91, 92, 93, 94, 95, 96, 97, 80, 81, 82, 83, 84, 85, 86, 87, 88, 89, 98, 99, 100, 101, 102, 103, 104, 105, 106, 107, 108, 109, 110, 111] (by decide +kernel) (by decide +kernel)
set_option maxRecDepth 20000 in
theorem gX4_setNoise_X4_saveState : GoodIn wsX4_setNoise (wsV RX4 46 RX4 yX4_saveState wsX4_saveState) := goodIn_app (goodIn_of _ (by decide +kernel)) ggX4_setNoise_X4_saveState
theorem dX4_setNoise_0 : decode cX4_setNoise 0 = .ok (.aload_n 0, 1) := by decide +kernel
theorem dX4_setNoise_1 : decode cX4_setNoise 1 = .ok (.iload_n 1, 1) := by decide +kernel
theorem dX4_setNoise_2 : decode cX4_setNoise 2 = .ok (.invokevirtual 34, 3) := by decide +kernel
theorem dX4_setNoise_5 : decode cX4_setNoise 5 = .ok (.astore 4, 2) := by decide +kernel
theorem dX4_setNoise_7 : decode cX4_setNoise 7 = .ok (.iload_n 2, 1) := by decide +kernel
theorem dX4_setNoise_8 : decode cX4_setNoise 8 = .ok (.invokestatic 38, 3) := by decide +kernel
theorem dX4_setNoise_11 : decode cX4_setNoise 11 = .ok (.iload_n 3, 1) := by decide +kernel
theorem dX4_setNoise_12 : decode cX4_setNoise 12 = .ok (.iconst 1, 1) := by decide +kernel
theorem dX4_setNoise_13 : decode cX4_setNoise 13 = .ok (.sipush 10000, 3) := by decide +kernel
theorem dX4_setNoise_16 : decode cX4_setNoise 16 = .ok (.invokestatic 42, 3) := by decide +kernel
theorem dX4_setNoise_19 : decode cX4_setNoise 19 = .ok (.aload_n 0, 1) := by decide +kernel
theorem dX4_setNoise_20 : decode cX4_setNoise 20 = .ok (.invokevirtual 46, 3) := by decide +kernel
theorem dX4_setNoise_23 : decode cX4_setNoise 23 = .ok (.aload 4, 2) := by decide +kernel
theorem dX4_setNoise_25 : decode cX4_setNoise 25 = .ok (.getfield 49, 3) := by decide +kernel
theorem dX4_setNoise_28 : decode cX4_setNoise 28 = .ok (.iload_n 2, 1) := by decide +kernel
theorem dX4_setNoise_29 : decode cX4_setNoise 29 = .ok (.iaload, 1) := by decide +kernel
theorem dX4_setNoise_30 : decode cX4_setNoise 30 = .ok (.istore 5, 2) := by decide +kernel
theorem dX4_setNoise_32 : decode cX4_setNoise 32 = .ok (.aload 4, 2) := by decide +kernel
theorem dX4_setNoise_34 : decode cX4_setNoise 34 = .ok (.getfield 49, 3) := by decide +kernel
theorem dX4_setNoise_37 : decode cX4_setNoise 37 = .ok (.iload_n 2, 1) := by decide +kernel
theorem dX4_setNoise_38 : decode cX4_setNoise 38 = .ok (.iload_n 3, 1) := by decide +kernel
theorem dX4_setNoise_39 : decode cX4_setNoise 39 = .ok (.iastore, 1) := by decide +kernel
theorem dX4_setNoise_40 : decode cX4_setNoise 40 = .ok (.iload 5, 2) := by decide +kernel
theorem dX4_setNoise_42 : decode cX4_setNoise 42 = .ok (.ireturn, 1) := by decide +kernel
set_option maxRecDepth 20000 in
theorem ggX4_setCoupling_X4_pairAt : GoodIn wsX4_setCoupling wsX4_pairAt := goodIn_ca (goodIn_r _ [6, 7, 8, 9, 10, 11, 90, 91, 92, 93, 94, 95, 96, 97] (by decide +kernel) (by decide +kernel)) (goodIn_sub (fun _ h => List.mem_cons_of_mem _ (List.mem_append_left _ (List.mem_append_right _ h))) (by decide +kernel))
set_option maxRecDepth 20000 in
theorem gX4_setCoupling_X4_pairAt : GoodIn wsX4_setCoupling (wsV RX4 34 RX4 yX4_pairAt wsX4_pairAt) := goodIn_app (goodIn_of _ (by decide +kernel)) ggX4_setCoupling_X4_pairAt
set_option maxRecDepth 20000 in
theorem ggX4_setCoupling_X4_checkTone : GoodIn wsX4_setCoupling wsX4_checkTone := goodIn_ca (goodIn_r _ [14, 7, 8, 15, 16, 5, 17] (by decide +kernel) (by decide +kernel)) (goodIn_sub (fun _ h => List.mem_cons_of_mem _ (List.mem_append_left _ (List.mem_append_right _ h))) (by decide +kernel))
set_option maxRecDepth 20000 in
theorem gX4_setCoupling_X4_checkTone : GoodIn wsX4_setCoupling (va_wsS RX4 38 yX4_checkTone wsX4_checkTone) := goodIn_app (goodIn_of _ (by decide +kernel)) ggX4_setCoupling_X4_checkTone
set_option maxRecDepth 20000 in
theorem ggX4_setCoupling_X4_checkRange : GoodIn wsX4_setCoupling wsX4_checkRange := goodIn_ca (goodIn_r _ [20, 21, 22] (by decide +kernel) (by decide +kernel)) (goodIn_sub (fun _ h => List.mem_cons_of_mem _ (List.mem_append_right _ h)) (by decide +kernel))
set_option maxRecDepth 20000 in
theorem gX4_setCoupling_X4_checkRange : GoodIn wsX4_setCoupling (va_wsS RX4 42 yX4_checkRange wsX4_checkRange) := goodIn_app (goodIn_of _ (by decide +kernel)) ggX4_setCoupling_X4_checkRange
set_option maxRecDepth 20000 in
theorem ggX4_setCoupling_X4_saveState : GoodIn wsX4_setCoupling wsX4_saveState := goodIn_r _ [26, 27, 28, 9, 29, 30, 31, 32, 33, 34, 35, 36, 37, 38, 39, 40, 41, 42, 43, 44, 45, 46, 47, 48, 49, 50, 51, 52, 53, 54, 55, 56, 57, 58, 59, 60, 61, 62, 63, 64, 65, 66, 67, 68, 69, 70, 71, 72, 73, 74, 75, 76, 77, 78, 79, 90, 91, 92, 93, 94, 95, 96, 97, 80, 81, 82, 83, 84, 85, 86, 87, 88, 89, 98, 99, 100, 101, 102, 103, 104, 105, 106, 107, 108, 109, 110, 111] (by decide +kernel) (by decide +kernel)
set_option maxRecDepth 20000 in
theorem gX4_setCoupling_X4_saveState : GoodIn wsX4_setCoupling (wsV RX4 46 RX4 yX4_saveState wsX4_saveState) := goodIn_app (goodIn_of _ (by decide +kernel)) ggX4_setCoupling_X4_saveState
theorem dX4_setCoupling_0 : decode cX4_setCoupling 0 = .ok (.aload_n 0, 1) := by decide +kernel
theorem dX4_setCoupling_1 : decode cX4_setCoupling 1 = .ok (.iload_n 1, 1) := by decide +kernel
theorem dX4_setCoupling_2 : decode cX4_setCoupling 2 = .ok (.invokevirtual 34, 3) := by decide +kernel
theorem dX4_setCoupling_5 : decode cX4_setCoupling 5 = .ok (.astore 4, 2) := by decide +kernel
theorem dX4_setCoupling_7 : decode cX4_setCoupling 7 = .ok (.iload_n 2, 1) := by decide +kernel
theorem dX4_setCoupling_8 : decode cX4_setCoupling 8 = .ok (.invokestatic 38, 3) := by decide +kernel
theorem dX4_setCoupling_11 : decode cX4_setCoupling 11 = .ok (.iload_n 3, 1) := by decide +kernel
theorem dX4_setCoupling_12 : decode cX4_setCoupling 12 = .ok (.iconst 0, 1) := by decide +kernel
theorem dX4_setCoupling_13 : decode cX4_setCoupling 13 = .ok (.sipush 1000, 3) := by decide +kernel
theorem dX4_setCoupling_16 : decode cX4_setCoupling 16 = .ok (.invokestatic 42, 3) := by decide +kernel
theorem dX4_setCoupling_19 : decode cX4_setCoupling 19 = .ok (.aload_n 0, 1) := by decide +kernel
theorem dX4_setCoupling_20 : decode cX4_setCoupling 20 = .ok (.invokevirtual 46, 3) := by decide +kernel
theorem dX4_setCoupling_23 : decode cX4_setCoupling 23 = .ok (.aload 4, 2) := by decide +kernel
theorem dX4_setCoupling_25 : decode cX4_setCoupling 25 = .ok (.getfield 55, 3) := by decide +kernel
theorem dX4_setCoupling_28 : decode cX4_setCoupling 28 = .ok (.iload_n 2, 1) := by decide +kernel
theorem dX4_setCoupling_29 : decode cX4_setCoupling 29 = .ok (.iaload, 1) := by decide +kernel
theorem dX4_setCoupling_30 : decode cX4_setCoupling 30 = .ok (.istore 5, 2) := by decide +kernel
theorem dX4_setCoupling_32 : decode cX4_setCoupling 32 = .ok (.aload 4, 2) := by decide +kernel
theorem dX4_setCoupling_34 : decode cX4_setCoupling 34 = .ok (.getfield 55, 3) := by decide +kernel
theorem dX4_setCoupling_37 : decode cX4_setCoupling 37 = .ok (.iload_n 2, 1) := by decide +kernel
theorem dX4_setCoupling_38 : decode cX4_setCoupling 38 = .ok (.iload_n 3, 1) := by decide +kernel
theorem dX4_setCoupling_39 : decode cX4_setCoupling 39 = .ok (.iastore, 1) := by decide +kernel
theorem dX4_setCoupling_40 : decode cX4_setCoupling 40 = .ok (.iload 5, 2) := by decide +kernel
theorem dX4_setCoupling_42 : decode cX4_setCoupling 42 = .ok (.ireturn, 1) := by decide +kernel
set_option maxRecDepth 20000 in
theorem ggX4_setLimit_X4_pairAt : GoodIn wsX4_setLimit wsX4_pairAt := goodIn_ca (goodIn_r _ [10, 11, 12, 13, 14, 15, 94, 95, 96, 97, 98, 99, 100, 101] (by decide +kernel) (by decide +kernel)) (goodIn_sub (fun _ h => List.mem_cons_of_mem _ (List.mem_append_left _ (List.mem_append_right _ h))) (by decide +kernel))
set_option maxRecDepth 20000 in
theorem gX4_setLimit_X4_pairAt : GoodIn wsX4_setLimit (wsV RX4 34 RX4 yX4_pairAt wsX4_pairAt) := goodIn_app (goodIn_of _ (by decide +kernel)) ggX4_setLimit_X4_pairAt
set_option maxRecDepth 20000 in
theorem ggX4_setLimit_X4_checkTone : GoodIn wsX4_setLimit wsX4_checkTone := goodIn_ca (goodIn_r _ [18, 11, 12, 19, 20, 9, 21] (by decide +kernel) (by decide +kernel)) (goodIn_sub (fun _ h => List.mem_cons_of_mem _ (List.mem_append_left _ (List.mem_append_right _ h))) (by decide +kernel))
set_option maxRecDepth 20000 in
theorem gX4_setLimit_X4_checkTone : GoodIn wsX4_setLimit (va_wsS RX4 38 yX4_checkTone wsX4_checkTone) := goodIn_app (goodIn_of _ (by decide +kernel)) ggX4_setLimit_X4_checkTone
set_option maxRecDepth 20000 in
theorem ggX4_setLimit_X4_checkRange : GoodIn wsX4_setLimit wsX4_checkRange := goodIn_ca (goodIn_r _ [24, 25, 26] (by decide +kernel) (by decide +kernel)) (goodIn_sub (fun _ h => List.mem_cons_of_mem _ (List.mem_append_right _ h)) (by decide +kernel))
set_option maxRecDepth 20000 in
theorem gX4_setLimit_X4_checkRange : GoodIn wsX4_setLimit (va_wsS RX4 42 yX4_checkRange wsX4_checkRange) := goodIn_app (goodIn_of _ (by decide +kernel)) ggX4_setLimit_X4_checkRange
set_option maxRecDepth 20000 in
theorem ggX4_setLimit_X4_saveState : GoodIn wsX4_setLimit wsX4_saveState := goodIn_r _ [30, 31, 32, 13, 33, 34, 35, 36, 37, 38, 39, 40, 41, 42, 43, 44, 45, 46, 47, 48, 49, 50, 51, 52, 53, 54, 55, 56, 57, 58, 59, 60, 61, 62, 63, 64, 65, 66, 67, 68, 69, 70, 71, 72, 73, 74, 75, 76, 77, 78, 79, 80, 81, 82, 83, 94, 95, 96, 97, 98, 99, 100, 101, 84, 85, 86, 87, 88, 89, 90, 91, 92, 93, 102, 103, 104, 105, 106, 107, 108, 109, 110, 111, 112, 113, 114, 115] (by decide +kernel) (by decide +kernel)
set_option maxRecDepth 20000 in
theorem gX4_setLimit_X4_saveState : GoodIn wsX4_setLimit (wsV RX4 46 RX4 yX4_saveState wsX4_saveState) := goodIn_app (goodIn_of _ (by decide +kernel)) ggX4_setLimit_X4_saveState
theorem dX4_setLimit_0 : decode cX4_setLimit 0 = .ok (.aload_n 0, 1) := by decide +kernel
theorem dX4_setLimit_1 : decode cX4_setLimit 1 = .ok (.iload_n 1, 1) := by decide +kernel
theorem dX4_setLimit_2 : decode cX4_setLimit 2 = .ok (.invokevirtual 34, 3) := by decide +kernel
theorem dX4_setLimit_5 : decode cX4_setLimit 5 = .ok (.astore 4, 2) := by decide +kernel
theorem dX4_setLimit_7 : decode cX4_setLimit 7 = .ok (.iload_n 2, 1) := by decide +kernel
theorem dX4_setLimit_8 : decode cX4_setLimit 8 = .ok (.invokestatic 38, 3) := by decide +kernel
theorem dX4_setLimit_11 : decode cX4_setLimit 11 = .ok (.iload_n 3, 1) := by decide +kernel
theorem dX4_setLimit_12 : decode cX4_setLimit 12 = .ok (.iconst 0, 1) := by decide +kernel
theorem dX4_setLimit_13 : decode cX4_setLimit 13 = .ok (.bipush 12, 2) := by decide +kernel
theorem dX4_setLimit_15 : decode cX4_setLimit 15 = .ok (.invokestatic 42, 3) := by decide +kernel
theorem dX4_setLimit_18 : decode cX4_setLimit 18 = .ok (.iload_n 3, 1) := by decide +kernel
theorem dX4_setLimit_19 : decode cX4_setLimit 19 = .ok (.aload 4, 2) := by decide +kernel
theorem dX4_setLimit_21 : decode cX4_setLimit 21 = .ok (.getfield 58, 3) := by decide +kernel
theorem dX4_setLimit_24 : decode cX4_setLimit 24 = .ok (.iload_n 2, 1) := by decide +kernel
theorem dX4_setLimit_25 : decode cX4_setLimit 25 = .ok (.iaload, 1) := by decide +kernel
theorem dX4_setLimit_26 : decode cX4_setLimit 26 = .ok (.if_icmp .lt 14, 3) := by decide +kernel
theorem dX4_setLimit_29 : decode cX4_setLimit 29 = .ok (.iload_n 3, 1) := by decide +kernel
theorem dX4_setLimit_30 : decode cX4_setLimit 30 = .ok (.aload 4, 2) := by decide +kernel
theorem dX4_setLimit_32 : decode cX4_setLimit 32 = .ok (.getfield 61, 3) := by decide +kernel
theorem dX4_setLimit_35 : decode cX4_setLimit 35 = .ok (.iload_n 2, 1) := by decide +kernel
theorem dX4_setLimit_36 : decode cX4_setLimit 36 = .ok (.iaload, 1) := by decide +kernel
theorem dX4_setLimit_37 : decode cX4_setLimit 37 = .ok (.if_icmp .ge 13, 3) := by decide +kernel
theorem dX4_setLimit_40 : decode cX4_setLimit 40 = .ok (.new 64, 3) := by decide +kernel
theorem dX4_setLimit_43 : decode cX4_setLimit 43 = .ok (.dup, 1) := by decide +kernel
theorem dX4_setLimit_44 : decode cX4_setLimit 44 = .ok (.ldc 66, 2) := by decide +kernel
theorem dX4_setLimit_46 : decode cX4_setLimit 46 = .ok (.invokespecial 68, 3) := by decide +kernel
theorem dX4_setLimit_49 : decode cX4_setLimit 49 = .ok (.athrow, 1) := by decide +kernel
theorem dX4_setLimit_50 : decode cX4_setLimit 50 = .ok (.aload_n 0, 1) := by decide +kernel
theorem dX4_setLimit_51 : decode cX4_setLimit 51 = .ok (.invokevirtual 46, 3) := by decide +kernel
theorem dX4_setLimit_54 : decode cX4_setLimit 54 = .ok (.aload 4, 2) := by decide +kernel
theorem dX4_setLimit_56 : decode cX4_setLimit 56 = .ok (.getfield 71, 3) := by decide +kernel
theorem dX4_setLimit_59 : decode cX4_setLimit 59 = .ok (.iload_n 2, 1) := by decide +kernel
theorem dX4_setLimit_60 : decode cX4_setLimit 60 = .ok (.iaload, 1) := by decide +kernel
theorem dX4_setLimit_61 : decode cX4_setLimit 61 = .ok (.istore 5, 2) := by decide +kernel
theorem dX4_setLimit_63 : decode cX4_setLimit 63 = .ok (.aload 4, 2) := by decide +kernel
theorem dX4_setLimit_65 : decode cX4_setLimit 65 = .ok (.getfield 71, 3) := by decide +kernel
theorem dX4_setLimit_68 : decode cX4_setLimit 68 = .ok (.iload_n 2, 1) := by decide +kernel
theorem dX4_setLimit_69 : decode cX4_setLimit 69 = .ok (.iload_n 3, 1) := by decide +kernel
theorem dX4_setLimit_70 : decode cX4_setLimit 70 = .ok (.iastore, 1) := by decide +kernel
theorem dX4_setLimit_71 : decode cX4_setLimit 71 = .ok (.iload 5, 2) := by decide +kernel
theorem dX4_setLimit_73 : decode cX4_setLimit 73 = .ok (.ireturn, 1) := by decide +kernel
set_option maxRecDepth 20000 in
theorem ggX4_setBudget_X4_pairAt : GoodIn wsX4_setBudget wsX4_pairAt := goodIn_ca (goodIn_r _ [7, 8, 9, 10, 11, 12, 85, 86, 87, 88, 89, 90, 91, 92] (by decide +kernel) (by decide +kernel)) (goodIn_sub (fun _ h => List.mem_cons_of_mem _ (List.mem_append_left _ (List.mem_append_right _ h))) (by decide +kernel))
set_option maxRecDepth 20000 in
theorem gX4_setBudget_X4_pairAt : GoodIn wsX4_setBudget (wsV RX4 34 RX4 yX4_pairAt wsX4_pairAt) := goodIn_app (goodIn_of _ (by decide +kernel)) ggX4_setBudget_X4_pairAt
set_option maxRecDepth 20000 in
theorem ggX4_setBudget_X4_checkRange : GoodIn wsX4_setBudget wsX4_checkRange := goodIn_ca (goodIn_r _ [15, 16, 17] (by decide +kernel) (by decide +kernel)) (goodIn_sub (fun _ h => List.mem_cons_of_mem _ (List.mem_append_right _ h)) (by decide +kernel))
set_option maxRecDepth 20000 in
theorem gX4_setBudget_X4_checkRange : GoodIn wsX4_setBudget (va_wsS RX4 42 yX4_checkRange wsX4_checkRange) := goodIn_app (goodIn_of _ (by decide +kernel)) ggX4_setBudget_X4_checkRange
set_option maxRecDepth 20000 in
theorem ggX4_setBudget_X4_saveState : GoodIn wsX4_setBudget wsX4_saveState := goodIn_r _ [21, 22, 23, 10, 24, 25, 26, 27, 28, 29, 30, 31, 32, 33, 34, 35, 36, 37, 38, 39, 40, 41, 42, 43, 44, 45, 46, 47, 48, 49, 50, 51, 52, 53, 54, 55, 56, 57, 58, 59, 60, 61, 62, 63, 64, 65, 66, 67, 68, 69, 70, 71, 72, 73, 74, 85, 86, 87, 88, 89, 90, 91, 92, 75, 76, 77, 78, 79, 80, 81, 82, 83, 84, 93, 94, 95, 96, 97, 98, 99, 100, 101, 102, 103, 104, 105, 106] (by decide +kernel) (by decide +kernel)
set_option maxRecDepth 20000 in
theorem gX4_setBudget_X4_saveState : GoodIn wsX4_setBudget (wsV RX4 46 RX4 yX4_saveState wsX4_saveState) := goodIn_app (goodIn_of _ (by decide +kernel)) ggX4_setBudget_X4_saveState
theorem dX4_setBudget_0 : decode cX4_setBudget 0 = .ok (.aload_n 0, 1) := by decide +kernel
theorem dX4_setBudget_1 : decode cX4_setBudget 1 = .ok (.iload_n 1, 1) := by decide +kernel
theorem dX4_setBudget_2 : decode cX4_setBudget 2 = .ok (.invokevirtual 34, 3) := by decide +kernel
theorem dX4_setBudget_5 : decode cX4_setBudget 5 = .ok (.astore_n 3, 1) := by decide +kernel
theorem dX4_setBudget_6 : decode cX4_setBudget 6 = .ok (.iload_n 2, 1) := by decide +kernel
theorem dX4_setBudget_7 : decode cX4_setBudget 7 = .ok (.iconst 0, 1) := by decide +kernel
theorem dX4_setBudget_8 : decode cX4_setBudget 8 = .ok (.ldc 74, 2) := by decide +kernel
theorem dX4_setBudget_10 : decode cX4_setBudget 10 = .ok (.invokestatic 42, 3) := by decide +kernel
theorem dX4_setBudget_13 : decode cX4_setBudget 13 = .ok (.aload_n 0, 1) := by decide +kernel
theorem dX4_setBudget_14 : decode cX4_setBudget 14 = .ok (.invokevirtual 46, 3) := by decide +kernel
theorem dX4_setBudget_17 : decode cX4_setBudget 17 = .ok (.aload_n 3, 1) := by decide +kernel
theorem dX4_setBudget_18 : decode cX4_setBudget 18 = .ok (.getfield 75, 3) := by decide +kernel
theorem dX4_setBudget_21 : decode cX4_setBudget 21 = .ok (.istore 4, 2) := by decide +kernel
theorem dX4_setBudget_23 : decode cX4_setBudget 23 = .ok (.aload_n 3, 1) := by decide +kernel
theorem dX4_setBudget_24 : decode cX4_setBudget 24 = .ok (.iload_n 2, 1) := by decide +kernel
theorem dX4_setBudget_25 : decode cX4_setBudget 25 = .ok (.putfield 75, 3) := by decide +kernel
theorem dX4_setBudget_28 : decode cX4_setBudget 28 = .ok (.iload 4, 2) := by decide +kernel
theorem dX4_setBudget_30 : decode cX4_setBudget 30 = .ok (.ireturn, 1) := by decide +kernel
set_option maxRecDepth 20000 in
theorem ggX4_loadRate_X4_pairAt : GoodIn wsX4_loadRate wsX4_pairAt := goodIn_ca (goodIn_r _ [5, 6, 7, 8, 9, 10, 135, 136, 137, 138, 139, 140, 141, 142] (by decide +kernel) (by decide +kernel)) (goodIn_sub (fun _ h => List.mem_cons_of_mem _ (List.mem_append_right _ h)) (by decide +kernel))
set_option maxRecDepth 20000 in
theorem gX4_loadRate_X4_pairAt : GoodIn wsX4_loadRate (wsV RX4 34 RX4 yX4_pairAt wsX4_pairAt) := goodIn_app (goodIn_of _ (by decide +kernel)) ggX4_loadRate_X4_pairAt
set_option maxRecDepth 20000 in
theorem ggX4_loadRate_X4_saveState : GoodIn wsX4_loadRate wsX4_saveState := goodIn_r _ [14, 15, 16, 8, 17, 18, 19, 20, 21, 22, 23, 24, 25, 26, 27, 28, 29, 30, 31, 32, 33, 34, 35, 36, 37, 38, 39, 40, 41, 42, 43, 44, 45, 46, 47, 48, 49, 50, 51, 52, 53, 54, 55, 56, 57, 58, 59, 60, 61, 62, 63, 64, 65, 66, 67, 135, 136, 137, 138, 139, 140, 141, 142, 143, 144, 145, 146, 147, 148, 149, 150, 151, 152, 153, 154, 155, 156, 157, 158, 159, 160, 161, 162, 163, 164, 165, 166] (by decide +kernel) (by decide +kernel)
set_option maxRecDepth 20000 in
theorem gX4_loadRate_X4_saveState : GoodIn wsX4_loadRate (wsV RX4 46 RX4 yX4_saveState wsX4_saveState) := goodIn_app (goodIn_of _ (by decide +kernel)) ggX4_loadRate_X4_saveState
set_option maxRecDepth 20000 in
theorem ggX4_loadRate_X4_otherOf : GoodIn wsX4_loadRate wsX4_otherOf := goodIn_r _ [71, 8, 10, 9, 135, 136, 137, 138, 139, 140, 141, 142] (by decide +kernel) (by decide +kernel)
set_option maxRecDepth 20000 in
theorem gX4_loadRate_X4_otherOf : GoodIn wsX4_loadRate (wsV RX4 78 RX4 yX4_otherOf wsX4_otherOf) := goodIn_app (goodIn_of _ (by decide +kernel)) ggX4_loadRate_X4_otherOf
set_option maxRecDepth 20000 in
theorem ggX4_loadRate_X4_loadForRate : GoodIn wsX4_loadRate wsX4_loadForRate := goodIn_r _ [75, 76, 77, 78, 79, 80, 81, 82, 83, 84, 85, 86, 37, 38, 39, 87, 88, 89, 33, 90, 35, 40, 44, 91, 92, 93, 94, 95, 96, 97, 98, 99, 100, 101, 102, 103, 104, 105, 106, 107, 108, 109, 110, 111, 112, 113, 114, 115, 116, 117, 118, 119, 120, 121, 122, 4, 123, 124, 125, 126, 127, 128, 129, 52, 130, 54, 55, 60, 61, 64, 65, 135, 136, 137, 138, 139, 143, 144, 145, 146, 147, 148, 149, 150, 151, 152, 167, 168, 169, 153, 154, 155, 156, 157, 158, 159, 160, 161, 162, 163, 164, 165, 166] (by decide +kernel) (by decide +kernel)
