def wsL_ask_r1 : List Cond := [Cond.classLink RL 13 "java/lang/IndexOutOfBoundsException", Cond.classLink RL 21 "java/lang/IllegalStateException", Cond.methodLink RL 47 yX4_ask, Cond.instanceMethod yX4_ask, Cond.selects RX4 yX4_ask yX4_ask, Cond.initialized RX4, Cond.code yX4_ask cX4_ask 4 (some .int), Cond.fieldLink RX4 26 "LampCounts" "buskers" "LLampCounts$Buskers;", Cond.fieldLink RX4 136 "LampCounts$Buskers" "asks" "[Z", Cond.methodLink RX4 45 yX4_requireIndex, Cond.static yX4_requireIndex, Cond.code yX4_requireIndex cX4_requireIndex 2 none, Cond.classLink RX4 199 "java/lang/IndexOutOfBoundsException", Cond.initialized "java/lang/IndexOutOfBoundsException", Cond.methodLink RX4 133 yX0_wish, Cond.static yX0_wish, Cond.initialized RX0, Cond.code yX0_wish cX0_wish 2 (some .int), Cond.methodLink RX4 59 yX4_requireState, Cond.static yX4_requireState, Cond.code yX4_requireState cX4_requireState 1 none, Cond.classLink RX4 211 "java/lang/IllegalStateException", Cond.initialized "java/lang/IllegalStateException", Cond.methodLink RX4 139 yX0_askedBy]
def wsL_ask_r2 : List Cond := [Cond.instanceMethod yX0_askedBy, Cond.selects RX0 yX0_askedBy yX0_askedBy, Cond.code yX0_askedBy cX0_askedBy 4 (some .int), Cond.fieldLink RX0 21 "LampCounts$Buskers" "asks" "[Z", Cond.methodLink RX0 47 yX0_wish]
def wsL_ask : List Cond := .codeWith yL_ask cL_ask 5 (some .int) [(0, 10, 13, 13), (0, 10, 17, 21)] :: ((wsL_ask_r1 ++ wsL_ask_r2) ++ wsX40 ++ wsX00 ++ (vx_atS RX4 203 "java/lang/IndexOutOfBoundsException" ["java/lang/RuntimeException", "java/lang/Exception"]).filter goodWord ++ (vx_atS RX4 215 "java/lang/IllegalStateException" ["java/lang/RuntimeException", "java/lang/Exception"]).filter goodWord)
def wsL_lot : List Cond := .codeWith yL_lot cL_lot 4 (some .int) [(0, 9, 12, 15), (0, 9, 15, 21)] :: ([.classLink RL 15 "java/lang/IllegalArgumentException", .classLink RL 21 "java/lang/IllegalStateException", .methodLink RL 50 yX4_lot, .instanceMethod yX4_lot, .selects RX4 yX4_lot yX4_lot, .initialized RX4, .code yX4_lot cX4_lot 2 (some .int), .fieldLink RX4 26 "LampCounts" "buskers" "LLampCounts$Buskers;", .fieldLink RX4 142 "LampCounts$Buskers" "lotsLeft" "I", .fieldLink RX4 145 "LampCounts$Buskers" "told" "[I", .methodLink RX4 49 yX4_requireWithin, .static yX4_requireWithin, .code yX4_requireWithin cX4_requireWithin 3 none, .classLink RX4 206 "java/lang/IllegalArgumentException", .initialized "java/lang/IllegalArgumentException", .methodLink RX4 59 yX4_requireState, .static yX4_requireState, .code yX4_requireState cX4_requireState 1 none, .classLink RX4 211 "java/lang/IllegalStateException", .initialized "java/lang/IllegalStateException"] ++ wsX40 ++ wsX00 ++ (vx_atS RX4 210 "java/lang/IllegalArgumentException" ["java/lang/RuntimeException", "java/lang/Exception"]).filter goodWord ++ (vx_atS RX4 215 "java/lang/IllegalStateException" ["java/lang/RuntimeException", "java/lang/Exception"]).filter goodWord)
def wsL_steps_r1 : List Cond := [Cond.classLink RL 13 "java/lang/IndexOutOfBoundsException", Cond.classLink RL 15 "java/lang/IllegalArgumentException", Cond.methodLink RL 53 yX4_steps, Cond.instanceMethod yX4_steps, Cond.selects RX4 yX4_steps yX4_steps, Cond.initialized RX4, Cond.code yX4_steps cX4_steps 3 (some .int), Cond.fieldLink RX4 12 "LampCounts" "street" "LLampCounts$Street;", Cond.fieldLink RX4 148 "LampCounts$Street" "walked" "[I", Cond.methodLink RX4 151 yX4_endedCell, Cond.instanceMethod yX4_endedCell, Cond.selects RX4 yX4_endedCell yX4_endedCell, Cond.code yX4_endedCell cX4_endedCell 3 (some .int), Cond.methodLink RX4 45 yX4_requireIndex, Cond.static yX4_requireIndex, Cond.code yX4_requireIndex cX4_requireIndex 2 none, Cond.classLink RX4 199 "java/lang/IndexOutOfBoundsException", Cond.initialized "java/lang/IndexOutOfBoundsException", Cond.methodLink RX4 84 yX4_requireEnded, Cond.instanceMethod yX4_requireEnded, Cond.selects RX4 yX4_requireEnded yX4_requireEnded, Cond.code yX4_requireEnded cX4_requireEnded 2 none, Cond.fieldLink RX4 41 "LampCounts" "now" "I", Cond.methodLink RX4 49 yX4_requireWithin]
def wsL_steps_r2 : List Cond := [Cond.static yX4_requireWithin, Cond.code yX4_requireWithin cX4_requireWithin 3 none, Cond.classLink RX4 206 "java/lang/IllegalArgumentException", Cond.initialized "java/lang/IllegalArgumentException", Cond.methodLink RX4 95 yX4_cell, Cond.static yX4_cell, Cond.code yX4_cell cX4_cell 2 (some .int)]
def wsL_steps : List Cond := .codeWith yL_steps cL_steps 5 (some .int) [(0, 10, 13, 13), (0, 10, 17, 15)] :: ((wsL_steps_r1 ++ wsL_steps_r2) ++ wsX40 ++ wsX30 ++ (vx_atS RX4 203 "java/lang/IndexOutOfBoundsException" ["java/lang/RuntimeException", "java/lang/Exception"]).filter goodWord ++ (vx_atS RX4 210 "java/lang/IllegalArgumentException" ["java/lang/RuntimeException", "java/lang/Exception"]).filter goodWord)
def wsL_crowd_r1 : List Cond := [Cond.classLink RL 13 "java/lang/IndexOutOfBoundsException", Cond.classLink RL 15 "java/lang/IllegalArgumentException", Cond.methodLink RL 56 yX4_crowd, Cond.instanceMethod yX4_crowd, Cond.selects RX4 yX4_crowd yX4_crowd, Cond.initialized RX4, Cond.code yX4_crowd cX4_crowd 3 (some .int), Cond.fieldLink RX4 12 "LampCounts" "street" "LLampCounts$Street;", Cond.fieldLink RX4 154 "LampCounts$Street" "stopped" "[I", Cond.methodLink RX4 151 yX4_endedCell, Cond.instanceMethod yX4_endedCell, Cond.selects RX4 yX4_endedCell yX4_endedCell, Cond.code yX4_endedCell cX4_endedCell 3 (some .int), Cond.methodLink RX4 45 yX4_requireIndex, Cond.static yX4_requireIndex, Cond.code yX4_requireIndex cX4_requireIndex 2 none, Cond.classLink RX4 199 "java/lang/IndexOutOfBoundsException", Cond.initialized "java/lang/IndexOutOfBoundsException", Cond.methodLink RX4 84 yX4_requireEnded, Cond.instanceMethod yX4_requireEnded, Cond.selects RX4 yX4_requireEnded yX4_requireEnded, Cond.code yX4_requireEnded cX4_requireEnded 2 none, Cond.fieldLink RX4 41 "LampCounts" "now" "I", Cond.methodLink RX4 49 yX4_requireWithin]
def wsL_crowd_r2 : List Cond := [Cond.static yX4_requireWithin, Cond.code yX4_requireWithin cX4_requireWithin 3 none, Cond.classLink RX4 206 "java/lang/IllegalArgumentException", Cond.initialized "java/lang/IllegalArgumentException", Cond.methodLink RX4 95 yX4_cell, Cond.static yX4_cell, Cond.code yX4_cell cX4_cell 2 (some .int)]
def wsL_crowd : List Cond := .codeWith yL_crowd cL_crowd 5 (some .int) [(0, 10, 13, 13), (0, 10, 17, 15)] :: ((wsL_crowd_r1 ++ wsL_crowd_r2) ++ wsX40 ++ wsX30 ++ (vx_atS RX4 203 "java/lang/IndexOutOfBoundsException" ["java/lang/RuntimeException", "java/lang/Exception"]).filter goodWord ++ (vx_atS RX4 210 "java/lang/IllegalArgumentException" ["java/lang/RuntimeException", "java/lang/Exception"]).filter goodWord)
def wsL_through : List Cond := .codeWith yL_through cL_through 4 (some .int) [(0, 9, 12, 15)] :: ([.classLink RL 15 "java/lang/IllegalArgumentException", .methodLink RL 59 yX4_through, .instanceMethod yX4_through, .selects RX4 yX4_through yX4_through, .initialized RX4, .code yX4_through cX4_through 2 (some .int), .fieldLink RX4 12 "LampCounts" "street" "LLampCounts$Street;", .fieldLink RX4 157 "LampCounts$Street" "wentOut" "[I", .methodLink RX4 84 yX4_requireEnded, .instanceMethod yX4_requireEnded, .selects RX4 yX4_requireEnded yX4_requireEnded, .code yX4_requireEnded cX4_requireEnded 2 none, .fieldLink RX4 41 "LampCounts" "now" "I", .methodLink RX4 49 yX4_requireWithin, .static yX4_requireWithin, .code yX4_requireWithin cX4_requireWithin 3 none, .classLink RX4 206 "java/lang/IllegalArgumentException", .initialized "java/lang/IllegalArgumentException"] ++ wsX40 ++ wsX30 ++ (vx_atS RX4 210 "java/lang/IllegalArgumentException" ["java/lang/RuntimeException", "java/lang/Exception"]).filter goodWord)
def wsL_reading_r1 : List Cond := [Cond.classLink RL 13 "java/lang/IndexOutOfBoundsException", Cond.classLink RL 15 "java/lang/IllegalArgumentException", Cond.methodLink RL 62 yX4_reading, Cond.instanceMethod yX4_reading, Cond.selects RX4 yX4_reading yX4_reading, Cond.initialized RX4, Cond.code yX4_reading cX4_reading 3 (some .int), Cond.fieldLink RX4 19 "LampCounts" "lamps" "LLampCounts$Lamps;", Cond.fieldLink RX4 92 "LampCounts$Lamps" "readings" "[I", Cond.methodLink RX4 151 yX4_endedCell, Cond.instanceMethod yX4_endedCell, Cond.selects RX4 yX4_endedCell yX4_endedCell, Cond.code yX4_endedCell cX4_endedCell 3 (some .int), Cond.methodLink RX4 45 yX4_requireIndex, Cond.static yX4_requireIndex, Cond.code yX4_requireIndex cX4_requireIndex 2 none, Cond.classLink RX4 199 "java/lang/IndexOutOfBoundsException", Cond.initialized "java/lang/IndexOutOfBoundsException", Cond.methodLink RX4 84 yX4_requireEnded, Cond.instanceMethod yX4_requireEnded, Cond.selects RX4 yX4_requireEnded yX4_requireEnded, Cond.code yX4_requireEnded cX4_requireEnded 2 none, Cond.fieldLink RX4 41 "LampCounts" "now" "I", Cond.methodLink RX4 49 yX4_requireWithin]
def wsL_reading_r2 : List Cond := [Cond.static yX4_requireWithin, Cond.code yX4_requireWithin cX4_requireWithin 3 none, Cond.classLink RX4 206 "java/lang/IllegalArgumentException", Cond.initialized "java/lang/IllegalArgumentException", Cond.methodLink RX4 95 yX4_cell, Cond.static yX4_cell, Cond.code yX4_cell cX4_cell 2 (some .int)]
def wsL_reading : List Cond := .codeWith yL_reading cL_reading 5 (some .int) [(0, 10, 13, 13), (0, 10, 17, 15)] :: ((wsL_reading_r1 ++ wsL_reading_r2) ++ wsX40 ++ wsX10 ++ (vx_atS RX4 203 "java/lang/IndexOutOfBoundsException" ["java/lang/RuntimeException", "java/lang/Exception"]).filter goodWord ++ (vx_atS RX4 210 "java/lang/IllegalArgumentException" ["java/lang/RuntimeException", "java/lang/Exception"]).filter goodWord)
def wsL_taken_r1 : List Cond := [Cond.classLink RL 13 "java/lang/IndexOutOfBoundsException", Cond.classLink RL 15 "java/lang/IllegalArgumentException", Cond.methodLink RL 65 yX4_taken, Cond.instanceMethod yX4_taken, Cond.selects RX4 yX4_taken yX4_taken, Cond.initialized RX4, Cond.code yX4_taken cX4_taken 3 (some .int), Cond.fieldLink RX4 19 "LampCounts" "lamps" "LLampCounts$Lamps;", Cond.methodLink RX4 45 yX4_requireIndex, Cond.static yX4_requireIndex, Cond.code yX4_requireIndex cX4_requireIndex 2 none, Cond.classLink RX4 199 "java/lang/IndexOutOfBoundsException", Cond.initialized "java/lang/IndexOutOfBoundsException", Cond.methodLink RX4 49 yX4_requireWithin, Cond.static yX4_requireWithin, Cond.code yX4_requireWithin cX4_requireWithin 3 none, Cond.classLink RX4 206 "java/lang/IllegalArgumentException", Cond.initialized "java/lang/IllegalArgumentException", Cond.methodLink RX4 160 yX1_foundLast, Cond.instanceMethod yX1_foundLast, Cond.selects RX1 yX1_foundLast yX1_foundLast, Cond.initialized RX1, Cond.code yX1_foundLast cX1_foundLast 5 (some .int), Cond.fieldLink RX1 34 "LampCounts$Lamps" "findings" "I"]
def wsL_taken_r2 : List Cond := [Cond.fieldLink RX1 25 "LampCounts$Lamps" "foundSection" "[I", Cond.fieldLink RX1 28 "LampCounts$Lamps" "foundHour" "[I", Cond.fieldLink RX1 31 "LampCounts$Lamps" "foundBlind" "[I"]
def wsL_taken : List Cond := .codeWith yL_taken cL_taken 5 (some .int) [(0, 10, 13, 13), (0, 10, 17, 15)] :: ((wsL_taken_r1 ++ wsL_taken_r2) ++ wsX40 ++ wsX10 ++ (vx_atS RX4 203 "java/lang/IndexOutOfBoundsException" ["java/lang/RuntimeException", "java/lang/Exception"]).filter goodWord ++ (vx_atS RX4 210 "java/lang/IllegalArgumentException" ["java/lang/RuntimeException", "java/lang/Exception"]).filter goodWord)
def wsL_count_r1 : List Cond := [Cond.classLink RL 13 "java/lang/IndexOutOfBoundsException", Cond.classLink RL 15 "java/lang/IllegalArgumentException", Cond.methodLink RL 68 yX4_count, Cond.instanceMethod yX4_count, Cond.selects RX4 yX4_count yX4_count, Cond.initialized RX4, Cond.code yX4_count cX4_count 3 (some .int), Cond.fieldLink RX4 19 "LampCounts" "lamps" "LLampCounts$Lamps;", Cond.fieldLink RX4 163 "LampCounts$Lamps" "kept" "[I", Cond.methodLink RX4 151 yX4_endedCell, Cond.instanceMethod yX4_endedCell, Cond.selects RX4 yX4_endedCell yX4_endedCell, Cond.code yX4_endedCell cX4_endedCell 3 (some .int), Cond.methodLink RX4 45 yX4_requireIndex, Cond.static yX4_requireIndex, Cond.code yX4_requireIndex cX4_requireIndex 2 none, Cond.classLink RX4 199 "java/lang/IndexOutOfBoundsException", Cond.initialized "java/lang/IndexOutOfBoundsException", Cond.methodLink RX4 84 yX4_requireEnded, Cond.instanceMethod yX4_requireEnded, Cond.selects RX4 yX4_requireEnded yX4_requireEnded, Cond.code yX4_requireEnded cX4_requireEnded 2 none, Cond.fieldLink RX4 41 "LampCounts" "now" "I", Cond.methodLink RX4 49 yX4_requireWithin]
def wsL_count_r2 : List Cond := [Cond.static yX4_requireWithin, Cond.code yX4_requireWithin cX4_requireWithin 3 none, Cond.classLink RX4 206 "java/lang/IllegalArgumentException", Cond.initialized "java/lang/IllegalArgumentException", Cond.methodLink RX4 95 yX4_cell, Cond.static yX4_cell, Cond.code yX4_cell cX4_cell 2 (some .int)]
def wsL_count : List Cond := .codeWith yL_count cL_count 5 (some .int) [(0, 10, 13, 13), (0, 10, 17, 15)] :: ((wsL_count_r1 ++ wsL_count_r2) ++ wsX40 ++ wsX10 ++ (vx_atS RX4 203 "java/lang/IndexOutOfBoundsException" ["java/lang/RuntimeException", "java/lang/Exception"]).filter goodWord ++ (vx_atS RX4 210 "java/lang/IllegalArgumentException" ["java/lang/RuntimeException", "java/lang/Exception"]).filter goodWord)
def wsL_countAnew_r1 : List Cond := [Cond.classLink RL 13 "java/lang/IndexOutOfBoundsException", Cond.classLink RL 15 "java/lang/IllegalArgumentException", Cond.methodLink RL 71 yX4_countAnew, Cond.instanceMethod yX4_countAnew, Cond.selects RX4 yX4_countAnew yX4_countAnew, Cond.initialized RX4, Cond.code yX4_countAnew cX4_countAnew 3 (some .int), Cond.fieldLink RX4 19 "LampCounts" "lamps" "LLampCounts$Lamps;", Cond.methodLink RX4 45 yX4_requireIndex, Cond.static yX4_requireIndex, Cond.code yX4_requireIndex cX4_requireIndex 2 none, Cond.classLink RX4 199 "java/lang/IndexOutOfBoundsException", Cond.initialized "java/lang/IndexOutOfBoundsException", Cond.methodLink RX4 84 yX4_requireEnded, Cond.instanceMethod yX4_requireEnded, Cond.selects RX4 yX4_requireEnded yX4_requireEnded, Cond.code yX4_requireEnded cX4_requireEnded 2 none, Cond.fieldLink RX4 41 "LampCounts" "now" "I", Cond.methodLink RX4 49 yX4_requireWithin, Cond.static yX4_requireWithin, Cond.code yX4_requireWithin cX4_requireWithin 3 none, Cond.classLink RX4 206 "java/lang/IllegalArgumentException", Cond.initialized "java/lang/IllegalArgumentException", Cond.methodLink RX4 166 yX1_foundAnew]
def wsL_countAnew_r2 : List Cond := [Cond.instanceMethod yX1_foundAnew, Cond.selects RX1 yX1_foundAnew yX1_foundAnew, Cond.initialized RX1, Cond.code yX1_foundAnew cX1_foundAnew 5 (some .int), Cond.methodLink RX1 47 yX1_isLost, Cond.instanceMethod yX1_isLost, Cond.selects RX1 yX1_isLost yX1_isLost, Cond.code yX1_isLost cX1_isLost 3 (some .boolean), Cond.fieldLink RX1 19 "LampCounts$Lamps" "readings" "[I", Cond.static yX4_cell, Cond.code yX4_cell cX4_cell 2 (some .int), Cond.methodLink RX1 51 yX1_countOfReading, Cond.instanceMethod yX1_countOfReading, Cond.selects RX1 yX1_countOfReading yX1_countOfReading, Cond.code yX1_countOfReading cX1_countOfReading 4 (some .int), Cond.methodLink RX1 57 yX1_foundLast, Cond.instanceMethod yX1_foundLast, Cond.selects RX1 yX1_foundLast yX1_foundLast, Cond.code yX1_foundLast cX1_foundLast 5 (some .int), Cond.fieldLink RX1 34 "LampCounts$Lamps" "findings" "I", Cond.fieldLink RX1 25 "LampCounts$Lamps" "foundSection" "[I", Cond.fieldLink RX1 28 "LampCounts$Lamps" "foundHour" "[I", Cond.fieldLink RX1 31 "LampCounts$Lamps" "foundBlind" "[I", Cond.methodLink RX1 60 yX1_nearestAhead]
def wsL_countAnew_r3 : List Cond := [Cond.instanceMethod yX1_nearestAhead, Cond.selects RX1 yX1_nearestAhead yX1_nearestAhead, Cond.code yX1_nearestAhead cX1_nearestAhead 4 (some .int), Cond.methodLink RX1 63 yX1_nearestBehind, Cond.instanceMethod yX1_nearestBehind, Cond.selects RX1 yX1_nearestBehind yX1_nearestBehind, Cond.code yX1_nearestBehind cX1_nearestBehind 4 (some .int), Cond.methodLink RX1 66 yX1_filled, Cond.static yX1_filled, Cond.code yX1_filled cX1_filled 2 (some .int)]
def wsL_countAnew : List Cond := .codeWith yL_countAnew cL_countAnew 5 (some .int) [(0, 10, 13, 13), (0, 10, 17, 15)] :: ((wsL_countAnew_r1 ++ (wsL_countAnew_r2 ++ wsL_countAnew_r3)) ++ wsX40 ++ wsX10 ++ (vx_atS RX4 203 "java/lang/IndexOutOfBoundsException" ["java/lang/RuntimeException", "java/lang/Exception"]).filter goodWord ++ (vx_atS RX4 210 "java/lang/IllegalArgumentException" ["java/lang/RuntimeException", "java/lang/Exception"]).filter goodWord)
def wsL_missed_r1 : List Cond := [Cond.classLink RL 15 "java/lang/IllegalArgumentException", Cond.methodLink RL 74 yX4_missed, Cond.instanceMethod yX4_missed, Cond.selects RX4 yX4_missed yX4_missed, Cond.initialized RX4, Cond.code yX4_missed cX4_missed 5 (some .int), Cond.fieldLink RX4 19 "LampCounts" "lamps" "LLampCounts$Lamps;", Cond.fieldLink RX4 163 "LampCounts$Lamps" "kept" "[I", Cond.fieldLink RX4 12 "LampCounts" "street" "LLampCounts$Street;", Cond.fieldLink RX4 148 "LampCounts$Street" "walked" "[I", Cond.methodLink RX4 169 Lib.Math.abs.name, Cond.static Lib.Math.abs.name, Cond.initialized "java/lang/Math", Cond.code Lib.Math.abs.name Lib.Math.abs.code 1 (some .int), Cond.methodLink RX4 84 yX4_requireEnded, Cond.instanceMethod yX4_requireEnded, Cond.selects RX4 yX4_requireEnded yX4_requireEnded, Cond.code yX4_requireEnded cX4_requireEnded 2 none, Cond.fieldLink RX4 41 "LampCounts" "now" "I", Cond.methodLink RX4 49 yX4_requireWithin, Cond.static yX4_requireWithin, Cond.code yX4_requireWithin cX4_requireWithin 3 none, Cond.classLink RX4 206 "java/lang/IllegalArgumentException", Cond.initialized "java/lang/IllegalArgumentException"]
def wsL_missed_r2 : List Cond := [Cond.methodLink RX4 95 yX4_cell, Cond.static yX4_cell, Cond.code yX4_cell cX4_cell 2 (some .int)]
def wsL_missed : List Cond := .codeWith yL_missed cL_missed 4 (some .int) [(0, 9, 12, 15)] :: ((wsL_missed_r1 ++ wsL_missed_r2) ++ wsX40 ++ wsX10 ++ wsX30 ++ (vx_atS RX4 210 "java/lang/IllegalArgumentException" ["java/lang/RuntimeException", "java/lang/Exception"]).filter goodWord)
def wsL_isOf_r1 : List Cond := [Cond.classLink RL 13 "java/lang/IndexOutOfBoundsException", Cond.methodLink RL 77 yX4_isOf, Cond.instanceMethod yX4_isOf, Cond.selects RX4 yX4_isOf yX4_isOf, Cond.initialized RX4, Cond.code yX4_isOf cX4_isOf 3 (some .boolean), Cond.fieldLink RX4 33 "LampCounts" "made" "Ljava/util/ArrayList;", Cond.classLink RX4 101 "LampCounts$Lease", Cond.methodLink RX4 98 yJx4a65c_size_8abf5, Cond.instanceMethod yJx4a65c_size_8abf5, Cond.selects RJx4a65c yJx4a65c_size_8abf5 yJx4a65c_size_8abf5, Cond.initialized RJx4a65c, Cond.code yJx4a65c_size_8abf5 cJx4a65c_size_8abf5 1 (some .int), Cond.fieldLink RJx4a65c 48 "java/util/ArrayList" "size" "I", Cond.methodLink RX4 45 yX4_requireIndex, Cond.static yX4_requireIndex, Cond.code yX4_requireIndex cX4_requireIndex 2 none, Cond.classLink RX4 199 "java/lang/IndexOutOfBoundsException", Cond.initialized "java/lang/IndexOutOfBoundsException", Cond.methodLink RX4 114 yJx4a65c_get_915e3, Cond.instanceMethod yJx4a65c_get_915e3, Cond.selects RJx4a65c yJx4a65c_get_915e3 yJx4a65c_get_915e3, Cond.code yJx4a65c_get_915e3 cJx4a65c_get_915e3 2 (some (.object "java/lang/Object")), Cond.methodLink RJx4a65c 118 yJ15_checkIndex_7cf53]
def wsL_isOf_r2 : List Cond := [Cond.static yJ15_checkIndex_7cf53, Cond.initialized RJ15, Cond.code yJ15_checkIndex_7cf53 cJ15_checkIndex_7cf53 2 (some .int), Cond.methodLink RJ15 105 yJ3_checkIndex_8e157, Cond.static yJ3_checkIndex_8e157, Cond.initialized RJ3, Cond.code yJ3_checkIndex_8e157 cJ3_checkIndex_8e157 3 (some .int), Cond.methodLink RJx4a65c 123 yJx4a65c_elementData_915e3, Cond.instanceMethod yJx4a65c_elementData_915e3, Cond.selects RJx4a65c yJx4a65c_elementData_915e3 yJx4a65c_elementData_915e3, Cond.code yJx4a65c_elementData_915e3 cJx4a65c_elementData_915e3 2 (some (.object "java/lang/Object")), Cond.fieldLink RJx4a65c 9 "java/util/ArrayList" "elementData" "[Ljava/lang/Object;", Cond.methodLink RX4 174 yX2_covers, Cond.instanceMethod yX2_covers, Cond.selects RX2 yX2_covers yX2_covers, Cond.initialized RX2, Cond.code yX2_covers cX2_covers 2 (some .boolean), Cond.fieldLink RX2 33 "LampCounts$Lease" "start" "I", Cond.fieldLink RX2 36 "LampCounts$Lease" "end" "I"]
def wsL_isOf : List Cond := .codeWith yL_isOf cL_isOf 5 (some .int) [(0, 17, 20, 13)] :: ((wsL_isOf_r1 ++ wsL_isOf_r2) ++ wsX40 ++ wsJx4a65c0 ++ wsX20 ++ (vx_atS RX4 203 "java/lang/IndexOutOfBoundsException" ["java/lang/RuntimeException", "java/lang/Exception"]).filter goodWord)
def wsL_billed_r1 : List Cond := [Cond.classLink RL 13 "java/lang/IndexOutOfBoundsException", Cond.methodLink RL 81 yX4_billed, Cond.instanceMethod yX4_billed, Cond.selects RX4 yX4_billed yX4_billed, Cond.initialized RX4, Cond.code yX4_billed cX4_billed 2 (some .int), Cond.fieldLink RX4 33 "LampCounts" "made" "Ljava/util/ArrayList;", Cond.classLink RX4 101 "LampCounts$Lease", Cond.fieldLink RX4 178 "LampCounts$Lease" "bill" "I", Cond.methodLink RX4 98 yJx4a65c_size_8abf5, Cond.instanceMethod yJx4a65c_size_8abf5, Cond.selects RJx4a65c yJx4a65c_size_8abf5 yJx4a65c_size_8abf5, Cond.initialized RJx4a65c, Cond.code yJx4a65c_size_8abf5 cJx4a65c_size_8abf5 1 (some .int), Cond.fieldLink RJx4a65c 48 "java/util/ArrayList" "size" "I", Cond.methodLink RX4 45 yX4_requireIndex, Cond.static yX4_requireIndex, Cond.code yX4_requireIndex cX4_requireIndex 2 none, Cond.classLink RX4 199 "java/lang/IndexOutOfBoundsException", Cond.initialized "java/lang/IndexOutOfBoundsException", Cond.methodLink RX4 114 yJx4a65c_get_915e3, Cond.instanceMethod yJx4a65c_get_915e3, Cond.selects RJx4a65c yJx4a65c_get_915e3 yJx4a65c_get_915e3, Cond.code yJx4a65c_get_915e3 cJx4a65c_get_915e3 2 (some (.object "java/lang/Object"))]
def wsL_billed_r2 : List Cond := [Cond.methodLink RJx4a65c 118 yJ15_checkIndex_7cf53, Cond.static yJ15_checkIndex_7cf53, Cond.initialized RJ15, Cond.code yJ15_checkIndex_7cf53 cJ15_checkIndex_7cf53 2 (some .int), Cond.methodLink RJ15 105 yJ3_checkIndex_8e157, Cond.static yJ3_checkIndex_8e157, Cond.initialized RJ3, Cond.code yJ3_checkIndex_8e157 cJ3_checkIndex_8e157 3 (some .int), Cond.methodLink RJx4a65c 123 yJx4a65c_elementData_915e3, Cond.instanceMethod yJx4a65c_elementData_915e3, Cond.selects RJx4a65c yJx4a65c_elementData_915e3 yJx4a65c_elementData_915e3, Cond.code yJx4a65c_elementData_915e3 cJx4a65c_elementData_915e3 2 (some (.object "java/lang/Object")), Cond.fieldLink RJx4a65c 9 "java/util/ArrayList" "elementData" "[Ljava/lang/Object;"]
def wsL_billed : List Cond := .codeWith yL_billed cL_billed 4 (some .int) [(0, 9, 12, 13)] :: ((wsL_billed_r1 ++ wsL_billed_r2) ++ wsX40 ++ wsX20 ++ wsJx4a65c0 ++ (vx_atS RX4 203 "java/lang/IndexOutOfBoundsException" ["java/lang/RuntimeException", "java/lang/Exception"]).filter goodWord)
def wsL_billedAnew_r1 : List Cond := [Cond.classLink RL 13 "java/lang/IndexOutOfBoundsException", Cond.methodLink RL 84 yX4_billedAnew, Cond.instanceMethod yX4_billedAnew, Cond.selects RX4 yX4_billedAnew yX4_billedAnew, Cond.initialized RX4, Cond.code yX4_billedAnew cX4_billedAnew 5 (some .int), Cond.fieldLink RX4 33 "LampCounts" "made" "Ljava/util/ArrayList;", Cond.classLink RX4 101 "LampCounts$Lease", Cond.fieldLink RX4 121 "LampCounts$Lease" "start" "I", Cond.fieldLink RX4 118 "LampCounts$Lease" "end" "I", Cond.fieldLink RX4 41 "LampCounts" "now" "I", Cond.fieldLink RX4 19 "LampCounts" "lamps" "LLampCounts$Lamps;", Cond.fieldLink RX4 181 "LampCounts$Lease" "section" "I", Cond.methodLink RX4 98 yJx4a65c_size_8abf5, Cond.instanceMethod yJx4a65c_size_8abf5, Cond.selects RJx4a65c yJx4a65c_size_8abf5 yJx4a65c_size_8abf5, Cond.initialized RJx4a65c, Cond.code yJx4a65c_size_8abf5 cJx4a65c_size_8abf5 1 (some .int), Cond.fieldLink RJx4a65c 48 "java/util/ArrayList" "size" "I", Cond.methodLink RX4 45 yX4_requireIndex, Cond.static yX4_requireIndex, Cond.code yX4_requireIndex cX4_requireIndex 2 none, Cond.classLink RX4 199 "java/lang/IndexOutOfBoundsException", Cond.initialized "java/lang/IndexOutOfBoundsException"]
def wsL_billedAnew_r2 : List Cond := [Cond.methodLink RX4 114 yJx4a65c_get_915e3, Cond.instanceMethod yJx4a65c_get_915e3, Cond.selects RJx4a65c yJx4a65c_get_915e3 yJx4a65c_get_915e3, Cond.code yJx4a65c_get_915e3 cJx4a65c_get_915e3 2 (some (.object "java/lang/Object")), Cond.methodLink RJx4a65c 118 yJ15_checkIndex_7cf53, Cond.static yJ15_checkIndex_7cf53, Cond.initialized RJ15, Cond.code yJ15_checkIndex_7cf53 cJ15_checkIndex_7cf53 2 (some .int), Cond.methodLink RJ15 105 yJ3_checkIndex_8e157, Cond.static yJ3_checkIndex_8e157, Cond.initialized RJ3, Cond.code yJ3_checkIndex_8e157 cJ3_checkIndex_8e157 3 (some .int), Cond.methodLink RJx4a65c 123 yJx4a65c_elementData_915e3, Cond.instanceMethod yJx4a65c_elementData_915e3, Cond.selects RJx4a65c yJx4a65c_elementData_915e3 yJx4a65c_elementData_915e3, Cond.code yJx4a65c_elementData_915e3 cJx4a65c_elementData_915e3 2 (some (.object "java/lang/Object")), Cond.fieldLink RJx4a65c 9 "java/util/ArrayList" "elementData" "[Ljava/lang/Object;", Cond.methodLink RX4 166 yX1_foundAnew, Cond.instanceMethod yX1_foundAnew, Cond.selects RX1 yX1_foundAnew yX1_foundAnew, Cond.initialized RX1, Cond.code yX1_foundAnew cX1_foundAnew 5 (some .int), Cond.methodLink RX1 47 yX1_isLost, Cond.instanceMethod yX1_isLost]
def wsL_billedAnew_r3 : List Cond := [Cond.selects RX1 yX1_isLost yX1_isLost, Cond.code yX1_isLost cX1_isLost 3 (some .boolean), Cond.fieldLink RX1 19 "LampCounts$Lamps" "readings" "[I", Cond.static yX4_cell, Cond.code yX4_cell cX4_cell 2 (some .int), Cond.methodLink RX1 51 yX1_countOfReading, Cond.instanceMethod yX1_countOfReading, Cond.selects RX1 yX1_countOfReading yX1_countOfReading, Cond.code yX1_countOfReading cX1_countOfReading 4 (some .int), Cond.methodLink RX1 57 yX1_foundLast, Cond.instanceMethod yX1_foundLast, Cond.selects RX1 yX1_foundLast yX1_foundLast, Cond.code yX1_foundLast cX1_foundLast 5 (some .int), Cond.fieldLink RX1 34 "LampCounts$Lamps" "findings" "I", Cond.fieldLink RX1 25 "LampCounts$Lamps" "foundSection" "[I", Cond.fieldLink RX1 28 "LampCounts$Lamps" "foundHour" "[I", Cond.fieldLink RX1 31 "LampCounts$Lamps" "foundBlind" "[I", Cond.methodLink RX1 60 yX1_nearestAhead, Cond.instanceMethod yX1_nearestAhead, Cond.selects RX1 yX1_nearestAhead yX1_nearestAhead, Cond.code yX1_nearestAhead cX1_nearestAhead 4 (some .int), Cond.methodLink RX1 63 yX1_nearestBehind, Cond.instanceMethod yX1_nearestBehind, Cond.selects RX1 yX1_nearestBehind yX1_nearestBehind]
def wsL_billedAnew_r4 : List Cond := [Cond.code yX1_nearestBehind cX1_nearestBehind 4 (some .int), Cond.methodLink RX1 66 yX1_filled, Cond.static yX1_filled, Cond.code yX1_filled cX1_filled 2 (some .int), Cond.methodLink RX4 184 yX2_rentFor, Cond.instanceMethod yX2_rentFor, Cond.selects RX2 yX2_rentFor yX2_rentFor, Cond.initialized RX2, Cond.code yX2_rentFor cX2_rentFor 2 (some .int), Cond.fieldLink RX2 27 "LampCounts$Lease" "base" "I", Cond.fieldLink RX2 30 "LampCounts$Lease" "rate" "I"]
def wsL_billedAnew : List Cond := .codeWith yL_billedAnew cL_billedAnew 4 (some .int) [(0, 9, 12, 13)] :: ((wsL_billedAnew_r1 ++ (wsL_billedAnew_r2 ++ (wsL_billedAnew_r3 ++ wsL_billedAnew_r4))) ++ wsX40 ++ wsX20 ++ wsJx4a65c0 ++ wsX10 ++ (vx_atS RX4 203 "java/lang/IndexOutOfBoundsException" ["java/lang/RuntimeException", "java/lang/Exception"]).filter goodWord)
def wsL_corrected_r1 : List Cond := [Cond.classLink RL 13 "java/lang/IndexOutOfBoundsException", Cond.methodLink RL 87 yX4_corrected, Cond.instanceMethod yX4_corrected, Cond.selects RX4 yX4_corrected yX4_corrected, Cond.initialized RX4, Cond.code yX4_corrected cX4_corrected 2 (some .int), Cond.fieldLink RX4 33 "LampCounts" "made" "Ljava/util/ArrayList;", Cond.classLink RX4 101 "LampCounts$Lease", Cond.fieldLink RX4 187 "LampCounts$Lease" "corrections" "I", Cond.methodLink RX4 98 yJx4a65c_size_8abf5, Cond.instanceMethod yJx4a65c_size_8abf5, Cond.selects RJx4a65c yJx4a65c_size_8abf5 yJx4a65c_size_8abf5, Cond.initialized RJx4a65c, Cond.code yJx4a65c_size_8abf5 cJx4a65c_size_8abf5 1 (some .int), Cond.fieldLink RJx4a65c 48 "java/util/ArrayList" "size" "I", Cond.methodLink RX4 45 yX4_requireIndex, Cond.static yX4_requireIndex, Cond.code yX4_requireIndex cX4_requireIndex 2 none, Cond.classLink RX4 199 "java/lang/IndexOutOfBoundsException", Cond.initialized "java/lang/IndexOutOfBoundsException", Cond.methodLink RX4 114 yJx4a65c_get_915e3, Cond.instanceMethod yJx4a65c_get_915e3, Cond.selects RJx4a65c yJx4a65c_get_915e3 yJx4a65c_get_915e3, Cond.code yJx4a65c_get_915e3 cJx4a65c_get_915e3 2 (some (.object "java/lang/Object"))]
def wsL_corrected_r2 : List Cond := [Cond.methodLink RJx4a65c 118 yJ15_checkIndex_7cf53, Cond.static yJ15_checkIndex_7cf53, Cond.initialized RJ15, Cond.code yJ15_checkIndex_7cf53 cJ15_checkIndex_7cf53 2 (some .int), Cond.methodLink RJ15 105 yJ3_checkIndex_8e157, Cond.static yJ3_checkIndex_8e157, Cond.initialized RJ3, Cond.code yJ3_checkIndex_8e157 cJ3_checkIndex_8e157 3 (some .int), Cond.methodLink RJx4a65c 123 yJx4a65c_elementData_915e3, Cond.instanceMethod yJx4a65c_elementData_915e3, Cond.selects RJx4a65c yJx4a65c_elementData_915e3 yJx4a65c_elementData_915e3, Cond.code yJx4a65c_elementData_915e3 cJx4a65c_elementData_915e3 2 (some (.object "java/lang/Object")), Cond.fieldLink RJx4a65c 9 "java/util/ArrayList" "elementData" "[Ljava/lang/Object;"]
def wsL_corrected : List Cond := .codeWith yL_corrected cL_corrected 4 (some .int) [(0, 9, 12, 13)] :: ((wsL_corrected_r1 ++ wsL_corrected_r2) ++ wsX40 ++ wsX20 ++ wsJx4a65c0 ++ (vx_atS RX4 203 "java/lang/IndexOutOfBoundsException" ["java/lang/RuntimeException", "java/lang/Exception"]).filter goodWord)
def wsL_owes_r1 : List Cond := [Cond.classLink RL 13 "java/lang/IndexOutOfBoundsException", Cond.methodLink RL 90 yX4_owes, Cond.instanceMethod yX4_owes, Cond.selects RX4 yX4_owes yX4_owes, Cond.initialized RX4, Cond.code yX4_owes cX4_owes 2 (some .int), Cond.methodLink RX4 45 yX4_requireIndex, Cond.static yX4_requireIndex, Cond.code yX4_requireIndex cX4_requireIndex 2 none, Cond.classLink RX4 199 "java/lang/IndexOutOfBoundsException", Cond.initialized "java/lang/IndexOutOfBoundsException", Cond.methodLink RX4 126 yX4_debt, Cond.instanceMethod yX4_debt, Cond.selects RX4 yX4_debt yX4_debt, Cond.code yX4_debt cX4_debt 5 (some .int), Cond.fieldLink RX4 37 "LampCounts" "paid" "[I", Cond.fieldLink RX4 33 "LampCounts" "made" "Ljava/util/ArrayList;", Cond.classLink RX4 101 "LampCounts$Lease", Cond.fieldLink RX4 247 "LampCounts$Lease" "tenant" "I", Cond.fieldLink RX4 178 "LampCounts$Lease" "bill" "I", Cond.methodLink RX4 98 yJx4a65c_size_8abf5, Cond.instanceMethod yJx4a65c_size_8abf5, Cond.selects RJx4a65c yJx4a65c_size_8abf5 yJx4a65c_size_8abf5, Cond.initialized RJx4a65c]
def wsL_owes_r2 : List Cond := [Cond.code yJx4a65c_size_8abf5 cJx4a65c_size_8abf5 1 (some .int), Cond.fieldLink RJx4a65c 48 "java/util/ArrayList" "size" "I", Cond.methodLink RX4 114 yJx4a65c_get_915e3, Cond.instanceMethod yJx4a65c_get_915e3, Cond.selects RJx4a65c yJx4a65c_get_915e3 yJx4a65c_get_915e3, Cond.code yJx4a65c_get_915e3 cJx4a65c_get_915e3 2 (some (.object "java/lang/Object")), Cond.methodLink RJx4a65c 118 yJ15_checkIndex_7cf53, Cond.static yJ15_checkIndex_7cf53, Cond.initialized RJ15, Cond.code yJ15_checkIndex_7cf53 cJ15_checkIndex_7cf53 2 (some .int), Cond.methodLink RJ15 105 yJ3_checkIndex_8e157, Cond.static yJ3_checkIndex_8e157, Cond.initialized RJ3, Cond.code yJ3_checkIndex_8e157 cJ3_checkIndex_8e157 3 (some .int), Cond.methodLink RJx4a65c 123 yJx4a65c_elementData_915e3, Cond.instanceMethod yJx4a65c_elementData_915e3, Cond.selects RJx4a65c yJx4a65c_elementData_915e3 yJx4a65c_elementData_915e3, Cond.code yJx4a65c_elementData_915e3 cJx4a65c_elementData_915e3 2 (some (.object "java/lang/Object")), Cond.fieldLink RJx4a65c 9 "java/util/ArrayList" "elementData" "[Ljava/lang/Object;"]
def wsL_owes : List Cond := .codeWith yL_owes cL_owes 4 (some .int) [(0, 9, 12, 13)] :: ((wsL_owes_r1 ++ wsL_owes_r2) ++ wsX40 ++ wsX20 ++ wsJx4a65c0 ++ (vx_atS RX4 203 "java/lang/IndexOutOfBoundsException" ["java/lang/RuntimeException", "java/lang/Exception"]).filter goodWord)
def wsL_player_r1 : List Cond := [Cond.classLink RL 13 "java/lang/IndexOutOfBoundsException", Cond.classLink RL 15 "java/lang/IllegalArgumentException", Cond.methodLink RL 93 yX4_player, Cond.instanceMethod yX4_player, Cond.selects RX4 yX4_player yX4_player, Cond.initialized RX4, Cond.code yX4_player cX4_player 3 (some .int), Cond.fieldLink RX4 26 "LampCounts" "buskers" "LLampCounts$Buskers;", Cond.fieldLink RX4 190 "LampCounts$Buskers" "players" "[I", Cond.methodLink RX4 151 yX4_endedCell, Cond.instanceMethod yX4_endedCell, Cond.selects RX4 yX4_endedCell yX4_endedCell, Cond.code yX4_endedCell cX4_endedCell 3 (some .int), Cond.methodLink RX4 45 yX4_requireIndex, Cond.static yX4_requireIndex, Cond.code yX4_requireIndex cX4_requireIndex 2 none, Cond.classLink RX4 199 "java/lang/IndexOutOfBoundsException", Cond.initialized "java/lang/IndexOutOfBoundsException", Cond.methodLink RX4 84 yX4_requireEnded, Cond.instanceMethod yX4_requireEnded, Cond.selects RX4 yX4_requireEnded yX4_requireEnded, Cond.code yX4_requireEnded cX4_requireEnded 2 none, Cond.fieldLink RX4 41 "LampCounts" "now" "I", Cond.methodLink RX4 49 yX4_requireWithin]
def wsL_player_r2 : List Cond := [Cond.static yX4_requireWithin, Cond.code yX4_requireWithin cX4_requireWithin 3 none, Cond.classLink RX4 206 "java/lang/IllegalArgumentException", Cond.initialized "java/lang/IllegalArgumentException", Cond.methodLink RX4 95 yX4_cell, Cond.static yX4_cell, Cond.code yX4_cell cX4_cell 2 (some .int)]
def wsL_player : List Cond := .codeWith yL_player cL_player 5 (some .int) [(0, 10, 13, 13), (0, 10, 17, 15)] :: ((wsL_player_r1 ++ wsL_player_r2) ++ wsX40 ++ wsX00 ++ (vx_atS RX4 203 "java/lang/IndexOutOfBoundsException" ["java/lang/RuntimeException", "java/lang/Exception"]).filter goodWord ++ (vx_atS RX4 210 "java/lang/IllegalArgumentException" ["java/lang/RuntimeException", "java/lang/Exception"]).filter goodWord)
def wsL_played : List Cond := .codeWith yL_played cL_played 4 (some .int) [(0, 9, 12, 13)] :: ([.classLink RL 13 "java/lang/IndexOutOfBoundsException", .methodLink RL 96 yX4_played, .instanceMethod yX4_played, .selects RX4 yX4_played yX4_played, .initialized RX4, .code yX4_played cX4_played 2 (some .int), .fieldLink RX4 26 "LampCounts" "buskers" "LLampCounts$Buskers;", .fieldLink RX4 193 "LampCounts$Buskers" "hoursPlayed" "[I", .methodLink RX4 45 yX4_requireIndex, .static yX4_requireIndex, .code yX4_requireIndex cX4_requireIndex 2 none, .classLink RX4 199 "java/lang/IndexOutOfBoundsException", .initialized "java/lang/IndexOutOfBoundsException"] ++ wsX40 ++ wsX00 ++ (vx_atS RX4 203 "java/lang/IndexOutOfBoundsException" ["java/lang/RuntimeException", "java/lang/Exception"]).filter goodWord)
def wsL_coins : List Cond := .codeWith yL_coins cL_coins 4 (some .int) [(0, 9, 12, 13)] :: ([.classLink RL 13 "java/lang/IndexOutOfBoundsException", .methodLink RL 99 yX4_coins, .instanceMethod yX4_coins, .selects RX4 yX4_coins yX4_coins, .initialized RX4, .code yX4_coins cX4_coins 2 (some .int), .fieldLink RX4 26 "LampCounts" "buskers" "LLampCounts$Buskers;", .fieldLink RX4 196 "LampCounts$Buskers" "purses" "[I", .methodLink RX4 45 yX4_requireIndex, .static yX4_requireIndex, .code yX4_requireIndex cX4_requireIndex 2 none, .classLink RX4 199 "java/lang/IndexOutOfBoundsException", .initialized "java/lang/IndexOutOfBoundsException"] ++ wsX40 ++ wsX00 ++ (vx_atS RX4 203 "java/lang/IndexOutOfBoundsException" ["java/lang/RuntimeException", "java/lang/Exception"]).filter goodWord)
def wsL_law0_r1 : List Cond := [Cond.classLink RL 8 RX4, Cond.instantiable RX4 6, Cond.initialized RX4, Cond.classLink RL 103 RX5, Cond.instantiable RX5 33, Cond.initialized RX5, Cond.arrayClass .long, Cond.methodLink RL 102 yX4_init, Cond.instanceMethod yX4_init, Cond.code yX4_init cX4_init 1 none, Cond.methodLink RX4 3 objectInit, Cond.instanceMethod objectInit, Cond.code objectInit ⟨#[0xb1]⟩ 1 none, Cond.classLink RX4 9 RX3, Cond.instantiable RX3 5, Cond.initialized RX3, Cond.fieldLink RX4 12 "LampCounts" "street" "LLampCounts$Street;", Cond.classLink RX4 16 RX1, Cond.instantiable RX1 8, Cond.initialized RX1, Cond.fieldLink RX4 19 "LampCounts" "lamps" "LLampCounts$Lamps;", Cond.classLink RX4 23 RX0, Cond.instantiable RX0 9, Cond.initialized RX0]
def wsL_law0_r2 : List Cond := [Cond.fieldLink RX4 26 "LampCounts" "buskers" "LLampCounts$Buskers;", Cond.classLink RX4 30 RJx4a65c, Cond.instantiable RJx4a65c 3, Cond.initialized RJx4a65c, Cond.fieldLink RX4 33 "LampCounts" "made" "Ljava/util/ArrayList;", Cond.arrayClass .int, Cond.fieldLink RX4 37 "LampCounts" "paid" "[I", Cond.fieldLink RX4 41 "LampCounts" "now" "I", Cond.instanceMethod yX3_init, Cond.code yX3_init cX3_init 1 none, Cond.methodLink RX3 3 objectInit, Cond.fieldLink RX3 9 "LampCounts$Street" "comeIn" "[I", Cond.fieldLink RX3 15 "LampCounts$Street" "leave" "[I", Cond.fieldLink RX3 18 "LampCounts$Street" "walked" "[I", Cond.fieldLink RX3 21 "LampCounts$Street" "stopped" "[I", Cond.fieldLink RX3 24 "LampCounts$Street" "wentOut" "[I", Cond.instanceMethod yX1_init, Cond.code yX1_init cX1_init 1 none, Cond.methodLink RX1 3 objectInit, Cond.arrayClass .boolean, Cond.fieldLink RX1 9 "LampCounts$Lamps" "broken" "[Z", Cond.fieldLink RX1 15 "LampCounts$Lamps" "blindSpots" "[I", Cond.fieldLink RX1 19 "LampCounts$Lamps" "readings" "[I", Cond.fieldLink RX1 22 "LampCounts$Lamps" "kept" "[I"]
def wsL_law0_r3 : List Cond := [Cond.fieldLink RX1 25 "LampCounts$Lamps" "foundSection" "[I", Cond.fieldLink RX1 28 "LampCounts$Lamps" "foundHour" "[I", Cond.fieldLink RX1 31 "LampCounts$Lamps" "foundBlind" "[I", Cond.fieldLink RX1 34 "LampCounts$Lamps" "findings" "I", Cond.methodLink RX4 25 yX0_init, Cond.instanceMethod yX0_init, Cond.code yX0_init cX0_init 1 none, Cond.methodLink RX0 3 objectInit, Cond.fieldLink RX0 9 "LampCounts$Buskers" "skills" "[I", Cond.fieldLink RX0 15 "LampCounts$Buskers" "hoursPlayed" "[I", Cond.fieldLink RX0 18 "LampCounts$Buskers" "purses" "[I", Cond.fieldLink RX0 21 "LampCounts$Buskers" "asks" "[Z", Cond.fieldLink RX0 25 "LampCounts$Buskers" "playing" "[Z", Cond.fieldLink RX0 28 "LampCounts$Buskers" "tied" "[I", Cond.fieldLink RX0 31 "LampCounts$Buskers" "players" "[I", Cond.fieldLink RX0 34 "LampCounts$Buskers" "told" "[I", Cond.fieldLink RX0 37 "LampCounts$Buskers" "lotsLeft" "I", Cond.methodLink RX0 41 yJ7_fill_53178, Cond.static yJ7_fill_53178, Cond.initialized RJ7, Cond.code yJ7_fill_53178 cJ7_fill_53178 4 none, Cond.methodLink RX4 32 yJx4a65c_init_da8c8, Cond.instanceMethod yJx4a65c_init_da8c8, Cond.code yJx4a65c_init_da8c8 cJx4a65c_init_da8c8 1 none]
def wsL_law0_r4 : List Cond := [Cond.fieldLink RJx4a65c 39 "java/util/ArrayList" "DEFAULTCAPACITY_EMPTY_ELEMENTDATA" "[Ljava/lang/Object;", Cond.fieldLink RJx4a65c 9 "java/util/ArrayList" "elementData" "[Ljava/lang/Object;", Cond.methodLink RJx4a65c 1 yJxc12de_init_da8c8, Cond.instanceMethod yJxc12de_init_da8c8, Cond.initialized RJxc12de, Cond.code yJxc12de_init_da8c8 cJxc12de_init_da8c8 1 none, Cond.fieldLink RJxc12de 7 "java/util/AbstractList" "modCount" "I", Cond.methodLink RJxc12de 1 yJxa1e45_init_da8c8, Cond.instanceMethod yJxa1e45_init_da8c8, Cond.initialized RJxa1e45, Cond.code yJxa1e45_init_da8c8 cJxa1e45_init_da8c8 1 none, Cond.methodLink RJxa1e45 1 objectInit, Cond.methodLink RL 105 yX5_init, Cond.instanceMethod yX5_init, Cond.code yX5_init cX5_init 2 none, Cond.methodLink RX5 1 objectInit, Cond.fieldLink RX5 7 "LampCountsModel" "comes" "[I", Cond.fieldLink RX5 13 "LampCountsModel" "share" "[I", Cond.fieldLink RX5 16 "LampCountsModel" "broken" "[Z", Cond.fieldLink RX5 20 "LampCountsModel" "blind" "[I", Cond.fieldLink RX5 23 "LampCountsModel" "steps" "[I", Cond.fieldLink RX5 26 "LampCountsModel" "crowd" "[I", Cond.fieldLink RX5 29 "LampCountsModel" "reading" "[I", Cond.fieldLink RX5 32 "LampCountsModel" "player" "[I"]
def wsL_law0_r5 : List Cond := [Cond.fieldLink RX5 35 "LampCountsModel" "through" "[I", Cond.fieldLink RX5 38 "LampCountsModel" "where" "[I", Cond.fieldLink RX5 41 "LampCountsModel" "since" "[I", Cond.fieldLink RX5 44 "LampCountsModel" "found" "[I", Cond.fieldLink RX5 47 "LampCountsModel" "door" "[I", Cond.fieldLink RX5 50 "LampCountsModel" "tenant" "[I", Cond.fieldLink RX5 53 "LampCountsModel" "base" "[I", Cond.fieldLink RX5 56 "LampCountsModel" "rate" "[I", Cond.fieldLink RX5 59 "LampCountsModel" "first" "[I", Cond.fieldLink RX5 62 "LampCountsModel" "end" "[I", Cond.fieldLink RX5 65 "LampCountsModel" "quits" "[Z", Cond.fieldLink RX5 68 "LampCountsModel" "corrections" "[I", Cond.fieldLink RX5 71 "LampCountsModel" "before" "[I", Cond.fieldLink RX5 74 "LampCountsModel" "paid" "[I", Cond.fieldLink RX5 77 "LampCountsModel" "skill" "[I", Cond.fieldLink RX5 80 "LampCountsModel" "played" "[I", Cond.fieldLink RX5 83 "LampCountsModel" "coins" "[I", Cond.fieldLink RX5 86 "LampCountsModel" "asks" "[I", Cond.fieldLink RX5 89 "LampCountsModel" "playedThen" "[I", Cond.fieldLink RX5 92 "LampCountsModel" "lot" "[I", Cond.methodLink RL 106 yL_setPeople, Cond.static yL_setPeople, Cond.initialized RL, Cond.codeWith yL_setPeople cL_setPeople 6 (some .int) [(0, 12, 15, 13), (0, 12, 19, 15)]]
def wsL_law0_r6 : List Cond := [Cond.classLink RL 13 "java/lang/IndexOutOfBoundsException", Cond.classLink RL 15 "java/lang/IllegalArgumentException", Cond.methodLink RL 7 yX4_setPeople, Cond.instanceMethod yX4_setPeople, Cond.selects RX4 yX4_setPeople yX4_setPeople, Cond.code yX4_setPeople cX4_setPeople 5 (some .int), Cond.fieldLink RX4 53 "LampCounts$Street" "comeIn" "[I", Cond.fieldLink RX4 56 "LampCounts$Street" "leave" "[I", Cond.methodLink RX4 45 yX4_requireIndex, Cond.static yX4_requireIndex, Cond.code yX4_requireIndex cX4_requireIndex 2 none, Cond.classLink RX4 199 "java/lang/IndexOutOfBoundsException", Cond.initialized "java/lang/IndexOutOfBoundsException", Cond.methodLink RX4 49 yX4_requireWithin, Cond.static yX4_requireWithin, Cond.code yX4_requireWithin cX4_requireWithin 3 none, Cond.classLink RX4 206 "java/lang/IllegalArgumentException", Cond.initialized "java/lang/IllegalArgumentException", Cond.methodLink RL 111 yX5_setPeople, Cond.instanceMethod yX5_setPeople, Cond.selects RX5 yX5_setPeople yX5_setPeople, Cond.code yX5_setPeople cX5_setPeople 5 (some .int), Cond.fieldLink RX5 95 "LampCountsModel" "thrown" "I", Cond.methodLink RX5 139 yX5_isSection]
def wsL_law0_r7 : List Cond := [Cond.static yX5_isSection, Cond.code yX5_isSection cX5_isSection 1 (some .boolean), Cond.methodLink RX5 99 yX5_in, Cond.static yX5_in, Cond.code yX5_in cX5_in 3 (some .boolean), Cond.methodLink RX5 132 yX5_fails, Cond.instanceMethod yX5_fails, Cond.selects RX5 yX5_fails yX5_fails, Cond.code yX5_fails cX5_fails 2 (some .int), Cond.methodLink RL 112 yX5_thrown, Cond.instanceMethod yX5_thrown, Cond.selects RX5 yX5_thrown yX5_thrown, Cond.code yX5_thrown cX5_thrown 1 (some .int), Cond.methodLink RL 116 yL_pass, Cond.static yL_pass, Cond.codeWith yL_pass cL_pass 4 (some .int) [(0, 9, 12, 15), (0, 9, 15, 21)], Cond.classLink RL 21 "java/lang/IllegalStateException", Cond.methodLink RL 17 yX4_pass, Cond.instanceMethod yX4_pass, Cond.selects RX4 yX4_pass yX4_pass, Cond.code yX4_pass cX4_pass 4 (some .int), Cond.methodLink RX4 59 yX4_requireState, Cond.static yX4_requireState, Cond.code yX4_requireState cX4_requireState 1 none]
def wsL_law0_r8 : List Cond := [Cond.classLink RX4 211 "java/lang/IllegalStateException", Cond.initialized "java/lang/IllegalStateException", Cond.methodLink RX4 63 yX4_endHour, Cond.instanceMethod yX4_endHour, Cond.selects RX4 yX4_endHour yX4_endHour, Cond.code yX4_endHour cX4_endHour 2 (some .int), Cond.methodLink RX4 216 yX0_takePlaces, Cond.instanceMethod yX0_takePlaces, Cond.selects RX0 yX0_takePlaces yX0_takePlaces, Cond.code yX0_takePlaces cX0_takePlaces 4 none, Cond.methodLink RX0 51 yX0_choose, Cond.instanceMethod yX0_choose, Cond.selects RX0 yX0_choose yX0_choose, Cond.code yX0_choose cX0_choose 5 (some .int), Cond.methodLink RX0 61 yX0_fewestHours, Cond.instanceMethod yX0_fewestHours, Cond.selects RX0 yX0_fewestHours yX0_fewestHours, Cond.code yX0_fewestHours cX0_fewestHours 4 (some .int), Cond.methodLink RX0 72 Lib.Math.min.name, Cond.static Lib.Math.min.name, Cond.initialized "java/lang/Math", Cond.code Lib.Math.min.name Lib.Math.min.code 2 (some .int), Cond.methodLink RX0 64 yX0_wants, Cond.instanceMethod yX0_wants]
def wsL_law0_r9 : List Cond := [Cond.selects RX0 yX0_wants yX0_wants, Cond.code yX0_wants cX0_wants 3 (some .boolean), Cond.methodLink RX0 47 yX0_wish, Cond.static yX0_wish, Cond.code yX0_wish cX0_wish 2 (some .int), Cond.methodLink RX0 68 yX0_drawLot, Cond.instanceMethod yX0_drawLot, Cond.selects RX0 yX0_drawLot yX0_drawLot, Cond.code yX0_drawLot cX0_drawLot 2 (some .int), Cond.methodLink RX0 77 arraycopyName, Cond.native arraycopyName, Cond.static arraycopyName, Cond.initialized "java/lang/System", Cond.static yX4_cell, Cond.code yX4_cell cX4_cell 2 (some .int), Cond.methodLink RX0 58 yX0_endAsking, Cond.instanceMethod yX0_endAsking, Cond.selects RX0 yX0_endAsking yX0_endAsking, Cond.code yX0_endAsking cX0_endAsking 3 none, Cond.methodLink RX4 219 yX3_walk, Cond.instanceMethod yX3_walk, Cond.selects RX3 yX3_walk yX3_walk, Cond.code yX3_walk cX3_walk 10 (some .int), Cond.fieldLink RX3 31 "LampCounts$Buskers" "players" "[I"]
def wsL_law0_r10 : List Cond := [Cond.methodLink RX3 36 yX0_playTo, Cond.instanceMethod yX0_playTo, Cond.selects RX0 yX0_playTo yX0_playTo, Cond.code yX0_playTo cX0_playTo 4 (some .int), Cond.methodLink RX4 223 yX1_read, Cond.instanceMethod yX1_read, Cond.selects RX1 yX1_read yX1_read, Cond.code yX1_read cX1_read 6 none, Cond.fieldLink RX1 42 "LampCounts$Street" "walked" "[I", Cond.methodLink RX1 47 yX1_isLost, Cond.instanceMethod yX1_isLost, Cond.selects RX1 yX1_isLost yX1_isLost, Cond.code yX1_isLost cX1_isLost 3 (some .boolean), Cond.methodLink RX1 51 yX1_countOfReading, Cond.instanceMethod yX1_countOfReading, Cond.selects RX1 yX1_countOfReading yX1_countOfReading, Cond.code yX1_countOfReading cX1_countOfReading 4 (some .int), Cond.methodLink RX1 57 yX1_foundLast, Cond.instanceMethod yX1_foundLast, Cond.selects RX1 yX1_foundLast yX1_foundLast, Cond.code yX1_foundLast cX1_foundLast 5 (some .int), Cond.methodLink RX1 54 yX1_filledFromKept, Cond.instanceMethod yX1_filledFromKept, Cond.selects RX1 yX1_filledFromKept yX1_filledFromKept]
def wsL_law0_r11 : List Cond := [Cond.code yX1_filledFromKept cX1_filledFromKept 5 (some .int), Cond.methodLink RX1 60 yX1_nearestAhead, Cond.instanceMethod yX1_nearestAhead, Cond.selects RX1 yX1_nearestAhead yX1_nearestAhead, Cond.code yX1_nearestAhead cX1_nearestAhead 4 (some .int), Cond.methodLink RX1 63 yX1_nearestBehind, Cond.instanceMethod yX1_nearestBehind, Cond.selects RX1 yX1_nearestBehind yX1_nearestBehind, Cond.code yX1_nearestBehind cX1_nearestBehind 4 (some .int), Cond.methodLink RX1 66 yX1_filled, Cond.static yX1_filled, Cond.code yX1_filled cX1_filled 2 (some .int), Cond.methodLink RX4 227 yX4_billHour, Cond.instanceMethod yX4_billHour, Cond.selects RX4 yX4_billHour yX4_billHour, Cond.code yX4_billHour cX4_billHour 3 none, Cond.classLink RX4 101 "LampCounts$Lease", Cond.fieldLink RX4 178 "LampCounts$Lease" "bill" "I", Cond.fieldLink RX4 163 "LampCounts$Lamps" "kept" "[I", Cond.fieldLink RX4 181 "LampCounts$Lease" "section" "I", Cond.methodLink RX4 98 yJx4a65c_size_8abf5, Cond.instanceMethod yJx4a65c_size_8abf5, Cond.selects RJx4a65c yJx4a65c_size_8abf5 yJx4a65c_size_8abf5, Cond.code yJx4a65c_size_8abf5 cJx4a65c_size_8abf5 1 (some .int)]
def wsL_law0_r12 : List Cond := [Cond.fieldLink RJx4a65c 48 "java/util/ArrayList" "size" "I", Cond.methodLink RX4 114 yJx4a65c_get_915e3, Cond.instanceMethod yJx4a65c_get_915e3, Cond.selects RJx4a65c yJx4a65c_get_915e3 yJx4a65c_get_915e3, Cond.code yJx4a65c_get_915e3 cJx4a65c_get_915e3 2 (some (.object "java/lang/Object")), Cond.methodLink RJx4a65c 118 yJ15_checkIndex_7cf53, Cond.static yJ15_checkIndex_7cf53, Cond.initialized RJ15, Cond.code yJ15_checkIndex_7cf53 cJ15_checkIndex_7cf53 2 (some .int), Cond.methodLink RJ15 105 yJ3_checkIndex_8e157, Cond.static yJ3_checkIndex_8e157, Cond.initialized RJ3, Cond.code yJ3_checkIndex_8e157 cJ3_checkIndex_8e157 3 (some .int), Cond.methodLink RJx4a65c 123 yJx4a65c_elementData_915e3, Cond.instanceMethod yJx4a65c_elementData_915e3, Cond.selects RJx4a65c yJx4a65c_elementData_915e3 yJx4a65c_elementData_915e3, Cond.code yJx4a65c_elementData_915e3 cJx4a65c_elementData_915e3 2 (some (.object "java/lang/Object")), Cond.methodLink RX4 174 yX2_covers, Cond.instanceMethod yX2_covers, Cond.selects RX2 yX2_covers yX2_covers, Cond.initialized RX2, Cond.code yX2_covers cX2_covers 2 (some .boolean), Cond.fieldLink RX2 33 "LampCounts$Lease" "start" "I", Cond.fieldLink RX2 36 "LampCounts$Lease" "end" "I"]
def wsL_law0_r13 : List Cond := [Cond.methodLink RX4 95 yX4_cell, Cond.methodLink RX4 184 yX2_rentFor, Cond.instanceMethod yX2_rentFor, Cond.selects RX2 yX2_rentFor yX2_rentFor, Cond.code yX2_rentFor cX2_rentFor 2 (some .int), Cond.fieldLink RX2 27 "LampCounts$Lease" "base" "I", Cond.fieldLink RX2 30 "LampCounts$Lease" "rate" "I", Cond.methodLink RL 119 yX5_pass, Cond.instanceMethod yX5_pass, Cond.selects RX5 yX5_pass yX5_pass, Cond.code yX5_pass cX5_pass 4 (some .int), Cond.fieldLink RX5 103 "LampCountsModel" "now" "I", Cond.methodLink RX5 136 yX5_ends, Cond.instanceMethod yX5_ends, Cond.selects RX5 yX5_ends yX5_ends, Cond.code yX5_ends cX5_ends 7 (some .int), Cond.methodLink RX5 126 yX5_places, Cond.instanceMethod yX5_places, Cond.selects RX5 yX5_places yX5_places, Cond.code yX5_places cX5_places 4 none, Cond.methodLink RX5 119 yX5_plays, Cond.instanceMethod yX5_plays, Cond.selects RX5 yX5_plays yX5_plays, Cond.code yX5_plays cX5_plays 8 (some .int)]
def wsL_law0_r14 : List Cond := [Cond.methodLink RX5 112 yX5_mayPlay, Cond.instanceMethod yX5_mayPlay, Cond.selects RX5 yX5_mayPlay yX5_mayPlay, Cond.code yX5_mayPlay cX5_mayPlay 4 (some .boolean), Cond.methodLink RX5 115 yX5_takesLot, Cond.instanceMethod yX5_takesLot, Cond.selects RX5 yX5_takesLot yX5_takesLot, Cond.code yX5_takesLot cX5_takesLot 3 (some .int), Cond.fieldLink RX5 109 "LampCountsModel" "lots" "I", Cond.methodLink RX5 123 yX5_cell, Cond.static yX5_cell, Cond.code yX5_cell cX5_cell 2 (some .int), Cond.methodLink RX5 129 yX5_reads, Cond.static yX5_reads, Cond.code yX5_reads cX5_reads 2 (some .int), Cond.methodLink RL 120 yL_setLamp, Cond.static yL_setLamp, Cond.codeWith yL_setLamp cL_setLamp 6 (some .int) [(0, 12, 15, 13), (0, 12, 19, 15)], Cond.methodLink RL 23 yX4_setLamp, Cond.instanceMethod yX4_setLamp, Cond.selects RX4 yX4_setLamp yX4_setLamp, Cond.code yX4_setLamp cX4_setLamp 5 (some .int), Cond.fieldLink RX4 67 "LampCounts$Lamps" "blindSpots" "[I", Cond.fieldLink RX4 70 "LampCounts$Lamps" "broken" "[Z"]
def wsL_law0_r15 : List Cond := [Cond.methodLink RL 123 yX5_setLamp, Cond.instanceMethod yX5_setLamp, Cond.selects RX5 yX5_setLamp yX5_setLamp, Cond.code yX5_setLamp cX5_setLamp 5 (some .int), Cond.methodLink RL 124 yL_find, Cond.static yL_find, Cond.codeWith yL_find cL_find 6 (some .int) [(0, 12, 15, 13), (0, 12, 19, 15), (0, 12, 23, 21)], Cond.methodLink RL 27 yX4_find, Cond.instanceMethod yX4_find, Cond.selects RX4 yX4_find yX4_find, Cond.code yX4_find cX4_find 6 (some .int), Cond.fieldLink RX4 74 "LampCounts$Lamps" "findings" "I", Cond.methodLink RX4 77 yX1_noteFinding, Cond.instanceMethod yX1_noteFinding, Cond.selects RX1 yX1_noteFinding yX1_noteFinding, Cond.code yX1_noteFinding cX1_noteFinding 4 none, Cond.methodLink RX4 80 yX4_recount, Cond.instanceMethod yX4_recount, Cond.selects RX4 yX4_recount yX4_recount, Cond.code yX4_recount cX4_recount 5 (some .int), Cond.methodLink RX4 88 yX1_isLost, Cond.methodLink RX4 230 yX1_countOfReading, Cond.methodLink RX4 233 yX4_keepCount, Cond.instanceMethod yX4_keepCount]
def wsL_law0_r16 : List Cond := [Cond.selects RX4 yX4_keepCount yX4_keepCount, Cond.code yX4_keepCount cX4_keepCount 6 (some .int), Cond.methodLink RX4 240 yX4_correctRents, Cond.instanceMethod yX4_correctRents, Cond.selects RX4 yX4_correctRents yX4_correctRents, Cond.code yX4_correctRents cX4_correctRents 9 (some .int), Cond.fieldLink RX4 187 "LampCounts$Lease" "corrections" "I", Cond.methodLink RX4 237 yX1_filledFromKept, Cond.methodLink RL 126 yX5_find, Cond.instanceMethod yX5_find, Cond.selects RX5 yX5_find yX5_find, Cond.code yX5_find cX5_find 4 (some .int), Cond.fieldLink RX5 143 "LampCountsModel" "finds" "I", Cond.methodLink RX5 162 yX5_keeps, Cond.instanceMethod yX5_keeps, Cond.selects RX5 yX5_keeps yX5_keeps, Cond.code yX5_keeps cX5_keeps 2 none, Cond.fieldLink RX5 106 "LampCountsModel" "leases" "I", Cond.methodLink RX5 159 yX5_rents, Cond.instanceMethod yX5_rents, Cond.selects RX5 yX5_rents yX5_rents, Cond.code yX5_rents cX5_rents 4 (some .int), Cond.methodLink RX5 156 yX5_countOf, Cond.instanceMethod yX5_countOf]
def wsL_law0_r17 : List Cond := [Cond.selects RX5 yX5_countOf yX5_countOf, Cond.code yX5_countOf cX5_countOf 5 (some .int), Cond.methodLink RX5 149 yX5_nearest, Cond.instanceMethod yX5_nearest, Cond.selects RX5 yX5_nearest yX5_nearest, Cond.code yX5_nearest cX5_nearest 5 (some .int), Cond.methodLink RX5 153 yX5_counts, Cond.instanceMethod yX5_counts, Cond.selects RX5 yX5_counts yX5_counts, Cond.code yX5_counts cX5_counts 3 (some .int), Cond.methodLink RX5 146 yX5_takenFor, Cond.instanceMethod yX5_takenFor, Cond.selects RX5 yX5_takenFor yX5_takenFor, Cond.code yX5_takenFor cX5_takenFor 5 (some .int), Cond.methodLink RX5 165 yX5_corrects, Cond.instanceMethod yX5_corrects, Cond.selects RX5 yX5_corrects yX5_corrects, Cond.code yX5_corrects cX5_corrects 4 (some .int), Cond.methodLink RL 127 yL_turnUp, Cond.static yL_turnUp, Cond.codeWith yL_turnUp cL_turnUp 6 (some .int) [(0, 12, 15, 13), (0, 12, 19, 15), (0, 12, 23, 21)], Cond.methodLink RL 30 yX4_turnUp, Cond.instanceMethod yX4_turnUp, Cond.selects RX4 yX4_turnUp yX4_turnUp]
def wsL_law0_r18 : List Cond := [Cond.code yX4_turnUp cX4_turnUp 4 (some .int), Cond.fieldLink RX4 92 "LampCounts$Lamps" "readings" "[I", Cond.methodLink RX4 84 yX4_requireEnded, Cond.instanceMethod yX4_requireEnded, Cond.selects RX4 yX4_requireEnded yX4_requireEnded, Cond.code yX4_requireEnded cX4_requireEnded 2 none, Cond.methodLink RL 129 yX5_turnUp, Cond.instanceMethod yX5_turnUp, Cond.selects RX5 yX5_turnUp yX5_turnUp, Cond.code yX5_turnUp cX5_turnUp 4 (some .int), Cond.methodLink RX5 168 yX5_isOver, Cond.instanceMethod yX5_isOver, Cond.selects RX5 yX5_isOver yX5_isOver, Cond.code yX5_isOver cX5_isOver 2 (some .boolean), Cond.methodLink RL 130 yL_lease, Cond.static yL_lease, Cond.codeWith yL_lease cL_lease 8 (some .int) [(0, 16, 19, 13), (0, 16, 23, 15), (0, 16, 27, 21)], Cond.methodLink RL 33 yX4_lease, Cond.instanceMethod yX4_lease, Cond.selects RX4 yX4_lease yX4_lease, Cond.code yX4_lease cX4_lease 7 (some .int), Cond.classLink RX4 101 RX2, Cond.instantiable RX2 9, Cond.methodLink RX4 103 yX2_init]
def wsL_law0_r19 : List Cond := [Cond.instanceMethod yX2_init, Cond.code yX2_init cX2_init 7 none, Cond.methodLink RX2 3 objectInit, Cond.fieldLink RX2 9 "LampCounts$Lease" "bill" "I", Cond.fieldLink RX2 15 "LampCounts$Lease" "corrections" "I", Cond.fieldLink RX2 18 "LampCounts$Lease" "door" "I", Cond.fieldLink RX2 21 "LampCounts$Lease" "section" "I", Cond.fieldLink RX2 24 "LampCounts$Lease" "tenant" "I", Cond.methodLink RX4 106 yX4_isDoorHeld, Cond.instanceMethod yX4_isDoorHeld, Cond.selects RX4 yX4_isDoorHeld yX4_isDoorHeld, Cond.code yX4_isDoorHeld cX4_isDoorHeld 3 (some .boolean), Cond.methodLink RX4 244 yX2_clashesWith, Cond.instanceMethod yX2_clashesWith, Cond.selects RX2 yX2_clashesWith yX2_clashesWith, Cond.code yX2_clashesWith cX2_clashesWith 2 (some .boolean), Cond.methodLink RX4 110 yJx4a65c_add_9ea2d, Cond.instanceMethod yJx4a65c_add_9ea2d, Cond.selects RJx4a65c yJx4a65c_add_9ea2d yJx4a65c_add_9ea2d, Cond.code yJx4a65c_add_9ea2d cJx4a65c_add_9ea2d 2 (some .boolean), Cond.fieldLink RJx4a65c 63 "java/util/ArrayList" "modCount" "I", Cond.sameField "java/util/ArrayList" "java/util/AbstractList" "modCount" "I", Cond.methodLink RJx4a65c 131 yJx4a65c_add_72be8, Cond.instanceMethod yJx4a65c_add_72be8]
def wsL_law0_r20 : List Cond := [Cond.selects RJx4a65c yJx4a65c_add_72be8 yJx4a65c_add_72be8, Cond.code yJx4a65c_add_72be8 cJx4a65c_add_72be8 4 none, Cond.methodLink RJx4a65c 129 yJx4a65c_grow_d5877, Cond.instanceMethod yJx4a65c_grow_d5877, Cond.selects RJx4a65c yJx4a65c_grow_d5877 yJx4a65c_grow_d5877, Cond.code yJx4a65c_grow_d5877 cJx4a65c_grow_d5877 1 (some (.array (.object "java/lang/Object"))), Cond.methodLink RJx4a65c 69 yJx4a65c_grow_92f84, Cond.instanceMethod yJx4a65c_grow_92f84, Cond.selects RJx4a65c yJx4a65c_grow_92f84 yJx4a65c_grow_92f84, Cond.code yJx4a65c_grow_92f84 cJx4a65c_grow_92f84 4 (some (.array (.object "java/lang/Object"))), Cond.methodLink RJx4a65c 79 Lib.Math.max.name, Cond.static Lib.Math.max.name, Cond.code Lib.Math.max.name Lib.Math.max.code 2 (some .int), Cond.classLink RJx4a65c 7 "java/lang/Object", Cond.methodLink RJx4a65c 73 yJ8_newLength_cabcc, Cond.static yJ8_newLength_cabcc, Cond.initialized RJ8, Cond.code yJ8_newLength_cabcc cJ8_newLength_cabcc 4 (some .int), Cond.methodLink RJ8 194 Lib.Math.max.name, Cond.constant RJ8 200 (2147483639), Cond.methodLink RJ8 201 yJ8_hugeLength_7cf53, Cond.static yJ8_hugeLength_7cf53, Cond.code yJ8_hugeLength_7cf53 cJ8_hugeLength_7cf53 3 (some .int), Cond.methodLink RJx4a65c 66 yJ7_copyOf_1904c]
def wsL_law0_r21 : List Cond := [Cond.static yJ7_copyOf_1904c, Cond.code yJ7_copyOf_1904c cJ7_copyOf_1904c 2 (some (.array (.object "java/lang/Object"))), Cond.methodLink RJ7 86 ⟨"java/lang/Object", "getClass", "()Ljava/lang/Class;"⟩, Cond.selects "[Ljava/lang/Object;" ⟨"java/lang/Object", "getClass", "()Ljava/lang/Class;"⟩ ⟨"java/lang/Object", "getClass", "()Ljava/lang/Class;"⟩, Cond.instanceMethod ⟨"java/lang/Object", "getClass", "()Ljava/lang/Class;"⟩, Cond.native ⟨"java/lang/Object", "getClass", "()Ljava/lang/Class;"⟩, Cond.methodLink RJ7 300 yJ7_copyOf_6403c, Cond.static yJ7_copyOf_6403c, Cond.code yJ7_copyOf_6403c cJ7_copyOf_6403c 4 (some (.array (.object "java/lang/Object"))), Cond.classLink RJ7 110 "[Ljava/lang/Object;", Cond.classLink RJ7 2 "java/lang/Object", Cond.methodLink RJ7 304 Lib.Math.min.name, Cond.methodLink RJ7 150 arraycopyName, Cond.methodLink RL 133 yX5_lease, Cond.instanceMethod yX5_lease, Cond.selects RX5 yX5_lease yX5_lease, Cond.code yX5_lease cX5_lease 6 (some .int), Cond.methodLink RX5 171 yX5_isFree, Cond.instanceMethod yX5_isFree, Cond.selects RX5 yX5_isFree yX5_isFree, Cond.code yX5_isFree cX5_isFree 6 (some .boolean), Cond.methodLink RL 134 yL_quit, Cond.static yL_quit, Cond.codeWith yL_quit cL_quit 4 (some .int) [(0, 9, 12, 13), (0, 9, 15, 21)]]
def wsL_law0_r22 : List Cond := [Cond.methodLink RL 37 yX4_quit, Cond.instanceMethod yX4_quit, Cond.selects RX4 yX4_quit yX4_quit, Cond.code yX4_quit cX4_quit 3 (some .int), Cond.fieldLink RX4 118 "LampCounts$Lease" "end" "I", Cond.fieldLink RX4 121 "LampCounts$Lease" "start" "I", Cond.methodLink RL 136 yX5_quit, Cond.instanceMethod yX5_quit, Cond.selects RX5 yX5_quit yX5_quit, Cond.code yX5_quit cX5_quit 2 (some .int), Cond.methodLink RX5 174 yX5_isLease, Cond.instanceMethod yX5_isLease, Cond.selects RX5 yX5_isLease yX5_isLease, Cond.code yX5_isLease cX5_isLease 2 (some .boolean), Cond.methodLink RL 137 yL_pay, Cond.static yL_pay, Cond.codeWith yL_pay cL_pay 5 (some .int) [(0, 10, 13, 13), (0, 10, 17, 15), (0, 10, 21, 21)], Cond.methodLink RL 40 yX4_pay, Cond.instanceMethod yX4_pay, Cond.selects RX4 yX4_pay yX4_pay, Cond.code yX4_pay cX4_pay 3 (some .int), Cond.constant RX4 124 (100000), Cond.constant RX4 125 (1000000), Cond.methodLink RX4 126 yX4_debt]
def wsL_law0_r23 : List Cond := [Cond.instanceMethod yX4_debt, Cond.selects RX4 yX4_debt yX4_debt, Cond.code yX4_debt cX4_debt 5 (some .int), Cond.fieldLink RX4 247 "LampCounts$Lease" "tenant" "I", Cond.methodLink RL 140 yX5_pay, Cond.instanceMethod yX5_pay, Cond.selects RX5 yX5_pay yX5_pay, Cond.code yX5_pay cX5_pay 3 (some .int), Cond.constant RX5 177 (100000), Cond.constant RX5 178 (1000000), Cond.methodLink RX5 179 yX5_owedBy, Cond.instanceMethod yX5_owedBy, Cond.selects RX5 yX5_owedBy yX5_owedBy, Cond.code yX5_owedBy cX5_owedBy 4 (some .int), Cond.methodLink RL 141 yL_setSkill, Cond.static yL_setSkill, Cond.codeWith yL_setSkill cL_setSkill 5 (some .int) [(0, 10, 13, 13), (0, 10, 17, 15)], Cond.methodLink RL 44 yX4_setSkill, Cond.instanceMethod yX4_setSkill, Cond.selects RX4 yX4_setSkill yX4_setSkill, Cond.code yX4_setSkill cX4_setSkill 4 (some .int), Cond.fieldLink RX4 130 "LampCounts$Buskers" "skills" "[I", Cond.methodLink RL 143 yX5_setSkill, Cond.instanceMethod yX5_setSkill]
def wsL_law0_r24 : List Cond := [Cond.selects RX5 yX5_setSkill yX5_setSkill, Cond.code yX5_setSkill cX5_setSkill 4 (some .int), Cond.methodLink RX5 182 yX5_isBusker, Cond.static yX5_isBusker, Cond.code yX5_isBusker cX5_isBusker 1 (some .boolean), Cond.methodLink RL 144 yL_ask, Cond.static yL_ask, Cond.codeWith yL_ask cL_ask 5 (some .int) [(0, 10, 13, 13), (0, 10, 17, 21)], Cond.methodLink RL 47 yX4_ask, Cond.instanceMethod yX4_ask, Cond.selects RX4 yX4_ask yX4_ask, Cond.code yX4_ask cX4_ask 4 (some .int), Cond.fieldLink RX4 136 "LampCounts$Buskers" "asks" "[Z", Cond.methodLink RX4 133 yX0_wish, Cond.methodLink RX4 139 yX0_askedBy, Cond.instanceMethod yX0_askedBy, Cond.selects RX0 yX0_askedBy yX0_askedBy, Cond.code yX0_askedBy cX0_askedBy 4 (some .int), Cond.methodLink RL 146 yX5_ask, Cond.instanceMethod yX5_ask, Cond.selects RX5 yX5_ask yX5_ask, Cond.code yX5_ask cX5_ask 5 (some .int), Cond.methodLink RL 147 yL_lot, Cond.static yL_lot]
def wsL_law0_r25 : List Cond := [Cond.codeWith yL_lot cL_lot 4 (some .int) [(0, 9, 12, 15), (0, 9, 15, 21)], Cond.methodLink RL 50 yX4_lot, Cond.instanceMethod yX4_lot, Cond.selects RX4 yX4_lot yX4_lot, Cond.code yX4_lot cX4_lot 2 (some .int), Cond.fieldLink RX4 142 "LampCounts$Buskers" "lotsLeft" "I", Cond.fieldLink RX4 145 "LampCounts$Buskers" "told" "[I", Cond.methodLink RL 149 yX5_lot, Cond.instanceMethod yX5_lot, Cond.selects RX5 yX5_lot yX5_lot, Cond.code yX5_lot cX5_lot 2 (some .int), Cond.methodLink RL 150 yX4_hour, Cond.instanceMethod yX4_hour, Cond.selects RX4 yX4_hour yX4_hour, Cond.code yX4_hour cX4_hour 1 (some .int), Cond.methodLink RL 153 yX5_hour, Cond.instanceMethod yX5_hour, Cond.selects RX5 yX5_hour yX5_hour, Cond.code yX5_hour cX5_hour 1 (some .int), Cond.methodLink RL 154 yL_steps, Cond.static yL_steps, Cond.codeWith yL_steps cL_steps 5 (some .int) [(0, 10, 13, 13), (0, 10, 17, 15)], Cond.methodLink RL 53 yX4_steps, Cond.instanceMethod yX4_steps]
def wsL_law0_r26 : List Cond := [Cond.selects RX4 yX4_steps yX4_steps, Cond.code yX4_steps cX4_steps 3 (some .int), Cond.fieldLink RX4 148 "LampCounts$Street" "walked" "[I", Cond.methodLink RX4 151 yX4_endedCell, Cond.instanceMethod yX4_endedCell, Cond.selects RX4 yX4_endedCell yX4_endedCell, Cond.code yX4_endedCell cX4_endedCell 3 (some .int), Cond.methodLink RL 156 yX5_steps, Cond.instanceMethod yX5_steps, Cond.selects RX5 yX5_steps yX5_steps, Cond.code yX5_steps cX5_steps 3 (some .int), Cond.methodLink RX5 185 yX5_isAsked, Cond.instanceMethod yX5_isAsked, Cond.selects RX5 yX5_isAsked yX5_isAsked, Cond.code yX5_isAsked cX5_isAsked 3 (some .boolean), Cond.methodLink RL 157 yL_crowd, Cond.static yL_crowd, Cond.codeWith yL_crowd cL_crowd 5 (some .int) [(0, 10, 13, 13), (0, 10, 17, 15)], Cond.methodLink RL 56 yX4_crowd, Cond.instanceMethod yX4_crowd, Cond.selects RX4 yX4_crowd yX4_crowd, Cond.code yX4_crowd cX4_crowd 3 (some .int), Cond.fieldLink RX4 154 "LampCounts$Street" "stopped" "[I", Cond.methodLink RL 159 yX5_crowd]
def wsL_law0_r27 : List Cond := [Cond.instanceMethod yX5_crowd, Cond.selects RX5 yX5_crowd yX5_crowd, Cond.code yX5_crowd cX5_crowd 3 (some .int), Cond.methodLink RL 160 yL_through, Cond.static yL_through, Cond.codeWith yL_through cL_through 4 (some .int) [(0, 9, 12, 15)], Cond.methodLink RL 59 yX4_through, Cond.instanceMethod yX4_through, Cond.selects RX4 yX4_through yX4_through, Cond.code yX4_through cX4_through 2 (some .int), Cond.fieldLink RX4 157 "LampCounts$Street" "wentOut" "[I", Cond.methodLink RL 162 yX5_through, Cond.instanceMethod yX5_through, Cond.selects RX5 yX5_through yX5_through, Cond.code yX5_through cX5_through 2 (some .int), Cond.methodLink RL 163 yL_reading, Cond.static yL_reading, Cond.codeWith yL_reading cL_reading 5 (some .int) [(0, 10, 13, 13), (0, 10, 17, 15)], Cond.methodLink RL 62 yX4_reading, Cond.instanceMethod yX4_reading, Cond.selects RX4 yX4_reading yX4_reading, Cond.code yX4_reading cX4_reading 3 (some .int), Cond.methodLink RL 165 yX5_reading, Cond.instanceMethod yX5_reading]
def wsL_law0_r28 : List Cond := [Cond.selects RX5 yX5_reading yX5_reading, Cond.code yX5_reading cX5_reading 3 (some .int), Cond.methodLink RL 166 yL_taken, Cond.static yL_taken, Cond.codeWith yL_taken cL_taken 5 (some .int) [(0, 10, 13, 13), (0, 10, 17, 15)], Cond.methodLink RL 65 yX4_taken, Cond.instanceMethod yX4_taken, Cond.selects RX4 yX4_taken yX4_taken, Cond.code yX4_taken cX4_taken 3 (some .int), Cond.methodLink RX4 160 yX1_foundLast, Cond.methodLink RL 168 yX5_taken, Cond.instanceMethod yX5_taken, Cond.selects RX5 yX5_taken yX5_taken, Cond.code yX5_taken cX5_taken 3 (some .int), Cond.methodLink RL 169 yL_count, Cond.static yL_count, Cond.codeWith yL_count cL_count 5 (some .int) [(0, 10, 13, 13), (0, 10, 17, 15)], Cond.methodLink RL 68 yX4_count, Cond.instanceMethod yX4_count, Cond.selects RX4 yX4_count yX4_count, Cond.code yX4_count cX4_count 3 (some .int), Cond.methodLink RL 171 yX5_count, Cond.instanceMethod yX5_count, Cond.selects RX5 yX5_count yX5_count]
def wsL_law0_r29 : List Cond := [Cond.code yX5_count cX5_count 3 (some .int), Cond.methodLink RL 172 yL_countAnew, Cond.static yL_countAnew, Cond.codeWith yL_countAnew cL_countAnew 5 (some .int) [(0, 10, 13, 13), (0, 10, 17, 15)], Cond.methodLink RL 71 yX4_countAnew, Cond.instanceMethod yX4_countAnew, Cond.selects RX4 yX4_countAnew yX4_countAnew, Cond.code yX4_countAnew cX4_countAnew 3 (some .int), Cond.methodLink RX4 166 yX1_foundAnew, Cond.instanceMethod yX1_foundAnew, Cond.selects RX1 yX1_foundAnew yX1_foundAnew, Cond.code yX1_foundAnew cX1_foundAnew 5 (some .int), Cond.methodLink RL 174 yX5_countAnew, Cond.instanceMethod yX5_countAnew, Cond.selects RX5 yX5_countAnew yX5_countAnew, Cond.code yX5_countAnew cX5_countAnew 3 (some .int), Cond.methodLink RL 175 yL_missed, Cond.static yL_missed, Cond.codeWith yL_missed cL_missed 4 (some .int) [(0, 9, 12, 15)], Cond.methodLink RL 74 yX4_missed, Cond.instanceMethod yX4_missed, Cond.selects RX4 yX4_missed yX4_missed, Cond.code yX4_missed cX4_missed 5 (some .int), Cond.methodLink RX4 169 Lib.Math.abs.name]
def wsL_law0_r30 : List Cond := [Cond.static Lib.Math.abs.name, Cond.code Lib.Math.abs.name Lib.Math.abs.code 1 (some .int), Cond.methodLink RL 177 yX5_missed, Cond.instanceMethod yX5_missed, Cond.selects RX5 yX5_missed yX5_missed, Cond.code yX5_missed cX5_missed 5 (some .int), Cond.methodLink RL 178 yX4_leases, Cond.instanceMethod yX4_leases, Cond.selects RX4 yX4_leases yX4_leases, Cond.code yX4_leases cX4_leases 1 (some .int), Cond.methodLink RL 181 yX5_leases, Cond.instanceMethod yX5_leases, Cond.selects RX5 yX5_leases yX5_leases, Cond.code yX5_leases cX5_leases 1 (some .int), Cond.methodLink RL 182 yL_isOf, Cond.static yL_isOf, Cond.codeWith yL_isOf cL_isOf 5 (some .int) [(0, 17, 20, 13)], Cond.methodLink RL 77 yX4_isOf, Cond.instanceMethod yX4_isOf, Cond.selects RX4 yX4_isOf yX4_isOf, Cond.code yX4_isOf cX4_isOf 3 (some .boolean), Cond.methodLink RL 184 yX5_isOf, Cond.instanceMethod yX5_isOf, Cond.selects RX5 yX5_isOf yX5_isOf]
def wsL_law0_r31 : List Cond := [Cond.code yX5_isOf cX5_isOf 3 (some .boolean), Cond.methodLink RL 185 yL_billed, Cond.static yL_billed, Cond.codeWith yL_billed cL_billed 4 (some .int) [(0, 9, 12, 13)], Cond.methodLink RL 81 yX4_billed, Cond.instanceMethod yX4_billed, Cond.selects RX4 yX4_billed yX4_billed, Cond.code yX4_billed cX4_billed 2 (some .int), Cond.methodLink RL 187 yX5_billed, Cond.instanceMethod yX5_billed, Cond.selects RX5 yX5_billed yX5_billed, Cond.code yX5_billed cX5_billed 2 (some .int), Cond.methodLink RL 188 yL_billedAnew, Cond.static yL_billedAnew, Cond.codeWith yL_billedAnew cL_billedAnew 4 (some .int) [(0, 9, 12, 13)], Cond.methodLink RL 84 yX4_billedAnew, Cond.instanceMethod yX4_billedAnew, Cond.selects RX4 yX4_billedAnew yX4_billedAnew, Cond.code yX4_billedAnew cX4_billedAnew 5 (some .int), Cond.methodLink RL 190 yX5_billedAnew, Cond.instanceMethod yX5_billedAnew, Cond.selects RX5 yX5_billedAnew yX5_billedAnew, Cond.code yX5_billedAnew cX5_billedAnew 2 (some .int), Cond.methodLink RL 191 yL_corrected]
def wsL_law0_r32 : List Cond := [Cond.static yL_corrected, Cond.codeWith yL_corrected cL_corrected 4 (some .int) [(0, 9, 12, 13)], Cond.methodLink RL 87 yX4_corrected, Cond.instanceMethod yX4_corrected, Cond.selects RX4 yX4_corrected yX4_corrected, Cond.code yX4_corrected cX4_corrected 2 (some .int), Cond.methodLink RL 193 yX5_corrected, Cond.instanceMethod yX5_corrected, Cond.selects RX5 yX5_corrected yX5_corrected, Cond.code yX5_corrected cX5_corrected 2 (some .int), Cond.methodLink RL 194 yL_owes, Cond.static yL_owes, Cond.codeWith yL_owes cL_owes 4 (some .int) [(0, 9, 12, 13)], Cond.methodLink RL 90 yX4_owes, Cond.instanceMethod yX4_owes, Cond.selects RX4 yX4_owes yX4_owes, Cond.code yX4_owes cX4_owes 2 (some .int), Cond.methodLink RL 196 yX5_owes, Cond.instanceMethod yX5_owes, Cond.selects RX5 yX5_owes yX5_owes, Cond.code yX5_owes cX5_owes 2 (some .int), Cond.methodLink RL 197 yL_player, Cond.static yL_player, Cond.codeWith yL_player cL_player 5 (some .int) [(0, 10, 13, 13), (0, 10, 17, 15)]]
def wsL_law0_r33 : List Cond := [Cond.methodLink RL 93 yX4_player, Cond.instanceMethod yX4_player, Cond.selects RX4 yX4_player yX4_player, Cond.code yX4_player cX4_player 3 (some .int), Cond.fieldLink RX4 190 "LampCounts$Buskers" "players" "[I", Cond.methodLink RL 199 yX5_player, Cond.instanceMethod yX5_player, Cond.selects RX5 yX5_player yX5_player, Cond.code yX5_player cX5_player 3 (some .int), Cond.methodLink RL 200 yL_played, Cond.static yL_played, Cond.codeWith yL_played cL_played 4 (some .int) [(0, 9, 12, 13)], Cond.methodLink RL 96 yX4_played, Cond.instanceMethod yX4_played, Cond.selects RX4 yX4_played yX4_played, Cond.code yX4_played cX4_played 2 (some .int), Cond.fieldLink RX4 193 "LampCounts$Buskers" "hoursPlayed" "[I", Cond.methodLink RL 202 yX5_played, Cond.instanceMethod yX5_played, Cond.selects RX5 yX5_played yX5_played, Cond.code yX5_played cX5_played 2 (some .int), Cond.methodLink RL 203 yL_coins, Cond.static yL_coins, Cond.codeWith yL_coins cL_coins 4 (some .int) [(0, 9, 12, 13)]]
def wsL_law0_r34 : List Cond := [Cond.methodLink RL 99 yX4_coins, Cond.instanceMethod yX4_coins, Cond.selects RX4 yX4_coins yX4_coins, Cond.code yX4_coins cX4_coins 2 (some .int), Cond.fieldLink RX4 196 "LampCounts$Buskers" "purses" "[I", Cond.methodLink RL 205 yX5_coins, Cond.instanceMethod yX5_coins, Cond.selects RX5 yX5_coins yX5_coins, Cond.code yX5_coins cX5_coins 2 (some .int), Cond.methodLink RL 206 yX4_lots, Cond.instanceMethod yX4_lots, Cond.selects RX4 yX4_lots yX4_lots, Cond.code yX4_lots cX4_lots 1 (some .int), Cond.methodLink RL 209 yX5_lots, Cond.instanceMethod yX5_lots, Cond.selects RX5 yX5_lots yX5_lots, Cond.code yX5_lots cX5_lots 1 (some .int)]
def wsL_law0 : List Cond := (wsL_law0_r1 ++ (wsL_law0_r2 ++ (wsL_law0_r3 ++ (wsL_law0_r4 ++ (wsL_law0_r5 ++ (wsL_law0_r6 ++ (wsL_law0_r7 ++ (wsL_law0_r8 ++ (wsL_law0_r9 ++ (wsL_law0_r10 ++ (wsL_law0_r11 ++ (wsL_law0_r12 ++ (wsL_law0_r13 ++ (wsL_law0_r14 ++ (wsL_law0_r15 ++ (wsL_law0_r16 ++ (wsL_law0_r17 ++ (wsL_law0_r18 ++ (wsL_law0_r19 ++ (wsL_law0_r20 ++ (wsL_law0_r21 ++ (wsL_law0_r22 ++ (wsL_law0_r23 ++ (wsL_law0_r24 ++ (wsL_law0_r25 ++ (wsL_law0_r26 ++ (wsL_law0_r27 ++ (wsL_law0_r28 ++ (wsL_law0_r29 ++ (wsL_law0_r30 ++ (wsL_law0_r31 ++ (wsL_law0_r32 ++ (wsL_law0_r33 ++ wsL_law0_r34))))))))))))))))))))))))))))))))) ++ wsX40 ++ wsX50 ++ wsX30 ++ wsX10 ++ wsX00 ++ wsJx4a65c0 ++ wsX20 ++ ([] : List Cond)
def wsL_law : List Cond := wsL_law0 ++ (vx_atS RX4 203 "java/lang/IndexOutOfBoundsException" ["java/lang/RuntimeException", "java/lang/Exception"]).filter goodWord ++ (vx_atS RX4 210 "java/lang/IllegalArgumentException" ["java/lang/RuntimeException", "java/lang/Exception"]).filter goodWord ++ (vx_atS RX4 215 "java/lang/IllegalStateException" ["java/lang/RuntimeException", "java/lang/Exception"]).filter goodWord
set_option maxRecDepth 20000 in
theorem wsL_law0_r1_in : ∀ w ∈ wsL_law0_r1, w ∈ lw_tbl := fun w h => (goodIn_p wsL_law0_r1 [57, 60] (by decide +kernel) (by decide +kernel) w h).1
theorem wsL_law0_r2_in : ∀ w ∈ wsL_law0_r2, w ∈ lw_tbl := fun w h => (goodIn_p wsL_law0_r2 [65, 94] (by decide +kernel) (by decide +kernel) w h).1
theorem wsL_law0_r3_in : ∀ w ∈ wsL_law0_r3, w ∈ lw_tbl := fun w h => (goodIn_p wsL_law0_r3 [131, 135, 176] (by decide +kernel) (by decide +kernel) w h).1
theorem wsL_law0_r4_in : ∀ w ∈ wsL_law0_r4, w ∈ lw_tbl := fun w h => (goodIn_p wsL_law0_r4 [179, 182, 793] (by decide +kernel) (by decide +kernel) w h).1
theorem wsL_law0_r5_in : ∀ w ∈ wsL_law0_r5, w ∈ lw_tbl := fun w h => (goodIn_p wsL_law0_r5 [] (by decide +kernel) (by decide +kernel) w h).1
theorem wsL_law0_r6_in : ∀ w ∈ wsL_law0_r6, w ∈ lw_tbl := fun w h => (goodIn_p wsL_law0_r6 [241, 244, 315, 939] (by decide +kernel) (by decide +kernel) w h).1
theorem wsL_law0_r7_in : ∀ w ∈ wsL_law0_r7, w ∈ lw_tbl := fun w h => (goodIn_p wsL_law0_r7 [942, 905, 909, 898, 339, 342] (by decide +kernel) (by decide +kernel) w h).1
theorem wsL_law0_r8_in : ∀ w ∈ wsL_law0_r8, w ∈ lw_tbl := fun w h => (goodIn_p wsL_law0_r8 [362, 366, 370, 374, 384] (by decide +kernel) (by decide +kernel) w h).1
theorem wsL_law0_r9_in : ∀ w ∈ wsL_law0_r9, w ∈ lw_tbl := fun w h => (goodIn_p wsL_law0_r9 [378, 381, 388, 394, 398, 402] (by decide +kernel) (by decide +kernel) w h).1
theorem wsL_law0_r10_in : ∀ w ∈ wsL_law0_r10, w ∈ lw_tbl := fun w h => (goodIn_p wsL_law0_r10 [407, 411, 416, 420, 424] (by decide +kernel) (by decide +kernel) w h).1
theorem wsL_law0_r11_in : ∀ w ∈ wsL_law0_r11, w ∈ lw_tbl := fun w h => (goodIn_p wsL_law0_r11 [428, 432, 436, 439, 443, 228] (by decide +kernel) (by decide +kernel) w h).1
theorem wsL_law0_r12_in : ∀ w ∈ wsL_law0_r12, w ∈ lw_tbl := fun w h => (goodIn_p wsL_law0_r12 [447, 450, 453, 457, 462] (by decide +kernel) (by decide +kernel) w h).1
theorem wsL_law0_r13_in : ∀ w ∈ wsL_law0_r13, w ∈ lw_tbl := fun w h => (goodIn_p wsL_law0_r13 [467, 902, 913, 917, 921] (by decide +kernel) (by decide +kernel) w h).1
theorem wsL_law0_r14_in : ∀ w ∈ wsL_law0_r14, w ∈ lw_tbl := fun w h => (goodIn_p wsL_law0_r14 [925, 929, 932, 935, 474] (by decide +kernel) (by decide +kernel) w h).1
theorem wsL_law0_r15_in : ∀ w ∈ wsL_law0_r15, w ∈ lw_tbl := fun w h => (goodIn_p wsL_law0_r15 [946, 481, 485, 489] (by decide +kernel) (by decide +kernel) w h).1
theorem wsL_law0_r16_in : ∀ w ∈ wsL_law0_r16, w ∈ lw_tbl := fun w h => (goodIn_p wsL_law0_r16 [495, 499, 950, 954, 958] (by decide +kernel) (by decide +kernel) w h).1
theorem wsL_law0_r17_in : ∀ w ∈ wsL_law0_r17, w ∈ lw_tbl := fun w h => (goodIn_p wsL_law0_r17 [962, 966, 970, 974, 978] (by decide +kernel) (by decide +kernel) w h).1
theorem wsL_law0_r18_in : ∀ w ∈ wsL_law0_r18, w ∈ lw_tbl := fun w h => (goodIn_p wsL_law0_r18 [507, 511, 982, 986, 518] (by decide +kernel) (by decide +kernel) w h).1
theorem wsL_law0_r19_in : ∀ w ∈ wsL_law0_r19, w ∈ lw_tbl := fun w h => (goodIn_p wsL_law0_r19 [522, 561, 565, 569] (by decide +kernel) (by decide +kernel) w h).1
theorem wsL_law0_r20_in : ∀ w ∈ wsL_law0_r20, w ∈ lw_tbl := fun w h => (goodIn_p wsL_law0_r20 [573, 577, 581, 587, 584, 591] (by decide +kernel) (by decide +kernel) w h).1
theorem wsL_law0_r21_in : ∀ w ∈ wsL_law0_r21, w ∈ lw_tbl := fun w h => (goodIn_p wsL_law0_r21 [594, 611, 990, 994] (by decide +kernel) (by decide +kernel) w h).1
theorem wsL_law0_r22_in : ∀ w ∈ wsL_law0_r22, w ∈ lw_tbl := fun w h => (goodIn_p wsL_law0_r22 [625, 998, 1002, 632] (by decide +kernel) (by decide +kernel) w h).1
theorem wsL_law0_r23_in : ∀ w ∈ wsL_law0_r23, w ∈ lw_tbl := fun w h => (goodIn_p wsL_law0_r23 [638, 1006, 1012, 645] (by decide +kernel) (by decide +kernel) w h).1
theorem wsL_law0_r24_in : ∀ w ∈ wsL_law0_r24, w ∈ lw_tbl := fun w h => (goodIn_p wsL_law0_r24 [1016, 1019, 652, 657, 1023] (by decide +kernel) (by decide +kernel) w h).1
theorem wsL_law0_r25_in : ∀ w ∈ wsL_law0_r25, w ∈ lw_tbl := fun w h => (goodIn_p wsL_law0_r25 [664, 1027, 220, 1031] (by decide +kernel) (by decide +kernel) w h).1
theorem wsL_law0_r26_in : ∀ w ∈ wsL_law0_r26, w ∈ lw_tbl := fun w h => (goodIn_p wsL_law0_r26 [671, 675, 1035, 1039, 682] (by decide +kernel) (by decide +kernel) w h).1
theorem wsL_law0_r27_in : ∀ w ∈ wsL_law0_r27, w ∈ lw_tbl := fun w h => (goodIn_p wsL_law0_r27 [1043, 689, 1047, 696] (by decide +kernel) (by decide +kernel) w h).1
theorem wsL_law0_r28_in : ∀ w ∈ wsL_law0_r28, w ∈ lw_tbl := fun w h => (goodIn_p wsL_law0_r28 [1051, 703, 1055, 711] (by decide +kernel) (by decide +kernel) w h).1
theorem wsL_law0_r29_in : ∀ w ∈ wsL_law0_r29, w ∈ lw_tbl := fun w h => (goodIn_p wsL_law0_r29 [1059, 718, 722, 1063, 729] (by decide +kernel) (by decide +kernel) w h).1
theorem wsL_law0_r30_in : ∀ w ∈ wsL_law0_r30, w ∈ lw_tbl := fun w h => (goodIn_p wsL_law0_r30 [732, 1067, 224, 1071, 739] (by decide +kernel) (by decide +kernel) w h).1
theorem wsL_law0_r31_in : ∀ w ∈ wsL_law0_r31, w ∈ lw_tbl := fun w h => (goodIn_p wsL_law0_r31 [1075, 746, 1079, 753, 1083] (by decide +kernel) (by decide +kernel) w h).1
theorem wsL_law0_r32_in : ∀ w ∈ wsL_law0_r32, w ∈ lw_tbl := fun w h => (goodIn_p wsL_law0_r32 [760, 1087, 767, 1091] (by decide +kernel) (by decide +kernel) w h).1
theorem wsL_law0_r33_in : ∀ w ∈ wsL_law0_r33, w ∈ lw_tbl := fun w h => (goodIn_p wsL_law0_r33 [774, 1095, 781, 1099] (by decide +kernel) (by decide +kernel) w h).1
theorem wsL_law0_r34_in : ∀ w ∈ wsL_law0_r34, w ∈ lw_tbl := fun w h => (goodIn_p wsL_law0_r34 [788, 1103, 232, 1107] (by decide +kernel) (by decide +kernel) w h).1
theorem wsX40_inT : ∀ w ∈ wsX40, w ∈ lw_tbl := by decide +kernel
theorem wsX50_inT : ∀ w ∈ wsX50, w ∈ lw_tbl := by decide +kernel
theorem wsX30_inT : ∀ w ∈ wsX30, w ∈ lw_tbl := by decide +kernel
theorem wsX10_inT : ∀ w ∈ wsX10, w ∈ lw_tbl := by decide +kernel
theorem wsX00_inT : ∀ w ∈ wsX00, w ∈ lw_tbl := by decide +kernel
theorem wsJx4a65c0_inT : ∀ w ∈ wsJx4a65c0, w ∈ lw_tbl := by decide +kernel
theorem wsX20_inT : ∀ w ∈ wsX20, w ∈ lw_tbl := by decide +kernel
theorem wsL_law_in0 : ∀ w ∈ wsL_law0, w ∈ lw_tbl := fun w h => (List.mem_append.mp h).elim (fun h => (List.mem_append.mp h).elim (fun h => (List.mem_append.mp h).elim (fun h => (List.mem_append.mp h).elim (fun h => (List.mem_append.mp h).elim (fun h => (List.mem_append.mp h).elim (fun h => (List.mem_append.mp h).elim (fun h => (List.mem_append.mp h).elim (fun h => (List.mem_append.mp h).elim (fun h => wsL_law0_r1_in w h) (fun h => (List.mem_append.mp h).elim (fun h => wsL_law0_r2_in w h) (fun h => (List.mem_append.mp h).elim (fun h => wsL_law0_r3_in w h) (fun h => (List.mem_append.mp h).elim (fun h => wsL_law0_r4_in w h) (fun h => (List.mem_append.mp h).elim (fun h => wsL_law0_r5_in w h) (fun h => (List.mem_append.mp h).elim (fun h => wsL_law0_r6_in w h) (fun h => (List.mem_append.mp h).elim (fun h => wsL_law0_r7_in w h) (fun h => (List.mem_append.mp h).elim (fun h => wsL_law0_r8_in w h) (fun h => (List.mem_append.mp h).elim (fun h => wsL_law0_r9_in w h) (fun h => (List.mem_append.mp h).elim (fun h => wsL_law0_r10_in w h) (fun h => (List.mem_append.mp h).elim (fun h => wsL_law0_r11_in w h) (fun h => (List.mem_append.mp h).elim (fun h => wsL_law0_r12_in w h) (fun h => (List.mem_append.mp h).elim (fun h => wsL_law0_r13_in w h) (fun h => (List.mem_append.mp h).elim (fun h => wsL_law0_r14_in w h) (fun h => (List.mem_append.mp h).elim (fun h => wsL_law0_r15_in w h) (fun h => (List.mem_append.mp h).elim (fun h => wsL_law0_r16_in w h) (fun h => (List.mem_append.mp h).elim (fun h => wsL_law0_r17_in w h) (fun h => (List.mem_append.mp h).elim (fun h => wsL_law0_r18_in w h) (fun h => (List.mem_append.mp h).elim (fun h => wsL_law0_r19_in w h) (fun h => (List.mem_append.mp h).elim (fun h => wsL_law0_r20_in w h) (fun h => (List.mem_append.mp h).elim (fun h => wsL_law0_r21_in w h) (fun h => (List.mem_append.mp h).elim (fun h => wsL_law0_r22_in w h) (fun h => (List.mem_append.mp h).elim (fun h => wsL_law0_r23_in w h) (fun h => (List.mem_append.mp h).elim (fun h => wsL_law0_r24_in w h) (fun h => (List.mem_append.mp h).elim (fun h => wsL_law0_r25_in w h) (fun h => (List.mem_append.mp h).elim (fun h => wsL_law0_r26_in w h) (fun h => (List.mem_append.mp h).elim (fun h => wsL_law0_r27_in w h) (fun h => (List.mem_append.mp h).elim (fun h => wsL_law0_r28_in w h) (fun h => (List.mem_append.mp h).elim (fun h => wsL_law0_r29_in w h) (fun h => (List.mem_append.mp h).elim (fun h => wsL_law0_r30_in w h) (fun h => (List.mem_append.mp h).elim (fun h => wsL_law0_r31_in w h) (fun h => (List.mem_append.mp h).elim (fun h => wsL_law0_r32_in w h) (fun h => (List.mem_append.mp h).elim (fun h => wsL_law0_r33_in w h) (fun h => wsL_law0_r34_in w h)))))))))))))))))))))))))))))))))) (fun h => wsX40_inT w h)) (fun h => wsX50_inT w h)) (fun h => wsX30_inT w h)) (fun h => wsX10_inT w h)) (fun h => wsX00_inT w h)) (fun h => wsJx4a65c0_inT w h)) (fun h => wsX20_inT w h)) (fun h => absurd h List.not_mem_nil)
theorem wsL_law_x0 : ∀ w ∈ (vx_atS RX4 203 "java/lang/IndexOutOfBoundsException" ["java/lang/RuntimeException", "java/lang/Exception"]).filter goodWord, w ∈ lw_tbl := by decide +kernel
theorem wsL_law_x1 : ∀ w ∈ (vx_atS RX4 210 "java/lang/IllegalArgumentException" ["java/lang/RuntimeException", "java/lang/Exception"]).filter goodWord, w ∈ lw_tbl := by decide +kernel
theorem wsL_law_x2 : ∀ w ∈ (vx_atS RX4 215 "java/lang/IllegalStateException" ["java/lang/RuntimeException", "java/lang/Exception"]).filter goodWord, w ∈ lw_tbl := by decide +kernel
theorem wsL_law_in : ∀ w ∈ wsL_law, w ∈ lw_tbl := fun w h => (List.mem_append.mp h).elim (fun h => (List.mem_append.mp h).elim (fun h => (List.mem_append.mp h).elim (fun h => wsL_law_in0 w h) (fun h => wsL_law_x0 w h)) (fun h => wsL_law_x1 w h)) (fun h => wsL_law_x2 w h)
theorem inlX0 : ∀ w ∈ wsX00, w ∈ wsL_law := fun _ h => List.mem_append_left _ (List.mem_append_left _ (List.mem_append_left _ (List.mem_append_left _ (List.mem_append_left _ (List.mem_append_left _ (List.mem_append_right _ h))))))
theorem inX0 : ∀ w ∈ wsX00, w ∈ lw_tbl := fun w h => wsL_law_in w (inlX0 w h)
theorem inlX1 : ∀ w ∈ wsX10, w ∈ wsL_law := fun _ h => List.mem_append_left _ (List.mem_append_left _ (List.mem_append_left _ (List.mem_append_left _ (List.mem_append_left _ (List.mem_append_left _ (List.mem_append_left _ (List.mem_append_right _ h)))))))
theorem inX1 : ∀ w ∈ wsX10, w ∈ lw_tbl := fun w h => wsL_law_in w (inlX1 w h)
theorem inlX2 : ∀ w ∈ wsX20, w ∈ wsL_law := fun _ h => List.mem_append_left _ (List.mem_append_left _ (List.mem_append_left _ (List.mem_append_left _ (List.mem_append_right _ h))))
theorem inX2 : ∀ w ∈ wsX20, w ∈ lw_tbl := fun w h => wsL_law_in w (inlX2 w h)
theorem inlX3 : ∀ w ∈ wsX30, w ∈ wsL_law := fun _ h => List.mem_append_left _ (List.mem_append_left _ (List.mem_append_left _ (List.mem_append_left _ (List.mem_append_left _ (List.mem_append_left _ (List.mem_append_left _ (List.mem_append_left _ (List.mem_append_right _ h))))))))
theorem inX3 : ∀ w ∈ wsX30, w ∈ lw_tbl := fun w h => wsL_law_in w (inlX3 w h)
theorem inlX4 : ∀ w ∈ wsX40, w ∈ wsL_law := fun _ h => List.mem_append_left _ (List.mem_append_left _ (List.mem_append_left _ (List.mem_append_left _ (List.mem_append_left _ (List.mem_append_left _ (List.mem_append_left _ (List.mem_append_left _ (List.mem_append_left _ (List.mem_append_left _ (List.mem_append_right _ h))))))))))
theorem inX4 : ∀ w ∈ wsX40, w ∈ lw_tbl := fun w h => wsL_law_in w (inlX4 w h)
theorem inlX5 : ∀ w ∈ wsX50, w ∈ wsL_law := fun _ h => List.mem_append_left _ (List.mem_append_left _ (List.mem_append_left _ (List.mem_append_left _ (List.mem_append_left _ (List.mem_append_left _ (List.mem_append_left _ (List.mem_append_left _ (List.mem_append_left _ (List.mem_append_right _ h)))))))))
theorem inX5 : ∀ w ∈ wsX50, w ∈ lw_tbl := fun w h => wsL_law_in w (inlX5 w h)
theorem inJx145de : ∀ w ∈ wsJx145de0, w ∈ lw_tbl := by decide +kernel
theorem inJx8e188 : ∀ w ∈ wsJx8e1880, w ∈ lw_tbl := by decide +kernel
theorem inJxab1ab : ∀ w ∈ wsJxab1ab0, w ∈ lw_tbl := by decide +kernel
theorem inJ9 : ∀ w ∈ wsJ90, w ∈ lw_tbl := by decide +kernel
theorem inJ0 : ∀ w ∈ wsJ00, w ∈ lw_tbl := by decide +kernel
theorem inJ10 : ∀ w ∈ wsJ100, w ∈ lw_tbl := by decide +kernel
theorem inJxa1e45 : ∀ w ∈ wsJxa1e450, w ∈ lw_tbl := by decide +kernel
theorem inJxc12de : ∀ w ∈ wsJxc12de0, w ∈ lw_tbl := by decide +kernel
theorem inlJx4a65c : ∀ w ∈ wsJx4a65c0, w ∈ wsL_law := fun _ h => List.mem_append_left _ (List.mem_append_left _ (List.mem_append_left _ (List.mem_append_left _ (List.mem_append_left _ (List.mem_append_right _ h)))))
theorem inJx4a65c : ∀ w ∈ wsJx4a65c0, w ∈ lw_tbl := fun w h => wsL_law_in w (inlJx4a65c w h)
theorem inJ7 : ∀ w ∈ wsJ70, w ∈ lw_tbl := by decide +kernel
theorem inJx5ef63 : ∀ w ∈ wsJx5ef630, w ∈ lw_tbl := by decide +kernel
theorem inJxbd725 : ∀ w ∈ wsJxbd7250, w ∈ lw_tbl := by decide +kernel
theorem inJ15 : ∀ w ∈ wsJ150, w ∈ lw_tbl := by decide +kernel
theorem inJxf0a74 : ∀ w ∈ wsJxf0a740, w ∈ lw_tbl := by decide +kernel
theorem inJxa66e6 : ∀ w ∈ wsJxa66e60, w ∈ lw_tbl := by decide +kernel
theorem inJ8 : ∀ w ∈ wsJ80, w ∈ lw_tbl := by decide +kernel
theorem inJ3 : ∀ w ∈ wsJ30, w ∈ lw_tbl := by decide +kernel
set_option maxRecDepth 20000 in
theorem ggX0_init_J7_fill_53178 : GoodIn wsX0_init wsJ7_fill_53178 := goodIn_r _ [18] (by decide +kernel) (by decide +kernel)
set_option maxRecDepth 20000 in
theorem gX0_init_J7_fill_53178 : GoodIn wsX0_init (va_wsS RX0 41 yJ7_fill_53178 wsJ7_fill_53178) := goodIn_app (goodIn_of _ (by decide +kernel)) ggX0_init_J7_fill_53178
theorem dX0_init_0 : decode cX0_init 0 = .ok (.aload_n 0, 1) := by decide +kernel
theorem dX0_init_1 : decode cX0_init 1 = .ok (.invokespecial 3, 3) := by decide +kernel
theorem dX0_init_4 : decode cX0_init 4 = .ok (.aload_n 0, 1) := by decide +kernel
theorem dX0_init_5 : decode cX0_init 5 = .ok (.bipush 6, 2) := by decide +kernel
theorem dX0_init_7 : decode cX0_init 7 = .ok (.newarray .int, 2) := by decide +kernel
theorem dX0_init_9 : decode cX0_init 9 = .ok (.putfield 9, 3) := by decide +kernel
theorem dX0_init_12 : decode cX0_init 12 = .ok (.aload_n 0, 1) := by decide +kernel
theorem dX0_init_13 : decode cX0_init 13 = .ok (.bipush 6, 2) := by decide +kernel
theorem dX0_init_15 : decode cX0_init 15 = .ok (.newarray .int, 2) := by decide +kernel
theorem dX0_init_17 : decode cX0_init 17 = .ok (.putfield 15, 3) := by decide +kernel
theorem dX0_init_20 : decode cX0_init 20 = .ok (.aload_n 0, 1) := by decide +kernel
theorem dX0_init_21 : decode cX0_init 21 = .ok (.bipush 6, 2) := by decide +kernel
theorem dX0_init_23 : decode cX0_init 23 = .ok (.newarray .int, 2) := by decide +kernel
theorem dX0_init_25 : decode cX0_init 25 = .ok (.putfield 18, 3) := by decide +kernel
theorem dX0_init_28 : decode cX0_init 28 = .ok (.aload_n 0, 1) := by decide +kernel
theorem dX0_init_29 : decode cX0_init 29 = .ok (.bipush 72, 2) := by decide +kernel
theorem dX0_init_31 : decode cX0_init 31 = .ok (.newarray .boolean, 2) := by decide +kernel
theorem dX0_init_33 : decode cX0_init 33 = .ok (.putfield 21, 3) := by decide +kernel
theorem dX0_init_36 : decode cX0_init 36 = .ok (.aload_n 0, 1) := by decide +kernel
theorem dX0_init_37 : decode cX0_init 37 = .ok (.bipush 6, 2) := by decide +kernel
theorem dX0_init_39 : decode cX0_init 39 = .ok (.newarray .boolean, 2) := by decide +kernel
theorem dX0_init_41 : decode cX0_init 41 = .ok (.putfield 25, 3) := by decide +kernel
theorem dX0_init_44 : decode cX0_init 44 = .ok (.aload_n 0, 1) := by decide +kernel
theorem dX0_init_45 : decode cX0_init 45 = .ok (.bipush 6, 2) := by decide +kernel
theorem dX0_init_47 : decode cX0_init 47 = .ok (.newarray .int, 2) := by decide +kernel
theorem dX0_init_49 : decode cX0_init 49 = .ok (.putfield 28, 3) := by decide +kernel
theorem dX0_init_52 : decode cX0_init 52 = .ok (.aload_n 0, 1) := by decide +kernel
theorem dX0_init_53 : decode cX0_init 53 = .ok (.sipush 2400, 3) := by decide +kernel
theorem dX0_init_56 : decode cX0_init 56 = .ok (.newarray .int, 2) := by decide +kernel
theorem dX0_init_58 : decode cX0_init 58 = .ok (.putfield 31, 3) := by decide +kernel
theorem dX0_init_61 : decode cX0_init 61 = .ok (.aload_n 0, 1) := by decide +kernel
theorem dX0_init_62 : decode cX0_init 62 = .ok (.bipush 50, 2) := by decide +kernel
theorem dX0_init_64 : decode cX0_init 64 = .ok (.newarray .int, 2) := by decide +kernel
theorem dX0_init_66 : decode cX0_init 66 = .ok (.putfield 34, 3) := by decide +kernel
theorem dX0_init_69 : decode cX0_init 69 = .ok (.aload_n 0, 1) := by decide +kernel
theorem dX0_init_70 : decode cX0_init 70 = .ok (.iconst 0, 1) := by decide +kernel
theorem dX0_init_71 : decode cX0_init 71 = .ok (.putfield 37, 3) := by decide +kernel
theorem dX0_init_74 : decode cX0_init 74 = .ok (.aload_n 0, 1) := by decide +kernel
theorem dX0_init_75 : decode cX0_init 75 = .ok (.getfield 9, 3) := by decide +kernel
theorem dX0_init_78 : decode cX0_init 78 = .ok (.bipush 10, 2) := by decide +kernel
theorem dX0_init_80 : decode cX0_init 80 = .ok (.invokestatic 41, 3) := by decide +kernel
theorem dX0_init_83 : decode cX0_init 83 = .ok (.return_, 1) := by decide +kernel
theorem dX0_wish_0 : decode cX0_wish 0 = .ok (.iload_n 0, 1) := by decide +kernel
theorem dX0_wish_1 : decode cX0_wish 1 = .ok (.bipush 12, 2) := by decide +kernel
theorem dX0_wish_3 : decode cX0_wish 3 = .ok (.imul, 1) := by decide +kernel
theorem dX0_wish_4 : decode cX0_wish 4 = .ok (.iload_n 1, 1) := by decide +kernel
theorem dX0_wish_5 : decode cX0_wish 5 = .ok (.iadd, 1) := by decide +kernel
theorem dX0_wish_6 : decode cX0_wish 6 = .ok (.ireturn, 1) := by decide +kernel
set_option maxRecDepth 20000 in
theorem ggX0_askedBy_X0_wish : GoodIn wsX0_askedBy wsX0_wish := goodIn_r _ [5] (by decide +kernel) (by decide +kernel)
set_option maxRecDepth 20000 in
theorem gX0_askedBy_X0_wish : GoodIn wsX0_askedBy (va_wsS RX0 47 yX0_wish wsX0_wish) := goodIn_app (goodIn_of _ (by decide +kernel)) ggX0_askedBy_X0_wish
theorem dX0_askedBy_0 : decode cX0_askedBy 0 = .ok (.iconst 0, 1) := by decide +kernel
theorem dX0_askedBy_1 : decode cX0_askedBy 1 = .ok (.istore_n 2, 1) := by decide +kernel
theorem dX0_askedBy_2 : decode cX0_askedBy 2 = .ok (.iconst 0, 1) := by decide +kernel
theorem dX0_askedBy_3 : decode cX0_askedBy 3 = .ok (.istore_n 3, 1) := by decide +kernel
theorem dX0_askedBy_4 : decode cX0_askedBy 4 = .ok (.iload_n 3, 1) := by decide +kernel
theorem dX0_askedBy_5 : decode cX0_askedBy 5 = .ok (.bipush 12, 2) := by decide +kernel
theorem dX0_askedBy_7 : decode cX0_askedBy 7 = .ok (.if_icmp .ge 30, 3) := by decide +kernel
theorem dX0_askedBy_10 : decode cX0_askedBy 10 = .ok (.iload_n 2, 1) := by decide +kernel
theorem dX0_askedBy_11 : decode cX0_askedBy 11 = .ok (.aload_n 0, 1) := by decide +kernel
theorem dX0_askedBy_12 : decode cX0_askedBy 12 = .ok (.getfield 21, 3) := by decide +kernel
theorem dX0_askedBy_15 : decode cX0_askedBy 15 = .ok (.iload_n 1, 1) := by decide +kernel
theorem dX0_askedBy_16 : decode cX0_askedBy 16 = .ok (.iload_n 3, 1) := by decide +kernel
theorem dX0_askedBy_17 : decode cX0_askedBy 17 = .ok (.invokestatic 47, 3) := by decide +kernel
theorem dX0_askedBy_20 : decode cX0_askedBy 20 = .ok (.baload, 1) := by decide +kernel
theorem dX0_askedBy_21 : decode cX0_askedBy 21 = .ok (.ifCond .eq 7, 3) := by decide +kernel
theorem dX0_askedBy_24 : decode cX0_askedBy 24 = .ok (.iconst 1, 1) := by decide +kernel
theorem dX0_askedBy_25 : decode cX0_askedBy 25 = .ok (.goto 4, 3) := by decide +kernel
theorem dX0_askedBy_28 : decode cX0_askedBy 28 = .ok (.iconst 0, 1) := by decide +kernel
theorem dX0_askedBy_29 : decode cX0_askedBy 29 = .ok (.iadd, 1) := by decide +kernel
theorem dX0_askedBy_30 : decode cX0_askedBy 30 = .ok (.istore_n 2, 1) := by decide +kernel
theorem dX0_askedBy_31 : decode cX0_askedBy 31 = .ok (.iinc 3 1, 3) := by decide +kernel
theorem dX0_askedBy_34 : decode cX0_askedBy 34 = .ok (.goto (-30), 3) := by decide +kernel
theorem dX0_askedBy_37 : decode cX0_askedBy 37 = .ok (.iload_n 2, 1) := by decide +kernel
theorem dX0_askedBy_38 : decode cX0_askedBy 38 = .ok (.ireturn, 1) := by decide +kernel
set_option maxRecDepth 20000 in
theorem ggX0_takePlaces_X0_choose : GoodIn wsX0_takePlaces wsX0_choose := goodIn_r _ [8, 3, 9, 10, 11, 12, 7, 13, 14, 15, 16, 17, 18, 19, 20, 21, 22, 2, 23, 24, 25, 26, 27, 28, 29, 30, 31, 32, 33, 34, 35, 43, 44, 45, 46, 47, 48, 49, 50, 51] (by decide +kernel) (by decide +kernel)
set_option maxRecDepth 20000 in
theorem gX0_takePlaces_X0_choose : GoodIn wsX0_takePlaces (wsV RX0 51 RX0 yX0_choose wsX0_choose) := goodIn_app (goodIn_of _ (by decide +kernel)) ggX0_takePlaces_X0_choose
set_option maxRecDepth 20000 in
theorem ggX0_takePlaces_X4_cell : GoodIn wsX0_takePlaces wsX4_cell := goodIn_r _ [38] (by decide +kernel) (by decide +kernel)
set_option maxRecDepth 20000 in
theorem gX0_takePlaces_X4_cell_n55 : GoodIn wsX0_takePlaces (wsX4_cell) := ggX0_takePlaces_X4_cell
set_option maxRecDepth 20000 in
theorem ggX0_takePlaces_X0_endAsking : GoodIn wsX0_takePlaces wsX0_endAsking := goodIn_r _ [42, 2, 22, 23, 24, 7, 25, 43, 44, 45, 46, 47, 48, 49, 50, 51] (by decide +kernel) (by decide +kernel)
set_option maxRecDepth 20000 in
theorem gX0_takePlaces_X0_endAsking : GoodIn wsX0_takePlaces (wsV RX0 58 RX0 yX0_endAsking wsX0_endAsking) := goodIn_app (goodIn_of _ (by decide +kernel)) ggX0_takePlaces_X0_endAsking
theorem dX0_takePlaces_0 : decode cX0_takePlaces 0 = .ok (.iconst 0, 1) := by decide +kernel
theorem dX0_takePlaces_1 : decode cX0_takePlaces 1 = .ok (.istore_n 2, 1) := by decide +kernel
theorem dX0_takePlaces_2 : decode cX0_takePlaces 2 = .ok (.iload_n 2, 1) := by decide +kernel
theorem dX0_takePlaces_3 : decode cX0_takePlaces 3 = .ok (.bipush 12, 2) := by decide +kernel
theorem dX0_takePlaces_5 : decode cX0_takePlaces 5 = .ok (.if_icmp .ge 53, 3) := by decide +kernel
theorem dX0_takePlaces_8 : decode cX0_takePlaces 8 = .ok (.aload_n 0, 1) := by decide +kernel
theorem dX0_takePlaces_9 : decode cX0_takePlaces 9 = .ok (.iload_n 2, 1) := by decide +kernel
theorem dX0_takePlaces_10 : decode cX0_takePlaces 10 = .ok (.invokevirtual 51, 3) := by decide +kernel
theorem dX0_takePlaces_13 : decode cX0_takePlaces 13 = .ok (.istore_n 3, 1) := by decide +kernel
theorem dX0_takePlaces_14 : decode cX0_takePlaces 14 = .ok (.aload_n 0, 1) := by decide +kernel
theorem dX0_takePlaces_15 : decode cX0_takePlaces 15 = .ok (.getfield 31, 3) := by decide +kernel
theorem dX0_takePlaces_18 : decode cX0_takePlaces 18 = .ok (.iload_n 2, 1) := by decide +kernel
theorem dX0_takePlaces_19 : decode cX0_takePlaces 19 = .ok (.iload_n 1, 1) := by decide +kernel
theorem dX0_takePlaces_20 : decode cX0_takePlaces 20 = .ok (.invokestatic 55, 3) := by decide +kernel
theorem dX0_takePlaces_23 : decode cX0_takePlaces 23 = .ok (.iload_n 3, 1) := by decide +kernel
theorem dX0_takePlaces_24 : decode cX0_takePlaces 24 = .ok (.iastore, 1) := by decide +kernel
theorem dX0_takePlaces_25 : decode cX0_takePlaces 25 = .ok (.iload_n 3, 1) := by decide +kernel
theorem dX0_takePlaces_26 : decode cX0_takePlaces 26 = .ok (.ifCond .lt 26, 3) := by decide +kernel
theorem dX0_takePlaces_29 : decode cX0_takePlaces 29 = .ok (.iload_n 3, 1) := by decide +kernel
theorem dX0_takePlaces_30 : decode cX0_takePlaces 30 = .ok (.bipush 6, 2) := by decide +kernel
theorem dX0_takePlaces_32 : decode cX0_takePlaces 32 = .ok (.if_icmp .ge 20, 3) := by decide +kernel
theorem dX0_takePlaces_35 : decode cX0_takePlaces 35 = .ok (.aload_n 0, 1) := by decide +kernel
theorem dX0_takePlaces_36 : decode cX0_takePlaces 36 = .ok (.getfield 25, 3) := by decide +kernel
theorem dX0_takePlaces_39 : decode cX0_takePlaces 39 = .ok (.iload_n 3, 1) := by decide +kernel
theorem dX0_takePlaces_40 : decode cX0_takePlaces 40 = .ok (.iconst 1, 1) := by decide +kernel
theorem dX0_takePlaces_41 : decode cX0_takePlaces 41 = .ok (.bastore, 1) := by decide +kernel
theorem dX0_takePlaces_42 : decode cX0_takePlaces 42 = .ok (.aload_n 0, 1) := by decide +kernel
theorem dX0_takePlaces_43 : decode cX0_takePlaces 43 = .ok (.getfield 15, 3) := by decide +kernel
theorem dX0_takePlaces_46 : decode cX0_takePlaces 46 = .ok (.iload_n 3, 1) := by decide +kernel
theorem dX0_takePlaces_47 : decode cX0_takePlaces 47 = .ok (.dup2, 1) := by decide +kernel
theorem dX0_takePlaces_48 : decode cX0_takePlaces 48 = .ok (.iaload, 1) := by decide +kernel
theorem dX0_takePlaces_49 : decode cX0_takePlaces 49 = .ok (.iconst 1, 1) := by decide +kernel
theorem dX0_takePlaces_50 : decode cX0_takePlaces 50 = .ok (.iadd, 1) := by decide +kernel
theorem dX0_takePlaces_51 : decode cX0_takePlaces 51 = .ok (.iastore, 1) := by decide +kernel
theorem dX0_takePlaces_52 : decode cX0_takePlaces 52 = .ok (.iinc 2 1, 3) := by decide +kernel
theorem dX0_takePlaces_55 : decode cX0_takePlaces 55 = .ok (.goto (-53), 3) := by decide +kernel
theorem dX0_takePlaces_58 : decode cX0_takePlaces 58 = .ok (.aload_n 0, 1) := by decide +kernel
theorem dX0_takePlaces_59 : decode cX0_takePlaces 59 = .ok (.invokevirtual 58, 3) := by decide +kernel
theorem dX0_takePlaces_62 : decode cX0_takePlaces 62 = .ok (.return_, 1) := by decide +kernel
set_option maxRecDepth 20000 in
theorem ggX0_choose_X0_fewestHours : GoodIn wsX0_choose wsX0_fewestHours := goodIn_r _ [7, 1, 8, 9, 10, 11, 12, 13, 14, 6, 15, 16, 17, 18, 19, 20, 31, 32, 33, 34, 35, 36, 37, 38, 39] (by decide +kernel) (by decide +kernel)
set_option maxRecDepth 20000 in
theorem gX0_choose_X0_fewestHours : GoodIn wsX0_choose (wsV RX0 61 RX0 yX0_fewestHours wsX0_fewestHours) := goodIn_app (goodIn_of _ (by decide +kernel)) ggX0_choose_X0_fewestHours
set_option maxRecDepth 20000 in
theorem ggX0_choose_X0_wants : GoodIn wsX0_choose wsX0_wants := goodIn_r _ [15, 16, 17, 18, 19, 6, 20, 31, 32, 33, 34, 35, 36, 37, 38, 39] (by decide +kernel) (by decide +kernel)
set_option maxRecDepth 20000 in
theorem gX0_choose_X0_wants : GoodIn wsX0_choose (wsV RX0 64 RX0 yX0_wants wsX0_wants) := goodIn_app (goodIn_of _ (by decide +kernel)) ggX0_choose_X0_wants
set_option maxRecDepth 20000 in
theorem ggX0_choose_X0_drawLot : GoodIn wsX0_choose wsX0_drawLot := goodIn_r _ [24, 25, 26, 27, 28, 29, 30, 31, 32, 33, 34, 35, 36, 37, 38, 39] (by decide +kernel) (by decide +kernel)
set_option maxRecDepth 20000 in
theorem gX0_choose_X0_drawLot : GoodIn wsX0_choose (wsV RX0 68 RX0 yX0_drawLot wsX0_drawLot) := goodIn_app (goodIn_of _ (by decide +kernel)) ggX0_choose_X0_drawLot
theorem dX0_choose_0 : decode cX0_choose 0 = .ok (.aload_n 0, 1) := by decide +kernel
theorem dX0_choose_1 : decode cX0_choose 1 = .ok (.iload_n 1, 1) := by decide +kernel
theorem dX0_choose_2 : decode cX0_choose 2 = .ok (.invokevirtual 61, 3) := by decide +kernel
theorem dX0_choose_5 : decode cX0_choose 5 = .ok (.istore_n 2, 1) := by decide +kernel
theorem dX0_choose_6 : decode cX0_choose 6 = .ok (.iconst 0, 1) := by decide +kernel
theorem dX0_choose_7 : decode cX0_choose 7 = .ok (.istore_n 3, 1) := by decide +kernel
theorem dX0_choose_8 : decode cX0_choose 8 = .ok (.iconst 0, 1) := by decide +kernel
theorem dX0_choose_9 : decode cX0_choose 9 = .ok (.istore 4, 2) := by decide +kernel
theorem dX0_choose_11 : decode cX0_choose 11 = .ok (.iload 4, 2) := by decide +kernel
theorem dX0_choose_13 : decode cX0_choose 13 = .ok (.bipush 6, 2) := by decide +kernel
theorem dX0_choose_15 : decode cX0_choose 15 = .ok (.if_icmp .ge 41, 3) := by decide +kernel
theorem dX0_choose_18 : decode cX0_choose 18 = .ok (.aload_n 0, 1) := by decide +kernel
theorem dX0_choose_19 : decode cX0_choose 19 = .ok (.iload 4, 2) := by decide +kernel
theorem dX0_choose_21 : decode cX0_choose 21 = .ok (.iload_n 1, 1) := by decide +kernel
theorem dX0_choose_22 : decode cX0_choose 22 = .ok (.invokevirtual 64, 3) := by decide +kernel
theorem dX0_choose_25 : decode cX0_choose 25 = .ok (.ifCond .eq 25, 3) := by decide +kernel
theorem dX0_choose_28 : decode cX0_choose 28 = .ok (.aload_n 0, 1) := by decide +kernel
theorem dX0_choose_29 : decode cX0_choose 29 = .ok (.getfield 15, 3) := by decide +kernel
theorem dX0_choose_32 : decode cX0_choose 32 = .ok (.iload 4, 2) := by decide +kernel
theorem dX0_choose_34 : decode cX0_choose 34 = .ok (.iaload, 1) := by decide +kernel
theorem dX0_choose_35 : decode cX0_choose 35 = .ok (.iload_n 2, 1) := by decide +kernel
theorem dX0_choose_36 : decode cX0_choose 36 = .ok (.if_icmp .ne 14, 3) := by decide +kernel
theorem dX0_choose_39 : decode cX0_choose 39 = .ok (.aload_n 0, 1) := by decide +kernel
theorem dX0_choose_40 : decode cX0_choose 40 = .ok (.getfield 28, 3) := by decide +kernel
theorem dX0_choose_43 : decode cX0_choose 43 = .ok (.iload_n 3, 1) := by decide +kernel
theorem dX0_choose_44 : decode cX0_choose 44 = .ok (.iload 4, 2) := by decide +kernel
theorem dX0_choose_46 : decode cX0_choose 46 = .ok (.iastore, 1) := by decide +kernel
theorem dX0_choose_47 : decode cX0_choose 47 = .ok (.iinc 3 1, 3) := by decide +kernel
theorem dX0_choose_50 : decode cX0_choose 50 = .ok (.iinc 4 1, 3) := by decide +kernel
theorem dX0_choose_53 : decode cX0_choose 53 = .ok (.goto (-42), 3) := by decide +kernel
theorem dX0_choose_56 : decode cX0_choose 56 = .ok (.iload_n 3, 1) := by decide +kernel
theorem dX0_choose_57 : decode cX0_choose 57 = .ok (.ifCond .ne 5, 3) := by decide +kernel
theorem dX0_choose_60 : decode cX0_choose 60 = .ok (.iconst (-1), 1) := by decide +kernel
theorem dX0_choose_61 : decode cX0_choose 61 = .ok (.ireturn, 1) := by decide +kernel
theorem dX0_choose_62 : decode cX0_choose 62 = .ok (.iload_n 3, 1) := by decide +kernel
theorem dX0_choose_63 : decode cX0_choose 63 = .ok (.iconst 1, 1) := by decide +kernel
theorem dX0_choose_64 : decode cX0_choose 64 = .ok (.if_icmp .ne 12, 3) := by decide +kernel
theorem dX0_choose_67 : decode cX0_choose 67 = .ok (.aload_n 0, 1) := by decide +kernel
theorem dX0_choose_68 : decode cX0_choose 68 = .ok (.getfield 28, 3) := by decide +kernel
theorem dX0_choose_71 : decode cX0_choose 71 = .ok (.iconst 0, 1) := by decide +kernel
theorem dX0_choose_72 : decode cX0_choose 72 = .ok (.iaload, 1) := by decide +kernel
theorem dX0_choose_73 : decode cX0_choose 73 = .ok (.goto 14, 3) := by decide +kernel
theorem dX0_choose_76 : decode cX0_choose 76 = .ok (.aload_n 0, 1) := by decide +kernel
theorem dX0_choose_77 : decode cX0_choose 77 = .ok (.getfield 28, 3) := by decide +kernel
theorem dX0_choose_80 : decode cX0_choose 80 = .ok (.aload_n 0, 1) := by decide +kernel
theorem dX0_choose_81 : decode cX0_choose 81 = .ok (.invokevirtual 68, 3) := by decide +kernel
theorem dX0_choose_84 : decode cX0_choose 84 = .ok (.iload_n 3, 1) := by decide +kernel
theorem dX0_choose_85 : decode cX0_choose 85 = .ok (.irem, 1) := by decide +kernel
theorem dX0_choose_86 : decode cX0_choose 86 = .ok (.iaload, 1) := by decide +kernel
theorem dX0_choose_87 : decode cX0_choose 87 = .ok (.ireturn, 1) := by decide +kernel
set_option maxRecDepth 20000 in
theorem ggX0_fewestHours_X0_wants : GoodIn wsX0_fewestHours wsX0_wants := goodIn_r _ [10, 11, 12, 13, 14, 9, 15, 16, 17, 18, 19, 20, 21, 22, 23, 24] (by decide +kernel) (by decide +kernel)
set_option maxRecDepth 20000 in
theorem gX0_fewestHours_X0_wants : GoodIn wsX0_fewestHours (wsV RX0 64 RX0 yX0_wants wsX0_wants) := goodIn_app (goodIn_of _ (by decide +kernel)) ggX0_fewestHours_X0_wants
theorem dX0_fewestHours_0 : decode cX0_fewestHours 0 = .ok (.sipush 200, 3) := by decide +kernel
theorem dX0_fewestHours_3 : decode cX0_fewestHours 3 = .ok (.istore_n 2, 1) := by decide +kernel
theorem dX0_fewestHours_4 : decode cX0_fewestHours 4 = .ok (.iconst 0, 1) := by decide +kernel
theorem dX0_fewestHours_5 : decode cX0_fewestHours 5 = .ok (.istore_n 3, 1) := by decide +kernel
theorem dX0_fewestHours_6 : decode cX0_fewestHours 6 = .ok (.iload_n 3, 1) := by decide +kernel
theorem dX0_fewestHours_7 : decode cX0_fewestHours 7 = .ok (.bipush 6, 2) := by decide +kernel
theorem dX0_fewestHours_9 : decode cX0_fewestHours 9 = .ok (.if_icmp .ge 29, 3) := by decide +kernel
theorem dX0_fewestHours_12 : decode cX0_fewestHours 12 = .ok (.aload_n 0, 1) := by decide +kernel
theorem dX0_fewestHours_13 : decode cX0_fewestHours 13 = .ok (.iload_n 3, 1) := by decide +kernel
theorem dX0_fewestHours_14 : decode cX0_fewestHours 14 = .ok (.iload_n 1, 1) := by decide +kernel
theorem dX0_fewestHours_15 : decode cX0_fewestHours 15 = .ok (.invokevirtual 64, 3) := by decide +kernel
theorem dX0_fewestHours_18 : decode cX0_fewestHours 18 = .ok (.ifCond .eq 14, 3) := by decide +kernel
theorem dX0_fewestHours_21 : decode cX0_fewestHours 21 = .ok (.iload_n 2, 1) := by decide +kernel
theorem dX0_fewestHours_22 : decode cX0_fewestHours 22 = .ok (.aload_n 0, 1) := by decide +kernel
theorem dX0_fewestHours_23 : decode cX0_fewestHours 23 = .ok (.getfield 15, 3) := by decide +kernel
theorem dX0_fewestHours_26 : decode cX0_fewestHours 26 = .ok (.iload_n 3, 1) := by decide +kernel
theorem dX0_fewestHours_27 : decode cX0_fewestHours 27 = .ok (.iaload, 1) := by decide +kernel
theorem dX0_fewestHours_28 : decode cX0_fewestHours 28 = .ok (.invokestatic 72, 3) := by decide +kernel
theorem dX0_fewestHours_31 : decode cX0_fewestHours 31 = .ok (.istore_n 2, 1) := by decide +kernel
theorem dX0_fewestHours_32 : decode cX0_fewestHours 32 = .ok (.iinc 3 1, 3) := by decide +kernel
theorem dX0_fewestHours_35 : decode cX0_fewestHours 35 = .ok (.goto (-29), 3) := by decide +kernel
theorem dX0_fewestHours_38 : decode cX0_fewestHours 38 = .ok (.iload_n 2, 1) := by decide +kernel
theorem dX0_fewestHours_39 : decode cX0_fewestHours 39 = .ok (.ireturn, 1) := by decide +kernel
set_option maxRecDepth 20000 in
theorem ggX0_wants_X0_wish : GoodIn wsX0_wants wsX0_wish := goodIn_r _ [6] (by decide +kernel) (by decide +kernel)
set_option maxRecDepth 20000 in
theorem gX0_wants_X0_wish : GoodIn wsX0_wants (va_wsS RX0 47 yX0_wish wsX0_wish) := goodIn_app (goodIn_of _ (by decide +kernel)) ggX0_wants_X0_wish
theorem dX0_wants_0 : decode cX0_wants 0 = .ok (.aload_n 0, 1) := by decide +kernel
theorem dX0_wants_1 : decode cX0_wants 1 = .ok (.getfield 21, 3) := by decide +kernel
theorem dX0_wants_4 : decode cX0_wants 4 = .ok (.iload_n 1, 1) := by decide +kernel
theorem dX0_wants_5 : decode cX0_wants 5 = .ok (.iload_n 2, 1) := by decide +kernel
theorem dX0_wants_6 : decode cX0_wants 6 = .ok (.invokestatic 47, 3) := by decide +kernel
theorem dX0_wants_9 : decode cX0_wants 9 = .ok (.baload, 1) := by decide +kernel
theorem dX0_wants_10 : decode cX0_wants 10 = .ok (.ifCond .eq 16, 3) := by decide +kernel
theorem dX0_wants_13 : decode cX0_wants 13 = .ok (.aload_n 0, 1) := by decide +kernel
theorem dX0_wants_14 : decode cX0_wants 14 = .ok (.getfield 25, 3) := by decide +kernel
theorem dX0_wants_17 : decode cX0_wants 17 = .ok (.iload_n 1, 1) := by decide +kernel
theorem dX0_wants_18 : decode cX0_wants 18 = .ok (.baload, 1) := by decide +kernel
theorem dX0_wants_19 : decode cX0_wants 19 = .ok (.ifCond .ne 7, 3) := by decide +kernel
theorem dX0_wants_22 : decode cX0_wants 22 = .ok (.iconst 1, 1) := by decide +kernel
theorem dX0_wants_23 : decode cX0_wants 23 = .ok (.goto 4, 3) := by decide +kernel
theorem dX0_wants_26 : decode cX0_wants 26 = .ok (.iconst 0, 1) := by decide +kernel
theorem dX0_wants_27 : decode cX0_wants 27 = .ok (.ireturn, 1) := by decide +kernel
theorem dX0_drawLot_0 : decode cX0_drawLot 0 = .ok (.aload_n 0, 1) := by decide +kernel
theorem dX0_drawLot_1 : decode cX0_drawLot 1 = .ok (.getfield 37, 3) := by decide +kernel
theorem dX0_drawLot_4 : decode cX0_drawLot 4 = .ok (.ifCond .ne 5, 3) := by decide +kernel
theorem dX0_drawLot_7 : decode cX0_drawLot 7 = .ok (.iconst 0, 1) := by decide +kernel
theorem dX0_drawLot_8 : decode cX0_drawLot 8 = .ok (.ireturn, 1) := by decide +kernel
theorem dX0_drawLot_9 : decode cX0_drawLot 9 = .ok (.aload_n 0, 1) := by decide +kernel
theorem dX0_drawLot_10 : decode cX0_drawLot 10 = .ok (.getfield 34, 3) := by decide +kernel
theorem dX0_drawLot_13 : decode cX0_drawLot 13 = .ok (.iconst 0, 1) := by decide +kernel
theorem dX0_drawLot_14 : decode cX0_drawLot 14 = .ok (.iaload, 1) := by decide +kernel
theorem dX0_drawLot_15 : decode cX0_drawLot 15 = .ok (.istore_n 1, 1) := by decide +kernel
theorem dX0_drawLot_16 : decode cX0_drawLot 16 = .ok (.aload_n 0, 1) := by decide +kernel
theorem dX0_drawLot_17 : decode cX0_drawLot 17 = .ok (.dup, 1) := by decide +kernel
theorem dX0_drawLot_18 : decode cX0_drawLot 18 = .ok (.getfield 37, 3) := by decide +kernel
theorem dX0_drawLot_21 : decode cX0_drawLot 21 = .ok (.iconst 1, 1) := by decide +kernel
theorem dX0_drawLot_22 : decode cX0_drawLot 22 = .ok (.isub, 1) := by decide +kernel
theorem dX0_drawLot_23 : decode cX0_drawLot 23 = .ok (.putfield 37, 3) := by decide +kernel
theorem dX0_drawLot_26 : decode cX0_drawLot 26 = .ok (.aload_n 0, 1) := by decide +kernel
theorem dX0_drawLot_27 : decode cX0_drawLot 27 = .ok (.getfield 34, 3) := by decide +kernel
theorem dX0_drawLot_30 : decode cX0_drawLot 30 = .ok (.iconst 1, 1) := by decide +kernel
theorem dX0_drawLot_31 : decode cX0_drawLot 31 = .ok (.aload_n 0, 1) := by decide +kernel
theorem dX0_drawLot_32 : decode cX0_drawLot 32 = .ok (.getfield 34, 3) := by decide +kernel
theorem dX0_drawLot_35 : decode cX0_drawLot 35 = .ok (.iconst 0, 1) := by decide +kernel
theorem dX0_drawLot_36 : decode cX0_drawLot 36 = .ok (.aload_n 0, 1) := by decide +kernel
theorem dX0_drawLot_37 : decode cX0_drawLot 37 = .ok (.getfield 37, 3) := by decide +kernel
theorem dX0_drawLot_40 : decode cX0_drawLot 40 = .ok (.invokestatic 77, 3) := by decide +kernel
theorem dX0_drawLot_43 : decode cX0_drawLot 43 = .ok (.iload_n 1, 1) := by decide +kernel
theorem dX0_drawLot_44 : decode cX0_drawLot 44 = .ok (.ireturn, 1) := by decide +kernel
set_option maxRecDepth 20000 in
theorem ggX0_endAsking_X0_wish : GoodIn wsX0_endAsking wsX0_wish := goodIn_r _ [6] (by decide +kernel) (by decide +kernel)
set_option maxRecDepth 20000 in
theorem gX0_endAsking_X0_wish : GoodIn wsX0_endAsking (va_wsS RX0 47 yX0_wish wsX0_wish) := goodIn_app (goodIn_of _ (by decide +kernel)) ggX0_endAsking_X0_wish
theorem dX0_endAsking_0 : decode cX0_endAsking 0 = .ok (.iconst 0, 1) := by decide +kernel
theorem dX0_endAsking_1 : decode cX0_endAsking 1 = .ok (.istore_n 1, 1) := by decide +kernel
theorem dX0_endAsking_2 : decode cX0_endAsking 2 = .ok (.iload_n 1, 1) := by decide +kernel
theorem dX0_endAsking_3 : decode cX0_endAsking 3 = .ok (.bipush 6, 2) := by decide +kernel
theorem dX0_endAsking_5 : decode cX0_endAsking 5 = .ok (.if_icmp .ge 41, 3) := by decide +kernel
theorem dX0_endAsking_8 : decode cX0_endAsking 8 = .ok (.aload_n 0, 1) := by decide +kernel
theorem dX0_endAsking_9 : decode cX0_endAsking 9 = .ok (.getfield 25, 3) := by decide +kernel
theorem dX0_endAsking_12 : decode cX0_endAsking 12 = .ok (.iload_n 1, 1) := by decide +kernel
theorem dX0_endAsking_13 : decode cX0_endAsking 13 = .ok (.iconst 0, 1) := by decide +kernel
theorem dX0_endAsking_14 : decode cX0_endAsking 14 = .ok (.bastore, 1) := by decide +kernel
theorem dX0_endAsking_15 : decode cX0_endAsking 15 = .ok (.iconst 0, 1) := by decide +kernel
theorem dX0_endAsking_16 : decode cX0_endAsking 16 = .ok (.istore_n 2, 1) := by decide +kernel
theorem dX0_endAsking_17 : decode cX0_endAsking 17 = .ok (.iload_n 2, 1) := by decide +kernel
theorem dX0_endAsking_18 : decode cX0_endAsking 18 = .ok (.bipush 12, 2) := by decide +kernel
theorem dX0_endAsking_20 : decode cX0_endAsking 20 = .ok (.if_icmp .ge 20, 3) := by decide +kernel
theorem dX0_endAsking_23 : decode cX0_endAsking 23 = .ok (.aload_n 0, 1) := by decide +kernel
theorem dX0_endAsking_24 : decode cX0_endAsking 24 = .ok (.getfield 21, 3) := by decide +kernel
theorem dX0_endAsking_27 : decode cX0_endAsking 27 = .ok (.iload_n 1, 1) := by decide +kernel
theorem dX0_endAsking_28 : decode cX0_endAsking 28 = .ok (.iload_n 2, 1) := by decide +kernel
theorem dX0_endAsking_29 : decode cX0_endAsking 29 = .ok (.invokestatic 47, 3) := by decide +kernel
theorem dX0_endAsking_32 : decode cX0_endAsking 32 = .ok (.iconst 0, 1) := by decide +kernel
theorem dX0_endAsking_33 : decode cX0_endAsking 33 = .ok (.bastore, 1) := by decide +kernel
theorem dX0_endAsking_34 : decode cX0_endAsking 34 = .ok (.iinc 2 1, 3) := by decide +kernel
theorem dX0_endAsking_37 : decode cX0_endAsking 37 = .ok (.goto (-20), 3) := by decide +kernel
theorem dX0_endAsking_40 : decode cX0_endAsking 40 = .ok (.iinc 1 1, 3) := by decide +kernel
theorem dX0_endAsking_43 : decode cX0_endAsking 43 = .ok (.goto (-41), 3) := by decide +kernel
theorem dX0_endAsking_46 : decode cX0_endAsking 46 = .ok (.return_, 1) := by decide +kernel
theorem dX0_playTo_0 : decode cX0_playTo 0 = .ok (.iload_n 2, 1) := by decide +kernel
theorem dX0_playTo_1 : decode cX0_playTo 1 = .ok (.ifCond .lt 9, 3) := by decide +kernel
theorem dX0_playTo_4 : decode cX0_playTo 4 = .ok (.iload_n 2, 1) := by decide +kernel
theorem dX0_playTo_5 : decode cX0_playTo 5 = .ok (.bipush 6, 2) := by decide +kernel
theorem dX0_playTo_7 : decode cX0_playTo 7 = .ok (.if_icmp .lt 5, 3) := by decide +kernel
theorem dX0_playTo_10 : decode cX0_playTo 10 = .ok (.iconst 0, 1) := by decide +kernel
theorem dX0_playTo_11 : decode cX0_playTo 11 = .ok (.ireturn, 1) := by decide +kernel
theorem dX0_playTo_12 : decode cX0_playTo 12 = .ok (.iload_n 1, 1) := by decide +kernel
theorem dX0_playTo_13 : decode cX0_playTo 13 = .ok (.aload_n 0, 1) := by decide +kernel
theorem dX0_playTo_14 : decode cX0_playTo 14 = .ok (.getfield 9, 3) := by decide +kernel
theorem dX0_playTo_17 : decode cX0_playTo 17 = .ok (.iload_n 2, 1) := by decide +kernel
theorem dX0_playTo_18 : decode cX0_playTo 18 = .ok (.iaload, 1) := by decide +kernel
theorem dX0_playTo_19 : decode cX0_playTo 19 = .ok (.imul, 1) := by decide +kernel
theorem dX0_playTo_20 : decode cX0_playTo 20 = .ok (.bipush 100, 2) := by decide +kernel
theorem dX0_playTo_22 : decode cX0_playTo 22 = .ok (.idiv, 1) := by decide +kernel
theorem dX0_playTo_23 : decode cX0_playTo 23 = .ok (.istore_n 3, 1) := by decide +kernel
theorem dX0_playTo_24 : decode cX0_playTo 24 = .ok (.aload_n 0, 1) := by decide +kernel
theorem dX0_playTo_25 : decode cX0_playTo 25 = .ok (.getfield 18, 3) := by decide +kernel
theorem dX0_playTo_28 : decode cX0_playTo 28 = .ok (.iload_n 2, 1) := by decide +kernel
theorem dX0_playTo_29 : decode cX0_playTo 29 = .ok (.dup2, 1) := by decide +kernel
theorem dX0_playTo_30 : decode cX0_playTo 30 = .ok (.iaload, 1) := by decide +kernel
theorem dX0_playTo_31 : decode cX0_playTo 31 = .ok (.iload_n 3, 1) := by decide +kernel
theorem dX0_playTo_32 : decode cX0_playTo 32 = .ok (.bipush 10, 2) := by decide +kernel
theorem dX0_playTo_34 : decode cX0_playTo 34 = .ok (.idiv, 1) := by decide +kernel
theorem dX0_playTo_35 : decode cX0_playTo 35 = .ok (.iadd, 1) := by decide +kernel
theorem dX0_playTo_36 : decode cX0_playTo 36 = .ok (.iastore, 1) := by decide +kernel
theorem dX0_playTo_37 : decode cX0_playTo 37 = .ok (.iload_n 3, 1) := by decide +kernel
theorem dX0_playTo_38 : decode cX0_playTo 38 = .ok (.ireturn, 1) := by decide +kernel
theorem dX1_init_0 : decode cX1_init 0 = .ok (.aload_n 0, 1) := by decide +kernel
theorem dX1_init_1 : decode cX1_init 1 = .ok (.invokespecial 3, 3) := by decide +kernel
theorem dX1_init_4 : decode cX1_init 4 = .ok (.aload_n 0, 1) := by decide +kernel
theorem dX1_init_5 : decode cX1_init 5 = .ok (.bipush 12, 2) := by decide +kernel
theorem dX1_init_7 : decode cX1_init 7 = .ok (.newarray .boolean, 2) := by decide +kernel
theorem dX1_init_9 : decode cX1_init 9 = .ok (.putfield 9, 3) := by decide +kernel
theorem dX1_init_12 : decode cX1_init 12 = .ok (.aload_n 0, 1) := by decide +kernel
theorem dX1_init_13 : decode cX1_init 13 = .ok (.bipush 12, 2) := by decide +kernel
theorem dX1_init_15 : decode cX1_init 15 = .ok (.newarray .int, 2) := by decide +kernel
theorem dX1_init_17 : decode cX1_init 17 = .ok (.putfield 15, 3) := by decide +kernel
theorem dX1_init_20 : decode cX1_init 20 = .ok (.aload_n 0, 1) := by decide +kernel
theorem dX1_init_21 : decode cX1_init 21 = .ok (.sipush 2400, 3) := by decide +kernel
theorem dX1_init_24 : decode cX1_init 24 = .ok (.newarray .int, 2) := by decide +kernel
theorem dX1_init_26 : decode cX1_init 26 = .ok (.putfield 19, 3) := by decide +kernel
theorem dX1_init_29 : decode cX1_init 29 = .ok (.aload_n 0, 1) := by decide +kernel
theorem dX1_init_30 : decode cX1_init 30 = .ok (.sipush 2400, 3) := by decide +kernel
theorem dX1_init_33 : decode cX1_init 33 = .ok (.newarray .int, 2) := by decide +kernel
theorem dX1_init_35 : decode cX1_init 35 = .ok (.putfield 22, 3) := by decide +kernel
theorem dX1_init_38 : decode cX1_init 38 = .ok (.aload_n 0, 1) := by decide +kernel
theorem dX1_init_39 : decode cX1_init 39 = .ok (.bipush 60, 2) := by decide +kernel
theorem dX1_init_41 : decode cX1_init 41 = .ok (.newarray .int, 2) := by decide +kernel
theorem dX1_init_43 : decode cX1_init 43 = .ok (.putfield 25, 3) := by decide +kernel
theorem dX1_init_46 : decode cX1_init 46 = .ok (.aload_n 0, 1) := by decide +kernel
theorem dX1_init_47 : decode cX1_init 47 = .ok (.bipush 60, 2) := by decide +kernel
theorem dX1_init_49 : decode cX1_init 49 = .ok (.newarray .int, 2) := by decide +kernel
theorem dX1_init_51 : decode cX1_init 51 = .ok (.putfield 28, 3) := by decide +kernel
theorem dX1_init_54 : decode cX1_init 54 = .ok (.aload_n 0, 1) := by decide +kernel
theorem dX1_init_55 : decode cX1_init 55 = .ok (.bipush 60, 2) := by decide +kernel
theorem dX1_init_57 : decode cX1_init 57 = .ok (.newarray .int, 2) := by decide +kernel
theorem dX1_init_59 : decode cX1_init 59 = .ok (.putfield 31, 3) := by decide +kernel
theorem dX1_init_62 : decode cX1_init 62 = .ok (.aload_n 0, 1) := by decide +kernel
theorem dX1_init_63 : decode cX1_init 63 = .ok (.iconst 0, 1) := by decide +kernel
theorem dX1_init_64 : decode cX1_init 64 = .ok (.putfield 34, 3) := by decide +kernel
theorem dX1_init_67 : decode cX1_init 67 = .ok (.return_, 1) := by decide +kernel
theorem dX1_noteFinding_0 : decode cX1_noteFinding 0 = .ok (.aload_n 0, 1) := by decide +kernel
theorem dX1_noteFinding_1 : decode cX1_noteFinding 1 = .ok (.getfield 25, 3) := by decide +kernel
theorem dX1_noteFinding_4 : decode cX1_noteFinding 4 = .ok (.aload_n 0, 1) := by decide +kernel
theorem dX1_noteFinding_5 : decode cX1_noteFinding 5 = .ok (.getfield 34, 3) := by decide +kernel
theorem dX1_noteFinding_8 : decode cX1_noteFinding 8 = .ok (.iload_n 1, 1) := by decide +kernel
theorem dX1_noteFinding_9 : decode cX1_noteFinding 9 = .ok (.iastore, 1) := by decide +kernel
theorem dX1_noteFinding_10 : decode cX1_noteFinding 10 = .ok (.aload_n 0, 1) := by decide +kernel
theorem dX1_noteFinding_11 : decode cX1_noteFinding 11 = .ok (.getfield 28, 3) := by decide +kernel
theorem dX1_noteFinding_14 : decode cX1_noteFinding 14 = .ok (.aload_n 0, 1) := by decide +kernel
theorem dX1_noteFinding_15 : decode cX1_noteFinding 15 = .ok (.getfield 34, 3) := by decide +kernel
theorem dX1_noteFinding_18 : decode cX1_noteFinding 18 = .ok (.iload_n 2, 1) := by decide +kernel
theorem dX1_noteFinding_19 : decode cX1_noteFinding 19 = .ok (.iastore, 1) := by decide +kernel
theorem dX1_noteFinding_20 : decode cX1_noteFinding 20 = .ok (.aload_n 0, 1) := by decide +kernel
theorem dX1_noteFinding_21 : decode cX1_noteFinding 21 = .ok (.getfield 31, 3) := by decide +kernel
theorem dX1_noteFinding_24 : decode cX1_noteFinding 24 = .ok (.aload_n 0, 1) := by decide +kernel
theorem dX1_noteFinding_25 : decode cX1_noteFinding 25 = .ok (.getfield 34, 3) := by decide +kernel
theorem dX1_noteFinding_28 : decode cX1_noteFinding 28 = .ok (.iload_n 3, 1) := by decide +kernel
theorem dX1_noteFinding_29 : decode cX1_noteFinding 29 = .ok (.iastore, 1) := by decide +kernel
theorem dX1_noteFinding_30 : decode cX1_noteFinding 30 = .ok (.aload_n 0, 1) := by decide +kernel
theorem dX1_noteFinding_31 : decode cX1_noteFinding 31 = .ok (.dup, 1) := by decide +kernel
theorem dX1_noteFinding_32 : decode cX1_noteFinding 32 = .ok (.getfield 34, 3) := by decide +kernel
theorem dX1_noteFinding_35 : decode cX1_noteFinding 35 = .ok (.iconst 1, 1) := by decide +kernel
theorem dX1_noteFinding_36 : decode cX1_noteFinding 36 = .ok (.iadd, 1) := by decide +kernel
theorem dX1_noteFinding_37 : decode cX1_noteFinding 37 = .ok (.putfield 34, 3) := by decide +kernel
theorem dX1_noteFinding_40 : decode cX1_noteFinding 40 = .ok (.return_, 1) := by decide +kernel
theorem dX1_foundLast_0 : decode cX1_foundLast 0 = .ok (.iconst 0, 1) := by decide +kernel
theorem dX1_foundLast_1 : decode cX1_foundLast 1 = .ok (.istore_n 3, 1) := by decide +kernel
theorem dX1_foundLast_2 : decode cX1_foundLast 2 = .ok (.iconst 0, 1) := by decide +kernel
theorem dX1_foundLast_3 : decode cX1_foundLast 3 = .ok (.istore 4, 2) := by decide +kernel
theorem dX1_foundLast_5 : decode cX1_foundLast 5 = .ok (.iload 4, 2) := by decide +kernel
theorem dX1_foundLast_7 : decode cX1_foundLast 7 = .ok (.aload_n 0, 1) := by decide +kernel
theorem dX1_foundLast_8 : decode cX1_foundLast 8 = .ok (.getfield 34, 3) := by decide +kernel
theorem dX1_foundLast_11 : decode cX1_foundLast 11 = .ok (.if_icmp .ge 39, 3) := by decide +kernel
theorem dX1_foundLast_14 : decode cX1_foundLast 14 = .ok (.aload_n 0, 1) := by decide +kernel
theorem dX1_foundLast_15 : decode cX1_foundLast 15 = .ok (.getfield 25, 3) := by decide +kernel
theorem dX1_foundLast_18 : decode cX1_foundLast 18 = .ok (.iload 4, 2) := by decide +kernel
theorem dX1_foundLast_20 : decode cX1_foundLast 20 = .ok (.iaload, 1) := by decide +kernel
theorem dX1_foundLast_21 : decode cX1_foundLast 21 = .ok (.iload_n 1, 1) := by decide +kernel
theorem dX1_foundLast_22 : decode cX1_foundLast 22 = .ok (.if_icmp .ne 22, 3) := by decide +kernel
theorem dX1_foundLast_25 : decode cX1_foundLast 25 = .ok (.aload_n 0, 1) := by decide +kernel
theorem dX1_foundLast_26 : decode cX1_foundLast 26 = .ok (.getfield 28, 3) := by decide +kernel
theorem dX1_foundLast_29 : decode cX1_foundLast 29 = .ok (.iload 4, 2) := by decide +kernel
theorem dX1_foundLast_31 : decode cX1_foundLast 31 = .ok (.iaload, 1) := by decide +kernel
theorem dX1_foundLast_32 : decode cX1_foundLast 32 = .ok (.iload_n 2, 1) := by decide +kernel
theorem dX1_foundLast_33 : decode cX1_foundLast 33 = .ok (.if_icmp .gt 11, 3) := by decide +kernel
theorem dX1_foundLast_36 : decode cX1_foundLast 36 = .ok (.aload_n 0, 1) := by decide +kernel
theorem dX1_foundLast_37 : decode cX1_foundLast 37 = .ok (.getfield 31, 3) := by decide +kernel
theorem dX1_foundLast_40 : decode cX1_foundLast 40 = .ok (.iload 4, 2) := by decide +kernel
theorem dX1_foundLast_42 : decode cX1_foundLast 42 = .ok (.iaload, 1) := by decide +kernel
theorem dX1_foundLast_43 : decode cX1_foundLast 43 = .ok (.istore_n 3, 1) := by decide +kernel
theorem dX1_foundLast_44 : decode cX1_foundLast 44 = .ok (.iinc 4 1, 3) := by decide +kernel
theorem dX1_foundLast_47 : decode cX1_foundLast 47 = .ok (.goto (-42), 3) := by decide +kernel
theorem dX1_foundLast_50 : decode cX1_foundLast 50 = .ok (.iload_n 3, 1) := by decide +kernel
theorem dX1_foundLast_51 : decode cX1_foundLast 51 = .ok (.ireturn, 1) := by decide +kernel
set_option maxRecDepth 20000 in
theorem ggX1_isLost_X4_cell : GoodIn wsX1_isLost wsX4_cell := goodIn_r _ [4] (by decide +kernel) (by decide +kernel)
set_option maxRecDepth 20000 in
theorem gX1_isLost_X4_cell_n38 : GoodIn wsX1_isLost (wsX4_cell) := ggX1_isLost_X4_cell
theorem dX1_isLost_0 : decode cX1_isLost 0 = .ok (.aload_n 0, 1) := by decide +kernel
theorem dX1_isLost_1 : decode cX1_isLost 1 = .ok (.getfield 19, 3) := by decide +kernel
theorem dX1_isLost_4 : decode cX1_isLost 4 = .ok (.iload_n 1, 1) := by decide +kernel
theorem dX1_isLost_5 : decode cX1_isLost 5 = .ok (.iload_n 2, 1) := by decide +kernel
theorem dX1_isLost_6 : decode cX1_isLost 6 = .ok (.invokestatic 38, 3) := by decide +kernel
theorem dX1_isLost_9 : decode cX1_isLost 9 = .ok (.iaload, 1) := by decide +kernel
theorem dX1_isLost_10 : decode cX1_isLost 10 = .ok (.iconst (-1), 1) := by decide +kernel
theorem dX1_isLost_11 : decode cX1_isLost 11 = .ok (.if_icmp .ne 7, 3) := by decide +kernel
theorem dX1_isLost_14 : decode cX1_isLost 14 = .ok (.iconst 1, 1) := by decide +kernel
theorem dX1_isLost_15 : decode cX1_isLost 15 = .ok (.goto 4, 3) := by decide +kernel
theorem dX1_isLost_18 : decode cX1_isLost 18 = .ok (.iconst 0, 1) := by decide +kernel
theorem dX1_isLost_19 : decode cX1_isLost 19 = .ok (.ireturn, 1) := by decide +kernel
set_option maxRecDepth 20000 in
theorem ggX1_read_X4_cell : GoodIn wsX1_read wsX4_cell := goodIn_r _ [8] (by decide +kernel) (by decide +kernel)
set_option maxRecDepth 20000 in
theorem gX1_read_X4_cell_n38 : GoodIn wsX1_read (wsX4_cell) := ggX1_read_X4_cell
set_option maxRecDepth 20000 in
theorem ggX1_read_X1_isLost : GoodIn wsX1_read wsX1_isLost := goodIn_r _ [13, 2, 6, 7, 8, 46, 47, 48, 49, 50, 51, 52, 53] (by decide +kernel) (by decide +kernel)
set_option maxRecDepth 20000 in
theorem gX1_read_X1_isLost : GoodIn wsX1_read (wsV RX1 47 RX1 yX1_isLost wsX1_isLost) := goodIn_app (goodIn_of _ (by decide +kernel)) ggX1_read_X1_isLost
set_option maxRecDepth 20000 in
theorem ggX1_read_X1_countOfReading : GoodIn wsX1_read wsX1_countOfReading := goodIn_r _ [17, 2, 18, 19, 20, 12, 21, 22, 23, 24, 25, 6, 7, 8, 46, 47, 48, 49, 50, 51, 52, 53] (by decide +kernel) (by decide +kernel)
set_option maxRecDepth 20000 in
theorem gX1_read_X1_countOfReading : GoodIn wsX1_read (wsV RX1 51 RX1 yX1_countOfReading wsX1_countOfReading) := goodIn_app (goodIn_of _ (by decide +kernel)) ggX1_read_X1_countOfReading
set_option maxRecDepth 20000 in
theorem ggX1_read_X1_filledFromKept : GoodIn wsX1_read wsX1_filledFromKept := goodIn_r _ [29, 5, 30, 31, 32, 12, 33, 9, 10, 11, 13, 2, 6, 7, 8, 34, 35, 36, 37, 38, 39, 40, 46, 47, 48, 49, 50, 51, 52, 53] (by decide +kernel) (by decide +kernel)
set_option maxRecDepth 20000 in
theorem gX1_read_X1_filledFromKept : GoodIn wsX1_read (wsV RX1 54 RX1 yX1_filledFromKept wsX1_filledFromKept) := goodIn_app (goodIn_of _ (by decide +kernel)) ggX1_read_X1_filledFromKept
theorem dX1_read_0 : decode cX1_read 0 = .ok (.iconst 0, 1) := by decide +kernel
theorem dX1_read_1 : decode cX1_read 1 = .ok (.istore_n 3, 1) := by decide +kernel
theorem dX1_read_2 : decode cX1_read 2 = .ok (.iload_n 3, 1) := by decide +kernel
theorem dX1_read_3 : decode cX1_read 3 = .ok (.bipush 12, 2) := by decide +kernel
theorem dX1_read_5 : decode cX1_read 5 = .ok (.if_icmp .ge 60, 3) := by decide +kernel
theorem dX1_read_8 : decode cX1_read 8 = .ok (.iload_n 3, 1) := by decide +kernel
theorem dX1_read_9 : decode cX1_read 9 = .ok (.iload_n 1, 1) := by decide +kernel
theorem dX1_read_10 : decode cX1_read 10 = .ok (.invokestatic 38, 3) := by decide +kernel
theorem dX1_read_13 : decode cX1_read 13 = .ok (.istore 4, 2) := by decide +kernel
theorem dX1_read_15 : decode cX1_read 15 = .ok (.aload_n 2, 1) := by decide +kernel
theorem dX1_read_16 : decode cX1_read 16 = .ok (.getfield 42, 3) := by decide +kernel
theorem dX1_read_19 : decode cX1_read 19 = .ok (.iload 4, 2) := by decide +kernel
theorem dX1_read_21 : decode cX1_read 21 = .ok (.iaload, 1) := by decide +kernel
theorem dX1_read_22 : decode cX1_read 22 = .ok (.istore 5, 2) := by decide +kernel
theorem dX1_read_24 : decode cX1_read 24 = .ok (.aload_n 0, 1) := by decide +kernel
theorem dX1_read_25 : decode cX1_read 25 = .ok (.getfield 19, 3) := by decide +kernel
theorem dX1_read_28 : decode cX1_read 28 = .ok (.iload 4, 2) := by decide +kernel
theorem dX1_read_30 : decode cX1_read 30 = .ok (.aload_n 0, 1) := by decide +kernel
theorem dX1_read_31 : decode cX1_read 31 = .ok (.getfield 9, 3) := by decide +kernel
theorem dX1_read_34 : decode cX1_read 34 = .ok (.iload_n 3, 1) := by decide +kernel
theorem dX1_read_35 : decode cX1_read 35 = .ok (.baload, 1) := by decide +kernel
theorem dX1_read_36 : decode cX1_read 36 = .ok (.ifCond .eq 7, 3) := by decide +kernel
theorem dX1_read_39 : decode cX1_read 39 = .ok (.iconst (-1), 1) := by decide +kernel
theorem dX1_read_40 : decode cX1_read 40 = .ok (.goto 18, 3) := by decide +kernel
theorem dX1_read_43 : decode cX1_read 43 = .ok (.iload 5, 2) := by decide +kernel
theorem dX1_read_45 : decode cX1_read 45 = .ok (.iload 5, 2) := by decide +kernel
theorem dX1_read_47 : decode cX1_read 47 = .ok (.aload_n 0, 1) := by decide +kernel
theorem dX1_read_48 : decode cX1_read 48 = .ok (.getfield 15, 3) := by decide +kernel
theorem dX1_read_51 : decode cX1_read 51 = .ok (.iload_n 3, 1) := by decide +kernel
theorem dX1_read_52 : decode cX1_read 52 = .ok (.iaload, 1) := by decide +kernel
theorem dX1_read_53 : decode cX1_read 53 = .ok (.imul, 1) := by decide +kernel
theorem dX1_read_54 : decode cX1_read 54 = .ok (.bipush 100, 2) := by decide +kernel
theorem dX1_read_56 : decode cX1_read 56 = .ok (.idiv, 1) := by decide +kernel
theorem dX1_read_57 : decode cX1_read 57 = .ok (.isub, 1) := by decide +kernel
theorem dX1_read_58 : decode cX1_read 58 = .ok (.iastore, 1) := by decide +kernel
theorem dX1_read_59 : decode cX1_read 59 = .ok (.iinc 3 1, 3) := by decide +kernel
theorem dX1_read_62 : decode cX1_read 62 = .ok (.goto (-60), 3) := by decide +kernel
theorem dX1_read_65 : decode cX1_read 65 = .ok (.iconst 0, 1) := by decide +kernel
theorem dX1_read_66 : decode cX1_read 66 = .ok (.istore_n 3, 1) := by decide +kernel
theorem dX1_read_67 : decode cX1_read 67 = .ok (.iload_n 3, 1) := by decide +kernel
theorem dX1_read_68 : decode cX1_read 68 = .ok (.bipush 12, 2) := by decide +kernel
theorem dX1_read_70 : decode cX1_read 70 = .ok (.if_icmp .ge 34, 3) := by decide +kernel
theorem dX1_read_73 : decode cX1_read 73 = .ok (.aload_n 0, 1) := by decide +kernel
theorem dX1_read_74 : decode cX1_read 74 = .ok (.iload_n 3, 1) := by decide +kernel
theorem dX1_read_75 : decode cX1_read 75 = .ok (.iload_n 1, 1) := by decide +kernel
theorem dX1_read_76 : decode cX1_read 76 = .ok (.invokevirtual 47, 3) := by decide +kernel
theorem dX1_read_79 : decode cX1_read 79 = .ok (.ifCond .ne 19, 3) := by decide +kernel
theorem dX1_read_82 : decode cX1_read 82 = .ok (.aload_n 0, 1) := by decide +kernel
theorem dX1_read_83 : decode cX1_read 83 = .ok (.getfield 22, 3) := by decide +kernel
theorem dX1_read_86 : decode cX1_read 86 = .ok (.iload_n 3, 1) := by decide +kernel
theorem dX1_read_87 : decode cX1_read 87 = .ok (.iload_n 1, 1) := by decide +kernel
theorem dX1_read_88 : decode cX1_read 88 = .ok (.invokestatic 38, 3) := by decide +kernel
theorem dX1_read_91 : decode cX1_read 91 = .ok (.aload_n 0, 1) := by decide +kernel
theorem dX1_read_92 : decode cX1_read 92 = .ok (.iload_n 3, 1) := by decide +kernel
theorem dX1_read_93 : decode cX1_read 93 = .ok (.iload_n 1, 1) := by decide +kernel
theorem dX1_read_94 : decode cX1_read 94 = .ok (.invokevirtual 51, 3) := by decide +kernel
theorem dX1_read_97 : decode cX1_read 97 = .ok (.iastore, 1) := by decide +kernel
theorem dX1_read_98 : decode cX1_read 98 = .ok (.iinc 3 1, 3) := by decide +kernel
theorem dX1_read_101 : decode cX1_read 101 = .ok (.goto (-34), 3) := by decide +kernel
theorem dX1_read_104 : decode cX1_read 104 = .ok (.iconst 0, 1) := by decide +kernel
theorem dX1_read_105 : decode cX1_read 105 = .ok (.istore_n 3, 1) := by decide +kernel
theorem dX1_read_106 : decode cX1_read 106 = .ok (.iload_n 3, 1) := by decide +kernel
theorem dX1_read_107 : decode cX1_read 107 = .ok (.bipush 12, 2) := by decide +kernel
theorem dX1_read_109 : decode cX1_read 109 = .ok (.if_icmp .ge 34, 3) := by decide +kernel
theorem dX1_read_112 : decode cX1_read 112 = .ok (.aload_n 0, 1) := by decide +kernel
theorem dX1_read_113 : decode cX1_read 113 = .ok (.iload_n 3, 1) := by decide +kernel
theorem dX1_read_114 : decode cX1_read 114 = .ok (.iload_n 1, 1) := by decide +kernel
theorem dX1_read_115 : decode cX1_read 115 = .ok (.invokevirtual 47, 3) := by decide +kernel
theorem dX1_read_118 : decode cX1_read 118 = .ok (.ifCond .eq 19, 3) := by decide +kernel
theorem dX1_read_121 : decode cX1_read 121 = .ok (.aload_n 0, 1) := by decide +kernel
theorem dX1_read_122 : decode cX1_read 122 = .ok (.getfield 22, 3) := by decide +kernel
theorem dX1_read_125 : decode cX1_read 125 = .ok (.iload_n 3, 1) := by decide +kernel
theorem dX1_read_126 : decode cX1_read 126 = .ok (.iload_n 1, 1) := by decide +kernel
theorem dX1_read_127 : decode cX1_read 127 = .ok (.invokestatic 38, 3) := by decide +kernel
theorem dX1_read_130 : decode cX1_read 130 = .ok (.aload_n 0, 1) := by decide +kernel
theorem dX1_read_131 : decode cX1_read 131 = .ok (.iload_n 3, 1) := by decide +kernel
theorem dX1_read_132 : decode cX1_read 132 = .ok (.iload_n 1, 1) := by decide +kernel
theorem dX1_read_133 : decode cX1_read 133 = .ok (.invokevirtual 54, 3) := by decide +kernel
theorem dX1_read_136 : decode cX1_read 136 = .ok (.iastore, 1) := by decide +kernel
theorem dX1_read_137 : decode cX1_read 137 = .ok (.iinc 3 1, 3) := by decide +kernel
theorem dX1_read_140 : decode cX1_read 140 = .ok (.goto (-34), 3) := by decide +kernel
theorem dX1_read_143 : decode cX1_read 143 = .ok (.return_, 1) := by decide +kernel
set_option maxRecDepth 20000 in
theorem ggX1_countOfReading_X1_foundLast : GoodIn wsX1_countOfReading wsX1_foundLast := goodIn_r _ [6, 7, 8, 9, 10, 14, 15, 16, 17, 18, 19, 20, 21] (by decide +kernel) (by decide +kernel)
set_option maxRecDepth 20000 in
theorem gX1_countOfReading_X1_foundLast : GoodIn wsX1_countOfReading (wsV RX1 57 RX1 yX1_foundLast wsX1_foundLast) := goodIn_app (goodIn_of _ (by decide +kernel)) ggX1_countOfReading_X1_foundLast
set_option maxRecDepth 20000 in
theorem ggX1_countOfReading_X4_cell : GoodIn wsX1_countOfReading wsX4_cell := goodIn_r _ [13] (by decide +kernel) (by decide +kernel)
set_option maxRecDepth 20000 in
theorem gX1_countOfReading_X4_cell_n38 : GoodIn wsX1_countOfReading (wsX4_cell) := ggX1_countOfReading_X4_cell
theorem dX1_countOfReading_0 : decode cX1_countOfReading 0 = .ok (.bipush 100, 2) := by decide +kernel
theorem dX1_countOfReading_2 : decode cX1_countOfReading 2 = .ok (.aload_n 0, 1) := by decide +kernel
theorem dX1_countOfReading_3 : decode cX1_countOfReading 3 = .ok (.iload_n 1, 1) := by decide +kernel
theorem dX1_countOfReading_4 : decode cX1_countOfReading 4 = .ok (.iload_n 2, 1) := by decide +kernel
theorem dX1_countOfReading_5 : decode cX1_countOfReading 5 = .ok (.invokevirtual 57, 3) := by decide +kernel
theorem dX1_countOfReading_8 : decode cX1_countOfReading 8 = .ok (.isub, 1) := by decide +kernel
theorem dX1_countOfReading_9 : decode cX1_countOfReading 9 = .ok (.istore_n 3, 1) := by decide +kernel
theorem dX1_countOfReading_10 : decode cX1_countOfReading 10 = .ok (.iload_n 3, 1) := by decide +kernel
theorem dX1_countOfReading_11 : decode cX1_countOfReading 11 = .ok (.ifCond .le 21, 3) := by decide +kernel
theorem dX1_countOfReading_14 : decode cX1_countOfReading 14 = .ok (.bipush 100, 2) := by decide +kernel
theorem dX1_countOfReading_16 : decode cX1_countOfReading 16 = .ok (.aload_n 0, 1) := by decide +kernel
theorem dX1_countOfReading_17 : decode cX1_countOfReading 17 = .ok (.getfield 19, 3) := by decide +kernel
theorem dX1_countOfReading_20 : decode cX1_countOfReading 20 = .ok (.iload_n 1, 1) := by decide +kernel
theorem dX1_countOfReading_21 : decode cX1_countOfReading 21 = .ok (.iload_n 2, 1) := by decide +kernel
theorem dX1_countOfReading_22 : decode cX1_countOfReading 22 = .ok (.invokestatic 38, 3) := by decide +kernel
theorem dX1_countOfReading_25 : decode cX1_countOfReading 25 = .ok (.iaload, 1) := by decide +kernel
theorem dX1_countOfReading_26 : decode cX1_countOfReading 26 = .ok (.imul, 1) := by decide +kernel
theorem dX1_countOfReading_27 : decode cX1_countOfReading 27 = .ok (.iload_n 3, 1) := by decide +kernel
theorem dX1_countOfReading_28 : decode cX1_countOfReading 28 = .ok (.idiv, 1) := by decide +kernel
theorem dX1_countOfReading_29 : decode cX1_countOfReading 29 = .ok (.goto 4, 3) := by decide +kernel
theorem dX1_countOfReading_32 : decode cX1_countOfReading 32 = .ok (.iconst 0, 1) := by decide +kernel
theorem dX1_countOfReading_33 : decode cX1_countOfReading 33 = .ok (.ireturn, 1) := by decide +kernel
set_option maxRecDepth 20000 in
theorem ggX1_filledFromKept_X1_nearestAhead : GoodIn wsX1_filledFromKept wsX1_nearestAhead := goodIn_r _ [6, 7, 8, 9, 5, 10, 11, 12, 13, 14, 22, 23, 24, 25, 26, 27, 28, 29] (by decide +kernel) (by decide +kernel)
set_option maxRecDepth 20000 in
theorem gX1_filledFromKept_X1_nearestAhead : GoodIn wsX1_filledFromKept (wsV RX1 60 RX1 yX1_nearestAhead wsX1_nearestAhead) := goodIn_app (goodIn_of _ (by decide +kernel)) ggX1_filledFromKept_X1_nearestAhead
set_option maxRecDepth 20000 in
theorem ggX1_filledFromKept_X1_nearestBehind : GoodIn wsX1_filledFromKept wsX1_nearestBehind := goodIn_r _ [18, 7, 8, 9, 5, 10, 11, 12, 13, 14, 22, 23, 24, 25, 26, 27, 28, 29] (by decide +kernel) (by decide +kernel)
set_option maxRecDepth 20000 in
theorem gX1_filledFromKept_X1_nearestBehind : GoodIn wsX1_filledFromKept (wsV RX1 63 RX1 yX1_nearestBehind wsX1_nearestBehind) := goodIn_app (goodIn_of _ (by decide +kernel)) ggX1_filledFromKept_X1_nearestBehind
set_option maxRecDepth 20000 in
theorem ggX1_filledFromKept_X4_cell : GoodIn wsX1_filledFromKept wsX4_cell := goodIn_r _ [14] (by decide +kernel) (by decide +kernel)
set_option maxRecDepth 20000 in
theorem gX1_filledFromKept_X4_cell_n38 : GoodIn wsX1_filledFromKept (wsX4_cell) := ggX1_filledFromKept_X4_cell
set_option maxRecDepth 20000 in
theorem ggX1_filledFromKept_X1_filled : GoodIn wsX1_filledFromKept wsX1_filled := goodIn_r _ [21] (by decide +kernel) (by decide +kernel)
set_option maxRecDepth 20000 in
theorem gX1_filledFromKept_X1_filled : GoodIn wsX1_filledFromKept (va_wsS RX1 66 yX1_filled wsX1_filled) := goodIn_app (goodIn_of _ (by decide +kernel)) ggX1_filledFromKept_X1_filled
