def q_X3_readUnit_2 : List Cond := .code yX3_readUnit cX3_readUnit 5 (some .boolean) :: (([.fieldLink RX3 19 "LeftArguments$LawReader" "tape" "LLeftArguments$Tape;", .code yX10_next cX10_next 1 (some .int), .fieldLink RX10 19 "LeftArguments$Tape" "at" "I", .fieldLink RX10 15 "LeftArguments$Tape" "used" "I", .fieldLink RX10 9 "LeftArguments$Tape" "bytes" "[I", .initialized RX10, .instanceMethod yX10_next, .selects RX10 yX10_next yX10_next, .methodLink RX3 48 yX10_next, .code yX3_readSum cX3_readSum 4 (some .boolean), .code yX3_readTerm cX3_readTerm 4 (some .boolean), .code yX3_readAtom cX3_readAtom 4 (some .boolean), .code yX10_isDigit cX10_isDigit 1 (some .boolean), .static yX10_isDigit, .methodLink RX3 92 yX10_isDigit, .code yX10_wrongHere cX10_wrongHere 1 (some .boolean), .fieldLink RX10 22 "LeftArguments$Tape" "wrongAt" "I", .instanceMethod yX10_wrongHere, .selects RX10 yX10_wrongHere yX10_wrongHere, .methodLink RX3 83 yX10_wrongHere, .code yJ0_indexOf_0f7a4 cJ0_indexOf_0f7a4 2 (some .int), .code yJ0_indexOf_7cf53 cJ0_indexOf_7cf53 3 (some .int), .code yJ0_isLatin1_aae02 cJ0_isLatin1_aae02 1 (some .boolean), .fieldLink RJ0 38 "java/lang/String" "COMPACT_STRINGS" "Z", .fieldLink RJ0 15 "java/lang/String" "coder" "B", .initialized RJ0, .instanceMethod yJ0_isLatin1_aae02, .selects RJ0 yJ0_isLatin1_aae02 yJ0_isLatin1_aae02, .methodLink RJ0 492 yJ0_isLatin1_aae02, .fieldLink RJ0 9 "java/lang/String" "value" "[B", .code yJ0_length_8abf5 cJ0_length_8abf5 1 (some .int), .code yJ0_coder_7d493 cJ0_coder_7d493 1 (some .byte), .instanceMethod yJ0_coder_7d493, .selects RJ0 yJ0_coder_7d493 yJ0_coder_7d493, .methodLink RJ0 335 yJ0_coder_7d493, .instanceMethod yJ0_length_8abf5, .selects RJ0 yJ0_length_8abf5 yJ0_length_8abf5, .methodLink RJ0 505 yJ0_length_8abf5, .code yJ1_indexOf_4cfef cJ1_indexOf_4cfef 4 (some .int), .code yJ1_canEncode_9a6ad cJ1_canEncode_9a6ad 1 (some .boolean), .initialized RJ1, .static yJ1_canEncode_9a6ad, .methodLink RJ1 88 yJ1_canEncode_9a6ad, .methodLink RJ1 92 Lib.Math.max.name, .static Lib.Math.max.name, .initialized "java/lang/Math", .code Lib.Math.max.name Lib.Math.max.code 2 (some .int), .methodLink RJ1 38 Lib.Math.min.name, .static Lib.Math.min.name, .code Lib.Math.min.name Lib.Math.min.code 2 (some .int), .code yJ1_indexOfChar_4cfef cJ1_indexOfChar_4cfef 6 (some .int), .static yJ1_indexOfChar_4cfef, .methodLink RJ1 95 yJ1_indexOfChar_4cfef, .static yJ1_indexOf_4cfef, .methodLink RJ0 637 yJ1_indexOf_4cfef, .instanceMethod yJ0_indexOf_7cf53, .selects RJ0 yJ0_indexOf_7cf53 yJ0_indexOf_7cf53, .methodLink RJ0 633 yJ0_indexOf_7cf53, .instanceMethod yJ0_indexOf_0f7a4, .selects RJ0 yJ0_indexOf_0f7a4 yJ0_indexOf_0f7a4, .methodLink RX3 103 yJ0_indexOf_0f7a4, .code yX10_step cX10_step 1 none, .instanceMethod yX10_step, .selects RX10 yX10_step yX10_step, .methodLink RX3 77 yX10_step, .code yX3_write cX3_write 3 none, .fieldLink RX3 15 "LeftArguments$LawReader" "used" "I", .fieldLink RX3 11 "LeftArguments$LawReader" "code" "[I", .initialized RX3, .instanceMethod yX3_write, .selects RX3 yX3_write yX3_write, .methodLink RX3 66 yX3_write, .code yX10_takeNumber cX10_takeNumber 3 (some .boolean), .methodLink RX10 37 yX10_next, .methodLink RX10 45 yX10_isDigit, .methodLink RX10 41 yX10_wrongHere, .fieldLink RX10 25 "LeftArguments$Tape" "number" "I", .code yX10_sign cX10_sign 1 (some .int), .instanceMethod yX10_sign, .selects RX10 yX10_sign yX10_sign, .methodLink RX10 49 yX10_sign, .instanceMethod yX10_takeNumber, .selects RX10 yX10_takeNumber yX10_takeNumber, .methodLink RX3 95 yX10_takeNumber, .code yX10_number cX10_number 1 (some .int), .instanceMethod yX10_number, .selects RX10 yX10_number yX10_number, .methodLink RX3 98 yX10_number, .instanceMethod yX3_readAtom, .selects RX3 yX3_readAtom yX3_readAtom, .methodLink RX3 89 yX3_readAtom, .instanceMethod yX3_readTerm, .selects RX3 yX3_readTerm yX3_readTerm, .methodLink RX3 86 yX3_readTerm, .instanceMethod yX3_readSum, .selects RX3 yX3_readSum yX3_readSum, .methodLink RX3 59 yX3_readSum, .code yX10_take cX10_take 2 (some .boolean), .instanceMethod yX10_take, .selects RX10 yX10_take yX10_take, .methodLink RX3 51 yX10_take, .code yX3_comparing cX3_comparing 1 (some .int), .static yX3_comparing, .methodLink RX3 62 yX3_comparing, .code yX3_readUnit cX3_readUnit 5 (some .boolean), .instanceMethod yX3_readUnit, .selects RX3 yX3_readUnit yX3_readUnit, .methodLink RX3 80 yX3_readUnit, .code yX3_readCondition cX3_readCondition 4 (some .boolean), .code yX3_readTruth cX3_readTruth 4 (some .boolean), .instanceMethod yX3_readTruth, .selects RX3 yX3_readTruth yX3_readTruth, .methodLink RX3 74 yX3_readTruth, .instanceMethod yX3_readCondition, .selects RX3 yX3_readCondition yX3_readCondition, .methodLink RX3 70 yX3_readCondition] : List Cond) ++ wsX30 ++ wsX100)
set_option maxRecDepth 20000 in
theorem g_X3_readUnit_2_0 : GoodIn q_X3_readUnit_2 (wsV RX3 48 RX10 yX10_next q_X10_next) := goodIn_app (goodIn_r _ [9, 7, 8, 6] rfl (by decide +kernel)) (goodIn_ca (goodIn_r (.code yX10_next cX10_next 1 (some .int) :: [.fieldLink RX10 19 "LeftArguments$Tape" "at" "I", .fieldLink RX10 15 "LeftArguments$Tape" "used" "I", .fieldLink RX10 9 "LeftArguments$Tape" "bytes" "[I"]) [2, 3, 4, 5] rfl (by decide +kernel)) (goodIn_sub (fun _ h => List.mem_cons_of_mem _ (List.mem_append_right _ h)) gwX10))
set_option maxRecDepth 20000 in
theorem g_X3_readUnit_2_1 : GoodIn q_X3_readUnit_2 (wsV RX3 59 RX3 yX3_readSum q_X3_readSum_1) := goodIn_app (goodIn_r _ [97, 95, 96, 69] rfl (by decide +kernel)) (goodIn_ca (goodIn_ca (goodIn_r (.code yX3_readSum cX3_readSum 4 (some .boolean) :: [.code yX3_readTerm cX3_readTerm 4 (some .boolean), .code yX3_readAtom cX3_readAtom 4 (some .boolean), .fieldLink RX3 19 "LeftArguments$LawReader" "tape" "LLeftArguments$Tape;", .code yX10_next cX10_next 1 (some .int), .fieldLink RX10 19 "LeftArguments$Tape" "at" "I", .fieldLink RX10 15 "LeftArguments$Tape" "used" "I", .fieldLink RX10 9 "LeftArguments$Tape" "bytes" "[I", .initialized RX10, .instanceMethod yX10_next, .selects RX10 yX10_next yX10_next, .methodLink RX3 48 yX10_next, .code yX10_isDigit cX10_isDigit 1 (some .boolean), .static yX10_isDigit, .methodLink RX3 92 yX10_isDigit, .code yX10_wrongHere cX10_wrongHere 1 (some .boolean), .fieldLink RX10 22 "LeftArguments$Tape" "wrongAt" "I", .instanceMethod yX10_wrongHere, .selects RX10 yX10_wrongHere yX10_wrongHere, .methodLink RX3 83 yX10_wrongHere, .code yJ0_indexOf_0f7a4 cJ0_indexOf_0f7a4 2 (some .int), .code yJ0_indexOf_7cf53 cJ0_indexOf_7cf53 3 (some .int), .code yJ0_isLatin1_aae02 cJ0_isLatin1_aae02 1 (some .boolean), .fieldLink RJ0 38 "java/lang/String" "COMPACT_STRINGS" "Z", .fieldLink RJ0 15 "java/lang/String" "coder" "B", .initialized RJ0, .instanceMethod yJ0_isLatin1_aae02, .selects RJ0 yJ0_isLatin1_aae02 yJ0_isLatin1_aae02, .methodLink RJ0 492 yJ0_isLatin1_aae02, .fieldLink RJ0 9 "java/lang/String" "value" "[B", .code yJ0_length_8abf5 cJ0_length_8abf5 1 (some .int), .code yJ0_coder_7d493 cJ0_coder_7d493 1 (some .byte), .instanceMethod yJ0_coder_7d493, .selects RJ0 yJ0_coder_7d493 yJ0_coder_7d493, .methodLink RJ0 335 yJ0_coder_7d493, .instanceMethod yJ0_length_8abf5, .selects RJ0 yJ0_length_8abf5 yJ0_length_8abf5, .methodLink RJ0 505 yJ0_length_8abf5, .code yJ1_indexOf_4cfef cJ1_indexOf_4cfef 4 (some .int), .code yJ1_canEncode_9a6ad cJ1_canEncode_9a6ad 1 (some .boolean), .initialized RJ1, .static yJ1_canEncode_9a6ad, .methodLink RJ1 88 yJ1_canEncode_9a6ad, .methodLink RJ1 92 Lib.Math.max.name, .static Lib.Math.max.name, .initialized "java/lang/Math", .code Lib.Math.max.name Lib.Math.max.code 2 (some .int), .methodLink RJ1 38 Lib.Math.min.name, .static Lib.Math.min.name, .code Lib.Math.min.name Lib.Math.min.code 2 (some .int), .code yJ1_indexOfChar_4cfef cJ1_indexOfChar_4cfef 6 (some .int), .static yJ1_indexOfChar_4cfef, .methodLink RJ1 95 yJ1_indexOfChar_4cfef, .static yJ1_indexOf_4cfef, .methodLink RJ0 637 yJ1_indexOf_4cfef, .instanceMethod yJ0_indexOf_7cf53, .selects RJ0 yJ0_indexOf_7cf53 yJ0_indexOf_7cf53, .methodLink RJ0 633 yJ0_indexOf_7cf53, .instanceMethod yJ0_indexOf_0f7a4, .selects RJ0 yJ0_indexOf_0f7a4 yJ0_indexOf_0f7a4, .methodLink RX3 103 yJ0_indexOf_0f7a4, .code yX10_step cX10_step 1 none, .instanceMethod yX10_step, .selects RX10 yX10_step yX10_step, .methodLink RX3 77 yX10_step, .code yX3_write cX3_write 3 none, .fieldLink RX3 15 "LeftArguments$LawReader" "used" "I", .fieldLink RX3 11 "LeftArguments$LawReader" "code" "[I", .initialized RX3, .instanceMethod yX3_write, .selects RX3 yX3_write yX3_write, .methodLink RX3 66 yX3_write, .code yX10_takeNumber cX10_takeNumber 3 (some .boolean), .methodLink RX10 37 yX10_next, .methodLink RX10 45 yX10_isDigit, .methodLink RX10 41 yX10_wrongHere, .fieldLink RX10 25 "LeftArguments$Tape" "number" "I", .code yX10_sign cX10_sign 1 (some .int), .instanceMethod yX10_sign, .selects RX10 yX10_sign yX10_sign, .methodLink RX10 49 yX10_sign, .instanceMethod yX10_takeNumber, .selects RX10 yX10_takeNumber yX10_takeNumber, .methodLink RX3 95 yX10_takeNumber, .code yX10_number cX10_number 1 (some .int), .instanceMethod yX10_number, .selects RX10 yX10_number yX10_number, .methodLink RX3 98 yX10_number, .code yX3_readSum cX3_readSum 4 (some .boolean), .instanceMethod yX3_readAtom, .selects RX3 yX3_readAtom yX3_readAtom, .methodLink RX3 89 yX3_readAtom, .instanceMethod yX3_readTerm, .selects RX3 yX3_readTerm yX3_readTerm, .methodLink RX3 86 yX3_readTerm, .instanceMethod yX3_readSum, .selects RX3 yX3_readSum yX3_readSum, .methodLink RX3 59 yX3_readSum, .code yX10_take cX10_take 2 (some .boolean), .instanceMethod yX10_take, .selects RX10 yX10_take yX10_take, .methodLink RX3 51 yX10_take]) [10, 11, 12, 1, 2, 3, 4, 5, 6, 7, 8, 9, 13, 14, 15, 16, 17, 18, 19, 20, 21, 22, 23, 24, 25, 26, 27, 28, 29, 30, 31, 32, 33, 34, 35, 36, 37, 38, 39, 40, 41, 42, 43, 44, 45, 46, 47, 48, 49, 50, 51, 52, 53, 54, 55, 56, 57, 58, 59, 60, 61, 62, 63, 64, 65, 66, 67, 68, 69, 70, 71, 72, 73, 74, 75, 76, 77, 78, 79, 80, 81, 82, 83, 84, 85, 86, 87, 88, 10, 89, 90, 91, 92, 93, 94, 95, 96, 97, 98, 99, 100, 101] rfl (by decide +kernel)) (goodIn_sub (fun _ h => List.mem_cons_of_mem _ (List.mem_append_left _ (List.mem_append_right _ h))) gwX3)) (goodIn_sub (fun _ h => List.mem_cons_of_mem _ (List.mem_append_right _ h)) gwX10))
set_option maxRecDepth 20000 in
theorem g_X3_readUnit_2_3 : GoodIn q_X3_readUnit_2 (va_wsS RX3 62 yX3_comparing q_X3_comparing) := goodIn_app (goodIn_r _ [104, 103, 69] rfl (by decide +kernel)) (goodIn_r (.code yX3_comparing cX3_comparing 1 (some .int) :: []) [102] rfl (by decide +kernel))
set_option maxRecDepth 20000 in
theorem g_X3_readUnit_2_4 : GoodIn q_X3_readUnit_2 (wsV RX3 83 RX10 yX10_wrongHere q_X10_wrongHere) := goodIn_app (goodIn_r _ [20, 18, 19, 6] rfl (by decide +kernel)) (goodIn_ca (goodIn_r (.code yX10_wrongHere cX10_wrongHere 1 (some .boolean) :: [.fieldLink RX10 19 "LeftArguments$Tape" "at" "I", .fieldLink RX10 22 "LeftArguments$Tape" "wrongAt" "I"]) [16, 3, 17] rfl (by decide +kernel)) (goodIn_sub (fun _ h => List.mem_cons_of_mem _ (List.mem_append_right _ h)) gwX10))
set_option maxRecDepth 20000 in
theorem g_X3_readUnit_2_5 : GoodIn q_X3_readUnit_2 (va_wsS RX3 62 yX3_comparing q_X3_comparing_1) := goodIn_app (goodIn_r _ [104, 103, 69] rfl (by decide +kernel)) (goodIn_r (.code yX3_comparing cX3_comparing 1 (some .int) :: []) [102] rfl (by decide +kernel))
set_option maxRecDepth 20000 in
theorem g_X3_readUnit_2_6 : GoodIn q_X3_readUnit_2 (wsV RX3 77 RX10 yX10_step q_X10_step) := goodIn_app (goodIn_r _ [65, 63, 64, 6] rfl (by decide +kernel)) (goodIn_ca (goodIn_r (.code yX10_step cX10_step 1 none :: [.fieldLink RX10 19 "LeftArguments$Tape" "at" "I"]) [62, 3] rfl (by decide +kernel)) (goodIn_sub (fun _ h => List.mem_cons_of_mem _ (List.mem_append_right _ h)) gwX10))
set_option maxRecDepth 20000 in
theorem g_X3_readUnit_2_8 : GoodIn q_X3_readUnit_2 (wsV RX3 66 RX3 yX3_write q_X3_write) := goodIn_app (goodIn_r _ [72, 70, 71, 69] rfl (by decide +kernel)) (goodIn_ca (goodIn_r (.code yX3_write cX3_write 3 none :: [.fieldLink RX3 15 "LeftArguments$LawReader" "used" "I", .fieldLink RX3 11 "LeftArguments$LawReader" "code" "[I"]) [66, 67, 68] rfl (by decide +kernel)) (goodIn_sub (fun _ h => List.mem_cons_of_mem _ (List.mem_append_left _ (List.mem_append_right _ h))) gwX3))
set_option maxRecDepth 20000 in
theorem g_X3_readUnit_2_11 : GoodIn q_X3_readUnit_2 (wsV RX3 80 RX3 yX3_readUnit q_X3_readUnit_1) := goodIn_app (goodIn_r _ [108, 106, 107, 69] rfl (by decide +kernel)) (goodIn_ca (goodIn_ca (goodIn_r (.code yX3_readUnit cX3_readUnit 5 (some .boolean) :: [.fieldLink RX3 19 "LeftArguments$LawReader" "tape" "LLeftArguments$Tape;", .code yX10_next cX10_next 1 (some .int), .fieldLink RX10 19 "LeftArguments$Tape" "at" "I", .fieldLink RX10 15 "LeftArguments$Tape" "used" "I", .fieldLink RX10 9 "LeftArguments$Tape" "bytes" "[I", .initialized RX10, .instanceMethod yX10_next, .selects RX10 yX10_next yX10_next, .methodLink RX3 48 yX10_next, .code yX3_readSum cX3_readSum 4 (some .boolean), .code yX3_readTerm cX3_readTerm 4 (some .boolean), .code yX3_readAtom cX3_readAtom 4 (some .boolean), .code yX10_isDigit cX10_isDigit 1 (some .boolean), .static yX10_isDigit, .methodLink RX3 92 yX10_isDigit, .code yX10_wrongHere cX10_wrongHere 1 (some .boolean), .fieldLink RX10 22 "LeftArguments$Tape" "wrongAt" "I", .instanceMethod yX10_wrongHere, .selects RX10 yX10_wrongHere yX10_wrongHere, .methodLink RX3 83 yX10_wrongHere, .code yJ0_indexOf_0f7a4 cJ0_indexOf_0f7a4 2 (some .int), .code yJ0_indexOf_7cf53 cJ0_indexOf_7cf53 3 (some .int), .code yJ0_isLatin1_aae02 cJ0_isLatin1_aae02 1 (some .boolean), .fieldLink RJ0 38 "java/lang/String" "COMPACT_STRINGS" "Z", .fieldLink RJ0 15 "java/lang/String" "coder" "B", .initialized RJ0, .instanceMethod yJ0_isLatin1_aae02, .selects RJ0 yJ0_isLatin1_aae02 yJ0_isLatin1_aae02, .methodLink RJ0 492 yJ0_isLatin1_aae02, .fieldLink RJ0 9 "java/lang/String" "value" "[B", .code yJ0_length_8abf5 cJ0_length_8abf5 1 (some .int), .code yJ0_coder_7d493 cJ0_coder_7d493 1 (some .byte), .instanceMethod yJ0_coder_7d493, .selects RJ0 yJ0_coder_7d493 yJ0_coder_7d493, .methodLink RJ0 335 yJ0_coder_7d493, .instanceMethod yJ0_length_8abf5, .selects RJ0 yJ0_length_8abf5 yJ0_length_8abf5, .methodLink RJ0 505 yJ0_length_8abf5, .code yJ1_indexOf_4cfef cJ1_indexOf_4cfef 4 (some .int), .code yJ1_canEncode_9a6ad cJ1_canEncode_9a6ad 1 (some .boolean), .initialized RJ1, .static yJ1_canEncode_9a6ad, .methodLink RJ1 88 yJ1_canEncode_9a6ad, .methodLink RJ1 92 Lib.Math.max.name, .static Lib.Math.max.name, .initialized "java/lang/Math", .code Lib.Math.max.name Lib.Math.max.code 2 (some .int), .methodLink RJ1 38 Lib.Math.min.name, .static Lib.Math.min.name, .code Lib.Math.min.name Lib.Math.min.code 2 (some .int), .code yJ1_indexOfChar_4cfef cJ1_indexOfChar_4cfef 6 (some .int), .static yJ1_indexOfChar_4cfef, .methodLink RJ1 95 yJ1_indexOfChar_4cfef, .static yJ1_indexOf_4cfef, .methodLink RJ0 637 yJ1_indexOf_4cfef, .instanceMethod yJ0_indexOf_7cf53, .selects RJ0 yJ0_indexOf_7cf53 yJ0_indexOf_7cf53, .methodLink RJ0 633 yJ0_indexOf_7cf53, .instanceMethod yJ0_indexOf_0f7a4, .selects RJ0 yJ0_indexOf_0f7a4 yJ0_indexOf_0f7a4, .methodLink RX3 103 yJ0_indexOf_0f7a4, .code yX10_step cX10_step 1 none, .instanceMethod yX10_step, .selects RX10 yX10_step yX10_step, .methodLink RX3 77 yX10_step, .code yX3_write cX3_write 3 none, .fieldLink RX3 15 "LeftArguments$LawReader" "used" "I", .fieldLink RX3 11 "LeftArguments$LawReader" "code" "[I", .initialized RX3, .instanceMethod yX3_write, .selects RX3 yX3_write yX3_write, .methodLink RX3 66 yX3_write, .code yX10_takeNumber cX10_takeNumber 3 (some .boolean), .methodLink RX10 37 yX10_next, .methodLink RX10 45 yX10_isDigit, .methodLink RX10 41 yX10_wrongHere, .fieldLink RX10 25 "LeftArguments$Tape" "number" "I", .code yX10_sign cX10_sign 1 (some .int), .instanceMethod yX10_sign, .selects RX10 yX10_sign yX10_sign, .methodLink RX10 49 yX10_sign, .instanceMethod yX10_takeNumber, .selects RX10 yX10_takeNumber yX10_takeNumber, .methodLink RX3 95 yX10_takeNumber, .code yX10_number cX10_number 1 (some .int), .instanceMethod yX10_number, .selects RX10 yX10_number yX10_number, .methodLink RX3 98 yX10_number, .instanceMethod yX3_readAtom, .selects RX3 yX3_readAtom yX3_readAtom, .methodLink RX3 89 yX3_readAtom, .instanceMethod yX3_readTerm, .selects RX3 yX3_readTerm yX3_readTerm, .methodLink RX3 86 yX3_readTerm, .instanceMethod yX3_readSum, .selects RX3 yX3_readSum yX3_readSum, .methodLink RX3 59 yX3_readSum, .code yX3_comparing cX3_comparing 1 (some .int), .static yX3_comparing, .methodLink RX3 62 yX3_comparing]) [105, 1, 2, 3, 4, 5, 6, 7, 8, 9, 10, 11, 12, 13, 14, 15, 16, 17, 18, 19, 20, 21, 22, 23, 24, 25, 26, 27, 28, 29, 30, 31, 32, 33, 34, 35, 36, 37, 38, 39, 40, 41, 42, 43, 44, 45, 46, 47, 48, 49, 50, 51, 52, 53, 54, 55, 56, 57, 58, 59, 60, 61, 62, 63, 64, 65, 66, 67, 68, 69, 70, 71, 72, 73, 74, 75, 76, 77, 78, 79, 80, 81, 82, 83, 84, 85, 86, 87, 88, 89, 90, 91, 92, 93, 94, 95, 96, 97, 102, 103, 104] rfl (by decide +kernel)) (goodIn_sub (fun _ h => List.mem_cons_of_mem _ (List.mem_append_left _ (List.mem_append_right _ h))) gwX3)) (goodIn_sub (fun _ h => List.mem_cons_of_mem _ (List.mem_append_right _ h)) gwX10))
set_option maxRecDepth 20000 in
theorem g_X3_readUnit_2_23 : GoodIn q_X3_readUnit_2 (wsV RX3 70 RX3 yX3_readCondition q_X3_readCondition) := goodIn_app (goodIn_r _ [116, 114, 115, 69] rfl (by decide +kernel)) (goodIn_ca (goodIn_ca (goodIn_r (.code yX3_readCondition cX3_readCondition 4 (some .boolean) :: [.code yX3_readTruth cX3_readTruth 4 (some .boolean), .code yX3_readUnit cX3_readUnit 5 (some .boolean), .fieldLink RX3 19 "LeftArguments$LawReader" "tape" "LLeftArguments$Tape;", .code yX10_next cX10_next 1 (some .int), .fieldLink RX10 19 "LeftArguments$Tape" "at" "I", .fieldLink RX10 15 "LeftArguments$Tape" "used" "I", .fieldLink RX10 9 "LeftArguments$Tape" "bytes" "[I", .initialized RX10, .instanceMethod yX10_next, .selects RX10 yX10_next yX10_next, .methodLink RX3 48 yX10_next, .code yX3_readSum cX3_readSum 4 (some .boolean), .code yX3_readTerm cX3_readTerm 4 (some .boolean), .code yX3_readAtom cX3_readAtom 4 (some .boolean), .code yX10_isDigit cX10_isDigit 1 (some .boolean), .static yX10_isDigit, .methodLink RX3 92 yX10_isDigit, .code yX10_wrongHere cX10_wrongHere 1 (some .boolean), .fieldLink RX10 22 "LeftArguments$Tape" "wrongAt" "I", .instanceMethod yX10_wrongHere, .selects RX10 yX10_wrongHere yX10_wrongHere, .methodLink RX3 83 yX10_wrongHere, .code yJ0_indexOf_0f7a4 cJ0_indexOf_0f7a4 2 (some .int), .code yJ0_indexOf_7cf53 cJ0_indexOf_7cf53 3 (some .int), .code yJ0_isLatin1_aae02 cJ0_isLatin1_aae02 1 (some .boolean), .fieldLink RJ0 38 "java/lang/String" "COMPACT_STRINGS" "Z", .fieldLink RJ0 15 "java/lang/String" "coder" "B", .initialized RJ0, .instanceMethod yJ0_isLatin1_aae02, .selects RJ0 yJ0_isLatin1_aae02 yJ0_isLatin1_aae02, .methodLink RJ0 492 yJ0_isLatin1_aae02, .fieldLink RJ0 9 "java/lang/String" "value" "[B", .code yJ0_length_8abf5 cJ0_length_8abf5 1 (some .int), .code yJ0_coder_7d493 cJ0_coder_7d493 1 (some .byte), .instanceMethod yJ0_coder_7d493, .selects RJ0 yJ0_coder_7d493 yJ0_coder_7d493, .methodLink RJ0 335 yJ0_coder_7d493, .instanceMethod yJ0_length_8abf5, .selects RJ0 yJ0_length_8abf5 yJ0_length_8abf5, .methodLink RJ0 505 yJ0_length_8abf5, .code yJ1_indexOf_4cfef cJ1_indexOf_4cfef 4 (some .int), .code yJ1_canEncode_9a6ad cJ1_canEncode_9a6ad 1 (some .boolean), .initialized RJ1, .static yJ1_canEncode_9a6ad, .methodLink RJ1 88 yJ1_canEncode_9a6ad, .methodLink RJ1 92 Lib.Math.max.name, .static Lib.Math.max.name, .initialized "java/lang/Math", .code Lib.Math.max.name Lib.Math.max.code 2 (some .int), .methodLink RJ1 38 Lib.Math.min.name, .static Lib.Math.min.name, .code Lib.Math.min.name Lib.Math.min.code 2 (some .int), .code yJ1_indexOfChar_4cfef cJ1_indexOfChar_4cfef 6 (some .int), .static yJ1_indexOfChar_4cfef, .methodLink RJ1 95 yJ1_indexOfChar_4cfef, .static yJ1_indexOf_4cfef, .methodLink RJ0 637 yJ1_indexOf_4cfef, .instanceMethod yJ0_indexOf_7cf53, .selects RJ0 yJ0_indexOf_7cf53 yJ0_indexOf_7cf53, .methodLink RJ0 633 yJ0_indexOf_7cf53, .instanceMethod yJ0_indexOf_0f7a4, .selects RJ0 yJ0_indexOf_0f7a4 yJ0_indexOf_0f7a4, .methodLink RX3 103 yJ0_indexOf_0f7a4, .code yX10_step cX10_step 1 none, .instanceMethod yX10_step, .selects RX10 yX10_step yX10_step, .methodLink RX3 77 yX10_step, .code yX3_write cX3_write 3 none, .fieldLink RX3 15 "LeftArguments$LawReader" "used" "I", .fieldLink RX3 11 "LeftArguments$LawReader" "code" "[I", .initialized RX3, .instanceMethod yX3_write, .selects RX3 yX3_write yX3_write, .methodLink RX3 66 yX3_write, .code yX10_takeNumber cX10_takeNumber 3 (some .boolean), .methodLink RX10 37 yX10_next, .methodLink RX10 45 yX10_isDigit, .methodLink RX10 41 yX10_wrongHere, .fieldLink RX10 25 "LeftArguments$Tape" "number" "I", .code yX10_sign cX10_sign 1 (some .int), .instanceMethod yX10_sign, .selects RX10 yX10_sign yX10_sign, .methodLink RX10 49 yX10_sign, .instanceMethod yX10_takeNumber, .selects RX10 yX10_takeNumber yX10_takeNumber, .methodLink RX3 95 yX10_takeNumber, .code yX10_number cX10_number 1 (some .int), .instanceMethod yX10_number, .selects RX10 yX10_number yX10_number, .methodLink RX3 98 yX10_number, .instanceMethod yX3_readAtom, .selects RX3 yX3_readAtom yX3_readAtom, .methodLink RX3 89 yX3_readAtom, .instanceMethod yX3_readTerm, .selects RX3 yX3_readTerm yX3_readTerm, .methodLink RX3 86 yX3_readTerm, .instanceMethod yX3_readSum, .selects RX3 yX3_readSum yX3_readSum, .methodLink RX3 59 yX3_readSum, .code yX3_comparing cX3_comparing 1 (some .int), .static yX3_comparing, .methodLink RX3 62 yX3_comparing, .instanceMethod yX3_readUnit, .selects RX3 yX3_readUnit yX3_readUnit, .methodLink RX3 80 yX3_readUnit, .instanceMethod yX3_readTruth, .selects RX3 yX3_readTruth yX3_readTruth, .methodLink RX3 74 yX3_readTruth]) [109, 110, 105, 1, 2, 3, 4, 5, 6, 7, 8, 9, 10, 11, 12, 13, 14, 15, 16, 17, 18, 19, 20, 21, 22, 23, 24, 25, 26, 27, 28, 29, 30, 31, 32, 33, 34, 35, 36, 37, 38, 39, 40, 41, 42, 43, 44, 45, 46, 47, 48, 49, 50, 51, 52, 53, 54, 55, 56, 57, 58, 59, 60, 61, 62, 63, 64, 65, 66, 67, 68, 69, 70, 71, 72, 73, 74, 75, 76, 77, 78, 79, 80, 81, 82, 83, 84, 85, 86, 87, 88, 89, 90, 91, 92, 93, 94, 95, 96, 97, 102, 103, 104, 106, 107, 108, 111, 112, 113] rfl (by decide +kernel)) (goodIn_sub (fun _ h => List.mem_cons_of_mem _ (List.mem_append_left _ (List.mem_append_right _ h))) gwX3)) (goodIn_sub (fun _ h => List.mem_cons_of_mem _ (List.mem_append_right _ h)) gwX10))
set_option maxRecDepth 20000 in
theorem g_X3_readUnit_2_24 : GoodIn q_X3_readUnit_2 (wsV RX3 51 RX10 yX10_take q_X10_take_3) := goodIn_app (goodIn_r _ [101, 99, 100, 6] rfl (by decide +kernel)) (goodIn_ca (goodIn_r (.code yX10_take cX10_take 2 (some .boolean) :: [.code yX10_next cX10_next 1 (some .int), .fieldLink RX10 19 "LeftArguments$Tape" "at" "I", .fieldLink RX10 15 "LeftArguments$Tape" "used" "I", .fieldLink RX10 9 "LeftArguments$Tape" "bytes" "[I", .initialized RX10, .instanceMethod yX10_next, .selects RX10 yX10_next yX10_next, .methodLink RX10 37 yX10_next, .code yX10_wrongHere cX10_wrongHere 1 (some .boolean), .fieldLink RX10 22 "LeftArguments$Tape" "wrongAt" "I", .instanceMethod yX10_wrongHere, .selects RX10 yX10_wrongHere yX10_wrongHere, .methodLink RX10 41 yX10_wrongHere]) [98, 2, 3, 4, 5, 6, 7, 8, 74, 16, 17, 18, 19, 76] rfl (by decide +kernel)) (goodIn_sub (fun _ h => List.mem_cons_of_mem _ (List.mem_append_right _ h)) gwX10))
set_option maxHeartbeats 4000000 in
set_option maxRecDepth 100000 in
theorem k_X3_readUnit_2 (l : Launch) (dC : Nat → ClassId) (dI : Nat → Nat → Nat) (adK : Nat → Nat) (adV : Nat → Nat) (h0 : Nat) (h1 : Nat) (h2 : Nat) (h3 : Nat) (v0 : Int32) (v1 : Int32) (v2 : Int32) (v3 : Int32) (v4 : Int32) (g0 : ClassId) (f5 : Nat → Int32) (g1 : ClassId) (f6 : Nat → Int32) (i_v0 : 0 ≤ v0.toInt ∧ v0.toInt ≤ 256) (i_v1 : 0 ≤ v1.toInt ∧ v1.toInt ≤ 240) (i_v2 : 0 ≤ v2.toInt ∧ v2.toInt ≤ 240) (ia_f5 : (∀ j, 0 ≤ (f5 j).toInt ∧ (f5 j).toInt ≤ 255)) (sz : Nat) : Met l yX3_readUnit q_X3_readUnit_2 ({ frames := 10, cells := 0, slots := 0, locals := 230 }) (va_Pc [.ref h0, .int 5, .int 0] (fun U => U.heap.size = sz ∧ va_P (dC, dI) vwCl (wd_1ad0248d h0 h1 h3 v0 h1 h2 v1 v2 v3 v4 h2 g0 f5 h3 g1 f6) U.heap ∧ va_K (dC, dI) vwCl [(g0, .int), (g1, .int)] U ∧ va_D (fun _ => True) (wd_1ad0248d h0 h1 h3 v0 h1 h2 v1 v2 v3 v4 h2 g0 f5 h3 g1 f6) ∧ vk_R RX3 101 "zaondt" (adK 2) U ∧ va_Z "java/lang/String" "COMPACT_STRINGS" "Z" (.int 1) (va_A (wd_1ad0248d h0 h1 h3 v0 h1 h2 v1 v2 v3 v4 h2 g0 f5 h3 g1 f6) sz) U U.heap ∧ vk_S 3 pv_len3 pv_byt3 adK adV (va_A (wd_1ad0248d h0 h1 h3 v0 h1 h2 v1 v2 v3 v4 h2 g0 f5 h3 g1 f6) sz) U U.heap)) (va_Qi (fun (r : Int32) (r9 : Int32) => r9 = r) (fun (r : Int32) (t : State) => (∃ (o_h0_2 : Int32) (o_h1_2 : Int32) (o_h1_4 : Int32) (o_h3 : Nat → Int32), 0 ≤ o_h0_2.toInt ∧ o_h0_2.toInt ≤ 256 ∧ 0 ≤ o_h1_2.toInt ∧ o_h1_2.toInt ≤ 240 ∧ (1 ≤ r.toInt) ∧ (r.toInt ≤ 1) ∧ (v2.toInt ≤ o_h1_2.toInt) ∧ (pg_unit f5 v1.toInt 1 v2.toInt = (true, o_h1_2.toInt)) ∧ va_P (dC, dI) vwCl (wd_1ad0248d h0 h1 h3 o_h0_2 h1 h2 v1 o_h1_2 v3 o_h1_4 h2 g0 f5 h3 g1 o_h3) t.heap ∧ va_K (dC, dI) vwCl [] t ∧ va_D (va_A (wd_1ad0248d h0 h1 h3 v0 h1 h2 v1 v2 v3 v4 h2 g0 f5 h3 g1 f6) sz) (wd_1ad0248d h0 h1 h3 o_h0_2 h1 h2 v1 o_h1_2 v3 o_h1_4 h2 g0 f5 h3 g1 o_h3)) ∨ (∃ (o_h0_2 : Int32) (o_h1_2 : Int32) (o_h1_3 : Int32) (o_h1_4 : Int32) (o_h3 : Nat → Int32), 0 ≤ o_h0_2.toInt ∧ o_h0_2.toInt ≤ 256 ∧ 0 ≤ o_h1_2.toInt ∧ o_h1_2.toInt ≤ 240 ∧ 0 ≤ o_h1_3.toInt ∧ o_h1_3.toInt ≤ 240 ∧ (0 ≤ r.toInt) ∧ (r.toInt ≤ 0) ∧ (v2.toInt ≤ o_h1_2.toInt) ∧ (pg_unit f5 v1.toInt 1 v2.toInt = (false, o_h1_3.toInt)) ∧ va_P (dC, dI) vwCl (wd_1ad0248d h0 h1 h3 o_h0_2 h1 h2 v1 o_h1_2 o_h1_3 o_h1_4 h2 g0 f5 h3 g1 o_h3) t.heap ∧ va_K (dC, dI) vwCl [] t ∧ va_D (va_A (wd_1ad0248d h0 h1 h3 v0 h1 h2 v1 v2 v3 v4 h2 g0 f5 h3 g1 f6) sz) (wd_1ad0248d h0 h1 h3 o_h0_2 h1 h2 v1 o_h1_2 o_h1_3 o_h1_4 h2 g0 f5 h3 g1 o_h3))) (va_A (wd_1ad0248d h0 h1 h3 v0 h1 h2 v1 v2 v3 v4 h2 g0 f5 h3 g1 f6) sz)) 0 0 (va_A (wd_1ad0248d h0 h1 h3 v0 h1 h2 v1 v2 v3 v4 h2 g0 f5 h3 g1 f6) sz) := by
  refine Met.ofW (cc := cX3_readUnit) (maxL := 5) (ret := (some .boolean)) (by decide) rfl ?_
  intro p e s m args below meth c s₁ B hml hv
  obtain ⟨i_v0a, i_v0b⟩ := i_v0
  obtain ⟨i_v1a, i_v1b⟩ := i_v1
  obtain ⟨i_v2a, i_v2b⟩ := i_v2
  obtain ⟨rfl, hsz, hP, hK, hD0, h_vr_2, h_st_CS, h_st_S⟩ := hv
  have hx := B.exec
  have hb := B.bytes
  have hr := B.returns
  have hts := atoms_spec (ws := q_X3_readUnit_2) B.pre
  have hown : s.vm.findClass RX3 = some m.cls := findClass_of_methodNamed B.named
  have hlocks := B.notSynchronized
  subst hsz
  have hD := hD0.self (sz := s.heap.size)
  generalize hAe : va_A (wd_1ad0248d h0 h1 h3 v0 h1 h2 v1 v2 v3 v4 h2 g0 f5 h3 g1 f6) s.heap.size = A at hD h_st_CS h_st_S ⊢
  have hA : ∀ q : Nat, s.heap.size ≤ q → A q := fun q h => by rw [← hAe]; exact Or.inr h
  have hS : va_S A s.heap s.heap [] := va_S.rf
  generalize hQ : (MQ below _ _ s 0 0 A) = Q
  have hl := lv_entry ([.ref h0, .int 5, .int 0]) (n := 5) (Nat.le_of_ble_eq_true rfl)
  rw [lg_entry_eq]
  generalize (lg_sl ([.ref h0, .int 5, .int 0]) ++ List.replicate (5 - (lg_sl ([.ref h0, .int 5, .int 0])).length) Slot.unset).toArray = ls at hl ⊢
  have hl : lv_has ls 5 [(0, .ref h0), (1, .int 5), (2, .int 0)] := hl
  obtain ⟨H, hH⟩ : ∃ H : Heap, H = s.heap := ⟨_, rfl⟩
  obtain ⟨locs, hlocs⟩ : ∃ y : List Loc, y = [] := ⟨_, rfl⟩
  have hS : va_S A s.heap H locs := by rw [hH, hlocs]; exact va_S.rf
  have hP : va_P (dC, dI) vwCl (wd_1ad0248d h0 h1 h3 v0 h1 h2 v1 v2 v3 v4 h2 g0 f5 h3 g1 f6) H := by rw [hH]; exact hP
  rw [← hH, ← hlocs]
  refine lv_aload_n hx hb dX3_readUnit_0 rfl (lv_at hl 0 rfl) ?_
  refine va_get (D := (dC, dI)) (ci := 3) (v := .ref h1) (C := RX3) (T := TX3) (N := 3) hx hb hts (fun _ h => List.mem_cons_of_mem _ (List.mem_append_left _ (List.mem_append_right _ h))) hown hK hP 0 rfl rfl 0 (by decide) (hts (.fieldLink RX3 19 "LeftArguments$LawReader" "tape" "LLeftArguments$Tape;") (List.mem_cons_of_mem _ (List.mem_append_left _ (List.mem_append_left _ (List.mem_of_getElem? (i := 0) rfl))))) (fun _ h9 => h9) rfl dX3_readUnit_1 ?_
  have hPc := hP.sub (ws' := (wd_82cdd16b h1 h2 v1 v2 v3 v4 h2 g0 f5)) [1, 2] rfl
  have hDc := hD.sub (ws' := (wd_82cdd16b h1 h2 v1 v2 v3 v4 h2 g0 f5)) [1, 2] (by decide) rfl
  have hKc := hK.sub (tys' := [(g0, .int)]) [0] rfl
  have hFc := va_free (wc := (wd_82cdd16b h1 h2 v1 v2 v3 v4 h2 g0 f5)) hD hS hA [1, 2] rfl
  refine va_calli (va_runV (As := []) (rest := []) ⟨hx, hb, hml, hown, hts⟩ (k_X10_next l dC dI h1 h2 v1 v2 v3 v4 g0 f5 ⟨i_v1a, i_v1b⟩ ⟨i_v2a, i_v2b⟩ ia_f5 H.size) (cwV 0 hts g_X3_readUnit_2_0 rfl rfl rfl (by decide +kernel) ⟨Nat.le_of_ble_eq_true rfl, Nat.le_of_ble_eq_true rfl⟩) (pv_PV10 hPc hKc hDc (q0 := 0) rfl) rfl rfl hl.1 rfl (lv_room (Nat.le_of_ble_eq_true rfl)) dX3_readUnit_4 ⟨Nat.le_of_ble_eq_true rfl, Nat.le_of_ble_eq_true rfl⟩) hS (fun q _ h => hFc q h) hFc (fun ra1 u t H1 locs ht hvm hwra1 hB hz1 hk1 hS => ?_)
  try rw [hwra1] at hB
  rcases hB with hB | hB
  · skip
    obtain ⟨x2, oa_x2, ob_x2, pt0_ra1, pt1_ra1, pt2_ra1, pt3_ra1, pt4_ra1, pt5_ra1, pt6_ra1, hP1, hK1, hD1⟩ := hB
    rw [ht] at hP1
    obtain ⟨hP2, hD2⟩ := va_join (wr := (wd_b958b9da h0 h1 h3 v0 h3 g1 f6)) (w1 := (wd_82cdd16b h1 h2 v1 x2 v3 v4 h2 g0 f5)) hP hD [1, 2] [0, 3] rfl rfl (by decide) (by decide) hk1 hFc hP1 hD1
    clear hP hD hPc hDc hKc hFc hP1 hK1 hD1 hk1 hz1
    generalize H1 = H at hP2 hS ⊢
    have hP := hP2.sub (ws' := (wd_1ad0248d h0 h1 h3 v0 h1 h2 v1 x2 v3 v4 h2 g0 f5 h3 g1 f6)) [0, 2, 3, 1] rfl
    have hD := hD2.sub (ws' := (wd_1ad0248d h0 h1 h3 v0 h1 h2 v1 x2 v3 v4 h2 g0 f5 h3 g1 f6)) [0, 2, 3, 1] (by decide) rfl
    clear hP2 hD2
    obtain rfl : ra1 = ((-1) : Int32) := pv_cs (by decide) pt0_ra1 pt1_ra1
    refine lv_istore_n (lv' := [(3, .int (-1)), (0, .ref h0), (1, .int 5), (2, .int 0)]) hx hb dX3_readUnit_7 rfl hl (by decide) rfl (fun ls hl => ?_)
    refine lv_iload_n hx hb dX3_readUnit_8 rfl (lv_at hl 3 rfl) ?_
    refine lv_if_ne (tgt := 102) hx hb dX3_readUnit_9 (by decide) (fun c => absurd (by decide) c) (fun _ => ?_)
    refine lv_iload_n hx hb dX3_readUnit_12 rfl (lv_at hl 0 rfl) ?_
    refine lv_bipush (v := 33) hx hb dX3_readUnit_13 (by decide) ?_
    refine lv_icmp_eq (tgt := 24) hx hb dX3_readUnit_15 (by decide) (fun c => absurd c (by decide)) (fun _ => ?_)
    refine lv_iload_n hx hb dX3_readUnit_18 rfl (lv_at hl 0 rfl) ?_
    refine lv_bipush (v := 40) hx hb dX3_readUnit_19 (by decide) ?_
    refine lv_icmp_ne (tgt := 102) hx hb dX3_readUnit_21 (by decide) (fun _ => ?_) (fun c => absurd c (by decide))
    refine lv_iload_n hx hb dX3_readUnit_102 rfl (lv_at hl 3 rfl) ?_
    refine lv_if_ne (tgt := 116) hx hb dX3_readUnit_103 (by decide) (fun c => absurd (by decide) c) (fun _ => ?_)
    refine lv_aload_n hx hb dX3_readUnit_106 rfl (lv_at hl 1 rfl) ?_
    refine lv_iload_n hx hb dX3_readUnit_107 rfl (lv_at hl 2 rfl) ?_
    have hPc := hP.sub (ws' := (wd_1ad0248d h0 h1 h3 v0 h1 h2 v1 x2 v3 v4 h2 g0 f5 h3 g1 f6)) [0, 1, 2, 3] rfl
    have hDc := hD.sub (ws' := (wd_1ad0248d h0 h1 h3 v0 h1 h2 v1 x2 v3 v4 h2 g0 f5 h3 g1 f6)) [0, 1, 2, 3] (by decide) rfl
    have hKc := hK.sub (tys' := [(g0, .int), (g1, .int)]) [0, 1] rfl
    have hFc := va_free (wc := (wd_1ad0248d h0 h1 h3 v0 h1 h2 v1 x2 v3 v4 h2 g0 f5 h3 g1 f6)) hD hS hA [0, 1, 2, 3] rfl
    refine va_calli (va_runV (As := [.int 5]) (rest := []) ⟨hx, hb, hml, hown, hts⟩ (k_X3_readSum_1 l dC dI adK adV h0 h1 h2 h3 v0 v1 x2 v3 v4 g0 f5 g1 f6 ⟨i_v0a, i_v0b⟩ ⟨i_v1a, i_v1b⟩ ⟨oa_x2, ob_x2⟩ ia_f5 H.size) (cwV 1 hts g_X3_readUnit_2_1 rfl rfl rfl (by decide +kernel) ⟨Nat.le_of_ble_eq_true rfl, Nat.le_of_ble_eq_true rfl⟩) ⟨fun a U g mk q => by obtain ⟨q0, q1, qP, qK, qD, n0, n1, n2⟩ := q; exact ⟨q0, q1, qP, va_K.moved (u := U) (U := U.calling g mk a) (Vm.Alike.refl U.vm) qK, qD, vk_R.same rfl n0, va_Z.moved (Vm.Alike.refl _) n1, vk_S.moved (Vm.Alike.refl _) n2⟩, pv_rc3 hKc hPc (q0 := 0) rfl, fun U hU hW => ⟨rfl, by rw [hU], by rw [hU]; exact hPc, va_K.moved hW.alike hKc, hDc.weaken (fun _ _ _ _ => trivial), vk_R.warm hW h_vr_2, (by rw [hU]; exact (va_Z.moved hW.alike (va_Z.kept h_st_CS hS.2.1)).narrow hFc), (by rw [hU]; exact (vk_S.moved hW.alike (vk_S.kept h_st_S hS.2.1)).narrow hFc)⟩⟩ rfl rfl hl.1 rfl (lv_room (Nat.le_of_ble_eq_true rfl)) dX3_readUnit_108 ⟨Nat.le_of_ble_eq_true rfl, Nat.le_of_ble_eq_true rfl⟩) hS (fun q _ h => hFc q h) hFc (fun ra3 u t H1 locs ht hvm hwra3 hB hz1 hk1 hS => ?_)
    try rw [hwra3] at hB
    rcases hB with hB | hB
    · skip
      obtain ⟨x4, x5, x6, fn7, oa_x4, ob_x4, oa_x5, ob_x5, pt0_ra3, pt1_ra3, pt2_ra3, pt3_ra3, hP1, hK1, hD1⟩ := hB
      rw [ht] at hP1
      obtain ⟨hP2, hD2⟩ := va_join (wr := []) (w1 := (wd_1ad0248d h0 h1 h3 x4 h1 h2 v1 x5 v3 x6 h2 g0 f5 h3 g1 fn7)) hP hD [0, 1, 2, 3] [] rfl rfl (by decide) (by decide) hk1 hFc hP1 hD1
      clear hP hD hPc hDc hKc hFc hP1 hK1 hD1 hk1 hz1
      generalize H1 = H at hP2 hS ⊢
      have hP : va_P (dC, dI) vwCl (wd_1ad0248d h0 h1 h3 x4 h1 h2 v1 x5 v3 x6 h2 g0 f5 h3 g1 fn7) H := hP2
      have hD : va_D A (wd_1ad0248d h0 h1 h3 x4 h1 h2 v1 x5 v3 x6 h2 g0 f5 h3 g1 fn7) := hD2
      clear hP2 hD2
      obtain rfl : ra3 = (1 : Int32) := pv_cs (by decide) pt0_ra3 pt1_ra3
      refine lv_if_ne (tgt := 116) hx hb dX3_readUnit_111 (by decide) (fun _ => ?_) (fun c => absurd c (by decide))
      refine lv_aload_n hx hb dX3_readUnit_116 rfl (lv_at hl 1 rfl) ?_
      refine va_get (D := (dC, dI)) (ci := 3) (v := .ref h1) (C := RX3) (T := TX3) (N := 3) hx hb hts (fun _ h => List.mem_cons_of_mem _ (List.mem_append_left _ (List.mem_append_right _ h))) hown hK hP 0 rfl rfl 0 (by decide) (hts (.fieldLink RX3 19 "LeftArguments$LawReader" "tape" "LLeftArguments$Tape;") (List.mem_cons_of_mem _ (List.mem_append_left _ (List.mem_append_left _ (List.mem_of_getElem? (i := 0) rfl))))) (fun _ h9 => h9) rfl dX3_readUnit_117 ?_
      have hPc := hP.sub (ws' := (wd_82cdd16b h1 h2 v1 x5 v3 x6 h2 g0 f5)) [1, 2] rfl
      have hDc := hD.sub (ws' := (wd_82cdd16b h1 h2 v1 x5 v3 x6 h2 g0 f5)) [1, 2] (by decide) rfl
      have hKc := hK.sub (tys' := [(g0, .int)]) [0] rfl
      have hFc := va_free (wc := (wd_82cdd16b h1 h2 v1 x5 v3 x6 h2 g0 f5)) hD hS hA [1, 2] rfl
      refine va_calli (va_runV (As := []) (rest := []) ⟨hx, hb, hml, hown, hts⟩ (k_X10_next l dC dI h1 h2 v1 x5 v3 x6 g0 f5 ⟨i_v1a, i_v1b⟩ ⟨oa_x5, ob_x5⟩ ia_f5 H.size) (cwV 0 hts g_X3_readUnit_2_0 rfl rfl rfl (by decide +kernel) ⟨Nat.le_of_ble_eq_true rfl, Nat.le_of_ble_eq_true rfl⟩) (pv_PV10 hPc hKc hDc (q0 := 0) rfl) rfl rfl hl.1 rfl (lv_room (Nat.le_of_ble_eq_true rfl)) dX3_readUnit_120 ⟨Nat.le_of_ble_eq_true rfl, Nat.le_of_ble_eq_true rfl⟩) hS (fun q _ h => hFc q h) hFc (fun ra8 u t H1 locs ht hvm hwra8 hB hz1 hk1 hS => ?_)
      try rw [hwra8] at hB
      rcases hB with hB | hB
      · skip
        obtain ⟨x9, oa_x9, ob_x9, pt0_ra8, pt1_ra8, pt2_ra8, pt3_ra8, pt4_ra8, pt5_ra8, pt6_ra8, hP1, hK1, hD1⟩ := hB
        rw [ht] at hP1
        obtain ⟨hP2, hD2⟩ := va_join (wr := (wd_b958b9da h0 h1 h3 x4 h3 g1 fn7)) (w1 := (wd_82cdd16b h1 h2 v1 x9 v3 x6 h2 g0 f5)) hP hD [1, 2] [0, 3] rfl rfl (by decide) (by decide) hk1 hFc hP1 hD1
        clear hP hD hPc hDc hKc hFc hP1 hK1 hD1 hk1 hz1
        generalize H1 = H at hP2 hS ⊢
        have hP := hP2.sub (ws' := (wd_1ad0248d h0 h1 h3 x4 h1 h2 v1 x9 v3 x6 h2 g0 f5 h3 g1 fn7)) [0, 2, 3, 1] rfl
        have hD := hD2.sub (ws' := (wd_1ad0248d h0 h1 h3 x4 h1 h2 v1 x9 v3 x6 h2 g0 f5 h3 g1 fn7)) [0, 2, 3, 1] (by decide) rfl
        clear hP2 hD2
        obtain rfl : ra8 = ((-1) : Int32) := pv_cs (by decide) pt0_ra8 pt1_ra8
        have hPc := hP.sub (ws' := []) [] rfl
        have hDc := hD.sub (ws' := []) [] (by decide) rfl
        have hKc := hK.sub (tys' := []) [] rfl
        have hFc := va_free (wc := []) hD hS hA [] rfl
        refine va_calli (va_runS (As := [.int (-1)]) (rest := []) ⟨hx, hb, hml, hown, hts⟩ (k_X3_comparing l dC dI   H.size) (va_cwS 1 hts g_X3_readUnit_2_3 rfl rfl rfl (by decide +kernel) ⟨Nat.le_of_ble_eq_true rfl, Nat.le_of_ble_eq_true rfl⟩) (pv_PS hPc hKc hDc) rfl rfl hl.1 rfl (lv_room (Nat.le_of_ble_eq_true rfl)) dX3_readUnit_123 ⟨Nat.le_of_ble_eq_true rfl, Nat.le_of_ble_eq_true rfl⟩) hS (fun q _ h => hFc q h) hFc (fun ra10 u t H1 locs ht hvm hwra10 hB hz1 hk1 hS => ?_)
        try rw [hwra10] at hB
        obtain ⟨pt0_ra10, pt1_ra10, hP1, hK1, hD1⟩ := hB
        rw [ht] at hP1
        obtain ⟨hP2, hD2⟩ := va_join (wr := (wd_1ad0248d h0 h1 h3 x4 h1 h2 v1 x9 v3 x6 h2 g0 f5 h3 g1 fn7)) (w1 := []) hP hD [] [0, 1, 2, 3] rfl rfl (by decide) (by decide) hk1 hFc hP1 hD1
        clear hP hD hPc hDc hKc hFc hP1 hK1 hD1 hk1 hz1
        generalize H1 = H at hP2 hS ⊢
        have hP : va_P (dC, dI) vwCl (wd_1ad0248d h0 h1 h3 x4 h1 h2 v1 x9 v3 x6 h2 g0 f5 h3 g1 fn7) H := hP2
        have hD : va_D A (wd_1ad0248d h0 h1 h3 x4 h1 h2 v1 x9 v3 x6 h2 g0 f5 h3 g1 fn7) := hD2
        clear hP2 hD2
        obtain rfl : ra10 = ((-1) : Int32) := pv_cs (by decide) pt0_ra10 pt1_ra10
        refine lv_istore (lv' := [(4, .int (-1)), (3, .int (-1)), (0, .ref h0), (1, .int 5), (2, .int 0)]) hx hb dX3_readUnit_126 hl (by decide) rfl (fun ls hl => ?_)
        refine lv_iload hx hb dX3_readUnit_128 (lv_at hl 0 rfl) ?_
        refine lv_iconst (v := (-1)) hx hb dX3_readUnit_130 (by decide) ?_
        refine lv_icmp_ne (tgt := 142) hx hb dX3_readUnit_131 (by decide) (fun c => absurd (by decide) c) (fun _ => ?_)
        refine lv_aload_n hx hb dX3_readUnit_134 rfl (lv_at hl 2 rfl) ?_
        refine va_get (D := (dC, dI)) (ci := 3) (v := .ref h1) (C := RX3) (T := TX3) (N := 3) hx hb hts (fun _ h => List.mem_cons_of_mem _ (List.mem_append_left _ (List.mem_append_right _ h))) hown hK hP 0 rfl rfl 0 (by decide) (hts (.fieldLink RX3 19 "LeftArguments$LawReader" "tape" "LLeftArguments$Tape;") (List.mem_cons_of_mem _ (List.mem_append_left _ (List.mem_append_left _ (List.mem_of_getElem? (i := 0) rfl))))) (fun _ h9 => h9) rfl dX3_readUnit_135 ?_
        have hPc := hP.sub (ws' := (wd_09b0abee h1 h2 v1 x9 v3 x6)) [1] rfl
        have hDc := hD.sub (ws' := (wd_09b0abee h1 h2 v1 x9 v3 x6)) [1] (by decide) rfl
        have hKc := hK.sub (tys' := []) [] rfl
        have hFc := va_free (wc := (wd_09b0abee h1 h2 v1 x9 v3 x6)) hD hS hA [1] rfl
        refine va_calli (va_runV (As := []) (rest := []) ⟨hx, hb, hml, hown, hts⟩ (k_X10_wrongHere l dC dI h1 h2 v1 x9 v3 x6 ⟨i_v1a, i_v1b⟩ ⟨oa_x9, ob_x9⟩ H.size) (cwV 0 hts g_X3_readUnit_2_4 rfl rfl rfl (by decide +kernel) ⟨Nat.le_of_ble_eq_true rfl, Nat.le_of_ble_eq_true rfl⟩) (pv_PV10 hPc hKc hDc (q0 := 0) rfl) rfl rfl hl.1 rfl (lv_room (Nat.le_of_ble_eq_true rfl)) dX3_readUnit_138 ⟨Nat.le_of_ble_eq_true rfl, Nat.le_of_ble_eq_true rfl⟩) hS (fun q _ h => hFc q h) hFc (fun ra11 u t H1 locs ht hvm hwra11 hB hz1 hk1 hS => ?_)
        try rw [hwra11] at hB
        obtain ⟨x12, oa_x12, ob_x12, pt0_ra11, pt1_ra11, pt2_ra11, hP1, hK1, hD1⟩ := hB
        rw [ht] at hP1
        obtain ⟨hP2, hD2⟩ := va_join (wr := (wd_6b0d8e05 h0 h1 h3 x4 h2 g0 f5 h3 g1 fn7)) (w1 := (wd_09b0abee h1 h2 v1 x9 x12 x6)) hP hD [1] [0, 2, 3] rfl rfl (by decide) (by decide) hk1 hFc hP1 hD1
        clear hP hD hPc hDc hKc hFc hP1 hK1 hD1 hk1 hz1
        generalize H1 = H at hP2 hS ⊢
        have hP := hP2.sub (ws' := (wd_1ad0248d h0 h1 h3 x4 h1 h2 v1 x9 x12 x6 h2 g0 f5 h3 g1 fn7)) [0, 3, 1, 2] rfl
        have hD := hD2.sub (ws' := (wd_1ad0248d h0 h1 h3 x4 h1 h2 v1 x9 x12 x6 h2 g0 f5 h3 g1 fn7)) [0, 3, 1, 2] (by decide) rfl
        clear hP2 hD2
        obtain rfl : ra11 = (0 : Int32) := pv_cs (by decide) pt0_ra11 pt1_ra11
        subst hQ
        have hP9 := hP.sub (ws' := (wd_1ad0248d h0 h1 h3 x4 h1 h2 v1 x9 x12 x6 h2 g0 f5 h3 g1 fn7)) [0, 1, 2, 3] rfl
        have hD9 := hD.sub (ws' := (wd_1ad0248d h0 h1 h3 x4 h1 h2 v1 x9 x12 x6 h2 g0 f5 h3 g1 fn7)) [0, 1, 2, 3] (by decide) rfl
        have hK9 := hK.sub (tys' := []) [] rfl
        exact W.zret (v := 0) hx hb hr rfl (fun t ht hW => ⟨⟨0, 0, rfl, rfl, Or.inr (⟨x4, x9, x12, x6, fn7, oa_x4, ob_x4, oa_x9, ob_x9, oa_x12, ob_x12, by first | omega | decide, by first | omega | decide, by omega, by show pg_unitF f5 v1.toInt 1 true (pg_unit f5 v1.toInt 0) (pg_con f5 v1.toInt (pg_unit f5 v1.toInt 0)) _ = _; first | (apply pg_unitF.not <;> first | assumption | omega) | (apply pg_unitF.par1 <;> first | assumption | omega) | (apply pg_unitF.par0 <;> first | assumption | omega) | (apply pg_unitF.deep <;> first | assumption | omega) | (apply pg_unitF.sm1 <;> first | assumption | omega) | (apply pg_unitF.sm2 <;> first | assumption | omega) | (apply pg_unitF.sum0 <;> first | assumption | omega), by rw [ht]; exact hP9, va_K.moved hW.alike hK9, hD9⟩)⟩, hS.F ht⟩) hS.2.2 dX3_readUnit_141
      · skip
        obtain ⟨x13, oa_x13, ob_x13, pt0_ra8, pt1_ra8, pt2_ra8, pt3_ra8, pt4_ra8, pt5_ra8, pt6_ra8, hP1, hK1, hD1⟩ := hB
        rw [ht] at hP1
        obtain ⟨hP2, hD2⟩ := va_join (wr := (wd_b958b9da h0 h1 h3 x4 h3 g1 fn7)) (w1 := (wd_82cdd16b h1 h2 v1 x13 v3 x6 h2 g0 f5)) hP hD [1, 2] [0, 3] rfl rfl (by decide) (by decide) hk1 hFc hP1 hD1
        clear hP hD hPc hDc hKc hFc hP1 hK1 hD1 hk1 hz1
        generalize H1 = H at hP2 hS ⊢
        have hP := hP2.sub (ws' := (wd_1ad0248d h0 h1 h3 x4 h1 h2 v1 x13 v3 x6 h2 g0 f5 h3 g1 fn7)) [0, 2, 3, 1] rfl
        have hD := hD2.sub (ws' := (wd_1ad0248d h0 h1 h3 x4 h1 h2 v1 x13 v3 x6 h2 g0 f5 h3 g1 fn7)) [0, 2, 3, 1] (by decide) rfl
        clear hP2 hD2
        have hPc := hP.sub (ws' := []) [] rfl
        have hDc := hD.sub (ws' := []) [] (by decide) rfl
        have hKc := hK.sub (tys' := []) [] rfl
        have hFc := va_free (wc := []) hD hS hA [] rfl
        refine va_calli (va_runS (As := [.int ra8]) (rest := []) ⟨hx, hb, hml, hown, hts⟩ (k_X3_comparing_1 l dC dI ra8  H.size) (va_cwS 1 hts g_X3_readUnit_2_5 rfl rfl rfl (by decide +kernel) ⟨Nat.le_of_ble_eq_true rfl, Nat.le_of_ble_eq_true rfl⟩) (pv_PS hPc hKc hDc) rfl rfl hl.1 rfl (lv_room (Nat.le_of_ble_eq_true rfl)) dX3_readUnit_123 ⟨Nat.le_of_ble_eq_true rfl, Nat.le_of_ble_eq_true rfl⟩) hS (fun q _ h => hFc q h) hFc (fun ra14 u t H1 locs ht hvm hwra14 hB hz1 hk1 hS => ?_)
        try rw [hwra14] at hB
        obtain ⟨pt0_ra14, pt1_ra14, pt2_ra14, hP1, hK1, hD1⟩ := hB
        rw [ht] at hP1
        obtain ⟨hP2, hD2⟩ := va_join (wr := (wd_1ad0248d h0 h1 h3 x4 h1 h2 v1 x13 v3 x6 h2 g0 f5 h3 g1 fn7)) (w1 := []) hP hD [] [0, 1, 2, 3] rfl rfl (by decide) (by decide) hk1 hFc hP1 hD1
        clear hP hD hPc hDc hKc hFc hP1 hK1 hD1 hk1 hz1
        generalize H1 = H at hP2 hS ⊢
        have hP : va_P (dC, dI) vwCl (wd_1ad0248d h0 h1 h3 x4 h1 h2 v1 x13 v3 x6 h2 g0 f5 h3 g1 fn7) H := hP2
        have hD : va_D A (wd_1ad0248d h0 h1 h3 x4 h1 h2 v1 x13 v3 x6 h2 g0 f5 h3 g1 fn7) := hD2
        clear hP2 hD2
        refine lv_istore (lv' := [(4, .int ra14), (3, .int (-1)), (0, .ref h0), (1, .int 5), (2, .int 0)]) hx hb dX3_readUnit_126 hl (by decide) rfl (fun ls hl => ?_)
        refine lv_iload hx hb dX3_readUnit_128 (lv_at hl 0 rfl) ?_
        refine lv_iconst (v := (-1)) hx hb dX3_readUnit_130 (by decide) ?_
        refine lv_icmp_ne (tgt := 142) hx hb dX3_readUnit_131 (by decide) (fun c15 => ?_) (fun c15 => ?_)
        · skip
          have fc15 : ¬ (ra14.toInt = (-1)) := fun h9 => c15 (Int32.toInt_inj.mp h9)
          refine lv_aload_n hx hb dX3_readUnit_142 rfl (lv_at hl 2 rfl) ?_
          refine va_get (D := (dC, dI)) (ci := 3) (v := .ref h1) (C := RX3) (T := TX3) (N := 3) hx hb hts (fun _ h => List.mem_cons_of_mem _ (List.mem_append_left _ (List.mem_append_right _ h))) hown hK hP 0 rfl rfl 0 (by decide) (hts (.fieldLink RX3 19 "LeftArguments$LawReader" "tape" "LLeftArguments$Tape;") (List.mem_cons_of_mem _ (List.mem_append_left _ (List.mem_append_left _ (List.mem_of_getElem? (i := 0) rfl))))) (fun _ h9 => h9) rfl dX3_readUnit_143 ?_
          have hPc := hP.sub (ws' := (wd_09b0abee h1 h2 v1 x13 v3 x6)) [1] rfl
          have hDc := hD.sub (ws' := (wd_09b0abee h1 h2 v1 x13 v3 x6)) [1] (by decide) rfl
          have hKc := hK.sub (tys' := []) [] rfl
          have hFc := va_free (wc := (wd_09b0abee h1 h2 v1 x13 v3 x6)) hD hS hA [1] rfl
          refine va_callv (va_runV (As := []) (rest := []) ⟨hx, hb, hml, hown, hts⟩ (k_X10_step l dC dI h1 h2 v1 x13 v3 x6 ⟨i_v1a, i_v1b⟩ ⟨oa_x13, ob_x13⟩ H.size) (cwV 0 hts g_X3_readUnit_2_6 rfl rfl rfl (by decide +kernel) ⟨Nat.le_of_ble_eq_true rfl, Nat.le_of_ble_eq_true rfl⟩) (pv_PV10 hPc hKc hDc (q0 := 0) rfl) rfl rfl hl.1 rfl (lv_room (Nat.le_of_ble_eq_true rfl)) dX3_readUnit_146 ⟨Nat.le_of_ble_eq_true rfl, Nat.le_of_ble_eq_true rfl⟩) hS (fun q _ h => hFc q h) hFc (fun u t H1 locs ht hvm hwra16 hB hz1 hk1 hS => ?_)
          obtain ⟨x17, oa_x17, ob_x17, pt0_ra16, hP1, hK1, hD1⟩ := hB
          rw [ht] at hP1
          obtain ⟨hP2, hD2⟩ := va_join (wr := (wd_6b0d8e05 h0 h1 h3 x4 h2 g0 f5 h3 g1 fn7)) (w1 := (wd_09b0abee h1 h2 v1 x17 v3 x6)) hP hD [1] [0, 2, 3] rfl rfl (by decide) (by decide) hk1 hFc hP1 hD1
          clear hP hD hPc hDc hKc hFc hP1 hK1 hD1 hk1 hz1
          generalize H1 = H at hP2 hS ⊢
          have hP := hP2.sub (ws' := (wd_1ad0248d h0 h1 h3 x4 h1 h2 v1 x17 v3 x6 h2 g0 f5 h3 g1 fn7)) [0, 3, 1, 2] rfl
          have hD := hD2.sub (ws' := (wd_1ad0248d h0 h1 h3 x4 h1 h2 v1 x17 v3 x6 h2 g0 f5 h3 g1 fn7)) [0, 3, 1, 2] (by decide) rfl
          clear hP2 hD2
          refine lv_aload_n hx hb dX3_readUnit_149 rfl (lv_at hl 2 rfl) ?_
          refine lv_iload_n hx hb dX3_readUnit_150 rfl (lv_at hl 3 rfl) ?_
          have hPc := hP.sub (ws' := (wd_1ad0248d h0 h1 h3 x4 h1 h2 v1 x17 v3 x6 h2 g0 f5 h3 g1 fn7)) [0, 1, 2, 3] rfl
          have hDc := hD.sub (ws' := (wd_1ad0248d h0 h1 h3 x4 h1 h2 v1 x17 v3 x6 h2 g0 f5 h3 g1 fn7)) [0, 1, 2, 3] (by decide) rfl
          have hKc := hK.sub (tys' := [(g0, .int), (g1, .int)]) [0, 1] rfl
          have hFc := va_free (wc := (wd_1ad0248d h0 h1 h3 x4 h1 h2 v1 x17 v3 x6 h2 g0 f5 h3 g1 fn7)) hD hS hA [0, 1, 2, 3] rfl
          refine va_calli (va_runV (As := [.int 5]) (rest := []) ⟨hx, hb, hml, hown, hts⟩ (k_X3_readSum_1 l dC dI adK adV h0 h1 h2 h3 x4 v1 x17 v3 x6 g0 f5 g1 fn7 ⟨oa_x4, ob_x4⟩ ⟨i_v1a, i_v1b⟩ ⟨by first | omega | decide, ob_x17⟩ ia_f5 H.size) (cwV 1 hts g_X3_readUnit_2_1 rfl rfl rfl (by decide +kernel) ⟨Nat.le_of_ble_eq_true rfl, Nat.le_of_ble_eq_true rfl⟩) ⟨fun a U g mk q => by obtain ⟨q0, q1, qP, qK, qD, n0, n1, n2⟩ := q; exact ⟨q0, q1, qP, va_K.moved (u := U) (U := U.calling g mk a) (Vm.Alike.refl U.vm) qK, qD, vk_R.same rfl n0, va_Z.moved (Vm.Alike.refl _) n1, vk_S.moved (Vm.Alike.refl _) n2⟩, pv_rc3 hKc hPc (q0 := 0) rfl, fun U hU hW => ⟨rfl, by rw [hU], by rw [hU]; exact hPc, va_K.moved hW.alike hKc, hDc.weaken (fun _ _ _ _ => trivial), vk_R.warm hW h_vr_2, (by rw [hU]; exact (va_Z.moved hW.alike (va_Z.kept h_st_CS hS.2.1)).narrow hFc), (by rw [hU]; exact (vk_S.moved hW.alike (vk_S.kept h_st_S hS.2.1)).narrow hFc)⟩⟩ rfl rfl hl.1 rfl (lv_room (Nat.le_of_ble_eq_true rfl)) dX3_readUnit_151 ⟨Nat.le_of_ble_eq_true rfl, Nat.le_of_ble_eq_true rfl⟩) hS (fun q _ h => hFc q h) hFc (fun ra18 u t H1 locs ht hvm hwra18 hB hz1 hk1 hS => ?_)
          try rw [hwra18] at hB
          rcases hB with hB | hB
          · skip
            obtain ⟨x19, x20, x21, fn22, oa_x19, ob_x19, oa_x20, ob_x20, pt0_ra18, pt1_ra18, pt2_ra18, pt3_ra18, hP1, hK1, hD1⟩ := hB
            rw [ht] at hP1
            obtain ⟨hP2, hD2⟩ := va_join (wr := []) (w1 := (wd_1ad0248d h0 h1 h3 x19 h1 h2 v1 x20 v3 x21 h2 g0 f5 h3 g1 fn22)) hP hD [0, 1, 2, 3] [] rfl rfl (by decide) (by decide) hk1 hFc hP1 hD1
            clear hP hD hPc hDc hKc hFc hP1 hK1 hD1 hk1 hz1
            generalize H1 = H at hP2 hS ⊢
            have hP : va_P (dC, dI) vwCl (wd_1ad0248d h0 h1 h3 x19 h1 h2 v1 x20 v3 x21 h2 g0 f5 h3 g1 fn22) H := hP2
            have hD : va_D A (wd_1ad0248d h0 h1 h3 x19 h1 h2 v1 x20 v3 x21 h2 g0 f5 h3 g1 fn22) := hD2
            clear hP2 hD2
            obtain rfl : ra18 = (1 : Int32) := pv_cs (by decide) pt0_ra18 pt1_ra18
            refine lv_if_ne (tgt := 159) hx hb dX3_readUnit_154 (by decide) (fun _ => ?_) (fun c => absurd c (by decide))
            refine lv_aload_n hx hb dX3_readUnit_159 rfl (lv_at hl 2 rfl) ?_
            refine lv_iload hx hb dX3_readUnit_160 (lv_at hl 0 rfl) ?_
            refine lv_iconst (v := 0) hx hb dX3_readUnit_162 (by decide) ?_
            have hPc := hP.sub (ws' := (wd_b958b9da h0 h1 h3 x19 h3 g1 fn22)) [0, 3] rfl
            have hDc := hD.sub (ws' := (wd_b958b9da h0 h1 h3 x19 h3 g1 fn22)) [0, 3] (by decide) rfl
            have hKc := hK.sub (tys' := [(g1, .int)]) [1] rfl
            have hFc := va_free (wc := (wd_b958b9da h0 h1 h3 x19 h3 g1 fn22)) hD hS hA [0, 3] rfl
            refine va_callv (va_runV (As := [.int ra14, .int 0]) (rest := []) ⟨hx, hb, hml, hown, hts⟩ (k_X3_write l dC dI h0 h3 h1 x19 g1 fn22 ra14 0 ⟨oa_x19, ob_x19⟩ H.size) (cwV 2 hts g_X3_readUnit_2_8 rfl rfl rfl (by decide +kernel) ⟨Nat.le_of_ble_eq_true rfl, Nat.le_of_ble_eq_true rfl⟩) (pv_PV3 hPc hKc hDc (q0 := 0) rfl) rfl rfl hl.1 rfl (lv_room (Nat.le_of_ble_eq_true rfl)) dX3_readUnit_163 ⟨Nat.le_of_ble_eq_true rfl, Nat.le_of_ble_eq_true rfl⟩) hS (fun q _ h => hFc q h) hFc (fun u t H1 locs ht hvm hwra23 hB hz1 hk1 hS => ?_)
            obtain ⟨x24, fn25, oa_x24, ob_x24, hP1, hK1, hD1⟩ := hB
            rw [ht] at hP1
            obtain ⟨hP2, hD2⟩ := va_join (wr := (wd_82cdd16b h1 h2 v1 x20 v3 x21 h2 g0 f5)) (w1 := (wd_b958b9da h0 h1 h3 x24 h3 g1 fn25)) hP hD [0, 3] [1, 2] rfl rfl (by decide) (by decide) hk1 hFc hP1 hD1
            clear hP hD hPc hDc hKc hFc hP1 hK1 hD1 hk1 hz1
            generalize H1 = H at hP2 hS ⊢
            have hP := hP2.sub (ws' := (wd_1ad0248d h0 h1 h3 x24 h1 h2 v1 x20 v3 x21 h2 g0 f5 h3 g1 fn25)) [2, 0, 1, 3] rfl
            have hD := hD2.sub (ws' := (wd_1ad0248d h0 h1 h3 x24 h1 h2 v1 x20 v3 x21 h2 g0 f5 h3 g1 fn25)) [2, 0, 1, 3] (by decide) rfl
            clear hP2 hD2
            refine lv_iconst (v := 1) hx hb dX3_readUnit_166 (by decide) ?_
            subst hQ
            have hP9 := hP.sub (ws' := (wd_1ad0248d h0 h1 h3 x24 h1 h2 v1 x20 v3 x21 h2 g0 f5 h3 g1 fn25)) [0, 1, 2, 3] rfl
            have hD9 := hD.sub (ws' := (wd_1ad0248d h0 h1 h3 x24 h1 h2 v1 x20 v3 x21 h2 g0 f5 h3 g1 fn25)) [0, 1, 2, 3] (by decide) rfl
            have hK9 := hK.sub (tys' := []) [] rfl
            exact W.zret (v := 1) hx hb hr rfl (fun t ht hW => ⟨⟨1, 1, rfl, rfl, Or.inl ⟨x24, x20, x21, fn25, oa_x24, ob_x24, oa_x20, ob_x20, by first | omega | decide, by first | omega | decide, by omega, by show pg_unitF f5 v1.toInt 1 true (pg_unit f5 v1.toInt 0) (pg_con f5 v1.toInt (pg_unit f5 v1.toInt 0)) _ = _; first | (apply pg_unitF.not <;> first | assumption | omega) | (apply pg_unitF.par1 <;> first | assumption | omega) | (apply pg_unitF.par0 <;> first | assumption | omega) | (apply pg_unitF.deep <;> first | assumption | omega) | (apply pg_unitF.sm1 <;> first | assumption | omega) | (apply pg_unitF.sm2 <;> first | assumption | omega) | (apply pg_unitF.sum0 <;> first | assumption | omega), by rw [ht]; exact hP9, va_K.moved hW.alike hK9, hD9⟩⟩, hS.F ht⟩) hS.2.2 dX3_readUnit_167
          · skip
            obtain ⟨x26, x27, x28, x29, fn30, oa_x26, ob_x26, oa_x27, ob_x27, oa_x28, ob_x28, pt0_ra18, pt1_ra18, pt2_ra18, pt3_ra18, hP1, hK1, hD1⟩ := hB
            rw [ht] at hP1
            obtain ⟨hP2, hD2⟩ := va_join (wr := []) (w1 := (wd_1ad0248d h0 h1 h3 x26 h1 h2 v1 x27 x28 x29 h2 g0 f5 h3 g1 fn30)) hP hD [0, 1, 2, 3] [] rfl rfl (by decide) (by decide) hk1 hFc hP1 hD1
            clear hP hD hPc hDc hKc hFc hP1 hK1 hD1 hk1 hz1
            generalize H1 = H at hP2 hS ⊢
            have hP : va_P (dC, dI) vwCl (wd_1ad0248d h0 h1 h3 x26 h1 h2 v1 x27 x28 x29 h2 g0 f5 h3 g1 fn30) H := hP2
            have hD : va_D A (wd_1ad0248d h0 h1 h3 x26 h1 h2 v1 x27 x28 x29 h2 g0 f5 h3 g1 fn30) := hD2
            clear hP2 hD2
            obtain rfl : ra18 = (0 : Int32) := pv_cs (by decide) pt0_ra18 pt1_ra18
            refine lv_if_ne (tgt := 159) hx hb dX3_readUnit_154 (by decide) (fun c => absurd (by decide) c) (fun _ => ?_)
            refine lv_iconst (v := 0) hx hb dX3_readUnit_157 (by decide) ?_
            subst hQ
            have hP9 := hP.sub (ws' := (wd_1ad0248d h0 h1 h3 x26 h1 h2 v1 x27 x28 x29 h2 g0 f5 h3 g1 fn30)) [0, 1, 2, 3] rfl
            have hD9 := hD.sub (ws' := (wd_1ad0248d h0 h1 h3 x26 h1 h2 v1 x27 x28 x29 h2 g0 f5 h3 g1 fn30)) [0, 1, 2, 3] (by decide) rfl
            have hK9 := hK.sub (tys' := []) [] rfl
            exact W.zret (v := 0) hx hb hr rfl (fun t ht hW => ⟨⟨0, 0, rfl, rfl, Or.inr (⟨x26, x27, x28, x29, fn30, oa_x26, ob_x26, oa_x27, ob_x27, oa_x28, ob_x28, by first | omega | decide, by first | omega | decide, by omega, by show pg_unitF f5 v1.toInt 1 true (pg_unit f5 v1.toInt 0) (pg_con f5 v1.toInt (pg_unit f5 v1.toInt 0)) _ = _; first | (apply pg_unitF.not <;> first | assumption | omega) | (apply pg_unitF.par1 <;> first | assumption | omega) | (apply pg_unitF.par0 <;> first | assumption | omega) | (apply pg_unitF.deep <;> first | assumption | omega) | (apply pg_unitF.sm1 <;> first | assumption | omega) | (apply pg_unitF.sm2 <;> first | assumption | omega) | (apply pg_unitF.sum0 <;> first | assumption | omega), by rw [ht]; exact hP9, va_K.moved hW.alike hK9, hD9⟩)⟩, hS.F ht⟩) hS.2.2 dX3_readUnit_158
        · skip
          have fc15 : ra14.toInt = (-1) := congrArg Int32.toInt c15
          refine lv_aload_n hx hb dX3_readUnit_134 rfl (lv_at hl 2 rfl) ?_
          refine va_get (D := (dC, dI)) (ci := 3) (v := .ref h1) (C := RX3) (T := TX3) (N := 3) hx hb hts (fun _ h => List.mem_cons_of_mem _ (List.mem_append_left _ (List.mem_append_right _ h))) hown hK hP 0 rfl rfl 0 (by decide) (hts (.fieldLink RX3 19 "LeftArguments$LawReader" "tape" "LLeftArguments$Tape;") (List.mem_cons_of_mem _ (List.mem_append_left _ (List.mem_append_left _ (List.mem_of_getElem? (i := 0) rfl))))) (fun _ h9 => h9) rfl dX3_readUnit_135 ?_
          have hPc := hP.sub (ws' := (wd_09b0abee h1 h2 v1 x13 v3 x6)) [1] rfl
          have hDc := hD.sub (ws' := (wd_09b0abee h1 h2 v1 x13 v3 x6)) [1] (by decide) rfl
          have hKc := hK.sub (tys' := []) [] rfl
          have hFc := va_free (wc := (wd_09b0abee h1 h2 v1 x13 v3 x6)) hD hS hA [1] rfl
          refine va_calli (va_runV (As := []) (rest := []) ⟨hx, hb, hml, hown, hts⟩ (k_X10_wrongHere l dC dI h1 h2 v1 x13 v3 x6 ⟨i_v1a, i_v1b⟩ ⟨oa_x13, by first | omega | decide⟩ H.size) (cwV 0 hts g_X3_readUnit_2_4 rfl rfl rfl (by decide +kernel) ⟨Nat.le_of_ble_eq_true rfl, Nat.le_of_ble_eq_true rfl⟩) (pv_PV10 hPc hKc hDc (q0 := 0) rfl) rfl rfl hl.1 rfl (lv_room (Nat.le_of_ble_eq_true rfl)) dX3_readUnit_138 ⟨Nat.le_of_ble_eq_true rfl, Nat.le_of_ble_eq_true rfl⟩) hS (fun q _ h => hFc q h) hFc (fun ra31 u t H1 locs ht hvm hwra31 hB hz1 hk1 hS => ?_)
          try rw [hwra31] at hB
          obtain ⟨x32, oa_x32, ob_x32, pt0_ra31, pt1_ra31, pt2_ra31, hP1, hK1, hD1⟩ := hB
          rw [ht] at hP1
          obtain ⟨hP2, hD2⟩ := va_join (wr := (wd_6b0d8e05 h0 h1 h3 x4 h2 g0 f5 h3 g1 fn7)) (w1 := (wd_09b0abee h1 h2 v1 x13 x32 x6)) hP hD [1] [0, 2, 3] rfl rfl (by decide) (by decide) hk1 hFc hP1 hD1
          clear hP hD hPc hDc hKc hFc hP1 hK1 hD1 hk1 hz1
          generalize H1 = H at hP2 hS ⊢
          have hP := hP2.sub (ws' := (wd_1ad0248d h0 h1 h3 x4 h1 h2 v1 x13 x32 x6 h2 g0 f5 h3 g1 fn7)) [0, 3, 1, 2] rfl
          have hD := hD2.sub (ws' := (wd_1ad0248d h0 h1 h3 x4 h1 h2 v1 x13 x32 x6 h2 g0 f5 h3 g1 fn7)) [0, 3, 1, 2] (by decide) rfl
          clear hP2 hD2
          obtain rfl : ra31 = (0 : Int32) := pv_cs (by decide) pt0_ra31 pt1_ra31
          subst hQ
          have hP9 := hP.sub (ws' := (wd_1ad0248d h0 h1 h3 x4 h1 h2 v1 x13 x32 x6 h2 g0 f5 h3 g1 fn7)) [0, 1, 2, 3] rfl
          have hD9 := hD.sub (ws' := (wd_1ad0248d h0 h1 h3 x4 h1 h2 v1 x13 x32 x6 h2 g0 f5 h3 g1 fn7)) [0, 1, 2, 3] (by decide) rfl
          have hK9 := hK.sub (tys' := []) [] rfl
          exact W.zret (v := 0) hx hb hr rfl (fun t ht hW => ⟨⟨0, 0, rfl, rfl, Or.inr (⟨x4, x13, x32, x6, fn7, oa_x4, ob_x4, oa_x13, by first | omega | decide, oa_x32, ob_x32, by first | omega | decide, by first | omega | decide, by omega, by show pg_unitF f5 v1.toInt 1 true (pg_unit f5 v1.toInt 0) (pg_con f5 v1.toInt (pg_unit f5 v1.toInt 0)) _ = _; first | (apply pg_unitF.not <;> first | assumption | omega) | (apply pg_unitF.par1 <;> first | assumption | omega) | (apply pg_unitF.par0 <;> first | assumption | omega) | (apply pg_unitF.deep <;> first | assumption | omega) | (apply pg_unitF.sm1 <;> first | assumption | omega) | (apply pg_unitF.sm2 <;> first | assumption | omega) | (apply pg_unitF.sum0 <;> first | assumption | omega), by rw [ht]; exact hP9, va_K.moved hW.alike hK9, hD9⟩)⟩, hS.F ht⟩) hS.2.2 dX3_readUnit_141
    · skip
      obtain ⟨x33, x34, x35, x36, fn37, oa_x33, ob_x33, oa_x34, ob_x34, oa_x35, ob_x35, pt0_ra3, pt1_ra3, pt2_ra3, pt3_ra3, hP1, hK1, hD1⟩ := hB
      rw [ht] at hP1
      obtain ⟨hP2, hD2⟩ := va_join (wr := []) (w1 := (wd_1ad0248d h0 h1 h3 x33 h1 h2 v1 x34 x35 x36 h2 g0 f5 h3 g1 fn37)) hP hD [0, 1, 2, 3] [] rfl rfl (by decide) (by decide) hk1 hFc hP1 hD1
      clear hP hD hPc hDc hKc hFc hP1 hK1 hD1 hk1 hz1
      generalize H1 = H at hP2 hS ⊢
      have hP : va_P (dC, dI) vwCl (wd_1ad0248d h0 h1 h3 x33 h1 h2 v1 x34 x35 x36 h2 g0 f5 h3 g1 fn37) H := hP2
      have hD : va_D A (wd_1ad0248d h0 h1 h3 x33 h1 h2 v1 x34 x35 x36 h2 g0 f5 h3 g1 fn37) := hD2
      clear hP2 hD2
      obtain rfl : ra3 = (0 : Int32) := pv_cs (by decide) pt0_ra3 pt1_ra3
      refine lv_if_ne (tgt := 116) hx hb dX3_readUnit_111 (by decide) (fun c => absurd (by decide) c) (fun _ => ?_)
      refine lv_iconst (v := 0) hx hb dX3_readUnit_114 (by decide) ?_
      subst hQ
      have hP9 := hP.sub (ws' := (wd_1ad0248d h0 h1 h3 x33 h1 h2 v1 x34 x35 x36 h2 g0 f5 h3 g1 fn37)) [0, 1, 2, 3] rfl
      have hD9 := hD.sub (ws' := (wd_1ad0248d h0 h1 h3 x33 h1 h2 v1 x34 x35 x36 h2 g0 f5 h3 g1 fn37)) [0, 1, 2, 3] (by decide) rfl
      have hK9 := hK.sub (tys' := []) [] rfl
      exact W.zret (v := 0) hx hb hr rfl (fun t ht hW => ⟨⟨0, 0, rfl, rfl, Or.inr (⟨x33, x34, x35, x36, fn37, oa_x33, ob_x33, oa_x34, ob_x34, oa_x35, ob_x35, by first | omega | decide, by first | omega | decide, by omega, by show pg_unitF f5 v1.toInt 1 true (pg_unit f5 v1.toInt 0) (pg_con f5 v1.toInt (pg_unit f5 v1.toInt 0)) _ = _; first | (apply pg_unitF.not <;> first | assumption | omega) | (apply pg_unitF.par1 <;> first | assumption | omega) | (apply pg_unitF.par0 <;> first | assumption | omega) | (apply pg_unitF.deep <;> first | assumption | omega) | (apply pg_unitF.sm1 <;> first | assumption | omega) | (apply pg_unitF.sm2 <;> first | assumption | omega) | (apply pg_unitF.sum0 <;> first | assumption | omega), by rw [ht]; exact hP9, va_K.moved hW.alike hK9, hD9⟩)⟩, hS.F ht⟩) hS.2.2 dX3_readUnit_115
  · skip
    obtain ⟨x38, oa_x38, ob_x38, pt0_ra1, pt1_ra1, pt2_ra1, pt3_ra1, pt4_ra1, pt5_ra1, pt6_ra1, hP1, hK1, hD1⟩ := hB
    rw [ht] at hP1
    obtain ⟨hP2, hD2⟩ := va_join (wr := (wd_b958b9da h0 h1 h3 v0 h3 g1 f6)) (w1 := (wd_82cdd16b h1 h2 v1 x38 v3 v4 h2 g0 f5)) hP hD [1, 2] [0, 3] rfl rfl (by decide) (by decide) hk1 hFc hP1 hD1
    clear hP hD hPc hDc hKc hFc hP1 hK1 hD1 hk1 hz1
    generalize H1 = H at hP2 hS ⊢
    have hP := hP2.sub (ws' := (wd_1ad0248d h0 h1 h3 v0 h1 h2 v1 x38 v3 v4 h2 g0 f5 h3 g1 f6)) [0, 2, 3, 1] rfl
    have hD := hD2.sub (ws' := (wd_1ad0248d h0 h1 h3 v0 h1 h2 v1 x38 v3 v4 h2 g0 f5 h3 g1 f6)) [0, 2, 3, 1] (by decide) rfl
    clear hP2 hD2
    refine lv_istore_n (lv' := [(3, .int ra1), (0, .ref h0), (1, .int 5), (2, .int 0)]) hx hb dX3_readUnit_7 rfl hl (by decide) rfl (fun ls hl => ?_)
    refine lv_iload_n hx hb dX3_readUnit_8 rfl (lv_at hl 3 rfl) ?_
    refine lv_if_ne (tgt := 102) hx hb dX3_readUnit_9 (by decide) (fun c => absurd (by decide) c) (fun _ => ?_)
    refine lv_iload_n hx hb dX3_readUnit_12 rfl (lv_at hl 0 rfl) ?_
    refine lv_bipush (v := 33) hx hb dX3_readUnit_13 (by decide) ?_
    refine lv_icmp_eq (tgt := 24) hx hb dX3_readUnit_15 (by decide) (fun c39 => ?_) (fun c39 => ?_)
    · skip
      have fc39 : ra1.toInt = 33 := congrArg Int32.toInt c39
      refine lv_iload_n hx hb dX3_readUnit_24 rfl (lv_at hl 2 rfl) ?_
      refine lv_bipush (v := 6) hx hb dX3_readUnit_25 (by decide) ?_
      refine lv_icmp_lt (tgt := 38) hx hb dX3_readUnit_27 (by decide) (fun _ => ?_) (fun c => absurd (by decide) c)
      refine lv_aload_n hx hb dX3_readUnit_38 rfl (lv_at hl 1 rfl) ?_
      refine va_get (D := (dC, dI)) (ci := 3) (v := .ref h1) (C := RX3) (T := TX3) (N := 3) hx hb hts (fun _ h => List.mem_cons_of_mem _ (List.mem_append_left _ (List.mem_append_right _ h))) hown hK hP 0 rfl rfl 0 (by decide) (hts (.fieldLink RX3 19 "LeftArguments$LawReader" "tape" "LLeftArguments$Tape;") (List.mem_cons_of_mem _ (List.mem_append_left _ (List.mem_append_left _ (List.mem_of_getElem? (i := 0) rfl))))) (fun _ h9 => h9) rfl dX3_readUnit_39 ?_
      have hPc := hP.sub (ws' := (wd_09b0abee h1 h2 v1 x38 v3 v4)) [1] rfl
      have hDc := hD.sub (ws' := (wd_09b0abee h1 h2 v1 x38 v3 v4)) [1] (by decide) rfl
      have hKc := hK.sub (tys' := []) [] rfl
      have hFc := va_free (wc := (wd_09b0abee h1 h2 v1 x38 v3 v4)) hD hS hA [1] rfl
      refine va_callv (va_runV (As := []) (rest := []) ⟨hx, hb, hml, hown, hts⟩ (k_X10_step l dC dI h1 h2 v1 x38 v3 v4 ⟨i_v1a, i_v1b⟩ ⟨oa_x38, ob_x38⟩ H.size) (cwV 0 hts g_X3_readUnit_2_6 rfl rfl rfl (by decide +kernel) ⟨Nat.le_of_ble_eq_true rfl, Nat.le_of_ble_eq_true rfl⟩) (pv_PV10 hPc hKc hDc (q0 := 0) rfl) rfl rfl hl.1 rfl (lv_room (Nat.le_of_ble_eq_true rfl)) dX3_readUnit_42 ⟨Nat.le_of_ble_eq_true rfl, Nat.le_of_ble_eq_true rfl⟩) hS (fun q _ h => hFc q h) hFc (fun u t H1 locs ht hvm hwra40 hB hz1 hk1 hS => ?_)
      obtain ⟨x41, oa_x41, ob_x41, pt0_ra40, hP1, hK1, hD1⟩ := hB
      rw [ht] at hP1
      obtain ⟨hP2, hD2⟩ := va_join (wr := (wd_6b0d8e05 h0 h1 h3 v0 h2 g0 f5 h3 g1 f6)) (w1 := (wd_09b0abee h1 h2 v1 x41 v3 v4)) hP hD [1] [0, 2, 3] rfl rfl (by decide) (by decide) hk1 hFc hP1 hD1
      clear hP hD hPc hDc hKc hFc hP1 hK1 hD1 hk1 hz1
      generalize H1 = H at hP2 hS ⊢
      have hP := hP2.sub (ws' := (wd_1ad0248d h0 h1 h3 v0 h1 h2 v1 x41 v3 v4 h2 g0 f5 h3 g1 f6)) [0, 3, 1, 2] rfl
      have hD := hD2.sub (ws' := (wd_1ad0248d h0 h1 h3 v0 h1 h2 v1 x41 v3 v4 h2 g0 f5 h3 g1 f6)) [0, 3, 1, 2] (by decide) rfl
      clear hP2 hD2
      refine lv_iload_n hx hb dX3_readUnit_45 rfl (lv_at hl 0 rfl) ?_
      refine lv_bipush (v := 40) hx hb dX3_readUnit_46 (by decide) ?_
      refine lv_icmp_ne (tgt := 80) hx hb dX3_readUnit_48 (by decide) (fun _ => ?_) (fun c42 => by exfalso; have fc42 : ra1.toInt = 40 := congrArg Int32.toInt c42; omega)
      refine lv_aload_n hx hb dX3_readUnit_80 rfl (lv_at hl 1 rfl) ?_
      refine lv_iload_n hx hb dX3_readUnit_81 rfl (lv_at hl 2 rfl) ?_
      refine lv_iconst (v := 1) hx hb dX3_readUnit_82 (by decide) ?_
      refine lv_iadd hx hb dX3_readUnit_83 ?_
      refine lv_topi (fun tv43 etv43 => ?_)
      obtain rfl : tv43 = (6 : Int32) := etv43.trans (by first | rfl | decide)
      refine lv_iconst (v := 0) hx hb dX3_readUnit_84 (by decide) ?_
      have hPc := hP.sub (ws' := (wd_1ad0248d h0 h1 h3 v0 h1 h2 v1 x41 v3 v4 h2 g0 f5 h3 g1 f6)) [0, 1, 2, 3] rfl
      have hDc := hD.sub (ws' := (wd_1ad0248d h0 h1 h3 v0 h1 h2 v1 x41 v3 v4 h2 g0 f5 h3 g1 f6)) [0, 1, 2, 3] (by decide) rfl
      have hKc := hK.sub (tys' := [(g0, .int), (g1, .int)]) [0, 1] rfl
      have hFc := va_free (wc := (wd_1ad0248d h0 h1 h3 v0 h1 h2 v1 x41 v3 v4 h2 g0 f5 h3 g1 f6)) hD hS hA [0, 1, 2, 3] rfl
      refine va_calli (va_runV (As := [.int 6, .int 0]) (rest := []) ⟨hx, hb, hml, hown, hts⟩ (k_X3_readUnit_1 l dC dI adK adV h0 h1 h2 h3 v0 v1 x41 v3 v4 g0 f5 g1 f6 ⟨i_v0a, i_v0b⟩ ⟨i_v1a, i_v1b⟩ ⟨by first | omega | decide, ob_x41⟩ ia_f5 H.size) (cwV 2 hts g_X3_readUnit_2_11 rfl rfl rfl (by decide +kernel) ⟨Nat.le_of_ble_eq_true rfl, Nat.le_of_ble_eq_true rfl⟩) ⟨fun a U g mk q => by obtain ⟨q0, q1, qP, qK, qD, n0, n1, n2⟩ := q; exact ⟨q0, q1, qP, va_K.moved (u := U) (U := U.calling g mk a) (Vm.Alike.refl U.vm) qK, qD, vk_R.same rfl n0, va_Z.moved (Vm.Alike.refl _) n1, vk_S.moved (Vm.Alike.refl _) n2⟩, pv_rc3 hKc hPc (q0 := 0) rfl, fun U hU hW => ⟨rfl, by rw [hU], by rw [hU]; exact hPc, va_K.moved hW.alike hKc, hDc.weaken (fun _ _ _ _ => trivial), vk_R.warm hW h_vr_2, (by rw [hU]; exact (va_Z.moved hW.alike (va_Z.kept h_st_CS hS.2.1)).narrow hFc), (by rw [hU]; exact (vk_S.moved hW.alike (vk_S.kept h_st_S hS.2.1)).narrow hFc)⟩⟩ rfl rfl hl.1 rfl (lv_room (Nat.le_of_ble_eq_true rfl)) dX3_readUnit_85 ⟨Nat.le_of_ble_eq_true rfl, Nat.le_of_ble_eq_true rfl⟩) hS (fun q _ h => hFc q h) hFc (fun ra44 u t H1 locs ht hvm hwra44 hB hz1 hk1 hS => ?_)
      try rw [hwra44] at hB
      rcases hB with hB | hB
      · skip
        obtain ⟨x45, x46, x47, fn48, oa_x45, ob_x45, oa_x46, ob_x46, pt0_ra44, pt1_ra44, pt2_ra44, pt3_ra44, hP1, hK1, hD1⟩ := hB
        rw [ht] at hP1
        obtain ⟨hP2, hD2⟩ := va_join (wr := []) (w1 := (wd_1ad0248d h0 h1 h3 x45 h1 h2 v1 x46 v3 x47 h2 g0 f5 h3 g1 fn48)) hP hD [0, 1, 2, 3] [] rfl rfl (by decide) (by decide) hk1 hFc hP1 hD1
        clear hP hD hPc hDc hKc hFc hP1 hK1 hD1 hk1 hz1
        generalize H1 = H at hP2 hS ⊢
        have hP : va_P (dC, dI) vwCl (wd_1ad0248d h0 h1 h3 x45 h1 h2 v1 x46 v3 x47 h2 g0 f5 h3 g1 fn48) H := hP2
        have hD : va_D A (wd_1ad0248d h0 h1 h3 x45 h1 h2 v1 x46 v3 x47 h2 g0 f5 h3 g1 fn48) := hD2
        clear hP2 hD2
        obtain rfl : ra44 = (1 : Int32) := pv_cs (by decide) pt0_ra44 pt1_ra44
        refine lv_if_ne (tgt := 93) hx hb dX3_readUnit_88 (by decide) (fun _ => ?_) (fun c => absurd c (by decide))
        refine lv_aload_n hx hb dX3_readUnit_93 rfl (lv_at hl 1 rfl) ?_
        refine lv_bipush (v := 9) hx hb dX3_readUnit_94 (by decide) ?_
        refine lv_iconst (v := 0) hx hb dX3_readUnit_96 (by decide) ?_
        have hPc := hP.sub (ws' := (wd_b958b9da h0 h1 h3 x45 h3 g1 fn48)) [0, 3] rfl
        have hDc := hD.sub (ws' := (wd_b958b9da h0 h1 h3 x45 h3 g1 fn48)) [0, 3] (by decide) rfl
        have hKc := hK.sub (tys' := [(g1, .int)]) [1] rfl
        have hFc := va_free (wc := (wd_b958b9da h0 h1 h3 x45 h3 g1 fn48)) hD hS hA [0, 3] rfl
        refine va_callv (va_runV (As := [.int 9, .int 0]) (rest := []) ⟨hx, hb, hml, hown, hts⟩ (k_X3_write l dC dI h0 h3 h1 x45 g1 fn48 9 0 ⟨oa_x45, ob_x45⟩ H.size) (cwV 2 hts g_X3_readUnit_2_8 rfl rfl rfl (by decide +kernel) ⟨Nat.le_of_ble_eq_true rfl, Nat.le_of_ble_eq_true rfl⟩) (pv_PV3 hPc hKc hDc (q0 := 0) rfl) rfl rfl hl.1 rfl (lv_room (Nat.le_of_ble_eq_true rfl)) dX3_readUnit_97 ⟨Nat.le_of_ble_eq_true rfl, Nat.le_of_ble_eq_true rfl⟩) hS (fun q _ h => hFc q h) hFc (fun u t H1 locs ht hvm hwra49 hB hz1 hk1 hS => ?_)
        obtain ⟨x50, fn51, oa_x50, ob_x50, hP1, hK1, hD1⟩ := hB
        rw [ht] at hP1
        obtain ⟨hP2, hD2⟩ := va_join (wr := (wd_82cdd16b h1 h2 v1 x46 v3 x47 h2 g0 f5)) (w1 := (wd_b958b9da h0 h1 h3 x50 h3 g1 fn51)) hP hD [0, 3] [1, 2] rfl rfl (by decide) (by decide) hk1 hFc hP1 hD1
        clear hP hD hPc hDc hKc hFc hP1 hK1 hD1 hk1 hz1
        generalize H1 = H at hP2 hS ⊢
        have hP := hP2.sub (ws' := (wd_1ad0248d h0 h1 h3 x50 h1 h2 v1 x46 v3 x47 h2 g0 f5 h3 g1 fn51)) [2, 0, 1, 3] rfl
        have hD := hD2.sub (ws' := (wd_1ad0248d h0 h1 h3 x50 h1 h2 v1 x46 v3 x47 h2 g0 f5 h3 g1 fn51)) [2, 0, 1, 3] (by decide) rfl
        clear hP2 hD2
        refine lv_iconst (v := 1) hx hb dX3_readUnit_100 (by decide) ?_
        subst hQ
        have hP9 := hP.sub (ws' := (wd_1ad0248d h0 h1 h3 x50 h1 h2 v1 x46 v3 x47 h2 g0 f5 h3 g1 fn51)) [0, 1, 2, 3] rfl
        have hD9 := hD.sub (ws' := (wd_1ad0248d h0 h1 h3 x50 h1 h2 v1 x46 v3 x47 h2 g0 f5 h3 g1 fn51)) [0, 1, 2, 3] (by decide) rfl
        have hK9 := hK.sub (tys' := []) [] rfl
        exact W.zret (v := 1) hx hb hr rfl (fun t ht hW => ⟨⟨1, 1, rfl, rfl, Or.inl ⟨x50, x46, x47, fn51, oa_x50, ob_x50, oa_x46, ob_x46, by first | omega | decide, by first | omega | decide, by omega, by show pg_unitF f5 v1.toInt 1 true (pg_unit f5 v1.toInt 0) (pg_con f5 v1.toInt (pg_unit f5 v1.toInt 0)) _ = _; first | (apply pg_unitF.not <;> first | assumption | omega) | (apply pg_unitF.par1 <;> first | assumption | omega) | (apply pg_unitF.par0 <;> first | assumption | omega) | (apply pg_unitF.deep <;> first | assumption | omega) | (apply pg_unitF.sm1 <;> first | assumption | omega) | (apply pg_unitF.sm2 <;> first | assumption | omega) | (apply pg_unitF.sum0 <;> first | assumption | omega), by rw [ht]; exact hP9, va_K.moved hW.alike hK9, hD9⟩⟩, hS.F ht⟩) hS.2.2 dX3_readUnit_101
      · skip
        obtain ⟨x52, x53, x54, x55, fn56, oa_x52, ob_x52, oa_x53, ob_x53, oa_x54, ob_x54, pt0_ra44, pt1_ra44, pt2_ra44, pt3_ra44, hP1, hK1, hD1⟩ := hB
        rw [ht] at hP1
        obtain ⟨hP2, hD2⟩ := va_join (wr := []) (w1 := (wd_1ad0248d h0 h1 h3 x52 h1 h2 v1 x53 x54 x55 h2 g0 f5 h3 g1 fn56)) hP hD [0, 1, 2, 3] [] rfl rfl (by decide) (by decide) hk1 hFc hP1 hD1
        clear hP hD hPc hDc hKc hFc hP1 hK1 hD1 hk1 hz1
        generalize H1 = H at hP2 hS ⊢
        have hP : va_P (dC, dI) vwCl (wd_1ad0248d h0 h1 h3 x52 h1 h2 v1 x53 x54 x55 h2 g0 f5 h3 g1 fn56) H := hP2
        have hD : va_D A (wd_1ad0248d h0 h1 h3 x52 h1 h2 v1 x53 x54 x55 h2 g0 f5 h3 g1 fn56) := hD2
        clear hP2 hD2
        obtain rfl : ra44 = (0 : Int32) := pv_cs (by decide) pt0_ra44 pt1_ra44
        refine lv_if_ne (tgt := 93) hx hb dX3_readUnit_88 (by decide) (fun c => absurd (by decide) c) (fun _ => ?_)
        refine lv_iconst (v := 0) hx hb dX3_readUnit_91 (by decide) ?_
        subst hQ
        have hP9 := hP.sub (ws' := (wd_1ad0248d h0 h1 h3 x52 h1 h2 v1 x53 x54 x55 h2 g0 f5 h3 g1 fn56)) [0, 1, 2, 3] rfl
        have hD9 := hD.sub (ws' := (wd_1ad0248d h0 h1 h3 x52 h1 h2 v1 x53 x54 x55 h2 g0 f5 h3 g1 fn56)) [0, 1, 2, 3] (by decide) rfl
        have hK9 := hK.sub (tys' := []) [] rfl
        exact W.zret (v := 0) hx hb hr rfl (fun t ht hW => ⟨⟨0, 0, rfl, rfl, Or.inr (⟨x52, x53, x54, x55, fn56, oa_x52, ob_x52, oa_x53, ob_x53, oa_x54, ob_x54, by first | omega | decide, by first | omega | decide, by omega, by show pg_unitF f5 v1.toInt 1 true (pg_unit f5 v1.toInt 0) (pg_con f5 v1.toInt (pg_unit f5 v1.toInt 0)) _ = _; first | (apply pg_unitF.not <;> first | assumption | omega) | (apply pg_unitF.par1 <;> first | assumption | omega) | (apply pg_unitF.par0 <;> first | assumption | omega) | (apply pg_unitF.deep <;> first | assumption | omega) | (apply pg_unitF.sm1 <;> first | assumption | omega) | (apply pg_unitF.sm2 <;> first | assumption | omega) | (apply pg_unitF.sum0 <;> first | assumption | omega), by rw [ht]; exact hP9, va_K.moved hW.alike hK9, hD9⟩)⟩, hS.F ht⟩) hS.2.2 dX3_readUnit_92
    · skip
      have fc39 : ¬ (ra1.toInt = 33) := fun h9 => c39 (Int32.toInt_inj.mp h9)
      refine lv_iload_n hx hb dX3_readUnit_18 rfl (lv_at hl 0 rfl) ?_
      refine lv_bipush (v := 40) hx hb dX3_readUnit_19 (by decide) ?_
      refine lv_icmp_ne (tgt := 102) hx hb dX3_readUnit_21 (by decide) (fun c57 => ?_) (fun c57 => ?_)
      · skip
        have fc57 : ¬ (ra1.toInt = 40) := fun h9 => c57 (Int32.toInt_inj.mp h9)
        refine lv_iload_n hx hb dX3_readUnit_102 rfl (lv_at hl 3 rfl) ?_
        refine lv_if_ne (tgt := 116) hx hb dX3_readUnit_103 (by decide) (fun c => absurd (by decide) c) (fun _ => ?_)
        refine lv_aload_n hx hb dX3_readUnit_106 rfl (lv_at hl 1 rfl) ?_
        refine lv_iload_n hx hb dX3_readUnit_107 rfl (lv_at hl 2 rfl) ?_
        have hPc := hP.sub (ws' := (wd_1ad0248d h0 h1 h3 v0 h1 h2 v1 x38 v3 v4 h2 g0 f5 h3 g1 f6)) [0, 1, 2, 3] rfl
        have hDc := hD.sub (ws' := (wd_1ad0248d h0 h1 h3 v0 h1 h2 v1 x38 v3 v4 h2 g0 f5 h3 g1 f6)) [0, 1, 2, 3] (by decide) rfl
        have hKc := hK.sub (tys' := [(g0, .int), (g1, .int)]) [0, 1] rfl
        have hFc := va_free (wc := (wd_1ad0248d h0 h1 h3 v0 h1 h2 v1 x38 v3 v4 h2 g0 f5 h3 g1 f6)) hD hS hA [0, 1, 2, 3] rfl
        refine va_calli (va_runV (As := [.int 5]) (rest := []) ⟨hx, hb, hml, hown, hts⟩ (k_X3_readSum_1 l dC dI adK adV h0 h1 h2 h3 v0 v1 x38 v3 v4 g0 f5 g1 f6 ⟨i_v0a, i_v0b⟩ ⟨i_v1a, i_v1b⟩ ⟨oa_x38, by first | omega | decide⟩ ia_f5 H.size) (cwV 1 hts g_X3_readUnit_2_1 rfl rfl rfl (by decide +kernel) ⟨Nat.le_of_ble_eq_true rfl, Nat.le_of_ble_eq_true rfl⟩) ⟨fun a U g mk q => by obtain ⟨q0, q1, qP, qK, qD, n0, n1, n2⟩ := q; exact ⟨q0, q1, qP, va_K.moved (u := U) (U := U.calling g mk a) (Vm.Alike.refl U.vm) qK, qD, vk_R.same rfl n0, va_Z.moved (Vm.Alike.refl _) n1, vk_S.moved (Vm.Alike.refl _) n2⟩, pv_rc3 hKc hPc (q0 := 0) rfl, fun U hU hW => ⟨rfl, by rw [hU], by rw [hU]; exact hPc, va_K.moved hW.alike hKc, hDc.weaken (fun _ _ _ _ => trivial), vk_R.warm hW h_vr_2, (by rw [hU]; exact (va_Z.moved hW.alike (va_Z.kept h_st_CS hS.2.1)).narrow hFc), (by rw [hU]; exact (vk_S.moved hW.alike (vk_S.kept h_st_S hS.2.1)).narrow hFc)⟩⟩ rfl rfl hl.1 rfl (lv_room (Nat.le_of_ble_eq_true rfl)) dX3_readUnit_108 ⟨Nat.le_of_ble_eq_true rfl, Nat.le_of_ble_eq_true rfl⟩) hS (fun q _ h => hFc q h) hFc (fun ra58 u t H1 locs ht hvm hwra58 hB hz1 hk1 hS => ?_)
        try rw [hwra58] at hB
        rcases hB with hB | hB
        · skip
          obtain ⟨x59, x60, x61, fn62, oa_x59, ob_x59, oa_x60, ob_x60, pt0_ra58, pt1_ra58, pt2_ra58, pt3_ra58, hP1, hK1, hD1⟩ := hB
          rw [ht] at hP1
          obtain ⟨hP2, hD2⟩ := va_join (wr := []) (w1 := (wd_1ad0248d h0 h1 h3 x59 h1 h2 v1 x60 v3 x61 h2 g0 f5 h3 g1 fn62)) hP hD [0, 1, 2, 3] [] rfl rfl (by decide) (by decide) hk1 hFc hP1 hD1
          clear hP hD hPc hDc hKc hFc hP1 hK1 hD1 hk1 hz1
          generalize H1 = H at hP2 hS ⊢
          have hP : va_P (dC, dI) vwCl (wd_1ad0248d h0 h1 h3 x59 h1 h2 v1 x60 v3 x61 h2 g0 f5 h3 g1 fn62) H := hP2
          have hD : va_D A (wd_1ad0248d h0 h1 h3 x59 h1 h2 v1 x60 v3 x61 h2 g0 f5 h3 g1 fn62) := hD2
          clear hP2 hD2
          obtain rfl : ra58 = (1 : Int32) := pv_cs (by decide) pt0_ra58 pt1_ra58
          refine lv_if_ne (tgt := 116) hx hb dX3_readUnit_111 (by decide) (fun _ => ?_) (fun c => absurd c (by decide))
          refine lv_aload_n hx hb dX3_readUnit_116 rfl (lv_at hl 1 rfl) ?_
          refine va_get (D := (dC, dI)) (ci := 3) (v := .ref h1) (C := RX3) (T := TX3) (N := 3) hx hb hts (fun _ h => List.mem_cons_of_mem _ (List.mem_append_left _ (List.mem_append_right _ h))) hown hK hP 0 rfl rfl 0 (by decide) (hts (.fieldLink RX3 19 "LeftArguments$LawReader" "tape" "LLeftArguments$Tape;") (List.mem_cons_of_mem _ (List.mem_append_left _ (List.mem_append_left _ (List.mem_of_getElem? (i := 0) rfl))))) (fun _ h9 => h9) rfl dX3_readUnit_117 ?_
          have hPc := hP.sub (ws' := (wd_82cdd16b h1 h2 v1 x60 v3 x61 h2 g0 f5)) [1, 2] rfl
          have hDc := hD.sub (ws' := (wd_82cdd16b h1 h2 v1 x60 v3 x61 h2 g0 f5)) [1, 2] (by decide) rfl
          have hKc := hK.sub (tys' := [(g0, .int)]) [0] rfl
          have hFc := va_free (wc := (wd_82cdd16b h1 h2 v1 x60 v3 x61 h2 g0 f5)) hD hS hA [1, 2] rfl
          refine va_calli (va_runV (As := []) (rest := []) ⟨hx, hb, hml, hown, hts⟩ (k_X10_next l dC dI h1 h2 v1 x60 v3 x61 g0 f5 ⟨i_v1a, i_v1b⟩ ⟨oa_x60, ob_x60⟩ ia_f5 H.size) (cwV 0 hts g_X3_readUnit_2_0 rfl rfl rfl (by decide +kernel) ⟨Nat.le_of_ble_eq_true rfl, Nat.le_of_ble_eq_true rfl⟩) (pv_PV10 hPc hKc hDc (q0 := 0) rfl) rfl rfl hl.1 rfl (lv_room (Nat.le_of_ble_eq_true rfl)) dX3_readUnit_120 ⟨Nat.le_of_ble_eq_true rfl, Nat.le_of_ble_eq_true rfl⟩) hS (fun q _ h => hFc q h) hFc (fun ra63 u t H1 locs ht hvm hwra63 hB hz1 hk1 hS => ?_)
          try rw [hwra63] at hB
          rcases hB with hB | hB
          · skip
            obtain ⟨x64, oa_x64, ob_x64, pt0_ra63, pt1_ra63, pt2_ra63, pt3_ra63, pt4_ra63, pt5_ra63, pt6_ra63, hP1, hK1, hD1⟩ := hB
            rw [ht] at hP1
            obtain ⟨hP2, hD2⟩ := va_join (wr := (wd_b958b9da h0 h1 h3 x59 h3 g1 fn62)) (w1 := (wd_82cdd16b h1 h2 v1 x64 v3 x61 h2 g0 f5)) hP hD [1, 2] [0, 3] rfl rfl (by decide) (by decide) hk1 hFc hP1 hD1
            clear hP hD hPc hDc hKc hFc hP1 hK1 hD1 hk1 hz1
            generalize H1 = H at hP2 hS ⊢
            have hP := hP2.sub (ws' := (wd_1ad0248d h0 h1 h3 x59 h1 h2 v1 x64 v3 x61 h2 g0 f5 h3 g1 fn62)) [0, 2, 3, 1] rfl
            have hD := hD2.sub (ws' := (wd_1ad0248d h0 h1 h3 x59 h1 h2 v1 x64 v3 x61 h2 g0 f5 h3 g1 fn62)) [0, 2, 3, 1] (by decide) rfl
            clear hP2 hD2
            obtain rfl : ra63 = ((-1) : Int32) := pv_cs (by decide) pt0_ra63 pt1_ra63
            have hPc := hP.sub (ws' := []) [] rfl
            have hDc := hD.sub (ws' := []) [] (by decide) rfl
            have hKc := hK.sub (tys' := []) [] rfl
            have hFc := va_free (wc := []) hD hS hA [] rfl
            refine va_calli (va_runS (As := [.int (-1)]) (rest := []) ⟨hx, hb, hml, hown, hts⟩ (k_X3_comparing l dC dI   H.size) (va_cwS 1 hts g_X3_readUnit_2_3 rfl rfl rfl (by decide +kernel) ⟨Nat.le_of_ble_eq_true rfl, Nat.le_of_ble_eq_true rfl⟩) (pv_PS hPc hKc hDc) rfl rfl hl.1 rfl (lv_room (Nat.le_of_ble_eq_true rfl)) dX3_readUnit_123 ⟨Nat.le_of_ble_eq_true rfl, Nat.le_of_ble_eq_true rfl⟩) hS (fun q _ h => hFc q h) hFc (fun ra65 u t H1 locs ht hvm hwra65 hB hz1 hk1 hS => ?_)
            try rw [hwra65] at hB
            obtain ⟨pt0_ra65, pt1_ra65, hP1, hK1, hD1⟩ := hB
            rw [ht] at hP1
            obtain ⟨hP2, hD2⟩ := va_join (wr := (wd_1ad0248d h0 h1 h3 x59 h1 h2 v1 x64 v3 x61 h2 g0 f5 h3 g1 fn62)) (w1 := []) hP hD [] [0, 1, 2, 3] rfl rfl (by decide) (by decide) hk1 hFc hP1 hD1
            clear hP hD hPc hDc hKc hFc hP1 hK1 hD1 hk1 hz1
            generalize H1 = H at hP2 hS ⊢
            have hP : va_P (dC, dI) vwCl (wd_1ad0248d h0 h1 h3 x59 h1 h2 v1 x64 v3 x61 h2 g0 f5 h3 g1 fn62) H := hP2
            have hD : va_D A (wd_1ad0248d h0 h1 h3 x59 h1 h2 v1 x64 v3 x61 h2 g0 f5 h3 g1 fn62) := hD2
            clear hP2 hD2
            obtain rfl : ra65 = ((-1) : Int32) := pv_cs (by decide) pt0_ra65 pt1_ra65
            refine lv_istore (lv' := [(4, .int (-1)), (3, .int ra1), (0, .ref h0), (1, .int 5), (2, .int 0)]) hx hb dX3_readUnit_126 hl (by decide) rfl (fun ls hl => ?_)
            refine lv_iload hx hb dX3_readUnit_128 (lv_at hl 0 rfl) ?_
            refine lv_iconst (v := (-1)) hx hb dX3_readUnit_130 (by decide) ?_
            refine lv_icmp_ne (tgt := 142) hx hb dX3_readUnit_131 (by decide) (fun c => absurd (by decide) c) (fun _ => ?_)
            refine lv_aload_n hx hb dX3_readUnit_134 rfl (lv_at hl 2 rfl) ?_
            refine va_get (D := (dC, dI)) (ci := 3) (v := .ref h1) (C := RX3) (T := TX3) (N := 3) hx hb hts (fun _ h => List.mem_cons_of_mem _ (List.mem_append_left _ (List.mem_append_right _ h))) hown hK hP 0 rfl rfl 0 (by decide) (hts (.fieldLink RX3 19 "LeftArguments$LawReader" "tape" "LLeftArguments$Tape;") (List.mem_cons_of_mem _ (List.mem_append_left _ (List.mem_append_left _ (List.mem_of_getElem? (i := 0) rfl))))) (fun _ h9 => h9) rfl dX3_readUnit_135 ?_
            have hPc := hP.sub (ws' := (wd_09b0abee h1 h2 v1 x64 v3 x61)) [1] rfl
            have hDc := hD.sub (ws' := (wd_09b0abee h1 h2 v1 x64 v3 x61)) [1] (by decide) rfl
            have hKc := hK.sub (tys' := []) [] rfl
            have hFc := va_free (wc := (wd_09b0abee h1 h2 v1 x64 v3 x61)) hD hS hA [1] rfl
            refine va_calli (va_runV (As := []) (rest := []) ⟨hx, hb, hml, hown, hts⟩ (k_X10_wrongHere l dC dI h1 h2 v1 x64 v3 x61 ⟨i_v1a, i_v1b⟩ ⟨oa_x64, ob_x64⟩ H.size) (cwV 0 hts g_X3_readUnit_2_4 rfl rfl rfl (by decide +kernel) ⟨Nat.le_of_ble_eq_true rfl, Nat.le_of_ble_eq_true rfl⟩) (pv_PV10 hPc hKc hDc (q0 := 0) rfl) rfl rfl hl.1 rfl (lv_room (Nat.le_of_ble_eq_true rfl)) dX3_readUnit_138 ⟨Nat.le_of_ble_eq_true rfl, Nat.le_of_ble_eq_true rfl⟩) hS (fun q _ h => hFc q h) hFc (fun ra66 u t H1 locs ht hvm hwra66 hB hz1 hk1 hS => ?_)
            try rw [hwra66] at hB
            obtain ⟨x67, oa_x67, ob_x67, pt0_ra66, pt1_ra66, pt2_ra66, hP1, hK1, hD1⟩ := hB
            rw [ht] at hP1
            obtain ⟨hP2, hD2⟩ := va_join (wr := (wd_6b0d8e05 h0 h1 h3 x59 h2 g0 f5 h3 g1 fn62)) (w1 := (wd_09b0abee h1 h2 v1 x64 x67 x61)) hP hD [1] [0, 2, 3] rfl rfl (by decide) (by decide) hk1 hFc hP1 hD1
            clear hP hD hPc hDc hKc hFc hP1 hK1 hD1 hk1 hz1
            generalize H1 = H at hP2 hS ⊢
            have hP := hP2.sub (ws' := (wd_1ad0248d h0 h1 h3 x59 h1 h2 v1 x64 x67 x61 h2 g0 f5 h3 g1 fn62)) [0, 3, 1, 2] rfl
            have hD := hD2.sub (ws' := (wd_1ad0248d h0 h1 h3 x59 h1 h2 v1 x64 x67 x61 h2 g0 f5 h3 g1 fn62)) [0, 3, 1, 2] (by decide) rfl
            clear hP2 hD2
            obtain rfl : ra66 = (0 : Int32) := pv_cs (by decide) pt0_ra66 pt1_ra66
            subst hQ
            have hP9 := hP.sub (ws' := (wd_1ad0248d h0 h1 h3 x59 h1 h2 v1 x64 x67 x61 h2 g0 f5 h3 g1 fn62)) [0, 1, 2, 3] rfl
            have hD9 := hD.sub (ws' := (wd_1ad0248d h0 h1 h3 x59 h1 h2 v1 x64 x67 x61 h2 g0 f5 h3 g1 fn62)) [0, 1, 2, 3] (by decide) rfl
            have hK9 := hK.sub (tys' := []) [] rfl
            exact W.zret (v := 0) hx hb hr rfl (fun t ht hW => ⟨⟨0, 0, rfl, rfl, Or.inr (⟨x59, x64, x67, x61, fn62, oa_x59, ob_x59, oa_x64, ob_x64, oa_x67, ob_x67, by first | omega | decide, by first | omega | decide, by omega, by show pg_unitF f5 v1.toInt 1 true (pg_unit f5 v1.toInt 0) (pg_con f5 v1.toInt (pg_unit f5 v1.toInt 0)) _ = _; first | (apply pg_unitF.not <;> first | assumption | omega) | (apply pg_unitF.par1 <;> first | assumption | omega) | (apply pg_unitF.par0 <;> first | assumption | omega) | (apply pg_unitF.deep <;> first | assumption | omega) | (apply pg_unitF.sm1 <;> first | assumption | omega) | (apply pg_unitF.sm2 <;> first | assumption | omega) | (apply pg_unitF.sum0 <;> first | assumption | omega), by rw [ht]; exact hP9, va_K.moved hW.alike hK9, hD9⟩)⟩, hS.F ht⟩) hS.2.2 dX3_readUnit_141
          · skip
            obtain ⟨x68, oa_x68, ob_x68, pt0_ra63, pt1_ra63, pt2_ra63, pt3_ra63, pt4_ra63, pt5_ra63, pt6_ra63, hP1, hK1, hD1⟩ := hB
            rw [ht] at hP1
            obtain ⟨hP2, hD2⟩ := va_join (wr := (wd_b958b9da h0 h1 h3 x59 h3 g1 fn62)) (w1 := (wd_82cdd16b h1 h2 v1 x68 v3 x61 h2 g0 f5)) hP hD [1, 2] [0, 3] rfl rfl (by decide) (by decide) hk1 hFc hP1 hD1
            clear hP hD hPc hDc hKc hFc hP1 hK1 hD1 hk1 hz1
            generalize H1 = H at hP2 hS ⊢
            have hP := hP2.sub (ws' := (wd_1ad0248d h0 h1 h3 x59 h1 h2 v1 x68 v3 x61 h2 g0 f5 h3 g1 fn62)) [0, 2, 3, 1] rfl
            have hD := hD2.sub (ws' := (wd_1ad0248d h0 h1 h3 x59 h1 h2 v1 x68 v3 x61 h2 g0 f5 h3 g1 fn62)) [0, 2, 3, 1] (by decide) rfl
            clear hP2 hD2
            have hPc := hP.sub (ws' := []) [] rfl
            have hDc := hD.sub (ws' := []) [] (by decide) rfl
            have hKc := hK.sub (tys' := []) [] rfl
            have hFc := va_free (wc := []) hD hS hA [] rfl
            refine va_calli (va_runS (As := [.int ra63]) (rest := []) ⟨hx, hb, hml, hown, hts⟩ (k_X3_comparing_1 l dC dI ra63  H.size) (va_cwS 1 hts g_X3_readUnit_2_5 rfl rfl rfl (by decide +kernel) ⟨Nat.le_of_ble_eq_true rfl, Nat.le_of_ble_eq_true rfl⟩) (pv_PS hPc hKc hDc) rfl rfl hl.1 rfl (lv_room (Nat.le_of_ble_eq_true rfl)) dX3_readUnit_123 ⟨Nat.le_of_ble_eq_true rfl, Nat.le_of_ble_eq_true rfl⟩) hS (fun q _ h => hFc q h) hFc (fun ra69 u t H1 locs ht hvm hwra69 hB hz1 hk1 hS => ?_)
            try rw [hwra69] at hB
            obtain ⟨pt0_ra69, pt1_ra69, pt2_ra69, hP1, hK1, hD1⟩ := hB
            rw [ht] at hP1
            obtain ⟨hP2, hD2⟩ := va_join (wr := (wd_1ad0248d h0 h1 h3 x59 h1 h2 v1 x68 v3 x61 h2 g0 f5 h3 g1 fn62)) (w1 := []) hP hD [] [0, 1, 2, 3] rfl rfl (by decide) (by decide) hk1 hFc hP1 hD1
            clear hP hD hPc hDc hKc hFc hP1 hK1 hD1 hk1 hz1
            generalize H1 = H at hP2 hS ⊢
            have hP : va_P (dC, dI) vwCl (wd_1ad0248d h0 h1 h3 x59 h1 h2 v1 x68 v3 x61 h2 g0 f5 h3 g1 fn62) H := hP2
            have hD : va_D A (wd_1ad0248d h0 h1 h3 x59 h1 h2 v1 x68 v3 x61 h2 g0 f5 h3 g1 fn62) := hD2
            clear hP2 hD2
            refine lv_istore (lv' := [(4, .int ra69), (3, .int ra1), (0, .ref h0), (1, .int 5), (2, .int 0)]) hx hb dX3_readUnit_126 hl (by decide) rfl (fun ls hl => ?_)
            refine lv_iload hx hb dX3_readUnit_128 (lv_at hl 0 rfl) ?_
            refine lv_iconst (v := (-1)) hx hb dX3_readUnit_130 (by decide) ?_
            refine lv_icmp_ne (tgt := 142) hx hb dX3_readUnit_131 (by decide) (fun c70 => ?_) (fun c70 => ?_)
            · skip
              have fc70 : ¬ (ra69.toInt = (-1)) := fun h9 => c70 (Int32.toInt_inj.mp h9)
              refine lv_aload_n hx hb dX3_readUnit_142 rfl (lv_at hl 2 rfl) ?_
              refine va_get (D := (dC, dI)) (ci := 3) (v := .ref h1) (C := RX3) (T := TX3) (N := 3) hx hb hts (fun _ h => List.mem_cons_of_mem _ (List.mem_append_left _ (List.mem_append_right _ h))) hown hK hP 0 rfl rfl 0 (by decide) (hts (.fieldLink RX3 19 "LeftArguments$LawReader" "tape" "LLeftArguments$Tape;") (List.mem_cons_of_mem _ (List.mem_append_left _ (List.mem_append_left _ (List.mem_of_getElem? (i := 0) rfl))))) (fun _ h9 => h9) rfl dX3_readUnit_143 ?_
              have hPc := hP.sub (ws' := (wd_09b0abee h1 h2 v1 x68 v3 x61)) [1] rfl
              have hDc := hD.sub (ws' := (wd_09b0abee h1 h2 v1 x68 v3 x61)) [1] (by decide) rfl
              have hKc := hK.sub (tys' := []) [] rfl
              have hFc := va_free (wc := (wd_09b0abee h1 h2 v1 x68 v3 x61)) hD hS hA [1] rfl
              refine va_callv (va_runV (As := []) (rest := []) ⟨hx, hb, hml, hown, hts⟩ (k_X10_step l dC dI h1 h2 v1 x68 v3 x61 ⟨i_v1a, i_v1b⟩ ⟨oa_x68, ob_x68⟩ H.size) (cwV 0 hts g_X3_readUnit_2_6 rfl rfl rfl (by decide +kernel) ⟨Nat.le_of_ble_eq_true rfl, Nat.le_of_ble_eq_true rfl⟩) (pv_PV10 hPc hKc hDc (q0 := 0) rfl) rfl rfl hl.1 rfl (lv_room (Nat.le_of_ble_eq_true rfl)) dX3_readUnit_146 ⟨Nat.le_of_ble_eq_true rfl, Nat.le_of_ble_eq_true rfl⟩) hS (fun q _ h => hFc q h) hFc (fun u t H1 locs ht hvm hwra71 hB hz1 hk1 hS => ?_)
              obtain ⟨x72, oa_x72, ob_x72, pt0_ra71, hP1, hK1, hD1⟩ := hB
              rw [ht] at hP1
              obtain ⟨hP2, hD2⟩ := va_join (wr := (wd_6b0d8e05 h0 h1 h3 x59 h2 g0 f5 h3 g1 fn62)) (w1 := (wd_09b0abee h1 h2 v1 x72 v3 x61)) hP hD [1] [0, 2, 3] rfl rfl (by decide) (by decide) hk1 hFc hP1 hD1
              clear hP hD hPc hDc hKc hFc hP1 hK1 hD1 hk1 hz1
              generalize H1 = H at hP2 hS ⊢
              have hP := hP2.sub (ws' := (wd_1ad0248d h0 h1 h3 x59 h1 h2 v1 x72 v3 x61 h2 g0 f5 h3 g1 fn62)) [0, 3, 1, 2] rfl
              have hD := hD2.sub (ws' := (wd_1ad0248d h0 h1 h3 x59 h1 h2 v1 x72 v3 x61 h2 g0 f5 h3 g1 fn62)) [0, 3, 1, 2] (by decide) rfl
              clear hP2 hD2
              refine lv_aload_n hx hb dX3_readUnit_149 rfl (lv_at hl 2 rfl) ?_
              refine lv_iload_n hx hb dX3_readUnit_150 rfl (lv_at hl 3 rfl) ?_
              have hPc := hP.sub (ws' := (wd_1ad0248d h0 h1 h3 x59 h1 h2 v1 x72 v3 x61 h2 g0 f5 h3 g1 fn62)) [0, 1, 2, 3] rfl
              have hDc := hD.sub (ws' := (wd_1ad0248d h0 h1 h3 x59 h1 h2 v1 x72 v3 x61 h2 g0 f5 h3 g1 fn62)) [0, 1, 2, 3] (by decide) rfl
              have hKc := hK.sub (tys' := [(g0, .int), (g1, .int)]) [0, 1] rfl
              have hFc := va_free (wc := (wd_1ad0248d h0 h1 h3 x59 h1 h2 v1 x72 v3 x61 h2 g0 f5 h3 g1 fn62)) hD hS hA [0, 1, 2, 3] rfl
              refine va_calli (va_runV (As := [.int 5]) (rest := []) ⟨hx, hb, hml, hown, hts⟩ (k_X3_readSum_1 l dC dI adK adV h0 h1 h2 h3 x59 v1 x72 v3 x61 g0 f5 g1 fn62 ⟨oa_x59, ob_x59⟩ ⟨i_v1a, i_v1b⟩ ⟨by first | omega | decide, ob_x72⟩ ia_f5 H.size) (cwV 1 hts g_X3_readUnit_2_1 rfl rfl rfl (by decide +kernel) ⟨Nat.le_of_ble_eq_true rfl, Nat.le_of_ble_eq_true rfl⟩) ⟨fun a U g mk q => by obtain ⟨q0, q1, qP, qK, qD, n0, n1, n2⟩ := q; exact ⟨q0, q1, qP, va_K.moved (u := U) (U := U.calling g mk a) (Vm.Alike.refl U.vm) qK, qD, vk_R.same rfl n0, va_Z.moved (Vm.Alike.refl _) n1, vk_S.moved (Vm.Alike.refl _) n2⟩, pv_rc3 hKc hPc (q0 := 0) rfl, fun U hU hW => ⟨rfl, by rw [hU], by rw [hU]; exact hPc, va_K.moved hW.alike hKc, hDc.weaken (fun _ _ _ _ => trivial), vk_R.warm hW h_vr_2, (by rw [hU]; exact (va_Z.moved hW.alike (va_Z.kept h_st_CS hS.2.1)).narrow hFc), (by rw [hU]; exact (vk_S.moved hW.alike (vk_S.kept h_st_S hS.2.1)).narrow hFc)⟩⟩ rfl rfl hl.1 rfl (lv_room (Nat.le_of_ble_eq_true rfl)) dX3_readUnit_151 ⟨Nat.le_of_ble_eq_true rfl, Nat.le_of_ble_eq_true rfl⟩) hS (fun q _ h => hFc q h) hFc (fun ra73 u t H1 locs ht hvm hwra73 hB hz1 hk1 hS => ?_)
              try rw [hwra73] at hB
              rcases hB with hB | hB
              · skip
                obtain ⟨x74, x75, x76, fn77, oa_x74, ob_x74, oa_x75, ob_x75, pt0_ra73, pt1_ra73, pt2_ra73, pt3_ra73, hP1, hK1, hD1⟩ := hB
                rw [ht] at hP1
                obtain ⟨hP2, hD2⟩ := va_join (wr := []) (w1 := (wd_1ad0248d h0 h1 h3 x74 h1 h2 v1 x75 v3 x76 h2 g0 f5 h3 g1 fn77)) hP hD [0, 1, 2, 3] [] rfl rfl (by decide) (by decide) hk1 hFc hP1 hD1
                clear hP hD hPc hDc hKc hFc hP1 hK1 hD1 hk1 hz1
                generalize H1 = H at hP2 hS ⊢
                have hP : va_P (dC, dI) vwCl (wd_1ad0248d h0 h1 h3 x74 h1 h2 v1 x75 v3 x76 h2 g0 f5 h3 g1 fn77) H := hP2
                have hD : va_D A (wd_1ad0248d h0 h1 h3 x74 h1 h2 v1 x75 v3 x76 h2 g0 f5 h3 g1 fn77) := hD2
                clear hP2 hD2
                obtain rfl : ra73 = (1 : Int32) := pv_cs (by decide) pt0_ra73 pt1_ra73
                refine lv_if_ne (tgt := 159) hx hb dX3_readUnit_154 (by decide) (fun _ => ?_) (fun c => absurd c (by decide))
                refine lv_aload_n hx hb dX3_readUnit_159 rfl (lv_at hl 2 rfl) ?_
                refine lv_iload hx hb dX3_readUnit_160 (lv_at hl 0 rfl) ?_
                refine lv_iconst (v := 0) hx hb dX3_readUnit_162 (by decide) ?_
                have hPc := hP.sub (ws' := (wd_b958b9da h0 h1 h3 x74 h3 g1 fn77)) [0, 3] rfl
                have hDc := hD.sub (ws' := (wd_b958b9da h0 h1 h3 x74 h3 g1 fn77)) [0, 3] (by decide) rfl
                have hKc := hK.sub (tys' := [(g1, .int)]) [1] rfl
                have hFc := va_free (wc := (wd_b958b9da h0 h1 h3 x74 h3 g1 fn77)) hD hS hA [0, 3] rfl
                refine va_callv (va_runV (As := [.int ra69, .int 0]) (rest := []) ⟨hx, hb, hml, hown, hts⟩ (k_X3_write l dC dI h0 h3 h1 x74 g1 fn77 ra69 0 ⟨oa_x74, ob_x74⟩ H.size) (cwV 2 hts g_X3_readUnit_2_8 rfl rfl rfl (by decide +kernel) ⟨Nat.le_of_ble_eq_true rfl, Nat.le_of_ble_eq_true rfl⟩) (pv_PV3 hPc hKc hDc (q0 := 0) rfl) rfl rfl hl.1 rfl (lv_room (Nat.le_of_ble_eq_true rfl)) dX3_readUnit_163 ⟨Nat.le_of_ble_eq_true rfl, Nat.le_of_ble_eq_true rfl⟩) hS (fun q _ h => hFc q h) hFc (fun u t H1 locs ht hvm hwra78 hB hz1 hk1 hS => ?_)
                obtain ⟨x79, fn80, oa_x79, ob_x79, hP1, hK1, hD1⟩ := hB
                rw [ht] at hP1
                obtain ⟨hP2, hD2⟩ := va_join (wr := (wd_82cdd16b h1 h2 v1 x75 v3 x76 h2 g0 f5)) (w1 := (wd_b958b9da h0 h1 h3 x79 h3 g1 fn80)) hP hD [0, 3] [1, 2] rfl rfl (by decide) (by decide) hk1 hFc hP1 hD1
                clear hP hD hPc hDc hKc hFc hP1 hK1 hD1 hk1 hz1
                generalize H1 = H at hP2 hS ⊢
                have hP := hP2.sub (ws' := (wd_1ad0248d h0 h1 h3 x79 h1 h2 v1 x75 v3 x76 h2 g0 f5 h3 g1 fn80)) [2, 0, 1, 3] rfl
                have hD := hD2.sub (ws' := (wd_1ad0248d h0 h1 h3 x79 h1 h2 v1 x75 v3 x76 h2 g0 f5 h3 g1 fn80)) [2, 0, 1, 3] (by decide) rfl
                clear hP2 hD2
                refine lv_iconst (v := 1) hx hb dX3_readUnit_166 (by decide) ?_
                subst hQ
                have hP9 := hP.sub (ws' := (wd_1ad0248d h0 h1 h3 x79 h1 h2 v1 x75 v3 x76 h2 g0 f5 h3 g1 fn80)) [0, 1, 2, 3] rfl
                have hD9 := hD.sub (ws' := (wd_1ad0248d h0 h1 h3 x79 h1 h2 v1 x75 v3 x76 h2 g0 f5 h3 g1 fn80)) [0, 1, 2, 3] (by decide) rfl
                have hK9 := hK.sub (tys' := []) [] rfl
                exact W.zret (v := 1) hx hb hr rfl (fun t ht hW => ⟨⟨1, 1, rfl, rfl, Or.inl ⟨x79, x75, x76, fn80, oa_x79, ob_x79, oa_x75, ob_x75, by first | omega | decide, by first | omega | decide, by omega, by show pg_unitF f5 v1.toInt 1 true (pg_unit f5 v1.toInt 0) (pg_con f5 v1.toInt (pg_unit f5 v1.toInt 0)) _ = _; first | (apply pg_unitF.not <;> first | assumption | omega) | (apply pg_unitF.par1 <;> first | assumption | omega) | (apply pg_unitF.par0 <;> first | assumption | omega) | (apply pg_unitF.deep <;> first | assumption | omega) | (apply pg_unitF.sm1 <;> first | assumption | omega) | (apply pg_unitF.sm2 <;> first | assumption | omega) | (apply pg_unitF.sum0 <;> first | assumption | omega), by rw [ht]; exact hP9, va_K.moved hW.alike hK9, hD9⟩⟩, hS.F ht⟩) hS.2.2 dX3_readUnit_167
              · skip
                obtain ⟨x81, x82, x83, x84, fn85, oa_x81, ob_x81, oa_x82, ob_x82, oa_x83, ob_x83, pt0_ra73, pt1_ra73, pt2_ra73, pt3_ra73, hP1, hK1, hD1⟩ := hB
                rw [ht] at hP1
                obtain ⟨hP2, hD2⟩ := va_join (wr := []) (w1 := (wd_1ad0248d h0 h1 h3 x81 h1 h2 v1 x82 x83 x84 h2 g0 f5 h3 g1 fn85)) hP hD [0, 1, 2, 3] [] rfl rfl (by decide) (by decide) hk1 hFc hP1 hD1
                clear hP hD hPc hDc hKc hFc hP1 hK1 hD1 hk1 hz1
                generalize H1 = H at hP2 hS ⊢
                have hP : va_P (dC, dI) vwCl (wd_1ad0248d h0 h1 h3 x81 h1 h2 v1 x82 x83 x84 h2 g0 f5 h3 g1 fn85) H := hP2
                have hD : va_D A (wd_1ad0248d h0 h1 h3 x81 h1 h2 v1 x82 x83 x84 h2 g0 f5 h3 g1 fn85) := hD2
                clear hP2 hD2
                obtain rfl : ra73 = (0 : Int32) := pv_cs (by decide) pt0_ra73 pt1_ra73
                refine lv_if_ne (tgt := 159) hx hb dX3_readUnit_154 (by decide) (fun c => absurd (by decide) c) (fun _ => ?_)
                refine lv_iconst (v := 0) hx hb dX3_readUnit_157 (by decide) ?_
                subst hQ
                have hP9 := hP.sub (ws' := (wd_1ad0248d h0 h1 h3 x81 h1 h2 v1 x82 x83 x84 h2 g0 f5 h3 g1 fn85)) [0, 1, 2, 3] rfl
                have hD9 := hD.sub (ws' := (wd_1ad0248d h0 h1 h3 x81 h1 h2 v1 x82 x83 x84 h2 g0 f5 h3 g1 fn85)) [0, 1, 2, 3] (by decide) rfl
                have hK9 := hK.sub (tys' := []) [] rfl
                exact W.zret (v := 0) hx hb hr rfl (fun t ht hW => ⟨⟨0, 0, rfl, rfl, Or.inr (⟨x81, x82, x83, x84, fn85, oa_x81, ob_x81, oa_x82, ob_x82, oa_x83, ob_x83, by first | omega | decide, by first | omega | decide, by omega, by show pg_unitF f5 v1.toInt 1 true (pg_unit f5 v1.toInt 0) (pg_con f5 v1.toInt (pg_unit f5 v1.toInt 0)) _ = _; first | (apply pg_unitF.not <;> first | assumption | omega) | (apply pg_unitF.par1 <;> first | assumption | omega) | (apply pg_unitF.par0 <;> first | assumption | omega) | (apply pg_unitF.deep <;> first | assumption | omega) | (apply pg_unitF.sm1 <;> first | assumption | omega) | (apply pg_unitF.sm2 <;> first | assumption | omega) | (apply pg_unitF.sum0 <;> first | assumption | omega), by rw [ht]; exact hP9, va_K.moved hW.alike hK9, hD9⟩)⟩, hS.F ht⟩) hS.2.2 dX3_readUnit_158
            · skip
              have fc70 : ra69.toInt = (-1) := congrArg Int32.toInt c70
              refine lv_aload_n hx hb dX3_readUnit_134 rfl (lv_at hl 2 rfl) ?_
              refine va_get (D := (dC, dI)) (ci := 3) (v := .ref h1) (C := RX3) (T := TX3) (N := 3) hx hb hts (fun _ h => List.mem_cons_of_mem _ (List.mem_append_left _ (List.mem_append_right _ h))) hown hK hP 0 rfl rfl 0 (by decide) (hts (.fieldLink RX3 19 "LeftArguments$LawReader" "tape" "LLeftArguments$Tape;") (List.mem_cons_of_mem _ (List.mem_append_left _ (List.mem_append_left _ (List.mem_of_getElem? (i := 0) rfl))))) (fun _ h9 => h9) rfl dX3_readUnit_135 ?_
              have hPc := hP.sub (ws' := (wd_09b0abee h1 h2 v1 x68 v3 x61)) [1] rfl
              have hDc := hD.sub (ws' := (wd_09b0abee h1 h2 v1 x68 v3 x61)) [1] (by decide) rfl
              have hKc := hK.sub (tys' := []) [] rfl
              have hFc := va_free (wc := (wd_09b0abee h1 h2 v1 x68 v3 x61)) hD hS hA [1] rfl
              refine va_calli (va_runV (As := []) (rest := []) ⟨hx, hb, hml, hown, hts⟩ (k_X10_wrongHere l dC dI h1 h2 v1 x68 v3 x61 ⟨i_v1a, i_v1b⟩ ⟨oa_x68, by first | omega | decide⟩ H.size) (cwV 0 hts g_X3_readUnit_2_4 rfl rfl rfl (by decide +kernel) ⟨Nat.le_of_ble_eq_true rfl, Nat.le_of_ble_eq_true rfl⟩) (pv_PV10 hPc hKc hDc (q0 := 0) rfl) rfl rfl hl.1 rfl (lv_room (Nat.le_of_ble_eq_true rfl)) dX3_readUnit_138 ⟨Nat.le_of_ble_eq_true rfl, Nat.le_of_ble_eq_true rfl⟩) hS (fun q _ h => hFc q h) hFc (fun ra86 u t H1 locs ht hvm hwra86 hB hz1 hk1 hS => ?_)
              try rw [hwra86] at hB
              obtain ⟨x87, oa_x87, ob_x87, pt0_ra86, pt1_ra86, pt2_ra86, hP1, hK1, hD1⟩ := hB
              rw [ht] at hP1
              obtain ⟨hP2, hD2⟩ := va_join (wr := (wd_6b0d8e05 h0 h1 h3 x59 h2 g0 f5 h3 g1 fn62)) (w1 := (wd_09b0abee h1 h2 v1 x68 x87 x61)) hP hD [1] [0, 2, 3] rfl rfl (by decide) (by decide) hk1 hFc hP1 hD1
              clear hP hD hPc hDc hKc hFc hP1 hK1 hD1 hk1 hz1
              generalize H1 = H at hP2 hS ⊢
              have hP := hP2.sub (ws' := (wd_1ad0248d h0 h1 h3 x59 h1 h2 v1 x68 x87 x61 h2 g0 f5 h3 g1 fn62)) [0, 3, 1, 2] rfl
              have hD := hD2.sub (ws' := (wd_1ad0248d h0 h1 h3 x59 h1 h2 v1 x68 x87 x61 h2 g0 f5 h3 g1 fn62)) [0, 3, 1, 2] (by decide) rfl
              clear hP2 hD2
              obtain rfl : ra86 = (0 : Int32) := pv_cs (by decide) pt0_ra86 pt1_ra86
              subst hQ
              have hP9 := hP.sub (ws' := (wd_1ad0248d h0 h1 h3 x59 h1 h2 v1 x68 x87 x61 h2 g0 f5 h3 g1 fn62)) [0, 1, 2, 3] rfl
              have hD9 := hD.sub (ws' := (wd_1ad0248d h0 h1 h3 x59 h1 h2 v1 x68 x87 x61 h2 g0 f5 h3 g1 fn62)) [0, 1, 2, 3] (by decide) rfl
              have hK9 := hK.sub (tys' := []) [] rfl
              exact W.zret (v := 0) hx hb hr rfl (fun t ht hW => ⟨⟨0, 0, rfl, rfl, Or.inr (⟨x59, x68, x87, x61, fn62, oa_x59, ob_x59, oa_x68, by first | omega | decide, oa_x87, ob_x87, by first | omega | decide, by first | omega | decide, by omega, by show pg_unitF f5 v1.toInt 1 true (pg_unit f5 v1.toInt 0) (pg_con f5 v1.toInt (pg_unit f5 v1.toInt 0)) _ = _; first | (apply pg_unitF.not <;> first | assumption | omega) | (apply pg_unitF.par1 <;> first | assumption | omega) | (apply pg_unitF.par0 <;> first | assumption | omega) | (apply pg_unitF.deep <;> first | assumption | omega) | (apply pg_unitF.sm1 <;> first | assumption | omega) | (apply pg_unitF.sm2 <;> first | assumption | omega) | (apply pg_unitF.sum0 <;> first | assumption | omega), by rw [ht]; exact hP9, va_K.moved hW.alike hK9, hD9⟩)⟩, hS.F ht⟩) hS.2.2 dX3_readUnit_141
        · skip
          obtain ⟨x88, x89, x90, x91, fn92, oa_x88, ob_x88, oa_x89, ob_x89, oa_x90, ob_x90, pt0_ra58, pt1_ra58, pt2_ra58, pt3_ra58, hP1, hK1, hD1⟩ := hB
          rw [ht] at hP1
          obtain ⟨hP2, hD2⟩ := va_join (wr := []) (w1 := (wd_1ad0248d h0 h1 h3 x88 h1 h2 v1 x89 x90 x91 h2 g0 f5 h3 g1 fn92)) hP hD [0, 1, 2, 3] [] rfl rfl (by decide) (by decide) hk1 hFc hP1 hD1
          clear hP hD hPc hDc hKc hFc hP1 hK1 hD1 hk1 hz1
          generalize H1 = H at hP2 hS ⊢
          have hP : va_P (dC, dI) vwCl (wd_1ad0248d h0 h1 h3 x88 h1 h2 v1 x89 x90 x91 h2 g0 f5 h3 g1 fn92) H := hP2
          have hD : va_D A (wd_1ad0248d h0 h1 h3 x88 h1 h2 v1 x89 x90 x91 h2 g0 f5 h3 g1 fn92) := hD2
          clear hP2 hD2
          obtain rfl : ra58 = (0 : Int32) := pv_cs (by decide) pt0_ra58 pt1_ra58
          refine lv_if_ne (tgt := 116) hx hb dX3_readUnit_111 (by decide) (fun c => absurd (by decide) c) (fun _ => ?_)
          refine lv_iconst (v := 0) hx hb dX3_readUnit_114 (by decide) ?_
          subst hQ
          have hP9 := hP.sub (ws' := (wd_1ad0248d h0 h1 h3 x88 h1 h2 v1 x89 x90 x91 h2 g0 f5 h3 g1 fn92)) [0, 1, 2, 3] rfl
          have hD9 := hD.sub (ws' := (wd_1ad0248d h0 h1 h3 x88 h1 h2 v1 x89 x90 x91 h2 g0 f5 h3 g1 fn92)) [0, 1, 2, 3] (by decide) rfl
          have hK9 := hK.sub (tys' := []) [] rfl
          exact W.zret (v := 0) hx hb hr rfl (fun t ht hW => ⟨⟨0, 0, rfl, rfl, Or.inr (⟨x88, x89, x90, x91, fn92, oa_x88, ob_x88, oa_x89, ob_x89, oa_x90, ob_x90, by first | omega | decide, by first | omega | decide, by omega, by show pg_unitF f5 v1.toInt 1 true (pg_unit f5 v1.toInt 0) (pg_con f5 v1.toInt (pg_unit f5 v1.toInt 0)) _ = _; first | (apply pg_unitF.not <;> first | assumption | omega) | (apply pg_unitF.par1 <;> first | assumption | omega) | (apply pg_unitF.par0 <;> first | assumption | omega) | (apply pg_unitF.deep <;> first | assumption | omega) | (apply pg_unitF.sm1 <;> first | assumption | omega) | (apply pg_unitF.sm2 <;> first | assumption | omega) | (apply pg_unitF.sum0 <;> first | assumption | omega), by rw [ht]; exact hP9, va_K.moved hW.alike hK9, hD9⟩)⟩, hS.F ht⟩) hS.2.2 dX3_readUnit_115
      · skip
        have fc57 : ra1.toInt = 40 := congrArg Int32.toInt c57
        refine lv_iload_n hx hb dX3_readUnit_24 rfl (lv_at hl 2 rfl) ?_
        refine lv_bipush (v := 6) hx hb dX3_readUnit_25 (by decide) ?_
        refine lv_icmp_lt (tgt := 38) hx hb dX3_readUnit_27 (by decide) (fun _ => ?_) (fun c => absurd (by decide) c)
        refine lv_aload_n hx hb dX3_readUnit_38 rfl (lv_at hl 1 rfl) ?_
        refine va_get (D := (dC, dI)) (ci := 3) (v := .ref h1) (C := RX3) (T := TX3) (N := 3) hx hb hts (fun _ h => List.mem_cons_of_mem _ (List.mem_append_left _ (List.mem_append_right _ h))) hown hK hP 0 rfl rfl 0 (by decide) (hts (.fieldLink RX3 19 "LeftArguments$LawReader" "tape" "LLeftArguments$Tape;") (List.mem_cons_of_mem _ (List.mem_append_left _ (List.mem_append_left _ (List.mem_of_getElem? (i := 0) rfl))))) (fun _ h9 => h9) rfl dX3_readUnit_39 ?_
        have hPc := hP.sub (ws' := (wd_09b0abee h1 h2 v1 x38 v3 v4)) [1] rfl
        have hDc := hD.sub (ws' := (wd_09b0abee h1 h2 v1 x38 v3 v4)) [1] (by decide) rfl
        have hKc := hK.sub (tys' := []) [] rfl
        have hFc := va_free (wc := (wd_09b0abee h1 h2 v1 x38 v3 v4)) hD hS hA [1] rfl
        refine va_callv (va_runV (As := []) (rest := []) ⟨hx, hb, hml, hown, hts⟩ (k_X10_step l dC dI h1 h2 v1 x38 v3 v4 ⟨i_v1a, i_v1b⟩ ⟨oa_x38, ob_x38⟩ H.size) (cwV 0 hts g_X3_readUnit_2_6 rfl rfl rfl (by decide +kernel) ⟨Nat.le_of_ble_eq_true rfl, Nat.le_of_ble_eq_true rfl⟩) (pv_PV10 hPc hKc hDc (q0 := 0) rfl) rfl rfl hl.1 rfl (lv_room (Nat.le_of_ble_eq_true rfl)) dX3_readUnit_42 ⟨Nat.le_of_ble_eq_true rfl, Nat.le_of_ble_eq_true rfl⟩) hS (fun q _ h => hFc q h) hFc (fun u t H1 locs ht hvm hwra93 hB hz1 hk1 hS => ?_)
        obtain ⟨x94, oa_x94, ob_x94, pt0_ra93, hP1, hK1, hD1⟩ := hB
        rw [ht] at hP1
        obtain ⟨hP2, hD2⟩ := va_join (wr := (wd_6b0d8e05 h0 h1 h3 v0 h2 g0 f5 h3 g1 f6)) (w1 := (wd_09b0abee h1 h2 v1 x94 v3 v4)) hP hD [1] [0, 2, 3] rfl rfl (by decide) (by decide) hk1 hFc hP1 hD1
        clear hP hD hPc hDc hKc hFc hP1 hK1 hD1 hk1 hz1
        generalize H1 = H at hP2 hS ⊢
        have hP := hP2.sub (ws' := (wd_1ad0248d h0 h1 h3 v0 h1 h2 v1 x94 v3 v4 h2 g0 f5 h3 g1 f6)) [0, 3, 1, 2] rfl
        have hD := hD2.sub (ws' := (wd_1ad0248d h0 h1 h3 v0 h1 h2 v1 x94 v3 v4 h2 g0 f5 h3 g1 f6)) [0, 3, 1, 2] (by decide) rfl
        clear hP2 hD2
        refine lv_iload_n hx hb dX3_readUnit_45 rfl (lv_at hl 0 rfl) ?_
        refine lv_bipush (v := 40) hx hb dX3_readUnit_46 (by decide) ?_
        refine lv_icmp_ne (tgt := 80) hx hb dX3_readUnit_48 (by decide) (fun c95 => by exfalso; have fc95 : ¬ (ra1.toInt = 40) := fun h9 => c95 (Int32.toInt_inj.mp h9); omega) (fun _ => ?_)
        refine lv_aload_n hx hb dX3_readUnit_51 rfl (lv_at hl 1 rfl) ?_
        refine lv_iload_n hx hb dX3_readUnit_52 rfl (lv_at hl 2 rfl) ?_
        refine lv_iconst (v := 1) hx hb dX3_readUnit_53 (by decide) ?_
        refine lv_iadd hx hb dX3_readUnit_54 ?_
        refine lv_topi (fun tv96 etv96 => ?_)
        obtain rfl : tv96 = (6 : Int32) := etv96.trans (by first | rfl | decide)
        refine lv_iconst (v := 0) hx hb dX3_readUnit_55 (by decide) ?_
        have hPc := hP.sub (ws' := (wd_1ad0248d h0 h1 h3 v0 h1 h2 v1 x94 v3 v4 h2 g0 f5 h3 g1 f6)) [0, 1, 2, 3] rfl
        have hDc := hD.sub (ws' := (wd_1ad0248d h0 h1 h3 v0 h1 h2 v1 x94 v3 v4 h2 g0 f5 h3 g1 f6)) [0, 1, 2, 3] (by decide) rfl
        have hKc := hK.sub (tys' := [(g0, .int), (g1, .int)]) [0, 1] rfl
        have hFc := va_free (wc := (wd_1ad0248d h0 h1 h3 v0 h1 h2 v1 x94 v3 v4 h2 g0 f5 h3 g1 f6)) hD hS hA [0, 1, 2, 3] rfl
        refine va_calli (va_runV (As := [.int 6, .int 0]) (rest := []) ⟨hx, hb, hml, hown, hts⟩ (k_X3_readCondition l dC dI adK adV h0 h1 h2 h3 v0 v1 x94 v3 v4 g0 f5 g1 f6 ⟨i_v0a, i_v0b⟩ ⟨i_v1a, i_v1b⟩ ⟨by first | omega | decide, ob_x94⟩ ia_f5 H.size) (cwV 2 hts g_X3_readUnit_2_23 rfl rfl rfl (by decide +kernel) ⟨Nat.le_of_ble_eq_true rfl, Nat.le_of_ble_eq_true rfl⟩) ⟨fun a U g mk q => by obtain ⟨q0, q1, qP, qK, qD, n0, n1, n2⟩ := q; exact ⟨q0, q1, qP, va_K.moved (u := U) (U := U.calling g mk a) (Vm.Alike.refl U.vm) qK, qD, vk_R.same rfl n0, va_Z.moved (Vm.Alike.refl _) n1, vk_S.moved (Vm.Alike.refl _) n2⟩, pv_rc3 hKc hPc (q0 := 0) rfl, fun U hU hW => ⟨rfl, by rw [hU], by rw [hU]; exact hPc, va_K.moved hW.alike hKc, hDc.weaken (fun _ _ _ _ => trivial), vk_R.warm hW h_vr_2, (by rw [hU]; exact (va_Z.moved hW.alike (va_Z.kept h_st_CS hS.2.1)).narrow hFc), (by rw [hU]; exact (vk_S.moved hW.alike (vk_S.kept h_st_S hS.2.1)).narrow hFc)⟩⟩ rfl rfl hl.1 rfl (lv_room (Nat.le_of_ble_eq_true rfl)) dX3_readUnit_56 ⟨Nat.le_of_ble_eq_true rfl, Nat.le_of_ble_eq_true rfl⟩) hS (fun q _ h => hFc q h) hFc (fun ra97 u t H1 locs ht hvm hwra97 hB hz1 hk1 hS => ?_)
        try rw [hwra97] at hB
        rcases hB with hB | hB
        · skip
          obtain ⟨x98, x99, x100, fn101, oa_x98, ob_x98, oa_x99, ob_x99, pt0_ra97, pt1_ra97, pt2_ra97, pt3_ra97, hP1, hK1, hD1⟩ := hB
          rw [ht] at hP1
          obtain ⟨hP2, hD2⟩ := va_join (wr := []) (w1 := (wd_1ad0248d h0 h1 h3 x98 h1 h2 v1 x99 v3 x100 h2 g0 f5 h3 g1 fn101)) hP hD [0, 1, 2, 3] [] rfl rfl (by decide) (by decide) hk1 hFc hP1 hD1
          clear hP hD hPc hDc hKc hFc hP1 hK1 hD1 hk1 hz1
          generalize H1 = H at hP2 hS ⊢
          have hP : va_P (dC, dI) vwCl (wd_1ad0248d h0 h1 h3 x98 h1 h2 v1 x99 v3 x100 h2 g0 f5 h3 g1 fn101) H := hP2
          have hD : va_D A (wd_1ad0248d h0 h1 h3 x98 h1 h2 v1 x99 v3 x100 h2 g0 f5 h3 g1 fn101) := hD2
          clear hP2 hD2
          obtain rfl : ra97 = (1 : Int32) := pv_cs (by decide) pt0_ra97 pt1_ra97
          refine lv_if_eq (tgt := 78) hx hb dX3_readUnit_59 (by decide) (fun c => absurd c (by decide)) (fun _ => ?_)
          refine lv_aload_n hx hb dX3_readUnit_62 rfl (lv_at hl 1 rfl) ?_
          refine va_get (D := (dC, dI)) (ci := 3) (v := .ref h1) (C := RX3) (T := TX3) (N := 3) hx hb hts (fun _ h => List.mem_cons_of_mem _ (List.mem_append_left _ (List.mem_append_right _ h))) hown hK hP 0 rfl rfl 0 (by decide) (hts (.fieldLink RX3 19 "LeftArguments$LawReader" "tape" "LLeftArguments$Tape;") (List.mem_cons_of_mem _ (List.mem_append_left _ (List.mem_append_left _ (List.mem_of_getElem? (i := 0) rfl))))) (fun _ h9 => h9) rfl dX3_readUnit_63 ?_
          refine lv_bipush (v := 41) hx hb dX3_readUnit_66 (by decide) ?_
          have hPc := hP.sub (ws' := (wd_82cdd16b h1 h2 v1 x99 v3 x100 h2 g0 f5)) [1, 2] rfl
          have hDc := hD.sub (ws' := (wd_82cdd16b h1 h2 v1 x99 v3 x100 h2 g0 f5)) [1, 2] (by decide) rfl
          have hKc := hK.sub (tys' := [(g0, .int)]) [0] rfl
          have hFc := va_free (wc := (wd_82cdd16b h1 h2 v1 x99 v3 x100 h2 g0 f5)) hD hS hA [1, 2] rfl
          refine va_calli (va_runV (As := [.int 41]) (rest := []) ⟨hx, hb, hml, hown, hts⟩ (k_X10_take_3 l dC dI h1 h2 v1 x99 v3 x100 g0 f5 ⟨i_v1a, i_v1b⟩ ⟨oa_x99, ob_x99⟩ ia_f5 H.size) (cwV 1 hts g_X3_readUnit_2_24 rfl rfl rfl (by decide +kernel) ⟨Nat.le_of_ble_eq_true rfl, Nat.le_of_ble_eq_true rfl⟩) (pv_PV10 hPc hKc hDc (q0 := 0) rfl) rfl rfl hl.1 rfl (lv_room (Nat.le_of_ble_eq_true rfl)) dX3_readUnit_68 ⟨Nat.le_of_ble_eq_true rfl, Nat.le_of_ble_eq_true rfl⟩) hS (fun q _ h => hFc q h) hFc (fun ra102 u t H1 locs ht hvm hwra102 hB hz1 hk1 hS => ?_)
          try rw [hwra102] at hB
          rcases hB with hB | hB
          · skip
            obtain ⟨x103, oa_x103, ob_x103, pt0_ra102, pt1_ra102, pt2_ra102, pt3_ra102, hP1, hK1, hD1⟩ := hB
            rw [ht] at hP1
            obtain ⟨hP2, hD2⟩ := va_join (wr := (wd_b958b9da h0 h1 h3 x98 h3 g1 fn101)) (w1 := (wd_82cdd16b h1 h2 v1 x103 v3 x100 h2 g0 f5)) hP hD [1, 2] [0, 3] rfl rfl (by decide) (by decide) hk1 hFc hP1 hD1
            clear hP hD hPc hDc hKc hFc hP1 hK1 hD1 hk1 hz1
            generalize H1 = H at hP2 hS ⊢
            have hP := hP2.sub (ws' := (wd_1ad0248d h0 h1 h3 x98 h1 h2 v1 x103 v3 x100 h2 g0 f5 h3 g1 fn101)) [0, 2, 3, 1] rfl
            have hD := hD2.sub (ws' := (wd_1ad0248d h0 h1 h3 x98 h1 h2 v1 x103 v3 x100 h2 g0 f5 h3 g1 fn101)) [0, 2, 3, 1] (by decide) rfl
            clear hP2 hD2
            obtain rfl : ra102 = (1 : Int32) := pv_cs (by decide) pt0_ra102 pt1_ra102
            refine lv_if_eq (tgt := 78) hx hb dX3_readUnit_71 (by decide) (fun c => absurd c (by decide)) (fun _ => ?_)
            refine lv_iconst (v := 1) hx hb dX3_readUnit_74 (by decide) ?_
            refine lv_goto (tgt := 79) hx hb dX3_readUnit_75 (by decide) ?_
            subst hQ
            have hP9 := hP.sub (ws' := (wd_1ad0248d h0 h1 h3 x98 h1 h2 v1 x103 v3 x100 h2 g0 f5 h3 g1 fn101)) [0, 1, 2, 3] rfl
            have hD9 := hD.sub (ws' := (wd_1ad0248d h0 h1 h3 x98 h1 h2 v1 x103 v3 x100 h2 g0 f5 h3 g1 fn101)) [0, 1, 2, 3] (by decide) rfl
            have hK9 := hK.sub (tys' := []) [] rfl
            exact W.zret (v := 1) hx hb hr rfl (fun t ht hW => ⟨⟨1, 1, rfl, rfl, Or.inl ⟨x98, x103, x100, fn101, oa_x98, ob_x98, by first | omega | decide, ob_x103, by first | omega | decide, by first | omega | decide, by omega, by show pg_unitF f5 v1.toInt 1 true (pg_unit f5 v1.toInt 0) (pg_con f5 v1.toInt (pg_unit f5 v1.toInt 0)) _ = _; first | (apply pg_unitF.not <;> first | assumption | omega) | (apply pg_unitF.par1 <;> first | assumption | omega) | (apply pg_unitF.par0 <;> first | assumption | omega) | (apply pg_unitF.deep <;> first | assumption | omega) | (apply pg_unitF.sm1 <;> first | assumption | omega) | (apply pg_unitF.sm2 <;> first | assumption | omega) | (apply pg_unitF.sum0 <;> first | assumption | omega), by rw [ht]; exact hP9, va_K.moved hW.alike hK9, hD9⟩⟩, hS.F ht⟩) hS.2.2 dX3_readUnit_79
          · skip
            obtain ⟨x104, x105, oa_x104, ob_x104, oa_x105, ob_x105, pt0_ra102, pt1_ra102, pt2_ra102, pt3_ra102, hP1, hK1, hD1⟩ := hB
            rw [ht] at hP1
            obtain ⟨hP2, hD2⟩ := va_join (wr := (wd_b958b9da h0 h1 h3 x98 h3 g1 fn101)) (w1 := (wd_82cdd16b h1 h2 v1 x104 x105 x100 h2 g0 f5)) hP hD [1, 2] [0, 3] rfl rfl (by decide) (by decide) hk1 hFc hP1 hD1
            clear hP hD hPc hDc hKc hFc hP1 hK1 hD1 hk1 hz1
            generalize H1 = H at hP2 hS ⊢
            have hP := hP2.sub (ws' := (wd_1ad0248d h0 h1 h3 x98 h1 h2 v1 x104 x105 x100 h2 g0 f5 h3 g1 fn101)) [0, 2, 3, 1] rfl
            have hD := hD2.sub (ws' := (wd_1ad0248d h0 h1 h3 x98 h1 h2 v1 x104 x105 x100 h2 g0 f5 h3 g1 fn101)) [0, 2, 3, 1] (by decide) rfl
            clear hP2 hD2
            obtain rfl : ra102 = (0 : Int32) := pv_cs (by decide) pt0_ra102 pt1_ra102
            refine lv_if_eq (tgt := 78) hx hb dX3_readUnit_71 (by decide) (fun _ => ?_) (fun c => absurd (by decide) c)
            refine lv_iconst (v := 0) hx hb dX3_readUnit_78 (by decide) ?_
            subst hQ
            have hP9 := hP.sub (ws' := (wd_1ad0248d h0 h1 h3 x98 h1 h2 v1 x104 x105 x100 h2 g0 f5 h3 g1 fn101)) [0, 1, 2, 3] rfl
            have hD9 := hD.sub (ws' := (wd_1ad0248d h0 h1 h3 x98 h1 h2 v1 x104 x105 x100 h2 g0 f5 h3 g1 fn101)) [0, 1, 2, 3] (by decide) rfl
            have hK9 := hK.sub (tys' := []) [] rfl
            exact W.zret (v := 0) hx hb hr rfl (fun t ht hW => ⟨⟨0, 0, rfl, rfl, Or.inr (⟨x98, x104, x105, x100, fn101, oa_x98, ob_x98, oa_x104, ob_x104, oa_x105, ob_x105, by first | omega | decide, by first | omega | decide, by omega, by show pg_unitF f5 v1.toInt 1 true (pg_unit f5 v1.toInt 0) (pg_con f5 v1.toInt (pg_unit f5 v1.toInt 0)) _ = _; first | (apply pg_unitF.not <;> first | assumption | omega) | (apply pg_unitF.par1 <;> first | assumption | omega) | (apply pg_unitF.par0 <;> first | assumption | omega) | (apply pg_unitF.deep <;> first | assumption | omega) | (apply pg_unitF.sm1 <;> first | assumption | omega) | (apply pg_unitF.sm2 <;> first | assumption | omega) | (apply pg_unitF.sum0 <;> first | assumption | omega), by rw [ht]; exact hP9, va_K.moved hW.alike hK9, hD9⟩)⟩, hS.F ht⟩) hS.2.2 dX3_readUnit_79
        · skip
          obtain ⟨x106, x107, x108, x109, fn110, oa_x106, ob_x106, oa_x107, ob_x107, oa_x108, ob_x108, pt0_ra97, pt1_ra97, pt2_ra97, pt3_ra97, hP1, hK1, hD1⟩ := hB
          rw [ht] at hP1
          obtain ⟨hP2, hD2⟩ := va_join (wr := []) (w1 := (wd_1ad0248d h0 h1 h3 x106 h1 h2 v1 x107 x108 x109 h2 g0 f5 h3 g1 fn110)) hP hD [0, 1, 2, 3] [] rfl rfl (by decide) (by decide) hk1 hFc hP1 hD1
          clear hP hD hPc hDc hKc hFc hP1 hK1 hD1 hk1 hz1
          generalize H1 = H at hP2 hS ⊢
          have hP : va_P (dC, dI) vwCl (wd_1ad0248d h0 h1 h3 x106 h1 h2 v1 x107 x108 x109 h2 g0 f5 h3 g1 fn110) H := hP2
          have hD : va_D A (wd_1ad0248d h0 h1 h3 x106 h1 h2 v1 x107 x108 x109 h2 g0 f5 h3 g1 fn110) := hD2
          clear hP2 hD2
          obtain rfl : ra97 = (0 : Int32) := pv_cs (by decide) pt0_ra97 pt1_ra97
          refine lv_if_eq (tgt := 78) hx hb dX3_readUnit_59 (by decide) (fun _ => ?_) (fun c => absurd (by decide) c)
          refine lv_iconst (v := 0) hx hb dX3_readUnit_78 (by decide) ?_
          subst hQ
          have hP9 := hP.sub (ws' := (wd_1ad0248d h0 h1 h3 x106 h1 h2 v1 x107 x108 x109 h2 g0 f5 h3 g1 fn110)) [0, 1, 2, 3] rfl
          have hD9 := hD.sub (ws' := (wd_1ad0248d h0 h1 h3 x106 h1 h2 v1 x107 x108 x109 h2 g0 f5 h3 g1 fn110)) [0, 1, 2, 3] (by decide) rfl
          have hK9 := hK.sub (tys' := []) [] rfl
          exact W.zret (v := 0) hx hb hr rfl (fun t ht hW => ⟨⟨0, 0, rfl, rfl, Or.inr (⟨x106, x107, x108, x109, fn110, oa_x106, ob_x106, oa_x107, ob_x107, oa_x108, ob_x108, by first | omega | decide, by first | omega | decide, by omega, by show pg_unitF f5 v1.toInt 1 true (pg_unit f5 v1.toInt 0) (pg_con f5 v1.toInt (pg_unit f5 v1.toInt 0)) _ = _; first | (apply pg_unitF.not <;> first | assumption | omega) | (apply pg_unitF.par1 <;> first | assumption | omega) | (apply pg_unitF.par0 <;> first | assumption | omega) | (apply pg_unitF.deep <;> first | assumption | omega) | (apply pg_unitF.sm1 <;> first | assumption | omega) | (apply pg_unitF.sm2 <;> first | assumption | omega) | (apply pg_unitF.sum0 <;> first | assumption | omega), by rw [ht]; exact hP9, va_K.moved hW.alike hK9, hD9⟩)⟩, hS.F ht⟩) hS.2.2 dX3_readUnit_79
def q_X3_readTruth_1 : List Cond := .code yX3_readTruth cX3_readTruth 4 (some .boolean) :: (([.code yX3_readUnit cX3_readUnit 5 (some .boolean), .fieldLink RX3 19 "LeftArguments$LawReader" "tape" "LLeftArguments$Tape;", .code yX10_next cX10_next 1 (some .int), .fieldLink RX10 19 "LeftArguments$Tape" "at" "I", .fieldLink RX10 15 "LeftArguments$Tape" "used" "I", .fieldLink RX10 9 "LeftArguments$Tape" "bytes" "[I", .initialized RX10, .instanceMethod yX10_next, .selects RX10 yX10_next yX10_next, .methodLink RX3 48 yX10_next, .code yX3_readSum cX3_readSum 4 (some .boolean), .code yX3_readTerm cX3_readTerm 4 (some .boolean), .code yX3_readAtom cX3_readAtom 4 (some .boolean), .code yX10_isDigit cX10_isDigit 1 (some .boolean), .static yX10_isDigit, .methodLink RX3 92 yX10_isDigit, .code yX10_wrongHere cX10_wrongHere 1 (some .boolean), .fieldLink RX10 22 "LeftArguments$Tape" "wrongAt" "I", .instanceMethod yX10_wrongHere, .selects RX10 yX10_wrongHere yX10_wrongHere, .methodLink RX3 83 yX10_wrongHere, .code yJ0_indexOf_0f7a4 cJ0_indexOf_0f7a4 2 (some .int), .code yJ0_indexOf_7cf53 cJ0_indexOf_7cf53 3 (some .int), .code yJ0_isLatin1_aae02 cJ0_isLatin1_aae02 1 (some .boolean), .fieldLink RJ0 38 "java/lang/String" "COMPACT_STRINGS" "Z", .fieldLink RJ0 15 "java/lang/String" "coder" "B", .initialized RJ0, .instanceMethod yJ0_isLatin1_aae02, .selects RJ0 yJ0_isLatin1_aae02 yJ0_isLatin1_aae02, .methodLink RJ0 492 yJ0_isLatin1_aae02, .fieldLink RJ0 9 "java/lang/String" "value" "[B", .code yJ0_length_8abf5 cJ0_length_8abf5 1 (some .int), .code yJ0_coder_7d493 cJ0_coder_7d493 1 (some .byte), .instanceMethod yJ0_coder_7d493, .selects RJ0 yJ0_coder_7d493 yJ0_coder_7d493, .methodLink RJ0 335 yJ0_coder_7d493, .instanceMethod yJ0_length_8abf5, .selects RJ0 yJ0_length_8abf5 yJ0_length_8abf5, .methodLink RJ0 505 yJ0_length_8abf5, .code yJ1_indexOf_4cfef cJ1_indexOf_4cfef 4 (some .int), .code yJ1_canEncode_9a6ad cJ1_canEncode_9a6ad 1 (some .boolean), .initialized RJ1, .static yJ1_canEncode_9a6ad, .methodLink RJ1 88 yJ1_canEncode_9a6ad, .methodLink RJ1 92 Lib.Math.max.name, .static Lib.Math.max.name, .initialized "java/lang/Math", .code Lib.Math.max.name Lib.Math.max.code 2 (some .int), .methodLink RJ1 38 Lib.Math.min.name, .static Lib.Math.min.name, .code Lib.Math.min.name Lib.Math.min.code 2 (some .int), .code yJ1_indexOfChar_4cfef cJ1_indexOfChar_4cfef 6 (some .int), .static yJ1_indexOfChar_4cfef, .methodLink RJ1 95 yJ1_indexOfChar_4cfef, .static yJ1_indexOf_4cfef, .methodLink RJ0 637 yJ1_indexOf_4cfef, .instanceMethod yJ0_indexOf_7cf53, .selects RJ0 yJ0_indexOf_7cf53 yJ0_indexOf_7cf53, .methodLink RJ0 633 yJ0_indexOf_7cf53, .instanceMethod yJ0_indexOf_0f7a4, .selects RJ0 yJ0_indexOf_0f7a4 yJ0_indexOf_0f7a4, .methodLink RX3 103 yJ0_indexOf_0f7a4, .code yX10_step cX10_step 1 none, .instanceMethod yX10_step, .selects RX10 yX10_step yX10_step, .methodLink RX3 77 yX10_step, .code yX3_write cX3_write 3 none, .fieldLink RX3 15 "LeftArguments$LawReader" "used" "I", .fieldLink RX3 11 "LeftArguments$LawReader" "code" "[I", .initialized RX3, .instanceMethod yX3_write, .selects RX3 yX3_write yX3_write, .methodLink RX3 66 yX3_write, .code yX10_takeNumber cX10_takeNumber 3 (some .boolean), .methodLink RX10 37 yX10_next, .methodLink RX10 45 yX10_isDigit, .methodLink RX10 41 yX10_wrongHere, .fieldLink RX10 25 "LeftArguments$Tape" "number" "I", .code yX10_sign cX10_sign 1 (some .int), .instanceMethod yX10_sign, .selects RX10 yX10_sign yX10_sign, .methodLink RX10 49 yX10_sign, .instanceMethod yX10_takeNumber, .selects RX10 yX10_takeNumber yX10_takeNumber, .methodLink RX3 95 yX10_takeNumber, .code yX10_number cX10_number 1 (some .int), .instanceMethod yX10_number, .selects RX10 yX10_number yX10_number, .methodLink RX3 98 yX10_number, .instanceMethod yX3_readAtom, .selects RX3 yX3_readAtom yX3_readAtom, .methodLink RX3 89 yX3_readAtom, .instanceMethod yX3_readTerm, .selects RX3 yX3_readTerm yX3_readTerm, .methodLink RX3 86 yX3_readTerm, .instanceMethod yX3_readSum, .selects RX3 yX3_readSum yX3_readSum, .methodLink RX3 59 yX3_readSum, .code yX10_take cX10_take 2 (some .boolean), .instanceMethod yX10_take, .selects RX10 yX10_take yX10_take, .methodLink RX3 51 yX10_take, .code yX3_comparing cX3_comparing 1 (some .int), .static yX3_comparing, .methodLink RX3 62 yX3_comparing, .instanceMethod yX3_readUnit, .selects RX3 yX3_readUnit yX3_readUnit, .methodLink RX3 80 yX3_readUnit, .code yX3_readCondition cX3_readCondition 4 (some .boolean), .code yX3_readTruth cX3_readTruth 4 (some .boolean), .instanceMethod yX3_readTruth, .selects RX3 yX3_readTruth yX3_readTruth, .methodLink RX3 74 yX3_readTruth, .instanceMethod yX3_readCondition, .selects RX3 yX3_readCondition yX3_readCondition, .methodLink RX3 70 yX3_readCondition] : List Cond) ++ wsX30 ++ wsX100)
set_option maxRecDepth 20000 in
theorem g_X3_readTruth_1_0 : GoodIn q_X3_readTruth_1 (wsV RX3 80 RX3 yX3_readUnit q_X3_readUnit_2) := goodIn_app (goodIn_r _ [108, 106, 107, 70] rfl (by decide +kernel)) (goodIn_ca (goodIn_ca (goodIn_r (.code yX3_readUnit cX3_readUnit 5 (some .boolean) :: [.fieldLink RX3 19 "LeftArguments$LawReader" "tape" "LLeftArguments$Tape;", .code yX10_next cX10_next 1 (some .int), .fieldLink RX10 19 "LeftArguments$Tape" "at" "I", .fieldLink RX10 15 "LeftArguments$Tape" "used" "I", .fieldLink RX10 9 "LeftArguments$Tape" "bytes" "[I", .initialized RX10, .instanceMethod yX10_next, .selects RX10 yX10_next yX10_next, .methodLink RX3 48 yX10_next, .code yX3_readSum cX3_readSum 4 (some .boolean), .code yX3_readTerm cX3_readTerm 4 (some .boolean), .code yX3_readAtom cX3_readAtom 4 (some .boolean), .code yX10_isDigit cX10_isDigit 1 (some .boolean), .static yX10_isDigit, .methodLink RX3 92 yX10_isDigit, .code yX10_wrongHere cX10_wrongHere 1 (some .boolean), .fieldLink RX10 22 "LeftArguments$Tape" "wrongAt" "I", .instanceMethod yX10_wrongHere, .selects RX10 yX10_wrongHere yX10_wrongHere, .methodLink RX3 83 yX10_wrongHere, .code yJ0_indexOf_0f7a4 cJ0_indexOf_0f7a4 2 (some .int), .code yJ0_indexOf_7cf53 cJ0_indexOf_7cf53 3 (some .int), .code yJ0_isLatin1_aae02 cJ0_isLatin1_aae02 1 (some .boolean), .fieldLink RJ0 38 "java/lang/String" "COMPACT_STRINGS" "Z", .fieldLink RJ0 15 "java/lang/String" "coder" "B", .initialized RJ0, .instanceMethod yJ0_isLatin1_aae02, .selects RJ0 yJ0_isLatin1_aae02 yJ0_isLatin1_aae02, .methodLink RJ0 492 yJ0_isLatin1_aae02, .fieldLink RJ0 9 "java/lang/String" "value" "[B", .code yJ0_length_8abf5 cJ0_length_8abf5 1 (some .int), .code yJ0_coder_7d493 cJ0_coder_7d493 1 (some .byte), .instanceMethod yJ0_coder_7d493, .selects RJ0 yJ0_coder_7d493 yJ0_coder_7d493, .methodLink RJ0 335 yJ0_coder_7d493, .instanceMethod yJ0_length_8abf5, .selects RJ0 yJ0_length_8abf5 yJ0_length_8abf5, .methodLink RJ0 505 yJ0_length_8abf5, .code yJ1_indexOf_4cfef cJ1_indexOf_4cfef 4 (some .int), .code yJ1_canEncode_9a6ad cJ1_canEncode_9a6ad 1 (some .boolean), .initialized RJ1, .static yJ1_canEncode_9a6ad, .methodLink RJ1 88 yJ1_canEncode_9a6ad, .methodLink RJ1 92 Lib.Math.max.name, .static Lib.Math.max.name, .initialized "java/lang/Math", .code Lib.Math.max.name Lib.Math.max.code 2 (some .int), .methodLink RJ1 38 Lib.Math.min.name, .static Lib.Math.min.name, .code Lib.Math.min.name Lib.Math.min.code 2 (some .int), .code yJ1_indexOfChar_4cfef cJ1_indexOfChar_4cfef 6 (some .int), .static yJ1_indexOfChar_4cfef, .methodLink RJ1 95 yJ1_indexOfChar_4cfef, .static yJ1_indexOf_4cfef, .methodLink RJ0 637 yJ1_indexOf_4cfef, .instanceMethod yJ0_indexOf_7cf53, .selects RJ0 yJ0_indexOf_7cf53 yJ0_indexOf_7cf53, .methodLink RJ0 633 yJ0_indexOf_7cf53, .instanceMethod yJ0_indexOf_0f7a4, .selects RJ0 yJ0_indexOf_0f7a4 yJ0_indexOf_0f7a4, .methodLink RX3 103 yJ0_indexOf_0f7a4, .code yX10_step cX10_step 1 none, .instanceMethod yX10_step, .selects RX10 yX10_step yX10_step, .methodLink RX3 77 yX10_step, .code yX3_write cX3_write 3 none, .fieldLink RX3 15 "LeftArguments$LawReader" "used" "I", .fieldLink RX3 11 "LeftArguments$LawReader" "code" "[I", .initialized RX3, .instanceMethod yX3_write, .selects RX3 yX3_write yX3_write, .methodLink RX3 66 yX3_write, .code yX10_takeNumber cX10_takeNumber 3 (some .boolean), .methodLink RX10 37 yX10_next, .methodLink RX10 45 yX10_isDigit, .methodLink RX10 41 yX10_wrongHere, .fieldLink RX10 25 "LeftArguments$Tape" "number" "I", .code yX10_sign cX10_sign 1 (some .int), .instanceMethod yX10_sign, .selects RX10 yX10_sign yX10_sign, .methodLink RX10 49 yX10_sign, .instanceMethod yX10_takeNumber, .selects RX10 yX10_takeNumber yX10_takeNumber, .methodLink RX3 95 yX10_takeNumber, .code yX10_number cX10_number 1 (some .int), .instanceMethod yX10_number, .selects RX10 yX10_number yX10_number, .methodLink RX3 98 yX10_number, .instanceMethod yX3_readAtom, .selects RX3 yX3_readAtom yX3_readAtom, .methodLink RX3 89 yX3_readAtom, .instanceMethod yX3_readTerm, .selects RX3 yX3_readTerm yX3_readTerm, .methodLink RX3 86 yX3_readTerm, .instanceMethod yX3_readSum, .selects RX3 yX3_readSum yX3_readSum, .methodLink RX3 59 yX3_readSum, .code yX10_take cX10_take 2 (some .boolean), .instanceMethod yX10_take, .selects RX10 yX10_take yX10_take, .methodLink RX3 51 yX10_take, .code yX3_comparing cX3_comparing 1 (some .int), .static yX3_comparing, .methodLink RX3 62 yX3_comparing, .code yX3_readUnit cX3_readUnit 5 (some .boolean), .instanceMethod yX3_readUnit, .selects RX3 yX3_readUnit yX3_readUnit, .methodLink RX3 80 yX3_readUnit, .code yX3_readCondition cX3_readCondition 4 (some .boolean), .code yX3_readTruth cX3_readTruth 4 (some .boolean), .instanceMethod yX3_readTruth, .selects RX3 yX3_readTruth yX3_readTruth, .methodLink RX3 74 yX3_readTruth, .instanceMethod yX3_readCondition, .selects RX3 yX3_readCondition yX3_readCondition, .methodLink RX3 70 yX3_readCondition]) [1, 2, 3, 4, 5, 6, 7, 8, 9, 10, 11, 12, 13, 14, 15, 16, 17, 18, 19, 20, 21, 22, 23, 24, 25, 26, 27, 28, 29, 30, 31, 32, 33, 34, 35, 36, 37, 38, 39, 40, 41, 42, 43, 44, 45, 46, 47, 48, 49, 50, 51, 52, 53, 54, 55, 56, 57, 58, 59, 60, 61, 62, 63, 64, 65, 66, 67, 68, 69, 70, 71, 72, 73, 74, 75, 76, 77, 78, 79, 80, 81, 82, 83, 84, 85, 86, 87, 88, 89, 90, 91, 92, 93, 94, 95, 96, 97, 98, 99, 100, 101, 102, 103, 104, 105, 1, 106, 107, 108, 109, 110, 111, 112, 113, 114, 115, 116] rfl (by decide +kernel)) (goodIn_sub (fun _ h => List.mem_cons_of_mem _ (List.mem_append_left _ (List.mem_append_right _ h))) gwX3)) (goodIn_sub (fun _ h => List.mem_cons_of_mem _ (List.mem_append_right _ h)) gwX10))
set_option maxRecDepth 20000 in
theorem g_X3_readTruth_1_1 : GoodIn q_X3_readTruth_1 (wsV RX3 48 RX10 yX10_next q_X10_next) := goodIn_app (goodIn_r _ [10, 8, 9, 7] rfl (by decide +kernel)) (goodIn_ca (goodIn_r (.code yX10_next cX10_next 1 (some .int) :: [.fieldLink RX10 19 "LeftArguments$Tape" "at" "I", .fieldLink RX10 15 "LeftArguments$Tape" "used" "I", .fieldLink RX10 9 "LeftArguments$Tape" "bytes" "[I"]) [3, 4, 5, 6] rfl (by decide +kernel)) (goodIn_sub (fun _ h => List.mem_cons_of_mem _ (List.mem_append_right _ h)) gwX10))
set_option maxRecDepth 20000 in
theorem g_X3_readTruth_1_2 : GoodIn q_X3_readTruth_1 (wsV RX3 77 RX10 yX10_step q_X10_step) := goodIn_app (goodIn_r _ [66, 64, 65, 7] rfl (by decide +kernel)) (goodIn_ca (goodIn_r (.code yX10_step cX10_step 1 none :: [.fieldLink RX10 19 "LeftArguments$Tape" "at" "I"]) [63, 4] rfl (by decide +kernel)) (goodIn_sub (fun _ h => List.mem_cons_of_mem _ (List.mem_append_right _ h)) gwX10))
set_option maxRecDepth 20000 in
theorem g_X3_readTruth_1_4 : GoodIn q_X3_readTruth_1 (wsV RX3 66 RX3 yX3_write q_X3_write) := goodIn_app (goodIn_r _ [73, 71, 72, 70] rfl (by decide +kernel)) (goodIn_ca (goodIn_r (.code yX3_write cX3_write 3 none :: [.fieldLink RX3 15 "LeftArguments$LawReader" "used" "I", .fieldLink RX3 11 "LeftArguments$LawReader" "code" "[I"]) [67, 68, 69] rfl (by decide +kernel)) (goodIn_sub (fun _ h => List.mem_cons_of_mem _ (List.mem_append_left _ (List.mem_append_right _ h))) gwX3))
set_option maxHeartbeats 4000000 in
set_option maxRecDepth 100000 in
theorem k_X3_readTruth_1 (l : Launch) (dC : Nat → ClassId) (dI : Nat → Nat → Nat) (adK : Nat → Nat) (adV : Nat → Nat) (h0 : Nat) (h1 : Nat) (h2 : Nat) (h3 : Nat) (v0 : Int32) (v1 : Int32) (v2 : Int32) (v3 : Int32) (v4 : Int32) (g0 : ClassId) (f5 : Nat → Int32) (g1 : ClassId) (f6 : Nat → Int32) (i_v0 : 0 ≤ v0.toInt ∧ v0.toInt ≤ 256) (i_v1 : 0 ≤ v1.toInt ∧ v1.toInt ≤ 240) (i_v2 : 0 ≤ v2.toInt ∧ v2.toInt ≤ 240) (ia_f5 : (∀ j, 0 ≤ (f5 j).toInt ∧ (f5 j).toInt ≤ 255)) (sz : Nat) : Met l yX3_readTruth q_X3_readTruth_1 ({ frames := 11, cells := 0, slots := 0, locals := 254 }) (va_Pc [.ref h0, .int 5, .int 0] (fun U => U.heap.size = sz ∧ va_P (dC, dI) vwCl (wd_1ad0248d h0 h1 h3 v0 h1 h2 v1 v2 v3 v4 h2 g0 f5 h3 g1 f6) U.heap ∧ va_K (dC, dI) vwCl [(g0, .int), (g1, .int)] U ∧ va_D (fun _ => True) (wd_1ad0248d h0 h1 h3 v0 h1 h2 v1 v2 v3 v4 h2 g0 f5 h3 g1 f6) ∧ vk_R RX3 101 "zaondt" (adK 2) U ∧ va_Z "java/lang/String" "COMPACT_STRINGS" "Z" (.int 1) (va_A (wd_1ad0248d h0 h1 h3 v0 h1 h2 v1 v2 v3 v4 h2 g0 f5 h3 g1 f6) sz) U U.heap ∧ vk_S 3 pv_len3 pv_byt3 adK adV (va_A (wd_1ad0248d h0 h1 h3 v0 h1 h2 v1 v2 v3 v4 h2 g0 f5 h3 g1 f6) sz) U U.heap)) (va_Qi (fun (r : Int32) (r9 : Int32) => r9 = r) (fun (r : Int32) (t : State) => (∃ (o_h0_2 : Int32) (o_h1_2 : Int32) (o_h1_4 : Int32) (o_h3 : Nat → Int32), 0 ≤ o_h0_2.toInt ∧ o_h0_2.toInt ≤ 256 ∧ 0 ≤ o_h1_2.toInt ∧ o_h1_2.toInt ≤ 240 ∧ (1 ≤ r.toInt) ∧ (r.toInt ≤ 1) ∧ (v2.toInt ≤ o_h1_2.toInt) ∧ (pg_tru f5 v1.toInt (pg_unit f5 v1.toInt 1) v2.toInt = (true, o_h1_2.toInt)) ∧ va_P (dC, dI) vwCl (wd_1ad0248d h0 h1 h3 o_h0_2 h1 h2 v1 o_h1_2 v3 o_h1_4 h2 g0 f5 h3 g1 o_h3) t.heap ∧ va_K (dC, dI) vwCl [] t ∧ va_D (va_A (wd_1ad0248d h0 h1 h3 v0 h1 h2 v1 v2 v3 v4 h2 g0 f5 h3 g1 f6) sz) (wd_1ad0248d h0 h1 h3 o_h0_2 h1 h2 v1 o_h1_2 v3 o_h1_4 h2 g0 f5 h3 g1 o_h3)) ∨ (∃ (o_h0_2 : Int32) (o_h1_2 : Int32) (o_h1_3 : Int32) (o_h1_4 : Int32) (o_h3 : Nat → Int32), 0 ≤ o_h0_2.toInt ∧ o_h0_2.toInt ≤ 256 ∧ 0 ≤ o_h1_2.toInt ∧ o_h1_2.toInt ≤ 240 ∧ 0 ≤ o_h1_3.toInt ∧ o_h1_3.toInt ≤ 240 ∧ (0 ≤ r.toInt) ∧ (r.toInt ≤ 0) ∧ (v2.toInt ≤ o_h1_2.toInt) ∧ (pg_tru f5 v1.toInt (pg_unit f5 v1.toInt 1) v2.toInt = (false, o_h1_3.toInt)) ∧ va_P (dC, dI) vwCl (wd_1ad0248d h0 h1 h3 o_h0_2 h1 h2 v1 o_h1_2 o_h1_3 o_h1_4 h2 g0 f5 h3 g1 o_h3) t.heap ∧ va_K (dC, dI) vwCl [] t ∧ va_D (va_A (wd_1ad0248d h0 h1 h3 v0 h1 h2 v1 v2 v3 v4 h2 g0 f5 h3 g1 f6) sz) (wd_1ad0248d h0 h1 h3 o_h0_2 h1 h2 v1 o_h1_2 o_h1_3 o_h1_4 h2 g0 f5 h3 g1 o_h3))) (va_A (wd_1ad0248d h0 h1 h3 v0 h1 h2 v1 v2 v3 v4 h2 g0 f5 h3 g1 f6) sz)) 0 0 (va_A (wd_1ad0248d h0 h1 h3 v0 h1 h2 v1 v2 v3 v4 h2 g0 f5 h3 g1 f6) sz) := by
  refine Met.ofW (cc := cX3_readTruth) (maxL := 4) (ret := (some .boolean)) (by decide) rfl ?_
  intro p e s m args below meth c s₁ B hml hv
  obtain ⟨i_v0a, i_v0b⟩ := i_v0
  obtain ⟨i_v1a, i_v1b⟩ := i_v1
  obtain ⟨i_v2a, i_v2b⟩ := i_v2
  obtain ⟨rfl, hsz, hP, hK, hD0, h_vr_2, h_st_CS, h_st_S⟩ := hv
  have hx := B.exec
  have hb := B.bytes
  have hr := B.returns
  have hts := atoms_spec (ws := q_X3_readTruth_1) B.pre
  have hown : s.vm.findClass RX3 = some m.cls := findClass_of_methodNamed B.named
  have hlocks := B.notSynchronized
  subst hsz
  have hD := hD0.self (sz := s.heap.size)
  generalize hAe : va_A (wd_1ad0248d h0 h1 h3 v0 h1 h2 v1 v2 v3 v4 h2 g0 f5 h3 g1 f6) s.heap.size = A at hD h_st_CS h_st_S ⊢
  have hA : ∀ q : Nat, s.heap.size ≤ q → A q := fun q h => by rw [← hAe]; exact Or.inr h
  have hS : va_S A s.heap s.heap [] := va_S.rf
  generalize hQ : (MQ below _ _ s 0 0 A) = Q
  have hl := lv_entry ([.ref h0, .int 5, .int 0]) (n := 4) (Nat.le_of_ble_eq_true rfl)
  rw [lg_entry_eq]
  generalize (lg_sl ([.ref h0, .int 5, .int 0]) ++ List.replicate (4 - (lg_sl ([.ref h0, .int 5, .int 0])).length) Slot.unset).toArray = ls at hl ⊢
  have hl : lv_has ls 4 [(0, .ref h0), (1, .int 5), (2, .int 0)] := hl
  obtain ⟨H, hH⟩ : ∃ H : Heap, H = s.heap := ⟨_, rfl⟩
  obtain ⟨locs, hlocs⟩ : ∃ y : List Loc, y = [] := ⟨_, rfl⟩
  have hS : va_S A s.heap H locs := by rw [hH, hlocs]; exact va_S.rf
  have hP : va_P (dC, dI) vwCl (wd_1ad0248d h0 h1 h3 v0 h1 h2 v1 v2 v3 v4 h2 g0 f5 h3 g1 f6) H := by rw [hH]; exact hP
  rw [← hH, ← hlocs]
  refine lv_aload_n hx hb dX3_readTruth_0 rfl (lv_at hl 0 rfl) ?_
  refine lv_iload_n hx hb dX3_readTruth_1 rfl (lv_at hl 1 rfl) ?_
  refine lv_iload_n hx hb dX3_readTruth_2 rfl (lv_at hl 2 rfl) ?_
  have hPc := hP.sub (ws' := (wd_1ad0248d h0 h1 h3 v0 h1 h2 v1 v2 v3 v4 h2 g0 f5 h3 g1 f6)) [0, 1, 2, 3] rfl
  have hDc := hD.sub (ws' := (wd_1ad0248d h0 h1 h3 v0 h1 h2 v1 v2 v3 v4 h2 g0 f5 h3 g1 f6)) [0, 1, 2, 3] (by decide) rfl
  have hKc := hK.sub (tys' := [(g0, .int), (g1, .int)]) [0, 1] rfl
  have hFc := va_free (wc := (wd_1ad0248d h0 h1 h3 v0 h1 h2 v1 v2 v3 v4 h2 g0 f5 h3 g1 f6)) hD hS hA [0, 1, 2, 3] rfl
  refine va_calli (va_runV (As := [.int 5, .int 0]) (rest := []) ⟨hx, hb, hml, hown, hts⟩ (k_X3_readUnit_2 l dC dI adK adV h0 h1 h2 h3 v0 v1 v2 v3 v4 g0 f5 g1 f6 ⟨i_v0a, i_v0b⟩ ⟨i_v1a, i_v1b⟩ ⟨i_v2a, i_v2b⟩ ia_f5 H.size) (cwV 2 hts g_X3_readTruth_1_0 rfl rfl rfl (by decide +kernel) ⟨Nat.le_of_ble_eq_true rfl, Nat.le_of_ble_eq_true rfl⟩) ⟨fun a U g mk q => by obtain ⟨q0, q1, qP, qK, qD, n0, n1, n2⟩ := q; exact ⟨q0, q1, qP, va_K.moved (u := U) (U := U.calling g mk a) (Vm.Alike.refl U.vm) qK, qD, vk_R.same rfl n0, va_Z.moved (Vm.Alike.refl _) n1, vk_S.moved (Vm.Alike.refl _) n2⟩, pv_rc3 hKc hPc (q0 := 0) rfl, fun U hU hW => ⟨rfl, by rw [hU], by rw [hU]; exact hPc, va_K.moved hW.alike hKc, hDc.weaken (fun _ _ _ _ => trivial), vk_R.warm hW h_vr_2, (by rw [hU]; exact (va_Z.moved hW.alike (va_Z.kept h_st_CS hS.2.1)).narrow hFc), (by rw [hU]; exact (vk_S.moved hW.alike (vk_S.kept h_st_S hS.2.1)).narrow hFc)⟩⟩ rfl rfl hl.1 rfl (lv_room (Nat.le_of_ble_eq_true rfl)) dX3_readTruth_3 ⟨Nat.le_of_ble_eq_true rfl, Nat.le_of_ble_eq_true rfl⟩) hS (fun q _ h => hFc q h) hFc (fun ra1 u t H1 locs ht hvm hwra1 hB hz1 hk1 hS => ?_)
  try rw [hwra1] at hB
  rcases hB with hB | hB
  · skip
    obtain ⟨x2, x3, x4, fn5, oa_x2, ob_x2, oa_x3, ob_x3, pt0_ra1, pt1_ra1, pt2_ra1, pt3_ra1, hP1, hK1, hD1⟩ := hB
    rw [ht] at hP1
    obtain ⟨hP2, hD2⟩ := va_join (wr := []) (w1 := (wd_1ad0248d h0 h1 h3 x2 h1 h2 v1 x3 v3 x4 h2 g0 f5 h3 g1 fn5)) hP hD [0, 1, 2, 3] [] rfl rfl (by decide) (by decide) hk1 hFc hP1 hD1
    clear hP hD hPc hDc hKc hFc hP1 hK1 hD1 hk1 hz1
    generalize H1 = H at hP2 hS ⊢
    have hP : va_P (dC, dI) vwCl (wd_1ad0248d h0 h1 h3 x2 h1 h2 v1 x3 v3 x4 h2 g0 f5 h3 g1 fn5) H := hP2
    have hD : va_D A (wd_1ad0248d h0 h1 h3 x2 h1 h2 v1 x3 v3 x4 h2 g0 f5 h3 g1 fn5) := hD2
    clear hP2 hD2
    obtain rfl : ra1 = (1 : Int32) := pv_cs (by decide) pt0_ra1 pt1_ra1
    refine lv_if_ne (tgt := 11) hx hb dX3_readTruth_6 (by decide) (fun _ => ?_) (fun c => absurd c (by decide))
    refine lv_iconst (v := 0) hx hb dX3_readTruth_11 (by decide) ?_
    refine lv_istore_n (lv' := [(3, .int 0), (0, .ref h0), (1, .int 5), (2, .int 0)]) hx hb dX3_readTruth_12 rfl hl (by decide) rfl (fun ls hl => ?_)
    have hL81 : ∀ (n9 : Nat), ∀ (x71 : Int32) (x72 : Int32) (x73 : Int32) (x74 : Int32) (fn75 : Nat → Int32) (H : Heap) (locs : List Loc) (ls : Array Slot), 0 ≤ x71.toInt → x71.toInt ≤ 240 → 0 ≤ x72.toInt → x72.toInt ≤ 256 → 0 ≤ x73.toInt → x73.toInt ≤ 240 → (pg_L f5 v1.toInt 38 38 (pg_unit f5 v1.toInt 1) x73.toInt (pg_tru f5 v1.toInt (pg_unit f5 v1.toInt 1) v2.toInt)) → (x71.toInt ≤ x73.toInt) → (v2.toInt ≤ x73.toInt) → (240 - x71.toInt).toNat < n9 → va_P (dC, dI) vwCl (wd_1ad0248d h0 h1 h3 x72 h1 h2 v1 x73 v3 x74 h2 g0 f5 h3 g1 fn75) H → va_D A (wd_1ad0248d h0 h1 h3 x72 h1 h2 v1 x73 v3 x74 h2 g0 f5 h3 g1 fn75) → va_S A s.heap H locs → lv_has ls 4 [(3, .int x71), (0, .ref h0), (1, .int 5), (2, .int 0)] → W p l e ({ frames := 11, cells := 0, slots := 0, locals := 254 }) s m ([.ref h0, .int 5, .int 0] : List Value).toArray below meth c H locs 0 0 Q (F0 m 13 ls []) := by
      intro n9
      induction n9 with
      | zero => intro x71 x72 x73 x74 fn75 H locs ls qa_x71 qb_x71 qa_x72 qb_x72 qa_x73 qb_x73 gh0_hL81 gh1_hL81 gh2_hL81 hm9 hP hD hS hl; exact absurd hm9 (Nat.not_lt_zero _)
      | succ n9 ih_hL81 =>
        intro x71 x72 x73 x74 fn75 H locs ls qa_x71 qb_x71 qa_x72 qb_x72 qa_x73 qb_x73 gh0_hL81 gh1_hL81 gh2_hL81 hm9 hP hD hS hl
        refine lv_iload_n hx hb dX3_readTruth_13 rfl (lv_at hl 0 rfl) ?_
        refine lv_sipush (v := 240) hx hb dX3_readTruth_14 (by decide) ?_
        refine lv_icmp_ge (tgt := 63) hx hb dX3_readTruth_17 (by decide) (fun c82 => ?_) (fun c82 => ?_)
        · skip
          have fc82 : 240 ≤ x71.toInt := Int32.le_iff_toInt_le.mp c82
          refine lv_iconst (v := 1) hx hb dX3_readTruth_63 (by decide) ?_
          subst hQ
          have hP9 := hP.sub (ws' := (wd_1ad0248d h0 h1 h3 x72 h1 h2 v1 x73 v3 x74 h2 g0 f5 h3 g1 fn75)) [0, 1, 2, 3] rfl
          have hD9 := hD.sub (ws' := (wd_1ad0248d h0 h1 h3 x72 h1 h2 v1 x73 v3 x74 h2 g0 f5 h3 g1 fn75)) [0, 1, 2, 3] (by decide) rfl
          have hK9 := hK.sub (tys' := []) [] rfl
          exact W.zret (v := 1) hx hb hr rfl (fun t ht hW => ⟨⟨1, 1, rfl, rfl, Or.inl ⟨x72, x73, x74, fn75, qa_x72, qb_x72, qa_x73, qb_x73, by first | omega | decide, by first | omega | decide, by omega, by first | assumption | (apply pg_L.stop <;> first | assumption | omega) | exact pg_L.stop (by assumption) (pg_s.here (by rw [pg_ch.off (by omega)]; decide)) (by rw [pg_ch.off (by omega)]; decide), by rw [ht]; exact hP9, va_K.moved hW.alike hK9, hD9⟩⟩, hS.F ht⟩) hS.2.2 dX3_readTruth_64
        · skip
          have fc82 : ¬ (240 ≤ x71.toInt) := fun h9 => c82 (Int32.le_iff_toInt_le.mpr h9)
          refine lv_aload_n hx hb dX3_readTruth_20 rfl (lv_at hl 1 rfl) ?_
          refine va_get (D := (dC, dI)) (ci := 3) (v := .ref h1) (C := RX3) (T := TX3) (N := 3) hx hb hts (fun _ h => List.mem_cons_of_mem _ (List.mem_append_left _ (List.mem_append_right _ h))) hown hK hP 0 rfl rfl 0 (by decide) (hts (.fieldLink RX3 19 "LeftArguments$LawReader" "tape" "LLeftArguments$Tape;") (List.mem_cons_of_mem _ (List.mem_append_left _ (List.mem_append_left _ (List.mem_of_getElem? (i := 1) rfl))))) (fun _ h9 => h9) rfl dX3_readTruth_21 ?_
          have hPc := hP.sub (ws' := (wd_82cdd16b h1 h2 v1 x73 v3 x74 h2 g0 f5)) [1, 2] rfl
          have hDc := hD.sub (ws' := (wd_82cdd16b h1 h2 v1 x73 v3 x74 h2 g0 f5)) [1, 2] (by decide) rfl
          have hKc := hK.sub (tys' := [(g0, .int)]) [0] rfl
          have hFc := va_free (wc := (wd_82cdd16b h1 h2 v1 x73 v3 x74 h2 g0 f5)) hD hS hA [1, 2] rfl
          refine va_calli (va_runV (As := []) (rest := []) ⟨hx, hb, hml, hown, hts⟩ (k_X10_next l dC dI h1 h2 v1 x73 v3 x74 g0 f5 ⟨i_v1a, i_v1b⟩ ⟨qa_x73, qb_x73⟩ ia_f5 H.size) (cwV 0 hts g_X3_readTruth_1_1 rfl rfl rfl (by decide +kernel) ⟨Nat.le_of_ble_eq_true rfl, Nat.le_of_ble_eq_true rfl⟩) (pv_PV10 hPc hKc hDc (q0 := 0) rfl) rfl rfl hl.1 rfl (lv_room (Nat.le_of_ble_eq_true rfl)) dX3_readTruth_24 ⟨Nat.le_of_ble_eq_true rfl, Nat.le_of_ble_eq_true rfl⟩) hS (fun q _ h => hFc q h) hFc (fun ra83 u t H1 locs ht hvm hwra83 hB hz1 hk1 hS => ?_)
          try rw [hwra83] at hB
          rcases hB with hB | hB
          · skip
            obtain ⟨x84, oa_x84, ob_x84, pt0_ra83, pt1_ra83, pt2_ra83, pt3_ra83, pt4_ra83, pt5_ra83, pt6_ra83, hP1, hK1, hD1⟩ := hB
            rw [ht] at hP1
            obtain ⟨hP2, hD2⟩ := va_join (wr := (wd_b958b9da h0 h1 h3 x72 h3 g1 fn75)) (w1 := (wd_82cdd16b h1 h2 v1 x84 v3 x74 h2 g0 f5)) hP hD [1, 2] [0, 3] rfl rfl (by decide) (by decide) hk1 hFc hP1 hD1
            clear hP hD hPc hDc hKc hFc hP1 hK1 hD1 hk1 hz1
            generalize H1 = H at hP2 hS ⊢
            have hP := hP2.sub (ws' := (wd_1ad0248d h0 h1 h3 x72 h1 h2 v1 x84 v3 x74 h2 g0 f5 h3 g1 fn75)) [0, 2, 3, 1] rfl
            have hD := hD2.sub (ws' := (wd_1ad0248d h0 h1 h3 x72 h1 h2 v1 x84 v3 x74 h2 g0 f5 h3 g1 fn75)) [0, 2, 3, 1] (by decide) rfl
            clear hP2 hD2
            obtain rfl : ra83 = ((-1) : Int32) := pv_cs (by decide) pt0_ra83 pt1_ra83
            refine lv_bipush (v := 38) hx hb dX3_readTruth_27 (by decide) ?_
            refine lv_icmp_ne (tgt := 63) hx hb dX3_readTruth_29 (by decide) (fun _ => ?_) (fun c => absurd c (by decide))
            refine lv_iconst (v := 1) hx hb dX3_readTruth_63 (by decide) ?_
            subst hQ
            have hP9 := hP.sub (ws' := (wd_1ad0248d h0 h1 h3 x72 h1 h2 v1 x84 v3 x74 h2 g0 f5 h3 g1 fn75)) [0, 1, 2, 3] rfl
            have hD9 := hD.sub (ws' := (wd_1ad0248d h0 h1 h3 x72 h1 h2 v1 x84 v3 x74 h2 g0 f5 h3 g1 fn75)) [0, 1, 2, 3] (by decide) rfl
            have hK9 := hK.sub (tys' := []) [] rfl
            exact W.zret (v := 1) hx hb hr rfl (fun t ht hW => ⟨⟨1, 1, rfl, rfl, Or.inl ⟨x72, x84, x74, fn75, qa_x72, qb_x72, oa_x84, ob_x84, by first | omega | decide, by first | omega | decide, by omega, by first | assumption | (apply pg_L.stop <;> first | assumption | omega) | exact pg_L.stop (by assumption) (pg_s.here (by rw [pg_ch.off (by omega)]; decide)) (by rw [pg_ch.off (by omega)]; decide), by rw [ht]; exact hP9, va_K.moved hW.alike hK9, hD9⟩⟩, hS.F ht⟩) hS.2.2 dX3_readTruth_64
          · skip
            obtain ⟨x85, oa_x85, ob_x85, pt0_ra83, pt1_ra83, pt2_ra83, pt3_ra83, pt4_ra83, pt5_ra83, pt6_ra83, hP1, hK1, hD1⟩ := hB
            rw [ht] at hP1
            obtain ⟨hP2, hD2⟩ := va_join (wr := (wd_b958b9da h0 h1 h3 x72 h3 g1 fn75)) (w1 := (wd_82cdd16b h1 h2 v1 x85 v3 x74 h2 g0 f5)) hP hD [1, 2] [0, 3] rfl rfl (by decide) (by decide) hk1 hFc hP1 hD1
            clear hP hD hPc hDc hKc hFc hP1 hK1 hD1 hk1 hz1
            generalize H1 = H at hP2 hS ⊢
            have hP := hP2.sub (ws' := (wd_1ad0248d h0 h1 h3 x72 h1 h2 v1 x85 v3 x74 h2 g0 f5 h3 g1 fn75)) [0, 2, 3, 1] rfl
            have hD := hD2.sub (ws' := (wd_1ad0248d h0 h1 h3 x72 h1 h2 v1 x85 v3 x74 h2 g0 f5 h3 g1 fn75)) [0, 2, 3, 1] (by decide) rfl
            clear hP2 hD2
            refine lv_bipush (v := 38) hx hb dX3_readTruth_27 (by decide) ?_
            refine lv_icmp_ne (tgt := 63) hx hb dX3_readTruth_29 (by decide) (fun c86 => ?_) (fun c86 => ?_)
            · skip
              have fc86 : ¬ (ra83.toInt = 38) := fun h9 => c86 (Int32.toInt_inj.mp h9)
              refine lv_iconst (v := 1) hx hb dX3_readTruth_63 (by decide) ?_
              subst hQ
              have hP9 := hP.sub (ws' := (wd_1ad0248d h0 h1 h3 x72 h1 h2 v1 x85 v3 x74 h2 g0 f5 h3 g1 fn75)) [0, 1, 2, 3] rfl
              have hD9 := hD.sub (ws' := (wd_1ad0248d h0 h1 h3 x72 h1 h2 v1 x85 v3 x74 h2 g0 f5 h3 g1 fn75)) [0, 1, 2, 3] (by decide) rfl
              have hK9 := hK.sub (tys' := []) [] rfl
              exact W.zret (v := 1) hx hb hr rfl (fun t ht hW => ⟨⟨1, 1, rfl, rfl, Or.inl ⟨x72, x85, x74, fn75, qa_x72, qb_x72, oa_x85, by first | omega | decide, by first | omega | decide, by first | omega | decide, by omega, by first | assumption | (apply pg_L.stop <;> first | assumption | omega) | exact pg_L.stop (by assumption) (pg_s.here (by rw [pg_ch.off (by omega)]; decide)) (by rw [pg_ch.off (by omega)]; decide), by rw [ht]; exact hP9, va_K.moved hW.alike hK9, hD9⟩⟩, hS.F ht⟩) hS.2.2 dX3_readTruth_64
            · skip
              have fc86 : ra83.toInt = 38 := congrArg Int32.toInt c86
              refine lv_aload_n hx hb dX3_readTruth_32 rfl (lv_at hl 1 rfl) ?_
              refine va_get (D := (dC, dI)) (ci := 3) (v := .ref h1) (C := RX3) (T := TX3) (N := 3) hx hb hts (fun _ h => List.mem_cons_of_mem _ (List.mem_append_left _ (List.mem_append_right _ h))) hown hK hP 0 rfl rfl 0 (by decide) (hts (.fieldLink RX3 19 "LeftArguments$LawReader" "tape" "LLeftArguments$Tape;") (List.mem_cons_of_mem _ (List.mem_append_left _ (List.mem_append_left _ (List.mem_of_getElem? (i := 1) rfl))))) (fun _ h9 => h9) rfl dX3_readTruth_33 ?_
              have hPc := hP.sub (ws' := (wd_09b0abee h1 h2 v1 x85 v3 x74)) [1] rfl
              have hDc := hD.sub (ws' := (wd_09b0abee h1 h2 v1 x85 v3 x74)) [1] (by decide) rfl
              have hKc := hK.sub (tys' := []) [] rfl
              have hFc := va_free (wc := (wd_09b0abee h1 h2 v1 x85 v3 x74)) hD hS hA [1] rfl
              refine va_callv (va_runV (As := []) (rest := []) ⟨hx, hb, hml, hown, hts⟩ (k_X10_step l dC dI h1 h2 v1 x85 v3 x74 ⟨i_v1a, i_v1b⟩ ⟨oa_x85, ob_x85⟩ H.size) (cwV 0 hts g_X3_readTruth_1_2 rfl rfl rfl (by decide +kernel) ⟨Nat.le_of_ble_eq_true rfl, Nat.le_of_ble_eq_true rfl⟩) (pv_PV10 hPc hKc hDc (q0 := 0) rfl) rfl rfl hl.1 rfl (lv_room (Nat.le_of_ble_eq_true rfl)) dX3_readTruth_36 ⟨Nat.le_of_ble_eq_true rfl, Nat.le_of_ble_eq_true rfl⟩) hS (fun q _ h => hFc q h) hFc (fun u t H1 locs ht hvm hwra87 hB hz1 hk1 hS => ?_)
              obtain ⟨x88, oa_x88, ob_x88, pt0_ra87, hP1, hK1, hD1⟩ := hB
              rw [ht] at hP1
              obtain ⟨hP2, hD2⟩ := va_join (wr := (wd_6b0d8e05 h0 h1 h3 x72 h2 g0 f5 h3 g1 fn75)) (w1 := (wd_09b0abee h1 h2 v1 x88 v3 x74)) hP hD [1] [0, 2, 3] rfl rfl (by decide) (by decide) hk1 hFc hP1 hD1
              clear hP hD hPc hDc hKc hFc hP1 hK1 hD1 hk1 hz1
              generalize H1 = H at hP2 hS ⊢
              have hP := hP2.sub (ws' := (wd_1ad0248d h0 h1 h3 x72 h1 h2 v1 x88 v3 x74 h2 g0 f5 h3 g1 fn75)) [0, 3, 1, 2] rfl
              have hD := hD2.sub (ws' := (wd_1ad0248d h0 h1 h3 x72 h1 h2 v1 x88 v3 x74 h2 g0 f5 h3 g1 fn75)) [0, 3, 1, 2] (by decide) rfl
              clear hP2 hD2
              refine lv_aload_n hx hb dX3_readTruth_39 rfl (lv_at hl 1 rfl) ?_
              refine lv_iload_n hx hb dX3_readTruth_40 rfl (lv_at hl 2 rfl) ?_
              refine lv_iconst (v := 0) hx hb dX3_readTruth_41 (by decide) ?_
              have hPc := hP.sub (ws' := (wd_1ad0248d h0 h1 h3 x72 h1 h2 v1 x88 v3 x74 h2 g0 f5 h3 g1 fn75)) [0, 1, 2, 3] rfl
              have hDc := hD.sub (ws' := (wd_1ad0248d h0 h1 h3 x72 h1 h2 v1 x88 v3 x74 h2 g0 f5 h3 g1 fn75)) [0, 1, 2, 3] (by decide) rfl
              have hKc := hK.sub (tys' := [(g0, .int), (g1, .int)]) [0, 1] rfl
              have hFc := va_free (wc := (wd_1ad0248d h0 h1 h3 x72 h1 h2 v1 x88 v3 x74 h2 g0 f5 h3 g1 fn75)) hD hS hA [0, 1, 2, 3] rfl
              refine va_calli (va_runV (As := [.int 5, .int 0]) (rest := []) ⟨hx, hb, hml, hown, hts⟩ (k_X3_readUnit_2 l dC dI adK adV h0 h1 h2 h3 x72 v1 x88 v3 x74 g0 f5 g1 fn75 ⟨qa_x72, qb_x72⟩ ⟨i_v1a, i_v1b⟩ ⟨by first | omega | decide, ob_x88⟩ ia_f5 H.size) (cwV 2 hts g_X3_readTruth_1_0 rfl rfl rfl (by decide +kernel) ⟨Nat.le_of_ble_eq_true rfl, Nat.le_of_ble_eq_true rfl⟩) ⟨fun a U g mk q => by obtain ⟨q0, q1, qP, qK, qD, n0, n1, n2⟩ := q; exact ⟨q0, q1, qP, va_K.moved (u := U) (U := U.calling g mk a) (Vm.Alike.refl U.vm) qK, qD, vk_R.same rfl n0, va_Z.moved (Vm.Alike.refl _) n1, vk_S.moved (Vm.Alike.refl _) n2⟩, pv_rc3 hKc hPc (q0 := 0) rfl, fun U hU hW => ⟨rfl, by rw [hU], by rw [hU]; exact hPc, va_K.moved hW.alike hKc, hDc.weaken (fun _ _ _ _ => trivial), vk_R.warm hW h_vr_2, (by rw [hU]; exact (va_Z.moved hW.alike (va_Z.kept h_st_CS hS.2.1)).narrow hFc), (by rw [hU]; exact (vk_S.moved hW.alike (vk_S.kept h_st_S hS.2.1)).narrow hFc)⟩⟩ rfl rfl hl.1 rfl (lv_room (Nat.le_of_ble_eq_true rfl)) dX3_readTruth_42 ⟨Nat.le_of_ble_eq_true rfl, Nat.le_of_ble_eq_true rfl⟩) hS (fun q _ h => hFc q h) hFc (fun ra89 u t H1 locs ht hvm hwra89 hB hz1 hk1 hS => ?_)
              try rw [hwra89] at hB
              rcases hB with hB | hB
              · skip
                obtain ⟨x90, x91, x92, fn93, oa_x90, ob_x90, oa_x91, ob_x91, pt0_ra89, pt1_ra89, pt2_ra89, pt3_ra89, hP1, hK1, hD1⟩ := hB
                rw [ht] at hP1
                obtain ⟨hP2, hD2⟩ := va_join (wr := []) (w1 := (wd_1ad0248d h0 h1 h3 x90 h1 h2 v1 x91 v3 x92 h2 g0 f5 h3 g1 fn93)) hP hD [0, 1, 2, 3] [] rfl rfl (by decide) (by decide) hk1 hFc hP1 hD1
                clear hP hD hPc hDc hKc hFc hP1 hK1 hD1 hk1 hz1
                generalize H1 = H at hP2 hS ⊢
                have hP : va_P (dC, dI) vwCl (wd_1ad0248d h0 h1 h3 x90 h1 h2 v1 x91 v3 x92 h2 g0 f5 h3 g1 fn93) H := hP2
                have hD : va_D A (wd_1ad0248d h0 h1 h3 x90 h1 h2 v1 x91 v3 x92 h2 g0 f5 h3 g1 fn93) := hD2
                clear hP2 hD2
                obtain rfl : ra89 = (1 : Int32) := pv_cs (by decide) pt0_ra89 pt1_ra89
                refine lv_if_ne (tgt := 50) hx hb dX3_readTruth_45 (by decide) (fun _ => ?_) (fun c => absurd c (by decide))
                refine lv_aload_n hx hb dX3_readTruth_50 rfl (lv_at hl 1 rfl) ?_
                refine lv_bipush (v := 10) hx hb dX3_readTruth_51 (by decide) ?_
                refine lv_iconst (v := 0) hx hb dX3_readTruth_53 (by decide) ?_
                have hPc := hP.sub (ws' := (wd_b958b9da h0 h1 h3 x90 h3 g1 fn93)) [0, 3] rfl
                have hDc := hD.sub (ws' := (wd_b958b9da h0 h1 h3 x90 h3 g1 fn93)) [0, 3] (by decide) rfl
                have hKc := hK.sub (tys' := [(g1, .int)]) [1] rfl
                have hFc := va_free (wc := (wd_b958b9da h0 h1 h3 x90 h3 g1 fn93)) hD hS hA [0, 3] rfl
                refine va_callv (va_runV (As := [.int 10, .int 0]) (rest := []) ⟨hx, hb, hml, hown, hts⟩ (k_X3_write l dC dI h0 h3 h1 x90 g1 fn93 10 0 ⟨oa_x90, ob_x90⟩ H.size) (cwV 2 hts g_X3_readTruth_1_4 rfl rfl rfl (by decide +kernel) ⟨Nat.le_of_ble_eq_true rfl, Nat.le_of_ble_eq_true rfl⟩) (pv_PV3 hPc hKc hDc (q0 := 0) rfl) rfl rfl hl.1 rfl (lv_room (Nat.le_of_ble_eq_true rfl)) dX3_readTruth_54 ⟨Nat.le_of_ble_eq_true rfl, Nat.le_of_ble_eq_true rfl⟩) hS (fun q _ h => hFc q h) hFc (fun u t H1 locs ht hvm hwra94 hB hz1 hk1 hS => ?_)
                obtain ⟨x95, fn96, oa_x95, ob_x95, hP1, hK1, hD1⟩ := hB
                rw [ht] at hP1
                obtain ⟨hP2, hD2⟩ := va_join (wr := (wd_82cdd16b h1 h2 v1 x91 v3 x92 h2 g0 f5)) (w1 := (wd_b958b9da h0 h1 h3 x95 h3 g1 fn96)) hP hD [0, 3] [1, 2] rfl rfl (by decide) (by decide) hk1 hFc hP1 hD1
                clear hP hD hPc hDc hKc hFc hP1 hK1 hD1 hk1 hz1
                generalize H1 = H at hP2 hS ⊢
                have hP := hP2.sub (ws' := (wd_1ad0248d h0 h1 h3 x95 h1 h2 v1 x91 v3 x92 h2 g0 f5 h3 g1 fn96)) [2, 0, 1, 3] rfl
                have hD := hD2.sub (ws' := (wd_1ad0248d h0 h1 h3 x95 h1 h2 v1 x91 v3 x92 h2 g0 f5 h3 g1 fn96)) [2, 0, 1, 3] (by decide) rfl
                clear hP2 hD2
                obtain ⟨t97, et97⟩ : ∃ y : Int32, y = x71 + 1 := ⟨_, rfl⟩
                have gt97 : t97.toInt = x71.toInt + (1) := pv_add (a := x71.toInt) (b := (1)) et97 rfl (by decide) (by omega) (by omega)
                refine lv_iinc (v := t97) (lv' := [(3, .int t97), (0, .ref h0), (1, .int 5), (2, .int 0)]) hx hb dX3_readTruth_57 hl (k := 0) rfl (by rw [et97]; rfl) (by decide) rfl (fun ls hl => ?_)
                refine lv_goto (tgt := 13) hx hb dX3_readTruth_60 (by decide) ?_
                exact ih_hL81 t97 x95 x91 x92 fn96 H locs ls (by first | omega | decide) (by first | omega | decide) oa_x95 ob_x95 oa_x91 ob_x91 (by first | assumption | (apply pg_row.go <;> first | assumption | omega) | (apply pg_L.bi <;> first | assumption | omega) | (apply pg_L.step <;> first | assumption | omega)) (by first | omega | ((have h09 : ((0 : Int32)).toInt = 0 := by decide); omega)) (by omega) (by first | omega | (simp only [Int.toNat] at *; omega)) hP hD hS (lv_sub hl [0, 1, 2, 3] rfl)
              · skip
                obtain ⟨x98, x99, x100, x101, fn102, oa_x98, ob_x98, oa_x99, ob_x99, oa_x100, ob_x100, pt0_ra89, pt1_ra89, pt2_ra89, pt3_ra89, hP1, hK1, hD1⟩ := hB
                rw [ht] at hP1
                obtain ⟨hP2, hD2⟩ := va_join (wr := []) (w1 := (wd_1ad0248d h0 h1 h3 x98 h1 h2 v1 x99 x100 x101 h2 g0 f5 h3 g1 fn102)) hP hD [0, 1, 2, 3] [] rfl rfl (by decide) (by decide) hk1 hFc hP1 hD1
                clear hP hD hPc hDc hKc hFc hP1 hK1 hD1 hk1 hz1
                generalize H1 = H at hP2 hS ⊢
                have hP : va_P (dC, dI) vwCl (wd_1ad0248d h0 h1 h3 x98 h1 h2 v1 x99 x100 x101 h2 g0 f5 h3 g1 fn102) H := hP2
                have hD : va_D A (wd_1ad0248d h0 h1 h3 x98 h1 h2 v1 x99 x100 x101 h2 g0 f5 h3 g1 fn102) := hD2
                clear hP2 hD2
                obtain rfl : ra89 = (0 : Int32) := pv_cs (by decide) pt0_ra89 pt1_ra89
                refine lv_if_ne (tgt := 50) hx hb dX3_readTruth_45 (by decide) (fun c => absurd (by decide) c) (fun _ => ?_)
                refine lv_iconst (v := 0) hx hb dX3_readTruth_48 (by decide) ?_
                subst hQ
                have hP9 := hP.sub (ws' := (wd_1ad0248d h0 h1 h3 x98 h1 h2 v1 x99 x100 x101 h2 g0 f5 h3 g1 fn102)) [0, 1, 2, 3] rfl
                have hD9 := hD.sub (ws' := (wd_1ad0248d h0 h1 h3 x98 h1 h2 v1 x99 x100 x101 h2 g0 f5 h3 g1 fn102)) [0, 1, 2, 3] (by decide) rfl
                have hK9 := hK.sub (tys' := []) [] rfl
                exact W.zret (v := 0) hx hb hr rfl (fun t ht hW => ⟨⟨0, 0, rfl, rfl, Or.inr (⟨x98, x99, x100, x101, fn102, oa_x98, ob_x98, oa_x99, ob_x99, oa_x100, ob_x100, by first | omega | decide, by first | omega | decide, by omega, by first | assumption | (apply pg_bind.no <;> first | assumption | omega) | (apply pg_L.no <;> first | assumption | omega), by rw [ht]; exact hP9, va_K.moved hW.alike hK9, hD9⟩)⟩, hS.F ht⟩) hS.2.2 dX3_readTruth_49
    exact hL81 _ 0 x2 x3 x4 fn5 H locs ls (by decide) (by decide) oa_x2 ob_x2 oa_x3 ob_x3 (by first | assumption | (apply pg_row.go <;> first | assumption | omega) | (apply pg_L.bi <;> first | assumption | omega) | (apply pg_L.step <;> first | assumption | omega)) (by first | omega | ((have h09 : ((0 : Int32)).toInt = 0 := by decide); omega)) (by omega) (Nat.lt_succ_self _) hP hD hS (lv_sub hl [0, 1, 2, 3] rfl)
  · skip
    obtain ⟨x103, x104, x105, x106, fn107, oa_x103, ob_x103, oa_x104, ob_x104, oa_x105, ob_x105, pt0_ra1, pt1_ra1, pt2_ra1, pt3_ra1, hP1, hK1, hD1⟩ := hB
    rw [ht] at hP1
    obtain ⟨hP2, hD2⟩ := va_join (wr := []) (w1 := (wd_1ad0248d h0 h1 h3 x103 h1 h2 v1 x104 x105 x106 h2 g0 f5 h3 g1 fn107)) hP hD [0, 1, 2, 3] [] rfl rfl (by decide) (by decide) hk1 hFc hP1 hD1
    clear hP hD hPc hDc hKc hFc hP1 hK1 hD1 hk1 hz1
    generalize H1 = H at hP2 hS ⊢
    have hP : va_P (dC, dI) vwCl (wd_1ad0248d h0 h1 h3 x103 h1 h2 v1 x104 x105 x106 h2 g0 f5 h3 g1 fn107) H := hP2
    have hD : va_D A (wd_1ad0248d h0 h1 h3 x103 h1 h2 v1 x104 x105 x106 h2 g0 f5 h3 g1 fn107) := hD2
    clear hP2 hD2
    obtain rfl : ra1 = (0 : Int32) := pv_cs (by decide) pt0_ra1 pt1_ra1
    refine lv_if_ne (tgt := 11) hx hb dX3_readTruth_6 (by decide) (fun c => absurd (by decide) c) (fun _ => ?_)
    refine lv_iconst (v := 0) hx hb dX3_readTruth_9 (by decide) ?_
    subst hQ
    have hP9 := hP.sub (ws' := (wd_1ad0248d h0 h1 h3 x103 h1 h2 v1 x104 x105 x106 h2 g0 f5 h3 g1 fn107)) [0, 1, 2, 3] rfl
    have hD9 := hD.sub (ws' := (wd_1ad0248d h0 h1 h3 x103 h1 h2 v1 x104 x105 x106 h2 g0 f5 h3 g1 fn107)) [0, 1, 2, 3] (by decide) rfl
    have hK9 := hK.sub (tys' := []) [] rfl
    exact W.zret (v := 0) hx hb hr rfl (fun t ht hW => ⟨⟨0, 0, rfl, rfl, Or.inr (⟨x103, x104, x105, x106, fn107, oa_x103, ob_x103, oa_x104, ob_x104, oa_x105, ob_x105, by first | omega | decide, by first | omega | decide, by omega, by first | assumption | (apply pg_bind.no <;> first | assumption | omega) | (apply pg_L.no <;> first | assumption | omega), by rw [ht]; exact hP9, va_K.moved hW.alike hK9, hD9⟩)⟩, hS.F ht⟩) hS.2.2 dX3_readTruth_10
def q_X3_readCondition_1 : List Cond := .code yX3_readCondition cX3_readCondition 4 (some .boolean) :: (([.code yX3_readTruth cX3_readTruth 4 (some .boolean), .code yX3_readUnit cX3_readUnit 5 (some .boolean), .fieldLink RX3 19 "LeftArguments$LawReader" "tape" "LLeftArguments$Tape;", .code yX10_next cX10_next 1 (some .int), .fieldLink RX10 19 "LeftArguments$Tape" "at" "I", .fieldLink RX10 15 "LeftArguments$Tape" "used" "I", .fieldLink RX10 9 "LeftArguments$Tape" "bytes" "[I", .initialized RX10, .instanceMethod yX10_next, .selects RX10 yX10_next yX10_next, .methodLink RX3 48 yX10_next, .code yX3_readSum cX3_readSum 4 (some .boolean), .code yX3_readTerm cX3_readTerm 4 (some .boolean), .code yX3_readAtom cX3_readAtom 4 (some .boolean), .code yX10_isDigit cX10_isDigit 1 (some .boolean), .static yX10_isDigit, .methodLink RX3 92 yX10_isDigit, .code yX10_wrongHere cX10_wrongHere 1 (some .boolean), .fieldLink RX10 22 "LeftArguments$Tape" "wrongAt" "I", .instanceMethod yX10_wrongHere, .selects RX10 yX10_wrongHere yX10_wrongHere, .methodLink RX3 83 yX10_wrongHere, .code yJ0_indexOf_0f7a4 cJ0_indexOf_0f7a4 2 (some .int), .code yJ0_indexOf_7cf53 cJ0_indexOf_7cf53 3 (some .int), .code yJ0_isLatin1_aae02 cJ0_isLatin1_aae02 1 (some .boolean), .fieldLink RJ0 38 "java/lang/String" "COMPACT_STRINGS" "Z", .fieldLink RJ0 15 "java/lang/String" "coder" "B", .initialized RJ0, .instanceMethod yJ0_isLatin1_aae02, .selects RJ0 yJ0_isLatin1_aae02 yJ0_isLatin1_aae02, .methodLink RJ0 492 yJ0_isLatin1_aae02, .fieldLink RJ0 9 "java/lang/String" "value" "[B", .code yJ0_length_8abf5 cJ0_length_8abf5 1 (some .int), .code yJ0_coder_7d493 cJ0_coder_7d493 1 (some .byte), .instanceMethod yJ0_coder_7d493, .selects RJ0 yJ0_coder_7d493 yJ0_coder_7d493, .methodLink RJ0 335 yJ0_coder_7d493, .instanceMethod yJ0_length_8abf5, .selects RJ0 yJ0_length_8abf5 yJ0_length_8abf5, .methodLink RJ0 505 yJ0_length_8abf5, .code yJ1_indexOf_4cfef cJ1_indexOf_4cfef 4 (some .int), .code yJ1_canEncode_9a6ad cJ1_canEncode_9a6ad 1 (some .boolean), .initialized RJ1, .static yJ1_canEncode_9a6ad, .methodLink RJ1 88 yJ1_canEncode_9a6ad, .methodLink RJ1 92 Lib.Math.max.name, .static Lib.Math.max.name, .initialized "java/lang/Math", .code Lib.Math.max.name Lib.Math.max.code 2 (some .int), .methodLink RJ1 38 Lib.Math.min.name, .static Lib.Math.min.name, .code Lib.Math.min.name Lib.Math.min.code 2 (some .int), .code yJ1_indexOfChar_4cfef cJ1_indexOfChar_4cfef 6 (some .int), .static yJ1_indexOfChar_4cfef, .methodLink RJ1 95 yJ1_indexOfChar_4cfef, .static yJ1_indexOf_4cfef, .methodLink RJ0 637 yJ1_indexOf_4cfef, .instanceMethod yJ0_indexOf_7cf53, .selects RJ0 yJ0_indexOf_7cf53 yJ0_indexOf_7cf53, .methodLink RJ0 633 yJ0_indexOf_7cf53, .instanceMethod yJ0_indexOf_0f7a4, .selects RJ0 yJ0_indexOf_0f7a4 yJ0_indexOf_0f7a4, .methodLink RX3 103 yJ0_indexOf_0f7a4, .code yX10_step cX10_step 1 none, .instanceMethod yX10_step, .selects RX10 yX10_step yX10_step, .methodLink RX3 77 yX10_step, .code yX3_write cX3_write 3 none, .fieldLink RX3 15 "LeftArguments$LawReader" "used" "I", .fieldLink RX3 11 "LeftArguments$LawReader" "code" "[I", .initialized RX3, .instanceMethod yX3_write, .selects RX3 yX3_write yX3_write, .methodLink RX3 66 yX3_write, .code yX10_takeNumber cX10_takeNumber 3 (some .boolean), .methodLink RX10 37 yX10_next, .methodLink RX10 45 yX10_isDigit, .methodLink RX10 41 yX10_wrongHere, .fieldLink RX10 25 "LeftArguments$Tape" "number" "I", .code yX10_sign cX10_sign 1 (some .int), .instanceMethod yX10_sign, .selects RX10 yX10_sign yX10_sign, .methodLink RX10 49 yX10_sign, .instanceMethod yX10_takeNumber, .selects RX10 yX10_takeNumber yX10_takeNumber, .methodLink RX3 95 yX10_takeNumber, .code yX10_number cX10_number 1 (some .int), .instanceMethod yX10_number, .selects RX10 yX10_number yX10_number, .methodLink RX3 98 yX10_number, .instanceMethod yX3_readAtom, .selects RX3 yX3_readAtom yX3_readAtom, .methodLink RX3 89 yX3_readAtom, .instanceMethod yX3_readTerm, .selects RX3 yX3_readTerm yX3_readTerm, .methodLink RX3 86 yX3_readTerm, .instanceMethod yX3_readSum, .selects RX3 yX3_readSum yX3_readSum, .methodLink RX3 59 yX3_readSum, .code yX10_take cX10_take 2 (some .boolean), .instanceMethod yX10_take, .selects RX10 yX10_take yX10_take, .methodLink RX3 51 yX10_take, .code yX3_comparing cX3_comparing 1 (some .int), .static yX3_comparing, .methodLink RX3 62 yX3_comparing, .instanceMethod yX3_readUnit, .selects RX3 yX3_readUnit yX3_readUnit, .methodLink RX3 80 yX3_readUnit, .code yX3_readCondition cX3_readCondition 4 (some .boolean), .instanceMethod yX3_readTruth, .selects RX3 yX3_readTruth yX3_readTruth, .methodLink RX3 74 yX3_readTruth, .instanceMethod yX3_readCondition, .selects RX3 yX3_readCondition yX3_readCondition, .methodLink RX3 70 yX3_readCondition] : List Cond) ++ wsX30 ++ wsX100)
set_option maxRecDepth 20000 in
theorem g_X3_readCondition_1_0 : GoodIn q_X3_readCondition_1 (wsV RX3 74 RX3 yX3_readTruth q_X3_readTruth_1) := goodIn_app (goodIn_r _ [113, 111, 112, 71] rfl (by decide +kernel)) (goodIn_ca (goodIn_ca (goodIn_r (.code yX3_readTruth cX3_readTruth 4 (some .boolean) :: [.code yX3_readUnit cX3_readUnit 5 (some .boolean), .fieldLink RX3 19 "LeftArguments$LawReader" "tape" "LLeftArguments$Tape;", .code yX10_next cX10_next 1 (some .int), .fieldLink RX10 19 "LeftArguments$Tape" "at" "I", .fieldLink RX10 15 "LeftArguments$Tape" "used" "I", .fieldLink RX10 9 "LeftArguments$Tape" "bytes" "[I", .initialized RX10, .instanceMethod yX10_next, .selects RX10 yX10_next yX10_next, .methodLink RX3 48 yX10_next, .code yX3_readSum cX3_readSum 4 (some .boolean), .code yX3_readTerm cX3_readTerm 4 (some .boolean), .code yX3_readAtom cX3_readAtom 4 (some .boolean), .code yX10_isDigit cX10_isDigit 1 (some .boolean), .static yX10_isDigit, .methodLink RX3 92 yX10_isDigit, .code yX10_wrongHere cX10_wrongHere 1 (some .boolean), .fieldLink RX10 22 "LeftArguments$Tape" "wrongAt" "I", .instanceMethod yX10_wrongHere, .selects RX10 yX10_wrongHere yX10_wrongHere, .methodLink RX3 83 yX10_wrongHere, .code yJ0_indexOf_0f7a4 cJ0_indexOf_0f7a4 2 (some .int), .code yJ0_indexOf_7cf53 cJ0_indexOf_7cf53 3 (some .int), .code yJ0_isLatin1_aae02 cJ0_isLatin1_aae02 1 (some .boolean), .fieldLink RJ0 38 "java/lang/String" "COMPACT_STRINGS" "Z", .fieldLink RJ0 15 "java/lang/String" "coder" "B", .initialized RJ0, .instanceMethod yJ0_isLatin1_aae02, .selects RJ0 yJ0_isLatin1_aae02 yJ0_isLatin1_aae02, .methodLink RJ0 492 yJ0_isLatin1_aae02, .fieldLink RJ0 9 "java/lang/String" "value" "[B", .code yJ0_length_8abf5 cJ0_length_8abf5 1 (some .int), .code yJ0_coder_7d493 cJ0_coder_7d493 1 (some .byte), .instanceMethod yJ0_coder_7d493, .selects RJ0 yJ0_coder_7d493 yJ0_coder_7d493, .methodLink RJ0 335 yJ0_coder_7d493, .instanceMethod yJ0_length_8abf5, .selects RJ0 yJ0_length_8abf5 yJ0_length_8abf5, .methodLink RJ0 505 yJ0_length_8abf5, .code yJ1_indexOf_4cfef cJ1_indexOf_4cfef 4 (some .int), .code yJ1_canEncode_9a6ad cJ1_canEncode_9a6ad 1 (some .boolean), .initialized RJ1, .static yJ1_canEncode_9a6ad, .methodLink RJ1 88 yJ1_canEncode_9a6ad, .methodLink RJ1 92 Lib.Math.max.name, .static Lib.Math.max.name, .initialized "java/lang/Math", .code Lib.Math.max.name Lib.Math.max.code 2 (some .int), .methodLink RJ1 38 Lib.Math.min.name, .static Lib.Math.min.name, .code Lib.Math.min.name Lib.Math.min.code 2 (some .int), .code yJ1_indexOfChar_4cfef cJ1_indexOfChar_4cfef 6 (some .int), .static yJ1_indexOfChar_4cfef, .methodLink RJ1 95 yJ1_indexOfChar_4cfef, .static yJ1_indexOf_4cfef, .methodLink RJ0 637 yJ1_indexOf_4cfef, .instanceMethod yJ0_indexOf_7cf53, .selects RJ0 yJ0_indexOf_7cf53 yJ0_indexOf_7cf53, .methodLink RJ0 633 yJ0_indexOf_7cf53, .instanceMethod yJ0_indexOf_0f7a4, .selects RJ0 yJ0_indexOf_0f7a4 yJ0_indexOf_0f7a4, .methodLink RX3 103 yJ0_indexOf_0f7a4, .code yX10_step cX10_step 1 none, .instanceMethod yX10_step, .selects RX10 yX10_step yX10_step, .methodLink RX3 77 yX10_step, .code yX3_write cX3_write 3 none, .fieldLink RX3 15 "LeftArguments$LawReader" "used" "I", .fieldLink RX3 11 "LeftArguments$LawReader" "code" "[I", .initialized RX3, .instanceMethod yX3_write, .selects RX3 yX3_write yX3_write, .methodLink RX3 66 yX3_write, .code yX10_takeNumber cX10_takeNumber 3 (some .boolean), .methodLink RX10 37 yX10_next, .methodLink RX10 45 yX10_isDigit, .methodLink RX10 41 yX10_wrongHere, .fieldLink RX10 25 "LeftArguments$Tape" "number" "I", .code yX10_sign cX10_sign 1 (some .int), .instanceMethod yX10_sign, .selects RX10 yX10_sign yX10_sign, .methodLink RX10 49 yX10_sign, .instanceMethod yX10_takeNumber, .selects RX10 yX10_takeNumber yX10_takeNumber, .methodLink RX3 95 yX10_takeNumber, .code yX10_number cX10_number 1 (some .int), .instanceMethod yX10_number, .selects RX10 yX10_number yX10_number, .methodLink RX3 98 yX10_number, .instanceMethod yX3_readAtom, .selects RX3 yX3_readAtom yX3_readAtom, .methodLink RX3 89 yX3_readAtom, .instanceMethod yX3_readTerm, .selects RX3 yX3_readTerm yX3_readTerm, .methodLink RX3 86 yX3_readTerm, .instanceMethod yX3_readSum, .selects RX3 yX3_readSum yX3_readSum, .methodLink RX3 59 yX3_readSum, .code yX10_take cX10_take 2 (some .boolean), .instanceMethod yX10_take, .selects RX10 yX10_take yX10_take, .methodLink RX3 51 yX10_take, .code yX3_comparing cX3_comparing 1 (some .int), .static yX3_comparing, .methodLink RX3 62 yX3_comparing, .instanceMethod yX3_readUnit, .selects RX3 yX3_readUnit yX3_readUnit, .methodLink RX3 80 yX3_readUnit, .code yX3_readCondition cX3_readCondition 4 (some .boolean), .code yX3_readTruth cX3_readTruth 4 (some .boolean), .instanceMethod yX3_readTruth, .selects RX3 yX3_readTruth yX3_readTruth, .methodLink RX3 74 yX3_readTruth, .instanceMethod yX3_readCondition, .selects RX3 yX3_readCondition yX3_readCondition, .methodLink RX3 70 yX3_readCondition]) [1, 2, 3, 4, 5, 6, 7, 8, 9, 10, 11, 12, 13, 14, 15, 16, 17, 18, 19, 20, 21, 22, 23, 24, 25, 26, 27, 28, 29, 30, 31, 32, 33, 34, 35, 36, 37, 38, 39, 40, 41, 42, 43, 44, 45, 46, 47, 48, 49, 50, 51, 52, 53, 54, 55, 56, 57, 58, 59, 60, 61, 62, 63, 64, 65, 66, 67, 68, 69, 70, 71, 72, 73, 74, 75, 76, 77, 78, 79, 80, 81, 82, 83, 84, 85, 86, 87, 88, 89, 90, 91, 92, 93, 94, 95, 96, 97, 98, 99, 100, 101, 102, 103, 104, 105, 106, 107, 108, 109, 110, 1, 111, 112, 113, 114, 115, 116] rfl (by decide +kernel)) (goodIn_sub (fun _ h => List.mem_cons_of_mem _ (List.mem_append_left _ (List.mem_append_right _ h))) gwX3)) (goodIn_sub (fun _ h => List.mem_cons_of_mem _ (List.mem_append_right _ h)) gwX10))
set_option maxRecDepth 20000 in
theorem g_X3_readCondition_1_1 : GoodIn q_X3_readCondition_1 (wsV RX3 48 RX10 yX10_next q_X10_next) := goodIn_app (goodIn_r _ [11, 9, 10, 8] rfl (by decide +kernel)) (goodIn_ca (goodIn_r (.code yX10_next cX10_next 1 (some .int) :: [.fieldLink RX10 19 "LeftArguments$Tape" "at" "I", .fieldLink RX10 15 "LeftArguments$Tape" "used" "I", .fieldLink RX10 9 "LeftArguments$Tape" "bytes" "[I"]) [4, 5, 6, 7] rfl (by decide +kernel)) (goodIn_sub (fun _ h => List.mem_cons_of_mem _ (List.mem_append_right _ h)) gwX10))
set_option maxRecDepth 20000 in
theorem g_X3_readCondition_1_2 : GoodIn q_X3_readCondition_1 (wsV RX3 77 RX10 yX10_step q_X10_step) := goodIn_app (goodIn_r _ [67, 65, 66, 8] rfl (by decide +kernel)) (goodIn_ca (goodIn_r (.code yX10_step cX10_step 1 none :: [.fieldLink RX10 19 "LeftArguments$Tape" "at" "I"]) [64, 5] rfl (by decide +kernel)) (goodIn_sub (fun _ h => List.mem_cons_of_mem _ (List.mem_append_right _ h)) gwX10))
set_option maxRecDepth 20000 in
theorem g_X3_readCondition_1_4 : GoodIn q_X3_readCondition_1 (wsV RX3 66 RX3 yX3_write q_X3_write) := goodIn_app (goodIn_r _ [74, 72, 73, 71] rfl (by decide +kernel)) (goodIn_ca (goodIn_r (.code yX3_write cX3_write 3 none :: [.fieldLink RX3 15 "LeftArguments$LawReader" "used" "I", .fieldLink RX3 11 "LeftArguments$LawReader" "code" "[I"]) [68, 69, 70] rfl (by decide +kernel)) (goodIn_sub (fun _ h => List.mem_cons_of_mem _ (List.mem_append_left _ (List.mem_append_right _ h))) gwX3))
set_option maxHeartbeats 4000000 in
set_option maxRecDepth 100000 in
theorem k_X3_readCondition_1 (l : Launch) (dC : Nat → ClassId) (dI : Nat → Nat → Nat) (adK : Nat → Nat) (adV : Nat → Nat) (h0 : Nat) (h1 : Nat) (h2 : Nat) (h3 : Nat) (v0 : Int32) (v1 : Int32) (v2 : Int32) (v3 : Int32) (v4 : Int32) (g0 : ClassId) (f5 : Nat → Int32) (g1 : ClassId) (f6 : Nat → Int32) (i_v0 : 0 ≤ v0.toInt ∧ v0.toInt ≤ 256) (i_v1 : 0 ≤ v1.toInt ∧ v1.toInt ≤ 240) (i_v2 : 0 ≤ v2.toInt ∧ v2.toInt ≤ 240) (ia_f5 : (∀ j, 0 ≤ (f5 j).toInt ∧ (f5 j).toInt ≤ 255)) (sz : Nat) : Met l yX3_readCondition q_X3_readCondition_1 ({ frames := 12, cells := 0, slots := 0, locals := 277 }) (va_Pc [.ref h0, .int 5, .int 0] (fun U => U.heap.size = sz ∧ va_P (dC, dI) vwCl (wd_1ad0248d h0 h1 h3 v0 h1 h2 v1 v2 v3 v4 h2 g0 f5 h3 g1 f6) U.heap ∧ va_K (dC, dI) vwCl [(g0, .int), (g1, .int)] U ∧ va_D (fun _ => True) (wd_1ad0248d h0 h1 h3 v0 h1 h2 v1 v2 v3 v4 h2 g0 f5 h3 g1 f6) ∧ vk_R RX3 101 "zaondt" (adK 2) U ∧ va_Z "java/lang/String" "COMPACT_STRINGS" "Z" (.int 1) (va_A (wd_1ad0248d h0 h1 h3 v0 h1 h2 v1 v2 v3 v4 h2 g0 f5 h3 g1 f6) sz) U U.heap ∧ vk_S 3 pv_len3 pv_byt3 adK adV (va_A (wd_1ad0248d h0 h1 h3 v0 h1 h2 v1 v2 v3 v4 h2 g0 f5 h3 g1 f6) sz) U U.heap)) (va_Qi (fun (r : Int32) (r9 : Int32) => r9 = r) (fun (r : Int32) (t : State) => (∃ (o_h0_2 : Int32) (o_h1_2 : Int32) (o_h1_4 : Int32) (o_h3 : Nat → Int32), 0 ≤ o_h0_2.toInt ∧ o_h0_2.toInt ≤ 256 ∧ 0 ≤ o_h1_2.toInt ∧ o_h1_2.toInt ≤ 240 ∧ (1 ≤ r.toInt) ∧ (r.toInt ≤ 1) ∧ (v2.toInt ≤ o_h1_2.toInt) ∧ (pg_con f5 v1.toInt (pg_unit f5 v1.toInt 1) v2.toInt = (true, o_h1_2.toInt)) ∧ va_P (dC, dI) vwCl (wd_1ad0248d h0 h1 h3 o_h0_2 h1 h2 v1 o_h1_2 v3 o_h1_4 h2 g0 f5 h3 g1 o_h3) t.heap ∧ va_K (dC, dI) vwCl [] t ∧ va_D (va_A (wd_1ad0248d h0 h1 h3 v0 h1 h2 v1 v2 v3 v4 h2 g0 f5 h3 g1 f6) sz) (wd_1ad0248d h0 h1 h3 o_h0_2 h1 h2 v1 o_h1_2 v3 o_h1_4 h2 g0 f5 h3 g1 o_h3)) ∨ (∃ (o_h0_2 : Int32) (o_h1_2 : Int32) (o_h1_3 : Int32) (o_h1_4 : Int32) (o_h3 : Nat → Int32), 0 ≤ o_h0_2.toInt ∧ o_h0_2.toInt ≤ 256 ∧ 0 ≤ o_h1_2.toInt ∧ o_h1_2.toInt ≤ 240 ∧ 0 ≤ o_h1_3.toInt ∧ o_h1_3.toInt ≤ 240 ∧ (0 ≤ r.toInt) ∧ (r.toInt ≤ 0) ∧ (v2.toInt ≤ o_h1_2.toInt) ∧ (pg_con f5 v1.toInt (pg_unit f5 v1.toInt 1) v2.toInt = (false, o_h1_3.toInt)) ∧ va_P (dC, dI) vwCl (wd_1ad0248d h0 h1 h3 o_h0_2 h1 h2 v1 o_h1_2 o_h1_3 o_h1_4 h2 g0 f5 h3 g1 o_h3) t.heap ∧ va_K (dC, dI) vwCl [] t ∧ va_D (va_A (wd_1ad0248d h0 h1 h3 v0 h1 h2 v1 v2 v3 v4 h2 g0 f5 h3 g1 f6) sz) (wd_1ad0248d h0 h1 h3 o_h0_2 h1 h2 v1 o_h1_2 o_h1_3 o_h1_4 h2 g0 f5 h3 g1 o_h3))) (va_A (wd_1ad0248d h0 h1 h3 v0 h1 h2 v1 v2 v3 v4 h2 g0 f5 h3 g1 f6) sz)) 0 0 (va_A (wd_1ad0248d h0 h1 h3 v0 h1 h2 v1 v2 v3 v4 h2 g0 f5 h3 g1 f6) sz) := by
  refine Met.ofW (cc := cX3_readCondition) (maxL := 4) (ret := (some .boolean)) (by decide) rfl ?_
  intro p e s m args below meth c s₁ B hml hv
  obtain ⟨i_v0a, i_v0b⟩ := i_v0
  obtain ⟨i_v1a, i_v1b⟩ := i_v1
  obtain ⟨i_v2a, i_v2b⟩ := i_v2
  obtain ⟨rfl, hsz, hP, hK, hD0, h_vr_2, h_st_CS, h_st_S⟩ := hv
  have hx := B.exec
  have hb := B.bytes
  have hr := B.returns
  have hts := atoms_spec (ws := q_X3_readCondition_1) B.pre
  have hown : s.vm.findClass RX3 = some m.cls := findClass_of_methodNamed B.named
  have hlocks := B.notSynchronized
  subst hsz
  have hD := hD0.self (sz := s.heap.size)
  generalize hAe : va_A (wd_1ad0248d h0 h1 h3 v0 h1 h2 v1 v2 v3 v4 h2 g0 f5 h3 g1 f6) s.heap.size = A at hD h_st_CS h_st_S ⊢
  have hA : ∀ q : Nat, s.heap.size ≤ q → A q := fun q h => by rw [← hAe]; exact Or.inr h
  have hS : va_S A s.heap s.heap [] := va_S.rf
  generalize hQ : (MQ below _ _ s 0 0 A) = Q
  have hl := lv_entry ([.ref h0, .int 5, .int 0]) (n := 4) (Nat.le_of_ble_eq_true rfl)
  rw [lg_entry_eq]
  generalize (lg_sl ([.ref h0, .int 5, .int 0]) ++ List.replicate (4 - (lg_sl ([.ref h0, .int 5, .int 0])).length) Slot.unset).toArray = ls at hl ⊢
  have hl : lv_has ls 4 [(0, .ref h0), (1, .int 5), (2, .int 0)] := hl
  obtain ⟨H, hH⟩ : ∃ H : Heap, H = s.heap := ⟨_, rfl⟩
  obtain ⟨locs, hlocs⟩ : ∃ y : List Loc, y = [] := ⟨_, rfl⟩
  have hS : va_S A s.heap H locs := by rw [hH, hlocs]; exact va_S.rf
  have hP : va_P (dC, dI) vwCl (wd_1ad0248d h0 h1 h3 v0 h1 h2 v1 v2 v3 v4 h2 g0 f5 h3 g1 f6) H := by rw [hH]; exact hP
  rw [← hH, ← hlocs]
  refine lv_aload_n hx hb dX3_readCondition_0 rfl (lv_at hl 0 rfl) ?_
  refine lv_iload_n hx hb dX3_readCondition_1 rfl (lv_at hl 1 rfl) ?_
  refine lv_iload_n hx hb dX3_readCondition_2 rfl (lv_at hl 2 rfl) ?_
  have hPc := hP.sub (ws' := (wd_1ad0248d h0 h1 h3 v0 h1 h2 v1 v2 v3 v4 h2 g0 f5 h3 g1 f6)) [0, 1, 2, 3] rfl
  have hDc := hD.sub (ws' := (wd_1ad0248d h0 h1 h3 v0 h1 h2 v1 v2 v3 v4 h2 g0 f5 h3 g1 f6)) [0, 1, 2, 3] (by decide) rfl
  have hKc := hK.sub (tys' := [(g0, .int), (g1, .int)]) [0, 1] rfl
  have hFc := va_free (wc := (wd_1ad0248d h0 h1 h3 v0 h1 h2 v1 v2 v3 v4 h2 g0 f5 h3 g1 f6)) hD hS hA [0, 1, 2, 3] rfl
  refine va_calli (va_runV (As := [.int 5, .int 0]) (rest := []) ⟨hx, hb, hml, hown, hts⟩ (k_X3_readTruth_1 l dC dI adK adV h0 h1 h2 h3 v0 v1 v2 v3 v4 g0 f5 g1 f6 ⟨i_v0a, i_v0b⟩ ⟨i_v1a, i_v1b⟩ ⟨i_v2a, i_v2b⟩ ia_f5 H.size) (cwV 2 hts g_X3_readCondition_1_0 rfl rfl rfl (by decide +kernel) ⟨Nat.le_of_ble_eq_true rfl, Nat.le_of_ble_eq_true rfl⟩) ⟨fun a U g mk q => by obtain ⟨q0, q1, qP, qK, qD, n0, n1, n2⟩ := q; exact ⟨q0, q1, qP, va_K.moved (u := U) (U := U.calling g mk a) (Vm.Alike.refl U.vm) qK, qD, vk_R.same rfl n0, va_Z.moved (Vm.Alike.refl _) n1, vk_S.moved (Vm.Alike.refl _) n2⟩, pv_rc3 hKc hPc (q0 := 0) rfl, fun U hU hW => ⟨rfl, by rw [hU], by rw [hU]; exact hPc, va_K.moved hW.alike hKc, hDc.weaken (fun _ _ _ _ => trivial), vk_R.warm hW h_vr_2, (by rw [hU]; exact (va_Z.moved hW.alike (va_Z.kept h_st_CS hS.2.1)).narrow hFc), (by rw [hU]; exact (vk_S.moved hW.alike (vk_S.kept h_st_S hS.2.1)).narrow hFc)⟩⟩ rfl rfl hl.1 rfl (lv_room (Nat.le_of_ble_eq_true rfl)) dX3_readCondition_3 ⟨Nat.le_of_ble_eq_true rfl, Nat.le_of_ble_eq_true rfl⟩) hS (fun q _ h => hFc q h) hFc (fun ra1 u t H1 locs ht hvm hwra1 hB hz1 hk1 hS => ?_)
  try rw [hwra1] at hB
  rcases hB with hB | hB
  · skip
    obtain ⟨x2, x3, x4, fn5, oa_x2, ob_x2, oa_x3, ob_x3, pt0_ra1, pt1_ra1, pt2_ra1, pt3_ra1, hP1, hK1, hD1⟩ := hB
    rw [ht] at hP1
    obtain ⟨hP2, hD2⟩ := va_join (wr := []) (w1 := (wd_1ad0248d h0 h1 h3 x2 h1 h2 v1 x3 v3 x4 h2 g0 f5 h3 g1 fn5)) hP hD [0, 1, 2, 3] [] rfl rfl (by decide) (by decide) hk1 hFc hP1 hD1
    clear hP hD hPc hDc hKc hFc hP1 hK1 hD1 hk1 hz1
    generalize H1 = H at hP2 hS ⊢
    have hP : va_P (dC, dI) vwCl (wd_1ad0248d h0 h1 h3 x2 h1 h2 v1 x3 v3 x4 h2 g0 f5 h3 g1 fn5) H := hP2
    have hD : va_D A (wd_1ad0248d h0 h1 h3 x2 h1 h2 v1 x3 v3 x4 h2 g0 f5 h3 g1 fn5) := hD2
    clear hP2 hD2
    obtain rfl : ra1 = (1 : Int32) := pv_cs (by decide) pt0_ra1 pt1_ra1
    refine lv_if_ne (tgt := 11) hx hb dX3_readCondition_6 (by decide) (fun _ => ?_) (fun c => absurd c (by decide))
    refine lv_iconst (v := 0) hx hb dX3_readCondition_11 (by decide) ?_
    refine lv_istore_n (lv' := [(3, .int 0), (0, .ref h0), (1, .int 5), (2, .int 0)]) hx hb dX3_readCondition_12 rfl hl (by decide) rfl (fun ls hl => ?_)
    have hL81 : ∀ (n9 : Nat), ∀ (x71 : Int32) (x72 : Int32) (x73 : Int32) (x74 : Int32) (fn75 : Nat → Int32) (H : Heap) (locs : List Loc) (ls : Array Slot), 0 ≤ x71.toInt → x71.toInt ≤ 240 → 0 ≤ x72.toInt → x72.toInt ≤ 256 → 0 ≤ x73.toInt → x73.toInt ≤ 240 → (pg_L f5 v1.toInt 124 124 (pg_tru f5 v1.toInt (pg_unit f5 v1.toInt 1)) x73.toInt (pg_con f5 v1.toInt (pg_unit f5 v1.toInt 1) v2.toInt)) → (x71.toInt ≤ x73.toInt) → (v2.toInt ≤ x73.toInt) → (240 - x71.toInt).toNat < n9 → va_P (dC, dI) vwCl (wd_1ad0248d h0 h1 h3 x72 h1 h2 v1 x73 v3 x74 h2 g0 f5 h3 g1 fn75) H → va_D A (wd_1ad0248d h0 h1 h3 x72 h1 h2 v1 x73 v3 x74 h2 g0 f5 h3 g1 fn75) → va_S A s.heap H locs → lv_has ls 4 [(3, .int x71), (0, .ref h0), (1, .int 5), (2, .int 0)] → W p l e ({ frames := 12, cells := 0, slots := 0, locals := 277 }) s m ([.ref h0, .int 5, .int 0] : List Value).toArray below meth c H locs 0 0 Q (F0 m 13 ls []) := by
      intro n9
      induction n9 with
      | zero => intro x71 x72 x73 x74 fn75 H locs ls qa_x71 qb_x71 qa_x72 qb_x72 qa_x73 qb_x73 gh0_hL81 gh1_hL81 gh2_hL81 hm9 hP hD hS hl; exact absurd hm9 (Nat.not_lt_zero _)
      | succ n9 ih_hL81 =>
        intro x71 x72 x73 x74 fn75 H locs ls qa_x71 qb_x71 qa_x72 qb_x72 qa_x73 qb_x73 gh0_hL81 gh1_hL81 gh2_hL81 hm9 hP hD hS hl
        refine lv_iload_n hx hb dX3_readCondition_13 rfl (lv_at hl 0 rfl) ?_
        refine lv_sipush (v := 240) hx hb dX3_readCondition_14 (by decide) ?_
        refine lv_icmp_ge (tgt := 63) hx hb dX3_readCondition_17 (by decide) (fun c82 => ?_) (fun c82 => ?_)
        · skip
          have fc82 : 240 ≤ x71.toInt := Int32.le_iff_toInt_le.mp c82
          refine lv_iconst (v := 1) hx hb dX3_readCondition_63 (by decide) ?_
          subst hQ
          have hP9 := hP.sub (ws' := (wd_1ad0248d h0 h1 h3 x72 h1 h2 v1 x73 v3 x74 h2 g0 f5 h3 g1 fn75)) [0, 1, 2, 3] rfl
          have hD9 := hD.sub (ws' := (wd_1ad0248d h0 h1 h3 x72 h1 h2 v1 x73 v3 x74 h2 g0 f5 h3 g1 fn75)) [0, 1, 2, 3] (by decide) rfl
          have hK9 := hK.sub (tys' := []) [] rfl
          exact W.zret (v := 1) hx hb hr rfl (fun t ht hW => ⟨⟨1, 1, rfl, rfl, Or.inl ⟨x72, x73, x74, fn75, qa_x72, qb_x72, qa_x73, qb_x73, by first | omega | decide, by first | omega | decide, by omega, by first | assumption | (apply pg_L.stop <;> first | assumption | omega) | exact pg_L.stop (by assumption) (pg_s.here (by rw [pg_ch.off (by omega)]; decide)) (by rw [pg_ch.off (by omega)]; decide), by rw [ht]; exact hP9, va_K.moved hW.alike hK9, hD9⟩⟩, hS.F ht⟩) hS.2.2 dX3_readCondition_64
        · skip
          have fc82 : ¬ (240 ≤ x71.toInt) := fun h9 => c82 (Int32.le_iff_toInt_le.mpr h9)
          refine lv_aload_n hx hb dX3_readCondition_20 rfl (lv_at hl 1 rfl) ?_
          refine va_get (D := (dC, dI)) (ci := 3) (v := .ref h1) (C := RX3) (T := TX3) (N := 3) hx hb hts (fun _ h => List.mem_cons_of_mem _ (List.mem_append_left _ (List.mem_append_right _ h))) hown hK hP 0 rfl rfl 0 (by decide) (hts (.fieldLink RX3 19 "LeftArguments$LawReader" "tape" "LLeftArguments$Tape;") (List.mem_cons_of_mem _ (List.mem_append_left _ (List.mem_append_left _ (List.mem_of_getElem? (i := 2) rfl))))) (fun _ h9 => h9) rfl dX3_readCondition_21 ?_
          have hPc := hP.sub (ws' := (wd_82cdd16b h1 h2 v1 x73 v3 x74 h2 g0 f5)) [1, 2] rfl
          have hDc := hD.sub (ws' := (wd_82cdd16b h1 h2 v1 x73 v3 x74 h2 g0 f5)) [1, 2] (by decide) rfl
          have hKc := hK.sub (tys' := [(g0, .int)]) [0] rfl
          have hFc := va_free (wc := (wd_82cdd16b h1 h2 v1 x73 v3 x74 h2 g0 f5)) hD hS hA [1, 2] rfl
          refine va_calli (va_runV (As := []) (rest := []) ⟨hx, hb, hml, hown, hts⟩ (k_X10_next l dC dI h1 h2 v1 x73 v3 x74 g0 f5 ⟨i_v1a, i_v1b⟩ ⟨qa_x73, qb_x73⟩ ia_f5 H.size) (cwV 0 hts g_X3_readCondition_1_1 rfl rfl rfl (by decide +kernel) ⟨Nat.le_of_ble_eq_true rfl, Nat.le_of_ble_eq_true rfl⟩) (pv_PV10 hPc hKc hDc (q0 := 0) rfl) rfl rfl hl.1 rfl (lv_room (Nat.le_of_ble_eq_true rfl)) dX3_readCondition_24 ⟨Nat.le_of_ble_eq_true rfl, Nat.le_of_ble_eq_true rfl⟩) hS (fun q _ h => hFc q h) hFc (fun ra83 u t H1 locs ht hvm hwra83 hB hz1 hk1 hS => ?_)
          try rw [hwra83] at hB
          rcases hB with hB | hB
          · skip
            obtain ⟨x84, oa_x84, ob_x84, pt0_ra83, pt1_ra83, pt2_ra83, pt3_ra83, pt4_ra83, pt5_ra83, pt6_ra83, hP1, hK1, hD1⟩ := hB
            rw [ht] at hP1
            obtain ⟨hP2, hD2⟩ := va_join (wr := (wd_b958b9da h0 h1 h3 x72 h3 g1 fn75)) (w1 := (wd_82cdd16b h1 h2 v1 x84 v3 x74 h2 g0 f5)) hP hD [1, 2] [0, 3] rfl rfl (by decide) (by decide) hk1 hFc hP1 hD1
            clear hP hD hPc hDc hKc hFc hP1 hK1 hD1 hk1 hz1
            generalize H1 = H at hP2 hS ⊢
            have hP := hP2.sub (ws' := (wd_1ad0248d h0 h1 h3 x72 h1 h2 v1 x84 v3 x74 h2 g0 f5 h3 g1 fn75)) [0, 2, 3, 1] rfl
            have hD := hD2.sub (ws' := (wd_1ad0248d h0 h1 h3 x72 h1 h2 v1 x84 v3 x74 h2 g0 f5 h3 g1 fn75)) [0, 2, 3, 1] (by decide) rfl
            clear hP2 hD2
            obtain rfl : ra83 = ((-1) : Int32) := pv_cs (by decide) pt0_ra83 pt1_ra83
            refine lv_bipush (v := 124) hx hb dX3_readCondition_27 (by decide) ?_
            refine lv_icmp_ne (tgt := 63) hx hb dX3_readCondition_29 (by decide) (fun _ => ?_) (fun c => absurd c (by decide))
            refine lv_iconst (v := 1) hx hb dX3_readCondition_63 (by decide) ?_
            subst hQ
            have hP9 := hP.sub (ws' := (wd_1ad0248d h0 h1 h3 x72 h1 h2 v1 x84 v3 x74 h2 g0 f5 h3 g1 fn75)) [0, 1, 2, 3] rfl
            have hD9 := hD.sub (ws' := (wd_1ad0248d h0 h1 h3 x72 h1 h2 v1 x84 v3 x74 h2 g0 f5 h3 g1 fn75)) [0, 1, 2, 3] (by decide) rfl
            have hK9 := hK.sub (tys' := []) [] rfl
            exact W.zret (v := 1) hx hb hr rfl (fun t ht hW => ⟨⟨1, 1, rfl, rfl, Or.inl ⟨x72, x84, x74, fn75, qa_x72, qb_x72, oa_x84, ob_x84, by first | omega | decide, by first | omega | decide, by omega, by first | assumption | (apply pg_L.stop <;> first | assumption | omega) | exact pg_L.stop (by assumption) (pg_s.here (by rw [pg_ch.off (by omega)]; decide)) (by rw [pg_ch.off (by omega)]; decide), by rw [ht]; exact hP9, va_K.moved hW.alike hK9, hD9⟩⟩, hS.F ht⟩) hS.2.2 dX3_readCondition_64
          · skip
            obtain ⟨x85, oa_x85, ob_x85, pt0_ra83, pt1_ra83, pt2_ra83, pt3_ra83, pt4_ra83, pt5_ra83, pt6_ra83, hP1, hK1, hD1⟩ := hB
            rw [ht] at hP1
            obtain ⟨hP2, hD2⟩ := va_join (wr := (wd_b958b9da h0 h1 h3 x72 h3 g1 fn75)) (w1 := (wd_82cdd16b h1 h2 v1 x85 v3 x74 h2 g0 f5)) hP hD [1, 2] [0, 3] rfl rfl (by decide) (by decide) hk1 hFc hP1 hD1
            clear hP hD hPc hDc hKc hFc hP1 hK1 hD1 hk1 hz1
            generalize H1 = H at hP2 hS ⊢
            have hP := hP2.sub (ws' := (wd_1ad0248d h0 h1 h3 x72 h1 h2 v1 x85 v3 x74 h2 g0 f5 h3 g1 fn75)) [0, 2, 3, 1] rfl
            have hD := hD2.sub (ws' := (wd_1ad0248d h0 h1 h3 x72 h1 h2 v1 x85 v3 x74 h2 g0 f5 h3 g1 fn75)) [0, 2, 3, 1] (by decide) rfl
            clear hP2 hD2
            refine lv_bipush (v := 124) hx hb dX3_readCondition_27 (by decide) ?_
            refine lv_icmp_ne (tgt := 63) hx hb dX3_readCondition_29 (by decide) (fun c86 => ?_) (fun c86 => ?_)
            · skip
              have fc86 : ¬ (ra83.toInt = 124) := fun h9 => c86 (Int32.toInt_inj.mp h9)
              refine lv_iconst (v := 1) hx hb dX3_readCondition_63 (by decide) ?_
              subst hQ
              have hP9 := hP.sub (ws' := (wd_1ad0248d h0 h1 h3 x72 h1 h2 v1 x85 v3 x74 h2 g0 f5 h3 g1 fn75)) [0, 1, 2, 3] rfl
              have hD9 := hD.sub (ws' := (wd_1ad0248d h0 h1 h3 x72 h1 h2 v1 x85 v3 x74 h2 g0 f5 h3 g1 fn75)) [0, 1, 2, 3] (by decide) rfl
              have hK9 := hK.sub (tys' := []) [] rfl
              exact W.zret (v := 1) hx hb hr rfl (fun t ht hW => ⟨⟨1, 1, rfl, rfl, Or.inl ⟨x72, x85, x74, fn75, qa_x72, qb_x72, oa_x85, by first | omega | decide, by first | omega | decide, by first | omega | decide, by omega, by first | assumption | (apply pg_L.stop <;> first | assumption | omega) | exact pg_L.stop (by assumption) (pg_s.here (by rw [pg_ch.off (by omega)]; decide)) (by rw [pg_ch.off (by omega)]; decide), by rw [ht]; exact hP9, va_K.moved hW.alike hK9, hD9⟩⟩, hS.F ht⟩) hS.2.2 dX3_readCondition_64
            · skip
              have fc86 : ra83.toInt = 124 := congrArg Int32.toInt c86
              refine lv_aload_n hx hb dX3_readCondition_32 rfl (lv_at hl 1 rfl) ?_
              refine va_get (D := (dC, dI)) (ci := 3) (v := .ref h1) (C := RX3) (T := TX3) (N := 3) hx hb hts (fun _ h => List.mem_cons_of_mem _ (List.mem_append_left _ (List.mem_append_right _ h))) hown hK hP 0 rfl rfl 0 (by decide) (hts (.fieldLink RX3 19 "LeftArguments$LawReader" "tape" "LLeftArguments$Tape;") (List.mem_cons_of_mem _ (List.mem_append_left _ (List.mem_append_left _ (List.mem_of_getElem? (i := 2) rfl))))) (fun _ h9 => h9) rfl dX3_readCondition_33 ?_
              have hPc := hP.sub (ws' := (wd_09b0abee h1 h2 v1 x85 v3 x74)) [1] rfl
              have hDc := hD.sub (ws' := (wd_09b0abee h1 h2 v1 x85 v3 x74)) [1] (by decide) rfl
              have hKc := hK.sub (tys' := []) [] rfl
              have hFc := va_free (wc := (wd_09b0abee h1 h2 v1 x85 v3 x74)) hD hS hA [1] rfl
              refine va_callv (va_runV (As := []) (rest := []) ⟨hx, hb, hml, hown, hts⟩ (k_X10_step l dC dI h1 h2 v1 x85 v3 x74 ⟨i_v1a, i_v1b⟩ ⟨oa_x85, ob_x85⟩ H.size) (cwV 0 hts g_X3_readCondition_1_2 rfl rfl rfl (by decide +kernel) ⟨Nat.le_of_ble_eq_true rfl, Nat.le_of_ble_eq_true rfl⟩) (pv_PV10 hPc hKc hDc (q0 := 0) rfl) rfl rfl hl.1 rfl (lv_room (Nat.le_of_ble_eq_true rfl)) dX3_readCondition_36 ⟨Nat.le_of_ble_eq_true rfl, Nat.le_of_ble_eq_true rfl⟩) hS (fun q _ h => hFc q h) hFc (fun u t H1 locs ht hvm hwra87 hB hz1 hk1 hS => ?_)
              obtain ⟨x88, oa_x88, ob_x88, pt0_ra87, hP1, hK1, hD1⟩ := hB
              rw [ht] at hP1
              obtain ⟨hP2, hD2⟩ := va_join (wr := (wd_6b0d8e05 h0 h1 h3 x72 h2 g0 f5 h3 g1 fn75)) (w1 := (wd_09b0abee h1 h2 v1 x88 v3 x74)) hP hD [1] [0, 2, 3] rfl rfl (by decide) (by decide) hk1 hFc hP1 hD1
              clear hP hD hPc hDc hKc hFc hP1 hK1 hD1 hk1 hz1
              generalize H1 = H at hP2 hS ⊢
              have hP := hP2.sub (ws' := (wd_1ad0248d h0 h1 h3 x72 h1 h2 v1 x88 v3 x74 h2 g0 f5 h3 g1 fn75)) [0, 3, 1, 2] rfl
              have hD := hD2.sub (ws' := (wd_1ad0248d h0 h1 h3 x72 h1 h2 v1 x88 v3 x74 h2 g0 f5 h3 g1 fn75)) [0, 3, 1, 2] (by decide) rfl
              clear hP2 hD2
              refine lv_aload_n hx hb dX3_readCondition_39 rfl (lv_at hl 1 rfl) ?_
              refine lv_iload_n hx hb dX3_readCondition_40 rfl (lv_at hl 2 rfl) ?_
              refine lv_iconst (v := 0) hx hb dX3_readCondition_41 (by decide) ?_
              have hPc := hP.sub (ws' := (wd_1ad0248d h0 h1 h3 x72 h1 h2 v1 x88 v3 x74 h2 g0 f5 h3 g1 fn75)) [0, 1, 2, 3] rfl
              have hDc := hD.sub (ws' := (wd_1ad0248d h0 h1 h3 x72 h1 h2 v1 x88 v3 x74 h2 g0 f5 h3 g1 fn75)) [0, 1, 2, 3] (by decide) rfl
              have hKc := hK.sub (tys' := [(g0, .int), (g1, .int)]) [0, 1] rfl
              have hFc := va_free (wc := (wd_1ad0248d h0 h1 h3 x72 h1 h2 v1 x88 v3 x74 h2 g0 f5 h3 g1 fn75)) hD hS hA [0, 1, 2, 3] rfl
              refine va_calli (va_runV (As := [.int 5, .int 0]) (rest := []) ⟨hx, hb, hml, hown, hts⟩ (k_X3_readTruth_1 l dC dI adK adV h0 h1 h2 h3 x72 v1 x88 v3 x74 g0 f5 g1 fn75 ⟨qa_x72, qb_x72⟩ ⟨i_v1a, i_v1b⟩ ⟨by first | omega | decide, ob_x88⟩ ia_f5 H.size) (cwV 2 hts g_X3_readCondition_1_0 rfl rfl rfl (by decide +kernel) ⟨Nat.le_of_ble_eq_true rfl, Nat.le_of_ble_eq_true rfl⟩) ⟨fun a U g mk q => by obtain ⟨q0, q1, qP, qK, qD, n0, n1, n2⟩ := q; exact ⟨q0, q1, qP, va_K.moved (u := U) (U := U.calling g mk a) (Vm.Alike.refl U.vm) qK, qD, vk_R.same rfl n0, va_Z.moved (Vm.Alike.refl _) n1, vk_S.moved (Vm.Alike.refl _) n2⟩, pv_rc3 hKc hPc (q0 := 0) rfl, fun U hU hW => ⟨rfl, by rw [hU], by rw [hU]; exact hPc, va_K.moved hW.alike hKc, hDc.weaken (fun _ _ _ _ => trivial), vk_R.warm hW h_vr_2, (by rw [hU]; exact (va_Z.moved hW.alike (va_Z.kept h_st_CS hS.2.1)).narrow hFc), (by rw [hU]; exact (vk_S.moved hW.alike (vk_S.kept h_st_S hS.2.1)).narrow hFc)⟩⟩ rfl rfl hl.1 rfl (lv_room (Nat.le_of_ble_eq_true rfl)) dX3_readCondition_42 ⟨Nat.le_of_ble_eq_true rfl, Nat.le_of_ble_eq_true rfl⟩) hS (fun q _ h => hFc q h) hFc (fun ra89 u t H1 locs ht hvm hwra89 hB hz1 hk1 hS => ?_)
              try rw [hwra89] at hB
              rcases hB with hB | hB
              · skip
                obtain ⟨x90, x91, x92, fn93, oa_x90, ob_x90, oa_x91, ob_x91, pt0_ra89, pt1_ra89, pt2_ra89, pt3_ra89, hP1, hK1, hD1⟩ := hB
                rw [ht] at hP1
                obtain ⟨hP2, hD2⟩ := va_join (wr := []) (w1 := (wd_1ad0248d h0 h1 h3 x90 h1 h2 v1 x91 v3 x92 h2 g0 f5 h3 g1 fn93)) hP hD [0, 1, 2, 3] [] rfl rfl (by decide) (by decide) hk1 hFc hP1 hD1
                clear hP hD hPc hDc hKc hFc hP1 hK1 hD1 hk1 hz1
                generalize H1 = H at hP2 hS ⊢
                have hP : va_P (dC, dI) vwCl (wd_1ad0248d h0 h1 h3 x90 h1 h2 v1 x91 v3 x92 h2 g0 f5 h3 g1 fn93) H := hP2
                have hD : va_D A (wd_1ad0248d h0 h1 h3 x90 h1 h2 v1 x91 v3 x92 h2 g0 f5 h3 g1 fn93) := hD2
                clear hP2 hD2
                obtain rfl : ra89 = (1 : Int32) := pv_cs (by decide) pt0_ra89 pt1_ra89
                refine lv_if_ne (tgt := 50) hx hb dX3_readCondition_45 (by decide) (fun _ => ?_) (fun c => absurd c (by decide))
                refine lv_aload_n hx hb dX3_readCondition_50 rfl (lv_at hl 1 rfl) ?_
                refine lv_bipush (v := 11) hx hb dX3_readCondition_51 (by decide) ?_
                refine lv_iconst (v := 0) hx hb dX3_readCondition_53 (by decide) ?_
                have hPc := hP.sub (ws' := (wd_b958b9da h0 h1 h3 x90 h3 g1 fn93)) [0, 3] rfl
                have hDc := hD.sub (ws' := (wd_b958b9da h0 h1 h3 x90 h3 g1 fn93)) [0, 3] (by decide) rfl
                have hKc := hK.sub (tys' := [(g1, .int)]) [1] rfl
                have hFc := va_free (wc := (wd_b958b9da h0 h1 h3 x90 h3 g1 fn93)) hD hS hA [0, 3] rfl
                refine va_callv (va_runV (As := [.int 11, .int 0]) (rest := []) ⟨hx, hb, hml, hown, hts⟩ (k_X3_write l dC dI h0 h3 h1 x90 g1 fn93 11 0 ⟨oa_x90, ob_x90⟩ H.size) (cwV 2 hts g_X3_readCondition_1_4 rfl rfl rfl (by decide +kernel) ⟨Nat.le_of_ble_eq_true rfl, Nat.le_of_ble_eq_true rfl⟩) (pv_PV3 hPc hKc hDc (q0 := 0) rfl) rfl rfl hl.1 rfl (lv_room (Nat.le_of_ble_eq_true rfl)) dX3_readCondition_54 ⟨Nat.le_of_ble_eq_true rfl, Nat.le_of_ble_eq_true rfl⟩) hS (fun q _ h => hFc q h) hFc (fun u t H1 locs ht hvm hwra94 hB hz1 hk1 hS => ?_)
                obtain ⟨x95, fn96, oa_x95, ob_x95, hP1, hK1, hD1⟩ := hB
                rw [ht] at hP1
                obtain ⟨hP2, hD2⟩ := va_join (wr := (wd_82cdd16b h1 h2 v1 x91 v3 x92 h2 g0 f5)) (w1 := (wd_b958b9da h0 h1 h3 x95 h3 g1 fn96)) hP hD [0, 3] [1, 2] rfl rfl (by decide) (by decide) hk1 hFc hP1 hD1
                clear hP hD hPc hDc hKc hFc hP1 hK1 hD1 hk1 hz1
                generalize H1 = H at hP2 hS ⊢
                have hP := hP2.sub (ws' := (wd_1ad0248d h0 h1 h3 x95 h1 h2 v1 x91 v3 x92 h2 g0 f5 h3 g1 fn96)) [2, 0, 1, 3] rfl
                have hD := hD2.sub (ws' := (wd_1ad0248d h0 h1 h3 x95 h1 h2 v1 x91 v3 x92 h2 g0 f5 h3 g1 fn96)) [2, 0, 1, 3] (by decide) rfl
                clear hP2 hD2
                obtain ⟨t97, et97⟩ : ∃ y : Int32, y = x71 + 1 := ⟨_, rfl⟩
                have gt97 : t97.toInt = x71.toInt + (1) := pv_add (a := x71.toInt) (b := (1)) et97 rfl (by decide) (by omega) (by omega)
                refine lv_iinc (v := t97) (lv' := [(3, .int t97), (0, .ref h0), (1, .int 5), (2, .int 0)]) hx hb dX3_readCondition_57 hl (k := 0) rfl (by rw [et97]; rfl) (by decide) rfl (fun ls hl => ?_)
                refine lv_goto (tgt := 13) hx hb dX3_readCondition_60 (by decide) ?_
                exact ih_hL81 t97 x95 x91 x92 fn96 H locs ls (by first | omega | decide) (by first | omega | decide) oa_x95 ob_x95 oa_x91 ob_x91 (by first | assumption | (apply pg_row.go <;> first | assumption | omega) | (apply pg_L.bi <;> first | assumption | omega) | (apply pg_L.step <;> first | assumption | omega)) (by first | omega | ((have h09 : ((0 : Int32)).toInt = 0 := by decide); omega)) (by omega) (by first | omega | (simp only [Int.toNat] at *; omega)) hP hD hS (lv_sub hl [0, 1, 2, 3] rfl)
              · skip
                obtain ⟨x98, x99, x100, x101, fn102, oa_x98, ob_x98, oa_x99, ob_x99, oa_x100, ob_x100, pt0_ra89, pt1_ra89, pt2_ra89, pt3_ra89, hP1, hK1, hD1⟩ := hB
                rw [ht] at hP1
                obtain ⟨hP2, hD2⟩ := va_join (wr := []) (w1 := (wd_1ad0248d h0 h1 h3 x98 h1 h2 v1 x99 x100 x101 h2 g0 f5 h3 g1 fn102)) hP hD [0, 1, 2, 3] [] rfl rfl (by decide) (by decide) hk1 hFc hP1 hD1
                clear hP hD hPc hDc hKc hFc hP1 hK1 hD1 hk1 hz1
                generalize H1 = H at hP2 hS ⊢
                have hP : va_P (dC, dI) vwCl (wd_1ad0248d h0 h1 h3 x98 h1 h2 v1 x99 x100 x101 h2 g0 f5 h3 g1 fn102) H := hP2
                have hD : va_D A (wd_1ad0248d h0 h1 h3 x98 h1 h2 v1 x99 x100 x101 h2 g0 f5 h3 g1 fn102) := hD2
                clear hP2 hD2
                obtain rfl : ra89 = (0 : Int32) := pv_cs (by decide) pt0_ra89 pt1_ra89
                refine lv_if_ne (tgt := 50) hx hb dX3_readCondition_45 (by decide) (fun c => absurd (by decide) c) (fun _ => ?_)
                refine lv_iconst (v := 0) hx hb dX3_readCondition_48 (by decide) ?_
                subst hQ
                have hP9 := hP.sub (ws' := (wd_1ad0248d h0 h1 h3 x98 h1 h2 v1 x99 x100 x101 h2 g0 f5 h3 g1 fn102)) [0, 1, 2, 3] rfl
                have hD9 := hD.sub (ws' := (wd_1ad0248d h0 h1 h3 x98 h1 h2 v1 x99 x100 x101 h2 g0 f5 h3 g1 fn102)) [0, 1, 2, 3] (by decide) rfl
                have hK9 := hK.sub (tys' := []) [] rfl
                exact W.zret (v := 0) hx hb hr rfl (fun t ht hW => ⟨⟨0, 0, rfl, rfl, Or.inr (⟨x98, x99, x100, x101, fn102, oa_x98, ob_x98, oa_x99, ob_x99, oa_x100, ob_x100, by first | omega | decide, by first | omega | decide, by omega, by first | assumption | (apply pg_bind.no <;> first | assumption | omega) | (apply pg_L.no <;> first | assumption | omega), by rw [ht]; exact hP9, va_K.moved hW.alike hK9, hD9⟩)⟩, hS.F ht⟩) hS.2.2 dX3_readCondition_49
    exact hL81 _ 0 x2 x3 x4 fn5 H locs ls (by decide) (by decide) oa_x2 ob_x2 oa_x3 ob_x3 (by first | assumption | (apply pg_row.go <;> first | assumption | omega) | (apply pg_L.bi <;> first | assumption | omega) | (apply pg_L.step <;> first | assumption | omega)) (by first | omega | ((have h09 : ((0 : Int32)).toInt = 0 := by decide); omega)) (by omega) (Nat.lt_succ_self _) hP hD hS (lv_sub hl [0, 1, 2, 3] rfl)
  · skip
    obtain ⟨x103, x104, x105, x106, fn107, oa_x103, ob_x103, oa_x104, ob_x104, oa_x105, ob_x105, pt0_ra1, pt1_ra1, pt2_ra1, pt3_ra1, hP1, hK1, hD1⟩ := hB
    rw [ht] at hP1
    obtain ⟨hP2, hD2⟩ := va_join (wr := []) (w1 := (wd_1ad0248d h0 h1 h3 x103 h1 h2 v1 x104 x105 x106 h2 g0 f5 h3 g1 fn107)) hP hD [0, 1, 2, 3] [] rfl rfl (by decide) (by decide) hk1 hFc hP1 hD1
    clear hP hD hPc hDc hKc hFc hP1 hK1 hD1 hk1 hz1
    generalize H1 = H at hP2 hS ⊢
    have hP : va_P (dC, dI) vwCl (wd_1ad0248d h0 h1 h3 x103 h1 h2 v1 x104 x105 x106 h2 g0 f5 h3 g1 fn107) H := hP2
    have hD : va_D A (wd_1ad0248d h0 h1 h3 x103 h1 h2 v1 x104 x105 x106 h2 g0 f5 h3 g1 fn107) := hD2
    clear hP2 hD2
    obtain rfl : ra1 = (0 : Int32) := pv_cs (by decide) pt0_ra1 pt1_ra1
    refine lv_if_ne (tgt := 11) hx hb dX3_readCondition_6 (by decide) (fun c => absurd (by decide) c) (fun _ => ?_)
    refine lv_iconst (v := 0) hx hb dX3_readCondition_9 (by decide) ?_
    subst hQ
    have hP9 := hP.sub (ws' := (wd_1ad0248d h0 h1 h3 x103 h1 h2 v1 x104 x105 x106 h2 g0 f5 h3 g1 fn107)) [0, 1, 2, 3] rfl
    have hD9 := hD.sub (ws' := (wd_1ad0248d h0 h1 h3 x103 h1 h2 v1 x104 x105 x106 h2 g0 f5 h3 g1 fn107)) [0, 1, 2, 3] (by decide) rfl
    have hK9 := hK.sub (tys' := []) [] rfl
    exact W.zret (v := 0) hx hb hr rfl (fun t ht hW => ⟨⟨0, 0, rfl, rfl, Or.inr (⟨x103, x104, x105, x106, fn107, oa_x103, ob_x103, oa_x104, ob_x104, oa_x105, ob_x105, by first | omega | decide, by first | omega | decide, by omega, by first | assumption | (apply pg_bind.no <;> first | assumption | omega) | (apply pg_L.no <;> first | assumption | omega), by rw [ht]; exact hP9, va_K.moved hW.alike hK9, hD9⟩)⟩, hS.F ht⟩) hS.2.2 dX3_readCondition_10
def q_X3_readUnit_3 : List Cond := .code yX3_readUnit cX3_readUnit 5 (some .boolean) :: (([.fieldLink RX3 19 "LeftArguments$LawReader" "tape" "LLeftArguments$Tape;", .code yX10_next cX10_next 1 (some .int), .fieldLink RX10 19 "LeftArguments$Tape" "at" "I", .fieldLink RX10 15 "LeftArguments$Tape" "used" "I", .fieldLink RX10 9 "LeftArguments$Tape" "bytes" "[I", .initialized RX10, .instanceMethod yX10_next, .selects RX10 yX10_next yX10_next, .methodLink RX3 48 yX10_next, .code yX3_readSum cX3_readSum 4 (some .boolean), .code yX3_readTerm cX3_readTerm 4 (some .boolean), .code yX3_readAtom cX3_readAtom 4 (some .boolean), .code yX10_isDigit cX10_isDigit 1 (some .boolean), .static yX10_isDigit, .methodLink RX3 92 yX10_isDigit, .code yX10_wrongHere cX10_wrongHere 1 (some .boolean), .fieldLink RX10 22 "LeftArguments$Tape" "wrongAt" "I", .instanceMethod yX10_wrongHere, .selects RX10 yX10_wrongHere yX10_wrongHere, .methodLink RX3 83 yX10_wrongHere, .code yJ0_indexOf_0f7a4 cJ0_indexOf_0f7a4 2 (some .int), .code yJ0_indexOf_7cf53 cJ0_indexOf_7cf53 3 (some .int), .code yJ0_isLatin1_aae02 cJ0_isLatin1_aae02 1 (some .boolean), .fieldLink RJ0 38 "java/lang/String" "COMPACT_STRINGS" "Z", .fieldLink RJ0 15 "java/lang/String" "coder" "B", .initialized RJ0, .instanceMethod yJ0_isLatin1_aae02, .selects RJ0 yJ0_isLatin1_aae02 yJ0_isLatin1_aae02, .methodLink RJ0 492 yJ0_isLatin1_aae02, .fieldLink RJ0 9 "java/lang/String" "value" "[B", .code yJ0_length_8abf5 cJ0_length_8abf5 1 (some .int), .code yJ0_coder_7d493 cJ0_coder_7d493 1 (some .byte), .instanceMethod yJ0_coder_7d493, .selects RJ0 yJ0_coder_7d493 yJ0_coder_7d493, .methodLink RJ0 335 yJ0_coder_7d493, .instanceMethod yJ0_length_8abf5, .selects RJ0 yJ0_length_8abf5 yJ0_length_8abf5, .methodLink RJ0 505 yJ0_length_8abf5, .code yJ1_indexOf_4cfef cJ1_indexOf_4cfef 4 (some .int), .code yJ1_canEncode_9a6ad cJ1_canEncode_9a6ad 1 (some .boolean), .initialized RJ1, .static yJ1_canEncode_9a6ad, .methodLink RJ1 88 yJ1_canEncode_9a6ad, .methodLink RJ1 92 Lib.Math.max.name, .static Lib.Math.max.name, .initialized "java/lang/Math", .code Lib.Math.max.name Lib.Math.max.code 2 (some .int), .methodLink RJ1 38 Lib.Math.min.name, .static Lib.Math.min.name, .code Lib.Math.min.name Lib.Math.min.code 2 (some .int), .code yJ1_indexOfChar_4cfef cJ1_indexOfChar_4cfef 6 (some .int), .static yJ1_indexOfChar_4cfef, .methodLink RJ1 95 yJ1_indexOfChar_4cfef, .static yJ1_indexOf_4cfef, .methodLink RJ0 637 yJ1_indexOf_4cfef, .instanceMethod yJ0_indexOf_7cf53, .selects RJ0 yJ0_indexOf_7cf53 yJ0_indexOf_7cf53, .methodLink RJ0 633 yJ0_indexOf_7cf53, .instanceMethod yJ0_indexOf_0f7a4, .selects RJ0 yJ0_indexOf_0f7a4 yJ0_indexOf_0f7a4, .methodLink RX3 103 yJ0_indexOf_0f7a4, .code yX10_step cX10_step 1 none, .instanceMethod yX10_step, .selects RX10 yX10_step yX10_step, .methodLink RX3 77 yX10_step, .code yX3_write cX3_write 3 none, .fieldLink RX3 15 "LeftArguments$LawReader" "used" "I", .fieldLink RX3 11 "LeftArguments$LawReader" "code" "[I", .initialized RX3, .instanceMethod yX3_write, .selects RX3 yX3_write yX3_write, .methodLink RX3 66 yX3_write, .code yX10_takeNumber cX10_takeNumber 3 (some .boolean), .methodLink RX10 37 yX10_next, .methodLink RX10 45 yX10_isDigit, .methodLink RX10 41 yX10_wrongHere, .fieldLink RX10 25 "LeftArguments$Tape" "number" "I", .code yX10_sign cX10_sign 1 (some .int), .instanceMethod yX10_sign, .selects RX10 yX10_sign yX10_sign, .methodLink RX10 49 yX10_sign, .instanceMethod yX10_takeNumber, .selects RX10 yX10_takeNumber yX10_takeNumber, .methodLink RX3 95 yX10_takeNumber, .code yX10_number cX10_number 1 (some .int), .instanceMethod yX10_number, .selects RX10 yX10_number yX10_number, .methodLink RX3 98 yX10_number, .instanceMethod yX3_readAtom, .selects RX3 yX3_readAtom yX3_readAtom, .methodLink RX3 89 yX3_readAtom, .instanceMethod yX3_readTerm, .selects RX3 yX3_readTerm yX3_readTerm, .methodLink RX3 86 yX3_readTerm, .instanceMethod yX3_readSum, .selects RX3 yX3_readSum yX3_readSum, .methodLink RX3 59 yX3_readSum, .code yX10_take cX10_take 2 (some .boolean), .instanceMethod yX10_take, .selects RX10 yX10_take yX10_take, .methodLink RX3 51 yX10_take, .code yX3_comparing cX3_comparing 1 (some .int), .static yX3_comparing, .methodLink RX3 62 yX3_comparing, .code yX3_readUnit cX3_readUnit 5 (some .boolean), .instanceMethod yX3_readUnit, .selects RX3 yX3_readUnit yX3_readUnit, .methodLink RX3 80 yX3_readUnit, .code yX3_readCondition cX3_readCondition 4 (some .boolean), .code yX3_readTruth cX3_readTruth 4 (some .boolean), .instanceMethod yX3_readTruth, .selects RX3 yX3_readTruth yX3_readTruth, .methodLink RX3 74 yX3_readTruth, .instanceMethod yX3_readCondition, .selects RX3 yX3_readCondition yX3_readCondition, .methodLink RX3 70 yX3_readCondition] : List Cond) ++ wsX30 ++ wsX100)
set_option maxRecDepth 20000 in
theorem g_X3_readUnit_3_0 : GoodIn q_X3_readUnit_3 (wsV RX3 48 RX10 yX10_next q_X10_next) := goodIn_app (goodIn_r _ [9, 7, 8, 6] rfl (by decide +kernel)) (goodIn_ca (goodIn_r (.code yX10_next cX10_next 1 (some .int) :: [.fieldLink RX10 19 "LeftArguments$Tape" "at" "I", .fieldLink RX10 15 "LeftArguments$Tape" "used" "I", .fieldLink RX10 9 "LeftArguments$Tape" "bytes" "[I"]) [2, 3, 4, 5] rfl (by decide +kernel)) (goodIn_sub (fun _ h => List.mem_cons_of_mem _ (List.mem_append_right _ h)) gwX10))
set_option maxRecDepth 20000 in
theorem g_X3_readUnit_3_1 : GoodIn q_X3_readUnit_3 (wsV RX3 59 RX3 yX3_readSum q_X3_readSum_2) := goodIn_app (goodIn_r _ [97, 95, 96, 69] rfl (by decide +kernel)) (goodIn_ca (goodIn_ca (goodIn_r (.code yX3_readSum cX3_readSum 4 (some .boolean) :: [.code yX3_readTerm cX3_readTerm 4 (some .boolean), .code yX3_readAtom cX3_readAtom 4 (some .boolean), .fieldLink RX3 19 "LeftArguments$LawReader" "tape" "LLeftArguments$Tape;", .code yX10_next cX10_next 1 (some .int), .fieldLink RX10 19 "LeftArguments$Tape" "at" "I", .fieldLink RX10 15 "LeftArguments$Tape" "used" "I", .fieldLink RX10 9 "LeftArguments$Tape" "bytes" "[I", .initialized RX10, .instanceMethod yX10_next, .selects RX10 yX10_next yX10_next, .methodLink RX3 48 yX10_next, .code yX10_isDigit cX10_isDigit 1 (some .boolean), .static yX10_isDigit, .methodLink RX3 92 yX10_isDigit, .code yX10_wrongHere cX10_wrongHere 1 (some .boolean), .fieldLink RX10 22 "LeftArguments$Tape" "wrongAt" "I", .instanceMethod yX10_wrongHere, .selects RX10 yX10_wrongHere yX10_wrongHere, .methodLink RX3 83 yX10_wrongHere, .code yJ0_indexOf_0f7a4 cJ0_indexOf_0f7a4 2 (some .int), .code yJ0_indexOf_7cf53 cJ0_indexOf_7cf53 3 (some .int), .code yJ0_isLatin1_aae02 cJ0_isLatin1_aae02 1 (some .boolean), .fieldLink RJ0 38 "java/lang/String" "COMPACT_STRINGS" "Z", .fieldLink RJ0 15 "java/lang/String" "coder" "B", .initialized RJ0, .instanceMethod yJ0_isLatin1_aae02, .selects RJ0 yJ0_isLatin1_aae02 yJ0_isLatin1_aae02, .methodLink RJ0 492 yJ0_isLatin1_aae02, .fieldLink RJ0 9 "java/lang/String" "value" "[B", .code yJ0_length_8abf5 cJ0_length_8abf5 1 (some .int), .code yJ0_coder_7d493 cJ0_coder_7d493 1 (some .byte), .instanceMethod yJ0_coder_7d493, .selects RJ0 yJ0_coder_7d493 yJ0_coder_7d493, .methodLink RJ0 335 yJ0_coder_7d493, .instanceMethod yJ0_length_8abf5, .selects RJ0 yJ0_length_8abf5 yJ0_length_8abf5, .methodLink RJ0 505 yJ0_length_8abf5, .code yJ1_indexOf_4cfef cJ1_indexOf_4cfef 4 (some .int), .code yJ1_canEncode_9a6ad cJ1_canEncode_9a6ad 1 (some .boolean), .initialized RJ1, .static yJ1_canEncode_9a6ad, .methodLink RJ1 88 yJ1_canEncode_9a6ad, .methodLink RJ1 92 Lib.Math.max.name, .static Lib.Math.max.name, .initialized "java/lang/Math", .code Lib.Math.max.name Lib.Math.max.code 2 (some .int), .methodLink RJ1 38 Lib.Math.min.name, .static Lib.Math.min.name, .code Lib.Math.min.name Lib.Math.min.code 2 (some .int), .code yJ1_indexOfChar_4cfef cJ1_indexOfChar_4cfef 6 (some .int), .static yJ1_indexOfChar_4cfef, .methodLink RJ1 95 yJ1_indexOfChar_4cfef, .static yJ1_indexOf_4cfef, .methodLink RJ0 637 yJ1_indexOf_4cfef, .instanceMethod yJ0_indexOf_7cf53, .selects RJ0 yJ0_indexOf_7cf53 yJ0_indexOf_7cf53, .methodLink RJ0 633 yJ0_indexOf_7cf53, .instanceMethod yJ0_indexOf_0f7a4, .selects RJ0 yJ0_indexOf_0f7a4 yJ0_indexOf_0f7a4, .methodLink RX3 103 yJ0_indexOf_0f7a4, .code yX10_step cX10_step 1 none, .instanceMethod yX10_step, .selects RX10 yX10_step yX10_step, .methodLink RX3 77 yX10_step, .code yX3_write cX3_write 3 none, .fieldLink RX3 15 "LeftArguments$LawReader" "used" "I", .fieldLink RX3 11 "LeftArguments$LawReader" "code" "[I", .initialized RX3, .instanceMethod yX3_write, .selects RX3 yX3_write yX3_write, .methodLink RX3 66 yX3_write, .code yX10_takeNumber cX10_takeNumber 3 (some .boolean), .methodLink RX10 37 yX10_next, .methodLink RX10 45 yX10_isDigit, .methodLink RX10 41 yX10_wrongHere, .fieldLink RX10 25 "LeftArguments$Tape" "number" "I", .code yX10_sign cX10_sign 1 (some .int), .instanceMethod yX10_sign, .selects RX10 yX10_sign yX10_sign, .methodLink RX10 49 yX10_sign, .instanceMethod yX10_takeNumber, .selects RX10 yX10_takeNumber yX10_takeNumber, .methodLink RX3 95 yX10_takeNumber, .code yX10_number cX10_number 1 (some .int), .instanceMethod yX10_number, .selects RX10 yX10_number yX10_number, .methodLink RX3 98 yX10_number, .code yX3_readSum cX3_readSum 4 (some .boolean), .instanceMethod yX3_readAtom, .selects RX3 yX3_readAtom yX3_readAtom, .methodLink RX3 89 yX3_readAtom, .instanceMethod yX3_readTerm, .selects RX3 yX3_readTerm yX3_readTerm, .methodLink RX3 86 yX3_readTerm, .instanceMethod yX3_readSum, .selects RX3 yX3_readSum yX3_readSum, .methodLink RX3 59 yX3_readSum, .code yX10_take cX10_take 2 (some .boolean), .instanceMethod yX10_take, .selects RX10 yX10_take yX10_take, .methodLink RX3 51 yX10_take]) [10, 11, 12, 1, 2, 3, 4, 5, 6, 7, 8, 9, 13, 14, 15, 16, 17, 18, 19, 20, 21, 22, 23, 24, 25, 26, 27, 28, 29, 30, 31, 32, 33, 34, 35, 36, 37, 38, 39, 40, 41, 42, 43, 44, 45, 46, 47, 48, 49, 50, 51, 52, 53, 54, 55, 56, 57, 58, 59, 60, 61, 62, 63, 64, 65, 66, 67, 68, 69, 70, 71, 72, 73, 74, 75, 76, 77, 78, 79, 80, 81, 82, 83, 84, 85, 86, 87, 88, 10, 89, 90, 91, 92, 93, 94, 95, 96, 97, 98, 99, 100, 101] rfl (by decide +kernel)) (goodIn_sub (fun _ h => List.mem_cons_of_mem _ (List.mem_append_left _ (List.mem_append_right _ h))) gwX3)) (goodIn_sub (fun _ h => List.mem_cons_of_mem _ (List.mem_append_right _ h)) gwX10))
set_option maxRecDepth 20000 in
theorem g_X3_readUnit_3_3 : GoodIn q_X3_readUnit_3 (va_wsS RX3 62 yX3_comparing q_X3_comparing) := goodIn_app (goodIn_r _ [104, 103, 69] rfl (by decide +kernel)) (goodIn_r (.code yX3_comparing cX3_comparing 1 (some .int) :: []) [102] rfl (by decide +kernel))
set_option maxRecDepth 20000 in
theorem g_X3_readUnit_3_4 : GoodIn q_X3_readUnit_3 (wsV RX3 83 RX10 yX10_wrongHere q_X10_wrongHere) := goodIn_app (goodIn_r _ [20, 18, 19, 6] rfl (by decide +kernel)) (goodIn_ca (goodIn_r (.code yX10_wrongHere cX10_wrongHere 1 (some .boolean) :: [.fieldLink RX10 19 "LeftArguments$Tape" "at" "I", .fieldLink RX10 22 "LeftArguments$Tape" "wrongAt" "I"]) [16, 3, 17] rfl (by decide +kernel)) (goodIn_sub (fun _ h => List.mem_cons_of_mem _ (List.mem_append_right _ h)) gwX10))
set_option maxRecDepth 20000 in
theorem g_X3_readUnit_3_5 : GoodIn q_X3_readUnit_3 (va_wsS RX3 62 yX3_comparing q_X3_comparing_1) := goodIn_app (goodIn_r _ [104, 103, 69] rfl (by decide +kernel)) (goodIn_r (.code yX3_comparing cX3_comparing 1 (some .int) :: []) [102] rfl (by decide +kernel))
set_option maxRecDepth 20000 in
theorem g_X3_readUnit_3_6 : GoodIn q_X3_readUnit_3 (wsV RX3 77 RX10 yX10_step q_X10_step) := goodIn_app (goodIn_r _ [65, 63, 64, 6] rfl (by decide +kernel)) (goodIn_ca (goodIn_r (.code yX10_step cX10_step 1 none :: [.fieldLink RX10 19 "LeftArguments$Tape" "at" "I"]) [62, 3] rfl (by decide +kernel)) (goodIn_sub (fun _ h => List.mem_cons_of_mem _ (List.mem_append_right _ h)) gwX10))
set_option maxRecDepth 20000 in
theorem g_X3_readUnit_3_8 : GoodIn q_X3_readUnit_3 (wsV RX3 66 RX3 yX3_write q_X3_write) := goodIn_app (goodIn_r _ [72, 70, 71, 69] rfl (by decide +kernel)) (goodIn_ca (goodIn_r (.code yX3_write cX3_write 3 none :: [.fieldLink RX3 15 "LeftArguments$LawReader" "used" "I", .fieldLink RX3 11 "LeftArguments$LawReader" "code" "[I"]) [66, 67, 68] rfl (by decide +kernel)) (goodIn_sub (fun _ h => List.mem_cons_of_mem _ (List.mem_append_left _ (List.mem_append_right _ h))) gwX3))
set_option maxRecDepth 20000 in
theorem g_X3_readUnit_3_11 : GoodIn q_X3_readUnit_3 (wsV RX3 80 RX3 yX3_readUnit q_X3_readUnit_2) := goodIn_app (goodIn_r _ [108, 106, 107, 69] rfl (by decide +kernel)) (goodIn_ca (goodIn_ca (goodIn_r (.code yX3_readUnit cX3_readUnit 5 (some .boolean) :: [.fieldLink RX3 19 "LeftArguments$LawReader" "tape" "LLeftArguments$Tape;", .code yX10_next cX10_next 1 (some .int), .fieldLink RX10 19 "LeftArguments$Tape" "at" "I", .fieldLink RX10 15 "LeftArguments$Tape" "used" "I", .fieldLink RX10 9 "LeftArguments$Tape" "bytes" "[I", .initialized RX10, .instanceMethod yX10_next, .selects RX10 yX10_next yX10_next, .methodLink RX3 48 yX10_next, .code yX3_readSum cX3_readSum 4 (some .boolean), .code yX3_readTerm cX3_readTerm 4 (some .boolean), .code yX3_readAtom cX3_readAtom 4 (some .boolean), .code yX10_isDigit cX10_isDigit 1 (some .boolean), .static yX10_isDigit, .methodLink RX3 92 yX10_isDigit, .code yX10_wrongHere cX10_wrongHere 1 (some .boolean), .fieldLink RX10 22 "LeftArguments$Tape" "wrongAt" "I", .instanceMethod yX10_wrongHere, .selects RX10 yX10_wrongHere yX10_wrongHere, .methodLink RX3 83 yX10_wrongHere, .code yJ0_indexOf_0f7a4 cJ0_indexOf_0f7a4 2 (some .int), .code yJ0_indexOf_7cf53 cJ0_indexOf_7cf53 3 (some .int), .code yJ0_isLatin1_aae02 cJ0_isLatin1_aae02 1 (some .boolean), .fieldLink RJ0 38 "java/lang/String" "COMPACT_STRINGS" "Z", .fieldLink RJ0 15 "java/lang/String" "coder" "B", .initialized RJ0, .instanceMethod yJ0_isLatin1_aae02, .selects RJ0 yJ0_isLatin1_aae02 yJ0_isLatin1_aae02, .methodLink RJ0 492 yJ0_isLatin1_aae02, .fieldLink RJ0 9 "java/lang/String" "value" "[B", .code yJ0_length_8abf5 cJ0_length_8abf5 1 (some .int), .code yJ0_coder_7d493 cJ0_coder_7d493 1 (some .byte), .instanceMethod yJ0_coder_7d493, .selects RJ0 yJ0_coder_7d493 yJ0_coder_7d493, .methodLink RJ0 335 yJ0_coder_7d493, .instanceMethod yJ0_length_8abf5, .selects RJ0 yJ0_length_8abf5 yJ0_length_8abf5, .methodLink RJ0 505 yJ0_length_8abf5, .code yJ1_indexOf_4cfef cJ1_indexOf_4cfef 4 (some .int), .code yJ1_canEncode_9a6ad cJ1_canEncode_9a6ad 1 (some .boolean), .initialized RJ1, .static yJ1_canEncode_9a6ad, .methodLink RJ1 88 yJ1_canEncode_9a6ad, .methodLink RJ1 92 Lib.Math.max.name, .static Lib.Math.max.name, .initialized "java/lang/Math", .code Lib.Math.max.name Lib.Math.max.code 2 (some .int), .methodLink RJ1 38 Lib.Math.min.name, .static Lib.Math.min.name, .code Lib.Math.min.name Lib.Math.min.code 2 (some .int), .code yJ1_indexOfChar_4cfef cJ1_indexOfChar_4cfef 6 (some .int), .static yJ1_indexOfChar_4cfef, .methodLink RJ1 95 yJ1_indexOfChar_4cfef, .static yJ1_indexOf_4cfef, .methodLink RJ0 637 yJ1_indexOf_4cfef, .instanceMethod yJ0_indexOf_7cf53, .selects RJ0 yJ0_indexOf_7cf53 yJ0_indexOf_7cf53, .methodLink RJ0 633 yJ0_indexOf_7cf53, .instanceMethod yJ0_indexOf_0f7a4, .selects RJ0 yJ0_indexOf_0f7a4 yJ0_indexOf_0f7a4, .methodLink RX3 103 yJ0_indexOf_0f7a4, .code yX10_step cX10_step 1 none, .instanceMethod yX10_step, .selects RX10 yX10_step yX10_step, .methodLink RX3 77 yX10_step, .code yX3_write cX3_write 3 none, .fieldLink RX3 15 "LeftArguments$LawReader" "used" "I", .fieldLink RX3 11 "LeftArguments$LawReader" "code" "[I", .initialized RX3, .instanceMethod yX3_write, .selects RX3 yX3_write yX3_write, .methodLink RX3 66 yX3_write, .code yX10_takeNumber cX10_takeNumber 3 (some .boolean), .methodLink RX10 37 yX10_next, .methodLink RX10 45 yX10_isDigit, .methodLink RX10 41 yX10_wrongHere, .fieldLink RX10 25 "LeftArguments$Tape" "number" "I", .code yX10_sign cX10_sign 1 (some .int), .instanceMethod yX10_sign, .selects RX10 yX10_sign yX10_sign, .methodLink RX10 49 yX10_sign, .instanceMethod yX10_takeNumber, .selects RX10 yX10_takeNumber yX10_takeNumber, .methodLink RX3 95 yX10_takeNumber, .code yX10_number cX10_number 1 (some .int), .instanceMethod yX10_number, .selects RX10 yX10_number yX10_number, .methodLink RX3 98 yX10_number, .instanceMethod yX3_readAtom, .selects RX3 yX3_readAtom yX3_readAtom, .methodLink RX3 89 yX3_readAtom, .instanceMethod yX3_readTerm, .selects RX3 yX3_readTerm yX3_readTerm, .methodLink RX3 86 yX3_readTerm, .instanceMethod yX3_readSum, .selects RX3 yX3_readSum yX3_readSum, .methodLink RX3 59 yX3_readSum, .code yX10_take cX10_take 2 (some .boolean), .instanceMethod yX10_take, .selects RX10 yX10_take yX10_take, .methodLink RX3 51 yX10_take, .code yX3_comparing cX3_comparing 1 (some .int), .static yX3_comparing, .methodLink RX3 62 yX3_comparing, .code yX3_readUnit cX3_readUnit 5 (some .boolean), .instanceMethod yX3_readUnit, .selects RX3 yX3_readUnit yX3_readUnit, .methodLink RX3 80 yX3_readUnit, .code yX3_readCondition cX3_readCondition 4 (some .boolean), .code yX3_readTruth cX3_readTruth 4 (some .boolean), .instanceMethod yX3_readTruth, .selects RX3 yX3_readTruth yX3_readTruth, .methodLink RX3 74 yX3_readTruth, .instanceMethod yX3_readCondition, .selects RX3 yX3_readCondition yX3_readCondition, .methodLink RX3 70 yX3_readCondition]) [105, 1, 2, 3, 4, 5, 6, 7, 8, 9, 10, 11, 12, 13, 14, 15, 16, 17, 18, 19, 20, 21, 22, 23, 24, 25, 26, 27, 28, 29, 30, 31, 32, 33, 34, 35, 36, 37, 38, 39, 40, 41, 42, 43, 44, 45, 46, 47, 48, 49, 50, 51, 52, 53, 54, 55, 56, 57, 58, 59, 60, 61, 62, 63, 64, 65, 66, 67, 68, 69, 70, 71, 72, 73, 74, 75, 76, 77, 78, 79, 80, 81, 82, 83, 84, 85, 86, 87, 88, 89, 90, 91, 92, 93, 94, 95, 96, 97, 98, 99, 100, 101, 102, 103, 104, 105, 106, 107, 108, 109, 110, 111, 112, 113, 114, 115, 116] rfl (by decide +kernel)) (goodIn_sub (fun _ h => List.mem_cons_of_mem _ (List.mem_append_left _ (List.mem_append_right _ h))) gwX3)) (goodIn_sub (fun _ h => List.mem_cons_of_mem _ (List.mem_append_right _ h)) gwX10))
set_option maxRecDepth 20000 in
theorem g_X3_readUnit_3_23 : GoodIn q_X3_readUnit_3 (wsV RX3 70 RX3 yX3_readCondition q_X3_readCondition_1) := goodIn_app (goodIn_r _ [116, 114, 115, 69] rfl (by decide +kernel)) (goodIn_ca (goodIn_ca (goodIn_r (.code yX3_readCondition cX3_readCondition 4 (some .boolean) :: [.code yX3_readTruth cX3_readTruth 4 (some .boolean), .code yX3_readUnit cX3_readUnit 5 (some .boolean), .fieldLink RX3 19 "LeftArguments$LawReader" "tape" "LLeftArguments$Tape;", .code yX10_next cX10_next 1 (some .int), .fieldLink RX10 19 "LeftArguments$Tape" "at" "I", .fieldLink RX10 15 "LeftArguments$Tape" "used" "I", .fieldLink RX10 9 "LeftArguments$Tape" "bytes" "[I", .initialized RX10, .instanceMethod yX10_next, .selects RX10 yX10_next yX10_next, .methodLink RX3 48 yX10_next, .code yX3_readSum cX3_readSum 4 (some .boolean), .code yX3_readTerm cX3_readTerm 4 (some .boolean), .code yX3_readAtom cX3_readAtom 4 (some .boolean), .code yX10_isDigit cX10_isDigit 1 (some .boolean), .static yX10_isDigit, .methodLink RX3 92 yX10_isDigit, .code yX10_wrongHere cX10_wrongHere 1 (some .boolean), .fieldLink RX10 22 "LeftArguments$Tape" "wrongAt" "I", .instanceMethod yX10_wrongHere, .selects RX10 yX10_wrongHere yX10_wrongHere, .methodLink RX3 83 yX10_wrongHere, .code yJ0_indexOf_0f7a4 cJ0_indexOf_0f7a4 2 (some .int), .code yJ0_indexOf_7cf53 cJ0_indexOf_7cf53 3 (some .int), .code yJ0_isLatin1_aae02 cJ0_isLatin1_aae02 1 (some .boolean), .fieldLink RJ0 38 "java/lang/String" "COMPACT_STRINGS" "Z", .fieldLink RJ0 15 "java/lang/String" "coder" "B", .initialized RJ0, .instanceMethod yJ0_isLatin1_aae02, .selects RJ0 yJ0_isLatin1_aae02 yJ0_isLatin1_aae02, .methodLink RJ0 492 yJ0_isLatin1_aae02, .fieldLink RJ0 9 "java/lang/String" "value" "[B", .code yJ0_length_8abf5 cJ0_length_8abf5 1 (some .int), .code yJ0_coder_7d493 cJ0_coder_7d493 1 (some .byte), .instanceMethod yJ0_coder_7d493, .selects RJ0 yJ0_coder_7d493 yJ0_coder_7d493, .methodLink RJ0 335 yJ0_coder_7d493, .instanceMethod yJ0_length_8abf5, .selects RJ0 yJ0_length_8abf5 yJ0_length_8abf5, .methodLink RJ0 505 yJ0_length_8abf5, .code yJ1_indexOf_4cfef cJ1_indexOf_4cfef 4 (some .int), .code yJ1_canEncode_9a6ad cJ1_canEncode_9a6ad 1 (some .boolean), .initialized RJ1, .static yJ1_canEncode_9a6ad, .methodLink RJ1 88 yJ1_canEncode_9a6ad, .methodLink RJ1 92 Lib.Math.max.name, .static Lib.Math.max.name, .initialized "java/lang/Math", .code Lib.Math.max.name Lib.Math.max.code 2 (some .int), .methodLink RJ1 38 Lib.Math.min.name, .static Lib.Math.min.name, .code Lib.Math.min.name Lib.Math.min.code 2 (some .int), .code yJ1_indexOfChar_4cfef cJ1_indexOfChar_4cfef 6 (some .int), .static yJ1_indexOfChar_4cfef, .methodLink RJ1 95 yJ1_indexOfChar_4cfef, .static yJ1_indexOf_4cfef, .methodLink RJ0 637 yJ1_indexOf_4cfef, .instanceMethod yJ0_indexOf_7cf53, .selects RJ0 yJ0_indexOf_7cf53 yJ0_indexOf_7cf53, .methodLink RJ0 633 yJ0_indexOf_7cf53, .instanceMethod yJ0_indexOf_0f7a4, .selects RJ0 yJ0_indexOf_0f7a4 yJ0_indexOf_0f7a4, .methodLink RX3 103 yJ0_indexOf_0f7a4, .code yX10_step cX10_step 1 none, .instanceMethod yX10_step, .selects RX10 yX10_step yX10_step, .methodLink RX3 77 yX10_step, .code yX3_write cX3_write 3 none, .fieldLink RX3 15 "LeftArguments$LawReader" "used" "I", .fieldLink RX3 11 "LeftArguments$LawReader" "code" "[I", .initialized RX3, .instanceMethod yX3_write, .selects RX3 yX3_write yX3_write, .methodLink RX3 66 yX3_write, .code yX10_takeNumber cX10_takeNumber 3 (some .boolean), .methodLink RX10 37 yX10_next, .methodLink RX10 45 yX10_isDigit, .methodLink RX10 41 yX10_wrongHere, .fieldLink RX10 25 "LeftArguments$Tape" "number" "I", .code yX10_sign cX10_sign 1 (some .int), .instanceMethod yX10_sign, .selects RX10 yX10_sign yX10_sign, .methodLink RX10 49 yX10_sign, .instanceMethod yX10_takeNumber, .selects RX10 yX10_takeNumber yX10_takeNumber, .methodLink RX3 95 yX10_takeNumber, .code yX10_number cX10_number 1 (some .int), .instanceMethod yX10_number, .selects RX10 yX10_number yX10_number, .methodLink RX3 98 yX10_number, .instanceMethod yX3_readAtom, .selects RX3 yX3_readAtom yX3_readAtom, .methodLink RX3 89 yX3_readAtom, .instanceMethod yX3_readTerm, .selects RX3 yX3_readTerm yX3_readTerm, .methodLink RX3 86 yX3_readTerm, .instanceMethod yX3_readSum, .selects RX3 yX3_readSum yX3_readSum, .methodLink RX3 59 yX3_readSum, .code yX10_take cX10_take 2 (some .boolean), .instanceMethod yX10_take, .selects RX10 yX10_take yX10_take, .methodLink RX3 51 yX10_take, .code yX3_comparing cX3_comparing 1 (some .int), .static yX3_comparing, .methodLink RX3 62 yX3_comparing, .instanceMethod yX3_readUnit, .selects RX3 yX3_readUnit yX3_readUnit, .methodLink RX3 80 yX3_readUnit, .code yX3_readCondition cX3_readCondition 4 (some .boolean), .instanceMethod yX3_readTruth, .selects RX3 yX3_readTruth yX3_readTruth, .methodLink RX3 74 yX3_readTruth, .instanceMethod yX3_readCondition, .selects RX3 yX3_readCondition yX3_readCondition, .methodLink RX3 70 yX3_readCondition]) [109, 110, 105, 1, 2, 3, 4, 5, 6, 7, 8, 9, 10, 11, 12, 13, 14, 15, 16, 17, 18, 19, 20, 21, 22, 23, 24, 25, 26, 27, 28, 29, 30, 31, 32, 33, 34, 35, 36, 37, 38, 39, 40, 41, 42, 43, 44, 45, 46, 47, 48, 49, 50, 51, 52, 53, 54, 55, 56, 57, 58, 59, 60, 61, 62, 63, 64, 65, 66, 67, 68, 69, 70, 71, 72, 73, 74, 75, 76, 77, 78, 79, 80, 81, 82, 83, 84, 85, 86, 87, 88, 89, 90, 91, 92, 93, 94, 95, 96, 97, 98, 99, 100, 101, 102, 103, 104, 106, 107, 108, 109, 111, 112, 113, 114, 115, 116] rfl (by decide +kernel)) (goodIn_sub (fun _ h => List.mem_cons_of_mem _ (List.mem_append_left _ (List.mem_append_right _ h))) gwX3)) (goodIn_sub (fun _ h => List.mem_cons_of_mem _ (List.mem_append_right _ h)) gwX10))
set_option maxRecDepth 20000 in
theorem g_X3_readUnit_3_24 : GoodIn q_X3_readUnit_3 (wsV RX3 51 RX10 yX10_take q_X10_take_3) := goodIn_app (goodIn_r _ [101, 99, 100, 6] rfl (by decide +kernel)) (goodIn_ca (goodIn_r (.code yX10_take cX10_take 2 (some .boolean) :: [.code yX10_next cX10_next 1 (some .int), .fieldLink RX10 19 "LeftArguments$Tape" "at" "I", .fieldLink RX10 15 "LeftArguments$Tape" "used" "I", .fieldLink RX10 9 "LeftArguments$Tape" "bytes" "[I", .initialized RX10, .instanceMethod yX10_next, .selects RX10 yX10_next yX10_next, .methodLink RX10 37 yX10_next, .code yX10_wrongHere cX10_wrongHere 1 (some .boolean), .fieldLink RX10 22 "LeftArguments$Tape" "wrongAt" "I", .instanceMethod yX10_wrongHere, .selects RX10 yX10_wrongHere yX10_wrongHere, .methodLink RX10 41 yX10_wrongHere]) [98, 2, 3, 4, 5, 6, 7, 8, 74, 16, 17, 18, 19, 76] rfl (by decide +kernel)) (goodIn_sub (fun _ h => List.mem_cons_of_mem _ (List.mem_append_right _ h)) gwX10))
set_option maxHeartbeats 4000000 in
set_option maxRecDepth 100000 in
theorem k_X3_readUnit_3 (l : Launch) (dC : Nat → ClassId) (dI : Nat → Nat → Nat) (adK : Nat → Nat) (adV : Nat → Nat) (h0 : Nat) (h1 : Nat) (h2 : Nat) (h3 : Nat) (v0 : Int32) (v1 : Int32) (v2 : Int32) (v3 : Int32) (v4 : Int32) (g0 : ClassId) (f5 : Nat → Int32) (g1 : ClassId) (f6 : Nat → Int32) (i_v0 : 0 ≤ v0.toInt ∧ v0.toInt ≤ 256) (i_v1 : 0 ≤ v1.toInt ∧ v1.toInt ≤ 240) (i_v2 : 0 ≤ v2.toInt ∧ v2.toInt ≤ 240) (ia_f5 : (∀ j, 0 ≤ (f5 j).toInt ∧ (f5 j).toInt ≤ 255)) (sz : Nat) : Met l yX3_readUnit q_X3_readUnit_3 ({ frames := 13, cells := 0, slots := 0, locals := 300 }) (va_Pc [.ref h0, .int 4, .int 0] (fun U => U.heap.size = sz ∧ va_P (dC, dI) vwCl (wd_1ad0248d h0 h1 h3 v0 h1 h2 v1 v2 v3 v4 h2 g0 f5 h3 g1 f6) U.heap ∧ va_K (dC, dI) vwCl [(g0, .int), (g1, .int)] U ∧ va_D (fun _ => True) (wd_1ad0248d h0 h1 h3 v0 h1 h2 v1 v2 v3 v4 h2 g0 f5 h3 g1 f6) ∧ vk_R RX3 101 "zaondt" (adK 2) U ∧ va_Z "java/lang/String" "COMPACT_STRINGS" "Z" (.int 1) (va_A (wd_1ad0248d h0 h1 h3 v0 h1 h2 v1 v2 v3 v4 h2 g0 f5 h3 g1 f6) sz) U U.heap ∧ vk_S 3 pv_len3 pv_byt3 adK adV (va_A (wd_1ad0248d h0 h1 h3 v0 h1 h2 v1 v2 v3 v4 h2 g0 f5 h3 g1 f6) sz) U U.heap)) (va_Qi (fun (r : Int32) (r9 : Int32) => r9 = r) (fun (r : Int32) (t : State) => (∃ (o_h0_2 : Int32) (o_h1_2 : Int32) (o_h1_4 : Int32) (o_h3 : Nat → Int32), 0 ≤ o_h0_2.toInt ∧ o_h0_2.toInt ≤ 256 ∧ 0 ≤ o_h1_2.toInt ∧ o_h1_2.toInt ≤ 240 ∧ (1 ≤ r.toInt) ∧ (r.toInt ≤ 1) ∧ (v2.toInt ≤ o_h1_2.toInt) ∧ (pg_unit f5 v1.toInt 2 v2.toInt = (true, o_h1_2.toInt)) ∧ va_P (dC, dI) vwCl (wd_1ad0248d h0 h1 h3 o_h0_2 h1 h2 v1 o_h1_2 v3 o_h1_4 h2 g0 f5 h3 g1 o_h3) t.heap ∧ va_K (dC, dI) vwCl [] t ∧ va_D (va_A (wd_1ad0248d h0 h1 h3 v0 h1 h2 v1 v2 v3 v4 h2 g0 f5 h3 g1 f6) sz) (wd_1ad0248d h0 h1 h3 o_h0_2 h1 h2 v1 o_h1_2 v3 o_h1_4 h2 g0 f5 h3 g1 o_h3)) ∨ (∃ (o_h0_2 : Int32) (o_h1_2 : Int32) (o_h1_3 : Int32) (o_h1_4 : Int32) (o_h3 : Nat → Int32), 0 ≤ o_h0_2.toInt ∧ o_h0_2.toInt ≤ 256 ∧ 0 ≤ o_h1_2.toInt ∧ o_h1_2.toInt ≤ 240 ∧ 0 ≤ o_h1_3.toInt ∧ o_h1_3.toInt ≤ 240 ∧ (0 ≤ r.toInt) ∧ (r.toInt ≤ 0) ∧ (v2.toInt ≤ o_h1_2.toInt) ∧ (pg_unit f5 v1.toInt 2 v2.toInt = (false, o_h1_3.toInt)) ∧ va_P (dC, dI) vwCl (wd_1ad0248d h0 h1 h3 o_h0_2 h1 h2 v1 o_h1_2 o_h1_3 o_h1_4 h2 g0 f5 h3 g1 o_h3) t.heap ∧ va_K (dC, dI) vwCl [] t ∧ va_D (va_A (wd_1ad0248d h0 h1 h3 v0 h1 h2 v1 v2 v3 v4 h2 g0 f5 h3 g1 f6) sz) (wd_1ad0248d h0 h1 h3 o_h0_2 h1 h2 v1 o_h1_2 o_h1_3 o_h1_4 h2 g0 f5 h3 g1 o_h3))) (va_A (wd_1ad0248d h0 h1 h3 v0 h1 h2 v1 v2 v3 v4 h2 g0 f5 h3 g1 f6) sz)) 0 0 (va_A (wd_1ad0248d h0 h1 h3 v0 h1 h2 v1 v2 v3 v4 h2 g0 f5 h3 g1 f6) sz) := by
  refine Met.ofW (cc := cX3_readUnit) (maxL := 5) (ret := (some .boolean)) (by decide) rfl ?_
  intro p e s m args below meth c s₁ B hml hv
  obtain ⟨i_v0a, i_v0b⟩ := i_v0
  obtain ⟨i_v1a, i_v1b⟩ := i_v1
  obtain ⟨i_v2a, i_v2b⟩ := i_v2
  obtain ⟨rfl, hsz, hP, hK, hD0, h_vr_2, h_st_CS, h_st_S⟩ := hv
  have hx := B.exec
  have hb := B.bytes
  have hr := B.returns
  have hts := atoms_spec (ws := q_X3_readUnit_3) B.pre
  have hown : s.vm.findClass RX3 = some m.cls := findClass_of_methodNamed B.named
  have hlocks := B.notSynchronized
  subst hsz
  have hD := hD0.self (sz := s.heap.size)
  generalize hAe : va_A (wd_1ad0248d h0 h1 h3 v0 h1 h2 v1 v2 v3 v4 h2 g0 f5 h3 g1 f6) s.heap.size = A at hD h_st_CS h_st_S ⊢
  have hA : ∀ q : Nat, s.heap.size ≤ q → A q := fun q h => by rw [← hAe]; exact Or.inr h
  have hS : va_S A s.heap s.heap [] := va_S.rf
  generalize hQ : (MQ below _ _ s 0 0 A) = Q
  have hl := lv_entry ([.ref h0, .int 4, .int 0]) (n := 5) (Nat.le_of_ble_eq_true rfl)
  rw [lg_entry_eq]
  generalize (lg_sl ([.ref h0, .int 4, .int 0]) ++ List.replicate (5 - (lg_sl ([.ref h0, .int 4, .int 0])).length) Slot.unset).toArray = ls at hl ⊢
  have hl : lv_has ls 5 [(0, .ref h0), (1, .int 4), (2, .int 0)] := hl
  obtain ⟨H, hH⟩ : ∃ H : Heap, H = s.heap := ⟨_, rfl⟩
  obtain ⟨locs, hlocs⟩ : ∃ y : List Loc, y = [] := ⟨_, rfl⟩
  have hS : va_S A s.heap H locs := by rw [hH, hlocs]; exact va_S.rf
  have hP : va_P (dC, dI) vwCl (wd_1ad0248d h0 h1 h3 v0 h1 h2 v1 v2 v3 v4 h2 g0 f5 h3 g1 f6) H := by rw [hH]; exact hP
  rw [← hH, ← hlocs]
  refine lv_aload_n hx hb dX3_readUnit_0 rfl (lv_at hl 0 rfl) ?_
  refine va_get (D := (dC, dI)) (ci := 3) (v := .ref h1) (C := RX3) (T := TX3) (N := 3) hx hb hts (fun _ h => List.mem_cons_of_mem _ (List.mem_append_left _ (List.mem_append_right _ h))) hown hK hP 0 rfl rfl 0 (by decide) (hts (.fieldLink RX3 19 "LeftArguments$LawReader" "tape" "LLeftArguments$Tape;") (List.mem_cons_of_mem _ (List.mem_append_left _ (List.mem_append_left _ (List.mem_of_getElem? (i := 0) rfl))))) (fun _ h9 => h9) rfl dX3_readUnit_1 ?_
  have hPc := hP.sub (ws' := (wd_82cdd16b h1 h2 v1 v2 v3 v4 h2 g0 f5)) [1, 2] rfl
  have hDc := hD.sub (ws' := (wd_82cdd16b h1 h2 v1 v2 v3 v4 h2 g0 f5)) [1, 2] (by decide) rfl
  have hKc := hK.sub (tys' := [(g0, .int)]) [0] rfl
  have hFc := va_free (wc := (wd_82cdd16b h1 h2 v1 v2 v3 v4 h2 g0 f5)) hD hS hA [1, 2] rfl
  refine va_calli (va_runV (As := []) (rest := []) ⟨hx, hb, hml, hown, hts⟩ (k_X10_next l dC dI h1 h2 v1 v2 v3 v4 g0 f5 ⟨i_v1a, i_v1b⟩ ⟨i_v2a, i_v2b⟩ ia_f5 H.size) (cwV 0 hts g_X3_readUnit_3_0 rfl rfl rfl (by decide +kernel) ⟨Nat.le_of_ble_eq_true rfl, Nat.le_of_ble_eq_true rfl⟩) (pv_PV10 hPc hKc hDc (q0 := 0) rfl) rfl rfl hl.1 rfl (lv_room (Nat.le_of_ble_eq_true rfl)) dX3_readUnit_4 ⟨Nat.le_of_ble_eq_true rfl, Nat.le_of_ble_eq_true rfl⟩) hS (fun q _ h => hFc q h) hFc (fun ra1 u t H1 locs ht hvm hwra1 hB hz1 hk1 hS => ?_)
  try rw [hwra1] at hB
  rcases hB with hB | hB
  · skip
    obtain ⟨x2, oa_x2, ob_x2, pt0_ra1, pt1_ra1, pt2_ra1, pt3_ra1, pt4_ra1, pt5_ra1, pt6_ra1, hP1, hK1, hD1⟩ := hB
    rw [ht] at hP1
    obtain ⟨hP2, hD2⟩ := va_join (wr := (wd_b958b9da h0 h1 h3 v0 h3 g1 f6)) (w1 := (wd_82cdd16b h1 h2 v1 x2 v3 v4 h2 g0 f5)) hP hD [1, 2] [0, 3] rfl rfl (by decide) (by decide) hk1 hFc hP1 hD1
    clear hP hD hPc hDc hKc hFc hP1 hK1 hD1 hk1 hz1
    generalize H1 = H at hP2 hS ⊢
    have hP := hP2.sub (ws' := (wd_1ad0248d h0 h1 h3 v0 h1 h2 v1 x2 v3 v4 h2 g0 f5 h3 g1 f6)) [0, 2, 3, 1] rfl
    have hD := hD2.sub (ws' := (wd_1ad0248d h0 h1 h3 v0 h1 h2 v1 x2 v3 v4 h2 g0 f5 h3 g1 f6)) [0, 2, 3, 1] (by decide) rfl
    clear hP2 hD2
    obtain rfl : ra1 = ((-1) : Int32) := pv_cs (by decide) pt0_ra1 pt1_ra1
    refine lv_istore_n (lv' := [(3, .int (-1)), (0, .ref h0), (1, .int 4), (2, .int 0)]) hx hb dX3_readUnit_7 rfl hl (by decide) rfl (fun ls hl => ?_)
    refine lv_iload_n hx hb dX3_readUnit_8 rfl (lv_at hl 3 rfl) ?_
    refine lv_if_ne (tgt := 102) hx hb dX3_readUnit_9 (by decide) (fun c => absurd (by decide) c) (fun _ => ?_)
    refine lv_iload_n hx hb dX3_readUnit_12 rfl (lv_at hl 0 rfl) ?_
    refine lv_bipush (v := 33) hx hb dX3_readUnit_13 (by decide) ?_
    refine lv_icmp_eq (tgt := 24) hx hb dX3_readUnit_15 (by decide) (fun c => absurd c (by decide)) (fun _ => ?_)
    refine lv_iload_n hx hb dX3_readUnit_18 rfl (lv_at hl 0 rfl) ?_
    refine lv_bipush (v := 40) hx hb dX3_readUnit_19 (by decide) ?_
    refine lv_icmp_ne (tgt := 102) hx hb dX3_readUnit_21 (by decide) (fun _ => ?_) (fun c => absurd c (by decide))
    refine lv_iload_n hx hb dX3_readUnit_102 rfl (lv_at hl 3 rfl) ?_
    refine lv_if_ne (tgt := 116) hx hb dX3_readUnit_103 (by decide) (fun c => absurd (by decide) c) (fun _ => ?_)
    refine lv_aload_n hx hb dX3_readUnit_106 rfl (lv_at hl 1 rfl) ?_
    refine lv_iload_n hx hb dX3_readUnit_107 rfl (lv_at hl 2 rfl) ?_
    have hPc := hP.sub (ws' := (wd_1ad0248d h0 h1 h3 v0 h1 h2 v1 x2 v3 v4 h2 g0 f5 h3 g1 f6)) [0, 1, 2, 3] rfl
    have hDc := hD.sub (ws' := (wd_1ad0248d h0 h1 h3 v0 h1 h2 v1 x2 v3 v4 h2 g0 f5 h3 g1 f6)) [0, 1, 2, 3] (by decide) rfl
    have hKc := hK.sub (tys' := [(g0, .int), (g1, .int)]) [0, 1] rfl
    have hFc := va_free (wc := (wd_1ad0248d h0 h1 h3 v0 h1 h2 v1 x2 v3 v4 h2 g0 f5 h3 g1 f6)) hD hS hA [0, 1, 2, 3] rfl
    refine va_calli (va_runV (As := [.int 4]) (rest := []) ⟨hx, hb, hml, hown, hts⟩ (k_X3_readSum_2 l dC dI adK adV h0 h1 h2 h3 v0 v1 x2 v3 v4 g0 f5 g1 f6 ⟨i_v0a, i_v0b⟩ ⟨i_v1a, i_v1b⟩ ⟨oa_x2, ob_x2⟩ ia_f5 H.size) (cwV 1 hts g_X3_readUnit_3_1 rfl rfl rfl (by decide +kernel) ⟨Nat.le_of_ble_eq_true rfl, Nat.le_of_ble_eq_true rfl⟩) ⟨fun a U g mk q => by obtain ⟨q0, q1, qP, qK, qD, n0, n1, n2⟩ := q; exact ⟨q0, q1, qP, va_K.moved (u := U) (U := U.calling g mk a) (Vm.Alike.refl U.vm) qK, qD, vk_R.same rfl n0, va_Z.moved (Vm.Alike.refl _) n1, vk_S.moved (Vm.Alike.refl _) n2⟩, pv_rc3 hKc hPc (q0 := 0) rfl, fun U hU hW => ⟨rfl, by rw [hU], by rw [hU]; exact hPc, va_K.moved hW.alike hKc, hDc.weaken (fun _ _ _ _ => trivial), vk_R.warm hW h_vr_2, (by rw [hU]; exact (va_Z.moved hW.alike (va_Z.kept h_st_CS hS.2.1)).narrow hFc), (by rw [hU]; exact (vk_S.moved hW.alike (vk_S.kept h_st_S hS.2.1)).narrow hFc)⟩⟩ rfl rfl hl.1 rfl (lv_room (Nat.le_of_ble_eq_true rfl)) dX3_readUnit_108 ⟨Nat.le_of_ble_eq_true rfl, Nat.le_of_ble_eq_true rfl⟩) hS (fun q _ h => hFc q h) hFc (fun ra3 u t H1 locs ht hvm hwra3 hB hz1 hk1 hS => ?_)
    try rw [hwra3] at hB
    rcases hB with hB | hB
    · skip
      obtain ⟨x4, x5, x6, fn7, oa_x4, ob_x4, oa_x5, ob_x5, pt0_ra3, pt1_ra3, pt2_ra3, pt3_ra3, hP1, hK1, hD1⟩ := hB
      rw [ht] at hP1
      obtain ⟨hP2, hD2⟩ := va_join (wr := []) (w1 := (wd_1ad0248d h0 h1 h3 x4 h1 h2 v1 x5 v3 x6 h2 g0 f5 h3 g1 fn7)) hP hD [0, 1, 2, 3] [] rfl rfl (by decide) (by decide) hk1 hFc hP1 hD1
      clear hP hD hPc hDc hKc hFc hP1 hK1 hD1 hk1 hz1
      generalize H1 = H at hP2 hS ⊢
      have hP : va_P (dC, dI) vwCl (wd_1ad0248d h0 h1 h3 x4 h1 h2 v1 x5 v3 x6 h2 g0 f5 h3 g1 fn7) H := hP2
      have hD : va_D A (wd_1ad0248d h0 h1 h3 x4 h1 h2 v1 x5 v3 x6 h2 g0 f5 h3 g1 fn7) := hD2
      clear hP2 hD2
      obtain rfl : ra3 = (1 : Int32) := pv_cs (by decide) pt0_ra3 pt1_ra3
      refine lv_if_ne (tgt := 116) hx hb dX3_readUnit_111 (by decide) (fun _ => ?_) (fun c => absurd c (by decide))
      refine lv_aload_n hx hb dX3_readUnit_116 rfl (lv_at hl 1 rfl) ?_
      refine va_get (D := (dC, dI)) (ci := 3) (v := .ref h1) (C := RX3) (T := TX3) (N := 3) hx hb hts (fun _ h => List.mem_cons_of_mem _ (List.mem_append_left _ (List.mem_append_right _ h))) hown hK hP 0 rfl rfl 0 (by decide) (hts (.fieldLink RX3 19 "LeftArguments$LawReader" "tape" "LLeftArguments$Tape;") (List.mem_cons_of_mem _ (List.mem_append_left _ (List.mem_append_left _ (List.mem_of_getElem? (i := 0) rfl))))) (fun _ h9 => h9) rfl dX3_readUnit_117 ?_
      have hPc := hP.sub (ws' := (wd_82cdd16b h1 h2 v1 x5 v3 x6 h2 g0 f5)) [1, 2] rfl
      have hDc := hD.sub (ws' := (wd_82cdd16b h1 h2 v1 x5 v3 x6 h2 g0 f5)) [1, 2] (by decide) rfl
      have hKc := hK.sub (tys' := [(g0, .int)]) [0] rfl
      have hFc := va_free (wc := (wd_82cdd16b h1 h2 v1 x5 v3 x6 h2 g0 f5)) hD hS hA [1, 2] rfl
      refine va_calli (va_runV (As := []) (rest := []) ⟨hx, hb, hml, hown, hts⟩ (k_X10_next l dC dI h1 h2 v1 x5 v3 x6 g0 f5 ⟨i_v1a, i_v1b⟩ ⟨oa_x5, ob_x5⟩ ia_f5 H.size) (cwV 0 hts g_X3_readUnit_3_0 rfl rfl rfl (by decide +kernel) ⟨Nat.le_of_ble_eq_true rfl, Nat.le_of_ble_eq_true rfl⟩) (pv_PV10 hPc hKc hDc (q0 := 0) rfl) rfl rfl hl.1 rfl (lv_room (Nat.le_of_ble_eq_true rfl)) dX3_readUnit_120 ⟨Nat.le_of_ble_eq_true rfl, Nat.le_of_ble_eq_true rfl⟩) hS (fun q _ h => hFc q h) hFc (fun ra8 u t H1 locs ht hvm hwra8 hB hz1 hk1 hS => ?_)
      try rw [hwra8] at hB
      rcases hB with hB | hB
      · skip
        obtain ⟨x9, oa_x9, ob_x9, pt0_ra8, pt1_ra8, pt2_ra8, pt3_ra8, pt4_ra8, pt5_ra8, pt6_ra8, hP1, hK1, hD1⟩ := hB
        rw [ht] at hP1
        obtain ⟨hP2, hD2⟩ := va_join (wr := (wd_b958b9da h0 h1 h3 x4 h3 g1 fn7)) (w1 := (wd_82cdd16b h1 h2 v1 x9 v3 x6 h2 g0 f5)) hP hD [1, 2] [0, 3] rfl rfl (by decide) (by decide) hk1 hFc hP1 hD1
        clear hP hD hPc hDc hKc hFc hP1 hK1 hD1 hk1 hz1
        generalize H1 = H at hP2 hS ⊢
        have hP := hP2.sub (ws' := (wd_1ad0248d h0 h1 h3 x4 h1 h2 v1 x9 v3 x6 h2 g0 f5 h3 g1 fn7)) [0, 2, 3, 1] rfl
        have hD := hD2.sub (ws' := (wd_1ad0248d h0 h1 h3 x4 h1 h2 v1 x9 v3 x6 h2 g0 f5 h3 g1 fn7)) [0, 2, 3, 1] (by decide) rfl
        clear hP2 hD2
        obtain rfl : ra8 = ((-1) : Int32) := pv_cs (by decide) pt0_ra8 pt1_ra8
        have hPc := hP.sub (ws' := []) [] rfl
        have hDc := hD.sub (ws' := []) [] (by decide) rfl
        have hKc := hK.sub (tys' := []) [] rfl
        have hFc := va_free (wc := []) hD hS hA [] rfl
        refine va_calli (va_runS (As := [.int (-1)]) (rest := []) ⟨hx, hb, hml, hown, hts⟩ (k_X3_comparing l dC dI   H.size) (va_cwS 1 hts g_X3_readUnit_3_3 rfl rfl rfl (by decide +kernel) ⟨Nat.le_of_ble_eq_true rfl, Nat.le_of_ble_eq_true rfl⟩) (pv_PS hPc hKc hDc) rfl rfl hl.1 rfl (lv_room (Nat.le_of_ble_eq_true rfl)) dX3_readUnit_123 ⟨Nat.le_of_ble_eq_true rfl, Nat.le_of_ble_eq_true rfl⟩) hS (fun q _ h => hFc q h) hFc (fun ra10 u t H1 locs ht hvm hwra10 hB hz1 hk1 hS => ?_)
        try rw [hwra10] at hB
        obtain ⟨pt0_ra10, pt1_ra10, hP1, hK1, hD1⟩ := hB
        rw [ht] at hP1
        obtain ⟨hP2, hD2⟩ := va_join (wr := (wd_1ad0248d h0 h1 h3 x4 h1 h2 v1 x9 v3 x6 h2 g0 f5 h3 g1 fn7)) (w1 := []) hP hD [] [0, 1, 2, 3] rfl rfl (by decide) (by decide) hk1 hFc hP1 hD1
        clear hP hD hPc hDc hKc hFc hP1 hK1 hD1 hk1 hz1
        generalize H1 = H at hP2 hS ⊢
        have hP : va_P (dC, dI) vwCl (wd_1ad0248d h0 h1 h3 x4 h1 h2 v1 x9 v3 x6 h2 g0 f5 h3 g1 fn7) H := hP2
        have hD : va_D A (wd_1ad0248d h0 h1 h3 x4 h1 h2 v1 x9 v3 x6 h2 g0 f5 h3 g1 fn7) := hD2
        clear hP2 hD2
        obtain rfl : ra10 = ((-1) : Int32) := pv_cs (by decide) pt0_ra10 pt1_ra10
        refine lv_istore (lv' := [(4, .int (-1)), (3, .int (-1)), (0, .ref h0), (1, .int 4), (2, .int 0)]) hx hb dX3_readUnit_126 hl (by decide) rfl (fun ls hl => ?_)
        refine lv_iload hx hb dX3_readUnit_128 (lv_at hl 0 rfl) ?_
        refine lv_iconst (v := (-1)) hx hb dX3_readUnit_130 (by decide) ?_
        refine lv_icmp_ne (tgt := 142) hx hb dX3_readUnit_131 (by decide) (fun c => absurd (by decide) c) (fun _ => ?_)
        refine lv_aload_n hx hb dX3_readUnit_134 rfl (lv_at hl 2 rfl) ?_
        refine va_get (D := (dC, dI)) (ci := 3) (v := .ref h1) (C := RX3) (T := TX3) (N := 3) hx hb hts (fun _ h => List.mem_cons_of_mem _ (List.mem_append_left _ (List.mem_append_right _ h))) hown hK hP 0 rfl rfl 0 (by decide) (hts (.fieldLink RX3 19 "LeftArguments$LawReader" "tape" "LLeftArguments$Tape;") (List.mem_cons_of_mem _ (List.mem_append_left _ (List.mem_append_left _ (List.mem_of_getElem? (i := 0) rfl))))) (fun _ h9 => h9) rfl dX3_readUnit_135 ?_
        have hPc := hP.sub (ws' := (wd_09b0abee h1 h2 v1 x9 v3 x6)) [1] rfl
        have hDc := hD.sub (ws' := (wd_09b0abee h1 h2 v1 x9 v3 x6)) [1] (by decide) rfl
        have hKc := hK.sub (tys' := []) [] rfl
        have hFc := va_free (wc := (wd_09b0abee h1 h2 v1 x9 v3 x6)) hD hS hA [1] rfl
        refine va_calli (va_runV (As := []) (rest := []) ⟨hx, hb, hml, hown, hts⟩ (k_X10_wrongHere l dC dI h1 h2 v1 x9 v3 x6 ⟨i_v1a, i_v1b⟩ ⟨oa_x9, ob_x9⟩ H.size) (cwV 0 hts g_X3_readUnit_3_4 rfl rfl rfl (by decide +kernel) ⟨Nat.le_of_ble_eq_true rfl, Nat.le_of_ble_eq_true rfl⟩) (pv_PV10 hPc hKc hDc (q0 := 0) rfl) rfl rfl hl.1 rfl (lv_room (Nat.le_of_ble_eq_true rfl)) dX3_readUnit_138 ⟨Nat.le_of_ble_eq_true rfl, Nat.le_of_ble_eq_true rfl⟩) hS (fun q _ h => hFc q h) hFc (fun ra11 u t H1 locs ht hvm hwra11 hB hz1 hk1 hS => ?_)
        try rw [hwra11] at hB
        obtain ⟨x12, oa_x12, ob_x12, pt0_ra11, pt1_ra11, pt2_ra11, hP1, hK1, hD1⟩ := hB
        rw [ht] at hP1
        obtain ⟨hP2, hD2⟩ := va_join (wr := (wd_6b0d8e05 h0 h1 h3 x4 h2 g0 f5 h3 g1 fn7)) (w1 := (wd_09b0abee h1 h2 v1 x9 x12 x6)) hP hD [1] [0, 2, 3] rfl rfl (by decide) (by decide) hk1 hFc hP1 hD1
        clear hP hD hPc hDc hKc hFc hP1 hK1 hD1 hk1 hz1
        generalize H1 = H at hP2 hS ⊢
        have hP := hP2.sub (ws' := (wd_1ad0248d h0 h1 h3 x4 h1 h2 v1 x9 x12 x6 h2 g0 f5 h3 g1 fn7)) [0, 3, 1, 2] rfl
        have hD := hD2.sub (ws' := (wd_1ad0248d h0 h1 h3 x4 h1 h2 v1 x9 x12 x6 h2 g0 f5 h3 g1 fn7)) [0, 3, 1, 2] (by decide) rfl
        clear hP2 hD2
        obtain rfl : ra11 = (0 : Int32) := pv_cs (by decide) pt0_ra11 pt1_ra11
        subst hQ
        have hP9 := hP.sub (ws' := (wd_1ad0248d h0 h1 h3 x4 h1 h2 v1 x9 x12 x6 h2 g0 f5 h3 g1 fn7)) [0, 1, 2, 3] rfl
        have hD9 := hD.sub (ws' := (wd_1ad0248d h0 h1 h3 x4 h1 h2 v1 x9 x12 x6 h2 g0 f5 h3 g1 fn7)) [0, 1, 2, 3] (by decide) rfl
        have hK9 := hK.sub (tys' := []) [] rfl
        exact W.zret (v := 0) hx hb hr rfl (fun t ht hW => ⟨⟨0, 0, rfl, rfl, Or.inr (⟨x4, x9, x12, x6, fn7, oa_x4, ob_x4, oa_x9, ob_x9, oa_x12, ob_x12, by first | omega | decide, by first | omega | decide, by omega, by show pg_unitF f5 v1.toInt 2 true (pg_unit f5 v1.toInt 1) (pg_con f5 v1.toInt (pg_unit f5 v1.toInt 1)) _ = _; first | (apply pg_unitF.not <;> first | assumption | omega) | (apply pg_unitF.par1 <;> first | assumption | omega) | (apply pg_unitF.par0 <;> first | assumption | omega) | (apply pg_unitF.deep <;> first | assumption | omega) | (apply pg_unitF.sm1 <;> first | assumption | omega) | (apply pg_unitF.sm2 <;> first | assumption | omega) | (apply pg_unitF.sum0 <;> first | assumption | omega), by rw [ht]; exact hP9, va_K.moved hW.alike hK9, hD9⟩)⟩, hS.F ht⟩) hS.2.2 dX3_readUnit_141
      · skip
        obtain ⟨x13, oa_x13, ob_x13, pt0_ra8, pt1_ra8, pt2_ra8, pt3_ra8, pt4_ra8, pt5_ra8, pt6_ra8, hP1, hK1, hD1⟩ := hB
        rw [ht] at hP1
        obtain ⟨hP2, hD2⟩ := va_join (wr := (wd_b958b9da h0 h1 h3 x4 h3 g1 fn7)) (w1 := (wd_82cdd16b h1 h2 v1 x13 v3 x6 h2 g0 f5)) hP hD [1, 2] [0, 3] rfl rfl (by decide) (by decide) hk1 hFc hP1 hD1
        clear hP hD hPc hDc hKc hFc hP1 hK1 hD1 hk1 hz1
        generalize H1 = H at hP2 hS ⊢
        have hP := hP2.sub (ws' := (wd_1ad0248d h0 h1 h3 x4 h1 h2 v1 x13 v3 x6 h2 g0 f5 h3 g1 fn7)) [0, 2, 3, 1] rfl
        have hD := hD2.sub (ws' := (wd_1ad0248d h0 h1 h3 x4 h1 h2 v1 x13 v3 x6 h2 g0 f5 h3 g1 fn7)) [0, 2, 3, 1] (by decide) rfl
        clear hP2 hD2
        have hPc := hP.sub (ws' := []) [] rfl
        have hDc := hD.sub (ws' := []) [] (by decide) rfl
        have hKc := hK.sub (tys' := []) [] rfl
        have hFc := va_free (wc := []) hD hS hA [] rfl
        refine va_calli (va_runS (As := [.int ra8]) (rest := []) ⟨hx, hb, hml, hown, hts⟩ (k_X3_comparing_1 l dC dI ra8  H.size) (va_cwS 1 hts g_X3_readUnit_3_5 rfl rfl rfl (by decide +kernel) ⟨Nat.le_of_ble_eq_true rfl, Nat.le_of_ble_eq_true rfl⟩) (pv_PS hPc hKc hDc) rfl rfl hl.1 rfl (lv_room (Nat.le_of_ble_eq_true rfl)) dX3_readUnit_123 ⟨Nat.le_of_ble_eq_true rfl, Nat.le_of_ble_eq_true rfl⟩) hS (fun q _ h => hFc q h) hFc (fun ra14 u t H1 locs ht hvm hwra14 hB hz1 hk1 hS => ?_)
        try rw [hwra14] at hB
        obtain ⟨pt0_ra14, pt1_ra14, pt2_ra14, hP1, hK1, hD1⟩ := hB
        rw [ht] at hP1
        obtain ⟨hP2, hD2⟩ := va_join (wr := (wd_1ad0248d h0 h1 h3 x4 h1 h2 v1 x13 v3 x6 h2 g0 f5 h3 g1 fn7)) (w1 := []) hP hD [] [0, 1, 2, 3] rfl rfl (by decide) (by decide) hk1 hFc hP1 hD1
        clear hP hD hPc hDc hKc hFc hP1 hK1 hD1 hk1 hz1
        generalize H1 = H at hP2 hS ⊢
        have hP : va_P (dC, dI) vwCl (wd_1ad0248d h0 h1 h3 x4 h1 h2 v1 x13 v3 x6 h2 g0 f5 h3 g1 fn7) H := hP2
        have hD : va_D A (wd_1ad0248d h0 h1 h3 x4 h1 h2 v1 x13 v3 x6 h2 g0 f5 h3 g1 fn7) := hD2
        clear hP2 hD2
        refine lv_istore (lv' := [(4, .int ra14), (3, .int (-1)), (0, .ref h0), (1, .int 4), (2, .int 0)]) hx hb dX3_readUnit_126 hl (by decide) rfl (fun ls hl => ?_)
        refine lv_iload hx hb dX3_readUnit_128 (lv_at hl 0 rfl) ?_
        refine lv_iconst (v := (-1)) hx hb dX3_readUnit_130 (by decide) ?_
        refine lv_icmp_ne (tgt := 142) hx hb dX3_readUnit_131 (by decide) (fun c15 => ?_) (fun c15 => ?_)
        · skip
          have fc15 : ¬ (ra14.toInt = (-1)) := fun h9 => c15 (Int32.toInt_inj.mp h9)
          refine lv_aload_n hx hb dX3_readUnit_142 rfl (lv_at hl 2 rfl) ?_
          refine va_get (D := (dC, dI)) (ci := 3) (v := .ref h1) (C := RX3) (T := TX3) (N := 3) hx hb hts (fun _ h => List.mem_cons_of_mem _ (List.mem_append_left _ (List.mem_append_right _ h))) hown hK hP 0 rfl rfl 0 (by decide) (hts (.fieldLink RX3 19 "LeftArguments$LawReader" "tape" "LLeftArguments$Tape;") (List.mem_cons_of_mem _ (List.mem_append_left _ (List.mem_append_left _ (List.mem_of_getElem? (i := 0) rfl))))) (fun _ h9 => h9) rfl dX3_readUnit_143 ?_
          have hPc := hP.sub (ws' := (wd_09b0abee h1 h2 v1 x13 v3 x6)) [1] rfl
          have hDc := hD.sub (ws' := (wd_09b0abee h1 h2 v1 x13 v3 x6)) [1] (by decide) rfl
          have hKc := hK.sub (tys' := []) [] rfl
          have hFc := va_free (wc := (wd_09b0abee h1 h2 v1 x13 v3 x6)) hD hS hA [1] rfl
          refine va_callv (va_runV (As := []) (rest := []) ⟨hx, hb, hml, hown, hts⟩ (k_X10_step l dC dI h1 h2 v1 x13 v3 x6 ⟨i_v1a, i_v1b⟩ ⟨oa_x13, ob_x13⟩ H.size) (cwV 0 hts g_X3_readUnit_3_6 rfl rfl rfl (by decide +kernel) ⟨Nat.le_of_ble_eq_true rfl, Nat.le_of_ble_eq_true rfl⟩) (pv_PV10 hPc hKc hDc (q0 := 0) rfl) rfl rfl hl.1 rfl (lv_room (Nat.le_of_ble_eq_true rfl)) dX3_readUnit_146 ⟨Nat.le_of_ble_eq_true rfl, Nat.le_of_ble_eq_true rfl⟩) hS (fun q _ h => hFc q h) hFc (fun u t H1 locs ht hvm hwra16 hB hz1 hk1 hS => ?_)
          obtain ⟨x17, oa_x17, ob_x17, pt0_ra16, hP1, hK1, hD1⟩ := hB
          rw [ht] at hP1
          obtain ⟨hP2, hD2⟩ := va_join (wr := (wd_6b0d8e05 h0 h1 h3 x4 h2 g0 f5 h3 g1 fn7)) (w1 := (wd_09b0abee h1 h2 v1 x17 v3 x6)) hP hD [1] [0, 2, 3] rfl rfl (by decide) (by decide) hk1 hFc hP1 hD1
          clear hP hD hPc hDc hKc hFc hP1 hK1 hD1 hk1 hz1
          generalize H1 = H at hP2 hS ⊢
          have hP := hP2.sub (ws' := (wd_1ad0248d h0 h1 h3 x4 h1 h2 v1 x17 v3 x6 h2 g0 f5 h3 g1 fn7)) [0, 3, 1, 2] rfl
          have hD := hD2.sub (ws' := (wd_1ad0248d h0 h1 h3 x4 h1 h2 v1 x17 v3 x6 h2 g0 f5 h3 g1 fn7)) [0, 3, 1, 2] (by decide) rfl
          clear hP2 hD2
          refine lv_aload_n hx hb dX3_readUnit_149 rfl (lv_at hl 2 rfl) ?_
          refine lv_iload_n hx hb dX3_readUnit_150 rfl (lv_at hl 3 rfl) ?_
          have hPc := hP.sub (ws' := (wd_1ad0248d h0 h1 h3 x4 h1 h2 v1 x17 v3 x6 h2 g0 f5 h3 g1 fn7)) [0, 1, 2, 3] rfl
          have hDc := hD.sub (ws' := (wd_1ad0248d h0 h1 h3 x4 h1 h2 v1 x17 v3 x6 h2 g0 f5 h3 g1 fn7)) [0, 1, 2, 3] (by decide) rfl
          have hKc := hK.sub (tys' := [(g0, .int), (g1, .int)]) [0, 1] rfl
          have hFc := va_free (wc := (wd_1ad0248d h0 h1 h3 x4 h1 h2 v1 x17 v3 x6 h2 g0 f5 h3 g1 fn7)) hD hS hA [0, 1, 2, 3] rfl
          refine va_calli (va_runV (As := [.int 4]) (rest := []) ⟨hx, hb, hml, hown, hts⟩ (k_X3_readSum_2 l dC dI adK adV h0 h1 h2 h3 x4 v1 x17 v3 x6 g0 f5 g1 fn7 ⟨oa_x4, ob_x4⟩ ⟨i_v1a, i_v1b⟩ ⟨by first | omega | decide, ob_x17⟩ ia_f5 H.size) (cwV 1 hts g_X3_readUnit_3_1 rfl rfl rfl (by decide +kernel) ⟨Nat.le_of_ble_eq_true rfl, Nat.le_of_ble_eq_true rfl⟩) ⟨fun a U g mk q => by obtain ⟨q0, q1, qP, qK, qD, n0, n1, n2⟩ := q; exact ⟨q0, q1, qP, va_K.moved (u := U) (U := U.calling g mk a) (Vm.Alike.refl U.vm) qK, qD, vk_R.same rfl n0, va_Z.moved (Vm.Alike.refl _) n1, vk_S.moved (Vm.Alike.refl _) n2⟩, pv_rc3 hKc hPc (q0 := 0) rfl, fun U hU hW => ⟨rfl, by rw [hU], by rw [hU]; exact hPc, va_K.moved hW.alike hKc, hDc.weaken (fun _ _ _ _ => trivial), vk_R.warm hW h_vr_2, (by rw [hU]; exact (va_Z.moved hW.alike (va_Z.kept h_st_CS hS.2.1)).narrow hFc), (by rw [hU]; exact (vk_S.moved hW.alike (vk_S.kept h_st_S hS.2.1)).narrow hFc)⟩⟩ rfl rfl hl.1 rfl (lv_room (Nat.le_of_ble_eq_true rfl)) dX3_readUnit_151 ⟨Nat.le_of_ble_eq_true rfl, Nat.le_of_ble_eq_true rfl⟩) hS (fun q _ h => hFc q h) hFc (fun ra18 u t H1 locs ht hvm hwra18 hB hz1 hk1 hS => ?_)
          try rw [hwra18] at hB
          rcases hB with hB | hB
          · skip
            obtain ⟨x19, x20, x21, fn22, oa_x19, ob_x19, oa_x20, ob_x20, pt0_ra18, pt1_ra18, pt2_ra18, pt3_ra18, hP1, hK1, hD1⟩ := hB
            rw [ht] at hP1
            obtain ⟨hP2, hD2⟩ := va_join (wr := []) (w1 := (wd_1ad0248d h0 h1 h3 x19 h1 h2 v1 x20 v3 x21 h2 g0 f5 h3 g1 fn22)) hP hD [0, 1, 2, 3] [] rfl rfl (by decide) (by decide) hk1 hFc hP1 hD1
            clear hP hD hPc hDc hKc hFc hP1 hK1 hD1 hk1 hz1
            generalize H1 = H at hP2 hS ⊢
            have hP : va_P (dC, dI) vwCl (wd_1ad0248d h0 h1 h3 x19 h1 h2 v1 x20 v3 x21 h2 g0 f5 h3 g1 fn22) H := hP2
            have hD : va_D A (wd_1ad0248d h0 h1 h3 x19 h1 h2 v1 x20 v3 x21 h2 g0 f5 h3 g1 fn22) := hD2
            clear hP2 hD2
            obtain rfl : ra18 = (1 : Int32) := pv_cs (by decide) pt0_ra18 pt1_ra18
            refine lv_if_ne (tgt := 159) hx hb dX3_readUnit_154 (by decide) (fun _ => ?_) (fun c => absurd c (by decide))
            refine lv_aload_n hx hb dX3_readUnit_159 rfl (lv_at hl 2 rfl) ?_
            refine lv_iload hx hb dX3_readUnit_160 (lv_at hl 0 rfl) ?_
            refine lv_iconst (v := 0) hx hb dX3_readUnit_162 (by decide) ?_
            have hPc := hP.sub (ws' := (wd_b958b9da h0 h1 h3 x19 h3 g1 fn22)) [0, 3] rfl
            have hDc := hD.sub (ws' := (wd_b958b9da h0 h1 h3 x19 h3 g1 fn22)) [0, 3] (by decide) rfl
            have hKc := hK.sub (tys' := [(g1, .int)]) [1] rfl
            have hFc := va_free (wc := (wd_b958b9da h0 h1 h3 x19 h3 g1 fn22)) hD hS hA [0, 3] rfl
            refine va_callv (va_runV (As := [.int ra14, .int 0]) (rest := []) ⟨hx, hb, hml, hown, hts⟩ (k_X3_write l dC dI h0 h3 h1 x19 g1 fn22 ra14 0 ⟨oa_x19, ob_x19⟩ H.size) (cwV 2 hts g_X3_readUnit_3_8 rfl rfl rfl (by decide +kernel) ⟨Nat.le_of_ble_eq_true rfl, Nat.le_of_ble_eq_true rfl⟩) (pv_PV3 hPc hKc hDc (q0 := 0) rfl) rfl rfl hl.1 rfl (lv_room (Nat.le_of_ble_eq_true rfl)) dX3_readUnit_163 ⟨Nat.le_of_ble_eq_true rfl, Nat.le_of_ble_eq_true rfl⟩) hS (fun q _ h => hFc q h) hFc (fun u t H1 locs ht hvm hwra23 hB hz1 hk1 hS => ?_)
            obtain ⟨x24, fn25, oa_x24, ob_x24, hP1, hK1, hD1⟩ := hB
            rw [ht] at hP1
            obtain ⟨hP2, hD2⟩ := va_join (wr := (wd_82cdd16b h1 h2 v1 x20 v3 x21 h2 g0 f5)) (w1 := (wd_b958b9da h0 h1 h3 x24 h3 g1 fn25)) hP hD [0, 3] [1, 2] rfl rfl (by decide) (by decide) hk1 hFc hP1 hD1
            clear hP hD hPc hDc hKc hFc hP1 hK1 hD1 hk1 hz1
            generalize H1 = H at hP2 hS ⊢
            have hP := hP2.sub (ws' := (wd_1ad0248d h0 h1 h3 x24 h1 h2 v1 x20 v3 x21 h2 g0 f5 h3 g1 fn25)) [2, 0, 1, 3] rfl
            have hD := hD2.sub (ws' := (wd_1ad0248d h0 h1 h3 x24 h1 h2 v1 x20 v3 x21 h2 g0 f5 h3 g1 fn25)) [2, 0, 1, 3] (by decide) rfl
            clear hP2 hD2
            refine lv_iconst (v := 1) hx hb dX3_readUnit_166 (by decide) ?_
            subst hQ
            have hP9 := hP.sub (ws' := (wd_1ad0248d h0 h1 h3 x24 h1 h2 v1 x20 v3 x21 h2 g0 f5 h3 g1 fn25)) [0, 1, 2, 3] rfl
            have hD9 := hD.sub (ws' := (wd_1ad0248d h0 h1 h3 x24 h1 h2 v1 x20 v3 x21 h2 g0 f5 h3 g1 fn25)) [0, 1, 2, 3] (by decide) rfl
            have hK9 := hK.sub (tys' := []) [] rfl
            exact W.zret (v := 1) hx hb hr rfl (fun t ht hW => ⟨⟨1, 1, rfl, rfl, Or.inl ⟨x24, x20, x21, fn25, oa_x24, ob_x24, oa_x20, ob_x20, by first | omega | decide, by first | omega | decide, by omega, by show pg_unitF f5 v1.toInt 2 true (pg_unit f5 v1.toInt 1) (pg_con f5 v1.toInt (pg_unit f5 v1.toInt 1)) _ = _; first | (apply pg_unitF.not <;> first | assumption | omega) | (apply pg_unitF.par1 <;> first | assumption | omega) | (apply pg_unitF.par0 <;> first | assumption | omega) | (apply pg_unitF.deep <;> first | assumption | omega) | (apply pg_unitF.sm1 <;> first | assumption | omega) | (apply pg_unitF.sm2 <;> first | assumption | omega) | (apply pg_unitF.sum0 <;> first | assumption | omega), by rw [ht]; exact hP9, va_K.moved hW.alike hK9, hD9⟩⟩, hS.F ht⟩) hS.2.2 dX3_readUnit_167
          · skip
            obtain ⟨x26, x27, x28, x29, fn30, oa_x26, ob_x26, oa_x27, ob_x27, oa_x28, ob_x28, pt0_ra18, pt1_ra18, pt2_ra18, pt3_ra18, hP1, hK1, hD1⟩ := hB
            rw [ht] at hP1
            obtain ⟨hP2, hD2⟩ := va_join (wr := []) (w1 := (wd_1ad0248d h0 h1 h3 x26 h1 h2 v1 x27 x28 x29 h2 g0 f5 h3 g1 fn30)) hP hD [0, 1, 2, 3] [] rfl rfl (by decide) (by decide) hk1 hFc hP1 hD1
            clear hP hD hPc hDc hKc hFc hP1 hK1 hD1 hk1 hz1
            generalize H1 = H at hP2 hS ⊢
            have hP : va_P (dC, dI) vwCl (wd_1ad0248d h0 h1 h3 x26 h1 h2 v1 x27 x28 x29 h2 g0 f5 h3 g1 fn30) H := hP2
            have hD : va_D A (wd_1ad0248d h0 h1 h3 x26 h1 h2 v1 x27 x28 x29 h2 g0 f5 h3 g1 fn30) := hD2
            clear hP2 hD2
            obtain rfl : ra18 = (0 : Int32) := pv_cs (by decide) pt0_ra18 pt1_ra18
            refine lv_if_ne (tgt := 159) hx hb dX3_readUnit_154 (by decide) (fun c => absurd (by decide) c) (fun _ => ?_)
            refine lv_iconst (v := 0) hx hb dX3_readUnit_157 (by decide) ?_
            subst hQ
            have hP9 := hP.sub (ws' := (wd_1ad0248d h0 h1 h3 x26 h1 h2 v1 x27 x28 x29 h2 g0 f5 h3 g1 fn30)) [0, 1, 2, 3] rfl
            have hD9 := hD.sub (ws' := (wd_1ad0248d h0 h1 h3 x26 h1 h2 v1 x27 x28 x29 h2 g0 f5 h3 g1 fn30)) [0, 1, 2, 3] (by decide) rfl
            have hK9 := hK.sub (tys' := []) [] rfl
            exact W.zret (v := 0) hx hb hr rfl (fun t ht hW => ⟨⟨0, 0, rfl, rfl, Or.inr (⟨x26, x27, x28, x29, fn30, oa_x26, ob_x26, oa_x27, ob_x27, oa_x28, ob_x28, by first | omega | decide, by first | omega | decide, by omega, by show pg_unitF f5 v1.toInt 2 true (pg_unit f5 v1.toInt 1) (pg_con f5 v1.toInt (pg_unit f5 v1.toInt 1)) _ = _; first | (apply pg_unitF.not <;> first | assumption | omega) | (apply pg_unitF.par1 <;> first | assumption | omega) | (apply pg_unitF.par0 <;> first | assumption | omega) | (apply pg_unitF.deep <;> first | assumption | omega) | (apply pg_unitF.sm1 <;> first | assumption | omega) | (apply pg_unitF.sm2 <;> first | assumption | omega) | (apply pg_unitF.sum0 <;> first | assumption | omega), by rw [ht]; exact hP9, va_K.moved hW.alike hK9, hD9⟩)⟩, hS.F ht⟩) hS.2.2 dX3_readUnit_158
        · skip
          have fc15 : ra14.toInt = (-1) := congrArg Int32.toInt c15
          refine lv_aload_n hx hb dX3_readUnit_134 rfl (lv_at hl 2 rfl) ?_
          refine va_get (D := (dC, dI)) (ci := 3) (v := .ref h1) (C := RX3) (T := TX3) (N := 3) hx hb hts (fun _ h => List.mem_cons_of_mem _ (List.mem_append_left _ (List.mem_append_right _ h))) hown hK hP 0 rfl rfl 0 (by decide) (hts (.fieldLink RX3 19 "LeftArguments$LawReader" "tape" "LLeftArguments$Tape;") (List.mem_cons_of_mem _ (List.mem_append_left _ (List.mem_append_left _ (List.mem_of_getElem? (i := 0) rfl))))) (fun _ h9 => h9) rfl dX3_readUnit_135 ?_
          have hPc := hP.sub (ws' := (wd_09b0abee h1 h2 v1 x13 v3 x6)) [1] rfl
          have hDc := hD.sub (ws' := (wd_09b0abee h1 h2 v1 x13 v3 x6)) [1] (by decide) rfl
          have hKc := hK.sub (tys' := []) [] rfl
          have hFc := va_free (wc := (wd_09b0abee h1 h2 v1 x13 v3 x6)) hD hS hA [1] rfl
          refine va_calli (va_runV (As := []) (rest := []) ⟨hx, hb, hml, hown, hts⟩ (k_X10_wrongHere l dC dI h1 h2 v1 x13 v3 x6 ⟨i_v1a, i_v1b⟩ ⟨oa_x13, by first | omega | decide⟩ H.size) (cwV 0 hts g_X3_readUnit_3_4 rfl rfl rfl (by decide +kernel) ⟨Nat.le_of_ble_eq_true rfl, Nat.le_of_ble_eq_true rfl⟩) (pv_PV10 hPc hKc hDc (q0 := 0) rfl) rfl rfl hl.1 rfl (lv_room (Nat.le_of_ble_eq_true rfl)) dX3_readUnit_138 ⟨Nat.le_of_ble_eq_true rfl, Nat.le_of_ble_eq_true rfl⟩) hS (fun q _ h => hFc q h) hFc (fun ra31 u t H1 locs ht hvm hwra31 hB hz1 hk1 hS => ?_)
          try rw [hwra31] at hB
          obtain ⟨x32, oa_x32, ob_x32, pt0_ra31, pt1_ra31, pt2_ra31, hP1, hK1, hD1⟩ := hB
          rw [ht] at hP1
          obtain ⟨hP2, hD2⟩ := va_join (wr := (wd_6b0d8e05 h0 h1 h3 x4 h2 g0 f5 h3 g1 fn7)) (w1 := (wd_09b0abee h1 h2 v1 x13 x32 x6)) hP hD [1] [0, 2, 3] rfl rfl (by decide) (by decide) hk1 hFc hP1 hD1
          clear hP hD hPc hDc hKc hFc hP1 hK1 hD1 hk1 hz1
          generalize H1 = H at hP2 hS ⊢
          have hP := hP2.sub (ws' := (wd_1ad0248d h0 h1 h3 x4 h1 h2 v1 x13 x32 x6 h2 g0 f5 h3 g1 fn7)) [0, 3, 1, 2] rfl
          have hD := hD2.sub (ws' := (wd_1ad0248d h0 h1 h3 x4 h1 h2 v1 x13 x32 x6 h2 g0 f5 h3 g1 fn7)) [0, 3, 1, 2] (by decide) rfl
          clear hP2 hD2
          obtain rfl : ra31 = (0 : Int32) := pv_cs (by decide) pt0_ra31 pt1_ra31
          subst hQ
          have hP9 := hP.sub (ws' := (wd_1ad0248d h0 h1 h3 x4 h1 h2 v1 x13 x32 x6 h2 g0 f5 h3 g1 fn7)) [0, 1, 2, 3] rfl
          have hD9 := hD.sub (ws' := (wd_1ad0248d h0 h1 h3 x4 h1 h2 v1 x13 x32 x6 h2 g0 f5 h3 g1 fn7)) [0, 1, 2, 3] (by decide) rfl
          have hK9 := hK.sub (tys' := []) [] rfl
          exact W.zret (v := 0) hx hb hr rfl (fun t ht hW => ⟨⟨0, 0, rfl, rfl, Or.inr (⟨x4, x13, x32, x6, fn7, oa_x4, ob_x4, oa_x13, by first | omega | decide, oa_x32, ob_x32, by first | omega | decide, by first | omega | decide, by omega, by show pg_unitF f5 v1.toInt 2 true (pg_unit f5 v1.toInt 1) (pg_con f5 v1.toInt (pg_unit f5 v1.toInt 1)) _ = _; first | (apply pg_unitF.not <;> first | assumption | omega) | (apply pg_unitF.par1 <;> first | assumption | omega) | (apply pg_unitF.par0 <;> first | assumption | omega) | (apply pg_unitF.deep <;> first | assumption | omega) | (apply pg_unitF.sm1 <;> first | assumption | omega) | (apply pg_unitF.sm2 <;> first | assumption | omega) | (apply pg_unitF.sum0 <;> first | assumption | omega), by rw [ht]; exact hP9, va_K.moved hW.alike hK9, hD9⟩)⟩, hS.F ht⟩) hS.2.2 dX3_readUnit_141
    · skip
      obtain ⟨x33, x34, x35, x36, fn37, oa_x33, ob_x33, oa_x34, ob_x34, oa_x35, ob_x35, pt0_ra3, pt1_ra3, pt2_ra3, pt3_ra3, hP1, hK1, hD1⟩ := hB
      rw [ht] at hP1
      obtain ⟨hP2, hD2⟩ := va_join (wr := []) (w1 := (wd_1ad0248d h0 h1 h3 x33 h1 h2 v1 x34 x35 x36 h2 g0 f5 h3 g1 fn37)) hP hD [0, 1, 2, 3] [] rfl rfl (by decide) (by decide) hk1 hFc hP1 hD1
      clear hP hD hPc hDc hKc hFc hP1 hK1 hD1 hk1 hz1
      generalize H1 = H at hP2 hS ⊢
      have hP : va_P (dC, dI) vwCl (wd_1ad0248d h0 h1 h3 x33 h1 h2 v1 x34 x35 x36 h2 g0 f5 h3 g1 fn37) H := hP2
      have hD : va_D A (wd_1ad0248d h0 h1 h3 x33 h1 h2 v1 x34 x35 x36 h2 g0 f5 h3 g1 fn37) := hD2
      clear hP2 hD2
      obtain rfl : ra3 = (0 : Int32) := pv_cs (by decide) pt0_ra3 pt1_ra3
      refine lv_if_ne (tgt := 116) hx hb dX3_readUnit_111 (by decide) (fun c => absurd (by decide) c) (fun _ => ?_)
      refine lv_iconst (v := 0) hx hb dX3_readUnit_114 (by decide) ?_
      subst hQ
      have hP9 := hP.sub (ws' := (wd_1ad0248d h0 h1 h3 x33 h1 h2 v1 x34 x35 x36 h2 g0 f5 h3 g1 fn37)) [0, 1, 2, 3] rfl
      have hD9 := hD.sub (ws' := (wd_1ad0248d h0 h1 h3 x33 h1 h2 v1 x34 x35 x36 h2 g0 f5 h3 g1 fn37)) [0, 1, 2, 3] (by decide) rfl
      have hK9 := hK.sub (tys' := []) [] rfl
      exact W.zret (v := 0) hx hb hr rfl (fun t ht hW => ⟨⟨0, 0, rfl, rfl, Or.inr (⟨x33, x34, x35, x36, fn37, oa_x33, ob_x33, oa_x34, ob_x34, oa_x35, ob_x35, by first | omega | decide, by first | omega | decide, by omega, by show pg_unitF f5 v1.toInt 2 true (pg_unit f5 v1.toInt 1) (pg_con f5 v1.toInt (pg_unit f5 v1.toInt 1)) _ = _; first | (apply pg_unitF.not <;> first | assumption | omega) | (apply pg_unitF.par1 <;> first | assumption | omega) | (apply pg_unitF.par0 <;> first | assumption | omega) | (apply pg_unitF.deep <;> first | assumption | omega) | (apply pg_unitF.sm1 <;> first | assumption | omega) | (apply pg_unitF.sm2 <;> first | assumption | omega) | (apply pg_unitF.sum0 <;> first | assumption | omega), by rw [ht]; exact hP9, va_K.moved hW.alike hK9, hD9⟩)⟩, hS.F ht⟩) hS.2.2 dX3_readUnit_115
  · skip
    obtain ⟨x38, oa_x38, ob_x38, pt0_ra1, pt1_ra1, pt2_ra1, pt3_ra1, pt4_ra1, pt5_ra1, pt6_ra1, hP1, hK1, hD1⟩ := hB
    rw [ht] at hP1
    obtain ⟨hP2, hD2⟩ := va_join (wr := (wd_b958b9da h0 h1 h3 v0 h3 g1 f6)) (w1 := (wd_82cdd16b h1 h2 v1 x38 v3 v4 h2 g0 f5)) hP hD [1, 2] [0, 3] rfl rfl (by decide) (by decide) hk1 hFc hP1 hD1
    clear hP hD hPc hDc hKc hFc hP1 hK1 hD1 hk1 hz1
    generalize H1 = H at hP2 hS ⊢
    have hP := hP2.sub (ws' := (wd_1ad0248d h0 h1 h3 v0 h1 h2 v1 x38 v3 v4 h2 g0 f5 h3 g1 f6)) [0, 2, 3, 1] rfl
    have hD := hD2.sub (ws' := (wd_1ad0248d h0 h1 h3 v0 h1 h2 v1 x38 v3 v4 h2 g0 f5 h3 g1 f6)) [0, 2, 3, 1] (by decide) rfl
    clear hP2 hD2
    refine lv_istore_n (lv' := [(3, .int ra1), (0, .ref h0), (1, .int 4), (2, .int 0)]) hx hb dX3_readUnit_7 rfl hl (by decide) rfl (fun ls hl => ?_)
    refine lv_iload_n hx hb dX3_readUnit_8 rfl (lv_at hl 3 rfl) ?_
    refine lv_if_ne (tgt := 102) hx hb dX3_readUnit_9 (by decide) (fun c => absurd (by decide) c) (fun _ => ?_)
    refine lv_iload_n hx hb dX3_readUnit_12 rfl (lv_at hl 0 rfl) ?_
    refine lv_bipush (v := 33) hx hb dX3_readUnit_13 (by decide) ?_
    refine lv_icmp_eq (tgt := 24) hx hb dX3_readUnit_15 (by decide) (fun c39 => ?_) (fun c39 => ?_)
    · skip
      have fc39 : ra1.toInt = 33 := congrArg Int32.toInt c39
      refine lv_iload_n hx hb dX3_readUnit_24 rfl (lv_at hl 2 rfl) ?_
      refine lv_bipush (v := 6) hx hb dX3_readUnit_25 (by decide) ?_
      refine lv_icmp_lt (tgt := 38) hx hb dX3_readUnit_27 (by decide) (fun _ => ?_) (fun c => absurd (by decide) c)
      refine lv_aload_n hx hb dX3_readUnit_38 rfl (lv_at hl 1 rfl) ?_
      refine va_get (D := (dC, dI)) (ci := 3) (v := .ref h1) (C := RX3) (T := TX3) (N := 3) hx hb hts (fun _ h => List.mem_cons_of_mem _ (List.mem_append_left _ (List.mem_append_right _ h))) hown hK hP 0 rfl rfl 0 (by decide) (hts (.fieldLink RX3 19 "LeftArguments$LawReader" "tape" "LLeftArguments$Tape;") (List.mem_cons_of_mem _ (List.mem_append_left _ (List.mem_append_left _ (List.mem_of_getElem? (i := 0) rfl))))) (fun _ h9 => h9) rfl dX3_readUnit_39 ?_
      have hPc := hP.sub (ws' := (wd_09b0abee h1 h2 v1 x38 v3 v4)) [1] rfl
      have hDc := hD.sub (ws' := (wd_09b0abee h1 h2 v1 x38 v3 v4)) [1] (by decide) rfl
      have hKc := hK.sub (tys' := []) [] rfl
      have hFc := va_free (wc := (wd_09b0abee h1 h2 v1 x38 v3 v4)) hD hS hA [1] rfl
      refine va_callv (va_runV (As := []) (rest := []) ⟨hx, hb, hml, hown, hts⟩ (k_X10_step l dC dI h1 h2 v1 x38 v3 v4 ⟨i_v1a, i_v1b⟩ ⟨oa_x38, ob_x38⟩ H.size) (cwV 0 hts g_X3_readUnit_3_6 rfl rfl rfl (by decide +kernel) ⟨Nat.le_of_ble_eq_true rfl, Nat.le_of_ble_eq_true rfl⟩) (pv_PV10 hPc hKc hDc (q0 := 0) rfl) rfl rfl hl.1 rfl (lv_room (Nat.le_of_ble_eq_true rfl)) dX3_readUnit_42 ⟨Nat.le_of_ble_eq_true rfl, Nat.le_of_ble_eq_true rfl⟩) hS (fun q _ h => hFc q h) hFc (fun u t H1 locs ht hvm hwra40 hB hz1 hk1 hS => ?_)
      obtain ⟨x41, oa_x41, ob_x41, pt0_ra40, hP1, hK1, hD1⟩ := hB
      rw [ht] at hP1
      obtain ⟨hP2, hD2⟩ := va_join (wr := (wd_6b0d8e05 h0 h1 h3 v0 h2 g0 f5 h3 g1 f6)) (w1 := (wd_09b0abee h1 h2 v1 x41 v3 v4)) hP hD [1] [0, 2, 3] rfl rfl (by decide) (by decide) hk1 hFc hP1 hD1
      clear hP hD hPc hDc hKc hFc hP1 hK1 hD1 hk1 hz1
      generalize H1 = H at hP2 hS ⊢
      have hP := hP2.sub (ws' := (wd_1ad0248d h0 h1 h3 v0 h1 h2 v1 x41 v3 v4 h2 g0 f5 h3 g1 f6)) [0, 3, 1, 2] rfl
      have hD := hD2.sub (ws' := (wd_1ad0248d h0 h1 h3 v0 h1 h2 v1 x41 v3 v4 h2 g0 f5 h3 g1 f6)) [0, 3, 1, 2] (by decide) rfl
      clear hP2 hD2
      refine lv_iload_n hx hb dX3_readUnit_45 rfl (lv_at hl 0 rfl) ?_
      refine lv_bipush (v := 40) hx hb dX3_readUnit_46 (by decide) ?_
      refine lv_icmp_ne (tgt := 80) hx hb dX3_readUnit_48 (by decide) (fun _ => ?_) (fun c42 => by exfalso; have fc42 : ra1.toInt = 40 := congrArg Int32.toInt c42; omega)
      refine lv_aload_n hx hb dX3_readUnit_80 rfl (lv_at hl 1 rfl) ?_
      refine lv_iload_n hx hb dX3_readUnit_81 rfl (lv_at hl 2 rfl) ?_
      refine lv_iconst (v := 1) hx hb dX3_readUnit_82 (by decide) ?_
      refine lv_iadd hx hb dX3_readUnit_83 ?_
      refine lv_topi (fun tv43 etv43 => ?_)
      obtain rfl : tv43 = (5 : Int32) := etv43.trans (by first | rfl | decide)
      refine lv_iconst (v := 0) hx hb dX3_readUnit_84 (by decide) ?_
      have hPc := hP.sub (ws' := (wd_1ad0248d h0 h1 h3 v0 h1 h2 v1 x41 v3 v4 h2 g0 f5 h3 g1 f6)) [0, 1, 2, 3] rfl
      have hDc := hD.sub (ws' := (wd_1ad0248d h0 h1 h3 v0 h1 h2 v1 x41 v3 v4 h2 g0 f5 h3 g1 f6)) [0, 1, 2, 3] (by decide) rfl
      have hKc := hK.sub (tys' := [(g0, .int), (g1, .int)]) [0, 1] rfl
      have hFc := va_free (wc := (wd_1ad0248d h0 h1 h3 v0 h1 h2 v1 x41 v3 v4 h2 g0 f5 h3 g1 f6)) hD hS hA [0, 1, 2, 3] rfl
      refine va_calli (va_runV (As := [.int 5, .int 0]) (rest := []) ⟨hx, hb, hml, hown, hts⟩ (k_X3_readUnit_2 l dC dI adK adV h0 h1 h2 h3 v0 v1 x41 v3 v4 g0 f5 g1 f6 ⟨i_v0a, i_v0b⟩ ⟨i_v1a, i_v1b⟩ ⟨by first | omega | decide, ob_x41⟩ ia_f5 H.size) (cwV 2 hts g_X3_readUnit_3_11 rfl rfl rfl (by decide +kernel) ⟨Nat.le_of_ble_eq_true rfl, Nat.le_of_ble_eq_true rfl⟩) ⟨fun a U g mk q => by obtain ⟨q0, q1, qP, qK, qD, n0, n1, n2⟩ := q; exact ⟨q0, q1, qP, va_K.moved (u := U) (U := U.calling g mk a) (Vm.Alike.refl U.vm) qK, qD, vk_R.same rfl n0, va_Z.moved (Vm.Alike.refl _) n1, vk_S.moved (Vm.Alike.refl _) n2⟩, pv_rc3 hKc hPc (q0 := 0) rfl, fun U hU hW => ⟨rfl, by rw [hU], by rw [hU]; exact hPc, va_K.moved hW.alike hKc, hDc.weaken (fun _ _ _ _ => trivial), vk_R.warm hW h_vr_2, (by rw [hU]; exact (va_Z.moved hW.alike (va_Z.kept h_st_CS hS.2.1)).narrow hFc), (by rw [hU]; exact (vk_S.moved hW.alike (vk_S.kept h_st_S hS.2.1)).narrow hFc)⟩⟩ rfl rfl hl.1 rfl (lv_room (Nat.le_of_ble_eq_true rfl)) dX3_readUnit_85 ⟨Nat.le_of_ble_eq_true rfl, Nat.le_of_ble_eq_true rfl⟩) hS (fun q _ h => hFc q h) hFc (fun ra44 u t H1 locs ht hvm hwra44 hB hz1 hk1 hS => ?_)
      try rw [hwra44] at hB
      rcases hB with hB | hB
      · skip
        obtain ⟨x45, x46, x47, fn48, oa_x45, ob_x45, oa_x46, ob_x46, pt0_ra44, pt1_ra44, pt2_ra44, pt3_ra44, hP1, hK1, hD1⟩ := hB
        rw [ht] at hP1
        obtain ⟨hP2, hD2⟩ := va_join (wr := []) (w1 := (wd_1ad0248d h0 h1 h3 x45 h1 h2 v1 x46 v3 x47 h2 g0 f5 h3 g1 fn48)) hP hD [0, 1, 2, 3] [] rfl rfl (by decide) (by decide) hk1 hFc hP1 hD1
        clear hP hD hPc hDc hKc hFc hP1 hK1 hD1 hk1 hz1
        generalize H1 = H at hP2 hS ⊢
        have hP : va_P (dC, dI) vwCl (wd_1ad0248d h0 h1 h3 x45 h1 h2 v1 x46 v3 x47 h2 g0 f5 h3 g1 fn48) H := hP2
        have hD : va_D A (wd_1ad0248d h0 h1 h3 x45 h1 h2 v1 x46 v3 x47 h2 g0 f5 h3 g1 fn48) := hD2
        clear hP2 hD2
        obtain rfl : ra44 = (1 : Int32) := pv_cs (by decide) pt0_ra44 pt1_ra44
        refine lv_if_ne (tgt := 93) hx hb dX3_readUnit_88 (by decide) (fun _ => ?_) (fun c => absurd c (by decide))
        refine lv_aload_n hx hb dX3_readUnit_93 rfl (lv_at hl 1 rfl) ?_
        refine lv_bipush (v := 9) hx hb dX3_readUnit_94 (by decide) ?_
        refine lv_iconst (v := 0) hx hb dX3_readUnit_96 (by decide) ?_
        have hPc := hP.sub (ws' := (wd_b958b9da h0 h1 h3 x45 h3 g1 fn48)) [0, 3] rfl
        have hDc := hD.sub (ws' := (wd_b958b9da h0 h1 h3 x45 h3 g1 fn48)) [0, 3] (by decide) rfl
        have hKc := hK.sub (tys' := [(g1, .int)]) [1] rfl
        have hFc := va_free (wc := (wd_b958b9da h0 h1 h3 x45 h3 g1 fn48)) hD hS hA [0, 3] rfl
        refine va_callv (va_runV (As := [.int 9, .int 0]) (rest := []) ⟨hx, hb, hml, hown, hts⟩ (k_X3_write l dC dI h0 h3 h1 x45 g1 fn48 9 0 ⟨oa_x45, ob_x45⟩ H.size) (cwV 2 hts g_X3_readUnit_3_8 rfl rfl rfl (by decide +kernel) ⟨Nat.le_of_ble_eq_true rfl, Nat.le_of_ble_eq_true rfl⟩) (pv_PV3 hPc hKc hDc (q0 := 0) rfl) rfl rfl hl.1 rfl (lv_room (Nat.le_of_ble_eq_true rfl)) dX3_readUnit_97 ⟨Nat.le_of_ble_eq_true rfl, Nat.le_of_ble_eq_true rfl⟩) hS (fun q _ h => hFc q h) hFc (fun u t H1 locs ht hvm hwra49 hB hz1 hk1 hS => ?_)
        obtain ⟨x50, fn51, oa_x50, ob_x50, hP1, hK1, hD1⟩ := hB
        rw [ht] at hP1
        obtain ⟨hP2, hD2⟩ := va_join (wr := (wd_82cdd16b h1 h2 v1 x46 v3 x47 h2 g0 f5)) (w1 := (wd_b958b9da h0 h1 h3 x50 h3 g1 fn51)) hP hD [0, 3] [1, 2] rfl rfl (by decide) (by decide) hk1 hFc hP1 hD1
        clear hP hD hPc hDc hKc hFc hP1 hK1 hD1 hk1 hz1
        generalize H1 = H at hP2 hS ⊢
        have hP := hP2.sub (ws' := (wd_1ad0248d h0 h1 h3 x50 h1 h2 v1 x46 v3 x47 h2 g0 f5 h3 g1 fn51)) [2, 0, 1, 3] rfl
        have hD := hD2.sub (ws' := (wd_1ad0248d h0 h1 h3 x50 h1 h2 v1 x46 v3 x47 h2 g0 f5 h3 g1 fn51)) [2, 0, 1, 3] (by decide) rfl
        clear hP2 hD2
        refine lv_iconst (v := 1) hx hb dX3_readUnit_100 (by decide) ?_
        subst hQ
        have hP9 := hP.sub (ws' := (wd_1ad0248d h0 h1 h3 x50 h1 h2 v1 x46 v3 x47 h2 g0 f5 h3 g1 fn51)) [0, 1, 2, 3] rfl
        have hD9 := hD.sub (ws' := (wd_1ad0248d h0 h1 h3 x50 h1 h2 v1 x46 v3 x47 h2 g0 f5 h3 g1 fn51)) [0, 1, 2, 3] (by decide) rfl
        have hK9 := hK.sub (tys' := []) [] rfl
        exact W.zret (v := 1) hx hb hr rfl (fun t ht hW => ⟨⟨1, 1, rfl, rfl, Or.inl ⟨x50, x46, x47, fn51, oa_x50, ob_x50, oa_x46, ob_x46, by first | omega | decide, by first | omega | decide, by omega, by show pg_unitF f5 v1.toInt 2 true (pg_unit f5 v1.toInt 1) (pg_con f5 v1.toInt (pg_unit f5 v1.toInt 1)) _ = _; first | (apply pg_unitF.not <;> first | assumption | omega) | (apply pg_unitF.par1 <;> first | assumption | omega) | (apply pg_unitF.par0 <;> first | assumption | omega) | (apply pg_unitF.deep <;> first | assumption | omega) | (apply pg_unitF.sm1 <;> first | assumption | omega) | (apply pg_unitF.sm2 <;> first | assumption | omega) | (apply pg_unitF.sum0 <;> first | assumption | omega), by rw [ht]; exact hP9, va_K.moved hW.alike hK9, hD9⟩⟩, hS.F ht⟩) hS.2.2 dX3_readUnit_101
      · skip
        obtain ⟨x52, x53, x54, x55, fn56, oa_x52, ob_x52, oa_x53, ob_x53, oa_x54, ob_x54, pt0_ra44, pt1_ra44, pt2_ra44, pt3_ra44, hP1, hK1, hD1⟩ := hB
        rw [ht] at hP1
        obtain ⟨hP2, hD2⟩ := va_join (wr := []) (w1 := (wd_1ad0248d h0 h1 h3 x52 h1 h2 v1 x53 x54 x55 h2 g0 f5 h3 g1 fn56)) hP hD [0, 1, 2, 3] [] rfl rfl (by decide) (by decide) hk1 hFc hP1 hD1
        clear hP hD hPc hDc hKc hFc hP1 hK1 hD1 hk1 hz1
        generalize H1 = H at hP2 hS ⊢
        have hP : va_P (dC, dI) vwCl (wd_1ad0248d h0 h1 h3 x52 h1 h2 v1 x53 x54 x55 h2 g0 f5 h3 g1 fn56) H := hP2
        have hD : va_D A (wd_1ad0248d h0 h1 h3 x52 h1 h2 v1 x53 x54 x55 h2 g0 f5 h3 g1 fn56) := hD2
        clear hP2 hD2
        obtain rfl : ra44 = (0 : Int32) := pv_cs (by decide) pt0_ra44 pt1_ra44
        refine lv_if_ne (tgt := 93) hx hb dX3_readUnit_88 (by decide) (fun c => absurd (by decide) c) (fun _ => ?_)
        refine lv_iconst (v := 0) hx hb dX3_readUnit_91 (by decide) ?_
        subst hQ
        have hP9 := hP.sub (ws' := (wd_1ad0248d h0 h1 h3 x52 h1 h2 v1 x53 x54 x55 h2 g0 f5 h3 g1 fn56)) [0, 1, 2, 3] rfl
        have hD9 := hD.sub (ws' := (wd_1ad0248d h0 h1 h3 x52 h1 h2 v1 x53 x54 x55 h2 g0 f5 h3 g1 fn56)) [0, 1, 2, 3] (by decide) rfl
        have hK9 := hK.sub (tys' := []) [] rfl
        exact W.zret (v := 0) hx hb hr rfl (fun t ht hW => ⟨⟨0, 0, rfl, rfl, Or.inr (⟨x52, x53, x54, x55, fn56, oa_x52, ob_x52, oa_x53, ob_x53, oa_x54, ob_x54, by first | omega | decide, by first | omega | decide, by omega, by show pg_unitF f5 v1.toInt 2 true (pg_unit f5 v1.toInt 1) (pg_con f5 v1.toInt (pg_unit f5 v1.toInt 1)) _ = _; first | (apply pg_unitF.not <;> first | assumption | omega) | (apply pg_unitF.par1 <;> first | assumption | omega) | (apply pg_unitF.par0 <;> first | assumption | omega) | (apply pg_unitF.deep <;> first | assumption | omega) | (apply pg_unitF.sm1 <;> first | assumption | omega) | (apply pg_unitF.sm2 <;> first | assumption | omega) | (apply pg_unitF.sum0 <;> first | assumption | omega), by rw [ht]; exact hP9, va_K.moved hW.alike hK9, hD9⟩)⟩, hS.F ht⟩) hS.2.2 dX3_readUnit_92
    · skip
      have fc39 : ¬ (ra1.toInt = 33) := fun h9 => c39 (Int32.toInt_inj.mp h9)
      refine lv_iload_n hx hb dX3_readUnit_18 rfl (lv_at hl 0 rfl) ?_
      refine lv_bipush (v := 40) hx hb dX3_readUnit_19 (by decide) ?_
      refine lv_icmp_ne (tgt := 102) hx hb dX3_readUnit_21 (by decide) (fun c57 => ?_) (fun c57 => ?_)
      · skip
        have fc57 : ¬ (ra1.toInt = 40) := fun h9 => c57 (Int32.toInt_inj.mp h9)
        refine lv_iload_n hx hb dX3_readUnit_102 rfl (lv_at hl 3 rfl) ?_
        refine lv_if_ne (tgt := 116) hx hb dX3_readUnit_103 (by decide) (fun c => absurd (by decide) c) (fun _ => ?_)
        refine lv_aload_n hx hb dX3_readUnit_106 rfl (lv_at hl 1 rfl) ?_
        refine lv_iload_n hx hb dX3_readUnit_107 rfl (lv_at hl 2 rfl) ?_
        have hPc := hP.sub (ws' := (wd_1ad0248d h0 h1 h3 v0 h1 h2 v1 x38 v3 v4 h2 g0 f5 h3 g1 f6)) [0, 1, 2, 3] rfl
        have hDc := hD.sub (ws' := (wd_1ad0248d h0 h1 h3 v0 h1 h2 v1 x38 v3 v4 h2 g0 f5 h3 g1 f6)) [0, 1, 2, 3] (by decide) rfl
        have hKc := hK.sub (tys' := [(g0, .int), (g1, .int)]) [0, 1] rfl
        have hFc := va_free (wc := (wd_1ad0248d h0 h1 h3 v0 h1 h2 v1 x38 v3 v4 h2 g0 f5 h3 g1 f6)) hD hS hA [0, 1, 2, 3] rfl
        refine va_calli (va_runV (As := [.int 4]) (rest := []) ⟨hx, hb, hml, hown, hts⟩ (k_X3_readSum_2 l dC dI adK adV h0 h1 h2 h3 v0 v1 x38 v3 v4 g0 f5 g1 f6 ⟨i_v0a, i_v0b⟩ ⟨i_v1a, i_v1b⟩ ⟨oa_x38, by first | omega | decide⟩ ia_f5 H.size) (cwV 1 hts g_X3_readUnit_3_1 rfl rfl rfl (by decide +kernel) ⟨Nat.le_of_ble_eq_true rfl, Nat.le_of_ble_eq_true rfl⟩) ⟨fun a U g mk q => by obtain ⟨q0, q1, qP, qK, qD, n0, n1, n2⟩ := q; exact ⟨q0, q1, qP, va_K.moved (u := U) (U := U.calling g mk a) (Vm.Alike.refl U.vm) qK, qD, vk_R.same rfl n0, va_Z.moved (Vm.Alike.refl _) n1, vk_S.moved (Vm.Alike.refl _) n2⟩, pv_rc3 hKc hPc (q0 := 0) rfl, fun U hU hW => ⟨rfl, by rw [hU], by rw [hU]; exact hPc, va_K.moved hW.alike hKc, hDc.weaken (fun _ _ _ _ => trivial), vk_R.warm hW h_vr_2, (by rw [hU]; exact (va_Z.moved hW.alike (va_Z.kept h_st_CS hS.2.1)).narrow hFc), (by rw [hU]; exact (vk_S.moved hW.alike (vk_S.kept h_st_S hS.2.1)).narrow hFc)⟩⟩ rfl rfl hl.1 rfl (lv_room (Nat.le_of_ble_eq_true rfl)) dX3_readUnit_108 ⟨Nat.le_of_ble_eq_true rfl, Nat.le_of_ble_eq_true rfl⟩) hS (fun q _ h => hFc q h) hFc (fun ra58 u t H1 locs ht hvm hwra58 hB hz1 hk1 hS => ?_)
        try rw [hwra58] at hB
        rcases hB with hB | hB
        · skip
          obtain ⟨x59, x60, x61, fn62, oa_x59, ob_x59, oa_x60, ob_x60, pt0_ra58, pt1_ra58, pt2_ra58, pt3_ra58, hP1, hK1, hD1⟩ := hB
          rw [ht] at hP1
          obtain ⟨hP2, hD2⟩ := va_join (wr := []) (w1 := (wd_1ad0248d h0 h1 h3 x59 h1 h2 v1 x60 v3 x61 h2 g0 f5 h3 g1 fn62)) hP hD [0, 1, 2, 3] [] rfl rfl (by decide) (by decide) hk1 hFc hP1 hD1
          clear hP hD hPc hDc hKc hFc hP1 hK1 hD1 hk1 hz1
          generalize H1 = H at hP2 hS ⊢
          have hP : va_P (dC, dI) vwCl (wd_1ad0248d h0 h1 h3 x59 h1 h2 v1 x60 v3 x61 h2 g0 f5 h3 g1 fn62) H := hP2
          have hD : va_D A (wd_1ad0248d h0 h1 h3 x59 h1 h2 v1 x60 v3 x61 h2 g0 f5 h3 g1 fn62) := hD2
          clear hP2 hD2
          obtain rfl : ra58 = (1 : Int32) := pv_cs (by decide) pt0_ra58 pt1_ra58
          refine lv_if_ne (tgt := 116) hx hb dX3_readUnit_111 (by decide) (fun _ => ?_) (fun c => absurd c (by decide))
          refine lv_aload_n hx hb dX3_readUnit_116 rfl (lv_at hl 1 rfl) ?_
          refine va_get (D := (dC, dI)) (ci := 3) (v := .ref h1) (C := RX3) (T := TX3) (N := 3) hx hb hts (fun _ h => List.mem_cons_of_mem _ (List.mem_append_left _ (List.mem_append_right _ h))) hown hK hP 0 rfl rfl 0 (by decide) (hts (.fieldLink RX3 19 "LeftArguments$LawReader" "tape" "LLeftArguments$Tape;") (List.mem_cons_of_mem _ (List.mem_append_left _ (List.mem_append_left _ (List.mem_of_getElem? (i := 0) rfl))))) (fun _ h9 => h9) rfl dX3_readUnit_117 ?_
          have hPc := hP.sub (ws' := (wd_82cdd16b h1 h2 v1 x60 v3 x61 h2 g0 f5)) [1, 2] rfl
          have hDc := hD.sub (ws' := (wd_82cdd16b h1 h2 v1 x60 v3 x61 h2 g0 f5)) [1, 2] (by decide) rfl
          have hKc := hK.sub (tys' := [(g0, .int)]) [0] rfl
          have hFc := va_free (wc := (wd_82cdd16b h1 h2 v1 x60 v3 x61 h2 g0 f5)) hD hS hA [1, 2] rfl
          refine va_calli (va_runV (As := []) (rest := []) ⟨hx, hb, hml, hown, hts⟩ (k_X10_next l dC dI h1 h2 v1 x60 v3 x61 g0 f5 ⟨i_v1a, i_v1b⟩ ⟨oa_x60, ob_x60⟩ ia_f5 H.size) (cwV 0 hts g_X3_readUnit_3_0 rfl rfl rfl (by decide +kernel) ⟨Nat.le_of_ble_eq_true rfl, Nat.le_of_ble_eq_true rfl⟩) (pv_PV10 hPc hKc hDc (q0 := 0) rfl) rfl rfl hl.1 rfl (lv_room (Nat.le_of_ble_eq_true rfl)) dX3_readUnit_120 ⟨Nat.le_of_ble_eq_true rfl, Nat.le_of_ble_eq_true rfl⟩) hS (fun q _ h => hFc q h) hFc (fun ra63 u t H1 locs ht hvm hwra63 hB hz1 hk1 hS => ?_)
          try rw [hwra63] at hB
          rcases hB with hB | hB
          · skip
            obtain ⟨x64, oa_x64, ob_x64, pt0_ra63, pt1_ra63, pt2_ra63, pt3_ra63, pt4_ra63, pt5_ra63, pt6_ra63, hP1, hK1, hD1⟩ := hB
            rw [ht] at hP1
            obtain ⟨hP2, hD2⟩ := va_join (wr := (wd_b958b9da h0 h1 h3 x59 h3 g1 fn62)) (w1 := (wd_82cdd16b h1 h2 v1 x64 v3 x61 h2 g0 f5)) hP hD [1, 2] [0, 3] rfl rfl (by decide) (by decide) hk1 hFc hP1 hD1
            clear hP hD hPc hDc hKc hFc hP1 hK1 hD1 hk1 hz1
            generalize H1 = H at hP2 hS ⊢
            have hP := hP2.sub (ws' := (wd_1ad0248d h0 h1 h3 x59 h1 h2 v1 x64 v3 x61 h2 g0 f5 h3 g1 fn62)) [0, 2, 3, 1] rfl
            have hD := hD2.sub (ws' := (wd_1ad0248d h0 h1 h3 x59 h1 h2 v1 x64 v3 x61 h2 g0 f5 h3 g1 fn62)) [0, 2, 3, 1] (by decide) rfl
            clear hP2 hD2
            obtain rfl : ra63 = ((-1) : Int32) := pv_cs (by decide) pt0_ra63 pt1_ra63
            have hPc := hP.sub (ws' := []) [] rfl
            have hDc := hD.sub (ws' := []) [] (by decide) rfl
            have hKc := hK.sub (tys' := []) [] rfl
            have hFc := va_free (wc := []) hD hS hA [] rfl
            refine va_calli (va_runS (As := [.int (-1)]) (rest := []) ⟨hx, hb, hml, hown, hts⟩ (k_X3_comparing l dC dI   H.size) (va_cwS 1 hts g_X3_readUnit_3_3 rfl rfl rfl (by decide +kernel) ⟨Nat.le_of_ble_eq_true rfl, Nat.le_of_ble_eq_true rfl⟩) (pv_PS hPc hKc hDc) rfl rfl hl.1 rfl (lv_room (Nat.le_of_ble_eq_true rfl)) dX3_readUnit_123 ⟨Nat.le_of_ble_eq_true rfl, Nat.le_of_ble_eq_true rfl⟩) hS (fun q _ h => hFc q h) hFc (fun ra65 u t H1 locs ht hvm hwra65 hB hz1 hk1 hS => ?_)
            try rw [hwra65] at hB
            obtain ⟨pt0_ra65, pt1_ra65, hP1, hK1, hD1⟩ := hB
            rw [ht] at hP1
            obtain ⟨hP2, hD2⟩ := va_join (wr := (wd_1ad0248d h0 h1 h3 x59 h1 h2 v1 x64 v3 x61 h2 g0 f5 h3 g1 fn62)) (w1 := []) hP hD [] [0, 1, 2, 3] rfl rfl (by decide) (by decide) hk1 hFc hP1 hD1
            clear hP hD hPc hDc hKc hFc hP1 hK1 hD1 hk1 hz1
            generalize H1 = H at hP2 hS ⊢
            have hP : va_P (dC, dI) vwCl (wd_1ad0248d h0 h1 h3 x59 h1 h2 v1 x64 v3 x61 h2 g0 f5 h3 g1 fn62) H := hP2
            have hD : va_D A (wd_1ad0248d h0 h1 h3 x59 h1 h2 v1 x64 v3 x61 h2 g0 f5 h3 g1 fn62) := hD2
            clear hP2 hD2
            obtain rfl : ra65 = ((-1) : Int32) := pv_cs (by decide) pt0_ra65 pt1_ra65
            refine lv_istore (lv' := [(4, .int (-1)), (3, .int ra1), (0, .ref h0), (1, .int 4), (2, .int 0)]) hx hb dX3_readUnit_126 hl (by decide) rfl (fun ls hl => ?_)
            refine lv_iload hx hb dX3_readUnit_128 (lv_at hl 0 rfl) ?_
            refine lv_iconst (v := (-1)) hx hb dX3_readUnit_130 (by decide) ?_
            refine lv_icmp_ne (tgt := 142) hx hb dX3_readUnit_131 (by decide) (fun c => absurd (by decide) c) (fun _ => ?_)
            refine lv_aload_n hx hb dX3_readUnit_134 rfl (lv_at hl 2 rfl) ?_
            refine va_get (D := (dC, dI)) (ci := 3) (v := .ref h1) (C := RX3) (T := TX3) (N := 3) hx hb hts (fun _ h => List.mem_cons_of_mem _ (List.mem_append_left _ (List.mem_append_right _ h))) hown hK hP 0 rfl rfl 0 (by decide) (hts (.fieldLink RX3 19 "LeftArguments$LawReader" "tape" "LLeftArguments$Tape;") (List.mem_cons_of_mem _ (List.mem_append_left _ (List.mem_append_left _ (List.mem_of_getElem? (i := 0) rfl))))) (fun _ h9 => h9) rfl dX3_readUnit_135 ?_
            have hPc := hP.sub (ws' := (wd_09b0abee h1 h2 v1 x64 v3 x61)) [1] rfl
            have hDc := hD.sub (ws' := (wd_09b0abee h1 h2 v1 x64 v3 x61)) [1] (by decide) rfl
            have hKc := hK.sub (tys' := []) [] rfl
            have hFc := va_free (wc := (wd_09b0abee h1 h2 v1 x64 v3 x61)) hD hS hA [1] rfl
            refine va_calli (va_runV (As := []) (rest := []) ⟨hx, hb, hml, hown, hts⟩ (k_X10_wrongHere l dC dI h1 h2 v1 x64 v3 x61 ⟨i_v1a, i_v1b⟩ ⟨oa_x64, ob_x64⟩ H.size) (cwV 0 hts g_X3_readUnit_3_4 rfl rfl rfl (by decide +kernel) ⟨Nat.le_of_ble_eq_true rfl, Nat.le_of_ble_eq_true rfl⟩) (pv_PV10 hPc hKc hDc (q0 := 0) rfl) rfl rfl hl.1 rfl (lv_room (Nat.le_of_ble_eq_true rfl)) dX3_readUnit_138 ⟨Nat.le_of_ble_eq_true rfl, Nat.le_of_ble_eq_true rfl⟩) hS (fun q _ h => hFc q h) hFc (fun ra66 u t H1 locs ht hvm hwra66 hB hz1 hk1 hS => ?_)
            try rw [hwra66] at hB
            obtain ⟨x67, oa_x67, ob_x67, pt0_ra66, pt1_ra66, pt2_ra66, hP1, hK1, hD1⟩ := hB
            rw [ht] at hP1
            obtain ⟨hP2, hD2⟩ := va_join (wr := (wd_6b0d8e05 h0 h1 h3 x59 h2 g0 f5 h3 g1 fn62)) (w1 := (wd_09b0abee h1 h2 v1 x64 x67 x61)) hP hD [1] [0, 2, 3] rfl rfl (by decide) (by decide) hk1 hFc hP1 hD1
            clear hP hD hPc hDc hKc hFc hP1 hK1 hD1 hk1 hz1
            generalize H1 = H at hP2 hS ⊢
            have hP := hP2.sub (ws' := (wd_1ad0248d h0 h1 h3 x59 h1 h2 v1 x64 x67 x61 h2 g0 f5 h3 g1 fn62)) [0, 3, 1, 2] rfl
            have hD := hD2.sub (ws' := (wd_1ad0248d h0 h1 h3 x59 h1 h2 v1 x64 x67 x61 h2 g0 f5 h3 g1 fn62)) [0, 3, 1, 2] (by decide) rfl
            clear hP2 hD2
            obtain rfl : ra66 = (0 : Int32) := pv_cs (by decide) pt0_ra66 pt1_ra66
            subst hQ
            have hP9 := hP.sub (ws' := (wd_1ad0248d h0 h1 h3 x59 h1 h2 v1 x64 x67 x61 h2 g0 f5 h3 g1 fn62)) [0, 1, 2, 3] rfl
            have hD9 := hD.sub (ws' := (wd_1ad0248d h0 h1 h3 x59 h1 h2 v1 x64 x67 x61 h2 g0 f5 h3 g1 fn62)) [0, 1, 2, 3] (by decide) rfl
            have hK9 := hK.sub (tys' := []) [] rfl
            exact W.zret (v := 0) hx hb hr rfl (fun t ht hW => ⟨⟨0, 0, rfl, rfl, Or.inr (⟨x59, x64, x67, x61, fn62, oa_x59, ob_x59, oa_x64, ob_x64, oa_x67, ob_x67, by first | omega | decide, by first | omega | decide, by omega, by show pg_unitF f5 v1.toInt 2 true (pg_unit f5 v1.toInt 1) (pg_con f5 v1.toInt (pg_unit f5 v1.toInt 1)) _ = _; first | (apply pg_unitF.not <;> first | assumption | omega) | (apply pg_unitF.par1 <;> first | assumption | omega) | (apply pg_unitF.par0 <;> first | assumption | omega) | (apply pg_unitF.deep <;> first | assumption | omega) | (apply pg_unitF.sm1 <;> first | assumption | omega) | (apply pg_unitF.sm2 <;> first | assumption | omega) | (apply pg_unitF.sum0 <;> first | assumption | omega), by rw [ht]; exact hP9, va_K.moved hW.alike hK9, hD9⟩)⟩, hS.F ht⟩) hS.2.2 dX3_readUnit_141
          · skip
            obtain ⟨x68, oa_x68, ob_x68, pt0_ra63, pt1_ra63, pt2_ra63, pt3_ra63, pt4_ra63, pt5_ra63, pt6_ra63, hP1, hK1, hD1⟩ := hB
            rw [ht] at hP1
            obtain ⟨hP2, hD2⟩ := va_join (wr := (wd_b958b9da h0 h1 h3 x59 h3 g1 fn62)) (w1 := (wd_82cdd16b h1 h2 v1 x68 v3 x61 h2 g0 f5)) hP hD [1, 2] [0, 3] rfl rfl (by decide) (by decide) hk1 hFc hP1 hD1
            clear hP hD hPc hDc hKc hFc hP1 hK1 hD1 hk1 hz1
            generalize H1 = H at hP2 hS ⊢
            have hP := hP2.sub (ws' := (wd_1ad0248d h0 h1 h3 x59 h1 h2 v1 x68 v3 x61 h2 g0 f5 h3 g1 fn62)) [0, 2, 3, 1] rfl
            have hD := hD2.sub (ws' := (wd_1ad0248d h0 h1 h3 x59 h1 h2 v1 x68 v3 x61 h2 g0 f5 h3 g1 fn62)) [0, 2, 3, 1] (by decide) rfl
            clear hP2 hD2
            have hPc := hP.sub (ws' := []) [] rfl
            have hDc := hD.sub (ws' := []) [] (by decide) rfl
            have hKc := hK.sub (tys' := []) [] rfl
            have hFc := va_free (wc := []) hD hS hA [] rfl
            refine va_calli (va_runS (As := [.int ra63]) (rest := []) ⟨hx, hb, hml, hown, hts⟩ (k_X3_comparing_1 l dC dI ra63  H.size) (va_cwS 1 hts g_X3_readUnit_3_5 rfl rfl rfl (by decide +kernel) ⟨Nat.le_of_ble_eq_true rfl, Nat.le_of_ble_eq_true rfl⟩) (pv_PS hPc hKc hDc) rfl rfl hl.1 rfl (lv_room (Nat.le_of_ble_eq_true rfl)) dX3_readUnit_123 ⟨Nat.le_of_ble_eq_true rfl, Nat.le_of_ble_eq_true rfl⟩) hS (fun q _ h => hFc q h) hFc (fun ra69 u t H1 locs ht hvm hwra69 hB hz1 hk1 hS => ?_)
            try rw [hwra69] at hB
            obtain ⟨pt0_ra69, pt1_ra69, pt2_ra69, hP1, hK1, hD1⟩ := hB
            rw [ht] at hP1
            obtain ⟨hP2, hD2⟩ := va_join (wr := (wd_1ad0248d h0 h1 h3 x59 h1 h2 v1 x68 v3 x61 h2 g0 f5 h3 g1 fn62)) (w1 := []) hP hD [] [0, 1, 2, 3] rfl rfl (by decide) (by decide) hk1 hFc hP1 hD1
            clear hP hD hPc hDc hKc hFc hP1 hK1 hD1 hk1 hz1
            generalize H1 = H at hP2 hS ⊢
            have hP : va_P (dC, dI) vwCl (wd_1ad0248d h0 h1 h3 x59 h1 h2 v1 x68 v3 x61 h2 g0 f5 h3 g1 fn62) H := hP2
            have hD : va_D A (wd_1ad0248d h0 h1 h3 x59 h1 h2 v1 x68 v3 x61 h2 g0 f5 h3 g1 fn62) := hD2
            clear hP2 hD2
            refine lv_istore (lv' := [(4, .int ra69), (3, .int ra1), (0, .ref h0), (1, .int 4), (2, .int 0)]) hx hb dX3_readUnit_126 hl (by decide) rfl (fun ls hl => ?_)
            refine lv_iload hx hb dX3_readUnit_128 (lv_at hl 0 rfl) ?_
            refine lv_iconst (v := (-1)) hx hb dX3_readUnit_130 (by decide) ?_
            refine lv_icmp_ne (tgt := 142) hx hb dX3_readUnit_131 (by decide) (fun c70 => ?_) (fun c70 => ?_)
            · skip
              have fc70 : ¬ (ra69.toInt = (-1)) := fun h9 => c70 (Int32.toInt_inj.mp h9)
              refine lv_aload_n hx hb dX3_readUnit_142 rfl (lv_at hl 2 rfl) ?_
              refine va_get (D := (dC, dI)) (ci := 3) (v := .ref h1) (C := RX3) (T := TX3) (N := 3) hx hb hts (fun _ h => List.mem_cons_of_mem _ (List.mem_append_left _ (List.mem_append_right _ h))) hown hK hP 0 rfl rfl 0 (by decide) (hts (.fieldLink RX3 19 "LeftArguments$LawReader" "tape" "LLeftArguments$Tape;") (List.mem_cons_of_mem _ (List.mem_append_left _ (List.mem_append_left _ (List.mem_of_getElem? (i := 0) rfl))))) (fun _ h9 => h9) rfl dX3_readUnit_143 ?_
              have hPc := hP.sub (ws' := (wd_09b0abee h1 h2 v1 x68 v3 x61)) [1] rfl
              have hDc := hD.sub (ws' := (wd_09b0abee h1 h2 v1 x68 v3 x61)) [1] (by decide) rfl
              have hKc := hK.sub (tys' := []) [] rfl
              have hFc := va_free (wc := (wd_09b0abee h1 h2 v1 x68 v3 x61)) hD hS hA [1] rfl
              refine va_callv (va_runV (As := []) (rest := []) ⟨hx, hb, hml, hown, hts⟩ (k_X10_step l dC dI h1 h2 v1 x68 v3 x61 ⟨i_v1a, i_v1b⟩ ⟨oa_x68, ob_x68⟩ H.size) (cwV 0 hts g_X3_readUnit_3_6 rfl rfl rfl (by decide +kernel) ⟨Nat.le_of_ble_eq_true rfl, Nat.le_of_ble_eq_true rfl⟩) (pv_PV10 hPc hKc hDc (q0 := 0) rfl) rfl rfl hl.1 rfl (lv_room (Nat.le_of_ble_eq_true rfl)) dX3_readUnit_146 ⟨Nat.le_of_ble_eq_true rfl, Nat.le_of_ble_eq_true rfl⟩) hS (fun q _ h => hFc q h) hFc (fun u t H1 locs ht hvm hwra71 hB hz1 hk1 hS => ?_)
              obtain ⟨x72, oa_x72, ob_x72, pt0_ra71, hP1, hK1, hD1⟩ := hB
              rw [ht] at hP1
              obtain ⟨hP2, hD2⟩ := va_join (wr := (wd_6b0d8e05 h0 h1 h3 x59 h2 g0 f5 h3 g1 fn62)) (w1 := (wd_09b0abee h1 h2 v1 x72 v3 x61)) hP hD [1] [0, 2, 3] rfl rfl (by decide) (by decide) hk1 hFc hP1 hD1
              clear hP hD hPc hDc hKc hFc hP1 hK1 hD1 hk1 hz1
              generalize H1 = H at hP2 hS ⊢
              have hP := hP2.sub (ws' := (wd_1ad0248d h0 h1 h3 x59 h1 h2 v1 x72 v3 x61 h2 g0 f5 h3 g1 fn62)) [0, 3, 1, 2] rfl
              have hD := hD2.sub (ws' := (wd_1ad0248d h0 h1 h3 x59 h1 h2 v1 x72 v3 x61 h2 g0 f5 h3 g1 fn62)) [0, 3, 1, 2] (by decide) rfl
              clear hP2 hD2
              refine lv_aload_n hx hb dX3_readUnit_149 rfl (lv_at hl 2 rfl) ?_
              refine lv_iload_n hx hb dX3_readUnit_150 rfl (lv_at hl 3 rfl) ?_
              have hPc := hP.sub (ws' := (wd_1ad0248d h0 h1 h3 x59 h1 h2 v1 x72 v3 x61 h2 g0 f5 h3 g1 fn62)) [0, 1, 2, 3] rfl
              have hDc := hD.sub (ws' := (wd_1ad0248d h0 h1 h3 x59 h1 h2 v1 x72 v3 x61 h2 g0 f5 h3 g1 fn62)) [0, 1, 2, 3] (by decide) rfl
              have hKc := hK.sub (tys' := [(g0, .int), (g1, .int)]) [0, 1] rfl
              have hFc := va_free (wc := (wd_1ad0248d h0 h1 h3 x59 h1 h2 v1 x72 v3 x61 h2 g0 f5 h3 g1 fn62)) hD hS hA [0, 1, 2, 3] rfl
              refine va_calli (va_runV (As := [.int 4]) (rest := []) ⟨hx, hb, hml, hown, hts⟩ (k_X3_readSum_2 l dC dI adK adV h0 h1 h2 h3 x59 v1 x72 v3 x61 g0 f5 g1 fn62 ⟨oa_x59, ob_x59⟩ ⟨i_v1a, i_v1b⟩ ⟨by first | omega | decide, ob_x72⟩ ia_f5 H.size) (cwV 1 hts g_X3_readUnit_3_1 rfl rfl rfl (by decide +kernel) ⟨Nat.le_of_ble_eq_true rfl, Nat.le_of_ble_eq_true rfl⟩) ⟨fun a U g mk q => by obtain ⟨q0, q1, qP, qK, qD, n0, n1, n2⟩ := q; exact ⟨q0, q1, qP, va_K.moved (u := U) (U := U.calling g mk a) (Vm.Alike.refl U.vm) qK, qD, vk_R.same rfl n0, va_Z.moved (Vm.Alike.refl _) n1, vk_S.moved (Vm.Alike.refl _) n2⟩, pv_rc3 hKc hPc (q0 := 0) rfl, fun U hU hW => ⟨rfl, by rw [hU], by rw [hU]; exact hPc, va_K.moved hW.alike hKc, hDc.weaken (fun _ _ _ _ => trivial), vk_R.warm hW h_vr_2, (by rw [hU]; exact (va_Z.moved hW.alike (va_Z.kept h_st_CS hS.2.1)).narrow hFc), (by rw [hU]; exact (vk_S.moved hW.alike (vk_S.kept h_st_S hS.2.1)).narrow hFc)⟩⟩ rfl rfl hl.1 rfl (lv_room (Nat.le_of_ble_eq_true rfl)) dX3_readUnit_151 ⟨Nat.le_of_ble_eq_true rfl, Nat.le_of_ble_eq_true rfl⟩) hS (fun q _ h => hFc q h) hFc (fun ra73 u t H1 locs ht hvm hwra73 hB hz1 hk1 hS => ?_)
              try rw [hwra73] at hB
              rcases hB with hB | hB
              · skip
                obtain ⟨x74, x75, x76, fn77, oa_x74, ob_x74, oa_x75, ob_x75, pt0_ra73, pt1_ra73, pt2_ra73, pt3_ra73, hP1, hK1, hD1⟩ := hB
                rw [ht] at hP1
                obtain ⟨hP2, hD2⟩ := va_join (wr := []) (w1 := (wd_1ad0248d h0 h1 h3 x74 h1 h2 v1 x75 v3 x76 h2 g0 f5 h3 g1 fn77)) hP hD [0, 1, 2, 3] [] rfl rfl (by decide) (by decide) hk1 hFc hP1 hD1
                clear hP hD hPc hDc hKc hFc hP1 hK1 hD1 hk1 hz1
                generalize H1 = H at hP2 hS ⊢
                have hP : va_P (dC, dI) vwCl (wd_1ad0248d h0 h1 h3 x74 h1 h2 v1 x75 v3 x76 h2 g0 f5 h3 g1 fn77) H := hP2
                have hD : va_D A (wd_1ad0248d h0 h1 h3 x74 h1 h2 v1 x75 v3 x76 h2 g0 f5 h3 g1 fn77) := hD2
                clear hP2 hD2
                obtain rfl : ra73 = (1 : Int32) := pv_cs (by decide) pt0_ra73 pt1_ra73
                refine lv_if_ne (tgt := 159) hx hb dX3_readUnit_154 (by decide) (fun _ => ?_) (fun c => absurd c (by decide))
                refine lv_aload_n hx hb dX3_readUnit_159 rfl (lv_at hl 2 rfl) ?_
                refine lv_iload hx hb dX3_readUnit_160 (lv_at hl 0 rfl) ?_
                refine lv_iconst (v := 0) hx hb dX3_readUnit_162 (by decide) ?_
                have hPc := hP.sub (ws' := (wd_b958b9da h0 h1 h3 x74 h3 g1 fn77)) [0, 3] rfl
                have hDc := hD.sub (ws' := (wd_b958b9da h0 h1 h3 x74 h3 g1 fn77)) [0, 3] (by decide) rfl
                have hKc := hK.sub (tys' := [(g1, .int)]) [1] rfl
                have hFc := va_free (wc := (wd_b958b9da h0 h1 h3 x74 h3 g1 fn77)) hD hS hA [0, 3] rfl
                refine va_callv (va_runV (As := [.int ra69, .int 0]) (rest := []) ⟨hx, hb, hml, hown, hts⟩ (k_X3_write l dC dI h0 h3 h1 x74 g1 fn77 ra69 0 ⟨oa_x74, ob_x74⟩ H.size) (cwV 2 hts g_X3_readUnit_3_8 rfl rfl rfl (by decide +kernel) ⟨Nat.le_of_ble_eq_true rfl, Nat.le_of_ble_eq_true rfl⟩) (pv_PV3 hPc hKc hDc (q0 := 0) rfl) rfl rfl hl.1 rfl (lv_room (Nat.le_of_ble_eq_true rfl)) dX3_readUnit_163 ⟨Nat.le_of_ble_eq_true rfl, Nat.le_of_ble_eq_true rfl⟩) hS (fun q _ h => hFc q h) hFc (fun u t H1 locs ht hvm hwra78 hB hz1 hk1 hS => ?_)
                obtain ⟨x79, fn80, oa_x79, ob_x79, hP1, hK1, hD1⟩ := hB
                rw [ht] at hP1
                obtain ⟨hP2, hD2⟩ := va_join (wr := (wd_82cdd16b h1 h2 v1 x75 v3 x76 h2 g0 f5)) (w1 := (wd_b958b9da h0 h1 h3 x79 h3 g1 fn80)) hP hD [0, 3] [1, 2] rfl rfl (by decide) (by decide) hk1 hFc hP1 hD1
                clear hP hD hPc hDc hKc hFc hP1 hK1 hD1 hk1 hz1
                generalize H1 = H at hP2 hS ⊢
                have hP := hP2.sub (ws' := (wd_1ad0248d h0 h1 h3 x79 h1 h2 v1 x75 v3 x76 h2 g0 f5 h3 g1 fn80)) [2, 0, 1, 3] rfl
                have hD := hD2.sub (ws' := (wd_1ad0248d h0 h1 h3 x79 h1 h2 v1 x75 v3 x76 h2 g0 f5 h3 g1 fn80)) [2, 0, 1, 3] (by decide) rfl
                clear hP2 hD2
                refine lv_iconst (v := 1) hx hb dX3_readUnit_166 (by decide) ?_
                subst hQ
                have hP9 := hP.sub (ws' := (wd_1ad0248d h0 h1 h3 x79 h1 h2 v1 x75 v3 x76 h2 g0 f5 h3 g1 fn80)) [0, 1, 2, 3] rfl
                have hD9 := hD.sub (ws' := (wd_1ad0248d h0 h1 h3 x79 h1 h2 v1 x75 v3 x76 h2 g0 f5 h3 g1 fn80)) [0, 1, 2, 3] (by decide) rfl
                have hK9 := hK.sub (tys' := []) [] rfl
                exact W.zret (v := 1) hx hb hr rfl (fun t ht hW => ⟨⟨1, 1, rfl, rfl, Or.inl ⟨x79, x75, x76, fn80, oa_x79, ob_x79, oa_x75, ob_x75, by first | omega | decide, by first | omega | decide, by omega, by show pg_unitF f5 v1.toInt 2 true (pg_unit f5 v1.toInt 1) (pg_con f5 v1.toInt (pg_unit f5 v1.toInt 1)) _ = _; first | (apply pg_unitF.not <;> first | assumption | omega) | (apply pg_unitF.par1 <;> first | assumption | omega) | (apply pg_unitF.par0 <;> first | assumption | omega) | (apply pg_unitF.deep <;> first | assumption | omega) | (apply pg_unitF.sm1 <;> first | assumption | omega) | (apply pg_unitF.sm2 <;> first | assumption | omega) | (apply pg_unitF.sum0 <;> first | assumption | omega), by rw [ht]; exact hP9, va_K.moved hW.alike hK9, hD9⟩⟩, hS.F ht⟩) hS.2.2 dX3_readUnit_167
              · skip
                obtain ⟨x81, x82, x83, x84, fn85, oa_x81, ob_x81, oa_x82, ob_x82, oa_x83, ob_x83, pt0_ra73, pt1_ra73, pt2_ra73, pt3_ra73, hP1, hK1, hD1⟩ := hB
                rw [ht] at hP1
                obtain ⟨hP2, hD2⟩ := va_join (wr := []) (w1 := (wd_1ad0248d h0 h1 h3 x81 h1 h2 v1 x82 x83 x84 h2 g0 f5 h3 g1 fn85)) hP hD [0, 1, 2, 3] [] rfl rfl (by decide) (by decide) hk1 hFc hP1 hD1
                clear hP hD hPc hDc hKc hFc hP1 hK1 hD1 hk1 hz1
                generalize H1 = H at hP2 hS ⊢
                have hP : va_P (dC, dI) vwCl (wd_1ad0248d h0 h1 h3 x81 h1 h2 v1 x82 x83 x84 h2 g0 f5 h3 g1 fn85) H := hP2
                have hD : va_D A (wd_1ad0248d h0 h1 h3 x81 h1 h2 v1 x82 x83 x84 h2 g0 f5 h3 g1 fn85) := hD2
                clear hP2 hD2
                obtain rfl : ra73 = (0 : Int32) := pv_cs (by decide) pt0_ra73 pt1_ra73
                refine lv_if_ne (tgt := 159) hx hb dX3_readUnit_154 (by decide) (fun c => absurd (by decide) c) (fun _ => ?_)
                refine lv_iconst (v := 0) hx hb dX3_readUnit_157 (by decide) ?_
                subst hQ
                have hP9 := hP.sub (ws' := (wd_1ad0248d h0 h1 h3 x81 h1 h2 v1 x82 x83 x84 h2 g0 f5 h3 g1 fn85)) [0, 1, 2, 3] rfl
                have hD9 := hD.sub (ws' := (wd_1ad0248d h0 h1 h3 x81 h1 h2 v1 x82 x83 x84 h2 g0 f5 h3 g1 fn85)) [0, 1, 2, 3] (by decide) rfl
                have hK9 := hK.sub (tys' := []) [] rfl
                exact W.zret (v := 0) hx hb hr rfl (fun t ht hW => ⟨⟨0, 0, rfl, rfl, Or.inr (⟨x81, x82, x83, x84, fn85, oa_x81, ob_x81, oa_x82, ob_x82, oa_x83, ob_x83, by first | omega | decide, by first | omega | decide, by omega, by show pg_unitF f5 v1.toInt 2 true (pg_unit f5 v1.toInt 1) (pg_con f5 v1.toInt (pg_unit f5 v1.toInt 1)) _ = _; first | (apply pg_unitF.not <;> first | assumption | omega) | (apply pg_unitF.par1 <;> first | assumption | omega) | (apply pg_unitF.par0 <;> first | assumption | omega) | (apply pg_unitF.deep <;> first | assumption | omega) | (apply pg_unitF.sm1 <;> first | assumption | omega) | (apply pg_unitF.sm2 <;> first | assumption | omega) | (apply pg_unitF.sum0 <;> first | assumption | omega), by rw [ht]; exact hP9, va_K.moved hW.alike hK9, hD9⟩)⟩, hS.F ht⟩) hS.2.2 dX3_readUnit_158
            · skip
              have fc70 : ra69.toInt = (-1) := congrArg Int32.toInt c70
              refine lv_aload_n hx hb dX3_readUnit_134 rfl (lv_at hl 2 rfl) ?_
              refine va_get (D := (dC, dI)) (ci := 3) (v := .ref h1) (C := RX3) (T := TX3) (N := 3) hx hb hts (fun _ h => List.mem_cons_of_mem _ (List.mem_append_left _ (List.mem_append_right _ h))) hown hK hP 0 rfl rfl 0 (by decide) (hts (.fieldLink RX3 19 "LeftArguments$LawReader" "tape" "LLeftArguments$Tape;") (List.mem_cons_of_mem _ (List.mem_append_left _ (List.mem_append_left _ (List.mem_of_getElem? (i := 0) rfl))))) (fun _ h9 => h9) rfl dX3_readUnit_135 ?_
              have hPc := hP.sub (ws' := (wd_09b0abee h1 h2 v1 x68 v3 x61)) [1] rfl
              have hDc := hD.sub (ws' := (wd_09b0abee h1 h2 v1 x68 v3 x61)) [1] (by decide) rfl
              have hKc := hK.sub (tys' := []) [] rfl
              have hFc := va_free (wc := (wd_09b0abee h1 h2 v1 x68 v3 x61)) hD hS hA [1] rfl
              refine va_calli (va_runV (As := []) (rest := []) ⟨hx, hb, hml, hown, hts⟩ (k_X10_wrongHere l dC dI h1 h2 v1 x68 v3 x61 ⟨i_v1a, i_v1b⟩ ⟨oa_x68, by first | omega | decide⟩ H.size) (cwV 0 hts g_X3_readUnit_3_4 rfl rfl rfl (by decide +kernel) ⟨Nat.le_of_ble_eq_true rfl, Nat.le_of_ble_eq_true rfl⟩) (pv_PV10 hPc hKc hDc (q0 := 0) rfl) rfl rfl hl.1 rfl (lv_room (Nat.le_of_ble_eq_true rfl)) dX3_readUnit_138 ⟨Nat.le_of_ble_eq_true rfl, Nat.le_of_ble_eq_true rfl⟩) hS (fun q _ h => hFc q h) hFc (fun ra86 u t H1 locs ht hvm hwra86 hB hz1 hk1 hS => ?_)
              try rw [hwra86] at hB
              obtain ⟨x87, oa_x87, ob_x87, pt0_ra86, pt1_ra86, pt2_ra86, hP1, hK1, hD1⟩ := hB
              rw [ht] at hP1
              obtain ⟨hP2, hD2⟩ := va_join (wr := (wd_6b0d8e05 h0 h1 h3 x59 h2 g0 f5 h3 g1 fn62)) (w1 := (wd_09b0abee h1 h2 v1 x68 x87 x61)) hP hD [1] [0, 2, 3] rfl rfl (by decide) (by decide) hk1 hFc hP1 hD1
              clear hP hD hPc hDc hKc hFc hP1 hK1 hD1 hk1 hz1
              generalize H1 = H at hP2 hS ⊢
              have hP := hP2.sub (ws' := (wd_1ad0248d h0 h1 h3 x59 h1 h2 v1 x68 x87 x61 h2 g0 f5 h3 g1 fn62)) [0, 3, 1, 2] rfl
              have hD := hD2.sub (ws' := (wd_1ad0248d h0 h1 h3 x59 h1 h2 v1 x68 x87 x61 h2 g0 f5 h3 g1 fn62)) [0, 3, 1, 2] (by decide) rfl
              clear hP2 hD2
              obtain rfl : ra86 = (0 : Int32) := pv_cs (by decide) pt0_ra86 pt1_ra86
              subst hQ
              have hP9 := hP.sub (ws' := (wd_1ad0248d h0 h1 h3 x59 h1 h2 v1 x68 x87 x61 h2 g0 f5 h3 g1 fn62)) [0, 1, 2, 3] rfl
              have hD9 := hD.sub (ws' := (wd_1ad0248d h0 h1 h3 x59 h1 h2 v1 x68 x87 x61 h2 g0 f5 h3 g1 fn62)) [0, 1, 2, 3] (by decide) rfl
              have hK9 := hK.sub (tys' := []) [] rfl
              exact W.zret (v := 0) hx hb hr rfl (fun t ht hW => ⟨⟨0, 0, rfl, rfl, Or.inr (⟨x59, x68, x87, x61, fn62, oa_x59, ob_x59, oa_x68, by first | omega | decide, oa_x87, ob_x87, by first | omega | decide, by first | omega | decide, by omega, by show pg_unitF f5 v1.toInt 2 true (pg_unit f5 v1.toInt 1) (pg_con f5 v1.toInt (pg_unit f5 v1.toInt 1)) _ = _; first | (apply pg_unitF.not <;> first | assumption | omega) | (apply pg_unitF.par1 <;> first | assumption | omega) | (apply pg_unitF.par0 <;> first | assumption | omega) | (apply pg_unitF.deep <;> first | assumption | omega) | (apply pg_unitF.sm1 <;> first | assumption | omega) | (apply pg_unitF.sm2 <;> first | assumption | omega) | (apply pg_unitF.sum0 <;> first | assumption | omega), by rw [ht]; exact hP9, va_K.moved hW.alike hK9, hD9⟩)⟩, hS.F ht⟩) hS.2.2 dX3_readUnit_141
        · skip
          obtain ⟨x88, x89, x90, x91, fn92, oa_x88, ob_x88, oa_x89, ob_x89, oa_x90, ob_x90, pt0_ra58, pt1_ra58, pt2_ra58, pt3_ra58, hP1, hK1, hD1⟩ := hB
          rw [ht] at hP1
          obtain ⟨hP2, hD2⟩ := va_join (wr := []) (w1 := (wd_1ad0248d h0 h1 h3 x88 h1 h2 v1 x89 x90 x91 h2 g0 f5 h3 g1 fn92)) hP hD [0, 1, 2, 3] [] rfl rfl (by decide) (by decide) hk1 hFc hP1 hD1
          clear hP hD hPc hDc hKc hFc hP1 hK1 hD1 hk1 hz1
          generalize H1 = H at hP2 hS ⊢
          have hP : va_P (dC, dI) vwCl (wd_1ad0248d h0 h1 h3 x88 h1 h2 v1 x89 x90 x91 h2 g0 f5 h3 g1 fn92) H := hP2
          have hD : va_D A (wd_1ad0248d h0 h1 h3 x88 h1 h2 v1 x89 x90 x91 h2 g0 f5 h3 g1 fn92) := hD2
          clear hP2 hD2
          obtain rfl : ra58 = (0 : Int32) := pv_cs (by decide) pt0_ra58 pt1_ra58
          refine lv_if_ne (tgt := 116) hx hb dX3_readUnit_111 (by decide) (fun c => absurd (by decide) c) (fun _ => ?_)
          refine lv_iconst (v := 0) hx hb dX3_readUnit_114 (by decide) ?_
          subst hQ
          have hP9 := hP.sub (ws' := (wd_1ad0248d h0 h1 h3 x88 h1 h2 v1 x89 x90 x91 h2 g0 f5 h3 g1 fn92)) [0, 1, 2, 3] rfl
          have hD9 := hD.sub (ws' := (wd_1ad0248d h0 h1 h3 x88 h1 h2 v1 x89 x90 x91 h2 g0 f5 h3 g1 fn92)) [0, 1, 2, 3] (by decide) rfl
          have hK9 := hK.sub (tys' := []) [] rfl
          exact W.zret (v := 0) hx hb hr rfl (fun t ht hW => ⟨⟨0, 0, rfl, rfl, Or.inr (⟨x88, x89, x90, x91, fn92, oa_x88, ob_x88, oa_x89, ob_x89, oa_x90, ob_x90, by first | omega | decide, by first | omega | decide, by omega, by show pg_unitF f5 v1.toInt 2 true (pg_unit f5 v1.toInt 1) (pg_con f5 v1.toInt (pg_unit f5 v1.toInt 1)) _ = _; first | (apply pg_unitF.not <;> first | assumption | omega) | (apply pg_unitF.par1 <;> first | assumption | omega) | (apply pg_unitF.par0 <;> first | assumption | omega) | (apply pg_unitF.deep <;> first | assumption | omega) | (apply pg_unitF.sm1 <;> first | assumption | omega) | (apply pg_unitF.sm2 <;> first | assumption | omega) | (apply pg_unitF.sum0 <;> first | assumption | omega), by rw [ht]; exact hP9, va_K.moved hW.alike hK9, hD9⟩)⟩, hS.F ht⟩) hS.2.2 dX3_readUnit_115
      · skip
        have fc57 : ra1.toInt = 40 := congrArg Int32.toInt c57
        refine lv_iload_n hx hb dX3_readUnit_24 rfl (lv_at hl 2 rfl) ?_
        refine lv_bipush (v := 6) hx hb dX3_readUnit_25 (by decide) ?_
        refine lv_icmp_lt (tgt := 38) hx hb dX3_readUnit_27 (by decide) (fun _ => ?_) (fun c => absurd (by decide) c)
        refine lv_aload_n hx hb dX3_readUnit_38 rfl (lv_at hl 1 rfl) ?_
        refine va_get (D := (dC, dI)) (ci := 3) (v := .ref h1) (C := RX3) (T := TX3) (N := 3) hx hb hts (fun _ h => List.mem_cons_of_mem _ (List.mem_append_left _ (List.mem_append_right _ h))) hown hK hP 0 rfl rfl 0 (by decide) (hts (.fieldLink RX3 19 "LeftArguments$LawReader" "tape" "LLeftArguments$Tape;") (List.mem_cons_of_mem _ (List.mem_append_left _ (List.mem_append_left _ (List.mem_of_getElem? (i := 0) rfl))))) (fun _ h9 => h9) rfl dX3_readUnit_39 ?_
        have hPc := hP.sub (ws' := (wd_09b0abee h1 h2 v1 x38 v3 v4)) [1] rfl
        have hDc := hD.sub (ws' := (wd_09b0abee h1 h2 v1 x38 v3 v4)) [1] (by decide) rfl
        have hKc := hK.sub (tys' := []) [] rfl
        have hFc := va_free (wc := (wd_09b0abee h1 h2 v1 x38 v3 v4)) hD hS hA [1] rfl
        refine va_callv (va_runV (As := []) (rest := []) ⟨hx, hb, hml, hown, hts⟩ (k_X10_step l dC dI h1 h2 v1 x38 v3 v4 ⟨i_v1a, i_v1b⟩ ⟨oa_x38, ob_x38⟩ H.size) (cwV 0 hts g_X3_readUnit_3_6 rfl rfl rfl (by decide +kernel) ⟨Nat.le_of_ble_eq_true rfl, Nat.le_of_ble_eq_true rfl⟩) (pv_PV10 hPc hKc hDc (q0 := 0) rfl) rfl rfl hl.1 rfl (lv_room (Nat.le_of_ble_eq_true rfl)) dX3_readUnit_42 ⟨Nat.le_of_ble_eq_true rfl, Nat.le_of_ble_eq_true rfl⟩) hS (fun q _ h => hFc q h) hFc (fun u t H1 locs ht hvm hwra93 hB hz1 hk1 hS => ?_)
        obtain ⟨x94, oa_x94, ob_x94, pt0_ra93, hP1, hK1, hD1⟩ := hB
        rw [ht] at hP1
        obtain ⟨hP2, hD2⟩ := va_join (wr := (wd_6b0d8e05 h0 h1 h3 v0 h2 g0 f5 h3 g1 f6)) (w1 := (wd_09b0abee h1 h2 v1 x94 v3 v4)) hP hD [1] [0, 2, 3] rfl rfl (by decide) (by decide) hk1 hFc hP1 hD1
        clear hP hD hPc hDc hKc hFc hP1 hK1 hD1 hk1 hz1
        generalize H1 = H at hP2 hS ⊢
        have hP := hP2.sub (ws' := (wd_1ad0248d h0 h1 h3 v0 h1 h2 v1 x94 v3 v4 h2 g0 f5 h3 g1 f6)) [0, 3, 1, 2] rfl
        have hD := hD2.sub (ws' := (wd_1ad0248d h0 h1 h3 v0 h1 h2 v1 x94 v3 v4 h2 g0 f5 h3 g1 f6)) [0, 3, 1, 2] (by decide) rfl
        clear hP2 hD2
        refine lv_iload_n hx hb dX3_readUnit_45 rfl (lv_at hl 0 rfl) ?_
        refine lv_bipush (v := 40) hx hb dX3_readUnit_46 (by decide) ?_
        refine lv_icmp_ne (tgt := 80) hx hb dX3_readUnit_48 (by decide) (fun c95 => by exfalso; have fc95 : ¬ (ra1.toInt = 40) := fun h9 => c95 (Int32.toInt_inj.mp h9); omega) (fun _ => ?_)
        refine lv_aload_n hx hb dX3_readUnit_51 rfl (lv_at hl 1 rfl) ?_
        refine lv_iload_n hx hb dX3_readUnit_52 rfl (lv_at hl 2 rfl) ?_
        refine lv_iconst (v := 1) hx hb dX3_readUnit_53 (by decide) ?_
        refine lv_iadd hx hb dX3_readUnit_54 ?_
        refine lv_topi (fun tv96 etv96 => ?_)
        obtain rfl : tv96 = (5 : Int32) := etv96.trans (by first | rfl | decide)
        refine lv_iconst (v := 0) hx hb dX3_readUnit_55 (by decide) ?_
        have hPc := hP.sub (ws' := (wd_1ad0248d h0 h1 h3 v0 h1 h2 v1 x94 v3 v4 h2 g0 f5 h3 g1 f6)) [0, 1, 2, 3] rfl
        have hDc := hD.sub (ws' := (wd_1ad0248d h0 h1 h3 v0 h1 h2 v1 x94 v3 v4 h2 g0 f5 h3 g1 f6)) [0, 1, 2, 3] (by decide) rfl
        have hKc := hK.sub (tys' := [(g0, .int), (g1, .int)]) [0, 1] rfl
        have hFc := va_free (wc := (wd_1ad0248d h0 h1 h3 v0 h1 h2 v1 x94 v3 v4 h2 g0 f5 h3 g1 f6)) hD hS hA [0, 1, 2, 3] rfl
        refine va_calli (va_runV (As := [.int 5, .int 0]) (rest := []) ⟨hx, hb, hml, hown, hts⟩ (k_X3_readCondition_1 l dC dI adK adV h0 h1 h2 h3 v0 v1 x94 v3 v4 g0 f5 g1 f6 ⟨i_v0a, i_v0b⟩ ⟨i_v1a, i_v1b⟩ ⟨by first | omega | decide, ob_x94⟩ ia_f5 H.size) (cwV 2 hts g_X3_readUnit_3_23 rfl rfl rfl (by decide +kernel) ⟨Nat.le_of_ble_eq_true rfl, Nat.le_of_ble_eq_true rfl⟩) ⟨fun a U g mk q => by obtain ⟨q0, q1, qP, qK, qD, n0, n1, n2⟩ := q; exact ⟨q0, q1, qP, va_K.moved (u := U) (U := U.calling g mk a) (Vm.Alike.refl U.vm) qK, qD, vk_R.same rfl n0, va_Z.moved (Vm.Alike.refl _) n1, vk_S.moved (Vm.Alike.refl _) n2⟩, pv_rc3 hKc hPc (q0 := 0) rfl, fun U hU hW => ⟨rfl, by rw [hU], by rw [hU]; exact hPc, va_K.moved hW.alike hKc, hDc.weaken (fun _ _ _ _ => trivial), vk_R.warm hW h_vr_2, (by rw [hU]; exact (va_Z.moved hW.alike (va_Z.kept h_st_CS hS.2.1)).narrow hFc), (by rw [hU]; exact (vk_S.moved hW.alike (vk_S.kept h_st_S hS.2.1)).narrow hFc)⟩⟩ rfl rfl hl.1 rfl (lv_room (Nat.le_of_ble_eq_true rfl)) dX3_readUnit_56 ⟨Nat.le_of_ble_eq_true rfl, Nat.le_of_ble_eq_true rfl⟩) hS (fun q _ h => hFc q h) hFc (fun ra97 u t H1 locs ht hvm hwra97 hB hz1 hk1 hS => ?_)
        try rw [hwra97] at hB
        rcases hB with hB | hB
        · skip
          obtain ⟨x98, x99, x100, fn101, oa_x98, ob_x98, oa_x99, ob_x99, pt0_ra97, pt1_ra97, pt2_ra97, pt3_ra97, hP1, hK1, hD1⟩ := hB
          rw [ht] at hP1
          obtain ⟨hP2, hD2⟩ := va_join (wr := []) (w1 := (wd_1ad0248d h0 h1 h3 x98 h1 h2 v1 x99 v3 x100 h2 g0 f5 h3 g1 fn101)) hP hD [0, 1, 2, 3] [] rfl rfl (by decide) (by decide) hk1 hFc hP1 hD1
          clear hP hD hPc hDc hKc hFc hP1 hK1 hD1 hk1 hz1
          generalize H1 = H at hP2 hS ⊢
          have hP : va_P (dC, dI) vwCl (wd_1ad0248d h0 h1 h3 x98 h1 h2 v1 x99 v3 x100 h2 g0 f5 h3 g1 fn101) H := hP2
          have hD : va_D A (wd_1ad0248d h0 h1 h3 x98 h1 h2 v1 x99 v3 x100 h2 g0 f5 h3 g1 fn101) := hD2
          clear hP2 hD2
          obtain rfl : ra97 = (1 : Int32) := pv_cs (by decide) pt0_ra97 pt1_ra97
          refine lv_if_eq (tgt := 78) hx hb dX3_readUnit_59 (by decide) (fun c => absurd c (by decide)) (fun _ => ?_)
          refine lv_aload_n hx hb dX3_readUnit_62 rfl (lv_at hl 1 rfl) ?_
          refine va_get (D := (dC, dI)) (ci := 3) (v := .ref h1) (C := RX3) (T := TX3) (N := 3) hx hb hts (fun _ h => List.mem_cons_of_mem _ (List.mem_append_left _ (List.mem_append_right _ h))) hown hK hP 0 rfl rfl 0 (by decide) (hts (.fieldLink RX3 19 "LeftArguments$LawReader" "tape" "LLeftArguments$Tape;") (List.mem_cons_of_mem _ (List.mem_append_left _ (List.mem_append_left _ (List.mem_of_getElem? (i := 0) rfl))))) (fun _ h9 => h9) rfl dX3_readUnit_63 ?_
          refine lv_bipush (v := 41) hx hb dX3_readUnit_66 (by decide) ?_
          have hPc := hP.sub (ws' := (wd_82cdd16b h1 h2 v1 x99 v3 x100 h2 g0 f5)) [1, 2] rfl
          have hDc := hD.sub (ws' := (wd_82cdd16b h1 h2 v1 x99 v3 x100 h2 g0 f5)) [1, 2] (by decide) rfl
          have hKc := hK.sub (tys' := [(g0, .int)]) [0] rfl
          have hFc := va_free (wc := (wd_82cdd16b h1 h2 v1 x99 v3 x100 h2 g0 f5)) hD hS hA [1, 2] rfl
          refine va_calli (va_runV (As := [.int 41]) (rest := []) ⟨hx, hb, hml, hown, hts⟩ (k_X10_take_3 l dC dI h1 h2 v1 x99 v3 x100 g0 f5 ⟨i_v1a, i_v1b⟩ ⟨oa_x99, ob_x99⟩ ia_f5 H.size) (cwV 1 hts g_X3_readUnit_3_24 rfl rfl rfl (by decide +kernel) ⟨Nat.le_of_ble_eq_true rfl, Nat.le_of_ble_eq_true rfl⟩) (pv_PV10 hPc hKc hDc (q0 := 0) rfl) rfl rfl hl.1 rfl (lv_room (Nat.le_of_ble_eq_true rfl)) dX3_readUnit_68 ⟨Nat.le_of_ble_eq_true rfl, Nat.le_of_ble_eq_true rfl⟩) hS (fun q _ h => hFc q h) hFc (fun ra102 u t H1 locs ht hvm hwra102 hB hz1 hk1 hS => ?_)
          try rw [hwra102] at hB
          rcases hB with hB | hB
          · skip
            obtain ⟨x103, oa_x103, ob_x103, pt0_ra102, pt1_ra102, pt2_ra102, pt3_ra102, hP1, hK1, hD1⟩ := hB
            rw [ht] at hP1
            obtain ⟨hP2, hD2⟩ := va_join (wr := (wd_b958b9da h0 h1 h3 x98 h3 g1 fn101)) (w1 := (wd_82cdd16b h1 h2 v1 x103 v3 x100 h2 g0 f5)) hP hD [1, 2] [0, 3] rfl rfl (by decide) (by decide) hk1 hFc hP1 hD1
            clear hP hD hPc hDc hKc hFc hP1 hK1 hD1 hk1 hz1
            generalize H1 = H at hP2 hS ⊢
            have hP := hP2.sub (ws' := (wd_1ad0248d h0 h1 h3 x98 h1 h2 v1 x103 v3 x100 h2 g0 f5 h3 g1 fn101)) [0, 2, 3, 1] rfl
            have hD := hD2.sub (ws' := (wd_1ad0248d h0 h1 h3 x98 h1 h2 v1 x103 v3 x100 h2 g0 f5 h3 g1 fn101)) [0, 2, 3, 1] (by decide) rfl
            clear hP2 hD2
            obtain rfl : ra102 = (1 : Int32) := pv_cs (by decide) pt0_ra102 pt1_ra102
            refine lv_if_eq (tgt := 78) hx hb dX3_readUnit_71 (by decide) (fun c => absurd c (by decide)) (fun _ => ?_)
            refine lv_iconst (v := 1) hx hb dX3_readUnit_74 (by decide) ?_
            refine lv_goto (tgt := 79) hx hb dX3_readUnit_75 (by decide) ?_
            subst hQ
            have hP9 := hP.sub (ws' := (wd_1ad0248d h0 h1 h3 x98 h1 h2 v1 x103 v3 x100 h2 g0 f5 h3 g1 fn101)) [0, 1, 2, 3] rfl
            have hD9 := hD.sub (ws' := (wd_1ad0248d h0 h1 h3 x98 h1 h2 v1 x103 v3 x100 h2 g0 f5 h3 g1 fn101)) [0, 1, 2, 3] (by decide) rfl
            have hK9 := hK.sub (tys' := []) [] rfl
            exact W.zret (v := 1) hx hb hr rfl (fun t ht hW => ⟨⟨1, 1, rfl, rfl, Or.inl ⟨x98, x103, x100, fn101, oa_x98, ob_x98, by first | omega | decide, ob_x103, by first | omega | decide, by first | omega | decide, by omega, by show pg_unitF f5 v1.toInt 2 true (pg_unit f5 v1.toInt 1) (pg_con f5 v1.toInt (pg_unit f5 v1.toInt 1)) _ = _; first | (apply pg_unitF.not <;> first | assumption | omega) | (apply pg_unitF.par1 <;> first | assumption | omega) | (apply pg_unitF.par0 <;> first | assumption | omega) | (apply pg_unitF.deep <;> first | assumption | omega) | (apply pg_unitF.sm1 <;> first | assumption | omega) | (apply pg_unitF.sm2 <;> first | assumption | omega) | (apply pg_unitF.sum0 <;> first | assumption | omega), by rw [ht]; exact hP9, va_K.moved hW.alike hK9, hD9⟩⟩, hS.F ht⟩) hS.2.2 dX3_readUnit_79
          · skip
            obtain ⟨x104, x105, oa_x104, ob_x104, oa_x105, ob_x105, pt0_ra102, pt1_ra102, pt2_ra102, pt3_ra102, hP1, hK1, hD1⟩ := hB
            rw [ht] at hP1
            obtain ⟨hP2, hD2⟩ := va_join (wr := (wd_b958b9da h0 h1 h3 x98 h3 g1 fn101)) (w1 := (wd_82cdd16b h1 h2 v1 x104 x105 x100 h2 g0 f5)) hP hD [1, 2] [0, 3] rfl rfl (by decide) (by decide) hk1 hFc hP1 hD1
            clear hP hD hPc hDc hKc hFc hP1 hK1 hD1 hk1 hz1
            generalize H1 = H at hP2 hS ⊢
            have hP := hP2.sub (ws' := (wd_1ad0248d h0 h1 h3 x98 h1 h2 v1 x104 x105 x100 h2 g0 f5 h3 g1 fn101)) [0, 2, 3, 1] rfl
            have hD := hD2.sub (ws' := (wd_1ad0248d h0 h1 h3 x98 h1 h2 v1 x104 x105 x100 h2 g0 f5 h3 g1 fn101)) [0, 2, 3, 1] (by decide) rfl
            clear hP2 hD2
            obtain rfl : ra102 = (0 : Int32) := pv_cs (by decide) pt0_ra102 pt1_ra102
            refine lv_if_eq (tgt := 78) hx hb dX3_readUnit_71 (by decide) (fun _ => ?_) (fun c => absurd (by decide) c)
            refine lv_iconst (v := 0) hx hb dX3_readUnit_78 (by decide) ?_
            subst hQ
            have hP9 := hP.sub (ws' := (wd_1ad0248d h0 h1 h3 x98 h1 h2 v1 x104 x105 x100 h2 g0 f5 h3 g1 fn101)) [0, 1, 2, 3] rfl
            have hD9 := hD.sub (ws' := (wd_1ad0248d h0 h1 h3 x98 h1 h2 v1 x104 x105 x100 h2 g0 f5 h3 g1 fn101)) [0, 1, 2, 3] (by decide) rfl
            have hK9 := hK.sub (tys' := []) [] rfl
            exact W.zret (v := 0) hx hb hr rfl (fun t ht hW => ⟨⟨0, 0, rfl, rfl, Or.inr (⟨x98, x104, x105, x100, fn101, oa_x98, ob_x98, oa_x104, ob_x104, oa_x105, ob_x105, by first | omega | decide, by first | omega | decide, by omega, by show pg_unitF f5 v1.toInt 2 true (pg_unit f5 v1.toInt 1) (pg_con f5 v1.toInt (pg_unit f5 v1.toInt 1)) _ = _; first | (apply pg_unitF.not <;> first | assumption | omega) | (apply pg_unitF.par1 <;> first | assumption | omega) | (apply pg_unitF.par0 <;> first | assumption | omega) | (apply pg_unitF.deep <;> first | assumption | omega) | (apply pg_unitF.sm1 <;> first | assumption | omega) | (apply pg_unitF.sm2 <;> first | assumption | omega) | (apply pg_unitF.sum0 <;> first | assumption | omega), by rw [ht]; exact hP9, va_K.moved hW.alike hK9, hD9⟩)⟩, hS.F ht⟩) hS.2.2 dX3_readUnit_79
        · skip
          obtain ⟨x106, x107, x108, x109, fn110, oa_x106, ob_x106, oa_x107, ob_x107, oa_x108, ob_x108, pt0_ra97, pt1_ra97, pt2_ra97, pt3_ra97, hP1, hK1, hD1⟩ := hB
          rw [ht] at hP1
          obtain ⟨hP2, hD2⟩ := va_join (wr := []) (w1 := (wd_1ad0248d h0 h1 h3 x106 h1 h2 v1 x107 x108 x109 h2 g0 f5 h3 g1 fn110)) hP hD [0, 1, 2, 3] [] rfl rfl (by decide) (by decide) hk1 hFc hP1 hD1
          clear hP hD hPc hDc hKc hFc hP1 hK1 hD1 hk1 hz1
          generalize H1 = H at hP2 hS ⊢
          have hP : va_P (dC, dI) vwCl (wd_1ad0248d h0 h1 h3 x106 h1 h2 v1 x107 x108 x109 h2 g0 f5 h3 g1 fn110) H := hP2
          have hD : va_D A (wd_1ad0248d h0 h1 h3 x106 h1 h2 v1 x107 x108 x109 h2 g0 f5 h3 g1 fn110) := hD2
          clear hP2 hD2
          obtain rfl : ra97 = (0 : Int32) := pv_cs (by decide) pt0_ra97 pt1_ra97
          refine lv_if_eq (tgt := 78) hx hb dX3_readUnit_59 (by decide) (fun _ => ?_) (fun c => absurd (by decide) c)
          refine lv_iconst (v := 0) hx hb dX3_readUnit_78 (by decide) ?_
          subst hQ
          have hP9 := hP.sub (ws' := (wd_1ad0248d h0 h1 h3 x106 h1 h2 v1 x107 x108 x109 h2 g0 f5 h3 g1 fn110)) [0, 1, 2, 3] rfl
          have hD9 := hD.sub (ws' := (wd_1ad0248d h0 h1 h3 x106 h1 h2 v1 x107 x108 x109 h2 g0 f5 h3 g1 fn110)) [0, 1, 2, 3] (by decide) rfl
          have hK9 := hK.sub (tys' := []) [] rfl
          exact W.zret (v := 0) hx hb hr rfl (fun t ht hW => ⟨⟨0, 0, rfl, rfl, Or.inr (⟨x106, x107, x108, x109, fn110, oa_x106, ob_x106, oa_x107, ob_x107, oa_x108, ob_x108, by first | omega | decide, by first | omega | decide, by omega, by show pg_unitF f5 v1.toInt 2 true (pg_unit f5 v1.toInt 1) (pg_con f5 v1.toInt (pg_unit f5 v1.toInt 1)) _ = _; first | (apply pg_unitF.not <;> first | assumption | omega) | (apply pg_unitF.par1 <;> first | assumption | omega) | (apply pg_unitF.par0 <;> first | assumption | omega) | (apply pg_unitF.deep <;> first | assumption | omega) | (apply pg_unitF.sm1 <;> first | assumption | omega) | (apply pg_unitF.sm2 <;> first | assumption | omega) | (apply pg_unitF.sum0 <;> first | assumption | omega), by rw [ht]; exact hP9, va_K.moved hW.alike hK9, hD9⟩)⟩, hS.F ht⟩) hS.2.2 dX3_readUnit_79
def q_X3_readTruth_2 : List Cond := .code yX3_readTruth cX3_readTruth 4 (some .boolean) :: (([.code yX3_readUnit cX3_readUnit 5 (some .boolean), .fieldLink RX3 19 "LeftArguments$LawReader" "tape" "LLeftArguments$Tape;", .code yX10_next cX10_next 1 (some .int), .fieldLink RX10 19 "LeftArguments$Tape" "at" "I", .fieldLink RX10 15 "LeftArguments$Tape" "used" "I", .fieldLink RX10 9 "LeftArguments$Tape" "bytes" "[I", .initialized RX10, .instanceMethod yX10_next, .selects RX10 yX10_next yX10_next, .methodLink RX3 48 yX10_next, .code yX3_readSum cX3_readSum 4 (some .boolean), .code yX3_readTerm cX3_readTerm 4 (some .boolean), .code yX3_readAtom cX3_readAtom 4 (some .boolean), .code yX10_isDigit cX10_isDigit 1 (some .boolean), .static yX10_isDigit, .methodLink RX3 92 yX10_isDigit, .code yX10_wrongHere cX10_wrongHere 1 (some .boolean), .fieldLink RX10 22 "LeftArguments$Tape" "wrongAt" "I", .instanceMethod yX10_wrongHere, .selects RX10 yX10_wrongHere yX10_wrongHere, .methodLink RX3 83 yX10_wrongHere, .code yJ0_indexOf_0f7a4 cJ0_indexOf_0f7a4 2 (some .int), .code yJ0_indexOf_7cf53 cJ0_indexOf_7cf53 3 (some .int), .code yJ0_isLatin1_aae02 cJ0_isLatin1_aae02 1 (some .boolean), .fieldLink RJ0 38 "java/lang/String" "COMPACT_STRINGS" "Z", .fieldLink RJ0 15 "java/lang/String" "coder" "B", .initialized RJ0, .instanceMethod yJ0_isLatin1_aae02, .selects RJ0 yJ0_isLatin1_aae02 yJ0_isLatin1_aae02, .methodLink RJ0 492 yJ0_isLatin1_aae02, .fieldLink RJ0 9 "java/lang/String" "value" "[B", .code yJ0_length_8abf5 cJ0_length_8abf5 1 (some .int), .code yJ0_coder_7d493 cJ0_coder_7d493 1 (some .byte), .instanceMethod yJ0_coder_7d493, .selects RJ0 yJ0_coder_7d493 yJ0_coder_7d493, .methodLink RJ0 335 yJ0_coder_7d493, .instanceMethod yJ0_length_8abf5, .selects RJ0 yJ0_length_8abf5 yJ0_length_8abf5, .methodLink RJ0 505 yJ0_length_8abf5, .code yJ1_indexOf_4cfef cJ1_indexOf_4cfef 4 (some .int), .code yJ1_canEncode_9a6ad cJ1_canEncode_9a6ad 1 (some .boolean), .initialized RJ1, .static yJ1_canEncode_9a6ad, .methodLink RJ1 88 yJ1_canEncode_9a6ad, .methodLink RJ1 92 Lib.Math.max.name, .static Lib.Math.max.name, .initialized "java/lang/Math", .code Lib.Math.max.name Lib.Math.max.code 2 (some .int), .methodLink RJ1 38 Lib.Math.min.name, .static Lib.Math.min.name, .code Lib.Math.min.name Lib.Math.min.code 2 (some .int), .code yJ1_indexOfChar_4cfef cJ1_indexOfChar_4cfef 6 (some .int), .static yJ1_indexOfChar_4cfef, .methodLink RJ1 95 yJ1_indexOfChar_4cfef, .static yJ1_indexOf_4cfef, .methodLink RJ0 637 yJ1_indexOf_4cfef, .instanceMethod yJ0_indexOf_7cf53, .selects RJ0 yJ0_indexOf_7cf53 yJ0_indexOf_7cf53, .methodLink RJ0 633 yJ0_indexOf_7cf53, .instanceMethod yJ0_indexOf_0f7a4, .selects RJ0 yJ0_indexOf_0f7a4 yJ0_indexOf_0f7a4, .methodLink RX3 103 yJ0_indexOf_0f7a4, .code yX10_step cX10_step 1 none, .instanceMethod yX10_step, .selects RX10 yX10_step yX10_step, .methodLink RX3 77 yX10_step, .code yX3_write cX3_write 3 none, .fieldLink RX3 15 "LeftArguments$LawReader" "used" "I", .fieldLink RX3 11 "LeftArguments$LawReader" "code" "[I", .initialized RX3, .instanceMethod yX3_write, .selects RX3 yX3_write yX3_write, .methodLink RX3 66 yX3_write, .code yX10_takeNumber cX10_takeNumber 3 (some .boolean), .methodLink RX10 37 yX10_next, .methodLink RX10 45 yX10_isDigit, .methodLink RX10 41 yX10_wrongHere, .fieldLink RX10 25 "LeftArguments$Tape" "number" "I", .code yX10_sign cX10_sign 1 (some .int), .instanceMethod yX10_sign, .selects RX10 yX10_sign yX10_sign, .methodLink RX10 49 yX10_sign, .instanceMethod yX10_takeNumber, .selects RX10 yX10_takeNumber yX10_takeNumber, .methodLink RX3 95 yX10_takeNumber, .code yX10_number cX10_number 1 (some .int), .instanceMethod yX10_number, .selects RX10 yX10_number yX10_number, .methodLink RX3 98 yX10_number, .instanceMethod yX3_readAtom, .selects RX3 yX3_readAtom yX3_readAtom, .methodLink RX3 89 yX3_readAtom, .instanceMethod yX3_readTerm, .selects RX3 yX3_readTerm yX3_readTerm, .methodLink RX3 86 yX3_readTerm, .instanceMethod yX3_readSum, .selects RX3 yX3_readSum yX3_readSum, .methodLink RX3 59 yX3_readSum, .code yX10_take cX10_take 2 (some .boolean), .instanceMethod yX10_take, .selects RX10 yX10_take yX10_take, .methodLink RX3 51 yX10_take, .code yX3_comparing cX3_comparing 1 (some .int), .static yX3_comparing, .methodLink RX3 62 yX3_comparing, .instanceMethod yX3_readUnit, .selects RX3 yX3_readUnit yX3_readUnit, .methodLink RX3 80 yX3_readUnit, .code yX3_readCondition cX3_readCondition 4 (some .boolean), .code yX3_readTruth cX3_readTruth 4 (some .boolean), .instanceMethod yX3_readTruth, .selects RX3 yX3_readTruth yX3_readTruth, .methodLink RX3 74 yX3_readTruth, .instanceMethod yX3_readCondition, .selects RX3 yX3_readCondition yX3_readCondition, .methodLink RX3 70 yX3_readCondition] : List Cond) ++ wsX30 ++ wsX100)
set_option maxRecDepth 20000 in
theorem g_X3_readTruth_2_0 : GoodIn q_X3_readTruth_2 (wsV RX3 80 RX3 yX3_readUnit q_X3_readUnit_3) := goodIn_app (goodIn_r _ [108, 106, 107, 70] rfl (by decide +kernel)) (goodIn_ca (goodIn_ca (goodIn_r (.code yX3_readUnit cX3_readUnit 5 (some .boolean) :: [.fieldLink RX3 19 "LeftArguments$LawReader" "tape" "LLeftArguments$Tape;", .code yX10_next cX10_next 1 (some .int), .fieldLink RX10 19 "LeftArguments$Tape" "at" "I", .fieldLink RX10 15 "LeftArguments$Tape" "used" "I", .fieldLink RX10 9 "LeftArguments$Tape" "bytes" "[I", .initialized RX10, .instanceMethod yX10_next, .selects RX10 yX10_next yX10_next, .methodLink RX3 48 yX10_next, .code yX3_readSum cX3_readSum 4 (some .boolean), .code yX3_readTerm cX3_readTerm 4 (some .boolean), .code yX3_readAtom cX3_readAtom 4 (some .boolean), .code yX10_isDigit cX10_isDigit 1 (some .boolean), .static yX10_isDigit, .methodLink RX3 92 yX10_isDigit, .code yX10_wrongHere cX10_wrongHere 1 (some .boolean), .fieldLink RX10 22 "LeftArguments$Tape" "wrongAt" "I", .instanceMethod yX10_wrongHere, .selects RX10 yX10_wrongHere yX10_wrongHere, .methodLink RX3 83 yX10_wrongHere, .code yJ0_indexOf_0f7a4 cJ0_indexOf_0f7a4 2 (some .int), .code yJ0_indexOf_7cf53 cJ0_indexOf_7cf53 3 (some .int), .code yJ0_isLatin1_aae02 cJ0_isLatin1_aae02 1 (some .boolean), .fieldLink RJ0 38 "java/lang/String" "COMPACT_STRINGS" "Z", .fieldLink RJ0 15 "java/lang/String" "coder" "B", .initialized RJ0, .instanceMethod yJ0_isLatin1_aae02, .selects RJ0 yJ0_isLatin1_aae02 yJ0_isLatin1_aae02, .methodLink RJ0 492 yJ0_isLatin1_aae02, .fieldLink RJ0 9 "java/lang/String" "value" "[B", .code yJ0_length_8abf5 cJ0_length_8abf5 1 (some .int), .code yJ0_coder_7d493 cJ0_coder_7d493 1 (some .byte), .instanceMethod yJ0_coder_7d493, .selects RJ0 yJ0_coder_7d493 yJ0_coder_7d493, .methodLink RJ0 335 yJ0_coder_7d493, .instanceMethod yJ0_length_8abf5, .selects RJ0 yJ0_length_8abf5 yJ0_length_8abf5, .methodLink RJ0 505 yJ0_length_8abf5, .code yJ1_indexOf_4cfef cJ1_indexOf_4cfef 4 (some .int), .code yJ1_canEncode_9a6ad cJ1_canEncode_9a6ad 1 (some .boolean), .initialized RJ1, .static yJ1_canEncode_9a6ad, .methodLink RJ1 88 yJ1_canEncode_9a6ad, .methodLink RJ1 92 Lib.Math.max.name, .static Lib.Math.max.name, .initialized "java/lang/Math", .code Lib.Math.max.name Lib.Math.max.code 2 (some .int), .methodLink RJ1 38 Lib.Math.min.name, .static Lib.Math.min.name, .code Lib.Math.min.name Lib.Math.min.code 2 (some .int), .code yJ1_indexOfChar_4cfef cJ1_indexOfChar_4cfef 6 (some .int), .static yJ1_indexOfChar_4cfef, .methodLink RJ1 95 yJ1_indexOfChar_4cfef, .static yJ1_indexOf_4cfef, .methodLink RJ0 637 yJ1_indexOf_4cfef, .instanceMethod yJ0_indexOf_7cf53, .selects RJ0 yJ0_indexOf_7cf53 yJ0_indexOf_7cf53, .methodLink RJ0 633 yJ0_indexOf_7cf53, .instanceMethod yJ0_indexOf_0f7a4, .selects RJ0 yJ0_indexOf_0f7a4 yJ0_indexOf_0f7a4, .methodLink RX3 103 yJ0_indexOf_0f7a4, .code yX10_step cX10_step 1 none, .instanceMethod yX10_step, .selects RX10 yX10_step yX10_step, .methodLink RX3 77 yX10_step, .code yX3_write cX3_write 3 none, .fieldLink RX3 15 "LeftArguments$LawReader" "used" "I", .fieldLink RX3 11 "LeftArguments$LawReader" "code" "[I", .initialized RX3, .instanceMethod yX3_write, .selects RX3 yX3_write yX3_write, .methodLink RX3 66 yX3_write, .code yX10_takeNumber cX10_takeNumber 3 (some .boolean), .methodLink RX10 37 yX10_next, .methodLink RX10 45 yX10_isDigit, .methodLink RX10 41 yX10_wrongHere, .fieldLink RX10 25 "LeftArguments$Tape" "number" "I", .code yX10_sign cX10_sign 1 (some .int), .instanceMethod yX10_sign, .selects RX10 yX10_sign yX10_sign, .methodLink RX10 49 yX10_sign, .instanceMethod yX10_takeNumber, .selects RX10 yX10_takeNumber yX10_takeNumber, .methodLink RX3 95 yX10_takeNumber, .code yX10_number cX10_number 1 (some .int), .instanceMethod yX10_number, .selects RX10 yX10_number yX10_number, .methodLink RX3 98 yX10_number, .instanceMethod yX3_readAtom, .selects RX3 yX3_readAtom yX3_readAtom, .methodLink RX3 89 yX3_readAtom, .instanceMethod yX3_readTerm, .selects RX3 yX3_readTerm yX3_readTerm, .methodLink RX3 86 yX3_readTerm, .instanceMethod yX3_readSum, .selects RX3 yX3_readSum yX3_readSum, .methodLink RX3 59 yX3_readSum, .code yX10_take cX10_take 2 (some .boolean), .instanceMethod yX10_take, .selects RX10 yX10_take yX10_take, .methodLink RX3 51 yX10_take, .code yX3_comparing cX3_comparing 1 (some .int), .static yX3_comparing, .methodLink RX3 62 yX3_comparing, .code yX3_readUnit cX3_readUnit 5 (some .boolean), .instanceMethod yX3_readUnit, .selects RX3 yX3_readUnit yX3_readUnit, .methodLink RX3 80 yX3_readUnit, .code yX3_readCondition cX3_readCondition 4 (some .boolean), .code yX3_readTruth cX3_readTruth 4 (some .boolean), .instanceMethod yX3_readTruth, .selects RX3 yX3_readTruth yX3_readTruth, .methodLink RX3 74 yX3_readTruth, .instanceMethod yX3_readCondition, .selects RX3 yX3_readCondition yX3_readCondition, .methodLink RX3 70 yX3_readCondition]) [1, 2, 3, 4, 5, 6, 7, 8, 9, 10, 11, 12, 13, 14, 15, 16, 17, 18, 19, 20, 21, 22, 23, 24, 25, 26, 27, 28, 29, 30, 31, 32, 33, 34, 35, 36, 37, 38, 39, 40, 41, 42, 43, 44, 45, 46, 47, 48, 49, 50, 51, 52, 53, 54, 55, 56, 57, 58, 59, 60, 61, 62, 63, 64, 65, 66, 67, 68, 69, 70, 71, 72, 73, 74, 75, 76, 77, 78, 79, 80, 81, 82, 83, 84, 85, 86, 87, 88, 89, 90, 91, 92, 93, 94, 95, 96, 97, 98, 99, 100, 101, 102, 103, 104, 105, 1, 106, 107, 108, 109, 110, 111, 112, 113, 114, 115, 116] rfl (by decide +kernel)) (goodIn_sub (fun _ h => List.mem_cons_of_mem _ (List.mem_append_left _ (List.mem_append_right _ h))) gwX3)) (goodIn_sub (fun _ h => List.mem_cons_of_mem _ (List.mem_append_right _ h)) gwX10))
set_option maxRecDepth 20000 in
theorem g_X3_readTruth_2_1 : GoodIn q_X3_readTruth_2 (wsV RX3 48 RX10 yX10_next q_X10_next) := goodIn_app (goodIn_r _ [10, 8, 9, 7] rfl (by decide +kernel)) (goodIn_ca (goodIn_r (.code yX10_next cX10_next 1 (some .int) :: [.fieldLink RX10 19 "LeftArguments$Tape" "at" "I", .fieldLink RX10 15 "LeftArguments$Tape" "used" "I", .fieldLink RX10 9 "LeftArguments$Tape" "bytes" "[I"]) [3, 4, 5, 6] rfl (by decide +kernel)) (goodIn_sub (fun _ h => List.mem_cons_of_mem _ (List.mem_append_right _ h)) gwX10))
set_option maxRecDepth 20000 in
theorem g_X3_readTruth_2_2 : GoodIn q_X3_readTruth_2 (wsV RX3 77 RX10 yX10_step q_X10_step) := goodIn_app (goodIn_r _ [66, 64, 65, 7] rfl (by decide +kernel)) (goodIn_ca (goodIn_r (.code yX10_step cX10_step 1 none :: [.fieldLink RX10 19 "LeftArguments$Tape" "at" "I"]) [63, 4] rfl (by decide +kernel)) (goodIn_sub (fun _ h => List.mem_cons_of_mem _ (List.mem_append_right _ h)) gwX10))
set_option maxRecDepth 20000 in
theorem g_X3_readTruth_2_4 : GoodIn q_X3_readTruth_2 (wsV RX3 66 RX3 yX3_write q_X3_write) := goodIn_app (goodIn_r _ [73, 71, 72, 70] rfl (by decide +kernel)) (goodIn_ca (goodIn_r (.code yX3_write cX3_write 3 none :: [.fieldLink RX3 15 "LeftArguments$LawReader" "used" "I", .fieldLink RX3 11 "LeftArguments$LawReader" "code" "[I"]) [67, 68, 69] rfl (by decide +kernel)) (goodIn_sub (fun _ h => List.mem_cons_of_mem _ (List.mem_append_left _ (List.mem_append_right _ h))) gwX3))
set_option maxHeartbeats 4000000 in
set_option maxRecDepth 100000 in
theorem k_X3_readTruth_2 (l : Launch) (dC : Nat → ClassId) (dI : Nat → Nat → Nat) (adK : Nat → Nat) (adV : Nat → Nat) (h0 : Nat) (h1 : Nat) (h2 : Nat) (h3 : Nat) (v0 : Int32) (v1 : Int32) (v2 : Int32) (v3 : Int32) (v4 : Int32) (g0 : ClassId) (f5 : Nat → Int32) (g1 : ClassId) (f6 : Nat → Int32) (i_v0 : 0 ≤ v0.toInt ∧ v0.toInt ≤ 256) (i_v1 : 0 ≤ v1.toInt ∧ v1.toInt ≤ 240) (i_v2 : 0 ≤ v2.toInt ∧ v2.toInt ≤ 240) (ia_f5 : (∀ j, 0 ≤ (f5 j).toInt ∧ (f5 j).toInt ≤ 255)) (sz : Nat) : Met l yX3_readTruth q_X3_readTruth_2 ({ frames := 14, cells := 0, slots := 0, locals := 324 }) (va_Pc [.ref h0, .int 4, .int 0] (fun U => U.heap.size = sz ∧ va_P (dC, dI) vwCl (wd_1ad0248d h0 h1 h3 v0 h1 h2 v1 v2 v3 v4 h2 g0 f5 h3 g1 f6) U.heap ∧ va_K (dC, dI) vwCl [(g0, .int), (g1, .int)] U ∧ va_D (fun _ => True) (wd_1ad0248d h0 h1 h3 v0 h1 h2 v1 v2 v3 v4 h2 g0 f5 h3 g1 f6) ∧ vk_R RX3 101 "zaondt" (adK 2) U ∧ va_Z "java/lang/String" "COMPACT_STRINGS" "Z" (.int 1) (va_A (wd_1ad0248d h0 h1 h3 v0 h1 h2 v1 v2 v3 v4 h2 g0 f5 h3 g1 f6) sz) U U.heap ∧ vk_S 3 pv_len3 pv_byt3 adK adV (va_A (wd_1ad0248d h0 h1 h3 v0 h1 h2 v1 v2 v3 v4 h2 g0 f5 h3 g1 f6) sz) U U.heap)) (va_Qi (fun (r : Int32) (r9 : Int32) => r9 = r) (fun (r : Int32) (t : State) => (∃ (o_h0_2 : Int32) (o_h1_2 : Int32) (o_h1_4 : Int32) (o_h3 : Nat → Int32), 0 ≤ o_h0_2.toInt ∧ o_h0_2.toInt ≤ 256 ∧ 0 ≤ o_h1_2.toInt ∧ o_h1_2.toInt ≤ 240 ∧ (1 ≤ r.toInt) ∧ (r.toInt ≤ 1) ∧ (v2.toInt ≤ o_h1_2.toInt) ∧ (pg_tru f5 v1.toInt (pg_unit f5 v1.toInt 2) v2.toInt = (true, o_h1_2.toInt)) ∧ va_P (dC, dI) vwCl (wd_1ad0248d h0 h1 h3 o_h0_2 h1 h2 v1 o_h1_2 v3 o_h1_4 h2 g0 f5 h3 g1 o_h3) t.heap ∧ va_K (dC, dI) vwCl [] t ∧ va_D (va_A (wd_1ad0248d h0 h1 h3 v0 h1 h2 v1 v2 v3 v4 h2 g0 f5 h3 g1 f6) sz) (wd_1ad0248d h0 h1 h3 o_h0_2 h1 h2 v1 o_h1_2 v3 o_h1_4 h2 g0 f5 h3 g1 o_h3)) ∨ (∃ (o_h0_2 : Int32) (o_h1_2 : Int32) (o_h1_3 : Int32) (o_h1_4 : Int32) (o_h3 : Nat → Int32), 0 ≤ o_h0_2.toInt ∧ o_h0_2.toInt ≤ 256 ∧ 0 ≤ o_h1_2.toInt ∧ o_h1_2.toInt ≤ 240 ∧ 0 ≤ o_h1_3.toInt ∧ o_h1_3.toInt ≤ 240 ∧ (0 ≤ r.toInt) ∧ (r.toInt ≤ 0) ∧ (v2.toInt ≤ o_h1_2.toInt) ∧ (pg_tru f5 v1.toInt (pg_unit f5 v1.toInt 2) v2.toInt = (false, o_h1_3.toInt)) ∧ va_P (dC, dI) vwCl (wd_1ad0248d h0 h1 h3 o_h0_2 h1 h2 v1 o_h1_2 o_h1_3 o_h1_4 h2 g0 f5 h3 g1 o_h3) t.heap ∧ va_K (dC, dI) vwCl [] t ∧ va_D (va_A (wd_1ad0248d h0 h1 h3 v0 h1 h2 v1 v2 v3 v4 h2 g0 f5 h3 g1 f6) sz) (wd_1ad0248d h0 h1 h3 o_h0_2 h1 h2 v1 o_h1_2 o_h1_3 o_h1_4 h2 g0 f5 h3 g1 o_h3))) (va_A (wd_1ad0248d h0 h1 h3 v0 h1 h2 v1 v2 v3 v4 h2 g0 f5 h3 g1 f6) sz)) 0 0 (va_A (wd_1ad0248d h0 h1 h3 v0 h1 h2 v1 v2 v3 v4 h2 g0 f5 h3 g1 f6) sz) := by
  refine Met.ofW (cc := cX3_readTruth) (maxL := 4) (ret := (some .boolean)) (by decide) rfl ?_
  intro p e s m args below meth c s₁ B hml hv
  obtain ⟨i_v0a, i_v0b⟩ := i_v0
  obtain ⟨i_v1a, i_v1b⟩ := i_v1
  obtain ⟨i_v2a, i_v2b⟩ := i_v2
  obtain ⟨rfl, hsz, hP, hK, hD0, h_vr_2, h_st_CS, h_st_S⟩ := hv
  have hx := B.exec
  have hb := B.bytes
  have hr := B.returns
  have hts := atoms_spec (ws := q_X3_readTruth_2) B.pre
  have hown : s.vm.findClass RX3 = some m.cls := findClass_of_methodNamed B.named
  have hlocks := B.notSynchronized
  subst hsz
  have hD := hD0.self (sz := s.heap.size)
  generalize hAe : va_A (wd_1ad0248d h0 h1 h3 v0 h1 h2 v1 v2 v3 v4 h2 g0 f5 h3 g1 f6) s.heap.size = A at hD h_st_CS h_st_S ⊢
  have hA : ∀ q : Nat, s.heap.size ≤ q → A q := fun q h => by rw [← hAe]; exact Or.inr h
  have hS : va_S A s.heap s.heap [] := va_S.rf
  generalize hQ : (MQ below _ _ s 0 0 A) = Q
  have hl := lv_entry ([.ref h0, .int 4, .int 0]) (n := 4) (Nat.le_of_ble_eq_true rfl)
  rw [lg_entry_eq]
  generalize (lg_sl ([.ref h0, .int 4, .int 0]) ++ List.replicate (4 - (lg_sl ([.ref h0, .int 4, .int 0])).length) Slot.unset).toArray = ls at hl ⊢
  have hl : lv_has ls 4 [(0, .ref h0), (1, .int 4), (2, .int 0)] := hl
  obtain ⟨H, hH⟩ : ∃ H : Heap, H = s.heap := ⟨_, rfl⟩
  obtain ⟨locs, hlocs⟩ : ∃ y : List Loc, y = [] := ⟨_, rfl⟩
  have hS : va_S A s.heap H locs := by rw [hH, hlocs]; exact va_S.rf
  have hP : va_P (dC, dI) vwCl (wd_1ad0248d h0 h1 h3 v0 h1 h2 v1 v2 v3 v4 h2 g0 f5 h3 g1 f6) H := by rw [hH]; exact hP
  rw [← hH, ← hlocs]
  refine lv_aload_n hx hb dX3_readTruth_0 rfl (lv_at hl 0 rfl) ?_
  refine lv_iload_n hx hb dX3_readTruth_1 rfl (lv_at hl 1 rfl) ?_
  refine lv_iload_n hx hb dX3_readTruth_2 rfl (lv_at hl 2 rfl) ?_
  have hPc := hP.sub (ws' := (wd_1ad0248d h0 h1 h3 v0 h1 h2 v1 v2 v3 v4 h2 g0 f5 h3 g1 f6)) [0, 1, 2, 3] rfl
  have hDc := hD.sub (ws' := (wd_1ad0248d h0 h1 h3 v0 h1 h2 v1 v2 v3 v4 h2 g0 f5 h3 g1 f6)) [0, 1, 2, 3] (by decide) rfl
  have hKc := hK.sub (tys' := [(g0, .int), (g1, .int)]) [0, 1] rfl
  have hFc := va_free (wc := (wd_1ad0248d h0 h1 h3 v0 h1 h2 v1 v2 v3 v4 h2 g0 f5 h3 g1 f6)) hD hS hA [0, 1, 2, 3] rfl
  refine va_calli (va_runV (As := [.int 4, .int 0]) (rest := []) ⟨hx, hb, hml, hown, hts⟩ (k_X3_readUnit_3 l dC dI adK adV h0 h1 h2 h3 v0 v1 v2 v3 v4 g0 f5 g1 f6 ⟨i_v0a, i_v0b⟩ ⟨i_v1a, i_v1b⟩ ⟨i_v2a, i_v2b⟩ ia_f5 H.size) (cwV 2 hts g_X3_readTruth_2_0 rfl rfl rfl (by decide +kernel) ⟨Nat.le_of_ble_eq_true rfl, Nat.le_of_ble_eq_true rfl⟩) ⟨fun a U g mk q => by obtain ⟨q0, q1, qP, qK, qD, n0, n1, n2⟩ := q; exact ⟨q0, q1, qP, va_K.moved (u := U) (U := U.calling g mk a) (Vm.Alike.refl U.vm) qK, qD, vk_R.same rfl n0, va_Z.moved (Vm.Alike.refl _) n1, vk_S.moved (Vm.Alike.refl _) n2⟩, pv_rc3 hKc hPc (q0 := 0) rfl, fun U hU hW => ⟨rfl, by rw [hU], by rw [hU]; exact hPc, va_K.moved hW.alike hKc, hDc.weaken (fun _ _ _ _ => trivial), vk_R.warm hW h_vr_2, (by rw [hU]; exact (va_Z.moved hW.alike (va_Z.kept h_st_CS hS.2.1)).narrow hFc), (by rw [hU]; exact (vk_S.moved hW.alike (vk_S.kept h_st_S hS.2.1)).narrow hFc)⟩⟩ rfl rfl hl.1 rfl (lv_room (Nat.le_of_ble_eq_true rfl)) dX3_readTruth_3 ⟨Nat.le_of_ble_eq_true rfl, Nat.le_of_ble_eq_true rfl⟩) hS (fun q _ h => hFc q h) hFc (fun ra1 u t H1 locs ht hvm hwra1 hB hz1 hk1 hS => ?_)
  try rw [hwra1] at hB
  rcases hB with hB | hB
  · skip
    obtain ⟨x2, x3, x4, fn5, oa_x2, ob_x2, oa_x3, ob_x3, pt0_ra1, pt1_ra1, pt2_ra1, pt3_ra1, hP1, hK1, hD1⟩ := hB
    rw [ht] at hP1
    obtain ⟨hP2, hD2⟩ := va_join (wr := []) (w1 := (wd_1ad0248d h0 h1 h3 x2 h1 h2 v1 x3 v3 x4 h2 g0 f5 h3 g1 fn5)) hP hD [0, 1, 2, 3] [] rfl rfl (by decide) (by decide) hk1 hFc hP1 hD1
    clear hP hD hPc hDc hKc hFc hP1 hK1 hD1 hk1 hz1
    generalize H1 = H at hP2 hS ⊢
    have hP : va_P (dC, dI) vwCl (wd_1ad0248d h0 h1 h3 x2 h1 h2 v1 x3 v3 x4 h2 g0 f5 h3 g1 fn5) H := hP2
    have hD : va_D A (wd_1ad0248d h0 h1 h3 x2 h1 h2 v1 x3 v3 x4 h2 g0 f5 h3 g1 fn5) := hD2
    clear hP2 hD2
    obtain rfl : ra1 = (1 : Int32) := pv_cs (by decide) pt0_ra1 pt1_ra1
    refine lv_if_ne (tgt := 11) hx hb dX3_readTruth_6 (by decide) (fun _ => ?_) (fun c => absurd c (by decide))
    refine lv_iconst (v := 0) hx hb dX3_readTruth_11 (by decide) ?_
    refine lv_istore_n (lv' := [(3, .int 0), (0, .ref h0), (1, .int 4), (2, .int 0)]) hx hb dX3_readTruth_12 rfl hl (by decide) rfl (fun ls hl => ?_)
    have hL81 : ∀ (n9 : Nat), ∀ (x71 : Int32) (x72 : Int32) (x73 : Int32) (x74 : Int32) (fn75 : Nat → Int32) (H : Heap) (locs : List Loc) (ls : Array Slot), 0 ≤ x71.toInt → x71.toInt ≤ 240 → 0 ≤ x72.toInt → x72.toInt ≤ 256 → 0 ≤ x73.toInt → x73.toInt ≤ 240 → (pg_L f5 v1.toInt 38 38 (pg_unit f5 v1.toInt 2) x73.toInt (pg_tru f5 v1.toInt (pg_unit f5 v1.toInt 2) v2.toInt)) → (x71.toInt ≤ x73.toInt) → (v2.toInt ≤ x73.toInt) → (240 - x71.toInt).toNat < n9 → va_P (dC, dI) vwCl (wd_1ad0248d h0 h1 h3 x72 h1 h2 v1 x73 v3 x74 h2 g0 f5 h3 g1 fn75) H → va_D A (wd_1ad0248d h0 h1 h3 x72 h1 h2 v1 x73 v3 x74 h2 g0 f5 h3 g1 fn75) → va_S A s.heap H locs → lv_has ls 4 [(3, .int x71), (0, .ref h0), (1, .int 4), (2, .int 0)] → W p l e ({ frames := 14, cells := 0, slots := 0, locals := 324 }) s m ([.ref h0, .int 4, .int 0] : List Value).toArray below meth c H locs 0 0 Q (F0 m 13 ls []) := by
      intro n9
      induction n9 with
      | zero => intro x71 x72 x73 x74 fn75 H locs ls qa_x71 qb_x71 qa_x72 qb_x72 qa_x73 qb_x73 gh0_hL81 gh1_hL81 gh2_hL81 hm9 hP hD hS hl; exact absurd hm9 (Nat.not_lt_zero _)
      | succ n9 ih_hL81 =>
        intro x71 x72 x73 x74 fn75 H locs ls qa_x71 qb_x71 qa_x72 qb_x72 qa_x73 qb_x73 gh0_hL81 gh1_hL81 gh2_hL81 hm9 hP hD hS hl
        refine lv_iload_n hx hb dX3_readTruth_13 rfl (lv_at hl 0 rfl) ?_
        refine lv_sipush (v := 240) hx hb dX3_readTruth_14 (by decide) ?_
        refine lv_icmp_ge (tgt := 63) hx hb dX3_readTruth_17 (by decide) (fun c82 => ?_) (fun c82 => ?_)
        · skip
          have fc82 : 240 ≤ x71.toInt := Int32.le_iff_toInt_le.mp c82
          refine lv_iconst (v := 1) hx hb dX3_readTruth_63 (by decide) ?_
          subst hQ
          have hP9 := hP.sub (ws' := (wd_1ad0248d h0 h1 h3 x72 h1 h2 v1 x73 v3 x74 h2 g0 f5 h3 g1 fn75)) [0, 1, 2, 3] rfl
          have hD9 := hD.sub (ws' := (wd_1ad0248d h0 h1 h3 x72 h1 h2 v1 x73 v3 x74 h2 g0 f5 h3 g1 fn75)) [0, 1, 2, 3] (by decide) rfl
          have hK9 := hK.sub (tys' := []) [] rfl
          exact W.zret (v := 1) hx hb hr rfl (fun t ht hW => ⟨⟨1, 1, rfl, rfl, Or.inl ⟨x72, x73, x74, fn75, qa_x72, qb_x72, qa_x73, qb_x73, by first | omega | decide, by first | omega | decide, by omega, by first | assumption | (apply pg_L.stop <;> first | assumption | omega) | exact pg_L.stop (by assumption) (pg_s.here (by rw [pg_ch.off (by omega)]; decide)) (by rw [pg_ch.off (by omega)]; decide), by rw [ht]; exact hP9, va_K.moved hW.alike hK9, hD9⟩⟩, hS.F ht⟩) hS.2.2 dX3_readTruth_64
        · skip
          have fc82 : ¬ (240 ≤ x71.toInt) := fun h9 => c82 (Int32.le_iff_toInt_le.mpr h9)
          refine lv_aload_n hx hb dX3_readTruth_20 rfl (lv_at hl 1 rfl) ?_
          refine va_get (D := (dC, dI)) (ci := 3) (v := .ref h1) (C := RX3) (T := TX3) (N := 3) hx hb hts (fun _ h => List.mem_cons_of_mem _ (List.mem_append_left _ (List.mem_append_right _ h))) hown hK hP 0 rfl rfl 0 (by decide) (hts (.fieldLink RX3 19 "LeftArguments$LawReader" "tape" "LLeftArguments$Tape;") (List.mem_cons_of_mem _ (List.mem_append_left _ (List.mem_append_left _ (List.mem_of_getElem? (i := 1) rfl))))) (fun _ h9 => h9) rfl dX3_readTruth_21 ?_
          have hPc := hP.sub (ws' := (wd_82cdd16b h1 h2 v1 x73 v3 x74 h2 g0 f5)) [1, 2] rfl
          have hDc := hD.sub (ws' := (wd_82cdd16b h1 h2 v1 x73 v3 x74 h2 g0 f5)) [1, 2] (by decide) rfl
          have hKc := hK.sub (tys' := [(g0, .int)]) [0] rfl
          have hFc := va_free (wc := (wd_82cdd16b h1 h2 v1 x73 v3 x74 h2 g0 f5)) hD hS hA [1, 2] rfl
          refine va_calli (va_runV (As := []) (rest := []) ⟨hx, hb, hml, hown, hts⟩ (k_X10_next l dC dI h1 h2 v1 x73 v3 x74 g0 f5 ⟨i_v1a, i_v1b⟩ ⟨qa_x73, qb_x73⟩ ia_f5 H.size) (cwV 0 hts g_X3_readTruth_2_1 rfl rfl rfl (by decide +kernel) ⟨Nat.le_of_ble_eq_true rfl, Nat.le_of_ble_eq_true rfl⟩) (pv_PV10 hPc hKc hDc (q0 := 0) rfl) rfl rfl hl.1 rfl (lv_room (Nat.le_of_ble_eq_true rfl)) dX3_readTruth_24 ⟨Nat.le_of_ble_eq_true rfl, Nat.le_of_ble_eq_true rfl⟩) hS (fun q _ h => hFc q h) hFc (fun ra83 u t H1 locs ht hvm hwra83 hB hz1 hk1 hS => ?_)
          try rw [hwra83] at hB
          rcases hB with hB | hB
          · skip
            obtain ⟨x84, oa_x84, ob_x84, pt0_ra83, pt1_ra83, pt2_ra83, pt3_ra83, pt4_ra83, pt5_ra83, pt6_ra83, hP1, hK1, hD1⟩ := hB
            rw [ht] at hP1
            obtain ⟨hP2, hD2⟩ := va_join (wr := (wd_b958b9da h0 h1 h3 x72 h3 g1 fn75)) (w1 := (wd_82cdd16b h1 h2 v1 x84 v3 x74 h2 g0 f5)) hP hD [1, 2] [0, 3] rfl rfl (by decide) (by decide) hk1 hFc hP1 hD1
            clear hP hD hPc hDc hKc hFc hP1 hK1 hD1 hk1 hz1
            generalize H1 = H at hP2 hS ⊢
            have hP := hP2.sub (ws' := (wd_1ad0248d h0 h1 h3 x72 h1 h2 v1 x84 v3 x74 h2 g0 f5 h3 g1 fn75)) [0, 2, 3, 1] rfl
            have hD := hD2.sub (ws' := (wd_1ad0248d h0 h1 h3 x72 h1 h2 v1 x84 v3 x74 h2 g0 f5 h3 g1 fn75)) [0, 2, 3, 1] (by decide) rfl
            clear hP2 hD2
            obtain rfl : ra83 = ((-1) : Int32) := pv_cs (by decide) pt0_ra83 pt1_ra83
            refine lv_bipush (v := 38) hx hb dX3_readTruth_27 (by decide) ?_
            refine lv_icmp_ne (tgt := 63) hx hb dX3_readTruth_29 (by decide) (fun _ => ?_) (fun c => absurd c (by decide))
            refine lv_iconst (v := 1) hx hb dX3_readTruth_63 (by decide) ?_
            subst hQ
            have hP9 := hP.sub (ws' := (wd_1ad0248d h0 h1 h3 x72 h1 h2 v1 x84 v3 x74 h2 g0 f5 h3 g1 fn75)) [0, 1, 2, 3] rfl
            have hD9 := hD.sub (ws' := (wd_1ad0248d h0 h1 h3 x72 h1 h2 v1 x84 v3 x74 h2 g0 f5 h3 g1 fn75)) [0, 1, 2, 3] (by decide) rfl
            have hK9 := hK.sub (tys' := []) [] rfl
            exact W.zret (v := 1) hx hb hr rfl (fun t ht hW => ⟨⟨1, 1, rfl, rfl, Or.inl ⟨x72, x84, x74, fn75, qa_x72, qb_x72, oa_x84, ob_x84, by first | omega | decide, by first | omega | decide, by omega, by first | assumption | (apply pg_L.stop <;> first | assumption | omega) | exact pg_L.stop (by assumption) (pg_s.here (by rw [pg_ch.off (by omega)]; decide)) (by rw [pg_ch.off (by omega)]; decide), by rw [ht]; exact hP9, va_K.moved hW.alike hK9, hD9⟩⟩, hS.F ht⟩) hS.2.2 dX3_readTruth_64
          · skip
            obtain ⟨x85, oa_x85, ob_x85, pt0_ra83, pt1_ra83, pt2_ra83, pt3_ra83, pt4_ra83, pt5_ra83, pt6_ra83, hP1, hK1, hD1⟩ := hB
            rw [ht] at hP1
            obtain ⟨hP2, hD2⟩ := va_join (wr := (wd_b958b9da h0 h1 h3 x72 h3 g1 fn75)) (w1 := (wd_82cdd16b h1 h2 v1 x85 v3 x74 h2 g0 f5)) hP hD [1, 2] [0, 3] rfl rfl (by decide) (by decide) hk1 hFc hP1 hD1
            clear hP hD hPc hDc hKc hFc hP1 hK1 hD1 hk1 hz1
            generalize H1 = H at hP2 hS ⊢
            have hP := hP2.sub (ws' := (wd_1ad0248d h0 h1 h3 x72 h1 h2 v1 x85 v3 x74 h2 g0 f5 h3 g1 fn75)) [0, 2, 3, 1] rfl
            have hD := hD2.sub (ws' := (wd_1ad0248d h0 h1 h3 x72 h1 h2 v1 x85 v3 x74 h2 g0 f5 h3 g1 fn75)) [0, 2, 3, 1] (by decide) rfl
            clear hP2 hD2
            refine lv_bipush (v := 38) hx hb dX3_readTruth_27 (by decide) ?_
            refine lv_icmp_ne (tgt := 63) hx hb dX3_readTruth_29 (by decide) (fun c86 => ?_) (fun c86 => ?_)
            · skip
              have fc86 : ¬ (ra83.toInt = 38) := fun h9 => c86 (Int32.toInt_inj.mp h9)
              refine lv_iconst (v := 1) hx hb dX3_readTruth_63 (by decide) ?_
              subst hQ
              have hP9 := hP.sub (ws' := (wd_1ad0248d h0 h1 h3 x72 h1 h2 v1 x85 v3 x74 h2 g0 f5 h3 g1 fn75)) [0, 1, 2, 3] rfl
              have hD9 := hD.sub (ws' := (wd_1ad0248d h0 h1 h3 x72 h1 h2 v1 x85 v3 x74 h2 g0 f5 h3 g1 fn75)) [0, 1, 2, 3] (by decide) rfl
              have hK9 := hK.sub (tys' := []) [] rfl
              exact W.zret (v := 1) hx hb hr rfl (fun t ht hW => ⟨⟨1, 1, rfl, rfl, Or.inl ⟨x72, x85, x74, fn75, qa_x72, qb_x72, oa_x85, by first | omega | decide, by first | omega | decide, by first | omega | decide, by omega, by first | assumption | (apply pg_L.stop <;> first | assumption | omega) | exact pg_L.stop (by assumption) (pg_s.here (by rw [pg_ch.off (by omega)]; decide)) (by rw [pg_ch.off (by omega)]; decide), by rw [ht]; exact hP9, va_K.moved hW.alike hK9, hD9⟩⟩, hS.F ht⟩) hS.2.2 dX3_readTruth_64
            · skip
              have fc86 : ra83.toInt = 38 := congrArg Int32.toInt c86
              refine lv_aload_n hx hb dX3_readTruth_32 rfl (lv_at hl 1 rfl) ?_
              refine va_get (D := (dC, dI)) (ci := 3) (v := .ref h1) (C := RX3) (T := TX3) (N := 3) hx hb hts (fun _ h => List.mem_cons_of_mem _ (List.mem_append_left _ (List.mem_append_right _ h))) hown hK hP 0 rfl rfl 0 (by decide) (hts (.fieldLink RX3 19 "LeftArguments$LawReader" "tape" "LLeftArguments$Tape;") (List.mem_cons_of_mem _ (List.mem_append_left _ (List.mem_append_left _ (List.mem_of_getElem? (i := 1) rfl))))) (fun _ h9 => h9) rfl dX3_readTruth_33 ?_
              have hPc := hP.sub (ws' := (wd_09b0abee h1 h2 v1 x85 v3 x74)) [1] rfl
              have hDc := hD.sub (ws' := (wd_09b0abee h1 h2 v1 x85 v3 x74)) [1] (by decide) rfl
              have hKc := hK.sub (tys' := []) [] rfl
              have hFc := va_free (wc := (wd_09b0abee h1 h2 v1 x85 v3 x74)) hD hS hA [1] rfl
              refine va_callv (va_runV (As := []) (rest := []) ⟨hx, hb, hml, hown, hts⟩ (k_X10_step l dC dI h1 h2 v1 x85 v3 x74 ⟨i_v1a, i_v1b⟩ ⟨oa_x85, ob_x85⟩ H.size) (cwV 0 hts g_X3_readTruth_2_2 rfl rfl rfl (by decide +kernel) ⟨Nat.le_of_ble_eq_true rfl, Nat.le_of_ble_eq_true rfl⟩) (pv_PV10 hPc hKc hDc (q0 := 0) rfl) rfl rfl hl.1 rfl (lv_room (Nat.le_of_ble_eq_true rfl)) dX3_readTruth_36 ⟨Nat.le_of_ble_eq_true rfl, Nat.le_of_ble_eq_true rfl⟩) hS (fun q _ h => hFc q h) hFc (fun u t H1 locs ht hvm hwra87 hB hz1 hk1 hS => ?_)
              obtain ⟨x88, oa_x88, ob_x88, pt0_ra87, hP1, hK1, hD1⟩ := hB
              rw [ht] at hP1
              obtain ⟨hP2, hD2⟩ := va_join (wr := (wd_6b0d8e05 h0 h1 h3 x72 h2 g0 f5 h3 g1 fn75)) (w1 := (wd_09b0abee h1 h2 v1 x88 v3 x74)) hP hD [1] [0, 2, 3] rfl rfl (by decide) (by decide) hk1 hFc hP1 hD1
              clear hP hD hPc hDc hKc hFc hP1 hK1 hD1 hk1 hz1
              generalize H1 = H at hP2 hS ⊢
              have hP := hP2.sub (ws' := (wd_1ad0248d h0 h1 h3 x72 h1 h2 v1 x88 v3 x74 h2 g0 f5 h3 g1 fn75)) [0, 3, 1, 2] rfl
              have hD := hD2.sub (ws' := (wd_1ad0248d h0 h1 h3 x72 h1 h2 v1 x88 v3 x74 h2 g0 f5 h3 g1 fn75)) [0, 3, 1, 2] (by decide) rfl
              clear hP2 hD2
              refine lv_aload_n hx hb dX3_readTruth_39 rfl (lv_at hl 1 rfl) ?_
              refine lv_iload_n hx hb dX3_readTruth_40 rfl (lv_at hl 2 rfl) ?_
              refine lv_iconst (v := 0) hx hb dX3_readTruth_41 (by decide) ?_
              have hPc := hP.sub (ws' := (wd_1ad0248d h0 h1 h3 x72 h1 h2 v1 x88 v3 x74 h2 g0 f5 h3 g1 fn75)) [0, 1, 2, 3] rfl
              have hDc := hD.sub (ws' := (wd_1ad0248d h0 h1 h3 x72 h1 h2 v1 x88 v3 x74 h2 g0 f5 h3 g1 fn75)) [0, 1, 2, 3] (by decide) rfl
              have hKc := hK.sub (tys' := [(g0, .int), (g1, .int)]) [0, 1] rfl
              have hFc := va_free (wc := (wd_1ad0248d h0 h1 h3 x72 h1 h2 v1 x88 v3 x74 h2 g0 f5 h3 g1 fn75)) hD hS hA [0, 1, 2, 3] rfl
              refine va_calli (va_runV (As := [.int 4, .int 0]) (rest := []) ⟨hx, hb, hml, hown, hts⟩ (k_X3_readUnit_3 l dC dI adK adV h0 h1 h2 h3 x72 v1 x88 v3 x74 g0 f5 g1 fn75 ⟨qa_x72, qb_x72⟩ ⟨i_v1a, i_v1b⟩ ⟨by first | omega | decide, ob_x88⟩ ia_f5 H.size) (cwV 2 hts g_X3_readTruth_2_0 rfl rfl rfl (by decide +kernel) ⟨Nat.le_of_ble_eq_true rfl, Nat.le_of_ble_eq_true rfl⟩) ⟨fun a U g mk q => by obtain ⟨q0, q1, qP, qK, qD, n0, n1, n2⟩ := q; exact ⟨q0, q1, qP, va_K.moved (u := U) (U := U.calling g mk a) (Vm.Alike.refl U.vm) qK, qD, vk_R.same rfl n0, va_Z.moved (Vm.Alike.refl _) n1, vk_S.moved (Vm.Alike.refl _) n2⟩, pv_rc3 hKc hPc (q0 := 0) rfl, fun U hU hW => ⟨rfl, by rw [hU], by rw [hU]; exact hPc, va_K.moved hW.alike hKc, hDc.weaken (fun _ _ _ _ => trivial), vk_R.warm hW h_vr_2, (by rw [hU]; exact (va_Z.moved hW.alike (va_Z.kept h_st_CS hS.2.1)).narrow hFc), (by rw [hU]; exact (vk_S.moved hW.alike (vk_S.kept h_st_S hS.2.1)).narrow hFc)⟩⟩ rfl rfl hl.1 rfl (lv_room (Nat.le_of_ble_eq_true rfl)) dX3_readTruth_42 ⟨Nat.le_of_ble_eq_true rfl, Nat.le_of_ble_eq_true rfl⟩) hS (fun q _ h => hFc q h) hFc (fun ra89 u t H1 locs ht hvm hwra89 hB hz1 hk1 hS => ?_)
              try rw [hwra89] at hB
              rcases hB with hB | hB
              · skip
                obtain ⟨x90, x91, x92, fn93, oa_x90, ob_x90, oa_x91, ob_x91, pt0_ra89, pt1_ra89, pt2_ra89, pt3_ra89, hP1, hK1, hD1⟩ := hB
                rw [ht] at hP1
                obtain ⟨hP2, hD2⟩ := va_join (wr := []) (w1 := (wd_1ad0248d h0 h1 h3 x90 h1 h2 v1 x91 v3 x92 h2 g0 f5 h3 g1 fn93)) hP hD [0, 1, 2, 3] [] rfl rfl (by decide) (by decide) hk1 hFc hP1 hD1
                clear hP hD hPc hDc hKc hFc hP1 hK1 hD1 hk1 hz1
                generalize H1 = H at hP2 hS ⊢
                have hP : va_P (dC, dI) vwCl (wd_1ad0248d h0 h1 h3 x90 h1 h2 v1 x91 v3 x92 h2 g0 f5 h3 g1 fn93) H := hP2
                have hD : va_D A (wd_1ad0248d h0 h1 h3 x90 h1 h2 v1 x91 v3 x92 h2 g0 f5 h3 g1 fn93) := hD2
                clear hP2 hD2
                obtain rfl : ra89 = (1 : Int32) := pv_cs (by decide) pt0_ra89 pt1_ra89
                refine lv_if_ne (tgt := 50) hx hb dX3_readTruth_45 (by decide) (fun _ => ?_) (fun c => absurd c (by decide))
                refine lv_aload_n hx hb dX3_readTruth_50 rfl (lv_at hl 1 rfl) ?_
                refine lv_bipush (v := 10) hx hb dX3_readTruth_51 (by decide) ?_
                refine lv_iconst (v := 0) hx hb dX3_readTruth_53 (by decide) ?_
                have hPc := hP.sub (ws' := (wd_b958b9da h0 h1 h3 x90 h3 g1 fn93)) [0, 3] rfl
                have hDc := hD.sub (ws' := (wd_b958b9da h0 h1 h3 x90 h3 g1 fn93)) [0, 3] (by decide) rfl
                have hKc := hK.sub (tys' := [(g1, .int)]) [1] rfl
                have hFc := va_free (wc := (wd_b958b9da h0 h1 h3 x90 h3 g1 fn93)) hD hS hA [0, 3] rfl
                refine va_callv (va_runV (As := [.int 10, .int 0]) (rest := []) ⟨hx, hb, hml, hown, hts⟩ (k_X3_write l dC dI h0 h3 h1 x90 g1 fn93 10 0 ⟨oa_x90, ob_x90⟩ H.size) (cwV 2 hts g_X3_readTruth_2_4 rfl rfl rfl (by decide +kernel) ⟨Nat.le_of_ble_eq_true rfl, Nat.le_of_ble_eq_true rfl⟩) (pv_PV3 hPc hKc hDc (q0 := 0) rfl) rfl rfl hl.1 rfl (lv_room (Nat.le_of_ble_eq_true rfl)) dX3_readTruth_54 ⟨Nat.le_of_ble_eq_true rfl, Nat.le_of_ble_eq_true rfl⟩) hS (fun q _ h => hFc q h) hFc (fun u t H1 locs ht hvm hwra94 hB hz1 hk1 hS => ?_)
                obtain ⟨x95, fn96, oa_x95, ob_x95, hP1, hK1, hD1⟩ := hB
                rw [ht] at hP1
                obtain ⟨hP2, hD2⟩ := va_join (wr := (wd_82cdd16b h1 h2 v1 x91 v3 x92 h2 g0 f5)) (w1 := (wd_b958b9da h0 h1 h3 x95 h3 g1 fn96)) hP hD [0, 3] [1, 2] rfl rfl (by decide) (by decide) hk1 hFc hP1 hD1
                clear hP hD hPc hDc hKc hFc hP1 hK1 hD1 hk1 hz1
                generalize H1 = H at hP2 hS ⊢
                have hP := hP2.sub (ws' := (wd_1ad0248d h0 h1 h3 x95 h1 h2 v1 x91 v3 x92 h2 g0 f5 h3 g1 fn96)) [2, 0, 1, 3] rfl
                have hD := hD2.sub (ws' := (wd_1ad0248d h0 h1 h3 x95 h1 h2 v1 x91 v3 x92 h2 g0 f5 h3 g1 fn96)) [2, 0, 1, 3] (by decide) rfl
                clear hP2 hD2
                obtain ⟨t97, et97⟩ : ∃ y : Int32, y = x71 + 1 := ⟨_, rfl⟩
                have gt97 : t97.toInt = x71.toInt + (1) := pv_add (a := x71.toInt) (b := (1)) et97 rfl (by decide) (by omega) (by omega)
                refine lv_iinc (v := t97) (lv' := [(3, .int t97), (0, .ref h0), (1, .int 4), (2, .int 0)]) hx hb dX3_readTruth_57 hl (k := 0) rfl (by rw [et97]; rfl) (by decide) rfl (fun ls hl => ?_)
                refine lv_goto (tgt := 13) hx hb dX3_readTruth_60 (by decide) ?_
                exact ih_hL81 t97 x95 x91 x92 fn96 H locs ls (by first | omega | decide) (by first | omega | decide) oa_x95 ob_x95 oa_x91 ob_x91 (by first | assumption | (apply pg_row.go <;> first | assumption | omega) | (apply pg_L.bi <;> first | assumption | omega) | (apply pg_L.step <;> first | assumption | omega)) (by first | omega | ((have h09 : ((0 : Int32)).toInt = 0 := by decide); omega)) (by omega) (by first | omega | (simp only [Int.toNat] at *; omega)) hP hD hS (lv_sub hl [0, 1, 2, 3] rfl)
              · skip
                obtain ⟨x98, x99, x100, x101, fn102, oa_x98, ob_x98, oa_x99, ob_x99, oa_x100, ob_x100, pt0_ra89, pt1_ra89, pt2_ra89, pt3_ra89, hP1, hK1, hD1⟩ := hB
                rw [ht] at hP1
                obtain ⟨hP2, hD2⟩ := va_join (wr := []) (w1 := (wd_1ad0248d h0 h1 h3 x98 h1 h2 v1 x99 x100 x101 h2 g0 f5 h3 g1 fn102)) hP hD [0, 1, 2, 3] [] rfl rfl (by decide) (by decide) hk1 hFc hP1 hD1
                clear hP hD hPc hDc hKc hFc hP1 hK1 hD1 hk1 hz1
                generalize H1 = H at hP2 hS ⊢
                have hP : va_P (dC, dI) vwCl (wd_1ad0248d h0 h1 h3 x98 h1 h2 v1 x99 x100 x101 h2 g0 f5 h3 g1 fn102) H := hP2
                have hD : va_D A (wd_1ad0248d h0 h1 h3 x98 h1 h2 v1 x99 x100 x101 h2 g0 f5 h3 g1 fn102) := hD2
                clear hP2 hD2
                obtain rfl : ra89 = (0 : Int32) := pv_cs (by decide) pt0_ra89 pt1_ra89
                refine lv_if_ne (tgt := 50) hx hb dX3_readTruth_45 (by decide) (fun c => absurd (by decide) c) (fun _ => ?_)
                refine lv_iconst (v := 0) hx hb dX3_readTruth_48 (by decide) ?_
                subst hQ
                have hP9 := hP.sub (ws' := (wd_1ad0248d h0 h1 h3 x98 h1 h2 v1 x99 x100 x101 h2 g0 f5 h3 g1 fn102)) [0, 1, 2, 3] rfl
                have hD9 := hD.sub (ws' := (wd_1ad0248d h0 h1 h3 x98 h1 h2 v1 x99 x100 x101 h2 g0 f5 h3 g1 fn102)) [0, 1, 2, 3] (by decide) rfl
                have hK9 := hK.sub (tys' := []) [] rfl
                exact W.zret (v := 0) hx hb hr rfl (fun t ht hW => ⟨⟨0, 0, rfl, rfl, Or.inr (⟨x98, x99, x100, x101, fn102, oa_x98, ob_x98, oa_x99, ob_x99, oa_x100, ob_x100, by first | omega | decide, by first | omega | decide, by omega, by first | assumption | (apply pg_bind.no <;> first | assumption | omega) | (apply pg_L.no <;> first | assumption | omega), by rw [ht]; exact hP9, va_K.moved hW.alike hK9, hD9⟩)⟩, hS.F ht⟩) hS.2.2 dX3_readTruth_49
    exact hL81 _ 0 x2 x3 x4 fn5 H locs ls (by decide) (by decide) oa_x2 ob_x2 oa_x3 ob_x3 (by first | assumption | (apply pg_row.go <;> first | assumption | omega) | (apply pg_L.bi <;> first | assumption | omega) | (apply pg_L.step <;> first | assumption | omega)) (by first | omega | ((have h09 : ((0 : Int32)).toInt = 0 := by decide); omega)) (by omega) (Nat.lt_succ_self _) hP hD hS (lv_sub hl [0, 1, 2, 3] rfl)
  · skip
    obtain ⟨x103, x104, x105, x106, fn107, oa_x103, ob_x103, oa_x104, ob_x104, oa_x105, ob_x105, pt0_ra1, pt1_ra1, pt2_ra1, pt3_ra1, hP1, hK1, hD1⟩ := hB
    rw [ht] at hP1
    obtain ⟨hP2, hD2⟩ := va_join (wr := []) (w1 := (wd_1ad0248d h0 h1 h3 x103 h1 h2 v1 x104 x105 x106 h2 g0 f5 h3 g1 fn107)) hP hD [0, 1, 2, 3] [] rfl rfl (by decide) (by decide) hk1 hFc hP1 hD1
    clear hP hD hPc hDc hKc hFc hP1 hK1 hD1 hk1 hz1
    generalize H1 = H at hP2 hS ⊢
    have hP : va_P (dC, dI) vwCl (wd_1ad0248d h0 h1 h3 x103 h1 h2 v1 x104 x105 x106 h2 g0 f5 h3 g1 fn107) H := hP2
    have hD : va_D A (wd_1ad0248d h0 h1 h3 x103 h1 h2 v1 x104 x105 x106 h2 g0 f5 h3 g1 fn107) := hD2
    clear hP2 hD2
    obtain rfl : ra1 = (0 : Int32) := pv_cs (by decide) pt0_ra1 pt1_ra1
    refine lv_if_ne (tgt := 11) hx hb dX3_readTruth_6 (by decide) (fun c => absurd (by decide) c) (fun _ => ?_)
    refine lv_iconst (v := 0) hx hb dX3_readTruth_9 (by decide) ?_
    subst hQ
    have hP9 := hP.sub (ws' := (wd_1ad0248d h0 h1 h3 x103 h1 h2 v1 x104 x105 x106 h2 g0 f5 h3 g1 fn107)) [0, 1, 2, 3] rfl
    have hD9 := hD.sub (ws' := (wd_1ad0248d h0 h1 h3 x103 h1 h2 v1 x104 x105 x106 h2 g0 f5 h3 g1 fn107)) [0, 1, 2, 3] (by decide) rfl
    have hK9 := hK.sub (tys' := []) [] rfl
    exact W.zret (v := 0) hx hb hr rfl (fun t ht hW => ⟨⟨0, 0, rfl, rfl, Or.inr (⟨x103, x104, x105, x106, fn107, oa_x103, ob_x103, oa_x104, ob_x104, oa_x105, ob_x105, by first | omega | decide, by first | omega | decide, by omega, by first | assumption | (apply pg_bind.no <;> first | assumption | omega) | (apply pg_L.no <;> first | assumption | omega), by rw [ht]; exact hP9, va_K.moved hW.alike hK9, hD9⟩)⟩, hS.F ht⟩) hS.2.2 dX3_readTruth_10
def q_X3_readCondition_2 : List Cond := .code yX3_readCondition cX3_readCondition 4 (some .boolean) :: (([.code yX3_readTruth cX3_readTruth 4 (some .boolean), .code yX3_readUnit cX3_readUnit 5 (some .boolean), .fieldLink RX3 19 "LeftArguments$LawReader" "tape" "LLeftArguments$Tape;", .code yX10_next cX10_next 1 (some .int), .fieldLink RX10 19 "LeftArguments$Tape" "at" "I", .fieldLink RX10 15 "LeftArguments$Tape" "used" "I", .fieldLink RX10 9 "LeftArguments$Tape" "bytes" "[I", .initialized RX10, .instanceMethod yX10_next, .selects RX10 yX10_next yX10_next, .methodLink RX3 48 yX10_next, .code yX3_readSum cX3_readSum 4 (some .boolean), .code yX3_readTerm cX3_readTerm 4 (some .boolean), .code yX3_readAtom cX3_readAtom 4 (some .boolean), .code yX10_isDigit cX10_isDigit 1 (some .boolean), .static yX10_isDigit, .methodLink RX3 92 yX10_isDigit, .code yX10_wrongHere cX10_wrongHere 1 (some .boolean), .fieldLink RX10 22 "LeftArguments$Tape" "wrongAt" "I", .instanceMethod yX10_wrongHere, .selects RX10 yX10_wrongHere yX10_wrongHere, .methodLink RX3 83 yX10_wrongHere, .code yJ0_indexOf_0f7a4 cJ0_indexOf_0f7a4 2 (some .int), .code yJ0_indexOf_7cf53 cJ0_indexOf_7cf53 3 (some .int), .code yJ0_isLatin1_aae02 cJ0_isLatin1_aae02 1 (some .boolean), .fieldLink RJ0 38 "java/lang/String" "COMPACT_STRINGS" "Z", .fieldLink RJ0 15 "java/lang/String" "coder" "B", .initialized RJ0, .instanceMethod yJ0_isLatin1_aae02, .selects RJ0 yJ0_isLatin1_aae02 yJ0_isLatin1_aae02, .methodLink RJ0 492 yJ0_isLatin1_aae02, .fieldLink RJ0 9 "java/lang/String" "value" "[B", .code yJ0_length_8abf5 cJ0_length_8abf5 1 (some .int), .code yJ0_coder_7d493 cJ0_coder_7d493 1 (some .byte), .instanceMethod yJ0_coder_7d493, .selects RJ0 yJ0_coder_7d493 yJ0_coder_7d493, .methodLink RJ0 335 yJ0_coder_7d493, .instanceMethod yJ0_length_8abf5, .selects RJ0 yJ0_length_8abf5 yJ0_length_8abf5, .methodLink RJ0 505 yJ0_length_8abf5, .code yJ1_indexOf_4cfef cJ1_indexOf_4cfef 4 (some .int), .code yJ1_canEncode_9a6ad cJ1_canEncode_9a6ad 1 (some .boolean), .initialized RJ1, .static yJ1_canEncode_9a6ad, .methodLink RJ1 88 yJ1_canEncode_9a6ad, .methodLink RJ1 92 Lib.Math.max.name, .static Lib.Math.max.name, .initialized "java/lang/Math", .code Lib.Math.max.name Lib.Math.max.code 2 (some .int), .methodLink RJ1 38 Lib.Math.min.name, .static Lib.Math.min.name, .code Lib.Math.min.name Lib.Math.min.code 2 (some .int), .code yJ1_indexOfChar_4cfef cJ1_indexOfChar_4cfef 6 (some .int), .static yJ1_indexOfChar_4cfef, .methodLink RJ1 95 yJ1_indexOfChar_4cfef, .static yJ1_indexOf_4cfef, .methodLink RJ0 637 yJ1_indexOf_4cfef, .instanceMethod yJ0_indexOf_7cf53, .selects RJ0 yJ0_indexOf_7cf53 yJ0_indexOf_7cf53, .methodLink RJ0 633 yJ0_indexOf_7cf53, .instanceMethod yJ0_indexOf_0f7a4, .selects RJ0 yJ0_indexOf_0f7a4 yJ0_indexOf_0f7a4, .methodLink RX3 103 yJ0_indexOf_0f7a4, .code yX10_step cX10_step 1 none, .instanceMethod yX10_step, .selects RX10 yX10_step yX10_step, .methodLink RX3 77 yX10_step, .code yX3_write cX3_write 3 none, .fieldLink RX3 15 "LeftArguments$LawReader" "used" "I", .fieldLink RX3 11 "LeftArguments$LawReader" "code" "[I", .initialized RX3, .instanceMethod yX3_write, .selects RX3 yX3_write yX3_write, .methodLink RX3 66 yX3_write, .code yX10_takeNumber cX10_takeNumber 3 (some .boolean), .methodLink RX10 37 yX10_next, .methodLink RX10 45 yX10_isDigit, .methodLink RX10 41 yX10_wrongHere, .fieldLink RX10 25 "LeftArguments$Tape" "number" "I", .code yX10_sign cX10_sign 1 (some .int), .instanceMethod yX10_sign, .selects RX10 yX10_sign yX10_sign, .methodLink RX10 49 yX10_sign, .instanceMethod yX10_takeNumber, .selects RX10 yX10_takeNumber yX10_takeNumber, .methodLink RX3 95 yX10_takeNumber, .code yX10_number cX10_number 1 (some .int), .instanceMethod yX10_number, .selects RX10 yX10_number yX10_number, .methodLink RX3 98 yX10_number, .instanceMethod yX3_readAtom, .selects RX3 yX3_readAtom yX3_readAtom, .methodLink RX3 89 yX3_readAtom, .instanceMethod yX3_readTerm, .selects RX3 yX3_readTerm yX3_readTerm, .methodLink RX3 86 yX3_readTerm, .instanceMethod yX3_readSum, .selects RX3 yX3_readSum yX3_readSum, .methodLink RX3 59 yX3_readSum, .code yX10_take cX10_take 2 (some .boolean), .instanceMethod yX10_take, .selects RX10 yX10_take yX10_take, .methodLink RX3 51 yX10_take, .code yX3_comparing cX3_comparing 1 (some .int), .static yX3_comparing, .methodLink RX3 62 yX3_comparing, .instanceMethod yX3_readUnit, .selects RX3 yX3_readUnit yX3_readUnit, .methodLink RX3 80 yX3_readUnit, .code yX3_readCondition cX3_readCondition 4 (some .boolean), .instanceMethod yX3_readTruth, .selects RX3 yX3_readTruth yX3_readTruth, .methodLink RX3 74 yX3_readTruth, .instanceMethod yX3_readCondition, .selects RX3 yX3_readCondition yX3_readCondition, .methodLink RX3 70 yX3_readCondition] : List Cond) ++ wsX30 ++ wsX100)
set_option maxRecDepth 20000 in
theorem g_X3_readCondition_2_0 : GoodIn q_X3_readCondition_2 (wsV RX3 74 RX3 yX3_readTruth q_X3_readTruth_2) := goodIn_app (goodIn_r _ [113, 111, 112, 71] rfl (by decide +kernel)) (goodIn_ca (goodIn_ca (goodIn_r (.code yX3_readTruth cX3_readTruth 4 (some .boolean) :: [.code yX3_readUnit cX3_readUnit 5 (some .boolean), .fieldLink RX3 19 "LeftArguments$LawReader" "tape" "LLeftArguments$Tape;", .code yX10_next cX10_next 1 (some .int), .fieldLink RX10 19 "LeftArguments$Tape" "at" "I", .fieldLink RX10 15 "LeftArguments$Tape" "used" "I", .fieldLink RX10 9 "LeftArguments$Tape" "bytes" "[I", .initialized RX10, .instanceMethod yX10_next, .selects RX10 yX10_next yX10_next, .methodLink RX3 48 yX10_next, .code yX3_readSum cX3_readSum 4 (some .boolean), .code yX3_readTerm cX3_readTerm 4 (some .boolean), .code yX3_readAtom cX3_readAtom 4 (some .boolean), .code yX10_isDigit cX10_isDigit 1 (some .boolean), .static yX10_isDigit, .methodLink RX3 92 yX10_isDigit, .code yX10_wrongHere cX10_wrongHere 1 (some .boolean), .fieldLink RX10 22 "LeftArguments$Tape" "wrongAt" "I", .instanceMethod yX10_wrongHere, .selects RX10 yX10_wrongHere yX10_wrongHere, .methodLink RX3 83 yX10_wrongHere, .code yJ0_indexOf_0f7a4 cJ0_indexOf_0f7a4 2 (some .int), .code yJ0_indexOf_7cf53 cJ0_indexOf_7cf53 3 (some .int), .code yJ0_isLatin1_aae02 cJ0_isLatin1_aae02 1 (some .boolean), .fieldLink RJ0 38 "java/lang/String" "COMPACT_STRINGS" "Z", .fieldLink RJ0 15 "java/lang/String" "coder" "B", .initialized RJ0, .instanceMethod yJ0_isLatin1_aae02, .selects RJ0 yJ0_isLatin1_aae02 yJ0_isLatin1_aae02, .methodLink RJ0 492 yJ0_isLatin1_aae02, .fieldLink RJ0 9 "java/lang/String" "value" "[B", .code yJ0_length_8abf5 cJ0_length_8abf5 1 (some .int), .code yJ0_coder_7d493 cJ0_coder_7d493 1 (some .byte), .instanceMethod yJ0_coder_7d493, .selects RJ0 yJ0_coder_7d493 yJ0_coder_7d493, .methodLink RJ0 335 yJ0_coder_7d493, .instanceMethod yJ0_length_8abf5, .selects RJ0 yJ0_length_8abf5 yJ0_length_8abf5, .methodLink RJ0 505 yJ0_length_8abf5, .code yJ1_indexOf_4cfef cJ1_indexOf_4cfef 4 (some .int), .code yJ1_canEncode_9a6ad cJ1_canEncode_9a6ad 1 (some .boolean), .initialized RJ1, .static yJ1_canEncode_9a6ad, .methodLink RJ1 88 yJ1_canEncode_9a6ad, .methodLink RJ1 92 Lib.Math.max.name, .static Lib.Math.max.name, .initialized "java/lang/Math", .code Lib.Math.max.name Lib.Math.max.code 2 (some .int), .methodLink RJ1 38 Lib.Math.min.name, .static Lib.Math.min.name, .code Lib.Math.min.name Lib.Math.min.code 2 (some .int), .code yJ1_indexOfChar_4cfef cJ1_indexOfChar_4cfef 6 (some .int), .static yJ1_indexOfChar_4cfef, .methodLink RJ1 95 yJ1_indexOfChar_4cfef, .static yJ1_indexOf_4cfef, .methodLink RJ0 637 yJ1_indexOf_4cfef, .instanceMethod yJ0_indexOf_7cf53, .selects RJ0 yJ0_indexOf_7cf53 yJ0_indexOf_7cf53, .methodLink RJ0 633 yJ0_indexOf_7cf53, .instanceMethod yJ0_indexOf_0f7a4, .selects RJ0 yJ0_indexOf_0f7a4 yJ0_indexOf_0f7a4, .methodLink RX3 103 yJ0_indexOf_0f7a4, .code yX10_step cX10_step 1 none, .instanceMethod yX10_step, .selects RX10 yX10_step yX10_step, .methodLink RX3 77 yX10_step, .code yX3_write cX3_write 3 none, .fieldLink RX3 15 "LeftArguments$LawReader" "used" "I", .fieldLink RX3 11 "LeftArguments$LawReader" "code" "[I", .initialized RX3, .instanceMethod yX3_write, .selects RX3 yX3_write yX3_write, .methodLink RX3 66 yX3_write, .code yX10_takeNumber cX10_takeNumber 3 (some .boolean), .methodLink RX10 37 yX10_next, .methodLink RX10 45 yX10_isDigit, .methodLink RX10 41 yX10_wrongHere, .fieldLink RX10 25 "LeftArguments$Tape" "number" "I", .code yX10_sign cX10_sign 1 (some .int), .instanceMethod yX10_sign, .selects RX10 yX10_sign yX10_sign, .methodLink RX10 49 yX10_sign, .instanceMethod yX10_takeNumber, .selects RX10 yX10_takeNumber yX10_takeNumber, .methodLink RX3 95 yX10_takeNumber, .code yX10_number cX10_number 1 (some .int), .instanceMethod yX10_number, .selects RX10 yX10_number yX10_number, .methodLink RX3 98 yX10_number, .instanceMethod yX3_readAtom, .selects RX3 yX3_readAtom yX3_readAtom, .methodLink RX3 89 yX3_readAtom, .instanceMethod yX3_readTerm, .selects RX3 yX3_readTerm yX3_readTerm, .methodLink RX3 86 yX3_readTerm, .instanceMethod yX3_readSum, .selects RX3 yX3_readSum yX3_readSum, .methodLink RX3 59 yX3_readSum, .code yX10_take cX10_take 2 (some .boolean), .instanceMethod yX10_take, .selects RX10 yX10_take yX10_take, .methodLink RX3 51 yX10_take, .code yX3_comparing cX3_comparing 1 (some .int), .static yX3_comparing, .methodLink RX3 62 yX3_comparing, .instanceMethod yX3_readUnit, .selects RX3 yX3_readUnit yX3_readUnit, .methodLink RX3 80 yX3_readUnit, .code yX3_readCondition cX3_readCondition 4 (some .boolean), .code yX3_readTruth cX3_readTruth 4 (some .boolean), .instanceMethod yX3_readTruth, .selects RX3 yX3_readTruth yX3_readTruth, .methodLink RX3 74 yX3_readTruth, .instanceMethod yX3_readCondition, .selects RX3 yX3_readCondition yX3_readCondition, .methodLink RX3 70 yX3_readCondition]) [1, 2, 3, 4, 5, 6, 7, 8, 9, 10, 11, 12, 13, 14, 15, 16, 17, 18, 19, 20, 21, 22, 23, 24, 25, 26, 27, 28, 29, 30, 31, 32, 33, 34, 35, 36, 37, 38, 39, 40, 41, 42, 43, 44, 45, 46, 47, 48, 49, 50, 51, 52, 53, 54, 55, 56, 57, 58, 59, 60, 61, 62, 63, 64, 65, 66, 67, 68, 69, 70, 71, 72, 73, 74, 75, 76, 77, 78, 79, 80, 81, 82, 83, 84, 85, 86, 87, 88, 89, 90, 91, 92, 93, 94, 95, 96, 97, 98, 99, 100, 101, 102, 103, 104, 105, 106, 107, 108, 109, 110, 1, 111, 112, 113, 114, 115, 116] rfl (by decide +kernel)) (goodIn_sub (fun _ h => List.mem_cons_of_mem _ (List.mem_append_left _ (List.mem_append_right _ h))) gwX3)) (goodIn_sub (fun _ h => List.mem_cons_of_mem _ (List.mem_append_right _ h)) gwX10))
set_option maxRecDepth 20000 in
theorem g_X3_readCondition_2_1 : GoodIn q_X3_readCondition_2 (wsV RX3 48 RX10 yX10_next q_X10_next) := goodIn_app (goodIn_r _ [11, 9, 10, 8] rfl (by decide +kernel)) (goodIn_ca (goodIn_r (.code yX10_next cX10_next 1 (some .int) :: [.fieldLink RX10 19 "LeftArguments$Tape" "at" "I", .fieldLink RX10 15 "LeftArguments$Tape" "used" "I", .fieldLink RX10 9 "LeftArguments$Tape" "bytes" "[I"]) [4, 5, 6, 7] rfl (by decide +kernel)) (goodIn_sub (fun _ h => List.mem_cons_of_mem _ (List.mem_append_right _ h)) gwX10))
set_option maxRecDepth 20000 in
theorem g_X3_readCondition_2_2 : GoodIn q_X3_readCondition_2 (wsV RX3 77 RX10 yX10_step q_X10_step) := goodIn_app (goodIn_r _ [67, 65, 66, 8] rfl (by decide +kernel)) (goodIn_ca (goodIn_r (.code yX10_step cX10_step 1 none :: [.fieldLink RX10 19 "LeftArguments$Tape" "at" "I"]) [64, 5] rfl (by decide +kernel)) (goodIn_sub (fun _ h => List.mem_cons_of_mem _ (List.mem_append_right _ h)) gwX10))
set_option maxRecDepth 20000 in
theorem g_X3_readCondition_2_4 : GoodIn q_X3_readCondition_2 (wsV RX3 66 RX3 yX3_write q_X3_write) := goodIn_app (goodIn_r _ [74, 72, 73, 71] rfl (by decide +kernel)) (goodIn_ca (goodIn_r (.code yX3_write cX3_write 3 none :: [.fieldLink RX3 15 "LeftArguments$LawReader" "used" "I", .fieldLink RX3 11 "LeftArguments$LawReader" "code" "[I"]) [68, 69, 70] rfl (by decide +kernel)) (goodIn_sub (fun _ h => List.mem_cons_of_mem _ (List.mem_append_left _ (List.mem_append_right _ h))) gwX3))
set_option maxHeartbeats 4000000 in
set_option maxRecDepth 100000 in
theorem k_X3_readCondition_2 (l : Launch) (dC : Nat → ClassId) (dI : Nat → Nat → Nat) (adK : Nat → Nat) (adV : Nat → Nat) (h0 : Nat) (h1 : Nat) (h2 : Nat) (h3 : Nat) (v0 : Int32) (v1 : Int32) (v2 : Int32) (v3 : Int32) (v4 : Int32) (g0 : ClassId) (f5 : Nat → Int32) (g1 : ClassId) (f6 : Nat → Int32) (i_v0 : 0 ≤ v0.toInt ∧ v0.toInt ≤ 256) (i_v1 : 0 ≤ v1.toInt ∧ v1.toInt ≤ 240) (i_v2 : 0 ≤ v2.toInt ∧ v2.toInt ≤ 240) (ia_f5 : (∀ j, 0 ≤ (f5 j).toInt ∧ (f5 j).toInt ≤ 255)) (sz : Nat) : Met l yX3_readCondition q_X3_readCondition_2 ({ frames := 15, cells := 0, slots := 0, locals := 347 }) (va_Pc [.ref h0, .int 4, .int 0] (fun U => U.heap.size = sz ∧ va_P (dC, dI) vwCl (wd_1ad0248d h0 h1 h3 v0 h1 h2 v1 v2 v3 v4 h2 g0 f5 h3 g1 f6) U.heap ∧ va_K (dC, dI) vwCl [(g0, .int), (g1, .int)] U ∧ va_D (fun _ => True) (wd_1ad0248d h0 h1 h3 v0 h1 h2 v1 v2 v3 v4 h2 g0 f5 h3 g1 f6) ∧ vk_R RX3 101 "zaondt" (adK 2) U ∧ va_Z "java/lang/String" "COMPACT_STRINGS" "Z" (.int 1) (va_A (wd_1ad0248d h0 h1 h3 v0 h1 h2 v1 v2 v3 v4 h2 g0 f5 h3 g1 f6) sz) U U.heap ∧ vk_S 3 pv_len3 pv_byt3 adK adV (va_A (wd_1ad0248d h0 h1 h3 v0 h1 h2 v1 v2 v3 v4 h2 g0 f5 h3 g1 f6) sz) U U.heap)) (va_Qi (fun (r : Int32) (r9 : Int32) => r9 = r) (fun (r : Int32) (t : State) => (∃ (o_h0_2 : Int32) (o_h1_2 : Int32) (o_h1_4 : Int32) (o_h3 : Nat → Int32), 0 ≤ o_h0_2.toInt ∧ o_h0_2.toInt ≤ 256 ∧ 0 ≤ o_h1_2.toInt ∧ o_h1_2.toInt ≤ 240 ∧ (1 ≤ r.toInt) ∧ (r.toInt ≤ 1) ∧ (v2.toInt ≤ o_h1_2.toInt) ∧ (pg_con f5 v1.toInt (pg_unit f5 v1.toInt 2) v2.toInt = (true, o_h1_2.toInt)) ∧ va_P (dC, dI) vwCl (wd_1ad0248d h0 h1 h3 o_h0_2 h1 h2 v1 o_h1_2 v3 o_h1_4 h2 g0 f5 h3 g1 o_h3) t.heap ∧ va_K (dC, dI) vwCl [] t ∧ va_D (va_A (wd_1ad0248d h0 h1 h3 v0 h1 h2 v1 v2 v3 v4 h2 g0 f5 h3 g1 f6) sz) (wd_1ad0248d h0 h1 h3 o_h0_2 h1 h2 v1 o_h1_2 v3 o_h1_4 h2 g0 f5 h3 g1 o_h3)) ∨ (∃ (o_h0_2 : Int32) (o_h1_2 : Int32) (o_h1_3 : Int32) (o_h1_4 : Int32) (o_h3 : Nat → Int32), 0 ≤ o_h0_2.toInt ∧ o_h0_2.toInt ≤ 256 ∧ 0 ≤ o_h1_2.toInt ∧ o_h1_2.toInt ≤ 240 ∧ 0 ≤ o_h1_3.toInt ∧ o_h1_3.toInt ≤ 240 ∧ (0 ≤ r.toInt) ∧ (r.toInt ≤ 0) ∧ (v2.toInt ≤ o_h1_2.toInt) ∧ (pg_con f5 v1.toInt (pg_unit f5 v1.toInt 2) v2.toInt = (false, o_h1_3.toInt)) ∧ va_P (dC, dI) vwCl (wd_1ad0248d h0 h1 h3 o_h0_2 h1 h2 v1 o_h1_2 o_h1_3 o_h1_4 h2 g0 f5 h3 g1 o_h3) t.heap ∧ va_K (dC, dI) vwCl [] t ∧ va_D (va_A (wd_1ad0248d h0 h1 h3 v0 h1 h2 v1 v2 v3 v4 h2 g0 f5 h3 g1 f6) sz) (wd_1ad0248d h0 h1 h3 o_h0_2 h1 h2 v1 o_h1_2 o_h1_3 o_h1_4 h2 g0 f5 h3 g1 o_h3))) (va_A (wd_1ad0248d h0 h1 h3 v0 h1 h2 v1 v2 v3 v4 h2 g0 f5 h3 g1 f6) sz)) 0 0 (va_A (wd_1ad0248d h0 h1 h3 v0 h1 h2 v1 v2 v3 v4 h2 g0 f5 h3 g1 f6) sz) := by
  refine Met.ofW (cc := cX3_readCondition) (maxL := 4) (ret := (some .boolean)) (by decide) rfl ?_
  intro p e s m args below meth c s₁ B hml hv
  obtain ⟨i_v0a, i_v0b⟩ := i_v0
  obtain ⟨i_v1a, i_v1b⟩ := i_v1
  obtain ⟨i_v2a, i_v2b⟩ := i_v2
  obtain ⟨rfl, hsz, hP, hK, hD0, h_vr_2, h_st_CS, h_st_S⟩ := hv
  have hx := B.exec
  have hb := B.bytes
  have hr := B.returns
  have hts := atoms_spec (ws := q_X3_readCondition_2) B.pre
  have hown : s.vm.findClass RX3 = some m.cls := findClass_of_methodNamed B.named
  have hlocks := B.notSynchronized
  subst hsz
  have hD := hD0.self (sz := s.heap.size)
  generalize hAe : va_A (wd_1ad0248d h0 h1 h3 v0 h1 h2 v1 v2 v3 v4 h2 g0 f5 h3 g1 f6) s.heap.size = A at hD h_st_CS h_st_S ⊢
  have hA : ∀ q : Nat, s.heap.size ≤ q → A q := fun q h => by rw [← hAe]; exact Or.inr h
  have hS : va_S A s.heap s.heap [] := va_S.rf
  generalize hQ : (MQ below _ _ s 0 0 A) = Q
  have hl := lv_entry ([.ref h0, .int 4, .int 0]) (n := 4) (Nat.le_of_ble_eq_true rfl)
  rw [lg_entry_eq]
  generalize (lg_sl ([.ref h0, .int 4, .int 0]) ++ List.replicate (4 - (lg_sl ([.ref h0, .int 4, .int 0])).length) Slot.unset).toArray = ls at hl ⊢
  have hl : lv_has ls 4 [(0, .ref h0), (1, .int 4), (2, .int 0)] := hl
  obtain ⟨H, hH⟩ : ∃ H : Heap, H = s.heap := ⟨_, rfl⟩
  obtain ⟨locs, hlocs⟩ : ∃ y : List Loc, y = [] := ⟨_, rfl⟩
  have hS : va_S A s.heap H locs := by rw [hH, hlocs]; exact va_S.rf
  have hP : va_P (dC, dI) vwCl (wd_1ad0248d h0 h1 h3 v0 h1 h2 v1 v2 v3 v4 h2 g0 f5 h3 g1 f6) H := by rw [hH]; exact hP
  rw [← hH, ← hlocs]
  refine lv_aload_n hx hb dX3_readCondition_0 rfl (lv_at hl 0 rfl) ?_
  refine lv_iload_n hx hb dX3_readCondition_1 rfl (lv_at hl 1 rfl) ?_
  refine lv_iload_n hx hb dX3_readCondition_2 rfl (lv_at hl 2 rfl) ?_
  have hPc := hP.sub (ws' := (wd_1ad0248d h0 h1 h3 v0 h1 h2 v1 v2 v3 v4 h2 g0 f5 h3 g1 f6)) [0, 1, 2, 3] rfl
  have hDc := hD.sub (ws' := (wd_1ad0248d h0 h1 h3 v0 h1 h2 v1 v2 v3 v4 h2 g0 f5 h3 g1 f6)) [0, 1, 2, 3] (by decide) rfl
  have hKc := hK.sub (tys' := [(g0, .int), (g1, .int)]) [0, 1] rfl
  have hFc := va_free (wc := (wd_1ad0248d h0 h1 h3 v0 h1 h2 v1 v2 v3 v4 h2 g0 f5 h3 g1 f6)) hD hS hA [0, 1, 2, 3] rfl
  refine va_calli (va_runV (As := [.int 4, .int 0]) (rest := []) ⟨hx, hb, hml, hown, hts⟩ (k_X3_readTruth_2 l dC dI adK adV h0 h1 h2 h3 v0 v1 v2 v3 v4 g0 f5 g1 f6 ⟨i_v0a, i_v0b⟩ ⟨i_v1a, i_v1b⟩ ⟨i_v2a, i_v2b⟩ ia_f5 H.size) (cwV 2 hts g_X3_readCondition_2_0 rfl rfl rfl (by decide +kernel) ⟨Nat.le_of_ble_eq_true rfl, Nat.le_of_ble_eq_true rfl⟩) ⟨fun a U g mk q => by obtain ⟨q0, q1, qP, qK, qD, n0, n1, n2⟩ := q; exact ⟨q0, q1, qP, va_K.moved (u := U) (U := U.calling g mk a) (Vm.Alike.refl U.vm) qK, qD, vk_R.same rfl n0, va_Z.moved (Vm.Alike.refl _) n1, vk_S.moved (Vm.Alike.refl _) n2⟩, pv_rc3 hKc hPc (q0 := 0) rfl, fun U hU hW => ⟨rfl, by rw [hU], by rw [hU]; exact hPc, va_K.moved hW.alike hKc, hDc.weaken (fun _ _ _ _ => trivial), vk_R.warm hW h_vr_2, (by rw [hU]; exact (va_Z.moved hW.alike (va_Z.kept h_st_CS hS.2.1)).narrow hFc), (by rw [hU]; exact (vk_S.moved hW.alike (vk_S.kept h_st_S hS.2.1)).narrow hFc)⟩⟩ rfl rfl hl.1 rfl (lv_room (Nat.le_of_ble_eq_true rfl)) dX3_readCondition_3 ⟨Nat.le_of_ble_eq_true rfl, Nat.le_of_ble_eq_true rfl⟩) hS (fun q _ h => hFc q h) hFc (fun ra1 u t H1 locs ht hvm hwra1 hB hz1 hk1 hS => ?_)
  try rw [hwra1] at hB
  rcases hB with hB | hB
  · skip
    obtain ⟨x2, x3, x4, fn5, oa_x2, ob_x2, oa_x3, ob_x3, pt0_ra1, pt1_ra1, pt2_ra1, pt3_ra1, hP1, hK1, hD1⟩ := hB
    rw [ht] at hP1
    obtain ⟨hP2, hD2⟩ := va_join (wr := []) (w1 := (wd_1ad0248d h0 h1 h3 x2 h1 h2 v1 x3 v3 x4 h2 g0 f5 h3 g1 fn5)) hP hD [0, 1, 2, 3] [] rfl rfl (by decide) (by decide) hk1 hFc hP1 hD1
    clear hP hD hPc hDc hKc hFc hP1 hK1 hD1 hk1 hz1
    generalize H1 = H at hP2 hS ⊢
    have hP : va_P (dC, dI) vwCl (wd_1ad0248d h0 h1 h3 x2 h1 h2 v1 x3 v3 x4 h2 g0 f5 h3 g1 fn5) H := hP2
    have hD : va_D A (wd_1ad0248d h0 h1 h3 x2 h1 h2 v1 x3 v3 x4 h2 g0 f5 h3 g1 fn5) := hD2
    clear hP2 hD2
    obtain rfl : ra1 = (1 : Int32) := pv_cs (by decide) pt0_ra1 pt1_ra1
    refine lv_if_ne (tgt := 11) hx hb dX3_readCondition_6 (by decide) (fun _ => ?_) (fun c => absurd c (by decide))
    refine lv_iconst (v := 0) hx hb dX3_readCondition_11 (by decide) ?_
    refine lv_istore_n (lv' := [(3, .int 0), (0, .ref h0), (1, .int 4), (2, .int 0)]) hx hb dX3_readCondition_12 rfl hl (by decide) rfl (fun ls hl => ?_)
    have hL81 : ∀ (n9 : Nat), ∀ (x71 : Int32) (x72 : Int32) (x73 : Int32) (x74 : Int32) (fn75 : Nat → Int32) (H : Heap) (locs : List Loc) (ls : Array Slot), 0 ≤ x71.toInt → x71.toInt ≤ 240 → 0 ≤ x72.toInt → x72.toInt ≤ 256 → 0 ≤ x73.toInt → x73.toInt ≤ 240 → (pg_L f5 v1.toInt 124 124 (pg_tru f5 v1.toInt (pg_unit f5 v1.toInt 2)) x73.toInt (pg_con f5 v1.toInt (pg_unit f5 v1.toInt 2) v2.toInt)) → (x71.toInt ≤ x73.toInt) → (v2.toInt ≤ x73.toInt) → (240 - x71.toInt).toNat < n9 → va_P (dC, dI) vwCl (wd_1ad0248d h0 h1 h3 x72 h1 h2 v1 x73 v3 x74 h2 g0 f5 h3 g1 fn75) H → va_D A (wd_1ad0248d h0 h1 h3 x72 h1 h2 v1 x73 v3 x74 h2 g0 f5 h3 g1 fn75) → va_S A s.heap H locs → lv_has ls 4 [(3, .int x71), (0, .ref h0), (1, .int 4), (2, .int 0)] → W p l e ({ frames := 15, cells := 0, slots := 0, locals := 347 }) s m ([.ref h0, .int 4, .int 0] : List Value).toArray below meth c H locs 0 0 Q (F0 m 13 ls []) := by
      intro n9
      induction n9 with
      | zero => intro x71 x72 x73 x74 fn75 H locs ls qa_x71 qb_x71 qa_x72 qb_x72 qa_x73 qb_x73 gh0_hL81 gh1_hL81 gh2_hL81 hm9 hP hD hS hl; exact absurd hm9 (Nat.not_lt_zero _)
      | succ n9 ih_hL81 =>
        intro x71 x72 x73 x74 fn75 H locs ls qa_x71 qb_x71 qa_x72 qb_x72 qa_x73 qb_x73 gh0_hL81 gh1_hL81 gh2_hL81 hm9 hP hD hS hl
        refine lv_iload_n hx hb dX3_readCondition_13 rfl (lv_at hl 0 rfl) ?_
        refine lv_sipush (v := 240) hx hb dX3_readCondition_14 (by decide) ?_
        refine lv_icmp_ge (tgt := 63) hx hb dX3_readCondition_17 (by decide) (fun c82 => ?_) (fun c82 => ?_)
        · skip
          have fc82 : 240 ≤ x71.toInt := Int32.le_iff_toInt_le.mp c82
          refine lv_iconst (v := 1) hx hb dX3_readCondition_63 (by decide) ?_
          subst hQ
          have hP9 := hP.sub (ws' := (wd_1ad0248d h0 h1 h3 x72 h1 h2 v1 x73 v3 x74 h2 g0 f5 h3 g1 fn75)) [0, 1, 2, 3] rfl
          have hD9 := hD.sub (ws' := (wd_1ad0248d h0 h1 h3 x72 h1 h2 v1 x73 v3 x74 h2 g0 f5 h3 g1 fn75)) [0, 1, 2, 3] (by decide) rfl
          have hK9 := hK.sub (tys' := []) [] rfl
          exact W.zret (v := 1) hx hb hr rfl (fun t ht hW => ⟨⟨1, 1, rfl, rfl, Or.inl ⟨x72, x73, x74, fn75, qa_x72, qb_x72, qa_x73, qb_x73, by first | omega | decide, by first | omega | decide, by omega, by first | assumption | (apply pg_L.stop <;> first | assumption | omega) | exact pg_L.stop (by assumption) (pg_s.here (by rw [pg_ch.off (by omega)]; decide)) (by rw [pg_ch.off (by omega)]; decide), by rw [ht]; exact hP9, va_K.moved hW.alike hK9, hD9⟩⟩, hS.F ht⟩) hS.2.2 dX3_readCondition_64
        · skip
          have fc82 : ¬ (240 ≤ x71.toInt) := fun h9 => c82 (Int32.le_iff_toInt_le.mpr h9)
          refine lv_aload_n hx hb dX3_readCondition_20 rfl (lv_at hl 1 rfl) ?_
          refine va_get (D := (dC, dI)) (ci := 3) (v := .ref h1) (C := RX3) (T := TX3) (N := 3) hx hb hts (fun _ h => List.mem_cons_of_mem _ (List.mem_append_left _ (List.mem_append_right _ h))) hown hK hP 0 rfl rfl 0 (by decide) (hts (.fieldLink RX3 19 "LeftArguments$LawReader" "tape" "LLeftArguments$Tape;") (List.mem_cons_of_mem _ (List.mem_append_left _ (List.mem_append_left _ (List.mem_of_getElem? (i := 2) rfl))))) (fun _ h9 => h9) rfl dX3_readCondition_21 ?_
          have hPc := hP.sub (ws' := (wd_82cdd16b h1 h2 v1 x73 v3 x74 h2 g0 f5)) [1, 2] rfl
          have hDc := hD.sub (ws' := (wd_82cdd16b h1 h2 v1 x73 v3 x74 h2 g0 f5)) [1, 2] (by decide) rfl
          have hKc := hK.sub (tys' := [(g0, .int)]) [0] rfl
          have hFc := va_free (wc := (wd_82cdd16b h1 h2 v1 x73 v3 x74 h2 g0 f5)) hD hS hA [1, 2] rfl
          refine va_calli (va_runV (As := []) (rest := []) ⟨hx, hb, hml, hown, hts⟩ (k_X10_next l dC dI h1 h2 v1 x73 v3 x74 g0 f5 ⟨i_v1a, i_v1b⟩ ⟨qa_x73, qb_x73⟩ ia_f5 H.size) (cwV 0 hts g_X3_readCondition_2_1 rfl rfl rfl (by decide +kernel) ⟨Nat.le_of_ble_eq_true rfl, Nat.le_of_ble_eq_true rfl⟩) (pv_PV10 hPc hKc hDc (q0 := 0) rfl) rfl rfl hl.1 rfl (lv_room (Nat.le_of_ble_eq_true rfl)) dX3_readCondition_24 ⟨Nat.le_of_ble_eq_true rfl, Nat.le_of_ble_eq_true rfl⟩) hS (fun q _ h => hFc q h) hFc (fun ra83 u t H1 locs ht hvm hwra83 hB hz1 hk1 hS => ?_)
          try rw [hwra83] at hB
          rcases hB with hB | hB
          · skip
            obtain ⟨x84, oa_x84, ob_x84, pt0_ra83, pt1_ra83, pt2_ra83, pt3_ra83, pt4_ra83, pt5_ra83, pt6_ra83, hP1, hK1, hD1⟩ := hB
            rw [ht] at hP1
            obtain ⟨hP2, hD2⟩ := va_join (wr := (wd_b958b9da h0 h1 h3 x72 h3 g1 fn75)) (w1 := (wd_82cdd16b h1 h2 v1 x84 v3 x74 h2 g0 f5)) hP hD [1, 2] [0, 3] rfl rfl (by decide) (by decide) hk1 hFc hP1 hD1
            clear hP hD hPc hDc hKc hFc hP1 hK1 hD1 hk1 hz1
            generalize H1 = H at hP2 hS ⊢
            have hP := hP2.sub (ws' := (wd_1ad0248d h0 h1 h3 x72 h1 h2 v1 x84 v3 x74 h2 g0 f5 h3 g1 fn75)) [0, 2, 3, 1] rfl
            have hD := hD2.sub (ws' := (wd_1ad0248d h0 h1 h3 x72 h1 h2 v1 x84 v3 x74 h2 g0 f5 h3 g1 fn75)) [0, 2, 3, 1] (by decide) rfl
            clear hP2 hD2
            obtain rfl : ra83 = ((-1) : Int32) := pv_cs (by decide) pt0_ra83 pt1_ra83
            refine lv_bipush (v := 124) hx hb dX3_readCondition_27 (by decide) ?_
            refine lv_icmp_ne (tgt := 63) hx hb dX3_readCondition_29 (by decide) (fun _ => ?_) (fun c => absurd c (by decide))
            refine lv_iconst (v := 1) hx hb dX3_readCondition_63 (by decide) ?_
            subst hQ
            have hP9 := hP.sub (ws' := (wd_1ad0248d h0 h1 h3 x72 h1 h2 v1 x84 v3 x74 h2 g0 f5 h3 g1 fn75)) [0, 1, 2, 3] rfl
            have hD9 := hD.sub (ws' := (wd_1ad0248d h0 h1 h3 x72 h1 h2 v1 x84 v3 x74 h2 g0 f5 h3 g1 fn75)) [0, 1, 2, 3] (by decide) rfl
            have hK9 := hK.sub (tys' := []) [] rfl
            exact W.zret (v := 1) hx hb hr rfl (fun t ht hW => ⟨⟨1, 1, rfl, rfl, Or.inl ⟨x72, x84, x74, fn75, qa_x72, qb_x72, oa_x84, ob_x84, by first | omega | decide, by first | omega | decide, by omega, by first | assumption | (apply pg_L.stop <;> first | assumption | omega) | exact pg_L.stop (by assumption) (pg_s.here (by rw [pg_ch.off (by omega)]; decide)) (by rw [pg_ch.off (by omega)]; decide), by rw [ht]; exact hP9, va_K.moved hW.alike hK9, hD9⟩⟩, hS.F ht⟩) hS.2.2 dX3_readCondition_64
          · skip
            obtain ⟨x85, oa_x85, ob_x85, pt0_ra83, pt1_ra83, pt2_ra83, pt3_ra83, pt4_ra83, pt5_ra83, pt6_ra83, hP1, hK1, hD1⟩ := hB
            rw [ht] at hP1
            obtain ⟨hP2, hD2⟩ := va_join (wr := (wd_b958b9da h0 h1 h3 x72 h3 g1 fn75)) (w1 := (wd_82cdd16b h1 h2 v1 x85 v3 x74 h2 g0 f5)) hP hD [1, 2] [0, 3] rfl rfl (by decide) (by decide) hk1 hFc hP1 hD1
            clear hP hD hPc hDc hKc hFc hP1 hK1 hD1 hk1 hz1
            generalize H1 = H at hP2 hS ⊢
            have hP := hP2.sub (ws' := (wd_1ad0248d h0 h1 h3 x72 h1 h2 v1 x85 v3 x74 h2 g0 f5 h3 g1 fn75)) [0, 2, 3, 1] rfl
            have hD := hD2.sub (ws' := (wd_1ad0248d h0 h1 h3 x72 h1 h2 v1 x85 v3 x74 h2 g0 f5 h3 g1 fn75)) [0, 2, 3, 1] (by decide) rfl
            clear hP2 hD2
            refine lv_bipush (v := 124) hx hb dX3_readCondition_27 (by decide) ?_
            refine lv_icmp_ne (tgt := 63) hx hb dX3_readCondition_29 (by decide) (fun c86 => ?_) (fun c86 => ?_)
            · skip
              have fc86 : ¬ (ra83.toInt = 124) := fun h9 => c86 (Int32.toInt_inj.mp h9)
              refine lv_iconst (v := 1) hx hb dX3_readCondition_63 (by decide) ?_
              subst hQ
              have hP9 := hP.sub (ws' := (wd_1ad0248d h0 h1 h3 x72 h1 h2 v1 x85 v3 x74 h2 g0 f5 h3 g1 fn75)) [0, 1, 2, 3] rfl
              have hD9 := hD.sub (ws' := (wd_1ad0248d h0 h1 h3 x72 h1 h2 v1 x85 v3 x74 h2 g0 f5 h3 g1 fn75)) [0, 1, 2, 3] (by decide) rfl
              have hK9 := hK.sub (tys' := []) [] rfl
              exact W.zret (v := 1) hx hb hr rfl (fun t ht hW => ⟨⟨1, 1, rfl, rfl, Or.inl ⟨x72, x85, x74, fn75, qa_x72, qb_x72, oa_x85, by first | omega | decide, by first | omega | decide, by first | omega | decide, by omega, by first | assumption | (apply pg_L.stop <;> first | assumption | omega) | exact pg_L.stop (by assumption) (pg_s.here (by rw [pg_ch.off (by omega)]; decide)) (by rw [pg_ch.off (by omega)]; decide), by rw [ht]; exact hP9, va_K.moved hW.alike hK9, hD9⟩⟩, hS.F ht⟩) hS.2.2 dX3_readCondition_64
            · skip
              have fc86 : ra83.toInt = 124 := congrArg Int32.toInt c86
              refine lv_aload_n hx hb dX3_readCondition_32 rfl (lv_at hl 1 rfl) ?_
              refine va_get (D := (dC, dI)) (ci := 3) (v := .ref h1) (C := RX3) (T := TX3) (N := 3) hx hb hts (fun _ h => List.mem_cons_of_mem _ (List.mem_append_left _ (List.mem_append_right _ h))) hown hK hP 0 rfl rfl 0 (by decide) (hts (.fieldLink RX3 19 "LeftArguments$LawReader" "tape" "LLeftArguments$Tape;") (List.mem_cons_of_mem _ (List.mem_append_left _ (List.mem_append_left _ (List.mem_of_getElem? (i := 2) rfl))))) (fun _ h9 => h9) rfl dX3_readCondition_33 ?_
              have hPc := hP.sub (ws' := (wd_09b0abee h1 h2 v1 x85 v3 x74)) [1] rfl
              have hDc := hD.sub (ws' := (wd_09b0abee h1 h2 v1 x85 v3 x74)) [1] (by decide) rfl
              have hKc := hK.sub (tys' := []) [] rfl
              have hFc := va_free (wc := (wd_09b0abee h1 h2 v1 x85 v3 x74)) hD hS hA [1] rfl
              refine va_callv (va_runV (As := []) (rest := []) ⟨hx, hb, hml, hown, hts⟩ (k_X10_step l dC dI h1 h2 v1 x85 v3 x74 ⟨i_v1a, i_v1b⟩ ⟨oa_x85, ob_x85⟩ H.size) (cwV 0 hts g_X3_readCondition_2_2 rfl rfl rfl (by decide +kernel) ⟨Nat.le_of_ble_eq_true rfl, Nat.le_of_ble_eq_true rfl⟩) (pv_PV10 hPc hKc hDc (q0 := 0) rfl) rfl rfl hl.1 rfl (lv_room (Nat.le_of_ble_eq_true rfl)) dX3_readCondition_36 ⟨Nat.le_of_ble_eq_true rfl, Nat.le_of_ble_eq_true rfl⟩) hS (fun q _ h => hFc q h) hFc (fun u t H1 locs ht hvm hwra87 hB hz1 hk1 hS => ?_)
              obtain ⟨x88, oa_x88, ob_x88, pt0_ra87, hP1, hK1, hD1⟩ := hB
              rw [ht] at hP1
              obtain ⟨hP2, hD2⟩ := va_join (wr := (wd_6b0d8e05 h0 h1 h3 x72 h2 g0 f5 h3 g1 fn75)) (w1 := (wd_09b0abee h1 h2 v1 x88 v3 x74)) hP hD [1] [0, 2, 3] rfl rfl (by decide) (by decide) hk1 hFc hP1 hD1
              clear hP hD hPc hDc hKc hFc hP1 hK1 hD1 hk1 hz1
              generalize H1 = H at hP2 hS ⊢
              have hP := hP2.sub (ws' := (wd_1ad0248d h0 h1 h3 x72 h1 h2 v1 x88 v3 x74 h2 g0 f5 h3 g1 fn75)) [0, 3, 1, 2] rfl
              have hD := hD2.sub (ws' := (wd_1ad0248d h0 h1 h3 x72 h1 h2 v1 x88 v3 x74 h2 g0 f5 h3 g1 fn75)) [0, 3, 1, 2] (by decide) rfl
              clear hP2 hD2
              refine lv_aload_n hx hb dX3_readCondition_39 rfl (lv_at hl 1 rfl) ?_
              refine lv_iload_n hx hb dX3_readCondition_40 rfl (lv_at hl 2 rfl) ?_
              refine lv_iconst (v := 0) hx hb dX3_readCondition_41 (by decide) ?_
              have hPc := hP.sub (ws' := (wd_1ad0248d h0 h1 h3 x72 h1 h2 v1 x88 v3 x74 h2 g0 f5 h3 g1 fn75)) [0, 1, 2, 3] rfl
              have hDc := hD.sub (ws' := (wd_1ad0248d h0 h1 h3 x72 h1 h2 v1 x88 v3 x74 h2 g0 f5 h3 g1 fn75)) [0, 1, 2, 3] (by decide) rfl
              have hKc := hK.sub (tys' := [(g0, .int), (g1, .int)]) [0, 1] rfl
              have hFc := va_free (wc := (wd_1ad0248d h0 h1 h3 x72 h1 h2 v1 x88 v3 x74 h2 g0 f5 h3 g1 fn75)) hD hS hA [0, 1, 2, 3] rfl
              refine va_calli (va_runV (As := [.int 4, .int 0]) (rest := []) ⟨hx, hb, hml, hown, hts⟩ (k_X3_readTruth_2 l dC dI adK adV h0 h1 h2 h3 x72 v1 x88 v3 x74 g0 f5 g1 fn75 ⟨qa_x72, qb_x72⟩ ⟨i_v1a, i_v1b⟩ ⟨by first | omega | decide, ob_x88⟩ ia_f5 H.size) (cwV 2 hts g_X3_readCondition_2_0 rfl rfl rfl (by decide +kernel) ⟨Nat.le_of_ble_eq_true rfl, Nat.le_of_ble_eq_true rfl⟩) ⟨fun a U g mk q => by obtain ⟨q0, q1, qP, qK, qD, n0, n1, n2⟩ := q; exact ⟨q0, q1, qP, va_K.moved (u := U) (U := U.calling g mk a) (Vm.Alike.refl U.vm) qK, qD, vk_R.same rfl n0, va_Z.moved (Vm.Alike.refl _) n1, vk_S.moved (Vm.Alike.refl _) n2⟩, pv_rc3 hKc hPc (q0 := 0) rfl, fun U hU hW => ⟨rfl, by rw [hU], by rw [hU]; exact hPc, va_K.moved hW.alike hKc, hDc.weaken (fun _ _ _ _ => trivial), vk_R.warm hW h_vr_2, (by rw [hU]; exact (va_Z.moved hW.alike (va_Z.kept h_st_CS hS.2.1)).narrow hFc), (by rw [hU]; exact (vk_S.moved hW.alike (vk_S.kept h_st_S hS.2.1)).narrow hFc)⟩⟩ rfl rfl hl.1 rfl (lv_room (Nat.le_of_ble_eq_true rfl)) dX3_readCondition_42 ⟨Nat.le_of_ble_eq_true rfl, Nat.le_of_ble_eq_true rfl⟩) hS (fun q _ h => hFc q h) hFc (fun ra89 u t H1 locs ht hvm hwra89 hB hz1 hk1 hS => ?_)
              try rw [hwra89] at hB
              rcases hB with hB | hB
              · skip
                obtain ⟨x90, x91, x92, fn93, oa_x90, ob_x90, oa_x91, ob_x91, pt0_ra89, pt1_ra89, pt2_ra89, pt3_ra89, hP1, hK1, hD1⟩ := hB
                rw [ht] at hP1
                obtain ⟨hP2, hD2⟩ := va_join (wr := []) (w1 := (wd_1ad0248d h0 h1 h3 x90 h1 h2 v1 x91 v3 x92 h2 g0 f5 h3 g1 fn93)) hP hD [0, 1, 2, 3] [] rfl rfl (by decide) (by decide) hk1 hFc hP1 hD1
                clear hP hD hPc hDc hKc hFc hP1 hK1 hD1 hk1 hz1
                generalize H1 = H at hP2 hS ⊢
                have hP : va_P (dC, dI) vwCl (wd_1ad0248d h0 h1 h3 x90 h1 h2 v1 x91 v3 x92 h2 g0 f5 h3 g1 fn93) H := hP2
                have hD : va_D A (wd_1ad0248d h0 h1 h3 x90 h1 h2 v1 x91 v3 x92 h2 g0 f5 h3 g1 fn93) := hD2
                clear hP2 hD2
                obtain rfl : ra89 = (1 : Int32) := pv_cs (by decide) pt0_ra89 pt1_ra89
                refine lv_if_ne (tgt := 50) hx hb dX3_readCondition_45 (by decide) (fun _ => ?_) (fun c => absurd c (by decide))
                refine lv_aload_n hx hb dX3_readCondition_50 rfl (lv_at hl 1 rfl) ?_
                refine lv_bipush (v := 11) hx hb dX3_readCondition_51 (by decide) ?_
                refine lv_iconst (v := 0) hx hb dX3_readCondition_53 (by decide) ?_
                have hPc := hP.sub (ws' := (wd_b958b9da h0 h1 h3 x90 h3 g1 fn93)) [0, 3] rfl
                have hDc := hD.sub (ws' := (wd_b958b9da h0 h1 h3 x90 h3 g1 fn93)) [0, 3] (by decide) rfl
                have hKc := hK.sub (tys' := [(g1, .int)]) [1] rfl
                have hFc := va_free (wc := (wd_b958b9da h0 h1 h3 x90 h3 g1 fn93)) hD hS hA [0, 3] rfl
                refine va_callv (va_runV (As := [.int 11, .int 0]) (rest := []) ⟨hx, hb, hml, hown, hts⟩ (k_X3_write l dC dI h0 h3 h1 x90 g1 fn93 11 0 ⟨oa_x90, ob_x90⟩ H.size) (cwV 2 hts g_X3_readCondition_2_4 rfl rfl rfl (by decide +kernel) ⟨Nat.le_of_ble_eq_true rfl, Nat.le_of_ble_eq_true rfl⟩) (pv_PV3 hPc hKc hDc (q0 := 0) rfl) rfl rfl hl.1 rfl (lv_room (Nat.le_of_ble_eq_true rfl)) dX3_readCondition_54 ⟨Nat.le_of_ble_eq_true rfl, Nat.le_of_ble_eq_true rfl⟩) hS (fun q _ h => hFc q h) hFc (fun u t H1 locs ht hvm hwra94 hB hz1 hk1 hS => ?_)
                obtain ⟨x95, fn96, oa_x95, ob_x95, hP1, hK1, hD1⟩ := hB
                rw [ht] at hP1
                obtain ⟨hP2, hD2⟩ := va_join (wr := (wd_82cdd16b h1 h2 v1 x91 v3 x92 h2 g0 f5)) (w1 := (wd_b958b9da h0 h1 h3 x95 h3 g1 fn96)) hP hD [0, 3] [1, 2] rfl rfl (by decide) (by decide) hk1 hFc hP1 hD1
                clear hP hD hPc hDc hKc hFc hP1 hK1 hD1 hk1 hz1
                generalize H1 = H at hP2 hS ⊢
                have hP := hP2.sub (ws' := (wd_1ad0248d h0 h1 h3 x95 h1 h2 v1 x91 v3 x92 h2 g0 f5 h3 g1 fn96)) [2, 0, 1, 3] rfl
                have hD := hD2.sub (ws' := (wd_1ad0248d h0 h1 h3 x95 h1 h2 v1 x91 v3 x92 h2 g0 f5 h3 g1 fn96)) [2, 0, 1, 3] (by decide) rfl
                clear hP2 hD2
                obtain ⟨t97, et97⟩ : ∃ y : Int32, y = x71 + 1 := ⟨_, rfl⟩
                have gt97 : t97.toInt = x71.toInt + (1) := pv_add (a := x71.toInt) (b := (1)) et97 rfl (by decide) (by omega) (by omega)
                refine lv_iinc (v := t97) (lv' := [(3, .int t97), (0, .ref h0), (1, .int 4), (2, .int 0)]) hx hb dX3_readCondition_57 hl (k := 0) rfl (by rw [et97]; rfl) (by decide) rfl (fun ls hl => ?_)
                refine lv_goto (tgt := 13) hx hb dX3_readCondition_60 (by decide) ?_
                exact ih_hL81 t97 x95 x91 x92 fn96 H locs ls (by first | omega | decide) (by first | omega | decide) oa_x95 ob_x95 oa_x91 ob_x91 (by first | assumption | (apply pg_row.go <;> first | assumption | omega) | (apply pg_L.bi <;> first | assumption | omega) | (apply pg_L.step <;> first | assumption | omega)) (by first | omega | ((have h09 : ((0 : Int32)).toInt = 0 := by decide); omega)) (by omega) (by first | omega | (simp only [Int.toNat] at *; omega)) hP hD hS (lv_sub hl [0, 1, 2, 3] rfl)
              · skip
                obtain ⟨x98, x99, x100, x101, fn102, oa_x98, ob_x98, oa_x99, ob_x99, oa_x100, ob_x100, pt0_ra89, pt1_ra89, pt2_ra89, pt3_ra89, hP1, hK1, hD1⟩ := hB
                rw [ht] at hP1
                obtain ⟨hP2, hD2⟩ := va_join (wr := []) (w1 := (wd_1ad0248d h0 h1 h3 x98 h1 h2 v1 x99 x100 x101 h2 g0 f5 h3 g1 fn102)) hP hD [0, 1, 2, 3] [] rfl rfl (by decide) (by decide) hk1 hFc hP1 hD1
                clear hP hD hPc hDc hKc hFc hP1 hK1 hD1 hk1 hz1
                generalize H1 = H at hP2 hS ⊢
                have hP : va_P (dC, dI) vwCl (wd_1ad0248d h0 h1 h3 x98 h1 h2 v1 x99 x100 x101 h2 g0 f5 h3 g1 fn102) H := hP2
                have hD : va_D A (wd_1ad0248d h0 h1 h3 x98 h1 h2 v1 x99 x100 x101 h2 g0 f5 h3 g1 fn102) := hD2
                clear hP2 hD2
                obtain rfl : ra89 = (0 : Int32) := pv_cs (by decide) pt0_ra89 pt1_ra89
                refine lv_if_ne (tgt := 50) hx hb dX3_readCondition_45 (by decide) (fun c => absurd (by decide) c) (fun _ => ?_)
                refine lv_iconst (v := 0) hx hb dX3_readCondition_48 (by decide) ?_
                subst hQ
                have hP9 := hP.sub (ws' := (wd_1ad0248d h0 h1 h3 x98 h1 h2 v1 x99 x100 x101 h2 g0 f5 h3 g1 fn102)) [0, 1, 2, 3] rfl
                have hD9 := hD.sub (ws' := (wd_1ad0248d h0 h1 h3 x98 h1 h2 v1 x99 x100 x101 h2 g0 f5 h3 g1 fn102)) [0, 1, 2, 3] (by decide) rfl
                have hK9 := hK.sub (tys' := []) [] rfl
                exact W.zret (v := 0) hx hb hr rfl (fun t ht hW => ⟨⟨0, 0, rfl, rfl, Or.inr (⟨x98, x99, x100, x101, fn102, oa_x98, ob_x98, oa_x99, ob_x99, oa_x100, ob_x100, by first | omega | decide, by first | omega | decide, by omega, by first | assumption | (apply pg_bind.no <;> first | assumption | omega) | (apply pg_L.no <;> first | assumption | omega), by rw [ht]; exact hP9, va_K.moved hW.alike hK9, hD9⟩)⟩, hS.F ht⟩) hS.2.2 dX3_readCondition_49
    exact hL81 _ 0 x2 x3 x4 fn5 H locs ls (by decide) (by decide) oa_x2 ob_x2 oa_x3 ob_x3 (by first | assumption | (apply pg_row.go <;> first | assumption | omega) | (apply pg_L.bi <;> first | assumption | omega) | (apply pg_L.step <;> first | assumption | omega)) (by first | omega | ((have h09 : ((0 : Int32)).toInt = 0 := by decide); omega)) (by omega) (Nat.lt_succ_self _) hP hD hS (lv_sub hl [0, 1, 2, 3] rfl)
  · skip
    obtain ⟨x103, x104, x105, x106, fn107, oa_x103, ob_x103, oa_x104, ob_x104, oa_x105, ob_x105, pt0_ra1, pt1_ra1, pt2_ra1, pt3_ra1, hP1, hK1, hD1⟩ := hB
    rw [ht] at hP1
    obtain ⟨hP2, hD2⟩ := va_join (wr := []) (w1 := (wd_1ad0248d h0 h1 h3 x103 h1 h2 v1 x104 x105 x106 h2 g0 f5 h3 g1 fn107)) hP hD [0, 1, 2, 3] [] rfl rfl (by decide) (by decide) hk1 hFc hP1 hD1
    clear hP hD hPc hDc hKc hFc hP1 hK1 hD1 hk1 hz1
    generalize H1 = H at hP2 hS ⊢
    have hP : va_P (dC, dI) vwCl (wd_1ad0248d h0 h1 h3 x103 h1 h2 v1 x104 x105 x106 h2 g0 f5 h3 g1 fn107) H := hP2
    have hD : va_D A (wd_1ad0248d h0 h1 h3 x103 h1 h2 v1 x104 x105 x106 h2 g0 f5 h3 g1 fn107) := hD2
    clear hP2 hD2
    obtain rfl : ra1 = (0 : Int32) := pv_cs (by decide) pt0_ra1 pt1_ra1
    refine lv_if_ne (tgt := 11) hx hb dX3_readCondition_6 (by decide) (fun c => absurd (by decide) c) (fun _ => ?_)
    refine lv_iconst (v := 0) hx hb dX3_readCondition_9 (by decide) ?_
    subst hQ
    have hP9 := hP.sub (ws' := (wd_1ad0248d h0 h1 h3 x103 h1 h2 v1 x104 x105 x106 h2 g0 f5 h3 g1 fn107)) [0, 1, 2, 3] rfl
    have hD9 := hD.sub (ws' := (wd_1ad0248d h0 h1 h3 x103 h1 h2 v1 x104 x105 x106 h2 g0 f5 h3 g1 fn107)) [0, 1, 2, 3] (by decide) rfl
    have hK9 := hK.sub (tys' := []) [] rfl
    exact W.zret (v := 0) hx hb hr rfl (fun t ht hW => ⟨⟨0, 0, rfl, rfl, Or.inr (⟨x103, x104, x105, x106, fn107, oa_x103, ob_x103, oa_x104, ob_x104, oa_x105, ob_x105, by first | omega | decide, by first | omega | decide, by omega, by first | assumption | (apply pg_bind.no <;> first | assumption | omega) | (apply pg_L.no <;> first | assumption | omega), by rw [ht]; exact hP9, va_K.moved hW.alike hK9, hD9⟩)⟩, hS.F ht⟩) hS.2.2 dX3_readCondition_10
def q_X3_readUnit_4 : List Cond := .code yX3_readUnit cX3_readUnit 5 (some .boolean) :: (([.fieldLink RX3 19 "LeftArguments$LawReader" "tape" "LLeftArguments$Tape;", .code yX10_next cX10_next 1 (some .int), .fieldLink RX10 19 "LeftArguments$Tape" "at" "I", .fieldLink RX10 15 "LeftArguments$Tape" "used" "I", .fieldLink RX10 9 "LeftArguments$Tape" "bytes" "[I", .initialized RX10, .instanceMethod yX10_next, .selects RX10 yX10_next yX10_next, .methodLink RX3 48 yX10_next, .code yX3_readSum cX3_readSum 4 (some .boolean), .code yX3_readTerm cX3_readTerm 4 (some .boolean), .code yX3_readAtom cX3_readAtom 4 (some .boolean), .code yX10_isDigit cX10_isDigit 1 (some .boolean), .static yX10_isDigit, .methodLink RX3 92 yX10_isDigit, .code yX10_wrongHere cX10_wrongHere 1 (some .boolean), .fieldLink RX10 22 "LeftArguments$Tape" "wrongAt" "I", .instanceMethod yX10_wrongHere, .selects RX10 yX10_wrongHere yX10_wrongHere, .methodLink RX3 83 yX10_wrongHere, .code yJ0_indexOf_0f7a4 cJ0_indexOf_0f7a4 2 (some .int), .code yJ0_indexOf_7cf53 cJ0_indexOf_7cf53 3 (some .int), .code yJ0_isLatin1_aae02 cJ0_isLatin1_aae02 1 (some .boolean), .fieldLink RJ0 38 "java/lang/String" "COMPACT_STRINGS" "Z", .fieldLink RJ0 15 "java/lang/String" "coder" "B", .initialized RJ0, .instanceMethod yJ0_isLatin1_aae02, .selects RJ0 yJ0_isLatin1_aae02 yJ0_isLatin1_aae02, .methodLink RJ0 492 yJ0_isLatin1_aae02, .fieldLink RJ0 9 "java/lang/String" "value" "[B", .code yJ0_length_8abf5 cJ0_length_8abf5 1 (some .int), .code yJ0_coder_7d493 cJ0_coder_7d493 1 (some .byte), .instanceMethod yJ0_coder_7d493, .selects RJ0 yJ0_coder_7d493 yJ0_coder_7d493, .methodLink RJ0 335 yJ0_coder_7d493, .instanceMethod yJ0_length_8abf5, .selects RJ0 yJ0_length_8abf5 yJ0_length_8abf5, .methodLink RJ0 505 yJ0_length_8abf5, .code yJ1_indexOf_4cfef cJ1_indexOf_4cfef 4 (some .int), .code yJ1_canEncode_9a6ad cJ1_canEncode_9a6ad 1 (some .boolean), .initialized RJ1, .static yJ1_canEncode_9a6ad, .methodLink RJ1 88 yJ1_canEncode_9a6ad, .methodLink RJ1 92 Lib.Math.max.name, .static Lib.Math.max.name, .initialized "java/lang/Math", .code Lib.Math.max.name Lib.Math.max.code 2 (some .int), .methodLink RJ1 38 Lib.Math.min.name, .static Lib.Math.min.name, .code Lib.Math.min.name Lib.Math.min.code 2 (some .int), .code yJ1_indexOfChar_4cfef cJ1_indexOfChar_4cfef 6 (some .int), .static yJ1_indexOfChar_4cfef, .methodLink RJ1 95 yJ1_indexOfChar_4cfef, .static yJ1_indexOf_4cfef, .methodLink RJ0 637 yJ1_indexOf_4cfef, .instanceMethod yJ0_indexOf_7cf53, .selects RJ0 yJ0_indexOf_7cf53 yJ0_indexOf_7cf53, .methodLink RJ0 633 yJ0_indexOf_7cf53, .instanceMethod yJ0_indexOf_0f7a4, .selects RJ0 yJ0_indexOf_0f7a4 yJ0_indexOf_0f7a4, .methodLink RX3 103 yJ0_indexOf_0f7a4, .code yX10_step cX10_step 1 none, .instanceMethod yX10_step, .selects RX10 yX10_step yX10_step, .methodLink RX3 77 yX10_step, .code yX3_write cX3_write 3 none, .fieldLink RX3 15 "LeftArguments$LawReader" "used" "I", .fieldLink RX3 11 "LeftArguments$LawReader" "code" "[I", .initialized RX3, .instanceMethod yX3_write, .selects RX3 yX3_write yX3_write, .methodLink RX3 66 yX3_write, .code yX10_takeNumber cX10_takeNumber 3 (some .boolean), .methodLink RX10 37 yX10_next, .methodLink RX10 45 yX10_isDigit, .methodLink RX10 41 yX10_wrongHere, .fieldLink RX10 25 "LeftArguments$Tape" "number" "I", .code yX10_sign cX10_sign 1 (some .int), .instanceMethod yX10_sign, .selects RX10 yX10_sign yX10_sign, .methodLink RX10 49 yX10_sign, .instanceMethod yX10_takeNumber, .selects RX10 yX10_takeNumber yX10_takeNumber, .methodLink RX3 95 yX10_takeNumber, .code yX10_number cX10_number 1 (some .int), .instanceMethod yX10_number, .selects RX10 yX10_number yX10_number, .methodLink RX3 98 yX10_number, .instanceMethod yX3_readAtom, .selects RX3 yX3_readAtom yX3_readAtom, .methodLink RX3 89 yX3_readAtom, .instanceMethod yX3_readTerm, .selects RX3 yX3_readTerm yX3_readTerm, .methodLink RX3 86 yX3_readTerm, .instanceMethod yX3_readSum, .selects RX3 yX3_readSum yX3_readSum, .methodLink RX3 59 yX3_readSum, .code yX10_take cX10_take 2 (some .boolean), .instanceMethod yX10_take, .selects RX10 yX10_take yX10_take, .methodLink RX3 51 yX10_take, .code yX3_comparing cX3_comparing 1 (some .int), .static yX3_comparing, .methodLink RX3 62 yX3_comparing, .code yX3_readUnit cX3_readUnit 5 (some .boolean), .instanceMethod yX3_readUnit, .selects RX3 yX3_readUnit yX3_readUnit, .methodLink RX3 80 yX3_readUnit, .code yX3_readCondition cX3_readCondition 4 (some .boolean), .code yX3_readTruth cX3_readTruth 4 (some .boolean), .instanceMethod yX3_readTruth, .selects RX3 yX3_readTruth yX3_readTruth, .methodLink RX3 74 yX3_readTruth, .instanceMethod yX3_readCondition, .selects RX3 yX3_readCondition yX3_readCondition, .methodLink RX3 70 yX3_readCondition] : List Cond) ++ wsX30 ++ wsX100)
set_option maxRecDepth 20000 in
theorem g_X3_readUnit_4_0 : GoodIn q_X3_readUnit_4 (wsV RX3 48 RX10 yX10_next q_X10_next) := goodIn_app (goodIn_r _ [9, 7, 8, 6] rfl (by decide +kernel)) (goodIn_ca (goodIn_r (.code yX10_next cX10_next 1 (some .int) :: [.fieldLink RX10 19 "LeftArguments$Tape" "at" "I", .fieldLink RX10 15 "LeftArguments$Tape" "used" "I", .fieldLink RX10 9 "LeftArguments$Tape" "bytes" "[I"]) [2, 3, 4, 5] rfl (by decide +kernel)) (goodIn_sub (fun _ h => List.mem_cons_of_mem _ (List.mem_append_right _ h)) gwX10))
set_option maxRecDepth 20000 in
theorem g_X3_readUnit_4_1 : GoodIn q_X3_readUnit_4 (wsV RX3 59 RX3 yX3_readSum q_X3_readSum_3) := goodIn_app (goodIn_r _ [97, 95, 96, 69] rfl (by decide +kernel)) (goodIn_ca (goodIn_ca (goodIn_r (.code yX3_readSum cX3_readSum 4 (some .boolean) :: [.code yX3_readTerm cX3_readTerm 4 (some .boolean), .code yX3_readAtom cX3_readAtom 4 (some .boolean), .fieldLink RX3 19 "LeftArguments$LawReader" "tape" "LLeftArguments$Tape;", .code yX10_next cX10_next 1 (some .int), .fieldLink RX10 19 "LeftArguments$Tape" "at" "I", .fieldLink RX10 15 "LeftArguments$Tape" "used" "I", .fieldLink RX10 9 "LeftArguments$Tape" "bytes" "[I", .initialized RX10, .instanceMethod yX10_next, .selects RX10 yX10_next yX10_next, .methodLink RX3 48 yX10_next, .code yX10_isDigit cX10_isDigit 1 (some .boolean), .static yX10_isDigit, .methodLink RX3 92 yX10_isDigit, .code yX10_wrongHere cX10_wrongHere 1 (some .boolean), .fieldLink RX10 22 "LeftArguments$Tape" "wrongAt" "I", .instanceMethod yX10_wrongHere, .selects RX10 yX10_wrongHere yX10_wrongHere, .methodLink RX3 83 yX10_wrongHere, .code yJ0_indexOf_0f7a4 cJ0_indexOf_0f7a4 2 (some .int), .code yJ0_indexOf_7cf53 cJ0_indexOf_7cf53 3 (some .int), .code yJ0_isLatin1_aae02 cJ0_isLatin1_aae02 1 (some .boolean), .fieldLink RJ0 38 "java/lang/String" "COMPACT_STRINGS" "Z", .fieldLink RJ0 15 "java/lang/String" "coder" "B", .initialized RJ0, .instanceMethod yJ0_isLatin1_aae02, .selects RJ0 yJ0_isLatin1_aae02 yJ0_isLatin1_aae02, .methodLink RJ0 492 yJ0_isLatin1_aae02, .fieldLink RJ0 9 "java/lang/String" "value" "[B", .code yJ0_length_8abf5 cJ0_length_8abf5 1 (some .int), .code yJ0_coder_7d493 cJ0_coder_7d493 1 (some .byte), .instanceMethod yJ0_coder_7d493, .selects RJ0 yJ0_coder_7d493 yJ0_coder_7d493, .methodLink RJ0 335 yJ0_coder_7d493, .instanceMethod yJ0_length_8abf5, .selects RJ0 yJ0_length_8abf5 yJ0_length_8abf5, .methodLink RJ0 505 yJ0_length_8abf5, .code yJ1_indexOf_4cfef cJ1_indexOf_4cfef 4 (some .int), .code yJ1_canEncode_9a6ad cJ1_canEncode_9a6ad 1 (some .boolean), .initialized RJ1, .static yJ1_canEncode_9a6ad, .methodLink RJ1 88 yJ1_canEncode_9a6ad, .methodLink RJ1 92 Lib.Math.max.name, .static Lib.Math.max.name, .initialized "java/lang/Math", .code Lib.Math.max.name Lib.Math.max.code 2 (some .int), .methodLink RJ1 38 Lib.Math.min.name, .static Lib.Math.min.name, .code Lib.Math.min.name Lib.Math.min.code 2 (some .int), .code yJ1_indexOfChar_4cfef cJ1_indexOfChar_4cfef 6 (some .int), .static yJ1_indexOfChar_4cfef, .methodLink RJ1 95 yJ1_indexOfChar_4cfef, .static yJ1_indexOf_4cfef, .methodLink RJ0 637 yJ1_indexOf_4cfef, .instanceMethod yJ0_indexOf_7cf53, .selects RJ0 yJ0_indexOf_7cf53 yJ0_indexOf_7cf53, .methodLink RJ0 633 yJ0_indexOf_7cf53, .instanceMethod yJ0_indexOf_0f7a4, .selects RJ0 yJ0_indexOf_0f7a4 yJ0_indexOf_0f7a4, .methodLink RX3 103 yJ0_indexOf_0f7a4, .code yX10_step cX10_step 1 none, .instanceMethod yX10_step, .selects RX10 yX10_step yX10_step, .methodLink RX3 77 yX10_step, .code yX3_write cX3_write 3 none, .fieldLink RX3 15 "LeftArguments$LawReader" "used" "I", .fieldLink RX3 11 "LeftArguments$LawReader" "code" "[I", .initialized RX3, .instanceMethod yX3_write, .selects RX3 yX3_write yX3_write, .methodLink RX3 66 yX3_write, .code yX10_takeNumber cX10_takeNumber 3 (some .boolean), .methodLink RX10 37 yX10_next, .methodLink RX10 45 yX10_isDigit, .methodLink RX10 41 yX10_wrongHere, .fieldLink RX10 25 "LeftArguments$Tape" "number" "I", .code yX10_sign cX10_sign 1 (some .int), .instanceMethod yX10_sign, .selects RX10 yX10_sign yX10_sign, .methodLink RX10 49 yX10_sign, .instanceMethod yX10_takeNumber, .selects RX10 yX10_takeNumber yX10_takeNumber, .methodLink RX3 95 yX10_takeNumber, .code yX10_number cX10_number 1 (some .int), .instanceMethod yX10_number, .selects RX10 yX10_number yX10_number, .methodLink RX3 98 yX10_number, .code yX3_readSum cX3_readSum 4 (some .boolean), .instanceMethod yX3_readAtom, .selects RX3 yX3_readAtom yX3_readAtom, .methodLink RX3 89 yX3_readAtom, .instanceMethod yX3_readTerm, .selects RX3 yX3_readTerm yX3_readTerm, .methodLink RX3 86 yX3_readTerm, .instanceMethod yX3_readSum, .selects RX3 yX3_readSum yX3_readSum, .methodLink RX3 59 yX3_readSum, .code yX10_take cX10_take 2 (some .boolean), .instanceMethod yX10_take, .selects RX10 yX10_take yX10_take, .methodLink RX3 51 yX10_take]) [10, 11, 12, 1, 2, 3, 4, 5, 6, 7, 8, 9, 13, 14, 15, 16, 17, 18, 19, 20, 21, 22, 23, 24, 25, 26, 27, 28, 29, 30, 31, 32, 33, 34, 35, 36, 37, 38, 39, 40, 41, 42, 43, 44, 45, 46, 47, 48, 49, 50, 51, 52, 53, 54, 55, 56, 57, 58, 59, 60, 61, 62, 63, 64, 65, 66, 67, 68, 69, 70, 71, 72, 73, 74, 75, 76, 77, 78, 79, 80, 81, 82, 83, 84, 85, 86, 87, 88, 10, 89, 90, 91, 92, 93, 94, 95, 96, 97, 98, 99, 100, 101] rfl (by decide +kernel)) (goodIn_sub (fun _ h => List.mem_cons_of_mem _ (List.mem_append_left _ (List.mem_append_right _ h))) gwX3)) (goodIn_sub (fun _ h => List.mem_cons_of_mem _ (List.mem_append_right _ h)) gwX10))
set_option maxRecDepth 20000 in
theorem g_X3_readUnit_4_3 : GoodIn q_X3_readUnit_4 (va_wsS RX3 62 yX3_comparing q_X3_comparing) := goodIn_app (goodIn_r _ [104, 103, 69] rfl (by decide +kernel)) (goodIn_r (.code yX3_comparing cX3_comparing 1 (some .int) :: []) [102] rfl (by decide +kernel))
set_option maxRecDepth 20000 in
theorem g_X3_readUnit_4_4 : GoodIn q_X3_readUnit_4 (wsV RX3 83 RX10 yX10_wrongHere q_X10_wrongHere) := goodIn_app (goodIn_r _ [20, 18, 19, 6] rfl (by decide +kernel)) (goodIn_ca (goodIn_r (.code yX10_wrongHere cX10_wrongHere 1 (some .boolean) :: [.fieldLink RX10 19 "LeftArguments$Tape" "at" "I", .fieldLink RX10 22 "LeftArguments$Tape" "wrongAt" "I"]) [16, 3, 17] rfl (by decide +kernel)) (goodIn_sub (fun _ h => List.mem_cons_of_mem _ (List.mem_append_right _ h)) gwX10))
set_option maxRecDepth 20000 in
theorem g_X3_readUnit_4_5 : GoodIn q_X3_readUnit_4 (va_wsS RX3 62 yX3_comparing q_X3_comparing_1) := goodIn_app (goodIn_r _ [104, 103, 69] rfl (by decide +kernel)) (goodIn_r (.code yX3_comparing cX3_comparing 1 (some .int) :: []) [102] rfl (by decide +kernel))
set_option maxRecDepth 20000 in
theorem g_X3_readUnit_4_6 : GoodIn q_X3_readUnit_4 (wsV RX3 77 RX10 yX10_step q_X10_step) := goodIn_app (goodIn_r _ [65, 63, 64, 6] rfl (by decide +kernel)) (goodIn_ca (goodIn_r (.code yX10_step cX10_step 1 none :: [.fieldLink RX10 19 "LeftArguments$Tape" "at" "I"]) [62, 3] rfl (by decide +kernel)) (goodIn_sub (fun _ h => List.mem_cons_of_mem _ (List.mem_append_right _ h)) gwX10))
set_option maxRecDepth 20000 in
theorem g_X3_readUnit_4_8 : GoodIn q_X3_readUnit_4 (wsV RX3 66 RX3 yX3_write q_X3_write) := goodIn_app (goodIn_r _ [72, 70, 71, 69] rfl (by decide +kernel)) (goodIn_ca (goodIn_r (.code yX3_write cX3_write 3 none :: [.fieldLink RX3 15 "LeftArguments$LawReader" "used" "I", .fieldLink RX3 11 "LeftArguments$LawReader" "code" "[I"]) [66, 67, 68] rfl (by decide +kernel)) (goodIn_sub (fun _ h => List.mem_cons_of_mem _ (List.mem_append_left _ (List.mem_append_right _ h))) gwX3))
set_option maxRecDepth 20000 in
theorem g_X3_readUnit_4_11 : GoodIn q_X3_readUnit_4 (wsV RX3 80 RX3 yX3_readUnit q_X3_readUnit_3) := goodIn_app (goodIn_r _ [108, 106, 107, 69] rfl (by decide +kernel)) (goodIn_ca (goodIn_ca (goodIn_r (.code yX3_readUnit cX3_readUnit 5 (some .boolean) :: [.fieldLink RX3 19 "LeftArguments$LawReader" "tape" "LLeftArguments$Tape;", .code yX10_next cX10_next 1 (some .int), .fieldLink RX10 19 "LeftArguments$Tape" "at" "I", .fieldLink RX10 15 "LeftArguments$Tape" "used" "I", .fieldLink RX10 9 "LeftArguments$Tape" "bytes" "[I", .initialized RX10, .instanceMethod yX10_next, .selects RX10 yX10_next yX10_next, .methodLink RX3 48 yX10_next, .code yX3_readSum cX3_readSum 4 (some .boolean), .code yX3_readTerm cX3_readTerm 4 (some .boolean), .code yX3_readAtom cX3_readAtom 4 (some .boolean), .code yX10_isDigit cX10_isDigit 1 (some .boolean), .static yX10_isDigit, .methodLink RX3 92 yX10_isDigit, .code yX10_wrongHere cX10_wrongHere 1 (some .boolean), .fieldLink RX10 22 "LeftArguments$Tape" "wrongAt" "I", .instanceMethod yX10_wrongHere, .selects RX10 yX10_wrongHere yX10_wrongHere, .methodLink RX3 83 yX10_wrongHere, .code yJ0_indexOf_0f7a4 cJ0_indexOf_0f7a4 2 (some .int), .code yJ0_indexOf_7cf53 cJ0_indexOf_7cf53 3 (some .int), .code yJ0_isLatin1_aae02 cJ0_isLatin1_aae02 1 (some .boolean), .fieldLink RJ0 38 "java/lang/String" "COMPACT_STRINGS" "Z", .fieldLink RJ0 15 "java/lang/String" "coder" "B", .initialized RJ0, .instanceMethod yJ0_isLatin1_aae02, .selects RJ0 yJ0_isLatin1_aae02 yJ0_isLatin1_aae02, .methodLink RJ0 492 yJ0_isLatin1_aae02, .fieldLink RJ0 9 "java/lang/String" "value" "[B", .code yJ0_length_8abf5 cJ0_length_8abf5 1 (some .int), .code yJ0_coder_7d493 cJ0_coder_7d493 1 (some .byte), .instanceMethod yJ0_coder_7d493, .selects RJ0 yJ0_coder_7d493 yJ0_coder_7d493, .methodLink RJ0 335 yJ0_coder_7d493, .instanceMethod yJ0_length_8abf5, .selects RJ0 yJ0_length_8abf5 yJ0_length_8abf5, .methodLink RJ0 505 yJ0_length_8abf5, .code yJ1_indexOf_4cfef cJ1_indexOf_4cfef 4 (some .int), .code yJ1_canEncode_9a6ad cJ1_canEncode_9a6ad 1 (some .boolean), .initialized RJ1, .static yJ1_canEncode_9a6ad, .methodLink RJ1 88 yJ1_canEncode_9a6ad, .methodLink RJ1 92 Lib.Math.max.name, .static Lib.Math.max.name, .initialized "java/lang/Math", .code Lib.Math.max.name Lib.Math.max.code 2 (some .int), .methodLink RJ1 38 Lib.Math.min.name, .static Lib.Math.min.name, .code Lib.Math.min.name Lib.Math.min.code 2 (some .int), .code yJ1_indexOfChar_4cfef cJ1_indexOfChar_4cfef 6 (some .int), .static yJ1_indexOfChar_4cfef, .methodLink RJ1 95 yJ1_indexOfChar_4cfef, .static yJ1_indexOf_4cfef, .methodLink RJ0 637 yJ1_indexOf_4cfef, .instanceMethod yJ0_indexOf_7cf53, .selects RJ0 yJ0_indexOf_7cf53 yJ0_indexOf_7cf53, .methodLink RJ0 633 yJ0_indexOf_7cf53, .instanceMethod yJ0_indexOf_0f7a4, .selects RJ0 yJ0_indexOf_0f7a4 yJ0_indexOf_0f7a4, .methodLink RX3 103 yJ0_indexOf_0f7a4, .code yX10_step cX10_step 1 none, .instanceMethod yX10_step, .selects RX10 yX10_step yX10_step, .methodLink RX3 77 yX10_step, .code yX3_write cX3_write 3 none, .fieldLink RX3 15 "LeftArguments$LawReader" "used" "I", .fieldLink RX3 11 "LeftArguments$LawReader" "code" "[I", .initialized RX3, .instanceMethod yX3_write, .selects RX3 yX3_write yX3_write, .methodLink RX3 66 yX3_write, .code yX10_takeNumber cX10_takeNumber 3 (some .boolean), .methodLink RX10 37 yX10_next, .methodLink RX10 45 yX10_isDigit, .methodLink RX10 41 yX10_wrongHere, .fieldLink RX10 25 "LeftArguments$Tape" "number" "I", .code yX10_sign cX10_sign 1 (some .int), .instanceMethod yX10_sign, .selects RX10 yX10_sign yX10_sign, .methodLink RX10 49 yX10_sign, .instanceMethod yX10_takeNumber, .selects RX10 yX10_takeNumber yX10_takeNumber, .methodLink RX3 95 yX10_takeNumber, .code yX10_number cX10_number 1 (some .int), .instanceMethod yX10_number, .selects RX10 yX10_number yX10_number, .methodLink RX3 98 yX10_number, .instanceMethod yX3_readAtom, .selects RX3 yX3_readAtom yX3_readAtom, .methodLink RX3 89 yX3_readAtom, .instanceMethod yX3_readTerm, .selects RX3 yX3_readTerm yX3_readTerm, .methodLink RX3 86 yX3_readTerm, .instanceMethod yX3_readSum, .selects RX3 yX3_readSum yX3_readSum, .methodLink RX3 59 yX3_readSum, .code yX10_take cX10_take 2 (some .boolean), .instanceMethod yX10_take, .selects RX10 yX10_take yX10_take, .methodLink RX3 51 yX10_take, .code yX3_comparing cX3_comparing 1 (some .int), .static yX3_comparing, .methodLink RX3 62 yX3_comparing, .code yX3_readUnit cX3_readUnit 5 (some .boolean), .instanceMethod yX3_readUnit, .selects RX3 yX3_readUnit yX3_readUnit, .methodLink RX3 80 yX3_readUnit, .code yX3_readCondition cX3_readCondition 4 (some .boolean), .code yX3_readTruth cX3_readTruth 4 (some .boolean), .instanceMethod yX3_readTruth, .selects RX3 yX3_readTruth yX3_readTruth, .methodLink RX3 74 yX3_readTruth, .instanceMethod yX3_readCondition, .selects RX3 yX3_readCondition yX3_readCondition, .methodLink RX3 70 yX3_readCondition]) [105, 1, 2, 3, 4, 5, 6, 7, 8, 9, 10, 11, 12, 13, 14, 15, 16, 17, 18, 19, 20, 21, 22, 23, 24, 25, 26, 27, 28, 29, 30, 31, 32, 33, 34, 35, 36, 37, 38, 39, 40, 41, 42, 43, 44, 45, 46, 47, 48, 49, 50, 51, 52, 53, 54, 55, 56, 57, 58, 59, 60, 61, 62, 63, 64, 65, 66, 67, 68, 69, 70, 71, 72, 73, 74, 75, 76, 77, 78, 79, 80, 81, 82, 83, 84, 85, 86, 87, 88, 89, 90, 91, 92, 93, 94, 95, 96, 97, 98, 99, 100, 101, 102, 103, 104, 105, 106, 107, 108, 109, 110, 111, 112, 113, 114, 115, 116] rfl (by decide +kernel)) (goodIn_sub (fun _ h => List.mem_cons_of_mem _ (List.mem_append_left _ (List.mem_append_right _ h))) gwX3)) (goodIn_sub (fun _ h => List.mem_cons_of_mem _ (List.mem_append_right _ h)) gwX10))
set_option maxRecDepth 20000 in
theorem g_X3_readUnit_4_23 : GoodIn q_X3_readUnit_4 (wsV RX3 70 RX3 yX3_readCondition q_X3_readCondition_2) := goodIn_app (goodIn_r _ [116, 114, 115, 69] rfl (by decide +kernel)) (goodIn_ca (goodIn_ca (goodIn_r (.code yX3_readCondition cX3_readCondition 4 (some .boolean) :: [.code yX3_readTruth cX3_readTruth 4 (some .boolean), .code yX3_readUnit cX3_readUnit 5 (some .boolean), .fieldLink RX3 19 "LeftArguments$LawReader" "tape" "LLeftArguments$Tape;", .code yX10_next cX10_next 1 (some .int), .fieldLink RX10 19 "LeftArguments$Tape" "at" "I", .fieldLink RX10 15 "LeftArguments$Tape" "used" "I", .fieldLink RX10 9 "LeftArguments$Tape" "bytes" "[I", .initialized RX10, .instanceMethod yX10_next, .selects RX10 yX10_next yX10_next, .methodLink RX3 48 yX10_next, .code yX3_readSum cX3_readSum 4 (some .boolean), .code yX3_readTerm cX3_readTerm 4 (some .boolean), .code yX3_readAtom cX3_readAtom 4 (some .boolean), .code yX10_isDigit cX10_isDigit 1 (some .boolean), .static yX10_isDigit, .methodLink RX3 92 yX10_isDigit, .code yX10_wrongHere cX10_wrongHere 1 (some .boolean), .fieldLink RX10 22 "LeftArguments$Tape" "wrongAt" "I", .instanceMethod yX10_wrongHere, .selects RX10 yX10_wrongHere yX10_wrongHere, .methodLink RX3 83 yX10_wrongHere, .code yJ0_indexOf_0f7a4 cJ0_indexOf_0f7a4 2 (some .int), .code yJ0_indexOf_7cf53 cJ0_indexOf_7cf53 3 (some .int), .code yJ0_isLatin1_aae02 cJ0_isLatin1_aae02 1 (some .boolean), .fieldLink RJ0 38 "java/lang/String" "COMPACT_STRINGS" "Z", .fieldLink RJ0 15 "java/lang/String" "coder" "B", .initialized RJ0, .instanceMethod yJ0_isLatin1_aae02, .selects RJ0 yJ0_isLatin1_aae02 yJ0_isLatin1_aae02, .methodLink RJ0 492 yJ0_isLatin1_aae02, .fieldLink RJ0 9 "java/lang/String" "value" "[B", .code yJ0_length_8abf5 cJ0_length_8abf5 1 (some .int), .code yJ0_coder_7d493 cJ0_coder_7d493 1 (some .byte), .instanceMethod yJ0_coder_7d493, .selects RJ0 yJ0_coder_7d493 yJ0_coder_7d493, .methodLink RJ0 335 yJ0_coder_7d493, .instanceMethod yJ0_length_8abf5, .selects RJ0 yJ0_length_8abf5 yJ0_length_8abf5, .methodLink RJ0 505 yJ0_length_8abf5, .code yJ1_indexOf_4cfef cJ1_indexOf_4cfef 4 (some .int), .code yJ1_canEncode_9a6ad cJ1_canEncode_9a6ad 1 (some .boolean), .initialized RJ1, .static yJ1_canEncode_9a6ad, .methodLink RJ1 88 yJ1_canEncode_9a6ad, .methodLink RJ1 92 Lib.Math.max.name, .static Lib.Math.max.name, .initialized "java/lang/Math", .code Lib.Math.max.name Lib.Math.max.code 2 (some .int), .methodLink RJ1 38 Lib.Math.min.name, .static Lib.Math.min.name, .code Lib.Math.min.name Lib.Math.min.code 2 (some .int), .code yJ1_indexOfChar_4cfef cJ1_indexOfChar_4cfef 6 (some .int), .static yJ1_indexOfChar_4cfef, .methodLink RJ1 95 yJ1_indexOfChar_4cfef, .static yJ1_indexOf_4cfef, .methodLink RJ0 637 yJ1_indexOf_4cfef, .instanceMethod yJ0_indexOf_7cf53, .selects RJ0 yJ0_indexOf_7cf53 yJ0_indexOf_7cf53, .methodLink RJ0 633 yJ0_indexOf_7cf53, .instanceMethod yJ0_indexOf_0f7a4, .selects RJ0 yJ0_indexOf_0f7a4 yJ0_indexOf_0f7a4, .methodLink RX3 103 yJ0_indexOf_0f7a4, .code yX10_step cX10_step 1 none, .instanceMethod yX10_step, .selects RX10 yX10_step yX10_step, .methodLink RX3 77 yX10_step, .code yX3_write cX3_write 3 none, .fieldLink RX3 15 "LeftArguments$LawReader" "used" "I", .fieldLink RX3 11 "LeftArguments$LawReader" "code" "[I", .initialized RX3, .instanceMethod yX3_write, .selects RX3 yX3_write yX3_write, .methodLink RX3 66 yX3_write, .code yX10_takeNumber cX10_takeNumber 3 (some .boolean), .methodLink RX10 37 yX10_next, .methodLink RX10 45 yX10_isDigit, .methodLink RX10 41 yX10_wrongHere, .fieldLink RX10 25 "LeftArguments$Tape" "number" "I", .code yX10_sign cX10_sign 1 (some .int), .instanceMethod yX10_sign, .selects RX10 yX10_sign yX10_sign, .methodLink RX10 49 yX10_sign, .instanceMethod yX10_takeNumber, .selects RX10 yX10_takeNumber yX10_takeNumber, .methodLink RX3 95 yX10_takeNumber, .code yX10_number cX10_number 1 (some .int), .instanceMethod yX10_number, .selects RX10 yX10_number yX10_number, .methodLink RX3 98 yX10_number, .instanceMethod yX3_readAtom, .selects RX3 yX3_readAtom yX3_readAtom, .methodLink RX3 89 yX3_readAtom, .instanceMethod yX3_readTerm, .selects RX3 yX3_readTerm yX3_readTerm, .methodLink RX3 86 yX3_readTerm, .instanceMethod yX3_readSum, .selects RX3 yX3_readSum yX3_readSum, .methodLink RX3 59 yX3_readSum, .code yX10_take cX10_take 2 (some .boolean), .instanceMethod yX10_take, .selects RX10 yX10_take yX10_take, .methodLink RX3 51 yX10_take, .code yX3_comparing cX3_comparing 1 (some .int), .static yX3_comparing, .methodLink RX3 62 yX3_comparing, .instanceMethod yX3_readUnit, .selects RX3 yX3_readUnit yX3_readUnit, .methodLink RX3 80 yX3_readUnit, .code yX3_readCondition cX3_readCondition 4 (some .boolean), .instanceMethod yX3_readTruth, .selects RX3 yX3_readTruth yX3_readTruth, .methodLink RX3 74 yX3_readTruth, .instanceMethod yX3_readCondition, .selects RX3 yX3_readCondition yX3_readCondition, .methodLink RX3 70 yX3_readCondition]) [109, 110, 105, 1, 2, 3, 4, 5, 6, 7, 8, 9, 10, 11, 12, 13, 14, 15, 16, 17, 18, 19, 20, 21, 22, 23, 24, 25, 26, 27, 28, 29, 30, 31, 32, 33, 34, 35, 36, 37, 38, 39, 40, 41, 42, 43, 44, 45, 46, 47, 48, 49, 50, 51, 52, 53, 54, 55, 56, 57, 58, 59, 60, 61, 62, 63, 64, 65, 66, 67, 68, 69, 70, 71, 72, 73, 74, 75, 76, 77, 78, 79, 80, 81, 82, 83, 84, 85, 86, 87, 88, 89, 90, 91, 92, 93, 94, 95, 96, 97, 98, 99, 100, 101, 102, 103, 104, 106, 107, 108, 109, 111, 112, 113, 114, 115, 116] rfl (by decide +kernel)) (goodIn_sub (fun _ h => List.mem_cons_of_mem _ (List.mem_append_left _ (List.mem_append_right _ h))) gwX3)) (goodIn_sub (fun _ h => List.mem_cons_of_mem _ (List.mem_append_right _ h)) gwX10))
set_option maxRecDepth 20000 in
theorem g_X3_readUnit_4_24 : GoodIn q_X3_readUnit_4 (wsV RX3 51 RX10 yX10_take q_X10_take_3) := goodIn_app (goodIn_r _ [101, 99, 100, 6] rfl (by decide +kernel)) (goodIn_ca (goodIn_r (.code yX10_take cX10_take 2 (some .boolean) :: [.code yX10_next cX10_next 1 (some .int), .fieldLink RX10 19 "LeftArguments$Tape" "at" "I", .fieldLink RX10 15 "LeftArguments$Tape" "used" "I", .fieldLink RX10 9 "LeftArguments$Tape" "bytes" "[I", .initialized RX10, .instanceMethod yX10_next, .selects RX10 yX10_next yX10_next, .methodLink RX10 37 yX10_next, .code yX10_wrongHere cX10_wrongHere 1 (some .boolean), .fieldLink RX10 22 "LeftArguments$Tape" "wrongAt" "I", .instanceMethod yX10_wrongHere, .selects RX10 yX10_wrongHere yX10_wrongHere, .methodLink RX10 41 yX10_wrongHere]) [98, 2, 3, 4, 5, 6, 7, 8, 74, 16, 17, 18, 19, 76] rfl (by decide +kernel)) (goodIn_sub (fun _ h => List.mem_cons_of_mem _ (List.mem_append_right _ h)) gwX10))
set_option maxHeartbeats 4000000 in
set_option maxRecDepth 100000 in
theorem k_X3_readUnit_4 (l : Launch) (dC : Nat → ClassId) (dI : Nat → Nat → Nat) (adK : Nat → Nat) (adV : Nat → Nat) (h0 : Nat) (h1 : Nat) (h2 : Nat) (h3 : Nat) (v0 : Int32) (v1 : Int32) (v2 : Int32) (v3 : Int32) (v4 : Int32) (g0 : ClassId) (f5 : Nat → Int32) (g1 : ClassId) (f6 : Nat → Int32) (i_v0 : 0 ≤ v0.toInt ∧ v0.toInt ≤ 256) (i_v1 : 0 ≤ v1.toInt ∧ v1.toInt ≤ 240) (i_v2 : 0 ≤ v2.toInt ∧ v2.toInt ≤ 240) (ia_f5 : (∀ j, 0 ≤ (f5 j).toInt ∧ (f5 j).toInt ≤ 255)) (sz : Nat) : Met l yX3_readUnit q_X3_readUnit_4 ({ frames := 16, cells := 0, slots := 0, locals := 370 }) (va_Pc [.ref h0, .int 3, .int 0] (fun U => U.heap.size = sz ∧ va_P (dC, dI) vwCl (wd_1ad0248d h0 h1 h3 v0 h1 h2 v1 v2 v3 v4 h2 g0 f5 h3 g1 f6) U.heap ∧ va_K (dC, dI) vwCl [(g0, .int), (g1, .int)] U ∧ va_D (fun _ => True) (wd_1ad0248d h0 h1 h3 v0 h1 h2 v1 v2 v3 v4 h2 g0 f5 h3 g1 f6) ∧ vk_R RX3 101 "zaondt" (adK 2) U ∧ va_Z "java/lang/String" "COMPACT_STRINGS" "Z" (.int 1) (va_A (wd_1ad0248d h0 h1 h3 v0 h1 h2 v1 v2 v3 v4 h2 g0 f5 h3 g1 f6) sz) U U.heap ∧ vk_S 3 pv_len3 pv_byt3 adK adV (va_A (wd_1ad0248d h0 h1 h3 v0 h1 h2 v1 v2 v3 v4 h2 g0 f5 h3 g1 f6) sz) U U.heap)) (va_Qi (fun (r : Int32) (r9 : Int32) => r9 = r) (fun (r : Int32) (t : State) => (∃ (o_h0_2 : Int32) (o_h1_2 : Int32) (o_h1_4 : Int32) (o_h3 : Nat → Int32), 0 ≤ o_h0_2.toInt ∧ o_h0_2.toInt ≤ 256 ∧ 0 ≤ o_h1_2.toInt ∧ o_h1_2.toInt ≤ 240 ∧ (1 ≤ r.toInt) ∧ (r.toInt ≤ 1) ∧ (v2.toInt ≤ o_h1_2.toInt) ∧ (pg_unit f5 v1.toInt 3 v2.toInt = (true, o_h1_2.toInt)) ∧ va_P (dC, dI) vwCl (wd_1ad0248d h0 h1 h3 o_h0_2 h1 h2 v1 o_h1_2 v3 o_h1_4 h2 g0 f5 h3 g1 o_h3) t.heap ∧ va_K (dC, dI) vwCl [] t ∧ va_D (va_A (wd_1ad0248d h0 h1 h3 v0 h1 h2 v1 v2 v3 v4 h2 g0 f5 h3 g1 f6) sz) (wd_1ad0248d h0 h1 h3 o_h0_2 h1 h2 v1 o_h1_2 v3 o_h1_4 h2 g0 f5 h3 g1 o_h3)) ∨ (∃ (o_h0_2 : Int32) (o_h1_2 : Int32) (o_h1_3 : Int32) (o_h1_4 : Int32) (o_h3 : Nat → Int32), 0 ≤ o_h0_2.toInt ∧ o_h0_2.toInt ≤ 256 ∧ 0 ≤ o_h1_2.toInt ∧ o_h1_2.toInt ≤ 240 ∧ 0 ≤ o_h1_3.toInt ∧ o_h1_3.toInt ≤ 240 ∧ (0 ≤ r.toInt) ∧ (r.toInt ≤ 0) ∧ (v2.toInt ≤ o_h1_2.toInt) ∧ (pg_unit f5 v1.toInt 3 v2.toInt = (false, o_h1_3.toInt)) ∧ va_P (dC, dI) vwCl (wd_1ad0248d h0 h1 h3 o_h0_2 h1 h2 v1 o_h1_2 o_h1_3 o_h1_4 h2 g0 f5 h3 g1 o_h3) t.heap ∧ va_K (dC, dI) vwCl [] t ∧ va_D (va_A (wd_1ad0248d h0 h1 h3 v0 h1 h2 v1 v2 v3 v4 h2 g0 f5 h3 g1 f6) sz) (wd_1ad0248d h0 h1 h3 o_h0_2 h1 h2 v1 o_h1_2 o_h1_3 o_h1_4 h2 g0 f5 h3 g1 o_h3))) (va_A (wd_1ad0248d h0 h1 h3 v0 h1 h2 v1 v2 v3 v4 h2 g0 f5 h3 g1 f6) sz)) 0 0 (va_A (wd_1ad0248d h0 h1 h3 v0 h1 h2 v1 v2 v3 v4 h2 g0 f5 h3 g1 f6) sz) := by
  refine Met.ofW (cc := cX3_readUnit) (maxL := 5) (ret := (some .boolean)) (by decide) rfl ?_
  intro p e s m args below meth c s₁ B hml hv
  obtain ⟨i_v0a, i_v0b⟩ := i_v0
  obtain ⟨i_v1a, i_v1b⟩ := i_v1
  obtain ⟨i_v2a, i_v2b⟩ := i_v2
  obtain ⟨rfl, hsz, hP, hK, hD0, h_vr_2, h_st_CS, h_st_S⟩ := hv
  have hx := B.exec
  have hb := B.bytes
  have hr := B.returns
  have hts := atoms_spec (ws := q_X3_readUnit_4) B.pre
  have hown : s.vm.findClass RX3 = some m.cls := findClass_of_methodNamed B.named
  have hlocks := B.notSynchronized
  subst hsz
  have hD := hD0.self (sz := s.heap.size)
  generalize hAe : va_A (wd_1ad0248d h0 h1 h3 v0 h1 h2 v1 v2 v3 v4 h2 g0 f5 h3 g1 f6) s.heap.size = A at hD h_st_CS h_st_S ⊢
  have hA : ∀ q : Nat, s.heap.size ≤ q → A q := fun q h => by rw [← hAe]; exact Or.inr h
  have hS : va_S A s.heap s.heap [] := va_S.rf
  generalize hQ : (MQ below _ _ s 0 0 A) = Q
  have hl := lv_entry ([.ref h0, .int 3, .int 0]) (n := 5) (Nat.le_of_ble_eq_true rfl)
  rw [lg_entry_eq]
  generalize (lg_sl ([.ref h0, .int 3, .int 0]) ++ List.replicate (5 - (lg_sl ([.ref h0, .int 3, .int 0])).length) Slot.unset).toArray = ls at hl ⊢
  have hl : lv_has ls 5 [(0, .ref h0), (1, .int 3), (2, .int 0)] := hl
  obtain ⟨H, hH⟩ : ∃ H : Heap, H = s.heap := ⟨_, rfl⟩
  obtain ⟨locs, hlocs⟩ : ∃ y : List Loc, y = [] := ⟨_, rfl⟩
  have hS : va_S A s.heap H locs := by rw [hH, hlocs]; exact va_S.rf
  have hP : va_P (dC, dI) vwCl (wd_1ad0248d h0 h1 h3 v0 h1 h2 v1 v2 v3 v4 h2 g0 f5 h3 g1 f6) H := by rw [hH]; exact hP
  rw [← hH, ← hlocs]
  refine lv_aload_n hx hb dX3_readUnit_0 rfl (lv_at hl 0 rfl) ?_
  refine va_get (D := (dC, dI)) (ci := 3) (v := .ref h1) (C := RX3) (T := TX3) (N := 3) hx hb hts (fun _ h => List.mem_cons_of_mem _ (List.mem_append_left _ (List.mem_append_right _ h))) hown hK hP 0 rfl rfl 0 (by decide) (hts (.fieldLink RX3 19 "LeftArguments$LawReader" "tape" "LLeftArguments$Tape;") (List.mem_cons_of_mem _ (List.mem_append_left _ (List.mem_append_left _ (List.mem_of_getElem? (i := 0) rfl))))) (fun _ h9 => h9) rfl dX3_readUnit_1 ?_
  have hPc := hP.sub (ws' := (wd_82cdd16b h1 h2 v1 v2 v3 v4 h2 g0 f5)) [1, 2] rfl
  have hDc := hD.sub (ws' := (wd_82cdd16b h1 h2 v1 v2 v3 v4 h2 g0 f5)) [1, 2] (by decide) rfl
  have hKc := hK.sub (tys' := [(g0, .int)]) [0] rfl
  have hFc := va_free (wc := (wd_82cdd16b h1 h2 v1 v2 v3 v4 h2 g0 f5)) hD hS hA [1, 2] rfl
  refine va_calli (va_runV (As := []) (rest := []) ⟨hx, hb, hml, hown, hts⟩ (k_X10_next l dC dI h1 h2 v1 v2 v3 v4 g0 f5 ⟨i_v1a, i_v1b⟩ ⟨i_v2a, i_v2b⟩ ia_f5 H.size) (cwV 0 hts g_X3_readUnit_4_0 rfl rfl rfl (by decide +kernel) ⟨Nat.le_of_ble_eq_true rfl, Nat.le_of_ble_eq_true rfl⟩) (pv_PV10 hPc hKc hDc (q0 := 0) rfl) rfl rfl hl.1 rfl (lv_room (Nat.le_of_ble_eq_true rfl)) dX3_readUnit_4 ⟨Nat.le_of_ble_eq_true rfl, Nat.le_of_ble_eq_true rfl⟩) hS (fun q _ h => hFc q h) hFc (fun ra1 u t H1 locs ht hvm hwra1 hB hz1 hk1 hS => ?_)
  try rw [hwra1] at hB
  rcases hB with hB | hB
  · skip
    obtain ⟨x2, oa_x2, ob_x2, pt0_ra1, pt1_ra1, pt2_ra1, pt3_ra1, pt4_ra1, pt5_ra1, pt6_ra1, hP1, hK1, hD1⟩ := hB
    rw [ht] at hP1
    obtain ⟨hP2, hD2⟩ := va_join (wr := (wd_b958b9da h0 h1 h3 v0 h3 g1 f6)) (w1 := (wd_82cdd16b h1 h2 v1 x2 v3 v4 h2 g0 f5)) hP hD [1, 2] [0, 3] rfl rfl (by decide) (by decide) hk1 hFc hP1 hD1
    clear hP hD hPc hDc hKc hFc hP1 hK1 hD1 hk1 hz1
    generalize H1 = H at hP2 hS ⊢
    have hP := hP2.sub (ws' := (wd_1ad0248d h0 h1 h3 v0 h1 h2 v1 x2 v3 v4 h2 g0 f5 h3 g1 f6)) [0, 2, 3, 1] rfl
    have hD := hD2.sub (ws' := (wd_1ad0248d h0 h1 h3 v0 h1 h2 v1 x2 v3 v4 h2 g0 f5 h3 g1 f6)) [0, 2, 3, 1] (by decide) rfl
    clear hP2 hD2
    obtain rfl : ra1 = ((-1) : Int32) := pv_cs (by decide) pt0_ra1 pt1_ra1
    refine lv_istore_n (lv' := [(3, .int (-1)), (0, .ref h0), (1, .int 3), (2, .int 0)]) hx hb dX3_readUnit_7 rfl hl (by decide) rfl (fun ls hl => ?_)
    refine lv_iload_n hx hb dX3_readUnit_8 rfl (lv_at hl 3 rfl) ?_
    refine lv_if_ne (tgt := 102) hx hb dX3_readUnit_9 (by decide) (fun c => absurd (by decide) c) (fun _ => ?_)
    refine lv_iload_n hx hb dX3_readUnit_12 rfl (lv_at hl 0 rfl) ?_
    refine lv_bipush (v := 33) hx hb dX3_readUnit_13 (by decide) ?_
    refine lv_icmp_eq (tgt := 24) hx hb dX3_readUnit_15 (by decide) (fun c => absurd c (by decide)) (fun _ => ?_)
    refine lv_iload_n hx hb dX3_readUnit_18 rfl (lv_at hl 0 rfl) ?_
    refine lv_bipush (v := 40) hx hb dX3_readUnit_19 (by decide) ?_
    refine lv_icmp_ne (tgt := 102) hx hb dX3_readUnit_21 (by decide) (fun _ => ?_) (fun c => absurd c (by decide))
    refine lv_iload_n hx hb dX3_readUnit_102 rfl (lv_at hl 3 rfl) ?_
    refine lv_if_ne (tgt := 116) hx hb dX3_readUnit_103 (by decide) (fun c => absurd (by decide) c) (fun _ => ?_)
    refine lv_aload_n hx hb dX3_readUnit_106 rfl (lv_at hl 1 rfl) ?_
    refine lv_iload_n hx hb dX3_readUnit_107 rfl (lv_at hl 2 rfl) ?_
    have hPc := hP.sub (ws' := (wd_1ad0248d h0 h1 h3 v0 h1 h2 v1 x2 v3 v4 h2 g0 f5 h3 g1 f6)) [0, 1, 2, 3] rfl
    have hDc := hD.sub (ws' := (wd_1ad0248d h0 h1 h3 v0 h1 h2 v1 x2 v3 v4 h2 g0 f5 h3 g1 f6)) [0, 1, 2, 3] (by decide) rfl
    have hKc := hK.sub (tys' := [(g0, .int), (g1, .int)]) [0, 1] rfl
    have hFc := va_free (wc := (wd_1ad0248d h0 h1 h3 v0 h1 h2 v1 x2 v3 v4 h2 g0 f5 h3 g1 f6)) hD hS hA [0, 1, 2, 3] rfl
    refine va_calli (va_runV (As := [.int 3]) (rest := []) ⟨hx, hb, hml, hown, hts⟩ (k_X3_readSum_3 l dC dI adK adV h0 h1 h2 h3 v0 v1 x2 v3 v4 g0 f5 g1 f6 ⟨i_v0a, i_v0b⟩ ⟨i_v1a, i_v1b⟩ ⟨oa_x2, ob_x2⟩ ia_f5 H.size) (cwV 1 hts g_X3_readUnit_4_1 rfl rfl rfl (by decide +kernel) ⟨Nat.le_of_ble_eq_true rfl, Nat.le_of_ble_eq_true rfl⟩) ⟨fun a U g mk q => by obtain ⟨q0, q1, qP, qK, qD, n0, n1, n2⟩ := q; exact ⟨q0, q1, qP, va_K.moved (u := U) (U := U.calling g mk a) (Vm.Alike.refl U.vm) qK, qD, vk_R.same rfl n0, va_Z.moved (Vm.Alike.refl _) n1, vk_S.moved (Vm.Alike.refl _) n2⟩, pv_rc3 hKc hPc (q0 := 0) rfl, fun U hU hW => ⟨rfl, by rw [hU], by rw [hU]; exact hPc, va_K.moved hW.alike hKc, hDc.weaken (fun _ _ _ _ => trivial), vk_R.warm hW h_vr_2, (by rw [hU]; exact (va_Z.moved hW.alike (va_Z.kept h_st_CS hS.2.1)).narrow hFc), (by rw [hU]; exact (vk_S.moved hW.alike (vk_S.kept h_st_S hS.2.1)).narrow hFc)⟩⟩ rfl rfl hl.1 rfl (lv_room (Nat.le_of_ble_eq_true rfl)) dX3_readUnit_108 ⟨Nat.le_of_ble_eq_true rfl, Nat.le_of_ble_eq_true rfl⟩) hS (fun q _ h => hFc q h) hFc (fun ra3 u t H1 locs ht hvm hwra3 hB hz1 hk1 hS => ?_)
    try rw [hwra3] at hB
    rcases hB with hB | hB
    · skip
      obtain ⟨x4, x5, x6, fn7, oa_x4, ob_x4, oa_x5, ob_x5, pt0_ra3, pt1_ra3, pt2_ra3, pt3_ra3, hP1, hK1, hD1⟩ := hB
      rw [ht] at hP1
      obtain ⟨hP2, hD2⟩ := va_join (wr := []) (w1 := (wd_1ad0248d h0 h1 h3 x4 h1 h2 v1 x5 v3 x6 h2 g0 f5 h3 g1 fn7)) hP hD [0, 1, 2, 3] [] rfl rfl (by decide) (by decide) hk1 hFc hP1 hD1
      clear hP hD hPc hDc hKc hFc hP1 hK1 hD1 hk1 hz1
      generalize H1 = H at hP2 hS ⊢
      have hP : va_P (dC, dI) vwCl (wd_1ad0248d h0 h1 h3 x4 h1 h2 v1 x5 v3 x6 h2 g0 f5 h3 g1 fn7) H := hP2
      have hD : va_D A (wd_1ad0248d h0 h1 h3 x4 h1 h2 v1 x5 v3 x6 h2 g0 f5 h3 g1 fn7) := hD2
      clear hP2 hD2
      obtain rfl : ra3 = (1 : Int32) := pv_cs (by decide) pt0_ra3 pt1_ra3
      refine lv_if_ne (tgt := 116) hx hb dX3_readUnit_111 (by decide) (fun _ => ?_) (fun c => absurd c (by decide))
      refine lv_aload_n hx hb dX3_readUnit_116 rfl (lv_at hl 1 rfl) ?_
      refine va_get (D := (dC, dI)) (ci := 3) (v := .ref h1) (C := RX3) (T := TX3) (N := 3) hx hb hts (fun _ h => List.mem_cons_of_mem _ (List.mem_append_left _ (List.mem_append_right _ h))) hown hK hP 0 rfl rfl 0 (by decide) (hts (.fieldLink RX3 19 "LeftArguments$LawReader" "tape" "LLeftArguments$Tape;") (List.mem_cons_of_mem _ (List.mem_append_left _ (List.mem_append_left _ (List.mem_of_getElem? (i := 0) rfl))))) (fun _ h9 => h9) rfl dX3_readUnit_117 ?_
      have hPc := hP.sub (ws' := (wd_82cdd16b h1 h2 v1 x5 v3 x6 h2 g0 f5)) [1, 2] rfl
      have hDc := hD.sub (ws' := (wd_82cdd16b h1 h2 v1 x5 v3 x6 h2 g0 f5)) [1, 2] (by decide) rfl
      have hKc := hK.sub (tys' := [(g0, .int)]) [0] rfl
      have hFc := va_free (wc := (wd_82cdd16b h1 h2 v1 x5 v3 x6 h2 g0 f5)) hD hS hA [1, 2] rfl
      refine va_calli (va_runV (As := []) (rest := []) ⟨hx, hb, hml, hown, hts⟩ (k_X10_next l dC dI h1 h2 v1 x5 v3 x6 g0 f5 ⟨i_v1a, i_v1b⟩ ⟨oa_x5, ob_x5⟩ ia_f5 H.size) (cwV 0 hts g_X3_readUnit_4_0 rfl rfl rfl (by decide +kernel) ⟨Nat.le_of_ble_eq_true rfl, Nat.le_of_ble_eq_true rfl⟩) (pv_PV10 hPc hKc hDc (q0 := 0) rfl) rfl rfl hl.1 rfl (lv_room (Nat.le_of_ble_eq_true rfl)) dX3_readUnit_120 ⟨Nat.le_of_ble_eq_true rfl, Nat.le_of_ble_eq_true rfl⟩) hS (fun q _ h => hFc q h) hFc (fun ra8 u t H1 locs ht hvm hwra8 hB hz1 hk1 hS => ?_)
      try rw [hwra8] at hB
      rcases hB with hB | hB
      · skip
        obtain ⟨x9, oa_x9, ob_x9, pt0_ra8, pt1_ra8, pt2_ra8, pt3_ra8, pt4_ra8, pt5_ra8, pt6_ra8, hP1, hK1, hD1⟩ := hB
        rw [ht] at hP1
        obtain ⟨hP2, hD2⟩ := va_join (wr := (wd_b958b9da h0 h1 h3 x4 h3 g1 fn7)) (w1 := (wd_82cdd16b h1 h2 v1 x9 v3 x6 h2 g0 f5)) hP hD [1, 2] [0, 3] rfl rfl (by decide) (by decide) hk1 hFc hP1 hD1
        clear hP hD hPc hDc hKc hFc hP1 hK1 hD1 hk1 hz1
        generalize H1 = H at hP2 hS ⊢
        have hP := hP2.sub (ws' := (wd_1ad0248d h0 h1 h3 x4 h1 h2 v1 x9 v3 x6 h2 g0 f5 h3 g1 fn7)) [0, 2, 3, 1] rfl
        have hD := hD2.sub (ws' := (wd_1ad0248d h0 h1 h3 x4 h1 h2 v1 x9 v3 x6 h2 g0 f5 h3 g1 fn7)) [0, 2, 3, 1] (by decide) rfl
        clear hP2 hD2
        obtain rfl : ra8 = ((-1) : Int32) := pv_cs (by decide) pt0_ra8 pt1_ra8
        have hPc := hP.sub (ws' := []) [] rfl
        have hDc := hD.sub (ws' := []) [] (by decide) rfl
        have hKc := hK.sub (tys' := []) [] rfl
        have hFc := va_free (wc := []) hD hS hA [] rfl
        refine va_calli (va_runS (As := [.int (-1)]) (rest := []) ⟨hx, hb, hml, hown, hts⟩ (k_X3_comparing l dC dI   H.size) (va_cwS 1 hts g_X3_readUnit_4_3 rfl rfl rfl (by decide +kernel) ⟨Nat.le_of_ble_eq_true rfl, Nat.le_of_ble_eq_true rfl⟩) (pv_PS hPc hKc hDc) rfl rfl hl.1 rfl (lv_room (Nat.le_of_ble_eq_true rfl)) dX3_readUnit_123 ⟨Nat.le_of_ble_eq_true rfl, Nat.le_of_ble_eq_true rfl⟩) hS (fun q _ h => hFc q h) hFc (fun ra10 u t H1 locs ht hvm hwra10 hB hz1 hk1 hS => ?_)
        try rw [hwra10] at hB
        obtain ⟨pt0_ra10, pt1_ra10, hP1, hK1, hD1⟩ := hB
        rw [ht] at hP1
        obtain ⟨hP2, hD2⟩ := va_join (wr := (wd_1ad0248d h0 h1 h3 x4 h1 h2 v1 x9 v3 x6 h2 g0 f5 h3 g1 fn7)) (w1 := []) hP hD [] [0, 1, 2, 3] rfl rfl (by decide) (by decide) hk1 hFc hP1 hD1
        clear hP hD hPc hDc hKc hFc hP1 hK1 hD1 hk1 hz1
        generalize H1 = H at hP2 hS ⊢
        have hP : va_P (dC, dI) vwCl (wd_1ad0248d h0 h1 h3 x4 h1 h2 v1 x9 v3 x6 h2 g0 f5 h3 g1 fn7) H := hP2
        have hD : va_D A (wd_1ad0248d h0 h1 h3 x4 h1 h2 v1 x9 v3 x6 h2 g0 f5 h3 g1 fn7) := hD2
        clear hP2 hD2
        obtain rfl : ra10 = ((-1) : Int32) := pv_cs (by decide) pt0_ra10 pt1_ra10
        refine lv_istore (lv' := [(4, .int (-1)), (3, .int (-1)), (0, .ref h0), (1, .int 3), (2, .int 0)]) hx hb dX3_readUnit_126 hl (by decide) rfl (fun ls hl => ?_)
        refine lv_iload hx hb dX3_readUnit_128 (lv_at hl 0 rfl) ?_
        refine lv_iconst (v := (-1)) hx hb dX3_readUnit_130 (by decide) ?_
        refine lv_icmp_ne (tgt := 142) hx hb dX3_readUnit_131 (by decide) (fun c => absurd (by decide) c) (fun _ => ?_)
        refine lv_aload_n hx hb dX3_readUnit_134 rfl (lv_at hl 2 rfl) ?_
        refine va_get (D := (dC, dI)) (ci := 3) (v := .ref h1) (C := RX3) (T := TX3) (N := 3) hx hb hts (fun _ h => List.mem_cons_of_mem _ (List.mem_append_left _ (List.mem_append_right _ h))) hown hK hP 0 rfl rfl 0 (by decide) (hts (.fieldLink RX3 19 "LeftArguments$LawReader" "tape" "LLeftArguments$Tape;") (List.mem_cons_of_mem _ (List.mem_append_left _ (List.mem_append_left _ (List.mem_of_getElem? (i := 0) rfl))))) (fun _ h9 => h9) rfl dX3_readUnit_135 ?_
        have hPc := hP.sub (ws' := (wd_09b0abee h1 h2 v1 x9 v3 x6)) [1] rfl
        have hDc := hD.sub (ws' := (wd_09b0abee h1 h2 v1 x9 v3 x6)) [1] (by decide) rfl
        have hKc := hK.sub (tys' := []) [] rfl
        have hFc := va_free (wc := (wd_09b0abee h1 h2 v1 x9 v3 x6)) hD hS hA [1] rfl
        refine va_calli (va_runV (As := []) (rest := []) ⟨hx, hb, hml, hown, hts⟩ (k_X10_wrongHere l dC dI h1 h2 v1 x9 v3 x6 ⟨i_v1a, i_v1b⟩ ⟨oa_x9, ob_x9⟩ H.size) (cwV 0 hts g_X3_readUnit_4_4 rfl rfl rfl (by decide +kernel) ⟨Nat.le_of_ble_eq_true rfl, Nat.le_of_ble_eq_true rfl⟩) (pv_PV10 hPc hKc hDc (q0 := 0) rfl) rfl rfl hl.1 rfl (lv_room (Nat.le_of_ble_eq_true rfl)) dX3_readUnit_138 ⟨Nat.le_of_ble_eq_true rfl, Nat.le_of_ble_eq_true rfl⟩) hS (fun q _ h => hFc q h) hFc (fun ra11 u t H1 locs ht hvm hwra11 hB hz1 hk1 hS => ?_)
        try rw [hwra11] at hB
        obtain ⟨x12, oa_x12, ob_x12, pt0_ra11, pt1_ra11, pt2_ra11, hP1, hK1, hD1⟩ := hB
        rw [ht] at hP1
        obtain ⟨hP2, hD2⟩ := va_join (wr := (wd_6b0d8e05 h0 h1 h3 x4 h2 g0 f5 h3 g1 fn7)) (w1 := (wd_09b0abee h1 h2 v1 x9 x12 x6)) hP hD [1] [0, 2, 3] rfl rfl (by decide) (by decide) hk1 hFc hP1 hD1
        clear hP hD hPc hDc hKc hFc hP1 hK1 hD1 hk1 hz1
        generalize H1 = H at hP2 hS ⊢
        have hP := hP2.sub (ws' := (wd_1ad0248d h0 h1 h3 x4 h1 h2 v1 x9 x12 x6 h2 g0 f5 h3 g1 fn7)) [0, 3, 1, 2] rfl
        have hD := hD2.sub (ws' := (wd_1ad0248d h0 h1 h3 x4 h1 h2 v1 x9 x12 x6 h2 g0 f5 h3 g1 fn7)) [0, 3, 1, 2] (by decide) rfl
        clear hP2 hD2
        obtain rfl : ra11 = (0 : Int32) := pv_cs (by decide) pt0_ra11 pt1_ra11
        subst hQ
        have hP9 := hP.sub (ws' := (wd_1ad0248d h0 h1 h3 x4 h1 h2 v1 x9 x12 x6 h2 g0 f5 h3 g1 fn7)) [0, 1, 2, 3] rfl
        have hD9 := hD.sub (ws' := (wd_1ad0248d h0 h1 h3 x4 h1 h2 v1 x9 x12 x6 h2 g0 f5 h3 g1 fn7)) [0, 1, 2, 3] (by decide) rfl
        have hK9 := hK.sub (tys' := []) [] rfl
        exact W.zret (v := 0) hx hb hr rfl (fun t ht hW => ⟨⟨0, 0, rfl, rfl, Or.inr (⟨x4, x9, x12, x6, fn7, oa_x4, ob_x4, oa_x9, ob_x9, oa_x12, ob_x12, by first | omega | decide, by first | omega | decide, by omega, by show pg_unitF f5 v1.toInt 3 true (pg_unit f5 v1.toInt 2) (pg_con f5 v1.toInt (pg_unit f5 v1.toInt 2)) _ = _; first | (apply pg_unitF.not <;> first | assumption | omega) | (apply pg_unitF.par1 <;> first | assumption | omega) | (apply pg_unitF.par0 <;> first | assumption | omega) | (apply pg_unitF.deep <;> first | assumption | omega) | (apply pg_unitF.sm1 <;> first | assumption | omega) | (apply pg_unitF.sm2 <;> first | assumption | omega) | (apply pg_unitF.sum0 <;> first | assumption | omega), by rw [ht]; exact hP9, va_K.moved hW.alike hK9, hD9⟩)⟩, hS.F ht⟩) hS.2.2 dX3_readUnit_141
      · skip
        obtain ⟨x13, oa_x13, ob_x13, pt0_ra8, pt1_ra8, pt2_ra8, pt3_ra8, pt4_ra8, pt5_ra8, pt6_ra8, hP1, hK1, hD1⟩ := hB
        rw [ht] at hP1
        obtain ⟨hP2, hD2⟩ := va_join (wr := (wd_b958b9da h0 h1 h3 x4 h3 g1 fn7)) (w1 := (wd_82cdd16b h1 h2 v1 x13 v3 x6 h2 g0 f5)) hP hD [1, 2] [0, 3] rfl rfl (by decide) (by decide) hk1 hFc hP1 hD1
        clear hP hD hPc hDc hKc hFc hP1 hK1 hD1 hk1 hz1
        generalize H1 = H at hP2 hS ⊢
        have hP := hP2.sub (ws' := (wd_1ad0248d h0 h1 h3 x4 h1 h2 v1 x13 v3 x6 h2 g0 f5 h3 g1 fn7)) [0, 2, 3, 1] rfl
        have hD := hD2.sub (ws' := (wd_1ad0248d h0 h1 h3 x4 h1 h2 v1 x13 v3 x6 h2 g0 f5 h3 g1 fn7)) [0, 2, 3, 1] (by decide) rfl
        clear hP2 hD2
        have hPc := hP.sub (ws' := []) [] rfl
        have hDc := hD.sub (ws' := []) [] (by decide) rfl
        have hKc := hK.sub (tys' := []) [] rfl
        have hFc := va_free (wc := []) hD hS hA [] rfl
        refine va_calli (va_runS (As := [.int ra8]) (rest := []) ⟨hx, hb, hml, hown, hts⟩ (k_X3_comparing_1 l dC dI ra8  H.size) (va_cwS 1 hts g_X3_readUnit_4_5 rfl rfl rfl (by decide +kernel) ⟨Nat.le_of_ble_eq_true rfl, Nat.le_of_ble_eq_true rfl⟩) (pv_PS hPc hKc hDc) rfl rfl hl.1 rfl (lv_room (Nat.le_of_ble_eq_true rfl)) dX3_readUnit_123 ⟨Nat.le_of_ble_eq_true rfl, Nat.le_of_ble_eq_true rfl⟩) hS (fun q _ h => hFc q h) hFc (fun ra14 u t H1 locs ht hvm hwra14 hB hz1 hk1 hS => ?_)
        try rw [hwra14] at hB
        obtain ⟨pt0_ra14, pt1_ra14, pt2_ra14, hP1, hK1, hD1⟩ := hB
        rw [ht] at hP1
        obtain ⟨hP2, hD2⟩ := va_join (wr := (wd_1ad0248d h0 h1 h3 x4 h1 h2 v1 x13 v3 x6 h2 g0 f5 h3 g1 fn7)) (w1 := []) hP hD [] [0, 1, 2, 3] rfl rfl (by decide) (by decide) hk1 hFc hP1 hD1
        clear hP hD hPc hDc hKc hFc hP1 hK1 hD1 hk1 hz1
        generalize H1 = H at hP2 hS ⊢
        have hP : va_P (dC, dI) vwCl (wd_1ad0248d h0 h1 h3 x4 h1 h2 v1 x13 v3 x6 h2 g0 f5 h3 g1 fn7) H := hP2
        have hD : va_D A (wd_1ad0248d h0 h1 h3 x4 h1 h2 v1 x13 v3 x6 h2 g0 f5 h3 g1 fn7) := hD2
        clear hP2 hD2
        refine lv_istore (lv' := [(4, .int ra14), (3, .int (-1)), (0, .ref h0), (1, .int 3), (2, .int 0)]) hx hb dX3_readUnit_126 hl (by decide) rfl (fun ls hl => ?_)
        refine lv_iload hx hb dX3_readUnit_128 (lv_at hl 0 rfl) ?_
        refine lv_iconst (v := (-1)) hx hb dX3_readUnit_130 (by decide) ?_
        refine lv_icmp_ne (tgt := 142) hx hb dX3_readUnit_131 (by decide) (fun c15 => ?_) (fun c15 => ?_)
        · skip
          have fc15 : ¬ (ra14.toInt = (-1)) := fun h9 => c15 (Int32.toInt_inj.mp h9)
          refine lv_aload_n hx hb dX3_readUnit_142 rfl (lv_at hl 2 rfl) ?_
          refine va_get (D := (dC, dI)) (ci := 3) (v := .ref h1) (C := RX3) (T := TX3) (N := 3) hx hb hts (fun _ h => List.mem_cons_of_mem _ (List.mem_append_left _ (List.mem_append_right _ h))) hown hK hP 0 rfl rfl 0 (by decide) (hts (.fieldLink RX3 19 "LeftArguments$LawReader" "tape" "LLeftArguments$Tape;") (List.mem_cons_of_mem _ (List.mem_append_left _ (List.mem_append_left _ (List.mem_of_getElem? (i := 0) rfl))))) (fun _ h9 => h9) rfl dX3_readUnit_143 ?_
          have hPc := hP.sub (ws' := (wd_09b0abee h1 h2 v1 x13 v3 x6)) [1] rfl
          have hDc := hD.sub (ws' := (wd_09b0abee h1 h2 v1 x13 v3 x6)) [1] (by decide) rfl
          have hKc := hK.sub (tys' := []) [] rfl
          have hFc := va_free (wc := (wd_09b0abee h1 h2 v1 x13 v3 x6)) hD hS hA [1] rfl
          refine va_callv (va_runV (As := []) (rest := []) ⟨hx, hb, hml, hown, hts⟩ (k_X10_step l dC dI h1 h2 v1 x13 v3 x6 ⟨i_v1a, i_v1b⟩ ⟨oa_x13, ob_x13⟩ H.size) (cwV 0 hts g_X3_readUnit_4_6 rfl rfl rfl (by decide +kernel) ⟨Nat.le_of_ble_eq_true rfl, Nat.le_of_ble_eq_true rfl⟩) (pv_PV10 hPc hKc hDc (q0 := 0) rfl) rfl rfl hl.1 rfl (lv_room (Nat.le_of_ble_eq_true rfl)) dX3_readUnit_146 ⟨Nat.le_of_ble_eq_true rfl, Nat.le_of_ble_eq_true rfl⟩) hS (fun q _ h => hFc q h) hFc (fun u t H1 locs ht hvm hwra16 hB hz1 hk1 hS => ?_)
          obtain ⟨x17, oa_x17, ob_x17, pt0_ra16, hP1, hK1, hD1⟩ := hB
          rw [ht] at hP1
          obtain ⟨hP2, hD2⟩ := va_join (wr := (wd_6b0d8e05 h0 h1 h3 x4 h2 g0 f5 h3 g1 fn7)) (w1 := (wd_09b0abee h1 h2 v1 x17 v3 x6)) hP hD [1] [0, 2, 3] rfl rfl (by decide) (by decide) hk1 hFc hP1 hD1
          clear hP hD hPc hDc hKc hFc hP1 hK1 hD1 hk1 hz1
          generalize H1 = H at hP2 hS ⊢
          have hP := hP2.sub (ws' := (wd_1ad0248d h0 h1 h3 x4 h1 h2 v1 x17 v3 x6 h2 g0 f5 h3 g1 fn7)) [0, 3, 1, 2] rfl
          have hD := hD2.sub (ws' := (wd_1ad0248d h0 h1 h3 x4 h1 h2 v1 x17 v3 x6 h2 g0 f5 h3 g1 fn7)) [0, 3, 1, 2] (by decide) rfl
          clear hP2 hD2
          refine lv_aload_n hx hb dX3_readUnit_149 rfl (lv_at hl 2 rfl) ?_
          refine lv_iload_n hx hb dX3_readUnit_150 rfl (lv_at hl 3 rfl) ?_
          have hPc := hP.sub (ws' := (wd_1ad0248d h0 h1 h3 x4 h1 h2 v1 x17 v3 x6 h2 g0 f5 h3 g1 fn7)) [0, 1, 2, 3] rfl
          have hDc := hD.sub (ws' := (wd_1ad0248d h0 h1 h3 x4 h1 h2 v1 x17 v3 x6 h2 g0 f5 h3 g1 fn7)) [0, 1, 2, 3] (by decide) rfl
          have hKc := hK.sub (tys' := [(g0, .int), (g1, .int)]) [0, 1] rfl
          have hFc := va_free (wc := (wd_1ad0248d h0 h1 h3 x4 h1 h2 v1 x17 v3 x6 h2 g0 f5 h3 g1 fn7)) hD hS hA [0, 1, 2, 3] rfl
          refine va_calli (va_runV (As := [.int 3]) (rest := []) ⟨hx, hb, hml, hown, hts⟩ (k_X3_readSum_3 l dC dI adK adV h0 h1 h2 h3 x4 v1 x17 v3 x6 g0 f5 g1 fn7 ⟨oa_x4, ob_x4⟩ ⟨i_v1a, i_v1b⟩ ⟨by first | omega | decide, ob_x17⟩ ia_f5 H.size) (cwV 1 hts g_X3_readUnit_4_1 rfl rfl rfl (by decide +kernel) ⟨Nat.le_of_ble_eq_true rfl, Nat.le_of_ble_eq_true rfl⟩) ⟨fun a U g mk q => by obtain ⟨q0, q1, qP, qK, qD, n0, n1, n2⟩ := q; exact ⟨q0, q1, qP, va_K.moved (u := U) (U := U.calling g mk a) (Vm.Alike.refl U.vm) qK, qD, vk_R.same rfl n0, va_Z.moved (Vm.Alike.refl _) n1, vk_S.moved (Vm.Alike.refl _) n2⟩, pv_rc3 hKc hPc (q0 := 0) rfl, fun U hU hW => ⟨rfl, by rw [hU], by rw [hU]; exact hPc, va_K.moved hW.alike hKc, hDc.weaken (fun _ _ _ _ => trivial), vk_R.warm hW h_vr_2, (by rw [hU]; exact (va_Z.moved hW.alike (va_Z.kept h_st_CS hS.2.1)).narrow hFc), (by rw [hU]; exact (vk_S.moved hW.alike (vk_S.kept h_st_S hS.2.1)).narrow hFc)⟩⟩ rfl rfl hl.1 rfl (lv_room (Nat.le_of_ble_eq_true rfl)) dX3_readUnit_151 ⟨Nat.le_of_ble_eq_true rfl, Nat.le_of_ble_eq_true rfl⟩) hS (fun q _ h => hFc q h) hFc (fun ra18 u t H1 locs ht hvm hwra18 hB hz1 hk1 hS => ?_)
          try rw [hwra18] at hB
          rcases hB with hB | hB
          · skip
            obtain ⟨x19, x20, x21, fn22, oa_x19, ob_x19, oa_x20, ob_x20, pt0_ra18, pt1_ra18, pt2_ra18, pt3_ra18, hP1, hK1, hD1⟩ := hB
            rw [ht] at hP1
            obtain ⟨hP2, hD2⟩ := va_join (wr := []) (w1 := (wd_1ad0248d h0 h1 h3 x19 h1 h2 v1 x20 v3 x21 h2 g0 f5 h3 g1 fn22)) hP hD [0, 1, 2, 3] [] rfl rfl (by decide) (by decide) hk1 hFc hP1 hD1
            clear hP hD hPc hDc hKc hFc hP1 hK1 hD1 hk1 hz1
            generalize H1 = H at hP2 hS ⊢
            have hP : va_P (dC, dI) vwCl (wd_1ad0248d h0 h1 h3 x19 h1 h2 v1 x20 v3 x21 h2 g0 f5 h3 g1 fn22) H := hP2
            have hD : va_D A (wd_1ad0248d h0 h1 h3 x19 h1 h2 v1 x20 v3 x21 h2 g0 f5 h3 g1 fn22) := hD2
            clear hP2 hD2
            obtain rfl : ra18 = (1 : Int32) := pv_cs (by decide) pt0_ra18 pt1_ra18
            refine lv_if_ne (tgt := 159) hx hb dX3_readUnit_154 (by decide) (fun _ => ?_) (fun c => absurd c (by decide))
            refine lv_aload_n hx hb dX3_readUnit_159 rfl (lv_at hl 2 rfl) ?_
            refine lv_iload hx hb dX3_readUnit_160 (lv_at hl 0 rfl) ?_
            refine lv_iconst (v := 0) hx hb dX3_readUnit_162 (by decide) ?_
            have hPc := hP.sub (ws' := (wd_b958b9da h0 h1 h3 x19 h3 g1 fn22)) [0, 3] rfl
            have hDc := hD.sub (ws' := (wd_b958b9da h0 h1 h3 x19 h3 g1 fn22)) [0, 3] (by decide) rfl
            have hKc := hK.sub (tys' := [(g1, .int)]) [1] rfl
            have hFc := va_free (wc := (wd_b958b9da h0 h1 h3 x19 h3 g1 fn22)) hD hS hA [0, 3] rfl
            refine va_callv (va_runV (As := [.int ra14, .int 0]) (rest := []) ⟨hx, hb, hml, hown, hts⟩ (k_X3_write l dC dI h0 h3 h1 x19 g1 fn22 ra14 0 ⟨oa_x19, ob_x19⟩ H.size) (cwV 2 hts g_X3_readUnit_4_8 rfl rfl rfl (by decide +kernel) ⟨Nat.le_of_ble_eq_true rfl, Nat.le_of_ble_eq_true rfl⟩) (pv_PV3 hPc hKc hDc (q0 := 0) rfl) rfl rfl hl.1 rfl (lv_room (Nat.le_of_ble_eq_true rfl)) dX3_readUnit_163 ⟨Nat.le_of_ble_eq_true rfl, Nat.le_of_ble_eq_true rfl⟩) hS (fun q _ h => hFc q h) hFc (fun u t H1 locs ht hvm hwra23 hB hz1 hk1 hS => ?_)
            obtain ⟨x24, fn25, oa_x24, ob_x24, hP1, hK1, hD1⟩ := hB
            rw [ht] at hP1
            obtain ⟨hP2, hD2⟩ := va_join (wr := (wd_82cdd16b h1 h2 v1 x20 v3 x21 h2 g0 f5)) (w1 := (wd_b958b9da h0 h1 h3 x24 h3 g1 fn25)) hP hD [0, 3] [1, 2] rfl rfl (by decide) (by decide) hk1 hFc hP1 hD1
            clear hP hD hPc hDc hKc hFc hP1 hK1 hD1 hk1 hz1
            generalize H1 = H at hP2 hS ⊢
            have hP := hP2.sub (ws' := (wd_1ad0248d h0 h1 h3 x24 h1 h2 v1 x20 v3 x21 h2 g0 f5 h3 g1 fn25)) [2, 0, 1, 3] rfl
            have hD := hD2.sub (ws' := (wd_1ad0248d h0 h1 h3 x24 h1 h2 v1 x20 v3 x21 h2 g0 f5 h3 g1 fn25)) [2, 0, 1, 3] (by decide) rfl
            clear hP2 hD2
            refine lv_iconst (v := 1) hx hb dX3_readUnit_166 (by decide) ?_
            subst hQ
            have hP9 := hP.sub (ws' := (wd_1ad0248d h0 h1 h3 x24 h1 h2 v1 x20 v3 x21 h2 g0 f5 h3 g1 fn25)) [0, 1, 2, 3] rfl
            have hD9 := hD.sub (ws' := (wd_1ad0248d h0 h1 h3 x24 h1 h2 v1 x20 v3 x21 h2 g0 f5 h3 g1 fn25)) [0, 1, 2, 3] (by decide) rfl
            have hK9 := hK.sub (tys' := []) [] rfl
            exact W.zret (v := 1) hx hb hr rfl (fun t ht hW => ⟨⟨1, 1, rfl, rfl, Or.inl ⟨x24, x20, x21, fn25, oa_x24, ob_x24, oa_x20, ob_x20, by first | omega | decide, by first | omega | decide, by omega, by show pg_unitF f5 v1.toInt 3 true (pg_unit f5 v1.toInt 2) (pg_con f5 v1.toInt (pg_unit f5 v1.toInt 2)) _ = _; first | (apply pg_unitF.not <;> first | assumption | omega) | (apply pg_unitF.par1 <;> first | assumption | omega) | (apply pg_unitF.par0 <;> first | assumption | omega) | (apply pg_unitF.deep <;> first | assumption | omega) | (apply pg_unitF.sm1 <;> first | assumption | omega) | (apply pg_unitF.sm2 <;> first | assumption | omega) | (apply pg_unitF.sum0 <;> first | assumption | omega), by rw [ht]; exact hP9, va_K.moved hW.alike hK9, hD9⟩⟩, hS.F ht⟩) hS.2.2 dX3_readUnit_167
          · skip
            obtain ⟨x26, x27, x28, x29, fn30, oa_x26, ob_x26, oa_x27, ob_x27, oa_x28, ob_x28, pt0_ra18, pt1_ra18, pt2_ra18, pt3_ra18, hP1, hK1, hD1⟩ := hB
            rw [ht] at hP1
            obtain ⟨hP2, hD2⟩ := va_join (wr := []) (w1 := (wd_1ad0248d h0 h1 h3 x26 h1 h2 v1 x27 x28 x29 h2 g0 f5 h3 g1 fn30)) hP hD [0, 1, 2, 3] [] rfl rfl (by decide) (by decide) hk1 hFc hP1 hD1
            clear hP hD hPc hDc hKc hFc hP1 hK1 hD1 hk1 hz1
            generalize H1 = H at hP2 hS ⊢
            have hP : va_P (dC, dI) vwCl (wd_1ad0248d h0 h1 h3 x26 h1 h2 v1 x27 x28 x29 h2 g0 f5 h3 g1 fn30) H := hP2
            have hD : va_D A (wd_1ad0248d h0 h1 h3 x26 h1 h2 v1 x27 x28 x29 h2 g0 f5 h3 g1 fn30) := hD2
            clear hP2 hD2
            obtain rfl : ra18 = (0 : Int32) := pv_cs (by decide) pt0_ra18 pt1_ra18
            refine lv_if_ne (tgt := 159) hx hb dX3_readUnit_154 (by decide) (fun c => absurd (by decide) c) (fun _ => ?_)
            refine lv_iconst (v := 0) hx hb dX3_readUnit_157 (by decide) ?_
            subst hQ
            have hP9 := hP.sub (ws' := (wd_1ad0248d h0 h1 h3 x26 h1 h2 v1 x27 x28 x29 h2 g0 f5 h3 g1 fn30)) [0, 1, 2, 3] rfl
            have hD9 := hD.sub (ws' := (wd_1ad0248d h0 h1 h3 x26 h1 h2 v1 x27 x28 x29 h2 g0 f5 h3 g1 fn30)) [0, 1, 2, 3] (by decide) rfl
            have hK9 := hK.sub (tys' := []) [] rfl
            exact W.zret (v := 0) hx hb hr rfl (fun t ht hW => ⟨⟨0, 0, rfl, rfl, Or.inr (⟨x26, x27, x28, x29, fn30, oa_x26, ob_x26, oa_x27, ob_x27, oa_x28, ob_x28, by first | omega | decide, by first | omega | decide, by omega, by show pg_unitF f5 v1.toInt 3 true (pg_unit f5 v1.toInt 2) (pg_con f5 v1.toInt (pg_unit f5 v1.toInt 2)) _ = _; first | (apply pg_unitF.not <;> first | assumption | omega) | (apply pg_unitF.par1 <;> first | assumption | omega) | (apply pg_unitF.par0 <;> first | assumption | omega) | (apply pg_unitF.deep <;> first | assumption | omega) | (apply pg_unitF.sm1 <;> first | assumption | omega) | (apply pg_unitF.sm2 <;> first | assumption | omega) | (apply pg_unitF.sum0 <;> first | assumption | omega), by rw [ht]; exact hP9, va_K.moved hW.alike hK9, hD9⟩)⟩, hS.F ht⟩) hS.2.2 dX3_readUnit_158
        · skip
          have fc15 : ra14.toInt = (-1) := congrArg Int32.toInt c15
          refine lv_aload_n hx hb dX3_readUnit_134 rfl (lv_at hl 2 rfl) ?_
          refine va_get (D := (dC, dI)) (ci := 3) (v := .ref h1) (C := RX3) (T := TX3) (N := 3) hx hb hts (fun _ h => List.mem_cons_of_mem _ (List.mem_append_left _ (List.mem_append_right _ h))) hown hK hP 0 rfl rfl 0 (by decide) (hts (.fieldLink RX3 19 "LeftArguments$LawReader" "tape" "LLeftArguments$Tape;") (List.mem_cons_of_mem _ (List.mem_append_left _ (List.mem_append_left _ (List.mem_of_getElem? (i := 0) rfl))))) (fun _ h9 => h9) rfl dX3_readUnit_135 ?_
          have hPc := hP.sub (ws' := (wd_09b0abee h1 h2 v1 x13 v3 x6)) [1] rfl
          have hDc := hD.sub (ws' := (wd_09b0abee h1 h2 v1 x13 v3 x6)) [1] (by decide) rfl
          have hKc := hK.sub (tys' := []) [] rfl
          have hFc := va_free (wc := (wd_09b0abee h1 h2 v1 x13 v3 x6)) hD hS hA [1] rfl
          refine va_calli (va_runV (As := []) (rest := []) ⟨hx, hb, hml, hown, hts⟩ (k_X10_wrongHere l dC dI h1 h2 v1 x13 v3 x6 ⟨i_v1a, i_v1b⟩ ⟨oa_x13, by first | omega | decide⟩ H.size) (cwV 0 hts g_X3_readUnit_4_4 rfl rfl rfl (by decide +kernel) ⟨Nat.le_of_ble_eq_true rfl, Nat.le_of_ble_eq_true rfl⟩) (pv_PV10 hPc hKc hDc (q0 := 0) rfl) rfl rfl hl.1 rfl (lv_room (Nat.le_of_ble_eq_true rfl)) dX3_readUnit_138 ⟨Nat.le_of_ble_eq_true rfl, Nat.le_of_ble_eq_true rfl⟩) hS (fun q _ h => hFc q h) hFc (fun ra31 u t H1 locs ht hvm hwra31 hB hz1 hk1 hS => ?_)
          try rw [hwra31] at hB
          obtain ⟨x32, oa_x32, ob_x32, pt0_ra31, pt1_ra31, pt2_ra31, hP1, hK1, hD1⟩ := hB
          rw [ht] at hP1
          obtain ⟨hP2, hD2⟩ := va_join (wr := (wd_6b0d8e05 h0 h1 h3 x4 h2 g0 f5 h3 g1 fn7)) (w1 := (wd_09b0abee h1 h2 v1 x13 x32 x6)) hP hD [1] [0, 2, 3] rfl rfl (by decide) (by decide) hk1 hFc hP1 hD1
          clear hP hD hPc hDc hKc hFc hP1 hK1 hD1 hk1 hz1
          generalize H1 = H at hP2 hS ⊢
          have hP := hP2.sub (ws' := (wd_1ad0248d h0 h1 h3 x4 h1 h2 v1 x13 x32 x6 h2 g0 f5 h3 g1 fn7)) [0, 3, 1, 2] rfl
          have hD := hD2.sub (ws' := (wd_1ad0248d h0 h1 h3 x4 h1 h2 v1 x13 x32 x6 h2 g0 f5 h3 g1 fn7)) [0, 3, 1, 2] (by decide) rfl
          clear hP2 hD2
          obtain rfl : ra31 = (0 : Int32) := pv_cs (by decide) pt0_ra31 pt1_ra31
          subst hQ
          have hP9 := hP.sub (ws' := (wd_1ad0248d h0 h1 h3 x4 h1 h2 v1 x13 x32 x6 h2 g0 f5 h3 g1 fn7)) [0, 1, 2, 3] rfl
          have hD9 := hD.sub (ws' := (wd_1ad0248d h0 h1 h3 x4 h1 h2 v1 x13 x32 x6 h2 g0 f5 h3 g1 fn7)) [0, 1, 2, 3] (by decide) rfl
          have hK9 := hK.sub (tys' := []) [] rfl
          exact W.zret (v := 0) hx hb hr rfl (fun t ht hW => ⟨⟨0, 0, rfl, rfl, Or.inr (⟨x4, x13, x32, x6, fn7, oa_x4, ob_x4, oa_x13, by first | omega | decide, oa_x32, ob_x32, by first | omega | decide, by first | omega | decide, by omega, by show pg_unitF f5 v1.toInt 3 true (pg_unit f5 v1.toInt 2) (pg_con f5 v1.toInt (pg_unit f5 v1.toInt 2)) _ = _; first | (apply pg_unitF.not <;> first | assumption | omega) | (apply pg_unitF.par1 <;> first | assumption | omega) | (apply pg_unitF.par0 <;> first | assumption | omega) | (apply pg_unitF.deep <;> first | assumption | omega) | (apply pg_unitF.sm1 <;> first | assumption | omega) | (apply pg_unitF.sm2 <;> first | assumption | omega) | (apply pg_unitF.sum0 <;> first | assumption | omega), by rw [ht]; exact hP9, va_K.moved hW.alike hK9, hD9⟩)⟩, hS.F ht⟩) hS.2.2 dX3_readUnit_141
    · skip
      obtain ⟨x33, x34, x35, x36, fn37, oa_x33, ob_x33, oa_x34, ob_x34, oa_x35, ob_x35, pt0_ra3, pt1_ra3, pt2_ra3, pt3_ra3, hP1, hK1, hD1⟩ := hB
      rw [ht] at hP1
      obtain ⟨hP2, hD2⟩ := va_join (wr := []) (w1 := (wd_1ad0248d h0 h1 h3 x33 h1 h2 v1 x34 x35 x36 h2 g0 f5 h3 g1 fn37)) hP hD [0, 1, 2, 3] [] rfl rfl (by decide) (by decide) hk1 hFc hP1 hD1
      clear hP hD hPc hDc hKc hFc hP1 hK1 hD1 hk1 hz1
      generalize H1 = H at hP2 hS ⊢
      have hP : va_P (dC, dI) vwCl (wd_1ad0248d h0 h1 h3 x33 h1 h2 v1 x34 x35 x36 h2 g0 f5 h3 g1 fn37) H := hP2
      have hD : va_D A (wd_1ad0248d h0 h1 h3 x33 h1 h2 v1 x34 x35 x36 h2 g0 f5 h3 g1 fn37) := hD2
      clear hP2 hD2
      obtain rfl : ra3 = (0 : Int32) := pv_cs (by decide) pt0_ra3 pt1_ra3
      refine lv_if_ne (tgt := 116) hx hb dX3_readUnit_111 (by decide) (fun c => absurd (by decide) c) (fun _ => ?_)
      refine lv_iconst (v := 0) hx hb dX3_readUnit_114 (by decide) ?_
      subst hQ
      have hP9 := hP.sub (ws' := (wd_1ad0248d h0 h1 h3 x33 h1 h2 v1 x34 x35 x36 h2 g0 f5 h3 g1 fn37)) [0, 1, 2, 3] rfl
      have hD9 := hD.sub (ws' := (wd_1ad0248d h0 h1 h3 x33 h1 h2 v1 x34 x35 x36 h2 g0 f5 h3 g1 fn37)) [0, 1, 2, 3] (by decide) rfl
      have hK9 := hK.sub (tys' := []) [] rfl
      exact W.zret (v := 0) hx hb hr rfl (fun t ht hW => ⟨⟨0, 0, rfl, rfl, Or.inr (⟨x33, x34, x35, x36, fn37, oa_x33, ob_x33, oa_x34, ob_x34, oa_x35, ob_x35, by first | omega | decide, by first | omega | decide, by omega, by show pg_unitF f5 v1.toInt 3 true (pg_unit f5 v1.toInt 2) (pg_con f5 v1.toInt (pg_unit f5 v1.toInt 2)) _ = _; first | (apply pg_unitF.not <;> first | assumption | omega) | (apply pg_unitF.par1 <;> first | assumption | omega) | (apply pg_unitF.par0 <;> first | assumption | omega) | (apply pg_unitF.deep <;> first | assumption | omega) | (apply pg_unitF.sm1 <;> first | assumption | omega) | (apply pg_unitF.sm2 <;> first | assumption | omega) | (apply pg_unitF.sum0 <;> first | assumption | omega), by rw [ht]; exact hP9, va_K.moved hW.alike hK9, hD9⟩)⟩, hS.F ht⟩) hS.2.2 dX3_readUnit_115
  · skip
    obtain ⟨x38, oa_x38, ob_x38, pt0_ra1, pt1_ra1, pt2_ra1, pt3_ra1, pt4_ra1, pt5_ra1, pt6_ra1, hP1, hK1, hD1⟩ := hB
    rw [ht] at hP1
    obtain ⟨hP2, hD2⟩ := va_join (wr := (wd_b958b9da h0 h1 h3 v0 h3 g1 f6)) (w1 := (wd_82cdd16b h1 h2 v1 x38 v3 v4 h2 g0 f5)) hP hD [1, 2] [0, 3] rfl rfl (by decide) (by decide) hk1 hFc hP1 hD1
    clear hP hD hPc hDc hKc hFc hP1 hK1 hD1 hk1 hz1
    generalize H1 = H at hP2 hS ⊢
    have hP := hP2.sub (ws' := (wd_1ad0248d h0 h1 h3 v0 h1 h2 v1 x38 v3 v4 h2 g0 f5 h3 g1 f6)) [0, 2, 3, 1] rfl
    have hD := hD2.sub (ws' := (wd_1ad0248d h0 h1 h3 v0 h1 h2 v1 x38 v3 v4 h2 g0 f5 h3 g1 f6)) [0, 2, 3, 1] (by decide) rfl
    clear hP2 hD2
    refine lv_istore_n (lv' := [(3, .int ra1), (0, .ref h0), (1, .int 3), (2, .int 0)]) hx hb dX3_readUnit_7 rfl hl (by decide) rfl (fun ls hl => ?_)
    refine lv_iload_n hx hb dX3_readUnit_8 rfl (lv_at hl 3 rfl) ?_
    refine lv_if_ne (tgt := 102) hx hb dX3_readUnit_9 (by decide) (fun c => absurd (by decide) c) (fun _ => ?_)
    refine lv_iload_n hx hb dX3_readUnit_12 rfl (lv_at hl 0 rfl) ?_
    refine lv_bipush (v := 33) hx hb dX3_readUnit_13 (by decide) ?_
    refine lv_icmp_eq (tgt := 24) hx hb dX3_readUnit_15 (by decide) (fun c39 => ?_) (fun c39 => ?_)
    · skip
      have fc39 : ra1.toInt = 33 := congrArg Int32.toInt c39
      refine lv_iload_n hx hb dX3_readUnit_24 rfl (lv_at hl 2 rfl) ?_
      refine lv_bipush (v := 6) hx hb dX3_readUnit_25 (by decide) ?_
      refine lv_icmp_lt (tgt := 38) hx hb dX3_readUnit_27 (by decide) (fun _ => ?_) (fun c => absurd (by decide) c)
      refine lv_aload_n hx hb dX3_readUnit_38 rfl (lv_at hl 1 rfl) ?_
      refine va_get (D := (dC, dI)) (ci := 3) (v := .ref h1) (C := RX3) (T := TX3) (N := 3) hx hb hts (fun _ h => List.mem_cons_of_mem _ (List.mem_append_left _ (List.mem_append_right _ h))) hown hK hP 0 rfl rfl 0 (by decide) (hts (.fieldLink RX3 19 "LeftArguments$LawReader" "tape" "LLeftArguments$Tape;") (List.mem_cons_of_mem _ (List.mem_append_left _ (List.mem_append_left _ (List.mem_of_getElem? (i := 0) rfl))))) (fun _ h9 => h9) rfl dX3_readUnit_39 ?_
      have hPc := hP.sub (ws' := (wd_09b0abee h1 h2 v1 x38 v3 v4)) [1] rfl
      have hDc := hD.sub (ws' := (wd_09b0abee h1 h2 v1 x38 v3 v4)) [1] (by decide) rfl
      have hKc := hK.sub (tys' := []) [] rfl
      have hFc := va_free (wc := (wd_09b0abee h1 h2 v1 x38 v3 v4)) hD hS hA [1] rfl
      refine va_callv (va_runV (As := []) (rest := []) ⟨hx, hb, hml, hown, hts⟩ (k_X10_step l dC dI h1 h2 v1 x38 v3 v4 ⟨i_v1a, i_v1b⟩ ⟨oa_x38, ob_x38⟩ H.size) (cwV 0 hts g_X3_readUnit_4_6 rfl rfl rfl (by decide +kernel) ⟨Nat.le_of_ble_eq_true rfl, Nat.le_of_ble_eq_true rfl⟩) (pv_PV10 hPc hKc hDc (q0 := 0) rfl) rfl rfl hl.1 rfl (lv_room (Nat.le_of_ble_eq_true rfl)) dX3_readUnit_42 ⟨Nat.le_of_ble_eq_true rfl, Nat.le_of_ble_eq_true rfl⟩) hS (fun q _ h => hFc q h) hFc (fun u t H1 locs ht hvm hwra40 hB hz1 hk1 hS => ?_)
      obtain ⟨x41, oa_x41, ob_x41, pt0_ra40, hP1, hK1, hD1⟩ := hB
      rw [ht] at hP1
      obtain ⟨hP2, hD2⟩ := va_join (wr := (wd_6b0d8e05 h0 h1 h3 v0 h2 g0 f5 h3 g1 f6)) (w1 := (wd_09b0abee h1 h2 v1 x41 v3 v4)) hP hD [1] [0, 2, 3] rfl rfl (by decide) (by decide) hk1 hFc hP1 hD1
      clear hP hD hPc hDc hKc hFc hP1 hK1 hD1 hk1 hz1
      generalize H1 = H at hP2 hS ⊢
      have hP := hP2.sub (ws' := (wd_1ad0248d h0 h1 h3 v0 h1 h2 v1 x41 v3 v4 h2 g0 f5 h3 g1 f6)) [0, 3, 1, 2] rfl
      have hD := hD2.sub (ws' := (wd_1ad0248d h0 h1 h3 v0 h1 h2 v1 x41 v3 v4 h2 g0 f5 h3 g1 f6)) [0, 3, 1, 2] (by decide) rfl
      clear hP2 hD2
      refine lv_iload_n hx hb dX3_readUnit_45 rfl (lv_at hl 0 rfl) ?_
      refine lv_bipush (v := 40) hx hb dX3_readUnit_46 (by decide) ?_
      refine lv_icmp_ne (tgt := 80) hx hb dX3_readUnit_48 (by decide) (fun _ => ?_) (fun c42 => by exfalso; have fc42 : ra1.toInt = 40 := congrArg Int32.toInt c42; omega)
      refine lv_aload_n hx hb dX3_readUnit_80 rfl (lv_at hl 1 rfl) ?_
      refine lv_iload_n hx hb dX3_readUnit_81 rfl (lv_at hl 2 rfl) ?_
      refine lv_iconst (v := 1) hx hb dX3_readUnit_82 (by decide) ?_
      refine lv_iadd hx hb dX3_readUnit_83 ?_
      refine lv_topi (fun tv43 etv43 => ?_)
      obtain rfl : tv43 = (4 : Int32) := etv43.trans (by first | rfl | decide)
      refine lv_iconst (v := 0) hx hb dX3_readUnit_84 (by decide) ?_
      have hPc := hP.sub (ws' := (wd_1ad0248d h0 h1 h3 v0 h1 h2 v1 x41 v3 v4 h2 g0 f5 h3 g1 f6)) [0, 1, 2, 3] rfl
      have hDc := hD.sub (ws' := (wd_1ad0248d h0 h1 h3 v0 h1 h2 v1 x41 v3 v4 h2 g0 f5 h3 g1 f6)) [0, 1, 2, 3] (by decide) rfl
      have hKc := hK.sub (tys' := [(g0, .int), (g1, .int)]) [0, 1] rfl
      have hFc := va_free (wc := (wd_1ad0248d h0 h1 h3 v0 h1 h2 v1 x41 v3 v4 h2 g0 f5 h3 g1 f6)) hD hS hA [0, 1, 2, 3] rfl
      refine va_calli (va_runV (As := [.int 4, .int 0]) (rest := []) ⟨hx, hb, hml, hown, hts⟩ (k_X3_readUnit_3 l dC dI adK adV h0 h1 h2 h3 v0 v1 x41 v3 v4 g0 f5 g1 f6 ⟨i_v0a, i_v0b⟩ ⟨i_v1a, i_v1b⟩ ⟨by first | omega | decide, ob_x41⟩ ia_f5 H.size) (cwV 2 hts g_X3_readUnit_4_11 rfl rfl rfl (by decide +kernel) ⟨Nat.le_of_ble_eq_true rfl, Nat.le_of_ble_eq_true rfl⟩) ⟨fun a U g mk q => by obtain ⟨q0, q1, qP, qK, qD, n0, n1, n2⟩ := q; exact ⟨q0, q1, qP, va_K.moved (u := U) (U := U.calling g mk a) (Vm.Alike.refl U.vm) qK, qD, vk_R.same rfl n0, va_Z.moved (Vm.Alike.refl _) n1, vk_S.moved (Vm.Alike.refl _) n2⟩, pv_rc3 hKc hPc (q0 := 0) rfl, fun U hU hW => ⟨rfl, by rw [hU], by rw [hU]; exact hPc, va_K.moved hW.alike hKc, hDc.weaken (fun _ _ _ _ => trivial), vk_R.warm hW h_vr_2, (by rw [hU]; exact (va_Z.moved hW.alike (va_Z.kept h_st_CS hS.2.1)).narrow hFc), (by rw [hU]; exact (vk_S.moved hW.alike (vk_S.kept h_st_S hS.2.1)).narrow hFc)⟩⟩ rfl rfl hl.1 rfl (lv_room (Nat.le_of_ble_eq_true rfl)) dX3_readUnit_85 ⟨Nat.le_of_ble_eq_true rfl, Nat.le_of_ble_eq_true rfl⟩) hS (fun q _ h => hFc q h) hFc (fun ra44 u t H1 locs ht hvm hwra44 hB hz1 hk1 hS => ?_)
      try rw [hwra44] at hB
      rcases hB with hB | hB
      · skip
        obtain ⟨x45, x46, x47, fn48, oa_x45, ob_x45, oa_x46, ob_x46, pt0_ra44, pt1_ra44, pt2_ra44, pt3_ra44, hP1, hK1, hD1⟩ := hB
        rw [ht] at hP1
        obtain ⟨hP2, hD2⟩ := va_join (wr := []) (w1 := (wd_1ad0248d h0 h1 h3 x45 h1 h2 v1 x46 v3 x47 h2 g0 f5 h3 g1 fn48)) hP hD [0, 1, 2, 3] [] rfl rfl (by decide) (by decide) hk1 hFc hP1 hD1
        clear hP hD hPc hDc hKc hFc hP1 hK1 hD1 hk1 hz1
        generalize H1 = H at hP2 hS ⊢
        have hP : va_P (dC, dI) vwCl (wd_1ad0248d h0 h1 h3 x45 h1 h2 v1 x46 v3 x47 h2 g0 f5 h3 g1 fn48) H := hP2
        have hD : va_D A (wd_1ad0248d h0 h1 h3 x45 h1 h2 v1 x46 v3 x47 h2 g0 f5 h3 g1 fn48) := hD2
        clear hP2 hD2
        obtain rfl : ra44 = (1 : Int32) := pv_cs (by decide) pt0_ra44 pt1_ra44
        refine lv_if_ne (tgt := 93) hx hb dX3_readUnit_88 (by decide) (fun _ => ?_) (fun c => absurd c (by decide))
        refine lv_aload_n hx hb dX3_readUnit_93 rfl (lv_at hl 1 rfl) ?_
        refine lv_bipush (v := 9) hx hb dX3_readUnit_94 (by decide) ?_
        refine lv_iconst (v := 0) hx hb dX3_readUnit_96 (by decide) ?_
        have hPc := hP.sub (ws' := (wd_b958b9da h0 h1 h3 x45 h3 g1 fn48)) [0, 3] rfl
        have hDc := hD.sub (ws' := (wd_b958b9da h0 h1 h3 x45 h3 g1 fn48)) [0, 3] (by decide) rfl
        have hKc := hK.sub (tys' := [(g1, .int)]) [1] rfl
        have hFc := va_free (wc := (wd_b958b9da h0 h1 h3 x45 h3 g1 fn48)) hD hS hA [0, 3] rfl
        refine va_callv (va_runV (As := [.int 9, .int 0]) (rest := []) ⟨hx, hb, hml, hown, hts⟩ (k_X3_write l dC dI h0 h3 h1 x45 g1 fn48 9 0 ⟨oa_x45, ob_x45⟩ H.size) (cwV 2 hts g_X3_readUnit_4_8 rfl rfl rfl (by decide +kernel) ⟨Nat.le_of_ble_eq_true rfl, Nat.le_of_ble_eq_true rfl⟩) (pv_PV3 hPc hKc hDc (q0 := 0) rfl) rfl rfl hl.1 rfl (lv_room (Nat.le_of_ble_eq_true rfl)) dX3_readUnit_97 ⟨Nat.le_of_ble_eq_true rfl, Nat.le_of_ble_eq_true rfl⟩) hS (fun q _ h => hFc q h) hFc (fun u t H1 locs ht hvm hwra49 hB hz1 hk1 hS => ?_)
        obtain ⟨x50, fn51, oa_x50, ob_x50, hP1, hK1, hD1⟩ := hB
        rw [ht] at hP1
        obtain ⟨hP2, hD2⟩ := va_join (wr := (wd_82cdd16b h1 h2 v1 x46 v3 x47 h2 g0 f5)) (w1 := (wd_b958b9da h0 h1 h3 x50 h3 g1 fn51)) hP hD [0, 3] [1, 2] rfl rfl (by decide) (by decide) hk1 hFc hP1 hD1
        clear hP hD hPc hDc hKc hFc hP1 hK1 hD1 hk1 hz1
        generalize H1 = H at hP2 hS ⊢
        have hP := hP2.sub (ws' := (wd_1ad0248d h0 h1 h3 x50 h1 h2 v1 x46 v3 x47 h2 g0 f5 h3 g1 fn51)) [2, 0, 1, 3] rfl
        have hD := hD2.sub (ws' := (wd_1ad0248d h0 h1 h3 x50 h1 h2 v1 x46 v3 x47 h2 g0 f5 h3 g1 fn51)) [2, 0, 1, 3] (by decide) rfl
        clear hP2 hD2
        refine lv_iconst (v := 1) hx hb dX3_readUnit_100 (by decide) ?_
        subst hQ
        have hP9 := hP.sub (ws' := (wd_1ad0248d h0 h1 h3 x50 h1 h2 v1 x46 v3 x47 h2 g0 f5 h3 g1 fn51)) [0, 1, 2, 3] rfl
        have hD9 := hD.sub (ws' := (wd_1ad0248d h0 h1 h3 x50 h1 h2 v1 x46 v3 x47 h2 g0 f5 h3 g1 fn51)) [0, 1, 2, 3] (by decide) rfl
        have hK9 := hK.sub (tys' := []) [] rfl
        exact W.zret (v := 1) hx hb hr rfl (fun t ht hW => ⟨⟨1, 1, rfl, rfl, Or.inl ⟨x50, x46, x47, fn51, oa_x50, ob_x50, oa_x46, ob_x46, by first | omega | decide, by first | omega | decide, by omega, by show pg_unitF f5 v1.toInt 3 true (pg_unit f5 v1.toInt 2) (pg_con f5 v1.toInt (pg_unit f5 v1.toInt 2)) _ = _; first | (apply pg_unitF.not <;> first | assumption | omega) | (apply pg_unitF.par1 <;> first | assumption | omega) | (apply pg_unitF.par0 <;> first | assumption | omega) | (apply pg_unitF.deep <;> first | assumption | omega) | (apply pg_unitF.sm1 <;> first | assumption | omega) | (apply pg_unitF.sm2 <;> first | assumption | omega) | (apply pg_unitF.sum0 <;> first | assumption | omega), by rw [ht]; exact hP9, va_K.moved hW.alike hK9, hD9⟩⟩, hS.F ht⟩) hS.2.2 dX3_readUnit_101
      · skip
        obtain ⟨x52, x53, x54, x55, fn56, oa_x52, ob_x52, oa_x53, ob_x53, oa_x54, ob_x54, pt0_ra44, pt1_ra44, pt2_ra44, pt3_ra44, hP1, hK1, hD1⟩ := hB
        rw [ht] at hP1
        obtain ⟨hP2, hD2⟩ := va_join (wr := []) (w1 := (wd_1ad0248d h0 h1 h3 x52 h1 h2 v1 x53 x54 x55 h2 g0 f5 h3 g1 fn56)) hP hD [0, 1, 2, 3] [] rfl rfl (by decide) (by decide) hk1 hFc hP1 hD1
        clear hP hD hPc hDc hKc hFc hP1 hK1 hD1 hk1 hz1
        generalize H1 = H at hP2 hS ⊢
        have hP : va_P (dC, dI) vwCl (wd_1ad0248d h0 h1 h3 x52 h1 h2 v1 x53 x54 x55 h2 g0 f5 h3 g1 fn56) H := hP2
        have hD : va_D A (wd_1ad0248d h0 h1 h3 x52 h1 h2 v1 x53 x54 x55 h2 g0 f5 h3 g1 fn56) := hD2
        clear hP2 hD2
        obtain rfl : ra44 = (0 : Int32) := pv_cs (by decide) pt0_ra44 pt1_ra44
        refine lv_if_ne (tgt := 93) hx hb dX3_readUnit_88 (by decide) (fun c => absurd (by decide) c) (fun _ => ?_)
        refine lv_iconst (v := 0) hx hb dX3_readUnit_91 (by decide) ?_
        subst hQ
        have hP9 := hP.sub (ws' := (wd_1ad0248d h0 h1 h3 x52 h1 h2 v1 x53 x54 x55 h2 g0 f5 h3 g1 fn56)) [0, 1, 2, 3] rfl
        have hD9 := hD.sub (ws' := (wd_1ad0248d h0 h1 h3 x52 h1 h2 v1 x53 x54 x55 h2 g0 f5 h3 g1 fn56)) [0, 1, 2, 3] (by decide) rfl
        have hK9 := hK.sub (tys' := []) [] rfl
        exact W.zret (v := 0) hx hb hr rfl (fun t ht hW => ⟨⟨0, 0, rfl, rfl, Or.inr (⟨x52, x53, x54, x55, fn56, oa_x52, ob_x52, oa_x53, ob_x53, oa_x54, ob_x54, by first | omega | decide, by first | omega | decide, by omega, by show pg_unitF f5 v1.toInt 3 true (pg_unit f5 v1.toInt 2) (pg_con f5 v1.toInt (pg_unit f5 v1.toInt 2)) _ = _; first | (apply pg_unitF.not <;> first | assumption | omega) | (apply pg_unitF.par1 <;> first | assumption | omega) | (apply pg_unitF.par0 <;> first | assumption | omega) | (apply pg_unitF.deep <;> first | assumption | omega) | (apply pg_unitF.sm1 <;> first | assumption | omega) | (apply pg_unitF.sm2 <;> first | assumption | omega) | (apply pg_unitF.sum0 <;> first | assumption | omega), by rw [ht]; exact hP9, va_K.moved hW.alike hK9, hD9⟩)⟩, hS.F ht⟩) hS.2.2 dX3_readUnit_92
    · skip
      have fc39 : ¬ (ra1.toInt = 33) := fun h9 => c39 (Int32.toInt_inj.mp h9)
      refine lv_iload_n hx hb dX3_readUnit_18 rfl (lv_at hl 0 rfl) ?_
      refine lv_bipush (v := 40) hx hb dX3_readUnit_19 (by decide) ?_
      refine lv_icmp_ne (tgt := 102) hx hb dX3_readUnit_21 (by decide) (fun c57 => ?_) (fun c57 => ?_)
      · skip
        have fc57 : ¬ (ra1.toInt = 40) := fun h9 => c57 (Int32.toInt_inj.mp h9)
        refine lv_iload_n hx hb dX3_readUnit_102 rfl (lv_at hl 3 rfl) ?_
        refine lv_if_ne (tgt := 116) hx hb dX3_readUnit_103 (by decide) (fun c => absurd (by decide) c) (fun _ => ?_)
        refine lv_aload_n hx hb dX3_readUnit_106 rfl (lv_at hl 1 rfl) ?_
        refine lv_iload_n hx hb dX3_readUnit_107 rfl (lv_at hl 2 rfl) ?_
        have hPc := hP.sub (ws' := (wd_1ad0248d h0 h1 h3 v0 h1 h2 v1 x38 v3 v4 h2 g0 f5 h3 g1 f6)) [0, 1, 2, 3] rfl
        have hDc := hD.sub (ws' := (wd_1ad0248d h0 h1 h3 v0 h1 h2 v1 x38 v3 v4 h2 g0 f5 h3 g1 f6)) [0, 1, 2, 3] (by decide) rfl
        have hKc := hK.sub (tys' := [(g0, .int), (g1, .int)]) [0, 1] rfl
        have hFc := va_free (wc := (wd_1ad0248d h0 h1 h3 v0 h1 h2 v1 x38 v3 v4 h2 g0 f5 h3 g1 f6)) hD hS hA [0, 1, 2, 3] rfl
        refine va_calli (va_runV (As := [.int 3]) (rest := []) ⟨hx, hb, hml, hown, hts⟩ (k_X3_readSum_3 l dC dI adK adV h0 h1 h2 h3 v0 v1 x38 v3 v4 g0 f5 g1 f6 ⟨i_v0a, i_v0b⟩ ⟨i_v1a, i_v1b⟩ ⟨oa_x38, by first | omega | decide⟩ ia_f5 H.size) (cwV 1 hts g_X3_readUnit_4_1 rfl rfl rfl (by decide +kernel) ⟨Nat.le_of_ble_eq_true rfl, Nat.le_of_ble_eq_true rfl⟩) ⟨fun a U g mk q => by obtain ⟨q0, q1, qP, qK, qD, n0, n1, n2⟩ := q; exact ⟨q0, q1, qP, va_K.moved (u := U) (U := U.calling g mk a) (Vm.Alike.refl U.vm) qK, qD, vk_R.same rfl n0, va_Z.moved (Vm.Alike.refl _) n1, vk_S.moved (Vm.Alike.refl _) n2⟩, pv_rc3 hKc hPc (q0 := 0) rfl, fun U hU hW => ⟨rfl, by rw [hU], by rw [hU]; exact hPc, va_K.moved hW.alike hKc, hDc.weaken (fun _ _ _ _ => trivial), vk_R.warm hW h_vr_2, (by rw [hU]; exact (va_Z.moved hW.alike (va_Z.kept h_st_CS hS.2.1)).narrow hFc), (by rw [hU]; exact (vk_S.moved hW.alike (vk_S.kept h_st_S hS.2.1)).narrow hFc)⟩⟩ rfl rfl hl.1 rfl (lv_room (Nat.le_of_ble_eq_true rfl)) dX3_readUnit_108 ⟨Nat.le_of_ble_eq_true rfl, Nat.le_of_ble_eq_true rfl⟩) hS (fun q _ h => hFc q h) hFc (fun ra58 u t H1 locs ht hvm hwra58 hB hz1 hk1 hS => ?_)
        try rw [hwra58] at hB
        rcases hB with hB | hB
        · skip
          obtain ⟨x59, x60, x61, fn62, oa_x59, ob_x59, oa_x60, ob_x60, pt0_ra58, pt1_ra58, pt2_ra58, pt3_ra58, hP1, hK1, hD1⟩ := hB
          rw [ht] at hP1
          obtain ⟨hP2, hD2⟩ := va_join (wr := []) (w1 := (wd_1ad0248d h0 h1 h3 x59 h1 h2 v1 x60 v3 x61 h2 g0 f5 h3 g1 fn62)) hP hD [0, 1, 2, 3] [] rfl rfl (by decide) (by decide) hk1 hFc hP1 hD1
          clear hP hD hPc hDc hKc hFc hP1 hK1 hD1 hk1 hz1
          generalize H1 = H at hP2 hS ⊢
          have hP : va_P (dC, dI) vwCl (wd_1ad0248d h0 h1 h3 x59 h1 h2 v1 x60 v3 x61 h2 g0 f5 h3 g1 fn62) H := hP2
          have hD : va_D A (wd_1ad0248d h0 h1 h3 x59 h1 h2 v1 x60 v3 x61 h2 g0 f5 h3 g1 fn62) := hD2
          clear hP2 hD2
          obtain rfl : ra58 = (1 : Int32) := pv_cs (by decide) pt0_ra58 pt1_ra58
          refine lv_if_ne (tgt := 116) hx hb dX3_readUnit_111 (by decide) (fun _ => ?_) (fun c => absurd c (by decide))
          refine lv_aload_n hx hb dX3_readUnit_116 rfl (lv_at hl 1 rfl) ?_
          refine va_get (D := (dC, dI)) (ci := 3) (v := .ref h1) (C := RX3) (T := TX3) (N := 3) hx hb hts (fun _ h => List.mem_cons_of_mem _ (List.mem_append_left _ (List.mem_append_right _ h))) hown hK hP 0 rfl rfl 0 (by decide) (hts (.fieldLink RX3 19 "LeftArguments$LawReader" "tape" "LLeftArguments$Tape;") (List.mem_cons_of_mem _ (List.mem_append_left _ (List.mem_append_left _ (List.mem_of_getElem? (i := 0) rfl))))) (fun _ h9 => h9) rfl dX3_readUnit_117 ?_
          have hPc := hP.sub (ws' := (wd_82cdd16b h1 h2 v1 x60 v3 x61 h2 g0 f5)) [1, 2] rfl
          have hDc := hD.sub (ws' := (wd_82cdd16b h1 h2 v1 x60 v3 x61 h2 g0 f5)) [1, 2] (by decide) rfl
          have hKc := hK.sub (tys' := [(g0, .int)]) [0] rfl
          have hFc := va_free (wc := (wd_82cdd16b h1 h2 v1 x60 v3 x61 h2 g0 f5)) hD hS hA [1, 2] rfl
          refine va_calli (va_runV (As := []) (rest := []) ⟨hx, hb, hml, hown, hts⟩ (k_X10_next l dC dI h1 h2 v1 x60 v3 x61 g0 f5 ⟨i_v1a, i_v1b⟩ ⟨oa_x60, ob_x60⟩ ia_f5 H.size) (cwV 0 hts g_X3_readUnit_4_0 rfl rfl rfl (by decide +kernel) ⟨Nat.le_of_ble_eq_true rfl, Nat.le_of_ble_eq_true rfl⟩) (pv_PV10 hPc hKc hDc (q0 := 0) rfl) rfl rfl hl.1 rfl (lv_room (Nat.le_of_ble_eq_true rfl)) dX3_readUnit_120 ⟨Nat.le_of_ble_eq_true rfl, Nat.le_of_ble_eq_true rfl⟩) hS (fun q _ h => hFc q h) hFc (fun ra63 u t H1 locs ht hvm hwra63 hB hz1 hk1 hS => ?_)
          try rw [hwra63] at hB
          rcases hB with hB | hB
          · skip
            obtain ⟨x64, oa_x64, ob_x64, pt0_ra63, pt1_ra63, pt2_ra63, pt3_ra63, pt4_ra63, pt5_ra63, pt6_ra63, hP1, hK1, hD1⟩ := hB
            rw [ht] at hP1
            obtain ⟨hP2, hD2⟩ := va_join (wr := (wd_b958b9da h0 h1 h3 x59 h3 g1 fn62)) (w1 := (wd_82cdd16b h1 h2 v1 x64 v3 x61 h2 g0 f5)) hP hD [1, 2] [0, 3] rfl rfl (by decide) (by decide) hk1 hFc hP1 hD1
            clear hP hD hPc hDc hKc hFc hP1 hK1 hD1 hk1 hz1
            generalize H1 = H at hP2 hS ⊢
            have hP := hP2.sub (ws' := (wd_1ad0248d h0 h1 h3 x59 h1 h2 v1 x64 v3 x61 h2 g0 f5 h3 g1 fn62)) [0, 2, 3, 1] rfl
            have hD := hD2.sub (ws' := (wd_1ad0248d h0 h1 h3 x59 h1 h2 v1 x64 v3 x61 h2 g0 f5 h3 g1 fn62)) [0, 2, 3, 1] (by decide) rfl
            clear hP2 hD2
            obtain rfl : ra63 = ((-1) : Int32) := pv_cs (by decide) pt0_ra63 pt1_ra63
            have hPc := hP.sub (ws' := []) [] rfl
            have hDc := hD.sub (ws' := []) [] (by decide) rfl
            have hKc := hK.sub (tys' := []) [] rfl
            have hFc := va_free (wc := []) hD hS hA [] rfl
            refine va_calli (va_runS (As := [.int (-1)]) (rest := []) ⟨hx, hb, hml, hown, hts⟩ (k_X3_comparing l dC dI   H.size) (va_cwS 1 hts g_X3_readUnit_4_3 rfl rfl rfl (by decide +kernel) ⟨Nat.le_of_ble_eq_true rfl, Nat.le_of_ble_eq_true rfl⟩) (pv_PS hPc hKc hDc) rfl rfl hl.1 rfl (lv_room (Nat.le_of_ble_eq_true rfl)) dX3_readUnit_123 ⟨Nat.le_of_ble_eq_true rfl, Nat.le_of_ble_eq_true rfl⟩) hS (fun q _ h => hFc q h) hFc (fun ra65 u t H1 locs ht hvm hwra65 hB hz1 hk1 hS => ?_)
            try rw [hwra65] at hB
            obtain ⟨pt0_ra65, pt1_ra65, hP1, hK1, hD1⟩ := hB
            rw [ht] at hP1
            obtain ⟨hP2, hD2⟩ := va_join (wr := (wd_1ad0248d h0 h1 h3 x59 h1 h2 v1 x64 v3 x61 h2 g0 f5 h3 g1 fn62)) (w1 := []) hP hD [] [0, 1, 2, 3] rfl rfl (by decide) (by decide) hk1 hFc hP1 hD1
            clear hP hD hPc hDc hKc hFc hP1 hK1 hD1 hk1 hz1
            generalize H1 = H at hP2 hS ⊢
            have hP : va_P (dC, dI) vwCl (wd_1ad0248d h0 h1 h3 x59 h1 h2 v1 x64 v3 x61 h2 g0 f5 h3 g1 fn62) H := hP2
            have hD : va_D A (wd_1ad0248d h0 h1 h3 x59 h1 h2 v1 x64 v3 x61 h2 g0 f5 h3 g1 fn62) := hD2
            clear hP2 hD2
            obtain rfl : ra65 = ((-1) : Int32) := pv_cs (by decide) pt0_ra65 pt1_ra65
            refine lv_istore (lv' := [(4, .int (-1)), (3, .int ra1), (0, .ref h0), (1, .int 3), (2, .int 0)]) hx hb dX3_readUnit_126 hl (by decide) rfl (fun ls hl => ?_)
            refine lv_iload hx hb dX3_readUnit_128 (lv_at hl 0 rfl) ?_
            refine lv_iconst (v := (-1)) hx hb dX3_readUnit_130 (by decide) ?_
            refine lv_icmp_ne (tgt := 142) hx hb dX3_readUnit_131 (by decide) (fun c => absurd (by decide) c) (fun _ => ?_)
            refine lv_aload_n hx hb dX3_readUnit_134 rfl (lv_at hl 2 rfl) ?_
            refine va_get (D := (dC, dI)) (ci := 3) (v := .ref h1) (C := RX3) (T := TX3) (N := 3) hx hb hts (fun _ h => List.mem_cons_of_mem _ (List.mem_append_left _ (List.mem_append_right _ h))) hown hK hP 0 rfl rfl 0 (by decide) (hts (.fieldLink RX3 19 "LeftArguments$LawReader" "tape" "LLeftArguments$Tape;") (List.mem_cons_of_mem _ (List.mem_append_left _ (List.mem_append_left _ (List.mem_of_getElem? (i := 0) rfl))))) (fun _ h9 => h9) rfl dX3_readUnit_135 ?_
            have hPc := hP.sub (ws' := (wd_09b0abee h1 h2 v1 x64 v3 x61)) [1] rfl
            have hDc := hD.sub (ws' := (wd_09b0abee h1 h2 v1 x64 v3 x61)) [1] (by decide) rfl
            have hKc := hK.sub (tys' := []) [] rfl
            have hFc := va_free (wc := (wd_09b0abee h1 h2 v1 x64 v3 x61)) hD hS hA [1] rfl
            refine va_calli (va_runV (As := []) (rest := []) ⟨hx, hb, hml, hown, hts⟩ (k_X10_wrongHere l dC dI h1 h2 v1 x64 v3 x61 ⟨i_v1a, i_v1b⟩ ⟨oa_x64, ob_x64⟩ H.size) (cwV 0 hts g_X3_readUnit_4_4 rfl rfl rfl (by decide +kernel) ⟨Nat.le_of_ble_eq_true rfl, Nat.le_of_ble_eq_true rfl⟩) (pv_PV10 hPc hKc hDc (q0 := 0) rfl) rfl rfl hl.1 rfl (lv_room (Nat.le_of_ble_eq_true rfl)) dX3_readUnit_138 ⟨Nat.le_of_ble_eq_true rfl, Nat.le_of_ble_eq_true rfl⟩) hS (fun q _ h => hFc q h) hFc (fun ra66 u t H1 locs ht hvm hwra66 hB hz1 hk1 hS => ?_)
            try rw [hwra66] at hB
            obtain ⟨x67, oa_x67, ob_x67, pt0_ra66, pt1_ra66, pt2_ra66, hP1, hK1, hD1⟩ := hB
            rw [ht] at hP1
            obtain ⟨hP2, hD2⟩ := va_join (wr := (wd_6b0d8e05 h0 h1 h3 x59 h2 g0 f5 h3 g1 fn62)) (w1 := (wd_09b0abee h1 h2 v1 x64 x67 x61)) hP hD [1] [0, 2, 3] rfl rfl (by decide) (by decide) hk1 hFc hP1 hD1
            clear hP hD hPc hDc hKc hFc hP1 hK1 hD1 hk1 hz1
            generalize H1 = H at hP2 hS ⊢
            have hP := hP2.sub (ws' := (wd_1ad0248d h0 h1 h3 x59 h1 h2 v1 x64 x67 x61 h2 g0 f5 h3 g1 fn62)) [0, 3, 1, 2] rfl
            have hD := hD2.sub (ws' := (wd_1ad0248d h0 h1 h3 x59 h1 h2 v1 x64 x67 x61 h2 g0 f5 h3 g1 fn62)) [0, 3, 1, 2] (by decide) rfl
            clear hP2 hD2
            obtain rfl : ra66 = (0 : Int32) := pv_cs (by decide) pt0_ra66 pt1_ra66
            subst hQ
            have hP9 := hP.sub (ws' := (wd_1ad0248d h0 h1 h3 x59 h1 h2 v1 x64 x67 x61 h2 g0 f5 h3 g1 fn62)) [0, 1, 2, 3] rfl
            have hD9 := hD.sub (ws' := (wd_1ad0248d h0 h1 h3 x59 h1 h2 v1 x64 x67 x61 h2 g0 f5 h3 g1 fn62)) [0, 1, 2, 3] (by decide) rfl
            have hK9 := hK.sub (tys' := []) [] rfl
            exact W.zret (v := 0) hx hb hr rfl (fun t ht hW => ⟨⟨0, 0, rfl, rfl, Or.inr (⟨x59, x64, x67, x61, fn62, oa_x59, ob_x59, oa_x64, ob_x64, oa_x67, ob_x67, by first | omega | decide, by first | omega | decide, by omega, by show pg_unitF f5 v1.toInt 3 true (pg_unit f5 v1.toInt 2) (pg_con f5 v1.toInt (pg_unit f5 v1.toInt 2)) _ = _; first | (apply pg_unitF.not <;> first | assumption | omega) | (apply pg_unitF.par1 <;> first | assumption | omega) | (apply pg_unitF.par0 <;> first | assumption | omega) | (apply pg_unitF.deep <;> first | assumption | omega) | (apply pg_unitF.sm1 <;> first | assumption | omega) | (apply pg_unitF.sm2 <;> first | assumption | omega) | (apply pg_unitF.sum0 <;> first | assumption | omega), by rw [ht]; exact hP9, va_K.moved hW.alike hK9, hD9⟩)⟩, hS.F ht⟩) hS.2.2 dX3_readUnit_141
          · skip
            obtain ⟨x68, oa_x68, ob_x68, pt0_ra63, pt1_ra63, pt2_ra63, pt3_ra63, pt4_ra63, pt5_ra63, pt6_ra63, hP1, hK1, hD1⟩ := hB
            rw [ht] at hP1
            obtain ⟨hP2, hD2⟩ := va_join (wr := (wd_b958b9da h0 h1 h3 x59 h3 g1 fn62)) (w1 := (wd_82cdd16b h1 h2 v1 x68 v3 x61 h2 g0 f5)) hP hD [1, 2] [0, 3] rfl rfl (by decide) (by decide) hk1 hFc hP1 hD1
            clear hP hD hPc hDc hKc hFc hP1 hK1 hD1 hk1 hz1
            generalize H1 = H at hP2 hS ⊢
            have hP := hP2.sub (ws' := (wd_1ad0248d h0 h1 h3 x59 h1 h2 v1 x68 v3 x61 h2 g0 f5 h3 g1 fn62)) [0, 2, 3, 1] rfl
            have hD := hD2.sub (ws' := (wd_1ad0248d h0 h1 h3 x59 h1 h2 v1 x68 v3 x61 h2 g0 f5 h3 g1 fn62)) [0, 2, 3, 1] (by decide) rfl
            clear hP2 hD2
            have hPc := hP.sub (ws' := []) [] rfl
            have hDc := hD.sub (ws' := []) [] (by decide) rfl
            have hKc := hK.sub (tys' := []) [] rfl
            have hFc := va_free (wc := []) hD hS hA [] rfl
            refine va_calli (va_runS (As := [.int ra63]) (rest := []) ⟨hx, hb, hml, hown, hts⟩ (k_X3_comparing_1 l dC dI ra63  H.size) (va_cwS 1 hts g_X3_readUnit_4_5 rfl rfl rfl (by decide +kernel) ⟨Nat.le_of_ble_eq_true rfl, Nat.le_of_ble_eq_true rfl⟩) (pv_PS hPc hKc hDc) rfl rfl hl.1 rfl (lv_room (Nat.le_of_ble_eq_true rfl)) dX3_readUnit_123 ⟨Nat.le_of_ble_eq_true rfl, Nat.le_of_ble_eq_true rfl⟩) hS (fun q _ h => hFc q h) hFc (fun ra69 u t H1 locs ht hvm hwra69 hB hz1 hk1 hS => ?_)
            try rw [hwra69] at hB
            obtain ⟨pt0_ra69, pt1_ra69, pt2_ra69, hP1, hK1, hD1⟩ := hB
            rw [ht] at hP1
            obtain ⟨hP2, hD2⟩ := va_join (wr := (wd_1ad0248d h0 h1 h3 x59 h1 h2 v1 x68 v3 x61 h2 g0 f5 h3 g1 fn62)) (w1 := []) hP hD [] [0, 1, 2, 3] rfl rfl (by decide) (by decide) hk1 hFc hP1 hD1
            clear hP hD hPc hDc hKc hFc hP1 hK1 hD1 hk1 hz1
            generalize H1 = H at hP2 hS ⊢
            have hP : va_P (dC, dI) vwCl (wd_1ad0248d h0 h1 h3 x59 h1 h2 v1 x68 v3 x61 h2 g0 f5 h3 g1 fn62) H := hP2
            have hD : va_D A (wd_1ad0248d h0 h1 h3 x59 h1 h2 v1 x68 v3 x61 h2 g0 f5 h3 g1 fn62) := hD2
            clear hP2 hD2
            refine lv_istore (lv' := [(4, .int ra69), (3, .int ra1), (0, .ref h0), (1, .int 3), (2, .int 0)]) hx hb dX3_readUnit_126 hl (by decide) rfl (fun ls hl => ?_)
            refine lv_iload hx hb dX3_readUnit_128 (lv_at hl 0 rfl) ?_
            refine lv_iconst (v := (-1)) hx hb dX3_readUnit_130 (by decide) ?_
            refine lv_icmp_ne (tgt := 142) hx hb dX3_readUnit_131 (by decide) (fun c70 => ?_) (fun c70 => ?_)
            · skip
              have fc70 : ¬ (ra69.toInt = (-1)) := fun h9 => c70 (Int32.toInt_inj.mp h9)
              refine lv_aload_n hx hb dX3_readUnit_142 rfl (lv_at hl 2 rfl) ?_
              refine va_get (D := (dC, dI)) (ci := 3) (v := .ref h1) (C := RX3) (T := TX3) (N := 3) hx hb hts (fun _ h => List.mem_cons_of_mem _ (List.mem_append_left _ (List.mem_append_right _ h))) hown hK hP 0 rfl rfl 0 (by decide) (hts (.fieldLink RX3 19 "LeftArguments$LawReader" "tape" "LLeftArguments$Tape;") (List.mem_cons_of_mem _ (List.mem_append_left _ (List.mem_append_left _ (List.mem_of_getElem? (i := 0) rfl))))) (fun _ h9 => h9) rfl dX3_readUnit_143 ?_
              have hPc := hP.sub (ws' := (wd_09b0abee h1 h2 v1 x68 v3 x61)) [1] rfl
              have hDc := hD.sub (ws' := (wd_09b0abee h1 h2 v1 x68 v3 x61)) [1] (by decide) rfl
              have hKc := hK.sub (tys' := []) [] rfl
              have hFc := va_free (wc := (wd_09b0abee h1 h2 v1 x68 v3 x61)) hD hS hA [1] rfl
              refine va_callv (va_runV (As := []) (rest := []) ⟨hx, hb, hml, hown, hts⟩ (k_X10_step l dC dI h1 h2 v1 x68 v3 x61 ⟨i_v1a, i_v1b⟩ ⟨oa_x68, ob_x68⟩ H.size) (cwV 0 hts g_X3_readUnit_4_6 rfl rfl rfl (by decide +kernel) ⟨Nat.le_of_ble_eq_true rfl, Nat.le_of_ble_eq_true rfl⟩) (pv_PV10 hPc hKc hDc (q0 := 0) rfl) rfl rfl hl.1 rfl (lv_room (Nat.le_of_ble_eq_true rfl)) dX3_readUnit_146 ⟨Nat.le_of_ble_eq_true rfl, Nat.le_of_ble_eq_true rfl⟩) hS (fun q _ h => hFc q h) hFc (fun u t H1 locs ht hvm hwra71 hB hz1 hk1 hS => ?_)
              obtain ⟨x72, oa_x72, ob_x72, pt0_ra71, hP1, hK1, hD1⟩ := hB
              rw [ht] at hP1
              obtain ⟨hP2, hD2⟩ := va_join (wr := (wd_6b0d8e05 h0 h1 h3 x59 h2 g0 f5 h3 g1 fn62)) (w1 := (wd_09b0abee h1 h2 v1 x72 v3 x61)) hP hD [1] [0, 2, 3] rfl rfl (by decide) (by decide) hk1 hFc hP1 hD1
              clear hP hD hPc hDc hKc hFc hP1 hK1 hD1 hk1 hz1
              generalize H1 = H at hP2 hS ⊢
              have hP := hP2.sub (ws' := (wd_1ad0248d h0 h1 h3 x59 h1 h2 v1 x72 v3 x61 h2 g0 f5 h3 g1 fn62)) [0, 3, 1, 2] rfl
              have hD := hD2.sub (ws' := (wd_1ad0248d h0 h1 h3 x59 h1 h2 v1 x72 v3 x61 h2 g0 f5 h3 g1 fn62)) [0, 3, 1, 2] (by decide) rfl
              clear hP2 hD2
              refine lv_aload_n hx hb dX3_readUnit_149 rfl (lv_at hl 2 rfl) ?_
              refine lv_iload_n hx hb dX3_readUnit_150 rfl (lv_at hl 3 rfl) ?_
              have hPc := hP.sub (ws' := (wd_1ad0248d h0 h1 h3 x59 h1 h2 v1 x72 v3 x61 h2 g0 f5 h3 g1 fn62)) [0, 1, 2, 3] rfl
              have hDc := hD.sub (ws' := (wd_1ad0248d h0 h1 h3 x59 h1 h2 v1 x72 v3 x61 h2 g0 f5 h3 g1 fn62)) [0, 1, 2, 3] (by decide) rfl
              have hKc := hK.sub (tys' := [(g0, .int), (g1, .int)]) [0, 1] rfl
              have hFc := va_free (wc := (wd_1ad0248d h0 h1 h3 x59 h1 h2 v1 x72 v3 x61 h2 g0 f5 h3 g1 fn62)) hD hS hA [0, 1, 2, 3] rfl
              refine va_calli (va_runV (As := [.int 3]) (rest := []) ⟨hx, hb, hml, hown, hts⟩ (k_X3_readSum_3 l dC dI adK adV h0 h1 h2 h3 x59 v1 x72 v3 x61 g0 f5 g1 fn62 ⟨oa_x59, ob_x59⟩ ⟨i_v1a, i_v1b⟩ ⟨by first | omega | decide, ob_x72⟩ ia_f5 H.size) (cwV 1 hts g_X3_readUnit_4_1 rfl rfl rfl (by decide +kernel) ⟨Nat.le_of_ble_eq_true rfl, Nat.le_of_ble_eq_true rfl⟩) ⟨fun a U g mk q => by obtain ⟨q0, q1, qP, qK, qD, n0, n1, n2⟩ := q; exact ⟨q0, q1, qP, va_K.moved (u := U) (U := U.calling g mk a) (Vm.Alike.refl U.vm) qK, qD, vk_R.same rfl n0, va_Z.moved (Vm.Alike.refl _) n1, vk_S.moved (Vm.Alike.refl _) n2⟩, pv_rc3 hKc hPc (q0 := 0) rfl, fun U hU hW => ⟨rfl, by rw [hU], by rw [hU]; exact hPc, va_K.moved hW.alike hKc, hDc.weaken (fun _ _ _ _ => trivial), vk_R.warm hW h_vr_2, (by rw [hU]; exact (va_Z.moved hW.alike (va_Z.kept h_st_CS hS.2.1)).narrow hFc), (by rw [hU]; exact (vk_S.moved hW.alike (vk_S.kept h_st_S hS.2.1)).narrow hFc)⟩⟩ rfl rfl hl.1 rfl (lv_room (Nat.le_of_ble_eq_true rfl)) dX3_readUnit_151 ⟨Nat.le_of_ble_eq_true rfl, Nat.le_of_ble_eq_true rfl⟩) hS (fun q _ h => hFc q h) hFc (fun ra73 u t H1 locs ht hvm hwra73 hB hz1 hk1 hS => ?_)
              try rw [hwra73] at hB
              rcases hB with hB | hB
              · skip
                obtain ⟨x74, x75, x76, fn77, oa_x74, ob_x74, oa_x75, ob_x75, pt0_ra73, pt1_ra73, pt2_ra73, pt3_ra73, hP1, hK1, hD1⟩ := hB
                rw [ht] at hP1
                obtain ⟨hP2, hD2⟩ := va_join (wr := []) (w1 := (wd_1ad0248d h0 h1 h3 x74 h1 h2 v1 x75 v3 x76 h2 g0 f5 h3 g1 fn77)) hP hD [0, 1, 2, 3] [] rfl rfl (by decide) (by decide) hk1 hFc hP1 hD1
                clear hP hD hPc hDc hKc hFc hP1 hK1 hD1 hk1 hz1
                generalize H1 = H at hP2 hS ⊢
                have hP : va_P (dC, dI) vwCl (wd_1ad0248d h0 h1 h3 x74 h1 h2 v1 x75 v3 x76 h2 g0 f5 h3 g1 fn77) H := hP2
                have hD : va_D A (wd_1ad0248d h0 h1 h3 x74 h1 h2 v1 x75 v3 x76 h2 g0 f5 h3 g1 fn77) := hD2
                clear hP2 hD2
                obtain rfl : ra73 = (1 : Int32) := pv_cs (by decide) pt0_ra73 pt1_ra73
                refine lv_if_ne (tgt := 159) hx hb dX3_readUnit_154 (by decide) (fun _ => ?_) (fun c => absurd c (by decide))
                refine lv_aload_n hx hb dX3_readUnit_159 rfl (lv_at hl 2 rfl) ?_
                refine lv_iload hx hb dX3_readUnit_160 (lv_at hl 0 rfl) ?_
                refine lv_iconst (v := 0) hx hb dX3_readUnit_162 (by decide) ?_
                have hPc := hP.sub (ws' := (wd_b958b9da h0 h1 h3 x74 h3 g1 fn77)) [0, 3] rfl
                have hDc := hD.sub (ws' := (wd_b958b9da h0 h1 h3 x74 h3 g1 fn77)) [0, 3] (by decide) rfl
                have hKc := hK.sub (tys' := [(g1, .int)]) [1] rfl
                have hFc := va_free (wc := (wd_b958b9da h0 h1 h3 x74 h3 g1 fn77)) hD hS hA [0, 3] rfl
                refine va_callv (va_runV (As := [.int ra69, .int 0]) (rest := []) ⟨hx, hb, hml, hown, hts⟩ (k_X3_write l dC dI h0 h3 h1 x74 g1 fn77 ra69 0 ⟨oa_x74, ob_x74⟩ H.size) (cwV 2 hts g_X3_readUnit_4_8 rfl rfl rfl (by decide +kernel) ⟨Nat.le_of_ble_eq_true rfl, Nat.le_of_ble_eq_true rfl⟩) (pv_PV3 hPc hKc hDc (q0 := 0) rfl) rfl rfl hl.1 rfl (lv_room (Nat.le_of_ble_eq_true rfl)) dX3_readUnit_163 ⟨Nat.le_of_ble_eq_true rfl, Nat.le_of_ble_eq_true rfl⟩) hS (fun q _ h => hFc q h) hFc (fun u t H1 locs ht hvm hwra78 hB hz1 hk1 hS => ?_)
                obtain ⟨x79, fn80, oa_x79, ob_x79, hP1, hK1, hD1⟩ := hB
                rw [ht] at hP1
                obtain ⟨hP2, hD2⟩ := va_join (wr := (wd_82cdd16b h1 h2 v1 x75 v3 x76 h2 g0 f5)) (w1 := (wd_b958b9da h0 h1 h3 x79 h3 g1 fn80)) hP hD [0, 3] [1, 2] rfl rfl (by decide) (by decide) hk1 hFc hP1 hD1
                clear hP hD hPc hDc hKc hFc hP1 hK1 hD1 hk1 hz1
                generalize H1 = H at hP2 hS ⊢
                have hP := hP2.sub (ws' := (wd_1ad0248d h0 h1 h3 x79 h1 h2 v1 x75 v3 x76 h2 g0 f5 h3 g1 fn80)) [2, 0, 1, 3] rfl
                have hD := hD2.sub (ws' := (wd_1ad0248d h0 h1 h3 x79 h1 h2 v1 x75 v3 x76 h2 g0 f5 h3 g1 fn80)) [2, 0, 1, 3] (by decide) rfl
                clear hP2 hD2
                refine lv_iconst (v := 1) hx hb dX3_readUnit_166 (by decide) ?_
                subst hQ
                have hP9 := hP.sub (ws' := (wd_1ad0248d h0 h1 h3 x79 h1 h2 v1 x75 v3 x76 h2 g0 f5 h3 g1 fn80)) [0, 1, 2, 3] rfl
                have hD9 := hD.sub (ws' := (wd_1ad0248d h0 h1 h3 x79 h1 h2 v1 x75 v3 x76 h2 g0 f5 h3 g1 fn80)) [0, 1, 2, 3] (by decide) rfl
                have hK9 := hK.sub (tys' := []) [] rfl
                exact W.zret (v := 1) hx hb hr rfl (fun t ht hW => ⟨⟨1, 1, rfl, rfl, Or.inl ⟨x79, x75, x76, fn80, oa_x79, ob_x79, oa_x75, ob_x75, by first | omega | decide, by first | omega | decide, by omega, by show pg_unitF f5 v1.toInt 3 true (pg_unit f5 v1.toInt 2) (pg_con f5 v1.toInt (pg_unit f5 v1.toInt 2)) _ = _; first | (apply pg_unitF.not <;> first | assumption | omega) | (apply pg_unitF.par1 <;> first | assumption | omega) | (apply pg_unitF.par0 <;> first | assumption | omega) | (apply pg_unitF.deep <;> first | assumption | omega) | (apply pg_unitF.sm1 <;> first | assumption | omega) | (apply pg_unitF.sm2 <;> first | assumption | omega) | (apply pg_unitF.sum0 <;> first | assumption | omega), by rw [ht]; exact hP9, va_K.moved hW.alike hK9, hD9⟩⟩, hS.F ht⟩) hS.2.2 dX3_readUnit_167
              · skip
                obtain ⟨x81, x82, x83, x84, fn85, oa_x81, ob_x81, oa_x82, ob_x82, oa_x83, ob_x83, pt0_ra73, pt1_ra73, pt2_ra73, pt3_ra73, hP1, hK1, hD1⟩ := hB
                rw [ht] at hP1
                obtain ⟨hP2, hD2⟩ := va_join (wr := []) (w1 := (wd_1ad0248d h0 h1 h3 x81 h1 h2 v1 x82 x83 x84 h2 g0 f5 h3 g1 fn85)) hP hD [0, 1, 2, 3] [] rfl rfl (by decide) (by decide) hk1 hFc hP1 hD1
                clear hP hD hPc hDc hKc hFc hP1 hK1 hD1 hk1 hz1
                generalize H1 = H at hP2 hS ⊢
                have hP : va_P (dC, dI) vwCl (wd_1ad0248d h0 h1 h3 x81 h1 h2 v1 x82 x83 x84 h2 g0 f5 h3 g1 fn85) H := hP2
                have hD : va_D A (wd_1ad0248d h0 h1 h3 x81 h1 h2 v1 x82 x83 x84 h2 g0 f5 h3 g1 fn85) := hD2
                clear hP2 hD2
                obtain rfl : ra73 = (0 : Int32) := pv_cs (by decide) pt0_ra73 pt1_ra73
                refine lv_if_ne (tgt := 159) hx hb dX3_readUnit_154 (by decide) (fun c => absurd (by decide) c) (fun _ => ?_)
                refine lv_iconst (v := 0) hx hb dX3_readUnit_157 (by decide) ?_
                subst hQ
                have hP9 := hP.sub (ws' := (wd_1ad0248d h0 h1 h3 x81 h1 h2 v1 x82 x83 x84 h2 g0 f5 h3 g1 fn85)) [0, 1, 2, 3] rfl
                have hD9 := hD.sub (ws' := (wd_1ad0248d h0 h1 h3 x81 h1 h2 v1 x82 x83 x84 h2 g0 f5 h3 g1 fn85)) [0, 1, 2, 3] (by decide) rfl
                have hK9 := hK.sub (tys' := []) [] rfl
                exact W.zret (v := 0) hx hb hr rfl (fun t ht hW => ⟨⟨0, 0, rfl, rfl, Or.inr (⟨x81, x82, x83, x84, fn85, oa_x81, ob_x81, oa_x82, ob_x82, oa_x83, ob_x83, by first | omega | decide, by first | omega | decide, by omega, by show pg_unitF f5 v1.toInt 3 true (pg_unit f5 v1.toInt 2) (pg_con f5 v1.toInt (pg_unit f5 v1.toInt 2)) _ = _; first | (apply pg_unitF.not <;> first | assumption | omega) | (apply pg_unitF.par1 <;> first | assumption | omega) | (apply pg_unitF.par0 <;> first | assumption | omega) | (apply pg_unitF.deep <;> first | assumption | omega) | (apply pg_unitF.sm1 <;> first | assumption | omega) | (apply pg_unitF.sm2 <;> first | assumption | omega) | (apply pg_unitF.sum0 <;> first | assumption | omega), by rw [ht]; exact hP9, va_K.moved hW.alike hK9, hD9⟩)⟩, hS.F ht⟩) hS.2.2 dX3_readUnit_158
            · skip
              have fc70 : ra69.toInt = (-1) := congrArg Int32.toInt c70
              refine lv_aload_n hx hb dX3_readUnit_134 rfl (lv_at hl 2 rfl) ?_
              refine va_get (D := (dC, dI)) (ci := 3) (v := .ref h1) (C := RX3) (T := TX3) (N := 3) hx hb hts (fun _ h => List.mem_cons_of_mem _ (List.mem_append_left _ (List.mem_append_right _ h))) hown hK hP 0 rfl rfl 0 (by decide) (hts (.fieldLink RX3 19 "LeftArguments$LawReader" "tape" "LLeftArguments$Tape;") (List.mem_cons_of_mem _ (List.mem_append_left _ (List.mem_append_left _ (List.mem_of_getElem? (i := 0) rfl))))) (fun _ h9 => h9) rfl dX3_readUnit_135 ?_
              have hPc := hP.sub (ws' := (wd_09b0abee h1 h2 v1 x68 v3 x61)) [1] rfl
              have hDc := hD.sub (ws' := (wd_09b0abee h1 h2 v1 x68 v3 x61)) [1] (by decide) rfl
              have hKc := hK.sub (tys' := []) [] rfl
              have hFc := va_free (wc := (wd_09b0abee h1 h2 v1 x68 v3 x61)) hD hS hA [1] rfl
              refine va_calli (va_runV (As := []) (rest := []) ⟨hx, hb, hml, hown, hts⟩ (k_X10_wrongHere l dC dI h1 h2 v1 x68 v3 x61 ⟨i_v1a, i_v1b⟩ ⟨oa_x68, by first | omega | decide⟩ H.size) (cwV 0 hts g_X3_readUnit_4_4 rfl rfl rfl (by decide +kernel) ⟨Nat.le_of_ble_eq_true rfl, Nat.le_of_ble_eq_true rfl⟩) (pv_PV10 hPc hKc hDc (q0 := 0) rfl) rfl rfl hl.1 rfl (lv_room (Nat.le_of_ble_eq_true rfl)) dX3_readUnit_138 ⟨Nat.le_of_ble_eq_true rfl, Nat.le_of_ble_eq_true rfl⟩) hS (fun q _ h => hFc q h) hFc (fun ra86 u t H1 locs ht hvm hwra86 hB hz1 hk1 hS => ?_)
              try rw [hwra86] at hB
              obtain ⟨x87, oa_x87, ob_x87, pt0_ra86, pt1_ra86, pt2_ra86, hP1, hK1, hD1⟩ := hB
              rw [ht] at hP1
              obtain ⟨hP2, hD2⟩ := va_join (wr := (wd_6b0d8e05 h0 h1 h3 x59 h2 g0 f5 h3 g1 fn62)) (w1 := (wd_09b0abee h1 h2 v1 x68 x87 x61)) hP hD [1] [0, 2, 3] rfl rfl (by decide) (by decide) hk1 hFc hP1 hD1
              clear hP hD hPc hDc hKc hFc hP1 hK1 hD1 hk1 hz1
              generalize H1 = H at hP2 hS ⊢
              have hP := hP2.sub (ws' := (wd_1ad0248d h0 h1 h3 x59 h1 h2 v1 x68 x87 x61 h2 g0 f5 h3 g1 fn62)) [0, 3, 1, 2] rfl
              have hD := hD2.sub (ws' := (wd_1ad0248d h0 h1 h3 x59 h1 h2 v1 x68 x87 x61 h2 g0 f5 h3 g1 fn62)) [0, 3, 1, 2] (by decide) rfl
              clear hP2 hD2
              obtain rfl : ra86 = (0 : Int32) := pv_cs (by decide) pt0_ra86 pt1_ra86
              subst hQ
              have hP9 := hP.sub (ws' := (wd_1ad0248d h0 h1 h3 x59 h1 h2 v1 x68 x87 x61 h2 g0 f5 h3 g1 fn62)) [0, 1, 2, 3] rfl
              have hD9 := hD.sub (ws' := (wd_1ad0248d h0 h1 h3 x59 h1 h2 v1 x68 x87 x61 h2 g0 f5 h3 g1 fn62)) [0, 1, 2, 3] (by decide) rfl
              have hK9 := hK.sub (tys' := []) [] rfl
              exact W.zret (v := 0) hx hb hr rfl (fun t ht hW => ⟨⟨0, 0, rfl, rfl, Or.inr (⟨x59, x68, x87, x61, fn62, oa_x59, ob_x59, oa_x68, by first | omega | decide, oa_x87, ob_x87, by first | omega | decide, by first | omega | decide, by omega, by show pg_unitF f5 v1.toInt 3 true (pg_unit f5 v1.toInt 2) (pg_con f5 v1.toInt (pg_unit f5 v1.toInt 2)) _ = _; first | (apply pg_unitF.not <;> first | assumption | omega) | (apply pg_unitF.par1 <;> first | assumption | omega) | (apply pg_unitF.par0 <;> first | assumption | omega) | (apply pg_unitF.deep <;> first | assumption | omega) | (apply pg_unitF.sm1 <;> first | assumption | omega) | (apply pg_unitF.sm2 <;> first | assumption | omega) | (apply pg_unitF.sum0 <;> first | assumption | omega), by rw [ht]; exact hP9, va_K.moved hW.alike hK9, hD9⟩)⟩, hS.F ht⟩) hS.2.2 dX3_readUnit_141
        · skip
          obtain ⟨x88, x89, x90, x91, fn92, oa_x88, ob_x88, oa_x89, ob_x89, oa_x90, ob_x90, pt0_ra58, pt1_ra58, pt2_ra58, pt3_ra58, hP1, hK1, hD1⟩ := hB
          rw [ht] at hP1
          obtain ⟨hP2, hD2⟩ := va_join (wr := []) (w1 := (wd_1ad0248d h0 h1 h3 x88 h1 h2 v1 x89 x90 x91 h2 g0 f5 h3 g1 fn92)) hP hD [0, 1, 2, 3] [] rfl rfl (by decide) (by decide) hk1 hFc hP1 hD1
          clear hP hD hPc hDc hKc hFc hP1 hK1 hD1 hk1 hz1
          generalize H1 = H at hP2 hS ⊢
          have hP : va_P (dC, dI) vwCl (wd_1ad0248d h0 h1 h3 x88 h1 h2 v1 x89 x90 x91 h2 g0 f5 h3 g1 fn92) H := hP2
          have hD : va_D A (wd_1ad0248d h0 h1 h3 x88 h1 h2 v1 x89 x90 x91 h2 g0 f5 h3 g1 fn92) := hD2
          clear hP2 hD2
          obtain rfl : ra58 = (0 : Int32) := pv_cs (by decide) pt0_ra58 pt1_ra58
          refine lv_if_ne (tgt := 116) hx hb dX3_readUnit_111 (by decide) (fun c => absurd (by decide) c) (fun _ => ?_)
          refine lv_iconst (v := 0) hx hb dX3_readUnit_114 (by decide) ?_
          subst hQ
          have hP9 := hP.sub (ws' := (wd_1ad0248d h0 h1 h3 x88 h1 h2 v1 x89 x90 x91 h2 g0 f5 h3 g1 fn92)) [0, 1, 2, 3] rfl
          have hD9 := hD.sub (ws' := (wd_1ad0248d h0 h1 h3 x88 h1 h2 v1 x89 x90 x91 h2 g0 f5 h3 g1 fn92)) [0, 1, 2, 3] (by decide) rfl
          have hK9 := hK.sub (tys' := []) [] rfl
          exact W.zret (v := 0) hx hb hr rfl (fun t ht hW => ⟨⟨0, 0, rfl, rfl, Or.inr (⟨x88, x89, x90, x91, fn92, oa_x88, ob_x88, oa_x89, ob_x89, oa_x90, ob_x90, by first | omega | decide, by first | omega | decide, by omega, by show pg_unitF f5 v1.toInt 3 true (pg_unit f5 v1.toInt 2) (pg_con f5 v1.toInt (pg_unit f5 v1.toInt 2)) _ = _; first | (apply pg_unitF.not <;> first | assumption | omega) | (apply pg_unitF.par1 <;> first | assumption | omega) | (apply pg_unitF.par0 <;> first | assumption | omega) | (apply pg_unitF.deep <;> first | assumption | omega) | (apply pg_unitF.sm1 <;> first | assumption | omega) | (apply pg_unitF.sm2 <;> first | assumption | omega) | (apply pg_unitF.sum0 <;> first | assumption | omega), by rw [ht]; exact hP9, va_K.moved hW.alike hK9, hD9⟩)⟩, hS.F ht⟩) hS.2.2 dX3_readUnit_115
      · skip
        have fc57 : ra1.toInt = 40 := congrArg Int32.toInt c57
        refine lv_iload_n hx hb dX3_readUnit_24 rfl (lv_at hl 2 rfl) ?_
        refine lv_bipush (v := 6) hx hb dX3_readUnit_25 (by decide) ?_
        refine lv_icmp_lt (tgt := 38) hx hb dX3_readUnit_27 (by decide) (fun _ => ?_) (fun c => absurd (by decide) c)
        refine lv_aload_n hx hb dX3_readUnit_38 rfl (lv_at hl 1 rfl) ?_
        refine va_get (D := (dC, dI)) (ci := 3) (v := .ref h1) (C := RX3) (T := TX3) (N := 3) hx hb hts (fun _ h => List.mem_cons_of_mem _ (List.mem_append_left _ (List.mem_append_right _ h))) hown hK hP 0 rfl rfl 0 (by decide) (hts (.fieldLink RX3 19 "LeftArguments$LawReader" "tape" "LLeftArguments$Tape;") (List.mem_cons_of_mem _ (List.mem_append_left _ (List.mem_append_left _ (List.mem_of_getElem? (i := 0) rfl))))) (fun _ h9 => h9) rfl dX3_readUnit_39 ?_
        have hPc := hP.sub (ws' := (wd_09b0abee h1 h2 v1 x38 v3 v4)) [1] rfl
        have hDc := hD.sub (ws' := (wd_09b0abee h1 h2 v1 x38 v3 v4)) [1] (by decide) rfl
        have hKc := hK.sub (tys' := []) [] rfl
        have hFc := va_free (wc := (wd_09b0abee h1 h2 v1 x38 v3 v4)) hD hS hA [1] rfl
        refine va_callv (va_runV (As := []) (rest := []) ⟨hx, hb, hml, hown, hts⟩ (k_X10_step l dC dI h1 h2 v1 x38 v3 v4 ⟨i_v1a, i_v1b⟩ ⟨oa_x38, ob_x38⟩ H.size) (cwV 0 hts g_X3_readUnit_4_6 rfl rfl rfl (by decide +kernel) ⟨Nat.le_of_ble_eq_true rfl, Nat.le_of_ble_eq_true rfl⟩) (pv_PV10 hPc hKc hDc (q0 := 0) rfl) rfl rfl hl.1 rfl (lv_room (Nat.le_of_ble_eq_true rfl)) dX3_readUnit_42 ⟨Nat.le_of_ble_eq_true rfl, Nat.le_of_ble_eq_true rfl⟩) hS (fun q _ h => hFc q h) hFc (fun u t H1 locs ht hvm hwra93 hB hz1 hk1 hS => ?_)
        obtain ⟨x94, oa_x94, ob_x94, pt0_ra93, hP1, hK1, hD1⟩ := hB
        rw [ht] at hP1
        obtain ⟨hP2, hD2⟩ := va_join (wr := (wd_6b0d8e05 h0 h1 h3 v0 h2 g0 f5 h3 g1 f6)) (w1 := (wd_09b0abee h1 h2 v1 x94 v3 v4)) hP hD [1] [0, 2, 3] rfl rfl (by decide) (by decide) hk1 hFc hP1 hD1
        clear hP hD hPc hDc hKc hFc hP1 hK1 hD1 hk1 hz1
        generalize H1 = H at hP2 hS ⊢
        have hP := hP2.sub (ws' := (wd_1ad0248d h0 h1 h3 v0 h1 h2 v1 x94 v3 v4 h2 g0 f5 h3 g1 f6)) [0, 3, 1, 2] rfl
        have hD := hD2.sub (ws' := (wd_1ad0248d h0 h1 h3 v0 h1 h2 v1 x94 v3 v4 h2 g0 f5 h3 g1 f6)) [0, 3, 1, 2] (by decide) rfl
        clear hP2 hD2
        refine lv_iload_n hx hb dX3_readUnit_45 rfl (lv_at hl 0 rfl) ?_
        refine lv_bipush (v := 40) hx hb dX3_readUnit_46 (by decide) ?_
        refine lv_icmp_ne (tgt := 80) hx hb dX3_readUnit_48 (by decide) (fun c95 => by exfalso; have fc95 : ¬ (ra1.toInt = 40) := fun h9 => c95 (Int32.toInt_inj.mp h9); omega) (fun _ => ?_)
        refine lv_aload_n hx hb dX3_readUnit_51 rfl (lv_at hl 1 rfl) ?_
        refine lv_iload_n hx hb dX3_readUnit_52 rfl (lv_at hl 2 rfl) ?_
        refine lv_iconst (v := 1) hx hb dX3_readUnit_53 (by decide) ?_
        refine lv_iadd hx hb dX3_readUnit_54 ?_
        refine lv_topi (fun tv96 etv96 => ?_)
        obtain rfl : tv96 = (4 : Int32) := etv96.trans (by first | rfl | decide)
        refine lv_iconst (v := 0) hx hb dX3_readUnit_55 (by decide) ?_
        have hPc := hP.sub (ws' := (wd_1ad0248d h0 h1 h3 v0 h1 h2 v1 x94 v3 v4 h2 g0 f5 h3 g1 f6)) [0, 1, 2, 3] rfl
        have hDc := hD.sub (ws' := (wd_1ad0248d h0 h1 h3 v0 h1 h2 v1 x94 v3 v4 h2 g0 f5 h3 g1 f6)) [0, 1, 2, 3] (by decide) rfl
        have hKc := hK.sub (tys' := [(g0, .int), (g1, .int)]) [0, 1] rfl
        have hFc := va_free (wc := (wd_1ad0248d h0 h1 h3 v0 h1 h2 v1 x94 v3 v4 h2 g0 f5 h3 g1 f6)) hD hS hA [0, 1, 2, 3] rfl
        refine va_calli (va_runV (As := [.int 4, .int 0]) (rest := []) ⟨hx, hb, hml, hown, hts⟩ (k_X3_readCondition_2 l dC dI adK adV h0 h1 h2 h3 v0 v1 x94 v3 v4 g0 f5 g1 f6 ⟨i_v0a, i_v0b⟩ ⟨i_v1a, i_v1b⟩ ⟨by first | omega | decide, ob_x94⟩ ia_f5 H.size) (cwV 2 hts g_X3_readUnit_4_23 rfl rfl rfl (by decide +kernel) ⟨Nat.le_of_ble_eq_true rfl, Nat.le_of_ble_eq_true rfl⟩) ⟨fun a U g mk q => by obtain ⟨q0, q1, qP, qK, qD, n0, n1, n2⟩ := q; exact ⟨q0, q1, qP, va_K.moved (u := U) (U := U.calling g mk a) (Vm.Alike.refl U.vm) qK, qD, vk_R.same rfl n0, va_Z.moved (Vm.Alike.refl _) n1, vk_S.moved (Vm.Alike.refl _) n2⟩, pv_rc3 hKc hPc (q0 := 0) rfl, fun U hU hW => ⟨rfl, by rw [hU], by rw [hU]; exact hPc, va_K.moved hW.alike hKc, hDc.weaken (fun _ _ _ _ => trivial), vk_R.warm hW h_vr_2, (by rw [hU]; exact (va_Z.moved hW.alike (va_Z.kept h_st_CS hS.2.1)).narrow hFc), (by rw [hU]; exact (vk_S.moved hW.alike (vk_S.kept h_st_S hS.2.1)).narrow hFc)⟩⟩ rfl rfl hl.1 rfl (lv_room (Nat.le_of_ble_eq_true rfl)) dX3_readUnit_56 ⟨Nat.le_of_ble_eq_true rfl, Nat.le_of_ble_eq_true rfl⟩) hS (fun q _ h => hFc q h) hFc (fun ra97 u t H1 locs ht hvm hwra97 hB hz1 hk1 hS => ?_)
        try rw [hwra97] at hB
        rcases hB with hB | hB
        · skip
          obtain ⟨x98, x99, x100, fn101, oa_x98, ob_x98, oa_x99, ob_x99, pt0_ra97, pt1_ra97, pt2_ra97, pt3_ra97, hP1, hK1, hD1⟩ := hB
          rw [ht] at hP1
          obtain ⟨hP2, hD2⟩ := va_join (wr := []) (w1 := (wd_1ad0248d h0 h1 h3 x98 h1 h2 v1 x99 v3 x100 h2 g0 f5 h3 g1 fn101)) hP hD [0, 1, 2, 3] [] rfl rfl (by decide) (by decide) hk1 hFc hP1 hD1
          clear hP hD hPc hDc hKc hFc hP1 hK1 hD1 hk1 hz1
          generalize H1 = H at hP2 hS ⊢
          have hP : va_P (dC, dI) vwCl (wd_1ad0248d h0 h1 h3 x98 h1 h2 v1 x99 v3 x100 h2 g0 f5 h3 g1 fn101) H := hP2
          have hD : va_D A (wd_1ad0248d h0 h1 h3 x98 h1 h2 v1 x99 v3 x100 h2 g0 f5 h3 g1 fn101) := hD2
          clear hP2 hD2
          obtain rfl : ra97 = (1 : Int32) := pv_cs (by decide) pt0_ra97 pt1_ra97
          refine lv_if_eq (tgt := 78) hx hb dX3_readUnit_59 (by decide) (fun c => absurd c (by decide)) (fun _ => ?_)
          refine lv_aload_n hx hb dX3_readUnit_62 rfl (lv_at hl 1 rfl) ?_
          refine va_get (D := (dC, dI)) (ci := 3) (v := .ref h1) (C := RX3) (T := TX3) (N := 3) hx hb hts (fun _ h => List.mem_cons_of_mem _ (List.mem_append_left _ (List.mem_append_right _ h))) hown hK hP 0 rfl rfl 0 (by decide) (hts (.fieldLink RX3 19 "LeftArguments$LawReader" "tape" "LLeftArguments$Tape;") (List.mem_cons_of_mem _ (List.mem_append_left _ (List.mem_append_left _ (List.mem_of_getElem? (i := 0) rfl))))) (fun _ h9 => h9) rfl dX3_readUnit_63 ?_
          refine lv_bipush (v := 41) hx hb dX3_readUnit_66 (by decide) ?_
          have hPc := hP.sub (ws' := (wd_82cdd16b h1 h2 v1 x99 v3 x100 h2 g0 f5)) [1, 2] rfl
          have hDc := hD.sub (ws' := (wd_82cdd16b h1 h2 v1 x99 v3 x100 h2 g0 f5)) [1, 2] (by decide) rfl
          have hKc := hK.sub (tys' := [(g0, .int)]) [0] rfl
          have hFc := va_free (wc := (wd_82cdd16b h1 h2 v1 x99 v3 x100 h2 g0 f5)) hD hS hA [1, 2] rfl
          refine va_calli (va_runV (As := [.int 41]) (rest := []) ⟨hx, hb, hml, hown, hts⟩ (k_X10_take_3 l dC dI h1 h2 v1 x99 v3 x100 g0 f5 ⟨i_v1a, i_v1b⟩ ⟨oa_x99, ob_x99⟩ ia_f5 H.size) (cwV 1 hts g_X3_readUnit_4_24 rfl rfl rfl (by decide +kernel) ⟨Nat.le_of_ble_eq_true rfl, Nat.le_of_ble_eq_true rfl⟩) (pv_PV10 hPc hKc hDc (q0 := 0) rfl) rfl rfl hl.1 rfl (lv_room (Nat.le_of_ble_eq_true rfl)) dX3_readUnit_68 ⟨Nat.le_of_ble_eq_true rfl, Nat.le_of_ble_eq_true rfl⟩) hS (fun q _ h => hFc q h) hFc (fun ra102 u t H1 locs ht hvm hwra102 hB hz1 hk1 hS => ?_)
          try rw [hwra102] at hB
          rcases hB with hB | hB
          · skip
            obtain ⟨x103, oa_x103, ob_x103, pt0_ra102, pt1_ra102, pt2_ra102, pt3_ra102, hP1, hK1, hD1⟩ := hB
            rw [ht] at hP1
            obtain ⟨hP2, hD2⟩ := va_join (wr := (wd_b958b9da h0 h1 h3 x98 h3 g1 fn101)) (w1 := (wd_82cdd16b h1 h2 v1 x103 v3 x100 h2 g0 f5)) hP hD [1, 2] [0, 3] rfl rfl (by decide) (by decide) hk1 hFc hP1 hD1
            clear hP hD hPc hDc hKc hFc hP1 hK1 hD1 hk1 hz1
            generalize H1 = H at hP2 hS ⊢
            have hP := hP2.sub (ws' := (wd_1ad0248d h0 h1 h3 x98 h1 h2 v1 x103 v3 x100 h2 g0 f5 h3 g1 fn101)) [0, 2, 3, 1] rfl
            have hD := hD2.sub (ws' := (wd_1ad0248d h0 h1 h3 x98 h1 h2 v1 x103 v3 x100 h2 g0 f5 h3 g1 fn101)) [0, 2, 3, 1] (by decide) rfl
            clear hP2 hD2
            obtain rfl : ra102 = (1 : Int32) := pv_cs (by decide) pt0_ra102 pt1_ra102
            refine lv_if_eq (tgt := 78) hx hb dX3_readUnit_71 (by decide) (fun c => absurd c (by decide)) (fun _ => ?_)
            refine lv_iconst (v := 1) hx hb dX3_readUnit_74 (by decide) ?_
            refine lv_goto (tgt := 79) hx hb dX3_readUnit_75 (by decide) ?_
            subst hQ
            have hP9 := hP.sub (ws' := (wd_1ad0248d h0 h1 h3 x98 h1 h2 v1 x103 v3 x100 h2 g0 f5 h3 g1 fn101)) [0, 1, 2, 3] rfl
            have hD9 := hD.sub (ws' := (wd_1ad0248d h0 h1 h3 x98 h1 h2 v1 x103 v3 x100 h2 g0 f5 h3 g1 fn101)) [0, 1, 2, 3] (by decide) rfl
            have hK9 := hK.sub (tys' := []) [] rfl
            exact W.zret (v := 1) hx hb hr rfl (fun t ht hW => ⟨⟨1, 1, rfl, rfl, Or.inl ⟨x98, x103, x100, fn101, oa_x98, ob_x98, by first | omega | decide, ob_x103, by first | omega | decide, by first | omega | decide, by omega, by show pg_unitF f5 v1.toInt 3 true (pg_unit f5 v1.toInt 2) (pg_con f5 v1.toInt (pg_unit f5 v1.toInt 2)) _ = _; first | (apply pg_unitF.not <;> first | assumption | omega) | (apply pg_unitF.par1 <;> first | assumption | omega) | (apply pg_unitF.par0 <;> first | assumption | omega) | (apply pg_unitF.deep <;> first | assumption | omega) | (apply pg_unitF.sm1 <;> first | assumption | omega) | (apply pg_unitF.sm2 <;> first | assumption | omega) | (apply pg_unitF.sum0 <;> first | assumption | omega), by rw [ht]; exact hP9, va_K.moved hW.alike hK9, hD9⟩⟩, hS.F ht⟩) hS.2.2 dX3_readUnit_79
          · skip
            obtain ⟨x104, x105, oa_x104, ob_x104, oa_x105, ob_x105, pt0_ra102, pt1_ra102, pt2_ra102, pt3_ra102, hP1, hK1, hD1⟩ := hB
            rw [ht] at hP1
            obtain ⟨hP2, hD2⟩ := va_join (wr := (wd_b958b9da h0 h1 h3 x98 h3 g1 fn101)) (w1 := (wd_82cdd16b h1 h2 v1 x104 x105 x100 h2 g0 f5)) hP hD [1, 2] [0, 3] rfl rfl (by decide) (by decide) hk1 hFc hP1 hD1
            clear hP hD hPc hDc hKc hFc hP1 hK1 hD1 hk1 hz1
            generalize H1 = H at hP2 hS ⊢
            have hP := hP2.sub (ws' := (wd_1ad0248d h0 h1 h3 x98 h1 h2 v1 x104 x105 x100 h2 g0 f5 h3 g1 fn101)) [0, 2, 3, 1] rfl
            have hD := hD2.sub (ws' := (wd_1ad0248d h0 h1 h3 x98 h1 h2 v1 x104 x105 x100 h2 g0 f5 h3 g1 fn101)) [0, 2, 3, 1] (by decide) rfl
            clear hP2 hD2
            obtain rfl : ra102 = (0 : Int32) := pv_cs (by decide) pt0_ra102 pt1_ra102
            refine lv_if_eq (tgt := 78) hx hb dX3_readUnit_71 (by decide) (fun _ => ?_) (fun c => absurd (by decide) c)
            refine lv_iconst (v := 0) hx hb dX3_readUnit_78 (by decide) ?_
            subst hQ
            have hP9 := hP.sub (ws' := (wd_1ad0248d h0 h1 h3 x98 h1 h2 v1 x104 x105 x100 h2 g0 f5 h3 g1 fn101)) [0, 1, 2, 3] rfl
            have hD9 := hD.sub (ws' := (wd_1ad0248d h0 h1 h3 x98 h1 h2 v1 x104 x105 x100 h2 g0 f5 h3 g1 fn101)) [0, 1, 2, 3] (by decide) rfl
            have hK9 := hK.sub (tys' := []) [] rfl
            exact W.zret (v := 0) hx hb hr rfl (fun t ht hW => ⟨⟨0, 0, rfl, rfl, Or.inr (⟨x98, x104, x105, x100, fn101, oa_x98, ob_x98, oa_x104, ob_x104, oa_x105, ob_x105, by first | omega | decide, by first | omega | decide, by omega, by show pg_unitF f5 v1.toInt 3 true (pg_unit f5 v1.toInt 2) (pg_con f5 v1.toInt (pg_unit f5 v1.toInt 2)) _ = _; first | (apply pg_unitF.not <;> first | assumption | omega) | (apply pg_unitF.par1 <;> first | assumption | omega) | (apply pg_unitF.par0 <;> first | assumption | omega) | (apply pg_unitF.deep <;> first | assumption | omega) | (apply pg_unitF.sm1 <;> first | assumption | omega) | (apply pg_unitF.sm2 <;> first | assumption | omega) | (apply pg_unitF.sum0 <;> first | assumption | omega), by rw [ht]; exact hP9, va_K.moved hW.alike hK9, hD9⟩)⟩, hS.F ht⟩) hS.2.2 dX3_readUnit_79
        · skip
          obtain ⟨x106, x107, x108, x109, fn110, oa_x106, ob_x106, oa_x107, ob_x107, oa_x108, ob_x108, pt0_ra97, pt1_ra97, pt2_ra97, pt3_ra97, hP1, hK1, hD1⟩ := hB
          rw [ht] at hP1
          obtain ⟨hP2, hD2⟩ := va_join (wr := []) (w1 := (wd_1ad0248d h0 h1 h3 x106 h1 h2 v1 x107 x108 x109 h2 g0 f5 h3 g1 fn110)) hP hD [0, 1, 2, 3] [] rfl rfl (by decide) (by decide) hk1 hFc hP1 hD1
          clear hP hD hPc hDc hKc hFc hP1 hK1 hD1 hk1 hz1
          generalize H1 = H at hP2 hS ⊢
          have hP : va_P (dC, dI) vwCl (wd_1ad0248d h0 h1 h3 x106 h1 h2 v1 x107 x108 x109 h2 g0 f5 h3 g1 fn110) H := hP2
          have hD : va_D A (wd_1ad0248d h0 h1 h3 x106 h1 h2 v1 x107 x108 x109 h2 g0 f5 h3 g1 fn110) := hD2
          clear hP2 hD2
          obtain rfl : ra97 = (0 : Int32) := pv_cs (by decide) pt0_ra97 pt1_ra97
          refine lv_if_eq (tgt := 78) hx hb dX3_readUnit_59 (by decide) (fun _ => ?_) (fun c => absurd (by decide) c)
          refine lv_iconst (v := 0) hx hb dX3_readUnit_78 (by decide) ?_
          subst hQ
          have hP9 := hP.sub (ws' := (wd_1ad0248d h0 h1 h3 x106 h1 h2 v1 x107 x108 x109 h2 g0 f5 h3 g1 fn110)) [0, 1, 2, 3] rfl
          have hD9 := hD.sub (ws' := (wd_1ad0248d h0 h1 h3 x106 h1 h2 v1 x107 x108 x109 h2 g0 f5 h3 g1 fn110)) [0, 1, 2, 3] (by decide) rfl
          have hK9 := hK.sub (tys' := []) [] rfl
          exact W.zret (v := 0) hx hb hr rfl (fun t ht hW => ⟨⟨0, 0, rfl, rfl, Or.inr (⟨x106, x107, x108, x109, fn110, oa_x106, ob_x106, oa_x107, ob_x107, oa_x108, ob_x108, by first | omega | decide, by first | omega | decide, by omega, by show pg_unitF f5 v1.toInt 3 true (pg_unit f5 v1.toInt 2) (pg_con f5 v1.toInt (pg_unit f5 v1.toInt 2)) _ = _; first | (apply pg_unitF.not <;> first | assumption | omega) | (apply pg_unitF.par1 <;> first | assumption | omega) | (apply pg_unitF.par0 <;> first | assumption | omega) | (apply pg_unitF.deep <;> first | assumption | omega) | (apply pg_unitF.sm1 <;> first | assumption | omega) | (apply pg_unitF.sm2 <;> first | assumption | omega) | (apply pg_unitF.sum0 <;> first | assumption | omega), by rw [ht]; exact hP9, va_K.moved hW.alike hK9, hD9⟩)⟩, hS.F ht⟩) hS.2.2 dX3_readUnit_79
def q_X3_readTruth_3 : List Cond := .code yX3_readTruth cX3_readTruth 4 (some .boolean) :: (([.code yX3_readUnit cX3_readUnit 5 (some .boolean), .fieldLink RX3 19 "LeftArguments$LawReader" "tape" "LLeftArguments$Tape;", .code yX10_next cX10_next 1 (some .int), .fieldLink RX10 19 "LeftArguments$Tape" "at" "I", .fieldLink RX10 15 "LeftArguments$Tape" "used" "I", .fieldLink RX10 9 "LeftArguments$Tape" "bytes" "[I", .initialized RX10, .instanceMethod yX10_next, .selects RX10 yX10_next yX10_next, .methodLink RX3 48 yX10_next, .code yX3_readSum cX3_readSum 4 (some .boolean), .code yX3_readTerm cX3_readTerm 4 (some .boolean), .code yX3_readAtom cX3_readAtom 4 (some .boolean), .code yX10_isDigit cX10_isDigit 1 (some .boolean), .static yX10_isDigit, .methodLink RX3 92 yX10_isDigit, .code yX10_wrongHere cX10_wrongHere 1 (some .boolean), .fieldLink RX10 22 "LeftArguments$Tape" "wrongAt" "I", .instanceMethod yX10_wrongHere, .selects RX10 yX10_wrongHere yX10_wrongHere, .methodLink RX3 83 yX10_wrongHere, .code yJ0_indexOf_0f7a4 cJ0_indexOf_0f7a4 2 (some .int), .code yJ0_indexOf_7cf53 cJ0_indexOf_7cf53 3 (some .int), .code yJ0_isLatin1_aae02 cJ0_isLatin1_aae02 1 (some .boolean), .fieldLink RJ0 38 "java/lang/String" "COMPACT_STRINGS" "Z", .fieldLink RJ0 15 "java/lang/String" "coder" "B", .initialized RJ0, .instanceMethod yJ0_isLatin1_aae02, .selects RJ0 yJ0_isLatin1_aae02 yJ0_isLatin1_aae02, .methodLink RJ0 492 yJ0_isLatin1_aae02, .fieldLink RJ0 9 "java/lang/String" "value" "[B", .code yJ0_length_8abf5 cJ0_length_8abf5 1 (some .int), .code yJ0_coder_7d493 cJ0_coder_7d493 1 (some .byte), .instanceMethod yJ0_coder_7d493, .selects RJ0 yJ0_coder_7d493 yJ0_coder_7d493, .methodLink RJ0 335 yJ0_coder_7d493, .instanceMethod yJ0_length_8abf5, .selects RJ0 yJ0_length_8abf5 yJ0_length_8abf5, .methodLink RJ0 505 yJ0_length_8abf5, .code yJ1_indexOf_4cfef cJ1_indexOf_4cfef 4 (some .int), .code yJ1_canEncode_9a6ad cJ1_canEncode_9a6ad 1 (some .boolean), .initialized RJ1, .static yJ1_canEncode_9a6ad, .methodLink RJ1 88 yJ1_canEncode_9a6ad, .methodLink RJ1 92 Lib.Math.max.name, .static Lib.Math.max.name, .initialized "java/lang/Math", .code Lib.Math.max.name Lib.Math.max.code 2 (some .int), .methodLink RJ1 38 Lib.Math.min.name, .static Lib.Math.min.name, .code Lib.Math.min.name Lib.Math.min.code 2 (some .int), .code yJ1_indexOfChar_4cfef cJ1_indexOfChar_4cfef 6 (some .int), .static yJ1_indexOfChar_4cfef, .methodLink RJ1 95 yJ1_indexOfChar_4cfef, .static yJ1_indexOf_4cfef, .methodLink RJ0 637 yJ1_indexOf_4cfef, .instanceMethod yJ0_indexOf_7cf53, .selects RJ0 yJ0_indexOf_7cf53 yJ0_indexOf_7cf53, .methodLink RJ0 633 yJ0_indexOf_7cf53, .instanceMethod yJ0_indexOf_0f7a4, .selects RJ0 yJ0_indexOf_0f7a4 yJ0_indexOf_0f7a4, .methodLink RX3 103 yJ0_indexOf_0f7a4, .code yX10_step cX10_step 1 none, .instanceMethod yX10_step, .selects RX10 yX10_step yX10_step, .methodLink RX3 77 yX10_step, .code yX3_write cX3_write 3 none, .fieldLink RX3 15 "LeftArguments$LawReader" "used" "I", .fieldLink RX3 11 "LeftArguments$LawReader" "code" "[I", .initialized RX3, .instanceMethod yX3_write, .selects RX3 yX3_write yX3_write, .methodLink RX3 66 yX3_write, .code yX10_takeNumber cX10_takeNumber 3 (some .boolean), .methodLink RX10 37 yX10_next, .methodLink RX10 45 yX10_isDigit, .methodLink RX10 41 yX10_wrongHere, .fieldLink RX10 25 "LeftArguments$Tape" "number" "I", .code yX10_sign cX10_sign 1 (some .int), .instanceMethod yX10_sign, .selects RX10 yX10_sign yX10_sign, .methodLink RX10 49 yX10_sign, .instanceMethod yX10_takeNumber, .selects RX10 yX10_takeNumber yX10_takeNumber, .methodLink RX3 95 yX10_takeNumber, .code yX10_number cX10_number 1 (some .int), .instanceMethod yX10_number, .selects RX10 yX10_number yX10_number, .methodLink RX3 98 yX10_number, .instanceMethod yX3_readAtom, .selects RX3 yX3_readAtom yX3_readAtom, .methodLink RX3 89 yX3_readAtom, .instanceMethod yX3_readTerm, .selects RX3 yX3_readTerm yX3_readTerm, .methodLink RX3 86 yX3_readTerm, .instanceMethod yX3_readSum, .selects RX3 yX3_readSum yX3_readSum, .methodLink RX3 59 yX3_readSum, .code yX10_take cX10_take 2 (some .boolean), .instanceMethod yX10_take, .selects RX10 yX10_take yX10_take, .methodLink RX3 51 yX10_take, .code yX3_comparing cX3_comparing 1 (some .int), .static yX3_comparing, .methodLink RX3 62 yX3_comparing, .instanceMethod yX3_readUnit, .selects RX3 yX3_readUnit yX3_readUnit, .methodLink RX3 80 yX3_readUnit, .code yX3_readCondition cX3_readCondition 4 (some .boolean), .code yX3_readTruth cX3_readTruth 4 (some .boolean), .instanceMethod yX3_readTruth, .selects RX3 yX3_readTruth yX3_readTruth, .methodLink RX3 74 yX3_readTruth, .instanceMethod yX3_readCondition, .selects RX3 yX3_readCondition yX3_readCondition, .methodLink RX3 70 yX3_readCondition] : List Cond) ++ wsX30 ++ wsX100)
set_option maxRecDepth 20000 in
theorem g_X3_readTruth_3_0 : GoodIn q_X3_readTruth_3 (wsV RX3 80 RX3 yX3_readUnit q_X3_readUnit_4) := goodIn_app (goodIn_r _ [108, 106, 107, 70] rfl (by decide +kernel)) (goodIn_ca (goodIn_ca (goodIn_r (.code yX3_readUnit cX3_readUnit 5 (some .boolean) :: [.fieldLink RX3 19 "LeftArguments$LawReader" "tape" "LLeftArguments$Tape;", .code yX10_next cX10_next 1 (some .int), .fieldLink RX10 19 "LeftArguments$Tape" "at" "I", .fieldLink RX10 15 "LeftArguments$Tape" "used" "I", .fieldLink RX10 9 "LeftArguments$Tape" "bytes" "[I", .initialized RX10, .instanceMethod yX10_next, .selects RX10 yX10_next yX10_next, .methodLink RX3 48 yX10_next, .code yX3_readSum cX3_readSum 4 (some .boolean), .code yX3_readTerm cX3_readTerm 4 (some .boolean), .code yX3_readAtom cX3_readAtom 4 (some .boolean), .code yX10_isDigit cX10_isDigit 1 (some .boolean), .static yX10_isDigit, .methodLink RX3 92 yX10_isDigit, .code yX10_wrongHere cX10_wrongHere 1 (some .boolean), .fieldLink RX10 22 "LeftArguments$Tape" "wrongAt" "I", .instanceMethod yX10_wrongHere, .selects RX10 yX10_wrongHere yX10_wrongHere, .methodLink RX3 83 yX10_wrongHere, .code yJ0_indexOf_0f7a4 cJ0_indexOf_0f7a4 2 (some .int), .code yJ0_indexOf_7cf53 cJ0_indexOf_7cf53 3 (some .int), .code yJ0_isLatin1_aae02 cJ0_isLatin1_aae02 1 (some .boolean), .fieldLink RJ0 38 "java/lang/String" "COMPACT_STRINGS" "Z", .fieldLink RJ0 15 "java/lang/String" "coder" "B", .initialized RJ0, .instanceMethod yJ0_isLatin1_aae02, .selects RJ0 yJ0_isLatin1_aae02 yJ0_isLatin1_aae02, .methodLink RJ0 492 yJ0_isLatin1_aae02, .fieldLink RJ0 9 "java/lang/String" "value" "[B", .code yJ0_length_8abf5 cJ0_length_8abf5 1 (some .int), .code yJ0_coder_7d493 cJ0_coder_7d493 1 (some .byte), .instanceMethod yJ0_coder_7d493, .selects RJ0 yJ0_coder_7d493 yJ0_coder_7d493, .methodLink RJ0 335 yJ0_coder_7d493, .instanceMethod yJ0_length_8abf5, .selects RJ0 yJ0_length_8abf5 yJ0_length_8abf5, .methodLink RJ0 505 yJ0_length_8abf5, .code yJ1_indexOf_4cfef cJ1_indexOf_4cfef 4 (some .int), .code yJ1_canEncode_9a6ad cJ1_canEncode_9a6ad 1 (some .boolean), .initialized RJ1, .static yJ1_canEncode_9a6ad, .methodLink RJ1 88 yJ1_canEncode_9a6ad, .methodLink RJ1 92 Lib.Math.max.name, .static Lib.Math.max.name, .initialized "java/lang/Math", .code Lib.Math.max.name Lib.Math.max.code 2 (some .int), .methodLink RJ1 38 Lib.Math.min.name, .static Lib.Math.min.name, .code Lib.Math.min.name Lib.Math.min.code 2 (some .int), .code yJ1_indexOfChar_4cfef cJ1_indexOfChar_4cfef 6 (some .int), .static yJ1_indexOfChar_4cfef, .methodLink RJ1 95 yJ1_indexOfChar_4cfef, .static yJ1_indexOf_4cfef, .methodLink RJ0 637 yJ1_indexOf_4cfef, .instanceMethod yJ0_indexOf_7cf53, .selects RJ0 yJ0_indexOf_7cf53 yJ0_indexOf_7cf53, .methodLink RJ0 633 yJ0_indexOf_7cf53, .instanceMethod yJ0_indexOf_0f7a4, .selects RJ0 yJ0_indexOf_0f7a4 yJ0_indexOf_0f7a4, .methodLink RX3 103 yJ0_indexOf_0f7a4, .code yX10_step cX10_step 1 none, .instanceMethod yX10_step, .selects RX10 yX10_step yX10_step, .methodLink RX3 77 yX10_step, .code yX3_write cX3_write 3 none, .fieldLink RX3 15 "LeftArguments$LawReader" "used" "I", .fieldLink RX3 11 "LeftArguments$LawReader" "code" "[I", .initialized RX3, .instanceMethod yX3_write, .selects RX3 yX3_write yX3_write, .methodLink RX3 66 yX3_write, .code yX10_takeNumber cX10_takeNumber 3 (some .boolean), .methodLink RX10 37 yX10_next, .methodLink RX10 45 yX10_isDigit, .methodLink RX10 41 yX10_wrongHere, .fieldLink RX10 25 "LeftArguments$Tape" "number" "I", .code yX10_sign cX10_sign 1 (some .int), .instanceMethod yX10_sign, .selects RX10 yX10_sign yX10_sign, .methodLink RX10 49 yX10_sign, .instanceMethod yX10_takeNumber, .selects RX10 yX10_takeNumber yX10_takeNumber, .methodLink RX3 95 yX10_takeNumber, .code yX10_number cX10_number 1 (some .int), .instanceMethod yX10_number, .selects RX10 yX10_number yX10_number, .methodLink RX3 98 yX10_number, .instanceMethod yX3_readAtom, .selects RX3 yX3_readAtom yX3_readAtom, .methodLink RX3 89 yX3_readAtom, .instanceMethod yX3_readTerm, .selects RX3 yX3_readTerm yX3_readTerm, .methodLink RX3 86 yX3_readTerm, .instanceMethod yX3_readSum, .selects RX3 yX3_readSum yX3_readSum, .methodLink RX3 59 yX3_readSum, .code yX10_take cX10_take 2 (some .boolean), .instanceMethod yX10_take, .selects RX10 yX10_take yX10_take, .methodLink RX3 51 yX10_take, .code yX3_comparing cX3_comparing 1 (some .int), .static yX3_comparing, .methodLink RX3 62 yX3_comparing, .code yX3_readUnit cX3_readUnit 5 (some .boolean), .instanceMethod yX3_readUnit, .selects RX3 yX3_readUnit yX3_readUnit, .methodLink RX3 80 yX3_readUnit, .code yX3_readCondition cX3_readCondition 4 (some .boolean), .code yX3_readTruth cX3_readTruth 4 (some .boolean), .instanceMethod yX3_readTruth, .selects RX3 yX3_readTruth yX3_readTruth, .methodLink RX3 74 yX3_readTruth, .instanceMethod yX3_readCondition, .selects RX3 yX3_readCondition yX3_readCondition, .methodLink RX3 70 yX3_readCondition]) [1, 2, 3, 4, 5, 6, 7, 8, 9, 10, 11, 12, 13, 14, 15, 16, 17, 18, 19, 20, 21, 22, 23, 24, 25, 26, 27, 28, 29, 30, 31, 32, 33, 34, 35, 36, 37, 38, 39, 40, 41, 42, 43, 44, 45, 46, 47, 48, 49, 50, 51, 52, 53, 54, 55, 56, 57, 58, 59, 60, 61, 62, 63, 64, 65, 66, 67, 68, 69, 70, 71, 72, 73, 74, 75, 76, 77, 78, 79, 80, 81, 82, 83, 84, 85, 86, 87, 88, 89, 90, 91, 92, 93, 94, 95, 96, 97, 98, 99, 100, 101, 102, 103, 104, 105, 1, 106, 107, 108, 109, 110, 111, 112, 113, 114, 115, 116] rfl (by decide +kernel)) (goodIn_sub (fun _ h => List.mem_cons_of_mem _ (List.mem_append_left _ (List.mem_append_right _ h))) gwX3)) (goodIn_sub (fun _ h => List.mem_cons_of_mem _ (List.mem_append_right _ h)) gwX10))
set_option maxRecDepth 20000 in
theorem g_X3_readTruth_3_1 : GoodIn q_X3_readTruth_3 (wsV RX3 48 RX10 yX10_next q_X10_next) := goodIn_app (goodIn_r _ [10, 8, 9, 7] rfl (by decide +kernel)) (goodIn_ca (goodIn_r (.code yX10_next cX10_next 1 (some .int) :: [.fieldLink RX10 19 "LeftArguments$Tape" "at" "I", .fieldLink RX10 15 "LeftArguments$Tape" "used" "I", .fieldLink RX10 9 "LeftArguments$Tape" "bytes" "[I"]) [3, 4, 5, 6] rfl (by decide +kernel)) (goodIn_sub (fun _ h => List.mem_cons_of_mem _ (List.mem_append_right _ h)) gwX10))
set_option maxRecDepth 20000 in
theorem g_X3_readTruth_3_2 : GoodIn q_X3_readTruth_3 (wsV RX3 77 RX10 yX10_step q_X10_step) := goodIn_app (goodIn_r _ [66, 64, 65, 7] rfl (by decide +kernel)) (goodIn_ca (goodIn_r (.code yX10_step cX10_step 1 none :: [.fieldLink RX10 19 "LeftArguments$Tape" "at" "I"]) [63, 4] rfl (by decide +kernel)) (goodIn_sub (fun _ h => List.mem_cons_of_mem _ (List.mem_append_right _ h)) gwX10))
set_option maxRecDepth 20000 in
theorem g_X3_readTruth_3_4 : GoodIn q_X3_readTruth_3 (wsV RX3 66 RX3 yX3_write q_X3_write) := goodIn_app (goodIn_r _ [73, 71, 72, 70] rfl (by decide +kernel)) (goodIn_ca (goodIn_r (.code yX3_write cX3_write 3 none :: [.fieldLink RX3 15 "LeftArguments$LawReader" "used" "I", .fieldLink RX3 11 "LeftArguments$LawReader" "code" "[I"]) [67, 68, 69] rfl (by decide +kernel)) (goodIn_sub (fun _ h => List.mem_cons_of_mem _ (List.mem_append_left _ (List.mem_append_right _ h))) gwX3))
set_option maxHeartbeats 4000000 in
set_option maxRecDepth 100000 in
theorem k_X3_readTruth_3 (l : Launch) (dC : Nat → ClassId) (dI : Nat → Nat → Nat) (adK : Nat → Nat) (adV : Nat → Nat) (h0 : Nat) (h1 : Nat) (h2 : Nat) (h3 : Nat) (v0 : Int32) (v1 : Int32) (v2 : Int32) (v3 : Int32) (v4 : Int32) (g0 : ClassId) (f5 : Nat → Int32) (g1 : ClassId) (f6 : Nat → Int32) (i_v0 : 0 ≤ v0.toInt ∧ v0.toInt ≤ 256) (i_v1 : 0 ≤ v1.toInt ∧ v1.toInt ≤ 240) (i_v2 : 0 ≤ v2.toInt ∧ v2.toInt ≤ 240) (ia_f5 : (∀ j, 0 ≤ (f5 j).toInt ∧ (f5 j).toInt ≤ 255)) (sz : Nat) : Met l yX3_readTruth q_X3_readTruth_3 ({ frames := 17, cells := 0, slots := 0, locals := 394 }) (va_Pc [.ref h0, .int 3, .int 0] (fun U => U.heap.size = sz ∧ va_P (dC, dI) vwCl (wd_1ad0248d h0 h1 h3 v0 h1 h2 v1 v2 v3 v4 h2 g0 f5 h3 g1 f6) U.heap ∧ va_K (dC, dI) vwCl [(g0, .int), (g1, .int)] U ∧ va_D (fun _ => True) (wd_1ad0248d h0 h1 h3 v0 h1 h2 v1 v2 v3 v4 h2 g0 f5 h3 g1 f6) ∧ vk_R RX3 101 "zaondt" (adK 2) U ∧ va_Z "java/lang/String" "COMPACT_STRINGS" "Z" (.int 1) (va_A (wd_1ad0248d h0 h1 h3 v0 h1 h2 v1 v2 v3 v4 h2 g0 f5 h3 g1 f6) sz) U U.heap ∧ vk_S 3 pv_len3 pv_byt3 adK adV (va_A (wd_1ad0248d h0 h1 h3 v0 h1 h2 v1 v2 v3 v4 h2 g0 f5 h3 g1 f6) sz) U U.heap)) (va_Qi (fun (r : Int32) (r9 : Int32) => r9 = r) (fun (r : Int32) (t : State) => (∃ (o_h0_2 : Int32) (o_h1_2 : Int32) (o_h1_4 : Int32) (o_h3 : Nat → Int32), 0 ≤ o_h0_2.toInt ∧ o_h0_2.toInt ≤ 256 ∧ 0 ≤ o_h1_2.toInt ∧ o_h1_2.toInt ≤ 240 ∧ (1 ≤ r.toInt) ∧ (r.toInt ≤ 1) ∧ (v2.toInt ≤ o_h1_2.toInt) ∧ (pg_tru f5 v1.toInt (pg_unit f5 v1.toInt 3) v2.toInt = (true, o_h1_2.toInt)) ∧ va_P (dC, dI) vwCl (wd_1ad0248d h0 h1 h3 o_h0_2 h1 h2 v1 o_h1_2 v3 o_h1_4 h2 g0 f5 h3 g1 o_h3) t.heap ∧ va_K (dC, dI) vwCl [] t ∧ va_D (va_A (wd_1ad0248d h0 h1 h3 v0 h1 h2 v1 v2 v3 v4 h2 g0 f5 h3 g1 f6) sz) (wd_1ad0248d h0 h1 h3 o_h0_2 h1 h2 v1 o_h1_2 v3 o_h1_4 h2 g0 f5 h3 g1 o_h3)) ∨ (∃ (o_h0_2 : Int32) (o_h1_2 : Int32) (o_h1_3 : Int32) (o_h1_4 : Int32) (o_h3 : Nat → Int32), 0 ≤ o_h0_2.toInt ∧ o_h0_2.toInt ≤ 256 ∧ 0 ≤ o_h1_2.toInt ∧ o_h1_2.toInt ≤ 240 ∧ 0 ≤ o_h1_3.toInt ∧ o_h1_3.toInt ≤ 240 ∧ (0 ≤ r.toInt) ∧ (r.toInt ≤ 0) ∧ (v2.toInt ≤ o_h1_2.toInt) ∧ (pg_tru f5 v1.toInt (pg_unit f5 v1.toInt 3) v2.toInt = (false, o_h1_3.toInt)) ∧ va_P (dC, dI) vwCl (wd_1ad0248d h0 h1 h3 o_h0_2 h1 h2 v1 o_h1_2 o_h1_3 o_h1_4 h2 g0 f5 h3 g1 o_h3) t.heap ∧ va_K (dC, dI) vwCl [] t ∧ va_D (va_A (wd_1ad0248d h0 h1 h3 v0 h1 h2 v1 v2 v3 v4 h2 g0 f5 h3 g1 f6) sz) (wd_1ad0248d h0 h1 h3 o_h0_2 h1 h2 v1 o_h1_2 o_h1_3 o_h1_4 h2 g0 f5 h3 g1 o_h3))) (va_A (wd_1ad0248d h0 h1 h3 v0 h1 h2 v1 v2 v3 v4 h2 g0 f5 h3 g1 f6) sz)) 0 0 (va_A (wd_1ad0248d h0 h1 h3 v0 h1 h2 v1 v2 v3 v4 h2 g0 f5 h3 g1 f6) sz) := by
  refine Met.ofW (cc := cX3_readTruth) (maxL := 4) (ret := (some .boolean)) (by decide) rfl ?_
  intro p e s m args below meth c s₁ B hml hv
  obtain ⟨i_v0a, i_v0b⟩ := i_v0
  obtain ⟨i_v1a, i_v1b⟩ := i_v1
  obtain ⟨i_v2a, i_v2b⟩ := i_v2
  obtain ⟨rfl, hsz, hP, hK, hD0, h_vr_2, h_st_CS, h_st_S⟩ := hv
  have hx := B.exec
  have hb := B.bytes
  have hr := B.returns
  have hts := atoms_spec (ws := q_X3_readTruth_3) B.pre
  have hown : s.vm.findClass RX3 = some m.cls := findClass_of_methodNamed B.named
  have hlocks := B.notSynchronized
  subst hsz
  have hD := hD0.self (sz := s.heap.size)
  generalize hAe : va_A (wd_1ad0248d h0 h1 h3 v0 h1 h2 v1 v2 v3 v4 h2 g0 f5 h3 g1 f6) s.heap.size = A at hD h_st_CS h_st_S ⊢
  have hA : ∀ q : Nat, s.heap.size ≤ q → A q := fun q h => by rw [← hAe]; exact Or.inr h
  have hS : va_S A s.heap s.heap [] := va_S.rf
  generalize hQ : (MQ below _ _ s 0 0 A) = Q
  have hl := lv_entry ([.ref h0, .int 3, .int 0]) (n := 4) (Nat.le_of_ble_eq_true rfl)
  rw [lg_entry_eq]
  generalize (lg_sl ([.ref h0, .int 3, .int 0]) ++ List.replicate (4 - (lg_sl ([.ref h0, .int 3, .int 0])).length) Slot.unset).toArray = ls at hl ⊢
  have hl : lv_has ls 4 [(0, .ref h0), (1, .int 3), (2, .int 0)] := hl
  obtain ⟨H, hH⟩ : ∃ H : Heap, H = s.heap := ⟨_, rfl⟩
  obtain ⟨locs, hlocs⟩ : ∃ y : List Loc, y = [] := ⟨_, rfl⟩
  have hS : va_S A s.heap H locs := by rw [hH, hlocs]; exact va_S.rf
  have hP : va_P (dC, dI) vwCl (wd_1ad0248d h0 h1 h3 v0 h1 h2 v1 v2 v3 v4 h2 g0 f5 h3 g1 f6) H := by rw [hH]; exact hP
  rw [← hH, ← hlocs]
  refine lv_aload_n hx hb dX3_readTruth_0 rfl (lv_at hl 0 rfl) ?_
  refine lv_iload_n hx hb dX3_readTruth_1 rfl (lv_at hl 1 rfl) ?_
  refine lv_iload_n hx hb dX3_readTruth_2 rfl (lv_at hl 2 rfl) ?_
  have hPc := hP.sub (ws' := (wd_1ad0248d h0 h1 h3 v0 h1 h2 v1 v2 v3 v4 h2 g0 f5 h3 g1 f6)) [0, 1, 2, 3] rfl
  have hDc := hD.sub (ws' := (wd_1ad0248d h0 h1 h3 v0 h1 h2 v1 v2 v3 v4 h2 g0 f5 h3 g1 f6)) [0, 1, 2, 3] (by decide) rfl
  have hKc := hK.sub (tys' := [(g0, .int), (g1, .int)]) [0, 1] rfl
  have hFc := va_free (wc := (wd_1ad0248d h0 h1 h3 v0 h1 h2 v1 v2 v3 v4 h2 g0 f5 h3 g1 f6)) hD hS hA [0, 1, 2, 3] rfl
  refine va_calli (va_runV (As := [.int 3, .int 0]) (rest := []) ⟨hx, hb, hml, hown, hts⟩ (k_X3_readUnit_4 l dC dI adK adV h0 h1 h2 h3 v0 v1 v2 v3 v4 g0 f5 g1 f6 ⟨i_v0a, i_v0b⟩ ⟨i_v1a, i_v1b⟩ ⟨i_v2a, i_v2b⟩ ia_f5 H.size) (cwV 2 hts g_X3_readTruth_3_0 rfl rfl rfl (by decide +kernel) ⟨Nat.le_of_ble_eq_true rfl, Nat.le_of_ble_eq_true rfl⟩) ⟨fun a U g mk q => by obtain ⟨q0, q1, qP, qK, qD, n0, n1, n2⟩ := q; exact ⟨q0, q1, qP, va_K.moved (u := U) (U := U.calling g mk a) (Vm.Alike.refl U.vm) qK, qD, vk_R.same rfl n0, va_Z.moved (Vm.Alike.refl _) n1, vk_S.moved (Vm.Alike.refl _) n2⟩, pv_rc3 hKc hPc (q0 := 0) rfl, fun U hU hW => ⟨rfl, by rw [hU], by rw [hU]; exact hPc, va_K.moved hW.alike hKc, hDc.weaken (fun _ _ _ _ => trivial), vk_R.warm hW h_vr_2, (by rw [hU]; exact (va_Z.moved hW.alike (va_Z.kept h_st_CS hS.2.1)).narrow hFc), (by rw [hU]; exact (vk_S.moved hW.alike (vk_S.kept h_st_S hS.2.1)).narrow hFc)⟩⟩ rfl rfl hl.1 rfl (lv_room (Nat.le_of_ble_eq_true rfl)) dX3_readTruth_3 ⟨Nat.le_of_ble_eq_true rfl, Nat.le_of_ble_eq_true rfl⟩) hS (fun q _ h => hFc q h) hFc (fun ra1 u t H1 locs ht hvm hwra1 hB hz1 hk1 hS => ?_)
  try rw [hwra1] at hB
  rcases hB with hB | hB
  · skip
    obtain ⟨x2, x3, x4, fn5, oa_x2, ob_x2, oa_x3, ob_x3, pt0_ra1, pt1_ra1, pt2_ra1, pt3_ra1, hP1, hK1, hD1⟩ := hB
    rw [ht] at hP1
    obtain ⟨hP2, hD2⟩ := va_join (wr := []) (w1 := (wd_1ad0248d h0 h1 h3 x2 h1 h2 v1 x3 v3 x4 h2 g0 f5 h3 g1 fn5)) hP hD [0, 1, 2, 3] [] rfl rfl (by decide) (by decide) hk1 hFc hP1 hD1
    clear hP hD hPc hDc hKc hFc hP1 hK1 hD1 hk1 hz1
    generalize H1 = H at hP2 hS ⊢
    have hP : va_P (dC, dI) vwCl (wd_1ad0248d h0 h1 h3 x2 h1 h2 v1 x3 v3 x4 h2 g0 f5 h3 g1 fn5) H := hP2
    have hD : va_D A (wd_1ad0248d h0 h1 h3 x2 h1 h2 v1 x3 v3 x4 h2 g0 f5 h3 g1 fn5) := hD2
    clear hP2 hD2
    obtain rfl : ra1 = (1 : Int32) := pv_cs (by decide) pt0_ra1 pt1_ra1
    refine lv_if_ne (tgt := 11) hx hb dX3_readTruth_6 (by decide) (fun _ => ?_) (fun c => absurd c (by decide))
    refine lv_iconst (v := 0) hx hb dX3_readTruth_11 (by decide) ?_
    refine lv_istore_n (lv' := [(3, .int 0), (0, .ref h0), (1, .int 3), (2, .int 0)]) hx hb dX3_readTruth_12 rfl hl (by decide) rfl (fun ls hl => ?_)
    have hL81 : ∀ (n9 : Nat), ∀ (x71 : Int32) (x72 : Int32) (x73 : Int32) (x74 : Int32) (fn75 : Nat → Int32) (H : Heap) (locs : List Loc) (ls : Array Slot), 0 ≤ x71.toInt → x71.toInt ≤ 240 → 0 ≤ x72.toInt → x72.toInt ≤ 256 → 0 ≤ x73.toInt → x73.toInt ≤ 240 → (pg_L f5 v1.toInt 38 38 (pg_unit f5 v1.toInt 3) x73.toInt (pg_tru f5 v1.toInt (pg_unit f5 v1.toInt 3) v2.toInt)) → (x71.toInt ≤ x73.toInt) → (v2.toInt ≤ x73.toInt) → (240 - x71.toInt).toNat < n9 → va_P (dC, dI) vwCl (wd_1ad0248d h0 h1 h3 x72 h1 h2 v1 x73 v3 x74 h2 g0 f5 h3 g1 fn75) H → va_D A (wd_1ad0248d h0 h1 h3 x72 h1 h2 v1 x73 v3 x74 h2 g0 f5 h3 g1 fn75) → va_S A s.heap H locs → lv_has ls 4 [(3, .int x71), (0, .ref h0), (1, .int 3), (2, .int 0)] → W p l e ({ frames := 17, cells := 0, slots := 0, locals := 394 }) s m ([.ref h0, .int 3, .int 0] : List Value).toArray below meth c H locs 0 0 Q (F0 m 13 ls []) := by
      intro n9
      induction n9 with
      | zero => intro x71 x72 x73 x74 fn75 H locs ls qa_x71 qb_x71 qa_x72 qb_x72 qa_x73 qb_x73 gh0_hL81 gh1_hL81 gh2_hL81 hm9 hP hD hS hl; exact absurd hm9 (Nat.not_lt_zero _)
      | succ n9 ih_hL81 =>
        intro x71 x72 x73 x74 fn75 H locs ls qa_x71 qb_x71 qa_x72 qb_x72 qa_x73 qb_x73 gh0_hL81 gh1_hL81 gh2_hL81 hm9 hP hD hS hl
        refine lv_iload_n hx hb dX3_readTruth_13 rfl (lv_at hl 0 rfl) ?_
        refine lv_sipush (v := 240) hx hb dX3_readTruth_14 (by decide) ?_
        refine lv_icmp_ge (tgt := 63) hx hb dX3_readTruth_17 (by decide) (fun c82 => ?_) (fun c82 => ?_)
        · skip
          have fc82 : 240 ≤ x71.toInt := Int32.le_iff_toInt_le.mp c82
          refine lv_iconst (v := 1) hx hb dX3_readTruth_63 (by decide) ?_
          subst hQ
          have hP9 := hP.sub (ws' := (wd_1ad0248d h0 h1 h3 x72 h1 h2 v1 x73 v3 x74 h2 g0 f5 h3 g1 fn75)) [0, 1, 2, 3] rfl
          have hD9 := hD.sub (ws' := (wd_1ad0248d h0 h1 h3 x72 h1 h2 v1 x73 v3 x74 h2 g0 f5 h3 g1 fn75)) [0, 1, 2, 3] (by decide) rfl
          have hK9 := hK.sub (tys' := []) [] rfl
          exact W.zret (v := 1) hx hb hr rfl (fun t ht hW => ⟨⟨1, 1, rfl, rfl, Or.inl ⟨x72, x73, x74, fn75, qa_x72, qb_x72, qa_x73, qb_x73, by first | omega | decide, by first | omega | decide, by omega, by first | assumption | (apply pg_L.stop <;> first | assumption | omega) | exact pg_L.stop (by assumption) (pg_s.here (by rw [pg_ch.off (by omega)]; decide)) (by rw [pg_ch.off (by omega)]; decide), by rw [ht]; exact hP9, va_K.moved hW.alike hK9, hD9⟩⟩, hS.F ht⟩) hS.2.2 dX3_readTruth_64
        · skip
          have fc82 : ¬ (240 ≤ x71.toInt) := fun h9 => c82 (Int32.le_iff_toInt_le.mpr h9)
          refine lv_aload_n hx hb dX3_readTruth_20 rfl (lv_at hl 1 rfl) ?_
          refine va_get (D := (dC, dI)) (ci := 3) (v := .ref h1) (C := RX3) (T := TX3) (N := 3) hx hb hts (fun _ h => List.mem_cons_of_mem _ (List.mem_append_left _ (List.mem_append_right _ h))) hown hK hP 0 rfl rfl 0 (by decide) (hts (.fieldLink RX3 19 "LeftArguments$LawReader" "tape" "LLeftArguments$Tape;") (List.mem_cons_of_mem _ (List.mem_append_left _ (List.mem_append_left _ (List.mem_of_getElem? (i := 1) rfl))))) (fun _ h9 => h9) rfl dX3_readTruth_21 ?_
          have hPc := hP.sub (ws' := (wd_82cdd16b h1 h2 v1 x73 v3 x74 h2 g0 f5)) [1, 2] rfl
          have hDc := hD.sub (ws' := (wd_82cdd16b h1 h2 v1 x73 v3 x74 h2 g0 f5)) [1, 2] (by decide) rfl
          have hKc := hK.sub (tys' := [(g0, .int)]) [0] rfl
          have hFc := va_free (wc := (wd_82cdd16b h1 h2 v1 x73 v3 x74 h2 g0 f5)) hD hS hA [1, 2] rfl
          refine va_calli (va_runV (As := []) (rest := []) ⟨hx, hb, hml, hown, hts⟩ (k_X10_next l dC dI h1 h2 v1 x73 v3 x74 g0 f5 ⟨i_v1a, i_v1b⟩ ⟨qa_x73, qb_x73⟩ ia_f5 H.size) (cwV 0 hts g_X3_readTruth_3_1 rfl rfl rfl (by decide +kernel) ⟨Nat.le_of_ble_eq_true rfl, Nat.le_of_ble_eq_true rfl⟩) (pv_PV10 hPc hKc hDc (q0 := 0) rfl) rfl rfl hl.1 rfl (lv_room (Nat.le_of_ble_eq_true rfl)) dX3_readTruth_24 ⟨Nat.le_of_ble_eq_true rfl, Nat.le_of_ble_eq_true rfl⟩) hS (fun q _ h => hFc q h) hFc (fun ra83 u t H1 locs ht hvm hwra83 hB hz1 hk1 hS => ?_)
          try rw [hwra83] at hB
          rcases hB with hB | hB
          · skip
            obtain ⟨x84, oa_x84, ob_x84, pt0_ra83, pt1_ra83, pt2_ra83, pt3_ra83, pt4_ra83, pt5_ra83, pt6_ra83, hP1, hK1, hD1⟩ := hB
            rw [ht] at hP1
            obtain ⟨hP2, hD2⟩ := va_join (wr := (wd_b958b9da h0 h1 h3 x72 h3 g1 fn75)) (w1 := (wd_82cdd16b h1 h2 v1 x84 v3 x74 h2 g0 f5)) hP hD [1, 2] [0, 3] rfl rfl (by decide) (by decide) hk1 hFc hP1 hD1
            clear hP hD hPc hDc hKc hFc hP1 hK1 hD1 hk1 hz1
            generalize H1 = H at hP2 hS ⊢
            have hP := hP2.sub (ws' := (wd_1ad0248d h0 h1 h3 x72 h1 h2 v1 x84 v3 x74 h2 g0 f5 h3 g1 fn75)) [0, 2, 3, 1] rfl
            have hD := hD2.sub (ws' := (wd_1ad0248d h0 h1 h3 x72 h1 h2 v1 x84 v3 x74 h2 g0 f5 h3 g1 fn75)) [0, 2, 3, 1] (by decide) rfl
            clear hP2 hD2
            obtain rfl : ra83 = ((-1) : Int32) := pv_cs (by decide) pt0_ra83 pt1_ra83
            refine lv_bipush (v := 38) hx hb dX3_readTruth_27 (by decide) ?_
            refine lv_icmp_ne (tgt := 63) hx hb dX3_readTruth_29 (by decide) (fun _ => ?_) (fun c => absurd c (by decide))
            refine lv_iconst (v := 1) hx hb dX3_readTruth_63 (by decide) ?_
            subst hQ
            have hP9 := hP.sub (ws' := (wd_1ad0248d h0 h1 h3 x72 h1 h2 v1 x84 v3 x74 h2 g0 f5 h3 g1 fn75)) [0, 1, 2, 3] rfl
            have hD9 := hD.sub (ws' := (wd_1ad0248d h0 h1 h3 x72 h1 h2 v1 x84 v3 x74 h2 g0 f5 h3 g1 fn75)) [0, 1, 2, 3] (by decide) rfl
            have hK9 := hK.sub (tys' := []) [] rfl
            exact W.zret (v := 1) hx hb hr rfl (fun t ht hW => ⟨⟨1, 1, rfl, rfl, Or.inl ⟨x72, x84, x74, fn75, qa_x72, qb_x72, oa_x84, ob_x84, by first | omega | decide, by first | omega | decide, by omega, by first | assumption | (apply pg_L.stop <;> first | assumption | omega) | exact pg_L.stop (by assumption) (pg_s.here (by rw [pg_ch.off (by omega)]; decide)) (by rw [pg_ch.off (by omega)]; decide), by rw [ht]; exact hP9, va_K.moved hW.alike hK9, hD9⟩⟩, hS.F ht⟩) hS.2.2 dX3_readTruth_64
          · skip
            obtain ⟨x85, oa_x85, ob_x85, pt0_ra83, pt1_ra83, pt2_ra83, pt3_ra83, pt4_ra83, pt5_ra83, pt6_ra83, hP1, hK1, hD1⟩ := hB
            rw [ht] at hP1
            obtain ⟨hP2, hD2⟩ := va_join (wr := (wd_b958b9da h0 h1 h3 x72 h3 g1 fn75)) (w1 := (wd_82cdd16b h1 h2 v1 x85 v3 x74 h2 g0 f5)) hP hD [1, 2] [0, 3] rfl rfl (by decide) (by decide) hk1 hFc hP1 hD1
            clear hP hD hPc hDc hKc hFc hP1 hK1 hD1 hk1 hz1
            generalize H1 = H at hP2 hS ⊢
            have hP := hP2.sub (ws' := (wd_1ad0248d h0 h1 h3 x72 h1 h2 v1 x85 v3 x74 h2 g0 f5 h3 g1 fn75)) [0, 2, 3, 1] rfl
            have hD := hD2.sub (ws' := (wd_1ad0248d h0 h1 h3 x72 h1 h2 v1 x85 v3 x74 h2 g0 f5 h3 g1 fn75)) [0, 2, 3, 1] (by decide) rfl
            clear hP2 hD2
            refine lv_bipush (v := 38) hx hb dX3_readTruth_27 (by decide) ?_
            refine lv_icmp_ne (tgt := 63) hx hb dX3_readTruth_29 (by decide) (fun c86 => ?_) (fun c86 => ?_)
            · skip
              have fc86 : ¬ (ra83.toInt = 38) := fun h9 => c86 (Int32.toInt_inj.mp h9)
              refine lv_iconst (v := 1) hx hb dX3_readTruth_63 (by decide) ?_
              subst hQ
              have hP9 := hP.sub (ws' := (wd_1ad0248d h0 h1 h3 x72 h1 h2 v1 x85 v3 x74 h2 g0 f5 h3 g1 fn75)) [0, 1, 2, 3] rfl
              have hD9 := hD.sub (ws' := (wd_1ad0248d h0 h1 h3 x72 h1 h2 v1 x85 v3 x74 h2 g0 f5 h3 g1 fn75)) [0, 1, 2, 3] (by decide) rfl
              have hK9 := hK.sub (tys' := []) [] rfl
              exact W.zret (v := 1) hx hb hr rfl (fun t ht hW => ⟨⟨1, 1, rfl, rfl, Or.inl ⟨x72, x85, x74, fn75, qa_x72, qb_x72, oa_x85, by first | omega | decide, by first | omega | decide, by first | omega | decide, by omega, by first | assumption | (apply pg_L.stop <;> first | assumption | omega) | exact pg_L.stop (by assumption) (pg_s.here (by rw [pg_ch.off (by omega)]; decide)) (by rw [pg_ch.off (by omega)]; decide), by rw [ht]; exact hP9, va_K.moved hW.alike hK9, hD9⟩⟩, hS.F ht⟩) hS.2.2 dX3_readTruth_64
            · skip
              have fc86 : ra83.toInt = 38 := congrArg Int32.toInt c86
              refine lv_aload_n hx hb dX3_readTruth_32 rfl (lv_at hl 1 rfl) ?_
              refine va_get (D := (dC, dI)) (ci := 3) (v := .ref h1) (C := RX3) (T := TX3) (N := 3) hx hb hts (fun _ h => List.mem_cons_of_mem _ (List.mem_append_left _ (List.mem_append_right _ h))) hown hK hP 0 rfl rfl 0 (by decide) (hts (.fieldLink RX3 19 "LeftArguments$LawReader" "tape" "LLeftArguments$Tape;") (List.mem_cons_of_mem _ (List.mem_append_left _ (List.mem_append_left _ (List.mem_of_getElem? (i := 1) rfl))))) (fun _ h9 => h9) rfl dX3_readTruth_33 ?_
              have hPc := hP.sub (ws' := (wd_09b0abee h1 h2 v1 x85 v3 x74)) [1] rfl
              have hDc := hD.sub (ws' := (wd_09b0abee h1 h2 v1 x85 v3 x74)) [1] (by decide) rfl
              have hKc := hK.sub (tys' := []) [] rfl
              have hFc := va_free (wc := (wd_09b0abee h1 h2 v1 x85 v3 x74)) hD hS hA [1] rfl
              refine va_callv (va_runV (As := []) (rest := []) ⟨hx, hb, hml, hown, hts⟩ (k_X10_step l dC dI h1 h2 v1 x85 v3 x74 ⟨i_v1a, i_v1b⟩ ⟨oa_x85, ob_x85⟩ H.size) (cwV 0 hts g_X3_readTruth_3_2 rfl rfl rfl (by decide +kernel) ⟨Nat.le_of_ble_eq_true rfl, Nat.le_of_ble_eq_true rfl⟩) (pv_PV10 hPc hKc hDc (q0 := 0) rfl) rfl rfl hl.1 rfl (lv_room (Nat.le_of_ble_eq_true rfl)) dX3_readTruth_36 ⟨Nat.le_of_ble_eq_true rfl, Nat.le_of_ble_eq_true rfl⟩) hS (fun q _ h => hFc q h) hFc (fun u t H1 locs ht hvm hwra87 hB hz1 hk1 hS => ?_)
              obtain ⟨x88, oa_x88, ob_x88, pt0_ra87, hP1, hK1, hD1⟩ := hB
              rw [ht] at hP1
              obtain ⟨hP2, hD2⟩ := va_join (wr := (wd_6b0d8e05 h0 h1 h3 x72 h2 g0 f5 h3 g1 fn75)) (w1 := (wd_09b0abee h1 h2 v1 x88 v3 x74)) hP hD [1] [0, 2, 3] rfl rfl (by decide) (by decide) hk1 hFc hP1 hD1
              clear hP hD hPc hDc hKc hFc hP1 hK1 hD1 hk1 hz1
              generalize H1 = H at hP2 hS ⊢
              have hP := hP2.sub (ws' := (wd_1ad0248d h0 h1 h3 x72 h1 h2 v1 x88 v3 x74 h2 g0 f5 h3 g1 fn75)) [0, 3, 1, 2] rfl
              have hD := hD2.sub (ws' := (wd_1ad0248d h0 h1 h3 x72 h1 h2 v1 x88 v3 x74 h2 g0 f5 h3 g1 fn75)) [0, 3, 1, 2] (by decide) rfl
              clear hP2 hD2
              refine lv_aload_n hx hb dX3_readTruth_39 rfl (lv_at hl 1 rfl) ?_
              refine lv_iload_n hx hb dX3_readTruth_40 rfl (lv_at hl 2 rfl) ?_
              refine lv_iconst (v := 0) hx hb dX3_readTruth_41 (by decide) ?_
              have hPc := hP.sub (ws' := (wd_1ad0248d h0 h1 h3 x72 h1 h2 v1 x88 v3 x74 h2 g0 f5 h3 g1 fn75)) [0, 1, 2, 3] rfl
              have hDc := hD.sub (ws' := (wd_1ad0248d h0 h1 h3 x72 h1 h2 v1 x88 v3 x74 h2 g0 f5 h3 g1 fn75)) [0, 1, 2, 3] (by decide) rfl
              have hKc := hK.sub (tys' := [(g0, .int), (g1, .int)]) [0, 1] rfl
              have hFc := va_free (wc := (wd_1ad0248d h0 h1 h3 x72 h1 h2 v1 x88 v3 x74 h2 g0 f5 h3 g1 fn75)) hD hS hA [0, 1, 2, 3] rfl
              refine va_calli (va_runV (As := [.int 3, .int 0]) (rest := []) ⟨hx, hb, hml, hown, hts⟩ (k_X3_readUnit_4 l dC dI adK adV h0 h1 h2 h3 x72 v1 x88 v3 x74 g0 f5 g1 fn75 ⟨qa_x72, qb_x72⟩ ⟨i_v1a, i_v1b⟩ ⟨by first | omega | decide, ob_x88⟩ ia_f5 H.size) (cwV 2 hts g_X3_readTruth_3_0 rfl rfl rfl (by decide +kernel) ⟨Nat.le_of_ble_eq_true rfl, Nat.le_of_ble_eq_true rfl⟩) ⟨fun a U g mk q => by obtain ⟨q0, q1, qP, qK, qD, n0, n1, n2⟩ := q; exact ⟨q0, q1, qP, va_K.moved (u := U) (U := U.calling g mk a) (Vm.Alike.refl U.vm) qK, qD, vk_R.same rfl n0, va_Z.moved (Vm.Alike.refl _) n1, vk_S.moved (Vm.Alike.refl _) n2⟩, pv_rc3 hKc hPc (q0 := 0) rfl, fun U hU hW => ⟨rfl, by rw [hU], by rw [hU]; exact hPc, va_K.moved hW.alike hKc, hDc.weaken (fun _ _ _ _ => trivial), vk_R.warm hW h_vr_2, (by rw [hU]; exact (va_Z.moved hW.alike (va_Z.kept h_st_CS hS.2.1)).narrow hFc), (by rw [hU]; exact (vk_S.moved hW.alike (vk_S.kept h_st_S hS.2.1)).narrow hFc)⟩⟩ rfl rfl hl.1 rfl (lv_room (Nat.le_of_ble_eq_true rfl)) dX3_readTruth_42 ⟨Nat.le_of_ble_eq_true rfl, Nat.le_of_ble_eq_true rfl⟩) hS (fun q _ h => hFc q h) hFc (fun ra89 u t H1 locs ht hvm hwra89 hB hz1 hk1 hS => ?_)
              try rw [hwra89] at hB
              rcases hB with hB | hB
              · skip
                obtain ⟨x90, x91, x92, fn93, oa_x90, ob_x90, oa_x91, ob_x91, pt0_ra89, pt1_ra89, pt2_ra89, pt3_ra89, hP1, hK1, hD1⟩ := hB
                rw [ht] at hP1
                obtain ⟨hP2, hD2⟩ := va_join (wr := []) (w1 := (wd_1ad0248d h0 h1 h3 x90 h1 h2 v1 x91 v3 x92 h2 g0 f5 h3 g1 fn93)) hP hD [0, 1, 2, 3] [] rfl rfl (by decide) (by decide) hk1 hFc hP1 hD1
                clear hP hD hPc hDc hKc hFc hP1 hK1 hD1 hk1 hz1
                generalize H1 = H at hP2 hS ⊢
                have hP : va_P (dC, dI) vwCl (wd_1ad0248d h0 h1 h3 x90 h1 h2 v1 x91 v3 x92 h2 g0 f5 h3 g1 fn93) H := hP2
                have hD : va_D A (wd_1ad0248d h0 h1 h3 x90 h1 h2 v1 x91 v3 x92 h2 g0 f5 h3 g1 fn93) := hD2
                clear hP2 hD2
                obtain rfl : ra89 = (1 : Int32) := pv_cs (by decide) pt0_ra89 pt1_ra89
                refine lv_if_ne (tgt := 50) hx hb dX3_readTruth_45 (by decide) (fun _ => ?_) (fun c => absurd c (by decide))
                refine lv_aload_n hx hb dX3_readTruth_50 rfl (lv_at hl 1 rfl) ?_
                refine lv_bipush (v := 10) hx hb dX3_readTruth_51 (by decide) ?_
                refine lv_iconst (v := 0) hx hb dX3_readTruth_53 (by decide) ?_
                have hPc := hP.sub (ws' := (wd_b958b9da h0 h1 h3 x90 h3 g1 fn93)) [0, 3] rfl
                have hDc := hD.sub (ws' := (wd_b958b9da h0 h1 h3 x90 h3 g1 fn93)) [0, 3] (by decide) rfl
                have hKc := hK.sub (tys' := [(g1, .int)]) [1] rfl
                have hFc := va_free (wc := (wd_b958b9da h0 h1 h3 x90 h3 g1 fn93)) hD hS hA [0, 3] rfl
                refine va_callv (va_runV (As := [.int 10, .int 0]) (rest := []) ⟨hx, hb, hml, hown, hts⟩ (k_X3_write l dC dI h0 h3 h1 x90 g1 fn93 10 0 ⟨oa_x90, ob_x90⟩ H.size) (cwV 2 hts g_X3_readTruth_3_4 rfl rfl rfl (by decide +kernel) ⟨Nat.le_of_ble_eq_true rfl, Nat.le_of_ble_eq_true rfl⟩) (pv_PV3 hPc hKc hDc (q0 := 0) rfl) rfl rfl hl.1 rfl (lv_room (Nat.le_of_ble_eq_true rfl)) dX3_readTruth_54 ⟨Nat.le_of_ble_eq_true rfl, Nat.le_of_ble_eq_true rfl⟩) hS (fun q _ h => hFc q h) hFc (fun u t H1 locs ht hvm hwra94 hB hz1 hk1 hS => ?_)
                obtain ⟨x95, fn96, oa_x95, ob_x95, hP1, hK1, hD1⟩ := hB
                rw [ht] at hP1
                obtain ⟨hP2, hD2⟩ := va_join (wr := (wd_82cdd16b h1 h2 v1 x91 v3 x92 h2 g0 f5)) (w1 := (wd_b958b9da h0 h1 h3 x95 h3 g1 fn96)) hP hD [0, 3] [1, 2] rfl rfl (by decide) (by decide) hk1 hFc hP1 hD1
                clear hP hD hPc hDc hKc hFc hP1 hK1 hD1 hk1 hz1
                generalize H1 = H at hP2 hS ⊢
                have hP := hP2.sub (ws' := (wd_1ad0248d h0 h1 h3 x95 h1 h2 v1 x91 v3 x92 h2 g0 f5 h3 g1 fn96)) [2, 0, 1, 3] rfl
                have hD := hD2.sub (ws' := (wd_1ad0248d h0 h1 h3 x95 h1 h2 v1 x91 v3 x92 h2 g0 f5 h3 g1 fn96)) [2, 0, 1, 3] (by decide) rfl
                clear hP2 hD2
                obtain ⟨t97, et97⟩ : ∃ y : Int32, y = x71 + 1 := ⟨_, rfl⟩
                have gt97 : t97.toInt = x71.toInt + (1) := pv_add (a := x71.toInt) (b := (1)) et97 rfl (by decide) (by omega) (by omega)
                refine lv_iinc (v := t97) (lv' := [(3, .int t97), (0, .ref h0), (1, .int 3), (2, .int 0)]) hx hb dX3_readTruth_57 hl (k := 0) rfl (by rw [et97]; rfl) (by decide) rfl (fun ls hl => ?_)
                refine lv_goto (tgt := 13) hx hb dX3_readTruth_60 (by decide) ?_
                exact ih_hL81 t97 x95 x91 x92 fn96 H locs ls (by first | omega | decide) (by first | omega | decide) oa_x95 ob_x95 oa_x91 ob_x91 (by first | assumption | (apply pg_row.go <;> first | assumption | omega) | (apply pg_L.bi <;> first | assumption | omega) | (apply pg_L.step <;> first | assumption | omega)) (by first | omega | ((have h09 : ((0 : Int32)).toInt = 0 := by decide); omega)) (by omega) (by first | omega | (simp only [Int.toNat] at *; omega)) hP hD hS (lv_sub hl [0, 1, 2, 3] rfl)
              · skip
                obtain ⟨x98, x99, x100, x101, fn102, oa_x98, ob_x98, oa_x99, ob_x99, oa_x100, ob_x100, pt0_ra89, pt1_ra89, pt2_ra89, pt3_ra89, hP1, hK1, hD1⟩ := hB
                rw [ht] at hP1
                obtain ⟨hP2, hD2⟩ := va_join (wr := []) (w1 := (wd_1ad0248d h0 h1 h3 x98 h1 h2 v1 x99 x100 x101 h2 g0 f5 h3 g1 fn102)) hP hD [0, 1, 2, 3] [] rfl rfl (by decide) (by decide) hk1 hFc hP1 hD1
                clear hP hD hPc hDc hKc hFc hP1 hK1 hD1 hk1 hz1
                generalize H1 = H at hP2 hS ⊢
                have hP : va_P (dC, dI) vwCl (wd_1ad0248d h0 h1 h3 x98 h1 h2 v1 x99 x100 x101 h2 g0 f5 h3 g1 fn102) H := hP2
                have hD : va_D A (wd_1ad0248d h0 h1 h3 x98 h1 h2 v1 x99 x100 x101 h2 g0 f5 h3 g1 fn102) := hD2
                clear hP2 hD2
                obtain rfl : ra89 = (0 : Int32) := pv_cs (by decide) pt0_ra89 pt1_ra89
                refine lv_if_ne (tgt := 50) hx hb dX3_readTruth_45 (by decide) (fun c => absurd (by decide) c) (fun _ => ?_)
                refine lv_iconst (v := 0) hx hb dX3_readTruth_48 (by decide) ?_
                subst hQ
                have hP9 := hP.sub (ws' := (wd_1ad0248d h0 h1 h3 x98 h1 h2 v1 x99 x100 x101 h2 g0 f5 h3 g1 fn102)) [0, 1, 2, 3] rfl
                have hD9 := hD.sub (ws' := (wd_1ad0248d h0 h1 h3 x98 h1 h2 v1 x99 x100 x101 h2 g0 f5 h3 g1 fn102)) [0, 1, 2, 3] (by decide) rfl
                have hK9 := hK.sub (tys' := []) [] rfl
                exact W.zret (v := 0) hx hb hr rfl (fun t ht hW => ⟨⟨0, 0, rfl, rfl, Or.inr (⟨x98, x99, x100, x101, fn102, oa_x98, ob_x98, oa_x99, ob_x99, oa_x100, ob_x100, by first | omega | decide, by first | omega | decide, by omega, by first | assumption | (apply pg_bind.no <;> first | assumption | omega) | (apply pg_L.no <;> first | assumption | omega), by rw [ht]; exact hP9, va_K.moved hW.alike hK9, hD9⟩)⟩, hS.F ht⟩) hS.2.2 dX3_readTruth_49
    exact hL81 _ 0 x2 x3 x4 fn5 H locs ls (by decide) (by decide) oa_x2 ob_x2 oa_x3 ob_x3 (by first | assumption | (apply pg_row.go <;> first | assumption | omega) | (apply pg_L.bi <;> first | assumption | omega) | (apply pg_L.step <;> first | assumption | omega)) (by first | omega | ((have h09 : ((0 : Int32)).toInt = 0 := by decide); omega)) (by omega) (Nat.lt_succ_self _) hP hD hS (lv_sub hl [0, 1, 2, 3] rfl)
  · skip
    obtain ⟨x103, x104, x105, x106, fn107, oa_x103, ob_x103, oa_x104, ob_x104, oa_x105, ob_x105, pt0_ra1, pt1_ra1, pt2_ra1, pt3_ra1, hP1, hK1, hD1⟩ := hB
    rw [ht] at hP1
    obtain ⟨hP2, hD2⟩ := va_join (wr := []) (w1 := (wd_1ad0248d h0 h1 h3 x103 h1 h2 v1 x104 x105 x106 h2 g0 f5 h3 g1 fn107)) hP hD [0, 1, 2, 3] [] rfl rfl (by decide) (by decide) hk1 hFc hP1 hD1
    clear hP hD hPc hDc hKc hFc hP1 hK1 hD1 hk1 hz1
    generalize H1 = H at hP2 hS ⊢
    have hP : va_P (dC, dI) vwCl (wd_1ad0248d h0 h1 h3 x103 h1 h2 v1 x104 x105 x106 h2 g0 f5 h3 g1 fn107) H := hP2
    have hD : va_D A (wd_1ad0248d h0 h1 h3 x103 h1 h2 v1 x104 x105 x106 h2 g0 f5 h3 g1 fn107) := hD2
    clear hP2 hD2
    obtain rfl : ra1 = (0 : Int32) := pv_cs (by decide) pt0_ra1 pt1_ra1
    refine lv_if_ne (tgt := 11) hx hb dX3_readTruth_6 (by decide) (fun c => absurd (by decide) c) (fun _ => ?_)
    refine lv_iconst (v := 0) hx hb dX3_readTruth_9 (by decide) ?_
    subst hQ
    have hP9 := hP.sub (ws' := (wd_1ad0248d h0 h1 h3 x103 h1 h2 v1 x104 x105 x106 h2 g0 f5 h3 g1 fn107)) [0, 1, 2, 3] rfl
    have hD9 := hD.sub (ws' := (wd_1ad0248d h0 h1 h3 x103 h1 h2 v1 x104 x105 x106 h2 g0 f5 h3 g1 fn107)) [0, 1, 2, 3] (by decide) rfl
    have hK9 := hK.sub (tys' := []) [] rfl
    exact W.zret (v := 0) hx hb hr rfl (fun t ht hW => ⟨⟨0, 0, rfl, rfl, Or.inr (⟨x103, x104, x105, x106, fn107, oa_x103, ob_x103, oa_x104, ob_x104, oa_x105, ob_x105, by first | omega | decide, by first | omega | decide, by omega, by first | assumption | (apply pg_bind.no <;> first | assumption | omega) | (apply pg_L.no <;> first | assumption | omega), by rw [ht]; exact hP9, va_K.moved hW.alike hK9, hD9⟩)⟩, hS.F ht⟩) hS.2.2 dX3_readTruth_10
def q_X3_readCondition_3 : List Cond := .code yX3_readCondition cX3_readCondition 4 (some .boolean) :: (([.code yX3_readTruth cX3_readTruth 4 (some .boolean), .code yX3_readUnit cX3_readUnit 5 (some .boolean), .fieldLink RX3 19 "LeftArguments$LawReader" "tape" "LLeftArguments$Tape;", .code yX10_next cX10_next 1 (some .int), .fieldLink RX10 19 "LeftArguments$Tape" "at" "I", .fieldLink RX10 15 "LeftArguments$Tape" "used" "I", .fieldLink RX10 9 "LeftArguments$Tape" "bytes" "[I", .initialized RX10, .instanceMethod yX10_next, .selects RX10 yX10_next yX10_next, .methodLink RX3 48 yX10_next, .code yX3_readSum cX3_readSum 4 (some .boolean), .code yX3_readTerm cX3_readTerm 4 (some .boolean), .code yX3_readAtom cX3_readAtom 4 (some .boolean), .code yX10_isDigit cX10_isDigit 1 (some .boolean), .static yX10_isDigit, .methodLink RX3 92 yX10_isDigit, .code yX10_wrongHere cX10_wrongHere 1 (some .boolean), .fieldLink RX10 22 "LeftArguments$Tape" "wrongAt" "I", .instanceMethod yX10_wrongHere, .selects RX10 yX10_wrongHere yX10_wrongHere, .methodLink RX3 83 yX10_wrongHere, .code yJ0_indexOf_0f7a4 cJ0_indexOf_0f7a4 2 (some .int), .code yJ0_indexOf_7cf53 cJ0_indexOf_7cf53 3 (some .int), .code yJ0_isLatin1_aae02 cJ0_isLatin1_aae02 1 (some .boolean), .fieldLink RJ0 38 "java/lang/String" "COMPACT_STRINGS" "Z", .fieldLink RJ0 15 "java/lang/String" "coder" "B", .initialized RJ0, .instanceMethod yJ0_isLatin1_aae02, .selects RJ0 yJ0_isLatin1_aae02 yJ0_isLatin1_aae02, .methodLink RJ0 492 yJ0_isLatin1_aae02, .fieldLink RJ0 9 "java/lang/String" "value" "[B", .code yJ0_length_8abf5 cJ0_length_8abf5 1 (some .int), .code yJ0_coder_7d493 cJ0_coder_7d493 1 (some .byte), .instanceMethod yJ0_coder_7d493, .selects RJ0 yJ0_coder_7d493 yJ0_coder_7d493, .methodLink RJ0 335 yJ0_coder_7d493, .instanceMethod yJ0_length_8abf5, .selects RJ0 yJ0_length_8abf5 yJ0_length_8abf5, .methodLink RJ0 505 yJ0_length_8abf5, .code yJ1_indexOf_4cfef cJ1_indexOf_4cfef 4 (some .int), .code yJ1_canEncode_9a6ad cJ1_canEncode_9a6ad 1 (some .boolean), .initialized RJ1, .static yJ1_canEncode_9a6ad, .methodLink RJ1 88 yJ1_canEncode_9a6ad, .methodLink RJ1 92 Lib.Math.max.name, .static Lib.Math.max.name, .initialized "java/lang/Math", .code Lib.Math.max.name Lib.Math.max.code 2 (some .int), .methodLink RJ1 38 Lib.Math.min.name, .static Lib.Math.min.name, .code Lib.Math.min.name Lib.Math.min.code 2 (some .int), .code yJ1_indexOfChar_4cfef cJ1_indexOfChar_4cfef 6 (some .int), .static yJ1_indexOfChar_4cfef, .methodLink RJ1 95 yJ1_indexOfChar_4cfef, .static yJ1_indexOf_4cfef, .methodLink RJ0 637 yJ1_indexOf_4cfef, .instanceMethod yJ0_indexOf_7cf53, .selects RJ0 yJ0_indexOf_7cf53 yJ0_indexOf_7cf53, .methodLink RJ0 633 yJ0_indexOf_7cf53, .instanceMethod yJ0_indexOf_0f7a4, .selects RJ0 yJ0_indexOf_0f7a4 yJ0_indexOf_0f7a4, .methodLink RX3 103 yJ0_indexOf_0f7a4, .code yX10_step cX10_step 1 none, .instanceMethod yX10_step, .selects RX10 yX10_step yX10_step, .methodLink RX3 77 yX10_step, .code yX3_write cX3_write 3 none, .fieldLink RX3 15 "LeftArguments$LawReader" "used" "I", .fieldLink RX3 11 "LeftArguments$LawReader" "code" "[I", .initialized RX3, .instanceMethod yX3_write, .selects RX3 yX3_write yX3_write, .methodLink RX3 66 yX3_write, .code yX10_takeNumber cX10_takeNumber 3 (some .boolean), .methodLink RX10 37 yX10_next, .methodLink RX10 45 yX10_isDigit, .methodLink RX10 41 yX10_wrongHere, .fieldLink RX10 25 "LeftArguments$Tape" "number" "I", .code yX10_sign cX10_sign 1 (some .int), .instanceMethod yX10_sign, .selects RX10 yX10_sign yX10_sign, .methodLink RX10 49 yX10_sign, .instanceMethod yX10_takeNumber, .selects RX10 yX10_takeNumber yX10_takeNumber, .methodLink RX3 95 yX10_takeNumber, .code yX10_number cX10_number 1 (some .int), .instanceMethod yX10_number, .selects RX10 yX10_number yX10_number, .methodLink RX3 98 yX10_number, .instanceMethod yX3_readAtom, .selects RX3 yX3_readAtom yX3_readAtom, .methodLink RX3 89 yX3_readAtom, .instanceMethod yX3_readTerm, .selects RX3 yX3_readTerm yX3_readTerm, .methodLink RX3 86 yX3_readTerm, .instanceMethod yX3_readSum, .selects RX3 yX3_readSum yX3_readSum, .methodLink RX3 59 yX3_readSum, .code yX10_take cX10_take 2 (some .boolean), .instanceMethod yX10_take, .selects RX10 yX10_take yX10_take, .methodLink RX3 51 yX10_take, .code yX3_comparing cX3_comparing 1 (some .int), .static yX3_comparing, .methodLink RX3 62 yX3_comparing, .instanceMethod yX3_readUnit, .selects RX3 yX3_readUnit yX3_readUnit, .methodLink RX3 80 yX3_readUnit, .code yX3_readCondition cX3_readCondition 4 (some .boolean), .instanceMethod yX3_readTruth, .selects RX3 yX3_readTruth yX3_readTruth, .methodLink RX3 74 yX3_readTruth, .instanceMethod yX3_readCondition, .selects RX3 yX3_readCondition yX3_readCondition, .methodLink RX3 70 yX3_readCondition] : List Cond) ++ wsX30 ++ wsX100)
set_option maxRecDepth 20000 in
theorem g_X3_readCondition_3_0 : GoodIn q_X3_readCondition_3 (wsV RX3 74 RX3 yX3_readTruth q_X3_readTruth_3) := goodIn_app (goodIn_r _ [113, 111, 112, 71] rfl (by decide +kernel)) (goodIn_ca (goodIn_ca (goodIn_r (.code yX3_readTruth cX3_readTruth 4 (some .boolean) :: [.code yX3_readUnit cX3_readUnit 5 (some .boolean), .fieldLink RX3 19 "LeftArguments$LawReader" "tape" "LLeftArguments$Tape;", .code yX10_next cX10_next 1 (some .int), .fieldLink RX10 19 "LeftArguments$Tape" "at" "I", .fieldLink RX10 15 "LeftArguments$Tape" "used" "I", .fieldLink RX10 9 "LeftArguments$Tape" "bytes" "[I", .initialized RX10, .instanceMethod yX10_next, .selects RX10 yX10_next yX10_next, .methodLink RX3 48 yX10_next, .code yX3_readSum cX3_readSum 4 (some .boolean), .code yX3_readTerm cX3_readTerm 4 (some .boolean), .code yX3_readAtom cX3_readAtom 4 (some .boolean), .code yX10_isDigit cX10_isDigit 1 (some .boolean), .static yX10_isDigit, .methodLink RX3 92 yX10_isDigit, .code yX10_wrongHere cX10_wrongHere 1 (some .boolean), .fieldLink RX10 22 "LeftArguments$Tape" "wrongAt" "I", .instanceMethod yX10_wrongHere, .selects RX10 yX10_wrongHere yX10_wrongHere, .methodLink RX3 83 yX10_wrongHere, .code yJ0_indexOf_0f7a4 cJ0_indexOf_0f7a4 2 (some .int), .code yJ0_indexOf_7cf53 cJ0_indexOf_7cf53 3 (some .int), .code yJ0_isLatin1_aae02 cJ0_isLatin1_aae02 1 (some .boolean), .fieldLink RJ0 38 "java/lang/String" "COMPACT_STRINGS" "Z", .fieldLink RJ0 15 "java/lang/String" "coder" "B", .initialized RJ0, .instanceMethod yJ0_isLatin1_aae02, .selects RJ0 yJ0_isLatin1_aae02 yJ0_isLatin1_aae02, .methodLink RJ0 492 yJ0_isLatin1_aae02, .fieldLink RJ0 9 "java/lang/String" "value" "[B", .code yJ0_length_8abf5 cJ0_length_8abf5 1 (some .int), .code yJ0_coder_7d493 cJ0_coder_7d493 1 (some .byte), .instanceMethod yJ0_coder_7d493, .selects RJ0 yJ0_coder_7d493 yJ0_coder_7d493, .methodLink RJ0 335 yJ0_coder_7d493, .instanceMethod yJ0_length_8abf5, .selects RJ0 yJ0_length_8abf5 yJ0_length_8abf5, .methodLink RJ0 505 yJ0_length_8abf5, .code yJ1_indexOf_4cfef cJ1_indexOf_4cfef 4 (some .int), .code yJ1_canEncode_9a6ad cJ1_canEncode_9a6ad 1 (some .boolean), .initialized RJ1, .static yJ1_canEncode_9a6ad, .methodLink RJ1 88 yJ1_canEncode_9a6ad, .methodLink RJ1 92 Lib.Math.max.name, .static Lib.Math.max.name, .initialized "java/lang/Math", .code Lib.Math.max.name Lib.Math.max.code 2 (some .int), .methodLink RJ1 38 Lib.Math.min.name, .static Lib.Math.min.name, .code Lib.Math.min.name Lib.Math.min.code 2 (some .int), .code yJ1_indexOfChar_4cfef cJ1_indexOfChar_4cfef 6 (some .int), .static yJ1_indexOfChar_4cfef, .methodLink RJ1 95 yJ1_indexOfChar_4cfef, .static yJ1_indexOf_4cfef, .methodLink RJ0 637 yJ1_indexOf_4cfef, .instanceMethod yJ0_indexOf_7cf53, .selects RJ0 yJ0_indexOf_7cf53 yJ0_indexOf_7cf53, .methodLink RJ0 633 yJ0_indexOf_7cf53, .instanceMethod yJ0_indexOf_0f7a4, .selects RJ0 yJ0_indexOf_0f7a4 yJ0_indexOf_0f7a4, .methodLink RX3 103 yJ0_indexOf_0f7a4, .code yX10_step cX10_step 1 none, .instanceMethod yX10_step, .selects RX10 yX10_step yX10_step, .methodLink RX3 77 yX10_step, .code yX3_write cX3_write 3 none, .fieldLink RX3 15 "LeftArguments$LawReader" "used" "I", .fieldLink RX3 11 "LeftArguments$LawReader" "code" "[I", .initialized RX3, .instanceMethod yX3_write, .selects RX3 yX3_write yX3_write, .methodLink RX3 66 yX3_write, .code yX10_takeNumber cX10_takeNumber 3 (some .boolean), .methodLink RX10 37 yX10_next, .methodLink RX10 45 yX10_isDigit, .methodLink RX10 41 yX10_wrongHere, .fieldLink RX10 25 "LeftArguments$Tape" "number" "I", .code yX10_sign cX10_sign 1 (some .int), .instanceMethod yX10_sign, .selects RX10 yX10_sign yX10_sign, .methodLink RX10 49 yX10_sign, .instanceMethod yX10_takeNumber, .selects RX10 yX10_takeNumber yX10_takeNumber, .methodLink RX3 95 yX10_takeNumber, .code yX10_number cX10_number 1 (some .int), .instanceMethod yX10_number, .selects RX10 yX10_number yX10_number, .methodLink RX3 98 yX10_number, .instanceMethod yX3_readAtom, .selects RX3 yX3_readAtom yX3_readAtom, .methodLink RX3 89 yX3_readAtom, .instanceMethod yX3_readTerm, .selects RX3 yX3_readTerm yX3_readTerm, .methodLink RX3 86 yX3_readTerm, .instanceMethod yX3_readSum, .selects RX3 yX3_readSum yX3_readSum, .methodLink RX3 59 yX3_readSum, .code yX10_take cX10_take 2 (some .boolean), .instanceMethod yX10_take, .selects RX10 yX10_take yX10_take, .methodLink RX3 51 yX10_take, .code yX3_comparing cX3_comparing 1 (some .int), .static yX3_comparing, .methodLink RX3 62 yX3_comparing, .instanceMethod yX3_readUnit, .selects RX3 yX3_readUnit yX3_readUnit, .methodLink RX3 80 yX3_readUnit, .code yX3_readCondition cX3_readCondition 4 (some .boolean), .code yX3_readTruth cX3_readTruth 4 (some .boolean), .instanceMethod yX3_readTruth, .selects RX3 yX3_readTruth yX3_readTruth, .methodLink RX3 74 yX3_readTruth, .instanceMethod yX3_readCondition, .selects RX3 yX3_readCondition yX3_readCondition, .methodLink RX3 70 yX3_readCondition]) [1, 2, 3, 4, 5, 6, 7, 8, 9, 10, 11, 12, 13, 14, 15, 16, 17, 18, 19, 20, 21, 22, 23, 24, 25, 26, 27, 28, 29, 30, 31, 32, 33, 34, 35, 36, 37, 38, 39, 40, 41, 42, 43, 44, 45, 46, 47, 48, 49, 50, 51, 52, 53, 54, 55, 56, 57, 58, 59, 60, 61, 62, 63, 64, 65, 66, 67, 68, 69, 70, 71, 72, 73, 74, 75, 76, 77, 78, 79, 80, 81, 82, 83, 84, 85, 86, 87, 88, 89, 90, 91, 92, 93, 94, 95, 96, 97, 98, 99, 100, 101, 102, 103, 104, 105, 106, 107, 108, 109, 110, 1, 111, 112, 113, 114, 115, 116] rfl (by decide +kernel)) (goodIn_sub (fun _ h => List.mem_cons_of_mem _ (List.mem_append_left _ (List.mem_append_right _ h))) gwX3)) (goodIn_sub (fun _ h => List.mem_cons_of_mem _ (List.mem_append_right _ h)) gwX10))
set_option maxRecDepth 20000 in
theorem g_X3_readCondition_3_1 : GoodIn q_X3_readCondition_3 (wsV RX3 48 RX10 yX10_next q_X10_next) := goodIn_app (goodIn_r _ [11, 9, 10, 8] rfl (by decide +kernel)) (goodIn_ca (goodIn_r (.code yX10_next cX10_next 1 (some .int) :: [.fieldLink RX10 19 "LeftArguments$Tape" "at" "I", .fieldLink RX10 15 "LeftArguments$Tape" "used" "I", .fieldLink RX10 9 "LeftArguments$Tape" "bytes" "[I"]) [4, 5, 6, 7] rfl (by decide +kernel)) (goodIn_sub (fun _ h => List.mem_cons_of_mem _ (List.mem_append_right _ h)) gwX10))
set_option maxRecDepth 20000 in
theorem g_X3_readCondition_3_2 : GoodIn q_X3_readCondition_3 (wsV RX3 77 RX10 yX10_step q_X10_step) := goodIn_app (goodIn_r _ [67, 65, 66, 8] rfl (by decide +kernel)) (goodIn_ca (goodIn_r (.code yX10_step cX10_step 1 none :: [.fieldLink RX10 19 "LeftArguments$Tape" "at" "I"]) [64, 5] rfl (by decide +kernel)) (goodIn_sub (fun _ h => List.mem_cons_of_mem _ (List.mem_append_right _ h)) gwX10))
set_option maxRecDepth 20000 in
theorem g_X3_readCondition_3_4 : GoodIn q_X3_readCondition_3 (wsV RX3 66 RX3 yX3_write q_X3_write) := goodIn_app (goodIn_r _ [74, 72, 73, 71] rfl (by decide +kernel)) (goodIn_ca (goodIn_r (.code yX3_write cX3_write 3 none :: [.fieldLink RX3 15 "LeftArguments$LawReader" "used" "I", .fieldLink RX3 11 "LeftArguments$LawReader" "code" "[I"]) [68, 69, 70] rfl (by decide +kernel)) (goodIn_sub (fun _ h => List.mem_cons_of_mem _ (List.mem_append_left _ (List.mem_append_right _ h))) gwX3))
set_option maxHeartbeats 4000000 in
set_option maxRecDepth 100000 in
theorem k_X3_readCondition_3 (l : Launch) (dC : Nat → ClassId) (dI : Nat → Nat → Nat) (adK : Nat → Nat) (adV : Nat → Nat) (h0 : Nat) (h1 : Nat) (h2 : Nat) (h3 : Nat) (v0 : Int32) (v1 : Int32) (v2 : Int32) (v3 : Int32) (v4 : Int32) (g0 : ClassId) (f5 : Nat → Int32) (g1 : ClassId) (f6 : Nat → Int32) (i_v0 : 0 ≤ v0.toInt ∧ v0.toInt ≤ 256) (i_v1 : 0 ≤ v1.toInt ∧ v1.toInt ≤ 240) (i_v2 : 0 ≤ v2.toInt ∧ v2.toInt ≤ 240) (ia_f5 : (∀ j, 0 ≤ (f5 j).toInt ∧ (f5 j).toInt ≤ 255)) (sz : Nat) : Met l yX3_readCondition q_X3_readCondition_3 ({ frames := 18, cells := 0, slots := 0, locals := 417 }) (va_Pc [.ref h0, .int 3, .int 0] (fun U => U.heap.size = sz ∧ va_P (dC, dI) vwCl (wd_1ad0248d h0 h1 h3 v0 h1 h2 v1 v2 v3 v4 h2 g0 f5 h3 g1 f6) U.heap ∧ va_K (dC, dI) vwCl [(g0, .int), (g1, .int)] U ∧ va_D (fun _ => True) (wd_1ad0248d h0 h1 h3 v0 h1 h2 v1 v2 v3 v4 h2 g0 f5 h3 g1 f6) ∧ vk_R RX3 101 "zaondt" (adK 2) U ∧ va_Z "java/lang/String" "COMPACT_STRINGS" "Z" (.int 1) (va_A (wd_1ad0248d h0 h1 h3 v0 h1 h2 v1 v2 v3 v4 h2 g0 f5 h3 g1 f6) sz) U U.heap ∧ vk_S 3 pv_len3 pv_byt3 adK adV (va_A (wd_1ad0248d h0 h1 h3 v0 h1 h2 v1 v2 v3 v4 h2 g0 f5 h3 g1 f6) sz) U U.heap)) (va_Qi (fun (r : Int32) (r9 : Int32) => r9 = r) (fun (r : Int32) (t : State) => (∃ (o_h0_2 : Int32) (o_h1_2 : Int32) (o_h1_4 : Int32) (o_h3 : Nat → Int32), 0 ≤ o_h0_2.toInt ∧ o_h0_2.toInt ≤ 256 ∧ 0 ≤ o_h1_2.toInt ∧ o_h1_2.toInt ≤ 240 ∧ (1 ≤ r.toInt) ∧ (r.toInt ≤ 1) ∧ (v2.toInt ≤ o_h1_2.toInt) ∧ (pg_con f5 v1.toInt (pg_unit f5 v1.toInt 3) v2.toInt = (true, o_h1_2.toInt)) ∧ va_P (dC, dI) vwCl (wd_1ad0248d h0 h1 h3 o_h0_2 h1 h2 v1 o_h1_2 v3 o_h1_4 h2 g0 f5 h3 g1 o_h3) t.heap ∧ va_K (dC, dI) vwCl [] t ∧ va_D (va_A (wd_1ad0248d h0 h1 h3 v0 h1 h2 v1 v2 v3 v4 h2 g0 f5 h3 g1 f6) sz) (wd_1ad0248d h0 h1 h3 o_h0_2 h1 h2 v1 o_h1_2 v3 o_h1_4 h2 g0 f5 h3 g1 o_h3)) ∨ (∃ (o_h0_2 : Int32) (o_h1_2 : Int32) (o_h1_3 : Int32) (o_h1_4 : Int32) (o_h3 : Nat → Int32), 0 ≤ o_h0_2.toInt ∧ o_h0_2.toInt ≤ 256 ∧ 0 ≤ o_h1_2.toInt ∧ o_h1_2.toInt ≤ 240 ∧ 0 ≤ o_h1_3.toInt ∧ o_h1_3.toInt ≤ 240 ∧ (0 ≤ r.toInt) ∧ (r.toInt ≤ 0) ∧ (v2.toInt ≤ o_h1_2.toInt) ∧ (pg_con f5 v1.toInt (pg_unit f5 v1.toInt 3) v2.toInt = (false, o_h1_3.toInt)) ∧ va_P (dC, dI) vwCl (wd_1ad0248d h0 h1 h3 o_h0_2 h1 h2 v1 o_h1_2 o_h1_3 o_h1_4 h2 g0 f5 h3 g1 o_h3) t.heap ∧ va_K (dC, dI) vwCl [] t ∧ va_D (va_A (wd_1ad0248d h0 h1 h3 v0 h1 h2 v1 v2 v3 v4 h2 g0 f5 h3 g1 f6) sz) (wd_1ad0248d h0 h1 h3 o_h0_2 h1 h2 v1 o_h1_2 o_h1_3 o_h1_4 h2 g0 f5 h3 g1 o_h3))) (va_A (wd_1ad0248d h0 h1 h3 v0 h1 h2 v1 v2 v3 v4 h2 g0 f5 h3 g1 f6) sz)) 0 0 (va_A (wd_1ad0248d h0 h1 h3 v0 h1 h2 v1 v2 v3 v4 h2 g0 f5 h3 g1 f6) sz) := by
  refine Met.ofW (cc := cX3_readCondition) (maxL := 4) (ret := (some .boolean)) (by decide) rfl ?_
  intro p e s m args below meth c s₁ B hml hv
  obtain ⟨i_v0a, i_v0b⟩ := i_v0
  obtain ⟨i_v1a, i_v1b⟩ := i_v1
  obtain ⟨i_v2a, i_v2b⟩ := i_v2
  obtain ⟨rfl, hsz, hP, hK, hD0, h_vr_2, h_st_CS, h_st_S⟩ := hv
  have hx := B.exec
  have hb := B.bytes
  have hr := B.returns
  have hts := atoms_spec (ws := q_X3_readCondition_3) B.pre
  have hown : s.vm.findClass RX3 = some m.cls := findClass_of_methodNamed B.named
  have hlocks := B.notSynchronized
  subst hsz
  have hD := hD0.self (sz := s.heap.size)
  generalize hAe : va_A (wd_1ad0248d h0 h1 h3 v0 h1 h2 v1 v2 v3 v4 h2 g0 f5 h3 g1 f6) s.heap.size = A at hD h_st_CS h_st_S ⊢
  have hA : ∀ q : Nat, s.heap.size ≤ q → A q := fun q h => by rw [← hAe]; exact Or.inr h
  have hS : va_S A s.heap s.heap [] := va_S.rf
  generalize hQ : (MQ below _ _ s 0 0 A) = Q
  have hl := lv_entry ([.ref h0, .int 3, .int 0]) (n := 4) (Nat.le_of_ble_eq_true rfl)
  rw [lg_entry_eq]
  generalize (lg_sl ([.ref h0, .int 3, .int 0]) ++ List.replicate (4 - (lg_sl ([.ref h0, .int 3, .int 0])).length) Slot.unset).toArray = ls at hl ⊢
  have hl : lv_has ls 4 [(0, .ref h0), (1, .int 3), (2, .int 0)] := hl
  obtain ⟨H, hH⟩ : ∃ H : Heap, H = s.heap := ⟨_, rfl⟩
  obtain ⟨locs, hlocs⟩ : ∃ y : List Loc, y = [] := ⟨_, rfl⟩
  have hS : va_S A s.heap H locs := by rw [hH, hlocs]; exact va_S.rf
  have hP : va_P (dC, dI) vwCl (wd_1ad0248d h0 h1 h3 v0 h1 h2 v1 v2 v3 v4 h2 g0 f5 h3 g1 f6) H := by rw [hH]; exact hP
  rw [← hH, ← hlocs]
  refine lv_aload_n hx hb dX3_readCondition_0 rfl (lv_at hl 0 rfl) ?_
  refine lv_iload_n hx hb dX3_readCondition_1 rfl (lv_at hl 1 rfl) ?_
  refine lv_iload_n hx hb dX3_readCondition_2 rfl (lv_at hl 2 rfl) ?_
  have hPc := hP.sub (ws' := (wd_1ad0248d h0 h1 h3 v0 h1 h2 v1 v2 v3 v4 h2 g0 f5 h3 g1 f6)) [0, 1, 2, 3] rfl
  have hDc := hD.sub (ws' := (wd_1ad0248d h0 h1 h3 v0 h1 h2 v1 v2 v3 v4 h2 g0 f5 h3 g1 f6)) [0, 1, 2, 3] (by decide) rfl
  have hKc := hK.sub (tys' := [(g0, .int), (g1, .int)]) [0, 1] rfl
  have hFc := va_free (wc := (wd_1ad0248d h0 h1 h3 v0 h1 h2 v1 v2 v3 v4 h2 g0 f5 h3 g1 f6)) hD hS hA [0, 1, 2, 3] rfl
  refine va_calli (va_runV (As := [.int 3, .int 0]) (rest := []) ⟨hx, hb, hml, hown, hts⟩ (k_X3_readTruth_3 l dC dI adK adV h0 h1 h2 h3 v0 v1 v2 v3 v4 g0 f5 g1 f6 ⟨i_v0a, i_v0b⟩ ⟨i_v1a, i_v1b⟩ ⟨i_v2a, i_v2b⟩ ia_f5 H.size) (cwV 2 hts g_X3_readCondition_3_0 rfl rfl rfl (by decide +kernel) ⟨Nat.le_of_ble_eq_true rfl, Nat.le_of_ble_eq_true rfl⟩) ⟨fun a U g mk q => by obtain ⟨q0, q1, qP, qK, qD, n0, n1, n2⟩ := q; exact ⟨q0, q1, qP, va_K.moved (u := U) (U := U.calling g mk a) (Vm.Alike.refl U.vm) qK, qD, vk_R.same rfl n0, va_Z.moved (Vm.Alike.refl _) n1, vk_S.moved (Vm.Alike.refl _) n2⟩, pv_rc3 hKc hPc (q0 := 0) rfl, fun U hU hW => ⟨rfl, by rw [hU], by rw [hU]; exact hPc, va_K.moved hW.alike hKc, hDc.weaken (fun _ _ _ _ => trivial), vk_R.warm hW h_vr_2, (by rw [hU]; exact (va_Z.moved hW.alike (va_Z.kept h_st_CS hS.2.1)).narrow hFc), (by rw [hU]; exact (vk_S.moved hW.alike (vk_S.kept h_st_S hS.2.1)).narrow hFc)⟩⟩ rfl rfl hl.1 rfl (lv_room (Nat.le_of_ble_eq_true rfl)) dX3_readCondition_3 ⟨Nat.le_of_ble_eq_true rfl, Nat.le_of_ble_eq_true rfl⟩) hS (fun q _ h => hFc q h) hFc (fun ra1 u t H1 locs ht hvm hwra1 hB hz1 hk1 hS => ?_)
  try rw [hwra1] at hB
  rcases hB with hB | hB
  · skip
    obtain ⟨x2, x3, x4, fn5, oa_x2, ob_x2, oa_x3, ob_x3, pt0_ra1, pt1_ra1, pt2_ra1, pt3_ra1, hP1, hK1, hD1⟩ := hB
    rw [ht] at hP1
    obtain ⟨hP2, hD2⟩ := va_join (wr := []) (w1 := (wd_1ad0248d h0 h1 h3 x2 h1 h2 v1 x3 v3 x4 h2 g0 f5 h3 g1 fn5)) hP hD [0, 1, 2, 3] [] rfl rfl (by decide) (by decide) hk1 hFc hP1 hD1
    clear hP hD hPc hDc hKc hFc hP1 hK1 hD1 hk1 hz1
    generalize H1 = H at hP2 hS ⊢
    have hP : va_P (dC, dI) vwCl (wd_1ad0248d h0 h1 h3 x2 h1 h2 v1 x3 v3 x4 h2 g0 f5 h3 g1 fn5) H := hP2
    have hD : va_D A (wd_1ad0248d h0 h1 h3 x2 h1 h2 v1 x3 v3 x4 h2 g0 f5 h3 g1 fn5) := hD2
    clear hP2 hD2
    obtain rfl : ra1 = (1 : Int32) := pv_cs (by decide) pt0_ra1 pt1_ra1
    refine lv_if_ne (tgt := 11) hx hb dX3_readCondition_6 (by decide) (fun _ => ?_) (fun c => absurd c (by decide))
    refine lv_iconst (v := 0) hx hb dX3_readCondition_11 (by decide) ?_
    refine lv_istore_n (lv' := [(3, .int 0), (0, .ref h0), (1, .int 3), (2, .int 0)]) hx hb dX3_readCondition_12 rfl hl (by decide) rfl (fun ls hl => ?_)
    have hL81 : ∀ (n9 : Nat), ∀ (x71 : Int32) (x72 : Int32) (x73 : Int32) (x74 : Int32) (fn75 : Nat → Int32) (H : Heap) (locs : List Loc) (ls : Array Slot), 0 ≤ x71.toInt → x71.toInt ≤ 240 → 0 ≤ x72.toInt → x72.toInt ≤ 256 → 0 ≤ x73.toInt → x73.toInt ≤ 240 → (pg_L f5 v1.toInt 124 124 (pg_tru f5 v1.toInt (pg_unit f5 v1.toInt 3)) x73.toInt (pg_con f5 v1.toInt (pg_unit f5 v1.toInt 3) v2.toInt)) → (x71.toInt ≤ x73.toInt) → (v2.toInt ≤ x73.toInt) → (240 - x71.toInt).toNat < n9 → va_P (dC, dI) vwCl (wd_1ad0248d h0 h1 h3 x72 h1 h2 v1 x73 v3 x74 h2 g0 f5 h3 g1 fn75) H → va_D A (wd_1ad0248d h0 h1 h3 x72 h1 h2 v1 x73 v3 x74 h2 g0 f5 h3 g1 fn75) → va_S A s.heap H locs → lv_has ls 4 [(3, .int x71), (0, .ref h0), (1, .int 3), (2, .int 0)] → W p l e ({ frames := 18, cells := 0, slots := 0, locals := 417 }) s m ([.ref h0, .int 3, .int 0] : List Value).toArray below meth c H locs 0 0 Q (F0 m 13 ls []) := by
      intro n9
      induction n9 with
      | zero => intro x71 x72 x73 x74 fn75 H locs ls qa_x71 qb_x71 qa_x72 qb_x72 qa_x73 qb_x73 gh0_hL81 gh1_hL81 gh2_hL81 hm9 hP hD hS hl; exact absurd hm9 (Nat.not_lt_zero _)
      | succ n9 ih_hL81 =>
        intro x71 x72 x73 x74 fn75 H locs ls qa_x71 qb_x71 qa_x72 qb_x72 qa_x73 qb_x73 gh0_hL81 gh1_hL81 gh2_hL81 hm9 hP hD hS hl
        refine lv_iload_n hx hb dX3_readCondition_13 rfl (lv_at hl 0 rfl) ?_
        refine lv_sipush (v := 240) hx hb dX3_readCondition_14 (by decide) ?_
        refine lv_icmp_ge (tgt := 63) hx hb dX3_readCondition_17 (by decide) (fun c82 => ?_) (fun c82 => ?_)
        · skip
          have fc82 : 240 ≤ x71.toInt := Int32.le_iff_toInt_le.mp c82
          refine lv_iconst (v := 1) hx hb dX3_readCondition_63 (by decide) ?_
          subst hQ
          have hP9 := hP.sub (ws' := (wd_1ad0248d h0 h1 h3 x72 h1 h2 v1 x73 v3 x74 h2 g0 f5 h3 g1 fn75)) [0, 1, 2, 3] rfl
          have hD9 := hD.sub (ws' := (wd_1ad0248d h0 h1 h3 x72 h1 h2 v1 x73 v3 x74 h2 g0 f5 h3 g1 fn75)) [0, 1, 2, 3] (by decide) rfl
          have hK9 := hK.sub (tys' := []) [] rfl
          exact W.zret (v := 1) hx hb hr rfl (fun t ht hW => ⟨⟨1, 1, rfl, rfl, Or.inl ⟨x72, x73, x74, fn75, qa_x72, qb_x72, qa_x73, qb_x73, by first | omega | decide, by first | omega | decide, by omega, by first | assumption | (apply pg_L.stop <;> first | assumption | omega) | exact pg_L.stop (by assumption) (pg_s.here (by rw [pg_ch.off (by omega)]; decide)) (by rw [pg_ch.off (by omega)]; decide), by rw [ht]; exact hP9, va_K.moved hW.alike hK9, hD9⟩⟩, hS.F ht⟩) hS.2.2 dX3_readCondition_64
        · skip
          have fc82 : ¬ (240 ≤ x71.toInt) := fun h9 => c82 (Int32.le_iff_toInt_le.mpr h9)
          refine lv_aload_n hx hb dX3_readCondition_20 rfl (lv_at hl 1 rfl) ?_
          refine va_get (D := (dC, dI)) (ci := 3) (v := .ref h1) (C := RX3) (T := TX3) (N := 3) hx hb hts (fun _ h => List.mem_cons_of_mem _ (List.mem_append_left _ (List.mem_append_right _ h))) hown hK hP 0 rfl rfl 0 (by decide) (hts (.fieldLink RX3 19 "LeftArguments$LawReader" "tape" "LLeftArguments$Tape;") (List.mem_cons_of_mem _ (List.mem_append_left _ (List.mem_append_left _ (List.mem_of_getElem? (i := 2) rfl))))) (fun _ h9 => h9) rfl dX3_readCondition_21 ?_
          have hPc := hP.sub (ws' := (wd_82cdd16b h1 h2 v1 x73 v3 x74 h2 g0 f5)) [1, 2] rfl
          have hDc := hD.sub (ws' := (wd_82cdd16b h1 h2 v1 x73 v3 x74 h2 g0 f5)) [1, 2] (by decide) rfl
          have hKc := hK.sub (tys' := [(g0, .int)]) [0] rfl
          have hFc := va_free (wc := (wd_82cdd16b h1 h2 v1 x73 v3 x74 h2 g0 f5)) hD hS hA [1, 2] rfl
          refine va_calli (va_runV (As := []) (rest := []) ⟨hx, hb, hml, hown, hts⟩ (k_X10_next l dC dI h1 h2 v1 x73 v3 x74 g0 f5 ⟨i_v1a, i_v1b⟩ ⟨qa_x73, qb_x73⟩ ia_f5 H.size) (cwV 0 hts g_X3_readCondition_3_1 rfl rfl rfl (by decide +kernel) ⟨Nat.le_of_ble_eq_true rfl, Nat.le_of_ble_eq_true rfl⟩) (pv_PV10 hPc hKc hDc (q0 := 0) rfl) rfl rfl hl.1 rfl (lv_room (Nat.le_of_ble_eq_true rfl)) dX3_readCondition_24 ⟨Nat.le_of_ble_eq_true rfl, Nat.le_of_ble_eq_true rfl⟩) hS (fun q _ h => hFc q h) hFc (fun ra83 u t H1 locs ht hvm hwra83 hB hz1 hk1 hS => ?_)
          try rw [hwra83] at hB
          rcases hB with hB | hB
          · skip
            obtain ⟨x84, oa_x84, ob_x84, pt0_ra83, pt1_ra83, pt2_ra83, pt3_ra83, pt4_ra83, pt5_ra83, pt6_ra83, hP1, hK1, hD1⟩ := hB
            rw [ht] at hP1
            obtain ⟨hP2, hD2⟩ := va_join (wr := (wd_b958b9da h0 h1 h3 x72 h3 g1 fn75)) (w1 := (wd_82cdd16b h1 h2 v1 x84 v3 x74 h2 g0 f5)) hP hD [1, 2] [0, 3] rfl rfl (by decide) (by decide) hk1 hFc hP1 hD1
            clear hP hD hPc hDc hKc hFc hP1 hK1 hD1 hk1 hz1
            generalize H1 = H at hP2 hS ⊢
            have hP := hP2.sub (ws' := (wd_1ad0248d h0 h1 h3 x72 h1 h2 v1 x84 v3 x74 h2 g0 f5 h3 g1 fn75)) [0, 2, 3, 1] rfl
            have hD := hD2.sub (ws' := (wd_1ad0248d h0 h1 h3 x72 h1 h2 v1 x84 v3 x74 h2 g0 f5 h3 g1 fn75)) [0, 2, 3, 1] (by decide) rfl
            clear hP2 hD2
            obtain rfl : ra83 = ((-1) : Int32) := pv_cs (by decide) pt0_ra83 pt1_ra83
            refine lv_bipush (v := 124) hx hb dX3_readCondition_27 (by decide) ?_
            refine lv_icmp_ne (tgt := 63) hx hb dX3_readCondition_29 (by decide) (fun _ => ?_) (fun c => absurd c (by decide))
            refine lv_iconst (v := 1) hx hb dX3_readCondition_63 (by decide) ?_
            subst hQ
            have hP9 := hP.sub (ws' := (wd_1ad0248d h0 h1 h3 x72 h1 h2 v1 x84 v3 x74 h2 g0 f5 h3 g1 fn75)) [0, 1, 2, 3] rfl
            have hD9 := hD.sub (ws' := (wd_1ad0248d h0 h1 h3 x72 h1 h2 v1 x84 v3 x74 h2 g0 f5 h3 g1 fn75)) [0, 1, 2, 3] (by decide) rfl
            have hK9 := hK.sub (tys' := []) [] rfl
            exact W.zret (v := 1) hx hb hr rfl (fun t ht hW => ⟨⟨1, 1, rfl, rfl, Or.inl ⟨x72, x84, x74, fn75, qa_x72, qb_x72, oa_x84, ob_x84, by first | omega | decide, by first | omega | decide, by omega, by first | assumption | (apply pg_L.stop <;> first | assumption | omega) | exact pg_L.stop (by assumption) (pg_s.here (by rw [pg_ch.off (by omega)]; decide)) (by rw [pg_ch.off (by omega)]; decide), by rw [ht]; exact hP9, va_K.moved hW.alike hK9, hD9⟩⟩, hS.F ht⟩) hS.2.2 dX3_readCondition_64
          · skip
            obtain ⟨x85, oa_x85, ob_x85, pt0_ra83, pt1_ra83, pt2_ra83, pt3_ra83, pt4_ra83, pt5_ra83, pt6_ra83, hP1, hK1, hD1⟩ := hB
            rw [ht] at hP1
            obtain ⟨hP2, hD2⟩ := va_join (wr := (wd_b958b9da h0 h1 h3 x72 h3 g1 fn75)) (w1 := (wd_82cdd16b h1 h2 v1 x85 v3 x74 h2 g0 f5)) hP hD [1, 2] [0, 3] rfl rfl (by decide) (by decide) hk1 hFc hP1 hD1
            clear hP hD hPc hDc hKc hFc hP1 hK1 hD1 hk1 hz1
            generalize H1 = H at hP2 hS ⊢
            have hP := hP2.sub (ws' := (wd_1ad0248d h0 h1 h3 x72 h1 h2 v1 x85 v3 x74 h2 g0 f5 h3 g1 fn75)) [0, 2, 3, 1] rfl
            have hD := hD2.sub (ws' := (wd_1ad0248d h0 h1 h3 x72 h1 h2 v1 x85 v3 x74 h2 g0 f5 h3 g1 fn75)) [0, 2, 3, 1] (by decide) rfl
            clear hP2 hD2
            refine lv_bipush (v := 124) hx hb dX3_readCondition_27 (by decide) ?_
            refine lv_icmp_ne (tgt := 63) hx hb dX3_readCondition_29 (by decide) (fun c86 => ?_) (fun c86 => ?_)
            · skip
              have fc86 : ¬ (ra83.toInt = 124) := fun h9 => c86 (Int32.toInt_inj.mp h9)
              refine lv_iconst (v := 1) hx hb dX3_readCondition_63 (by decide) ?_
              subst hQ
              have hP9 := hP.sub (ws' := (wd_1ad0248d h0 h1 h3 x72 h1 h2 v1 x85 v3 x74 h2 g0 f5 h3 g1 fn75)) [0, 1, 2, 3] rfl
              have hD9 := hD.sub (ws' := (wd_1ad0248d h0 h1 h3 x72 h1 h2 v1 x85 v3 x74 h2 g0 f5 h3 g1 fn75)) [0, 1, 2, 3] (by decide) rfl
              have hK9 := hK.sub (tys' := []) [] rfl
              exact W.zret (v := 1) hx hb hr rfl (fun t ht hW => ⟨⟨1, 1, rfl, rfl, Or.inl ⟨x72, x85, x74, fn75, qa_x72, qb_x72, oa_x85, by first | omega | decide, by first | omega | decide, by first | omega | decide, by omega, by first | assumption | (apply pg_L.stop <;> first | assumption | omega) | exact pg_L.stop (by assumption) (pg_s.here (by rw [pg_ch.off (by omega)]; decide)) (by rw [pg_ch.off (by omega)]; decide), by rw [ht]; exact hP9, va_K.moved hW.alike hK9, hD9⟩⟩, hS.F ht⟩) hS.2.2 dX3_readCondition_64
            · skip
              have fc86 : ra83.toInt = 124 := congrArg Int32.toInt c86
              refine lv_aload_n hx hb dX3_readCondition_32 rfl (lv_at hl 1 rfl) ?_
              refine va_get (D := (dC, dI)) (ci := 3) (v := .ref h1) (C := RX3) (T := TX3) (N := 3) hx hb hts (fun _ h => List.mem_cons_of_mem _ (List.mem_append_left _ (List.mem_append_right _ h))) hown hK hP 0 rfl rfl 0 (by decide) (hts (.fieldLink RX3 19 "LeftArguments$LawReader" "tape" "LLeftArguments$Tape;") (List.mem_cons_of_mem _ (List.mem_append_left _ (List.mem_append_left _ (List.mem_of_getElem? (i := 2) rfl))))) (fun _ h9 => h9) rfl dX3_readCondition_33 ?_
              have hPc := hP.sub (ws' := (wd_09b0abee h1 h2 v1 x85 v3 x74)) [1] rfl
              have hDc := hD.sub (ws' := (wd_09b0abee h1 h2 v1 x85 v3 x74)) [1] (by decide) rfl
              have hKc := hK.sub (tys' := []) [] rfl
              have hFc := va_free (wc := (wd_09b0abee h1 h2 v1 x85 v3 x74)) hD hS hA [1] rfl
              refine va_callv (va_runV (As := []) (rest := []) ⟨hx, hb, hml, hown, hts⟩ (k_X10_step l dC dI h1 h2 v1 x85 v3 x74 ⟨i_v1a, i_v1b⟩ ⟨oa_x85, ob_x85⟩ H.size) (cwV 0 hts g_X3_readCondition_3_2 rfl rfl rfl (by decide +kernel) ⟨Nat.le_of_ble_eq_true rfl, Nat.le_of_ble_eq_true rfl⟩) (pv_PV10 hPc hKc hDc (q0 := 0) rfl) rfl rfl hl.1 rfl (lv_room (Nat.le_of_ble_eq_true rfl)) dX3_readCondition_36 ⟨Nat.le_of_ble_eq_true rfl, Nat.le_of_ble_eq_true rfl⟩) hS (fun q _ h => hFc q h) hFc (fun u t H1 locs ht hvm hwra87 hB hz1 hk1 hS => ?_)
              obtain ⟨x88, oa_x88, ob_x88, pt0_ra87, hP1, hK1, hD1⟩ := hB
              rw [ht] at hP1
              obtain ⟨hP2, hD2⟩ := va_join (wr := (wd_6b0d8e05 h0 h1 h3 x72 h2 g0 f5 h3 g1 fn75)) (w1 := (wd_09b0abee h1 h2 v1 x88 v3 x74)) hP hD [1] [0, 2, 3] rfl rfl (by decide) (by decide) hk1 hFc hP1 hD1
              clear hP hD hPc hDc hKc hFc hP1 hK1 hD1 hk1 hz1
              generalize H1 = H at hP2 hS ⊢
              have hP := hP2.sub (ws' := (wd_1ad0248d h0 h1 h3 x72 h1 h2 v1 x88 v3 x74 h2 g0 f5 h3 g1 fn75)) [0, 3, 1, 2] rfl
              have hD := hD2.sub (ws' := (wd_1ad0248d h0 h1 h3 x72 h1 h2 v1 x88 v3 x74 h2 g0 f5 h3 g1 fn75)) [0, 3, 1, 2] (by decide) rfl
              clear hP2 hD2
              refine lv_aload_n hx hb dX3_readCondition_39 rfl (lv_at hl 1 rfl) ?_
              refine lv_iload_n hx hb dX3_readCondition_40 rfl (lv_at hl 2 rfl) ?_
              refine lv_iconst (v := 0) hx hb dX3_readCondition_41 (by decide) ?_
              have hPc := hP.sub (ws' := (wd_1ad0248d h0 h1 h3 x72 h1 h2 v1 x88 v3 x74 h2 g0 f5 h3 g1 fn75)) [0, 1, 2, 3] rfl
              have hDc := hD.sub (ws' := (wd_1ad0248d h0 h1 h3 x72 h1 h2 v1 x88 v3 x74 h2 g0 f5 h3 g1 fn75)) [0, 1, 2, 3] (by decide) rfl
              have hKc := hK.sub (tys' := [(g0, .int), (g1, .int)]) [0, 1] rfl
              have hFc := va_free (wc := (wd_1ad0248d h0 h1 h3 x72 h1 h2 v1 x88 v3 x74 h2 g0 f5 h3 g1 fn75)) hD hS hA [0, 1, 2, 3] rfl
              refine va_calli (va_runV (As := [.int 3, .int 0]) (rest := []) ⟨hx, hb, hml, hown, hts⟩ (k_X3_readTruth_3 l dC dI adK adV h0 h1 h2 h3 x72 v1 x88 v3 x74 g0 f5 g1 fn75 ⟨qa_x72, qb_x72⟩ ⟨i_v1a, i_v1b⟩ ⟨by first | omega | decide, ob_x88⟩ ia_f5 H.size) (cwV 2 hts g_X3_readCondition_3_0 rfl rfl rfl (by decide +kernel) ⟨Nat.le_of_ble_eq_true rfl, Nat.le_of_ble_eq_true rfl⟩) ⟨fun a U g mk q => by obtain ⟨q0, q1, qP, qK, qD, n0, n1, n2⟩ := q; exact ⟨q0, q1, qP, va_K.moved (u := U) (U := U.calling g mk a) (Vm.Alike.refl U.vm) qK, qD, vk_R.same rfl n0, va_Z.moved (Vm.Alike.refl _) n1, vk_S.moved (Vm.Alike.refl _) n2⟩, pv_rc3 hKc hPc (q0 := 0) rfl, fun U hU hW => ⟨rfl, by rw [hU], by rw [hU]; exact hPc, va_K.moved hW.alike hKc, hDc.weaken (fun _ _ _ _ => trivial), vk_R.warm hW h_vr_2, (by rw [hU]; exact (va_Z.moved hW.alike (va_Z.kept h_st_CS hS.2.1)).narrow hFc), (by rw [hU]; exact (vk_S.moved hW.alike (vk_S.kept h_st_S hS.2.1)).narrow hFc)⟩⟩ rfl rfl hl.1 rfl (lv_room (Nat.le_of_ble_eq_true rfl)) dX3_readCondition_42 ⟨Nat.le_of_ble_eq_true rfl, Nat.le_of_ble_eq_true rfl⟩) hS (fun q _ h => hFc q h) hFc (fun ra89 u t H1 locs ht hvm hwra89 hB hz1 hk1 hS => ?_)
              try rw [hwra89] at hB
              rcases hB with hB | hB
              · skip
                obtain ⟨x90, x91, x92, fn93, oa_x90, ob_x90, oa_x91, ob_x91, pt0_ra89, pt1_ra89, pt2_ra89, pt3_ra89, hP1, hK1, hD1⟩ := hB
                rw [ht] at hP1
                obtain ⟨hP2, hD2⟩ := va_join (wr := []) (w1 := (wd_1ad0248d h0 h1 h3 x90 h1 h2 v1 x91 v3 x92 h2 g0 f5 h3 g1 fn93)) hP hD [0, 1, 2, 3] [] rfl rfl (by decide) (by decide) hk1 hFc hP1 hD1
                clear hP hD hPc hDc hKc hFc hP1 hK1 hD1 hk1 hz1
                generalize H1 = H at hP2 hS ⊢
                have hP : va_P (dC, dI) vwCl (wd_1ad0248d h0 h1 h3 x90 h1 h2 v1 x91 v3 x92 h2 g0 f5 h3 g1 fn93) H := hP2
                have hD : va_D A (wd_1ad0248d h0 h1 h3 x90 h1 h2 v1 x91 v3 x92 h2 g0 f5 h3 g1 fn93) := hD2
                clear hP2 hD2
                obtain rfl : ra89 = (1 : Int32) := pv_cs (by decide) pt0_ra89 pt1_ra89
                refine lv_if_ne (tgt := 50) hx hb dX3_readCondition_45 (by decide) (fun _ => ?_) (fun c => absurd c (by decide))
                refine lv_aload_n hx hb dX3_readCondition_50 rfl (lv_at hl 1 rfl) ?_
                refine lv_bipush (v := 11) hx hb dX3_readCondition_51 (by decide) ?_
                refine lv_iconst (v := 0) hx hb dX3_readCondition_53 (by decide) ?_
                have hPc := hP.sub (ws' := (wd_b958b9da h0 h1 h3 x90 h3 g1 fn93)) [0, 3] rfl
                have hDc := hD.sub (ws' := (wd_b958b9da h0 h1 h3 x90 h3 g1 fn93)) [0, 3] (by decide) rfl
                have hKc := hK.sub (tys' := [(g1, .int)]) [1] rfl
                have hFc := va_free (wc := (wd_b958b9da h0 h1 h3 x90 h3 g1 fn93)) hD hS hA [0, 3] rfl
                refine va_callv (va_runV (As := [.int 11, .int 0]) (rest := []) ⟨hx, hb, hml, hown, hts⟩ (k_X3_write l dC dI h0 h3 h1 x90 g1 fn93 11 0 ⟨oa_x90, ob_x90⟩ H.size) (cwV 2 hts g_X3_readCondition_3_4 rfl rfl rfl (by decide +kernel) ⟨Nat.le_of_ble_eq_true rfl, Nat.le_of_ble_eq_true rfl⟩) (pv_PV3 hPc hKc hDc (q0 := 0) rfl) rfl rfl hl.1 rfl (lv_room (Nat.le_of_ble_eq_true rfl)) dX3_readCondition_54 ⟨Nat.le_of_ble_eq_true rfl, Nat.le_of_ble_eq_true rfl⟩) hS (fun q _ h => hFc q h) hFc (fun u t H1 locs ht hvm hwra94 hB hz1 hk1 hS => ?_)
                obtain ⟨x95, fn96, oa_x95, ob_x95, hP1, hK1, hD1⟩ := hB
                rw [ht] at hP1
                obtain ⟨hP2, hD2⟩ := va_join (wr := (wd_82cdd16b h1 h2 v1 x91 v3 x92 h2 g0 f5)) (w1 := (wd_b958b9da h0 h1 h3 x95 h3 g1 fn96)) hP hD [0, 3] [1, 2] rfl rfl (by decide) (by decide) hk1 hFc hP1 hD1
                clear hP hD hPc hDc hKc hFc hP1 hK1 hD1 hk1 hz1
                generalize H1 = H at hP2 hS ⊢
                have hP := hP2.sub (ws' := (wd_1ad0248d h0 h1 h3 x95 h1 h2 v1 x91 v3 x92 h2 g0 f5 h3 g1 fn96)) [2, 0, 1, 3] rfl
                have hD := hD2.sub (ws' := (wd_1ad0248d h0 h1 h3 x95 h1 h2 v1 x91 v3 x92 h2 g0 f5 h3 g1 fn96)) [2, 0, 1, 3] (by decide) rfl
                clear hP2 hD2
                obtain ⟨t97, et97⟩ : ∃ y : Int32, y = x71 + 1 := ⟨_, rfl⟩
                have gt97 : t97.toInt = x71.toInt + (1) := pv_add (a := x71.toInt) (b := (1)) et97 rfl (by decide) (by omega) (by omega)
                refine lv_iinc (v := t97) (lv' := [(3, .int t97), (0, .ref h0), (1, .int 3), (2, .int 0)]) hx hb dX3_readCondition_57 hl (k := 0) rfl (by rw [et97]; rfl) (by decide) rfl (fun ls hl => ?_)
                refine lv_goto (tgt := 13) hx hb dX3_readCondition_60 (by decide) ?_
                exact ih_hL81 t97 x95 x91 x92 fn96 H locs ls (by first | omega | decide) (by first | omega | decide) oa_x95 ob_x95 oa_x91 ob_x91 (by first | assumption | (apply pg_row.go <;> first | assumption | omega) | (apply pg_L.bi <;> first | assumption | omega) | (apply pg_L.step <;> first | assumption | omega)) (by first | omega | ((have h09 : ((0 : Int32)).toInt = 0 := by decide); omega)) (by omega) (by first | omega | (simp only [Int.toNat] at *; omega)) hP hD hS (lv_sub hl [0, 1, 2, 3] rfl)
              · skip
                obtain ⟨x98, x99, x100, x101, fn102, oa_x98, ob_x98, oa_x99, ob_x99, oa_x100, ob_x100, pt0_ra89, pt1_ra89, pt2_ra89, pt3_ra89, hP1, hK1, hD1⟩ := hB
                rw [ht] at hP1
                obtain ⟨hP2, hD2⟩ := va_join (wr := []) (w1 := (wd_1ad0248d h0 h1 h3 x98 h1 h2 v1 x99 x100 x101 h2 g0 f5 h3 g1 fn102)) hP hD [0, 1, 2, 3] [] rfl rfl (by decide) (by decide) hk1 hFc hP1 hD1
                clear hP hD hPc hDc hKc hFc hP1 hK1 hD1 hk1 hz1
                generalize H1 = H at hP2 hS ⊢
                have hP : va_P (dC, dI) vwCl (wd_1ad0248d h0 h1 h3 x98 h1 h2 v1 x99 x100 x101 h2 g0 f5 h3 g1 fn102) H := hP2
                have hD : va_D A (wd_1ad0248d h0 h1 h3 x98 h1 h2 v1 x99 x100 x101 h2 g0 f5 h3 g1 fn102) := hD2
                clear hP2 hD2
                obtain rfl : ra89 = (0 : Int32) := pv_cs (by decide) pt0_ra89 pt1_ra89
                refine lv_if_ne (tgt := 50) hx hb dX3_readCondition_45 (by decide) (fun c => absurd (by decide) c) (fun _ => ?_)
                refine lv_iconst (v := 0) hx hb dX3_readCondition_48 (by decide) ?_
                subst hQ
                have hP9 := hP.sub (ws' := (wd_1ad0248d h0 h1 h3 x98 h1 h2 v1 x99 x100 x101 h2 g0 f5 h3 g1 fn102)) [0, 1, 2, 3] rfl
                have hD9 := hD.sub (ws' := (wd_1ad0248d h0 h1 h3 x98 h1 h2 v1 x99 x100 x101 h2 g0 f5 h3 g1 fn102)) [0, 1, 2, 3] (by decide) rfl
                have hK9 := hK.sub (tys' := []) [] rfl
                exact W.zret (v := 0) hx hb hr rfl (fun t ht hW => ⟨⟨0, 0, rfl, rfl, Or.inr (⟨x98, x99, x100, x101, fn102, oa_x98, ob_x98, oa_x99, ob_x99, oa_x100, ob_x100, by first | omega | decide, by first | omega | decide, by omega, by first | assumption | (apply pg_bind.no <;> first | assumption | omega) | (apply pg_L.no <;> first | assumption | omega), by rw [ht]; exact hP9, va_K.moved hW.alike hK9, hD9⟩)⟩, hS.F ht⟩) hS.2.2 dX3_readCondition_49
    exact hL81 _ 0 x2 x3 x4 fn5 H locs ls (by decide) (by decide) oa_x2 ob_x2 oa_x3 ob_x3 (by first | assumption | (apply pg_row.go <;> first | assumption | omega) | (apply pg_L.bi <;> first | assumption | omega) | (apply pg_L.step <;> first | assumption | omega)) (by first | omega | ((have h09 : ((0 : Int32)).toInt = 0 := by decide); omega)) (by omega) (Nat.lt_succ_self _) hP hD hS (lv_sub hl [0, 1, 2, 3] rfl)
  · skip
    obtain ⟨x103, x104, x105, x106, fn107, oa_x103, ob_x103, oa_x104, ob_x104, oa_x105, ob_x105, pt0_ra1, pt1_ra1, pt2_ra1, pt3_ra1, hP1, hK1, hD1⟩ := hB
    rw [ht] at hP1
    obtain ⟨hP2, hD2⟩ := va_join (wr := []) (w1 := (wd_1ad0248d h0 h1 h3 x103 h1 h2 v1 x104 x105 x106 h2 g0 f5 h3 g1 fn107)) hP hD [0, 1, 2, 3] [] rfl rfl (by decide) (by decide) hk1 hFc hP1 hD1
    clear hP hD hPc hDc hKc hFc hP1 hK1 hD1 hk1 hz1
    generalize H1 = H at hP2 hS ⊢
    have hP : va_P (dC, dI) vwCl (wd_1ad0248d h0 h1 h3 x103 h1 h2 v1 x104 x105 x106 h2 g0 f5 h3 g1 fn107) H := hP2
    have hD : va_D A (wd_1ad0248d h0 h1 h3 x103 h1 h2 v1 x104 x105 x106 h2 g0 f5 h3 g1 fn107) := hD2
    clear hP2 hD2
    obtain rfl : ra1 = (0 : Int32) := pv_cs (by decide) pt0_ra1 pt1_ra1
    refine lv_if_ne (tgt := 11) hx hb dX3_readCondition_6 (by decide) (fun c => absurd (by decide) c) (fun _ => ?_)
    refine lv_iconst (v := 0) hx hb dX3_readCondition_9 (by decide) ?_
    subst hQ
    have hP9 := hP.sub (ws' := (wd_1ad0248d h0 h1 h3 x103 h1 h2 v1 x104 x105 x106 h2 g0 f5 h3 g1 fn107)) [0, 1, 2, 3] rfl
    have hD9 := hD.sub (ws' := (wd_1ad0248d h0 h1 h3 x103 h1 h2 v1 x104 x105 x106 h2 g0 f5 h3 g1 fn107)) [0, 1, 2, 3] (by decide) rfl
    have hK9 := hK.sub (tys' := []) [] rfl
    exact W.zret (v := 0) hx hb hr rfl (fun t ht hW => ⟨⟨0, 0, rfl, rfl, Or.inr (⟨x103, x104, x105, x106, fn107, oa_x103, ob_x103, oa_x104, ob_x104, oa_x105, ob_x105, by first | omega | decide, by first | omega | decide, by omega, by first | assumption | (apply pg_bind.no <;> first | assumption | omega) | (apply pg_L.no <;> first | assumption | omega), by rw [ht]; exact hP9, va_K.moved hW.alike hK9, hD9⟩)⟩, hS.F ht⟩) hS.2.2 dX3_readCondition_10
