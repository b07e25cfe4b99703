abbrev wd_5ddcf59f (p0 : Nat) (p1 : Nat) (p2 : Nat) (p3 : Nat) (p4 : Int32) (p5 : Int32) (p6 : Nat) (p7 : ClassId) (p8 : Nat → Int32) : va_W := [(p0, .inr (6, [.ref p1, .ref p2, .ref p3, .int p4, .int p5])), (p6, .inl (p7, 240, .inl p8))]
def q_X3_readCondition_6 : List Cond := .code yX3_readCondition cX3_readCondition 4 (some .boolean) :: (([.code yX3_readTruth cX3_readTruth 4 (some .boolean), .code yX3_readUnit cX3_readUnit 5 (some .boolean), .fieldLink RX3 19 "LeftArguments$LawReader" "tape" "LLeftArguments$Tape;", .code yX10_next cX10_next 1 (some .int), .fieldLink RX10 19 "LeftArguments$Tape" "at" "I", .fieldLink RX10 15 "LeftArguments$Tape" "used" "I", .fieldLink RX10 9 "LeftArguments$Tape" "bytes" "[I", .initialized RX10, .instanceMethod yX10_next, .selects RX10 yX10_next yX10_next, .methodLink RX3 48 yX10_next, .code yX3_comparing cX3_comparing 1 (some .int), .initialized RX3, .static yX3_comparing, .methodLink RX3 62 yX3_comparing, .code yX10_wrongHere cX10_wrongHere 1 (some .boolean), .fieldLink RX10 22 "LeftArguments$Tape" "wrongAt" "I", .instanceMethod yX10_wrongHere, .selects RX10 yX10_wrongHere yX10_wrongHere, .methodLink RX3 83 yX10_wrongHere, .code yX10_step cX10_step 1 none, .instanceMethod yX10_step, .selects RX10 yX10_step yX10_step, .methodLink RX3 77 yX10_step, .code yX3_readSum cX3_readSum 4 (some .boolean), .code yX3_readTerm cX3_readTerm 4 (some .boolean), .code yX3_readAtom cX3_readAtom 4 (some .boolean), .code yX10_isDigit cX10_isDigit 1 (some .boolean), .static yX10_isDigit, .methodLink RX3 92 yX10_isDigit, .code yJ0_indexOf_0f7a4 cJ0_indexOf_0f7a4 2 (some .int), .code yJ0_indexOf_7cf53 cJ0_indexOf_7cf53 3 (some .int), .code yJ0_isLatin1_aae02 cJ0_isLatin1_aae02 1 (some .boolean), .fieldLink RJ0 38 "java/lang/String" "COMPACT_STRINGS" "Z", .fieldLink RJ0 15 "java/lang/String" "coder" "B", .initialized RJ0, .instanceMethod yJ0_isLatin1_aae02, .selects RJ0 yJ0_isLatin1_aae02 yJ0_isLatin1_aae02, .methodLink RJ0 492 yJ0_isLatin1_aae02, .fieldLink RJ0 9 "java/lang/String" "value" "[B", .code yJ0_length_8abf5 cJ0_length_8abf5 1 (some .int), .code yJ0_coder_7d493 cJ0_coder_7d493 1 (some .byte), .instanceMethod yJ0_coder_7d493, .selects RJ0 yJ0_coder_7d493 yJ0_coder_7d493, .methodLink RJ0 335 yJ0_coder_7d493, .instanceMethod yJ0_length_8abf5, .selects RJ0 yJ0_length_8abf5 yJ0_length_8abf5, .methodLink RJ0 505 yJ0_length_8abf5, .code yJ1_indexOf_4cfef cJ1_indexOf_4cfef 4 (some .int), .code yJ1_canEncode_9a6ad cJ1_canEncode_9a6ad 1 (some .boolean), .initialized RJ1, .static yJ1_canEncode_9a6ad, .methodLink RJ1 88 yJ1_canEncode_9a6ad, .methodLink RJ1 92 Lib.Math.max.name, .static Lib.Math.max.name, .initialized "java/lang/Math", .code Lib.Math.max.name Lib.Math.max.code 2 (some .int), .methodLink RJ1 38 Lib.Math.min.name, .static Lib.Math.min.name, .code Lib.Math.min.name Lib.Math.min.code 2 (some .int), .code yJ1_indexOfChar_4cfef cJ1_indexOfChar_4cfef 6 (some .int), .static yJ1_indexOfChar_4cfef, .methodLink RJ1 95 yJ1_indexOfChar_4cfef, .static yJ1_indexOf_4cfef, .methodLink RJ0 637 yJ1_indexOf_4cfef, .instanceMethod yJ0_indexOf_7cf53, .selects RJ0 yJ0_indexOf_7cf53 yJ0_indexOf_7cf53, .methodLink RJ0 633 yJ0_indexOf_7cf53, .instanceMethod yJ0_indexOf_0f7a4, .selects RJ0 yJ0_indexOf_0f7a4 yJ0_indexOf_0f7a4, .methodLink RX3 103 yJ0_indexOf_0f7a4, .code yX3_write cX3_write 3 none, .fieldLink RX3 15 "LeftArguments$LawReader" "used" "I", .fieldLink RX3 11 "LeftArguments$LawReader" "code" "[I", .instanceMethod yX3_write, .selects RX3 yX3_write yX3_write, .methodLink RX3 66 yX3_write, .code yX10_takeNumber cX10_takeNumber 3 (some .boolean), .methodLink RX10 37 yX10_next, .methodLink RX10 45 yX10_isDigit, .methodLink RX10 41 yX10_wrongHere, .fieldLink RX10 25 "LeftArguments$Tape" "number" "I", .code yX10_sign cX10_sign 1 (some .int), .instanceMethod yX10_sign, .selects RX10 yX10_sign yX10_sign, .methodLink RX10 49 yX10_sign, .instanceMethod yX10_takeNumber, .selects RX10 yX10_takeNumber yX10_takeNumber, .methodLink RX3 95 yX10_takeNumber, .code yX10_number cX10_number 1 (some .int), .instanceMethod yX10_number, .selects RX10 yX10_number yX10_number, .methodLink RX3 98 yX10_number, .instanceMethod yX3_readAtom, .selects RX3 yX3_readAtom yX3_readAtom, .methodLink RX3 89 yX3_readAtom, .instanceMethod yX3_readTerm, .selects RX3 yX3_readTerm yX3_readTerm, .methodLink RX3 86 yX3_readTerm, .instanceMethod yX3_readSum, .selects RX3 yX3_readSum yX3_readSum, .methodLink RX3 59 yX3_readSum, .code yX10_take cX10_take 2 (some .boolean), .instanceMethod yX10_take, .selects RX10 yX10_take yX10_take, .methodLink RX3 51 yX10_take, .instanceMethod yX3_readUnit, .selects RX3 yX3_readUnit yX3_readUnit, .methodLink RX3 80 yX3_readUnit, .code yX3_readCondition cX3_readCondition 4 (some .boolean), .instanceMethod yX3_readTruth, .selects RX3 yX3_readTruth yX3_readTruth, .methodLink RX3 74 yX3_readTruth, .instanceMethod yX3_readCondition, .selects RX3 yX3_readCondition yX3_readCondition, .methodLink RX3 70 yX3_readCondition] : List Cond) ++ wsX30 ++ wsX100)
set_option maxRecDepth 20000 in
theorem g_X3_readCondition_6_0 : GoodIn q_X3_readCondition_6 (wsV RX3 74 RX3 yX3_readTruth q_X3_readTruth_6) := goodIn_app (goodIn_r _ [113, 111, 112, 13] rfl (by decide +kernel)) (goodIn_ca (goodIn_ca (goodIn_r (.code yX3_readTruth cX3_readTruth 4 (some .boolean) :: [.code yX3_readUnit cX3_readUnit 5 (some .boolean), .fieldLink RX3 19 "LeftArguments$LawReader" "tape" "LLeftArguments$Tape;", .code yX10_next cX10_next 1 (some .int), .fieldLink RX10 19 "LeftArguments$Tape" "at" "I", .fieldLink RX10 15 "LeftArguments$Tape" "used" "I", .fieldLink RX10 9 "LeftArguments$Tape" "bytes" "[I", .initialized RX10, .instanceMethod yX10_next, .selects RX10 yX10_next yX10_next, .methodLink RX3 48 yX10_next, .code yX3_comparing cX3_comparing 1 (some .int), .initialized RX3, .static yX3_comparing, .methodLink RX3 62 yX3_comparing, .code yX10_wrongHere cX10_wrongHere 1 (some .boolean), .fieldLink RX10 22 "LeftArguments$Tape" "wrongAt" "I", .instanceMethod yX10_wrongHere, .selects RX10 yX10_wrongHere yX10_wrongHere, .methodLink RX3 83 yX10_wrongHere, .code yX10_step cX10_step 1 none, .instanceMethod yX10_step, .selects RX10 yX10_step yX10_step, .methodLink RX3 77 yX10_step, .code yX3_readSum cX3_readSum 4 (some .boolean), .code yX3_readTerm cX3_readTerm 4 (some .boolean), .code yX3_readAtom cX3_readAtom 4 (some .boolean), .code yX10_isDigit cX10_isDigit 1 (some .boolean), .static yX10_isDigit, .methodLink RX3 92 yX10_isDigit, .code yJ0_indexOf_0f7a4 cJ0_indexOf_0f7a4 2 (some .int), .code yJ0_indexOf_7cf53 cJ0_indexOf_7cf53 3 (some .int), .code yJ0_isLatin1_aae02 cJ0_isLatin1_aae02 1 (some .boolean), .fieldLink RJ0 38 "java/lang/String" "COMPACT_STRINGS" "Z", .fieldLink RJ0 15 "java/lang/String" "coder" "B", .initialized RJ0, .instanceMethod yJ0_isLatin1_aae02, .selects RJ0 yJ0_isLatin1_aae02 yJ0_isLatin1_aae02, .methodLink RJ0 492 yJ0_isLatin1_aae02, .fieldLink RJ0 9 "java/lang/String" "value" "[B", .code yJ0_length_8abf5 cJ0_length_8abf5 1 (some .int), .code yJ0_coder_7d493 cJ0_coder_7d493 1 (some .byte), .instanceMethod yJ0_coder_7d493, .selects RJ0 yJ0_coder_7d493 yJ0_coder_7d493, .methodLink RJ0 335 yJ0_coder_7d493, .instanceMethod yJ0_length_8abf5, .selects RJ0 yJ0_length_8abf5 yJ0_length_8abf5, .methodLink RJ0 505 yJ0_length_8abf5, .code yJ1_indexOf_4cfef cJ1_indexOf_4cfef 4 (some .int), .code yJ1_canEncode_9a6ad cJ1_canEncode_9a6ad 1 (some .boolean), .initialized RJ1, .static yJ1_canEncode_9a6ad, .methodLink RJ1 88 yJ1_canEncode_9a6ad, .methodLink RJ1 92 Lib.Math.max.name, .static Lib.Math.max.name, .initialized "java/lang/Math", .code Lib.Math.max.name Lib.Math.max.code 2 (some .int), .methodLink RJ1 38 Lib.Math.min.name, .static Lib.Math.min.name, .code Lib.Math.min.name Lib.Math.min.code 2 (some .int), .code yJ1_indexOfChar_4cfef cJ1_indexOfChar_4cfef 6 (some .int), .static yJ1_indexOfChar_4cfef, .methodLink RJ1 95 yJ1_indexOfChar_4cfef, .static yJ1_indexOf_4cfef, .methodLink RJ0 637 yJ1_indexOf_4cfef, .instanceMethod yJ0_indexOf_7cf53, .selects RJ0 yJ0_indexOf_7cf53 yJ0_indexOf_7cf53, .methodLink RJ0 633 yJ0_indexOf_7cf53, .instanceMethod yJ0_indexOf_0f7a4, .selects RJ0 yJ0_indexOf_0f7a4 yJ0_indexOf_0f7a4, .methodLink RX3 103 yJ0_indexOf_0f7a4, .code yX3_write cX3_write 3 none, .fieldLink RX3 15 "LeftArguments$LawReader" "used" "I", .fieldLink RX3 11 "LeftArguments$LawReader" "code" "[I", .instanceMethod yX3_write, .selects RX3 yX3_write yX3_write, .methodLink RX3 66 yX3_write, .code yX10_takeNumber cX10_takeNumber 3 (some .boolean), .methodLink RX10 37 yX10_next, .methodLink RX10 45 yX10_isDigit, .methodLink RX10 41 yX10_wrongHere, .fieldLink RX10 25 "LeftArguments$Tape" "number" "I", .code yX10_sign cX10_sign 1 (some .int), .instanceMethod yX10_sign, .selects RX10 yX10_sign yX10_sign, .methodLink RX10 49 yX10_sign, .instanceMethod yX10_takeNumber, .selects RX10 yX10_takeNumber yX10_takeNumber, .methodLink RX3 95 yX10_takeNumber, .code yX10_number cX10_number 1 (some .int), .instanceMethod yX10_number, .selects RX10 yX10_number yX10_number, .methodLink RX3 98 yX10_number, .instanceMethod yX3_readAtom, .selects RX3 yX3_readAtom yX3_readAtom, .methodLink RX3 89 yX3_readAtom, .instanceMethod yX3_readTerm, .selects RX3 yX3_readTerm yX3_readTerm, .methodLink RX3 86 yX3_readTerm, .instanceMethod yX3_readSum, .selects RX3 yX3_readSum yX3_readSum, .methodLink RX3 59 yX3_readSum, .code yX10_take cX10_take 2 (some .boolean), .instanceMethod yX10_take, .selects RX10 yX10_take yX10_take, .methodLink RX3 51 yX10_take, .instanceMethod yX3_readUnit, .selects RX3 yX3_readUnit yX3_readUnit, .methodLink RX3 80 yX3_readUnit, .code yX3_readCondition cX3_readCondition 4 (some .boolean), .code yX3_readTruth cX3_readTruth 4 (some .boolean), .instanceMethod yX3_readTruth, .selects RX3 yX3_readTruth yX3_readTruth, .methodLink RX3 74 yX3_readTruth, .instanceMethod yX3_readCondition, .selects RX3 yX3_readCondition yX3_readCondition, .methodLink RX3 70 yX3_readCondition]) [1, 2, 3, 4, 5, 6, 7, 8, 9, 10, 11, 12, 13, 14, 15, 16, 17, 18, 19, 20, 21, 22, 23, 24, 25, 26, 27, 28, 29, 30, 31, 32, 33, 34, 35, 36, 37, 38, 39, 40, 41, 42, 43, 44, 45, 46, 47, 48, 49, 50, 51, 52, 53, 54, 55, 56, 57, 58, 59, 60, 61, 62, 63, 64, 65, 66, 67, 68, 69, 70, 71, 72, 73, 74, 75, 76, 77, 78, 79, 80, 81, 82, 83, 84, 85, 86, 87, 88, 89, 90, 91, 92, 93, 94, 95, 96, 97, 98, 99, 100, 101, 102, 103, 104, 105, 106, 107, 108, 109, 110, 1, 111, 112, 113, 114, 115, 116] rfl (by decide +kernel)) (goodIn_sub (fun _ h => List.mem_cons_of_mem _ (List.mem_append_left _ (List.mem_append_right _ h))) gwX3)) (goodIn_sub (fun _ h => List.mem_cons_of_mem _ (List.mem_append_right _ h)) gwX10))
set_option maxRecDepth 20000 in
theorem g_X3_readCondition_6_1 : GoodIn q_X3_readCondition_6 (wsV RX3 48 RX10 yX10_next q_X10_next) := goodIn_app (goodIn_r _ [11, 9, 10, 8] rfl (by decide +kernel)) (goodIn_ca (goodIn_r (.code yX10_next cX10_next 1 (some .int) :: [.fieldLink RX10 19 "LeftArguments$Tape" "at" "I", .fieldLink RX10 15 "LeftArguments$Tape" "used" "I", .fieldLink RX10 9 "LeftArguments$Tape" "bytes" "[I"]) [4, 5, 6, 7] rfl (by decide +kernel)) (goodIn_sub (fun _ h => List.mem_cons_of_mem _ (List.mem_append_right _ h)) gwX10))
set_option maxRecDepth 20000 in
theorem g_X3_readCondition_6_2 : GoodIn q_X3_readCondition_6 (wsV RX3 77 RX10 yX10_step q_X10_step) := goodIn_app (goodIn_r _ [24, 22, 23, 8] rfl (by decide +kernel)) (goodIn_ca (goodIn_r (.code yX10_step cX10_step 1 none :: [.fieldLink RX10 19 "LeftArguments$Tape" "at" "I"]) [21, 5] rfl (by decide +kernel)) (goodIn_sub (fun _ h => List.mem_cons_of_mem _ (List.mem_append_right _ h)) gwX10))
set_option maxRecDepth 20000 in
theorem g_X3_readCondition_6_3 : GoodIn q_X3_readCondition_6 (wsV RX3 74 RX3 yX3_readTruth q_X3_readTruth_7) := goodIn_app (goodIn_r _ [113, 111, 112, 13] rfl (by decide +kernel)) (goodIn_ca (goodIn_ca (goodIn_r (.code yX3_readTruth cX3_readTruth 4 (some .boolean) :: [.code yX3_readUnit cX3_readUnit 5 (some .boolean), .fieldLink RX3 19 "LeftArguments$LawReader" "tape" "LLeftArguments$Tape;", .code yX10_next cX10_next 1 (some .int), .fieldLink RX10 19 "LeftArguments$Tape" "at" "I", .fieldLink RX10 15 "LeftArguments$Tape" "used" "I", .fieldLink RX10 9 "LeftArguments$Tape" "bytes" "[I", .initialized RX10, .instanceMethod yX10_next, .selects RX10 yX10_next yX10_next, .methodLink RX3 48 yX10_next, .code yX3_readSum cX3_readSum 4 (some .boolean), .code yX3_readTerm cX3_readTerm 4 (some .boolean), .code yX3_readAtom cX3_readAtom 4 (some .boolean), .code yX10_isDigit cX10_isDigit 1 (some .boolean), .static yX10_isDigit, .methodLink RX3 92 yX10_isDigit, .code yX10_wrongHere cX10_wrongHere 1 (some .boolean), .fieldLink RX10 22 "LeftArguments$Tape" "wrongAt" "I", .instanceMethod yX10_wrongHere, .selects RX10 yX10_wrongHere yX10_wrongHere, .methodLink RX3 83 yX10_wrongHere, .code yJ0_indexOf_0f7a4 cJ0_indexOf_0f7a4 2 (some .int), .code yJ0_indexOf_7cf53 cJ0_indexOf_7cf53 3 (some .int), .code yJ0_isLatin1_aae02 cJ0_isLatin1_aae02 1 (some .boolean), .fieldLink RJ0 38 "java/lang/String" "COMPACT_STRINGS" "Z", .fieldLink RJ0 15 "java/lang/String" "coder" "B", .initialized RJ0, .instanceMethod yJ0_isLatin1_aae02, .selects RJ0 yJ0_isLatin1_aae02 yJ0_isLatin1_aae02, .methodLink RJ0 492 yJ0_isLatin1_aae02, .fieldLink RJ0 9 "java/lang/String" "value" "[B", .code yJ0_length_8abf5 cJ0_length_8abf5 1 (some .int), .code yJ0_coder_7d493 cJ0_coder_7d493 1 (some .byte), .instanceMethod yJ0_coder_7d493, .selects RJ0 yJ0_coder_7d493 yJ0_coder_7d493, .methodLink RJ0 335 yJ0_coder_7d493, .instanceMethod yJ0_length_8abf5, .selects RJ0 yJ0_length_8abf5 yJ0_length_8abf5, .methodLink RJ0 505 yJ0_length_8abf5, .code yJ1_indexOf_4cfef cJ1_indexOf_4cfef 4 (some .int), .code yJ1_canEncode_9a6ad cJ1_canEncode_9a6ad 1 (some .boolean), .initialized RJ1, .static yJ1_canEncode_9a6ad, .methodLink RJ1 88 yJ1_canEncode_9a6ad, .methodLink RJ1 92 Lib.Math.max.name, .static Lib.Math.max.name, .initialized "java/lang/Math", .code Lib.Math.max.name Lib.Math.max.code 2 (some .int), .methodLink RJ1 38 Lib.Math.min.name, .static Lib.Math.min.name, .code Lib.Math.min.name Lib.Math.min.code 2 (some .int), .code yJ1_indexOfChar_4cfef cJ1_indexOfChar_4cfef 6 (some .int), .static yJ1_indexOfChar_4cfef, .methodLink RJ1 95 yJ1_indexOfChar_4cfef, .static yJ1_indexOf_4cfef, .methodLink RJ0 637 yJ1_indexOf_4cfef, .instanceMethod yJ0_indexOf_7cf53, .selects RJ0 yJ0_indexOf_7cf53 yJ0_indexOf_7cf53, .methodLink RJ0 633 yJ0_indexOf_7cf53, .instanceMethod yJ0_indexOf_0f7a4, .selects RJ0 yJ0_indexOf_0f7a4 yJ0_indexOf_0f7a4, .methodLink RX3 103 yJ0_indexOf_0f7a4, .code yX10_step cX10_step 1 none, .instanceMethod yX10_step, .selects RX10 yX10_step yX10_step, .methodLink RX3 77 yX10_step, .code yX3_write cX3_write 3 none, .fieldLink RX3 15 "LeftArguments$LawReader" "used" "I", .fieldLink RX3 11 "LeftArguments$LawReader" "code" "[I", .initialized RX3, .instanceMethod yX3_write, .selects RX3 yX3_write yX3_write, .methodLink RX3 66 yX3_write, .code yX10_takeNumber cX10_takeNumber 3 (some .boolean), .methodLink RX10 37 yX10_next, .methodLink RX10 45 yX10_isDigit, .methodLink RX10 41 yX10_wrongHere, .fieldLink RX10 25 "LeftArguments$Tape" "number" "I", .code yX10_sign cX10_sign 1 (some .int), .instanceMethod yX10_sign, .selects RX10 yX10_sign yX10_sign, .methodLink RX10 49 yX10_sign, .instanceMethod yX10_takeNumber, .selects RX10 yX10_takeNumber yX10_takeNumber, .methodLink RX3 95 yX10_takeNumber, .code yX10_number cX10_number 1 (some .int), .instanceMethod yX10_number, .selects RX10 yX10_number yX10_number, .methodLink RX3 98 yX10_number, .instanceMethod yX3_readAtom, .selects RX3 yX3_readAtom yX3_readAtom, .methodLink RX3 89 yX3_readAtom, .instanceMethod yX3_readTerm, .selects RX3 yX3_readTerm yX3_readTerm, .methodLink RX3 86 yX3_readTerm, .instanceMethod yX3_readSum, .selects RX3 yX3_readSum yX3_readSum, .methodLink RX3 59 yX3_readSum, .code yX10_take cX10_take 2 (some .boolean), .instanceMethod yX10_take, .selects RX10 yX10_take yX10_take, .methodLink RX3 51 yX10_take, .code yX3_comparing cX3_comparing 1 (some .int), .static yX3_comparing, .methodLink RX3 62 yX3_comparing, .instanceMethod yX3_readUnit, .selects RX3 yX3_readUnit yX3_readUnit, .methodLink RX3 80 yX3_readUnit, .code yX3_readCondition cX3_readCondition 4 (some .boolean), .code yX3_readTruth cX3_readTruth 4 (some .boolean), .instanceMethod yX3_readTruth, .selects RX3 yX3_readTruth yX3_readTruth, .methodLink RX3 74 yX3_readTruth, .instanceMethod yX3_readCondition, .selects RX3 yX3_readCondition yX3_readCondition, .methodLink RX3 70 yX3_readCondition]) [1, 2, 3, 4, 5, 6, 7, 8, 9, 10, 11, 25, 26, 27, 28, 29, 30, 16, 17, 18, 19, 20, 31, 32, 33, 34, 35, 36, 37, 38, 39, 40, 41, 42, 43, 44, 45, 46, 47, 48, 49, 50, 51, 52, 53, 54, 55, 56, 57, 58, 59, 60, 61, 62, 63, 64, 65, 66, 67, 68, 69, 70, 71, 21, 22, 23, 24, 72, 73, 74, 13, 75, 76, 77, 78, 79, 80, 81, 82, 83, 84, 85, 86, 87, 88, 89, 90, 91, 92, 93, 94, 95, 96, 97, 98, 99, 100, 101, 102, 103, 104, 105, 106, 12, 14, 15, 107, 108, 109, 110, 1, 111, 112, 113, 114, 115, 116] rfl (by decide +kernel)) (goodIn_sub (fun _ h => List.mem_cons_of_mem _ (List.mem_append_left _ (List.mem_append_right _ h))) gwX3)) (goodIn_sub (fun _ h => List.mem_cons_of_mem _ (List.mem_append_right _ h)) gwX10))
set_option maxRecDepth 20000 in
theorem g_X3_readCondition_6_4 : GoodIn q_X3_readCondition_6 (wsV RX3 66 RX3 yX3_write q_X3_write) := goodIn_app (goodIn_r _ [77, 75, 76, 13] rfl (by decide +kernel)) (goodIn_ca (goodIn_r (.code yX3_write cX3_write 3 none :: [.fieldLink RX3 15 "LeftArguments$LawReader" "used" "I", .fieldLink RX3 11 "LeftArguments$LawReader" "code" "[I"]) [72, 73, 74] rfl (by decide +kernel)) (goodIn_sub (fun _ h => List.mem_cons_of_mem _ (List.mem_append_left _ (List.mem_append_right _ h))) gwX3))
set_option maxHeartbeats 4000000 in
set_option maxRecDepth 100000 in
theorem k_X3_readCondition_6 (l : Launch) (dC : Nat → ClassId) (dI : Nat → Nat → Nat) (adK : Nat → Nat) (adV : Nat → Nat) (h0 : Nat) (h1 : Nat) (h2 : Nat) (h3 : Nat) (v0 : Int32) (v1 : Int32) (v2 : Int32) (v3 : Int32) (v4 : Int32) (g0 : ClassId) (f5 : Nat → Int32) (g1 : ClassId) (f6 : Nat → Int32) (i_v0 : 0 ≤ v0.toInt ∧ v0.toInt ≤ 256) (i_v1 : 0 ≤ v1.toInt ∧ v1.toInt ≤ 240) (i_v2 : 0 ≤ v2.toInt ∧ v2.toInt ≤ 240) (ia_f5 : (∀ j, 0 ≤ (f5 j).toInt ∧ (f5 j).toInt ≤ 255)) (sz : Nat) : Met l yX3_readCondition q_X3_readCondition_6 ({ frames := 27, cells := 0, slots := 0, locals := 627 }) (va_Pc [.ref h0, .int 0, .int 1] (fun U => U.heap.size = sz ∧ va_P (dC, dI) vwCl (wd_1ad0248d h0 h1 h3 v0 h1 h2 v1 v2 v3 v4 h2 g0 f5 h3 g1 f6) U.heap ∧ va_K (dC, dI) vwCl [(g0, .int), (g1, .int)] U ∧ va_D (fun _ => True) (wd_1ad0248d h0 h1 h3 v0 h1 h2 v1 v2 v3 v4 h2 g0 f5 h3 g1 f6) ∧ vk_R RX3 101 "zaondt" (adK 2) U ∧ va_Z "java/lang/String" "COMPACT_STRINGS" "Z" (.int 1) (va_A (wd_1ad0248d h0 h1 h3 v0 h1 h2 v1 v2 v3 v4 h2 g0 f5 h3 g1 f6) sz) U U.heap ∧ vk_S 3 pv_len3 pv_byt3 adK adV (va_A (wd_1ad0248d h0 h1 h3 v0 h1 h2 v1 v2 v3 v4 h2 g0 f5 h3 g1 f6) sz) U U.heap)) (va_Qi (fun (r : Int32) (r9 : Int32) => r9 = r) (fun (r : Int32) (t : State) => (∃ (o_h0_2 : Int32) (o_h1_2 : Int32) (o_h1_4 : Int32) (o_h3 : Nat → Int32), 0 ≤ o_h0_2.toInt ∧ o_h0_2.toInt ≤ 256 ∧ 0 ≤ o_h1_2.toInt ∧ o_h1_2.toInt ≤ 240 ∧ (1 ≤ r.toInt) ∧ (r.toInt ≤ 1) ∧ (v2.toInt ≤ o_h1_2.toInt) ∧ (pg_bind (pg_bind (pg_cmp f5 v1.toInt 6 v2.toInt) (pg_loop f5 v1.toInt 38 38 (pg_unit f5 v1.toInt 6) 300)) (pg_loop f5 v1.toInt 124 124 (pg_tru f5 v1.toInt (pg_unit f5 v1.toInt 6)) 300) = (true, o_h1_2.toInt)) ∧ va_P (dC, dI) vwCl (wd_1ad0248d h0 h1 h3 o_h0_2 h1 h2 v1 o_h1_2 v3 o_h1_4 h2 g0 f5 h3 g1 o_h3) t.heap ∧ va_K (dC, dI) vwCl [] t ∧ va_D (va_A (wd_1ad0248d h0 h1 h3 v0 h1 h2 v1 v2 v3 v4 h2 g0 f5 h3 g1 f6) sz) (wd_1ad0248d h0 h1 h3 o_h0_2 h1 h2 v1 o_h1_2 v3 o_h1_4 h2 g0 f5 h3 g1 o_h3)) ∨ (∃ (o_h0_2 : Int32) (o_h1_2 : Int32) (o_h1_3 : Int32) (o_h1_4 : Int32) (o_h3 : Nat → Int32), 0 ≤ o_h0_2.toInt ∧ o_h0_2.toInt ≤ 256 ∧ 0 ≤ o_h1_2.toInt ∧ o_h1_2.toInt ≤ 240 ∧ 0 ≤ o_h1_3.toInt ∧ o_h1_3.toInt ≤ 240 ∧ (0 ≤ r.toInt) ∧ (r.toInt ≤ 0) ∧ (v2.toInt ≤ o_h1_2.toInt) ∧ (pg_bind (pg_bind (pg_cmp f5 v1.toInt 6 v2.toInt) (pg_loop f5 v1.toInt 38 38 (pg_unit f5 v1.toInt 6) 300)) (pg_loop f5 v1.toInt 124 124 (pg_tru f5 v1.toInt (pg_unit f5 v1.toInt 6)) 300) = (false, o_h1_3.toInt)) ∧ va_P (dC, dI) vwCl (wd_1ad0248d h0 h1 h3 o_h0_2 h1 h2 v1 o_h1_2 o_h1_3 o_h1_4 h2 g0 f5 h3 g1 o_h3) t.heap ∧ va_K (dC, dI) vwCl [] t ∧ va_D (va_A (wd_1ad0248d h0 h1 h3 v0 h1 h2 v1 v2 v3 v4 h2 g0 f5 h3 g1 f6) sz) (wd_1ad0248d h0 h1 h3 o_h0_2 h1 h2 v1 o_h1_2 o_h1_3 o_h1_4 h2 g0 f5 h3 g1 o_h3))) (va_A (wd_1ad0248d h0 h1 h3 v0 h1 h2 v1 v2 v3 v4 h2 g0 f5 h3 g1 f6) sz)) 0 0 (va_A (wd_1ad0248d h0 h1 h3 v0 h1 h2 v1 v2 v3 v4 h2 g0 f5 h3 g1 f6) sz) := by
  refine Met.ofW (cc := cX3_readCondition) (maxL := 4) (ret := (some .boolean)) (by decide) rfl ?_
  intro p e s m args below meth c s₁ B hml hv
  obtain ⟨i_v0a, i_v0b⟩ := i_v0
  obtain ⟨i_v1a, i_v1b⟩ := i_v1
  obtain ⟨i_v2a, i_v2b⟩ := i_v2
  obtain ⟨rfl, hsz, hP, hK, hD0, h_vr_2, h_st_CS, h_st_S⟩ := hv
  have hx := B.exec
  have hb := B.bytes
  have hr := B.returns
  have hts := atoms_spec (ws := q_X3_readCondition_6) B.pre
  have hown : s.vm.findClass RX3 = some m.cls := findClass_of_methodNamed B.named
  have hlocks := B.notSynchronized
  subst hsz
  have hD := hD0.self (sz := s.heap.size)
  generalize hAe : va_A (wd_1ad0248d h0 h1 h3 v0 h1 h2 v1 v2 v3 v4 h2 g0 f5 h3 g1 f6) s.heap.size = A at hD h_st_CS h_st_S ⊢
  have hA : ∀ q : Nat, s.heap.size ≤ q → A q := fun q h => by rw [← hAe]; exact Or.inr h
  have hS : va_S A s.heap s.heap [] := va_S.rf
  generalize hQ : (MQ below _ _ s 0 0 A) = Q
  have hl := lv_entry ([.ref h0, .int 0, .int 1]) (n := 4) (Nat.le_of_ble_eq_true rfl)
  rw [lg_entry_eq]
  generalize (lg_sl ([.ref h0, .int 0, .int 1]) ++ List.replicate (4 - (lg_sl ([.ref h0, .int 0, .int 1])).length) Slot.unset).toArray = ls at hl ⊢
  have hl : lv_has ls 4 [(0, .ref h0), (1, .int 0), (2, .int 1)] := hl
  obtain ⟨H, hH⟩ : ∃ H : Heap, H = s.heap := ⟨_, rfl⟩
  obtain ⟨locs, hlocs⟩ : ∃ y : List Loc, y = [] := ⟨_, rfl⟩
  have hS : va_S A s.heap H locs := by rw [hH, hlocs]; exact va_S.rf
  have hP : va_P (dC, dI) vwCl (wd_1ad0248d h0 h1 h3 v0 h1 h2 v1 v2 v3 v4 h2 g0 f5 h3 g1 f6) H := by rw [hH]; exact hP
  rw [← hH, ← hlocs]
  refine lv_aload_n hx hb dX3_readCondition_0 rfl (lv_at hl 0 rfl) ?_
  refine lv_iload_n hx hb dX3_readCondition_1 rfl (lv_at hl 1 rfl) ?_
  refine lv_iload_n hx hb dX3_readCondition_2 rfl (lv_at hl 2 rfl) ?_
  have hPc := hP.sub (ws' := (wd_1ad0248d h0 h1 h3 v0 h1 h2 v1 v2 v3 v4 h2 g0 f5 h3 g1 f6)) [0, 1, 2, 3] rfl
  have hDc := hD.sub (ws' := (wd_1ad0248d h0 h1 h3 v0 h1 h2 v1 v2 v3 v4 h2 g0 f5 h3 g1 f6)) [0, 1, 2, 3] (by decide) rfl
  have hKc := hK.sub (tys' := [(g0, .int), (g1, .int)]) [0, 1] rfl
  have hFc := va_free (wc := (wd_1ad0248d h0 h1 h3 v0 h1 h2 v1 v2 v3 v4 h2 g0 f5 h3 g1 f6)) hD hS hA [0, 1, 2, 3] rfl
  refine va_calli (va_runV (As := [.int 0, .int 1]) (rest := []) ⟨hx, hb, hml, hown, hts⟩ (k_X3_readTruth_6 l dC dI adK adV h0 h1 h2 h3 v0 v1 v2 v3 v4 g0 f5 g1 f6 ⟨i_v0a, i_v0b⟩ ⟨i_v1a, i_v1b⟩ ⟨i_v2a, i_v2b⟩ ia_f5 H.size) (cwV 2 hts g_X3_readCondition_6_0 rfl rfl rfl (by decide +kernel) ⟨Nat.le_of_ble_eq_true rfl, Nat.le_of_ble_eq_true rfl⟩) ⟨fun a U g mk q => by obtain ⟨q0, q1, qP, qK, qD, n0, n1, n2⟩ := q; exact ⟨q0, q1, qP, va_K.moved (u := U) (U := U.calling g mk a) (Vm.Alike.refl U.vm) qK, qD, vk_R.same rfl n0, va_Z.moved (Vm.Alike.refl _) n1, vk_S.moved (Vm.Alike.refl _) n2⟩, pv_rc3 hKc hPc (q0 := 0) rfl, fun U hU hW => ⟨rfl, by rw [hU], by rw [hU]; exact hPc, va_K.moved hW.alike hKc, hDc.weaken (fun _ _ _ _ => trivial), vk_R.warm hW h_vr_2, (by rw [hU]; exact (va_Z.moved hW.alike (va_Z.kept h_st_CS hS.2.1)).narrow hFc), (by rw [hU]; exact (vk_S.moved hW.alike (vk_S.kept h_st_S hS.2.1)).narrow hFc)⟩⟩ rfl rfl hl.1 rfl (lv_room (Nat.le_of_ble_eq_true rfl)) dX3_readCondition_3 ⟨Nat.le_of_ble_eq_true rfl, Nat.le_of_ble_eq_true rfl⟩) hS (fun q _ h => hFc q h) hFc (fun ra1 u t H1 locs ht hvm hwra1 hB hz1 hk1 hS => ?_)
  try rw [hwra1] at hB
  rcases hB with hB | hB
  · skip
    obtain ⟨x2, x3, x4, fn5, oa_x2, ob_x2, oa_x3, ob_x3, pt0_ra1, pt1_ra1, pt2_ra1, pt3_ra1, hP1, hK1, hD1⟩ := hB
    rw [ht] at hP1
    obtain ⟨hP2, hD2⟩ := va_join (wr := []) (w1 := (wd_1ad0248d h0 h1 h3 x2 h1 h2 v1 x3 v3 x4 h2 g0 f5 h3 g1 fn5)) hP hD [0, 1, 2, 3] [] rfl rfl (by decide) (by decide) hk1 hFc hP1 hD1
    clear hP hD hPc hDc hKc hFc hP1 hK1 hD1 hk1 hz1
    generalize H1 = H at hP2 hS ⊢
    have hP : va_P (dC, dI) vwCl (wd_1ad0248d h0 h1 h3 x2 h1 h2 v1 x3 v3 x4 h2 g0 f5 h3 g1 fn5) H := hP2
    have hD : va_D A (wd_1ad0248d h0 h1 h3 x2 h1 h2 v1 x3 v3 x4 h2 g0 f5 h3 g1 fn5) := hD2
    clear hP2 hD2
    obtain rfl : ra1 = (1 : Int32) := pv_cs (by decide) pt0_ra1 pt1_ra1
    refine lv_if_ne (tgt := 11) hx hb dX3_readCondition_6 (by decide) (fun _ => ?_) (fun c => absurd c (by decide))
    refine lv_iconst (v := 0) hx hb dX3_readCondition_11 (by decide) ?_
    refine lv_istore_n (lv' := [(3, .int 0), (0, .ref h0), (1, .int 0), (2, .int 1)]) hx hb dX3_readCondition_12 rfl hl (by decide) rfl (fun ls hl => ?_)
    have hL81 : ∀ (n9 : Nat), ∀ (x71 : Int32) (x72 : Int32) (x73 : Int32) (x74 : Int32) (fn75 : Nat → Int32) (H : Heap) (locs : List Loc) (ls : Array Slot), 0 ≤ x71.toInt → x71.toInt ≤ 240 → 0 ≤ x72.toInt → x72.toInt ≤ 256 → 0 ≤ x73.toInt → x73.toInt ≤ 240 → (pg_L f5 v1.toInt 124 124 (pg_tru f5 v1.toInt (pg_unit f5 v1.toInt 6)) x73.toInt (pg_bind (pg_bind (pg_cmp f5 v1.toInt 6 v2.toInt) (pg_loop f5 v1.toInt 38 38 (pg_unit f5 v1.toInt 6) 300)) (pg_loop f5 v1.toInt 124 124 (pg_tru f5 v1.toInt (pg_unit f5 v1.toInt 6)) 300))) → (x71.toInt ≤ x73.toInt) → (v2.toInt ≤ x73.toInt) → (240 - x71.toInt).toNat < n9 → va_P (dC, dI) vwCl (wd_1ad0248d h0 h1 h3 x72 h1 h2 v1 x73 v3 x74 h2 g0 f5 h3 g1 fn75) H → va_D A (wd_1ad0248d h0 h1 h3 x72 h1 h2 v1 x73 v3 x74 h2 g0 f5 h3 g1 fn75) → va_S A s.heap H locs → lv_has ls 4 [(3, .int x71), (0, .ref h0), (1, .int 0), (2, .int 1)] → W p l e ({ frames := 27, cells := 0, slots := 0, locals := 627 }) s m ([.ref h0, .int 0, .int 1] : List Value).toArray below meth c H locs 0 0 Q (F0 m 13 ls []) := by
      intro n9
      induction n9 with
      | zero => intro x71 x72 x73 x74 fn75 H locs ls qa_x71 qb_x71 qa_x72 qb_x72 qa_x73 qb_x73 gh0_hL81 gh1_hL81 gh2_hL81 hm9 hP hD hS hl; exact absurd hm9 (Nat.not_lt_zero _)
      | succ n9 ih_hL81 =>
        intro x71 x72 x73 x74 fn75 H locs ls qa_x71 qb_x71 qa_x72 qb_x72 qa_x73 qb_x73 gh0_hL81 gh1_hL81 gh2_hL81 hm9 hP hD hS hl
        refine lv_iload_n hx hb dX3_readCondition_13 rfl (lv_at hl 0 rfl) ?_
        refine lv_sipush (v := 240) hx hb dX3_readCondition_14 (by decide) ?_
        refine lv_icmp_ge (tgt := 63) hx hb dX3_readCondition_17 (by decide) (fun c82 => ?_) (fun c82 => ?_)
        · skip
          have fc82 : 240 ≤ x71.toInt := Int32.le_iff_toInt_le.mp c82
          refine lv_iconst (v := 1) hx hb dX3_readCondition_63 (by decide) ?_
          subst hQ
          have hP9 := hP.sub (ws' := (wd_1ad0248d h0 h1 h3 x72 h1 h2 v1 x73 v3 x74 h2 g0 f5 h3 g1 fn75)) [0, 1, 2, 3] rfl
          have hD9 := hD.sub (ws' := (wd_1ad0248d h0 h1 h3 x72 h1 h2 v1 x73 v3 x74 h2 g0 f5 h3 g1 fn75)) [0, 1, 2, 3] (by decide) rfl
          have hK9 := hK.sub (tys' := []) [] rfl
          exact W.zret (v := 1) hx hb hr rfl (fun t ht hW => ⟨⟨1, 1, rfl, rfl, Or.inl ⟨x72, x73, x74, fn75, qa_x72, qb_x72, qa_x73, qb_x73, by first | omega | decide, by first | omega | decide, by omega, by first | assumption | (apply pg_L.stop <;> first | assumption | omega) | exact pg_L.stop (by assumption) (pg_s.here (by rw [pg_ch.off (by omega)]; decide)) (by rw [pg_ch.off (by omega)]; decide), by rw [ht]; exact hP9, va_K.moved hW.alike hK9, hD9⟩⟩, hS.F ht⟩) hS.2.2 dX3_readCondition_64
        · skip
          have fc82 : ¬ (240 ≤ x71.toInt) := fun h9 => c82 (Int32.le_iff_toInt_le.mpr h9)
          refine lv_aload_n hx hb dX3_readCondition_20 rfl (lv_at hl 1 rfl) ?_
          refine va_get (D := (dC, dI)) (ci := 3) (v := .ref h1) (C := RX3) (T := TX3) (N := 3) hx hb hts (fun _ h => List.mem_cons_of_mem _ (List.mem_append_left _ (List.mem_append_right _ h))) hown hK hP 0 rfl rfl 0 (by decide) (hts (.fieldLink RX3 19 "LeftArguments$LawReader" "tape" "LLeftArguments$Tape;") (List.mem_cons_of_mem _ (List.mem_append_left _ (List.mem_append_left _ (List.mem_of_getElem? (i := 2) rfl))))) (fun _ h9 => h9) rfl dX3_readCondition_21 ?_
          have hPc := hP.sub (ws' := (wd_82cdd16b h1 h2 v1 x73 v3 x74 h2 g0 f5)) [1, 2] rfl
          have hDc := hD.sub (ws' := (wd_82cdd16b h1 h2 v1 x73 v3 x74 h2 g0 f5)) [1, 2] (by decide) rfl
          have hKc := hK.sub (tys' := [(g0, .int)]) [0] rfl
          have hFc := va_free (wc := (wd_82cdd16b h1 h2 v1 x73 v3 x74 h2 g0 f5)) hD hS hA [1, 2] rfl
          refine va_calli (va_runV (As := []) (rest := []) ⟨hx, hb, hml, hown, hts⟩ (k_X10_next l dC dI h1 h2 v1 x73 v3 x74 g0 f5 ⟨i_v1a, i_v1b⟩ ⟨qa_x73, qb_x73⟩ ia_f5 H.size) (cwV 0 hts g_X3_readCondition_6_1 rfl rfl rfl (by decide +kernel) ⟨Nat.le_of_ble_eq_true rfl, Nat.le_of_ble_eq_true rfl⟩) (pv_PV10 hPc hKc hDc (q0 := 0) rfl) rfl rfl hl.1 rfl (lv_room (Nat.le_of_ble_eq_true rfl)) dX3_readCondition_24 ⟨Nat.le_of_ble_eq_true rfl, Nat.le_of_ble_eq_true rfl⟩) hS (fun q _ h => hFc q h) hFc (fun ra83 u t H1 locs ht hvm hwra83 hB hz1 hk1 hS => ?_)
          try rw [hwra83] at hB
          rcases hB with hB | hB
          · skip
            obtain ⟨x84, oa_x84, ob_x84, pt0_ra83, pt1_ra83, pt2_ra83, pt3_ra83, pt4_ra83, pt5_ra83, pt6_ra83, hP1, hK1, hD1⟩ := hB
            rw [ht] at hP1
            obtain ⟨hP2, hD2⟩ := va_join (wr := (wd_b958b9da h0 h1 h3 x72 h3 g1 fn75)) (w1 := (wd_82cdd16b h1 h2 v1 x84 v3 x74 h2 g0 f5)) hP hD [1, 2] [0, 3] rfl rfl (by decide) (by decide) hk1 hFc hP1 hD1
            clear hP hD hPc hDc hKc hFc hP1 hK1 hD1 hk1 hz1
            generalize H1 = H at hP2 hS ⊢
            have hP := hP2.sub (ws' := (wd_1ad0248d h0 h1 h3 x72 h1 h2 v1 x84 v3 x74 h2 g0 f5 h3 g1 fn75)) [0, 2, 3, 1] rfl
            have hD := hD2.sub (ws' := (wd_1ad0248d h0 h1 h3 x72 h1 h2 v1 x84 v3 x74 h2 g0 f5 h3 g1 fn75)) [0, 2, 3, 1] (by decide) rfl
            clear hP2 hD2
            obtain rfl : ra83 = ((-1) : Int32) := pv_cs (by decide) pt0_ra83 pt1_ra83
            refine lv_bipush (v := 124) hx hb dX3_readCondition_27 (by decide) ?_
            refine lv_icmp_ne (tgt := 63) hx hb dX3_readCondition_29 (by decide) (fun _ => ?_) (fun c => absurd c (by decide))
            refine lv_iconst (v := 1) hx hb dX3_readCondition_63 (by decide) ?_
            subst hQ
            have hP9 := hP.sub (ws' := (wd_1ad0248d h0 h1 h3 x72 h1 h2 v1 x84 v3 x74 h2 g0 f5 h3 g1 fn75)) [0, 1, 2, 3] rfl
            have hD9 := hD.sub (ws' := (wd_1ad0248d h0 h1 h3 x72 h1 h2 v1 x84 v3 x74 h2 g0 f5 h3 g1 fn75)) [0, 1, 2, 3] (by decide) rfl
            have hK9 := hK.sub (tys' := []) [] rfl
            exact W.zret (v := 1) hx hb hr rfl (fun t ht hW => ⟨⟨1, 1, rfl, rfl, Or.inl ⟨x72, x84, x74, fn75, qa_x72, qb_x72, oa_x84, ob_x84, by first | omega | decide, by first | omega | decide, by omega, by first | assumption | (apply pg_L.stop <;> first | assumption | omega) | exact pg_L.stop (by assumption) (pg_s.here (by rw [pg_ch.off (by omega)]; decide)) (by rw [pg_ch.off (by omega)]; decide), by rw [ht]; exact hP9, va_K.moved hW.alike hK9, hD9⟩⟩, hS.F ht⟩) hS.2.2 dX3_readCondition_64
          · skip
            obtain ⟨x85, oa_x85, ob_x85, pt0_ra83, pt1_ra83, pt2_ra83, pt3_ra83, pt4_ra83, pt5_ra83, pt6_ra83, hP1, hK1, hD1⟩ := hB
            rw [ht] at hP1
            obtain ⟨hP2, hD2⟩ := va_join (wr := (wd_b958b9da h0 h1 h3 x72 h3 g1 fn75)) (w1 := (wd_82cdd16b h1 h2 v1 x85 v3 x74 h2 g0 f5)) hP hD [1, 2] [0, 3] rfl rfl (by decide) (by decide) hk1 hFc hP1 hD1
            clear hP hD hPc hDc hKc hFc hP1 hK1 hD1 hk1 hz1
            generalize H1 = H at hP2 hS ⊢
            have hP := hP2.sub (ws' := (wd_1ad0248d h0 h1 h3 x72 h1 h2 v1 x85 v3 x74 h2 g0 f5 h3 g1 fn75)) [0, 2, 3, 1] rfl
            have hD := hD2.sub (ws' := (wd_1ad0248d h0 h1 h3 x72 h1 h2 v1 x85 v3 x74 h2 g0 f5 h3 g1 fn75)) [0, 2, 3, 1] (by decide) rfl
            clear hP2 hD2
            refine lv_bipush (v := 124) hx hb dX3_readCondition_27 (by decide) ?_
            refine lv_icmp_ne (tgt := 63) hx hb dX3_readCondition_29 (by decide) (fun c86 => ?_) (fun c86 => ?_)
            · skip
              have fc86 : ¬ (ra83.toInt = 124) := fun h9 => c86 (Int32.toInt_inj.mp h9)
              refine lv_iconst (v := 1) hx hb dX3_readCondition_63 (by decide) ?_
              subst hQ
              have hP9 := hP.sub (ws' := (wd_1ad0248d h0 h1 h3 x72 h1 h2 v1 x85 v3 x74 h2 g0 f5 h3 g1 fn75)) [0, 1, 2, 3] rfl
              have hD9 := hD.sub (ws' := (wd_1ad0248d h0 h1 h3 x72 h1 h2 v1 x85 v3 x74 h2 g0 f5 h3 g1 fn75)) [0, 1, 2, 3] (by decide) rfl
              have hK9 := hK.sub (tys' := []) [] rfl
              exact W.zret (v := 1) hx hb hr rfl (fun t ht hW => ⟨⟨1, 1, rfl, rfl, Or.inl ⟨x72, x85, x74, fn75, qa_x72, qb_x72, oa_x85, by first | omega | decide, by first | omega | decide, by first | omega | decide, by omega, by first | assumption | (apply pg_L.stop <;> first | assumption | omega) | exact pg_L.stop (by assumption) (pg_s.here (by rw [pg_ch.off (by omega)]; decide)) (by rw [pg_ch.off (by omega)]; decide), by rw [ht]; exact hP9, va_K.moved hW.alike hK9, hD9⟩⟩, hS.F ht⟩) hS.2.2 dX3_readCondition_64
            · skip
              have fc86 : ra83.toInt = 124 := congrArg Int32.toInt c86
              refine lv_aload_n hx hb dX3_readCondition_32 rfl (lv_at hl 1 rfl) ?_
              refine va_get (D := (dC, dI)) (ci := 3) (v := .ref h1) (C := RX3) (T := TX3) (N := 3) hx hb hts (fun _ h => List.mem_cons_of_mem _ (List.mem_append_left _ (List.mem_append_right _ h))) hown hK hP 0 rfl rfl 0 (by decide) (hts (.fieldLink RX3 19 "LeftArguments$LawReader" "tape" "LLeftArguments$Tape;") (List.mem_cons_of_mem _ (List.mem_append_left _ (List.mem_append_left _ (List.mem_of_getElem? (i := 2) rfl))))) (fun _ h9 => h9) rfl dX3_readCondition_33 ?_
              have hPc := hP.sub (ws' := (wd_09b0abee h1 h2 v1 x85 v3 x74)) [1] rfl
              have hDc := hD.sub (ws' := (wd_09b0abee h1 h2 v1 x85 v3 x74)) [1] (by decide) rfl
              have hKc := hK.sub (tys' := []) [] rfl
              have hFc := va_free (wc := (wd_09b0abee h1 h2 v1 x85 v3 x74)) hD hS hA [1] rfl
              refine va_callv (va_runV (As := []) (rest := []) ⟨hx, hb, hml, hown, hts⟩ (k_X10_step l dC dI h1 h2 v1 x85 v3 x74 ⟨i_v1a, i_v1b⟩ ⟨oa_x85, ob_x85⟩ H.size) (cwV 0 hts g_X3_readCondition_6_2 rfl rfl rfl (by decide +kernel) ⟨Nat.le_of_ble_eq_true rfl, Nat.le_of_ble_eq_true rfl⟩) (pv_PV10 hPc hKc hDc (q0 := 0) rfl) rfl rfl hl.1 rfl (lv_room (Nat.le_of_ble_eq_true rfl)) dX3_readCondition_36 ⟨Nat.le_of_ble_eq_true rfl, Nat.le_of_ble_eq_true rfl⟩) hS (fun q _ h => hFc q h) hFc (fun u t H1 locs ht hvm hwra87 hB hz1 hk1 hS => ?_)
              obtain ⟨x88, oa_x88, ob_x88, pt0_ra87, hP1, hK1, hD1⟩ := hB
              rw [ht] at hP1
              obtain ⟨hP2, hD2⟩ := va_join (wr := (wd_6b0d8e05 h0 h1 h3 x72 h2 g0 f5 h3 g1 fn75)) (w1 := (wd_09b0abee h1 h2 v1 x88 v3 x74)) hP hD [1] [0, 2, 3] rfl rfl (by decide) (by decide) hk1 hFc hP1 hD1
              clear hP hD hPc hDc hKc hFc hP1 hK1 hD1 hk1 hz1
              generalize H1 = H at hP2 hS ⊢
              have hP := hP2.sub (ws' := (wd_1ad0248d h0 h1 h3 x72 h1 h2 v1 x88 v3 x74 h2 g0 f5 h3 g1 fn75)) [0, 3, 1, 2] rfl
              have hD := hD2.sub (ws' := (wd_1ad0248d h0 h1 h3 x72 h1 h2 v1 x88 v3 x74 h2 g0 f5 h3 g1 fn75)) [0, 3, 1, 2] (by decide) rfl
              clear hP2 hD2
              refine lv_aload_n hx hb dX3_readCondition_39 rfl (lv_at hl 1 rfl) ?_
              refine lv_iload_n hx hb dX3_readCondition_40 rfl (lv_at hl 2 rfl) ?_
              refine lv_iconst (v := 0) hx hb dX3_readCondition_41 (by decide) ?_
              have hPc := hP.sub (ws' := (wd_1ad0248d h0 h1 h3 x72 h1 h2 v1 x88 v3 x74 h2 g0 f5 h3 g1 fn75)) [0, 1, 2, 3] rfl
              have hDc := hD.sub (ws' := (wd_1ad0248d h0 h1 h3 x72 h1 h2 v1 x88 v3 x74 h2 g0 f5 h3 g1 fn75)) [0, 1, 2, 3] (by decide) rfl
              have hKc := hK.sub (tys' := [(g0, .int), (g1, .int)]) [0, 1] rfl
              have hFc := va_free (wc := (wd_1ad0248d h0 h1 h3 x72 h1 h2 v1 x88 v3 x74 h2 g0 f5 h3 g1 fn75)) hD hS hA [0, 1, 2, 3] rfl
              refine va_calli (va_runV (As := [.int 0, .int 0]) (rest := []) ⟨hx, hb, hml, hown, hts⟩ (k_X3_readTruth_7 l dC dI adK adV h0 h1 h2 h3 x72 v1 x88 v3 x74 g0 f5 g1 fn75 ⟨qa_x72, qb_x72⟩ ⟨i_v1a, i_v1b⟩ ⟨by first | omega | decide, ob_x88⟩ ia_f5 H.size) (cwV 2 hts g_X3_readCondition_6_3 rfl rfl rfl (by decide +kernel) ⟨Nat.le_of_ble_eq_true rfl, Nat.le_of_ble_eq_true rfl⟩) ⟨fun a U g mk q => by obtain ⟨q0, q1, qP, qK, qD, n0, n1, n2⟩ := q; exact ⟨q0, q1, qP, va_K.moved (u := U) (U := U.calling g mk a) (Vm.Alike.refl U.vm) qK, qD, vk_R.same rfl n0, va_Z.moved (Vm.Alike.refl _) n1, vk_S.moved (Vm.Alike.refl _) n2⟩, pv_rc3 hKc hPc (q0 := 0) rfl, fun U hU hW => ⟨rfl, by rw [hU], by rw [hU]; exact hPc, va_K.moved hW.alike hKc, hDc.weaken (fun _ _ _ _ => trivial), vk_R.warm hW h_vr_2, (by rw [hU]; exact (va_Z.moved hW.alike (va_Z.kept h_st_CS hS.2.1)).narrow hFc), (by rw [hU]; exact (vk_S.moved hW.alike (vk_S.kept h_st_S hS.2.1)).narrow hFc)⟩⟩ rfl rfl hl.1 rfl (lv_room (Nat.le_of_ble_eq_true rfl)) dX3_readCondition_42 ⟨Nat.le_of_ble_eq_true rfl, Nat.le_of_ble_eq_true rfl⟩) hS (fun q _ h => hFc q h) hFc (fun ra89 u t H1 locs ht hvm hwra89 hB hz1 hk1 hS => ?_)
              try rw [hwra89] at hB
              rcases hB with hB | hB
              · skip
                obtain ⟨x90, x91, x92, fn93, oa_x90, ob_x90, oa_x91, ob_x91, pt0_ra89, pt1_ra89, pt2_ra89, pt3_ra89, hP1, hK1, hD1⟩ := hB
                rw [ht] at hP1
                obtain ⟨hP2, hD2⟩ := va_join (wr := []) (w1 := (wd_1ad0248d h0 h1 h3 x90 h1 h2 v1 x91 v3 x92 h2 g0 f5 h3 g1 fn93)) hP hD [0, 1, 2, 3] [] rfl rfl (by decide) (by decide) hk1 hFc hP1 hD1
                clear hP hD hPc hDc hKc hFc hP1 hK1 hD1 hk1 hz1
                generalize H1 = H at hP2 hS ⊢
                have hP : va_P (dC, dI) vwCl (wd_1ad0248d h0 h1 h3 x90 h1 h2 v1 x91 v3 x92 h2 g0 f5 h3 g1 fn93) H := hP2
                have hD : va_D A (wd_1ad0248d h0 h1 h3 x90 h1 h2 v1 x91 v3 x92 h2 g0 f5 h3 g1 fn93) := hD2
                clear hP2 hD2
                obtain rfl : ra89 = (1 : Int32) := pv_cs (by decide) pt0_ra89 pt1_ra89
                refine lv_if_ne (tgt := 50) hx hb dX3_readCondition_45 (by decide) (fun _ => ?_) (fun c => absurd c (by decide))
                refine lv_aload_n hx hb dX3_readCondition_50 rfl (lv_at hl 1 rfl) ?_
                refine lv_bipush (v := 11) hx hb dX3_readCondition_51 (by decide) ?_
                refine lv_iconst (v := 0) hx hb dX3_readCondition_53 (by decide) ?_
                have hPc := hP.sub (ws' := (wd_b958b9da h0 h1 h3 x90 h3 g1 fn93)) [0, 3] rfl
                have hDc := hD.sub (ws' := (wd_b958b9da h0 h1 h3 x90 h3 g1 fn93)) [0, 3] (by decide) rfl
                have hKc := hK.sub (tys' := [(g1, .int)]) [1] rfl
                have hFc := va_free (wc := (wd_b958b9da h0 h1 h3 x90 h3 g1 fn93)) hD hS hA [0, 3] rfl
                refine va_callv (va_runV (As := [.int 11, .int 0]) (rest := []) ⟨hx, hb, hml, hown, hts⟩ (k_X3_write l dC dI h0 h3 h1 x90 g1 fn93 11 0 ⟨oa_x90, ob_x90⟩ H.size) (cwV 2 hts g_X3_readCondition_6_4 rfl rfl rfl (by decide +kernel) ⟨Nat.le_of_ble_eq_true rfl, Nat.le_of_ble_eq_true rfl⟩) (pv_PV3 hPc hKc hDc (q0 := 0) rfl) rfl rfl hl.1 rfl (lv_room (Nat.le_of_ble_eq_true rfl)) dX3_readCondition_54 ⟨Nat.le_of_ble_eq_true rfl, Nat.le_of_ble_eq_true rfl⟩) hS (fun q _ h => hFc q h) hFc (fun u t H1 locs ht hvm hwra94 hB hz1 hk1 hS => ?_)
                obtain ⟨x95, fn96, oa_x95, ob_x95, hP1, hK1, hD1⟩ := hB
                rw [ht] at hP1
                obtain ⟨hP2, hD2⟩ := va_join (wr := (wd_82cdd16b h1 h2 v1 x91 v3 x92 h2 g0 f5)) (w1 := (wd_b958b9da h0 h1 h3 x95 h3 g1 fn96)) hP hD [0, 3] [1, 2] rfl rfl (by decide) (by decide) hk1 hFc hP1 hD1
                clear hP hD hPc hDc hKc hFc hP1 hK1 hD1 hk1 hz1
                generalize H1 = H at hP2 hS ⊢
                have hP := hP2.sub (ws' := (wd_1ad0248d h0 h1 h3 x95 h1 h2 v1 x91 v3 x92 h2 g0 f5 h3 g1 fn96)) [2, 0, 1, 3] rfl
                have hD := hD2.sub (ws' := (wd_1ad0248d h0 h1 h3 x95 h1 h2 v1 x91 v3 x92 h2 g0 f5 h3 g1 fn96)) [2, 0, 1, 3] (by decide) rfl
                clear hP2 hD2
                obtain ⟨t97, et97⟩ : ∃ y : Int32, y = x71 + 1 := ⟨_, rfl⟩
                have gt97 : t97.toInt = x71.toInt + (1) := pv_add (a := x71.toInt) (b := (1)) et97 rfl (by decide) (by omega) (by omega)
                refine lv_iinc (v := t97) (lv' := [(3, .int t97), (0, .ref h0), (1, .int 0), (2, .int 1)]) hx hb dX3_readCondition_57 hl (k := 0) rfl (by rw [et97]; rfl) (by decide) rfl (fun ls hl => ?_)
                refine lv_goto (tgt := 13) hx hb dX3_readCondition_60 (by decide) ?_
                exact ih_hL81 t97 x95 x91 x92 fn96 H locs ls (by first | omega | decide) (by first | omega | decide) oa_x95 ob_x95 oa_x91 ob_x91 (by first | assumption | (apply pg_row.go <;> first | assumption | omega) | (apply pg_L.bi <;> first | assumption | omega) | (apply pg_L.step <;> first | assumption | omega)) (by first | omega | ((have h09 : ((0 : Int32)).toInt = 0 := by decide); omega)) (by omega) (by first | omega | (simp only [Int.toNat] at *; omega)) hP hD hS (lv_sub hl [0, 1, 2, 3] rfl)
              · skip
                obtain ⟨x98, x99, x100, x101, fn102, oa_x98, ob_x98, oa_x99, ob_x99, oa_x100, ob_x100, pt0_ra89, pt1_ra89, pt2_ra89, pt3_ra89, hP1, hK1, hD1⟩ := hB
                rw [ht] at hP1
                obtain ⟨hP2, hD2⟩ := va_join (wr := []) (w1 := (wd_1ad0248d h0 h1 h3 x98 h1 h2 v1 x99 x100 x101 h2 g0 f5 h3 g1 fn102)) hP hD [0, 1, 2, 3] [] rfl rfl (by decide) (by decide) hk1 hFc hP1 hD1
                clear hP hD hPc hDc hKc hFc hP1 hK1 hD1 hk1 hz1
                generalize H1 = H at hP2 hS ⊢
                have hP : va_P (dC, dI) vwCl (wd_1ad0248d h0 h1 h3 x98 h1 h2 v1 x99 x100 x101 h2 g0 f5 h3 g1 fn102) H := hP2
                have hD : va_D A (wd_1ad0248d h0 h1 h3 x98 h1 h2 v1 x99 x100 x101 h2 g0 f5 h3 g1 fn102) := hD2
                clear hP2 hD2
                obtain rfl : ra89 = (0 : Int32) := pv_cs (by decide) pt0_ra89 pt1_ra89
                refine lv_if_ne (tgt := 50) hx hb dX3_readCondition_45 (by decide) (fun c => absurd (by decide) c) (fun _ => ?_)
                refine lv_iconst (v := 0) hx hb dX3_readCondition_48 (by decide) ?_
                subst hQ
                have hP9 := hP.sub (ws' := (wd_1ad0248d h0 h1 h3 x98 h1 h2 v1 x99 x100 x101 h2 g0 f5 h3 g1 fn102)) [0, 1, 2, 3] rfl
                have hD9 := hD.sub (ws' := (wd_1ad0248d h0 h1 h3 x98 h1 h2 v1 x99 x100 x101 h2 g0 f5 h3 g1 fn102)) [0, 1, 2, 3] (by decide) rfl
                have hK9 := hK.sub (tys' := []) [] rfl
                exact W.zret (v := 0) hx hb hr rfl (fun t ht hW => ⟨⟨0, 0, rfl, rfl, Or.inr (⟨x98, x99, x100, x101, fn102, oa_x98, ob_x98, oa_x99, ob_x99, oa_x100, ob_x100, by first | omega | decide, by first | omega | decide, by omega, by first | assumption | (apply pg_bind.no <;> first | assumption | omega) | (apply pg_L.no <;> first | assumption | omega), by rw [ht]; exact hP9, va_K.moved hW.alike hK9, hD9⟩)⟩, hS.F ht⟩) hS.2.2 dX3_readCondition_49
    exact hL81 _ 0 x2 x3 x4 fn5 H locs ls (by decide) (by decide) oa_x2 ob_x2 oa_x3 ob_x3 (by first | assumption | (apply pg_row.go <;> first | assumption | omega) | (apply pg_L.bi <;> first | assumption | omega) | (apply pg_L.step <;> first | assumption | omega)) (by first | omega | ((have h09 : ((0 : Int32)).toInt = 0 := by decide); omega)) (by omega) (Nat.lt_succ_self _) hP hD hS (lv_sub hl [0, 1, 2, 3] rfl)
  · skip
    obtain ⟨x103, x104, x105, x106, fn107, oa_x103, ob_x103, oa_x104, ob_x104, oa_x105, ob_x105, pt0_ra1, pt1_ra1, pt2_ra1, pt3_ra1, hP1, hK1, hD1⟩ := hB
    rw [ht] at hP1
    obtain ⟨hP2, hD2⟩ := va_join (wr := []) (w1 := (wd_1ad0248d h0 h1 h3 x103 h1 h2 v1 x104 x105 x106 h2 g0 f5 h3 g1 fn107)) hP hD [0, 1, 2, 3] [] rfl rfl (by decide) (by decide) hk1 hFc hP1 hD1
    clear hP hD hPc hDc hKc hFc hP1 hK1 hD1 hk1 hz1
    generalize H1 = H at hP2 hS ⊢
    have hP : va_P (dC, dI) vwCl (wd_1ad0248d h0 h1 h3 x103 h1 h2 v1 x104 x105 x106 h2 g0 f5 h3 g1 fn107) H := hP2
    have hD : va_D A (wd_1ad0248d h0 h1 h3 x103 h1 h2 v1 x104 x105 x106 h2 g0 f5 h3 g1 fn107) := hD2
    clear hP2 hD2
    obtain rfl : ra1 = (0 : Int32) := pv_cs (by decide) pt0_ra1 pt1_ra1
    refine lv_if_ne (tgt := 11) hx hb dX3_readCondition_6 (by decide) (fun c => absurd (by decide) c) (fun _ => ?_)
    refine lv_iconst (v := 0) hx hb dX3_readCondition_9 (by decide) ?_
    subst hQ
    have hP9 := hP.sub (ws' := (wd_1ad0248d h0 h1 h3 x103 h1 h2 v1 x104 x105 x106 h2 g0 f5 h3 g1 fn107)) [0, 1, 2, 3] rfl
    have hD9 := hD.sub (ws' := (wd_1ad0248d h0 h1 h3 x103 h1 h2 v1 x104 x105 x106 h2 g0 f5 h3 g1 fn107)) [0, 1, 2, 3] (by decide) rfl
    have hK9 := hK.sub (tys' := []) [] rfl
    exact W.zret (v := 0) hx hb hr rfl (fun t ht hW => ⟨⟨0, 0, rfl, rfl, Or.inr (⟨x103, x104, x105, x106, fn107, oa_x103, ob_x103, oa_x104, ob_x104, oa_x105, ob_x105, by first | omega | decide, by first | omega | decide, by omega, by first | assumption | (apply pg_bind.no <;> first | assumption | omega) | (apply pg_L.no <;> first | assumption | omega), by rw [ht]; exact hP9, va_K.moved hW.alike hK9, hD9⟩)⟩, hS.F ht⟩) hS.2.2 dX3_readCondition_10
def q_X10_take_4 : List Cond := .code yX10_take cX10_take 2 (some .boolean) :: (([.code yX10_next cX10_next 1 (some .int), .fieldLink RX10 19 "LeftArguments$Tape" "at" "I", .fieldLink RX10 15 "LeftArguments$Tape" "used" "I", .fieldLink RX10 9 "LeftArguments$Tape" "bytes" "[I", .initialized RX10, .instanceMethod yX10_next, .selects RX10 yX10_next yX10_next, .methodLink RX10 37 yX10_next, .code yX10_wrongHere cX10_wrongHere 1 (some .boolean), .fieldLink RX10 22 "LeftArguments$Tape" "wrongAt" "I", .instanceMethod yX10_wrongHere, .selects RX10 yX10_wrongHere yX10_wrongHere, .methodLink RX10 41 yX10_wrongHere] : List Cond) ++ wsX100)
set_option maxRecDepth 20000 in
theorem g_X10_take_4_0 : GoodIn q_X10_take_4 (wsV RX10 37 RX10 yX10_next q_X10_next) := goodIn_app (goodIn_r _ [8, 6, 7, 5] rfl (by decide +kernel)) (goodIn_ca (goodIn_r (.code yX10_next cX10_next 1 (some .int) :: [.fieldLink RX10 19 "LeftArguments$Tape" "at" "I", .fieldLink RX10 15 "LeftArguments$Tape" "used" "I", .fieldLink RX10 9 "LeftArguments$Tape" "bytes" "[I"]) [1, 2, 3, 4] rfl (by decide +kernel)) (goodIn_sub (fun _ h => List.mem_cons_of_mem _ (List.mem_append_right _ h)) gwX10))
set_option maxRecDepth 20000 in
theorem g_X10_take_4_1 : GoodIn q_X10_take_4 (wsV RX10 41 RX10 yX10_wrongHere q_X10_wrongHere) := goodIn_app (goodIn_r _ [13, 11, 12, 5] rfl (by decide +kernel)) (goodIn_ca (goodIn_r (.code yX10_wrongHere cX10_wrongHere 1 (some .boolean) :: [.fieldLink RX10 19 "LeftArguments$Tape" "at" "I", .fieldLink RX10 22 "LeftArguments$Tape" "wrongAt" "I"]) [9, 2, 10] rfl (by decide +kernel)) (goodIn_sub (fun _ h => List.mem_cons_of_mem _ (List.mem_append_right _ h)) gwX10))
set_option maxHeartbeats 4000000 in
set_option maxRecDepth 100000 in
theorem k_X10_take_4 (l : Launch) (dC : Nat → ClassId) (dI : Nat → Nat → Nat) (h0 : Nat) (h1 : Nat) (v0 : Int32) (v1 : Int32) (v2 : Int32) (v3 : Int32) (g0 : ClassId) (f4 : Nat → Int32) (i_v0 : 0 ≤ v0.toInt ∧ v0.toInt ≤ 240) (i_v1 : 0 ≤ v1.toInt ∧ v1.toInt ≤ 240) (ia_f4 : (∀ j, 0 ≤ (f4 j).toInt ∧ (f4 j).toInt ≤ 255)) (sz : Nat) : Met l yX10_take q_X10_take_4 ({ frames := 1, cells := 0, slots := 0, locals := 20 }) (va_Pc [.ref h0, .int 63] (fun U => U.heap.size = sz ∧ va_P (dC, dI) vwCl (wd_82cdd16b h0 h1 v0 v1 v2 v3 h1 g0 f4) U.heap ∧ va_K (dC, dI) vwCl [(g0, .int)] U ∧ va_D (fun _ => True) (wd_82cdd16b h0 h1 v0 v1 v2 v3 h1 g0 f4))) (va_Qi (fun (r : Int32) (r9 : Int32) => r9 = r) (fun (r : Int32) (t : State) => (∃ (o_h0_2 : Int32), 1 ≤ o_h0_2.toInt ∧ o_h0_2.toInt ≤ 240 ∧ (1 ≤ r.toInt) ∧ (r.toInt ≤ 1) ∧ (v1.toInt ≤ o_h0_2.toInt) ∧ (pg_take f4 v0.toInt 63 v1.toInt = (true, o_h0_2.toInt)) ∧ va_P (dC, dI) vwCl (wd_82cdd16b h0 h1 v0 o_h0_2 v2 v3 h1 g0 f4) t.heap ∧ va_K (dC, dI) vwCl [] t ∧ va_D (va_A (wd_82cdd16b h0 h1 v0 v1 v2 v3 h1 g0 f4) sz) (wd_82cdd16b h0 h1 v0 o_h0_2 v2 v3 h1 g0 f4)) ∨ (∃ (o_h0_2 : Int32) (o_h0_3 : Int32), 0 ≤ o_h0_2.toInt ∧ o_h0_2.toInt ≤ 240 ∧ 0 ≤ o_h0_3.toInt ∧ o_h0_3.toInt ≤ 240 ∧ (0 ≤ r.toInt) ∧ (r.toInt ≤ 0) ∧ (v1.toInt ≤ o_h0_2.toInt) ∧ (pg_take f4 v0.toInt 63 v1.toInt = (false, o_h0_3.toInt)) ∧ va_P (dC, dI) vwCl (wd_82cdd16b h0 h1 v0 o_h0_2 o_h0_3 v3 h1 g0 f4) t.heap ∧ va_K (dC, dI) vwCl [] t ∧ va_D (va_A (wd_82cdd16b h0 h1 v0 v1 v2 v3 h1 g0 f4) sz) (wd_82cdd16b h0 h1 v0 o_h0_2 o_h0_3 v3 h1 g0 f4))) (va_A (wd_82cdd16b h0 h1 v0 v1 v2 v3 h1 g0 f4) sz)) 0 0 (va_A (wd_82cdd16b h0 h1 v0 v1 v2 v3 h1 g0 f4) sz) := by
  refine Met.ofW (cc := cX10_take) (maxL := 2) (ret := (some .boolean)) (by decide) rfl ?_
  intro p e s m args below meth c s₁ B hml hv
  obtain ⟨i_v0a, i_v0b⟩ := i_v0
  obtain ⟨i_v1a, i_v1b⟩ := i_v1
  obtain ⟨rfl, hsz, hP, hK, hD0⟩ := hv
  have hx := B.exec
  have hb := B.bytes
  have hr := B.returns
  have hts := atoms_spec (ws := q_X10_take_4) B.pre
  have hown : s.vm.findClass RX10 = some m.cls := findClass_of_methodNamed B.named
  have hlocks := B.notSynchronized
  subst hsz
  have hD := hD0.self (sz := s.heap.size)
  generalize hAe : va_A (wd_82cdd16b h0 h1 v0 v1 v2 v3 h1 g0 f4) s.heap.size = A at hD ⊢
  have hA : ∀ q : Nat, s.heap.size ≤ q → A q := fun q h => by rw [← hAe]; exact Or.inr h
  have hS : va_S A s.heap s.heap [] := va_S.rf
  generalize hQ : (MQ below _ _ s 0 0 A) = Q
  have hl := lv_entry ([.ref h0, .int 63]) (n := 2) (Nat.le_of_ble_eq_true rfl)
  rw [lg_entry_eq]
  generalize (lg_sl ([.ref h0, .int 63]) ++ List.replicate (2 - (lg_sl ([.ref h0, .int 63])).length) Slot.unset).toArray = ls at hl ⊢
  have hl : lv_has ls 2 [(0, .ref h0), (1, .int 63)] := hl
  obtain ⟨H, hH⟩ : ∃ H : Heap, H = s.heap := ⟨_, rfl⟩
  obtain ⟨locs, hlocs⟩ : ∃ y : List Loc, y = [] := ⟨_, rfl⟩
  have hS : va_S A s.heap H locs := by rw [hH, hlocs]; exact va_S.rf
  have hP : va_P (dC, dI) vwCl (wd_82cdd16b h0 h1 v0 v1 v2 v3 h1 g0 f4) H := by rw [hH]; exact hP
  rw [← hH, ← hlocs]
  refine lv_aload_n hx hb dX10_take_0 rfl (lv_at hl 0 rfl) ?_
  have hPc := hP.sub (ws' := (wd_82cdd16b h0 h1 v0 v1 v2 v3 h1 g0 f4)) [0, 1] rfl
  have hDc := hD.sub (ws' := (wd_82cdd16b h0 h1 v0 v1 v2 v3 h1 g0 f4)) [0, 1] (by decide) rfl
  have hKc := hK.sub (tys' := [(g0, .int)]) [0] rfl
  have hFc := va_free (wc := (wd_82cdd16b h0 h1 v0 v1 v2 v3 h1 g0 f4)) hD hS hA [0, 1] rfl
  refine va_calli (va_runV (As := []) (rest := []) ⟨hx, hb, hml, hown, hts⟩ (k_X10_next l dC dI h0 h1 v0 v1 v2 v3 g0 f4 ⟨i_v0a, i_v0b⟩ ⟨i_v1a, i_v1b⟩ ia_f4 H.size) (cwV 0 hts g_X10_take_4_0 rfl rfl rfl (by decide +kernel) ⟨Nat.le_of_ble_eq_true rfl, Nat.le_of_ble_eq_true rfl⟩) (pv_PV10 hPc hKc hDc (q0 := 0) rfl) rfl rfl hl.1 rfl (lv_room (Nat.le_of_ble_eq_true rfl)) dX10_take_1 ⟨Nat.le_of_ble_eq_true rfl, Nat.le_of_ble_eq_true rfl⟩) hS (fun q _ h => hFc q h) hFc (fun ra1 u t H1 locs ht hvm hwra1 hB hz1 hk1 hS => ?_)
  try rw [hwra1] at hB
  rcases hB with hB | hB
  · skip
    obtain ⟨x2, oa_x2, ob_x2, pt0_ra1, pt1_ra1, pt2_ra1, pt3_ra1, pt4_ra1, pt5_ra1, pt6_ra1, hP1, hK1, hD1⟩ := hB
    rw [ht] at hP1
    obtain ⟨hP2, hD2⟩ := va_join (wr := []) (w1 := (wd_82cdd16b h0 h1 v0 x2 v2 v3 h1 g0 f4)) hP hD [0, 1] [] rfl rfl (by decide) (by decide) hk1 hFc hP1 hD1
    clear hP hD hPc hDc hKc hFc hP1 hK1 hD1 hk1 hz1
    generalize H1 = H at hP2 hS ⊢
    have hP : va_P (dC, dI) vwCl (wd_82cdd16b h0 h1 v0 x2 v2 v3 h1 g0 f4) H := hP2
    have hD : va_D A (wd_82cdd16b h0 h1 v0 x2 v2 v3 h1 g0 f4) := hD2
    clear hP2 hD2
    obtain rfl : ra1 = ((-1) : Int32) := pv_cs (by decide) pt0_ra1 pt1_ra1
    refine lv_iload_n hx hb dX10_take_4 rfl (lv_at hl 1 rfl) ?_
    refine lv_icmp_eq (tgt := 13) hx hb dX10_take_5 (by decide) (fun c => absurd c (by decide)) (fun _ => ?_)
    refine lv_aload_n hx hb dX10_take_8 rfl (lv_at hl 0 rfl) ?_
    have hPc := hP.sub (ws' := (wd_09b0abee h0 h1 v0 x2 v2 v3)) [0] rfl
    have hDc := hD.sub (ws' := (wd_09b0abee h0 h1 v0 x2 v2 v3)) [0] (by decide) rfl
    have hKc := hK.sub (tys' := []) [] rfl
    have hFc := va_free (wc := (wd_09b0abee h0 h1 v0 x2 v2 v3)) hD hS hA [0] rfl
    refine va_calli (va_runV (As := []) (rest := []) ⟨hx, hb, hml, hown, hts⟩ (k_X10_wrongHere l dC dI h0 h1 v0 x2 v2 v3 ⟨i_v0a, i_v0b⟩ ⟨oa_x2, ob_x2⟩ H.size) (cwV 0 hts g_X10_take_4_1 rfl rfl rfl (by decide +kernel) ⟨Nat.le_of_ble_eq_true rfl, Nat.le_of_ble_eq_true rfl⟩) (pv_PV10 hPc hKc hDc (q0 := 0) rfl) rfl rfl hl.1 rfl (lv_room (Nat.le_of_ble_eq_true rfl)) dX10_take_9 ⟨Nat.le_of_ble_eq_true rfl, Nat.le_of_ble_eq_true rfl⟩) hS (fun q _ h => hFc q h) hFc (fun ra3 u t H1 locs ht hvm hwra3 hB hz1 hk1 hS => ?_)
    try rw [hwra3] at hB
    obtain ⟨x4, oa_x4, ob_x4, pt0_ra3, pt1_ra3, pt2_ra3, hP1, hK1, hD1⟩ := hB
    rw [ht] at hP1
    obtain ⟨hP2, hD2⟩ := va_join (wr := (wd_d0032b31 h1 g0 f4)) (w1 := (wd_09b0abee h0 h1 v0 x2 x4 v3)) hP hD [0] [1] rfl rfl (by decide) (by decide) hk1 hFc hP1 hD1
    clear hP hD hPc hDc hKc hFc hP1 hK1 hD1 hk1 hz1
    generalize H1 = H at hP2 hS ⊢
    have hP := hP2.sub (ws' := (wd_82cdd16b h0 h1 v0 x2 x4 v3 h1 g0 f4)) [1, 0] rfl
    have hD := hD2.sub (ws' := (wd_82cdd16b h0 h1 v0 x2 x4 v3 h1 g0 f4)) [1, 0] (by decide) rfl
    clear hP2 hD2
    obtain rfl : ra3 = (0 : Int32) := pv_cs (by decide) pt0_ra3 pt1_ra3
    subst hQ
    have hP9 := hP.sub (ws' := (wd_82cdd16b h0 h1 v0 x2 x4 v3 h1 g0 f4)) [0, 1] rfl
    have hD9 := hD.sub (ws' := (wd_82cdd16b h0 h1 v0 x2 x4 v3 h1 g0 f4)) [0, 1] (by decide) rfl
    have hK9 := hK.sub (tys' := []) [] rfl
    exact W.zret (v := 0) hx hb hr rfl (fun t ht hW => ⟨⟨0, 0, rfl, rfl, Or.inr (⟨x2, x4, oa_x2, ob_x2, oa_x4, ob_x4, by first | omega | decide, by first | omega | decide, by omega, by first | (apply pg_take.ok <;> first | assumption | omega) | (apply pg_take.no <;> first | assumption | omega), by rw [ht]; exact hP9, va_K.moved hW.alike hK9, hD9⟩)⟩, hS.F ht⟩) hS.2.2 dX10_take_12
  · skip
    obtain ⟨x5, oa_x5, ob_x5, pt0_ra1, pt1_ra1, pt2_ra1, pt3_ra1, pt4_ra1, pt5_ra1, pt6_ra1, hP1, hK1, hD1⟩ := hB
    rw [ht] at hP1
    obtain ⟨hP2, hD2⟩ := va_join (wr := []) (w1 := (wd_82cdd16b h0 h1 v0 x5 v2 v3 h1 g0 f4)) hP hD [0, 1] [] rfl rfl (by decide) (by decide) hk1 hFc hP1 hD1
    clear hP hD hPc hDc hKc hFc hP1 hK1 hD1 hk1 hz1
    generalize H1 = H at hP2 hS ⊢
    have hP : va_P (dC, dI) vwCl (wd_82cdd16b h0 h1 v0 x5 v2 v3 h1 g0 f4) H := hP2
    have hD : va_D A (wd_82cdd16b h0 h1 v0 x5 v2 v3 h1 g0 f4) := hD2
    clear hP2 hD2
    refine lv_iload_n hx hb dX10_take_4 rfl (lv_at hl 1 rfl) ?_
    refine lv_icmp_eq (tgt := 13) hx hb dX10_take_5 (by decide) (fun c6 => ?_) (fun c6 => ?_)
    · skip
      have fc6 : ra1.toInt = 63 := congrArg Int32.toInt c6
      refine lv_aload_n hx hb dX10_take_13 rfl (lv_at hl 0 rfl) ?_
      refine lv_dup hx hb dX10_take_14 rfl ?_
      refine va_get (D := (dC, dI)) (ci := 10) (v := .int x5) (C := RX10) (T := TX10) (N := 5) hx hb hts (fun _ h => List.mem_cons_of_mem _ (List.mem_append_right _ h)) hown hK hP 0 rfl rfl 2 (by decide) (hts (.fieldLink RX10 19 "LeftArguments$Tape" "at" "I") (List.mem_cons_of_mem _ (List.mem_append_left _ (List.mem_of_getElem? (i := 1) rfl)))) (fun _ h9 => h9) rfl dX10_take_15 ?_
      refine lv_iconst (v := 1) hx hb dX10_take_18 (by decide) ?_
      refine lv_iadd hx hb dX10_take_19 ?_
      refine lv_topi (fun t7 et7 => ?_)
      have gt7 : t7.toInt = x5.toInt + 1 := pv_add (a := x5.toInt) (b := 1) et7 rfl (by decide) (by omega) (by omega)
      refine va_put (D := (dC, dI)) (ci := 10) (v := .int t7) (ty := .int) (C := RX10) (T := TX10) (N := 5) hx hb hts (fun _ h => List.mem_cons_of_mem _ (List.mem_append_right _ h)) tyX10 tyX10_ok nmX10 hown hK hP hD hS 0 rfl rfl 2 (by decide) (hts (.fieldLink RX10 19 "LeftArguments$Tape" "at" "I") (List.mem_cons_of_mem _ (List.mem_append_left _ (List.mem_of_getElem? (i := 1) rfl)))) (fun _ h9 => h9) rfl (by decide +kernel) rfl rfl (Nat.le_of_ble_eq_true rfl) dX10_take_20 (fun H locs hP hD hS => ?_)
      have hP : va_P (dC, dI) vwCl (wd_82cdd16b h0 h1 v0 t7 v2 v3 h1 g0 f4) H := hP
      have hD : va_D A (wd_82cdd16b h0 h1 v0 t7 v2 v3 h1 g0 f4) := hD
      refine lv_iconst (v := 1) hx hb dX10_take_23 (by decide) ?_
      subst hQ
      have hP9 := hP.sub (ws' := (wd_82cdd16b h0 h1 v0 t7 v2 v3 h1 g0 f4)) [0, 1] rfl
      have hD9 := hD.sub (ws' := (wd_82cdd16b h0 h1 v0 t7 v2 v3 h1 g0 f4)) [0, 1] (by decide) rfl
      have hK9 := hK.sub (tys' := []) [] rfl
      exact W.zret (v := 1) hx hb hr rfl (fun t ht hW => ⟨⟨1, 1, rfl, rfl, Or.inl ⟨t7, by first | omega | decide, by first | omega | decide, by first | omega | decide, by first | omega | decide, by omega, by first | (apply pg_take.ok <;> first | assumption | omega) | (apply pg_take.no <;> first | assumption | omega), by rw [ht]; exact hP9, va_K.moved hW.alike hK9, hD9⟩⟩, hS.F ht⟩) hS.2.2 dX10_take_24
    · skip
      have fc6 : ¬ (ra1.toInt = 63) := fun h9 => c6 (Int32.toInt_inj.mp h9)
      refine lv_aload_n hx hb dX10_take_8 rfl (lv_at hl 0 rfl) ?_
      have hPc := hP.sub (ws' := (wd_09b0abee h0 h1 v0 x5 v2 v3)) [0] rfl
      have hDc := hD.sub (ws' := (wd_09b0abee h0 h1 v0 x5 v2 v3)) [0] (by decide) rfl
      have hKc := hK.sub (tys' := []) [] rfl
      have hFc := va_free (wc := (wd_09b0abee h0 h1 v0 x5 v2 v3)) hD hS hA [0] rfl
      refine va_calli (va_runV (As := []) (rest := []) ⟨hx, hb, hml, hown, hts⟩ (k_X10_wrongHere l dC dI h0 h1 v0 x5 v2 v3 ⟨i_v0a, i_v0b⟩ ⟨oa_x5, by first | omega | decide⟩ H.size) (cwV 0 hts g_X10_take_4_1 rfl rfl rfl (by decide +kernel) ⟨Nat.le_of_ble_eq_true rfl, Nat.le_of_ble_eq_true rfl⟩) (pv_PV10 hPc hKc hDc (q0 := 0) rfl) rfl rfl hl.1 rfl (lv_room (Nat.le_of_ble_eq_true rfl)) dX10_take_9 ⟨Nat.le_of_ble_eq_true rfl, Nat.le_of_ble_eq_true rfl⟩) hS (fun q _ h => hFc q h) hFc (fun ra8 u t H1 locs ht hvm hwra8 hB hz1 hk1 hS => ?_)
      try rw [hwra8] at hB
      obtain ⟨x9, oa_x9, ob_x9, pt0_ra8, pt1_ra8, pt2_ra8, hP1, hK1, hD1⟩ := hB
      rw [ht] at hP1
      obtain ⟨hP2, hD2⟩ := va_join (wr := (wd_d0032b31 h1 g0 f4)) (w1 := (wd_09b0abee h0 h1 v0 x5 x9 v3)) hP hD [0] [1] rfl rfl (by decide) (by decide) hk1 hFc hP1 hD1
      clear hP hD hPc hDc hKc hFc hP1 hK1 hD1 hk1 hz1
      generalize H1 = H at hP2 hS ⊢
      have hP := hP2.sub (ws' := (wd_82cdd16b h0 h1 v0 x5 x9 v3 h1 g0 f4)) [1, 0] rfl
      have hD := hD2.sub (ws' := (wd_82cdd16b h0 h1 v0 x5 x9 v3 h1 g0 f4)) [1, 0] (by decide) rfl
      clear hP2 hD2
      obtain rfl : ra8 = (0 : Int32) := pv_cs (by decide) pt0_ra8 pt1_ra8
      subst hQ
      have hP9 := hP.sub (ws' := (wd_82cdd16b h0 h1 v0 x5 x9 v3 h1 g0 f4)) [0, 1] rfl
      have hD9 := hD.sub (ws' := (wd_82cdd16b h0 h1 v0 x5 x9 v3 h1 g0 f4)) [0, 1] (by decide) rfl
      have hK9 := hK.sub (tys' := []) [] rfl
      exact W.zret (v := 0) hx hb hr rfl (fun t ht hW => ⟨⟨0, 0, rfl, rfl, Or.inr (⟨x5, x9, oa_x5, by first | omega | decide, oa_x9, ob_x9, by first | omega | decide, by first | omega | decide, by omega, by first | (apply pg_take.ok <;> first | assumption | omega) | (apply pg_take.no <;> first | assumption | omega), by rw [ht]; exact hP9, va_K.moved hW.alike hK9, hD9⟩)⟩, hS.F ht⟩) hS.2.2 dX10_take_12
def q_X3_readCondition_7 : List Cond := .code yX3_readCondition cX3_readCondition 4 (some .boolean) :: (([.code yX3_readTruth cX3_readTruth 4 (some .boolean), .code yX3_readUnit cX3_readUnit 5 (some .boolean), .fieldLink RX3 19 "LeftArguments$LawReader" "tape" "LLeftArguments$Tape;", .code yX10_next cX10_next 1 (some .int), .fieldLink RX10 19 "LeftArguments$Tape" "at" "I", .fieldLink RX10 15 "LeftArguments$Tape" "used" "I", .fieldLink RX10 9 "LeftArguments$Tape" "bytes" "[I", .initialized RX10, .instanceMethod yX10_next, .selects RX10 yX10_next yX10_next, .methodLink RX3 48 yX10_next, .code yX3_readSum cX3_readSum 4 (some .boolean), .code yX3_readTerm cX3_readTerm 4 (some .boolean), .code yX3_readAtom cX3_readAtom 4 (some .boolean), .code yX10_isDigit cX10_isDigit 1 (some .boolean), .static yX10_isDigit, .methodLink RX3 92 yX10_isDigit, .code yX10_wrongHere cX10_wrongHere 1 (some .boolean), .fieldLink RX10 22 "LeftArguments$Tape" "wrongAt" "I", .instanceMethod yX10_wrongHere, .selects RX10 yX10_wrongHere yX10_wrongHere, .methodLink RX3 83 yX10_wrongHere, .code yJ0_indexOf_0f7a4 cJ0_indexOf_0f7a4 2 (some .int), .code yJ0_indexOf_7cf53 cJ0_indexOf_7cf53 3 (some .int), .code yJ0_isLatin1_aae02 cJ0_isLatin1_aae02 1 (some .boolean), .fieldLink RJ0 38 "java/lang/String" "COMPACT_STRINGS" "Z", .fieldLink RJ0 15 "java/lang/String" "coder" "B", .initialized RJ0, .instanceMethod yJ0_isLatin1_aae02, .selects RJ0 yJ0_isLatin1_aae02 yJ0_isLatin1_aae02, .methodLink RJ0 492 yJ0_isLatin1_aae02, .fieldLink RJ0 9 "java/lang/String" "value" "[B", .code yJ0_length_8abf5 cJ0_length_8abf5 1 (some .int), .code yJ0_coder_7d493 cJ0_coder_7d493 1 (some .byte), .instanceMethod yJ0_coder_7d493, .selects RJ0 yJ0_coder_7d493 yJ0_coder_7d493, .methodLink RJ0 335 yJ0_coder_7d493, .instanceMethod yJ0_length_8abf5, .selects RJ0 yJ0_length_8abf5 yJ0_length_8abf5, .methodLink RJ0 505 yJ0_length_8abf5, .code yJ1_indexOf_4cfef cJ1_indexOf_4cfef 4 (some .int), .code yJ1_canEncode_9a6ad cJ1_canEncode_9a6ad 1 (some .boolean), .initialized RJ1, .static yJ1_canEncode_9a6ad, .methodLink RJ1 88 yJ1_canEncode_9a6ad, .methodLink RJ1 92 Lib.Math.max.name, .static Lib.Math.max.name, .initialized "java/lang/Math", .code Lib.Math.max.name Lib.Math.max.code 2 (some .int), .methodLink RJ1 38 Lib.Math.min.name, .static Lib.Math.min.name, .code Lib.Math.min.name Lib.Math.min.code 2 (some .int), .code yJ1_indexOfChar_4cfef cJ1_indexOfChar_4cfef 6 (some .int), .static yJ1_indexOfChar_4cfef, .methodLink RJ1 95 yJ1_indexOfChar_4cfef, .static yJ1_indexOf_4cfef, .methodLink RJ0 637 yJ1_indexOf_4cfef, .instanceMethod yJ0_indexOf_7cf53, .selects RJ0 yJ0_indexOf_7cf53 yJ0_indexOf_7cf53, .methodLink RJ0 633 yJ0_indexOf_7cf53, .instanceMethod yJ0_indexOf_0f7a4, .selects RJ0 yJ0_indexOf_0f7a4 yJ0_indexOf_0f7a4, .methodLink RX3 103 yJ0_indexOf_0f7a4, .code yX10_step cX10_step 1 none, .instanceMethod yX10_step, .selects RX10 yX10_step yX10_step, .methodLink RX3 77 yX10_step, .code yX3_write cX3_write 3 none, .fieldLink RX3 15 "LeftArguments$LawReader" "used" "I", .fieldLink RX3 11 "LeftArguments$LawReader" "code" "[I", .initialized RX3, .instanceMethod yX3_write, .selects RX3 yX3_write yX3_write, .methodLink RX3 66 yX3_write, .code yX10_takeNumber cX10_takeNumber 3 (some .boolean), .methodLink RX10 37 yX10_next, .methodLink RX10 45 yX10_isDigit, .methodLink RX10 41 yX10_wrongHere, .fieldLink RX10 25 "LeftArguments$Tape" "number" "I", .code yX10_sign cX10_sign 1 (some .int), .instanceMethod yX10_sign, .selects RX10 yX10_sign yX10_sign, .methodLink RX10 49 yX10_sign, .instanceMethod yX10_takeNumber, .selects RX10 yX10_takeNumber yX10_takeNumber, .methodLink RX3 95 yX10_takeNumber, .code yX10_number cX10_number 1 (some .int), .instanceMethod yX10_number, .selects RX10 yX10_number yX10_number, .methodLink RX3 98 yX10_number, .instanceMethod yX3_readAtom, .selects RX3 yX3_readAtom yX3_readAtom, .methodLink RX3 89 yX3_readAtom, .instanceMethod yX3_readTerm, .selects RX3 yX3_readTerm yX3_readTerm, .methodLink RX3 86 yX3_readTerm, .instanceMethod yX3_readSum, .selects RX3 yX3_readSum yX3_readSum, .methodLink RX3 59 yX3_readSum, .code yX10_take cX10_take 2 (some .boolean), .instanceMethod yX10_take, .selects RX10 yX10_take yX10_take, .methodLink RX3 51 yX10_take, .code yX3_comparing cX3_comparing 1 (some .int), .static yX3_comparing, .methodLink RX3 62 yX3_comparing, .instanceMethod yX3_readUnit, .selects RX3 yX3_readUnit yX3_readUnit, .methodLink RX3 80 yX3_readUnit, .code yX3_readCondition cX3_readCondition 4 (some .boolean), .instanceMethod yX3_readTruth, .selects RX3 yX3_readTruth yX3_readTruth, .methodLink RX3 74 yX3_readTruth, .instanceMethod yX3_readCondition, .selects RX3 yX3_readCondition yX3_readCondition, .methodLink RX3 70 yX3_readCondition] : List Cond) ++ wsX30 ++ wsX100)
set_option maxRecDepth 20000 in
theorem g_X3_readCondition_7_0 : GoodIn q_X3_readCondition_7 (wsV RX3 74 RX3 yX3_readTruth q_X3_readTruth_7) := goodIn_app (goodIn_r _ [113, 111, 112, 71] rfl (by decide +kernel)) (goodIn_ca (goodIn_ca (goodIn_r (.code yX3_readTruth cX3_readTruth 4 (some .boolean) :: [.code yX3_readUnit cX3_readUnit 5 (some .boolean), .fieldLink RX3 19 "LeftArguments$LawReader" "tape" "LLeftArguments$Tape;", .code yX10_next cX10_next 1 (some .int), .fieldLink RX10 19 "LeftArguments$Tape" "at" "I", .fieldLink RX10 15 "LeftArguments$Tape" "used" "I", .fieldLink RX10 9 "LeftArguments$Tape" "bytes" "[I", .initialized RX10, .instanceMethod yX10_next, .selects RX10 yX10_next yX10_next, .methodLink RX3 48 yX10_next, .code yX3_readSum cX3_readSum 4 (some .boolean), .code yX3_readTerm cX3_readTerm 4 (some .boolean), .code yX3_readAtom cX3_readAtom 4 (some .boolean), .code yX10_isDigit cX10_isDigit 1 (some .boolean), .static yX10_isDigit, .methodLink RX3 92 yX10_isDigit, .code yX10_wrongHere cX10_wrongHere 1 (some .boolean), .fieldLink RX10 22 "LeftArguments$Tape" "wrongAt" "I", .instanceMethod yX10_wrongHere, .selects RX10 yX10_wrongHere yX10_wrongHere, .methodLink RX3 83 yX10_wrongHere, .code yJ0_indexOf_0f7a4 cJ0_indexOf_0f7a4 2 (some .int), .code yJ0_indexOf_7cf53 cJ0_indexOf_7cf53 3 (some .int), .code yJ0_isLatin1_aae02 cJ0_isLatin1_aae02 1 (some .boolean), .fieldLink RJ0 38 "java/lang/String" "COMPACT_STRINGS" "Z", .fieldLink RJ0 15 "java/lang/String" "coder" "B", .initialized RJ0, .instanceMethod yJ0_isLatin1_aae02, .selects RJ0 yJ0_isLatin1_aae02 yJ0_isLatin1_aae02, .methodLink RJ0 492 yJ0_isLatin1_aae02, .fieldLink RJ0 9 "java/lang/String" "value" "[B", .code yJ0_length_8abf5 cJ0_length_8abf5 1 (some .int), .code yJ0_coder_7d493 cJ0_coder_7d493 1 (some .byte), .instanceMethod yJ0_coder_7d493, .selects RJ0 yJ0_coder_7d493 yJ0_coder_7d493, .methodLink RJ0 335 yJ0_coder_7d493, .instanceMethod yJ0_length_8abf5, .selects RJ0 yJ0_length_8abf5 yJ0_length_8abf5, .methodLink RJ0 505 yJ0_length_8abf5, .code yJ1_indexOf_4cfef cJ1_indexOf_4cfef 4 (some .int), .code yJ1_canEncode_9a6ad cJ1_canEncode_9a6ad 1 (some .boolean), .initialized RJ1, .static yJ1_canEncode_9a6ad, .methodLink RJ1 88 yJ1_canEncode_9a6ad, .methodLink RJ1 92 Lib.Math.max.name, .static Lib.Math.max.name, .initialized "java/lang/Math", .code Lib.Math.max.name Lib.Math.max.code 2 (some .int), .methodLink RJ1 38 Lib.Math.min.name, .static Lib.Math.min.name, .code Lib.Math.min.name Lib.Math.min.code 2 (some .int), .code yJ1_indexOfChar_4cfef cJ1_indexOfChar_4cfef 6 (some .int), .static yJ1_indexOfChar_4cfef, .methodLink RJ1 95 yJ1_indexOfChar_4cfef, .static yJ1_indexOf_4cfef, .methodLink RJ0 637 yJ1_indexOf_4cfef, .instanceMethod yJ0_indexOf_7cf53, .selects RJ0 yJ0_indexOf_7cf53 yJ0_indexOf_7cf53, .methodLink RJ0 633 yJ0_indexOf_7cf53, .instanceMethod yJ0_indexOf_0f7a4, .selects RJ0 yJ0_indexOf_0f7a4 yJ0_indexOf_0f7a4, .methodLink RX3 103 yJ0_indexOf_0f7a4, .code yX10_step cX10_step 1 none, .instanceMethod yX10_step, .selects RX10 yX10_step yX10_step, .methodLink RX3 77 yX10_step, .code yX3_write cX3_write 3 none, .fieldLink RX3 15 "LeftArguments$LawReader" "used" "I", .fieldLink RX3 11 "LeftArguments$LawReader" "code" "[I", .initialized RX3, .instanceMethod yX3_write, .selects RX3 yX3_write yX3_write, .methodLink RX3 66 yX3_write, .code yX10_takeNumber cX10_takeNumber 3 (some .boolean), .methodLink RX10 37 yX10_next, .methodLink RX10 45 yX10_isDigit, .methodLink RX10 41 yX10_wrongHere, .fieldLink RX10 25 "LeftArguments$Tape" "number" "I", .code yX10_sign cX10_sign 1 (some .int), .instanceMethod yX10_sign, .selects RX10 yX10_sign yX10_sign, .methodLink RX10 49 yX10_sign, .instanceMethod yX10_takeNumber, .selects RX10 yX10_takeNumber yX10_takeNumber, .methodLink RX3 95 yX10_takeNumber, .code yX10_number cX10_number 1 (some .int), .instanceMethod yX10_number, .selects RX10 yX10_number yX10_number, .methodLink RX3 98 yX10_number, .instanceMethod yX3_readAtom, .selects RX3 yX3_readAtom yX3_readAtom, .methodLink RX3 89 yX3_readAtom, .instanceMethod yX3_readTerm, .selects RX3 yX3_readTerm yX3_readTerm, .methodLink RX3 86 yX3_readTerm, .instanceMethod yX3_readSum, .selects RX3 yX3_readSum yX3_readSum, .methodLink RX3 59 yX3_readSum, .code yX10_take cX10_take 2 (some .boolean), .instanceMethod yX10_take, .selects RX10 yX10_take yX10_take, .methodLink RX3 51 yX10_take, .code yX3_comparing cX3_comparing 1 (some .int), .static yX3_comparing, .methodLink RX3 62 yX3_comparing, .instanceMethod yX3_readUnit, .selects RX3 yX3_readUnit yX3_readUnit, .methodLink RX3 80 yX3_readUnit, .code yX3_readCondition cX3_readCondition 4 (some .boolean), .code yX3_readTruth cX3_readTruth 4 (some .boolean), .instanceMethod yX3_readTruth, .selects RX3 yX3_readTruth yX3_readTruth, .methodLink RX3 74 yX3_readTruth, .instanceMethod yX3_readCondition, .selects RX3 yX3_readCondition yX3_readCondition, .methodLink RX3 70 yX3_readCondition]) [1, 2, 3, 4, 5, 6, 7, 8, 9, 10, 11, 12, 13, 14, 15, 16, 17, 18, 19, 20, 21, 22, 23, 24, 25, 26, 27, 28, 29, 30, 31, 32, 33, 34, 35, 36, 37, 38, 39, 40, 41, 42, 43, 44, 45, 46, 47, 48, 49, 50, 51, 52, 53, 54, 55, 56, 57, 58, 59, 60, 61, 62, 63, 64, 65, 66, 67, 68, 69, 70, 71, 72, 73, 74, 75, 76, 77, 78, 79, 80, 81, 82, 83, 84, 85, 86, 87, 88, 89, 90, 91, 92, 93, 94, 95, 96, 97, 98, 99, 100, 101, 102, 103, 104, 105, 106, 107, 108, 109, 110, 1, 111, 112, 113, 114, 115, 116] rfl (by decide +kernel)) (goodIn_sub (fun _ h => List.mem_cons_of_mem _ (List.mem_append_left _ (List.mem_append_right _ h))) gwX3)) (goodIn_sub (fun _ h => List.mem_cons_of_mem _ (List.mem_append_right _ h)) gwX10))
set_option maxRecDepth 20000 in
theorem g_X3_readCondition_7_1 : GoodIn q_X3_readCondition_7 (wsV RX3 48 RX10 yX10_next q_X10_next) := goodIn_app (goodIn_r _ [11, 9, 10, 8] rfl (by decide +kernel)) (goodIn_ca (goodIn_r (.code yX10_next cX10_next 1 (some .int) :: [.fieldLink RX10 19 "LeftArguments$Tape" "at" "I", .fieldLink RX10 15 "LeftArguments$Tape" "used" "I", .fieldLink RX10 9 "LeftArguments$Tape" "bytes" "[I"]) [4, 5, 6, 7] rfl (by decide +kernel)) (goodIn_sub (fun _ h => List.mem_cons_of_mem _ (List.mem_append_right _ h)) gwX10))
set_option maxRecDepth 20000 in
theorem g_X3_readCondition_7_2 : GoodIn q_X3_readCondition_7 (wsV RX3 77 RX10 yX10_step q_X10_step) := goodIn_app (goodIn_r _ [67, 65, 66, 8] rfl (by decide +kernel)) (goodIn_ca (goodIn_r (.code yX10_step cX10_step 1 none :: [.fieldLink RX10 19 "LeftArguments$Tape" "at" "I"]) [64, 5] rfl (by decide +kernel)) (goodIn_sub (fun _ h => List.mem_cons_of_mem _ (List.mem_append_right _ h)) gwX10))
set_option maxRecDepth 20000 in
theorem g_X3_readCondition_7_4 : GoodIn q_X3_readCondition_7 (wsV RX3 66 RX3 yX3_write q_X3_write) := goodIn_app (goodIn_r _ [74, 72, 73, 71] rfl (by decide +kernel)) (goodIn_ca (goodIn_r (.code yX3_write cX3_write 3 none :: [.fieldLink RX3 15 "LeftArguments$LawReader" "used" "I", .fieldLink RX3 11 "LeftArguments$LawReader" "code" "[I"]) [68, 69, 70] rfl (by decide +kernel)) (goodIn_sub (fun _ h => List.mem_cons_of_mem _ (List.mem_append_left _ (List.mem_append_right _ h))) gwX3))
set_option maxHeartbeats 4000000 in
set_option maxRecDepth 100000 in
theorem k_X3_readCondition_7 (l : Launch) (dC : Nat → ClassId) (dI : Nat → Nat → Nat) (adK : Nat → Nat) (adV : Nat → Nat) (h0 : Nat) (h1 : Nat) (h2 : Nat) (h3 : Nat) (v0 : Int32) (v1 : Int32) (v2 : Int32) (v3 : Int32) (v4 : Int32) (g0 : ClassId) (f5 : Nat → Int32) (g1 : ClassId) (f6 : Nat → Int32) (i_v0 : 0 ≤ v0.toInt ∧ v0.toInt ≤ 256) (i_v1 : 0 ≤ v1.toInt ∧ v1.toInt ≤ 240) (i_v2 : 0 ≤ v2.toInt ∧ v2.toInt ≤ 240) (ia_f5 : (∀ j, 0 ≤ (f5 j).toInt ∧ (f5 j).toInt ≤ 255)) (sz : Nat) : Met l yX3_readCondition q_X3_readCondition_7 ({ frames := 27, cells := 0, slots := 0, locals := 627 }) (va_Pc [.ref h0, .int 0, .int 0] (fun U => U.heap.size = sz ∧ va_P (dC, dI) vwCl (wd_1ad0248d h0 h1 h3 v0 h1 h2 v1 v2 v3 v4 h2 g0 f5 h3 g1 f6) U.heap ∧ va_K (dC, dI) vwCl [(g0, .int), (g1, .int)] U ∧ va_D (fun _ => True) (wd_1ad0248d h0 h1 h3 v0 h1 h2 v1 v2 v3 v4 h2 g0 f5 h3 g1 f6) ∧ vk_R RX3 101 "zaondt" (adK 2) U ∧ va_Z "java/lang/String" "COMPACT_STRINGS" "Z" (.int 1) (va_A (wd_1ad0248d h0 h1 h3 v0 h1 h2 v1 v2 v3 v4 h2 g0 f5 h3 g1 f6) sz) U U.heap ∧ vk_S 3 pv_len3 pv_byt3 adK adV (va_A (wd_1ad0248d h0 h1 h3 v0 h1 h2 v1 v2 v3 v4 h2 g0 f5 h3 g1 f6) sz) U U.heap)) (va_Qi (fun (r : Int32) (r9 : Int32) => r9 = r) (fun (r : Int32) (t : State) => (∃ (o_h0_2 : Int32) (o_h1_2 : Int32) (o_h1_4 : Int32) (o_h3 : Nat → Int32), 0 ≤ o_h0_2.toInt ∧ o_h0_2.toInt ≤ 256 ∧ 0 ≤ o_h1_2.toInt ∧ o_h1_2.toInt ≤ 240 ∧ (1 ≤ r.toInt) ∧ (r.toInt ≤ 1) ∧ (v2.toInt ≤ o_h1_2.toInt) ∧ (pg_con f5 v1.toInt (pg_unit f5 v1.toInt 6) v2.toInt = (true, o_h1_2.toInt)) ∧ va_P (dC, dI) vwCl (wd_1ad0248d h0 h1 h3 o_h0_2 h1 h2 v1 o_h1_2 v3 o_h1_4 h2 g0 f5 h3 g1 o_h3) t.heap ∧ va_K (dC, dI) vwCl [] t ∧ va_D (va_A (wd_1ad0248d h0 h1 h3 v0 h1 h2 v1 v2 v3 v4 h2 g0 f5 h3 g1 f6) sz) (wd_1ad0248d h0 h1 h3 o_h0_2 h1 h2 v1 o_h1_2 v3 o_h1_4 h2 g0 f5 h3 g1 o_h3)) ∨ (∃ (o_h0_2 : Int32) (o_h1_2 : Int32) (o_h1_3 : Int32) (o_h1_4 : Int32) (o_h3 : Nat → Int32), 0 ≤ o_h0_2.toInt ∧ o_h0_2.toInt ≤ 256 ∧ 0 ≤ o_h1_2.toInt ∧ o_h1_2.toInt ≤ 240 ∧ 0 ≤ o_h1_3.toInt ∧ o_h1_3.toInt ≤ 240 ∧ (0 ≤ r.toInt) ∧ (r.toInt ≤ 0) ∧ (v2.toInt ≤ o_h1_2.toInt) ∧ (pg_con f5 v1.toInt (pg_unit f5 v1.toInt 6) v2.toInt = (false, o_h1_3.toInt)) ∧ va_P (dC, dI) vwCl (wd_1ad0248d h0 h1 h3 o_h0_2 h1 h2 v1 o_h1_2 o_h1_3 o_h1_4 h2 g0 f5 h3 g1 o_h3) t.heap ∧ va_K (dC, dI) vwCl [] t ∧ va_D (va_A (wd_1ad0248d h0 h1 h3 v0 h1 h2 v1 v2 v3 v4 h2 g0 f5 h3 g1 f6) sz) (wd_1ad0248d h0 h1 h3 o_h0_2 h1 h2 v1 o_h1_2 o_h1_3 o_h1_4 h2 g0 f5 h3 g1 o_h3))) (va_A (wd_1ad0248d h0 h1 h3 v0 h1 h2 v1 v2 v3 v4 h2 g0 f5 h3 g1 f6) sz)) 0 0 (va_A (wd_1ad0248d h0 h1 h3 v0 h1 h2 v1 v2 v3 v4 h2 g0 f5 h3 g1 f6) sz) := by
  refine Met.ofW (cc := cX3_readCondition) (maxL := 4) (ret := (some .boolean)) (by decide) rfl ?_
  intro p e s m args below meth c s₁ B hml hv
  obtain ⟨i_v0a, i_v0b⟩ := i_v0
  obtain ⟨i_v1a, i_v1b⟩ := i_v1
  obtain ⟨i_v2a, i_v2b⟩ := i_v2
  obtain ⟨rfl, hsz, hP, hK, hD0, h_vr_2, h_st_CS, h_st_S⟩ := hv
  have hx := B.exec
  have hb := B.bytes
  have hr := B.returns
  have hts := atoms_spec (ws := q_X3_readCondition_7) B.pre
  have hown : s.vm.findClass RX3 = some m.cls := findClass_of_methodNamed B.named
  have hlocks := B.notSynchronized
  subst hsz
  have hD := hD0.self (sz := s.heap.size)
  generalize hAe : va_A (wd_1ad0248d h0 h1 h3 v0 h1 h2 v1 v2 v3 v4 h2 g0 f5 h3 g1 f6) s.heap.size = A at hD h_st_CS h_st_S ⊢
  have hA : ∀ q : Nat, s.heap.size ≤ q → A q := fun q h => by rw [← hAe]; exact Or.inr h
  have hS : va_S A s.heap s.heap [] := va_S.rf
  generalize hQ : (MQ below _ _ s 0 0 A) = Q
  have hl := lv_entry ([.ref h0, .int 0, .int 0]) (n := 4) (Nat.le_of_ble_eq_true rfl)
  rw [lg_entry_eq]
  generalize (lg_sl ([.ref h0, .int 0, .int 0]) ++ List.replicate (4 - (lg_sl ([.ref h0, .int 0, .int 0])).length) Slot.unset).toArray = ls at hl ⊢
  have hl : lv_has ls 4 [(0, .ref h0), (1, .int 0), (2, .int 0)] := hl
  obtain ⟨H, hH⟩ : ∃ H : Heap, H = s.heap := ⟨_, rfl⟩
  obtain ⟨locs, hlocs⟩ : ∃ y : List Loc, y = [] := ⟨_, rfl⟩
  have hS : va_S A s.heap H locs := by rw [hH, hlocs]; exact va_S.rf
  have hP : va_P (dC, dI) vwCl (wd_1ad0248d h0 h1 h3 v0 h1 h2 v1 v2 v3 v4 h2 g0 f5 h3 g1 f6) H := by rw [hH]; exact hP
  rw [← hH, ← hlocs]
  refine lv_aload_n hx hb dX3_readCondition_0 rfl (lv_at hl 0 rfl) ?_
  refine lv_iload_n hx hb dX3_readCondition_1 rfl (lv_at hl 1 rfl) ?_
  refine lv_iload_n hx hb dX3_readCondition_2 rfl (lv_at hl 2 rfl) ?_
  have hPc := hP.sub (ws' := (wd_1ad0248d h0 h1 h3 v0 h1 h2 v1 v2 v3 v4 h2 g0 f5 h3 g1 f6)) [0, 1, 2, 3] rfl
  have hDc := hD.sub (ws' := (wd_1ad0248d h0 h1 h3 v0 h1 h2 v1 v2 v3 v4 h2 g0 f5 h3 g1 f6)) [0, 1, 2, 3] (by decide) rfl
  have hKc := hK.sub (tys' := [(g0, .int), (g1, .int)]) [0, 1] rfl
  have hFc := va_free (wc := (wd_1ad0248d h0 h1 h3 v0 h1 h2 v1 v2 v3 v4 h2 g0 f5 h3 g1 f6)) hD hS hA [0, 1, 2, 3] rfl
  refine va_calli (va_runV (As := [.int 0, .int 0]) (rest := []) ⟨hx, hb, hml, hown, hts⟩ (k_X3_readTruth_7 l dC dI adK adV h0 h1 h2 h3 v0 v1 v2 v3 v4 g0 f5 g1 f6 ⟨i_v0a, i_v0b⟩ ⟨i_v1a, i_v1b⟩ ⟨i_v2a, i_v2b⟩ ia_f5 H.size) (cwV 2 hts g_X3_readCondition_7_0 rfl rfl rfl (by decide +kernel) ⟨Nat.le_of_ble_eq_true rfl, Nat.le_of_ble_eq_true rfl⟩) ⟨fun a U g mk q => by obtain ⟨q0, q1, qP, qK, qD, n0, n1, n2⟩ := q; exact ⟨q0, q1, qP, va_K.moved (u := U) (U := U.calling g mk a) (Vm.Alike.refl U.vm) qK, qD, vk_R.same rfl n0, va_Z.moved (Vm.Alike.refl _) n1, vk_S.moved (Vm.Alike.refl _) n2⟩, pv_rc3 hKc hPc (q0 := 0) rfl, fun U hU hW => ⟨rfl, by rw [hU], by rw [hU]; exact hPc, va_K.moved hW.alike hKc, hDc.weaken (fun _ _ _ _ => trivial), vk_R.warm hW h_vr_2, (by rw [hU]; exact (va_Z.moved hW.alike (va_Z.kept h_st_CS hS.2.1)).narrow hFc), (by rw [hU]; exact (vk_S.moved hW.alike (vk_S.kept h_st_S hS.2.1)).narrow hFc)⟩⟩ rfl rfl hl.1 rfl (lv_room (Nat.le_of_ble_eq_true rfl)) dX3_readCondition_3 ⟨Nat.le_of_ble_eq_true rfl, Nat.le_of_ble_eq_true rfl⟩) hS (fun q _ h => hFc q h) hFc (fun ra1 u t H1 locs ht hvm hwra1 hB hz1 hk1 hS => ?_)
  try rw [hwra1] at hB
  rcases hB with hB | hB
  · skip
    obtain ⟨x2, x3, x4, fn5, oa_x2, ob_x2, oa_x3, ob_x3, pt0_ra1, pt1_ra1, pt2_ra1, pt3_ra1, hP1, hK1, hD1⟩ := hB
    rw [ht] at hP1
    obtain ⟨hP2, hD2⟩ := va_join (wr := []) (w1 := (wd_1ad0248d h0 h1 h3 x2 h1 h2 v1 x3 v3 x4 h2 g0 f5 h3 g1 fn5)) hP hD [0, 1, 2, 3] [] rfl rfl (by decide) (by decide) hk1 hFc hP1 hD1
    clear hP hD hPc hDc hKc hFc hP1 hK1 hD1 hk1 hz1
    generalize H1 = H at hP2 hS ⊢
    have hP : va_P (dC, dI) vwCl (wd_1ad0248d h0 h1 h3 x2 h1 h2 v1 x3 v3 x4 h2 g0 f5 h3 g1 fn5) H := hP2
    have hD : va_D A (wd_1ad0248d h0 h1 h3 x2 h1 h2 v1 x3 v3 x4 h2 g0 f5 h3 g1 fn5) := hD2
    clear hP2 hD2
    obtain rfl : ra1 = (1 : Int32) := pv_cs (by decide) pt0_ra1 pt1_ra1
    refine lv_if_ne (tgt := 11) hx hb dX3_readCondition_6 (by decide) (fun _ => ?_) (fun c => absurd c (by decide))
    refine lv_iconst (v := 0) hx hb dX3_readCondition_11 (by decide) ?_
    refine lv_istore_n (lv' := [(3, .int 0), (0, .ref h0), (1, .int 0), (2, .int 0)]) hx hb dX3_readCondition_12 rfl hl (by decide) rfl (fun ls hl => ?_)
    have hL81 : ∀ (n9 : Nat), ∀ (x71 : Int32) (x72 : Int32) (x73 : Int32) (x74 : Int32) (fn75 : Nat → Int32) (H : Heap) (locs : List Loc) (ls : Array Slot), 0 ≤ x71.toInt → x71.toInt ≤ 240 → 0 ≤ x72.toInt → x72.toInt ≤ 256 → 0 ≤ x73.toInt → x73.toInt ≤ 240 → (pg_L f5 v1.toInt 124 124 (pg_tru f5 v1.toInt (pg_unit f5 v1.toInt 6)) x73.toInt (pg_con f5 v1.toInt (pg_unit f5 v1.toInt 6) v2.toInt)) → (x71.toInt ≤ x73.toInt) → (v2.toInt ≤ x73.toInt) → (240 - x71.toInt).toNat < n9 → va_P (dC, dI) vwCl (wd_1ad0248d h0 h1 h3 x72 h1 h2 v1 x73 v3 x74 h2 g0 f5 h3 g1 fn75) H → va_D A (wd_1ad0248d h0 h1 h3 x72 h1 h2 v1 x73 v3 x74 h2 g0 f5 h3 g1 fn75) → va_S A s.heap H locs → lv_has ls 4 [(3, .int x71), (0, .ref h0), (1, .int 0), (2, .int 0)] → W p l e ({ frames := 27, cells := 0, slots := 0, locals := 627 }) s m ([.ref h0, .int 0, .int 0] : List Value).toArray below meth c H locs 0 0 Q (F0 m 13 ls []) := by
      intro n9
      induction n9 with
      | zero => intro x71 x72 x73 x74 fn75 H locs ls qa_x71 qb_x71 qa_x72 qb_x72 qa_x73 qb_x73 gh0_hL81 gh1_hL81 gh2_hL81 hm9 hP hD hS hl; exact absurd hm9 (Nat.not_lt_zero _)
      | succ n9 ih_hL81 =>
        intro x71 x72 x73 x74 fn75 H locs ls qa_x71 qb_x71 qa_x72 qb_x72 qa_x73 qb_x73 gh0_hL81 gh1_hL81 gh2_hL81 hm9 hP hD hS hl
        refine lv_iload_n hx hb dX3_readCondition_13 rfl (lv_at hl 0 rfl) ?_
        refine lv_sipush (v := 240) hx hb dX3_readCondition_14 (by decide) ?_
        refine lv_icmp_ge (tgt := 63) hx hb dX3_readCondition_17 (by decide) (fun c82 => ?_) (fun c82 => ?_)
        · skip
          have fc82 : 240 ≤ x71.toInt := Int32.le_iff_toInt_le.mp c82
          refine lv_iconst (v := 1) hx hb dX3_readCondition_63 (by decide) ?_
          subst hQ
          have hP9 := hP.sub (ws' := (wd_1ad0248d h0 h1 h3 x72 h1 h2 v1 x73 v3 x74 h2 g0 f5 h3 g1 fn75)) [0, 1, 2, 3] rfl
          have hD9 := hD.sub (ws' := (wd_1ad0248d h0 h1 h3 x72 h1 h2 v1 x73 v3 x74 h2 g0 f5 h3 g1 fn75)) [0, 1, 2, 3] (by decide) rfl
          have hK9 := hK.sub (tys' := []) [] rfl
          exact W.zret (v := 1) hx hb hr rfl (fun t ht hW => ⟨⟨1, 1, rfl, rfl, Or.inl ⟨x72, x73, x74, fn75, qa_x72, qb_x72, qa_x73, qb_x73, by first | omega | decide, by first | omega | decide, by omega, by first | assumption | (apply pg_L.stop <;> first | assumption | omega) | exact pg_L.stop (by assumption) (pg_s.here (by rw [pg_ch.off (by omega)]; decide)) (by rw [pg_ch.off (by omega)]; decide), by rw [ht]; exact hP9, va_K.moved hW.alike hK9, hD9⟩⟩, hS.F ht⟩) hS.2.2 dX3_readCondition_64
        · skip
          have fc82 : ¬ (240 ≤ x71.toInt) := fun h9 => c82 (Int32.le_iff_toInt_le.mpr h9)
          refine lv_aload_n hx hb dX3_readCondition_20 rfl (lv_at hl 1 rfl) ?_
          refine va_get (D := (dC, dI)) (ci := 3) (v := .ref h1) (C := RX3) (T := TX3) (N := 3) hx hb hts (fun _ h => List.mem_cons_of_mem _ (List.mem_append_left _ (List.mem_append_right _ h))) hown hK hP 0 rfl rfl 0 (by decide) (hts (.fieldLink RX3 19 "LeftArguments$LawReader" "tape" "LLeftArguments$Tape;") (List.mem_cons_of_mem _ (List.mem_append_left _ (List.mem_append_left _ (List.mem_of_getElem? (i := 2) rfl))))) (fun _ h9 => h9) rfl dX3_readCondition_21 ?_
          have hPc := hP.sub (ws' := (wd_82cdd16b h1 h2 v1 x73 v3 x74 h2 g0 f5)) [1, 2] rfl
          have hDc := hD.sub (ws' := (wd_82cdd16b h1 h2 v1 x73 v3 x74 h2 g0 f5)) [1, 2] (by decide) rfl
          have hKc := hK.sub (tys' := [(g0, .int)]) [0] rfl
          have hFc := va_free (wc := (wd_82cdd16b h1 h2 v1 x73 v3 x74 h2 g0 f5)) hD hS hA [1, 2] rfl
          refine va_calli (va_runV (As := []) (rest := []) ⟨hx, hb, hml, hown, hts⟩ (k_X10_next l dC dI h1 h2 v1 x73 v3 x74 g0 f5 ⟨i_v1a, i_v1b⟩ ⟨qa_x73, qb_x73⟩ ia_f5 H.size) (cwV 0 hts g_X3_readCondition_7_1 rfl rfl rfl (by decide +kernel) ⟨Nat.le_of_ble_eq_true rfl, Nat.le_of_ble_eq_true rfl⟩) (pv_PV10 hPc hKc hDc (q0 := 0) rfl) rfl rfl hl.1 rfl (lv_room (Nat.le_of_ble_eq_true rfl)) dX3_readCondition_24 ⟨Nat.le_of_ble_eq_true rfl, Nat.le_of_ble_eq_true rfl⟩) hS (fun q _ h => hFc q h) hFc (fun ra83 u t H1 locs ht hvm hwra83 hB hz1 hk1 hS => ?_)
          try rw [hwra83] at hB
          rcases hB with hB | hB
          · skip
            obtain ⟨x84, oa_x84, ob_x84, pt0_ra83, pt1_ra83, pt2_ra83, pt3_ra83, pt4_ra83, pt5_ra83, pt6_ra83, hP1, hK1, hD1⟩ := hB
            rw [ht] at hP1
            obtain ⟨hP2, hD2⟩ := va_join (wr := (wd_b958b9da h0 h1 h3 x72 h3 g1 fn75)) (w1 := (wd_82cdd16b h1 h2 v1 x84 v3 x74 h2 g0 f5)) hP hD [1, 2] [0, 3] rfl rfl (by decide) (by decide) hk1 hFc hP1 hD1
            clear hP hD hPc hDc hKc hFc hP1 hK1 hD1 hk1 hz1
            generalize H1 = H at hP2 hS ⊢
            have hP := hP2.sub (ws' := (wd_1ad0248d h0 h1 h3 x72 h1 h2 v1 x84 v3 x74 h2 g0 f5 h3 g1 fn75)) [0, 2, 3, 1] rfl
            have hD := hD2.sub (ws' := (wd_1ad0248d h0 h1 h3 x72 h1 h2 v1 x84 v3 x74 h2 g0 f5 h3 g1 fn75)) [0, 2, 3, 1] (by decide) rfl
            clear hP2 hD2
            obtain rfl : ra83 = ((-1) : Int32) := pv_cs (by decide) pt0_ra83 pt1_ra83
            refine lv_bipush (v := 124) hx hb dX3_readCondition_27 (by decide) ?_
            refine lv_icmp_ne (tgt := 63) hx hb dX3_readCondition_29 (by decide) (fun _ => ?_) (fun c => absurd c (by decide))
            refine lv_iconst (v := 1) hx hb dX3_readCondition_63 (by decide) ?_
            subst hQ
            have hP9 := hP.sub (ws' := (wd_1ad0248d h0 h1 h3 x72 h1 h2 v1 x84 v3 x74 h2 g0 f5 h3 g1 fn75)) [0, 1, 2, 3] rfl
            have hD9 := hD.sub (ws' := (wd_1ad0248d h0 h1 h3 x72 h1 h2 v1 x84 v3 x74 h2 g0 f5 h3 g1 fn75)) [0, 1, 2, 3] (by decide) rfl
            have hK9 := hK.sub (tys' := []) [] rfl
            exact W.zret (v := 1) hx hb hr rfl (fun t ht hW => ⟨⟨1, 1, rfl, rfl, Or.inl ⟨x72, x84, x74, fn75, qa_x72, qb_x72, oa_x84, ob_x84, by first | omega | decide, by first | omega | decide, by omega, by first | assumption | (apply pg_L.stop <;> first | assumption | omega) | exact pg_L.stop (by assumption) (pg_s.here (by rw [pg_ch.off (by omega)]; decide)) (by rw [pg_ch.off (by omega)]; decide), by rw [ht]; exact hP9, va_K.moved hW.alike hK9, hD9⟩⟩, hS.F ht⟩) hS.2.2 dX3_readCondition_64
          · skip
            obtain ⟨x85, oa_x85, ob_x85, pt0_ra83, pt1_ra83, pt2_ra83, pt3_ra83, pt4_ra83, pt5_ra83, pt6_ra83, hP1, hK1, hD1⟩ := hB
            rw [ht] at hP1
            obtain ⟨hP2, hD2⟩ := va_join (wr := (wd_b958b9da h0 h1 h3 x72 h3 g1 fn75)) (w1 := (wd_82cdd16b h1 h2 v1 x85 v3 x74 h2 g0 f5)) hP hD [1, 2] [0, 3] rfl rfl (by decide) (by decide) hk1 hFc hP1 hD1
            clear hP hD hPc hDc hKc hFc hP1 hK1 hD1 hk1 hz1
            generalize H1 = H at hP2 hS ⊢
            have hP := hP2.sub (ws' := (wd_1ad0248d h0 h1 h3 x72 h1 h2 v1 x85 v3 x74 h2 g0 f5 h3 g1 fn75)) [0, 2, 3, 1] rfl
            have hD := hD2.sub (ws' := (wd_1ad0248d h0 h1 h3 x72 h1 h2 v1 x85 v3 x74 h2 g0 f5 h3 g1 fn75)) [0, 2, 3, 1] (by decide) rfl
            clear hP2 hD2
            refine lv_bipush (v := 124) hx hb dX3_readCondition_27 (by decide) ?_
            refine lv_icmp_ne (tgt := 63) hx hb dX3_readCondition_29 (by decide) (fun c86 => ?_) (fun c86 => ?_)
            · skip
              have fc86 : ¬ (ra83.toInt = 124) := fun h9 => c86 (Int32.toInt_inj.mp h9)
              refine lv_iconst (v := 1) hx hb dX3_readCondition_63 (by decide) ?_
              subst hQ
              have hP9 := hP.sub (ws' := (wd_1ad0248d h0 h1 h3 x72 h1 h2 v1 x85 v3 x74 h2 g0 f5 h3 g1 fn75)) [0, 1, 2, 3] rfl
              have hD9 := hD.sub (ws' := (wd_1ad0248d h0 h1 h3 x72 h1 h2 v1 x85 v3 x74 h2 g0 f5 h3 g1 fn75)) [0, 1, 2, 3] (by decide) rfl
              have hK9 := hK.sub (tys' := []) [] rfl
              exact W.zret (v := 1) hx hb hr rfl (fun t ht hW => ⟨⟨1, 1, rfl, rfl, Or.inl ⟨x72, x85, x74, fn75, qa_x72, qb_x72, oa_x85, by first | omega | decide, by first | omega | decide, by first | omega | decide, by omega, by first | assumption | (apply pg_L.stop <;> first | assumption | omega) | exact pg_L.stop (by assumption) (pg_s.here (by rw [pg_ch.off (by omega)]; decide)) (by rw [pg_ch.off (by omega)]; decide), by rw [ht]; exact hP9, va_K.moved hW.alike hK9, hD9⟩⟩, hS.F ht⟩) hS.2.2 dX3_readCondition_64
            · skip
              have fc86 : ra83.toInt = 124 := congrArg Int32.toInt c86
              refine lv_aload_n hx hb dX3_readCondition_32 rfl (lv_at hl 1 rfl) ?_
              refine va_get (D := (dC, dI)) (ci := 3) (v := .ref h1) (C := RX3) (T := TX3) (N := 3) hx hb hts (fun _ h => List.mem_cons_of_mem _ (List.mem_append_left _ (List.mem_append_right _ h))) hown hK hP 0 rfl rfl 0 (by decide) (hts (.fieldLink RX3 19 "LeftArguments$LawReader" "tape" "LLeftArguments$Tape;") (List.mem_cons_of_mem _ (List.mem_append_left _ (List.mem_append_left _ (List.mem_of_getElem? (i := 2) rfl))))) (fun _ h9 => h9) rfl dX3_readCondition_33 ?_
              have hPc := hP.sub (ws' := (wd_09b0abee h1 h2 v1 x85 v3 x74)) [1] rfl
              have hDc := hD.sub (ws' := (wd_09b0abee h1 h2 v1 x85 v3 x74)) [1] (by decide) rfl
              have hKc := hK.sub (tys' := []) [] rfl
              have hFc := va_free (wc := (wd_09b0abee h1 h2 v1 x85 v3 x74)) hD hS hA [1] rfl
              refine va_callv (va_runV (As := []) (rest := []) ⟨hx, hb, hml, hown, hts⟩ (k_X10_step l dC dI h1 h2 v1 x85 v3 x74 ⟨i_v1a, i_v1b⟩ ⟨oa_x85, ob_x85⟩ H.size) (cwV 0 hts g_X3_readCondition_7_2 rfl rfl rfl (by decide +kernel) ⟨Nat.le_of_ble_eq_true rfl, Nat.le_of_ble_eq_true rfl⟩) (pv_PV10 hPc hKc hDc (q0 := 0) rfl) rfl rfl hl.1 rfl (lv_room (Nat.le_of_ble_eq_true rfl)) dX3_readCondition_36 ⟨Nat.le_of_ble_eq_true rfl, Nat.le_of_ble_eq_true rfl⟩) hS (fun q _ h => hFc q h) hFc (fun u t H1 locs ht hvm hwra87 hB hz1 hk1 hS => ?_)
              obtain ⟨x88, oa_x88, ob_x88, pt0_ra87, hP1, hK1, hD1⟩ := hB
              rw [ht] at hP1
              obtain ⟨hP2, hD2⟩ := va_join (wr := (wd_6b0d8e05 h0 h1 h3 x72 h2 g0 f5 h3 g1 fn75)) (w1 := (wd_09b0abee h1 h2 v1 x88 v3 x74)) hP hD [1] [0, 2, 3] rfl rfl (by decide) (by decide) hk1 hFc hP1 hD1
              clear hP hD hPc hDc hKc hFc hP1 hK1 hD1 hk1 hz1
              generalize H1 = H at hP2 hS ⊢
              have hP := hP2.sub (ws' := (wd_1ad0248d h0 h1 h3 x72 h1 h2 v1 x88 v3 x74 h2 g0 f5 h3 g1 fn75)) [0, 3, 1, 2] rfl
              have hD := hD2.sub (ws' := (wd_1ad0248d h0 h1 h3 x72 h1 h2 v1 x88 v3 x74 h2 g0 f5 h3 g1 fn75)) [0, 3, 1, 2] (by decide) rfl
              clear hP2 hD2
              refine lv_aload_n hx hb dX3_readCondition_39 rfl (lv_at hl 1 rfl) ?_
              refine lv_iload_n hx hb dX3_readCondition_40 rfl (lv_at hl 2 rfl) ?_
              refine lv_iconst (v := 0) hx hb dX3_readCondition_41 (by decide) ?_
              have hPc := hP.sub (ws' := (wd_1ad0248d h0 h1 h3 x72 h1 h2 v1 x88 v3 x74 h2 g0 f5 h3 g1 fn75)) [0, 1, 2, 3] rfl
              have hDc := hD.sub (ws' := (wd_1ad0248d h0 h1 h3 x72 h1 h2 v1 x88 v3 x74 h2 g0 f5 h3 g1 fn75)) [0, 1, 2, 3] (by decide) rfl
              have hKc := hK.sub (tys' := [(g0, .int), (g1, .int)]) [0, 1] rfl
              have hFc := va_free (wc := (wd_1ad0248d h0 h1 h3 x72 h1 h2 v1 x88 v3 x74 h2 g0 f5 h3 g1 fn75)) hD hS hA [0, 1, 2, 3] rfl
              refine va_calli (va_runV (As := [.int 0, .int 0]) (rest := []) ⟨hx, hb, hml, hown, hts⟩ (k_X3_readTruth_7 l dC dI adK adV h0 h1 h2 h3 x72 v1 x88 v3 x74 g0 f5 g1 fn75 ⟨qa_x72, qb_x72⟩ ⟨i_v1a, i_v1b⟩ ⟨by first | omega | decide, ob_x88⟩ ia_f5 H.size) (cwV 2 hts g_X3_readCondition_7_0 rfl rfl rfl (by decide +kernel) ⟨Nat.le_of_ble_eq_true rfl, Nat.le_of_ble_eq_true rfl⟩) ⟨fun a U g mk q => by obtain ⟨q0, q1, qP, qK, qD, n0, n1, n2⟩ := q; exact ⟨q0, q1, qP, va_K.moved (u := U) (U := U.calling g mk a) (Vm.Alike.refl U.vm) qK, qD, vk_R.same rfl n0, va_Z.moved (Vm.Alike.refl _) n1, vk_S.moved (Vm.Alike.refl _) n2⟩, pv_rc3 hKc hPc (q0 := 0) rfl, fun U hU hW => ⟨rfl, by rw [hU], by rw [hU]; exact hPc, va_K.moved hW.alike hKc, hDc.weaken (fun _ _ _ _ => trivial), vk_R.warm hW h_vr_2, (by rw [hU]; exact (va_Z.moved hW.alike (va_Z.kept h_st_CS hS.2.1)).narrow hFc), (by rw [hU]; exact (vk_S.moved hW.alike (vk_S.kept h_st_S hS.2.1)).narrow hFc)⟩⟩ rfl rfl hl.1 rfl (lv_room (Nat.le_of_ble_eq_true rfl)) dX3_readCondition_42 ⟨Nat.le_of_ble_eq_true rfl, Nat.le_of_ble_eq_true rfl⟩) hS (fun q _ h => hFc q h) hFc (fun ra89 u t H1 locs ht hvm hwra89 hB hz1 hk1 hS => ?_)
              try rw [hwra89] at hB
              rcases hB with hB | hB
              · skip
                obtain ⟨x90, x91, x92, fn93, oa_x90, ob_x90, oa_x91, ob_x91, pt0_ra89, pt1_ra89, pt2_ra89, pt3_ra89, hP1, hK1, hD1⟩ := hB
                rw [ht] at hP1
                obtain ⟨hP2, hD2⟩ := va_join (wr := []) (w1 := (wd_1ad0248d h0 h1 h3 x90 h1 h2 v1 x91 v3 x92 h2 g0 f5 h3 g1 fn93)) hP hD [0, 1, 2, 3] [] rfl rfl (by decide) (by decide) hk1 hFc hP1 hD1
                clear hP hD hPc hDc hKc hFc hP1 hK1 hD1 hk1 hz1
                generalize H1 = H at hP2 hS ⊢
                have hP : va_P (dC, dI) vwCl (wd_1ad0248d h0 h1 h3 x90 h1 h2 v1 x91 v3 x92 h2 g0 f5 h3 g1 fn93) H := hP2
                have hD : va_D A (wd_1ad0248d h0 h1 h3 x90 h1 h2 v1 x91 v3 x92 h2 g0 f5 h3 g1 fn93) := hD2
                clear hP2 hD2
                obtain rfl : ra89 = (1 : Int32) := pv_cs (by decide) pt0_ra89 pt1_ra89
                refine lv_if_ne (tgt := 50) hx hb dX3_readCondition_45 (by decide) (fun _ => ?_) (fun c => absurd c (by decide))
                refine lv_aload_n hx hb dX3_readCondition_50 rfl (lv_at hl 1 rfl) ?_
                refine lv_bipush (v := 11) hx hb dX3_readCondition_51 (by decide) ?_
                refine lv_iconst (v := 0) hx hb dX3_readCondition_53 (by decide) ?_
                have hPc := hP.sub (ws' := (wd_b958b9da h0 h1 h3 x90 h3 g1 fn93)) [0, 3] rfl
                have hDc := hD.sub (ws' := (wd_b958b9da h0 h1 h3 x90 h3 g1 fn93)) [0, 3] (by decide) rfl
                have hKc := hK.sub (tys' := [(g1, .int)]) [1] rfl
                have hFc := va_free (wc := (wd_b958b9da h0 h1 h3 x90 h3 g1 fn93)) hD hS hA [0, 3] rfl
                refine va_callv (va_runV (As := [.int 11, .int 0]) (rest := []) ⟨hx, hb, hml, hown, hts⟩ (k_X3_write l dC dI h0 h3 h1 x90 g1 fn93 11 0 ⟨oa_x90, ob_x90⟩ H.size) (cwV 2 hts g_X3_readCondition_7_4 rfl rfl rfl (by decide +kernel) ⟨Nat.le_of_ble_eq_true rfl, Nat.le_of_ble_eq_true rfl⟩) (pv_PV3 hPc hKc hDc (q0 := 0) rfl) rfl rfl hl.1 rfl (lv_room (Nat.le_of_ble_eq_true rfl)) dX3_readCondition_54 ⟨Nat.le_of_ble_eq_true rfl, Nat.le_of_ble_eq_true rfl⟩) hS (fun q _ h => hFc q h) hFc (fun u t H1 locs ht hvm hwra94 hB hz1 hk1 hS => ?_)
                obtain ⟨x95, fn96, oa_x95, ob_x95, hP1, hK1, hD1⟩ := hB
                rw [ht] at hP1
                obtain ⟨hP2, hD2⟩ := va_join (wr := (wd_82cdd16b h1 h2 v1 x91 v3 x92 h2 g0 f5)) (w1 := (wd_b958b9da h0 h1 h3 x95 h3 g1 fn96)) hP hD [0, 3] [1, 2] rfl rfl (by decide) (by decide) hk1 hFc hP1 hD1
                clear hP hD hPc hDc hKc hFc hP1 hK1 hD1 hk1 hz1
                generalize H1 = H at hP2 hS ⊢
                have hP := hP2.sub (ws' := (wd_1ad0248d h0 h1 h3 x95 h1 h2 v1 x91 v3 x92 h2 g0 f5 h3 g1 fn96)) [2, 0, 1, 3] rfl
                have hD := hD2.sub (ws' := (wd_1ad0248d h0 h1 h3 x95 h1 h2 v1 x91 v3 x92 h2 g0 f5 h3 g1 fn96)) [2, 0, 1, 3] (by decide) rfl
                clear hP2 hD2
                obtain ⟨t97, et97⟩ : ∃ y : Int32, y = x71 + 1 := ⟨_, rfl⟩
                have gt97 : t97.toInt = x71.toInt + (1) := pv_add (a := x71.toInt) (b := (1)) et97 rfl (by decide) (by omega) (by omega)
                refine lv_iinc (v := t97) (lv' := [(3, .int t97), (0, .ref h0), (1, .int 0), (2, .int 0)]) hx hb dX3_readCondition_57 hl (k := 0) rfl (by rw [et97]; rfl) (by decide) rfl (fun ls hl => ?_)
                refine lv_goto (tgt := 13) hx hb dX3_readCondition_60 (by decide) ?_
                exact ih_hL81 t97 x95 x91 x92 fn96 H locs ls (by first | omega | decide) (by first | omega | decide) oa_x95 ob_x95 oa_x91 ob_x91 (by first | assumption | (apply pg_row.go <;> first | assumption | omega) | (apply pg_L.bi <;> first | assumption | omega) | (apply pg_L.step <;> first | assumption | omega)) (by first | omega | ((have h09 : ((0 : Int32)).toInt = 0 := by decide); omega)) (by omega) (by first | omega | (simp only [Int.toNat] at *; omega)) hP hD hS (lv_sub hl [0, 1, 2, 3] rfl)
              · skip
                obtain ⟨x98, x99, x100, x101, fn102, oa_x98, ob_x98, oa_x99, ob_x99, oa_x100, ob_x100, pt0_ra89, pt1_ra89, pt2_ra89, pt3_ra89, hP1, hK1, hD1⟩ := hB
                rw [ht] at hP1
                obtain ⟨hP2, hD2⟩ := va_join (wr := []) (w1 := (wd_1ad0248d h0 h1 h3 x98 h1 h2 v1 x99 x100 x101 h2 g0 f5 h3 g1 fn102)) hP hD [0, 1, 2, 3] [] rfl rfl (by decide) (by decide) hk1 hFc hP1 hD1
                clear hP hD hPc hDc hKc hFc hP1 hK1 hD1 hk1 hz1
                generalize H1 = H at hP2 hS ⊢
                have hP : va_P (dC, dI) vwCl (wd_1ad0248d h0 h1 h3 x98 h1 h2 v1 x99 x100 x101 h2 g0 f5 h3 g1 fn102) H := hP2
                have hD : va_D A (wd_1ad0248d h0 h1 h3 x98 h1 h2 v1 x99 x100 x101 h2 g0 f5 h3 g1 fn102) := hD2
                clear hP2 hD2
                obtain rfl : ra89 = (0 : Int32) := pv_cs (by decide) pt0_ra89 pt1_ra89
                refine lv_if_ne (tgt := 50) hx hb dX3_readCondition_45 (by decide) (fun c => absurd (by decide) c) (fun _ => ?_)
                refine lv_iconst (v := 0) hx hb dX3_readCondition_48 (by decide) ?_
                subst hQ
                have hP9 := hP.sub (ws' := (wd_1ad0248d h0 h1 h3 x98 h1 h2 v1 x99 x100 x101 h2 g0 f5 h3 g1 fn102)) [0, 1, 2, 3] rfl
                have hD9 := hD.sub (ws' := (wd_1ad0248d h0 h1 h3 x98 h1 h2 v1 x99 x100 x101 h2 g0 f5 h3 g1 fn102)) [0, 1, 2, 3] (by decide) rfl
                have hK9 := hK.sub (tys' := []) [] rfl
                exact W.zret (v := 0) hx hb hr rfl (fun t ht hW => ⟨⟨0, 0, rfl, rfl, Or.inr (⟨x98, x99, x100, x101, fn102, oa_x98, ob_x98, oa_x99, ob_x99, oa_x100, ob_x100, by first | omega | decide, by first | omega | decide, by omega, by first | assumption | (apply pg_bind.no <;> first | assumption | omega) | (apply pg_L.no <;> first | assumption | omega), by rw [ht]; exact hP9, va_K.moved hW.alike hK9, hD9⟩)⟩, hS.F ht⟩) hS.2.2 dX3_readCondition_49
    exact hL81 _ 0 x2 x3 x4 fn5 H locs ls (by decide) (by decide) oa_x2 ob_x2 oa_x3 ob_x3 (by first | assumption | (apply pg_row.go <;> first | assumption | omega) | (apply pg_L.bi <;> first | assumption | omega) | (apply pg_L.step <;> first | assumption | omega)) (by first | omega | ((have h09 : ((0 : Int32)).toInt = 0 := by decide); omega)) (by omega) (Nat.lt_succ_self _) hP hD hS (lv_sub hl [0, 1, 2, 3] rfl)
  · skip
    obtain ⟨x103, x104, x105, x106, fn107, oa_x103, ob_x103, oa_x104, ob_x104, oa_x105, ob_x105, pt0_ra1, pt1_ra1, pt2_ra1, pt3_ra1, hP1, hK1, hD1⟩ := hB
    rw [ht] at hP1
    obtain ⟨hP2, hD2⟩ := va_join (wr := []) (w1 := (wd_1ad0248d h0 h1 h3 x103 h1 h2 v1 x104 x105 x106 h2 g0 f5 h3 g1 fn107)) hP hD [0, 1, 2, 3] [] rfl rfl (by decide) (by decide) hk1 hFc hP1 hD1
    clear hP hD hPc hDc hKc hFc hP1 hK1 hD1 hk1 hz1
    generalize H1 = H at hP2 hS ⊢
    have hP : va_P (dC, dI) vwCl (wd_1ad0248d h0 h1 h3 x103 h1 h2 v1 x104 x105 x106 h2 g0 f5 h3 g1 fn107) H := hP2
    have hD : va_D A (wd_1ad0248d h0 h1 h3 x103 h1 h2 v1 x104 x105 x106 h2 g0 f5 h3 g1 fn107) := hD2
    clear hP2 hD2
    obtain rfl : ra1 = (0 : Int32) := pv_cs (by decide) pt0_ra1 pt1_ra1
    refine lv_if_ne (tgt := 11) hx hb dX3_readCondition_6 (by decide) (fun c => absurd (by decide) c) (fun _ => ?_)
    refine lv_iconst (v := 0) hx hb dX3_readCondition_9 (by decide) ?_
    subst hQ
    have hP9 := hP.sub (ws' := (wd_1ad0248d h0 h1 h3 x103 h1 h2 v1 x104 x105 x106 h2 g0 f5 h3 g1 fn107)) [0, 1, 2, 3] rfl
    have hD9 := hD.sub (ws' := (wd_1ad0248d h0 h1 h3 x103 h1 h2 v1 x104 x105 x106 h2 g0 f5 h3 g1 fn107)) [0, 1, 2, 3] (by decide) rfl
    have hK9 := hK.sub (tys' := []) [] rfl
    exact W.zret (v := 0) hx hb hr rfl (fun t ht hW => ⟨⟨0, 0, rfl, rfl, Or.inr (⟨x103, x104, x105, x106, fn107, oa_x103, ob_x103, oa_x104, ob_x104, oa_x105, ob_x105, by first | omega | decide, by first | omega | decide, by omega, by first | assumption | (apply pg_bind.no <;> first | assumption | omega) | (apply pg_L.no <;> first | assumption | omega), by rw [ht]; exact hP9, va_K.moved hW.alike hK9, hD9⟩)⟩, hS.F ht⟩) hS.2.2 dX3_readCondition_10
def q_X3_readClause : List Cond := .code yX3_readClause cX3_readClause 4 (some .boolean) :: (([.fieldLink RX3 19 "LeftArguments$LawReader" "tape" "LLeftArguments$Tape;", .code yX10_take cX10_take 2 (some .boolean), .code yX10_next cX10_next 1 (some .int), .fieldLink RX10 19 "LeftArguments$Tape" "at" "I", .fieldLink RX10 15 "LeftArguments$Tape" "used" "I", .fieldLink RX10 9 "LeftArguments$Tape" "bytes" "[I", .initialized RX10, .instanceMethod yX10_next, .selects RX10 yX10_next yX10_next, .methodLink RX10 37 yX10_next, .code yX10_wrongHere cX10_wrongHere 1 (some .boolean), .fieldLink RX10 22 "LeftArguments$Tape" "wrongAt" "I", .instanceMethod yX10_wrongHere, .selects RX10 yX10_wrongHere yX10_wrongHere, .methodLink RX10 41 yX10_wrongHere, .instanceMethod yX10_take, .selects RX10 yX10_take yX10_take, .methodLink RX3 51 yX10_take, .methodLink RX3 48 yX10_next, .code yX3_readSum cX3_readSum 4 (some .boolean), .code yX3_readTerm cX3_readTerm 4 (some .boolean), .code yX3_readAtom cX3_readAtom 4 (some .boolean), .code yX10_isDigit cX10_isDigit 1 (some .boolean), .static yX10_isDigit, .methodLink RX3 92 yX10_isDigit, .methodLink RX3 83 yX10_wrongHere, .code yJ0_indexOf_0f7a4 cJ0_indexOf_0f7a4 2 (some .int), .code yJ0_indexOf_7cf53 cJ0_indexOf_7cf53 3 (some .int), .code yJ0_isLatin1_aae02 cJ0_isLatin1_aae02 1 (some .boolean), .fieldLink RJ0 38 "java/lang/String" "COMPACT_STRINGS" "Z", .fieldLink RJ0 15 "java/lang/String" "coder" "B", .initialized RJ0, .instanceMethod yJ0_isLatin1_aae02, .selects RJ0 yJ0_isLatin1_aae02 yJ0_isLatin1_aae02, .methodLink RJ0 492 yJ0_isLatin1_aae02, .fieldLink RJ0 9 "java/lang/String" "value" "[B", .code yJ0_length_8abf5 cJ0_length_8abf5 1 (some .int), .code yJ0_coder_7d493 cJ0_coder_7d493 1 (some .byte), .instanceMethod yJ0_coder_7d493, .selects RJ0 yJ0_coder_7d493 yJ0_coder_7d493, .methodLink RJ0 335 yJ0_coder_7d493, .instanceMethod yJ0_length_8abf5, .selects RJ0 yJ0_length_8abf5 yJ0_length_8abf5, .methodLink RJ0 505 yJ0_length_8abf5, .code yJ1_indexOf_4cfef cJ1_indexOf_4cfef 4 (some .int), .code yJ1_canEncode_9a6ad cJ1_canEncode_9a6ad 1 (some .boolean), .initialized RJ1, .static yJ1_canEncode_9a6ad, .methodLink RJ1 88 yJ1_canEncode_9a6ad, .methodLink RJ1 92 Lib.Math.max.name, .static Lib.Math.max.name, .initialized "java/lang/Math", .code Lib.Math.max.name Lib.Math.max.code 2 (some .int), .methodLink RJ1 38 Lib.Math.min.name, .static Lib.Math.min.name, .code Lib.Math.min.name Lib.Math.min.code 2 (some .int), .code yJ1_indexOfChar_4cfef cJ1_indexOfChar_4cfef 6 (some .int), .static yJ1_indexOfChar_4cfef, .methodLink RJ1 95 yJ1_indexOfChar_4cfef, .static yJ1_indexOf_4cfef, .methodLink RJ0 637 yJ1_indexOf_4cfef, .instanceMethod yJ0_indexOf_7cf53, .selects RJ0 yJ0_indexOf_7cf53 yJ0_indexOf_7cf53, .methodLink RJ0 633 yJ0_indexOf_7cf53, .instanceMethod yJ0_indexOf_0f7a4, .selects RJ0 yJ0_indexOf_0f7a4 yJ0_indexOf_0f7a4, .methodLink RX3 103 yJ0_indexOf_0f7a4, .code yX10_step cX10_step 1 none, .instanceMethod yX10_step, .selects RX10 yX10_step yX10_step, .methodLink RX3 77 yX10_step, .code yX3_write cX3_write 3 none, .fieldLink RX3 15 "LeftArguments$LawReader" "used" "I", .fieldLink RX3 11 "LeftArguments$LawReader" "code" "[I", .initialized RX3, .instanceMethod yX3_write, .selects RX3 yX3_write yX3_write, .methodLink RX3 66 yX3_write, .code yX10_takeNumber cX10_takeNumber 3 (some .boolean), .methodLink RX10 45 yX10_isDigit, .fieldLink RX10 25 "LeftArguments$Tape" "number" "I", .code yX10_sign cX10_sign 1 (some .int), .instanceMethod yX10_sign, .selects RX10 yX10_sign yX10_sign, .methodLink RX10 49 yX10_sign, .instanceMethod yX10_takeNumber, .selects RX10 yX10_takeNumber yX10_takeNumber, .methodLink RX3 95 yX10_takeNumber, .code yX10_number cX10_number 1 (some .int), .instanceMethod yX10_number, .selects RX10 yX10_number yX10_number, .methodLink RX3 98 yX10_number, .instanceMethod yX3_readAtom, .selects RX3 yX3_readAtom yX3_readAtom, .methodLink RX3 89 yX3_readAtom, .instanceMethod yX3_readTerm, .selects RX3 yX3_readTerm yX3_readTerm, .methodLink RX3 86 yX3_readTerm, .instanceMethod yX3_readSum, .selects RX3 yX3_readSum yX3_readSum, .methodLink RX3 59 yX3_readSum, .code yX3_comparing cX3_comparing 1 (some .int), .static yX3_comparing, .methodLink RX3 62 yX3_comparing, .code yX3_readCondition cX3_readCondition 4 (some .boolean), .code yX3_readTruth cX3_readTruth 4 (some .boolean), .code yX3_readUnit cX3_readUnit 5 (some .boolean), .instanceMethod yX3_readUnit, .selects RX3 yX3_readUnit yX3_readUnit, .methodLink RX3 80 yX3_readUnit, .instanceMethod yX3_readTruth, .selects RX3 yX3_readTruth yX3_readTruth, .methodLink RX3 74 yX3_readTruth, .instanceMethod yX3_readCondition, .selects RX3 yX3_readCondition yX3_readCondition, .methodLink RX3 70 yX3_readCondition] : List Cond) ++ wsX30 ++ wsX100)
set_option maxRecDepth 20000 in
theorem g_X3_readClause_0 : GoodIn q_X3_readClause (wsV RX3 51 RX10 yX10_take q_X10_take) := goodIn_app (goodIn_r _ [18, 16, 17, 7] rfl (by decide +kernel)) (goodIn_ca (goodIn_r (.code yX10_take cX10_take 2 (some .boolean) :: [.code yX10_next cX10_next 1 (some .int), .fieldLink RX10 19 "LeftArguments$Tape" "at" "I", .fieldLink RX10 15 "LeftArguments$Tape" "used" "I", .fieldLink RX10 9 "LeftArguments$Tape" "bytes" "[I", .initialized RX10, .instanceMethod yX10_next, .selects RX10 yX10_next yX10_next, .methodLink RX10 37 yX10_next, .code yX10_wrongHere cX10_wrongHere 1 (some .boolean), .fieldLink RX10 22 "LeftArguments$Tape" "wrongAt" "I", .instanceMethod yX10_wrongHere, .selects RX10 yX10_wrongHere yX10_wrongHere, .methodLink RX10 41 yX10_wrongHere]) [2, 3, 4, 5, 6, 7, 8, 9, 10, 11, 12, 13, 14, 15] rfl (by decide +kernel)) (goodIn_sub (fun _ h => List.mem_cons_of_mem _ (List.mem_append_right _ h)) gwX10))
set_option maxRecDepth 20000 in
theorem g_X3_readClause_1 : GoodIn q_X3_readClause (wsV RX3 51 RX10 yX10_take q_X10_take_1) := goodIn_app (goodIn_r _ [18, 16, 17, 7] rfl (by decide +kernel)) (goodIn_ca (goodIn_r (.code yX10_take cX10_take 2 (some .boolean) :: [.code yX10_next cX10_next 1 (some .int), .fieldLink RX10 19 "LeftArguments$Tape" "at" "I", .fieldLink RX10 15 "LeftArguments$Tape" "used" "I", .fieldLink RX10 9 "LeftArguments$Tape" "bytes" "[I", .initialized RX10, .instanceMethod yX10_next, .selects RX10 yX10_next yX10_next, .methodLink RX10 37 yX10_next, .code yX10_wrongHere cX10_wrongHere 1 (some .boolean), .fieldLink RX10 22 "LeftArguments$Tape" "wrongAt" "I", .instanceMethod yX10_wrongHere, .selects RX10 yX10_wrongHere yX10_wrongHere, .methodLink RX10 41 yX10_wrongHere]) [2, 3, 4, 5, 6, 7, 8, 9, 10, 11, 12, 13, 14, 15] rfl (by decide +kernel)) (goodIn_sub (fun _ h => List.mem_cons_of_mem _ (List.mem_append_right _ h)) gwX10))
set_option maxRecDepth 20000 in
theorem g_X3_readClause_2 : GoodIn q_X3_readClause (wsV RX3 48 RX10 yX10_next q_X10_next) := goodIn_app (goodIn_r _ [19, 8, 9, 7] rfl (by decide +kernel)) (goodIn_ca (goodIn_r (.code yX10_next cX10_next 1 (some .int) :: [.fieldLink RX10 19 "LeftArguments$Tape" "at" "I", .fieldLink RX10 15 "LeftArguments$Tape" "used" "I", .fieldLink RX10 9 "LeftArguments$Tape" "bytes" "[I"]) [3, 4, 5, 6] rfl (by decide +kernel)) (goodIn_sub (fun _ h => List.mem_cons_of_mem _ (List.mem_append_right _ h)) gwX10))
set_option maxRecDepth 20000 in
theorem g_X3_readClause_3 : GoodIn q_X3_readClause (wsV RX3 59 RX3 yX3_readSum q_X3_readSum_6) := goodIn_app (goodIn_r _ [101, 99, 100, 75] rfl (by decide +kernel)) (goodIn_ca (goodIn_ca (goodIn_r (.code yX3_readSum cX3_readSum 4 (some .boolean) :: [.code yX3_readTerm cX3_readTerm 4 (some .boolean), .code yX3_readAtom cX3_readAtom 4 (some .boolean), .fieldLink RX3 19 "LeftArguments$LawReader" "tape" "LLeftArguments$Tape;", .code yX10_next cX10_next 1 (some .int), .fieldLink RX10 19 "LeftArguments$Tape" "at" "I", .fieldLink RX10 15 "LeftArguments$Tape" "used" "I", .fieldLink RX10 9 "LeftArguments$Tape" "bytes" "[I", .initialized RX10, .instanceMethod yX10_next, .selects RX10 yX10_next yX10_next, .methodLink RX3 48 yX10_next, .code yX10_isDigit cX10_isDigit 1 (some .boolean), .static yX10_isDigit, .methodLink RX3 92 yX10_isDigit, .code yX10_wrongHere cX10_wrongHere 1 (some .boolean), .fieldLink RX10 22 "LeftArguments$Tape" "wrongAt" "I", .instanceMethod yX10_wrongHere, .selects RX10 yX10_wrongHere yX10_wrongHere, .methodLink RX3 83 yX10_wrongHere, .code yJ0_indexOf_0f7a4 cJ0_indexOf_0f7a4 2 (some .int), .code yJ0_indexOf_7cf53 cJ0_indexOf_7cf53 3 (some .int), .code yJ0_isLatin1_aae02 cJ0_isLatin1_aae02 1 (some .boolean), .fieldLink RJ0 38 "java/lang/String" "COMPACT_STRINGS" "Z", .fieldLink RJ0 15 "java/lang/String" "coder" "B", .initialized RJ0, .instanceMethod yJ0_isLatin1_aae02, .selects RJ0 yJ0_isLatin1_aae02 yJ0_isLatin1_aae02, .methodLink RJ0 492 yJ0_isLatin1_aae02, .fieldLink RJ0 9 "java/lang/String" "value" "[B", .code yJ0_length_8abf5 cJ0_length_8abf5 1 (some .int), .code yJ0_coder_7d493 cJ0_coder_7d493 1 (some .byte), .instanceMethod yJ0_coder_7d493, .selects RJ0 yJ0_coder_7d493 yJ0_coder_7d493, .methodLink RJ0 335 yJ0_coder_7d493, .instanceMethod yJ0_length_8abf5, .selects RJ0 yJ0_length_8abf5 yJ0_length_8abf5, .methodLink RJ0 505 yJ0_length_8abf5, .code yJ1_indexOf_4cfef cJ1_indexOf_4cfef 4 (some .int), .code yJ1_canEncode_9a6ad cJ1_canEncode_9a6ad 1 (some .boolean), .initialized RJ1, .static yJ1_canEncode_9a6ad, .methodLink RJ1 88 yJ1_canEncode_9a6ad, .methodLink RJ1 92 Lib.Math.max.name, .static Lib.Math.max.name, .initialized "java/lang/Math", .code Lib.Math.max.name Lib.Math.max.code 2 (some .int), .methodLink RJ1 38 Lib.Math.min.name, .static Lib.Math.min.name, .code Lib.Math.min.name Lib.Math.min.code 2 (some .int), .code yJ1_indexOfChar_4cfef cJ1_indexOfChar_4cfef 6 (some .int), .static yJ1_indexOfChar_4cfef, .methodLink RJ1 95 yJ1_indexOfChar_4cfef, .static yJ1_indexOf_4cfef, .methodLink RJ0 637 yJ1_indexOf_4cfef, .instanceMethod yJ0_indexOf_7cf53, .selects RJ0 yJ0_indexOf_7cf53 yJ0_indexOf_7cf53, .methodLink RJ0 633 yJ0_indexOf_7cf53, .instanceMethod yJ0_indexOf_0f7a4, .selects RJ0 yJ0_indexOf_0f7a4 yJ0_indexOf_0f7a4, .methodLink RX3 103 yJ0_indexOf_0f7a4, .code yX10_step cX10_step 1 none, .instanceMethod yX10_step, .selects RX10 yX10_step yX10_step, .methodLink RX3 77 yX10_step, .code yX3_write cX3_write 3 none, .fieldLink RX3 15 "LeftArguments$LawReader" "used" "I", .fieldLink RX3 11 "LeftArguments$LawReader" "code" "[I", .initialized RX3, .instanceMethod yX3_write, .selects RX3 yX3_write yX3_write, .methodLink RX3 66 yX3_write, .code yX10_takeNumber cX10_takeNumber 3 (some .boolean), .methodLink RX10 37 yX10_next, .methodLink RX10 45 yX10_isDigit, .methodLink RX10 41 yX10_wrongHere, .fieldLink RX10 25 "LeftArguments$Tape" "number" "I", .code yX10_sign cX10_sign 1 (some .int), .instanceMethod yX10_sign, .selects RX10 yX10_sign yX10_sign, .methodLink RX10 49 yX10_sign, .instanceMethod yX10_takeNumber, .selects RX10 yX10_takeNumber yX10_takeNumber, .methodLink RX3 95 yX10_takeNumber, .code yX10_number cX10_number 1 (some .int), .instanceMethod yX10_number, .selects RX10 yX10_number yX10_number, .methodLink RX3 98 yX10_number, .code yX3_readSum cX3_readSum 4 (some .boolean), .instanceMethod yX3_readAtom, .selects RX3 yX3_readAtom yX3_readAtom, .methodLink RX3 89 yX3_readAtom, .instanceMethod yX3_readTerm, .selects RX3 yX3_readTerm yX3_readTerm, .methodLink RX3 86 yX3_readTerm, .instanceMethod yX3_readSum, .selects RX3 yX3_readSum yX3_readSum, .methodLink RX3 59 yX3_readSum, .code yX10_take cX10_take 2 (some .boolean), .instanceMethod yX10_take, .selects RX10 yX10_take yX10_take, .methodLink RX3 51 yX10_take]) [20, 21, 22, 1, 3, 4, 5, 6, 7, 8, 9, 19, 23, 24, 25, 11, 12, 13, 14, 26, 27, 28, 29, 30, 31, 32, 33, 34, 35, 36, 37, 38, 39, 40, 41, 42, 43, 44, 45, 46, 47, 48, 49, 50, 51, 52, 53, 54, 55, 56, 57, 58, 59, 60, 61, 62, 63, 64, 65, 66, 67, 68, 69, 70, 71, 72, 73, 74, 75, 76, 77, 78, 79, 10, 80, 15, 81, 82, 83, 84, 85, 86, 87, 88, 89, 90, 91, 92, 20, 93, 94, 95, 96, 97, 98, 99, 100, 101, 2, 16, 17, 18] rfl (by decide +kernel)) (goodIn_sub (fun _ h => List.mem_cons_of_mem _ (List.mem_append_left _ (List.mem_append_right _ h))) gwX3)) (goodIn_sub (fun _ h => List.mem_cons_of_mem _ (List.mem_append_right _ h)) gwX10))
set_option maxRecDepth 20000 in
theorem g_X3_readClause_5 : GoodIn q_X3_readClause (va_wsS RX3 62 yX3_comparing q_X3_comparing) := goodIn_app (goodIn_r _ [104, 103, 75] rfl (by decide +kernel)) (goodIn_r (.code yX3_comparing cX3_comparing 1 (some .int) :: []) [102] rfl (by decide +kernel))
set_option maxRecDepth 20000 in
theorem g_X3_readClause_6 : GoodIn q_X3_readClause (wsV RX3 66 RX3 yX3_write q_X3_write) := goodIn_app (goodIn_r _ [78, 76, 77, 75] rfl (by decide +kernel)) (goodIn_ca (goodIn_r (.code yX3_write cX3_write 3 none :: [.fieldLink RX3 15 "LeftArguments$LawReader" "used" "I", .fieldLink RX3 11 "LeftArguments$LawReader" "code" "[I"]) [72, 73, 74] rfl (by decide +kernel)) (goodIn_sub (fun _ h => List.mem_cons_of_mem _ (List.mem_append_left _ (List.mem_append_right _ h))) gwX3))
set_option maxRecDepth 20000 in
theorem g_X3_readClause_7 : GoodIn q_X3_readClause (va_wsS RX3 62 yX3_comparing q_X3_comparing_1) := goodIn_app (goodIn_r _ [104, 103, 75] rfl (by decide +kernel)) (goodIn_r (.code yX3_comparing cX3_comparing 1 (some .int) :: []) [102] rfl (by decide +kernel))
set_option maxRecDepth 20000 in
theorem g_X3_readClause_8 : GoodIn q_X3_readClause (wsV RX3 70 RX3 yX3_readCondition q_X3_readCondition_6) := goodIn_app (goodIn_r _ [116, 114, 115, 75] rfl (by decide +kernel)) (goodIn_ca (goodIn_ca (goodIn_r (.code yX3_readCondition cX3_readCondition 4 (some .boolean) :: [.code yX3_readTruth cX3_readTruth 4 (some .boolean), .code yX3_readUnit cX3_readUnit 5 (some .boolean), .fieldLink RX3 19 "LeftArguments$LawReader" "tape" "LLeftArguments$Tape;", .code yX10_next cX10_next 1 (some .int), .fieldLink RX10 19 "LeftArguments$Tape" "at" "I", .fieldLink RX10 15 "LeftArguments$Tape" "used" "I", .fieldLink RX10 9 "LeftArguments$Tape" "bytes" "[I", .initialized RX10, .instanceMethod yX10_next, .selects RX10 yX10_next yX10_next, .methodLink RX3 48 yX10_next, .code yX3_comparing cX3_comparing 1 (some .int), .initialized RX3, .static yX3_comparing, .methodLink RX3 62 yX3_comparing, .code yX10_wrongHere cX10_wrongHere 1 (some .boolean), .fieldLink RX10 22 "LeftArguments$Tape" "wrongAt" "I", .instanceMethod yX10_wrongHere, .selects RX10 yX10_wrongHere yX10_wrongHere, .methodLink RX3 83 yX10_wrongHere, .code yX10_step cX10_step 1 none, .instanceMethod yX10_step, .selects RX10 yX10_step yX10_step, .methodLink RX3 77 yX10_step, .code yX3_readSum cX3_readSum 4 (some .boolean), .code yX3_readTerm cX3_readTerm 4 (some .boolean), .code yX3_readAtom cX3_readAtom 4 (some .boolean), .code yX10_isDigit cX10_isDigit 1 (some .boolean), .static yX10_isDigit, .methodLink RX3 92 yX10_isDigit, .code yJ0_indexOf_0f7a4 cJ0_indexOf_0f7a4 2 (some .int), .code yJ0_indexOf_7cf53 cJ0_indexOf_7cf53 3 (some .int), .code yJ0_isLatin1_aae02 cJ0_isLatin1_aae02 1 (some .boolean), .fieldLink RJ0 38 "java/lang/String" "COMPACT_STRINGS" "Z", .fieldLink RJ0 15 "java/lang/String" "coder" "B", .initialized RJ0, .instanceMethod yJ0_isLatin1_aae02, .selects RJ0 yJ0_isLatin1_aae02 yJ0_isLatin1_aae02, .methodLink RJ0 492 yJ0_isLatin1_aae02, .fieldLink RJ0 9 "java/lang/String" "value" "[B", .code yJ0_length_8abf5 cJ0_length_8abf5 1 (some .int), .code yJ0_coder_7d493 cJ0_coder_7d493 1 (some .byte), .instanceMethod yJ0_coder_7d493, .selects RJ0 yJ0_coder_7d493 yJ0_coder_7d493, .methodLink RJ0 335 yJ0_coder_7d493, .instanceMethod yJ0_length_8abf5, .selects RJ0 yJ0_length_8abf5 yJ0_length_8abf5, .methodLink RJ0 505 yJ0_length_8abf5, .code yJ1_indexOf_4cfef cJ1_indexOf_4cfef 4 (some .int), .code yJ1_canEncode_9a6ad cJ1_canEncode_9a6ad 1 (some .boolean), .initialized RJ1, .static yJ1_canEncode_9a6ad, .methodLink RJ1 88 yJ1_canEncode_9a6ad, .methodLink RJ1 92 Lib.Math.max.name, .static Lib.Math.max.name, .initialized "java/lang/Math", .code Lib.Math.max.name Lib.Math.max.code 2 (some .int), .methodLink RJ1 38 Lib.Math.min.name, .static Lib.Math.min.name, .code Lib.Math.min.name Lib.Math.min.code 2 (some .int), .code yJ1_indexOfChar_4cfef cJ1_indexOfChar_4cfef 6 (some .int), .static yJ1_indexOfChar_4cfef, .methodLink RJ1 95 yJ1_indexOfChar_4cfef, .static yJ1_indexOf_4cfef, .methodLink RJ0 637 yJ1_indexOf_4cfef, .instanceMethod yJ0_indexOf_7cf53, .selects RJ0 yJ0_indexOf_7cf53 yJ0_indexOf_7cf53, .methodLink RJ0 633 yJ0_indexOf_7cf53, .instanceMethod yJ0_indexOf_0f7a4, .selects RJ0 yJ0_indexOf_0f7a4 yJ0_indexOf_0f7a4, .methodLink RX3 103 yJ0_indexOf_0f7a4, .code yX3_write cX3_write 3 none, .fieldLink RX3 15 "LeftArguments$LawReader" "used" "I", .fieldLink RX3 11 "LeftArguments$LawReader" "code" "[I", .instanceMethod yX3_write, .selects RX3 yX3_write yX3_write, .methodLink RX3 66 yX3_write, .code yX10_takeNumber cX10_takeNumber 3 (some .boolean), .methodLink RX10 37 yX10_next, .methodLink RX10 45 yX10_isDigit, .methodLink RX10 41 yX10_wrongHere, .fieldLink RX10 25 "LeftArguments$Tape" "number" "I", .code yX10_sign cX10_sign 1 (some .int), .instanceMethod yX10_sign, .selects RX10 yX10_sign yX10_sign, .methodLink RX10 49 yX10_sign, .instanceMethod yX10_takeNumber, .selects RX10 yX10_takeNumber yX10_takeNumber, .methodLink RX3 95 yX10_takeNumber, .code yX10_number cX10_number 1 (some .int), .instanceMethod yX10_number, .selects RX10 yX10_number yX10_number, .methodLink RX3 98 yX10_number, .instanceMethod yX3_readAtom, .selects RX3 yX3_readAtom yX3_readAtom, .methodLink RX3 89 yX3_readAtom, .instanceMethod yX3_readTerm, .selects RX3 yX3_readTerm yX3_readTerm, .methodLink RX3 86 yX3_readTerm, .instanceMethod yX3_readSum, .selects RX3 yX3_readSum yX3_readSum, .methodLink RX3 59 yX3_readSum, .code yX10_take cX10_take 2 (some .boolean), .instanceMethod yX10_take, .selects RX10 yX10_take yX10_take, .methodLink RX3 51 yX10_take, .instanceMethod yX3_readUnit, .selects RX3 yX3_readUnit yX3_readUnit, .methodLink RX3 80 yX3_readUnit, .code yX3_readCondition cX3_readCondition 4 (some .boolean), .instanceMethod yX3_readTruth, .selects RX3 yX3_readTruth yX3_readTruth, .methodLink RX3 74 yX3_readTruth, .instanceMethod yX3_readCondition, .selects RX3 yX3_readCondition yX3_readCondition, .methodLink RX3 70 yX3_readCondition]) [105, 106, 107, 1, 3, 4, 5, 6, 7, 8, 9, 19, 102, 75, 103, 104, 11, 12, 13, 14, 26, 68, 69, 70, 71, 20, 21, 22, 23, 24, 25, 27, 28, 29, 30, 31, 32, 33, 34, 35, 36, 37, 38, 39, 40, 41, 42, 43, 44, 45, 46, 47, 48, 49, 50, 51, 52, 53, 54, 55, 56, 57, 58, 59, 60, 61, 62, 63, 64, 65, 66, 67, 72, 73, 74, 76, 77, 78, 79, 10, 80, 15, 81, 82, 83, 84, 85, 86, 87, 88, 89, 90, 91, 92, 93, 94, 95, 96, 97, 98, 99, 100, 101, 2, 16, 17, 18, 108, 109, 110, 105, 111, 112, 113, 114, 115, 116] rfl (by decide +kernel)) (goodIn_sub (fun _ h => List.mem_cons_of_mem _ (List.mem_append_left _ (List.mem_append_right _ h))) gwX3)) (goodIn_sub (fun _ h => List.mem_cons_of_mem _ (List.mem_append_right _ h)) gwX10))
set_option maxRecDepth 20000 in
theorem g_X3_readClause_9 : GoodIn q_X3_readClause (wsV RX3 51 RX10 yX10_take q_X10_take_4) := goodIn_app (goodIn_r _ [18, 16, 17, 7] rfl (by decide +kernel)) (goodIn_ca (goodIn_r (.code yX10_take cX10_take 2 (some .boolean) :: [.code yX10_next cX10_next 1 (some .int), .fieldLink RX10 19 "LeftArguments$Tape" "at" "I", .fieldLink RX10 15 "LeftArguments$Tape" "used" "I", .fieldLink RX10 9 "LeftArguments$Tape" "bytes" "[I", .initialized RX10, .instanceMethod yX10_next, .selects RX10 yX10_next yX10_next, .methodLink RX10 37 yX10_next, .code yX10_wrongHere cX10_wrongHere 1 (some .boolean), .fieldLink RX10 22 "LeftArguments$Tape" "wrongAt" "I", .instanceMethod yX10_wrongHere, .selects RX10 yX10_wrongHere yX10_wrongHere, .methodLink RX10 41 yX10_wrongHere]) [2, 3, 4, 5, 6, 7, 8, 9, 10, 11, 12, 13, 14, 15] rfl (by decide +kernel)) (goodIn_sub (fun _ h => List.mem_cons_of_mem _ (List.mem_append_right _ h)) gwX10))
set_option maxRecDepth 20000 in
theorem g_X3_readClause_14 : GoodIn q_X3_readClause (wsV RX3 70 RX3 yX3_readCondition q_X3_readCondition_7) := goodIn_app (goodIn_r _ [116, 114, 115, 75] rfl (by decide +kernel)) (goodIn_ca (goodIn_ca (goodIn_r (.code yX3_readCondition cX3_readCondition 4 (some .boolean) :: [.code yX3_readTruth cX3_readTruth 4 (some .boolean), .code yX3_readUnit cX3_readUnit 5 (some .boolean), .fieldLink RX3 19 "LeftArguments$LawReader" "tape" "LLeftArguments$Tape;", .code yX10_next cX10_next 1 (some .int), .fieldLink RX10 19 "LeftArguments$Tape" "at" "I", .fieldLink RX10 15 "LeftArguments$Tape" "used" "I", .fieldLink RX10 9 "LeftArguments$Tape" "bytes" "[I", .initialized RX10, .instanceMethod yX10_next, .selects RX10 yX10_next yX10_next, .methodLink RX3 48 yX10_next, .code yX3_readSum cX3_readSum 4 (some .boolean), .code yX3_readTerm cX3_readTerm 4 (some .boolean), .code yX3_readAtom cX3_readAtom 4 (some .boolean), .code yX10_isDigit cX10_isDigit 1 (some .boolean), .static yX10_isDigit, .methodLink RX3 92 yX10_isDigit, .code yX10_wrongHere cX10_wrongHere 1 (some .boolean), .fieldLink RX10 22 "LeftArguments$Tape" "wrongAt" "I", .instanceMethod yX10_wrongHere, .selects RX10 yX10_wrongHere yX10_wrongHere, .methodLink RX3 83 yX10_wrongHere, .code yJ0_indexOf_0f7a4 cJ0_indexOf_0f7a4 2 (some .int), .code yJ0_indexOf_7cf53 cJ0_indexOf_7cf53 3 (some .int), .code yJ0_isLatin1_aae02 cJ0_isLatin1_aae02 1 (some .boolean), .fieldLink RJ0 38 "java/lang/String" "COMPACT_STRINGS" "Z", .fieldLink RJ0 15 "java/lang/String" "coder" "B", .initialized RJ0, .instanceMethod yJ0_isLatin1_aae02, .selects RJ0 yJ0_isLatin1_aae02 yJ0_isLatin1_aae02, .methodLink RJ0 492 yJ0_isLatin1_aae02, .fieldLink RJ0 9 "java/lang/String" "value" "[B", .code yJ0_length_8abf5 cJ0_length_8abf5 1 (some .int), .code yJ0_coder_7d493 cJ0_coder_7d493 1 (some .byte), .instanceMethod yJ0_coder_7d493, .selects RJ0 yJ0_coder_7d493 yJ0_coder_7d493, .methodLink RJ0 335 yJ0_coder_7d493, .instanceMethod yJ0_length_8abf5, .selects RJ0 yJ0_length_8abf5 yJ0_length_8abf5, .methodLink RJ0 505 yJ0_length_8abf5, .code yJ1_indexOf_4cfef cJ1_indexOf_4cfef 4 (some .int), .code yJ1_canEncode_9a6ad cJ1_canEncode_9a6ad 1 (some .boolean), .initialized RJ1, .static yJ1_canEncode_9a6ad, .methodLink RJ1 88 yJ1_canEncode_9a6ad, .methodLink RJ1 92 Lib.Math.max.name, .static Lib.Math.max.name, .initialized "java/lang/Math", .code Lib.Math.max.name Lib.Math.max.code 2 (some .int), .methodLink RJ1 38 Lib.Math.min.name, .static Lib.Math.min.name, .code Lib.Math.min.name Lib.Math.min.code 2 (some .int), .code yJ1_indexOfChar_4cfef cJ1_indexOfChar_4cfef 6 (some .int), .static yJ1_indexOfChar_4cfef, .methodLink RJ1 95 yJ1_indexOfChar_4cfef, .static yJ1_indexOf_4cfef, .methodLink RJ0 637 yJ1_indexOf_4cfef, .instanceMethod yJ0_indexOf_7cf53, .selects RJ0 yJ0_indexOf_7cf53 yJ0_indexOf_7cf53, .methodLink RJ0 633 yJ0_indexOf_7cf53, .instanceMethod yJ0_indexOf_0f7a4, .selects RJ0 yJ0_indexOf_0f7a4 yJ0_indexOf_0f7a4, .methodLink RX3 103 yJ0_indexOf_0f7a4, .code yX10_step cX10_step 1 none, .instanceMethod yX10_step, .selects RX10 yX10_step yX10_step, .methodLink RX3 77 yX10_step, .code yX3_write cX3_write 3 none, .fieldLink RX3 15 "LeftArguments$LawReader" "used" "I", .fieldLink RX3 11 "LeftArguments$LawReader" "code" "[I", .initialized RX3, .instanceMethod yX3_write, .selects RX3 yX3_write yX3_write, .methodLink RX3 66 yX3_write, .code yX10_takeNumber cX10_takeNumber 3 (some .boolean), .methodLink RX10 37 yX10_next, .methodLink RX10 45 yX10_isDigit, .methodLink RX10 41 yX10_wrongHere, .fieldLink RX10 25 "LeftArguments$Tape" "number" "I", .code yX10_sign cX10_sign 1 (some .int), .instanceMethod yX10_sign, .selects RX10 yX10_sign yX10_sign, .methodLink RX10 49 yX10_sign, .instanceMethod yX10_takeNumber, .selects RX10 yX10_takeNumber yX10_takeNumber, .methodLink RX3 95 yX10_takeNumber, .code yX10_number cX10_number 1 (some .int), .instanceMethod yX10_number, .selects RX10 yX10_number yX10_number, .methodLink RX3 98 yX10_number, .instanceMethod yX3_readAtom, .selects RX3 yX3_readAtom yX3_readAtom, .methodLink RX3 89 yX3_readAtom, .instanceMethod yX3_readTerm, .selects RX3 yX3_readTerm yX3_readTerm, .methodLink RX3 86 yX3_readTerm, .instanceMethod yX3_readSum, .selects RX3 yX3_readSum yX3_readSum, .methodLink RX3 59 yX3_readSum, .code yX10_take cX10_take 2 (some .boolean), .instanceMethod yX10_take, .selects RX10 yX10_take yX10_take, .methodLink RX3 51 yX10_take, .code yX3_comparing cX3_comparing 1 (some .int), .static yX3_comparing, .methodLink RX3 62 yX3_comparing, .instanceMethod yX3_readUnit, .selects RX3 yX3_readUnit yX3_readUnit, .methodLink RX3 80 yX3_readUnit, .code yX3_readCondition cX3_readCondition 4 (some .boolean), .instanceMethod yX3_readTruth, .selects RX3 yX3_readTruth yX3_readTruth, .methodLink RX3 74 yX3_readTruth, .instanceMethod yX3_readCondition, .selects RX3 yX3_readCondition yX3_readCondition, .methodLink RX3 70 yX3_readCondition]) [105, 106, 107, 1, 3, 4, 5, 6, 7, 8, 9, 19, 20, 21, 22, 23, 24, 25, 11, 12, 13, 14, 26, 27, 28, 29, 30, 31, 32, 33, 34, 35, 36, 37, 38, 39, 40, 41, 42, 43, 44, 45, 46, 47, 48, 49, 50, 51, 52, 53, 54, 55, 56, 57, 58, 59, 60, 61, 62, 63, 64, 65, 66, 67, 68, 69, 70, 71, 72, 73, 74, 75, 76, 77, 78, 79, 10, 80, 15, 81, 82, 83, 84, 85, 86, 87, 88, 89, 90, 91, 92, 93, 94, 95, 96, 97, 98, 99, 100, 101, 2, 16, 17, 18, 102, 103, 104, 108, 109, 110, 105, 111, 112, 113, 114, 115, 116] rfl (by decide +kernel)) (goodIn_sub (fun _ h => List.mem_cons_of_mem _ (List.mem_append_left _ (List.mem_append_right _ h))) gwX3)) (goodIn_sub (fun _ h => List.mem_cons_of_mem _ (List.mem_append_right _ h)) gwX10))
set_option maxHeartbeats 4000000 in
set_option maxRecDepth 100000 in
theorem k_X3_readClause (l : Launch) (dC : Nat → ClassId) (dI : Nat → Nat → Nat) (adK : Nat → Nat) (adV : Nat → Nat) (h0 : Nat) (h1 : Nat) (h2 : Nat) (h3 : Nat) (v0 : Int32) (v1 : Int32) (v2 : Int32) (v3 : Int32) (v4 : Int32) (g0 : ClassId) (f5 : Nat → Int32) (g1 : ClassId) (f6 : Nat → Int32) (i_v0 : 0 ≤ v0.toInt ∧ v0.toInt ≤ 256) (i_v1 : 0 ≤ v1.toInt ∧ v1.toInt ≤ 240) (i_v2 : 0 ≤ v2.toInt ∧ v2.toInt ≤ 240) (ia_f5 : (∀ j, 0 ≤ (f5 j).toInt ∧ (f5 j).toInt ≤ 255)) (sz : Nat) : Met l yX3_readClause q_X3_readClause ({ frames := 28, cells := 0, slots := 0, locals := 650 }) (va_Pc [.ref h0] (fun U => U.heap.size = sz ∧ va_P (dC, dI) vwCl (wd_1ad0248d h0 h1 h3 v0 h1 h2 v1 v2 v3 v4 h2 g0 f5 h3 g1 f6) U.heap ∧ va_K (dC, dI) vwCl [(g0, .int), (g1, .int)] U ∧ va_D (fun _ => True) (wd_1ad0248d h0 h1 h3 v0 h1 h2 v1 v2 v3 v4 h2 g0 f5 h3 g1 f6) ∧ vk_R RX3 101 "zaondt" (adK 2) U ∧ va_Z "java/lang/String" "COMPACT_STRINGS" "Z" (.int 1) (va_A (wd_1ad0248d h0 h1 h3 v0 h1 h2 v1 v2 v3 v4 h2 g0 f5 h3 g1 f6) sz) U U.heap ∧ vk_S 3 pv_len3 pv_byt3 adK adV (va_A (wd_1ad0248d h0 h1 h3 v0 h1 h2 v1 v2 v3 v4 h2 g0 f5 h3 g1 f6) sz) U U.heap)) (va_Qi (fun (r : Int32) (r9 : Int32) => r9 = r) (fun (r : Int32) (t : State) => (∃ (o_h0_2 : Int32) (o_h1_2 : Int32) (o_h1_4 : Int32) (o_h3 : Nat → Int32), 0 ≤ o_h0_2.toInt ∧ o_h0_2.toInt ≤ 256 ∧ 0 ≤ o_h1_2.toInt ∧ o_h1_2.toInt ≤ 240 ∧ (1 ≤ r.toInt) ∧ (r.toInt ≤ 1) ∧ (v2.toInt ≤ o_h1_2.toInt) ∧ (pg_clause f5 v1.toInt v2.toInt = (true, o_h1_2.toInt)) ∧ va_P (dC, dI) vwCl (wd_1ad0248d h0 h1 h3 o_h0_2 h1 h2 v1 o_h1_2 v3 o_h1_4 h2 g0 f5 h3 g1 o_h3) t.heap ∧ va_K (dC, dI) vwCl [] t ∧ va_D (va_A (wd_1ad0248d h0 h1 h3 v0 h1 h2 v1 v2 v3 v4 h2 g0 f5 h3 g1 f6) sz) (wd_1ad0248d h0 h1 h3 o_h0_2 h1 h2 v1 o_h1_2 v3 o_h1_4 h2 g0 f5 h3 g1 o_h3)) ∨ (∃ (o_h0_2 : Int32) (o_h1_2 : Int32) (o_h1_3 : Int32) (o_h1_4 : Int32) (o_h3 : Nat → Int32), 0 ≤ o_h0_2.toInt ∧ o_h0_2.toInt ≤ 256 ∧ 0 ≤ o_h1_2.toInt ∧ o_h1_2.toInt ≤ 240 ∧ 0 ≤ o_h1_3.toInt ∧ o_h1_3.toInt ≤ 240 ∧ (0 ≤ r.toInt) ∧ (r.toInt ≤ 0) ∧ (v2.toInt ≤ o_h1_2.toInt) ∧ (pg_clause f5 v1.toInt v2.toInt = (false, o_h1_3.toInt)) ∧ va_P (dC, dI) vwCl (wd_1ad0248d h0 h1 h3 o_h0_2 h1 h2 v1 o_h1_2 o_h1_3 o_h1_4 h2 g0 f5 h3 g1 o_h3) t.heap ∧ va_K (dC, dI) vwCl [] t ∧ va_D (va_A (wd_1ad0248d h0 h1 h3 v0 h1 h2 v1 v2 v3 v4 h2 g0 f5 h3 g1 f6) sz) (wd_1ad0248d h0 h1 h3 o_h0_2 h1 h2 v1 o_h1_2 o_h1_3 o_h1_4 h2 g0 f5 h3 g1 o_h3))) (va_A (wd_1ad0248d h0 h1 h3 v0 h1 h2 v1 v2 v3 v4 h2 g0 f5 h3 g1 f6) sz)) 0 0 (va_A (wd_1ad0248d h0 h1 h3 v0 h1 h2 v1 v2 v3 v4 h2 g0 f5 h3 g1 f6) sz) := by
  refine Met.ofW (cc := cX3_readClause) (maxL := 4) (ret := (some .boolean)) (by decide) rfl ?_
  intro p e s m args below meth c s₁ B hml hv
  obtain ⟨i_v0a, i_v0b⟩ := i_v0
  obtain ⟨i_v1a, i_v1b⟩ := i_v1
  obtain ⟨i_v2a, i_v2b⟩ := i_v2
  obtain ⟨rfl, hsz, hP, hK, hD0, h_vr_2, h_st_CS, h_st_S⟩ := hv
  have hx := B.exec
  have hb := B.bytes
  have hr := B.returns
  have hts := atoms_spec (ws := q_X3_readClause) B.pre
  have hown : s.vm.findClass RX3 = some m.cls := findClass_of_methodNamed B.named
  have hlocks := B.notSynchronized
  subst hsz
  have hD := hD0.self (sz := s.heap.size)
  generalize hAe : va_A (wd_1ad0248d h0 h1 h3 v0 h1 h2 v1 v2 v3 v4 h2 g0 f5 h3 g1 f6) s.heap.size = A at hD h_st_CS h_st_S ⊢
  have hA : ∀ q : Nat, s.heap.size ≤ q → A q := fun q h => by rw [← hAe]; exact Or.inr h
  have hS : va_S A s.heap s.heap [] := va_S.rf
  generalize hQ : (MQ below _ _ s 0 0 A) = Q
  have hl := lv_entry ([.ref h0]) (n := 4) (Nat.le_of_ble_eq_true rfl)
  rw [lg_entry_eq]
  generalize (lg_sl ([.ref h0]) ++ List.replicate (4 - (lg_sl ([.ref h0])).length) Slot.unset).toArray = ls at hl ⊢
  have hl : lv_has ls 4 [(0, .ref h0)] := hl
  obtain ⟨H, hH⟩ : ∃ H : Heap, H = s.heap := ⟨_, rfl⟩
  obtain ⟨locs, hlocs⟩ : ∃ y : List Loc, y = [] := ⟨_, rfl⟩
  have hS : va_S A s.heap H locs := by rw [hH, hlocs]; exact va_S.rf
  have hP : va_P (dC, dI) vwCl (wd_1ad0248d h0 h1 h3 v0 h1 h2 v1 v2 v3 v4 h2 g0 f5 h3 g1 f6) H := by rw [hH]; exact hP
  rw [← hH, ← hlocs]
  refine lv_aload_n hx hb dX3_readClause_0 rfl (lv_at hl 0 rfl) ?_
  refine va_get (D := (dC, dI)) (ci := 3) (v := .ref h1) (C := RX3) (T := TX3) (N := 3) hx hb hts (fun _ h => List.mem_cons_of_mem _ (List.mem_append_left _ (List.mem_append_right _ h))) hown hK hP 0 rfl rfl 0 (by decide) (hts (.fieldLink RX3 19 "LeftArguments$LawReader" "tape" "LLeftArguments$Tape;") (List.mem_cons_of_mem _ (List.mem_append_left _ (List.mem_append_left _ (List.mem_of_getElem? (i := 0) rfl))))) (fun _ h9 => h9) rfl dX3_readClause_1 ?_
  refine lv_bipush (v := 121) hx hb dX3_readClause_4 (by decide) ?_
  have hPc := hP.sub (ws' := (wd_82cdd16b h1 h2 v1 v2 v3 v4 h2 g0 f5)) [1, 2] rfl
  have hDc := hD.sub (ws' := (wd_82cdd16b h1 h2 v1 v2 v3 v4 h2 g0 f5)) [1, 2] (by decide) rfl
  have hKc := hK.sub (tys' := [(g0, .int)]) [0] rfl
  have hFc := va_free (wc := (wd_82cdd16b h1 h2 v1 v2 v3 v4 h2 g0 f5)) hD hS hA [1, 2] rfl
  refine va_calli (va_runV (As := [.int 121]) (rest := []) ⟨hx, hb, hml, hown, hts⟩ (k_X10_take l dC dI h1 h2 v1 v2 v3 v4 g0 f5 ⟨i_v1a, i_v1b⟩ ⟨i_v2a, i_v2b⟩ ia_f5 H.size) (cwV 1 hts g_X3_readClause_0 rfl rfl rfl (by decide +kernel) ⟨Nat.le_of_ble_eq_true rfl, Nat.le_of_ble_eq_true rfl⟩) (pv_PV10 hPc hKc hDc (q0 := 0) rfl) rfl rfl hl.1 rfl (lv_room (Nat.le_of_ble_eq_true rfl)) dX3_readClause_6 ⟨Nat.le_of_ble_eq_true rfl, Nat.le_of_ble_eq_true rfl⟩) hS (fun q _ h => hFc q h) hFc (fun ra1 u t H1 locs ht hvm hwra1 hB hz1 hk1 hS => ?_)
  try rw [hwra1] at hB
  rcases hB with hB | hB
  · skip
    obtain ⟨x2, oa_x2, ob_x2, pt0_ra1, pt1_ra1, pt2_ra1, pt3_ra1, hP1, hK1, hD1⟩ := hB
    rw [ht] at hP1
    obtain ⟨hP2, hD2⟩ := va_join (wr := (wd_b958b9da h0 h1 h3 v0 h3 g1 f6)) (w1 := (wd_82cdd16b h1 h2 v1 x2 v3 v4 h2 g0 f5)) hP hD [1, 2] [0, 3] rfl rfl (by decide) (by decide) hk1 hFc hP1 hD1
    clear hP hD hPc hDc hKc hFc hP1 hK1 hD1 hk1 hz1
    generalize H1 = H at hP2 hS ⊢
    have hP := hP2.sub (ws' := (wd_1ad0248d h0 h1 h3 v0 h1 h2 v1 x2 v3 v4 h2 g0 f5 h3 g1 f6)) [0, 2, 3, 1] rfl
    have hD := hD2.sub (ws' := (wd_1ad0248d h0 h1 h3 v0 h1 h2 v1 x2 v3 v4 h2 g0 f5 h3 g1 f6)) [0, 2, 3, 1] (by decide) rfl
    clear hP2 hD2
    obtain rfl : ra1 = (1 : Int32) := pv_cs (by decide) pt0_ra1 pt1_ra1
    refine lv_if_eq (tgt := 24) hx hb dX3_readClause_9 (by decide) (fun c => absurd c (by decide)) (fun _ => ?_)
    refine lv_aload_n hx hb dX3_readClause_12 rfl (lv_at hl 0 rfl) ?_
    refine va_get (D := (dC, dI)) (ci := 3) (v := .ref h1) (C := RX3) (T := TX3) (N := 3) hx hb hts (fun _ h => List.mem_cons_of_mem _ (List.mem_append_left _ (List.mem_append_right _ h))) hown hK hP 0 rfl rfl 0 (by decide) (hts (.fieldLink RX3 19 "LeftArguments$LawReader" "tape" "LLeftArguments$Tape;") (List.mem_cons_of_mem _ (List.mem_append_left _ (List.mem_append_left _ (List.mem_of_getElem? (i := 0) rfl))))) (fun _ h9 => h9) rfl dX3_readClause_13 ?_
    refine lv_bipush (v := 58) hx hb dX3_readClause_16 (by decide) ?_
    have hPc := hP.sub (ws' := (wd_82cdd16b h1 h2 v1 x2 v3 v4 h2 g0 f5)) [1, 2] rfl
    have hDc := hD.sub (ws' := (wd_82cdd16b h1 h2 v1 x2 v3 v4 h2 g0 f5)) [1, 2] (by decide) rfl
    have hKc := hK.sub (tys' := [(g0, .int)]) [0] rfl
    have hFc := va_free (wc := (wd_82cdd16b h1 h2 v1 x2 v3 v4 h2 g0 f5)) hD hS hA [1, 2] rfl
    refine va_calli (va_runV (As := [.int 58]) (rest := []) ⟨hx, hb, hml, hown, hts⟩ (k_X10_take_1 l dC dI h1 h2 v1 x2 v3 v4 g0 f5 ⟨i_v1a, i_v1b⟩ ⟨by first | omega | decide, ob_x2⟩ ia_f5 H.size) (cwV 1 hts g_X3_readClause_1 rfl rfl rfl (by decide +kernel) ⟨Nat.le_of_ble_eq_true rfl, Nat.le_of_ble_eq_true rfl⟩) (pv_PV10 hPc hKc hDc (q0 := 0) rfl) rfl rfl hl.1 rfl (lv_room (Nat.le_of_ble_eq_true rfl)) dX3_readClause_18 ⟨Nat.le_of_ble_eq_true rfl, Nat.le_of_ble_eq_true rfl⟩) hS (fun q _ h => hFc q h) hFc (fun ra3 u t H1 locs ht hvm hwra3 hB hz1 hk1 hS => ?_)
    try rw [hwra3] at hB
    rcases hB with hB | hB
    · skip
      obtain ⟨x4, oa_x4, ob_x4, pt0_ra3, pt1_ra3, pt2_ra3, pt3_ra3, hP1, hK1, hD1⟩ := hB
      rw [ht] at hP1
      obtain ⟨hP2, hD2⟩ := va_join (wr := (wd_b958b9da h0 h1 h3 v0 h3 g1 f6)) (w1 := (wd_82cdd16b h1 h2 v1 x4 v3 v4 h2 g0 f5)) hP hD [1, 2] [0, 3] rfl rfl (by decide) (by decide) hk1 hFc hP1 hD1
      clear hP hD hPc hDc hKc hFc hP1 hK1 hD1 hk1 hz1
      generalize H1 = H at hP2 hS ⊢
      have hP := hP2.sub (ws' := (wd_1ad0248d h0 h1 h3 v0 h1 h2 v1 x4 v3 v4 h2 g0 f5 h3 g1 f6)) [0, 2, 3, 1] rfl
      have hD := hD2.sub (ws' := (wd_1ad0248d h0 h1 h3 v0 h1 h2 v1 x4 v3 v4 h2 g0 f5 h3 g1 f6)) [0, 2, 3, 1] (by decide) rfl
      clear hP2 hD2
      obtain rfl : ra3 = (1 : Int32) := pv_cs (by decide) pt0_ra3 pt1_ra3
      refine lv_if_ne (tgt := 26) hx hb dX3_readClause_21 (by decide) (fun _ => ?_) (fun c => absurd c (by decide))
      refine lv_aload_n hx hb dX3_readClause_26 rfl (lv_at hl 0 rfl) ?_
      refine va_get (D := (dC, dI)) (ci := 3) (v := .ref h1) (C := RX3) (T := TX3) (N := 3) hx hb hts (fun _ h => List.mem_cons_of_mem _ (List.mem_append_left _ (List.mem_append_right _ h))) hown hK hP 0 rfl rfl 0 (by decide) (hts (.fieldLink RX3 19 "LeftArguments$LawReader" "tape" "LLeftArguments$Tape;") (List.mem_cons_of_mem _ (List.mem_append_left _ (List.mem_append_left _ (List.mem_of_getElem? (i := 0) rfl))))) (fun _ h9 => h9) rfl dX3_readClause_27 ?_
      have hPc := hP.sub (ws' := (wd_82cdd16b h1 h2 v1 x4 v3 v4 h2 g0 f5)) [1, 2] rfl
      have hDc := hD.sub (ws' := (wd_82cdd16b h1 h2 v1 x4 v3 v4 h2 g0 f5)) [1, 2] (by decide) rfl
      have hKc := hK.sub (tys' := [(g0, .int)]) [0] rfl
      have hFc := va_free (wc := (wd_82cdd16b h1 h2 v1 x4 v3 v4 h2 g0 f5)) hD hS hA [1, 2] rfl
      refine va_calli (va_runV (As := []) (rest := []) ⟨hx, hb, hml, hown, hts⟩ (k_X10_next l dC dI h1 h2 v1 x4 v3 v4 g0 f5 ⟨i_v1a, i_v1b⟩ ⟨by first | omega | decide, ob_x4⟩ ia_f5 H.size) (cwV 0 hts g_X3_readClause_2 rfl rfl rfl (by decide +kernel) ⟨Nat.le_of_ble_eq_true rfl, Nat.le_of_ble_eq_true rfl⟩) (pv_PV10 hPc hKc hDc (q0 := 0) rfl) rfl rfl hl.1 rfl (lv_room (Nat.le_of_ble_eq_true rfl)) dX3_readClause_30 ⟨Nat.le_of_ble_eq_true rfl, Nat.le_of_ble_eq_true rfl⟩) hS (fun q _ h => hFc q h) hFc (fun ra5 u t H1 locs ht hvm hwra5 hB hz1 hk1 hS => ?_)
      try rw [hwra5] at hB
      rcases hB with hB | hB
      · skip
        obtain ⟨x6, oa_x6, ob_x6, pt0_ra5, pt1_ra5, pt2_ra5, pt3_ra5, pt4_ra5, pt5_ra5, pt6_ra5, hP1, hK1, hD1⟩ := hB
        rw [ht] at hP1
        obtain ⟨hP2, hD2⟩ := va_join (wr := (wd_b958b9da h0 h1 h3 v0 h3 g1 f6)) (w1 := (wd_82cdd16b h1 h2 v1 x6 v3 v4 h2 g0 f5)) hP hD [1, 2] [0, 3] rfl rfl (by decide) (by decide) hk1 hFc hP1 hD1
        clear hP hD hPc hDc hKc hFc hP1 hK1 hD1 hk1 hz1
        generalize H1 = H at hP2 hS ⊢
        have hP := hP2.sub (ws' := (wd_1ad0248d h0 h1 h3 v0 h1 h2 v1 x6 v3 v4 h2 g0 f5 h3 g1 f6)) [0, 2, 3, 1] rfl
        have hD := hD2.sub (ws' := (wd_1ad0248d h0 h1 h3 v0 h1 h2 v1 x6 v3 v4 h2 g0 f5 h3 g1 f6)) [0, 2, 3, 1] (by decide) rfl
        clear hP2 hD2
        obtain rfl : ra5 = ((-1) : Int32) := pv_cs (by decide) pt0_ra5 pt1_ra5
        refine lv_istore_n (lv' := [(1, .int (-1)), (0, .ref h0)]) hx hb dX3_readClause_33 rfl hl (by decide) rfl (fun ls hl => ?_)
        refine lv_iload_n hx hb dX3_readClause_34 rfl (lv_at hl 0 rfl) ?_
        refine lv_bipush (v := 33) hx hb dX3_readClause_35 (by decide) ?_
        refine lv_icmp_eq (tgt := 50) hx hb dX3_readClause_37 (by decide) (fun c => absurd c (by decide)) (fun _ => ?_)
        refine lv_iload_n hx hb dX3_readClause_40 rfl (lv_at hl 0 rfl) ?_
        refine lv_bipush (v := 40) hx hb dX3_readClause_41 (by decide) ?_
        refine lv_icmp_eq (tgt := 50) hx hb dX3_readClause_43 (by decide) (fun c => absurd c (by decide)) (fun _ => ?_)
        refine lv_iconst (v := 1) hx hb dX3_readClause_46 (by decide) ?_
        refine lv_goto (tgt := 51) hx hb dX3_readClause_47 (by decide) ?_
        refine lv_istore_n (lv' := [(2, .int 1), (1, .int (-1)), (0, .ref h0)]) hx hb dX3_readClause_51 rfl hl (by decide) rfl (fun ls hl => ?_)
        refine lv_iload_n hx hb dX3_readClause_52 rfl (lv_at hl 0 rfl) ?_
        refine lv_if_eq (tgt := 89) hx hb dX3_readClause_53 (by decide) (fun c => absurd c (by decide)) (fun _ => ?_)
        refine lv_aload_n hx hb dX3_readClause_56 rfl (lv_at hl 2 rfl) ?_
        refine lv_iconst (v := 0) hx hb dX3_readClause_57 (by decide) ?_
        have hPc := hP.sub (ws' := (wd_1ad0248d h0 h1 h3 v0 h1 h2 v1 x6 v3 v4 h2 g0 f5 h3 g1 f6)) [0, 1, 2, 3] rfl
        have hDc := hD.sub (ws' := (wd_1ad0248d h0 h1 h3 v0 h1 h2 v1 x6 v3 v4 h2 g0 f5 h3 g1 f6)) [0, 1, 2, 3] (by decide) rfl
        have hKc := hK.sub (tys' := [(g0, .int), (g1, .int)]) [0, 1] rfl
        have hFc := va_free (wc := (wd_1ad0248d h0 h1 h3 v0 h1 h2 v1 x6 v3 v4 h2 g0 f5 h3 g1 f6)) hD hS hA [0, 1, 2, 3] rfl
        refine va_calli (va_runV (As := [.int 0]) (rest := []) ⟨hx, hb, hml, hown, hts⟩ (k_X3_readSum_6 l dC dI adK adV h0 h1 h2 h3 v0 v1 x6 v3 v4 g0 f5 g1 f6 ⟨i_v0a, i_v0b⟩ ⟨i_v1a, i_v1b⟩ ⟨oa_x6, ob_x6⟩ ia_f5 H.size) (cwV 1 hts g_X3_readClause_3 rfl rfl rfl (by decide +kernel) ⟨Nat.le_of_ble_eq_true rfl, Nat.le_of_ble_eq_true rfl⟩) ⟨fun a U g mk q => by obtain ⟨q0, q1, qP, qK, qD, n0, n1, n2⟩ := q; exact ⟨q0, q1, qP, va_K.moved (u := U) (U := U.calling g mk a) (Vm.Alike.refl U.vm) qK, qD, vk_R.same rfl n0, va_Z.moved (Vm.Alike.refl _) n1, vk_S.moved (Vm.Alike.refl _) n2⟩, pv_rc3 hKc hPc (q0 := 0) rfl, fun U hU hW => ⟨rfl, by rw [hU], by rw [hU]; exact hPc, va_K.moved hW.alike hKc, hDc.weaken (fun _ _ _ _ => trivial), vk_R.warm hW h_vr_2, (by rw [hU]; exact (va_Z.moved hW.alike (va_Z.kept h_st_CS hS.2.1)).narrow hFc), (by rw [hU]; exact (vk_S.moved hW.alike (vk_S.kept h_st_S hS.2.1)).narrow hFc)⟩⟩ rfl rfl hl.1 rfl (lv_room (Nat.le_of_ble_eq_true rfl)) dX3_readClause_58 ⟨Nat.le_of_ble_eq_true rfl, Nat.le_of_ble_eq_true rfl⟩) hS (fun q _ h => hFc q h) hFc (fun ra7 u t H1 locs ht hvm hwra7 hB hz1 hk1 hS => ?_)
        try rw [hwra7] at hB
        rcases hB with hB | hB
        · skip
          obtain ⟨x8, x9, x10, fn11, oa_x8, ob_x8, oa_x9, ob_x9, pt0_ra7, pt1_ra7, pt2_ra7, pt3_ra7, hP1, hK1, hD1⟩ := hB
          rw [ht] at hP1
          obtain ⟨hP2, hD2⟩ := va_join (wr := []) (w1 := (wd_1ad0248d h0 h1 h3 x8 h1 h2 v1 x9 v3 x10 h2 g0 f5 h3 g1 fn11)) hP hD [0, 1, 2, 3] [] rfl rfl (by decide) (by decide) hk1 hFc hP1 hD1
          clear hP hD hPc hDc hKc hFc hP1 hK1 hD1 hk1 hz1
          generalize H1 = H at hP2 hS ⊢
          have hP : va_P (dC, dI) vwCl (wd_1ad0248d h0 h1 h3 x8 h1 h2 v1 x9 v3 x10 h2 g0 f5 h3 g1 fn11) H := hP2
          have hD : va_D A (wd_1ad0248d h0 h1 h3 x8 h1 h2 v1 x9 v3 x10 h2 g0 f5 h3 g1 fn11) := hD2
          clear hP2 hD2
          obtain rfl : ra7 = (1 : Int32) := pv_cs (by decide) pt0_ra7 pt1_ra7
          refine lv_if_ne (tgt := 66) hx hb dX3_readClause_61 (by decide) (fun _ => ?_) (fun c => absurd c (by decide))
          refine lv_aload_n hx hb dX3_readClause_66 rfl (lv_at hl 2 rfl) ?_
          refine va_get (D := (dC, dI)) (ci := 3) (v := .ref h1) (C := RX3) (T := TX3) (N := 3) hx hb hts (fun _ h => List.mem_cons_of_mem _ (List.mem_append_left _ (List.mem_append_right _ h))) hown hK hP 0 rfl rfl 0 (by decide) (hts (.fieldLink RX3 19 "LeftArguments$LawReader" "tape" "LLeftArguments$Tape;") (List.mem_cons_of_mem _ (List.mem_append_left _ (List.mem_append_left _ (List.mem_of_getElem? (i := 0) rfl))))) (fun _ h9 => h9) rfl dX3_readClause_67 ?_
          have hPc := hP.sub (ws' := (wd_82cdd16b h1 h2 v1 x9 v3 x10 h2 g0 f5)) [1, 2] rfl
          have hDc := hD.sub (ws' := (wd_82cdd16b h1 h2 v1 x9 v3 x10 h2 g0 f5)) [1, 2] (by decide) rfl
          have hKc := hK.sub (tys' := [(g0, .int)]) [0] rfl
          have hFc := va_free (wc := (wd_82cdd16b h1 h2 v1 x9 v3 x10 h2 g0 f5)) hD hS hA [1, 2] rfl
          refine va_calli (va_runV (As := []) (rest := []) ⟨hx, hb, hml, hown, hts⟩ (k_X10_next l dC dI h1 h2 v1 x9 v3 x10 g0 f5 ⟨i_v1a, i_v1b⟩ ⟨oa_x9, ob_x9⟩ ia_f5 H.size) (cwV 0 hts g_X3_readClause_2 rfl rfl rfl (by decide +kernel) ⟨Nat.le_of_ble_eq_true rfl, Nat.le_of_ble_eq_true rfl⟩) (pv_PV10 hPc hKc hDc (q0 := 0) rfl) rfl rfl hl.1 rfl (lv_room (Nat.le_of_ble_eq_true rfl)) dX3_readClause_70 ⟨Nat.le_of_ble_eq_true rfl, Nat.le_of_ble_eq_true rfl⟩) hS (fun q _ h => hFc q h) hFc (fun ra12 u t H1 locs ht hvm hwra12 hB hz1 hk1 hS => ?_)
          try rw [hwra12] at hB
          rcases hB with hB | hB
          · skip
            obtain ⟨x13, oa_x13, ob_x13, pt0_ra12, pt1_ra12, pt2_ra12, pt3_ra12, pt4_ra12, pt5_ra12, pt6_ra12, hP1, hK1, hD1⟩ := hB
            rw [ht] at hP1
            obtain ⟨hP2, hD2⟩ := va_join (wr := (wd_b958b9da h0 h1 h3 x8 h3 g1 fn11)) (w1 := (wd_82cdd16b h1 h2 v1 x13 v3 x10 h2 g0 f5)) hP hD [1, 2] [0, 3] rfl rfl (by decide) (by decide) hk1 hFc hP1 hD1
            clear hP hD hPc hDc hKc hFc hP1 hK1 hD1 hk1 hz1
            generalize H1 = H at hP2 hS ⊢
            have hP := hP2.sub (ws' := (wd_1ad0248d h0 h1 h3 x8 h1 h2 v1 x13 v3 x10 h2 g0 f5 h3 g1 fn11)) [0, 2, 3, 1] rfl
            have hD := hD2.sub (ws' := (wd_1ad0248d h0 h1 h3 x8 h1 h2 v1 x13 v3 x10 h2 g0 f5 h3 g1 fn11)) [0, 2, 3, 1] (by decide) rfl
            clear hP2 hD2
            obtain rfl : ra12 = ((-1) : Int32) := pv_cs (by decide) pt0_ra12 pt1_ra12
            have hPc := hP.sub (ws' := []) [] rfl
            have hDc := hD.sub (ws' := []) [] (by decide) rfl
            have hKc := hK.sub (tys' := []) [] rfl
            have hFc := va_free (wc := []) hD hS hA [] rfl
            refine va_calli (va_runS (As := [.int (-1)]) (rest := []) ⟨hx, hb, hml, hown, hts⟩ (k_X3_comparing l dC dI   H.size) (va_cwS 1 hts g_X3_readClause_5 rfl rfl rfl (by decide +kernel) ⟨Nat.le_of_ble_eq_true rfl, Nat.le_of_ble_eq_true rfl⟩) (pv_PS hPc hKc hDc) rfl rfl hl.1 rfl (lv_room (Nat.le_of_ble_eq_true rfl)) dX3_readClause_73 ⟨Nat.le_of_ble_eq_true rfl, Nat.le_of_ble_eq_true rfl⟩) hS (fun q _ h => hFc q h) hFc (fun ra14 u t H1 locs ht hvm hwra14 hB hz1 hk1 hS => ?_)
            try rw [hwra14] at hB
            obtain ⟨pt0_ra14, pt1_ra14, hP1, hK1, hD1⟩ := hB
            rw [ht] at hP1
            obtain ⟨hP2, hD2⟩ := va_join (wr := (wd_1ad0248d h0 h1 h3 x8 h1 h2 v1 x13 v3 x10 h2 g0 f5 h3 g1 fn11)) (w1 := []) hP hD [] [0, 1, 2, 3] rfl rfl (by decide) (by decide) hk1 hFc hP1 hD1
            clear hP hD hPc hDc hKc hFc hP1 hK1 hD1 hk1 hz1
            generalize H1 = H at hP2 hS ⊢
            have hP : va_P (dC, dI) vwCl (wd_1ad0248d h0 h1 h3 x8 h1 h2 v1 x13 v3 x10 h2 g0 f5 h3 g1 fn11) H := hP2
            have hD : va_D A (wd_1ad0248d h0 h1 h3 x8 h1 h2 v1 x13 v3 x10 h2 g0 f5 h3 g1 fn11) := hD2
            clear hP2 hD2
            obtain rfl : ra14 = ((-1) : Int32) := pv_cs (by decide) pt0_ra14 pt1_ra14
            refine lv_iconst (v := (-1)) hx hb dX3_readClause_76 (by decide) ?_
            refine lv_icmp_ne (tgt := 89) hx hb dX3_readClause_77 (by decide) (fun c => absurd (by decide) c) (fun _ => ?_)
            refine lv_aload_n hx hb dX3_readClause_80 rfl (lv_at hl 2 rfl) ?_
            refine lv_bipush (v := 13) hx hb dX3_readClause_81 (by decide) ?_
            refine lv_iconst (v := 0) hx hb dX3_readClause_83 (by decide) ?_
            have hPc := hP.sub (ws' := (wd_b958b9da h0 h1 h3 x8 h3 g1 fn11)) [0, 3] rfl
            have hDc := hD.sub (ws' := (wd_b958b9da h0 h1 h3 x8 h3 g1 fn11)) [0, 3] (by decide) rfl
            have hKc := hK.sub (tys' := [(g1, .int)]) [1] rfl
            have hFc := va_free (wc := (wd_b958b9da h0 h1 h3 x8 h3 g1 fn11)) hD hS hA [0, 3] rfl
            refine va_callv (va_runV (As := [.int 13, .int 0]) (rest := []) ⟨hx, hb, hml, hown, hts⟩ (k_X3_write l dC dI h0 h3 h1 x8 g1 fn11 13 0 ⟨oa_x8, ob_x8⟩ H.size) (cwV 2 hts g_X3_readClause_6 rfl rfl rfl (by decide +kernel) ⟨Nat.le_of_ble_eq_true rfl, Nat.le_of_ble_eq_true rfl⟩) (pv_PV3 hPc hKc hDc (q0 := 0) rfl) rfl rfl hl.1 rfl (lv_room (Nat.le_of_ble_eq_true rfl)) dX3_readClause_84 ⟨Nat.le_of_ble_eq_true rfl, Nat.le_of_ble_eq_true rfl⟩) hS (fun q _ h => hFc q h) hFc (fun u t H1 locs ht hvm hwra15 hB hz1 hk1 hS => ?_)
            obtain ⟨x16, fn17, oa_x16, ob_x16, hP1, hK1, hD1⟩ := hB
            rw [ht] at hP1
            obtain ⟨hP2, hD2⟩ := va_join (wr := (wd_82cdd16b h1 h2 v1 x13 v3 x10 h2 g0 f5)) (w1 := (wd_b958b9da h0 h1 h3 x16 h3 g1 fn17)) hP hD [0, 3] [1, 2] rfl rfl (by decide) (by decide) hk1 hFc hP1 hD1
            clear hP hD hPc hDc hKc hFc hP1 hK1 hD1 hk1 hz1
            generalize H1 = H at hP2 hS ⊢
            have hP := hP2.sub (ws' := (wd_1ad0248d h0 h1 h3 x16 h1 h2 v1 x13 v3 x10 h2 g0 f5 h3 g1 fn17)) [2, 0, 1, 3] rfl
            have hD := hD2.sub (ws' := (wd_1ad0248d h0 h1 h3 x16 h1 h2 v1 x13 v3 x10 h2 g0 f5 h3 g1 fn17)) [2, 0, 1, 3] (by decide) rfl
            clear hP2 hD2
            refine lv_iconst (v := 1) hx hb dX3_readClause_87 (by decide) ?_
            subst hQ
            have hP9 := hP.sub (ws' := (wd_1ad0248d h0 h1 h3 x16 h1 h2 v1 x13 v3 x10 h2 g0 f5 h3 g1 fn17)) [0, 1, 2, 3] rfl
            have hD9 := hD.sub (ws' := (wd_1ad0248d h0 h1 h3 x16 h1 h2 v1 x13 v3 x10 h2 g0 f5 h3 g1 fn17)) [0, 1, 2, 3] (by decide) rfl
            have hK9 := hK.sub (tys' := []) [] rfl
            exact W.zret (v := 1) hx hb hr rfl (fun t ht hW => ⟨⟨1, 1, rfl, rfl, Or.inl ⟨x16, x13, x10, fn17, oa_x16, ob_x16, oa_x13, ob_x13, by first | omega | decide, by first | omega | decide, by omega, by first | (apply pg_clause.x0 <;> first | assumption | omega | (apply pg_tail.ok <;> first | assumption | omega) | (apply pg_tail.no <;> first | assumption | omega)) | (apply pg_clause.x1 <;> first | assumption | omega | (apply pg_tail.ok <;> first | assumption | omega) | (apply pg_tail.no <;> first | assumption | omega)) | (apply pg_clause.x2 <;> first | assumption | omega | (apply pg_tail.ok <;> first | assumption | omega) | (apply pg_tail.no <;> first | assumption | omega)) | (apply pg_clause.x3 <;> first | assumption | omega | (apply pg_tail.ok <;> first | assumption | omega) | (apply pg_tail.no <;> first | assumption | omega)) | (apply pg_clause.x4 <;> first | assumption | omega | (apply pg_tail.ok <;> first | assumption | omega) | (apply pg_tail.no <;> first | assumption | omega)) | (apply pg_clause.x5 <;> first | assumption | omega | (apply pg_tail.ok <;> first | assumption | omega) | (apply pg_tail.no <;> first | assumption | omega)) | (apply pg_clause.x7 <;> first | assumption | omega | (apply pg_tail.ok <;> first | assumption | omega) | (apply pg_tail.no <;> first | assumption | omega)) | (apply pg_clause.x8 <;> first | assumption | omega | (apply pg_tail.ok <;> first | assumption | omega) | (apply pg_tail.no <;> first | assumption | omega)), by rw [ht]; exact hP9, va_K.moved hW.alike hK9, hD9⟩⟩, hS.F ht⟩) hS.2.2 dX3_readClause_88
          · skip
            obtain ⟨x18, oa_x18, ob_x18, pt0_ra12, pt1_ra12, pt2_ra12, pt3_ra12, pt4_ra12, pt5_ra12, pt6_ra12, hP1, hK1, hD1⟩ := hB
            rw [ht] at hP1
            obtain ⟨hP2, hD2⟩ := va_join (wr := (wd_b958b9da h0 h1 h3 x8 h3 g1 fn11)) (w1 := (wd_82cdd16b h1 h2 v1 x18 v3 x10 h2 g0 f5)) hP hD [1, 2] [0, 3] rfl rfl (by decide) (by decide) hk1 hFc hP1 hD1
            clear hP hD hPc hDc hKc hFc hP1 hK1 hD1 hk1 hz1
            generalize H1 = H at hP2 hS ⊢
            have hP := hP2.sub (ws' := (wd_1ad0248d h0 h1 h3 x8 h1 h2 v1 x18 v3 x10 h2 g0 f5 h3 g1 fn11)) [0, 2, 3, 1] rfl
            have hD := hD2.sub (ws' := (wd_1ad0248d h0 h1 h3 x8 h1 h2 v1 x18 v3 x10 h2 g0 f5 h3 g1 fn11)) [0, 2, 3, 1] (by decide) rfl
            clear hP2 hD2
            have hPc := hP.sub (ws' := []) [] rfl
            have hDc := hD.sub (ws' := []) [] (by decide) rfl
            have hKc := hK.sub (tys' := []) [] rfl
            have hFc := va_free (wc := []) hD hS hA [] rfl
            refine va_calli (va_runS (As := [.int ra12]) (rest := []) ⟨hx, hb, hml, hown, hts⟩ (k_X3_comparing_1 l dC dI ra12  H.size) (va_cwS 1 hts g_X3_readClause_7 rfl rfl rfl (by decide +kernel) ⟨Nat.le_of_ble_eq_true rfl, Nat.le_of_ble_eq_true rfl⟩) (pv_PS hPc hKc hDc) rfl rfl hl.1 rfl (lv_room (Nat.le_of_ble_eq_true rfl)) dX3_readClause_73 ⟨Nat.le_of_ble_eq_true rfl, Nat.le_of_ble_eq_true rfl⟩) hS (fun q _ h => hFc q h) hFc (fun ra19 u t H1 locs ht hvm hwra19 hB hz1 hk1 hS => ?_)
            try rw [hwra19] at hB
            obtain ⟨pt0_ra19, pt1_ra19, pt2_ra19, hP1, hK1, hD1⟩ := hB
            rw [ht] at hP1
            obtain ⟨hP2, hD2⟩ := va_join (wr := (wd_1ad0248d h0 h1 h3 x8 h1 h2 v1 x18 v3 x10 h2 g0 f5 h3 g1 fn11)) (w1 := []) hP hD [] [0, 1, 2, 3] rfl rfl (by decide) (by decide) hk1 hFc hP1 hD1
            clear hP hD hPc hDc hKc hFc hP1 hK1 hD1 hk1 hz1
            generalize H1 = H at hP2 hS ⊢
            have hP : va_P (dC, dI) vwCl (wd_1ad0248d h0 h1 h3 x8 h1 h2 v1 x18 v3 x10 h2 g0 f5 h3 g1 fn11) H := hP2
            have hD : va_D A (wd_1ad0248d h0 h1 h3 x8 h1 h2 v1 x18 v3 x10 h2 g0 f5 h3 g1 fn11) := hD2
            clear hP2 hD2
            refine lv_iconst (v := (-1)) hx hb dX3_readClause_76 (by decide) ?_
            refine lv_icmp_ne (tgt := 89) hx hb dX3_readClause_77 (by decide) (fun c20 => ?_) (fun c20 => ?_)
            · skip
              have fc20 : ¬ (ra19.toInt = (-1)) := fun h9 => c20 (Int32.toInt_inj.mp h9)
              refine lv_aload_n hx hb dX3_readClause_89 rfl (lv_at hl 2 rfl) ?_
              refine lv_iconst (v := 0) hx hb dX3_readClause_90 (by decide) ?_
              refine lv_iload_n hx hb dX3_readClause_91 rfl (lv_at hl 0 rfl) ?_
              have hPc := hP.sub (ws' := (wd_1ad0248d h0 h1 h3 x8 h1 h2 v1 x18 v3 x10 h2 g0 f5 h3 g1 fn11)) [0, 1, 2, 3] rfl
              have hDc := hD.sub (ws' := (wd_1ad0248d h0 h1 h3 x8 h1 h2 v1 x18 v3 x10 h2 g0 f5 h3 g1 fn11)) [0, 1, 2, 3] (by decide) rfl
              have hKc := hK.sub (tys' := [(g0, .int), (g1, .int)]) [0, 1] rfl
              have hFc := va_free (wc := (wd_1ad0248d h0 h1 h3 x8 h1 h2 v1 x18 v3 x10 h2 g0 f5 h3 g1 fn11)) hD hS hA [0, 1, 2, 3] rfl
              refine va_calli (va_runV (As := [.int 0, .int 1]) (rest := []) ⟨hx, hb, hml, hown, hts⟩ (k_X3_readCondition_6 l dC dI adK adV h0 h1 h2 h3 x8 v1 x18 v3 x10 g0 f5 g1 fn11 ⟨oa_x8, ob_x8⟩ ⟨i_v1a, i_v1b⟩ ⟨oa_x18, by first | omega | decide⟩ ia_f5 H.size) (cwV 2 hts g_X3_readClause_8 rfl rfl rfl (by decide +kernel) ⟨Nat.le_of_ble_eq_true rfl, Nat.le_of_ble_eq_true rfl⟩) ⟨fun a U g mk q => by obtain ⟨q0, q1, qP, qK, qD, n0, n1, n2⟩ := q; exact ⟨q0, q1, qP, va_K.moved (u := U) (U := U.calling g mk a) (Vm.Alike.refl U.vm) qK, qD, vk_R.same rfl n0, va_Z.moved (Vm.Alike.refl _) n1, vk_S.moved (Vm.Alike.refl _) n2⟩, pv_rc3 hKc hPc (q0 := 0) rfl, fun U hU hW => ⟨rfl, by rw [hU], by rw [hU]; exact hPc, va_K.moved hW.alike hKc, hDc.weaken (fun _ _ _ _ => trivial), vk_R.warm hW h_vr_2, (by rw [hU]; exact (va_Z.moved hW.alike (va_Z.kept h_st_CS hS.2.1)).narrow hFc), (by rw [hU]; exact (vk_S.moved hW.alike (vk_S.kept h_st_S hS.2.1)).narrow hFc)⟩⟩ rfl rfl hl.1 rfl (lv_room (Nat.le_of_ble_eq_true rfl)) dX3_readClause_92 ⟨Nat.le_of_ble_eq_true rfl, Nat.le_of_ble_eq_true rfl⟩) hS (fun q _ h => hFc q h) hFc (fun ra21 u t H1 locs ht hvm hwra21 hB hz1 hk1 hS => ?_)
              try rw [hwra21] at hB
              rcases hB with hB | hB
              · skip
                obtain ⟨x22, x23, x24, fn25, oa_x22, ob_x22, oa_x23, ob_x23, pt0_ra21, pt1_ra21, pt2_ra21, pt3_ra21, hP1, hK1, hD1⟩ := hB
                rw [ht] at hP1
                obtain ⟨hP2, hD2⟩ := va_join (wr := []) (w1 := (wd_1ad0248d h0 h1 h3 x22 h1 h2 v1 x23 v3 x24 h2 g0 f5 h3 g1 fn25)) hP hD [0, 1, 2, 3] [] rfl rfl (by decide) (by decide) hk1 hFc hP1 hD1
                clear hP hD hPc hDc hKc hFc hP1 hK1 hD1 hk1 hz1
                generalize H1 = H at hP2 hS ⊢
                have hP : va_P (dC, dI) vwCl (wd_1ad0248d h0 h1 h3 x22 h1 h2 v1 x23 v3 x24 h2 g0 f5 h3 g1 fn25) H := hP2
                have hD : va_D A (wd_1ad0248d h0 h1 h3 x22 h1 h2 v1 x23 v3 x24 h2 g0 f5 h3 g1 fn25) := hD2
                clear hP2 hD2
                obtain rfl : ra21 = (1 : Int32) := pv_cs (by decide) pt0_ra21 pt1_ra21
                refine lv_if_eq (tgt := 110) hx hb dX3_readClause_95 (by decide) (fun c => absurd c (by decide)) (fun _ => ?_)
                refine lv_aload_n hx hb dX3_readClause_98 rfl (lv_at hl 2 rfl) ?_
                refine va_get (D := (dC, dI)) (ci := 3) (v := .ref h1) (C := RX3) (T := TX3) (N := 3) hx hb hts (fun _ h => List.mem_cons_of_mem _ (List.mem_append_left _ (List.mem_append_right _ h))) hown hK hP 0 rfl rfl 0 (by decide) (hts (.fieldLink RX3 19 "LeftArguments$LawReader" "tape" "LLeftArguments$Tape;") (List.mem_cons_of_mem _ (List.mem_append_left _ (List.mem_append_left _ (List.mem_of_getElem? (i := 0) rfl))))) (fun _ h9 => h9) rfl dX3_readClause_99 ?_
                refine lv_bipush (v := 63) hx hb dX3_readClause_102 (by decide) ?_
                have hPc := hP.sub (ws' := (wd_82cdd16b h1 h2 v1 x23 v3 x24 h2 g0 f5)) [1, 2] rfl
                have hDc := hD.sub (ws' := (wd_82cdd16b h1 h2 v1 x23 v3 x24 h2 g0 f5)) [1, 2] (by decide) rfl
                have hKc := hK.sub (tys' := [(g0, .int)]) [0] rfl
                have hFc := va_free (wc := (wd_82cdd16b h1 h2 v1 x23 v3 x24 h2 g0 f5)) hD hS hA [1, 2] rfl
                refine va_calli (va_runV (As := [.int 63]) (rest := []) ⟨hx, hb, hml, hown, hts⟩ (k_X10_take_4 l dC dI h1 h2 v1 x23 v3 x24 g0 f5 ⟨i_v1a, i_v1b⟩ ⟨oa_x23, ob_x23⟩ ia_f5 H.size) (cwV 1 hts g_X3_readClause_9 rfl rfl rfl (by decide +kernel) ⟨Nat.le_of_ble_eq_true rfl, Nat.le_of_ble_eq_true rfl⟩) (pv_PV10 hPc hKc hDc (q0 := 0) rfl) rfl rfl hl.1 rfl (lv_room (Nat.le_of_ble_eq_true rfl)) dX3_readClause_104 ⟨Nat.le_of_ble_eq_true rfl, Nat.le_of_ble_eq_true rfl⟩) hS (fun q _ h => hFc q h) hFc (fun ra26 u t H1 locs ht hvm hwra26 hB hz1 hk1 hS => ?_)
                try rw [hwra26] at hB
                rcases hB with hB | hB
                · skip
                  obtain ⟨x27, oa_x27, ob_x27, pt0_ra26, pt1_ra26, pt2_ra26, pt3_ra26, hP1, hK1, hD1⟩ := hB
                  rw [ht] at hP1
                  obtain ⟨hP2, hD2⟩ := va_join (wr := (wd_b958b9da h0 h1 h3 x22 h3 g1 fn25)) (w1 := (wd_82cdd16b h1 h2 v1 x27 v3 x24 h2 g0 f5)) hP hD [1, 2] [0, 3] rfl rfl (by decide) (by decide) hk1 hFc hP1 hD1
                  clear hP hD hPc hDc hKc hFc hP1 hK1 hD1 hk1 hz1
                  generalize H1 = H at hP2 hS ⊢
                  have hP := hP2.sub (ws' := (wd_1ad0248d h0 h1 h3 x22 h1 h2 v1 x27 v3 x24 h2 g0 f5 h3 g1 fn25)) [0, 2, 3, 1] rfl
                  have hD := hD2.sub (ws' := (wd_1ad0248d h0 h1 h3 x22 h1 h2 v1 x27 v3 x24 h2 g0 f5 h3 g1 fn25)) [0, 2, 3, 1] (by decide) rfl
                  clear hP2 hD2
                  obtain rfl : ra26 = (1 : Int32) := pv_cs (by decide) pt0_ra26 pt1_ra26
                  refine lv_if_ne (tgt := 112) hx hb dX3_readClause_107 (by decide) (fun _ => ?_) (fun c => absurd c (by decide))
                  refine lv_aload_n hx hb dX3_readClause_112 rfl (lv_at hl 2 rfl) ?_
                  refine va_get (D := (dC, dI)) (ci := 3) (v := .int x22) (C := RX3) (T := TX3) (N := 3) hx hb hts (fun _ h => List.mem_cons_of_mem _ (List.mem_append_left _ (List.mem_append_right _ h))) hown hK hP 0 rfl rfl 2 (by decide) (hts (.fieldLink RX3 15 "LeftArguments$LawReader" "used" "I") (List.mem_cons_of_mem _ (List.mem_append_left _ (List.mem_append_left _ (List.mem_of_getElem? (i := 72) rfl))))) (fun _ h9 => h9) rfl dX3_readClause_113 ?_
                  refine lv_istore_n (lv' := [(3, .int x22), (2, .int 1), (1, .int (-1)), (0, .ref h0)]) hx hb dX3_readClause_116 rfl hl (by decide) rfl (fun ls hl => ?_)
                  refine lv_aload_n hx hb dX3_readClause_117 rfl (lv_at hl 3 rfl) ?_
                  refine lv_bipush (v := 12) hx hb dX3_readClause_118 (by decide) ?_
                  refine lv_iconst (v := 0) hx hb dX3_readClause_120 (by decide) ?_
                  have hPc := hP.sub (ws' := (wd_b958b9da h0 h1 h3 x22 h3 g1 fn25)) [0, 3] rfl
                  have hDc := hD.sub (ws' := (wd_b958b9da h0 h1 h3 x22 h3 g1 fn25)) [0, 3] (by decide) rfl
                  have hKc := hK.sub (tys' := [(g1, .int)]) [1] rfl
                  have hFc := va_free (wc := (wd_b958b9da h0 h1 h3 x22 h3 g1 fn25)) hD hS hA [0, 3] rfl
                  refine va_callv (va_runV (As := [.int 12, .int 0]) (rest := []) ⟨hx, hb, hml, hown, hts⟩ (k_X3_write l dC dI h0 h3 h1 x22 g1 fn25 12 0 ⟨oa_x22, ob_x22⟩ H.size) (cwV 2 hts g_X3_readClause_6 rfl rfl rfl (by decide +kernel) ⟨Nat.le_of_ble_eq_true rfl, Nat.le_of_ble_eq_true rfl⟩) (pv_PV3 hPc hKc hDc (q0 := 0) rfl) rfl rfl hl.1 rfl (lv_room (Nat.le_of_ble_eq_true rfl)) dX3_readClause_121 ⟨Nat.le_of_ble_eq_true rfl, Nat.le_of_ble_eq_true rfl⟩) hS (fun q _ h => hFc q h) hFc (fun u t H1 locs ht hvm hwra28 hB hz1 hk1 hS => ?_)
                  obtain ⟨x29, fn30, oa_x29, ob_x29, hP1, hK1, hD1⟩ := hB
                  rw [ht] at hP1
                  obtain ⟨hP2, hD2⟩ := va_join (wr := (wd_82cdd16b h1 h2 v1 x27 v3 x24 h2 g0 f5)) (w1 := (wd_b958b9da h0 h1 h3 x29 h3 g1 fn30)) hP hD [0, 3] [1, 2] rfl rfl (by decide) (by decide) hk1 hFc hP1 hD1
                  clear hP hD hPc hDc hKc hFc hP1 hK1 hD1 hk1 hz1
                  generalize H1 = H at hP2 hS ⊢
                  have hP := hP2.sub (ws' := (wd_1ad0248d h0 h1 h3 x29 h1 h2 v1 x27 v3 x24 h2 g0 f5 h3 g1 fn30)) [2, 0, 1, 3] rfl
                  have hD := hD2.sub (ws' := (wd_1ad0248d h0 h1 h3 x29 h1 h2 v1 x27 v3 x24 h2 g0 f5 h3 g1 fn30)) [2, 0, 1, 3] (by decide) rfl
                  clear hP2 hD2
                  refine lv_aload_n hx hb dX3_readClause_124 rfl (lv_at hl 3 rfl) ?_
                  refine lv_iconst (v := 0) hx hb dX3_readClause_125 (by decide) ?_
                  have hPc := hP.sub (ws' := (wd_1ad0248d h0 h1 h3 x29 h1 h2 v1 x27 v3 x24 h2 g0 f5 h3 g1 fn30)) [0, 1, 2, 3] rfl
                  have hDc := hD.sub (ws' := (wd_1ad0248d h0 h1 h3 x29 h1 h2 v1 x27 v3 x24 h2 g0 f5 h3 g1 fn30)) [0, 1, 2, 3] (by decide) rfl
                  have hKc := hK.sub (tys' := [(g0, .int), (g1, .int)]) [0, 1] rfl
                  have hFc := va_free (wc := (wd_1ad0248d h0 h1 h3 x29 h1 h2 v1 x27 v3 x24 h2 g0 f5 h3 g1 fn30)) hD hS hA [0, 1, 2, 3] rfl
                  refine va_calli (va_runV (As := [.int 0]) (rest := []) ⟨hx, hb, hml, hown, hts⟩ (k_X3_readSum_6 l dC dI adK adV h0 h1 h2 h3 x29 v1 x27 v3 x24 g0 f5 g1 fn30 ⟨oa_x29, ob_x29⟩ ⟨i_v1a, i_v1b⟩ ⟨by first | omega | decide, ob_x27⟩ ia_f5 H.size) (cwV 1 hts g_X3_readClause_3 rfl rfl rfl (by decide +kernel) ⟨Nat.le_of_ble_eq_true rfl, Nat.le_of_ble_eq_true rfl⟩) ⟨fun a U g mk q => by obtain ⟨q0, q1, qP, qK, qD, n0, n1, n2⟩ := q; exact ⟨q0, q1, qP, va_K.moved (u := U) (U := U.calling g mk a) (Vm.Alike.refl U.vm) qK, qD, vk_R.same rfl n0, va_Z.moved (Vm.Alike.refl _) n1, vk_S.moved (Vm.Alike.refl _) n2⟩, pv_rc3 hKc hPc (q0 := 0) rfl, fun U hU hW => ⟨rfl, by rw [hU], by rw [hU]; exact hPc, va_K.moved hW.alike hKc, hDc.weaken (fun _ _ _ _ => trivial), vk_R.warm hW h_vr_2, (by rw [hU]; exact (va_Z.moved hW.alike (va_Z.kept h_st_CS hS.2.1)).narrow hFc), (by rw [hU]; exact (vk_S.moved hW.alike (vk_S.kept h_st_S hS.2.1)).narrow hFc)⟩⟩ rfl rfl hl.1 rfl (lv_room (Nat.le_of_ble_eq_true rfl)) dX3_readClause_126 ⟨Nat.le_of_ble_eq_true rfl, Nat.le_of_ble_eq_true rfl⟩) hS (fun q _ h => hFc q h) hFc (fun ra31 u t H1 locs ht hvm hwra31 hB hz1 hk1 hS => ?_)
                  try rw [hwra31] at hB
                  rcases hB with hB | hB
                  · skip
                    obtain ⟨x32, x33, x34, fn35, oa_x32, ob_x32, oa_x33, ob_x33, pt0_ra31, pt1_ra31, pt2_ra31, pt3_ra31, hP1, hK1, hD1⟩ := hB
                    rw [ht] at hP1
                    obtain ⟨hP2, hD2⟩ := va_join (wr := []) (w1 := (wd_1ad0248d h0 h1 h3 x32 h1 h2 v1 x33 v3 x34 h2 g0 f5 h3 g1 fn35)) hP hD [0, 1, 2, 3] [] rfl rfl (by decide) (by decide) hk1 hFc hP1 hD1
                    clear hP hD hPc hDc hKc hFc hP1 hK1 hD1 hk1 hz1
                    generalize H1 = H at hP2 hS ⊢
                    have hP : va_P (dC, dI) vwCl (wd_1ad0248d h0 h1 h3 x32 h1 h2 v1 x33 v3 x34 h2 g0 f5 h3 g1 fn35) H := hP2
                    have hD : va_D A (wd_1ad0248d h0 h1 h3 x32 h1 h2 v1 x33 v3 x34 h2 g0 f5 h3 g1 fn35) := hD2
                    clear hP2 hD2
                    obtain rfl : ra31 = (1 : Int32) := pv_cs (by decide) pt0_ra31 pt1_ra31
                    refine lv_if_ne (tgt := 134) hx hb dX3_readClause_129 (by decide) (fun _ => ?_) (fun c => absurd c (by decide))
                    refine lv_aload_n hx hb dX3_readClause_134 rfl (lv_at hl 3 rfl) ?_
                    refine lv_bipush (v := 13) hx hb dX3_readClause_135 (by decide) ?_
                    refine lv_iconst (v := 0) hx hb dX3_readClause_137 (by decide) ?_
                    have hPc := hP.sub (ws' := (wd_b958b9da h0 h1 h3 x32 h3 g1 fn35)) [0, 3] rfl
                    have hDc := hD.sub (ws' := (wd_b958b9da h0 h1 h3 x32 h3 g1 fn35)) [0, 3] (by decide) rfl
                    have hKc := hK.sub (tys' := [(g1, .int)]) [1] rfl
                    have hFc := va_free (wc := (wd_b958b9da h0 h1 h3 x32 h3 g1 fn35)) hD hS hA [0, 3] rfl
                    refine va_callv (va_runV (As := [.int 13, .int 0]) (rest := []) ⟨hx, hb, hml, hown, hts⟩ (k_X3_write l dC dI h0 h3 h1 x32 g1 fn35 13 0 ⟨oa_x32, ob_x32⟩ H.size) (cwV 2 hts g_X3_readClause_6 rfl rfl rfl (by decide +kernel) ⟨Nat.le_of_ble_eq_true rfl, Nat.le_of_ble_eq_true rfl⟩) (pv_PV3 hPc hKc hDc (q0 := 0) rfl) rfl rfl hl.1 rfl (lv_room (Nat.le_of_ble_eq_true rfl)) dX3_readClause_138 ⟨Nat.le_of_ble_eq_true rfl, Nat.le_of_ble_eq_true rfl⟩) hS (fun q _ h => hFc q h) hFc (fun u t H1 locs ht hvm hwra36 hB hz1 hk1 hS => ?_)
                    obtain ⟨x37, fn38, oa_x37, ob_x37, hP1, hK1, hD1⟩ := hB
                    rw [ht] at hP1
                    obtain ⟨hP2, hD2⟩ := va_join (wr := (wd_82cdd16b h1 h2 v1 x33 v3 x34 h2 g0 f5)) (w1 := (wd_b958b9da h0 h1 h3 x37 h3 g1 fn38)) hP hD [0, 3] [1, 2] rfl rfl (by decide) (by decide) hk1 hFc hP1 hD1
                    clear hP hD hPc hDc hKc hFc hP1 hK1 hD1 hk1 hz1
                    generalize H1 = H at hP2 hS ⊢
                    have hP := hP2.sub (ws' := (wd_1ad0248d h0 h1 h3 x37 h1 h2 v1 x33 v3 x34 h2 g0 f5 h3 g1 fn38)) [2, 0, 1, 3] rfl
                    have hD := hD2.sub (ws' := (wd_1ad0248d h0 h1 h3 x37 h1 h2 v1 x33 v3 x34 h2 g0 f5 h3 g1 fn38)) [2, 0, 1, 3] (by decide) rfl
                    clear hP2 hD2
                    refine lv_iload_n hx hb dX3_readClause_141 rfl (lv_at hl 0 rfl) ?_
                    refine lv_sipush (v := 256) hx hb dX3_readClause_142 (by decide) ?_
                    refine lv_icmp_ge (tgt := 164) hx hb dX3_readClause_145 (by decide) (fun c39 => ?_) (fun c39 => ?_)
                    · skip
                      have fc39 : 256 ≤ x22.toInt := Int32.le_iff_toInt_le.mp c39
                      refine lv_iconst (v := 1) hx hb dX3_readClause_164 (by decide) ?_
                      subst hQ
                      have hP9 := hP.sub (ws' := (wd_1ad0248d h0 h1 h3 x37 h1 h2 v1 x33 v3 x34 h2 g0 f5 h3 g1 fn38)) [0, 1, 2, 3] rfl
                      have hD9 := hD.sub (ws' := (wd_1ad0248d h0 h1 h3 x37 h1 h2 v1 x33 v3 x34 h2 g0 f5 h3 g1 fn38)) [0, 1, 2, 3] (by decide) rfl
                      have hK9 := hK.sub (tys' := []) [] rfl
                      exact W.zret (v := 1) hx hb hr rfl (fun t ht hW => ⟨⟨1, 1, rfl, rfl, Or.inl ⟨x37, x33, x34, fn38, oa_x37, ob_x37, oa_x33, ob_x33, by first | omega | decide, by first | omega | decide, by omega, by first | (apply pg_clause.x0 <;> first | assumption | omega | (apply pg_tail.ok <;> first | assumption | omega) | (apply pg_tail.no <;> first | assumption | omega)) | (apply pg_clause.x1 <;> first | assumption | omega | (apply pg_tail.ok <;> first | assumption | omega) | (apply pg_tail.no <;> first | assumption | omega)) | (apply pg_clause.x2 <;> first | assumption | omega | (apply pg_tail.ok <;> first | assumption | omega) | (apply pg_tail.no <;> first | assumption | omega)) | (apply pg_clause.x3 <;> first | assumption | omega | (apply pg_tail.ok <;> first | assumption | omega) | (apply pg_tail.no <;> first | assumption | omega)) | (apply pg_clause.x4 <;> first | assumption | omega | (apply pg_tail.ok <;> first | assumption | omega) | (apply pg_tail.no <;> first | assumption | omega)) | (apply pg_clause.x5 <;> first | assumption | omega | (apply pg_tail.ok <;> first | assumption | omega) | (apply pg_tail.no <;> first | assumption | omega)) | (apply pg_clause.x7 <;> first | assumption | omega | (apply pg_tail.ok <;> first | assumption | omega) | (apply pg_tail.no <;> first | assumption | omega)) | (apply pg_clause.x8 <;> first | assumption | omega | (apply pg_tail.ok <;> first | assumption | omega) | (apply pg_tail.no <;> first | assumption | omega)), by rw [ht]; exact hP9, va_K.moved hW.alike hK9, hD9⟩⟩, hS.F ht⟩) hS.2.2 dX3_readClause_165
                    · skip
                      have fc39 : ¬ (256 ≤ x22.toInt) := fun h9 => c39 (Int32.le_iff_toInt_le.mpr h9)
                      refine lv_aload_n hx hb dX3_readClause_148 rfl (lv_at hl 3 rfl) ?_
                      refine va_get (D := (dC, dI)) (ci := 3) (v := .ref h3) (C := RX3) (T := TX3) (N := 3) hx hb hts (fun _ h => List.mem_cons_of_mem _ (List.mem_append_left _ (List.mem_append_right _ h))) hown hK hP 0 rfl rfl 1 (by decide) (hts (.fieldLink RX3 11 "LeftArguments$LawReader" "code" "[I") (List.mem_cons_of_mem _ (List.mem_append_left _ (List.mem_append_left _ (List.mem_of_getElem? (i := 73) rfl))))) (fun _ h9 => h9) rfl dX3_readClause_149 ?_
                      refine lv_iload_n hx hb dX3_readClause_152 rfl (lv_at hl 0 rfl) ?_
                      refine lv_aload_n hx hb dX3_readClause_153 rfl (lv_at hl 3 rfl) ?_
                      refine va_get (D := (dC, dI)) (ci := 3) (v := .int x37) (C := RX3) (T := TX3) (N := 3) hx hb hts (fun _ h => List.mem_cons_of_mem _ (List.mem_append_left _ (List.mem_append_right _ h))) hown hK hP 0 rfl rfl 2 (by decide) (hts (.fieldLink RX3 15 "LeftArguments$LawReader" "used" "I") (List.mem_cons_of_mem _ (List.mem_append_left _ (List.mem_append_left _ (List.mem_of_getElem? (i := 72) rfl))))) (fun _ h9 => h9) rfl dX3_readClause_154 ?_
                      refine lv_bipush (v := 16) hx hb dX3_readClause_157 (by decide) ?_
                      refine lv_imul hx hb dX3_readClause_159 ?_
                      refine lv_topi (fun t40 et40 => ?_)
                      have gt40 : t40.toInt = x37.toInt * 16 := pv_mul (a := x37.toInt) (b := 16) et40 rfl (by decide) (by omega) (by omega)
                      refine lv_bipush (v := 12) hx hb dX3_readClause_160 (by decide) ?_
                      refine lv_iadd hx hb dX3_readClause_162 ?_
                      refine lv_topi (fun t41 et41 => ?_)
                      have gt41 : t41.toInt = t40.toInt + 12 := pv_add (a := t40.toInt) (b := 12) et41 rfl (by decide) (by omega) (by omega)
                      refine va_iast hx hb hK hP hD hS 3 1 rfl rfl (vp_in_iff.mpr ⟨by omega, by omega⟩) dX3_readClause_163 (fun H locs hP hD hS => ?_)
                      obtain ⟨fn42, efn42⟩ : ∃ g : Nat → Int32, g = upd fn38 (Int32.toNatClampNeg x22) t41 := ⟨_, rfl⟩
                      rw [← efn42] at hP hD
                      have hP : va_P (dC, dI) vwCl (wd_1ad0248d h0 h1 h3 x37 h1 h2 v1 x33 v3 x34 h2 g0 f5 h3 g1 fn42) H := hP
                      have hD : va_D A (wd_1ad0248d h0 h1 h3 x37 h1 h2 v1 x33 v3 x34 h2 g0 f5 h3 g1 fn42) := hD
                      refine lv_iconst (v := 1) hx hb dX3_readClause_164 (by decide) ?_
                      subst hQ
                      have hP9 := hP.sub (ws' := (wd_1ad0248d h0 h1 h3 x37 h1 h2 v1 x33 v3 x34 h2 g0 f5 h3 g1 fn42)) [0, 1, 2, 3] rfl
                      have hD9 := hD.sub (ws' := (wd_1ad0248d h0 h1 h3 x37 h1 h2 v1 x33 v3 x34 h2 g0 f5 h3 g1 fn42)) [0, 1, 2, 3] (by decide) rfl
                      have hK9 := hK.sub (tys' := []) [] rfl
                      exact W.zret (v := 1) hx hb hr rfl (fun t ht hW => ⟨⟨1, 1, rfl, rfl, Or.inl ⟨x37, x33, x34, fn42, oa_x37, ob_x37, oa_x33, ob_x33, by first | omega | decide, by first | omega | decide, by omega, by first | (apply pg_clause.x0 <;> first | assumption | omega | (apply pg_tail.ok <;> first | assumption | omega) | (apply pg_tail.no <;> first | assumption | omega)) | (apply pg_clause.x1 <;> first | assumption | omega | (apply pg_tail.ok <;> first | assumption | omega) | (apply pg_tail.no <;> first | assumption | omega)) | (apply pg_clause.x2 <;> first | assumption | omega | (apply pg_tail.ok <;> first | assumption | omega) | (apply pg_tail.no <;> first | assumption | omega)) | (apply pg_clause.x3 <;> first | assumption | omega | (apply pg_tail.ok <;> first | assumption | omega) | (apply pg_tail.no <;> first | assumption | omega)) | (apply pg_clause.x4 <;> first | assumption | omega | (apply pg_tail.ok <;> first | assumption | omega) | (apply pg_tail.no <;> first | assumption | omega)) | (apply pg_clause.x5 <;> first | assumption | omega | (apply pg_tail.ok <;> first | assumption | omega) | (apply pg_tail.no <;> first | assumption | omega)) | (apply pg_clause.x7 <;> first | assumption | omega | (apply pg_tail.ok <;> first | assumption | omega) | (apply pg_tail.no <;> first | assumption | omega)) | (apply pg_clause.x8 <;> first | assumption | omega | (apply pg_tail.ok <;> first | assumption | omega) | (apply pg_tail.no <;> first | assumption | omega)), by rw [ht]; exact hP9, va_K.moved hW.alike hK9, hD9⟩⟩, hS.F ht⟩) hS.2.2 dX3_readClause_165
                  · skip
                    obtain ⟨x43, x44, x45, x46, fn47, oa_x43, ob_x43, oa_x44, ob_x44, oa_x45, ob_x45, pt0_ra31, pt1_ra31, pt2_ra31, pt3_ra31, hP1, hK1, hD1⟩ := hB
                    rw [ht] at hP1
                    obtain ⟨hP2, hD2⟩ := va_join (wr := []) (w1 := (wd_1ad0248d h0 h1 h3 x43 h1 h2 v1 x44 x45 x46 h2 g0 f5 h3 g1 fn47)) hP hD [0, 1, 2, 3] [] rfl rfl (by decide) (by decide) hk1 hFc hP1 hD1
                    clear hP hD hPc hDc hKc hFc hP1 hK1 hD1 hk1 hz1
                    generalize H1 = H at hP2 hS ⊢
                    have hP : va_P (dC, dI) vwCl (wd_1ad0248d h0 h1 h3 x43 h1 h2 v1 x44 x45 x46 h2 g0 f5 h3 g1 fn47) H := hP2
                    have hD : va_D A (wd_1ad0248d h0 h1 h3 x43 h1 h2 v1 x44 x45 x46 h2 g0 f5 h3 g1 fn47) := hD2
                    clear hP2 hD2
                    obtain rfl : ra31 = (0 : Int32) := pv_cs (by decide) pt0_ra31 pt1_ra31
                    refine lv_if_ne (tgt := 134) hx hb dX3_readClause_129 (by decide) (fun c => absurd (by decide) c) (fun _ => ?_)
                    refine lv_iconst (v := 0) hx hb dX3_readClause_132 (by decide) ?_
                    subst hQ
                    have hP9 := hP.sub (ws' := (wd_1ad0248d h0 h1 h3 x43 h1 h2 v1 x44 x45 x46 h2 g0 f5 h3 g1 fn47)) [0, 1, 2, 3] rfl
                    have hD9 := hD.sub (ws' := (wd_1ad0248d h0 h1 h3 x43 h1 h2 v1 x44 x45 x46 h2 g0 f5 h3 g1 fn47)) [0, 1, 2, 3] (by decide) rfl
                    have hK9 := hK.sub (tys' := []) [] rfl
                    exact W.zret (v := 0) hx hb hr rfl (fun t ht hW => ⟨⟨0, 0, rfl, rfl, Or.inr (⟨x43, x44, x45, x46, fn47, oa_x43, ob_x43, oa_x44, ob_x44, oa_x45, ob_x45, by first | omega | decide, by first | omega | decide, by omega, by first | (apply pg_clause.x0 <;> first | assumption | omega | (apply pg_tail.ok <;> first | assumption | omega) | (apply pg_tail.no <;> first | assumption | omega)) | (apply pg_clause.x1 <;> first | assumption | omega | (apply pg_tail.ok <;> first | assumption | omega) | (apply pg_tail.no <;> first | assumption | omega)) | (apply pg_clause.x2 <;> first | assumption | omega | (apply pg_tail.ok <;> first | assumption | omega) | (apply pg_tail.no <;> first | assumption | omega)) | (apply pg_clause.x3 <;> first | assumption | omega | (apply pg_tail.ok <;> first | assumption | omega) | (apply pg_tail.no <;> first | assumption | omega)) | (apply pg_clause.x4 <;> first | assumption | omega | (apply pg_tail.ok <;> first | assumption | omega) | (apply pg_tail.no <;> first | assumption | omega)) | (apply pg_clause.x5 <;> first | assumption | omega | (apply pg_tail.ok <;> first | assumption | omega) | (apply pg_tail.no <;> first | assumption | omega)) | (apply pg_clause.x7 <;> first | assumption | omega | (apply pg_tail.ok <;> first | assumption | omega) | (apply pg_tail.no <;> first | assumption | omega)) | (apply pg_clause.x8 <;> first | assumption | omega | (apply pg_tail.ok <;> first | assumption | omega) | (apply pg_tail.no <;> first | assumption | omega)), by rw [ht]; exact hP9, va_K.moved hW.alike hK9, hD9⟩)⟩, hS.F ht⟩) hS.2.2 dX3_readClause_133
                · skip
                  obtain ⟨x48, x49, oa_x48, ob_x48, oa_x49, ob_x49, pt0_ra26, pt1_ra26, pt2_ra26, pt3_ra26, hP1, hK1, hD1⟩ := hB
                  rw [ht] at hP1
                  obtain ⟨hP2, hD2⟩ := va_join (wr := (wd_b958b9da h0 h1 h3 x22 h3 g1 fn25)) (w1 := (wd_82cdd16b h1 h2 v1 x48 x49 x24 h2 g0 f5)) hP hD [1, 2] [0, 3] rfl rfl (by decide) (by decide) hk1 hFc hP1 hD1
                  clear hP hD hPc hDc hKc hFc hP1 hK1 hD1 hk1 hz1
                  generalize H1 = H at hP2 hS ⊢
                  have hP := hP2.sub (ws' := (wd_1ad0248d h0 h1 h3 x22 h1 h2 v1 x48 x49 x24 h2 g0 f5 h3 g1 fn25)) [0, 2, 3, 1] rfl
                  have hD := hD2.sub (ws' := (wd_1ad0248d h0 h1 h3 x22 h1 h2 v1 x48 x49 x24 h2 g0 f5 h3 g1 fn25)) [0, 2, 3, 1] (by decide) rfl
                  clear hP2 hD2
                  obtain rfl : ra26 = (0 : Int32) := pv_cs (by decide) pt0_ra26 pt1_ra26
                  refine lv_if_ne (tgt := 112) hx hb dX3_readClause_107 (by decide) (fun c => absurd (by decide) c) (fun _ => ?_)
                  refine lv_iconst (v := 0) hx hb dX3_readClause_110 (by decide) ?_
                  subst hQ
                  have hP9 := hP.sub (ws' := (wd_1ad0248d h0 h1 h3 x22 h1 h2 v1 x48 x49 x24 h2 g0 f5 h3 g1 fn25)) [0, 1, 2, 3] rfl
                  have hD9 := hD.sub (ws' := (wd_1ad0248d h0 h1 h3 x22 h1 h2 v1 x48 x49 x24 h2 g0 f5 h3 g1 fn25)) [0, 1, 2, 3] (by decide) rfl
                  have hK9 := hK.sub (tys' := []) [] rfl
                  exact W.zret (v := 0) hx hb hr rfl (fun t ht hW => ⟨⟨0, 0, rfl, rfl, Or.inr (⟨x22, x48, x49, x24, fn25, oa_x22, ob_x22, oa_x48, ob_x48, oa_x49, ob_x49, by first | omega | decide, by first | omega | decide, by omega, by first | (apply pg_clause.x0 <;> first | assumption | omega | (apply pg_tail.ok <;> first | assumption | omega) | (apply pg_tail.no <;> first | assumption | omega)) | (apply pg_clause.x1 <;> first | assumption | omega | (apply pg_tail.ok <;> first | assumption | omega) | (apply pg_tail.no <;> first | assumption | omega)) | (apply pg_clause.x2 <;> first | assumption | omega | (apply pg_tail.ok <;> first | assumption | omega) | (apply pg_tail.no <;> first | assumption | omega)) | (apply pg_clause.x3 <;> first | assumption | omega | (apply pg_tail.ok <;> first | assumption | omega) | (apply pg_tail.no <;> first | assumption | omega)) | (apply pg_clause.x4 <;> first | assumption | omega | (apply pg_tail.ok <;> first | assumption | omega) | (apply pg_tail.no <;> first | assumption | omega)) | (apply pg_clause.x5 <;> first | assumption | omega | (apply pg_tail.ok <;> first | assumption | omega) | (apply pg_tail.no <;> first | assumption | omega)) | (apply pg_clause.x7 <;> first | assumption | omega | (apply pg_tail.ok <;> first | assumption | omega) | (apply pg_tail.no <;> first | assumption | omega)) | (apply pg_clause.x8 <;> first | assumption | omega | (apply pg_tail.ok <;> first | assumption | omega) | (apply pg_tail.no <;> first | assumption | omega)), by rw [ht]; exact hP9, va_K.moved hW.alike hK9, hD9⟩)⟩, hS.F ht⟩) hS.2.2 dX3_readClause_111
              · skip
                obtain ⟨x50, x51, x52, x53, fn54, oa_x50, ob_x50, oa_x51, ob_x51, oa_x52, ob_x52, pt0_ra21, pt1_ra21, pt2_ra21, pt3_ra21, hP1, hK1, hD1⟩ := hB
                rw [ht] at hP1
                obtain ⟨hP2, hD2⟩ := va_join (wr := []) (w1 := (wd_1ad0248d h0 h1 h3 x50 h1 h2 v1 x51 x52 x53 h2 g0 f5 h3 g1 fn54)) hP hD [0, 1, 2, 3] [] rfl rfl (by decide) (by decide) hk1 hFc hP1 hD1
                clear hP hD hPc hDc hKc hFc hP1 hK1 hD1 hk1 hz1
                generalize H1 = H at hP2 hS ⊢
                have hP : va_P (dC, dI) vwCl (wd_1ad0248d h0 h1 h3 x50 h1 h2 v1 x51 x52 x53 h2 g0 f5 h3 g1 fn54) H := hP2
                have hD : va_D A (wd_1ad0248d h0 h1 h3 x50 h1 h2 v1 x51 x52 x53 h2 g0 f5 h3 g1 fn54) := hD2
                clear hP2 hD2
                obtain rfl : ra21 = (0 : Int32) := pv_cs (by decide) pt0_ra21 pt1_ra21
                refine lv_if_eq (tgt := 110) hx hb dX3_readClause_95 (by decide) (fun _ => ?_) (fun c => absurd (by decide) c)
                refine lv_iconst (v := 0) hx hb dX3_readClause_110 (by decide) ?_
                subst hQ
                have hP9 := hP.sub (ws' := (wd_1ad0248d h0 h1 h3 x50 h1 h2 v1 x51 x52 x53 h2 g0 f5 h3 g1 fn54)) [0, 1, 2, 3] rfl
                have hD9 := hD.sub (ws' := (wd_1ad0248d h0 h1 h3 x50 h1 h2 v1 x51 x52 x53 h2 g0 f5 h3 g1 fn54)) [0, 1, 2, 3] (by decide) rfl
                have hK9 := hK.sub (tys' := []) [] rfl
                exact W.zret (v := 0) hx hb hr rfl (fun t ht hW => ⟨⟨0, 0, rfl, rfl, Or.inr (⟨x50, x51, x52, x53, fn54, oa_x50, ob_x50, oa_x51, ob_x51, oa_x52, ob_x52, by first | omega | decide, by first | omega | decide, by omega, by first | (apply pg_clause.x0 <;> first | assumption | omega | (apply pg_tail.ok <;> first | assumption | omega) | (apply pg_tail.no <;> first | assumption | omega)) | (apply pg_clause.x1 <;> first | assumption | omega | (apply pg_tail.ok <;> first | assumption | omega) | (apply pg_tail.no <;> first | assumption | omega)) | (apply pg_clause.x2 <;> first | assumption | omega | (apply pg_tail.ok <;> first | assumption | omega) | (apply pg_tail.no <;> first | assumption | omega)) | (apply pg_clause.x3 <;> first | assumption | omega | (apply pg_tail.ok <;> first | assumption | omega) | (apply pg_tail.no <;> first | assumption | omega)) | (apply pg_clause.x4 <;> first | assumption | omega | (apply pg_tail.ok <;> first | assumption | omega) | (apply pg_tail.no <;> first | assumption | omega)) | (apply pg_clause.x5 <;> first | assumption | omega | (apply pg_tail.ok <;> first | assumption | omega) | (apply pg_tail.no <;> first | assumption | omega)) | (apply pg_clause.x7 <;> first | assumption | omega | (apply pg_tail.ok <;> first | assumption | omega) | (apply pg_tail.no <;> first | assumption | omega)) | (apply pg_clause.x8 <;> first | assumption | omega | (apply pg_tail.ok <;> first | assumption | omega) | (apply pg_tail.no <;> first | assumption | omega)), by rw [ht]; exact hP9, va_K.moved hW.alike hK9, hD9⟩)⟩, hS.F ht⟩) hS.2.2 dX3_readClause_111
            · skip
              have fc20 : ra19.toInt = (-1) := congrArg Int32.toInt c20
              refine lv_aload_n hx hb dX3_readClause_80 rfl (lv_at hl 2 rfl) ?_
              refine lv_bipush (v := 13) hx hb dX3_readClause_81 (by decide) ?_
              refine lv_iconst (v := 0) hx hb dX3_readClause_83 (by decide) ?_
              have hPc := hP.sub (ws' := (wd_b958b9da h0 h1 h3 x8 h3 g1 fn11)) [0, 3] rfl
              have hDc := hD.sub (ws' := (wd_b958b9da h0 h1 h3 x8 h3 g1 fn11)) [0, 3] (by decide) rfl
              have hKc := hK.sub (tys' := [(g1, .int)]) [1] rfl
              have hFc := va_free (wc := (wd_b958b9da h0 h1 h3 x8 h3 g1 fn11)) hD hS hA [0, 3] rfl
              refine va_callv (va_runV (As := [.int 13, .int 0]) (rest := []) ⟨hx, hb, hml, hown, hts⟩ (k_X3_write l dC dI h0 h3 h1 x8 g1 fn11 13 0 ⟨oa_x8, ob_x8⟩ H.size) (cwV 2 hts g_X3_readClause_6 rfl rfl rfl (by decide +kernel) ⟨Nat.le_of_ble_eq_true rfl, Nat.le_of_ble_eq_true rfl⟩) (pv_PV3 hPc hKc hDc (q0 := 0) rfl) rfl rfl hl.1 rfl (lv_room (Nat.le_of_ble_eq_true rfl)) dX3_readClause_84 ⟨Nat.le_of_ble_eq_true rfl, Nat.le_of_ble_eq_true rfl⟩) hS (fun q _ h => hFc q h) hFc (fun u t H1 locs ht hvm hwra55 hB hz1 hk1 hS => ?_)
              obtain ⟨x56, fn57, oa_x56, ob_x56, hP1, hK1, hD1⟩ := hB
              rw [ht] at hP1
              obtain ⟨hP2, hD2⟩ := va_join (wr := (wd_82cdd16b h1 h2 v1 x18 v3 x10 h2 g0 f5)) (w1 := (wd_b958b9da h0 h1 h3 x56 h3 g1 fn57)) hP hD [0, 3] [1, 2] rfl rfl (by decide) (by decide) hk1 hFc hP1 hD1
              clear hP hD hPc hDc hKc hFc hP1 hK1 hD1 hk1 hz1
              generalize H1 = H at hP2 hS ⊢
              have hP := hP2.sub (ws' := (wd_1ad0248d h0 h1 h3 x56 h1 h2 v1 x18 v3 x10 h2 g0 f5 h3 g1 fn57)) [2, 0, 1, 3] rfl
              have hD := hD2.sub (ws' := (wd_1ad0248d h0 h1 h3 x56 h1 h2 v1 x18 v3 x10 h2 g0 f5 h3 g1 fn57)) [2, 0, 1, 3] (by decide) rfl
              clear hP2 hD2
              refine lv_iconst (v := 1) hx hb dX3_readClause_87 (by decide) ?_
              subst hQ
              have hP9 := hP.sub (ws' := (wd_1ad0248d h0 h1 h3 x56 h1 h2 v1 x18 v3 x10 h2 g0 f5 h3 g1 fn57)) [0, 1, 2, 3] rfl
              have hD9 := hD.sub (ws' := (wd_1ad0248d h0 h1 h3 x56 h1 h2 v1 x18 v3 x10 h2 g0 f5 h3 g1 fn57)) [0, 1, 2, 3] (by decide) rfl
              have hK9 := hK.sub (tys' := []) [] rfl
              exact W.zret (v := 1) hx hb hr rfl (fun t ht hW => ⟨⟨1, 1, rfl, rfl, Or.inl ⟨x56, x18, x10, fn57, oa_x56, ob_x56, oa_x18, by first | omega | decide, by first | omega | decide, by first | omega | decide, by omega, by first | (apply pg_clause.x0 <;> first | assumption | omega | (apply pg_tail.ok <;> first | assumption | omega) | (apply pg_tail.no <;> first | assumption | omega)) | (apply pg_clause.x1 <;> first | assumption | omega | (apply pg_tail.ok <;> first | assumption | omega) | (apply pg_tail.no <;> first | assumption | omega)) | (apply pg_clause.x2 <;> first | assumption | omega | (apply pg_tail.ok <;> first | assumption | omega) | (apply pg_tail.no <;> first | assumption | omega)) | (apply pg_clause.x3 <;> first | assumption | omega | (apply pg_tail.ok <;> first | assumption | omega) | (apply pg_tail.no <;> first | assumption | omega)) | (apply pg_clause.x4 <;> first | assumption | omega | (apply pg_tail.ok <;> first | assumption | omega) | (apply pg_tail.no <;> first | assumption | omega)) | (apply pg_clause.x5 <;> first | assumption | omega | (apply pg_tail.ok <;> first | assumption | omega) | (apply pg_tail.no <;> first | assumption | omega)) | (apply pg_clause.x7 <;> first | assumption | omega | (apply pg_tail.ok <;> first | assumption | omega) | (apply pg_tail.no <;> first | assumption | omega)) | (apply pg_clause.x8 <;> first | assumption | omega | (apply pg_tail.ok <;> first | assumption | omega) | (apply pg_tail.no <;> first | assumption | omega)), by rw [ht]; exact hP9, va_K.moved hW.alike hK9, hD9⟩⟩, hS.F ht⟩) hS.2.2 dX3_readClause_88
        · skip
          obtain ⟨x58, x59, x60, x61, fn62, oa_x58, ob_x58, oa_x59, ob_x59, oa_x60, ob_x60, pt0_ra7, pt1_ra7, pt2_ra7, pt3_ra7, hP1, hK1, hD1⟩ := hB
          rw [ht] at hP1
          obtain ⟨hP2, hD2⟩ := va_join (wr := []) (w1 := (wd_1ad0248d h0 h1 h3 x58 h1 h2 v1 x59 x60 x61 h2 g0 f5 h3 g1 fn62)) hP hD [0, 1, 2, 3] [] rfl rfl (by decide) (by decide) hk1 hFc hP1 hD1
          clear hP hD hPc hDc hKc hFc hP1 hK1 hD1 hk1 hz1
          generalize H1 = H at hP2 hS ⊢
          have hP : va_P (dC, dI) vwCl (wd_1ad0248d h0 h1 h3 x58 h1 h2 v1 x59 x60 x61 h2 g0 f5 h3 g1 fn62) H := hP2
          have hD : va_D A (wd_1ad0248d h0 h1 h3 x58 h1 h2 v1 x59 x60 x61 h2 g0 f5 h3 g1 fn62) := hD2
          clear hP2 hD2
          obtain rfl : ra7 = (0 : Int32) := pv_cs (by decide) pt0_ra7 pt1_ra7
          refine lv_if_ne (tgt := 66) hx hb dX3_readClause_61 (by decide) (fun c => absurd (by decide) c) (fun _ => ?_)
          refine lv_iconst (v := 0) hx hb dX3_readClause_64 (by decide) ?_
          subst hQ
          have hP9 := hP.sub (ws' := (wd_1ad0248d h0 h1 h3 x58 h1 h2 v1 x59 x60 x61 h2 g0 f5 h3 g1 fn62)) [0, 1, 2, 3] rfl
          have hD9 := hD.sub (ws' := (wd_1ad0248d h0 h1 h3 x58 h1 h2 v1 x59 x60 x61 h2 g0 f5 h3 g1 fn62)) [0, 1, 2, 3] (by decide) rfl
          have hK9 := hK.sub (tys' := []) [] rfl
          exact W.zret (v := 0) hx hb hr rfl (fun t ht hW => ⟨⟨0, 0, rfl, rfl, Or.inr (⟨x58, x59, x60, x61, fn62, oa_x58, ob_x58, oa_x59, ob_x59, oa_x60, ob_x60, by first | omega | decide, by first | omega | decide, by omega, by first | (apply pg_clause.x0 <;> first | assumption | omega | (apply pg_tail.ok <;> first | assumption | omega) | (apply pg_tail.no <;> first | assumption | omega)) | (apply pg_clause.x1 <;> first | assumption | omega | (apply pg_tail.ok <;> first | assumption | omega) | (apply pg_tail.no <;> first | assumption | omega)) | (apply pg_clause.x2 <;> first | assumption | omega | (apply pg_tail.ok <;> first | assumption | omega) | (apply pg_tail.no <;> first | assumption | omega)) | (apply pg_clause.x3 <;> first | assumption | omega | (apply pg_tail.ok <;> first | assumption | omega) | (apply pg_tail.no <;> first | assumption | omega)) | (apply pg_clause.x4 <;> first | assumption | omega | (apply pg_tail.ok <;> first | assumption | omega) | (apply pg_tail.no <;> first | assumption | omega)) | (apply pg_clause.x5 <;> first | assumption | omega | (apply pg_tail.ok <;> first | assumption | omega) | (apply pg_tail.no <;> first | assumption | omega)) | (apply pg_clause.x7 <;> first | assumption | omega | (apply pg_tail.ok <;> first | assumption | omega) | (apply pg_tail.no <;> first | assumption | omega)) | (apply pg_clause.x8 <;> first | assumption | omega | (apply pg_tail.ok <;> first | assumption | omega) | (apply pg_tail.no <;> first | assumption | omega)), by rw [ht]; exact hP9, va_K.moved hW.alike hK9, hD9⟩)⟩, hS.F ht⟩) hS.2.2 dX3_readClause_65
      · skip
        obtain ⟨x63, oa_x63, ob_x63, pt0_ra5, pt1_ra5, pt2_ra5, pt3_ra5, pt4_ra5, pt5_ra5, pt6_ra5, hP1, hK1, hD1⟩ := hB
        rw [ht] at hP1
        obtain ⟨hP2, hD2⟩ := va_join (wr := (wd_b958b9da h0 h1 h3 v0 h3 g1 f6)) (w1 := (wd_82cdd16b h1 h2 v1 x63 v3 v4 h2 g0 f5)) hP hD [1, 2] [0, 3] rfl rfl (by decide) (by decide) hk1 hFc hP1 hD1
        clear hP hD hPc hDc hKc hFc hP1 hK1 hD1 hk1 hz1
        generalize H1 = H at hP2 hS ⊢
        have hP := hP2.sub (ws' := (wd_1ad0248d h0 h1 h3 v0 h1 h2 v1 x63 v3 v4 h2 g0 f5 h3 g1 f6)) [0, 2, 3, 1] rfl
        have hD := hD2.sub (ws' := (wd_1ad0248d h0 h1 h3 v0 h1 h2 v1 x63 v3 v4 h2 g0 f5 h3 g1 f6)) [0, 2, 3, 1] (by decide) rfl
        clear hP2 hD2
        refine lv_istore_n (lv' := [(1, .int ra5), (0, .ref h0)]) hx hb dX3_readClause_33 rfl hl (by decide) rfl (fun ls hl => ?_)
        refine lv_iload_n hx hb dX3_readClause_34 rfl (lv_at hl 0 rfl) ?_
        refine lv_bipush (v := 33) hx hb dX3_readClause_35 (by decide) ?_
        refine lv_icmp_eq (tgt := 50) hx hb dX3_readClause_37 (by decide) (fun c64 => ?_) (fun c64 => ?_)
        · skip
          have fc64 : ra5.toInt = 33 := congrArg Int32.toInt c64
          refine lv_iconst (v := 0) hx hb dX3_readClause_50 (by decide) ?_
          refine lv_istore_n (lv' := [(2, .int 0), (1, .int ra5), (0, .ref h0)]) hx hb dX3_readClause_51 rfl hl (by decide) rfl (fun ls hl => ?_)
          refine lv_iload_n hx hb dX3_readClause_52 rfl (lv_at hl 0 rfl) ?_
          refine lv_if_eq (tgt := 89) hx hb dX3_readClause_53 (by decide) (fun _ => ?_) (fun c => absurd (by decide) c)
          refine lv_aload_n hx hb dX3_readClause_89 rfl (lv_at hl 2 rfl) ?_
          refine lv_iconst (v := 0) hx hb dX3_readClause_90 (by decide) ?_
          refine lv_iload_n hx hb dX3_readClause_91 rfl (lv_at hl 0 rfl) ?_
          have hPc := hP.sub (ws' := (wd_1ad0248d h0 h1 h3 v0 h1 h2 v1 x63 v3 v4 h2 g0 f5 h3 g1 f6)) [0, 1, 2, 3] rfl
          have hDc := hD.sub (ws' := (wd_1ad0248d h0 h1 h3 v0 h1 h2 v1 x63 v3 v4 h2 g0 f5 h3 g1 f6)) [0, 1, 2, 3] (by decide) rfl
          have hKc := hK.sub (tys' := [(g0, .int), (g1, .int)]) [0, 1] rfl
          have hFc := va_free (wc := (wd_1ad0248d h0 h1 h3 v0 h1 h2 v1 x63 v3 v4 h2 g0 f5 h3 g1 f6)) hD hS hA [0, 1, 2, 3] rfl
          refine va_calli (va_runV (As := [.int 0, .int 0]) (rest := []) ⟨hx, hb, hml, hown, hts⟩ (k_X3_readCondition_7 l dC dI adK adV h0 h1 h2 h3 v0 v1 x63 v3 v4 g0 f5 g1 f6 ⟨i_v0a, i_v0b⟩ ⟨i_v1a, i_v1b⟩ ⟨oa_x63, by first | omega | decide⟩ ia_f5 H.size) (cwV 2 hts g_X3_readClause_14 rfl rfl rfl (by decide +kernel) ⟨Nat.le_of_ble_eq_true rfl, Nat.le_of_ble_eq_true rfl⟩) ⟨fun a U g mk q => by obtain ⟨q0, q1, qP, qK, qD, n0, n1, n2⟩ := q; exact ⟨q0, q1, qP, va_K.moved (u := U) (U := U.calling g mk a) (Vm.Alike.refl U.vm) qK, qD, vk_R.same rfl n0, va_Z.moved (Vm.Alike.refl _) n1, vk_S.moved (Vm.Alike.refl _) n2⟩, pv_rc3 hKc hPc (q0 := 0) rfl, fun U hU hW => ⟨rfl, by rw [hU], by rw [hU]; exact hPc, va_K.moved hW.alike hKc, hDc.weaken (fun _ _ _ _ => trivial), vk_R.warm hW h_vr_2, (by rw [hU]; exact (va_Z.moved hW.alike (va_Z.kept h_st_CS hS.2.1)).narrow hFc), (by rw [hU]; exact (vk_S.moved hW.alike (vk_S.kept h_st_S hS.2.1)).narrow hFc)⟩⟩ rfl rfl hl.1 rfl (lv_room (Nat.le_of_ble_eq_true rfl)) dX3_readClause_92 ⟨Nat.le_of_ble_eq_true rfl, Nat.le_of_ble_eq_true rfl⟩) hS (fun q _ h => hFc q h) hFc (fun ra65 u t H1 locs ht hvm hwra65 hB hz1 hk1 hS => ?_)
          try rw [hwra65] at hB
          rcases hB with hB | hB
          · skip
            obtain ⟨x66, x67, x68, fn69, oa_x66, ob_x66, oa_x67, ob_x67, pt0_ra65, pt1_ra65, pt2_ra65, pt3_ra65, hP1, hK1, hD1⟩ := hB
            rw [ht] at hP1
            obtain ⟨hP2, hD2⟩ := va_join (wr := []) (w1 := (wd_1ad0248d h0 h1 h3 x66 h1 h2 v1 x67 v3 x68 h2 g0 f5 h3 g1 fn69)) hP hD [0, 1, 2, 3] [] rfl rfl (by decide) (by decide) hk1 hFc hP1 hD1
            clear hP hD hPc hDc hKc hFc hP1 hK1 hD1 hk1 hz1
            generalize H1 = H at hP2 hS ⊢
            have hP : va_P (dC, dI) vwCl (wd_1ad0248d h0 h1 h3 x66 h1 h2 v1 x67 v3 x68 h2 g0 f5 h3 g1 fn69) H := hP2
            have hD : va_D A (wd_1ad0248d h0 h1 h3 x66 h1 h2 v1 x67 v3 x68 h2 g0 f5 h3 g1 fn69) := hD2
            clear hP2 hD2
            obtain rfl : ra65 = (1 : Int32) := pv_cs (by decide) pt0_ra65 pt1_ra65
            refine lv_if_eq (tgt := 110) hx hb dX3_readClause_95 (by decide) (fun c => absurd c (by decide)) (fun _ => ?_)
            refine lv_aload_n hx hb dX3_readClause_98 rfl (lv_at hl 2 rfl) ?_
            refine va_get (D := (dC, dI)) (ci := 3) (v := .ref h1) (C := RX3) (T := TX3) (N := 3) hx hb hts (fun _ h => List.mem_cons_of_mem _ (List.mem_append_left _ (List.mem_append_right _ h))) hown hK hP 0 rfl rfl 0 (by decide) (hts (.fieldLink RX3 19 "LeftArguments$LawReader" "tape" "LLeftArguments$Tape;") (List.mem_cons_of_mem _ (List.mem_append_left _ (List.mem_append_left _ (List.mem_of_getElem? (i := 0) rfl))))) (fun _ h9 => h9) rfl dX3_readClause_99 ?_
            refine lv_bipush (v := 63) hx hb dX3_readClause_102 (by decide) ?_
            have hPc := hP.sub (ws' := (wd_82cdd16b h1 h2 v1 x67 v3 x68 h2 g0 f5)) [1, 2] rfl
            have hDc := hD.sub (ws' := (wd_82cdd16b h1 h2 v1 x67 v3 x68 h2 g0 f5)) [1, 2] (by decide) rfl
            have hKc := hK.sub (tys' := [(g0, .int)]) [0] rfl
            have hFc := va_free (wc := (wd_82cdd16b h1 h2 v1 x67 v3 x68 h2 g0 f5)) hD hS hA [1, 2] rfl
            refine va_calli (va_runV (As := [.int 63]) (rest := []) ⟨hx, hb, hml, hown, hts⟩ (k_X10_take_4 l dC dI h1 h2 v1 x67 v3 x68 g0 f5 ⟨i_v1a, i_v1b⟩ ⟨oa_x67, ob_x67⟩ ia_f5 H.size) (cwV 1 hts g_X3_readClause_9 rfl rfl rfl (by decide +kernel) ⟨Nat.le_of_ble_eq_true rfl, Nat.le_of_ble_eq_true rfl⟩) (pv_PV10 hPc hKc hDc (q0 := 0) rfl) rfl rfl hl.1 rfl (lv_room (Nat.le_of_ble_eq_true rfl)) dX3_readClause_104 ⟨Nat.le_of_ble_eq_true rfl, Nat.le_of_ble_eq_true rfl⟩) hS (fun q _ h => hFc q h) hFc (fun ra70 u t H1 locs ht hvm hwra70 hB hz1 hk1 hS => ?_)
            try rw [hwra70] at hB
            rcases hB with hB | hB
            · skip
              obtain ⟨x71, oa_x71, ob_x71, pt0_ra70, pt1_ra70, pt2_ra70, pt3_ra70, hP1, hK1, hD1⟩ := hB
              rw [ht] at hP1
              obtain ⟨hP2, hD2⟩ := va_join (wr := (wd_b958b9da h0 h1 h3 x66 h3 g1 fn69)) (w1 := (wd_82cdd16b h1 h2 v1 x71 v3 x68 h2 g0 f5)) hP hD [1, 2] [0, 3] rfl rfl (by decide) (by decide) hk1 hFc hP1 hD1
              clear hP hD hPc hDc hKc hFc hP1 hK1 hD1 hk1 hz1
              generalize H1 = H at hP2 hS ⊢
              have hP := hP2.sub (ws' := (wd_1ad0248d h0 h1 h3 x66 h1 h2 v1 x71 v3 x68 h2 g0 f5 h3 g1 fn69)) [0, 2, 3, 1] rfl
              have hD := hD2.sub (ws' := (wd_1ad0248d h0 h1 h3 x66 h1 h2 v1 x71 v3 x68 h2 g0 f5 h3 g1 fn69)) [0, 2, 3, 1] (by decide) rfl
              clear hP2 hD2
              obtain rfl : ra70 = (1 : Int32) := pv_cs (by decide) pt0_ra70 pt1_ra70
              refine lv_if_ne (tgt := 112) hx hb dX3_readClause_107 (by decide) (fun _ => ?_) (fun c => absurd c (by decide))
              refine lv_aload_n hx hb dX3_readClause_112 rfl (lv_at hl 2 rfl) ?_
              refine va_get (D := (dC, dI)) (ci := 3) (v := .int x66) (C := RX3) (T := TX3) (N := 3) hx hb hts (fun _ h => List.mem_cons_of_mem _ (List.mem_append_left _ (List.mem_append_right _ h))) hown hK hP 0 rfl rfl 2 (by decide) (hts (.fieldLink RX3 15 "LeftArguments$LawReader" "used" "I") (List.mem_cons_of_mem _ (List.mem_append_left _ (List.mem_append_left _ (List.mem_of_getElem? (i := 72) rfl))))) (fun _ h9 => h9) rfl dX3_readClause_113 ?_
              refine lv_istore_n (lv' := [(3, .int x66), (2, .int 0), (1, .int ra5), (0, .ref h0)]) hx hb dX3_readClause_116 rfl hl (by decide) rfl (fun ls hl => ?_)
              refine lv_aload_n hx hb dX3_readClause_117 rfl (lv_at hl 3 rfl) ?_
              refine lv_bipush (v := 12) hx hb dX3_readClause_118 (by decide) ?_
              refine lv_iconst (v := 0) hx hb dX3_readClause_120 (by decide) ?_
              have hPc := hP.sub (ws' := (wd_b958b9da h0 h1 h3 x66 h3 g1 fn69)) [0, 3] rfl
              have hDc := hD.sub (ws' := (wd_b958b9da h0 h1 h3 x66 h3 g1 fn69)) [0, 3] (by decide) rfl
              have hKc := hK.sub (tys' := [(g1, .int)]) [1] rfl
              have hFc := va_free (wc := (wd_b958b9da h0 h1 h3 x66 h3 g1 fn69)) hD hS hA [0, 3] rfl
              refine va_callv (va_runV (As := [.int 12, .int 0]) (rest := []) ⟨hx, hb, hml, hown, hts⟩ (k_X3_write l dC dI h0 h3 h1 x66 g1 fn69 12 0 ⟨oa_x66, ob_x66⟩ H.size) (cwV 2 hts g_X3_readClause_6 rfl rfl rfl (by decide +kernel) ⟨Nat.le_of_ble_eq_true rfl, Nat.le_of_ble_eq_true rfl⟩) (pv_PV3 hPc hKc hDc (q0 := 0) rfl) rfl rfl hl.1 rfl (lv_room (Nat.le_of_ble_eq_true rfl)) dX3_readClause_121 ⟨Nat.le_of_ble_eq_true rfl, Nat.le_of_ble_eq_true rfl⟩) hS (fun q _ h => hFc q h) hFc (fun u t H1 locs ht hvm hwra72 hB hz1 hk1 hS => ?_)
              obtain ⟨x73, fn74, oa_x73, ob_x73, hP1, hK1, hD1⟩ := hB
              rw [ht] at hP1
              obtain ⟨hP2, hD2⟩ := va_join (wr := (wd_82cdd16b h1 h2 v1 x71 v3 x68 h2 g0 f5)) (w1 := (wd_b958b9da h0 h1 h3 x73 h3 g1 fn74)) hP hD [0, 3] [1, 2] rfl rfl (by decide) (by decide) hk1 hFc hP1 hD1
              clear hP hD hPc hDc hKc hFc hP1 hK1 hD1 hk1 hz1
              generalize H1 = H at hP2 hS ⊢
              have hP := hP2.sub (ws' := (wd_1ad0248d h0 h1 h3 x73 h1 h2 v1 x71 v3 x68 h2 g0 f5 h3 g1 fn74)) [2, 0, 1, 3] rfl
              have hD := hD2.sub (ws' := (wd_1ad0248d h0 h1 h3 x73 h1 h2 v1 x71 v3 x68 h2 g0 f5 h3 g1 fn74)) [2, 0, 1, 3] (by decide) rfl
              clear hP2 hD2
              refine lv_aload_n hx hb dX3_readClause_124 rfl (lv_at hl 3 rfl) ?_
              refine lv_iconst (v := 0) hx hb dX3_readClause_125 (by decide) ?_
              have hPc := hP.sub (ws' := (wd_1ad0248d h0 h1 h3 x73 h1 h2 v1 x71 v3 x68 h2 g0 f5 h3 g1 fn74)) [0, 1, 2, 3] rfl
              have hDc := hD.sub (ws' := (wd_1ad0248d h0 h1 h3 x73 h1 h2 v1 x71 v3 x68 h2 g0 f5 h3 g1 fn74)) [0, 1, 2, 3] (by decide) rfl
              have hKc := hK.sub (tys' := [(g0, .int), (g1, .int)]) [0, 1] rfl
              have hFc := va_free (wc := (wd_1ad0248d h0 h1 h3 x73 h1 h2 v1 x71 v3 x68 h2 g0 f5 h3 g1 fn74)) hD hS hA [0, 1, 2, 3] rfl
              refine va_calli (va_runV (As := [.int 0]) (rest := []) ⟨hx, hb, hml, hown, hts⟩ (k_X3_readSum_6 l dC dI adK adV h0 h1 h2 h3 x73 v1 x71 v3 x68 g0 f5 g1 fn74 ⟨oa_x73, ob_x73⟩ ⟨i_v1a, i_v1b⟩ ⟨by first | omega | decide, ob_x71⟩ ia_f5 H.size) (cwV 1 hts g_X3_readClause_3 rfl rfl rfl (by decide +kernel) ⟨Nat.le_of_ble_eq_true rfl, Nat.le_of_ble_eq_true rfl⟩) ⟨fun a U g mk q => by obtain ⟨q0, q1, qP, qK, qD, n0, n1, n2⟩ := q; exact ⟨q0, q1, qP, va_K.moved (u := U) (U := U.calling g mk a) (Vm.Alike.refl U.vm) qK, qD, vk_R.same rfl n0, va_Z.moved (Vm.Alike.refl _) n1, vk_S.moved (Vm.Alike.refl _) n2⟩, pv_rc3 hKc hPc (q0 := 0) rfl, fun U hU hW => ⟨rfl, by rw [hU], by rw [hU]; exact hPc, va_K.moved hW.alike hKc, hDc.weaken (fun _ _ _ _ => trivial), vk_R.warm hW h_vr_2, (by rw [hU]; exact (va_Z.moved hW.alike (va_Z.kept h_st_CS hS.2.1)).narrow hFc), (by rw [hU]; exact (vk_S.moved hW.alike (vk_S.kept h_st_S hS.2.1)).narrow hFc)⟩⟩ rfl rfl hl.1 rfl (lv_room (Nat.le_of_ble_eq_true rfl)) dX3_readClause_126 ⟨Nat.le_of_ble_eq_true rfl, Nat.le_of_ble_eq_true rfl⟩) hS (fun q _ h => hFc q h) hFc (fun ra75 u t H1 locs ht hvm hwra75 hB hz1 hk1 hS => ?_)
              try rw [hwra75] at hB
              rcases hB with hB | hB
              · skip
                obtain ⟨x76, x77, x78, fn79, oa_x76, ob_x76, oa_x77, ob_x77, pt0_ra75, pt1_ra75, pt2_ra75, pt3_ra75, hP1, hK1, hD1⟩ := hB
                rw [ht] at hP1
                obtain ⟨hP2, hD2⟩ := va_join (wr := []) (w1 := (wd_1ad0248d h0 h1 h3 x76 h1 h2 v1 x77 v3 x78 h2 g0 f5 h3 g1 fn79)) hP hD [0, 1, 2, 3] [] rfl rfl (by decide) (by decide) hk1 hFc hP1 hD1
                clear hP hD hPc hDc hKc hFc hP1 hK1 hD1 hk1 hz1
                generalize H1 = H at hP2 hS ⊢
                have hP : va_P (dC, dI) vwCl (wd_1ad0248d h0 h1 h3 x76 h1 h2 v1 x77 v3 x78 h2 g0 f5 h3 g1 fn79) H := hP2
                have hD : va_D A (wd_1ad0248d h0 h1 h3 x76 h1 h2 v1 x77 v3 x78 h2 g0 f5 h3 g1 fn79) := hD2
                clear hP2 hD2
                obtain rfl : ra75 = (1 : Int32) := pv_cs (by decide) pt0_ra75 pt1_ra75
                refine lv_if_ne (tgt := 134) hx hb dX3_readClause_129 (by decide) (fun _ => ?_) (fun c => absurd c (by decide))
                refine lv_aload_n hx hb dX3_readClause_134 rfl (lv_at hl 3 rfl) ?_
                refine lv_bipush (v := 13) hx hb dX3_readClause_135 (by decide) ?_
                refine lv_iconst (v := 0) hx hb dX3_readClause_137 (by decide) ?_
                have hPc := hP.sub (ws' := (wd_b958b9da h0 h1 h3 x76 h3 g1 fn79)) [0, 3] rfl
                have hDc := hD.sub (ws' := (wd_b958b9da h0 h1 h3 x76 h3 g1 fn79)) [0, 3] (by decide) rfl
                have hKc := hK.sub (tys' := [(g1, .int)]) [1] rfl
                have hFc := va_free (wc := (wd_b958b9da h0 h1 h3 x76 h3 g1 fn79)) hD hS hA [0, 3] rfl
                refine va_callv (va_runV (As := [.int 13, .int 0]) (rest := []) ⟨hx, hb, hml, hown, hts⟩ (k_X3_write l dC dI h0 h3 h1 x76 g1 fn79 13 0 ⟨oa_x76, ob_x76⟩ H.size) (cwV 2 hts g_X3_readClause_6 rfl rfl rfl (by decide +kernel) ⟨Nat.le_of_ble_eq_true rfl, Nat.le_of_ble_eq_true rfl⟩) (pv_PV3 hPc hKc hDc (q0 := 0) rfl) rfl rfl hl.1 rfl (lv_room (Nat.le_of_ble_eq_true rfl)) dX3_readClause_138 ⟨Nat.le_of_ble_eq_true rfl, Nat.le_of_ble_eq_true rfl⟩) hS (fun q _ h => hFc q h) hFc (fun u t H1 locs ht hvm hwra80 hB hz1 hk1 hS => ?_)
                obtain ⟨x81, fn82, oa_x81, ob_x81, hP1, hK1, hD1⟩ := hB
                rw [ht] at hP1
                obtain ⟨hP2, hD2⟩ := va_join (wr := (wd_82cdd16b h1 h2 v1 x77 v3 x78 h2 g0 f5)) (w1 := (wd_b958b9da h0 h1 h3 x81 h3 g1 fn82)) hP hD [0, 3] [1, 2] rfl rfl (by decide) (by decide) hk1 hFc hP1 hD1
                clear hP hD hPc hDc hKc hFc hP1 hK1 hD1 hk1 hz1
                generalize H1 = H at hP2 hS ⊢
                have hP := hP2.sub (ws' := (wd_1ad0248d h0 h1 h3 x81 h1 h2 v1 x77 v3 x78 h2 g0 f5 h3 g1 fn82)) [2, 0, 1, 3] rfl
                have hD := hD2.sub (ws' := (wd_1ad0248d h0 h1 h3 x81 h1 h2 v1 x77 v3 x78 h2 g0 f5 h3 g1 fn82)) [2, 0, 1, 3] (by decide) rfl
                clear hP2 hD2
                refine lv_iload_n hx hb dX3_readClause_141 rfl (lv_at hl 0 rfl) ?_
                refine lv_sipush (v := 256) hx hb dX3_readClause_142 (by decide) ?_
                refine lv_icmp_ge (tgt := 164) hx hb dX3_readClause_145 (by decide) (fun c83 => ?_) (fun c83 => ?_)
                · skip
                  have fc83 : 256 ≤ x66.toInt := Int32.le_iff_toInt_le.mp c83
                  refine lv_iconst (v := 1) hx hb dX3_readClause_164 (by decide) ?_
                  subst hQ
                  have hP9 := hP.sub (ws' := (wd_1ad0248d h0 h1 h3 x81 h1 h2 v1 x77 v3 x78 h2 g0 f5 h3 g1 fn82)) [0, 1, 2, 3] rfl
                  have hD9 := hD.sub (ws' := (wd_1ad0248d h0 h1 h3 x81 h1 h2 v1 x77 v3 x78 h2 g0 f5 h3 g1 fn82)) [0, 1, 2, 3] (by decide) rfl
                  have hK9 := hK.sub (tys' := []) [] rfl
                  exact W.zret (v := 1) hx hb hr rfl (fun t ht hW => ⟨⟨1, 1, rfl, rfl, Or.inl ⟨x81, x77, x78, fn82, oa_x81, ob_x81, oa_x77, ob_x77, by first | omega | decide, by first | omega | decide, by omega, by first | (apply pg_clause.x0 <;> first | assumption | omega | (apply pg_tail.ok <;> first | assumption | omega) | (apply pg_tail.no <;> first | assumption | omega)) | (apply pg_clause.x1 <;> first | assumption | omega | (apply pg_tail.ok <;> first | assumption | omega) | (apply pg_tail.no <;> first | assumption | omega)) | (apply pg_clause.x2 <;> first | assumption | omega | (apply pg_tail.ok <;> first | assumption | omega) | (apply pg_tail.no <;> first | assumption | omega)) | (apply pg_clause.x3 <;> first | assumption | omega | (apply pg_tail.ok <;> first | assumption | omega) | (apply pg_tail.no <;> first | assumption | omega)) | (apply pg_clause.x4 <;> first | assumption | omega | (apply pg_tail.ok <;> first | assumption | omega) | (apply pg_tail.no <;> first | assumption | omega)) | (apply pg_clause.x5 <;> first | assumption | omega | (apply pg_tail.ok <;> first | assumption | omega) | (apply pg_tail.no <;> first | assumption | omega)) | (apply pg_clause.x7 <;> first | assumption | omega | (apply pg_tail.ok <;> first | assumption | omega) | (apply pg_tail.no <;> first | assumption | omega)) | (apply pg_clause.x8 <;> first | assumption | omega | (apply pg_tail.ok <;> first | assumption | omega) | (apply pg_tail.no <;> first | assumption | omega)), by rw [ht]; exact hP9, va_K.moved hW.alike hK9, hD9⟩⟩, hS.F ht⟩) hS.2.2 dX3_readClause_165
                · skip
                  have fc83 : ¬ (256 ≤ x66.toInt) := fun h9 => c83 (Int32.le_iff_toInt_le.mpr h9)
                  refine lv_aload_n hx hb dX3_readClause_148 rfl (lv_at hl 3 rfl) ?_
                  refine va_get (D := (dC, dI)) (ci := 3) (v := .ref h3) (C := RX3) (T := TX3) (N := 3) hx hb hts (fun _ h => List.mem_cons_of_mem _ (List.mem_append_left _ (List.mem_append_right _ h))) hown hK hP 0 rfl rfl 1 (by decide) (hts (.fieldLink RX3 11 "LeftArguments$LawReader" "code" "[I") (List.mem_cons_of_mem _ (List.mem_append_left _ (List.mem_append_left _ (List.mem_of_getElem? (i := 73) rfl))))) (fun _ h9 => h9) rfl dX3_readClause_149 ?_
                  refine lv_iload_n hx hb dX3_readClause_152 rfl (lv_at hl 0 rfl) ?_
                  refine lv_aload_n hx hb dX3_readClause_153 rfl (lv_at hl 3 rfl) ?_
                  refine va_get (D := (dC, dI)) (ci := 3) (v := .int x81) (C := RX3) (T := TX3) (N := 3) hx hb hts (fun _ h => List.mem_cons_of_mem _ (List.mem_append_left _ (List.mem_append_right _ h))) hown hK hP 0 rfl rfl 2 (by decide) (hts (.fieldLink RX3 15 "LeftArguments$LawReader" "used" "I") (List.mem_cons_of_mem _ (List.mem_append_left _ (List.mem_append_left _ (List.mem_of_getElem? (i := 72) rfl))))) (fun _ h9 => h9) rfl dX3_readClause_154 ?_
                  refine lv_bipush (v := 16) hx hb dX3_readClause_157 (by decide) ?_
                  refine lv_imul hx hb dX3_readClause_159 ?_
                  refine lv_topi (fun t84 et84 => ?_)
                  have gt84 : t84.toInt = x81.toInt * 16 := pv_mul (a := x81.toInt) (b := 16) et84 rfl (by decide) (by omega) (by omega)
                  refine lv_bipush (v := 12) hx hb dX3_readClause_160 (by decide) ?_
                  refine lv_iadd hx hb dX3_readClause_162 ?_
                  refine lv_topi (fun t85 et85 => ?_)
                  have gt85 : t85.toInt = t84.toInt + 12 := pv_add (a := t84.toInt) (b := 12) et85 rfl (by decide) (by omega) (by omega)
                  refine va_iast hx hb hK hP hD hS 3 1 rfl rfl (vp_in_iff.mpr ⟨by omega, by omega⟩) dX3_readClause_163 (fun H locs hP hD hS => ?_)
                  obtain ⟨fn86, efn86⟩ : ∃ g : Nat → Int32, g = upd fn82 (Int32.toNatClampNeg x66) t85 := ⟨_, rfl⟩
                  rw [← efn86] at hP hD
                  have hP : va_P (dC, dI) vwCl (wd_1ad0248d h0 h1 h3 x81 h1 h2 v1 x77 v3 x78 h2 g0 f5 h3 g1 fn86) H := hP
                  have hD : va_D A (wd_1ad0248d h0 h1 h3 x81 h1 h2 v1 x77 v3 x78 h2 g0 f5 h3 g1 fn86) := hD
                  refine lv_iconst (v := 1) hx hb dX3_readClause_164 (by decide) ?_
                  subst hQ
                  have hP9 := hP.sub (ws' := (wd_1ad0248d h0 h1 h3 x81 h1 h2 v1 x77 v3 x78 h2 g0 f5 h3 g1 fn86)) [0, 1, 2, 3] rfl
                  have hD9 := hD.sub (ws' := (wd_1ad0248d h0 h1 h3 x81 h1 h2 v1 x77 v3 x78 h2 g0 f5 h3 g1 fn86)) [0, 1, 2, 3] (by decide) rfl
                  have hK9 := hK.sub (tys' := []) [] rfl
                  exact W.zret (v := 1) hx hb hr rfl (fun t ht hW => ⟨⟨1, 1, rfl, rfl, Or.inl ⟨x81, x77, x78, fn86, oa_x81, ob_x81, oa_x77, ob_x77, by first | omega | decide, by first | omega | decide, by omega, by first | (apply pg_clause.x0 <;> first | assumption | omega | (apply pg_tail.ok <;> first | assumption | omega) | (apply pg_tail.no <;> first | assumption | omega)) | (apply pg_clause.x1 <;> first | assumption | omega | (apply pg_tail.ok <;> first | assumption | omega) | (apply pg_tail.no <;> first | assumption | omega)) | (apply pg_clause.x2 <;> first | assumption | omega | (apply pg_tail.ok <;> first | assumption | omega) | (apply pg_tail.no <;> first | assumption | omega)) | (apply pg_clause.x3 <;> first | assumption | omega | (apply pg_tail.ok <;> first | assumption | omega) | (apply pg_tail.no <;> first | assumption | omega)) | (apply pg_clause.x4 <;> first | assumption | omega | (apply pg_tail.ok <;> first | assumption | omega) | (apply pg_tail.no <;> first | assumption | omega)) | (apply pg_clause.x5 <;> first | assumption | omega | (apply pg_tail.ok <;> first | assumption | omega) | (apply pg_tail.no <;> first | assumption | omega)) | (apply pg_clause.x7 <;> first | assumption | omega | (apply pg_tail.ok <;> first | assumption | omega) | (apply pg_tail.no <;> first | assumption | omega)) | (apply pg_clause.x8 <;> first | assumption | omega | (apply pg_tail.ok <;> first | assumption | omega) | (apply pg_tail.no <;> first | assumption | omega)), by rw [ht]; exact hP9, va_K.moved hW.alike hK9, hD9⟩⟩, hS.F ht⟩) hS.2.2 dX3_readClause_165
              · skip
                obtain ⟨x87, x88, x89, x90, fn91, oa_x87, ob_x87, oa_x88, ob_x88, oa_x89, ob_x89, pt0_ra75, pt1_ra75, pt2_ra75, pt3_ra75, hP1, hK1, hD1⟩ := hB
                rw [ht] at hP1
                obtain ⟨hP2, hD2⟩ := va_join (wr := []) (w1 := (wd_1ad0248d h0 h1 h3 x87 h1 h2 v1 x88 x89 x90 h2 g0 f5 h3 g1 fn91)) hP hD [0, 1, 2, 3] [] rfl rfl (by decide) (by decide) hk1 hFc hP1 hD1
                clear hP hD hPc hDc hKc hFc hP1 hK1 hD1 hk1 hz1
                generalize H1 = H at hP2 hS ⊢
                have hP : va_P (dC, dI) vwCl (wd_1ad0248d h0 h1 h3 x87 h1 h2 v1 x88 x89 x90 h2 g0 f5 h3 g1 fn91) H := hP2
                have hD : va_D A (wd_1ad0248d h0 h1 h3 x87 h1 h2 v1 x88 x89 x90 h2 g0 f5 h3 g1 fn91) := hD2
                clear hP2 hD2
                obtain rfl : ra75 = (0 : Int32) := pv_cs (by decide) pt0_ra75 pt1_ra75
                refine lv_if_ne (tgt := 134) hx hb dX3_readClause_129 (by decide) (fun c => absurd (by decide) c) (fun _ => ?_)
                refine lv_iconst (v := 0) hx hb dX3_readClause_132 (by decide) ?_
                subst hQ
                have hP9 := hP.sub (ws' := (wd_1ad0248d h0 h1 h3 x87 h1 h2 v1 x88 x89 x90 h2 g0 f5 h3 g1 fn91)) [0, 1, 2, 3] rfl
                have hD9 := hD.sub (ws' := (wd_1ad0248d h0 h1 h3 x87 h1 h2 v1 x88 x89 x90 h2 g0 f5 h3 g1 fn91)) [0, 1, 2, 3] (by decide) rfl
                have hK9 := hK.sub (tys' := []) [] rfl
                exact W.zret (v := 0) hx hb hr rfl (fun t ht hW => ⟨⟨0, 0, rfl, rfl, Or.inr (⟨x87, x88, x89, x90, fn91, oa_x87, ob_x87, oa_x88, ob_x88, oa_x89, ob_x89, by first | omega | decide, by first | omega | decide, by omega, by first | (apply pg_clause.x0 <;> first | assumption | omega | (apply pg_tail.ok <;> first | assumption | omega) | (apply pg_tail.no <;> first | assumption | omega)) | (apply pg_clause.x1 <;> first | assumption | omega | (apply pg_tail.ok <;> first | assumption | omega) | (apply pg_tail.no <;> first | assumption | omega)) | (apply pg_clause.x2 <;> first | assumption | omega | (apply pg_tail.ok <;> first | assumption | omega) | (apply pg_tail.no <;> first | assumption | omega)) | (apply pg_clause.x3 <;> first | assumption | omega | (apply pg_tail.ok <;> first | assumption | omega) | (apply pg_tail.no <;> first | assumption | omega)) | (apply pg_clause.x4 <;> first | assumption | omega | (apply pg_tail.ok <;> first | assumption | omega) | (apply pg_tail.no <;> first | assumption | omega)) | (apply pg_clause.x5 <;> first | assumption | omega | (apply pg_tail.ok <;> first | assumption | omega) | (apply pg_tail.no <;> first | assumption | omega)) | (apply pg_clause.x7 <;> first | assumption | omega | (apply pg_tail.ok <;> first | assumption | omega) | (apply pg_tail.no <;> first | assumption | omega)) | (apply pg_clause.x8 <;> first | assumption | omega | (apply pg_tail.ok <;> first | assumption | omega) | (apply pg_tail.no <;> first | assumption | omega)), by rw [ht]; exact hP9, va_K.moved hW.alike hK9, hD9⟩)⟩, hS.F ht⟩) hS.2.2 dX3_readClause_133
            · skip
              obtain ⟨x92, x93, oa_x92, ob_x92, oa_x93, ob_x93, pt0_ra70, pt1_ra70, pt2_ra70, pt3_ra70, hP1, hK1, hD1⟩ := hB
              rw [ht] at hP1
              obtain ⟨hP2, hD2⟩ := va_join (wr := (wd_b958b9da h0 h1 h3 x66 h3 g1 fn69)) (w1 := (wd_82cdd16b h1 h2 v1 x92 x93 x68 h2 g0 f5)) hP hD [1, 2] [0, 3] rfl rfl (by decide) (by decide) hk1 hFc hP1 hD1
              clear hP hD hPc hDc hKc hFc hP1 hK1 hD1 hk1 hz1
              generalize H1 = H at hP2 hS ⊢
              have hP := hP2.sub (ws' := (wd_1ad0248d h0 h1 h3 x66 h1 h2 v1 x92 x93 x68 h2 g0 f5 h3 g1 fn69)) [0, 2, 3, 1] rfl
              have hD := hD2.sub (ws' := (wd_1ad0248d h0 h1 h3 x66 h1 h2 v1 x92 x93 x68 h2 g0 f5 h3 g1 fn69)) [0, 2, 3, 1] (by decide) rfl
              clear hP2 hD2
              obtain rfl : ra70 = (0 : Int32) := pv_cs (by decide) pt0_ra70 pt1_ra70
              refine lv_if_ne (tgt := 112) hx hb dX3_readClause_107 (by decide) (fun c => absurd (by decide) c) (fun _ => ?_)
              refine lv_iconst (v := 0) hx hb dX3_readClause_110 (by decide) ?_
              subst hQ
              have hP9 := hP.sub (ws' := (wd_1ad0248d h0 h1 h3 x66 h1 h2 v1 x92 x93 x68 h2 g0 f5 h3 g1 fn69)) [0, 1, 2, 3] rfl
              have hD9 := hD.sub (ws' := (wd_1ad0248d h0 h1 h3 x66 h1 h2 v1 x92 x93 x68 h2 g0 f5 h3 g1 fn69)) [0, 1, 2, 3] (by decide) rfl
              have hK9 := hK.sub (tys' := []) [] rfl
              exact W.zret (v := 0) hx hb hr rfl (fun t ht hW => ⟨⟨0, 0, rfl, rfl, Or.inr (⟨x66, x92, x93, x68, fn69, oa_x66, ob_x66, oa_x92, ob_x92, oa_x93, ob_x93, by first | omega | decide, by first | omega | decide, by omega, by first | (apply pg_clause.x0 <;> first | assumption | omega | (apply pg_tail.ok <;> first | assumption | omega) | (apply pg_tail.no <;> first | assumption | omega)) | (apply pg_clause.x1 <;> first | assumption | omega | (apply pg_tail.ok <;> first | assumption | omega) | (apply pg_tail.no <;> first | assumption | omega)) | (apply pg_clause.x2 <;> first | assumption | omega | (apply pg_tail.ok <;> first | assumption | omega) | (apply pg_tail.no <;> first | assumption | omega)) | (apply pg_clause.x3 <;> first | assumption | omega | (apply pg_tail.ok <;> first | assumption | omega) | (apply pg_tail.no <;> first | assumption | omega)) | (apply pg_clause.x4 <;> first | assumption | omega | (apply pg_tail.ok <;> first | assumption | omega) | (apply pg_tail.no <;> first | assumption | omega)) | (apply pg_clause.x5 <;> first | assumption | omega | (apply pg_tail.ok <;> first | assumption | omega) | (apply pg_tail.no <;> first | assumption | omega)) | (apply pg_clause.x7 <;> first | assumption | omega | (apply pg_tail.ok <;> first | assumption | omega) | (apply pg_tail.no <;> first | assumption | omega)) | (apply pg_clause.x8 <;> first | assumption | omega | (apply pg_tail.ok <;> first | assumption | omega) | (apply pg_tail.no <;> first | assumption | omega)), by rw [ht]; exact hP9, va_K.moved hW.alike hK9, hD9⟩)⟩, hS.F ht⟩) hS.2.2 dX3_readClause_111
          · skip
            obtain ⟨x94, x95, x96, x97, fn98, oa_x94, ob_x94, oa_x95, ob_x95, oa_x96, ob_x96, pt0_ra65, pt1_ra65, pt2_ra65, pt3_ra65, hP1, hK1, hD1⟩ := hB
            rw [ht] at hP1
            obtain ⟨hP2, hD2⟩ := va_join (wr := []) (w1 := (wd_1ad0248d h0 h1 h3 x94 h1 h2 v1 x95 x96 x97 h2 g0 f5 h3 g1 fn98)) hP hD [0, 1, 2, 3] [] rfl rfl (by decide) (by decide) hk1 hFc hP1 hD1
            clear hP hD hPc hDc hKc hFc hP1 hK1 hD1 hk1 hz1
            generalize H1 = H at hP2 hS ⊢
            have hP : va_P (dC, dI) vwCl (wd_1ad0248d h0 h1 h3 x94 h1 h2 v1 x95 x96 x97 h2 g0 f5 h3 g1 fn98) H := hP2
            have hD : va_D A (wd_1ad0248d h0 h1 h3 x94 h1 h2 v1 x95 x96 x97 h2 g0 f5 h3 g1 fn98) := hD2
            clear hP2 hD2
            obtain rfl : ra65 = (0 : Int32) := pv_cs (by decide) pt0_ra65 pt1_ra65
            refine lv_if_eq (tgt := 110) hx hb dX3_readClause_95 (by decide) (fun _ => ?_) (fun c => absurd (by decide) c)
            refine lv_iconst (v := 0) hx hb dX3_readClause_110 (by decide) ?_
            subst hQ
            have hP9 := hP.sub (ws' := (wd_1ad0248d h0 h1 h3 x94 h1 h2 v1 x95 x96 x97 h2 g0 f5 h3 g1 fn98)) [0, 1, 2, 3] rfl
            have hD9 := hD.sub (ws' := (wd_1ad0248d h0 h1 h3 x94 h1 h2 v1 x95 x96 x97 h2 g0 f5 h3 g1 fn98)) [0, 1, 2, 3] (by decide) rfl
            have hK9 := hK.sub (tys' := []) [] rfl
            exact W.zret (v := 0) hx hb hr rfl (fun t ht hW => ⟨⟨0, 0, rfl, rfl, Or.inr (⟨x94, x95, x96, x97, fn98, oa_x94, ob_x94, oa_x95, ob_x95, oa_x96, ob_x96, by first | omega | decide, by first | omega | decide, by omega, by first | (apply pg_clause.x0 <;> first | assumption | omega | (apply pg_tail.ok <;> first | assumption | omega) | (apply pg_tail.no <;> first | assumption | omega)) | (apply pg_clause.x1 <;> first | assumption | omega | (apply pg_tail.ok <;> first | assumption | omega) | (apply pg_tail.no <;> first | assumption | omega)) | (apply pg_clause.x2 <;> first | assumption | omega | (apply pg_tail.ok <;> first | assumption | omega) | (apply pg_tail.no <;> first | assumption | omega)) | (apply pg_clause.x3 <;> first | assumption | omega | (apply pg_tail.ok <;> first | assumption | omega) | (apply pg_tail.no <;> first | assumption | omega)) | (apply pg_clause.x4 <;> first | assumption | omega | (apply pg_tail.ok <;> first | assumption | omega) | (apply pg_tail.no <;> first | assumption | omega)) | (apply pg_clause.x5 <;> first | assumption | omega | (apply pg_tail.ok <;> first | assumption | omega) | (apply pg_tail.no <;> first | assumption | omega)) | (apply pg_clause.x7 <;> first | assumption | omega | (apply pg_tail.ok <;> first | assumption | omega) | (apply pg_tail.no <;> first | assumption | omega)) | (apply pg_clause.x8 <;> first | assumption | omega | (apply pg_tail.ok <;> first | assumption | omega) | (apply pg_tail.no <;> first | assumption | omega)), by rw [ht]; exact hP9, va_K.moved hW.alike hK9, hD9⟩)⟩, hS.F ht⟩) hS.2.2 dX3_readClause_111
        · skip
          have fc64 : ¬ (ra5.toInt = 33) := fun h9 => c64 (Int32.toInt_inj.mp h9)
          refine lv_iload_n hx hb dX3_readClause_40 rfl (lv_at hl 0 rfl) ?_
          refine lv_bipush (v := 40) hx hb dX3_readClause_41 (by decide) ?_
          refine lv_icmp_eq (tgt := 50) hx hb dX3_readClause_43 (by decide) (fun c99 => ?_) (fun c99 => ?_)
          · skip
            have fc99 : ra5.toInt = 40 := congrArg Int32.toInt c99
            refine lv_iconst (v := 0) hx hb dX3_readClause_50 (by decide) ?_
            refine lv_istore_n (lv' := [(2, .int 0), (1, .int ra5), (0, .ref h0)]) hx hb dX3_readClause_51 rfl hl (by decide) rfl (fun ls hl => ?_)
            refine lv_iload_n hx hb dX3_readClause_52 rfl (lv_at hl 0 rfl) ?_
            refine lv_if_eq (tgt := 89) hx hb dX3_readClause_53 (by decide) (fun _ => ?_) (fun c => absurd (by decide) c)
            refine lv_aload_n hx hb dX3_readClause_89 rfl (lv_at hl 2 rfl) ?_
            refine lv_iconst (v := 0) hx hb dX3_readClause_90 (by decide) ?_
            refine lv_iload_n hx hb dX3_readClause_91 rfl (lv_at hl 0 rfl) ?_
            have hPc := hP.sub (ws' := (wd_1ad0248d h0 h1 h3 v0 h1 h2 v1 x63 v3 v4 h2 g0 f5 h3 g1 f6)) [0, 1, 2, 3] rfl
            have hDc := hD.sub (ws' := (wd_1ad0248d h0 h1 h3 v0 h1 h2 v1 x63 v3 v4 h2 g0 f5 h3 g1 f6)) [0, 1, 2, 3] (by decide) rfl
            have hKc := hK.sub (tys' := [(g0, .int), (g1, .int)]) [0, 1] rfl
            have hFc := va_free (wc := (wd_1ad0248d h0 h1 h3 v0 h1 h2 v1 x63 v3 v4 h2 g0 f5 h3 g1 f6)) hD hS hA [0, 1, 2, 3] rfl
            refine va_calli (va_runV (As := [.int 0, .int 0]) (rest := []) ⟨hx, hb, hml, hown, hts⟩ (k_X3_readCondition_7 l dC dI adK adV h0 h1 h2 h3 v0 v1 x63 v3 v4 g0 f5 g1 f6 ⟨i_v0a, i_v0b⟩ ⟨i_v1a, i_v1b⟩ ⟨oa_x63, by first | omega | decide⟩ ia_f5 H.size) (cwV 2 hts g_X3_readClause_14 rfl rfl rfl (by decide +kernel) ⟨Nat.le_of_ble_eq_true rfl, Nat.le_of_ble_eq_true rfl⟩) ⟨fun a U g mk q => by obtain ⟨q0, q1, qP, qK, qD, n0, n1, n2⟩ := q; exact ⟨q0, q1, qP, va_K.moved (u := U) (U := U.calling g mk a) (Vm.Alike.refl U.vm) qK, qD, vk_R.same rfl n0, va_Z.moved (Vm.Alike.refl _) n1, vk_S.moved (Vm.Alike.refl _) n2⟩, pv_rc3 hKc hPc (q0 := 0) rfl, fun U hU hW => ⟨rfl, by rw [hU], by rw [hU]; exact hPc, va_K.moved hW.alike hKc, hDc.weaken (fun _ _ _ _ => trivial), vk_R.warm hW h_vr_2, (by rw [hU]; exact (va_Z.moved hW.alike (va_Z.kept h_st_CS hS.2.1)).narrow hFc), (by rw [hU]; exact (vk_S.moved hW.alike (vk_S.kept h_st_S hS.2.1)).narrow hFc)⟩⟩ rfl rfl hl.1 rfl (lv_room (Nat.le_of_ble_eq_true rfl)) dX3_readClause_92 ⟨Nat.le_of_ble_eq_true rfl, Nat.le_of_ble_eq_true rfl⟩) hS (fun q _ h => hFc q h) hFc (fun ra100 u t H1 locs ht hvm hwra100 hB hz1 hk1 hS => ?_)
            try rw [hwra100] at hB
            rcases hB with hB | hB
            · skip
              obtain ⟨x101, x102, x103, fn104, oa_x101, ob_x101, oa_x102, ob_x102, pt0_ra100, pt1_ra100, pt2_ra100, pt3_ra100, hP1, hK1, hD1⟩ := hB
              rw [ht] at hP1
              obtain ⟨hP2, hD2⟩ := va_join (wr := []) (w1 := (wd_1ad0248d h0 h1 h3 x101 h1 h2 v1 x102 v3 x103 h2 g0 f5 h3 g1 fn104)) hP hD [0, 1, 2, 3] [] rfl rfl (by decide) (by decide) hk1 hFc hP1 hD1
              clear hP hD hPc hDc hKc hFc hP1 hK1 hD1 hk1 hz1
              generalize H1 = H at hP2 hS ⊢
              have hP : va_P (dC, dI) vwCl (wd_1ad0248d h0 h1 h3 x101 h1 h2 v1 x102 v3 x103 h2 g0 f5 h3 g1 fn104) H := hP2
              have hD : va_D A (wd_1ad0248d h0 h1 h3 x101 h1 h2 v1 x102 v3 x103 h2 g0 f5 h3 g1 fn104) := hD2
              clear hP2 hD2
              obtain rfl : ra100 = (1 : Int32) := pv_cs (by decide) pt0_ra100 pt1_ra100
              refine lv_if_eq (tgt := 110) hx hb dX3_readClause_95 (by decide) (fun c => absurd c (by decide)) (fun _ => ?_)
              refine lv_aload_n hx hb dX3_readClause_98 rfl (lv_at hl 2 rfl) ?_
              refine va_get (D := (dC, dI)) (ci := 3) (v := .ref h1) (C := RX3) (T := TX3) (N := 3) hx hb hts (fun _ h => List.mem_cons_of_mem _ (List.mem_append_left _ (List.mem_append_right _ h))) hown hK hP 0 rfl rfl 0 (by decide) (hts (.fieldLink RX3 19 "LeftArguments$LawReader" "tape" "LLeftArguments$Tape;") (List.mem_cons_of_mem _ (List.mem_append_left _ (List.mem_append_left _ (List.mem_of_getElem? (i := 0) rfl))))) (fun _ h9 => h9) rfl dX3_readClause_99 ?_
              refine lv_bipush (v := 63) hx hb dX3_readClause_102 (by decide) ?_
              have hPc := hP.sub (ws' := (wd_82cdd16b h1 h2 v1 x102 v3 x103 h2 g0 f5)) [1, 2] rfl
              have hDc := hD.sub (ws' := (wd_82cdd16b h1 h2 v1 x102 v3 x103 h2 g0 f5)) [1, 2] (by decide) rfl
              have hKc := hK.sub (tys' := [(g0, .int)]) [0] rfl
              have hFc := va_free (wc := (wd_82cdd16b h1 h2 v1 x102 v3 x103 h2 g0 f5)) hD hS hA [1, 2] rfl
              refine va_calli (va_runV (As := [.int 63]) (rest := []) ⟨hx, hb, hml, hown, hts⟩ (k_X10_take_4 l dC dI h1 h2 v1 x102 v3 x103 g0 f5 ⟨i_v1a, i_v1b⟩ ⟨oa_x102, ob_x102⟩ ia_f5 H.size) (cwV 1 hts g_X3_readClause_9 rfl rfl rfl (by decide +kernel) ⟨Nat.le_of_ble_eq_true rfl, Nat.le_of_ble_eq_true rfl⟩) (pv_PV10 hPc hKc hDc (q0 := 0) rfl) rfl rfl hl.1 rfl (lv_room (Nat.le_of_ble_eq_true rfl)) dX3_readClause_104 ⟨Nat.le_of_ble_eq_true rfl, Nat.le_of_ble_eq_true rfl⟩) hS (fun q _ h => hFc q h) hFc (fun ra105 u t H1 locs ht hvm hwra105 hB hz1 hk1 hS => ?_)
              try rw [hwra105] at hB
              rcases hB with hB | hB
              · skip
                obtain ⟨x106, oa_x106, ob_x106, pt0_ra105, pt1_ra105, pt2_ra105, pt3_ra105, hP1, hK1, hD1⟩ := hB
                rw [ht] at hP1
                obtain ⟨hP2, hD2⟩ := va_join (wr := (wd_b958b9da h0 h1 h3 x101 h3 g1 fn104)) (w1 := (wd_82cdd16b h1 h2 v1 x106 v3 x103 h2 g0 f5)) hP hD [1, 2] [0, 3] rfl rfl (by decide) (by decide) hk1 hFc hP1 hD1
                clear hP hD hPc hDc hKc hFc hP1 hK1 hD1 hk1 hz1
                generalize H1 = H at hP2 hS ⊢
                have hP := hP2.sub (ws' := (wd_1ad0248d h0 h1 h3 x101 h1 h2 v1 x106 v3 x103 h2 g0 f5 h3 g1 fn104)) [0, 2, 3, 1] rfl
                have hD := hD2.sub (ws' := (wd_1ad0248d h0 h1 h3 x101 h1 h2 v1 x106 v3 x103 h2 g0 f5 h3 g1 fn104)) [0, 2, 3, 1] (by decide) rfl
                clear hP2 hD2
                obtain rfl : ra105 = (1 : Int32) := pv_cs (by decide) pt0_ra105 pt1_ra105
                refine lv_if_ne (tgt := 112) hx hb dX3_readClause_107 (by decide) (fun _ => ?_) (fun c => absurd c (by decide))
                refine lv_aload_n hx hb dX3_readClause_112 rfl (lv_at hl 2 rfl) ?_
                refine va_get (D := (dC, dI)) (ci := 3) (v := .int x101) (C := RX3) (T := TX3) (N := 3) hx hb hts (fun _ h => List.mem_cons_of_mem _ (List.mem_append_left _ (List.mem_append_right _ h))) hown hK hP 0 rfl rfl 2 (by decide) (hts (.fieldLink RX3 15 "LeftArguments$LawReader" "used" "I") (List.mem_cons_of_mem _ (List.mem_append_left _ (List.mem_append_left _ (List.mem_of_getElem? (i := 72) rfl))))) (fun _ h9 => h9) rfl dX3_readClause_113 ?_
                refine lv_istore_n (lv' := [(3, .int x101), (2, .int 0), (1, .int ra5), (0, .ref h0)]) hx hb dX3_readClause_116 rfl hl (by decide) rfl (fun ls hl => ?_)
                refine lv_aload_n hx hb dX3_readClause_117 rfl (lv_at hl 3 rfl) ?_
                refine lv_bipush (v := 12) hx hb dX3_readClause_118 (by decide) ?_
                refine lv_iconst (v := 0) hx hb dX3_readClause_120 (by decide) ?_
                have hPc := hP.sub (ws' := (wd_b958b9da h0 h1 h3 x101 h3 g1 fn104)) [0, 3] rfl
                have hDc := hD.sub (ws' := (wd_b958b9da h0 h1 h3 x101 h3 g1 fn104)) [0, 3] (by decide) rfl
                have hKc := hK.sub (tys' := [(g1, .int)]) [1] rfl
                have hFc := va_free (wc := (wd_b958b9da h0 h1 h3 x101 h3 g1 fn104)) hD hS hA [0, 3] rfl
                refine va_callv (va_runV (As := [.int 12, .int 0]) (rest := []) ⟨hx, hb, hml, hown, hts⟩ (k_X3_write l dC dI h0 h3 h1 x101 g1 fn104 12 0 ⟨oa_x101, ob_x101⟩ H.size) (cwV 2 hts g_X3_readClause_6 rfl rfl rfl (by decide +kernel) ⟨Nat.le_of_ble_eq_true rfl, Nat.le_of_ble_eq_true rfl⟩) (pv_PV3 hPc hKc hDc (q0 := 0) rfl) rfl rfl hl.1 rfl (lv_room (Nat.le_of_ble_eq_true rfl)) dX3_readClause_121 ⟨Nat.le_of_ble_eq_true rfl, Nat.le_of_ble_eq_true rfl⟩) hS (fun q _ h => hFc q h) hFc (fun u t H1 locs ht hvm hwra107 hB hz1 hk1 hS => ?_)
                obtain ⟨x108, fn109, oa_x108, ob_x108, hP1, hK1, hD1⟩ := hB
                rw [ht] at hP1
                obtain ⟨hP2, hD2⟩ := va_join (wr := (wd_82cdd16b h1 h2 v1 x106 v3 x103 h2 g0 f5)) (w1 := (wd_b958b9da h0 h1 h3 x108 h3 g1 fn109)) hP hD [0, 3] [1, 2] rfl rfl (by decide) (by decide) hk1 hFc hP1 hD1
                clear hP hD hPc hDc hKc hFc hP1 hK1 hD1 hk1 hz1
                generalize H1 = H at hP2 hS ⊢
                have hP := hP2.sub (ws' := (wd_1ad0248d h0 h1 h3 x108 h1 h2 v1 x106 v3 x103 h2 g0 f5 h3 g1 fn109)) [2, 0, 1, 3] rfl
                have hD := hD2.sub (ws' := (wd_1ad0248d h0 h1 h3 x108 h1 h2 v1 x106 v3 x103 h2 g0 f5 h3 g1 fn109)) [2, 0, 1, 3] (by decide) rfl
                clear hP2 hD2
                refine lv_aload_n hx hb dX3_readClause_124 rfl (lv_at hl 3 rfl) ?_
                refine lv_iconst (v := 0) hx hb dX3_readClause_125 (by decide) ?_
                have hPc := hP.sub (ws' := (wd_1ad0248d h0 h1 h3 x108 h1 h2 v1 x106 v3 x103 h2 g0 f5 h3 g1 fn109)) [0, 1, 2, 3] rfl
                have hDc := hD.sub (ws' := (wd_1ad0248d h0 h1 h3 x108 h1 h2 v1 x106 v3 x103 h2 g0 f5 h3 g1 fn109)) [0, 1, 2, 3] (by decide) rfl
                have hKc := hK.sub (tys' := [(g0, .int), (g1, .int)]) [0, 1] rfl
                have hFc := va_free (wc := (wd_1ad0248d h0 h1 h3 x108 h1 h2 v1 x106 v3 x103 h2 g0 f5 h3 g1 fn109)) hD hS hA [0, 1, 2, 3] rfl
                refine va_calli (va_runV (As := [.int 0]) (rest := []) ⟨hx, hb, hml, hown, hts⟩ (k_X3_readSum_6 l dC dI adK adV h0 h1 h2 h3 x108 v1 x106 v3 x103 g0 f5 g1 fn109 ⟨oa_x108, ob_x108⟩ ⟨i_v1a, i_v1b⟩ ⟨by first | omega | decide, ob_x106⟩ ia_f5 H.size) (cwV 1 hts g_X3_readClause_3 rfl rfl rfl (by decide +kernel) ⟨Nat.le_of_ble_eq_true rfl, Nat.le_of_ble_eq_true rfl⟩) ⟨fun a U g mk q => by obtain ⟨q0, q1, qP, qK, qD, n0, n1, n2⟩ := q; exact ⟨q0, q1, qP, va_K.moved (u := U) (U := U.calling g mk a) (Vm.Alike.refl U.vm) qK, qD, vk_R.same rfl n0, va_Z.moved (Vm.Alike.refl _) n1, vk_S.moved (Vm.Alike.refl _) n2⟩, pv_rc3 hKc hPc (q0 := 0) rfl, fun U hU hW => ⟨rfl, by rw [hU], by rw [hU]; exact hPc, va_K.moved hW.alike hKc, hDc.weaken (fun _ _ _ _ => trivial), vk_R.warm hW h_vr_2, (by rw [hU]; exact (va_Z.moved hW.alike (va_Z.kept h_st_CS hS.2.1)).narrow hFc), (by rw [hU]; exact (vk_S.moved hW.alike (vk_S.kept h_st_S hS.2.1)).narrow hFc)⟩⟩ rfl rfl hl.1 rfl (lv_room (Nat.le_of_ble_eq_true rfl)) dX3_readClause_126 ⟨Nat.le_of_ble_eq_true rfl, Nat.le_of_ble_eq_true rfl⟩) hS (fun q _ h => hFc q h) hFc (fun ra110 u t H1 locs ht hvm hwra110 hB hz1 hk1 hS => ?_)
                try rw [hwra110] at hB
                rcases hB with hB | hB
                · skip
                  obtain ⟨x111, x112, x113, fn114, oa_x111, ob_x111, oa_x112, ob_x112, pt0_ra110, pt1_ra110, pt2_ra110, pt3_ra110, hP1, hK1, hD1⟩ := hB
                  rw [ht] at hP1
                  obtain ⟨hP2, hD2⟩ := va_join (wr := []) (w1 := (wd_1ad0248d h0 h1 h3 x111 h1 h2 v1 x112 v3 x113 h2 g0 f5 h3 g1 fn114)) hP hD [0, 1, 2, 3] [] rfl rfl (by decide) (by decide) hk1 hFc hP1 hD1
                  clear hP hD hPc hDc hKc hFc hP1 hK1 hD1 hk1 hz1
                  generalize H1 = H at hP2 hS ⊢
                  have hP : va_P (dC, dI) vwCl (wd_1ad0248d h0 h1 h3 x111 h1 h2 v1 x112 v3 x113 h2 g0 f5 h3 g1 fn114) H := hP2
                  have hD : va_D A (wd_1ad0248d h0 h1 h3 x111 h1 h2 v1 x112 v3 x113 h2 g0 f5 h3 g1 fn114) := hD2
                  clear hP2 hD2
                  obtain rfl : ra110 = (1 : Int32) := pv_cs (by decide) pt0_ra110 pt1_ra110
                  refine lv_if_ne (tgt := 134) hx hb dX3_readClause_129 (by decide) (fun _ => ?_) (fun c => absurd c (by decide))
                  refine lv_aload_n hx hb dX3_readClause_134 rfl (lv_at hl 3 rfl) ?_
                  refine lv_bipush (v := 13) hx hb dX3_readClause_135 (by decide) ?_
                  refine lv_iconst (v := 0) hx hb dX3_readClause_137 (by decide) ?_
                  have hPc := hP.sub (ws' := (wd_b958b9da h0 h1 h3 x111 h3 g1 fn114)) [0, 3] rfl
                  have hDc := hD.sub (ws' := (wd_b958b9da h0 h1 h3 x111 h3 g1 fn114)) [0, 3] (by decide) rfl
                  have hKc := hK.sub (tys' := [(g1, .int)]) [1] rfl
                  have hFc := va_free (wc := (wd_b958b9da h0 h1 h3 x111 h3 g1 fn114)) hD hS hA [0, 3] rfl
                  refine va_callv (va_runV (As := [.int 13, .int 0]) (rest := []) ⟨hx, hb, hml, hown, hts⟩ (k_X3_write l dC dI h0 h3 h1 x111 g1 fn114 13 0 ⟨oa_x111, ob_x111⟩ H.size) (cwV 2 hts g_X3_readClause_6 rfl rfl rfl (by decide +kernel) ⟨Nat.le_of_ble_eq_true rfl, Nat.le_of_ble_eq_true rfl⟩) (pv_PV3 hPc hKc hDc (q0 := 0) rfl) rfl rfl hl.1 rfl (lv_room (Nat.le_of_ble_eq_true rfl)) dX3_readClause_138 ⟨Nat.le_of_ble_eq_true rfl, Nat.le_of_ble_eq_true rfl⟩) hS (fun q _ h => hFc q h) hFc (fun u t H1 locs ht hvm hwra115 hB hz1 hk1 hS => ?_)
                  obtain ⟨x116, fn117, oa_x116, ob_x116, hP1, hK1, hD1⟩ := hB
                  rw [ht] at hP1
                  obtain ⟨hP2, hD2⟩ := va_join (wr := (wd_82cdd16b h1 h2 v1 x112 v3 x113 h2 g0 f5)) (w1 := (wd_b958b9da h0 h1 h3 x116 h3 g1 fn117)) hP hD [0, 3] [1, 2] rfl rfl (by decide) (by decide) hk1 hFc hP1 hD1
                  clear hP hD hPc hDc hKc hFc hP1 hK1 hD1 hk1 hz1
                  generalize H1 = H at hP2 hS ⊢
                  have hP := hP2.sub (ws' := (wd_1ad0248d h0 h1 h3 x116 h1 h2 v1 x112 v3 x113 h2 g0 f5 h3 g1 fn117)) [2, 0, 1, 3] rfl
                  have hD := hD2.sub (ws' := (wd_1ad0248d h0 h1 h3 x116 h1 h2 v1 x112 v3 x113 h2 g0 f5 h3 g1 fn117)) [2, 0, 1, 3] (by decide) rfl
                  clear hP2 hD2
                  refine lv_iload_n hx hb dX3_readClause_141 rfl (lv_at hl 0 rfl) ?_
                  refine lv_sipush (v := 256) hx hb dX3_readClause_142 (by decide) ?_
                  refine lv_icmp_ge (tgt := 164) hx hb dX3_readClause_145 (by decide) (fun c118 => ?_) (fun c118 => ?_)
                  · skip
                    have fc118 : 256 ≤ x101.toInt := Int32.le_iff_toInt_le.mp c118
                    refine lv_iconst (v := 1) hx hb dX3_readClause_164 (by decide) ?_
                    subst hQ
                    have hP9 := hP.sub (ws' := (wd_1ad0248d h0 h1 h3 x116 h1 h2 v1 x112 v3 x113 h2 g0 f5 h3 g1 fn117)) [0, 1, 2, 3] rfl
                    have hD9 := hD.sub (ws' := (wd_1ad0248d h0 h1 h3 x116 h1 h2 v1 x112 v3 x113 h2 g0 f5 h3 g1 fn117)) [0, 1, 2, 3] (by decide) rfl
                    have hK9 := hK.sub (tys' := []) [] rfl
                    exact W.zret (v := 1) hx hb hr rfl (fun t ht hW => ⟨⟨1, 1, rfl, rfl, Or.inl ⟨x116, x112, x113, fn117, oa_x116, ob_x116, oa_x112, ob_x112, by first | omega | decide, by first | omega | decide, by omega, by first | (apply pg_clause.x0 <;> first | assumption | omega | (apply pg_tail.ok <;> first | assumption | omega) | (apply pg_tail.no <;> first | assumption | omega)) | (apply pg_clause.x1 <;> first | assumption | omega | (apply pg_tail.ok <;> first | assumption | omega) | (apply pg_tail.no <;> first | assumption | omega)) | (apply pg_clause.x2 <;> first | assumption | omega | (apply pg_tail.ok <;> first | assumption | omega) | (apply pg_tail.no <;> first | assumption | omega)) | (apply pg_clause.x3 <;> first | assumption | omega | (apply pg_tail.ok <;> first | assumption | omega) | (apply pg_tail.no <;> first | assumption | omega)) | (apply pg_clause.x4 <;> first | assumption | omega | (apply pg_tail.ok <;> first | assumption | omega) | (apply pg_tail.no <;> first | assumption | omega)) | (apply pg_clause.x5 <;> first | assumption | omega | (apply pg_tail.ok <;> first | assumption | omega) | (apply pg_tail.no <;> first | assumption | omega)) | (apply pg_clause.x7 <;> first | assumption | omega | (apply pg_tail.ok <;> first | assumption | omega) | (apply pg_tail.no <;> first | assumption | omega)) | (apply pg_clause.x8 <;> first | assumption | omega | (apply pg_tail.ok <;> first | assumption | omega) | (apply pg_tail.no <;> first | assumption | omega)), by rw [ht]; exact hP9, va_K.moved hW.alike hK9, hD9⟩⟩, hS.F ht⟩) hS.2.2 dX3_readClause_165
                  · skip
                    have fc118 : ¬ (256 ≤ x101.toInt) := fun h9 => c118 (Int32.le_iff_toInt_le.mpr h9)
                    refine lv_aload_n hx hb dX3_readClause_148 rfl (lv_at hl 3 rfl) ?_
                    refine va_get (D := (dC, dI)) (ci := 3) (v := .ref h3) (C := RX3) (T := TX3) (N := 3) hx hb hts (fun _ h => List.mem_cons_of_mem _ (List.mem_append_left _ (List.mem_append_right _ h))) hown hK hP 0 rfl rfl 1 (by decide) (hts (.fieldLink RX3 11 "LeftArguments$LawReader" "code" "[I") (List.mem_cons_of_mem _ (List.mem_append_left _ (List.mem_append_left _ (List.mem_of_getElem? (i := 73) rfl))))) (fun _ h9 => h9) rfl dX3_readClause_149 ?_
                    refine lv_iload_n hx hb dX3_readClause_152 rfl (lv_at hl 0 rfl) ?_
                    refine lv_aload_n hx hb dX3_readClause_153 rfl (lv_at hl 3 rfl) ?_
                    refine va_get (D := (dC, dI)) (ci := 3) (v := .int x116) (C := RX3) (T := TX3) (N := 3) hx hb hts (fun _ h => List.mem_cons_of_mem _ (List.mem_append_left _ (List.mem_append_right _ h))) hown hK hP 0 rfl rfl 2 (by decide) (hts (.fieldLink RX3 15 "LeftArguments$LawReader" "used" "I") (List.mem_cons_of_mem _ (List.mem_append_left _ (List.mem_append_left _ (List.mem_of_getElem? (i := 72) rfl))))) (fun _ h9 => h9) rfl dX3_readClause_154 ?_
                    refine lv_bipush (v := 16) hx hb dX3_readClause_157 (by decide) ?_
                    refine lv_imul hx hb dX3_readClause_159 ?_
                    refine lv_topi (fun t119 et119 => ?_)
                    have gt119 : t119.toInt = x116.toInt * 16 := pv_mul (a := x116.toInt) (b := 16) et119 rfl (by decide) (by omega) (by omega)
                    refine lv_bipush (v := 12) hx hb dX3_readClause_160 (by decide) ?_
                    refine lv_iadd hx hb dX3_readClause_162 ?_
                    refine lv_topi (fun t120 et120 => ?_)
                    have gt120 : t120.toInt = t119.toInt + 12 := pv_add (a := t119.toInt) (b := 12) et120 rfl (by decide) (by omega) (by omega)
                    refine va_iast hx hb hK hP hD hS 3 1 rfl rfl (vp_in_iff.mpr ⟨by omega, by omega⟩) dX3_readClause_163 (fun H locs hP hD hS => ?_)
                    obtain ⟨fn121, efn121⟩ : ∃ g : Nat → Int32, g = upd fn117 (Int32.toNatClampNeg x101) t120 := ⟨_, rfl⟩
                    rw [← efn121] at hP hD
                    have hP : va_P (dC, dI) vwCl (wd_1ad0248d h0 h1 h3 x116 h1 h2 v1 x112 v3 x113 h2 g0 f5 h3 g1 fn121) H := hP
                    have hD : va_D A (wd_1ad0248d h0 h1 h3 x116 h1 h2 v1 x112 v3 x113 h2 g0 f5 h3 g1 fn121) := hD
                    refine lv_iconst (v := 1) hx hb dX3_readClause_164 (by decide) ?_
                    subst hQ
                    have hP9 := hP.sub (ws' := (wd_1ad0248d h0 h1 h3 x116 h1 h2 v1 x112 v3 x113 h2 g0 f5 h3 g1 fn121)) [0, 1, 2, 3] rfl
                    have hD9 := hD.sub (ws' := (wd_1ad0248d h0 h1 h3 x116 h1 h2 v1 x112 v3 x113 h2 g0 f5 h3 g1 fn121)) [0, 1, 2, 3] (by decide) rfl
                    have hK9 := hK.sub (tys' := []) [] rfl
                    exact W.zret (v := 1) hx hb hr rfl (fun t ht hW => ⟨⟨1, 1, rfl, rfl, Or.inl ⟨x116, x112, x113, fn121, oa_x116, ob_x116, oa_x112, ob_x112, by first | omega | decide, by first | omega | decide, by omega, by first | (apply pg_clause.x0 <;> first | assumption | omega | (apply pg_tail.ok <;> first | assumption | omega) | (apply pg_tail.no <;> first | assumption | omega)) | (apply pg_clause.x1 <;> first | assumption | omega | (apply pg_tail.ok <;> first | assumption | omega) | (apply pg_tail.no <;> first | assumption | omega)) | (apply pg_clause.x2 <;> first | assumption | omega | (apply pg_tail.ok <;> first | assumption | omega) | (apply pg_tail.no <;> first | assumption | omega)) | (apply pg_clause.x3 <;> first | assumption | omega | (apply pg_tail.ok <;> first | assumption | omega) | (apply pg_tail.no <;> first | assumption | omega)) | (apply pg_clause.x4 <;> first | assumption | omega | (apply pg_tail.ok <;> first | assumption | omega) | (apply pg_tail.no <;> first | assumption | omega)) | (apply pg_clause.x5 <;> first | assumption | omega | (apply pg_tail.ok <;> first | assumption | omega) | (apply pg_tail.no <;> first | assumption | omega)) | (apply pg_clause.x7 <;> first | assumption | omega | (apply pg_tail.ok <;> first | assumption | omega) | (apply pg_tail.no <;> first | assumption | omega)) | (apply pg_clause.x8 <;> first | assumption | omega | (apply pg_tail.ok <;> first | assumption | omega) | (apply pg_tail.no <;> first | assumption | omega)), by rw [ht]; exact hP9, va_K.moved hW.alike hK9, hD9⟩⟩, hS.F ht⟩) hS.2.2 dX3_readClause_165
                · skip
                  obtain ⟨x122, x123, x124, x125, fn126, oa_x122, ob_x122, oa_x123, ob_x123, oa_x124, ob_x124, pt0_ra110, pt1_ra110, pt2_ra110, pt3_ra110, hP1, hK1, hD1⟩ := hB
                  rw [ht] at hP1
                  obtain ⟨hP2, hD2⟩ := va_join (wr := []) (w1 := (wd_1ad0248d h0 h1 h3 x122 h1 h2 v1 x123 x124 x125 h2 g0 f5 h3 g1 fn126)) hP hD [0, 1, 2, 3] [] rfl rfl (by decide) (by decide) hk1 hFc hP1 hD1
                  clear hP hD hPc hDc hKc hFc hP1 hK1 hD1 hk1 hz1
                  generalize H1 = H at hP2 hS ⊢
                  have hP : va_P (dC, dI) vwCl (wd_1ad0248d h0 h1 h3 x122 h1 h2 v1 x123 x124 x125 h2 g0 f5 h3 g1 fn126) H := hP2
                  have hD : va_D A (wd_1ad0248d h0 h1 h3 x122 h1 h2 v1 x123 x124 x125 h2 g0 f5 h3 g1 fn126) := hD2
                  clear hP2 hD2
                  obtain rfl : ra110 = (0 : Int32) := pv_cs (by decide) pt0_ra110 pt1_ra110
                  refine lv_if_ne (tgt := 134) hx hb dX3_readClause_129 (by decide) (fun c => absurd (by decide) c) (fun _ => ?_)
                  refine lv_iconst (v := 0) hx hb dX3_readClause_132 (by decide) ?_
                  subst hQ
                  have hP9 := hP.sub (ws' := (wd_1ad0248d h0 h1 h3 x122 h1 h2 v1 x123 x124 x125 h2 g0 f5 h3 g1 fn126)) [0, 1, 2, 3] rfl
                  have hD9 := hD.sub (ws' := (wd_1ad0248d h0 h1 h3 x122 h1 h2 v1 x123 x124 x125 h2 g0 f5 h3 g1 fn126)) [0, 1, 2, 3] (by decide) rfl
                  have hK9 := hK.sub (tys' := []) [] rfl
                  exact W.zret (v := 0) hx hb hr rfl (fun t ht hW => ⟨⟨0, 0, rfl, rfl, Or.inr (⟨x122, x123, x124, x125, fn126, oa_x122, ob_x122, oa_x123, ob_x123, oa_x124, ob_x124, by first | omega | decide, by first | omega | decide, by omega, by first | (apply pg_clause.x0 <;> first | assumption | omega | (apply pg_tail.ok <;> first | assumption | omega) | (apply pg_tail.no <;> first | assumption | omega)) | (apply pg_clause.x1 <;> first | assumption | omega | (apply pg_tail.ok <;> first | assumption | omega) | (apply pg_tail.no <;> first | assumption | omega)) | (apply pg_clause.x2 <;> first | assumption | omega | (apply pg_tail.ok <;> first | assumption | omega) | (apply pg_tail.no <;> first | assumption | omega)) | (apply pg_clause.x3 <;> first | assumption | omega | (apply pg_tail.ok <;> first | assumption | omega) | (apply pg_tail.no <;> first | assumption | omega)) | (apply pg_clause.x4 <;> first | assumption | omega | (apply pg_tail.ok <;> first | assumption | omega) | (apply pg_tail.no <;> first | assumption | omega)) | (apply pg_clause.x5 <;> first | assumption | omega | (apply pg_tail.ok <;> first | assumption | omega) | (apply pg_tail.no <;> first | assumption | omega)) | (apply pg_clause.x7 <;> first | assumption | omega | (apply pg_tail.ok <;> first | assumption | omega) | (apply pg_tail.no <;> first | assumption | omega)) | (apply pg_clause.x8 <;> first | assumption | omega | (apply pg_tail.ok <;> first | assumption | omega) | (apply pg_tail.no <;> first | assumption | omega)), by rw [ht]; exact hP9, va_K.moved hW.alike hK9, hD9⟩)⟩, hS.F ht⟩) hS.2.2 dX3_readClause_133
              · skip
                obtain ⟨x127, x128, oa_x127, ob_x127, oa_x128, ob_x128, pt0_ra105, pt1_ra105, pt2_ra105, pt3_ra105, hP1, hK1, hD1⟩ := hB
                rw [ht] at hP1
                obtain ⟨hP2, hD2⟩ := va_join (wr := (wd_b958b9da h0 h1 h3 x101 h3 g1 fn104)) (w1 := (wd_82cdd16b h1 h2 v1 x127 x128 x103 h2 g0 f5)) hP hD [1, 2] [0, 3] rfl rfl (by decide) (by decide) hk1 hFc hP1 hD1
                clear hP hD hPc hDc hKc hFc hP1 hK1 hD1 hk1 hz1
                generalize H1 = H at hP2 hS ⊢
                have hP := hP2.sub (ws' := (wd_1ad0248d h0 h1 h3 x101 h1 h2 v1 x127 x128 x103 h2 g0 f5 h3 g1 fn104)) [0, 2, 3, 1] rfl
                have hD := hD2.sub (ws' := (wd_1ad0248d h0 h1 h3 x101 h1 h2 v1 x127 x128 x103 h2 g0 f5 h3 g1 fn104)) [0, 2, 3, 1] (by decide) rfl
                clear hP2 hD2
                obtain rfl : ra105 = (0 : Int32) := pv_cs (by decide) pt0_ra105 pt1_ra105
                refine lv_if_ne (tgt := 112) hx hb dX3_readClause_107 (by decide) (fun c => absurd (by decide) c) (fun _ => ?_)
                refine lv_iconst (v := 0) hx hb dX3_readClause_110 (by decide) ?_
                subst hQ
                have hP9 := hP.sub (ws' := (wd_1ad0248d h0 h1 h3 x101 h1 h2 v1 x127 x128 x103 h2 g0 f5 h3 g1 fn104)) [0, 1, 2, 3] rfl
                have hD9 := hD.sub (ws' := (wd_1ad0248d h0 h1 h3 x101 h1 h2 v1 x127 x128 x103 h2 g0 f5 h3 g1 fn104)) [0, 1, 2, 3] (by decide) rfl
                have hK9 := hK.sub (tys' := []) [] rfl
                exact W.zret (v := 0) hx hb hr rfl (fun t ht hW => ⟨⟨0, 0, rfl, rfl, Or.inr (⟨x101, x127, x128, x103, fn104, oa_x101, ob_x101, oa_x127, ob_x127, oa_x128, ob_x128, by first | omega | decide, by first | omega | decide, by omega, by first | (apply pg_clause.x0 <;> first | assumption | omega | (apply pg_tail.ok <;> first | assumption | omega) | (apply pg_tail.no <;> first | assumption | omega)) | (apply pg_clause.x1 <;> first | assumption | omega | (apply pg_tail.ok <;> first | assumption | omega) | (apply pg_tail.no <;> first | assumption | omega)) | (apply pg_clause.x2 <;> first | assumption | omega | (apply pg_tail.ok <;> first | assumption | omega) | (apply pg_tail.no <;> first | assumption | omega)) | (apply pg_clause.x3 <;> first | assumption | omega | (apply pg_tail.ok <;> first | assumption | omega) | (apply pg_tail.no <;> first | assumption | omega)) | (apply pg_clause.x4 <;> first | assumption | omega | (apply pg_tail.ok <;> first | assumption | omega) | (apply pg_tail.no <;> first | assumption | omega)) | (apply pg_clause.x5 <;> first | assumption | omega | (apply pg_tail.ok <;> first | assumption | omega) | (apply pg_tail.no <;> first | assumption | omega)) | (apply pg_clause.x7 <;> first | assumption | omega | (apply pg_tail.ok <;> first | assumption | omega) | (apply pg_tail.no <;> first | assumption | omega)) | (apply pg_clause.x8 <;> first | assumption | omega | (apply pg_tail.ok <;> first | assumption | omega) | (apply pg_tail.no <;> first | assumption | omega)), by rw [ht]; exact hP9, va_K.moved hW.alike hK9, hD9⟩)⟩, hS.F ht⟩) hS.2.2 dX3_readClause_111
            · skip
              obtain ⟨x129, x130, x131, x132, fn133, oa_x129, ob_x129, oa_x130, ob_x130, oa_x131, ob_x131, pt0_ra100, pt1_ra100, pt2_ra100, pt3_ra100, hP1, hK1, hD1⟩ := hB
              rw [ht] at hP1
              obtain ⟨hP2, hD2⟩ := va_join (wr := []) (w1 := (wd_1ad0248d h0 h1 h3 x129 h1 h2 v1 x130 x131 x132 h2 g0 f5 h3 g1 fn133)) hP hD [0, 1, 2, 3] [] rfl rfl (by decide) (by decide) hk1 hFc hP1 hD1
              clear hP hD hPc hDc hKc hFc hP1 hK1 hD1 hk1 hz1
              generalize H1 = H at hP2 hS ⊢
              have hP : va_P (dC, dI) vwCl (wd_1ad0248d h0 h1 h3 x129 h1 h2 v1 x130 x131 x132 h2 g0 f5 h3 g1 fn133) H := hP2
              have hD : va_D A (wd_1ad0248d h0 h1 h3 x129 h1 h2 v1 x130 x131 x132 h2 g0 f5 h3 g1 fn133) := hD2
              clear hP2 hD2
              obtain rfl : ra100 = (0 : Int32) := pv_cs (by decide) pt0_ra100 pt1_ra100
              refine lv_if_eq (tgt := 110) hx hb dX3_readClause_95 (by decide) (fun _ => ?_) (fun c => absurd (by decide) c)
              refine lv_iconst (v := 0) hx hb dX3_readClause_110 (by decide) ?_
              subst hQ
              have hP9 := hP.sub (ws' := (wd_1ad0248d h0 h1 h3 x129 h1 h2 v1 x130 x131 x132 h2 g0 f5 h3 g1 fn133)) [0, 1, 2, 3] rfl
              have hD9 := hD.sub (ws' := (wd_1ad0248d h0 h1 h3 x129 h1 h2 v1 x130 x131 x132 h2 g0 f5 h3 g1 fn133)) [0, 1, 2, 3] (by decide) rfl
              have hK9 := hK.sub (tys' := []) [] rfl
              exact W.zret (v := 0) hx hb hr rfl (fun t ht hW => ⟨⟨0, 0, rfl, rfl, Or.inr (⟨x129, x130, x131, x132, fn133, oa_x129, ob_x129, oa_x130, ob_x130, oa_x131, ob_x131, by first | omega | decide, by first | omega | decide, by omega, by first | (apply pg_clause.x0 <;> first | assumption | omega | (apply pg_tail.ok <;> first | assumption | omega) | (apply pg_tail.no <;> first | assumption | omega)) | (apply pg_clause.x1 <;> first | assumption | omega | (apply pg_tail.ok <;> first | assumption | omega) | (apply pg_tail.no <;> first | assumption | omega)) | (apply pg_clause.x2 <;> first | assumption | omega | (apply pg_tail.ok <;> first | assumption | omega) | (apply pg_tail.no <;> first | assumption | omega)) | (apply pg_clause.x3 <;> first | assumption | omega | (apply pg_tail.ok <;> first | assumption | omega) | (apply pg_tail.no <;> first | assumption | omega)) | (apply pg_clause.x4 <;> first | assumption | omega | (apply pg_tail.ok <;> first | assumption | omega) | (apply pg_tail.no <;> first | assumption | omega)) | (apply pg_clause.x5 <;> first | assumption | omega | (apply pg_tail.ok <;> first | assumption | omega) | (apply pg_tail.no <;> first | assumption | omega)) | (apply pg_clause.x7 <;> first | assumption | omega | (apply pg_tail.ok <;> first | assumption | omega) | (apply pg_tail.no <;> first | assumption | omega)) | (apply pg_clause.x8 <;> first | assumption | omega | (apply pg_tail.ok <;> first | assumption | omega) | (apply pg_tail.no <;> first | assumption | omega)), by rw [ht]; exact hP9, va_K.moved hW.alike hK9, hD9⟩)⟩, hS.F ht⟩) hS.2.2 dX3_readClause_111
          · skip
            have fc99 : ¬ (ra5.toInt = 40) := fun h9 => c99 (Int32.toInt_inj.mp h9)
            refine lv_iconst (v := 1) hx hb dX3_readClause_46 (by decide) ?_
            refine lv_goto (tgt := 51) hx hb dX3_readClause_47 (by decide) ?_
            refine lv_istore_n (lv' := [(2, .int 1), (1, .int ra5), (0, .ref h0)]) hx hb dX3_readClause_51 rfl hl (by decide) rfl (fun ls hl => ?_)
            refine lv_iload_n hx hb dX3_readClause_52 rfl (lv_at hl 0 rfl) ?_
            refine lv_if_eq (tgt := 89) hx hb dX3_readClause_53 (by decide) (fun c => absurd c (by decide)) (fun _ => ?_)
            refine lv_aload_n hx hb dX3_readClause_56 rfl (lv_at hl 2 rfl) ?_
            refine lv_iconst (v := 0) hx hb dX3_readClause_57 (by decide) ?_
            have hPc := hP.sub (ws' := (wd_1ad0248d h0 h1 h3 v0 h1 h2 v1 x63 v3 v4 h2 g0 f5 h3 g1 f6)) [0, 1, 2, 3] rfl
            have hDc := hD.sub (ws' := (wd_1ad0248d h0 h1 h3 v0 h1 h2 v1 x63 v3 v4 h2 g0 f5 h3 g1 f6)) [0, 1, 2, 3] (by decide) rfl
            have hKc := hK.sub (tys' := [(g0, .int), (g1, .int)]) [0, 1] rfl
            have hFc := va_free (wc := (wd_1ad0248d h0 h1 h3 v0 h1 h2 v1 x63 v3 v4 h2 g0 f5 h3 g1 f6)) hD hS hA [0, 1, 2, 3] rfl
            refine va_calli (va_runV (As := [.int 0]) (rest := []) ⟨hx, hb, hml, hown, hts⟩ (k_X3_readSum_6 l dC dI adK adV h0 h1 h2 h3 v0 v1 x63 v3 v4 g0 f5 g1 f6 ⟨i_v0a, i_v0b⟩ ⟨i_v1a, i_v1b⟩ ⟨oa_x63, by first | omega | decide⟩ ia_f5 H.size) (cwV 1 hts g_X3_readClause_3 rfl rfl rfl (by decide +kernel) ⟨Nat.le_of_ble_eq_true rfl, Nat.le_of_ble_eq_true rfl⟩) ⟨fun a U g mk q => by obtain ⟨q0, q1, qP, qK, qD, n0, n1, n2⟩ := q; exact ⟨q0, q1, qP, va_K.moved (u := U) (U := U.calling g mk a) (Vm.Alike.refl U.vm) qK, qD, vk_R.same rfl n0, va_Z.moved (Vm.Alike.refl _) n1, vk_S.moved (Vm.Alike.refl _) n2⟩, pv_rc3 hKc hPc (q0 := 0) rfl, fun U hU hW => ⟨rfl, by rw [hU], by rw [hU]; exact hPc, va_K.moved hW.alike hKc, hDc.weaken (fun _ _ _ _ => trivial), vk_R.warm hW h_vr_2, (by rw [hU]; exact (va_Z.moved hW.alike (va_Z.kept h_st_CS hS.2.1)).narrow hFc), (by rw [hU]; exact (vk_S.moved hW.alike (vk_S.kept h_st_S hS.2.1)).narrow hFc)⟩⟩ rfl rfl hl.1 rfl (lv_room (Nat.le_of_ble_eq_true rfl)) dX3_readClause_58 ⟨Nat.le_of_ble_eq_true rfl, Nat.le_of_ble_eq_true rfl⟩) hS (fun q _ h => hFc q h) hFc (fun ra134 u t H1 locs ht hvm hwra134 hB hz1 hk1 hS => ?_)
            try rw [hwra134] at hB
            rcases hB with hB | hB
            · skip
              obtain ⟨x135, x136, x137, fn138, oa_x135, ob_x135, oa_x136, ob_x136, pt0_ra134, pt1_ra134, pt2_ra134, pt3_ra134, hP1, hK1, hD1⟩ := hB
              rw [ht] at hP1
              obtain ⟨hP2, hD2⟩ := va_join (wr := []) (w1 := (wd_1ad0248d h0 h1 h3 x135 h1 h2 v1 x136 v3 x137 h2 g0 f5 h3 g1 fn138)) hP hD [0, 1, 2, 3] [] rfl rfl (by decide) (by decide) hk1 hFc hP1 hD1
              clear hP hD hPc hDc hKc hFc hP1 hK1 hD1 hk1 hz1
              generalize H1 = H at hP2 hS ⊢
              have hP : va_P (dC, dI) vwCl (wd_1ad0248d h0 h1 h3 x135 h1 h2 v1 x136 v3 x137 h2 g0 f5 h3 g1 fn138) H := hP2
              have hD : va_D A (wd_1ad0248d h0 h1 h3 x135 h1 h2 v1 x136 v3 x137 h2 g0 f5 h3 g1 fn138) := hD2
              clear hP2 hD2
              obtain rfl : ra134 = (1 : Int32) := pv_cs (by decide) pt0_ra134 pt1_ra134
              refine lv_if_ne (tgt := 66) hx hb dX3_readClause_61 (by decide) (fun _ => ?_) (fun c => absurd c (by decide))
              refine lv_aload_n hx hb dX3_readClause_66 rfl (lv_at hl 2 rfl) ?_
              refine va_get (D := (dC, dI)) (ci := 3) (v := .ref h1) (C := RX3) (T := TX3) (N := 3) hx hb hts (fun _ h => List.mem_cons_of_mem _ (List.mem_append_left _ (List.mem_append_right _ h))) hown hK hP 0 rfl rfl 0 (by decide) (hts (.fieldLink RX3 19 "LeftArguments$LawReader" "tape" "LLeftArguments$Tape;") (List.mem_cons_of_mem _ (List.mem_append_left _ (List.mem_append_left _ (List.mem_of_getElem? (i := 0) rfl))))) (fun _ h9 => h9) rfl dX3_readClause_67 ?_
              have hPc := hP.sub (ws' := (wd_82cdd16b h1 h2 v1 x136 v3 x137 h2 g0 f5)) [1, 2] rfl
              have hDc := hD.sub (ws' := (wd_82cdd16b h1 h2 v1 x136 v3 x137 h2 g0 f5)) [1, 2] (by decide) rfl
              have hKc := hK.sub (tys' := [(g0, .int)]) [0] rfl
              have hFc := va_free (wc := (wd_82cdd16b h1 h2 v1 x136 v3 x137 h2 g0 f5)) hD hS hA [1, 2] rfl
              refine va_calli (va_runV (As := []) (rest := []) ⟨hx, hb, hml, hown, hts⟩ (k_X10_next l dC dI h1 h2 v1 x136 v3 x137 g0 f5 ⟨i_v1a, i_v1b⟩ ⟨oa_x136, ob_x136⟩ ia_f5 H.size) (cwV 0 hts g_X3_readClause_2 rfl rfl rfl (by decide +kernel) ⟨Nat.le_of_ble_eq_true rfl, Nat.le_of_ble_eq_true rfl⟩) (pv_PV10 hPc hKc hDc (q0 := 0) rfl) rfl rfl hl.1 rfl (lv_room (Nat.le_of_ble_eq_true rfl)) dX3_readClause_70 ⟨Nat.le_of_ble_eq_true rfl, Nat.le_of_ble_eq_true rfl⟩) hS (fun q _ h => hFc q h) hFc (fun ra139 u t H1 locs ht hvm hwra139 hB hz1 hk1 hS => ?_)
              try rw [hwra139] at hB
              rcases hB with hB | hB
              · skip
                obtain ⟨x140, oa_x140, ob_x140, pt0_ra139, pt1_ra139, pt2_ra139, pt3_ra139, pt4_ra139, pt5_ra139, pt6_ra139, hP1, hK1, hD1⟩ := hB
                rw [ht] at hP1
                obtain ⟨hP2, hD2⟩ := va_join (wr := (wd_b958b9da h0 h1 h3 x135 h3 g1 fn138)) (w1 := (wd_82cdd16b h1 h2 v1 x140 v3 x137 h2 g0 f5)) hP hD [1, 2] [0, 3] rfl rfl (by decide) (by decide) hk1 hFc hP1 hD1
                clear hP hD hPc hDc hKc hFc hP1 hK1 hD1 hk1 hz1
                generalize H1 = H at hP2 hS ⊢
                have hP := hP2.sub (ws' := (wd_1ad0248d h0 h1 h3 x135 h1 h2 v1 x140 v3 x137 h2 g0 f5 h3 g1 fn138)) [0, 2, 3, 1] rfl
                have hD := hD2.sub (ws' := (wd_1ad0248d h0 h1 h3 x135 h1 h2 v1 x140 v3 x137 h2 g0 f5 h3 g1 fn138)) [0, 2, 3, 1] (by decide) rfl
                clear hP2 hD2
                obtain rfl : ra139 = ((-1) : Int32) := pv_cs (by decide) pt0_ra139 pt1_ra139
                have hPc := hP.sub (ws' := []) [] rfl
                have hDc := hD.sub (ws' := []) [] (by decide) rfl
                have hKc := hK.sub (tys' := []) [] rfl
                have hFc := va_free (wc := []) hD hS hA [] rfl
                refine va_calli (va_runS (As := [.int (-1)]) (rest := []) ⟨hx, hb, hml, hown, hts⟩ (k_X3_comparing l dC dI   H.size) (va_cwS 1 hts g_X3_readClause_5 rfl rfl rfl (by decide +kernel) ⟨Nat.le_of_ble_eq_true rfl, Nat.le_of_ble_eq_true rfl⟩) (pv_PS hPc hKc hDc) rfl rfl hl.1 rfl (lv_room (Nat.le_of_ble_eq_true rfl)) dX3_readClause_73 ⟨Nat.le_of_ble_eq_true rfl, Nat.le_of_ble_eq_true rfl⟩) hS (fun q _ h => hFc q h) hFc (fun ra141 u t H1 locs ht hvm hwra141 hB hz1 hk1 hS => ?_)
                try rw [hwra141] at hB
                obtain ⟨pt0_ra141, pt1_ra141, hP1, hK1, hD1⟩ := hB
                rw [ht] at hP1
                obtain ⟨hP2, hD2⟩ := va_join (wr := (wd_1ad0248d h0 h1 h3 x135 h1 h2 v1 x140 v3 x137 h2 g0 f5 h3 g1 fn138)) (w1 := []) hP hD [] [0, 1, 2, 3] rfl rfl (by decide) (by decide) hk1 hFc hP1 hD1
                clear hP hD hPc hDc hKc hFc hP1 hK1 hD1 hk1 hz1
                generalize H1 = H at hP2 hS ⊢
                have hP : va_P (dC, dI) vwCl (wd_1ad0248d h0 h1 h3 x135 h1 h2 v1 x140 v3 x137 h2 g0 f5 h3 g1 fn138) H := hP2
                have hD : va_D A (wd_1ad0248d h0 h1 h3 x135 h1 h2 v1 x140 v3 x137 h2 g0 f5 h3 g1 fn138) := hD2
                clear hP2 hD2
                obtain rfl : ra141 = ((-1) : Int32) := pv_cs (by decide) pt0_ra141 pt1_ra141
                refine lv_iconst (v := (-1)) hx hb dX3_readClause_76 (by decide) ?_
                refine lv_icmp_ne (tgt := 89) hx hb dX3_readClause_77 (by decide) (fun c => absurd (by decide) c) (fun _ => ?_)
                refine lv_aload_n hx hb dX3_readClause_80 rfl (lv_at hl 2 rfl) ?_
                refine lv_bipush (v := 13) hx hb dX3_readClause_81 (by decide) ?_
                refine lv_iconst (v := 0) hx hb dX3_readClause_83 (by decide) ?_
                have hPc := hP.sub (ws' := (wd_b958b9da h0 h1 h3 x135 h3 g1 fn138)) [0, 3] rfl
                have hDc := hD.sub (ws' := (wd_b958b9da h0 h1 h3 x135 h3 g1 fn138)) [0, 3] (by decide) rfl
                have hKc := hK.sub (tys' := [(g1, .int)]) [1] rfl
                have hFc := va_free (wc := (wd_b958b9da h0 h1 h3 x135 h3 g1 fn138)) hD hS hA [0, 3] rfl
                refine va_callv (va_runV (As := [.int 13, .int 0]) (rest := []) ⟨hx, hb, hml, hown, hts⟩ (k_X3_write l dC dI h0 h3 h1 x135 g1 fn138 13 0 ⟨oa_x135, ob_x135⟩ H.size) (cwV 2 hts g_X3_readClause_6 rfl rfl rfl (by decide +kernel) ⟨Nat.le_of_ble_eq_true rfl, Nat.le_of_ble_eq_true rfl⟩) (pv_PV3 hPc hKc hDc (q0 := 0) rfl) rfl rfl hl.1 rfl (lv_room (Nat.le_of_ble_eq_true rfl)) dX3_readClause_84 ⟨Nat.le_of_ble_eq_true rfl, Nat.le_of_ble_eq_true rfl⟩) hS (fun q _ h => hFc q h) hFc (fun u t H1 locs ht hvm hwra142 hB hz1 hk1 hS => ?_)
                obtain ⟨x143, fn144, oa_x143, ob_x143, hP1, hK1, hD1⟩ := hB
                rw [ht] at hP1
                obtain ⟨hP2, hD2⟩ := va_join (wr := (wd_82cdd16b h1 h2 v1 x140 v3 x137 h2 g0 f5)) (w1 := (wd_b958b9da h0 h1 h3 x143 h3 g1 fn144)) hP hD [0, 3] [1, 2] rfl rfl (by decide) (by decide) hk1 hFc hP1 hD1
                clear hP hD hPc hDc hKc hFc hP1 hK1 hD1 hk1 hz1
                generalize H1 = H at hP2 hS ⊢
                have hP := hP2.sub (ws' := (wd_1ad0248d h0 h1 h3 x143 h1 h2 v1 x140 v3 x137 h2 g0 f5 h3 g1 fn144)) [2, 0, 1, 3] rfl
                have hD := hD2.sub (ws' := (wd_1ad0248d h0 h1 h3 x143 h1 h2 v1 x140 v3 x137 h2 g0 f5 h3 g1 fn144)) [2, 0, 1, 3] (by decide) rfl
                clear hP2 hD2
                refine lv_iconst (v := 1) hx hb dX3_readClause_87 (by decide) ?_
                subst hQ
                have hP9 := hP.sub (ws' := (wd_1ad0248d h0 h1 h3 x143 h1 h2 v1 x140 v3 x137 h2 g0 f5 h3 g1 fn144)) [0, 1, 2, 3] rfl
                have hD9 := hD.sub (ws' := (wd_1ad0248d h0 h1 h3 x143 h1 h2 v1 x140 v3 x137 h2 g0 f5 h3 g1 fn144)) [0, 1, 2, 3] (by decide) rfl
                have hK9 := hK.sub (tys' := []) [] rfl
                exact W.zret (v := 1) hx hb hr rfl (fun t ht hW => ⟨⟨1, 1, rfl, rfl, Or.inl ⟨x143, x140, x137, fn144, oa_x143, ob_x143, oa_x140, ob_x140, by first | omega | decide, by first | omega | decide, by omega, by first | (apply pg_clause.x0 <;> first | assumption | omega | (apply pg_tail.ok <;> first | assumption | omega) | (apply pg_tail.no <;> first | assumption | omega)) | (apply pg_clause.x1 <;> first | assumption | omega | (apply pg_tail.ok <;> first | assumption | omega) | (apply pg_tail.no <;> first | assumption | omega)) | (apply pg_clause.x2 <;> first | assumption | omega | (apply pg_tail.ok <;> first | assumption | omega) | (apply pg_tail.no <;> first | assumption | omega)) | (apply pg_clause.x3 <;> first | assumption | omega | (apply pg_tail.ok <;> first | assumption | omega) | (apply pg_tail.no <;> first | assumption | omega)) | (apply pg_clause.x4 <;> first | assumption | omega | (apply pg_tail.ok <;> first | assumption | omega) | (apply pg_tail.no <;> first | assumption | omega)) | (apply pg_clause.x5 <;> first | assumption | omega | (apply pg_tail.ok <;> first | assumption | omega) | (apply pg_tail.no <;> first | assumption | omega)) | (apply pg_clause.x7 <;> first | assumption | omega | (apply pg_tail.ok <;> first | assumption | omega) | (apply pg_tail.no <;> first | assumption | omega)) | (apply pg_clause.x8 <;> first | assumption | omega | (apply pg_tail.ok <;> first | assumption | omega) | (apply pg_tail.no <;> first | assumption | omega)), by rw [ht]; exact hP9, va_K.moved hW.alike hK9, hD9⟩⟩, hS.F ht⟩) hS.2.2 dX3_readClause_88
              · skip
                obtain ⟨x145, oa_x145, ob_x145, pt0_ra139, pt1_ra139, pt2_ra139, pt3_ra139, pt4_ra139, pt5_ra139, pt6_ra139, hP1, hK1, hD1⟩ := hB
                rw [ht] at hP1
                obtain ⟨hP2, hD2⟩ := va_join (wr := (wd_b958b9da h0 h1 h3 x135 h3 g1 fn138)) (w1 := (wd_82cdd16b h1 h2 v1 x145 v3 x137 h2 g0 f5)) hP hD [1, 2] [0, 3] rfl rfl (by decide) (by decide) hk1 hFc hP1 hD1
                clear hP hD hPc hDc hKc hFc hP1 hK1 hD1 hk1 hz1
                generalize H1 = H at hP2 hS ⊢
                have hP := hP2.sub (ws' := (wd_1ad0248d h0 h1 h3 x135 h1 h2 v1 x145 v3 x137 h2 g0 f5 h3 g1 fn138)) [0, 2, 3, 1] rfl
                have hD := hD2.sub (ws' := (wd_1ad0248d h0 h1 h3 x135 h1 h2 v1 x145 v3 x137 h2 g0 f5 h3 g1 fn138)) [0, 2, 3, 1] (by decide) rfl
                clear hP2 hD2
                have hPc := hP.sub (ws' := []) [] rfl
                have hDc := hD.sub (ws' := []) [] (by decide) rfl
                have hKc := hK.sub (tys' := []) [] rfl
                have hFc := va_free (wc := []) hD hS hA [] rfl
                refine va_calli (va_runS (As := [.int ra139]) (rest := []) ⟨hx, hb, hml, hown, hts⟩ (k_X3_comparing_1 l dC dI ra139  H.size) (va_cwS 1 hts g_X3_readClause_7 rfl rfl rfl (by decide +kernel) ⟨Nat.le_of_ble_eq_true rfl, Nat.le_of_ble_eq_true rfl⟩) (pv_PS hPc hKc hDc) rfl rfl hl.1 rfl (lv_room (Nat.le_of_ble_eq_true rfl)) dX3_readClause_73 ⟨Nat.le_of_ble_eq_true rfl, Nat.le_of_ble_eq_true rfl⟩) hS (fun q _ h => hFc q h) hFc (fun ra146 u t H1 locs ht hvm hwra146 hB hz1 hk1 hS => ?_)
                try rw [hwra146] at hB
                obtain ⟨pt0_ra146, pt1_ra146, pt2_ra146, hP1, hK1, hD1⟩ := hB
                rw [ht] at hP1
                obtain ⟨hP2, hD2⟩ := va_join (wr := (wd_1ad0248d h0 h1 h3 x135 h1 h2 v1 x145 v3 x137 h2 g0 f5 h3 g1 fn138)) (w1 := []) hP hD [] [0, 1, 2, 3] rfl rfl (by decide) (by decide) hk1 hFc hP1 hD1
                clear hP hD hPc hDc hKc hFc hP1 hK1 hD1 hk1 hz1
                generalize H1 = H at hP2 hS ⊢
                have hP : va_P (dC, dI) vwCl (wd_1ad0248d h0 h1 h3 x135 h1 h2 v1 x145 v3 x137 h2 g0 f5 h3 g1 fn138) H := hP2
                have hD : va_D A (wd_1ad0248d h0 h1 h3 x135 h1 h2 v1 x145 v3 x137 h2 g0 f5 h3 g1 fn138) := hD2
                clear hP2 hD2
                refine lv_iconst (v := (-1)) hx hb dX3_readClause_76 (by decide) ?_
                refine lv_icmp_ne (tgt := 89) hx hb dX3_readClause_77 (by decide) (fun c147 => ?_) (fun c147 => ?_)
                · skip
                  have fc147 : ¬ (ra146.toInt = (-1)) := fun h9 => c147 (Int32.toInt_inj.mp h9)
                  refine lv_aload_n hx hb dX3_readClause_89 rfl (lv_at hl 2 rfl) ?_
                  refine lv_iconst (v := 0) hx hb dX3_readClause_90 (by decide) ?_
                  refine lv_iload_n hx hb dX3_readClause_91 rfl (lv_at hl 0 rfl) ?_
                  have hPc := hP.sub (ws' := (wd_1ad0248d h0 h1 h3 x135 h1 h2 v1 x145 v3 x137 h2 g0 f5 h3 g1 fn138)) [0, 1, 2, 3] rfl
                  have hDc := hD.sub (ws' := (wd_1ad0248d h0 h1 h3 x135 h1 h2 v1 x145 v3 x137 h2 g0 f5 h3 g1 fn138)) [0, 1, 2, 3] (by decide) rfl
                  have hKc := hK.sub (tys' := [(g0, .int), (g1, .int)]) [0, 1] rfl
                  have hFc := va_free (wc := (wd_1ad0248d h0 h1 h3 x135 h1 h2 v1 x145 v3 x137 h2 g0 f5 h3 g1 fn138)) hD hS hA [0, 1, 2, 3] rfl
                  refine va_calli (va_runV (As := [.int 0, .int 1]) (rest := []) ⟨hx, hb, hml, hown, hts⟩ (k_X3_readCondition_6 l dC dI adK adV h0 h1 h2 h3 x135 v1 x145 v3 x137 g0 f5 g1 fn138 ⟨oa_x135, ob_x135⟩ ⟨i_v1a, i_v1b⟩ ⟨oa_x145, by first | omega | decide⟩ ia_f5 H.size) (cwV 2 hts g_X3_readClause_8 rfl rfl rfl (by decide +kernel) ⟨Nat.le_of_ble_eq_true rfl, Nat.le_of_ble_eq_true rfl⟩) ⟨fun a U g mk q => by obtain ⟨q0, q1, qP, qK, qD, n0, n1, n2⟩ := q; exact ⟨q0, q1, qP, va_K.moved (u := U) (U := U.calling g mk a) (Vm.Alike.refl U.vm) qK, qD, vk_R.same rfl n0, va_Z.moved (Vm.Alike.refl _) n1, vk_S.moved (Vm.Alike.refl _) n2⟩, pv_rc3 hKc hPc (q0 := 0) rfl, fun U hU hW => ⟨rfl, by rw [hU], by rw [hU]; exact hPc, va_K.moved hW.alike hKc, hDc.weaken (fun _ _ _ _ => trivial), vk_R.warm hW h_vr_2, (by rw [hU]; exact (va_Z.moved hW.alike (va_Z.kept h_st_CS hS.2.1)).narrow hFc), (by rw [hU]; exact (vk_S.moved hW.alike (vk_S.kept h_st_S hS.2.1)).narrow hFc)⟩⟩ rfl rfl hl.1 rfl (lv_room (Nat.le_of_ble_eq_true rfl)) dX3_readClause_92 ⟨Nat.le_of_ble_eq_true rfl, Nat.le_of_ble_eq_true rfl⟩) hS (fun q _ h => hFc q h) hFc (fun ra148 u t H1 locs ht hvm hwra148 hB hz1 hk1 hS => ?_)
                  try rw [hwra148] at hB
                  rcases hB with hB | hB
                  · skip
                    obtain ⟨x149, x150, x151, fn152, oa_x149, ob_x149, oa_x150, ob_x150, pt0_ra148, pt1_ra148, pt2_ra148, pt3_ra148, hP1, hK1, hD1⟩ := hB
                    rw [ht] at hP1
                    obtain ⟨hP2, hD2⟩ := va_join (wr := []) (w1 := (wd_1ad0248d h0 h1 h3 x149 h1 h2 v1 x150 v3 x151 h2 g0 f5 h3 g1 fn152)) hP hD [0, 1, 2, 3] [] rfl rfl (by decide) (by decide) hk1 hFc hP1 hD1
                    clear hP hD hPc hDc hKc hFc hP1 hK1 hD1 hk1 hz1
                    generalize H1 = H at hP2 hS ⊢
                    have hP : va_P (dC, dI) vwCl (wd_1ad0248d h0 h1 h3 x149 h1 h2 v1 x150 v3 x151 h2 g0 f5 h3 g1 fn152) H := hP2
                    have hD : va_D A (wd_1ad0248d h0 h1 h3 x149 h1 h2 v1 x150 v3 x151 h2 g0 f5 h3 g1 fn152) := hD2
                    clear hP2 hD2
                    obtain rfl : ra148 = (1 : Int32) := pv_cs (by decide) pt0_ra148 pt1_ra148
                    refine lv_if_eq (tgt := 110) hx hb dX3_readClause_95 (by decide) (fun c => absurd c (by decide)) (fun _ => ?_)
                    refine lv_aload_n hx hb dX3_readClause_98 rfl (lv_at hl 2 rfl) ?_
                    refine va_get (D := (dC, dI)) (ci := 3) (v := .ref h1) (C := RX3) (T := TX3) (N := 3) hx hb hts (fun _ h => List.mem_cons_of_mem _ (List.mem_append_left _ (List.mem_append_right _ h))) hown hK hP 0 rfl rfl 0 (by decide) (hts (.fieldLink RX3 19 "LeftArguments$LawReader" "tape" "LLeftArguments$Tape;") (List.mem_cons_of_mem _ (List.mem_append_left _ (List.mem_append_left _ (List.mem_of_getElem? (i := 0) rfl))))) (fun _ h9 => h9) rfl dX3_readClause_99 ?_
                    refine lv_bipush (v := 63) hx hb dX3_readClause_102 (by decide) ?_
                    have hPc := hP.sub (ws' := (wd_82cdd16b h1 h2 v1 x150 v3 x151 h2 g0 f5)) [1, 2] rfl
                    have hDc := hD.sub (ws' := (wd_82cdd16b h1 h2 v1 x150 v3 x151 h2 g0 f5)) [1, 2] (by decide) rfl
                    have hKc := hK.sub (tys' := [(g0, .int)]) [0] rfl
                    have hFc := va_free (wc := (wd_82cdd16b h1 h2 v1 x150 v3 x151 h2 g0 f5)) hD hS hA [1, 2] rfl
                    refine va_calli (va_runV (As := [.int 63]) (rest := []) ⟨hx, hb, hml, hown, hts⟩ (k_X10_take_4 l dC dI h1 h2 v1 x150 v3 x151 g0 f5 ⟨i_v1a, i_v1b⟩ ⟨oa_x150, ob_x150⟩ ia_f5 H.size) (cwV 1 hts g_X3_readClause_9 rfl rfl rfl (by decide +kernel) ⟨Nat.le_of_ble_eq_true rfl, Nat.le_of_ble_eq_true rfl⟩) (pv_PV10 hPc hKc hDc (q0 := 0) rfl) rfl rfl hl.1 rfl (lv_room (Nat.le_of_ble_eq_true rfl)) dX3_readClause_104 ⟨Nat.le_of_ble_eq_true rfl, Nat.le_of_ble_eq_true rfl⟩) hS (fun q _ h => hFc q h) hFc (fun ra153 u t H1 locs ht hvm hwra153 hB hz1 hk1 hS => ?_)
                    try rw [hwra153] at hB
                    rcases hB with hB | hB
                    · skip
                      obtain ⟨x154, oa_x154, ob_x154, pt0_ra153, pt1_ra153, pt2_ra153, pt3_ra153, hP1, hK1, hD1⟩ := hB
                      rw [ht] at hP1
                      obtain ⟨hP2, hD2⟩ := va_join (wr := (wd_b958b9da h0 h1 h3 x149 h3 g1 fn152)) (w1 := (wd_82cdd16b h1 h2 v1 x154 v3 x151 h2 g0 f5)) hP hD [1, 2] [0, 3] rfl rfl (by decide) (by decide) hk1 hFc hP1 hD1
                      clear hP hD hPc hDc hKc hFc hP1 hK1 hD1 hk1 hz1
                      generalize H1 = H at hP2 hS ⊢
                      have hP := hP2.sub (ws' := (wd_1ad0248d h0 h1 h3 x149 h1 h2 v1 x154 v3 x151 h2 g0 f5 h3 g1 fn152)) [0, 2, 3, 1] rfl
                      have hD := hD2.sub (ws' := (wd_1ad0248d h0 h1 h3 x149 h1 h2 v1 x154 v3 x151 h2 g0 f5 h3 g1 fn152)) [0, 2, 3, 1] (by decide) rfl
                      clear hP2 hD2
                      obtain rfl : ra153 = (1 : Int32) := pv_cs (by decide) pt0_ra153 pt1_ra153
                      refine lv_if_ne (tgt := 112) hx hb dX3_readClause_107 (by decide) (fun _ => ?_) (fun c => absurd c (by decide))
                      refine lv_aload_n hx hb dX3_readClause_112 rfl (lv_at hl 2 rfl) ?_
                      refine va_get (D := (dC, dI)) (ci := 3) (v := .int x149) (C := RX3) (T := TX3) (N := 3) hx hb hts (fun _ h => List.mem_cons_of_mem _ (List.mem_append_left _ (List.mem_append_right _ h))) hown hK hP 0 rfl rfl 2 (by decide) (hts (.fieldLink RX3 15 "LeftArguments$LawReader" "used" "I") (List.mem_cons_of_mem _ (List.mem_append_left _ (List.mem_append_left _ (List.mem_of_getElem? (i := 72) rfl))))) (fun _ h9 => h9) rfl dX3_readClause_113 ?_
                      refine lv_istore_n (lv' := [(3, .int x149), (2, .int 1), (1, .int ra5), (0, .ref h0)]) hx hb dX3_readClause_116 rfl hl (by decide) rfl (fun ls hl => ?_)
                      refine lv_aload_n hx hb dX3_readClause_117 rfl (lv_at hl 3 rfl) ?_
                      refine lv_bipush (v := 12) hx hb dX3_readClause_118 (by decide) ?_
                      refine lv_iconst (v := 0) hx hb dX3_readClause_120 (by decide) ?_
                      have hPc := hP.sub (ws' := (wd_b958b9da h0 h1 h3 x149 h3 g1 fn152)) [0, 3] rfl
                      have hDc := hD.sub (ws' := (wd_b958b9da h0 h1 h3 x149 h3 g1 fn152)) [0, 3] (by decide) rfl
                      have hKc := hK.sub (tys' := [(g1, .int)]) [1] rfl
                      have hFc := va_free (wc := (wd_b958b9da h0 h1 h3 x149 h3 g1 fn152)) hD hS hA [0, 3] rfl
                      refine va_callv (va_runV (As := [.int 12, .int 0]) (rest := []) ⟨hx, hb, hml, hown, hts⟩ (k_X3_write l dC dI h0 h3 h1 x149 g1 fn152 12 0 ⟨oa_x149, ob_x149⟩ H.size) (cwV 2 hts g_X3_readClause_6 rfl rfl rfl (by decide +kernel) ⟨Nat.le_of_ble_eq_true rfl, Nat.le_of_ble_eq_true rfl⟩) (pv_PV3 hPc hKc hDc (q0 := 0) rfl) rfl rfl hl.1 rfl (lv_room (Nat.le_of_ble_eq_true rfl)) dX3_readClause_121 ⟨Nat.le_of_ble_eq_true rfl, Nat.le_of_ble_eq_true rfl⟩) hS (fun q _ h => hFc q h) hFc (fun u t H1 locs ht hvm hwra155 hB hz1 hk1 hS => ?_)
                      obtain ⟨x156, fn157, oa_x156, ob_x156, hP1, hK1, hD1⟩ := hB
                      rw [ht] at hP1
                      obtain ⟨hP2, hD2⟩ := va_join (wr := (wd_82cdd16b h1 h2 v1 x154 v3 x151 h2 g0 f5)) (w1 := (wd_b958b9da h0 h1 h3 x156 h3 g1 fn157)) hP hD [0, 3] [1, 2] rfl rfl (by decide) (by decide) hk1 hFc hP1 hD1
                      clear hP hD hPc hDc hKc hFc hP1 hK1 hD1 hk1 hz1
                      generalize H1 = H at hP2 hS ⊢
                      have hP := hP2.sub (ws' := (wd_1ad0248d h0 h1 h3 x156 h1 h2 v1 x154 v3 x151 h2 g0 f5 h3 g1 fn157)) [2, 0, 1, 3] rfl
                      have hD := hD2.sub (ws' := (wd_1ad0248d h0 h1 h3 x156 h1 h2 v1 x154 v3 x151 h2 g0 f5 h3 g1 fn157)) [2, 0, 1, 3] (by decide) rfl
                      clear hP2 hD2
                      refine lv_aload_n hx hb dX3_readClause_124 rfl (lv_at hl 3 rfl) ?_
                      refine lv_iconst (v := 0) hx hb dX3_readClause_125 (by decide) ?_
                      have hPc := hP.sub (ws' := (wd_1ad0248d h0 h1 h3 x156 h1 h2 v1 x154 v3 x151 h2 g0 f5 h3 g1 fn157)) [0, 1, 2, 3] rfl
                      have hDc := hD.sub (ws' := (wd_1ad0248d h0 h1 h3 x156 h1 h2 v1 x154 v3 x151 h2 g0 f5 h3 g1 fn157)) [0, 1, 2, 3] (by decide) rfl
                      have hKc := hK.sub (tys' := [(g0, .int), (g1, .int)]) [0, 1] rfl
                      have hFc := va_free (wc := (wd_1ad0248d h0 h1 h3 x156 h1 h2 v1 x154 v3 x151 h2 g0 f5 h3 g1 fn157)) hD hS hA [0, 1, 2, 3] rfl
                      refine va_calli (va_runV (As := [.int 0]) (rest := []) ⟨hx, hb, hml, hown, hts⟩ (k_X3_readSum_6 l dC dI adK adV h0 h1 h2 h3 x156 v1 x154 v3 x151 g0 f5 g1 fn157 ⟨oa_x156, ob_x156⟩ ⟨i_v1a, i_v1b⟩ ⟨by first | omega | decide, ob_x154⟩ ia_f5 H.size) (cwV 1 hts g_X3_readClause_3 rfl rfl rfl (by decide +kernel) ⟨Nat.le_of_ble_eq_true rfl, Nat.le_of_ble_eq_true rfl⟩) ⟨fun a U g mk q => by obtain ⟨q0, q1, qP, qK, qD, n0, n1, n2⟩ := q; exact ⟨q0, q1, qP, va_K.moved (u := U) (U := U.calling g mk a) (Vm.Alike.refl U.vm) qK, qD, vk_R.same rfl n0, va_Z.moved (Vm.Alike.refl _) n1, vk_S.moved (Vm.Alike.refl _) n2⟩, pv_rc3 hKc hPc (q0 := 0) rfl, fun U hU hW => ⟨rfl, by rw [hU], by rw [hU]; exact hPc, va_K.moved hW.alike hKc, hDc.weaken (fun _ _ _ _ => trivial), vk_R.warm hW h_vr_2, (by rw [hU]; exact (va_Z.moved hW.alike (va_Z.kept h_st_CS hS.2.1)).narrow hFc), (by rw [hU]; exact (vk_S.moved hW.alike (vk_S.kept h_st_S hS.2.1)).narrow hFc)⟩⟩ rfl rfl hl.1 rfl (lv_room (Nat.le_of_ble_eq_true rfl)) dX3_readClause_126 ⟨Nat.le_of_ble_eq_true rfl, Nat.le_of_ble_eq_true rfl⟩) hS (fun q _ h => hFc q h) hFc (fun ra158 u t H1 locs ht hvm hwra158 hB hz1 hk1 hS => ?_)
                      try rw [hwra158] at hB
                      rcases hB with hB | hB
                      · skip
                        obtain ⟨x159, x160, x161, fn162, oa_x159, ob_x159, oa_x160, ob_x160, pt0_ra158, pt1_ra158, pt2_ra158, pt3_ra158, hP1, hK1, hD1⟩ := hB
                        rw [ht] at hP1
                        obtain ⟨hP2, hD2⟩ := va_join (wr := []) (w1 := (wd_1ad0248d h0 h1 h3 x159 h1 h2 v1 x160 v3 x161 h2 g0 f5 h3 g1 fn162)) hP hD [0, 1, 2, 3] [] rfl rfl (by decide) (by decide) hk1 hFc hP1 hD1
                        clear hP hD hPc hDc hKc hFc hP1 hK1 hD1 hk1 hz1
                        generalize H1 = H at hP2 hS ⊢
                        have hP : va_P (dC, dI) vwCl (wd_1ad0248d h0 h1 h3 x159 h1 h2 v1 x160 v3 x161 h2 g0 f5 h3 g1 fn162) H := hP2
                        have hD : va_D A (wd_1ad0248d h0 h1 h3 x159 h1 h2 v1 x160 v3 x161 h2 g0 f5 h3 g1 fn162) := hD2
                        clear hP2 hD2
                        obtain rfl : ra158 = (1 : Int32) := pv_cs (by decide) pt0_ra158 pt1_ra158
                        refine lv_if_ne (tgt := 134) hx hb dX3_readClause_129 (by decide) (fun _ => ?_) (fun c => absurd c (by decide))
                        refine lv_aload_n hx hb dX3_readClause_134 rfl (lv_at hl 3 rfl) ?_
                        refine lv_bipush (v := 13) hx hb dX3_readClause_135 (by decide) ?_
                        refine lv_iconst (v := 0) hx hb dX3_readClause_137 (by decide) ?_
                        have hPc := hP.sub (ws' := (wd_b958b9da h0 h1 h3 x159 h3 g1 fn162)) [0, 3] rfl
                        have hDc := hD.sub (ws' := (wd_b958b9da h0 h1 h3 x159 h3 g1 fn162)) [0, 3] (by decide) rfl
                        have hKc := hK.sub (tys' := [(g1, .int)]) [1] rfl
                        have hFc := va_free (wc := (wd_b958b9da h0 h1 h3 x159 h3 g1 fn162)) hD hS hA [0, 3] rfl
                        refine va_callv (va_runV (As := [.int 13, .int 0]) (rest := []) ⟨hx, hb, hml, hown, hts⟩ (k_X3_write l dC dI h0 h3 h1 x159 g1 fn162 13 0 ⟨oa_x159, ob_x159⟩ H.size) (cwV 2 hts g_X3_readClause_6 rfl rfl rfl (by decide +kernel) ⟨Nat.le_of_ble_eq_true rfl, Nat.le_of_ble_eq_true rfl⟩) (pv_PV3 hPc hKc hDc (q0 := 0) rfl) rfl rfl hl.1 rfl (lv_room (Nat.le_of_ble_eq_true rfl)) dX3_readClause_138 ⟨Nat.le_of_ble_eq_true rfl, Nat.le_of_ble_eq_true rfl⟩) hS (fun q _ h => hFc q h) hFc (fun u t H1 locs ht hvm hwra163 hB hz1 hk1 hS => ?_)
                        obtain ⟨x164, fn165, oa_x164, ob_x164, hP1, hK1, hD1⟩ := hB
                        rw [ht] at hP1
                        obtain ⟨hP2, hD2⟩ := va_join (wr := (wd_82cdd16b h1 h2 v1 x160 v3 x161 h2 g0 f5)) (w1 := (wd_b958b9da h0 h1 h3 x164 h3 g1 fn165)) hP hD [0, 3] [1, 2] rfl rfl (by decide) (by decide) hk1 hFc hP1 hD1
                        clear hP hD hPc hDc hKc hFc hP1 hK1 hD1 hk1 hz1
                        generalize H1 = H at hP2 hS ⊢
                        have hP := hP2.sub (ws' := (wd_1ad0248d h0 h1 h3 x164 h1 h2 v1 x160 v3 x161 h2 g0 f5 h3 g1 fn165)) [2, 0, 1, 3] rfl
                        have hD := hD2.sub (ws' := (wd_1ad0248d h0 h1 h3 x164 h1 h2 v1 x160 v3 x161 h2 g0 f5 h3 g1 fn165)) [2, 0, 1, 3] (by decide) rfl
                        clear hP2 hD2
                        refine lv_iload_n hx hb dX3_readClause_141 rfl (lv_at hl 0 rfl) ?_
                        refine lv_sipush (v := 256) hx hb dX3_readClause_142 (by decide) ?_
                        refine lv_icmp_ge (tgt := 164) hx hb dX3_readClause_145 (by decide) (fun c166 => ?_) (fun c166 => ?_)
                        · skip
                          have fc166 : 256 ≤ x149.toInt := Int32.le_iff_toInt_le.mp c166
                          refine lv_iconst (v := 1) hx hb dX3_readClause_164 (by decide) ?_
                          subst hQ
                          have hP9 := hP.sub (ws' := (wd_1ad0248d h0 h1 h3 x164 h1 h2 v1 x160 v3 x161 h2 g0 f5 h3 g1 fn165)) [0, 1, 2, 3] rfl
                          have hD9 := hD.sub (ws' := (wd_1ad0248d h0 h1 h3 x164 h1 h2 v1 x160 v3 x161 h2 g0 f5 h3 g1 fn165)) [0, 1, 2, 3] (by decide) rfl
                          have hK9 := hK.sub (tys' := []) [] rfl
                          exact W.zret (v := 1) hx hb hr rfl (fun t ht hW => ⟨⟨1, 1, rfl, rfl, Or.inl ⟨x164, x160, x161, fn165, oa_x164, ob_x164, oa_x160, ob_x160, by first | omega | decide, by first | omega | decide, by omega, by first | (apply pg_clause.x0 <;> first | assumption | omega | (apply pg_tail.ok <;> first | assumption | omega) | (apply pg_tail.no <;> first | assumption | omega)) | (apply pg_clause.x1 <;> first | assumption | omega | (apply pg_tail.ok <;> first | assumption | omega) | (apply pg_tail.no <;> first | assumption | omega)) | (apply pg_clause.x2 <;> first | assumption | omega | (apply pg_tail.ok <;> first | assumption | omega) | (apply pg_tail.no <;> first | assumption | omega)) | (apply pg_clause.x3 <;> first | assumption | omega | (apply pg_tail.ok <;> first | assumption | omega) | (apply pg_tail.no <;> first | assumption | omega)) | (apply pg_clause.x4 <;> first | assumption | omega | (apply pg_tail.ok <;> first | assumption | omega) | (apply pg_tail.no <;> first | assumption | omega)) | (apply pg_clause.x5 <;> first | assumption | omega | (apply pg_tail.ok <;> first | assumption | omega) | (apply pg_tail.no <;> first | assumption | omega)) | (apply pg_clause.x7 <;> first | assumption | omega | (apply pg_tail.ok <;> first | assumption | omega) | (apply pg_tail.no <;> first | assumption | omega)) | (apply pg_clause.x8 <;> first | assumption | omega | (apply pg_tail.ok <;> first | assumption | omega) | (apply pg_tail.no <;> first | assumption | omega)), by rw [ht]; exact hP9, va_K.moved hW.alike hK9, hD9⟩⟩, hS.F ht⟩) hS.2.2 dX3_readClause_165
                        · skip
                          have fc166 : ¬ (256 ≤ x149.toInt) := fun h9 => c166 (Int32.le_iff_toInt_le.mpr h9)
                          refine lv_aload_n hx hb dX3_readClause_148 rfl (lv_at hl 3 rfl) ?_
                          refine va_get (D := (dC, dI)) (ci := 3) (v := .ref h3) (C := RX3) (T := TX3) (N := 3) hx hb hts (fun _ h => List.mem_cons_of_mem _ (List.mem_append_left _ (List.mem_append_right _ h))) hown hK hP 0 rfl rfl 1 (by decide) (hts (.fieldLink RX3 11 "LeftArguments$LawReader" "code" "[I") (List.mem_cons_of_mem _ (List.mem_append_left _ (List.mem_append_left _ (List.mem_of_getElem? (i := 73) rfl))))) (fun _ h9 => h9) rfl dX3_readClause_149 ?_
                          refine lv_iload_n hx hb dX3_readClause_152 rfl (lv_at hl 0 rfl) ?_
                          refine lv_aload_n hx hb dX3_readClause_153 rfl (lv_at hl 3 rfl) ?_
                          refine va_get (D := (dC, dI)) (ci := 3) (v := .int x164) (C := RX3) (T := TX3) (N := 3) hx hb hts (fun _ h => List.mem_cons_of_mem _ (List.mem_append_left _ (List.mem_append_right _ h))) hown hK hP 0 rfl rfl 2 (by decide) (hts (.fieldLink RX3 15 "LeftArguments$LawReader" "used" "I") (List.mem_cons_of_mem _ (List.mem_append_left _ (List.mem_append_left _ (List.mem_of_getElem? (i := 72) rfl))))) (fun _ h9 => h9) rfl dX3_readClause_154 ?_
                          refine lv_bipush (v := 16) hx hb dX3_readClause_157 (by decide) ?_
                          refine lv_imul hx hb dX3_readClause_159 ?_
                          refine lv_topi (fun t167 et167 => ?_)
                          have gt167 : t167.toInt = x164.toInt * 16 := pv_mul (a := x164.toInt) (b := 16) et167 rfl (by decide) (by omega) (by omega)
                          refine lv_bipush (v := 12) hx hb dX3_readClause_160 (by decide) ?_
                          refine lv_iadd hx hb dX3_readClause_162 ?_
                          refine lv_topi (fun t168 et168 => ?_)
                          have gt168 : t168.toInt = t167.toInt + 12 := pv_add (a := t167.toInt) (b := 12) et168 rfl (by decide) (by omega) (by omega)
                          refine va_iast hx hb hK hP hD hS 3 1 rfl rfl (vp_in_iff.mpr ⟨by omega, by omega⟩) dX3_readClause_163 (fun H locs hP hD hS => ?_)
                          obtain ⟨fn169, efn169⟩ : ∃ g : Nat → Int32, g = upd fn165 (Int32.toNatClampNeg x149) t168 := ⟨_, rfl⟩
                          rw [← efn169] at hP hD
                          have hP : va_P (dC, dI) vwCl (wd_1ad0248d h0 h1 h3 x164 h1 h2 v1 x160 v3 x161 h2 g0 f5 h3 g1 fn169) H := hP
                          have hD : va_D A (wd_1ad0248d h0 h1 h3 x164 h1 h2 v1 x160 v3 x161 h2 g0 f5 h3 g1 fn169) := hD
                          refine lv_iconst (v := 1) hx hb dX3_readClause_164 (by decide) ?_
                          subst hQ
                          have hP9 := hP.sub (ws' := (wd_1ad0248d h0 h1 h3 x164 h1 h2 v1 x160 v3 x161 h2 g0 f5 h3 g1 fn169)) [0, 1, 2, 3] rfl
                          have hD9 := hD.sub (ws' := (wd_1ad0248d h0 h1 h3 x164 h1 h2 v1 x160 v3 x161 h2 g0 f5 h3 g1 fn169)) [0, 1, 2, 3] (by decide) rfl
                          have hK9 := hK.sub (tys' := []) [] rfl
                          exact W.zret (v := 1) hx hb hr rfl (fun t ht hW => ⟨⟨1, 1, rfl, rfl, Or.inl ⟨x164, x160, x161, fn169, oa_x164, ob_x164, oa_x160, ob_x160, by first | omega | decide, by first | omega | decide, by omega, by first | (apply pg_clause.x0 <;> first | assumption | omega | (apply pg_tail.ok <;> first | assumption | omega) | (apply pg_tail.no <;> first | assumption | omega)) | (apply pg_clause.x1 <;> first | assumption | omega | (apply pg_tail.ok <;> first | assumption | omega) | (apply pg_tail.no <;> first | assumption | omega)) | (apply pg_clause.x2 <;> first | assumption | omega | (apply pg_tail.ok <;> first | assumption | omega) | (apply pg_tail.no <;> first | assumption | omega)) | (apply pg_clause.x3 <;> first | assumption | omega | (apply pg_tail.ok <;> first | assumption | omega) | (apply pg_tail.no <;> first | assumption | omega)) | (apply pg_clause.x4 <;> first | assumption | omega | (apply pg_tail.ok <;> first | assumption | omega) | (apply pg_tail.no <;> first | assumption | omega)) | (apply pg_clause.x5 <;> first | assumption | omega | (apply pg_tail.ok <;> first | assumption | omega) | (apply pg_tail.no <;> first | assumption | omega)) | (apply pg_clause.x7 <;> first | assumption | omega | (apply pg_tail.ok <;> first | assumption | omega) | (apply pg_tail.no <;> first | assumption | omega)) | (apply pg_clause.x8 <;> first | assumption | omega | (apply pg_tail.ok <;> first | assumption | omega) | (apply pg_tail.no <;> first | assumption | omega)), by rw [ht]; exact hP9, va_K.moved hW.alike hK9, hD9⟩⟩, hS.F ht⟩) hS.2.2 dX3_readClause_165
                      · skip
                        obtain ⟨x170, x171, x172, x173, fn174, oa_x170, ob_x170, oa_x171, ob_x171, oa_x172, ob_x172, pt0_ra158, pt1_ra158, pt2_ra158, pt3_ra158, hP1, hK1, hD1⟩ := hB
                        rw [ht] at hP1
                        obtain ⟨hP2, hD2⟩ := va_join (wr := []) (w1 := (wd_1ad0248d h0 h1 h3 x170 h1 h2 v1 x171 x172 x173 h2 g0 f5 h3 g1 fn174)) hP hD [0, 1, 2, 3] [] rfl rfl (by decide) (by decide) hk1 hFc hP1 hD1
                        clear hP hD hPc hDc hKc hFc hP1 hK1 hD1 hk1 hz1
                        generalize H1 = H at hP2 hS ⊢
                        have hP : va_P (dC, dI) vwCl (wd_1ad0248d h0 h1 h3 x170 h1 h2 v1 x171 x172 x173 h2 g0 f5 h3 g1 fn174) H := hP2
                        have hD : va_D A (wd_1ad0248d h0 h1 h3 x170 h1 h2 v1 x171 x172 x173 h2 g0 f5 h3 g1 fn174) := hD2
                        clear hP2 hD2
                        obtain rfl : ra158 = (0 : Int32) := pv_cs (by decide) pt0_ra158 pt1_ra158
                        refine lv_if_ne (tgt := 134) hx hb dX3_readClause_129 (by decide) (fun c => absurd (by decide) c) (fun _ => ?_)
                        refine lv_iconst (v := 0) hx hb dX3_readClause_132 (by decide) ?_
                        subst hQ
                        have hP9 := hP.sub (ws' := (wd_1ad0248d h0 h1 h3 x170 h1 h2 v1 x171 x172 x173 h2 g0 f5 h3 g1 fn174)) [0, 1, 2, 3] rfl
                        have hD9 := hD.sub (ws' := (wd_1ad0248d h0 h1 h3 x170 h1 h2 v1 x171 x172 x173 h2 g0 f5 h3 g1 fn174)) [0, 1, 2, 3] (by decide) rfl
                        have hK9 := hK.sub (tys' := []) [] rfl
                        exact W.zret (v := 0) hx hb hr rfl (fun t ht hW => ⟨⟨0, 0, rfl, rfl, Or.inr (⟨x170, x171, x172, x173, fn174, oa_x170, ob_x170, oa_x171, ob_x171, oa_x172, ob_x172, by first | omega | decide, by first | omega | decide, by omega, by first | (apply pg_clause.x0 <;> first | assumption | omega | (apply pg_tail.ok <;> first | assumption | omega) | (apply pg_tail.no <;> first | assumption | omega)) | (apply pg_clause.x1 <;> first | assumption | omega | (apply pg_tail.ok <;> first | assumption | omega) | (apply pg_tail.no <;> first | assumption | omega)) | (apply pg_clause.x2 <;> first | assumption | omega | (apply pg_tail.ok <;> first | assumption | omega) | (apply pg_tail.no <;> first | assumption | omega)) | (apply pg_clause.x3 <;> first | assumption | omega | (apply pg_tail.ok <;> first | assumption | omega) | (apply pg_tail.no <;> first | assumption | omega)) | (apply pg_clause.x4 <;> first | assumption | omega | (apply pg_tail.ok <;> first | assumption | omega) | (apply pg_tail.no <;> first | assumption | omega)) | (apply pg_clause.x5 <;> first | assumption | omega | (apply pg_tail.ok <;> first | assumption | omega) | (apply pg_tail.no <;> first | assumption | omega)) | (apply pg_clause.x7 <;> first | assumption | omega | (apply pg_tail.ok <;> first | assumption | omega) | (apply pg_tail.no <;> first | assumption | omega)) | (apply pg_clause.x8 <;> first | assumption | omega | (apply pg_tail.ok <;> first | assumption | omega) | (apply pg_tail.no <;> first | assumption | omega)), by rw [ht]; exact hP9, va_K.moved hW.alike hK9, hD9⟩)⟩, hS.F ht⟩) hS.2.2 dX3_readClause_133
                    · skip
                      obtain ⟨x175, x176, oa_x175, ob_x175, oa_x176, ob_x176, pt0_ra153, pt1_ra153, pt2_ra153, pt3_ra153, hP1, hK1, hD1⟩ := hB
                      rw [ht] at hP1
                      obtain ⟨hP2, hD2⟩ := va_join (wr := (wd_b958b9da h0 h1 h3 x149 h3 g1 fn152)) (w1 := (wd_82cdd16b h1 h2 v1 x175 x176 x151 h2 g0 f5)) hP hD [1, 2] [0, 3] rfl rfl (by decide) (by decide) hk1 hFc hP1 hD1
                      clear hP hD hPc hDc hKc hFc hP1 hK1 hD1 hk1 hz1
                      generalize H1 = H at hP2 hS ⊢
                      have hP := hP2.sub (ws' := (wd_1ad0248d h0 h1 h3 x149 h1 h2 v1 x175 x176 x151 h2 g0 f5 h3 g1 fn152)) [0, 2, 3, 1] rfl
                      have hD := hD2.sub (ws' := (wd_1ad0248d h0 h1 h3 x149 h1 h2 v1 x175 x176 x151 h2 g0 f5 h3 g1 fn152)) [0, 2, 3, 1] (by decide) rfl
                      clear hP2 hD2
                      obtain rfl : ra153 = (0 : Int32) := pv_cs (by decide) pt0_ra153 pt1_ra153
                      refine lv_if_ne (tgt := 112) hx hb dX3_readClause_107 (by decide) (fun c => absurd (by decide) c) (fun _ => ?_)
                      refine lv_iconst (v := 0) hx hb dX3_readClause_110 (by decide) ?_
                      subst hQ
                      have hP9 := hP.sub (ws' := (wd_1ad0248d h0 h1 h3 x149 h1 h2 v1 x175 x176 x151 h2 g0 f5 h3 g1 fn152)) [0, 1, 2, 3] rfl
                      have hD9 := hD.sub (ws' := (wd_1ad0248d h0 h1 h3 x149 h1 h2 v1 x175 x176 x151 h2 g0 f5 h3 g1 fn152)) [0, 1, 2, 3] (by decide) rfl
                      have hK9 := hK.sub (tys' := []) [] rfl
                      exact W.zret (v := 0) hx hb hr rfl (fun t ht hW => ⟨⟨0, 0, rfl, rfl, Or.inr (⟨x149, x175, x176, x151, fn152, oa_x149, ob_x149, oa_x175, ob_x175, oa_x176, ob_x176, by first | omega | decide, by first | omega | decide, by omega, by first | (apply pg_clause.x0 <;> first | assumption | omega | (apply pg_tail.ok <;> first | assumption | omega) | (apply pg_tail.no <;> first | assumption | omega)) | (apply pg_clause.x1 <;> first | assumption | omega | (apply pg_tail.ok <;> first | assumption | omega) | (apply pg_tail.no <;> first | assumption | omega)) | (apply pg_clause.x2 <;> first | assumption | omega | (apply pg_tail.ok <;> first | assumption | omega) | (apply pg_tail.no <;> first | assumption | omega)) | (apply pg_clause.x3 <;> first | assumption | omega | (apply pg_tail.ok <;> first | assumption | omega) | (apply pg_tail.no <;> first | assumption | omega)) | (apply pg_clause.x4 <;> first | assumption | omega | (apply pg_tail.ok <;> first | assumption | omega) | (apply pg_tail.no <;> first | assumption | omega)) | (apply pg_clause.x5 <;> first | assumption | omega | (apply pg_tail.ok <;> first | assumption | omega) | (apply pg_tail.no <;> first | assumption | omega)) | (apply pg_clause.x7 <;> first | assumption | omega | (apply pg_tail.ok <;> first | assumption | omega) | (apply pg_tail.no <;> first | assumption | omega)) | (apply pg_clause.x8 <;> first | assumption | omega | (apply pg_tail.ok <;> first | assumption | omega) | (apply pg_tail.no <;> first | assumption | omega)), by rw [ht]; exact hP9, va_K.moved hW.alike hK9, hD9⟩)⟩, hS.F ht⟩) hS.2.2 dX3_readClause_111
                  · skip
                    obtain ⟨x177, x178, x179, x180, fn181, oa_x177, ob_x177, oa_x178, ob_x178, oa_x179, ob_x179, pt0_ra148, pt1_ra148, pt2_ra148, pt3_ra148, hP1, hK1, hD1⟩ := hB
                    rw [ht] at hP1
                    obtain ⟨hP2, hD2⟩ := va_join (wr := []) (w1 := (wd_1ad0248d h0 h1 h3 x177 h1 h2 v1 x178 x179 x180 h2 g0 f5 h3 g1 fn181)) hP hD [0, 1, 2, 3] [] rfl rfl (by decide) (by decide) hk1 hFc hP1 hD1
                    clear hP hD hPc hDc hKc hFc hP1 hK1 hD1 hk1 hz1
                    generalize H1 = H at hP2 hS ⊢
                    have hP : va_P (dC, dI) vwCl (wd_1ad0248d h0 h1 h3 x177 h1 h2 v1 x178 x179 x180 h2 g0 f5 h3 g1 fn181) H := hP2
                    have hD : va_D A (wd_1ad0248d h0 h1 h3 x177 h1 h2 v1 x178 x179 x180 h2 g0 f5 h3 g1 fn181) := hD2
                    clear hP2 hD2
                    obtain rfl : ra148 = (0 : Int32) := pv_cs (by decide) pt0_ra148 pt1_ra148
                    refine lv_if_eq (tgt := 110) hx hb dX3_readClause_95 (by decide) (fun _ => ?_) (fun c => absurd (by decide) c)
                    refine lv_iconst (v := 0) hx hb dX3_readClause_110 (by decide) ?_
                    subst hQ
                    have hP9 := hP.sub (ws' := (wd_1ad0248d h0 h1 h3 x177 h1 h2 v1 x178 x179 x180 h2 g0 f5 h3 g1 fn181)) [0, 1, 2, 3] rfl
                    have hD9 := hD.sub (ws' := (wd_1ad0248d h0 h1 h3 x177 h1 h2 v1 x178 x179 x180 h2 g0 f5 h3 g1 fn181)) [0, 1, 2, 3] (by decide) rfl
                    have hK9 := hK.sub (tys' := []) [] rfl
                    exact W.zret (v := 0) hx hb hr rfl (fun t ht hW => ⟨⟨0, 0, rfl, rfl, Or.inr (⟨x177, x178, x179, x180, fn181, oa_x177, ob_x177, oa_x178, ob_x178, oa_x179, ob_x179, by first | omega | decide, by first | omega | decide, by omega, by first | (apply pg_clause.x0 <;> first | assumption | omega | (apply pg_tail.ok <;> first | assumption | omega) | (apply pg_tail.no <;> first | assumption | omega)) | (apply pg_clause.x1 <;> first | assumption | omega | (apply pg_tail.ok <;> first | assumption | omega) | (apply pg_tail.no <;> first | assumption | omega)) | (apply pg_clause.x2 <;> first | assumption | omega | (apply pg_tail.ok <;> first | assumption | omega) | (apply pg_tail.no <;> first | assumption | omega)) | (apply pg_clause.x3 <;> first | assumption | omega | (apply pg_tail.ok <;> first | assumption | omega) | (apply pg_tail.no <;> first | assumption | omega)) | (apply pg_clause.x4 <;> first | assumption | omega | (apply pg_tail.ok <;> first | assumption | omega) | (apply pg_tail.no <;> first | assumption | omega)) | (apply pg_clause.x5 <;> first | assumption | omega | (apply pg_tail.ok <;> first | assumption | omega) | (apply pg_tail.no <;> first | assumption | omega)) | (apply pg_clause.x7 <;> first | assumption | omega | (apply pg_tail.ok <;> first | assumption | omega) | (apply pg_tail.no <;> first | assumption | omega)) | (apply pg_clause.x8 <;> first | assumption | omega | (apply pg_tail.ok <;> first | assumption | omega) | (apply pg_tail.no <;> first | assumption | omega)), by rw [ht]; exact hP9, va_K.moved hW.alike hK9, hD9⟩)⟩, hS.F ht⟩) hS.2.2 dX3_readClause_111
                · skip
                  have fc147 : ra146.toInt = (-1) := congrArg Int32.toInt c147
                  refine lv_aload_n hx hb dX3_readClause_80 rfl (lv_at hl 2 rfl) ?_
                  refine lv_bipush (v := 13) hx hb dX3_readClause_81 (by decide) ?_
                  refine lv_iconst (v := 0) hx hb dX3_readClause_83 (by decide) ?_
                  have hPc := hP.sub (ws' := (wd_b958b9da h0 h1 h3 x135 h3 g1 fn138)) [0, 3] rfl
                  have hDc := hD.sub (ws' := (wd_b958b9da h0 h1 h3 x135 h3 g1 fn138)) [0, 3] (by decide) rfl
                  have hKc := hK.sub (tys' := [(g1, .int)]) [1] rfl
                  have hFc := va_free (wc := (wd_b958b9da h0 h1 h3 x135 h3 g1 fn138)) hD hS hA [0, 3] rfl
                  refine va_callv (va_runV (As := [.int 13, .int 0]) (rest := []) ⟨hx, hb, hml, hown, hts⟩ (k_X3_write l dC dI h0 h3 h1 x135 g1 fn138 13 0 ⟨oa_x135, ob_x135⟩ H.size) (cwV 2 hts g_X3_readClause_6 rfl rfl rfl (by decide +kernel) ⟨Nat.le_of_ble_eq_true rfl, Nat.le_of_ble_eq_true rfl⟩) (pv_PV3 hPc hKc hDc (q0 := 0) rfl) rfl rfl hl.1 rfl (lv_room (Nat.le_of_ble_eq_true rfl)) dX3_readClause_84 ⟨Nat.le_of_ble_eq_true rfl, Nat.le_of_ble_eq_true rfl⟩) hS (fun q _ h => hFc q h) hFc (fun u t H1 locs ht hvm hwra182 hB hz1 hk1 hS => ?_)
                  obtain ⟨x183, fn184, oa_x183, ob_x183, hP1, hK1, hD1⟩ := hB
                  rw [ht] at hP1
                  obtain ⟨hP2, hD2⟩ := va_join (wr := (wd_82cdd16b h1 h2 v1 x145 v3 x137 h2 g0 f5)) (w1 := (wd_b958b9da h0 h1 h3 x183 h3 g1 fn184)) hP hD [0, 3] [1, 2] rfl rfl (by decide) (by decide) hk1 hFc hP1 hD1
                  clear hP hD hPc hDc hKc hFc hP1 hK1 hD1 hk1 hz1
                  generalize H1 = H at hP2 hS ⊢
                  have hP := hP2.sub (ws' := (wd_1ad0248d h0 h1 h3 x183 h1 h2 v1 x145 v3 x137 h2 g0 f5 h3 g1 fn184)) [2, 0, 1, 3] rfl
                  have hD := hD2.sub (ws' := (wd_1ad0248d h0 h1 h3 x183 h1 h2 v1 x145 v3 x137 h2 g0 f5 h3 g1 fn184)) [2, 0, 1, 3] (by decide) rfl
                  clear hP2 hD2
                  refine lv_iconst (v := 1) hx hb dX3_readClause_87 (by decide) ?_
                  subst hQ
                  have hP9 := hP.sub (ws' := (wd_1ad0248d h0 h1 h3 x183 h1 h2 v1 x145 v3 x137 h2 g0 f5 h3 g1 fn184)) [0, 1, 2, 3] rfl
                  have hD9 := hD.sub (ws' := (wd_1ad0248d h0 h1 h3 x183 h1 h2 v1 x145 v3 x137 h2 g0 f5 h3 g1 fn184)) [0, 1, 2, 3] (by decide) rfl
                  have hK9 := hK.sub (tys' := []) [] rfl
                  exact W.zret (v := 1) hx hb hr rfl (fun t ht hW => ⟨⟨1, 1, rfl, rfl, Or.inl ⟨x183, x145, x137, fn184, oa_x183, ob_x183, oa_x145, by first | omega | decide, by first | omega | decide, by first | omega | decide, by omega, by first | (apply pg_clause.x0 <;> first | assumption | omega | (apply pg_tail.ok <;> first | assumption | omega) | (apply pg_tail.no <;> first | assumption | omega)) | (apply pg_clause.x1 <;> first | assumption | omega | (apply pg_tail.ok <;> first | assumption | omega) | (apply pg_tail.no <;> first | assumption | omega)) | (apply pg_clause.x2 <;> first | assumption | omega | (apply pg_tail.ok <;> first | assumption | omega) | (apply pg_tail.no <;> first | assumption | omega)) | (apply pg_clause.x3 <;> first | assumption | omega | (apply pg_tail.ok <;> first | assumption | omega) | (apply pg_tail.no <;> first | assumption | omega)) | (apply pg_clause.x4 <;> first | assumption | omega | (apply pg_tail.ok <;> first | assumption | omega) | (apply pg_tail.no <;> first | assumption | omega)) | (apply pg_clause.x5 <;> first | assumption | omega | (apply pg_tail.ok <;> first | assumption | omega) | (apply pg_tail.no <;> first | assumption | omega)) | (apply pg_clause.x7 <;> first | assumption | omega | (apply pg_tail.ok <;> first | assumption | omega) | (apply pg_tail.no <;> first | assumption | omega)) | (apply pg_clause.x8 <;> first | assumption | omega | (apply pg_tail.ok <;> first | assumption | omega) | (apply pg_tail.no <;> first | assumption | omega)), by rw [ht]; exact hP9, va_K.moved hW.alike hK9, hD9⟩⟩, hS.F ht⟩) hS.2.2 dX3_readClause_88
            · skip
              obtain ⟨x185, x186, x187, x188, fn189, oa_x185, ob_x185, oa_x186, ob_x186, oa_x187, ob_x187, pt0_ra134, pt1_ra134, pt2_ra134, pt3_ra134, hP1, hK1, hD1⟩ := hB
              rw [ht] at hP1
              obtain ⟨hP2, hD2⟩ := va_join (wr := []) (w1 := (wd_1ad0248d h0 h1 h3 x185 h1 h2 v1 x186 x187 x188 h2 g0 f5 h3 g1 fn189)) hP hD [0, 1, 2, 3] [] rfl rfl (by decide) (by decide) hk1 hFc hP1 hD1
              clear hP hD hPc hDc hKc hFc hP1 hK1 hD1 hk1 hz1
              generalize H1 = H at hP2 hS ⊢
              have hP : va_P (dC, dI) vwCl (wd_1ad0248d h0 h1 h3 x185 h1 h2 v1 x186 x187 x188 h2 g0 f5 h3 g1 fn189) H := hP2
              have hD : va_D A (wd_1ad0248d h0 h1 h3 x185 h1 h2 v1 x186 x187 x188 h2 g0 f5 h3 g1 fn189) := hD2
              clear hP2 hD2
              obtain rfl : ra134 = (0 : Int32) := pv_cs (by decide) pt0_ra134 pt1_ra134
              refine lv_if_ne (tgt := 66) hx hb dX3_readClause_61 (by decide) (fun c => absurd (by decide) c) (fun _ => ?_)
              refine lv_iconst (v := 0) hx hb dX3_readClause_64 (by decide) ?_
              subst hQ
              have hP9 := hP.sub (ws' := (wd_1ad0248d h0 h1 h3 x185 h1 h2 v1 x186 x187 x188 h2 g0 f5 h3 g1 fn189)) [0, 1, 2, 3] rfl
              have hD9 := hD.sub (ws' := (wd_1ad0248d h0 h1 h3 x185 h1 h2 v1 x186 x187 x188 h2 g0 f5 h3 g1 fn189)) [0, 1, 2, 3] (by decide) rfl
              have hK9 := hK.sub (tys' := []) [] rfl
              exact W.zret (v := 0) hx hb hr rfl (fun t ht hW => ⟨⟨0, 0, rfl, rfl, Or.inr (⟨x185, x186, x187, x188, fn189, oa_x185, ob_x185, oa_x186, ob_x186, oa_x187, ob_x187, by first | omega | decide, by first | omega | decide, by omega, by first | (apply pg_clause.x0 <;> first | assumption | omega | (apply pg_tail.ok <;> first | assumption | omega) | (apply pg_tail.no <;> first | assumption | omega)) | (apply pg_clause.x1 <;> first | assumption | omega | (apply pg_tail.ok <;> first | assumption | omega) | (apply pg_tail.no <;> first | assumption | omega)) | (apply pg_clause.x2 <;> first | assumption | omega | (apply pg_tail.ok <;> first | assumption | omega) | (apply pg_tail.no <;> first | assumption | omega)) | (apply pg_clause.x3 <;> first | assumption | omega | (apply pg_tail.ok <;> first | assumption | omega) | (apply pg_tail.no <;> first | assumption | omega)) | (apply pg_clause.x4 <;> first | assumption | omega | (apply pg_tail.ok <;> first | assumption | omega) | (apply pg_tail.no <;> first | assumption | omega)) | (apply pg_clause.x5 <;> first | assumption | omega | (apply pg_tail.ok <;> first | assumption | omega) | (apply pg_tail.no <;> first | assumption | omega)) | (apply pg_clause.x7 <;> first | assumption | omega | (apply pg_tail.ok <;> first | assumption | omega) | (apply pg_tail.no <;> first | assumption | omega)) | (apply pg_clause.x8 <;> first | assumption | omega | (apply pg_tail.ok <;> first | assumption | omega) | (apply pg_tail.no <;> first | assumption | omega)), by rw [ht]; exact hP9, va_K.moved hW.alike hK9, hD9⟩)⟩, hS.F ht⟩) hS.2.2 dX3_readClause_65
    · skip
      obtain ⟨x190, x191, oa_x190, ob_x190, oa_x191, ob_x191, pt0_ra3, pt1_ra3, pt2_ra3, pt3_ra3, hP1, hK1, hD1⟩ := hB
      rw [ht] at hP1
      obtain ⟨hP2, hD2⟩ := va_join (wr := (wd_b958b9da h0 h1 h3 v0 h3 g1 f6)) (w1 := (wd_82cdd16b h1 h2 v1 x190 x191 v4 h2 g0 f5)) hP hD [1, 2] [0, 3] rfl rfl (by decide) (by decide) hk1 hFc hP1 hD1
      clear hP hD hPc hDc hKc hFc hP1 hK1 hD1 hk1 hz1
      generalize H1 = H at hP2 hS ⊢
      have hP := hP2.sub (ws' := (wd_1ad0248d h0 h1 h3 v0 h1 h2 v1 x190 x191 v4 h2 g0 f5 h3 g1 f6)) [0, 2, 3, 1] rfl
      have hD := hD2.sub (ws' := (wd_1ad0248d h0 h1 h3 v0 h1 h2 v1 x190 x191 v4 h2 g0 f5 h3 g1 f6)) [0, 2, 3, 1] (by decide) rfl
      clear hP2 hD2
      obtain rfl : ra3 = (0 : Int32) := pv_cs (by decide) pt0_ra3 pt1_ra3
      refine lv_if_ne (tgt := 26) hx hb dX3_readClause_21 (by decide) (fun c => absurd (by decide) c) (fun _ => ?_)
      refine lv_iconst (v := 0) hx hb dX3_readClause_24 (by decide) ?_
      subst hQ
      have hP9 := hP.sub (ws' := (wd_1ad0248d h0 h1 h3 v0 h1 h2 v1 x190 x191 v4 h2 g0 f5 h3 g1 f6)) [0, 1, 2, 3] rfl
      have hD9 := hD.sub (ws' := (wd_1ad0248d h0 h1 h3 v0 h1 h2 v1 x190 x191 v4 h2 g0 f5 h3 g1 f6)) [0, 1, 2, 3] (by decide) rfl
      have hK9 := hK.sub (tys' := []) [] rfl
      exact W.zret (v := 0) hx hb hr rfl (fun t ht hW => ⟨⟨0, 0, rfl, rfl, Or.inr (⟨v0, x190, x191, v4, f6, i_v0a, i_v0b, oa_x190, ob_x190, oa_x191, ob_x191, by first | omega | decide, by first | omega | decide, by omega, by first | (apply pg_clause.x0 <;> first | assumption | omega | (apply pg_tail.ok <;> first | assumption | omega) | (apply pg_tail.no <;> first | assumption | omega)) | (apply pg_clause.x1 <;> first | assumption | omega | (apply pg_tail.ok <;> first | assumption | omega) | (apply pg_tail.no <;> first | assumption | omega)) | (apply pg_clause.x2 <;> first | assumption | omega | (apply pg_tail.ok <;> first | assumption | omega) | (apply pg_tail.no <;> first | assumption | omega)) | (apply pg_clause.x3 <;> first | assumption | omega | (apply pg_tail.ok <;> first | assumption | omega) | (apply pg_tail.no <;> first | assumption | omega)) | (apply pg_clause.x4 <;> first | assumption | omega | (apply pg_tail.ok <;> first | assumption | omega) | (apply pg_tail.no <;> first | assumption | omega)) | (apply pg_clause.x5 <;> first | assumption | omega | (apply pg_tail.ok <;> first | assumption | omega) | (apply pg_tail.no <;> first | assumption | omega)) | (apply pg_clause.x7 <;> first | assumption | omega | (apply pg_tail.ok <;> first | assumption | omega) | (apply pg_tail.no <;> first | assumption | omega)) | (apply pg_clause.x8 <;> first | assumption | omega | (apply pg_tail.ok <;> first | assumption | omega) | (apply pg_tail.no <;> first | assumption | omega)), by rw [ht]; exact hP9, va_K.moved hW.alike hK9, hD9⟩)⟩, hS.F ht⟩) hS.2.2 dX3_readClause_25
  · skip
    obtain ⟨x192, x193, oa_x192, ob_x192, oa_x193, ob_x193, pt0_ra1, pt1_ra1, pt2_ra1, pt3_ra1, hP1, hK1, hD1⟩ := hB
    rw [ht] at hP1
    obtain ⟨hP2, hD2⟩ := va_join (wr := (wd_b958b9da h0 h1 h3 v0 h3 g1 f6)) (w1 := (wd_82cdd16b h1 h2 v1 x192 x193 v4 h2 g0 f5)) hP hD [1, 2] [0, 3] rfl rfl (by decide) (by decide) hk1 hFc hP1 hD1
    clear hP hD hPc hDc hKc hFc hP1 hK1 hD1 hk1 hz1
    generalize H1 = H at hP2 hS ⊢
    have hP := hP2.sub (ws' := (wd_1ad0248d h0 h1 h3 v0 h1 h2 v1 x192 x193 v4 h2 g0 f5 h3 g1 f6)) [0, 2, 3, 1] rfl
    have hD := hD2.sub (ws' := (wd_1ad0248d h0 h1 h3 v0 h1 h2 v1 x192 x193 v4 h2 g0 f5 h3 g1 f6)) [0, 2, 3, 1] (by decide) rfl
    clear hP2 hD2
    obtain rfl : ra1 = (0 : Int32) := pv_cs (by decide) pt0_ra1 pt1_ra1
    refine lv_if_eq (tgt := 24) hx hb dX3_readClause_9 (by decide) (fun _ => ?_) (fun c => absurd (by decide) c)
    refine lv_iconst (v := 0) hx hb dX3_readClause_24 (by decide) ?_
    subst hQ
    have hP9 := hP.sub (ws' := (wd_1ad0248d h0 h1 h3 v0 h1 h2 v1 x192 x193 v4 h2 g0 f5 h3 g1 f6)) [0, 1, 2, 3] rfl
    have hD9 := hD.sub (ws' := (wd_1ad0248d h0 h1 h3 v0 h1 h2 v1 x192 x193 v4 h2 g0 f5 h3 g1 f6)) [0, 1, 2, 3] (by decide) rfl
    have hK9 := hK.sub (tys' := []) [] rfl
    exact W.zret (v := 0) hx hb hr rfl (fun t ht hW => ⟨⟨0, 0, rfl, rfl, Or.inr (⟨v0, x192, x193, v4, f6, i_v0a, i_v0b, oa_x192, ob_x192, oa_x193, ob_x193, by first | omega | decide, by first | omega | decide, by omega, by first | (apply pg_clause.x0 <;> first | assumption | omega | (apply pg_tail.ok <;> first | assumption | omega) | (apply pg_tail.no <;> first | assumption | omega)) | (apply pg_clause.x1 <;> first | assumption | omega | (apply pg_tail.ok <;> first | assumption | omega) | (apply pg_tail.no <;> first | assumption | omega)) | (apply pg_clause.x2 <;> first | assumption | omega | (apply pg_tail.ok <;> first | assumption | omega) | (apply pg_tail.no <;> first | assumption | omega)) | (apply pg_clause.x3 <;> first | assumption | omega | (apply pg_tail.ok <;> first | assumption | omega) | (apply pg_tail.no <;> first | assumption | omega)) | (apply pg_clause.x4 <;> first | assumption | omega | (apply pg_tail.ok <;> first | assumption | omega) | (apply pg_tail.no <;> first | assumption | omega)) | (apply pg_clause.x5 <;> first | assumption | omega | (apply pg_tail.ok <;> first | assumption | omega) | (apply pg_tail.no <;> first | assumption | omega)) | (apply pg_clause.x7 <;> first | assumption | omega | (apply pg_tail.ok <;> first | assumption | omega) | (apply pg_tail.no <;> first | assumption | omega)) | (apply pg_clause.x8 <;> first | assumption | omega | (apply pg_tail.ok <;> first | assumption | omega) | (apply pg_tail.no <;> first | assumption | omega)), by rw [ht]; exact hP9, va_K.moved hW.alike hK9, hD9⟩)⟩, hS.F ht⟩) hS.2.2 dX3_readClause_25
def q_X10_take_5 : List Cond := .code yX10_take cX10_take 2 (some .boolean) :: (([.code yX10_next cX10_next 1 (some .int), .fieldLink RX10 19 "LeftArguments$Tape" "at" "I", .fieldLink RX10 15 "LeftArguments$Tape" "used" "I", .fieldLink RX10 9 "LeftArguments$Tape" "bytes" "[I", .initialized RX10, .instanceMethod yX10_next, .selects RX10 yX10_next yX10_next, .methodLink RX10 37 yX10_next, .code yX10_wrongHere cX10_wrongHere 1 (some .boolean), .fieldLink RX10 22 "LeftArguments$Tape" "wrongAt" "I", .instanceMethod yX10_wrongHere, .selects RX10 yX10_wrongHere yX10_wrongHere, .methodLink RX10 41 yX10_wrongHere] : List Cond) ++ wsX100)
set_option maxRecDepth 20000 in
theorem g_X10_take_5_0 : GoodIn q_X10_take_5 (wsV RX10 37 RX10 yX10_next q_X10_next) := goodIn_app (goodIn_r _ [8, 6, 7, 5] rfl (by decide +kernel)) (goodIn_ca (goodIn_r (.code yX10_next cX10_next 1 (some .int) :: [.fieldLink RX10 19 "LeftArguments$Tape" "at" "I", .fieldLink RX10 15 "LeftArguments$Tape" "used" "I", .fieldLink RX10 9 "LeftArguments$Tape" "bytes" "[I"]) [1, 2, 3, 4] rfl (by decide +kernel)) (goodIn_sub (fun _ h => List.mem_cons_of_mem _ (List.mem_append_right _ h)) gwX10))
set_option maxRecDepth 20000 in
theorem g_X10_take_5_1 : GoodIn q_X10_take_5 (wsV RX10 41 RX10 yX10_wrongHere q_X10_wrongHere) := goodIn_app (goodIn_r _ [13, 11, 12, 5] rfl (by decide +kernel)) (goodIn_ca (goodIn_r (.code yX10_wrongHere cX10_wrongHere 1 (some .boolean) :: [.fieldLink RX10 19 "LeftArguments$Tape" "at" "I", .fieldLink RX10 22 "LeftArguments$Tape" "wrongAt" "I"]) [9, 2, 10] rfl (by decide +kernel)) (goodIn_sub (fun _ h => List.mem_cons_of_mem _ (List.mem_append_right _ h)) gwX10))
set_option maxHeartbeats 4000000 in
set_option maxRecDepth 100000 in
theorem k_X10_take_5 (l : Launch) (dC : Nat → ClassId) (dI : Nat → Nat → Nat) (h0 : Nat) (h1 : Nat) (v0 : Int32) (v1 : Int32) (v2 : Int32) (v3 : Int32) (g0 : ClassId) (f4 : Nat → Int32) (i_v0 : 0 ≤ v0.toInt ∧ v0.toInt ≤ 240) (i_v1 : 0 ≤ v1.toInt ∧ v1.toInt ≤ 240) (ia_f4 : (∀ j, 0 ≤ (f4 j).toInt ∧ (f4 j).toInt ≤ 255)) (sz : Nat) : Met l yX10_take q_X10_take_5 ({ frames := 1, cells := 0, slots := 0, locals := 20 }) (va_Pc [.ref h0, .int 59] (fun U => U.heap.size = sz ∧ va_P (dC, dI) vwCl (wd_82cdd16b h0 h1 v0 v1 v2 v3 h1 g0 f4) U.heap ∧ va_K (dC, dI) vwCl [(g0, .int)] U ∧ va_D (fun _ => True) (wd_82cdd16b h0 h1 v0 v1 v2 v3 h1 g0 f4))) (va_Qi (fun (r : Int32) (r9 : Int32) => r9 = r) (fun (r : Int32) (t : State) => (∃ (o_h0_2 : Int32), 1 ≤ o_h0_2.toInt ∧ o_h0_2.toInt ≤ 240 ∧ (1 ≤ r.toInt) ∧ (r.toInt ≤ 1) ∧ (v1.toInt ≤ o_h0_2.toInt) ∧ (pg_take f4 v0.toInt 59 v1.toInt = (true, o_h0_2.toInt)) ∧ va_P (dC, dI) vwCl (wd_82cdd16b h0 h1 v0 o_h0_2 v2 v3 h1 g0 f4) t.heap ∧ va_K (dC, dI) vwCl [] t ∧ va_D (va_A (wd_82cdd16b h0 h1 v0 v1 v2 v3 h1 g0 f4) sz) (wd_82cdd16b h0 h1 v0 o_h0_2 v2 v3 h1 g0 f4)) ∨ (∃ (o_h0_2 : Int32) (o_h0_3 : Int32), 0 ≤ o_h0_2.toInt ∧ o_h0_2.toInt ≤ 240 ∧ 0 ≤ o_h0_3.toInt ∧ o_h0_3.toInt ≤ 240 ∧ (0 ≤ r.toInt) ∧ (r.toInt ≤ 0) ∧ (v1.toInt ≤ o_h0_2.toInt) ∧ (pg_take f4 v0.toInt 59 v1.toInt = (false, o_h0_3.toInt)) ∧ va_P (dC, dI) vwCl (wd_82cdd16b h0 h1 v0 o_h0_2 o_h0_3 v3 h1 g0 f4) t.heap ∧ va_K (dC, dI) vwCl [] t ∧ va_D (va_A (wd_82cdd16b h0 h1 v0 v1 v2 v3 h1 g0 f4) sz) (wd_82cdd16b h0 h1 v0 o_h0_2 o_h0_3 v3 h1 g0 f4))) (va_A (wd_82cdd16b h0 h1 v0 v1 v2 v3 h1 g0 f4) sz)) 0 0 (va_A (wd_82cdd16b h0 h1 v0 v1 v2 v3 h1 g0 f4) sz) := by
  refine Met.ofW (cc := cX10_take) (maxL := 2) (ret := (some .boolean)) (by decide) rfl ?_
  intro p e s m args below meth c s₁ B hml hv
  obtain ⟨i_v0a, i_v0b⟩ := i_v0
  obtain ⟨i_v1a, i_v1b⟩ := i_v1
  obtain ⟨rfl, hsz, hP, hK, hD0⟩ := hv
  have hx := B.exec
  have hb := B.bytes
  have hr := B.returns
  have hts := atoms_spec (ws := q_X10_take_5) B.pre
  have hown : s.vm.findClass RX10 = some m.cls := findClass_of_methodNamed B.named
  have hlocks := B.notSynchronized
  subst hsz
  have hD := hD0.self (sz := s.heap.size)
  generalize hAe : va_A (wd_82cdd16b h0 h1 v0 v1 v2 v3 h1 g0 f4) s.heap.size = A at hD ⊢
  have hA : ∀ q : Nat, s.heap.size ≤ q → A q := fun q h => by rw [← hAe]; exact Or.inr h
  have hS : va_S A s.heap s.heap [] := va_S.rf
  generalize hQ : (MQ below _ _ s 0 0 A) = Q
  have hl := lv_entry ([.ref h0, .int 59]) (n := 2) (Nat.le_of_ble_eq_true rfl)
  rw [lg_entry_eq]
  generalize (lg_sl ([.ref h0, .int 59]) ++ List.replicate (2 - (lg_sl ([.ref h0, .int 59])).length) Slot.unset).toArray = ls at hl ⊢
  have hl : lv_has ls 2 [(0, .ref h0), (1, .int 59)] := hl
  obtain ⟨H, hH⟩ : ∃ H : Heap, H = s.heap := ⟨_, rfl⟩
  obtain ⟨locs, hlocs⟩ : ∃ y : List Loc, y = [] := ⟨_, rfl⟩
  have hS : va_S A s.heap H locs := by rw [hH, hlocs]; exact va_S.rf
  have hP : va_P (dC, dI) vwCl (wd_82cdd16b h0 h1 v0 v1 v2 v3 h1 g0 f4) H := by rw [hH]; exact hP
  rw [← hH, ← hlocs]
  refine lv_aload_n hx hb dX10_take_0 rfl (lv_at hl 0 rfl) ?_
  have hPc := hP.sub (ws' := (wd_82cdd16b h0 h1 v0 v1 v2 v3 h1 g0 f4)) [0, 1] rfl
  have hDc := hD.sub (ws' := (wd_82cdd16b h0 h1 v0 v1 v2 v3 h1 g0 f4)) [0, 1] (by decide) rfl
  have hKc := hK.sub (tys' := [(g0, .int)]) [0] rfl
  have hFc := va_free (wc := (wd_82cdd16b h0 h1 v0 v1 v2 v3 h1 g0 f4)) hD hS hA [0, 1] rfl
  refine va_calli (va_runV (As := []) (rest := []) ⟨hx, hb, hml, hown, hts⟩ (k_X10_next l dC dI h0 h1 v0 v1 v2 v3 g0 f4 ⟨i_v0a, i_v0b⟩ ⟨i_v1a, i_v1b⟩ ia_f4 H.size) (cwV 0 hts g_X10_take_5_0 rfl rfl rfl (by decide +kernel) ⟨Nat.le_of_ble_eq_true rfl, Nat.le_of_ble_eq_true rfl⟩) (pv_PV10 hPc hKc hDc (q0 := 0) rfl) rfl rfl hl.1 rfl (lv_room (Nat.le_of_ble_eq_true rfl)) dX10_take_1 ⟨Nat.le_of_ble_eq_true rfl, Nat.le_of_ble_eq_true rfl⟩) hS (fun q _ h => hFc q h) hFc (fun ra1 u t H1 locs ht hvm hwra1 hB hz1 hk1 hS => ?_)
  try rw [hwra1] at hB
  rcases hB with hB | hB
  · skip
    obtain ⟨x2, oa_x2, ob_x2, pt0_ra1, pt1_ra1, pt2_ra1, pt3_ra1, pt4_ra1, pt5_ra1, pt6_ra1, hP1, hK1, hD1⟩ := hB
    rw [ht] at hP1
    obtain ⟨hP2, hD2⟩ := va_join (wr := []) (w1 := (wd_82cdd16b h0 h1 v0 x2 v2 v3 h1 g0 f4)) hP hD [0, 1] [] rfl rfl (by decide) (by decide) hk1 hFc hP1 hD1
    clear hP hD hPc hDc hKc hFc hP1 hK1 hD1 hk1 hz1
    generalize H1 = H at hP2 hS ⊢
    have hP : va_P (dC, dI) vwCl (wd_82cdd16b h0 h1 v0 x2 v2 v3 h1 g0 f4) H := hP2
    have hD : va_D A (wd_82cdd16b h0 h1 v0 x2 v2 v3 h1 g0 f4) := hD2
    clear hP2 hD2
    obtain rfl : ra1 = ((-1) : Int32) := pv_cs (by decide) pt0_ra1 pt1_ra1
    refine lv_iload_n hx hb dX10_take_4 rfl (lv_at hl 1 rfl) ?_
    refine lv_icmp_eq (tgt := 13) hx hb dX10_take_5 (by decide) (fun c => absurd c (by decide)) (fun _ => ?_)
    refine lv_aload_n hx hb dX10_take_8 rfl (lv_at hl 0 rfl) ?_
    have hPc := hP.sub (ws' := (wd_09b0abee h0 h1 v0 x2 v2 v3)) [0] rfl
    have hDc := hD.sub (ws' := (wd_09b0abee h0 h1 v0 x2 v2 v3)) [0] (by decide) rfl
    have hKc := hK.sub (tys' := []) [] rfl
    have hFc := va_free (wc := (wd_09b0abee h0 h1 v0 x2 v2 v3)) hD hS hA [0] rfl
    refine va_calli (va_runV (As := []) (rest := []) ⟨hx, hb, hml, hown, hts⟩ (k_X10_wrongHere l dC dI h0 h1 v0 x2 v2 v3 ⟨i_v0a, i_v0b⟩ ⟨oa_x2, ob_x2⟩ H.size) (cwV 0 hts g_X10_take_5_1 rfl rfl rfl (by decide +kernel) ⟨Nat.le_of_ble_eq_true rfl, Nat.le_of_ble_eq_true rfl⟩) (pv_PV10 hPc hKc hDc (q0 := 0) rfl) rfl rfl hl.1 rfl (lv_room (Nat.le_of_ble_eq_true rfl)) dX10_take_9 ⟨Nat.le_of_ble_eq_true rfl, Nat.le_of_ble_eq_true rfl⟩) hS (fun q _ h => hFc q h) hFc (fun ra3 u t H1 locs ht hvm hwra3 hB hz1 hk1 hS => ?_)
    try rw [hwra3] at hB
    obtain ⟨x4, oa_x4, ob_x4, pt0_ra3, pt1_ra3, pt2_ra3, hP1, hK1, hD1⟩ := hB
    rw [ht] at hP1
    obtain ⟨hP2, hD2⟩ := va_join (wr := (wd_d0032b31 h1 g0 f4)) (w1 := (wd_09b0abee h0 h1 v0 x2 x4 v3)) hP hD [0] [1] rfl rfl (by decide) (by decide) hk1 hFc hP1 hD1
    clear hP hD hPc hDc hKc hFc hP1 hK1 hD1 hk1 hz1
    generalize H1 = H at hP2 hS ⊢
    have hP := hP2.sub (ws' := (wd_82cdd16b h0 h1 v0 x2 x4 v3 h1 g0 f4)) [1, 0] rfl
    have hD := hD2.sub (ws' := (wd_82cdd16b h0 h1 v0 x2 x4 v3 h1 g0 f4)) [1, 0] (by decide) rfl
    clear hP2 hD2
    obtain rfl : ra3 = (0 : Int32) := pv_cs (by decide) pt0_ra3 pt1_ra3
    subst hQ
    have hP9 := hP.sub (ws' := (wd_82cdd16b h0 h1 v0 x2 x4 v3 h1 g0 f4)) [0, 1] rfl
    have hD9 := hD.sub (ws' := (wd_82cdd16b h0 h1 v0 x2 x4 v3 h1 g0 f4)) [0, 1] (by decide) rfl
    have hK9 := hK.sub (tys' := []) [] rfl
    exact W.zret (v := 0) hx hb hr rfl (fun t ht hW => ⟨⟨0, 0, rfl, rfl, Or.inr (⟨x2, x4, oa_x2, ob_x2, oa_x4, ob_x4, by first | omega | decide, by first | omega | decide, by omega, by first | (apply pg_take.ok <;> first | assumption | omega) | (apply pg_take.no <;> first | assumption | omega), by rw [ht]; exact hP9, va_K.moved hW.alike hK9, hD9⟩)⟩, hS.F ht⟩) hS.2.2 dX10_take_12
  · skip
    obtain ⟨x5, oa_x5, ob_x5, pt0_ra1, pt1_ra1, pt2_ra1, pt3_ra1, pt4_ra1, pt5_ra1, pt6_ra1, hP1, hK1, hD1⟩ := hB
    rw [ht] at hP1
    obtain ⟨hP2, hD2⟩ := va_join (wr := []) (w1 := (wd_82cdd16b h0 h1 v0 x5 v2 v3 h1 g0 f4)) hP hD [0, 1] [] rfl rfl (by decide) (by decide) hk1 hFc hP1 hD1
    clear hP hD hPc hDc hKc hFc hP1 hK1 hD1 hk1 hz1
    generalize H1 = H at hP2 hS ⊢
    have hP : va_P (dC, dI) vwCl (wd_82cdd16b h0 h1 v0 x5 v2 v3 h1 g0 f4) H := hP2
    have hD : va_D A (wd_82cdd16b h0 h1 v0 x5 v2 v3 h1 g0 f4) := hD2
    clear hP2 hD2
    refine lv_iload_n hx hb dX10_take_4 rfl (lv_at hl 1 rfl) ?_
    refine lv_icmp_eq (tgt := 13) hx hb dX10_take_5 (by decide) (fun c6 => ?_) (fun c6 => ?_)
    · skip
      have fc6 : ra1.toInt = 59 := congrArg Int32.toInt c6
      refine lv_aload_n hx hb dX10_take_13 rfl (lv_at hl 0 rfl) ?_
      refine lv_dup hx hb dX10_take_14 rfl ?_
      refine va_get (D := (dC, dI)) (ci := 10) (v := .int x5) (C := RX10) (T := TX10) (N := 5) hx hb hts (fun _ h => List.mem_cons_of_mem _ (List.mem_append_right _ h)) hown hK hP 0 rfl rfl 2 (by decide) (hts (.fieldLink RX10 19 "LeftArguments$Tape" "at" "I") (List.mem_cons_of_mem _ (List.mem_append_left _ (List.mem_of_getElem? (i := 1) rfl)))) (fun _ h9 => h9) rfl dX10_take_15 ?_
      refine lv_iconst (v := 1) hx hb dX10_take_18 (by decide) ?_
      refine lv_iadd hx hb dX10_take_19 ?_
      refine lv_topi (fun t7 et7 => ?_)
      have gt7 : t7.toInt = x5.toInt + 1 := pv_add (a := x5.toInt) (b := 1) et7 rfl (by decide) (by omega) (by omega)
      refine va_put (D := (dC, dI)) (ci := 10) (v := .int t7) (ty := .int) (C := RX10) (T := TX10) (N := 5) hx hb hts (fun _ h => List.mem_cons_of_mem _ (List.mem_append_right _ h)) tyX10 tyX10_ok nmX10 hown hK hP hD hS 0 rfl rfl 2 (by decide) (hts (.fieldLink RX10 19 "LeftArguments$Tape" "at" "I") (List.mem_cons_of_mem _ (List.mem_append_left _ (List.mem_of_getElem? (i := 1) rfl)))) (fun _ h9 => h9) rfl (by decide +kernel) rfl rfl (Nat.le_of_ble_eq_true rfl) dX10_take_20 (fun H locs hP hD hS => ?_)
      have hP : va_P (dC, dI) vwCl (wd_82cdd16b h0 h1 v0 t7 v2 v3 h1 g0 f4) H := hP
      have hD : va_D A (wd_82cdd16b h0 h1 v0 t7 v2 v3 h1 g0 f4) := hD
      refine lv_iconst (v := 1) hx hb dX10_take_23 (by decide) ?_
      subst hQ
      have hP9 := hP.sub (ws' := (wd_82cdd16b h0 h1 v0 t7 v2 v3 h1 g0 f4)) [0, 1] rfl
      have hD9 := hD.sub (ws' := (wd_82cdd16b h0 h1 v0 t7 v2 v3 h1 g0 f4)) [0, 1] (by decide) rfl
      have hK9 := hK.sub (tys' := []) [] rfl
      exact W.zret (v := 1) hx hb hr rfl (fun t ht hW => ⟨⟨1, 1, rfl, rfl, Or.inl ⟨t7, by first | omega | decide, by first | omega | decide, by first | omega | decide, by first | omega | decide, by omega, by first | (apply pg_take.ok <;> first | assumption | omega) | (apply pg_take.no <;> first | assumption | omega), by rw [ht]; exact hP9, va_K.moved hW.alike hK9, hD9⟩⟩, hS.F ht⟩) hS.2.2 dX10_take_24
    · skip
      have fc6 : ¬ (ra1.toInt = 59) := fun h9 => c6 (Int32.toInt_inj.mp h9)
      refine lv_aload_n hx hb dX10_take_8 rfl (lv_at hl 0 rfl) ?_
      have hPc := hP.sub (ws' := (wd_09b0abee h0 h1 v0 x5 v2 v3)) [0] rfl
      have hDc := hD.sub (ws' := (wd_09b0abee h0 h1 v0 x5 v2 v3)) [0] (by decide) rfl
      have hKc := hK.sub (tys' := []) [] rfl
      have hFc := va_free (wc := (wd_09b0abee h0 h1 v0 x5 v2 v3)) hD hS hA [0] rfl
      refine va_calli (va_runV (As := []) (rest := []) ⟨hx, hb, hml, hown, hts⟩ (k_X10_wrongHere l dC dI h0 h1 v0 x5 v2 v3 ⟨i_v0a, i_v0b⟩ ⟨oa_x5, by first | omega | decide⟩ H.size) (cwV 0 hts g_X10_take_5_1 rfl rfl rfl (by decide +kernel) ⟨Nat.le_of_ble_eq_true rfl, Nat.le_of_ble_eq_true rfl⟩) (pv_PV10 hPc hKc hDc (q0 := 0) rfl) rfl rfl hl.1 rfl (lv_room (Nat.le_of_ble_eq_true rfl)) dX10_take_9 ⟨Nat.le_of_ble_eq_true rfl, Nat.le_of_ble_eq_true rfl⟩) hS (fun q _ h => hFc q h) hFc (fun ra8 u t H1 locs ht hvm hwra8 hB hz1 hk1 hS => ?_)
      try rw [hwra8] at hB
      obtain ⟨x9, oa_x9, ob_x9, pt0_ra8, pt1_ra8, pt2_ra8, hP1, hK1, hD1⟩ := hB
      rw [ht] at hP1
      obtain ⟨hP2, hD2⟩ := va_join (wr := (wd_d0032b31 h1 g0 f4)) (w1 := (wd_09b0abee h0 h1 v0 x5 x9 v3)) hP hD [0] [1] rfl rfl (by decide) (by decide) hk1 hFc hP1 hD1
      clear hP hD hPc hDc hKc hFc hP1 hK1 hD1 hk1 hz1
      generalize H1 = H at hP2 hS ⊢
      have hP := hP2.sub (ws' := (wd_82cdd16b h0 h1 v0 x5 x9 v3 h1 g0 f4)) [1, 0] rfl
      have hD := hD2.sub (ws' := (wd_82cdd16b h0 h1 v0 x5 x9 v3 h1 g0 f4)) [1, 0] (by decide) rfl
      clear hP2 hD2
      obtain rfl : ra8 = (0 : Int32) := pv_cs (by decide) pt0_ra8 pt1_ra8
      subst hQ
      have hP9 := hP.sub (ws' := (wd_82cdd16b h0 h1 v0 x5 x9 v3 h1 g0 f4)) [0, 1] rfl
      have hD9 := hD.sub (ws' := (wd_82cdd16b h0 h1 v0 x5 x9 v3 h1 g0 f4)) [0, 1] (by decide) rfl
      have hK9 := hK.sub (tys' := []) [] rfl
      exact W.zret (v := 0) hx hb hr rfl (fun t ht hW => ⟨⟨0, 0, rfl, rfl, Or.inr (⟨x5, x9, oa_x5, by first | omega | decide, oa_x9, ob_x9, by first | omega | decide, by first | omega | decide, by omega, by first | (apply pg_take.ok <;> first | assumption | omega) | (apply pg_take.no <;> first | assumption | omega), by rw [ht]; exact hP9, va_K.moved hW.alike hK9, hD9⟩)⟩, hS.F ht⟩) hS.2.2 dX10_take_12
def q_X3_read : List Cond := .code yX3_read cX3_read 2 (some .int) :: (([.fieldLink RX3 19 "LeftArguments$LawReader" "tape" "LLeftArguments$Tape;", .code yX10_rewind cX10_rewind 1 none, .fieldLink RX10 19 "LeftArguments$Tape" "at" "I", .fieldLink RX10 22 "LeftArguments$Tape" "wrongAt" "I", .initialized RX10, .instanceMethod yX10_rewind, .selects RX10 yX10_rewind yX10_rewind, .methodLink RX3 35 yX10_rewind, .fieldLink RX3 15 "LeftArguments$LawReader" "used" "I", .code yX10_used cX10_used 1 (some .int), .fieldLink RX10 15 "LeftArguments$Tape" "used" "I", .instanceMethod yX10_used, .selects RX10 yX10_used yX10_used, .methodLink RX3 55 yX10_used, .code yX3_readClause cX3_readClause 4 (some .boolean), .code yX10_take cX10_take 2 (some .boolean), .code yX10_next cX10_next 1 (some .int), .fieldLink RX10 9 "LeftArguments$Tape" "bytes" "[I", .instanceMethod yX10_next, .selects RX10 yX10_next yX10_next, .methodLink RX10 37 yX10_next, .code yX10_wrongHere cX10_wrongHere 1 (some .boolean), .instanceMethod yX10_wrongHere, .selects RX10 yX10_wrongHere yX10_wrongHere, .methodLink RX10 41 yX10_wrongHere, .instanceMethod yX10_take, .selects RX10 yX10_take yX10_take, .methodLink RX3 51 yX10_take, .methodLink RX3 48 yX10_next, .code yX3_readSum cX3_readSum 4 (some .boolean), .code yX3_readTerm cX3_readTerm 4 (some .boolean), .code yX3_readAtom cX3_readAtom 4 (some .boolean), .code yX10_isDigit cX10_isDigit 1 (some .boolean), .static yX10_isDigit, .methodLink RX3 92 yX10_isDigit, .methodLink RX3 83 yX10_wrongHere, .code yJ0_indexOf_0f7a4 cJ0_indexOf_0f7a4 2 (some .int), .code yJ0_indexOf_7cf53 cJ0_indexOf_7cf53 3 (some .int), .code yJ0_isLatin1_aae02 cJ0_isLatin1_aae02 1 (some .boolean), .fieldLink RJ0 38 "java/lang/String" "COMPACT_STRINGS" "Z", .fieldLink RJ0 15 "java/lang/String" "coder" "B", .initialized RJ0, .instanceMethod yJ0_isLatin1_aae02, .selects RJ0 yJ0_isLatin1_aae02 yJ0_isLatin1_aae02, .methodLink RJ0 492 yJ0_isLatin1_aae02, .fieldLink RJ0 9 "java/lang/String" "value" "[B", .code yJ0_length_8abf5 cJ0_length_8abf5 1 (some .int), .code yJ0_coder_7d493 cJ0_coder_7d493 1 (some .byte), .instanceMethod yJ0_coder_7d493, .selects RJ0 yJ0_coder_7d493 yJ0_coder_7d493, .methodLink RJ0 335 yJ0_coder_7d493, .instanceMethod yJ0_length_8abf5, .selects RJ0 yJ0_length_8abf5 yJ0_length_8abf5, .methodLink RJ0 505 yJ0_length_8abf5, .code yJ1_indexOf_4cfef cJ1_indexOf_4cfef 4 (some .int), .code yJ1_canEncode_9a6ad cJ1_canEncode_9a6ad 1 (some .boolean), .initialized RJ1, .static yJ1_canEncode_9a6ad, .methodLink RJ1 88 yJ1_canEncode_9a6ad, .methodLink RJ1 92 Lib.Math.max.name, .static Lib.Math.max.name, .initialized "java/lang/Math", .code Lib.Math.max.name Lib.Math.max.code 2 (some .int), .methodLink RJ1 38 Lib.Math.min.name, .static Lib.Math.min.name, .code Lib.Math.min.name Lib.Math.min.code 2 (some .int), .code yJ1_indexOfChar_4cfef cJ1_indexOfChar_4cfef 6 (some .int), .static yJ1_indexOfChar_4cfef, .methodLink RJ1 95 yJ1_indexOfChar_4cfef, .static yJ1_indexOf_4cfef, .methodLink RJ0 637 yJ1_indexOf_4cfef, .instanceMethod yJ0_indexOf_7cf53, .selects RJ0 yJ0_indexOf_7cf53 yJ0_indexOf_7cf53, .methodLink RJ0 633 yJ0_indexOf_7cf53, .instanceMethod yJ0_indexOf_0f7a4, .selects RJ0 yJ0_indexOf_0f7a4 yJ0_indexOf_0f7a4, .methodLink RX3 103 yJ0_indexOf_0f7a4, .code yX10_step cX10_step 1 none, .instanceMethod yX10_step, .selects RX10 yX10_step yX10_step, .methodLink RX3 77 yX10_step, .code yX3_write cX3_write 3 none, .fieldLink RX3 11 "LeftArguments$LawReader" "code" "[I", .initialized RX3, .instanceMethod yX3_write, .selects RX3 yX3_write yX3_write, .methodLink RX3 66 yX3_write, .code yX10_takeNumber cX10_takeNumber 3 (some .boolean), .methodLink RX10 45 yX10_isDigit, .fieldLink RX10 25 "LeftArguments$Tape" "number" "I", .code yX10_sign cX10_sign 1 (some .int), .instanceMethod yX10_sign, .selects RX10 yX10_sign yX10_sign, .methodLink RX10 49 yX10_sign, .instanceMethod yX10_takeNumber, .selects RX10 yX10_takeNumber yX10_takeNumber, .methodLink RX3 95 yX10_takeNumber, .code yX10_number cX10_number 1 (some .int), .instanceMethod yX10_number, .selects RX10 yX10_number yX10_number, .methodLink RX3 98 yX10_number, .instanceMethod yX3_readAtom, .selects RX3 yX3_readAtom yX3_readAtom, .methodLink RX3 89 yX3_readAtom, .instanceMethod yX3_readTerm, .selects RX3 yX3_readTerm yX3_readTerm, .methodLink RX3 86 yX3_readTerm, .instanceMethod yX3_readSum, .selects RX3 yX3_readSum yX3_readSum, .methodLink RX3 59 yX3_readSum, .code yX3_comparing cX3_comparing 1 (some .int), .static yX3_comparing, .methodLink RX3 62 yX3_comparing, .code yX3_readCondition cX3_readCondition 4 (some .boolean), .code yX3_readTruth cX3_readTruth 4 (some .boolean), .code yX3_readUnit cX3_readUnit 5 (some .boolean), .instanceMethod yX3_readUnit, .selects RX3 yX3_readUnit yX3_readUnit, .methodLink RX3 80 yX3_readUnit, .instanceMethod yX3_readTruth, .selects RX3 yX3_readTruth yX3_readTruth, .methodLink RX3 74 yX3_readTruth, .instanceMethod yX3_readCondition, .selects RX3 yX3_readCondition yX3_readCondition, .methodLink RX3 70 yX3_readCondition, .instanceMethod yX3_readClause, .selects RX3 yX3_readClause yX3_readClause, .methodLink RX3 40 yX3_readClause, .code yX10_wrongAt cX10_wrongAt 1 (some .int), .instanceMethod yX10_wrongAt, .selects RX10 yX10_wrongAt yX10_wrongAt, .methodLink RX3 44 yX10_wrongAt] : List Cond) ++ wsX30 ++ wsX100)
set_option maxRecDepth 20000 in
theorem g_X3_read_0 : GoodIn q_X3_read (wsV RX3 35 RX10 yX10_rewind q_X10_rewind) := goodIn_app (goodIn_r _ [8, 6, 7, 5] rfl (by decide +kernel)) (goodIn_ca (goodIn_r (.code yX10_rewind cX10_rewind 1 none :: [.fieldLink RX10 19 "LeftArguments$Tape" "at" "I", .fieldLink RX10 22 "LeftArguments$Tape" "wrongAt" "I"]) [2, 3, 4] rfl (by decide +kernel)) (goodIn_sub (fun _ h => List.mem_cons_of_mem _ (List.mem_append_right _ h)) gwX10))
set_option maxRecDepth 20000 in
theorem g_X3_read_1 : GoodIn q_X3_read (wsV RX3 55 RX10 yX10_used q_X10_used) := goodIn_app (goodIn_r _ [14, 12, 13, 5] rfl (by decide +kernel)) (goodIn_ca (goodIn_r (.code yX10_used cX10_used 1 (some .int) :: [.fieldLink RX10 15 "LeftArguments$Tape" "used" "I"]) [10, 11] rfl (by decide +kernel)) (goodIn_sub (fun _ h => List.mem_cons_of_mem _ (List.mem_append_right _ h)) gwX10))
set_option maxRecDepth 20000 in
theorem g_X3_read_2 : GoodIn q_X3_read (wsV RX3 40 RX3 yX3_readClause q_X3_readClause) := goodIn_app (goodIn_r _ [128, 126, 127, 84] rfl (by decide +kernel)) (goodIn_ca (goodIn_ca (goodIn_r (.code yX3_readClause cX3_readClause 4 (some .boolean) :: [.fieldLink RX3 19 "LeftArguments$LawReader" "tape" "LLeftArguments$Tape;", .code yX10_take cX10_take 2 (some .boolean), .code yX10_next cX10_next 1 (some .int), .fieldLink RX10 19 "LeftArguments$Tape" "at" "I", .fieldLink RX10 15 "LeftArguments$Tape" "used" "I", .fieldLink RX10 9 "LeftArguments$Tape" "bytes" "[I", .initialized RX10, .instanceMethod yX10_next, .selects RX10 yX10_next yX10_next, .methodLink RX10 37 yX10_next, .code yX10_wrongHere cX10_wrongHere 1 (some .boolean), .fieldLink RX10 22 "LeftArguments$Tape" "wrongAt" "I", .instanceMethod yX10_wrongHere, .selects RX10 yX10_wrongHere yX10_wrongHere, .methodLink RX10 41 yX10_wrongHere, .instanceMethod yX10_take, .selects RX10 yX10_take yX10_take, .methodLink RX3 51 yX10_take, .methodLink RX3 48 yX10_next, .code yX3_readSum cX3_readSum 4 (some .boolean), .code yX3_readTerm cX3_readTerm 4 (some .boolean), .code yX3_readAtom cX3_readAtom 4 (some .boolean), .code yX10_isDigit cX10_isDigit 1 (some .boolean), .static yX10_isDigit, .methodLink RX3 92 yX10_isDigit, .methodLink RX3 83 yX10_wrongHere, .code yJ0_indexOf_0f7a4 cJ0_indexOf_0f7a4 2 (some .int), .code yJ0_indexOf_7cf53 cJ0_indexOf_7cf53 3 (some .int), .code yJ0_isLatin1_aae02 cJ0_isLatin1_aae02 1 (some .boolean), .fieldLink RJ0 38 "java/lang/String" "COMPACT_STRINGS" "Z", .fieldLink RJ0 15 "java/lang/String" "coder" "B", .initialized RJ0, .instanceMethod yJ0_isLatin1_aae02, .selects RJ0 yJ0_isLatin1_aae02 yJ0_isLatin1_aae02, .methodLink RJ0 492 yJ0_isLatin1_aae02, .fieldLink RJ0 9 "java/lang/String" "value" "[B", .code yJ0_length_8abf5 cJ0_length_8abf5 1 (some .int), .code yJ0_coder_7d493 cJ0_coder_7d493 1 (some .byte), .instanceMethod yJ0_coder_7d493, .selects RJ0 yJ0_coder_7d493 yJ0_coder_7d493, .methodLink RJ0 335 yJ0_coder_7d493, .instanceMethod yJ0_length_8abf5, .selects RJ0 yJ0_length_8abf5 yJ0_length_8abf5, .methodLink RJ0 505 yJ0_length_8abf5, .code yJ1_indexOf_4cfef cJ1_indexOf_4cfef 4 (some .int), .code yJ1_canEncode_9a6ad cJ1_canEncode_9a6ad 1 (some .boolean), .initialized RJ1, .static yJ1_canEncode_9a6ad, .methodLink RJ1 88 yJ1_canEncode_9a6ad, .methodLink RJ1 92 Lib.Math.max.name, .static Lib.Math.max.name, .initialized "java/lang/Math", .code Lib.Math.max.name Lib.Math.max.code 2 (some .int), .methodLink RJ1 38 Lib.Math.min.name, .static Lib.Math.min.name, .code Lib.Math.min.name Lib.Math.min.code 2 (some .int), .code yJ1_indexOfChar_4cfef cJ1_indexOfChar_4cfef 6 (some .int), .static yJ1_indexOfChar_4cfef, .methodLink RJ1 95 yJ1_indexOfChar_4cfef, .static yJ1_indexOf_4cfef, .methodLink RJ0 637 yJ1_indexOf_4cfef, .instanceMethod yJ0_indexOf_7cf53, .selects RJ0 yJ0_indexOf_7cf53 yJ0_indexOf_7cf53, .methodLink RJ0 633 yJ0_indexOf_7cf53, .instanceMethod yJ0_indexOf_0f7a4, .selects RJ0 yJ0_indexOf_0f7a4 yJ0_indexOf_0f7a4, .methodLink RX3 103 yJ0_indexOf_0f7a4, .code yX10_step cX10_step 1 none, .instanceMethod yX10_step, .selects RX10 yX10_step yX10_step, .methodLink RX3 77 yX10_step, .code yX3_write cX3_write 3 none, .fieldLink RX3 15 "LeftArguments$LawReader" "used" "I", .fieldLink RX3 11 "LeftArguments$LawReader" "code" "[I", .initialized RX3, .instanceMethod yX3_write, .selects RX3 yX3_write yX3_write, .methodLink RX3 66 yX3_write, .code yX10_takeNumber cX10_takeNumber 3 (some .boolean), .methodLink RX10 45 yX10_isDigit, .fieldLink RX10 25 "LeftArguments$Tape" "number" "I", .code yX10_sign cX10_sign 1 (some .int), .instanceMethod yX10_sign, .selects RX10 yX10_sign yX10_sign, .methodLink RX10 49 yX10_sign, .instanceMethod yX10_takeNumber, .selects RX10 yX10_takeNumber yX10_takeNumber, .methodLink RX3 95 yX10_takeNumber, .code yX10_number cX10_number 1 (some .int), .instanceMethod yX10_number, .selects RX10 yX10_number yX10_number, .methodLink RX3 98 yX10_number, .instanceMethod yX3_readAtom, .selects RX3 yX3_readAtom yX3_readAtom, .methodLink RX3 89 yX3_readAtom, .instanceMethod yX3_readTerm, .selects RX3 yX3_readTerm yX3_readTerm, .methodLink RX3 86 yX3_readTerm, .instanceMethod yX3_readSum, .selects RX3 yX3_readSum yX3_readSum, .methodLink RX3 59 yX3_readSum, .code yX3_comparing cX3_comparing 1 (some .int), .static yX3_comparing, .methodLink RX3 62 yX3_comparing, .code yX3_readCondition cX3_readCondition 4 (some .boolean), .code yX3_readTruth cX3_readTruth 4 (some .boolean), .code yX3_readUnit cX3_readUnit 5 (some .boolean), .instanceMethod yX3_readUnit, .selects RX3 yX3_readUnit yX3_readUnit, .methodLink RX3 80 yX3_readUnit, .instanceMethod yX3_readTruth, .selects RX3 yX3_readTruth yX3_readTruth, .methodLink RX3 74 yX3_readTruth, .instanceMethod yX3_readCondition, .selects RX3 yX3_readCondition yX3_readCondition, .methodLink RX3 70 yX3_readCondition]) [15, 1, 16, 17, 3, 11, 18, 5, 19, 20, 21, 22, 4, 23, 24, 25, 26, 27, 28, 29, 30, 31, 32, 33, 34, 35, 36, 37, 38, 39, 40, 41, 42, 43, 44, 45, 46, 47, 48, 49, 50, 51, 52, 53, 54, 55, 56, 57, 58, 59, 60, 61, 62, 63, 64, 65, 66, 67, 68, 69, 70, 71, 72, 73, 74, 75, 76, 77, 78, 79, 80, 81, 82, 9, 83, 84, 85, 86, 87, 88, 89, 90, 91, 92, 93, 94, 95, 96, 97, 98, 99, 100, 101, 102, 103, 104, 105, 106, 107, 108, 109, 110, 111, 112, 113, 114, 115, 116, 117, 118, 119, 120, 121, 122, 123, 124, 125] rfl (by decide +kernel)) (goodIn_sub (fun _ h => List.mem_cons_of_mem _ (List.mem_append_left _ (List.mem_append_right _ h))) gwX3)) (goodIn_sub (fun _ h => List.mem_cons_of_mem _ (List.mem_append_right _ h)) gwX10))
set_option maxRecDepth 20000 in
theorem g_X3_read_3 : GoodIn q_X3_read (wsV RX3 48 RX10 yX10_next q_X10_next) := goodIn_app (goodIn_r _ [29, 19, 20, 5] rfl (by decide +kernel)) (goodIn_ca (goodIn_r (.code yX10_next cX10_next 1 (some .int) :: [.fieldLink RX10 19 "LeftArguments$Tape" "at" "I", .fieldLink RX10 15 "LeftArguments$Tape" "used" "I", .fieldLink RX10 9 "LeftArguments$Tape" "bytes" "[I"]) [17, 3, 11, 18] rfl (by decide +kernel)) (goodIn_sub (fun _ h => List.mem_cons_of_mem _ (List.mem_append_right _ h)) gwX10))
set_option maxRecDepth 20000 in
theorem g_X3_read_4 : GoodIn q_X3_read (wsV RX3 51 RX10 yX10_take q_X10_take_5) := goodIn_app (goodIn_r _ [28, 26, 27, 5] rfl (by decide +kernel)) (goodIn_ca (goodIn_r (.code yX10_take cX10_take 2 (some .boolean) :: [.code yX10_next cX10_next 1 (some .int), .fieldLink RX10 19 "LeftArguments$Tape" "at" "I", .fieldLink RX10 15 "LeftArguments$Tape" "used" "I", .fieldLink RX10 9 "LeftArguments$Tape" "bytes" "[I", .initialized RX10, .instanceMethod yX10_next, .selects RX10 yX10_next yX10_next, .methodLink RX10 37 yX10_next, .code yX10_wrongHere cX10_wrongHere 1 (some .boolean), .fieldLink RX10 22 "LeftArguments$Tape" "wrongAt" "I", .instanceMethod yX10_wrongHere, .selects RX10 yX10_wrongHere yX10_wrongHere, .methodLink RX10 41 yX10_wrongHere]) [16, 17, 3, 11, 18, 5, 19, 20, 21, 22, 4, 23, 24, 25] rfl (by decide +kernel)) (goodIn_sub (fun _ h => List.mem_cons_of_mem _ (List.mem_append_right _ h)) gwX10))
set_option maxRecDepth 20000 in
theorem g_X3_read_5 : GoodIn q_X3_read (wsV RX3 44 RX10 yX10_wrongAt q_X10_wrongAt) := goodIn_app (goodIn_r _ [132, 130, 131, 5] rfl (by decide +kernel)) (goodIn_ca (goodIn_r (.code yX10_wrongAt cX10_wrongAt 1 (some .int) :: [.fieldLink RX10 22 "LeftArguments$Tape" "wrongAt" "I"]) [129, 4] rfl (by decide +kernel)) (goodIn_sub (fun _ h => List.mem_cons_of_mem _ (List.mem_append_right _ h)) gwX10))
set_option maxHeartbeats 4000000 in
set_option maxRecDepth 100000 in
theorem k_X3_read (l : Launch) (dC : Nat → ClassId) (dI : Nat → Nat → Nat) (adK : Nat → Nat) (adV : Nat → Nat) (h0 : Nat) (h1 : Nat) (h2 : Nat) (h3 : Nat) (v0 : Int32) (v1 : Int32) (v2 : Int32) (v3 : Int32) (v4 : Int32) (g0 : ClassId) (f5 : Nat → Int32) (g1 : ClassId) (f6 : Nat → Int32) (i_v0 : 0 ≤ v0.toInt ∧ v0.toInt ≤ 256) (i_v1 : 0 ≤ v1.toInt ∧ v1.toInt ≤ 240) (ia_f5 : (∀ j, 0 ≤ (f5 j).toInt ∧ (f5 j).toInt ≤ 255)) (sz : Nat) : Met l yX3_read q_X3_read ({ frames := 29, cells := 0, slots := 0, locals := 673 }) (va_Pc [.ref h0] (fun U => U.heap.size = sz ∧ va_P (dC, dI) vwCl (wd_1ad0248d h0 h1 h3 v0 h1 h2 v1 v2 v3 v4 h2 g0 f5 h3 g1 f6) U.heap ∧ va_K (dC, dI) vwCl [(g0, .int), (g1, .int)] U ∧ va_D (fun _ => True) (wd_1ad0248d h0 h1 h3 v0 h1 h2 v1 v2 v3 v4 h2 g0 f5 h3 g1 f6) ∧ vk_R RX3 101 "zaondt" (adK 2) U ∧ va_Z "java/lang/String" "COMPACT_STRINGS" "Z" (.int 1) (va_A (wd_1ad0248d h0 h1 h3 v0 h1 h2 v1 v2 v3 v4 h2 g0 f5 h3 g1 f6) sz) U U.heap ∧ vk_S 3 pv_len3 pv_byt3 adK adV (va_A (wd_1ad0248d h0 h1 h3 v0 h1 h2 v1 v2 v3 v4 h2 g0 f5 h3 g1 f6) sz) U U.heap)) (va_Qi (fun (r : Int32) (r9 : Int32) => r9 = r) (fun (r : Int32) (t : State) => (∃ (o_h0_2 : Int32) (o_h1_2 : Int32) (o_h1_3 : Int32) (o_h1_4 : Int32) (o_h3 : Nat → Int32), 0 ≤ o_h0_2.toInt ∧ o_h0_2.toInt ≤ 256 ∧ 0 ≤ o_h1_2.toInt ∧ o_h1_2.toInt ≤ 240 ∧ -1 ≤ o_h1_3.toInt ∧ o_h1_3.toInt ≤ 240 ∧ (r.toInt = pg_law f5 v1.toInt) ∧ va_P (dC, dI) vwCl (wd_1ad0248d h0 h1 h3 o_h0_2 h1 h2 v1 o_h1_2 o_h1_3 o_h1_4 h2 g0 f5 h3 g1 o_h3) t.heap ∧ va_K (dC, dI) vwCl [] t ∧ va_D (va_A (wd_1ad0248d h0 h1 h3 v0 h1 h2 v1 v2 v3 v4 h2 g0 f5 h3 g1 f6) sz) (wd_1ad0248d h0 h1 h3 o_h0_2 h1 h2 v1 o_h1_2 o_h1_3 o_h1_4 h2 g0 f5 h3 g1 o_h3))) (va_A (wd_1ad0248d h0 h1 h3 v0 h1 h2 v1 v2 v3 v4 h2 g0 f5 h3 g1 f6) sz)) 0 0 (va_A (wd_1ad0248d h0 h1 h3 v0 h1 h2 v1 v2 v3 v4 h2 g0 f5 h3 g1 f6) sz) := by
  refine Met.ofW (cc := cX3_read) (maxL := 2) (ret := (some .int)) (by decide) rfl ?_
  intro p e s m args below meth c s₁ B hml hv
  obtain ⟨i_v0a, i_v0b⟩ := i_v0
  obtain ⟨i_v1a, i_v1b⟩ := i_v1
  obtain ⟨rfl, hsz, hP, hK, hD0, h_vr_2, h_st_CS, h_st_S⟩ := hv
  have hx := B.exec
  have hb := B.bytes
  have hr := B.returns
  have hts := atoms_spec (ws := q_X3_read) B.pre
  have hown : s.vm.findClass RX3 = some m.cls := findClass_of_methodNamed B.named
  have hlocks := B.notSynchronized
  subst hsz
  have hD := hD0.self (sz := s.heap.size)
  generalize hAe : va_A (wd_1ad0248d h0 h1 h3 v0 h1 h2 v1 v2 v3 v4 h2 g0 f5 h3 g1 f6) s.heap.size = A at hD h_st_CS h_st_S ⊢
  have hA : ∀ q : Nat, s.heap.size ≤ q → A q := fun q h => by rw [← hAe]; exact Or.inr h
  have hS : va_S A s.heap s.heap [] := va_S.rf
  generalize hQ : (MQ below _ _ s 0 0 A) = Q
  have hl := lv_entry ([.ref h0]) (n := 2) (Nat.le_of_ble_eq_true rfl)
  rw [lg_entry_eq]
  generalize (lg_sl ([.ref h0]) ++ List.replicate (2 - (lg_sl ([.ref h0])).length) Slot.unset).toArray = ls at hl ⊢
  have hl : lv_has ls 2 [(0, .ref h0)] := hl
  obtain ⟨H, hH⟩ : ∃ H : Heap, H = s.heap := ⟨_, rfl⟩
  obtain ⟨locs, hlocs⟩ : ∃ y : List Loc, y = [] := ⟨_, rfl⟩
  have hS : va_S A s.heap H locs := by rw [hH, hlocs]; exact va_S.rf
  have hP : va_P (dC, dI) vwCl (wd_1ad0248d h0 h1 h3 v0 h1 h2 v1 v2 v3 v4 h2 g0 f5 h3 g1 f6) H := by rw [hH]; exact hP
  rw [← hH, ← hlocs]
  refine lv_aload_n hx hb dX3_read_0 rfl (lv_at hl 0 rfl) ?_
  refine va_get (D := (dC, dI)) (ci := 3) (v := .ref h1) (C := RX3) (T := TX3) (N := 3) hx hb hts (fun _ h => List.mem_cons_of_mem _ (List.mem_append_left _ (List.mem_append_right _ h))) hown hK hP 0 rfl rfl 0 (by decide) (hts (.fieldLink RX3 19 "LeftArguments$LawReader" "tape" "LLeftArguments$Tape;") (List.mem_cons_of_mem _ (List.mem_append_left _ (List.mem_append_left _ (List.mem_of_getElem? (i := 0) rfl))))) (fun _ h9 => h9) rfl dX3_read_1 ?_
  have hPc := hP.sub (ws' := (wd_09b0abee h1 h2 v1 v2 v3 v4)) [1] rfl
  have hDc := hD.sub (ws' := (wd_09b0abee h1 h2 v1 v2 v3 v4)) [1] (by decide) rfl
  have hKc := hK.sub (tys' := []) [] rfl
  have hFc := va_free (wc := (wd_09b0abee h1 h2 v1 v2 v3 v4)) hD hS hA [1] rfl
  refine va_callv (va_runV (As := []) (rest := []) ⟨hx, hb, hml, hown, hts⟩ (k_X10_rewind l dC dI h1 h2 v1 v2 v3 v4 ⟨i_v1a, i_v1b⟩ H.size) (cwV 0 hts g_X3_read_0 rfl rfl rfl (by decide +kernel) ⟨Nat.le_of_ble_eq_true rfl, Nat.le_of_ble_eq_true rfl⟩) (pv_PV10 hPc hKc hDc (q0 := 0) rfl) rfl rfl hl.1 rfl (lv_room (Nat.le_of_ble_eq_true rfl)) dX3_read_4 ⟨Nat.le_of_ble_eq_true rfl, Nat.le_of_ble_eq_true rfl⟩) hS (fun q _ h => hFc q h) hFc (fun u t H1 locs ht hvm hwra1 hB hz1 hk1 hS => ?_)
  obtain ⟨hP1, hK1, hD1⟩ := hB
  rw [ht] at hP1
  obtain ⟨hP2, hD2⟩ := va_join (wr := (wd_6b0d8e05 h0 h1 h3 v0 h2 g0 f5 h3 g1 f6)) (w1 := (wd_09b0abee h1 h2 v1 0 (-1) v4)) hP hD [1] [0, 2, 3] rfl rfl (by decide) (by decide) hk1 hFc hP1 hD1
  clear hP hD hPc hDc hKc hFc hP1 hK1 hD1 hk1 hz1
  generalize H1 = H at hP2 hS ⊢
  have hP := hP2.sub (ws' := (wd_1ad0248d h0 h1 h3 v0 h1 h2 v1 0 (-1) v4 h2 g0 f5 h3 g1 f6)) [0, 3, 1, 2] rfl
  have hD := hD2.sub (ws' := (wd_1ad0248d h0 h1 h3 v0 h1 h2 v1 0 (-1) v4 h2 g0 f5 h3 g1 f6)) [0, 3, 1, 2] (by decide) rfl
  clear hP2 hD2
  refine lv_aload_n hx hb dX3_read_7 rfl (lv_at hl 0 rfl) ?_
  refine lv_iconst (v := 0) hx hb dX3_read_8 (by decide) ?_
  refine va_put (D := (dC, dI)) (ci := 3) (v := .int 0) (ty := .int) (C := RX3) (T := TX3) (N := 3) hx hb hts (fun _ h => List.mem_cons_of_mem _ (List.mem_append_left _ (List.mem_append_right _ h))) tyX3 tyX3_ok nmX3 hown hK hP hD hS 0 rfl rfl 2 (by decide) (hts (.fieldLink RX3 15 "LeftArguments$LawReader" "used" "I") (List.mem_cons_of_mem _ (List.mem_append_left _ (List.mem_append_left _ (List.mem_of_getElem? (i := 8) rfl))))) (fun _ h9 => h9) rfl (by decide +kernel) rfl rfl (Nat.le_of_ble_eq_true rfl) dX3_read_9 (fun H locs hP hD hS => ?_)
  have hP : va_P (dC, dI) vwCl (wd_1ad0248d h0 h1 h3 0 h1 h2 v1 0 (-1) v4 h2 g0 f5 h3 g1 f6) H := hP
  have hD : va_D A (wd_1ad0248d h0 h1 h3 0 h1 h2 v1 0 (-1) v4 h2 g0 f5 h3 g1 f6) := hD
  refine lv_iconst (v := 0) hx hb dX3_read_12 (by decide) ?_
  refine lv_istore_n (lv' := [(1, .int 0), (0, .ref h0)]) hx hb dX3_read_13 rfl hl (by decide) rfl (fun ls hl => ?_)
  have hL67 : ∀ (n9 : Nat), ∀ (x57 : Int32) (x58 : Int32) (x59 : Int32) (x60 : Int32) (fn61 : Nat → Int32) (H : Heap) (locs : List Loc) (ls : Array Slot), 0 ≤ x57.toInt → x57.toInt ≤ 241 → 0 ≤ x58.toInt → x58.toInt ≤ 256 → 0 ≤ x59.toInt → x59.toInt ≤ 240 → (pg_M f5 v1.toInt 59 59 (pg_clause f5 v1.toInt) x59.toInt (pg_row f5 v1.toInt 59 59 (pg_clause f5 v1.toInt) ((0 : Int32)).toInt)) → (x57.toInt ≤ x59.toInt) → (241 - x57.toInt).toNat < n9 → va_P (dC, dI) vwCl (wd_1ad0248d h0 h1 h3 x58 h1 h2 v1 x59 (-1) x60 h2 g0 f5 h3 g1 fn61) H → va_D A (wd_1ad0248d h0 h1 h3 x58 h1 h2 v1 x59 (-1) x60 h2 g0 f5 h3 g1 fn61) → va_S A s.heap H locs → lv_has ls 2 [(1, .int x57), (0, .ref h0)] → W p l e ({ frames := 29, cells := 0, slots := 0, locals := 673 }) s m ([.ref h0] : List Value).toArray below meth c H locs 0 0 Q (F0 m 14 ls []) := by
    intro n9
    induction n9 with
    | zero => intro x57 x58 x59 x60 fn61 H locs ls qa_x57 qb_x57 qa_x58 qb_x58 qa_x59 qb_x59 gh0_hL67 gh1_hL67 hm9 hP hD hS hl; exact absurd hm9 (Nat.not_lt_zero _)
    | succ n9 ih_hL67 =>
      intro x57 x58 x59 x60 fn61 H locs ls qa_x57 qb_x57 qa_x58 qb_x58 qa_x59 qb_x59 gh0_hL67 gh1_hL67 hm9 hP hD hS hl
      refine lv_iload_n hx hb dX3_read_14 rfl (lv_at hl 0 rfl) ?_
      refine lv_sipush (v := 240) hx hb dX3_read_15 (by decide) ?_
      refine lv_icmp_gt (tgt := 75) hx hb dX3_read_18 (by decide) (fun c68 => ?_) (fun c68 => ?_)
      · skip
        have fc68 : 240 < x57.toInt := Int32.lt_iff_toInt_lt.mp c68
        refine lv_aload_n hx hb dX3_read_75 rfl (lv_at hl 1 rfl) ?_
        refine va_get (D := (dC, dI)) (ci := 3) (v := .ref h1) (C := RX3) (T := TX3) (N := 3) hx hb hts (fun _ h => List.mem_cons_of_mem _ (List.mem_append_left _ (List.mem_append_right _ h))) hown hK hP 0 rfl rfl 0 (by decide) (hts (.fieldLink RX3 19 "LeftArguments$LawReader" "tape" "LLeftArguments$Tape;") (List.mem_cons_of_mem _ (List.mem_append_left _ (List.mem_append_left _ (List.mem_of_getElem? (i := 0) rfl))))) (fun _ h9 => h9) rfl dX3_read_76 ?_
        have hPc := hP.sub (ws' := (wd_09b0abee h1 h2 v1 x59 (-1) x60)) [1] rfl
        have hDc := hD.sub (ws' := (wd_09b0abee h1 h2 v1 x59 (-1) x60)) [1] (by decide) rfl
        have hKc := hK.sub (tys' := []) [] rfl
        have hFc := va_free (wc := (wd_09b0abee h1 h2 v1 x59 (-1) x60)) hD hS hA [1] rfl
        refine va_calli (va_runV (As := []) (rest := []) ⟨hx, hb, hml, hown, hts⟩ (k_X10_used l dC dI h1 h2 v1 x59 ((-1)) x60 ⟨i_v1a, i_v1b⟩ H.size) (cwV 0 hts g_X3_read_1 rfl rfl rfl (by decide +kernel) ⟨Nat.le_of_ble_eq_true rfl, Nat.le_of_ble_eq_true rfl⟩) (pv_PV10 hPc hKc hDc (q0 := 0) rfl) rfl rfl hl.1 rfl (lv_room (Nat.le_of_ble_eq_true rfl)) dX3_read_79 ⟨Nat.le_of_ble_eq_true rfl, Nat.le_of_ble_eq_true rfl⟩) hS (fun q _ h => hFc q h) hFc (fun ra69 u t H1 locs ht hvm hwra69 hB hz1 hk1 hS => ?_)
        try rw [hwra69] at hB
        have hkra69_0 : (((-1) : Int32)).toInt = -1 := by decide
        obtain ⟨pt0_ra69, pt1_ra69, pt2_ra69, hP1, hK1, hD1⟩ := hB
        rw [ht] at hP1
        obtain ⟨hP2, hD2⟩ := va_join (wr := (wd_6b0d8e05 h0 h1 h3 x58 h2 g0 f5 h3 g1 fn61)) (w1 := (wd_09b0abee h1 h2 v1 x59 (-1) x60)) hP hD [1] [0, 2, 3] rfl rfl (by decide) (by decide) hk1 hFc hP1 hD1
        clear hP hD hPc hDc hKc hFc hP1 hK1 hD1 hk1 hz1
        generalize H1 = H at hP2 hS ⊢
        have hP := hP2.sub (ws' := (wd_1ad0248d h0 h1 h3 x58 h1 h2 v1 x59 (-1) x60 h2 g0 f5 h3 g1 fn61)) [0, 3, 1, 2] rfl
        have hD := hD2.sub (ws' := (wd_1ad0248d h0 h1 h3 x58 h1 h2 v1 x59 (-1) x60 h2 g0 f5 h3 g1 fn61)) [0, 3, 1, 2] (by decide) rfl
        clear hP2 hD2
        subst hQ
        have hP9 := hP.sub (ws' := (wd_1ad0248d h0 h1 h3 x58 h1 h2 v1 x59 (-1) x60 h2 g0 f5 h3 g1 fn61)) [0, 1, 2, 3] rfl
        have hD9 := hD.sub (ws' := (wd_1ad0248d h0 h1 h3 x58 h1 h2 v1 x59 (-1) x60 h2 g0 f5 h3 g1 fn61)) [0, 1, 2, 3] (by decide) rfl
        have hK9 := hK.sub (tys' := []) [] rfl
        exact W.iret (v := ra69) hx hb hr (fun t ht hW => ⟨⟨ra69, ra69, rfl, rfl, ⟨x58, x59, (-1), x60, fn61, qa_x58, qb_x58, qa_x59, qb_x59, by decide, by decide, by first | (apply pg_law.k0 <;> first | assumption | omega) | (apply pg_law.k1 <;> first | assumption | omega | decide) | (apply pg_law.k2 <;> first | assumption | omega) | (exfalso; omega), by rw [ht]; exact hP9, va_K.moved hW.alike hK9, hD9⟩⟩, hS.F ht⟩) hS.2.2 dX3_read_82
      · skip
        have fc68 : ¬ (240 < x57.toInt) := fun h9 => c68 (Int32.lt_iff_toInt_lt.mpr h9)
        refine lv_aload_n hx hb dX3_read_21 rfl (lv_at hl 1 rfl) ?_
        have hPc := hP.sub (ws' := (wd_1ad0248d h0 h1 h3 x58 h1 h2 v1 x59 (-1) x60 h2 g0 f5 h3 g1 fn61)) [0, 1, 2, 3] rfl
        have hDc := hD.sub (ws' := (wd_1ad0248d h0 h1 h3 x58 h1 h2 v1 x59 (-1) x60 h2 g0 f5 h3 g1 fn61)) [0, 1, 2, 3] (by decide) rfl
        have hKc := hK.sub (tys' := [(g0, .int), (g1, .int)]) [0, 1] rfl
        have hFc := va_free (wc := (wd_1ad0248d h0 h1 h3 x58 h1 h2 v1 x59 (-1) x60 h2 g0 f5 h3 g1 fn61)) hD hS hA [0, 1, 2, 3] rfl
        refine va_calli (va_runV (As := []) (rest := []) ⟨hx, hb, hml, hown, hts⟩ (k_X3_readClause l dC dI adK adV h0 h1 h2 h3 x58 v1 x59 ((-1)) x60 g0 f5 g1 fn61 ⟨qa_x58, qb_x58⟩ ⟨i_v1a, i_v1b⟩ ⟨qa_x59, qb_x59⟩ ia_f5 H.size) (cwV 0 hts g_X3_read_2 rfl rfl rfl (by decide +kernel) ⟨Nat.le_of_ble_eq_true rfl, Nat.le_of_ble_eq_true rfl⟩) ⟨fun a U g mk q => by obtain ⟨q0, q1, qP, qK, qD, n0, n1, n2⟩ := q; exact ⟨q0, q1, qP, va_K.moved (u := U) (U := U.calling g mk a) (Vm.Alike.refl U.vm) qK, qD, vk_R.same rfl n0, va_Z.moved (Vm.Alike.refl _) n1, vk_S.moved (Vm.Alike.refl _) n2⟩, pv_rc3 hKc hPc (q0 := 0) rfl, fun U hU hW => ⟨rfl, by rw [hU], by rw [hU]; exact hPc, va_K.moved hW.alike hKc, hDc.weaken (fun _ _ _ _ => trivial), vk_R.warm hW h_vr_2, (by rw [hU]; exact (va_Z.moved hW.alike (va_Z.kept h_st_CS hS.2.1)).narrow hFc), (by rw [hU]; exact (vk_S.moved hW.alike (vk_S.kept h_st_S hS.2.1)).narrow hFc)⟩⟩ rfl rfl hl.1 rfl (lv_room (Nat.le_of_ble_eq_true rfl)) dX3_read_22 ⟨Nat.le_of_ble_eq_true rfl, Nat.le_of_ble_eq_true rfl⟩) hS (fun q _ h => hFc q h) hFc (fun ra70 u t H1 locs ht hvm hwra70 hB hz1 hk1 hS => ?_)
        try rw [hwra70] at hB
        have hkra70_0 : (((-1) : Int32)).toInt = -1 := by decide
        rcases hB with hB | hB
        · skip
          obtain ⟨x71, x72, x73, fn74, oa_x71, ob_x71, oa_x72, ob_x72, pt0_ra70, pt1_ra70, pt2_ra70, pt3_ra70, hP1, hK1, hD1⟩ := hB
          rw [ht] at hP1
          obtain ⟨hP2, hD2⟩ := va_join (wr := []) (w1 := (wd_1ad0248d h0 h1 h3 x71 h1 h2 v1 x72 (-1) x73 h2 g0 f5 h3 g1 fn74)) hP hD [0, 1, 2, 3] [] rfl rfl (by decide) (by decide) hk1 hFc hP1 hD1
          clear hP hD hPc hDc hKc hFc hP1 hK1 hD1 hk1 hz1
          generalize H1 = H at hP2 hS ⊢
          have hP : va_P (dC, dI) vwCl (wd_1ad0248d h0 h1 h3 x71 h1 h2 v1 x72 (-1) x73 h2 g0 f5 h3 g1 fn74) H := hP2
          have hD : va_D A (wd_1ad0248d h0 h1 h3 x71 h1 h2 v1 x72 (-1) x73 h2 g0 f5 h3 g1 fn74) := hD2
          clear hP2 hD2
          obtain rfl : ra70 = (1 : Int32) := pv_cs (by decide) pt0_ra70 pt1_ra70
          refine lv_if_ne (tgt := 36) hx hb dX3_read_25 (by decide) (fun _ => ?_) (fun c => absurd c (by decide))
          refine lv_aload_n hx hb dX3_read_36 rfl (lv_at hl 1 rfl) ?_
          refine va_get (D := (dC, dI)) (ci := 3) (v := .ref h1) (C := RX3) (T := TX3) (N := 3) hx hb hts (fun _ h => List.mem_cons_of_mem _ (List.mem_append_left _ (List.mem_append_right _ h))) hown hK hP 0 rfl rfl 0 (by decide) (hts (.fieldLink RX3 19 "LeftArguments$LawReader" "tape" "LLeftArguments$Tape;") (List.mem_cons_of_mem _ (List.mem_append_left _ (List.mem_append_left _ (List.mem_of_getElem? (i := 0) rfl))))) (fun _ h9 => h9) rfl dX3_read_37 ?_
          have hPc := hP.sub (ws' := (wd_82cdd16b h1 h2 v1 x72 (-1) x73 h2 g0 f5)) [1, 2] rfl
          have hDc := hD.sub (ws' := (wd_82cdd16b h1 h2 v1 x72 (-1) x73 h2 g0 f5)) [1, 2] (by decide) rfl
          have hKc := hK.sub (tys' := [(g0, .int)]) [0] rfl
          have hFc := va_free (wc := (wd_82cdd16b h1 h2 v1 x72 (-1) x73 h2 g0 f5)) hD hS hA [1, 2] rfl
          refine va_calli (va_runV (As := []) (rest := []) ⟨hx, hb, hml, hown, hts⟩ (k_X10_next l dC dI h1 h2 v1 x72 ((-1)) x73 g0 f5 ⟨i_v1a, i_v1b⟩ ⟨oa_x72, ob_x72⟩ ia_f5 H.size) (cwV 0 hts g_X3_read_3 rfl rfl rfl (by decide +kernel) ⟨Nat.le_of_ble_eq_true rfl, Nat.le_of_ble_eq_true rfl⟩) (pv_PV10 hPc hKc hDc (q0 := 0) rfl) rfl rfl hl.1 rfl (lv_room (Nat.le_of_ble_eq_true rfl)) dX3_read_40 ⟨Nat.le_of_ble_eq_true rfl, Nat.le_of_ble_eq_true rfl⟩) hS (fun q _ h => hFc q h) hFc (fun ra75 u t H1 locs ht hvm hwra75 hB hz1 hk1 hS => ?_)
          try rw [hwra75] at hB
          have hkra75_0 : (((-1) : Int32)).toInt = -1 := by decide
          rcases hB with hB | hB
          · skip
            obtain ⟨x76, oa_x76, ob_x76, pt0_ra75, pt1_ra75, pt2_ra75, pt3_ra75, pt4_ra75, pt5_ra75, pt6_ra75, hP1, hK1, hD1⟩ := hB
            rw [ht] at hP1
            obtain ⟨hP2, hD2⟩ := va_join (wr := (wd_b958b9da h0 h1 h3 x71 h3 g1 fn74)) (w1 := (wd_82cdd16b h1 h2 v1 x76 (-1) x73 h2 g0 f5)) hP hD [1, 2] [0, 3] rfl rfl (by decide) (by decide) hk1 hFc hP1 hD1
            clear hP hD hPc hDc hKc hFc hP1 hK1 hD1 hk1 hz1
            generalize H1 = H at hP2 hS ⊢
            have hP := hP2.sub (ws' := (wd_1ad0248d h0 h1 h3 x71 h1 h2 v1 x76 (-1) x73 h2 g0 f5 h3 g1 fn74)) [0, 2, 3, 1] rfl
            have hD := hD2.sub (ws' := (wd_1ad0248d h0 h1 h3 x71 h1 h2 v1 x76 (-1) x73 h2 g0 f5 h3 g1 fn74)) [0, 2, 3, 1] (by decide) rfl
            clear hP2 hD2
            obtain rfl : ra75 = ((-1) : Int32) := pv_cs (by decide) pt0_ra75 pt1_ra75
            refine lv_iconst (v := (-1)) hx hb dX3_read_43 (by decide) ?_
            refine lv_icmp_ne (tgt := 49) hx hb dX3_read_44 (by decide) (fun c => absurd (by decide) c) (fun _ => ?_)
            refine lv_iconst (v := (-1)) hx hb dX3_read_47 (by decide) ?_
            subst hQ
            have hP9 := hP.sub (ws' := (wd_1ad0248d h0 h1 h3 x71 h1 h2 v1 x76 (-1) x73 h2 g0 f5 h3 g1 fn74)) [0, 1, 2, 3] rfl
            have hD9 := hD.sub (ws' := (wd_1ad0248d h0 h1 h3 x71 h1 h2 v1 x76 (-1) x73 h2 g0 f5 h3 g1 fn74)) [0, 1, 2, 3] (by decide) rfl
            have hK9 := hK.sub (tys' := []) [] rfl
            exact W.iret (v := (-1)) hx hb hr (fun t ht hW => ⟨⟨(-1), (-1), rfl, rfl, ⟨x71, x76, (-1), x73, fn74, oa_x71, ob_x71, oa_x76, ob_x76, by decide, by decide, by first | (apply pg_law.k0 <;> first | assumption | omega) | (apply pg_law.k1 <;> first | assumption | omega | decide) | (apply pg_law.k2 <;> first | assumption | omega) | (exfalso; omega), by rw [ht]; exact hP9, va_K.moved hW.alike hK9, hD9⟩⟩, hS.F ht⟩) hS.2.2 dX3_read_48
          · skip
            obtain ⟨x77, oa_x77, ob_x77, pt0_ra75, pt1_ra75, pt2_ra75, pt3_ra75, pt4_ra75, pt5_ra75, pt6_ra75, hP1, hK1, hD1⟩ := hB
            rw [ht] at hP1
            obtain ⟨hP2, hD2⟩ := va_join (wr := (wd_b958b9da h0 h1 h3 x71 h3 g1 fn74)) (w1 := (wd_82cdd16b h1 h2 v1 x77 (-1) x73 h2 g0 f5)) hP hD [1, 2] [0, 3] rfl rfl (by decide) (by decide) hk1 hFc hP1 hD1
            clear hP hD hPc hDc hKc hFc hP1 hK1 hD1 hk1 hz1
            generalize H1 = H at hP2 hS ⊢
            have hP := hP2.sub (ws' := (wd_1ad0248d h0 h1 h3 x71 h1 h2 v1 x77 (-1) x73 h2 g0 f5 h3 g1 fn74)) [0, 2, 3, 1] rfl
            have hD := hD2.sub (ws' := (wd_1ad0248d h0 h1 h3 x71 h1 h2 v1 x77 (-1) x73 h2 g0 f5 h3 g1 fn74)) [0, 2, 3, 1] (by decide) rfl
            clear hP2 hD2
            refine lv_iconst (v := (-1)) hx hb dX3_read_43 (by decide) ?_
            refine lv_icmp_ne (tgt := 49) hx hb dX3_read_44 (by decide) (fun _ => ?_) (fun c78 => by exfalso; have fc78 : ra75.toInt = (-1) := congrArg Int32.toInt c78; omega)
            refine lv_aload_n hx hb dX3_read_49 rfl (lv_at hl 1 rfl) ?_
            refine va_get (D := (dC, dI)) (ci := 3) (v := .ref h1) (C := RX3) (T := TX3) (N := 3) hx hb hts (fun _ h => List.mem_cons_of_mem _ (List.mem_append_left _ (List.mem_append_right _ h))) hown hK hP 0 rfl rfl 0 (by decide) (hts (.fieldLink RX3 19 "LeftArguments$LawReader" "tape" "LLeftArguments$Tape;") (List.mem_cons_of_mem _ (List.mem_append_left _ (List.mem_append_left _ (List.mem_of_getElem? (i := 0) rfl))))) (fun _ h9 => h9) rfl dX3_read_50 ?_
            refine lv_bipush (v := 59) hx hb dX3_read_53 (by decide) ?_
            have hPc := hP.sub (ws' := (wd_82cdd16b h1 h2 v1 x77 (-1) x73 h2 g0 f5)) [1, 2] rfl
            have hDc := hD.sub (ws' := (wd_82cdd16b h1 h2 v1 x77 (-1) x73 h2 g0 f5)) [1, 2] (by decide) rfl
            have hKc := hK.sub (tys' := [(g0, .int)]) [0] rfl
            have hFc := va_free (wc := (wd_82cdd16b h1 h2 v1 x77 (-1) x73 h2 g0 f5)) hD hS hA [1, 2] rfl
            refine va_calli (va_runV (As := [.int 59]) (rest := []) ⟨hx, hb, hml, hown, hts⟩ (k_X10_take_5 l dC dI h1 h2 v1 x77 ((-1)) x73 g0 f5 ⟨i_v1a, i_v1b⟩ ⟨oa_x77, by first | omega | decide⟩ ia_f5 H.size) (cwV 1 hts g_X3_read_4 rfl rfl rfl (by decide +kernel) ⟨Nat.le_of_ble_eq_true rfl, Nat.le_of_ble_eq_true rfl⟩) (pv_PV10 hPc hKc hDc (q0 := 0) rfl) rfl rfl hl.1 rfl (lv_room (Nat.le_of_ble_eq_true rfl)) dX3_read_55 ⟨Nat.le_of_ble_eq_true rfl, Nat.le_of_ble_eq_true rfl⟩) hS (fun q _ h => hFc q h) hFc (fun ra79 u t H1 locs ht hvm hwra79 hB hz1 hk1 hS => ?_)
            try rw [hwra79] at hB
            have hkra79_0 : (((-1) : Int32)).toInt = -1 := by decide
            rcases hB with hB | hB
            · skip
              obtain ⟨x80, oa_x80, ob_x80, pt0_ra79, pt1_ra79, pt2_ra79, pt3_ra79, hP1, hK1, hD1⟩ := hB
              rw [ht] at hP1
              obtain ⟨hP2, hD2⟩ := va_join (wr := (wd_b958b9da h0 h1 h3 x71 h3 g1 fn74)) (w1 := (wd_82cdd16b h1 h2 v1 x80 (-1) x73 h2 g0 f5)) hP hD [1, 2] [0, 3] rfl rfl (by decide) (by decide) hk1 hFc hP1 hD1
              clear hP hD hPc hDc hKc hFc hP1 hK1 hD1 hk1 hz1
              generalize H1 = H at hP2 hS ⊢
              have hP := hP2.sub (ws' := (wd_1ad0248d h0 h1 h3 x71 h1 h2 v1 x80 (-1) x73 h2 g0 f5 h3 g1 fn74)) [0, 2, 3, 1] rfl
              have hD := hD2.sub (ws' := (wd_1ad0248d h0 h1 h3 x71 h1 h2 v1 x80 (-1) x73 h2 g0 f5 h3 g1 fn74)) [0, 2, 3, 1] (by decide) rfl
              clear hP2 hD2
              obtain rfl : ra79 = (1 : Int32) := pv_cs (by decide) pt0_ra79 pt1_ra79
              obtain ⟨htc, htx⟩ := pg_take.inv1 (by assumption) pt3_ra79
              refine lv_if_ne (tgt := 69) hx hb dX3_read_58 (by decide) (fun _ => ?_) (fun c => absurd c (by decide))
              obtain ⟨t81, et81⟩ : ∃ y : Int32, y = x57 + 1 := ⟨_, rfl⟩
              have gt81 : t81.toInt = x57.toInt + (1) := pv_add (a := x57.toInt) (b := (1)) et81 rfl (by decide) (by omega) (by omega)
              refine lv_iinc (v := t81) (lv' := [(1, .int t81), (0, .ref h0)]) hx hb dX3_read_69 hl (k := 0) rfl (by rw [et81]; rfl) (by decide) rfl (fun ls hl => ?_)
              refine lv_goto (tgt := 14) hx hb dX3_read_72 (by decide) ?_
              exact ih_hL67 t81 x71 x80 x73 fn74 H locs ls (by first | omega | decide) (by first | omega | decide) oa_x71 ob_x71 (by first | omega | decide) ob_x80 (by first | assumption | exact pg_M.of (by decide) | (apply pg_M.step <;> first | assumption | omega)) (by first | omega | ((have h09 : ((0 : Int32)).toInt = 0 := by decide); omega)) (by first | omega | (simp only [Int.toNat] at *; omega)) hP hD hS (lv_sub hl [0, 1] rfl)
            · skip
              obtain ⟨x82, x83, oa_x82, ob_x82, oa_x83, ob_x83, pt0_ra79, pt1_ra79, pt2_ra79, pt3_ra79, hP1, hK1, hD1⟩ := hB
              rw [ht] at hP1
              obtain ⟨hP2, hD2⟩ := va_join (wr := (wd_b958b9da h0 h1 h3 x71 h3 g1 fn74)) (w1 := (wd_82cdd16b h1 h2 v1 x82 x83 x73 h2 g0 f5)) hP hD [1, 2] [0, 3] rfl rfl (by decide) (by decide) hk1 hFc hP1 hD1
              clear hP hD hPc hDc hKc hFc hP1 hK1 hD1 hk1 hz1
              generalize H1 = H at hP2 hS ⊢
              have hP := hP2.sub (ws' := (wd_1ad0248d h0 h1 h3 x71 h1 h2 v1 x82 x83 x73 h2 g0 f5 h3 g1 fn74)) [0, 2, 3, 1] rfl
              have hD := hD2.sub (ws' := (wd_1ad0248d h0 h1 h3 x71 h1 h2 v1 x82 x83 x73 h2 g0 f5 h3 g1 fn74)) [0, 2, 3, 1] (by decide) rfl
              clear hP2 hD2
              obtain rfl : ra79 = (0 : Int32) := pv_cs (by decide) pt0_ra79 pt1_ra79
              obtain ⟨htc, htx⟩ := pg_take.inv0 (by assumption) pt3_ra79
              refine lv_if_ne (tgt := 69) hx hb dX3_read_58 (by decide) (fun c => absurd (by decide) c) (fun _ => ?_)
              refine lv_aload_n hx hb dX3_read_61 rfl (lv_at hl 1 rfl) ?_
              refine va_get (D := (dC, dI)) (ci := 3) (v := .ref h1) (C := RX3) (T := TX3) (N := 3) hx hb hts (fun _ h => List.mem_cons_of_mem _ (List.mem_append_left _ (List.mem_append_right _ h))) hown hK hP 0 rfl rfl 0 (by decide) (hts (.fieldLink RX3 19 "LeftArguments$LawReader" "tape" "LLeftArguments$Tape;") (List.mem_cons_of_mem _ (List.mem_append_left _ (List.mem_append_left _ (List.mem_of_getElem? (i := 0) rfl))))) (fun _ h9 => h9) rfl dX3_read_62 ?_
              have hPc := hP.sub (ws' := (wd_09b0abee h1 h2 v1 x82 x83 x73)) [1] rfl
              have hDc := hD.sub (ws' := (wd_09b0abee h1 h2 v1 x82 x83 x73)) [1] (by decide) rfl
              have hKc := hK.sub (tys' := []) [] rfl
              have hFc := va_free (wc := (wd_09b0abee h1 h2 v1 x82 x83 x73)) hD hS hA [1] rfl
              refine va_calli (va_runV (As := []) (rest := []) ⟨hx, hb, hml, hown, hts⟩ (k_X10_wrongAt l dC dI h1 h2 v1 x82 x83 x73 ⟨i_v1a, i_v1b⟩ H.size) (cwV 0 hts g_X3_read_5 rfl rfl rfl (by decide +kernel) ⟨Nat.le_of_ble_eq_true rfl, Nat.le_of_ble_eq_true rfl⟩) (pv_PV10 hPc hKc hDc (q0 := 0) rfl) rfl rfl hl.1 rfl (lv_room (Nat.le_of_ble_eq_true rfl)) dX3_read_65 ⟨Nat.le_of_ble_eq_true rfl, Nat.le_of_ble_eq_true rfl⟩) hS (fun q _ h => hFc q h) hFc (fun ra84 u t H1 locs ht hvm hwra84 hB hz1 hk1 hS => ?_)
              try rw [hwra84] at hB
              obtain ⟨pt0_ra84, hP1, hK1, hD1⟩ := hB
              rw [ht] at hP1
              obtain ⟨hP2, hD2⟩ := va_join (wr := (wd_6b0d8e05 h0 h1 h3 x71 h2 g0 f5 h3 g1 fn74)) (w1 := (wd_09b0abee h1 h2 v1 x82 x83 x73)) hP hD [1] [0, 2, 3] rfl rfl (by decide) (by decide) hk1 hFc hP1 hD1
              clear hP hD hPc hDc hKc hFc hP1 hK1 hD1 hk1 hz1
              generalize H1 = H at hP2 hS ⊢
              have hP := hP2.sub (ws' := (wd_1ad0248d h0 h1 h3 x71 h1 h2 v1 x82 x83 x73 h2 g0 f5 h3 g1 fn74)) [0, 3, 1, 2] rfl
              have hD := hD2.sub (ws' := (wd_1ad0248d h0 h1 h3 x71 h1 h2 v1 x82 x83 x73 h2 g0 f5 h3 g1 fn74)) [0, 3, 1, 2] (by decide) rfl
              clear hP2 hD2
              subst hQ
              have hP9 := hP.sub (ws' := (wd_1ad0248d h0 h1 h3 x71 h1 h2 v1 x82 x83 x73 h2 g0 f5 h3 g1 fn74)) [0, 1, 2, 3] rfl
              have hD9 := hD.sub (ws' := (wd_1ad0248d h0 h1 h3 x71 h1 h2 v1 x82 x83 x73 h2 g0 f5 h3 g1 fn74)) [0, 1, 2, 3] (by decide) rfl
              have hK9 := hK.sub (tys' := []) [] rfl
              exact W.iret (v := ra84) hx hb hr (fun t ht hW => ⟨⟨ra84, ra84, rfl, rfl, ⟨x71, x82, x83, x73, fn74, oa_x71, ob_x71, oa_x82, ob_x82, by first | omega | decide, ob_x83, by first | (apply pg_law.k0 <;> first | assumption | omega) | (apply pg_law.k1 <;> first | assumption | omega | decide) | (apply pg_law.k2 <;> first | assumption | omega) | (exfalso; omega), by rw [ht]; exact hP9, va_K.moved hW.alike hK9, hD9⟩⟩, hS.F ht⟩) hS.2.2 dX3_read_68
        · skip
          obtain ⟨x85, x86, x87, x88, fn89, oa_x85, ob_x85, oa_x86, ob_x86, oa_x87, ob_x87, pt0_ra70, pt1_ra70, pt2_ra70, pt3_ra70, hP1, hK1, hD1⟩ := hB
          rw [ht] at hP1
          obtain ⟨hP2, hD2⟩ := va_join (wr := []) (w1 := (wd_1ad0248d h0 h1 h3 x85 h1 h2 v1 x86 x87 x88 h2 g0 f5 h3 g1 fn89)) hP hD [0, 1, 2, 3] [] rfl rfl (by decide) (by decide) hk1 hFc hP1 hD1
          clear hP hD hPc hDc hKc hFc hP1 hK1 hD1 hk1 hz1
          generalize H1 = H at hP2 hS ⊢
          have hP : va_P (dC, dI) vwCl (wd_1ad0248d h0 h1 h3 x85 h1 h2 v1 x86 x87 x88 h2 g0 f5 h3 g1 fn89) H := hP2
          have hD : va_D A (wd_1ad0248d h0 h1 h3 x85 h1 h2 v1 x86 x87 x88 h2 g0 f5 h3 g1 fn89) := hD2
          clear hP2 hD2
          obtain rfl : ra70 = (0 : Int32) := pv_cs (by decide) pt0_ra70 pt1_ra70
          refine lv_if_ne (tgt := 36) hx hb dX3_read_25 (by decide) (fun c => absurd (by decide) c) (fun _ => ?_)
          refine lv_aload_n hx hb dX3_read_28 rfl (lv_at hl 1 rfl) ?_
          refine va_get (D := (dC, dI)) (ci := 3) (v := .ref h1) (C := RX3) (T := TX3) (N := 3) hx hb hts (fun _ h => List.mem_cons_of_mem _ (List.mem_append_left _ (List.mem_append_right _ h))) hown hK hP 0 rfl rfl 0 (by decide) (hts (.fieldLink RX3 19 "LeftArguments$LawReader" "tape" "LLeftArguments$Tape;") (List.mem_cons_of_mem _ (List.mem_append_left _ (List.mem_append_left _ (List.mem_of_getElem? (i := 0) rfl))))) (fun _ h9 => h9) rfl dX3_read_29 ?_
          have hPc := hP.sub (ws' := (wd_09b0abee h1 h2 v1 x86 x87 x88)) [1] rfl
          have hDc := hD.sub (ws' := (wd_09b0abee h1 h2 v1 x86 x87 x88)) [1] (by decide) rfl
          have hKc := hK.sub (tys' := []) [] rfl
          have hFc := va_free (wc := (wd_09b0abee h1 h2 v1 x86 x87 x88)) hD hS hA [1] rfl
          refine va_calli (va_runV (As := []) (rest := []) ⟨hx, hb, hml, hown, hts⟩ (k_X10_wrongAt l dC dI h1 h2 v1 x86 x87 x88 ⟨i_v1a, i_v1b⟩ H.size) (cwV 0 hts g_X3_read_5 rfl rfl rfl (by decide +kernel) ⟨Nat.le_of_ble_eq_true rfl, Nat.le_of_ble_eq_true rfl⟩) (pv_PV10 hPc hKc hDc (q0 := 0) rfl) rfl rfl hl.1 rfl (lv_room (Nat.le_of_ble_eq_true rfl)) dX3_read_32 ⟨Nat.le_of_ble_eq_true rfl, Nat.le_of_ble_eq_true rfl⟩) hS (fun q _ h => hFc q h) hFc (fun ra90 u t H1 locs ht hvm hwra90 hB hz1 hk1 hS => ?_)
          try rw [hwra90] at hB
          obtain ⟨pt0_ra90, hP1, hK1, hD1⟩ := hB
          rw [ht] at hP1
          obtain ⟨hP2, hD2⟩ := va_join (wr := (wd_6b0d8e05 h0 h1 h3 x85 h2 g0 f5 h3 g1 fn89)) (w1 := (wd_09b0abee h1 h2 v1 x86 x87 x88)) hP hD [1] [0, 2, 3] rfl rfl (by decide) (by decide) hk1 hFc hP1 hD1
          clear hP hD hPc hDc hKc hFc hP1 hK1 hD1 hk1 hz1
          generalize H1 = H at hP2 hS ⊢
          have hP := hP2.sub (ws' := (wd_1ad0248d h0 h1 h3 x85 h1 h2 v1 x86 x87 x88 h2 g0 f5 h3 g1 fn89)) [0, 3, 1, 2] rfl
          have hD := hD2.sub (ws' := (wd_1ad0248d h0 h1 h3 x85 h1 h2 v1 x86 x87 x88 h2 g0 f5 h3 g1 fn89)) [0, 3, 1, 2] (by decide) rfl
          clear hP2 hD2
          subst hQ
          have hP9 := hP.sub (ws' := (wd_1ad0248d h0 h1 h3 x85 h1 h2 v1 x86 x87 x88 h2 g0 f5 h3 g1 fn89)) [0, 1, 2, 3] rfl
          have hD9 := hD.sub (ws' := (wd_1ad0248d h0 h1 h3 x85 h1 h2 v1 x86 x87 x88 h2 g0 f5 h3 g1 fn89)) [0, 1, 2, 3] (by decide) rfl
          have hK9 := hK.sub (tys' := []) [] rfl
          exact W.iret (v := ra90) hx hb hr (fun t ht hW => ⟨⟨ra90, ra90, rfl, rfl, ⟨x85, x86, x87, x88, fn89, oa_x85, ob_x85, oa_x86, ob_x86, by first | omega | decide, ob_x87, by first | (apply pg_law.k0 <;> first | assumption | omega) | (apply pg_law.k1 <;> first | assumption | omega | decide) | (apply pg_law.k2 <;> first | assumption | omega) | (exfalso; omega), by rw [ht]; exact hP9, va_K.moved hW.alike hK9, hD9⟩⟩, hS.F ht⟩) hS.2.2 dX3_read_35
  exact hL67 _ 0 0 0 v4 f6 H locs ls (by decide) (by decide) (by decide) (by decide) (by decide) (by decide) (by first | assumption | exact pg_M.of (by decide) | (apply pg_M.step <;> first | assumption | omega)) (by first | omega | ((have h09 : ((0 : Int32)).toInt = 0 := by decide); omega)) (Nat.lt_succ_self _) hP hD hS (lv_sub hl [0, 1] rfl)
def q_J0_coder_7d493_1 : List Cond := .code yJ0_coder_7d493 cJ0_coder_7d493 1 (some .byte) :: (([.fieldLink RJ0 38 "java/lang/String" "COMPACT_STRINGS" "Z", .fieldLink RJ0 15 "java/lang/String" "coder" "B"] : List Cond))
set_option maxHeartbeats 4000000 in
set_option maxRecDepth 100000 in
theorem k_J0_coder_7d493_1 (l : Launch) (dC : Nat → ClassId) (dI : Nat → Nat → Nat) (adK : Nat → Nat) (adV : Nat → Nat) (sz : Nat) : Met l yJ0_coder_7d493 q_J0_coder_7d493_1 ({ frames := 0, cells := 0, slots := 0, locals := 0 }) (va_Pc [.ref (adK 1)] (fun U => U.heap.size = sz ∧ va_P (dC, dI) vwCl [] U.heap ∧ va_K (dC, dI) vwCl [] U ∧ va_D (fun _ => True) [] ∧ va_Z "java/lang/String" "COMPACT_STRINGS" "Z" (.int 1) (va_A [] sz) U U.heap ∧ vk_S 3 pv_len3 pv_byt3 adK adV (va_A [] sz) U U.heap)) (va_Qi (fun (r : Int32) (_ : Unit) => 0 ≤ r.toInt ∧ r.toInt ≤ 0) (fun (_ : Unit) (t : State) => va_P (dC, dI) vwCl [] t.heap ∧ va_K (dC, dI) vwCl [] t ∧ va_D (va_A [] sz) []) (va_A [] sz)) 0 0 (va_A [] sz) := by
  refine pv_ofWF (cc := cJ0_coder_7d493) (maxL := 1) (ret := (some .byte)) (by decide +kernel) rfl ?_
  intro p e s m args below meth c s₁ B hml hv
  obtain ⟨rfl, hsz, hP, hK, hD0, h_st_CS, h_st_S⟩ := hv
  have hx := B.exec
  have hb := B.bytes
  have hr := B.returns
  have hts := atoms_spec (ws := q_J0_coder_7d493_1) B.pre
  have hown : s.vm.findClass RJ0 = some m.cls := findClass_of_methodNamed B.named
  have hlocks := B.notSynchronized
  subst hsz
  have hD := hD0.self (sz := s.heap.size)
  generalize hAe : va_A [] s.heap.size = A at hD h_st_CS h_st_S ⊢
  have hA : ∀ q : Nat, s.heap.size ≤ q → A q := fun q h => by rw [← hAe]; exact Or.inr h
  have hS : va_S A s.heap s.heap [] := va_S.rf
  generalize hQ : (MQ below _ _ s 0 0 A) = Q
  have hl := lv_entry ([.ref (adK 1)]) (n := 1) (Nat.le_of_ble_eq_true rfl)
  rw [lg_entry_eq]
  generalize (lg_sl ([.ref (adK 1)]) ++ List.replicate (1 - (lg_sl ([.ref (adK 1)])).length) Slot.unset).toArray = ls at hl ⊢
  have hl : lv_has ls 1 [(0, .ref (adK 1))] := hl
  obtain ⟨H, hH⟩ : ∃ H : Heap, H = s.heap := ⟨_, rfl⟩
  obtain ⟨locs, hlocs⟩ : ∃ y : List Loc, y = [] := ⟨_, rfl⟩
  have hS : va_S A s.heap H locs := by rw [hH, hlocs]; exact va_S.rf
  have hP : va_P (dC, dI) vwCl [] H := by rw [hH]; exact hP
  rw [← hH, ← hlocs]
  refine va_gets hx hb h_st_CS hS hown (hts (.fieldLink RJ0 38 "java/lang/String" "COMPACT_STRINGS" "Z") (List.mem_cons_of_mem _ (List.mem_of_getElem? (i := 0) rfl))) (fun _ h9 => h9) dJ0_coder_7d493_0 ?_
  refine lv_if_eq (tgt := 13) hx hb dJ0_coder_7d493_3 (by decide) (fun c => absurd c (by decide)) (fun _ => ?_)
  refine lv_aload_n hx hb dJ0_coder_7d493_6 rfl (lv_at hl 0 rfl) ?_
  refine vk_getf hx hb (h_st_S.1 1 (by decide)).2.1 hS hown (hts (.fieldLink RJ0 15 "java/lang/String" "coder" "B") (List.mem_cons_of_mem _ (List.mem_of_getElem? (i := 1) rfl))) (fun _ h9 => h9) dJ0_coder_7d493_7 ?_
  refine lv_goto (tgt := 14) hx hb dJ0_coder_7d493_10 (by decide) ?_
  subst hQ
  have hP9 := hP.sub (ws' := []) [] rfl
  have hD9 := hD.sub (ws' := []) [] (by decide) rfl
  have hK9 := hK.sub (tys' := []) [] rfl
  exact W.zret (v := 0) hx hb hr rfl (fun t ht hW => ⟨⟨0, (), rfl, ⟨by first | omega | decide, by first | omega | decide⟩, by rw [ht]; exact hP9, va_K.moved hW.alike hK9, hD9⟩, hS.F ht⟩) hS.2.2 dJ0_coder_7d493_14
def q_J0_length_8abf5_1 : List Cond := .code yJ0_length_8abf5 cJ0_length_8abf5 1 (some .int) :: (([.fieldLink RJ0 9 "java/lang/String" "value" "[B", .code yJ0_coder_7d493 cJ0_coder_7d493 1 (some .byte), .fieldLink RJ0 38 "java/lang/String" "COMPACT_STRINGS" "Z", .fieldLink RJ0 15 "java/lang/String" "coder" "B", .initialized RJ0, .instanceMethod yJ0_coder_7d493, .selects RJ0 yJ0_coder_7d493 yJ0_coder_7d493, .methodLink RJ0 335 yJ0_coder_7d493] : List Cond))
set_option maxRecDepth 20000 in
theorem g_J0_length_8abf5_1_0 : GoodIn q_J0_length_8abf5_1 (wsV RJ0 335 RJ0 yJ0_coder_7d493 q_J0_coder_7d493_1) := goodIn_app (goodIn_r _ [8, 6, 7, 5] rfl (by decide +kernel)) (goodIn_r (.code yJ0_coder_7d493 cJ0_coder_7d493 1 (some .byte) :: [.fieldLink RJ0 38 "java/lang/String" "COMPACT_STRINGS" "Z", .fieldLink RJ0 15 "java/lang/String" "coder" "B"]) [2, 3, 4] rfl (by decide +kernel))
set_option maxHeartbeats 4000000 in
set_option maxRecDepth 100000 in
theorem k_J0_length_8abf5_1 (l : Launch) (dC : Nat → ClassId) (dI : Nat → Nat → Nat) (adK : Nat → Nat) (adV : Nat → Nat) (sz : Nat) : Met l yJ0_length_8abf5 q_J0_length_8abf5_1 ({ frames := 1, cells := 0, slots := 0, locals := 20 }) (va_Pc [.ref (adK 1)] (fun U => U.heap.size = sz ∧ va_P (dC, dI) vwCl [] U.heap ∧ va_K (dC, dI) vwCl [] U ∧ va_D (fun _ => True) [] ∧ vk_S 3 pv_len3 pv_byt3 adK adV (va_A [] sz) U U.heap ∧ va_Z "java/lang/String" "COMPACT_STRINGS" "Z" (.int 1) (va_A [] sz) U U.heap)) (va_Qi (fun (r : Int32) (_ : Unit) => 5 ≤ r.toInt ∧ r.toInt ≤ 5) (fun (_ : Unit) (t : State) => va_P (dC, dI) vwCl [] t.heap ∧ va_K (dC, dI) vwCl [] t ∧ va_D (va_A [] sz) []) (va_A [] sz)) 0 0 (va_A [] sz) := by
  refine pv_ofWF (cc := cJ0_length_8abf5) (maxL := 1) (ret := (some .int)) (by decide +kernel) rfl ?_
  intro p e s m args below meth c s₁ B hml hv
  obtain ⟨rfl, hsz, hP, hK, hD0, h_st_S, h_st_CS⟩ := hv
  have hx := B.exec
  have hb := B.bytes
  have hr := B.returns
  have hts := atoms_spec (ws := q_J0_length_8abf5_1) B.pre
  have hown : s.vm.findClass RJ0 = some m.cls := findClass_of_methodNamed B.named
  have hlocks := B.notSynchronized
  subst hsz
  have hD := hD0.self (sz := s.heap.size)
  generalize hAe : va_A [] s.heap.size = A at hD h_st_S h_st_CS ⊢
  have hA : ∀ q : Nat, s.heap.size ≤ q → A q := fun q h => by rw [← hAe]; exact Or.inr h
  have hS : va_S A s.heap s.heap [] := va_S.rf
  generalize hQ : (MQ below _ _ s 0 0 A) = Q
  have hl := lv_entry ([.ref (adK 1)]) (n := 1) (Nat.le_of_ble_eq_true rfl)
  rw [lg_entry_eq]
  generalize (lg_sl ([.ref (adK 1)]) ++ List.replicate (1 - (lg_sl ([.ref (adK 1)])).length) Slot.unset).toArray = ls at hl ⊢
  have hl : lv_has ls 1 [(0, .ref (adK 1))] := hl
  obtain ⟨H, hH⟩ : ∃ H : Heap, H = s.heap := ⟨_, rfl⟩
  obtain ⟨locs, hlocs⟩ : ∃ y : List Loc, y = [] := ⟨_, rfl⟩
  have hS : va_S A s.heap H locs := by rw [hH, hlocs]; exact va_S.rf
  have hP : va_P (dC, dI) vwCl [] H := by rw [hH]; exact hP
  rw [← hH, ← hlocs]
  refine lv_aload_n hx hb dJ0_length_8abf5_0 rfl (lv_at hl 0 rfl) ?_
  refine vk_getf hx hb (h_st_S.1 1 (by decide)).2.2.1 hS hown (hts (.fieldLink RJ0 9 "java/lang/String" "value" "[B") (List.mem_cons_of_mem _ (List.mem_of_getElem? (i := 0) rfl))) (fun _ h9 => h9) dJ0_length_8abf5_1 ?_
  refine va_tlen (v := 5) hx hb (h_st_S.1 1 (by decide)).2.2.2 hS (by decide) dJ0_length_8abf5_4 ?_
  refine lv_aload_n hx hb dJ0_length_8abf5_5 rfl (lv_at hl 0 rfl) ?_
  have hPc := hP.sub (ws' := []) [] rfl
  have hDc := hD.sub (ws' := []) [] (by decide) rfl
  have hKc := hK.sub (tys' := []) [] rfl
  have hFc := va_free (wc := []) hD hS hA [] rfl
  refine va_calli (va_runV (As := []) (rest := [.int 5]) ⟨hx, hb, hml, hown, hts⟩ (k_J0_coder_7d493_1 l dC dI adK adV  H.size) (cwV 0 hts g_J0_length_8abf5_1_0 rfl rfl rfl (by decide +kernel) ⟨Nat.le_of_ble_eq_true rfl, Nat.le_of_ble_eq_true rfl⟩) ⟨fun a U g mk q => by obtain ⟨q0, q1, qP, qK, qD, n0, n1⟩ := q; exact ⟨q0, q1, qP, va_K.moved (u := U) (U := U.calling g mk a) (Vm.Alike.refl U.vm) qK, qD, va_Z.moved (Vm.Alike.refl _) n0, vk_S.moved (Vm.Alike.refl _) n1⟩, vk_recv h_st_S (by decide : 1 < 3) hS, fun U hU hW => ⟨rfl, by rw [hU], by rw [hU]; exact hPc, va_K.moved hW.alike hKc, hDc.weaken (fun _ _ _ _ => trivial), (by rw [hU]; exact (va_Z.moved hW.alike (va_Z.kept h_st_CS hS.2.1)).narrow hFc), (by rw [hU]; exact (vk_S.moved hW.alike (vk_S.kept h_st_S hS.2.1)).narrow hFc)⟩⟩ rfl rfl hl.1 rfl (lv_room (Nat.le_of_ble_eq_true rfl)) dJ0_length_8abf5_6 ⟨Nat.le_of_ble_eq_true rfl, Nat.le_of_ble_eq_true rfl⟩) hS (fun q _ h => hFc q h) hFc (fun ra1 u t H1 locs ht hvm hwra1 hB hz1 hk1 hS => ?_)
  obtain ⟨hP1, hK1, hD1⟩ := hB
  rw [ht] at hP1
  obtain ⟨hP2, hD2⟩ := va_join (wr := []) (w1 := []) hP hD [] [] rfl rfl (by decide) (by decide) hk1 hFc hP1 hD1
  clear hP hD hPc hDc hKc hFc hP1 hK1 hD1 hk1 hz1
  generalize H1 = H at hP2 hS ⊢
  have hP : va_P (dC, dI) vwCl [] H := hP2
  have hD : va_D A [] := hD2
  clear hP2 hD2
  obtain ⟨wa_ra1, wb_ra1⟩ := hwra1
  have wa_ra1 : 0 ≤ ra1.toInt := wa_ra1
  have wb_ra1 : ra1.toInt ≤ 0 := wb_ra1
  obtain rfl : ra1 = (0 : Int32) := Int32.toInt_inj.mp (by rw [show ((0 : Int32)).toInt = 0 by decide]; omega)
  refine lv_ishr hx hb dJ0_length_8abf5_9 ?_
  refine lv_topi (fun tv2 etv2 => ?_)
  obtain rfl : tv2 = (5 : Int32) := etv2.trans (by first | rfl | decide)
  subst hQ
  have hP9 := hP.sub (ws' := []) [] rfl
  have hD9 := hD.sub (ws' := []) [] (by decide) rfl
  have hK9 := hK.sub (tys' := []) [] rfl
  exact W.iret (v := 5) hx hb hr (fun t ht hW => ⟨⟨5, (), rfl, ⟨by first | omega | decide, by first | omega | decide⟩, by rw [ht]; exact hP9, va_K.moved hW.alike hK9, hD9⟩, hS.F ht⟩) hS.2.2 dJ0_length_8abf5_10
def q_J0_isLatin1_aae02_1 : List Cond := .code yJ0_isLatin1_aae02 cJ0_isLatin1_aae02 1 (some .boolean) :: (([.fieldLink RJ0 38 "java/lang/String" "COMPACT_STRINGS" "Z", .fieldLink RJ0 15 "java/lang/String" "coder" "B"] : List Cond))
set_option maxHeartbeats 4000000 in
set_option maxRecDepth 100000 in
theorem k_J0_isLatin1_aae02_1 (l : Launch) (dC : Nat → ClassId) (dI : Nat → Nat → Nat) (adK : Nat → Nat) (adV : Nat → Nat) (sz : Nat) : Met l yJ0_isLatin1_aae02 q_J0_isLatin1_aae02_1 ({ frames := 0, cells := 0, slots := 0, locals := 0 }) (va_Pc [.ref (adK 1)] (fun U => U.heap.size = sz ∧ va_P (dC, dI) vwCl [] U.heap ∧ va_K (dC, dI) vwCl [] U ∧ va_D (fun _ => True) [] ∧ va_Z "java/lang/String" "COMPACT_STRINGS" "Z" (.int 1) (va_A [] sz) U U.heap ∧ vk_S 3 pv_len3 pv_byt3 adK adV (va_A [] sz) U U.heap)) (va_Qi (fun (r : Int32) (_ : Unit) => 1 ≤ r.toInt ∧ r.toInt ≤ 1) (fun (_ : Unit) (t : State) => va_P (dC, dI) vwCl [] t.heap ∧ va_K (dC, dI) vwCl [] t ∧ va_D (va_A [] sz) []) (va_A [] sz)) 0 0 (va_A [] sz) := by
  refine pv_ofWF (cc := cJ0_isLatin1_aae02) (maxL := 1) (ret := (some .boolean)) (by decide +kernel) rfl ?_
  intro p e s m args below meth c s₁ B hml hv
  obtain ⟨rfl, hsz, hP, hK, hD0, h_st_CS, h_st_S⟩ := hv
  have hx := B.exec
  have hb := B.bytes
  have hr := B.returns
  have hts := atoms_spec (ws := q_J0_isLatin1_aae02_1) B.pre
  have hown : s.vm.findClass RJ0 = some m.cls := findClass_of_methodNamed B.named
  have hlocks := B.notSynchronized
  subst hsz
  have hD := hD0.self (sz := s.heap.size)
  generalize hAe : va_A [] s.heap.size = A at hD h_st_CS h_st_S ⊢
  have hA : ∀ q : Nat, s.heap.size ≤ q → A q := fun q h => by rw [← hAe]; exact Or.inr h
  have hS : va_S A s.heap s.heap [] := va_S.rf
  generalize hQ : (MQ below _ _ s 0 0 A) = Q
  have hl := lv_entry ([.ref (adK 1)]) (n := 1) (Nat.le_of_ble_eq_true rfl)
  rw [lg_entry_eq]
  generalize (lg_sl ([.ref (adK 1)]) ++ List.replicate (1 - (lg_sl ([.ref (adK 1)])).length) Slot.unset).toArray = ls at hl ⊢
  have hl : lv_has ls 1 [(0, .ref (adK 1))] := hl
  obtain ⟨H, hH⟩ : ∃ H : Heap, H = s.heap := ⟨_, rfl⟩
  obtain ⟨locs, hlocs⟩ : ∃ y : List Loc, y = [] := ⟨_, rfl⟩
  have hS : va_S A s.heap H locs := by rw [hH, hlocs]; exact va_S.rf
  have hP : va_P (dC, dI) vwCl [] H := by rw [hH]; exact hP
  rw [← hH, ← hlocs]
  refine va_gets hx hb h_st_CS hS hown (hts (.fieldLink RJ0 38 "java/lang/String" "COMPACT_STRINGS" "Z") (List.mem_cons_of_mem _ (List.mem_of_getElem? (i := 0) rfl))) (fun _ h9 => h9) dJ0_isLatin1_aae02_0 ?_
  refine lv_if_eq (tgt := 17) hx hb dJ0_isLatin1_aae02_3 (by decide) (fun c => absurd c (by decide)) (fun _ => ?_)
  refine lv_aload_n hx hb dJ0_isLatin1_aae02_6 rfl (lv_at hl 0 rfl) ?_
  refine vk_getf hx hb (h_st_S.1 1 (by decide)).2.1 hS hown (hts (.fieldLink RJ0 15 "java/lang/String" "coder" "B") (List.mem_cons_of_mem _ (List.mem_of_getElem? (i := 1) rfl))) (fun _ h9 => h9) dJ0_isLatin1_aae02_7 ?_
  refine lv_if_ne (tgt := 17) hx hb dJ0_isLatin1_aae02_10 (by decide) (fun c => absurd (by decide) c) (fun _ => ?_)
  refine lv_iconst (v := 1) hx hb dJ0_isLatin1_aae02_13 (by decide) ?_
  refine lv_goto (tgt := 18) hx hb dJ0_isLatin1_aae02_14 (by decide) ?_
  subst hQ
  have hP9 := hP.sub (ws' := []) [] rfl
  have hD9 := hD.sub (ws' := []) [] (by decide) rfl
  have hK9 := hK.sub (tys' := []) [] rfl
  exact W.zret (v := 1) hx hb hr rfl (fun t ht hW => ⟨⟨1, (), rfl, ⟨by first | omega | decide, by first | omega | decide⟩, by rw [ht]; exact hP9, va_K.moved hW.alike hK9, hD9⟩, hS.F ht⟩) hS.2.2 dJ0_isLatin1_aae02_18
def q_J1_canEncode_9a6ad_1 : List Cond := .code yJ1_canEncode_9a6ad cJ1_canEncode_9a6ad 1 (some .boolean) :: (([] : List Cond))
set_option maxHeartbeats 4000000 in
set_option maxRecDepth 100000 in
theorem k_J1_canEncode_9a6ad_1 (l : Launch) (dC : Nat → ClassId) (dI : Nat → Nat → Nat)  (sz : Nat) : Met l yJ1_canEncode_9a6ad q_J1_canEncode_9a6ad_1 ({ frames := 0, cells := 0, slots := 0, locals := 0 }) (va_Pc [.int 65535] (fun U => U.heap.size = sz ∧ va_P (dC, dI) vwCl [] U.heap ∧ va_K (dC, dI) vwCl [] U ∧ va_D (fun _ => True) [])) (va_Qi (fun (r : Int32) (r9 : Int32) => r9 = r) (fun (r : Int32) (t : State) => ((0 ≤ r.toInt) ∧ (r.toInt ≤ 0) ∧ ((r.toInt = 1 → 0 ≤ 65535)) ∧ ((r.toInt = 1 → 65535 ≤ 255)) ∧ (r.toInt = 0 → ¬ (0 ≤ 65535 ∧ 65535 ≤ 255)) ∧ va_P (dC, dI) vwCl [] t.heap ∧ va_K (dC, dI) vwCl [] t ∧ va_D (va_A [] sz) [])) (va_A [] sz)) 0 0 (va_A [] sz) := by
  refine pv_ofWF (cc := cJ1_canEncode_9a6ad) (maxL := 1) (ret := (some .boolean)) (by decide +kernel) rfl ?_
  intro p e s m args below meth c s₁ B hml hv
  obtain ⟨rfl, hsz, hP, hK, hD0⟩ := hv
  have hx := B.exec
  have hb := B.bytes
  have hr := B.returns
  have hts := atoms_spec (ws := q_J1_canEncode_9a6ad_1) B.pre
  have hown : s.vm.findClass RJ1 = some m.cls := findClass_of_methodNamed B.named
  have hlocks := B.notSynchronized
  subst hsz
  have hD := hD0.self (sz := s.heap.size)
  generalize hAe : va_A [] s.heap.size = A at hD ⊢
  have hA : ∀ q : Nat, s.heap.size ≤ q → A q := fun q h => by rw [← hAe]; exact Or.inr h
  have hS : va_S A s.heap s.heap [] := va_S.rf
  generalize hQ : (MQ below _ _ s 0 0 A) = Q
  have hl := lv_entry ([.int 65535]) (n := 1) (Nat.le_of_ble_eq_true rfl)
  rw [lg_entry_eq]
  generalize (lg_sl ([.int 65535]) ++ List.replicate (1 - (lg_sl ([.int 65535])).length) Slot.unset).toArray = ls at hl ⊢
  have hl : lv_has ls 1 [(0, .int 65535)] := hl
  obtain ⟨H, hH⟩ : ∃ H : Heap, H = s.heap := ⟨_, rfl⟩
  obtain ⟨locs, hlocs⟩ : ∃ y : List Loc, y = [] := ⟨_, rfl⟩
  have hS : va_S A s.heap H locs := by rw [hH, hlocs]; exact va_S.rf
  have hP : va_P (dC, dI) vwCl [] H := by rw [hH]; exact hP
  rw [← hH, ← hlocs]
  refine lv_iload_n hx hb dJ1_canEncode_9a6ad_0 rfl (lv_at hl 0 rfl) ?_
  refine lv_if_lt (tgt := 15) hx hb dJ1_canEncode_9a6ad_1 (by decide) (fun c => absurd c (by decide)) (fun _ => ?_)
  refine lv_iload_n hx hb dJ1_canEncode_9a6ad_4 rfl (lv_at hl 0 rfl) ?_
  refine lv_sipush (v := 255) hx hb dJ1_canEncode_9a6ad_5 (by decide) ?_
  refine lv_icmp_gt (tgt := 15) hx hb dJ1_canEncode_9a6ad_8 (by decide) (fun _ => ?_) (fun c => absurd (by decide) c)
  refine lv_iconst (v := 0) hx hb dJ1_canEncode_9a6ad_15 (by decide) ?_
  subst hQ
  have hP9 := hP.sub (ws' := []) [] rfl
  have hD9 := hD.sub (ws' := []) [] (by decide) rfl
  have hK9 := hK.sub (tys' := []) [] rfl
  exact W.zret (v := 0) hx hb hr rfl (fun t ht hW => ⟨⟨0, 0, rfl, rfl, ⟨by first | omega | decide, by first | omega | decide, fun h9 => absurd h9 (by decide), fun h9 => absurd h9 (by decide), fun _ => by omega, by rw [ht]; exact hP9, va_K.moved hW.alike hK9, hD9⟩⟩, hS.F ht⟩) hS.2.2 dJ1_canEncode_9a6ad_16
def q_J1_indexOf_4cfef_1 : List Cond := .code yJ1_indexOf_4cfef cJ1_indexOf_4cfef 4 (some .int) :: (([.code yJ1_canEncode_9a6ad cJ1_canEncode_9a6ad 1 (some .boolean), .initialized RJ1, .static yJ1_canEncode_9a6ad, .methodLink RJ1 88 yJ1_canEncode_9a6ad] : List Cond))
set_option maxRecDepth 20000 in
theorem g_J1_indexOf_4cfef_1_0 : GoodIn q_J1_indexOf_4cfef_1 (va_wsS RJ1 88 yJ1_canEncode_9a6ad q_J1_canEncode_9a6ad_1) := goodIn_app (goodIn_r _ [4, 3, 2] rfl (by decide +kernel)) (goodIn_r (.code yJ1_canEncode_9a6ad cJ1_canEncode_9a6ad 1 (some .boolean) :: []) [1] rfl (by decide +kernel))
set_option maxHeartbeats 4000000 in
set_option maxRecDepth 100000 in
theorem k_J1_indexOf_4cfef_1 (l : Launch) (dC : Nat → ClassId) (dI : Nat → Nat → Nat) (adK : Nat → Nat) (adV : Nat → Nat) (sz : Nat) : Met l yJ1_indexOf_4cfef q_J1_indexOf_4cfef_1 ({ frames := 1, cells := 0, slots := 0, locals := 20 }) (va_Pc [.ref (adV 1), .int 65535, .int 0, .int 5] (fun U => U.heap.size = sz ∧ va_P (dC, dI) vwCl [] U.heap ∧ va_K (dC, dI) vwCl [] U ∧ va_D (fun _ => True) [])) (va_Qi (fun (r : Int32) (r9 : Int32) => r9 = r) (fun (r : Int32) (t : State) => ((-1 ≤ r.toInt) ∧ (r.toInt ≤ -1) ∧ (r = pg_it false 65535) ∧ va_P (dC, dI) vwCl [] t.heap ∧ va_K (dC, dI) vwCl [] t ∧ va_D (va_A [] sz) [])) (va_A [] sz)) 0 0 (va_A [] sz) := by
  refine pv_ofWF (cc := cJ1_indexOf_4cfef) (maxL := 4) (ret := (some .int)) (by decide +kernel) rfl ?_
  intro p e s m args below meth c s₁ B hml hv
  obtain ⟨rfl, hsz, hP, hK, hD0⟩ := hv
  have hx := B.exec
  have hb := B.bytes
  have hr := B.returns
  have hts := atoms_spec (ws := q_J1_indexOf_4cfef_1) B.pre
  have hown : s.vm.findClass RJ1 = some m.cls := findClass_of_methodNamed B.named
  have hlocks := B.notSynchronized
  subst hsz
  have hD := hD0.self (sz := s.heap.size)
  generalize hAe : va_A [] s.heap.size = A at hD ⊢
  have hA : ∀ q : Nat, s.heap.size ≤ q → A q := fun q h => by rw [← hAe]; exact Or.inr h
  have hS : va_S A s.heap s.heap [] := va_S.rf
  generalize hQ : (MQ below _ _ s 0 0 A) = Q
  have hl := lv_entry ([.ref (adV 1), .int 65535, .int 0, .int 5]) (n := 4) (Nat.le_of_ble_eq_true rfl)
  rw [lg_entry_eq]
  generalize (lg_sl ([.ref (adV 1), .int 65535, .int 0, .int 5]) ++ List.replicate (4 - (lg_sl ([.ref (adV 1), .int 65535, .int 0, .int 5])).length) Slot.unset).toArray = ls at hl ⊢
  have hl : lv_has ls 4 [(0, .ref (adV 1)), (1, .int 65535), (2, .int 0), (3, .int 5)] := hl
  obtain ⟨H, hH⟩ : ∃ H : Heap, H = s.heap := ⟨_, rfl⟩
  obtain ⟨locs, hlocs⟩ : ∃ y : List Loc, y = [] := ⟨_, rfl⟩
  have hS : va_S A s.heap H locs := by rw [hH, hlocs]; exact va_S.rf
  have hP : va_P (dC, dI) vwCl [] H := by rw [hH]; exact hP
  rw [← hH, ← hlocs]
  refine lv_iload_n hx hb dJ1_indexOf_4cfef_0 rfl (lv_at hl 1 rfl) ?_
  have hPc := hP.sub (ws' := []) [] rfl
  have hDc := hD.sub (ws' := []) [] (by decide) rfl
  have hKc := hK.sub (tys' := []) [] rfl
  have hFc := va_free (wc := []) hD hS hA [] rfl
  refine va_calli (va_runS (As := [.int 65535]) (rest := []) ⟨hx, hb, hml, hown, hts⟩ (k_J1_canEncode_9a6ad_1 l dC dI   H.size) (va_cwS 1 hts g_J1_indexOf_4cfef_1_0 rfl rfl rfl (by decide +kernel) ⟨Nat.le_of_ble_eq_true rfl, Nat.le_of_ble_eq_true rfl⟩) (pv_PS hPc hKc hDc) rfl rfl hl.1 rfl (lv_room (Nat.le_of_ble_eq_true rfl)) dJ1_indexOf_4cfef_1 ⟨Nat.le_of_ble_eq_true rfl, Nat.le_of_ble_eq_true rfl⟩) hS (fun q _ h => hFc q h) hFc (fun ra1 u t H1 locs ht hvm hwra1 hB hz1 hk1 hS => ?_)
  try rw [hwra1] at hB
  obtain ⟨pt0_ra1, pt1_ra1, pt2_ra1, pt3_ra1, pt4_ra1, hP1, hK1, hD1⟩ := hB
  rw [ht] at hP1
  obtain ⟨hP2, hD2⟩ := va_join (wr := []) (w1 := []) hP hD [] [] rfl rfl (by decide) (by decide) hk1 hFc hP1 hD1
  clear hP hD hPc hDc hKc hFc hP1 hK1 hD1 hk1 hz1
  generalize H1 = H at hP2 hS ⊢
  have hP : va_P (dC, dI) vwCl [] H := hP2
  have hD : va_D A [] := hD2
  clear hP2 hD2
  obtain rfl : ra1 = (0 : Int32) := pv_cs (by decide) pt0_ra1 pt1_ra1
  refine lv_if_ne (tgt := 9) hx hb dJ1_indexOf_4cfef_4 (by decide) (fun c => absurd (by decide) c) (fun _ => ?_)
  refine lv_iconst (v := (-1)) hx hb dJ1_indexOf_4cfef_7 (by decide) ?_
  subst hQ
  have hP9 := hP.sub (ws' := []) [] rfl
  have hD9 := hD.sub (ws' := []) [] (by decide) rfl
  have hK9 := hK.sub (tys' := []) [] rfl
  exact W.iret (v := (-1)) hx hb hr (fun t ht hW => ⟨⟨(-1), (-1), rfl, rfl, ⟨by first | omega | decide, by first | omega | decide, by first | assumption | (unfold pg_it; (repeat' split) <;> first | rfl | (exfalso; omega) | (exfalso; simp_all)), by rw [ht]; exact hP9, va_K.moved hW.alike hK9, hD9⟩⟩, hS.F ht⟩) hS.2.2 dJ1_indexOf_4cfef_8
def q_J0_indexOf_7cf53_1 : List Cond := .code yJ0_indexOf_7cf53 cJ0_indexOf_7cf53 3 (some .int) :: (([.code yJ0_isLatin1_aae02 cJ0_isLatin1_aae02 1 (some .boolean), .fieldLink RJ0 38 "java/lang/String" "COMPACT_STRINGS" "Z", .fieldLink RJ0 15 "java/lang/String" "coder" "B", .initialized RJ0, .instanceMethod yJ0_isLatin1_aae02, .selects RJ0 yJ0_isLatin1_aae02 yJ0_isLatin1_aae02, .methodLink RJ0 492 yJ0_isLatin1_aae02, .fieldLink RJ0 9 "java/lang/String" "value" "[B", .code yJ0_length_8abf5 cJ0_length_8abf5 1 (some .int), .code yJ0_coder_7d493 cJ0_coder_7d493 1 (some .byte), .instanceMethod yJ0_coder_7d493, .selects RJ0 yJ0_coder_7d493 yJ0_coder_7d493, .methodLink RJ0 335 yJ0_coder_7d493, .instanceMethod yJ0_length_8abf5, .selects RJ0 yJ0_length_8abf5 yJ0_length_8abf5, .methodLink RJ0 505 yJ0_length_8abf5, .code yJ1_indexOf_4cfef cJ1_indexOf_4cfef 4 (some .int), .code yJ1_canEncode_9a6ad cJ1_canEncode_9a6ad 1 (some .boolean), .initialized RJ1, .static yJ1_canEncode_9a6ad, .methodLink RJ1 88 yJ1_canEncode_9a6ad, .static yJ1_indexOf_4cfef, .methodLink RJ0 637 yJ1_indexOf_4cfef] : List Cond))
set_option maxRecDepth 20000 in
theorem g_J0_indexOf_7cf53_1_0 : GoodIn q_J0_indexOf_7cf53_1 (wsV RJ0 492 RJ0 yJ0_isLatin1_aae02 q_J0_isLatin1_aae02_1) := goodIn_app (goodIn_r _ [7, 5, 6, 4] rfl (by decide +kernel)) (goodIn_r (.code yJ0_isLatin1_aae02 cJ0_isLatin1_aae02 1 (some .boolean) :: [.fieldLink RJ0 38 "java/lang/String" "COMPACT_STRINGS" "Z", .fieldLink RJ0 15 "java/lang/String" "coder" "B"]) [1, 2, 3] rfl (by decide +kernel))
set_option maxRecDepth 20000 in
theorem g_J0_indexOf_7cf53_1_1 : GoodIn q_J0_indexOf_7cf53_1 (wsV RJ0 505 RJ0 yJ0_length_8abf5 q_J0_length_8abf5_1) := goodIn_app (goodIn_r _ [16, 14, 15, 4] rfl (by decide +kernel)) (goodIn_r (.code yJ0_length_8abf5 cJ0_length_8abf5 1 (some .int) :: [.fieldLink RJ0 9 "java/lang/String" "value" "[B", .code yJ0_coder_7d493 cJ0_coder_7d493 1 (some .byte), .fieldLink RJ0 38 "java/lang/String" "COMPACT_STRINGS" "Z", .fieldLink RJ0 15 "java/lang/String" "coder" "B", .initialized RJ0, .instanceMethod yJ0_coder_7d493, .selects RJ0 yJ0_coder_7d493 yJ0_coder_7d493, .methodLink RJ0 335 yJ0_coder_7d493]) [9, 8, 10, 2, 3, 4, 11, 12, 13] rfl (by decide +kernel))
set_option maxRecDepth 20000 in
theorem g_J0_indexOf_7cf53_1_2 : GoodIn q_J0_indexOf_7cf53_1 (va_wsS RJ0 637 yJ1_indexOf_4cfef q_J1_indexOf_4cfef_1) := goodIn_app (goodIn_r _ [23, 22, 19] rfl (by decide +kernel)) (goodIn_r (.code yJ1_indexOf_4cfef cJ1_indexOf_4cfef 4 (some .int) :: [.code yJ1_canEncode_9a6ad cJ1_canEncode_9a6ad 1 (some .boolean), .initialized RJ1, .static yJ1_canEncode_9a6ad, .methodLink RJ1 88 yJ1_canEncode_9a6ad]) [17, 18, 19, 20, 21] rfl (by decide +kernel))
set_option maxHeartbeats 4000000 in
set_option maxRecDepth 100000 in
theorem k_J0_indexOf_7cf53_1 (l : Launch) (dC : Nat → ClassId) (dI : Nat → Nat → Nat) (adK : Nat → Nat) (adV : Nat → Nat) (sz : Nat) : Met l yJ0_indexOf_7cf53 q_J0_indexOf_7cf53_1 ({ frames := 2, cells := 0, slots := 0, locals := 43 }) (va_Pc [.ref (adK 1), .int 65535, .int 0] (fun U => U.heap.size = sz ∧ va_P (dC, dI) vwCl [] U.heap ∧ va_K (dC, dI) vwCl [] U ∧ va_D (fun _ => True) [] ∧ va_Z "java/lang/String" "COMPACT_STRINGS" "Z" (.int 1) (va_A [] sz) U U.heap ∧ vk_S 3 pv_len3 pv_byt3 adK adV (va_A [] sz) U U.heap)) (va_Qi (fun (r : Int32) (r9 : Int32) => r9 = r) (fun (r : Int32) (t : State) => ((-1 ≤ r.toInt) ∧ (r.toInt ≤ -1) ∧ (r = pg_it false 65535) ∧ va_P (dC, dI) vwCl [] t.heap ∧ va_K (dC, dI) vwCl [] t ∧ va_D (va_A [] sz) [])) (va_A [] sz)) 0 0 (va_A [] sz) := by
  refine pv_ofWF (cc := cJ0_indexOf_7cf53) (maxL := 3) (ret := (some .int)) (by decide +kernel) rfl ?_
  intro p e s m args below meth c s₁ B hml hv
  obtain ⟨rfl, hsz, hP, hK, hD0, h_st_CS, h_st_S⟩ := hv
  have hx := B.exec
  have hb := B.bytes
  have hr := B.returns
  have hts := atoms_spec (ws := q_J0_indexOf_7cf53_1) B.pre
  have hown : s.vm.findClass RJ0 = some m.cls := findClass_of_methodNamed B.named
  have hlocks := B.notSynchronized
  subst hsz
  have hD := hD0.self (sz := s.heap.size)
  generalize hAe : va_A [] s.heap.size = A at hD h_st_CS h_st_S ⊢
  have hA : ∀ q : Nat, s.heap.size ≤ q → A q := fun q h => by rw [← hAe]; exact Or.inr h
  have hS : va_S A s.heap s.heap [] := va_S.rf
  generalize hQ : (MQ below _ _ s 0 0 A) = Q
  have hl := lv_entry ([.ref (adK 1), .int 65535, .int 0]) (n := 3) (Nat.le_of_ble_eq_true rfl)
  rw [lg_entry_eq]
  generalize (lg_sl ([.ref (adK 1), .int 65535, .int 0]) ++ List.replicate (3 - (lg_sl ([.ref (adK 1), .int 65535, .int 0])).length) Slot.unset).toArray = ls at hl ⊢
  have hl : lv_has ls 3 [(0, .ref (adK 1)), (1, .int 65535), (2, .int 0)] := hl
  obtain ⟨H, hH⟩ : ∃ H : Heap, H = s.heap := ⟨_, rfl⟩
  obtain ⟨locs, hlocs⟩ : ∃ y : List Loc, y = [] := ⟨_, rfl⟩
  have hS : va_S A s.heap H locs := by rw [hH, hlocs]; exact va_S.rf
  have hP : va_P (dC, dI) vwCl [] H := by rw [hH]; exact hP
  rw [← hH, ← hlocs]
  refine lv_aload_n hx hb dJ0_indexOf_7cf53_0 rfl (lv_at hl 0 rfl) ?_
  have hPc := hP.sub (ws' := []) [] rfl
  have hDc := hD.sub (ws' := []) [] (by decide) rfl
  have hKc := hK.sub (tys' := []) [] rfl
  have hFc := va_free (wc := []) hD hS hA [] rfl
  refine va_calli (va_runV (As := []) (rest := []) ⟨hx, hb, hml, hown, hts⟩ (k_J0_isLatin1_aae02_1 l dC dI adK adV  H.size) (cwV 0 hts g_J0_indexOf_7cf53_1_0 rfl rfl rfl (by decide +kernel) ⟨Nat.le_of_ble_eq_true rfl, Nat.le_of_ble_eq_true rfl⟩) ⟨fun a U g mk q => by obtain ⟨q0, q1, qP, qK, qD, n0, n1⟩ := q; exact ⟨q0, q1, qP, va_K.moved (u := U) (U := U.calling g mk a) (Vm.Alike.refl U.vm) qK, qD, va_Z.moved (Vm.Alike.refl _) n0, vk_S.moved (Vm.Alike.refl _) n1⟩, vk_recv h_st_S (by decide : 1 < 3) hS, fun U hU hW => ⟨rfl, by rw [hU], by rw [hU]; exact hPc, va_K.moved hW.alike hKc, hDc.weaken (fun _ _ _ _ => trivial), (by rw [hU]; exact (va_Z.moved hW.alike (va_Z.kept h_st_CS hS.2.1)).narrow hFc), (by rw [hU]; exact (vk_S.moved hW.alike (vk_S.kept h_st_S hS.2.1)).narrow hFc)⟩⟩ rfl rfl hl.1 rfl (lv_room (Nat.le_of_ble_eq_true rfl)) dJ0_indexOf_7cf53_1 ⟨Nat.le_of_ble_eq_true rfl, Nat.le_of_ble_eq_true rfl⟩) hS (fun q _ h => hFc q h) hFc (fun ra1 u t H1 locs ht hvm hwra1 hB hz1 hk1 hS => ?_)
  obtain ⟨hP1, hK1, hD1⟩ := hB
  rw [ht] at hP1
  obtain ⟨hP2, hD2⟩ := va_join (wr := []) (w1 := []) hP hD [] [] rfl rfl (by decide) (by decide) hk1 hFc hP1 hD1
  clear hP hD hPc hDc hKc hFc hP1 hK1 hD1 hk1 hz1
  generalize H1 = H at hP2 hS ⊢
  have hP : va_P (dC, dI) vwCl [] H := hP2
  have hD : va_D A [] := hD2
  clear hP2 hD2
  obtain ⟨wa_ra1, wb_ra1⟩ := hwra1
  have wa_ra1 : 1 ≤ ra1.toInt := wa_ra1
  have wb_ra1 : ra1.toInt ≤ 1 := wb_ra1
  refine lv_if_eq (tgt := 23) hx hb dJ0_indexOf_7cf53_4 (by decide) (fun c2 => by exfalso; have fc2 : ra1.toInt = 0 := congrArg Int32.toInt c2; omega) (fun _ => ?_)
  refine lv_aload_n hx hb dJ0_indexOf_7cf53_7 rfl (lv_at hl 0 rfl) ?_
  refine vk_getf hx hb (h_st_S.1 1 (by decide)).2.2.1 hS hown (hts (.fieldLink RJ0 9 "java/lang/String" "value" "[B") (List.mem_cons_of_mem _ (List.mem_of_getElem? (i := 7) rfl))) (fun _ h9 => h9) dJ0_indexOf_7cf53_8 ?_
  refine lv_iload_n hx hb dJ0_indexOf_7cf53_11 rfl (lv_at hl 1 rfl) ?_
  refine lv_iload_n hx hb dJ0_indexOf_7cf53_12 rfl (lv_at hl 2 rfl) ?_
  refine lv_aload_n hx hb dJ0_indexOf_7cf53_13 rfl (lv_at hl 0 rfl) ?_
  have hPc := hP.sub (ws' := []) [] rfl
  have hDc := hD.sub (ws' := []) [] (by decide) rfl
  have hKc := hK.sub (tys' := []) [] rfl
  have hFc := va_free (wc := []) hD hS hA [] rfl
  refine va_calli (va_runV (As := []) (rest := [.int 0, .int 65535, .ref (adV 1)]) ⟨hx, hb, hml, hown, hts⟩ (k_J0_length_8abf5_1 l dC dI adK adV  H.size) (cwV 0 hts g_J0_indexOf_7cf53_1_1 rfl rfl rfl (by decide +kernel) ⟨Nat.le_of_ble_eq_true rfl, Nat.le_of_ble_eq_true rfl⟩) ⟨fun a U g mk q => by obtain ⟨q0, q1, qP, qK, qD, n0, n1⟩ := q; exact ⟨q0, q1, qP, va_K.moved (u := U) (U := U.calling g mk a) (Vm.Alike.refl U.vm) qK, qD, vk_S.moved (Vm.Alike.refl _) n0, va_Z.moved (Vm.Alike.refl _) n1⟩, vk_recv h_st_S (by decide : 1 < 3) hS, fun U hU hW => ⟨rfl, by rw [hU], by rw [hU]; exact hPc, va_K.moved hW.alike hKc, hDc.weaken (fun _ _ _ _ => trivial), (by rw [hU]; exact (vk_S.moved hW.alike (vk_S.kept h_st_S hS.2.1)).narrow hFc), (by rw [hU]; exact (va_Z.moved hW.alike (va_Z.kept h_st_CS hS.2.1)).narrow hFc)⟩⟩ rfl rfl hl.1 rfl (lv_room (Nat.le_of_ble_eq_true rfl)) dJ0_indexOf_7cf53_14 ⟨Nat.le_of_ble_eq_true rfl, Nat.le_of_ble_eq_true rfl⟩) hS (fun q _ h => hFc q h) hFc (fun ra3 u t H1 locs ht hvm hwra3 hB hz1 hk1 hS => ?_)
  obtain ⟨hP1, hK1, hD1⟩ := hB
  rw [ht] at hP1
  obtain ⟨hP2, hD2⟩ := va_join (wr := []) (w1 := []) hP hD [] [] rfl rfl (by decide) (by decide) hk1 hFc hP1 hD1
  clear hP hD hPc hDc hKc hFc hP1 hK1 hD1 hk1 hz1
  generalize H1 = H at hP2 hS ⊢
  have hP : va_P (dC, dI) vwCl [] H := hP2
  have hD : va_D A [] := hD2
  clear hP2 hD2
  obtain ⟨wa_ra3, wb_ra3⟩ := hwra3
  have wa_ra3 : 5 ≤ ra3.toInt := wa_ra3
  have wb_ra3 : ra3.toInt ≤ 5 := wb_ra3
  obtain rfl : ra3 = (5 : Int32) := Int32.toInt_inj.mp (by rw [show ((5 : Int32)).toInt = 5 by decide]; omega)
  have hPc := hP.sub (ws' := []) [] rfl
  have hDc := hD.sub (ws' := []) [] (by decide) rfl
  have hKc := hK.sub (tys' := []) [] rfl
  have hFc := va_free (wc := []) hD hS hA [] rfl
  refine va_calli (va_runS (As := [.ref (adV 1), .int 65535, .int 0, .int 5]) (rest := []) ⟨hx, hb, hml, hown, hts⟩ (k_J1_indexOf_4cfef_1 l dC dI adK adV  H.size) (va_cwS 4 hts g_J0_indexOf_7cf53_1_2 rfl rfl rfl (by decide +kernel) ⟨Nat.le_of_ble_eq_true rfl, Nat.le_of_ble_eq_true rfl⟩) (pv_PS hPc hKc hDc) rfl rfl hl.1 rfl (lv_room (Nat.le_of_ble_eq_true rfl)) dJ0_indexOf_7cf53_17 ⟨Nat.le_of_ble_eq_true rfl, Nat.le_of_ble_eq_true rfl⟩) hS (fun q _ h => hFc q h) hFc (fun ra4 u t H1 locs ht hvm hwra4 hB hz1 hk1 hS => ?_)
  try rw [hwra4] at hB
  obtain ⟨pt0_ra4, pt1_ra4, pt2_ra4, hP1, hK1, hD1⟩ := hB
  rw [ht] at hP1
  obtain ⟨hP2, hD2⟩ := va_join (wr := []) (w1 := []) hP hD [] [] rfl rfl (by decide) (by decide) hk1 hFc hP1 hD1
  clear hP hD hPc hDc hKc hFc hP1 hK1 hD1 hk1 hz1
  generalize H1 = H at hP2 hS ⊢
  have hP : va_P (dC, dI) vwCl [] H := hP2
  have hD : va_D A [] := hD2
  clear hP2 hD2
  obtain rfl : ra4 = ((-1) : Int32) := pv_cs (by decide) pt0_ra4 pt1_ra4
  refine lv_goto (tgt := 36) hx hb dJ0_indexOf_7cf53_20 (by decide) ?_
  subst hQ
  have hP9 := hP.sub (ws' := []) [] rfl
  have hD9 := hD.sub (ws' := []) [] (by decide) rfl
  have hK9 := hK.sub (tys' := []) [] rfl
  exact W.iret (v := (-1)) hx hb hr (fun t ht hW => ⟨⟨(-1), (-1), rfl, rfl, ⟨by first | omega | decide, by first | omega | decide, by first | assumption | (unfold pg_it; (repeat' split) <;> first | rfl | (exfalso; omega) | (exfalso; simp_all)), by rw [ht]; exact hP9, va_K.moved hW.alike hK9, hD9⟩⟩, hS.F ht⟩) hS.2.2 dJ0_indexOf_7cf53_36
def q_J0_indexOf_0f7a4_1 : List Cond := .code yJ0_indexOf_0f7a4 cJ0_indexOf_0f7a4 2 (some .int) :: (([.code yJ0_indexOf_7cf53 cJ0_indexOf_7cf53 3 (some .int), .code yJ0_isLatin1_aae02 cJ0_isLatin1_aae02 1 (some .boolean), .fieldLink RJ0 38 "java/lang/String" "COMPACT_STRINGS" "Z", .fieldLink RJ0 15 "java/lang/String" "coder" "B", .initialized RJ0, .instanceMethod yJ0_isLatin1_aae02, .selects RJ0 yJ0_isLatin1_aae02 yJ0_isLatin1_aae02, .methodLink RJ0 492 yJ0_isLatin1_aae02, .fieldLink RJ0 9 "java/lang/String" "value" "[B", .code yJ0_length_8abf5 cJ0_length_8abf5 1 (some .int), .code yJ0_coder_7d493 cJ0_coder_7d493 1 (some .byte), .instanceMethod yJ0_coder_7d493, .selects RJ0 yJ0_coder_7d493 yJ0_coder_7d493, .methodLink RJ0 335 yJ0_coder_7d493, .instanceMethod yJ0_length_8abf5, .selects RJ0 yJ0_length_8abf5 yJ0_length_8abf5, .methodLink RJ0 505 yJ0_length_8abf5, .code yJ1_indexOf_4cfef cJ1_indexOf_4cfef 4 (some .int), .code yJ1_canEncode_9a6ad cJ1_canEncode_9a6ad 1 (some .boolean), .initialized RJ1, .static yJ1_canEncode_9a6ad, .methodLink RJ1 88 yJ1_canEncode_9a6ad, .static yJ1_indexOf_4cfef, .methodLink RJ0 637 yJ1_indexOf_4cfef, .instanceMethod yJ0_indexOf_7cf53, .selects RJ0 yJ0_indexOf_7cf53 yJ0_indexOf_7cf53, .methodLink RJ0 633 yJ0_indexOf_7cf53] : List Cond))
set_option maxRecDepth 20000 in
theorem g_J0_indexOf_0f7a4_1_0 : GoodIn q_J0_indexOf_0f7a4_1 (wsV RJ0 633 RJ0 yJ0_indexOf_7cf53 q_J0_indexOf_7cf53_1) := goodIn_app (goodIn_r _ [27, 25, 26, 5] rfl (by decide +kernel)) (goodIn_r (.code yJ0_indexOf_7cf53 cJ0_indexOf_7cf53 3 (some .int) :: [.code yJ0_isLatin1_aae02 cJ0_isLatin1_aae02 1 (some .boolean), .fieldLink RJ0 38 "java/lang/String" "COMPACT_STRINGS" "Z", .fieldLink RJ0 15 "java/lang/String" "coder" "B", .initialized RJ0, .instanceMethod yJ0_isLatin1_aae02, .selects RJ0 yJ0_isLatin1_aae02 yJ0_isLatin1_aae02, .methodLink RJ0 492 yJ0_isLatin1_aae02, .fieldLink RJ0 9 "java/lang/String" "value" "[B", .code yJ0_length_8abf5 cJ0_length_8abf5 1 (some .int), .code yJ0_coder_7d493 cJ0_coder_7d493 1 (some .byte), .instanceMethod yJ0_coder_7d493, .selects RJ0 yJ0_coder_7d493 yJ0_coder_7d493, .methodLink RJ0 335 yJ0_coder_7d493, .instanceMethod yJ0_length_8abf5, .selects RJ0 yJ0_length_8abf5 yJ0_length_8abf5, .methodLink RJ0 505 yJ0_length_8abf5, .code yJ1_indexOf_4cfef cJ1_indexOf_4cfef 4 (some .int), .code yJ1_canEncode_9a6ad cJ1_canEncode_9a6ad 1 (some .boolean), .initialized RJ1, .static yJ1_canEncode_9a6ad, .methodLink RJ1 88 yJ1_canEncode_9a6ad, .static yJ1_indexOf_4cfef, .methodLink RJ0 637 yJ1_indexOf_4cfef]) [1, 2, 3, 4, 5, 6, 7, 8, 9, 10, 11, 12, 13, 14, 15, 16, 17, 18, 19, 20, 21, 22, 23, 24] rfl (by decide +kernel))
set_option maxHeartbeats 4000000 in
set_option maxRecDepth 100000 in
theorem k_J0_indexOf_0f7a4_1 (l : Launch) (dC : Nat → ClassId) (dI : Nat → Nat → Nat) (adK : Nat → Nat) (adV : Nat → Nat) (sz : Nat) : Met l yJ0_indexOf_0f7a4 q_J0_indexOf_0f7a4_1 ({ frames := 3, cells := 0, slots := 0, locals := 65 }) (va_Pc [.ref (adK 1), .int 65535] (fun U => U.heap.size = sz ∧ va_P (dC, dI) vwCl [] U.heap ∧ va_K (dC, dI) vwCl [] U ∧ va_D (fun _ => True) [] ∧ va_Z "java/lang/String" "COMPACT_STRINGS" "Z" (.int 1) (va_A [] sz) U U.heap ∧ vk_S 3 pv_len3 pv_byt3 adK adV (va_A [] sz) U U.heap)) (va_Qi (fun (r : Int32) (r9 : Int32) => r9 = r) (fun (r : Int32) (t : State) => ((-1 ≤ r.toInt) ∧ (r.toInt ≤ -1) ∧ (r = pg_it false 65535) ∧ va_P (dC, dI) vwCl [] t.heap ∧ va_K (dC, dI) vwCl [] t ∧ va_D (va_A [] sz) [])) (va_A [] sz)) 0 0 (va_A [] sz) := by
  refine pv_ofWF (cc := cJ0_indexOf_0f7a4) (maxL := 2) (ret := (some .int)) (by decide +kernel) rfl ?_
  intro p e s m args below meth c s₁ B hml hv
  obtain ⟨rfl, hsz, hP, hK, hD0, h_st_CS, h_st_S⟩ := hv
  have hx := B.exec
  have hb := B.bytes
  have hr := B.returns
  have hts := atoms_spec (ws := q_J0_indexOf_0f7a4_1) B.pre
  have hown : s.vm.findClass RJ0 = some m.cls := findClass_of_methodNamed B.named
  have hlocks := B.notSynchronized
  subst hsz
  have hD := hD0.self (sz := s.heap.size)
  generalize hAe : va_A [] s.heap.size = A at hD h_st_CS h_st_S ⊢
  have hA : ∀ q : Nat, s.heap.size ≤ q → A q := fun q h => by rw [← hAe]; exact Or.inr h
  have hS : va_S A s.heap s.heap [] := va_S.rf
  generalize hQ : (MQ below _ _ s 0 0 A) = Q
  have hl := lv_entry ([.ref (adK 1), .int 65535]) (n := 2) (Nat.le_of_ble_eq_true rfl)
  rw [lg_entry_eq]
  generalize (lg_sl ([.ref (adK 1), .int 65535]) ++ List.replicate (2 - (lg_sl ([.ref (adK 1), .int 65535])).length) Slot.unset).toArray = ls at hl ⊢
  have hl : lv_has ls 2 [(0, .ref (adK 1)), (1, .int 65535)] := hl
  obtain ⟨H, hH⟩ : ∃ H : Heap, H = s.heap := ⟨_, rfl⟩
  obtain ⟨locs, hlocs⟩ : ∃ y : List Loc, y = [] := ⟨_, rfl⟩
  have hS : va_S A s.heap H locs := by rw [hH, hlocs]; exact va_S.rf
  have hP : va_P (dC, dI) vwCl [] H := by rw [hH]; exact hP
  rw [← hH, ← hlocs]
  refine lv_aload_n hx hb dJ0_indexOf_0f7a4_0 rfl (lv_at hl 0 rfl) ?_
  refine lv_iload_n hx hb dJ0_indexOf_0f7a4_1 rfl (lv_at hl 1 rfl) ?_
  refine lv_iconst (v := 0) hx hb dJ0_indexOf_0f7a4_2 (by decide) ?_
  have hPc := hP.sub (ws' := []) [] rfl
  have hDc := hD.sub (ws' := []) [] (by decide) rfl
  have hKc := hK.sub (tys' := []) [] rfl
  have hFc := va_free (wc := []) hD hS hA [] rfl
  refine va_calli (va_runV (As := [.int 65535, .int 0]) (rest := []) ⟨hx, hb, hml, hown, hts⟩ (k_J0_indexOf_7cf53_1 l dC dI adK adV  H.size) (cwV 2 hts g_J0_indexOf_0f7a4_1_0 rfl rfl rfl (by decide +kernel) ⟨Nat.le_of_ble_eq_true rfl, Nat.le_of_ble_eq_true rfl⟩) ⟨fun a U g mk q => by obtain ⟨q0, q1, qP, qK, qD, n0, n1⟩ := q; exact ⟨q0, q1, qP, va_K.moved (u := U) (U := U.calling g mk a) (Vm.Alike.refl U.vm) qK, qD, va_Z.moved (Vm.Alike.refl _) n0, vk_S.moved (Vm.Alike.refl _) n1⟩, vk_recv h_st_S (by decide : 1 < 3) hS, fun U hU hW => ⟨rfl, by rw [hU], by rw [hU]; exact hPc, va_K.moved hW.alike hKc, hDc.weaken (fun _ _ _ _ => trivial), (by rw [hU]; exact (va_Z.moved hW.alike (va_Z.kept h_st_CS hS.2.1)).narrow hFc), (by rw [hU]; exact (vk_S.moved hW.alike (vk_S.kept h_st_S hS.2.1)).narrow hFc)⟩⟩ rfl rfl hl.1 rfl (lv_room (Nat.le_of_ble_eq_true rfl)) dJ0_indexOf_0f7a4_3 ⟨Nat.le_of_ble_eq_true rfl, Nat.le_of_ble_eq_true rfl⟩) hS (fun q _ h => hFc q h) hFc (fun ra1 u t H1 locs ht hvm hwra1 hB hz1 hk1 hS => ?_)
  try rw [hwra1] at hB
  obtain ⟨pt0_ra1, pt1_ra1, pt2_ra1, hP1, hK1, hD1⟩ := hB
  rw [ht] at hP1
  obtain ⟨hP2, hD2⟩ := va_join (wr := []) (w1 := []) hP hD [] [] rfl rfl (by decide) (by decide) hk1 hFc hP1 hD1
  clear hP hD hPc hDc hKc hFc hP1 hK1 hD1 hk1 hz1
  generalize H1 = H at hP2 hS ⊢
  have hP : va_P (dC, dI) vwCl [] H := hP2
  have hD : va_D A [] := hD2
  clear hP2 hD2
  obtain rfl : ra1 = ((-1) : Int32) := pv_cs (by decide) pt0_ra1 pt1_ra1
  subst hQ
  have hP9 := hP.sub (ws' := []) [] rfl
  have hD9 := hD.sub (ws' := []) [] (by decide) rfl
  have hK9 := hK.sub (tys' := []) [] rfl
  exact W.iret (v := (-1)) hx hb hr (fun t ht hW => ⟨⟨(-1), (-1), rfl, rfl, ⟨by first | omega | decide, by first | omega | decide, by first | assumption | (unfold pg_it; (repeat' split) <;> first | rfl | (exfalso; omega) | (exfalso; simp_all)), by rw [ht]; exact hP9, va_K.moved hW.alike hK9, hD9⟩⟩, hS.F ht⟩) hS.2.2 dJ0_indexOf_0f7a4_6
def q_J1_indexOfChar_4cfef_1 : List Cond := .code yJ1_indexOfChar_4cfef cJ1_indexOfChar_4cfef 6 (some .int) :: (([] : List Cond))
set_option maxHeartbeats 4000000 in
set_option maxRecDepth 100000 in
theorem k_J1_indexOfChar_4cfef_1 (l : Launch) (dC : Nat → ClassId) (dI : Nat → Nat → Nat) (adK : Nat → Nat) (adV : Nat → Nat) (v0 : Int32) (i_v0 : 0 ≤ v0.toInt ∧ v0.toInt ≤ 255) (sz : Nat) : Met l yJ1_indexOfChar_4cfef q_J1_indexOfChar_4cfef_1 ({ frames := 0, cells := 0, slots := 0, locals := 0 }) (va_Pc [.ref (adV 1), .int v0, .int 0, .int 5] (fun U => U.heap.size = sz ∧ va_P (dC, dI) vwCl [] U.heap ∧ va_K (dC, dI) vwCl [] U ∧ va_D (fun _ => True) [] ∧ vk_S 3 pv_len3 pv_byt3 adK adV (va_A [] sz) U U.heap)) (va_Qi (fun (r : Int32) (r9 : Int32) => r9 = r) (fun (r : Int32) (t : State) => ((-1 ≤ r.toInt) ∧ (r.toInt ≤ 4) ∧ (r = pg_it false v0.toInt) ∧ va_P (dC, dI) vwCl [] t.heap ∧ va_K (dC, dI) vwCl [] t ∧ va_D (va_A [] sz) [])) (va_A [] sz)) 0 0 (va_A [] sz) := by
  refine pv_ofWF (cc := cJ1_indexOfChar_4cfef) (maxL := 6) (ret := (some .int)) (by decide +kernel) rfl ?_
  intro p e s m args below meth c s₁ B hml hv
  obtain ⟨i_v0a, i_v0b⟩ := i_v0
  obtain ⟨rfl, hsz, hP, hK, hD0, h_st_S⟩ := hv
  have hx := B.exec
  have hb := B.bytes
  have hr := B.returns
  have hts := atoms_spec (ws := q_J1_indexOfChar_4cfef_1) B.pre
  have hown : s.vm.findClass RJ1 = some m.cls := findClass_of_methodNamed B.named
  have hlocks := B.notSynchronized
  subst hsz
  have hD := hD0.self (sz := s.heap.size)
  generalize hAe : va_A [] s.heap.size = A at hD h_st_S ⊢
  have hA : ∀ q : Nat, s.heap.size ≤ q → A q := fun q h => by rw [← hAe]; exact Or.inr h
  have hS : va_S A s.heap s.heap [] := va_S.rf
  generalize hQ : (MQ below _ _ s 0 0 A) = Q
  have hl := lv_entry ([.ref (adV 1), .int v0, .int 0, .int 5]) (n := 6) (Nat.le_of_ble_eq_true rfl)
  rw [lg_entry_eq]
  generalize (lg_sl ([.ref (adV 1), .int v0, .int 0, .int 5]) ++ List.replicate (6 - (lg_sl ([.ref (adV 1), .int v0, .int 0, .int 5])).length) Slot.unset).toArray = ls at hl ⊢
  have hl : lv_has ls 6 [(0, .ref (adV 1)), (1, .int v0), (2, .int 0), (3, .int 5)] := hl
  obtain ⟨H, hH⟩ : ∃ H : Heap, H = s.heap := ⟨_, rfl⟩
  obtain ⟨locs, hlocs⟩ : ∃ y : List Loc, y = [] := ⟨_, rfl⟩
  have hS : va_S A s.heap H locs := by rw [hH, hlocs]; exact va_S.rf
  have hP : va_P (dC, dI) vwCl [] H := by rw [hH]; exact hP
  rw [← hH, ← hlocs]
  refine lv_iload_n hx hb dJ1_indexOfChar_4cfef_0 rfl (lv_at hl 1 rfl) ?_
  obtain ⟨t1, et1⟩ : ∃ z : Int32, z = (v0 : Int32).toInt8.toInt32 := ⟨_, rfl⟩
  refine lv_i2b (v := t1) hx hb dJ1_indexOfChar_4cfef_1 (by rw [et1]) ?_
  have h8t1 := pg_i8 (v := v0) (t := t1) (by assumption) (by omega) (by omega)
  refine lv_istore (lv' := [(4, .int t1), (0, .ref (adV 1)), (1, .int v0), (2, .int 0), (3, .int 5)]) hx hb dJ1_indexOfChar_4cfef_2 hl (by decide) rfl (fun ls hl => ?_)
  refine lv_iload_n hx hb dJ1_indexOfChar_4cfef_4 rfl (lv_at hl 3 rfl) ?_
  refine lv_istore (lv' := [(5, .int 0), (4, .int t1), (0, .ref (adV 1)), (1, .int v0), (2, .int 0), (3, .int 5)]) hx hb dJ1_indexOfChar_4cfef_5 hl (by decide) rfl (fun ls hl => ?_)
  refine lv_iload hx hb dJ1_indexOfChar_4cfef_7 (lv_at hl 0 rfl) ?_
  refine lv_iload_n hx hb dJ1_indexOfChar_4cfef_9 rfl (lv_at hl 5 rfl) ?_
  refine lv_icmp_ge (tgt := 31) hx hb dJ1_indexOfChar_4cfef_10 (by decide) (fun c => absurd c (by decide)) (fun _ => ?_)
  refine lv_aload_n hx hb dJ1_indexOfChar_4cfef_13 rfl (lv_at hl 2 rfl) ?_
  refine lv_iload hx hb dJ1_indexOfChar_4cfef_14 (lv_at hl 0 rfl) ?_
  refine va_tb hx hb (h_st_S.1 1 (by decide)).2.2.2 hS (pv_c (x := 0) (n := 5) (by decide)) rfl dJ1_indexOfChar_4cfef_16 ?_
  refine lv_topi (fun t2 et2 => ?_)
  have hbt2 : t2.toInt = 122 := by rw [et2]; decide
  refine lv_iload hx hb dJ1_indexOfChar_4cfef_17 (lv_at hl 1 rfl) ?_
  refine lv_icmp_ne (tgt := 25) hx hb dJ1_indexOfChar_4cfef_19 (by decide) (fun c3 => ?_) (fun c3 => ?_)
  · skip
    have fc3 : ¬ (t2.toInt = t1.toInt) := fun h9 => c3 (Int32.toInt_inj.mp h9)
    have r1c3 := Int32.toInt_lt t2
    have r2c3 := Int32.toInt_lt t1
    have r3c3 := Int32.le_toInt t2
    have r4c3 := Int32.le_toInt t1
    refine lv_iinc (v := 1) (lv' := [(5, .int 1), (4, .int t1), (0, .ref (adV 1)), (1, .int v0), (2, .int 0), (3, .int 5)]) hx hb dJ1_indexOfChar_4cfef_25 hl (k := 0) rfl (by decide) (by decide) rfl (fun ls hl => ?_)
    refine lv_goto (tgt := 7) hx hb dJ1_indexOfChar_4cfef_28 (by decide) ?_
    refine lv_iload hx hb dJ1_indexOfChar_4cfef_7 (lv_at hl 0 rfl) ?_
    refine lv_iload_n hx hb dJ1_indexOfChar_4cfef_9 rfl (lv_at hl 5 rfl) ?_
    refine lv_icmp_ge (tgt := 31) hx hb dJ1_indexOfChar_4cfef_10 (by decide) (fun c => absurd c (by decide)) (fun _ => ?_)
    refine lv_aload_n hx hb dJ1_indexOfChar_4cfef_13 rfl (lv_at hl 2 rfl) ?_
    refine lv_iload hx hb dJ1_indexOfChar_4cfef_14 (lv_at hl 0 rfl) ?_
    refine va_tb hx hb (h_st_S.1 1 (by decide)).2.2.2 hS (pv_c (x := 1) (n := 5) (by decide)) rfl dJ1_indexOfChar_4cfef_16 ?_
    refine lv_topi (fun t4 et4 => ?_)
    have hbt4 : t4.toInt = 97 := by rw [et4]; decide
    refine lv_iload hx hb dJ1_indexOfChar_4cfef_17 (lv_at hl 1 rfl) ?_
    refine lv_icmp_ne (tgt := 25) hx hb dJ1_indexOfChar_4cfef_19 (by decide) (fun c5 => ?_) (fun c5 => ?_)
    · skip
      have fc5 : ¬ (t4.toInt = t1.toInt) := fun h9 => c5 (Int32.toInt_inj.mp h9)
      have r1c5 := Int32.toInt_lt t4
      have r2c5 := Int32.toInt_lt t1
      have r3c5 := Int32.le_toInt t4
      have r4c5 := Int32.le_toInt t1
      refine lv_iinc (v := 2) (lv' := [(5, .int 2), (4, .int t1), (0, .ref (adV 1)), (1, .int v0), (2, .int 0), (3, .int 5)]) hx hb dJ1_indexOfChar_4cfef_25 hl (k := 0) rfl (by decide) (by decide) rfl (fun ls hl => ?_)
      refine lv_goto (tgt := 7) hx hb dJ1_indexOfChar_4cfef_28 (by decide) ?_
      refine lv_iload hx hb dJ1_indexOfChar_4cfef_7 (lv_at hl 0 rfl) ?_
      refine lv_iload_n hx hb dJ1_indexOfChar_4cfef_9 rfl (lv_at hl 5 rfl) ?_
      refine lv_icmp_ge (tgt := 31) hx hb dJ1_indexOfChar_4cfef_10 (by decide) (fun c => absurd c (by decide)) (fun _ => ?_)
      refine lv_aload_n hx hb dJ1_indexOfChar_4cfef_13 rfl (lv_at hl 2 rfl) ?_
      refine lv_iload hx hb dJ1_indexOfChar_4cfef_14 (lv_at hl 0 rfl) ?_
      refine va_tb hx hb (h_st_S.1 1 (by decide)).2.2.2 hS (pv_c (x := 2) (n := 5) (by decide)) rfl dJ1_indexOfChar_4cfef_16 ?_
      refine lv_topi (fun t6 et6 => ?_)
      have hbt6 : t6.toInt = 99 := by rw [et6]; decide
      refine lv_iload hx hb dJ1_indexOfChar_4cfef_17 (lv_at hl 1 rfl) ?_
      refine lv_icmp_ne (tgt := 25) hx hb dJ1_indexOfChar_4cfef_19 (by decide) (fun c7 => ?_) (fun c7 => ?_)
      · skip
        have fc7 : ¬ (t6.toInt = t1.toInt) := fun h9 => c7 (Int32.toInt_inj.mp h9)
        have r1c7 := Int32.toInt_lt t6
        have r2c7 := Int32.toInt_lt t1
        have r3c7 := Int32.le_toInt t6
        have r4c7 := Int32.le_toInt t1
        refine lv_iinc (v := 3) (lv' := [(5, .int 3), (4, .int t1), (0, .ref (adV 1)), (1, .int v0), (2, .int 0), (3, .int 5)]) hx hb dJ1_indexOfChar_4cfef_25 hl (k := 0) rfl (by decide) (by decide) rfl (fun ls hl => ?_)
        refine lv_goto (tgt := 7) hx hb dJ1_indexOfChar_4cfef_28 (by decide) ?_
        refine lv_iload hx hb dJ1_indexOfChar_4cfef_7 (lv_at hl 0 rfl) ?_
        refine lv_iload_n hx hb dJ1_indexOfChar_4cfef_9 rfl (lv_at hl 5 rfl) ?_
        refine lv_icmp_ge (tgt := 31) hx hb dJ1_indexOfChar_4cfef_10 (by decide) (fun c => absurd c (by decide)) (fun _ => ?_)
        refine lv_aload_n hx hb dJ1_indexOfChar_4cfef_13 rfl (lv_at hl 2 rfl) ?_
        refine lv_iload hx hb dJ1_indexOfChar_4cfef_14 (lv_at hl 0 rfl) ?_
        refine va_tb hx hb (h_st_S.1 1 (by decide)).2.2.2 hS (pv_c (x := 3) (n := 5) (by decide)) rfl dJ1_indexOfChar_4cfef_16 ?_
        refine lv_topi (fun t8 et8 => ?_)
        have hbt8 : t8.toInt = 104 := by rw [et8]; decide
        refine lv_iload hx hb dJ1_indexOfChar_4cfef_17 (lv_at hl 1 rfl) ?_
        refine lv_icmp_ne (tgt := 25) hx hb dJ1_indexOfChar_4cfef_19 (by decide) (fun c9 => ?_) (fun c9 => ?_)
        · skip
          have fc9 : ¬ (t8.toInt = t1.toInt) := fun h9 => c9 (Int32.toInt_inj.mp h9)
          have r1c9 := Int32.toInt_lt t8
          have r2c9 := Int32.toInt_lt t1
          have r3c9 := Int32.le_toInt t8
          have r4c9 := Int32.le_toInt t1
          refine lv_iinc (v := 4) (lv' := [(5, .int 4), (4, .int t1), (0, .ref (adV 1)), (1, .int v0), (2, .int 0), (3, .int 5)]) hx hb dJ1_indexOfChar_4cfef_25 hl (k := 0) rfl (by decide) (by decide) rfl (fun ls hl => ?_)
          refine lv_goto (tgt := 7) hx hb dJ1_indexOfChar_4cfef_28 (by decide) ?_
          refine lv_iload hx hb dJ1_indexOfChar_4cfef_7 (lv_at hl 0 rfl) ?_
          refine lv_iload_n hx hb dJ1_indexOfChar_4cfef_9 rfl (lv_at hl 5 rfl) ?_
          refine lv_icmp_ge (tgt := 31) hx hb dJ1_indexOfChar_4cfef_10 (by decide) (fun c => absurd c (by decide)) (fun _ => ?_)
          refine lv_aload_n hx hb dJ1_indexOfChar_4cfef_13 rfl (lv_at hl 2 rfl) ?_
          refine lv_iload hx hb dJ1_indexOfChar_4cfef_14 (lv_at hl 0 rfl) ?_
          refine va_tb hx hb (h_st_S.1 1 (by decide)).2.2.2 hS (pv_c (x := 4) (n := 5) (by decide)) rfl dJ1_indexOfChar_4cfef_16 ?_
          refine lv_topi (fun t10 et10 => ?_)
          have hbt10 : t10.toInt = 108 := by rw [et10]; decide
          refine lv_iload hx hb dJ1_indexOfChar_4cfef_17 (lv_at hl 1 rfl) ?_
          refine lv_icmp_ne (tgt := 25) hx hb dJ1_indexOfChar_4cfef_19 (by decide) (fun c11 => ?_) (fun c11 => ?_)
          · skip
            have fc11 : ¬ (t10.toInt = t1.toInt) := fun h9 => c11 (Int32.toInt_inj.mp h9)
            have r1c11 := Int32.toInt_lt t10
            have r2c11 := Int32.toInt_lt t1
            have r3c11 := Int32.le_toInt t10
            have r4c11 := Int32.le_toInt t1
            refine lv_iinc (v := 5) (lv' := [(5, .int 5), (4, .int t1), (0, .ref (adV 1)), (1, .int v0), (2, .int 0), (3, .int 5)]) hx hb dJ1_indexOfChar_4cfef_25 hl (k := 0) rfl (by decide) (by decide) rfl (fun ls hl => ?_)
            refine lv_goto (tgt := 7) hx hb dJ1_indexOfChar_4cfef_28 (by decide) ?_
            refine lv_iload hx hb dJ1_indexOfChar_4cfef_7 (lv_at hl 0 rfl) ?_
            refine lv_iload_n hx hb dJ1_indexOfChar_4cfef_9 rfl (lv_at hl 5 rfl) ?_
            refine lv_icmp_ge (tgt := 31) hx hb dJ1_indexOfChar_4cfef_10 (by decide) (fun _ => ?_) (fun c => absurd (by decide) c)
            refine lv_iconst (v := (-1)) hx hb dJ1_indexOfChar_4cfef_31 (by decide) ?_
            subst hQ
            have hP9 := hP.sub (ws' := []) [] rfl
            have hD9 := hD.sub (ws' := []) [] (by decide) rfl
            have hK9 := hK.sub (tys' := []) [] rfl
            exact W.iret (v := (-1)) hx hb hr (fun t ht hW => ⟨⟨(-1), (-1), rfl, rfl, ⟨by first | omega | decide, by first | omega | decide, by first | assumption | (unfold pg_it; (repeat' split) <;> first | rfl | (exfalso; omega) | (exfalso; simp_all)), by rw [ht]; exact hP9, va_K.moved hW.alike hK9, hD9⟩⟩, hS.F ht⟩) hS.2.2 dJ1_indexOfChar_4cfef_32
          · skip
            have fc11 : t10.toInt = t1.toInt := congrArg Int32.toInt c11
            have r1c11 := Int32.toInt_lt t10
            have r2c11 := Int32.toInt_lt t1
            have r3c11 := Int32.le_toInt t10
            have r4c11 := Int32.le_toInt t1
            refine lv_iload hx hb dJ1_indexOfChar_4cfef_22 (lv_at hl 0 rfl) ?_
            subst hQ
            have hP9 := hP.sub (ws' := []) [] rfl
            have hD9 := hD.sub (ws' := []) [] (by decide) rfl
            have hK9 := hK.sub (tys' := []) [] rfl
            exact W.iret (v := 4) hx hb hr (fun t ht hW => ⟨⟨4, 4, rfl, rfl, ⟨by first | omega | decide, by first | omega | decide, by first | assumption | (unfold pg_it; (repeat' split) <;> first | rfl | (exfalso; omega) | (exfalso; simp_all)), by rw [ht]; exact hP9, va_K.moved hW.alike hK9, hD9⟩⟩, hS.F ht⟩) hS.2.2 dJ1_indexOfChar_4cfef_24
        · skip
          have fc9 : t8.toInt = t1.toInt := congrArg Int32.toInt c9
          have r1c9 := Int32.toInt_lt t8
          have r2c9 := Int32.toInt_lt t1
          have r3c9 := Int32.le_toInt t8
          have r4c9 := Int32.le_toInt t1
          refine lv_iload hx hb dJ1_indexOfChar_4cfef_22 (lv_at hl 0 rfl) ?_
          subst hQ
          have hP9 := hP.sub (ws' := []) [] rfl
          have hD9 := hD.sub (ws' := []) [] (by decide) rfl
          have hK9 := hK.sub (tys' := []) [] rfl
          exact W.iret (v := 3) hx hb hr (fun t ht hW => ⟨⟨3, 3, rfl, rfl, ⟨by first | omega | decide, by first | omega | decide, by first | assumption | (unfold pg_it; (repeat' split) <;> first | rfl | (exfalso; omega) | (exfalso; simp_all)), by rw [ht]; exact hP9, va_K.moved hW.alike hK9, hD9⟩⟩, hS.F ht⟩) hS.2.2 dJ1_indexOfChar_4cfef_24
      · skip
        have fc7 : t6.toInt = t1.toInt := congrArg Int32.toInt c7
        have r1c7 := Int32.toInt_lt t6
        have r2c7 := Int32.toInt_lt t1
        have r3c7 := Int32.le_toInt t6
        have r4c7 := Int32.le_toInt t1
        refine lv_iload hx hb dJ1_indexOfChar_4cfef_22 (lv_at hl 0 rfl) ?_
        subst hQ
        have hP9 := hP.sub (ws' := []) [] rfl
        have hD9 := hD.sub (ws' := []) [] (by decide) rfl
        have hK9 := hK.sub (tys' := []) [] rfl
        exact W.iret (v := 2) hx hb hr (fun t ht hW => ⟨⟨2, 2, rfl, rfl, ⟨by first | omega | decide, by first | omega | decide, by first | assumption | (unfold pg_it; (repeat' split) <;> first | rfl | (exfalso; omega) | (exfalso; simp_all)), by rw [ht]; exact hP9, va_K.moved hW.alike hK9, hD9⟩⟩, hS.F ht⟩) hS.2.2 dJ1_indexOfChar_4cfef_24
    · skip
      have fc5 : t4.toInt = t1.toInt := congrArg Int32.toInt c5
      have r1c5 := Int32.toInt_lt t4
      have r2c5 := Int32.toInt_lt t1
      have r3c5 := Int32.le_toInt t4
      have r4c5 := Int32.le_toInt t1
      refine lv_iload hx hb dJ1_indexOfChar_4cfef_22 (lv_at hl 0 rfl) ?_
      subst hQ
      have hP9 := hP.sub (ws' := []) [] rfl
      have hD9 := hD.sub (ws' := []) [] (by decide) rfl
      have hK9 := hK.sub (tys' := []) [] rfl
      exact W.iret (v := 1) hx hb hr (fun t ht hW => ⟨⟨1, 1, rfl, rfl, ⟨by first | omega | decide, by first | omega | decide, by first | assumption | (unfold pg_it; (repeat' split) <;> first | rfl | (exfalso; omega) | (exfalso; simp_all)), by rw [ht]; exact hP9, va_K.moved hW.alike hK9, hD9⟩⟩, hS.F ht⟩) hS.2.2 dJ1_indexOfChar_4cfef_24
  · skip
    have fc3 : t2.toInt = t1.toInt := congrArg Int32.toInt c3
    have r1c3 := Int32.toInt_lt t2
    have r2c3 := Int32.toInt_lt t1
    have r3c3 := Int32.le_toInt t2
    have r4c3 := Int32.le_toInt t1
    refine lv_iload hx hb dJ1_indexOfChar_4cfef_22 (lv_at hl 0 rfl) ?_
    subst hQ
    have hP9 := hP.sub (ws' := []) [] rfl
    have hD9 := hD.sub (ws' := []) [] (by decide) rfl
    have hK9 := hK.sub (tys' := []) [] rfl
    exact W.iret (v := 0) hx hb hr (fun t ht hW => ⟨⟨0, 0, rfl, rfl, ⟨by first | omega | decide, by first | omega | decide, by first | assumption | (unfold pg_it; (repeat' split) <;> first | rfl | (exfalso; omega) | (exfalso; simp_all)), by rw [ht]; exact hP9, va_K.moved hW.alike hK9, hD9⟩⟩, hS.F ht⟩) hS.2.2 dJ1_indexOfChar_4cfef_24
def q_J1_indexOf_4cfef_2 : List Cond := .code yJ1_indexOf_4cfef cJ1_indexOf_4cfef 4 (some .int) :: (([.code yJ1_canEncode_9a6ad cJ1_canEncode_9a6ad 1 (some .boolean), .initialized RJ1, .static yJ1_canEncode_9a6ad, .methodLink RJ1 88 yJ1_canEncode_9a6ad, .methodLink RJ1 92 Lib.Math.max.name, .static Lib.Math.max.name, .initialized "java/lang/Math", .code Lib.Math.max.name Lib.Math.max.code 2 (some .int), .methodLink RJ1 38 Lib.Math.min.name, .static Lib.Math.min.name, .code Lib.Math.min.name Lib.Math.min.code 2 (some .int), .code yJ1_indexOfChar_4cfef cJ1_indexOfChar_4cfef 6 (some .int), .static yJ1_indexOfChar_4cfef, .methodLink RJ1 95 yJ1_indexOfChar_4cfef] : List Cond))
set_option maxRecDepth 20000 in
theorem g_J1_indexOf_4cfef_2_0 : GoodIn q_J1_indexOf_4cfef_2 (va_wsS RJ1 88 yJ1_canEncode_9a6ad q_J1_canEncode_9a6ad) := goodIn_app (goodIn_r _ [4, 3, 2] rfl (by decide +kernel)) (goodIn_r (.code yJ1_canEncode_9a6ad cJ1_canEncode_9a6ad 1 (some .boolean) :: []) [1] rfl (by decide +kernel))
set_option maxRecDepth 20000 in
theorem g_J1_indexOf_4cfef_2_1 : GoodIn q_J1_indexOf_4cfef_2 (va_wsS RJ1 95 yJ1_indexOfChar_4cfef q_J1_indexOfChar_4cfef_1) := goodIn_app (goodIn_r _ [14, 13, 2] rfl (by decide +kernel)) (goodIn_r (.code yJ1_indexOfChar_4cfef cJ1_indexOfChar_4cfef 6 (some .int) :: []) [12] rfl (by decide +kernel))
set_option maxHeartbeats 4000000 in
set_option maxRecDepth 100000 in
theorem k_J1_indexOf_4cfef_2 (l : Launch) (dC : Nat → ClassId) (dI : Nat → Nat → Nat) (adK : Nat → Nat) (adV : Nat → Nat) (v0 : Int32) (sz : Nat) : Met l yJ1_indexOf_4cfef q_J1_indexOf_4cfef_2 ({ frames := 1, cells := 0, slots := 0, locals := 25 }) (va_Pc [.ref (adV 1), .int v0, .int 0, .int 5] (fun U => U.heap.size = sz ∧ va_P (dC, dI) vwCl [] U.heap ∧ va_K (dC, dI) vwCl [] U ∧ va_D (fun _ => True) [] ∧ vk_S 3 pv_len3 pv_byt3 adK adV (va_A [] sz) U U.heap)) (va_Qi (fun (r : Int32) (r9 : Int32) => r9 = r) (fun (r : Int32) (t : State) => ((-1 ≤ r.toInt) ∧ (r.toInt ≤ 4) ∧ (r = pg_it false v0.toInt) ∧ va_P (dC, dI) vwCl [] t.heap ∧ va_K (dC, dI) vwCl [] t ∧ va_D (va_A [] sz) [])) (va_A [] sz)) 0 0 (va_A [] sz) := by
  refine pv_ofWF (cc := cJ1_indexOf_4cfef) (maxL := 4) (ret := (some .int)) (by decide +kernel) rfl ?_
  intro p e s m args below meth c s₁ B hml hv
  obtain ⟨rfl, hsz, hP, hK, hD0, h_st_S⟩ := hv
  have hx := B.exec
  have hb := B.bytes
  have hr := B.returns
  have hts := atoms_spec (ws := q_J1_indexOf_4cfef_2) B.pre
  have hown : s.vm.findClass RJ1 = some m.cls := findClass_of_methodNamed B.named
  have hlocks := B.notSynchronized
  subst hsz
  have hD := hD0.self (sz := s.heap.size)
  generalize hAe : va_A [] s.heap.size = A at hD h_st_S ⊢
  have hA : ∀ q : Nat, s.heap.size ≤ q → A q := fun q h => by rw [← hAe]; exact Or.inr h
  have hS : va_S A s.heap s.heap [] := va_S.rf
  generalize hQ : (MQ below _ _ s 0 0 A) = Q
  have hl := lv_entry ([.ref (adV 1), .int v0, .int 0, .int 5]) (n := 4) (Nat.le_of_ble_eq_true rfl)
  rw [lg_entry_eq]
  generalize (lg_sl ([.ref (adV 1), .int v0, .int 0, .int 5]) ++ List.replicate (4 - (lg_sl ([.ref (adV 1), .int v0, .int 0, .int 5])).length) Slot.unset).toArray = ls at hl ⊢
  have hl : lv_has ls 4 [(0, .ref (adV 1)), (1, .int v0), (2, .int 0), (3, .int 5)] := hl
  obtain ⟨H, hH⟩ : ∃ H : Heap, H = s.heap := ⟨_, rfl⟩
  obtain ⟨locs, hlocs⟩ : ∃ y : List Loc, y = [] := ⟨_, rfl⟩
  have hS : va_S A s.heap H locs := by rw [hH, hlocs]; exact va_S.rf
  have hP : va_P (dC, dI) vwCl [] H := by rw [hH]; exact hP
  rw [← hH, ← hlocs]
  refine lv_iload_n hx hb dJ1_indexOf_4cfef_0 rfl (lv_at hl 1 rfl) ?_
  have hPc := hP.sub (ws' := []) [] rfl
  have hDc := hD.sub (ws' := []) [] (by decide) rfl
  have hKc := hK.sub (tys' := []) [] rfl
  have hFc := va_free (wc := []) hD hS hA [] rfl
  refine va_calli (va_runS (As := [.int v0]) (rest := []) ⟨hx, hb, hml, hown, hts⟩ (k_J1_canEncode_9a6ad l dC dI v0  H.size) (va_cwS 1 hts g_J1_indexOf_4cfef_2_0 rfl rfl rfl (by decide +kernel) ⟨Nat.le_of_ble_eq_true rfl, Nat.le_of_ble_eq_true rfl⟩) (pv_PS hPc hKc hDc) rfl rfl hl.1 rfl (lv_room (Nat.le_of_ble_eq_true rfl)) dJ1_indexOf_4cfef_1 ⟨Nat.le_of_ble_eq_true rfl, Nat.le_of_ble_eq_true rfl⟩) hS (fun q _ h => hFc q h) hFc (fun ra1 u t H1 locs ht hvm hwra1 hB hz1 hk1 hS => ?_)
  try rw [hwra1] at hB
  obtain ⟨pt0_ra1, pt1_ra1, pt2_ra1, pt3_ra1, pt4_ra1, hP1, hK1, hD1⟩ := hB
  rw [ht] at hP1
  obtain ⟨hP2, hD2⟩ := va_join (wr := []) (w1 := []) hP hD [] [] rfl rfl (by decide) (by decide) hk1 hFc hP1 hD1
  clear hP hD hPc hDc hKc hFc hP1 hK1 hD1 hk1 hz1
  generalize H1 = H at hP2 hS ⊢
  have hP : va_P (dC, dI) vwCl [] H := hP2
  have hD : va_D A [] := hD2
  clear hP2 hD2
  refine lv_if_ne (tgt := 9) hx hb dJ1_indexOf_4cfef_4 (by decide) (fun c2 => ?_) (fun c2 => ?_)
  · skip
    have fc2 : ¬ (ra1.toInt = 0) := fun h9 => c2 (Int32.toInt_inj.mp h9)
    refine lv_iload_n hx hb dJ1_indexOf_4cfef_9 rfl (lv_at hl 2 rfl) ?_
    refine lv_iconst (v := 0) hx hb dJ1_indexOf_4cfef_10 (by decide) ?_
    refine va_mmax hx hb (by rw [hml]; exact hl.1.symm) hown (hts (.methodLink RJ1 92 Lib.Math.max.name) (List.mem_cons_of_mem _ (List.mem_of_getElem? (i := 4) rfl))) (hts (.static Lib.Math.max.name) (List.mem_cons_of_mem _ (List.mem_of_getElem? (i := 5) rfl))) (hts (.initialized "java/lang/Math") (List.mem_cons_of_mem _ (List.mem_of_getElem? (i := 6) rfl))) (hts (.code Lib.Math.max.name Lib.Math.max.code 2 (some .int)) (List.mem_cons_of_mem _ (List.mem_of_getElem? (i := 7) rfl))) (Nat.le_of_ble_eq_true rfl) (Nat.le_of_ble_eq_true rfl) (Nat.le_of_ble_eq_true rfl) (Nat.le_of_ble_eq_true rfl) dJ1_indexOf_4cfef_11 ?_
    refine lv_topi (fun tv3 etv3 => ?_)
    obtain rfl : tv3 = (0 : Int32) := etv3.trans (by first | rfl | decide)
    refine lv_istore_n (lv' := [(2, .int 0), (0, .ref (adV 1)), (1, .int v0), (3, .int 5)]) hx hb dJ1_indexOf_4cfef_14 rfl hl (by decide) rfl (fun ls hl => ?_)
    refine lv_iload_n hx hb dJ1_indexOf_4cfef_15 rfl (lv_at hl 3 rfl) ?_
    refine lv_aload_n hx hb dJ1_indexOf_4cfef_16 rfl (lv_at hl 1 rfl) ?_
    refine va_tlen (v := 5) hx hb (h_st_S.1 1 (by decide)).2.2.2 hS (by decide) dJ1_indexOf_4cfef_17 ?_
    refine va_mmin hx hb (by rw [hml]; exact hl.1.symm) hown (hts (.methodLink RJ1 38 Lib.Math.min.name) (List.mem_cons_of_mem _ (List.mem_of_getElem? (i := 8) rfl))) (hts (.static Lib.Math.min.name) (List.mem_cons_of_mem _ (List.mem_of_getElem? (i := 9) rfl))) (hts (.initialized "java/lang/Math") (List.mem_cons_of_mem _ (List.mem_of_getElem? (i := 6) rfl))) (hts (.code Lib.Math.min.name Lib.Math.min.code 2 (some .int)) (List.mem_cons_of_mem _ (List.mem_of_getElem? (i := 10) rfl))) (Nat.le_of_ble_eq_true rfl) (Nat.le_of_ble_eq_true rfl) (Nat.le_of_ble_eq_true rfl) (Nat.le_of_ble_eq_true rfl) dJ1_indexOf_4cfef_18 ?_
    refine lv_topi (fun tv4 etv4 => ?_)
    obtain rfl : tv4 = (5 : Int32) := etv4.trans (by first | rfl | decide)
    refine lv_istore_n (lv' := [(3, .int 5), (2, .int 0), (0, .ref (adV 1)), (1, .int v0)]) hx hb dJ1_indexOf_4cfef_21 rfl hl (by decide) rfl (fun ls hl => ?_)
    refine lv_iload_n hx hb dJ1_indexOf_4cfef_22 rfl (lv_at hl 1 rfl) ?_
    refine lv_iload_n hx hb dJ1_indexOf_4cfef_23 rfl (lv_at hl 0 rfl) ?_
    refine lv_icmp_lt (tgt := 29) hx hb dJ1_indexOf_4cfef_24 (by decide) (fun _ => ?_) (fun c => absurd (by decide) c)
    refine lv_aload_n hx hb dJ1_indexOf_4cfef_29 rfl (lv_at hl 2 rfl) ?_
    refine lv_iload_n hx hb dJ1_indexOf_4cfef_30 rfl (lv_at hl 3 rfl) ?_
    refine lv_iload_n hx hb dJ1_indexOf_4cfef_31 rfl (lv_at hl 1 rfl) ?_
    refine lv_iload_n hx hb dJ1_indexOf_4cfef_32 rfl (lv_at hl 0 rfl) ?_
    have hPc := hP.sub (ws' := []) [] rfl
    have hDc := hD.sub (ws' := []) [] (by decide) rfl
    have hKc := hK.sub (tys' := []) [] rfl
    have hFc := va_free (wc := []) hD hS hA [] rfl
    refine va_calli (va_runS (As := [.ref (adV 1), .int v0, .int 0, .int 5]) (rest := []) ⟨hx, hb, hml, hown, hts⟩ (k_J1_indexOfChar_4cfef_1 l dC dI adK adV v0 ⟨by first | omega | decide, by first | omega | decide⟩ H.size) (va_cwS 4 hts g_J1_indexOf_4cfef_2_1 rfl rfl rfl (by decide +kernel) ⟨Nat.le_of_ble_eq_true rfl, Nat.le_of_ble_eq_true rfl⟩) ⟨fun a U g mk q => by obtain ⟨q0, q1, qP, qK, qD, n0⟩ := q; exact ⟨q0, q1, qP, va_K.moved (u := U) (U := U.calling g mk a) (Vm.Alike.refl U.vm) qK, qD, vk_S.moved (Vm.Alike.refl _) n0⟩, fun U hU hW => ⟨rfl, by rw [hU], by rw [hU]; exact hPc, va_K.moved hW.alike hKc, hDc.weaken (fun _ _ _ _ => trivial), (by rw [hU]; exact (vk_S.moved hW.alike (vk_S.kept h_st_S hS.2.1)).narrow hFc)⟩⟩ rfl rfl hl.1 rfl (lv_room (Nat.le_of_ble_eq_true rfl)) dJ1_indexOf_4cfef_33 ⟨Nat.le_of_ble_eq_true rfl, Nat.le_of_ble_eq_true rfl⟩) hS (fun q _ h => hFc q h) hFc (fun ra5 u t H1 locs ht hvm hwra5 hB hz1 hk1 hS => ?_)
    try rw [hwra5] at hB
    obtain ⟨pt0_ra5, pt1_ra5, pt2_ra5, hP1, hK1, hD1⟩ := hB
    rw [ht] at hP1
    obtain ⟨hP2, hD2⟩ := va_join (wr := []) (w1 := []) hP hD [] [] rfl rfl (by decide) (by decide) hk1 hFc hP1 hD1
    clear hP hD hPc hDc hKc hFc hP1 hK1 hD1 hk1 hz1
    generalize H1 = H at hP2 hS ⊢
    have hP : va_P (dC, dI) vwCl [] H := hP2
    have hD : va_D A [] := hD2
    clear hP2 hD2
    subst hQ
    have hP9 := hP.sub (ws' := []) [] rfl
    have hD9 := hD.sub (ws' := []) [] (by decide) rfl
    have hK9 := hK.sub (tys' := []) [] rfl
    exact W.iret (v := ra5) hx hb hr (fun t ht hW => ⟨⟨ra5, ra5, rfl, rfl, ⟨by first | omega | decide, by first | omega | decide, by first | assumption | (unfold pg_it; (repeat' split) <;> first | rfl | (exfalso; omega) | (exfalso; simp_all)), by rw [ht]; exact hP9, va_K.moved hW.alike hK9, hD9⟩⟩, hS.F ht⟩) hS.2.2 dJ1_indexOf_4cfef_36
  · skip
    have fc2 : ra1.toInt = 0 := congrArg Int32.toInt c2
    refine lv_iconst (v := (-1)) hx hb dJ1_indexOf_4cfef_7 (by decide) ?_
    subst hQ
    have hP9 := hP.sub (ws' := []) [] rfl
    have hD9 := hD.sub (ws' := []) [] (by decide) rfl
    have hK9 := hK.sub (tys' := []) [] rfl
    exact W.iret (v := (-1)) hx hb hr (fun t ht hW => ⟨⟨(-1), (-1), rfl, rfl, ⟨by first | omega | decide, by first | omega | decide, by first | assumption | (unfold pg_it; (repeat' split) <;> first | rfl | (exfalso; omega) | (exfalso; simp_all)), by rw [ht]; exact hP9, va_K.moved hW.alike hK9, hD9⟩⟩, hS.F ht⟩) hS.2.2 dJ1_indexOf_4cfef_8
def q_J0_indexOf_7cf53_2 : List Cond := .code yJ0_indexOf_7cf53 cJ0_indexOf_7cf53 3 (some .int) :: (([.code yJ0_isLatin1_aae02 cJ0_isLatin1_aae02 1 (some .boolean), .fieldLink RJ0 38 "java/lang/String" "COMPACT_STRINGS" "Z", .fieldLink RJ0 15 "java/lang/String" "coder" "B", .initialized RJ0, .instanceMethod yJ0_isLatin1_aae02, .selects RJ0 yJ0_isLatin1_aae02 yJ0_isLatin1_aae02, .methodLink RJ0 492 yJ0_isLatin1_aae02, .fieldLink RJ0 9 "java/lang/String" "value" "[B", .code yJ0_length_8abf5 cJ0_length_8abf5 1 (some .int), .code yJ0_coder_7d493 cJ0_coder_7d493 1 (some .byte), .instanceMethod yJ0_coder_7d493, .selects RJ0 yJ0_coder_7d493 yJ0_coder_7d493, .methodLink RJ0 335 yJ0_coder_7d493, .instanceMethod yJ0_length_8abf5, .selects RJ0 yJ0_length_8abf5 yJ0_length_8abf5, .methodLink RJ0 505 yJ0_length_8abf5, .code yJ1_indexOf_4cfef cJ1_indexOf_4cfef 4 (some .int), .code yJ1_canEncode_9a6ad cJ1_canEncode_9a6ad 1 (some .boolean), .initialized RJ1, .static yJ1_canEncode_9a6ad, .methodLink RJ1 88 yJ1_canEncode_9a6ad, .methodLink RJ1 92 Lib.Math.max.name, .static Lib.Math.max.name, .initialized "java/lang/Math", .code Lib.Math.max.name Lib.Math.max.code 2 (some .int), .methodLink RJ1 38 Lib.Math.min.name, .static Lib.Math.min.name, .code Lib.Math.min.name Lib.Math.min.code 2 (some .int), .code yJ1_indexOfChar_4cfef cJ1_indexOfChar_4cfef 6 (some .int), .static yJ1_indexOfChar_4cfef, .methodLink RJ1 95 yJ1_indexOfChar_4cfef, .static yJ1_indexOf_4cfef, .methodLink RJ0 637 yJ1_indexOf_4cfef] : List Cond))
set_option maxRecDepth 20000 in
theorem g_J0_indexOf_7cf53_2_0 : GoodIn q_J0_indexOf_7cf53_2 (wsV RJ0 492 RJ0 yJ0_isLatin1_aae02 q_J0_isLatin1_aae02_1) := goodIn_app (goodIn_r _ [7, 5, 6, 4] rfl (by decide +kernel)) (goodIn_r (.code yJ0_isLatin1_aae02 cJ0_isLatin1_aae02 1 (some .boolean) :: [.fieldLink RJ0 38 "java/lang/String" "COMPACT_STRINGS" "Z", .fieldLink RJ0 15 "java/lang/String" "coder" "B"]) [1, 2, 3] rfl (by decide +kernel))
set_option maxRecDepth 20000 in
theorem g_J0_indexOf_7cf53_2_1 : GoodIn q_J0_indexOf_7cf53_2 (wsV RJ0 505 RJ0 yJ0_length_8abf5 q_J0_length_8abf5_1) := goodIn_app (goodIn_r _ [16, 14, 15, 4] rfl (by decide +kernel)) (goodIn_r (.code yJ0_length_8abf5 cJ0_length_8abf5 1 (some .int) :: [.fieldLink RJ0 9 "java/lang/String" "value" "[B", .code yJ0_coder_7d493 cJ0_coder_7d493 1 (some .byte), .fieldLink RJ0 38 "java/lang/String" "COMPACT_STRINGS" "Z", .fieldLink RJ0 15 "java/lang/String" "coder" "B", .initialized RJ0, .instanceMethod yJ0_coder_7d493, .selects RJ0 yJ0_coder_7d493 yJ0_coder_7d493, .methodLink RJ0 335 yJ0_coder_7d493]) [9, 8, 10, 2, 3, 4, 11, 12, 13] rfl (by decide +kernel))
set_option maxRecDepth 20000 in
theorem g_J0_indexOf_7cf53_2_2 : GoodIn q_J0_indexOf_7cf53_2 (va_wsS RJ0 637 yJ1_indexOf_4cfef q_J1_indexOf_4cfef_2) := goodIn_app (goodIn_r _ [33, 32, 19] rfl (by decide +kernel)) (goodIn_r (.code yJ1_indexOf_4cfef cJ1_indexOf_4cfef 4 (some .int) :: [.code yJ1_canEncode_9a6ad cJ1_canEncode_9a6ad 1 (some .boolean), .initialized RJ1, .static yJ1_canEncode_9a6ad, .methodLink RJ1 88 yJ1_canEncode_9a6ad, .methodLink RJ1 92 Lib.Math.max.name, .static Lib.Math.max.name, .initialized "java/lang/Math", .code Lib.Math.max.name Lib.Math.max.code 2 (some .int), .methodLink RJ1 38 Lib.Math.min.name, .static Lib.Math.min.name, .code Lib.Math.min.name Lib.Math.min.code 2 (some .int), .code yJ1_indexOfChar_4cfef cJ1_indexOfChar_4cfef 6 (some .int), .static yJ1_indexOfChar_4cfef, .methodLink RJ1 95 yJ1_indexOfChar_4cfef]) [17, 18, 19, 20, 21, 22, 23, 24, 25, 26, 27, 28, 29, 30, 31] rfl (by decide +kernel))
set_option maxHeartbeats 4000000 in
set_option maxRecDepth 100000 in
theorem k_J0_indexOf_7cf53_2 (l : Launch) (dC : Nat → ClassId) (dI : Nat → Nat → Nat) (adK : Nat → Nat) (adV : Nat → Nat) (v0 : Int32) (sz : Nat) : Met l yJ0_indexOf_7cf53 q_J0_indexOf_7cf53_2 ({ frames := 2, cells := 0, slots := 0, locals := 48 }) (va_Pc [.ref (adK 1), .int v0, .int 0] (fun U => U.heap.size = sz ∧ va_P (dC, dI) vwCl [] U.heap ∧ va_K (dC, dI) vwCl [] U ∧ va_D (fun _ => True) [] ∧ va_Z "java/lang/String" "COMPACT_STRINGS" "Z" (.int 1) (va_A [] sz) U U.heap ∧ vk_S 3 pv_len3 pv_byt3 adK adV (va_A [] sz) U U.heap)) (va_Qi (fun (r : Int32) (r9 : Int32) => r9 = r) (fun (r : Int32) (t : State) => ((-1 ≤ r.toInt) ∧ (r.toInt ≤ 4) ∧ (r = pg_it false v0.toInt) ∧ va_P (dC, dI) vwCl [] t.heap ∧ va_K (dC, dI) vwCl [] t ∧ va_D (va_A [] sz) [])) (va_A [] sz)) 0 0 (va_A [] sz) := by
  refine pv_ofWF (cc := cJ0_indexOf_7cf53) (maxL := 3) (ret := (some .int)) (by decide +kernel) rfl ?_
  intro p e s m args below meth c s₁ B hml hv
  obtain ⟨rfl, hsz, hP, hK, hD0, h_st_CS, h_st_S⟩ := hv
  have hx := B.exec
  have hb := B.bytes
  have hr := B.returns
  have hts := atoms_spec (ws := q_J0_indexOf_7cf53_2) B.pre
  have hown : s.vm.findClass RJ0 = some m.cls := findClass_of_methodNamed B.named
  have hlocks := B.notSynchronized
  subst hsz
  have hD := hD0.self (sz := s.heap.size)
  generalize hAe : va_A [] s.heap.size = A at hD h_st_CS h_st_S ⊢
  have hA : ∀ q : Nat, s.heap.size ≤ q → A q := fun q h => by rw [← hAe]; exact Or.inr h
  have hS : va_S A s.heap s.heap [] := va_S.rf
  generalize hQ : (MQ below _ _ s 0 0 A) = Q
  have hl := lv_entry ([.ref (adK 1), .int v0, .int 0]) (n := 3) (Nat.le_of_ble_eq_true rfl)
  rw [lg_entry_eq]
  generalize (lg_sl ([.ref (adK 1), .int v0, .int 0]) ++ List.replicate (3 - (lg_sl ([.ref (adK 1), .int v0, .int 0])).length) Slot.unset).toArray = ls at hl ⊢
  have hl : lv_has ls 3 [(0, .ref (adK 1)), (1, .int v0), (2, .int 0)] := hl
  obtain ⟨H, hH⟩ : ∃ H : Heap, H = s.heap := ⟨_, rfl⟩
  obtain ⟨locs, hlocs⟩ : ∃ y : List Loc, y = [] := ⟨_, rfl⟩
  have hS : va_S A s.heap H locs := by rw [hH, hlocs]; exact va_S.rf
  have hP : va_P (dC, dI) vwCl [] H := by rw [hH]; exact hP
  rw [← hH, ← hlocs]
  refine lv_aload_n hx hb dJ0_indexOf_7cf53_0 rfl (lv_at hl 0 rfl) ?_
  have hPc := hP.sub (ws' := []) [] rfl
  have hDc := hD.sub (ws' := []) [] (by decide) rfl
  have hKc := hK.sub (tys' := []) [] rfl
  have hFc := va_free (wc := []) hD hS hA [] rfl
  refine va_calli (va_runV (As := []) (rest := []) ⟨hx, hb, hml, hown, hts⟩ (k_J0_isLatin1_aae02_1 l dC dI adK adV  H.size) (cwV 0 hts g_J0_indexOf_7cf53_2_0 rfl rfl rfl (by decide +kernel) ⟨Nat.le_of_ble_eq_true rfl, Nat.le_of_ble_eq_true rfl⟩) ⟨fun a U g mk q => by obtain ⟨q0, q1, qP, qK, qD, n0, n1⟩ := q; exact ⟨q0, q1, qP, va_K.moved (u := U) (U := U.calling g mk a) (Vm.Alike.refl U.vm) qK, qD, va_Z.moved (Vm.Alike.refl _) n0, vk_S.moved (Vm.Alike.refl _) n1⟩, vk_recv h_st_S (by decide : 1 < 3) hS, fun U hU hW => ⟨rfl, by rw [hU], by rw [hU]; exact hPc, va_K.moved hW.alike hKc, hDc.weaken (fun _ _ _ _ => trivial), (by rw [hU]; exact (va_Z.moved hW.alike (va_Z.kept h_st_CS hS.2.1)).narrow hFc), (by rw [hU]; exact (vk_S.moved hW.alike (vk_S.kept h_st_S hS.2.1)).narrow hFc)⟩⟩ rfl rfl hl.1 rfl (lv_room (Nat.le_of_ble_eq_true rfl)) dJ0_indexOf_7cf53_1 ⟨Nat.le_of_ble_eq_true rfl, Nat.le_of_ble_eq_true rfl⟩) hS (fun q _ h => hFc q h) hFc (fun ra1 u t H1 locs ht hvm hwra1 hB hz1 hk1 hS => ?_)
  obtain ⟨hP1, hK1, hD1⟩ := hB
  rw [ht] at hP1
  obtain ⟨hP2, hD2⟩ := va_join (wr := []) (w1 := []) hP hD [] [] rfl rfl (by decide) (by decide) hk1 hFc hP1 hD1
  clear hP hD hPc hDc hKc hFc hP1 hK1 hD1 hk1 hz1
  generalize H1 = H at hP2 hS ⊢
  have hP : va_P (dC, dI) vwCl [] H := hP2
  have hD : va_D A [] := hD2
  clear hP2 hD2
  obtain ⟨wa_ra1, wb_ra1⟩ := hwra1
  have wa_ra1 : 1 ≤ ra1.toInt := wa_ra1
  have wb_ra1 : ra1.toInt ≤ 1 := wb_ra1
  refine lv_if_eq (tgt := 23) hx hb dJ0_indexOf_7cf53_4 (by decide) (fun c2 => by exfalso; have fc2 : ra1.toInt = 0 := congrArg Int32.toInt c2; omega) (fun _ => ?_)
  refine lv_aload_n hx hb dJ0_indexOf_7cf53_7 rfl (lv_at hl 0 rfl) ?_
  refine vk_getf hx hb (h_st_S.1 1 (by decide)).2.2.1 hS hown (hts (.fieldLink RJ0 9 "java/lang/String" "value" "[B") (List.mem_cons_of_mem _ (List.mem_of_getElem? (i := 7) rfl))) (fun _ h9 => h9) dJ0_indexOf_7cf53_8 ?_
  refine lv_iload_n hx hb dJ0_indexOf_7cf53_11 rfl (lv_at hl 1 rfl) ?_
  refine lv_iload_n hx hb dJ0_indexOf_7cf53_12 rfl (lv_at hl 2 rfl) ?_
  refine lv_aload_n hx hb dJ0_indexOf_7cf53_13 rfl (lv_at hl 0 rfl) ?_
  have hPc := hP.sub (ws' := []) [] rfl
  have hDc := hD.sub (ws' := []) [] (by decide) rfl
  have hKc := hK.sub (tys' := []) [] rfl
  have hFc := va_free (wc := []) hD hS hA [] rfl
  refine va_calli (va_runV (As := []) (rest := [.int 0, .int v0, .ref (adV 1)]) ⟨hx, hb, hml, hown, hts⟩ (k_J0_length_8abf5_1 l dC dI adK adV  H.size) (cwV 0 hts g_J0_indexOf_7cf53_2_1 rfl rfl rfl (by decide +kernel) ⟨Nat.le_of_ble_eq_true rfl, Nat.le_of_ble_eq_true rfl⟩) ⟨fun a U g mk q => by obtain ⟨q0, q1, qP, qK, qD, n0, n1⟩ := q; exact ⟨q0, q1, qP, va_K.moved (u := U) (U := U.calling g mk a) (Vm.Alike.refl U.vm) qK, qD, vk_S.moved (Vm.Alike.refl _) n0, va_Z.moved (Vm.Alike.refl _) n1⟩, vk_recv h_st_S (by decide : 1 < 3) hS, fun U hU hW => ⟨rfl, by rw [hU], by rw [hU]; exact hPc, va_K.moved hW.alike hKc, hDc.weaken (fun _ _ _ _ => trivial), (by rw [hU]; exact (vk_S.moved hW.alike (vk_S.kept h_st_S hS.2.1)).narrow hFc), (by rw [hU]; exact (va_Z.moved hW.alike (va_Z.kept h_st_CS hS.2.1)).narrow hFc)⟩⟩ rfl rfl hl.1 rfl (lv_room (Nat.le_of_ble_eq_true rfl)) dJ0_indexOf_7cf53_14 ⟨Nat.le_of_ble_eq_true rfl, Nat.le_of_ble_eq_true rfl⟩) hS (fun q _ h => hFc q h) hFc (fun ra3 u t H1 locs ht hvm hwra3 hB hz1 hk1 hS => ?_)
  obtain ⟨hP1, hK1, hD1⟩ := hB
  rw [ht] at hP1
  obtain ⟨hP2, hD2⟩ := va_join (wr := []) (w1 := []) hP hD [] [] rfl rfl (by decide) (by decide) hk1 hFc hP1 hD1
  clear hP hD hPc hDc hKc hFc hP1 hK1 hD1 hk1 hz1
  generalize H1 = H at hP2 hS ⊢
  have hP : va_P (dC, dI) vwCl [] H := hP2
  have hD : va_D A [] := hD2
  clear hP2 hD2
  obtain ⟨wa_ra3, wb_ra3⟩ := hwra3
  have wa_ra3 : 5 ≤ ra3.toInt := wa_ra3
  have wb_ra3 : ra3.toInt ≤ 5 := wb_ra3
  obtain rfl : ra3 = (5 : Int32) := Int32.toInt_inj.mp (by rw [show ((5 : Int32)).toInt = 5 by decide]; omega)
  have hPc := hP.sub (ws' := []) [] rfl
  have hDc := hD.sub (ws' := []) [] (by decide) rfl
  have hKc := hK.sub (tys' := []) [] rfl
  have hFc := va_free (wc := []) hD hS hA [] rfl
  refine va_calli (va_runS (As := [.ref (adV 1), .int v0, .int 0, .int 5]) (rest := []) ⟨hx, hb, hml, hown, hts⟩ (k_J1_indexOf_4cfef_2 l dC dI adK adV v0  H.size) (va_cwS 4 hts g_J0_indexOf_7cf53_2_2 rfl rfl rfl (by decide +kernel) ⟨Nat.le_of_ble_eq_true rfl, Nat.le_of_ble_eq_true rfl⟩) ⟨fun a U g mk q => by obtain ⟨q0, q1, qP, qK, qD, n0⟩ := q; exact ⟨q0, q1, qP, va_K.moved (u := U) (U := U.calling g mk a) (Vm.Alike.refl U.vm) qK, qD, vk_S.moved (Vm.Alike.refl _) n0⟩, fun U hU hW => ⟨rfl, by rw [hU], by rw [hU]; exact hPc, va_K.moved hW.alike hKc, hDc.weaken (fun _ _ _ _ => trivial), (by rw [hU]; exact (vk_S.moved hW.alike (vk_S.kept h_st_S hS.2.1)).narrow hFc)⟩⟩ rfl rfl hl.1 rfl (lv_room (Nat.le_of_ble_eq_true rfl)) dJ0_indexOf_7cf53_17 ⟨Nat.le_of_ble_eq_true rfl, Nat.le_of_ble_eq_true rfl⟩) hS (fun q _ h => hFc q h) hFc (fun ra4 u t H1 locs ht hvm hwra4 hB hz1 hk1 hS => ?_)
  try rw [hwra4] at hB
  obtain ⟨pt0_ra4, pt1_ra4, pt2_ra4, hP1, hK1, hD1⟩ := hB
  rw [ht] at hP1
  obtain ⟨hP2, hD2⟩ := va_join (wr := []) (w1 := []) hP hD [] [] rfl rfl (by decide) (by decide) hk1 hFc hP1 hD1
  clear hP hD hPc hDc hKc hFc hP1 hK1 hD1 hk1 hz1
  generalize H1 = H at hP2 hS ⊢
  have hP : va_P (dC, dI) vwCl [] H := hP2
  have hD : va_D A [] := hD2
  clear hP2 hD2
  refine lv_goto (tgt := 36) hx hb dJ0_indexOf_7cf53_20 (by decide) ?_
  subst hQ
  have hP9 := hP.sub (ws' := []) [] rfl
  have hD9 := hD.sub (ws' := []) [] (by decide) rfl
  have hK9 := hK.sub (tys' := []) [] rfl
  exact W.iret (v := ra4) hx hb hr (fun t ht hW => ⟨⟨ra4, ra4, rfl, rfl, ⟨by first | omega | decide, by first | omega | decide, by first | assumption | (unfold pg_it; (repeat' split) <;> first | rfl | (exfalso; omega) | (exfalso; simp_all)), by rw [ht]; exact hP9, va_K.moved hW.alike hK9, hD9⟩⟩, hS.F ht⟩) hS.2.2 dJ0_indexOf_7cf53_36
def q_J0_indexOf_0f7a4_2 : List Cond := .code yJ0_indexOf_0f7a4 cJ0_indexOf_0f7a4 2 (some .int) :: (([.code yJ0_indexOf_7cf53 cJ0_indexOf_7cf53 3 (some .int), .code yJ0_isLatin1_aae02 cJ0_isLatin1_aae02 1 (some .boolean), .fieldLink RJ0 38 "java/lang/String" "COMPACT_STRINGS" "Z", .fieldLink RJ0 15 "java/lang/String" "coder" "B", .initialized RJ0, .instanceMethod yJ0_isLatin1_aae02, .selects RJ0 yJ0_isLatin1_aae02 yJ0_isLatin1_aae02, .methodLink RJ0 492 yJ0_isLatin1_aae02, .fieldLink RJ0 9 "java/lang/String" "value" "[B", .code yJ0_length_8abf5 cJ0_length_8abf5 1 (some .int), .code yJ0_coder_7d493 cJ0_coder_7d493 1 (some .byte), .instanceMethod yJ0_coder_7d493, .selects RJ0 yJ0_coder_7d493 yJ0_coder_7d493, .methodLink RJ0 335 yJ0_coder_7d493, .instanceMethod yJ0_length_8abf5, .selects RJ0 yJ0_length_8abf5 yJ0_length_8abf5, .methodLink RJ0 505 yJ0_length_8abf5, .code yJ1_indexOf_4cfef cJ1_indexOf_4cfef 4 (some .int), .code yJ1_canEncode_9a6ad cJ1_canEncode_9a6ad 1 (some .boolean), .initialized RJ1, .static yJ1_canEncode_9a6ad, .methodLink RJ1 88 yJ1_canEncode_9a6ad, .methodLink RJ1 92 Lib.Math.max.name, .static Lib.Math.max.name, .initialized "java/lang/Math", .code Lib.Math.max.name Lib.Math.max.code 2 (some .int), .methodLink RJ1 38 Lib.Math.min.name, .static Lib.Math.min.name, .code Lib.Math.min.name Lib.Math.min.code 2 (some .int), .code yJ1_indexOfChar_4cfef cJ1_indexOfChar_4cfef 6 (some .int), .static yJ1_indexOfChar_4cfef, .methodLink RJ1 95 yJ1_indexOfChar_4cfef, .static yJ1_indexOf_4cfef, .methodLink RJ0 637 yJ1_indexOf_4cfef, .instanceMethod yJ0_indexOf_7cf53, .selects RJ0 yJ0_indexOf_7cf53 yJ0_indexOf_7cf53, .methodLink RJ0 633 yJ0_indexOf_7cf53] : List Cond))
set_option maxRecDepth 20000 in
theorem g_J0_indexOf_0f7a4_2_0 : GoodIn q_J0_indexOf_0f7a4_2 (wsV RJ0 633 RJ0 yJ0_indexOf_7cf53 q_J0_indexOf_7cf53_2) := goodIn_app (goodIn_r _ [37, 35, 36, 5] rfl (by decide +kernel)) (goodIn_r (.code yJ0_indexOf_7cf53 cJ0_indexOf_7cf53 3 (some .int) :: [.code yJ0_isLatin1_aae02 cJ0_isLatin1_aae02 1 (some .boolean), .fieldLink RJ0 38 "java/lang/String" "COMPACT_STRINGS" "Z", .fieldLink RJ0 15 "java/lang/String" "coder" "B", .initialized RJ0, .instanceMethod yJ0_isLatin1_aae02, .selects RJ0 yJ0_isLatin1_aae02 yJ0_isLatin1_aae02, .methodLink RJ0 492 yJ0_isLatin1_aae02, .fieldLink RJ0 9 "java/lang/String" "value" "[B", .code yJ0_length_8abf5 cJ0_length_8abf5 1 (some .int), .code yJ0_coder_7d493 cJ0_coder_7d493 1 (some .byte), .instanceMethod yJ0_coder_7d493, .selects RJ0 yJ0_coder_7d493 yJ0_coder_7d493, .methodLink RJ0 335 yJ0_coder_7d493, .instanceMethod yJ0_length_8abf5, .selects RJ0 yJ0_length_8abf5 yJ0_length_8abf5, .methodLink RJ0 505 yJ0_length_8abf5, .code yJ1_indexOf_4cfef cJ1_indexOf_4cfef 4 (some .int), .code yJ1_canEncode_9a6ad cJ1_canEncode_9a6ad 1 (some .boolean), .initialized RJ1, .static yJ1_canEncode_9a6ad, .methodLink RJ1 88 yJ1_canEncode_9a6ad, .methodLink RJ1 92 Lib.Math.max.name, .static Lib.Math.max.name, .initialized "java/lang/Math", .code Lib.Math.max.name Lib.Math.max.code 2 (some .int), .methodLink RJ1 38 Lib.Math.min.name, .static Lib.Math.min.name, .code Lib.Math.min.name Lib.Math.min.code 2 (some .int), .code yJ1_indexOfChar_4cfef cJ1_indexOfChar_4cfef 6 (some .int), .static yJ1_indexOfChar_4cfef, .methodLink RJ1 95 yJ1_indexOfChar_4cfef, .static yJ1_indexOf_4cfef, .methodLink RJ0 637 yJ1_indexOf_4cfef]) [1, 2, 3, 4, 5, 6, 7, 8, 9, 10, 11, 12, 13, 14, 15, 16, 17, 18, 19, 20, 21, 22, 23, 24, 25, 26, 27, 28, 29, 30, 31, 32, 33, 34] rfl (by decide +kernel))
set_option maxHeartbeats 4000000 in
set_option maxRecDepth 100000 in
theorem k_J0_indexOf_0f7a4_2 (l : Launch) (dC : Nat → ClassId) (dI : Nat → Nat → Nat) (adK : Nat → Nat) (adV : Nat → Nat) (v0 : Int32) (sz : Nat) : Met l yJ0_indexOf_0f7a4 q_J0_indexOf_0f7a4_2 ({ frames := 3, cells := 0, slots := 0, locals := 70 }) (va_Pc [.ref (adK 1), .int v0] (fun U => U.heap.size = sz ∧ va_P (dC, dI) vwCl [] U.heap ∧ va_K (dC, dI) vwCl [] U ∧ va_D (fun _ => True) [] ∧ va_Z "java/lang/String" "COMPACT_STRINGS" "Z" (.int 1) (va_A [] sz) U U.heap ∧ vk_S 3 pv_len3 pv_byt3 adK adV (va_A [] sz) U U.heap)) (va_Qi (fun (r : Int32) (r9 : Int32) => r9 = r) (fun (r : Int32) (t : State) => ((-1 ≤ r.toInt) ∧ (r.toInt ≤ 4) ∧ (r = pg_it false v0.toInt) ∧ va_P (dC, dI) vwCl [] t.heap ∧ va_K (dC, dI) vwCl [] t ∧ va_D (va_A [] sz) [])) (va_A [] sz)) 0 0 (va_A [] sz) := by
  refine pv_ofWF (cc := cJ0_indexOf_0f7a4) (maxL := 2) (ret := (some .int)) (by decide +kernel) rfl ?_
  intro p e s m args below meth c s₁ B hml hv
  obtain ⟨rfl, hsz, hP, hK, hD0, h_st_CS, h_st_S⟩ := hv
  have hx := B.exec
  have hb := B.bytes
  have hr := B.returns
  have hts := atoms_spec (ws := q_J0_indexOf_0f7a4_2) B.pre
  have hown : s.vm.findClass RJ0 = some m.cls := findClass_of_methodNamed B.named
  have hlocks := B.notSynchronized
  subst hsz
  have hD := hD0.self (sz := s.heap.size)
  generalize hAe : va_A [] s.heap.size = A at hD h_st_CS h_st_S ⊢
  have hA : ∀ q : Nat, s.heap.size ≤ q → A q := fun q h => by rw [← hAe]; exact Or.inr h
  have hS : va_S A s.heap s.heap [] := va_S.rf
  generalize hQ : (MQ below _ _ s 0 0 A) = Q
  have hl := lv_entry ([.ref (adK 1), .int v0]) (n := 2) (Nat.le_of_ble_eq_true rfl)
  rw [lg_entry_eq]
  generalize (lg_sl ([.ref (adK 1), .int v0]) ++ List.replicate (2 - (lg_sl ([.ref (adK 1), .int v0])).length) Slot.unset).toArray = ls at hl ⊢
  have hl : lv_has ls 2 [(0, .ref (adK 1)), (1, .int v0)] := hl
  obtain ⟨H, hH⟩ : ∃ H : Heap, H = s.heap := ⟨_, rfl⟩
  obtain ⟨locs, hlocs⟩ : ∃ y : List Loc, y = [] := ⟨_, rfl⟩
  have hS : va_S A s.heap H locs := by rw [hH, hlocs]; exact va_S.rf
  have hP : va_P (dC, dI) vwCl [] H := by rw [hH]; exact hP
  rw [← hH, ← hlocs]
  refine lv_aload_n hx hb dJ0_indexOf_0f7a4_0 rfl (lv_at hl 0 rfl) ?_
  refine lv_iload_n hx hb dJ0_indexOf_0f7a4_1 rfl (lv_at hl 1 rfl) ?_
  refine lv_iconst (v := 0) hx hb dJ0_indexOf_0f7a4_2 (by decide) ?_
  have hPc := hP.sub (ws' := []) [] rfl
  have hDc := hD.sub (ws' := []) [] (by decide) rfl
  have hKc := hK.sub (tys' := []) [] rfl
  have hFc := va_free (wc := []) hD hS hA [] rfl
  refine va_calli (va_runV (As := [.int v0, .int 0]) (rest := []) ⟨hx, hb, hml, hown, hts⟩ (k_J0_indexOf_7cf53_2 l dC dI adK adV v0  H.size) (cwV 2 hts g_J0_indexOf_0f7a4_2_0 rfl rfl rfl (by decide +kernel) ⟨Nat.le_of_ble_eq_true rfl, Nat.le_of_ble_eq_true rfl⟩) ⟨fun a U g mk q => by obtain ⟨q0, q1, qP, qK, qD, n0, n1⟩ := q; exact ⟨q0, q1, qP, va_K.moved (u := U) (U := U.calling g mk a) (Vm.Alike.refl U.vm) qK, qD, va_Z.moved (Vm.Alike.refl _) n0, vk_S.moved (Vm.Alike.refl _) n1⟩, vk_recv h_st_S (by decide : 1 < 3) hS, fun U hU hW => ⟨rfl, by rw [hU], by rw [hU]; exact hPc, va_K.moved hW.alike hKc, hDc.weaken (fun _ _ _ _ => trivial), (by rw [hU]; exact (va_Z.moved hW.alike (va_Z.kept h_st_CS hS.2.1)).narrow hFc), (by rw [hU]; exact (vk_S.moved hW.alike (vk_S.kept h_st_S hS.2.1)).narrow hFc)⟩⟩ rfl rfl hl.1 rfl (lv_room (Nat.le_of_ble_eq_true rfl)) dJ0_indexOf_0f7a4_3 ⟨Nat.le_of_ble_eq_true rfl, Nat.le_of_ble_eq_true rfl⟩) hS (fun q _ h => hFc q h) hFc (fun ra1 u t H1 locs ht hvm hwra1 hB hz1 hk1 hS => ?_)
  try rw [hwra1] at hB
  obtain ⟨pt0_ra1, pt1_ra1, pt2_ra1, hP1, hK1, hD1⟩ := hB
  rw [ht] at hP1
  obtain ⟨hP2, hD2⟩ := va_join (wr := []) (w1 := []) hP hD [] [] rfl rfl (by decide) (by decide) hk1 hFc hP1 hD1
  clear hP hD hPc hDc hKc hFc hP1 hK1 hD1 hk1 hz1
  generalize H1 = H at hP2 hS ⊢
  have hP : va_P (dC, dI) vwCl [] H := hP2
  have hD : va_D A [] := hD2
  clear hP2 hD2
  subst hQ
  have hP9 := hP.sub (ws' := []) [] rfl
  have hD9 := hD.sub (ws' := []) [] (by decide) rfl
  have hK9 := hK.sub (tys' := []) [] rfl
  exact W.iret (v := ra1) hx hb hr (fun t ht hW => ⟨⟨ra1, ra1, rfl, rfl, ⟨by first | omega | decide, by first | omega | decide, by first | assumption | (unfold pg_it; (repeat' split) <;> first | rfl | (exfalso; omega) | (exfalso; simp_all)), by rw [ht]; exact hP9, va_K.moved hW.alike hK9, hD9⟩⟩, hS.F ht⟩) hS.2.2 dJ0_indexOf_0f7a4_6
def q_X6_readLetter : List Cond := .code yX6_readLetter cX6_readLetter 4 (some .int) :: (([.fieldLink RX6 26 "LeftArguments$OfficeReader" "tape" "LLeftArguments$Tape;", .code yX10_next cX10_next 1 (some .int), .fieldLink RX10 19 "LeftArguments$Tape" "at" "I", .fieldLink RX10 15 "LeftArguments$Tape" "used" "I", .fieldLink RX10 9 "LeftArguments$Tape" "bytes" "[I", .initialized RX10, .instanceMethod yX10_next, .selects RX10 yX10_next yX10_next, .methodLink RX6 61 yX10_next, .code yJ0_indexOf_0f7a4 cJ0_indexOf_0f7a4 2 (some .int), .code yJ0_indexOf_7cf53 cJ0_indexOf_7cf53 3 (some .int), .code yJ0_isLatin1_aae02 cJ0_isLatin1_aae02 1 (some .boolean), .fieldLink RJ0 38 "java/lang/String" "COMPACT_STRINGS" "Z", .fieldLink RJ0 15 "java/lang/String" "coder" "B", .initialized RJ0, .instanceMethod yJ0_isLatin1_aae02, .selects RJ0 yJ0_isLatin1_aae02 yJ0_isLatin1_aae02, .methodLink RJ0 492 yJ0_isLatin1_aae02, .fieldLink RJ0 9 "java/lang/String" "value" "[B", .code yJ0_length_8abf5 cJ0_length_8abf5 1 (some .int), .code yJ0_coder_7d493 cJ0_coder_7d493 1 (some .byte), .instanceMethod yJ0_coder_7d493, .selects RJ0 yJ0_coder_7d493 yJ0_coder_7d493, .methodLink RJ0 335 yJ0_coder_7d493, .instanceMethod yJ0_length_8abf5, .selects RJ0 yJ0_length_8abf5 yJ0_length_8abf5, .methodLink RJ0 505 yJ0_length_8abf5, .code yJ1_indexOf_4cfef cJ1_indexOf_4cfef 4 (some .int), .code yJ1_canEncode_9a6ad cJ1_canEncode_9a6ad 1 (some .boolean), .initialized RJ1, .static yJ1_canEncode_9a6ad, .methodLink RJ1 88 yJ1_canEncode_9a6ad, .static yJ1_indexOf_4cfef, .methodLink RJ0 637 yJ1_indexOf_4cfef, .instanceMethod yJ0_indexOf_7cf53, .selects RJ0 yJ0_indexOf_7cf53 yJ0_indexOf_7cf53, .methodLink RJ0 633 yJ0_indexOf_7cf53, .instanceMethod yJ0_indexOf_0f7a4, .selects RJ0 yJ0_indexOf_0f7a4 yJ0_indexOf_0f7a4, .methodLink RX6 119 yJ0_indexOf_0f7a4, .code yX10_wrongHere cX10_wrongHere 1 (some .boolean), .fieldLink RX10 22 "LeftArguments$Tape" "wrongAt" "I", .instanceMethod yX10_wrongHere, .selects RX10 yX10_wrongHere yX10_wrongHere, .methodLink RX6 93 yX10_wrongHere, .methodLink RJ1 92 Lib.Math.max.name, .static Lib.Math.max.name, .initialized "java/lang/Math", .code Lib.Math.max.name Lib.Math.max.code 2 (some .int), .methodLink RJ1 38 Lib.Math.min.name, .static Lib.Math.min.name, .code Lib.Math.min.name Lib.Math.min.code 2 (some .int), .code yJ1_indexOfChar_4cfef cJ1_indexOfChar_4cfef 6 (some .int), .static yJ1_indexOfChar_4cfef, .methodLink RJ1 95 yJ1_indexOfChar_4cfef, .code yX10_step cX10_step 1 none, .instanceMethod yX10_step, .selects RX10 yX10_step yX10_step, .methodLink RX6 70 yX10_step] : List Cond) ++ wsX60 ++ wsX100)
set_option maxRecDepth 20000 in
theorem g_X6_readLetter_0 : GoodIn q_X6_readLetter (wsV RX6 61 RX10 yX10_next q_X10_next) := goodIn_app (goodIn_r _ [9, 7, 8, 6] rfl (by decide +kernel)) (goodIn_ca (goodIn_r (.code yX10_next cX10_next 1 (some .int) :: [.fieldLink RX10 19 "LeftArguments$Tape" "at" "I", .fieldLink RX10 15 "LeftArguments$Tape" "used" "I", .fieldLink RX10 9 "LeftArguments$Tape" "bytes" "[I"]) [2, 3, 4, 5] rfl (by decide +kernel)) (goodIn_sub (fun _ h => List.mem_cons_of_mem _ (List.mem_append_right _ h)) gwX10))
set_option maxRecDepth 20000 in
theorem g_X6_readLetter_1 : GoodIn q_X6_readLetter (wsV RX6 119 RJ0 yJ0_indexOf_0f7a4 q_J0_indexOf_0f7a4_1) := goodIn_app (goodIn_r _ [40, 38, 39, 15] rfl (by decide +kernel)) (goodIn_r (.code yJ0_indexOf_0f7a4 cJ0_indexOf_0f7a4 2 (some .int) :: [.code yJ0_indexOf_7cf53 cJ0_indexOf_7cf53 3 (some .int), .code yJ0_isLatin1_aae02 cJ0_isLatin1_aae02 1 (some .boolean), .fieldLink RJ0 38 "java/lang/String" "COMPACT_STRINGS" "Z", .fieldLink RJ0 15 "java/lang/String" "coder" "B", .initialized RJ0, .instanceMethod yJ0_isLatin1_aae02, .selects RJ0 yJ0_isLatin1_aae02 yJ0_isLatin1_aae02, .methodLink RJ0 492 yJ0_isLatin1_aae02, .fieldLink RJ0 9 "java/lang/String" "value" "[B", .code yJ0_length_8abf5 cJ0_length_8abf5 1 (some .int), .code yJ0_coder_7d493 cJ0_coder_7d493 1 (some .byte), .instanceMethod yJ0_coder_7d493, .selects RJ0 yJ0_coder_7d493 yJ0_coder_7d493, .methodLink RJ0 335 yJ0_coder_7d493, .instanceMethod yJ0_length_8abf5, .selects RJ0 yJ0_length_8abf5 yJ0_length_8abf5, .methodLink RJ0 505 yJ0_length_8abf5, .code yJ1_indexOf_4cfef cJ1_indexOf_4cfef 4 (some .int), .code yJ1_canEncode_9a6ad cJ1_canEncode_9a6ad 1 (some .boolean), .initialized RJ1, .static yJ1_canEncode_9a6ad, .methodLink RJ1 88 yJ1_canEncode_9a6ad, .static yJ1_indexOf_4cfef, .methodLink RJ0 637 yJ1_indexOf_4cfef, .instanceMethod yJ0_indexOf_7cf53, .selects RJ0 yJ0_indexOf_7cf53 yJ0_indexOf_7cf53, .methodLink RJ0 633 yJ0_indexOf_7cf53]) [10, 11, 12, 13, 14, 15, 16, 17, 18, 19, 20, 21, 22, 23, 24, 25, 26, 27, 28, 29, 30, 31, 32, 33, 34, 35, 36, 37] rfl (by decide +kernel))
set_option maxRecDepth 20000 in
theorem g_X6_readLetter_2 : GoodIn q_X6_readLetter (wsV RX6 93 RX10 yX10_wrongHere q_X10_wrongHere) := goodIn_app (goodIn_r _ [45, 43, 44, 6] rfl (by decide +kernel)) (goodIn_ca (goodIn_r (.code yX10_wrongHere cX10_wrongHere 1 (some .boolean) :: [.fieldLink RX10 19 "LeftArguments$Tape" "at" "I", .fieldLink RX10 22 "LeftArguments$Tape" "wrongAt" "I"]) [41, 3, 42] rfl (by decide +kernel)) (goodIn_sub (fun _ h => List.mem_cons_of_mem _ (List.mem_append_right _ h)) gwX10))
set_option maxRecDepth 20000 in
theorem g_X6_readLetter_3 : GoodIn q_X6_readLetter (wsV RX6 119 RJ0 yJ0_indexOf_0f7a4 q_J0_indexOf_0f7a4_2) := goodIn_app (goodIn_r _ [40, 38, 39, 15] rfl (by decide +kernel)) (goodIn_r (.code yJ0_indexOf_0f7a4 cJ0_indexOf_0f7a4 2 (some .int) :: [.code yJ0_indexOf_7cf53 cJ0_indexOf_7cf53 3 (some .int), .code yJ0_isLatin1_aae02 cJ0_isLatin1_aae02 1 (some .boolean), .fieldLink RJ0 38 "java/lang/String" "COMPACT_STRINGS" "Z", .fieldLink RJ0 15 "java/lang/String" "coder" "B", .initialized RJ0, .instanceMethod yJ0_isLatin1_aae02, .selects RJ0 yJ0_isLatin1_aae02 yJ0_isLatin1_aae02, .methodLink RJ0 492 yJ0_isLatin1_aae02, .fieldLink RJ0 9 "java/lang/String" "value" "[B", .code yJ0_length_8abf5 cJ0_length_8abf5 1 (some .int), .code yJ0_coder_7d493 cJ0_coder_7d493 1 (some .byte), .instanceMethod yJ0_coder_7d493, .selects RJ0 yJ0_coder_7d493 yJ0_coder_7d493, .methodLink RJ0 335 yJ0_coder_7d493, .instanceMethod yJ0_length_8abf5, .selects RJ0 yJ0_length_8abf5 yJ0_length_8abf5, .methodLink RJ0 505 yJ0_length_8abf5, .code yJ1_indexOf_4cfef cJ1_indexOf_4cfef 4 (some .int), .code yJ1_canEncode_9a6ad cJ1_canEncode_9a6ad 1 (some .boolean), .initialized RJ1, .static yJ1_canEncode_9a6ad, .methodLink RJ1 88 yJ1_canEncode_9a6ad, .methodLink RJ1 92 Lib.Math.max.name, .static Lib.Math.max.name, .initialized "java/lang/Math", .code Lib.Math.max.name Lib.Math.max.code 2 (some .int), .methodLink RJ1 38 Lib.Math.min.name, .static Lib.Math.min.name, .code Lib.Math.min.name Lib.Math.min.code 2 (some .int), .code yJ1_indexOfChar_4cfef cJ1_indexOfChar_4cfef 6 (some .int), .static yJ1_indexOfChar_4cfef, .methodLink RJ1 95 yJ1_indexOfChar_4cfef, .static yJ1_indexOf_4cfef, .methodLink RJ0 637 yJ1_indexOf_4cfef, .instanceMethod yJ0_indexOf_7cf53, .selects RJ0 yJ0_indexOf_7cf53 yJ0_indexOf_7cf53, .methodLink RJ0 633 yJ0_indexOf_7cf53]) [10, 11, 12, 13, 14, 15, 16, 17, 18, 19, 20, 21, 22, 23, 24, 25, 26, 27, 28, 29, 30, 31, 32, 46, 47, 48, 49, 50, 51, 52, 53, 54, 55, 33, 34, 35, 36, 37] rfl (by decide +kernel))
set_option maxRecDepth 20000 in
theorem g_X6_readLetter_5 : GoodIn q_X6_readLetter (wsV RX6 70 RX10 yX10_step q_X10_step) := goodIn_app (goodIn_r _ [59, 57, 58, 6] rfl (by decide +kernel)) (goodIn_ca (goodIn_r (.code yX10_step cX10_step 1 none :: [.fieldLink RX10 19 "LeftArguments$Tape" "at" "I"]) [56, 3] rfl (by decide +kernel)) (goodIn_sub (fun _ h => List.mem_cons_of_mem _ (List.mem_append_right _ h)) gwX10))
set_option maxHeartbeats 4000000 in
set_option maxRecDepth 100000 in
theorem k_X6_readLetter (l : Launch) (dC : Nat → ClassId) (dI : Nat → Nat → Nat) (adK : Nat → Nat) (adV : Nat → Nat) (h0 : Nat) (h1 : Nat) (h2 : Nat) (r0 : Nat) (r1 : Nat) (v0 : Int32) (v1 : Int32) (v2 : Int32) (v3 : Int32) (v4 : Int32) (v5 : Int32) (g0 : ClassId) (f6 : Nat → Int32) (v7 : Int32) (i_v0 : 0 ≤ v0.toInt ∧ v0.toInt ≤ 1) (i_v1 : 0 ≤ v1.toInt ∧ v1.toInt ≤ 8) (i_v2 : 0 ≤ v2.toInt ∧ v2.toInt ≤ 240) (i_v3 : 0 ≤ v3.toInt ∧ v3.toInt ≤ 240) (ia_f6 : (∀ j, 0 ≤ (f6 j).toInt ∧ (f6 j).toInt ≤ 255)) (sz : Nat) : Met l yX6_readLetter q_X6_readLetter ({ frames := 4, cells := 0, slots := 0, locals := 91 }) (va_Pc [.ref h0, .ref (adK 1), .int v7] (fun U => U.heap.size = sz ∧ va_P (dC, dI) vwCl (wd_1b33869b h0 h1 r0 r1 v0 v1 h1 h2 v2 v3 v4 v5 h2 g0 f6) U.heap ∧ va_K (dC, dI) vwCl [(g0, .int)] U ∧ va_D (fun _ => True) (wd_1b33869b h0 h1 r0 r1 v0 v1 h1 h2 v2 v3 v4 v5 h2 g0 f6) ∧ va_Z "java/lang/String" "COMPACT_STRINGS" "Z" (.int 1) (va_A (wd_1b33869b h0 h1 r0 r1 v0 v1 h1 h2 v2 v3 v4 v5 h2 g0 f6) sz) U U.heap ∧ vk_S 3 pv_len3 pv_byt3 adK adV (va_A (wd_1b33869b h0 h1 r0 r1 v0 v1 h1 h2 v2 v3 v4 v5 h2 g0 f6) sz) U U.heap)) (va_Qi (fun (r : Int32) (r9 : Int32) => r9 = r) (fun (r : Int32) (t : State) => (∃ (o_h1_2 : Int32) (o_h1_3 : Int32), 0 ≤ o_h1_2.toInt ∧ o_h1_2.toInt ≤ 240 ∧ 0 ≤ o_h1_3.toInt ∧ o_h1_3.toInt ≤ 240 ∧ (-1 ≤ r.toInt) ∧ (r.toInt ≤ -1) ∧ (o_h1_2.toInt = (pg_s f6 v2.toInt v3.toInt)) ∧ (o_h1_3.toInt = o_h1_2.toInt) ∧ ((pg_it false (pg_ch f6 v2.toInt (pg_s f6 v2.toInt v3.toInt))) = -1 ∨ pg_hb v7 (pg_it false (pg_ch f6 v2.toInt (pg_s f6 v2.toInt v3.toInt))) = true) ∧ va_P (dC, dI) vwCl (wd_1b33869b h0 h1 r0 r1 v0 v1 h1 h2 v2 o_h1_2 o_h1_3 v5 h2 g0 f6) t.heap ∧ va_K (dC, dI) vwCl [] t ∧ va_D (va_A (wd_1b33869b h0 h1 r0 r1 v0 v1 h1 h2 v2 v3 v4 v5 h2 g0 f6) sz) (wd_1b33869b h0 h1 r0 r1 v0 v1 h1 h2 v2 o_h1_2 o_h1_3 v5 h2 g0 f6)) ∨ (∃ (o_h1_2 : Int32), 1 ≤ o_h1_2.toInt ∧ o_h1_2.toInt ≤ 240 ∧ (0 ≤ r.toInt) ∧ (r.toInt ≤ 4) ∧ (o_h1_2.toInt = (pg_s f6 v2.toInt v3.toInt) + 1) ∧ (r = pg_it false (pg_ch f6 v2.toInt (pg_s f6 v2.toInt v3.toInt))) ∧ (¬ r = -1) ∧ (pg_hb v7 r = false) ∧ (0 ≤ r.toInt) ∧ va_P (dC, dI) vwCl (wd_1b33869b h0 h1 r0 r1 v0 v1 h1 h2 v2 o_h1_2 v4 v5 h2 g0 f6) t.heap ∧ va_K (dC, dI) vwCl [] t ∧ va_D (va_A (wd_1b33869b h0 h1 r0 r1 v0 v1 h1 h2 v2 v3 v4 v5 h2 g0 f6) sz) (wd_1b33869b h0 h1 r0 r1 v0 v1 h1 h2 v2 o_h1_2 v4 v5 h2 g0 f6))) (va_A (wd_1b33869b h0 h1 r0 r1 v0 v1 h1 h2 v2 v3 v4 v5 h2 g0 f6) sz)) 0 0 (va_A (wd_1b33869b h0 h1 r0 r1 v0 v1 h1 h2 v2 v3 v4 v5 h2 g0 f6) sz) := by
  refine Met.ofW (cc := cX6_readLetter) (maxL := 4) (ret := (some .int)) (by decide) rfl ?_
  intro p e s m args below meth c s₁ B hml hv
  obtain ⟨i_v0a, i_v0b⟩ := i_v0
  obtain ⟨i_v1a, i_v1b⟩ := i_v1
  obtain ⟨i_v2a, i_v2b⟩ := i_v2
  obtain ⟨i_v3a, i_v3b⟩ := i_v3
  obtain ⟨rfl, hsz, hP, hK, hD0, h_st_CS, h_st_S⟩ := hv
  have hx := B.exec
  have hb := B.bytes
  have hr := B.returns
  have hts := atoms_spec (ws := q_X6_readLetter) B.pre
  have hown : s.vm.findClass RX6 = some m.cls := findClass_of_methodNamed B.named
  have hlocks := B.notSynchronized
  subst hsz
  have hD := hD0.self (sz := s.heap.size)
  generalize hAe : va_A (wd_1b33869b h0 h1 r0 r1 v0 v1 h1 h2 v2 v3 v4 v5 h2 g0 f6) s.heap.size = A at hD h_st_CS h_st_S ⊢
  have hA : ∀ q : Nat, s.heap.size ≤ q → A q := fun q h => by rw [← hAe]; exact Or.inr h
  have hS : va_S A s.heap s.heap [] := va_S.rf
  generalize hQ : (MQ below _ _ s 0 0 A) = Q
  have hl := lv_entry ([.ref h0, .ref (adK 1), .int v7]) (n := 4) (Nat.le_of_ble_eq_true rfl)
  rw [lg_entry_eq]
  generalize (lg_sl ([.ref h0, .ref (adK 1), .int v7]) ++ List.replicate (4 - (lg_sl ([.ref h0, .ref (adK 1), .int v7])).length) Slot.unset).toArray = ls at hl ⊢
  have hl : lv_has ls 4 [(0, .ref h0), (1, .ref (adK 1)), (2, .int v7)] := hl
  obtain ⟨H, hH⟩ : ∃ H : Heap, H = s.heap := ⟨_, rfl⟩
  obtain ⟨locs, hlocs⟩ : ∃ y : List Loc, y = [] := ⟨_, rfl⟩
  have hS : va_S A s.heap H locs := by rw [hH, hlocs]; exact va_S.rf
  have hP : va_P (dC, dI) vwCl (wd_1b33869b h0 h1 r0 r1 v0 v1 h1 h2 v2 v3 v4 v5 h2 g0 f6) H := by rw [hH]; exact hP
  rw [← hH, ← hlocs]
  refine lv_aload_n hx hb dX6_readLetter_0 rfl (lv_at hl 1 rfl) ?_
  refine lv_aload_n hx hb dX6_readLetter_1 rfl (lv_at hl 0 rfl) ?_
  refine va_get (D := (dC, dI)) (ci := 6) (v := .ref h1) (C := RX6) (T := TX6) (N := 5) hx hb hts (fun _ h => List.mem_cons_of_mem _ (List.mem_append_left _ (List.mem_append_right _ h))) hown hK hP 0 rfl rfl 0 (by decide) (hts (.fieldLink RX6 26 "LeftArguments$OfficeReader" "tape" "LLeftArguments$Tape;") (List.mem_cons_of_mem _ (List.mem_append_left _ (List.mem_append_left _ (List.mem_of_getElem? (i := 0) rfl))))) (fun _ h9 => h9) rfl dX6_readLetter_2 ?_
  have hPc := hP.sub (ws' := (wd_82cdd16b h1 h2 v2 v3 v4 v5 h2 g0 f6)) [1, 2] rfl
  have hDc := hD.sub (ws' := (wd_82cdd16b h1 h2 v2 v3 v4 v5 h2 g0 f6)) [1, 2] (by decide) rfl
  have hKc := hK.sub (tys' := [(g0, .int)]) [0] rfl
  have hFc := va_free (wc := (wd_82cdd16b h1 h2 v2 v3 v4 v5 h2 g0 f6)) hD hS hA [1, 2] rfl
  refine va_calli (va_runV (As := []) (rest := [.ref (adK 1)]) ⟨hx, hb, hml, hown, hts⟩ (k_X10_next l dC dI h1 h2 v2 v3 v4 v5 g0 f6 ⟨i_v2a, i_v2b⟩ ⟨i_v3a, i_v3b⟩ ia_f6 H.size) (cwV 0 hts g_X6_readLetter_0 rfl rfl rfl (by decide +kernel) ⟨Nat.le_of_ble_eq_true rfl, Nat.le_of_ble_eq_true rfl⟩) (pv_PV10 hPc hKc hDc (q0 := 0) rfl) rfl rfl hl.1 rfl (lv_room (Nat.le_of_ble_eq_true rfl)) dX6_readLetter_5 ⟨Nat.le_of_ble_eq_true rfl, Nat.le_of_ble_eq_true rfl⟩) hS (fun q _ h => hFc q h) hFc (fun ra1 u t H1 locs ht hvm hwra1 hB hz1 hk1 hS => ?_)
  try rw [hwra1] at hB
  rcases hB with hB | hB
  · skip
    obtain ⟨x2, oa_x2, ob_x2, pt0_ra1, pt1_ra1, pt2_ra1, pt3_ra1, pt4_ra1, pt5_ra1, pt6_ra1, hP1, hK1, hD1⟩ := hB
    rw [ht] at hP1
    obtain ⟨hP2, hD2⟩ := va_join (wr := (wd_ca2b0013 h0 h1 r0 r1 v0 v1)) (w1 := (wd_82cdd16b h1 h2 v2 x2 v4 v5 h2 g0 f6)) hP hD [1, 2] [0] rfl rfl (by decide) (by decide) hk1 hFc hP1 hD1
    clear hP hD hPc hDc hKc hFc hP1 hK1 hD1 hk1 hz1
    generalize H1 = H at hP2 hS ⊢
    have hP : va_P (dC, dI) vwCl (wd_1b33869b h0 h1 r0 r1 v0 v1 h1 h2 v2 x2 v4 v5 h2 g0 f6) H := hP2
    have hD : va_D A (wd_1b33869b h0 h1 r0 r1 v0 v1 h1 h2 v2 x2 v4 v5 h2 g0 f6) := hD2
    clear hP2 hD2
    obtain rfl : ra1 = ((-1) : Int32) := pv_cs (by decide) pt0_ra1 pt1_ra1
    refine lv_i2c (v := 65535) hx hb dX6_readLetter_8 (by decide) ?_
    have hPc := hP.sub (ws' := []) [] rfl
    have hDc := hD.sub (ws' := []) [] (by decide) rfl
    have hKc := hK.sub (tys' := []) [] rfl
    have hFc := va_free (wc := []) hD hS hA [] rfl
    refine va_calli (va_runV (As := [.int 65535]) (rest := []) ⟨hx, hb, hml, hown, hts⟩ (k_J0_indexOf_0f7a4_1 l dC dI adK adV  H.size) (cwV 1 hts g_X6_readLetter_1 rfl rfl rfl (by decide +kernel) ⟨Nat.le_of_ble_eq_true rfl, Nat.le_of_ble_eq_true rfl⟩) ⟨fun a U g mk q => by obtain ⟨q0, q1, qP, qK, qD, n0, n1⟩ := q; exact ⟨q0, q1, qP, va_K.moved (u := U) (U := U.calling g mk a) (Vm.Alike.refl U.vm) qK, qD, va_Z.moved (Vm.Alike.refl _) n0, vk_S.moved (Vm.Alike.refl _) n1⟩, vk_recv h_st_S (by decide : 1 < 3) hS, fun U hU hW => ⟨rfl, by rw [hU], by rw [hU]; exact hPc, va_K.moved hW.alike hKc, hDc.weaken (fun _ _ _ _ => trivial), (by rw [hU]; exact (va_Z.moved hW.alike (va_Z.kept h_st_CS hS.2.1)).narrow hFc), (by rw [hU]; exact (vk_S.moved hW.alike (vk_S.kept h_st_S hS.2.1)).narrow hFc)⟩⟩ rfl rfl hl.1 rfl (lv_room (Nat.le_of_ble_eq_true rfl)) dX6_readLetter_9 ⟨Nat.le_of_ble_eq_true rfl, Nat.le_of_ble_eq_true rfl⟩) hS (fun q _ h => hFc q h) hFc (fun ra3 u t H1 locs ht hvm hwra3 hB hz1 hk1 hS => ?_)
    try rw [hwra3] at hB
    obtain ⟨pt0_ra3, pt1_ra3, pt2_ra3, hP1, hK1, hD1⟩ := hB
    rw [ht] at hP1
    obtain ⟨hP2, hD2⟩ := va_join (wr := (wd_1b33869b h0 h1 r0 r1 v0 v1 h1 h2 v2 x2 v4 v5 h2 g0 f6)) (w1 := []) hP hD [] [0, 1, 2] rfl rfl (by decide) (by decide) hk1 hFc hP1 hD1
    clear hP hD hPc hDc hKc hFc hP1 hK1 hD1 hk1 hz1
    generalize H1 = H at hP2 hS ⊢
    have hP : va_P (dC, dI) vwCl (wd_1b33869b h0 h1 r0 r1 v0 v1 h1 h2 v2 x2 v4 v5 h2 g0 f6) H := hP2
    have hD : va_D A (wd_1b33869b h0 h1 r0 r1 v0 v1 h1 h2 v2 x2 v4 v5 h2 g0 f6) := hD2
    clear hP2 hD2
    obtain rfl : ra3 = ((-1) : Int32) := pv_cs (by decide) pt0_ra3 pt1_ra3
    refine lv_istore_n (lv' := [(3, .int (-1)), (0, .ref h0), (1, .ref (adK 1)), (2, .int v7)]) hx hb dX6_readLetter_12 rfl hl (by decide) rfl (fun ls hl => ?_)
    refine lv_iload_n hx hb dX6_readLetter_13 rfl (lv_at hl 0 rfl) ?_
    refine lv_if_lt (tgt := 26) hx hb dX6_readLetter_14 (by decide) (fun _ => ?_) (fun c => absurd (by decide) c)
    refine lv_aload_n hx hb dX6_readLetter_26 rfl (lv_at hl 1 rfl) ?_
    refine va_get (D := (dC, dI)) (ci := 6) (v := .ref h1) (C := RX6) (T := TX6) (N := 5) hx hb hts (fun _ h => List.mem_cons_of_mem _ (List.mem_append_left _ (List.mem_append_right _ h))) hown hK hP 0 rfl rfl 0 (by decide) (hts (.fieldLink RX6 26 "LeftArguments$OfficeReader" "tape" "LLeftArguments$Tape;") (List.mem_cons_of_mem _ (List.mem_append_left _ (List.mem_append_left _ (List.mem_of_getElem? (i := 0) rfl))))) (fun _ h9 => h9) rfl dX6_readLetter_27 ?_
    have hPc := hP.sub (ws' := (wd_09b0abee h1 h2 v2 x2 v4 v5)) [1] rfl
    have hDc := hD.sub (ws' := (wd_09b0abee h1 h2 v2 x2 v4 v5)) [1] (by decide) rfl
    have hKc := hK.sub (tys' := []) [] rfl
    have hFc := va_free (wc := (wd_09b0abee h1 h2 v2 x2 v4 v5)) hD hS hA [1] rfl
    refine va_calli (va_runV (As := []) (rest := []) ⟨hx, hb, hml, hown, hts⟩ (k_X10_wrongHere l dC dI h1 h2 v2 x2 v4 v5 ⟨i_v2a, i_v2b⟩ ⟨oa_x2, ob_x2⟩ H.size) (cwV 0 hts g_X6_readLetter_2 rfl rfl rfl (by decide +kernel) ⟨Nat.le_of_ble_eq_true rfl, Nat.le_of_ble_eq_true rfl⟩) (pv_PV10 hPc hKc hDc (q0 := 0) rfl) rfl rfl hl.1 rfl (lv_room (Nat.le_of_ble_eq_true rfl)) dX6_readLetter_30 ⟨Nat.le_of_ble_eq_true rfl, Nat.le_of_ble_eq_true rfl⟩) hS (fun q _ h => hFc q h) hFc (fun ra4 u t H1 locs ht hvm hwra4 hB hz1 hk1 hS => ?_)
    try rw [hwra4] at hB
    obtain ⟨x5, oa_x5, ob_x5, pt0_ra4, pt1_ra4, pt2_ra4, hP1, hK1, hD1⟩ := hB
    rw [ht] at hP1
    obtain ⟨hP2, hD2⟩ := va_join (wr := (wd_5ddcf59f h0 h1 r0 r1 v0 v1 h2 g0 f6)) (w1 := (wd_09b0abee h1 h2 v2 x2 x5 v5)) hP hD [1] [0, 2] rfl rfl (by decide) (by decide) hk1 hFc hP1 hD1
    clear hP hD hPc hDc hKc hFc hP1 hK1 hD1 hk1 hz1
    generalize H1 = H at hP2 hS ⊢
    have hP := hP2.sub (ws' := (wd_1b33869b h0 h1 r0 r1 v0 v1 h1 h2 v2 x2 x5 v5 h2 g0 f6)) [0, 2, 1] rfl
    have hD := hD2.sub (ws' := (wd_1b33869b h0 h1 r0 r1 v0 v1 h1 h2 v2 x2 x5 v5 h2 g0 f6)) [0, 2, 1] (by decide) rfl
    clear hP2 hD2
    obtain rfl : ra4 = (0 : Int32) := pv_cs (by decide) pt0_ra4 pt1_ra4
    refine lv_pop hx hb dX6_readLetter_33 rfl ?_
    refine lv_iconst (v := (-1)) hx hb dX6_readLetter_34 (by decide) ?_
    subst hQ
    have hP9 := hP.sub (ws' := (wd_1b33869b h0 h1 r0 r1 v0 v1 h1 h2 v2 x2 x5 v5 h2 g0 f6)) [0, 1, 2] rfl
    have hD9 := hD.sub (ws' := (wd_1b33869b h0 h1 r0 r1 v0 v1 h1 h2 v2 x2 x5 v5 h2 g0 f6)) [0, 1, 2] (by decide) rfl
    have hK9 := hK.sub (tys' := []) [] rfl
    exact W.iret (v := (-1)) hx hb hr (fun t ht hW => ⟨⟨(-1), (-1), rfl, rfl, Or.inl ⟨x2, x5, oa_x2, ob_x2, oa_x5, ob_x5, by first | omega | decide, by first | omega | decide, by omega, by omega, by first | (apply pg_rl0 <;> first | assumption | omega) | (apply pg_rl1 <;> first | assumption | omega) | (apply pg_rl2 <;> first | assumption | omega), by rw [ht]; exact hP9, va_K.moved hW.alike hK9, hD9⟩⟩, hS.F ht⟩) hS.2.2 dX6_readLetter_35
  · skip
    obtain ⟨x6, oa_x6, ob_x6, pt0_ra1, pt1_ra1, pt2_ra1, pt3_ra1, pt4_ra1, pt5_ra1, pt6_ra1, hP1, hK1, hD1⟩ := hB
    rw [ht] at hP1
    obtain ⟨hP2, hD2⟩ := va_join (wr := (wd_ca2b0013 h0 h1 r0 r1 v0 v1)) (w1 := (wd_82cdd16b h1 h2 v2 x6 v4 v5 h2 g0 f6)) hP hD [1, 2] [0] rfl rfl (by decide) (by decide) hk1 hFc hP1 hD1
    clear hP hD hPc hDc hKc hFc hP1 hK1 hD1 hk1 hz1
    generalize H1 = H at hP2 hS ⊢
    have hP : va_P (dC, dI) vwCl (wd_1b33869b h0 h1 r0 r1 v0 v1 h1 h2 v2 x6 v4 v5 h2 g0 f6) H := hP2
    have hD : va_D A (wd_1b33869b h0 h1 r0 r1 v0 v1 h1 h2 v2 x6 v4 v5 h2 g0 f6) := hD2
    clear hP2 hD2
    obtain ⟨t7, et7⟩ : ∃ z : Int32, z = ((ra1 : Int32).toUInt32 % 65536).toInt32 := ⟨_, rfl⟩
    refine lv_i2c (v := t7) hx hb dX6_readLetter_8 (by rw [et7]) ?_
    have hcct7 : t7.toInt = pg_ch f6 v2.toInt x6.toInt := pg_i2c et7 (by omega) (by omega) (by omega)
    have hPc := hP.sub (ws' := []) [] rfl
    have hDc := hD.sub (ws' := []) [] (by decide) rfl
    have hKc := hK.sub (tys' := []) [] rfl
    have hFc := va_free (wc := []) hD hS hA [] rfl
    refine va_calli (va_runV (As := [.int t7]) (rest := []) ⟨hx, hb, hml, hown, hts⟩ (k_J0_indexOf_0f7a4_2 l dC dI adK adV t7  H.size) (cwV 1 hts g_X6_readLetter_3 rfl rfl rfl (by decide +kernel) ⟨Nat.le_of_ble_eq_true rfl, Nat.le_of_ble_eq_true rfl⟩) ⟨fun a U g mk q => by obtain ⟨q0, q1, qP, qK, qD, n0, n1⟩ := q; exact ⟨q0, q1, qP, va_K.moved (u := U) (U := U.calling g mk a) (Vm.Alike.refl U.vm) qK, qD, va_Z.moved (Vm.Alike.refl _) n0, vk_S.moved (Vm.Alike.refl _) n1⟩, vk_recv h_st_S (by decide : 1 < 3) hS, fun U hU hW => ⟨rfl, by rw [hU], by rw [hU]; exact hPc, va_K.moved hW.alike hKc, hDc.weaken (fun _ _ _ _ => trivial), (by rw [hU]; exact (va_Z.moved hW.alike (va_Z.kept h_st_CS hS.2.1)).narrow hFc), (by rw [hU]; exact (vk_S.moved hW.alike (vk_S.kept h_st_S hS.2.1)).narrow hFc)⟩⟩ rfl rfl hl.1 rfl (lv_room (Nat.le_of_ble_eq_true rfl)) dX6_readLetter_9 ⟨Nat.le_of_ble_eq_true rfl, Nat.le_of_ble_eq_true rfl⟩) hS (fun q _ h => hFc q h) hFc (fun ra8 u t H1 locs ht hvm hwra8 hB hz1 hk1 hS => ?_)
    try rw [hwra8] at hB
    obtain ⟨pt0_ra8, pt1_ra8, pt2_ra8, hP1, hK1, hD1⟩ := hB
    rw [ht] at hP1
    obtain ⟨hP2, hD2⟩ := va_join (wr := (wd_1b33869b h0 h1 r0 r1 v0 v1 h1 h2 v2 x6 v4 v5 h2 g0 f6)) (w1 := []) hP hD [] [0, 1, 2] rfl rfl (by decide) (by decide) hk1 hFc hP1 hD1
    clear hP hD hPc hDc hKc hFc hP1 hK1 hD1 hk1 hz1
    generalize H1 = H at hP2 hS ⊢
    have hP : va_P (dC, dI) vwCl (wd_1b33869b h0 h1 r0 r1 v0 v1 h1 h2 v2 x6 v4 v5 h2 g0 f6) H := hP2
    have hD : va_D A (wd_1b33869b h0 h1 r0 r1 v0 v1 h1 h2 v2 x6 v4 v5 h2 g0 f6) := hD2
    clear hP2 hD2
    refine lv_istore_n (lv' := [(3, .int ra8), (0, .ref h0), (1, .ref (adK 1)), (2, .int v7)]) hx hb dX6_readLetter_12 rfl hl (by decide) rfl (fun ls hl => ?_)
    refine lv_iload_n hx hb dX6_readLetter_13 rfl (lv_at hl 0 rfl) ?_
    refine lv_if_lt (tgt := 26) hx hb dX6_readLetter_14 (by decide) (fun c9 => ?_) (fun c9 => ?_)
    · skip
      have fc9 : ra8.toInt < 0 := Int32.lt_iff_toInt_lt.mp c9
      refine lv_aload_n hx hb dX6_readLetter_26 rfl (lv_at hl 1 rfl) ?_
      refine va_get (D := (dC, dI)) (ci := 6) (v := .ref h1) (C := RX6) (T := TX6) (N := 5) hx hb hts (fun _ h => List.mem_cons_of_mem _ (List.mem_append_left _ (List.mem_append_right _ h))) hown hK hP 0 rfl rfl 0 (by decide) (hts (.fieldLink RX6 26 "LeftArguments$OfficeReader" "tape" "LLeftArguments$Tape;") (List.mem_cons_of_mem _ (List.mem_append_left _ (List.mem_append_left _ (List.mem_of_getElem? (i := 0) rfl))))) (fun _ h9 => h9) rfl dX6_readLetter_27 ?_
      have hPc := hP.sub (ws' := (wd_09b0abee h1 h2 v2 x6 v4 v5)) [1] rfl
      have hDc := hD.sub (ws' := (wd_09b0abee h1 h2 v2 x6 v4 v5)) [1] (by decide) rfl
      have hKc := hK.sub (tys' := []) [] rfl
      have hFc := va_free (wc := (wd_09b0abee h1 h2 v2 x6 v4 v5)) hD hS hA [1] rfl
      refine va_calli (va_runV (As := []) (rest := []) ⟨hx, hb, hml, hown, hts⟩ (k_X10_wrongHere l dC dI h1 h2 v2 x6 v4 v5 ⟨i_v2a, i_v2b⟩ ⟨oa_x6, by first | omega | decide⟩ H.size) (cwV 0 hts g_X6_readLetter_2 rfl rfl rfl (by decide +kernel) ⟨Nat.le_of_ble_eq_true rfl, Nat.le_of_ble_eq_true rfl⟩) (pv_PV10 hPc hKc hDc (q0 := 0) rfl) rfl rfl hl.1 rfl (lv_room (Nat.le_of_ble_eq_true rfl)) dX6_readLetter_30 ⟨Nat.le_of_ble_eq_true rfl, Nat.le_of_ble_eq_true rfl⟩) hS (fun q _ h => hFc q h) hFc (fun ra10 u t H1 locs ht hvm hwra10 hB hz1 hk1 hS => ?_)
      try rw [hwra10] at hB
      obtain ⟨x11, oa_x11, ob_x11, pt0_ra10, pt1_ra10, pt2_ra10, hP1, hK1, hD1⟩ := hB
      rw [ht] at hP1
      obtain ⟨hP2, hD2⟩ := va_join (wr := (wd_5ddcf59f h0 h1 r0 r1 v0 v1 h2 g0 f6)) (w1 := (wd_09b0abee h1 h2 v2 x6 x11 v5)) hP hD [1] [0, 2] rfl rfl (by decide) (by decide) hk1 hFc hP1 hD1
      clear hP hD hPc hDc hKc hFc hP1 hK1 hD1 hk1 hz1
      generalize H1 = H at hP2 hS ⊢
      have hP := hP2.sub (ws' := (wd_1b33869b h0 h1 r0 r1 v0 v1 h1 h2 v2 x6 x11 v5 h2 g0 f6)) [0, 2, 1] rfl
      have hD := hD2.sub (ws' := (wd_1b33869b h0 h1 r0 r1 v0 v1 h1 h2 v2 x6 x11 v5 h2 g0 f6)) [0, 2, 1] (by decide) rfl
      clear hP2 hD2
      obtain rfl : ra10 = (0 : Int32) := pv_cs (by decide) pt0_ra10 pt1_ra10
      refine lv_pop hx hb dX6_readLetter_33 rfl ?_
      refine lv_iconst (v := (-1)) hx hb dX6_readLetter_34 (by decide) ?_
      subst hQ
      have hP9 := hP.sub (ws' := (wd_1b33869b h0 h1 r0 r1 v0 v1 h1 h2 v2 x6 x11 v5 h2 g0 f6)) [0, 1, 2] rfl
      have hD9 := hD.sub (ws' := (wd_1b33869b h0 h1 r0 r1 v0 v1 h1 h2 v2 x6 x11 v5 h2 g0 f6)) [0, 1, 2] (by decide) rfl
      have hK9 := hK.sub (tys' := []) [] rfl
      exact W.iret (v := (-1)) hx hb hr (fun t ht hW => ⟨⟨(-1), (-1), rfl, rfl, Or.inl ⟨x6, x11, oa_x6, by first | omega | decide, oa_x11, ob_x11, by first | omega | decide, by first | omega | decide, by omega, by omega, by first | (apply pg_rl0 <;> first | assumption | omega) | (apply pg_rl1 <;> first | assumption | omega) | (apply pg_rl2 <;> first | assumption | omega), by rw [ht]; exact hP9, va_K.moved hW.alike hK9, hD9⟩⟩, hS.F ht⟩) hS.2.2 dX6_readLetter_35
    · skip
      have fc9 : ¬ (ra8.toInt < 0) := fun h9 => c9 (Int32.lt_iff_toInt_lt.mpr h9)
      refine lv_iload_n hx hb dX6_readLetter_17 rfl (lv_at hl 3 rfl) ?_
      refine lv_iload_n hx hb dX6_readLetter_18 rfl (lv_at hl 0 rfl) ?_
      refine lv_ishr hx hb dX6_readLetter_19 ?_
      refine lv_topi (fun t12 et12 => ?_)
      refine lv_iconst (v := 1) hx hb dX6_readLetter_20 (by decide) ?_
      refine lv_iand hx hb dX6_readLetter_21 ?_
      refine lv_topi (fun t13 et13 => ?_)
      have gt13 : 0 ≤ t13.toInt ∧ t13.toInt ≤ 1 := pv_andR et13 (by decide) (by decide)
      refine lv_iconst (v := 1) hx hb dX6_readLetter_22 (by decide) ?_
      refine lv_icmp_ne (tgt := 36) hx hb dX6_readLetter_23 (by decide) (fun c14 => ?_) (fun c14 => ?_)
      · skip
        have fc14 : ¬ (t13.toInt = 1) := fun h9 => c14 (Int32.toInt_inj.mp h9)
        refine lv_aload_n hx hb dX6_readLetter_36 rfl (lv_at hl 1 rfl) ?_
        refine va_get (D := (dC, dI)) (ci := 6) (v := .ref h1) (C := RX6) (T := TX6) (N := 5) hx hb hts (fun _ h => List.mem_cons_of_mem _ (List.mem_append_left _ (List.mem_append_right _ h))) hown hK hP 0 rfl rfl 0 (by decide) (hts (.fieldLink RX6 26 "LeftArguments$OfficeReader" "tape" "LLeftArguments$Tape;") (List.mem_cons_of_mem _ (List.mem_append_left _ (List.mem_append_left _ (List.mem_of_getElem? (i := 0) rfl))))) (fun _ h9 => h9) rfl dX6_readLetter_37 ?_
        have hPc := hP.sub (ws' := (wd_09b0abee h1 h2 v2 x6 v4 v5)) [1] rfl
        have hDc := hD.sub (ws' := (wd_09b0abee h1 h2 v2 x6 v4 v5)) [1] (by decide) rfl
        have hKc := hK.sub (tys' := []) [] rfl
        have hFc := va_free (wc := (wd_09b0abee h1 h2 v2 x6 v4 v5)) hD hS hA [1] rfl
        refine va_callv (va_runV (As := []) (rest := []) ⟨hx, hb, hml, hown, hts⟩ (k_X10_step l dC dI h1 h2 v2 x6 v4 v5 ⟨i_v2a, i_v2b⟩ ⟨oa_x6, ob_x6⟩ H.size) (cwV 0 hts g_X6_readLetter_5 rfl rfl rfl (by decide +kernel) ⟨Nat.le_of_ble_eq_true rfl, Nat.le_of_ble_eq_true rfl⟩) (pv_PV10 hPc hKc hDc (q0 := 0) rfl) rfl rfl hl.1 rfl (lv_room (Nat.le_of_ble_eq_true rfl)) dX6_readLetter_40 ⟨Nat.le_of_ble_eq_true rfl, Nat.le_of_ble_eq_true rfl⟩) hS (fun q _ h => hFc q h) hFc (fun u t H1 locs ht hvm hwra15 hB hz1 hk1 hS => ?_)
        obtain ⟨x16, oa_x16, ob_x16, pt0_ra15, hP1, hK1, hD1⟩ := hB
        rw [ht] at hP1
        obtain ⟨hP2, hD2⟩ := va_join (wr := (wd_5ddcf59f h0 h1 r0 r1 v0 v1 h2 g0 f6)) (w1 := (wd_09b0abee h1 h2 v2 x16 v4 v5)) hP hD [1] [0, 2] rfl rfl (by decide) (by decide) hk1 hFc hP1 hD1
        clear hP hD hPc hDc hKc hFc hP1 hK1 hD1 hk1 hz1
        generalize H1 = H at hP2 hS ⊢
        have hP := hP2.sub (ws' := (wd_1b33869b h0 h1 r0 r1 v0 v1 h1 h2 v2 x16 v4 v5 h2 g0 f6)) [0, 2, 1] rfl
        have hD := hD2.sub (ws' := (wd_1b33869b h0 h1 r0 r1 v0 v1 h1 h2 v2 x16 v4 v5 h2 g0 f6)) [0, 2, 1] (by decide) rfl
        clear hP2 hD2
        refine lv_iload_n hx hb dX6_readLetter_43 rfl (lv_at hl 0 rfl) ?_
        subst hQ
        have hP9 := hP.sub (ws' := (wd_1b33869b h0 h1 r0 r1 v0 v1 h1 h2 v2 x16 v4 v5 h2 g0 f6)) [0, 1, 2] rfl
        have hD9 := hD.sub (ws' := (wd_1b33869b h0 h1 r0 r1 v0 v1 h1 h2 v2 x16 v4 v5 h2 g0 f6)) [0, 1, 2] (by decide) rfl
        have hK9 := hK.sub (tys' := []) [] rfl
        exact W.iret (v := ra8) hx hb hr (fun t ht hW => ⟨⟨ra8, ra8, rfl, rfl, Or.inr (⟨x16, oa_x16, ob_x16, by first | omega | decide, by first | omega | decide, by omega, by apply pg_rl3 <;> first | assumption | omega, by intro h9; have h8 := congrArg Int32.toInt h9; have h7 : ((-1 : Int32)).toInt = -1 := (by decide); omega, by apply pg_hb0 <;> first | assumption | omega, by omega, by rw [ht]; exact hP9, va_K.moved hW.alike hK9, hD9⟩)⟩, hS.F ht⟩) hS.2.2 dX6_readLetter_44
      · skip
        have fc14 : t13.toInt = 1 := congrArg Int32.toInt c14
        refine lv_aload_n hx hb dX6_readLetter_26 rfl (lv_at hl 1 rfl) ?_
        refine va_get (D := (dC, dI)) (ci := 6) (v := .ref h1) (C := RX6) (T := TX6) (N := 5) hx hb hts (fun _ h => List.mem_cons_of_mem _ (List.mem_append_left _ (List.mem_append_right _ h))) hown hK hP 0 rfl rfl 0 (by decide) (hts (.fieldLink RX6 26 "LeftArguments$OfficeReader" "tape" "LLeftArguments$Tape;") (List.mem_cons_of_mem _ (List.mem_append_left _ (List.mem_append_left _ (List.mem_of_getElem? (i := 0) rfl))))) (fun _ h9 => h9) rfl dX6_readLetter_27 ?_
        have hPc := hP.sub (ws' := (wd_09b0abee h1 h2 v2 x6 v4 v5)) [1] rfl
        have hDc := hD.sub (ws' := (wd_09b0abee h1 h2 v2 x6 v4 v5)) [1] (by decide) rfl
        have hKc := hK.sub (tys' := []) [] rfl
        have hFc := va_free (wc := (wd_09b0abee h1 h2 v2 x6 v4 v5)) hD hS hA [1] rfl
        refine va_calli (va_runV (As := []) (rest := []) ⟨hx, hb, hml, hown, hts⟩ (k_X10_wrongHere l dC dI h1 h2 v2 x6 v4 v5 ⟨i_v2a, i_v2b⟩ ⟨oa_x6, by first | omega | decide⟩ H.size) (cwV 0 hts g_X6_readLetter_2 rfl rfl rfl (by decide +kernel) ⟨Nat.le_of_ble_eq_true rfl, Nat.le_of_ble_eq_true rfl⟩) (pv_PV10 hPc hKc hDc (q0 := 0) rfl) rfl rfl hl.1 rfl (lv_room (Nat.le_of_ble_eq_true rfl)) dX6_readLetter_30 ⟨Nat.le_of_ble_eq_true rfl, Nat.le_of_ble_eq_true rfl⟩) hS (fun q _ h => hFc q h) hFc (fun ra17 u t H1 locs ht hvm hwra17 hB hz1 hk1 hS => ?_)
        try rw [hwra17] at hB
        obtain ⟨x18, oa_x18, ob_x18, pt0_ra17, pt1_ra17, pt2_ra17, hP1, hK1, hD1⟩ := hB
        rw [ht] at hP1
        obtain ⟨hP2, hD2⟩ := va_join (wr := (wd_5ddcf59f h0 h1 r0 r1 v0 v1 h2 g0 f6)) (w1 := (wd_09b0abee h1 h2 v2 x6 x18 v5)) hP hD [1] [0, 2] rfl rfl (by decide) (by decide) hk1 hFc hP1 hD1
        clear hP hD hPc hDc hKc hFc hP1 hK1 hD1 hk1 hz1
        generalize H1 = H at hP2 hS ⊢
        have hP := hP2.sub (ws' := (wd_1b33869b h0 h1 r0 r1 v0 v1 h1 h2 v2 x6 x18 v5 h2 g0 f6)) [0, 2, 1] rfl
        have hD := hD2.sub (ws' := (wd_1b33869b h0 h1 r0 r1 v0 v1 h1 h2 v2 x6 x18 v5 h2 g0 f6)) [0, 2, 1] (by decide) rfl
        clear hP2 hD2
        obtain rfl : ra17 = (0 : Int32) := pv_cs (by decide) pt0_ra17 pt1_ra17
        refine lv_pop hx hb dX6_readLetter_33 rfl ?_
        refine lv_iconst (v := (-1)) hx hb dX6_readLetter_34 (by decide) ?_
        subst hQ
        have hP9 := hP.sub (ws' := (wd_1b33869b h0 h1 r0 r1 v0 v1 h1 h2 v2 x6 x18 v5 h2 g0 f6)) [0, 1, 2] rfl
        have hD9 := hD.sub (ws' := (wd_1b33869b h0 h1 r0 r1 v0 v1 h1 h2 v2 x6 x18 v5 h2 g0 f6)) [0, 1, 2] (by decide) rfl
        have hK9 := hK.sub (tys' := []) [] rfl
        exact W.iret (v := (-1)) hx hb hr (fun t ht hW => ⟨⟨(-1), (-1), rfl, rfl, Or.inl ⟨x6, x18, oa_x6, by first | omega | decide, oa_x18, ob_x18, by first | omega | decide, by first | omega | decide, by omega, by omega, by first | (apply pg_rl0 <;> first | assumption | omega) | (apply pg_rl1 <;> first | assumption | omega) | (apply pg_rl2 <;> first | assumption | omega), by rw [ht]; exact hP9, va_K.moved hW.alike hK9, hD9⟩⟩, hS.F ht⟩) hS.2.2 dX6_readLetter_35
def q_X10_takeNumber_1 : List Cond := .code yX10_takeNumber cX10_takeNumber 3 (some .boolean) :: (([.code yX10_next cX10_next 1 (some .int), .fieldLink RX10 19 "LeftArguments$Tape" "at" "I", .fieldLink RX10 15 "LeftArguments$Tape" "used" "I", .fieldLink RX10 9 "LeftArguments$Tape" "bytes" "[I", .initialized RX10, .instanceMethod yX10_next, .selects RX10 yX10_next yX10_next, .methodLink RX10 37 yX10_next, .code yX10_isDigit cX10_isDigit 1 (some .boolean), .static yX10_isDigit, .methodLink RX10 45 yX10_isDigit, .code yX10_wrongHere cX10_wrongHere 1 (some .boolean), .fieldLink RX10 22 "LeftArguments$Tape" "wrongAt" "I", .instanceMethod yX10_wrongHere, .selects RX10 yX10_wrongHere yX10_wrongHere, .methodLink RX10 41 yX10_wrongHere, .fieldLink RX10 25 "LeftArguments$Tape" "number" "I", .code yX10_sign cX10_sign 1 (some .int), .instanceMethod yX10_sign, .selects RX10 yX10_sign yX10_sign, .methodLink RX10 49 yX10_sign] : List Cond) ++ wsX100)
set_option maxRecDepth 20000 in
theorem g_X10_takeNumber_1_0 : GoodIn q_X10_takeNumber_1 (wsV RX10 37 RX10 yX10_next q_X10_next) := goodIn_app (goodIn_r _ [8, 6, 7, 5] rfl (by decide +kernel)) (goodIn_ca (goodIn_r (.code yX10_next cX10_next 1 (some .int) :: [.fieldLink RX10 19 "LeftArguments$Tape" "at" "I", .fieldLink RX10 15 "LeftArguments$Tape" "used" "I", .fieldLink RX10 9 "LeftArguments$Tape" "bytes" "[I"]) [1, 2, 3, 4] rfl (by decide +kernel)) (goodIn_sub (fun _ h => List.mem_cons_of_mem _ (List.mem_append_right _ h)) gwX10))
set_option maxRecDepth 20000 in
theorem g_X10_takeNumber_1_1 : GoodIn q_X10_takeNumber_1 (va_wsS RX10 45 yX10_isDigit q_X10_isDigit) := goodIn_app (goodIn_r _ [11, 10, 5] rfl (by decide +kernel)) (goodIn_r (.code yX10_isDigit cX10_isDigit 1 (some .boolean) :: []) [9] rfl (by decide +kernel))
set_option maxRecDepth 20000 in
theorem g_X10_takeNumber_1_2 : GoodIn q_X10_takeNumber_1 (wsV RX10 41 RX10 yX10_wrongHere q_X10_wrongHere) := goodIn_app (goodIn_r _ [16, 14, 15, 5] rfl (by decide +kernel)) (goodIn_ca (goodIn_r (.code yX10_wrongHere cX10_wrongHere 1 (some .boolean) :: [.fieldLink RX10 19 "LeftArguments$Tape" "at" "I", .fieldLink RX10 22 "LeftArguments$Tape" "wrongAt" "I"]) [12, 2, 13] rfl (by decide +kernel)) (goodIn_sub (fun _ h => List.mem_cons_of_mem _ (List.mem_append_right _ h)) gwX10))
set_option maxRecDepth 20000 in
theorem g_X10_takeNumber_1_4 : GoodIn q_X10_takeNumber_1 (wsV RX10 49 RX10 yX10_sign q_X10_sign) := goodIn_app (goodIn_r _ [21, 19, 20, 5] rfl (by decide +kernel)) (goodIn_ca (goodIn_r (.code yX10_sign cX10_sign 1 (some .int) :: [.fieldLink RX10 19 "LeftArguments$Tape" "at" "I", .fieldLink RX10 15 "LeftArguments$Tape" "used" "I", .fieldLink RX10 9 "LeftArguments$Tape" "bytes" "[I"]) [18, 2, 3, 4] rfl (by decide +kernel)) (goodIn_sub (fun _ h => List.mem_cons_of_mem _ (List.mem_append_right _ h)) gwX10))
set_option maxHeartbeats 4000000 in
set_option maxRecDepth 100000 in
theorem k_X10_takeNumber_1 (l : Launch) (dC : Nat → ClassId) (dI : Nat → Nat → Nat) (h0 : Nat) (h1 : Nat) (v0 : Int32) (v1 : Int32) (v2 : Int32) (v3 : Int32) (g0 : ClassId) (f4 : Nat → Int32) (i_v0 : 0 ≤ v0.toInt ∧ v0.toInt ≤ 240) (i_v1 : 0 ≤ v1.toInt ∧ v1.toInt ≤ 240) (ia_f4 : (∀ j, 0 ≤ (f4 j).toInt ∧ (f4 j).toInt ≤ 255)) (sz : Nat) : Met l yX10_takeNumber q_X10_takeNumber_1 ({ frames := 1, cells := 0, slots := 0, locals := 20 }) (va_Pc [.ref h0, .int 2] (fun U => U.heap.size = sz ∧ va_P (dC, dI) vwCl (wd_82cdd16b h0 h1 v0 v1 v2 v3 h1 g0 f4) U.heap ∧ va_K (dC, dI) vwCl [(g0, .int)] U ∧ va_D (fun _ => True) (wd_82cdd16b h0 h1 v0 v1 v2 v3 h1 g0 f4))) (va_Qi (fun (r : Int32) (r9 : Int32) => r9 = r) (fun (r : Int32) (t : State) => (∃ (o_h0_2 : Int32) (o_h0_4 : Int32), 0 ≤ o_h0_2.toInt ∧ o_h0_2.toInt ≤ 240 ∧ -528 ≤ o_h0_4.toInt ∧ o_h0_4.toInt ≤ 2277 ∧ (1 ≤ r.toInt) ∧ (r.toInt ≤ 1) ∧ (v1.toInt ≤ o_h0_2.toInt) ∧ (pg_tn f4 v0.toInt v1.toInt = ((true, o_h0_2.toInt), o_h0_4.toInt)) ∧ (v1.toInt < o_h0_2.toInt) ∧ va_P (dC, dI) vwCl (wd_82cdd16b h0 h1 v0 o_h0_2 v2 o_h0_4 h1 g0 f4) t.heap ∧ va_K (dC, dI) vwCl [] t ∧ va_D (va_A (wd_82cdd16b h0 h1 v0 v1 v2 v3 h1 g0 f4) sz) (wd_82cdd16b h0 h1 v0 o_h0_2 v2 o_h0_4 h1 g0 f4)) ∨ (∃ (o_h0_2 : Int32) (o_h0_3 : Int32) (o_h0_4 : Int32), 0 ≤ o_h0_2.toInt ∧ o_h0_2.toInt ≤ 240 ∧ 0 ≤ o_h0_3.toInt ∧ o_h0_3.toInt ≤ 240 ∧ (0 ≤ r.toInt) ∧ (r.toInt ≤ 0) ∧ (v1.toInt ≤ o_h0_2.toInt) ∧ ((pg_tn f4 v0.toInt v1.toInt).1 = (false, o_h0_3.toInt)) ∧ va_P (dC, dI) vwCl (wd_82cdd16b h0 h1 v0 o_h0_2 o_h0_3 o_h0_4 h1 g0 f4) t.heap ∧ va_K (dC, dI) vwCl [] t ∧ va_D (va_A (wd_82cdd16b h0 h1 v0 v1 v2 v3 h1 g0 f4) sz) (wd_82cdd16b h0 h1 v0 o_h0_2 o_h0_3 o_h0_4 h1 g0 f4))) (va_A (wd_82cdd16b h0 h1 v0 v1 v2 v3 h1 g0 f4) sz)) 0 0 (va_A (wd_82cdd16b h0 h1 v0 v1 v2 v3 h1 g0 f4) sz) := by
  refine Met.ofW (cc := cX10_takeNumber) (maxL := 3) (ret := (some .boolean)) (by decide) rfl ?_
  intro p e s m args below meth c s₁ B hml hv
  obtain ⟨i_v0a, i_v0b⟩ := i_v0
  obtain ⟨i_v1a, i_v1b⟩ := i_v1
  obtain ⟨rfl, hsz, hP, hK, hD0⟩ := hv
  have hx := B.exec
  have hb := B.bytes
  have hr := B.returns
  have hts := atoms_spec (ws := q_X10_takeNumber_1) B.pre
  have hown : s.vm.findClass RX10 = some m.cls := findClass_of_methodNamed B.named
  have hlocks := B.notSynchronized
  subst hsz
  have hD := hD0.self (sz := s.heap.size)
  generalize hAe : va_A (wd_82cdd16b h0 h1 v0 v1 v2 v3 h1 g0 f4) s.heap.size = A at hD ⊢
  have hA : ∀ q : Nat, s.heap.size ≤ q → A q := fun q h => by rw [← hAe]; exact Or.inr h
  have hS : va_S A s.heap s.heap [] := va_S.rf
  generalize hQ : (MQ below _ _ s 0 0 A) = Q
  have hl := lv_entry ([.ref h0, .int 2]) (n := 3) (Nat.le_of_ble_eq_true rfl)
  rw [lg_entry_eq]
  generalize (lg_sl ([.ref h0, .int 2]) ++ List.replicate (3 - (lg_sl ([.ref h0, .int 2])).length) Slot.unset).toArray = ls at hl ⊢
  have hl : lv_has ls 3 [(0, .ref h0), (1, .int 2)] := hl
  obtain ⟨H, hH⟩ : ∃ H : Heap, H = s.heap := ⟨_, rfl⟩
  obtain ⟨locs, hlocs⟩ : ∃ y : List Loc, y = [] := ⟨_, rfl⟩
  have hS : va_S A s.heap H locs := by rw [hH, hlocs]; exact va_S.rf
  have hP : va_P (dC, dI) vwCl (wd_82cdd16b h0 h1 v0 v1 v2 v3 h1 g0 f4) H := by rw [hH]; exact hP
  rw [← hH, ← hlocs]
  refine lv_aload_n hx hb dX10_takeNumber_0 rfl (lv_at hl 0 rfl) ?_
  have hPc := hP.sub (ws' := (wd_82cdd16b h0 h1 v0 v1 v2 v3 h1 g0 f4)) [0, 1] rfl
  have hDc := hD.sub (ws' := (wd_82cdd16b h0 h1 v0 v1 v2 v3 h1 g0 f4)) [0, 1] (by decide) rfl
  have hKc := hK.sub (tys' := [(g0, .int)]) [0] rfl
  have hFc := va_free (wc := (wd_82cdd16b h0 h1 v0 v1 v2 v3 h1 g0 f4)) hD hS hA [0, 1] rfl
  refine va_calli (va_runV (As := []) (rest := []) ⟨hx, hb, hml, hown, hts⟩ (k_X10_next l dC dI h0 h1 v0 v1 v2 v3 g0 f4 ⟨i_v0a, i_v0b⟩ ⟨i_v1a, i_v1b⟩ ia_f4 H.size) (cwV 0 hts g_X10_takeNumber_1_0 rfl rfl rfl (by decide +kernel) ⟨Nat.le_of_ble_eq_true rfl, Nat.le_of_ble_eq_true rfl⟩) (pv_PV10 hPc hKc hDc (q0 := 0) rfl) rfl rfl hl.1 rfl (lv_room (Nat.le_of_ble_eq_true rfl)) dX10_takeNumber_1 ⟨Nat.le_of_ble_eq_true rfl, Nat.le_of_ble_eq_true rfl⟩) hS (fun q _ h => hFc q h) hFc (fun ra1 u t H1 locs ht hvm hwra1 hB hz1 hk1 hS => ?_)
  try rw [hwra1] at hB
  rcases hB with hB | hB
  · skip
    obtain ⟨x2, oa_x2, ob_x2, pt0_ra1, pt1_ra1, pt2_ra1, pt3_ra1, pt4_ra1, pt5_ra1, pt6_ra1, hP1, hK1, hD1⟩ := hB
    rw [ht] at hP1
    obtain ⟨hP2, hD2⟩ := va_join (wr := []) (w1 := (wd_82cdd16b h0 h1 v0 x2 v2 v3 h1 g0 f4)) hP hD [0, 1] [] rfl rfl (by decide) (by decide) hk1 hFc hP1 hD1
    clear hP hD hPc hDc hKc hFc hP1 hK1 hD1 hk1 hz1
    generalize H1 = H at hP2 hS ⊢
    have hP : va_P (dC, dI) vwCl (wd_82cdd16b h0 h1 v0 x2 v2 v3 h1 g0 f4) H := hP2
    have hD : va_D A (wd_82cdd16b h0 h1 v0 x2 v2 v3 h1 g0 f4) := hD2
    clear hP2 hD2
    obtain rfl : ra1 = ((-1) : Int32) := pv_cs (by decide) pt0_ra1 pt1_ra1
    have hPc := hP.sub (ws' := []) [] rfl
    have hDc := hD.sub (ws' := []) [] (by decide) rfl
    have hKc := hK.sub (tys' := []) [] rfl
    have hFc := va_free (wc := []) hD hS hA [] rfl
    refine va_calli (va_runS (As := [.int (-1)]) (rest := []) ⟨hx, hb, hml, hown, hts⟩ (k_X10_isDigit l dC dI ((-1))  H.size) (va_cwS 1 hts g_X10_takeNumber_1_1 rfl rfl rfl (by decide +kernel) ⟨Nat.le_of_ble_eq_true rfl, Nat.le_of_ble_eq_true rfl⟩) (pv_PS hPc hKc hDc) rfl rfl hl.1 rfl (lv_room (Nat.le_of_ble_eq_true rfl)) dX10_takeNumber_4 ⟨Nat.le_of_ble_eq_true rfl, Nat.le_of_ble_eq_true rfl⟩) hS (fun q _ h => hFc q h) hFc (fun ra3 u t H1 locs ht hvm hwra3 hB hz1 hk1 hS => ?_)
    try rw [hwra3] at hB
    have hkra3_0 : (((-1) : Int32)).toInt = -1 := by decide
    obtain ⟨pt0_ra3, pt1_ra3, pt2_ra3, pt3_ra3, pt4_ra3, hP1, hK1, hD1⟩ := hB
    rw [ht] at hP1
    obtain ⟨hP2, hD2⟩ := va_join (wr := (wd_82cdd16b h0 h1 v0 x2 v2 v3 h1 g0 f4)) (w1 := []) hP hD [] [0, 1] rfl rfl (by decide) (by decide) hk1 hFc hP1 hD1
    clear hP hD hPc hDc hKc hFc hP1 hK1 hD1 hk1 hz1
    generalize H1 = H at hP2 hS ⊢
    have hP : va_P (dC, dI) vwCl (wd_82cdd16b h0 h1 v0 x2 v2 v3 h1 g0 f4) H := hP2
    have hD : va_D A (wd_82cdd16b h0 h1 v0 x2 v2 v3 h1 g0 f4) := hD2
    clear hP2 hD2
    refine lv_if_ne (tgt := 15) hx hb dX10_takeNumber_7 (by decide) (fun c4 => ?_) (fun c4 => ?_)
    · skip
      have fc4 : ¬ (ra3.toInt = 0) := fun h9 => c4 (Int32.toInt_inj.mp h9)
      exfalso; omega
    · skip
      have fc4 : ra3.toInt = 0 := congrArg Int32.toInt c4
      refine lv_aload_n hx hb dX10_takeNumber_10 rfl (lv_at hl 0 rfl) ?_
      have hPc := hP.sub (ws' := (wd_09b0abee h0 h1 v0 x2 v2 v3)) [0] rfl
      have hDc := hD.sub (ws' := (wd_09b0abee h0 h1 v0 x2 v2 v3)) [0] (by decide) rfl
      have hKc := hK.sub (tys' := []) [] rfl
      have hFc := va_free (wc := (wd_09b0abee h0 h1 v0 x2 v2 v3)) hD hS hA [0] rfl
      refine va_calli (va_runV (As := []) (rest := []) ⟨hx, hb, hml, hown, hts⟩ (k_X10_wrongHere l dC dI h0 h1 v0 x2 v2 v3 ⟨i_v0a, i_v0b⟩ ⟨oa_x2, ob_x2⟩ H.size) (cwV 0 hts g_X10_takeNumber_1_2 rfl rfl rfl (by decide +kernel) ⟨Nat.le_of_ble_eq_true rfl, Nat.le_of_ble_eq_true rfl⟩) (pv_PV10 hPc hKc hDc (q0 := 0) rfl) rfl rfl hl.1 rfl (lv_room (Nat.le_of_ble_eq_true rfl)) dX10_takeNumber_11 ⟨Nat.le_of_ble_eq_true rfl, Nat.le_of_ble_eq_true rfl⟩) hS (fun q _ h => hFc q h) hFc (fun ra5 u t H1 locs ht hvm hwra5 hB hz1 hk1 hS => ?_)
      try rw [hwra5] at hB
      obtain ⟨x6, oa_x6, ob_x6, pt0_ra5, pt1_ra5, pt2_ra5, hP1, hK1, hD1⟩ := hB
      rw [ht] at hP1
      obtain ⟨hP2, hD2⟩ := va_join (wr := (wd_d0032b31 h1 g0 f4)) (w1 := (wd_09b0abee h0 h1 v0 x2 x6 v3)) hP hD [0] [1] rfl rfl (by decide) (by decide) hk1 hFc hP1 hD1
      clear hP hD hPc hDc hKc hFc hP1 hK1 hD1 hk1 hz1
      generalize H1 = H at hP2 hS ⊢
      have hP := hP2.sub (ws' := (wd_82cdd16b h0 h1 v0 x2 x6 v3 h1 g0 f4)) [1, 0] rfl
      have hD := hD2.sub (ws' := (wd_82cdd16b h0 h1 v0 x2 x6 v3 h1 g0 f4)) [1, 0] (by decide) rfl
      clear hP2 hD2
      obtain rfl : ra5 = (0 : Int32) := pv_cs (by decide) pt0_ra5 pt1_ra5
      subst hQ
      have hP9 := hP.sub (ws' := (wd_82cdd16b h0 h1 v0 x2 x6 v3 h1 g0 f4)) [0, 1] rfl
      have hD9 := hD.sub (ws' := (wd_82cdd16b h0 h1 v0 x2 x6 v3 h1 g0 f4)) [0, 1] (by decide) rfl
      have hK9 := hK.sub (tys' := []) [] rfl
      exact W.zret (v := 0) hx hb hr rfl (fun t ht hW => ⟨⟨0, 0, rfl, rfl, Or.inr (⟨x2, x6, v3, oa_x2, ob_x2, oa_x6, ob_x6, by first | omega | decide, by first | omega | decide, by omega, by first | (apply pg_tn.none <;> first | assumption | omega) | (apply pg_tn.three <;> first | assumption | omega) | (exfalso; omega), by rw [ht]; exact hP9, va_K.moved hW.alike hK9, hD9⟩)⟩, hS.F ht⟩) hS.2.2 dX10_takeNumber_14
  · skip
    obtain ⟨x7, oa_x7, ob_x7, pt0_ra1, pt1_ra1, pt2_ra1, pt3_ra1, pt4_ra1, pt5_ra1, pt6_ra1, hP1, hK1, hD1⟩ := hB
    rw [ht] at hP1
    obtain ⟨hP2, hD2⟩ := va_join (wr := []) (w1 := (wd_82cdd16b h0 h1 v0 x7 v2 v3 h1 g0 f4)) hP hD [0, 1] [] rfl rfl (by decide) (by decide) hk1 hFc hP1 hD1
    clear hP hD hPc hDc hKc hFc hP1 hK1 hD1 hk1 hz1
    generalize H1 = H at hP2 hS ⊢
    have hP : va_P (dC, dI) vwCl (wd_82cdd16b h0 h1 v0 x7 v2 v3 h1 g0 f4) H := hP2
    have hD : va_D A (wd_82cdd16b h0 h1 v0 x7 v2 v3 h1 g0 f4) := hD2
    clear hP2 hD2
    have hPc := hP.sub (ws' := []) [] rfl
    have hDc := hD.sub (ws' := []) [] (by decide) rfl
    have hKc := hK.sub (tys' := []) [] rfl
    have hFc := va_free (wc := []) hD hS hA [] rfl
    refine va_calli (va_runS (As := [.int ra1]) (rest := []) ⟨hx, hb, hml, hown, hts⟩ (k_X10_isDigit l dC dI ra1  H.size) (va_cwS 1 hts g_X10_takeNumber_1_1 rfl rfl rfl (by decide +kernel) ⟨Nat.le_of_ble_eq_true rfl, Nat.le_of_ble_eq_true rfl⟩) (pv_PS hPc hKc hDc) rfl rfl hl.1 rfl (lv_room (Nat.le_of_ble_eq_true rfl)) dX10_takeNumber_4 ⟨Nat.le_of_ble_eq_true rfl, Nat.le_of_ble_eq_true rfl⟩) hS (fun q _ h => hFc q h) hFc (fun ra8 u t H1 locs ht hvm hwra8 hB hz1 hk1 hS => ?_)
    try rw [hwra8] at hB
    obtain ⟨pt0_ra8, pt1_ra8, pt2_ra8, pt3_ra8, pt4_ra8, hP1, hK1, hD1⟩ := hB
    rw [ht] at hP1
    obtain ⟨hP2, hD2⟩ := va_join (wr := (wd_82cdd16b h0 h1 v0 x7 v2 v3 h1 g0 f4)) (w1 := []) hP hD [] [0, 1] rfl rfl (by decide) (by decide) hk1 hFc hP1 hD1
    clear hP hD hPc hDc hKc hFc hP1 hK1 hD1 hk1 hz1
    generalize H1 = H at hP2 hS ⊢
    have hP : va_P (dC, dI) vwCl (wd_82cdd16b h0 h1 v0 x7 v2 v3 h1 g0 f4) H := hP2
    have hD : va_D A (wd_82cdd16b h0 h1 v0 x7 v2 v3 h1 g0 f4) := hD2
    clear hP2 hD2
    refine lv_if_ne (tgt := 15) hx hb dX10_takeNumber_7 (by decide) (fun c9 => ?_) (fun c9 => ?_)
    · skip
      have fc9 : ¬ (ra8.toInt = 0) := fun h9 => c9 (Int32.toInt_inj.mp h9)
      refine lv_aload_n hx hb dX10_takeNumber_15 rfl (lv_at hl 0 rfl) ?_
      refine lv_iconst (v := 0) hx hb dX10_takeNumber_16 (by decide) ?_
      refine va_put (D := (dC, dI)) (ci := 10) (v := .int 0) (ty := .int) (C := RX10) (T := TX10) (N := 5) hx hb hts (fun _ h => List.mem_cons_of_mem _ (List.mem_append_right _ h)) tyX10 tyX10_ok nmX10 hown hK hP hD hS 0 rfl rfl 4 (by decide) (hts (.fieldLink RX10 25 "LeftArguments$Tape" "number" "I") (List.mem_cons_of_mem _ (List.mem_append_left _ (List.mem_of_getElem? (i := 16) rfl)))) (fun _ h9 => h9) rfl (by decide +kernel) rfl rfl (Nat.le_of_ble_eq_true rfl) dX10_takeNumber_17 (fun H locs hP hD hS => ?_)
      have hP : va_P (dC, dI) vwCl (wd_82cdd16b h0 h1 v0 x7 v2 0 h1 g0 f4) H := hP
      have hD : va_D A (wd_82cdd16b h0 h1 v0 x7 v2 0 h1 g0 f4) := hD
      refine lv_iconst (v := 0) hx hb dX10_takeNumber_20 (by decide) ?_
      refine lv_istore_n (lv' := [(2, .int 0), (0, .ref h0), (1, .int 2)]) hx hb dX10_takeNumber_21 rfl hl (by decide) rfl (fun ls hl => ?_)
      refine lv_iload_n hx hb dX10_takeNumber_22 rfl (lv_at hl 0 rfl) ?_
      refine lv_iload_n hx hb dX10_takeNumber_23 rfl (lv_at hl 2 rfl) ?_
      refine lv_icmp_ge (tgt := 72) hx hb dX10_takeNumber_24 (by decide) (fun c => absurd c (by decide)) (fun _ => ?_)
      refine lv_aload_n hx hb dX10_takeNumber_27 rfl (lv_at hl 1 rfl) ?_
      have hPc := hP.sub (ws' := (wd_82cdd16b h0 h1 v0 x7 v2 0 h1 g0 f4)) [0, 1] rfl
      have hDc := hD.sub (ws' := (wd_82cdd16b h0 h1 v0 x7 v2 0 h1 g0 f4)) [0, 1] (by decide) rfl
      have hKc := hK.sub (tys' := [(g0, .int)]) [0] rfl
      have hFc := va_free (wc := (wd_82cdd16b h0 h1 v0 x7 v2 0 h1 g0 f4)) hD hS hA [0, 1] rfl
      refine va_calli (va_runV (As := []) (rest := []) ⟨hx, hb, hml, hown, hts⟩ (k_X10_sign l dC dI h0 h1 v0 x7 v2 0 g0 f4 ⟨i_v0a, i_v0b⟩ ⟨oa_x7, by first | omega | decide⟩ ia_f4 H.size) (cwV 0 hts g_X10_takeNumber_1_4 rfl rfl rfl (by decide +kernel) ⟨Nat.le_of_ble_eq_true rfl, Nat.le_of_ble_eq_true rfl⟩) (pv_PV10 hPc hKc hDc (q0 := 0) rfl) rfl rfl hl.1 rfl (lv_room (Nat.le_of_ble_eq_true rfl)) dX10_takeNumber_28 ⟨Nat.le_of_ble_eq_true rfl, Nat.le_of_ble_eq_true rfl⟩) hS (fun q _ h => hFc q h) hFc (fun ra10 u t H1 locs ht hvm hwra10 hB hz1 hk1 hS => ?_)
      try rw [hwra10] at hB
      have hkra10_0 : ((0 : Int32)).toInt = 0 := by decide
      rcases hB with hB | hB
      · skip
        obtain ⟨pt0_ra10, pt1_ra10, pt2_ra10, pt3_ra10, hP1, hK1, hD1⟩ := hB
        rw [ht] at hP1
        obtain ⟨hP2, hD2⟩ := va_join (wr := []) (w1 := (wd_82cdd16b h0 h1 v0 x7 v2 0 h1 g0 f4)) hP hD [0, 1] [] rfl rfl (by decide) (by decide) hk1 hFc hP1 hD1
        clear hP hD hPc hDc hKc hFc hP1 hK1 hD1 hk1 hz1
        generalize H1 = H at hP2 hS ⊢
        have hP : va_P (dC, dI) vwCl (wd_82cdd16b h0 h1 v0 x7 v2 0 h1 g0 f4) H := hP2
        have hD : va_D A (wd_82cdd16b h0 h1 v0 x7 v2 0 h1 g0 f4) := hD2
        clear hP2 hD2
        obtain rfl : ra10 = ((-1) : Int32) := pv_cs (by decide) pt0_ra10 pt1_ra10
        have hPc := hP.sub (ws' := []) [] rfl
        have hDc := hD.sub (ws' := []) [] (by decide) rfl
        have hKc := hK.sub (tys' := []) [] rfl
        have hFc := va_free (wc := []) hD hS hA [] rfl
        refine va_calli (va_runS (As := [.int (-1)]) (rest := []) ⟨hx, hb, hml, hown, hts⟩ (k_X10_isDigit l dC dI ((-1))  H.size) (va_cwS 1 hts g_X10_takeNumber_1_1 rfl rfl rfl (by decide +kernel) ⟨Nat.le_of_ble_eq_true rfl, Nat.le_of_ble_eq_true rfl⟩) (pv_PS hPc hKc hDc) rfl rfl hl.1 rfl (lv_room (Nat.le_of_ble_eq_true rfl)) dX10_takeNumber_31 ⟨Nat.le_of_ble_eq_true rfl, Nat.le_of_ble_eq_true rfl⟩) hS (fun q _ h => hFc q h) hFc (fun ra11 u t H1 locs ht hvm hwra11 hB hz1 hk1 hS => ?_)
        try rw [hwra11] at hB
        have hkra11_0 : (((-1) : Int32)).toInt = -1 := by decide
        obtain ⟨pt0_ra11, pt1_ra11, pt2_ra11, pt3_ra11, pt4_ra11, hP1, hK1, hD1⟩ := hB
        rw [ht] at hP1
        obtain ⟨hP2, hD2⟩ := va_join (wr := (wd_82cdd16b h0 h1 v0 x7 v2 0 h1 g0 f4)) (w1 := []) hP hD [] [0, 1] rfl rfl (by decide) (by decide) hk1 hFc hP1 hD1
        clear hP hD hPc hDc hKc hFc hP1 hK1 hD1 hk1 hz1
        generalize H1 = H at hP2 hS ⊢
        have hP : va_P (dC, dI) vwCl (wd_82cdd16b h0 h1 v0 x7 v2 0 h1 g0 f4) H := hP2
        have hD : va_D A (wd_82cdd16b h0 h1 v0 x7 v2 0 h1 g0 f4) := hD2
        clear hP2 hD2
        refine lv_if_eq (tgt := 72) hx hb dX10_takeNumber_34 (by decide) (fun c12 => ?_) (fun c12 => ?_)
        · skip
          have fc12 : ra11.toInt = 0 := congrArg Int32.toInt c12
          refine lv_aload_n hx hb dX10_takeNumber_72 rfl (lv_at hl 1 rfl) ?_
          have hPc := hP.sub (ws' := (wd_82cdd16b h0 h1 v0 x7 v2 0 h1 g0 f4)) [0, 1] rfl
          have hDc := hD.sub (ws' := (wd_82cdd16b h0 h1 v0 x7 v2 0 h1 g0 f4)) [0, 1] (by decide) rfl
          have hKc := hK.sub (tys' := [(g0, .int)]) [0] rfl
          have hFc := va_free (wc := (wd_82cdd16b h0 h1 v0 x7 v2 0 h1 g0 f4)) hD hS hA [0, 1] rfl
          refine va_calli (va_runV (As := []) (rest := []) ⟨hx, hb, hml, hown, hts⟩ (k_X10_sign l dC dI h0 h1 v0 x7 v2 0 g0 f4 ⟨i_v0a, i_v0b⟩ ⟨oa_x7, by first | omega | decide⟩ ia_f4 H.size) (cwV 0 hts g_X10_takeNumber_1_4 rfl rfl rfl (by decide +kernel) ⟨Nat.le_of_ble_eq_true rfl, Nat.le_of_ble_eq_true rfl⟩) (pv_PV10 hPc hKc hDc (q0 := 0) rfl) rfl rfl hl.1 rfl (lv_room (Nat.le_of_ble_eq_true rfl)) dX10_takeNumber_73 ⟨Nat.le_of_ble_eq_true rfl, Nat.le_of_ble_eq_true rfl⟩) hS (fun q _ h => hFc q h) hFc (fun ra13 u t H1 locs ht hvm hwra13 hB hz1 hk1 hS => ?_)
          try rw [hwra13] at hB
          have hkra13_0 : ((0 : Int32)).toInt = 0 := by decide
          rcases hB with hB | hB
          · skip
            obtain ⟨pt0_ra13, pt1_ra13, pt2_ra13, pt3_ra13, hP1, hK1, hD1⟩ := hB
            rw [ht] at hP1
            obtain ⟨hP2, hD2⟩ := va_join (wr := []) (w1 := (wd_82cdd16b h0 h1 v0 x7 v2 0 h1 g0 f4)) hP hD [0, 1] [] rfl rfl (by decide) (by decide) hk1 hFc hP1 hD1
            clear hP hD hPc hDc hKc hFc hP1 hK1 hD1 hk1 hz1
            generalize H1 = H at hP2 hS ⊢
            have hP : va_P (dC, dI) vwCl (wd_82cdd16b h0 h1 v0 x7 v2 0 h1 g0 f4) H := hP2
            have hD : va_D A (wd_82cdd16b h0 h1 v0 x7 v2 0 h1 g0 f4) := hD2
            clear hP2 hD2
            obtain rfl : ra13 = ((-1) : Int32) := pv_cs (by decide) pt0_ra13 pt1_ra13
            have hPc := hP.sub (ws' := []) [] rfl
            have hDc := hD.sub (ws' := []) [] (by decide) rfl
            have hKc := hK.sub (tys' := []) [] rfl
            have hFc := va_free (wc := []) hD hS hA [] rfl
            refine va_calli (va_runS (As := [.int (-1)]) (rest := []) ⟨hx, hb, hml, hown, hts⟩ (k_X10_isDigit l dC dI ((-1))  H.size) (va_cwS 1 hts g_X10_takeNumber_1_1 rfl rfl rfl (by decide +kernel) ⟨Nat.le_of_ble_eq_true rfl, Nat.le_of_ble_eq_true rfl⟩) (pv_PS hPc hKc hDc) rfl rfl hl.1 rfl (lv_room (Nat.le_of_ble_eq_true rfl)) dX10_takeNumber_76 ⟨Nat.le_of_ble_eq_true rfl, Nat.le_of_ble_eq_true rfl⟩) hS (fun q _ h => hFc q h) hFc (fun ra14 u t H1 locs ht hvm hwra14 hB hz1 hk1 hS => ?_)
            try rw [hwra14] at hB
            have hkra14_0 : (((-1) : Int32)).toInt = -1 := by decide
            obtain ⟨pt0_ra14, pt1_ra14, pt2_ra14, pt3_ra14, pt4_ra14, hP1, hK1, hD1⟩ := hB
            rw [ht] at hP1
            obtain ⟨hP2, hD2⟩ := va_join (wr := (wd_82cdd16b h0 h1 v0 x7 v2 0 h1 g0 f4)) (w1 := []) hP hD [] [0, 1] rfl rfl (by decide) (by decide) hk1 hFc hP1 hD1
            clear hP hD hPc hDc hKc hFc hP1 hK1 hD1 hk1 hz1
            generalize H1 = H at hP2 hS ⊢
            have hP : va_P (dC, dI) vwCl (wd_82cdd16b h0 h1 v0 x7 v2 0 h1 g0 f4) H := hP2
            have hD : va_D A (wd_82cdd16b h0 h1 v0 x7 v2 0 h1 g0 f4) := hD2
            clear hP2 hD2
            refine lv_if_eq (tgt := 89) hx hb dX10_takeNumber_79 (by decide) (fun c15 => ?_) (fun c15 => ?_)
            · skip
              have fc15 : ra14.toInt = 0 := congrArg Int32.toInt c15
              refine lv_iconst (v := 1) hx hb dX10_takeNumber_89 (by decide) ?_
              refine lv_goto (tgt := 94) hx hb dX10_takeNumber_90 (by decide) ?_
              subst hQ
              have hP9 := hP.sub (ws' := (wd_82cdd16b h0 h1 v0 x7 v2 0 h1 g0 f4)) [0, 1] rfl
              have hD9 := hD.sub (ws' := (wd_82cdd16b h0 h1 v0 x7 v2 0 h1 g0 f4)) [0, 1] (by decide) rfl
              have hK9 := hK.sub (tys' := []) [] rfl
              exact W.zret (v := 1) hx hb hr rfl (fun t ht hW => ⟨⟨1, 1, rfl, rfl, Or.inl ⟨x7, 0, oa_x7, by first | omega | decide, by decide, by decide, by first | omega | decide, by first | omega | decide, by omega, by first | (apply pg_tn.two <;> first | assumption | omega) | (apply pg_tn.one <;> first | assumption | omega), by omega, by rw [ht]; exact hP9, va_K.moved hW.alike hK9, hD9⟩⟩, hS.F ht⟩) hS.2.2 dX10_takeNumber_94
            · skip
              have fc15 : ¬ (ra14.toInt = 0) := fun h9 => c15 (Int32.toInt_inj.mp h9)
              exfalso; omega
          · skip
            obtain ⟨pt0_ra13, pt1_ra13, pt2_ra13, pt3_ra13, hP1, hK1, hD1⟩ := hB
            rw [ht] at hP1
            obtain ⟨hP2, hD2⟩ := va_join (wr := []) (w1 := (wd_82cdd16b h0 h1 v0 x7 v2 0 h1 g0 f4)) hP hD [0, 1] [] rfl rfl (by decide) (by decide) hk1 hFc hP1 hD1
            clear hP hD hPc hDc hKc hFc hP1 hK1 hD1 hk1 hz1
            generalize H1 = H at hP2 hS ⊢
            have hP : va_P (dC, dI) vwCl (wd_82cdd16b h0 h1 v0 x7 v2 0 h1 g0 f4) H := hP2
            have hD : va_D A (wd_82cdd16b h0 h1 v0 x7 v2 0 h1 g0 f4) := hD2
            clear hP2 hD2
            exfalso; omega
        · skip
          have fc12 : ¬ (ra11.toInt = 0) := fun h9 => c12 (Int32.toInt_inj.mp h9)
          exfalso; omega
      · skip
        obtain ⟨pt0_ra10, pt1_ra10, pt2_ra10, pt3_ra10, hP1, hK1, hD1⟩ := hB
        rw [ht] at hP1
        obtain ⟨hP2, hD2⟩ := va_join (wr := []) (w1 := (wd_82cdd16b h0 h1 v0 x7 v2 0 h1 g0 f4)) hP hD [0, 1] [] rfl rfl (by decide) (by decide) hk1 hFc hP1 hD1
        clear hP hD hPc hDc hKc hFc hP1 hK1 hD1 hk1 hz1
        generalize H1 = H at hP2 hS ⊢
        have hP : va_P (dC, dI) vwCl (wd_82cdd16b h0 h1 v0 x7 v2 0 h1 g0 f4) H := hP2
        have hD : va_D A (wd_82cdd16b h0 h1 v0 x7 v2 0 h1 g0 f4) := hD2
        clear hP2 hD2
        have hPc := hP.sub (ws' := []) [] rfl
        have hDc := hD.sub (ws' := []) [] (by decide) rfl
        have hKc := hK.sub (tys' := []) [] rfl
        have hFc := va_free (wc := []) hD hS hA [] rfl
        refine va_calli (va_runS (As := [.int ra10]) (rest := []) ⟨hx, hb, hml, hown, hts⟩ (k_X10_isDigit l dC dI ra10  H.size) (va_cwS 1 hts g_X10_takeNumber_1_1 rfl rfl rfl (by decide +kernel) ⟨Nat.le_of_ble_eq_true rfl, Nat.le_of_ble_eq_true rfl⟩) (pv_PS hPc hKc hDc) rfl rfl hl.1 rfl (lv_room (Nat.le_of_ble_eq_true rfl)) dX10_takeNumber_31 ⟨Nat.le_of_ble_eq_true rfl, Nat.le_of_ble_eq_true rfl⟩) hS (fun q _ h => hFc q h) hFc (fun ra16 u t H1 locs ht hvm hwra16 hB hz1 hk1 hS => ?_)
        try rw [hwra16] at hB
        obtain ⟨pt0_ra16, pt1_ra16, pt2_ra16, pt3_ra16, pt4_ra16, hP1, hK1, hD1⟩ := hB
        rw [ht] at hP1
        obtain ⟨hP2, hD2⟩ := va_join (wr := (wd_82cdd16b h0 h1 v0 x7 v2 0 h1 g0 f4)) (w1 := []) hP hD [] [0, 1] rfl rfl (by decide) (by decide) hk1 hFc hP1 hD1
        clear hP hD hPc hDc hKc hFc hP1 hK1 hD1 hk1 hz1
        generalize H1 = H at hP2 hS ⊢
        have hP : va_P (dC, dI) vwCl (wd_82cdd16b h0 h1 v0 x7 v2 0 h1 g0 f4) H := hP2
        have hD : va_D A (wd_82cdd16b h0 h1 v0 x7 v2 0 h1 g0 f4) := hD2
        clear hP2 hD2
        refine lv_if_eq (tgt := 72) hx hb dX10_takeNumber_34 (by decide) (fun c17 => ?_) (fun c17 => ?_)
        · skip
          have fc17 : ra16.toInt = 0 := congrArg Int32.toInt c17
          refine lv_aload_n hx hb dX10_takeNumber_72 rfl (lv_at hl 1 rfl) ?_
          have hPc := hP.sub (ws' := (wd_82cdd16b h0 h1 v0 x7 v2 0 h1 g0 f4)) [0, 1] rfl
          have hDc := hD.sub (ws' := (wd_82cdd16b h0 h1 v0 x7 v2 0 h1 g0 f4)) [0, 1] (by decide) rfl
          have hKc := hK.sub (tys' := [(g0, .int)]) [0] rfl
          have hFc := va_free (wc := (wd_82cdd16b h0 h1 v0 x7 v2 0 h1 g0 f4)) hD hS hA [0, 1] rfl
          refine va_calli (va_runV (As := []) (rest := []) ⟨hx, hb, hml, hown, hts⟩ (k_X10_sign l dC dI h0 h1 v0 x7 v2 0 g0 f4 ⟨i_v0a, i_v0b⟩ ⟨oa_x7, by first | omega | decide⟩ ia_f4 H.size) (cwV 0 hts g_X10_takeNumber_1_4 rfl rfl rfl (by decide +kernel) ⟨Nat.le_of_ble_eq_true rfl, Nat.le_of_ble_eq_true rfl⟩) (pv_PV10 hPc hKc hDc (q0 := 0) rfl) rfl rfl hl.1 rfl (lv_room (Nat.le_of_ble_eq_true rfl)) dX10_takeNumber_73 ⟨Nat.le_of_ble_eq_true rfl, Nat.le_of_ble_eq_true rfl⟩) hS (fun q _ h => hFc q h) hFc (fun ra18 u t H1 locs ht hvm hwra18 hB hz1 hk1 hS => ?_)
          try rw [hwra18] at hB
          have hkra18_0 : ((0 : Int32)).toInt = 0 := by decide
          rcases hB with hB | hB
          · skip
            obtain ⟨pt0_ra18, pt1_ra18, pt2_ra18, pt3_ra18, hP1, hK1, hD1⟩ := hB
            rw [ht] at hP1
            obtain ⟨hP2, hD2⟩ := va_join (wr := []) (w1 := (wd_82cdd16b h0 h1 v0 x7 v2 0 h1 g0 f4)) hP hD [0, 1] [] rfl rfl (by decide) (by decide) hk1 hFc hP1 hD1
            clear hP hD hPc hDc hKc hFc hP1 hK1 hD1 hk1 hz1
            generalize H1 = H at hP2 hS ⊢
            have hP : va_P (dC, dI) vwCl (wd_82cdd16b h0 h1 v0 x7 v2 0 h1 g0 f4) H := hP2
            have hD : va_D A (wd_82cdd16b h0 h1 v0 x7 v2 0 h1 g0 f4) := hD2
            clear hP2 hD2
            obtain rfl : ra18 = ((-1) : Int32) := pv_cs (by decide) pt0_ra18 pt1_ra18
            exfalso; omega
          · skip
            obtain ⟨pt0_ra18, pt1_ra18, pt2_ra18, pt3_ra18, hP1, hK1, hD1⟩ := hB
            rw [ht] at hP1
            obtain ⟨hP2, hD2⟩ := va_join (wr := []) (w1 := (wd_82cdd16b h0 h1 v0 x7 v2 0 h1 g0 f4)) hP hD [0, 1] [] rfl rfl (by decide) (by decide) hk1 hFc hP1 hD1
            clear hP hD hPc hDc hKc hFc hP1 hK1 hD1 hk1 hz1
            generalize H1 = H at hP2 hS ⊢
            have hP : va_P (dC, dI) vwCl (wd_82cdd16b h0 h1 v0 x7 v2 0 h1 g0 f4) H := hP2
            have hD : va_D A (wd_82cdd16b h0 h1 v0 x7 v2 0 h1 g0 f4) := hD2
            clear hP2 hD2
            have hPc := hP.sub (ws' := []) [] rfl
            have hDc := hD.sub (ws' := []) [] (by decide) rfl
            have hKc := hK.sub (tys' := []) [] rfl
            have hFc := va_free (wc := []) hD hS hA [] rfl
            refine va_calli (va_runS (As := [.int ra18]) (rest := []) ⟨hx, hb, hml, hown, hts⟩ (k_X10_isDigit l dC dI ra18  H.size) (va_cwS 1 hts g_X10_takeNumber_1_1 rfl rfl rfl (by decide +kernel) ⟨Nat.le_of_ble_eq_true rfl, Nat.le_of_ble_eq_true rfl⟩) (pv_PS hPc hKc hDc) rfl rfl hl.1 rfl (lv_room (Nat.le_of_ble_eq_true rfl)) dX10_takeNumber_76 ⟨Nat.le_of_ble_eq_true rfl, Nat.le_of_ble_eq_true rfl⟩) hS (fun q _ h => hFc q h) hFc (fun ra19 u t H1 locs ht hvm hwra19 hB hz1 hk1 hS => ?_)
            try rw [hwra19] at hB
            obtain ⟨pt0_ra19, pt1_ra19, pt2_ra19, pt3_ra19, pt4_ra19, hP1, hK1, hD1⟩ := hB
            rw [ht] at hP1
            obtain ⟨hP2, hD2⟩ := va_join (wr := (wd_82cdd16b h0 h1 v0 x7 v2 0 h1 g0 f4)) (w1 := []) hP hD [] [0, 1] rfl rfl (by decide) (by decide) hk1 hFc hP1 hD1
            clear hP hD hPc hDc hKc hFc hP1 hK1 hD1 hk1 hz1
            generalize H1 = H at hP2 hS ⊢
            have hP : va_P (dC, dI) vwCl (wd_82cdd16b h0 h1 v0 x7 v2 0 h1 g0 f4) H := hP2
            have hD : va_D A (wd_82cdd16b h0 h1 v0 x7 v2 0 h1 g0 f4) := hD2
            clear hP2 hD2
            refine lv_if_eq (tgt := 89) hx hb dX10_takeNumber_79 (by decide) (fun c20 => ?_) (fun c20 => ?_)
            · skip
              have fc20 : ra19.toInt = 0 := congrArg Int32.toInt c20
              refine lv_iconst (v := 1) hx hb dX10_takeNumber_89 (by decide) ?_
              refine lv_goto (tgt := 94) hx hb dX10_takeNumber_90 (by decide) ?_
              subst hQ
              have hP9 := hP.sub (ws' := (wd_82cdd16b h0 h1 v0 x7 v2 0 h1 g0 f4)) [0, 1] rfl
              have hD9 := hD.sub (ws' := (wd_82cdd16b h0 h1 v0 x7 v2 0 h1 g0 f4)) [0, 1] (by decide) rfl
              have hK9 := hK.sub (tys' := []) [] rfl
              exact W.zret (v := 1) hx hb hr rfl (fun t ht hW => ⟨⟨1, 1, rfl, rfl, Or.inl ⟨x7, 0, oa_x7, by first | omega | decide, by decide, by decide, by first | omega | decide, by first | omega | decide, by omega, by first | (apply pg_tn.two <;> first | assumption | omega) | (apply pg_tn.one <;> first | assumption | omega), by omega, by rw [ht]; exact hP9, va_K.moved hW.alike hK9, hD9⟩⟩, hS.F ht⟩) hS.2.2 dX10_takeNumber_94
            · skip
              have fc20 : ¬ (ra19.toInt = 0) := fun h9 => c20 (Int32.toInt_inj.mp h9)
              refine lv_aload_n hx hb dX10_takeNumber_82 rfl (lv_at hl 1 rfl) ?_
              have hPc := hP.sub (ws' := (wd_09b0abee h0 h1 v0 x7 v2 0)) [0] rfl
              have hDc := hD.sub (ws' := (wd_09b0abee h0 h1 v0 x7 v2 0)) [0] (by decide) rfl
              have hKc := hK.sub (tys' := []) [] rfl
              have hFc := va_free (wc := (wd_09b0abee h0 h1 v0 x7 v2 0)) hD hS hA [0] rfl
              refine va_calli (va_runV (As := []) (rest := []) ⟨hx, hb, hml, hown, hts⟩ (k_X10_wrongHere l dC dI h0 h1 v0 x7 v2 0 ⟨i_v0a, i_v0b⟩ ⟨oa_x7, by first | omega | decide⟩ H.size) (cwV 0 hts g_X10_takeNumber_1_2 rfl rfl rfl (by decide +kernel) ⟨Nat.le_of_ble_eq_true rfl, Nat.le_of_ble_eq_true rfl⟩) (pv_PV10 hPc hKc hDc (q0 := 0) rfl) rfl rfl hl.1 rfl (lv_room (Nat.le_of_ble_eq_true rfl)) dX10_takeNumber_83 ⟨Nat.le_of_ble_eq_true rfl, Nat.le_of_ble_eq_true rfl⟩) hS (fun q _ h => hFc q h) hFc (fun ra21 u t H1 locs ht hvm hwra21 hB hz1 hk1 hS => ?_)
              try rw [hwra21] at hB
              have hkra21_0 : ((0 : Int32)).toInt = 0 := by decide
              obtain ⟨x22, oa_x22, ob_x22, pt0_ra21, pt1_ra21, pt2_ra21, hP1, hK1, hD1⟩ := hB
              rw [ht] at hP1
              obtain ⟨hP2, hD2⟩ := va_join (wr := (wd_d0032b31 h1 g0 f4)) (w1 := (wd_09b0abee h0 h1 v0 x7 x22 0)) hP hD [0] [1] rfl rfl (by decide) (by decide) hk1 hFc hP1 hD1
              clear hP hD hPc hDc hKc hFc hP1 hK1 hD1 hk1 hz1
              generalize H1 = H at hP2 hS ⊢
              have hP := hP2.sub (ws' := (wd_82cdd16b h0 h1 v0 x7 x22 0 h1 g0 f4)) [1, 0] rfl
              have hD := hD2.sub (ws' := (wd_82cdd16b h0 h1 v0 x7 x22 0 h1 g0 f4)) [1, 0] (by decide) rfl
              clear hP2 hD2
              obtain rfl : ra21 = (0 : Int32) := pv_cs (by decide) pt0_ra21 pt1_ra21
              refine lv_if_eq (tgt := 93) hx hb dX10_takeNumber_86 (by decide) (fun _ => ?_) (fun c => absurd (by decide) c)
              refine lv_iconst (v := 0) hx hb dX10_takeNumber_93 (by decide) ?_
              subst hQ
              have hP9 := hP.sub (ws' := (wd_82cdd16b h0 h1 v0 x7 x22 0 h1 g0 f4)) [0, 1] rfl
              have hD9 := hD.sub (ws' := (wd_82cdd16b h0 h1 v0 x7 x22 0 h1 g0 f4)) [0, 1] (by decide) rfl
              have hK9 := hK.sub (tys' := []) [] rfl
              exact W.zret (v := 0) hx hb hr rfl (fun t ht hW => ⟨⟨0, 0, rfl, rfl, Or.inr (⟨x7, x22, 0, oa_x7, by first | omega | decide, oa_x22, ob_x22, by first | omega | decide, by first | omega | decide, by omega, by first | (apply pg_tn.none <;> first | assumption | omega) | (apply pg_tn.three <;> first | assumption | omega) | (exfalso; omega), by rw [ht]; exact hP9, va_K.moved hW.alike hK9, hD9⟩)⟩, hS.F ht⟩) hS.2.2 dX10_takeNumber_94
        · skip
          have fc17 : ¬ (ra16.toInt = 0) := fun h9 => c17 (Int32.toInt_inj.mp h9)
          refine lv_aload_n hx hb dX10_takeNumber_37 rfl (lv_at hl 1 rfl) ?_
          refine lv_aload_n hx hb dX10_takeNumber_38 rfl (lv_at hl 1 rfl) ?_
          refine va_get (D := (dC, dI)) (ci := 10) (v := .int 0) (C := RX10) (T := TX10) (N := 5) hx hb hts (fun _ h => List.mem_cons_of_mem _ (List.mem_append_right _ h)) hown hK hP 0 rfl rfl 4 (by decide) (hts (.fieldLink RX10 25 "LeftArguments$Tape" "number" "I") (List.mem_cons_of_mem _ (List.mem_append_left _ (List.mem_of_getElem? (i := 16) rfl)))) (fun _ h9 => h9) rfl dX10_takeNumber_39 ?_
          refine lv_bipush (v := 10) hx hb dX10_takeNumber_42 (by decide) ?_
          refine lv_imul hx hb dX10_takeNumber_44 ?_
          refine lv_topi (fun tv23 etv23 => ?_)
          obtain rfl : tv23 = (0 : Int32) := etv23.trans (by first | rfl | decide)
          refine lv_aload_n hx hb dX10_takeNumber_45 rfl (lv_at hl 1 rfl) ?_
          have hPc := hP.sub (ws' := (wd_82cdd16b h0 h1 v0 x7 v2 0 h1 g0 f4)) [0, 1] rfl
          have hDc := hD.sub (ws' := (wd_82cdd16b h0 h1 v0 x7 v2 0 h1 g0 f4)) [0, 1] (by decide) rfl
          have hKc := hK.sub (tys' := [(g0, .int)]) [0] rfl
          have hFc := va_free (wc := (wd_82cdd16b h0 h1 v0 x7 v2 0 h1 g0 f4)) hD hS hA [0, 1] rfl
          refine va_calli (va_runV (As := []) (rest := [.int 0, .ref h0]) ⟨hx, hb, hml, hown, hts⟩ (k_X10_sign l dC dI h0 h1 v0 x7 v2 0 g0 f4 ⟨i_v0a, i_v0b⟩ ⟨oa_x7, by first | omega | decide⟩ ia_f4 H.size) (cwV 0 hts g_X10_takeNumber_1_4 rfl rfl rfl (by decide +kernel) ⟨Nat.le_of_ble_eq_true rfl, Nat.le_of_ble_eq_true rfl⟩) (pv_PV10 hPc hKc hDc (q0 := 0) rfl) rfl rfl hl.1 rfl (lv_room (Nat.le_of_ble_eq_true rfl)) dX10_takeNumber_46 ⟨Nat.le_of_ble_eq_true rfl, Nat.le_of_ble_eq_true rfl⟩) hS (fun q _ h => hFc q h) hFc (fun ra24 u t H1 locs ht hvm hwra24 hB hz1 hk1 hS => ?_)
          try rw [hwra24] at hB
          have hkra24_0 : ((0 : Int32)).toInt = 0 := by decide
          rcases hB with hB | hB
          · skip
            obtain ⟨pt0_ra24, pt1_ra24, pt2_ra24, pt3_ra24, hP1, hK1, hD1⟩ := hB
            rw [ht] at hP1
            obtain ⟨hP2, hD2⟩ := va_join (wr := []) (w1 := (wd_82cdd16b h0 h1 v0 x7 v2 0 h1 g0 f4)) hP hD [0, 1] [] rfl rfl (by decide) (by decide) hk1 hFc hP1 hD1
            clear hP hD hPc hDc hKc hFc hP1 hK1 hD1 hk1 hz1
            generalize H1 = H at hP2 hS ⊢
            have hP : va_P (dC, dI) vwCl (wd_82cdd16b h0 h1 v0 x7 v2 0 h1 g0 f4) H := hP2
            have hD : va_D A (wd_82cdd16b h0 h1 v0 x7 v2 0 h1 g0 f4) := hD2
            clear hP2 hD2
            obtain rfl : ra24 = ((-1) : Int32) := pv_cs (by decide) pt0_ra24 pt1_ra24
            exfalso; omega
          · skip
            obtain ⟨pt0_ra24, pt1_ra24, pt2_ra24, pt3_ra24, hP1, hK1, hD1⟩ := hB
            rw [ht] at hP1
            obtain ⟨hP2, hD2⟩ := va_join (wr := []) (w1 := (wd_82cdd16b h0 h1 v0 x7 v2 0 h1 g0 f4)) hP hD [0, 1] [] rfl rfl (by decide) (by decide) hk1 hFc hP1 hD1
            clear hP hD hPc hDc hKc hFc hP1 hK1 hD1 hk1 hz1
            generalize H1 = H at hP2 hS ⊢
            have hP : va_P (dC, dI) vwCl (wd_82cdd16b h0 h1 v0 x7 v2 0 h1 g0 f4) H := hP2
            have hD : va_D A (wd_82cdd16b h0 h1 v0 x7 v2 0 h1 g0 f4) := hD2
            clear hP2 hD2
            refine lv_iadd hx hb dX10_takeNumber_49 ?_
            refine lv_topi (fun t25 et25 => ?_)
            have gt25 : t25.toInt = 0 + ra24.toInt := pv_add (a := 0) (b := ra24.toInt) et25 (by decide) rfl (by omega) (by omega)
            refine lv_bipush (v := 48) hx hb dX10_takeNumber_50 (by decide) ?_
            refine lv_isub hx hb dX10_takeNumber_52 ?_
            refine lv_topi (fun t26 et26 => ?_)
            have gt26 : t26.toInt = t25.toInt - 48 := pv_sub (a := t25.toInt) (b := 48) et26 rfl (by decide) (by omega) (by omega)
            refine va_put (D := (dC, dI)) (ci := 10) (v := .int t26) (ty := .int) (C := RX10) (T := TX10) (N := 5) hx hb hts (fun _ h => List.mem_cons_of_mem _ (List.mem_append_right _ h)) tyX10 tyX10_ok nmX10 hown hK hP hD hS 0 rfl rfl 4 (by decide) (hts (.fieldLink RX10 25 "LeftArguments$Tape" "number" "I") (List.mem_cons_of_mem _ (List.mem_append_left _ (List.mem_of_getElem? (i := 16) rfl)))) (fun _ h9 => h9) rfl (by decide +kernel) rfl rfl (Nat.le_of_ble_eq_true rfl) dX10_takeNumber_53 (fun H locs hP hD hS => ?_)
            have hP : va_P (dC, dI) vwCl (wd_82cdd16b h0 h1 v0 x7 v2 t26 h1 g0 f4) H := hP
            have hD : va_D A (wd_82cdd16b h0 h1 v0 x7 v2 t26 h1 g0 f4) := hD
            refine lv_aload_n hx hb dX10_takeNumber_56 rfl (lv_at hl 1 rfl) ?_
            refine lv_dup hx hb dX10_takeNumber_57 rfl ?_
            refine va_get (D := (dC, dI)) (ci := 10) (v := .int x7) (C := RX10) (T := TX10) (N := 5) hx hb hts (fun _ h => List.mem_cons_of_mem _ (List.mem_append_right _ h)) hown hK hP 0 rfl rfl 2 (by decide) (hts (.fieldLink RX10 19 "LeftArguments$Tape" "at" "I") (List.mem_cons_of_mem _ (List.mem_append_left _ (List.mem_of_getElem? (i := 1) rfl)))) (fun _ h9 => h9) rfl dX10_takeNumber_58 ?_
            refine lv_iconst (v := 1) hx hb dX10_takeNumber_61 (by decide) ?_
            refine lv_iadd hx hb dX10_takeNumber_62 ?_
            refine lv_topi (fun t27 et27 => ?_)
            have gt27 : t27.toInt = x7.toInt + 1 := pv_add (a := x7.toInt) (b := 1) et27 rfl (by decide) (by omega) (by omega)
            refine va_put (D := (dC, dI)) (ci := 10) (v := .int t27) (ty := .int) (C := RX10) (T := TX10) (N := 5) hx hb hts (fun _ h => List.mem_cons_of_mem _ (List.mem_append_right _ h)) tyX10 tyX10_ok nmX10 hown hK hP hD hS 0 rfl rfl 2 (by decide) (hts (.fieldLink RX10 19 "LeftArguments$Tape" "at" "I") (List.mem_cons_of_mem _ (List.mem_append_left _ (List.mem_of_getElem? (i := 1) rfl)))) (fun _ h9 => h9) rfl (by decide +kernel) rfl rfl (Nat.le_of_ble_eq_true rfl) dX10_takeNumber_63 (fun H locs hP hD hS => ?_)
            have hP : va_P (dC, dI) vwCl (wd_82cdd16b h0 h1 v0 t27 v2 t26 h1 g0 f4) H := hP
            have hD : va_D A (wd_82cdd16b h0 h1 v0 t27 v2 t26 h1 g0 f4) := hD
            refine lv_iinc (v := 1) (lv' := [(2, .int 1), (0, .ref h0), (1, .int 2)]) hx hb dX10_takeNumber_66 hl (k := 0) rfl (by decide) (by decide) rfl (fun ls hl => ?_)
            refine lv_goto (tgt := 22) hx hb dX10_takeNumber_69 (by decide) ?_
            refine lv_iload_n hx hb dX10_takeNumber_22 rfl (lv_at hl 0 rfl) ?_
            refine lv_iload_n hx hb dX10_takeNumber_23 rfl (lv_at hl 2 rfl) ?_
            refine lv_icmp_ge (tgt := 72) hx hb dX10_takeNumber_24 (by decide) (fun c => absurd c (by decide)) (fun _ => ?_)
            refine lv_aload_n hx hb dX10_takeNumber_27 rfl (lv_at hl 1 rfl) ?_
            have hPc := hP.sub (ws' := (wd_82cdd16b h0 h1 v0 t27 v2 t26 h1 g0 f4)) [0, 1] rfl
            have hDc := hD.sub (ws' := (wd_82cdd16b h0 h1 v0 t27 v2 t26 h1 g0 f4)) [0, 1] (by decide) rfl
            have hKc := hK.sub (tys' := [(g0, .int)]) [0] rfl
            have hFc := va_free (wc := (wd_82cdd16b h0 h1 v0 t27 v2 t26 h1 g0 f4)) hD hS hA [0, 1] rfl
            refine va_calli (va_runV (As := []) (rest := []) ⟨hx, hb, hml, hown, hts⟩ (k_X10_sign l dC dI h0 h1 v0 t27 v2 t26 g0 f4 ⟨i_v0a, i_v0b⟩ ⟨by first | omega | decide, by first | omega | decide⟩ ia_f4 H.size) (cwV 0 hts g_X10_takeNumber_1_4 rfl rfl rfl (by decide +kernel) ⟨Nat.le_of_ble_eq_true rfl, Nat.le_of_ble_eq_true rfl⟩) (pv_PV10 hPc hKc hDc (q0 := 0) rfl) rfl rfl hl.1 rfl (lv_room (Nat.le_of_ble_eq_true rfl)) dX10_takeNumber_28 ⟨Nat.le_of_ble_eq_true rfl, Nat.le_of_ble_eq_true rfl⟩) hS (fun q _ h => hFc q h) hFc (fun ra28 u t H1 locs ht hvm hwra28 hB hz1 hk1 hS => ?_)
            try rw [hwra28] at hB
            rcases hB with hB | hB
            · skip
              obtain ⟨pt0_ra28, pt1_ra28, pt2_ra28, pt3_ra28, hP1, hK1, hD1⟩ := hB
              rw [ht] at hP1
              obtain ⟨hP2, hD2⟩ := va_join (wr := []) (w1 := (wd_82cdd16b h0 h1 v0 t27 v2 t26 h1 g0 f4)) hP hD [0, 1] [] rfl rfl (by decide) (by decide) hk1 hFc hP1 hD1
              clear hP hD hPc hDc hKc hFc hP1 hK1 hD1 hk1 hz1
              generalize H1 = H at hP2 hS ⊢
              have hP : va_P (dC, dI) vwCl (wd_82cdd16b h0 h1 v0 t27 v2 t26 h1 g0 f4) H := hP2
              have hD : va_D A (wd_82cdd16b h0 h1 v0 t27 v2 t26 h1 g0 f4) := hD2
              clear hP2 hD2
              obtain rfl : ra28 = ((-1) : Int32) := pv_cs (by decide) pt0_ra28 pt1_ra28
              have hPc := hP.sub (ws' := []) [] rfl
              have hDc := hD.sub (ws' := []) [] (by decide) rfl
              have hKc := hK.sub (tys' := []) [] rfl
              have hFc := va_free (wc := []) hD hS hA [] rfl
              refine va_calli (va_runS (As := [.int (-1)]) (rest := []) ⟨hx, hb, hml, hown, hts⟩ (k_X10_isDigit l dC dI ((-1))  H.size) (va_cwS 1 hts g_X10_takeNumber_1_1 rfl rfl rfl (by decide +kernel) ⟨Nat.le_of_ble_eq_true rfl, Nat.le_of_ble_eq_true rfl⟩) (pv_PS hPc hKc hDc) rfl rfl hl.1 rfl (lv_room (Nat.le_of_ble_eq_true rfl)) dX10_takeNumber_31 ⟨Nat.le_of_ble_eq_true rfl, Nat.le_of_ble_eq_true rfl⟩) hS (fun q _ h => hFc q h) hFc (fun ra29 u t H1 locs ht hvm hwra29 hB hz1 hk1 hS => ?_)
              try rw [hwra29] at hB
              have hkra29_0 : (((-1) : Int32)).toInt = -1 := by decide
              obtain ⟨pt0_ra29, pt1_ra29, pt2_ra29, pt3_ra29, pt4_ra29, hP1, hK1, hD1⟩ := hB
              rw [ht] at hP1
              obtain ⟨hP2, hD2⟩ := va_join (wr := (wd_82cdd16b h0 h1 v0 t27 v2 t26 h1 g0 f4)) (w1 := []) hP hD [] [0, 1] rfl rfl (by decide) (by decide) hk1 hFc hP1 hD1
              clear hP hD hPc hDc hKc hFc hP1 hK1 hD1 hk1 hz1
              generalize H1 = H at hP2 hS ⊢
              have hP : va_P (dC, dI) vwCl (wd_82cdd16b h0 h1 v0 t27 v2 t26 h1 g0 f4) H := hP2
              have hD : va_D A (wd_82cdd16b h0 h1 v0 t27 v2 t26 h1 g0 f4) := hD2
              clear hP2 hD2
              refine lv_if_eq (tgt := 72) hx hb dX10_takeNumber_34 (by decide) (fun c30 => ?_) (fun c30 => ?_)
              · skip
                have fc30 : ra29.toInt = 0 := congrArg Int32.toInt c30
                refine lv_aload_n hx hb dX10_takeNumber_72 rfl (lv_at hl 1 rfl) ?_
                have hPc := hP.sub (ws' := (wd_82cdd16b h0 h1 v0 t27 v2 t26 h1 g0 f4)) [0, 1] rfl
                have hDc := hD.sub (ws' := (wd_82cdd16b h0 h1 v0 t27 v2 t26 h1 g0 f4)) [0, 1] (by decide) rfl
                have hKc := hK.sub (tys' := [(g0, .int)]) [0] rfl
                have hFc := va_free (wc := (wd_82cdd16b h0 h1 v0 t27 v2 t26 h1 g0 f4)) hD hS hA [0, 1] rfl
                refine va_calli (va_runV (As := []) (rest := []) ⟨hx, hb, hml, hown, hts⟩ (k_X10_sign l dC dI h0 h1 v0 t27 v2 t26 g0 f4 ⟨i_v0a, i_v0b⟩ ⟨by first | omega | decide, by first | omega | decide⟩ ia_f4 H.size) (cwV 0 hts g_X10_takeNumber_1_4 rfl rfl rfl (by decide +kernel) ⟨Nat.le_of_ble_eq_true rfl, Nat.le_of_ble_eq_true rfl⟩) (pv_PV10 hPc hKc hDc (q0 := 0) rfl) rfl rfl hl.1 rfl (lv_room (Nat.le_of_ble_eq_true rfl)) dX10_takeNumber_73 ⟨Nat.le_of_ble_eq_true rfl, Nat.le_of_ble_eq_true rfl⟩) hS (fun q _ h => hFc q h) hFc (fun ra31 u t H1 locs ht hvm hwra31 hB hz1 hk1 hS => ?_)
                try rw [hwra31] at hB
                rcases hB with hB | hB
                · skip
                  obtain ⟨pt0_ra31, pt1_ra31, pt2_ra31, pt3_ra31, hP1, hK1, hD1⟩ := hB
                  rw [ht] at hP1
                  obtain ⟨hP2, hD2⟩ := va_join (wr := []) (w1 := (wd_82cdd16b h0 h1 v0 t27 v2 t26 h1 g0 f4)) hP hD [0, 1] [] rfl rfl (by decide) (by decide) hk1 hFc hP1 hD1
                  clear hP hD hPc hDc hKc hFc hP1 hK1 hD1 hk1 hz1
                  generalize H1 = H at hP2 hS ⊢
                  have hP : va_P (dC, dI) vwCl (wd_82cdd16b h0 h1 v0 t27 v2 t26 h1 g0 f4) H := hP2
                  have hD : va_D A (wd_82cdd16b h0 h1 v0 t27 v2 t26 h1 g0 f4) := hD2
                  clear hP2 hD2
                  obtain rfl : ra31 = ((-1) : Int32) := pv_cs (by decide) pt0_ra31 pt1_ra31
                  have hPc := hP.sub (ws' := []) [] rfl
                  have hDc := hD.sub (ws' := []) [] (by decide) rfl
                  have hKc := hK.sub (tys' := []) [] rfl
                  have hFc := va_free (wc := []) hD hS hA [] rfl
                  refine va_calli (va_runS (As := [.int (-1)]) (rest := []) ⟨hx, hb, hml, hown, hts⟩ (k_X10_isDigit l dC dI ((-1))  H.size) (va_cwS 1 hts g_X10_takeNumber_1_1 rfl rfl rfl (by decide +kernel) ⟨Nat.le_of_ble_eq_true rfl, Nat.le_of_ble_eq_true rfl⟩) (pv_PS hPc hKc hDc) rfl rfl hl.1 rfl (lv_room (Nat.le_of_ble_eq_true rfl)) dX10_takeNumber_76 ⟨Nat.le_of_ble_eq_true rfl, Nat.le_of_ble_eq_true rfl⟩) hS (fun q _ h => hFc q h) hFc (fun ra32 u t H1 locs ht hvm hwra32 hB hz1 hk1 hS => ?_)
                  try rw [hwra32] at hB
                  have hkra32_0 : (((-1) : Int32)).toInt = -1 := by decide
                  obtain ⟨pt0_ra32, pt1_ra32, pt2_ra32, pt3_ra32, pt4_ra32, hP1, hK1, hD1⟩ := hB
                  rw [ht] at hP1
                  obtain ⟨hP2, hD2⟩ := va_join (wr := (wd_82cdd16b h0 h1 v0 t27 v2 t26 h1 g0 f4)) (w1 := []) hP hD [] [0, 1] rfl rfl (by decide) (by decide) hk1 hFc hP1 hD1
                  clear hP hD hPc hDc hKc hFc hP1 hK1 hD1 hk1 hz1
                  generalize H1 = H at hP2 hS ⊢
                  have hP : va_P (dC, dI) vwCl (wd_82cdd16b h0 h1 v0 t27 v2 t26 h1 g0 f4) H := hP2
                  have hD : va_D A (wd_82cdd16b h0 h1 v0 t27 v2 t26 h1 g0 f4) := hD2
                  clear hP2 hD2
                  refine lv_if_eq (tgt := 89) hx hb dX10_takeNumber_79 (by decide) (fun c33 => ?_) (fun c33 => ?_)
                  · skip
                    have fc33 : ra32.toInt = 0 := congrArg Int32.toInt c33
                    refine lv_iconst (v := 1) hx hb dX10_takeNumber_89 (by decide) ?_
                    refine lv_goto (tgt := 94) hx hb dX10_takeNumber_90 (by decide) ?_
                    subst hQ
                    have hP9 := hP.sub (ws' := (wd_82cdd16b h0 h1 v0 t27 v2 t26 h1 g0 f4)) [0, 1] rfl
                    have hD9 := hD.sub (ws' := (wd_82cdd16b h0 h1 v0 t27 v2 t26 h1 g0 f4)) [0, 1] (by decide) rfl
                    have hK9 := hK.sub (tys' := []) [] rfl
                    exact W.zret (v := 1) hx hb hr rfl (fun t ht hW => ⟨⟨1, 1, rfl, rfl, Or.inl ⟨t27, t26, by first | omega | decide, by first | omega | decide, by first | omega | decide, by first | omega | decide, by first | omega | decide, by first | omega | decide, by omega, by first | (apply pg_tn.two <;> first | assumption | omega) | (apply pg_tn.one <;> first | assumption | omega), by omega, by rw [ht]; exact hP9, va_K.moved hW.alike hK9, hD9⟩⟩, hS.F ht⟩) hS.2.2 dX10_takeNumber_94
                  · skip
                    have fc33 : ¬ (ra32.toInt = 0) := fun h9 => c33 (Int32.toInt_inj.mp h9)
                    exfalso; omega
                · skip
                  obtain ⟨pt0_ra31, pt1_ra31, pt2_ra31, pt3_ra31, hP1, hK1, hD1⟩ := hB
                  rw [ht] at hP1
                  obtain ⟨hP2, hD2⟩ := va_join (wr := []) (w1 := (wd_82cdd16b h0 h1 v0 t27 v2 t26 h1 g0 f4)) hP hD [0, 1] [] rfl rfl (by decide) (by decide) hk1 hFc hP1 hD1
                  clear hP hD hPc hDc hKc hFc hP1 hK1 hD1 hk1 hz1
                  generalize H1 = H at hP2 hS ⊢
                  have hP : va_P (dC, dI) vwCl (wd_82cdd16b h0 h1 v0 t27 v2 t26 h1 g0 f4) H := hP2
                  have hD : va_D A (wd_82cdd16b h0 h1 v0 t27 v2 t26 h1 g0 f4) := hD2
                  clear hP2 hD2
                  exfalso; omega
              · skip
                have fc30 : ¬ (ra29.toInt = 0) := fun h9 => c30 (Int32.toInt_inj.mp h9)
                exfalso; omega
            · skip
              obtain ⟨pt0_ra28, pt1_ra28, pt2_ra28, pt3_ra28, hP1, hK1, hD1⟩ := hB
              rw [ht] at hP1
              obtain ⟨hP2, hD2⟩ := va_join (wr := []) (w1 := (wd_82cdd16b h0 h1 v0 t27 v2 t26 h1 g0 f4)) hP hD [0, 1] [] rfl rfl (by decide) (by decide) hk1 hFc hP1 hD1
              clear hP hD hPc hDc hKc hFc hP1 hK1 hD1 hk1 hz1
              generalize H1 = H at hP2 hS ⊢
              have hP : va_P (dC, dI) vwCl (wd_82cdd16b h0 h1 v0 t27 v2 t26 h1 g0 f4) H := hP2
              have hD : va_D A (wd_82cdd16b h0 h1 v0 t27 v2 t26 h1 g0 f4) := hD2
              clear hP2 hD2
              have hPc := hP.sub (ws' := []) [] rfl
              have hDc := hD.sub (ws' := []) [] (by decide) rfl
              have hKc := hK.sub (tys' := []) [] rfl
              have hFc := va_free (wc := []) hD hS hA [] rfl
              refine va_calli (va_runS (As := [.int ra28]) (rest := []) ⟨hx, hb, hml, hown, hts⟩ (k_X10_isDigit l dC dI ra28  H.size) (va_cwS 1 hts g_X10_takeNumber_1_1 rfl rfl rfl (by decide +kernel) ⟨Nat.le_of_ble_eq_true rfl, Nat.le_of_ble_eq_true rfl⟩) (pv_PS hPc hKc hDc) rfl rfl hl.1 rfl (lv_room (Nat.le_of_ble_eq_true rfl)) dX10_takeNumber_31 ⟨Nat.le_of_ble_eq_true rfl, Nat.le_of_ble_eq_true rfl⟩) hS (fun q _ h => hFc q h) hFc (fun ra34 u t H1 locs ht hvm hwra34 hB hz1 hk1 hS => ?_)
              try rw [hwra34] at hB
              obtain ⟨pt0_ra34, pt1_ra34, pt2_ra34, pt3_ra34, pt4_ra34, hP1, hK1, hD1⟩ := hB
              rw [ht] at hP1
              obtain ⟨hP2, hD2⟩ := va_join (wr := (wd_82cdd16b h0 h1 v0 t27 v2 t26 h1 g0 f4)) (w1 := []) hP hD [] [0, 1] rfl rfl (by decide) (by decide) hk1 hFc hP1 hD1
              clear hP hD hPc hDc hKc hFc hP1 hK1 hD1 hk1 hz1
              generalize H1 = H at hP2 hS ⊢
              have hP : va_P (dC, dI) vwCl (wd_82cdd16b h0 h1 v0 t27 v2 t26 h1 g0 f4) H := hP2
              have hD : va_D A (wd_82cdd16b h0 h1 v0 t27 v2 t26 h1 g0 f4) := hD2
              clear hP2 hD2
              refine lv_if_eq (tgt := 72) hx hb dX10_takeNumber_34 (by decide) (fun c35 => ?_) (fun c35 => ?_)
              · skip
                have fc35 : ra34.toInt = 0 := congrArg Int32.toInt c35
                refine lv_aload_n hx hb dX10_takeNumber_72 rfl (lv_at hl 1 rfl) ?_
                have hPc := hP.sub (ws' := (wd_82cdd16b h0 h1 v0 t27 v2 t26 h1 g0 f4)) [0, 1] rfl
                have hDc := hD.sub (ws' := (wd_82cdd16b h0 h1 v0 t27 v2 t26 h1 g0 f4)) [0, 1] (by decide) rfl
                have hKc := hK.sub (tys' := [(g0, .int)]) [0] rfl
                have hFc := va_free (wc := (wd_82cdd16b h0 h1 v0 t27 v2 t26 h1 g0 f4)) hD hS hA [0, 1] rfl
                refine va_calli (va_runV (As := []) (rest := []) ⟨hx, hb, hml, hown, hts⟩ (k_X10_sign l dC dI h0 h1 v0 t27 v2 t26 g0 f4 ⟨i_v0a, i_v0b⟩ ⟨by first | omega | decide, by first | omega | decide⟩ ia_f4 H.size) (cwV 0 hts g_X10_takeNumber_1_4 rfl rfl rfl (by decide +kernel) ⟨Nat.le_of_ble_eq_true rfl, Nat.le_of_ble_eq_true rfl⟩) (pv_PV10 hPc hKc hDc (q0 := 0) rfl) rfl rfl hl.1 rfl (lv_room (Nat.le_of_ble_eq_true rfl)) dX10_takeNumber_73 ⟨Nat.le_of_ble_eq_true rfl, Nat.le_of_ble_eq_true rfl⟩) hS (fun q _ h => hFc q h) hFc (fun ra36 u t H1 locs ht hvm hwra36 hB hz1 hk1 hS => ?_)
                try rw [hwra36] at hB
                rcases hB with hB | hB
                · skip
                  obtain ⟨pt0_ra36, pt1_ra36, pt2_ra36, pt3_ra36, hP1, hK1, hD1⟩ := hB
                  rw [ht] at hP1
                  obtain ⟨hP2, hD2⟩ := va_join (wr := []) (w1 := (wd_82cdd16b h0 h1 v0 t27 v2 t26 h1 g0 f4)) hP hD [0, 1] [] rfl rfl (by decide) (by decide) hk1 hFc hP1 hD1
                  clear hP hD hPc hDc hKc hFc hP1 hK1 hD1 hk1 hz1
                  generalize H1 = H at hP2 hS ⊢
                  have hP : va_P (dC, dI) vwCl (wd_82cdd16b h0 h1 v0 t27 v2 t26 h1 g0 f4) H := hP2
                  have hD : va_D A (wd_82cdd16b h0 h1 v0 t27 v2 t26 h1 g0 f4) := hD2
                  clear hP2 hD2
                  obtain rfl : ra36 = ((-1) : Int32) := pv_cs (by decide) pt0_ra36 pt1_ra36
                  exfalso; omega
                · skip
                  obtain ⟨pt0_ra36, pt1_ra36, pt2_ra36, pt3_ra36, hP1, hK1, hD1⟩ := hB
                  rw [ht] at hP1
                  obtain ⟨hP2, hD2⟩ := va_join (wr := []) (w1 := (wd_82cdd16b h0 h1 v0 t27 v2 t26 h1 g0 f4)) hP hD [0, 1] [] rfl rfl (by decide) (by decide) hk1 hFc hP1 hD1
                  clear hP hD hPc hDc hKc hFc hP1 hK1 hD1 hk1 hz1
                  generalize H1 = H at hP2 hS ⊢
                  have hP : va_P (dC, dI) vwCl (wd_82cdd16b h0 h1 v0 t27 v2 t26 h1 g0 f4) H := hP2
                  have hD : va_D A (wd_82cdd16b h0 h1 v0 t27 v2 t26 h1 g0 f4) := hD2
                  clear hP2 hD2
                  have hPc := hP.sub (ws' := []) [] rfl
                  have hDc := hD.sub (ws' := []) [] (by decide) rfl
                  have hKc := hK.sub (tys' := []) [] rfl
                  have hFc := va_free (wc := []) hD hS hA [] rfl
                  refine va_calli (va_runS (As := [.int ra36]) (rest := []) ⟨hx, hb, hml, hown, hts⟩ (k_X10_isDigit l dC dI ra36  H.size) (va_cwS 1 hts g_X10_takeNumber_1_1 rfl rfl rfl (by decide +kernel) ⟨Nat.le_of_ble_eq_true rfl, Nat.le_of_ble_eq_true rfl⟩) (pv_PS hPc hKc hDc) rfl rfl hl.1 rfl (lv_room (Nat.le_of_ble_eq_true rfl)) dX10_takeNumber_76 ⟨Nat.le_of_ble_eq_true rfl, Nat.le_of_ble_eq_true rfl⟩) hS (fun q _ h => hFc q h) hFc (fun ra37 u t H1 locs ht hvm hwra37 hB hz1 hk1 hS => ?_)
                  try rw [hwra37] at hB
                  obtain ⟨pt0_ra37, pt1_ra37, pt2_ra37, pt3_ra37, pt4_ra37, hP1, hK1, hD1⟩ := hB
                  rw [ht] at hP1
                  obtain ⟨hP2, hD2⟩ := va_join (wr := (wd_82cdd16b h0 h1 v0 t27 v2 t26 h1 g0 f4)) (w1 := []) hP hD [] [0, 1] rfl rfl (by decide) (by decide) hk1 hFc hP1 hD1
                  clear hP hD hPc hDc hKc hFc hP1 hK1 hD1 hk1 hz1
                  generalize H1 = H at hP2 hS ⊢
                  have hP : va_P (dC, dI) vwCl (wd_82cdd16b h0 h1 v0 t27 v2 t26 h1 g0 f4) H := hP2
                  have hD : va_D A (wd_82cdd16b h0 h1 v0 t27 v2 t26 h1 g0 f4) := hD2
                  clear hP2 hD2
                  refine lv_if_eq (tgt := 89) hx hb dX10_takeNumber_79 (by decide) (fun c38 => ?_) (fun c38 => ?_)
                  · skip
                    have fc38 : ra37.toInt = 0 := congrArg Int32.toInt c38
                    refine lv_iconst (v := 1) hx hb dX10_takeNumber_89 (by decide) ?_
                    refine lv_goto (tgt := 94) hx hb dX10_takeNumber_90 (by decide) ?_
                    subst hQ
                    have hP9 := hP.sub (ws' := (wd_82cdd16b h0 h1 v0 t27 v2 t26 h1 g0 f4)) [0, 1] rfl
                    have hD9 := hD.sub (ws' := (wd_82cdd16b h0 h1 v0 t27 v2 t26 h1 g0 f4)) [0, 1] (by decide) rfl
                    have hK9 := hK.sub (tys' := []) [] rfl
                    exact W.zret (v := 1) hx hb hr rfl (fun t ht hW => ⟨⟨1, 1, rfl, rfl, Or.inl ⟨t27, t26, by first | omega | decide, by first | omega | decide, by first | omega | decide, by first | omega | decide, by first | omega | decide, by first | omega | decide, by omega, by first | (apply pg_tn.two <;> first | assumption | omega) | (apply pg_tn.one <;> first | assumption | omega), by omega, by rw [ht]; exact hP9, va_K.moved hW.alike hK9, hD9⟩⟩, hS.F ht⟩) hS.2.2 dX10_takeNumber_94
                  · skip
                    have fc38 : ¬ (ra37.toInt = 0) := fun h9 => c38 (Int32.toInt_inj.mp h9)
                    refine lv_aload_n hx hb dX10_takeNumber_82 rfl (lv_at hl 1 rfl) ?_
                    have hPc := hP.sub (ws' := (wd_09b0abee h0 h1 v0 t27 v2 t26)) [0] rfl
                    have hDc := hD.sub (ws' := (wd_09b0abee h0 h1 v0 t27 v2 t26)) [0] (by decide) rfl
                    have hKc := hK.sub (tys' := []) [] rfl
                    have hFc := va_free (wc := (wd_09b0abee h0 h1 v0 t27 v2 t26)) hD hS hA [0] rfl
                    refine va_calli (va_runV (As := []) (rest := []) ⟨hx, hb, hml, hown, hts⟩ (k_X10_wrongHere l dC dI h0 h1 v0 t27 v2 t26 ⟨i_v0a, i_v0b⟩ ⟨by first | omega | decide, by first | omega | decide⟩ H.size) (cwV 0 hts g_X10_takeNumber_1_2 rfl rfl rfl (by decide +kernel) ⟨Nat.le_of_ble_eq_true rfl, Nat.le_of_ble_eq_true rfl⟩) (pv_PV10 hPc hKc hDc (q0 := 0) rfl) rfl rfl hl.1 rfl (lv_room (Nat.le_of_ble_eq_true rfl)) dX10_takeNumber_83 ⟨Nat.le_of_ble_eq_true rfl, Nat.le_of_ble_eq_true rfl⟩) hS (fun q _ h => hFc q h) hFc (fun ra39 u t H1 locs ht hvm hwra39 hB hz1 hk1 hS => ?_)
                    try rw [hwra39] at hB
                    obtain ⟨x40, oa_x40, ob_x40, pt0_ra39, pt1_ra39, pt2_ra39, hP1, hK1, hD1⟩ := hB
                    rw [ht] at hP1
                    obtain ⟨hP2, hD2⟩ := va_join (wr := (wd_d0032b31 h1 g0 f4)) (w1 := (wd_09b0abee h0 h1 v0 t27 x40 t26)) hP hD [0] [1] rfl rfl (by decide) (by decide) hk1 hFc hP1 hD1
                    clear hP hD hPc hDc hKc hFc hP1 hK1 hD1 hk1 hz1
                    generalize H1 = H at hP2 hS ⊢
                    have hP := hP2.sub (ws' := (wd_82cdd16b h0 h1 v0 t27 x40 t26 h1 g0 f4)) [1, 0] rfl
                    have hD := hD2.sub (ws' := (wd_82cdd16b h0 h1 v0 t27 x40 t26 h1 g0 f4)) [1, 0] (by decide) rfl
                    clear hP2 hD2
                    obtain rfl : ra39 = (0 : Int32) := pv_cs (by decide) pt0_ra39 pt1_ra39
                    refine lv_if_eq (tgt := 93) hx hb dX10_takeNumber_86 (by decide) (fun _ => ?_) (fun c => absurd (by decide) c)
                    refine lv_iconst (v := 0) hx hb dX10_takeNumber_93 (by decide) ?_
                    subst hQ
                    have hP9 := hP.sub (ws' := (wd_82cdd16b h0 h1 v0 t27 x40 t26 h1 g0 f4)) [0, 1] rfl
                    have hD9 := hD.sub (ws' := (wd_82cdd16b h0 h1 v0 t27 x40 t26 h1 g0 f4)) [0, 1] (by decide) rfl
                    have hK9 := hK.sub (tys' := []) [] rfl
                    exact W.zret (v := 0) hx hb hr rfl (fun t ht hW => ⟨⟨0, 0, rfl, rfl, Or.inr (⟨t27, x40, t26, by first | omega | decide, by first | omega | decide, oa_x40, ob_x40, by first | omega | decide, by first | omega | decide, by omega, by first | (apply pg_tn.none <;> first | assumption | omega) | (apply pg_tn.three <;> first | assumption | omega) | (exfalso; omega), by rw [ht]; exact hP9, va_K.moved hW.alike hK9, hD9⟩)⟩, hS.F ht⟩) hS.2.2 dX10_takeNumber_94
              · skip
                have fc35 : ¬ (ra34.toInt = 0) := fun h9 => c35 (Int32.toInt_inj.mp h9)
                refine lv_aload_n hx hb dX10_takeNumber_37 rfl (lv_at hl 1 rfl) ?_
                refine lv_aload_n hx hb dX10_takeNumber_38 rfl (lv_at hl 1 rfl) ?_
                refine va_get (D := (dC, dI)) (ci := 10) (v := .int t26) (C := RX10) (T := TX10) (N := 5) hx hb hts (fun _ h => List.mem_cons_of_mem _ (List.mem_append_right _ h)) hown hK hP 0 rfl rfl 4 (by decide) (hts (.fieldLink RX10 25 "LeftArguments$Tape" "number" "I") (List.mem_cons_of_mem _ (List.mem_append_left _ (List.mem_of_getElem? (i := 16) rfl)))) (fun _ h9 => h9) rfl dX10_takeNumber_39 ?_
                refine lv_bipush (v := 10) hx hb dX10_takeNumber_42 (by decide) ?_
                refine lv_imul hx hb dX10_takeNumber_44 ?_
                refine lv_topi (fun t41 et41 => ?_)
                have gt41 : t41.toInt = t26.toInt * 10 := pv_mul (a := t26.toInt) (b := 10) et41 rfl (by decide) (by omega) (by omega)
                refine lv_aload_n hx hb dX10_takeNumber_45 rfl (lv_at hl 1 rfl) ?_
                have hPc := hP.sub (ws' := (wd_82cdd16b h0 h1 v0 t27 v2 t26 h1 g0 f4)) [0, 1] rfl
                have hDc := hD.sub (ws' := (wd_82cdd16b h0 h1 v0 t27 v2 t26 h1 g0 f4)) [0, 1] (by decide) rfl
                have hKc := hK.sub (tys' := [(g0, .int)]) [0] rfl
                have hFc := va_free (wc := (wd_82cdd16b h0 h1 v0 t27 v2 t26 h1 g0 f4)) hD hS hA [0, 1] rfl
                refine va_calli (va_runV (As := []) (rest := [.int t41, .ref h0]) ⟨hx, hb, hml, hown, hts⟩ (k_X10_sign l dC dI h0 h1 v0 t27 v2 t26 g0 f4 ⟨i_v0a, i_v0b⟩ ⟨by first | omega | decide, by first | omega | decide⟩ ia_f4 H.size) (cwV 0 hts g_X10_takeNumber_1_4 rfl rfl rfl (by decide +kernel) ⟨Nat.le_of_ble_eq_true rfl, Nat.le_of_ble_eq_true rfl⟩) (pv_PV10 hPc hKc hDc (q0 := 0) rfl) rfl rfl hl.1 rfl (lv_room (Nat.le_of_ble_eq_true rfl)) dX10_takeNumber_46 ⟨Nat.le_of_ble_eq_true rfl, Nat.le_of_ble_eq_true rfl⟩) hS (fun q _ h => hFc q h) hFc (fun ra42 u t H1 locs ht hvm hwra42 hB hz1 hk1 hS => ?_)
                try rw [hwra42] at hB
                rcases hB with hB | hB
                · skip
                  obtain ⟨pt0_ra42, pt1_ra42, pt2_ra42, pt3_ra42, hP1, hK1, hD1⟩ := hB
                  rw [ht] at hP1
                  obtain ⟨hP2, hD2⟩ := va_join (wr := []) (w1 := (wd_82cdd16b h0 h1 v0 t27 v2 t26 h1 g0 f4)) hP hD [0, 1] [] rfl rfl (by decide) (by decide) hk1 hFc hP1 hD1
                  clear hP hD hPc hDc hKc hFc hP1 hK1 hD1 hk1 hz1
                  generalize H1 = H at hP2 hS ⊢
                  have hP : va_P (dC, dI) vwCl (wd_82cdd16b h0 h1 v0 t27 v2 t26 h1 g0 f4) H := hP2
                  have hD : va_D A (wd_82cdd16b h0 h1 v0 t27 v2 t26 h1 g0 f4) := hD2
                  clear hP2 hD2
                  obtain rfl : ra42 = ((-1) : Int32) := pv_cs (by decide) pt0_ra42 pt1_ra42
                  exfalso; omega
                · skip
                  obtain ⟨pt0_ra42, pt1_ra42, pt2_ra42, pt3_ra42, hP1, hK1, hD1⟩ := hB
                  rw [ht] at hP1
                  obtain ⟨hP2, hD2⟩ := va_join (wr := []) (w1 := (wd_82cdd16b h0 h1 v0 t27 v2 t26 h1 g0 f4)) hP hD [0, 1] [] rfl rfl (by decide) (by decide) hk1 hFc hP1 hD1
                  clear hP hD hPc hDc hKc hFc hP1 hK1 hD1 hk1 hz1
                  generalize H1 = H at hP2 hS ⊢
                  have hP : va_P (dC, dI) vwCl (wd_82cdd16b h0 h1 v0 t27 v2 t26 h1 g0 f4) H := hP2
                  have hD : va_D A (wd_82cdd16b h0 h1 v0 t27 v2 t26 h1 g0 f4) := hD2
                  clear hP2 hD2
                  refine lv_iadd hx hb dX10_takeNumber_49 ?_
                  refine lv_topi (fun t43 et43 => ?_)
                  have gt43 : t43.toInt = t41.toInt + ra42.toInt := pv_add (a := t41.toInt) (b := ra42.toInt) et43 rfl rfl (by omega) (by omega)
                  refine lv_bipush (v := 48) hx hb dX10_takeNumber_50 (by decide) ?_
                  refine lv_isub hx hb dX10_takeNumber_52 ?_
                  refine lv_topi (fun t44 et44 => ?_)
                  have gt44 : t44.toInt = t43.toInt - 48 := pv_sub (a := t43.toInt) (b := 48) et44 rfl (by decide) (by omega) (by omega)
                  refine va_put (D := (dC, dI)) (ci := 10) (v := .int t44) (ty := .int) (C := RX10) (T := TX10) (N := 5) hx hb hts (fun _ h => List.mem_cons_of_mem _ (List.mem_append_right _ h)) tyX10 tyX10_ok nmX10 hown hK hP hD hS 0 rfl rfl 4 (by decide) (hts (.fieldLink RX10 25 "LeftArguments$Tape" "number" "I") (List.mem_cons_of_mem _ (List.mem_append_left _ (List.mem_of_getElem? (i := 16) rfl)))) (fun _ h9 => h9) rfl (by decide +kernel) rfl rfl (Nat.le_of_ble_eq_true rfl) dX10_takeNumber_53 (fun H locs hP hD hS => ?_)
                  have hP : va_P (dC, dI) vwCl (wd_82cdd16b h0 h1 v0 t27 v2 t44 h1 g0 f4) H := hP
                  have hD : va_D A (wd_82cdd16b h0 h1 v0 t27 v2 t44 h1 g0 f4) := hD
                  refine lv_aload_n hx hb dX10_takeNumber_56 rfl (lv_at hl 1 rfl) ?_
                  refine lv_dup hx hb dX10_takeNumber_57 rfl ?_
                  refine va_get (D := (dC, dI)) (ci := 10) (v := .int t27) (C := RX10) (T := TX10) (N := 5) hx hb hts (fun _ h => List.mem_cons_of_mem _ (List.mem_append_right _ h)) hown hK hP 0 rfl rfl 2 (by decide) (hts (.fieldLink RX10 19 "LeftArguments$Tape" "at" "I") (List.mem_cons_of_mem _ (List.mem_append_left _ (List.mem_of_getElem? (i := 1) rfl)))) (fun _ h9 => h9) rfl dX10_takeNumber_58 ?_
                  refine lv_iconst (v := 1) hx hb dX10_takeNumber_61 (by decide) ?_
                  refine lv_iadd hx hb dX10_takeNumber_62 ?_
                  refine lv_topi (fun t45 et45 => ?_)
                  have gt45 : t45.toInt = t27.toInt + 1 := pv_add (a := t27.toInt) (b := 1) et45 rfl (by decide) (by omega) (by omega)
                  refine va_put (D := (dC, dI)) (ci := 10) (v := .int t45) (ty := .int) (C := RX10) (T := TX10) (N := 5) hx hb hts (fun _ h => List.mem_cons_of_mem _ (List.mem_append_right _ h)) tyX10 tyX10_ok nmX10 hown hK hP hD hS 0 rfl rfl 2 (by decide) (hts (.fieldLink RX10 19 "LeftArguments$Tape" "at" "I") (List.mem_cons_of_mem _ (List.mem_append_left _ (List.mem_of_getElem? (i := 1) rfl)))) (fun _ h9 => h9) rfl (by decide +kernel) rfl rfl (Nat.le_of_ble_eq_true rfl) dX10_takeNumber_63 (fun H locs hP hD hS => ?_)
                  have hP : va_P (dC, dI) vwCl (wd_82cdd16b h0 h1 v0 t45 v2 t44 h1 g0 f4) H := hP
                  have hD : va_D A (wd_82cdd16b h0 h1 v0 t45 v2 t44 h1 g0 f4) := hD
                  refine lv_iinc (v := 2) (lv' := [(2, .int 2), (0, .ref h0), (1, .int 2)]) hx hb dX10_takeNumber_66 hl (k := 0) rfl (by decide) (by decide) rfl (fun ls hl => ?_)
                  refine lv_goto (tgt := 22) hx hb dX10_takeNumber_69 (by decide) ?_
                  refine lv_iload_n hx hb dX10_takeNumber_22 rfl (lv_at hl 0 rfl) ?_
                  refine lv_iload_n hx hb dX10_takeNumber_23 rfl (lv_at hl 2 rfl) ?_
                  refine lv_icmp_ge (tgt := 72) hx hb dX10_takeNumber_24 (by decide) (fun _ => ?_) (fun c => absurd (by decide) c)
                  refine lv_aload_n hx hb dX10_takeNumber_72 rfl (lv_at hl 1 rfl) ?_
                  have hPc := hP.sub (ws' := (wd_82cdd16b h0 h1 v0 t45 v2 t44 h1 g0 f4)) [0, 1] rfl
                  have hDc := hD.sub (ws' := (wd_82cdd16b h0 h1 v0 t45 v2 t44 h1 g0 f4)) [0, 1] (by decide) rfl
                  have hKc := hK.sub (tys' := [(g0, .int)]) [0] rfl
                  have hFc := va_free (wc := (wd_82cdd16b h0 h1 v0 t45 v2 t44 h1 g0 f4)) hD hS hA [0, 1] rfl
                  refine va_calli (va_runV (As := []) (rest := []) ⟨hx, hb, hml, hown, hts⟩ (k_X10_sign l dC dI h0 h1 v0 t45 v2 t44 g0 f4 ⟨i_v0a, i_v0b⟩ ⟨by first | omega | decide, by first | omega | decide⟩ ia_f4 H.size) (cwV 0 hts g_X10_takeNumber_1_4 rfl rfl rfl (by decide +kernel) ⟨Nat.le_of_ble_eq_true rfl, Nat.le_of_ble_eq_true rfl⟩) (pv_PV10 hPc hKc hDc (q0 := 0) rfl) rfl rfl hl.1 rfl (lv_room (Nat.le_of_ble_eq_true rfl)) dX10_takeNumber_73 ⟨Nat.le_of_ble_eq_true rfl, Nat.le_of_ble_eq_true rfl⟩) hS (fun q _ h => hFc q h) hFc (fun ra46 u t H1 locs ht hvm hwra46 hB hz1 hk1 hS => ?_)
                  try rw [hwra46] at hB
                  rcases hB with hB | hB
                  · skip
                    obtain ⟨pt0_ra46, pt1_ra46, pt2_ra46, pt3_ra46, hP1, hK1, hD1⟩ := hB
                    rw [ht] at hP1
                    obtain ⟨hP2, hD2⟩ := va_join (wr := []) (w1 := (wd_82cdd16b h0 h1 v0 t45 v2 t44 h1 g0 f4)) hP hD [0, 1] [] rfl rfl (by decide) (by decide) hk1 hFc hP1 hD1
                    clear hP hD hPc hDc hKc hFc hP1 hK1 hD1 hk1 hz1
                    generalize H1 = H at hP2 hS ⊢
                    have hP : va_P (dC, dI) vwCl (wd_82cdd16b h0 h1 v0 t45 v2 t44 h1 g0 f4) H := hP2
                    have hD : va_D A (wd_82cdd16b h0 h1 v0 t45 v2 t44 h1 g0 f4) := hD2
                    clear hP2 hD2
                    obtain rfl : ra46 = ((-1) : Int32) := pv_cs (by decide) pt0_ra46 pt1_ra46
                    have hPc := hP.sub (ws' := []) [] rfl
                    have hDc := hD.sub (ws' := []) [] (by decide) rfl
                    have hKc := hK.sub (tys' := []) [] rfl
                    have hFc := va_free (wc := []) hD hS hA [] rfl
                    refine va_calli (va_runS (As := [.int (-1)]) (rest := []) ⟨hx, hb, hml, hown, hts⟩ (k_X10_isDigit l dC dI ((-1))  H.size) (va_cwS 1 hts g_X10_takeNumber_1_1 rfl rfl rfl (by decide +kernel) ⟨Nat.le_of_ble_eq_true rfl, Nat.le_of_ble_eq_true rfl⟩) (pv_PS hPc hKc hDc) rfl rfl hl.1 rfl (lv_room (Nat.le_of_ble_eq_true rfl)) dX10_takeNumber_76 ⟨Nat.le_of_ble_eq_true rfl, Nat.le_of_ble_eq_true rfl⟩) hS (fun q _ h => hFc q h) hFc (fun ra47 u t H1 locs ht hvm hwra47 hB hz1 hk1 hS => ?_)
                    try rw [hwra47] at hB
                    have hkra47_0 : (((-1) : Int32)).toInt = -1 := by decide
                    obtain ⟨pt0_ra47, pt1_ra47, pt2_ra47, pt3_ra47, pt4_ra47, hP1, hK1, hD1⟩ := hB
                    rw [ht] at hP1
                    obtain ⟨hP2, hD2⟩ := va_join (wr := (wd_82cdd16b h0 h1 v0 t45 v2 t44 h1 g0 f4)) (w1 := []) hP hD [] [0, 1] rfl rfl (by decide) (by decide) hk1 hFc hP1 hD1
                    clear hP hD hPc hDc hKc hFc hP1 hK1 hD1 hk1 hz1
                    generalize H1 = H at hP2 hS ⊢
                    have hP : va_P (dC, dI) vwCl (wd_82cdd16b h0 h1 v0 t45 v2 t44 h1 g0 f4) H := hP2
                    have hD : va_D A (wd_82cdd16b h0 h1 v0 t45 v2 t44 h1 g0 f4) := hD2
                    clear hP2 hD2
                    refine lv_if_eq (tgt := 89) hx hb dX10_takeNumber_79 (by decide) (fun c48 => ?_) (fun c48 => ?_)
                    · skip
                      have fc48 : ra47.toInt = 0 := congrArg Int32.toInt c48
                      refine lv_iconst (v := 1) hx hb dX10_takeNumber_89 (by decide) ?_
                      refine lv_goto (tgt := 94) hx hb dX10_takeNumber_90 (by decide) ?_
                      subst hQ
                      have hP9 := hP.sub (ws' := (wd_82cdd16b h0 h1 v0 t45 v2 t44 h1 g0 f4)) [0, 1] rfl
                      have hD9 := hD.sub (ws' := (wd_82cdd16b h0 h1 v0 t45 v2 t44 h1 g0 f4)) [0, 1] (by decide) rfl
                      have hK9 := hK.sub (tys' := []) [] rfl
                      exact W.zret (v := 1) hx hb hr rfl (fun t ht hW => ⟨⟨1, 1, rfl, rfl, Or.inl ⟨t45, t44, by first | omega | decide, by first | omega | decide, by first | omega | decide, by first | omega | decide, by first | omega | decide, by first | omega | decide, by omega, by first | (apply pg_tn.two <;> first | assumption | omega) | (apply pg_tn.one <;> first | assumption | omega), by omega, by rw [ht]; exact hP9, va_K.moved hW.alike hK9, hD9⟩⟩, hS.F ht⟩) hS.2.2 dX10_takeNumber_94
                    · skip
                      have fc48 : ¬ (ra47.toInt = 0) := fun h9 => c48 (Int32.toInt_inj.mp h9)
                      exfalso; omega
                  · skip
                    obtain ⟨pt0_ra46, pt1_ra46, pt2_ra46, pt3_ra46, hP1, hK1, hD1⟩ := hB
                    rw [ht] at hP1
                    obtain ⟨hP2, hD2⟩ := va_join (wr := []) (w1 := (wd_82cdd16b h0 h1 v0 t45 v2 t44 h1 g0 f4)) hP hD [0, 1] [] rfl rfl (by decide) (by decide) hk1 hFc hP1 hD1
                    clear hP hD hPc hDc hKc hFc hP1 hK1 hD1 hk1 hz1
                    generalize H1 = H at hP2 hS ⊢
                    have hP : va_P (dC, dI) vwCl (wd_82cdd16b h0 h1 v0 t45 v2 t44 h1 g0 f4) H := hP2
                    have hD : va_D A (wd_82cdd16b h0 h1 v0 t45 v2 t44 h1 g0 f4) := hD2
                    clear hP2 hD2
                    have hPc := hP.sub (ws' := []) [] rfl
                    have hDc := hD.sub (ws' := []) [] (by decide) rfl
                    have hKc := hK.sub (tys' := []) [] rfl
                    have hFc := va_free (wc := []) hD hS hA [] rfl
                    refine va_calli (va_runS (As := [.int ra46]) (rest := []) ⟨hx, hb, hml, hown, hts⟩ (k_X10_isDigit l dC dI ra46  H.size) (va_cwS 1 hts g_X10_takeNumber_1_1 rfl rfl rfl (by decide +kernel) ⟨Nat.le_of_ble_eq_true rfl, Nat.le_of_ble_eq_true rfl⟩) (pv_PS hPc hKc hDc) rfl rfl hl.1 rfl (lv_room (Nat.le_of_ble_eq_true rfl)) dX10_takeNumber_76 ⟨Nat.le_of_ble_eq_true rfl, Nat.le_of_ble_eq_true rfl⟩) hS (fun q _ h => hFc q h) hFc (fun ra49 u t H1 locs ht hvm hwra49 hB hz1 hk1 hS => ?_)
                    try rw [hwra49] at hB
                    obtain ⟨pt0_ra49, pt1_ra49, pt2_ra49, pt3_ra49, pt4_ra49, hP1, hK1, hD1⟩ := hB
                    rw [ht] at hP1
                    obtain ⟨hP2, hD2⟩ := va_join (wr := (wd_82cdd16b h0 h1 v0 t45 v2 t44 h1 g0 f4)) (w1 := []) hP hD [] [0, 1] rfl rfl (by decide) (by decide) hk1 hFc hP1 hD1
                    clear hP hD hPc hDc hKc hFc hP1 hK1 hD1 hk1 hz1
                    generalize H1 = H at hP2 hS ⊢
                    have hP : va_P (dC, dI) vwCl (wd_82cdd16b h0 h1 v0 t45 v2 t44 h1 g0 f4) H := hP2
                    have hD : va_D A (wd_82cdd16b h0 h1 v0 t45 v2 t44 h1 g0 f4) := hD2
                    clear hP2 hD2
                    refine lv_if_eq (tgt := 89) hx hb dX10_takeNumber_79 (by decide) (fun c50 => ?_) (fun c50 => ?_)
                    · skip
                      have fc50 : ra49.toInt = 0 := congrArg Int32.toInt c50
                      refine lv_iconst (v := 1) hx hb dX10_takeNumber_89 (by decide) ?_
                      refine lv_goto (tgt := 94) hx hb dX10_takeNumber_90 (by decide) ?_
                      subst hQ
                      have hP9 := hP.sub (ws' := (wd_82cdd16b h0 h1 v0 t45 v2 t44 h1 g0 f4)) [0, 1] rfl
                      have hD9 := hD.sub (ws' := (wd_82cdd16b h0 h1 v0 t45 v2 t44 h1 g0 f4)) [0, 1] (by decide) rfl
                      have hK9 := hK.sub (tys' := []) [] rfl
                      exact W.zret (v := 1) hx hb hr rfl (fun t ht hW => ⟨⟨1, 1, rfl, rfl, Or.inl ⟨t45, t44, by first | omega | decide, by first | omega | decide, by first | omega | decide, by first | omega | decide, by first | omega | decide, by first | omega | decide, by omega, by first | (apply pg_tn.two <;> first | assumption | omega) | (apply pg_tn.one <;> first | assumption | omega), by omega, by rw [ht]; exact hP9, va_K.moved hW.alike hK9, hD9⟩⟩, hS.F ht⟩) hS.2.2 dX10_takeNumber_94
                    · skip
                      have fc50 : ¬ (ra49.toInt = 0) := fun h9 => c50 (Int32.toInt_inj.mp h9)
                      refine lv_aload_n hx hb dX10_takeNumber_82 rfl (lv_at hl 1 rfl) ?_
                      have hPc := hP.sub (ws' := (wd_09b0abee h0 h1 v0 t45 v2 t44)) [0] rfl
                      have hDc := hD.sub (ws' := (wd_09b0abee h0 h1 v0 t45 v2 t44)) [0] (by decide) rfl
                      have hKc := hK.sub (tys' := []) [] rfl
                      have hFc := va_free (wc := (wd_09b0abee h0 h1 v0 t45 v2 t44)) hD hS hA [0] rfl
                      refine va_calli (va_runV (As := []) (rest := []) ⟨hx, hb, hml, hown, hts⟩ (k_X10_wrongHere l dC dI h0 h1 v0 t45 v2 t44 ⟨i_v0a, i_v0b⟩ ⟨by first | omega | decide, by first | omega | decide⟩ H.size) (cwV 0 hts g_X10_takeNumber_1_2 rfl rfl rfl (by decide +kernel) ⟨Nat.le_of_ble_eq_true rfl, Nat.le_of_ble_eq_true rfl⟩) (pv_PV10 hPc hKc hDc (q0 := 0) rfl) rfl rfl hl.1 rfl (lv_room (Nat.le_of_ble_eq_true rfl)) dX10_takeNumber_83 ⟨Nat.le_of_ble_eq_true rfl, Nat.le_of_ble_eq_true rfl⟩) hS (fun q _ h => hFc q h) hFc (fun ra51 u t H1 locs ht hvm hwra51 hB hz1 hk1 hS => ?_)
                      try rw [hwra51] at hB
                      obtain ⟨x52, oa_x52, ob_x52, pt0_ra51, pt1_ra51, pt2_ra51, hP1, hK1, hD1⟩ := hB
                      rw [ht] at hP1
                      obtain ⟨hP2, hD2⟩ := va_join (wr := (wd_d0032b31 h1 g0 f4)) (w1 := (wd_09b0abee h0 h1 v0 t45 x52 t44)) hP hD [0] [1] rfl rfl (by decide) (by decide) hk1 hFc hP1 hD1
                      clear hP hD hPc hDc hKc hFc hP1 hK1 hD1 hk1 hz1
                      generalize H1 = H at hP2 hS ⊢
                      have hP := hP2.sub (ws' := (wd_82cdd16b h0 h1 v0 t45 x52 t44 h1 g0 f4)) [1, 0] rfl
                      have hD := hD2.sub (ws' := (wd_82cdd16b h0 h1 v0 t45 x52 t44 h1 g0 f4)) [1, 0] (by decide) rfl
                      clear hP2 hD2
                      obtain rfl : ra51 = (0 : Int32) := pv_cs (by decide) pt0_ra51 pt1_ra51
                      refine lv_if_eq (tgt := 93) hx hb dX10_takeNumber_86 (by decide) (fun _ => ?_) (fun c => absurd (by decide) c)
                      refine lv_iconst (v := 0) hx hb dX10_takeNumber_93 (by decide) ?_
                      subst hQ
                      have hP9 := hP.sub (ws' := (wd_82cdd16b h0 h1 v0 t45 x52 t44 h1 g0 f4)) [0, 1] rfl
                      have hD9 := hD.sub (ws' := (wd_82cdd16b h0 h1 v0 t45 x52 t44 h1 g0 f4)) [0, 1] (by decide) rfl
                      have hK9 := hK.sub (tys' := []) [] rfl
                      exact W.zret (v := 0) hx hb hr rfl (fun t ht hW => ⟨⟨0, 0, rfl, rfl, Or.inr (⟨t45, x52, t44, by first | omega | decide, by first | omega | decide, oa_x52, ob_x52, by first | omega | decide, by first | omega | decide, by omega, by first | (apply pg_tn.none <;> first | assumption | omega) | (apply pg_tn.three <;> first | assumption | omega) | (exfalso; omega), by rw [ht]; exact hP9, va_K.moved hW.alike hK9, hD9⟩)⟩, hS.F ht⟩) hS.2.2 dX10_takeNumber_94
    · skip
      have fc9 : ra8.toInt = 0 := congrArg Int32.toInt c9
      refine lv_aload_n hx hb dX10_takeNumber_10 rfl (lv_at hl 0 rfl) ?_
      have hPc := hP.sub (ws' := (wd_09b0abee h0 h1 v0 x7 v2 v3)) [0] rfl
      have hDc := hD.sub (ws' := (wd_09b0abee h0 h1 v0 x7 v2 v3)) [0] (by decide) rfl
      have hKc := hK.sub (tys' := []) [] rfl
      have hFc := va_free (wc := (wd_09b0abee h0 h1 v0 x7 v2 v3)) hD hS hA [0] rfl
      refine va_calli (va_runV (As := []) (rest := []) ⟨hx, hb, hml, hown, hts⟩ (k_X10_wrongHere l dC dI h0 h1 v0 x7 v2 v3 ⟨i_v0a, i_v0b⟩ ⟨oa_x7, by first | omega | decide⟩ H.size) (cwV 0 hts g_X10_takeNumber_1_2 rfl rfl rfl (by decide +kernel) ⟨Nat.le_of_ble_eq_true rfl, Nat.le_of_ble_eq_true rfl⟩) (pv_PV10 hPc hKc hDc (q0 := 0) rfl) rfl rfl hl.1 rfl (lv_room (Nat.le_of_ble_eq_true rfl)) dX10_takeNumber_11 ⟨Nat.le_of_ble_eq_true rfl, Nat.le_of_ble_eq_true rfl⟩) hS (fun q _ h => hFc q h) hFc (fun ra53 u t H1 locs ht hvm hwra53 hB hz1 hk1 hS => ?_)
      try rw [hwra53] at hB
      obtain ⟨x54, oa_x54, ob_x54, pt0_ra53, pt1_ra53, pt2_ra53, hP1, hK1, hD1⟩ := hB
      rw [ht] at hP1
      obtain ⟨hP2, hD2⟩ := va_join (wr := (wd_d0032b31 h1 g0 f4)) (w1 := (wd_09b0abee h0 h1 v0 x7 x54 v3)) hP hD [0] [1] rfl rfl (by decide) (by decide) hk1 hFc hP1 hD1
      clear hP hD hPc hDc hKc hFc hP1 hK1 hD1 hk1 hz1
      generalize H1 = H at hP2 hS ⊢
      have hP := hP2.sub (ws' := (wd_82cdd16b h0 h1 v0 x7 x54 v3 h1 g0 f4)) [1, 0] rfl
      have hD := hD2.sub (ws' := (wd_82cdd16b h0 h1 v0 x7 x54 v3 h1 g0 f4)) [1, 0] (by decide) rfl
      clear hP2 hD2
      obtain rfl : ra53 = (0 : Int32) := pv_cs (by decide) pt0_ra53 pt1_ra53
      subst hQ
      have hP9 := hP.sub (ws' := (wd_82cdd16b h0 h1 v0 x7 x54 v3 h1 g0 f4)) [0, 1] rfl
      have hD9 := hD.sub (ws' := (wd_82cdd16b h0 h1 v0 x7 x54 v3 h1 g0 f4)) [0, 1] (by decide) rfl
      have hK9 := hK.sub (tys' := []) [] rfl
      exact W.zret (v := 0) hx hb hr rfl (fun t ht hW => ⟨⟨0, 0, rfl, rfl, Or.inr (⟨x7, x54, v3, oa_x7, by first | omega | decide, oa_x54, ob_x54, by first | omega | decide, by first | omega | decide, by omega, by first | (apply pg_tn.none <;> first | assumption | omega) | (apply pg_tn.three <;> first | assumption | omega) | (exfalso; omega), by rw [ht]; exact hP9, va_K.moved hW.alike hK9, hD9⟩)⟩, hS.F ht⟩) hS.2.2 dX10_takeNumber_14
