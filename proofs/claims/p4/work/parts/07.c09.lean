def q_X3_readAtom_5 : List Cond := .code yX3_readAtom cX3_readAtom 4 (some .boolean) :: (([.fieldLink RX3 19 "LeftArguments$LawReader" "tape" "LLeftArguments$Tape;", .code yX10_next cX10_next 1 (some .int), .fieldLink RX10 19 "LeftArguments$Tape" "at" "I", .fieldLink RX10 15 "LeftArguments$Tape" "used" "I", .fieldLink RX10 9 "LeftArguments$Tape" "bytes" "[I", .initialized RX10, .instanceMethod yX10_next, .selects RX10 yX10_next yX10_next, .methodLink RX3 48 yX10_next, .code yX10_isDigit cX10_isDigit 1 (some .boolean), .static yX10_isDigit, .methodLink RX3 92 yX10_isDigit, .code yX10_wrongHere cX10_wrongHere 1 (some .boolean), .fieldLink RX10 22 "LeftArguments$Tape" "wrongAt" "I", .instanceMethod yX10_wrongHere, .selects RX10 yX10_wrongHere yX10_wrongHere, .methodLink RX3 83 yX10_wrongHere, .code yJ0_indexOf_0f7a4 cJ0_indexOf_0f7a4 2 (some .int), .code yJ0_indexOf_7cf53 cJ0_indexOf_7cf53 3 (some .int), .code yJ0_isLatin1_aae02 cJ0_isLatin1_aae02 1 (some .boolean), .fieldLink RJ0 38 "java/lang/String" "COMPACT_STRINGS" "Z", .fieldLink RJ0 15 "java/lang/String" "coder" "B", .initialized RJ0, .instanceMethod yJ0_isLatin1_aae02, .selects RJ0 yJ0_isLatin1_aae02 yJ0_isLatin1_aae02, .methodLink RJ0 492 yJ0_isLatin1_aae02, .fieldLink RJ0 9 "java/lang/String" "value" "[B", .code yJ0_length_8abf5 cJ0_length_8abf5 1 (some .int), .code yJ0_coder_7d493 cJ0_coder_7d493 1 (some .byte), .instanceMethod yJ0_coder_7d493, .selects RJ0 yJ0_coder_7d493 yJ0_coder_7d493, .methodLink RJ0 335 yJ0_coder_7d493, .instanceMethod yJ0_length_8abf5, .selects RJ0 yJ0_length_8abf5 yJ0_length_8abf5, .methodLink RJ0 505 yJ0_length_8abf5, .code yJ1_indexOf_4cfef cJ1_indexOf_4cfef 4 (some .int), .code yJ1_canEncode_9a6ad cJ1_canEncode_9a6ad 1 (some .boolean), .initialized RJ1, .static yJ1_canEncode_9a6ad, .methodLink RJ1 88 yJ1_canEncode_9a6ad, .methodLink RJ1 92 Lib.Math.max.name, .static Lib.Math.max.name, .initialized "java/lang/Math", .code Lib.Math.max.name Lib.Math.max.code 2 (some .int), .methodLink RJ1 38 Lib.Math.min.name, .static Lib.Math.min.name, .code Lib.Math.min.name Lib.Math.min.code 2 (some .int), .code yJ1_indexOfChar_4cfef cJ1_indexOfChar_4cfef 6 (some .int), .static yJ1_indexOfChar_4cfef, .methodLink RJ1 95 yJ1_indexOfChar_4cfef, .static yJ1_indexOf_4cfef, .methodLink RJ0 637 yJ1_indexOf_4cfef, .instanceMethod yJ0_indexOf_7cf53, .selects RJ0 yJ0_indexOf_7cf53 yJ0_indexOf_7cf53, .methodLink RJ0 633 yJ0_indexOf_7cf53, .instanceMethod yJ0_indexOf_0f7a4, .selects RJ0 yJ0_indexOf_0f7a4 yJ0_indexOf_0f7a4, .methodLink RX3 103 yJ0_indexOf_0f7a4, .code yX10_step cX10_step 1 none, .instanceMethod yX10_step, .selects RX10 yX10_step yX10_step, .methodLink RX3 77 yX10_step, .code yX3_write cX3_write 3 none, .fieldLink RX3 15 "LeftArguments$LawReader" "used" "I", .fieldLink RX3 11 "LeftArguments$LawReader" "code" "[I", .initialized RX3, .instanceMethod yX3_write, .selects RX3 yX3_write yX3_write, .methodLink RX3 66 yX3_write, .code yX10_takeNumber cX10_takeNumber 3 (some .boolean), .methodLink RX10 37 yX10_next, .methodLink RX10 45 yX10_isDigit, .methodLink RX10 41 yX10_wrongHere, .fieldLink RX10 25 "LeftArguments$Tape" "number" "I", .code yX10_sign cX10_sign 1 (some .int), .instanceMethod yX10_sign, .selects RX10 yX10_sign yX10_sign, .methodLink RX10 49 yX10_sign, .instanceMethod yX10_takeNumber, .selects RX10 yX10_takeNumber yX10_takeNumber, .methodLink RX3 95 yX10_takeNumber, .code yX10_number cX10_number 1 (some .int), .instanceMethod yX10_number, .selects RX10 yX10_number yX10_number, .methodLink RX3 98 yX10_number, .code yX3_readSum cX3_readSum 4 (some .boolean), .code yX3_readTerm cX3_readTerm 4 (some .boolean), .code yX3_readAtom cX3_readAtom 4 (some .boolean), .instanceMethod yX3_readAtom, .selects RX3 yX3_readAtom yX3_readAtom, .methodLink RX3 89 yX3_readAtom, .instanceMethod yX3_readTerm, .selects RX3 yX3_readTerm yX3_readTerm, .methodLink RX3 86 yX3_readTerm, .instanceMethod yX3_readSum, .selects RX3 yX3_readSum yX3_readSum, .methodLink RX3 59 yX3_readSum, .code yX10_take cX10_take 2 (some .boolean), .instanceMethod yX10_take, .selects RX10 yX10_take yX10_take, .methodLink RX3 51 yX10_take] : List Cond) ++ wsX30 ++ wsX100)
set_option maxRecDepth 20000 in
theorem g_X3_readAtom_5_0 : GoodIn q_X3_readAtom_5 (wsV RX3 48 RX10 yX10_next q_X10_next) := goodIn_app (goodIn_r _ [9, 7, 8, 6] rfl (by decide +kernel)) (goodIn_ca (goodIn_r (.code yX10_next cX10_next 1 (some .int) :: [.fieldLink RX10 19 "LeftArguments$Tape" "at" "I", .fieldLink RX10 15 "LeftArguments$Tape" "used" "I", .fieldLink RX10 9 "LeftArguments$Tape" "bytes" "[I"]) [2, 3, 4, 5] rfl (by decide +kernel)) (goodIn_sub (fun _ h => List.mem_cons_of_mem _ (List.mem_append_right _ h)) gwX10))
set_option maxRecDepth 20000 in
theorem g_X3_readAtom_5_1 : GoodIn q_X3_readAtom_5 (va_wsS RX3 92 yX10_isDigit q_X10_isDigit) := goodIn_app (goodIn_r _ [12, 11, 6] rfl (by decide +kernel)) (goodIn_r (.code yX10_isDigit cX10_isDigit 1 (some .boolean) :: []) [10] rfl (by decide +kernel))
set_option maxRecDepth 20000 in
theorem g_X3_readAtom_5_2 : GoodIn q_X3_readAtom_5 (wsV RX3 83 RX10 yX10_wrongHere q_X10_wrongHere) := goodIn_app (goodIn_r _ [17, 15, 16, 6] rfl (by decide +kernel)) (goodIn_ca (goodIn_r (.code yX10_wrongHere cX10_wrongHere 1 (some .boolean) :: [.fieldLink RX10 19 "LeftArguments$Tape" "at" "I", .fieldLink RX10 22 "LeftArguments$Tape" "wrongAt" "I"]) [13, 3, 14] rfl (by decide +kernel)) (goodIn_sub (fun _ h => List.mem_cons_of_mem _ (List.mem_append_right _ h)) gwX10))
set_option maxRecDepth 20000 in
theorem g_X3_readAtom_5_4 : GoodIn q_X3_readAtom_5 (wsV RX3 103 RJ0 yJ0_indexOf_0f7a4 q_J0_indexOf_0f7a4) := goodIn_app (goodIn_r _ [58, 56, 57, 23] rfl (by decide +kernel)) (goodIn_r (.code yJ0_indexOf_0f7a4 cJ0_indexOf_0f7a4 2 (some .int) :: [.code yJ0_indexOf_7cf53 cJ0_indexOf_7cf53 3 (some .int), .code yJ0_isLatin1_aae02 cJ0_isLatin1_aae02 1 (some .boolean), .fieldLink RJ0 38 "java/lang/String" "COMPACT_STRINGS" "Z", .fieldLink RJ0 15 "java/lang/String" "coder" "B", .initialized RJ0, .instanceMethod yJ0_isLatin1_aae02, .selects RJ0 yJ0_isLatin1_aae02 yJ0_isLatin1_aae02, .methodLink RJ0 492 yJ0_isLatin1_aae02, .fieldLink RJ0 9 "java/lang/String" "value" "[B", .code yJ0_length_8abf5 cJ0_length_8abf5 1 (some .int), .code yJ0_coder_7d493 cJ0_coder_7d493 1 (some .byte), .instanceMethod yJ0_coder_7d493, .selects RJ0 yJ0_coder_7d493 yJ0_coder_7d493, .methodLink RJ0 335 yJ0_coder_7d493, .instanceMethod yJ0_length_8abf5, .selects RJ0 yJ0_length_8abf5 yJ0_length_8abf5, .methodLink RJ0 505 yJ0_length_8abf5, .code yJ1_indexOf_4cfef cJ1_indexOf_4cfef 4 (some .int), .code yJ1_canEncode_9a6ad cJ1_canEncode_9a6ad 1 (some .boolean), .initialized RJ1, .static yJ1_canEncode_9a6ad, .methodLink RJ1 88 yJ1_canEncode_9a6ad, .methodLink RJ1 92 Lib.Math.max.name, .static Lib.Math.max.name, .initialized "java/lang/Math", .code Lib.Math.max.name Lib.Math.max.code 2 (some .int), .methodLink RJ1 38 Lib.Math.min.name, .static Lib.Math.min.name, .code Lib.Math.min.name Lib.Math.min.code 2 (some .int), .code yJ1_indexOfChar_4cfef cJ1_indexOfChar_4cfef 6 (some .int), .static yJ1_indexOfChar_4cfef, .methodLink RJ1 95 yJ1_indexOfChar_4cfef, .static yJ1_indexOf_4cfef, .methodLink RJ0 637 yJ1_indexOf_4cfef, .instanceMethod yJ0_indexOf_7cf53, .selects RJ0 yJ0_indexOf_7cf53 yJ0_indexOf_7cf53, .methodLink RJ0 633 yJ0_indexOf_7cf53]) [18, 19, 20, 21, 22, 23, 24, 25, 26, 27, 28, 29, 30, 31, 32, 33, 34, 35, 36, 37, 38, 39, 40, 41, 42, 43, 44, 45, 46, 47, 48, 49, 50, 51, 52, 53, 54, 55] rfl (by decide +kernel))
set_option maxRecDepth 20000 in
theorem g_X3_readAtom_5_5 : GoodIn q_X3_readAtom_5 (wsV RX3 77 RX10 yX10_step q_X10_step) := goodIn_app (goodIn_r _ [62, 60, 61, 6] rfl (by decide +kernel)) (goodIn_ca (goodIn_r (.code yX10_step cX10_step 1 none :: [.fieldLink RX10 19 "LeftArguments$Tape" "at" "I"]) [59, 3] rfl (by decide +kernel)) (goodIn_sub (fun _ h => List.mem_cons_of_mem _ (List.mem_append_right _ h)) gwX10))
set_option maxRecDepth 20000 in
theorem g_X3_readAtom_5_6 : GoodIn q_X3_readAtom_5 (wsV RX3 66 RX3 yX3_write q_X3_write) := goodIn_app (goodIn_r _ [69, 67, 68, 66] rfl (by decide +kernel)) (goodIn_ca (goodIn_r (.code yX3_write cX3_write 3 none :: [.fieldLink RX3 15 "LeftArguments$LawReader" "used" "I", .fieldLink RX3 11 "LeftArguments$LawReader" "code" "[I"]) [63, 64, 65] rfl (by decide +kernel)) (goodIn_sub (fun _ h => List.mem_cons_of_mem _ (List.mem_append_left _ (List.mem_append_right _ h))) gwX3))
set_option maxRecDepth 20000 in
theorem g_X3_readAtom_5_8 : GoodIn q_X3_readAtom_5 (wsV RX3 95 RX10 yX10_takeNumber q_X10_takeNumber) := goodIn_app (goodIn_r _ [81, 79, 80, 6] rfl (by decide +kernel)) (goodIn_ca (goodIn_r (.code yX10_takeNumber cX10_takeNumber 3 (some .boolean) :: [.code yX10_next cX10_next 1 (some .int), .fieldLink RX10 19 "LeftArguments$Tape" "at" "I", .fieldLink RX10 15 "LeftArguments$Tape" "used" "I", .fieldLink RX10 9 "LeftArguments$Tape" "bytes" "[I", .initialized RX10, .instanceMethod yX10_next, .selects RX10 yX10_next yX10_next, .methodLink RX10 37 yX10_next, .code yX10_isDigit cX10_isDigit 1 (some .boolean), .static yX10_isDigit, .methodLink RX10 45 yX10_isDigit, .code yX10_wrongHere cX10_wrongHere 1 (some .boolean), .fieldLink RX10 22 "LeftArguments$Tape" "wrongAt" "I", .instanceMethod yX10_wrongHere, .selects RX10 yX10_wrongHere yX10_wrongHere, .methodLink RX10 41 yX10_wrongHere, .fieldLink RX10 25 "LeftArguments$Tape" "number" "I", .code yX10_sign cX10_sign 1 (some .int), .instanceMethod yX10_sign, .selects RX10 yX10_sign yX10_sign, .methodLink RX10 49 yX10_sign]) [70, 2, 3, 4, 5, 6, 7, 8, 71, 10, 11, 72, 13, 14, 15, 16, 73, 74, 75, 76, 77, 78] rfl (by decide +kernel)) (goodIn_sub (fun _ h => List.mem_cons_of_mem _ (List.mem_append_right _ h)) gwX10))
set_option maxRecDepth 20000 in
theorem g_X3_readAtom_5_9 : GoodIn q_X3_readAtom_5 (wsV RX3 98 RX10 yX10_number q_X10_number) := goodIn_app (goodIn_r _ [85, 83, 84, 6] rfl (by decide +kernel)) (goodIn_ca (goodIn_r (.code yX10_number cX10_number 1 (some .int) :: [.fieldLink RX10 25 "LeftArguments$Tape" "number" "I"]) [82, 74] rfl (by decide +kernel)) (goodIn_sub (fun _ h => List.mem_cons_of_mem _ (List.mem_append_right _ h)) gwX10))
set_option maxRecDepth 20000 in
theorem g_X3_readAtom_5_12 : GoodIn q_X3_readAtom_5 (wsV RX3 59 RX3 yX3_readSum q_X3_readSum_4) := goodIn_app (goodIn_r _ [97, 95, 96, 66] rfl (by decide +kernel)) (goodIn_ca (goodIn_ca (goodIn_r (.code yX3_readSum cX3_readSum 4 (some .boolean) :: [.code yX3_readTerm cX3_readTerm 4 (some .boolean), .code yX3_readAtom cX3_readAtom 4 (some .boolean), .fieldLink RX3 19 "LeftArguments$LawReader" "tape" "LLeftArguments$Tape;", .code yX10_next cX10_next 1 (some .int), .fieldLink RX10 19 "LeftArguments$Tape" "at" "I", .fieldLink RX10 15 "LeftArguments$Tape" "used" "I", .fieldLink RX10 9 "LeftArguments$Tape" "bytes" "[I", .initialized RX10, .instanceMethod yX10_next, .selects RX10 yX10_next yX10_next, .methodLink RX3 48 yX10_next, .code yX10_isDigit cX10_isDigit 1 (some .boolean), .static yX10_isDigit, .methodLink RX3 92 yX10_isDigit, .code yX10_wrongHere cX10_wrongHere 1 (some .boolean), .fieldLink RX10 22 "LeftArguments$Tape" "wrongAt" "I", .instanceMethod yX10_wrongHere, .selects RX10 yX10_wrongHere yX10_wrongHere, .methodLink RX3 83 yX10_wrongHere, .code yJ0_indexOf_0f7a4 cJ0_indexOf_0f7a4 2 (some .int), .code yJ0_indexOf_7cf53 cJ0_indexOf_7cf53 3 (some .int), .code yJ0_isLatin1_aae02 cJ0_isLatin1_aae02 1 (some .boolean), .fieldLink RJ0 38 "java/lang/String" "COMPACT_STRINGS" "Z", .fieldLink RJ0 15 "java/lang/String" "coder" "B", .initialized RJ0, .instanceMethod yJ0_isLatin1_aae02, .selects RJ0 yJ0_isLatin1_aae02 yJ0_isLatin1_aae02, .methodLink RJ0 492 yJ0_isLatin1_aae02, .fieldLink RJ0 9 "java/lang/String" "value" "[B", .code yJ0_length_8abf5 cJ0_length_8abf5 1 (some .int), .code yJ0_coder_7d493 cJ0_coder_7d493 1 (some .byte), .instanceMethod yJ0_coder_7d493, .selects RJ0 yJ0_coder_7d493 yJ0_coder_7d493, .methodLink RJ0 335 yJ0_coder_7d493, .instanceMethod yJ0_length_8abf5, .selects RJ0 yJ0_length_8abf5 yJ0_length_8abf5, .methodLink RJ0 505 yJ0_length_8abf5, .code yJ1_indexOf_4cfef cJ1_indexOf_4cfef 4 (some .int), .code yJ1_canEncode_9a6ad cJ1_canEncode_9a6ad 1 (some .boolean), .initialized RJ1, .static yJ1_canEncode_9a6ad, .methodLink RJ1 88 yJ1_canEncode_9a6ad, .methodLink RJ1 92 Lib.Math.max.name, .static Lib.Math.max.name, .initialized "java/lang/Math", .code Lib.Math.max.name Lib.Math.max.code 2 (some .int), .methodLink RJ1 38 Lib.Math.min.name, .static Lib.Math.min.name, .code Lib.Math.min.name Lib.Math.min.code 2 (some .int), .code yJ1_indexOfChar_4cfef cJ1_indexOfChar_4cfef 6 (some .int), .static yJ1_indexOfChar_4cfef, .methodLink RJ1 95 yJ1_indexOfChar_4cfef, .static yJ1_indexOf_4cfef, .methodLink RJ0 637 yJ1_indexOf_4cfef, .instanceMethod yJ0_indexOf_7cf53, .selects RJ0 yJ0_indexOf_7cf53 yJ0_indexOf_7cf53, .methodLink RJ0 633 yJ0_indexOf_7cf53, .instanceMethod yJ0_indexOf_0f7a4, .selects RJ0 yJ0_indexOf_0f7a4 yJ0_indexOf_0f7a4, .methodLink RX3 103 yJ0_indexOf_0f7a4, .code yX10_step cX10_step 1 none, .instanceMethod yX10_step, .selects RX10 yX10_step yX10_step, .methodLink RX3 77 yX10_step, .code yX3_write cX3_write 3 none, .fieldLink RX3 15 "LeftArguments$LawReader" "used" "I", .fieldLink RX3 11 "LeftArguments$LawReader" "code" "[I", .initialized RX3, .instanceMethod yX3_write, .selects RX3 yX3_write yX3_write, .methodLink RX3 66 yX3_write, .code yX10_takeNumber cX10_takeNumber 3 (some .boolean), .methodLink RX10 37 yX10_next, .methodLink RX10 45 yX10_isDigit, .methodLink RX10 41 yX10_wrongHere, .fieldLink RX10 25 "LeftArguments$Tape" "number" "I", .code yX10_sign cX10_sign 1 (some .int), .instanceMethod yX10_sign, .selects RX10 yX10_sign yX10_sign, .methodLink RX10 49 yX10_sign, .instanceMethod yX10_takeNumber, .selects RX10 yX10_takeNumber yX10_takeNumber, .methodLink RX3 95 yX10_takeNumber, .code yX10_number cX10_number 1 (some .int), .instanceMethod yX10_number, .selects RX10 yX10_number yX10_number, .methodLink RX3 98 yX10_number, .code yX3_readSum cX3_readSum 4 (some .boolean), .instanceMethod yX3_readAtom, .selects RX3 yX3_readAtom yX3_readAtom, .methodLink RX3 89 yX3_readAtom, .instanceMethod yX3_readTerm, .selects RX3 yX3_readTerm yX3_readTerm, .methodLink RX3 86 yX3_readTerm, .instanceMethod yX3_readSum, .selects RX3 yX3_readSum yX3_readSum, .methodLink RX3 59 yX3_readSum, .code yX10_take cX10_take 2 (some .boolean), .instanceMethod yX10_take, .selects RX10 yX10_take yX10_take, .methodLink RX3 51 yX10_take]) [86, 87, 88, 1, 2, 3, 4, 5, 6, 7, 8, 9, 10, 11, 12, 13, 14, 15, 16, 17, 18, 19, 20, 21, 22, 23, 24, 25, 26, 27, 28, 29, 30, 31, 32, 33, 34, 35, 36, 37, 38, 39, 40, 41, 42, 43, 44, 45, 46, 47, 48, 49, 50, 51, 52, 53, 54, 55, 56, 57, 58, 59, 60, 61, 62, 63, 64, 65, 66, 67, 68, 69, 70, 71, 72, 73, 74, 75, 76, 77, 78, 79, 80, 81, 82, 83, 84, 85, 86, 89, 90, 91, 92, 93, 94, 95, 96, 97, 98, 99, 100, 101] rfl (by decide +kernel)) (goodIn_sub (fun _ h => List.mem_cons_of_mem _ (List.mem_append_left _ (List.mem_append_right _ h))) gwX3)) (goodIn_sub (fun _ h => List.mem_cons_of_mem _ (List.mem_append_right _ h)) gwX10))
set_option maxRecDepth 20000 in
theorem g_X3_readAtom_5_13 : GoodIn q_X3_readAtom_5 (wsV RX3 51 RX10 yX10_take q_X10_take_2) := goodIn_app (goodIn_r _ [101, 99, 100, 6] rfl (by decide +kernel)) (goodIn_ca (goodIn_r (.code yX10_take cX10_take 2 (some .boolean) :: [.code yX10_next cX10_next 1 (some .int), .fieldLink RX10 19 "LeftArguments$Tape" "at" "I", .fieldLink RX10 15 "LeftArguments$Tape" "used" "I", .fieldLink RX10 9 "LeftArguments$Tape" "bytes" "[I", .initialized RX10, .instanceMethod yX10_next, .selects RX10 yX10_next yX10_next, .methodLink RX10 37 yX10_next, .code yX10_wrongHere cX10_wrongHere 1 (some .boolean), .fieldLink RX10 22 "LeftArguments$Tape" "wrongAt" "I", .instanceMethod yX10_wrongHere, .selects RX10 yX10_wrongHere yX10_wrongHere, .methodLink RX10 41 yX10_wrongHere]) [98, 2, 3, 4, 5, 6, 7, 8, 71, 13, 14, 15, 16, 73] rfl (by decide +kernel)) (goodIn_sub (fun _ h => List.mem_cons_of_mem _ (List.mem_append_right _ h)) gwX10))
set_option maxHeartbeats 4000000 in
set_option maxRecDepth 100000 in
theorem k_X3_readAtom_5 (l : Launch) (dC : Nat → ClassId) (dI : Nat → Nat → Nat) (adK : Nat → Nat) (adV : Nat → Nat) (h0 : Nat) (h1 : Nat) (h2 : Nat) (h3 : Nat) (v0 : Int32) (v1 : Int32) (v2 : Int32) (v3 : Int32) (v4 : Int32) (g0 : ClassId) (f5 : Nat → Int32) (g1 : ClassId) (f6 : Nat → Int32) (i_v0 : 0 ≤ v0.toInt ∧ v0.toInt ≤ 256) (i_v1 : 0 ≤ v1.toInt ∧ v1.toInt ≤ 240) (i_v2 : 0 ≤ v2.toInt ∧ v2.toInt ≤ 240) (ia_f5 : (∀ j, 0 ≤ (f5 j).toInt ∧ (f5 j).toInt ≤ 255)) (sz : Nat) : Met l yX3_readAtom q_X3_readAtom_5 ({ frames := 19, cells := 0, slots := 0, locals := 436 }) (va_Pc [.ref h0, .int 1] (fun U => U.heap.size = sz ∧ va_P (dC, dI) vwCl (wd_1ad0248d h0 h1 h3 v0 h1 h2 v1 v2 v3 v4 h2 g0 f5 h3 g1 f6) U.heap ∧ va_K (dC, dI) vwCl [(g0, .int), (g1, .int)] U ∧ va_D (fun _ => True) (wd_1ad0248d h0 h1 h3 v0 h1 h2 v1 v2 v3 v4 h2 g0 f5 h3 g1 f6) ∧ vk_R RX3 101 "zaondt" (adK 2) U ∧ va_Z "java/lang/String" "COMPACT_STRINGS" "Z" (.int 1) (va_A (wd_1ad0248d h0 h1 h3 v0 h1 h2 v1 v2 v3 v4 h2 g0 f5 h3 g1 f6) sz) U U.heap ∧ vk_S 3 pv_len3 pv_byt3 adK adV (va_A (wd_1ad0248d h0 h1 h3 v0 h1 h2 v1 v2 v3 v4 h2 g0 f5 h3 g1 f6) sz) U U.heap)) (va_Qi (fun (r : Int32) (r9 : Int32) => r9 = r) (fun (r : Int32) (t : State) => (∃ (o_h0_2 : Int32) (o_h1_2 : Int32) (o_h1_4 : Int32) (o_h3 : Nat → Int32), 0 ≤ o_h0_2.toInt ∧ o_h0_2.toInt ≤ 256 ∧ 0 ≤ o_h1_2.toInt ∧ o_h1_2.toInt ≤ 240 ∧ (1 ≤ r.toInt) ∧ (r.toInt ≤ 1) ∧ (v2.toInt ≤ o_h1_2.toInt) ∧ (pg_atom f5 v1.toInt 5 v2.toInt = (true, o_h1_2.toInt)) ∧ va_P (dC, dI) vwCl (wd_1ad0248d h0 h1 h3 o_h0_2 h1 h2 v1 o_h1_2 v3 o_h1_4 h2 g0 f5 h3 g1 o_h3) t.heap ∧ va_K (dC, dI) vwCl [] t ∧ va_D (va_A (wd_1ad0248d h0 h1 h3 v0 h1 h2 v1 v2 v3 v4 h2 g0 f5 h3 g1 f6) sz) (wd_1ad0248d h0 h1 h3 o_h0_2 h1 h2 v1 o_h1_2 v3 o_h1_4 h2 g0 f5 h3 g1 o_h3)) ∨ (∃ (o_h0_2 : Int32) (o_h1_2 : Int32) (o_h1_3 : Int32) (o_h1_4 : Int32) (o_h3 : Nat → Int32), 0 ≤ o_h0_2.toInt ∧ o_h0_2.toInt ≤ 256 ∧ 0 ≤ o_h1_2.toInt ∧ o_h1_2.toInt ≤ 240 ∧ 0 ≤ o_h1_3.toInt ∧ o_h1_3.toInt ≤ 240 ∧ (0 ≤ r.toInt) ∧ (r.toInt ≤ 0) ∧ (v2.toInt ≤ o_h1_2.toInt) ∧ (pg_atom f5 v1.toInt 5 v2.toInt = (false, o_h1_3.toInt)) ∧ va_P (dC, dI) vwCl (wd_1ad0248d h0 h1 h3 o_h0_2 h1 h2 v1 o_h1_2 o_h1_3 o_h1_4 h2 g0 f5 h3 g1 o_h3) t.heap ∧ va_K (dC, dI) vwCl [] t ∧ va_D (va_A (wd_1ad0248d h0 h1 h3 v0 h1 h2 v1 v2 v3 v4 h2 g0 f5 h3 g1 f6) sz) (wd_1ad0248d h0 h1 h3 o_h0_2 h1 h2 v1 o_h1_2 o_h1_3 o_h1_4 h2 g0 f5 h3 g1 o_h3))) (va_A (wd_1ad0248d h0 h1 h3 v0 h1 h2 v1 v2 v3 v4 h2 g0 f5 h3 g1 f6) sz)) 0 0 (va_A (wd_1ad0248d h0 h1 h3 v0 h1 h2 v1 v2 v3 v4 h2 g0 f5 h3 g1 f6) sz) := by
  refine Met.ofW (cc := cX3_readAtom) (maxL := 4) (ret := (some .boolean)) (by decide) rfl ?_
  intro p e s m args below meth c s₁ B hml hv
  obtain ⟨i_v0a, i_v0b⟩ := i_v0
  obtain ⟨i_v1a, i_v1b⟩ := i_v1
  obtain ⟨i_v2a, i_v2b⟩ := i_v2
  obtain ⟨rfl, hsz, hP, hK, hD0, h_vr_2, h_st_CS, h_st_S⟩ := hv
  have hx := B.exec
  have hb := B.bytes
  have hr := B.returns
  have hts := atoms_spec (ws := q_X3_readAtom_5) B.pre
  have hown : s.vm.findClass RX3 = some m.cls := findClass_of_methodNamed B.named
  have hlocks := B.notSynchronized
  subst hsz
  have hD := hD0.self (sz := s.heap.size)
  generalize hAe : va_A (wd_1ad0248d h0 h1 h3 v0 h1 h2 v1 v2 v3 v4 h2 g0 f5 h3 g1 f6) s.heap.size = A at hD h_st_CS h_st_S ⊢
  have hA : ∀ q : Nat, s.heap.size ≤ q → A q := fun q h => by rw [← hAe]; exact Or.inr h
  have hS : va_S A s.heap s.heap [] := va_S.rf
  generalize hQ : (MQ below _ _ s 0 0 A) = Q
  have hl := lv_entry ([.ref h0, .int 1]) (n := 4) (Nat.le_of_ble_eq_true rfl)
  rw [lg_entry_eq]
  generalize (lg_sl ([.ref h0, .int 1]) ++ List.replicate (4 - (lg_sl ([.ref h0, .int 1])).length) Slot.unset).toArray = ls at hl ⊢
  have hl : lv_has ls 4 [(0, .ref h0), (1, .int 1)] := hl
  obtain ⟨H, hH⟩ : ∃ H : Heap, H = s.heap := ⟨_, rfl⟩
  obtain ⟨locs, hlocs⟩ : ∃ y : List Loc, y = [] := ⟨_, rfl⟩
  have hS : va_S A s.heap H locs := by rw [hH, hlocs]; exact va_S.rf
  have hP : va_P (dC, dI) vwCl (wd_1ad0248d h0 h1 h3 v0 h1 h2 v1 v2 v3 v4 h2 g0 f5 h3 g1 f6) H := by rw [hH]; exact hP
  rw [← hH, ← hlocs]
  refine lv_aload_n hx hb dX3_readAtom_0 rfl (lv_at hl 0 rfl) ?_
  refine va_get (D := (dC, dI)) (ci := 3) (v := .ref h1) (C := RX3) (T := TX3) (N := 3) hx hb hts (fun _ h => List.mem_cons_of_mem _ (List.mem_append_left _ (List.mem_append_right _ h))) hown hK hP 0 rfl rfl 0 (by decide) (hts (.fieldLink RX3 19 "LeftArguments$LawReader" "tape" "LLeftArguments$Tape;") (List.mem_cons_of_mem _ (List.mem_append_left _ (List.mem_append_left _ (List.mem_of_getElem? (i := 0) rfl))))) (fun _ h9 => h9) rfl dX3_readAtom_1 ?_
  have hPc := hP.sub (ws' := (wd_82cdd16b h1 h2 v1 v2 v3 v4 h2 g0 f5)) [1, 2] rfl
  have hDc := hD.sub (ws' := (wd_82cdd16b h1 h2 v1 v2 v3 v4 h2 g0 f5)) [1, 2] (by decide) rfl
  have hKc := hK.sub (tys' := [(g0, .int)]) [0] rfl
  have hFc := va_free (wc := (wd_82cdd16b h1 h2 v1 v2 v3 v4 h2 g0 f5)) hD hS hA [1, 2] rfl
  refine va_calli (va_runV (As := []) (rest := []) ⟨hx, hb, hml, hown, hts⟩ (k_X10_next l dC dI h1 h2 v1 v2 v3 v4 g0 f5 ⟨i_v1a, i_v1b⟩ ⟨i_v2a, i_v2b⟩ ia_f5 H.size) (cwV 0 hts g_X3_readAtom_5_0 rfl rfl rfl (by decide +kernel) ⟨Nat.le_of_ble_eq_true rfl, Nat.le_of_ble_eq_true rfl⟩) (pv_PV10 hPc hKc hDc (q0 := 0) rfl) rfl rfl hl.1 rfl (lv_room (Nat.le_of_ble_eq_true rfl)) dX3_readAtom_4 ⟨Nat.le_of_ble_eq_true rfl, Nat.le_of_ble_eq_true rfl⟩) hS (fun q _ h => hFc q h) hFc (fun ra1 u t H1 locs ht hvm hwra1 hB hz1 hk1 hS => ?_)
  try rw [hwra1] at hB
  rcases hB with hB | hB
  · skip
    obtain ⟨x2, oa_x2, ob_x2, pt0_ra1, pt1_ra1, pt2_ra1, pt3_ra1, pt4_ra1, pt5_ra1, pt6_ra1, hP1, hK1, hD1⟩ := hB
    rw [ht] at hP1
    obtain ⟨hP2, hD2⟩ := va_join (wr := (wd_b958b9da h0 h1 h3 v0 h3 g1 f6)) (w1 := (wd_82cdd16b h1 h2 v1 x2 v3 v4 h2 g0 f5)) hP hD [1, 2] [0, 3] rfl rfl (by decide) (by decide) hk1 hFc hP1 hD1
    clear hP hD hPc hDc hKc hFc hP1 hK1 hD1 hk1 hz1
    generalize H1 = H at hP2 hS ⊢
    have hP := hP2.sub (ws' := (wd_1ad0248d h0 h1 h3 v0 h1 h2 v1 x2 v3 v4 h2 g0 f5 h3 g1 f6)) [0, 2, 3, 1] rfl
    have hD := hD2.sub (ws' := (wd_1ad0248d h0 h1 h3 v0 h1 h2 v1 x2 v3 v4 h2 g0 f5 h3 g1 f6)) [0, 2, 3, 1] (by decide) rfl
    clear hP2 hD2
    obtain rfl : ra1 = ((-1) : Int32) := pv_cs (by decide) pt0_ra1 pt1_ra1
    refine lv_istore_n (lv' := [(2, .int (-1)), (0, .ref h0), (1, .int 1)]) hx hb dX3_readAtom_7 rfl hl (by decide) rfl (fun ls hl => ?_)
    refine lv_iload_n hx hb dX3_readAtom_8 rfl (lv_at hl 0 rfl) ?_
    refine lv_bipush (v := 91) hx hb dX3_readAtom_9 (by decide) ?_
    refine lv_icmp_ne (tgt := 55) hx hb dX3_readAtom_11 (by decide) (fun _ => ?_) (fun c => absurd c (by decide))
    refine lv_iload_n hx hb dX3_readAtom_55 rfl (lv_at hl 0 rfl) ?_
    have hPc := hP.sub (ws' := []) [] rfl
    have hDc := hD.sub (ws' := []) [] (by decide) rfl
    have hKc := hK.sub (tys' := []) [] rfl
    have hFc := va_free (wc := []) hD hS hA [] rfl
    refine va_calli (va_runS (As := [.int (-1)]) (rest := []) ⟨hx, hb, hml, hown, hts⟩ (k_X10_isDigit l dC dI ((-1))  H.size) (va_cwS 1 hts g_X3_readAtom_5_1 rfl rfl rfl (by decide +kernel) ⟨Nat.le_of_ble_eq_true rfl, Nat.le_of_ble_eq_true rfl⟩) (pv_PS hPc hKc hDc) rfl rfl hl.1 rfl (lv_room (Nat.le_of_ble_eq_true rfl)) dX3_readAtom_56 ⟨Nat.le_of_ble_eq_true rfl, Nat.le_of_ble_eq_true rfl⟩) hS (fun q _ h => hFc q h) hFc (fun ra3 u t H1 locs ht hvm hwra3 hB hz1 hk1 hS => ?_)
    try rw [hwra3] at hB
    have hkra3_0 : (((-1) : Int32)).toInt = -1 := by decide
    obtain ⟨pt0_ra3, pt1_ra3, pt2_ra3, pt3_ra3, pt4_ra3, hP1, hK1, hD1⟩ := hB
    rw [ht] at hP1
    obtain ⟨hP2, hD2⟩ := va_join (wr := (wd_1ad0248d h0 h1 h3 v0 h1 h2 v1 x2 v3 v4 h2 g0 f5 h3 g1 f6)) (w1 := []) hP hD [] [0, 1, 2, 3] rfl rfl (by decide) (by decide) hk1 hFc hP1 hD1
    clear hP hD hPc hDc hKc hFc hP1 hK1 hD1 hk1 hz1
    generalize H1 = H at hP2 hS ⊢
    have hP : va_P (dC, dI) vwCl (wd_1ad0248d h0 h1 h3 v0 h1 h2 v1 x2 v3 v4 h2 g0 f5 h3 g1 f6) H := hP2
    have hD : va_D A (wd_1ad0248d h0 h1 h3 v0 h1 h2 v1 x2 v3 v4 h2 g0 f5 h3 g1 f6) := hD2
    clear hP2 hD2
    refine lv_if_eq (tgt := 89) hx hb dX3_readAtom_59 (by decide) (fun c4 => ?_) (fun c4 => ?_)
    · skip
      have fc4 : ra3.toInt = 0 := congrArg Int32.toInt c4
      refine lv_iload_n hx hb dX3_readAtom_89 rfl (lv_at hl 0 rfl) ?_
      refine lv_iconst (v := (-1)) hx hb dX3_readAtom_90 (by decide) ?_
      refine lv_icmp_ne (tgt := 98) hx hb dX3_readAtom_91 (by decide) (fun c => absurd (by decide) c) (fun _ => ?_)
      refine lv_iconst (v := (-1)) hx hb dX3_readAtom_94 (by decide) ?_
      refine lv_goto (tgt := 105) hx hb dX3_readAtom_95 (by decide) ?_
      refine lv_istore_n (lv' := [(3, .int (-1)), (2, .int (-1)), (0, .ref h0), (1, .int 1)]) hx hb dX3_readAtom_105 rfl hl (by decide) rfl (fun ls hl => ?_)
      refine lv_iload_n hx hb dX3_readAtom_106 rfl (lv_at hl 0 rfl) ?_
      refine lv_if_ge (tgt := 118) hx hb dX3_readAtom_107 (by decide) (fun c => absurd c (by decide)) (fun _ => ?_)
      refine lv_aload_n hx hb dX3_readAtom_110 rfl (lv_at hl 2 rfl) ?_
      refine va_get (D := (dC, dI)) (ci := 3) (v := .ref h1) (C := RX3) (T := TX3) (N := 3) hx hb hts (fun _ h => List.mem_cons_of_mem _ (List.mem_append_left _ (List.mem_append_right _ h))) hown hK hP 0 rfl rfl 0 (by decide) (hts (.fieldLink RX3 19 "LeftArguments$LawReader" "tape" "LLeftArguments$Tape;") (List.mem_cons_of_mem _ (List.mem_append_left _ (List.mem_append_left _ (List.mem_of_getElem? (i := 0) rfl))))) (fun _ h9 => h9) rfl dX3_readAtom_111 ?_
      have hPc := hP.sub (ws' := (wd_09b0abee h1 h2 v1 x2 v3 v4)) [1] rfl
      have hDc := hD.sub (ws' := (wd_09b0abee h1 h2 v1 x2 v3 v4)) [1] (by decide) rfl
      have hKc := hK.sub (tys' := []) [] rfl
      have hFc := va_free (wc := (wd_09b0abee h1 h2 v1 x2 v3 v4)) hD hS hA [1] rfl
      refine va_calli (va_runV (As := []) (rest := []) ⟨hx, hb, hml, hown, hts⟩ (k_X10_wrongHere l dC dI h1 h2 v1 x2 v3 v4 ⟨i_v1a, i_v1b⟩ ⟨oa_x2, ob_x2⟩ H.size) (cwV 0 hts g_X3_readAtom_5_2 rfl rfl rfl (by decide +kernel) ⟨Nat.le_of_ble_eq_true rfl, Nat.le_of_ble_eq_true rfl⟩) (pv_PV10 hPc hKc hDc (q0 := 0) rfl) rfl rfl hl.1 rfl (lv_room (Nat.le_of_ble_eq_true rfl)) dX3_readAtom_114 ⟨Nat.le_of_ble_eq_true rfl, Nat.le_of_ble_eq_true rfl⟩) hS (fun q _ h => hFc q h) hFc (fun ra5 u t H1 locs ht hvm hwra5 hB hz1 hk1 hS => ?_)
      try rw [hwra5] at hB
      obtain ⟨x6, oa_x6, ob_x6, pt0_ra5, pt1_ra5, pt2_ra5, hP1, hK1, hD1⟩ := hB
      rw [ht] at hP1
      obtain ⟨hP2, hD2⟩ := va_join (wr := (wd_6b0d8e05 h0 h1 h3 v0 h2 g0 f5 h3 g1 f6)) (w1 := (wd_09b0abee h1 h2 v1 x2 x6 v4)) hP hD [1] [0, 2, 3] rfl rfl (by decide) (by decide) hk1 hFc hP1 hD1
      clear hP hD hPc hDc hKc hFc hP1 hK1 hD1 hk1 hz1
      generalize H1 = H at hP2 hS ⊢
      have hP := hP2.sub (ws' := (wd_1ad0248d h0 h1 h3 v0 h1 h2 v1 x2 x6 v4 h2 g0 f5 h3 g1 f6)) [0, 3, 1, 2] rfl
      have hD := hD2.sub (ws' := (wd_1ad0248d h0 h1 h3 v0 h1 h2 v1 x2 x6 v4 h2 g0 f5 h3 g1 f6)) [0, 3, 1, 2] (by decide) rfl
      clear hP2 hD2
      obtain rfl : ra5 = (0 : Int32) := pv_cs (by decide) pt0_ra5 pt1_ra5
      subst hQ
      have hP9 := hP.sub (ws' := (wd_1ad0248d h0 h1 h3 v0 h1 h2 v1 x2 x6 v4 h2 g0 f5 h3 g1 f6)) [0, 1, 2, 3] rfl
      have hD9 := hD.sub (ws' := (wd_1ad0248d h0 h1 h3 v0 h1 h2 v1 x2 x6 v4 h2 g0 f5 h3 g1 f6)) [0, 1, 2, 3] (by decide) rfl
      have hK9 := hK.sub (tys' := []) [] rfl
      exact W.zret (v := 0) hx hb hr rfl (fun t ht hW => ⟨⟨0, 0, rfl, rfl, Or.inr (⟨v0, x2, x6, v4, f6, i_v0a, i_v0b, oa_x2, ob_x2, oa_x6, ob_x6, by first | omega | decide, by first | omega | decide, by omega, by show pg_atomF f5 v1.toInt true (pg_sum f5 v1.toInt 4) _ = _; first | (apply pg_atomF.nmc <;> first | assumption | omega) | (apply pg_atomF.nmf <;> first | assumption | omega) | (apply pg_atomF.num <;> first | assumption | omega) | (apply pg_atomF.lt <;> first | assumption | omega) | (apply pg_atomF.par1 <;> first | assumption | omega) | (apply pg_atomF.par0 <;> first | assumption | omega) | (apply pg_atomF.deep <;> first | assumption | omega) | (apply pg_atomF.bdn <;> first | assumption | omega) | (apply pg_atomF.bad <;> first | assumption | omega), by rw [ht]; exact hP9, va_K.moved hW.alike hK9, hD9⟩)⟩, hS.F ht⟩) hS.2.2 dX3_readAtom_117
    · skip
      have fc4 : ¬ (ra3.toInt = 0) := fun h9 => c4 (Int32.toInt_inj.mp h9)
      exfalso; omega
  · skip
    obtain ⟨x7, oa_x7, ob_x7, pt0_ra1, pt1_ra1, pt2_ra1, pt3_ra1, pt4_ra1, pt5_ra1, pt6_ra1, hP1, hK1, hD1⟩ := hB
    rw [ht] at hP1
    obtain ⟨hP2, hD2⟩ := va_join (wr := (wd_b958b9da h0 h1 h3 v0 h3 g1 f6)) (w1 := (wd_82cdd16b h1 h2 v1 x7 v3 v4 h2 g0 f5)) hP hD [1, 2] [0, 3] rfl rfl (by decide) (by decide) hk1 hFc hP1 hD1
    clear hP hD hPc hDc hKc hFc hP1 hK1 hD1 hk1 hz1
    generalize H1 = H at hP2 hS ⊢
    have hP := hP2.sub (ws' := (wd_1ad0248d h0 h1 h3 v0 h1 h2 v1 x7 v3 v4 h2 g0 f5 h3 g1 f6)) [0, 2, 3, 1] rfl
    have hD := hD2.sub (ws' := (wd_1ad0248d h0 h1 h3 v0 h1 h2 v1 x7 v3 v4 h2 g0 f5 h3 g1 f6)) [0, 2, 3, 1] (by decide) rfl
    clear hP2 hD2
    refine lv_istore_n (lv' := [(2, .int ra1), (0, .ref h0), (1, .int 1)]) hx hb dX3_readAtom_7 rfl hl (by decide) rfl (fun ls hl => ?_)
    refine lv_iload_n hx hb dX3_readAtom_8 rfl (lv_at hl 0 rfl) ?_
    refine lv_bipush (v := 91) hx hb dX3_readAtom_9 (by decide) ?_
    refine lv_icmp_ne (tgt := 55) hx hb dX3_readAtom_11 (by decide) (fun c8 => ?_) (fun c8 => ?_)
    · skip
      have fc8 : ¬ (ra1.toInt = 91) := fun h9 => c8 (Int32.toInt_inj.mp h9)
      refine lv_iload_n hx hb dX3_readAtom_55 rfl (lv_at hl 0 rfl) ?_
      have hPc := hP.sub (ws' := []) [] rfl
      have hDc := hD.sub (ws' := []) [] (by decide) rfl
      have hKc := hK.sub (tys' := []) [] rfl
      have hFc := va_free (wc := []) hD hS hA [] rfl
      refine va_calli (va_runS (As := [.int ra1]) (rest := []) ⟨hx, hb, hml, hown, hts⟩ (k_X10_isDigit l dC dI ra1  H.size) (va_cwS 1 hts g_X3_readAtom_5_1 rfl rfl rfl (by decide +kernel) ⟨Nat.le_of_ble_eq_true rfl, Nat.le_of_ble_eq_true rfl⟩) (pv_PS hPc hKc hDc) rfl rfl hl.1 rfl (lv_room (Nat.le_of_ble_eq_true rfl)) dX3_readAtom_56 ⟨Nat.le_of_ble_eq_true rfl, Nat.le_of_ble_eq_true rfl⟩) hS (fun q _ h => hFc q h) hFc (fun ra9 u t H1 locs ht hvm hwra9 hB hz1 hk1 hS => ?_)
      try rw [hwra9] at hB
      obtain ⟨pt0_ra9, pt1_ra9, pt2_ra9, pt3_ra9, pt4_ra9, hP1, hK1, hD1⟩ := hB
      rw [ht] at hP1
      obtain ⟨hP2, hD2⟩ := va_join (wr := (wd_1ad0248d h0 h1 h3 v0 h1 h2 v1 x7 v3 v4 h2 g0 f5 h3 g1 f6)) (w1 := []) hP hD [] [0, 1, 2, 3] rfl rfl (by decide) (by decide) hk1 hFc hP1 hD1
      clear hP hD hPc hDc hKc hFc hP1 hK1 hD1 hk1 hz1
      generalize H1 = H at hP2 hS ⊢
      have hP : va_P (dC, dI) vwCl (wd_1ad0248d h0 h1 h3 v0 h1 h2 v1 x7 v3 v4 h2 g0 f5 h3 g1 f6) H := hP2
      have hD : va_D A (wd_1ad0248d h0 h1 h3 v0 h1 h2 v1 x7 v3 v4 h2 g0 f5 h3 g1 f6) := hD2
      clear hP2 hD2
      refine lv_if_eq (tgt := 89) hx hb dX3_readAtom_59 (by decide) (fun c10 => ?_) (fun c10 => ?_)
      · skip
        have fc10 : ra9.toInt = 0 := congrArg Int32.toInt c10
        refine lv_iload_n hx hb dX3_readAtom_89 rfl (lv_at hl 0 rfl) ?_
        refine lv_iconst (v := (-1)) hx hb dX3_readAtom_90 (by decide) ?_
        refine lv_icmp_ne (tgt := 98) hx hb dX3_readAtom_91 (by decide) (fun _ => ?_) (fun c11 => by exfalso; have fc11 : ra1.toInt = (-1) := congrArg Int32.toInt c11; omega)
        refine va_ldcS hx hb hown h_vr_2 dX3_readAtom_98 ?_
        refine lv_iload_n hx hb dX3_readAtom_100 rfl (lv_at hl 0 rfl) ?_
        obtain ⟨t12, et12⟩ : ∃ z : Int32, z = ((ra1 : Int32).toUInt32 % 65536).toInt32 := ⟨_, rfl⟩
        refine lv_i2c (v := t12) hx hb dX3_readAtom_101 (by rw [et12]) ?_
        have hcct12 : t12.toInt = pg_ch f5 v1.toInt x7.toInt := pg_i2c et12 (by omega) (by omega) (by omega)
        have hPc := hP.sub (ws' := []) [] rfl
        have hDc := hD.sub (ws' := []) [] (by decide) rfl
        have hKc := hK.sub (tys' := []) [] rfl
        have hFc := va_free (wc := []) hD hS hA [] rfl
        refine va_calli (va_runV (As := [.int t12]) (rest := []) ⟨hx, hb, hml, hown, hts⟩ (k_J0_indexOf_0f7a4 l dC dI adK adV t12  H.size) (cwV 1 hts g_X3_readAtom_5_4 rfl rfl rfl (by decide +kernel) ⟨Nat.le_of_ble_eq_true rfl, Nat.le_of_ble_eq_true rfl⟩) ⟨fun a U g mk q => by obtain ⟨q0, q1, qP, qK, qD, n0, n1⟩ := q; exact ⟨q0, q1, qP, va_K.moved (u := U) (U := U.calling g mk a) (Vm.Alike.refl U.vm) qK, qD, va_Z.moved (Vm.Alike.refl _) n0, vk_S.moved (Vm.Alike.refl _) n1⟩, vk_recv h_st_S (by decide : 2 < 3) hS, fun U hU hW => ⟨rfl, by rw [hU], by rw [hU]; exact hPc, va_K.moved hW.alike hKc, hDc.weaken (fun _ _ _ _ => trivial), (by rw [hU]; exact (va_Z.moved hW.alike (va_Z.kept h_st_CS hS.2.1)).narrow hFc), (by rw [hU]; exact (vk_S.moved hW.alike (vk_S.kept h_st_S hS.2.1)).narrow hFc)⟩⟩ rfl rfl hl.1 rfl (lv_room (Nat.le_of_ble_eq_true rfl)) dX3_readAtom_102 ⟨Nat.le_of_ble_eq_true rfl, Nat.le_of_ble_eq_true rfl⟩) hS (fun q _ h => hFc q h) hFc (fun ra13 u t H1 locs ht hvm hwra13 hB hz1 hk1 hS => ?_)
        try rw [hwra13] at hB
        obtain ⟨pt0_ra13, pt1_ra13, pt2_ra13, hP1, hK1, hD1⟩ := hB
        rw [ht] at hP1
        obtain ⟨hP2, hD2⟩ := va_join (wr := (wd_1ad0248d h0 h1 h3 v0 h1 h2 v1 x7 v3 v4 h2 g0 f5 h3 g1 f6)) (w1 := []) hP hD [] [0, 1, 2, 3] rfl rfl (by decide) (by decide) hk1 hFc hP1 hD1
        clear hP hD hPc hDc hKc hFc hP1 hK1 hD1 hk1 hz1
        generalize H1 = H at hP2 hS ⊢
        have hP : va_P (dC, dI) vwCl (wd_1ad0248d h0 h1 h3 v0 h1 h2 v1 x7 v3 v4 h2 g0 f5 h3 g1 f6) H := hP2
        have hD : va_D A (wd_1ad0248d h0 h1 h3 v0 h1 h2 v1 x7 v3 v4 h2 g0 f5 h3 g1 f6) := hD2
        clear hP2 hD2
        have hltra13 : pm_lt (pg_ch f5 v1.toInt x7.toInt) = ra13.toInt := by rw [show pg_ch f5 v1.toInt x7.toInt = t12.toInt by omega]; omega
        refine lv_istore_n (lv' := [(3, .int ra13), (2, .int ra1), (0, .ref h0), (1, .int 1)]) hx hb dX3_readAtom_105 rfl hl (by decide) rfl (fun ls hl => ?_)
        refine lv_iload_n hx hb dX3_readAtom_106 rfl (lv_at hl 0 rfl) ?_
        refine lv_if_ge (tgt := 118) hx hb dX3_readAtom_107 (by decide) (fun c14 => ?_) (fun c14 => ?_)
        · skip
          have fc14 : 0 ≤ ra13.toInt := Int32.le_iff_toInt_le.mp c14
          refine lv_aload_n hx hb dX3_readAtom_118 rfl (lv_at hl 2 rfl) ?_
          refine va_get (D := (dC, dI)) (ci := 3) (v := .ref h1) (C := RX3) (T := TX3) (N := 3) hx hb hts (fun _ h => List.mem_cons_of_mem _ (List.mem_append_left _ (List.mem_append_right _ h))) hown hK hP 0 rfl rfl 0 (by decide) (hts (.fieldLink RX3 19 "LeftArguments$LawReader" "tape" "LLeftArguments$Tape;") (List.mem_cons_of_mem _ (List.mem_append_left _ (List.mem_append_left _ (List.mem_of_getElem? (i := 0) rfl))))) (fun _ h9 => h9) rfl dX3_readAtom_119 ?_
          have hPc := hP.sub (ws' := (wd_09b0abee h1 h2 v1 x7 v3 v4)) [1] rfl
          have hDc := hD.sub (ws' := (wd_09b0abee h1 h2 v1 x7 v3 v4)) [1] (by decide) rfl
          have hKc := hK.sub (tys' := []) [] rfl
          have hFc := va_free (wc := (wd_09b0abee h1 h2 v1 x7 v3 v4)) hD hS hA [1] rfl
          refine va_callv (va_runV (As := []) (rest := []) ⟨hx, hb, hml, hown, hts⟩ (k_X10_step l dC dI h1 h2 v1 x7 v3 v4 ⟨i_v1a, i_v1b⟩ ⟨oa_x7, ob_x7⟩ H.size) (cwV 0 hts g_X3_readAtom_5_5 rfl rfl rfl (by decide +kernel) ⟨Nat.le_of_ble_eq_true rfl, Nat.le_of_ble_eq_true rfl⟩) (pv_PV10 hPc hKc hDc (q0 := 0) rfl) rfl rfl hl.1 rfl (lv_room (Nat.le_of_ble_eq_true rfl)) dX3_readAtom_122 ⟨Nat.le_of_ble_eq_true rfl, Nat.le_of_ble_eq_true rfl⟩) hS (fun q _ h => hFc q h) hFc (fun u t H1 locs ht hvm hwra15 hB hz1 hk1 hS => ?_)
          obtain ⟨x16, oa_x16, ob_x16, pt0_ra15, hP1, hK1, hD1⟩ := hB
          rw [ht] at hP1
          obtain ⟨hP2, hD2⟩ := va_join (wr := (wd_6b0d8e05 h0 h1 h3 v0 h2 g0 f5 h3 g1 f6)) (w1 := (wd_09b0abee h1 h2 v1 x16 v3 v4)) hP hD [1] [0, 2, 3] rfl rfl (by decide) (by decide) hk1 hFc hP1 hD1
          clear hP hD hPc hDc hKc hFc hP1 hK1 hD1 hk1 hz1
          generalize H1 = H at hP2 hS ⊢
          have hP := hP2.sub (ws' := (wd_1ad0248d h0 h1 h3 v0 h1 h2 v1 x16 v3 v4 h2 g0 f5 h3 g1 f6)) [0, 3, 1, 2] rfl
          have hD := hD2.sub (ws' := (wd_1ad0248d h0 h1 h3 v0 h1 h2 v1 x16 v3 v4 h2 g0 f5 h3 g1 f6)) [0, 3, 1, 2] (by decide) rfl
          clear hP2 hD2
          refine lv_aload_n hx hb dX3_readAtom_125 rfl (lv_at hl 2 rfl) ?_
          refine lv_iconst (v := 1) hx hb dX3_readAtom_126 (by decide) ?_
          refine lv_iload_n hx hb dX3_readAtom_127 rfl (lv_at hl 0 rfl) ?_
          have hPc := hP.sub (ws' := (wd_b958b9da h0 h1 h3 v0 h3 g1 f6)) [0, 3] rfl
          have hDc := hD.sub (ws' := (wd_b958b9da h0 h1 h3 v0 h3 g1 f6)) [0, 3] (by decide) rfl
          have hKc := hK.sub (tys' := [(g1, .int)]) [1] rfl
          have hFc := va_free (wc := (wd_b958b9da h0 h1 h3 v0 h3 g1 f6)) hD hS hA [0, 3] rfl
          refine va_callv (va_runV (As := [.int 1, .int ra13]) (rest := []) ⟨hx, hb, hml, hown, hts⟩ (k_X3_write l dC dI h0 h3 h1 v0 g1 f6 1 ra13 ⟨i_v0a, i_v0b⟩ H.size) (cwV 2 hts g_X3_readAtom_5_6 rfl rfl rfl (by decide +kernel) ⟨Nat.le_of_ble_eq_true rfl, Nat.le_of_ble_eq_true rfl⟩) (pv_PV3 hPc hKc hDc (q0 := 0) rfl) rfl rfl hl.1 rfl (lv_room (Nat.le_of_ble_eq_true rfl)) dX3_readAtom_128 ⟨Nat.le_of_ble_eq_true rfl, Nat.le_of_ble_eq_true rfl⟩) hS (fun q _ h => hFc q h) hFc (fun u t H1 locs ht hvm hwra17 hB hz1 hk1 hS => ?_)
          obtain ⟨x18, fn19, oa_x18, ob_x18, hP1, hK1, hD1⟩ := hB
          rw [ht] at hP1
          obtain ⟨hP2, hD2⟩ := va_join (wr := (wd_82cdd16b h1 h2 v1 x16 v3 v4 h2 g0 f5)) (w1 := (wd_b958b9da h0 h1 h3 x18 h3 g1 fn19)) hP hD [0, 3] [1, 2] rfl rfl (by decide) (by decide) hk1 hFc hP1 hD1
          clear hP hD hPc hDc hKc hFc hP1 hK1 hD1 hk1 hz1
          generalize H1 = H at hP2 hS ⊢
          have hP := hP2.sub (ws' := (wd_1ad0248d h0 h1 h3 x18 h1 h2 v1 x16 v3 v4 h2 g0 f5 h3 g1 fn19)) [2, 0, 1, 3] rfl
          have hD := hD2.sub (ws' := (wd_1ad0248d h0 h1 h3 x18 h1 h2 v1 x16 v3 v4 h2 g0 f5 h3 g1 fn19)) [2, 0, 1, 3] (by decide) rfl
          clear hP2 hD2
          refine lv_iconst (v := 1) hx hb dX3_readAtom_131 (by decide) ?_
          subst hQ
          have hP9 := hP.sub (ws' := (wd_1ad0248d h0 h1 h3 x18 h1 h2 v1 x16 v3 v4 h2 g0 f5 h3 g1 fn19)) [0, 1, 2, 3] rfl
          have hD9 := hD.sub (ws' := (wd_1ad0248d h0 h1 h3 x18 h1 h2 v1 x16 v3 v4 h2 g0 f5 h3 g1 fn19)) [0, 1, 2, 3] (by decide) rfl
          have hK9 := hK.sub (tys' := []) [] rfl
          exact W.zret (v := 1) hx hb hr rfl (fun t ht hW => ⟨⟨1, 1, rfl, rfl, Or.inl ⟨x18, x16, v4, fn19, oa_x18, ob_x18, by first | omega | decide, ob_x16, by first | omega | decide, by first | omega | decide, by omega, by show pg_atomF f5 v1.toInt true (pg_sum f5 v1.toInt 4) _ = _; first | (apply pg_atomF.nmc <;> first | assumption | omega) | (apply pg_atomF.nmf <;> first | assumption | omega) | (apply pg_atomF.num <;> first | assumption | omega) | (apply pg_atomF.lt <;> first | assumption | omega) | (apply pg_atomF.par1 <;> first | assumption | omega) | (apply pg_atomF.par0 <;> first | assumption | omega) | (apply pg_atomF.deep <;> first | assumption | omega) | (apply pg_atomF.bdn <;> first | assumption | omega) | (apply pg_atomF.bad <;> first | assumption | omega), by rw [ht]; exact hP9, va_K.moved hW.alike hK9, hD9⟩⟩, hS.F ht⟩) hS.2.2 dX3_readAtom_132
        · skip
          have fc14 : ¬ (0 ≤ ra13.toInt) := fun h9 => c14 (Int32.le_iff_toInt_le.mpr h9)
          refine lv_aload_n hx hb dX3_readAtom_110 rfl (lv_at hl 2 rfl) ?_
          refine va_get (D := (dC, dI)) (ci := 3) (v := .ref h1) (C := RX3) (T := TX3) (N := 3) hx hb hts (fun _ h => List.mem_cons_of_mem _ (List.mem_append_left _ (List.mem_append_right _ h))) hown hK hP 0 rfl rfl 0 (by decide) (hts (.fieldLink RX3 19 "LeftArguments$LawReader" "tape" "LLeftArguments$Tape;") (List.mem_cons_of_mem _ (List.mem_append_left _ (List.mem_append_left _ (List.mem_of_getElem? (i := 0) rfl))))) (fun _ h9 => h9) rfl dX3_readAtom_111 ?_
          have hPc := hP.sub (ws' := (wd_09b0abee h1 h2 v1 x7 v3 v4)) [1] rfl
          have hDc := hD.sub (ws' := (wd_09b0abee h1 h2 v1 x7 v3 v4)) [1] (by decide) rfl
          have hKc := hK.sub (tys' := []) [] rfl
          have hFc := va_free (wc := (wd_09b0abee h1 h2 v1 x7 v3 v4)) hD hS hA [1] rfl
          refine va_calli (va_runV (As := []) (rest := []) ⟨hx, hb, hml, hown, hts⟩ (k_X10_wrongHere l dC dI h1 h2 v1 x7 v3 v4 ⟨i_v1a, i_v1b⟩ ⟨oa_x7, by first | omega | decide⟩ H.size) (cwV 0 hts g_X3_readAtom_5_2 rfl rfl rfl (by decide +kernel) ⟨Nat.le_of_ble_eq_true rfl, Nat.le_of_ble_eq_true rfl⟩) (pv_PV10 hPc hKc hDc (q0 := 0) rfl) rfl rfl hl.1 rfl (lv_room (Nat.le_of_ble_eq_true rfl)) dX3_readAtom_114 ⟨Nat.le_of_ble_eq_true rfl, Nat.le_of_ble_eq_true rfl⟩) hS (fun q _ h => hFc q h) hFc (fun ra20 u t H1 locs ht hvm hwra20 hB hz1 hk1 hS => ?_)
          try rw [hwra20] at hB
          obtain ⟨x21, oa_x21, ob_x21, pt0_ra20, pt1_ra20, pt2_ra20, hP1, hK1, hD1⟩ := hB
          rw [ht] at hP1
          obtain ⟨hP2, hD2⟩ := va_join (wr := (wd_6b0d8e05 h0 h1 h3 v0 h2 g0 f5 h3 g1 f6)) (w1 := (wd_09b0abee h1 h2 v1 x7 x21 v4)) hP hD [1] [0, 2, 3] rfl rfl (by decide) (by decide) hk1 hFc hP1 hD1
          clear hP hD hPc hDc hKc hFc hP1 hK1 hD1 hk1 hz1
          generalize H1 = H at hP2 hS ⊢
          have hP := hP2.sub (ws' := (wd_1ad0248d h0 h1 h3 v0 h1 h2 v1 x7 x21 v4 h2 g0 f5 h3 g1 f6)) [0, 3, 1, 2] rfl
          have hD := hD2.sub (ws' := (wd_1ad0248d h0 h1 h3 v0 h1 h2 v1 x7 x21 v4 h2 g0 f5 h3 g1 f6)) [0, 3, 1, 2] (by decide) rfl
          clear hP2 hD2
          obtain rfl : ra20 = (0 : Int32) := pv_cs (by decide) pt0_ra20 pt1_ra20
          subst hQ
          have hP9 := hP.sub (ws' := (wd_1ad0248d h0 h1 h3 v0 h1 h2 v1 x7 x21 v4 h2 g0 f5 h3 g1 f6)) [0, 1, 2, 3] rfl
          have hD9 := hD.sub (ws' := (wd_1ad0248d h0 h1 h3 v0 h1 h2 v1 x7 x21 v4 h2 g0 f5 h3 g1 f6)) [0, 1, 2, 3] (by decide) rfl
          have hK9 := hK.sub (tys' := []) [] rfl
          exact W.zret (v := 0) hx hb hr rfl (fun t ht hW => ⟨⟨0, 0, rfl, rfl, Or.inr (⟨v0, x7, x21, v4, f6, i_v0a, i_v0b, oa_x7, by first | omega | decide, oa_x21, ob_x21, by first | omega | decide, by first | omega | decide, by omega, by show pg_atomF f5 v1.toInt true (pg_sum f5 v1.toInt 4) _ = _; first | (apply pg_atomF.nmc <;> first | assumption | omega) | (apply pg_atomF.nmf <;> first | assumption | omega) | (apply pg_atomF.num <;> first | assumption | omega) | (apply pg_atomF.lt <;> first | assumption | omega) | (apply pg_atomF.par1 <;> first | assumption | omega) | (apply pg_atomF.par0 <;> first | assumption | omega) | (apply pg_atomF.deep <;> first | assumption | omega) | (apply pg_atomF.bdn <;> first | assumption | omega) | (apply pg_atomF.bad <;> first | assumption | omega), by rw [ht]; exact hP9, va_K.moved hW.alike hK9, hD9⟩)⟩, hS.F ht⟩) hS.2.2 dX3_readAtom_117
      · skip
        have fc10 : ¬ (ra9.toInt = 0) := fun h9 => c10 (Int32.toInt_inj.mp h9)
        refine lv_aload_n hx hb dX3_readAtom_62 rfl (lv_at hl 1 rfl) ?_
        refine va_get (D := (dC, dI)) (ci := 3) (v := .ref h1) (C := RX3) (T := TX3) (N := 3) hx hb hts (fun _ h => List.mem_cons_of_mem _ (List.mem_append_left _ (List.mem_append_right _ h))) hown hK hP 0 rfl rfl 0 (by decide) (hts (.fieldLink RX3 19 "LeftArguments$LawReader" "tape" "LLeftArguments$Tape;") (List.mem_cons_of_mem _ (List.mem_append_left _ (List.mem_append_left _ (List.mem_of_getElem? (i := 0) rfl))))) (fun _ h9 => h9) rfl dX3_readAtom_63 ?_
        refine lv_iconst (v := 4) hx hb dX3_readAtom_66 (by decide) ?_
        have hPc := hP.sub (ws' := (wd_82cdd16b h1 h2 v1 x7 v3 v4 h2 g0 f5)) [1, 2] rfl
        have hDc := hD.sub (ws' := (wd_82cdd16b h1 h2 v1 x7 v3 v4 h2 g0 f5)) [1, 2] (by decide) rfl
        have hKc := hK.sub (tys' := [(g0, .int)]) [0] rfl
        have hFc := va_free (wc := (wd_82cdd16b h1 h2 v1 x7 v3 v4 h2 g0 f5)) hD hS hA [1, 2] rfl
        refine va_calli (va_runV (As := [.int 4]) (rest := []) ⟨hx, hb, hml, hown, hts⟩ (k_X10_takeNumber l dC dI h1 h2 v1 x7 v3 v4 g0 f5 ⟨i_v1a, i_v1b⟩ ⟨oa_x7, by first | omega | decide⟩ ia_f5 H.size) (cwV 1 hts g_X3_readAtom_5_8 rfl rfl rfl (by decide +kernel) ⟨Nat.le_of_ble_eq_true rfl, Nat.le_of_ble_eq_true rfl⟩) (pv_PV10 hPc hKc hDc (q0 := 0) rfl) rfl rfl hl.1 rfl (lv_room (Nat.le_of_ble_eq_true rfl)) dX3_readAtom_67 ⟨Nat.le_of_ble_eq_true rfl, Nat.le_of_ble_eq_true rfl⟩) hS (fun q _ h => hFc q h) hFc (fun ra22 u t H1 locs ht hvm hwra22 hB hz1 hk1 hS => ?_)
        try rw [hwra22] at hB
        rcases hB with hB | hB
        · skip
          obtain ⟨x23, x24, oa_x23, ob_x23, oa_x24, ob_x24, pt0_ra22, pt1_ra22, pt2_ra22, pt3_ra22, hP1, hK1, hD1⟩ := hB
          rw [ht] at hP1
          obtain ⟨hP2, hD2⟩ := va_join (wr := (wd_b958b9da h0 h1 h3 v0 h3 g1 f6)) (w1 := (wd_82cdd16b h1 h2 v1 x23 v3 x24 h2 g0 f5)) hP hD [1, 2] [0, 3] rfl rfl (by decide) (by decide) hk1 hFc hP1 hD1
          clear hP hD hPc hDc hKc hFc hP1 hK1 hD1 hk1 hz1
          generalize H1 = H at hP2 hS ⊢
          have hP := hP2.sub (ws' := (wd_1ad0248d h0 h1 h3 v0 h1 h2 v1 x23 v3 x24 h2 g0 f5 h3 g1 f6)) [0, 2, 3, 1] rfl
          have hD := hD2.sub (ws' := (wd_1ad0248d h0 h1 h3 v0 h1 h2 v1 x23 v3 x24 h2 g0 f5 h3 g1 f6)) [0, 2, 3, 1] (by decide) rfl
          clear hP2 hD2
          obtain rfl : ra22 = (1 : Int32) := pv_cs (by decide) pt0_ra22 pt1_ra22
          refine lv_if_ne (tgt := 75) hx hb dX3_readAtom_70 (by decide) (fun _ => ?_) (fun c => absurd c (by decide))
          refine lv_aload_n hx hb dX3_readAtom_75 rfl (lv_at hl 1 rfl) ?_
          refine lv_iconst (v := 0) hx hb dX3_readAtom_76 (by decide) ?_
          refine lv_aload_n hx hb dX3_readAtom_77 rfl (lv_at hl 1 rfl) ?_
          refine va_get (D := (dC, dI)) (ci := 3) (v := .ref h1) (C := RX3) (T := TX3) (N := 3) hx hb hts (fun _ h => List.mem_cons_of_mem _ (List.mem_append_left _ (List.mem_append_right _ h))) hown hK hP 0 rfl rfl 0 (by decide) (hts (.fieldLink RX3 19 "LeftArguments$LawReader" "tape" "LLeftArguments$Tape;") (List.mem_cons_of_mem _ (List.mem_append_left _ (List.mem_append_left _ (List.mem_of_getElem? (i := 0) rfl))))) (fun _ h9 => h9) rfl dX3_readAtom_78 ?_
          have hPc := hP.sub (ws' := (wd_09b0abee h1 h2 v1 x23 v3 x24)) [1] rfl
          have hDc := hD.sub (ws' := (wd_09b0abee h1 h2 v1 x23 v3 x24)) [1] (by decide) rfl
          have hKc := hK.sub (tys' := []) [] rfl
          have hFc := va_free (wc := (wd_09b0abee h1 h2 v1 x23 v3 x24)) hD hS hA [1] rfl
          refine va_calli (va_runV (As := []) (rest := [.int 0, .ref h0]) ⟨hx, hb, hml, hown, hts⟩ (k_X10_number l dC dI h1 h2 v1 x23 v3 x24 ⟨i_v1a, i_v1b⟩ H.size) (cwV 0 hts g_X3_readAtom_5_9 rfl rfl rfl (by decide +kernel) ⟨Nat.le_of_ble_eq_true rfl, Nat.le_of_ble_eq_true rfl⟩) (pv_PV10 hPc hKc hDc (q0 := 0) rfl) rfl rfl hl.1 rfl (lv_room (Nat.le_of_ble_eq_true rfl)) dX3_readAtom_81 ⟨Nat.le_of_ble_eq_true rfl, Nat.le_of_ble_eq_true rfl⟩) hS (fun q _ h => hFc q h) hFc (fun ra25 u t H1 locs ht hvm hwra25 hB hz1 hk1 hS => ?_)
          try rw [hwra25] at hB
          obtain ⟨pt0_ra25, hP1, hK1, hD1⟩ := hB
          rw [ht] at hP1
          obtain ⟨hP2, hD2⟩ := va_join (wr := (wd_6b0d8e05 h0 h1 h3 v0 h2 g0 f5 h3 g1 f6)) (w1 := (wd_09b0abee h1 h2 v1 x23 v3 x24)) hP hD [1] [0, 2, 3] rfl rfl (by decide) (by decide) hk1 hFc hP1 hD1
          clear hP hD hPc hDc hKc hFc hP1 hK1 hD1 hk1 hz1
          generalize H1 = H at hP2 hS ⊢
          have hP := hP2.sub (ws' := (wd_1ad0248d h0 h1 h3 v0 h1 h2 v1 x23 v3 x24 h2 g0 f5 h3 g1 f6)) [0, 3, 1, 2] rfl
          have hD := hD2.sub (ws' := (wd_1ad0248d h0 h1 h3 v0 h1 h2 v1 x23 v3 x24 h2 g0 f5 h3 g1 f6)) [0, 3, 1, 2] (by decide) rfl
          clear hP2 hD2
          obtain rfl : x24 = ra25 := pt0_ra25.symm
          have hPc := hP.sub (ws' := (wd_b958b9da h0 h1 h3 v0 h3 g1 f6)) [0, 3] rfl
          have hDc := hD.sub (ws' := (wd_b958b9da h0 h1 h3 v0 h3 g1 f6)) [0, 3] (by decide) rfl
          have hKc := hK.sub (tys' := [(g1, .int)]) [1] rfl
          have hFc := va_free (wc := (wd_b958b9da h0 h1 h3 v0 h3 g1 f6)) hD hS hA [0, 3] rfl
          refine va_callv (va_runV (As := [.int 0, .int x24]) (rest := []) ⟨hx, hb, hml, hown, hts⟩ (k_X3_write l dC dI h0 h3 h1 v0 g1 f6 0 x24 ⟨i_v0a, i_v0b⟩ H.size) (cwV 2 hts g_X3_readAtom_5_6 rfl rfl rfl (by decide +kernel) ⟨Nat.le_of_ble_eq_true rfl, Nat.le_of_ble_eq_true rfl⟩) (pv_PV3 hPc hKc hDc (q0 := 0) rfl) rfl rfl hl.1 rfl (lv_room (Nat.le_of_ble_eq_true rfl)) dX3_readAtom_84 ⟨Nat.le_of_ble_eq_true rfl, Nat.le_of_ble_eq_true rfl⟩) hS (fun q _ h => hFc q h) hFc (fun u t H1 locs ht hvm hwra26 hB hz1 hk1 hS => ?_)
          obtain ⟨x27, fn28, oa_x27, ob_x27, hP1, hK1, hD1⟩ := hB
          rw [ht] at hP1
          obtain ⟨hP2, hD2⟩ := va_join (wr := (wd_82cdd16b h1 h2 v1 x23 v3 x24 h2 g0 f5)) (w1 := (wd_b958b9da h0 h1 h3 x27 h3 g1 fn28)) hP hD [0, 3] [1, 2] rfl rfl (by decide) (by decide) hk1 hFc hP1 hD1
          clear hP hD hPc hDc hKc hFc hP1 hK1 hD1 hk1 hz1
          generalize H1 = H at hP2 hS ⊢
          have hP := hP2.sub (ws' := (wd_1ad0248d h0 h1 h3 x27 h1 h2 v1 x23 v3 x24 h2 g0 f5 h3 g1 fn28)) [2, 0, 1, 3] rfl
          have hD := hD2.sub (ws' := (wd_1ad0248d h0 h1 h3 x27 h1 h2 v1 x23 v3 x24 h2 g0 f5 h3 g1 fn28)) [2, 0, 1, 3] (by decide) rfl
          clear hP2 hD2
          refine lv_iconst (v := 1) hx hb dX3_readAtom_87 (by decide) ?_
          subst hQ
          have hP9 := hP.sub (ws' := (wd_1ad0248d h0 h1 h3 x27 h1 h2 v1 x23 v3 x24 h2 g0 f5 h3 g1 fn28)) [0, 1, 2, 3] rfl
          have hD9 := hD.sub (ws' := (wd_1ad0248d h0 h1 h3 x27 h1 h2 v1 x23 v3 x24 h2 g0 f5 h3 g1 fn28)) [0, 1, 2, 3] (by decide) rfl
          have hK9 := hK.sub (tys' := []) [] rfl
          exact W.zret (v := 1) hx hb hr rfl (fun t ht hW => ⟨⟨1, 1, rfl, rfl, Or.inl ⟨x27, x23, x24, fn28, oa_x27, ob_x27, oa_x23, ob_x23, by first | omega | decide, by first | omega | decide, by omega, by show pg_atomF f5 v1.toInt true (pg_sum f5 v1.toInt 4) _ = _; first | (apply pg_atomF.nmc <;> first | assumption | omega) | (apply pg_atomF.nmf <;> first | assumption | omega) | (apply pg_atomF.num <;> first | assumption | omega) | (apply pg_atomF.lt <;> first | assumption | omega) | (apply pg_atomF.par1 <;> first | assumption | omega) | (apply pg_atomF.par0 <;> first | assumption | omega) | (apply pg_atomF.deep <;> first | assumption | omega) | (apply pg_atomF.bdn <;> first | assumption | omega) | (apply pg_atomF.bad <;> first | assumption | omega), by rw [ht]; exact hP9, va_K.moved hW.alike hK9, hD9⟩⟩, hS.F ht⟩) hS.2.2 dX3_readAtom_88
        · skip
          obtain ⟨x29, x30, x31, oa_x29, ob_x29, oa_x30, ob_x30, pt0_ra22, pt1_ra22, pt2_ra22, pt3_ra22, hP1, hK1, hD1⟩ := hB
          rw [ht] at hP1
          obtain ⟨hP2, hD2⟩ := va_join (wr := (wd_b958b9da h0 h1 h3 v0 h3 g1 f6)) (w1 := (wd_82cdd16b h1 h2 v1 x29 x30 x31 h2 g0 f5)) hP hD [1, 2] [0, 3] rfl rfl (by decide) (by decide) hk1 hFc hP1 hD1
          clear hP hD hPc hDc hKc hFc hP1 hK1 hD1 hk1 hz1
          generalize H1 = H at hP2 hS ⊢
          have hP := hP2.sub (ws' := (wd_1ad0248d h0 h1 h3 v0 h1 h2 v1 x29 x30 x31 h2 g0 f5 h3 g1 f6)) [0, 2, 3, 1] rfl
          have hD := hD2.sub (ws' := (wd_1ad0248d h0 h1 h3 v0 h1 h2 v1 x29 x30 x31 h2 g0 f5 h3 g1 f6)) [0, 2, 3, 1] (by decide) rfl
          clear hP2 hD2
          obtain rfl : ra22 = (0 : Int32) := pv_cs (by decide) pt0_ra22 pt1_ra22
          refine lv_if_ne (tgt := 75) hx hb dX3_readAtom_70 (by decide) (fun c => absurd (by decide) c) (fun _ => ?_)
          refine lv_iconst (v := 0) hx hb dX3_readAtom_73 (by decide) ?_
          subst hQ
          have hP9 := hP.sub (ws' := (wd_1ad0248d h0 h1 h3 v0 h1 h2 v1 x29 x30 x31 h2 g0 f5 h3 g1 f6)) [0, 1, 2, 3] rfl
          have hD9 := hD.sub (ws' := (wd_1ad0248d h0 h1 h3 v0 h1 h2 v1 x29 x30 x31 h2 g0 f5 h3 g1 f6)) [0, 1, 2, 3] (by decide) rfl
          have hK9 := hK.sub (tys' := []) [] rfl
          exact W.zret (v := 0) hx hb hr rfl (fun t ht hW => ⟨⟨0, 0, rfl, rfl, Or.inr (⟨v0, x29, x30, x31, f6, i_v0a, i_v0b, oa_x29, ob_x29, oa_x30, ob_x30, by first | omega | decide, by first | omega | decide, by omega, by show pg_atomF f5 v1.toInt true (pg_sum f5 v1.toInt 4) _ = _; first | (apply pg_atomF.nmc <;> first | assumption | omega) | (apply pg_atomF.nmf <;> first | assumption | omega) | (apply pg_atomF.num <;> first | assumption | omega) | (apply pg_atomF.lt <;> first | assumption | omega) | (apply pg_atomF.par1 <;> first | assumption | omega) | (apply pg_atomF.par0 <;> first | assumption | omega) | (apply pg_atomF.deep <;> first | assumption | omega) | (apply pg_atomF.bdn <;> first | assumption | omega) | (apply pg_atomF.bad <;> first | assumption | omega), by rw [ht]; exact hP9, va_K.moved hW.alike hK9, hD9⟩)⟩, hS.F ht⟩) hS.2.2 dX3_readAtom_74
    · skip
      have fc8 : ra1.toInt = 91 := congrArg Int32.toInt c8
      refine lv_iload_n hx hb dX3_readAtom_14 rfl (lv_at hl 2 rfl) ?_
      refine lv_bipush (v := 6) hx hb dX3_readAtom_15 (by decide) ?_
      refine lv_icmp_ge (tgt := 55) hx hb dX3_readAtom_17 (by decide) (fun c => absurd c (by decide)) (fun _ => ?_)
      refine lv_aload_n hx hb dX3_readAtom_20 rfl (lv_at hl 1 rfl) ?_
      refine va_get (D := (dC, dI)) (ci := 3) (v := .ref h1) (C := RX3) (T := TX3) (N := 3) hx hb hts (fun _ h => List.mem_cons_of_mem _ (List.mem_append_left _ (List.mem_append_right _ h))) hown hK hP 0 rfl rfl 0 (by decide) (hts (.fieldLink RX3 19 "LeftArguments$LawReader" "tape" "LLeftArguments$Tape;") (List.mem_cons_of_mem _ (List.mem_append_left _ (List.mem_append_left _ (List.mem_of_getElem? (i := 0) rfl))))) (fun _ h9 => h9) rfl dX3_readAtom_21 ?_
      have hPc := hP.sub (ws' := (wd_09b0abee h1 h2 v1 x7 v3 v4)) [1] rfl
      have hDc := hD.sub (ws' := (wd_09b0abee h1 h2 v1 x7 v3 v4)) [1] (by decide) rfl
      have hKc := hK.sub (tys' := []) [] rfl
      have hFc := va_free (wc := (wd_09b0abee h1 h2 v1 x7 v3 v4)) hD hS hA [1] rfl
      refine va_callv (va_runV (As := []) (rest := []) ⟨hx, hb, hml, hown, hts⟩ (k_X10_step l dC dI h1 h2 v1 x7 v3 v4 ⟨i_v1a, i_v1b⟩ ⟨oa_x7, ob_x7⟩ H.size) (cwV 0 hts g_X3_readAtom_5_5 rfl rfl rfl (by decide +kernel) ⟨Nat.le_of_ble_eq_true rfl, Nat.le_of_ble_eq_true rfl⟩) (pv_PV10 hPc hKc hDc (q0 := 0) rfl) rfl rfl hl.1 rfl (lv_room (Nat.le_of_ble_eq_true rfl)) dX3_readAtom_24 ⟨Nat.le_of_ble_eq_true rfl, Nat.le_of_ble_eq_true rfl⟩) hS (fun q _ h => hFc q h) hFc (fun u t H1 locs ht hvm hwra32 hB hz1 hk1 hS => ?_)
      obtain ⟨x33, oa_x33, ob_x33, pt0_ra32, hP1, hK1, hD1⟩ := hB
      rw [ht] at hP1
      obtain ⟨hP2, hD2⟩ := va_join (wr := (wd_6b0d8e05 h0 h1 h3 v0 h2 g0 f5 h3 g1 f6)) (w1 := (wd_09b0abee h1 h2 v1 x33 v3 v4)) hP hD [1] [0, 2, 3] rfl rfl (by decide) (by decide) hk1 hFc hP1 hD1
      clear hP hD hPc hDc hKc hFc hP1 hK1 hD1 hk1 hz1
      generalize H1 = H at hP2 hS ⊢
      have hP := hP2.sub (ws' := (wd_1ad0248d h0 h1 h3 v0 h1 h2 v1 x33 v3 v4 h2 g0 f5 h3 g1 f6)) [0, 3, 1, 2] rfl
      have hD := hD2.sub (ws' := (wd_1ad0248d h0 h1 h3 v0 h1 h2 v1 x33 v3 v4 h2 g0 f5 h3 g1 f6)) [0, 3, 1, 2] (by decide) rfl
      clear hP2 hD2
      refine lv_aload_n hx hb dX3_readAtom_27 rfl (lv_at hl 1 rfl) ?_
      refine lv_iload_n hx hb dX3_readAtom_28 rfl (lv_at hl 2 rfl) ?_
      refine lv_iconst (v := 1) hx hb dX3_readAtom_29 (by decide) ?_
      refine lv_iadd hx hb dX3_readAtom_30 ?_
      refine lv_topi (fun tv34 etv34 => ?_)
      obtain rfl : tv34 = (2 : Int32) := etv34.trans (by first | rfl | decide)
      have hPc := hP.sub (ws' := (wd_1ad0248d h0 h1 h3 v0 h1 h2 v1 x33 v3 v4 h2 g0 f5 h3 g1 f6)) [0, 1, 2, 3] rfl
      have hDc := hD.sub (ws' := (wd_1ad0248d h0 h1 h3 v0 h1 h2 v1 x33 v3 v4 h2 g0 f5 h3 g1 f6)) [0, 1, 2, 3] (by decide) rfl
      have hKc := hK.sub (tys' := [(g0, .int), (g1, .int)]) [0, 1] rfl
      have hFc := va_free (wc := (wd_1ad0248d h0 h1 h3 v0 h1 h2 v1 x33 v3 v4 h2 g0 f5 h3 g1 f6)) hD hS hA [0, 1, 2, 3] rfl
      refine va_calli (va_runV (As := [.int 2]) (rest := []) ⟨hx, hb, hml, hown, hts⟩ (k_X3_readSum_4 l dC dI adK adV h0 h1 h2 h3 v0 v1 x33 v3 v4 g0 f5 g1 f6 ⟨i_v0a, i_v0b⟩ ⟨i_v1a, i_v1b⟩ ⟨by first | omega | decide, ob_x33⟩ ia_f5 H.size) (cwV 1 hts g_X3_readAtom_5_12 rfl rfl rfl (by decide +kernel) ⟨Nat.le_of_ble_eq_true rfl, Nat.le_of_ble_eq_true rfl⟩) ⟨fun a U g mk q => by obtain ⟨q0, q1, qP, qK, qD, n0, n1, n2⟩ := q; exact ⟨q0, q1, qP, va_K.moved (u := U) (U := U.calling g mk a) (Vm.Alike.refl U.vm) qK, qD, vk_R.same rfl n0, va_Z.moved (Vm.Alike.refl _) n1, vk_S.moved (Vm.Alike.refl _) n2⟩, pv_rc3 hKc hPc (q0 := 0) rfl, fun U hU hW => ⟨rfl, by rw [hU], by rw [hU]; exact hPc, va_K.moved hW.alike hKc, hDc.weaken (fun _ _ _ _ => trivial), vk_R.warm hW h_vr_2, (by rw [hU]; exact (va_Z.moved hW.alike (va_Z.kept h_st_CS hS.2.1)).narrow hFc), (by rw [hU]; exact (vk_S.moved hW.alike (vk_S.kept h_st_S hS.2.1)).narrow hFc)⟩⟩ rfl rfl hl.1 rfl (lv_room (Nat.le_of_ble_eq_true rfl)) dX3_readAtom_31 ⟨Nat.le_of_ble_eq_true rfl, Nat.le_of_ble_eq_true rfl⟩) hS (fun q _ h => hFc q h) hFc (fun ra35 u t H1 locs ht hvm hwra35 hB hz1 hk1 hS => ?_)
      try rw [hwra35] at hB
      rcases hB with hB | hB
      · skip
        obtain ⟨x36, x37, x38, fn39, oa_x36, ob_x36, oa_x37, ob_x37, pt0_ra35, pt1_ra35, pt2_ra35, pt3_ra35, hP1, hK1, hD1⟩ := hB
        rw [ht] at hP1
        obtain ⟨hP2, hD2⟩ := va_join (wr := []) (w1 := (wd_1ad0248d h0 h1 h3 x36 h1 h2 v1 x37 v3 x38 h2 g0 f5 h3 g1 fn39)) hP hD [0, 1, 2, 3] [] rfl rfl (by decide) (by decide) hk1 hFc hP1 hD1
        clear hP hD hPc hDc hKc hFc hP1 hK1 hD1 hk1 hz1
        generalize H1 = H at hP2 hS ⊢
        have hP : va_P (dC, dI) vwCl (wd_1ad0248d h0 h1 h3 x36 h1 h2 v1 x37 v3 x38 h2 g0 f5 h3 g1 fn39) H := hP2
        have hD : va_D A (wd_1ad0248d h0 h1 h3 x36 h1 h2 v1 x37 v3 x38 h2 g0 f5 h3 g1 fn39) := hD2
        clear hP2 hD2
        obtain rfl : ra35 = (1 : Int32) := pv_cs (by decide) pt0_ra35 pt1_ra35
        refine lv_if_eq (tgt := 53) hx hb dX3_readAtom_34 (by decide) (fun c => absurd c (by decide)) (fun _ => ?_)
        refine lv_aload_n hx hb dX3_readAtom_37 rfl (lv_at hl 1 rfl) ?_
        refine va_get (D := (dC, dI)) (ci := 3) (v := .ref h1) (C := RX3) (T := TX3) (N := 3) hx hb hts (fun _ h => List.mem_cons_of_mem _ (List.mem_append_left _ (List.mem_append_right _ h))) hown hK hP 0 rfl rfl 0 (by decide) (hts (.fieldLink RX3 19 "LeftArguments$LawReader" "tape" "LLeftArguments$Tape;") (List.mem_cons_of_mem _ (List.mem_append_left _ (List.mem_append_left _ (List.mem_of_getElem? (i := 0) rfl))))) (fun _ h9 => h9) rfl dX3_readAtom_38 ?_
        refine lv_bipush (v := 93) hx hb dX3_readAtom_41 (by decide) ?_
        have hPc := hP.sub (ws' := (wd_82cdd16b h1 h2 v1 x37 v3 x38 h2 g0 f5)) [1, 2] rfl
        have hDc := hD.sub (ws' := (wd_82cdd16b h1 h2 v1 x37 v3 x38 h2 g0 f5)) [1, 2] (by decide) rfl
        have hKc := hK.sub (tys' := [(g0, .int)]) [0] rfl
        have hFc := va_free (wc := (wd_82cdd16b h1 h2 v1 x37 v3 x38 h2 g0 f5)) hD hS hA [1, 2] rfl
        refine va_calli (va_runV (As := [.int 93]) (rest := []) ⟨hx, hb, hml, hown, hts⟩ (k_X10_take_2 l dC dI h1 h2 v1 x37 v3 x38 g0 f5 ⟨i_v1a, i_v1b⟩ ⟨oa_x37, ob_x37⟩ ia_f5 H.size) (cwV 1 hts g_X3_readAtom_5_13 rfl rfl rfl (by decide +kernel) ⟨Nat.le_of_ble_eq_true rfl, Nat.le_of_ble_eq_true rfl⟩) (pv_PV10 hPc hKc hDc (q0 := 0) rfl) rfl rfl hl.1 rfl (lv_room (Nat.le_of_ble_eq_true rfl)) dX3_readAtom_43 ⟨Nat.le_of_ble_eq_true rfl, Nat.le_of_ble_eq_true rfl⟩) hS (fun q _ h => hFc q h) hFc (fun ra40 u t H1 locs ht hvm hwra40 hB hz1 hk1 hS => ?_)
        try rw [hwra40] at hB
        rcases hB with hB | hB
        · skip
          obtain ⟨x41, oa_x41, ob_x41, pt0_ra40, pt1_ra40, pt2_ra40, pt3_ra40, hP1, hK1, hD1⟩ := hB
          rw [ht] at hP1
          obtain ⟨hP2, hD2⟩ := va_join (wr := (wd_b958b9da h0 h1 h3 x36 h3 g1 fn39)) (w1 := (wd_82cdd16b h1 h2 v1 x41 v3 x38 h2 g0 f5)) hP hD [1, 2] [0, 3] rfl rfl (by decide) (by decide) hk1 hFc hP1 hD1
          clear hP hD hPc hDc hKc hFc hP1 hK1 hD1 hk1 hz1
          generalize H1 = H at hP2 hS ⊢
          have hP := hP2.sub (ws' := (wd_1ad0248d h0 h1 h3 x36 h1 h2 v1 x41 v3 x38 h2 g0 f5 h3 g1 fn39)) [0, 2, 3, 1] rfl
          have hD := hD2.sub (ws' := (wd_1ad0248d h0 h1 h3 x36 h1 h2 v1 x41 v3 x38 h2 g0 f5 h3 g1 fn39)) [0, 2, 3, 1] (by decide) rfl
          clear hP2 hD2
          obtain rfl : ra40 = (1 : Int32) := pv_cs (by decide) pt0_ra40 pt1_ra40
          refine lv_if_eq (tgt := 53) hx hb dX3_readAtom_46 (by decide) (fun c => absurd c (by decide)) (fun _ => ?_)
          refine lv_iconst (v := 1) hx hb dX3_readAtom_49 (by decide) ?_
          refine lv_goto (tgt := 54) hx hb dX3_readAtom_50 (by decide) ?_
          subst hQ
          have hP9 := hP.sub (ws' := (wd_1ad0248d h0 h1 h3 x36 h1 h2 v1 x41 v3 x38 h2 g0 f5 h3 g1 fn39)) [0, 1, 2, 3] rfl
          have hD9 := hD.sub (ws' := (wd_1ad0248d h0 h1 h3 x36 h1 h2 v1 x41 v3 x38 h2 g0 f5 h3 g1 fn39)) [0, 1, 2, 3] (by decide) rfl
          have hK9 := hK.sub (tys' := []) [] rfl
          exact W.zret (v := 1) hx hb hr rfl (fun t ht hW => ⟨⟨1, 1, rfl, rfl, Or.inl ⟨x36, x41, x38, fn39, oa_x36, ob_x36, by first | omega | decide, ob_x41, by first | omega | decide, by first | omega | decide, by omega, by show pg_atomF f5 v1.toInt true (pg_sum f5 v1.toInt 4) _ = _; first | (apply pg_atomF.nmc <;> first | assumption | omega) | (apply pg_atomF.nmf <;> first | assumption | omega) | (apply pg_atomF.num <;> first | assumption | omega) | (apply pg_atomF.lt <;> first | assumption | omega) | (apply pg_atomF.par1 <;> first | assumption | omega) | (apply pg_atomF.par0 <;> first | assumption | omega) | (apply pg_atomF.deep <;> first | assumption | omega) | (apply pg_atomF.bdn <;> first | assumption | omega) | (apply pg_atomF.bad <;> first | assumption | omega), by rw [ht]; exact hP9, va_K.moved hW.alike hK9, hD9⟩⟩, hS.F ht⟩) hS.2.2 dX3_readAtom_54
        · skip
          obtain ⟨x42, x43, oa_x42, ob_x42, oa_x43, ob_x43, pt0_ra40, pt1_ra40, pt2_ra40, pt3_ra40, hP1, hK1, hD1⟩ := hB
          rw [ht] at hP1
          obtain ⟨hP2, hD2⟩ := va_join (wr := (wd_b958b9da h0 h1 h3 x36 h3 g1 fn39)) (w1 := (wd_82cdd16b h1 h2 v1 x42 x43 x38 h2 g0 f5)) hP hD [1, 2] [0, 3] rfl rfl (by decide) (by decide) hk1 hFc hP1 hD1
          clear hP hD hPc hDc hKc hFc hP1 hK1 hD1 hk1 hz1
          generalize H1 = H at hP2 hS ⊢
          have hP := hP2.sub (ws' := (wd_1ad0248d h0 h1 h3 x36 h1 h2 v1 x42 x43 x38 h2 g0 f5 h3 g1 fn39)) [0, 2, 3, 1] rfl
          have hD := hD2.sub (ws' := (wd_1ad0248d h0 h1 h3 x36 h1 h2 v1 x42 x43 x38 h2 g0 f5 h3 g1 fn39)) [0, 2, 3, 1] (by decide) rfl
          clear hP2 hD2
          obtain rfl : ra40 = (0 : Int32) := pv_cs (by decide) pt0_ra40 pt1_ra40
          refine lv_if_eq (tgt := 53) hx hb dX3_readAtom_46 (by decide) (fun _ => ?_) (fun c => absurd (by decide) c)
          refine lv_iconst (v := 0) hx hb dX3_readAtom_53 (by decide) ?_
          subst hQ
          have hP9 := hP.sub (ws' := (wd_1ad0248d h0 h1 h3 x36 h1 h2 v1 x42 x43 x38 h2 g0 f5 h3 g1 fn39)) [0, 1, 2, 3] rfl
          have hD9 := hD.sub (ws' := (wd_1ad0248d h0 h1 h3 x36 h1 h2 v1 x42 x43 x38 h2 g0 f5 h3 g1 fn39)) [0, 1, 2, 3] (by decide) rfl
          have hK9 := hK.sub (tys' := []) [] rfl
          exact W.zret (v := 0) hx hb hr rfl (fun t ht hW => ⟨⟨0, 0, rfl, rfl, Or.inr (⟨x36, x42, x43, x38, fn39, oa_x36, ob_x36, oa_x42, ob_x42, oa_x43, ob_x43, by first | omega | decide, by first | omega | decide, by omega, by show pg_atomF f5 v1.toInt true (pg_sum f5 v1.toInt 4) _ = _; first | (apply pg_atomF.nmc <;> first | assumption | omega) | (apply pg_atomF.nmf <;> first | assumption | omega) | (apply pg_atomF.num <;> first | assumption | omega) | (apply pg_atomF.lt <;> first | assumption | omega) | (apply pg_atomF.par1 <;> first | assumption | omega) | (apply pg_atomF.par0 <;> first | assumption | omega) | (apply pg_atomF.deep <;> first | assumption | omega) | (apply pg_atomF.bdn <;> first | assumption | omega) | (apply pg_atomF.bad <;> first | assumption | omega), by rw [ht]; exact hP9, va_K.moved hW.alike hK9, hD9⟩)⟩, hS.F ht⟩) hS.2.2 dX3_readAtom_54
      · skip
        obtain ⟨x44, x45, x46, x47, fn48, oa_x44, ob_x44, oa_x45, ob_x45, oa_x46, ob_x46, pt0_ra35, pt1_ra35, pt2_ra35, pt3_ra35, hP1, hK1, hD1⟩ := hB
        rw [ht] at hP1
        obtain ⟨hP2, hD2⟩ := va_join (wr := []) (w1 := (wd_1ad0248d h0 h1 h3 x44 h1 h2 v1 x45 x46 x47 h2 g0 f5 h3 g1 fn48)) hP hD [0, 1, 2, 3] [] rfl rfl (by decide) (by decide) hk1 hFc hP1 hD1
        clear hP hD hPc hDc hKc hFc hP1 hK1 hD1 hk1 hz1
        generalize H1 = H at hP2 hS ⊢
        have hP : va_P (dC, dI) vwCl (wd_1ad0248d h0 h1 h3 x44 h1 h2 v1 x45 x46 x47 h2 g0 f5 h3 g1 fn48) H := hP2
        have hD : va_D A (wd_1ad0248d h0 h1 h3 x44 h1 h2 v1 x45 x46 x47 h2 g0 f5 h3 g1 fn48) := hD2
        clear hP2 hD2
        obtain rfl : ra35 = (0 : Int32) := pv_cs (by decide) pt0_ra35 pt1_ra35
        refine lv_if_eq (tgt := 53) hx hb dX3_readAtom_34 (by decide) (fun _ => ?_) (fun c => absurd (by decide) c)
        refine lv_iconst (v := 0) hx hb dX3_readAtom_53 (by decide) ?_
        subst hQ
        have hP9 := hP.sub (ws' := (wd_1ad0248d h0 h1 h3 x44 h1 h2 v1 x45 x46 x47 h2 g0 f5 h3 g1 fn48)) [0, 1, 2, 3] rfl
        have hD9 := hD.sub (ws' := (wd_1ad0248d h0 h1 h3 x44 h1 h2 v1 x45 x46 x47 h2 g0 f5 h3 g1 fn48)) [0, 1, 2, 3] (by decide) rfl
        have hK9 := hK.sub (tys' := []) [] rfl
        exact W.zret (v := 0) hx hb hr rfl (fun t ht hW => ⟨⟨0, 0, rfl, rfl, Or.inr (⟨x44, x45, x46, x47, fn48, oa_x44, ob_x44, oa_x45, ob_x45, oa_x46, ob_x46, by first | omega | decide, by first | omega | decide, by omega, by show pg_atomF f5 v1.toInt true (pg_sum f5 v1.toInt 4) _ = _; first | (apply pg_atomF.nmc <;> first | assumption | omega) | (apply pg_atomF.nmf <;> first | assumption | omega) | (apply pg_atomF.num <;> first | assumption | omega) | (apply pg_atomF.lt <;> first | assumption | omega) | (apply pg_atomF.par1 <;> first | assumption | omega) | (apply pg_atomF.par0 <;> first | assumption | omega) | (apply pg_atomF.deep <;> first | assumption | omega) | (apply pg_atomF.bdn <;> first | assumption | omega) | (apply pg_atomF.bad <;> first | assumption | omega), by rw [ht]; exact hP9, va_K.moved hW.alike hK9, hD9⟩)⟩, hS.F ht⟩) hS.2.2 dX3_readAtom_54
def q_X3_readTerm_5 : List Cond := .code yX3_readTerm cX3_readTerm 4 (some .boolean) :: (([.code yX3_readAtom cX3_readAtom 4 (some .boolean), .fieldLink RX3 19 "LeftArguments$LawReader" "tape" "LLeftArguments$Tape;", .code yX10_next cX10_next 1 (some .int), .fieldLink RX10 19 "LeftArguments$Tape" "at" "I", .fieldLink RX10 15 "LeftArguments$Tape" "used" "I", .fieldLink RX10 9 "LeftArguments$Tape" "bytes" "[I", .initialized RX10, .instanceMethod yX10_next, .selects RX10 yX10_next yX10_next, .methodLink RX3 48 yX10_next, .code yX10_isDigit cX10_isDigit 1 (some .boolean), .static yX10_isDigit, .methodLink RX3 92 yX10_isDigit, .code yX10_wrongHere cX10_wrongHere 1 (some .boolean), .fieldLink RX10 22 "LeftArguments$Tape" "wrongAt" "I", .instanceMethod yX10_wrongHere, .selects RX10 yX10_wrongHere yX10_wrongHere, .methodLink RX3 83 yX10_wrongHere, .code yJ0_indexOf_0f7a4 cJ0_indexOf_0f7a4 2 (some .int), .code yJ0_indexOf_7cf53 cJ0_indexOf_7cf53 3 (some .int), .code yJ0_isLatin1_aae02 cJ0_isLatin1_aae02 1 (some .boolean), .fieldLink RJ0 38 "java/lang/String" "COMPACT_STRINGS" "Z", .fieldLink RJ0 15 "java/lang/String" "coder" "B", .initialized RJ0, .instanceMethod yJ0_isLatin1_aae02, .selects RJ0 yJ0_isLatin1_aae02 yJ0_isLatin1_aae02, .methodLink RJ0 492 yJ0_isLatin1_aae02, .fieldLink RJ0 9 "java/lang/String" "value" "[B", .code yJ0_length_8abf5 cJ0_length_8abf5 1 (some .int), .code yJ0_coder_7d493 cJ0_coder_7d493 1 (some .byte), .instanceMethod yJ0_coder_7d493, .selects RJ0 yJ0_coder_7d493 yJ0_coder_7d493, .methodLink RJ0 335 yJ0_coder_7d493, .instanceMethod yJ0_length_8abf5, .selects RJ0 yJ0_length_8abf5 yJ0_length_8abf5, .methodLink RJ0 505 yJ0_length_8abf5, .code yJ1_indexOf_4cfef cJ1_indexOf_4cfef 4 (some .int), .code yJ1_canEncode_9a6ad cJ1_canEncode_9a6ad 1 (some .boolean), .initialized RJ1, .static yJ1_canEncode_9a6ad, .methodLink RJ1 88 yJ1_canEncode_9a6ad, .methodLink RJ1 92 Lib.Math.max.name, .static Lib.Math.max.name, .initialized "java/lang/Math", .code Lib.Math.max.name Lib.Math.max.code 2 (some .int), .methodLink RJ1 38 Lib.Math.min.name, .static Lib.Math.min.name, .code Lib.Math.min.name Lib.Math.min.code 2 (some .int), .code yJ1_indexOfChar_4cfef cJ1_indexOfChar_4cfef 6 (some .int), .static yJ1_indexOfChar_4cfef, .methodLink RJ1 95 yJ1_indexOfChar_4cfef, .static yJ1_indexOf_4cfef, .methodLink RJ0 637 yJ1_indexOf_4cfef, .instanceMethod yJ0_indexOf_7cf53, .selects RJ0 yJ0_indexOf_7cf53 yJ0_indexOf_7cf53, .methodLink RJ0 633 yJ0_indexOf_7cf53, .instanceMethod yJ0_indexOf_0f7a4, .selects RJ0 yJ0_indexOf_0f7a4 yJ0_indexOf_0f7a4, .methodLink RX3 103 yJ0_indexOf_0f7a4, .code yX10_step cX10_step 1 none, .instanceMethod yX10_step, .selects RX10 yX10_step yX10_step, .methodLink RX3 77 yX10_step, .code yX3_write cX3_write 3 none, .fieldLink RX3 15 "LeftArguments$LawReader" "used" "I", .fieldLink RX3 11 "LeftArguments$LawReader" "code" "[I", .initialized RX3, .instanceMethod yX3_write, .selects RX3 yX3_write yX3_write, .methodLink RX3 66 yX3_write, .code yX10_takeNumber cX10_takeNumber 3 (some .boolean), .methodLink RX10 37 yX10_next, .methodLink RX10 45 yX10_isDigit, .methodLink RX10 41 yX10_wrongHere, .fieldLink RX10 25 "LeftArguments$Tape" "number" "I", .code yX10_sign cX10_sign 1 (some .int), .instanceMethod yX10_sign, .selects RX10 yX10_sign yX10_sign, .methodLink RX10 49 yX10_sign, .instanceMethod yX10_takeNumber, .selects RX10 yX10_takeNumber yX10_takeNumber, .methodLink RX3 95 yX10_takeNumber, .code yX10_number cX10_number 1 (some .int), .instanceMethod yX10_number, .selects RX10 yX10_number yX10_number, .methodLink RX3 98 yX10_number, .code yX3_readSum cX3_readSum 4 (some .boolean), .code yX3_readTerm cX3_readTerm 4 (some .boolean), .instanceMethod yX3_readAtom, .selects RX3 yX3_readAtom yX3_readAtom, .methodLink RX3 89 yX3_readAtom, .instanceMethod yX3_readTerm, .selects RX3 yX3_readTerm yX3_readTerm, .methodLink RX3 86 yX3_readTerm, .instanceMethod yX3_readSum, .selects RX3 yX3_readSum yX3_readSum, .methodLink RX3 59 yX3_readSum, .code yX10_take cX10_take 2 (some .boolean), .instanceMethod yX10_take, .selects RX10 yX10_take yX10_take, .methodLink RX3 51 yX10_take] : List Cond) ++ wsX30 ++ wsX100)
set_option maxRecDepth 20000 in
theorem g_X3_readTerm_5_0 : GoodIn q_X3_readTerm_5 (wsV RX3 89 RX3 yX3_readAtom q_X3_readAtom_5) := goodIn_app (goodIn_r _ [91, 89, 90, 67] rfl (by decide +kernel)) (goodIn_ca (goodIn_ca (goodIn_r (.code yX3_readAtom cX3_readAtom 4 (some .boolean) :: [.fieldLink RX3 19 "LeftArguments$LawReader" "tape" "LLeftArguments$Tape;", .code yX10_next cX10_next 1 (some .int), .fieldLink RX10 19 "LeftArguments$Tape" "at" "I", .fieldLink RX10 15 "LeftArguments$Tape" "used" "I", .fieldLink RX10 9 "LeftArguments$Tape" "bytes" "[I", .initialized RX10, .instanceMethod yX10_next, .selects RX10 yX10_next yX10_next, .methodLink RX3 48 yX10_next, .code yX10_isDigit cX10_isDigit 1 (some .boolean), .static yX10_isDigit, .methodLink RX3 92 yX10_isDigit, .code yX10_wrongHere cX10_wrongHere 1 (some .boolean), .fieldLink RX10 22 "LeftArguments$Tape" "wrongAt" "I", .instanceMethod yX10_wrongHere, .selects RX10 yX10_wrongHere yX10_wrongHere, .methodLink RX3 83 yX10_wrongHere, .code yJ0_indexOf_0f7a4 cJ0_indexOf_0f7a4 2 (some .int), .code yJ0_indexOf_7cf53 cJ0_indexOf_7cf53 3 (some .int), .code yJ0_isLatin1_aae02 cJ0_isLatin1_aae02 1 (some .boolean), .fieldLink RJ0 38 "java/lang/String" "COMPACT_STRINGS" "Z", .fieldLink RJ0 15 "java/lang/String" "coder" "B", .initialized RJ0, .instanceMethod yJ0_isLatin1_aae02, .selects RJ0 yJ0_isLatin1_aae02 yJ0_isLatin1_aae02, .methodLink RJ0 492 yJ0_isLatin1_aae02, .fieldLink RJ0 9 "java/lang/String" "value" "[B", .code yJ0_length_8abf5 cJ0_length_8abf5 1 (some .int), .code yJ0_coder_7d493 cJ0_coder_7d493 1 (some .byte), .instanceMethod yJ0_coder_7d493, .selects RJ0 yJ0_coder_7d493 yJ0_coder_7d493, .methodLink RJ0 335 yJ0_coder_7d493, .instanceMethod yJ0_length_8abf5, .selects RJ0 yJ0_length_8abf5 yJ0_length_8abf5, .methodLink RJ0 505 yJ0_length_8abf5, .code yJ1_indexOf_4cfef cJ1_indexOf_4cfef 4 (some .int), .code yJ1_canEncode_9a6ad cJ1_canEncode_9a6ad 1 (some .boolean), .initialized RJ1, .static yJ1_canEncode_9a6ad, .methodLink RJ1 88 yJ1_canEncode_9a6ad, .methodLink RJ1 92 Lib.Math.max.name, .static Lib.Math.max.name, .initialized "java/lang/Math", .code Lib.Math.max.name Lib.Math.max.code 2 (some .int), .methodLink RJ1 38 Lib.Math.min.name, .static Lib.Math.min.name, .code Lib.Math.min.name Lib.Math.min.code 2 (some .int), .code yJ1_indexOfChar_4cfef cJ1_indexOfChar_4cfef 6 (some .int), .static yJ1_indexOfChar_4cfef, .methodLink RJ1 95 yJ1_indexOfChar_4cfef, .static yJ1_indexOf_4cfef, .methodLink RJ0 637 yJ1_indexOf_4cfef, .instanceMethod yJ0_indexOf_7cf53, .selects RJ0 yJ0_indexOf_7cf53 yJ0_indexOf_7cf53, .methodLink RJ0 633 yJ0_indexOf_7cf53, .instanceMethod yJ0_indexOf_0f7a4, .selects RJ0 yJ0_indexOf_0f7a4 yJ0_indexOf_0f7a4, .methodLink RX3 103 yJ0_indexOf_0f7a4, .code yX10_step cX10_step 1 none, .instanceMethod yX10_step, .selects RX10 yX10_step yX10_step, .methodLink RX3 77 yX10_step, .code yX3_write cX3_write 3 none, .fieldLink RX3 15 "LeftArguments$LawReader" "used" "I", .fieldLink RX3 11 "LeftArguments$LawReader" "code" "[I", .initialized RX3, .instanceMethod yX3_write, .selects RX3 yX3_write yX3_write, .methodLink RX3 66 yX3_write, .code yX10_takeNumber cX10_takeNumber 3 (some .boolean), .methodLink RX10 37 yX10_next, .methodLink RX10 45 yX10_isDigit, .methodLink RX10 41 yX10_wrongHere, .fieldLink RX10 25 "LeftArguments$Tape" "number" "I", .code yX10_sign cX10_sign 1 (some .int), .instanceMethod yX10_sign, .selects RX10 yX10_sign yX10_sign, .methodLink RX10 49 yX10_sign, .instanceMethod yX10_takeNumber, .selects RX10 yX10_takeNumber yX10_takeNumber, .methodLink RX3 95 yX10_takeNumber, .code yX10_number cX10_number 1 (some .int), .instanceMethod yX10_number, .selects RX10 yX10_number yX10_number, .methodLink RX3 98 yX10_number, .code yX3_readSum cX3_readSum 4 (some .boolean), .code yX3_readTerm cX3_readTerm 4 (some .boolean), .code yX3_readAtom cX3_readAtom 4 (some .boolean), .instanceMethod yX3_readAtom, .selects RX3 yX3_readAtom yX3_readAtom, .methodLink RX3 89 yX3_readAtom, .instanceMethod yX3_readTerm, .selects RX3 yX3_readTerm yX3_readTerm, .methodLink RX3 86 yX3_readTerm, .instanceMethod yX3_readSum, .selects RX3 yX3_readSum yX3_readSum, .methodLink RX3 59 yX3_readSum, .code yX10_take cX10_take 2 (some .boolean), .instanceMethod yX10_take, .selects RX10 yX10_take yX10_take, .methodLink RX3 51 yX10_take]) [1, 2, 3, 4, 5, 6, 7, 8, 9, 10, 11, 12, 13, 14, 15, 16, 17, 18, 19, 20, 21, 22, 23, 24, 25, 26, 27, 28, 29, 30, 31, 32, 33, 34, 35, 36, 37, 38, 39, 40, 41, 42, 43, 44, 45, 46, 47, 48, 49, 50, 51, 52, 53, 54, 55, 56, 57, 58, 59, 60, 61, 62, 63, 64, 65, 66, 67, 68, 69, 70, 71, 72, 73, 74, 75, 76, 77, 78, 79, 80, 81, 82, 83, 84, 85, 86, 87, 88, 1, 89, 90, 91, 92, 93, 94, 95, 96, 97, 98, 99, 100, 101] rfl (by decide +kernel)) (goodIn_sub (fun _ h => List.mem_cons_of_mem _ (List.mem_append_left _ (List.mem_append_right _ h))) gwX3)) (goodIn_sub (fun _ h => List.mem_cons_of_mem _ (List.mem_append_right _ h)) gwX10))
set_option maxRecDepth 20000 in
theorem g_X3_readTerm_5_1 : GoodIn q_X3_readTerm_5 (wsV RX3 48 RX10 yX10_next q_X10_next) := goodIn_app (goodIn_r _ [10, 8, 9, 7] rfl (by decide +kernel)) (goodIn_ca (goodIn_r (.code yX10_next cX10_next 1 (some .int) :: [.fieldLink RX10 19 "LeftArguments$Tape" "at" "I", .fieldLink RX10 15 "LeftArguments$Tape" "used" "I", .fieldLink RX10 9 "LeftArguments$Tape" "bytes" "[I"]) [3, 4, 5, 6] rfl (by decide +kernel)) (goodIn_sub (fun _ h => List.mem_cons_of_mem _ (List.mem_append_right _ h)) gwX10))
set_option maxRecDepth 20000 in
theorem g_X3_readTerm_5_2 : GoodIn q_X3_readTerm_5 (wsV RX3 77 RX10 yX10_step q_X10_step) := goodIn_app (goodIn_r _ [63, 61, 62, 7] rfl (by decide +kernel)) (goodIn_ca (goodIn_r (.code yX10_step cX10_step 1 none :: [.fieldLink RX10 19 "LeftArguments$Tape" "at" "I"]) [60, 4] rfl (by decide +kernel)) (goodIn_sub (fun _ h => List.mem_cons_of_mem _ (List.mem_append_right _ h)) gwX10))
set_option maxRecDepth 20000 in
theorem g_X3_readTerm_5_4 : GoodIn q_X3_readTerm_5 (wsV RX3 66 RX3 yX3_write q_X3_write) := goodIn_app (goodIn_r _ [70, 68, 69, 67] rfl (by decide +kernel)) (goodIn_ca (goodIn_r (.code yX3_write cX3_write 3 none :: [.fieldLink RX3 15 "LeftArguments$LawReader" "used" "I", .fieldLink RX3 11 "LeftArguments$LawReader" "code" "[I"]) [64, 65, 66] rfl (by decide +kernel)) (goodIn_sub (fun _ h => List.mem_cons_of_mem _ (List.mem_append_left _ (List.mem_append_right _ h))) gwX3))
set_option maxHeartbeats 4000000 in
set_option maxRecDepth 100000 in
theorem k_X3_readTerm_5 (l : Launch) (dC : Nat → ClassId) (dI : Nat → Nat → Nat) (adK : Nat → Nat) (adV : Nat → Nat) (h0 : Nat) (h1 : Nat) (h2 : Nat) (h3 : Nat) (v0 : Int32) (v1 : Int32) (v2 : Int32) (v3 : Int32) (v4 : Int32) (g0 : ClassId) (f5 : Nat → Int32) (g1 : ClassId) (f6 : Nat → Int32) (i_v0 : 0 ≤ v0.toInt ∧ v0.toInt ≤ 256) (i_v1 : 0 ≤ v1.toInt ∧ v1.toInt ≤ 240) (i_v2 : 0 ≤ v2.toInt ∧ v2.toInt ≤ 240) (ia_f5 : (∀ j, 0 ≤ (f5 j).toInt ∧ (f5 j).toInt ≤ 255)) (sz : Nat) : Met l yX3_readTerm q_X3_readTerm_5 ({ frames := 20, cells := 0, slots := 0, locals := 459 }) (va_Pc [.ref h0, .int 1] (fun U => U.heap.size = sz ∧ va_P (dC, dI) vwCl (wd_1ad0248d h0 h1 h3 v0 h1 h2 v1 v2 v3 v4 h2 g0 f5 h3 g1 f6) U.heap ∧ va_K (dC, dI) vwCl [(g0, .int), (g1, .int)] U ∧ va_D (fun _ => True) (wd_1ad0248d h0 h1 h3 v0 h1 h2 v1 v2 v3 v4 h2 g0 f5 h3 g1 f6) ∧ vk_R RX3 101 "zaondt" (adK 2) U ∧ va_Z "java/lang/String" "COMPACT_STRINGS" "Z" (.int 1) (va_A (wd_1ad0248d h0 h1 h3 v0 h1 h2 v1 v2 v3 v4 h2 g0 f5 h3 g1 f6) sz) U U.heap ∧ vk_S 3 pv_len3 pv_byt3 adK adV (va_A (wd_1ad0248d h0 h1 h3 v0 h1 h2 v1 v2 v3 v4 h2 g0 f5 h3 g1 f6) sz) U U.heap)) (va_Qi (fun (r : Int32) (r9 : Int32) => r9 = r) (fun (r : Int32) (t : State) => (∃ (o_h0_2 : Int32) (o_h1_2 : Int32) (o_h1_4 : Int32) (o_h3 : Nat → Int32), 0 ≤ o_h0_2.toInt ∧ o_h0_2.toInt ≤ 256 ∧ 0 ≤ o_h1_2.toInt ∧ o_h1_2.toInt ≤ 240 ∧ (1 ≤ r.toInt) ∧ (r.toInt ≤ 1) ∧ (v2.toInt ≤ o_h1_2.toInt) ∧ (pg_term f5 v1.toInt 5 v2.toInt = (true, o_h1_2.toInt)) ∧ va_P (dC, dI) vwCl (wd_1ad0248d h0 h1 h3 o_h0_2 h1 h2 v1 o_h1_2 v3 o_h1_4 h2 g0 f5 h3 g1 o_h3) t.heap ∧ va_K (dC, dI) vwCl [] t ∧ va_D (va_A (wd_1ad0248d h0 h1 h3 v0 h1 h2 v1 v2 v3 v4 h2 g0 f5 h3 g1 f6) sz) (wd_1ad0248d h0 h1 h3 o_h0_2 h1 h2 v1 o_h1_2 v3 o_h1_4 h2 g0 f5 h3 g1 o_h3)) ∨ (∃ (o_h0_2 : Int32) (o_h1_2 : Int32) (o_h1_3 : Int32) (o_h1_4 : Int32) (o_h3 : Nat → Int32), 0 ≤ o_h0_2.toInt ∧ o_h0_2.toInt ≤ 256 ∧ 0 ≤ o_h1_2.toInt ∧ o_h1_2.toInt ≤ 240 ∧ 0 ≤ o_h1_3.toInt ∧ o_h1_3.toInt ≤ 240 ∧ (0 ≤ r.toInt) ∧ (r.toInt ≤ 0) ∧ (v2.toInt ≤ o_h1_2.toInt) ∧ (pg_term f5 v1.toInt 5 v2.toInt = (false, o_h1_3.toInt)) ∧ va_P (dC, dI) vwCl (wd_1ad0248d h0 h1 h3 o_h0_2 h1 h2 v1 o_h1_2 o_h1_3 o_h1_4 h2 g0 f5 h3 g1 o_h3) t.heap ∧ va_K (dC, dI) vwCl [] t ∧ va_D (va_A (wd_1ad0248d h0 h1 h3 v0 h1 h2 v1 v2 v3 v4 h2 g0 f5 h3 g1 f6) sz) (wd_1ad0248d h0 h1 h3 o_h0_2 h1 h2 v1 o_h1_2 o_h1_3 o_h1_4 h2 g0 f5 h3 g1 o_h3))) (va_A (wd_1ad0248d h0 h1 h3 v0 h1 h2 v1 v2 v3 v4 h2 g0 f5 h3 g1 f6) sz)) 0 0 (va_A (wd_1ad0248d h0 h1 h3 v0 h1 h2 v1 v2 v3 v4 h2 g0 f5 h3 g1 f6) sz) := by
  refine Met.ofW (cc := cX3_readTerm) (maxL := 4) (ret := (some .boolean)) (by decide) rfl ?_
  intro p e s m args below meth c s₁ B hml hv
  obtain ⟨i_v0a, i_v0b⟩ := i_v0
  obtain ⟨i_v1a, i_v1b⟩ := i_v1
  obtain ⟨i_v2a, i_v2b⟩ := i_v2
  obtain ⟨rfl, hsz, hP, hK, hD0, h_vr_2, h_st_CS, h_st_S⟩ := hv
  have hx := B.exec
  have hb := B.bytes
  have hr := B.returns
  have hts := atoms_spec (ws := q_X3_readTerm_5) B.pre
  have hown : s.vm.findClass RX3 = some m.cls := findClass_of_methodNamed B.named
  have hlocks := B.notSynchronized
  subst hsz
  have hD := hD0.self (sz := s.heap.size)
  generalize hAe : va_A (wd_1ad0248d h0 h1 h3 v0 h1 h2 v1 v2 v3 v4 h2 g0 f5 h3 g1 f6) s.heap.size = A at hD h_st_CS h_st_S ⊢
  have hA : ∀ q : Nat, s.heap.size ≤ q → A q := fun q h => by rw [← hAe]; exact Or.inr h
  have hS : va_S A s.heap s.heap [] := va_S.rf
  generalize hQ : (MQ below _ _ s 0 0 A) = Q
  have hl := lv_entry ([.ref h0, .int 1]) (n := 4) (Nat.le_of_ble_eq_true rfl)
  rw [lg_entry_eq]
  generalize (lg_sl ([.ref h0, .int 1]) ++ List.replicate (4 - (lg_sl ([.ref h0, .int 1])).length) Slot.unset).toArray = ls at hl ⊢
  have hl : lv_has ls 4 [(0, .ref h0), (1, .int 1)] := hl
  obtain ⟨H, hH⟩ : ∃ H : Heap, H = s.heap := ⟨_, rfl⟩
  obtain ⟨locs, hlocs⟩ : ∃ y : List Loc, y = [] := ⟨_, rfl⟩
  have hS : va_S A s.heap H locs := by rw [hH, hlocs]; exact va_S.rf
  have hP : va_P (dC, dI) vwCl (wd_1ad0248d h0 h1 h3 v0 h1 h2 v1 v2 v3 v4 h2 g0 f5 h3 g1 f6) H := by rw [hH]; exact hP
  rw [← hH, ← hlocs]
  refine lv_aload_n hx hb dX3_readTerm_0 rfl (lv_at hl 0 rfl) ?_
  refine lv_iload_n hx hb dX3_readTerm_1 rfl (lv_at hl 1 rfl) ?_
  have hPc := hP.sub (ws' := (wd_1ad0248d h0 h1 h3 v0 h1 h2 v1 v2 v3 v4 h2 g0 f5 h3 g1 f6)) [0, 1, 2, 3] rfl
  have hDc := hD.sub (ws' := (wd_1ad0248d h0 h1 h3 v0 h1 h2 v1 v2 v3 v4 h2 g0 f5 h3 g1 f6)) [0, 1, 2, 3] (by decide) rfl
  have hKc := hK.sub (tys' := [(g0, .int), (g1, .int)]) [0, 1] rfl
  have hFc := va_free (wc := (wd_1ad0248d h0 h1 h3 v0 h1 h2 v1 v2 v3 v4 h2 g0 f5 h3 g1 f6)) hD hS hA [0, 1, 2, 3] rfl
  refine va_calli (va_runV (As := [.int 1]) (rest := []) ⟨hx, hb, hml, hown, hts⟩ (k_X3_readAtom_5 l dC dI adK adV h0 h1 h2 h3 v0 v1 v2 v3 v4 g0 f5 g1 f6 ⟨i_v0a, i_v0b⟩ ⟨i_v1a, i_v1b⟩ ⟨i_v2a, i_v2b⟩ ia_f5 H.size) (cwV 1 hts g_X3_readTerm_5_0 rfl rfl rfl (by decide +kernel) ⟨Nat.le_of_ble_eq_true rfl, Nat.le_of_ble_eq_true rfl⟩) ⟨fun a U g mk q => by obtain ⟨q0, q1, qP, qK, qD, n0, n1, n2⟩ := q; exact ⟨q0, q1, qP, va_K.moved (u := U) (U := U.calling g mk a) (Vm.Alike.refl U.vm) qK, qD, vk_R.same rfl n0, va_Z.moved (Vm.Alike.refl _) n1, vk_S.moved (Vm.Alike.refl _) n2⟩, pv_rc3 hKc hPc (q0 := 0) rfl, fun U hU hW => ⟨rfl, by rw [hU], by rw [hU]; exact hPc, va_K.moved hW.alike hKc, hDc.weaken (fun _ _ _ _ => trivial), vk_R.warm hW h_vr_2, (by rw [hU]; exact (va_Z.moved hW.alike (va_Z.kept h_st_CS hS.2.1)).narrow hFc), (by rw [hU]; exact (vk_S.moved hW.alike (vk_S.kept h_st_S hS.2.1)).narrow hFc)⟩⟩ rfl rfl hl.1 rfl (lv_room (Nat.le_of_ble_eq_true rfl)) dX3_readTerm_2 ⟨Nat.le_of_ble_eq_true rfl, Nat.le_of_ble_eq_true rfl⟩) hS (fun q _ h => hFc q h) hFc (fun ra1 u t H1 locs ht hvm hwra1 hB hz1 hk1 hS => ?_)
  try rw [hwra1] at hB
  rcases hB with hB | hB
  · skip
    obtain ⟨x2, x3, x4, fn5, oa_x2, ob_x2, oa_x3, ob_x3, pt0_ra1, pt1_ra1, pt2_ra1, pt3_ra1, hP1, hK1, hD1⟩ := hB
    rw [ht] at hP1
    obtain ⟨hP2, hD2⟩ := va_join (wr := []) (w1 := (wd_1ad0248d h0 h1 h3 x2 h1 h2 v1 x3 v3 x4 h2 g0 f5 h3 g1 fn5)) hP hD [0, 1, 2, 3] [] rfl rfl (by decide) (by decide) hk1 hFc hP1 hD1
    clear hP hD hPc hDc hKc hFc hP1 hK1 hD1 hk1 hz1
    generalize H1 = H at hP2 hS ⊢
    have hP : va_P (dC, dI) vwCl (wd_1ad0248d h0 h1 h3 x2 h1 h2 v1 x3 v3 x4 h2 g0 f5 h3 g1 fn5) H := hP2
    have hD : va_D A (wd_1ad0248d h0 h1 h3 x2 h1 h2 v1 x3 v3 x4 h2 g0 f5 h3 g1 fn5) := hD2
    clear hP2 hD2
    obtain rfl : ra1 = (1 : Int32) := pv_cs (by decide) pt0_ra1 pt1_ra1
    refine lv_if_ne (tgt := 10) hx hb dX3_readTerm_5 (by decide) (fun _ => ?_) (fun c => absurd c (by decide))
    refine lv_iconst (v := 0) hx hb dX3_readTerm_10 (by decide) ?_
    refine lv_istore_n (lv' := [(2, .int 0), (0, .ref h0), (1, .int 1)]) hx hb dX3_readTerm_11 rfl hl (by decide) rfl (fun ls hl => ?_)
    have hL101 : ∀ (n9 : Nat), ∀ (x91 : Int32) (x92 : Int32) (x93 : Int32) (x94 : Int32) (fn95 : Nat → Int32) (H : Heap) (locs : List Loc) (ls : Array Slot), 0 ≤ x91.toInt → x91.toInt ≤ 240 → 0 ≤ x92.toInt → x92.toInt ≤ 256 → 0 ≤ x93.toInt → x93.toInt ≤ 240 → (pg_L f5 v1.toInt 42 47 (pg_atom f5 v1.toInt 5) x93.toInt (pg_term f5 v1.toInt 5 v2.toInt)) → (x91.toInt ≤ x93.toInt) → (v2.toInt ≤ x93.toInt) → (240 - x91.toInt).toNat < n9 → va_P (dC, dI) vwCl (wd_1ad0248d h0 h1 h3 x92 h1 h2 v1 x93 v3 x94 h2 g0 f5 h3 g1 fn95) H → va_D A (wd_1ad0248d h0 h1 h3 x92 h1 h2 v1 x93 v3 x94 h2 g0 f5 h3 g1 fn95) → va_S A s.heap H locs → lv_has ls 4 [(2, .int x91), (0, .ref h0), (1, .int 1)] → W p l e ({ frames := 20, cells := 0, slots := 0, locals := 459 }) s m ([.ref h0, .int 1] : List Value).toArray below meth c H locs 0 0 Q (F0 m 12 ls []) := by
      intro n9
      induction n9 with
      | zero => intro x91 x92 x93 x94 fn95 H locs ls qa_x91 qb_x91 qa_x92 qb_x92 qa_x93 qb_x93 gh0_hL101 gh1_hL101 gh2_hL101 hm9 hP hD hS hl; exact absurd hm9 (Nat.not_lt_zero _)
      | succ n9 ih_hL101 =>
        intro x91 x92 x93 x94 fn95 H locs ls qa_x91 qb_x91 qa_x92 qb_x92 qa_x93 qb_x93 gh0_hL101 gh1_hL101 gh2_hL101 hm9 hP hD hS hl
        refine lv_iload_n hx hb dX3_readTerm_12 rfl (lv_at hl 0 rfl) ?_
        refine lv_sipush (v := 240) hx hb dX3_readTerm_13 (by decide) ?_
        refine lv_icmp_ge (tgt := 80) hx hb dX3_readTerm_16 (by decide) (fun c102 => ?_) (fun c102 => ?_)
        · skip
          have fc102 : 240 ≤ x91.toInt := Int32.le_iff_toInt_le.mp c102
          refine lv_iconst (v := 1) hx hb dX3_readTerm_80 (by decide) ?_
          subst hQ
          have hP9 := hP.sub (ws' := (wd_1ad0248d h0 h1 h3 x92 h1 h2 v1 x93 v3 x94 h2 g0 f5 h3 g1 fn95)) [0, 1, 2, 3] rfl
          have hD9 := hD.sub (ws' := (wd_1ad0248d h0 h1 h3 x92 h1 h2 v1 x93 v3 x94 h2 g0 f5 h3 g1 fn95)) [0, 1, 2, 3] (by decide) rfl
          have hK9 := hK.sub (tys' := []) [] rfl
          exact W.zret (v := 1) hx hb hr rfl (fun t ht hW => ⟨⟨1, 1, rfl, rfl, Or.inl ⟨x92, x93, x94, fn95, qa_x92, qb_x92, qa_x93, qb_x93, by first | omega | decide, by first | omega | decide, by omega, by first | assumption | (apply pg_L.stop <;> first | assumption | omega) | exact pg_L.stop (by assumption) (pg_s.here (by rw [pg_ch.off (by omega)]; decide)) (by rw [pg_ch.off (by omega)]; decide), by rw [ht]; exact hP9, va_K.moved hW.alike hK9, hD9⟩⟩, hS.F ht⟩) hS.2.2 dX3_readTerm_81
        · skip
          have fc102 : ¬ (240 ≤ x91.toInt) := fun h9 => c102 (Int32.le_iff_toInt_le.mpr h9)
          refine lv_aload_n hx hb dX3_readTerm_19 rfl (lv_at hl 1 rfl) ?_
          refine va_get (D := (dC, dI)) (ci := 3) (v := .ref h1) (C := RX3) (T := TX3) (N := 3) hx hb hts (fun _ h => List.mem_cons_of_mem _ (List.mem_append_left _ (List.mem_append_right _ h))) hown hK hP 0 rfl rfl 0 (by decide) (hts (.fieldLink RX3 19 "LeftArguments$LawReader" "tape" "LLeftArguments$Tape;") (List.mem_cons_of_mem _ (List.mem_append_left _ (List.mem_append_left _ (List.mem_of_getElem? (i := 1) rfl))))) (fun _ h9 => h9) rfl dX3_readTerm_20 ?_
          have hPc := hP.sub (ws' := (wd_82cdd16b h1 h2 v1 x93 v3 x94 h2 g0 f5)) [1, 2] rfl
          have hDc := hD.sub (ws' := (wd_82cdd16b h1 h2 v1 x93 v3 x94 h2 g0 f5)) [1, 2] (by decide) rfl
          have hKc := hK.sub (tys' := [(g0, .int)]) [0] rfl
          have hFc := va_free (wc := (wd_82cdd16b h1 h2 v1 x93 v3 x94 h2 g0 f5)) hD hS hA [1, 2] rfl
          refine va_calli (va_runV (As := []) (rest := []) ⟨hx, hb, hml, hown, hts⟩ (k_X10_next l dC dI h1 h2 v1 x93 v3 x94 g0 f5 ⟨i_v1a, i_v1b⟩ ⟨qa_x93, qb_x93⟩ ia_f5 H.size) (cwV 0 hts g_X3_readTerm_5_1 rfl rfl rfl (by decide +kernel) ⟨Nat.le_of_ble_eq_true rfl, Nat.le_of_ble_eq_true rfl⟩) (pv_PV10 hPc hKc hDc (q0 := 0) rfl) rfl rfl hl.1 rfl (lv_room (Nat.le_of_ble_eq_true rfl)) dX3_readTerm_23 ⟨Nat.le_of_ble_eq_true rfl, Nat.le_of_ble_eq_true rfl⟩) hS (fun q _ h => hFc q h) hFc (fun ra103 u t H1 locs ht hvm hwra103 hB hz1 hk1 hS => ?_)
          try rw [hwra103] at hB
          rcases hB with hB | hB
          · skip
            obtain ⟨x104, oa_x104, ob_x104, pt0_ra103, pt1_ra103, pt2_ra103, pt3_ra103, pt4_ra103, pt5_ra103, pt6_ra103, hP1, hK1, hD1⟩ := hB
            rw [ht] at hP1
            obtain ⟨hP2, hD2⟩ := va_join (wr := (wd_b958b9da h0 h1 h3 x92 h3 g1 fn95)) (w1 := (wd_82cdd16b h1 h2 v1 x104 v3 x94 h2 g0 f5)) hP hD [1, 2] [0, 3] rfl rfl (by decide) (by decide) hk1 hFc hP1 hD1
            clear hP hD hPc hDc hKc hFc hP1 hK1 hD1 hk1 hz1
            generalize H1 = H at hP2 hS ⊢
            have hP := hP2.sub (ws' := (wd_1ad0248d h0 h1 h3 x92 h1 h2 v1 x104 v3 x94 h2 g0 f5 h3 g1 fn95)) [0, 2, 3, 1] rfl
            have hD := hD2.sub (ws' := (wd_1ad0248d h0 h1 h3 x92 h1 h2 v1 x104 v3 x94 h2 g0 f5 h3 g1 fn95)) [0, 2, 3, 1] (by decide) rfl
            clear hP2 hD2
            obtain rfl : ra103 = ((-1) : Int32) := pv_cs (by decide) pt0_ra103 pt1_ra103
            refine lv_istore_n (lv' := [(3, .int (-1)), (2, .int x91), (0, .ref h0), (1, .int 1)]) hx hb dX3_readTerm_26 rfl hl (by decide) rfl (fun ls hl => ?_)
            refine lv_iload_n hx hb dX3_readTerm_27 rfl (lv_at hl 0 rfl) ?_
            refine lv_bipush (v := 42) hx hb dX3_readTerm_28 (by decide) ?_
            refine lv_icmp_eq (tgt := 41) hx hb dX3_readTerm_30 (by decide) (fun c => absurd c (by decide)) (fun _ => ?_)
            refine lv_iload_n hx hb dX3_readTerm_33 rfl (lv_at hl 0 rfl) ?_
            refine lv_bipush (v := 47) hx hb dX3_readTerm_34 (by decide) ?_
            refine lv_icmp_eq (tgt := 41) hx hb dX3_readTerm_36 (by decide) (fun c => absurd c (by decide)) (fun _ => ?_)
            refine lv_iconst (v := 1) hx hb dX3_readTerm_39 (by decide) ?_
            subst hQ
            have hP9 := hP.sub (ws' := (wd_1ad0248d h0 h1 h3 x92 h1 h2 v1 x104 v3 x94 h2 g0 f5 h3 g1 fn95)) [0, 1, 2, 3] rfl
            have hD9 := hD.sub (ws' := (wd_1ad0248d h0 h1 h3 x92 h1 h2 v1 x104 v3 x94 h2 g0 f5 h3 g1 fn95)) [0, 1, 2, 3] (by decide) rfl
            have hK9 := hK.sub (tys' := []) [] rfl
            exact W.zret (v := 1) hx hb hr rfl (fun t ht hW => ⟨⟨1, 1, rfl, rfl, Or.inl ⟨x92, x104, x94, fn95, qa_x92, qb_x92, oa_x104, ob_x104, by first | omega | decide, by first | omega | decide, by omega, by first | assumption | (apply pg_L.stop <;> first | assumption | omega) | exact pg_L.stop (by assumption) (pg_s.here (by rw [pg_ch.off (by omega)]; decide)) (by rw [pg_ch.off (by omega)]; decide), by rw [ht]; exact hP9, va_K.moved hW.alike hK9, hD9⟩⟩, hS.F ht⟩) hS.2.2 dX3_readTerm_40
          · skip
            obtain ⟨x105, oa_x105, ob_x105, pt0_ra103, pt1_ra103, pt2_ra103, pt3_ra103, pt4_ra103, pt5_ra103, pt6_ra103, hP1, hK1, hD1⟩ := hB
            rw [ht] at hP1
            obtain ⟨hP2, hD2⟩ := va_join (wr := (wd_b958b9da h0 h1 h3 x92 h3 g1 fn95)) (w1 := (wd_82cdd16b h1 h2 v1 x105 v3 x94 h2 g0 f5)) hP hD [1, 2] [0, 3] rfl rfl (by decide) (by decide) hk1 hFc hP1 hD1
            clear hP hD hPc hDc hKc hFc hP1 hK1 hD1 hk1 hz1
            generalize H1 = H at hP2 hS ⊢
            have hP := hP2.sub (ws' := (wd_1ad0248d h0 h1 h3 x92 h1 h2 v1 x105 v3 x94 h2 g0 f5 h3 g1 fn95)) [0, 2, 3, 1] rfl
            have hD := hD2.sub (ws' := (wd_1ad0248d h0 h1 h3 x92 h1 h2 v1 x105 v3 x94 h2 g0 f5 h3 g1 fn95)) [0, 2, 3, 1] (by decide) rfl
            clear hP2 hD2
            refine lv_istore_n (lv' := [(3, .int ra103), (2, .int x91), (0, .ref h0), (1, .int 1)]) hx hb dX3_readTerm_26 rfl hl (by decide) rfl (fun ls hl => ?_)
            refine lv_iload_n hx hb dX3_readTerm_27 rfl (lv_at hl 0 rfl) ?_
            refine lv_bipush (v := 42) hx hb dX3_readTerm_28 (by decide) ?_
            refine lv_icmp_eq (tgt := 41) hx hb dX3_readTerm_30 (by decide) (fun c106 => ?_) (fun c106 => ?_)
            · skip
              have fc106 : ra103.toInt = 42 := congrArg Int32.toInt c106
              refine lv_aload_n hx hb dX3_readTerm_41 rfl (lv_at hl 2 rfl) ?_
              refine va_get (D := (dC, dI)) (ci := 3) (v := .ref h1) (C := RX3) (T := TX3) (N := 3) hx hb hts (fun _ h => List.mem_cons_of_mem _ (List.mem_append_left _ (List.mem_append_right _ h))) hown hK hP 0 rfl rfl 0 (by decide) (hts (.fieldLink RX3 19 "LeftArguments$LawReader" "tape" "LLeftArguments$Tape;") (List.mem_cons_of_mem _ (List.mem_append_left _ (List.mem_append_left _ (List.mem_of_getElem? (i := 1) rfl))))) (fun _ h9 => h9) rfl dX3_readTerm_42 ?_
              have hPc := hP.sub (ws' := (wd_09b0abee h1 h2 v1 x105 v3 x94)) [1] rfl
              have hDc := hD.sub (ws' := (wd_09b0abee h1 h2 v1 x105 v3 x94)) [1] (by decide) rfl
              have hKc := hK.sub (tys' := []) [] rfl
              have hFc := va_free (wc := (wd_09b0abee h1 h2 v1 x105 v3 x94)) hD hS hA [1] rfl
              refine va_callv (va_runV (As := []) (rest := []) ⟨hx, hb, hml, hown, hts⟩ (k_X10_step l dC dI h1 h2 v1 x105 v3 x94 ⟨i_v1a, i_v1b⟩ ⟨oa_x105, ob_x105⟩ H.size) (cwV 0 hts g_X3_readTerm_5_2 rfl rfl rfl (by decide +kernel) ⟨Nat.le_of_ble_eq_true rfl, Nat.le_of_ble_eq_true rfl⟩) (pv_PV10 hPc hKc hDc (q0 := 0) rfl) rfl rfl hl.1 rfl (lv_room (Nat.le_of_ble_eq_true rfl)) dX3_readTerm_45 ⟨Nat.le_of_ble_eq_true rfl, Nat.le_of_ble_eq_true rfl⟩) hS (fun q _ h => hFc q h) hFc (fun u t H1 locs ht hvm hwra107 hB hz1 hk1 hS => ?_)
              obtain ⟨x108, oa_x108, ob_x108, pt0_ra107, hP1, hK1, hD1⟩ := hB
              rw [ht] at hP1
              obtain ⟨hP2, hD2⟩ := va_join (wr := (wd_6b0d8e05 h0 h1 h3 x92 h2 g0 f5 h3 g1 fn95)) (w1 := (wd_09b0abee h1 h2 v1 x108 v3 x94)) hP hD [1] [0, 2, 3] rfl rfl (by decide) (by decide) hk1 hFc hP1 hD1
              clear hP hD hPc hDc hKc hFc hP1 hK1 hD1 hk1 hz1
              generalize H1 = H at hP2 hS ⊢
              have hP := hP2.sub (ws' := (wd_1ad0248d h0 h1 h3 x92 h1 h2 v1 x108 v3 x94 h2 g0 f5 h3 g1 fn95)) [0, 3, 1, 2] rfl
              have hD := hD2.sub (ws' := (wd_1ad0248d h0 h1 h3 x92 h1 h2 v1 x108 v3 x94 h2 g0 f5 h3 g1 fn95)) [0, 3, 1, 2] (by decide) rfl
              clear hP2 hD2
              refine lv_aload_n hx hb dX3_readTerm_48 rfl (lv_at hl 2 rfl) ?_
              refine lv_iload_n hx hb dX3_readTerm_49 rfl (lv_at hl 3 rfl) ?_
              have hPc := hP.sub (ws' := (wd_1ad0248d h0 h1 h3 x92 h1 h2 v1 x108 v3 x94 h2 g0 f5 h3 g1 fn95)) [0, 1, 2, 3] rfl
              have hDc := hD.sub (ws' := (wd_1ad0248d h0 h1 h3 x92 h1 h2 v1 x108 v3 x94 h2 g0 f5 h3 g1 fn95)) [0, 1, 2, 3] (by decide) rfl
              have hKc := hK.sub (tys' := [(g0, .int), (g1, .int)]) [0, 1] rfl
              have hFc := va_free (wc := (wd_1ad0248d h0 h1 h3 x92 h1 h2 v1 x108 v3 x94 h2 g0 f5 h3 g1 fn95)) hD hS hA [0, 1, 2, 3] rfl
              refine va_calli (va_runV (As := [.int 1]) (rest := []) ⟨hx, hb, hml, hown, hts⟩ (k_X3_readAtom_5 l dC dI adK adV h0 h1 h2 h3 x92 v1 x108 v3 x94 g0 f5 g1 fn95 ⟨qa_x92, qb_x92⟩ ⟨i_v1a, i_v1b⟩ ⟨by first | omega | decide, ob_x108⟩ ia_f5 H.size) (cwV 1 hts g_X3_readTerm_5_0 rfl rfl rfl (by decide +kernel) ⟨Nat.le_of_ble_eq_true rfl, Nat.le_of_ble_eq_true rfl⟩) ⟨fun a U g mk q => by obtain ⟨q0, q1, qP, qK, qD, n0, n1, n2⟩ := q; exact ⟨q0, q1, qP, va_K.moved (u := U) (U := U.calling g mk a) (Vm.Alike.refl U.vm) qK, qD, vk_R.same rfl n0, va_Z.moved (Vm.Alike.refl _) n1, vk_S.moved (Vm.Alike.refl _) n2⟩, pv_rc3 hKc hPc (q0 := 0) rfl, fun U hU hW => ⟨rfl, by rw [hU], by rw [hU]; exact hPc, va_K.moved hW.alike hKc, hDc.weaken (fun _ _ _ _ => trivial), vk_R.warm hW h_vr_2, (by rw [hU]; exact (va_Z.moved hW.alike (va_Z.kept h_st_CS hS.2.1)).narrow hFc), (by rw [hU]; exact (vk_S.moved hW.alike (vk_S.kept h_st_S hS.2.1)).narrow hFc)⟩⟩ rfl rfl hl.1 rfl (lv_room (Nat.le_of_ble_eq_true rfl)) dX3_readTerm_50 ⟨Nat.le_of_ble_eq_true rfl, Nat.le_of_ble_eq_true rfl⟩) hS (fun q _ h => hFc q h) hFc (fun ra109 u t H1 locs ht hvm hwra109 hB hz1 hk1 hS => ?_)
              try rw [hwra109] at hB
              rcases hB with hB | hB
              · skip
                obtain ⟨x110, x111, x112, fn113, oa_x110, ob_x110, oa_x111, ob_x111, pt0_ra109, pt1_ra109, pt2_ra109, pt3_ra109, hP1, hK1, hD1⟩ := hB
                rw [ht] at hP1
                obtain ⟨hP2, hD2⟩ := va_join (wr := []) (w1 := (wd_1ad0248d h0 h1 h3 x110 h1 h2 v1 x111 v3 x112 h2 g0 f5 h3 g1 fn113)) hP hD [0, 1, 2, 3] [] rfl rfl (by decide) (by decide) hk1 hFc hP1 hD1
                clear hP hD hPc hDc hKc hFc hP1 hK1 hD1 hk1 hz1
                generalize H1 = H at hP2 hS ⊢
                have hP : va_P (dC, dI) vwCl (wd_1ad0248d h0 h1 h3 x110 h1 h2 v1 x111 v3 x112 h2 g0 f5 h3 g1 fn113) H := hP2
                have hD : va_D A (wd_1ad0248d h0 h1 h3 x110 h1 h2 v1 x111 v3 x112 h2 g0 f5 h3 g1 fn113) := hD2
                clear hP2 hD2
                obtain rfl : ra109 = (1 : Int32) := pv_cs (by decide) pt0_ra109 pt1_ra109
                refine lv_if_ne (tgt := 58) hx hb dX3_readTerm_53 (by decide) (fun _ => ?_) (fun c => absurd c (by decide))
                refine lv_aload_n hx hb dX3_readTerm_58 rfl (lv_at hl 2 rfl) ?_
                refine lv_iload_n hx hb dX3_readTerm_59 rfl (lv_at hl 0 rfl) ?_
                refine lv_bipush (v := 42) hx hb dX3_readTerm_60 (by decide) ?_
                refine lv_icmp_ne (tgt := 69) hx hb dX3_readTerm_62 (by decide) (fun c114 => by exfalso; have fc114 : ¬ (ra103.toInt = 42) := fun h9 => c114 (Int32.toInt_inj.mp h9); omega) (fun _ => ?_)
                refine lv_iconst (v := 4) hx hb dX3_readTerm_65 (by decide) ?_
                refine lv_goto (tgt := 70) hx hb dX3_readTerm_66 (by decide) ?_
                refine lv_iconst (v := 0) hx hb dX3_readTerm_70 (by decide) ?_
                have hPc := hP.sub (ws' := (wd_b958b9da h0 h1 h3 x110 h3 g1 fn113)) [0, 3] rfl
                have hDc := hD.sub (ws' := (wd_b958b9da h0 h1 h3 x110 h3 g1 fn113)) [0, 3] (by decide) rfl
                have hKc := hK.sub (tys' := [(g1, .int)]) [1] rfl
                have hFc := va_free (wc := (wd_b958b9da h0 h1 h3 x110 h3 g1 fn113)) hD hS hA [0, 3] rfl
                refine va_callv (va_runV (As := [.int 4, .int 0]) (rest := []) ⟨hx, hb, hml, hown, hts⟩ (k_X3_write l dC dI h0 h3 h1 x110 g1 fn113 4 0 ⟨oa_x110, ob_x110⟩ H.size) (cwV 2 hts g_X3_readTerm_5_4 rfl rfl rfl (by decide +kernel) ⟨Nat.le_of_ble_eq_true rfl, Nat.le_of_ble_eq_true rfl⟩) (pv_PV3 hPc hKc hDc (q0 := 0) rfl) rfl rfl hl.1 rfl (lv_room (Nat.le_of_ble_eq_true rfl)) dX3_readTerm_71 ⟨Nat.le_of_ble_eq_true rfl, Nat.le_of_ble_eq_true rfl⟩) hS (fun q _ h => hFc q h) hFc (fun u t H1 locs ht hvm hwra115 hB hz1 hk1 hS => ?_)
                obtain ⟨x116, fn117, oa_x116, ob_x116, hP1, hK1, hD1⟩ := hB
                rw [ht] at hP1
                obtain ⟨hP2, hD2⟩ := va_join (wr := (wd_82cdd16b h1 h2 v1 x111 v3 x112 h2 g0 f5)) (w1 := (wd_b958b9da h0 h1 h3 x116 h3 g1 fn117)) hP hD [0, 3] [1, 2] rfl rfl (by decide) (by decide) hk1 hFc hP1 hD1
                clear hP hD hPc hDc hKc hFc hP1 hK1 hD1 hk1 hz1
                generalize H1 = H at hP2 hS ⊢
                have hP := hP2.sub (ws' := (wd_1ad0248d h0 h1 h3 x116 h1 h2 v1 x111 v3 x112 h2 g0 f5 h3 g1 fn117)) [2, 0, 1, 3] rfl
                have hD := hD2.sub (ws' := (wd_1ad0248d h0 h1 h3 x116 h1 h2 v1 x111 v3 x112 h2 g0 f5 h3 g1 fn117)) [2, 0, 1, 3] (by decide) rfl
                clear hP2 hD2
                obtain ⟨t118, et118⟩ : ∃ y : Int32, y = x91 + 1 := ⟨_, rfl⟩
                have gt118 : t118.toInt = x91.toInt + (1) := pv_add (a := x91.toInt) (b := (1)) et118 rfl (by decide) (by omega) (by omega)
                refine lv_iinc (v := t118) (lv' := [(2, .int t118), (3, .int ra103), (0, .ref h0), (1, .int 1)]) hx hb dX3_readTerm_74 hl (k := 1) rfl (by rw [et118]; rfl) (by decide) rfl (fun ls hl => ?_)
                refine lv_goto (tgt := 12) hx hb dX3_readTerm_77 (by decide) ?_
                exact ih_hL101 t118 x116 x111 x112 fn117 H locs ls (by first | omega | decide) (by first | omega | decide) oa_x116 ob_x116 oa_x111 ob_x111 (by first | assumption | (apply pg_row.go <;> first | assumption | omega) | (apply pg_L.bi <;> first | assumption | omega) | (apply pg_L.step <;> first | assumption | omega)) (by first | omega | ((have h09 : ((0 : Int32)).toInt = 0 := by decide); omega)) (by omega) (by first | omega | (simp only [Int.toNat] at *; omega)) hP hD hS (lv_sub hl [0, 2, 3] rfl)
              · skip
                obtain ⟨x119, x120, x121, x122, fn123, oa_x119, ob_x119, oa_x120, ob_x120, oa_x121, ob_x121, pt0_ra109, pt1_ra109, pt2_ra109, pt3_ra109, hP1, hK1, hD1⟩ := hB
                rw [ht] at hP1
                obtain ⟨hP2, hD2⟩ := va_join (wr := []) (w1 := (wd_1ad0248d h0 h1 h3 x119 h1 h2 v1 x120 x121 x122 h2 g0 f5 h3 g1 fn123)) hP hD [0, 1, 2, 3] [] rfl rfl (by decide) (by decide) hk1 hFc hP1 hD1
                clear hP hD hPc hDc hKc hFc hP1 hK1 hD1 hk1 hz1
                generalize H1 = H at hP2 hS ⊢
                have hP : va_P (dC, dI) vwCl (wd_1ad0248d h0 h1 h3 x119 h1 h2 v1 x120 x121 x122 h2 g0 f5 h3 g1 fn123) H := hP2
                have hD : va_D A (wd_1ad0248d h0 h1 h3 x119 h1 h2 v1 x120 x121 x122 h2 g0 f5 h3 g1 fn123) := hD2
                clear hP2 hD2
                obtain rfl : ra109 = (0 : Int32) := pv_cs (by decide) pt0_ra109 pt1_ra109
                refine lv_if_ne (tgt := 58) hx hb dX3_readTerm_53 (by decide) (fun c => absurd (by decide) c) (fun _ => ?_)
                refine lv_iconst (v := 0) hx hb dX3_readTerm_56 (by decide) ?_
                subst hQ
                have hP9 := hP.sub (ws' := (wd_1ad0248d h0 h1 h3 x119 h1 h2 v1 x120 x121 x122 h2 g0 f5 h3 g1 fn123)) [0, 1, 2, 3] rfl
                have hD9 := hD.sub (ws' := (wd_1ad0248d h0 h1 h3 x119 h1 h2 v1 x120 x121 x122 h2 g0 f5 h3 g1 fn123)) [0, 1, 2, 3] (by decide) rfl
                have hK9 := hK.sub (tys' := []) [] rfl
                exact W.zret (v := 0) hx hb hr rfl (fun t ht hW => ⟨⟨0, 0, rfl, rfl, Or.inr (⟨x119, x120, x121, x122, fn123, oa_x119, ob_x119, oa_x120, ob_x120, oa_x121, ob_x121, by first | omega | decide, by first | omega | decide, by omega, by first | assumption | (apply pg_row.no <;> first | assumption | omega) | (apply pg_L.no <;> first | assumption | omega), by rw [ht]; exact hP9, va_K.moved hW.alike hK9, hD9⟩)⟩, hS.F ht⟩) hS.2.2 dX3_readTerm_57
            · skip
              have fc106 : ¬ (ra103.toInt = 42) := fun h9 => c106 (Int32.toInt_inj.mp h9)
              refine lv_iload_n hx hb dX3_readTerm_33 rfl (lv_at hl 0 rfl) ?_
              refine lv_bipush (v := 47) hx hb dX3_readTerm_34 (by decide) ?_
              refine lv_icmp_eq (tgt := 41) hx hb dX3_readTerm_36 (by decide) (fun c124 => ?_) (fun c124 => ?_)
              · skip
                have fc124 : ra103.toInt = 47 := congrArg Int32.toInt c124
                refine lv_aload_n hx hb dX3_readTerm_41 rfl (lv_at hl 2 rfl) ?_
                refine va_get (D := (dC, dI)) (ci := 3) (v := .ref h1) (C := RX3) (T := TX3) (N := 3) hx hb hts (fun _ h => List.mem_cons_of_mem _ (List.mem_append_left _ (List.mem_append_right _ h))) hown hK hP 0 rfl rfl 0 (by decide) (hts (.fieldLink RX3 19 "LeftArguments$LawReader" "tape" "LLeftArguments$Tape;") (List.mem_cons_of_mem _ (List.mem_append_left _ (List.mem_append_left _ (List.mem_of_getElem? (i := 1) rfl))))) (fun _ h9 => h9) rfl dX3_readTerm_42 ?_
                have hPc := hP.sub (ws' := (wd_09b0abee h1 h2 v1 x105 v3 x94)) [1] rfl
                have hDc := hD.sub (ws' := (wd_09b0abee h1 h2 v1 x105 v3 x94)) [1] (by decide) rfl
                have hKc := hK.sub (tys' := []) [] rfl
                have hFc := va_free (wc := (wd_09b0abee h1 h2 v1 x105 v3 x94)) hD hS hA [1] rfl
                refine va_callv (va_runV (As := []) (rest := []) ⟨hx, hb, hml, hown, hts⟩ (k_X10_step l dC dI h1 h2 v1 x105 v3 x94 ⟨i_v1a, i_v1b⟩ ⟨oa_x105, ob_x105⟩ H.size) (cwV 0 hts g_X3_readTerm_5_2 rfl rfl rfl (by decide +kernel) ⟨Nat.le_of_ble_eq_true rfl, Nat.le_of_ble_eq_true rfl⟩) (pv_PV10 hPc hKc hDc (q0 := 0) rfl) rfl rfl hl.1 rfl (lv_room (Nat.le_of_ble_eq_true rfl)) dX3_readTerm_45 ⟨Nat.le_of_ble_eq_true rfl, Nat.le_of_ble_eq_true rfl⟩) hS (fun q _ h => hFc q h) hFc (fun u t H1 locs ht hvm hwra125 hB hz1 hk1 hS => ?_)
                obtain ⟨x126, oa_x126, ob_x126, pt0_ra125, hP1, hK1, hD1⟩ := hB
                rw [ht] at hP1
                obtain ⟨hP2, hD2⟩ := va_join (wr := (wd_6b0d8e05 h0 h1 h3 x92 h2 g0 f5 h3 g1 fn95)) (w1 := (wd_09b0abee h1 h2 v1 x126 v3 x94)) hP hD [1] [0, 2, 3] rfl rfl (by decide) (by decide) hk1 hFc hP1 hD1
                clear hP hD hPc hDc hKc hFc hP1 hK1 hD1 hk1 hz1
                generalize H1 = H at hP2 hS ⊢
                have hP := hP2.sub (ws' := (wd_1ad0248d h0 h1 h3 x92 h1 h2 v1 x126 v3 x94 h2 g0 f5 h3 g1 fn95)) [0, 3, 1, 2] rfl
                have hD := hD2.sub (ws' := (wd_1ad0248d h0 h1 h3 x92 h1 h2 v1 x126 v3 x94 h2 g0 f5 h3 g1 fn95)) [0, 3, 1, 2] (by decide) rfl
                clear hP2 hD2
                refine lv_aload_n hx hb dX3_readTerm_48 rfl (lv_at hl 2 rfl) ?_
                refine lv_iload_n hx hb dX3_readTerm_49 rfl (lv_at hl 3 rfl) ?_
                have hPc := hP.sub (ws' := (wd_1ad0248d h0 h1 h3 x92 h1 h2 v1 x126 v3 x94 h2 g0 f5 h3 g1 fn95)) [0, 1, 2, 3] rfl
                have hDc := hD.sub (ws' := (wd_1ad0248d h0 h1 h3 x92 h1 h2 v1 x126 v3 x94 h2 g0 f5 h3 g1 fn95)) [0, 1, 2, 3] (by decide) rfl
                have hKc := hK.sub (tys' := [(g0, .int), (g1, .int)]) [0, 1] rfl
                have hFc := va_free (wc := (wd_1ad0248d h0 h1 h3 x92 h1 h2 v1 x126 v3 x94 h2 g0 f5 h3 g1 fn95)) hD hS hA [0, 1, 2, 3] rfl
                refine va_calli (va_runV (As := [.int 1]) (rest := []) ⟨hx, hb, hml, hown, hts⟩ (k_X3_readAtom_5 l dC dI adK adV h0 h1 h2 h3 x92 v1 x126 v3 x94 g0 f5 g1 fn95 ⟨qa_x92, qb_x92⟩ ⟨i_v1a, i_v1b⟩ ⟨by first | omega | decide, ob_x126⟩ ia_f5 H.size) (cwV 1 hts g_X3_readTerm_5_0 rfl rfl rfl (by decide +kernel) ⟨Nat.le_of_ble_eq_true rfl, Nat.le_of_ble_eq_true rfl⟩) ⟨fun a U g mk q => by obtain ⟨q0, q1, qP, qK, qD, n0, n1, n2⟩ := q; exact ⟨q0, q1, qP, va_K.moved (u := U) (U := U.calling g mk a) (Vm.Alike.refl U.vm) qK, qD, vk_R.same rfl n0, va_Z.moved (Vm.Alike.refl _) n1, vk_S.moved (Vm.Alike.refl _) n2⟩, pv_rc3 hKc hPc (q0 := 0) rfl, fun U hU hW => ⟨rfl, by rw [hU], by rw [hU]; exact hPc, va_K.moved hW.alike hKc, hDc.weaken (fun _ _ _ _ => trivial), vk_R.warm hW h_vr_2, (by rw [hU]; exact (va_Z.moved hW.alike (va_Z.kept h_st_CS hS.2.1)).narrow hFc), (by rw [hU]; exact (vk_S.moved hW.alike (vk_S.kept h_st_S hS.2.1)).narrow hFc)⟩⟩ rfl rfl hl.1 rfl (lv_room (Nat.le_of_ble_eq_true rfl)) dX3_readTerm_50 ⟨Nat.le_of_ble_eq_true rfl, Nat.le_of_ble_eq_true rfl⟩) hS (fun q _ h => hFc q h) hFc (fun ra127 u t H1 locs ht hvm hwra127 hB hz1 hk1 hS => ?_)
                try rw [hwra127] at hB
                rcases hB with hB | hB
                · skip
                  obtain ⟨x128, x129, x130, fn131, oa_x128, ob_x128, oa_x129, ob_x129, pt0_ra127, pt1_ra127, pt2_ra127, pt3_ra127, hP1, hK1, hD1⟩ := hB
                  rw [ht] at hP1
                  obtain ⟨hP2, hD2⟩ := va_join (wr := []) (w1 := (wd_1ad0248d h0 h1 h3 x128 h1 h2 v1 x129 v3 x130 h2 g0 f5 h3 g1 fn131)) hP hD [0, 1, 2, 3] [] rfl rfl (by decide) (by decide) hk1 hFc hP1 hD1
                  clear hP hD hPc hDc hKc hFc hP1 hK1 hD1 hk1 hz1
                  generalize H1 = H at hP2 hS ⊢
                  have hP : va_P (dC, dI) vwCl (wd_1ad0248d h0 h1 h3 x128 h1 h2 v1 x129 v3 x130 h2 g0 f5 h3 g1 fn131) H := hP2
                  have hD : va_D A (wd_1ad0248d h0 h1 h3 x128 h1 h2 v1 x129 v3 x130 h2 g0 f5 h3 g1 fn131) := hD2
                  clear hP2 hD2
                  obtain rfl : ra127 = (1 : Int32) := pv_cs (by decide) pt0_ra127 pt1_ra127
                  refine lv_if_ne (tgt := 58) hx hb dX3_readTerm_53 (by decide) (fun _ => ?_) (fun c => absurd c (by decide))
                  refine lv_aload_n hx hb dX3_readTerm_58 rfl (lv_at hl 2 rfl) ?_
                  refine lv_iload_n hx hb dX3_readTerm_59 rfl (lv_at hl 0 rfl) ?_
                  refine lv_bipush (v := 42) hx hb dX3_readTerm_60 (by decide) ?_
                  refine lv_icmp_ne (tgt := 69) hx hb dX3_readTerm_62 (by decide) (fun _ => ?_) (fun c132 => by exfalso; have fc132 : ra103.toInt = 42 := congrArg Int32.toInt c132; omega)
                  refine lv_iconst (v := 5) hx hb dX3_readTerm_69 (by decide) ?_
                  refine lv_iconst (v := 0) hx hb dX3_readTerm_70 (by decide) ?_
                  have hPc := hP.sub (ws' := (wd_b958b9da h0 h1 h3 x128 h3 g1 fn131)) [0, 3] rfl
                  have hDc := hD.sub (ws' := (wd_b958b9da h0 h1 h3 x128 h3 g1 fn131)) [0, 3] (by decide) rfl
                  have hKc := hK.sub (tys' := [(g1, .int)]) [1] rfl
                  have hFc := va_free (wc := (wd_b958b9da h0 h1 h3 x128 h3 g1 fn131)) hD hS hA [0, 3] rfl
                  refine va_callv (va_runV (As := [.int 5, .int 0]) (rest := []) ⟨hx, hb, hml, hown, hts⟩ (k_X3_write l dC dI h0 h3 h1 x128 g1 fn131 5 0 ⟨oa_x128, ob_x128⟩ H.size) (cwV 2 hts g_X3_readTerm_5_4 rfl rfl rfl (by decide +kernel) ⟨Nat.le_of_ble_eq_true rfl, Nat.le_of_ble_eq_true rfl⟩) (pv_PV3 hPc hKc hDc (q0 := 0) rfl) rfl rfl hl.1 rfl (lv_room (Nat.le_of_ble_eq_true rfl)) dX3_readTerm_71 ⟨Nat.le_of_ble_eq_true rfl, Nat.le_of_ble_eq_true rfl⟩) hS (fun q _ h => hFc q h) hFc (fun u t H1 locs ht hvm hwra133 hB hz1 hk1 hS => ?_)
                  obtain ⟨x134, fn135, oa_x134, ob_x134, hP1, hK1, hD1⟩ := hB
                  rw [ht] at hP1
                  obtain ⟨hP2, hD2⟩ := va_join (wr := (wd_82cdd16b h1 h2 v1 x129 v3 x130 h2 g0 f5)) (w1 := (wd_b958b9da h0 h1 h3 x134 h3 g1 fn135)) hP hD [0, 3] [1, 2] rfl rfl (by decide) (by decide) hk1 hFc hP1 hD1
                  clear hP hD hPc hDc hKc hFc hP1 hK1 hD1 hk1 hz1
                  generalize H1 = H at hP2 hS ⊢
                  have hP := hP2.sub (ws' := (wd_1ad0248d h0 h1 h3 x134 h1 h2 v1 x129 v3 x130 h2 g0 f5 h3 g1 fn135)) [2, 0, 1, 3] rfl
                  have hD := hD2.sub (ws' := (wd_1ad0248d h0 h1 h3 x134 h1 h2 v1 x129 v3 x130 h2 g0 f5 h3 g1 fn135)) [2, 0, 1, 3] (by decide) rfl
                  clear hP2 hD2
                  obtain ⟨t136, et136⟩ : ∃ y : Int32, y = x91 + 1 := ⟨_, rfl⟩
                  have gt136 : t136.toInt = x91.toInt + (1) := pv_add (a := x91.toInt) (b := (1)) et136 rfl (by decide) (by omega) (by omega)
                  refine lv_iinc (v := t136) (lv' := [(2, .int t136), (3, .int ra103), (0, .ref h0), (1, .int 1)]) hx hb dX3_readTerm_74 hl (k := 1) rfl (by rw [et136]; rfl) (by decide) rfl (fun ls hl => ?_)
                  refine lv_goto (tgt := 12) hx hb dX3_readTerm_77 (by decide) ?_
                  exact ih_hL101 t136 x134 x129 x130 fn135 H locs ls (by first | omega | decide) (by first | omega | decide) oa_x134 ob_x134 oa_x129 ob_x129 (by first | assumption | (apply pg_row.go <;> first | assumption | omega) | (apply pg_L.bi <;> first | assumption | omega) | (apply pg_L.step <;> first | assumption | omega)) (by first | omega | ((have h09 : ((0 : Int32)).toInt = 0 := by decide); omega)) (by omega) (by first | omega | (simp only [Int.toNat] at *; omega)) hP hD hS (lv_sub hl [0, 2, 3] rfl)
                · skip
                  obtain ⟨x137, x138, x139, x140, fn141, oa_x137, ob_x137, oa_x138, ob_x138, oa_x139, ob_x139, pt0_ra127, pt1_ra127, pt2_ra127, pt3_ra127, hP1, hK1, hD1⟩ := hB
                  rw [ht] at hP1
                  obtain ⟨hP2, hD2⟩ := va_join (wr := []) (w1 := (wd_1ad0248d h0 h1 h3 x137 h1 h2 v1 x138 x139 x140 h2 g0 f5 h3 g1 fn141)) hP hD [0, 1, 2, 3] [] rfl rfl (by decide) (by decide) hk1 hFc hP1 hD1
                  clear hP hD hPc hDc hKc hFc hP1 hK1 hD1 hk1 hz1
                  generalize H1 = H at hP2 hS ⊢
                  have hP : va_P (dC, dI) vwCl (wd_1ad0248d h0 h1 h3 x137 h1 h2 v1 x138 x139 x140 h2 g0 f5 h3 g1 fn141) H := hP2
                  have hD : va_D A (wd_1ad0248d h0 h1 h3 x137 h1 h2 v1 x138 x139 x140 h2 g0 f5 h3 g1 fn141) := hD2
                  clear hP2 hD2
                  obtain rfl : ra127 = (0 : Int32) := pv_cs (by decide) pt0_ra127 pt1_ra127
                  refine lv_if_ne (tgt := 58) hx hb dX3_readTerm_53 (by decide) (fun c => absurd (by decide) c) (fun _ => ?_)
                  refine lv_iconst (v := 0) hx hb dX3_readTerm_56 (by decide) ?_
                  subst hQ
                  have hP9 := hP.sub (ws' := (wd_1ad0248d h0 h1 h3 x137 h1 h2 v1 x138 x139 x140 h2 g0 f5 h3 g1 fn141)) [0, 1, 2, 3] rfl
                  have hD9 := hD.sub (ws' := (wd_1ad0248d h0 h1 h3 x137 h1 h2 v1 x138 x139 x140 h2 g0 f5 h3 g1 fn141)) [0, 1, 2, 3] (by decide) rfl
                  have hK9 := hK.sub (tys' := []) [] rfl
                  exact W.zret (v := 0) hx hb hr rfl (fun t ht hW => ⟨⟨0, 0, rfl, rfl, Or.inr (⟨x137, x138, x139, x140, fn141, oa_x137, ob_x137, oa_x138, ob_x138, oa_x139, ob_x139, by first | omega | decide, by first | omega | decide, by omega, by first | assumption | (apply pg_row.no <;> first | assumption | omega) | (apply pg_L.no <;> first | assumption | omega), by rw [ht]; exact hP9, va_K.moved hW.alike hK9, hD9⟩)⟩, hS.F ht⟩) hS.2.2 dX3_readTerm_57
              · skip
                have fc124 : ¬ (ra103.toInt = 47) := fun h9 => c124 (Int32.toInt_inj.mp h9)
                refine lv_iconst (v := 1) hx hb dX3_readTerm_39 (by decide) ?_
                subst hQ
                have hP9 := hP.sub (ws' := (wd_1ad0248d h0 h1 h3 x92 h1 h2 v1 x105 v3 x94 h2 g0 f5 h3 g1 fn95)) [0, 1, 2, 3] rfl
                have hD9 := hD.sub (ws' := (wd_1ad0248d h0 h1 h3 x92 h1 h2 v1 x105 v3 x94 h2 g0 f5 h3 g1 fn95)) [0, 1, 2, 3] (by decide) rfl
                have hK9 := hK.sub (tys' := []) [] rfl
                exact W.zret (v := 1) hx hb hr rfl (fun t ht hW => ⟨⟨1, 1, rfl, rfl, Or.inl ⟨x92, x105, x94, fn95, qa_x92, qb_x92, oa_x105, by first | omega | decide, by first | omega | decide, by first | omega | decide, by omega, by first | assumption | (apply pg_L.stop <;> first | assumption | omega) | exact pg_L.stop (by assumption) (pg_s.here (by rw [pg_ch.off (by omega)]; decide)) (by rw [pg_ch.off (by omega)]; decide), by rw [ht]; exact hP9, va_K.moved hW.alike hK9, hD9⟩⟩, hS.F ht⟩) hS.2.2 dX3_readTerm_40
    exact hL101 _ 0 x2 x3 x4 fn5 H locs ls (by decide) (by decide) oa_x2 ob_x2 oa_x3 ob_x3 (by first | assumption | (apply pg_row.go <;> first | assumption | omega) | (apply pg_L.bi <;> first | assumption | omega) | (apply pg_L.step <;> first | assumption | omega)) (by first | omega | ((have h09 : ((0 : Int32)).toInt = 0 := by decide); omega)) (by omega) (Nat.lt_succ_self _) hP hD hS (lv_sub hl [0, 1, 2] rfl)
  · skip
    obtain ⟨x142, x143, x144, x145, fn146, oa_x142, ob_x142, oa_x143, ob_x143, oa_x144, ob_x144, pt0_ra1, pt1_ra1, pt2_ra1, pt3_ra1, hP1, hK1, hD1⟩ := hB
    rw [ht] at hP1
    obtain ⟨hP2, hD2⟩ := va_join (wr := []) (w1 := (wd_1ad0248d h0 h1 h3 x142 h1 h2 v1 x143 x144 x145 h2 g0 f5 h3 g1 fn146)) hP hD [0, 1, 2, 3] [] rfl rfl (by decide) (by decide) hk1 hFc hP1 hD1
    clear hP hD hPc hDc hKc hFc hP1 hK1 hD1 hk1 hz1
    generalize H1 = H at hP2 hS ⊢
    have hP : va_P (dC, dI) vwCl (wd_1ad0248d h0 h1 h3 x142 h1 h2 v1 x143 x144 x145 h2 g0 f5 h3 g1 fn146) H := hP2
    have hD : va_D A (wd_1ad0248d h0 h1 h3 x142 h1 h2 v1 x143 x144 x145 h2 g0 f5 h3 g1 fn146) := hD2
    clear hP2 hD2
    obtain rfl : ra1 = (0 : Int32) := pv_cs (by decide) pt0_ra1 pt1_ra1
    refine lv_if_ne (tgt := 10) hx hb dX3_readTerm_5 (by decide) (fun c => absurd (by decide) c) (fun _ => ?_)
    refine lv_iconst (v := 0) hx hb dX3_readTerm_8 (by decide) ?_
    subst hQ
    have hP9 := hP.sub (ws' := (wd_1ad0248d h0 h1 h3 x142 h1 h2 v1 x143 x144 x145 h2 g0 f5 h3 g1 fn146)) [0, 1, 2, 3] rfl
    have hD9 := hD.sub (ws' := (wd_1ad0248d h0 h1 h3 x142 h1 h2 v1 x143 x144 x145 h2 g0 f5 h3 g1 fn146)) [0, 1, 2, 3] (by decide) rfl
    have hK9 := hK.sub (tys' := []) [] rfl
    exact W.zret (v := 0) hx hb hr rfl (fun t ht hW => ⟨⟨0, 0, rfl, rfl, Or.inr (⟨x142, x143, x144, x145, fn146, oa_x142, ob_x142, oa_x143, ob_x143, oa_x144, ob_x144, by first | omega | decide, by first | omega | decide, by omega, by first | assumption | (apply pg_row.no <;> first | assumption | omega) | (apply pg_L.no <;> first | assumption | omega), by rw [ht]; exact hP9, va_K.moved hW.alike hK9, hD9⟩)⟩, hS.F ht⟩) hS.2.2 dX3_readTerm_9
def q_X3_readSum_5 : List Cond := .code yX3_readSum cX3_readSum 4 (some .boolean) :: (([.code yX3_readTerm cX3_readTerm 4 (some .boolean), .code yX3_readAtom cX3_readAtom 4 (some .boolean), .fieldLink RX3 19 "LeftArguments$LawReader" "tape" "LLeftArguments$Tape;", .code yX10_next cX10_next 1 (some .int), .fieldLink RX10 19 "LeftArguments$Tape" "at" "I", .fieldLink RX10 15 "LeftArguments$Tape" "used" "I", .fieldLink RX10 9 "LeftArguments$Tape" "bytes" "[I", .initialized RX10, .instanceMethod yX10_next, .selects RX10 yX10_next yX10_next, .methodLink RX3 48 yX10_next, .code yX10_isDigit cX10_isDigit 1 (some .boolean), .static yX10_isDigit, .methodLink RX3 92 yX10_isDigit, .code yX10_wrongHere cX10_wrongHere 1 (some .boolean), .fieldLink RX10 22 "LeftArguments$Tape" "wrongAt" "I", .instanceMethod yX10_wrongHere, .selects RX10 yX10_wrongHere yX10_wrongHere, .methodLink RX3 83 yX10_wrongHere, .code yJ0_indexOf_0f7a4 cJ0_indexOf_0f7a4 2 (some .int), .code yJ0_indexOf_7cf53 cJ0_indexOf_7cf53 3 (some .int), .code yJ0_isLatin1_aae02 cJ0_isLatin1_aae02 1 (some .boolean), .fieldLink RJ0 38 "java/lang/String" "COMPACT_STRINGS" "Z", .fieldLink RJ0 15 "java/lang/String" "coder" "B", .initialized RJ0, .instanceMethod yJ0_isLatin1_aae02, .selects RJ0 yJ0_isLatin1_aae02 yJ0_isLatin1_aae02, .methodLink RJ0 492 yJ0_isLatin1_aae02, .fieldLink RJ0 9 "java/lang/String" "value" "[B", .code yJ0_length_8abf5 cJ0_length_8abf5 1 (some .int), .code yJ0_coder_7d493 cJ0_coder_7d493 1 (some .byte), .instanceMethod yJ0_coder_7d493, .selects RJ0 yJ0_coder_7d493 yJ0_coder_7d493, .methodLink RJ0 335 yJ0_coder_7d493, .instanceMethod yJ0_length_8abf5, .selects RJ0 yJ0_length_8abf5 yJ0_length_8abf5, .methodLink RJ0 505 yJ0_length_8abf5, .code yJ1_indexOf_4cfef cJ1_indexOf_4cfef 4 (some .int), .code yJ1_canEncode_9a6ad cJ1_canEncode_9a6ad 1 (some .boolean), .initialized RJ1, .static yJ1_canEncode_9a6ad, .methodLink RJ1 88 yJ1_canEncode_9a6ad, .methodLink RJ1 92 Lib.Math.max.name, .static Lib.Math.max.name, .initialized "java/lang/Math", .code Lib.Math.max.name Lib.Math.max.code 2 (some .int), .methodLink RJ1 38 Lib.Math.min.name, .static Lib.Math.min.name, .code Lib.Math.min.name Lib.Math.min.code 2 (some .int), .code yJ1_indexOfChar_4cfef cJ1_indexOfChar_4cfef 6 (some .int), .static yJ1_indexOfChar_4cfef, .methodLink RJ1 95 yJ1_indexOfChar_4cfef, .static yJ1_indexOf_4cfef, .methodLink RJ0 637 yJ1_indexOf_4cfef, .instanceMethod yJ0_indexOf_7cf53, .selects RJ0 yJ0_indexOf_7cf53 yJ0_indexOf_7cf53, .methodLink RJ0 633 yJ0_indexOf_7cf53, .instanceMethod yJ0_indexOf_0f7a4, .selects RJ0 yJ0_indexOf_0f7a4 yJ0_indexOf_0f7a4, .methodLink RX3 103 yJ0_indexOf_0f7a4, .code yX10_step cX10_step 1 none, .instanceMethod yX10_step, .selects RX10 yX10_step yX10_step, .methodLink RX3 77 yX10_step, .code yX3_write cX3_write 3 none, .fieldLink RX3 15 "LeftArguments$LawReader" "used" "I", .fieldLink RX3 11 "LeftArguments$LawReader" "code" "[I", .initialized RX3, .instanceMethod yX3_write, .selects RX3 yX3_write yX3_write, .methodLink RX3 66 yX3_write, .code yX10_takeNumber cX10_takeNumber 3 (some .boolean), .methodLink RX10 37 yX10_next, .methodLink RX10 45 yX10_isDigit, .methodLink RX10 41 yX10_wrongHere, .fieldLink RX10 25 "LeftArguments$Tape" "number" "I", .code yX10_sign cX10_sign 1 (some .int), .instanceMethod yX10_sign, .selects RX10 yX10_sign yX10_sign, .methodLink RX10 49 yX10_sign, .instanceMethod yX10_takeNumber, .selects RX10 yX10_takeNumber yX10_takeNumber, .methodLink RX3 95 yX10_takeNumber, .code yX10_number cX10_number 1 (some .int), .instanceMethod yX10_number, .selects RX10 yX10_number yX10_number, .methodLink RX3 98 yX10_number, .code yX3_readSum cX3_readSum 4 (some .boolean), .instanceMethod yX3_readAtom, .selects RX3 yX3_readAtom yX3_readAtom, .methodLink RX3 89 yX3_readAtom, .instanceMethod yX3_readTerm, .selects RX3 yX3_readTerm yX3_readTerm, .methodLink RX3 86 yX3_readTerm, .instanceMethod yX3_readSum, .selects RX3 yX3_readSum yX3_readSum, .methodLink RX3 59 yX3_readSum, .code yX10_take cX10_take 2 (some .boolean), .instanceMethod yX10_take, .selects RX10 yX10_take yX10_take, .methodLink RX3 51 yX10_take] : List Cond) ++ wsX30 ++ wsX100)
set_option maxRecDepth 20000 in
theorem g_X3_readSum_5_0 : GoodIn q_X3_readSum_5 (wsV RX3 86 RX3 yX3_readTerm q_X3_readTerm_5) := goodIn_app (goodIn_r _ [94, 92, 93, 68] rfl (by decide +kernel)) (goodIn_ca (goodIn_ca (goodIn_r (.code yX3_readTerm cX3_readTerm 4 (some .boolean) :: [.code yX3_readAtom cX3_readAtom 4 (some .boolean), .fieldLink RX3 19 "LeftArguments$LawReader" "tape" "LLeftArguments$Tape;", .code yX10_next cX10_next 1 (some .int), .fieldLink RX10 19 "LeftArguments$Tape" "at" "I", .fieldLink RX10 15 "LeftArguments$Tape" "used" "I", .fieldLink RX10 9 "LeftArguments$Tape" "bytes" "[I", .initialized RX10, .instanceMethod yX10_next, .selects RX10 yX10_next yX10_next, .methodLink RX3 48 yX10_next, .code yX10_isDigit cX10_isDigit 1 (some .boolean), .static yX10_isDigit, .methodLink RX3 92 yX10_isDigit, .code yX10_wrongHere cX10_wrongHere 1 (some .boolean), .fieldLink RX10 22 "LeftArguments$Tape" "wrongAt" "I", .instanceMethod yX10_wrongHere, .selects RX10 yX10_wrongHere yX10_wrongHere, .methodLink RX3 83 yX10_wrongHere, .code yJ0_indexOf_0f7a4 cJ0_indexOf_0f7a4 2 (some .int), .code yJ0_indexOf_7cf53 cJ0_indexOf_7cf53 3 (some .int), .code yJ0_isLatin1_aae02 cJ0_isLatin1_aae02 1 (some .boolean), .fieldLink RJ0 38 "java/lang/String" "COMPACT_STRINGS" "Z", .fieldLink RJ0 15 "java/lang/String" "coder" "B", .initialized RJ0, .instanceMethod yJ0_isLatin1_aae02, .selects RJ0 yJ0_isLatin1_aae02 yJ0_isLatin1_aae02, .methodLink RJ0 492 yJ0_isLatin1_aae02, .fieldLink RJ0 9 "java/lang/String" "value" "[B", .code yJ0_length_8abf5 cJ0_length_8abf5 1 (some .int), .code yJ0_coder_7d493 cJ0_coder_7d493 1 (some .byte), .instanceMethod yJ0_coder_7d493, .selects RJ0 yJ0_coder_7d493 yJ0_coder_7d493, .methodLink RJ0 335 yJ0_coder_7d493, .instanceMethod yJ0_length_8abf5, .selects RJ0 yJ0_length_8abf5 yJ0_length_8abf5, .methodLink RJ0 505 yJ0_length_8abf5, .code yJ1_indexOf_4cfef cJ1_indexOf_4cfef 4 (some .int), .code yJ1_canEncode_9a6ad cJ1_canEncode_9a6ad 1 (some .boolean), .initialized RJ1, .static yJ1_canEncode_9a6ad, .methodLink RJ1 88 yJ1_canEncode_9a6ad, .methodLink RJ1 92 Lib.Math.max.name, .static Lib.Math.max.name, .initialized "java/lang/Math", .code Lib.Math.max.name Lib.Math.max.code 2 (some .int), .methodLink RJ1 38 Lib.Math.min.name, .static Lib.Math.min.name, .code Lib.Math.min.name Lib.Math.min.code 2 (some .int), .code yJ1_indexOfChar_4cfef cJ1_indexOfChar_4cfef 6 (some .int), .static yJ1_indexOfChar_4cfef, .methodLink RJ1 95 yJ1_indexOfChar_4cfef, .static yJ1_indexOf_4cfef, .methodLink RJ0 637 yJ1_indexOf_4cfef, .instanceMethod yJ0_indexOf_7cf53, .selects RJ0 yJ0_indexOf_7cf53 yJ0_indexOf_7cf53, .methodLink RJ0 633 yJ0_indexOf_7cf53, .instanceMethod yJ0_indexOf_0f7a4, .selects RJ0 yJ0_indexOf_0f7a4 yJ0_indexOf_0f7a4, .methodLink RX3 103 yJ0_indexOf_0f7a4, .code yX10_step cX10_step 1 none, .instanceMethod yX10_step, .selects RX10 yX10_step yX10_step, .methodLink RX3 77 yX10_step, .code yX3_write cX3_write 3 none, .fieldLink RX3 15 "LeftArguments$LawReader" "used" "I", .fieldLink RX3 11 "LeftArguments$LawReader" "code" "[I", .initialized RX3, .instanceMethod yX3_write, .selects RX3 yX3_write yX3_write, .methodLink RX3 66 yX3_write, .code yX10_takeNumber cX10_takeNumber 3 (some .boolean), .methodLink RX10 37 yX10_next, .methodLink RX10 45 yX10_isDigit, .methodLink RX10 41 yX10_wrongHere, .fieldLink RX10 25 "LeftArguments$Tape" "number" "I", .code yX10_sign cX10_sign 1 (some .int), .instanceMethod yX10_sign, .selects RX10 yX10_sign yX10_sign, .methodLink RX10 49 yX10_sign, .instanceMethod yX10_takeNumber, .selects RX10 yX10_takeNumber yX10_takeNumber, .methodLink RX3 95 yX10_takeNumber, .code yX10_number cX10_number 1 (some .int), .instanceMethod yX10_number, .selects RX10 yX10_number yX10_number, .methodLink RX3 98 yX10_number, .code yX3_readSum cX3_readSum 4 (some .boolean), .code yX3_readTerm cX3_readTerm 4 (some .boolean), .instanceMethod yX3_readAtom, .selects RX3 yX3_readAtom yX3_readAtom, .methodLink RX3 89 yX3_readAtom, .instanceMethod yX3_readTerm, .selects RX3 yX3_readTerm yX3_readTerm, .methodLink RX3 86 yX3_readTerm, .instanceMethod yX3_readSum, .selects RX3 yX3_readSum yX3_readSum, .methodLink RX3 59 yX3_readSum, .code yX10_take cX10_take 2 (some .boolean), .instanceMethod yX10_take, .selects RX10 yX10_take yX10_take, .methodLink RX3 51 yX10_take]) [1, 2, 3, 4, 5, 6, 7, 8, 9, 10, 11, 12, 13, 14, 15, 16, 17, 18, 19, 20, 21, 22, 23, 24, 25, 26, 27, 28, 29, 30, 31, 32, 33, 34, 35, 36, 37, 38, 39, 40, 41, 42, 43, 44, 45, 46, 47, 48, 49, 50, 51, 52, 53, 54, 55, 56, 57, 58, 59, 60, 61, 62, 63, 64, 65, 66, 67, 68, 69, 70, 71, 72, 73, 74, 75, 76, 77, 78, 79, 80, 81, 82, 83, 84, 85, 86, 87, 88, 1, 89, 90, 91, 92, 93, 94, 95, 96, 97, 98, 99, 100, 101] rfl (by decide +kernel)) (goodIn_sub (fun _ h => List.mem_cons_of_mem _ (List.mem_append_left _ (List.mem_append_right _ h))) gwX3)) (goodIn_sub (fun _ h => List.mem_cons_of_mem _ (List.mem_append_right _ h)) gwX10))
set_option maxRecDepth 20000 in
theorem g_X3_readSum_5_1 : GoodIn q_X3_readSum_5 (wsV RX3 48 RX10 yX10_next q_X10_next) := goodIn_app (goodIn_r _ [11, 9, 10, 8] rfl (by decide +kernel)) (goodIn_ca (goodIn_r (.code yX10_next cX10_next 1 (some .int) :: [.fieldLink RX10 19 "LeftArguments$Tape" "at" "I", .fieldLink RX10 15 "LeftArguments$Tape" "used" "I", .fieldLink RX10 9 "LeftArguments$Tape" "bytes" "[I"]) [4, 5, 6, 7] rfl (by decide +kernel)) (goodIn_sub (fun _ h => List.mem_cons_of_mem _ (List.mem_append_right _ h)) gwX10))
set_option maxRecDepth 20000 in
theorem g_X3_readSum_5_2 : GoodIn q_X3_readSum_5 (wsV RX3 77 RX10 yX10_step q_X10_step) := goodIn_app (goodIn_r _ [64, 62, 63, 8] rfl (by decide +kernel)) (goodIn_ca (goodIn_r (.code yX10_step cX10_step 1 none :: [.fieldLink RX10 19 "LeftArguments$Tape" "at" "I"]) [61, 5] rfl (by decide +kernel)) (goodIn_sub (fun _ h => List.mem_cons_of_mem _ (List.mem_append_right _ h)) gwX10))
set_option maxRecDepth 20000 in
theorem g_X3_readSum_5_4 : GoodIn q_X3_readSum_5 (wsV RX3 66 RX3 yX3_write q_X3_write) := goodIn_app (goodIn_r _ [71, 69, 70, 68] rfl (by decide +kernel)) (goodIn_ca (goodIn_r (.code yX3_write cX3_write 3 none :: [.fieldLink RX3 15 "LeftArguments$LawReader" "used" "I", .fieldLink RX3 11 "LeftArguments$LawReader" "code" "[I"]) [65, 66, 67] rfl (by decide +kernel)) (goodIn_sub (fun _ h => List.mem_cons_of_mem _ (List.mem_append_left _ (List.mem_append_right _ h))) gwX3))
set_option maxHeartbeats 4000000 in
set_option maxRecDepth 100000 in
theorem k_X3_readSum_5 (l : Launch) (dC : Nat → ClassId) (dI : Nat → Nat → Nat) (adK : Nat → Nat) (adV : Nat → Nat) (h0 : Nat) (h1 : Nat) (h2 : Nat) (h3 : Nat) (v0 : Int32) (v1 : Int32) (v2 : Int32) (v3 : Int32) (v4 : Int32) (g0 : ClassId) (f5 : Nat → Int32) (g1 : ClassId) (f6 : Nat → Int32) (i_v0 : 0 ≤ v0.toInt ∧ v0.toInt ≤ 256) (i_v1 : 0 ≤ v1.toInt ∧ v1.toInt ≤ 240) (i_v2 : 0 ≤ v2.toInt ∧ v2.toInt ≤ 240) (ia_f5 : (∀ j, 0 ≤ (f5 j).toInt ∧ (f5 j).toInt ≤ 255)) (sz : Nat) : Met l yX3_readSum q_X3_readSum_5 ({ frames := 21, cells := 0, slots := 0, locals := 482 }) (va_Pc [.ref h0, .int 1] (fun U => U.heap.size = sz ∧ va_P (dC, dI) vwCl (wd_1ad0248d h0 h1 h3 v0 h1 h2 v1 v2 v3 v4 h2 g0 f5 h3 g1 f6) U.heap ∧ va_K (dC, dI) vwCl [(g0, .int), (g1, .int)] U ∧ va_D (fun _ => True) (wd_1ad0248d h0 h1 h3 v0 h1 h2 v1 v2 v3 v4 h2 g0 f5 h3 g1 f6) ∧ vk_R RX3 101 "zaondt" (adK 2) U ∧ va_Z "java/lang/String" "COMPACT_STRINGS" "Z" (.int 1) (va_A (wd_1ad0248d h0 h1 h3 v0 h1 h2 v1 v2 v3 v4 h2 g0 f5 h3 g1 f6) sz) U U.heap ∧ vk_S 3 pv_len3 pv_byt3 adK adV (va_A (wd_1ad0248d h0 h1 h3 v0 h1 h2 v1 v2 v3 v4 h2 g0 f5 h3 g1 f6) sz) U U.heap)) (va_Qi (fun (r : Int32) (r9 : Int32) => r9 = r) (fun (r : Int32) (t : State) => (∃ (o_h0_2 : Int32) (o_h1_2 : Int32) (o_h1_4 : Int32) (o_h3 : Nat → Int32), 0 ≤ o_h0_2.toInt ∧ o_h0_2.toInt ≤ 256 ∧ 0 ≤ o_h1_2.toInt ∧ o_h1_2.toInt ≤ 240 ∧ (1 ≤ r.toInt) ∧ (r.toInt ≤ 1) ∧ (v2.toInt ≤ o_h1_2.toInt) ∧ (pg_sum f5 v1.toInt 5 v2.toInt = (true, o_h1_2.toInt)) ∧ va_P (dC, dI) vwCl (wd_1ad0248d h0 h1 h3 o_h0_2 h1 h2 v1 o_h1_2 v3 o_h1_4 h2 g0 f5 h3 g1 o_h3) t.heap ∧ va_K (dC, dI) vwCl [] t ∧ va_D (va_A (wd_1ad0248d h0 h1 h3 v0 h1 h2 v1 v2 v3 v4 h2 g0 f5 h3 g1 f6) sz) (wd_1ad0248d h0 h1 h3 o_h0_2 h1 h2 v1 o_h1_2 v3 o_h1_4 h2 g0 f5 h3 g1 o_h3)) ∨ (∃ (o_h0_2 : Int32) (o_h1_2 : Int32) (o_h1_3 : Int32) (o_h1_4 : Int32) (o_h3 : Nat → Int32), 0 ≤ o_h0_2.toInt ∧ o_h0_2.toInt ≤ 256 ∧ 0 ≤ o_h1_2.toInt ∧ o_h1_2.toInt ≤ 240 ∧ 0 ≤ o_h1_3.toInt ∧ o_h1_3.toInt ≤ 240 ∧ (0 ≤ r.toInt) ∧ (r.toInt ≤ 0) ∧ (v2.toInt ≤ o_h1_2.toInt) ∧ (pg_sum f5 v1.toInt 5 v2.toInt = (false, o_h1_3.toInt)) ∧ va_P (dC, dI) vwCl (wd_1ad0248d h0 h1 h3 o_h0_2 h1 h2 v1 o_h1_2 o_h1_3 o_h1_4 h2 g0 f5 h3 g1 o_h3) t.heap ∧ va_K (dC, dI) vwCl [] t ∧ va_D (va_A (wd_1ad0248d h0 h1 h3 v0 h1 h2 v1 v2 v3 v4 h2 g0 f5 h3 g1 f6) sz) (wd_1ad0248d h0 h1 h3 o_h0_2 h1 h2 v1 o_h1_2 o_h1_3 o_h1_4 h2 g0 f5 h3 g1 o_h3))) (va_A (wd_1ad0248d h0 h1 h3 v0 h1 h2 v1 v2 v3 v4 h2 g0 f5 h3 g1 f6) sz)) 0 0 (va_A (wd_1ad0248d h0 h1 h3 v0 h1 h2 v1 v2 v3 v4 h2 g0 f5 h3 g1 f6) sz) := by
  refine Met.ofW (cc := cX3_readSum) (maxL := 4) (ret := (some .boolean)) (by decide) rfl ?_
  intro p e s m args below meth c s₁ B hml hv
  obtain ⟨i_v0a, i_v0b⟩ := i_v0
  obtain ⟨i_v1a, i_v1b⟩ := i_v1
  obtain ⟨i_v2a, i_v2b⟩ := i_v2
  obtain ⟨rfl, hsz, hP, hK, hD0, h_vr_2, h_st_CS, h_st_S⟩ := hv
  have hx := B.exec
  have hb := B.bytes
  have hr := B.returns
  have hts := atoms_spec (ws := q_X3_readSum_5) B.pre
  have hown : s.vm.findClass RX3 = some m.cls := findClass_of_methodNamed B.named
  have hlocks := B.notSynchronized
  subst hsz
  have hD := hD0.self (sz := s.heap.size)
  generalize hAe : va_A (wd_1ad0248d h0 h1 h3 v0 h1 h2 v1 v2 v3 v4 h2 g0 f5 h3 g1 f6) s.heap.size = A at hD h_st_CS h_st_S ⊢
  have hA : ∀ q : Nat, s.heap.size ≤ q → A q := fun q h => by rw [← hAe]; exact Or.inr h
  have hS : va_S A s.heap s.heap [] := va_S.rf
  generalize hQ : (MQ below _ _ s 0 0 A) = Q
  have hl := lv_entry ([.ref h0, .int 1]) (n := 4) (Nat.le_of_ble_eq_true rfl)
  rw [lg_entry_eq]
  generalize (lg_sl ([.ref h0, .int 1]) ++ List.replicate (4 - (lg_sl ([.ref h0, .int 1])).length) Slot.unset).toArray = ls at hl ⊢
  have hl : lv_has ls 4 [(0, .ref h0), (1, .int 1)] := hl
  obtain ⟨H, hH⟩ : ∃ H : Heap, H = s.heap := ⟨_, rfl⟩
  obtain ⟨locs, hlocs⟩ : ∃ y : List Loc, y = [] := ⟨_, rfl⟩
  have hS : va_S A s.heap H locs := by rw [hH, hlocs]; exact va_S.rf
  have hP : va_P (dC, dI) vwCl (wd_1ad0248d h0 h1 h3 v0 h1 h2 v1 v2 v3 v4 h2 g0 f5 h3 g1 f6) H := by rw [hH]; exact hP
  rw [← hH, ← hlocs]
  refine lv_aload_n hx hb dX3_readSum_0 rfl (lv_at hl 0 rfl) ?_
  refine lv_iload_n hx hb dX3_readSum_1 rfl (lv_at hl 1 rfl) ?_
  have hPc := hP.sub (ws' := (wd_1ad0248d h0 h1 h3 v0 h1 h2 v1 v2 v3 v4 h2 g0 f5 h3 g1 f6)) [0, 1, 2, 3] rfl
  have hDc := hD.sub (ws' := (wd_1ad0248d h0 h1 h3 v0 h1 h2 v1 v2 v3 v4 h2 g0 f5 h3 g1 f6)) [0, 1, 2, 3] (by decide) rfl
  have hKc := hK.sub (tys' := [(g0, .int), (g1, .int)]) [0, 1] rfl
  have hFc := va_free (wc := (wd_1ad0248d h0 h1 h3 v0 h1 h2 v1 v2 v3 v4 h2 g0 f5 h3 g1 f6)) hD hS hA [0, 1, 2, 3] rfl
  refine va_calli (va_runV (As := [.int 1]) (rest := []) ⟨hx, hb, hml, hown, hts⟩ (k_X3_readTerm_5 l dC dI adK adV h0 h1 h2 h3 v0 v1 v2 v3 v4 g0 f5 g1 f6 ⟨i_v0a, i_v0b⟩ ⟨i_v1a, i_v1b⟩ ⟨i_v2a, i_v2b⟩ ia_f5 H.size) (cwV 1 hts g_X3_readSum_5_0 rfl rfl rfl (by decide +kernel) ⟨Nat.le_of_ble_eq_true rfl, Nat.le_of_ble_eq_true rfl⟩) ⟨fun a U g mk q => by obtain ⟨q0, q1, qP, qK, qD, n0, n1, n2⟩ := q; exact ⟨q0, q1, qP, va_K.moved (u := U) (U := U.calling g mk a) (Vm.Alike.refl U.vm) qK, qD, vk_R.same rfl n0, va_Z.moved (Vm.Alike.refl _) n1, vk_S.moved (Vm.Alike.refl _) n2⟩, pv_rc3 hKc hPc (q0 := 0) rfl, fun U hU hW => ⟨rfl, by rw [hU], by rw [hU]; exact hPc, va_K.moved hW.alike hKc, hDc.weaken (fun _ _ _ _ => trivial), vk_R.warm hW h_vr_2, (by rw [hU]; exact (va_Z.moved hW.alike (va_Z.kept h_st_CS hS.2.1)).narrow hFc), (by rw [hU]; exact (vk_S.moved hW.alike (vk_S.kept h_st_S hS.2.1)).narrow hFc)⟩⟩ rfl rfl hl.1 rfl (lv_room (Nat.le_of_ble_eq_true rfl)) dX3_readSum_2 ⟨Nat.le_of_ble_eq_true rfl, Nat.le_of_ble_eq_true rfl⟩) hS (fun q _ h => hFc q h) hFc (fun ra1 u t H1 locs ht hvm hwra1 hB hz1 hk1 hS => ?_)
  try rw [hwra1] at hB
  rcases hB with hB | hB
  · skip
    obtain ⟨x2, x3, x4, fn5, oa_x2, ob_x2, oa_x3, ob_x3, pt0_ra1, pt1_ra1, pt2_ra1, pt3_ra1, hP1, hK1, hD1⟩ := hB
    rw [ht] at hP1
    obtain ⟨hP2, hD2⟩ := va_join (wr := []) (w1 := (wd_1ad0248d h0 h1 h3 x2 h1 h2 v1 x3 v3 x4 h2 g0 f5 h3 g1 fn5)) hP hD [0, 1, 2, 3] [] rfl rfl (by decide) (by decide) hk1 hFc hP1 hD1
    clear hP hD hPc hDc hKc hFc hP1 hK1 hD1 hk1 hz1
    generalize H1 = H at hP2 hS ⊢
    have hP : va_P (dC, dI) vwCl (wd_1ad0248d h0 h1 h3 x2 h1 h2 v1 x3 v3 x4 h2 g0 f5 h3 g1 fn5) H := hP2
    have hD : va_D A (wd_1ad0248d h0 h1 h3 x2 h1 h2 v1 x3 v3 x4 h2 g0 f5 h3 g1 fn5) := hD2
    clear hP2 hD2
    obtain rfl : ra1 = (1 : Int32) := pv_cs (by decide) pt0_ra1 pt1_ra1
    refine lv_if_ne (tgt := 10) hx hb dX3_readSum_5 (by decide) (fun _ => ?_) (fun c => absurd c (by decide))
    refine lv_iconst (v := 0) hx hb dX3_readSum_10 (by decide) ?_
    refine lv_istore_n (lv' := [(2, .int 0), (0, .ref h0), (1, .int 1)]) hx hb dX3_readSum_11 rfl hl (by decide) rfl (fun ls hl => ?_)
    have hL86 : ∀ (n9 : Nat), ∀ (x76 : Int32) (x77 : Int32) (x78 : Int32) (x79 : Int32) (fn80 : Nat → Int32) (H : Heap) (locs : List Loc) (ls : Array Slot), 0 ≤ x76.toInt → x76.toInt ≤ 240 → 0 ≤ x77.toInt → x77.toInt ≤ 256 → 0 ≤ x78.toInt → x78.toInt ≤ 240 → (pg_L f5 v1.toInt 43 45 (pg_term f5 v1.toInt 5) x78.toInt (pg_row f5 v1.toInt 43 45 (pg_term f5 v1.toInt 5) v2.toInt)) → (x76.toInt ≤ x78.toInt) → (v2.toInt ≤ x78.toInt) → (240 - x76.toInt).toNat < n9 → va_P (dC, dI) vwCl (wd_1ad0248d h0 h1 h3 x77 h1 h2 v1 x78 v3 x79 h2 g0 f5 h3 g1 fn80) H → va_D A (wd_1ad0248d h0 h1 h3 x77 h1 h2 v1 x78 v3 x79 h2 g0 f5 h3 g1 fn80) → va_S A s.heap H locs → lv_has ls 4 [(2, .int x76), (0, .ref h0), (1, .int 1)] → W p l e ({ frames := 21, cells := 0, slots := 0, locals := 482 }) s m ([.ref h0, .int 1] : List Value).toArray below meth c H locs 0 0 Q (F0 m 12 ls []) := by
      intro n9
      induction n9 with
      | zero => intro x76 x77 x78 x79 fn80 H locs ls qa_x76 qb_x76 qa_x77 qb_x77 qa_x78 qb_x78 gh0_hL86 gh1_hL86 gh2_hL86 hm9 hP hD hS hl; exact absurd hm9 (Nat.not_lt_zero _)
      | succ n9 ih_hL86 =>
        intro x76 x77 x78 x79 fn80 H locs ls qa_x76 qb_x76 qa_x77 qb_x77 qa_x78 qb_x78 gh0_hL86 gh1_hL86 gh2_hL86 hm9 hP hD hS hl
        refine lv_iload_n hx hb dX3_readSum_12 rfl (lv_at hl 0 rfl) ?_
        refine lv_sipush (v := 240) hx hb dX3_readSum_13 (by decide) ?_
        refine lv_icmp_ge (tgt := 80) hx hb dX3_readSum_16 (by decide) (fun c87 => ?_) (fun c87 => ?_)
        · skip
          have fc87 : 240 ≤ x76.toInt := Int32.le_iff_toInt_le.mp c87
          refine lv_iconst (v := 1) hx hb dX3_readSum_80 (by decide) ?_
          subst hQ
          have hP9 := hP.sub (ws' := (wd_1ad0248d h0 h1 h3 x77 h1 h2 v1 x78 v3 x79 h2 g0 f5 h3 g1 fn80)) [0, 1, 2, 3] rfl
          have hD9 := hD.sub (ws' := (wd_1ad0248d h0 h1 h3 x77 h1 h2 v1 x78 v3 x79 h2 g0 f5 h3 g1 fn80)) [0, 1, 2, 3] (by decide) rfl
          have hK9 := hK.sub (tys' := []) [] rfl
          exact W.zret (v := 1) hx hb hr rfl (fun t ht hW => ⟨⟨1, 1, rfl, rfl, Or.inl ⟨x77, x78, x79, fn80, qa_x77, qb_x77, qa_x78, qb_x78, by first | omega | decide, by first | omega | decide, by omega, by rw [pg_sum.eq]; first | assumption | (apply pg_L.stop <;> first | assumption | omega) | exact pg_L.stop (by assumption) (pg_s.here (by rw [pg_ch.off (by omega)]; decide)) (by rw [pg_ch.off (by omega)]; decide), by rw [ht]; exact hP9, va_K.moved hW.alike hK9, hD9⟩⟩, hS.F ht⟩) hS.2.2 dX3_readSum_81
        · skip
          have fc87 : ¬ (240 ≤ x76.toInt) := fun h9 => c87 (Int32.le_iff_toInt_le.mpr h9)
          refine lv_aload_n hx hb dX3_readSum_19 rfl (lv_at hl 1 rfl) ?_
          refine va_get (D := (dC, dI)) (ci := 3) (v := .ref h1) (C := RX3) (T := TX3) (N := 3) hx hb hts (fun _ h => List.mem_cons_of_mem _ (List.mem_append_left _ (List.mem_append_right _ h))) hown hK hP 0 rfl rfl 0 (by decide) (hts (.fieldLink RX3 19 "LeftArguments$LawReader" "tape" "LLeftArguments$Tape;") (List.mem_cons_of_mem _ (List.mem_append_left _ (List.mem_append_left _ (List.mem_of_getElem? (i := 2) rfl))))) (fun _ h9 => h9) rfl dX3_readSum_20 ?_
          have hPc := hP.sub (ws' := (wd_82cdd16b h1 h2 v1 x78 v3 x79 h2 g0 f5)) [1, 2] rfl
          have hDc := hD.sub (ws' := (wd_82cdd16b h1 h2 v1 x78 v3 x79 h2 g0 f5)) [1, 2] (by decide) rfl
          have hKc := hK.sub (tys' := [(g0, .int)]) [0] rfl
          have hFc := va_free (wc := (wd_82cdd16b h1 h2 v1 x78 v3 x79 h2 g0 f5)) hD hS hA [1, 2] rfl
          refine va_calli (va_runV (As := []) (rest := []) ⟨hx, hb, hml, hown, hts⟩ (k_X10_next l dC dI h1 h2 v1 x78 v3 x79 g0 f5 ⟨i_v1a, i_v1b⟩ ⟨qa_x78, qb_x78⟩ ia_f5 H.size) (cwV 0 hts g_X3_readSum_5_1 rfl rfl rfl (by decide +kernel) ⟨Nat.le_of_ble_eq_true rfl, Nat.le_of_ble_eq_true rfl⟩) (pv_PV10 hPc hKc hDc (q0 := 0) rfl) rfl rfl hl.1 rfl (lv_room (Nat.le_of_ble_eq_true rfl)) dX3_readSum_23 ⟨Nat.le_of_ble_eq_true rfl, Nat.le_of_ble_eq_true rfl⟩) hS (fun q _ h => hFc q h) hFc (fun ra88 u t H1 locs ht hvm hwra88 hB hz1 hk1 hS => ?_)
          try rw [hwra88] at hB
          rcases hB with hB | hB
          · skip
            obtain ⟨x89, oa_x89, ob_x89, pt0_ra88, pt1_ra88, pt2_ra88, pt3_ra88, pt4_ra88, pt5_ra88, pt6_ra88, hP1, hK1, hD1⟩ := hB
            rw [ht] at hP1
            obtain ⟨hP2, hD2⟩ := va_join (wr := (wd_b958b9da h0 h1 h3 x77 h3 g1 fn80)) (w1 := (wd_82cdd16b h1 h2 v1 x89 v3 x79 h2 g0 f5)) hP hD [1, 2] [0, 3] rfl rfl (by decide) (by decide) hk1 hFc hP1 hD1
            clear hP hD hPc hDc hKc hFc hP1 hK1 hD1 hk1 hz1
            generalize H1 = H at hP2 hS ⊢
            have hP := hP2.sub (ws' := (wd_1ad0248d h0 h1 h3 x77 h1 h2 v1 x89 v3 x79 h2 g0 f5 h3 g1 fn80)) [0, 2, 3, 1] rfl
            have hD := hD2.sub (ws' := (wd_1ad0248d h0 h1 h3 x77 h1 h2 v1 x89 v3 x79 h2 g0 f5 h3 g1 fn80)) [0, 2, 3, 1] (by decide) rfl
            clear hP2 hD2
            obtain rfl : ra88 = ((-1) : Int32) := pv_cs (by decide) pt0_ra88 pt1_ra88
            refine lv_istore_n (lv' := [(3, .int (-1)), (2, .int x76), (0, .ref h0), (1, .int 1)]) hx hb dX3_readSum_26 rfl hl (by decide) rfl (fun ls hl => ?_)
            refine lv_iload_n hx hb dX3_readSum_27 rfl (lv_at hl 0 rfl) ?_
            refine lv_bipush (v := 43) hx hb dX3_readSum_28 (by decide) ?_
            refine lv_icmp_eq (tgt := 41) hx hb dX3_readSum_30 (by decide) (fun c => absurd c (by decide)) (fun _ => ?_)
            refine lv_iload_n hx hb dX3_readSum_33 rfl (lv_at hl 0 rfl) ?_
            refine lv_bipush (v := 45) hx hb dX3_readSum_34 (by decide) ?_
            refine lv_icmp_eq (tgt := 41) hx hb dX3_readSum_36 (by decide) (fun c => absurd c (by decide)) (fun _ => ?_)
            refine lv_iconst (v := 1) hx hb dX3_readSum_39 (by decide) ?_
            subst hQ
            have hP9 := hP.sub (ws' := (wd_1ad0248d h0 h1 h3 x77 h1 h2 v1 x89 v3 x79 h2 g0 f5 h3 g1 fn80)) [0, 1, 2, 3] rfl
            have hD9 := hD.sub (ws' := (wd_1ad0248d h0 h1 h3 x77 h1 h2 v1 x89 v3 x79 h2 g0 f5 h3 g1 fn80)) [0, 1, 2, 3] (by decide) rfl
            have hK9 := hK.sub (tys' := []) [] rfl
            exact W.zret (v := 1) hx hb hr rfl (fun t ht hW => ⟨⟨1, 1, rfl, rfl, Or.inl ⟨x77, x89, x79, fn80, qa_x77, qb_x77, oa_x89, ob_x89, by first | omega | decide, by first | omega | decide, by omega, by rw [pg_sum.eq]; first | assumption | (apply pg_L.stop <;> first | assumption | omega) | exact pg_L.stop (by assumption) (pg_s.here (by rw [pg_ch.off (by omega)]; decide)) (by rw [pg_ch.off (by omega)]; decide), by rw [ht]; exact hP9, va_K.moved hW.alike hK9, hD9⟩⟩, hS.F ht⟩) hS.2.2 dX3_readSum_40
          · skip
            obtain ⟨x90, oa_x90, ob_x90, pt0_ra88, pt1_ra88, pt2_ra88, pt3_ra88, pt4_ra88, pt5_ra88, pt6_ra88, hP1, hK1, hD1⟩ := hB
            rw [ht] at hP1
            obtain ⟨hP2, hD2⟩ := va_join (wr := (wd_b958b9da h0 h1 h3 x77 h3 g1 fn80)) (w1 := (wd_82cdd16b h1 h2 v1 x90 v3 x79 h2 g0 f5)) hP hD [1, 2] [0, 3] rfl rfl (by decide) (by decide) hk1 hFc hP1 hD1
            clear hP hD hPc hDc hKc hFc hP1 hK1 hD1 hk1 hz1
            generalize H1 = H at hP2 hS ⊢
            have hP := hP2.sub (ws' := (wd_1ad0248d h0 h1 h3 x77 h1 h2 v1 x90 v3 x79 h2 g0 f5 h3 g1 fn80)) [0, 2, 3, 1] rfl
            have hD := hD2.sub (ws' := (wd_1ad0248d h0 h1 h3 x77 h1 h2 v1 x90 v3 x79 h2 g0 f5 h3 g1 fn80)) [0, 2, 3, 1] (by decide) rfl
            clear hP2 hD2
            refine lv_istore_n (lv' := [(3, .int ra88), (2, .int x76), (0, .ref h0), (1, .int 1)]) hx hb dX3_readSum_26 rfl hl (by decide) rfl (fun ls hl => ?_)
            refine lv_iload_n hx hb dX3_readSum_27 rfl (lv_at hl 0 rfl) ?_
            refine lv_bipush (v := 43) hx hb dX3_readSum_28 (by decide) ?_
            refine lv_icmp_eq (tgt := 41) hx hb dX3_readSum_30 (by decide) (fun c91 => ?_) (fun c91 => ?_)
            · skip
              have fc91 : ra88.toInt = 43 := congrArg Int32.toInt c91
              refine lv_aload_n hx hb dX3_readSum_41 rfl (lv_at hl 2 rfl) ?_
              refine va_get (D := (dC, dI)) (ci := 3) (v := .ref h1) (C := RX3) (T := TX3) (N := 3) hx hb hts (fun _ h => List.mem_cons_of_mem _ (List.mem_append_left _ (List.mem_append_right _ h))) hown hK hP 0 rfl rfl 0 (by decide) (hts (.fieldLink RX3 19 "LeftArguments$LawReader" "tape" "LLeftArguments$Tape;") (List.mem_cons_of_mem _ (List.mem_append_left _ (List.mem_append_left _ (List.mem_of_getElem? (i := 2) rfl))))) (fun _ h9 => h9) rfl dX3_readSum_42 ?_
              have hPc := hP.sub (ws' := (wd_09b0abee h1 h2 v1 x90 v3 x79)) [1] rfl
              have hDc := hD.sub (ws' := (wd_09b0abee h1 h2 v1 x90 v3 x79)) [1] (by decide) rfl
              have hKc := hK.sub (tys' := []) [] rfl
              have hFc := va_free (wc := (wd_09b0abee h1 h2 v1 x90 v3 x79)) hD hS hA [1] rfl
              refine va_callv (va_runV (As := []) (rest := []) ⟨hx, hb, hml, hown, hts⟩ (k_X10_step l dC dI h1 h2 v1 x90 v3 x79 ⟨i_v1a, i_v1b⟩ ⟨oa_x90, ob_x90⟩ H.size) (cwV 0 hts g_X3_readSum_5_2 rfl rfl rfl (by decide +kernel) ⟨Nat.le_of_ble_eq_true rfl, Nat.le_of_ble_eq_true rfl⟩) (pv_PV10 hPc hKc hDc (q0 := 0) rfl) rfl rfl hl.1 rfl (lv_room (Nat.le_of_ble_eq_true rfl)) dX3_readSum_45 ⟨Nat.le_of_ble_eq_true rfl, Nat.le_of_ble_eq_true rfl⟩) hS (fun q _ h => hFc q h) hFc (fun u t H1 locs ht hvm hwra92 hB hz1 hk1 hS => ?_)
              obtain ⟨x93, oa_x93, ob_x93, pt0_ra92, hP1, hK1, hD1⟩ := hB
              rw [ht] at hP1
              obtain ⟨hP2, hD2⟩ := va_join (wr := (wd_6b0d8e05 h0 h1 h3 x77 h2 g0 f5 h3 g1 fn80)) (w1 := (wd_09b0abee h1 h2 v1 x93 v3 x79)) hP hD [1] [0, 2, 3] rfl rfl (by decide) (by decide) hk1 hFc hP1 hD1
              clear hP hD hPc hDc hKc hFc hP1 hK1 hD1 hk1 hz1
              generalize H1 = H at hP2 hS ⊢
              have hP := hP2.sub (ws' := (wd_1ad0248d h0 h1 h3 x77 h1 h2 v1 x93 v3 x79 h2 g0 f5 h3 g1 fn80)) [0, 3, 1, 2] rfl
              have hD := hD2.sub (ws' := (wd_1ad0248d h0 h1 h3 x77 h1 h2 v1 x93 v3 x79 h2 g0 f5 h3 g1 fn80)) [0, 3, 1, 2] (by decide) rfl
              clear hP2 hD2
              refine lv_aload_n hx hb dX3_readSum_48 rfl (lv_at hl 2 rfl) ?_
              refine lv_iload_n hx hb dX3_readSum_49 rfl (lv_at hl 3 rfl) ?_
              have hPc := hP.sub (ws' := (wd_1ad0248d h0 h1 h3 x77 h1 h2 v1 x93 v3 x79 h2 g0 f5 h3 g1 fn80)) [0, 1, 2, 3] rfl
              have hDc := hD.sub (ws' := (wd_1ad0248d h0 h1 h3 x77 h1 h2 v1 x93 v3 x79 h2 g0 f5 h3 g1 fn80)) [0, 1, 2, 3] (by decide) rfl
              have hKc := hK.sub (tys' := [(g0, .int), (g1, .int)]) [0, 1] rfl
              have hFc := va_free (wc := (wd_1ad0248d h0 h1 h3 x77 h1 h2 v1 x93 v3 x79 h2 g0 f5 h3 g1 fn80)) hD hS hA [0, 1, 2, 3] rfl
              refine va_calli (va_runV (As := [.int 1]) (rest := []) ⟨hx, hb, hml, hown, hts⟩ (k_X3_readTerm_5 l dC dI adK adV h0 h1 h2 h3 x77 v1 x93 v3 x79 g0 f5 g1 fn80 ⟨qa_x77, qb_x77⟩ ⟨i_v1a, i_v1b⟩ ⟨by first | omega | decide, ob_x93⟩ ia_f5 H.size) (cwV 1 hts g_X3_readSum_5_0 rfl rfl rfl (by decide +kernel) ⟨Nat.le_of_ble_eq_true rfl, Nat.le_of_ble_eq_true rfl⟩) ⟨fun a U g mk q => by obtain ⟨q0, q1, qP, qK, qD, n0, n1, n2⟩ := q; exact ⟨q0, q1, qP, va_K.moved (u := U) (U := U.calling g mk a) (Vm.Alike.refl U.vm) qK, qD, vk_R.same rfl n0, va_Z.moved (Vm.Alike.refl _) n1, vk_S.moved (Vm.Alike.refl _) n2⟩, pv_rc3 hKc hPc (q0 := 0) rfl, fun U hU hW => ⟨rfl, by rw [hU], by rw [hU]; exact hPc, va_K.moved hW.alike hKc, hDc.weaken (fun _ _ _ _ => trivial), vk_R.warm hW h_vr_2, (by rw [hU]; exact (va_Z.moved hW.alike (va_Z.kept h_st_CS hS.2.1)).narrow hFc), (by rw [hU]; exact (vk_S.moved hW.alike (vk_S.kept h_st_S hS.2.1)).narrow hFc)⟩⟩ rfl rfl hl.1 rfl (lv_room (Nat.le_of_ble_eq_true rfl)) dX3_readSum_50 ⟨Nat.le_of_ble_eq_true rfl, Nat.le_of_ble_eq_true rfl⟩) hS (fun q _ h => hFc q h) hFc (fun ra94 u t H1 locs ht hvm hwra94 hB hz1 hk1 hS => ?_)
              try rw [hwra94] at hB
              rcases hB with hB | hB
              · skip
                obtain ⟨x95, x96, x97, fn98, oa_x95, ob_x95, oa_x96, ob_x96, pt0_ra94, pt1_ra94, pt2_ra94, pt3_ra94, hP1, hK1, hD1⟩ := hB
                rw [ht] at hP1
                obtain ⟨hP2, hD2⟩ := va_join (wr := []) (w1 := (wd_1ad0248d h0 h1 h3 x95 h1 h2 v1 x96 v3 x97 h2 g0 f5 h3 g1 fn98)) hP hD [0, 1, 2, 3] [] rfl rfl (by decide) (by decide) hk1 hFc hP1 hD1
                clear hP hD hPc hDc hKc hFc hP1 hK1 hD1 hk1 hz1
                generalize H1 = H at hP2 hS ⊢
                have hP : va_P (dC, dI) vwCl (wd_1ad0248d h0 h1 h3 x95 h1 h2 v1 x96 v3 x97 h2 g0 f5 h3 g1 fn98) H := hP2
                have hD : va_D A (wd_1ad0248d h0 h1 h3 x95 h1 h2 v1 x96 v3 x97 h2 g0 f5 h3 g1 fn98) := hD2
                clear hP2 hD2
                obtain rfl : ra94 = (1 : Int32) := pv_cs (by decide) pt0_ra94 pt1_ra94
                refine lv_if_ne (tgt := 58) hx hb dX3_readSum_53 (by decide) (fun _ => ?_) (fun c => absurd c (by decide))
                refine lv_aload_n hx hb dX3_readSum_58 rfl (lv_at hl 2 rfl) ?_
                refine lv_iload_n hx hb dX3_readSum_59 rfl (lv_at hl 0 rfl) ?_
                refine lv_bipush (v := 43) hx hb dX3_readSum_60 (by decide) ?_
                refine lv_icmp_ne (tgt := 69) hx hb dX3_readSum_62 (by decide) (fun c99 => by exfalso; have fc99 : ¬ (ra88.toInt = 43) := fun h9 => c99 (Int32.toInt_inj.mp h9); omega) (fun _ => ?_)
                refine lv_iconst (v := 2) hx hb dX3_readSum_65 (by decide) ?_
                refine lv_goto (tgt := 70) hx hb dX3_readSum_66 (by decide) ?_
                refine lv_iconst (v := 0) hx hb dX3_readSum_70 (by decide) ?_
                have hPc := hP.sub (ws' := (wd_b958b9da h0 h1 h3 x95 h3 g1 fn98)) [0, 3] rfl
                have hDc := hD.sub (ws' := (wd_b958b9da h0 h1 h3 x95 h3 g1 fn98)) [0, 3] (by decide) rfl
                have hKc := hK.sub (tys' := [(g1, .int)]) [1] rfl
                have hFc := va_free (wc := (wd_b958b9da h0 h1 h3 x95 h3 g1 fn98)) hD hS hA [0, 3] rfl
                refine va_callv (va_runV (As := [.int 2, .int 0]) (rest := []) ⟨hx, hb, hml, hown, hts⟩ (k_X3_write l dC dI h0 h3 h1 x95 g1 fn98 2 0 ⟨oa_x95, ob_x95⟩ H.size) (cwV 2 hts g_X3_readSum_5_4 rfl rfl rfl (by decide +kernel) ⟨Nat.le_of_ble_eq_true rfl, Nat.le_of_ble_eq_true rfl⟩) (pv_PV3 hPc hKc hDc (q0 := 0) rfl) rfl rfl hl.1 rfl (lv_room (Nat.le_of_ble_eq_true rfl)) dX3_readSum_71 ⟨Nat.le_of_ble_eq_true rfl, Nat.le_of_ble_eq_true rfl⟩) hS (fun q _ h => hFc q h) hFc (fun u t H1 locs ht hvm hwra100 hB hz1 hk1 hS => ?_)
                obtain ⟨x101, fn102, oa_x101, ob_x101, hP1, hK1, hD1⟩ := hB
                rw [ht] at hP1
                obtain ⟨hP2, hD2⟩ := va_join (wr := (wd_82cdd16b h1 h2 v1 x96 v3 x97 h2 g0 f5)) (w1 := (wd_b958b9da h0 h1 h3 x101 h3 g1 fn102)) hP hD [0, 3] [1, 2] rfl rfl (by decide) (by decide) hk1 hFc hP1 hD1
                clear hP hD hPc hDc hKc hFc hP1 hK1 hD1 hk1 hz1
                generalize H1 = H at hP2 hS ⊢
                have hP := hP2.sub (ws' := (wd_1ad0248d h0 h1 h3 x101 h1 h2 v1 x96 v3 x97 h2 g0 f5 h3 g1 fn102)) [2, 0, 1, 3] rfl
                have hD := hD2.sub (ws' := (wd_1ad0248d h0 h1 h3 x101 h1 h2 v1 x96 v3 x97 h2 g0 f5 h3 g1 fn102)) [2, 0, 1, 3] (by decide) rfl
                clear hP2 hD2
                obtain ⟨t103, et103⟩ : ∃ y : Int32, y = x76 + 1 := ⟨_, rfl⟩
                have gt103 : t103.toInt = x76.toInt + (1) := pv_add (a := x76.toInt) (b := (1)) et103 rfl (by decide) (by omega) (by omega)
                refine lv_iinc (v := t103) (lv' := [(2, .int t103), (3, .int ra88), (0, .ref h0), (1, .int 1)]) hx hb dX3_readSum_74 hl (k := 1) rfl (by rw [et103]; rfl) (by decide) rfl (fun ls hl => ?_)
                refine lv_goto (tgt := 12) hx hb dX3_readSum_77 (by decide) ?_
                exact ih_hL86 t103 x101 x96 x97 fn102 H locs ls (by first | omega | decide) (by first | omega | decide) oa_x101 ob_x101 oa_x96 ob_x96 (by first | assumption | (apply pg_row.go <;> first | assumption | omega) | (apply pg_L.bi <;> first | assumption | omega) | (apply pg_L.step <;> first | assumption | omega)) (by first | omega | ((have h09 : ((0 : Int32)).toInt = 0 := by decide); omega)) (by omega) (by first | omega | (simp only [Int.toNat] at *; omega)) hP hD hS (lv_sub hl [0, 2, 3] rfl)
              · skip
                obtain ⟨x104, x105, x106, x107, fn108, oa_x104, ob_x104, oa_x105, ob_x105, oa_x106, ob_x106, pt0_ra94, pt1_ra94, pt2_ra94, pt3_ra94, hP1, hK1, hD1⟩ := hB
                rw [ht] at hP1
                obtain ⟨hP2, hD2⟩ := va_join (wr := []) (w1 := (wd_1ad0248d h0 h1 h3 x104 h1 h2 v1 x105 x106 x107 h2 g0 f5 h3 g1 fn108)) hP hD [0, 1, 2, 3] [] rfl rfl (by decide) (by decide) hk1 hFc hP1 hD1
                clear hP hD hPc hDc hKc hFc hP1 hK1 hD1 hk1 hz1
                generalize H1 = H at hP2 hS ⊢
                have hP : va_P (dC, dI) vwCl (wd_1ad0248d h0 h1 h3 x104 h1 h2 v1 x105 x106 x107 h2 g0 f5 h3 g1 fn108) H := hP2
                have hD : va_D A (wd_1ad0248d h0 h1 h3 x104 h1 h2 v1 x105 x106 x107 h2 g0 f5 h3 g1 fn108) := hD2
                clear hP2 hD2
                obtain rfl : ra94 = (0 : Int32) := pv_cs (by decide) pt0_ra94 pt1_ra94
                refine lv_if_ne (tgt := 58) hx hb dX3_readSum_53 (by decide) (fun c => absurd (by decide) c) (fun _ => ?_)
                refine lv_iconst (v := 0) hx hb dX3_readSum_56 (by decide) ?_
                subst hQ
                have hP9 := hP.sub (ws' := (wd_1ad0248d h0 h1 h3 x104 h1 h2 v1 x105 x106 x107 h2 g0 f5 h3 g1 fn108)) [0, 1, 2, 3] rfl
                have hD9 := hD.sub (ws' := (wd_1ad0248d h0 h1 h3 x104 h1 h2 v1 x105 x106 x107 h2 g0 f5 h3 g1 fn108)) [0, 1, 2, 3] (by decide) rfl
                have hK9 := hK.sub (tys' := []) [] rfl
                exact W.zret (v := 0) hx hb hr rfl (fun t ht hW => ⟨⟨0, 0, rfl, rfl, Or.inr (⟨x104, x105, x106, x107, fn108, oa_x104, ob_x104, oa_x105, ob_x105, oa_x106, ob_x106, by first | omega | decide, by first | omega | decide, by omega, by rw [pg_sum.eq]; first | assumption | (apply pg_row.no <;> first | assumption | omega) | (apply pg_L.no <;> first | assumption | omega), by rw [ht]; exact hP9, va_K.moved hW.alike hK9, hD9⟩)⟩, hS.F ht⟩) hS.2.2 dX3_readSum_57
            · skip
              have fc91 : ¬ (ra88.toInt = 43) := fun h9 => c91 (Int32.toInt_inj.mp h9)
              refine lv_iload_n hx hb dX3_readSum_33 rfl (lv_at hl 0 rfl) ?_
              refine lv_bipush (v := 45) hx hb dX3_readSum_34 (by decide) ?_
              refine lv_icmp_eq (tgt := 41) hx hb dX3_readSum_36 (by decide) (fun c109 => ?_) (fun c109 => ?_)
              · skip
                have fc109 : ra88.toInt = 45 := congrArg Int32.toInt c109
                refine lv_aload_n hx hb dX3_readSum_41 rfl (lv_at hl 2 rfl) ?_
                refine va_get (D := (dC, dI)) (ci := 3) (v := .ref h1) (C := RX3) (T := TX3) (N := 3) hx hb hts (fun _ h => List.mem_cons_of_mem _ (List.mem_append_left _ (List.mem_append_right _ h))) hown hK hP 0 rfl rfl 0 (by decide) (hts (.fieldLink RX3 19 "LeftArguments$LawReader" "tape" "LLeftArguments$Tape;") (List.mem_cons_of_mem _ (List.mem_append_left _ (List.mem_append_left _ (List.mem_of_getElem? (i := 2) rfl))))) (fun _ h9 => h9) rfl dX3_readSum_42 ?_
                have hPc := hP.sub (ws' := (wd_09b0abee h1 h2 v1 x90 v3 x79)) [1] rfl
                have hDc := hD.sub (ws' := (wd_09b0abee h1 h2 v1 x90 v3 x79)) [1] (by decide) rfl
                have hKc := hK.sub (tys' := []) [] rfl
                have hFc := va_free (wc := (wd_09b0abee h1 h2 v1 x90 v3 x79)) hD hS hA [1] rfl
                refine va_callv (va_runV (As := []) (rest := []) ⟨hx, hb, hml, hown, hts⟩ (k_X10_step l dC dI h1 h2 v1 x90 v3 x79 ⟨i_v1a, i_v1b⟩ ⟨oa_x90, ob_x90⟩ H.size) (cwV 0 hts g_X3_readSum_5_2 rfl rfl rfl (by decide +kernel) ⟨Nat.le_of_ble_eq_true rfl, Nat.le_of_ble_eq_true rfl⟩) (pv_PV10 hPc hKc hDc (q0 := 0) rfl) rfl rfl hl.1 rfl (lv_room (Nat.le_of_ble_eq_true rfl)) dX3_readSum_45 ⟨Nat.le_of_ble_eq_true rfl, Nat.le_of_ble_eq_true rfl⟩) hS (fun q _ h => hFc q h) hFc (fun u t H1 locs ht hvm hwra110 hB hz1 hk1 hS => ?_)
                obtain ⟨x111, oa_x111, ob_x111, pt0_ra110, hP1, hK1, hD1⟩ := hB
                rw [ht] at hP1
                obtain ⟨hP2, hD2⟩ := va_join (wr := (wd_6b0d8e05 h0 h1 h3 x77 h2 g0 f5 h3 g1 fn80)) (w1 := (wd_09b0abee h1 h2 v1 x111 v3 x79)) hP hD [1] [0, 2, 3] rfl rfl (by decide) (by decide) hk1 hFc hP1 hD1
                clear hP hD hPc hDc hKc hFc hP1 hK1 hD1 hk1 hz1
                generalize H1 = H at hP2 hS ⊢
                have hP := hP2.sub (ws' := (wd_1ad0248d h0 h1 h3 x77 h1 h2 v1 x111 v3 x79 h2 g0 f5 h3 g1 fn80)) [0, 3, 1, 2] rfl
                have hD := hD2.sub (ws' := (wd_1ad0248d h0 h1 h3 x77 h1 h2 v1 x111 v3 x79 h2 g0 f5 h3 g1 fn80)) [0, 3, 1, 2] (by decide) rfl
                clear hP2 hD2
                refine lv_aload_n hx hb dX3_readSum_48 rfl (lv_at hl 2 rfl) ?_
                refine lv_iload_n hx hb dX3_readSum_49 rfl (lv_at hl 3 rfl) ?_
                have hPc := hP.sub (ws' := (wd_1ad0248d h0 h1 h3 x77 h1 h2 v1 x111 v3 x79 h2 g0 f5 h3 g1 fn80)) [0, 1, 2, 3] rfl
                have hDc := hD.sub (ws' := (wd_1ad0248d h0 h1 h3 x77 h1 h2 v1 x111 v3 x79 h2 g0 f5 h3 g1 fn80)) [0, 1, 2, 3] (by decide) rfl
                have hKc := hK.sub (tys' := [(g0, .int), (g1, .int)]) [0, 1] rfl
                have hFc := va_free (wc := (wd_1ad0248d h0 h1 h3 x77 h1 h2 v1 x111 v3 x79 h2 g0 f5 h3 g1 fn80)) hD hS hA [0, 1, 2, 3] rfl
                refine va_calli (va_runV (As := [.int 1]) (rest := []) ⟨hx, hb, hml, hown, hts⟩ (k_X3_readTerm_5 l dC dI adK adV h0 h1 h2 h3 x77 v1 x111 v3 x79 g0 f5 g1 fn80 ⟨qa_x77, qb_x77⟩ ⟨i_v1a, i_v1b⟩ ⟨by first | omega | decide, ob_x111⟩ ia_f5 H.size) (cwV 1 hts g_X3_readSum_5_0 rfl rfl rfl (by decide +kernel) ⟨Nat.le_of_ble_eq_true rfl, Nat.le_of_ble_eq_true rfl⟩) ⟨fun a U g mk q => by obtain ⟨q0, q1, qP, qK, qD, n0, n1, n2⟩ := q; exact ⟨q0, q1, qP, va_K.moved (u := U) (U := U.calling g mk a) (Vm.Alike.refl U.vm) qK, qD, vk_R.same rfl n0, va_Z.moved (Vm.Alike.refl _) n1, vk_S.moved (Vm.Alike.refl _) n2⟩, pv_rc3 hKc hPc (q0 := 0) rfl, fun U hU hW => ⟨rfl, by rw [hU], by rw [hU]; exact hPc, va_K.moved hW.alike hKc, hDc.weaken (fun _ _ _ _ => trivial), vk_R.warm hW h_vr_2, (by rw [hU]; exact (va_Z.moved hW.alike (va_Z.kept h_st_CS hS.2.1)).narrow hFc), (by rw [hU]; exact (vk_S.moved hW.alike (vk_S.kept h_st_S hS.2.1)).narrow hFc)⟩⟩ rfl rfl hl.1 rfl (lv_room (Nat.le_of_ble_eq_true rfl)) dX3_readSum_50 ⟨Nat.le_of_ble_eq_true rfl, Nat.le_of_ble_eq_true rfl⟩) hS (fun q _ h => hFc q h) hFc (fun ra112 u t H1 locs ht hvm hwra112 hB hz1 hk1 hS => ?_)
                try rw [hwra112] at hB
                rcases hB with hB | hB
                · skip
                  obtain ⟨x113, x114, x115, fn116, oa_x113, ob_x113, oa_x114, ob_x114, pt0_ra112, pt1_ra112, pt2_ra112, pt3_ra112, hP1, hK1, hD1⟩ := hB
                  rw [ht] at hP1
                  obtain ⟨hP2, hD2⟩ := va_join (wr := []) (w1 := (wd_1ad0248d h0 h1 h3 x113 h1 h2 v1 x114 v3 x115 h2 g0 f5 h3 g1 fn116)) hP hD [0, 1, 2, 3] [] rfl rfl (by decide) (by decide) hk1 hFc hP1 hD1
                  clear hP hD hPc hDc hKc hFc hP1 hK1 hD1 hk1 hz1
                  generalize H1 = H at hP2 hS ⊢
                  have hP : va_P (dC, dI) vwCl (wd_1ad0248d h0 h1 h3 x113 h1 h2 v1 x114 v3 x115 h2 g0 f5 h3 g1 fn116) H := hP2
                  have hD : va_D A (wd_1ad0248d h0 h1 h3 x113 h1 h2 v1 x114 v3 x115 h2 g0 f5 h3 g1 fn116) := hD2
                  clear hP2 hD2
                  obtain rfl : ra112 = (1 : Int32) := pv_cs (by decide) pt0_ra112 pt1_ra112
                  refine lv_if_ne (tgt := 58) hx hb dX3_readSum_53 (by decide) (fun _ => ?_) (fun c => absurd c (by decide))
                  refine lv_aload_n hx hb dX3_readSum_58 rfl (lv_at hl 2 rfl) ?_
                  refine lv_iload_n hx hb dX3_readSum_59 rfl (lv_at hl 0 rfl) ?_
                  refine lv_bipush (v := 43) hx hb dX3_readSum_60 (by decide) ?_
                  refine lv_icmp_ne (tgt := 69) hx hb dX3_readSum_62 (by decide) (fun _ => ?_) (fun c117 => by exfalso; have fc117 : ra88.toInt = 43 := congrArg Int32.toInt c117; omega)
                  refine lv_iconst (v := 3) hx hb dX3_readSum_69 (by decide) ?_
                  refine lv_iconst (v := 0) hx hb dX3_readSum_70 (by decide) ?_
                  have hPc := hP.sub (ws' := (wd_b958b9da h0 h1 h3 x113 h3 g1 fn116)) [0, 3] rfl
                  have hDc := hD.sub (ws' := (wd_b958b9da h0 h1 h3 x113 h3 g1 fn116)) [0, 3] (by decide) rfl
                  have hKc := hK.sub (tys' := [(g1, .int)]) [1] rfl
                  have hFc := va_free (wc := (wd_b958b9da h0 h1 h3 x113 h3 g1 fn116)) hD hS hA [0, 3] rfl
                  refine va_callv (va_runV (As := [.int 3, .int 0]) (rest := []) ⟨hx, hb, hml, hown, hts⟩ (k_X3_write l dC dI h0 h3 h1 x113 g1 fn116 3 0 ⟨oa_x113, ob_x113⟩ H.size) (cwV 2 hts g_X3_readSum_5_4 rfl rfl rfl (by decide +kernel) ⟨Nat.le_of_ble_eq_true rfl, Nat.le_of_ble_eq_true rfl⟩) (pv_PV3 hPc hKc hDc (q0 := 0) rfl) rfl rfl hl.1 rfl (lv_room (Nat.le_of_ble_eq_true rfl)) dX3_readSum_71 ⟨Nat.le_of_ble_eq_true rfl, Nat.le_of_ble_eq_true rfl⟩) hS (fun q _ h => hFc q h) hFc (fun u t H1 locs ht hvm hwra118 hB hz1 hk1 hS => ?_)
                  obtain ⟨x119, fn120, oa_x119, ob_x119, hP1, hK1, hD1⟩ := hB
                  rw [ht] at hP1
                  obtain ⟨hP2, hD2⟩ := va_join (wr := (wd_82cdd16b h1 h2 v1 x114 v3 x115 h2 g0 f5)) (w1 := (wd_b958b9da h0 h1 h3 x119 h3 g1 fn120)) hP hD [0, 3] [1, 2] rfl rfl (by decide) (by decide) hk1 hFc hP1 hD1
                  clear hP hD hPc hDc hKc hFc hP1 hK1 hD1 hk1 hz1
                  generalize H1 = H at hP2 hS ⊢
                  have hP := hP2.sub (ws' := (wd_1ad0248d h0 h1 h3 x119 h1 h2 v1 x114 v3 x115 h2 g0 f5 h3 g1 fn120)) [2, 0, 1, 3] rfl
                  have hD := hD2.sub (ws' := (wd_1ad0248d h0 h1 h3 x119 h1 h2 v1 x114 v3 x115 h2 g0 f5 h3 g1 fn120)) [2, 0, 1, 3] (by decide) rfl
                  clear hP2 hD2
                  obtain ⟨t121, et121⟩ : ∃ y : Int32, y = x76 + 1 := ⟨_, rfl⟩
                  have gt121 : t121.toInt = x76.toInt + (1) := pv_add (a := x76.toInt) (b := (1)) et121 rfl (by decide) (by omega) (by omega)
                  refine lv_iinc (v := t121) (lv' := [(2, .int t121), (3, .int ra88), (0, .ref h0), (1, .int 1)]) hx hb dX3_readSum_74 hl (k := 1) rfl (by rw [et121]; rfl) (by decide) rfl (fun ls hl => ?_)
                  refine lv_goto (tgt := 12) hx hb dX3_readSum_77 (by decide) ?_
                  exact ih_hL86 t121 x119 x114 x115 fn120 H locs ls (by first | omega | decide) (by first | omega | decide) oa_x119 ob_x119 oa_x114 ob_x114 (by first | assumption | (apply pg_row.go <;> first | assumption | omega) | (apply pg_L.bi <;> first | assumption | omega) | (apply pg_L.step <;> first | assumption | omega)) (by first | omega | ((have h09 : ((0 : Int32)).toInt = 0 := by decide); omega)) (by omega) (by first | omega | (simp only [Int.toNat] at *; omega)) hP hD hS (lv_sub hl [0, 2, 3] rfl)
                · skip
                  obtain ⟨x122, x123, x124, x125, fn126, oa_x122, ob_x122, oa_x123, ob_x123, oa_x124, ob_x124, pt0_ra112, pt1_ra112, pt2_ra112, pt3_ra112, hP1, hK1, hD1⟩ := hB
                  rw [ht] at hP1
                  obtain ⟨hP2, hD2⟩ := va_join (wr := []) (w1 := (wd_1ad0248d h0 h1 h3 x122 h1 h2 v1 x123 x124 x125 h2 g0 f5 h3 g1 fn126)) hP hD [0, 1, 2, 3] [] rfl rfl (by decide) (by decide) hk1 hFc hP1 hD1
                  clear hP hD hPc hDc hKc hFc hP1 hK1 hD1 hk1 hz1
                  generalize H1 = H at hP2 hS ⊢
                  have hP : va_P (dC, dI) vwCl (wd_1ad0248d h0 h1 h3 x122 h1 h2 v1 x123 x124 x125 h2 g0 f5 h3 g1 fn126) H := hP2
                  have hD : va_D A (wd_1ad0248d h0 h1 h3 x122 h1 h2 v1 x123 x124 x125 h2 g0 f5 h3 g1 fn126) := hD2
                  clear hP2 hD2
                  obtain rfl : ra112 = (0 : Int32) := pv_cs (by decide) pt0_ra112 pt1_ra112
                  refine lv_if_ne (tgt := 58) hx hb dX3_readSum_53 (by decide) (fun c => absurd (by decide) c) (fun _ => ?_)
                  refine lv_iconst (v := 0) hx hb dX3_readSum_56 (by decide) ?_
                  subst hQ
                  have hP9 := hP.sub (ws' := (wd_1ad0248d h0 h1 h3 x122 h1 h2 v1 x123 x124 x125 h2 g0 f5 h3 g1 fn126)) [0, 1, 2, 3] rfl
                  have hD9 := hD.sub (ws' := (wd_1ad0248d h0 h1 h3 x122 h1 h2 v1 x123 x124 x125 h2 g0 f5 h3 g1 fn126)) [0, 1, 2, 3] (by decide) rfl
                  have hK9 := hK.sub (tys' := []) [] rfl
                  exact W.zret (v := 0) hx hb hr rfl (fun t ht hW => ⟨⟨0, 0, rfl, rfl, Or.inr (⟨x122, x123, x124, x125, fn126, oa_x122, ob_x122, oa_x123, ob_x123, oa_x124, ob_x124, by first | omega | decide, by first | omega | decide, by omega, by rw [pg_sum.eq]; first | assumption | (apply pg_row.no <;> first | assumption | omega) | (apply pg_L.no <;> first | assumption | omega), by rw [ht]; exact hP9, va_K.moved hW.alike hK9, hD9⟩)⟩, hS.F ht⟩) hS.2.2 dX3_readSum_57
              · skip
                have fc109 : ¬ (ra88.toInt = 45) := fun h9 => c109 (Int32.toInt_inj.mp h9)
                refine lv_iconst (v := 1) hx hb dX3_readSum_39 (by decide) ?_
                subst hQ
                have hP9 := hP.sub (ws' := (wd_1ad0248d h0 h1 h3 x77 h1 h2 v1 x90 v3 x79 h2 g0 f5 h3 g1 fn80)) [0, 1, 2, 3] rfl
                have hD9 := hD.sub (ws' := (wd_1ad0248d h0 h1 h3 x77 h1 h2 v1 x90 v3 x79 h2 g0 f5 h3 g1 fn80)) [0, 1, 2, 3] (by decide) rfl
                have hK9 := hK.sub (tys' := []) [] rfl
                exact W.zret (v := 1) hx hb hr rfl (fun t ht hW => ⟨⟨1, 1, rfl, rfl, Or.inl ⟨x77, x90, x79, fn80, qa_x77, qb_x77, oa_x90, by first | omega | decide, by first | omega | decide, by first | omega | decide, by omega, by rw [pg_sum.eq]; first | assumption | (apply pg_L.stop <;> first | assumption | omega) | exact pg_L.stop (by assumption) (pg_s.here (by rw [pg_ch.off (by omega)]; decide)) (by rw [pg_ch.off (by omega)]; decide), by rw [ht]; exact hP9, va_K.moved hW.alike hK9, hD9⟩⟩, hS.F ht⟩) hS.2.2 dX3_readSum_40
    exact hL86 _ 0 x2 x3 x4 fn5 H locs ls (by decide) (by decide) oa_x2 ob_x2 oa_x3 ob_x3 (by first | assumption | (apply pg_row.go <;> first | assumption | omega) | (apply pg_L.bi <;> first | assumption | omega) | (apply pg_L.step <;> first | assumption | omega)) (by first | omega | ((have h09 : ((0 : Int32)).toInt = 0 := by decide); omega)) (by omega) (Nat.lt_succ_self _) hP hD hS (lv_sub hl [0, 1, 2] rfl)
  · skip
    obtain ⟨x127, x128, x129, x130, fn131, oa_x127, ob_x127, oa_x128, ob_x128, oa_x129, ob_x129, pt0_ra1, pt1_ra1, pt2_ra1, pt3_ra1, hP1, hK1, hD1⟩ := hB
    rw [ht] at hP1
    obtain ⟨hP2, hD2⟩ := va_join (wr := []) (w1 := (wd_1ad0248d h0 h1 h3 x127 h1 h2 v1 x128 x129 x130 h2 g0 f5 h3 g1 fn131)) hP hD [0, 1, 2, 3] [] rfl rfl (by decide) (by decide) hk1 hFc hP1 hD1
    clear hP hD hPc hDc hKc hFc hP1 hK1 hD1 hk1 hz1
    generalize H1 = H at hP2 hS ⊢
    have hP : va_P (dC, dI) vwCl (wd_1ad0248d h0 h1 h3 x127 h1 h2 v1 x128 x129 x130 h2 g0 f5 h3 g1 fn131) H := hP2
    have hD : va_D A (wd_1ad0248d h0 h1 h3 x127 h1 h2 v1 x128 x129 x130 h2 g0 f5 h3 g1 fn131) := hD2
    clear hP2 hD2
    obtain rfl : ra1 = (0 : Int32) := pv_cs (by decide) pt0_ra1 pt1_ra1
    refine lv_if_ne (tgt := 10) hx hb dX3_readSum_5 (by decide) (fun c => absurd (by decide) c) (fun _ => ?_)
    refine lv_iconst (v := 0) hx hb dX3_readSum_8 (by decide) ?_
    subst hQ
    have hP9 := hP.sub (ws' := (wd_1ad0248d h0 h1 h3 x127 h1 h2 v1 x128 x129 x130 h2 g0 f5 h3 g1 fn131)) [0, 1, 2, 3] rfl
    have hD9 := hD.sub (ws' := (wd_1ad0248d h0 h1 h3 x127 h1 h2 v1 x128 x129 x130 h2 g0 f5 h3 g1 fn131)) [0, 1, 2, 3] (by decide) rfl
    have hK9 := hK.sub (tys' := []) [] rfl
    exact W.zret (v := 0) hx hb hr rfl (fun t ht hW => ⟨⟨0, 0, rfl, rfl, Or.inr (⟨x127, x128, x129, x130, fn131, oa_x127, ob_x127, oa_x128, ob_x128, oa_x129, ob_x129, by first | omega | decide, by first | omega | decide, by omega, by rw [pg_sum.eq]; first | assumption | (apply pg_row.no <;> first | assumption | omega) | (apply pg_L.no <;> first | assumption | omega), by rw [ht]; exact hP9, va_K.moved hW.alike hK9, hD9⟩)⟩, hS.F ht⟩) hS.2.2 dX3_readSum_9
def q_X3_readAtom_6 : List Cond := .code yX3_readAtom cX3_readAtom 4 (some .boolean) :: (([.fieldLink RX3 19 "LeftArguments$LawReader" "tape" "LLeftArguments$Tape;", .code yX10_next cX10_next 1 (some .int), .fieldLink RX10 19 "LeftArguments$Tape" "at" "I", .fieldLink RX10 15 "LeftArguments$Tape" "used" "I", .fieldLink RX10 9 "LeftArguments$Tape" "bytes" "[I", .initialized RX10, .instanceMethod yX10_next, .selects RX10 yX10_next yX10_next, .methodLink RX3 48 yX10_next, .code yX10_isDigit cX10_isDigit 1 (some .boolean), .static yX10_isDigit, .methodLink RX3 92 yX10_isDigit, .code yX10_wrongHere cX10_wrongHere 1 (some .boolean), .fieldLink RX10 22 "LeftArguments$Tape" "wrongAt" "I", .instanceMethod yX10_wrongHere, .selects RX10 yX10_wrongHere yX10_wrongHere, .methodLink RX3 83 yX10_wrongHere, .code yJ0_indexOf_0f7a4 cJ0_indexOf_0f7a4 2 (some .int), .code yJ0_indexOf_7cf53 cJ0_indexOf_7cf53 3 (some .int), .code yJ0_isLatin1_aae02 cJ0_isLatin1_aae02 1 (some .boolean), .fieldLink RJ0 38 "java/lang/String" "COMPACT_STRINGS" "Z", .fieldLink RJ0 15 "java/lang/String" "coder" "B", .initialized RJ0, .instanceMethod yJ0_isLatin1_aae02, .selects RJ0 yJ0_isLatin1_aae02 yJ0_isLatin1_aae02, .methodLink RJ0 492 yJ0_isLatin1_aae02, .fieldLink RJ0 9 "java/lang/String" "value" "[B", .code yJ0_length_8abf5 cJ0_length_8abf5 1 (some .int), .code yJ0_coder_7d493 cJ0_coder_7d493 1 (some .byte), .instanceMethod yJ0_coder_7d493, .selects RJ0 yJ0_coder_7d493 yJ0_coder_7d493, .methodLink RJ0 335 yJ0_coder_7d493, .instanceMethod yJ0_length_8abf5, .selects RJ0 yJ0_length_8abf5 yJ0_length_8abf5, .methodLink RJ0 505 yJ0_length_8abf5, .code yJ1_indexOf_4cfef cJ1_indexOf_4cfef 4 (some .int), .code yJ1_canEncode_9a6ad cJ1_canEncode_9a6ad 1 (some .boolean), .initialized RJ1, .static yJ1_canEncode_9a6ad, .methodLink RJ1 88 yJ1_canEncode_9a6ad, .methodLink RJ1 92 Lib.Math.max.name, .static Lib.Math.max.name, .initialized "java/lang/Math", .code Lib.Math.max.name Lib.Math.max.code 2 (some .int), .methodLink RJ1 38 Lib.Math.min.name, .static Lib.Math.min.name, .code Lib.Math.min.name Lib.Math.min.code 2 (some .int), .code yJ1_indexOfChar_4cfef cJ1_indexOfChar_4cfef 6 (some .int), .static yJ1_indexOfChar_4cfef, .methodLink RJ1 95 yJ1_indexOfChar_4cfef, .static yJ1_indexOf_4cfef, .methodLink RJ0 637 yJ1_indexOf_4cfef, .instanceMethod yJ0_indexOf_7cf53, .selects RJ0 yJ0_indexOf_7cf53 yJ0_indexOf_7cf53, .methodLink RJ0 633 yJ0_indexOf_7cf53, .instanceMethod yJ0_indexOf_0f7a4, .selects RJ0 yJ0_indexOf_0f7a4 yJ0_indexOf_0f7a4, .methodLink RX3 103 yJ0_indexOf_0f7a4, .code yX10_step cX10_step 1 none, .instanceMethod yX10_step, .selects RX10 yX10_step yX10_step, .methodLink RX3 77 yX10_step, .code yX3_write cX3_write 3 none, .fieldLink RX3 15 "LeftArguments$LawReader" "used" "I", .fieldLink RX3 11 "LeftArguments$LawReader" "code" "[I", .initialized RX3, .instanceMethod yX3_write, .selects RX3 yX3_write yX3_write, .methodLink RX3 66 yX3_write, .code yX10_takeNumber cX10_takeNumber 3 (some .boolean), .methodLink RX10 37 yX10_next, .methodLink RX10 45 yX10_isDigit, .methodLink RX10 41 yX10_wrongHere, .fieldLink RX10 25 "LeftArguments$Tape" "number" "I", .code yX10_sign cX10_sign 1 (some .int), .instanceMethod yX10_sign, .selects RX10 yX10_sign yX10_sign, .methodLink RX10 49 yX10_sign, .instanceMethod yX10_takeNumber, .selects RX10 yX10_takeNumber yX10_takeNumber, .methodLink RX3 95 yX10_takeNumber, .code yX10_number cX10_number 1 (some .int), .instanceMethod yX10_number, .selects RX10 yX10_number yX10_number, .methodLink RX3 98 yX10_number, .code yX3_readSum cX3_readSum 4 (some .boolean), .code yX3_readTerm cX3_readTerm 4 (some .boolean), .code yX3_readAtom cX3_readAtom 4 (some .boolean), .instanceMethod yX3_readAtom, .selects RX3 yX3_readAtom yX3_readAtom, .methodLink RX3 89 yX3_readAtom, .instanceMethod yX3_readTerm, .selects RX3 yX3_readTerm yX3_readTerm, .methodLink RX3 86 yX3_readTerm, .instanceMethod yX3_readSum, .selects RX3 yX3_readSum yX3_readSum, .methodLink RX3 59 yX3_readSum, .code yX10_take cX10_take 2 (some .boolean), .instanceMethod yX10_take, .selects RX10 yX10_take yX10_take, .methodLink RX3 51 yX10_take] : List Cond) ++ wsX30 ++ wsX100)
set_option maxRecDepth 20000 in
theorem g_X3_readAtom_6_0 : GoodIn q_X3_readAtom_6 (wsV RX3 48 RX10 yX10_next q_X10_next) := goodIn_app (goodIn_r _ [9, 7, 8, 6] rfl (by decide +kernel)) (goodIn_ca (goodIn_r (.code yX10_next cX10_next 1 (some .int) :: [.fieldLink RX10 19 "LeftArguments$Tape" "at" "I", .fieldLink RX10 15 "LeftArguments$Tape" "used" "I", .fieldLink RX10 9 "LeftArguments$Tape" "bytes" "[I"]) [2, 3, 4, 5] rfl (by decide +kernel)) (goodIn_sub (fun _ h => List.mem_cons_of_mem _ (List.mem_append_right _ h)) gwX10))
set_option maxRecDepth 20000 in
theorem g_X3_readAtom_6_1 : GoodIn q_X3_readAtom_6 (va_wsS RX3 92 yX10_isDigit q_X10_isDigit) := goodIn_app (goodIn_r _ [12, 11, 6] rfl (by decide +kernel)) (goodIn_r (.code yX10_isDigit cX10_isDigit 1 (some .boolean) :: []) [10] rfl (by decide +kernel))
set_option maxRecDepth 20000 in
theorem g_X3_readAtom_6_2 : GoodIn q_X3_readAtom_6 (wsV RX3 83 RX10 yX10_wrongHere q_X10_wrongHere) := goodIn_app (goodIn_r _ [17, 15, 16, 6] rfl (by decide +kernel)) (goodIn_ca (goodIn_r (.code yX10_wrongHere cX10_wrongHere 1 (some .boolean) :: [.fieldLink RX10 19 "LeftArguments$Tape" "at" "I", .fieldLink RX10 22 "LeftArguments$Tape" "wrongAt" "I"]) [13, 3, 14] rfl (by decide +kernel)) (goodIn_sub (fun _ h => List.mem_cons_of_mem _ (List.mem_append_right _ h)) gwX10))
set_option maxRecDepth 20000 in
theorem g_X3_readAtom_6_4 : GoodIn q_X3_readAtom_6 (wsV RX3 103 RJ0 yJ0_indexOf_0f7a4 q_J0_indexOf_0f7a4) := goodIn_app (goodIn_r _ [58, 56, 57, 23] rfl (by decide +kernel)) (goodIn_r (.code yJ0_indexOf_0f7a4 cJ0_indexOf_0f7a4 2 (some .int) :: [.code yJ0_indexOf_7cf53 cJ0_indexOf_7cf53 3 (some .int), .code yJ0_isLatin1_aae02 cJ0_isLatin1_aae02 1 (some .boolean), .fieldLink RJ0 38 "java/lang/String" "COMPACT_STRINGS" "Z", .fieldLink RJ0 15 "java/lang/String" "coder" "B", .initialized RJ0, .instanceMethod yJ0_isLatin1_aae02, .selects RJ0 yJ0_isLatin1_aae02 yJ0_isLatin1_aae02, .methodLink RJ0 492 yJ0_isLatin1_aae02, .fieldLink RJ0 9 "java/lang/String" "value" "[B", .code yJ0_length_8abf5 cJ0_length_8abf5 1 (some .int), .code yJ0_coder_7d493 cJ0_coder_7d493 1 (some .byte), .instanceMethod yJ0_coder_7d493, .selects RJ0 yJ0_coder_7d493 yJ0_coder_7d493, .methodLink RJ0 335 yJ0_coder_7d493, .instanceMethod yJ0_length_8abf5, .selects RJ0 yJ0_length_8abf5 yJ0_length_8abf5, .methodLink RJ0 505 yJ0_length_8abf5, .code yJ1_indexOf_4cfef cJ1_indexOf_4cfef 4 (some .int), .code yJ1_canEncode_9a6ad cJ1_canEncode_9a6ad 1 (some .boolean), .initialized RJ1, .static yJ1_canEncode_9a6ad, .methodLink RJ1 88 yJ1_canEncode_9a6ad, .methodLink RJ1 92 Lib.Math.max.name, .static Lib.Math.max.name, .initialized "java/lang/Math", .code Lib.Math.max.name Lib.Math.max.code 2 (some .int), .methodLink RJ1 38 Lib.Math.min.name, .static Lib.Math.min.name, .code Lib.Math.min.name Lib.Math.min.code 2 (some .int), .code yJ1_indexOfChar_4cfef cJ1_indexOfChar_4cfef 6 (some .int), .static yJ1_indexOfChar_4cfef, .methodLink RJ1 95 yJ1_indexOfChar_4cfef, .static yJ1_indexOf_4cfef, .methodLink RJ0 637 yJ1_indexOf_4cfef, .instanceMethod yJ0_indexOf_7cf53, .selects RJ0 yJ0_indexOf_7cf53 yJ0_indexOf_7cf53, .methodLink RJ0 633 yJ0_indexOf_7cf53]) [18, 19, 20, 21, 22, 23, 24, 25, 26, 27, 28, 29, 30, 31, 32, 33, 34, 35, 36, 37, 38, 39, 40, 41, 42, 43, 44, 45, 46, 47, 48, 49, 50, 51, 52, 53, 54, 55] rfl (by decide +kernel))
set_option maxRecDepth 20000 in
theorem g_X3_readAtom_6_5 : GoodIn q_X3_readAtom_6 (wsV RX3 77 RX10 yX10_step q_X10_step) := goodIn_app (goodIn_r _ [62, 60, 61, 6] rfl (by decide +kernel)) (goodIn_ca (goodIn_r (.code yX10_step cX10_step 1 none :: [.fieldLink RX10 19 "LeftArguments$Tape" "at" "I"]) [59, 3] rfl (by decide +kernel)) (goodIn_sub (fun _ h => List.mem_cons_of_mem _ (List.mem_append_right _ h)) gwX10))
set_option maxRecDepth 20000 in
theorem g_X3_readAtom_6_6 : GoodIn q_X3_readAtom_6 (wsV RX3 66 RX3 yX3_write q_X3_write) := goodIn_app (goodIn_r _ [69, 67, 68, 66] rfl (by decide +kernel)) (goodIn_ca (goodIn_r (.code yX3_write cX3_write 3 none :: [.fieldLink RX3 15 "LeftArguments$LawReader" "used" "I", .fieldLink RX3 11 "LeftArguments$LawReader" "code" "[I"]) [63, 64, 65] rfl (by decide +kernel)) (goodIn_sub (fun _ h => List.mem_cons_of_mem _ (List.mem_append_left _ (List.mem_append_right _ h))) gwX3))
set_option maxRecDepth 20000 in
theorem g_X3_readAtom_6_8 : GoodIn q_X3_readAtom_6 (wsV RX3 95 RX10 yX10_takeNumber q_X10_takeNumber) := goodIn_app (goodIn_r _ [81, 79, 80, 6] rfl (by decide +kernel)) (goodIn_ca (goodIn_r (.code yX10_takeNumber cX10_takeNumber 3 (some .boolean) :: [.code yX10_next cX10_next 1 (some .int), .fieldLink RX10 19 "LeftArguments$Tape" "at" "I", .fieldLink RX10 15 "LeftArguments$Tape" "used" "I", .fieldLink RX10 9 "LeftArguments$Tape" "bytes" "[I", .initialized RX10, .instanceMethod yX10_next, .selects RX10 yX10_next yX10_next, .methodLink RX10 37 yX10_next, .code yX10_isDigit cX10_isDigit 1 (some .boolean), .static yX10_isDigit, .methodLink RX10 45 yX10_isDigit, .code yX10_wrongHere cX10_wrongHere 1 (some .boolean), .fieldLink RX10 22 "LeftArguments$Tape" "wrongAt" "I", .instanceMethod yX10_wrongHere, .selects RX10 yX10_wrongHere yX10_wrongHere, .methodLink RX10 41 yX10_wrongHere, .fieldLink RX10 25 "LeftArguments$Tape" "number" "I", .code yX10_sign cX10_sign 1 (some .int), .instanceMethod yX10_sign, .selects RX10 yX10_sign yX10_sign, .methodLink RX10 49 yX10_sign]) [70, 2, 3, 4, 5, 6, 7, 8, 71, 10, 11, 72, 13, 14, 15, 16, 73, 74, 75, 76, 77, 78] rfl (by decide +kernel)) (goodIn_sub (fun _ h => List.mem_cons_of_mem _ (List.mem_append_right _ h)) gwX10))
set_option maxRecDepth 20000 in
theorem g_X3_readAtom_6_9 : GoodIn q_X3_readAtom_6 (wsV RX3 98 RX10 yX10_number q_X10_number) := goodIn_app (goodIn_r _ [85, 83, 84, 6] rfl (by decide +kernel)) (goodIn_ca (goodIn_r (.code yX10_number cX10_number 1 (some .int) :: [.fieldLink RX10 25 "LeftArguments$Tape" "number" "I"]) [82, 74] rfl (by decide +kernel)) (goodIn_sub (fun _ h => List.mem_cons_of_mem _ (List.mem_append_right _ h)) gwX10))
set_option maxRecDepth 20000 in
theorem g_X3_readAtom_6_12 : GoodIn q_X3_readAtom_6 (wsV RX3 59 RX3 yX3_readSum q_X3_readSum_5) := goodIn_app (goodIn_r _ [97, 95, 96, 66] rfl (by decide +kernel)) (goodIn_ca (goodIn_ca (goodIn_r (.code yX3_readSum cX3_readSum 4 (some .boolean) :: [.code yX3_readTerm cX3_readTerm 4 (some .boolean), .code yX3_readAtom cX3_readAtom 4 (some .boolean), .fieldLink RX3 19 "LeftArguments$LawReader" "tape" "LLeftArguments$Tape;", .code yX10_next cX10_next 1 (some .int), .fieldLink RX10 19 "LeftArguments$Tape" "at" "I", .fieldLink RX10 15 "LeftArguments$Tape" "used" "I", .fieldLink RX10 9 "LeftArguments$Tape" "bytes" "[I", .initialized RX10, .instanceMethod yX10_next, .selects RX10 yX10_next yX10_next, .methodLink RX3 48 yX10_next, .code yX10_isDigit cX10_isDigit 1 (some .boolean), .static yX10_isDigit, .methodLink RX3 92 yX10_isDigit, .code yX10_wrongHere cX10_wrongHere 1 (some .boolean), .fieldLink RX10 22 "LeftArguments$Tape" "wrongAt" "I", .instanceMethod yX10_wrongHere, .selects RX10 yX10_wrongHere yX10_wrongHere, .methodLink RX3 83 yX10_wrongHere, .code yJ0_indexOf_0f7a4 cJ0_indexOf_0f7a4 2 (some .int), .code yJ0_indexOf_7cf53 cJ0_indexOf_7cf53 3 (some .int), .code yJ0_isLatin1_aae02 cJ0_isLatin1_aae02 1 (some .boolean), .fieldLink RJ0 38 "java/lang/String" "COMPACT_STRINGS" "Z", .fieldLink RJ0 15 "java/lang/String" "coder" "B", .initialized RJ0, .instanceMethod yJ0_isLatin1_aae02, .selects RJ0 yJ0_isLatin1_aae02 yJ0_isLatin1_aae02, .methodLink RJ0 492 yJ0_isLatin1_aae02, .fieldLink RJ0 9 "java/lang/String" "value" "[B", .code yJ0_length_8abf5 cJ0_length_8abf5 1 (some .int), .code yJ0_coder_7d493 cJ0_coder_7d493 1 (some .byte), .instanceMethod yJ0_coder_7d493, .selects RJ0 yJ0_coder_7d493 yJ0_coder_7d493, .methodLink RJ0 335 yJ0_coder_7d493, .instanceMethod yJ0_length_8abf5, .selects RJ0 yJ0_length_8abf5 yJ0_length_8abf5, .methodLink RJ0 505 yJ0_length_8abf5, .code yJ1_indexOf_4cfef cJ1_indexOf_4cfef 4 (some .int), .code yJ1_canEncode_9a6ad cJ1_canEncode_9a6ad 1 (some .boolean), .initialized RJ1, .static yJ1_canEncode_9a6ad, .methodLink RJ1 88 yJ1_canEncode_9a6ad, .methodLink RJ1 92 Lib.Math.max.name, .static Lib.Math.max.name, .initialized "java/lang/Math", .code Lib.Math.max.name Lib.Math.max.code 2 (some .int), .methodLink RJ1 38 Lib.Math.min.name, .static Lib.Math.min.name, .code Lib.Math.min.name Lib.Math.min.code 2 (some .int), .code yJ1_indexOfChar_4cfef cJ1_indexOfChar_4cfef 6 (some .int), .static yJ1_indexOfChar_4cfef, .methodLink RJ1 95 yJ1_indexOfChar_4cfef, .static yJ1_indexOf_4cfef, .methodLink RJ0 637 yJ1_indexOf_4cfef, .instanceMethod yJ0_indexOf_7cf53, .selects RJ0 yJ0_indexOf_7cf53 yJ0_indexOf_7cf53, .methodLink RJ0 633 yJ0_indexOf_7cf53, .instanceMethod yJ0_indexOf_0f7a4, .selects RJ0 yJ0_indexOf_0f7a4 yJ0_indexOf_0f7a4, .methodLink RX3 103 yJ0_indexOf_0f7a4, .code yX10_step cX10_step 1 none, .instanceMethod yX10_step, .selects RX10 yX10_step yX10_step, .methodLink RX3 77 yX10_step, .code yX3_write cX3_write 3 none, .fieldLink RX3 15 "LeftArguments$LawReader" "used" "I", .fieldLink RX3 11 "LeftArguments$LawReader" "code" "[I", .initialized RX3, .instanceMethod yX3_write, .selects RX3 yX3_write yX3_write, .methodLink RX3 66 yX3_write, .code yX10_takeNumber cX10_takeNumber 3 (some .boolean), .methodLink RX10 37 yX10_next, .methodLink RX10 45 yX10_isDigit, .methodLink RX10 41 yX10_wrongHere, .fieldLink RX10 25 "LeftArguments$Tape" "number" "I", .code yX10_sign cX10_sign 1 (some .int), .instanceMethod yX10_sign, .selects RX10 yX10_sign yX10_sign, .methodLink RX10 49 yX10_sign, .instanceMethod yX10_takeNumber, .selects RX10 yX10_takeNumber yX10_takeNumber, .methodLink RX3 95 yX10_takeNumber, .code yX10_number cX10_number 1 (some .int), .instanceMethod yX10_number, .selects RX10 yX10_number yX10_number, .methodLink RX3 98 yX10_number, .code yX3_readSum cX3_readSum 4 (some .boolean), .instanceMethod yX3_readAtom, .selects RX3 yX3_readAtom yX3_readAtom, .methodLink RX3 89 yX3_readAtom, .instanceMethod yX3_readTerm, .selects RX3 yX3_readTerm yX3_readTerm, .methodLink RX3 86 yX3_readTerm, .instanceMethod yX3_readSum, .selects RX3 yX3_readSum yX3_readSum, .methodLink RX3 59 yX3_readSum, .code yX10_take cX10_take 2 (some .boolean), .instanceMethod yX10_take, .selects RX10 yX10_take yX10_take, .methodLink RX3 51 yX10_take]) [86, 87, 88, 1, 2, 3, 4, 5, 6, 7, 8, 9, 10, 11, 12, 13, 14, 15, 16, 17, 18, 19, 20, 21, 22, 23, 24, 25, 26, 27, 28, 29, 30, 31, 32, 33, 34, 35, 36, 37, 38, 39, 40, 41, 42, 43, 44, 45, 46, 47, 48, 49, 50, 51, 52, 53, 54, 55, 56, 57, 58, 59, 60, 61, 62, 63, 64, 65, 66, 67, 68, 69, 70, 71, 72, 73, 74, 75, 76, 77, 78, 79, 80, 81, 82, 83, 84, 85, 86, 89, 90, 91, 92, 93, 94, 95, 96, 97, 98, 99, 100, 101] rfl (by decide +kernel)) (goodIn_sub (fun _ h => List.mem_cons_of_mem _ (List.mem_append_left _ (List.mem_append_right _ h))) gwX3)) (goodIn_sub (fun _ h => List.mem_cons_of_mem _ (List.mem_append_right _ h)) gwX10))
set_option maxRecDepth 20000 in
theorem g_X3_readAtom_6_13 : GoodIn q_X3_readAtom_6 (wsV RX3 51 RX10 yX10_take q_X10_take_2) := goodIn_app (goodIn_r _ [101, 99, 100, 6] rfl (by decide +kernel)) (goodIn_ca (goodIn_r (.code yX10_take cX10_take 2 (some .boolean) :: [.code yX10_next cX10_next 1 (some .int), .fieldLink RX10 19 "LeftArguments$Tape" "at" "I", .fieldLink RX10 15 "LeftArguments$Tape" "used" "I", .fieldLink RX10 9 "LeftArguments$Tape" "bytes" "[I", .initialized RX10, .instanceMethod yX10_next, .selects RX10 yX10_next yX10_next, .methodLink RX10 37 yX10_next, .code yX10_wrongHere cX10_wrongHere 1 (some .boolean), .fieldLink RX10 22 "LeftArguments$Tape" "wrongAt" "I", .instanceMethod yX10_wrongHere, .selects RX10 yX10_wrongHere yX10_wrongHere, .methodLink RX10 41 yX10_wrongHere]) [98, 2, 3, 4, 5, 6, 7, 8, 71, 13, 14, 15, 16, 73] rfl (by decide +kernel)) (goodIn_sub (fun _ h => List.mem_cons_of_mem _ (List.mem_append_right _ h)) gwX10))
set_option maxHeartbeats 4000000 in
set_option maxRecDepth 100000 in
theorem k_X3_readAtom_6 (l : Launch) (dC : Nat → ClassId) (dI : Nat → Nat → Nat) (adK : Nat → Nat) (adV : Nat → Nat) (h0 : Nat) (h1 : Nat) (h2 : Nat) (h3 : Nat) (v0 : Int32) (v1 : Int32) (v2 : Int32) (v3 : Int32) (v4 : Int32) (g0 : ClassId) (f5 : Nat → Int32) (g1 : ClassId) (f6 : Nat → Int32) (i_v0 : 0 ≤ v0.toInt ∧ v0.toInt ≤ 256) (i_v1 : 0 ≤ v1.toInt ∧ v1.toInt ≤ 240) (i_v2 : 0 ≤ v2.toInt ∧ v2.toInt ≤ 240) (ia_f5 : (∀ j, 0 ≤ (f5 j).toInt ∧ (f5 j).toInt ≤ 255)) (sz : Nat) : Met l yX3_readAtom q_X3_readAtom_6 ({ frames := 22, cells := 0, slots := 0, locals := 505 }) (va_Pc [.ref h0, .int 0] (fun U => U.heap.size = sz ∧ va_P (dC, dI) vwCl (wd_1ad0248d h0 h1 h3 v0 h1 h2 v1 v2 v3 v4 h2 g0 f5 h3 g1 f6) U.heap ∧ va_K (dC, dI) vwCl [(g0, .int), (g1, .int)] U ∧ va_D (fun _ => True) (wd_1ad0248d h0 h1 h3 v0 h1 h2 v1 v2 v3 v4 h2 g0 f5 h3 g1 f6) ∧ vk_R RX3 101 "zaondt" (adK 2) U ∧ va_Z "java/lang/String" "COMPACT_STRINGS" "Z" (.int 1) (va_A (wd_1ad0248d h0 h1 h3 v0 h1 h2 v1 v2 v3 v4 h2 g0 f5 h3 g1 f6) sz) U U.heap ∧ vk_S 3 pv_len3 pv_byt3 adK adV (va_A (wd_1ad0248d h0 h1 h3 v0 h1 h2 v1 v2 v3 v4 h2 g0 f5 h3 g1 f6) sz) U U.heap)) (va_Qi (fun (r : Int32) (r9 : Int32) => r9 = r) (fun (r : Int32) (t : State) => (∃ (o_h0_2 : Int32) (o_h1_2 : Int32) (o_h1_4 : Int32) (o_h3 : Nat → Int32), 0 ≤ o_h0_2.toInt ∧ o_h0_2.toInt ≤ 256 ∧ 0 ≤ o_h1_2.toInt ∧ o_h1_2.toInt ≤ 240 ∧ (1 ≤ r.toInt) ∧ (r.toInt ≤ 1) ∧ (v2.toInt ≤ o_h1_2.toInt) ∧ (pg_atom f5 v1.toInt 6 v2.toInt = (true, o_h1_2.toInt)) ∧ va_P (dC, dI) vwCl (wd_1ad0248d h0 h1 h3 o_h0_2 h1 h2 v1 o_h1_2 v3 o_h1_4 h2 g0 f5 h3 g1 o_h3) t.heap ∧ va_K (dC, dI) vwCl [] t ∧ va_D (va_A (wd_1ad0248d h0 h1 h3 v0 h1 h2 v1 v2 v3 v4 h2 g0 f5 h3 g1 f6) sz) (wd_1ad0248d h0 h1 h3 o_h0_2 h1 h2 v1 o_h1_2 v3 o_h1_4 h2 g0 f5 h3 g1 o_h3)) ∨ (∃ (o_h0_2 : Int32) (o_h1_2 : Int32) (o_h1_3 : Int32) (o_h1_4 : Int32) (o_h3 : Nat → Int32), 0 ≤ o_h0_2.toInt ∧ o_h0_2.toInt ≤ 256 ∧ 0 ≤ o_h1_2.toInt ∧ o_h1_2.toInt ≤ 240 ∧ 0 ≤ o_h1_3.toInt ∧ o_h1_3.toInt ≤ 240 ∧ (0 ≤ r.toInt) ∧ (r.toInt ≤ 0) ∧ (v2.toInt ≤ o_h1_2.toInt) ∧ (pg_atom f5 v1.toInt 6 v2.toInt = (false, o_h1_3.toInt)) ∧ va_P (dC, dI) vwCl (wd_1ad0248d h0 h1 h3 o_h0_2 h1 h2 v1 o_h1_2 o_h1_3 o_h1_4 h2 g0 f5 h3 g1 o_h3) t.heap ∧ va_K (dC, dI) vwCl [] t ∧ va_D (va_A (wd_1ad0248d h0 h1 h3 v0 h1 h2 v1 v2 v3 v4 h2 g0 f5 h3 g1 f6) sz) (wd_1ad0248d h0 h1 h3 o_h0_2 h1 h2 v1 o_h1_2 o_h1_3 o_h1_4 h2 g0 f5 h3 g1 o_h3))) (va_A (wd_1ad0248d h0 h1 h3 v0 h1 h2 v1 v2 v3 v4 h2 g0 f5 h3 g1 f6) sz)) 0 0 (va_A (wd_1ad0248d h0 h1 h3 v0 h1 h2 v1 v2 v3 v4 h2 g0 f5 h3 g1 f6) sz) := by
  refine Met.ofW (cc := cX3_readAtom) (maxL := 4) (ret := (some .boolean)) (by decide) rfl ?_
  intro p e s m args below meth c s₁ B hml hv
  obtain ⟨i_v0a, i_v0b⟩ := i_v0
  obtain ⟨i_v1a, i_v1b⟩ := i_v1
  obtain ⟨i_v2a, i_v2b⟩ := i_v2
  obtain ⟨rfl, hsz, hP, hK, hD0, h_vr_2, h_st_CS, h_st_S⟩ := hv
  have hx := B.exec
  have hb := B.bytes
  have hr := B.returns
  have hts := atoms_spec (ws := q_X3_readAtom_6) B.pre
  have hown : s.vm.findClass RX3 = some m.cls := findClass_of_methodNamed B.named
  have hlocks := B.notSynchronized
  subst hsz
  have hD := hD0.self (sz := s.heap.size)
  generalize hAe : va_A (wd_1ad0248d h0 h1 h3 v0 h1 h2 v1 v2 v3 v4 h2 g0 f5 h3 g1 f6) s.heap.size = A at hD h_st_CS h_st_S ⊢
  have hA : ∀ q : Nat, s.heap.size ≤ q → A q := fun q h => by rw [← hAe]; exact Or.inr h
  have hS : va_S A s.heap s.heap [] := va_S.rf
  generalize hQ : (MQ below _ _ s 0 0 A) = Q
  have hl := lv_entry ([.ref h0, .int 0]) (n := 4) (Nat.le_of_ble_eq_true rfl)
  rw [lg_entry_eq]
  generalize (lg_sl ([.ref h0, .int 0]) ++ List.replicate (4 - (lg_sl ([.ref h0, .int 0])).length) Slot.unset).toArray = ls at hl ⊢
  have hl : lv_has ls 4 [(0, .ref h0), (1, .int 0)] := hl
  obtain ⟨H, hH⟩ : ∃ H : Heap, H = s.heap := ⟨_, rfl⟩
  obtain ⟨locs, hlocs⟩ : ∃ y : List Loc, y = [] := ⟨_, rfl⟩
  have hS : va_S A s.heap H locs := by rw [hH, hlocs]; exact va_S.rf
  have hP : va_P (dC, dI) vwCl (wd_1ad0248d h0 h1 h3 v0 h1 h2 v1 v2 v3 v4 h2 g0 f5 h3 g1 f6) H := by rw [hH]; exact hP
  rw [← hH, ← hlocs]
  refine lv_aload_n hx hb dX3_readAtom_0 rfl (lv_at hl 0 rfl) ?_
  refine va_get (D := (dC, dI)) (ci := 3) (v := .ref h1) (C := RX3) (T := TX3) (N := 3) hx hb hts (fun _ h => List.mem_cons_of_mem _ (List.mem_append_left _ (List.mem_append_right _ h))) hown hK hP 0 rfl rfl 0 (by decide) (hts (.fieldLink RX3 19 "LeftArguments$LawReader" "tape" "LLeftArguments$Tape;") (List.mem_cons_of_mem _ (List.mem_append_left _ (List.mem_append_left _ (List.mem_of_getElem? (i := 0) rfl))))) (fun _ h9 => h9) rfl dX3_readAtom_1 ?_
  have hPc := hP.sub (ws' := (wd_82cdd16b h1 h2 v1 v2 v3 v4 h2 g0 f5)) [1, 2] rfl
  have hDc := hD.sub (ws' := (wd_82cdd16b h1 h2 v1 v2 v3 v4 h2 g0 f5)) [1, 2] (by decide) rfl
  have hKc := hK.sub (tys' := [(g0, .int)]) [0] rfl
  have hFc := va_free (wc := (wd_82cdd16b h1 h2 v1 v2 v3 v4 h2 g0 f5)) hD hS hA [1, 2] rfl
  refine va_calli (va_runV (As := []) (rest := []) ⟨hx, hb, hml, hown, hts⟩ (k_X10_next l dC dI h1 h2 v1 v2 v3 v4 g0 f5 ⟨i_v1a, i_v1b⟩ ⟨i_v2a, i_v2b⟩ ia_f5 H.size) (cwV 0 hts g_X3_readAtom_6_0 rfl rfl rfl (by decide +kernel) ⟨Nat.le_of_ble_eq_true rfl, Nat.le_of_ble_eq_true rfl⟩) (pv_PV10 hPc hKc hDc (q0 := 0) rfl) rfl rfl hl.1 rfl (lv_room (Nat.le_of_ble_eq_true rfl)) dX3_readAtom_4 ⟨Nat.le_of_ble_eq_true rfl, Nat.le_of_ble_eq_true rfl⟩) hS (fun q _ h => hFc q h) hFc (fun ra1 u t H1 locs ht hvm hwra1 hB hz1 hk1 hS => ?_)
  try rw [hwra1] at hB
  rcases hB with hB | hB
  · skip
    obtain ⟨x2, oa_x2, ob_x2, pt0_ra1, pt1_ra1, pt2_ra1, pt3_ra1, pt4_ra1, pt5_ra1, pt6_ra1, hP1, hK1, hD1⟩ := hB
    rw [ht] at hP1
    obtain ⟨hP2, hD2⟩ := va_join (wr := (wd_b958b9da h0 h1 h3 v0 h3 g1 f6)) (w1 := (wd_82cdd16b h1 h2 v1 x2 v3 v4 h2 g0 f5)) hP hD [1, 2] [0, 3] rfl rfl (by decide) (by decide) hk1 hFc hP1 hD1
    clear hP hD hPc hDc hKc hFc hP1 hK1 hD1 hk1 hz1
    generalize H1 = H at hP2 hS ⊢
    have hP := hP2.sub (ws' := (wd_1ad0248d h0 h1 h3 v0 h1 h2 v1 x2 v3 v4 h2 g0 f5 h3 g1 f6)) [0, 2, 3, 1] rfl
    have hD := hD2.sub (ws' := (wd_1ad0248d h0 h1 h3 v0 h1 h2 v1 x2 v3 v4 h2 g0 f5 h3 g1 f6)) [0, 2, 3, 1] (by decide) rfl
    clear hP2 hD2
    obtain rfl : ra1 = ((-1) : Int32) := pv_cs (by decide) pt0_ra1 pt1_ra1
    refine lv_istore_n (lv' := [(2, .int (-1)), (0, .ref h0), (1, .int 0)]) hx hb dX3_readAtom_7 rfl hl (by decide) rfl (fun ls hl => ?_)
    refine lv_iload_n hx hb dX3_readAtom_8 rfl (lv_at hl 0 rfl) ?_
    refine lv_bipush (v := 91) hx hb dX3_readAtom_9 (by decide) ?_
    refine lv_icmp_ne (tgt := 55) hx hb dX3_readAtom_11 (by decide) (fun _ => ?_) (fun c => absurd c (by decide))
    refine lv_iload_n hx hb dX3_readAtom_55 rfl (lv_at hl 0 rfl) ?_
    have hPc := hP.sub (ws' := []) [] rfl
    have hDc := hD.sub (ws' := []) [] (by decide) rfl
    have hKc := hK.sub (tys' := []) [] rfl
    have hFc := va_free (wc := []) hD hS hA [] rfl
    refine va_calli (va_runS (As := [.int (-1)]) (rest := []) ⟨hx, hb, hml, hown, hts⟩ (k_X10_isDigit l dC dI ((-1))  H.size) (va_cwS 1 hts g_X3_readAtom_6_1 rfl rfl rfl (by decide +kernel) ⟨Nat.le_of_ble_eq_true rfl, Nat.le_of_ble_eq_true rfl⟩) (pv_PS hPc hKc hDc) rfl rfl hl.1 rfl (lv_room (Nat.le_of_ble_eq_true rfl)) dX3_readAtom_56 ⟨Nat.le_of_ble_eq_true rfl, Nat.le_of_ble_eq_true rfl⟩) hS (fun q _ h => hFc q h) hFc (fun ra3 u t H1 locs ht hvm hwra3 hB hz1 hk1 hS => ?_)
    try rw [hwra3] at hB
    have hkra3_0 : (((-1) : Int32)).toInt = -1 := by decide
    obtain ⟨pt0_ra3, pt1_ra3, pt2_ra3, pt3_ra3, pt4_ra3, hP1, hK1, hD1⟩ := hB
    rw [ht] at hP1
    obtain ⟨hP2, hD2⟩ := va_join (wr := (wd_1ad0248d h0 h1 h3 v0 h1 h2 v1 x2 v3 v4 h2 g0 f5 h3 g1 f6)) (w1 := []) hP hD [] [0, 1, 2, 3] rfl rfl (by decide) (by decide) hk1 hFc hP1 hD1
    clear hP hD hPc hDc hKc hFc hP1 hK1 hD1 hk1 hz1
    generalize H1 = H at hP2 hS ⊢
    have hP : va_P (dC, dI) vwCl (wd_1ad0248d h0 h1 h3 v0 h1 h2 v1 x2 v3 v4 h2 g0 f5 h3 g1 f6) H := hP2
    have hD : va_D A (wd_1ad0248d h0 h1 h3 v0 h1 h2 v1 x2 v3 v4 h2 g0 f5 h3 g1 f6) := hD2
    clear hP2 hD2
    refine lv_if_eq (tgt := 89) hx hb dX3_readAtom_59 (by decide) (fun c4 => ?_) (fun c4 => ?_)
    · skip
      have fc4 : ra3.toInt = 0 := congrArg Int32.toInt c4
      refine lv_iload_n hx hb dX3_readAtom_89 rfl (lv_at hl 0 rfl) ?_
      refine lv_iconst (v := (-1)) hx hb dX3_readAtom_90 (by decide) ?_
      refine lv_icmp_ne (tgt := 98) hx hb dX3_readAtom_91 (by decide) (fun c => absurd (by decide) c) (fun _ => ?_)
      refine lv_iconst (v := (-1)) hx hb dX3_readAtom_94 (by decide) ?_
      refine lv_goto (tgt := 105) hx hb dX3_readAtom_95 (by decide) ?_
      refine lv_istore_n (lv' := [(3, .int (-1)), (2, .int (-1)), (0, .ref h0), (1, .int 0)]) hx hb dX3_readAtom_105 rfl hl (by decide) rfl (fun ls hl => ?_)
      refine lv_iload_n hx hb dX3_readAtom_106 rfl (lv_at hl 0 rfl) ?_
      refine lv_if_ge (tgt := 118) hx hb dX3_readAtom_107 (by decide) (fun c => absurd c (by decide)) (fun _ => ?_)
      refine lv_aload_n hx hb dX3_readAtom_110 rfl (lv_at hl 2 rfl) ?_
      refine va_get (D := (dC, dI)) (ci := 3) (v := .ref h1) (C := RX3) (T := TX3) (N := 3) hx hb hts (fun _ h => List.mem_cons_of_mem _ (List.mem_append_left _ (List.mem_append_right _ h))) hown hK hP 0 rfl rfl 0 (by decide) (hts (.fieldLink RX3 19 "LeftArguments$LawReader" "tape" "LLeftArguments$Tape;") (List.mem_cons_of_mem _ (List.mem_append_left _ (List.mem_append_left _ (List.mem_of_getElem? (i := 0) rfl))))) (fun _ h9 => h9) rfl dX3_readAtom_111 ?_
      have hPc := hP.sub (ws' := (wd_09b0abee h1 h2 v1 x2 v3 v4)) [1] rfl
      have hDc := hD.sub (ws' := (wd_09b0abee h1 h2 v1 x2 v3 v4)) [1] (by decide) rfl
      have hKc := hK.sub (tys' := []) [] rfl
      have hFc := va_free (wc := (wd_09b0abee h1 h2 v1 x2 v3 v4)) hD hS hA [1] rfl
      refine va_calli (va_runV (As := []) (rest := []) ⟨hx, hb, hml, hown, hts⟩ (k_X10_wrongHere l dC dI h1 h2 v1 x2 v3 v4 ⟨i_v1a, i_v1b⟩ ⟨oa_x2, ob_x2⟩ H.size) (cwV 0 hts g_X3_readAtom_6_2 rfl rfl rfl (by decide +kernel) ⟨Nat.le_of_ble_eq_true rfl, Nat.le_of_ble_eq_true rfl⟩) (pv_PV10 hPc hKc hDc (q0 := 0) rfl) rfl rfl hl.1 rfl (lv_room (Nat.le_of_ble_eq_true rfl)) dX3_readAtom_114 ⟨Nat.le_of_ble_eq_true rfl, Nat.le_of_ble_eq_true rfl⟩) hS (fun q _ h => hFc q h) hFc (fun ra5 u t H1 locs ht hvm hwra5 hB hz1 hk1 hS => ?_)
      try rw [hwra5] at hB
      obtain ⟨x6, oa_x6, ob_x6, pt0_ra5, pt1_ra5, pt2_ra5, hP1, hK1, hD1⟩ := hB
      rw [ht] at hP1
      obtain ⟨hP2, hD2⟩ := va_join (wr := (wd_6b0d8e05 h0 h1 h3 v0 h2 g0 f5 h3 g1 f6)) (w1 := (wd_09b0abee h1 h2 v1 x2 x6 v4)) hP hD [1] [0, 2, 3] rfl rfl (by decide) (by decide) hk1 hFc hP1 hD1
      clear hP hD hPc hDc hKc hFc hP1 hK1 hD1 hk1 hz1
      generalize H1 = H at hP2 hS ⊢
      have hP := hP2.sub (ws' := (wd_1ad0248d h0 h1 h3 v0 h1 h2 v1 x2 x6 v4 h2 g0 f5 h3 g1 f6)) [0, 3, 1, 2] rfl
      have hD := hD2.sub (ws' := (wd_1ad0248d h0 h1 h3 v0 h1 h2 v1 x2 x6 v4 h2 g0 f5 h3 g1 f6)) [0, 3, 1, 2] (by decide) rfl
      clear hP2 hD2
      obtain rfl : ra5 = (0 : Int32) := pv_cs (by decide) pt0_ra5 pt1_ra5
      subst hQ
      have hP9 := hP.sub (ws' := (wd_1ad0248d h0 h1 h3 v0 h1 h2 v1 x2 x6 v4 h2 g0 f5 h3 g1 f6)) [0, 1, 2, 3] rfl
      have hD9 := hD.sub (ws' := (wd_1ad0248d h0 h1 h3 v0 h1 h2 v1 x2 x6 v4 h2 g0 f5 h3 g1 f6)) [0, 1, 2, 3] (by decide) rfl
      have hK9 := hK.sub (tys' := []) [] rfl
      exact W.zret (v := 0) hx hb hr rfl (fun t ht hW => ⟨⟨0, 0, rfl, rfl, Or.inr (⟨v0, x2, x6, v4, f6, i_v0a, i_v0b, oa_x2, ob_x2, oa_x6, ob_x6, by first | omega | decide, by first | omega | decide, by omega, by show pg_atomF f5 v1.toInt true (pg_sum f5 v1.toInt 5) _ = _; first | (apply pg_atomF.nmc <;> first | assumption | omega) | (apply pg_atomF.nmf <;> first | assumption | omega) | (apply pg_atomF.num <;> first | assumption | omega) | (apply pg_atomF.lt <;> first | assumption | omega) | (apply pg_atomF.par1 <;> first | assumption | omega) | (apply pg_atomF.par0 <;> first | assumption | omega) | (apply pg_atomF.deep <;> first | assumption | omega) | (apply pg_atomF.bdn <;> first | assumption | omega) | (apply pg_atomF.bad <;> first | assumption | omega), by rw [ht]; exact hP9, va_K.moved hW.alike hK9, hD9⟩)⟩, hS.F ht⟩) hS.2.2 dX3_readAtom_117
    · skip
      have fc4 : ¬ (ra3.toInt = 0) := fun h9 => c4 (Int32.toInt_inj.mp h9)
      exfalso; omega
  · skip
    obtain ⟨x7, oa_x7, ob_x7, pt0_ra1, pt1_ra1, pt2_ra1, pt3_ra1, pt4_ra1, pt5_ra1, pt6_ra1, hP1, hK1, hD1⟩ := hB
    rw [ht] at hP1
    obtain ⟨hP2, hD2⟩ := va_join (wr := (wd_b958b9da h0 h1 h3 v0 h3 g1 f6)) (w1 := (wd_82cdd16b h1 h2 v1 x7 v3 v4 h2 g0 f5)) hP hD [1, 2] [0, 3] rfl rfl (by decide) (by decide) hk1 hFc hP1 hD1
    clear hP hD hPc hDc hKc hFc hP1 hK1 hD1 hk1 hz1
    generalize H1 = H at hP2 hS ⊢
    have hP := hP2.sub (ws' := (wd_1ad0248d h0 h1 h3 v0 h1 h2 v1 x7 v3 v4 h2 g0 f5 h3 g1 f6)) [0, 2, 3, 1] rfl
    have hD := hD2.sub (ws' := (wd_1ad0248d h0 h1 h3 v0 h1 h2 v1 x7 v3 v4 h2 g0 f5 h3 g1 f6)) [0, 2, 3, 1] (by decide) rfl
    clear hP2 hD2
    refine lv_istore_n (lv' := [(2, .int ra1), (0, .ref h0), (1, .int 0)]) hx hb dX3_readAtom_7 rfl hl (by decide) rfl (fun ls hl => ?_)
    refine lv_iload_n hx hb dX3_readAtom_8 rfl (lv_at hl 0 rfl) ?_
    refine lv_bipush (v := 91) hx hb dX3_readAtom_9 (by decide) ?_
    refine lv_icmp_ne (tgt := 55) hx hb dX3_readAtom_11 (by decide) (fun c8 => ?_) (fun c8 => ?_)
    · skip
      have fc8 : ¬ (ra1.toInt = 91) := fun h9 => c8 (Int32.toInt_inj.mp h9)
      refine lv_iload_n hx hb dX3_readAtom_55 rfl (lv_at hl 0 rfl) ?_
      have hPc := hP.sub (ws' := []) [] rfl
      have hDc := hD.sub (ws' := []) [] (by decide) rfl
      have hKc := hK.sub (tys' := []) [] rfl
      have hFc := va_free (wc := []) hD hS hA [] rfl
      refine va_calli (va_runS (As := [.int ra1]) (rest := []) ⟨hx, hb, hml, hown, hts⟩ (k_X10_isDigit l dC dI ra1  H.size) (va_cwS 1 hts g_X3_readAtom_6_1 rfl rfl rfl (by decide +kernel) ⟨Nat.le_of_ble_eq_true rfl, Nat.le_of_ble_eq_true rfl⟩) (pv_PS hPc hKc hDc) rfl rfl hl.1 rfl (lv_room (Nat.le_of_ble_eq_true rfl)) dX3_readAtom_56 ⟨Nat.le_of_ble_eq_true rfl, Nat.le_of_ble_eq_true rfl⟩) hS (fun q _ h => hFc q h) hFc (fun ra9 u t H1 locs ht hvm hwra9 hB hz1 hk1 hS => ?_)
      try rw [hwra9] at hB
      obtain ⟨pt0_ra9, pt1_ra9, pt2_ra9, pt3_ra9, pt4_ra9, hP1, hK1, hD1⟩ := hB
      rw [ht] at hP1
      obtain ⟨hP2, hD2⟩ := va_join (wr := (wd_1ad0248d h0 h1 h3 v0 h1 h2 v1 x7 v3 v4 h2 g0 f5 h3 g1 f6)) (w1 := []) hP hD [] [0, 1, 2, 3] rfl rfl (by decide) (by decide) hk1 hFc hP1 hD1
      clear hP hD hPc hDc hKc hFc hP1 hK1 hD1 hk1 hz1
      generalize H1 = H at hP2 hS ⊢
      have hP : va_P (dC, dI) vwCl (wd_1ad0248d h0 h1 h3 v0 h1 h2 v1 x7 v3 v4 h2 g0 f5 h3 g1 f6) H := hP2
      have hD : va_D A (wd_1ad0248d h0 h1 h3 v0 h1 h2 v1 x7 v3 v4 h2 g0 f5 h3 g1 f6) := hD2
      clear hP2 hD2
      refine lv_if_eq (tgt := 89) hx hb dX3_readAtom_59 (by decide) (fun c10 => ?_) (fun c10 => ?_)
      · skip
        have fc10 : ra9.toInt = 0 := congrArg Int32.toInt c10
        refine lv_iload_n hx hb dX3_readAtom_89 rfl (lv_at hl 0 rfl) ?_
        refine lv_iconst (v := (-1)) hx hb dX3_readAtom_90 (by decide) ?_
        refine lv_icmp_ne (tgt := 98) hx hb dX3_readAtom_91 (by decide) (fun _ => ?_) (fun c11 => by exfalso; have fc11 : ra1.toInt = (-1) := congrArg Int32.toInt c11; omega)
        refine va_ldcS hx hb hown h_vr_2 dX3_readAtom_98 ?_
        refine lv_iload_n hx hb dX3_readAtom_100 rfl (lv_at hl 0 rfl) ?_
        obtain ⟨t12, et12⟩ : ∃ z : Int32, z = ((ra1 : Int32).toUInt32 % 65536).toInt32 := ⟨_, rfl⟩
        refine lv_i2c (v := t12) hx hb dX3_readAtom_101 (by rw [et12]) ?_
        have hcct12 : t12.toInt = pg_ch f5 v1.toInt x7.toInt := pg_i2c et12 (by omega) (by omega) (by omega)
        have hPc := hP.sub (ws' := []) [] rfl
        have hDc := hD.sub (ws' := []) [] (by decide) rfl
        have hKc := hK.sub (tys' := []) [] rfl
        have hFc := va_free (wc := []) hD hS hA [] rfl
        refine va_calli (va_runV (As := [.int t12]) (rest := []) ⟨hx, hb, hml, hown, hts⟩ (k_J0_indexOf_0f7a4 l dC dI adK adV t12  H.size) (cwV 1 hts g_X3_readAtom_6_4 rfl rfl rfl (by decide +kernel) ⟨Nat.le_of_ble_eq_true rfl, Nat.le_of_ble_eq_true rfl⟩) ⟨fun a U g mk q => by obtain ⟨q0, q1, qP, qK, qD, n0, n1⟩ := q; exact ⟨q0, q1, qP, va_K.moved (u := U) (U := U.calling g mk a) (Vm.Alike.refl U.vm) qK, qD, va_Z.moved (Vm.Alike.refl _) n0, vk_S.moved (Vm.Alike.refl _) n1⟩, vk_recv h_st_S (by decide : 2 < 3) hS, fun U hU hW => ⟨rfl, by rw [hU], by rw [hU]; exact hPc, va_K.moved hW.alike hKc, hDc.weaken (fun _ _ _ _ => trivial), (by rw [hU]; exact (va_Z.moved hW.alike (va_Z.kept h_st_CS hS.2.1)).narrow hFc), (by rw [hU]; exact (vk_S.moved hW.alike (vk_S.kept h_st_S hS.2.1)).narrow hFc)⟩⟩ rfl rfl hl.1 rfl (lv_room (Nat.le_of_ble_eq_true rfl)) dX3_readAtom_102 ⟨Nat.le_of_ble_eq_true rfl, Nat.le_of_ble_eq_true rfl⟩) hS (fun q _ h => hFc q h) hFc (fun ra13 u t H1 locs ht hvm hwra13 hB hz1 hk1 hS => ?_)
        try rw [hwra13] at hB
        obtain ⟨pt0_ra13, pt1_ra13, pt2_ra13, hP1, hK1, hD1⟩ := hB
        rw [ht] at hP1
        obtain ⟨hP2, hD2⟩ := va_join (wr := (wd_1ad0248d h0 h1 h3 v0 h1 h2 v1 x7 v3 v4 h2 g0 f5 h3 g1 f6)) (w1 := []) hP hD [] [0, 1, 2, 3] rfl rfl (by decide) (by decide) hk1 hFc hP1 hD1
        clear hP hD hPc hDc hKc hFc hP1 hK1 hD1 hk1 hz1
        generalize H1 = H at hP2 hS ⊢
        have hP : va_P (dC, dI) vwCl (wd_1ad0248d h0 h1 h3 v0 h1 h2 v1 x7 v3 v4 h2 g0 f5 h3 g1 f6) H := hP2
        have hD : va_D A (wd_1ad0248d h0 h1 h3 v0 h1 h2 v1 x7 v3 v4 h2 g0 f5 h3 g1 f6) := hD2
        clear hP2 hD2
        have hltra13 : pm_lt (pg_ch f5 v1.toInt x7.toInt) = ra13.toInt := by rw [show pg_ch f5 v1.toInt x7.toInt = t12.toInt by omega]; omega
        refine lv_istore_n (lv' := [(3, .int ra13), (2, .int ra1), (0, .ref h0), (1, .int 0)]) hx hb dX3_readAtom_105 rfl hl (by decide) rfl (fun ls hl => ?_)
        refine lv_iload_n hx hb dX3_readAtom_106 rfl (lv_at hl 0 rfl) ?_
        refine lv_if_ge (tgt := 118) hx hb dX3_readAtom_107 (by decide) (fun c14 => ?_) (fun c14 => ?_)
        · skip
          have fc14 : 0 ≤ ra13.toInt := Int32.le_iff_toInt_le.mp c14
          refine lv_aload_n hx hb dX3_readAtom_118 rfl (lv_at hl 2 rfl) ?_
          refine va_get (D := (dC, dI)) (ci := 3) (v := .ref h1) (C := RX3) (T := TX3) (N := 3) hx hb hts (fun _ h => List.mem_cons_of_mem _ (List.mem_append_left _ (List.mem_append_right _ h))) hown hK hP 0 rfl rfl 0 (by decide) (hts (.fieldLink RX3 19 "LeftArguments$LawReader" "tape" "LLeftArguments$Tape;") (List.mem_cons_of_mem _ (List.mem_append_left _ (List.mem_append_left _ (List.mem_of_getElem? (i := 0) rfl))))) (fun _ h9 => h9) rfl dX3_readAtom_119 ?_
          have hPc := hP.sub (ws' := (wd_09b0abee h1 h2 v1 x7 v3 v4)) [1] rfl
          have hDc := hD.sub (ws' := (wd_09b0abee h1 h2 v1 x7 v3 v4)) [1] (by decide) rfl
          have hKc := hK.sub (tys' := []) [] rfl
          have hFc := va_free (wc := (wd_09b0abee h1 h2 v1 x7 v3 v4)) hD hS hA [1] rfl
          refine va_callv (va_runV (As := []) (rest := []) ⟨hx, hb, hml, hown, hts⟩ (k_X10_step l dC dI h1 h2 v1 x7 v3 v4 ⟨i_v1a, i_v1b⟩ ⟨oa_x7, ob_x7⟩ H.size) (cwV 0 hts g_X3_readAtom_6_5 rfl rfl rfl (by decide +kernel) ⟨Nat.le_of_ble_eq_true rfl, Nat.le_of_ble_eq_true rfl⟩) (pv_PV10 hPc hKc hDc (q0 := 0) rfl) rfl rfl hl.1 rfl (lv_room (Nat.le_of_ble_eq_true rfl)) dX3_readAtom_122 ⟨Nat.le_of_ble_eq_true rfl, Nat.le_of_ble_eq_true rfl⟩) hS (fun q _ h => hFc q h) hFc (fun u t H1 locs ht hvm hwra15 hB hz1 hk1 hS => ?_)
          obtain ⟨x16, oa_x16, ob_x16, pt0_ra15, hP1, hK1, hD1⟩ := hB
          rw [ht] at hP1
          obtain ⟨hP2, hD2⟩ := va_join (wr := (wd_6b0d8e05 h0 h1 h3 v0 h2 g0 f5 h3 g1 f6)) (w1 := (wd_09b0abee h1 h2 v1 x16 v3 v4)) hP hD [1] [0, 2, 3] rfl rfl (by decide) (by decide) hk1 hFc hP1 hD1
          clear hP hD hPc hDc hKc hFc hP1 hK1 hD1 hk1 hz1
          generalize H1 = H at hP2 hS ⊢
          have hP := hP2.sub (ws' := (wd_1ad0248d h0 h1 h3 v0 h1 h2 v1 x16 v3 v4 h2 g0 f5 h3 g1 f6)) [0, 3, 1, 2] rfl
          have hD := hD2.sub (ws' := (wd_1ad0248d h0 h1 h3 v0 h1 h2 v1 x16 v3 v4 h2 g0 f5 h3 g1 f6)) [0, 3, 1, 2] (by decide) rfl
          clear hP2 hD2
          refine lv_aload_n hx hb dX3_readAtom_125 rfl (lv_at hl 2 rfl) ?_
          refine lv_iconst (v := 1) hx hb dX3_readAtom_126 (by decide) ?_
          refine lv_iload_n hx hb dX3_readAtom_127 rfl (lv_at hl 0 rfl) ?_
          have hPc := hP.sub (ws' := (wd_b958b9da h0 h1 h3 v0 h3 g1 f6)) [0, 3] rfl
          have hDc := hD.sub (ws' := (wd_b958b9da h0 h1 h3 v0 h3 g1 f6)) [0, 3] (by decide) rfl
          have hKc := hK.sub (tys' := [(g1, .int)]) [1] rfl
          have hFc := va_free (wc := (wd_b958b9da h0 h1 h3 v0 h3 g1 f6)) hD hS hA [0, 3] rfl
          refine va_callv (va_runV (As := [.int 1, .int ra13]) (rest := []) ⟨hx, hb, hml, hown, hts⟩ (k_X3_write l dC dI h0 h3 h1 v0 g1 f6 1 ra13 ⟨i_v0a, i_v0b⟩ H.size) (cwV 2 hts g_X3_readAtom_6_6 rfl rfl rfl (by decide +kernel) ⟨Nat.le_of_ble_eq_true rfl, Nat.le_of_ble_eq_true rfl⟩) (pv_PV3 hPc hKc hDc (q0 := 0) rfl) rfl rfl hl.1 rfl (lv_room (Nat.le_of_ble_eq_true rfl)) dX3_readAtom_128 ⟨Nat.le_of_ble_eq_true rfl, Nat.le_of_ble_eq_true rfl⟩) hS (fun q _ h => hFc q h) hFc (fun u t H1 locs ht hvm hwra17 hB hz1 hk1 hS => ?_)
          obtain ⟨x18, fn19, oa_x18, ob_x18, hP1, hK1, hD1⟩ := hB
          rw [ht] at hP1
          obtain ⟨hP2, hD2⟩ := va_join (wr := (wd_82cdd16b h1 h2 v1 x16 v3 v4 h2 g0 f5)) (w1 := (wd_b958b9da h0 h1 h3 x18 h3 g1 fn19)) hP hD [0, 3] [1, 2] rfl rfl (by decide) (by decide) hk1 hFc hP1 hD1
          clear hP hD hPc hDc hKc hFc hP1 hK1 hD1 hk1 hz1
          generalize H1 = H at hP2 hS ⊢
          have hP := hP2.sub (ws' := (wd_1ad0248d h0 h1 h3 x18 h1 h2 v1 x16 v3 v4 h2 g0 f5 h3 g1 fn19)) [2, 0, 1, 3] rfl
          have hD := hD2.sub (ws' := (wd_1ad0248d h0 h1 h3 x18 h1 h2 v1 x16 v3 v4 h2 g0 f5 h3 g1 fn19)) [2, 0, 1, 3] (by decide) rfl
          clear hP2 hD2
          refine lv_iconst (v := 1) hx hb dX3_readAtom_131 (by decide) ?_
          subst hQ
          have hP9 := hP.sub (ws' := (wd_1ad0248d h0 h1 h3 x18 h1 h2 v1 x16 v3 v4 h2 g0 f5 h3 g1 fn19)) [0, 1, 2, 3] rfl
          have hD9 := hD.sub (ws' := (wd_1ad0248d h0 h1 h3 x18 h1 h2 v1 x16 v3 v4 h2 g0 f5 h3 g1 fn19)) [0, 1, 2, 3] (by decide) rfl
          have hK9 := hK.sub (tys' := []) [] rfl
          exact W.zret (v := 1) hx hb hr rfl (fun t ht hW => ⟨⟨1, 1, rfl, rfl, Or.inl ⟨x18, x16, v4, fn19, oa_x18, ob_x18, by first | omega | decide, ob_x16, by first | omega | decide, by first | omega | decide, by omega, by show pg_atomF f5 v1.toInt true (pg_sum f5 v1.toInt 5) _ = _; first | (apply pg_atomF.nmc <;> first | assumption | omega) | (apply pg_atomF.nmf <;> first | assumption | omega) | (apply pg_atomF.num <;> first | assumption | omega) | (apply pg_atomF.lt <;> first | assumption | omega) | (apply pg_atomF.par1 <;> first | assumption | omega) | (apply pg_atomF.par0 <;> first | assumption | omega) | (apply pg_atomF.deep <;> first | assumption | omega) | (apply pg_atomF.bdn <;> first | assumption | omega) | (apply pg_atomF.bad <;> first | assumption | omega), by rw [ht]; exact hP9, va_K.moved hW.alike hK9, hD9⟩⟩, hS.F ht⟩) hS.2.2 dX3_readAtom_132
        · skip
          have fc14 : ¬ (0 ≤ ra13.toInt) := fun h9 => c14 (Int32.le_iff_toInt_le.mpr h9)
          refine lv_aload_n hx hb dX3_readAtom_110 rfl (lv_at hl 2 rfl) ?_
          refine va_get (D := (dC, dI)) (ci := 3) (v := .ref h1) (C := RX3) (T := TX3) (N := 3) hx hb hts (fun _ h => List.mem_cons_of_mem _ (List.mem_append_left _ (List.mem_append_right _ h))) hown hK hP 0 rfl rfl 0 (by decide) (hts (.fieldLink RX3 19 "LeftArguments$LawReader" "tape" "LLeftArguments$Tape;") (List.mem_cons_of_mem _ (List.mem_append_left _ (List.mem_append_left _ (List.mem_of_getElem? (i := 0) rfl))))) (fun _ h9 => h9) rfl dX3_readAtom_111 ?_
          have hPc := hP.sub (ws' := (wd_09b0abee h1 h2 v1 x7 v3 v4)) [1] rfl
          have hDc := hD.sub (ws' := (wd_09b0abee h1 h2 v1 x7 v3 v4)) [1] (by decide) rfl
          have hKc := hK.sub (tys' := []) [] rfl
          have hFc := va_free (wc := (wd_09b0abee h1 h2 v1 x7 v3 v4)) hD hS hA [1] rfl
          refine va_calli (va_runV (As := []) (rest := []) ⟨hx, hb, hml, hown, hts⟩ (k_X10_wrongHere l dC dI h1 h2 v1 x7 v3 v4 ⟨i_v1a, i_v1b⟩ ⟨oa_x7, by first | omega | decide⟩ H.size) (cwV 0 hts g_X3_readAtom_6_2 rfl rfl rfl (by decide +kernel) ⟨Nat.le_of_ble_eq_true rfl, Nat.le_of_ble_eq_true rfl⟩) (pv_PV10 hPc hKc hDc (q0 := 0) rfl) rfl rfl hl.1 rfl (lv_room (Nat.le_of_ble_eq_true rfl)) dX3_readAtom_114 ⟨Nat.le_of_ble_eq_true rfl, Nat.le_of_ble_eq_true rfl⟩) hS (fun q _ h => hFc q h) hFc (fun ra20 u t H1 locs ht hvm hwra20 hB hz1 hk1 hS => ?_)
          try rw [hwra20] at hB
          obtain ⟨x21, oa_x21, ob_x21, pt0_ra20, pt1_ra20, pt2_ra20, hP1, hK1, hD1⟩ := hB
          rw [ht] at hP1
          obtain ⟨hP2, hD2⟩ := va_join (wr := (wd_6b0d8e05 h0 h1 h3 v0 h2 g0 f5 h3 g1 f6)) (w1 := (wd_09b0abee h1 h2 v1 x7 x21 v4)) hP hD [1] [0, 2, 3] rfl rfl (by decide) (by decide) hk1 hFc hP1 hD1
          clear hP hD hPc hDc hKc hFc hP1 hK1 hD1 hk1 hz1
          generalize H1 = H at hP2 hS ⊢
          have hP := hP2.sub (ws' := (wd_1ad0248d h0 h1 h3 v0 h1 h2 v1 x7 x21 v4 h2 g0 f5 h3 g1 f6)) [0, 3, 1, 2] rfl
          have hD := hD2.sub (ws' := (wd_1ad0248d h0 h1 h3 v0 h1 h2 v1 x7 x21 v4 h2 g0 f5 h3 g1 f6)) [0, 3, 1, 2] (by decide) rfl
          clear hP2 hD2
          obtain rfl : ra20 = (0 : Int32) := pv_cs (by decide) pt0_ra20 pt1_ra20
          subst hQ
          have hP9 := hP.sub (ws' := (wd_1ad0248d h0 h1 h3 v0 h1 h2 v1 x7 x21 v4 h2 g0 f5 h3 g1 f6)) [0, 1, 2, 3] rfl
          have hD9 := hD.sub (ws' := (wd_1ad0248d h0 h1 h3 v0 h1 h2 v1 x7 x21 v4 h2 g0 f5 h3 g1 f6)) [0, 1, 2, 3] (by decide) rfl
          have hK9 := hK.sub (tys' := []) [] rfl
          exact W.zret (v := 0) hx hb hr rfl (fun t ht hW => ⟨⟨0, 0, rfl, rfl, Or.inr (⟨v0, x7, x21, v4, f6, i_v0a, i_v0b, oa_x7, by first | omega | decide, oa_x21, ob_x21, by first | omega | decide, by first | omega | decide, by omega, by show pg_atomF f5 v1.toInt true (pg_sum f5 v1.toInt 5) _ = _; first | (apply pg_atomF.nmc <;> first | assumption | omega) | (apply pg_atomF.nmf <;> first | assumption | omega) | (apply pg_atomF.num <;> first | assumption | omega) | (apply pg_atomF.lt <;> first | assumption | omega) | (apply pg_atomF.par1 <;> first | assumption | omega) | (apply pg_atomF.par0 <;> first | assumption | omega) | (apply pg_atomF.deep <;> first | assumption | omega) | (apply pg_atomF.bdn <;> first | assumption | omega) | (apply pg_atomF.bad <;> first | assumption | omega), by rw [ht]; exact hP9, va_K.moved hW.alike hK9, hD9⟩)⟩, hS.F ht⟩) hS.2.2 dX3_readAtom_117
      · skip
        have fc10 : ¬ (ra9.toInt = 0) := fun h9 => c10 (Int32.toInt_inj.mp h9)
        refine lv_aload_n hx hb dX3_readAtom_62 rfl (lv_at hl 1 rfl) ?_
        refine va_get (D := (dC, dI)) (ci := 3) (v := .ref h1) (C := RX3) (T := TX3) (N := 3) hx hb hts (fun _ h => List.mem_cons_of_mem _ (List.mem_append_left _ (List.mem_append_right _ h))) hown hK hP 0 rfl rfl 0 (by decide) (hts (.fieldLink RX3 19 "LeftArguments$LawReader" "tape" "LLeftArguments$Tape;") (List.mem_cons_of_mem _ (List.mem_append_left _ (List.mem_append_left _ (List.mem_of_getElem? (i := 0) rfl))))) (fun _ h9 => h9) rfl dX3_readAtom_63 ?_
        refine lv_iconst (v := 4) hx hb dX3_readAtom_66 (by decide) ?_
        have hPc := hP.sub (ws' := (wd_82cdd16b h1 h2 v1 x7 v3 v4 h2 g0 f5)) [1, 2] rfl
        have hDc := hD.sub (ws' := (wd_82cdd16b h1 h2 v1 x7 v3 v4 h2 g0 f5)) [1, 2] (by decide) rfl
        have hKc := hK.sub (tys' := [(g0, .int)]) [0] rfl
        have hFc := va_free (wc := (wd_82cdd16b h1 h2 v1 x7 v3 v4 h2 g0 f5)) hD hS hA [1, 2] rfl
        refine va_calli (va_runV (As := [.int 4]) (rest := []) ⟨hx, hb, hml, hown, hts⟩ (k_X10_takeNumber l dC dI h1 h2 v1 x7 v3 v4 g0 f5 ⟨i_v1a, i_v1b⟩ ⟨oa_x7, by first | omega | decide⟩ ia_f5 H.size) (cwV 1 hts g_X3_readAtom_6_8 rfl rfl rfl (by decide +kernel) ⟨Nat.le_of_ble_eq_true rfl, Nat.le_of_ble_eq_true rfl⟩) (pv_PV10 hPc hKc hDc (q0 := 0) rfl) rfl rfl hl.1 rfl (lv_room (Nat.le_of_ble_eq_true rfl)) dX3_readAtom_67 ⟨Nat.le_of_ble_eq_true rfl, Nat.le_of_ble_eq_true rfl⟩) hS (fun q _ h => hFc q h) hFc (fun ra22 u t H1 locs ht hvm hwra22 hB hz1 hk1 hS => ?_)
        try rw [hwra22] at hB
        rcases hB with hB | hB
        · skip
          obtain ⟨x23, x24, oa_x23, ob_x23, oa_x24, ob_x24, pt0_ra22, pt1_ra22, pt2_ra22, pt3_ra22, hP1, hK1, hD1⟩ := hB
          rw [ht] at hP1
          obtain ⟨hP2, hD2⟩ := va_join (wr := (wd_b958b9da h0 h1 h3 v0 h3 g1 f6)) (w1 := (wd_82cdd16b h1 h2 v1 x23 v3 x24 h2 g0 f5)) hP hD [1, 2] [0, 3] rfl rfl (by decide) (by decide) hk1 hFc hP1 hD1
          clear hP hD hPc hDc hKc hFc hP1 hK1 hD1 hk1 hz1
          generalize H1 = H at hP2 hS ⊢
          have hP := hP2.sub (ws' := (wd_1ad0248d h0 h1 h3 v0 h1 h2 v1 x23 v3 x24 h2 g0 f5 h3 g1 f6)) [0, 2, 3, 1] rfl
          have hD := hD2.sub (ws' := (wd_1ad0248d h0 h1 h3 v0 h1 h2 v1 x23 v3 x24 h2 g0 f5 h3 g1 f6)) [0, 2, 3, 1] (by decide) rfl
          clear hP2 hD2
          obtain rfl : ra22 = (1 : Int32) := pv_cs (by decide) pt0_ra22 pt1_ra22
          refine lv_if_ne (tgt := 75) hx hb dX3_readAtom_70 (by decide) (fun _ => ?_) (fun c => absurd c (by decide))
          refine lv_aload_n hx hb dX3_readAtom_75 rfl (lv_at hl 1 rfl) ?_
          refine lv_iconst (v := 0) hx hb dX3_readAtom_76 (by decide) ?_
          refine lv_aload_n hx hb dX3_readAtom_77 rfl (lv_at hl 1 rfl) ?_
          refine va_get (D := (dC, dI)) (ci := 3) (v := .ref h1) (C := RX3) (T := TX3) (N := 3) hx hb hts (fun _ h => List.mem_cons_of_mem _ (List.mem_append_left _ (List.mem_append_right _ h))) hown hK hP 0 rfl rfl 0 (by decide) (hts (.fieldLink RX3 19 "LeftArguments$LawReader" "tape" "LLeftArguments$Tape;") (List.mem_cons_of_mem _ (List.mem_append_left _ (List.mem_append_left _ (List.mem_of_getElem? (i := 0) rfl))))) (fun _ h9 => h9) rfl dX3_readAtom_78 ?_
          have hPc := hP.sub (ws' := (wd_09b0abee h1 h2 v1 x23 v3 x24)) [1] rfl
          have hDc := hD.sub (ws' := (wd_09b0abee h1 h2 v1 x23 v3 x24)) [1] (by decide) rfl
          have hKc := hK.sub (tys' := []) [] rfl
          have hFc := va_free (wc := (wd_09b0abee h1 h2 v1 x23 v3 x24)) hD hS hA [1] rfl
          refine va_calli (va_runV (As := []) (rest := [.int 0, .ref h0]) ⟨hx, hb, hml, hown, hts⟩ (k_X10_number l dC dI h1 h2 v1 x23 v3 x24 ⟨i_v1a, i_v1b⟩ H.size) (cwV 0 hts g_X3_readAtom_6_9 rfl rfl rfl (by decide +kernel) ⟨Nat.le_of_ble_eq_true rfl, Nat.le_of_ble_eq_true rfl⟩) (pv_PV10 hPc hKc hDc (q0 := 0) rfl) rfl rfl hl.1 rfl (lv_room (Nat.le_of_ble_eq_true rfl)) dX3_readAtom_81 ⟨Nat.le_of_ble_eq_true rfl, Nat.le_of_ble_eq_true rfl⟩) hS (fun q _ h => hFc q h) hFc (fun ra25 u t H1 locs ht hvm hwra25 hB hz1 hk1 hS => ?_)
          try rw [hwra25] at hB
          obtain ⟨pt0_ra25, hP1, hK1, hD1⟩ := hB
          rw [ht] at hP1
          obtain ⟨hP2, hD2⟩ := va_join (wr := (wd_6b0d8e05 h0 h1 h3 v0 h2 g0 f5 h3 g1 f6)) (w1 := (wd_09b0abee h1 h2 v1 x23 v3 x24)) hP hD [1] [0, 2, 3] rfl rfl (by decide) (by decide) hk1 hFc hP1 hD1
          clear hP hD hPc hDc hKc hFc hP1 hK1 hD1 hk1 hz1
          generalize H1 = H at hP2 hS ⊢
          have hP := hP2.sub (ws' := (wd_1ad0248d h0 h1 h3 v0 h1 h2 v1 x23 v3 x24 h2 g0 f5 h3 g1 f6)) [0, 3, 1, 2] rfl
          have hD := hD2.sub (ws' := (wd_1ad0248d h0 h1 h3 v0 h1 h2 v1 x23 v3 x24 h2 g0 f5 h3 g1 f6)) [0, 3, 1, 2] (by decide) rfl
          clear hP2 hD2
          obtain rfl : x24 = ra25 := pt0_ra25.symm
          have hPc := hP.sub (ws' := (wd_b958b9da h0 h1 h3 v0 h3 g1 f6)) [0, 3] rfl
          have hDc := hD.sub (ws' := (wd_b958b9da h0 h1 h3 v0 h3 g1 f6)) [0, 3] (by decide) rfl
          have hKc := hK.sub (tys' := [(g1, .int)]) [1] rfl
          have hFc := va_free (wc := (wd_b958b9da h0 h1 h3 v0 h3 g1 f6)) hD hS hA [0, 3] rfl
          refine va_callv (va_runV (As := [.int 0, .int x24]) (rest := []) ⟨hx, hb, hml, hown, hts⟩ (k_X3_write l dC dI h0 h3 h1 v0 g1 f6 0 x24 ⟨i_v0a, i_v0b⟩ H.size) (cwV 2 hts g_X3_readAtom_6_6 rfl rfl rfl (by decide +kernel) ⟨Nat.le_of_ble_eq_true rfl, Nat.le_of_ble_eq_true rfl⟩) (pv_PV3 hPc hKc hDc (q0 := 0) rfl) rfl rfl hl.1 rfl (lv_room (Nat.le_of_ble_eq_true rfl)) dX3_readAtom_84 ⟨Nat.le_of_ble_eq_true rfl, Nat.le_of_ble_eq_true rfl⟩) hS (fun q _ h => hFc q h) hFc (fun u t H1 locs ht hvm hwra26 hB hz1 hk1 hS => ?_)
          obtain ⟨x27, fn28, oa_x27, ob_x27, hP1, hK1, hD1⟩ := hB
          rw [ht] at hP1
          obtain ⟨hP2, hD2⟩ := va_join (wr := (wd_82cdd16b h1 h2 v1 x23 v3 x24 h2 g0 f5)) (w1 := (wd_b958b9da h0 h1 h3 x27 h3 g1 fn28)) hP hD [0, 3] [1, 2] rfl rfl (by decide) (by decide) hk1 hFc hP1 hD1
          clear hP hD hPc hDc hKc hFc hP1 hK1 hD1 hk1 hz1
          generalize H1 = H at hP2 hS ⊢
          have hP := hP2.sub (ws' := (wd_1ad0248d h0 h1 h3 x27 h1 h2 v1 x23 v3 x24 h2 g0 f5 h3 g1 fn28)) [2, 0, 1, 3] rfl
          have hD := hD2.sub (ws' := (wd_1ad0248d h0 h1 h3 x27 h1 h2 v1 x23 v3 x24 h2 g0 f5 h3 g1 fn28)) [2, 0, 1, 3] (by decide) rfl
          clear hP2 hD2
          refine lv_iconst (v := 1) hx hb dX3_readAtom_87 (by decide) ?_
          subst hQ
          have hP9 := hP.sub (ws' := (wd_1ad0248d h0 h1 h3 x27 h1 h2 v1 x23 v3 x24 h2 g0 f5 h3 g1 fn28)) [0, 1, 2, 3] rfl
          have hD9 := hD.sub (ws' := (wd_1ad0248d h0 h1 h3 x27 h1 h2 v1 x23 v3 x24 h2 g0 f5 h3 g1 fn28)) [0, 1, 2, 3] (by decide) rfl
          have hK9 := hK.sub (tys' := []) [] rfl
          exact W.zret (v := 1) hx hb hr rfl (fun t ht hW => ⟨⟨1, 1, rfl, rfl, Or.inl ⟨x27, x23, x24, fn28, oa_x27, ob_x27, oa_x23, ob_x23, by first | omega | decide, by first | omega | decide, by omega, by show pg_atomF f5 v1.toInt true (pg_sum f5 v1.toInt 5) _ = _; first | (apply pg_atomF.nmc <;> first | assumption | omega) | (apply pg_atomF.nmf <;> first | assumption | omega) | (apply pg_atomF.num <;> first | assumption | omega) | (apply pg_atomF.lt <;> first | assumption | omega) | (apply pg_atomF.par1 <;> first | assumption | omega) | (apply pg_atomF.par0 <;> first | assumption | omega) | (apply pg_atomF.deep <;> first | assumption | omega) | (apply pg_atomF.bdn <;> first | assumption | omega) | (apply pg_atomF.bad <;> first | assumption | omega), by rw [ht]; exact hP9, va_K.moved hW.alike hK9, hD9⟩⟩, hS.F ht⟩) hS.2.2 dX3_readAtom_88
        · skip
          obtain ⟨x29, x30, x31, oa_x29, ob_x29, oa_x30, ob_x30, pt0_ra22, pt1_ra22, pt2_ra22, pt3_ra22, hP1, hK1, hD1⟩ := hB
          rw [ht] at hP1
          obtain ⟨hP2, hD2⟩ := va_join (wr := (wd_b958b9da h0 h1 h3 v0 h3 g1 f6)) (w1 := (wd_82cdd16b h1 h2 v1 x29 x30 x31 h2 g0 f5)) hP hD [1, 2] [0, 3] rfl rfl (by decide) (by decide) hk1 hFc hP1 hD1
          clear hP hD hPc hDc hKc hFc hP1 hK1 hD1 hk1 hz1
          generalize H1 = H at hP2 hS ⊢
          have hP := hP2.sub (ws' := (wd_1ad0248d h0 h1 h3 v0 h1 h2 v1 x29 x30 x31 h2 g0 f5 h3 g1 f6)) [0, 2, 3, 1] rfl
          have hD := hD2.sub (ws' := (wd_1ad0248d h0 h1 h3 v0 h1 h2 v1 x29 x30 x31 h2 g0 f5 h3 g1 f6)) [0, 2, 3, 1] (by decide) rfl
          clear hP2 hD2
          obtain rfl : ra22 = (0 : Int32) := pv_cs (by decide) pt0_ra22 pt1_ra22
          refine lv_if_ne (tgt := 75) hx hb dX3_readAtom_70 (by decide) (fun c => absurd (by decide) c) (fun _ => ?_)
          refine lv_iconst (v := 0) hx hb dX3_readAtom_73 (by decide) ?_
          subst hQ
          have hP9 := hP.sub (ws' := (wd_1ad0248d h0 h1 h3 v0 h1 h2 v1 x29 x30 x31 h2 g0 f5 h3 g1 f6)) [0, 1, 2, 3] rfl
          have hD9 := hD.sub (ws' := (wd_1ad0248d h0 h1 h3 v0 h1 h2 v1 x29 x30 x31 h2 g0 f5 h3 g1 f6)) [0, 1, 2, 3] (by decide) rfl
          have hK9 := hK.sub (tys' := []) [] rfl
          exact W.zret (v := 0) hx hb hr rfl (fun t ht hW => ⟨⟨0, 0, rfl, rfl, Or.inr (⟨v0, x29, x30, x31, f6, i_v0a, i_v0b, oa_x29, ob_x29, oa_x30, ob_x30, by first | omega | decide, by first | omega | decide, by omega, by show pg_atomF f5 v1.toInt true (pg_sum f5 v1.toInt 5) _ = _; first | (apply pg_atomF.nmc <;> first | assumption | omega) | (apply pg_atomF.nmf <;> first | assumption | omega) | (apply pg_atomF.num <;> first | assumption | omega) | (apply pg_atomF.lt <;> first | assumption | omega) | (apply pg_atomF.par1 <;> first | assumption | omega) | (apply pg_atomF.par0 <;> first | assumption | omega) | (apply pg_atomF.deep <;> first | assumption | omega) | (apply pg_atomF.bdn <;> first | assumption | omega) | (apply pg_atomF.bad <;> first | assumption | omega), by rw [ht]; exact hP9, va_K.moved hW.alike hK9, hD9⟩)⟩, hS.F ht⟩) hS.2.2 dX3_readAtom_74
    · skip
      have fc8 : ra1.toInt = 91 := congrArg Int32.toInt c8
      refine lv_iload_n hx hb dX3_readAtom_14 rfl (lv_at hl 2 rfl) ?_
      refine lv_bipush (v := 6) hx hb dX3_readAtom_15 (by decide) ?_
      refine lv_icmp_ge (tgt := 55) hx hb dX3_readAtom_17 (by decide) (fun c => absurd c (by decide)) (fun _ => ?_)
      refine lv_aload_n hx hb dX3_readAtom_20 rfl (lv_at hl 1 rfl) ?_
      refine va_get (D := (dC, dI)) (ci := 3) (v := .ref h1) (C := RX3) (T := TX3) (N := 3) hx hb hts (fun _ h => List.mem_cons_of_mem _ (List.mem_append_left _ (List.mem_append_right _ h))) hown hK hP 0 rfl rfl 0 (by decide) (hts (.fieldLink RX3 19 "LeftArguments$LawReader" "tape" "LLeftArguments$Tape;") (List.mem_cons_of_mem _ (List.mem_append_left _ (List.mem_append_left _ (List.mem_of_getElem? (i := 0) rfl))))) (fun _ h9 => h9) rfl dX3_readAtom_21 ?_
      have hPc := hP.sub (ws' := (wd_09b0abee h1 h2 v1 x7 v3 v4)) [1] rfl
      have hDc := hD.sub (ws' := (wd_09b0abee h1 h2 v1 x7 v3 v4)) [1] (by decide) rfl
      have hKc := hK.sub (tys' := []) [] rfl
      have hFc := va_free (wc := (wd_09b0abee h1 h2 v1 x7 v3 v4)) hD hS hA [1] rfl
      refine va_callv (va_runV (As := []) (rest := []) ⟨hx, hb, hml, hown, hts⟩ (k_X10_step l dC dI h1 h2 v1 x7 v3 v4 ⟨i_v1a, i_v1b⟩ ⟨oa_x7, ob_x7⟩ H.size) (cwV 0 hts g_X3_readAtom_6_5 rfl rfl rfl (by decide +kernel) ⟨Nat.le_of_ble_eq_true rfl, Nat.le_of_ble_eq_true rfl⟩) (pv_PV10 hPc hKc hDc (q0 := 0) rfl) rfl rfl hl.1 rfl (lv_room (Nat.le_of_ble_eq_true rfl)) dX3_readAtom_24 ⟨Nat.le_of_ble_eq_true rfl, Nat.le_of_ble_eq_true rfl⟩) hS (fun q _ h => hFc q h) hFc (fun u t H1 locs ht hvm hwra32 hB hz1 hk1 hS => ?_)
      obtain ⟨x33, oa_x33, ob_x33, pt0_ra32, hP1, hK1, hD1⟩ := hB
      rw [ht] at hP1
      obtain ⟨hP2, hD2⟩ := va_join (wr := (wd_6b0d8e05 h0 h1 h3 v0 h2 g0 f5 h3 g1 f6)) (w1 := (wd_09b0abee h1 h2 v1 x33 v3 v4)) hP hD [1] [0, 2, 3] rfl rfl (by decide) (by decide) hk1 hFc hP1 hD1
      clear hP hD hPc hDc hKc hFc hP1 hK1 hD1 hk1 hz1
      generalize H1 = H at hP2 hS ⊢
      have hP := hP2.sub (ws' := (wd_1ad0248d h0 h1 h3 v0 h1 h2 v1 x33 v3 v4 h2 g0 f5 h3 g1 f6)) [0, 3, 1, 2] rfl
      have hD := hD2.sub (ws' := (wd_1ad0248d h0 h1 h3 v0 h1 h2 v1 x33 v3 v4 h2 g0 f5 h3 g1 f6)) [0, 3, 1, 2] (by decide) rfl
      clear hP2 hD2
      refine lv_aload_n hx hb dX3_readAtom_27 rfl (lv_at hl 1 rfl) ?_
      refine lv_iload_n hx hb dX3_readAtom_28 rfl (lv_at hl 2 rfl) ?_
      refine lv_iconst (v := 1) hx hb dX3_readAtom_29 (by decide) ?_
      refine lv_iadd hx hb dX3_readAtom_30 ?_
      refine lv_topi (fun tv34 etv34 => ?_)
      obtain rfl : tv34 = (1 : Int32) := etv34.trans (by first | rfl | decide)
      have hPc := hP.sub (ws' := (wd_1ad0248d h0 h1 h3 v0 h1 h2 v1 x33 v3 v4 h2 g0 f5 h3 g1 f6)) [0, 1, 2, 3] rfl
      have hDc := hD.sub (ws' := (wd_1ad0248d h0 h1 h3 v0 h1 h2 v1 x33 v3 v4 h2 g0 f5 h3 g1 f6)) [0, 1, 2, 3] (by decide) rfl
      have hKc := hK.sub (tys' := [(g0, .int), (g1, .int)]) [0, 1] rfl
      have hFc := va_free (wc := (wd_1ad0248d h0 h1 h3 v0 h1 h2 v1 x33 v3 v4 h2 g0 f5 h3 g1 f6)) hD hS hA [0, 1, 2, 3] rfl
      refine va_calli (va_runV (As := [.int 1]) (rest := []) ⟨hx, hb, hml, hown, hts⟩ (k_X3_readSum_5 l dC dI adK adV h0 h1 h2 h3 v0 v1 x33 v3 v4 g0 f5 g1 f6 ⟨i_v0a, i_v0b⟩ ⟨i_v1a, i_v1b⟩ ⟨by first | omega | decide, ob_x33⟩ ia_f5 H.size) (cwV 1 hts g_X3_readAtom_6_12 rfl rfl rfl (by decide +kernel) ⟨Nat.le_of_ble_eq_true rfl, Nat.le_of_ble_eq_true rfl⟩) ⟨fun a U g mk q => by obtain ⟨q0, q1, qP, qK, qD, n0, n1, n2⟩ := q; exact ⟨q0, q1, qP, va_K.moved (u := U) (U := U.calling g mk a) (Vm.Alike.refl U.vm) qK, qD, vk_R.same rfl n0, va_Z.moved (Vm.Alike.refl _) n1, vk_S.moved (Vm.Alike.refl _) n2⟩, pv_rc3 hKc hPc (q0 := 0) rfl, fun U hU hW => ⟨rfl, by rw [hU], by rw [hU]; exact hPc, va_K.moved hW.alike hKc, hDc.weaken (fun _ _ _ _ => trivial), vk_R.warm hW h_vr_2, (by rw [hU]; exact (va_Z.moved hW.alike (va_Z.kept h_st_CS hS.2.1)).narrow hFc), (by rw [hU]; exact (vk_S.moved hW.alike (vk_S.kept h_st_S hS.2.1)).narrow hFc)⟩⟩ rfl rfl hl.1 rfl (lv_room (Nat.le_of_ble_eq_true rfl)) dX3_readAtom_31 ⟨Nat.le_of_ble_eq_true rfl, Nat.le_of_ble_eq_true rfl⟩) hS (fun q _ h => hFc q h) hFc (fun ra35 u t H1 locs ht hvm hwra35 hB hz1 hk1 hS => ?_)
      try rw [hwra35] at hB
      rcases hB with hB | hB
      · skip
        obtain ⟨x36, x37, x38, fn39, oa_x36, ob_x36, oa_x37, ob_x37, pt0_ra35, pt1_ra35, pt2_ra35, pt3_ra35, hP1, hK1, hD1⟩ := hB
        rw [ht] at hP1
        obtain ⟨hP2, hD2⟩ := va_join (wr := []) (w1 := (wd_1ad0248d h0 h1 h3 x36 h1 h2 v1 x37 v3 x38 h2 g0 f5 h3 g1 fn39)) hP hD [0, 1, 2, 3] [] rfl rfl (by decide) (by decide) hk1 hFc hP1 hD1
        clear hP hD hPc hDc hKc hFc hP1 hK1 hD1 hk1 hz1
        generalize H1 = H at hP2 hS ⊢
        have hP : va_P (dC, dI) vwCl (wd_1ad0248d h0 h1 h3 x36 h1 h2 v1 x37 v3 x38 h2 g0 f5 h3 g1 fn39) H := hP2
        have hD : va_D A (wd_1ad0248d h0 h1 h3 x36 h1 h2 v1 x37 v3 x38 h2 g0 f5 h3 g1 fn39) := hD2
        clear hP2 hD2
        obtain rfl : ra35 = (1 : Int32) := pv_cs (by decide) pt0_ra35 pt1_ra35
        refine lv_if_eq (tgt := 53) hx hb dX3_readAtom_34 (by decide) (fun c => absurd c (by decide)) (fun _ => ?_)
        refine lv_aload_n hx hb dX3_readAtom_37 rfl (lv_at hl 1 rfl) ?_
        refine va_get (D := (dC, dI)) (ci := 3) (v := .ref h1) (C := RX3) (T := TX3) (N := 3) hx hb hts (fun _ h => List.mem_cons_of_mem _ (List.mem_append_left _ (List.mem_append_right _ h))) hown hK hP 0 rfl rfl 0 (by decide) (hts (.fieldLink RX3 19 "LeftArguments$LawReader" "tape" "LLeftArguments$Tape;") (List.mem_cons_of_mem _ (List.mem_append_left _ (List.mem_append_left _ (List.mem_of_getElem? (i := 0) rfl))))) (fun _ h9 => h9) rfl dX3_readAtom_38 ?_
        refine lv_bipush (v := 93) hx hb dX3_readAtom_41 (by decide) ?_
        have hPc := hP.sub (ws' := (wd_82cdd16b h1 h2 v1 x37 v3 x38 h2 g0 f5)) [1, 2] rfl
        have hDc := hD.sub (ws' := (wd_82cdd16b h1 h2 v1 x37 v3 x38 h2 g0 f5)) [1, 2] (by decide) rfl
        have hKc := hK.sub (tys' := [(g0, .int)]) [0] rfl
        have hFc := va_free (wc := (wd_82cdd16b h1 h2 v1 x37 v3 x38 h2 g0 f5)) hD hS hA [1, 2] rfl
        refine va_calli (va_runV (As := [.int 93]) (rest := []) ⟨hx, hb, hml, hown, hts⟩ (k_X10_take_2 l dC dI h1 h2 v1 x37 v3 x38 g0 f5 ⟨i_v1a, i_v1b⟩ ⟨oa_x37, ob_x37⟩ ia_f5 H.size) (cwV 1 hts g_X3_readAtom_6_13 rfl rfl rfl (by decide +kernel) ⟨Nat.le_of_ble_eq_true rfl, Nat.le_of_ble_eq_true rfl⟩) (pv_PV10 hPc hKc hDc (q0 := 0) rfl) rfl rfl hl.1 rfl (lv_room (Nat.le_of_ble_eq_true rfl)) dX3_readAtom_43 ⟨Nat.le_of_ble_eq_true rfl, Nat.le_of_ble_eq_true rfl⟩) hS (fun q _ h => hFc q h) hFc (fun ra40 u t H1 locs ht hvm hwra40 hB hz1 hk1 hS => ?_)
        try rw [hwra40] at hB
        rcases hB with hB | hB
        · skip
          obtain ⟨x41, oa_x41, ob_x41, pt0_ra40, pt1_ra40, pt2_ra40, pt3_ra40, hP1, hK1, hD1⟩ := hB
          rw [ht] at hP1
          obtain ⟨hP2, hD2⟩ := va_join (wr := (wd_b958b9da h0 h1 h3 x36 h3 g1 fn39)) (w1 := (wd_82cdd16b h1 h2 v1 x41 v3 x38 h2 g0 f5)) hP hD [1, 2] [0, 3] rfl rfl (by decide) (by decide) hk1 hFc hP1 hD1
          clear hP hD hPc hDc hKc hFc hP1 hK1 hD1 hk1 hz1
          generalize H1 = H at hP2 hS ⊢
          have hP := hP2.sub (ws' := (wd_1ad0248d h0 h1 h3 x36 h1 h2 v1 x41 v3 x38 h2 g0 f5 h3 g1 fn39)) [0, 2, 3, 1] rfl
          have hD := hD2.sub (ws' := (wd_1ad0248d h0 h1 h3 x36 h1 h2 v1 x41 v3 x38 h2 g0 f5 h3 g1 fn39)) [0, 2, 3, 1] (by decide) rfl
          clear hP2 hD2
          obtain rfl : ra40 = (1 : Int32) := pv_cs (by decide) pt0_ra40 pt1_ra40
          refine lv_if_eq (tgt := 53) hx hb dX3_readAtom_46 (by decide) (fun c => absurd c (by decide)) (fun _ => ?_)
          refine lv_iconst (v := 1) hx hb dX3_readAtom_49 (by decide) ?_
          refine lv_goto (tgt := 54) hx hb dX3_readAtom_50 (by decide) ?_
          subst hQ
          have hP9 := hP.sub (ws' := (wd_1ad0248d h0 h1 h3 x36 h1 h2 v1 x41 v3 x38 h2 g0 f5 h3 g1 fn39)) [0, 1, 2, 3] rfl
          have hD9 := hD.sub (ws' := (wd_1ad0248d h0 h1 h3 x36 h1 h2 v1 x41 v3 x38 h2 g0 f5 h3 g1 fn39)) [0, 1, 2, 3] (by decide) rfl
          have hK9 := hK.sub (tys' := []) [] rfl
          exact W.zret (v := 1) hx hb hr rfl (fun t ht hW => ⟨⟨1, 1, rfl, rfl, Or.inl ⟨x36, x41, x38, fn39, oa_x36, ob_x36, by first | omega | decide, ob_x41, by first | omega | decide, by first | omega | decide, by omega, by show pg_atomF f5 v1.toInt true (pg_sum f5 v1.toInt 5) _ = _; first | (apply pg_atomF.nmc <;> first | assumption | omega) | (apply pg_atomF.nmf <;> first | assumption | omega) | (apply pg_atomF.num <;> first | assumption | omega) | (apply pg_atomF.lt <;> first | assumption | omega) | (apply pg_atomF.par1 <;> first | assumption | omega) | (apply pg_atomF.par0 <;> first | assumption | omega) | (apply pg_atomF.deep <;> first | assumption | omega) | (apply pg_atomF.bdn <;> first | assumption | omega) | (apply pg_atomF.bad <;> first | assumption | omega), by rw [ht]; exact hP9, va_K.moved hW.alike hK9, hD9⟩⟩, hS.F ht⟩) hS.2.2 dX3_readAtom_54
        · skip
          obtain ⟨x42, x43, oa_x42, ob_x42, oa_x43, ob_x43, pt0_ra40, pt1_ra40, pt2_ra40, pt3_ra40, hP1, hK1, hD1⟩ := hB
          rw [ht] at hP1
          obtain ⟨hP2, hD2⟩ := va_join (wr := (wd_b958b9da h0 h1 h3 x36 h3 g1 fn39)) (w1 := (wd_82cdd16b h1 h2 v1 x42 x43 x38 h2 g0 f5)) hP hD [1, 2] [0, 3] rfl rfl (by decide) (by decide) hk1 hFc hP1 hD1
          clear hP hD hPc hDc hKc hFc hP1 hK1 hD1 hk1 hz1
          generalize H1 = H at hP2 hS ⊢
          have hP := hP2.sub (ws' := (wd_1ad0248d h0 h1 h3 x36 h1 h2 v1 x42 x43 x38 h2 g0 f5 h3 g1 fn39)) [0, 2, 3, 1] rfl
          have hD := hD2.sub (ws' := (wd_1ad0248d h0 h1 h3 x36 h1 h2 v1 x42 x43 x38 h2 g0 f5 h3 g1 fn39)) [0, 2, 3, 1] (by decide) rfl
          clear hP2 hD2
          obtain rfl : ra40 = (0 : Int32) := pv_cs (by decide) pt0_ra40 pt1_ra40
          refine lv_if_eq (tgt := 53) hx hb dX3_readAtom_46 (by decide) (fun _ => ?_) (fun c => absurd (by decide) c)
          refine lv_iconst (v := 0) hx hb dX3_readAtom_53 (by decide) ?_
          subst hQ
          have hP9 := hP.sub (ws' := (wd_1ad0248d h0 h1 h3 x36 h1 h2 v1 x42 x43 x38 h2 g0 f5 h3 g1 fn39)) [0, 1, 2, 3] rfl
          have hD9 := hD.sub (ws' := (wd_1ad0248d h0 h1 h3 x36 h1 h2 v1 x42 x43 x38 h2 g0 f5 h3 g1 fn39)) [0, 1, 2, 3] (by decide) rfl
          have hK9 := hK.sub (tys' := []) [] rfl
          exact W.zret (v := 0) hx hb hr rfl (fun t ht hW => ⟨⟨0, 0, rfl, rfl, Or.inr (⟨x36, x42, x43, x38, fn39, oa_x36, ob_x36, oa_x42, ob_x42, oa_x43, ob_x43, by first | omega | decide, by first | omega | decide, by omega, by show pg_atomF f5 v1.toInt true (pg_sum f5 v1.toInt 5) _ = _; first | (apply pg_atomF.nmc <;> first | assumption | omega) | (apply pg_atomF.nmf <;> first | assumption | omega) | (apply pg_atomF.num <;> first | assumption | omega) | (apply pg_atomF.lt <;> first | assumption | omega) | (apply pg_atomF.par1 <;> first | assumption | omega) | (apply pg_atomF.par0 <;> first | assumption | omega) | (apply pg_atomF.deep <;> first | assumption | omega) | (apply pg_atomF.bdn <;> first | assumption | omega) | (apply pg_atomF.bad <;> first | assumption | omega), by rw [ht]; exact hP9, va_K.moved hW.alike hK9, hD9⟩)⟩, hS.F ht⟩) hS.2.2 dX3_readAtom_54
      · skip
        obtain ⟨x44, x45, x46, x47, fn48, oa_x44, ob_x44, oa_x45, ob_x45, oa_x46, ob_x46, pt0_ra35, pt1_ra35, pt2_ra35, pt3_ra35, hP1, hK1, hD1⟩ := hB
        rw [ht] at hP1
        obtain ⟨hP2, hD2⟩ := va_join (wr := []) (w1 := (wd_1ad0248d h0 h1 h3 x44 h1 h2 v1 x45 x46 x47 h2 g0 f5 h3 g1 fn48)) hP hD [0, 1, 2, 3] [] rfl rfl (by decide) (by decide) hk1 hFc hP1 hD1
        clear hP hD hPc hDc hKc hFc hP1 hK1 hD1 hk1 hz1
        generalize H1 = H at hP2 hS ⊢
        have hP : va_P (dC, dI) vwCl (wd_1ad0248d h0 h1 h3 x44 h1 h2 v1 x45 x46 x47 h2 g0 f5 h3 g1 fn48) H := hP2
        have hD : va_D A (wd_1ad0248d h0 h1 h3 x44 h1 h2 v1 x45 x46 x47 h2 g0 f5 h3 g1 fn48) := hD2
        clear hP2 hD2
        obtain rfl : ra35 = (0 : Int32) := pv_cs (by decide) pt0_ra35 pt1_ra35
        refine lv_if_eq (tgt := 53) hx hb dX3_readAtom_34 (by decide) (fun _ => ?_) (fun c => absurd (by decide) c)
        refine lv_iconst (v := 0) hx hb dX3_readAtom_53 (by decide) ?_
        subst hQ
        have hP9 := hP.sub (ws' := (wd_1ad0248d h0 h1 h3 x44 h1 h2 v1 x45 x46 x47 h2 g0 f5 h3 g1 fn48)) [0, 1, 2, 3] rfl
        have hD9 := hD.sub (ws' := (wd_1ad0248d h0 h1 h3 x44 h1 h2 v1 x45 x46 x47 h2 g0 f5 h3 g1 fn48)) [0, 1, 2, 3] (by decide) rfl
        have hK9 := hK.sub (tys' := []) [] rfl
        exact W.zret (v := 0) hx hb hr rfl (fun t ht hW => ⟨⟨0, 0, rfl, rfl, Or.inr (⟨x44, x45, x46, x47, fn48, oa_x44, ob_x44, oa_x45, ob_x45, oa_x46, ob_x46, by first | omega | decide, by first | omega | decide, by omega, by show pg_atomF f5 v1.toInt true (pg_sum f5 v1.toInt 5) _ = _; first | (apply pg_atomF.nmc <;> first | assumption | omega) | (apply pg_atomF.nmf <;> first | assumption | omega) | (apply pg_atomF.num <;> first | assumption | omega) | (apply pg_atomF.lt <;> first | assumption | omega) | (apply pg_atomF.par1 <;> first | assumption | omega) | (apply pg_atomF.par0 <;> first | assumption | omega) | (apply pg_atomF.deep <;> first | assumption | omega) | (apply pg_atomF.bdn <;> first | assumption | omega) | (apply pg_atomF.bad <;> first | assumption | omega), by rw [ht]; exact hP9, va_K.moved hW.alike hK9, hD9⟩)⟩, hS.F ht⟩) hS.2.2 dX3_readAtom_54
def q_X3_readTerm_6 : List Cond := .code yX3_readTerm cX3_readTerm 4 (some .boolean) :: (([.code yX3_readAtom cX3_readAtom 4 (some .boolean), .fieldLink RX3 19 "LeftArguments$LawReader" "tape" "LLeftArguments$Tape;", .code yX10_next cX10_next 1 (some .int), .fieldLink RX10 19 "LeftArguments$Tape" "at" "I", .fieldLink RX10 15 "LeftArguments$Tape" "used" "I", .fieldLink RX10 9 "LeftArguments$Tape" "bytes" "[I", .initialized RX10, .instanceMethod yX10_next, .selects RX10 yX10_next yX10_next, .methodLink RX3 48 yX10_next, .code yX10_isDigit cX10_isDigit 1 (some .boolean), .static yX10_isDigit, .methodLink RX3 92 yX10_isDigit, .code yX10_wrongHere cX10_wrongHere 1 (some .boolean), .fieldLink RX10 22 "LeftArguments$Tape" "wrongAt" "I", .instanceMethod yX10_wrongHere, .selects RX10 yX10_wrongHere yX10_wrongHere, .methodLink RX3 83 yX10_wrongHere, .code yJ0_indexOf_0f7a4 cJ0_indexOf_0f7a4 2 (some .int), .code yJ0_indexOf_7cf53 cJ0_indexOf_7cf53 3 (some .int), .code yJ0_isLatin1_aae02 cJ0_isLatin1_aae02 1 (some .boolean), .fieldLink RJ0 38 "java/lang/String" "COMPACT_STRINGS" "Z", .fieldLink RJ0 15 "java/lang/String" "coder" "B", .initialized RJ0, .instanceMethod yJ0_isLatin1_aae02, .selects RJ0 yJ0_isLatin1_aae02 yJ0_isLatin1_aae02, .methodLink RJ0 492 yJ0_isLatin1_aae02, .fieldLink RJ0 9 "java/lang/String" "value" "[B", .code yJ0_length_8abf5 cJ0_length_8abf5 1 (some .int), .code yJ0_coder_7d493 cJ0_coder_7d493 1 (some .byte), .instanceMethod yJ0_coder_7d493, .selects RJ0 yJ0_coder_7d493 yJ0_coder_7d493, .methodLink RJ0 335 yJ0_coder_7d493, .instanceMethod yJ0_length_8abf5, .selects RJ0 yJ0_length_8abf5 yJ0_length_8abf5, .methodLink RJ0 505 yJ0_length_8abf5, .code yJ1_indexOf_4cfef cJ1_indexOf_4cfef 4 (some .int), .code yJ1_canEncode_9a6ad cJ1_canEncode_9a6ad 1 (some .boolean), .initialized RJ1, .static yJ1_canEncode_9a6ad, .methodLink RJ1 88 yJ1_canEncode_9a6ad, .methodLink RJ1 92 Lib.Math.max.name, .static Lib.Math.max.name, .initialized "java/lang/Math", .code Lib.Math.max.name Lib.Math.max.code 2 (some .int), .methodLink RJ1 38 Lib.Math.min.name, .static Lib.Math.min.name, .code Lib.Math.min.name Lib.Math.min.code 2 (some .int), .code yJ1_indexOfChar_4cfef cJ1_indexOfChar_4cfef 6 (some .int), .static yJ1_indexOfChar_4cfef, .methodLink RJ1 95 yJ1_indexOfChar_4cfef, .static yJ1_indexOf_4cfef, .methodLink RJ0 637 yJ1_indexOf_4cfef, .instanceMethod yJ0_indexOf_7cf53, .selects RJ0 yJ0_indexOf_7cf53 yJ0_indexOf_7cf53, .methodLink RJ0 633 yJ0_indexOf_7cf53, .instanceMethod yJ0_indexOf_0f7a4, .selects RJ0 yJ0_indexOf_0f7a4 yJ0_indexOf_0f7a4, .methodLink RX3 103 yJ0_indexOf_0f7a4, .code yX10_step cX10_step 1 none, .instanceMethod yX10_step, .selects RX10 yX10_step yX10_step, .methodLink RX3 77 yX10_step, .code yX3_write cX3_write 3 none, .fieldLink RX3 15 "LeftArguments$LawReader" "used" "I", .fieldLink RX3 11 "LeftArguments$LawReader" "code" "[I", .initialized RX3, .instanceMethod yX3_write, .selects RX3 yX3_write yX3_write, .methodLink RX3 66 yX3_write, .code yX10_takeNumber cX10_takeNumber 3 (some .boolean), .methodLink RX10 37 yX10_next, .methodLink RX10 45 yX10_isDigit, .methodLink RX10 41 yX10_wrongHere, .fieldLink RX10 25 "LeftArguments$Tape" "number" "I", .code yX10_sign cX10_sign 1 (some .int), .instanceMethod yX10_sign, .selects RX10 yX10_sign yX10_sign, .methodLink RX10 49 yX10_sign, .instanceMethod yX10_takeNumber, .selects RX10 yX10_takeNumber yX10_takeNumber, .methodLink RX3 95 yX10_takeNumber, .code yX10_number cX10_number 1 (some .int), .instanceMethod yX10_number, .selects RX10 yX10_number yX10_number, .methodLink RX3 98 yX10_number, .code yX3_readSum cX3_readSum 4 (some .boolean), .code yX3_readTerm cX3_readTerm 4 (some .boolean), .instanceMethod yX3_readAtom, .selects RX3 yX3_readAtom yX3_readAtom, .methodLink RX3 89 yX3_readAtom, .instanceMethod yX3_readTerm, .selects RX3 yX3_readTerm yX3_readTerm, .methodLink RX3 86 yX3_readTerm, .instanceMethod yX3_readSum, .selects RX3 yX3_readSum yX3_readSum, .methodLink RX3 59 yX3_readSum, .code yX10_take cX10_take 2 (some .boolean), .instanceMethod yX10_take, .selects RX10 yX10_take yX10_take, .methodLink RX3 51 yX10_take] : List Cond) ++ wsX30 ++ wsX100)
set_option maxRecDepth 20000 in
theorem g_X3_readTerm_6_0 : GoodIn q_X3_readTerm_6 (wsV RX3 89 RX3 yX3_readAtom q_X3_readAtom_6) := goodIn_app (goodIn_r _ [91, 89, 90, 67] rfl (by decide +kernel)) (goodIn_ca (goodIn_ca (goodIn_r (.code yX3_readAtom cX3_readAtom 4 (some .boolean) :: [.fieldLink RX3 19 "LeftArguments$LawReader" "tape" "LLeftArguments$Tape;", .code yX10_next cX10_next 1 (some .int), .fieldLink RX10 19 "LeftArguments$Tape" "at" "I", .fieldLink RX10 15 "LeftArguments$Tape" "used" "I", .fieldLink RX10 9 "LeftArguments$Tape" "bytes" "[I", .initialized RX10, .instanceMethod yX10_next, .selects RX10 yX10_next yX10_next, .methodLink RX3 48 yX10_next, .code yX10_isDigit cX10_isDigit 1 (some .boolean), .static yX10_isDigit, .methodLink RX3 92 yX10_isDigit, .code yX10_wrongHere cX10_wrongHere 1 (some .boolean), .fieldLink RX10 22 "LeftArguments$Tape" "wrongAt" "I", .instanceMethod yX10_wrongHere, .selects RX10 yX10_wrongHere yX10_wrongHere, .methodLink RX3 83 yX10_wrongHere, .code yJ0_indexOf_0f7a4 cJ0_indexOf_0f7a4 2 (some .int), .code yJ0_indexOf_7cf53 cJ0_indexOf_7cf53 3 (some .int), .code yJ0_isLatin1_aae02 cJ0_isLatin1_aae02 1 (some .boolean), .fieldLink RJ0 38 "java/lang/String" "COMPACT_STRINGS" "Z", .fieldLink RJ0 15 "java/lang/String" "coder" "B", .initialized RJ0, .instanceMethod yJ0_isLatin1_aae02, .selects RJ0 yJ0_isLatin1_aae02 yJ0_isLatin1_aae02, .methodLink RJ0 492 yJ0_isLatin1_aae02, .fieldLink RJ0 9 "java/lang/String" "value" "[B", .code yJ0_length_8abf5 cJ0_length_8abf5 1 (some .int), .code yJ0_coder_7d493 cJ0_coder_7d493 1 (some .byte), .instanceMethod yJ0_coder_7d493, .selects RJ0 yJ0_coder_7d493 yJ0_coder_7d493, .methodLink RJ0 335 yJ0_coder_7d493, .instanceMethod yJ0_length_8abf5, .selects RJ0 yJ0_length_8abf5 yJ0_length_8abf5, .methodLink RJ0 505 yJ0_length_8abf5, .code yJ1_indexOf_4cfef cJ1_indexOf_4cfef 4 (some .int), .code yJ1_canEncode_9a6ad cJ1_canEncode_9a6ad 1 (some .boolean), .initialized RJ1, .static yJ1_canEncode_9a6ad, .methodLink RJ1 88 yJ1_canEncode_9a6ad, .methodLink RJ1 92 Lib.Math.max.name, .static Lib.Math.max.name, .initialized "java/lang/Math", .code Lib.Math.max.name Lib.Math.max.code 2 (some .int), .methodLink RJ1 38 Lib.Math.min.name, .static Lib.Math.min.name, .code Lib.Math.min.name Lib.Math.min.code 2 (some .int), .code yJ1_indexOfChar_4cfef cJ1_indexOfChar_4cfef 6 (some .int), .static yJ1_indexOfChar_4cfef, .methodLink RJ1 95 yJ1_indexOfChar_4cfef, .static yJ1_indexOf_4cfef, .methodLink RJ0 637 yJ1_indexOf_4cfef, .instanceMethod yJ0_indexOf_7cf53, .selects RJ0 yJ0_indexOf_7cf53 yJ0_indexOf_7cf53, .methodLink RJ0 633 yJ0_indexOf_7cf53, .instanceMethod yJ0_indexOf_0f7a4, .selects RJ0 yJ0_indexOf_0f7a4 yJ0_indexOf_0f7a4, .methodLink RX3 103 yJ0_indexOf_0f7a4, .code yX10_step cX10_step 1 none, .instanceMethod yX10_step, .selects RX10 yX10_step yX10_step, .methodLink RX3 77 yX10_step, .code yX3_write cX3_write 3 none, .fieldLink RX3 15 "LeftArguments$LawReader" "used" "I", .fieldLink RX3 11 "LeftArguments$LawReader" "code" "[I", .initialized RX3, .instanceMethod yX3_write, .selects RX3 yX3_write yX3_write, .methodLink RX3 66 yX3_write, .code yX10_takeNumber cX10_takeNumber 3 (some .boolean), .methodLink RX10 37 yX10_next, .methodLink RX10 45 yX10_isDigit, .methodLink RX10 41 yX10_wrongHere, .fieldLink RX10 25 "LeftArguments$Tape" "number" "I", .code yX10_sign cX10_sign 1 (some .int), .instanceMethod yX10_sign, .selects RX10 yX10_sign yX10_sign, .methodLink RX10 49 yX10_sign, .instanceMethod yX10_takeNumber, .selects RX10 yX10_takeNumber yX10_takeNumber, .methodLink RX3 95 yX10_takeNumber, .code yX10_number cX10_number 1 (some .int), .instanceMethod yX10_number, .selects RX10 yX10_number yX10_number, .methodLink RX3 98 yX10_number, .code yX3_readSum cX3_readSum 4 (some .boolean), .code yX3_readTerm cX3_readTerm 4 (some .boolean), .code yX3_readAtom cX3_readAtom 4 (some .boolean), .instanceMethod yX3_readAtom, .selects RX3 yX3_readAtom yX3_readAtom, .methodLink RX3 89 yX3_readAtom, .instanceMethod yX3_readTerm, .selects RX3 yX3_readTerm yX3_readTerm, .methodLink RX3 86 yX3_readTerm, .instanceMethod yX3_readSum, .selects RX3 yX3_readSum yX3_readSum, .methodLink RX3 59 yX3_readSum, .code yX10_take cX10_take 2 (some .boolean), .instanceMethod yX10_take, .selects RX10 yX10_take yX10_take, .methodLink RX3 51 yX10_take]) [1, 2, 3, 4, 5, 6, 7, 8, 9, 10, 11, 12, 13, 14, 15, 16, 17, 18, 19, 20, 21, 22, 23, 24, 25, 26, 27, 28, 29, 30, 31, 32, 33, 34, 35, 36, 37, 38, 39, 40, 41, 42, 43, 44, 45, 46, 47, 48, 49, 50, 51, 52, 53, 54, 55, 56, 57, 58, 59, 60, 61, 62, 63, 64, 65, 66, 67, 68, 69, 70, 71, 72, 73, 74, 75, 76, 77, 78, 79, 80, 81, 82, 83, 84, 85, 86, 87, 88, 1, 89, 90, 91, 92, 93, 94, 95, 96, 97, 98, 99, 100, 101] rfl (by decide +kernel)) (goodIn_sub (fun _ h => List.mem_cons_of_mem _ (List.mem_append_left _ (List.mem_append_right _ h))) gwX3)) (goodIn_sub (fun _ h => List.mem_cons_of_mem _ (List.mem_append_right _ h)) gwX10))
set_option maxRecDepth 20000 in
theorem g_X3_readTerm_6_1 : GoodIn q_X3_readTerm_6 (wsV RX3 48 RX10 yX10_next q_X10_next) := goodIn_app (goodIn_r _ [10, 8, 9, 7] rfl (by decide +kernel)) (goodIn_ca (goodIn_r (.code yX10_next cX10_next 1 (some .int) :: [.fieldLink RX10 19 "LeftArguments$Tape" "at" "I", .fieldLink RX10 15 "LeftArguments$Tape" "used" "I", .fieldLink RX10 9 "LeftArguments$Tape" "bytes" "[I"]) [3, 4, 5, 6] rfl (by decide +kernel)) (goodIn_sub (fun _ h => List.mem_cons_of_mem _ (List.mem_append_right _ h)) gwX10))
set_option maxRecDepth 20000 in
theorem g_X3_readTerm_6_2 : GoodIn q_X3_readTerm_6 (wsV RX3 77 RX10 yX10_step q_X10_step) := goodIn_app (goodIn_r _ [63, 61, 62, 7] rfl (by decide +kernel)) (goodIn_ca (goodIn_r (.code yX10_step cX10_step 1 none :: [.fieldLink RX10 19 "LeftArguments$Tape" "at" "I"]) [60, 4] rfl (by decide +kernel)) (goodIn_sub (fun _ h => List.mem_cons_of_mem _ (List.mem_append_right _ h)) gwX10))
set_option maxRecDepth 20000 in
theorem g_X3_readTerm_6_4 : GoodIn q_X3_readTerm_6 (wsV RX3 66 RX3 yX3_write q_X3_write) := goodIn_app (goodIn_r _ [70, 68, 69, 67] rfl (by decide +kernel)) (goodIn_ca (goodIn_r (.code yX3_write cX3_write 3 none :: [.fieldLink RX3 15 "LeftArguments$LawReader" "used" "I", .fieldLink RX3 11 "LeftArguments$LawReader" "code" "[I"]) [64, 65, 66] rfl (by decide +kernel)) (goodIn_sub (fun _ h => List.mem_cons_of_mem _ (List.mem_append_left _ (List.mem_append_right _ h))) gwX3))
set_option maxHeartbeats 4000000 in
set_option maxRecDepth 100000 in
theorem k_X3_readTerm_6 (l : Launch) (dC : Nat → ClassId) (dI : Nat → Nat → Nat) (adK : Nat → Nat) (adV : Nat → Nat) (h0 : Nat) (h1 : Nat) (h2 : Nat) (h3 : Nat) (v0 : Int32) (v1 : Int32) (v2 : Int32) (v3 : Int32) (v4 : Int32) (g0 : ClassId) (f5 : Nat → Int32) (g1 : ClassId) (f6 : Nat → Int32) (i_v0 : 0 ≤ v0.toInt ∧ v0.toInt ≤ 256) (i_v1 : 0 ≤ v1.toInt ∧ v1.toInt ≤ 240) (i_v2 : 0 ≤ v2.toInt ∧ v2.toInt ≤ 240) (ia_f5 : (∀ j, 0 ≤ (f5 j).toInt ∧ (f5 j).toInt ≤ 255)) (sz : Nat) : Met l yX3_readTerm q_X3_readTerm_6 ({ frames := 23, cells := 0, slots := 0, locals := 528 }) (va_Pc [.ref h0, .int 0] (fun U => U.heap.size = sz ∧ va_P (dC, dI) vwCl (wd_1ad0248d h0 h1 h3 v0 h1 h2 v1 v2 v3 v4 h2 g0 f5 h3 g1 f6) U.heap ∧ va_K (dC, dI) vwCl [(g0, .int), (g1, .int)] U ∧ va_D (fun _ => True) (wd_1ad0248d h0 h1 h3 v0 h1 h2 v1 v2 v3 v4 h2 g0 f5 h3 g1 f6) ∧ vk_R RX3 101 "zaondt" (adK 2) U ∧ va_Z "java/lang/String" "COMPACT_STRINGS" "Z" (.int 1) (va_A (wd_1ad0248d h0 h1 h3 v0 h1 h2 v1 v2 v3 v4 h2 g0 f5 h3 g1 f6) sz) U U.heap ∧ vk_S 3 pv_len3 pv_byt3 adK adV (va_A (wd_1ad0248d h0 h1 h3 v0 h1 h2 v1 v2 v3 v4 h2 g0 f5 h3 g1 f6) sz) U U.heap)) (va_Qi (fun (r : Int32) (r9 : Int32) => r9 = r) (fun (r : Int32) (t : State) => (∃ (o_h0_2 : Int32) (o_h1_2 : Int32) (o_h1_4 : Int32) (o_h3 : Nat → Int32), 0 ≤ o_h0_2.toInt ∧ o_h0_2.toInt ≤ 256 ∧ 0 ≤ o_h1_2.toInt ∧ o_h1_2.toInt ≤ 240 ∧ (1 ≤ r.toInt) ∧ (r.toInt ≤ 1) ∧ (v2.toInt ≤ o_h1_2.toInt) ∧ (pg_term f5 v1.toInt 6 v2.toInt = (true, o_h1_2.toInt)) ∧ va_P (dC, dI) vwCl (wd_1ad0248d h0 h1 h3 o_h0_2 h1 h2 v1 o_h1_2 v3 o_h1_4 h2 g0 f5 h3 g1 o_h3) t.heap ∧ va_K (dC, dI) vwCl [] t ∧ va_D (va_A (wd_1ad0248d h0 h1 h3 v0 h1 h2 v1 v2 v3 v4 h2 g0 f5 h3 g1 f6) sz) (wd_1ad0248d h0 h1 h3 o_h0_2 h1 h2 v1 o_h1_2 v3 o_h1_4 h2 g0 f5 h3 g1 o_h3)) ∨ (∃ (o_h0_2 : Int32) (o_h1_2 : Int32) (o_h1_3 : Int32) (o_h1_4 : Int32) (o_h3 : Nat → Int32), 0 ≤ o_h0_2.toInt ∧ o_h0_2.toInt ≤ 256 ∧ 0 ≤ o_h1_2.toInt ∧ o_h1_2.toInt ≤ 240 ∧ 0 ≤ o_h1_3.toInt ∧ o_h1_3.toInt ≤ 240 ∧ (0 ≤ r.toInt) ∧ (r.toInt ≤ 0) ∧ (v2.toInt ≤ o_h1_2.toInt) ∧ (pg_term f5 v1.toInt 6 v2.toInt = (false, o_h1_3.toInt)) ∧ va_P (dC, dI) vwCl (wd_1ad0248d h0 h1 h3 o_h0_2 h1 h2 v1 o_h1_2 o_h1_3 o_h1_4 h2 g0 f5 h3 g1 o_h3) t.heap ∧ va_K (dC, dI) vwCl [] t ∧ va_D (va_A (wd_1ad0248d h0 h1 h3 v0 h1 h2 v1 v2 v3 v4 h2 g0 f5 h3 g1 f6) sz) (wd_1ad0248d h0 h1 h3 o_h0_2 h1 h2 v1 o_h1_2 o_h1_3 o_h1_4 h2 g0 f5 h3 g1 o_h3))) (va_A (wd_1ad0248d h0 h1 h3 v0 h1 h2 v1 v2 v3 v4 h2 g0 f5 h3 g1 f6) sz)) 0 0 (va_A (wd_1ad0248d h0 h1 h3 v0 h1 h2 v1 v2 v3 v4 h2 g0 f5 h3 g1 f6) sz) := by
  refine Met.ofW (cc := cX3_readTerm) (maxL := 4) (ret := (some .boolean)) (by decide) rfl ?_
  intro p e s m args below meth c s₁ B hml hv
  obtain ⟨i_v0a, i_v0b⟩ := i_v0
  obtain ⟨i_v1a, i_v1b⟩ := i_v1
  obtain ⟨i_v2a, i_v2b⟩ := i_v2
  obtain ⟨rfl, hsz, hP, hK, hD0, h_vr_2, h_st_CS, h_st_S⟩ := hv
  have hx := B.exec
  have hb := B.bytes
  have hr := B.returns
  have hts := atoms_spec (ws := q_X3_readTerm_6) B.pre
  have hown : s.vm.findClass RX3 = some m.cls := findClass_of_methodNamed B.named
  have hlocks := B.notSynchronized
  subst hsz
  have hD := hD0.self (sz := s.heap.size)
  generalize hAe : va_A (wd_1ad0248d h0 h1 h3 v0 h1 h2 v1 v2 v3 v4 h2 g0 f5 h3 g1 f6) s.heap.size = A at hD h_st_CS h_st_S ⊢
  have hA : ∀ q : Nat, s.heap.size ≤ q → A q := fun q h => by rw [← hAe]; exact Or.inr h
  have hS : va_S A s.heap s.heap [] := va_S.rf
  generalize hQ : (MQ below _ _ s 0 0 A) = Q
  have hl := lv_entry ([.ref h0, .int 0]) (n := 4) (Nat.le_of_ble_eq_true rfl)
  rw [lg_entry_eq]
  generalize (lg_sl ([.ref h0, .int 0]) ++ List.replicate (4 - (lg_sl ([.ref h0, .int 0])).length) Slot.unset).toArray = ls at hl ⊢
  have hl : lv_has ls 4 [(0, .ref h0), (1, .int 0)] := hl
  obtain ⟨H, hH⟩ : ∃ H : Heap, H = s.heap := ⟨_, rfl⟩
  obtain ⟨locs, hlocs⟩ : ∃ y : List Loc, y = [] := ⟨_, rfl⟩
  have hS : va_S A s.heap H locs := by rw [hH, hlocs]; exact va_S.rf
  have hP : va_P (dC, dI) vwCl (wd_1ad0248d h0 h1 h3 v0 h1 h2 v1 v2 v3 v4 h2 g0 f5 h3 g1 f6) H := by rw [hH]; exact hP
  rw [← hH, ← hlocs]
  refine lv_aload_n hx hb dX3_readTerm_0 rfl (lv_at hl 0 rfl) ?_
  refine lv_iload_n hx hb dX3_readTerm_1 rfl (lv_at hl 1 rfl) ?_
  have hPc := hP.sub (ws' := (wd_1ad0248d h0 h1 h3 v0 h1 h2 v1 v2 v3 v4 h2 g0 f5 h3 g1 f6)) [0, 1, 2, 3] rfl
  have hDc := hD.sub (ws' := (wd_1ad0248d h0 h1 h3 v0 h1 h2 v1 v2 v3 v4 h2 g0 f5 h3 g1 f6)) [0, 1, 2, 3] (by decide) rfl
  have hKc := hK.sub (tys' := [(g0, .int), (g1, .int)]) [0, 1] rfl
  have hFc := va_free (wc := (wd_1ad0248d h0 h1 h3 v0 h1 h2 v1 v2 v3 v4 h2 g0 f5 h3 g1 f6)) hD hS hA [0, 1, 2, 3] rfl
  refine va_calli (va_runV (As := [.int 0]) (rest := []) ⟨hx, hb, hml, hown, hts⟩ (k_X3_readAtom_6 l dC dI adK adV h0 h1 h2 h3 v0 v1 v2 v3 v4 g0 f5 g1 f6 ⟨i_v0a, i_v0b⟩ ⟨i_v1a, i_v1b⟩ ⟨i_v2a, i_v2b⟩ ia_f5 H.size) (cwV 1 hts g_X3_readTerm_6_0 rfl rfl rfl (by decide +kernel) ⟨Nat.le_of_ble_eq_true rfl, Nat.le_of_ble_eq_true rfl⟩) ⟨fun a U g mk q => by obtain ⟨q0, q1, qP, qK, qD, n0, n1, n2⟩ := q; exact ⟨q0, q1, qP, va_K.moved (u := U) (U := U.calling g mk a) (Vm.Alike.refl U.vm) qK, qD, vk_R.same rfl n0, va_Z.moved (Vm.Alike.refl _) n1, vk_S.moved (Vm.Alike.refl _) n2⟩, pv_rc3 hKc hPc (q0 := 0) rfl, fun U hU hW => ⟨rfl, by rw [hU], by rw [hU]; exact hPc, va_K.moved hW.alike hKc, hDc.weaken (fun _ _ _ _ => trivial), vk_R.warm hW h_vr_2, (by rw [hU]; exact (va_Z.moved hW.alike (va_Z.kept h_st_CS hS.2.1)).narrow hFc), (by rw [hU]; exact (vk_S.moved hW.alike (vk_S.kept h_st_S hS.2.1)).narrow hFc)⟩⟩ rfl rfl hl.1 rfl (lv_room (Nat.le_of_ble_eq_true rfl)) dX3_readTerm_2 ⟨Nat.le_of_ble_eq_true rfl, Nat.le_of_ble_eq_true rfl⟩) hS (fun q _ h => hFc q h) hFc (fun ra1 u t H1 locs ht hvm hwra1 hB hz1 hk1 hS => ?_)
  try rw [hwra1] at hB
  rcases hB with hB | hB
  · skip
    obtain ⟨x2, x3, x4, fn5, oa_x2, ob_x2, oa_x3, ob_x3, pt0_ra1, pt1_ra1, pt2_ra1, pt3_ra1, hP1, hK1, hD1⟩ := hB
    rw [ht] at hP1
    obtain ⟨hP2, hD2⟩ := va_join (wr := []) (w1 := (wd_1ad0248d h0 h1 h3 x2 h1 h2 v1 x3 v3 x4 h2 g0 f5 h3 g1 fn5)) hP hD [0, 1, 2, 3] [] rfl rfl (by decide) (by decide) hk1 hFc hP1 hD1
    clear hP hD hPc hDc hKc hFc hP1 hK1 hD1 hk1 hz1
    generalize H1 = H at hP2 hS ⊢
    have hP : va_P (dC, dI) vwCl (wd_1ad0248d h0 h1 h3 x2 h1 h2 v1 x3 v3 x4 h2 g0 f5 h3 g1 fn5) H := hP2
    have hD : va_D A (wd_1ad0248d h0 h1 h3 x2 h1 h2 v1 x3 v3 x4 h2 g0 f5 h3 g1 fn5) := hD2
    clear hP2 hD2
    obtain rfl : ra1 = (1 : Int32) := pv_cs (by decide) pt0_ra1 pt1_ra1
    refine lv_if_ne (tgt := 10) hx hb dX3_readTerm_5 (by decide) (fun _ => ?_) (fun c => absurd c (by decide))
    refine lv_iconst (v := 0) hx hb dX3_readTerm_10 (by decide) ?_
    refine lv_istore_n (lv' := [(2, .int 0), (0, .ref h0), (1, .int 0)]) hx hb dX3_readTerm_11 rfl hl (by decide) rfl (fun ls hl => ?_)
    have hL101 : ∀ (n9 : Nat), ∀ (x91 : Int32) (x92 : Int32) (x93 : Int32) (x94 : Int32) (fn95 : Nat → Int32) (H : Heap) (locs : List Loc) (ls : Array Slot), 0 ≤ x91.toInt → x91.toInt ≤ 240 → 0 ≤ x92.toInt → x92.toInt ≤ 256 → 0 ≤ x93.toInt → x93.toInt ≤ 240 → (pg_L f5 v1.toInt 42 47 (pg_atom f5 v1.toInt 6) x93.toInt (pg_term f5 v1.toInt 6 v2.toInt)) → (x91.toInt ≤ x93.toInt) → (v2.toInt ≤ x93.toInt) → (240 - x91.toInt).toNat < n9 → va_P (dC, dI) vwCl (wd_1ad0248d h0 h1 h3 x92 h1 h2 v1 x93 v3 x94 h2 g0 f5 h3 g1 fn95) H → va_D A (wd_1ad0248d h0 h1 h3 x92 h1 h2 v1 x93 v3 x94 h2 g0 f5 h3 g1 fn95) → va_S A s.heap H locs → lv_has ls 4 [(2, .int x91), (0, .ref h0), (1, .int 0)] → W p l e ({ frames := 23, cells := 0, slots := 0, locals := 528 }) s m ([.ref h0, .int 0] : List Value).toArray below meth c H locs 0 0 Q (F0 m 12 ls []) := by
      intro n9
      induction n9 with
      | zero => intro x91 x92 x93 x94 fn95 H locs ls qa_x91 qb_x91 qa_x92 qb_x92 qa_x93 qb_x93 gh0_hL101 gh1_hL101 gh2_hL101 hm9 hP hD hS hl; exact absurd hm9 (Nat.not_lt_zero _)
      | succ n9 ih_hL101 =>
        intro x91 x92 x93 x94 fn95 H locs ls qa_x91 qb_x91 qa_x92 qb_x92 qa_x93 qb_x93 gh0_hL101 gh1_hL101 gh2_hL101 hm9 hP hD hS hl
        refine lv_iload_n hx hb dX3_readTerm_12 rfl (lv_at hl 0 rfl) ?_
        refine lv_sipush (v := 240) hx hb dX3_readTerm_13 (by decide) ?_
        refine lv_icmp_ge (tgt := 80) hx hb dX3_readTerm_16 (by decide) (fun c102 => ?_) (fun c102 => ?_)
        · skip
          have fc102 : 240 ≤ x91.toInt := Int32.le_iff_toInt_le.mp c102
          refine lv_iconst (v := 1) hx hb dX3_readTerm_80 (by decide) ?_
          subst hQ
          have hP9 := hP.sub (ws' := (wd_1ad0248d h0 h1 h3 x92 h1 h2 v1 x93 v3 x94 h2 g0 f5 h3 g1 fn95)) [0, 1, 2, 3] rfl
          have hD9 := hD.sub (ws' := (wd_1ad0248d h0 h1 h3 x92 h1 h2 v1 x93 v3 x94 h2 g0 f5 h3 g1 fn95)) [0, 1, 2, 3] (by decide) rfl
          have hK9 := hK.sub (tys' := []) [] rfl
          exact W.zret (v := 1) hx hb hr rfl (fun t ht hW => ⟨⟨1, 1, rfl, rfl, Or.inl ⟨x92, x93, x94, fn95, qa_x92, qb_x92, qa_x93, qb_x93, by first | omega | decide, by first | omega | decide, by omega, by first | assumption | (apply pg_L.stop <;> first | assumption | omega) | exact pg_L.stop (by assumption) (pg_s.here (by rw [pg_ch.off (by omega)]; decide)) (by rw [pg_ch.off (by omega)]; decide), by rw [ht]; exact hP9, va_K.moved hW.alike hK9, hD9⟩⟩, hS.F ht⟩) hS.2.2 dX3_readTerm_81
        · skip
          have fc102 : ¬ (240 ≤ x91.toInt) := fun h9 => c102 (Int32.le_iff_toInt_le.mpr h9)
          refine lv_aload_n hx hb dX3_readTerm_19 rfl (lv_at hl 1 rfl) ?_
          refine va_get (D := (dC, dI)) (ci := 3) (v := .ref h1) (C := RX3) (T := TX3) (N := 3) hx hb hts (fun _ h => List.mem_cons_of_mem _ (List.mem_append_left _ (List.mem_append_right _ h))) hown hK hP 0 rfl rfl 0 (by decide) (hts (.fieldLink RX3 19 "LeftArguments$LawReader" "tape" "LLeftArguments$Tape;") (List.mem_cons_of_mem _ (List.mem_append_left _ (List.mem_append_left _ (List.mem_of_getElem? (i := 1) rfl))))) (fun _ h9 => h9) rfl dX3_readTerm_20 ?_
          have hPc := hP.sub (ws' := (wd_82cdd16b h1 h2 v1 x93 v3 x94 h2 g0 f5)) [1, 2] rfl
          have hDc := hD.sub (ws' := (wd_82cdd16b h1 h2 v1 x93 v3 x94 h2 g0 f5)) [1, 2] (by decide) rfl
          have hKc := hK.sub (tys' := [(g0, .int)]) [0] rfl
          have hFc := va_free (wc := (wd_82cdd16b h1 h2 v1 x93 v3 x94 h2 g0 f5)) hD hS hA [1, 2] rfl
          refine va_calli (va_runV (As := []) (rest := []) ⟨hx, hb, hml, hown, hts⟩ (k_X10_next l dC dI h1 h2 v1 x93 v3 x94 g0 f5 ⟨i_v1a, i_v1b⟩ ⟨qa_x93, qb_x93⟩ ia_f5 H.size) (cwV 0 hts g_X3_readTerm_6_1 rfl rfl rfl (by decide +kernel) ⟨Nat.le_of_ble_eq_true rfl, Nat.le_of_ble_eq_true rfl⟩) (pv_PV10 hPc hKc hDc (q0 := 0) rfl) rfl rfl hl.1 rfl (lv_room (Nat.le_of_ble_eq_true rfl)) dX3_readTerm_23 ⟨Nat.le_of_ble_eq_true rfl, Nat.le_of_ble_eq_true rfl⟩) hS (fun q _ h => hFc q h) hFc (fun ra103 u t H1 locs ht hvm hwra103 hB hz1 hk1 hS => ?_)
          try rw [hwra103] at hB
          rcases hB with hB | hB
          · skip
            obtain ⟨x104, oa_x104, ob_x104, pt0_ra103, pt1_ra103, pt2_ra103, pt3_ra103, pt4_ra103, pt5_ra103, pt6_ra103, hP1, hK1, hD1⟩ := hB
            rw [ht] at hP1
            obtain ⟨hP2, hD2⟩ := va_join (wr := (wd_b958b9da h0 h1 h3 x92 h3 g1 fn95)) (w1 := (wd_82cdd16b h1 h2 v1 x104 v3 x94 h2 g0 f5)) hP hD [1, 2] [0, 3] rfl rfl (by decide) (by decide) hk1 hFc hP1 hD1
            clear hP hD hPc hDc hKc hFc hP1 hK1 hD1 hk1 hz1
            generalize H1 = H at hP2 hS ⊢
            have hP := hP2.sub (ws' := (wd_1ad0248d h0 h1 h3 x92 h1 h2 v1 x104 v3 x94 h2 g0 f5 h3 g1 fn95)) [0, 2, 3, 1] rfl
            have hD := hD2.sub (ws' := (wd_1ad0248d h0 h1 h3 x92 h1 h2 v1 x104 v3 x94 h2 g0 f5 h3 g1 fn95)) [0, 2, 3, 1] (by decide) rfl
            clear hP2 hD2
            obtain rfl : ra103 = ((-1) : Int32) := pv_cs (by decide) pt0_ra103 pt1_ra103
            refine lv_istore_n (lv' := [(3, .int (-1)), (2, .int x91), (0, .ref h0), (1, .int 0)]) hx hb dX3_readTerm_26 rfl hl (by decide) rfl (fun ls hl => ?_)
            refine lv_iload_n hx hb dX3_readTerm_27 rfl (lv_at hl 0 rfl) ?_
            refine lv_bipush (v := 42) hx hb dX3_readTerm_28 (by decide) ?_
            refine lv_icmp_eq (tgt := 41) hx hb dX3_readTerm_30 (by decide) (fun c => absurd c (by decide)) (fun _ => ?_)
            refine lv_iload_n hx hb dX3_readTerm_33 rfl (lv_at hl 0 rfl) ?_
            refine lv_bipush (v := 47) hx hb dX3_readTerm_34 (by decide) ?_
            refine lv_icmp_eq (tgt := 41) hx hb dX3_readTerm_36 (by decide) (fun c => absurd c (by decide)) (fun _ => ?_)
            refine lv_iconst (v := 1) hx hb dX3_readTerm_39 (by decide) ?_
            subst hQ
            have hP9 := hP.sub (ws' := (wd_1ad0248d h0 h1 h3 x92 h1 h2 v1 x104 v3 x94 h2 g0 f5 h3 g1 fn95)) [0, 1, 2, 3] rfl
            have hD9 := hD.sub (ws' := (wd_1ad0248d h0 h1 h3 x92 h1 h2 v1 x104 v3 x94 h2 g0 f5 h3 g1 fn95)) [0, 1, 2, 3] (by decide) rfl
            have hK9 := hK.sub (tys' := []) [] rfl
            exact W.zret (v := 1) hx hb hr rfl (fun t ht hW => ⟨⟨1, 1, rfl, rfl, Or.inl ⟨x92, x104, x94, fn95, qa_x92, qb_x92, oa_x104, ob_x104, by first | omega | decide, by first | omega | decide, by omega, by first | assumption | (apply pg_L.stop <;> first | assumption | omega) | exact pg_L.stop (by assumption) (pg_s.here (by rw [pg_ch.off (by omega)]; decide)) (by rw [pg_ch.off (by omega)]; decide), by rw [ht]; exact hP9, va_K.moved hW.alike hK9, hD9⟩⟩, hS.F ht⟩) hS.2.2 dX3_readTerm_40
          · skip
            obtain ⟨x105, oa_x105, ob_x105, pt0_ra103, pt1_ra103, pt2_ra103, pt3_ra103, pt4_ra103, pt5_ra103, pt6_ra103, hP1, hK1, hD1⟩ := hB
            rw [ht] at hP1
            obtain ⟨hP2, hD2⟩ := va_join (wr := (wd_b958b9da h0 h1 h3 x92 h3 g1 fn95)) (w1 := (wd_82cdd16b h1 h2 v1 x105 v3 x94 h2 g0 f5)) hP hD [1, 2] [0, 3] rfl rfl (by decide) (by decide) hk1 hFc hP1 hD1
            clear hP hD hPc hDc hKc hFc hP1 hK1 hD1 hk1 hz1
            generalize H1 = H at hP2 hS ⊢
            have hP := hP2.sub (ws' := (wd_1ad0248d h0 h1 h3 x92 h1 h2 v1 x105 v3 x94 h2 g0 f5 h3 g1 fn95)) [0, 2, 3, 1] rfl
            have hD := hD2.sub (ws' := (wd_1ad0248d h0 h1 h3 x92 h1 h2 v1 x105 v3 x94 h2 g0 f5 h3 g1 fn95)) [0, 2, 3, 1] (by decide) rfl
            clear hP2 hD2
            refine lv_istore_n (lv' := [(3, .int ra103), (2, .int x91), (0, .ref h0), (1, .int 0)]) hx hb dX3_readTerm_26 rfl hl (by decide) rfl (fun ls hl => ?_)
            refine lv_iload_n hx hb dX3_readTerm_27 rfl (lv_at hl 0 rfl) ?_
            refine lv_bipush (v := 42) hx hb dX3_readTerm_28 (by decide) ?_
            refine lv_icmp_eq (tgt := 41) hx hb dX3_readTerm_30 (by decide) (fun c106 => ?_) (fun c106 => ?_)
            · skip
              have fc106 : ra103.toInt = 42 := congrArg Int32.toInt c106
              refine lv_aload_n hx hb dX3_readTerm_41 rfl (lv_at hl 2 rfl) ?_
              refine va_get (D := (dC, dI)) (ci := 3) (v := .ref h1) (C := RX3) (T := TX3) (N := 3) hx hb hts (fun _ h => List.mem_cons_of_mem _ (List.mem_append_left _ (List.mem_append_right _ h))) hown hK hP 0 rfl rfl 0 (by decide) (hts (.fieldLink RX3 19 "LeftArguments$LawReader" "tape" "LLeftArguments$Tape;") (List.mem_cons_of_mem _ (List.mem_append_left _ (List.mem_append_left _ (List.mem_of_getElem? (i := 1) rfl))))) (fun _ h9 => h9) rfl dX3_readTerm_42 ?_
              have hPc := hP.sub (ws' := (wd_09b0abee h1 h2 v1 x105 v3 x94)) [1] rfl
              have hDc := hD.sub (ws' := (wd_09b0abee h1 h2 v1 x105 v3 x94)) [1] (by decide) rfl
              have hKc := hK.sub (tys' := []) [] rfl
              have hFc := va_free (wc := (wd_09b0abee h1 h2 v1 x105 v3 x94)) hD hS hA [1] rfl
              refine va_callv (va_runV (As := []) (rest := []) ⟨hx, hb, hml, hown, hts⟩ (k_X10_step l dC dI h1 h2 v1 x105 v3 x94 ⟨i_v1a, i_v1b⟩ ⟨oa_x105, ob_x105⟩ H.size) (cwV 0 hts g_X3_readTerm_6_2 rfl rfl rfl (by decide +kernel) ⟨Nat.le_of_ble_eq_true rfl, Nat.le_of_ble_eq_true rfl⟩) (pv_PV10 hPc hKc hDc (q0 := 0) rfl) rfl rfl hl.1 rfl (lv_room (Nat.le_of_ble_eq_true rfl)) dX3_readTerm_45 ⟨Nat.le_of_ble_eq_true rfl, Nat.le_of_ble_eq_true rfl⟩) hS (fun q _ h => hFc q h) hFc (fun u t H1 locs ht hvm hwra107 hB hz1 hk1 hS => ?_)
              obtain ⟨x108, oa_x108, ob_x108, pt0_ra107, hP1, hK1, hD1⟩ := hB
              rw [ht] at hP1
              obtain ⟨hP2, hD2⟩ := va_join (wr := (wd_6b0d8e05 h0 h1 h3 x92 h2 g0 f5 h3 g1 fn95)) (w1 := (wd_09b0abee h1 h2 v1 x108 v3 x94)) hP hD [1] [0, 2, 3] rfl rfl (by decide) (by decide) hk1 hFc hP1 hD1
              clear hP hD hPc hDc hKc hFc hP1 hK1 hD1 hk1 hz1
              generalize H1 = H at hP2 hS ⊢
              have hP := hP2.sub (ws' := (wd_1ad0248d h0 h1 h3 x92 h1 h2 v1 x108 v3 x94 h2 g0 f5 h3 g1 fn95)) [0, 3, 1, 2] rfl
              have hD := hD2.sub (ws' := (wd_1ad0248d h0 h1 h3 x92 h1 h2 v1 x108 v3 x94 h2 g0 f5 h3 g1 fn95)) [0, 3, 1, 2] (by decide) rfl
              clear hP2 hD2
              refine lv_aload_n hx hb dX3_readTerm_48 rfl (lv_at hl 2 rfl) ?_
              refine lv_iload_n hx hb dX3_readTerm_49 rfl (lv_at hl 3 rfl) ?_
              have hPc := hP.sub (ws' := (wd_1ad0248d h0 h1 h3 x92 h1 h2 v1 x108 v3 x94 h2 g0 f5 h3 g1 fn95)) [0, 1, 2, 3] rfl
              have hDc := hD.sub (ws' := (wd_1ad0248d h0 h1 h3 x92 h1 h2 v1 x108 v3 x94 h2 g0 f5 h3 g1 fn95)) [0, 1, 2, 3] (by decide) rfl
              have hKc := hK.sub (tys' := [(g0, .int), (g1, .int)]) [0, 1] rfl
              have hFc := va_free (wc := (wd_1ad0248d h0 h1 h3 x92 h1 h2 v1 x108 v3 x94 h2 g0 f5 h3 g1 fn95)) hD hS hA [0, 1, 2, 3] rfl
              refine va_calli (va_runV (As := [.int 0]) (rest := []) ⟨hx, hb, hml, hown, hts⟩ (k_X3_readAtom_6 l dC dI adK adV h0 h1 h2 h3 x92 v1 x108 v3 x94 g0 f5 g1 fn95 ⟨qa_x92, qb_x92⟩ ⟨i_v1a, i_v1b⟩ ⟨by first | omega | decide, ob_x108⟩ ia_f5 H.size) (cwV 1 hts g_X3_readTerm_6_0 rfl rfl rfl (by decide +kernel) ⟨Nat.le_of_ble_eq_true rfl, Nat.le_of_ble_eq_true rfl⟩) ⟨fun a U g mk q => by obtain ⟨q0, q1, qP, qK, qD, n0, n1, n2⟩ := q; exact ⟨q0, q1, qP, va_K.moved (u := U) (U := U.calling g mk a) (Vm.Alike.refl U.vm) qK, qD, vk_R.same rfl n0, va_Z.moved (Vm.Alike.refl _) n1, vk_S.moved (Vm.Alike.refl _) n2⟩, pv_rc3 hKc hPc (q0 := 0) rfl, fun U hU hW => ⟨rfl, by rw [hU], by rw [hU]; exact hPc, va_K.moved hW.alike hKc, hDc.weaken (fun _ _ _ _ => trivial), vk_R.warm hW h_vr_2, (by rw [hU]; exact (va_Z.moved hW.alike (va_Z.kept h_st_CS hS.2.1)).narrow hFc), (by rw [hU]; exact (vk_S.moved hW.alike (vk_S.kept h_st_S hS.2.1)).narrow hFc)⟩⟩ rfl rfl hl.1 rfl (lv_room (Nat.le_of_ble_eq_true rfl)) dX3_readTerm_50 ⟨Nat.le_of_ble_eq_true rfl, Nat.le_of_ble_eq_true rfl⟩) hS (fun q _ h => hFc q h) hFc (fun ra109 u t H1 locs ht hvm hwra109 hB hz1 hk1 hS => ?_)
              try rw [hwra109] at hB
              rcases hB with hB | hB
              · skip
                obtain ⟨x110, x111, x112, fn113, oa_x110, ob_x110, oa_x111, ob_x111, pt0_ra109, pt1_ra109, pt2_ra109, pt3_ra109, hP1, hK1, hD1⟩ := hB
                rw [ht] at hP1
                obtain ⟨hP2, hD2⟩ := va_join (wr := []) (w1 := (wd_1ad0248d h0 h1 h3 x110 h1 h2 v1 x111 v3 x112 h2 g0 f5 h3 g1 fn113)) hP hD [0, 1, 2, 3] [] rfl rfl (by decide) (by decide) hk1 hFc hP1 hD1
                clear hP hD hPc hDc hKc hFc hP1 hK1 hD1 hk1 hz1
                generalize H1 = H at hP2 hS ⊢
                have hP : va_P (dC, dI) vwCl (wd_1ad0248d h0 h1 h3 x110 h1 h2 v1 x111 v3 x112 h2 g0 f5 h3 g1 fn113) H := hP2
                have hD : va_D A (wd_1ad0248d h0 h1 h3 x110 h1 h2 v1 x111 v3 x112 h2 g0 f5 h3 g1 fn113) := hD2
                clear hP2 hD2
                obtain rfl : ra109 = (1 : Int32) := pv_cs (by decide) pt0_ra109 pt1_ra109
                refine lv_if_ne (tgt := 58) hx hb dX3_readTerm_53 (by decide) (fun _ => ?_) (fun c => absurd c (by decide))
                refine lv_aload_n hx hb dX3_readTerm_58 rfl (lv_at hl 2 rfl) ?_
                refine lv_iload_n hx hb dX3_readTerm_59 rfl (lv_at hl 0 rfl) ?_
                refine lv_bipush (v := 42) hx hb dX3_readTerm_60 (by decide) ?_
                refine lv_icmp_ne (tgt := 69) hx hb dX3_readTerm_62 (by decide) (fun c114 => by exfalso; have fc114 : ¬ (ra103.toInt = 42) := fun h9 => c114 (Int32.toInt_inj.mp h9); omega) (fun _ => ?_)
                refine lv_iconst (v := 4) hx hb dX3_readTerm_65 (by decide) ?_
                refine lv_goto (tgt := 70) hx hb dX3_readTerm_66 (by decide) ?_
                refine lv_iconst (v := 0) hx hb dX3_readTerm_70 (by decide) ?_
                have hPc := hP.sub (ws' := (wd_b958b9da h0 h1 h3 x110 h3 g1 fn113)) [0, 3] rfl
                have hDc := hD.sub (ws' := (wd_b958b9da h0 h1 h3 x110 h3 g1 fn113)) [0, 3] (by decide) rfl
                have hKc := hK.sub (tys' := [(g1, .int)]) [1] rfl
                have hFc := va_free (wc := (wd_b958b9da h0 h1 h3 x110 h3 g1 fn113)) hD hS hA [0, 3] rfl
                refine va_callv (va_runV (As := [.int 4, .int 0]) (rest := []) ⟨hx, hb, hml, hown, hts⟩ (k_X3_write l dC dI h0 h3 h1 x110 g1 fn113 4 0 ⟨oa_x110, ob_x110⟩ H.size) (cwV 2 hts g_X3_readTerm_6_4 rfl rfl rfl (by decide +kernel) ⟨Nat.le_of_ble_eq_true rfl, Nat.le_of_ble_eq_true rfl⟩) (pv_PV3 hPc hKc hDc (q0 := 0) rfl) rfl rfl hl.1 rfl (lv_room (Nat.le_of_ble_eq_true rfl)) dX3_readTerm_71 ⟨Nat.le_of_ble_eq_true rfl, Nat.le_of_ble_eq_true rfl⟩) hS (fun q _ h => hFc q h) hFc (fun u t H1 locs ht hvm hwra115 hB hz1 hk1 hS => ?_)
                obtain ⟨x116, fn117, oa_x116, ob_x116, hP1, hK1, hD1⟩ := hB
                rw [ht] at hP1
                obtain ⟨hP2, hD2⟩ := va_join (wr := (wd_82cdd16b h1 h2 v1 x111 v3 x112 h2 g0 f5)) (w1 := (wd_b958b9da h0 h1 h3 x116 h3 g1 fn117)) hP hD [0, 3] [1, 2] rfl rfl (by decide) (by decide) hk1 hFc hP1 hD1
                clear hP hD hPc hDc hKc hFc hP1 hK1 hD1 hk1 hz1
                generalize H1 = H at hP2 hS ⊢
                have hP := hP2.sub (ws' := (wd_1ad0248d h0 h1 h3 x116 h1 h2 v1 x111 v3 x112 h2 g0 f5 h3 g1 fn117)) [2, 0, 1, 3] rfl
                have hD := hD2.sub (ws' := (wd_1ad0248d h0 h1 h3 x116 h1 h2 v1 x111 v3 x112 h2 g0 f5 h3 g1 fn117)) [2, 0, 1, 3] (by decide) rfl
                clear hP2 hD2
                obtain ⟨t118, et118⟩ : ∃ y : Int32, y = x91 + 1 := ⟨_, rfl⟩
                have gt118 : t118.toInt = x91.toInt + (1) := pv_add (a := x91.toInt) (b := (1)) et118 rfl (by decide) (by omega) (by omega)
                refine lv_iinc (v := t118) (lv' := [(2, .int t118), (3, .int ra103), (0, .ref h0), (1, .int 0)]) hx hb dX3_readTerm_74 hl (k := 1) rfl (by rw [et118]; rfl) (by decide) rfl (fun ls hl => ?_)
                refine lv_goto (tgt := 12) hx hb dX3_readTerm_77 (by decide) ?_
                exact ih_hL101 t118 x116 x111 x112 fn117 H locs ls (by first | omega | decide) (by first | omega | decide) oa_x116 ob_x116 oa_x111 ob_x111 (by first | assumption | (apply pg_row.go <;> first | assumption | omega) | (apply pg_L.bi <;> first | assumption | omega) | (apply pg_L.step <;> first | assumption | omega)) (by first | omega | ((have h09 : ((0 : Int32)).toInt = 0 := by decide); omega)) (by omega) (by first | omega | (simp only [Int.toNat] at *; omega)) hP hD hS (lv_sub hl [0, 2, 3] rfl)
              · skip
                obtain ⟨x119, x120, x121, x122, fn123, oa_x119, ob_x119, oa_x120, ob_x120, oa_x121, ob_x121, pt0_ra109, pt1_ra109, pt2_ra109, pt3_ra109, hP1, hK1, hD1⟩ := hB
                rw [ht] at hP1
                obtain ⟨hP2, hD2⟩ := va_join (wr := []) (w1 := (wd_1ad0248d h0 h1 h3 x119 h1 h2 v1 x120 x121 x122 h2 g0 f5 h3 g1 fn123)) hP hD [0, 1, 2, 3] [] rfl rfl (by decide) (by decide) hk1 hFc hP1 hD1
                clear hP hD hPc hDc hKc hFc hP1 hK1 hD1 hk1 hz1
                generalize H1 = H at hP2 hS ⊢
                have hP : va_P (dC, dI) vwCl (wd_1ad0248d h0 h1 h3 x119 h1 h2 v1 x120 x121 x122 h2 g0 f5 h3 g1 fn123) H := hP2
                have hD : va_D A (wd_1ad0248d h0 h1 h3 x119 h1 h2 v1 x120 x121 x122 h2 g0 f5 h3 g1 fn123) := hD2
                clear hP2 hD2
                obtain rfl : ra109 = (0 : Int32) := pv_cs (by decide) pt0_ra109 pt1_ra109
                refine lv_if_ne (tgt := 58) hx hb dX3_readTerm_53 (by decide) (fun c => absurd (by decide) c) (fun _ => ?_)
                refine lv_iconst (v := 0) hx hb dX3_readTerm_56 (by decide) ?_
                subst hQ
                have hP9 := hP.sub (ws' := (wd_1ad0248d h0 h1 h3 x119 h1 h2 v1 x120 x121 x122 h2 g0 f5 h3 g1 fn123)) [0, 1, 2, 3] rfl
                have hD9 := hD.sub (ws' := (wd_1ad0248d h0 h1 h3 x119 h1 h2 v1 x120 x121 x122 h2 g0 f5 h3 g1 fn123)) [0, 1, 2, 3] (by decide) rfl
                have hK9 := hK.sub (tys' := []) [] rfl
                exact W.zret (v := 0) hx hb hr rfl (fun t ht hW => ⟨⟨0, 0, rfl, rfl, Or.inr (⟨x119, x120, x121, x122, fn123, oa_x119, ob_x119, oa_x120, ob_x120, oa_x121, ob_x121, by first | omega | decide, by first | omega | decide, by omega, by first | assumption | (apply pg_row.no <;> first | assumption | omega) | (apply pg_L.no <;> first | assumption | omega), by rw [ht]; exact hP9, va_K.moved hW.alike hK9, hD9⟩)⟩, hS.F ht⟩) hS.2.2 dX3_readTerm_57
            · skip
              have fc106 : ¬ (ra103.toInt = 42) := fun h9 => c106 (Int32.toInt_inj.mp h9)
              refine lv_iload_n hx hb dX3_readTerm_33 rfl (lv_at hl 0 rfl) ?_
              refine lv_bipush (v := 47) hx hb dX3_readTerm_34 (by decide) ?_
              refine lv_icmp_eq (tgt := 41) hx hb dX3_readTerm_36 (by decide) (fun c124 => ?_) (fun c124 => ?_)
              · skip
                have fc124 : ra103.toInt = 47 := congrArg Int32.toInt c124
                refine lv_aload_n hx hb dX3_readTerm_41 rfl (lv_at hl 2 rfl) ?_
                refine va_get (D := (dC, dI)) (ci := 3) (v := .ref h1) (C := RX3) (T := TX3) (N := 3) hx hb hts (fun _ h => List.mem_cons_of_mem _ (List.mem_append_left _ (List.mem_append_right _ h))) hown hK hP 0 rfl rfl 0 (by decide) (hts (.fieldLink RX3 19 "LeftArguments$LawReader" "tape" "LLeftArguments$Tape;") (List.mem_cons_of_mem _ (List.mem_append_left _ (List.mem_append_left _ (List.mem_of_getElem? (i := 1) rfl))))) (fun _ h9 => h9) rfl dX3_readTerm_42 ?_
                have hPc := hP.sub (ws' := (wd_09b0abee h1 h2 v1 x105 v3 x94)) [1] rfl
                have hDc := hD.sub (ws' := (wd_09b0abee h1 h2 v1 x105 v3 x94)) [1] (by decide) rfl
                have hKc := hK.sub (tys' := []) [] rfl
                have hFc := va_free (wc := (wd_09b0abee h1 h2 v1 x105 v3 x94)) hD hS hA [1] rfl
                refine va_callv (va_runV (As := []) (rest := []) ⟨hx, hb, hml, hown, hts⟩ (k_X10_step l dC dI h1 h2 v1 x105 v3 x94 ⟨i_v1a, i_v1b⟩ ⟨oa_x105, ob_x105⟩ H.size) (cwV 0 hts g_X3_readTerm_6_2 rfl rfl rfl (by decide +kernel) ⟨Nat.le_of_ble_eq_true rfl, Nat.le_of_ble_eq_true rfl⟩) (pv_PV10 hPc hKc hDc (q0 := 0) rfl) rfl rfl hl.1 rfl (lv_room (Nat.le_of_ble_eq_true rfl)) dX3_readTerm_45 ⟨Nat.le_of_ble_eq_true rfl, Nat.le_of_ble_eq_true rfl⟩) hS (fun q _ h => hFc q h) hFc (fun u t H1 locs ht hvm hwra125 hB hz1 hk1 hS => ?_)
                obtain ⟨x126, oa_x126, ob_x126, pt0_ra125, hP1, hK1, hD1⟩ := hB
                rw [ht] at hP1
                obtain ⟨hP2, hD2⟩ := va_join (wr := (wd_6b0d8e05 h0 h1 h3 x92 h2 g0 f5 h3 g1 fn95)) (w1 := (wd_09b0abee h1 h2 v1 x126 v3 x94)) hP hD [1] [0, 2, 3] rfl rfl (by decide) (by decide) hk1 hFc hP1 hD1
                clear hP hD hPc hDc hKc hFc hP1 hK1 hD1 hk1 hz1
                generalize H1 = H at hP2 hS ⊢
                have hP := hP2.sub (ws' := (wd_1ad0248d h0 h1 h3 x92 h1 h2 v1 x126 v3 x94 h2 g0 f5 h3 g1 fn95)) [0, 3, 1, 2] rfl
                have hD := hD2.sub (ws' := (wd_1ad0248d h0 h1 h3 x92 h1 h2 v1 x126 v3 x94 h2 g0 f5 h3 g1 fn95)) [0, 3, 1, 2] (by decide) rfl
                clear hP2 hD2
                refine lv_aload_n hx hb dX3_readTerm_48 rfl (lv_at hl 2 rfl) ?_
                refine lv_iload_n hx hb dX3_readTerm_49 rfl (lv_at hl 3 rfl) ?_
                have hPc := hP.sub (ws' := (wd_1ad0248d h0 h1 h3 x92 h1 h2 v1 x126 v3 x94 h2 g0 f5 h3 g1 fn95)) [0, 1, 2, 3] rfl
                have hDc := hD.sub (ws' := (wd_1ad0248d h0 h1 h3 x92 h1 h2 v1 x126 v3 x94 h2 g0 f5 h3 g1 fn95)) [0, 1, 2, 3] (by decide) rfl
                have hKc := hK.sub (tys' := [(g0, .int), (g1, .int)]) [0, 1] rfl
                have hFc := va_free (wc := (wd_1ad0248d h0 h1 h3 x92 h1 h2 v1 x126 v3 x94 h2 g0 f5 h3 g1 fn95)) hD hS hA [0, 1, 2, 3] rfl
                refine va_calli (va_runV (As := [.int 0]) (rest := []) ⟨hx, hb, hml, hown, hts⟩ (k_X3_readAtom_6 l dC dI adK adV h0 h1 h2 h3 x92 v1 x126 v3 x94 g0 f5 g1 fn95 ⟨qa_x92, qb_x92⟩ ⟨i_v1a, i_v1b⟩ ⟨by first | omega | decide, ob_x126⟩ ia_f5 H.size) (cwV 1 hts g_X3_readTerm_6_0 rfl rfl rfl (by decide +kernel) ⟨Nat.le_of_ble_eq_true rfl, Nat.le_of_ble_eq_true rfl⟩) ⟨fun a U g mk q => by obtain ⟨q0, q1, qP, qK, qD, n0, n1, n2⟩ := q; exact ⟨q0, q1, qP, va_K.moved (u := U) (U := U.calling g mk a) (Vm.Alike.refl U.vm) qK, qD, vk_R.same rfl n0, va_Z.moved (Vm.Alike.refl _) n1, vk_S.moved (Vm.Alike.refl _) n2⟩, pv_rc3 hKc hPc (q0 := 0) rfl, fun U hU hW => ⟨rfl, by rw [hU], by rw [hU]; exact hPc, va_K.moved hW.alike hKc, hDc.weaken (fun _ _ _ _ => trivial), vk_R.warm hW h_vr_2, (by rw [hU]; exact (va_Z.moved hW.alike (va_Z.kept h_st_CS hS.2.1)).narrow hFc), (by rw [hU]; exact (vk_S.moved hW.alike (vk_S.kept h_st_S hS.2.1)).narrow hFc)⟩⟩ rfl rfl hl.1 rfl (lv_room (Nat.le_of_ble_eq_true rfl)) dX3_readTerm_50 ⟨Nat.le_of_ble_eq_true rfl, Nat.le_of_ble_eq_true rfl⟩) hS (fun q _ h => hFc q h) hFc (fun ra127 u t H1 locs ht hvm hwra127 hB hz1 hk1 hS => ?_)
                try rw [hwra127] at hB
                rcases hB with hB | hB
                · skip
                  obtain ⟨x128, x129, x130, fn131, oa_x128, ob_x128, oa_x129, ob_x129, pt0_ra127, pt1_ra127, pt2_ra127, pt3_ra127, hP1, hK1, hD1⟩ := hB
                  rw [ht] at hP1
                  obtain ⟨hP2, hD2⟩ := va_join (wr := []) (w1 := (wd_1ad0248d h0 h1 h3 x128 h1 h2 v1 x129 v3 x130 h2 g0 f5 h3 g1 fn131)) hP hD [0, 1, 2, 3] [] rfl rfl (by decide) (by decide) hk1 hFc hP1 hD1
                  clear hP hD hPc hDc hKc hFc hP1 hK1 hD1 hk1 hz1
                  generalize H1 = H at hP2 hS ⊢
                  have hP : va_P (dC, dI) vwCl (wd_1ad0248d h0 h1 h3 x128 h1 h2 v1 x129 v3 x130 h2 g0 f5 h3 g1 fn131) H := hP2
                  have hD : va_D A (wd_1ad0248d h0 h1 h3 x128 h1 h2 v1 x129 v3 x130 h2 g0 f5 h3 g1 fn131) := hD2
                  clear hP2 hD2
                  obtain rfl : ra127 = (1 : Int32) := pv_cs (by decide) pt0_ra127 pt1_ra127
                  refine lv_if_ne (tgt := 58) hx hb dX3_readTerm_53 (by decide) (fun _ => ?_) (fun c => absurd c (by decide))
                  refine lv_aload_n hx hb dX3_readTerm_58 rfl (lv_at hl 2 rfl) ?_
                  refine lv_iload_n hx hb dX3_readTerm_59 rfl (lv_at hl 0 rfl) ?_
                  refine lv_bipush (v := 42) hx hb dX3_readTerm_60 (by decide) ?_
                  refine lv_icmp_ne (tgt := 69) hx hb dX3_readTerm_62 (by decide) (fun _ => ?_) (fun c132 => by exfalso; have fc132 : ra103.toInt = 42 := congrArg Int32.toInt c132; omega)
                  refine lv_iconst (v := 5) hx hb dX3_readTerm_69 (by decide) ?_
                  refine lv_iconst (v := 0) hx hb dX3_readTerm_70 (by decide) ?_
                  have hPc := hP.sub (ws' := (wd_b958b9da h0 h1 h3 x128 h3 g1 fn131)) [0, 3] rfl
                  have hDc := hD.sub (ws' := (wd_b958b9da h0 h1 h3 x128 h3 g1 fn131)) [0, 3] (by decide) rfl
                  have hKc := hK.sub (tys' := [(g1, .int)]) [1] rfl
                  have hFc := va_free (wc := (wd_b958b9da h0 h1 h3 x128 h3 g1 fn131)) hD hS hA [0, 3] rfl
                  refine va_callv (va_runV (As := [.int 5, .int 0]) (rest := []) ⟨hx, hb, hml, hown, hts⟩ (k_X3_write l dC dI h0 h3 h1 x128 g1 fn131 5 0 ⟨oa_x128, ob_x128⟩ H.size) (cwV 2 hts g_X3_readTerm_6_4 rfl rfl rfl (by decide +kernel) ⟨Nat.le_of_ble_eq_true rfl, Nat.le_of_ble_eq_true rfl⟩) (pv_PV3 hPc hKc hDc (q0 := 0) rfl) rfl rfl hl.1 rfl (lv_room (Nat.le_of_ble_eq_true rfl)) dX3_readTerm_71 ⟨Nat.le_of_ble_eq_true rfl, Nat.le_of_ble_eq_true rfl⟩) hS (fun q _ h => hFc q h) hFc (fun u t H1 locs ht hvm hwra133 hB hz1 hk1 hS => ?_)
                  obtain ⟨x134, fn135, oa_x134, ob_x134, hP1, hK1, hD1⟩ := hB
                  rw [ht] at hP1
                  obtain ⟨hP2, hD2⟩ := va_join (wr := (wd_82cdd16b h1 h2 v1 x129 v3 x130 h2 g0 f5)) (w1 := (wd_b958b9da h0 h1 h3 x134 h3 g1 fn135)) hP hD [0, 3] [1, 2] rfl rfl (by decide) (by decide) hk1 hFc hP1 hD1
                  clear hP hD hPc hDc hKc hFc hP1 hK1 hD1 hk1 hz1
                  generalize H1 = H at hP2 hS ⊢
                  have hP := hP2.sub (ws' := (wd_1ad0248d h0 h1 h3 x134 h1 h2 v1 x129 v3 x130 h2 g0 f5 h3 g1 fn135)) [2, 0, 1, 3] rfl
                  have hD := hD2.sub (ws' := (wd_1ad0248d h0 h1 h3 x134 h1 h2 v1 x129 v3 x130 h2 g0 f5 h3 g1 fn135)) [2, 0, 1, 3] (by decide) rfl
                  clear hP2 hD2
                  obtain ⟨t136, et136⟩ : ∃ y : Int32, y = x91 + 1 := ⟨_, rfl⟩
                  have gt136 : t136.toInt = x91.toInt + (1) := pv_add (a := x91.toInt) (b := (1)) et136 rfl (by decide) (by omega) (by omega)
                  refine lv_iinc (v := t136) (lv' := [(2, .int t136), (3, .int ra103), (0, .ref h0), (1, .int 0)]) hx hb dX3_readTerm_74 hl (k := 1) rfl (by rw [et136]; rfl) (by decide) rfl (fun ls hl => ?_)
                  refine lv_goto (tgt := 12) hx hb dX3_readTerm_77 (by decide) ?_
                  exact ih_hL101 t136 x134 x129 x130 fn135 H locs ls (by first | omega | decide) (by first | omega | decide) oa_x134 ob_x134 oa_x129 ob_x129 (by first | assumption | (apply pg_row.go <;> first | assumption | omega) | (apply pg_L.bi <;> first | assumption | omega) | (apply pg_L.step <;> first | assumption | omega)) (by first | omega | ((have h09 : ((0 : Int32)).toInt = 0 := by decide); omega)) (by omega) (by first | omega | (simp only [Int.toNat] at *; omega)) hP hD hS (lv_sub hl [0, 2, 3] rfl)
                · skip
                  obtain ⟨x137, x138, x139, x140, fn141, oa_x137, ob_x137, oa_x138, ob_x138, oa_x139, ob_x139, pt0_ra127, pt1_ra127, pt2_ra127, pt3_ra127, hP1, hK1, hD1⟩ := hB
                  rw [ht] at hP1
                  obtain ⟨hP2, hD2⟩ := va_join (wr := []) (w1 := (wd_1ad0248d h0 h1 h3 x137 h1 h2 v1 x138 x139 x140 h2 g0 f5 h3 g1 fn141)) hP hD [0, 1, 2, 3] [] rfl rfl (by decide) (by decide) hk1 hFc hP1 hD1
                  clear hP hD hPc hDc hKc hFc hP1 hK1 hD1 hk1 hz1
                  generalize H1 = H at hP2 hS ⊢
                  have hP : va_P (dC, dI) vwCl (wd_1ad0248d h0 h1 h3 x137 h1 h2 v1 x138 x139 x140 h2 g0 f5 h3 g1 fn141) H := hP2
                  have hD : va_D A (wd_1ad0248d h0 h1 h3 x137 h1 h2 v1 x138 x139 x140 h2 g0 f5 h3 g1 fn141) := hD2
                  clear hP2 hD2
                  obtain rfl : ra127 = (0 : Int32) := pv_cs (by decide) pt0_ra127 pt1_ra127
                  refine lv_if_ne (tgt := 58) hx hb dX3_readTerm_53 (by decide) (fun c => absurd (by decide) c) (fun _ => ?_)
                  refine lv_iconst (v := 0) hx hb dX3_readTerm_56 (by decide) ?_
                  subst hQ
                  have hP9 := hP.sub (ws' := (wd_1ad0248d h0 h1 h3 x137 h1 h2 v1 x138 x139 x140 h2 g0 f5 h3 g1 fn141)) [0, 1, 2, 3] rfl
                  have hD9 := hD.sub (ws' := (wd_1ad0248d h0 h1 h3 x137 h1 h2 v1 x138 x139 x140 h2 g0 f5 h3 g1 fn141)) [0, 1, 2, 3] (by decide) rfl
                  have hK9 := hK.sub (tys' := []) [] rfl
                  exact W.zret (v := 0) hx hb hr rfl (fun t ht hW => ⟨⟨0, 0, rfl, rfl, Or.inr (⟨x137, x138, x139, x140, fn141, oa_x137, ob_x137, oa_x138, ob_x138, oa_x139, ob_x139, by first | omega | decide, by first | omega | decide, by omega, by first | assumption | (apply pg_row.no <;> first | assumption | omega) | (apply pg_L.no <;> first | assumption | omega), by rw [ht]; exact hP9, va_K.moved hW.alike hK9, hD9⟩)⟩, hS.F ht⟩) hS.2.2 dX3_readTerm_57
              · skip
                have fc124 : ¬ (ra103.toInt = 47) := fun h9 => c124 (Int32.toInt_inj.mp h9)
                refine lv_iconst (v := 1) hx hb dX3_readTerm_39 (by decide) ?_
                subst hQ
                have hP9 := hP.sub (ws' := (wd_1ad0248d h0 h1 h3 x92 h1 h2 v1 x105 v3 x94 h2 g0 f5 h3 g1 fn95)) [0, 1, 2, 3] rfl
                have hD9 := hD.sub (ws' := (wd_1ad0248d h0 h1 h3 x92 h1 h2 v1 x105 v3 x94 h2 g0 f5 h3 g1 fn95)) [0, 1, 2, 3] (by decide) rfl
                have hK9 := hK.sub (tys' := []) [] rfl
                exact W.zret (v := 1) hx hb hr rfl (fun t ht hW => ⟨⟨1, 1, rfl, rfl, Or.inl ⟨x92, x105, x94, fn95, qa_x92, qb_x92, oa_x105, by first | omega | decide, by first | omega | decide, by first | omega | decide, by omega, by first | assumption | (apply pg_L.stop <;> first | assumption | omega) | exact pg_L.stop (by assumption) (pg_s.here (by rw [pg_ch.off (by omega)]; decide)) (by rw [pg_ch.off (by omega)]; decide), by rw [ht]; exact hP9, va_K.moved hW.alike hK9, hD9⟩⟩, hS.F ht⟩) hS.2.2 dX3_readTerm_40
    exact hL101 _ 0 x2 x3 x4 fn5 H locs ls (by decide) (by decide) oa_x2 ob_x2 oa_x3 ob_x3 (by first | assumption | (apply pg_row.go <;> first | assumption | omega) | (apply pg_L.bi <;> first | assumption | omega) | (apply pg_L.step <;> first | assumption | omega)) (by first | omega | ((have h09 : ((0 : Int32)).toInt = 0 := by decide); omega)) (by omega) (Nat.lt_succ_self _) hP hD hS (lv_sub hl [0, 1, 2] rfl)
  · skip
    obtain ⟨x142, x143, x144, x145, fn146, oa_x142, ob_x142, oa_x143, ob_x143, oa_x144, ob_x144, pt0_ra1, pt1_ra1, pt2_ra1, pt3_ra1, hP1, hK1, hD1⟩ := hB
    rw [ht] at hP1
    obtain ⟨hP2, hD2⟩ := va_join (wr := []) (w1 := (wd_1ad0248d h0 h1 h3 x142 h1 h2 v1 x143 x144 x145 h2 g0 f5 h3 g1 fn146)) hP hD [0, 1, 2, 3] [] rfl rfl (by decide) (by decide) hk1 hFc hP1 hD1
    clear hP hD hPc hDc hKc hFc hP1 hK1 hD1 hk1 hz1
    generalize H1 = H at hP2 hS ⊢
    have hP : va_P (dC, dI) vwCl (wd_1ad0248d h0 h1 h3 x142 h1 h2 v1 x143 x144 x145 h2 g0 f5 h3 g1 fn146) H := hP2
    have hD : va_D A (wd_1ad0248d h0 h1 h3 x142 h1 h2 v1 x143 x144 x145 h2 g0 f5 h3 g1 fn146) := hD2
    clear hP2 hD2
    obtain rfl : ra1 = (0 : Int32) := pv_cs (by decide) pt0_ra1 pt1_ra1
    refine lv_if_ne (tgt := 10) hx hb dX3_readTerm_5 (by decide) (fun c => absurd (by decide) c) (fun _ => ?_)
    refine lv_iconst (v := 0) hx hb dX3_readTerm_8 (by decide) ?_
    subst hQ
    have hP9 := hP.sub (ws' := (wd_1ad0248d h0 h1 h3 x142 h1 h2 v1 x143 x144 x145 h2 g0 f5 h3 g1 fn146)) [0, 1, 2, 3] rfl
    have hD9 := hD.sub (ws' := (wd_1ad0248d h0 h1 h3 x142 h1 h2 v1 x143 x144 x145 h2 g0 f5 h3 g1 fn146)) [0, 1, 2, 3] (by decide) rfl
    have hK9 := hK.sub (tys' := []) [] rfl
    exact W.zret (v := 0) hx hb hr rfl (fun t ht hW => ⟨⟨0, 0, rfl, rfl, Or.inr (⟨x142, x143, x144, x145, fn146, oa_x142, ob_x142, oa_x143, ob_x143, oa_x144, ob_x144, by first | omega | decide, by first | omega | decide, by omega, by first | assumption | (apply pg_row.no <;> first | assumption | omega) | (apply pg_L.no <;> first | assumption | omega), by rw [ht]; exact hP9, va_K.moved hW.alike hK9, hD9⟩)⟩, hS.F ht⟩) hS.2.2 dX3_readTerm_9
def q_X3_readSum_6 : List Cond := .code yX3_readSum cX3_readSum 4 (some .boolean) :: (([.code yX3_readTerm cX3_readTerm 4 (some .boolean), .code yX3_readAtom cX3_readAtom 4 (some .boolean), .fieldLink RX3 19 "LeftArguments$LawReader" "tape" "LLeftArguments$Tape;", .code yX10_next cX10_next 1 (some .int), .fieldLink RX10 19 "LeftArguments$Tape" "at" "I", .fieldLink RX10 15 "LeftArguments$Tape" "used" "I", .fieldLink RX10 9 "LeftArguments$Tape" "bytes" "[I", .initialized RX10, .instanceMethod yX10_next, .selects RX10 yX10_next yX10_next, .methodLink RX3 48 yX10_next, .code yX10_isDigit cX10_isDigit 1 (some .boolean), .static yX10_isDigit, .methodLink RX3 92 yX10_isDigit, .code yX10_wrongHere cX10_wrongHere 1 (some .boolean), .fieldLink RX10 22 "LeftArguments$Tape" "wrongAt" "I", .instanceMethod yX10_wrongHere, .selects RX10 yX10_wrongHere yX10_wrongHere, .methodLink RX3 83 yX10_wrongHere, .code yJ0_indexOf_0f7a4 cJ0_indexOf_0f7a4 2 (some .int), .code yJ0_indexOf_7cf53 cJ0_indexOf_7cf53 3 (some .int), .code yJ0_isLatin1_aae02 cJ0_isLatin1_aae02 1 (some .boolean), .fieldLink RJ0 38 "java/lang/String" "COMPACT_STRINGS" "Z", .fieldLink RJ0 15 "java/lang/String" "coder" "B", .initialized RJ0, .instanceMethod yJ0_isLatin1_aae02, .selects RJ0 yJ0_isLatin1_aae02 yJ0_isLatin1_aae02, .methodLink RJ0 492 yJ0_isLatin1_aae02, .fieldLink RJ0 9 "java/lang/String" "value" "[B", .code yJ0_length_8abf5 cJ0_length_8abf5 1 (some .int), .code yJ0_coder_7d493 cJ0_coder_7d493 1 (some .byte), .instanceMethod yJ0_coder_7d493, .selects RJ0 yJ0_coder_7d493 yJ0_coder_7d493, .methodLink RJ0 335 yJ0_coder_7d493, .instanceMethod yJ0_length_8abf5, .selects RJ0 yJ0_length_8abf5 yJ0_length_8abf5, .methodLink RJ0 505 yJ0_length_8abf5, .code yJ1_indexOf_4cfef cJ1_indexOf_4cfef 4 (some .int), .code yJ1_canEncode_9a6ad cJ1_canEncode_9a6ad 1 (some .boolean), .initialized RJ1, .static yJ1_canEncode_9a6ad, .methodLink RJ1 88 yJ1_canEncode_9a6ad, .methodLink RJ1 92 Lib.Math.max.name, .static Lib.Math.max.name, .initialized "java/lang/Math", .code Lib.Math.max.name Lib.Math.max.code 2 (some .int), .methodLink RJ1 38 Lib.Math.min.name, .static Lib.Math.min.name, .code Lib.Math.min.name Lib.Math.min.code 2 (some .int), .code yJ1_indexOfChar_4cfef cJ1_indexOfChar_4cfef 6 (some .int), .static yJ1_indexOfChar_4cfef, .methodLink RJ1 95 yJ1_indexOfChar_4cfef, .static yJ1_indexOf_4cfef, .methodLink RJ0 637 yJ1_indexOf_4cfef, .instanceMethod yJ0_indexOf_7cf53, .selects RJ0 yJ0_indexOf_7cf53 yJ0_indexOf_7cf53, .methodLink RJ0 633 yJ0_indexOf_7cf53, .instanceMethod yJ0_indexOf_0f7a4, .selects RJ0 yJ0_indexOf_0f7a4 yJ0_indexOf_0f7a4, .methodLink RX3 103 yJ0_indexOf_0f7a4, .code yX10_step cX10_step 1 none, .instanceMethod yX10_step, .selects RX10 yX10_step yX10_step, .methodLink RX3 77 yX10_step, .code yX3_write cX3_write 3 none, .fieldLink RX3 15 "LeftArguments$LawReader" "used" "I", .fieldLink RX3 11 "LeftArguments$LawReader" "code" "[I", .initialized RX3, .instanceMethod yX3_write, .selects RX3 yX3_write yX3_write, .methodLink RX3 66 yX3_write, .code yX10_takeNumber cX10_takeNumber 3 (some .boolean), .methodLink RX10 37 yX10_next, .methodLink RX10 45 yX10_isDigit, .methodLink RX10 41 yX10_wrongHere, .fieldLink RX10 25 "LeftArguments$Tape" "number" "I", .code yX10_sign cX10_sign 1 (some .int), .instanceMethod yX10_sign, .selects RX10 yX10_sign yX10_sign, .methodLink RX10 49 yX10_sign, .instanceMethod yX10_takeNumber, .selects RX10 yX10_takeNumber yX10_takeNumber, .methodLink RX3 95 yX10_takeNumber, .code yX10_number cX10_number 1 (some .int), .instanceMethod yX10_number, .selects RX10 yX10_number yX10_number, .methodLink RX3 98 yX10_number, .code yX3_readSum cX3_readSum 4 (some .boolean), .instanceMethod yX3_readAtom, .selects RX3 yX3_readAtom yX3_readAtom, .methodLink RX3 89 yX3_readAtom, .instanceMethod yX3_readTerm, .selects RX3 yX3_readTerm yX3_readTerm, .methodLink RX3 86 yX3_readTerm, .instanceMethod yX3_readSum, .selects RX3 yX3_readSum yX3_readSum, .methodLink RX3 59 yX3_readSum, .code yX10_take cX10_take 2 (some .boolean), .instanceMethod yX10_take, .selects RX10 yX10_take yX10_take, .methodLink RX3 51 yX10_take] : List Cond) ++ wsX30 ++ wsX100)
set_option maxRecDepth 20000 in
theorem g_X3_readSum_6_0 : GoodIn q_X3_readSum_6 (wsV RX3 86 RX3 yX3_readTerm q_X3_readTerm_6) := goodIn_app (goodIn_r _ [94, 92, 93, 68] rfl (by decide +kernel)) (goodIn_ca (goodIn_ca (goodIn_r (.code yX3_readTerm cX3_readTerm 4 (some .boolean) :: [.code yX3_readAtom cX3_readAtom 4 (some .boolean), .fieldLink RX3 19 "LeftArguments$LawReader" "tape" "LLeftArguments$Tape;", .code yX10_next cX10_next 1 (some .int), .fieldLink RX10 19 "LeftArguments$Tape" "at" "I", .fieldLink RX10 15 "LeftArguments$Tape" "used" "I", .fieldLink RX10 9 "LeftArguments$Tape" "bytes" "[I", .initialized RX10, .instanceMethod yX10_next, .selects RX10 yX10_next yX10_next, .methodLink RX3 48 yX10_next, .code yX10_isDigit cX10_isDigit 1 (some .boolean), .static yX10_isDigit, .methodLink RX3 92 yX10_isDigit, .code yX10_wrongHere cX10_wrongHere 1 (some .boolean), .fieldLink RX10 22 "LeftArguments$Tape" "wrongAt" "I", .instanceMethod yX10_wrongHere, .selects RX10 yX10_wrongHere yX10_wrongHere, .methodLink RX3 83 yX10_wrongHere, .code yJ0_indexOf_0f7a4 cJ0_indexOf_0f7a4 2 (some .int), .code yJ0_indexOf_7cf53 cJ0_indexOf_7cf53 3 (some .int), .code yJ0_isLatin1_aae02 cJ0_isLatin1_aae02 1 (some .boolean), .fieldLink RJ0 38 "java/lang/String" "COMPACT_STRINGS" "Z", .fieldLink RJ0 15 "java/lang/String" "coder" "B", .initialized RJ0, .instanceMethod yJ0_isLatin1_aae02, .selects RJ0 yJ0_isLatin1_aae02 yJ0_isLatin1_aae02, .methodLink RJ0 492 yJ0_isLatin1_aae02, .fieldLink RJ0 9 "java/lang/String" "value" "[B", .code yJ0_length_8abf5 cJ0_length_8abf5 1 (some .int), .code yJ0_coder_7d493 cJ0_coder_7d493 1 (some .byte), .instanceMethod yJ0_coder_7d493, .selects RJ0 yJ0_coder_7d493 yJ0_coder_7d493, .methodLink RJ0 335 yJ0_coder_7d493, .instanceMethod yJ0_length_8abf5, .selects RJ0 yJ0_length_8abf5 yJ0_length_8abf5, .methodLink RJ0 505 yJ0_length_8abf5, .code yJ1_indexOf_4cfef cJ1_indexOf_4cfef 4 (some .int), .code yJ1_canEncode_9a6ad cJ1_canEncode_9a6ad 1 (some .boolean), .initialized RJ1, .static yJ1_canEncode_9a6ad, .methodLink RJ1 88 yJ1_canEncode_9a6ad, .methodLink RJ1 92 Lib.Math.max.name, .static Lib.Math.max.name, .initialized "java/lang/Math", .code Lib.Math.max.name Lib.Math.max.code 2 (some .int), .methodLink RJ1 38 Lib.Math.min.name, .static Lib.Math.min.name, .code Lib.Math.min.name Lib.Math.min.code 2 (some .int), .code yJ1_indexOfChar_4cfef cJ1_indexOfChar_4cfef 6 (some .int), .static yJ1_indexOfChar_4cfef, .methodLink RJ1 95 yJ1_indexOfChar_4cfef, .static yJ1_indexOf_4cfef, .methodLink RJ0 637 yJ1_indexOf_4cfef, .instanceMethod yJ0_indexOf_7cf53, .selects RJ0 yJ0_indexOf_7cf53 yJ0_indexOf_7cf53, .methodLink RJ0 633 yJ0_indexOf_7cf53, .instanceMethod yJ0_indexOf_0f7a4, .selects RJ0 yJ0_indexOf_0f7a4 yJ0_indexOf_0f7a4, .methodLink RX3 103 yJ0_indexOf_0f7a4, .code yX10_step cX10_step 1 none, .instanceMethod yX10_step, .selects RX10 yX10_step yX10_step, .methodLink RX3 77 yX10_step, .code yX3_write cX3_write 3 none, .fieldLink RX3 15 "LeftArguments$LawReader" "used" "I", .fieldLink RX3 11 "LeftArguments$LawReader" "code" "[I", .initialized RX3, .instanceMethod yX3_write, .selects RX3 yX3_write yX3_write, .methodLink RX3 66 yX3_write, .code yX10_takeNumber cX10_takeNumber 3 (some .boolean), .methodLink RX10 37 yX10_next, .methodLink RX10 45 yX10_isDigit, .methodLink RX10 41 yX10_wrongHere, .fieldLink RX10 25 "LeftArguments$Tape" "number" "I", .code yX10_sign cX10_sign 1 (some .int), .instanceMethod yX10_sign, .selects RX10 yX10_sign yX10_sign, .methodLink RX10 49 yX10_sign, .instanceMethod yX10_takeNumber, .selects RX10 yX10_takeNumber yX10_takeNumber, .methodLink RX3 95 yX10_takeNumber, .code yX10_number cX10_number 1 (some .int), .instanceMethod yX10_number, .selects RX10 yX10_number yX10_number, .methodLink RX3 98 yX10_number, .code yX3_readSum cX3_readSum 4 (some .boolean), .code yX3_readTerm cX3_readTerm 4 (some .boolean), .instanceMethod yX3_readAtom, .selects RX3 yX3_readAtom yX3_readAtom, .methodLink RX3 89 yX3_readAtom, .instanceMethod yX3_readTerm, .selects RX3 yX3_readTerm yX3_readTerm, .methodLink RX3 86 yX3_readTerm, .instanceMethod yX3_readSum, .selects RX3 yX3_readSum yX3_readSum, .methodLink RX3 59 yX3_readSum, .code yX10_take cX10_take 2 (some .boolean), .instanceMethod yX10_take, .selects RX10 yX10_take yX10_take, .methodLink RX3 51 yX10_take]) [1, 2, 3, 4, 5, 6, 7, 8, 9, 10, 11, 12, 13, 14, 15, 16, 17, 18, 19, 20, 21, 22, 23, 24, 25, 26, 27, 28, 29, 30, 31, 32, 33, 34, 35, 36, 37, 38, 39, 40, 41, 42, 43, 44, 45, 46, 47, 48, 49, 50, 51, 52, 53, 54, 55, 56, 57, 58, 59, 60, 61, 62, 63, 64, 65, 66, 67, 68, 69, 70, 71, 72, 73, 74, 75, 76, 77, 78, 79, 80, 81, 82, 83, 84, 85, 86, 87, 88, 1, 89, 90, 91, 92, 93, 94, 95, 96, 97, 98, 99, 100, 101] rfl (by decide +kernel)) (goodIn_sub (fun _ h => List.mem_cons_of_mem _ (List.mem_append_left _ (List.mem_append_right _ h))) gwX3)) (goodIn_sub (fun _ h => List.mem_cons_of_mem _ (List.mem_append_right _ h)) gwX10))
set_option maxRecDepth 20000 in
theorem g_X3_readSum_6_1 : GoodIn q_X3_readSum_6 (wsV RX3 48 RX10 yX10_next q_X10_next) := goodIn_app (goodIn_r _ [11, 9, 10, 8] rfl (by decide +kernel)) (goodIn_ca (goodIn_r (.code yX10_next cX10_next 1 (some .int) :: [.fieldLink RX10 19 "LeftArguments$Tape" "at" "I", .fieldLink RX10 15 "LeftArguments$Tape" "used" "I", .fieldLink RX10 9 "LeftArguments$Tape" "bytes" "[I"]) [4, 5, 6, 7] rfl (by decide +kernel)) (goodIn_sub (fun _ h => List.mem_cons_of_mem _ (List.mem_append_right _ h)) gwX10))
set_option maxRecDepth 20000 in
theorem g_X3_readSum_6_2 : GoodIn q_X3_readSum_6 (wsV RX3 77 RX10 yX10_step q_X10_step) := goodIn_app (goodIn_r _ [64, 62, 63, 8] rfl (by decide +kernel)) (goodIn_ca (goodIn_r (.code yX10_step cX10_step 1 none :: [.fieldLink RX10 19 "LeftArguments$Tape" "at" "I"]) [61, 5] rfl (by decide +kernel)) (goodIn_sub (fun _ h => List.mem_cons_of_mem _ (List.mem_append_right _ h)) gwX10))
set_option maxRecDepth 20000 in
theorem g_X3_readSum_6_4 : GoodIn q_X3_readSum_6 (wsV RX3 66 RX3 yX3_write q_X3_write) := goodIn_app (goodIn_r _ [71, 69, 70, 68] rfl (by decide +kernel)) (goodIn_ca (goodIn_r (.code yX3_write cX3_write 3 none :: [.fieldLink RX3 15 "LeftArguments$LawReader" "used" "I", .fieldLink RX3 11 "LeftArguments$LawReader" "code" "[I"]) [65, 66, 67] rfl (by decide +kernel)) (goodIn_sub (fun _ h => List.mem_cons_of_mem _ (List.mem_append_left _ (List.mem_append_right _ h))) gwX3))
set_option maxHeartbeats 4000000 in
set_option maxRecDepth 100000 in
theorem k_X3_readSum_6 (l : Launch) (dC : Nat → ClassId) (dI : Nat → Nat → Nat) (adK : Nat → Nat) (adV : Nat → Nat) (h0 : Nat) (h1 : Nat) (h2 : Nat) (h3 : Nat) (v0 : Int32) (v1 : Int32) (v2 : Int32) (v3 : Int32) (v4 : Int32) (g0 : ClassId) (f5 : Nat → Int32) (g1 : ClassId) (f6 : Nat → Int32) (i_v0 : 0 ≤ v0.toInt ∧ v0.toInt ≤ 256) (i_v1 : 0 ≤ v1.toInt ∧ v1.toInt ≤ 240) (i_v2 : 0 ≤ v2.toInt ∧ v2.toInt ≤ 240) (ia_f5 : (∀ j, 0 ≤ (f5 j).toInt ∧ (f5 j).toInt ≤ 255)) (sz : Nat) : Met l yX3_readSum q_X3_readSum_6 ({ frames := 24, cells := 0, slots := 0, locals := 551 }) (va_Pc [.ref h0, .int 0] (fun U => U.heap.size = sz ∧ va_P (dC, dI) vwCl (wd_1ad0248d h0 h1 h3 v0 h1 h2 v1 v2 v3 v4 h2 g0 f5 h3 g1 f6) U.heap ∧ va_K (dC, dI) vwCl [(g0, .int), (g1, .int)] U ∧ va_D (fun _ => True) (wd_1ad0248d h0 h1 h3 v0 h1 h2 v1 v2 v3 v4 h2 g0 f5 h3 g1 f6) ∧ vk_R RX3 101 "zaondt" (adK 2) U ∧ va_Z "java/lang/String" "COMPACT_STRINGS" "Z" (.int 1) (va_A (wd_1ad0248d h0 h1 h3 v0 h1 h2 v1 v2 v3 v4 h2 g0 f5 h3 g1 f6) sz) U U.heap ∧ vk_S 3 pv_len3 pv_byt3 adK adV (va_A (wd_1ad0248d h0 h1 h3 v0 h1 h2 v1 v2 v3 v4 h2 g0 f5 h3 g1 f6) sz) U U.heap)) (va_Qi (fun (r : Int32) (r9 : Int32) => r9 = r) (fun (r : Int32) (t : State) => (∃ (o_h0_2 : Int32) (o_h1_2 : Int32) (o_h1_4 : Int32) (o_h3 : Nat → Int32), 0 ≤ o_h0_2.toInt ∧ o_h0_2.toInt ≤ 256 ∧ 0 ≤ o_h1_2.toInt ∧ o_h1_2.toInt ≤ 240 ∧ (1 ≤ r.toInt) ∧ (r.toInt ≤ 1) ∧ (v2.toInt ≤ o_h1_2.toInt) ∧ (pg_sum f5 v1.toInt 6 v2.toInt = (true, o_h1_2.toInt)) ∧ va_P (dC, dI) vwCl (wd_1ad0248d h0 h1 h3 o_h0_2 h1 h2 v1 o_h1_2 v3 o_h1_4 h2 g0 f5 h3 g1 o_h3) t.heap ∧ va_K (dC, dI) vwCl [] t ∧ va_D (va_A (wd_1ad0248d h0 h1 h3 v0 h1 h2 v1 v2 v3 v4 h2 g0 f5 h3 g1 f6) sz) (wd_1ad0248d h0 h1 h3 o_h0_2 h1 h2 v1 o_h1_2 v3 o_h1_4 h2 g0 f5 h3 g1 o_h3)) ∨ (∃ (o_h0_2 : Int32) (o_h1_2 : Int32) (o_h1_3 : Int32) (o_h1_4 : Int32) (o_h3 : Nat → Int32), 0 ≤ o_h0_2.toInt ∧ o_h0_2.toInt ≤ 256 ∧ 0 ≤ o_h1_2.toInt ∧ o_h1_2.toInt ≤ 240 ∧ 0 ≤ o_h1_3.toInt ∧ o_h1_3.toInt ≤ 240 ∧ (0 ≤ r.toInt) ∧ (r.toInt ≤ 0) ∧ (v2.toInt ≤ o_h1_2.toInt) ∧ (pg_sum f5 v1.toInt 6 v2.toInt = (false, o_h1_3.toInt)) ∧ va_P (dC, dI) vwCl (wd_1ad0248d h0 h1 h3 o_h0_2 h1 h2 v1 o_h1_2 o_h1_3 o_h1_4 h2 g0 f5 h3 g1 o_h3) t.heap ∧ va_K (dC, dI) vwCl [] t ∧ va_D (va_A (wd_1ad0248d h0 h1 h3 v0 h1 h2 v1 v2 v3 v4 h2 g0 f5 h3 g1 f6) sz) (wd_1ad0248d h0 h1 h3 o_h0_2 h1 h2 v1 o_h1_2 o_h1_3 o_h1_4 h2 g0 f5 h3 g1 o_h3))) (va_A (wd_1ad0248d h0 h1 h3 v0 h1 h2 v1 v2 v3 v4 h2 g0 f5 h3 g1 f6) sz)) 0 0 (va_A (wd_1ad0248d h0 h1 h3 v0 h1 h2 v1 v2 v3 v4 h2 g0 f5 h3 g1 f6) sz) := by
  refine Met.ofW (cc := cX3_readSum) (maxL := 4) (ret := (some .boolean)) (by decide) rfl ?_
  intro p e s m args below meth c s₁ B hml hv
  obtain ⟨i_v0a, i_v0b⟩ := i_v0
  obtain ⟨i_v1a, i_v1b⟩ := i_v1
  obtain ⟨i_v2a, i_v2b⟩ := i_v2
  obtain ⟨rfl, hsz, hP, hK, hD0, h_vr_2, h_st_CS, h_st_S⟩ := hv
  have hx := B.exec
  have hb := B.bytes
  have hr := B.returns
  have hts := atoms_spec (ws := q_X3_readSum_6) B.pre
  have hown : s.vm.findClass RX3 = some m.cls := findClass_of_methodNamed B.named
  have hlocks := B.notSynchronized
  subst hsz
  have hD := hD0.self (sz := s.heap.size)
  generalize hAe : va_A (wd_1ad0248d h0 h1 h3 v0 h1 h2 v1 v2 v3 v4 h2 g0 f5 h3 g1 f6) s.heap.size = A at hD h_st_CS h_st_S ⊢
  have hA : ∀ q : Nat, s.heap.size ≤ q → A q := fun q h => by rw [← hAe]; exact Or.inr h
  have hS : va_S A s.heap s.heap [] := va_S.rf
  generalize hQ : (MQ below _ _ s 0 0 A) = Q
  have hl := lv_entry ([.ref h0, .int 0]) (n := 4) (Nat.le_of_ble_eq_true rfl)
  rw [lg_entry_eq]
  generalize (lg_sl ([.ref h0, .int 0]) ++ List.replicate (4 - (lg_sl ([.ref h0, .int 0])).length) Slot.unset).toArray = ls at hl ⊢
  have hl : lv_has ls 4 [(0, .ref h0), (1, .int 0)] := hl
  obtain ⟨H, hH⟩ : ∃ H : Heap, H = s.heap := ⟨_, rfl⟩
  obtain ⟨locs, hlocs⟩ : ∃ y : List Loc, y = [] := ⟨_, rfl⟩
  have hS : va_S A s.heap H locs := by rw [hH, hlocs]; exact va_S.rf
  have hP : va_P (dC, dI) vwCl (wd_1ad0248d h0 h1 h3 v0 h1 h2 v1 v2 v3 v4 h2 g0 f5 h3 g1 f6) H := by rw [hH]; exact hP
  rw [← hH, ← hlocs]
  refine lv_aload_n hx hb dX3_readSum_0 rfl (lv_at hl 0 rfl) ?_
  refine lv_iload_n hx hb dX3_readSum_1 rfl (lv_at hl 1 rfl) ?_
  have hPc := hP.sub (ws' := (wd_1ad0248d h0 h1 h3 v0 h1 h2 v1 v2 v3 v4 h2 g0 f5 h3 g1 f6)) [0, 1, 2, 3] rfl
  have hDc := hD.sub (ws' := (wd_1ad0248d h0 h1 h3 v0 h1 h2 v1 v2 v3 v4 h2 g0 f5 h3 g1 f6)) [0, 1, 2, 3] (by decide) rfl
  have hKc := hK.sub (tys' := [(g0, .int), (g1, .int)]) [0, 1] rfl
  have hFc := va_free (wc := (wd_1ad0248d h0 h1 h3 v0 h1 h2 v1 v2 v3 v4 h2 g0 f5 h3 g1 f6)) hD hS hA [0, 1, 2, 3] rfl
  refine va_calli (va_runV (As := [.int 0]) (rest := []) ⟨hx, hb, hml, hown, hts⟩ (k_X3_readTerm_6 l dC dI adK adV h0 h1 h2 h3 v0 v1 v2 v3 v4 g0 f5 g1 f6 ⟨i_v0a, i_v0b⟩ ⟨i_v1a, i_v1b⟩ ⟨i_v2a, i_v2b⟩ ia_f5 H.size) (cwV 1 hts g_X3_readSum_6_0 rfl rfl rfl (by decide +kernel) ⟨Nat.le_of_ble_eq_true rfl, Nat.le_of_ble_eq_true rfl⟩) ⟨fun a U g mk q => by obtain ⟨q0, q1, qP, qK, qD, n0, n1, n2⟩ := q; exact ⟨q0, q1, qP, va_K.moved (u := U) (U := U.calling g mk a) (Vm.Alike.refl U.vm) qK, qD, vk_R.same rfl n0, va_Z.moved (Vm.Alike.refl _) n1, vk_S.moved (Vm.Alike.refl _) n2⟩, pv_rc3 hKc hPc (q0 := 0) rfl, fun U hU hW => ⟨rfl, by rw [hU], by rw [hU]; exact hPc, va_K.moved hW.alike hKc, hDc.weaken (fun _ _ _ _ => trivial), vk_R.warm hW h_vr_2, (by rw [hU]; exact (va_Z.moved hW.alike (va_Z.kept h_st_CS hS.2.1)).narrow hFc), (by rw [hU]; exact (vk_S.moved hW.alike (vk_S.kept h_st_S hS.2.1)).narrow hFc)⟩⟩ rfl rfl hl.1 rfl (lv_room (Nat.le_of_ble_eq_true rfl)) dX3_readSum_2 ⟨Nat.le_of_ble_eq_true rfl, Nat.le_of_ble_eq_true rfl⟩) hS (fun q _ h => hFc q h) hFc (fun ra1 u t H1 locs ht hvm hwra1 hB hz1 hk1 hS => ?_)
  try rw [hwra1] at hB
  rcases hB with hB | hB
  · skip
    obtain ⟨x2, x3, x4, fn5, oa_x2, ob_x2, oa_x3, ob_x3, pt0_ra1, pt1_ra1, pt2_ra1, pt3_ra1, hP1, hK1, hD1⟩ := hB
    rw [ht] at hP1
    obtain ⟨hP2, hD2⟩ := va_join (wr := []) (w1 := (wd_1ad0248d h0 h1 h3 x2 h1 h2 v1 x3 v3 x4 h2 g0 f5 h3 g1 fn5)) hP hD [0, 1, 2, 3] [] rfl rfl (by decide) (by decide) hk1 hFc hP1 hD1
    clear hP hD hPc hDc hKc hFc hP1 hK1 hD1 hk1 hz1
    generalize H1 = H at hP2 hS ⊢
    have hP : va_P (dC, dI) vwCl (wd_1ad0248d h0 h1 h3 x2 h1 h2 v1 x3 v3 x4 h2 g0 f5 h3 g1 fn5) H := hP2
    have hD : va_D A (wd_1ad0248d h0 h1 h3 x2 h1 h2 v1 x3 v3 x4 h2 g0 f5 h3 g1 fn5) := hD2
    clear hP2 hD2
    obtain rfl : ra1 = (1 : Int32) := pv_cs (by decide) pt0_ra1 pt1_ra1
    refine lv_if_ne (tgt := 10) hx hb dX3_readSum_5 (by decide) (fun _ => ?_) (fun c => absurd c (by decide))
    refine lv_iconst (v := 0) hx hb dX3_readSum_10 (by decide) ?_
    refine lv_istore_n (lv' := [(2, .int 0), (0, .ref h0), (1, .int 0)]) hx hb dX3_readSum_11 rfl hl (by decide) rfl (fun ls hl => ?_)
    have hL86 : ∀ (n9 : Nat), ∀ (x76 : Int32) (x77 : Int32) (x78 : Int32) (x79 : Int32) (fn80 : Nat → Int32) (H : Heap) (locs : List Loc) (ls : Array Slot), 0 ≤ x76.toInt → x76.toInt ≤ 240 → 0 ≤ x77.toInt → x77.toInt ≤ 256 → 0 ≤ x78.toInt → x78.toInt ≤ 240 → (pg_L f5 v1.toInt 43 45 (pg_term f5 v1.toInt 6) x78.toInt (pg_row f5 v1.toInt 43 45 (pg_term f5 v1.toInt 6) v2.toInt)) → (x76.toInt ≤ x78.toInt) → (v2.toInt ≤ x78.toInt) → (240 - x76.toInt).toNat < n9 → va_P (dC, dI) vwCl (wd_1ad0248d h0 h1 h3 x77 h1 h2 v1 x78 v3 x79 h2 g0 f5 h3 g1 fn80) H → va_D A (wd_1ad0248d h0 h1 h3 x77 h1 h2 v1 x78 v3 x79 h2 g0 f5 h3 g1 fn80) → va_S A s.heap H locs → lv_has ls 4 [(2, .int x76), (0, .ref h0), (1, .int 0)] → W p l e ({ frames := 24, cells := 0, slots := 0, locals := 551 }) s m ([.ref h0, .int 0] : List Value).toArray below meth c H locs 0 0 Q (F0 m 12 ls []) := by
      intro n9
      induction n9 with
      | zero => intro x76 x77 x78 x79 fn80 H locs ls qa_x76 qb_x76 qa_x77 qb_x77 qa_x78 qb_x78 gh0_hL86 gh1_hL86 gh2_hL86 hm9 hP hD hS hl; exact absurd hm9 (Nat.not_lt_zero _)
      | succ n9 ih_hL86 =>
        intro x76 x77 x78 x79 fn80 H locs ls qa_x76 qb_x76 qa_x77 qb_x77 qa_x78 qb_x78 gh0_hL86 gh1_hL86 gh2_hL86 hm9 hP hD hS hl
        refine lv_iload_n hx hb dX3_readSum_12 rfl (lv_at hl 0 rfl) ?_
        refine lv_sipush (v := 240) hx hb dX3_readSum_13 (by decide) ?_
        refine lv_icmp_ge (tgt := 80) hx hb dX3_readSum_16 (by decide) (fun c87 => ?_) (fun c87 => ?_)
        · skip
          have fc87 : 240 ≤ x76.toInt := Int32.le_iff_toInt_le.mp c87
          refine lv_iconst (v := 1) hx hb dX3_readSum_80 (by decide) ?_
          subst hQ
          have hP9 := hP.sub (ws' := (wd_1ad0248d h0 h1 h3 x77 h1 h2 v1 x78 v3 x79 h2 g0 f5 h3 g1 fn80)) [0, 1, 2, 3] rfl
          have hD9 := hD.sub (ws' := (wd_1ad0248d h0 h1 h3 x77 h1 h2 v1 x78 v3 x79 h2 g0 f5 h3 g1 fn80)) [0, 1, 2, 3] (by decide) rfl
          have hK9 := hK.sub (tys' := []) [] rfl
          exact W.zret (v := 1) hx hb hr rfl (fun t ht hW => ⟨⟨1, 1, rfl, rfl, Or.inl ⟨x77, x78, x79, fn80, qa_x77, qb_x77, qa_x78, qb_x78, by first | omega | decide, by first | omega | decide, by omega, by rw [pg_sum.eq]; first | assumption | (apply pg_L.stop <;> first | assumption | omega) | exact pg_L.stop (by assumption) (pg_s.here (by rw [pg_ch.off (by omega)]; decide)) (by rw [pg_ch.off (by omega)]; decide), by rw [ht]; exact hP9, va_K.moved hW.alike hK9, hD9⟩⟩, hS.F ht⟩) hS.2.2 dX3_readSum_81
        · skip
          have fc87 : ¬ (240 ≤ x76.toInt) := fun h9 => c87 (Int32.le_iff_toInt_le.mpr h9)
          refine lv_aload_n hx hb dX3_readSum_19 rfl (lv_at hl 1 rfl) ?_
          refine va_get (D := (dC, dI)) (ci := 3) (v := .ref h1) (C := RX3) (T := TX3) (N := 3) hx hb hts (fun _ h => List.mem_cons_of_mem _ (List.mem_append_left _ (List.mem_append_right _ h))) hown hK hP 0 rfl rfl 0 (by decide) (hts (.fieldLink RX3 19 "LeftArguments$LawReader" "tape" "LLeftArguments$Tape;") (List.mem_cons_of_mem _ (List.mem_append_left _ (List.mem_append_left _ (List.mem_of_getElem? (i := 2) rfl))))) (fun _ h9 => h9) rfl dX3_readSum_20 ?_
          have hPc := hP.sub (ws' := (wd_82cdd16b h1 h2 v1 x78 v3 x79 h2 g0 f5)) [1, 2] rfl
          have hDc := hD.sub (ws' := (wd_82cdd16b h1 h2 v1 x78 v3 x79 h2 g0 f5)) [1, 2] (by decide) rfl
          have hKc := hK.sub (tys' := [(g0, .int)]) [0] rfl
          have hFc := va_free (wc := (wd_82cdd16b h1 h2 v1 x78 v3 x79 h2 g0 f5)) hD hS hA [1, 2] rfl
          refine va_calli (va_runV (As := []) (rest := []) ⟨hx, hb, hml, hown, hts⟩ (k_X10_next l dC dI h1 h2 v1 x78 v3 x79 g0 f5 ⟨i_v1a, i_v1b⟩ ⟨qa_x78, qb_x78⟩ ia_f5 H.size) (cwV 0 hts g_X3_readSum_6_1 rfl rfl rfl (by decide +kernel) ⟨Nat.le_of_ble_eq_true rfl, Nat.le_of_ble_eq_true rfl⟩) (pv_PV10 hPc hKc hDc (q0 := 0) rfl) rfl rfl hl.1 rfl (lv_room (Nat.le_of_ble_eq_true rfl)) dX3_readSum_23 ⟨Nat.le_of_ble_eq_true rfl, Nat.le_of_ble_eq_true rfl⟩) hS (fun q _ h => hFc q h) hFc (fun ra88 u t H1 locs ht hvm hwra88 hB hz1 hk1 hS => ?_)
          try rw [hwra88] at hB
          rcases hB with hB | hB
          · skip
            obtain ⟨x89, oa_x89, ob_x89, pt0_ra88, pt1_ra88, pt2_ra88, pt3_ra88, pt4_ra88, pt5_ra88, pt6_ra88, hP1, hK1, hD1⟩ := hB
            rw [ht] at hP1
            obtain ⟨hP2, hD2⟩ := va_join (wr := (wd_b958b9da h0 h1 h3 x77 h3 g1 fn80)) (w1 := (wd_82cdd16b h1 h2 v1 x89 v3 x79 h2 g0 f5)) hP hD [1, 2] [0, 3] rfl rfl (by decide) (by decide) hk1 hFc hP1 hD1
            clear hP hD hPc hDc hKc hFc hP1 hK1 hD1 hk1 hz1
            generalize H1 = H at hP2 hS ⊢
            have hP := hP2.sub (ws' := (wd_1ad0248d h0 h1 h3 x77 h1 h2 v1 x89 v3 x79 h2 g0 f5 h3 g1 fn80)) [0, 2, 3, 1] rfl
            have hD := hD2.sub (ws' := (wd_1ad0248d h0 h1 h3 x77 h1 h2 v1 x89 v3 x79 h2 g0 f5 h3 g1 fn80)) [0, 2, 3, 1] (by decide) rfl
            clear hP2 hD2
            obtain rfl : ra88 = ((-1) : Int32) := pv_cs (by decide) pt0_ra88 pt1_ra88
            refine lv_istore_n (lv' := [(3, .int (-1)), (2, .int x76), (0, .ref h0), (1, .int 0)]) hx hb dX3_readSum_26 rfl hl (by decide) rfl (fun ls hl => ?_)
            refine lv_iload_n hx hb dX3_readSum_27 rfl (lv_at hl 0 rfl) ?_
            refine lv_bipush (v := 43) hx hb dX3_readSum_28 (by decide) ?_
            refine lv_icmp_eq (tgt := 41) hx hb dX3_readSum_30 (by decide) (fun c => absurd c (by decide)) (fun _ => ?_)
            refine lv_iload_n hx hb dX3_readSum_33 rfl (lv_at hl 0 rfl) ?_
            refine lv_bipush (v := 45) hx hb dX3_readSum_34 (by decide) ?_
            refine lv_icmp_eq (tgt := 41) hx hb dX3_readSum_36 (by decide) (fun c => absurd c (by decide)) (fun _ => ?_)
            refine lv_iconst (v := 1) hx hb dX3_readSum_39 (by decide) ?_
            subst hQ
            have hP9 := hP.sub (ws' := (wd_1ad0248d h0 h1 h3 x77 h1 h2 v1 x89 v3 x79 h2 g0 f5 h3 g1 fn80)) [0, 1, 2, 3] rfl
            have hD9 := hD.sub (ws' := (wd_1ad0248d h0 h1 h3 x77 h1 h2 v1 x89 v3 x79 h2 g0 f5 h3 g1 fn80)) [0, 1, 2, 3] (by decide) rfl
            have hK9 := hK.sub (tys' := []) [] rfl
            exact W.zret (v := 1) hx hb hr rfl (fun t ht hW => ⟨⟨1, 1, rfl, rfl, Or.inl ⟨x77, x89, x79, fn80, qa_x77, qb_x77, oa_x89, ob_x89, by first | omega | decide, by first | omega | decide, by omega, by rw [pg_sum.eq]; first | assumption | (apply pg_L.stop <;> first | assumption | omega) | exact pg_L.stop (by assumption) (pg_s.here (by rw [pg_ch.off (by omega)]; decide)) (by rw [pg_ch.off (by omega)]; decide), by rw [ht]; exact hP9, va_K.moved hW.alike hK9, hD9⟩⟩, hS.F ht⟩) hS.2.2 dX3_readSum_40
          · skip
            obtain ⟨x90, oa_x90, ob_x90, pt0_ra88, pt1_ra88, pt2_ra88, pt3_ra88, pt4_ra88, pt5_ra88, pt6_ra88, hP1, hK1, hD1⟩ := hB
            rw [ht] at hP1
            obtain ⟨hP2, hD2⟩ := va_join (wr := (wd_b958b9da h0 h1 h3 x77 h3 g1 fn80)) (w1 := (wd_82cdd16b h1 h2 v1 x90 v3 x79 h2 g0 f5)) hP hD [1, 2] [0, 3] rfl rfl (by decide) (by decide) hk1 hFc hP1 hD1
            clear hP hD hPc hDc hKc hFc hP1 hK1 hD1 hk1 hz1
            generalize H1 = H at hP2 hS ⊢
            have hP := hP2.sub (ws' := (wd_1ad0248d h0 h1 h3 x77 h1 h2 v1 x90 v3 x79 h2 g0 f5 h3 g1 fn80)) [0, 2, 3, 1] rfl
            have hD := hD2.sub (ws' := (wd_1ad0248d h0 h1 h3 x77 h1 h2 v1 x90 v3 x79 h2 g0 f5 h3 g1 fn80)) [0, 2, 3, 1] (by decide) rfl
            clear hP2 hD2
            refine lv_istore_n (lv' := [(3, .int ra88), (2, .int x76), (0, .ref h0), (1, .int 0)]) hx hb dX3_readSum_26 rfl hl (by decide) rfl (fun ls hl => ?_)
            refine lv_iload_n hx hb dX3_readSum_27 rfl (lv_at hl 0 rfl) ?_
            refine lv_bipush (v := 43) hx hb dX3_readSum_28 (by decide) ?_
            refine lv_icmp_eq (tgt := 41) hx hb dX3_readSum_30 (by decide) (fun c91 => ?_) (fun c91 => ?_)
            · skip
              have fc91 : ra88.toInt = 43 := congrArg Int32.toInt c91
              refine lv_aload_n hx hb dX3_readSum_41 rfl (lv_at hl 2 rfl) ?_
              refine va_get (D := (dC, dI)) (ci := 3) (v := .ref h1) (C := RX3) (T := TX3) (N := 3) hx hb hts (fun _ h => List.mem_cons_of_mem _ (List.mem_append_left _ (List.mem_append_right _ h))) hown hK hP 0 rfl rfl 0 (by decide) (hts (.fieldLink RX3 19 "LeftArguments$LawReader" "tape" "LLeftArguments$Tape;") (List.mem_cons_of_mem _ (List.mem_append_left _ (List.mem_append_left _ (List.mem_of_getElem? (i := 2) rfl))))) (fun _ h9 => h9) rfl dX3_readSum_42 ?_
              have hPc := hP.sub (ws' := (wd_09b0abee h1 h2 v1 x90 v3 x79)) [1] rfl
              have hDc := hD.sub (ws' := (wd_09b0abee h1 h2 v1 x90 v3 x79)) [1] (by decide) rfl
              have hKc := hK.sub (tys' := []) [] rfl
              have hFc := va_free (wc := (wd_09b0abee h1 h2 v1 x90 v3 x79)) hD hS hA [1] rfl
              refine va_callv (va_runV (As := []) (rest := []) ⟨hx, hb, hml, hown, hts⟩ (k_X10_step l dC dI h1 h2 v1 x90 v3 x79 ⟨i_v1a, i_v1b⟩ ⟨oa_x90, ob_x90⟩ H.size) (cwV 0 hts g_X3_readSum_6_2 rfl rfl rfl (by decide +kernel) ⟨Nat.le_of_ble_eq_true rfl, Nat.le_of_ble_eq_true rfl⟩) (pv_PV10 hPc hKc hDc (q0 := 0) rfl) rfl rfl hl.1 rfl (lv_room (Nat.le_of_ble_eq_true rfl)) dX3_readSum_45 ⟨Nat.le_of_ble_eq_true rfl, Nat.le_of_ble_eq_true rfl⟩) hS (fun q _ h => hFc q h) hFc (fun u t H1 locs ht hvm hwra92 hB hz1 hk1 hS => ?_)
              obtain ⟨x93, oa_x93, ob_x93, pt0_ra92, hP1, hK1, hD1⟩ := hB
              rw [ht] at hP1
              obtain ⟨hP2, hD2⟩ := va_join (wr := (wd_6b0d8e05 h0 h1 h3 x77 h2 g0 f5 h3 g1 fn80)) (w1 := (wd_09b0abee h1 h2 v1 x93 v3 x79)) hP hD [1] [0, 2, 3] rfl rfl (by decide) (by decide) hk1 hFc hP1 hD1
              clear hP hD hPc hDc hKc hFc hP1 hK1 hD1 hk1 hz1
              generalize H1 = H at hP2 hS ⊢
              have hP := hP2.sub (ws' := (wd_1ad0248d h0 h1 h3 x77 h1 h2 v1 x93 v3 x79 h2 g0 f5 h3 g1 fn80)) [0, 3, 1, 2] rfl
              have hD := hD2.sub (ws' := (wd_1ad0248d h0 h1 h3 x77 h1 h2 v1 x93 v3 x79 h2 g0 f5 h3 g1 fn80)) [0, 3, 1, 2] (by decide) rfl
              clear hP2 hD2
              refine lv_aload_n hx hb dX3_readSum_48 rfl (lv_at hl 2 rfl) ?_
              refine lv_iload_n hx hb dX3_readSum_49 rfl (lv_at hl 3 rfl) ?_
              have hPc := hP.sub (ws' := (wd_1ad0248d h0 h1 h3 x77 h1 h2 v1 x93 v3 x79 h2 g0 f5 h3 g1 fn80)) [0, 1, 2, 3] rfl
              have hDc := hD.sub (ws' := (wd_1ad0248d h0 h1 h3 x77 h1 h2 v1 x93 v3 x79 h2 g0 f5 h3 g1 fn80)) [0, 1, 2, 3] (by decide) rfl
              have hKc := hK.sub (tys' := [(g0, .int), (g1, .int)]) [0, 1] rfl
              have hFc := va_free (wc := (wd_1ad0248d h0 h1 h3 x77 h1 h2 v1 x93 v3 x79 h2 g0 f5 h3 g1 fn80)) hD hS hA [0, 1, 2, 3] rfl
              refine va_calli (va_runV (As := [.int 0]) (rest := []) ⟨hx, hb, hml, hown, hts⟩ (k_X3_readTerm_6 l dC dI adK adV h0 h1 h2 h3 x77 v1 x93 v3 x79 g0 f5 g1 fn80 ⟨qa_x77, qb_x77⟩ ⟨i_v1a, i_v1b⟩ ⟨by first | omega | decide, ob_x93⟩ ia_f5 H.size) (cwV 1 hts g_X3_readSum_6_0 rfl rfl rfl (by decide +kernel) ⟨Nat.le_of_ble_eq_true rfl, Nat.le_of_ble_eq_true rfl⟩) ⟨fun a U g mk q => by obtain ⟨q0, q1, qP, qK, qD, n0, n1, n2⟩ := q; exact ⟨q0, q1, qP, va_K.moved (u := U) (U := U.calling g mk a) (Vm.Alike.refl U.vm) qK, qD, vk_R.same rfl n0, va_Z.moved (Vm.Alike.refl _) n1, vk_S.moved (Vm.Alike.refl _) n2⟩, pv_rc3 hKc hPc (q0 := 0) rfl, fun U hU hW => ⟨rfl, by rw [hU], by rw [hU]; exact hPc, va_K.moved hW.alike hKc, hDc.weaken (fun _ _ _ _ => trivial), vk_R.warm hW h_vr_2, (by rw [hU]; exact (va_Z.moved hW.alike (va_Z.kept h_st_CS hS.2.1)).narrow hFc), (by rw [hU]; exact (vk_S.moved hW.alike (vk_S.kept h_st_S hS.2.1)).narrow hFc)⟩⟩ rfl rfl hl.1 rfl (lv_room (Nat.le_of_ble_eq_true rfl)) dX3_readSum_50 ⟨Nat.le_of_ble_eq_true rfl, Nat.le_of_ble_eq_true rfl⟩) hS (fun q _ h => hFc q h) hFc (fun ra94 u t H1 locs ht hvm hwra94 hB hz1 hk1 hS => ?_)
              try rw [hwra94] at hB
              rcases hB with hB | hB
              · skip
                obtain ⟨x95, x96, x97, fn98, oa_x95, ob_x95, oa_x96, ob_x96, pt0_ra94, pt1_ra94, pt2_ra94, pt3_ra94, hP1, hK1, hD1⟩ := hB
                rw [ht] at hP1
                obtain ⟨hP2, hD2⟩ := va_join (wr := []) (w1 := (wd_1ad0248d h0 h1 h3 x95 h1 h2 v1 x96 v3 x97 h2 g0 f5 h3 g1 fn98)) hP hD [0, 1, 2, 3] [] rfl rfl (by decide) (by decide) hk1 hFc hP1 hD1
                clear hP hD hPc hDc hKc hFc hP1 hK1 hD1 hk1 hz1
                generalize H1 = H at hP2 hS ⊢
                have hP : va_P (dC, dI) vwCl (wd_1ad0248d h0 h1 h3 x95 h1 h2 v1 x96 v3 x97 h2 g0 f5 h3 g1 fn98) H := hP2
                have hD : va_D A (wd_1ad0248d h0 h1 h3 x95 h1 h2 v1 x96 v3 x97 h2 g0 f5 h3 g1 fn98) := hD2
                clear hP2 hD2
                obtain rfl : ra94 = (1 : Int32) := pv_cs (by decide) pt0_ra94 pt1_ra94
                refine lv_if_ne (tgt := 58) hx hb dX3_readSum_53 (by decide) (fun _ => ?_) (fun c => absurd c (by decide))
                refine lv_aload_n hx hb dX3_readSum_58 rfl (lv_at hl 2 rfl) ?_
                refine lv_iload_n hx hb dX3_readSum_59 rfl (lv_at hl 0 rfl) ?_
                refine lv_bipush (v := 43) hx hb dX3_readSum_60 (by decide) ?_
                refine lv_icmp_ne (tgt := 69) hx hb dX3_readSum_62 (by decide) (fun c99 => by exfalso; have fc99 : ¬ (ra88.toInt = 43) := fun h9 => c99 (Int32.toInt_inj.mp h9); omega) (fun _ => ?_)
                refine lv_iconst (v := 2) hx hb dX3_readSum_65 (by decide) ?_
                refine lv_goto (tgt := 70) hx hb dX3_readSum_66 (by decide) ?_
                refine lv_iconst (v := 0) hx hb dX3_readSum_70 (by decide) ?_
                have hPc := hP.sub (ws' := (wd_b958b9da h0 h1 h3 x95 h3 g1 fn98)) [0, 3] rfl
                have hDc := hD.sub (ws' := (wd_b958b9da h0 h1 h3 x95 h3 g1 fn98)) [0, 3] (by decide) rfl
                have hKc := hK.sub (tys' := [(g1, .int)]) [1] rfl
                have hFc := va_free (wc := (wd_b958b9da h0 h1 h3 x95 h3 g1 fn98)) hD hS hA [0, 3] rfl
                refine va_callv (va_runV (As := [.int 2, .int 0]) (rest := []) ⟨hx, hb, hml, hown, hts⟩ (k_X3_write l dC dI h0 h3 h1 x95 g1 fn98 2 0 ⟨oa_x95, ob_x95⟩ H.size) (cwV 2 hts g_X3_readSum_6_4 rfl rfl rfl (by decide +kernel) ⟨Nat.le_of_ble_eq_true rfl, Nat.le_of_ble_eq_true rfl⟩) (pv_PV3 hPc hKc hDc (q0 := 0) rfl) rfl rfl hl.1 rfl (lv_room (Nat.le_of_ble_eq_true rfl)) dX3_readSum_71 ⟨Nat.le_of_ble_eq_true rfl, Nat.le_of_ble_eq_true rfl⟩) hS (fun q _ h => hFc q h) hFc (fun u t H1 locs ht hvm hwra100 hB hz1 hk1 hS => ?_)
                obtain ⟨x101, fn102, oa_x101, ob_x101, hP1, hK1, hD1⟩ := hB
                rw [ht] at hP1
                obtain ⟨hP2, hD2⟩ := va_join (wr := (wd_82cdd16b h1 h2 v1 x96 v3 x97 h2 g0 f5)) (w1 := (wd_b958b9da h0 h1 h3 x101 h3 g1 fn102)) hP hD [0, 3] [1, 2] rfl rfl (by decide) (by decide) hk1 hFc hP1 hD1
                clear hP hD hPc hDc hKc hFc hP1 hK1 hD1 hk1 hz1
                generalize H1 = H at hP2 hS ⊢
                have hP := hP2.sub (ws' := (wd_1ad0248d h0 h1 h3 x101 h1 h2 v1 x96 v3 x97 h2 g0 f5 h3 g1 fn102)) [2, 0, 1, 3] rfl
                have hD := hD2.sub (ws' := (wd_1ad0248d h0 h1 h3 x101 h1 h2 v1 x96 v3 x97 h2 g0 f5 h3 g1 fn102)) [2, 0, 1, 3] (by decide) rfl
                clear hP2 hD2
                obtain ⟨t103, et103⟩ : ∃ y : Int32, y = x76 + 1 := ⟨_, rfl⟩
                have gt103 : t103.toInt = x76.toInt + (1) := pv_add (a := x76.toInt) (b := (1)) et103 rfl (by decide) (by omega) (by omega)
                refine lv_iinc (v := t103) (lv' := [(2, .int t103), (3, .int ra88), (0, .ref h0), (1, .int 0)]) hx hb dX3_readSum_74 hl (k := 1) rfl (by rw [et103]; rfl) (by decide) rfl (fun ls hl => ?_)
                refine lv_goto (tgt := 12) hx hb dX3_readSum_77 (by decide) ?_
                exact ih_hL86 t103 x101 x96 x97 fn102 H locs ls (by first | omega | decide) (by first | omega | decide) oa_x101 ob_x101 oa_x96 ob_x96 (by first | assumption | (apply pg_row.go <;> first | assumption | omega) | (apply pg_L.bi <;> first | assumption | omega) | (apply pg_L.step <;> first | assumption | omega)) (by first | omega | ((have h09 : ((0 : Int32)).toInt = 0 := by decide); omega)) (by omega) (by first | omega | (simp only [Int.toNat] at *; omega)) hP hD hS (lv_sub hl [0, 2, 3] rfl)
              · skip
                obtain ⟨x104, x105, x106, x107, fn108, oa_x104, ob_x104, oa_x105, ob_x105, oa_x106, ob_x106, pt0_ra94, pt1_ra94, pt2_ra94, pt3_ra94, hP1, hK1, hD1⟩ := hB
                rw [ht] at hP1
                obtain ⟨hP2, hD2⟩ := va_join (wr := []) (w1 := (wd_1ad0248d h0 h1 h3 x104 h1 h2 v1 x105 x106 x107 h2 g0 f5 h3 g1 fn108)) hP hD [0, 1, 2, 3] [] rfl rfl (by decide) (by decide) hk1 hFc hP1 hD1
                clear hP hD hPc hDc hKc hFc hP1 hK1 hD1 hk1 hz1
                generalize H1 = H at hP2 hS ⊢
                have hP : va_P (dC, dI) vwCl (wd_1ad0248d h0 h1 h3 x104 h1 h2 v1 x105 x106 x107 h2 g0 f5 h3 g1 fn108) H := hP2
                have hD : va_D A (wd_1ad0248d h0 h1 h3 x104 h1 h2 v1 x105 x106 x107 h2 g0 f5 h3 g1 fn108) := hD2
                clear hP2 hD2
                obtain rfl : ra94 = (0 : Int32) := pv_cs (by decide) pt0_ra94 pt1_ra94
                refine lv_if_ne (tgt := 58) hx hb dX3_readSum_53 (by decide) (fun c => absurd (by decide) c) (fun _ => ?_)
                refine lv_iconst (v := 0) hx hb dX3_readSum_56 (by decide) ?_
                subst hQ
                have hP9 := hP.sub (ws' := (wd_1ad0248d h0 h1 h3 x104 h1 h2 v1 x105 x106 x107 h2 g0 f5 h3 g1 fn108)) [0, 1, 2, 3] rfl
                have hD9 := hD.sub (ws' := (wd_1ad0248d h0 h1 h3 x104 h1 h2 v1 x105 x106 x107 h2 g0 f5 h3 g1 fn108)) [0, 1, 2, 3] (by decide) rfl
                have hK9 := hK.sub (tys' := []) [] rfl
                exact W.zret (v := 0) hx hb hr rfl (fun t ht hW => ⟨⟨0, 0, rfl, rfl, Or.inr (⟨x104, x105, x106, x107, fn108, oa_x104, ob_x104, oa_x105, ob_x105, oa_x106, ob_x106, by first | omega | decide, by first | omega | decide, by omega, by rw [pg_sum.eq]; first | assumption | (apply pg_row.no <;> first | assumption | omega) | (apply pg_L.no <;> first | assumption | omega), by rw [ht]; exact hP9, va_K.moved hW.alike hK9, hD9⟩)⟩, hS.F ht⟩) hS.2.2 dX3_readSum_57
            · skip
              have fc91 : ¬ (ra88.toInt = 43) := fun h9 => c91 (Int32.toInt_inj.mp h9)
              refine lv_iload_n hx hb dX3_readSum_33 rfl (lv_at hl 0 rfl) ?_
              refine lv_bipush (v := 45) hx hb dX3_readSum_34 (by decide) ?_
              refine lv_icmp_eq (tgt := 41) hx hb dX3_readSum_36 (by decide) (fun c109 => ?_) (fun c109 => ?_)
              · skip
                have fc109 : ra88.toInt = 45 := congrArg Int32.toInt c109
                refine lv_aload_n hx hb dX3_readSum_41 rfl (lv_at hl 2 rfl) ?_
                refine va_get (D := (dC, dI)) (ci := 3) (v := .ref h1) (C := RX3) (T := TX3) (N := 3) hx hb hts (fun _ h => List.mem_cons_of_mem _ (List.mem_append_left _ (List.mem_append_right _ h))) hown hK hP 0 rfl rfl 0 (by decide) (hts (.fieldLink RX3 19 "LeftArguments$LawReader" "tape" "LLeftArguments$Tape;") (List.mem_cons_of_mem _ (List.mem_append_left _ (List.mem_append_left _ (List.mem_of_getElem? (i := 2) rfl))))) (fun _ h9 => h9) rfl dX3_readSum_42 ?_
                have hPc := hP.sub (ws' := (wd_09b0abee h1 h2 v1 x90 v3 x79)) [1] rfl
                have hDc := hD.sub (ws' := (wd_09b0abee h1 h2 v1 x90 v3 x79)) [1] (by decide) rfl
                have hKc := hK.sub (tys' := []) [] rfl
                have hFc := va_free (wc := (wd_09b0abee h1 h2 v1 x90 v3 x79)) hD hS hA [1] rfl
                refine va_callv (va_runV (As := []) (rest := []) ⟨hx, hb, hml, hown, hts⟩ (k_X10_step l dC dI h1 h2 v1 x90 v3 x79 ⟨i_v1a, i_v1b⟩ ⟨oa_x90, ob_x90⟩ H.size) (cwV 0 hts g_X3_readSum_6_2 rfl rfl rfl (by decide +kernel) ⟨Nat.le_of_ble_eq_true rfl, Nat.le_of_ble_eq_true rfl⟩) (pv_PV10 hPc hKc hDc (q0 := 0) rfl) rfl rfl hl.1 rfl (lv_room (Nat.le_of_ble_eq_true rfl)) dX3_readSum_45 ⟨Nat.le_of_ble_eq_true rfl, Nat.le_of_ble_eq_true rfl⟩) hS (fun q _ h => hFc q h) hFc (fun u t H1 locs ht hvm hwra110 hB hz1 hk1 hS => ?_)
                obtain ⟨x111, oa_x111, ob_x111, pt0_ra110, hP1, hK1, hD1⟩ := hB
                rw [ht] at hP1
                obtain ⟨hP2, hD2⟩ := va_join (wr := (wd_6b0d8e05 h0 h1 h3 x77 h2 g0 f5 h3 g1 fn80)) (w1 := (wd_09b0abee h1 h2 v1 x111 v3 x79)) hP hD [1] [0, 2, 3] rfl rfl (by decide) (by decide) hk1 hFc hP1 hD1
                clear hP hD hPc hDc hKc hFc hP1 hK1 hD1 hk1 hz1
                generalize H1 = H at hP2 hS ⊢
                have hP := hP2.sub (ws' := (wd_1ad0248d h0 h1 h3 x77 h1 h2 v1 x111 v3 x79 h2 g0 f5 h3 g1 fn80)) [0, 3, 1, 2] rfl
                have hD := hD2.sub (ws' := (wd_1ad0248d h0 h1 h3 x77 h1 h2 v1 x111 v3 x79 h2 g0 f5 h3 g1 fn80)) [0, 3, 1, 2] (by decide) rfl
                clear hP2 hD2
                refine lv_aload_n hx hb dX3_readSum_48 rfl (lv_at hl 2 rfl) ?_
                refine lv_iload_n hx hb dX3_readSum_49 rfl (lv_at hl 3 rfl) ?_
                have hPc := hP.sub (ws' := (wd_1ad0248d h0 h1 h3 x77 h1 h2 v1 x111 v3 x79 h2 g0 f5 h3 g1 fn80)) [0, 1, 2, 3] rfl
                have hDc := hD.sub (ws' := (wd_1ad0248d h0 h1 h3 x77 h1 h2 v1 x111 v3 x79 h2 g0 f5 h3 g1 fn80)) [0, 1, 2, 3] (by decide) rfl
                have hKc := hK.sub (tys' := [(g0, .int), (g1, .int)]) [0, 1] rfl
                have hFc := va_free (wc := (wd_1ad0248d h0 h1 h3 x77 h1 h2 v1 x111 v3 x79 h2 g0 f5 h3 g1 fn80)) hD hS hA [0, 1, 2, 3] rfl
                refine va_calli (va_runV (As := [.int 0]) (rest := []) ⟨hx, hb, hml, hown, hts⟩ (k_X3_readTerm_6 l dC dI adK adV h0 h1 h2 h3 x77 v1 x111 v3 x79 g0 f5 g1 fn80 ⟨qa_x77, qb_x77⟩ ⟨i_v1a, i_v1b⟩ ⟨by first | omega | decide, ob_x111⟩ ia_f5 H.size) (cwV 1 hts g_X3_readSum_6_0 rfl rfl rfl (by decide +kernel) ⟨Nat.le_of_ble_eq_true rfl, Nat.le_of_ble_eq_true rfl⟩) ⟨fun a U g mk q => by obtain ⟨q0, q1, qP, qK, qD, n0, n1, n2⟩ := q; exact ⟨q0, q1, qP, va_K.moved (u := U) (U := U.calling g mk a) (Vm.Alike.refl U.vm) qK, qD, vk_R.same rfl n0, va_Z.moved (Vm.Alike.refl _) n1, vk_S.moved (Vm.Alike.refl _) n2⟩, pv_rc3 hKc hPc (q0 := 0) rfl, fun U hU hW => ⟨rfl, by rw [hU], by rw [hU]; exact hPc, va_K.moved hW.alike hKc, hDc.weaken (fun _ _ _ _ => trivial), vk_R.warm hW h_vr_2, (by rw [hU]; exact (va_Z.moved hW.alike (va_Z.kept h_st_CS hS.2.1)).narrow hFc), (by rw [hU]; exact (vk_S.moved hW.alike (vk_S.kept h_st_S hS.2.1)).narrow hFc)⟩⟩ rfl rfl hl.1 rfl (lv_room (Nat.le_of_ble_eq_true rfl)) dX3_readSum_50 ⟨Nat.le_of_ble_eq_true rfl, Nat.le_of_ble_eq_true rfl⟩) hS (fun q _ h => hFc q h) hFc (fun ra112 u t H1 locs ht hvm hwra112 hB hz1 hk1 hS => ?_)
                try rw [hwra112] at hB
                rcases hB with hB | hB
                · skip
                  obtain ⟨x113, x114, x115, fn116, oa_x113, ob_x113, oa_x114, ob_x114, pt0_ra112, pt1_ra112, pt2_ra112, pt3_ra112, hP1, hK1, hD1⟩ := hB
                  rw [ht] at hP1
                  obtain ⟨hP2, hD2⟩ := va_join (wr := []) (w1 := (wd_1ad0248d h0 h1 h3 x113 h1 h2 v1 x114 v3 x115 h2 g0 f5 h3 g1 fn116)) hP hD [0, 1, 2, 3] [] rfl rfl (by decide) (by decide) hk1 hFc hP1 hD1
                  clear hP hD hPc hDc hKc hFc hP1 hK1 hD1 hk1 hz1
                  generalize H1 = H at hP2 hS ⊢
                  have hP : va_P (dC, dI) vwCl (wd_1ad0248d h0 h1 h3 x113 h1 h2 v1 x114 v3 x115 h2 g0 f5 h3 g1 fn116) H := hP2
                  have hD : va_D A (wd_1ad0248d h0 h1 h3 x113 h1 h2 v1 x114 v3 x115 h2 g0 f5 h3 g1 fn116) := hD2
                  clear hP2 hD2
                  obtain rfl : ra112 = (1 : Int32) := pv_cs (by decide) pt0_ra112 pt1_ra112
                  refine lv_if_ne (tgt := 58) hx hb dX3_readSum_53 (by decide) (fun _ => ?_) (fun c => absurd c (by decide))
                  refine lv_aload_n hx hb dX3_readSum_58 rfl (lv_at hl 2 rfl) ?_
                  refine lv_iload_n hx hb dX3_readSum_59 rfl (lv_at hl 0 rfl) ?_
                  refine lv_bipush (v := 43) hx hb dX3_readSum_60 (by decide) ?_
                  refine lv_icmp_ne (tgt := 69) hx hb dX3_readSum_62 (by decide) (fun _ => ?_) (fun c117 => by exfalso; have fc117 : ra88.toInt = 43 := congrArg Int32.toInt c117; omega)
                  refine lv_iconst (v := 3) hx hb dX3_readSum_69 (by decide) ?_
                  refine lv_iconst (v := 0) hx hb dX3_readSum_70 (by decide) ?_
                  have hPc := hP.sub (ws' := (wd_b958b9da h0 h1 h3 x113 h3 g1 fn116)) [0, 3] rfl
                  have hDc := hD.sub (ws' := (wd_b958b9da h0 h1 h3 x113 h3 g1 fn116)) [0, 3] (by decide) rfl
                  have hKc := hK.sub (tys' := [(g1, .int)]) [1] rfl
                  have hFc := va_free (wc := (wd_b958b9da h0 h1 h3 x113 h3 g1 fn116)) hD hS hA [0, 3] rfl
                  refine va_callv (va_runV (As := [.int 3, .int 0]) (rest := []) ⟨hx, hb, hml, hown, hts⟩ (k_X3_write l dC dI h0 h3 h1 x113 g1 fn116 3 0 ⟨oa_x113, ob_x113⟩ H.size) (cwV 2 hts g_X3_readSum_6_4 rfl rfl rfl (by decide +kernel) ⟨Nat.le_of_ble_eq_true rfl, Nat.le_of_ble_eq_true rfl⟩) (pv_PV3 hPc hKc hDc (q0 := 0) rfl) rfl rfl hl.1 rfl (lv_room (Nat.le_of_ble_eq_true rfl)) dX3_readSum_71 ⟨Nat.le_of_ble_eq_true rfl, Nat.le_of_ble_eq_true rfl⟩) hS (fun q _ h => hFc q h) hFc (fun u t H1 locs ht hvm hwra118 hB hz1 hk1 hS => ?_)
                  obtain ⟨x119, fn120, oa_x119, ob_x119, hP1, hK1, hD1⟩ := hB
                  rw [ht] at hP1
                  obtain ⟨hP2, hD2⟩ := va_join (wr := (wd_82cdd16b h1 h2 v1 x114 v3 x115 h2 g0 f5)) (w1 := (wd_b958b9da h0 h1 h3 x119 h3 g1 fn120)) hP hD [0, 3] [1, 2] rfl rfl (by decide) (by decide) hk1 hFc hP1 hD1
                  clear hP hD hPc hDc hKc hFc hP1 hK1 hD1 hk1 hz1
                  generalize H1 = H at hP2 hS ⊢
                  have hP := hP2.sub (ws' := (wd_1ad0248d h0 h1 h3 x119 h1 h2 v1 x114 v3 x115 h2 g0 f5 h3 g1 fn120)) [2, 0, 1, 3] rfl
                  have hD := hD2.sub (ws' := (wd_1ad0248d h0 h1 h3 x119 h1 h2 v1 x114 v3 x115 h2 g0 f5 h3 g1 fn120)) [2, 0, 1, 3] (by decide) rfl
                  clear hP2 hD2
                  obtain ⟨t121, et121⟩ : ∃ y : Int32, y = x76 + 1 := ⟨_, rfl⟩
                  have gt121 : t121.toInt = x76.toInt + (1) := pv_add (a := x76.toInt) (b := (1)) et121 rfl (by decide) (by omega) (by omega)
                  refine lv_iinc (v := t121) (lv' := [(2, .int t121), (3, .int ra88), (0, .ref h0), (1, .int 0)]) hx hb dX3_readSum_74 hl (k := 1) rfl (by rw [et121]; rfl) (by decide) rfl (fun ls hl => ?_)
                  refine lv_goto (tgt := 12) hx hb dX3_readSum_77 (by decide) ?_
                  exact ih_hL86 t121 x119 x114 x115 fn120 H locs ls (by first | omega | decide) (by first | omega | decide) oa_x119 ob_x119 oa_x114 ob_x114 (by first | assumption | (apply pg_row.go <;> first | assumption | omega) | (apply pg_L.bi <;> first | assumption | omega) | (apply pg_L.step <;> first | assumption | omega)) (by first | omega | ((have h09 : ((0 : Int32)).toInt = 0 := by decide); omega)) (by omega) (by first | omega | (simp only [Int.toNat] at *; omega)) hP hD hS (lv_sub hl [0, 2, 3] rfl)
                · skip
                  obtain ⟨x122, x123, x124, x125, fn126, oa_x122, ob_x122, oa_x123, ob_x123, oa_x124, ob_x124, pt0_ra112, pt1_ra112, pt2_ra112, pt3_ra112, hP1, hK1, hD1⟩ := hB
                  rw [ht] at hP1
                  obtain ⟨hP2, hD2⟩ := va_join (wr := []) (w1 := (wd_1ad0248d h0 h1 h3 x122 h1 h2 v1 x123 x124 x125 h2 g0 f5 h3 g1 fn126)) hP hD [0, 1, 2, 3] [] rfl rfl (by decide) (by decide) hk1 hFc hP1 hD1
                  clear hP hD hPc hDc hKc hFc hP1 hK1 hD1 hk1 hz1
                  generalize H1 = H at hP2 hS ⊢
                  have hP : va_P (dC, dI) vwCl (wd_1ad0248d h0 h1 h3 x122 h1 h2 v1 x123 x124 x125 h2 g0 f5 h3 g1 fn126) H := hP2
                  have hD : va_D A (wd_1ad0248d h0 h1 h3 x122 h1 h2 v1 x123 x124 x125 h2 g0 f5 h3 g1 fn126) := hD2
                  clear hP2 hD2
                  obtain rfl : ra112 = (0 : Int32) := pv_cs (by decide) pt0_ra112 pt1_ra112
                  refine lv_if_ne (tgt := 58) hx hb dX3_readSum_53 (by decide) (fun c => absurd (by decide) c) (fun _ => ?_)
                  refine lv_iconst (v := 0) hx hb dX3_readSum_56 (by decide) ?_
                  subst hQ
                  have hP9 := hP.sub (ws' := (wd_1ad0248d h0 h1 h3 x122 h1 h2 v1 x123 x124 x125 h2 g0 f5 h3 g1 fn126)) [0, 1, 2, 3] rfl
                  have hD9 := hD.sub (ws' := (wd_1ad0248d h0 h1 h3 x122 h1 h2 v1 x123 x124 x125 h2 g0 f5 h3 g1 fn126)) [0, 1, 2, 3] (by decide) rfl
                  have hK9 := hK.sub (tys' := []) [] rfl
                  exact W.zret (v := 0) hx hb hr rfl (fun t ht hW => ⟨⟨0, 0, rfl, rfl, Or.inr (⟨x122, x123, x124, x125, fn126, oa_x122, ob_x122, oa_x123, ob_x123, oa_x124, ob_x124, by first | omega | decide, by first | omega | decide, by omega, by rw [pg_sum.eq]; first | assumption | (apply pg_row.no <;> first | assumption | omega) | (apply pg_L.no <;> first | assumption | omega), by rw [ht]; exact hP9, va_K.moved hW.alike hK9, hD9⟩)⟩, hS.F ht⟩) hS.2.2 dX3_readSum_57
              · skip
                have fc109 : ¬ (ra88.toInt = 45) := fun h9 => c109 (Int32.toInt_inj.mp h9)
                refine lv_iconst (v := 1) hx hb dX3_readSum_39 (by decide) ?_
                subst hQ
                have hP9 := hP.sub (ws' := (wd_1ad0248d h0 h1 h3 x77 h1 h2 v1 x90 v3 x79 h2 g0 f5 h3 g1 fn80)) [0, 1, 2, 3] rfl
                have hD9 := hD.sub (ws' := (wd_1ad0248d h0 h1 h3 x77 h1 h2 v1 x90 v3 x79 h2 g0 f5 h3 g1 fn80)) [0, 1, 2, 3] (by decide) rfl
                have hK9 := hK.sub (tys' := []) [] rfl
                exact W.zret (v := 1) hx hb hr rfl (fun t ht hW => ⟨⟨1, 1, rfl, rfl, Or.inl ⟨x77, x90, x79, fn80, qa_x77, qb_x77, oa_x90, by first | omega | decide, by first | omega | decide, by first | omega | decide, by omega, by rw [pg_sum.eq]; first | assumption | (apply pg_L.stop <;> first | assumption | omega) | exact pg_L.stop (by assumption) (pg_s.here (by rw [pg_ch.off (by omega)]; decide)) (by rw [pg_ch.off (by omega)]; decide), by rw [ht]; exact hP9, va_K.moved hW.alike hK9, hD9⟩⟩, hS.F ht⟩) hS.2.2 dX3_readSum_40
    exact hL86 _ 0 x2 x3 x4 fn5 H locs ls (by decide) (by decide) oa_x2 ob_x2 oa_x3 ob_x3 (by first | assumption | (apply pg_row.go <;> first | assumption | omega) | (apply pg_L.bi <;> first | assumption | omega) | (apply pg_L.step <;> first | assumption | omega)) (by first | omega | ((have h09 : ((0 : Int32)).toInt = 0 := by decide); omega)) (by omega) (Nat.lt_succ_self _) hP hD hS (lv_sub hl [0, 1, 2] rfl)
  · skip
    obtain ⟨x127, x128, x129, x130, fn131, oa_x127, ob_x127, oa_x128, ob_x128, oa_x129, ob_x129, pt0_ra1, pt1_ra1, pt2_ra1, pt3_ra1, hP1, hK1, hD1⟩ := hB
    rw [ht] at hP1
    obtain ⟨hP2, hD2⟩ := va_join (wr := []) (w1 := (wd_1ad0248d h0 h1 h3 x127 h1 h2 v1 x128 x129 x130 h2 g0 f5 h3 g1 fn131)) hP hD [0, 1, 2, 3] [] rfl rfl (by decide) (by decide) hk1 hFc hP1 hD1
    clear hP hD hPc hDc hKc hFc hP1 hK1 hD1 hk1 hz1
    generalize H1 = H at hP2 hS ⊢
    have hP : va_P (dC, dI) vwCl (wd_1ad0248d h0 h1 h3 x127 h1 h2 v1 x128 x129 x130 h2 g0 f5 h3 g1 fn131) H := hP2
    have hD : va_D A (wd_1ad0248d h0 h1 h3 x127 h1 h2 v1 x128 x129 x130 h2 g0 f5 h3 g1 fn131) := hD2
    clear hP2 hD2
    obtain rfl : ra1 = (0 : Int32) := pv_cs (by decide) pt0_ra1 pt1_ra1
    refine lv_if_ne (tgt := 10) hx hb dX3_readSum_5 (by decide) (fun c => absurd (by decide) c) (fun _ => ?_)
    refine lv_iconst (v := 0) hx hb dX3_readSum_8 (by decide) ?_
    subst hQ
    have hP9 := hP.sub (ws' := (wd_1ad0248d h0 h1 h3 x127 h1 h2 v1 x128 x129 x130 h2 g0 f5 h3 g1 fn131)) [0, 1, 2, 3] rfl
    have hD9 := hD.sub (ws' := (wd_1ad0248d h0 h1 h3 x127 h1 h2 v1 x128 x129 x130 h2 g0 f5 h3 g1 fn131)) [0, 1, 2, 3] (by decide) rfl
    have hK9 := hK.sub (tys' := []) [] rfl
    exact W.zret (v := 0) hx hb hr rfl (fun t ht hW => ⟨⟨0, 0, rfl, rfl, Or.inr (⟨x127, x128, x129, x130, fn131, oa_x127, ob_x127, oa_x128, ob_x128, oa_x129, ob_x129, by first | omega | decide, by first | omega | decide, by omega, by rw [pg_sum.eq]; first | assumption | (apply pg_row.no <;> first | assumption | omega) | (apply pg_L.no <;> first | assumption | omega), by rw [ht]; exact hP9, va_K.moved hW.alike hK9, hD9⟩)⟩, hS.F ht⟩) hS.2.2 dX3_readSum_9
def q_X3_comparing : List Cond := .code yX3_comparing cX3_comparing 1 (some .int) :: (([] : List Cond))
set_option maxHeartbeats 4000000 in
set_option maxRecDepth 100000 in
theorem k_X3_comparing (l : Launch) (dC : Nat → ClassId) (dI : Nat → Nat → Nat)  (sz : Nat) : Met l yX3_comparing q_X3_comparing ({ frames := 0, cells := 0, slots := 0, locals := 0 }) (va_Pc [.int (-1)] (fun U => U.heap.size = sz ∧ va_P (dC, dI) vwCl [] U.heap ∧ va_K (dC, dI) vwCl [] U ∧ va_D (fun _ => True) [])) (va_Qi (fun (r : Int32) (r9 : Int32) => r9 = r) (fun (r : Int32) (t : State) => ((-1 ≤ r.toInt) ∧ (r.toInt ≤ -1) ∧ va_P (dC, dI) vwCl [] t.heap ∧ va_K (dC, dI) vwCl [] t ∧ va_D (va_A [] sz) [])) (va_A [] sz)) 0 0 (va_A [] sz) := by
  refine Met.ofW (cc := cX3_comparing) (maxL := 1) (ret := (some .int)) (by decide) rfl ?_
  intro p e s m args below meth c s₁ B hml hv
  obtain ⟨rfl, hsz, hP, hK, hD0⟩ := hv
  have hx := B.exec
  have hb := B.bytes
  have hr := B.returns
  have hts := atoms_spec (ws := q_X3_comparing) B.pre
  have hown : s.vm.findClass RX3 = some m.cls := findClass_of_methodNamed B.named
  have hlocks := B.notSynchronized
  subst hsz
  have hD := hD0.self (sz := s.heap.size)
  generalize hAe : va_A [] s.heap.size = A at hD ⊢
  have hA : ∀ q : Nat, s.heap.size ≤ q → A q := fun q h => by rw [← hAe]; exact Or.inr h
  have hS : va_S A s.heap s.heap [] := va_S.rf
  generalize hQ : (MQ below _ _ s 0 0 A) = Q
  have hl := lv_entry ([.int (-1)]) (n := 1) (Nat.le_of_ble_eq_true rfl)
  rw [lg_entry_eq]
  generalize (lg_sl ([.int (-1)]) ++ List.replicate (1 - (lg_sl ([.int (-1)])).length) Slot.unset).toArray = ls at hl ⊢
  have hl : lv_has ls 1 [(0, .int (-1))] := hl
  obtain ⟨H, hH⟩ : ∃ H : Heap, H = s.heap := ⟨_, rfl⟩
  obtain ⟨locs, hlocs⟩ : ∃ y : List Loc, y = [] := ⟨_, rfl⟩
  have hS : va_S A s.heap H locs := by rw [hH, hlocs]; exact va_S.rf
  have hP : va_P (dC, dI) vwCl [] H := by rw [hH]; exact hP
  rw [← hH, ← hlocs]
  refine lv_iload_n hx hb dX3_comparing_0 rfl (lv_at hl 0 rfl) ?_
  refine lv_tableOut (tgt := 37) hx hb dX3_comparing_1 (by decide) (by decide) ?_
  refine lv_iconst (v := (-1)) hx hb dX3_comparing_37 (by decide) ?_
  subst hQ
  have hP9 := hP.sub (ws' := []) [] rfl
  have hD9 := hD.sub (ws' := []) [] (by decide) rfl
  have hK9 := hK.sub (tys' := []) [] rfl
  exact W.iret (v := (-1)) hx hb hr (fun t ht hW => ⟨⟨(-1), (-1), rfl, rfl, ⟨by first | omega | decide, by first | omega | decide, by rw [ht]; exact hP9, va_K.moved hW.alike hK9, hD9⟩⟩, hS.F ht⟩) hS.2.2 dX3_comparing_38
def q_X3_comparing_1 : List Cond := .code yX3_comparing cX3_comparing 1 (some .int) :: (([] : List Cond))
set_option maxHeartbeats 4000000 in
set_option maxRecDepth 100000 in
theorem k_X3_comparing_1 (l : Launch) (dC : Nat → ClassId) (dI : Nat → Nat → Nat) (v0 : Int32) (sz : Nat) : Met l yX3_comparing q_X3_comparing_1 ({ frames := 0, cells := 0, slots := 0, locals := 0 }) (va_Pc [.int v0] (fun U => U.heap.size = sz ∧ va_P (dC, dI) vwCl [] U.heap ∧ va_K (dC, dI) vwCl [] U ∧ va_D (fun _ => True) [])) (va_Qi (fun (r : Int32) (r9 : Int32) => r9 = r) (fun (r : Int32) (t : State) => ((-1 ≤ r.toInt) ∧ (r.toInt ≤ 8) ∧ ((r.toInt = -1 ∧ ¬ (60 ≤ v0.toInt ∧ v0.toInt ≤ 62)) ∨ (6 ≤ r.toInt ∧ 60 ≤ v0.toInt ∧ v0.toInt ≤ 62)) ∧ va_P (dC, dI) vwCl [] t.heap ∧ va_K (dC, dI) vwCl [] t ∧ va_D (va_A [] sz) [])) (va_A [] sz)) 0 0 (va_A [] sz) := by
  refine Met.ofW (cc := cX3_comparing) (maxL := 1) (ret := (some .int)) (by decide) rfl ?_
  intro p e s m args below meth c s₁ B hml hv
  obtain ⟨rfl, hsz, hP, hK, hD0⟩ := hv
  have hx := B.exec
  have hb := B.bytes
  have hr := B.returns
  have hts := atoms_spec (ws := q_X3_comparing_1) B.pre
  have hown : s.vm.findClass RX3 = some m.cls := findClass_of_methodNamed B.named
  have hlocks := B.notSynchronized
  subst hsz
  have hD := hD0.self (sz := s.heap.size)
  generalize hAe : va_A [] s.heap.size = A at hD ⊢
  have hA : ∀ q : Nat, s.heap.size ≤ q → A q := fun q h => by rw [← hAe]; exact Or.inr h
  have hS : va_S A s.heap s.heap [] := va_S.rf
  generalize hQ : (MQ below _ _ s 0 0 A) = Q
  have hl := lv_entry ([.int v0]) (n := 1) (Nat.le_of_ble_eq_true rfl)
  rw [lg_entry_eq]
  generalize (lg_sl ([.int v0]) ++ List.replicate (1 - (lg_sl ([.int v0])).length) Slot.unset).toArray = ls at hl ⊢
  have hl : lv_has ls 1 [(0, .int v0)] := hl
  obtain ⟨H, hH⟩ : ∃ H : Heap, H = s.heap := ⟨_, rfl⟩
  obtain ⟨locs, hlocs⟩ : ∃ y : List Loc, y = [] := ⟨_, rfl⟩
  have hS : va_S A s.heap H locs := by rw [hH, hlocs]; exact va_S.rf
  have hP : va_P (dC, dI) vwCl [] H := by rw [hH]; exact hP
  rw [← hH, ← hlocs]
  refine lv_iload_n hx hb dX3_comparing_0 rfl (lv_at hl 0 rfl) ?_
  by_cases c1 : v0 = 60
  · skip
    have fc1 : v0.toInt = 60 := congrArg Int32.toInt c1
    refine lv_tableIn (off := 30) (tgt := 31) hx hb dX3_comparing_1 (by rw [c1]; decide) (by rw [c1]; decide) (by rw [c1]; rfl) (by decide) ?_
    refine lv_bipush (v := 7) hx hb dX3_comparing_31 (by decide) ?_
    subst hQ
    have hP9 := hP.sub (ws' := []) [] rfl
    have hD9 := hD.sub (ws' := []) [] (by decide) rfl
    have hK9 := hK.sub (tys' := []) [] rfl
    exact W.iret (v := 7) hx hb hr (fun t ht hW => ⟨⟨7, 7, rfl, rfl, ⟨by first | omega | decide, by first | omega | decide, Or.inr ⟨by decide, by omega, by omega⟩, by rw [ht]; exact hP9, va_K.moved hW.alike hK9, hD9⟩⟩, hS.F ht⟩) hS.2.2 dX3_comparing_33
  have fc1 : ¬ (v0.toInt = 60) := fun h9 => c1 (Int32.toInt_inj.mp h9)
  by_cases c2 : v0 = 61
  · skip
    have fc2 : v0.toInt = 61 := congrArg Int32.toInt c2
    refine lv_tableIn (off := 27) (tgt := 28) hx hb dX3_comparing_1 (by rw [c2]; decide) (by rw [c2]; decide) (by rw [c2]; rfl) (by decide) ?_
    refine lv_bipush (v := 6) hx hb dX3_comparing_28 (by decide) ?_
    subst hQ
    have hP9 := hP.sub (ws' := []) [] rfl
    have hD9 := hD.sub (ws' := []) [] (by decide) rfl
    have hK9 := hK.sub (tys' := []) [] rfl
    exact W.iret (v := 6) hx hb hr (fun t ht hW => ⟨⟨6, 6, rfl, rfl, ⟨by first | omega | decide, by first | omega | decide, Or.inr ⟨by decide, by omega, by omega⟩, by rw [ht]; exact hP9, va_K.moved hW.alike hK9, hD9⟩⟩, hS.F ht⟩) hS.2.2 dX3_comparing_30
  have fc2 : ¬ (v0.toInt = 61) := fun h9 => c2 (Int32.toInt_inj.mp h9)
  by_cases c3 : v0 = 62
  · skip
    have fc3 : v0.toInt = 62 := congrArg Int32.toInt c3
    refine lv_tableIn (off := 33) (tgt := 34) hx hb dX3_comparing_1 (by rw [c3]; decide) (by rw [c3]; decide) (by rw [c3]; rfl) (by decide) ?_
    refine lv_bipush (v := 8) hx hb dX3_comparing_34 (by decide) ?_
    subst hQ
    have hP9 := hP.sub (ws' := []) [] rfl
    have hD9 := hD.sub (ws' := []) [] (by decide) rfl
    have hK9 := hK.sub (tys' := []) [] rfl
    exact W.iret (v := 8) hx hb hr (fun t ht hW => ⟨⟨8, 8, rfl, rfl, ⟨by first | omega | decide, by first | omega | decide, Or.inr ⟨by decide, by omega, by omega⟩, by rw [ht]; exact hP9, va_K.moved hW.alike hK9, hD9⟩⟩, hS.F ht⟩) hS.2.2 dX3_comparing_36
  have fc3 : ¬ (v0.toInt = 62) := fun h9 => c3 (Int32.toInt_inj.mp h9)
  refine lv_tableOut (tgt := 37) hx hb dX3_comparing_1 (pv_tabL 60 2 rfl (fun j hj => by rcases (show j = 0 ∨ j = 1 ∨ j = 2 by omega) with rfl | rfl | rfl <;> assumption)) (by decide) ?_
  refine lv_iconst (v := (-1)) hx hb dX3_comparing_37 (by decide) ?_
  subst hQ
  have hP9 := hP.sub (ws' := []) [] rfl
  have hD9 := hD.sub (ws' := []) [] (by decide) rfl
  have hK9 := hK.sub (tys' := []) [] rfl
  exact W.iret (v := (-1)) hx hb hr (fun t ht hW => ⟨⟨(-1), (-1), rfl, rfl, ⟨by first | omega | decide, by first | omega | decide, Or.inl ⟨by decide, by omega⟩, by rw [ht]; exact hP9, va_K.moved hW.alike hK9, hD9⟩⟩, hS.F ht⟩) hS.2.2 dX3_comparing_38
def q_X3_readUnit : List Cond := .code yX3_readUnit cX3_readUnit 5 (some .boolean) :: (([.fieldLink RX3 19 "LeftArguments$LawReader" "tape" "LLeftArguments$Tape;", .code yX10_next cX10_next 1 (some .int), .fieldLink RX10 19 "LeftArguments$Tape" "at" "I", .fieldLink RX10 15 "LeftArguments$Tape" "used" "I", .fieldLink RX10 9 "LeftArguments$Tape" "bytes" "[I", .initialized RX10, .instanceMethod yX10_next, .selects RX10 yX10_next yX10_next, .methodLink RX3 48 yX10_next, .code yX3_comparing cX3_comparing 1 (some .int), .initialized RX3, .static yX3_comparing, .methodLink RX3 62 yX3_comparing, .code yX10_wrongHere cX10_wrongHere 1 (some .boolean), .fieldLink RX10 22 "LeftArguments$Tape" "wrongAt" "I", .instanceMethod yX10_wrongHere, .selects RX10 yX10_wrongHere yX10_wrongHere, .methodLink RX3 83 yX10_wrongHere, .code yX10_step cX10_step 1 none, .instanceMethod yX10_step, .selects RX10 yX10_step yX10_step, .methodLink RX3 77 yX10_step, .code yX3_readSum cX3_readSum 4 (some .boolean), .code yX3_readTerm cX3_readTerm 4 (some .boolean), .code yX3_readAtom cX3_readAtom 4 (some .boolean), .code yX10_isDigit cX10_isDigit 1 (some .boolean), .static yX10_isDigit, .methodLink RX3 92 yX10_isDigit, .code yJ0_indexOf_0f7a4 cJ0_indexOf_0f7a4 2 (some .int), .code yJ0_indexOf_7cf53 cJ0_indexOf_7cf53 3 (some .int), .code yJ0_isLatin1_aae02 cJ0_isLatin1_aae02 1 (some .boolean), .fieldLink RJ0 38 "java/lang/String" "COMPACT_STRINGS" "Z", .fieldLink RJ0 15 "java/lang/String" "coder" "B", .initialized RJ0, .instanceMethod yJ0_isLatin1_aae02, .selects RJ0 yJ0_isLatin1_aae02 yJ0_isLatin1_aae02, .methodLink RJ0 492 yJ0_isLatin1_aae02, .fieldLink RJ0 9 "java/lang/String" "value" "[B", .code yJ0_length_8abf5 cJ0_length_8abf5 1 (some .int), .code yJ0_coder_7d493 cJ0_coder_7d493 1 (some .byte), .instanceMethod yJ0_coder_7d493, .selects RJ0 yJ0_coder_7d493 yJ0_coder_7d493, .methodLink RJ0 335 yJ0_coder_7d493, .instanceMethod yJ0_length_8abf5, .selects RJ0 yJ0_length_8abf5 yJ0_length_8abf5, .methodLink RJ0 505 yJ0_length_8abf5, .code yJ1_indexOf_4cfef cJ1_indexOf_4cfef 4 (some .int), .code yJ1_canEncode_9a6ad cJ1_canEncode_9a6ad 1 (some .boolean), .initialized RJ1, .static yJ1_canEncode_9a6ad, .methodLink RJ1 88 yJ1_canEncode_9a6ad, .methodLink RJ1 92 Lib.Math.max.name, .static Lib.Math.max.name, .initialized "java/lang/Math", .code Lib.Math.max.name Lib.Math.max.code 2 (some .int), .methodLink RJ1 38 Lib.Math.min.name, .static Lib.Math.min.name, .code Lib.Math.min.name Lib.Math.min.code 2 (some .int), .code yJ1_indexOfChar_4cfef cJ1_indexOfChar_4cfef 6 (some .int), .static yJ1_indexOfChar_4cfef, .methodLink RJ1 95 yJ1_indexOfChar_4cfef, .static yJ1_indexOf_4cfef, .methodLink RJ0 637 yJ1_indexOf_4cfef, .instanceMethod yJ0_indexOf_7cf53, .selects RJ0 yJ0_indexOf_7cf53 yJ0_indexOf_7cf53, .methodLink RJ0 633 yJ0_indexOf_7cf53, .instanceMethod yJ0_indexOf_0f7a4, .selects RJ0 yJ0_indexOf_0f7a4 yJ0_indexOf_0f7a4, .methodLink RX3 103 yJ0_indexOf_0f7a4, .code yX3_write cX3_write 3 none, .fieldLink RX3 15 "LeftArguments$LawReader" "used" "I", .fieldLink RX3 11 "LeftArguments$LawReader" "code" "[I", .instanceMethod yX3_write, .selects RX3 yX3_write yX3_write, .methodLink RX3 66 yX3_write, .code yX10_takeNumber cX10_takeNumber 3 (some .boolean), .methodLink RX10 37 yX10_next, .methodLink RX10 45 yX10_isDigit, .methodLink RX10 41 yX10_wrongHere, .fieldLink RX10 25 "LeftArguments$Tape" "number" "I", .code yX10_sign cX10_sign 1 (some .int), .instanceMethod yX10_sign, .selects RX10 yX10_sign yX10_sign, .methodLink RX10 49 yX10_sign, .instanceMethod yX10_takeNumber, .selects RX10 yX10_takeNumber yX10_takeNumber, .methodLink RX3 95 yX10_takeNumber, .code yX10_number cX10_number 1 (some .int), .instanceMethod yX10_number, .selects RX10 yX10_number yX10_number, .methodLink RX3 98 yX10_number, .instanceMethod yX3_readAtom, .selects RX3 yX3_readAtom yX3_readAtom, .methodLink RX3 89 yX3_readAtom, .instanceMethod yX3_readTerm, .selects RX3 yX3_readTerm yX3_readTerm, .methodLink RX3 86 yX3_readTerm, .instanceMethod yX3_readSum, .selects RX3 yX3_readSum yX3_readSum, .methodLink RX3 59 yX3_readSum, .code yX10_take cX10_take 2 (some .boolean), .instanceMethod yX10_take, .selects RX10 yX10_take yX10_take, .methodLink RX3 51 yX10_take] : List Cond) ++ wsX30 ++ wsX100)
set_option maxRecDepth 20000 in
theorem g_X3_readUnit_0 : GoodIn q_X3_readUnit (wsV RX3 48 RX10 yX10_next q_X10_next) := goodIn_app (goodIn_r _ [9, 7, 8, 6] rfl (by decide +kernel)) (goodIn_ca (goodIn_r (.code yX10_next cX10_next 1 (some .int) :: [.fieldLink RX10 19 "LeftArguments$Tape" "at" "I", .fieldLink RX10 15 "LeftArguments$Tape" "used" "I", .fieldLink RX10 9 "LeftArguments$Tape" "bytes" "[I"]) [2, 3, 4, 5] rfl (by decide +kernel)) (goodIn_sub (fun _ h => List.mem_cons_of_mem _ (List.mem_append_right _ h)) gwX10))
set_option maxRecDepth 20000 in
theorem g_X3_readUnit_2 : GoodIn q_X3_readUnit (va_wsS RX3 62 yX3_comparing q_X3_comparing) := goodIn_app (goodIn_r _ [13, 12, 11] rfl (by decide +kernel)) (goodIn_r (.code yX3_comparing cX3_comparing 1 (some .int) :: []) [10] rfl (by decide +kernel))
set_option maxRecDepth 20000 in
theorem g_X3_readUnit_3 : GoodIn q_X3_readUnit (wsV RX3 83 RX10 yX10_wrongHere q_X10_wrongHere) := goodIn_app (goodIn_r _ [18, 16, 17, 6] rfl (by decide +kernel)) (goodIn_ca (goodIn_r (.code yX10_wrongHere cX10_wrongHere 1 (some .boolean) :: [.fieldLink RX10 19 "LeftArguments$Tape" "at" "I", .fieldLink RX10 22 "LeftArguments$Tape" "wrongAt" "I"]) [14, 3, 15] rfl (by decide +kernel)) (goodIn_sub (fun _ h => List.mem_cons_of_mem _ (List.mem_append_right _ h)) gwX10))
set_option maxRecDepth 20000 in
theorem g_X3_readUnit_4 : GoodIn q_X3_readUnit (va_wsS RX3 62 yX3_comparing q_X3_comparing_1) := goodIn_app (goodIn_r _ [13, 12, 11] rfl (by decide +kernel)) (goodIn_r (.code yX3_comparing cX3_comparing 1 (some .int) :: []) [10] rfl (by decide +kernel))
set_option maxRecDepth 20000 in
theorem g_X3_readUnit_5 : GoodIn q_X3_readUnit (wsV RX3 77 RX10 yX10_step q_X10_step) := goodIn_app (goodIn_r _ [22, 20, 21, 6] rfl (by decide +kernel)) (goodIn_ca (goodIn_r (.code yX10_step cX10_step 1 none :: [.fieldLink RX10 19 "LeftArguments$Tape" "at" "I"]) [19, 3] rfl (by decide +kernel)) (goodIn_sub (fun _ h => List.mem_cons_of_mem _ (List.mem_append_right _ h)) gwX10))
set_option maxRecDepth 20000 in
theorem g_X3_readUnit_6 : GoodIn q_X3_readUnit (wsV RX3 59 RX3 yX3_readSum q_X3_readSum_6) := goodIn_app (goodIn_r _ [100, 98, 99, 11] rfl (by decide +kernel)) (goodIn_ca (goodIn_ca (goodIn_r (.code yX3_readSum cX3_readSum 4 (some .boolean) :: [.code yX3_readTerm cX3_readTerm 4 (some .boolean), .code yX3_readAtom cX3_readAtom 4 (some .boolean), .fieldLink RX3 19 "LeftArguments$LawReader" "tape" "LLeftArguments$Tape;", .code yX10_next cX10_next 1 (some .int), .fieldLink RX10 19 "LeftArguments$Tape" "at" "I", .fieldLink RX10 15 "LeftArguments$Tape" "used" "I", .fieldLink RX10 9 "LeftArguments$Tape" "bytes" "[I", .initialized RX10, .instanceMethod yX10_next, .selects RX10 yX10_next yX10_next, .methodLink RX3 48 yX10_next, .code yX10_isDigit cX10_isDigit 1 (some .boolean), .static yX10_isDigit, .methodLink RX3 92 yX10_isDigit, .code yX10_wrongHere cX10_wrongHere 1 (some .boolean), .fieldLink RX10 22 "LeftArguments$Tape" "wrongAt" "I", .instanceMethod yX10_wrongHere, .selects RX10 yX10_wrongHere yX10_wrongHere, .methodLink RX3 83 yX10_wrongHere, .code yJ0_indexOf_0f7a4 cJ0_indexOf_0f7a4 2 (some .int), .code yJ0_indexOf_7cf53 cJ0_indexOf_7cf53 3 (some .int), .code yJ0_isLatin1_aae02 cJ0_isLatin1_aae02 1 (some .boolean), .fieldLink RJ0 38 "java/lang/String" "COMPACT_STRINGS" "Z", .fieldLink RJ0 15 "java/lang/String" "coder" "B", .initialized RJ0, .instanceMethod yJ0_isLatin1_aae02, .selects RJ0 yJ0_isLatin1_aae02 yJ0_isLatin1_aae02, .methodLink RJ0 492 yJ0_isLatin1_aae02, .fieldLink RJ0 9 "java/lang/String" "value" "[B", .code yJ0_length_8abf5 cJ0_length_8abf5 1 (some .int), .code yJ0_coder_7d493 cJ0_coder_7d493 1 (some .byte), .instanceMethod yJ0_coder_7d493, .selects RJ0 yJ0_coder_7d493 yJ0_coder_7d493, .methodLink RJ0 335 yJ0_coder_7d493, .instanceMethod yJ0_length_8abf5, .selects RJ0 yJ0_length_8abf5 yJ0_length_8abf5, .methodLink RJ0 505 yJ0_length_8abf5, .code yJ1_indexOf_4cfef cJ1_indexOf_4cfef 4 (some .int), .code yJ1_canEncode_9a6ad cJ1_canEncode_9a6ad 1 (some .boolean), .initialized RJ1, .static yJ1_canEncode_9a6ad, .methodLink RJ1 88 yJ1_canEncode_9a6ad, .methodLink RJ1 92 Lib.Math.max.name, .static Lib.Math.max.name, .initialized "java/lang/Math", .code Lib.Math.max.name Lib.Math.max.code 2 (some .int), .methodLink RJ1 38 Lib.Math.min.name, .static Lib.Math.min.name, .code Lib.Math.min.name Lib.Math.min.code 2 (some .int), .code yJ1_indexOfChar_4cfef cJ1_indexOfChar_4cfef 6 (some .int), .static yJ1_indexOfChar_4cfef, .methodLink RJ1 95 yJ1_indexOfChar_4cfef, .static yJ1_indexOf_4cfef, .methodLink RJ0 637 yJ1_indexOf_4cfef, .instanceMethod yJ0_indexOf_7cf53, .selects RJ0 yJ0_indexOf_7cf53 yJ0_indexOf_7cf53, .methodLink RJ0 633 yJ0_indexOf_7cf53, .instanceMethod yJ0_indexOf_0f7a4, .selects RJ0 yJ0_indexOf_0f7a4 yJ0_indexOf_0f7a4, .methodLink RX3 103 yJ0_indexOf_0f7a4, .code yX10_step cX10_step 1 none, .instanceMethod yX10_step, .selects RX10 yX10_step yX10_step, .methodLink RX3 77 yX10_step, .code yX3_write cX3_write 3 none, .fieldLink RX3 15 "LeftArguments$LawReader" "used" "I", .fieldLink RX3 11 "LeftArguments$LawReader" "code" "[I", .initialized RX3, .instanceMethod yX3_write, .selects RX3 yX3_write yX3_write, .methodLink RX3 66 yX3_write, .code yX10_takeNumber cX10_takeNumber 3 (some .boolean), .methodLink RX10 37 yX10_next, .methodLink RX10 45 yX10_isDigit, .methodLink RX10 41 yX10_wrongHere, .fieldLink RX10 25 "LeftArguments$Tape" "number" "I", .code yX10_sign cX10_sign 1 (some .int), .instanceMethod yX10_sign, .selects RX10 yX10_sign yX10_sign, .methodLink RX10 49 yX10_sign, .instanceMethod yX10_takeNumber, .selects RX10 yX10_takeNumber yX10_takeNumber, .methodLink RX3 95 yX10_takeNumber, .code yX10_number cX10_number 1 (some .int), .instanceMethod yX10_number, .selects RX10 yX10_number yX10_number, .methodLink RX3 98 yX10_number, .code yX3_readSum cX3_readSum 4 (some .boolean), .instanceMethod yX3_readAtom, .selects RX3 yX3_readAtom yX3_readAtom, .methodLink RX3 89 yX3_readAtom, .instanceMethod yX3_readTerm, .selects RX3 yX3_readTerm yX3_readTerm, .methodLink RX3 86 yX3_readTerm, .instanceMethod yX3_readSum, .selects RX3 yX3_readSum yX3_readSum, .methodLink RX3 59 yX3_readSum, .code yX10_take cX10_take 2 (some .boolean), .instanceMethod yX10_take, .selects RX10 yX10_take yX10_take, .methodLink RX3 51 yX10_take]) [23, 24, 25, 1, 2, 3, 4, 5, 6, 7, 8, 9, 26, 27, 28, 14, 15, 16, 17, 18, 29, 30, 31, 32, 33, 34, 35, 36, 37, 38, 39, 40, 41, 42, 43, 44, 45, 46, 47, 48, 49, 50, 51, 52, 53, 54, 55, 56, 57, 58, 59, 60, 61, 62, 63, 64, 65, 66, 67, 68, 69, 19, 20, 21, 22, 70, 71, 72, 11, 73, 74, 75, 76, 77, 78, 79, 80, 81, 82, 83, 84, 85, 86, 87, 88, 89, 90, 91, 23, 92, 93, 94, 95, 96, 97, 98, 99, 100, 101, 102, 103, 104] rfl (by decide +kernel)) (goodIn_sub (fun _ h => List.mem_cons_of_mem _ (List.mem_append_left _ (List.mem_append_right _ h))) gwX3)) (goodIn_sub (fun _ h => List.mem_cons_of_mem _ (List.mem_append_right _ h)) gwX10))
set_option maxRecDepth 20000 in
theorem g_X3_readUnit_7 : GoodIn q_X3_readUnit (wsV RX3 66 RX3 yX3_write q_X3_write) := goodIn_app (goodIn_r _ [75, 73, 74, 11] rfl (by decide +kernel)) (goodIn_ca (goodIn_r (.code yX3_write cX3_write 3 none :: [.fieldLink RX3 15 "LeftArguments$LawReader" "used" "I", .fieldLink RX3 11 "LeftArguments$LawReader" "code" "[I"]) [70, 71, 72] rfl (by decide +kernel)) (goodIn_sub (fun _ h => List.mem_cons_of_mem _ (List.mem_append_left _ (List.mem_append_right _ h))) gwX3))
set_option maxHeartbeats 4000000 in
set_option maxRecDepth 100000 in
theorem k_X3_readUnit (l : Launch) (dC : Nat → ClassId) (dI : Nat → Nat → Nat) (adK : Nat → Nat) (adV : Nat → Nat) (h0 : Nat) (h1 : Nat) (h2 : Nat) (h3 : Nat) (v0 : Int32) (v1 : Int32) (v2 : Int32) (v3 : Int32) (v4 : Int32) (g0 : ClassId) (f5 : Nat → Int32) (g1 : ClassId) (f6 : Nat → Int32) (i_v0 : 0 ≤ v0.toInt ∧ v0.toInt ≤ 256) (i_v1 : 0 ≤ v1.toInt ∧ v1.toInt ≤ 240) (i_v2 : 0 ≤ v2.toInt ∧ v2.toInt ≤ 240) (ia_f5 : (∀ j, 0 ≤ (f5 j).toInt ∧ (f5 j).toInt ≤ 255)) (sz : Nat) : Met l yX3_readUnit q_X3_readUnit ({ frames := 25, cells := 0, slots := 0, locals := 574 }) (va_Pc [.ref h0, .int 0, .int 1] (fun U => U.heap.size = sz ∧ va_P (dC, dI) vwCl (wd_1ad0248d h0 h1 h3 v0 h1 h2 v1 v2 v3 v4 h2 g0 f5 h3 g1 f6) U.heap ∧ va_K (dC, dI) vwCl [(g0, .int), (g1, .int)] U ∧ va_D (fun _ => True) (wd_1ad0248d h0 h1 h3 v0 h1 h2 v1 v2 v3 v4 h2 g0 f5 h3 g1 f6) ∧ vk_R RX3 101 "zaondt" (adK 2) U ∧ va_Z "java/lang/String" "COMPACT_STRINGS" "Z" (.int 1) (va_A (wd_1ad0248d h0 h1 h3 v0 h1 h2 v1 v2 v3 v4 h2 g0 f5 h3 g1 f6) sz) U U.heap ∧ vk_S 3 pv_len3 pv_byt3 adK adV (va_A (wd_1ad0248d h0 h1 h3 v0 h1 h2 v1 v2 v3 v4 h2 g0 f5 h3 g1 f6) sz) U U.heap)) (va_Qi (fun (r : Int32) (r9 : Int32) => r9 = r) (fun (r : Int32) (t : State) => (∃ (o_h0_2 : Int32) (o_h1_2 : Int32) (o_h1_4 : Int32) (o_h3 : Nat → Int32), 0 ≤ o_h0_2.toInt ∧ o_h0_2.toInt ≤ 256 ∧ 0 ≤ o_h1_2.toInt ∧ o_h1_2.toInt ≤ 240 ∧ (1 ≤ r.toInt) ∧ (r.toInt ≤ 1) ∧ (v2.toInt ≤ o_h1_2.toInt) ∧ (pg_cmp f5 v1.toInt 6 v2.toInt = (true, o_h1_2.toInt)) ∧ va_P (dC, dI) vwCl (wd_1ad0248d h0 h1 h3 o_h0_2 h1 h2 v1 o_h1_2 v3 o_h1_4 h2 g0 f5 h3 g1 o_h3) t.heap ∧ va_K (dC, dI) vwCl [] t ∧ va_D (va_A (wd_1ad0248d h0 h1 h3 v0 h1 h2 v1 v2 v3 v4 h2 g0 f5 h3 g1 f6) sz) (wd_1ad0248d h0 h1 h3 o_h0_2 h1 h2 v1 o_h1_2 v3 o_h1_4 h2 g0 f5 h3 g1 o_h3)) ∨ (∃ (o_h0_2 : Int32) (o_h1_2 : Int32) (o_h1_3 : Int32) (o_h1_4 : Int32) (o_h3 : Nat → Int32), 0 ≤ o_h0_2.toInt ∧ o_h0_2.toInt ≤ 256 ∧ 0 ≤ o_h1_2.toInt ∧ o_h1_2.toInt ≤ 240 ∧ 0 ≤ o_h1_3.toInt ∧ o_h1_3.toInt ≤ 240 ∧ (0 ≤ r.toInt) ∧ (r.toInt ≤ 0) ∧ (v2.toInt ≤ o_h1_2.toInt) ∧ (pg_cmp f5 v1.toInt 6 v2.toInt = (false, o_h1_3.toInt)) ∧ va_P (dC, dI) vwCl (wd_1ad0248d h0 h1 h3 o_h0_2 h1 h2 v1 o_h1_2 o_h1_3 o_h1_4 h2 g0 f5 h3 g1 o_h3) t.heap ∧ va_K (dC, dI) vwCl [] t ∧ va_D (va_A (wd_1ad0248d h0 h1 h3 v0 h1 h2 v1 v2 v3 v4 h2 g0 f5 h3 g1 f6) sz) (wd_1ad0248d h0 h1 h3 o_h0_2 h1 h2 v1 o_h1_2 o_h1_3 o_h1_4 h2 g0 f5 h3 g1 o_h3))) (va_A (wd_1ad0248d h0 h1 h3 v0 h1 h2 v1 v2 v3 v4 h2 g0 f5 h3 g1 f6) sz)) 0 0 (va_A (wd_1ad0248d h0 h1 h3 v0 h1 h2 v1 v2 v3 v4 h2 g0 f5 h3 g1 f6) sz) := by
  refine Met.ofW (cc := cX3_readUnit) (maxL := 5) (ret := (some .boolean)) (by decide) rfl ?_
  intro p e s m args below meth c s₁ B hml hv
  obtain ⟨i_v0a, i_v0b⟩ := i_v0
  obtain ⟨i_v1a, i_v1b⟩ := i_v1
  obtain ⟨i_v2a, i_v2b⟩ := i_v2
  obtain ⟨rfl, hsz, hP, hK, hD0, h_vr_2, h_st_CS, h_st_S⟩ := hv
  have hx := B.exec
  have hb := B.bytes
  have hr := B.returns
  have hts := atoms_spec (ws := q_X3_readUnit) B.pre
  have hown : s.vm.findClass RX3 = some m.cls := findClass_of_methodNamed B.named
  have hlocks := B.notSynchronized
  subst hsz
  have hD := hD0.self (sz := s.heap.size)
  generalize hAe : va_A (wd_1ad0248d h0 h1 h3 v0 h1 h2 v1 v2 v3 v4 h2 g0 f5 h3 g1 f6) s.heap.size = A at hD h_st_CS h_st_S ⊢
  have hA : ∀ q : Nat, s.heap.size ≤ q → A q := fun q h => by rw [← hAe]; exact Or.inr h
  have hS : va_S A s.heap s.heap [] := va_S.rf
  generalize hQ : (MQ below _ _ s 0 0 A) = Q
  have hl := lv_entry ([.ref h0, .int 0, .int 1]) (n := 5) (Nat.le_of_ble_eq_true rfl)
  rw [lg_entry_eq]
  generalize (lg_sl ([.ref h0, .int 0, .int 1]) ++ List.replicate (5 - (lg_sl ([.ref h0, .int 0, .int 1])).length) Slot.unset).toArray = ls at hl ⊢
  have hl : lv_has ls 5 [(0, .ref h0), (1, .int 0), (2, .int 1)] := hl
  obtain ⟨H, hH⟩ : ∃ H : Heap, H = s.heap := ⟨_, rfl⟩
  obtain ⟨locs, hlocs⟩ : ∃ y : List Loc, y = [] := ⟨_, rfl⟩
  have hS : va_S A s.heap H locs := by rw [hH, hlocs]; exact va_S.rf
  have hP : va_P (dC, dI) vwCl (wd_1ad0248d h0 h1 h3 v0 h1 h2 v1 v2 v3 v4 h2 g0 f5 h3 g1 f6) H := by rw [hH]; exact hP
  rw [← hH, ← hlocs]
  refine lv_aload_n hx hb dX3_readUnit_0 rfl (lv_at hl 0 rfl) ?_
  refine va_get (D := (dC, dI)) (ci := 3) (v := .ref h1) (C := RX3) (T := TX3) (N := 3) hx hb hts (fun _ h => List.mem_cons_of_mem _ (List.mem_append_left _ (List.mem_append_right _ h))) hown hK hP 0 rfl rfl 0 (by decide) (hts (.fieldLink RX3 19 "LeftArguments$LawReader" "tape" "LLeftArguments$Tape;") (List.mem_cons_of_mem _ (List.mem_append_left _ (List.mem_append_left _ (List.mem_of_getElem? (i := 0) rfl))))) (fun _ h9 => h9) rfl dX3_readUnit_1 ?_
  have hPc := hP.sub (ws' := (wd_82cdd16b h1 h2 v1 v2 v3 v4 h2 g0 f5)) [1, 2] rfl
  have hDc := hD.sub (ws' := (wd_82cdd16b h1 h2 v1 v2 v3 v4 h2 g0 f5)) [1, 2] (by decide) rfl
  have hKc := hK.sub (tys' := [(g0, .int)]) [0] rfl
  have hFc := va_free (wc := (wd_82cdd16b h1 h2 v1 v2 v3 v4 h2 g0 f5)) hD hS hA [1, 2] rfl
  refine va_calli (va_runV (As := []) (rest := []) ⟨hx, hb, hml, hown, hts⟩ (k_X10_next l dC dI h1 h2 v1 v2 v3 v4 g0 f5 ⟨i_v1a, i_v1b⟩ ⟨i_v2a, i_v2b⟩ ia_f5 H.size) (cwV 0 hts g_X3_readUnit_0 rfl rfl rfl (by decide +kernel) ⟨Nat.le_of_ble_eq_true rfl, Nat.le_of_ble_eq_true rfl⟩) (pv_PV10 hPc hKc hDc (q0 := 0) rfl) rfl rfl hl.1 rfl (lv_room (Nat.le_of_ble_eq_true rfl)) dX3_readUnit_4 ⟨Nat.le_of_ble_eq_true rfl, Nat.le_of_ble_eq_true rfl⟩) hS (fun q _ h => hFc q h) hFc (fun ra1 u t H1 locs ht hvm hwra1 hB hz1 hk1 hS => ?_)
  try rw [hwra1] at hB
  rcases hB with hB | hB
  · skip
    obtain ⟨x2, oa_x2, ob_x2, pt0_ra1, pt1_ra1, pt2_ra1, pt3_ra1, pt4_ra1, pt5_ra1, pt6_ra1, hP1, hK1, hD1⟩ := hB
    rw [ht] at hP1
    obtain ⟨hP2, hD2⟩ := va_join (wr := (wd_b958b9da h0 h1 h3 v0 h3 g1 f6)) (w1 := (wd_82cdd16b h1 h2 v1 x2 v3 v4 h2 g0 f5)) hP hD [1, 2] [0, 3] rfl rfl (by decide) (by decide) hk1 hFc hP1 hD1
    clear hP hD hPc hDc hKc hFc hP1 hK1 hD1 hk1 hz1
    generalize H1 = H at hP2 hS ⊢
    have hP := hP2.sub (ws' := (wd_1ad0248d h0 h1 h3 v0 h1 h2 v1 x2 v3 v4 h2 g0 f5 h3 g1 f6)) [0, 2, 3, 1] rfl
    have hD := hD2.sub (ws' := (wd_1ad0248d h0 h1 h3 v0 h1 h2 v1 x2 v3 v4 h2 g0 f5 h3 g1 f6)) [0, 2, 3, 1] (by decide) rfl
    clear hP2 hD2
    obtain rfl : ra1 = ((-1) : Int32) := pv_cs (by decide) pt0_ra1 pt1_ra1
    refine lv_istore_n (lv' := [(3, .int (-1)), (0, .ref h0), (1, .int 0), (2, .int 1)]) hx hb dX3_readUnit_7 rfl hl (by decide) rfl (fun ls hl => ?_)
    refine lv_iload_n hx hb dX3_readUnit_8 rfl (lv_at hl 3 rfl) ?_
    refine lv_if_ne (tgt := 102) hx hb dX3_readUnit_9 (by decide) (fun _ => ?_) (fun c => absurd c (by decide))
    refine lv_iload_n hx hb dX3_readUnit_102 rfl (lv_at hl 3 rfl) ?_
    refine lv_if_ne (tgt := 116) hx hb dX3_readUnit_103 (by decide) (fun _ => ?_) (fun c => absurd c (by decide))
    refine lv_aload_n hx hb dX3_readUnit_116 rfl (lv_at hl 1 rfl) ?_
    refine va_get (D := (dC, dI)) (ci := 3) (v := .ref h1) (C := RX3) (T := TX3) (N := 3) hx hb hts (fun _ h => List.mem_cons_of_mem _ (List.mem_append_left _ (List.mem_append_right _ h))) hown hK hP 0 rfl rfl 0 (by decide) (hts (.fieldLink RX3 19 "LeftArguments$LawReader" "tape" "LLeftArguments$Tape;") (List.mem_cons_of_mem _ (List.mem_append_left _ (List.mem_append_left _ (List.mem_of_getElem? (i := 0) rfl))))) (fun _ h9 => h9) rfl dX3_readUnit_117 ?_
    have hPc := hP.sub (ws' := (wd_82cdd16b h1 h2 v1 x2 v3 v4 h2 g0 f5)) [1, 2] rfl
    have hDc := hD.sub (ws' := (wd_82cdd16b h1 h2 v1 x2 v3 v4 h2 g0 f5)) [1, 2] (by decide) rfl
    have hKc := hK.sub (tys' := [(g0, .int)]) [0] rfl
    have hFc := va_free (wc := (wd_82cdd16b h1 h2 v1 x2 v3 v4 h2 g0 f5)) hD hS hA [1, 2] rfl
    refine va_calli (va_runV (As := []) (rest := []) ⟨hx, hb, hml, hown, hts⟩ (k_X10_next l dC dI h1 h2 v1 x2 v3 v4 g0 f5 ⟨i_v1a, i_v1b⟩ ⟨oa_x2, ob_x2⟩ ia_f5 H.size) (cwV 0 hts g_X3_readUnit_0 rfl rfl rfl (by decide +kernel) ⟨Nat.le_of_ble_eq_true rfl, Nat.le_of_ble_eq_true rfl⟩) (pv_PV10 hPc hKc hDc (q0 := 0) rfl) rfl rfl hl.1 rfl (lv_room (Nat.le_of_ble_eq_true rfl)) dX3_readUnit_120 ⟨Nat.le_of_ble_eq_true rfl, Nat.le_of_ble_eq_true rfl⟩) hS (fun q _ h => hFc q h) hFc (fun ra3 u t H1 locs ht hvm hwra3 hB hz1 hk1 hS => ?_)
    try rw [hwra3] at hB
    rcases hB with hB | hB
    · skip
      obtain ⟨x4, oa_x4, ob_x4, pt0_ra3, pt1_ra3, pt2_ra3, pt3_ra3, pt4_ra3, pt5_ra3, pt6_ra3, hP1, hK1, hD1⟩ := hB
      rw [ht] at hP1
      obtain ⟨hP2, hD2⟩ := va_join (wr := (wd_b958b9da h0 h1 h3 v0 h3 g1 f6)) (w1 := (wd_82cdd16b h1 h2 v1 x4 v3 v4 h2 g0 f5)) hP hD [1, 2] [0, 3] rfl rfl (by decide) (by decide) hk1 hFc hP1 hD1
      clear hP hD hPc hDc hKc hFc hP1 hK1 hD1 hk1 hz1
      generalize H1 = H at hP2 hS ⊢
      have hP := hP2.sub (ws' := (wd_1ad0248d h0 h1 h3 v0 h1 h2 v1 x4 v3 v4 h2 g0 f5 h3 g1 f6)) [0, 2, 3, 1] rfl
      have hD := hD2.sub (ws' := (wd_1ad0248d h0 h1 h3 v0 h1 h2 v1 x4 v3 v4 h2 g0 f5 h3 g1 f6)) [0, 2, 3, 1] (by decide) rfl
      clear hP2 hD2
      obtain rfl : ra3 = ((-1) : Int32) := pv_cs (by decide) pt0_ra3 pt1_ra3
      have hsh : pg_s f5 v1.toInt x2.toInt = x2.toInt := pg_s.here (by assumption)
      obtain rfl : x2 = x4 := Int32.toInt_inj.mp (by omega)
      have hP : va_P (dC, dI) vwCl (wd_1ad0248d h0 h1 h3 v0 h1 h2 v1 x2 v3 v4 h2 g0 f5 h3 g1 f6) H := hP
      have hD : va_D A (wd_1ad0248d h0 h1 h3 v0 h1 h2 v1 x2 v3 v4 h2 g0 f5 h3 g1 f6) := hD
      have hPc := hP.sub (ws' := []) [] rfl
      have hDc := hD.sub (ws' := []) [] (by decide) rfl
      have hKc := hK.sub (tys' := []) [] rfl
      have hFc := va_free (wc := []) hD hS hA [] rfl
      refine va_calli (va_runS (As := [.int (-1)]) (rest := []) ⟨hx, hb, hml, hown, hts⟩ (k_X3_comparing l dC dI   H.size) (va_cwS 1 hts g_X3_readUnit_2 rfl rfl rfl (by decide +kernel) ⟨Nat.le_of_ble_eq_true rfl, Nat.le_of_ble_eq_true rfl⟩) (pv_PS hPc hKc hDc) rfl rfl hl.1 rfl (lv_room (Nat.le_of_ble_eq_true rfl)) dX3_readUnit_123 ⟨Nat.le_of_ble_eq_true rfl, Nat.le_of_ble_eq_true rfl⟩) hS (fun q _ h => hFc q h) hFc (fun ra5 u t H1 locs ht hvm hwra5 hB hz1 hk1 hS => ?_)
      try rw [hwra5] at hB
      obtain ⟨pt0_ra5, pt1_ra5, hP1, hK1, hD1⟩ := hB
      rw [ht] at hP1
      obtain ⟨hP2, hD2⟩ := va_join (wr := (wd_1ad0248d h0 h1 h3 v0 h1 h2 v1 x2 v3 v4 h2 g0 f5 h3 g1 f6)) (w1 := []) hP hD [] [0, 1, 2, 3] rfl rfl (by decide) (by decide) hk1 hFc hP1 hD1
      clear hP hD hPc hDc hKc hFc hP1 hK1 hD1 hk1 hz1
      generalize H1 = H at hP2 hS ⊢
      have hP : va_P (dC, dI) vwCl (wd_1ad0248d h0 h1 h3 v0 h1 h2 v1 x2 v3 v4 h2 g0 f5 h3 g1 f6) H := hP2
      have hD : va_D A (wd_1ad0248d h0 h1 h3 v0 h1 h2 v1 x2 v3 v4 h2 g0 f5 h3 g1 f6) := hD2
      clear hP2 hD2
      obtain rfl : ra5 = ((-1) : Int32) := pv_cs (by decide) pt0_ra5 pt1_ra5
      refine lv_istore (lv' := [(4, .int (-1)), (3, .int (-1)), (0, .ref h0), (1, .int 0), (2, .int 1)]) hx hb dX3_readUnit_126 hl (by decide) rfl (fun ls hl => ?_)
      refine lv_iload hx hb dX3_readUnit_128 (lv_at hl 0 rfl) ?_
      refine lv_iconst (v := (-1)) hx hb dX3_readUnit_130 (by decide) ?_
      refine lv_icmp_ne (tgt := 142) hx hb dX3_readUnit_131 (by decide) (fun c => absurd (by decide) c) (fun _ => ?_)
      refine lv_aload_n hx hb dX3_readUnit_134 rfl (lv_at hl 2 rfl) ?_
      refine va_get (D := (dC, dI)) (ci := 3) (v := .ref h1) (C := RX3) (T := TX3) (N := 3) hx hb hts (fun _ h => List.mem_cons_of_mem _ (List.mem_append_left _ (List.mem_append_right _ h))) hown hK hP 0 rfl rfl 0 (by decide) (hts (.fieldLink RX3 19 "LeftArguments$LawReader" "tape" "LLeftArguments$Tape;") (List.mem_cons_of_mem _ (List.mem_append_left _ (List.mem_append_left _ (List.mem_of_getElem? (i := 0) rfl))))) (fun _ h9 => h9) rfl dX3_readUnit_135 ?_
      have hPc := hP.sub (ws' := (wd_09b0abee h1 h2 v1 x2 v3 v4)) [1] rfl
      have hDc := hD.sub (ws' := (wd_09b0abee h1 h2 v1 x2 v3 v4)) [1] (by decide) rfl
      have hKc := hK.sub (tys' := []) [] rfl
      have hFc := va_free (wc := (wd_09b0abee h1 h2 v1 x2 v3 v4)) hD hS hA [1] rfl
      refine va_calli (va_runV (As := []) (rest := []) ⟨hx, hb, hml, hown, hts⟩ (k_X10_wrongHere l dC dI h1 h2 v1 x2 v3 v4 ⟨i_v1a, i_v1b⟩ ⟨oa_x2, ob_x2⟩ H.size) (cwV 0 hts g_X3_readUnit_3 rfl rfl rfl (by decide +kernel) ⟨Nat.le_of_ble_eq_true rfl, Nat.le_of_ble_eq_true rfl⟩) (pv_PV10 hPc hKc hDc (q0 := 0) rfl) rfl rfl hl.1 rfl (lv_room (Nat.le_of_ble_eq_true rfl)) dX3_readUnit_138 ⟨Nat.le_of_ble_eq_true rfl, Nat.le_of_ble_eq_true rfl⟩) hS (fun q _ h => hFc q h) hFc (fun ra6 u t H1 locs ht hvm hwra6 hB hz1 hk1 hS => ?_)
      try rw [hwra6] at hB
      obtain ⟨x7, oa_x7, ob_x7, pt0_ra6, pt1_ra6, pt2_ra6, hP1, hK1, hD1⟩ := hB
      rw [ht] at hP1
      obtain ⟨hP2, hD2⟩ := va_join (wr := (wd_6b0d8e05 h0 h1 h3 v0 h2 g0 f5 h3 g1 f6)) (w1 := (wd_09b0abee h1 h2 v1 x2 x7 v4)) hP hD [1] [0, 2, 3] rfl rfl (by decide) (by decide) hk1 hFc hP1 hD1
      clear hP hD hPc hDc hKc hFc hP1 hK1 hD1 hk1 hz1
      generalize H1 = H at hP2 hS ⊢
      have hP := hP2.sub (ws' := (wd_1ad0248d h0 h1 h3 v0 h1 h2 v1 x2 x7 v4 h2 g0 f5 h3 g1 f6)) [0, 3, 1, 2] rfl
      have hD := hD2.sub (ws' := (wd_1ad0248d h0 h1 h3 v0 h1 h2 v1 x2 x7 v4 h2 g0 f5 h3 g1 f6)) [0, 3, 1, 2] (by decide) rfl
      clear hP2 hD2
      obtain rfl : ra6 = (0 : Int32) := pv_cs (by decide) pt0_ra6 pt1_ra6
      subst hQ
      have hP9 := hP.sub (ws' := (wd_1ad0248d h0 h1 h3 v0 h1 h2 v1 x2 x7 v4 h2 g0 f5 h3 g1 f6)) [0, 1, 2, 3] rfl
      have hD9 := hD.sub (ws' := (wd_1ad0248d h0 h1 h3 v0 h1 h2 v1 x2 x7 v4 h2 g0 f5 h3 g1 f6)) [0, 1, 2, 3] (by decide) rfl
      have hK9 := hK.sub (tys' := []) [] rfl
      exact W.zret (v := 0) hx hb hr rfl (fun t ht hW => ⟨⟨0, 0, rfl, rfl, Or.inr (⟨v0, x2, x7, v4, f6, i_v0a, i_v0b, oa_x2, ob_x2, oa_x7, ob_x7, by first | omega | decide, by first | omega | decide, by omega, by first | (apply pg_cmp.ok <;> first | assumption | omega) | (apply pg_cmp.no <;> first | assumption | omega), by rw [ht]; exact hP9, va_K.moved hW.alike hK9, hD9⟩)⟩, hS.F ht⟩) hS.2.2 dX3_readUnit_141
    · skip
      obtain ⟨x8, oa_x8, ob_x8, pt0_ra3, pt1_ra3, pt2_ra3, pt3_ra3, pt4_ra3, pt5_ra3, pt6_ra3, hP1, hK1, hD1⟩ := hB
      rw [ht] at hP1
      obtain ⟨hP2, hD2⟩ := va_join (wr := (wd_b958b9da h0 h1 h3 v0 h3 g1 f6)) (w1 := (wd_82cdd16b h1 h2 v1 x8 v3 v4 h2 g0 f5)) hP hD [1, 2] [0, 3] rfl rfl (by decide) (by decide) hk1 hFc hP1 hD1
      clear hP hD hPc hDc hKc hFc hP1 hK1 hD1 hk1 hz1
      generalize H1 = H at hP2 hS ⊢
      have hP := hP2.sub (ws' := (wd_1ad0248d h0 h1 h3 v0 h1 h2 v1 x8 v3 v4 h2 g0 f5 h3 g1 f6)) [0, 2, 3, 1] rfl
      have hD := hD2.sub (ws' := (wd_1ad0248d h0 h1 h3 v0 h1 h2 v1 x8 v3 v4 h2 g0 f5 h3 g1 f6)) [0, 2, 3, 1] (by decide) rfl
      clear hP2 hD2
      have hsh : pg_s f5 v1.toInt x2.toInt = x2.toInt := pg_s.here (by assumption)
      obtain rfl : x2 = x8 := Int32.toInt_inj.mp (by omega)
      have hP : va_P (dC, dI) vwCl (wd_1ad0248d h0 h1 h3 v0 h1 h2 v1 x2 v3 v4 h2 g0 f5 h3 g1 f6) H := hP
      have hD : va_D A (wd_1ad0248d h0 h1 h3 v0 h1 h2 v1 x2 v3 v4 h2 g0 f5 h3 g1 f6) := hD
      have hPc := hP.sub (ws' := []) [] rfl
      have hDc := hD.sub (ws' := []) [] (by decide) rfl
      have hKc := hK.sub (tys' := []) [] rfl
      have hFc := va_free (wc := []) hD hS hA [] rfl
      refine va_calli (va_runS (As := [.int ra3]) (rest := []) ⟨hx, hb, hml, hown, hts⟩ (k_X3_comparing_1 l dC dI ra3  H.size) (va_cwS 1 hts g_X3_readUnit_4 rfl rfl rfl (by decide +kernel) ⟨Nat.le_of_ble_eq_true rfl, Nat.le_of_ble_eq_true rfl⟩) (pv_PS hPc hKc hDc) rfl rfl hl.1 rfl (lv_room (Nat.le_of_ble_eq_true rfl)) dX3_readUnit_123 ⟨Nat.le_of_ble_eq_true rfl, Nat.le_of_ble_eq_true rfl⟩) hS (fun q _ h => hFc q h) hFc (fun ra9 u t H1 locs ht hvm hwra9 hB hz1 hk1 hS => ?_)
      try rw [hwra9] at hB
      obtain ⟨pt0_ra9, pt1_ra9, pt2_ra9, hP1, hK1, hD1⟩ := hB
      rw [ht] at hP1
      obtain ⟨hP2, hD2⟩ := va_join (wr := (wd_1ad0248d h0 h1 h3 v0 h1 h2 v1 x2 v3 v4 h2 g0 f5 h3 g1 f6)) (w1 := []) hP hD [] [0, 1, 2, 3] rfl rfl (by decide) (by decide) hk1 hFc hP1 hD1
      clear hP hD hPc hDc hKc hFc hP1 hK1 hD1 hk1 hz1
      generalize H1 = H at hP2 hS ⊢
      have hP : va_P (dC, dI) vwCl (wd_1ad0248d h0 h1 h3 v0 h1 h2 v1 x2 v3 v4 h2 g0 f5 h3 g1 f6) H := hP2
      have hD : va_D A (wd_1ad0248d h0 h1 h3 v0 h1 h2 v1 x2 v3 v4 h2 g0 f5 h3 g1 f6) := hD2
      clear hP2 hD2
      refine lv_istore (lv' := [(4, .int ra9), (3, .int (-1)), (0, .ref h0), (1, .int 0), (2, .int 1)]) hx hb dX3_readUnit_126 hl (by decide) rfl (fun ls hl => ?_)
      refine lv_iload hx hb dX3_readUnit_128 (lv_at hl 0 rfl) ?_
      refine lv_iconst (v := (-1)) hx hb dX3_readUnit_130 (by decide) ?_
      refine lv_icmp_ne (tgt := 142) hx hb dX3_readUnit_131 (by decide) (fun c10 => ?_) (fun c10 => ?_)
      · skip
        have fc10 : ¬ (ra9.toInt = (-1)) := fun h9 => c10 (Int32.toInt_inj.mp h9)
        refine lv_aload_n hx hb dX3_readUnit_142 rfl (lv_at hl 2 rfl) ?_
        refine va_get (D := (dC, dI)) (ci := 3) (v := .ref h1) (C := RX3) (T := TX3) (N := 3) hx hb hts (fun _ h => List.mem_cons_of_mem _ (List.mem_append_left _ (List.mem_append_right _ h))) hown hK hP 0 rfl rfl 0 (by decide) (hts (.fieldLink RX3 19 "LeftArguments$LawReader" "tape" "LLeftArguments$Tape;") (List.mem_cons_of_mem _ (List.mem_append_left _ (List.mem_append_left _ (List.mem_of_getElem? (i := 0) rfl))))) (fun _ h9 => h9) rfl dX3_readUnit_143 ?_
        have hPc := hP.sub (ws' := (wd_09b0abee h1 h2 v1 x2 v3 v4)) [1] rfl
        have hDc := hD.sub (ws' := (wd_09b0abee h1 h2 v1 x2 v3 v4)) [1] (by decide) rfl
        have hKc := hK.sub (tys' := []) [] rfl
        have hFc := va_free (wc := (wd_09b0abee h1 h2 v1 x2 v3 v4)) hD hS hA [1] rfl
        refine va_callv (va_runV (As := []) (rest := []) ⟨hx, hb, hml, hown, hts⟩ (k_X10_step l dC dI h1 h2 v1 x2 v3 v4 ⟨i_v1a, i_v1b⟩ ⟨oa_x2, by first | omega | decide⟩ H.size) (cwV 0 hts g_X3_readUnit_5 rfl rfl rfl (by decide +kernel) ⟨Nat.le_of_ble_eq_true rfl, Nat.le_of_ble_eq_true rfl⟩) (pv_PV10 hPc hKc hDc (q0 := 0) rfl) rfl rfl hl.1 rfl (lv_room (Nat.le_of_ble_eq_true rfl)) dX3_readUnit_146 ⟨Nat.le_of_ble_eq_true rfl, Nat.le_of_ble_eq_true rfl⟩) hS (fun q _ h => hFc q h) hFc (fun u t H1 locs ht hvm hwra11 hB hz1 hk1 hS => ?_)
        obtain ⟨x12, oa_x12, ob_x12, pt0_ra11, hP1, hK1, hD1⟩ := hB
        rw [ht] at hP1
        obtain ⟨hP2, hD2⟩ := va_join (wr := (wd_6b0d8e05 h0 h1 h3 v0 h2 g0 f5 h3 g1 f6)) (w1 := (wd_09b0abee h1 h2 v1 x12 v3 v4)) hP hD [1] [0, 2, 3] rfl rfl (by decide) (by decide) hk1 hFc hP1 hD1
        clear hP hD hPc hDc hKc hFc hP1 hK1 hD1 hk1 hz1
        generalize H1 = H at hP2 hS ⊢
        have hP := hP2.sub (ws' := (wd_1ad0248d h0 h1 h3 v0 h1 h2 v1 x12 v3 v4 h2 g0 f5 h3 g1 f6)) [0, 3, 1, 2] rfl
        have hD := hD2.sub (ws' := (wd_1ad0248d h0 h1 h3 v0 h1 h2 v1 x12 v3 v4 h2 g0 f5 h3 g1 f6)) [0, 3, 1, 2] (by decide) rfl
        clear hP2 hD2
        refine lv_aload_n hx hb dX3_readUnit_149 rfl (lv_at hl 2 rfl) ?_
        refine lv_iload_n hx hb dX3_readUnit_150 rfl (lv_at hl 3 rfl) ?_
        have hPc := hP.sub (ws' := (wd_1ad0248d h0 h1 h3 v0 h1 h2 v1 x12 v3 v4 h2 g0 f5 h3 g1 f6)) [0, 1, 2, 3] rfl
        have hDc := hD.sub (ws' := (wd_1ad0248d h0 h1 h3 v0 h1 h2 v1 x12 v3 v4 h2 g0 f5 h3 g1 f6)) [0, 1, 2, 3] (by decide) rfl
        have hKc := hK.sub (tys' := [(g0, .int), (g1, .int)]) [0, 1] rfl
        have hFc := va_free (wc := (wd_1ad0248d h0 h1 h3 v0 h1 h2 v1 x12 v3 v4 h2 g0 f5 h3 g1 f6)) hD hS hA [0, 1, 2, 3] rfl
        refine va_calli (va_runV (As := [.int 0]) (rest := []) ⟨hx, hb, hml, hown, hts⟩ (k_X3_readSum_6 l dC dI adK adV h0 h1 h2 h3 v0 v1 x12 v3 v4 g0 f5 g1 f6 ⟨i_v0a, i_v0b⟩ ⟨i_v1a, i_v1b⟩ ⟨by first | omega | decide, ob_x12⟩ ia_f5 H.size) (cwV 1 hts g_X3_readUnit_6 rfl rfl rfl (by decide +kernel) ⟨Nat.le_of_ble_eq_true rfl, Nat.le_of_ble_eq_true rfl⟩) ⟨fun a U g mk q => by obtain ⟨q0, q1, qP, qK, qD, n0, n1, n2⟩ := q; exact ⟨q0, q1, qP, va_K.moved (u := U) (U := U.calling g mk a) (Vm.Alike.refl U.vm) qK, qD, vk_R.same rfl n0, va_Z.moved (Vm.Alike.refl _) n1, vk_S.moved (Vm.Alike.refl _) n2⟩, pv_rc3 hKc hPc (q0 := 0) rfl, fun U hU hW => ⟨rfl, by rw [hU], by rw [hU]; exact hPc, va_K.moved hW.alike hKc, hDc.weaken (fun _ _ _ _ => trivial), vk_R.warm hW h_vr_2, (by rw [hU]; exact (va_Z.moved hW.alike (va_Z.kept h_st_CS hS.2.1)).narrow hFc), (by rw [hU]; exact (vk_S.moved hW.alike (vk_S.kept h_st_S hS.2.1)).narrow hFc)⟩⟩ rfl rfl hl.1 rfl (lv_room (Nat.le_of_ble_eq_true rfl)) dX3_readUnit_151 ⟨Nat.le_of_ble_eq_true rfl, Nat.le_of_ble_eq_true rfl⟩) hS (fun q _ h => hFc q h) hFc (fun ra13 u t H1 locs ht hvm hwra13 hB hz1 hk1 hS => ?_)
        try rw [hwra13] at hB
        rcases hB with hB | hB
        · skip
          obtain ⟨x14, x15, x16, fn17, oa_x14, ob_x14, oa_x15, ob_x15, pt0_ra13, pt1_ra13, pt2_ra13, pt3_ra13, hP1, hK1, hD1⟩ := hB
          rw [ht] at hP1
          obtain ⟨hP2, hD2⟩ := va_join (wr := []) (w1 := (wd_1ad0248d h0 h1 h3 x14 h1 h2 v1 x15 v3 x16 h2 g0 f5 h3 g1 fn17)) hP hD [0, 1, 2, 3] [] rfl rfl (by decide) (by decide) hk1 hFc hP1 hD1
          clear hP hD hPc hDc hKc hFc hP1 hK1 hD1 hk1 hz1
          generalize H1 = H at hP2 hS ⊢
          have hP : va_P (dC, dI) vwCl (wd_1ad0248d h0 h1 h3 x14 h1 h2 v1 x15 v3 x16 h2 g0 f5 h3 g1 fn17) H := hP2
          have hD : va_D A (wd_1ad0248d h0 h1 h3 x14 h1 h2 v1 x15 v3 x16 h2 g0 f5 h3 g1 fn17) := hD2
          clear hP2 hD2
          obtain rfl : ra13 = (1 : Int32) := pv_cs (by decide) pt0_ra13 pt1_ra13
          refine lv_if_ne (tgt := 159) hx hb dX3_readUnit_154 (by decide) (fun _ => ?_) (fun c => absurd c (by decide))
          refine lv_aload_n hx hb dX3_readUnit_159 rfl (lv_at hl 2 rfl) ?_
          refine lv_iload hx hb dX3_readUnit_160 (lv_at hl 0 rfl) ?_
          refine lv_iconst (v := 0) hx hb dX3_readUnit_162 (by decide) ?_
          have hPc := hP.sub (ws' := (wd_b958b9da h0 h1 h3 x14 h3 g1 fn17)) [0, 3] rfl
          have hDc := hD.sub (ws' := (wd_b958b9da h0 h1 h3 x14 h3 g1 fn17)) [0, 3] (by decide) rfl
          have hKc := hK.sub (tys' := [(g1, .int)]) [1] rfl
          have hFc := va_free (wc := (wd_b958b9da h0 h1 h3 x14 h3 g1 fn17)) hD hS hA [0, 3] rfl
          refine va_callv (va_runV (As := [.int ra9, .int 0]) (rest := []) ⟨hx, hb, hml, hown, hts⟩ (k_X3_write l dC dI h0 h3 h1 x14 g1 fn17 ra9 0 ⟨oa_x14, ob_x14⟩ H.size) (cwV 2 hts g_X3_readUnit_7 rfl rfl rfl (by decide +kernel) ⟨Nat.le_of_ble_eq_true rfl, Nat.le_of_ble_eq_true rfl⟩) (pv_PV3 hPc hKc hDc (q0 := 0) rfl) rfl rfl hl.1 rfl (lv_room (Nat.le_of_ble_eq_true rfl)) dX3_readUnit_163 ⟨Nat.le_of_ble_eq_true rfl, Nat.le_of_ble_eq_true rfl⟩) hS (fun q _ h => hFc q h) hFc (fun u t H1 locs ht hvm hwra18 hB hz1 hk1 hS => ?_)
          obtain ⟨x19, fn20, oa_x19, ob_x19, hP1, hK1, hD1⟩ := hB
          rw [ht] at hP1
          obtain ⟨hP2, hD2⟩ := va_join (wr := (wd_82cdd16b h1 h2 v1 x15 v3 x16 h2 g0 f5)) (w1 := (wd_b958b9da h0 h1 h3 x19 h3 g1 fn20)) hP hD [0, 3] [1, 2] rfl rfl (by decide) (by decide) hk1 hFc hP1 hD1
          clear hP hD hPc hDc hKc hFc hP1 hK1 hD1 hk1 hz1
          generalize H1 = H at hP2 hS ⊢
          have hP := hP2.sub (ws' := (wd_1ad0248d h0 h1 h3 x19 h1 h2 v1 x15 v3 x16 h2 g0 f5 h3 g1 fn20)) [2, 0, 1, 3] rfl
          have hD := hD2.sub (ws' := (wd_1ad0248d h0 h1 h3 x19 h1 h2 v1 x15 v3 x16 h2 g0 f5 h3 g1 fn20)) [2, 0, 1, 3] (by decide) rfl
          clear hP2 hD2
          refine lv_iconst (v := 1) hx hb dX3_readUnit_166 (by decide) ?_
          subst hQ
          have hP9 := hP.sub (ws' := (wd_1ad0248d h0 h1 h3 x19 h1 h2 v1 x15 v3 x16 h2 g0 f5 h3 g1 fn20)) [0, 1, 2, 3] rfl
          have hD9 := hD.sub (ws' := (wd_1ad0248d h0 h1 h3 x19 h1 h2 v1 x15 v3 x16 h2 g0 f5 h3 g1 fn20)) [0, 1, 2, 3] (by decide) rfl
          have hK9 := hK.sub (tys' := []) [] rfl
          exact W.zret (v := 1) hx hb hr rfl (fun t ht hW => ⟨⟨1, 1, rfl, rfl, Or.inl ⟨x19, x15, x16, fn20, oa_x19, ob_x19, oa_x15, ob_x15, by first | omega | decide, by first | omega | decide, by omega, by first | (apply pg_cmp.ok <;> first | assumption | omega) | (apply pg_cmp.no <;> first | assumption | omega), by rw [ht]; exact hP9, va_K.moved hW.alike hK9, hD9⟩⟩, hS.F ht⟩) hS.2.2 dX3_readUnit_167
        · skip
          obtain ⟨x21, x22, x23, x24, fn25, oa_x21, ob_x21, oa_x22, ob_x22, oa_x23, ob_x23, pt0_ra13, pt1_ra13, pt2_ra13, pt3_ra13, hP1, hK1, hD1⟩ := hB
          rw [ht] at hP1
          obtain ⟨hP2, hD2⟩ := va_join (wr := []) (w1 := (wd_1ad0248d h0 h1 h3 x21 h1 h2 v1 x22 x23 x24 h2 g0 f5 h3 g1 fn25)) hP hD [0, 1, 2, 3] [] rfl rfl (by decide) (by decide) hk1 hFc hP1 hD1
          clear hP hD hPc hDc hKc hFc hP1 hK1 hD1 hk1 hz1
          generalize H1 = H at hP2 hS ⊢
          have hP : va_P (dC, dI) vwCl (wd_1ad0248d h0 h1 h3 x21 h1 h2 v1 x22 x23 x24 h2 g0 f5 h3 g1 fn25) H := hP2
          have hD : va_D A (wd_1ad0248d h0 h1 h3 x21 h1 h2 v1 x22 x23 x24 h2 g0 f5 h3 g1 fn25) := hD2
          clear hP2 hD2
          obtain rfl : ra13 = (0 : Int32) := pv_cs (by decide) pt0_ra13 pt1_ra13
          refine lv_if_ne (tgt := 159) hx hb dX3_readUnit_154 (by decide) (fun c => absurd (by decide) c) (fun _ => ?_)
          refine lv_iconst (v := 0) hx hb dX3_readUnit_157 (by decide) ?_
          subst hQ
          have hP9 := hP.sub (ws' := (wd_1ad0248d h0 h1 h3 x21 h1 h2 v1 x22 x23 x24 h2 g0 f5 h3 g1 fn25)) [0, 1, 2, 3] rfl
          have hD9 := hD.sub (ws' := (wd_1ad0248d h0 h1 h3 x21 h1 h2 v1 x22 x23 x24 h2 g0 f5 h3 g1 fn25)) [0, 1, 2, 3] (by decide) rfl
          have hK9 := hK.sub (tys' := []) [] rfl
          exact W.zret (v := 0) hx hb hr rfl (fun t ht hW => ⟨⟨0, 0, rfl, rfl, Or.inr (⟨x21, x22, x23, x24, fn25, oa_x21, ob_x21, oa_x22, ob_x22, oa_x23, ob_x23, by first | omega | decide, by first | omega | decide, by omega, by first | (apply pg_cmp.ok <;> first | assumption | omega) | (apply pg_cmp.no <;> first | assumption | omega), by rw [ht]; exact hP9, va_K.moved hW.alike hK9, hD9⟩)⟩, hS.F ht⟩) hS.2.2 dX3_readUnit_158
      · skip
        have fc10 : ra9.toInt = (-1) := congrArg Int32.toInt c10
        refine lv_aload_n hx hb dX3_readUnit_134 rfl (lv_at hl 2 rfl) ?_
        refine va_get (D := (dC, dI)) (ci := 3) (v := .ref h1) (C := RX3) (T := TX3) (N := 3) hx hb hts (fun _ h => List.mem_cons_of_mem _ (List.mem_append_left _ (List.mem_append_right _ h))) hown hK hP 0 rfl rfl 0 (by decide) (hts (.fieldLink RX3 19 "LeftArguments$LawReader" "tape" "LLeftArguments$Tape;") (List.mem_cons_of_mem _ (List.mem_append_left _ (List.mem_append_left _ (List.mem_of_getElem? (i := 0) rfl))))) (fun _ h9 => h9) rfl dX3_readUnit_135 ?_
        have hPc := hP.sub (ws' := (wd_09b0abee h1 h2 v1 x2 v3 v4)) [1] rfl
        have hDc := hD.sub (ws' := (wd_09b0abee h1 h2 v1 x2 v3 v4)) [1] (by decide) rfl
        have hKc := hK.sub (tys' := []) [] rfl
        have hFc := va_free (wc := (wd_09b0abee h1 h2 v1 x2 v3 v4)) hD hS hA [1] rfl
        refine va_calli (va_runV (As := []) (rest := []) ⟨hx, hb, hml, hown, hts⟩ (k_X10_wrongHere l dC dI h1 h2 v1 x2 v3 v4 ⟨i_v1a, i_v1b⟩ ⟨oa_x2, ob_x2⟩ H.size) (cwV 0 hts g_X3_readUnit_3 rfl rfl rfl (by decide +kernel) ⟨Nat.le_of_ble_eq_true rfl, Nat.le_of_ble_eq_true rfl⟩) (pv_PV10 hPc hKc hDc (q0 := 0) rfl) rfl rfl hl.1 rfl (lv_room (Nat.le_of_ble_eq_true rfl)) dX3_readUnit_138 ⟨Nat.le_of_ble_eq_true rfl, Nat.le_of_ble_eq_true rfl⟩) hS (fun q _ h => hFc q h) hFc (fun ra26 u t H1 locs ht hvm hwra26 hB hz1 hk1 hS => ?_)
        try rw [hwra26] at hB
        obtain ⟨x27, oa_x27, ob_x27, pt0_ra26, pt1_ra26, pt2_ra26, hP1, hK1, hD1⟩ := hB
        rw [ht] at hP1
        obtain ⟨hP2, hD2⟩ := va_join (wr := (wd_6b0d8e05 h0 h1 h3 v0 h2 g0 f5 h3 g1 f6)) (w1 := (wd_09b0abee h1 h2 v1 x2 x27 v4)) hP hD [1] [0, 2, 3] rfl rfl (by decide) (by decide) hk1 hFc hP1 hD1
        clear hP hD hPc hDc hKc hFc hP1 hK1 hD1 hk1 hz1
        generalize H1 = H at hP2 hS ⊢
        have hP := hP2.sub (ws' := (wd_1ad0248d h0 h1 h3 v0 h1 h2 v1 x2 x27 v4 h2 g0 f5 h3 g1 f6)) [0, 3, 1, 2] rfl
        have hD := hD2.sub (ws' := (wd_1ad0248d h0 h1 h3 v0 h1 h2 v1 x2 x27 v4 h2 g0 f5 h3 g1 f6)) [0, 3, 1, 2] (by decide) rfl
        clear hP2 hD2
        obtain rfl : ra26 = (0 : Int32) := pv_cs (by decide) pt0_ra26 pt1_ra26
        subst hQ
        have hP9 := hP.sub (ws' := (wd_1ad0248d h0 h1 h3 v0 h1 h2 v1 x2 x27 v4 h2 g0 f5 h3 g1 f6)) [0, 1, 2, 3] rfl
        have hD9 := hD.sub (ws' := (wd_1ad0248d h0 h1 h3 v0 h1 h2 v1 x2 x27 v4 h2 g0 f5 h3 g1 f6)) [0, 1, 2, 3] (by decide) rfl
        have hK9 := hK.sub (tys' := []) [] rfl
        exact W.zret (v := 0) hx hb hr rfl (fun t ht hW => ⟨⟨0, 0, rfl, rfl, Or.inr (⟨v0, x2, x27, v4, f6, i_v0a, i_v0b, oa_x2, ob_x2, oa_x27, ob_x27, by first | omega | decide, by first | omega | decide, by omega, by first | (apply pg_cmp.ok <;> first | assumption | omega) | (apply pg_cmp.no <;> first | assumption | omega), by rw [ht]; exact hP9, va_K.moved hW.alike hK9, hD9⟩)⟩, hS.F ht⟩) hS.2.2 dX3_readUnit_141
  · skip
    obtain ⟨x28, oa_x28, ob_x28, pt0_ra1, pt1_ra1, pt2_ra1, pt3_ra1, pt4_ra1, pt5_ra1, pt6_ra1, hP1, hK1, hD1⟩ := hB
    rw [ht] at hP1
    obtain ⟨hP2, hD2⟩ := va_join (wr := (wd_b958b9da h0 h1 h3 v0 h3 g1 f6)) (w1 := (wd_82cdd16b h1 h2 v1 x28 v3 v4 h2 g0 f5)) hP hD [1, 2] [0, 3] rfl rfl (by decide) (by decide) hk1 hFc hP1 hD1
    clear hP hD hPc hDc hKc hFc hP1 hK1 hD1 hk1 hz1
    generalize H1 = H at hP2 hS ⊢
    have hP := hP2.sub (ws' := (wd_1ad0248d h0 h1 h3 v0 h1 h2 v1 x28 v3 v4 h2 g0 f5 h3 g1 f6)) [0, 2, 3, 1] rfl
    have hD := hD2.sub (ws' := (wd_1ad0248d h0 h1 h3 v0 h1 h2 v1 x28 v3 v4 h2 g0 f5 h3 g1 f6)) [0, 2, 3, 1] (by decide) rfl
    clear hP2 hD2
    refine lv_istore_n (lv' := [(3, .int ra1), (0, .ref h0), (1, .int 0), (2, .int 1)]) hx hb dX3_readUnit_7 rfl hl (by decide) rfl (fun ls hl => ?_)
    refine lv_iload_n hx hb dX3_readUnit_8 rfl (lv_at hl 3 rfl) ?_
    refine lv_if_ne (tgt := 102) hx hb dX3_readUnit_9 (by decide) (fun _ => ?_) (fun c => absurd c (by decide))
    refine lv_iload_n hx hb dX3_readUnit_102 rfl (lv_at hl 3 rfl) ?_
    refine lv_if_ne (tgt := 116) hx hb dX3_readUnit_103 (by decide) (fun _ => ?_) (fun c => absurd c (by decide))
    refine lv_aload_n hx hb dX3_readUnit_116 rfl (lv_at hl 1 rfl) ?_
    refine va_get (D := (dC, dI)) (ci := 3) (v := .ref h1) (C := RX3) (T := TX3) (N := 3) hx hb hts (fun _ h => List.mem_cons_of_mem _ (List.mem_append_left _ (List.mem_append_right _ h))) hown hK hP 0 rfl rfl 0 (by decide) (hts (.fieldLink RX3 19 "LeftArguments$LawReader" "tape" "LLeftArguments$Tape;") (List.mem_cons_of_mem _ (List.mem_append_left _ (List.mem_append_left _ (List.mem_of_getElem? (i := 0) rfl))))) (fun _ h9 => h9) rfl dX3_readUnit_117 ?_
    have hPc := hP.sub (ws' := (wd_82cdd16b h1 h2 v1 x28 v3 v4 h2 g0 f5)) [1, 2] rfl
    have hDc := hD.sub (ws' := (wd_82cdd16b h1 h2 v1 x28 v3 v4 h2 g0 f5)) [1, 2] (by decide) rfl
    have hKc := hK.sub (tys' := [(g0, .int)]) [0] rfl
    have hFc := va_free (wc := (wd_82cdd16b h1 h2 v1 x28 v3 v4 h2 g0 f5)) hD hS hA [1, 2] rfl
    refine va_calli (va_runV (As := []) (rest := []) ⟨hx, hb, hml, hown, hts⟩ (k_X10_next l dC dI h1 h2 v1 x28 v3 v4 g0 f5 ⟨i_v1a, i_v1b⟩ ⟨oa_x28, by first | omega | decide⟩ ia_f5 H.size) (cwV 0 hts g_X3_readUnit_0 rfl rfl rfl (by decide +kernel) ⟨Nat.le_of_ble_eq_true rfl, Nat.le_of_ble_eq_true rfl⟩) (pv_PV10 hPc hKc hDc (q0 := 0) rfl) rfl rfl hl.1 rfl (lv_room (Nat.le_of_ble_eq_true rfl)) dX3_readUnit_120 ⟨Nat.le_of_ble_eq_true rfl, Nat.le_of_ble_eq_true rfl⟩) hS (fun q _ h => hFc q h) hFc (fun ra29 u t H1 locs ht hvm hwra29 hB hz1 hk1 hS => ?_)
    try rw [hwra29] at hB
    rcases hB with hB | hB
    · skip
      obtain ⟨x30, oa_x30, ob_x30, pt0_ra29, pt1_ra29, pt2_ra29, pt3_ra29, pt4_ra29, pt5_ra29, pt6_ra29, hP1, hK1, hD1⟩ := hB
      rw [ht] at hP1
      obtain ⟨hP2, hD2⟩ := va_join (wr := (wd_b958b9da h0 h1 h3 v0 h3 g1 f6)) (w1 := (wd_82cdd16b h1 h2 v1 x30 v3 v4 h2 g0 f5)) hP hD [1, 2] [0, 3] rfl rfl (by decide) (by decide) hk1 hFc hP1 hD1
      clear hP hD hPc hDc hKc hFc hP1 hK1 hD1 hk1 hz1
      generalize H1 = H at hP2 hS ⊢
      have hP := hP2.sub (ws' := (wd_1ad0248d h0 h1 h3 v0 h1 h2 v1 x30 v3 v4 h2 g0 f5 h3 g1 f6)) [0, 2, 3, 1] rfl
      have hD := hD2.sub (ws' := (wd_1ad0248d h0 h1 h3 v0 h1 h2 v1 x30 v3 v4 h2 g0 f5 h3 g1 f6)) [0, 2, 3, 1] (by decide) rfl
      clear hP2 hD2
      obtain rfl : ra29 = ((-1) : Int32) := pv_cs (by decide) pt0_ra29 pt1_ra29
      have hsh : pg_s f5 v1.toInt x28.toInt = x28.toInt := pg_s.here (by assumption)
      obtain rfl : x28 = x30 := Int32.toInt_inj.mp (by omega)
      have hP : va_P (dC, dI) vwCl (wd_1ad0248d h0 h1 h3 v0 h1 h2 v1 x28 v3 v4 h2 g0 f5 h3 g1 f6) H := hP
      have hD : va_D A (wd_1ad0248d h0 h1 h3 v0 h1 h2 v1 x28 v3 v4 h2 g0 f5 h3 g1 f6) := hD
      have hPc := hP.sub (ws' := []) [] rfl
      have hDc := hD.sub (ws' := []) [] (by decide) rfl
      have hKc := hK.sub (tys' := []) [] rfl
      have hFc := va_free (wc := []) hD hS hA [] rfl
      refine va_calli (va_runS (As := [.int (-1)]) (rest := []) ⟨hx, hb, hml, hown, hts⟩ (k_X3_comparing l dC dI   H.size) (va_cwS 1 hts g_X3_readUnit_2 rfl rfl rfl (by decide +kernel) ⟨Nat.le_of_ble_eq_true rfl, Nat.le_of_ble_eq_true rfl⟩) (pv_PS hPc hKc hDc) rfl rfl hl.1 rfl (lv_room (Nat.le_of_ble_eq_true rfl)) dX3_readUnit_123 ⟨Nat.le_of_ble_eq_true rfl, Nat.le_of_ble_eq_true rfl⟩) hS (fun q _ h => hFc q h) hFc (fun ra31 u t H1 locs ht hvm hwra31 hB hz1 hk1 hS => ?_)
      try rw [hwra31] at hB
      obtain ⟨pt0_ra31, pt1_ra31, hP1, hK1, hD1⟩ := hB
      rw [ht] at hP1
      obtain ⟨hP2, hD2⟩ := va_join (wr := (wd_1ad0248d h0 h1 h3 v0 h1 h2 v1 x28 v3 v4 h2 g0 f5 h3 g1 f6)) (w1 := []) hP hD [] [0, 1, 2, 3] rfl rfl (by decide) (by decide) hk1 hFc hP1 hD1
      clear hP hD hPc hDc hKc hFc hP1 hK1 hD1 hk1 hz1
      generalize H1 = H at hP2 hS ⊢
      have hP : va_P (dC, dI) vwCl (wd_1ad0248d h0 h1 h3 v0 h1 h2 v1 x28 v3 v4 h2 g0 f5 h3 g1 f6) H := hP2
      have hD : va_D A (wd_1ad0248d h0 h1 h3 v0 h1 h2 v1 x28 v3 v4 h2 g0 f5 h3 g1 f6) := hD2
      clear hP2 hD2
      obtain rfl : ra31 = ((-1) : Int32) := pv_cs (by decide) pt0_ra31 pt1_ra31
      refine lv_istore (lv' := [(4, .int (-1)), (3, .int ra1), (0, .ref h0), (1, .int 0), (2, .int 1)]) hx hb dX3_readUnit_126 hl (by decide) rfl (fun ls hl => ?_)
      refine lv_iload hx hb dX3_readUnit_128 (lv_at hl 0 rfl) ?_
      refine lv_iconst (v := (-1)) hx hb dX3_readUnit_130 (by decide) ?_
      refine lv_icmp_ne (tgt := 142) hx hb dX3_readUnit_131 (by decide) (fun c => absurd (by decide) c) (fun _ => ?_)
      refine lv_aload_n hx hb dX3_readUnit_134 rfl (lv_at hl 2 rfl) ?_
      refine va_get (D := (dC, dI)) (ci := 3) (v := .ref h1) (C := RX3) (T := TX3) (N := 3) hx hb hts (fun _ h => List.mem_cons_of_mem _ (List.mem_append_left _ (List.mem_append_right _ h))) hown hK hP 0 rfl rfl 0 (by decide) (hts (.fieldLink RX3 19 "LeftArguments$LawReader" "tape" "LLeftArguments$Tape;") (List.mem_cons_of_mem _ (List.mem_append_left _ (List.mem_append_left _ (List.mem_of_getElem? (i := 0) rfl))))) (fun _ h9 => h9) rfl dX3_readUnit_135 ?_
      have hPc := hP.sub (ws' := (wd_09b0abee h1 h2 v1 x28 v3 v4)) [1] rfl
      have hDc := hD.sub (ws' := (wd_09b0abee h1 h2 v1 x28 v3 v4)) [1] (by decide) rfl
      have hKc := hK.sub (tys' := []) [] rfl
      have hFc := va_free (wc := (wd_09b0abee h1 h2 v1 x28 v3 v4)) hD hS hA [1] rfl
      refine va_calli (va_runV (As := []) (rest := []) ⟨hx, hb, hml, hown, hts⟩ (k_X10_wrongHere l dC dI h1 h2 v1 x28 v3 v4 ⟨i_v1a, i_v1b⟩ ⟨oa_x28, by first | omega | decide⟩ H.size) (cwV 0 hts g_X3_readUnit_3 rfl rfl rfl (by decide +kernel) ⟨Nat.le_of_ble_eq_true rfl, Nat.le_of_ble_eq_true rfl⟩) (pv_PV10 hPc hKc hDc (q0 := 0) rfl) rfl rfl hl.1 rfl (lv_room (Nat.le_of_ble_eq_true rfl)) dX3_readUnit_138 ⟨Nat.le_of_ble_eq_true rfl, Nat.le_of_ble_eq_true rfl⟩) hS (fun q _ h => hFc q h) hFc (fun ra32 u t H1 locs ht hvm hwra32 hB hz1 hk1 hS => ?_)
      try rw [hwra32] at hB
      obtain ⟨x33, oa_x33, ob_x33, pt0_ra32, pt1_ra32, pt2_ra32, hP1, hK1, hD1⟩ := hB
      rw [ht] at hP1
      obtain ⟨hP2, hD2⟩ := va_join (wr := (wd_6b0d8e05 h0 h1 h3 v0 h2 g0 f5 h3 g1 f6)) (w1 := (wd_09b0abee h1 h2 v1 x28 x33 v4)) hP hD [1] [0, 2, 3] rfl rfl (by decide) (by decide) hk1 hFc hP1 hD1
      clear hP hD hPc hDc hKc hFc hP1 hK1 hD1 hk1 hz1
      generalize H1 = H at hP2 hS ⊢
      have hP := hP2.sub (ws' := (wd_1ad0248d h0 h1 h3 v0 h1 h2 v1 x28 x33 v4 h2 g0 f5 h3 g1 f6)) [0, 3, 1, 2] rfl
      have hD := hD2.sub (ws' := (wd_1ad0248d h0 h1 h3 v0 h1 h2 v1 x28 x33 v4 h2 g0 f5 h3 g1 f6)) [0, 3, 1, 2] (by decide) rfl
      clear hP2 hD2
      obtain rfl : ra32 = (0 : Int32) := pv_cs (by decide) pt0_ra32 pt1_ra32
      subst hQ
      have hP9 := hP.sub (ws' := (wd_1ad0248d h0 h1 h3 v0 h1 h2 v1 x28 x33 v4 h2 g0 f5 h3 g1 f6)) [0, 1, 2, 3] rfl
      have hD9 := hD.sub (ws' := (wd_1ad0248d h0 h1 h3 v0 h1 h2 v1 x28 x33 v4 h2 g0 f5 h3 g1 f6)) [0, 1, 2, 3] (by decide) rfl
      have hK9 := hK.sub (tys' := []) [] rfl
      exact W.zret (v := 0) hx hb hr rfl (fun t ht hW => ⟨⟨0, 0, rfl, rfl, Or.inr (⟨v0, x28, x33, v4, f6, i_v0a, i_v0b, oa_x28, by first | omega | decide, oa_x33, ob_x33, by first | omega | decide, by first | omega | decide, by omega, by first | (apply pg_cmp.ok <;> first | assumption | omega) | (apply pg_cmp.no <;> first | assumption | omega), by rw [ht]; exact hP9, va_K.moved hW.alike hK9, hD9⟩)⟩, hS.F ht⟩) hS.2.2 dX3_readUnit_141
    · skip
      obtain ⟨x34, oa_x34, ob_x34, pt0_ra29, pt1_ra29, pt2_ra29, pt3_ra29, pt4_ra29, pt5_ra29, pt6_ra29, hP1, hK1, hD1⟩ := hB
      rw [ht] at hP1
      obtain ⟨hP2, hD2⟩ := va_join (wr := (wd_b958b9da h0 h1 h3 v0 h3 g1 f6)) (w1 := (wd_82cdd16b h1 h2 v1 x34 v3 v4 h2 g0 f5)) hP hD [1, 2] [0, 3] rfl rfl (by decide) (by decide) hk1 hFc hP1 hD1
      clear hP hD hPc hDc hKc hFc hP1 hK1 hD1 hk1 hz1
      generalize H1 = H at hP2 hS ⊢
      have hP := hP2.sub (ws' := (wd_1ad0248d h0 h1 h3 v0 h1 h2 v1 x34 v3 v4 h2 g0 f5 h3 g1 f6)) [0, 2, 3, 1] rfl
      have hD := hD2.sub (ws' := (wd_1ad0248d h0 h1 h3 v0 h1 h2 v1 x34 v3 v4 h2 g0 f5 h3 g1 f6)) [0, 2, 3, 1] (by decide) rfl
      clear hP2 hD2
      have hsh : pg_s f5 v1.toInt x28.toInt = x28.toInt := pg_s.here (by assumption)
      obtain rfl : x28 = x34 := Int32.toInt_inj.mp (by omega)
      have hP : va_P (dC, dI) vwCl (wd_1ad0248d h0 h1 h3 v0 h1 h2 v1 x28 v3 v4 h2 g0 f5 h3 g1 f6) H := hP
      have hD : va_D A (wd_1ad0248d h0 h1 h3 v0 h1 h2 v1 x28 v3 v4 h2 g0 f5 h3 g1 f6) := hD
      have hPc := hP.sub (ws' := []) [] rfl
      have hDc := hD.sub (ws' := []) [] (by decide) rfl
      have hKc := hK.sub (tys' := []) [] rfl
      have hFc := va_free (wc := []) hD hS hA [] rfl
      refine va_calli (va_runS (As := [.int ra29]) (rest := []) ⟨hx, hb, hml, hown, hts⟩ (k_X3_comparing_1 l dC dI ra29  H.size) (va_cwS 1 hts g_X3_readUnit_4 rfl rfl rfl (by decide +kernel) ⟨Nat.le_of_ble_eq_true rfl, Nat.le_of_ble_eq_true rfl⟩) (pv_PS hPc hKc hDc) rfl rfl hl.1 rfl (lv_room (Nat.le_of_ble_eq_true rfl)) dX3_readUnit_123 ⟨Nat.le_of_ble_eq_true rfl, Nat.le_of_ble_eq_true rfl⟩) hS (fun q _ h => hFc q h) hFc (fun ra35 u t H1 locs ht hvm hwra35 hB hz1 hk1 hS => ?_)
      try rw [hwra35] at hB
      obtain ⟨pt0_ra35, pt1_ra35, pt2_ra35, hP1, hK1, hD1⟩ := hB
      rw [ht] at hP1
      obtain ⟨hP2, hD2⟩ := va_join (wr := (wd_1ad0248d h0 h1 h3 v0 h1 h2 v1 x28 v3 v4 h2 g0 f5 h3 g1 f6)) (w1 := []) hP hD [] [0, 1, 2, 3] rfl rfl (by decide) (by decide) hk1 hFc hP1 hD1
      clear hP hD hPc hDc hKc hFc hP1 hK1 hD1 hk1 hz1
      generalize H1 = H at hP2 hS ⊢
      have hP : va_P (dC, dI) vwCl (wd_1ad0248d h0 h1 h3 v0 h1 h2 v1 x28 v3 v4 h2 g0 f5 h3 g1 f6) H := hP2
      have hD : va_D A (wd_1ad0248d h0 h1 h3 v0 h1 h2 v1 x28 v3 v4 h2 g0 f5 h3 g1 f6) := hD2
      clear hP2 hD2
      refine lv_istore (lv' := [(4, .int ra35), (3, .int ra1), (0, .ref h0), (1, .int 0), (2, .int 1)]) hx hb dX3_readUnit_126 hl (by decide) rfl (fun ls hl => ?_)
      refine lv_iload hx hb dX3_readUnit_128 (lv_at hl 0 rfl) ?_
      refine lv_iconst (v := (-1)) hx hb dX3_readUnit_130 (by decide) ?_
      refine lv_icmp_ne (tgt := 142) hx hb dX3_readUnit_131 (by decide) (fun c36 => ?_) (fun c36 => ?_)
      · skip
        have fc36 : ¬ (ra35.toInt = (-1)) := fun h9 => c36 (Int32.toInt_inj.mp h9)
        refine lv_aload_n hx hb dX3_readUnit_142 rfl (lv_at hl 2 rfl) ?_
        refine va_get (D := (dC, dI)) (ci := 3) (v := .ref h1) (C := RX3) (T := TX3) (N := 3) hx hb hts (fun _ h => List.mem_cons_of_mem _ (List.mem_append_left _ (List.mem_append_right _ h))) hown hK hP 0 rfl rfl 0 (by decide) (hts (.fieldLink RX3 19 "LeftArguments$LawReader" "tape" "LLeftArguments$Tape;") (List.mem_cons_of_mem _ (List.mem_append_left _ (List.mem_append_left _ (List.mem_of_getElem? (i := 0) rfl))))) (fun _ h9 => h9) rfl dX3_readUnit_143 ?_
        have hPc := hP.sub (ws' := (wd_09b0abee h1 h2 v1 x28 v3 v4)) [1] rfl
        have hDc := hD.sub (ws' := (wd_09b0abee h1 h2 v1 x28 v3 v4)) [1] (by decide) rfl
        have hKc := hK.sub (tys' := []) [] rfl
        have hFc := va_free (wc := (wd_09b0abee h1 h2 v1 x28 v3 v4)) hD hS hA [1] rfl
        refine va_callv (va_runV (As := []) (rest := []) ⟨hx, hb, hml, hown, hts⟩ (k_X10_step l dC dI h1 h2 v1 x28 v3 v4 ⟨i_v1a, i_v1b⟩ ⟨oa_x28, ob_x28⟩ H.size) (cwV 0 hts g_X3_readUnit_5 rfl rfl rfl (by decide +kernel) ⟨Nat.le_of_ble_eq_true rfl, Nat.le_of_ble_eq_true rfl⟩) (pv_PV10 hPc hKc hDc (q0 := 0) rfl) rfl rfl hl.1 rfl (lv_room (Nat.le_of_ble_eq_true rfl)) dX3_readUnit_146 ⟨Nat.le_of_ble_eq_true rfl, Nat.le_of_ble_eq_true rfl⟩) hS (fun q _ h => hFc q h) hFc (fun u t H1 locs ht hvm hwra37 hB hz1 hk1 hS => ?_)
        obtain ⟨x38, oa_x38, ob_x38, pt0_ra37, hP1, hK1, hD1⟩ := hB
        rw [ht] at hP1
        obtain ⟨hP2, hD2⟩ := va_join (wr := (wd_6b0d8e05 h0 h1 h3 v0 h2 g0 f5 h3 g1 f6)) (w1 := (wd_09b0abee h1 h2 v1 x38 v3 v4)) hP hD [1] [0, 2, 3] rfl rfl (by decide) (by decide) hk1 hFc hP1 hD1
        clear hP hD hPc hDc hKc hFc hP1 hK1 hD1 hk1 hz1
        generalize H1 = H at hP2 hS ⊢
        have hP := hP2.sub (ws' := (wd_1ad0248d h0 h1 h3 v0 h1 h2 v1 x38 v3 v4 h2 g0 f5 h3 g1 f6)) [0, 3, 1, 2] rfl
        have hD := hD2.sub (ws' := (wd_1ad0248d h0 h1 h3 v0 h1 h2 v1 x38 v3 v4 h2 g0 f5 h3 g1 f6)) [0, 3, 1, 2] (by decide) rfl
        clear hP2 hD2
        refine lv_aload_n hx hb dX3_readUnit_149 rfl (lv_at hl 2 rfl) ?_
        refine lv_iload_n hx hb dX3_readUnit_150 rfl (lv_at hl 3 rfl) ?_
        have hPc := hP.sub (ws' := (wd_1ad0248d h0 h1 h3 v0 h1 h2 v1 x38 v3 v4 h2 g0 f5 h3 g1 f6)) [0, 1, 2, 3] rfl
        have hDc := hD.sub (ws' := (wd_1ad0248d h0 h1 h3 v0 h1 h2 v1 x38 v3 v4 h2 g0 f5 h3 g1 f6)) [0, 1, 2, 3] (by decide) rfl
        have hKc := hK.sub (tys' := [(g0, .int), (g1, .int)]) [0, 1] rfl
        have hFc := va_free (wc := (wd_1ad0248d h0 h1 h3 v0 h1 h2 v1 x38 v3 v4 h2 g0 f5 h3 g1 f6)) hD hS hA [0, 1, 2, 3] rfl
        refine va_calli (va_runV (As := [.int 0]) (rest := []) ⟨hx, hb, hml, hown, hts⟩ (k_X3_readSum_6 l dC dI adK adV h0 h1 h2 h3 v0 v1 x38 v3 v4 g0 f5 g1 f6 ⟨i_v0a, i_v0b⟩ ⟨i_v1a, i_v1b⟩ ⟨by first | omega | decide, ob_x38⟩ ia_f5 H.size) (cwV 1 hts g_X3_readUnit_6 rfl rfl rfl (by decide +kernel) ⟨Nat.le_of_ble_eq_true rfl, Nat.le_of_ble_eq_true rfl⟩) ⟨fun a U g mk q => by obtain ⟨q0, q1, qP, qK, qD, n0, n1, n2⟩ := q; exact ⟨q0, q1, qP, va_K.moved (u := U) (U := U.calling g mk a) (Vm.Alike.refl U.vm) qK, qD, vk_R.same rfl n0, va_Z.moved (Vm.Alike.refl _) n1, vk_S.moved (Vm.Alike.refl _) n2⟩, pv_rc3 hKc hPc (q0 := 0) rfl, fun U hU hW => ⟨rfl, by rw [hU], by rw [hU]; exact hPc, va_K.moved hW.alike hKc, hDc.weaken (fun _ _ _ _ => trivial), vk_R.warm hW h_vr_2, (by rw [hU]; exact (va_Z.moved hW.alike (va_Z.kept h_st_CS hS.2.1)).narrow hFc), (by rw [hU]; exact (vk_S.moved hW.alike (vk_S.kept h_st_S hS.2.1)).narrow hFc)⟩⟩ rfl rfl hl.1 rfl (lv_room (Nat.le_of_ble_eq_true rfl)) dX3_readUnit_151 ⟨Nat.le_of_ble_eq_true rfl, Nat.le_of_ble_eq_true rfl⟩) hS (fun q _ h => hFc q h) hFc (fun ra39 u t H1 locs ht hvm hwra39 hB hz1 hk1 hS => ?_)
        try rw [hwra39] at hB
        rcases hB with hB | hB
        · skip
          obtain ⟨x40, x41, x42, fn43, oa_x40, ob_x40, oa_x41, ob_x41, pt0_ra39, pt1_ra39, pt2_ra39, pt3_ra39, hP1, hK1, hD1⟩ := hB
          rw [ht] at hP1
          obtain ⟨hP2, hD2⟩ := va_join (wr := []) (w1 := (wd_1ad0248d h0 h1 h3 x40 h1 h2 v1 x41 v3 x42 h2 g0 f5 h3 g1 fn43)) hP hD [0, 1, 2, 3] [] rfl rfl (by decide) (by decide) hk1 hFc hP1 hD1
          clear hP hD hPc hDc hKc hFc hP1 hK1 hD1 hk1 hz1
          generalize H1 = H at hP2 hS ⊢
          have hP : va_P (dC, dI) vwCl (wd_1ad0248d h0 h1 h3 x40 h1 h2 v1 x41 v3 x42 h2 g0 f5 h3 g1 fn43) H := hP2
          have hD : va_D A (wd_1ad0248d h0 h1 h3 x40 h1 h2 v1 x41 v3 x42 h2 g0 f5 h3 g1 fn43) := hD2
          clear hP2 hD2
          obtain rfl : ra39 = (1 : Int32) := pv_cs (by decide) pt0_ra39 pt1_ra39
          refine lv_if_ne (tgt := 159) hx hb dX3_readUnit_154 (by decide) (fun _ => ?_) (fun c => absurd c (by decide))
          refine lv_aload_n hx hb dX3_readUnit_159 rfl (lv_at hl 2 rfl) ?_
          refine lv_iload hx hb dX3_readUnit_160 (lv_at hl 0 rfl) ?_
          refine lv_iconst (v := 0) hx hb dX3_readUnit_162 (by decide) ?_
          have hPc := hP.sub (ws' := (wd_b958b9da h0 h1 h3 x40 h3 g1 fn43)) [0, 3] rfl
          have hDc := hD.sub (ws' := (wd_b958b9da h0 h1 h3 x40 h3 g1 fn43)) [0, 3] (by decide) rfl
          have hKc := hK.sub (tys' := [(g1, .int)]) [1] rfl
          have hFc := va_free (wc := (wd_b958b9da h0 h1 h3 x40 h3 g1 fn43)) hD hS hA [0, 3] rfl
          refine va_callv (va_runV (As := [.int ra35, .int 0]) (rest := []) ⟨hx, hb, hml, hown, hts⟩ (k_X3_write l dC dI h0 h3 h1 x40 g1 fn43 ra35 0 ⟨oa_x40, ob_x40⟩ H.size) (cwV 2 hts g_X3_readUnit_7 rfl rfl rfl (by decide +kernel) ⟨Nat.le_of_ble_eq_true rfl, Nat.le_of_ble_eq_true rfl⟩) (pv_PV3 hPc hKc hDc (q0 := 0) rfl) rfl rfl hl.1 rfl (lv_room (Nat.le_of_ble_eq_true rfl)) dX3_readUnit_163 ⟨Nat.le_of_ble_eq_true rfl, Nat.le_of_ble_eq_true rfl⟩) hS (fun q _ h => hFc q h) hFc (fun u t H1 locs ht hvm hwra44 hB hz1 hk1 hS => ?_)
          obtain ⟨x45, fn46, oa_x45, ob_x45, hP1, hK1, hD1⟩ := hB
          rw [ht] at hP1
          obtain ⟨hP2, hD2⟩ := va_join (wr := (wd_82cdd16b h1 h2 v1 x41 v3 x42 h2 g0 f5)) (w1 := (wd_b958b9da h0 h1 h3 x45 h3 g1 fn46)) hP hD [0, 3] [1, 2] rfl rfl (by decide) (by decide) hk1 hFc hP1 hD1
          clear hP hD hPc hDc hKc hFc hP1 hK1 hD1 hk1 hz1
          generalize H1 = H at hP2 hS ⊢
          have hP := hP2.sub (ws' := (wd_1ad0248d h0 h1 h3 x45 h1 h2 v1 x41 v3 x42 h2 g0 f5 h3 g1 fn46)) [2, 0, 1, 3] rfl
          have hD := hD2.sub (ws' := (wd_1ad0248d h0 h1 h3 x45 h1 h2 v1 x41 v3 x42 h2 g0 f5 h3 g1 fn46)) [2, 0, 1, 3] (by decide) rfl
          clear hP2 hD2
          refine lv_iconst (v := 1) hx hb dX3_readUnit_166 (by decide) ?_
          subst hQ
          have hP9 := hP.sub (ws' := (wd_1ad0248d h0 h1 h3 x45 h1 h2 v1 x41 v3 x42 h2 g0 f5 h3 g1 fn46)) [0, 1, 2, 3] rfl
          have hD9 := hD.sub (ws' := (wd_1ad0248d h0 h1 h3 x45 h1 h2 v1 x41 v3 x42 h2 g0 f5 h3 g1 fn46)) [0, 1, 2, 3] (by decide) rfl
          have hK9 := hK.sub (tys' := []) [] rfl
          exact W.zret (v := 1) hx hb hr rfl (fun t ht hW => ⟨⟨1, 1, rfl, rfl, Or.inl ⟨x45, x41, x42, fn46, oa_x45, ob_x45, oa_x41, ob_x41, by first | omega | decide, by first | omega | decide, by omega, by first | (apply pg_cmp.ok <;> first | assumption | omega) | (apply pg_cmp.no <;> first | assumption | omega), by rw [ht]; exact hP9, va_K.moved hW.alike hK9, hD9⟩⟩, hS.F ht⟩) hS.2.2 dX3_readUnit_167
        · skip
          obtain ⟨x47, x48, x49, x50, fn51, oa_x47, ob_x47, oa_x48, ob_x48, oa_x49, ob_x49, pt0_ra39, pt1_ra39, pt2_ra39, pt3_ra39, hP1, hK1, hD1⟩ := hB
          rw [ht] at hP1
          obtain ⟨hP2, hD2⟩ := va_join (wr := []) (w1 := (wd_1ad0248d h0 h1 h3 x47 h1 h2 v1 x48 x49 x50 h2 g0 f5 h3 g1 fn51)) hP hD [0, 1, 2, 3] [] rfl rfl (by decide) (by decide) hk1 hFc hP1 hD1
          clear hP hD hPc hDc hKc hFc hP1 hK1 hD1 hk1 hz1
          generalize H1 = H at hP2 hS ⊢
          have hP : va_P (dC, dI) vwCl (wd_1ad0248d h0 h1 h3 x47 h1 h2 v1 x48 x49 x50 h2 g0 f5 h3 g1 fn51) H := hP2
          have hD : va_D A (wd_1ad0248d h0 h1 h3 x47 h1 h2 v1 x48 x49 x50 h2 g0 f5 h3 g1 fn51) := hD2
          clear hP2 hD2
          obtain rfl : ra39 = (0 : Int32) := pv_cs (by decide) pt0_ra39 pt1_ra39
          refine lv_if_ne (tgt := 159) hx hb dX3_readUnit_154 (by decide) (fun c => absurd (by decide) c) (fun _ => ?_)
          refine lv_iconst (v := 0) hx hb dX3_readUnit_157 (by decide) ?_
          subst hQ
          have hP9 := hP.sub (ws' := (wd_1ad0248d h0 h1 h3 x47 h1 h2 v1 x48 x49 x50 h2 g0 f5 h3 g1 fn51)) [0, 1, 2, 3] rfl
          have hD9 := hD.sub (ws' := (wd_1ad0248d h0 h1 h3 x47 h1 h2 v1 x48 x49 x50 h2 g0 f5 h3 g1 fn51)) [0, 1, 2, 3] (by decide) rfl
          have hK9 := hK.sub (tys' := []) [] rfl
          exact W.zret (v := 0) hx hb hr rfl (fun t ht hW => ⟨⟨0, 0, rfl, rfl, Or.inr (⟨x47, x48, x49, x50, fn51, oa_x47, ob_x47, oa_x48, ob_x48, oa_x49, ob_x49, by first | omega | decide, by first | omega | decide, by omega, by first | (apply pg_cmp.ok <;> first | assumption | omega) | (apply pg_cmp.no <;> first | assumption | omega), by rw [ht]; exact hP9, va_K.moved hW.alike hK9, hD9⟩)⟩, hS.F ht⟩) hS.2.2 dX3_readUnit_158
      · skip
        have fc36 : ra35.toInt = (-1) := congrArg Int32.toInt c36
        refine lv_aload_n hx hb dX3_readUnit_134 rfl (lv_at hl 2 rfl) ?_
        refine va_get (D := (dC, dI)) (ci := 3) (v := .ref h1) (C := RX3) (T := TX3) (N := 3) hx hb hts (fun _ h => List.mem_cons_of_mem _ (List.mem_append_left _ (List.mem_append_right _ h))) hown hK hP 0 rfl rfl 0 (by decide) (hts (.fieldLink RX3 19 "LeftArguments$LawReader" "tape" "LLeftArguments$Tape;") (List.mem_cons_of_mem _ (List.mem_append_left _ (List.mem_append_left _ (List.mem_of_getElem? (i := 0) rfl))))) (fun _ h9 => h9) rfl dX3_readUnit_135 ?_
        have hPc := hP.sub (ws' := (wd_09b0abee h1 h2 v1 x28 v3 v4)) [1] rfl
        have hDc := hD.sub (ws' := (wd_09b0abee h1 h2 v1 x28 v3 v4)) [1] (by decide) rfl
        have hKc := hK.sub (tys' := []) [] rfl
        have hFc := va_free (wc := (wd_09b0abee h1 h2 v1 x28 v3 v4)) hD hS hA [1] rfl
        refine va_calli (va_runV (As := []) (rest := []) ⟨hx, hb, hml, hown, hts⟩ (k_X10_wrongHere l dC dI h1 h2 v1 x28 v3 v4 ⟨i_v1a, i_v1b⟩ ⟨oa_x28, by first | omega | decide⟩ H.size) (cwV 0 hts g_X3_readUnit_3 rfl rfl rfl (by decide +kernel) ⟨Nat.le_of_ble_eq_true rfl, Nat.le_of_ble_eq_true rfl⟩) (pv_PV10 hPc hKc hDc (q0 := 0) rfl) rfl rfl hl.1 rfl (lv_room (Nat.le_of_ble_eq_true rfl)) dX3_readUnit_138 ⟨Nat.le_of_ble_eq_true rfl, Nat.le_of_ble_eq_true rfl⟩) hS (fun q _ h => hFc q h) hFc (fun ra52 u t H1 locs ht hvm hwra52 hB hz1 hk1 hS => ?_)
        try rw [hwra52] at hB
        obtain ⟨x53, oa_x53, ob_x53, pt0_ra52, pt1_ra52, pt2_ra52, hP1, hK1, hD1⟩ := hB
        rw [ht] at hP1
        obtain ⟨hP2, hD2⟩ := va_join (wr := (wd_6b0d8e05 h0 h1 h3 v0 h2 g0 f5 h3 g1 f6)) (w1 := (wd_09b0abee h1 h2 v1 x28 x53 v4)) hP hD [1] [0, 2, 3] rfl rfl (by decide) (by decide) hk1 hFc hP1 hD1
        clear hP hD hPc hDc hKc hFc hP1 hK1 hD1 hk1 hz1
        generalize H1 = H at hP2 hS ⊢
        have hP := hP2.sub (ws' := (wd_1ad0248d h0 h1 h3 v0 h1 h2 v1 x28 x53 v4 h2 g0 f5 h3 g1 f6)) [0, 3, 1, 2] rfl
        have hD := hD2.sub (ws' := (wd_1ad0248d h0 h1 h3 v0 h1 h2 v1 x28 x53 v4 h2 g0 f5 h3 g1 f6)) [0, 3, 1, 2] (by decide) rfl
        clear hP2 hD2
        obtain rfl : ra52 = (0 : Int32) := pv_cs (by decide) pt0_ra52 pt1_ra52
        subst hQ
        have hP9 := hP.sub (ws' := (wd_1ad0248d h0 h1 h3 v0 h1 h2 v1 x28 x53 v4 h2 g0 f5 h3 g1 f6)) [0, 1, 2, 3] rfl
        have hD9 := hD.sub (ws' := (wd_1ad0248d h0 h1 h3 v0 h1 h2 v1 x28 x53 v4 h2 g0 f5 h3 g1 f6)) [0, 1, 2, 3] (by decide) rfl
        have hK9 := hK.sub (tys' := []) [] rfl
        exact W.zret (v := 0) hx hb hr rfl (fun t ht hW => ⟨⟨0, 0, rfl, rfl, Or.inr (⟨v0, x28, x53, v4, f6, i_v0a, i_v0b, oa_x28, by first | omega | decide, oa_x53, ob_x53, by first | omega | decide, by first | omega | decide, by omega, by first | (apply pg_cmp.ok <;> first | assumption | omega) | (apply pg_cmp.no <;> first | assumption | omega), by rw [ht]; exact hP9, va_K.moved hW.alike hK9, hD9⟩)⟩, hS.F ht⟩) hS.2.2 dX3_readUnit_141
def q_X3_readUnit_1 : List Cond := .code yX3_readUnit cX3_readUnit 5 (some .boolean) :: (([.fieldLink RX3 19 "LeftArguments$LawReader" "tape" "LLeftArguments$Tape;", .code yX10_next cX10_next 1 (some .int), .fieldLink RX10 19 "LeftArguments$Tape" "at" "I", .fieldLink RX10 15 "LeftArguments$Tape" "used" "I", .fieldLink RX10 9 "LeftArguments$Tape" "bytes" "[I", .initialized RX10, .instanceMethod yX10_next, .selects RX10 yX10_next yX10_next, .methodLink RX3 48 yX10_next, .code yX3_readSum cX3_readSum 4 (some .boolean), .code yX3_readTerm cX3_readTerm 4 (some .boolean), .code yX3_readAtom cX3_readAtom 4 (some .boolean), .code yX10_isDigit cX10_isDigit 1 (some .boolean), .static yX10_isDigit, .methodLink RX3 92 yX10_isDigit, .code yX10_wrongHere cX10_wrongHere 1 (some .boolean), .fieldLink RX10 22 "LeftArguments$Tape" "wrongAt" "I", .instanceMethod yX10_wrongHere, .selects RX10 yX10_wrongHere yX10_wrongHere, .methodLink RX3 83 yX10_wrongHere, .code yJ0_indexOf_0f7a4 cJ0_indexOf_0f7a4 2 (some .int), .code yJ0_indexOf_7cf53 cJ0_indexOf_7cf53 3 (some .int), .code yJ0_isLatin1_aae02 cJ0_isLatin1_aae02 1 (some .boolean), .fieldLink RJ0 38 "java/lang/String" "COMPACT_STRINGS" "Z", .fieldLink RJ0 15 "java/lang/String" "coder" "B", .initialized RJ0, .instanceMethod yJ0_isLatin1_aae02, .selects RJ0 yJ0_isLatin1_aae02 yJ0_isLatin1_aae02, .methodLink RJ0 492 yJ0_isLatin1_aae02, .fieldLink RJ0 9 "java/lang/String" "value" "[B", .code yJ0_length_8abf5 cJ0_length_8abf5 1 (some .int), .code yJ0_coder_7d493 cJ0_coder_7d493 1 (some .byte), .instanceMethod yJ0_coder_7d493, .selects RJ0 yJ0_coder_7d493 yJ0_coder_7d493, .methodLink RJ0 335 yJ0_coder_7d493, .instanceMethod yJ0_length_8abf5, .selects RJ0 yJ0_length_8abf5 yJ0_length_8abf5, .methodLink RJ0 505 yJ0_length_8abf5, .code yJ1_indexOf_4cfef cJ1_indexOf_4cfef 4 (some .int), .code yJ1_canEncode_9a6ad cJ1_canEncode_9a6ad 1 (some .boolean), .initialized RJ1, .static yJ1_canEncode_9a6ad, .methodLink RJ1 88 yJ1_canEncode_9a6ad, .methodLink RJ1 92 Lib.Math.max.name, .static Lib.Math.max.name, .initialized "java/lang/Math", .code Lib.Math.max.name Lib.Math.max.code 2 (some .int), .methodLink RJ1 38 Lib.Math.min.name, .static Lib.Math.min.name, .code Lib.Math.min.name Lib.Math.min.code 2 (some .int), .code yJ1_indexOfChar_4cfef cJ1_indexOfChar_4cfef 6 (some .int), .static yJ1_indexOfChar_4cfef, .methodLink RJ1 95 yJ1_indexOfChar_4cfef, .static yJ1_indexOf_4cfef, .methodLink RJ0 637 yJ1_indexOf_4cfef, .instanceMethod yJ0_indexOf_7cf53, .selects RJ0 yJ0_indexOf_7cf53 yJ0_indexOf_7cf53, .methodLink RJ0 633 yJ0_indexOf_7cf53, .instanceMethod yJ0_indexOf_0f7a4, .selects RJ0 yJ0_indexOf_0f7a4 yJ0_indexOf_0f7a4, .methodLink RX3 103 yJ0_indexOf_0f7a4, .code yX10_step cX10_step 1 none, .instanceMethod yX10_step, .selects RX10 yX10_step yX10_step, .methodLink RX3 77 yX10_step, .code yX3_write cX3_write 3 none, .fieldLink RX3 15 "LeftArguments$LawReader" "used" "I", .fieldLink RX3 11 "LeftArguments$LawReader" "code" "[I", .initialized RX3, .instanceMethod yX3_write, .selects RX3 yX3_write yX3_write, .methodLink RX3 66 yX3_write, .code yX10_takeNumber cX10_takeNumber 3 (some .boolean), .methodLink RX10 37 yX10_next, .methodLink RX10 45 yX10_isDigit, .methodLink RX10 41 yX10_wrongHere, .fieldLink RX10 25 "LeftArguments$Tape" "number" "I", .code yX10_sign cX10_sign 1 (some .int), .instanceMethod yX10_sign, .selects RX10 yX10_sign yX10_sign, .methodLink RX10 49 yX10_sign, .instanceMethod yX10_takeNumber, .selects RX10 yX10_takeNumber yX10_takeNumber, .methodLink RX3 95 yX10_takeNumber, .code yX10_number cX10_number 1 (some .int), .instanceMethod yX10_number, .selects RX10 yX10_number yX10_number, .methodLink RX3 98 yX10_number, .instanceMethod yX3_readAtom, .selects RX3 yX3_readAtom yX3_readAtom, .methodLink RX3 89 yX3_readAtom, .instanceMethod yX3_readTerm, .selects RX3 yX3_readTerm yX3_readTerm, .methodLink RX3 86 yX3_readTerm, .instanceMethod yX3_readSum, .selects RX3 yX3_readSum yX3_readSum, .methodLink RX3 59 yX3_readSum, .code yX3_comparing cX3_comparing 1 (some .int), .static yX3_comparing, .methodLink RX3 62 yX3_comparing] : List Cond) ++ wsX30 ++ wsX100)
set_option maxRecDepth 20000 in
theorem g_X3_readUnit_1_0 : GoodIn q_X3_readUnit_1 (wsV RX3 48 RX10 yX10_next q_X10_next) := goodIn_app (goodIn_r _ [9, 7, 8, 6] rfl (by decide +kernel)) (goodIn_ca (goodIn_r (.code yX10_next cX10_next 1 (some .int) :: [.fieldLink RX10 19 "LeftArguments$Tape" "at" "I", .fieldLink RX10 15 "LeftArguments$Tape" "used" "I", .fieldLink RX10 9 "LeftArguments$Tape" "bytes" "[I"]) [2, 3, 4, 5] rfl (by decide +kernel)) (goodIn_sub (fun _ h => List.mem_cons_of_mem _ (List.mem_append_right _ h)) gwX10))
set_option maxRecDepth 20000 in
theorem g_X3_readUnit_1_1 : GoodIn q_X3_readUnit_1 (wsV RX3 59 RX3 yX3_readSum q_X3_readSum) := goodIn_app (goodIn_r _ [97, 95, 96, 69] rfl (by decide +kernel)) (goodIn_ca (goodIn_ca (goodIn_r (.code yX3_readSum cX3_readSum 4 (some .boolean) :: [.code yX3_readTerm cX3_readTerm 4 (some .boolean), .code yX3_readAtom cX3_readAtom 4 (some .boolean), .fieldLink RX3 19 "LeftArguments$LawReader" "tape" "LLeftArguments$Tape;", .code yX10_next cX10_next 1 (some .int), .fieldLink RX10 19 "LeftArguments$Tape" "at" "I", .fieldLink RX10 15 "LeftArguments$Tape" "used" "I", .fieldLink RX10 9 "LeftArguments$Tape" "bytes" "[I", .initialized RX10, .instanceMethod yX10_next, .selects RX10 yX10_next yX10_next, .methodLink RX3 48 yX10_next, .code yX10_isDigit cX10_isDigit 1 (some .boolean), .static yX10_isDigit, .methodLink RX3 92 yX10_isDigit, .code yX10_wrongHere cX10_wrongHere 1 (some .boolean), .fieldLink RX10 22 "LeftArguments$Tape" "wrongAt" "I", .instanceMethod yX10_wrongHere, .selects RX10 yX10_wrongHere yX10_wrongHere, .methodLink RX3 83 yX10_wrongHere, .code yJ0_indexOf_0f7a4 cJ0_indexOf_0f7a4 2 (some .int), .code yJ0_indexOf_7cf53 cJ0_indexOf_7cf53 3 (some .int), .code yJ0_isLatin1_aae02 cJ0_isLatin1_aae02 1 (some .boolean), .fieldLink RJ0 38 "java/lang/String" "COMPACT_STRINGS" "Z", .fieldLink RJ0 15 "java/lang/String" "coder" "B", .initialized RJ0, .instanceMethod yJ0_isLatin1_aae02, .selects RJ0 yJ0_isLatin1_aae02 yJ0_isLatin1_aae02, .methodLink RJ0 492 yJ0_isLatin1_aae02, .fieldLink RJ0 9 "java/lang/String" "value" "[B", .code yJ0_length_8abf5 cJ0_length_8abf5 1 (some .int), .code yJ0_coder_7d493 cJ0_coder_7d493 1 (some .byte), .instanceMethod yJ0_coder_7d493, .selects RJ0 yJ0_coder_7d493 yJ0_coder_7d493, .methodLink RJ0 335 yJ0_coder_7d493, .instanceMethod yJ0_length_8abf5, .selects RJ0 yJ0_length_8abf5 yJ0_length_8abf5, .methodLink RJ0 505 yJ0_length_8abf5, .code yJ1_indexOf_4cfef cJ1_indexOf_4cfef 4 (some .int), .code yJ1_canEncode_9a6ad cJ1_canEncode_9a6ad 1 (some .boolean), .initialized RJ1, .static yJ1_canEncode_9a6ad, .methodLink RJ1 88 yJ1_canEncode_9a6ad, .methodLink RJ1 92 Lib.Math.max.name, .static Lib.Math.max.name, .initialized "java/lang/Math", .code Lib.Math.max.name Lib.Math.max.code 2 (some .int), .methodLink RJ1 38 Lib.Math.min.name, .static Lib.Math.min.name, .code Lib.Math.min.name Lib.Math.min.code 2 (some .int), .code yJ1_indexOfChar_4cfef cJ1_indexOfChar_4cfef 6 (some .int), .static yJ1_indexOfChar_4cfef, .methodLink RJ1 95 yJ1_indexOfChar_4cfef, .static yJ1_indexOf_4cfef, .methodLink RJ0 637 yJ1_indexOf_4cfef, .instanceMethod yJ0_indexOf_7cf53, .selects RJ0 yJ0_indexOf_7cf53 yJ0_indexOf_7cf53, .methodLink RJ0 633 yJ0_indexOf_7cf53, .instanceMethod yJ0_indexOf_0f7a4, .selects RJ0 yJ0_indexOf_0f7a4 yJ0_indexOf_0f7a4, .methodLink RX3 103 yJ0_indexOf_0f7a4, .code yX10_step cX10_step 1 none, .instanceMethod yX10_step, .selects RX10 yX10_step yX10_step, .methodLink RX3 77 yX10_step, .code yX3_write cX3_write 3 none, .fieldLink RX3 15 "LeftArguments$LawReader" "used" "I", .fieldLink RX3 11 "LeftArguments$LawReader" "code" "[I", .initialized RX3, .instanceMethod yX3_write, .selects RX3 yX3_write yX3_write, .methodLink RX3 66 yX3_write, .code yX10_takeNumber cX10_takeNumber 3 (some .boolean), .methodLink RX10 37 yX10_next, .methodLink RX10 45 yX10_isDigit, .methodLink RX10 41 yX10_wrongHere, .fieldLink RX10 25 "LeftArguments$Tape" "number" "I", .code yX10_sign cX10_sign 1 (some .int), .instanceMethod yX10_sign, .selects RX10 yX10_sign yX10_sign, .methodLink RX10 49 yX10_sign, .instanceMethod yX10_takeNumber, .selects RX10 yX10_takeNumber yX10_takeNumber, .methodLink RX3 95 yX10_takeNumber, .code yX10_number cX10_number 1 (some .int), .instanceMethod yX10_number, .selects RX10 yX10_number yX10_number, .methodLink RX3 98 yX10_number, .instanceMethod yX3_readAtom, .selects RX3 yX3_readAtom yX3_readAtom, .methodLink RX3 89 yX3_readAtom, .instanceMethod yX3_readTerm, .selects RX3 yX3_readTerm yX3_readTerm, .methodLink RX3 86 yX3_readTerm]) [10, 11, 12, 1, 2, 3, 4, 5, 6, 7, 8, 9, 13, 14, 15, 16, 17, 18, 19, 20, 21, 22, 23, 24, 25, 26, 27, 28, 29, 30, 31, 32, 33, 34, 35, 36, 37, 38, 39, 40, 41, 42, 43, 44, 45, 46, 47, 48, 49, 50, 51, 52, 53, 54, 55, 56, 57, 58, 59, 60, 61, 62, 63, 64, 65, 66, 67, 68, 69, 70, 71, 72, 73, 74, 75, 76, 77, 78, 79, 80, 81, 82, 83, 84, 85, 86, 87, 88, 89, 90, 91, 92, 93, 94] rfl (by decide +kernel)) (goodIn_sub (fun _ h => List.mem_cons_of_mem _ (List.mem_append_left _ (List.mem_append_right _ h))) gwX3)) (goodIn_sub (fun _ h => List.mem_cons_of_mem _ (List.mem_append_right _ h)) gwX10))
set_option maxRecDepth 20000 in
theorem g_X3_readUnit_1_3 : GoodIn q_X3_readUnit_1 (va_wsS RX3 62 yX3_comparing q_X3_comparing) := goodIn_app (goodIn_r _ [100, 99, 69] rfl (by decide +kernel)) (goodIn_r (.code yX3_comparing cX3_comparing 1 (some .int) :: []) [98] rfl (by decide +kernel))
set_option maxRecDepth 20000 in
theorem g_X3_readUnit_1_4 : GoodIn q_X3_readUnit_1 (wsV RX3 83 RX10 yX10_wrongHere q_X10_wrongHere) := goodIn_app (goodIn_r _ [20, 18, 19, 6] rfl (by decide +kernel)) (goodIn_ca (goodIn_r (.code yX10_wrongHere cX10_wrongHere 1 (some .boolean) :: [.fieldLink RX10 19 "LeftArguments$Tape" "at" "I", .fieldLink RX10 22 "LeftArguments$Tape" "wrongAt" "I"]) [16, 3, 17] rfl (by decide +kernel)) (goodIn_sub (fun _ h => List.mem_cons_of_mem _ (List.mem_append_right _ h)) gwX10))
set_option maxRecDepth 20000 in
theorem g_X3_readUnit_1_5 : GoodIn q_X3_readUnit_1 (va_wsS RX3 62 yX3_comparing q_X3_comparing_1) := goodIn_app (goodIn_r _ [100, 99, 69] rfl (by decide +kernel)) (goodIn_r (.code yX3_comparing cX3_comparing 1 (some .int) :: []) [98] rfl (by decide +kernel))
set_option maxRecDepth 20000 in
theorem g_X3_readUnit_1_6 : GoodIn q_X3_readUnit_1 (wsV RX3 77 RX10 yX10_step q_X10_step) := goodIn_app (goodIn_r _ [65, 63, 64, 6] rfl (by decide +kernel)) (goodIn_ca (goodIn_r (.code yX10_step cX10_step 1 none :: [.fieldLink RX10 19 "LeftArguments$Tape" "at" "I"]) [62, 3] rfl (by decide +kernel)) (goodIn_sub (fun _ h => List.mem_cons_of_mem _ (List.mem_append_right _ h)) gwX10))
set_option maxRecDepth 20000 in
theorem g_X3_readUnit_1_8 : GoodIn q_X3_readUnit_1 (wsV RX3 66 RX3 yX3_write q_X3_write) := goodIn_app (goodIn_r _ [72, 70, 71, 69] rfl (by decide +kernel)) (goodIn_ca (goodIn_r (.code yX3_write cX3_write 3 none :: [.fieldLink RX3 15 "LeftArguments$LawReader" "used" "I", .fieldLink RX3 11 "LeftArguments$LawReader" "code" "[I"]) [66, 67, 68] rfl (by decide +kernel)) (goodIn_sub (fun _ h => List.mem_cons_of_mem _ (List.mem_append_left _ (List.mem_append_right _ h))) gwX3))
set_option maxHeartbeats 4000000 in
set_option maxRecDepth 100000 in
theorem k_X3_readUnit_1 (l : Launch) (dC : Nat → ClassId) (dI : Nat → Nat → Nat) (adK : Nat → Nat) (adV : Nat → Nat) (h0 : Nat) (h1 : Nat) (h2 : Nat) (h3 : Nat) (v0 : Int32) (v1 : Int32) (v2 : Int32) (v3 : Int32) (v4 : Int32) (g0 : ClassId) (f5 : Nat → Int32) (g1 : ClassId) (f6 : Nat → Int32) (i_v0 : 0 ≤ v0.toInt ∧ v0.toInt ≤ 256) (i_v1 : 0 ≤ v1.toInt ∧ v1.toInt ≤ 240) (i_v2 : 0 ≤ v2.toInt ∧ v2.toInt ≤ 240) (ia_f5 : (∀ j, 0 ≤ (f5 j).toInt ∧ (f5 j).toInt ≤ 255)) (sz : Nat) : Met l yX3_readUnit q_X3_readUnit_1 ({ frames := 7, cells := 0, slots := 0, locals := 160 }) (va_Pc [.ref h0, .int 6, .int 0] (fun U => U.heap.size = sz ∧ va_P (dC, dI) vwCl (wd_1ad0248d h0 h1 h3 v0 h1 h2 v1 v2 v3 v4 h2 g0 f5 h3 g1 f6) U.heap ∧ va_K (dC, dI) vwCl [(g0, .int), (g1, .int)] U ∧ va_D (fun _ => True) (wd_1ad0248d h0 h1 h3 v0 h1 h2 v1 v2 v3 v4 h2 g0 f5 h3 g1 f6) ∧ vk_R RX3 101 "zaondt" (adK 2) U ∧ va_Z "java/lang/String" "COMPACT_STRINGS" "Z" (.int 1) (va_A (wd_1ad0248d h0 h1 h3 v0 h1 h2 v1 v2 v3 v4 h2 g0 f5 h3 g1 f6) sz) U U.heap ∧ vk_S 3 pv_len3 pv_byt3 adK adV (va_A (wd_1ad0248d h0 h1 h3 v0 h1 h2 v1 v2 v3 v4 h2 g0 f5 h3 g1 f6) sz) U U.heap)) (va_Qi (fun (r : Int32) (r9 : Int32) => r9 = r) (fun (r : Int32) (t : State) => (∃ (o_h0_2 : Int32) (o_h1_2 : Int32) (o_h1_4 : Int32) (o_h3 : Nat → Int32), 0 ≤ o_h0_2.toInt ∧ o_h0_2.toInt ≤ 256 ∧ 0 ≤ o_h1_2.toInt ∧ o_h1_2.toInt ≤ 240 ∧ (1 ≤ r.toInt) ∧ (r.toInt ≤ 1) ∧ (v2.toInt ≤ o_h1_2.toInt) ∧ (pg_unit f5 v1.toInt 0 v2.toInt = (true, o_h1_2.toInt)) ∧ va_P (dC, dI) vwCl (wd_1ad0248d h0 h1 h3 o_h0_2 h1 h2 v1 o_h1_2 v3 o_h1_4 h2 g0 f5 h3 g1 o_h3) t.heap ∧ va_K (dC, dI) vwCl [] t ∧ va_D (va_A (wd_1ad0248d h0 h1 h3 v0 h1 h2 v1 v2 v3 v4 h2 g0 f5 h3 g1 f6) sz) (wd_1ad0248d h0 h1 h3 o_h0_2 h1 h2 v1 o_h1_2 v3 o_h1_4 h2 g0 f5 h3 g1 o_h3)) ∨ (∃ (o_h0_2 : Int32) (o_h1_2 : Int32) (o_h1_3 : Int32) (o_h1_4 : Int32) (o_h3 : Nat → Int32), 0 ≤ o_h0_2.toInt ∧ o_h0_2.toInt ≤ 256 ∧ 0 ≤ o_h1_2.toInt ∧ o_h1_2.toInt ≤ 240 ∧ 0 ≤ o_h1_3.toInt ∧ o_h1_3.toInt ≤ 240 ∧ (0 ≤ r.toInt) ∧ (r.toInt ≤ 0) ∧ (v2.toInt ≤ o_h1_2.toInt) ∧ (pg_unit f5 v1.toInt 0 v2.toInt = (false, o_h1_3.toInt)) ∧ va_P (dC, dI) vwCl (wd_1ad0248d h0 h1 h3 o_h0_2 h1 h2 v1 o_h1_2 o_h1_3 o_h1_4 h2 g0 f5 h3 g1 o_h3) t.heap ∧ va_K (dC, dI) vwCl [] t ∧ va_D (va_A (wd_1ad0248d h0 h1 h3 v0 h1 h2 v1 v2 v3 v4 h2 g0 f5 h3 g1 f6) sz) (wd_1ad0248d h0 h1 h3 o_h0_2 h1 h2 v1 o_h1_2 o_h1_3 o_h1_4 h2 g0 f5 h3 g1 o_h3))) (va_A (wd_1ad0248d h0 h1 h3 v0 h1 h2 v1 v2 v3 v4 h2 g0 f5 h3 g1 f6) sz)) 0 0 (va_A (wd_1ad0248d h0 h1 h3 v0 h1 h2 v1 v2 v3 v4 h2 g0 f5 h3 g1 f6) sz) := by
  refine Met.ofW (cc := cX3_readUnit) (maxL := 5) (ret := (some .boolean)) (by decide) rfl ?_
  intro p e s m args below meth c s₁ B hml hv
  obtain ⟨i_v0a, i_v0b⟩ := i_v0
  obtain ⟨i_v1a, i_v1b⟩ := i_v1
  obtain ⟨i_v2a, i_v2b⟩ := i_v2
  obtain ⟨rfl, hsz, hP, hK, hD0, h_vr_2, h_st_CS, h_st_S⟩ := hv
  have hx := B.exec
  have hb := B.bytes
  have hr := B.returns
  have hts := atoms_spec (ws := q_X3_readUnit_1) B.pre
  have hown : s.vm.findClass RX3 = some m.cls := findClass_of_methodNamed B.named
  have hlocks := B.notSynchronized
  subst hsz
  have hD := hD0.self (sz := s.heap.size)
  generalize hAe : va_A (wd_1ad0248d h0 h1 h3 v0 h1 h2 v1 v2 v3 v4 h2 g0 f5 h3 g1 f6) s.heap.size = A at hD h_st_CS h_st_S ⊢
  have hA : ∀ q : Nat, s.heap.size ≤ q → A q := fun q h => by rw [← hAe]; exact Or.inr h
  have hS : va_S A s.heap s.heap [] := va_S.rf
  generalize hQ : (MQ below _ _ s 0 0 A) = Q
  have hl := lv_entry ([.ref h0, .int 6, .int 0]) (n := 5) (Nat.le_of_ble_eq_true rfl)
  rw [lg_entry_eq]
  generalize (lg_sl ([.ref h0, .int 6, .int 0]) ++ List.replicate (5 - (lg_sl ([.ref h0, .int 6, .int 0])).length) Slot.unset).toArray = ls at hl ⊢
  have hl : lv_has ls 5 [(0, .ref h0), (1, .int 6), (2, .int 0)] := hl
  obtain ⟨H, hH⟩ : ∃ H : Heap, H = s.heap := ⟨_, rfl⟩
  obtain ⟨locs, hlocs⟩ : ∃ y : List Loc, y = [] := ⟨_, rfl⟩
  have hS : va_S A s.heap H locs := by rw [hH, hlocs]; exact va_S.rf
  have hP : va_P (dC, dI) vwCl (wd_1ad0248d h0 h1 h3 v0 h1 h2 v1 v2 v3 v4 h2 g0 f5 h3 g1 f6) H := by rw [hH]; exact hP
  rw [← hH, ← hlocs]
  refine lv_aload_n hx hb dX3_readUnit_0 rfl (lv_at hl 0 rfl) ?_
  refine va_get (D := (dC, dI)) (ci := 3) (v := .ref h1) (C := RX3) (T := TX3) (N := 3) hx hb hts (fun _ h => List.mem_cons_of_mem _ (List.mem_append_left _ (List.mem_append_right _ h))) hown hK hP 0 rfl rfl 0 (by decide) (hts (.fieldLink RX3 19 "LeftArguments$LawReader" "tape" "LLeftArguments$Tape;") (List.mem_cons_of_mem _ (List.mem_append_left _ (List.mem_append_left _ (List.mem_of_getElem? (i := 0) rfl))))) (fun _ h9 => h9) rfl dX3_readUnit_1 ?_
  have hPc := hP.sub (ws' := (wd_82cdd16b h1 h2 v1 v2 v3 v4 h2 g0 f5)) [1, 2] rfl
  have hDc := hD.sub (ws' := (wd_82cdd16b h1 h2 v1 v2 v3 v4 h2 g0 f5)) [1, 2] (by decide) rfl
  have hKc := hK.sub (tys' := [(g0, .int)]) [0] rfl
  have hFc := va_free (wc := (wd_82cdd16b h1 h2 v1 v2 v3 v4 h2 g0 f5)) hD hS hA [1, 2] rfl
  refine va_calli (va_runV (As := []) (rest := []) ⟨hx, hb, hml, hown, hts⟩ (k_X10_next l dC dI h1 h2 v1 v2 v3 v4 g0 f5 ⟨i_v1a, i_v1b⟩ ⟨i_v2a, i_v2b⟩ ia_f5 H.size) (cwV 0 hts g_X3_readUnit_1_0 rfl rfl rfl (by decide +kernel) ⟨Nat.le_of_ble_eq_true rfl, Nat.le_of_ble_eq_true rfl⟩) (pv_PV10 hPc hKc hDc (q0 := 0) rfl) rfl rfl hl.1 rfl (lv_room (Nat.le_of_ble_eq_true rfl)) dX3_readUnit_4 ⟨Nat.le_of_ble_eq_true rfl, Nat.le_of_ble_eq_true rfl⟩) hS (fun q _ h => hFc q h) hFc (fun ra1 u t H1 locs ht hvm hwra1 hB hz1 hk1 hS => ?_)
  try rw [hwra1] at hB
  rcases hB with hB | hB
  · skip
    obtain ⟨x2, oa_x2, ob_x2, pt0_ra1, pt1_ra1, pt2_ra1, pt3_ra1, pt4_ra1, pt5_ra1, pt6_ra1, hP1, hK1, hD1⟩ := hB
    rw [ht] at hP1
    obtain ⟨hP2, hD2⟩ := va_join (wr := (wd_b958b9da h0 h1 h3 v0 h3 g1 f6)) (w1 := (wd_82cdd16b h1 h2 v1 x2 v3 v4 h2 g0 f5)) hP hD [1, 2] [0, 3] rfl rfl (by decide) (by decide) hk1 hFc hP1 hD1
    clear hP hD hPc hDc hKc hFc hP1 hK1 hD1 hk1 hz1
    generalize H1 = H at hP2 hS ⊢
    have hP := hP2.sub (ws' := (wd_1ad0248d h0 h1 h3 v0 h1 h2 v1 x2 v3 v4 h2 g0 f5 h3 g1 f6)) [0, 2, 3, 1] rfl
    have hD := hD2.sub (ws' := (wd_1ad0248d h0 h1 h3 v0 h1 h2 v1 x2 v3 v4 h2 g0 f5 h3 g1 f6)) [0, 2, 3, 1] (by decide) rfl
    clear hP2 hD2
    obtain rfl : ra1 = ((-1) : Int32) := pv_cs (by decide) pt0_ra1 pt1_ra1
    refine lv_istore_n (lv' := [(3, .int (-1)), (0, .ref h0), (1, .int 6), (2, .int 0)]) hx hb dX3_readUnit_7 rfl hl (by decide) rfl (fun ls hl => ?_)
    refine lv_iload_n hx hb dX3_readUnit_8 rfl (lv_at hl 3 rfl) ?_
    refine lv_if_ne (tgt := 102) hx hb dX3_readUnit_9 (by decide) (fun c => absurd (by decide) c) (fun _ => ?_)
    refine lv_iload_n hx hb dX3_readUnit_12 rfl (lv_at hl 0 rfl) ?_
    refine lv_bipush (v := 33) hx hb dX3_readUnit_13 (by decide) ?_
    refine lv_icmp_eq (tgt := 24) hx hb dX3_readUnit_15 (by decide) (fun c => absurd c (by decide)) (fun _ => ?_)
    refine lv_iload_n hx hb dX3_readUnit_18 rfl (lv_at hl 0 rfl) ?_
    refine lv_bipush (v := 40) hx hb dX3_readUnit_19 (by decide) ?_
    refine lv_icmp_ne (tgt := 102) hx hb dX3_readUnit_21 (by decide) (fun _ => ?_) (fun c => absurd c (by decide))
    refine lv_iload_n hx hb dX3_readUnit_102 rfl (lv_at hl 3 rfl) ?_
    refine lv_if_ne (tgt := 116) hx hb dX3_readUnit_103 (by decide) (fun c => absurd (by decide) c) (fun _ => ?_)
    refine lv_aload_n hx hb dX3_readUnit_106 rfl (lv_at hl 1 rfl) ?_
    refine lv_iload_n hx hb dX3_readUnit_107 rfl (lv_at hl 2 rfl) ?_
    have hPc := hP.sub (ws' := (wd_1ad0248d h0 h1 h3 v0 h1 h2 v1 x2 v3 v4 h2 g0 f5 h3 g1 f6)) [0, 1, 2, 3] rfl
    have hDc := hD.sub (ws' := (wd_1ad0248d h0 h1 h3 v0 h1 h2 v1 x2 v3 v4 h2 g0 f5 h3 g1 f6)) [0, 1, 2, 3] (by decide) rfl
    have hKc := hK.sub (tys' := [(g0, .int), (g1, .int)]) [0, 1] rfl
    have hFc := va_free (wc := (wd_1ad0248d h0 h1 h3 v0 h1 h2 v1 x2 v3 v4 h2 g0 f5 h3 g1 f6)) hD hS hA [0, 1, 2, 3] rfl
    refine va_calli (va_runV (As := [.int 6]) (rest := []) ⟨hx, hb, hml, hown, hts⟩ (k_X3_readSum l dC dI adK adV h0 h1 h2 h3 v0 v1 x2 v3 v4 g0 f5 g1 f6 ⟨i_v0a, i_v0b⟩ ⟨i_v1a, i_v1b⟩ ⟨oa_x2, ob_x2⟩ ia_f5 H.size) (cwV 1 hts g_X3_readUnit_1_1 rfl rfl rfl (by decide +kernel) ⟨Nat.le_of_ble_eq_true rfl, Nat.le_of_ble_eq_true rfl⟩) ⟨fun a U g mk q => by obtain ⟨q0, q1, qP, qK, qD, n0, n1, n2⟩ := q; exact ⟨q0, q1, qP, va_K.moved (u := U) (U := U.calling g mk a) (Vm.Alike.refl U.vm) qK, qD, vk_R.same rfl n0, va_Z.moved (Vm.Alike.refl _) n1, vk_S.moved (Vm.Alike.refl _) n2⟩, pv_rc3 hKc hPc (q0 := 0) rfl, fun U hU hW => ⟨rfl, by rw [hU], by rw [hU]; exact hPc, va_K.moved hW.alike hKc, hDc.weaken (fun _ _ _ _ => trivial), vk_R.warm hW h_vr_2, (by rw [hU]; exact (va_Z.moved hW.alike (va_Z.kept h_st_CS hS.2.1)).narrow hFc), (by rw [hU]; exact (vk_S.moved hW.alike (vk_S.kept h_st_S hS.2.1)).narrow hFc)⟩⟩ rfl rfl hl.1 rfl (lv_room (Nat.le_of_ble_eq_true rfl)) dX3_readUnit_108 ⟨Nat.le_of_ble_eq_true rfl, Nat.le_of_ble_eq_true rfl⟩) hS (fun q _ h => hFc q h) hFc (fun ra3 u t H1 locs ht hvm hwra3 hB hz1 hk1 hS => ?_)
    try rw [hwra3] at hB
    rcases hB with hB | hB
    · skip
      obtain ⟨x4, x5, x6, fn7, oa_x4, ob_x4, oa_x5, ob_x5, pt0_ra3, pt1_ra3, pt2_ra3, pt3_ra3, hP1, hK1, hD1⟩ := hB
      rw [ht] at hP1
      obtain ⟨hP2, hD2⟩ := va_join (wr := []) (w1 := (wd_1ad0248d h0 h1 h3 x4 h1 h2 v1 x5 v3 x6 h2 g0 f5 h3 g1 fn7)) hP hD [0, 1, 2, 3] [] rfl rfl (by decide) (by decide) hk1 hFc hP1 hD1
      clear hP hD hPc hDc hKc hFc hP1 hK1 hD1 hk1 hz1
      generalize H1 = H at hP2 hS ⊢
      have hP : va_P (dC, dI) vwCl (wd_1ad0248d h0 h1 h3 x4 h1 h2 v1 x5 v3 x6 h2 g0 f5 h3 g1 fn7) H := hP2
      have hD : va_D A (wd_1ad0248d h0 h1 h3 x4 h1 h2 v1 x5 v3 x6 h2 g0 f5 h3 g1 fn7) := hD2
      clear hP2 hD2
      obtain rfl : ra3 = (1 : Int32) := pv_cs (by decide) pt0_ra3 pt1_ra3
      refine lv_if_ne (tgt := 116) hx hb dX3_readUnit_111 (by decide) (fun _ => ?_) (fun c => absurd c (by decide))
      refine lv_aload_n hx hb dX3_readUnit_116 rfl (lv_at hl 1 rfl) ?_
      refine va_get (D := (dC, dI)) (ci := 3) (v := .ref h1) (C := RX3) (T := TX3) (N := 3) hx hb hts (fun _ h => List.mem_cons_of_mem _ (List.mem_append_left _ (List.mem_append_right _ h))) hown hK hP 0 rfl rfl 0 (by decide) (hts (.fieldLink RX3 19 "LeftArguments$LawReader" "tape" "LLeftArguments$Tape;") (List.mem_cons_of_mem _ (List.mem_append_left _ (List.mem_append_left _ (List.mem_of_getElem? (i := 0) rfl))))) (fun _ h9 => h9) rfl dX3_readUnit_117 ?_
      have hPc := hP.sub (ws' := (wd_82cdd16b h1 h2 v1 x5 v3 x6 h2 g0 f5)) [1, 2] rfl
      have hDc := hD.sub (ws' := (wd_82cdd16b h1 h2 v1 x5 v3 x6 h2 g0 f5)) [1, 2] (by decide) rfl
      have hKc := hK.sub (tys' := [(g0, .int)]) [0] rfl
      have hFc := va_free (wc := (wd_82cdd16b h1 h2 v1 x5 v3 x6 h2 g0 f5)) hD hS hA [1, 2] rfl
      refine va_calli (va_runV (As := []) (rest := []) ⟨hx, hb, hml, hown, hts⟩ (k_X10_next l dC dI h1 h2 v1 x5 v3 x6 g0 f5 ⟨i_v1a, i_v1b⟩ ⟨oa_x5, ob_x5⟩ ia_f5 H.size) (cwV 0 hts g_X3_readUnit_1_0 rfl rfl rfl (by decide +kernel) ⟨Nat.le_of_ble_eq_true rfl, Nat.le_of_ble_eq_true rfl⟩) (pv_PV10 hPc hKc hDc (q0 := 0) rfl) rfl rfl hl.1 rfl (lv_room (Nat.le_of_ble_eq_true rfl)) dX3_readUnit_120 ⟨Nat.le_of_ble_eq_true rfl, Nat.le_of_ble_eq_true rfl⟩) hS (fun q _ h => hFc q h) hFc (fun ra8 u t H1 locs ht hvm hwra8 hB hz1 hk1 hS => ?_)
      try rw [hwra8] at hB
      rcases hB with hB | hB
      · skip
        obtain ⟨x9, oa_x9, ob_x9, pt0_ra8, pt1_ra8, pt2_ra8, pt3_ra8, pt4_ra8, pt5_ra8, pt6_ra8, hP1, hK1, hD1⟩ := hB
        rw [ht] at hP1
        obtain ⟨hP2, hD2⟩ := va_join (wr := (wd_b958b9da h0 h1 h3 x4 h3 g1 fn7)) (w1 := (wd_82cdd16b h1 h2 v1 x9 v3 x6 h2 g0 f5)) hP hD [1, 2] [0, 3] rfl rfl (by decide) (by decide) hk1 hFc hP1 hD1
        clear hP hD hPc hDc hKc hFc hP1 hK1 hD1 hk1 hz1
        generalize H1 = H at hP2 hS ⊢
        have hP := hP2.sub (ws' := (wd_1ad0248d h0 h1 h3 x4 h1 h2 v1 x9 v3 x6 h2 g0 f5 h3 g1 fn7)) [0, 2, 3, 1] rfl
        have hD := hD2.sub (ws' := (wd_1ad0248d h0 h1 h3 x4 h1 h2 v1 x9 v3 x6 h2 g0 f5 h3 g1 fn7)) [0, 2, 3, 1] (by decide) rfl
        clear hP2 hD2
        obtain rfl : ra8 = ((-1) : Int32) := pv_cs (by decide) pt0_ra8 pt1_ra8
        have hPc := hP.sub (ws' := []) [] rfl
        have hDc := hD.sub (ws' := []) [] (by decide) rfl
        have hKc := hK.sub (tys' := []) [] rfl
        have hFc := va_free (wc := []) hD hS hA [] rfl
        refine va_calli (va_runS (As := [.int (-1)]) (rest := []) ⟨hx, hb, hml, hown, hts⟩ (k_X3_comparing l dC dI   H.size) (va_cwS 1 hts g_X3_readUnit_1_3 rfl rfl rfl (by decide +kernel) ⟨Nat.le_of_ble_eq_true rfl, Nat.le_of_ble_eq_true rfl⟩) (pv_PS hPc hKc hDc) rfl rfl hl.1 rfl (lv_room (Nat.le_of_ble_eq_true rfl)) dX3_readUnit_123 ⟨Nat.le_of_ble_eq_true rfl, Nat.le_of_ble_eq_true rfl⟩) hS (fun q _ h => hFc q h) hFc (fun ra10 u t H1 locs ht hvm hwra10 hB hz1 hk1 hS => ?_)
        try rw [hwra10] at hB
        obtain ⟨pt0_ra10, pt1_ra10, hP1, hK1, hD1⟩ := hB
        rw [ht] at hP1
        obtain ⟨hP2, hD2⟩ := va_join (wr := (wd_1ad0248d h0 h1 h3 x4 h1 h2 v1 x9 v3 x6 h2 g0 f5 h3 g1 fn7)) (w1 := []) hP hD [] [0, 1, 2, 3] rfl rfl (by decide) (by decide) hk1 hFc hP1 hD1
        clear hP hD hPc hDc hKc hFc hP1 hK1 hD1 hk1 hz1
        generalize H1 = H at hP2 hS ⊢
        have hP : va_P (dC, dI) vwCl (wd_1ad0248d h0 h1 h3 x4 h1 h2 v1 x9 v3 x6 h2 g0 f5 h3 g1 fn7) H := hP2
        have hD : va_D A (wd_1ad0248d h0 h1 h3 x4 h1 h2 v1 x9 v3 x6 h2 g0 f5 h3 g1 fn7) := hD2
        clear hP2 hD2
        obtain rfl : ra10 = ((-1) : Int32) := pv_cs (by decide) pt0_ra10 pt1_ra10
        refine lv_istore (lv' := [(4, .int (-1)), (3, .int (-1)), (0, .ref h0), (1, .int 6), (2, .int 0)]) hx hb dX3_readUnit_126 hl (by decide) rfl (fun ls hl => ?_)
        refine lv_iload hx hb dX3_readUnit_128 (lv_at hl 0 rfl) ?_
        refine lv_iconst (v := (-1)) hx hb dX3_readUnit_130 (by decide) ?_
        refine lv_icmp_ne (tgt := 142) hx hb dX3_readUnit_131 (by decide) (fun c => absurd (by decide) c) (fun _ => ?_)
        refine lv_aload_n hx hb dX3_readUnit_134 rfl (lv_at hl 2 rfl) ?_
        refine va_get (D := (dC, dI)) (ci := 3) (v := .ref h1) (C := RX3) (T := TX3) (N := 3) hx hb hts (fun _ h => List.mem_cons_of_mem _ (List.mem_append_left _ (List.mem_append_right _ h))) hown hK hP 0 rfl rfl 0 (by decide) (hts (.fieldLink RX3 19 "LeftArguments$LawReader" "tape" "LLeftArguments$Tape;") (List.mem_cons_of_mem _ (List.mem_append_left _ (List.mem_append_left _ (List.mem_of_getElem? (i := 0) rfl))))) (fun _ h9 => h9) rfl dX3_readUnit_135 ?_
        have hPc := hP.sub (ws' := (wd_09b0abee h1 h2 v1 x9 v3 x6)) [1] rfl
        have hDc := hD.sub (ws' := (wd_09b0abee h1 h2 v1 x9 v3 x6)) [1] (by decide) rfl
        have hKc := hK.sub (tys' := []) [] rfl
        have hFc := va_free (wc := (wd_09b0abee h1 h2 v1 x9 v3 x6)) hD hS hA [1] rfl
        refine va_calli (va_runV (As := []) (rest := []) ⟨hx, hb, hml, hown, hts⟩ (k_X10_wrongHere l dC dI h1 h2 v1 x9 v3 x6 ⟨i_v1a, i_v1b⟩ ⟨oa_x9, ob_x9⟩ H.size) (cwV 0 hts g_X3_readUnit_1_4 rfl rfl rfl (by decide +kernel) ⟨Nat.le_of_ble_eq_true rfl, Nat.le_of_ble_eq_true rfl⟩) (pv_PV10 hPc hKc hDc (q0 := 0) rfl) rfl rfl hl.1 rfl (lv_room (Nat.le_of_ble_eq_true rfl)) dX3_readUnit_138 ⟨Nat.le_of_ble_eq_true rfl, Nat.le_of_ble_eq_true rfl⟩) hS (fun q _ h => hFc q h) hFc (fun ra11 u t H1 locs ht hvm hwra11 hB hz1 hk1 hS => ?_)
        try rw [hwra11] at hB
        obtain ⟨x12, oa_x12, ob_x12, pt0_ra11, pt1_ra11, pt2_ra11, hP1, hK1, hD1⟩ := hB
        rw [ht] at hP1
        obtain ⟨hP2, hD2⟩ := va_join (wr := (wd_6b0d8e05 h0 h1 h3 x4 h2 g0 f5 h3 g1 fn7)) (w1 := (wd_09b0abee h1 h2 v1 x9 x12 x6)) hP hD [1] [0, 2, 3] rfl rfl (by decide) (by decide) hk1 hFc hP1 hD1
        clear hP hD hPc hDc hKc hFc hP1 hK1 hD1 hk1 hz1
        generalize H1 = H at hP2 hS ⊢
        have hP := hP2.sub (ws' := (wd_1ad0248d h0 h1 h3 x4 h1 h2 v1 x9 x12 x6 h2 g0 f5 h3 g1 fn7)) [0, 3, 1, 2] rfl
        have hD := hD2.sub (ws' := (wd_1ad0248d h0 h1 h3 x4 h1 h2 v1 x9 x12 x6 h2 g0 f5 h3 g1 fn7)) [0, 3, 1, 2] (by decide) rfl
        clear hP2 hD2
        obtain rfl : ra11 = (0 : Int32) := pv_cs (by decide) pt0_ra11 pt1_ra11
        subst hQ
        have hP9 := hP.sub (ws' := (wd_1ad0248d h0 h1 h3 x4 h1 h2 v1 x9 x12 x6 h2 g0 f5 h3 g1 fn7)) [0, 1, 2, 3] rfl
        have hD9 := hD.sub (ws' := (wd_1ad0248d h0 h1 h3 x4 h1 h2 v1 x9 x12 x6 h2 g0 f5 h3 g1 fn7)) [0, 1, 2, 3] (by decide) rfl
        have hK9 := hK.sub (tys' := []) [] rfl
        exact W.zret (v := 0) hx hb hr rfl (fun t ht hW => ⟨⟨0, 0, rfl, rfl, Or.inr (⟨x4, x9, x12, x6, fn7, oa_x4, ob_x4, oa_x9, ob_x9, oa_x12, ob_x12, by first | omega | decide, by first | omega | decide, by omega, by show pg_unitF f5 v1.toInt 0 false pg_none pg_none _ = _; first | (apply pg_unitF.not <;> first | assumption | omega) | (apply pg_unitF.par1 <;> first | assumption | omega) | (apply pg_unitF.par0 <;> first | assumption | omega) | (apply pg_unitF.deep <;> first | assumption | omega) | (apply pg_unitF.sm1 <;> first | assumption | omega) | (apply pg_unitF.sm2 <;> first | assumption | omega) | (apply pg_unitF.sum0 <;> first | assumption | omega), by rw [ht]; exact hP9, va_K.moved hW.alike hK9, hD9⟩)⟩, hS.F ht⟩) hS.2.2 dX3_readUnit_141
      · skip
        obtain ⟨x13, oa_x13, ob_x13, pt0_ra8, pt1_ra8, pt2_ra8, pt3_ra8, pt4_ra8, pt5_ra8, pt6_ra8, hP1, hK1, hD1⟩ := hB
        rw [ht] at hP1
        obtain ⟨hP2, hD2⟩ := va_join (wr := (wd_b958b9da h0 h1 h3 x4 h3 g1 fn7)) (w1 := (wd_82cdd16b h1 h2 v1 x13 v3 x6 h2 g0 f5)) hP hD [1, 2] [0, 3] rfl rfl (by decide) (by decide) hk1 hFc hP1 hD1
        clear hP hD hPc hDc hKc hFc hP1 hK1 hD1 hk1 hz1
        generalize H1 = H at hP2 hS ⊢
        have hP := hP2.sub (ws' := (wd_1ad0248d h0 h1 h3 x4 h1 h2 v1 x13 v3 x6 h2 g0 f5 h3 g1 fn7)) [0, 2, 3, 1] rfl
        have hD := hD2.sub (ws' := (wd_1ad0248d h0 h1 h3 x4 h1 h2 v1 x13 v3 x6 h2 g0 f5 h3 g1 fn7)) [0, 2, 3, 1] (by decide) rfl
        clear hP2 hD2
        have hPc := hP.sub (ws' := []) [] rfl
        have hDc := hD.sub (ws' := []) [] (by decide) rfl
        have hKc := hK.sub (tys' := []) [] rfl
        have hFc := va_free (wc := []) hD hS hA [] rfl
        refine va_calli (va_runS (As := [.int ra8]) (rest := []) ⟨hx, hb, hml, hown, hts⟩ (k_X3_comparing_1 l dC dI ra8  H.size) (va_cwS 1 hts g_X3_readUnit_1_5 rfl rfl rfl (by decide +kernel) ⟨Nat.le_of_ble_eq_true rfl, Nat.le_of_ble_eq_true rfl⟩) (pv_PS hPc hKc hDc) rfl rfl hl.1 rfl (lv_room (Nat.le_of_ble_eq_true rfl)) dX3_readUnit_123 ⟨Nat.le_of_ble_eq_true rfl, Nat.le_of_ble_eq_true rfl⟩) hS (fun q _ h => hFc q h) hFc (fun ra14 u t H1 locs ht hvm hwra14 hB hz1 hk1 hS => ?_)
        try rw [hwra14] at hB
        obtain ⟨pt0_ra14, pt1_ra14, pt2_ra14, hP1, hK1, hD1⟩ := hB
        rw [ht] at hP1
        obtain ⟨hP2, hD2⟩ := va_join (wr := (wd_1ad0248d h0 h1 h3 x4 h1 h2 v1 x13 v3 x6 h2 g0 f5 h3 g1 fn7)) (w1 := []) hP hD [] [0, 1, 2, 3] rfl rfl (by decide) (by decide) hk1 hFc hP1 hD1
        clear hP hD hPc hDc hKc hFc hP1 hK1 hD1 hk1 hz1
        generalize H1 = H at hP2 hS ⊢
        have hP : va_P (dC, dI) vwCl (wd_1ad0248d h0 h1 h3 x4 h1 h2 v1 x13 v3 x6 h2 g0 f5 h3 g1 fn7) H := hP2
        have hD : va_D A (wd_1ad0248d h0 h1 h3 x4 h1 h2 v1 x13 v3 x6 h2 g0 f5 h3 g1 fn7) := hD2
        clear hP2 hD2
        refine lv_istore (lv' := [(4, .int ra14), (3, .int (-1)), (0, .ref h0), (1, .int 6), (2, .int 0)]) hx hb dX3_readUnit_126 hl (by decide) rfl (fun ls hl => ?_)
        refine lv_iload hx hb dX3_readUnit_128 (lv_at hl 0 rfl) ?_
        refine lv_iconst (v := (-1)) hx hb dX3_readUnit_130 (by decide) ?_
        refine lv_icmp_ne (tgt := 142) hx hb dX3_readUnit_131 (by decide) (fun c15 => ?_) (fun c15 => ?_)
        · skip
          have fc15 : ¬ (ra14.toInt = (-1)) := fun h9 => c15 (Int32.toInt_inj.mp h9)
          refine lv_aload_n hx hb dX3_readUnit_142 rfl (lv_at hl 2 rfl) ?_
          refine va_get (D := (dC, dI)) (ci := 3) (v := .ref h1) (C := RX3) (T := TX3) (N := 3) hx hb hts (fun _ h => List.mem_cons_of_mem _ (List.mem_append_left _ (List.mem_append_right _ h))) hown hK hP 0 rfl rfl 0 (by decide) (hts (.fieldLink RX3 19 "LeftArguments$LawReader" "tape" "LLeftArguments$Tape;") (List.mem_cons_of_mem _ (List.mem_append_left _ (List.mem_append_left _ (List.mem_of_getElem? (i := 0) rfl))))) (fun _ h9 => h9) rfl dX3_readUnit_143 ?_
          have hPc := hP.sub (ws' := (wd_09b0abee h1 h2 v1 x13 v3 x6)) [1] rfl
          have hDc := hD.sub (ws' := (wd_09b0abee h1 h2 v1 x13 v3 x6)) [1] (by decide) rfl
          have hKc := hK.sub (tys' := []) [] rfl
          have hFc := va_free (wc := (wd_09b0abee h1 h2 v1 x13 v3 x6)) hD hS hA [1] rfl
          refine va_callv (va_runV (As := []) (rest := []) ⟨hx, hb, hml, hown, hts⟩ (k_X10_step l dC dI h1 h2 v1 x13 v3 x6 ⟨i_v1a, i_v1b⟩ ⟨oa_x13, ob_x13⟩ H.size) (cwV 0 hts g_X3_readUnit_1_6 rfl rfl rfl (by decide +kernel) ⟨Nat.le_of_ble_eq_true rfl, Nat.le_of_ble_eq_true rfl⟩) (pv_PV10 hPc hKc hDc (q0 := 0) rfl) rfl rfl hl.1 rfl (lv_room (Nat.le_of_ble_eq_true rfl)) dX3_readUnit_146 ⟨Nat.le_of_ble_eq_true rfl, Nat.le_of_ble_eq_true rfl⟩) hS (fun q _ h => hFc q h) hFc (fun u t H1 locs ht hvm hwra16 hB hz1 hk1 hS => ?_)
          obtain ⟨x17, oa_x17, ob_x17, pt0_ra16, hP1, hK1, hD1⟩ := hB
          rw [ht] at hP1
          obtain ⟨hP2, hD2⟩ := va_join (wr := (wd_6b0d8e05 h0 h1 h3 x4 h2 g0 f5 h3 g1 fn7)) (w1 := (wd_09b0abee h1 h2 v1 x17 v3 x6)) hP hD [1] [0, 2, 3] rfl rfl (by decide) (by decide) hk1 hFc hP1 hD1
          clear hP hD hPc hDc hKc hFc hP1 hK1 hD1 hk1 hz1
          generalize H1 = H at hP2 hS ⊢
          have hP := hP2.sub (ws' := (wd_1ad0248d h0 h1 h3 x4 h1 h2 v1 x17 v3 x6 h2 g0 f5 h3 g1 fn7)) [0, 3, 1, 2] rfl
          have hD := hD2.sub (ws' := (wd_1ad0248d h0 h1 h3 x4 h1 h2 v1 x17 v3 x6 h2 g0 f5 h3 g1 fn7)) [0, 3, 1, 2] (by decide) rfl
          clear hP2 hD2
          refine lv_aload_n hx hb dX3_readUnit_149 rfl (lv_at hl 2 rfl) ?_
          refine lv_iload_n hx hb dX3_readUnit_150 rfl (lv_at hl 3 rfl) ?_
          have hPc := hP.sub (ws' := (wd_1ad0248d h0 h1 h3 x4 h1 h2 v1 x17 v3 x6 h2 g0 f5 h3 g1 fn7)) [0, 1, 2, 3] rfl
          have hDc := hD.sub (ws' := (wd_1ad0248d h0 h1 h3 x4 h1 h2 v1 x17 v3 x6 h2 g0 f5 h3 g1 fn7)) [0, 1, 2, 3] (by decide) rfl
          have hKc := hK.sub (tys' := [(g0, .int), (g1, .int)]) [0, 1] rfl
          have hFc := va_free (wc := (wd_1ad0248d h0 h1 h3 x4 h1 h2 v1 x17 v3 x6 h2 g0 f5 h3 g1 fn7)) hD hS hA [0, 1, 2, 3] rfl
          refine va_calli (va_runV (As := [.int 6]) (rest := []) ⟨hx, hb, hml, hown, hts⟩ (k_X3_readSum l dC dI adK adV h0 h1 h2 h3 x4 v1 x17 v3 x6 g0 f5 g1 fn7 ⟨oa_x4, ob_x4⟩ ⟨i_v1a, i_v1b⟩ ⟨by first | omega | decide, ob_x17⟩ ia_f5 H.size) (cwV 1 hts g_X3_readUnit_1_1 rfl rfl rfl (by decide +kernel) ⟨Nat.le_of_ble_eq_true rfl, Nat.le_of_ble_eq_true rfl⟩) ⟨fun a U g mk q => by obtain ⟨q0, q1, qP, qK, qD, n0, n1, n2⟩ := q; exact ⟨q0, q1, qP, va_K.moved (u := U) (U := U.calling g mk a) (Vm.Alike.refl U.vm) qK, qD, vk_R.same rfl n0, va_Z.moved (Vm.Alike.refl _) n1, vk_S.moved (Vm.Alike.refl _) n2⟩, pv_rc3 hKc hPc (q0 := 0) rfl, fun U hU hW => ⟨rfl, by rw [hU], by rw [hU]; exact hPc, va_K.moved hW.alike hKc, hDc.weaken (fun _ _ _ _ => trivial), vk_R.warm hW h_vr_2, (by rw [hU]; exact (va_Z.moved hW.alike (va_Z.kept h_st_CS hS.2.1)).narrow hFc), (by rw [hU]; exact (vk_S.moved hW.alike (vk_S.kept h_st_S hS.2.1)).narrow hFc)⟩⟩ rfl rfl hl.1 rfl (lv_room (Nat.le_of_ble_eq_true rfl)) dX3_readUnit_151 ⟨Nat.le_of_ble_eq_true rfl, Nat.le_of_ble_eq_true rfl⟩) hS (fun q _ h => hFc q h) hFc (fun ra18 u t H1 locs ht hvm hwra18 hB hz1 hk1 hS => ?_)
          try rw [hwra18] at hB
          rcases hB with hB | hB
          · skip
            obtain ⟨x19, x20, x21, fn22, oa_x19, ob_x19, oa_x20, ob_x20, pt0_ra18, pt1_ra18, pt2_ra18, pt3_ra18, hP1, hK1, hD1⟩ := hB
            rw [ht] at hP1
            obtain ⟨hP2, hD2⟩ := va_join (wr := []) (w1 := (wd_1ad0248d h0 h1 h3 x19 h1 h2 v1 x20 v3 x21 h2 g0 f5 h3 g1 fn22)) hP hD [0, 1, 2, 3] [] rfl rfl (by decide) (by decide) hk1 hFc hP1 hD1
            clear hP hD hPc hDc hKc hFc hP1 hK1 hD1 hk1 hz1
            generalize H1 = H at hP2 hS ⊢
            have hP : va_P (dC, dI) vwCl (wd_1ad0248d h0 h1 h3 x19 h1 h2 v1 x20 v3 x21 h2 g0 f5 h3 g1 fn22) H := hP2
            have hD : va_D A (wd_1ad0248d h0 h1 h3 x19 h1 h2 v1 x20 v3 x21 h2 g0 f5 h3 g1 fn22) := hD2
            clear hP2 hD2
            obtain rfl : ra18 = (1 : Int32) := pv_cs (by decide) pt0_ra18 pt1_ra18
            refine lv_if_ne (tgt := 159) hx hb dX3_readUnit_154 (by decide) (fun _ => ?_) (fun c => absurd c (by decide))
            refine lv_aload_n hx hb dX3_readUnit_159 rfl (lv_at hl 2 rfl) ?_
            refine lv_iload hx hb dX3_readUnit_160 (lv_at hl 0 rfl) ?_
            refine lv_iconst (v := 0) hx hb dX3_readUnit_162 (by decide) ?_
            have hPc := hP.sub (ws' := (wd_b958b9da h0 h1 h3 x19 h3 g1 fn22)) [0, 3] rfl
            have hDc := hD.sub (ws' := (wd_b958b9da h0 h1 h3 x19 h3 g1 fn22)) [0, 3] (by decide) rfl
            have hKc := hK.sub (tys' := [(g1, .int)]) [1] rfl
            have hFc := va_free (wc := (wd_b958b9da h0 h1 h3 x19 h3 g1 fn22)) hD hS hA [0, 3] rfl
            refine va_callv (va_runV (As := [.int ra14, .int 0]) (rest := []) ⟨hx, hb, hml, hown, hts⟩ (k_X3_write l dC dI h0 h3 h1 x19 g1 fn22 ra14 0 ⟨oa_x19, ob_x19⟩ H.size) (cwV 2 hts g_X3_readUnit_1_8 rfl rfl rfl (by decide +kernel) ⟨Nat.le_of_ble_eq_true rfl, Nat.le_of_ble_eq_true rfl⟩) (pv_PV3 hPc hKc hDc (q0 := 0) rfl) rfl rfl hl.1 rfl (lv_room (Nat.le_of_ble_eq_true rfl)) dX3_readUnit_163 ⟨Nat.le_of_ble_eq_true rfl, Nat.le_of_ble_eq_true rfl⟩) hS (fun q _ h => hFc q h) hFc (fun u t H1 locs ht hvm hwra23 hB hz1 hk1 hS => ?_)
            obtain ⟨x24, fn25, oa_x24, ob_x24, hP1, hK1, hD1⟩ := hB
            rw [ht] at hP1
            obtain ⟨hP2, hD2⟩ := va_join (wr := (wd_82cdd16b h1 h2 v1 x20 v3 x21 h2 g0 f5)) (w1 := (wd_b958b9da h0 h1 h3 x24 h3 g1 fn25)) hP hD [0, 3] [1, 2] rfl rfl (by decide) (by decide) hk1 hFc hP1 hD1
            clear hP hD hPc hDc hKc hFc hP1 hK1 hD1 hk1 hz1
            generalize H1 = H at hP2 hS ⊢
            have hP := hP2.sub (ws' := (wd_1ad0248d h0 h1 h3 x24 h1 h2 v1 x20 v3 x21 h2 g0 f5 h3 g1 fn25)) [2, 0, 1, 3] rfl
            have hD := hD2.sub (ws' := (wd_1ad0248d h0 h1 h3 x24 h1 h2 v1 x20 v3 x21 h2 g0 f5 h3 g1 fn25)) [2, 0, 1, 3] (by decide) rfl
            clear hP2 hD2
            refine lv_iconst (v := 1) hx hb dX3_readUnit_166 (by decide) ?_
            subst hQ
            have hP9 := hP.sub (ws' := (wd_1ad0248d h0 h1 h3 x24 h1 h2 v1 x20 v3 x21 h2 g0 f5 h3 g1 fn25)) [0, 1, 2, 3] rfl
            have hD9 := hD.sub (ws' := (wd_1ad0248d h0 h1 h3 x24 h1 h2 v1 x20 v3 x21 h2 g0 f5 h3 g1 fn25)) [0, 1, 2, 3] (by decide) rfl
            have hK9 := hK.sub (tys' := []) [] rfl
            exact W.zret (v := 1) hx hb hr rfl (fun t ht hW => ⟨⟨1, 1, rfl, rfl, Or.inl ⟨x24, x20, x21, fn25, oa_x24, ob_x24, oa_x20, ob_x20, by first | omega | decide, by first | omega | decide, by omega, by show pg_unitF f5 v1.toInt 0 false pg_none pg_none _ = _; first | (apply pg_unitF.not <;> first | assumption | omega) | (apply pg_unitF.par1 <;> first | assumption | omega) | (apply pg_unitF.par0 <;> first | assumption | omega) | (apply pg_unitF.deep <;> first | assumption | omega) | (apply pg_unitF.sm1 <;> first | assumption | omega) | (apply pg_unitF.sm2 <;> first | assumption | omega) | (apply pg_unitF.sum0 <;> first | assumption | omega), by rw [ht]; exact hP9, va_K.moved hW.alike hK9, hD9⟩⟩, hS.F ht⟩) hS.2.2 dX3_readUnit_167
          · skip
            obtain ⟨x26, x27, x28, x29, fn30, oa_x26, ob_x26, oa_x27, ob_x27, oa_x28, ob_x28, pt0_ra18, pt1_ra18, pt2_ra18, pt3_ra18, hP1, hK1, hD1⟩ := hB
            rw [ht] at hP1
            obtain ⟨hP2, hD2⟩ := va_join (wr := []) (w1 := (wd_1ad0248d h0 h1 h3 x26 h1 h2 v1 x27 x28 x29 h2 g0 f5 h3 g1 fn30)) hP hD [0, 1, 2, 3] [] rfl rfl (by decide) (by decide) hk1 hFc hP1 hD1
            clear hP hD hPc hDc hKc hFc hP1 hK1 hD1 hk1 hz1
            generalize H1 = H at hP2 hS ⊢
            have hP : va_P (dC, dI) vwCl (wd_1ad0248d h0 h1 h3 x26 h1 h2 v1 x27 x28 x29 h2 g0 f5 h3 g1 fn30) H := hP2
            have hD : va_D A (wd_1ad0248d h0 h1 h3 x26 h1 h2 v1 x27 x28 x29 h2 g0 f5 h3 g1 fn30) := hD2
            clear hP2 hD2
            obtain rfl : ra18 = (0 : Int32) := pv_cs (by decide) pt0_ra18 pt1_ra18
            refine lv_if_ne (tgt := 159) hx hb dX3_readUnit_154 (by decide) (fun c => absurd (by decide) c) (fun _ => ?_)
            refine lv_iconst (v := 0) hx hb dX3_readUnit_157 (by decide) ?_
            subst hQ
            have hP9 := hP.sub (ws' := (wd_1ad0248d h0 h1 h3 x26 h1 h2 v1 x27 x28 x29 h2 g0 f5 h3 g1 fn30)) [0, 1, 2, 3] rfl
            have hD9 := hD.sub (ws' := (wd_1ad0248d h0 h1 h3 x26 h1 h2 v1 x27 x28 x29 h2 g0 f5 h3 g1 fn30)) [0, 1, 2, 3] (by decide) rfl
            have hK9 := hK.sub (tys' := []) [] rfl
            exact W.zret (v := 0) hx hb hr rfl (fun t ht hW => ⟨⟨0, 0, rfl, rfl, Or.inr (⟨x26, x27, x28, x29, fn30, oa_x26, ob_x26, oa_x27, ob_x27, oa_x28, ob_x28, by first | omega | decide, by first | omega | decide, by omega, by show pg_unitF f5 v1.toInt 0 false pg_none pg_none _ = _; first | (apply pg_unitF.not <;> first | assumption | omega) | (apply pg_unitF.par1 <;> first | assumption | omega) | (apply pg_unitF.par0 <;> first | assumption | omega) | (apply pg_unitF.deep <;> first | assumption | omega) | (apply pg_unitF.sm1 <;> first | assumption | omega) | (apply pg_unitF.sm2 <;> first | assumption | omega) | (apply pg_unitF.sum0 <;> first | assumption | omega), by rw [ht]; exact hP9, va_K.moved hW.alike hK9, hD9⟩)⟩, hS.F ht⟩) hS.2.2 dX3_readUnit_158
        · skip
          have fc15 : ra14.toInt = (-1) := congrArg Int32.toInt c15
          refine lv_aload_n hx hb dX3_readUnit_134 rfl (lv_at hl 2 rfl) ?_
          refine va_get (D := (dC, dI)) (ci := 3) (v := .ref h1) (C := RX3) (T := TX3) (N := 3) hx hb hts (fun _ h => List.mem_cons_of_mem _ (List.mem_append_left _ (List.mem_append_right _ h))) hown hK hP 0 rfl rfl 0 (by decide) (hts (.fieldLink RX3 19 "LeftArguments$LawReader" "tape" "LLeftArguments$Tape;") (List.mem_cons_of_mem _ (List.mem_append_left _ (List.mem_append_left _ (List.mem_of_getElem? (i := 0) rfl))))) (fun _ h9 => h9) rfl dX3_readUnit_135 ?_
          have hPc := hP.sub (ws' := (wd_09b0abee h1 h2 v1 x13 v3 x6)) [1] rfl
          have hDc := hD.sub (ws' := (wd_09b0abee h1 h2 v1 x13 v3 x6)) [1] (by decide) rfl
          have hKc := hK.sub (tys' := []) [] rfl
          have hFc := va_free (wc := (wd_09b0abee h1 h2 v1 x13 v3 x6)) hD hS hA [1] rfl
          refine va_calli (va_runV (As := []) (rest := []) ⟨hx, hb, hml, hown, hts⟩ (k_X10_wrongHere l dC dI h1 h2 v1 x13 v3 x6 ⟨i_v1a, i_v1b⟩ ⟨oa_x13, by first | omega | decide⟩ H.size) (cwV 0 hts g_X3_readUnit_1_4 rfl rfl rfl (by decide +kernel) ⟨Nat.le_of_ble_eq_true rfl, Nat.le_of_ble_eq_true rfl⟩) (pv_PV10 hPc hKc hDc (q0 := 0) rfl) rfl rfl hl.1 rfl (lv_room (Nat.le_of_ble_eq_true rfl)) dX3_readUnit_138 ⟨Nat.le_of_ble_eq_true rfl, Nat.le_of_ble_eq_true rfl⟩) hS (fun q _ h => hFc q h) hFc (fun ra31 u t H1 locs ht hvm hwra31 hB hz1 hk1 hS => ?_)
          try rw [hwra31] at hB
          obtain ⟨x32, oa_x32, ob_x32, pt0_ra31, pt1_ra31, pt2_ra31, hP1, hK1, hD1⟩ := hB
          rw [ht] at hP1
          obtain ⟨hP2, hD2⟩ := va_join (wr := (wd_6b0d8e05 h0 h1 h3 x4 h2 g0 f5 h3 g1 fn7)) (w1 := (wd_09b0abee h1 h2 v1 x13 x32 x6)) hP hD [1] [0, 2, 3] rfl rfl (by decide) (by decide) hk1 hFc hP1 hD1
          clear hP hD hPc hDc hKc hFc hP1 hK1 hD1 hk1 hz1
          generalize H1 = H at hP2 hS ⊢
          have hP := hP2.sub (ws' := (wd_1ad0248d h0 h1 h3 x4 h1 h2 v1 x13 x32 x6 h2 g0 f5 h3 g1 fn7)) [0, 3, 1, 2] rfl
          have hD := hD2.sub (ws' := (wd_1ad0248d h0 h1 h3 x4 h1 h2 v1 x13 x32 x6 h2 g0 f5 h3 g1 fn7)) [0, 3, 1, 2] (by decide) rfl
          clear hP2 hD2
          obtain rfl : ra31 = (0 : Int32) := pv_cs (by decide) pt0_ra31 pt1_ra31
          subst hQ
          have hP9 := hP.sub (ws' := (wd_1ad0248d h0 h1 h3 x4 h1 h2 v1 x13 x32 x6 h2 g0 f5 h3 g1 fn7)) [0, 1, 2, 3] rfl
          have hD9 := hD.sub (ws' := (wd_1ad0248d h0 h1 h3 x4 h1 h2 v1 x13 x32 x6 h2 g0 f5 h3 g1 fn7)) [0, 1, 2, 3] (by decide) rfl
          have hK9 := hK.sub (tys' := []) [] rfl
          exact W.zret (v := 0) hx hb hr rfl (fun t ht hW => ⟨⟨0, 0, rfl, rfl, Or.inr (⟨x4, x13, x32, x6, fn7, oa_x4, ob_x4, oa_x13, by first | omega | decide, oa_x32, ob_x32, by first | omega | decide, by first | omega | decide, by omega, by show pg_unitF f5 v1.toInt 0 false pg_none pg_none _ = _; first | (apply pg_unitF.not <;> first | assumption | omega) | (apply pg_unitF.par1 <;> first | assumption | omega) | (apply pg_unitF.par0 <;> first | assumption | omega) | (apply pg_unitF.deep <;> first | assumption | omega) | (apply pg_unitF.sm1 <;> first | assumption | omega) | (apply pg_unitF.sm2 <;> first | assumption | omega) | (apply pg_unitF.sum0 <;> first | assumption | omega), by rw [ht]; exact hP9, va_K.moved hW.alike hK9, hD9⟩)⟩, hS.F ht⟩) hS.2.2 dX3_readUnit_141
    · skip
      obtain ⟨x33, x34, x35, x36, fn37, oa_x33, ob_x33, oa_x34, ob_x34, oa_x35, ob_x35, pt0_ra3, pt1_ra3, pt2_ra3, pt3_ra3, hP1, hK1, hD1⟩ := hB
      rw [ht] at hP1
      obtain ⟨hP2, hD2⟩ := va_join (wr := []) (w1 := (wd_1ad0248d h0 h1 h3 x33 h1 h2 v1 x34 x35 x36 h2 g0 f5 h3 g1 fn37)) hP hD [0, 1, 2, 3] [] rfl rfl (by decide) (by decide) hk1 hFc hP1 hD1
      clear hP hD hPc hDc hKc hFc hP1 hK1 hD1 hk1 hz1
      generalize H1 = H at hP2 hS ⊢
      have hP : va_P (dC, dI) vwCl (wd_1ad0248d h0 h1 h3 x33 h1 h2 v1 x34 x35 x36 h2 g0 f5 h3 g1 fn37) H := hP2
      have hD : va_D A (wd_1ad0248d h0 h1 h3 x33 h1 h2 v1 x34 x35 x36 h2 g0 f5 h3 g1 fn37) := hD2
      clear hP2 hD2
      obtain rfl : ra3 = (0 : Int32) := pv_cs (by decide) pt0_ra3 pt1_ra3
      refine lv_if_ne (tgt := 116) hx hb dX3_readUnit_111 (by decide) (fun c => absurd (by decide) c) (fun _ => ?_)
      refine lv_iconst (v := 0) hx hb dX3_readUnit_114 (by decide) ?_
      subst hQ
      have hP9 := hP.sub (ws' := (wd_1ad0248d h0 h1 h3 x33 h1 h2 v1 x34 x35 x36 h2 g0 f5 h3 g1 fn37)) [0, 1, 2, 3] rfl
      have hD9 := hD.sub (ws' := (wd_1ad0248d h0 h1 h3 x33 h1 h2 v1 x34 x35 x36 h2 g0 f5 h3 g1 fn37)) [0, 1, 2, 3] (by decide) rfl
      have hK9 := hK.sub (tys' := []) [] rfl
      exact W.zret (v := 0) hx hb hr rfl (fun t ht hW => ⟨⟨0, 0, rfl, rfl, Or.inr (⟨x33, x34, x35, x36, fn37, oa_x33, ob_x33, oa_x34, ob_x34, oa_x35, ob_x35, by first | omega | decide, by first | omega | decide, by omega, by show pg_unitF f5 v1.toInt 0 false pg_none pg_none _ = _; first | (apply pg_unitF.not <;> first | assumption | omega) | (apply pg_unitF.par1 <;> first | assumption | omega) | (apply pg_unitF.par0 <;> first | assumption | omega) | (apply pg_unitF.deep <;> first | assumption | omega) | (apply pg_unitF.sm1 <;> first | assumption | omega) | (apply pg_unitF.sm2 <;> first | assumption | omega) | (apply pg_unitF.sum0 <;> first | assumption | omega), by rw [ht]; exact hP9, va_K.moved hW.alike hK9, hD9⟩)⟩, hS.F ht⟩) hS.2.2 dX3_readUnit_115
  · skip
    obtain ⟨x38, oa_x38, ob_x38, pt0_ra1, pt1_ra1, pt2_ra1, pt3_ra1, pt4_ra1, pt5_ra1, pt6_ra1, hP1, hK1, hD1⟩ := hB
    rw [ht] at hP1
    obtain ⟨hP2, hD2⟩ := va_join (wr := (wd_b958b9da h0 h1 h3 v0 h3 g1 f6)) (w1 := (wd_82cdd16b h1 h2 v1 x38 v3 v4 h2 g0 f5)) hP hD [1, 2] [0, 3] rfl rfl (by decide) (by decide) hk1 hFc hP1 hD1
    clear hP hD hPc hDc hKc hFc hP1 hK1 hD1 hk1 hz1
    generalize H1 = H at hP2 hS ⊢
    have hP := hP2.sub (ws' := (wd_1ad0248d h0 h1 h3 v0 h1 h2 v1 x38 v3 v4 h2 g0 f5 h3 g1 f6)) [0, 2, 3, 1] rfl
    have hD := hD2.sub (ws' := (wd_1ad0248d h0 h1 h3 v0 h1 h2 v1 x38 v3 v4 h2 g0 f5 h3 g1 f6)) [0, 2, 3, 1] (by decide) rfl
    clear hP2 hD2
    refine lv_istore_n (lv' := [(3, .int ra1), (0, .ref h0), (1, .int 6), (2, .int 0)]) hx hb dX3_readUnit_7 rfl hl (by decide) rfl (fun ls hl => ?_)
    refine lv_iload_n hx hb dX3_readUnit_8 rfl (lv_at hl 3 rfl) ?_
    refine lv_if_ne (tgt := 102) hx hb dX3_readUnit_9 (by decide) (fun c => absurd (by decide) c) (fun _ => ?_)
    refine lv_iload_n hx hb dX3_readUnit_12 rfl (lv_at hl 0 rfl) ?_
    refine lv_bipush (v := 33) hx hb dX3_readUnit_13 (by decide) ?_
    refine lv_icmp_eq (tgt := 24) hx hb dX3_readUnit_15 (by decide) (fun c39 => ?_) (fun c39 => ?_)
    · skip
      have fc39 : ra1.toInt = 33 := congrArg Int32.toInt c39
      refine lv_iload_n hx hb dX3_readUnit_24 rfl (lv_at hl 2 rfl) ?_
      refine lv_bipush (v := 6) hx hb dX3_readUnit_25 (by decide) ?_
      refine lv_icmp_lt (tgt := 38) hx hb dX3_readUnit_27 (by decide) (fun c => absurd c (by decide)) (fun _ => ?_)
      refine lv_aload_n hx hb dX3_readUnit_30 rfl (lv_at hl 1 rfl) ?_
      refine va_get (D := (dC, dI)) (ci := 3) (v := .ref h1) (C := RX3) (T := TX3) (N := 3) hx hb hts (fun _ h => List.mem_cons_of_mem _ (List.mem_append_left _ (List.mem_append_right _ h))) hown hK hP 0 rfl rfl 0 (by decide) (hts (.fieldLink RX3 19 "LeftArguments$LawReader" "tape" "LLeftArguments$Tape;") (List.mem_cons_of_mem _ (List.mem_append_left _ (List.mem_append_left _ (List.mem_of_getElem? (i := 0) rfl))))) (fun _ h9 => h9) rfl dX3_readUnit_31 ?_
      have hPc := hP.sub (ws' := (wd_09b0abee h1 h2 v1 x38 v3 v4)) [1] rfl
      have hDc := hD.sub (ws' := (wd_09b0abee h1 h2 v1 x38 v3 v4)) [1] (by decide) rfl
      have hKc := hK.sub (tys' := []) [] rfl
      have hFc := va_free (wc := (wd_09b0abee h1 h2 v1 x38 v3 v4)) hD hS hA [1] rfl
      refine va_calli (va_runV (As := []) (rest := []) ⟨hx, hb, hml, hown, hts⟩ (k_X10_wrongHere l dC dI h1 h2 v1 x38 v3 v4 ⟨i_v1a, i_v1b⟩ ⟨oa_x38, by first | omega | decide⟩ H.size) (cwV 0 hts g_X3_readUnit_1_4 rfl rfl rfl (by decide +kernel) ⟨Nat.le_of_ble_eq_true rfl, Nat.le_of_ble_eq_true rfl⟩) (pv_PV10 hPc hKc hDc (q0 := 0) rfl) rfl rfl hl.1 rfl (lv_room (Nat.le_of_ble_eq_true rfl)) dX3_readUnit_34 ⟨Nat.le_of_ble_eq_true rfl, Nat.le_of_ble_eq_true rfl⟩) hS (fun q _ h => hFc q h) hFc (fun ra40 u t H1 locs ht hvm hwra40 hB hz1 hk1 hS => ?_)
      try rw [hwra40] at hB
      obtain ⟨x41, oa_x41, ob_x41, pt0_ra40, pt1_ra40, pt2_ra40, hP1, hK1, hD1⟩ := hB
      rw [ht] at hP1
      obtain ⟨hP2, hD2⟩ := va_join (wr := (wd_6b0d8e05 h0 h1 h3 v0 h2 g0 f5 h3 g1 f6)) (w1 := (wd_09b0abee h1 h2 v1 x38 x41 v4)) hP hD [1] [0, 2, 3] rfl rfl (by decide) (by decide) hk1 hFc hP1 hD1
      clear hP hD hPc hDc hKc hFc hP1 hK1 hD1 hk1 hz1
      generalize H1 = H at hP2 hS ⊢
      have hP := hP2.sub (ws' := (wd_1ad0248d h0 h1 h3 v0 h1 h2 v1 x38 x41 v4 h2 g0 f5 h3 g1 f6)) [0, 3, 1, 2] rfl
      have hD := hD2.sub (ws' := (wd_1ad0248d h0 h1 h3 v0 h1 h2 v1 x38 x41 v4 h2 g0 f5 h3 g1 f6)) [0, 3, 1, 2] (by decide) rfl
      clear hP2 hD2
      obtain rfl : ra40 = (0 : Int32) := pv_cs (by decide) pt0_ra40 pt1_ra40
      subst hQ
      have hP9 := hP.sub (ws' := (wd_1ad0248d h0 h1 h3 v0 h1 h2 v1 x38 x41 v4 h2 g0 f5 h3 g1 f6)) [0, 1, 2, 3] rfl
      have hD9 := hD.sub (ws' := (wd_1ad0248d h0 h1 h3 v0 h1 h2 v1 x38 x41 v4 h2 g0 f5 h3 g1 f6)) [0, 1, 2, 3] (by decide) rfl
      have hK9 := hK.sub (tys' := []) [] rfl
      exact W.zret (v := 0) hx hb hr rfl (fun t ht hW => ⟨⟨0, 0, rfl, rfl, Or.inr (⟨v0, x38, x41, v4, f6, i_v0a, i_v0b, oa_x38, by first | omega | decide, oa_x41, ob_x41, by first | omega | decide, by first | omega | decide, by omega, by show pg_unitF f5 v1.toInt 0 false pg_none pg_none _ = _; first | (apply pg_unitF.not <;> first | assumption | omega) | (apply pg_unitF.par1 <;> first | assumption | omega) | (apply pg_unitF.par0 <;> first | assumption | omega) | (apply pg_unitF.deep <;> first | assumption | omega) | (apply pg_unitF.sm1 <;> first | assumption | omega) | (apply pg_unitF.sm2 <;> first | assumption | omega) | (apply pg_unitF.sum0 <;> first | assumption | omega), by rw [ht]; exact hP9, va_K.moved hW.alike hK9, hD9⟩)⟩, hS.F ht⟩) hS.2.2 dX3_readUnit_37
    · skip
      have fc39 : ¬ (ra1.toInt = 33) := fun h9 => c39 (Int32.toInt_inj.mp h9)
      refine lv_iload_n hx hb dX3_readUnit_18 rfl (lv_at hl 0 rfl) ?_
      refine lv_bipush (v := 40) hx hb dX3_readUnit_19 (by decide) ?_
      refine lv_icmp_ne (tgt := 102) hx hb dX3_readUnit_21 (by decide) (fun c42 => ?_) (fun c42 => ?_)
      · skip
        have fc42 : ¬ (ra1.toInt = 40) := fun h9 => c42 (Int32.toInt_inj.mp h9)
        refine lv_iload_n hx hb dX3_readUnit_102 rfl (lv_at hl 3 rfl) ?_
        refine lv_if_ne (tgt := 116) hx hb dX3_readUnit_103 (by decide) (fun c => absurd (by decide) c) (fun _ => ?_)
        refine lv_aload_n hx hb dX3_readUnit_106 rfl (lv_at hl 1 rfl) ?_
        refine lv_iload_n hx hb dX3_readUnit_107 rfl (lv_at hl 2 rfl) ?_
        have hPc := hP.sub (ws' := (wd_1ad0248d h0 h1 h3 v0 h1 h2 v1 x38 v3 v4 h2 g0 f5 h3 g1 f6)) [0, 1, 2, 3] rfl
        have hDc := hD.sub (ws' := (wd_1ad0248d h0 h1 h3 v0 h1 h2 v1 x38 v3 v4 h2 g0 f5 h3 g1 f6)) [0, 1, 2, 3] (by decide) rfl
        have hKc := hK.sub (tys' := [(g0, .int), (g1, .int)]) [0, 1] rfl
        have hFc := va_free (wc := (wd_1ad0248d h0 h1 h3 v0 h1 h2 v1 x38 v3 v4 h2 g0 f5 h3 g1 f6)) hD hS hA [0, 1, 2, 3] rfl
        refine va_calli (va_runV (As := [.int 6]) (rest := []) ⟨hx, hb, hml, hown, hts⟩ (k_X3_readSum l dC dI adK adV h0 h1 h2 h3 v0 v1 x38 v3 v4 g0 f5 g1 f6 ⟨i_v0a, i_v0b⟩ ⟨i_v1a, i_v1b⟩ ⟨oa_x38, by first | omega | decide⟩ ia_f5 H.size) (cwV 1 hts g_X3_readUnit_1_1 rfl rfl rfl (by decide +kernel) ⟨Nat.le_of_ble_eq_true rfl, Nat.le_of_ble_eq_true rfl⟩) ⟨fun a U g mk q => by obtain ⟨q0, q1, qP, qK, qD, n0, n1, n2⟩ := q; exact ⟨q0, q1, qP, va_K.moved (u := U) (U := U.calling g mk a) (Vm.Alike.refl U.vm) qK, qD, vk_R.same rfl n0, va_Z.moved (Vm.Alike.refl _) n1, vk_S.moved (Vm.Alike.refl _) n2⟩, pv_rc3 hKc hPc (q0 := 0) rfl, fun U hU hW => ⟨rfl, by rw [hU], by rw [hU]; exact hPc, va_K.moved hW.alike hKc, hDc.weaken (fun _ _ _ _ => trivial), vk_R.warm hW h_vr_2, (by rw [hU]; exact (va_Z.moved hW.alike (va_Z.kept h_st_CS hS.2.1)).narrow hFc), (by rw [hU]; exact (vk_S.moved hW.alike (vk_S.kept h_st_S hS.2.1)).narrow hFc)⟩⟩ rfl rfl hl.1 rfl (lv_room (Nat.le_of_ble_eq_true rfl)) dX3_readUnit_108 ⟨Nat.le_of_ble_eq_true rfl, Nat.le_of_ble_eq_true rfl⟩) hS (fun q _ h => hFc q h) hFc (fun ra43 u t H1 locs ht hvm hwra43 hB hz1 hk1 hS => ?_)
        try rw [hwra43] at hB
        rcases hB with hB | hB
        · skip
          obtain ⟨x44, x45, x46, fn47, oa_x44, ob_x44, oa_x45, ob_x45, pt0_ra43, pt1_ra43, pt2_ra43, pt3_ra43, hP1, hK1, hD1⟩ := hB
          rw [ht] at hP1
          obtain ⟨hP2, hD2⟩ := va_join (wr := []) (w1 := (wd_1ad0248d h0 h1 h3 x44 h1 h2 v1 x45 v3 x46 h2 g0 f5 h3 g1 fn47)) hP hD [0, 1, 2, 3] [] rfl rfl (by decide) (by decide) hk1 hFc hP1 hD1
          clear hP hD hPc hDc hKc hFc hP1 hK1 hD1 hk1 hz1
          generalize H1 = H at hP2 hS ⊢
          have hP : va_P (dC, dI) vwCl (wd_1ad0248d h0 h1 h3 x44 h1 h2 v1 x45 v3 x46 h2 g0 f5 h3 g1 fn47) H := hP2
          have hD : va_D A (wd_1ad0248d h0 h1 h3 x44 h1 h2 v1 x45 v3 x46 h2 g0 f5 h3 g1 fn47) := hD2
          clear hP2 hD2
          obtain rfl : ra43 = (1 : Int32) := pv_cs (by decide) pt0_ra43 pt1_ra43
          refine lv_if_ne (tgt := 116) hx hb dX3_readUnit_111 (by decide) (fun _ => ?_) (fun c => absurd c (by decide))
          refine lv_aload_n hx hb dX3_readUnit_116 rfl (lv_at hl 1 rfl) ?_
          refine va_get (D := (dC, dI)) (ci := 3) (v := .ref h1) (C := RX3) (T := TX3) (N := 3) hx hb hts (fun _ h => List.mem_cons_of_mem _ (List.mem_append_left _ (List.mem_append_right _ h))) hown hK hP 0 rfl rfl 0 (by decide) (hts (.fieldLink RX3 19 "LeftArguments$LawReader" "tape" "LLeftArguments$Tape;") (List.mem_cons_of_mem _ (List.mem_append_left _ (List.mem_append_left _ (List.mem_of_getElem? (i := 0) rfl))))) (fun _ h9 => h9) rfl dX3_readUnit_117 ?_
          have hPc := hP.sub (ws' := (wd_82cdd16b h1 h2 v1 x45 v3 x46 h2 g0 f5)) [1, 2] rfl
          have hDc := hD.sub (ws' := (wd_82cdd16b h1 h2 v1 x45 v3 x46 h2 g0 f5)) [1, 2] (by decide) rfl
          have hKc := hK.sub (tys' := [(g0, .int)]) [0] rfl
          have hFc := va_free (wc := (wd_82cdd16b h1 h2 v1 x45 v3 x46 h2 g0 f5)) hD hS hA [1, 2] rfl
          refine va_calli (va_runV (As := []) (rest := []) ⟨hx, hb, hml, hown, hts⟩ (k_X10_next l dC dI h1 h2 v1 x45 v3 x46 g0 f5 ⟨i_v1a, i_v1b⟩ ⟨oa_x45, ob_x45⟩ ia_f5 H.size) (cwV 0 hts g_X3_readUnit_1_0 rfl rfl rfl (by decide +kernel) ⟨Nat.le_of_ble_eq_true rfl, Nat.le_of_ble_eq_true rfl⟩) (pv_PV10 hPc hKc hDc (q0 := 0) rfl) rfl rfl hl.1 rfl (lv_room (Nat.le_of_ble_eq_true rfl)) dX3_readUnit_120 ⟨Nat.le_of_ble_eq_true rfl, Nat.le_of_ble_eq_true rfl⟩) hS (fun q _ h => hFc q h) hFc (fun ra48 u t H1 locs ht hvm hwra48 hB hz1 hk1 hS => ?_)
          try rw [hwra48] at hB
          rcases hB with hB | hB
          · skip
            obtain ⟨x49, oa_x49, ob_x49, pt0_ra48, pt1_ra48, pt2_ra48, pt3_ra48, pt4_ra48, pt5_ra48, pt6_ra48, hP1, hK1, hD1⟩ := hB
            rw [ht] at hP1
            obtain ⟨hP2, hD2⟩ := va_join (wr := (wd_b958b9da h0 h1 h3 x44 h3 g1 fn47)) (w1 := (wd_82cdd16b h1 h2 v1 x49 v3 x46 h2 g0 f5)) hP hD [1, 2] [0, 3] rfl rfl (by decide) (by decide) hk1 hFc hP1 hD1
            clear hP hD hPc hDc hKc hFc hP1 hK1 hD1 hk1 hz1
            generalize H1 = H at hP2 hS ⊢
            have hP := hP2.sub (ws' := (wd_1ad0248d h0 h1 h3 x44 h1 h2 v1 x49 v3 x46 h2 g0 f5 h3 g1 fn47)) [0, 2, 3, 1] rfl
            have hD := hD2.sub (ws' := (wd_1ad0248d h0 h1 h3 x44 h1 h2 v1 x49 v3 x46 h2 g0 f5 h3 g1 fn47)) [0, 2, 3, 1] (by decide) rfl
            clear hP2 hD2
            obtain rfl : ra48 = ((-1) : Int32) := pv_cs (by decide) pt0_ra48 pt1_ra48
            have hPc := hP.sub (ws' := []) [] rfl
            have hDc := hD.sub (ws' := []) [] (by decide) rfl
            have hKc := hK.sub (tys' := []) [] rfl
            have hFc := va_free (wc := []) hD hS hA [] rfl
            refine va_calli (va_runS (As := [.int (-1)]) (rest := []) ⟨hx, hb, hml, hown, hts⟩ (k_X3_comparing l dC dI   H.size) (va_cwS 1 hts g_X3_readUnit_1_3 rfl rfl rfl (by decide +kernel) ⟨Nat.le_of_ble_eq_true rfl, Nat.le_of_ble_eq_true rfl⟩) (pv_PS hPc hKc hDc) rfl rfl hl.1 rfl (lv_room (Nat.le_of_ble_eq_true rfl)) dX3_readUnit_123 ⟨Nat.le_of_ble_eq_true rfl, Nat.le_of_ble_eq_true rfl⟩) hS (fun q _ h => hFc q h) hFc (fun ra50 u t H1 locs ht hvm hwra50 hB hz1 hk1 hS => ?_)
            try rw [hwra50] at hB
            obtain ⟨pt0_ra50, pt1_ra50, hP1, hK1, hD1⟩ := hB
            rw [ht] at hP1
            obtain ⟨hP2, hD2⟩ := va_join (wr := (wd_1ad0248d h0 h1 h3 x44 h1 h2 v1 x49 v3 x46 h2 g0 f5 h3 g1 fn47)) (w1 := []) hP hD [] [0, 1, 2, 3] rfl rfl (by decide) (by decide) hk1 hFc hP1 hD1
            clear hP hD hPc hDc hKc hFc hP1 hK1 hD1 hk1 hz1
            generalize H1 = H at hP2 hS ⊢
            have hP : va_P (dC, dI) vwCl (wd_1ad0248d h0 h1 h3 x44 h1 h2 v1 x49 v3 x46 h2 g0 f5 h3 g1 fn47) H := hP2
            have hD : va_D A (wd_1ad0248d h0 h1 h3 x44 h1 h2 v1 x49 v3 x46 h2 g0 f5 h3 g1 fn47) := hD2
            clear hP2 hD2
            obtain rfl : ra50 = ((-1) : Int32) := pv_cs (by decide) pt0_ra50 pt1_ra50
            refine lv_istore (lv' := [(4, .int (-1)), (3, .int ra1), (0, .ref h0), (1, .int 6), (2, .int 0)]) hx hb dX3_readUnit_126 hl (by decide) rfl (fun ls hl => ?_)
            refine lv_iload hx hb dX3_readUnit_128 (lv_at hl 0 rfl) ?_
            refine lv_iconst (v := (-1)) hx hb dX3_readUnit_130 (by decide) ?_
            refine lv_icmp_ne (tgt := 142) hx hb dX3_readUnit_131 (by decide) (fun c => absurd (by decide) c) (fun _ => ?_)
            refine lv_aload_n hx hb dX3_readUnit_134 rfl (lv_at hl 2 rfl) ?_
            refine va_get (D := (dC, dI)) (ci := 3) (v := .ref h1) (C := RX3) (T := TX3) (N := 3) hx hb hts (fun _ h => List.mem_cons_of_mem _ (List.mem_append_left _ (List.mem_append_right _ h))) hown hK hP 0 rfl rfl 0 (by decide) (hts (.fieldLink RX3 19 "LeftArguments$LawReader" "tape" "LLeftArguments$Tape;") (List.mem_cons_of_mem _ (List.mem_append_left _ (List.mem_append_left _ (List.mem_of_getElem? (i := 0) rfl))))) (fun _ h9 => h9) rfl dX3_readUnit_135 ?_
            have hPc := hP.sub (ws' := (wd_09b0abee h1 h2 v1 x49 v3 x46)) [1] rfl
            have hDc := hD.sub (ws' := (wd_09b0abee h1 h2 v1 x49 v3 x46)) [1] (by decide) rfl
            have hKc := hK.sub (tys' := []) [] rfl
            have hFc := va_free (wc := (wd_09b0abee h1 h2 v1 x49 v3 x46)) hD hS hA [1] rfl
            refine va_calli (va_runV (As := []) (rest := []) ⟨hx, hb, hml, hown, hts⟩ (k_X10_wrongHere l dC dI h1 h2 v1 x49 v3 x46 ⟨i_v1a, i_v1b⟩ ⟨oa_x49, ob_x49⟩ H.size) (cwV 0 hts g_X3_readUnit_1_4 rfl rfl rfl (by decide +kernel) ⟨Nat.le_of_ble_eq_true rfl, Nat.le_of_ble_eq_true rfl⟩) (pv_PV10 hPc hKc hDc (q0 := 0) rfl) rfl rfl hl.1 rfl (lv_room (Nat.le_of_ble_eq_true rfl)) dX3_readUnit_138 ⟨Nat.le_of_ble_eq_true rfl, Nat.le_of_ble_eq_true rfl⟩) hS (fun q _ h => hFc q h) hFc (fun ra51 u t H1 locs ht hvm hwra51 hB hz1 hk1 hS => ?_)
            try rw [hwra51] at hB
            obtain ⟨x52, oa_x52, ob_x52, pt0_ra51, pt1_ra51, pt2_ra51, hP1, hK1, hD1⟩ := hB
            rw [ht] at hP1
            obtain ⟨hP2, hD2⟩ := va_join (wr := (wd_6b0d8e05 h0 h1 h3 x44 h2 g0 f5 h3 g1 fn47)) (w1 := (wd_09b0abee h1 h2 v1 x49 x52 x46)) hP hD [1] [0, 2, 3] rfl rfl (by decide) (by decide) hk1 hFc hP1 hD1
            clear hP hD hPc hDc hKc hFc hP1 hK1 hD1 hk1 hz1
            generalize H1 = H at hP2 hS ⊢
            have hP := hP2.sub (ws' := (wd_1ad0248d h0 h1 h3 x44 h1 h2 v1 x49 x52 x46 h2 g0 f5 h3 g1 fn47)) [0, 3, 1, 2] rfl
            have hD := hD2.sub (ws' := (wd_1ad0248d h0 h1 h3 x44 h1 h2 v1 x49 x52 x46 h2 g0 f5 h3 g1 fn47)) [0, 3, 1, 2] (by decide) rfl
            clear hP2 hD2
            obtain rfl : ra51 = (0 : Int32) := pv_cs (by decide) pt0_ra51 pt1_ra51
            subst hQ
            have hP9 := hP.sub (ws' := (wd_1ad0248d h0 h1 h3 x44 h1 h2 v1 x49 x52 x46 h2 g0 f5 h3 g1 fn47)) [0, 1, 2, 3] rfl
            have hD9 := hD.sub (ws' := (wd_1ad0248d h0 h1 h3 x44 h1 h2 v1 x49 x52 x46 h2 g0 f5 h3 g1 fn47)) [0, 1, 2, 3] (by decide) rfl
            have hK9 := hK.sub (tys' := []) [] rfl
            exact W.zret (v := 0) hx hb hr rfl (fun t ht hW => ⟨⟨0, 0, rfl, rfl, Or.inr (⟨x44, x49, x52, x46, fn47, oa_x44, ob_x44, oa_x49, ob_x49, oa_x52, ob_x52, by first | omega | decide, by first | omega | decide, by omega, by show pg_unitF f5 v1.toInt 0 false pg_none pg_none _ = _; first | (apply pg_unitF.not <;> first | assumption | omega) | (apply pg_unitF.par1 <;> first | assumption | omega) | (apply pg_unitF.par0 <;> first | assumption | omega) | (apply pg_unitF.deep <;> first | assumption | omega) | (apply pg_unitF.sm1 <;> first | assumption | omega) | (apply pg_unitF.sm2 <;> first | assumption | omega) | (apply pg_unitF.sum0 <;> first | assumption | omega), by rw [ht]; exact hP9, va_K.moved hW.alike hK9, hD9⟩)⟩, hS.F ht⟩) hS.2.2 dX3_readUnit_141
          · skip
            obtain ⟨x53, oa_x53, ob_x53, pt0_ra48, pt1_ra48, pt2_ra48, pt3_ra48, pt4_ra48, pt5_ra48, pt6_ra48, hP1, hK1, hD1⟩ := hB
            rw [ht] at hP1
            obtain ⟨hP2, hD2⟩ := va_join (wr := (wd_b958b9da h0 h1 h3 x44 h3 g1 fn47)) (w1 := (wd_82cdd16b h1 h2 v1 x53 v3 x46 h2 g0 f5)) hP hD [1, 2] [0, 3] rfl rfl (by decide) (by decide) hk1 hFc hP1 hD1
            clear hP hD hPc hDc hKc hFc hP1 hK1 hD1 hk1 hz1
            generalize H1 = H at hP2 hS ⊢
            have hP := hP2.sub (ws' := (wd_1ad0248d h0 h1 h3 x44 h1 h2 v1 x53 v3 x46 h2 g0 f5 h3 g1 fn47)) [0, 2, 3, 1] rfl
            have hD := hD2.sub (ws' := (wd_1ad0248d h0 h1 h3 x44 h1 h2 v1 x53 v3 x46 h2 g0 f5 h3 g1 fn47)) [0, 2, 3, 1] (by decide) rfl
            clear hP2 hD2
            have hPc := hP.sub (ws' := []) [] rfl
            have hDc := hD.sub (ws' := []) [] (by decide) rfl
            have hKc := hK.sub (tys' := []) [] rfl
            have hFc := va_free (wc := []) hD hS hA [] rfl
            refine va_calli (va_runS (As := [.int ra48]) (rest := []) ⟨hx, hb, hml, hown, hts⟩ (k_X3_comparing_1 l dC dI ra48  H.size) (va_cwS 1 hts g_X3_readUnit_1_5 rfl rfl rfl (by decide +kernel) ⟨Nat.le_of_ble_eq_true rfl, Nat.le_of_ble_eq_true rfl⟩) (pv_PS hPc hKc hDc) rfl rfl hl.1 rfl (lv_room (Nat.le_of_ble_eq_true rfl)) dX3_readUnit_123 ⟨Nat.le_of_ble_eq_true rfl, Nat.le_of_ble_eq_true rfl⟩) hS (fun q _ h => hFc q h) hFc (fun ra54 u t H1 locs ht hvm hwra54 hB hz1 hk1 hS => ?_)
            try rw [hwra54] at hB
            obtain ⟨pt0_ra54, pt1_ra54, pt2_ra54, hP1, hK1, hD1⟩ := hB
            rw [ht] at hP1
            obtain ⟨hP2, hD2⟩ := va_join (wr := (wd_1ad0248d h0 h1 h3 x44 h1 h2 v1 x53 v3 x46 h2 g0 f5 h3 g1 fn47)) (w1 := []) hP hD [] [0, 1, 2, 3] rfl rfl (by decide) (by decide) hk1 hFc hP1 hD1
            clear hP hD hPc hDc hKc hFc hP1 hK1 hD1 hk1 hz1
            generalize H1 = H at hP2 hS ⊢
            have hP : va_P (dC, dI) vwCl (wd_1ad0248d h0 h1 h3 x44 h1 h2 v1 x53 v3 x46 h2 g0 f5 h3 g1 fn47) H := hP2
            have hD : va_D A (wd_1ad0248d h0 h1 h3 x44 h1 h2 v1 x53 v3 x46 h2 g0 f5 h3 g1 fn47) := hD2
            clear hP2 hD2
            refine lv_istore (lv' := [(4, .int ra54), (3, .int ra1), (0, .ref h0), (1, .int 6), (2, .int 0)]) hx hb dX3_readUnit_126 hl (by decide) rfl (fun ls hl => ?_)
            refine lv_iload hx hb dX3_readUnit_128 (lv_at hl 0 rfl) ?_
            refine lv_iconst (v := (-1)) hx hb dX3_readUnit_130 (by decide) ?_
            refine lv_icmp_ne (tgt := 142) hx hb dX3_readUnit_131 (by decide) (fun c55 => ?_) (fun c55 => ?_)
            · skip
              have fc55 : ¬ (ra54.toInt = (-1)) := fun h9 => c55 (Int32.toInt_inj.mp h9)
              refine lv_aload_n hx hb dX3_readUnit_142 rfl (lv_at hl 2 rfl) ?_
              refine va_get (D := (dC, dI)) (ci := 3) (v := .ref h1) (C := RX3) (T := TX3) (N := 3) hx hb hts (fun _ h => List.mem_cons_of_mem _ (List.mem_append_left _ (List.mem_append_right _ h))) hown hK hP 0 rfl rfl 0 (by decide) (hts (.fieldLink RX3 19 "LeftArguments$LawReader" "tape" "LLeftArguments$Tape;") (List.mem_cons_of_mem _ (List.mem_append_left _ (List.mem_append_left _ (List.mem_of_getElem? (i := 0) rfl))))) (fun _ h9 => h9) rfl dX3_readUnit_143 ?_
              have hPc := hP.sub (ws' := (wd_09b0abee h1 h2 v1 x53 v3 x46)) [1] rfl
              have hDc := hD.sub (ws' := (wd_09b0abee h1 h2 v1 x53 v3 x46)) [1] (by decide) rfl
              have hKc := hK.sub (tys' := []) [] rfl
              have hFc := va_free (wc := (wd_09b0abee h1 h2 v1 x53 v3 x46)) hD hS hA [1] rfl
              refine va_callv (va_runV (As := []) (rest := []) ⟨hx, hb, hml, hown, hts⟩ (k_X10_step l dC dI h1 h2 v1 x53 v3 x46 ⟨i_v1a, i_v1b⟩ ⟨oa_x53, ob_x53⟩ H.size) (cwV 0 hts g_X3_readUnit_1_6 rfl rfl rfl (by decide +kernel) ⟨Nat.le_of_ble_eq_true rfl, Nat.le_of_ble_eq_true rfl⟩) (pv_PV10 hPc hKc hDc (q0 := 0) rfl) rfl rfl hl.1 rfl (lv_room (Nat.le_of_ble_eq_true rfl)) dX3_readUnit_146 ⟨Nat.le_of_ble_eq_true rfl, Nat.le_of_ble_eq_true rfl⟩) hS (fun q _ h => hFc q h) hFc (fun u t H1 locs ht hvm hwra56 hB hz1 hk1 hS => ?_)
              obtain ⟨x57, oa_x57, ob_x57, pt0_ra56, hP1, hK1, hD1⟩ := hB
              rw [ht] at hP1
              obtain ⟨hP2, hD2⟩ := va_join (wr := (wd_6b0d8e05 h0 h1 h3 x44 h2 g0 f5 h3 g1 fn47)) (w1 := (wd_09b0abee h1 h2 v1 x57 v3 x46)) hP hD [1] [0, 2, 3] rfl rfl (by decide) (by decide) hk1 hFc hP1 hD1
              clear hP hD hPc hDc hKc hFc hP1 hK1 hD1 hk1 hz1
              generalize H1 = H at hP2 hS ⊢
              have hP := hP2.sub (ws' := (wd_1ad0248d h0 h1 h3 x44 h1 h2 v1 x57 v3 x46 h2 g0 f5 h3 g1 fn47)) [0, 3, 1, 2] rfl
              have hD := hD2.sub (ws' := (wd_1ad0248d h0 h1 h3 x44 h1 h2 v1 x57 v3 x46 h2 g0 f5 h3 g1 fn47)) [0, 3, 1, 2] (by decide) rfl
              clear hP2 hD2
              refine lv_aload_n hx hb dX3_readUnit_149 rfl (lv_at hl 2 rfl) ?_
              refine lv_iload_n hx hb dX3_readUnit_150 rfl (lv_at hl 3 rfl) ?_
              have hPc := hP.sub (ws' := (wd_1ad0248d h0 h1 h3 x44 h1 h2 v1 x57 v3 x46 h2 g0 f5 h3 g1 fn47)) [0, 1, 2, 3] rfl
              have hDc := hD.sub (ws' := (wd_1ad0248d h0 h1 h3 x44 h1 h2 v1 x57 v3 x46 h2 g0 f5 h3 g1 fn47)) [0, 1, 2, 3] (by decide) rfl
              have hKc := hK.sub (tys' := [(g0, .int), (g1, .int)]) [0, 1] rfl
              have hFc := va_free (wc := (wd_1ad0248d h0 h1 h3 x44 h1 h2 v1 x57 v3 x46 h2 g0 f5 h3 g1 fn47)) hD hS hA [0, 1, 2, 3] rfl
              refine va_calli (va_runV (As := [.int 6]) (rest := []) ⟨hx, hb, hml, hown, hts⟩ (k_X3_readSum l dC dI adK adV h0 h1 h2 h3 x44 v1 x57 v3 x46 g0 f5 g1 fn47 ⟨oa_x44, ob_x44⟩ ⟨i_v1a, i_v1b⟩ ⟨by first | omega | decide, ob_x57⟩ ia_f5 H.size) (cwV 1 hts g_X3_readUnit_1_1 rfl rfl rfl (by decide +kernel) ⟨Nat.le_of_ble_eq_true rfl, Nat.le_of_ble_eq_true rfl⟩) ⟨fun a U g mk q => by obtain ⟨q0, q1, qP, qK, qD, n0, n1, n2⟩ := q; exact ⟨q0, q1, qP, va_K.moved (u := U) (U := U.calling g mk a) (Vm.Alike.refl U.vm) qK, qD, vk_R.same rfl n0, va_Z.moved (Vm.Alike.refl _) n1, vk_S.moved (Vm.Alike.refl _) n2⟩, pv_rc3 hKc hPc (q0 := 0) rfl, fun U hU hW => ⟨rfl, by rw [hU], by rw [hU]; exact hPc, va_K.moved hW.alike hKc, hDc.weaken (fun _ _ _ _ => trivial), vk_R.warm hW h_vr_2, (by rw [hU]; exact (va_Z.moved hW.alike (va_Z.kept h_st_CS hS.2.1)).narrow hFc), (by rw [hU]; exact (vk_S.moved hW.alike (vk_S.kept h_st_S hS.2.1)).narrow hFc)⟩⟩ rfl rfl hl.1 rfl (lv_room (Nat.le_of_ble_eq_true rfl)) dX3_readUnit_151 ⟨Nat.le_of_ble_eq_true rfl, Nat.le_of_ble_eq_true rfl⟩) hS (fun q _ h => hFc q h) hFc (fun ra58 u t H1 locs ht hvm hwra58 hB hz1 hk1 hS => ?_)
              try rw [hwra58] at hB
              rcases hB with hB | hB
              · skip
                obtain ⟨x59, x60, x61, fn62, oa_x59, ob_x59, oa_x60, ob_x60, pt0_ra58, pt1_ra58, pt2_ra58, pt3_ra58, hP1, hK1, hD1⟩ := hB
                rw [ht] at hP1
                obtain ⟨hP2, hD2⟩ := va_join (wr := []) (w1 := (wd_1ad0248d h0 h1 h3 x59 h1 h2 v1 x60 v3 x61 h2 g0 f5 h3 g1 fn62)) hP hD [0, 1, 2, 3] [] rfl rfl (by decide) (by decide) hk1 hFc hP1 hD1
                clear hP hD hPc hDc hKc hFc hP1 hK1 hD1 hk1 hz1
                generalize H1 = H at hP2 hS ⊢
                have hP : va_P (dC, dI) vwCl (wd_1ad0248d h0 h1 h3 x59 h1 h2 v1 x60 v3 x61 h2 g0 f5 h3 g1 fn62) H := hP2
                have hD : va_D A (wd_1ad0248d h0 h1 h3 x59 h1 h2 v1 x60 v3 x61 h2 g0 f5 h3 g1 fn62) := hD2
                clear hP2 hD2
                obtain rfl : ra58 = (1 : Int32) := pv_cs (by decide) pt0_ra58 pt1_ra58
                refine lv_if_ne (tgt := 159) hx hb dX3_readUnit_154 (by decide) (fun _ => ?_) (fun c => absurd c (by decide))
                refine lv_aload_n hx hb dX3_readUnit_159 rfl (lv_at hl 2 rfl) ?_
                refine lv_iload hx hb dX3_readUnit_160 (lv_at hl 0 rfl) ?_
                refine lv_iconst (v := 0) hx hb dX3_readUnit_162 (by decide) ?_
                have hPc := hP.sub (ws' := (wd_b958b9da h0 h1 h3 x59 h3 g1 fn62)) [0, 3] rfl
                have hDc := hD.sub (ws' := (wd_b958b9da h0 h1 h3 x59 h3 g1 fn62)) [0, 3] (by decide) rfl
                have hKc := hK.sub (tys' := [(g1, .int)]) [1] rfl
                have hFc := va_free (wc := (wd_b958b9da h0 h1 h3 x59 h3 g1 fn62)) hD hS hA [0, 3] rfl
                refine va_callv (va_runV (As := [.int ra54, .int 0]) (rest := []) ⟨hx, hb, hml, hown, hts⟩ (k_X3_write l dC dI h0 h3 h1 x59 g1 fn62 ra54 0 ⟨oa_x59, ob_x59⟩ H.size) (cwV 2 hts g_X3_readUnit_1_8 rfl rfl rfl (by decide +kernel) ⟨Nat.le_of_ble_eq_true rfl, Nat.le_of_ble_eq_true rfl⟩) (pv_PV3 hPc hKc hDc (q0 := 0) rfl) rfl rfl hl.1 rfl (lv_room (Nat.le_of_ble_eq_true rfl)) dX3_readUnit_163 ⟨Nat.le_of_ble_eq_true rfl, Nat.le_of_ble_eq_true rfl⟩) hS (fun q _ h => hFc q h) hFc (fun u t H1 locs ht hvm hwra63 hB hz1 hk1 hS => ?_)
                obtain ⟨x64, fn65, oa_x64, ob_x64, hP1, hK1, hD1⟩ := hB
                rw [ht] at hP1
                obtain ⟨hP2, hD2⟩ := va_join (wr := (wd_82cdd16b h1 h2 v1 x60 v3 x61 h2 g0 f5)) (w1 := (wd_b958b9da h0 h1 h3 x64 h3 g1 fn65)) hP hD [0, 3] [1, 2] rfl rfl (by decide) (by decide) hk1 hFc hP1 hD1
                clear hP hD hPc hDc hKc hFc hP1 hK1 hD1 hk1 hz1
                generalize H1 = H at hP2 hS ⊢
                have hP := hP2.sub (ws' := (wd_1ad0248d h0 h1 h3 x64 h1 h2 v1 x60 v3 x61 h2 g0 f5 h3 g1 fn65)) [2, 0, 1, 3] rfl
                have hD := hD2.sub (ws' := (wd_1ad0248d h0 h1 h3 x64 h1 h2 v1 x60 v3 x61 h2 g0 f5 h3 g1 fn65)) [2, 0, 1, 3] (by decide) rfl
                clear hP2 hD2
                refine lv_iconst (v := 1) hx hb dX3_readUnit_166 (by decide) ?_
                subst hQ
                have hP9 := hP.sub (ws' := (wd_1ad0248d h0 h1 h3 x64 h1 h2 v1 x60 v3 x61 h2 g0 f5 h3 g1 fn65)) [0, 1, 2, 3] rfl
                have hD9 := hD.sub (ws' := (wd_1ad0248d h0 h1 h3 x64 h1 h2 v1 x60 v3 x61 h2 g0 f5 h3 g1 fn65)) [0, 1, 2, 3] (by decide) rfl
                have hK9 := hK.sub (tys' := []) [] rfl
                exact W.zret (v := 1) hx hb hr rfl (fun t ht hW => ⟨⟨1, 1, rfl, rfl, Or.inl ⟨x64, x60, x61, fn65, oa_x64, ob_x64, oa_x60, ob_x60, by first | omega | decide, by first | omega | decide, by omega, by show pg_unitF f5 v1.toInt 0 false pg_none pg_none _ = _; first | (apply pg_unitF.not <;> first | assumption | omega) | (apply pg_unitF.par1 <;> first | assumption | omega) | (apply pg_unitF.par0 <;> first | assumption | omega) | (apply pg_unitF.deep <;> first | assumption | omega) | (apply pg_unitF.sm1 <;> first | assumption | omega) | (apply pg_unitF.sm2 <;> first | assumption | omega) | (apply pg_unitF.sum0 <;> first | assumption | omega), by rw [ht]; exact hP9, va_K.moved hW.alike hK9, hD9⟩⟩, hS.F ht⟩) hS.2.2 dX3_readUnit_167
              · skip
                obtain ⟨x66, x67, x68, x69, fn70, oa_x66, ob_x66, oa_x67, ob_x67, oa_x68, ob_x68, pt0_ra58, pt1_ra58, pt2_ra58, pt3_ra58, hP1, hK1, hD1⟩ := hB
                rw [ht] at hP1
                obtain ⟨hP2, hD2⟩ := va_join (wr := []) (w1 := (wd_1ad0248d h0 h1 h3 x66 h1 h2 v1 x67 x68 x69 h2 g0 f5 h3 g1 fn70)) hP hD [0, 1, 2, 3] [] rfl rfl (by decide) (by decide) hk1 hFc hP1 hD1
                clear hP hD hPc hDc hKc hFc hP1 hK1 hD1 hk1 hz1
                generalize H1 = H at hP2 hS ⊢
                have hP : va_P (dC, dI) vwCl (wd_1ad0248d h0 h1 h3 x66 h1 h2 v1 x67 x68 x69 h2 g0 f5 h3 g1 fn70) H := hP2
                have hD : va_D A (wd_1ad0248d h0 h1 h3 x66 h1 h2 v1 x67 x68 x69 h2 g0 f5 h3 g1 fn70) := hD2
                clear hP2 hD2
                obtain rfl : ra58 = (0 : Int32) := pv_cs (by decide) pt0_ra58 pt1_ra58
                refine lv_if_ne (tgt := 159) hx hb dX3_readUnit_154 (by decide) (fun c => absurd (by decide) c) (fun _ => ?_)
                refine lv_iconst (v := 0) hx hb dX3_readUnit_157 (by decide) ?_
                subst hQ
                have hP9 := hP.sub (ws' := (wd_1ad0248d h0 h1 h3 x66 h1 h2 v1 x67 x68 x69 h2 g0 f5 h3 g1 fn70)) [0, 1, 2, 3] rfl
                have hD9 := hD.sub (ws' := (wd_1ad0248d h0 h1 h3 x66 h1 h2 v1 x67 x68 x69 h2 g0 f5 h3 g1 fn70)) [0, 1, 2, 3] (by decide) rfl
                have hK9 := hK.sub (tys' := []) [] rfl
                exact W.zret (v := 0) hx hb hr rfl (fun t ht hW => ⟨⟨0, 0, rfl, rfl, Or.inr (⟨x66, x67, x68, x69, fn70, oa_x66, ob_x66, oa_x67, ob_x67, oa_x68, ob_x68, by first | omega | decide, by first | omega | decide, by omega, by show pg_unitF f5 v1.toInt 0 false pg_none pg_none _ = _; first | (apply pg_unitF.not <;> first | assumption | omega) | (apply pg_unitF.par1 <;> first | assumption | omega) | (apply pg_unitF.par0 <;> first | assumption | omega) | (apply pg_unitF.deep <;> first | assumption | omega) | (apply pg_unitF.sm1 <;> first | assumption | omega) | (apply pg_unitF.sm2 <;> first | assumption | omega) | (apply pg_unitF.sum0 <;> first | assumption | omega), by rw [ht]; exact hP9, va_K.moved hW.alike hK9, hD9⟩)⟩, hS.F ht⟩) hS.2.2 dX3_readUnit_158
            · skip
              have fc55 : ra54.toInt = (-1) := congrArg Int32.toInt c55
              refine lv_aload_n hx hb dX3_readUnit_134 rfl (lv_at hl 2 rfl) ?_
              refine va_get (D := (dC, dI)) (ci := 3) (v := .ref h1) (C := RX3) (T := TX3) (N := 3) hx hb hts (fun _ h => List.mem_cons_of_mem _ (List.mem_append_left _ (List.mem_append_right _ h))) hown hK hP 0 rfl rfl 0 (by decide) (hts (.fieldLink RX3 19 "LeftArguments$LawReader" "tape" "LLeftArguments$Tape;") (List.mem_cons_of_mem _ (List.mem_append_left _ (List.mem_append_left _ (List.mem_of_getElem? (i := 0) rfl))))) (fun _ h9 => h9) rfl dX3_readUnit_135 ?_
              have hPc := hP.sub (ws' := (wd_09b0abee h1 h2 v1 x53 v3 x46)) [1] rfl
              have hDc := hD.sub (ws' := (wd_09b0abee h1 h2 v1 x53 v3 x46)) [1] (by decide) rfl
              have hKc := hK.sub (tys' := []) [] rfl
              have hFc := va_free (wc := (wd_09b0abee h1 h2 v1 x53 v3 x46)) hD hS hA [1] rfl
              refine va_calli (va_runV (As := []) (rest := []) ⟨hx, hb, hml, hown, hts⟩ (k_X10_wrongHere l dC dI h1 h2 v1 x53 v3 x46 ⟨i_v1a, i_v1b⟩ ⟨oa_x53, by first | omega | decide⟩ H.size) (cwV 0 hts g_X3_readUnit_1_4 rfl rfl rfl (by decide +kernel) ⟨Nat.le_of_ble_eq_true rfl, Nat.le_of_ble_eq_true rfl⟩) (pv_PV10 hPc hKc hDc (q0 := 0) rfl) rfl rfl hl.1 rfl (lv_room (Nat.le_of_ble_eq_true rfl)) dX3_readUnit_138 ⟨Nat.le_of_ble_eq_true rfl, Nat.le_of_ble_eq_true rfl⟩) hS (fun q _ h => hFc q h) hFc (fun ra71 u t H1 locs ht hvm hwra71 hB hz1 hk1 hS => ?_)
              try rw [hwra71] at hB
              obtain ⟨x72, oa_x72, ob_x72, pt0_ra71, pt1_ra71, pt2_ra71, hP1, hK1, hD1⟩ := hB
              rw [ht] at hP1
              obtain ⟨hP2, hD2⟩ := va_join (wr := (wd_6b0d8e05 h0 h1 h3 x44 h2 g0 f5 h3 g1 fn47)) (w1 := (wd_09b0abee h1 h2 v1 x53 x72 x46)) hP hD [1] [0, 2, 3] rfl rfl (by decide) (by decide) hk1 hFc hP1 hD1
              clear hP hD hPc hDc hKc hFc hP1 hK1 hD1 hk1 hz1
              generalize H1 = H at hP2 hS ⊢
              have hP := hP2.sub (ws' := (wd_1ad0248d h0 h1 h3 x44 h1 h2 v1 x53 x72 x46 h2 g0 f5 h3 g1 fn47)) [0, 3, 1, 2] rfl
              have hD := hD2.sub (ws' := (wd_1ad0248d h0 h1 h3 x44 h1 h2 v1 x53 x72 x46 h2 g0 f5 h3 g1 fn47)) [0, 3, 1, 2] (by decide) rfl
              clear hP2 hD2
              obtain rfl : ra71 = (0 : Int32) := pv_cs (by decide) pt0_ra71 pt1_ra71
              subst hQ
              have hP9 := hP.sub (ws' := (wd_1ad0248d h0 h1 h3 x44 h1 h2 v1 x53 x72 x46 h2 g0 f5 h3 g1 fn47)) [0, 1, 2, 3] rfl
              have hD9 := hD.sub (ws' := (wd_1ad0248d h0 h1 h3 x44 h1 h2 v1 x53 x72 x46 h2 g0 f5 h3 g1 fn47)) [0, 1, 2, 3] (by decide) rfl
              have hK9 := hK.sub (tys' := []) [] rfl
              exact W.zret (v := 0) hx hb hr rfl (fun t ht hW => ⟨⟨0, 0, rfl, rfl, Or.inr (⟨x44, x53, x72, x46, fn47, oa_x44, ob_x44, oa_x53, by first | omega | decide, oa_x72, ob_x72, by first | omega | decide, by first | omega | decide, by omega, by show pg_unitF f5 v1.toInt 0 false pg_none pg_none _ = _; first | (apply pg_unitF.not <;> first | assumption | omega) | (apply pg_unitF.par1 <;> first | assumption | omega) | (apply pg_unitF.par0 <;> first | assumption | omega) | (apply pg_unitF.deep <;> first | assumption | omega) | (apply pg_unitF.sm1 <;> first | assumption | omega) | (apply pg_unitF.sm2 <;> first | assumption | omega) | (apply pg_unitF.sum0 <;> first | assumption | omega), by rw [ht]; exact hP9, va_K.moved hW.alike hK9, hD9⟩)⟩, hS.F ht⟩) hS.2.2 dX3_readUnit_141
        · skip
          obtain ⟨x73, x74, x75, x76, fn77, oa_x73, ob_x73, oa_x74, ob_x74, oa_x75, ob_x75, pt0_ra43, pt1_ra43, pt2_ra43, pt3_ra43, hP1, hK1, hD1⟩ := hB
          rw [ht] at hP1
          obtain ⟨hP2, hD2⟩ := va_join (wr := []) (w1 := (wd_1ad0248d h0 h1 h3 x73 h1 h2 v1 x74 x75 x76 h2 g0 f5 h3 g1 fn77)) hP hD [0, 1, 2, 3] [] rfl rfl (by decide) (by decide) hk1 hFc hP1 hD1
          clear hP hD hPc hDc hKc hFc hP1 hK1 hD1 hk1 hz1
          generalize H1 = H at hP2 hS ⊢
          have hP : va_P (dC, dI) vwCl (wd_1ad0248d h0 h1 h3 x73 h1 h2 v1 x74 x75 x76 h2 g0 f5 h3 g1 fn77) H := hP2
          have hD : va_D A (wd_1ad0248d h0 h1 h3 x73 h1 h2 v1 x74 x75 x76 h2 g0 f5 h3 g1 fn77) := hD2
          clear hP2 hD2
          obtain rfl : ra43 = (0 : Int32) := pv_cs (by decide) pt0_ra43 pt1_ra43
          refine lv_if_ne (tgt := 116) hx hb dX3_readUnit_111 (by decide) (fun c => absurd (by decide) c) (fun _ => ?_)
          refine lv_iconst (v := 0) hx hb dX3_readUnit_114 (by decide) ?_
          subst hQ
          have hP9 := hP.sub (ws' := (wd_1ad0248d h0 h1 h3 x73 h1 h2 v1 x74 x75 x76 h2 g0 f5 h3 g1 fn77)) [0, 1, 2, 3] rfl
          have hD9 := hD.sub (ws' := (wd_1ad0248d h0 h1 h3 x73 h1 h2 v1 x74 x75 x76 h2 g0 f5 h3 g1 fn77)) [0, 1, 2, 3] (by decide) rfl
          have hK9 := hK.sub (tys' := []) [] rfl
          exact W.zret (v := 0) hx hb hr rfl (fun t ht hW => ⟨⟨0, 0, rfl, rfl, Or.inr (⟨x73, x74, x75, x76, fn77, oa_x73, ob_x73, oa_x74, ob_x74, oa_x75, ob_x75, by first | omega | decide, by first | omega | decide, by omega, by show pg_unitF f5 v1.toInt 0 false pg_none pg_none _ = _; first | (apply pg_unitF.not <;> first | assumption | omega) | (apply pg_unitF.par1 <;> first | assumption | omega) | (apply pg_unitF.par0 <;> first | assumption | omega) | (apply pg_unitF.deep <;> first | assumption | omega) | (apply pg_unitF.sm1 <;> first | assumption | omega) | (apply pg_unitF.sm2 <;> first | assumption | omega) | (apply pg_unitF.sum0 <;> first | assumption | omega), by rw [ht]; exact hP9, va_K.moved hW.alike hK9, hD9⟩)⟩, hS.F ht⟩) hS.2.2 dX3_readUnit_115
      · skip
        have fc42 : ra1.toInt = 40 := congrArg Int32.toInt c42
        refine lv_iload_n hx hb dX3_readUnit_24 rfl (lv_at hl 2 rfl) ?_
        refine lv_bipush (v := 6) hx hb dX3_readUnit_25 (by decide) ?_
        refine lv_icmp_lt (tgt := 38) hx hb dX3_readUnit_27 (by decide) (fun c => absurd c (by decide)) (fun _ => ?_)
        refine lv_aload_n hx hb dX3_readUnit_30 rfl (lv_at hl 1 rfl) ?_
        refine va_get (D := (dC, dI)) (ci := 3) (v := .ref h1) (C := RX3) (T := TX3) (N := 3) hx hb hts (fun _ h => List.mem_cons_of_mem _ (List.mem_append_left _ (List.mem_append_right _ h))) hown hK hP 0 rfl rfl 0 (by decide) (hts (.fieldLink RX3 19 "LeftArguments$LawReader" "tape" "LLeftArguments$Tape;") (List.mem_cons_of_mem _ (List.mem_append_left _ (List.mem_append_left _ (List.mem_of_getElem? (i := 0) rfl))))) (fun _ h9 => h9) rfl dX3_readUnit_31 ?_
        have hPc := hP.sub (ws' := (wd_09b0abee h1 h2 v1 x38 v3 v4)) [1] rfl
        have hDc := hD.sub (ws' := (wd_09b0abee h1 h2 v1 x38 v3 v4)) [1] (by decide) rfl
        have hKc := hK.sub (tys' := []) [] rfl
        have hFc := va_free (wc := (wd_09b0abee h1 h2 v1 x38 v3 v4)) hD hS hA [1] rfl
        refine va_calli (va_runV (As := []) (rest := []) ⟨hx, hb, hml, hown, hts⟩ (k_X10_wrongHere l dC dI h1 h2 v1 x38 v3 v4 ⟨i_v1a, i_v1b⟩ ⟨oa_x38, by first | omega | decide⟩ H.size) (cwV 0 hts g_X3_readUnit_1_4 rfl rfl rfl (by decide +kernel) ⟨Nat.le_of_ble_eq_true rfl, Nat.le_of_ble_eq_true rfl⟩) (pv_PV10 hPc hKc hDc (q0 := 0) rfl) rfl rfl hl.1 rfl (lv_room (Nat.le_of_ble_eq_true rfl)) dX3_readUnit_34 ⟨Nat.le_of_ble_eq_true rfl, Nat.le_of_ble_eq_true rfl⟩) hS (fun q _ h => hFc q h) hFc (fun ra78 u t H1 locs ht hvm hwra78 hB hz1 hk1 hS => ?_)
        try rw [hwra78] at hB
        obtain ⟨x79, oa_x79, ob_x79, pt0_ra78, pt1_ra78, pt2_ra78, hP1, hK1, hD1⟩ := hB
        rw [ht] at hP1
        obtain ⟨hP2, hD2⟩ := va_join (wr := (wd_6b0d8e05 h0 h1 h3 v0 h2 g0 f5 h3 g1 f6)) (w1 := (wd_09b0abee h1 h2 v1 x38 x79 v4)) hP hD [1] [0, 2, 3] rfl rfl (by decide) (by decide) hk1 hFc hP1 hD1
        clear hP hD hPc hDc hKc hFc hP1 hK1 hD1 hk1 hz1
        generalize H1 = H at hP2 hS ⊢
        have hP := hP2.sub (ws' := (wd_1ad0248d h0 h1 h3 v0 h1 h2 v1 x38 x79 v4 h2 g0 f5 h3 g1 f6)) [0, 3, 1, 2] rfl
        have hD := hD2.sub (ws' := (wd_1ad0248d h0 h1 h3 v0 h1 h2 v1 x38 x79 v4 h2 g0 f5 h3 g1 f6)) [0, 3, 1, 2] (by decide) rfl
        clear hP2 hD2
        obtain rfl : ra78 = (0 : Int32) := pv_cs (by decide) pt0_ra78 pt1_ra78
        subst hQ
        have hP9 := hP.sub (ws' := (wd_1ad0248d h0 h1 h3 v0 h1 h2 v1 x38 x79 v4 h2 g0 f5 h3 g1 f6)) [0, 1, 2, 3] rfl
        have hD9 := hD.sub (ws' := (wd_1ad0248d h0 h1 h3 v0 h1 h2 v1 x38 x79 v4 h2 g0 f5 h3 g1 f6)) [0, 1, 2, 3] (by decide) rfl
        have hK9 := hK.sub (tys' := []) [] rfl
        exact W.zret (v := 0) hx hb hr rfl (fun t ht hW => ⟨⟨0, 0, rfl, rfl, Or.inr (⟨v0, x38, x79, v4, f6, i_v0a, i_v0b, oa_x38, by first | omega | decide, oa_x79, ob_x79, by first | omega | decide, by first | omega | decide, by omega, by show pg_unitF f5 v1.toInt 0 false pg_none pg_none _ = _; first | (apply pg_unitF.not <;> first | assumption | omega) | (apply pg_unitF.par1 <;> first | assumption | omega) | (apply pg_unitF.par0 <;> first | assumption | omega) | (apply pg_unitF.deep <;> first | assumption | omega) | (apply pg_unitF.sm1 <;> first | assumption | omega) | (apply pg_unitF.sm2 <;> first | assumption | omega) | (apply pg_unitF.sum0 <;> first | assumption | omega), by rw [ht]; exact hP9, va_K.moved hW.alike hK9, hD9⟩)⟩, hS.F ht⟩) hS.2.2 dX3_readUnit_37
def q_X3_readTruth : List Cond := .code yX3_readTruth cX3_readTruth 4 (some .boolean) :: (([.code yX3_readUnit cX3_readUnit 5 (some .boolean), .fieldLink RX3 19 "LeftArguments$LawReader" "tape" "LLeftArguments$Tape;", .code yX10_next cX10_next 1 (some .int), .fieldLink RX10 19 "LeftArguments$Tape" "at" "I", .fieldLink RX10 15 "LeftArguments$Tape" "used" "I", .fieldLink RX10 9 "LeftArguments$Tape" "bytes" "[I", .initialized RX10, .instanceMethod yX10_next, .selects RX10 yX10_next yX10_next, .methodLink RX3 48 yX10_next, .code yX3_readSum cX3_readSum 4 (some .boolean), .code yX3_readTerm cX3_readTerm 4 (some .boolean), .code yX3_readAtom cX3_readAtom 4 (some .boolean), .code yX10_isDigit cX10_isDigit 1 (some .boolean), .static yX10_isDigit, .methodLink RX3 92 yX10_isDigit, .code yX10_wrongHere cX10_wrongHere 1 (some .boolean), .fieldLink RX10 22 "LeftArguments$Tape" "wrongAt" "I", .instanceMethod yX10_wrongHere, .selects RX10 yX10_wrongHere yX10_wrongHere, .methodLink RX3 83 yX10_wrongHere, .code yJ0_indexOf_0f7a4 cJ0_indexOf_0f7a4 2 (some .int), .code yJ0_indexOf_7cf53 cJ0_indexOf_7cf53 3 (some .int), .code yJ0_isLatin1_aae02 cJ0_isLatin1_aae02 1 (some .boolean), .fieldLink RJ0 38 "java/lang/String" "COMPACT_STRINGS" "Z", .fieldLink RJ0 15 "java/lang/String" "coder" "B", .initialized RJ0, .instanceMethod yJ0_isLatin1_aae02, .selects RJ0 yJ0_isLatin1_aae02 yJ0_isLatin1_aae02, .methodLink RJ0 492 yJ0_isLatin1_aae02, .fieldLink RJ0 9 "java/lang/String" "value" "[B", .code yJ0_length_8abf5 cJ0_length_8abf5 1 (some .int), .code yJ0_coder_7d493 cJ0_coder_7d493 1 (some .byte), .instanceMethod yJ0_coder_7d493, .selects RJ0 yJ0_coder_7d493 yJ0_coder_7d493, .methodLink RJ0 335 yJ0_coder_7d493, .instanceMethod yJ0_length_8abf5, .selects RJ0 yJ0_length_8abf5 yJ0_length_8abf5, .methodLink RJ0 505 yJ0_length_8abf5, .code yJ1_indexOf_4cfef cJ1_indexOf_4cfef 4 (some .int), .code yJ1_canEncode_9a6ad cJ1_canEncode_9a6ad 1 (some .boolean), .initialized RJ1, .static yJ1_canEncode_9a6ad, .methodLink RJ1 88 yJ1_canEncode_9a6ad, .methodLink RJ1 92 Lib.Math.max.name, .static Lib.Math.max.name, .initialized "java/lang/Math", .code Lib.Math.max.name Lib.Math.max.code 2 (some .int), .methodLink RJ1 38 Lib.Math.min.name, .static Lib.Math.min.name, .code Lib.Math.min.name Lib.Math.min.code 2 (some .int), .code yJ1_indexOfChar_4cfef cJ1_indexOfChar_4cfef 6 (some .int), .static yJ1_indexOfChar_4cfef, .methodLink RJ1 95 yJ1_indexOfChar_4cfef, .static yJ1_indexOf_4cfef, .methodLink RJ0 637 yJ1_indexOf_4cfef, .instanceMethod yJ0_indexOf_7cf53, .selects RJ0 yJ0_indexOf_7cf53 yJ0_indexOf_7cf53, .methodLink RJ0 633 yJ0_indexOf_7cf53, .instanceMethod yJ0_indexOf_0f7a4, .selects RJ0 yJ0_indexOf_0f7a4 yJ0_indexOf_0f7a4, .methodLink RX3 103 yJ0_indexOf_0f7a4, .code yX10_step cX10_step 1 none, .instanceMethod yX10_step, .selects RX10 yX10_step yX10_step, .methodLink RX3 77 yX10_step, .code yX3_write cX3_write 3 none, .fieldLink RX3 15 "LeftArguments$LawReader" "used" "I", .fieldLink RX3 11 "LeftArguments$LawReader" "code" "[I", .initialized RX3, .instanceMethod yX3_write, .selects RX3 yX3_write yX3_write, .methodLink RX3 66 yX3_write, .code yX10_takeNumber cX10_takeNumber 3 (some .boolean), .methodLink RX10 37 yX10_next, .methodLink RX10 45 yX10_isDigit, .methodLink RX10 41 yX10_wrongHere, .fieldLink RX10 25 "LeftArguments$Tape" "number" "I", .code yX10_sign cX10_sign 1 (some .int), .instanceMethod yX10_sign, .selects RX10 yX10_sign yX10_sign, .methodLink RX10 49 yX10_sign, .instanceMethod yX10_takeNumber, .selects RX10 yX10_takeNumber yX10_takeNumber, .methodLink RX3 95 yX10_takeNumber, .code yX10_number cX10_number 1 (some .int), .instanceMethod yX10_number, .selects RX10 yX10_number yX10_number, .methodLink RX3 98 yX10_number, .instanceMethod yX3_readAtom, .selects RX3 yX3_readAtom yX3_readAtom, .methodLink RX3 89 yX3_readAtom, .instanceMethod yX3_readTerm, .selects RX3 yX3_readTerm yX3_readTerm, .methodLink RX3 86 yX3_readTerm, .instanceMethod yX3_readSum, .selects RX3 yX3_readSum yX3_readSum, .methodLink RX3 59 yX3_readSum, .code yX3_comparing cX3_comparing 1 (some .int), .static yX3_comparing, .methodLink RX3 62 yX3_comparing, .instanceMethod yX3_readUnit, .selects RX3 yX3_readUnit yX3_readUnit, .methodLink RX3 80 yX3_readUnit] : List Cond) ++ wsX30 ++ wsX100)
set_option maxRecDepth 20000 in
theorem g_X3_readTruth_0 : GoodIn q_X3_readTruth (wsV RX3 80 RX3 yX3_readUnit q_X3_readUnit_1) := goodIn_app (goodIn_r _ [104, 102, 103, 70] rfl (by decide +kernel)) (goodIn_ca (goodIn_ca (goodIn_r (.code yX3_readUnit cX3_readUnit 5 (some .boolean) :: [.fieldLink RX3 19 "LeftArguments$LawReader" "tape" "LLeftArguments$Tape;", .code yX10_next cX10_next 1 (some .int), .fieldLink RX10 19 "LeftArguments$Tape" "at" "I", .fieldLink RX10 15 "LeftArguments$Tape" "used" "I", .fieldLink RX10 9 "LeftArguments$Tape" "bytes" "[I", .initialized RX10, .instanceMethod yX10_next, .selects RX10 yX10_next yX10_next, .methodLink RX3 48 yX10_next, .code yX3_readSum cX3_readSum 4 (some .boolean), .code yX3_readTerm cX3_readTerm 4 (some .boolean), .code yX3_readAtom cX3_readAtom 4 (some .boolean), .code yX10_isDigit cX10_isDigit 1 (some .boolean), .static yX10_isDigit, .methodLink RX3 92 yX10_isDigit, .code yX10_wrongHere cX10_wrongHere 1 (some .boolean), .fieldLink RX10 22 "LeftArguments$Tape" "wrongAt" "I", .instanceMethod yX10_wrongHere, .selects RX10 yX10_wrongHere yX10_wrongHere, .methodLink RX3 83 yX10_wrongHere, .code yJ0_indexOf_0f7a4 cJ0_indexOf_0f7a4 2 (some .int), .code yJ0_indexOf_7cf53 cJ0_indexOf_7cf53 3 (some .int), .code yJ0_isLatin1_aae02 cJ0_isLatin1_aae02 1 (some .boolean), .fieldLink RJ0 38 "java/lang/String" "COMPACT_STRINGS" "Z", .fieldLink RJ0 15 "java/lang/String" "coder" "B", .initialized RJ0, .instanceMethod yJ0_isLatin1_aae02, .selects RJ0 yJ0_isLatin1_aae02 yJ0_isLatin1_aae02, .methodLink RJ0 492 yJ0_isLatin1_aae02, .fieldLink RJ0 9 "java/lang/String" "value" "[B", .code yJ0_length_8abf5 cJ0_length_8abf5 1 (some .int), .code yJ0_coder_7d493 cJ0_coder_7d493 1 (some .byte), .instanceMethod yJ0_coder_7d493, .selects RJ0 yJ0_coder_7d493 yJ0_coder_7d493, .methodLink RJ0 335 yJ0_coder_7d493, .instanceMethod yJ0_length_8abf5, .selects RJ0 yJ0_length_8abf5 yJ0_length_8abf5, .methodLink RJ0 505 yJ0_length_8abf5, .code yJ1_indexOf_4cfef cJ1_indexOf_4cfef 4 (some .int), .code yJ1_canEncode_9a6ad cJ1_canEncode_9a6ad 1 (some .boolean), .initialized RJ1, .static yJ1_canEncode_9a6ad, .methodLink RJ1 88 yJ1_canEncode_9a6ad, .methodLink RJ1 92 Lib.Math.max.name, .static Lib.Math.max.name, .initialized "java/lang/Math", .code Lib.Math.max.name Lib.Math.max.code 2 (some .int), .methodLink RJ1 38 Lib.Math.min.name, .static Lib.Math.min.name, .code Lib.Math.min.name Lib.Math.min.code 2 (some .int), .code yJ1_indexOfChar_4cfef cJ1_indexOfChar_4cfef 6 (some .int), .static yJ1_indexOfChar_4cfef, .methodLink RJ1 95 yJ1_indexOfChar_4cfef, .static yJ1_indexOf_4cfef, .methodLink RJ0 637 yJ1_indexOf_4cfef, .instanceMethod yJ0_indexOf_7cf53, .selects RJ0 yJ0_indexOf_7cf53 yJ0_indexOf_7cf53, .methodLink RJ0 633 yJ0_indexOf_7cf53, .instanceMethod yJ0_indexOf_0f7a4, .selects RJ0 yJ0_indexOf_0f7a4 yJ0_indexOf_0f7a4, .methodLink RX3 103 yJ0_indexOf_0f7a4, .code yX10_step cX10_step 1 none, .instanceMethod yX10_step, .selects RX10 yX10_step yX10_step, .methodLink RX3 77 yX10_step, .code yX3_write cX3_write 3 none, .fieldLink RX3 15 "LeftArguments$LawReader" "used" "I", .fieldLink RX3 11 "LeftArguments$LawReader" "code" "[I", .initialized RX3, .instanceMethod yX3_write, .selects RX3 yX3_write yX3_write, .methodLink RX3 66 yX3_write, .code yX10_takeNumber cX10_takeNumber 3 (some .boolean), .methodLink RX10 37 yX10_next, .methodLink RX10 45 yX10_isDigit, .methodLink RX10 41 yX10_wrongHere, .fieldLink RX10 25 "LeftArguments$Tape" "number" "I", .code yX10_sign cX10_sign 1 (some .int), .instanceMethod yX10_sign, .selects RX10 yX10_sign yX10_sign, .methodLink RX10 49 yX10_sign, .instanceMethod yX10_takeNumber, .selects RX10 yX10_takeNumber yX10_takeNumber, .methodLink RX3 95 yX10_takeNumber, .code yX10_number cX10_number 1 (some .int), .instanceMethod yX10_number, .selects RX10 yX10_number yX10_number, .methodLink RX3 98 yX10_number, .instanceMethod yX3_readAtom, .selects RX3 yX3_readAtom yX3_readAtom, .methodLink RX3 89 yX3_readAtom, .instanceMethod yX3_readTerm, .selects RX3 yX3_readTerm yX3_readTerm, .methodLink RX3 86 yX3_readTerm, .instanceMethod yX3_readSum, .selects RX3 yX3_readSum yX3_readSum, .methodLink RX3 59 yX3_readSum, .code yX3_comparing cX3_comparing 1 (some .int), .static yX3_comparing, .methodLink RX3 62 yX3_comparing]) [1, 2, 3, 4, 5, 6, 7, 8, 9, 10, 11, 12, 13, 14, 15, 16, 17, 18, 19, 20, 21, 22, 23, 24, 25, 26, 27, 28, 29, 30, 31, 32, 33, 34, 35, 36, 37, 38, 39, 40, 41, 42, 43, 44, 45, 46, 47, 48, 49, 50, 51, 52, 53, 54, 55, 56, 57, 58, 59, 60, 61, 62, 63, 64, 65, 66, 67, 68, 69, 70, 71, 72, 73, 74, 75, 76, 77, 78, 79, 80, 81, 82, 83, 84, 85, 86, 87, 88, 89, 90, 91, 92, 93, 94, 95, 96, 97, 98, 99, 100, 101] rfl (by decide +kernel)) (goodIn_sub (fun _ h => List.mem_cons_of_mem _ (List.mem_append_left _ (List.mem_append_right _ h))) gwX3)) (goodIn_sub (fun _ h => List.mem_cons_of_mem _ (List.mem_append_right _ h)) gwX10))
set_option maxRecDepth 20000 in
theorem g_X3_readTruth_1 : GoodIn q_X3_readTruth (wsV RX3 48 RX10 yX10_next q_X10_next) := goodIn_app (goodIn_r _ [10, 8, 9, 7] rfl (by decide +kernel)) (goodIn_ca (goodIn_r (.code yX10_next cX10_next 1 (some .int) :: [.fieldLink RX10 19 "LeftArguments$Tape" "at" "I", .fieldLink RX10 15 "LeftArguments$Tape" "used" "I", .fieldLink RX10 9 "LeftArguments$Tape" "bytes" "[I"]) [3, 4, 5, 6] rfl (by decide +kernel)) (goodIn_sub (fun _ h => List.mem_cons_of_mem _ (List.mem_append_right _ h)) gwX10))
set_option maxRecDepth 20000 in
theorem g_X3_readTruth_2 : GoodIn q_X3_readTruth (wsV RX3 77 RX10 yX10_step q_X10_step) := goodIn_app (goodIn_r _ [66, 64, 65, 7] rfl (by decide +kernel)) (goodIn_ca (goodIn_r (.code yX10_step cX10_step 1 none :: [.fieldLink RX10 19 "LeftArguments$Tape" "at" "I"]) [63, 4] rfl (by decide +kernel)) (goodIn_sub (fun _ h => List.mem_cons_of_mem _ (List.mem_append_right _ h)) gwX10))
set_option maxRecDepth 20000 in
theorem g_X3_readTruth_4 : GoodIn q_X3_readTruth (wsV RX3 66 RX3 yX3_write q_X3_write) := goodIn_app (goodIn_r _ [73, 71, 72, 70] rfl (by decide +kernel)) (goodIn_ca (goodIn_r (.code yX3_write cX3_write 3 none :: [.fieldLink RX3 15 "LeftArguments$LawReader" "used" "I", .fieldLink RX3 11 "LeftArguments$LawReader" "code" "[I"]) [67, 68, 69] rfl (by decide +kernel)) (goodIn_sub (fun _ h => List.mem_cons_of_mem _ (List.mem_append_left _ (List.mem_append_right _ h))) gwX3))
set_option maxHeartbeats 4000000 in
set_option maxRecDepth 100000 in
theorem k_X3_readTruth (l : Launch) (dC : Nat → ClassId) (dI : Nat → Nat → Nat) (adK : Nat → Nat) (adV : Nat → Nat) (h0 : Nat) (h1 : Nat) (h2 : Nat) (h3 : Nat) (v0 : Int32) (v1 : Int32) (v2 : Int32) (v3 : Int32) (v4 : Int32) (g0 : ClassId) (f5 : Nat → Int32) (g1 : ClassId) (f6 : Nat → Int32) (i_v0 : 0 ≤ v0.toInt ∧ v0.toInt ≤ 256) (i_v1 : 0 ≤ v1.toInt ∧ v1.toInt ≤ 240) (i_v2 : 0 ≤ v2.toInt ∧ v2.toInt ≤ 240) (ia_f5 : (∀ j, 0 ≤ (f5 j).toInt ∧ (f5 j).toInt ≤ 255)) (sz : Nat) : Met l yX3_readTruth q_X3_readTruth ({ frames := 8, cells := 0, slots := 0, locals := 184 }) (va_Pc [.ref h0, .int 6, .int 0] (fun U => U.heap.size = sz ∧ va_P (dC, dI) vwCl (wd_1ad0248d h0 h1 h3 v0 h1 h2 v1 v2 v3 v4 h2 g0 f5 h3 g1 f6) U.heap ∧ va_K (dC, dI) vwCl [(g0, .int), (g1, .int)] U ∧ va_D (fun _ => True) (wd_1ad0248d h0 h1 h3 v0 h1 h2 v1 v2 v3 v4 h2 g0 f5 h3 g1 f6) ∧ vk_R RX3 101 "zaondt" (adK 2) U ∧ va_Z "java/lang/String" "COMPACT_STRINGS" "Z" (.int 1) (va_A (wd_1ad0248d h0 h1 h3 v0 h1 h2 v1 v2 v3 v4 h2 g0 f5 h3 g1 f6) sz) U U.heap ∧ vk_S 3 pv_len3 pv_byt3 adK adV (va_A (wd_1ad0248d h0 h1 h3 v0 h1 h2 v1 v2 v3 v4 h2 g0 f5 h3 g1 f6) sz) U U.heap)) (va_Qi (fun (r : Int32) (r9 : Int32) => r9 = r) (fun (r : Int32) (t : State) => (∃ (o_h0_2 : Int32) (o_h1_2 : Int32) (o_h1_4 : Int32) (o_h3 : Nat → Int32), 0 ≤ o_h0_2.toInt ∧ o_h0_2.toInt ≤ 256 ∧ 0 ≤ o_h1_2.toInt ∧ o_h1_2.toInt ≤ 240 ∧ (1 ≤ r.toInt) ∧ (r.toInt ≤ 1) ∧ (v2.toInt ≤ o_h1_2.toInt) ∧ (pg_tru f5 v1.toInt (pg_unit f5 v1.toInt 0) v2.toInt = (true, o_h1_2.toInt)) ∧ va_P (dC, dI) vwCl (wd_1ad0248d h0 h1 h3 o_h0_2 h1 h2 v1 o_h1_2 v3 o_h1_4 h2 g0 f5 h3 g1 o_h3) t.heap ∧ va_K (dC, dI) vwCl [] t ∧ va_D (va_A (wd_1ad0248d h0 h1 h3 v0 h1 h2 v1 v2 v3 v4 h2 g0 f5 h3 g1 f6) sz) (wd_1ad0248d h0 h1 h3 o_h0_2 h1 h2 v1 o_h1_2 v3 o_h1_4 h2 g0 f5 h3 g1 o_h3)) ∨ (∃ (o_h0_2 : Int32) (o_h1_2 : Int32) (o_h1_3 : Int32) (o_h1_4 : Int32) (o_h3 : Nat → Int32), 0 ≤ o_h0_2.toInt ∧ o_h0_2.toInt ≤ 256 ∧ 0 ≤ o_h1_2.toInt ∧ o_h1_2.toInt ≤ 240 ∧ 0 ≤ o_h1_3.toInt ∧ o_h1_3.toInt ≤ 240 ∧ (0 ≤ r.toInt) ∧ (r.toInt ≤ 0) ∧ (v2.toInt ≤ o_h1_2.toInt) ∧ (pg_tru f5 v1.toInt (pg_unit f5 v1.toInt 0) v2.toInt = (false, o_h1_3.toInt)) ∧ va_P (dC, dI) vwCl (wd_1ad0248d h0 h1 h3 o_h0_2 h1 h2 v1 o_h1_2 o_h1_3 o_h1_4 h2 g0 f5 h3 g1 o_h3) t.heap ∧ va_K (dC, dI) vwCl [] t ∧ va_D (va_A (wd_1ad0248d h0 h1 h3 v0 h1 h2 v1 v2 v3 v4 h2 g0 f5 h3 g1 f6) sz) (wd_1ad0248d h0 h1 h3 o_h0_2 h1 h2 v1 o_h1_2 o_h1_3 o_h1_4 h2 g0 f5 h3 g1 o_h3))) (va_A (wd_1ad0248d h0 h1 h3 v0 h1 h2 v1 v2 v3 v4 h2 g0 f5 h3 g1 f6) sz)) 0 0 (va_A (wd_1ad0248d h0 h1 h3 v0 h1 h2 v1 v2 v3 v4 h2 g0 f5 h3 g1 f6) sz) := by
  refine Met.ofW (cc := cX3_readTruth) (maxL := 4) (ret := (some .boolean)) (by decide) rfl ?_
  intro p e s m args below meth c s₁ B hml hv
  obtain ⟨i_v0a, i_v0b⟩ := i_v0
  obtain ⟨i_v1a, i_v1b⟩ := i_v1
  obtain ⟨i_v2a, i_v2b⟩ := i_v2
  obtain ⟨rfl, hsz, hP, hK, hD0, h_vr_2, h_st_CS, h_st_S⟩ := hv
  have hx := B.exec
  have hb := B.bytes
  have hr := B.returns
  have hts := atoms_spec (ws := q_X3_readTruth) B.pre
  have hown : s.vm.findClass RX3 = some m.cls := findClass_of_methodNamed B.named
  have hlocks := B.notSynchronized
  subst hsz
  have hD := hD0.self (sz := s.heap.size)
  generalize hAe : va_A (wd_1ad0248d h0 h1 h3 v0 h1 h2 v1 v2 v3 v4 h2 g0 f5 h3 g1 f6) s.heap.size = A at hD h_st_CS h_st_S ⊢
  have hA : ∀ q : Nat, s.heap.size ≤ q → A q := fun q h => by rw [← hAe]; exact Or.inr h
  have hS : va_S A s.heap s.heap [] := va_S.rf
  generalize hQ : (MQ below _ _ s 0 0 A) = Q
  have hl := lv_entry ([.ref h0, .int 6, .int 0]) (n := 4) (Nat.le_of_ble_eq_true rfl)
  rw [lg_entry_eq]
  generalize (lg_sl ([.ref h0, .int 6, .int 0]) ++ List.replicate (4 - (lg_sl ([.ref h0, .int 6, .int 0])).length) Slot.unset).toArray = ls at hl ⊢
  have hl : lv_has ls 4 [(0, .ref h0), (1, .int 6), (2, .int 0)] := hl
  obtain ⟨H, hH⟩ : ∃ H : Heap, H = s.heap := ⟨_, rfl⟩
  obtain ⟨locs, hlocs⟩ : ∃ y : List Loc, y = [] := ⟨_, rfl⟩
  have hS : va_S A s.heap H locs := by rw [hH, hlocs]; exact va_S.rf
  have hP : va_P (dC, dI) vwCl (wd_1ad0248d h0 h1 h3 v0 h1 h2 v1 v2 v3 v4 h2 g0 f5 h3 g1 f6) H := by rw [hH]; exact hP
  rw [← hH, ← hlocs]
  refine lv_aload_n hx hb dX3_readTruth_0 rfl (lv_at hl 0 rfl) ?_
  refine lv_iload_n hx hb dX3_readTruth_1 rfl (lv_at hl 1 rfl) ?_
  refine lv_iload_n hx hb dX3_readTruth_2 rfl (lv_at hl 2 rfl) ?_
  have hPc := hP.sub (ws' := (wd_1ad0248d h0 h1 h3 v0 h1 h2 v1 v2 v3 v4 h2 g0 f5 h3 g1 f6)) [0, 1, 2, 3] rfl
  have hDc := hD.sub (ws' := (wd_1ad0248d h0 h1 h3 v0 h1 h2 v1 v2 v3 v4 h2 g0 f5 h3 g1 f6)) [0, 1, 2, 3] (by decide) rfl
  have hKc := hK.sub (tys' := [(g0, .int), (g1, .int)]) [0, 1] rfl
  have hFc := va_free (wc := (wd_1ad0248d h0 h1 h3 v0 h1 h2 v1 v2 v3 v4 h2 g0 f5 h3 g1 f6)) hD hS hA [0, 1, 2, 3] rfl
  refine va_calli (va_runV (As := [.int 6, .int 0]) (rest := []) ⟨hx, hb, hml, hown, hts⟩ (k_X3_readUnit_1 l dC dI adK adV h0 h1 h2 h3 v0 v1 v2 v3 v4 g0 f5 g1 f6 ⟨i_v0a, i_v0b⟩ ⟨i_v1a, i_v1b⟩ ⟨i_v2a, i_v2b⟩ ia_f5 H.size) (cwV 2 hts g_X3_readTruth_0 rfl rfl rfl (by decide +kernel) ⟨Nat.le_of_ble_eq_true rfl, Nat.le_of_ble_eq_true rfl⟩) ⟨fun a U g mk q => by obtain ⟨q0, q1, qP, qK, qD, n0, n1, n2⟩ := q; exact ⟨q0, q1, qP, va_K.moved (u := U) (U := U.calling g mk a) (Vm.Alike.refl U.vm) qK, qD, vk_R.same rfl n0, va_Z.moved (Vm.Alike.refl _) n1, vk_S.moved (Vm.Alike.refl _) n2⟩, pv_rc3 hKc hPc (q0 := 0) rfl, fun U hU hW => ⟨rfl, by rw [hU], by rw [hU]; exact hPc, va_K.moved hW.alike hKc, hDc.weaken (fun _ _ _ _ => trivial), vk_R.warm hW h_vr_2, (by rw [hU]; exact (va_Z.moved hW.alike (va_Z.kept h_st_CS hS.2.1)).narrow hFc), (by rw [hU]; exact (vk_S.moved hW.alike (vk_S.kept h_st_S hS.2.1)).narrow hFc)⟩⟩ rfl rfl hl.1 rfl (lv_room (Nat.le_of_ble_eq_true rfl)) dX3_readTruth_3 ⟨Nat.le_of_ble_eq_true rfl, Nat.le_of_ble_eq_true rfl⟩) hS (fun q _ h => hFc q h) hFc (fun ra1 u t H1 locs ht hvm hwra1 hB hz1 hk1 hS => ?_)
  try rw [hwra1] at hB
  rcases hB with hB | hB
  · skip
    obtain ⟨x2, x3, x4, fn5, oa_x2, ob_x2, oa_x3, ob_x3, pt0_ra1, pt1_ra1, pt2_ra1, pt3_ra1, hP1, hK1, hD1⟩ := hB
    rw [ht] at hP1
    obtain ⟨hP2, hD2⟩ := va_join (wr := []) (w1 := (wd_1ad0248d h0 h1 h3 x2 h1 h2 v1 x3 v3 x4 h2 g0 f5 h3 g1 fn5)) hP hD [0, 1, 2, 3] [] rfl rfl (by decide) (by decide) hk1 hFc hP1 hD1
    clear hP hD hPc hDc hKc hFc hP1 hK1 hD1 hk1 hz1
    generalize H1 = H at hP2 hS ⊢
    have hP : va_P (dC, dI) vwCl (wd_1ad0248d h0 h1 h3 x2 h1 h2 v1 x3 v3 x4 h2 g0 f5 h3 g1 fn5) H := hP2
    have hD : va_D A (wd_1ad0248d h0 h1 h3 x2 h1 h2 v1 x3 v3 x4 h2 g0 f5 h3 g1 fn5) := hD2
    clear hP2 hD2
    obtain rfl : ra1 = (1 : Int32) := pv_cs (by decide) pt0_ra1 pt1_ra1
    refine lv_if_ne (tgt := 11) hx hb dX3_readTruth_6 (by decide) (fun _ => ?_) (fun c => absurd c (by decide))
    refine lv_iconst (v := 0) hx hb dX3_readTruth_11 (by decide) ?_
    refine lv_istore_n (lv' := [(3, .int 0), (0, .ref h0), (1, .int 6), (2, .int 0)]) hx hb dX3_readTruth_12 rfl hl (by decide) rfl (fun ls hl => ?_)
    have hL81 : ∀ (n9 : Nat), ∀ (x71 : Int32) (x72 : Int32) (x73 : Int32) (x74 : Int32) (fn75 : Nat → Int32) (H : Heap) (locs : List Loc) (ls : Array Slot), 0 ≤ x71.toInt → x71.toInt ≤ 240 → 0 ≤ x72.toInt → x72.toInt ≤ 256 → 0 ≤ x73.toInt → x73.toInt ≤ 240 → (pg_L f5 v1.toInt 38 38 (pg_unit f5 v1.toInt 0) x73.toInt (pg_tru f5 v1.toInt (pg_unit f5 v1.toInt 0) v2.toInt)) → (x71.toInt ≤ x73.toInt) → (v2.toInt ≤ x73.toInt) → (240 - x71.toInt).toNat < n9 → va_P (dC, dI) vwCl (wd_1ad0248d h0 h1 h3 x72 h1 h2 v1 x73 v3 x74 h2 g0 f5 h3 g1 fn75) H → va_D A (wd_1ad0248d h0 h1 h3 x72 h1 h2 v1 x73 v3 x74 h2 g0 f5 h3 g1 fn75) → va_S A s.heap H locs → lv_has ls 4 [(3, .int x71), (0, .ref h0), (1, .int 6), (2, .int 0)] → W p l e ({ frames := 8, cells := 0, slots := 0, locals := 184 }) s m ([.ref h0, .int 6, .int 0] : List Value).toArray below meth c H locs 0 0 Q (F0 m 13 ls []) := by
      intro n9
      induction n9 with
      | zero => intro x71 x72 x73 x74 fn75 H locs ls qa_x71 qb_x71 qa_x72 qb_x72 qa_x73 qb_x73 gh0_hL81 gh1_hL81 gh2_hL81 hm9 hP hD hS hl; exact absurd hm9 (Nat.not_lt_zero _)
      | succ n9 ih_hL81 =>
        intro x71 x72 x73 x74 fn75 H locs ls qa_x71 qb_x71 qa_x72 qb_x72 qa_x73 qb_x73 gh0_hL81 gh1_hL81 gh2_hL81 hm9 hP hD hS hl
        refine lv_iload_n hx hb dX3_readTruth_13 rfl (lv_at hl 0 rfl) ?_
        refine lv_sipush (v := 240) hx hb dX3_readTruth_14 (by decide) ?_
        refine lv_icmp_ge (tgt := 63) hx hb dX3_readTruth_17 (by decide) (fun c82 => ?_) (fun c82 => ?_)
        · skip
          have fc82 : 240 ≤ x71.toInt := Int32.le_iff_toInt_le.mp c82
          refine lv_iconst (v := 1) hx hb dX3_readTruth_63 (by decide) ?_
          subst hQ
          have hP9 := hP.sub (ws' := (wd_1ad0248d h0 h1 h3 x72 h1 h2 v1 x73 v3 x74 h2 g0 f5 h3 g1 fn75)) [0, 1, 2, 3] rfl
          have hD9 := hD.sub (ws' := (wd_1ad0248d h0 h1 h3 x72 h1 h2 v1 x73 v3 x74 h2 g0 f5 h3 g1 fn75)) [0, 1, 2, 3] (by decide) rfl
          have hK9 := hK.sub (tys' := []) [] rfl
          exact W.zret (v := 1) hx hb hr rfl (fun t ht hW => ⟨⟨1, 1, rfl, rfl, Or.inl ⟨x72, x73, x74, fn75, qa_x72, qb_x72, qa_x73, qb_x73, by first | omega | decide, by first | omega | decide, by omega, by first | assumption | (apply pg_L.stop <;> first | assumption | omega) | exact pg_L.stop (by assumption) (pg_s.here (by rw [pg_ch.off (by omega)]; decide)) (by rw [pg_ch.off (by omega)]; decide), by rw [ht]; exact hP9, va_K.moved hW.alike hK9, hD9⟩⟩, hS.F ht⟩) hS.2.2 dX3_readTruth_64
        · skip
          have fc82 : ¬ (240 ≤ x71.toInt) := fun h9 => c82 (Int32.le_iff_toInt_le.mpr h9)
          refine lv_aload_n hx hb dX3_readTruth_20 rfl (lv_at hl 1 rfl) ?_
          refine va_get (D := (dC, dI)) (ci := 3) (v := .ref h1) (C := RX3) (T := TX3) (N := 3) hx hb hts (fun _ h => List.mem_cons_of_mem _ (List.mem_append_left _ (List.mem_append_right _ h))) hown hK hP 0 rfl rfl 0 (by decide) (hts (.fieldLink RX3 19 "LeftArguments$LawReader" "tape" "LLeftArguments$Tape;") (List.mem_cons_of_mem _ (List.mem_append_left _ (List.mem_append_left _ (List.mem_of_getElem? (i := 1) rfl))))) (fun _ h9 => h9) rfl dX3_readTruth_21 ?_
          have hPc := hP.sub (ws' := (wd_82cdd16b h1 h2 v1 x73 v3 x74 h2 g0 f5)) [1, 2] rfl
          have hDc := hD.sub (ws' := (wd_82cdd16b h1 h2 v1 x73 v3 x74 h2 g0 f5)) [1, 2] (by decide) rfl
          have hKc := hK.sub (tys' := [(g0, .int)]) [0] rfl
          have hFc := va_free (wc := (wd_82cdd16b h1 h2 v1 x73 v3 x74 h2 g0 f5)) hD hS hA [1, 2] rfl
          refine va_calli (va_runV (As := []) (rest := []) ⟨hx, hb, hml, hown, hts⟩ (k_X10_next l dC dI h1 h2 v1 x73 v3 x74 g0 f5 ⟨i_v1a, i_v1b⟩ ⟨qa_x73, qb_x73⟩ ia_f5 H.size) (cwV 0 hts g_X3_readTruth_1 rfl rfl rfl (by decide +kernel) ⟨Nat.le_of_ble_eq_true rfl, Nat.le_of_ble_eq_true rfl⟩) (pv_PV10 hPc hKc hDc (q0 := 0) rfl) rfl rfl hl.1 rfl (lv_room (Nat.le_of_ble_eq_true rfl)) dX3_readTruth_24 ⟨Nat.le_of_ble_eq_true rfl, Nat.le_of_ble_eq_true rfl⟩) hS (fun q _ h => hFc q h) hFc (fun ra83 u t H1 locs ht hvm hwra83 hB hz1 hk1 hS => ?_)
          try rw [hwra83] at hB
          rcases hB with hB | hB
          · skip
            obtain ⟨x84, oa_x84, ob_x84, pt0_ra83, pt1_ra83, pt2_ra83, pt3_ra83, pt4_ra83, pt5_ra83, pt6_ra83, hP1, hK1, hD1⟩ := hB
            rw [ht] at hP1
            obtain ⟨hP2, hD2⟩ := va_join (wr := (wd_b958b9da h0 h1 h3 x72 h3 g1 fn75)) (w1 := (wd_82cdd16b h1 h2 v1 x84 v3 x74 h2 g0 f5)) hP hD [1, 2] [0, 3] rfl rfl (by decide) (by decide) hk1 hFc hP1 hD1
            clear hP hD hPc hDc hKc hFc hP1 hK1 hD1 hk1 hz1
            generalize H1 = H at hP2 hS ⊢
            have hP := hP2.sub (ws' := (wd_1ad0248d h0 h1 h3 x72 h1 h2 v1 x84 v3 x74 h2 g0 f5 h3 g1 fn75)) [0, 2, 3, 1] rfl
            have hD := hD2.sub (ws' := (wd_1ad0248d h0 h1 h3 x72 h1 h2 v1 x84 v3 x74 h2 g0 f5 h3 g1 fn75)) [0, 2, 3, 1] (by decide) rfl
            clear hP2 hD2
            obtain rfl : ra83 = ((-1) : Int32) := pv_cs (by decide) pt0_ra83 pt1_ra83
            refine lv_bipush (v := 38) hx hb dX3_readTruth_27 (by decide) ?_
            refine lv_icmp_ne (tgt := 63) hx hb dX3_readTruth_29 (by decide) (fun _ => ?_) (fun c => absurd c (by decide))
            refine lv_iconst (v := 1) hx hb dX3_readTruth_63 (by decide) ?_
            subst hQ
            have hP9 := hP.sub (ws' := (wd_1ad0248d h0 h1 h3 x72 h1 h2 v1 x84 v3 x74 h2 g0 f5 h3 g1 fn75)) [0, 1, 2, 3] rfl
            have hD9 := hD.sub (ws' := (wd_1ad0248d h0 h1 h3 x72 h1 h2 v1 x84 v3 x74 h2 g0 f5 h3 g1 fn75)) [0, 1, 2, 3] (by decide) rfl
            have hK9 := hK.sub (tys' := []) [] rfl
            exact W.zret (v := 1) hx hb hr rfl (fun t ht hW => ⟨⟨1, 1, rfl, rfl, Or.inl ⟨x72, x84, x74, fn75, qa_x72, qb_x72, oa_x84, ob_x84, by first | omega | decide, by first | omega | decide, by omega, by first | assumption | (apply pg_L.stop <;> first | assumption | omega) | exact pg_L.stop (by assumption) (pg_s.here (by rw [pg_ch.off (by omega)]; decide)) (by rw [pg_ch.off (by omega)]; decide), by rw [ht]; exact hP9, va_K.moved hW.alike hK9, hD9⟩⟩, hS.F ht⟩) hS.2.2 dX3_readTruth_64
          · skip
            obtain ⟨x85, oa_x85, ob_x85, pt0_ra83, pt1_ra83, pt2_ra83, pt3_ra83, pt4_ra83, pt5_ra83, pt6_ra83, hP1, hK1, hD1⟩ := hB
            rw [ht] at hP1
            obtain ⟨hP2, hD2⟩ := va_join (wr := (wd_b958b9da h0 h1 h3 x72 h3 g1 fn75)) (w1 := (wd_82cdd16b h1 h2 v1 x85 v3 x74 h2 g0 f5)) hP hD [1, 2] [0, 3] rfl rfl (by decide) (by decide) hk1 hFc hP1 hD1
            clear hP hD hPc hDc hKc hFc hP1 hK1 hD1 hk1 hz1
            generalize H1 = H at hP2 hS ⊢
            have hP := hP2.sub (ws' := (wd_1ad0248d h0 h1 h3 x72 h1 h2 v1 x85 v3 x74 h2 g0 f5 h3 g1 fn75)) [0, 2, 3, 1] rfl
            have hD := hD2.sub (ws' := (wd_1ad0248d h0 h1 h3 x72 h1 h2 v1 x85 v3 x74 h2 g0 f5 h3 g1 fn75)) [0, 2, 3, 1] (by decide) rfl
            clear hP2 hD2
            refine lv_bipush (v := 38) hx hb dX3_readTruth_27 (by decide) ?_
            refine lv_icmp_ne (tgt := 63) hx hb dX3_readTruth_29 (by decide) (fun c86 => ?_) (fun c86 => ?_)
            · skip
              have fc86 : ¬ (ra83.toInt = 38) := fun h9 => c86 (Int32.toInt_inj.mp h9)
              refine lv_iconst (v := 1) hx hb dX3_readTruth_63 (by decide) ?_
              subst hQ
              have hP9 := hP.sub (ws' := (wd_1ad0248d h0 h1 h3 x72 h1 h2 v1 x85 v3 x74 h2 g0 f5 h3 g1 fn75)) [0, 1, 2, 3] rfl
              have hD9 := hD.sub (ws' := (wd_1ad0248d h0 h1 h3 x72 h1 h2 v1 x85 v3 x74 h2 g0 f5 h3 g1 fn75)) [0, 1, 2, 3] (by decide) rfl
              have hK9 := hK.sub (tys' := []) [] rfl
              exact W.zret (v := 1) hx hb hr rfl (fun t ht hW => ⟨⟨1, 1, rfl, rfl, Or.inl ⟨x72, x85, x74, fn75, qa_x72, qb_x72, oa_x85, by first | omega | decide, by first | omega | decide, by first | omega | decide, by omega, by first | assumption | (apply pg_L.stop <;> first | assumption | omega) | exact pg_L.stop (by assumption) (pg_s.here (by rw [pg_ch.off (by omega)]; decide)) (by rw [pg_ch.off (by omega)]; decide), by rw [ht]; exact hP9, va_K.moved hW.alike hK9, hD9⟩⟩, hS.F ht⟩) hS.2.2 dX3_readTruth_64
            · skip
              have fc86 : ra83.toInt = 38 := congrArg Int32.toInt c86
              refine lv_aload_n hx hb dX3_readTruth_32 rfl (lv_at hl 1 rfl) ?_
              refine va_get (D := (dC, dI)) (ci := 3) (v := .ref h1) (C := RX3) (T := TX3) (N := 3) hx hb hts (fun _ h => List.mem_cons_of_mem _ (List.mem_append_left _ (List.mem_append_right _ h))) hown hK hP 0 rfl rfl 0 (by decide) (hts (.fieldLink RX3 19 "LeftArguments$LawReader" "tape" "LLeftArguments$Tape;") (List.mem_cons_of_mem _ (List.mem_append_left _ (List.mem_append_left _ (List.mem_of_getElem? (i := 1) rfl))))) (fun _ h9 => h9) rfl dX3_readTruth_33 ?_
              have hPc := hP.sub (ws' := (wd_09b0abee h1 h2 v1 x85 v3 x74)) [1] rfl
              have hDc := hD.sub (ws' := (wd_09b0abee h1 h2 v1 x85 v3 x74)) [1] (by decide) rfl
              have hKc := hK.sub (tys' := []) [] rfl
              have hFc := va_free (wc := (wd_09b0abee h1 h2 v1 x85 v3 x74)) hD hS hA [1] rfl
              refine va_callv (va_runV (As := []) (rest := []) ⟨hx, hb, hml, hown, hts⟩ (k_X10_step l dC dI h1 h2 v1 x85 v3 x74 ⟨i_v1a, i_v1b⟩ ⟨oa_x85, ob_x85⟩ H.size) (cwV 0 hts g_X3_readTruth_2 rfl rfl rfl (by decide +kernel) ⟨Nat.le_of_ble_eq_true rfl, Nat.le_of_ble_eq_true rfl⟩) (pv_PV10 hPc hKc hDc (q0 := 0) rfl) rfl rfl hl.1 rfl (lv_room (Nat.le_of_ble_eq_true rfl)) dX3_readTruth_36 ⟨Nat.le_of_ble_eq_true rfl, Nat.le_of_ble_eq_true rfl⟩) hS (fun q _ h => hFc q h) hFc (fun u t H1 locs ht hvm hwra87 hB hz1 hk1 hS => ?_)
              obtain ⟨x88, oa_x88, ob_x88, pt0_ra87, hP1, hK1, hD1⟩ := hB
              rw [ht] at hP1
              obtain ⟨hP2, hD2⟩ := va_join (wr := (wd_6b0d8e05 h0 h1 h3 x72 h2 g0 f5 h3 g1 fn75)) (w1 := (wd_09b0abee h1 h2 v1 x88 v3 x74)) hP hD [1] [0, 2, 3] rfl rfl (by decide) (by decide) hk1 hFc hP1 hD1
              clear hP hD hPc hDc hKc hFc hP1 hK1 hD1 hk1 hz1
              generalize H1 = H at hP2 hS ⊢
              have hP := hP2.sub (ws' := (wd_1ad0248d h0 h1 h3 x72 h1 h2 v1 x88 v3 x74 h2 g0 f5 h3 g1 fn75)) [0, 3, 1, 2] rfl
              have hD := hD2.sub (ws' := (wd_1ad0248d h0 h1 h3 x72 h1 h2 v1 x88 v3 x74 h2 g0 f5 h3 g1 fn75)) [0, 3, 1, 2] (by decide) rfl
              clear hP2 hD2
              refine lv_aload_n hx hb dX3_readTruth_39 rfl (lv_at hl 1 rfl) ?_
              refine lv_iload_n hx hb dX3_readTruth_40 rfl (lv_at hl 2 rfl) ?_
              refine lv_iconst (v := 0) hx hb dX3_readTruth_41 (by decide) ?_
              have hPc := hP.sub (ws' := (wd_1ad0248d h0 h1 h3 x72 h1 h2 v1 x88 v3 x74 h2 g0 f5 h3 g1 fn75)) [0, 1, 2, 3] rfl
              have hDc := hD.sub (ws' := (wd_1ad0248d h0 h1 h3 x72 h1 h2 v1 x88 v3 x74 h2 g0 f5 h3 g1 fn75)) [0, 1, 2, 3] (by decide) rfl
              have hKc := hK.sub (tys' := [(g0, .int), (g1, .int)]) [0, 1] rfl
              have hFc := va_free (wc := (wd_1ad0248d h0 h1 h3 x72 h1 h2 v1 x88 v3 x74 h2 g0 f5 h3 g1 fn75)) hD hS hA [0, 1, 2, 3] rfl
              refine va_calli (va_runV (As := [.int 6, .int 0]) (rest := []) ⟨hx, hb, hml, hown, hts⟩ (k_X3_readUnit_1 l dC dI adK adV h0 h1 h2 h3 x72 v1 x88 v3 x74 g0 f5 g1 fn75 ⟨qa_x72, qb_x72⟩ ⟨i_v1a, i_v1b⟩ ⟨by first | omega | decide, ob_x88⟩ ia_f5 H.size) (cwV 2 hts g_X3_readTruth_0 rfl rfl rfl (by decide +kernel) ⟨Nat.le_of_ble_eq_true rfl, Nat.le_of_ble_eq_true rfl⟩) ⟨fun a U g mk q => by obtain ⟨q0, q1, qP, qK, qD, n0, n1, n2⟩ := q; exact ⟨q0, q1, qP, va_K.moved (u := U) (U := U.calling g mk a) (Vm.Alike.refl U.vm) qK, qD, vk_R.same rfl n0, va_Z.moved (Vm.Alike.refl _) n1, vk_S.moved (Vm.Alike.refl _) n2⟩, pv_rc3 hKc hPc (q0 := 0) rfl, fun U hU hW => ⟨rfl, by rw [hU], by rw [hU]; exact hPc, va_K.moved hW.alike hKc, hDc.weaken (fun _ _ _ _ => trivial), vk_R.warm hW h_vr_2, (by rw [hU]; exact (va_Z.moved hW.alike (va_Z.kept h_st_CS hS.2.1)).narrow hFc), (by rw [hU]; exact (vk_S.moved hW.alike (vk_S.kept h_st_S hS.2.1)).narrow hFc)⟩⟩ rfl rfl hl.1 rfl (lv_room (Nat.le_of_ble_eq_true rfl)) dX3_readTruth_42 ⟨Nat.le_of_ble_eq_true rfl, Nat.le_of_ble_eq_true rfl⟩) hS (fun q _ h => hFc q h) hFc (fun ra89 u t H1 locs ht hvm hwra89 hB hz1 hk1 hS => ?_)
              try rw [hwra89] at hB
              rcases hB with hB | hB
              · skip
                obtain ⟨x90, x91, x92, fn93, oa_x90, ob_x90, oa_x91, ob_x91, pt0_ra89, pt1_ra89, pt2_ra89, pt3_ra89, hP1, hK1, hD1⟩ := hB
                rw [ht] at hP1
                obtain ⟨hP2, hD2⟩ := va_join (wr := []) (w1 := (wd_1ad0248d h0 h1 h3 x90 h1 h2 v1 x91 v3 x92 h2 g0 f5 h3 g1 fn93)) hP hD [0, 1, 2, 3] [] rfl rfl (by decide) (by decide) hk1 hFc hP1 hD1
                clear hP hD hPc hDc hKc hFc hP1 hK1 hD1 hk1 hz1
                generalize H1 = H at hP2 hS ⊢
                have hP : va_P (dC, dI) vwCl (wd_1ad0248d h0 h1 h3 x90 h1 h2 v1 x91 v3 x92 h2 g0 f5 h3 g1 fn93) H := hP2
                have hD : va_D A (wd_1ad0248d h0 h1 h3 x90 h1 h2 v1 x91 v3 x92 h2 g0 f5 h3 g1 fn93) := hD2
                clear hP2 hD2
                obtain rfl : ra89 = (1 : Int32) := pv_cs (by decide) pt0_ra89 pt1_ra89
                refine lv_if_ne (tgt := 50) hx hb dX3_readTruth_45 (by decide) (fun _ => ?_) (fun c => absurd c (by decide))
                refine lv_aload_n hx hb dX3_readTruth_50 rfl (lv_at hl 1 rfl) ?_
                refine lv_bipush (v := 10) hx hb dX3_readTruth_51 (by decide) ?_
                refine lv_iconst (v := 0) hx hb dX3_readTruth_53 (by decide) ?_
                have hPc := hP.sub (ws' := (wd_b958b9da h0 h1 h3 x90 h3 g1 fn93)) [0, 3] rfl
                have hDc := hD.sub (ws' := (wd_b958b9da h0 h1 h3 x90 h3 g1 fn93)) [0, 3] (by decide) rfl
                have hKc := hK.sub (tys' := [(g1, .int)]) [1] rfl
                have hFc := va_free (wc := (wd_b958b9da h0 h1 h3 x90 h3 g1 fn93)) hD hS hA [0, 3] rfl
                refine va_callv (va_runV (As := [.int 10, .int 0]) (rest := []) ⟨hx, hb, hml, hown, hts⟩ (k_X3_write l dC dI h0 h3 h1 x90 g1 fn93 10 0 ⟨oa_x90, ob_x90⟩ H.size) (cwV 2 hts g_X3_readTruth_4 rfl rfl rfl (by decide +kernel) ⟨Nat.le_of_ble_eq_true rfl, Nat.le_of_ble_eq_true rfl⟩) (pv_PV3 hPc hKc hDc (q0 := 0) rfl) rfl rfl hl.1 rfl (lv_room (Nat.le_of_ble_eq_true rfl)) dX3_readTruth_54 ⟨Nat.le_of_ble_eq_true rfl, Nat.le_of_ble_eq_true rfl⟩) hS (fun q _ h => hFc q h) hFc (fun u t H1 locs ht hvm hwra94 hB hz1 hk1 hS => ?_)
                obtain ⟨x95, fn96, oa_x95, ob_x95, hP1, hK1, hD1⟩ := hB
                rw [ht] at hP1
                obtain ⟨hP2, hD2⟩ := va_join (wr := (wd_82cdd16b h1 h2 v1 x91 v3 x92 h2 g0 f5)) (w1 := (wd_b958b9da h0 h1 h3 x95 h3 g1 fn96)) hP hD [0, 3] [1, 2] rfl rfl (by decide) (by decide) hk1 hFc hP1 hD1
                clear hP hD hPc hDc hKc hFc hP1 hK1 hD1 hk1 hz1
                generalize H1 = H at hP2 hS ⊢
                have hP := hP2.sub (ws' := (wd_1ad0248d h0 h1 h3 x95 h1 h2 v1 x91 v3 x92 h2 g0 f5 h3 g1 fn96)) [2, 0, 1, 3] rfl
                have hD := hD2.sub (ws' := (wd_1ad0248d h0 h1 h3 x95 h1 h2 v1 x91 v3 x92 h2 g0 f5 h3 g1 fn96)) [2, 0, 1, 3] (by decide) rfl
                clear hP2 hD2
                obtain ⟨t97, et97⟩ : ∃ y : Int32, y = x71 + 1 := ⟨_, rfl⟩
                have gt97 : t97.toInt = x71.toInt + (1) := pv_add (a := x71.toInt) (b := (1)) et97 rfl (by decide) (by omega) (by omega)
                refine lv_iinc (v := t97) (lv' := [(3, .int t97), (0, .ref h0), (1, .int 6), (2, .int 0)]) hx hb dX3_readTruth_57 hl (k := 0) rfl (by rw [et97]; rfl) (by decide) rfl (fun ls hl => ?_)
                refine lv_goto (tgt := 13) hx hb dX3_readTruth_60 (by decide) ?_
                exact ih_hL81 t97 x95 x91 x92 fn96 H locs ls (by first | omega | decide) (by first | omega | decide) oa_x95 ob_x95 oa_x91 ob_x91 (by first | assumption | (apply pg_row.go <;> first | assumption | omega) | (apply pg_L.bi <;> first | assumption | omega) | (apply pg_L.step <;> first | assumption | omega)) (by first | omega | ((have h09 : ((0 : Int32)).toInt = 0 := by decide); omega)) (by omega) (by first | omega | (simp only [Int.toNat] at *; omega)) hP hD hS (lv_sub hl [0, 1, 2, 3] rfl)
              · skip
                obtain ⟨x98, x99, x100, x101, fn102, oa_x98, ob_x98, oa_x99, ob_x99, oa_x100, ob_x100, pt0_ra89, pt1_ra89, pt2_ra89, pt3_ra89, hP1, hK1, hD1⟩ := hB
                rw [ht] at hP1
                obtain ⟨hP2, hD2⟩ := va_join (wr := []) (w1 := (wd_1ad0248d h0 h1 h3 x98 h1 h2 v1 x99 x100 x101 h2 g0 f5 h3 g1 fn102)) hP hD [0, 1, 2, 3] [] rfl rfl (by decide) (by decide) hk1 hFc hP1 hD1
                clear hP hD hPc hDc hKc hFc hP1 hK1 hD1 hk1 hz1
                generalize H1 = H at hP2 hS ⊢
                have hP : va_P (dC, dI) vwCl (wd_1ad0248d h0 h1 h3 x98 h1 h2 v1 x99 x100 x101 h2 g0 f5 h3 g1 fn102) H := hP2
                have hD : va_D A (wd_1ad0248d h0 h1 h3 x98 h1 h2 v1 x99 x100 x101 h2 g0 f5 h3 g1 fn102) := hD2
                clear hP2 hD2
                obtain rfl : ra89 = (0 : Int32) := pv_cs (by decide) pt0_ra89 pt1_ra89
                refine lv_if_ne (tgt := 50) hx hb dX3_readTruth_45 (by decide) (fun c => absurd (by decide) c) (fun _ => ?_)
                refine lv_iconst (v := 0) hx hb dX3_readTruth_48 (by decide) ?_
                subst hQ
                have hP9 := hP.sub (ws' := (wd_1ad0248d h0 h1 h3 x98 h1 h2 v1 x99 x100 x101 h2 g0 f5 h3 g1 fn102)) [0, 1, 2, 3] rfl
                have hD9 := hD.sub (ws' := (wd_1ad0248d h0 h1 h3 x98 h1 h2 v1 x99 x100 x101 h2 g0 f5 h3 g1 fn102)) [0, 1, 2, 3] (by decide) rfl
                have hK9 := hK.sub (tys' := []) [] rfl
                exact W.zret (v := 0) hx hb hr rfl (fun t ht hW => ⟨⟨0, 0, rfl, rfl, Or.inr (⟨x98, x99, x100, x101, fn102, oa_x98, ob_x98, oa_x99, ob_x99, oa_x100, ob_x100, by first | omega | decide, by first | omega | decide, by omega, by first | assumption | (apply pg_bind.no <;> first | assumption | omega) | (apply pg_L.no <;> first | assumption | omega), by rw [ht]; exact hP9, va_K.moved hW.alike hK9, hD9⟩)⟩, hS.F ht⟩) hS.2.2 dX3_readTruth_49
    exact hL81 _ 0 x2 x3 x4 fn5 H locs ls (by decide) (by decide) oa_x2 ob_x2 oa_x3 ob_x3 (by first | assumption | (apply pg_row.go <;> first | assumption | omega) | (apply pg_L.bi <;> first | assumption | omega) | (apply pg_L.step <;> first | assumption | omega)) (by first | omega | ((have h09 : ((0 : Int32)).toInt = 0 := by decide); omega)) (by omega) (Nat.lt_succ_self _) hP hD hS (lv_sub hl [0, 1, 2, 3] rfl)
  · skip
    obtain ⟨x103, x104, x105, x106, fn107, oa_x103, ob_x103, oa_x104, ob_x104, oa_x105, ob_x105, pt0_ra1, pt1_ra1, pt2_ra1, pt3_ra1, hP1, hK1, hD1⟩ := hB
    rw [ht] at hP1
    obtain ⟨hP2, hD2⟩ := va_join (wr := []) (w1 := (wd_1ad0248d h0 h1 h3 x103 h1 h2 v1 x104 x105 x106 h2 g0 f5 h3 g1 fn107)) hP hD [0, 1, 2, 3] [] rfl rfl (by decide) (by decide) hk1 hFc hP1 hD1
    clear hP hD hPc hDc hKc hFc hP1 hK1 hD1 hk1 hz1
    generalize H1 = H at hP2 hS ⊢
    have hP : va_P (dC, dI) vwCl (wd_1ad0248d h0 h1 h3 x103 h1 h2 v1 x104 x105 x106 h2 g0 f5 h3 g1 fn107) H := hP2
    have hD : va_D A (wd_1ad0248d h0 h1 h3 x103 h1 h2 v1 x104 x105 x106 h2 g0 f5 h3 g1 fn107) := hD2
    clear hP2 hD2
    obtain rfl : ra1 = (0 : Int32) := pv_cs (by decide) pt0_ra1 pt1_ra1
    refine lv_if_ne (tgt := 11) hx hb dX3_readTruth_6 (by decide) (fun c => absurd (by decide) c) (fun _ => ?_)
    refine lv_iconst (v := 0) hx hb dX3_readTruth_9 (by decide) ?_
    subst hQ
    have hP9 := hP.sub (ws' := (wd_1ad0248d h0 h1 h3 x103 h1 h2 v1 x104 x105 x106 h2 g0 f5 h3 g1 fn107)) [0, 1, 2, 3] rfl
    have hD9 := hD.sub (ws' := (wd_1ad0248d h0 h1 h3 x103 h1 h2 v1 x104 x105 x106 h2 g0 f5 h3 g1 fn107)) [0, 1, 2, 3] (by decide) rfl
    have hK9 := hK.sub (tys' := []) [] rfl
    exact W.zret (v := 0) hx hb hr rfl (fun t ht hW => ⟨⟨0, 0, rfl, rfl, Or.inr (⟨x103, x104, x105, x106, fn107, oa_x103, ob_x103, oa_x104, ob_x104, oa_x105, ob_x105, by first | omega | decide, by first | omega | decide, by omega, by first | assumption | (apply pg_bind.no <;> first | assumption | omega) | (apply pg_L.no <;> first | assumption | omega), by rw [ht]; exact hP9, va_K.moved hW.alike hK9, hD9⟩)⟩, hS.F ht⟩) hS.2.2 dX3_readTruth_10
def q_X3_readCondition : List Cond := .code yX3_readCondition cX3_readCondition 4 (some .boolean) :: (([.code yX3_readTruth cX3_readTruth 4 (some .boolean), .code yX3_readUnit cX3_readUnit 5 (some .boolean), .fieldLink RX3 19 "LeftArguments$LawReader" "tape" "LLeftArguments$Tape;", .code yX10_next cX10_next 1 (some .int), .fieldLink RX10 19 "LeftArguments$Tape" "at" "I", .fieldLink RX10 15 "LeftArguments$Tape" "used" "I", .fieldLink RX10 9 "LeftArguments$Tape" "bytes" "[I", .initialized RX10, .instanceMethod yX10_next, .selects RX10 yX10_next yX10_next, .methodLink RX3 48 yX10_next, .code yX3_readSum cX3_readSum 4 (some .boolean), .code yX3_readTerm cX3_readTerm 4 (some .boolean), .code yX3_readAtom cX3_readAtom 4 (some .boolean), .code yX10_isDigit cX10_isDigit 1 (some .boolean), .static yX10_isDigit, .methodLink RX3 92 yX10_isDigit, .code yX10_wrongHere cX10_wrongHere 1 (some .boolean), .fieldLink RX10 22 "LeftArguments$Tape" "wrongAt" "I", .instanceMethod yX10_wrongHere, .selects RX10 yX10_wrongHere yX10_wrongHere, .methodLink RX3 83 yX10_wrongHere, .code yJ0_indexOf_0f7a4 cJ0_indexOf_0f7a4 2 (some .int), .code yJ0_indexOf_7cf53 cJ0_indexOf_7cf53 3 (some .int), .code yJ0_isLatin1_aae02 cJ0_isLatin1_aae02 1 (some .boolean), .fieldLink RJ0 38 "java/lang/String" "COMPACT_STRINGS" "Z", .fieldLink RJ0 15 "java/lang/String" "coder" "B", .initialized RJ0, .instanceMethod yJ0_isLatin1_aae02, .selects RJ0 yJ0_isLatin1_aae02 yJ0_isLatin1_aae02, .methodLink RJ0 492 yJ0_isLatin1_aae02, .fieldLink RJ0 9 "java/lang/String" "value" "[B", .code yJ0_length_8abf5 cJ0_length_8abf5 1 (some .int), .code yJ0_coder_7d493 cJ0_coder_7d493 1 (some .byte), .instanceMethod yJ0_coder_7d493, .selects RJ0 yJ0_coder_7d493 yJ0_coder_7d493, .methodLink RJ0 335 yJ0_coder_7d493, .instanceMethod yJ0_length_8abf5, .selects RJ0 yJ0_length_8abf5 yJ0_length_8abf5, .methodLink RJ0 505 yJ0_length_8abf5, .code yJ1_indexOf_4cfef cJ1_indexOf_4cfef 4 (some .int), .code yJ1_canEncode_9a6ad cJ1_canEncode_9a6ad 1 (some .boolean), .initialized RJ1, .static yJ1_canEncode_9a6ad, .methodLink RJ1 88 yJ1_canEncode_9a6ad, .methodLink RJ1 92 Lib.Math.max.name, .static Lib.Math.max.name, .initialized "java/lang/Math", .code Lib.Math.max.name Lib.Math.max.code 2 (some .int), .methodLink RJ1 38 Lib.Math.min.name, .static Lib.Math.min.name, .code Lib.Math.min.name Lib.Math.min.code 2 (some .int), .code yJ1_indexOfChar_4cfef cJ1_indexOfChar_4cfef 6 (some .int), .static yJ1_indexOfChar_4cfef, .methodLink RJ1 95 yJ1_indexOfChar_4cfef, .static yJ1_indexOf_4cfef, .methodLink RJ0 637 yJ1_indexOf_4cfef, .instanceMethod yJ0_indexOf_7cf53, .selects RJ0 yJ0_indexOf_7cf53 yJ0_indexOf_7cf53, .methodLink RJ0 633 yJ0_indexOf_7cf53, .instanceMethod yJ0_indexOf_0f7a4, .selects RJ0 yJ0_indexOf_0f7a4 yJ0_indexOf_0f7a4, .methodLink RX3 103 yJ0_indexOf_0f7a4, .code yX10_step cX10_step 1 none, .instanceMethod yX10_step, .selects RX10 yX10_step yX10_step, .methodLink RX3 77 yX10_step, .code yX3_write cX3_write 3 none, .fieldLink RX3 15 "LeftArguments$LawReader" "used" "I", .fieldLink RX3 11 "LeftArguments$LawReader" "code" "[I", .initialized RX3, .instanceMethod yX3_write, .selects RX3 yX3_write yX3_write, .methodLink RX3 66 yX3_write, .code yX10_takeNumber cX10_takeNumber 3 (some .boolean), .methodLink RX10 37 yX10_next, .methodLink RX10 45 yX10_isDigit, .methodLink RX10 41 yX10_wrongHere, .fieldLink RX10 25 "LeftArguments$Tape" "number" "I", .code yX10_sign cX10_sign 1 (some .int), .instanceMethod yX10_sign, .selects RX10 yX10_sign yX10_sign, .methodLink RX10 49 yX10_sign, .instanceMethod yX10_takeNumber, .selects RX10 yX10_takeNumber yX10_takeNumber, .methodLink RX3 95 yX10_takeNumber, .code yX10_number cX10_number 1 (some .int), .instanceMethod yX10_number, .selects RX10 yX10_number yX10_number, .methodLink RX3 98 yX10_number, .instanceMethod yX3_readAtom, .selects RX3 yX3_readAtom yX3_readAtom, .methodLink RX3 89 yX3_readAtom, .instanceMethod yX3_readTerm, .selects RX3 yX3_readTerm yX3_readTerm, .methodLink RX3 86 yX3_readTerm, .instanceMethod yX3_readSum, .selects RX3 yX3_readSum yX3_readSum, .methodLink RX3 59 yX3_readSum, .code yX3_comparing cX3_comparing 1 (some .int), .static yX3_comparing, .methodLink RX3 62 yX3_comparing, .instanceMethod yX3_readUnit, .selects RX3 yX3_readUnit yX3_readUnit, .methodLink RX3 80 yX3_readUnit, .instanceMethod yX3_readTruth, .selects RX3 yX3_readTruth yX3_readTruth, .methodLink RX3 74 yX3_readTruth] : List Cond) ++ wsX30 ++ wsX100)
set_option maxRecDepth 20000 in
theorem g_X3_readCondition_0 : GoodIn q_X3_readCondition (wsV RX3 74 RX3 yX3_readTruth q_X3_readTruth) := goodIn_app (goodIn_r _ [108, 106, 107, 71] rfl (by decide +kernel)) (goodIn_ca (goodIn_ca (goodIn_r (.code yX3_readTruth cX3_readTruth 4 (some .boolean) :: [.code yX3_readUnit cX3_readUnit 5 (some .boolean), .fieldLink RX3 19 "LeftArguments$LawReader" "tape" "LLeftArguments$Tape;", .code yX10_next cX10_next 1 (some .int), .fieldLink RX10 19 "LeftArguments$Tape" "at" "I", .fieldLink RX10 15 "LeftArguments$Tape" "used" "I", .fieldLink RX10 9 "LeftArguments$Tape" "bytes" "[I", .initialized RX10, .instanceMethod yX10_next, .selects RX10 yX10_next yX10_next, .methodLink RX3 48 yX10_next, .code yX3_readSum cX3_readSum 4 (some .boolean), .code yX3_readTerm cX3_readTerm 4 (some .boolean), .code yX3_readAtom cX3_readAtom 4 (some .boolean), .code yX10_isDigit cX10_isDigit 1 (some .boolean), .static yX10_isDigit, .methodLink RX3 92 yX10_isDigit, .code yX10_wrongHere cX10_wrongHere 1 (some .boolean), .fieldLink RX10 22 "LeftArguments$Tape" "wrongAt" "I", .instanceMethod yX10_wrongHere, .selects RX10 yX10_wrongHere yX10_wrongHere, .methodLink RX3 83 yX10_wrongHere, .code yJ0_indexOf_0f7a4 cJ0_indexOf_0f7a4 2 (some .int), .code yJ0_indexOf_7cf53 cJ0_indexOf_7cf53 3 (some .int), .code yJ0_isLatin1_aae02 cJ0_isLatin1_aae02 1 (some .boolean), .fieldLink RJ0 38 "java/lang/String" "COMPACT_STRINGS" "Z", .fieldLink RJ0 15 "java/lang/String" "coder" "B", .initialized RJ0, .instanceMethod yJ0_isLatin1_aae02, .selects RJ0 yJ0_isLatin1_aae02 yJ0_isLatin1_aae02, .methodLink RJ0 492 yJ0_isLatin1_aae02, .fieldLink RJ0 9 "java/lang/String" "value" "[B", .code yJ0_length_8abf5 cJ0_length_8abf5 1 (some .int), .code yJ0_coder_7d493 cJ0_coder_7d493 1 (some .byte), .instanceMethod yJ0_coder_7d493, .selects RJ0 yJ0_coder_7d493 yJ0_coder_7d493, .methodLink RJ0 335 yJ0_coder_7d493, .instanceMethod yJ0_length_8abf5, .selects RJ0 yJ0_length_8abf5 yJ0_length_8abf5, .methodLink RJ0 505 yJ0_length_8abf5, .code yJ1_indexOf_4cfef cJ1_indexOf_4cfef 4 (some .int), .code yJ1_canEncode_9a6ad cJ1_canEncode_9a6ad 1 (some .boolean), .initialized RJ1, .static yJ1_canEncode_9a6ad, .methodLink RJ1 88 yJ1_canEncode_9a6ad, .methodLink RJ1 92 Lib.Math.max.name, .static Lib.Math.max.name, .initialized "java/lang/Math", .code Lib.Math.max.name Lib.Math.max.code 2 (some .int), .methodLink RJ1 38 Lib.Math.min.name, .static Lib.Math.min.name, .code Lib.Math.min.name Lib.Math.min.code 2 (some .int), .code yJ1_indexOfChar_4cfef cJ1_indexOfChar_4cfef 6 (some .int), .static yJ1_indexOfChar_4cfef, .methodLink RJ1 95 yJ1_indexOfChar_4cfef, .static yJ1_indexOf_4cfef, .methodLink RJ0 637 yJ1_indexOf_4cfef, .instanceMethod yJ0_indexOf_7cf53, .selects RJ0 yJ0_indexOf_7cf53 yJ0_indexOf_7cf53, .methodLink RJ0 633 yJ0_indexOf_7cf53, .instanceMethod yJ0_indexOf_0f7a4, .selects RJ0 yJ0_indexOf_0f7a4 yJ0_indexOf_0f7a4, .methodLink RX3 103 yJ0_indexOf_0f7a4, .code yX10_step cX10_step 1 none, .instanceMethod yX10_step, .selects RX10 yX10_step yX10_step, .methodLink RX3 77 yX10_step, .code yX3_write cX3_write 3 none, .fieldLink RX3 15 "LeftArguments$LawReader" "used" "I", .fieldLink RX3 11 "LeftArguments$LawReader" "code" "[I", .initialized RX3, .instanceMethod yX3_write, .selects RX3 yX3_write yX3_write, .methodLink RX3 66 yX3_write, .code yX10_takeNumber cX10_takeNumber 3 (some .boolean), .methodLink RX10 37 yX10_next, .methodLink RX10 45 yX10_isDigit, .methodLink RX10 41 yX10_wrongHere, .fieldLink RX10 25 "LeftArguments$Tape" "number" "I", .code yX10_sign cX10_sign 1 (some .int), .instanceMethod yX10_sign, .selects RX10 yX10_sign yX10_sign, .methodLink RX10 49 yX10_sign, .instanceMethod yX10_takeNumber, .selects RX10 yX10_takeNumber yX10_takeNumber, .methodLink RX3 95 yX10_takeNumber, .code yX10_number cX10_number 1 (some .int), .instanceMethod yX10_number, .selects RX10 yX10_number yX10_number, .methodLink RX3 98 yX10_number, .instanceMethod yX3_readAtom, .selects RX3 yX3_readAtom yX3_readAtom, .methodLink RX3 89 yX3_readAtom, .instanceMethod yX3_readTerm, .selects RX3 yX3_readTerm yX3_readTerm, .methodLink RX3 86 yX3_readTerm, .instanceMethod yX3_readSum, .selects RX3 yX3_readSum yX3_readSum, .methodLink RX3 59 yX3_readSum, .code yX3_comparing cX3_comparing 1 (some .int), .static yX3_comparing, .methodLink RX3 62 yX3_comparing, .instanceMethod yX3_readUnit, .selects RX3 yX3_readUnit yX3_readUnit, .methodLink RX3 80 yX3_readUnit]) [1, 2, 3, 4, 5, 6, 7, 8, 9, 10, 11, 12, 13, 14, 15, 16, 17, 18, 19, 20, 21, 22, 23, 24, 25, 26, 27, 28, 29, 30, 31, 32, 33, 34, 35, 36, 37, 38, 39, 40, 41, 42, 43, 44, 45, 46, 47, 48, 49, 50, 51, 52, 53, 54, 55, 56, 57, 58, 59, 60, 61, 62, 63, 64, 65, 66, 67, 68, 69, 70, 71, 72, 73, 74, 75, 76, 77, 78, 79, 80, 81, 82, 83, 84, 85, 86, 87, 88, 89, 90, 91, 92, 93, 94, 95, 96, 97, 98, 99, 100, 101, 102, 103, 104, 105] rfl (by decide +kernel)) (goodIn_sub (fun _ h => List.mem_cons_of_mem _ (List.mem_append_left _ (List.mem_append_right _ h))) gwX3)) (goodIn_sub (fun _ h => List.mem_cons_of_mem _ (List.mem_append_right _ h)) gwX10))
set_option maxRecDepth 20000 in
theorem g_X3_readCondition_1 : GoodIn q_X3_readCondition (wsV RX3 48 RX10 yX10_next q_X10_next) := goodIn_app (goodIn_r _ [11, 9, 10, 8] rfl (by decide +kernel)) (goodIn_ca (goodIn_r (.code yX10_next cX10_next 1 (some .int) :: [.fieldLink RX10 19 "LeftArguments$Tape" "at" "I", .fieldLink RX10 15 "LeftArguments$Tape" "used" "I", .fieldLink RX10 9 "LeftArguments$Tape" "bytes" "[I"]) [4, 5, 6, 7] rfl (by decide +kernel)) (goodIn_sub (fun _ h => List.mem_cons_of_mem _ (List.mem_append_right _ h)) gwX10))
set_option maxRecDepth 20000 in
theorem g_X3_readCondition_2 : GoodIn q_X3_readCondition (wsV RX3 77 RX10 yX10_step q_X10_step) := goodIn_app (goodIn_r _ [67, 65, 66, 8] rfl (by decide +kernel)) (goodIn_ca (goodIn_r (.code yX10_step cX10_step 1 none :: [.fieldLink RX10 19 "LeftArguments$Tape" "at" "I"]) [64, 5] rfl (by decide +kernel)) (goodIn_sub (fun _ h => List.mem_cons_of_mem _ (List.mem_append_right _ h)) gwX10))
set_option maxRecDepth 20000 in
theorem g_X3_readCondition_4 : GoodIn q_X3_readCondition (wsV RX3 66 RX3 yX3_write q_X3_write) := goodIn_app (goodIn_r _ [74, 72, 73, 71] rfl (by decide +kernel)) (goodIn_ca (goodIn_r (.code yX3_write cX3_write 3 none :: [.fieldLink RX3 15 "LeftArguments$LawReader" "used" "I", .fieldLink RX3 11 "LeftArguments$LawReader" "code" "[I"]) [68, 69, 70] rfl (by decide +kernel)) (goodIn_sub (fun _ h => List.mem_cons_of_mem _ (List.mem_append_left _ (List.mem_append_right _ h))) gwX3))
set_option maxHeartbeats 4000000 in
set_option maxRecDepth 100000 in
theorem k_X3_readCondition (l : Launch) (dC : Nat → ClassId) (dI : Nat → Nat → Nat) (adK : Nat → Nat) (adV : Nat → Nat) (h0 : Nat) (h1 : Nat) (h2 : Nat) (h3 : Nat) (v0 : Int32) (v1 : Int32) (v2 : Int32) (v3 : Int32) (v4 : Int32) (g0 : ClassId) (f5 : Nat → Int32) (g1 : ClassId) (f6 : Nat → Int32) (i_v0 : 0 ≤ v0.toInt ∧ v0.toInt ≤ 256) (i_v1 : 0 ≤ v1.toInt ∧ v1.toInt ≤ 240) (i_v2 : 0 ≤ v2.toInt ∧ v2.toInt ≤ 240) (ia_f5 : (∀ j, 0 ≤ (f5 j).toInt ∧ (f5 j).toInt ≤ 255)) (sz : Nat) : Met l yX3_readCondition q_X3_readCondition ({ frames := 9, cells := 0, slots := 0, locals := 207 }) (va_Pc [.ref h0, .int 6, .int 0] (fun U => U.heap.size = sz ∧ va_P (dC, dI) vwCl (wd_1ad0248d h0 h1 h3 v0 h1 h2 v1 v2 v3 v4 h2 g0 f5 h3 g1 f6) U.heap ∧ va_K (dC, dI) vwCl [(g0, .int), (g1, .int)] U ∧ va_D (fun _ => True) (wd_1ad0248d h0 h1 h3 v0 h1 h2 v1 v2 v3 v4 h2 g0 f5 h3 g1 f6) ∧ vk_R RX3 101 "zaondt" (adK 2) U ∧ va_Z "java/lang/String" "COMPACT_STRINGS" "Z" (.int 1) (va_A (wd_1ad0248d h0 h1 h3 v0 h1 h2 v1 v2 v3 v4 h2 g0 f5 h3 g1 f6) sz) U U.heap ∧ vk_S 3 pv_len3 pv_byt3 adK adV (va_A (wd_1ad0248d h0 h1 h3 v0 h1 h2 v1 v2 v3 v4 h2 g0 f5 h3 g1 f6) sz) U U.heap)) (va_Qi (fun (r : Int32) (r9 : Int32) => r9 = r) (fun (r : Int32) (t : State) => (∃ (o_h0_2 : Int32) (o_h1_2 : Int32) (o_h1_4 : Int32) (o_h3 : Nat → Int32), 0 ≤ o_h0_2.toInt ∧ o_h0_2.toInt ≤ 256 ∧ 0 ≤ o_h1_2.toInt ∧ o_h1_2.toInt ≤ 240 ∧ (1 ≤ r.toInt) ∧ (r.toInt ≤ 1) ∧ (v2.toInt ≤ o_h1_2.toInt) ∧ (pg_con f5 v1.toInt (pg_unit f5 v1.toInt 0) v2.toInt = (true, o_h1_2.toInt)) ∧ va_P (dC, dI) vwCl (wd_1ad0248d h0 h1 h3 o_h0_2 h1 h2 v1 o_h1_2 v3 o_h1_4 h2 g0 f5 h3 g1 o_h3) t.heap ∧ va_K (dC, dI) vwCl [] t ∧ va_D (va_A (wd_1ad0248d h0 h1 h3 v0 h1 h2 v1 v2 v3 v4 h2 g0 f5 h3 g1 f6) sz) (wd_1ad0248d h0 h1 h3 o_h0_2 h1 h2 v1 o_h1_2 v3 o_h1_4 h2 g0 f5 h3 g1 o_h3)) ∨ (∃ (o_h0_2 : Int32) (o_h1_2 : Int32) (o_h1_3 : Int32) (o_h1_4 : Int32) (o_h3 : Nat → Int32), 0 ≤ o_h0_2.toInt ∧ o_h0_2.toInt ≤ 256 ∧ 0 ≤ o_h1_2.toInt ∧ o_h1_2.toInt ≤ 240 ∧ 0 ≤ o_h1_3.toInt ∧ o_h1_3.toInt ≤ 240 ∧ (0 ≤ r.toInt) ∧ (r.toInt ≤ 0) ∧ (v2.toInt ≤ o_h1_2.toInt) ∧ (pg_con f5 v1.toInt (pg_unit f5 v1.toInt 0) v2.toInt = (false, o_h1_3.toInt)) ∧ va_P (dC, dI) vwCl (wd_1ad0248d h0 h1 h3 o_h0_2 h1 h2 v1 o_h1_2 o_h1_3 o_h1_4 h2 g0 f5 h3 g1 o_h3) t.heap ∧ va_K (dC, dI) vwCl [] t ∧ va_D (va_A (wd_1ad0248d h0 h1 h3 v0 h1 h2 v1 v2 v3 v4 h2 g0 f5 h3 g1 f6) sz) (wd_1ad0248d h0 h1 h3 o_h0_2 h1 h2 v1 o_h1_2 o_h1_3 o_h1_4 h2 g0 f5 h3 g1 o_h3))) (va_A (wd_1ad0248d h0 h1 h3 v0 h1 h2 v1 v2 v3 v4 h2 g0 f5 h3 g1 f6) sz)) 0 0 (va_A (wd_1ad0248d h0 h1 h3 v0 h1 h2 v1 v2 v3 v4 h2 g0 f5 h3 g1 f6) sz) := by
  refine Met.ofW (cc := cX3_readCondition) (maxL := 4) (ret := (some .boolean)) (by decide) rfl ?_
  intro p e s m args below meth c s₁ B hml hv
  obtain ⟨i_v0a, i_v0b⟩ := i_v0
  obtain ⟨i_v1a, i_v1b⟩ := i_v1
  obtain ⟨i_v2a, i_v2b⟩ := i_v2
  obtain ⟨rfl, hsz, hP, hK, hD0, h_vr_2, h_st_CS, h_st_S⟩ := hv
  have hx := B.exec
  have hb := B.bytes
  have hr := B.returns
  have hts := atoms_spec (ws := q_X3_readCondition) B.pre
  have hown : s.vm.findClass RX3 = some m.cls := findClass_of_methodNamed B.named
  have hlocks := B.notSynchronized
  subst hsz
  have hD := hD0.self (sz := s.heap.size)
  generalize hAe : va_A (wd_1ad0248d h0 h1 h3 v0 h1 h2 v1 v2 v3 v4 h2 g0 f5 h3 g1 f6) s.heap.size = A at hD h_st_CS h_st_S ⊢
  have hA : ∀ q : Nat, s.heap.size ≤ q → A q := fun q h => by rw [← hAe]; exact Or.inr h
  have hS : va_S A s.heap s.heap [] := va_S.rf
  generalize hQ : (MQ below _ _ s 0 0 A) = Q
  have hl := lv_entry ([.ref h0, .int 6, .int 0]) (n := 4) (Nat.le_of_ble_eq_true rfl)
  rw [lg_entry_eq]
  generalize (lg_sl ([.ref h0, .int 6, .int 0]) ++ List.replicate (4 - (lg_sl ([.ref h0, .int 6, .int 0])).length) Slot.unset).toArray = ls at hl ⊢
  have hl : lv_has ls 4 [(0, .ref h0), (1, .int 6), (2, .int 0)] := hl
  obtain ⟨H, hH⟩ : ∃ H : Heap, H = s.heap := ⟨_, rfl⟩
  obtain ⟨locs, hlocs⟩ : ∃ y : List Loc, y = [] := ⟨_, rfl⟩
  have hS : va_S A s.heap H locs := by rw [hH, hlocs]; exact va_S.rf
  have hP : va_P (dC, dI) vwCl (wd_1ad0248d h0 h1 h3 v0 h1 h2 v1 v2 v3 v4 h2 g0 f5 h3 g1 f6) H := by rw [hH]; exact hP
  rw [← hH, ← hlocs]
  refine lv_aload_n hx hb dX3_readCondition_0 rfl (lv_at hl 0 rfl) ?_
  refine lv_iload_n hx hb dX3_readCondition_1 rfl (lv_at hl 1 rfl) ?_
  refine lv_iload_n hx hb dX3_readCondition_2 rfl (lv_at hl 2 rfl) ?_
  have hPc := hP.sub (ws' := (wd_1ad0248d h0 h1 h3 v0 h1 h2 v1 v2 v3 v4 h2 g0 f5 h3 g1 f6)) [0, 1, 2, 3] rfl
  have hDc := hD.sub (ws' := (wd_1ad0248d h0 h1 h3 v0 h1 h2 v1 v2 v3 v4 h2 g0 f5 h3 g1 f6)) [0, 1, 2, 3] (by decide) rfl
  have hKc := hK.sub (tys' := [(g0, .int), (g1, .int)]) [0, 1] rfl
  have hFc := va_free (wc := (wd_1ad0248d h0 h1 h3 v0 h1 h2 v1 v2 v3 v4 h2 g0 f5 h3 g1 f6)) hD hS hA [0, 1, 2, 3] rfl
  refine va_calli (va_runV (As := [.int 6, .int 0]) (rest := []) ⟨hx, hb, hml, hown, hts⟩ (k_X3_readTruth l dC dI adK adV h0 h1 h2 h3 v0 v1 v2 v3 v4 g0 f5 g1 f6 ⟨i_v0a, i_v0b⟩ ⟨i_v1a, i_v1b⟩ ⟨i_v2a, i_v2b⟩ ia_f5 H.size) (cwV 2 hts g_X3_readCondition_0 rfl rfl rfl (by decide +kernel) ⟨Nat.le_of_ble_eq_true rfl, Nat.le_of_ble_eq_true rfl⟩) ⟨fun a U g mk q => by obtain ⟨q0, q1, qP, qK, qD, n0, n1, n2⟩ := q; exact ⟨q0, q1, qP, va_K.moved (u := U) (U := U.calling g mk a) (Vm.Alike.refl U.vm) qK, qD, vk_R.same rfl n0, va_Z.moved (Vm.Alike.refl _) n1, vk_S.moved (Vm.Alike.refl _) n2⟩, pv_rc3 hKc hPc (q0 := 0) rfl, fun U hU hW => ⟨rfl, by rw [hU], by rw [hU]; exact hPc, va_K.moved hW.alike hKc, hDc.weaken (fun _ _ _ _ => trivial), vk_R.warm hW h_vr_2, (by rw [hU]; exact (va_Z.moved hW.alike (va_Z.kept h_st_CS hS.2.1)).narrow hFc), (by rw [hU]; exact (vk_S.moved hW.alike (vk_S.kept h_st_S hS.2.1)).narrow hFc)⟩⟩ rfl rfl hl.1 rfl (lv_room (Nat.le_of_ble_eq_true rfl)) dX3_readCondition_3 ⟨Nat.le_of_ble_eq_true rfl, Nat.le_of_ble_eq_true rfl⟩) hS (fun q _ h => hFc q h) hFc (fun ra1 u t H1 locs ht hvm hwra1 hB hz1 hk1 hS => ?_)
  try rw [hwra1] at hB
  rcases hB with hB | hB
  · skip
    obtain ⟨x2, x3, x4, fn5, oa_x2, ob_x2, oa_x3, ob_x3, pt0_ra1, pt1_ra1, pt2_ra1, pt3_ra1, hP1, hK1, hD1⟩ := hB
    rw [ht] at hP1
    obtain ⟨hP2, hD2⟩ := va_join (wr := []) (w1 := (wd_1ad0248d h0 h1 h3 x2 h1 h2 v1 x3 v3 x4 h2 g0 f5 h3 g1 fn5)) hP hD [0, 1, 2, 3] [] rfl rfl (by decide) (by decide) hk1 hFc hP1 hD1
    clear hP hD hPc hDc hKc hFc hP1 hK1 hD1 hk1 hz1
    generalize H1 = H at hP2 hS ⊢
    have hP : va_P (dC, dI) vwCl (wd_1ad0248d h0 h1 h3 x2 h1 h2 v1 x3 v3 x4 h2 g0 f5 h3 g1 fn5) H := hP2
    have hD : va_D A (wd_1ad0248d h0 h1 h3 x2 h1 h2 v1 x3 v3 x4 h2 g0 f5 h3 g1 fn5) := hD2
    clear hP2 hD2
    obtain rfl : ra1 = (1 : Int32) := pv_cs (by decide) pt0_ra1 pt1_ra1
    refine lv_if_ne (tgt := 11) hx hb dX3_readCondition_6 (by decide) (fun _ => ?_) (fun c => absurd c (by decide))
    refine lv_iconst (v := 0) hx hb dX3_readCondition_11 (by decide) ?_
    refine lv_istore_n (lv' := [(3, .int 0), (0, .ref h0), (1, .int 6), (2, .int 0)]) hx hb dX3_readCondition_12 rfl hl (by decide) rfl (fun ls hl => ?_)
    have hL81 : ∀ (n9 : Nat), ∀ (x71 : Int32) (x72 : Int32) (x73 : Int32) (x74 : Int32) (fn75 : Nat → Int32) (H : Heap) (locs : List Loc) (ls : Array Slot), 0 ≤ x71.toInt → x71.toInt ≤ 240 → 0 ≤ x72.toInt → x72.toInt ≤ 256 → 0 ≤ x73.toInt → x73.toInt ≤ 240 → (pg_L f5 v1.toInt 124 124 (pg_tru f5 v1.toInt (pg_unit f5 v1.toInt 0)) x73.toInt (pg_con f5 v1.toInt (pg_unit f5 v1.toInt 0) v2.toInt)) → (x71.toInt ≤ x73.toInt) → (v2.toInt ≤ x73.toInt) → (240 - x71.toInt).toNat < n9 → va_P (dC, dI) vwCl (wd_1ad0248d h0 h1 h3 x72 h1 h2 v1 x73 v3 x74 h2 g0 f5 h3 g1 fn75) H → va_D A (wd_1ad0248d h0 h1 h3 x72 h1 h2 v1 x73 v3 x74 h2 g0 f5 h3 g1 fn75) → va_S A s.heap H locs → lv_has ls 4 [(3, .int x71), (0, .ref h0), (1, .int 6), (2, .int 0)] → W p l e ({ frames := 9, cells := 0, slots := 0, locals := 207 }) s m ([.ref h0, .int 6, .int 0] : List Value).toArray below meth c H locs 0 0 Q (F0 m 13 ls []) := by
      intro n9
      induction n9 with
      | zero => intro x71 x72 x73 x74 fn75 H locs ls qa_x71 qb_x71 qa_x72 qb_x72 qa_x73 qb_x73 gh0_hL81 gh1_hL81 gh2_hL81 hm9 hP hD hS hl; exact absurd hm9 (Nat.not_lt_zero _)
      | succ n9 ih_hL81 =>
        intro x71 x72 x73 x74 fn75 H locs ls qa_x71 qb_x71 qa_x72 qb_x72 qa_x73 qb_x73 gh0_hL81 gh1_hL81 gh2_hL81 hm9 hP hD hS hl
        refine lv_iload_n hx hb dX3_readCondition_13 rfl (lv_at hl 0 rfl) ?_
        refine lv_sipush (v := 240) hx hb dX3_readCondition_14 (by decide) ?_
        refine lv_icmp_ge (tgt := 63) hx hb dX3_readCondition_17 (by decide) (fun c82 => ?_) (fun c82 => ?_)
        · skip
          have fc82 : 240 ≤ x71.toInt := Int32.le_iff_toInt_le.mp c82
          refine lv_iconst (v := 1) hx hb dX3_readCondition_63 (by decide) ?_
          subst hQ
          have hP9 := hP.sub (ws' := (wd_1ad0248d h0 h1 h3 x72 h1 h2 v1 x73 v3 x74 h2 g0 f5 h3 g1 fn75)) [0, 1, 2, 3] rfl
          have hD9 := hD.sub (ws' := (wd_1ad0248d h0 h1 h3 x72 h1 h2 v1 x73 v3 x74 h2 g0 f5 h3 g1 fn75)) [0, 1, 2, 3] (by decide) rfl
          have hK9 := hK.sub (tys' := []) [] rfl
          exact W.zret (v := 1) hx hb hr rfl (fun t ht hW => ⟨⟨1, 1, rfl, rfl, Or.inl ⟨x72, x73, x74, fn75, qa_x72, qb_x72, qa_x73, qb_x73, by first | omega | decide, by first | omega | decide, by omega, by first | assumption | (apply pg_L.stop <;> first | assumption | omega) | exact pg_L.stop (by assumption) (pg_s.here (by rw [pg_ch.off (by omega)]; decide)) (by rw [pg_ch.off (by omega)]; decide), by rw [ht]; exact hP9, va_K.moved hW.alike hK9, hD9⟩⟩, hS.F ht⟩) hS.2.2 dX3_readCondition_64
        · skip
          have fc82 : ¬ (240 ≤ x71.toInt) := fun h9 => c82 (Int32.le_iff_toInt_le.mpr h9)
          refine lv_aload_n hx hb dX3_readCondition_20 rfl (lv_at hl 1 rfl) ?_
          refine va_get (D := (dC, dI)) (ci := 3) (v := .ref h1) (C := RX3) (T := TX3) (N := 3) hx hb hts (fun _ h => List.mem_cons_of_mem _ (List.mem_append_left _ (List.mem_append_right _ h))) hown hK hP 0 rfl rfl 0 (by decide) (hts (.fieldLink RX3 19 "LeftArguments$LawReader" "tape" "LLeftArguments$Tape;") (List.mem_cons_of_mem _ (List.mem_append_left _ (List.mem_append_left _ (List.mem_of_getElem? (i := 2) rfl))))) (fun _ h9 => h9) rfl dX3_readCondition_21 ?_
          have hPc := hP.sub (ws' := (wd_82cdd16b h1 h2 v1 x73 v3 x74 h2 g0 f5)) [1, 2] rfl
          have hDc := hD.sub (ws' := (wd_82cdd16b h1 h2 v1 x73 v3 x74 h2 g0 f5)) [1, 2] (by decide) rfl
          have hKc := hK.sub (tys' := [(g0, .int)]) [0] rfl
          have hFc := va_free (wc := (wd_82cdd16b h1 h2 v1 x73 v3 x74 h2 g0 f5)) hD hS hA [1, 2] rfl
          refine va_calli (va_runV (As := []) (rest := []) ⟨hx, hb, hml, hown, hts⟩ (k_X10_next l dC dI h1 h2 v1 x73 v3 x74 g0 f5 ⟨i_v1a, i_v1b⟩ ⟨qa_x73, qb_x73⟩ ia_f5 H.size) (cwV 0 hts g_X3_readCondition_1 rfl rfl rfl (by decide +kernel) ⟨Nat.le_of_ble_eq_true rfl, Nat.le_of_ble_eq_true rfl⟩) (pv_PV10 hPc hKc hDc (q0 := 0) rfl) rfl rfl hl.1 rfl (lv_room (Nat.le_of_ble_eq_true rfl)) dX3_readCondition_24 ⟨Nat.le_of_ble_eq_true rfl, Nat.le_of_ble_eq_true rfl⟩) hS (fun q _ h => hFc q h) hFc (fun ra83 u t H1 locs ht hvm hwra83 hB hz1 hk1 hS => ?_)
          try rw [hwra83] at hB
          rcases hB with hB | hB
          · skip
            obtain ⟨x84, oa_x84, ob_x84, pt0_ra83, pt1_ra83, pt2_ra83, pt3_ra83, pt4_ra83, pt5_ra83, pt6_ra83, hP1, hK1, hD1⟩ := hB
            rw [ht] at hP1
            obtain ⟨hP2, hD2⟩ := va_join (wr := (wd_b958b9da h0 h1 h3 x72 h3 g1 fn75)) (w1 := (wd_82cdd16b h1 h2 v1 x84 v3 x74 h2 g0 f5)) hP hD [1, 2] [0, 3] rfl rfl (by decide) (by decide) hk1 hFc hP1 hD1
            clear hP hD hPc hDc hKc hFc hP1 hK1 hD1 hk1 hz1
            generalize H1 = H at hP2 hS ⊢
            have hP := hP2.sub (ws' := (wd_1ad0248d h0 h1 h3 x72 h1 h2 v1 x84 v3 x74 h2 g0 f5 h3 g1 fn75)) [0, 2, 3, 1] rfl
            have hD := hD2.sub (ws' := (wd_1ad0248d h0 h1 h3 x72 h1 h2 v1 x84 v3 x74 h2 g0 f5 h3 g1 fn75)) [0, 2, 3, 1] (by decide) rfl
            clear hP2 hD2
            obtain rfl : ra83 = ((-1) : Int32) := pv_cs (by decide) pt0_ra83 pt1_ra83
            refine lv_bipush (v := 124) hx hb dX3_readCondition_27 (by decide) ?_
            refine lv_icmp_ne (tgt := 63) hx hb dX3_readCondition_29 (by decide) (fun _ => ?_) (fun c => absurd c (by decide))
            refine lv_iconst (v := 1) hx hb dX3_readCondition_63 (by decide) ?_
            subst hQ
            have hP9 := hP.sub (ws' := (wd_1ad0248d h0 h1 h3 x72 h1 h2 v1 x84 v3 x74 h2 g0 f5 h3 g1 fn75)) [0, 1, 2, 3] rfl
            have hD9 := hD.sub (ws' := (wd_1ad0248d h0 h1 h3 x72 h1 h2 v1 x84 v3 x74 h2 g0 f5 h3 g1 fn75)) [0, 1, 2, 3] (by decide) rfl
            have hK9 := hK.sub (tys' := []) [] rfl
            exact W.zret (v := 1) hx hb hr rfl (fun t ht hW => ⟨⟨1, 1, rfl, rfl, Or.inl ⟨x72, x84, x74, fn75, qa_x72, qb_x72, oa_x84, ob_x84, by first | omega | decide, by first | omega | decide, by omega, by first | assumption | (apply pg_L.stop <;> first | assumption | omega) | exact pg_L.stop (by assumption) (pg_s.here (by rw [pg_ch.off (by omega)]; decide)) (by rw [pg_ch.off (by omega)]; decide), by rw [ht]; exact hP9, va_K.moved hW.alike hK9, hD9⟩⟩, hS.F ht⟩) hS.2.2 dX3_readCondition_64
          · skip
            obtain ⟨x85, oa_x85, ob_x85, pt0_ra83, pt1_ra83, pt2_ra83, pt3_ra83, pt4_ra83, pt5_ra83, pt6_ra83, hP1, hK1, hD1⟩ := hB
            rw [ht] at hP1
            obtain ⟨hP2, hD2⟩ := va_join (wr := (wd_b958b9da h0 h1 h3 x72 h3 g1 fn75)) (w1 := (wd_82cdd16b h1 h2 v1 x85 v3 x74 h2 g0 f5)) hP hD [1, 2] [0, 3] rfl rfl (by decide) (by decide) hk1 hFc hP1 hD1
            clear hP hD hPc hDc hKc hFc hP1 hK1 hD1 hk1 hz1
            generalize H1 = H at hP2 hS ⊢
            have hP := hP2.sub (ws' := (wd_1ad0248d h0 h1 h3 x72 h1 h2 v1 x85 v3 x74 h2 g0 f5 h3 g1 fn75)) [0, 2, 3, 1] rfl
            have hD := hD2.sub (ws' := (wd_1ad0248d h0 h1 h3 x72 h1 h2 v1 x85 v3 x74 h2 g0 f5 h3 g1 fn75)) [0, 2, 3, 1] (by decide) rfl
            clear hP2 hD2
            refine lv_bipush (v := 124) hx hb dX3_readCondition_27 (by decide) ?_
            refine lv_icmp_ne (tgt := 63) hx hb dX3_readCondition_29 (by decide) (fun c86 => ?_) (fun c86 => ?_)
            · skip
              have fc86 : ¬ (ra83.toInt = 124) := fun h9 => c86 (Int32.toInt_inj.mp h9)
              refine lv_iconst (v := 1) hx hb dX3_readCondition_63 (by decide) ?_
              subst hQ
              have hP9 := hP.sub (ws' := (wd_1ad0248d h0 h1 h3 x72 h1 h2 v1 x85 v3 x74 h2 g0 f5 h3 g1 fn75)) [0, 1, 2, 3] rfl
              have hD9 := hD.sub (ws' := (wd_1ad0248d h0 h1 h3 x72 h1 h2 v1 x85 v3 x74 h2 g0 f5 h3 g1 fn75)) [0, 1, 2, 3] (by decide) rfl
              have hK9 := hK.sub (tys' := []) [] rfl
              exact W.zret (v := 1) hx hb hr rfl (fun t ht hW => ⟨⟨1, 1, rfl, rfl, Or.inl ⟨x72, x85, x74, fn75, qa_x72, qb_x72, oa_x85, by first | omega | decide, by first | omega | decide, by first | omega | decide, by omega, by first | assumption | (apply pg_L.stop <;> first | assumption | omega) | exact pg_L.stop (by assumption) (pg_s.here (by rw [pg_ch.off (by omega)]; decide)) (by rw [pg_ch.off (by omega)]; decide), by rw [ht]; exact hP9, va_K.moved hW.alike hK9, hD9⟩⟩, hS.F ht⟩) hS.2.2 dX3_readCondition_64
            · skip
              have fc86 : ra83.toInt = 124 := congrArg Int32.toInt c86
              refine lv_aload_n hx hb dX3_readCondition_32 rfl (lv_at hl 1 rfl) ?_
              refine va_get (D := (dC, dI)) (ci := 3) (v := .ref h1) (C := RX3) (T := TX3) (N := 3) hx hb hts (fun _ h => List.mem_cons_of_mem _ (List.mem_append_left _ (List.mem_append_right _ h))) hown hK hP 0 rfl rfl 0 (by decide) (hts (.fieldLink RX3 19 "LeftArguments$LawReader" "tape" "LLeftArguments$Tape;") (List.mem_cons_of_mem _ (List.mem_append_left _ (List.mem_append_left _ (List.mem_of_getElem? (i := 2) rfl))))) (fun _ h9 => h9) rfl dX3_readCondition_33 ?_
              have hPc := hP.sub (ws' := (wd_09b0abee h1 h2 v1 x85 v3 x74)) [1] rfl
              have hDc := hD.sub (ws' := (wd_09b0abee h1 h2 v1 x85 v3 x74)) [1] (by decide) rfl
              have hKc := hK.sub (tys' := []) [] rfl
              have hFc := va_free (wc := (wd_09b0abee h1 h2 v1 x85 v3 x74)) hD hS hA [1] rfl
              refine va_callv (va_runV (As := []) (rest := []) ⟨hx, hb, hml, hown, hts⟩ (k_X10_step l dC dI h1 h2 v1 x85 v3 x74 ⟨i_v1a, i_v1b⟩ ⟨oa_x85, ob_x85⟩ H.size) (cwV 0 hts g_X3_readCondition_2 rfl rfl rfl (by decide +kernel) ⟨Nat.le_of_ble_eq_true rfl, Nat.le_of_ble_eq_true rfl⟩) (pv_PV10 hPc hKc hDc (q0 := 0) rfl) rfl rfl hl.1 rfl (lv_room (Nat.le_of_ble_eq_true rfl)) dX3_readCondition_36 ⟨Nat.le_of_ble_eq_true rfl, Nat.le_of_ble_eq_true rfl⟩) hS (fun q _ h => hFc q h) hFc (fun u t H1 locs ht hvm hwra87 hB hz1 hk1 hS => ?_)
              obtain ⟨x88, oa_x88, ob_x88, pt0_ra87, hP1, hK1, hD1⟩ := hB
              rw [ht] at hP1
              obtain ⟨hP2, hD2⟩ := va_join (wr := (wd_6b0d8e05 h0 h1 h3 x72 h2 g0 f5 h3 g1 fn75)) (w1 := (wd_09b0abee h1 h2 v1 x88 v3 x74)) hP hD [1] [0, 2, 3] rfl rfl (by decide) (by decide) hk1 hFc hP1 hD1
              clear hP hD hPc hDc hKc hFc hP1 hK1 hD1 hk1 hz1
              generalize H1 = H at hP2 hS ⊢
              have hP := hP2.sub (ws' := (wd_1ad0248d h0 h1 h3 x72 h1 h2 v1 x88 v3 x74 h2 g0 f5 h3 g1 fn75)) [0, 3, 1, 2] rfl
              have hD := hD2.sub (ws' := (wd_1ad0248d h0 h1 h3 x72 h1 h2 v1 x88 v3 x74 h2 g0 f5 h3 g1 fn75)) [0, 3, 1, 2] (by decide) rfl
              clear hP2 hD2
              refine lv_aload_n hx hb dX3_readCondition_39 rfl (lv_at hl 1 rfl) ?_
              refine lv_iload_n hx hb dX3_readCondition_40 rfl (lv_at hl 2 rfl) ?_
              refine lv_iconst (v := 0) hx hb dX3_readCondition_41 (by decide) ?_
              have hPc := hP.sub (ws' := (wd_1ad0248d h0 h1 h3 x72 h1 h2 v1 x88 v3 x74 h2 g0 f5 h3 g1 fn75)) [0, 1, 2, 3] rfl
              have hDc := hD.sub (ws' := (wd_1ad0248d h0 h1 h3 x72 h1 h2 v1 x88 v3 x74 h2 g0 f5 h3 g1 fn75)) [0, 1, 2, 3] (by decide) rfl
              have hKc := hK.sub (tys' := [(g0, .int), (g1, .int)]) [0, 1] rfl
              have hFc := va_free (wc := (wd_1ad0248d h0 h1 h3 x72 h1 h2 v1 x88 v3 x74 h2 g0 f5 h3 g1 fn75)) hD hS hA [0, 1, 2, 3] rfl
              refine va_calli (va_runV (As := [.int 6, .int 0]) (rest := []) ⟨hx, hb, hml, hown, hts⟩ (k_X3_readTruth l dC dI adK adV h0 h1 h2 h3 x72 v1 x88 v3 x74 g0 f5 g1 fn75 ⟨qa_x72, qb_x72⟩ ⟨i_v1a, i_v1b⟩ ⟨by first | omega | decide, ob_x88⟩ ia_f5 H.size) (cwV 2 hts g_X3_readCondition_0 rfl rfl rfl (by decide +kernel) ⟨Nat.le_of_ble_eq_true rfl, Nat.le_of_ble_eq_true rfl⟩) ⟨fun a U g mk q => by obtain ⟨q0, q1, qP, qK, qD, n0, n1, n2⟩ := q; exact ⟨q0, q1, qP, va_K.moved (u := U) (U := U.calling g mk a) (Vm.Alike.refl U.vm) qK, qD, vk_R.same rfl n0, va_Z.moved (Vm.Alike.refl _) n1, vk_S.moved (Vm.Alike.refl _) n2⟩, pv_rc3 hKc hPc (q0 := 0) rfl, fun U hU hW => ⟨rfl, by rw [hU], by rw [hU]; exact hPc, va_K.moved hW.alike hKc, hDc.weaken (fun _ _ _ _ => trivial), vk_R.warm hW h_vr_2, (by rw [hU]; exact (va_Z.moved hW.alike (va_Z.kept h_st_CS hS.2.1)).narrow hFc), (by rw [hU]; exact (vk_S.moved hW.alike (vk_S.kept h_st_S hS.2.1)).narrow hFc)⟩⟩ rfl rfl hl.1 rfl (lv_room (Nat.le_of_ble_eq_true rfl)) dX3_readCondition_42 ⟨Nat.le_of_ble_eq_true rfl, Nat.le_of_ble_eq_true rfl⟩) hS (fun q _ h => hFc q h) hFc (fun ra89 u t H1 locs ht hvm hwra89 hB hz1 hk1 hS => ?_)
              try rw [hwra89] at hB
              rcases hB with hB | hB
              · skip
                obtain ⟨x90, x91, x92, fn93, oa_x90, ob_x90, oa_x91, ob_x91, pt0_ra89, pt1_ra89, pt2_ra89, pt3_ra89, hP1, hK1, hD1⟩ := hB
                rw [ht] at hP1
                obtain ⟨hP2, hD2⟩ := va_join (wr := []) (w1 := (wd_1ad0248d h0 h1 h3 x90 h1 h2 v1 x91 v3 x92 h2 g0 f5 h3 g1 fn93)) hP hD [0, 1, 2, 3] [] rfl rfl (by decide) (by decide) hk1 hFc hP1 hD1
                clear hP hD hPc hDc hKc hFc hP1 hK1 hD1 hk1 hz1
                generalize H1 = H at hP2 hS ⊢
                have hP : va_P (dC, dI) vwCl (wd_1ad0248d h0 h1 h3 x90 h1 h2 v1 x91 v3 x92 h2 g0 f5 h3 g1 fn93) H := hP2
                have hD : va_D A (wd_1ad0248d h0 h1 h3 x90 h1 h2 v1 x91 v3 x92 h2 g0 f5 h3 g1 fn93) := hD2
                clear hP2 hD2
                obtain rfl : ra89 = (1 : Int32) := pv_cs (by decide) pt0_ra89 pt1_ra89
                refine lv_if_ne (tgt := 50) hx hb dX3_readCondition_45 (by decide) (fun _ => ?_) (fun c => absurd c (by decide))
                refine lv_aload_n hx hb dX3_readCondition_50 rfl (lv_at hl 1 rfl) ?_
                refine lv_bipush (v := 11) hx hb dX3_readCondition_51 (by decide) ?_
                refine lv_iconst (v := 0) hx hb dX3_readCondition_53 (by decide) ?_
                have hPc := hP.sub (ws' := (wd_b958b9da h0 h1 h3 x90 h3 g1 fn93)) [0, 3] rfl
                have hDc := hD.sub (ws' := (wd_b958b9da h0 h1 h3 x90 h3 g1 fn93)) [0, 3] (by decide) rfl
                have hKc := hK.sub (tys' := [(g1, .int)]) [1] rfl
                have hFc := va_free (wc := (wd_b958b9da h0 h1 h3 x90 h3 g1 fn93)) hD hS hA [0, 3] rfl
                refine va_callv (va_runV (As := [.int 11, .int 0]) (rest := []) ⟨hx, hb, hml, hown, hts⟩ (k_X3_write l dC dI h0 h3 h1 x90 g1 fn93 11 0 ⟨oa_x90, ob_x90⟩ H.size) (cwV 2 hts g_X3_readCondition_4 rfl rfl rfl (by decide +kernel) ⟨Nat.le_of_ble_eq_true rfl, Nat.le_of_ble_eq_true rfl⟩) (pv_PV3 hPc hKc hDc (q0 := 0) rfl) rfl rfl hl.1 rfl (lv_room (Nat.le_of_ble_eq_true rfl)) dX3_readCondition_54 ⟨Nat.le_of_ble_eq_true rfl, Nat.le_of_ble_eq_true rfl⟩) hS (fun q _ h => hFc q h) hFc (fun u t H1 locs ht hvm hwra94 hB hz1 hk1 hS => ?_)
                obtain ⟨x95, fn96, oa_x95, ob_x95, hP1, hK1, hD1⟩ := hB
                rw [ht] at hP1
                obtain ⟨hP2, hD2⟩ := va_join (wr := (wd_82cdd16b h1 h2 v1 x91 v3 x92 h2 g0 f5)) (w1 := (wd_b958b9da h0 h1 h3 x95 h3 g1 fn96)) hP hD [0, 3] [1, 2] rfl rfl (by decide) (by decide) hk1 hFc hP1 hD1
                clear hP hD hPc hDc hKc hFc hP1 hK1 hD1 hk1 hz1
                generalize H1 = H at hP2 hS ⊢
                have hP := hP2.sub (ws' := (wd_1ad0248d h0 h1 h3 x95 h1 h2 v1 x91 v3 x92 h2 g0 f5 h3 g1 fn96)) [2, 0, 1, 3] rfl
                have hD := hD2.sub (ws' := (wd_1ad0248d h0 h1 h3 x95 h1 h2 v1 x91 v3 x92 h2 g0 f5 h3 g1 fn96)) [2, 0, 1, 3] (by decide) rfl
                clear hP2 hD2
                obtain ⟨t97, et97⟩ : ∃ y : Int32, y = x71 + 1 := ⟨_, rfl⟩
                have gt97 : t97.toInt = x71.toInt + (1) := pv_add (a := x71.toInt) (b := (1)) et97 rfl (by decide) (by omega) (by omega)
                refine lv_iinc (v := t97) (lv' := [(3, .int t97), (0, .ref h0), (1, .int 6), (2, .int 0)]) hx hb dX3_readCondition_57 hl (k := 0) rfl (by rw [et97]; rfl) (by decide) rfl (fun ls hl => ?_)
                refine lv_goto (tgt := 13) hx hb dX3_readCondition_60 (by decide) ?_
                exact ih_hL81 t97 x95 x91 x92 fn96 H locs ls (by first | omega | decide) (by first | omega | decide) oa_x95 ob_x95 oa_x91 ob_x91 (by first | assumption | (apply pg_row.go <;> first | assumption | omega) | (apply pg_L.bi <;> first | assumption | omega) | (apply pg_L.step <;> first | assumption | omega)) (by first | omega | ((have h09 : ((0 : Int32)).toInt = 0 := by decide); omega)) (by omega) (by first | omega | (simp only [Int.toNat] at *; omega)) hP hD hS (lv_sub hl [0, 1, 2, 3] rfl)
              · skip
                obtain ⟨x98, x99, x100, x101, fn102, oa_x98, ob_x98, oa_x99, ob_x99, oa_x100, ob_x100, pt0_ra89, pt1_ra89, pt2_ra89, pt3_ra89, hP1, hK1, hD1⟩ := hB
                rw [ht] at hP1
                obtain ⟨hP2, hD2⟩ := va_join (wr := []) (w1 := (wd_1ad0248d h0 h1 h3 x98 h1 h2 v1 x99 x100 x101 h2 g0 f5 h3 g1 fn102)) hP hD [0, 1, 2, 3] [] rfl rfl (by decide) (by decide) hk1 hFc hP1 hD1
                clear hP hD hPc hDc hKc hFc hP1 hK1 hD1 hk1 hz1
                generalize H1 = H at hP2 hS ⊢
                have hP : va_P (dC, dI) vwCl (wd_1ad0248d h0 h1 h3 x98 h1 h2 v1 x99 x100 x101 h2 g0 f5 h3 g1 fn102) H := hP2
                have hD : va_D A (wd_1ad0248d h0 h1 h3 x98 h1 h2 v1 x99 x100 x101 h2 g0 f5 h3 g1 fn102) := hD2
                clear hP2 hD2
                obtain rfl : ra89 = (0 : Int32) := pv_cs (by decide) pt0_ra89 pt1_ra89
                refine lv_if_ne (tgt := 50) hx hb dX3_readCondition_45 (by decide) (fun c => absurd (by decide) c) (fun _ => ?_)
                refine lv_iconst (v := 0) hx hb dX3_readCondition_48 (by decide) ?_
                subst hQ
                have hP9 := hP.sub (ws' := (wd_1ad0248d h0 h1 h3 x98 h1 h2 v1 x99 x100 x101 h2 g0 f5 h3 g1 fn102)) [0, 1, 2, 3] rfl
                have hD9 := hD.sub (ws' := (wd_1ad0248d h0 h1 h3 x98 h1 h2 v1 x99 x100 x101 h2 g0 f5 h3 g1 fn102)) [0, 1, 2, 3] (by decide) rfl
                have hK9 := hK.sub (tys' := []) [] rfl
                exact W.zret (v := 0) hx hb hr rfl (fun t ht hW => ⟨⟨0, 0, rfl, rfl, Or.inr (⟨x98, x99, x100, x101, fn102, oa_x98, ob_x98, oa_x99, ob_x99, oa_x100, ob_x100, by first | omega | decide, by first | omega | decide, by omega, by first | assumption | (apply pg_bind.no <;> first | assumption | omega) | (apply pg_L.no <;> first | assumption | omega), by rw [ht]; exact hP9, va_K.moved hW.alike hK9, hD9⟩)⟩, hS.F ht⟩) hS.2.2 dX3_readCondition_49
    exact hL81 _ 0 x2 x3 x4 fn5 H locs ls (by decide) (by decide) oa_x2 ob_x2 oa_x3 ob_x3 (by first | assumption | (apply pg_row.go <;> first | assumption | omega) | (apply pg_L.bi <;> first | assumption | omega) | (apply pg_L.step <;> first | assumption | omega)) (by first | omega | ((have h09 : ((0 : Int32)).toInt = 0 := by decide); omega)) (by omega) (Nat.lt_succ_self _) hP hD hS (lv_sub hl [0, 1, 2, 3] rfl)
  · skip
    obtain ⟨x103, x104, x105, x106, fn107, oa_x103, ob_x103, oa_x104, ob_x104, oa_x105, ob_x105, pt0_ra1, pt1_ra1, pt2_ra1, pt3_ra1, hP1, hK1, hD1⟩ := hB
    rw [ht] at hP1
    obtain ⟨hP2, hD2⟩ := va_join (wr := []) (w1 := (wd_1ad0248d h0 h1 h3 x103 h1 h2 v1 x104 x105 x106 h2 g0 f5 h3 g1 fn107)) hP hD [0, 1, 2, 3] [] rfl rfl (by decide) (by decide) hk1 hFc hP1 hD1
    clear hP hD hPc hDc hKc hFc hP1 hK1 hD1 hk1 hz1
    generalize H1 = H at hP2 hS ⊢
    have hP : va_P (dC, dI) vwCl (wd_1ad0248d h0 h1 h3 x103 h1 h2 v1 x104 x105 x106 h2 g0 f5 h3 g1 fn107) H := hP2
    have hD : va_D A (wd_1ad0248d h0 h1 h3 x103 h1 h2 v1 x104 x105 x106 h2 g0 f5 h3 g1 fn107) := hD2
    clear hP2 hD2
    obtain rfl : ra1 = (0 : Int32) := pv_cs (by decide) pt0_ra1 pt1_ra1
    refine lv_if_ne (tgt := 11) hx hb dX3_readCondition_6 (by decide) (fun c => absurd (by decide) c) (fun _ => ?_)
    refine lv_iconst (v := 0) hx hb dX3_readCondition_9 (by decide) ?_
    subst hQ
    have hP9 := hP.sub (ws' := (wd_1ad0248d h0 h1 h3 x103 h1 h2 v1 x104 x105 x106 h2 g0 f5 h3 g1 fn107)) [0, 1, 2, 3] rfl
    have hD9 := hD.sub (ws' := (wd_1ad0248d h0 h1 h3 x103 h1 h2 v1 x104 x105 x106 h2 g0 f5 h3 g1 fn107)) [0, 1, 2, 3] (by decide) rfl
    have hK9 := hK.sub (tys' := []) [] rfl
    exact W.zret (v := 0) hx hb hr rfl (fun t ht hW => ⟨⟨0, 0, rfl, rfl, Or.inr (⟨x103, x104, x105, x106, fn107, oa_x103, ob_x103, oa_x104, ob_x104, oa_x105, ob_x105, by first | omega | decide, by first | omega | decide, by omega, by first | assumption | (apply pg_bind.no <;> first | assumption | omega) | (apply pg_L.no <;> first | assumption | omega), by rw [ht]; exact hP9, va_K.moved hW.alike hK9, hD9⟩)⟩, hS.F ht⟩) hS.2.2 dX3_readCondition_10
def q_X10_take_3 : List Cond := .code yX10_take cX10_take 2 (some .boolean) :: (([.code yX10_next cX10_next 1 (some .int), .fieldLink RX10 19 "LeftArguments$Tape" "at" "I", .fieldLink RX10 15 "LeftArguments$Tape" "used" "I", .fieldLink RX10 9 "LeftArguments$Tape" "bytes" "[I", .initialized RX10, .instanceMethod yX10_next, .selects RX10 yX10_next yX10_next, .methodLink RX10 37 yX10_next, .code yX10_wrongHere cX10_wrongHere 1 (some .boolean), .fieldLink RX10 22 "LeftArguments$Tape" "wrongAt" "I", .instanceMethod yX10_wrongHere, .selects RX10 yX10_wrongHere yX10_wrongHere, .methodLink RX10 41 yX10_wrongHere] : List Cond) ++ wsX100)
set_option maxRecDepth 20000 in
theorem g_X10_take_3_0 : GoodIn q_X10_take_3 (wsV RX10 37 RX10 yX10_next q_X10_next) := goodIn_app (goodIn_r _ [8, 6, 7, 5] rfl (by decide +kernel)) (goodIn_ca (goodIn_r (.code yX10_next cX10_next 1 (some .int) :: [.fieldLink RX10 19 "LeftArguments$Tape" "at" "I", .fieldLink RX10 15 "LeftArguments$Tape" "used" "I", .fieldLink RX10 9 "LeftArguments$Tape" "bytes" "[I"]) [1, 2, 3, 4] rfl (by decide +kernel)) (goodIn_sub (fun _ h => List.mem_cons_of_mem _ (List.mem_append_right _ h)) gwX10))
set_option maxRecDepth 20000 in
theorem g_X10_take_3_1 : GoodIn q_X10_take_3 (wsV RX10 41 RX10 yX10_wrongHere q_X10_wrongHere) := goodIn_app (goodIn_r _ [13, 11, 12, 5] rfl (by decide +kernel)) (goodIn_ca (goodIn_r (.code yX10_wrongHere cX10_wrongHere 1 (some .boolean) :: [.fieldLink RX10 19 "LeftArguments$Tape" "at" "I", .fieldLink RX10 22 "LeftArguments$Tape" "wrongAt" "I"]) [9, 2, 10] rfl (by decide +kernel)) (goodIn_sub (fun _ h => List.mem_cons_of_mem _ (List.mem_append_right _ h)) gwX10))
set_option maxHeartbeats 4000000 in
set_option maxRecDepth 100000 in
theorem k_X10_take_3 (l : Launch) (dC : Nat → ClassId) (dI : Nat → Nat → Nat) (h0 : Nat) (h1 : Nat) (v0 : Int32) (v1 : Int32) (v2 : Int32) (v3 : Int32) (g0 : ClassId) (f4 : Nat → Int32) (i_v0 : 0 ≤ v0.toInt ∧ v0.toInt ≤ 240) (i_v1 : 0 ≤ v1.toInt ∧ v1.toInt ≤ 240) (ia_f4 : (∀ j, 0 ≤ (f4 j).toInt ∧ (f4 j).toInt ≤ 255)) (sz : Nat) : Met l yX10_take q_X10_take_3 ({ frames := 1, cells := 0, slots := 0, locals := 20 }) (va_Pc [.ref h0, .int 41] (fun U => U.heap.size = sz ∧ va_P (dC, dI) vwCl (wd_82cdd16b h0 h1 v0 v1 v2 v3 h1 g0 f4) U.heap ∧ va_K (dC, dI) vwCl [(g0, .int)] U ∧ va_D (fun _ => True) (wd_82cdd16b h0 h1 v0 v1 v2 v3 h1 g0 f4))) (va_Qi (fun (r : Int32) (r9 : Int32) => r9 = r) (fun (r : Int32) (t : State) => (∃ (o_h0_2 : Int32), 1 ≤ o_h0_2.toInt ∧ o_h0_2.toInt ≤ 240 ∧ (1 ≤ r.toInt) ∧ (r.toInt ≤ 1) ∧ (v1.toInt ≤ o_h0_2.toInt) ∧ (pg_take f4 v0.toInt 41 v1.toInt = (true, o_h0_2.toInt)) ∧ va_P (dC, dI) vwCl (wd_82cdd16b h0 h1 v0 o_h0_2 v2 v3 h1 g0 f4) t.heap ∧ va_K (dC, dI) vwCl [] t ∧ va_D (va_A (wd_82cdd16b h0 h1 v0 v1 v2 v3 h1 g0 f4) sz) (wd_82cdd16b h0 h1 v0 o_h0_2 v2 v3 h1 g0 f4)) ∨ (∃ (o_h0_2 : Int32) (o_h0_3 : Int32), 0 ≤ o_h0_2.toInt ∧ o_h0_2.toInt ≤ 240 ∧ 0 ≤ o_h0_3.toInt ∧ o_h0_3.toInt ≤ 240 ∧ (0 ≤ r.toInt) ∧ (r.toInt ≤ 0) ∧ (v1.toInt ≤ o_h0_2.toInt) ∧ (pg_take f4 v0.toInt 41 v1.toInt = (false, o_h0_3.toInt)) ∧ va_P (dC, dI) vwCl (wd_82cdd16b h0 h1 v0 o_h0_2 o_h0_3 v3 h1 g0 f4) t.heap ∧ va_K (dC, dI) vwCl [] t ∧ va_D (va_A (wd_82cdd16b h0 h1 v0 v1 v2 v3 h1 g0 f4) sz) (wd_82cdd16b h0 h1 v0 o_h0_2 o_h0_3 v3 h1 g0 f4))) (va_A (wd_82cdd16b h0 h1 v0 v1 v2 v3 h1 g0 f4) sz)) 0 0 (va_A (wd_82cdd16b h0 h1 v0 v1 v2 v3 h1 g0 f4) sz) := by
  refine Met.ofW (cc := cX10_take) (maxL := 2) (ret := (some .boolean)) (by decide) rfl ?_
  intro p e s m args below meth c s₁ B hml hv
  obtain ⟨i_v0a, i_v0b⟩ := i_v0
  obtain ⟨i_v1a, i_v1b⟩ := i_v1
  obtain ⟨rfl, hsz, hP, hK, hD0⟩ := hv
  have hx := B.exec
  have hb := B.bytes
  have hr := B.returns
  have hts := atoms_spec (ws := q_X10_take_3) B.pre
  have hown : s.vm.findClass RX10 = some m.cls := findClass_of_methodNamed B.named
  have hlocks := B.notSynchronized
  subst hsz
  have hD := hD0.self (sz := s.heap.size)
  generalize hAe : va_A (wd_82cdd16b h0 h1 v0 v1 v2 v3 h1 g0 f4) s.heap.size = A at hD ⊢
  have hA : ∀ q : Nat, s.heap.size ≤ q → A q := fun q h => by rw [← hAe]; exact Or.inr h
  have hS : va_S A s.heap s.heap [] := va_S.rf
  generalize hQ : (MQ below _ _ s 0 0 A) = Q
  have hl := lv_entry ([.ref h0, .int 41]) (n := 2) (Nat.le_of_ble_eq_true rfl)
  rw [lg_entry_eq]
  generalize (lg_sl ([.ref h0, .int 41]) ++ List.replicate (2 - (lg_sl ([.ref h0, .int 41])).length) Slot.unset).toArray = ls at hl ⊢
  have hl : lv_has ls 2 [(0, .ref h0), (1, .int 41)] := hl
  obtain ⟨H, hH⟩ : ∃ H : Heap, H = s.heap := ⟨_, rfl⟩
  obtain ⟨locs, hlocs⟩ : ∃ y : List Loc, y = [] := ⟨_, rfl⟩
  have hS : va_S A s.heap H locs := by rw [hH, hlocs]; exact va_S.rf
  have hP : va_P (dC, dI) vwCl (wd_82cdd16b h0 h1 v0 v1 v2 v3 h1 g0 f4) H := by rw [hH]; exact hP
  rw [← hH, ← hlocs]
  refine lv_aload_n hx hb dX10_take_0 rfl (lv_at hl 0 rfl) ?_
  have hPc := hP.sub (ws' := (wd_82cdd16b h0 h1 v0 v1 v2 v3 h1 g0 f4)) [0, 1] rfl
  have hDc := hD.sub (ws' := (wd_82cdd16b h0 h1 v0 v1 v2 v3 h1 g0 f4)) [0, 1] (by decide) rfl
  have hKc := hK.sub (tys' := [(g0, .int)]) [0] rfl
  have hFc := va_free (wc := (wd_82cdd16b h0 h1 v0 v1 v2 v3 h1 g0 f4)) hD hS hA [0, 1] rfl
  refine va_calli (va_runV (As := []) (rest := []) ⟨hx, hb, hml, hown, hts⟩ (k_X10_next l dC dI h0 h1 v0 v1 v2 v3 g0 f4 ⟨i_v0a, i_v0b⟩ ⟨i_v1a, i_v1b⟩ ia_f4 H.size) (cwV 0 hts g_X10_take_3_0 rfl rfl rfl (by decide +kernel) ⟨Nat.le_of_ble_eq_true rfl, Nat.le_of_ble_eq_true rfl⟩) (pv_PV10 hPc hKc hDc (q0 := 0) rfl) rfl rfl hl.1 rfl (lv_room (Nat.le_of_ble_eq_true rfl)) dX10_take_1 ⟨Nat.le_of_ble_eq_true rfl, Nat.le_of_ble_eq_true rfl⟩) hS (fun q _ h => hFc q h) hFc (fun ra1 u t H1 locs ht hvm hwra1 hB hz1 hk1 hS => ?_)
  try rw [hwra1] at hB
  rcases hB with hB | hB
  · skip
    obtain ⟨x2, oa_x2, ob_x2, pt0_ra1, pt1_ra1, pt2_ra1, pt3_ra1, pt4_ra1, pt5_ra1, pt6_ra1, hP1, hK1, hD1⟩ := hB
    rw [ht] at hP1
    obtain ⟨hP2, hD2⟩ := va_join (wr := []) (w1 := (wd_82cdd16b h0 h1 v0 x2 v2 v3 h1 g0 f4)) hP hD [0, 1] [] rfl rfl (by decide) (by decide) hk1 hFc hP1 hD1
    clear hP hD hPc hDc hKc hFc hP1 hK1 hD1 hk1 hz1
    generalize H1 = H at hP2 hS ⊢
    have hP : va_P (dC, dI) vwCl (wd_82cdd16b h0 h1 v0 x2 v2 v3 h1 g0 f4) H := hP2
    have hD : va_D A (wd_82cdd16b h0 h1 v0 x2 v2 v3 h1 g0 f4) := hD2
    clear hP2 hD2
    obtain rfl : ra1 = ((-1) : Int32) := pv_cs (by decide) pt0_ra1 pt1_ra1
    refine lv_iload_n hx hb dX10_take_4 rfl (lv_at hl 1 rfl) ?_
    refine lv_icmp_eq (tgt := 13) hx hb dX10_take_5 (by decide) (fun c => absurd c (by decide)) (fun _ => ?_)
    refine lv_aload_n hx hb dX10_take_8 rfl (lv_at hl 0 rfl) ?_
    have hPc := hP.sub (ws' := (wd_09b0abee h0 h1 v0 x2 v2 v3)) [0] rfl
    have hDc := hD.sub (ws' := (wd_09b0abee h0 h1 v0 x2 v2 v3)) [0] (by decide) rfl
    have hKc := hK.sub (tys' := []) [] rfl
    have hFc := va_free (wc := (wd_09b0abee h0 h1 v0 x2 v2 v3)) hD hS hA [0] rfl
    refine va_calli (va_runV (As := []) (rest := []) ⟨hx, hb, hml, hown, hts⟩ (k_X10_wrongHere l dC dI h0 h1 v0 x2 v2 v3 ⟨i_v0a, i_v0b⟩ ⟨oa_x2, ob_x2⟩ H.size) (cwV 0 hts g_X10_take_3_1 rfl rfl rfl (by decide +kernel) ⟨Nat.le_of_ble_eq_true rfl, Nat.le_of_ble_eq_true rfl⟩) (pv_PV10 hPc hKc hDc (q0 := 0) rfl) rfl rfl hl.1 rfl (lv_room (Nat.le_of_ble_eq_true rfl)) dX10_take_9 ⟨Nat.le_of_ble_eq_true rfl, Nat.le_of_ble_eq_true rfl⟩) hS (fun q _ h => hFc q h) hFc (fun ra3 u t H1 locs ht hvm hwra3 hB hz1 hk1 hS => ?_)
    try rw [hwra3] at hB
    obtain ⟨x4, oa_x4, ob_x4, pt0_ra3, pt1_ra3, pt2_ra3, hP1, hK1, hD1⟩ := hB
    rw [ht] at hP1
    obtain ⟨hP2, hD2⟩ := va_join (wr := (wd_d0032b31 h1 g0 f4)) (w1 := (wd_09b0abee h0 h1 v0 x2 x4 v3)) hP hD [0] [1] rfl rfl (by decide) (by decide) hk1 hFc hP1 hD1
    clear hP hD hPc hDc hKc hFc hP1 hK1 hD1 hk1 hz1
    generalize H1 = H at hP2 hS ⊢
    have hP := hP2.sub (ws' := (wd_82cdd16b h0 h1 v0 x2 x4 v3 h1 g0 f4)) [1, 0] rfl
    have hD := hD2.sub (ws' := (wd_82cdd16b h0 h1 v0 x2 x4 v3 h1 g0 f4)) [1, 0] (by decide) rfl
    clear hP2 hD2
    obtain rfl : ra3 = (0 : Int32) := pv_cs (by decide) pt0_ra3 pt1_ra3
    subst hQ
    have hP9 := hP.sub (ws' := (wd_82cdd16b h0 h1 v0 x2 x4 v3 h1 g0 f4)) [0, 1] rfl
    have hD9 := hD.sub (ws' := (wd_82cdd16b h0 h1 v0 x2 x4 v3 h1 g0 f4)) [0, 1] (by decide) rfl
    have hK9 := hK.sub (tys' := []) [] rfl
    exact W.zret (v := 0) hx hb hr rfl (fun t ht hW => ⟨⟨0, 0, rfl, rfl, Or.inr (⟨x2, x4, oa_x2, ob_x2, oa_x4, ob_x4, by first | omega | decide, by first | omega | decide, by omega, by first | (apply pg_take.ok <;> first | assumption | omega) | (apply pg_take.no <;> first | assumption | omega), by rw [ht]; exact hP9, va_K.moved hW.alike hK9, hD9⟩)⟩, hS.F ht⟩) hS.2.2 dX10_take_12
  · skip
    obtain ⟨x5, oa_x5, ob_x5, pt0_ra1, pt1_ra1, pt2_ra1, pt3_ra1, pt4_ra1, pt5_ra1, pt6_ra1, hP1, hK1, hD1⟩ := hB
    rw [ht] at hP1
    obtain ⟨hP2, hD2⟩ := va_join (wr := []) (w1 := (wd_82cdd16b h0 h1 v0 x5 v2 v3 h1 g0 f4)) hP hD [0, 1] [] rfl rfl (by decide) (by decide) hk1 hFc hP1 hD1
    clear hP hD hPc hDc hKc hFc hP1 hK1 hD1 hk1 hz1
    generalize H1 = H at hP2 hS ⊢
    have hP : va_P (dC, dI) vwCl (wd_82cdd16b h0 h1 v0 x5 v2 v3 h1 g0 f4) H := hP2
    have hD : va_D A (wd_82cdd16b h0 h1 v0 x5 v2 v3 h1 g0 f4) := hD2
    clear hP2 hD2
    refine lv_iload_n hx hb dX10_take_4 rfl (lv_at hl 1 rfl) ?_
    refine lv_icmp_eq (tgt := 13) hx hb dX10_take_5 (by decide) (fun c6 => ?_) (fun c6 => ?_)
    · skip
      have fc6 : ra1.toInt = 41 := congrArg Int32.toInt c6
      refine lv_aload_n hx hb dX10_take_13 rfl (lv_at hl 0 rfl) ?_
      refine lv_dup hx hb dX10_take_14 rfl ?_
      refine va_get (D := (dC, dI)) (ci := 10) (v := .int x5) (C := RX10) (T := TX10) (N := 5) hx hb hts (fun _ h => List.mem_cons_of_mem _ (List.mem_append_right _ h)) hown hK hP 0 rfl rfl 2 (by decide) (hts (.fieldLink RX10 19 "LeftArguments$Tape" "at" "I") (List.mem_cons_of_mem _ (List.mem_append_left _ (List.mem_of_getElem? (i := 1) rfl)))) (fun _ h9 => h9) rfl dX10_take_15 ?_
      refine lv_iconst (v := 1) hx hb dX10_take_18 (by decide) ?_
      refine lv_iadd hx hb dX10_take_19 ?_
      refine lv_topi (fun t7 et7 => ?_)
      have gt7 : t7.toInt = x5.toInt + 1 := pv_add (a := x5.toInt) (b := 1) et7 rfl (by decide) (by omega) (by omega)
      refine va_put (D := (dC, dI)) (ci := 10) (v := .int t7) (ty := .int) (C := RX10) (T := TX10) (N := 5) hx hb hts (fun _ h => List.mem_cons_of_mem _ (List.mem_append_right _ h)) tyX10 tyX10_ok nmX10 hown hK hP hD hS 0 rfl rfl 2 (by decide) (hts (.fieldLink RX10 19 "LeftArguments$Tape" "at" "I") (List.mem_cons_of_mem _ (List.mem_append_left _ (List.mem_of_getElem? (i := 1) rfl)))) (fun _ h9 => h9) rfl (by decide +kernel) rfl rfl (Nat.le_of_ble_eq_true rfl) dX10_take_20 (fun H locs hP hD hS => ?_)
      have hP : va_P (dC, dI) vwCl (wd_82cdd16b h0 h1 v0 t7 v2 v3 h1 g0 f4) H := hP
      have hD : va_D A (wd_82cdd16b h0 h1 v0 t7 v2 v3 h1 g0 f4) := hD
      refine lv_iconst (v := 1) hx hb dX10_take_23 (by decide) ?_
      subst hQ
      have hP9 := hP.sub (ws' := (wd_82cdd16b h0 h1 v0 t7 v2 v3 h1 g0 f4)) [0, 1] rfl
      have hD9 := hD.sub (ws' := (wd_82cdd16b h0 h1 v0 t7 v2 v3 h1 g0 f4)) [0, 1] (by decide) rfl
      have hK9 := hK.sub (tys' := []) [] rfl
      exact W.zret (v := 1) hx hb hr rfl (fun t ht hW => ⟨⟨1, 1, rfl, rfl, Or.inl ⟨t7, by first | omega | decide, by first | omega | decide, by first | omega | decide, by first | omega | decide, by omega, by first | (apply pg_take.ok <;> first | assumption | omega) | (apply pg_take.no <;> first | assumption | omega), by rw [ht]; exact hP9, va_K.moved hW.alike hK9, hD9⟩⟩, hS.F ht⟩) hS.2.2 dX10_take_24
    · skip
      have fc6 : ¬ (ra1.toInt = 41) := fun h9 => c6 (Int32.toInt_inj.mp h9)
      refine lv_aload_n hx hb dX10_take_8 rfl (lv_at hl 0 rfl) ?_
      have hPc := hP.sub (ws' := (wd_09b0abee h0 h1 v0 x5 v2 v3)) [0] rfl
      have hDc := hD.sub (ws' := (wd_09b0abee h0 h1 v0 x5 v2 v3)) [0] (by decide) rfl
      have hKc := hK.sub (tys' := []) [] rfl
      have hFc := va_free (wc := (wd_09b0abee h0 h1 v0 x5 v2 v3)) hD hS hA [0] rfl
      refine va_calli (va_runV (As := []) (rest := []) ⟨hx, hb, hml, hown, hts⟩ (k_X10_wrongHere l dC dI h0 h1 v0 x5 v2 v3 ⟨i_v0a, i_v0b⟩ ⟨oa_x5, by first | omega | decide⟩ H.size) (cwV 0 hts g_X10_take_3_1 rfl rfl rfl (by decide +kernel) ⟨Nat.le_of_ble_eq_true rfl, Nat.le_of_ble_eq_true rfl⟩) (pv_PV10 hPc hKc hDc (q0 := 0) rfl) rfl rfl hl.1 rfl (lv_room (Nat.le_of_ble_eq_true rfl)) dX10_take_9 ⟨Nat.le_of_ble_eq_true rfl, Nat.le_of_ble_eq_true rfl⟩) hS (fun q _ h => hFc q h) hFc (fun ra8 u t H1 locs ht hvm hwra8 hB hz1 hk1 hS => ?_)
      try rw [hwra8] at hB
      obtain ⟨x9, oa_x9, ob_x9, pt0_ra8, pt1_ra8, pt2_ra8, hP1, hK1, hD1⟩ := hB
      rw [ht] at hP1
      obtain ⟨hP2, hD2⟩ := va_join (wr := (wd_d0032b31 h1 g0 f4)) (w1 := (wd_09b0abee h0 h1 v0 x5 x9 v3)) hP hD [0] [1] rfl rfl (by decide) (by decide) hk1 hFc hP1 hD1
      clear hP hD hPc hDc hKc hFc hP1 hK1 hD1 hk1 hz1
      generalize H1 = H at hP2 hS ⊢
      have hP := hP2.sub (ws' := (wd_82cdd16b h0 h1 v0 x5 x9 v3 h1 g0 f4)) [1, 0] rfl
      have hD := hD2.sub (ws' := (wd_82cdd16b h0 h1 v0 x5 x9 v3 h1 g0 f4)) [1, 0] (by decide) rfl
      clear hP2 hD2
      obtain rfl : ra8 = (0 : Int32) := pv_cs (by decide) pt0_ra8 pt1_ra8
      subst hQ
      have hP9 := hP.sub (ws' := (wd_82cdd16b h0 h1 v0 x5 x9 v3 h1 g0 f4)) [0, 1] rfl
      have hD9 := hD.sub (ws' := (wd_82cdd16b h0 h1 v0 x5 x9 v3 h1 g0 f4)) [0, 1] (by decide) rfl
      have hK9 := hK.sub (tys' := []) [] rfl
      exact W.zret (v := 0) hx hb hr rfl (fun t ht hW => ⟨⟨0, 0, rfl, rfl, Or.inr (⟨x5, x9, oa_x5, by first | omega | decide, oa_x9, ob_x9, by first | omega | decide, by first | omega | decide, by omega, by first | (apply pg_take.ok <;> first | assumption | omega) | (apply pg_take.no <;> first | assumption | omega), by rw [ht]; exact hP9, va_K.moved hW.alike hK9, hD9⟩)⟩, hS.F ht⟩) hS.2.2 dX10_take_12
