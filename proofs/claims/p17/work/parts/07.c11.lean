abbrev wd_5ddcf59f (p0 : Nat) (p1 : Nat) (p2 : Nat) (p3 : Nat) (p4 : Int32) (p5 : Int32) (p6 : Nat) (p7 : ClassId) (p8 : Nat → Int32) : va_W := [(p0, .inr (6, [.ref p1, .ref p2, .ref p3, .int p4, .int p5])), (p6, .inl (p7, 240, .inl p8))]
abbrev wd_16a8d446 (p0 : Nat) (p1 : Nat) (p2 : Nat) (p3 : Nat) (p4 : Int32) (p5 : Int32) (p6 : Nat) (p7 : Nat) (p8 : Int32) (p9 : Int32) (p10 : Int32) (p11 : Int32) (p12 : Nat) (p13 : ClassId) (p14 : Nat → Int32) (p15 : Nat) (p16 : ClassId) (p17 : Nat → Int32) : va_W := [(p0, .inr (6, [.ref p1, .ref p2, .ref p3, .int p4, .int p5])), (p6, .inr (10, [.ref p7, .int p8, .int p9, .int p10, .int p11])), (p12, .inl (p13, 240, .inl p14)), (p15, .inl (p16, 40, .inl p17))]
abbrev wd_0e707b52 (p0 : Nat) (p1 : Nat) (p2 : Nat) (p3 : Nat) (p4 : Int32) (p5 : Int32) (p6 : Nat) (p7 : ClassId) (p8 : Nat → Int32) : va_W := [(p0, .inr (6, [.ref p1, .ref p2, .ref p3, .int p4, .int p5])), (p6, .inl (p7, 40, .inl p8))]
abbrev wd_a7d1db7f (p0 : Nat) (p1 : Nat) (p2 : Nat) (p3 : Nat) (p4 : Int32) (p5 : Int32) (p6 : Nat) (p7 : ClassId) (p8 : Nat → Int32) (p9 : Nat) (p10 : ClassId) (p11 : Nat → Int32) : va_W := [(p0, .inr (6, [.ref p1, .ref p2, .ref p3, .int p4, .int p5])), (p6, .inl (p7, 240, .inl p8)), (p9, .inl (p10, 40, .inl p11))]
abbrev wd_01f996b1 (p0 : Nat) (p1 : Nat) (p2 : Nat) (p3 : Nat) (p4 : Int32) (p5 : Int32) (p6 : Nat) (p7 : Nat) (p8 : Int32) (p9 : Int32) (p10 : Int32) (p11 : Int32) (p12 : Nat) (p13 : ClassId) (p14 : Nat → Int32) (p15 : Nat) (p16 : ClassId) (p17 : Nat → Int32) : va_W := [(p0, .inr (6, [.ref p1, .ref p2, .ref p3, .int p4, .int p5])), (p6, .inr (10, [.ref p7, .int p8, .int p9, .int p10, .int p11])), (p12, .inl (p13, 240, .inl p14)), (p15, .inl (p16, 4, .inl p17))]
abbrev wd_d3c86de3 (p0 : Nat) (p1 : Nat) (p2 : Nat) (p3 : Nat) (p4 : Int32) (p5 : Int32) (p6 : Nat) (p7 : ClassId) (p8 : Nat → Int32) : va_W := [(p0, .inr (6, [.ref p1, .ref p2, .ref p3, .int p4, .int p5])), (p6, .inl (p7, 4, .inl p8))]
abbrev wd_b8c97548 (p0 : Nat) (p1 : Nat) (p2 : Nat) (p3 : Nat) (p4 : Int32) (p5 : Int32) (p6 : Nat) (p7 : ClassId) (p8 : Nat → Int32) (p9 : Nat) (p10 : ClassId) (p11 : Nat → Int32) : va_W := [(p0, .inr (6, [.ref p1, .ref p2, .ref p3, .int p4, .int p5])), (p6, .inl (p7, 240, .inl p8)), (p9, .inl (p10, 4, .inl p11))]
def q_X3_readTruth_5 : List Cond := .code yX3_readTruth cX3_readTruth 4 (some .boolean) :: (([.code yX3_readUnit cX3_readUnit 5 (some .boolean), .fieldLink RX3 19 "LeftArguments$LawReader" "tape" "LLeftArguments$Tape;", .code yX10_next cX10_next 1 (some .int), .fieldLink RX10 19 "LeftArguments$Tape" "at" "I", .fieldLink RX10 15 "LeftArguments$Tape" "used" "I", .fieldLink RX10 9 "LeftArguments$Tape" "bytes" "[I", .initialized RX10, .instanceMethod yX10_next, .selects RX10 yX10_next yX10_next, .methodLink RX3 48 yX10_next, .code yX3_comparing cX3_comparing 1 (some .int), .initialized RX3, .static yX3_comparing, .methodLink RX3 62 yX3_comparing, .code yX10_step cX10_step 1 none, .instanceMethod yX10_step, .selects RX10 yX10_step yX10_step, .methodLink RX3 77 yX10_step, .code yX3_readSum cX3_readSum 4 (some .boolean), .code yX3_readTerm cX3_readTerm 4 (some .boolean), .code yX3_readAtom cX3_readAtom 4 (some .boolean), .code yX10_isDigit cX10_isDigit 1 (some .boolean), .static yX10_isDigit, .methodLink RX3 92 yX10_isDigit, .code yX3_write cX3_write 3 none, .fieldLink RX3 15 "LeftArguments$LawReader" "used" "I", .fieldLink RX3 11 "LeftArguments$LawReader" "code" "[I", .instanceMethod yX3_write, .selects RX3 yX3_write yX3_write, .methodLink RX3 66 yX3_write, .code yX10_wrongHere cX10_wrongHere 1 (some .boolean), .fieldLink RX10 22 "LeftArguments$Tape" "wrongAt" "I", .instanceMethod yX10_wrongHere, .selects RX10 yX10_wrongHere yX10_wrongHere, .methodLink RX3 83 yX10_wrongHere, .code yJ0_indexOf_0f7a4 cJ0_indexOf_0f7a4 2 (some .int), .code yJ0_indexOf_7cf53 cJ0_indexOf_7cf53 3 (some .int), .code yJ0_isLatin1_aae02 cJ0_isLatin1_aae02 1 (some .boolean), .fieldLink RJ0 38 "java/lang/String" "COMPACT_STRINGS" "Z", .fieldLink RJ0 15 "java/lang/String" "coder" "B", .initialized RJ0, .instanceMethod yJ0_isLatin1_aae02, .selects RJ0 yJ0_isLatin1_aae02 yJ0_isLatin1_aae02, .methodLink RJ0 492 yJ0_isLatin1_aae02, .fieldLink RJ0 9 "java/lang/String" "value" "[B", .code yJ0_length_8abf5 cJ0_length_8abf5 1 (some .int), .code yJ0_coder_7d493 cJ0_coder_7d493 1 (some .byte), .instanceMethod yJ0_coder_7d493, .selects RJ0 yJ0_coder_7d493 yJ0_coder_7d493, .methodLink RJ0 335 yJ0_coder_7d493, .instanceMethod yJ0_length_8abf5, .selects RJ0 yJ0_length_8abf5 yJ0_length_8abf5, .methodLink RJ0 505 yJ0_length_8abf5, .code yJ1_indexOf_4cfef cJ1_indexOf_4cfef 4 (some .int), .code yJ1_canEncode_9a6ad cJ1_canEncode_9a6ad 1 (some .boolean), .initialized RJ1, .static yJ1_canEncode_9a6ad, .methodLink RJ1 88 yJ1_canEncode_9a6ad, .methodLink RJ1 92 Lib.Math.max.name, .static Lib.Math.max.name, .initialized "java/lang/Math", .code Lib.Math.max.name Lib.Math.max.code 2 (some .int), .methodLink RJ1 38 Lib.Math.min.name, .static Lib.Math.min.name, .code Lib.Math.min.name Lib.Math.min.code 2 (some .int), .code yJ1_indexOfChar_4cfef cJ1_indexOfChar_4cfef 6 (some .int), .static yJ1_indexOfChar_4cfef, .methodLink RJ1 95 yJ1_indexOfChar_4cfef, .static yJ1_indexOf_4cfef, .methodLink RJ0 637 yJ1_indexOf_4cfef, .instanceMethod yJ0_indexOf_7cf53, .selects RJ0 yJ0_indexOf_7cf53 yJ0_indexOf_7cf53, .methodLink RJ0 633 yJ0_indexOf_7cf53, .instanceMethod yJ0_indexOf_0f7a4, .selects RJ0 yJ0_indexOf_0f7a4 yJ0_indexOf_0f7a4, .methodLink RX3 103 yJ0_indexOf_0f7a4, .code yX10_takeNumber cX10_takeNumber 3 (some .boolean), .methodLink RX10 37 yX10_next, .methodLink RX10 45 yX10_isDigit, .fieldLink RX10 25 "LeftArguments$Tape" "number" "I", .code yX10_sign cX10_sign 1 (some .int), .instanceMethod yX10_sign, .selects RX10 yX10_sign yX10_sign, .methodLink RX10 49 yX10_sign, .methodLink RX10 41 yX10_wrongHere, .instanceMethod yX10_takeNumber, .selects RX10 yX10_takeNumber yX10_takeNumber, .methodLink RX3 95 yX10_takeNumber, .code yX10_number cX10_number 1 (some .int), .instanceMethod yX10_number, .selects RX10 yX10_number yX10_number, .methodLink RX3 98 yX10_number, .instanceMethod yX3_readAtom, .selects RX3 yX3_readAtom yX3_readAtom, .methodLink RX3 89 yX3_readAtom, .instanceMethod yX3_readTerm, .selects RX3 yX3_readTerm yX3_readTerm, .methodLink RX3 86 yX3_readTerm, .instanceMethod yX3_readSum, .selects RX3 yX3_readSum yX3_readSum, .methodLink RX3 59 yX3_readSum, .code yX10_take cX10_take 2 (some .boolean), .instanceMethod yX10_take, .selects RX10 yX10_take yX10_take, .methodLink RX3 51 yX10_take, .instanceMethod yX3_readUnit, .selects RX3 yX3_readUnit yX3_readUnit, .methodLink RX3 80 yX3_readUnit, .code yX3_readCondition cX3_readCondition 4 (some .boolean), .code yX3_readTruth cX3_readTruth 4 (some .boolean), .instanceMethod yX3_readTruth, .selects RX3 yX3_readTruth yX3_readTruth, .methodLink RX3 74 yX3_readTruth, .instanceMethod yX3_readCondition, .selects RX3 yX3_readCondition yX3_readCondition, .methodLink RX3 70 yX3_readCondition] : List Cond) ++ wsX30 ++ wsX100)
set_option maxRecDepth 20000 in
theorem g_X3_readTruth_5_0 : GoodIn q_X3_readTruth_5 (wsV RX3 80 RX3 yX3_readUnit q_X3_readUnit_5) := goodIn_app (goodIn_r _ [108, 106, 107, 12] rfl (by decide +kernel)) (goodIn_ca (goodIn_ca (goodIn_r (.code yX3_readUnit cX3_readUnit 5 (some .boolean) :: [.fieldLink RX3 19 "LeftArguments$LawReader" "tape" "LLeftArguments$Tape;", .code yX10_next cX10_next 1 (some .int), .fieldLink RX10 19 "LeftArguments$Tape" "at" "I", .fieldLink RX10 15 "LeftArguments$Tape" "used" "I", .fieldLink RX10 9 "LeftArguments$Tape" "bytes" "[I", .initialized RX10, .instanceMethod yX10_next, .selects RX10 yX10_next yX10_next, .methodLink RX3 48 yX10_next, .code yX3_comparing cX3_comparing 1 (some .int), .initialized RX3, .static yX3_comparing, .methodLink RX3 62 yX3_comparing, .code yX10_step cX10_step 1 none, .instanceMethod yX10_step, .selects RX10 yX10_step yX10_step, .methodLink RX3 77 yX10_step, .code yX3_readSum cX3_readSum 4 (some .boolean), .code yX3_readTerm cX3_readTerm 4 (some .boolean), .code yX3_readAtom cX3_readAtom 4 (some .boolean), .code yX10_isDigit cX10_isDigit 1 (some .boolean), .static yX10_isDigit, .methodLink RX3 92 yX10_isDigit, .code yX3_write cX3_write 3 none, .fieldLink RX3 15 "LeftArguments$LawReader" "used" "I", .fieldLink RX3 11 "LeftArguments$LawReader" "code" "[I", .instanceMethod yX3_write, .selects RX3 yX3_write yX3_write, .methodLink RX3 66 yX3_write, .code yX10_wrongHere cX10_wrongHere 1 (some .boolean), .fieldLink RX10 22 "LeftArguments$Tape" "wrongAt" "I", .instanceMethod yX10_wrongHere, .selects RX10 yX10_wrongHere yX10_wrongHere, .methodLink RX3 83 yX10_wrongHere, .code yJ0_indexOf_0f7a4 cJ0_indexOf_0f7a4 2 (some .int), .code yJ0_indexOf_7cf53 cJ0_indexOf_7cf53 3 (some .int), .code yJ0_isLatin1_aae02 cJ0_isLatin1_aae02 1 (some .boolean), .fieldLink RJ0 38 "java/lang/String" "COMPACT_STRINGS" "Z", .fieldLink RJ0 15 "java/lang/String" "coder" "B", .initialized RJ0, .instanceMethod yJ0_isLatin1_aae02, .selects RJ0 yJ0_isLatin1_aae02 yJ0_isLatin1_aae02, .methodLink RJ0 492 yJ0_isLatin1_aae02, .fieldLink RJ0 9 "java/lang/String" "value" "[B", .code yJ0_length_8abf5 cJ0_length_8abf5 1 (some .int), .code yJ0_coder_7d493 cJ0_coder_7d493 1 (some .byte), .instanceMethod yJ0_coder_7d493, .selects RJ0 yJ0_coder_7d493 yJ0_coder_7d493, .methodLink RJ0 335 yJ0_coder_7d493, .instanceMethod yJ0_length_8abf5, .selects RJ0 yJ0_length_8abf5 yJ0_length_8abf5, .methodLink RJ0 505 yJ0_length_8abf5, .code yJ1_indexOf_4cfef cJ1_indexOf_4cfef 4 (some .int), .code yJ1_canEncode_9a6ad cJ1_canEncode_9a6ad 1 (some .boolean), .initialized RJ1, .static yJ1_canEncode_9a6ad, .methodLink RJ1 88 yJ1_canEncode_9a6ad, .methodLink RJ1 92 Lib.Math.max.name, .static Lib.Math.max.name, .initialized "java/lang/Math", .code Lib.Math.max.name Lib.Math.max.code 2 (some .int), .methodLink RJ1 38 Lib.Math.min.name, .static Lib.Math.min.name, .code Lib.Math.min.name Lib.Math.min.code 2 (some .int), .code yJ1_indexOfChar_4cfef cJ1_indexOfChar_4cfef 6 (some .int), .static yJ1_indexOfChar_4cfef, .methodLink RJ1 95 yJ1_indexOfChar_4cfef, .static yJ1_indexOf_4cfef, .methodLink RJ0 637 yJ1_indexOf_4cfef, .instanceMethod yJ0_indexOf_7cf53, .selects RJ0 yJ0_indexOf_7cf53 yJ0_indexOf_7cf53, .methodLink RJ0 633 yJ0_indexOf_7cf53, .instanceMethod yJ0_indexOf_0f7a4, .selects RJ0 yJ0_indexOf_0f7a4 yJ0_indexOf_0f7a4, .methodLink RX3 103 yJ0_indexOf_0f7a4, .code yX10_takeNumber cX10_takeNumber 3 (some .boolean), .methodLink RX10 37 yX10_next, .methodLink RX10 45 yX10_isDigit, .fieldLink RX10 25 "LeftArguments$Tape" "number" "I", .code yX10_sign cX10_sign 1 (some .int), .instanceMethod yX10_sign, .selects RX10 yX10_sign yX10_sign, .methodLink RX10 49 yX10_sign, .methodLink RX10 41 yX10_wrongHere, .instanceMethod yX10_takeNumber, .selects RX10 yX10_takeNumber yX10_takeNumber, .methodLink RX3 95 yX10_takeNumber, .code yX10_number cX10_number 1 (some .int), .instanceMethod yX10_number, .selects RX10 yX10_number yX10_number, .methodLink RX3 98 yX10_number, .instanceMethod yX3_readAtom, .selects RX3 yX3_readAtom yX3_readAtom, .methodLink RX3 89 yX3_readAtom, .instanceMethod yX3_readTerm, .selects RX3 yX3_readTerm yX3_readTerm, .methodLink RX3 86 yX3_readTerm, .instanceMethod yX3_readSum, .selects RX3 yX3_readSum yX3_readSum, .methodLink RX3 59 yX3_readSum, .code yX10_take cX10_take 2 (some .boolean), .instanceMethod yX10_take, .selects RX10 yX10_take yX10_take, .methodLink RX3 51 yX10_take, .code yX3_readUnit cX3_readUnit 5 (some .boolean), .instanceMethod yX3_readUnit, .selects RX3 yX3_readUnit yX3_readUnit, .methodLink RX3 80 yX3_readUnit, .code yX3_readCondition cX3_readCondition 4 (some .boolean), .code yX3_readTruth cX3_readTruth 4 (some .boolean), .instanceMethod yX3_readTruth, .selects RX3 yX3_readTruth yX3_readTruth, .methodLink RX3 74 yX3_readTruth, .instanceMethod yX3_readCondition, .selects RX3 yX3_readCondition yX3_readCondition, .methodLink RX3 70 yX3_readCondition]) [1, 2, 3, 4, 5, 6, 7, 8, 9, 10, 11, 12, 13, 14, 15, 16, 17, 18, 19, 20, 21, 22, 23, 24, 25, 26, 27, 28, 29, 30, 31, 32, 33, 34, 35, 36, 37, 38, 39, 40, 41, 42, 43, 44, 45, 46, 47, 48, 49, 50, 51, 52, 53, 54, 55, 56, 57, 58, 59, 60, 61, 62, 63, 64, 65, 66, 67, 68, 69, 70, 71, 72, 73, 74, 75, 76, 77, 78, 79, 80, 81, 82, 83, 84, 85, 86, 87, 88, 89, 90, 91, 92, 93, 94, 95, 96, 97, 98, 99, 100, 101, 102, 103, 104, 105, 1, 106, 107, 108, 109, 110, 111, 112, 113, 114, 115, 116] rfl (by decide +kernel)) (goodIn_sub (fun _ h => List.mem_cons_of_mem _ (List.mem_append_left _ (List.mem_append_right _ h))) gwX3)) (goodIn_sub (fun _ h => List.mem_cons_of_mem _ (List.mem_append_right _ h)) gwX10))
set_option maxRecDepth 20000 in
theorem g_X3_readTruth_5_1 : GoodIn q_X3_readTruth_5 (wsV RX3 48 RX10 yX10_next q_X10_next) := goodIn_app (goodIn_r _ [10, 8, 9, 7] rfl (by decide +kernel)) (goodIn_ca (goodIn_r (.code yX10_next cX10_next 1 (some .int) :: [.fieldLink RX10 19 "LeftArguments$Tape" "at" "I", .fieldLink RX10 15 "LeftArguments$Tape" "used" "I", .fieldLink RX10 9 "LeftArguments$Tape" "bytes" "[I"]) [3, 4, 5, 6] rfl (by decide +kernel)) (goodIn_sub (fun _ h => List.mem_cons_of_mem _ (List.mem_append_right _ h)) gwX10))
set_option maxRecDepth 20000 in
theorem g_X3_readTruth_5_2 : GoodIn q_X3_readTruth_5 (wsV RX3 77 RX10 yX10_step q_X10_step) := goodIn_app (goodIn_r _ [18, 16, 17, 7] rfl (by decide +kernel)) (goodIn_ca (goodIn_r (.code yX10_step cX10_step 1 none :: [.fieldLink RX10 19 "LeftArguments$Tape" "at" "I"]) [15, 4] rfl (by decide +kernel)) (goodIn_sub (fun _ h => List.mem_cons_of_mem _ (List.mem_append_right _ h)) gwX10))
set_option maxRecDepth 20000 in
theorem g_X3_readTruth_5_4 : GoodIn q_X3_readTruth_5 (wsV RX3 66 RX3 yX3_write q_X3_write) := goodIn_app (goodIn_r _ [30, 28, 29, 12] rfl (by decide +kernel)) (goodIn_ca (goodIn_r (.code yX3_write cX3_write 3 none :: [.fieldLink RX3 15 "LeftArguments$LawReader" "used" "I", .fieldLink RX3 11 "LeftArguments$LawReader" "code" "[I"]) [25, 26, 27] rfl (by decide +kernel)) (goodIn_sub (fun _ h => List.mem_cons_of_mem _ (List.mem_append_left _ (List.mem_append_right _ h))) gwX3))
set_option maxHeartbeats 4000000 in
set_option maxRecDepth 100000 in
theorem k_X3_readTruth_5 (l : Launch) (dC : Nat → ClassId) (dI : Nat → Nat → Nat) (adK : Nat → Nat) (adV : Nat → Nat) (h0 : Nat) (h1 : Nat) (h2 : Nat) (h3 : Nat) (v0 : Int32) (v1 : Int32) (v2 : Int32) (v3 : Int32) (v4 : Int32) (g0 : ClassId) (f5 : Nat → Int32) (g1 : ClassId) (f6 : Nat → Int32) (v7 : Int32) (i_v0 : 0 ≤ v0.toInt ∧ v0.toInt ≤ 256) (i_v1 : 0 ≤ v1.toInt ∧ v1.toInt ≤ 240) (i_v7 : 0 ≤ v7.toInt ∧ v7.toInt ≤ 1) (sz : Nat) : Met l yX3_readTruth q_X3_readTruth_5 ({ frames := 23, cells := 0, slots := 0, locals := 534 }) (va_Pc [.ref h0, .int 1, .int v7] (fun U => U.heap.size = sz ∧ va_P (dC, dI) vwCl (wd_1ad0248d h0 h1 h3 v0 h1 h2 v1 v2 v3 v4 h2 g0 f5 h3 g1 f6) U.heap ∧ va_K (dC, dI) vwCl [(g0, .int), (g1, .int)] U ∧ va_D (fun _ => True) (wd_1ad0248d h0 h1 h3 v0 h1 h2 v1 v2 v3 v4 h2 g0 f5 h3 g1 f6) ∧ vk_R RX3 101 "zaondt" (adK 2) U ∧ va_Z "java/lang/String" "COMPACT_STRINGS" "Z" (.int 1) (va_A (wd_1ad0248d h0 h1 h3 v0 h1 h2 v1 v2 v3 v4 h2 g0 f5 h3 g1 f6) sz) U U.heap ∧ vk_S 3 pv_len3 pv_byt3 adK adV (va_A (wd_1ad0248d h0 h1 h3 v0 h1 h2 v1 v2 v3 v4 h2 g0 f5 h3 g1 f6) sz) U U.heap)) (va_Qi (fun (r : Int32) (_ : Unit) => 0 ≤ r.toInt ∧ r.toInt ≤ 1) (fun (_ : Unit) (t : State) => ∃ (o_h0_2 : Int32) (o_h1_2 : Int32) (o_h1_3 : Int32) (o_h1_4 : Int32) (o_h3 : Nat → Int32), 0 ≤ o_h0_2.toInt ∧ o_h0_2.toInt ≤ 256 ∧ va_P (dC, dI) vwCl (wd_1ad0248d h0 h1 h3 o_h0_2 h1 h2 v1 o_h1_2 o_h1_3 o_h1_4 h2 g0 f5 h3 g1 o_h3) t.heap ∧ va_K (dC, dI) vwCl [] t ∧ va_D (va_A (wd_1ad0248d h0 h1 h3 v0 h1 h2 v1 v2 v3 v4 h2 g0 f5 h3 g1 f6) sz) (wd_1ad0248d h0 h1 h3 o_h0_2 h1 h2 v1 o_h1_2 o_h1_3 o_h1_4 h2 g0 f5 h3 g1 o_h3)) (va_A (wd_1ad0248d h0 h1 h3 v0 h1 h2 v1 v2 v3 v4 h2 g0 f5 h3 g1 f6) sz)) 0 0 (va_A (wd_1ad0248d h0 h1 h3 v0 h1 h2 v1 v2 v3 v4 h2 g0 f5 h3 g1 f6) sz) := by
  refine Met.ofW (cc := cX3_readTruth) (maxL := 4) (ret := (some .boolean)) (by decide) rfl ?_
  intro p e s m args below meth c s₁ B hml hv
  obtain ⟨i_v0a, i_v0b⟩ := i_v0
  obtain ⟨i_v1a, i_v1b⟩ := i_v1
  obtain ⟨i_v7a, i_v7b⟩ := i_v7
  obtain ⟨rfl, hsz, hP, hK, hD0, h_vr_2, h_st_CS, h_st_S⟩ := hv
  have hx := B.exec
  have hb := B.bytes
  have hr := B.returns
  have hts := atoms_spec (ws := q_X3_readTruth_5) B.pre
  have hown : s.vm.findClass RX3 = some m.cls := findClass_of_methodNamed B.named
  have hlocks := B.notSynchronized
  subst hsz
  have hD := hD0.self (sz := s.heap.size)
  generalize hAe : va_A (wd_1ad0248d h0 h1 h3 v0 h1 h2 v1 v2 v3 v4 h2 g0 f5 h3 g1 f6) s.heap.size = A at hD h_st_CS h_st_S ⊢
  have hA : ∀ q : Nat, s.heap.size ≤ q → A q := fun q h => by rw [← hAe]; exact Or.inr h
  have hS : va_S A s.heap s.heap [] := va_S.rf
  generalize hQ : (MQ below _ _ s 0 0 A) = Q
  have hl := lv_entry ([.ref h0, .int 1, .int v7]) (n := 4) (Nat.le_of_ble_eq_true rfl)
  rw [lg_entry_eq]
  generalize (lg_sl ([.ref h0, .int 1, .int v7]) ++ List.replicate (4 - (lg_sl ([.ref h0, .int 1, .int v7])).length) Slot.unset).toArray = ls at hl ⊢
  have hl : lv_has ls 4 [(0, .ref h0), (1, .int 1), (2, .int v7)] := hl
  obtain ⟨H, hH⟩ : ∃ H : Heap, H = s.heap := ⟨_, rfl⟩
  obtain ⟨locs, hlocs⟩ : ∃ y : List Loc, y = [] := ⟨_, rfl⟩
  have hS : va_S A s.heap H locs := by rw [hH, hlocs]; exact va_S.rf
  have hP : va_P (dC, dI) vwCl (wd_1ad0248d h0 h1 h3 v0 h1 h2 v1 v2 v3 v4 h2 g0 f5 h3 g1 f6) H := by rw [hH]; exact hP
  rw [← hH, ← hlocs]
  refine lv_aload_n hx hb dX3_readTruth_0 rfl (lv_at hl 0 rfl) ?_
  refine lv_iload_n hx hb dX3_readTruth_1 rfl (lv_at hl 1 rfl) ?_
  refine lv_iload_n hx hb dX3_readTruth_2 rfl (lv_at hl 2 rfl) ?_
  have hPc := hP.sub (ws' := (wd_1ad0248d h0 h1 h3 v0 h1 h2 v1 v2 v3 v4 h2 g0 f5 h3 g1 f6)) [0, 1, 2, 3] rfl
  have hDc := hD.sub (ws' := (wd_1ad0248d h0 h1 h3 v0 h1 h2 v1 v2 v3 v4 h2 g0 f5 h3 g1 f6)) [0, 1, 2, 3] (by decide) rfl
  have hKc := hK.sub (tys' := [(g0, .int), (g1, .int)]) [0, 1] rfl
  have hFc := va_free (wc := (wd_1ad0248d h0 h1 h3 v0 h1 h2 v1 v2 v3 v4 h2 g0 f5 h3 g1 f6)) hD hS hA [0, 1, 2, 3] rfl
  refine va_calli (va_runV (As := [.int 1, .int v7]) (rest := []) ⟨hx, hb, hml, hown, hts⟩ (k_X3_readUnit_5 l dC dI adK adV h0 h1 h2 h3 v0 v1 v2 v3 v4 g0 f5 g1 f6 v7 ⟨by first | omega | decide, by first | omega | decide⟩ ⟨by first | omega | decide, by first | omega | decide⟩ ⟨by first | omega | decide, by first | omega | decide⟩ H.size) (cwV 2 hts g_X3_readTruth_5_0 rfl rfl rfl (by decide +kernel) ⟨Nat.le_of_ble_eq_true rfl, Nat.le_of_ble_eq_true rfl⟩) ⟨fun a U g mk q => by obtain ⟨q0, q1, qP, qK, qD, n0, n1, n2⟩ := q; exact ⟨q0, q1, qP, va_K.moved (u := U) (U := U.calling g mk a) (Vm.Alike.refl U.vm) qK, qD, vk_R.same rfl n0, va_Z.moved (Vm.Alike.refl _) n1, vk_S.moved (Vm.Alike.refl _) n2⟩, va_recv hKc hPc (ci := 3) (q0 := 0) rfl rfl, fun U hU hW => ⟨rfl, by rw [hU], by rw [hU]; exact hPc, va_K.moved hW.alike hKc, hDc.weaken (fun _ _ _ _ => trivial), vk_R.warm hW h_vr_2, (by rw [hU]; exact (va_Z.moved hW.alike (va_Z.kept h_st_CS hS.2.1)).narrow hFc), (by rw [hU]; exact (vk_S.moved hW.alike (vk_S.kept h_st_S hS.2.1)).narrow hFc)⟩⟩ rfl rfl hl.1 rfl (lv_room (Nat.le_of_ble_eq_true rfl)) dX3_readTruth_3 ⟨Nat.le_of_ble_eq_true rfl, Nat.le_of_ble_eq_true rfl⟩) hS (fun q _ h => hFc q h) hFc (fun ra1 u t H1 locs ht hvm hwra1 hB hz1 hk1 hS => ?_)
  obtain ⟨x2, x3, x4, x5, fn6, oa_x2, ob_x2, hP1, hK1, hD1⟩ := hB
  rw [ht] at hP1
  obtain ⟨hP, hD⟩ := va_join (wr := []) (w1 := (wd_1ad0248d h0 h1 h3 x2 h1 h2 v1 x3 x4 x5 h2 g0 f5 h3 g1 fn6)) hP hD [0, 1, 2, 3] [] rfl rfl (by decide) (by decide) hk1 hFc hP1 hD1
  generalize H1 = H at hP hS ⊢
  have hP : va_P (dC, dI) vwCl (wd_1ad0248d h0 h1 h3 x2 h1 h2 v1 x3 x4 x5 h2 g0 f5 h3 g1 fn6) H := hP
  have hD : va_D A (wd_1ad0248d h0 h1 h3 x2 h1 h2 v1 x3 x4 x5 h2 g0 f5 h3 g1 fn6) := hD
  obtain ⟨wa_ra1, wb_ra1⟩ := hwra1
  have wa_ra1 : 0 ≤ ra1.toInt := wa_ra1
  have wb_ra1 : ra1.toInt ≤ 1 := wb_ra1
  refine lv_if_ne (tgt := 11) hx hb dX3_readTruth_6 (by decide) (fun c7 => ?_) (fun c7 => ?_)
  · skip
    have fc7 : ¬ (ra1.toInt = 0) := fun h9 => c7 (Int32.toInt_inj.mp h9)
    refine lv_iconst (v := 0) hx hb dX3_readTruth_11 (by decide) ?_
    refine lv_istore_n (lv' := [(3, .int 0), (0, .ref h0), (1, .int 1), (2, .int v7)]) hx hb dX3_readTruth_12 rfl hl (by decide) rfl (fun ls hl => ?_)
    have hL98 : ∀ (n9 : Nat), ∀ (x86 : Int32) (x87 : Int32) (x88 : Int32) (x89 : Int32) (x90 : Int32) (fn91 : Nat → Int32) (H : Heap) (locs : List Loc) (ls : Array Slot), 0 ≤ x86.toInt → x86.toInt ≤ 240 → 0 ≤ x87.toInt → x87.toInt ≤ 256 → (240 - x86.toInt).toNat < n9 → va_P (dC, dI) vwCl (wd_1ad0248d h0 h1 h3 x87 h1 h2 v1 x88 x89 x90 h2 g0 f5 h3 g1 fn91) H → va_D A (wd_1ad0248d h0 h1 h3 x87 h1 h2 v1 x88 x89 x90 h2 g0 f5 h3 g1 fn91) → va_S A s.heap H locs → lv_has ls 4 [(3, .int x86), (0, .ref h0), (1, .int 1), (2, .int v7)] → W p l e ({ frames := 23, cells := 0, slots := 0, locals := 534 }) s m ([.ref h0, .int 1, .int v7] : List Value).toArray below meth c H locs 0 0 Q (F0 m 13 ls []) := by
      intro n9
      induction n9 with
      | zero => intro x86 x87 x88 x89 x90 fn91 H locs ls qa_x86 qb_x86 qa_x87 qb_x87 hm9 hP hD hS hl; exact absurd hm9 (Nat.not_lt_zero _)
      | succ n9 ih_hL98 =>
        intro x86 x87 x88 x89 x90 fn91 H locs ls qa_x86 qb_x86 qa_x87 qb_x87 hm9 hP hD hS hl
        refine lv_iload_n hx hb dX3_readTruth_13 rfl (lv_at hl 0 rfl) ?_
        refine lv_sipush (v := 240) hx hb dX3_readTruth_14 (by decide) ?_
        refine lv_icmp_ge (tgt := 63) hx hb dX3_readTruth_17 (by decide) (fun c99 => ?_) (fun c99 => ?_)
        · skip
          have fc99 : 240 ≤ x86.toInt := Int32.le_iff_toInt_le.mp c99
          refine lv_iconst (v := 1) hx hb dX3_readTruth_63 (by decide) ?_
          subst hQ
          have hP9 := hP.sub (ws' := (wd_1ad0248d h0 h1 h3 x87 h1 h2 v1 x88 x89 x90 h2 g0 f5 h3 g1 fn91)) [0, 1, 2, 3] rfl
          have hD9 := hD.sub (ws' := (wd_1ad0248d h0 h1 h3 x87 h1 h2 v1 x88 x89 x90 h2 g0 f5 h3 g1 fn91)) [0, 1, 2, 3] (by decide) rfl
          have hK9 := hK.sub (tys' := []) [] rfl
          exact W.zret (v := 1) hx hb hr rfl (fun t ht hW => ⟨⟨1, (), rfl, ⟨by first | omega | decide, by first | omega | decide⟩, x87, x88, x89, x90, fn91, by first | omega | decide, by first | omega | decide, by rw [ht]; exact hP9, va_K.moved hW.alike hK9, hD9⟩, hS.F ht⟩) hS.2.2 dX3_readTruth_64
        · skip
          have fc99 : ¬ (240 ≤ x86.toInt) := fun h9 => c99 (Int32.le_iff_toInt_le.mpr h9)
          refine lv_aload_n hx hb dX3_readTruth_20 rfl (lv_at hl 1 rfl) ?_
          refine va_get (D := (dC, dI)) (ci := 3) (v := .ref h1) (C := RX3) (T := TX3) (N := 3) hx hb hts (fun _ h => List.mem_cons_of_mem _ (List.mem_append_left _ (List.mem_append_right _ h))) hown hK hP 0 rfl rfl 0 (by decide) (hts (.fieldLink RX3 19 "LeftArguments$LawReader" "tape" "LLeftArguments$Tape;") (List.mem_cons_of_mem _ (List.mem_append_left _ (List.mem_append_left _ (List.mem_of_getElem? (i := 1) rfl))))) (fun _ h9 => h9) rfl dX3_readTruth_21 ?_
          have hPc := hP.sub (ws' := (wd_82cdd16b h1 h2 v1 x88 x89 x90 h2 g0 f5)) [1, 2] rfl
          have hDc := hD.sub (ws' := (wd_82cdd16b h1 h2 v1 x88 x89 x90 h2 g0 f5)) [1, 2] (by decide) rfl
          have hKc := hK.sub (tys' := [(g0, .int)]) [0] rfl
          have hFc := va_free (wc := (wd_82cdd16b h1 h2 v1 x88 x89 x90 h2 g0 f5)) hD hS hA [1, 2] rfl
          refine va_calli (va_runV (As := []) (rest := []) ⟨hx, hb, hml, hown, hts⟩ (k_X10_next l dC dI h1 h2 v1 x88 x89 x90 g0 f5 ⟨by first | omega | decide, by first | omega | decide⟩ H.size) (cwV 0 hts g_X3_readTruth_5_1 rfl rfl rfl (by decide +kernel) ⟨Nat.le_of_ble_eq_true rfl, Nat.le_of_ble_eq_true rfl⟩) ⟨fun a U g mk q => by obtain ⟨q0, q1, qP, qK, qD⟩ := q; exact ⟨q0, q1, qP, va_K.moved (u := U) (U := U.calling g mk a) (Vm.Alike.refl U.vm) qK, qD⟩, va_recv hKc hPc (ci := 10) (q0 := 0) rfl rfl, fun U hU hW => ⟨rfl, by rw [hU], by rw [hU]; exact hPc, va_K.moved hW.alike hKc, hDc.weaken (fun _ _ _ _ => trivial)⟩⟩ rfl rfl hl.1 rfl (lv_room (Nat.le_of_ble_eq_true rfl)) dX3_readTruth_24 ⟨Nat.le_of_ble_eq_true rfl, Nat.le_of_ble_eq_true rfl⟩) hS (fun q _ h => hFc q h) hFc (fun ra100 u t H1 locs ht hvm hwra100 hB hz1 hk1 hS => ?_)
          obtain ⟨x101, hP1, hK1, hD1⟩ := hB
          rw [ht] at hP1
          obtain ⟨hP, hD⟩ := va_join (wr := (wd_b958b9da h0 h1 h3 x87 h3 g1 fn91)) (w1 := (wd_82cdd16b h1 h2 v1 x101 x89 x90 h2 g0 f5)) hP hD [1, 2] [0, 3] rfl rfl (by decide) (by decide) hk1 hFc hP1 hD1
          generalize H1 = H at hP hS ⊢
          have hP := hP.sub (ws' := (wd_1ad0248d h0 h1 h3 x87 h1 h2 v1 x101 x89 x90 h2 g0 f5 h3 g1 fn91)) [0, 2, 3, 1] rfl
          have hD := hD.sub (ws' := (wd_1ad0248d h0 h1 h3 x87 h1 h2 v1 x101 x89 x90 h2 g0 f5 h3 g1 fn91)) [0, 2, 3, 1] (by decide) rfl
          have hP : va_P (dC, dI) vwCl (wd_1ad0248d h0 h1 h3 x87 h1 h2 v1 x101 x89 x90 h2 g0 f5 h3 g1 fn91) H := hP
          have hD : va_D A (wd_1ad0248d h0 h1 h3 x87 h1 h2 v1 x101 x89 x90 h2 g0 f5 h3 g1 fn91) := hD
          refine lv_bipush (v := 38) hx hb dX3_readTruth_27 (by decide) ?_
          refine lv_icmp_ne (tgt := 63) hx hb dX3_readTruth_29 (by decide) (fun c102 => ?_) (fun c102 => ?_)
          · skip
            have fc102 : ¬ (ra100.toInt = 38) := fun h9 => c102 (Int32.toInt_inj.mp h9)
            refine lv_iconst (v := 1) hx hb dX3_readTruth_63 (by decide) ?_
            subst hQ
            have hP9 := hP.sub (ws' := (wd_1ad0248d h0 h1 h3 x87 h1 h2 v1 x101 x89 x90 h2 g0 f5 h3 g1 fn91)) [0, 1, 2, 3] rfl
            have hD9 := hD.sub (ws' := (wd_1ad0248d h0 h1 h3 x87 h1 h2 v1 x101 x89 x90 h2 g0 f5 h3 g1 fn91)) [0, 1, 2, 3] (by decide) rfl
            have hK9 := hK.sub (tys' := []) [] rfl
            exact W.zret (v := 1) hx hb hr rfl (fun t ht hW => ⟨⟨1, (), rfl, ⟨by first | omega | decide, by first | omega | decide⟩, x87, x101, x89, x90, fn91, by first | omega | decide, by first | omega | decide, by rw [ht]; exact hP9, va_K.moved hW.alike hK9, hD9⟩, hS.F ht⟩) hS.2.2 dX3_readTruth_64
          · skip
            have fc102 : ra100.toInt = 38 := congrArg Int32.toInt c102
            refine lv_aload_n hx hb dX3_readTruth_32 rfl (lv_at hl 1 rfl) ?_
            refine va_get (D := (dC, dI)) (ci := 3) (v := .ref h1) (C := RX3) (T := TX3) (N := 3) hx hb hts (fun _ h => List.mem_cons_of_mem _ (List.mem_append_left _ (List.mem_append_right _ h))) hown hK hP 0 rfl rfl 0 (by decide) (hts (.fieldLink RX3 19 "LeftArguments$LawReader" "tape" "LLeftArguments$Tape;") (List.mem_cons_of_mem _ (List.mem_append_left _ (List.mem_append_left _ (List.mem_of_getElem? (i := 1) rfl))))) (fun _ h9 => h9) rfl dX3_readTruth_33 ?_
            have hPc := hP.sub (ws' := (wd_09b0abee h1 h2 v1 x101 x89 x90)) [1] rfl
            have hDc := hD.sub (ws' := (wd_09b0abee h1 h2 v1 x101 x89 x90)) [1] (by decide) rfl
            have hKc := hK.sub (tys' := []) [] rfl
            have hFc := va_free (wc := (wd_09b0abee h1 h2 v1 x101 x89 x90)) hD hS hA [1] rfl
            refine va_callv (va_runV (As := []) (rest := []) ⟨hx, hb, hml, hown, hts⟩ (k_X10_step l dC dI h1 h2 v1 x101 x89 x90 ⟨by first | omega | decide, by first | omega | decide⟩ H.size) (cwV 0 hts g_X3_readTruth_5_2 rfl rfl rfl (by decide +kernel) ⟨Nat.le_of_ble_eq_true rfl, Nat.le_of_ble_eq_true rfl⟩) ⟨fun a U g mk q => by obtain ⟨q0, q1, qP, qK, qD⟩ := q; exact ⟨q0, q1, qP, va_K.moved (u := U) (U := U.calling g mk a) (Vm.Alike.refl U.vm) qK, qD⟩, va_recv hKc hPc (ci := 10) (q0 := 0) rfl rfl, fun U hU hW => ⟨rfl, by rw [hU], by rw [hU]; exact hPc, va_K.moved hW.alike hKc, hDc.weaken (fun _ _ _ _ => trivial)⟩⟩ rfl rfl hl.1 rfl (lv_room (Nat.le_of_ble_eq_true rfl)) dX3_readTruth_36 ⟨Nat.le_of_ble_eq_true rfl, Nat.le_of_ble_eq_true rfl⟩) hS (fun q _ h => hFc q h) hFc (fun u t H1 locs ht hvm hwra103 hB hz1 hk1 hS => ?_)
            obtain ⟨x104, hP1, hK1, hD1⟩ := hB
            rw [ht] at hP1
            obtain ⟨hP, hD⟩ := va_join (wr := (wd_6b0d8e05 h0 h1 h3 x87 h2 g0 f5 h3 g1 fn91)) (w1 := (wd_09b0abee h1 h2 v1 x104 x89 x90)) hP hD [1] [0, 2, 3] rfl rfl (by decide) (by decide) hk1 hFc hP1 hD1
            generalize H1 = H at hP hS ⊢
            have hP := hP.sub (ws' := (wd_1ad0248d h0 h1 h3 x87 h1 h2 v1 x104 x89 x90 h2 g0 f5 h3 g1 fn91)) [0, 3, 1, 2] rfl
            have hD := hD.sub (ws' := (wd_1ad0248d h0 h1 h3 x87 h1 h2 v1 x104 x89 x90 h2 g0 f5 h3 g1 fn91)) [0, 3, 1, 2] (by decide) rfl
            have hP : va_P (dC, dI) vwCl (wd_1ad0248d h0 h1 h3 x87 h1 h2 v1 x104 x89 x90 h2 g0 f5 h3 g1 fn91) H := hP
            have hD : va_D A (wd_1ad0248d h0 h1 h3 x87 h1 h2 v1 x104 x89 x90 h2 g0 f5 h3 g1 fn91) := hD
            refine lv_aload_n hx hb dX3_readTruth_39 rfl (lv_at hl 1 rfl) ?_
            refine lv_iload_n hx hb dX3_readTruth_40 rfl (lv_at hl 2 rfl) ?_
            refine lv_iconst (v := 0) hx hb dX3_readTruth_41 (by decide) ?_
            have hPc := hP.sub (ws' := (wd_1ad0248d h0 h1 h3 x87 h1 h2 v1 x104 x89 x90 h2 g0 f5 h3 g1 fn91)) [0, 1, 2, 3] rfl
            have hDc := hD.sub (ws' := (wd_1ad0248d h0 h1 h3 x87 h1 h2 v1 x104 x89 x90 h2 g0 f5 h3 g1 fn91)) [0, 1, 2, 3] (by decide) rfl
            have hKc := hK.sub (tys' := [(g0, .int), (g1, .int)]) [0, 1] rfl
            have hFc := va_free (wc := (wd_1ad0248d h0 h1 h3 x87 h1 h2 v1 x104 x89 x90 h2 g0 f5 h3 g1 fn91)) hD hS hA [0, 1, 2, 3] rfl
            refine va_calli (va_runV (As := [.int 1, .int 0]) (rest := []) ⟨hx, hb, hml, hown, hts⟩ (k_X3_readUnit_5 l dC dI adK adV h0 h1 h2 h3 x87 v1 x104 x89 x90 g0 f5 g1 fn91 0 ⟨by first | omega | decide, by first | omega | decide⟩ ⟨by first | omega | decide, by first | omega | decide⟩ ⟨by first | omega | decide, by first | omega | decide⟩ H.size) (cwV 2 hts g_X3_readTruth_5_0 rfl rfl rfl (by decide +kernel) ⟨Nat.le_of_ble_eq_true rfl, Nat.le_of_ble_eq_true rfl⟩) ⟨fun a U g mk q => by obtain ⟨q0, q1, qP, qK, qD, n0, n1, n2⟩ := q; exact ⟨q0, q1, qP, va_K.moved (u := U) (U := U.calling g mk a) (Vm.Alike.refl U.vm) qK, qD, vk_R.same rfl n0, va_Z.moved (Vm.Alike.refl _) n1, vk_S.moved (Vm.Alike.refl _) n2⟩, va_recv hKc hPc (ci := 3) (q0 := 0) rfl rfl, fun U hU hW => ⟨rfl, by rw [hU], by rw [hU]; exact hPc, va_K.moved hW.alike hKc, hDc.weaken (fun _ _ _ _ => trivial), vk_R.warm hW h_vr_2, (by rw [hU]; exact (va_Z.moved hW.alike (va_Z.kept h_st_CS hS.2.1)).narrow hFc), (by rw [hU]; exact (vk_S.moved hW.alike (vk_S.kept h_st_S hS.2.1)).narrow hFc)⟩⟩ rfl rfl hl.1 rfl (lv_room (Nat.le_of_ble_eq_true rfl)) dX3_readTruth_42 ⟨Nat.le_of_ble_eq_true rfl, Nat.le_of_ble_eq_true rfl⟩) hS (fun q _ h => hFc q h) hFc (fun ra105 u t H1 locs ht hvm hwra105 hB hz1 hk1 hS => ?_)
            obtain ⟨x106, x107, x108, x109, fn110, oa_x106, ob_x106, hP1, hK1, hD1⟩ := hB
            rw [ht] at hP1
            obtain ⟨hP, hD⟩ := va_join (wr := []) (w1 := (wd_1ad0248d h0 h1 h3 x106 h1 h2 v1 x107 x108 x109 h2 g0 f5 h3 g1 fn110)) hP hD [0, 1, 2, 3] [] rfl rfl (by decide) (by decide) hk1 hFc hP1 hD1
            generalize H1 = H at hP hS ⊢
            have hP : va_P (dC, dI) vwCl (wd_1ad0248d h0 h1 h3 x106 h1 h2 v1 x107 x108 x109 h2 g0 f5 h3 g1 fn110) H := hP
            have hD : va_D A (wd_1ad0248d h0 h1 h3 x106 h1 h2 v1 x107 x108 x109 h2 g0 f5 h3 g1 fn110) := hD
            obtain ⟨wa_ra105, wb_ra105⟩ := hwra105
            have wa_ra105 : 0 ≤ ra105.toInt := wa_ra105
            have wb_ra105 : ra105.toInt ≤ 1 := wb_ra105
            refine lv_if_ne (tgt := 50) hx hb dX3_readTruth_45 (by decide) (fun c111 => ?_) (fun c111 => ?_)
            · skip
              have fc111 : ¬ (ra105.toInt = 0) := fun h9 => c111 (Int32.toInt_inj.mp h9)
              refine lv_aload_n hx hb dX3_readTruth_50 rfl (lv_at hl 1 rfl) ?_
              refine lv_bipush (v := 10) hx hb dX3_readTruth_51 (by decide) ?_
              refine lv_iconst (v := 0) hx hb dX3_readTruth_53 (by decide) ?_
              have hPc := hP.sub (ws' := (wd_b958b9da h0 h1 h3 x106 h3 g1 fn110)) [0, 3] rfl
              have hDc := hD.sub (ws' := (wd_b958b9da h0 h1 h3 x106 h3 g1 fn110)) [0, 3] (by decide) rfl
              have hKc := hK.sub (tys' := [(g1, .int)]) [1] rfl
              have hFc := va_free (wc := (wd_b958b9da h0 h1 h3 x106 h3 g1 fn110)) hD hS hA [0, 3] rfl
              refine va_callv (va_runV (As := [.int 10, .int 0]) (rest := []) ⟨hx, hb, hml, hown, hts⟩ (k_X3_write l dC dI h0 h3 h1 x106 g1 fn110 10 0 ⟨by first | omega | decide, by first | omega | decide⟩ H.size) (cwV 2 hts g_X3_readTruth_5_4 rfl rfl rfl (by decide +kernel) ⟨Nat.le_of_ble_eq_true rfl, Nat.le_of_ble_eq_true rfl⟩) ⟨fun a U g mk q => by obtain ⟨q0, q1, qP, qK, qD⟩ := q; exact ⟨q0, q1, qP, va_K.moved (u := U) (U := U.calling g mk a) (Vm.Alike.refl U.vm) qK, qD⟩, va_recv hKc hPc (ci := 3) (q0 := 0) rfl rfl, fun U hU hW => ⟨rfl, by rw [hU], by rw [hU]; exact hPc, va_K.moved hW.alike hKc, hDc.weaken (fun _ _ _ _ => trivial)⟩⟩ rfl rfl hl.1 rfl (lv_room (Nat.le_of_ble_eq_true rfl)) dX3_readTruth_54 ⟨Nat.le_of_ble_eq_true rfl, Nat.le_of_ble_eq_true rfl⟩) hS (fun q _ h => hFc q h) hFc (fun u t H1 locs ht hvm hwra112 hB hz1 hk1 hS => ?_)
              obtain ⟨x113, fn114, oa_x113, ob_x113, hP1, hK1, hD1⟩ := hB
              rw [ht] at hP1
              obtain ⟨hP, hD⟩ := va_join (wr := (wd_82cdd16b h1 h2 v1 x107 x108 x109 h2 g0 f5)) (w1 := (wd_b958b9da h0 h1 h3 x113 h3 g1 fn114)) hP hD [0, 3] [1, 2] rfl rfl (by decide) (by decide) hk1 hFc hP1 hD1
              generalize H1 = H at hP hS ⊢
              have hP := hP.sub (ws' := (wd_1ad0248d h0 h1 h3 x113 h1 h2 v1 x107 x108 x109 h2 g0 f5 h3 g1 fn114)) [2, 0, 1, 3] rfl
              have hD := hD.sub (ws' := (wd_1ad0248d h0 h1 h3 x113 h1 h2 v1 x107 x108 x109 h2 g0 f5 h3 g1 fn114)) [2, 0, 1, 3] (by decide) rfl
              have hP : va_P (dC, dI) vwCl (wd_1ad0248d h0 h1 h3 x113 h1 h2 v1 x107 x108 x109 h2 g0 f5 h3 g1 fn114) H := hP
              have hD : va_D A (wd_1ad0248d h0 h1 h3 x113 h1 h2 v1 x107 x108 x109 h2 g0 f5 h3 g1 fn114) := hD
              obtain ⟨t115, et115⟩ : ∃ y : Int32, y = x86 + 1 := ⟨_, rfl⟩
              have gt115 : t115.toInt = x86.toInt + (1) := pv_add (a := x86.toInt) (b := (1)) et115 rfl (by decide) (by omega) (by omega)
              refine lv_iinc (v := t115) (lv' := [(3, .int t115), (0, .ref h0), (1, .int 1), (2, .int v7)]) hx hb dX3_readTruth_57 hl (k := 0) rfl (by rw [et115]; rfl) (by decide) rfl (fun ls hl => ?_)
              refine lv_goto (tgt := 13) hx hb dX3_readTruth_60 (by decide) ?_
              exact ih_hL98 t115 x113 x107 x108 x109 fn114 H locs ls (by first | omega | decide) (by first | omega | decide) (by first | omega | decide) (by first | omega | decide) (by first | omega | (simp only [Int.toNat] at *; omega)) hP hD hS (lv_sub hl [0, 1, 2, 3] rfl)
            · skip
              have fc111 : ra105.toInt = 0 := congrArg Int32.toInt c111
              refine lv_iconst (v := 0) hx hb dX3_readTruth_48 (by decide) ?_
              subst hQ
              have hP9 := hP.sub (ws' := (wd_1ad0248d h0 h1 h3 x106 h1 h2 v1 x107 x108 x109 h2 g0 f5 h3 g1 fn110)) [0, 1, 2, 3] rfl
              have hD9 := hD.sub (ws' := (wd_1ad0248d h0 h1 h3 x106 h1 h2 v1 x107 x108 x109 h2 g0 f5 h3 g1 fn110)) [0, 1, 2, 3] (by decide) rfl
              have hK9 := hK.sub (tys' := []) [] rfl
              exact W.zret (v := 0) hx hb hr rfl (fun t ht hW => ⟨⟨0, (), rfl, ⟨by first | omega | decide, by first | omega | decide⟩, x106, x107, x108, x109, fn110, by first | omega | decide, by first | omega | decide, by rw [ht]; exact hP9, va_K.moved hW.alike hK9, hD9⟩, hS.F ht⟩) hS.2.2 dX3_readTruth_49
    exact hL98 _ 0 x2 x3 x4 x5 fn6 H locs ls (by first | omega | decide) (by first | omega | decide) (by first | omega | decide) (by first | omega | decide) (Nat.lt_succ_self _) hP hD hS (lv_sub hl [0, 1, 2, 3] rfl)
  · skip
    have fc7 : ra1.toInt = 0 := congrArg Int32.toInt c7
    refine lv_iconst (v := 0) hx hb dX3_readTruth_9 (by decide) ?_
    subst hQ
    have hP9 := hP.sub (ws' := (wd_1ad0248d h0 h1 h3 x2 h1 h2 v1 x3 x4 x5 h2 g0 f5 h3 g1 fn6)) [0, 1, 2, 3] rfl
    have hD9 := hD.sub (ws' := (wd_1ad0248d h0 h1 h3 x2 h1 h2 v1 x3 x4 x5 h2 g0 f5 h3 g1 fn6)) [0, 1, 2, 3] (by decide) rfl
    have hK9 := hK.sub (tys' := []) [] rfl
    exact W.zret (v := 0) hx hb hr rfl (fun t ht hW => ⟨⟨0, (), rfl, ⟨by first | omega | decide, by first | omega | decide⟩, x2, x3, x4, x5, fn6, by first | omega | decide, by first | omega | decide, by rw [ht]; exact hP9, va_K.moved hW.alike hK9, hD9⟩, hS.F ht⟩) hS.2.2 dX3_readTruth_10
def q_X3_readCondition_5 : List Cond := .code yX3_readCondition cX3_readCondition 4 (some .boolean) :: (([.code yX3_readTruth cX3_readTruth 4 (some .boolean), .code yX3_readUnit cX3_readUnit 5 (some .boolean), .fieldLink RX3 19 "LeftArguments$LawReader" "tape" "LLeftArguments$Tape;", .code yX10_next cX10_next 1 (some .int), .fieldLink RX10 19 "LeftArguments$Tape" "at" "I", .fieldLink RX10 15 "LeftArguments$Tape" "used" "I", .fieldLink RX10 9 "LeftArguments$Tape" "bytes" "[I", .initialized RX10, .instanceMethod yX10_next, .selects RX10 yX10_next yX10_next, .methodLink RX3 48 yX10_next, .code yX3_comparing cX3_comparing 1 (some .int), .initialized RX3, .static yX3_comparing, .methodLink RX3 62 yX3_comparing, .code yX10_step cX10_step 1 none, .instanceMethod yX10_step, .selects RX10 yX10_step yX10_step, .methodLink RX3 77 yX10_step, .code yX3_readSum cX3_readSum 4 (some .boolean), .code yX3_readTerm cX3_readTerm 4 (some .boolean), .code yX3_readAtom cX3_readAtom 4 (some .boolean), .code yX10_isDigit cX10_isDigit 1 (some .boolean), .static yX10_isDigit, .methodLink RX3 92 yX10_isDigit, .code yX3_write cX3_write 3 none, .fieldLink RX3 15 "LeftArguments$LawReader" "used" "I", .fieldLink RX3 11 "LeftArguments$LawReader" "code" "[I", .instanceMethod yX3_write, .selects RX3 yX3_write yX3_write, .methodLink RX3 66 yX3_write, .code yX10_wrongHere cX10_wrongHere 1 (some .boolean), .fieldLink RX10 22 "LeftArguments$Tape" "wrongAt" "I", .instanceMethod yX10_wrongHere, .selects RX10 yX10_wrongHere yX10_wrongHere, .methodLink RX3 83 yX10_wrongHere, .code yJ0_indexOf_0f7a4 cJ0_indexOf_0f7a4 2 (some .int), .code yJ0_indexOf_7cf53 cJ0_indexOf_7cf53 3 (some .int), .code yJ0_isLatin1_aae02 cJ0_isLatin1_aae02 1 (some .boolean), .fieldLink RJ0 38 "java/lang/String" "COMPACT_STRINGS" "Z", .fieldLink RJ0 15 "java/lang/String" "coder" "B", .initialized RJ0, .instanceMethod yJ0_isLatin1_aae02, .selects RJ0 yJ0_isLatin1_aae02 yJ0_isLatin1_aae02, .methodLink RJ0 492 yJ0_isLatin1_aae02, .fieldLink RJ0 9 "java/lang/String" "value" "[B", .code yJ0_length_8abf5 cJ0_length_8abf5 1 (some .int), .code yJ0_coder_7d493 cJ0_coder_7d493 1 (some .byte), .instanceMethod yJ0_coder_7d493, .selects RJ0 yJ0_coder_7d493 yJ0_coder_7d493, .methodLink RJ0 335 yJ0_coder_7d493, .instanceMethod yJ0_length_8abf5, .selects RJ0 yJ0_length_8abf5 yJ0_length_8abf5, .methodLink RJ0 505 yJ0_length_8abf5, .code yJ1_indexOf_4cfef cJ1_indexOf_4cfef 4 (some .int), .code yJ1_canEncode_9a6ad cJ1_canEncode_9a6ad 1 (some .boolean), .initialized RJ1, .static yJ1_canEncode_9a6ad, .methodLink RJ1 88 yJ1_canEncode_9a6ad, .methodLink RJ1 92 Lib.Math.max.name, .static Lib.Math.max.name, .initialized "java/lang/Math", .code Lib.Math.max.name Lib.Math.max.code 2 (some .int), .methodLink RJ1 38 Lib.Math.min.name, .static Lib.Math.min.name, .code Lib.Math.min.name Lib.Math.min.code 2 (some .int), .code yJ1_indexOfChar_4cfef cJ1_indexOfChar_4cfef 6 (some .int), .static yJ1_indexOfChar_4cfef, .methodLink RJ1 95 yJ1_indexOfChar_4cfef, .static yJ1_indexOf_4cfef, .methodLink RJ0 637 yJ1_indexOf_4cfef, .instanceMethod yJ0_indexOf_7cf53, .selects RJ0 yJ0_indexOf_7cf53 yJ0_indexOf_7cf53, .methodLink RJ0 633 yJ0_indexOf_7cf53, .instanceMethod yJ0_indexOf_0f7a4, .selects RJ0 yJ0_indexOf_0f7a4 yJ0_indexOf_0f7a4, .methodLink RX3 103 yJ0_indexOf_0f7a4, .code yX10_takeNumber cX10_takeNumber 3 (some .boolean), .methodLink RX10 37 yX10_next, .methodLink RX10 45 yX10_isDigit, .fieldLink RX10 25 "LeftArguments$Tape" "number" "I", .code yX10_sign cX10_sign 1 (some .int), .instanceMethod yX10_sign, .selects RX10 yX10_sign yX10_sign, .methodLink RX10 49 yX10_sign, .methodLink RX10 41 yX10_wrongHere, .instanceMethod yX10_takeNumber, .selects RX10 yX10_takeNumber yX10_takeNumber, .methodLink RX3 95 yX10_takeNumber, .code yX10_number cX10_number 1 (some .int), .instanceMethod yX10_number, .selects RX10 yX10_number yX10_number, .methodLink RX3 98 yX10_number, .instanceMethod yX3_readAtom, .selects RX3 yX3_readAtom yX3_readAtom, .methodLink RX3 89 yX3_readAtom, .instanceMethod yX3_readTerm, .selects RX3 yX3_readTerm yX3_readTerm, .methodLink RX3 86 yX3_readTerm, .instanceMethod yX3_readSum, .selects RX3 yX3_readSum yX3_readSum, .methodLink RX3 59 yX3_readSum, .code yX10_take cX10_take 2 (some .boolean), .instanceMethod yX10_take, .selects RX10 yX10_take yX10_take, .methodLink RX3 51 yX10_take, .instanceMethod yX3_readUnit, .selects RX3 yX3_readUnit yX3_readUnit, .methodLink RX3 80 yX3_readUnit, .code yX3_readCondition cX3_readCondition 4 (some .boolean), .instanceMethod yX3_readTruth, .selects RX3 yX3_readTruth yX3_readTruth, .methodLink RX3 74 yX3_readTruth, .instanceMethod yX3_readCondition, .selects RX3 yX3_readCondition yX3_readCondition, .methodLink RX3 70 yX3_readCondition] : List Cond) ++ wsX30 ++ wsX100)
set_option maxRecDepth 20000 in
theorem g_X3_readCondition_5_0 : GoodIn q_X3_readCondition_5 (wsV RX3 74 RX3 yX3_readTruth q_X3_readTruth_5) := goodIn_app (goodIn_r _ [113, 111, 112, 13] rfl (by decide +kernel)) (goodIn_ca (goodIn_ca (goodIn_r (.code yX3_readTruth cX3_readTruth 4 (some .boolean) :: [.code yX3_readUnit cX3_readUnit 5 (some .boolean), .fieldLink RX3 19 "LeftArguments$LawReader" "tape" "LLeftArguments$Tape;", .code yX10_next cX10_next 1 (some .int), .fieldLink RX10 19 "LeftArguments$Tape" "at" "I", .fieldLink RX10 15 "LeftArguments$Tape" "used" "I", .fieldLink RX10 9 "LeftArguments$Tape" "bytes" "[I", .initialized RX10, .instanceMethod yX10_next, .selects RX10 yX10_next yX10_next, .methodLink RX3 48 yX10_next, .code yX3_comparing cX3_comparing 1 (some .int), .initialized RX3, .static yX3_comparing, .methodLink RX3 62 yX3_comparing, .code yX10_step cX10_step 1 none, .instanceMethod yX10_step, .selects RX10 yX10_step yX10_step, .methodLink RX3 77 yX10_step, .code yX3_readSum cX3_readSum 4 (some .boolean), .code yX3_readTerm cX3_readTerm 4 (some .boolean), .code yX3_readAtom cX3_readAtom 4 (some .boolean), .code yX10_isDigit cX10_isDigit 1 (some .boolean), .static yX10_isDigit, .methodLink RX3 92 yX10_isDigit, .code yX3_write cX3_write 3 none, .fieldLink RX3 15 "LeftArguments$LawReader" "used" "I", .fieldLink RX3 11 "LeftArguments$LawReader" "code" "[I", .instanceMethod yX3_write, .selects RX3 yX3_write yX3_write, .methodLink RX3 66 yX3_write, .code yX10_wrongHere cX10_wrongHere 1 (some .boolean), .fieldLink RX10 22 "LeftArguments$Tape" "wrongAt" "I", .instanceMethod yX10_wrongHere, .selects RX10 yX10_wrongHere yX10_wrongHere, .methodLink RX3 83 yX10_wrongHere, .code yJ0_indexOf_0f7a4 cJ0_indexOf_0f7a4 2 (some .int), .code yJ0_indexOf_7cf53 cJ0_indexOf_7cf53 3 (some .int), .code yJ0_isLatin1_aae02 cJ0_isLatin1_aae02 1 (some .boolean), .fieldLink RJ0 38 "java/lang/String" "COMPACT_STRINGS" "Z", .fieldLink RJ0 15 "java/lang/String" "coder" "B", .initialized RJ0, .instanceMethod yJ0_isLatin1_aae02, .selects RJ0 yJ0_isLatin1_aae02 yJ0_isLatin1_aae02, .methodLink RJ0 492 yJ0_isLatin1_aae02, .fieldLink RJ0 9 "java/lang/String" "value" "[B", .code yJ0_length_8abf5 cJ0_length_8abf5 1 (some .int), .code yJ0_coder_7d493 cJ0_coder_7d493 1 (some .byte), .instanceMethod yJ0_coder_7d493, .selects RJ0 yJ0_coder_7d493 yJ0_coder_7d493, .methodLink RJ0 335 yJ0_coder_7d493, .instanceMethod yJ0_length_8abf5, .selects RJ0 yJ0_length_8abf5 yJ0_length_8abf5, .methodLink RJ0 505 yJ0_length_8abf5, .code yJ1_indexOf_4cfef cJ1_indexOf_4cfef 4 (some .int), .code yJ1_canEncode_9a6ad cJ1_canEncode_9a6ad 1 (some .boolean), .initialized RJ1, .static yJ1_canEncode_9a6ad, .methodLink RJ1 88 yJ1_canEncode_9a6ad, .methodLink RJ1 92 Lib.Math.max.name, .static Lib.Math.max.name, .initialized "java/lang/Math", .code Lib.Math.max.name Lib.Math.max.code 2 (some .int), .methodLink RJ1 38 Lib.Math.min.name, .static Lib.Math.min.name, .code Lib.Math.min.name Lib.Math.min.code 2 (some .int), .code yJ1_indexOfChar_4cfef cJ1_indexOfChar_4cfef 6 (some .int), .static yJ1_indexOfChar_4cfef, .methodLink RJ1 95 yJ1_indexOfChar_4cfef, .static yJ1_indexOf_4cfef, .methodLink RJ0 637 yJ1_indexOf_4cfef, .instanceMethod yJ0_indexOf_7cf53, .selects RJ0 yJ0_indexOf_7cf53 yJ0_indexOf_7cf53, .methodLink RJ0 633 yJ0_indexOf_7cf53, .instanceMethod yJ0_indexOf_0f7a4, .selects RJ0 yJ0_indexOf_0f7a4 yJ0_indexOf_0f7a4, .methodLink RX3 103 yJ0_indexOf_0f7a4, .code yX10_takeNumber cX10_takeNumber 3 (some .boolean), .methodLink RX10 37 yX10_next, .methodLink RX10 45 yX10_isDigit, .fieldLink RX10 25 "LeftArguments$Tape" "number" "I", .code yX10_sign cX10_sign 1 (some .int), .instanceMethod yX10_sign, .selects RX10 yX10_sign yX10_sign, .methodLink RX10 49 yX10_sign, .methodLink RX10 41 yX10_wrongHere, .instanceMethod yX10_takeNumber, .selects RX10 yX10_takeNumber yX10_takeNumber, .methodLink RX3 95 yX10_takeNumber, .code yX10_number cX10_number 1 (some .int), .instanceMethod yX10_number, .selects RX10 yX10_number yX10_number, .methodLink RX3 98 yX10_number, .instanceMethod yX3_readAtom, .selects RX3 yX3_readAtom yX3_readAtom, .methodLink RX3 89 yX3_readAtom, .instanceMethod yX3_readTerm, .selects RX3 yX3_readTerm yX3_readTerm, .methodLink RX3 86 yX3_readTerm, .instanceMethod yX3_readSum, .selects RX3 yX3_readSum yX3_readSum, .methodLink RX3 59 yX3_readSum, .code yX10_take cX10_take 2 (some .boolean), .instanceMethod yX10_take, .selects RX10 yX10_take yX10_take, .methodLink RX3 51 yX10_take, .instanceMethod yX3_readUnit, .selects RX3 yX3_readUnit yX3_readUnit, .methodLink RX3 80 yX3_readUnit, .code yX3_readCondition cX3_readCondition 4 (some .boolean), .code yX3_readTruth cX3_readTruth 4 (some .boolean), .instanceMethod yX3_readTruth, .selects RX3 yX3_readTruth yX3_readTruth, .methodLink RX3 74 yX3_readTruth, .instanceMethod yX3_readCondition, .selects RX3 yX3_readCondition yX3_readCondition, .methodLink RX3 70 yX3_readCondition]) [1, 2, 3, 4, 5, 6, 7, 8, 9, 10, 11, 12, 13, 14, 15, 16, 17, 18, 19, 20, 21, 22, 23, 24, 25, 26, 27, 28, 29, 30, 31, 32, 33, 34, 35, 36, 37, 38, 39, 40, 41, 42, 43, 44, 45, 46, 47, 48, 49, 50, 51, 52, 53, 54, 55, 56, 57, 58, 59, 60, 61, 62, 63, 64, 65, 66, 67, 68, 69, 70, 71, 72, 73, 74, 75, 76, 77, 78, 79, 80, 81, 82, 83, 84, 85, 86, 87, 88, 89, 90, 91, 92, 93, 94, 95, 96, 97, 98, 99, 100, 101, 102, 103, 104, 105, 106, 107, 108, 109, 110, 1, 111, 112, 113, 114, 115, 116] rfl (by decide +kernel)) (goodIn_sub (fun _ h => List.mem_cons_of_mem _ (List.mem_append_left _ (List.mem_append_right _ h))) gwX3)) (goodIn_sub (fun _ h => List.mem_cons_of_mem _ (List.mem_append_right _ h)) gwX10))
set_option maxRecDepth 20000 in
theorem g_X3_readCondition_5_1 : GoodIn q_X3_readCondition_5 (wsV RX3 48 RX10 yX10_next q_X10_next) := goodIn_app (goodIn_r _ [11, 9, 10, 8] rfl (by decide +kernel)) (goodIn_ca (goodIn_r (.code yX10_next cX10_next 1 (some .int) :: [.fieldLink RX10 19 "LeftArguments$Tape" "at" "I", .fieldLink RX10 15 "LeftArguments$Tape" "used" "I", .fieldLink RX10 9 "LeftArguments$Tape" "bytes" "[I"]) [4, 5, 6, 7] rfl (by decide +kernel)) (goodIn_sub (fun _ h => List.mem_cons_of_mem _ (List.mem_append_right _ h)) gwX10))
set_option maxRecDepth 20000 in
theorem g_X3_readCondition_5_2 : GoodIn q_X3_readCondition_5 (wsV RX3 77 RX10 yX10_step q_X10_step) := goodIn_app (goodIn_r _ [19, 17, 18, 8] rfl (by decide +kernel)) (goodIn_ca (goodIn_r (.code yX10_step cX10_step 1 none :: [.fieldLink RX10 19 "LeftArguments$Tape" "at" "I"]) [16, 5] rfl (by decide +kernel)) (goodIn_sub (fun _ h => List.mem_cons_of_mem _ (List.mem_append_right _ h)) gwX10))
set_option maxRecDepth 20000 in
theorem g_X3_readCondition_5_4 : GoodIn q_X3_readCondition_5 (wsV RX3 66 RX3 yX3_write q_X3_write) := goodIn_app (goodIn_r _ [31, 29, 30, 13] rfl (by decide +kernel)) (goodIn_ca (goodIn_r (.code yX3_write cX3_write 3 none :: [.fieldLink RX3 15 "LeftArguments$LawReader" "used" "I", .fieldLink RX3 11 "LeftArguments$LawReader" "code" "[I"]) [26, 27, 28] rfl (by decide +kernel)) (goodIn_sub (fun _ h => List.mem_cons_of_mem _ (List.mem_append_left _ (List.mem_append_right _ h))) gwX3))
set_option maxHeartbeats 4000000 in
set_option maxRecDepth 100000 in
theorem k_X3_readCondition_5 (l : Launch) (dC : Nat → ClassId) (dI : Nat → Nat → Nat) (adK : Nat → Nat) (adV : Nat → Nat) (h0 : Nat) (h1 : Nat) (h2 : Nat) (h3 : Nat) (v0 : Int32) (v1 : Int32) (v2 : Int32) (v3 : Int32) (v4 : Int32) (g0 : ClassId) (f5 : Nat → Int32) (g1 : ClassId) (f6 : Nat → Int32) (v7 : Int32) (i_v0 : 0 ≤ v0.toInt ∧ v0.toInt ≤ 256) (i_v1 : 0 ≤ v1.toInt ∧ v1.toInt ≤ 240) (i_v7 : 0 ≤ v7.toInt ∧ v7.toInt ≤ 1) (sz : Nat) : Met l yX3_readCondition q_X3_readCondition_5 ({ frames := 24, cells := 0, slots := 0, locals := 557 }) (va_Pc [.ref h0, .int 1, .int v7] (fun U => U.heap.size = sz ∧ va_P (dC, dI) vwCl (wd_1ad0248d h0 h1 h3 v0 h1 h2 v1 v2 v3 v4 h2 g0 f5 h3 g1 f6) U.heap ∧ va_K (dC, dI) vwCl [(g0, .int), (g1, .int)] U ∧ va_D (fun _ => True) (wd_1ad0248d h0 h1 h3 v0 h1 h2 v1 v2 v3 v4 h2 g0 f5 h3 g1 f6) ∧ vk_R RX3 101 "zaondt" (adK 2) U ∧ va_Z "java/lang/String" "COMPACT_STRINGS" "Z" (.int 1) (va_A (wd_1ad0248d h0 h1 h3 v0 h1 h2 v1 v2 v3 v4 h2 g0 f5 h3 g1 f6) sz) U U.heap ∧ vk_S 3 pv_len3 pv_byt3 adK adV (va_A (wd_1ad0248d h0 h1 h3 v0 h1 h2 v1 v2 v3 v4 h2 g0 f5 h3 g1 f6) sz) U U.heap)) (va_Qi (fun (r : Int32) (_ : Unit) => 0 ≤ r.toInt ∧ r.toInt ≤ 1) (fun (_ : Unit) (t : State) => ∃ (o_h0_2 : Int32) (o_h1_2 : Int32) (o_h1_3 : Int32) (o_h1_4 : Int32) (o_h3 : Nat → Int32), 0 ≤ o_h0_2.toInt ∧ o_h0_2.toInt ≤ 256 ∧ va_P (dC, dI) vwCl (wd_1ad0248d h0 h1 h3 o_h0_2 h1 h2 v1 o_h1_2 o_h1_3 o_h1_4 h2 g0 f5 h3 g1 o_h3) t.heap ∧ va_K (dC, dI) vwCl [] t ∧ va_D (va_A (wd_1ad0248d h0 h1 h3 v0 h1 h2 v1 v2 v3 v4 h2 g0 f5 h3 g1 f6) sz) (wd_1ad0248d h0 h1 h3 o_h0_2 h1 h2 v1 o_h1_2 o_h1_3 o_h1_4 h2 g0 f5 h3 g1 o_h3)) (va_A (wd_1ad0248d h0 h1 h3 v0 h1 h2 v1 v2 v3 v4 h2 g0 f5 h3 g1 f6) sz)) 0 0 (va_A (wd_1ad0248d h0 h1 h3 v0 h1 h2 v1 v2 v3 v4 h2 g0 f5 h3 g1 f6) sz) := by
  refine Met.ofW (cc := cX3_readCondition) (maxL := 4) (ret := (some .boolean)) (by decide) rfl ?_
  intro p e s m args below meth c s₁ B hml hv
  obtain ⟨i_v0a, i_v0b⟩ := i_v0
  obtain ⟨i_v1a, i_v1b⟩ := i_v1
  obtain ⟨i_v7a, i_v7b⟩ := i_v7
  obtain ⟨rfl, hsz, hP, hK, hD0, h_vr_2, h_st_CS, h_st_S⟩ := hv
  have hx := B.exec
  have hb := B.bytes
  have hr := B.returns
  have hts := atoms_spec (ws := q_X3_readCondition_5) B.pre
  have hown : s.vm.findClass RX3 = some m.cls := findClass_of_methodNamed B.named
  have hlocks := B.notSynchronized
  subst hsz
  have hD := hD0.self (sz := s.heap.size)
  generalize hAe : va_A (wd_1ad0248d h0 h1 h3 v0 h1 h2 v1 v2 v3 v4 h2 g0 f5 h3 g1 f6) s.heap.size = A at hD h_st_CS h_st_S ⊢
  have hA : ∀ q : Nat, s.heap.size ≤ q → A q := fun q h => by rw [← hAe]; exact Or.inr h
  have hS : va_S A s.heap s.heap [] := va_S.rf
  generalize hQ : (MQ below _ _ s 0 0 A) = Q
  have hl := lv_entry ([.ref h0, .int 1, .int v7]) (n := 4) (Nat.le_of_ble_eq_true rfl)
  rw [lg_entry_eq]
  generalize (lg_sl ([.ref h0, .int 1, .int v7]) ++ List.replicate (4 - (lg_sl ([.ref h0, .int 1, .int v7])).length) Slot.unset).toArray = ls at hl ⊢
  have hl : lv_has ls 4 [(0, .ref h0), (1, .int 1), (2, .int v7)] := hl
  obtain ⟨H, hH⟩ : ∃ H : Heap, H = s.heap := ⟨_, rfl⟩
  obtain ⟨locs, hlocs⟩ : ∃ y : List Loc, y = [] := ⟨_, rfl⟩
  have hS : va_S A s.heap H locs := by rw [hH, hlocs]; exact va_S.rf
  have hP : va_P (dC, dI) vwCl (wd_1ad0248d h0 h1 h3 v0 h1 h2 v1 v2 v3 v4 h2 g0 f5 h3 g1 f6) H := by rw [hH]; exact hP
  rw [← hH, ← hlocs]
  refine lv_aload_n hx hb dX3_readCondition_0 rfl (lv_at hl 0 rfl) ?_
  refine lv_iload_n hx hb dX3_readCondition_1 rfl (lv_at hl 1 rfl) ?_
  refine lv_iload_n hx hb dX3_readCondition_2 rfl (lv_at hl 2 rfl) ?_
  have hPc := hP.sub (ws' := (wd_1ad0248d h0 h1 h3 v0 h1 h2 v1 v2 v3 v4 h2 g0 f5 h3 g1 f6)) [0, 1, 2, 3] rfl
  have hDc := hD.sub (ws' := (wd_1ad0248d h0 h1 h3 v0 h1 h2 v1 v2 v3 v4 h2 g0 f5 h3 g1 f6)) [0, 1, 2, 3] (by decide) rfl
  have hKc := hK.sub (tys' := [(g0, .int), (g1, .int)]) [0, 1] rfl
  have hFc := va_free (wc := (wd_1ad0248d h0 h1 h3 v0 h1 h2 v1 v2 v3 v4 h2 g0 f5 h3 g1 f6)) hD hS hA [0, 1, 2, 3] rfl
  refine va_calli (va_runV (As := [.int 1, .int v7]) (rest := []) ⟨hx, hb, hml, hown, hts⟩ (k_X3_readTruth_5 l dC dI adK adV h0 h1 h2 h3 v0 v1 v2 v3 v4 g0 f5 g1 f6 v7 ⟨by first | omega | decide, by first | omega | decide⟩ ⟨by first | omega | decide, by first | omega | decide⟩ ⟨by first | omega | decide, by first | omega | decide⟩ H.size) (cwV 2 hts g_X3_readCondition_5_0 rfl rfl rfl (by decide +kernel) ⟨Nat.le_of_ble_eq_true rfl, Nat.le_of_ble_eq_true rfl⟩) ⟨fun a U g mk q => by obtain ⟨q0, q1, qP, qK, qD, n0, n1, n2⟩ := q; exact ⟨q0, q1, qP, va_K.moved (u := U) (U := U.calling g mk a) (Vm.Alike.refl U.vm) qK, qD, vk_R.same rfl n0, va_Z.moved (Vm.Alike.refl _) n1, vk_S.moved (Vm.Alike.refl _) n2⟩, va_recv hKc hPc (ci := 3) (q0 := 0) rfl rfl, fun U hU hW => ⟨rfl, by rw [hU], by rw [hU]; exact hPc, va_K.moved hW.alike hKc, hDc.weaken (fun _ _ _ _ => trivial), vk_R.warm hW h_vr_2, (by rw [hU]; exact (va_Z.moved hW.alike (va_Z.kept h_st_CS hS.2.1)).narrow hFc), (by rw [hU]; exact (vk_S.moved hW.alike (vk_S.kept h_st_S hS.2.1)).narrow hFc)⟩⟩ rfl rfl hl.1 rfl (lv_room (Nat.le_of_ble_eq_true rfl)) dX3_readCondition_3 ⟨Nat.le_of_ble_eq_true rfl, Nat.le_of_ble_eq_true rfl⟩) hS (fun q _ h => hFc q h) hFc (fun ra1 u t H1 locs ht hvm hwra1 hB hz1 hk1 hS => ?_)
  obtain ⟨x2, x3, x4, x5, fn6, oa_x2, ob_x2, hP1, hK1, hD1⟩ := hB
  rw [ht] at hP1
  obtain ⟨hP, hD⟩ := va_join (wr := []) (w1 := (wd_1ad0248d h0 h1 h3 x2 h1 h2 v1 x3 x4 x5 h2 g0 f5 h3 g1 fn6)) hP hD [0, 1, 2, 3] [] rfl rfl (by decide) (by decide) hk1 hFc hP1 hD1
  generalize H1 = H at hP hS ⊢
  have hP : va_P (dC, dI) vwCl (wd_1ad0248d h0 h1 h3 x2 h1 h2 v1 x3 x4 x5 h2 g0 f5 h3 g1 fn6) H := hP
  have hD : va_D A (wd_1ad0248d h0 h1 h3 x2 h1 h2 v1 x3 x4 x5 h2 g0 f5 h3 g1 fn6) := hD
  obtain ⟨wa_ra1, wb_ra1⟩ := hwra1
  have wa_ra1 : 0 ≤ ra1.toInt := wa_ra1
  have wb_ra1 : ra1.toInt ≤ 1 := wb_ra1
  refine lv_if_ne (tgt := 11) hx hb dX3_readCondition_6 (by decide) (fun c7 => ?_) (fun c7 => ?_)
  · skip
    have fc7 : ¬ (ra1.toInt = 0) := fun h9 => c7 (Int32.toInt_inj.mp h9)
    refine lv_iconst (v := 0) hx hb dX3_readCondition_11 (by decide) ?_
    refine lv_istore_n (lv' := [(3, .int 0), (0, .ref h0), (1, .int 1), (2, .int v7)]) hx hb dX3_readCondition_12 rfl hl (by decide) rfl (fun ls hl => ?_)
    have hL98 : ∀ (n9 : Nat), ∀ (x86 : Int32) (x87 : Int32) (x88 : Int32) (x89 : Int32) (x90 : Int32) (fn91 : Nat → Int32) (H : Heap) (locs : List Loc) (ls : Array Slot), 0 ≤ x86.toInt → x86.toInt ≤ 240 → 0 ≤ x87.toInt → x87.toInt ≤ 256 → (240 - x86.toInt).toNat < n9 → va_P (dC, dI) vwCl (wd_1ad0248d h0 h1 h3 x87 h1 h2 v1 x88 x89 x90 h2 g0 f5 h3 g1 fn91) H → va_D A (wd_1ad0248d h0 h1 h3 x87 h1 h2 v1 x88 x89 x90 h2 g0 f5 h3 g1 fn91) → va_S A s.heap H locs → lv_has ls 4 [(3, .int x86), (0, .ref h0), (1, .int 1), (2, .int v7)] → W p l e ({ frames := 24, cells := 0, slots := 0, locals := 557 }) s m ([.ref h0, .int 1, .int v7] : List Value).toArray below meth c H locs 0 0 Q (F0 m 13 ls []) := by
      intro n9
      induction n9 with
      | zero => intro x86 x87 x88 x89 x90 fn91 H locs ls qa_x86 qb_x86 qa_x87 qb_x87 hm9 hP hD hS hl; exact absurd hm9 (Nat.not_lt_zero _)
      | succ n9 ih_hL98 =>
        intro x86 x87 x88 x89 x90 fn91 H locs ls qa_x86 qb_x86 qa_x87 qb_x87 hm9 hP hD hS hl
        refine lv_iload_n hx hb dX3_readCondition_13 rfl (lv_at hl 0 rfl) ?_
        refine lv_sipush (v := 240) hx hb dX3_readCondition_14 (by decide) ?_
        refine lv_icmp_ge (tgt := 63) hx hb dX3_readCondition_17 (by decide) (fun c99 => ?_) (fun c99 => ?_)
        · skip
          have fc99 : 240 ≤ x86.toInt := Int32.le_iff_toInt_le.mp c99
          refine lv_iconst (v := 1) hx hb dX3_readCondition_63 (by decide) ?_
          subst hQ
          have hP9 := hP.sub (ws' := (wd_1ad0248d h0 h1 h3 x87 h1 h2 v1 x88 x89 x90 h2 g0 f5 h3 g1 fn91)) [0, 1, 2, 3] rfl
          have hD9 := hD.sub (ws' := (wd_1ad0248d h0 h1 h3 x87 h1 h2 v1 x88 x89 x90 h2 g0 f5 h3 g1 fn91)) [0, 1, 2, 3] (by decide) rfl
          have hK9 := hK.sub (tys' := []) [] rfl
          exact W.zret (v := 1) hx hb hr rfl (fun t ht hW => ⟨⟨1, (), rfl, ⟨by first | omega | decide, by first | omega | decide⟩, x87, x88, x89, x90, fn91, by first | omega | decide, by first | omega | decide, by rw [ht]; exact hP9, va_K.moved hW.alike hK9, hD9⟩, hS.F ht⟩) hS.2.2 dX3_readCondition_64
        · skip
          have fc99 : ¬ (240 ≤ x86.toInt) := fun h9 => c99 (Int32.le_iff_toInt_le.mpr h9)
          refine lv_aload_n hx hb dX3_readCondition_20 rfl (lv_at hl 1 rfl) ?_
          refine va_get (D := (dC, dI)) (ci := 3) (v := .ref h1) (C := RX3) (T := TX3) (N := 3) hx hb hts (fun _ h => List.mem_cons_of_mem _ (List.mem_append_left _ (List.mem_append_right _ h))) hown hK hP 0 rfl rfl 0 (by decide) (hts (.fieldLink RX3 19 "LeftArguments$LawReader" "tape" "LLeftArguments$Tape;") (List.mem_cons_of_mem _ (List.mem_append_left _ (List.mem_append_left _ (List.mem_of_getElem? (i := 2) rfl))))) (fun _ h9 => h9) rfl dX3_readCondition_21 ?_
          have hPc := hP.sub (ws' := (wd_82cdd16b h1 h2 v1 x88 x89 x90 h2 g0 f5)) [1, 2] rfl
          have hDc := hD.sub (ws' := (wd_82cdd16b h1 h2 v1 x88 x89 x90 h2 g0 f5)) [1, 2] (by decide) rfl
          have hKc := hK.sub (tys' := [(g0, .int)]) [0] rfl
          have hFc := va_free (wc := (wd_82cdd16b h1 h2 v1 x88 x89 x90 h2 g0 f5)) hD hS hA [1, 2] rfl
          refine va_calli (va_runV (As := []) (rest := []) ⟨hx, hb, hml, hown, hts⟩ (k_X10_next l dC dI h1 h2 v1 x88 x89 x90 g0 f5 ⟨by first | omega | decide, by first | omega | decide⟩ H.size) (cwV 0 hts g_X3_readCondition_5_1 rfl rfl rfl (by decide +kernel) ⟨Nat.le_of_ble_eq_true rfl, Nat.le_of_ble_eq_true rfl⟩) ⟨fun a U g mk q => by obtain ⟨q0, q1, qP, qK, qD⟩ := q; exact ⟨q0, q1, qP, va_K.moved (u := U) (U := U.calling g mk a) (Vm.Alike.refl U.vm) qK, qD⟩, va_recv hKc hPc (ci := 10) (q0 := 0) rfl rfl, fun U hU hW => ⟨rfl, by rw [hU], by rw [hU]; exact hPc, va_K.moved hW.alike hKc, hDc.weaken (fun _ _ _ _ => trivial)⟩⟩ rfl rfl hl.1 rfl (lv_room (Nat.le_of_ble_eq_true rfl)) dX3_readCondition_24 ⟨Nat.le_of_ble_eq_true rfl, Nat.le_of_ble_eq_true rfl⟩) hS (fun q _ h => hFc q h) hFc (fun ra100 u t H1 locs ht hvm hwra100 hB hz1 hk1 hS => ?_)
          obtain ⟨x101, hP1, hK1, hD1⟩ := hB
          rw [ht] at hP1
          obtain ⟨hP, hD⟩ := va_join (wr := (wd_b958b9da h0 h1 h3 x87 h3 g1 fn91)) (w1 := (wd_82cdd16b h1 h2 v1 x101 x89 x90 h2 g0 f5)) hP hD [1, 2] [0, 3] rfl rfl (by decide) (by decide) hk1 hFc hP1 hD1
          generalize H1 = H at hP hS ⊢
          have hP := hP.sub (ws' := (wd_1ad0248d h0 h1 h3 x87 h1 h2 v1 x101 x89 x90 h2 g0 f5 h3 g1 fn91)) [0, 2, 3, 1] rfl
          have hD := hD.sub (ws' := (wd_1ad0248d h0 h1 h3 x87 h1 h2 v1 x101 x89 x90 h2 g0 f5 h3 g1 fn91)) [0, 2, 3, 1] (by decide) rfl
          have hP : va_P (dC, dI) vwCl (wd_1ad0248d h0 h1 h3 x87 h1 h2 v1 x101 x89 x90 h2 g0 f5 h3 g1 fn91) H := hP
          have hD : va_D A (wd_1ad0248d h0 h1 h3 x87 h1 h2 v1 x101 x89 x90 h2 g0 f5 h3 g1 fn91) := hD
          refine lv_bipush (v := 124) hx hb dX3_readCondition_27 (by decide) ?_
          refine lv_icmp_ne (tgt := 63) hx hb dX3_readCondition_29 (by decide) (fun c102 => ?_) (fun c102 => ?_)
          · skip
            have fc102 : ¬ (ra100.toInt = 124) := fun h9 => c102 (Int32.toInt_inj.mp h9)
            refine lv_iconst (v := 1) hx hb dX3_readCondition_63 (by decide) ?_
            subst hQ
            have hP9 := hP.sub (ws' := (wd_1ad0248d h0 h1 h3 x87 h1 h2 v1 x101 x89 x90 h2 g0 f5 h3 g1 fn91)) [0, 1, 2, 3] rfl
            have hD9 := hD.sub (ws' := (wd_1ad0248d h0 h1 h3 x87 h1 h2 v1 x101 x89 x90 h2 g0 f5 h3 g1 fn91)) [0, 1, 2, 3] (by decide) rfl
            have hK9 := hK.sub (tys' := []) [] rfl
            exact W.zret (v := 1) hx hb hr rfl (fun t ht hW => ⟨⟨1, (), rfl, ⟨by first | omega | decide, by first | omega | decide⟩, x87, x101, x89, x90, fn91, by first | omega | decide, by first | omega | decide, by rw [ht]; exact hP9, va_K.moved hW.alike hK9, hD9⟩, hS.F ht⟩) hS.2.2 dX3_readCondition_64
          · skip
            have fc102 : ra100.toInt = 124 := congrArg Int32.toInt c102
            refine lv_aload_n hx hb dX3_readCondition_32 rfl (lv_at hl 1 rfl) ?_
            refine va_get (D := (dC, dI)) (ci := 3) (v := .ref h1) (C := RX3) (T := TX3) (N := 3) hx hb hts (fun _ h => List.mem_cons_of_mem _ (List.mem_append_left _ (List.mem_append_right _ h))) hown hK hP 0 rfl rfl 0 (by decide) (hts (.fieldLink RX3 19 "LeftArguments$LawReader" "tape" "LLeftArguments$Tape;") (List.mem_cons_of_mem _ (List.mem_append_left _ (List.mem_append_left _ (List.mem_of_getElem? (i := 2) rfl))))) (fun _ h9 => h9) rfl dX3_readCondition_33 ?_
            have hPc := hP.sub (ws' := (wd_09b0abee h1 h2 v1 x101 x89 x90)) [1] rfl
            have hDc := hD.sub (ws' := (wd_09b0abee h1 h2 v1 x101 x89 x90)) [1] (by decide) rfl
            have hKc := hK.sub (tys' := []) [] rfl
            have hFc := va_free (wc := (wd_09b0abee h1 h2 v1 x101 x89 x90)) hD hS hA [1] rfl
            refine va_callv (va_runV (As := []) (rest := []) ⟨hx, hb, hml, hown, hts⟩ (k_X10_step l dC dI h1 h2 v1 x101 x89 x90 ⟨by first | omega | decide, by first | omega | decide⟩ H.size) (cwV 0 hts g_X3_readCondition_5_2 rfl rfl rfl (by decide +kernel) ⟨Nat.le_of_ble_eq_true rfl, Nat.le_of_ble_eq_true rfl⟩) ⟨fun a U g mk q => by obtain ⟨q0, q1, qP, qK, qD⟩ := q; exact ⟨q0, q1, qP, va_K.moved (u := U) (U := U.calling g mk a) (Vm.Alike.refl U.vm) qK, qD⟩, va_recv hKc hPc (ci := 10) (q0 := 0) rfl rfl, fun U hU hW => ⟨rfl, by rw [hU], by rw [hU]; exact hPc, va_K.moved hW.alike hKc, hDc.weaken (fun _ _ _ _ => trivial)⟩⟩ rfl rfl hl.1 rfl (lv_room (Nat.le_of_ble_eq_true rfl)) dX3_readCondition_36 ⟨Nat.le_of_ble_eq_true rfl, Nat.le_of_ble_eq_true rfl⟩) hS (fun q _ h => hFc q h) hFc (fun u t H1 locs ht hvm hwra103 hB hz1 hk1 hS => ?_)
            obtain ⟨x104, hP1, hK1, hD1⟩ := hB
            rw [ht] at hP1
            obtain ⟨hP, hD⟩ := va_join (wr := (wd_6b0d8e05 h0 h1 h3 x87 h2 g0 f5 h3 g1 fn91)) (w1 := (wd_09b0abee h1 h2 v1 x104 x89 x90)) hP hD [1] [0, 2, 3] rfl rfl (by decide) (by decide) hk1 hFc hP1 hD1
            generalize H1 = H at hP hS ⊢
            have hP := hP.sub (ws' := (wd_1ad0248d h0 h1 h3 x87 h1 h2 v1 x104 x89 x90 h2 g0 f5 h3 g1 fn91)) [0, 3, 1, 2] rfl
            have hD := hD.sub (ws' := (wd_1ad0248d h0 h1 h3 x87 h1 h2 v1 x104 x89 x90 h2 g0 f5 h3 g1 fn91)) [0, 3, 1, 2] (by decide) rfl
            have hP : va_P (dC, dI) vwCl (wd_1ad0248d h0 h1 h3 x87 h1 h2 v1 x104 x89 x90 h2 g0 f5 h3 g1 fn91) H := hP
            have hD : va_D A (wd_1ad0248d h0 h1 h3 x87 h1 h2 v1 x104 x89 x90 h2 g0 f5 h3 g1 fn91) := hD
            refine lv_aload_n hx hb dX3_readCondition_39 rfl (lv_at hl 1 rfl) ?_
            refine lv_iload_n hx hb dX3_readCondition_40 rfl (lv_at hl 2 rfl) ?_
            refine lv_iconst (v := 0) hx hb dX3_readCondition_41 (by decide) ?_
            have hPc := hP.sub (ws' := (wd_1ad0248d h0 h1 h3 x87 h1 h2 v1 x104 x89 x90 h2 g0 f5 h3 g1 fn91)) [0, 1, 2, 3] rfl
            have hDc := hD.sub (ws' := (wd_1ad0248d h0 h1 h3 x87 h1 h2 v1 x104 x89 x90 h2 g0 f5 h3 g1 fn91)) [0, 1, 2, 3] (by decide) rfl
            have hKc := hK.sub (tys' := [(g0, .int), (g1, .int)]) [0, 1] rfl
            have hFc := va_free (wc := (wd_1ad0248d h0 h1 h3 x87 h1 h2 v1 x104 x89 x90 h2 g0 f5 h3 g1 fn91)) hD hS hA [0, 1, 2, 3] rfl
            refine va_calli (va_runV (As := [.int 1, .int 0]) (rest := []) ⟨hx, hb, hml, hown, hts⟩ (k_X3_readTruth_5 l dC dI adK adV h0 h1 h2 h3 x87 v1 x104 x89 x90 g0 f5 g1 fn91 0 ⟨by first | omega | decide, by first | omega | decide⟩ ⟨by first | omega | decide, by first | omega | decide⟩ ⟨by first | omega | decide, by first | omega | decide⟩ H.size) (cwV 2 hts g_X3_readCondition_5_0 rfl rfl rfl (by decide +kernel) ⟨Nat.le_of_ble_eq_true rfl, Nat.le_of_ble_eq_true rfl⟩) ⟨fun a U g mk q => by obtain ⟨q0, q1, qP, qK, qD, n0, n1, n2⟩ := q; exact ⟨q0, q1, qP, va_K.moved (u := U) (U := U.calling g mk a) (Vm.Alike.refl U.vm) qK, qD, vk_R.same rfl n0, va_Z.moved (Vm.Alike.refl _) n1, vk_S.moved (Vm.Alike.refl _) n2⟩, va_recv hKc hPc (ci := 3) (q0 := 0) rfl rfl, fun U hU hW => ⟨rfl, by rw [hU], by rw [hU]; exact hPc, va_K.moved hW.alike hKc, hDc.weaken (fun _ _ _ _ => trivial), vk_R.warm hW h_vr_2, (by rw [hU]; exact (va_Z.moved hW.alike (va_Z.kept h_st_CS hS.2.1)).narrow hFc), (by rw [hU]; exact (vk_S.moved hW.alike (vk_S.kept h_st_S hS.2.1)).narrow hFc)⟩⟩ rfl rfl hl.1 rfl (lv_room (Nat.le_of_ble_eq_true rfl)) dX3_readCondition_42 ⟨Nat.le_of_ble_eq_true rfl, Nat.le_of_ble_eq_true rfl⟩) hS (fun q _ h => hFc q h) hFc (fun ra105 u t H1 locs ht hvm hwra105 hB hz1 hk1 hS => ?_)
            obtain ⟨x106, x107, x108, x109, fn110, oa_x106, ob_x106, hP1, hK1, hD1⟩ := hB
            rw [ht] at hP1
            obtain ⟨hP, hD⟩ := va_join (wr := []) (w1 := (wd_1ad0248d h0 h1 h3 x106 h1 h2 v1 x107 x108 x109 h2 g0 f5 h3 g1 fn110)) hP hD [0, 1, 2, 3] [] rfl rfl (by decide) (by decide) hk1 hFc hP1 hD1
            generalize H1 = H at hP hS ⊢
            have hP : va_P (dC, dI) vwCl (wd_1ad0248d h0 h1 h3 x106 h1 h2 v1 x107 x108 x109 h2 g0 f5 h3 g1 fn110) H := hP
            have hD : va_D A (wd_1ad0248d h0 h1 h3 x106 h1 h2 v1 x107 x108 x109 h2 g0 f5 h3 g1 fn110) := hD
            obtain ⟨wa_ra105, wb_ra105⟩ := hwra105
            have wa_ra105 : 0 ≤ ra105.toInt := wa_ra105
            have wb_ra105 : ra105.toInt ≤ 1 := wb_ra105
            refine lv_if_ne (tgt := 50) hx hb dX3_readCondition_45 (by decide) (fun c111 => ?_) (fun c111 => ?_)
            · skip
              have fc111 : ¬ (ra105.toInt = 0) := fun h9 => c111 (Int32.toInt_inj.mp h9)
              refine lv_aload_n hx hb dX3_readCondition_50 rfl (lv_at hl 1 rfl) ?_
              refine lv_bipush (v := 11) hx hb dX3_readCondition_51 (by decide) ?_
              refine lv_iconst (v := 0) hx hb dX3_readCondition_53 (by decide) ?_
              have hPc := hP.sub (ws' := (wd_b958b9da h0 h1 h3 x106 h3 g1 fn110)) [0, 3] rfl
              have hDc := hD.sub (ws' := (wd_b958b9da h0 h1 h3 x106 h3 g1 fn110)) [0, 3] (by decide) rfl
              have hKc := hK.sub (tys' := [(g1, .int)]) [1] rfl
              have hFc := va_free (wc := (wd_b958b9da h0 h1 h3 x106 h3 g1 fn110)) hD hS hA [0, 3] rfl
              refine va_callv (va_runV (As := [.int 11, .int 0]) (rest := []) ⟨hx, hb, hml, hown, hts⟩ (k_X3_write l dC dI h0 h3 h1 x106 g1 fn110 11 0 ⟨by first | omega | decide, by first | omega | decide⟩ H.size) (cwV 2 hts g_X3_readCondition_5_4 rfl rfl rfl (by decide +kernel) ⟨Nat.le_of_ble_eq_true rfl, Nat.le_of_ble_eq_true rfl⟩) ⟨fun a U g mk q => by obtain ⟨q0, q1, qP, qK, qD⟩ := q; exact ⟨q0, q1, qP, va_K.moved (u := U) (U := U.calling g mk a) (Vm.Alike.refl U.vm) qK, qD⟩, va_recv hKc hPc (ci := 3) (q0 := 0) rfl rfl, fun U hU hW => ⟨rfl, by rw [hU], by rw [hU]; exact hPc, va_K.moved hW.alike hKc, hDc.weaken (fun _ _ _ _ => trivial)⟩⟩ rfl rfl hl.1 rfl (lv_room (Nat.le_of_ble_eq_true rfl)) dX3_readCondition_54 ⟨Nat.le_of_ble_eq_true rfl, Nat.le_of_ble_eq_true rfl⟩) hS (fun q _ h => hFc q h) hFc (fun u t H1 locs ht hvm hwra112 hB hz1 hk1 hS => ?_)
              obtain ⟨x113, fn114, oa_x113, ob_x113, hP1, hK1, hD1⟩ := hB
              rw [ht] at hP1
              obtain ⟨hP, hD⟩ := va_join (wr := (wd_82cdd16b h1 h2 v1 x107 x108 x109 h2 g0 f5)) (w1 := (wd_b958b9da h0 h1 h3 x113 h3 g1 fn114)) hP hD [0, 3] [1, 2] rfl rfl (by decide) (by decide) hk1 hFc hP1 hD1
              generalize H1 = H at hP hS ⊢
              have hP := hP.sub (ws' := (wd_1ad0248d h0 h1 h3 x113 h1 h2 v1 x107 x108 x109 h2 g0 f5 h3 g1 fn114)) [2, 0, 1, 3] rfl
              have hD := hD.sub (ws' := (wd_1ad0248d h0 h1 h3 x113 h1 h2 v1 x107 x108 x109 h2 g0 f5 h3 g1 fn114)) [2, 0, 1, 3] (by decide) rfl
              have hP : va_P (dC, dI) vwCl (wd_1ad0248d h0 h1 h3 x113 h1 h2 v1 x107 x108 x109 h2 g0 f5 h3 g1 fn114) H := hP
              have hD : va_D A (wd_1ad0248d h0 h1 h3 x113 h1 h2 v1 x107 x108 x109 h2 g0 f5 h3 g1 fn114) := hD
              obtain ⟨t115, et115⟩ : ∃ y : Int32, y = x86 + 1 := ⟨_, rfl⟩
              have gt115 : t115.toInt = x86.toInt + (1) := pv_add (a := x86.toInt) (b := (1)) et115 rfl (by decide) (by omega) (by omega)
              refine lv_iinc (v := t115) (lv' := [(3, .int t115), (0, .ref h0), (1, .int 1), (2, .int v7)]) hx hb dX3_readCondition_57 hl (k := 0) rfl (by rw [et115]; rfl) (by decide) rfl (fun ls hl => ?_)
              refine lv_goto (tgt := 13) hx hb dX3_readCondition_60 (by decide) ?_
              exact ih_hL98 t115 x113 x107 x108 x109 fn114 H locs ls (by first | omega | decide) (by first | omega | decide) (by first | omega | decide) (by first | omega | decide) (by first | omega | (simp only [Int.toNat] at *; omega)) hP hD hS (lv_sub hl [0, 1, 2, 3] rfl)
            · skip
              have fc111 : ra105.toInt = 0 := congrArg Int32.toInt c111
              refine lv_iconst (v := 0) hx hb dX3_readCondition_48 (by decide) ?_
              subst hQ
              have hP9 := hP.sub (ws' := (wd_1ad0248d h0 h1 h3 x106 h1 h2 v1 x107 x108 x109 h2 g0 f5 h3 g1 fn110)) [0, 1, 2, 3] rfl
              have hD9 := hD.sub (ws' := (wd_1ad0248d h0 h1 h3 x106 h1 h2 v1 x107 x108 x109 h2 g0 f5 h3 g1 fn110)) [0, 1, 2, 3] (by decide) rfl
              have hK9 := hK.sub (tys' := []) [] rfl
              exact W.zret (v := 0) hx hb hr rfl (fun t ht hW => ⟨⟨0, (), rfl, ⟨by first | omega | decide, by first | omega | decide⟩, x106, x107, x108, x109, fn110, by first | omega | decide, by first | omega | decide, by rw [ht]; exact hP9, va_K.moved hW.alike hK9, hD9⟩, hS.F ht⟩) hS.2.2 dX3_readCondition_49
    exact hL98 _ 0 x2 x3 x4 x5 fn6 H locs ls (by first | omega | decide) (by first | omega | decide) (by first | omega | decide) (by first | omega | decide) (Nat.lt_succ_self _) hP hD hS (lv_sub hl [0, 1, 2, 3] rfl)
  · skip
    have fc7 : ra1.toInt = 0 := congrArg Int32.toInt c7
    refine lv_iconst (v := 0) hx hb dX3_readCondition_9 (by decide) ?_
    subst hQ
    have hP9 := hP.sub (ws' := (wd_1ad0248d h0 h1 h3 x2 h1 h2 v1 x3 x4 x5 h2 g0 f5 h3 g1 fn6)) [0, 1, 2, 3] rfl
    have hD9 := hD.sub (ws' := (wd_1ad0248d h0 h1 h3 x2 h1 h2 v1 x3 x4 x5 h2 g0 f5 h3 g1 fn6)) [0, 1, 2, 3] (by decide) rfl
    have hK9 := hK.sub (tys' := []) [] rfl
    exact W.zret (v := 0) hx hb hr rfl (fun t ht hW => ⟨⟨0, (), rfl, ⟨by first | omega | decide, by first | omega | decide⟩, x2, x3, x4, x5, fn6, by first | omega | decide, by first | omega | decide, by rw [ht]; exact hP9, va_K.moved hW.alike hK9, hD9⟩, hS.F ht⟩) hS.2.2 dX3_readCondition_10
def q_X3_readUnit_6 : List Cond := .code yX3_readUnit cX3_readUnit 5 (some .boolean) :: (([.fieldLink RX3 19 "LeftArguments$LawReader" "tape" "LLeftArguments$Tape;", .code yX10_next cX10_next 1 (some .int), .fieldLink RX10 19 "LeftArguments$Tape" "at" "I", .fieldLink RX10 15 "LeftArguments$Tape" "used" "I", .fieldLink RX10 9 "LeftArguments$Tape" "bytes" "[I", .initialized RX10, .instanceMethod yX10_next, .selects RX10 yX10_next yX10_next, .methodLink RX3 48 yX10_next, .code yX3_comparing cX3_comparing 1 (some .int), .initialized RX3, .static yX3_comparing, .methodLink RX3 62 yX3_comparing, .code yX10_step cX10_step 1 none, .instanceMethod yX10_step, .selects RX10 yX10_step yX10_step, .methodLink RX3 77 yX10_step, .code yX3_readSum cX3_readSum 4 (some .boolean), .code yX3_readTerm cX3_readTerm 4 (some .boolean), .code yX3_readAtom cX3_readAtom 4 (some .boolean), .code yX10_isDigit cX10_isDigit 1 (some .boolean), .static yX10_isDigit, .methodLink RX3 92 yX10_isDigit, .code yX3_write cX3_write 3 none, .fieldLink RX3 15 "LeftArguments$LawReader" "used" "I", .fieldLink RX3 11 "LeftArguments$LawReader" "code" "[I", .instanceMethod yX3_write, .selects RX3 yX3_write yX3_write, .methodLink RX3 66 yX3_write, .code yX10_wrongHere cX10_wrongHere 1 (some .boolean), .fieldLink RX10 22 "LeftArguments$Tape" "wrongAt" "I", .instanceMethod yX10_wrongHere, .selects RX10 yX10_wrongHere yX10_wrongHere, .methodLink RX3 83 yX10_wrongHere, .code yJ0_indexOf_0f7a4 cJ0_indexOf_0f7a4 2 (some .int), .code yJ0_indexOf_7cf53 cJ0_indexOf_7cf53 3 (some .int), .code yJ0_isLatin1_aae02 cJ0_isLatin1_aae02 1 (some .boolean), .fieldLink RJ0 38 "java/lang/String" "COMPACT_STRINGS" "Z", .fieldLink RJ0 15 "java/lang/String" "coder" "B", .initialized RJ0, .instanceMethod yJ0_isLatin1_aae02, .selects RJ0 yJ0_isLatin1_aae02 yJ0_isLatin1_aae02, .methodLink RJ0 492 yJ0_isLatin1_aae02, .fieldLink RJ0 9 "java/lang/String" "value" "[B", .code yJ0_length_8abf5 cJ0_length_8abf5 1 (some .int), .code yJ0_coder_7d493 cJ0_coder_7d493 1 (some .byte), .instanceMethod yJ0_coder_7d493, .selects RJ0 yJ0_coder_7d493 yJ0_coder_7d493, .methodLink RJ0 335 yJ0_coder_7d493, .instanceMethod yJ0_length_8abf5, .selects RJ0 yJ0_length_8abf5 yJ0_length_8abf5, .methodLink RJ0 505 yJ0_length_8abf5, .code yJ1_indexOf_4cfef cJ1_indexOf_4cfef 4 (some .int), .code yJ1_canEncode_9a6ad cJ1_canEncode_9a6ad 1 (some .boolean), .initialized RJ1, .static yJ1_canEncode_9a6ad, .methodLink RJ1 88 yJ1_canEncode_9a6ad, .methodLink RJ1 92 Lib.Math.max.name, .static Lib.Math.max.name, .initialized "java/lang/Math", .code Lib.Math.max.name Lib.Math.max.code 2 (some .int), .methodLink RJ1 38 Lib.Math.min.name, .static Lib.Math.min.name, .code Lib.Math.min.name Lib.Math.min.code 2 (some .int), .code yJ1_indexOfChar_4cfef cJ1_indexOfChar_4cfef 6 (some .int), .static yJ1_indexOfChar_4cfef, .methodLink RJ1 95 yJ1_indexOfChar_4cfef, .static yJ1_indexOf_4cfef, .methodLink RJ0 637 yJ1_indexOf_4cfef, .instanceMethod yJ0_indexOf_7cf53, .selects RJ0 yJ0_indexOf_7cf53 yJ0_indexOf_7cf53, .methodLink RJ0 633 yJ0_indexOf_7cf53, .instanceMethod yJ0_indexOf_0f7a4, .selects RJ0 yJ0_indexOf_0f7a4 yJ0_indexOf_0f7a4, .methodLink RX3 103 yJ0_indexOf_0f7a4, .code yX10_takeNumber cX10_takeNumber 3 (some .boolean), .methodLink RX10 37 yX10_next, .methodLink RX10 45 yX10_isDigit, .fieldLink RX10 25 "LeftArguments$Tape" "number" "I", .code yX10_sign cX10_sign 1 (some .int), .instanceMethod yX10_sign, .selects RX10 yX10_sign yX10_sign, .methodLink RX10 49 yX10_sign, .methodLink RX10 41 yX10_wrongHere, .instanceMethod yX10_takeNumber, .selects RX10 yX10_takeNumber yX10_takeNumber, .methodLink RX3 95 yX10_takeNumber, .code yX10_number cX10_number 1 (some .int), .instanceMethod yX10_number, .selects RX10 yX10_number yX10_number, .methodLink RX3 98 yX10_number, .instanceMethod yX3_readAtom, .selects RX3 yX3_readAtom yX3_readAtom, .methodLink RX3 89 yX3_readAtom, .instanceMethod yX3_readTerm, .selects RX3 yX3_readTerm yX3_readTerm, .methodLink RX3 86 yX3_readTerm, .instanceMethod yX3_readSum, .selects RX3 yX3_readSum yX3_readSum, .methodLink RX3 59 yX3_readSum, .code yX10_take cX10_take 2 (some .boolean), .instanceMethod yX10_take, .selects RX10 yX10_take yX10_take, .methodLink RX3 51 yX10_take, .code yX3_readUnit cX3_readUnit 5 (some .boolean), .instanceMethod yX3_readUnit, .selects RX3 yX3_readUnit yX3_readUnit, .methodLink RX3 80 yX3_readUnit, .code yX3_readCondition cX3_readCondition 4 (some .boolean), .code yX3_readTruth cX3_readTruth 4 (some .boolean), .instanceMethod yX3_readTruth, .selects RX3 yX3_readTruth yX3_readTruth, .methodLink RX3 74 yX3_readTruth, .instanceMethod yX3_readCondition, .selects RX3 yX3_readCondition yX3_readCondition, .methodLink RX3 70 yX3_readCondition] : List Cond) ++ wsX30 ++ wsX100)
set_option maxRecDepth 20000 in
theorem g_X3_readUnit_6_0 : GoodIn q_X3_readUnit_6 (wsV RX3 48 RX10 yX10_next q_X10_next) := goodIn_app (goodIn_r _ [9, 7, 8, 6] rfl (by decide +kernel)) (goodIn_ca (goodIn_r (.code yX10_next cX10_next 1 (some .int) :: [.fieldLink RX10 19 "LeftArguments$Tape" "at" "I", .fieldLink RX10 15 "LeftArguments$Tape" "used" "I", .fieldLink RX10 9 "LeftArguments$Tape" "bytes" "[I"]) [2, 3, 4, 5] rfl (by decide +kernel)) (goodIn_sub (fun _ h => List.mem_cons_of_mem _ (List.mem_append_right _ h)) gwX10))
set_option maxRecDepth 20000 in
theorem g_X3_readUnit_6_2 : GoodIn q_X3_readUnit_6 (va_wsS RX3 62 yX3_comparing q_X3_comparing) := goodIn_app (goodIn_r _ [13, 12, 11] rfl (by decide +kernel)) (goodIn_r (.code yX3_comparing cX3_comparing 1 (some .int) :: []) [10] rfl (by decide +kernel))
set_option maxRecDepth 20000 in
theorem g_X3_readUnit_6_3 : GoodIn q_X3_readUnit_6 (wsV RX3 77 RX10 yX10_step q_X10_step) := goodIn_app (goodIn_r _ [17, 15, 16, 6] rfl (by decide +kernel)) (goodIn_ca (goodIn_r (.code yX10_step cX10_step 1 none :: [.fieldLink RX10 19 "LeftArguments$Tape" "at" "I"]) [14, 3] rfl (by decide +kernel)) (goodIn_sub (fun _ h => List.mem_cons_of_mem _ (List.mem_append_right _ h)) gwX10))
set_option maxRecDepth 20000 in
theorem g_X3_readUnit_6_4 : GoodIn q_X3_readUnit_6 (wsV RX3 59 RX3 yX3_readSum q_X3_readSum_6) := goodIn_app (goodIn_r _ [100, 98, 99, 11] rfl (by decide +kernel)) (goodIn_ca (goodIn_ca (goodIn_r (.code yX3_readSum cX3_readSum 4 (some .boolean) :: [.code yX3_readTerm cX3_readTerm 4 (some .boolean), .code yX3_readAtom cX3_readAtom 4 (some .boolean), .fieldLink RX3 19 "LeftArguments$LawReader" "tape" "LLeftArguments$Tape;", .code yX10_next cX10_next 1 (some .int), .fieldLink RX10 19 "LeftArguments$Tape" "at" "I", .fieldLink RX10 15 "LeftArguments$Tape" "used" "I", .fieldLink RX10 9 "LeftArguments$Tape" "bytes" "[I", .initialized RX10, .instanceMethod yX10_next, .selects RX10 yX10_next yX10_next, .methodLink RX3 48 yX10_next, .code yX10_isDigit cX10_isDigit 1 (some .boolean), .static yX10_isDigit, .methodLink RX3 92 yX10_isDigit, .code yX10_step cX10_step 1 none, .instanceMethod yX10_step, .selects RX10 yX10_step yX10_step, .methodLink RX3 77 yX10_step, .code yX3_write cX3_write 3 none, .fieldLink RX3 15 "LeftArguments$LawReader" "used" "I", .fieldLink RX3 11 "LeftArguments$LawReader" "code" "[I", .initialized RX3, .instanceMethod yX3_write, .selects RX3 yX3_write yX3_write, .methodLink RX3 66 yX3_write, .code yX10_wrongHere cX10_wrongHere 1 (some .boolean), .fieldLink RX10 22 "LeftArguments$Tape" "wrongAt" "I", .instanceMethod yX10_wrongHere, .selects RX10 yX10_wrongHere yX10_wrongHere, .methodLink RX3 83 yX10_wrongHere, .code yJ0_indexOf_0f7a4 cJ0_indexOf_0f7a4 2 (some .int), .code yJ0_indexOf_7cf53 cJ0_indexOf_7cf53 3 (some .int), .code yJ0_isLatin1_aae02 cJ0_isLatin1_aae02 1 (some .boolean), .fieldLink RJ0 38 "java/lang/String" "COMPACT_STRINGS" "Z", .fieldLink RJ0 15 "java/lang/String" "coder" "B", .initialized RJ0, .instanceMethod yJ0_isLatin1_aae02, .selects RJ0 yJ0_isLatin1_aae02 yJ0_isLatin1_aae02, .methodLink RJ0 492 yJ0_isLatin1_aae02, .fieldLink RJ0 9 "java/lang/String" "value" "[B", .code yJ0_length_8abf5 cJ0_length_8abf5 1 (some .int), .code yJ0_coder_7d493 cJ0_coder_7d493 1 (some .byte), .instanceMethod yJ0_coder_7d493, .selects RJ0 yJ0_coder_7d493 yJ0_coder_7d493, .methodLink RJ0 335 yJ0_coder_7d493, .instanceMethod yJ0_length_8abf5, .selects RJ0 yJ0_length_8abf5 yJ0_length_8abf5, .methodLink RJ0 505 yJ0_length_8abf5, .code yJ1_indexOf_4cfef cJ1_indexOf_4cfef 4 (some .int), .code yJ1_canEncode_9a6ad cJ1_canEncode_9a6ad 1 (some .boolean), .initialized RJ1, .static yJ1_canEncode_9a6ad, .methodLink RJ1 88 yJ1_canEncode_9a6ad, .methodLink RJ1 92 Lib.Math.max.name, .static Lib.Math.max.name, .initialized "java/lang/Math", .code Lib.Math.max.name Lib.Math.max.code 2 (some .int), .methodLink RJ1 38 Lib.Math.min.name, .static Lib.Math.min.name, .code Lib.Math.min.name Lib.Math.min.code 2 (some .int), .code yJ1_indexOfChar_4cfef cJ1_indexOfChar_4cfef 6 (some .int), .static yJ1_indexOfChar_4cfef, .methodLink RJ1 95 yJ1_indexOfChar_4cfef, .static yJ1_indexOf_4cfef, .methodLink RJ0 637 yJ1_indexOf_4cfef, .instanceMethod yJ0_indexOf_7cf53, .selects RJ0 yJ0_indexOf_7cf53 yJ0_indexOf_7cf53, .methodLink RJ0 633 yJ0_indexOf_7cf53, .instanceMethod yJ0_indexOf_0f7a4, .selects RJ0 yJ0_indexOf_0f7a4 yJ0_indexOf_0f7a4, .methodLink RX3 103 yJ0_indexOf_0f7a4, .code yX10_takeNumber cX10_takeNumber 3 (some .boolean), .methodLink RX10 37 yX10_next, .methodLink RX10 45 yX10_isDigit, .fieldLink RX10 25 "LeftArguments$Tape" "number" "I", .code yX10_sign cX10_sign 1 (some .int), .instanceMethod yX10_sign, .selects RX10 yX10_sign yX10_sign, .methodLink RX10 49 yX10_sign, .methodLink RX10 41 yX10_wrongHere, .instanceMethod yX10_takeNumber, .selects RX10 yX10_takeNumber yX10_takeNumber, .methodLink RX3 95 yX10_takeNumber, .code yX10_number cX10_number 1 (some .int), .instanceMethod yX10_number, .selects RX10 yX10_number yX10_number, .methodLink RX3 98 yX10_number, .code yX3_readSum cX3_readSum 4 (some .boolean), .instanceMethod yX3_readAtom, .selects RX3 yX3_readAtom yX3_readAtom, .methodLink RX3 89 yX3_readAtom, .instanceMethod yX3_readTerm, .selects RX3 yX3_readTerm yX3_readTerm, .methodLink RX3 86 yX3_readTerm, .instanceMethod yX3_readSum, .selects RX3 yX3_readSum yX3_readSum, .methodLink RX3 59 yX3_readSum, .code yX10_take cX10_take 2 (some .boolean), .instanceMethod yX10_take, .selects RX10 yX10_take yX10_take, .methodLink RX3 51 yX10_take]) [18, 19, 20, 1, 2, 3, 4, 5, 6, 7, 8, 9, 21, 22, 23, 14, 15, 16, 17, 24, 25, 26, 11, 27, 28, 29, 30, 31, 32, 33, 34, 35, 36, 37, 38, 39, 40, 41, 42, 43, 44, 45, 46, 47, 48, 49, 50, 51, 52, 53, 54, 55, 56, 57, 58, 59, 60, 61, 62, 63, 64, 65, 66, 67, 68, 69, 70, 71, 72, 73, 74, 75, 76, 77, 78, 79, 80, 81, 82, 83, 84, 85, 86, 87, 88, 89, 90, 91, 18, 92, 93, 94, 95, 96, 97, 98, 99, 100, 101, 102, 103, 104] rfl (by decide +kernel)) (goodIn_sub (fun _ h => List.mem_cons_of_mem _ (List.mem_append_left _ (List.mem_append_right _ h))) gwX3)) (goodIn_sub (fun _ h => List.mem_cons_of_mem _ (List.mem_append_right _ h)) gwX10))
set_option maxRecDepth 20000 in
theorem g_X3_readUnit_6_5 : GoodIn q_X3_readUnit_6 (wsV RX3 66 RX3 yX3_write q_X3_write) := goodIn_app (goodIn_r _ [29, 27, 28, 11] rfl (by decide +kernel)) (goodIn_ca (goodIn_r (.code yX3_write cX3_write 3 none :: [.fieldLink RX3 15 "LeftArguments$LawReader" "used" "I", .fieldLink RX3 11 "LeftArguments$LawReader" "code" "[I"]) [24, 25, 26] rfl (by decide +kernel)) (goodIn_sub (fun _ h => List.mem_cons_of_mem _ (List.mem_append_left _ (List.mem_append_right _ h))) gwX3))
set_option maxRecDepth 20000 in
theorem g_X3_readUnit_6_6 : GoodIn q_X3_readUnit_6 (wsV RX3 83 RX10 yX10_wrongHere q_X10_wrongHere) := goodIn_app (goodIn_r _ [34, 32, 33, 6] rfl (by decide +kernel)) (goodIn_ca (goodIn_r (.code yX10_wrongHere cX10_wrongHere 1 (some .boolean) :: [.fieldLink RX10 19 "LeftArguments$Tape" "at" "I", .fieldLink RX10 22 "LeftArguments$Tape" "wrongAt" "I"]) [30, 3, 31] rfl (by decide +kernel)) (goodIn_sub (fun _ h => List.mem_cons_of_mem _ (List.mem_append_right _ h)) gwX10))
set_option maxRecDepth 20000 in
theorem g_X3_readUnit_6_8 : GoodIn q_X3_readUnit_6 (wsV RX3 80 RX3 yX3_readUnit q_X3_readUnit_5) := goodIn_app (goodIn_r _ [108, 106, 107, 11] rfl (by decide +kernel)) (goodIn_ca (goodIn_ca (goodIn_r (.code yX3_readUnit cX3_readUnit 5 (some .boolean) :: [.fieldLink RX3 19 "LeftArguments$LawReader" "tape" "LLeftArguments$Tape;", .code yX10_next cX10_next 1 (some .int), .fieldLink RX10 19 "LeftArguments$Tape" "at" "I", .fieldLink RX10 15 "LeftArguments$Tape" "used" "I", .fieldLink RX10 9 "LeftArguments$Tape" "bytes" "[I", .initialized RX10, .instanceMethod yX10_next, .selects RX10 yX10_next yX10_next, .methodLink RX3 48 yX10_next, .code yX3_comparing cX3_comparing 1 (some .int), .initialized RX3, .static yX3_comparing, .methodLink RX3 62 yX3_comparing, .code yX10_step cX10_step 1 none, .instanceMethod yX10_step, .selects RX10 yX10_step yX10_step, .methodLink RX3 77 yX10_step, .code yX3_readSum cX3_readSum 4 (some .boolean), .code yX3_readTerm cX3_readTerm 4 (some .boolean), .code yX3_readAtom cX3_readAtom 4 (some .boolean), .code yX10_isDigit cX10_isDigit 1 (some .boolean), .static yX10_isDigit, .methodLink RX3 92 yX10_isDigit, .code yX3_write cX3_write 3 none, .fieldLink RX3 15 "LeftArguments$LawReader" "used" "I", .fieldLink RX3 11 "LeftArguments$LawReader" "code" "[I", .instanceMethod yX3_write, .selects RX3 yX3_write yX3_write, .methodLink RX3 66 yX3_write, .code yX10_wrongHere cX10_wrongHere 1 (some .boolean), .fieldLink RX10 22 "LeftArguments$Tape" "wrongAt" "I", .instanceMethod yX10_wrongHere, .selects RX10 yX10_wrongHere yX10_wrongHere, .methodLink RX3 83 yX10_wrongHere, .code yJ0_indexOf_0f7a4 cJ0_indexOf_0f7a4 2 (some .int), .code yJ0_indexOf_7cf53 cJ0_indexOf_7cf53 3 (some .int), .code yJ0_isLatin1_aae02 cJ0_isLatin1_aae02 1 (some .boolean), .fieldLink RJ0 38 "java/lang/String" "COMPACT_STRINGS" "Z", .fieldLink RJ0 15 "java/lang/String" "coder" "B", .initialized RJ0, .instanceMethod yJ0_isLatin1_aae02, .selects RJ0 yJ0_isLatin1_aae02 yJ0_isLatin1_aae02, .methodLink RJ0 492 yJ0_isLatin1_aae02, .fieldLink RJ0 9 "java/lang/String" "value" "[B", .code yJ0_length_8abf5 cJ0_length_8abf5 1 (some .int), .code yJ0_coder_7d493 cJ0_coder_7d493 1 (some .byte), .instanceMethod yJ0_coder_7d493, .selects RJ0 yJ0_coder_7d493 yJ0_coder_7d493, .methodLink RJ0 335 yJ0_coder_7d493, .instanceMethod yJ0_length_8abf5, .selects RJ0 yJ0_length_8abf5 yJ0_length_8abf5, .methodLink RJ0 505 yJ0_length_8abf5, .code yJ1_indexOf_4cfef cJ1_indexOf_4cfef 4 (some .int), .code yJ1_canEncode_9a6ad cJ1_canEncode_9a6ad 1 (some .boolean), .initialized RJ1, .static yJ1_canEncode_9a6ad, .methodLink RJ1 88 yJ1_canEncode_9a6ad, .methodLink RJ1 92 Lib.Math.max.name, .static Lib.Math.max.name, .initialized "java/lang/Math", .code Lib.Math.max.name Lib.Math.max.code 2 (some .int), .methodLink RJ1 38 Lib.Math.min.name, .static Lib.Math.min.name, .code Lib.Math.min.name Lib.Math.min.code 2 (some .int), .code yJ1_indexOfChar_4cfef cJ1_indexOfChar_4cfef 6 (some .int), .static yJ1_indexOfChar_4cfef, .methodLink RJ1 95 yJ1_indexOfChar_4cfef, .static yJ1_indexOf_4cfef, .methodLink RJ0 637 yJ1_indexOf_4cfef, .instanceMethod yJ0_indexOf_7cf53, .selects RJ0 yJ0_indexOf_7cf53 yJ0_indexOf_7cf53, .methodLink RJ0 633 yJ0_indexOf_7cf53, .instanceMethod yJ0_indexOf_0f7a4, .selects RJ0 yJ0_indexOf_0f7a4 yJ0_indexOf_0f7a4, .methodLink RX3 103 yJ0_indexOf_0f7a4, .code yX10_takeNumber cX10_takeNumber 3 (some .boolean), .methodLink RX10 37 yX10_next, .methodLink RX10 45 yX10_isDigit, .fieldLink RX10 25 "LeftArguments$Tape" "number" "I", .code yX10_sign cX10_sign 1 (some .int), .instanceMethod yX10_sign, .selects RX10 yX10_sign yX10_sign, .methodLink RX10 49 yX10_sign, .methodLink RX10 41 yX10_wrongHere, .instanceMethod yX10_takeNumber, .selects RX10 yX10_takeNumber yX10_takeNumber, .methodLink RX3 95 yX10_takeNumber, .code yX10_number cX10_number 1 (some .int), .instanceMethod yX10_number, .selects RX10 yX10_number yX10_number, .methodLink RX3 98 yX10_number, .instanceMethod yX3_readAtom, .selects RX3 yX3_readAtom yX3_readAtom, .methodLink RX3 89 yX3_readAtom, .instanceMethod yX3_readTerm, .selects RX3 yX3_readTerm yX3_readTerm, .methodLink RX3 86 yX3_readTerm, .instanceMethod yX3_readSum, .selects RX3 yX3_readSum yX3_readSum, .methodLink RX3 59 yX3_readSum, .code yX10_take cX10_take 2 (some .boolean), .instanceMethod yX10_take, .selects RX10 yX10_take yX10_take, .methodLink RX3 51 yX10_take, .code yX3_readUnit cX3_readUnit 5 (some .boolean), .instanceMethod yX3_readUnit, .selects RX3 yX3_readUnit yX3_readUnit, .methodLink RX3 80 yX3_readUnit, .code yX3_readCondition cX3_readCondition 4 (some .boolean), .code yX3_readTruth cX3_readTruth 4 (some .boolean), .instanceMethod yX3_readTruth, .selects RX3 yX3_readTruth yX3_readTruth, .methodLink RX3 74 yX3_readTruth, .instanceMethod yX3_readCondition, .selects RX3 yX3_readCondition yX3_readCondition, .methodLink RX3 70 yX3_readCondition]) [105, 1, 2, 3, 4, 5, 6, 7, 8, 9, 10, 11, 12, 13, 14, 15, 16, 17, 18, 19, 20, 21, 22, 23, 24, 25, 26, 27, 28, 29, 30, 31, 32, 33, 34, 35, 36, 37, 38, 39, 40, 41, 42, 43, 44, 45, 46, 47, 48, 49, 50, 51, 52, 53, 54, 55, 56, 57, 58, 59, 60, 61, 62, 63, 64, 65, 66, 67, 68, 69, 70, 71, 72, 73, 74, 75, 76, 77, 78, 79, 80, 81, 82, 83, 84, 85, 86, 87, 88, 89, 90, 91, 92, 93, 94, 95, 96, 97, 98, 99, 100, 101, 102, 103, 104, 105, 106, 107, 108, 109, 110, 111, 112, 113, 114, 115, 116] rfl (by decide +kernel)) (goodIn_sub (fun _ h => List.mem_cons_of_mem _ (List.mem_append_left _ (List.mem_append_right _ h))) gwX3)) (goodIn_sub (fun _ h => List.mem_cons_of_mem _ (List.mem_append_right _ h)) gwX10))
set_option maxRecDepth 20000 in
theorem g_X3_readUnit_6_18 : GoodIn q_X3_readUnit_6 (wsV RX3 70 RX3 yX3_readCondition q_X3_readCondition_5) := goodIn_app (goodIn_r _ [116, 114, 115, 11] rfl (by decide +kernel)) (goodIn_ca (goodIn_ca (goodIn_r (.code yX3_readCondition cX3_readCondition 4 (some .boolean) :: [.code yX3_readTruth cX3_readTruth 4 (some .boolean), .code yX3_readUnit cX3_readUnit 5 (some .boolean), .fieldLink RX3 19 "LeftArguments$LawReader" "tape" "LLeftArguments$Tape;", .code yX10_next cX10_next 1 (some .int), .fieldLink RX10 19 "LeftArguments$Tape" "at" "I", .fieldLink RX10 15 "LeftArguments$Tape" "used" "I", .fieldLink RX10 9 "LeftArguments$Tape" "bytes" "[I", .initialized RX10, .instanceMethod yX10_next, .selects RX10 yX10_next yX10_next, .methodLink RX3 48 yX10_next, .code yX3_comparing cX3_comparing 1 (some .int), .initialized RX3, .static yX3_comparing, .methodLink RX3 62 yX3_comparing, .code yX10_step cX10_step 1 none, .instanceMethod yX10_step, .selects RX10 yX10_step yX10_step, .methodLink RX3 77 yX10_step, .code yX3_readSum cX3_readSum 4 (some .boolean), .code yX3_readTerm cX3_readTerm 4 (some .boolean), .code yX3_readAtom cX3_readAtom 4 (some .boolean), .code yX10_isDigit cX10_isDigit 1 (some .boolean), .static yX10_isDigit, .methodLink RX3 92 yX10_isDigit, .code yX3_write cX3_write 3 none, .fieldLink RX3 15 "LeftArguments$LawReader" "used" "I", .fieldLink RX3 11 "LeftArguments$LawReader" "code" "[I", .instanceMethod yX3_write, .selects RX3 yX3_write yX3_write, .methodLink RX3 66 yX3_write, .code yX10_wrongHere cX10_wrongHere 1 (some .boolean), .fieldLink RX10 22 "LeftArguments$Tape" "wrongAt" "I", .instanceMethod yX10_wrongHere, .selects RX10 yX10_wrongHere yX10_wrongHere, .methodLink RX3 83 yX10_wrongHere, .code yJ0_indexOf_0f7a4 cJ0_indexOf_0f7a4 2 (some .int), .code yJ0_indexOf_7cf53 cJ0_indexOf_7cf53 3 (some .int), .code yJ0_isLatin1_aae02 cJ0_isLatin1_aae02 1 (some .boolean), .fieldLink RJ0 38 "java/lang/String" "COMPACT_STRINGS" "Z", .fieldLink RJ0 15 "java/lang/String" "coder" "B", .initialized RJ0, .instanceMethod yJ0_isLatin1_aae02, .selects RJ0 yJ0_isLatin1_aae02 yJ0_isLatin1_aae02, .methodLink RJ0 492 yJ0_isLatin1_aae02, .fieldLink RJ0 9 "java/lang/String" "value" "[B", .code yJ0_length_8abf5 cJ0_length_8abf5 1 (some .int), .code yJ0_coder_7d493 cJ0_coder_7d493 1 (some .byte), .instanceMethod yJ0_coder_7d493, .selects RJ0 yJ0_coder_7d493 yJ0_coder_7d493, .methodLink RJ0 335 yJ0_coder_7d493, .instanceMethod yJ0_length_8abf5, .selects RJ0 yJ0_length_8abf5 yJ0_length_8abf5, .methodLink RJ0 505 yJ0_length_8abf5, .code yJ1_indexOf_4cfef cJ1_indexOf_4cfef 4 (some .int), .code yJ1_canEncode_9a6ad cJ1_canEncode_9a6ad 1 (some .boolean), .initialized RJ1, .static yJ1_canEncode_9a6ad, .methodLink RJ1 88 yJ1_canEncode_9a6ad, .methodLink RJ1 92 Lib.Math.max.name, .static Lib.Math.max.name, .initialized "java/lang/Math", .code Lib.Math.max.name Lib.Math.max.code 2 (some .int), .methodLink RJ1 38 Lib.Math.min.name, .static Lib.Math.min.name, .code Lib.Math.min.name Lib.Math.min.code 2 (some .int), .code yJ1_indexOfChar_4cfef cJ1_indexOfChar_4cfef 6 (some .int), .static yJ1_indexOfChar_4cfef, .methodLink RJ1 95 yJ1_indexOfChar_4cfef, .static yJ1_indexOf_4cfef, .methodLink RJ0 637 yJ1_indexOf_4cfef, .instanceMethod yJ0_indexOf_7cf53, .selects RJ0 yJ0_indexOf_7cf53 yJ0_indexOf_7cf53, .methodLink RJ0 633 yJ0_indexOf_7cf53, .instanceMethod yJ0_indexOf_0f7a4, .selects RJ0 yJ0_indexOf_0f7a4 yJ0_indexOf_0f7a4, .methodLink RX3 103 yJ0_indexOf_0f7a4, .code yX10_takeNumber cX10_takeNumber 3 (some .boolean), .methodLink RX10 37 yX10_next, .methodLink RX10 45 yX10_isDigit, .fieldLink RX10 25 "LeftArguments$Tape" "number" "I", .code yX10_sign cX10_sign 1 (some .int), .instanceMethod yX10_sign, .selects RX10 yX10_sign yX10_sign, .methodLink RX10 49 yX10_sign, .methodLink RX10 41 yX10_wrongHere, .instanceMethod yX10_takeNumber, .selects RX10 yX10_takeNumber yX10_takeNumber, .methodLink RX3 95 yX10_takeNumber, .code yX10_number cX10_number 1 (some .int), .instanceMethod yX10_number, .selects RX10 yX10_number yX10_number, .methodLink RX3 98 yX10_number, .instanceMethod yX3_readAtom, .selects RX3 yX3_readAtom yX3_readAtom, .methodLink RX3 89 yX3_readAtom, .instanceMethod yX3_readTerm, .selects RX3 yX3_readTerm yX3_readTerm, .methodLink RX3 86 yX3_readTerm, .instanceMethod yX3_readSum, .selects RX3 yX3_readSum yX3_readSum, .methodLink RX3 59 yX3_readSum, .code yX10_take cX10_take 2 (some .boolean), .instanceMethod yX10_take, .selects RX10 yX10_take yX10_take, .methodLink RX3 51 yX10_take, .instanceMethod yX3_readUnit, .selects RX3 yX3_readUnit yX3_readUnit, .methodLink RX3 80 yX3_readUnit, .code yX3_readCondition cX3_readCondition 4 (some .boolean), .instanceMethod yX3_readTruth, .selects RX3 yX3_readTruth yX3_readTruth, .methodLink RX3 74 yX3_readTruth, .instanceMethod yX3_readCondition, .selects RX3 yX3_readCondition yX3_readCondition, .methodLink RX3 70 yX3_readCondition]) [109, 110, 105, 1, 2, 3, 4, 5, 6, 7, 8, 9, 10, 11, 12, 13, 14, 15, 16, 17, 18, 19, 20, 21, 22, 23, 24, 25, 26, 27, 28, 29, 30, 31, 32, 33, 34, 35, 36, 37, 38, 39, 40, 41, 42, 43, 44, 45, 46, 47, 48, 49, 50, 51, 52, 53, 54, 55, 56, 57, 58, 59, 60, 61, 62, 63, 64, 65, 66, 67, 68, 69, 70, 71, 72, 73, 74, 75, 76, 77, 78, 79, 80, 81, 82, 83, 84, 85, 86, 87, 88, 89, 90, 91, 92, 93, 94, 95, 96, 97, 98, 99, 100, 101, 102, 103, 104, 106, 107, 108, 109, 111, 112, 113, 114, 115, 116] rfl (by decide +kernel)) (goodIn_sub (fun _ h => List.mem_cons_of_mem _ (List.mem_append_left _ (List.mem_append_right _ h))) gwX3)) (goodIn_sub (fun _ h => List.mem_cons_of_mem _ (List.mem_append_right _ h)) gwX10))
set_option maxRecDepth 20000 in
theorem g_X3_readUnit_6_19 : GoodIn q_X3_readUnit_6 (wsV RX3 51 RX10 yX10_take q_X10_take) := goodIn_app (goodIn_r _ [104, 102, 103, 6] rfl (by decide +kernel)) (goodIn_ca (goodIn_r (.code yX10_take cX10_take 2 (some .boolean) :: [.code yX10_next cX10_next 1 (some .int), .fieldLink RX10 19 "LeftArguments$Tape" "at" "I", .fieldLink RX10 15 "LeftArguments$Tape" "used" "I", .fieldLink RX10 9 "LeftArguments$Tape" "bytes" "[I", .initialized RX10, .instanceMethod yX10_next, .selects RX10 yX10_next yX10_next, .methodLink RX10 37 yX10_next, .code yX10_wrongHere cX10_wrongHere 1 (some .boolean), .fieldLink RX10 22 "LeftArguments$Tape" "wrongAt" "I", .instanceMethod yX10_wrongHere, .selects RX10 yX10_wrongHere yX10_wrongHere, .methodLink RX10 41 yX10_wrongHere]) [101, 2, 3, 4, 5, 6, 7, 8, 77, 30, 31, 32, 33, 84] rfl (by decide +kernel)) (goodIn_sub (fun _ h => List.mem_cons_of_mem _ (List.mem_append_right _ h)) gwX10))
set_option maxHeartbeats 4000000 in
set_option maxRecDepth 100000 in
theorem k_X3_readUnit_6 (l : Launch) (dC : Nat → ClassId) (dI : Nat → Nat → Nat) (adK : Nat → Nat) (adV : Nat → Nat) (h0 : Nat) (h1 : Nat) (h2 : Nat) (h3 : Nat) (v0 : Int32) (v1 : Int32) (v2 : Int32) (v3 : Int32) (v4 : Int32) (g0 : ClassId) (f5 : Nat → Int32) (g1 : ClassId) (f6 : Nat → Int32) (v7 : Int32) (i_v0 : 0 ≤ v0.toInt ∧ v0.toInt ≤ 256) (i_v1 : 0 ≤ v1.toInt ∧ v1.toInt ≤ 240) (i_v7 : 0 ≤ v7.toInt ∧ v7.toInt ≤ 1) (sz : Nat) : Met l yX3_readUnit q_X3_readUnit_6 ({ frames := 25, cells := 0, slots := 0, locals := 580 }) (va_Pc [.ref h0, .int 0, .int v7] (fun U => U.heap.size = sz ∧ va_P (dC, dI) vwCl (wd_1ad0248d h0 h1 h3 v0 h1 h2 v1 v2 v3 v4 h2 g0 f5 h3 g1 f6) U.heap ∧ va_K (dC, dI) vwCl [(g0, .int), (g1, .int)] U ∧ va_D (fun _ => True) (wd_1ad0248d h0 h1 h3 v0 h1 h2 v1 v2 v3 v4 h2 g0 f5 h3 g1 f6) ∧ vk_R RX3 101 "zaondt" (adK 2) U ∧ va_Z "java/lang/String" "COMPACT_STRINGS" "Z" (.int 1) (va_A (wd_1ad0248d h0 h1 h3 v0 h1 h2 v1 v2 v3 v4 h2 g0 f5 h3 g1 f6) sz) U U.heap ∧ vk_S 3 pv_len3 pv_byt3 adK adV (va_A (wd_1ad0248d h0 h1 h3 v0 h1 h2 v1 v2 v3 v4 h2 g0 f5 h3 g1 f6) sz) U U.heap)) (va_Qi (fun (r : Int32) (_ : Unit) => 0 ≤ r.toInt ∧ r.toInt ≤ 1) (fun (_ : Unit) (t : State) => ∃ (o_h0_2 : Int32) (o_h1_2 : Int32) (o_h1_3 : Int32) (o_h1_4 : Int32) (o_h3 : Nat → Int32), 0 ≤ o_h0_2.toInt ∧ o_h0_2.toInt ≤ 256 ∧ va_P (dC, dI) vwCl (wd_1ad0248d h0 h1 h3 o_h0_2 h1 h2 v1 o_h1_2 o_h1_3 o_h1_4 h2 g0 f5 h3 g1 o_h3) t.heap ∧ va_K (dC, dI) vwCl [] t ∧ va_D (va_A (wd_1ad0248d h0 h1 h3 v0 h1 h2 v1 v2 v3 v4 h2 g0 f5 h3 g1 f6) sz) (wd_1ad0248d h0 h1 h3 o_h0_2 h1 h2 v1 o_h1_2 o_h1_3 o_h1_4 h2 g0 f5 h3 g1 o_h3)) (va_A (wd_1ad0248d h0 h1 h3 v0 h1 h2 v1 v2 v3 v4 h2 g0 f5 h3 g1 f6) sz)) 0 0 (va_A (wd_1ad0248d h0 h1 h3 v0 h1 h2 v1 v2 v3 v4 h2 g0 f5 h3 g1 f6) sz) := by
  refine Met.ofW (cc := cX3_readUnit) (maxL := 5) (ret := (some .boolean)) (by decide) rfl ?_
  intro p e s m args below meth c s₁ B hml hv
  obtain ⟨i_v0a, i_v0b⟩ := i_v0
  obtain ⟨i_v1a, i_v1b⟩ := i_v1
  obtain ⟨i_v7a, i_v7b⟩ := i_v7
  obtain ⟨rfl, hsz, hP, hK, hD0, h_vr_2, h_st_CS, h_st_S⟩ := hv
  have hx := B.exec
  have hb := B.bytes
  have hr := B.returns
  have hts := atoms_spec (ws := q_X3_readUnit_6) B.pre
  have hown : s.vm.findClass RX3 = some m.cls := findClass_of_methodNamed B.named
  have hlocks := B.notSynchronized
  subst hsz
  have hD := hD0.self (sz := s.heap.size)
  generalize hAe : va_A (wd_1ad0248d h0 h1 h3 v0 h1 h2 v1 v2 v3 v4 h2 g0 f5 h3 g1 f6) s.heap.size = A at hD h_st_CS h_st_S ⊢
  have hA : ∀ q : Nat, s.heap.size ≤ q → A q := fun q h => by rw [← hAe]; exact Or.inr h
  have hS : va_S A s.heap s.heap [] := va_S.rf
  generalize hQ : (MQ below _ _ s 0 0 A) = Q
  have hl := lv_entry ([.ref h0, .int 0, .int v7]) (n := 5) (Nat.le_of_ble_eq_true rfl)
  rw [lg_entry_eq]
  generalize (lg_sl ([.ref h0, .int 0, .int v7]) ++ List.replicate (5 - (lg_sl ([.ref h0, .int 0, .int v7])).length) Slot.unset).toArray = ls at hl ⊢
  have hl : lv_has ls 5 [(0, .ref h0), (1, .int 0), (2, .int v7)] := hl
  obtain ⟨H, hH⟩ : ∃ H : Heap, H = s.heap := ⟨_, rfl⟩
  obtain ⟨locs, hlocs⟩ : ∃ y : List Loc, y = [] := ⟨_, rfl⟩
  have hS : va_S A s.heap H locs := by rw [hH, hlocs]; exact va_S.rf
  have hP : va_P (dC, dI) vwCl (wd_1ad0248d h0 h1 h3 v0 h1 h2 v1 v2 v3 v4 h2 g0 f5 h3 g1 f6) H := by rw [hH]; exact hP
  rw [← hH, ← hlocs]
  refine lv_aload_n hx hb dX3_readUnit_0 rfl (lv_at hl 0 rfl) ?_
  refine va_get (D := (dC, dI)) (ci := 3) (v := .ref h1) (C := RX3) (T := TX3) (N := 3) hx hb hts (fun _ h => List.mem_cons_of_mem _ (List.mem_append_left _ (List.mem_append_right _ h))) hown hK hP 0 rfl rfl 0 (by decide) (hts (.fieldLink RX3 19 "LeftArguments$LawReader" "tape" "LLeftArguments$Tape;") (List.mem_cons_of_mem _ (List.mem_append_left _ (List.mem_append_left _ (List.mem_of_getElem? (i := 0) rfl))))) (fun _ h9 => h9) rfl dX3_readUnit_1 ?_
  have hPc := hP.sub (ws' := (wd_82cdd16b h1 h2 v1 v2 v3 v4 h2 g0 f5)) [1, 2] rfl
  have hDc := hD.sub (ws' := (wd_82cdd16b h1 h2 v1 v2 v3 v4 h2 g0 f5)) [1, 2] (by decide) rfl
  have hKc := hK.sub (tys' := [(g0, .int)]) [0] rfl
  have hFc := va_free (wc := (wd_82cdd16b h1 h2 v1 v2 v3 v4 h2 g0 f5)) hD hS hA [1, 2] rfl
  refine va_calli (va_runV (As := []) (rest := []) ⟨hx, hb, hml, hown, hts⟩ (k_X10_next l dC dI h1 h2 v1 v2 v3 v4 g0 f5 ⟨by first | omega | decide, by first | omega | decide⟩ H.size) (cwV 0 hts g_X3_readUnit_6_0 rfl rfl rfl (by decide +kernel) ⟨Nat.le_of_ble_eq_true rfl, Nat.le_of_ble_eq_true rfl⟩) ⟨fun a U g mk q => by obtain ⟨q0, q1, qP, qK, qD⟩ := q; exact ⟨q0, q1, qP, va_K.moved (u := U) (U := U.calling g mk a) (Vm.Alike.refl U.vm) qK, qD⟩, va_recv hKc hPc (ci := 10) (q0 := 0) rfl rfl, fun U hU hW => ⟨rfl, by rw [hU], by rw [hU]; exact hPc, va_K.moved hW.alike hKc, hDc.weaken (fun _ _ _ _ => trivial)⟩⟩ rfl rfl hl.1 rfl (lv_room (Nat.le_of_ble_eq_true rfl)) dX3_readUnit_4 ⟨Nat.le_of_ble_eq_true rfl, Nat.le_of_ble_eq_true rfl⟩) hS (fun q _ h => hFc q h) hFc (fun ra1 u t H1 locs ht hvm hwra1 hB hz1 hk1 hS => ?_)
  obtain ⟨x2, hP1, hK1, hD1⟩ := hB
  rw [ht] at hP1
  obtain ⟨hP, hD⟩ := va_join (wr := (wd_b958b9da h0 h1 h3 v0 h3 g1 f6)) (w1 := (wd_82cdd16b h1 h2 v1 x2 v3 v4 h2 g0 f5)) hP hD [1, 2] [0, 3] rfl rfl (by decide) (by decide) hk1 hFc hP1 hD1
  generalize H1 = H at hP hS ⊢
  have hP := hP.sub (ws' := (wd_1ad0248d h0 h1 h3 v0 h1 h2 v1 x2 v3 v4 h2 g0 f5 h3 g1 f6)) [0, 2, 3, 1] rfl
  have hD := hD.sub (ws' := (wd_1ad0248d h0 h1 h3 v0 h1 h2 v1 x2 v3 v4 h2 g0 f5 h3 g1 f6)) [0, 2, 3, 1] (by decide) rfl
  have hP : va_P (dC, dI) vwCl (wd_1ad0248d h0 h1 h3 v0 h1 h2 v1 x2 v3 v4 h2 g0 f5 h3 g1 f6) H := hP
  have hD : va_D A (wd_1ad0248d h0 h1 h3 v0 h1 h2 v1 x2 v3 v4 h2 g0 f5 h3 g1 f6) := hD
  refine lv_istore_n (lv' := [(3, .int ra1), (0, .ref h0), (1, .int 0), (2, .int v7)]) hx hb dX3_readUnit_7 rfl hl (by decide) rfl (fun ls hl => ?_)
  refine lv_iload_n hx hb dX3_readUnit_8 rfl (lv_at hl 3 rfl) ?_
  refine lv_if_ne (tgt := 102) hx hb dX3_readUnit_9 (by decide) (fun c3 => ?_) (fun c3 => ?_)
  · skip
    have fc3 : ¬ (v7.toInt = 0) := fun h9 => c3 (Int32.toInt_inj.mp h9)
    refine lv_iload_n hx hb dX3_readUnit_102 rfl (lv_at hl 3 rfl) ?_
    refine lv_if_ne (tgt := 116) hx hb dX3_readUnit_103 (by decide) (fun _ => ?_) (fun c4 => by exfalso; have fc4 : v7.toInt = 0 := congrArg Int32.toInt c4; omega)
    refine lv_aload_n hx hb dX3_readUnit_116 rfl (lv_at hl 1 rfl) ?_
    refine va_get (D := (dC, dI)) (ci := 3) (v := .ref h1) (C := RX3) (T := TX3) (N := 3) hx hb hts (fun _ h => List.mem_cons_of_mem _ (List.mem_append_left _ (List.mem_append_right _ h))) hown hK hP 0 rfl rfl 0 (by decide) (hts (.fieldLink RX3 19 "LeftArguments$LawReader" "tape" "LLeftArguments$Tape;") (List.mem_cons_of_mem _ (List.mem_append_left _ (List.mem_append_left _ (List.mem_of_getElem? (i := 0) rfl))))) (fun _ h9 => h9) rfl dX3_readUnit_117 ?_
    have hPc := hP.sub (ws' := (wd_82cdd16b h1 h2 v1 x2 v3 v4 h2 g0 f5)) [1, 2] rfl
    have hDc := hD.sub (ws' := (wd_82cdd16b h1 h2 v1 x2 v3 v4 h2 g0 f5)) [1, 2] (by decide) rfl
    have hKc := hK.sub (tys' := [(g0, .int)]) [0] rfl
    have hFc := va_free (wc := (wd_82cdd16b h1 h2 v1 x2 v3 v4 h2 g0 f5)) hD hS hA [1, 2] rfl
    refine va_calli (va_runV (As := []) (rest := []) ⟨hx, hb, hml, hown, hts⟩ (k_X10_next l dC dI h1 h2 v1 x2 v3 v4 g0 f5 ⟨by first | omega | decide, by first | omega | decide⟩ H.size) (cwV 0 hts g_X3_readUnit_6_0 rfl rfl rfl (by decide +kernel) ⟨Nat.le_of_ble_eq_true rfl, Nat.le_of_ble_eq_true rfl⟩) ⟨fun a U g mk q => by obtain ⟨q0, q1, qP, qK, qD⟩ := q; exact ⟨q0, q1, qP, va_K.moved (u := U) (U := U.calling g mk a) (Vm.Alike.refl U.vm) qK, qD⟩, va_recv hKc hPc (ci := 10) (q0 := 0) rfl rfl, fun U hU hW => ⟨rfl, by rw [hU], by rw [hU]; exact hPc, va_K.moved hW.alike hKc, hDc.weaken (fun _ _ _ _ => trivial)⟩⟩ rfl rfl hl.1 rfl (lv_room (Nat.le_of_ble_eq_true rfl)) dX3_readUnit_120 ⟨Nat.le_of_ble_eq_true rfl, Nat.le_of_ble_eq_true rfl⟩) hS (fun q _ h => hFc q h) hFc (fun ra5 u t H1 locs ht hvm hwra5 hB hz1 hk1 hS => ?_)
    obtain ⟨x6, hP1, hK1, hD1⟩ := hB
    rw [ht] at hP1
    obtain ⟨hP, hD⟩ := va_join (wr := (wd_b958b9da h0 h1 h3 v0 h3 g1 f6)) (w1 := (wd_82cdd16b h1 h2 v1 x6 v3 v4 h2 g0 f5)) hP hD [1, 2] [0, 3] rfl rfl (by decide) (by decide) hk1 hFc hP1 hD1
    generalize H1 = H at hP hS ⊢
    have hP := hP.sub (ws' := (wd_1ad0248d h0 h1 h3 v0 h1 h2 v1 x6 v3 v4 h2 g0 f5 h3 g1 f6)) [0, 2, 3, 1] rfl
    have hD := hD.sub (ws' := (wd_1ad0248d h0 h1 h3 v0 h1 h2 v1 x6 v3 v4 h2 g0 f5 h3 g1 f6)) [0, 2, 3, 1] (by decide) rfl
    have hP : va_P (dC, dI) vwCl (wd_1ad0248d h0 h1 h3 v0 h1 h2 v1 x6 v3 v4 h2 g0 f5 h3 g1 f6) H := hP
    have hD : va_D A (wd_1ad0248d h0 h1 h3 v0 h1 h2 v1 x6 v3 v4 h2 g0 f5 h3 g1 f6) := hD
    have hPc := hP.sub (ws' := []) [] rfl
    have hDc := hD.sub (ws' := []) [] (by decide) rfl
    have hKc := hK.sub (tys' := []) [] rfl
    have hFc := va_free (wc := []) hD hS hA [] rfl
    refine va_calli (va_runS (As := [.int ra5]) (rest := []) ⟨hx, hb, hml, hown, hts⟩ (k_X3_comparing l dC dI ra5  H.size) (va_cwS 1 hts g_X3_readUnit_6_2 rfl rfl rfl (by decide +kernel) ⟨Nat.le_of_ble_eq_true rfl, Nat.le_of_ble_eq_true rfl⟩) ⟨fun a U g mk q => by obtain ⟨q0, q1, qP, qK, qD⟩ := q; exact ⟨q0, q1, qP, va_K.moved (u := U) (U := U.calling g mk a) (Vm.Alike.refl U.vm) qK, qD⟩, fun U hU hW => ⟨rfl, by rw [hU], by rw [hU]; exact hPc, va_K.moved hW.alike hKc, hDc.weaken (fun _ _ _ _ => trivial)⟩⟩ rfl rfl hl.1 rfl (lv_room (Nat.le_of_ble_eq_true rfl)) dX3_readUnit_123 ⟨Nat.le_of_ble_eq_true rfl, Nat.le_of_ble_eq_true rfl⟩) hS (fun q _ h => hFc q h) hFc (fun ra7 u t H1 locs ht hvm hwra7 hB hz1 hk1 hS => ?_)
    obtain ⟨hP1, hK1, hD1⟩ := hB
    rw [ht] at hP1
    obtain ⟨hP, hD⟩ := va_join (wr := (wd_1ad0248d h0 h1 h3 v0 h1 h2 v1 x6 v3 v4 h2 g0 f5 h3 g1 f6)) (w1 := []) hP hD [] [0, 1, 2, 3] rfl rfl (by decide) (by decide) hk1 hFc hP1 hD1
    generalize H1 = H at hP hS ⊢
    have hP : va_P (dC, dI) vwCl (wd_1ad0248d h0 h1 h3 v0 h1 h2 v1 x6 v3 v4 h2 g0 f5 h3 g1 f6) H := hP
    have hD : va_D A (wd_1ad0248d h0 h1 h3 v0 h1 h2 v1 x6 v3 v4 h2 g0 f5 h3 g1 f6) := hD
    obtain ⟨wa_ra7, wb_ra7⟩ := hwra7
    have wa_ra7 : -1 ≤ ra7.toInt := wa_ra7
    have wb_ra7 : ra7.toInt ≤ 8 := wb_ra7
    refine lv_istore (lv' := [(4, .int ra7), (3, .int ra1), (0, .ref h0), (1, .int 0), (2, .int v7)]) hx hb dX3_readUnit_126 hl (by decide) rfl (fun ls hl => ?_)
    refine lv_iload hx hb dX3_readUnit_128 (lv_at hl 0 rfl) ?_
    refine lv_iconst (v := (-1)) hx hb dX3_readUnit_130 (by decide) ?_
    refine lv_icmp_ne (tgt := 142) hx hb dX3_readUnit_131 (by decide) (fun c8 => ?_) (fun c8 => ?_)
    · skip
      have fc8 : ¬ (ra7.toInt = (-1)) := fun h9 => c8 (Int32.toInt_inj.mp h9)
      refine lv_aload_n hx hb dX3_readUnit_142 rfl (lv_at hl 2 rfl) ?_
      refine va_get (D := (dC, dI)) (ci := 3) (v := .ref h1) (C := RX3) (T := TX3) (N := 3) hx hb hts (fun _ h => List.mem_cons_of_mem _ (List.mem_append_left _ (List.mem_append_right _ h))) hown hK hP 0 rfl rfl 0 (by decide) (hts (.fieldLink RX3 19 "LeftArguments$LawReader" "tape" "LLeftArguments$Tape;") (List.mem_cons_of_mem _ (List.mem_append_left _ (List.mem_append_left _ (List.mem_of_getElem? (i := 0) rfl))))) (fun _ h9 => h9) rfl dX3_readUnit_143 ?_
      have hPc := hP.sub (ws' := (wd_09b0abee h1 h2 v1 x6 v3 v4)) [1] rfl
      have hDc := hD.sub (ws' := (wd_09b0abee h1 h2 v1 x6 v3 v4)) [1] (by decide) rfl
      have hKc := hK.sub (tys' := []) [] rfl
      have hFc := va_free (wc := (wd_09b0abee h1 h2 v1 x6 v3 v4)) hD hS hA [1] rfl
      refine va_callv (va_runV (As := []) (rest := []) ⟨hx, hb, hml, hown, hts⟩ (k_X10_step l dC dI h1 h2 v1 x6 v3 v4 ⟨by first | omega | decide, by first | omega | decide⟩ H.size) (cwV 0 hts g_X3_readUnit_6_3 rfl rfl rfl (by decide +kernel) ⟨Nat.le_of_ble_eq_true rfl, Nat.le_of_ble_eq_true rfl⟩) ⟨fun a U g mk q => by obtain ⟨q0, q1, qP, qK, qD⟩ := q; exact ⟨q0, q1, qP, va_K.moved (u := U) (U := U.calling g mk a) (Vm.Alike.refl U.vm) qK, qD⟩, va_recv hKc hPc (ci := 10) (q0 := 0) rfl rfl, fun U hU hW => ⟨rfl, by rw [hU], by rw [hU]; exact hPc, va_K.moved hW.alike hKc, hDc.weaken (fun _ _ _ _ => trivial)⟩⟩ rfl rfl hl.1 rfl (lv_room (Nat.le_of_ble_eq_true rfl)) dX3_readUnit_146 ⟨Nat.le_of_ble_eq_true rfl, Nat.le_of_ble_eq_true rfl⟩) hS (fun q _ h => hFc q h) hFc (fun u t H1 locs ht hvm hwra9 hB hz1 hk1 hS => ?_)
      obtain ⟨x10, hP1, hK1, hD1⟩ := hB
      rw [ht] at hP1
      obtain ⟨hP, hD⟩ := va_join (wr := (wd_6b0d8e05 h0 h1 h3 v0 h2 g0 f5 h3 g1 f6)) (w1 := (wd_09b0abee h1 h2 v1 x10 v3 v4)) hP hD [1] [0, 2, 3] rfl rfl (by decide) (by decide) hk1 hFc hP1 hD1
      generalize H1 = H at hP hS ⊢
      have hP := hP.sub (ws' := (wd_1ad0248d h0 h1 h3 v0 h1 h2 v1 x10 v3 v4 h2 g0 f5 h3 g1 f6)) [0, 3, 1, 2] rfl
      have hD := hD.sub (ws' := (wd_1ad0248d h0 h1 h3 v0 h1 h2 v1 x10 v3 v4 h2 g0 f5 h3 g1 f6)) [0, 3, 1, 2] (by decide) rfl
      have hP : va_P (dC, dI) vwCl (wd_1ad0248d h0 h1 h3 v0 h1 h2 v1 x10 v3 v4 h2 g0 f5 h3 g1 f6) H := hP
      have hD : va_D A (wd_1ad0248d h0 h1 h3 v0 h1 h2 v1 x10 v3 v4 h2 g0 f5 h3 g1 f6) := hD
      refine lv_aload_n hx hb dX3_readUnit_149 rfl (lv_at hl 2 rfl) ?_
      refine lv_iload_n hx hb dX3_readUnit_150 rfl (lv_at hl 3 rfl) ?_
      have hPc := hP.sub (ws' := (wd_1ad0248d h0 h1 h3 v0 h1 h2 v1 x10 v3 v4 h2 g0 f5 h3 g1 f6)) [0, 1, 2, 3] rfl
      have hDc := hD.sub (ws' := (wd_1ad0248d h0 h1 h3 v0 h1 h2 v1 x10 v3 v4 h2 g0 f5 h3 g1 f6)) [0, 1, 2, 3] (by decide) rfl
      have hKc := hK.sub (tys' := [(g0, .int), (g1, .int)]) [0, 1] rfl
      have hFc := va_free (wc := (wd_1ad0248d h0 h1 h3 v0 h1 h2 v1 x10 v3 v4 h2 g0 f5 h3 g1 f6)) hD hS hA [0, 1, 2, 3] rfl
      refine va_calli (va_runV (As := [.int 0]) (rest := []) ⟨hx, hb, hml, hown, hts⟩ (k_X3_readSum_6 l dC dI adK adV h0 h1 h2 h3 v0 v1 x10 v3 v4 g0 f5 g1 f6 ⟨by first | omega | decide, by first | omega | decide⟩ ⟨by first | omega | decide, by first | omega | decide⟩ H.size) (cwV 1 hts g_X3_readUnit_6_4 rfl rfl rfl (by decide +kernel) ⟨Nat.le_of_ble_eq_true rfl, Nat.le_of_ble_eq_true rfl⟩) ⟨fun a U g mk q => by obtain ⟨q0, q1, qP, qK, qD, n0, n1, n2⟩ := q; exact ⟨q0, q1, qP, va_K.moved (u := U) (U := U.calling g mk a) (Vm.Alike.refl U.vm) qK, qD, vk_R.same rfl n0, va_Z.moved (Vm.Alike.refl _) n1, vk_S.moved (Vm.Alike.refl _) n2⟩, va_recv hKc hPc (ci := 3) (q0 := 0) rfl rfl, fun U hU hW => ⟨rfl, by rw [hU], by rw [hU]; exact hPc, va_K.moved hW.alike hKc, hDc.weaken (fun _ _ _ _ => trivial), vk_R.warm hW h_vr_2, (by rw [hU]; exact (va_Z.moved hW.alike (va_Z.kept h_st_CS hS.2.1)).narrow hFc), (by rw [hU]; exact (vk_S.moved hW.alike (vk_S.kept h_st_S hS.2.1)).narrow hFc)⟩⟩ rfl rfl hl.1 rfl (lv_room (Nat.le_of_ble_eq_true rfl)) dX3_readUnit_151 ⟨Nat.le_of_ble_eq_true rfl, Nat.le_of_ble_eq_true rfl⟩) hS (fun q _ h => hFc q h) hFc (fun ra11 u t H1 locs ht hvm hwra11 hB hz1 hk1 hS => ?_)
      obtain ⟨x12, x13, x14, x15, fn16, oa_x12, ob_x12, hP1, hK1, hD1⟩ := hB
      rw [ht] at hP1
      obtain ⟨hP, hD⟩ := va_join (wr := []) (w1 := (wd_1ad0248d h0 h1 h3 x12 h1 h2 v1 x13 x14 x15 h2 g0 f5 h3 g1 fn16)) hP hD [0, 1, 2, 3] [] rfl rfl (by decide) (by decide) hk1 hFc hP1 hD1
      generalize H1 = H at hP hS ⊢
      have hP : va_P (dC, dI) vwCl (wd_1ad0248d h0 h1 h3 x12 h1 h2 v1 x13 x14 x15 h2 g0 f5 h3 g1 fn16) H := hP
      have hD : va_D A (wd_1ad0248d h0 h1 h3 x12 h1 h2 v1 x13 x14 x15 h2 g0 f5 h3 g1 fn16) := hD
      obtain ⟨wa_ra11, wb_ra11⟩ := hwra11
      have wa_ra11 : 0 ≤ ra11.toInt := wa_ra11
      have wb_ra11 : ra11.toInt ≤ 1 := wb_ra11
      refine lv_if_ne (tgt := 159) hx hb dX3_readUnit_154 (by decide) (fun c17 => ?_) (fun c17 => ?_)
      · skip
        have fc17 : ¬ (ra11.toInt = 0) := fun h9 => c17 (Int32.toInt_inj.mp h9)
        refine lv_aload_n hx hb dX3_readUnit_159 rfl (lv_at hl 2 rfl) ?_
        refine lv_iload hx hb dX3_readUnit_160 (lv_at hl 0 rfl) ?_
        refine lv_iconst (v := 0) hx hb dX3_readUnit_162 (by decide) ?_
        have hPc := hP.sub (ws' := (wd_b958b9da h0 h1 h3 x12 h3 g1 fn16)) [0, 3] rfl
        have hDc := hD.sub (ws' := (wd_b958b9da h0 h1 h3 x12 h3 g1 fn16)) [0, 3] (by decide) rfl
        have hKc := hK.sub (tys' := [(g1, .int)]) [1] rfl
        have hFc := va_free (wc := (wd_b958b9da h0 h1 h3 x12 h3 g1 fn16)) hD hS hA [0, 3] rfl
        refine va_callv (va_runV (As := [.int ra7, .int 0]) (rest := []) ⟨hx, hb, hml, hown, hts⟩ (k_X3_write l dC dI h0 h3 h1 x12 g1 fn16 ra7 0 ⟨by first | omega | decide, by first | omega | decide⟩ H.size) (cwV 2 hts g_X3_readUnit_6_5 rfl rfl rfl (by decide +kernel) ⟨Nat.le_of_ble_eq_true rfl, Nat.le_of_ble_eq_true rfl⟩) ⟨fun a U g mk q => by obtain ⟨q0, q1, qP, qK, qD⟩ := q; exact ⟨q0, q1, qP, va_K.moved (u := U) (U := U.calling g mk a) (Vm.Alike.refl U.vm) qK, qD⟩, va_recv hKc hPc (ci := 3) (q0 := 0) rfl rfl, fun U hU hW => ⟨rfl, by rw [hU], by rw [hU]; exact hPc, va_K.moved hW.alike hKc, hDc.weaken (fun _ _ _ _ => trivial)⟩⟩ rfl rfl hl.1 rfl (lv_room (Nat.le_of_ble_eq_true rfl)) dX3_readUnit_163 ⟨Nat.le_of_ble_eq_true rfl, Nat.le_of_ble_eq_true rfl⟩) hS (fun q _ h => hFc q h) hFc (fun u t H1 locs ht hvm hwra18 hB hz1 hk1 hS => ?_)
        obtain ⟨x19, fn20, oa_x19, ob_x19, hP1, hK1, hD1⟩ := hB
        rw [ht] at hP1
        obtain ⟨hP, hD⟩ := va_join (wr := (wd_82cdd16b h1 h2 v1 x13 x14 x15 h2 g0 f5)) (w1 := (wd_b958b9da h0 h1 h3 x19 h3 g1 fn20)) hP hD [0, 3] [1, 2] rfl rfl (by decide) (by decide) hk1 hFc hP1 hD1
        generalize H1 = H at hP hS ⊢
        have hP := hP.sub (ws' := (wd_1ad0248d h0 h1 h3 x19 h1 h2 v1 x13 x14 x15 h2 g0 f5 h3 g1 fn20)) [2, 0, 1, 3] rfl
        have hD := hD.sub (ws' := (wd_1ad0248d h0 h1 h3 x19 h1 h2 v1 x13 x14 x15 h2 g0 f5 h3 g1 fn20)) [2, 0, 1, 3] (by decide) rfl
        have hP : va_P (dC, dI) vwCl (wd_1ad0248d h0 h1 h3 x19 h1 h2 v1 x13 x14 x15 h2 g0 f5 h3 g1 fn20) H := hP
        have hD : va_D A (wd_1ad0248d h0 h1 h3 x19 h1 h2 v1 x13 x14 x15 h2 g0 f5 h3 g1 fn20) := hD
        refine lv_iconst (v := 1) hx hb dX3_readUnit_166 (by decide) ?_
        subst hQ
        have hP9 := hP.sub (ws' := (wd_1ad0248d h0 h1 h3 x19 h1 h2 v1 x13 x14 x15 h2 g0 f5 h3 g1 fn20)) [0, 1, 2, 3] rfl
        have hD9 := hD.sub (ws' := (wd_1ad0248d h0 h1 h3 x19 h1 h2 v1 x13 x14 x15 h2 g0 f5 h3 g1 fn20)) [0, 1, 2, 3] (by decide) rfl
        have hK9 := hK.sub (tys' := []) [] rfl
        exact W.zret (v := 1) hx hb hr rfl (fun t ht hW => ⟨⟨1, (), rfl, ⟨by first | omega | decide, by first | omega | decide⟩, x19, x13, x14, x15, fn20, by first | omega | decide, by first | omega | decide, by rw [ht]; exact hP9, va_K.moved hW.alike hK9, hD9⟩, hS.F ht⟩) hS.2.2 dX3_readUnit_167
      · skip
        have fc17 : ra11.toInt = 0 := congrArg Int32.toInt c17
        refine lv_iconst (v := 0) hx hb dX3_readUnit_157 (by decide) ?_
        subst hQ
        have hP9 := hP.sub (ws' := (wd_1ad0248d h0 h1 h3 x12 h1 h2 v1 x13 x14 x15 h2 g0 f5 h3 g1 fn16)) [0, 1, 2, 3] rfl
        have hD9 := hD.sub (ws' := (wd_1ad0248d h0 h1 h3 x12 h1 h2 v1 x13 x14 x15 h2 g0 f5 h3 g1 fn16)) [0, 1, 2, 3] (by decide) rfl
        have hK9 := hK.sub (tys' := []) [] rfl
        exact W.zret (v := 0) hx hb hr rfl (fun t ht hW => ⟨⟨0, (), rfl, ⟨by first | omega | decide, by first | omega | decide⟩, x12, x13, x14, x15, fn16, by first | omega | decide, by first | omega | decide, by rw [ht]; exact hP9, va_K.moved hW.alike hK9, hD9⟩, hS.F ht⟩) hS.2.2 dX3_readUnit_158
    · skip
      have fc8 : ra7.toInt = (-1) := congrArg Int32.toInt c8
      refine lv_aload_n hx hb dX3_readUnit_134 rfl (lv_at hl 2 rfl) ?_
      refine va_get (D := (dC, dI)) (ci := 3) (v := .ref h1) (C := RX3) (T := TX3) (N := 3) hx hb hts (fun _ h => List.mem_cons_of_mem _ (List.mem_append_left _ (List.mem_append_right _ h))) hown hK hP 0 rfl rfl 0 (by decide) (hts (.fieldLink RX3 19 "LeftArguments$LawReader" "tape" "LLeftArguments$Tape;") (List.mem_cons_of_mem _ (List.mem_append_left _ (List.mem_append_left _ (List.mem_of_getElem? (i := 0) rfl))))) (fun _ h9 => h9) rfl dX3_readUnit_135 ?_
      have hPc := hP.sub (ws' := (wd_09b0abee h1 h2 v1 x6 v3 v4)) [1] rfl
      have hDc := hD.sub (ws' := (wd_09b0abee h1 h2 v1 x6 v3 v4)) [1] (by decide) rfl
      have hKc := hK.sub (tys' := []) [] rfl
      have hFc := va_free (wc := (wd_09b0abee h1 h2 v1 x6 v3 v4)) hD hS hA [1] rfl
      refine va_calli (va_runV (As := []) (rest := []) ⟨hx, hb, hml, hown, hts⟩ (k_X10_wrongHere l dC dI h1 h2 v1 x6 v3 v4 ⟨by first | omega | decide, by first | omega | decide⟩ H.size) (cwV 0 hts g_X3_readUnit_6_6 rfl rfl rfl (by decide +kernel) ⟨Nat.le_of_ble_eq_true rfl, Nat.le_of_ble_eq_true rfl⟩) ⟨fun a U g mk q => by obtain ⟨q0, q1, qP, qK, qD⟩ := q; exact ⟨q0, q1, qP, va_K.moved (u := U) (U := U.calling g mk a) (Vm.Alike.refl U.vm) qK, qD⟩, va_recv hKc hPc (ci := 10) (q0 := 0) rfl rfl, fun U hU hW => ⟨rfl, by rw [hU], by rw [hU]; exact hPc, va_K.moved hW.alike hKc, hDc.weaken (fun _ _ _ _ => trivial)⟩⟩ rfl rfl hl.1 rfl (lv_room (Nat.le_of_ble_eq_true rfl)) dX3_readUnit_138 ⟨Nat.le_of_ble_eq_true rfl, Nat.le_of_ble_eq_true rfl⟩) hS (fun q _ h => hFc q h) hFc (fun ra21 u t H1 locs ht hvm hwra21 hB hz1 hk1 hS => ?_)
      obtain ⟨x22, hP1, hK1, hD1⟩ := hB
      rw [ht] at hP1
      obtain ⟨hP, hD⟩ := va_join (wr := (wd_6b0d8e05 h0 h1 h3 v0 h2 g0 f5 h3 g1 f6)) (w1 := (wd_09b0abee h1 h2 v1 x6 x22 v4)) hP hD [1] [0, 2, 3] rfl rfl (by decide) (by decide) hk1 hFc hP1 hD1
      generalize H1 = H at hP hS ⊢
      have hP := hP.sub (ws' := (wd_1ad0248d h0 h1 h3 v0 h1 h2 v1 x6 x22 v4 h2 g0 f5 h3 g1 f6)) [0, 3, 1, 2] rfl
      have hD := hD.sub (ws' := (wd_1ad0248d h0 h1 h3 v0 h1 h2 v1 x6 x22 v4 h2 g0 f5 h3 g1 f6)) [0, 3, 1, 2] (by decide) rfl
      have hP : va_P (dC, dI) vwCl (wd_1ad0248d h0 h1 h3 v0 h1 h2 v1 x6 x22 v4 h2 g0 f5 h3 g1 f6) H := hP
      have hD : va_D A (wd_1ad0248d h0 h1 h3 v0 h1 h2 v1 x6 x22 v4 h2 g0 f5 h3 g1 f6) := hD
      obtain ⟨wa_ra21, wb_ra21⟩ := hwra21
      have wa_ra21 : 0 ≤ ra21.toInt := wa_ra21
      have wb_ra21 : ra21.toInt ≤ 0 := wb_ra21
      subst hQ
      have hP9 := hP.sub (ws' := (wd_1ad0248d h0 h1 h3 v0 h1 h2 v1 x6 x22 v4 h2 g0 f5 h3 g1 f6)) [0, 1, 2, 3] rfl
      have hD9 := hD.sub (ws' := (wd_1ad0248d h0 h1 h3 v0 h1 h2 v1 x6 x22 v4 h2 g0 f5 h3 g1 f6)) [0, 1, 2, 3] (by decide) rfl
      have hK9 := hK.sub (tys' := []) [] rfl
      exact W.zret (v := ra21) hx hb hr (pv_nz (by omega) (by omega)) (fun t ht hW => ⟨⟨ra21, (), rfl, ⟨by first | omega | decide, by first | omega | decide⟩, v0, x6, x22, v4, f6, by first | omega | decide, by first | omega | decide, by rw [ht]; exact hP9, va_K.moved hW.alike hK9, hD9⟩, hS.F ht⟩) hS.2.2 dX3_readUnit_141
  · skip
    have fc3 : v7.toInt = 0 := congrArg Int32.toInt c3
    refine lv_iload_n hx hb dX3_readUnit_12 rfl (lv_at hl 0 rfl) ?_
    refine lv_bipush (v := 33) hx hb dX3_readUnit_13 (by decide) ?_
    refine lv_icmp_eq (tgt := 24) hx hb dX3_readUnit_15 (by decide) (fun c23 => ?_) (fun c23 => ?_)
    · skip
      have fc23 : ra1.toInt = 33 := congrArg Int32.toInt c23
      refine lv_iload_n hx hb dX3_readUnit_24 rfl (lv_at hl 2 rfl) ?_
      refine lv_bipush (v := 6) hx hb dX3_readUnit_25 (by decide) ?_
      refine lv_icmp_lt (tgt := 38) hx hb dX3_readUnit_27 (by decide) (fun _ => ?_) (fun c => absurd (by decide) c)
      refine lv_aload_n hx hb dX3_readUnit_38 rfl (lv_at hl 1 rfl) ?_
      refine va_get (D := (dC, dI)) (ci := 3) (v := .ref h1) (C := RX3) (T := TX3) (N := 3) hx hb hts (fun _ h => List.mem_cons_of_mem _ (List.mem_append_left _ (List.mem_append_right _ h))) hown hK hP 0 rfl rfl 0 (by decide) (hts (.fieldLink RX3 19 "LeftArguments$LawReader" "tape" "LLeftArguments$Tape;") (List.mem_cons_of_mem _ (List.mem_append_left _ (List.mem_append_left _ (List.mem_of_getElem? (i := 0) rfl))))) (fun _ h9 => h9) rfl dX3_readUnit_39 ?_
      have hPc := hP.sub (ws' := (wd_09b0abee h1 h2 v1 x2 v3 v4)) [1] rfl
      have hDc := hD.sub (ws' := (wd_09b0abee h1 h2 v1 x2 v3 v4)) [1] (by decide) rfl
      have hKc := hK.sub (tys' := []) [] rfl
      have hFc := va_free (wc := (wd_09b0abee h1 h2 v1 x2 v3 v4)) hD hS hA [1] rfl
      refine va_callv (va_runV (As := []) (rest := []) ⟨hx, hb, hml, hown, hts⟩ (k_X10_step l dC dI h1 h2 v1 x2 v3 v4 ⟨by first | omega | decide, by first | omega | decide⟩ H.size) (cwV 0 hts g_X3_readUnit_6_3 rfl rfl rfl (by decide +kernel) ⟨Nat.le_of_ble_eq_true rfl, Nat.le_of_ble_eq_true rfl⟩) ⟨fun a U g mk q => by obtain ⟨q0, q1, qP, qK, qD⟩ := q; exact ⟨q0, q1, qP, va_K.moved (u := U) (U := U.calling g mk a) (Vm.Alike.refl U.vm) qK, qD⟩, va_recv hKc hPc (ci := 10) (q0 := 0) rfl rfl, fun U hU hW => ⟨rfl, by rw [hU], by rw [hU]; exact hPc, va_K.moved hW.alike hKc, hDc.weaken (fun _ _ _ _ => trivial)⟩⟩ rfl rfl hl.1 rfl (lv_room (Nat.le_of_ble_eq_true rfl)) dX3_readUnit_42 ⟨Nat.le_of_ble_eq_true rfl, Nat.le_of_ble_eq_true rfl⟩) hS (fun q _ h => hFc q h) hFc (fun u t H1 locs ht hvm hwra24 hB hz1 hk1 hS => ?_)
      obtain ⟨x25, hP1, hK1, hD1⟩ := hB
      rw [ht] at hP1
      obtain ⟨hP, hD⟩ := va_join (wr := (wd_6b0d8e05 h0 h1 h3 v0 h2 g0 f5 h3 g1 f6)) (w1 := (wd_09b0abee h1 h2 v1 x25 v3 v4)) hP hD [1] [0, 2, 3] rfl rfl (by decide) (by decide) hk1 hFc hP1 hD1
      generalize H1 = H at hP hS ⊢
      have hP := hP.sub (ws' := (wd_1ad0248d h0 h1 h3 v0 h1 h2 v1 x25 v3 v4 h2 g0 f5 h3 g1 f6)) [0, 3, 1, 2] rfl
      have hD := hD.sub (ws' := (wd_1ad0248d h0 h1 h3 v0 h1 h2 v1 x25 v3 v4 h2 g0 f5 h3 g1 f6)) [0, 3, 1, 2] (by decide) rfl
      have hP : va_P (dC, dI) vwCl (wd_1ad0248d h0 h1 h3 v0 h1 h2 v1 x25 v3 v4 h2 g0 f5 h3 g1 f6) H := hP
      have hD : va_D A (wd_1ad0248d h0 h1 h3 v0 h1 h2 v1 x25 v3 v4 h2 g0 f5 h3 g1 f6) := hD
      refine lv_iload_n hx hb dX3_readUnit_45 rfl (lv_at hl 0 rfl) ?_
      refine lv_bipush (v := 40) hx hb dX3_readUnit_46 (by decide) ?_
      refine lv_icmp_ne (tgt := 80) hx hb dX3_readUnit_48 (by decide) (fun _ => ?_) (fun c26 => by exfalso; have fc26 : ra1.toInt = 40 := congrArg Int32.toInt c26; omega)
      refine lv_aload_n hx hb dX3_readUnit_80 rfl (lv_at hl 1 rfl) ?_
      refine lv_iload_n hx hb dX3_readUnit_81 rfl (lv_at hl 2 rfl) ?_
      refine lv_iconst (v := 1) hx hb dX3_readUnit_82 (by decide) ?_
      refine lv_iadd hx hb dX3_readUnit_83 ?_
      refine lv_topi (fun tv27 etv27 => ?_)
      obtain rfl : tv27 = (1 : Int32) := etv27.trans (by first | rfl | decide)
      refine lv_iconst (v := 0) hx hb dX3_readUnit_84 (by decide) ?_
      have hPc := hP.sub (ws' := (wd_1ad0248d h0 h1 h3 v0 h1 h2 v1 x25 v3 v4 h2 g0 f5 h3 g1 f6)) [0, 1, 2, 3] rfl
      have hDc := hD.sub (ws' := (wd_1ad0248d h0 h1 h3 v0 h1 h2 v1 x25 v3 v4 h2 g0 f5 h3 g1 f6)) [0, 1, 2, 3] (by decide) rfl
      have hKc := hK.sub (tys' := [(g0, .int), (g1, .int)]) [0, 1] rfl
      have hFc := va_free (wc := (wd_1ad0248d h0 h1 h3 v0 h1 h2 v1 x25 v3 v4 h2 g0 f5 h3 g1 f6)) hD hS hA [0, 1, 2, 3] rfl
      refine va_calli (va_runV (As := [.int 1, .int 0]) (rest := []) ⟨hx, hb, hml, hown, hts⟩ (k_X3_readUnit_5 l dC dI adK adV h0 h1 h2 h3 v0 v1 x25 v3 v4 g0 f5 g1 f6 0 ⟨by first | omega | decide, by first | omega | decide⟩ ⟨by first | omega | decide, by first | omega | decide⟩ ⟨by first | omega | decide, by first | omega | decide⟩ H.size) (cwV 2 hts g_X3_readUnit_6_8 rfl rfl rfl (by decide +kernel) ⟨Nat.le_of_ble_eq_true rfl, Nat.le_of_ble_eq_true rfl⟩) ⟨fun a U g mk q => by obtain ⟨q0, q1, qP, qK, qD, n0, n1, n2⟩ := q; exact ⟨q0, q1, qP, va_K.moved (u := U) (U := U.calling g mk a) (Vm.Alike.refl U.vm) qK, qD, vk_R.same rfl n0, va_Z.moved (Vm.Alike.refl _) n1, vk_S.moved (Vm.Alike.refl _) n2⟩, va_recv hKc hPc (ci := 3) (q0 := 0) rfl rfl, fun U hU hW => ⟨rfl, by rw [hU], by rw [hU]; exact hPc, va_K.moved hW.alike hKc, hDc.weaken (fun _ _ _ _ => trivial), vk_R.warm hW h_vr_2, (by rw [hU]; exact (va_Z.moved hW.alike (va_Z.kept h_st_CS hS.2.1)).narrow hFc), (by rw [hU]; exact (vk_S.moved hW.alike (vk_S.kept h_st_S hS.2.1)).narrow hFc)⟩⟩ rfl rfl hl.1 rfl (lv_room (Nat.le_of_ble_eq_true rfl)) dX3_readUnit_85 ⟨Nat.le_of_ble_eq_true rfl, Nat.le_of_ble_eq_true rfl⟩) hS (fun q _ h => hFc q h) hFc (fun ra28 u t H1 locs ht hvm hwra28 hB hz1 hk1 hS => ?_)
      obtain ⟨x29, x30, x31, x32, fn33, oa_x29, ob_x29, hP1, hK1, hD1⟩ := hB
      rw [ht] at hP1
      obtain ⟨hP, hD⟩ := va_join (wr := []) (w1 := (wd_1ad0248d h0 h1 h3 x29 h1 h2 v1 x30 x31 x32 h2 g0 f5 h3 g1 fn33)) hP hD [0, 1, 2, 3] [] rfl rfl (by decide) (by decide) hk1 hFc hP1 hD1
      generalize H1 = H at hP hS ⊢
      have hP : va_P (dC, dI) vwCl (wd_1ad0248d h0 h1 h3 x29 h1 h2 v1 x30 x31 x32 h2 g0 f5 h3 g1 fn33) H := hP
      have hD : va_D A (wd_1ad0248d h0 h1 h3 x29 h1 h2 v1 x30 x31 x32 h2 g0 f5 h3 g1 fn33) := hD
      obtain ⟨wa_ra28, wb_ra28⟩ := hwra28
      have wa_ra28 : 0 ≤ ra28.toInt := wa_ra28
      have wb_ra28 : ra28.toInt ≤ 1 := wb_ra28
      refine lv_if_ne (tgt := 93) hx hb dX3_readUnit_88 (by decide) (fun c34 => ?_) (fun c34 => ?_)
      · skip
        have fc34 : ¬ (ra28.toInt = 0) := fun h9 => c34 (Int32.toInt_inj.mp h9)
        refine lv_aload_n hx hb dX3_readUnit_93 rfl (lv_at hl 1 rfl) ?_
        refine lv_bipush (v := 9) hx hb dX3_readUnit_94 (by decide) ?_
        refine lv_iconst (v := 0) hx hb dX3_readUnit_96 (by decide) ?_
        have hPc := hP.sub (ws' := (wd_b958b9da h0 h1 h3 x29 h3 g1 fn33)) [0, 3] rfl
        have hDc := hD.sub (ws' := (wd_b958b9da h0 h1 h3 x29 h3 g1 fn33)) [0, 3] (by decide) rfl
        have hKc := hK.sub (tys' := [(g1, .int)]) [1] rfl
        have hFc := va_free (wc := (wd_b958b9da h0 h1 h3 x29 h3 g1 fn33)) hD hS hA [0, 3] rfl
        refine va_callv (va_runV (As := [.int 9, .int 0]) (rest := []) ⟨hx, hb, hml, hown, hts⟩ (k_X3_write l dC dI h0 h3 h1 x29 g1 fn33 9 0 ⟨by first | omega | decide, by first | omega | decide⟩ H.size) (cwV 2 hts g_X3_readUnit_6_5 rfl rfl rfl (by decide +kernel) ⟨Nat.le_of_ble_eq_true rfl, Nat.le_of_ble_eq_true rfl⟩) ⟨fun a U g mk q => by obtain ⟨q0, q1, qP, qK, qD⟩ := q; exact ⟨q0, q1, qP, va_K.moved (u := U) (U := U.calling g mk a) (Vm.Alike.refl U.vm) qK, qD⟩, va_recv hKc hPc (ci := 3) (q0 := 0) rfl rfl, fun U hU hW => ⟨rfl, by rw [hU], by rw [hU]; exact hPc, va_K.moved hW.alike hKc, hDc.weaken (fun _ _ _ _ => trivial)⟩⟩ rfl rfl hl.1 rfl (lv_room (Nat.le_of_ble_eq_true rfl)) dX3_readUnit_97 ⟨Nat.le_of_ble_eq_true rfl, Nat.le_of_ble_eq_true rfl⟩) hS (fun q _ h => hFc q h) hFc (fun u t H1 locs ht hvm hwra35 hB hz1 hk1 hS => ?_)
        obtain ⟨x36, fn37, oa_x36, ob_x36, hP1, hK1, hD1⟩ := hB
        rw [ht] at hP1
        obtain ⟨hP, hD⟩ := va_join (wr := (wd_82cdd16b h1 h2 v1 x30 x31 x32 h2 g0 f5)) (w1 := (wd_b958b9da h0 h1 h3 x36 h3 g1 fn37)) hP hD [0, 3] [1, 2] rfl rfl (by decide) (by decide) hk1 hFc hP1 hD1
        generalize H1 = H at hP hS ⊢
        have hP := hP.sub (ws' := (wd_1ad0248d h0 h1 h3 x36 h1 h2 v1 x30 x31 x32 h2 g0 f5 h3 g1 fn37)) [2, 0, 1, 3] rfl
        have hD := hD.sub (ws' := (wd_1ad0248d h0 h1 h3 x36 h1 h2 v1 x30 x31 x32 h2 g0 f5 h3 g1 fn37)) [2, 0, 1, 3] (by decide) rfl
        have hP : va_P (dC, dI) vwCl (wd_1ad0248d h0 h1 h3 x36 h1 h2 v1 x30 x31 x32 h2 g0 f5 h3 g1 fn37) H := hP
        have hD : va_D A (wd_1ad0248d h0 h1 h3 x36 h1 h2 v1 x30 x31 x32 h2 g0 f5 h3 g1 fn37) := hD
        refine lv_iconst (v := 1) hx hb dX3_readUnit_100 (by decide) ?_
        subst hQ
        have hP9 := hP.sub (ws' := (wd_1ad0248d h0 h1 h3 x36 h1 h2 v1 x30 x31 x32 h2 g0 f5 h3 g1 fn37)) [0, 1, 2, 3] rfl
        have hD9 := hD.sub (ws' := (wd_1ad0248d h0 h1 h3 x36 h1 h2 v1 x30 x31 x32 h2 g0 f5 h3 g1 fn37)) [0, 1, 2, 3] (by decide) rfl
        have hK9 := hK.sub (tys' := []) [] rfl
        exact W.zret (v := 1) hx hb hr rfl (fun t ht hW => ⟨⟨1, (), rfl, ⟨by first | omega | decide, by first | omega | decide⟩, x36, x30, x31, x32, fn37, by first | omega | decide, by first | omega | decide, by rw [ht]; exact hP9, va_K.moved hW.alike hK9, hD9⟩, hS.F ht⟩) hS.2.2 dX3_readUnit_101
      · skip
        have fc34 : ra28.toInt = 0 := congrArg Int32.toInt c34
        refine lv_iconst (v := 0) hx hb dX3_readUnit_91 (by decide) ?_
        subst hQ
        have hP9 := hP.sub (ws' := (wd_1ad0248d h0 h1 h3 x29 h1 h2 v1 x30 x31 x32 h2 g0 f5 h3 g1 fn33)) [0, 1, 2, 3] rfl
        have hD9 := hD.sub (ws' := (wd_1ad0248d h0 h1 h3 x29 h1 h2 v1 x30 x31 x32 h2 g0 f5 h3 g1 fn33)) [0, 1, 2, 3] (by decide) rfl
        have hK9 := hK.sub (tys' := []) [] rfl
        exact W.zret (v := 0) hx hb hr rfl (fun t ht hW => ⟨⟨0, (), rfl, ⟨by first | omega | decide, by first | omega | decide⟩, x29, x30, x31, x32, fn33, by first | omega | decide, by first | omega | decide, by rw [ht]; exact hP9, va_K.moved hW.alike hK9, hD9⟩, hS.F ht⟩) hS.2.2 dX3_readUnit_92
    · skip
      have fc23 : ¬ (ra1.toInt = 33) := fun h9 => c23 (Int32.toInt_inj.mp h9)
      refine lv_iload_n hx hb dX3_readUnit_18 rfl (lv_at hl 0 rfl) ?_
      refine lv_bipush (v := 40) hx hb dX3_readUnit_19 (by decide) ?_
      refine lv_icmp_ne (tgt := 102) hx hb dX3_readUnit_21 (by decide) (fun c38 => ?_) (fun c38 => ?_)
      · skip
        have fc38 : ¬ (ra1.toInt = 40) := fun h9 => c38 (Int32.toInt_inj.mp h9)
        refine lv_iload_n hx hb dX3_readUnit_102 rfl (lv_at hl 3 rfl) ?_
        refine lv_if_ne (tgt := 116) hx hb dX3_readUnit_103 (by decide) (fun c39 => by exfalso; have fc39 : ¬ (v7.toInt = 0) := fun h9 => c39 (Int32.toInt_inj.mp h9); omega) (fun _ => ?_)
        refine lv_aload_n hx hb dX3_readUnit_106 rfl (lv_at hl 1 rfl) ?_
        refine lv_iload_n hx hb dX3_readUnit_107 rfl (lv_at hl 2 rfl) ?_
        have hPc := hP.sub (ws' := (wd_1ad0248d h0 h1 h3 v0 h1 h2 v1 x2 v3 v4 h2 g0 f5 h3 g1 f6)) [0, 1, 2, 3] rfl
        have hDc := hD.sub (ws' := (wd_1ad0248d h0 h1 h3 v0 h1 h2 v1 x2 v3 v4 h2 g0 f5 h3 g1 f6)) [0, 1, 2, 3] (by decide) rfl
        have hKc := hK.sub (tys' := [(g0, .int), (g1, .int)]) [0, 1] rfl
        have hFc := va_free (wc := (wd_1ad0248d h0 h1 h3 v0 h1 h2 v1 x2 v3 v4 h2 g0 f5 h3 g1 f6)) hD hS hA [0, 1, 2, 3] rfl
        refine va_calli (va_runV (As := [.int 0]) (rest := []) ⟨hx, hb, hml, hown, hts⟩ (k_X3_readSum_6 l dC dI adK adV h0 h1 h2 h3 v0 v1 x2 v3 v4 g0 f5 g1 f6 ⟨by first | omega | decide, by first | omega | decide⟩ ⟨by first | omega | decide, by first | omega | decide⟩ H.size) (cwV 1 hts g_X3_readUnit_6_4 rfl rfl rfl (by decide +kernel) ⟨Nat.le_of_ble_eq_true rfl, Nat.le_of_ble_eq_true rfl⟩) ⟨fun a U g mk q => by obtain ⟨q0, q1, qP, qK, qD, n0, n1, n2⟩ := q; exact ⟨q0, q1, qP, va_K.moved (u := U) (U := U.calling g mk a) (Vm.Alike.refl U.vm) qK, qD, vk_R.same rfl n0, va_Z.moved (Vm.Alike.refl _) n1, vk_S.moved (Vm.Alike.refl _) n2⟩, va_recv hKc hPc (ci := 3) (q0 := 0) rfl rfl, fun U hU hW => ⟨rfl, by rw [hU], by rw [hU]; exact hPc, va_K.moved hW.alike hKc, hDc.weaken (fun _ _ _ _ => trivial), vk_R.warm hW h_vr_2, (by rw [hU]; exact (va_Z.moved hW.alike (va_Z.kept h_st_CS hS.2.1)).narrow hFc), (by rw [hU]; exact (vk_S.moved hW.alike (vk_S.kept h_st_S hS.2.1)).narrow hFc)⟩⟩ rfl rfl hl.1 rfl (lv_room (Nat.le_of_ble_eq_true rfl)) dX3_readUnit_108 ⟨Nat.le_of_ble_eq_true rfl, Nat.le_of_ble_eq_true rfl⟩) hS (fun q _ h => hFc q h) hFc (fun ra40 u t H1 locs ht hvm hwra40 hB hz1 hk1 hS => ?_)
        obtain ⟨x41, x42, x43, x44, fn45, oa_x41, ob_x41, hP1, hK1, hD1⟩ := hB
        rw [ht] at hP1
        obtain ⟨hP, hD⟩ := va_join (wr := []) (w1 := (wd_1ad0248d h0 h1 h3 x41 h1 h2 v1 x42 x43 x44 h2 g0 f5 h3 g1 fn45)) hP hD [0, 1, 2, 3] [] rfl rfl (by decide) (by decide) hk1 hFc hP1 hD1
        generalize H1 = H at hP hS ⊢
        have hP : va_P (dC, dI) vwCl (wd_1ad0248d h0 h1 h3 x41 h1 h2 v1 x42 x43 x44 h2 g0 f5 h3 g1 fn45) H := hP
        have hD : va_D A (wd_1ad0248d h0 h1 h3 x41 h1 h2 v1 x42 x43 x44 h2 g0 f5 h3 g1 fn45) := hD
        obtain ⟨wa_ra40, wb_ra40⟩ := hwra40
        have wa_ra40 : 0 ≤ ra40.toInt := wa_ra40
        have wb_ra40 : ra40.toInt ≤ 1 := wb_ra40
        refine lv_if_ne (tgt := 116) hx hb dX3_readUnit_111 (by decide) (fun c46 => ?_) (fun c46 => ?_)
        · skip
          have fc46 : ¬ (ra40.toInt = 0) := fun h9 => c46 (Int32.toInt_inj.mp h9)
          refine lv_aload_n hx hb dX3_readUnit_116 rfl (lv_at hl 1 rfl) ?_
          refine va_get (D := (dC, dI)) (ci := 3) (v := .ref h1) (C := RX3) (T := TX3) (N := 3) hx hb hts (fun _ h => List.mem_cons_of_mem _ (List.mem_append_left _ (List.mem_append_right _ h))) hown hK hP 0 rfl rfl 0 (by decide) (hts (.fieldLink RX3 19 "LeftArguments$LawReader" "tape" "LLeftArguments$Tape;") (List.mem_cons_of_mem _ (List.mem_append_left _ (List.mem_append_left _ (List.mem_of_getElem? (i := 0) rfl))))) (fun _ h9 => h9) rfl dX3_readUnit_117 ?_
          have hPc := hP.sub (ws' := (wd_82cdd16b h1 h2 v1 x42 x43 x44 h2 g0 f5)) [1, 2] rfl
          have hDc := hD.sub (ws' := (wd_82cdd16b h1 h2 v1 x42 x43 x44 h2 g0 f5)) [1, 2] (by decide) rfl
          have hKc := hK.sub (tys' := [(g0, .int)]) [0] rfl
          have hFc := va_free (wc := (wd_82cdd16b h1 h2 v1 x42 x43 x44 h2 g0 f5)) hD hS hA [1, 2] rfl
          refine va_calli (va_runV (As := []) (rest := []) ⟨hx, hb, hml, hown, hts⟩ (k_X10_next l dC dI h1 h2 v1 x42 x43 x44 g0 f5 ⟨by first | omega | decide, by first | omega | decide⟩ H.size) (cwV 0 hts g_X3_readUnit_6_0 rfl rfl rfl (by decide +kernel) ⟨Nat.le_of_ble_eq_true rfl, Nat.le_of_ble_eq_true rfl⟩) ⟨fun a U g mk q => by obtain ⟨q0, q1, qP, qK, qD⟩ := q; exact ⟨q0, q1, qP, va_K.moved (u := U) (U := U.calling g mk a) (Vm.Alike.refl U.vm) qK, qD⟩, va_recv hKc hPc (ci := 10) (q0 := 0) rfl rfl, fun U hU hW => ⟨rfl, by rw [hU], by rw [hU]; exact hPc, va_K.moved hW.alike hKc, hDc.weaken (fun _ _ _ _ => trivial)⟩⟩ rfl rfl hl.1 rfl (lv_room (Nat.le_of_ble_eq_true rfl)) dX3_readUnit_120 ⟨Nat.le_of_ble_eq_true rfl, Nat.le_of_ble_eq_true rfl⟩) hS (fun q _ h => hFc q h) hFc (fun ra47 u t H1 locs ht hvm hwra47 hB hz1 hk1 hS => ?_)
          obtain ⟨x48, hP1, hK1, hD1⟩ := hB
          rw [ht] at hP1
          obtain ⟨hP, hD⟩ := va_join (wr := (wd_b958b9da h0 h1 h3 x41 h3 g1 fn45)) (w1 := (wd_82cdd16b h1 h2 v1 x48 x43 x44 h2 g0 f5)) hP hD [1, 2] [0, 3] rfl rfl (by decide) (by decide) hk1 hFc hP1 hD1
          generalize H1 = H at hP hS ⊢
          have hP := hP.sub (ws' := (wd_1ad0248d h0 h1 h3 x41 h1 h2 v1 x48 x43 x44 h2 g0 f5 h3 g1 fn45)) [0, 2, 3, 1] rfl
          have hD := hD.sub (ws' := (wd_1ad0248d h0 h1 h3 x41 h1 h2 v1 x48 x43 x44 h2 g0 f5 h3 g1 fn45)) [0, 2, 3, 1] (by decide) rfl
          have hP : va_P (dC, dI) vwCl (wd_1ad0248d h0 h1 h3 x41 h1 h2 v1 x48 x43 x44 h2 g0 f5 h3 g1 fn45) H := hP
          have hD : va_D A (wd_1ad0248d h0 h1 h3 x41 h1 h2 v1 x48 x43 x44 h2 g0 f5 h3 g1 fn45) := hD
          have hPc := hP.sub (ws' := []) [] rfl
          have hDc := hD.sub (ws' := []) [] (by decide) rfl
          have hKc := hK.sub (tys' := []) [] rfl
          have hFc := va_free (wc := []) hD hS hA [] rfl
          refine va_calli (va_runS (As := [.int ra47]) (rest := []) ⟨hx, hb, hml, hown, hts⟩ (k_X3_comparing l dC dI ra47  H.size) (va_cwS 1 hts g_X3_readUnit_6_2 rfl rfl rfl (by decide +kernel) ⟨Nat.le_of_ble_eq_true rfl, Nat.le_of_ble_eq_true rfl⟩) ⟨fun a U g mk q => by obtain ⟨q0, q1, qP, qK, qD⟩ := q; exact ⟨q0, q1, qP, va_K.moved (u := U) (U := U.calling g mk a) (Vm.Alike.refl U.vm) qK, qD⟩, fun U hU hW => ⟨rfl, by rw [hU], by rw [hU]; exact hPc, va_K.moved hW.alike hKc, hDc.weaken (fun _ _ _ _ => trivial)⟩⟩ rfl rfl hl.1 rfl (lv_room (Nat.le_of_ble_eq_true rfl)) dX3_readUnit_123 ⟨Nat.le_of_ble_eq_true rfl, Nat.le_of_ble_eq_true rfl⟩) hS (fun q _ h => hFc q h) hFc (fun ra49 u t H1 locs ht hvm hwra49 hB hz1 hk1 hS => ?_)
          obtain ⟨hP1, hK1, hD1⟩ := hB
          rw [ht] at hP1
          obtain ⟨hP, hD⟩ := va_join (wr := (wd_1ad0248d h0 h1 h3 x41 h1 h2 v1 x48 x43 x44 h2 g0 f5 h3 g1 fn45)) (w1 := []) hP hD [] [0, 1, 2, 3] rfl rfl (by decide) (by decide) hk1 hFc hP1 hD1
          generalize H1 = H at hP hS ⊢
          have hP : va_P (dC, dI) vwCl (wd_1ad0248d h0 h1 h3 x41 h1 h2 v1 x48 x43 x44 h2 g0 f5 h3 g1 fn45) H := hP
          have hD : va_D A (wd_1ad0248d h0 h1 h3 x41 h1 h2 v1 x48 x43 x44 h2 g0 f5 h3 g1 fn45) := hD
          obtain ⟨wa_ra49, wb_ra49⟩ := hwra49
          have wa_ra49 : -1 ≤ ra49.toInt := wa_ra49
          have wb_ra49 : ra49.toInt ≤ 8 := wb_ra49
          refine lv_istore (lv' := [(4, .int ra49), (3, .int ra1), (0, .ref h0), (1, .int 0), (2, .int v7)]) hx hb dX3_readUnit_126 hl (by decide) rfl (fun ls hl => ?_)
          refine lv_iload hx hb dX3_readUnit_128 (lv_at hl 0 rfl) ?_
          refine lv_iconst (v := (-1)) hx hb dX3_readUnit_130 (by decide) ?_
          refine lv_icmp_ne (tgt := 142) hx hb dX3_readUnit_131 (by decide) (fun c50 => ?_) (fun c50 => ?_)
          · skip
            have fc50 : ¬ (ra49.toInt = (-1)) := fun h9 => c50 (Int32.toInt_inj.mp h9)
            refine lv_aload_n hx hb dX3_readUnit_142 rfl (lv_at hl 2 rfl) ?_
            refine va_get (D := (dC, dI)) (ci := 3) (v := .ref h1) (C := RX3) (T := TX3) (N := 3) hx hb hts (fun _ h => List.mem_cons_of_mem _ (List.mem_append_left _ (List.mem_append_right _ h))) hown hK hP 0 rfl rfl 0 (by decide) (hts (.fieldLink RX3 19 "LeftArguments$LawReader" "tape" "LLeftArguments$Tape;") (List.mem_cons_of_mem _ (List.mem_append_left _ (List.mem_append_left _ (List.mem_of_getElem? (i := 0) rfl))))) (fun _ h9 => h9) rfl dX3_readUnit_143 ?_
            have hPc := hP.sub (ws' := (wd_09b0abee h1 h2 v1 x48 x43 x44)) [1] rfl
            have hDc := hD.sub (ws' := (wd_09b0abee h1 h2 v1 x48 x43 x44)) [1] (by decide) rfl
            have hKc := hK.sub (tys' := []) [] rfl
            have hFc := va_free (wc := (wd_09b0abee h1 h2 v1 x48 x43 x44)) hD hS hA [1] rfl
            refine va_callv (va_runV (As := []) (rest := []) ⟨hx, hb, hml, hown, hts⟩ (k_X10_step l dC dI h1 h2 v1 x48 x43 x44 ⟨by first | omega | decide, by first | omega | decide⟩ H.size) (cwV 0 hts g_X3_readUnit_6_3 rfl rfl rfl (by decide +kernel) ⟨Nat.le_of_ble_eq_true rfl, Nat.le_of_ble_eq_true rfl⟩) ⟨fun a U g mk q => by obtain ⟨q0, q1, qP, qK, qD⟩ := q; exact ⟨q0, q1, qP, va_K.moved (u := U) (U := U.calling g mk a) (Vm.Alike.refl U.vm) qK, qD⟩, va_recv hKc hPc (ci := 10) (q0 := 0) rfl rfl, fun U hU hW => ⟨rfl, by rw [hU], by rw [hU]; exact hPc, va_K.moved hW.alike hKc, hDc.weaken (fun _ _ _ _ => trivial)⟩⟩ rfl rfl hl.1 rfl (lv_room (Nat.le_of_ble_eq_true rfl)) dX3_readUnit_146 ⟨Nat.le_of_ble_eq_true rfl, Nat.le_of_ble_eq_true rfl⟩) hS (fun q _ h => hFc q h) hFc (fun u t H1 locs ht hvm hwra51 hB hz1 hk1 hS => ?_)
            obtain ⟨x52, hP1, hK1, hD1⟩ := hB
            rw [ht] at hP1
            obtain ⟨hP, hD⟩ := va_join (wr := (wd_6b0d8e05 h0 h1 h3 x41 h2 g0 f5 h3 g1 fn45)) (w1 := (wd_09b0abee h1 h2 v1 x52 x43 x44)) hP hD [1] [0, 2, 3] rfl rfl (by decide) (by decide) hk1 hFc hP1 hD1
            generalize H1 = H at hP hS ⊢
            have hP := hP.sub (ws' := (wd_1ad0248d h0 h1 h3 x41 h1 h2 v1 x52 x43 x44 h2 g0 f5 h3 g1 fn45)) [0, 3, 1, 2] rfl
            have hD := hD.sub (ws' := (wd_1ad0248d h0 h1 h3 x41 h1 h2 v1 x52 x43 x44 h2 g0 f5 h3 g1 fn45)) [0, 3, 1, 2] (by decide) rfl
            have hP : va_P (dC, dI) vwCl (wd_1ad0248d h0 h1 h3 x41 h1 h2 v1 x52 x43 x44 h2 g0 f5 h3 g1 fn45) H := hP
            have hD : va_D A (wd_1ad0248d h0 h1 h3 x41 h1 h2 v1 x52 x43 x44 h2 g0 f5 h3 g1 fn45) := hD
            refine lv_aload_n hx hb dX3_readUnit_149 rfl (lv_at hl 2 rfl) ?_
            refine lv_iload_n hx hb dX3_readUnit_150 rfl (lv_at hl 3 rfl) ?_
            have hPc := hP.sub (ws' := (wd_1ad0248d h0 h1 h3 x41 h1 h2 v1 x52 x43 x44 h2 g0 f5 h3 g1 fn45)) [0, 1, 2, 3] rfl
            have hDc := hD.sub (ws' := (wd_1ad0248d h0 h1 h3 x41 h1 h2 v1 x52 x43 x44 h2 g0 f5 h3 g1 fn45)) [0, 1, 2, 3] (by decide) rfl
            have hKc := hK.sub (tys' := [(g0, .int), (g1, .int)]) [0, 1] rfl
            have hFc := va_free (wc := (wd_1ad0248d h0 h1 h3 x41 h1 h2 v1 x52 x43 x44 h2 g0 f5 h3 g1 fn45)) hD hS hA [0, 1, 2, 3] rfl
            refine va_calli (va_runV (As := [.int 0]) (rest := []) ⟨hx, hb, hml, hown, hts⟩ (k_X3_readSum_6 l dC dI adK adV h0 h1 h2 h3 x41 v1 x52 x43 x44 g0 f5 g1 fn45 ⟨by first | omega | decide, by first | omega | decide⟩ ⟨by first | omega | decide, by first | omega | decide⟩ H.size) (cwV 1 hts g_X3_readUnit_6_4 rfl rfl rfl (by decide +kernel) ⟨Nat.le_of_ble_eq_true rfl, Nat.le_of_ble_eq_true rfl⟩) ⟨fun a U g mk q => by obtain ⟨q0, q1, qP, qK, qD, n0, n1, n2⟩ := q; exact ⟨q0, q1, qP, va_K.moved (u := U) (U := U.calling g mk a) (Vm.Alike.refl U.vm) qK, qD, vk_R.same rfl n0, va_Z.moved (Vm.Alike.refl _) n1, vk_S.moved (Vm.Alike.refl _) n2⟩, va_recv hKc hPc (ci := 3) (q0 := 0) rfl rfl, fun U hU hW => ⟨rfl, by rw [hU], by rw [hU]; exact hPc, va_K.moved hW.alike hKc, hDc.weaken (fun _ _ _ _ => trivial), vk_R.warm hW h_vr_2, (by rw [hU]; exact (va_Z.moved hW.alike (va_Z.kept h_st_CS hS.2.1)).narrow hFc), (by rw [hU]; exact (vk_S.moved hW.alike (vk_S.kept h_st_S hS.2.1)).narrow hFc)⟩⟩ rfl rfl hl.1 rfl (lv_room (Nat.le_of_ble_eq_true rfl)) dX3_readUnit_151 ⟨Nat.le_of_ble_eq_true rfl, Nat.le_of_ble_eq_true rfl⟩) hS (fun q _ h => hFc q h) hFc (fun ra53 u t H1 locs ht hvm hwra53 hB hz1 hk1 hS => ?_)
            obtain ⟨x54, x55, x56, x57, fn58, oa_x54, ob_x54, hP1, hK1, hD1⟩ := hB
            rw [ht] at hP1
            obtain ⟨hP, hD⟩ := va_join (wr := []) (w1 := (wd_1ad0248d h0 h1 h3 x54 h1 h2 v1 x55 x56 x57 h2 g0 f5 h3 g1 fn58)) hP hD [0, 1, 2, 3] [] rfl rfl (by decide) (by decide) hk1 hFc hP1 hD1
            generalize H1 = H at hP hS ⊢
            have hP : va_P (dC, dI) vwCl (wd_1ad0248d h0 h1 h3 x54 h1 h2 v1 x55 x56 x57 h2 g0 f5 h3 g1 fn58) H := hP
            have hD : va_D A (wd_1ad0248d h0 h1 h3 x54 h1 h2 v1 x55 x56 x57 h2 g0 f5 h3 g1 fn58) := hD
            obtain ⟨wa_ra53, wb_ra53⟩ := hwra53
            have wa_ra53 : 0 ≤ ra53.toInt := wa_ra53
            have wb_ra53 : ra53.toInt ≤ 1 := wb_ra53
            refine lv_if_ne (tgt := 159) hx hb dX3_readUnit_154 (by decide) (fun c59 => ?_) (fun c59 => ?_)
            · skip
              have fc59 : ¬ (ra53.toInt = 0) := fun h9 => c59 (Int32.toInt_inj.mp h9)
              refine lv_aload_n hx hb dX3_readUnit_159 rfl (lv_at hl 2 rfl) ?_
              refine lv_iload hx hb dX3_readUnit_160 (lv_at hl 0 rfl) ?_
              refine lv_iconst (v := 0) hx hb dX3_readUnit_162 (by decide) ?_
              have hPc := hP.sub (ws' := (wd_b958b9da h0 h1 h3 x54 h3 g1 fn58)) [0, 3] rfl
              have hDc := hD.sub (ws' := (wd_b958b9da h0 h1 h3 x54 h3 g1 fn58)) [0, 3] (by decide) rfl
              have hKc := hK.sub (tys' := [(g1, .int)]) [1] rfl
              have hFc := va_free (wc := (wd_b958b9da h0 h1 h3 x54 h3 g1 fn58)) hD hS hA [0, 3] rfl
              refine va_callv (va_runV (As := [.int ra49, .int 0]) (rest := []) ⟨hx, hb, hml, hown, hts⟩ (k_X3_write l dC dI h0 h3 h1 x54 g1 fn58 ra49 0 ⟨by first | omega | decide, by first | omega | decide⟩ H.size) (cwV 2 hts g_X3_readUnit_6_5 rfl rfl rfl (by decide +kernel) ⟨Nat.le_of_ble_eq_true rfl, Nat.le_of_ble_eq_true rfl⟩) ⟨fun a U g mk q => by obtain ⟨q0, q1, qP, qK, qD⟩ := q; exact ⟨q0, q1, qP, va_K.moved (u := U) (U := U.calling g mk a) (Vm.Alike.refl U.vm) qK, qD⟩, va_recv hKc hPc (ci := 3) (q0 := 0) rfl rfl, fun U hU hW => ⟨rfl, by rw [hU], by rw [hU]; exact hPc, va_K.moved hW.alike hKc, hDc.weaken (fun _ _ _ _ => trivial)⟩⟩ rfl rfl hl.1 rfl (lv_room (Nat.le_of_ble_eq_true rfl)) dX3_readUnit_163 ⟨Nat.le_of_ble_eq_true rfl, Nat.le_of_ble_eq_true rfl⟩) hS (fun q _ h => hFc q h) hFc (fun u t H1 locs ht hvm hwra60 hB hz1 hk1 hS => ?_)
              obtain ⟨x61, fn62, oa_x61, ob_x61, hP1, hK1, hD1⟩ := hB
              rw [ht] at hP1
              obtain ⟨hP, hD⟩ := va_join (wr := (wd_82cdd16b h1 h2 v1 x55 x56 x57 h2 g0 f5)) (w1 := (wd_b958b9da h0 h1 h3 x61 h3 g1 fn62)) hP hD [0, 3] [1, 2] rfl rfl (by decide) (by decide) hk1 hFc hP1 hD1
              generalize H1 = H at hP hS ⊢
              have hP := hP.sub (ws' := (wd_1ad0248d h0 h1 h3 x61 h1 h2 v1 x55 x56 x57 h2 g0 f5 h3 g1 fn62)) [2, 0, 1, 3] rfl
              have hD := hD.sub (ws' := (wd_1ad0248d h0 h1 h3 x61 h1 h2 v1 x55 x56 x57 h2 g0 f5 h3 g1 fn62)) [2, 0, 1, 3] (by decide) rfl
              have hP : va_P (dC, dI) vwCl (wd_1ad0248d h0 h1 h3 x61 h1 h2 v1 x55 x56 x57 h2 g0 f5 h3 g1 fn62) H := hP
              have hD : va_D A (wd_1ad0248d h0 h1 h3 x61 h1 h2 v1 x55 x56 x57 h2 g0 f5 h3 g1 fn62) := hD
              refine lv_iconst (v := 1) hx hb dX3_readUnit_166 (by decide) ?_
              subst hQ
              have hP9 := hP.sub (ws' := (wd_1ad0248d h0 h1 h3 x61 h1 h2 v1 x55 x56 x57 h2 g0 f5 h3 g1 fn62)) [0, 1, 2, 3] rfl
              have hD9 := hD.sub (ws' := (wd_1ad0248d h0 h1 h3 x61 h1 h2 v1 x55 x56 x57 h2 g0 f5 h3 g1 fn62)) [0, 1, 2, 3] (by decide) rfl
              have hK9 := hK.sub (tys' := []) [] rfl
              exact W.zret (v := 1) hx hb hr rfl (fun t ht hW => ⟨⟨1, (), rfl, ⟨by first | omega | decide, by first | omega | decide⟩, x61, x55, x56, x57, fn62, by first | omega | decide, by first | omega | decide, by rw [ht]; exact hP9, va_K.moved hW.alike hK9, hD9⟩, hS.F ht⟩) hS.2.2 dX3_readUnit_167
            · skip
              have fc59 : ra53.toInt = 0 := congrArg Int32.toInt c59
              refine lv_iconst (v := 0) hx hb dX3_readUnit_157 (by decide) ?_
              subst hQ
              have hP9 := hP.sub (ws' := (wd_1ad0248d h0 h1 h3 x54 h1 h2 v1 x55 x56 x57 h2 g0 f5 h3 g1 fn58)) [0, 1, 2, 3] rfl
              have hD9 := hD.sub (ws' := (wd_1ad0248d h0 h1 h3 x54 h1 h2 v1 x55 x56 x57 h2 g0 f5 h3 g1 fn58)) [0, 1, 2, 3] (by decide) rfl
              have hK9 := hK.sub (tys' := []) [] rfl
              exact W.zret (v := 0) hx hb hr rfl (fun t ht hW => ⟨⟨0, (), rfl, ⟨by first | omega | decide, by first | omega | decide⟩, x54, x55, x56, x57, fn58, by first | omega | decide, by first | omega | decide, by rw [ht]; exact hP9, va_K.moved hW.alike hK9, hD9⟩, hS.F ht⟩) hS.2.2 dX3_readUnit_158
          · skip
            have fc50 : ra49.toInt = (-1) := congrArg Int32.toInt c50
            refine lv_aload_n hx hb dX3_readUnit_134 rfl (lv_at hl 2 rfl) ?_
            refine va_get (D := (dC, dI)) (ci := 3) (v := .ref h1) (C := RX3) (T := TX3) (N := 3) hx hb hts (fun _ h => List.mem_cons_of_mem _ (List.mem_append_left _ (List.mem_append_right _ h))) hown hK hP 0 rfl rfl 0 (by decide) (hts (.fieldLink RX3 19 "LeftArguments$LawReader" "tape" "LLeftArguments$Tape;") (List.mem_cons_of_mem _ (List.mem_append_left _ (List.mem_append_left _ (List.mem_of_getElem? (i := 0) rfl))))) (fun _ h9 => h9) rfl dX3_readUnit_135 ?_
            have hPc := hP.sub (ws' := (wd_09b0abee h1 h2 v1 x48 x43 x44)) [1] rfl
            have hDc := hD.sub (ws' := (wd_09b0abee h1 h2 v1 x48 x43 x44)) [1] (by decide) rfl
            have hKc := hK.sub (tys' := []) [] rfl
            have hFc := va_free (wc := (wd_09b0abee h1 h2 v1 x48 x43 x44)) hD hS hA [1] rfl
            refine va_calli (va_runV (As := []) (rest := []) ⟨hx, hb, hml, hown, hts⟩ (k_X10_wrongHere l dC dI h1 h2 v1 x48 x43 x44 ⟨by first | omega | decide, by first | omega | decide⟩ H.size) (cwV 0 hts g_X3_readUnit_6_6 rfl rfl rfl (by decide +kernel) ⟨Nat.le_of_ble_eq_true rfl, Nat.le_of_ble_eq_true rfl⟩) ⟨fun a U g mk q => by obtain ⟨q0, q1, qP, qK, qD⟩ := q; exact ⟨q0, q1, qP, va_K.moved (u := U) (U := U.calling g mk a) (Vm.Alike.refl U.vm) qK, qD⟩, va_recv hKc hPc (ci := 10) (q0 := 0) rfl rfl, fun U hU hW => ⟨rfl, by rw [hU], by rw [hU]; exact hPc, va_K.moved hW.alike hKc, hDc.weaken (fun _ _ _ _ => trivial)⟩⟩ rfl rfl hl.1 rfl (lv_room (Nat.le_of_ble_eq_true rfl)) dX3_readUnit_138 ⟨Nat.le_of_ble_eq_true rfl, Nat.le_of_ble_eq_true rfl⟩) hS (fun q _ h => hFc q h) hFc (fun ra63 u t H1 locs ht hvm hwra63 hB hz1 hk1 hS => ?_)
            obtain ⟨x64, hP1, hK1, hD1⟩ := hB
            rw [ht] at hP1
            obtain ⟨hP, hD⟩ := va_join (wr := (wd_6b0d8e05 h0 h1 h3 x41 h2 g0 f5 h3 g1 fn45)) (w1 := (wd_09b0abee h1 h2 v1 x48 x64 x44)) hP hD [1] [0, 2, 3] rfl rfl (by decide) (by decide) hk1 hFc hP1 hD1
            generalize H1 = H at hP hS ⊢
            have hP := hP.sub (ws' := (wd_1ad0248d h0 h1 h3 x41 h1 h2 v1 x48 x64 x44 h2 g0 f5 h3 g1 fn45)) [0, 3, 1, 2] rfl
            have hD := hD.sub (ws' := (wd_1ad0248d h0 h1 h3 x41 h1 h2 v1 x48 x64 x44 h2 g0 f5 h3 g1 fn45)) [0, 3, 1, 2] (by decide) rfl
            have hP : va_P (dC, dI) vwCl (wd_1ad0248d h0 h1 h3 x41 h1 h2 v1 x48 x64 x44 h2 g0 f5 h3 g1 fn45) H := hP
            have hD : va_D A (wd_1ad0248d h0 h1 h3 x41 h1 h2 v1 x48 x64 x44 h2 g0 f5 h3 g1 fn45) := hD
            obtain ⟨wa_ra63, wb_ra63⟩ := hwra63
            have wa_ra63 : 0 ≤ ra63.toInt := wa_ra63
            have wb_ra63 : ra63.toInt ≤ 0 := wb_ra63
            subst hQ
            have hP9 := hP.sub (ws' := (wd_1ad0248d h0 h1 h3 x41 h1 h2 v1 x48 x64 x44 h2 g0 f5 h3 g1 fn45)) [0, 1, 2, 3] rfl
            have hD9 := hD.sub (ws' := (wd_1ad0248d h0 h1 h3 x41 h1 h2 v1 x48 x64 x44 h2 g0 f5 h3 g1 fn45)) [0, 1, 2, 3] (by decide) rfl
            have hK9 := hK.sub (tys' := []) [] rfl
            exact W.zret (v := ra63) hx hb hr (pv_nz (by omega) (by omega)) (fun t ht hW => ⟨⟨ra63, (), rfl, ⟨by first | omega | decide, by first | omega | decide⟩, x41, x48, x64, x44, fn45, by first | omega | decide, by first | omega | decide, by rw [ht]; exact hP9, va_K.moved hW.alike hK9, hD9⟩, hS.F ht⟩) hS.2.2 dX3_readUnit_141
        · skip
          have fc46 : ra40.toInt = 0 := congrArg Int32.toInt c46
          refine lv_iconst (v := 0) hx hb dX3_readUnit_114 (by decide) ?_
          subst hQ
          have hP9 := hP.sub (ws' := (wd_1ad0248d h0 h1 h3 x41 h1 h2 v1 x42 x43 x44 h2 g0 f5 h3 g1 fn45)) [0, 1, 2, 3] rfl
          have hD9 := hD.sub (ws' := (wd_1ad0248d h0 h1 h3 x41 h1 h2 v1 x42 x43 x44 h2 g0 f5 h3 g1 fn45)) [0, 1, 2, 3] (by decide) rfl
          have hK9 := hK.sub (tys' := []) [] rfl
          exact W.zret (v := 0) hx hb hr rfl (fun t ht hW => ⟨⟨0, (), rfl, ⟨by first | omega | decide, by first | omega | decide⟩, x41, x42, x43, x44, fn45, by first | omega | decide, by first | omega | decide, by rw [ht]; exact hP9, va_K.moved hW.alike hK9, hD9⟩, hS.F ht⟩) hS.2.2 dX3_readUnit_115
      · skip
        have fc38 : ra1.toInt = 40 := congrArg Int32.toInt c38
        refine lv_iload_n hx hb dX3_readUnit_24 rfl (lv_at hl 2 rfl) ?_
        refine lv_bipush (v := 6) hx hb dX3_readUnit_25 (by decide) ?_
        refine lv_icmp_lt (tgt := 38) hx hb dX3_readUnit_27 (by decide) (fun _ => ?_) (fun c => absurd (by decide) c)
        refine lv_aload_n hx hb dX3_readUnit_38 rfl (lv_at hl 1 rfl) ?_
        refine va_get (D := (dC, dI)) (ci := 3) (v := .ref h1) (C := RX3) (T := TX3) (N := 3) hx hb hts (fun _ h => List.mem_cons_of_mem _ (List.mem_append_left _ (List.mem_append_right _ h))) hown hK hP 0 rfl rfl 0 (by decide) (hts (.fieldLink RX3 19 "LeftArguments$LawReader" "tape" "LLeftArguments$Tape;") (List.mem_cons_of_mem _ (List.mem_append_left _ (List.mem_append_left _ (List.mem_of_getElem? (i := 0) rfl))))) (fun _ h9 => h9) rfl dX3_readUnit_39 ?_
        have hPc := hP.sub (ws' := (wd_09b0abee h1 h2 v1 x2 v3 v4)) [1] rfl
        have hDc := hD.sub (ws' := (wd_09b0abee h1 h2 v1 x2 v3 v4)) [1] (by decide) rfl
        have hKc := hK.sub (tys' := []) [] rfl
        have hFc := va_free (wc := (wd_09b0abee h1 h2 v1 x2 v3 v4)) hD hS hA [1] rfl
        refine va_callv (va_runV (As := []) (rest := []) ⟨hx, hb, hml, hown, hts⟩ (k_X10_step l dC dI h1 h2 v1 x2 v3 v4 ⟨by first | omega | decide, by first | omega | decide⟩ H.size) (cwV 0 hts g_X3_readUnit_6_3 rfl rfl rfl (by decide +kernel) ⟨Nat.le_of_ble_eq_true rfl, Nat.le_of_ble_eq_true rfl⟩) ⟨fun a U g mk q => by obtain ⟨q0, q1, qP, qK, qD⟩ := q; exact ⟨q0, q1, qP, va_K.moved (u := U) (U := U.calling g mk a) (Vm.Alike.refl U.vm) qK, qD⟩, va_recv hKc hPc (ci := 10) (q0 := 0) rfl rfl, fun U hU hW => ⟨rfl, by rw [hU], by rw [hU]; exact hPc, va_K.moved hW.alike hKc, hDc.weaken (fun _ _ _ _ => trivial)⟩⟩ rfl rfl hl.1 rfl (lv_room (Nat.le_of_ble_eq_true rfl)) dX3_readUnit_42 ⟨Nat.le_of_ble_eq_true rfl, Nat.le_of_ble_eq_true rfl⟩) hS (fun q _ h => hFc q h) hFc (fun u t H1 locs ht hvm hwra65 hB hz1 hk1 hS => ?_)
        obtain ⟨x66, hP1, hK1, hD1⟩ := hB
        rw [ht] at hP1
        obtain ⟨hP, hD⟩ := va_join (wr := (wd_6b0d8e05 h0 h1 h3 v0 h2 g0 f5 h3 g1 f6)) (w1 := (wd_09b0abee h1 h2 v1 x66 v3 v4)) hP hD [1] [0, 2, 3] rfl rfl (by decide) (by decide) hk1 hFc hP1 hD1
        generalize H1 = H at hP hS ⊢
        have hP := hP.sub (ws' := (wd_1ad0248d h0 h1 h3 v0 h1 h2 v1 x66 v3 v4 h2 g0 f5 h3 g1 f6)) [0, 3, 1, 2] rfl
        have hD := hD.sub (ws' := (wd_1ad0248d h0 h1 h3 v0 h1 h2 v1 x66 v3 v4 h2 g0 f5 h3 g1 f6)) [0, 3, 1, 2] (by decide) rfl
        have hP : va_P (dC, dI) vwCl (wd_1ad0248d h0 h1 h3 v0 h1 h2 v1 x66 v3 v4 h2 g0 f5 h3 g1 f6) H := hP
        have hD : va_D A (wd_1ad0248d h0 h1 h3 v0 h1 h2 v1 x66 v3 v4 h2 g0 f5 h3 g1 f6) := hD
        refine lv_iload_n hx hb dX3_readUnit_45 rfl (lv_at hl 0 rfl) ?_
        refine lv_bipush (v := 40) hx hb dX3_readUnit_46 (by decide) ?_
        refine lv_icmp_ne (tgt := 80) hx hb dX3_readUnit_48 (by decide) (fun c67 => by exfalso; have fc67 : ¬ (ra1.toInt = 40) := fun h9 => c67 (Int32.toInt_inj.mp h9); omega) (fun _ => ?_)
        refine lv_aload_n hx hb dX3_readUnit_51 rfl (lv_at hl 1 rfl) ?_
        refine lv_iload_n hx hb dX3_readUnit_52 rfl (lv_at hl 2 rfl) ?_
        refine lv_iconst (v := 1) hx hb dX3_readUnit_53 (by decide) ?_
        refine lv_iadd hx hb dX3_readUnit_54 ?_
        refine lv_topi (fun tv68 etv68 => ?_)
        obtain rfl : tv68 = (1 : Int32) := etv68.trans (by first | rfl | decide)
        refine lv_iconst (v := 0) hx hb dX3_readUnit_55 (by decide) ?_
        have hPc := hP.sub (ws' := (wd_1ad0248d h0 h1 h3 v0 h1 h2 v1 x66 v3 v4 h2 g0 f5 h3 g1 f6)) [0, 1, 2, 3] rfl
        have hDc := hD.sub (ws' := (wd_1ad0248d h0 h1 h3 v0 h1 h2 v1 x66 v3 v4 h2 g0 f5 h3 g1 f6)) [0, 1, 2, 3] (by decide) rfl
        have hKc := hK.sub (tys' := [(g0, .int), (g1, .int)]) [0, 1] rfl
        have hFc := va_free (wc := (wd_1ad0248d h0 h1 h3 v0 h1 h2 v1 x66 v3 v4 h2 g0 f5 h3 g1 f6)) hD hS hA [0, 1, 2, 3] rfl
        refine va_calli (va_runV (As := [.int 1, .int 0]) (rest := []) ⟨hx, hb, hml, hown, hts⟩ (k_X3_readCondition_5 l dC dI adK adV h0 h1 h2 h3 v0 v1 x66 v3 v4 g0 f5 g1 f6 0 ⟨by first | omega | decide, by first | omega | decide⟩ ⟨by first | omega | decide, by first | omega | decide⟩ ⟨by first | omega | decide, by first | omega | decide⟩ H.size) (cwV 2 hts g_X3_readUnit_6_18 rfl rfl rfl (by decide +kernel) ⟨Nat.le_of_ble_eq_true rfl, Nat.le_of_ble_eq_true rfl⟩) ⟨fun a U g mk q => by obtain ⟨q0, q1, qP, qK, qD, n0, n1, n2⟩ := q; exact ⟨q0, q1, qP, va_K.moved (u := U) (U := U.calling g mk a) (Vm.Alike.refl U.vm) qK, qD, vk_R.same rfl n0, va_Z.moved (Vm.Alike.refl _) n1, vk_S.moved (Vm.Alike.refl _) n2⟩, va_recv hKc hPc (ci := 3) (q0 := 0) rfl rfl, fun U hU hW => ⟨rfl, by rw [hU], by rw [hU]; exact hPc, va_K.moved hW.alike hKc, hDc.weaken (fun _ _ _ _ => trivial), vk_R.warm hW h_vr_2, (by rw [hU]; exact (va_Z.moved hW.alike (va_Z.kept h_st_CS hS.2.1)).narrow hFc), (by rw [hU]; exact (vk_S.moved hW.alike (vk_S.kept h_st_S hS.2.1)).narrow hFc)⟩⟩ rfl rfl hl.1 rfl (lv_room (Nat.le_of_ble_eq_true rfl)) dX3_readUnit_56 ⟨Nat.le_of_ble_eq_true rfl, Nat.le_of_ble_eq_true rfl⟩) hS (fun q _ h => hFc q h) hFc (fun ra69 u t H1 locs ht hvm hwra69 hB hz1 hk1 hS => ?_)
        obtain ⟨x70, x71, x72, x73, fn74, oa_x70, ob_x70, hP1, hK1, hD1⟩ := hB
        rw [ht] at hP1
        obtain ⟨hP, hD⟩ := va_join (wr := []) (w1 := (wd_1ad0248d h0 h1 h3 x70 h1 h2 v1 x71 x72 x73 h2 g0 f5 h3 g1 fn74)) hP hD [0, 1, 2, 3] [] rfl rfl (by decide) (by decide) hk1 hFc hP1 hD1
        generalize H1 = H at hP hS ⊢
        have hP : va_P (dC, dI) vwCl (wd_1ad0248d h0 h1 h3 x70 h1 h2 v1 x71 x72 x73 h2 g0 f5 h3 g1 fn74) H := hP
        have hD : va_D A (wd_1ad0248d h0 h1 h3 x70 h1 h2 v1 x71 x72 x73 h2 g0 f5 h3 g1 fn74) := hD
        obtain ⟨wa_ra69, wb_ra69⟩ := hwra69
        have wa_ra69 : 0 ≤ ra69.toInt := wa_ra69
        have wb_ra69 : ra69.toInt ≤ 1 := wb_ra69
        have hJ78 : ∀ (x75 : Int32) (x76 : Int32) (x77 : Int32) (H : Heap) (locs : List Loc) (ls : Array Slot), 0 ≤ x75.toInt → x75.toInt ≤ 1 → va_P (dC, dI) vwCl (wd_1ad0248d h0 h1 h3 x70 h1 h2 v1 x76 x77 x73 h2 g0 f5 h3 g1 fn74) H → va_D A (wd_1ad0248d h0 h1 h3 x70 h1 h2 v1 x76 x77 x73 h2 g0 f5 h3 g1 fn74) → va_S A s.heap H locs → lv_has ls 5 [(3, .int ra1), (0, .ref h0), (1, .int 0), (2, .int v7)] → W p l e ({ frames := 25, cells := 0, slots := 0, locals := 580 }) s m ([.ref h0, .int 0, .int v7] : List Value).toArray below meth c H locs 0 0 Q (F0 m 79 ls [.int x75]) := by
          intro x75 x76 x77 H locs ls qa_x75 qb_x75 hP hD hS hl
          subst hQ
          have hP9 := hP.sub (ws' := (wd_1ad0248d h0 h1 h3 x70 h1 h2 v1 x76 x77 x73 h2 g0 f5 h3 g1 fn74)) [0, 1, 2, 3] rfl
          have hD9 := hD.sub (ws' := (wd_1ad0248d h0 h1 h3 x70 h1 h2 v1 x76 x77 x73 h2 g0 f5 h3 g1 fn74)) [0, 1, 2, 3] (by decide) rfl
          have hK9 := hK.sub (tys' := []) [] rfl
          exact W.zret (v := x75) hx hb hr (pv_nz (by omega) (by omega)) (fun t ht hW => ⟨⟨x75, (), rfl, ⟨by first | omega | decide, by first | omega | decide⟩, x70, x76, x77, x73, fn74, by first | omega | decide, by first | omega | decide, by rw [ht]; exact hP9, va_K.moved hW.alike hK9, hD9⟩, hS.F ht⟩) hS.2.2 dX3_readUnit_79
        refine lv_if_eq (tgt := 78) hx hb dX3_readUnit_59 (by decide) (fun c79 => ?_) (fun c79 => ?_)
        · skip
          have fc79 : ra69.toInt = 0 := congrArg Int32.toInt c79
          refine lv_iconst (v := 0) hx hb dX3_readUnit_78 (by decide) ?_
          exact hJ78 0 x71 x72 H locs ls (by first | omega | decide) (by first | omega | decide) hP hD hS (lv_sub hl [0, 1, 2, 3] rfl)
        · skip
          have fc79 : ¬ (ra69.toInt = 0) := fun h9 => c79 (Int32.toInt_inj.mp h9)
          refine lv_aload_n hx hb dX3_readUnit_62 rfl (lv_at hl 1 rfl) ?_
          refine va_get (D := (dC, dI)) (ci := 3) (v := .ref h1) (C := RX3) (T := TX3) (N := 3) hx hb hts (fun _ h => List.mem_cons_of_mem _ (List.mem_append_left _ (List.mem_append_right _ h))) hown hK hP 0 rfl rfl 0 (by decide) (hts (.fieldLink RX3 19 "LeftArguments$LawReader" "tape" "LLeftArguments$Tape;") (List.mem_cons_of_mem _ (List.mem_append_left _ (List.mem_append_left _ (List.mem_of_getElem? (i := 0) rfl))))) (fun _ h9 => h9) rfl dX3_readUnit_63 ?_
          refine lv_bipush (v := 41) hx hb dX3_readUnit_66 (by decide) ?_
          have hPc := hP.sub (ws' := (wd_82cdd16b h1 h2 v1 x71 x72 x73 h2 g0 f5)) [1, 2] rfl
          have hDc := hD.sub (ws' := (wd_82cdd16b h1 h2 v1 x71 x72 x73 h2 g0 f5)) [1, 2] (by decide) rfl
          have hKc := hK.sub (tys' := [(g0, .int)]) [0] rfl
          have hFc := va_free (wc := (wd_82cdd16b h1 h2 v1 x71 x72 x73 h2 g0 f5)) hD hS hA [1, 2] rfl
          refine va_calli (va_runV (As := [.int 41]) (rest := []) ⟨hx, hb, hml, hown, hts⟩ (k_X10_take l dC dI h1 h2 v1 x71 x72 x73 g0 f5 41 ⟨by first | omega | decide, by first | omega | decide⟩ H.size) (cwV 1 hts g_X3_readUnit_6_19 rfl rfl rfl (by decide +kernel) ⟨Nat.le_of_ble_eq_true rfl, Nat.le_of_ble_eq_true rfl⟩) ⟨fun a U g mk q => by obtain ⟨q0, q1, qP, qK, qD⟩ := q; exact ⟨q0, q1, qP, va_K.moved (u := U) (U := U.calling g mk a) (Vm.Alike.refl U.vm) qK, qD⟩, va_recv hKc hPc (ci := 10) (q0 := 0) rfl rfl, fun U hU hW => ⟨rfl, by rw [hU], by rw [hU]; exact hPc, va_K.moved hW.alike hKc, hDc.weaken (fun _ _ _ _ => trivial)⟩⟩ rfl rfl hl.1 rfl (lv_room (Nat.le_of_ble_eq_true rfl)) dX3_readUnit_68 ⟨Nat.le_of_ble_eq_true rfl, Nat.le_of_ble_eq_true rfl⟩) hS (fun q _ h => hFc q h) hFc (fun ra80 u t H1 locs ht hvm hwra80 hB hz1 hk1 hS => ?_)
          obtain ⟨x81, x82, hP1, hK1, hD1⟩ := hB
          rw [ht] at hP1
          obtain ⟨hP, hD⟩ := va_join (wr := (wd_b958b9da h0 h1 h3 x70 h3 g1 fn74)) (w1 := (wd_82cdd16b h1 h2 v1 x81 x82 x73 h2 g0 f5)) hP hD [1, 2] [0, 3] rfl rfl (by decide) (by decide) hk1 hFc hP1 hD1
          generalize H1 = H at hP hS ⊢
          have hP := hP.sub (ws' := (wd_1ad0248d h0 h1 h3 x70 h1 h2 v1 x81 x82 x73 h2 g0 f5 h3 g1 fn74)) [0, 2, 3, 1] rfl
          have hD := hD.sub (ws' := (wd_1ad0248d h0 h1 h3 x70 h1 h2 v1 x81 x82 x73 h2 g0 f5 h3 g1 fn74)) [0, 2, 3, 1] (by decide) rfl
          have hP : va_P (dC, dI) vwCl (wd_1ad0248d h0 h1 h3 x70 h1 h2 v1 x81 x82 x73 h2 g0 f5 h3 g1 fn74) H := hP
          have hD : va_D A (wd_1ad0248d h0 h1 h3 x70 h1 h2 v1 x81 x82 x73 h2 g0 f5 h3 g1 fn74) := hD
          obtain ⟨wa_ra80, wb_ra80⟩ := hwra80
          have wa_ra80 : 0 ≤ ra80.toInt := wa_ra80
          have wb_ra80 : ra80.toInt ≤ 1 := wb_ra80
          refine lv_if_eq (tgt := 78) hx hb dX3_readUnit_71 (by decide) (fun c83 => ?_) (fun c83 => ?_)
          · skip
            have fc83 : ra80.toInt = 0 := congrArg Int32.toInt c83
            refine lv_iconst (v := 0) hx hb dX3_readUnit_78 (by decide) ?_
            exact hJ78 0 x81 x82 H locs ls (by first | omega | decide) (by first | omega | decide) hP hD hS (lv_sub hl [0, 1, 2, 3] rfl)
          · skip
            have fc83 : ¬ (ra80.toInt = 0) := fun h9 => c83 (Int32.toInt_inj.mp h9)
            refine lv_iconst (v := 1) hx hb dX3_readUnit_74 (by decide) ?_
            refine lv_goto (tgt := 79) hx hb dX3_readUnit_75 (by decide) ?_
            exact hJ78 1 x81 x82 H locs ls (by first | omega | decide) (by first | omega | decide) hP hD hS (lv_sub hl [0, 1, 2, 3] rfl)
def q_X3_readTruth_6 : List Cond := .code yX3_readTruth cX3_readTruth 4 (some .boolean) :: (([.code yX3_readUnit cX3_readUnit 5 (some .boolean), .fieldLink RX3 19 "LeftArguments$LawReader" "tape" "LLeftArguments$Tape;", .code yX10_next cX10_next 1 (some .int), .fieldLink RX10 19 "LeftArguments$Tape" "at" "I", .fieldLink RX10 15 "LeftArguments$Tape" "used" "I", .fieldLink RX10 9 "LeftArguments$Tape" "bytes" "[I", .initialized RX10, .instanceMethod yX10_next, .selects RX10 yX10_next yX10_next, .methodLink RX3 48 yX10_next, .code yX3_comparing cX3_comparing 1 (some .int), .initialized RX3, .static yX3_comparing, .methodLink RX3 62 yX3_comparing, .code yX10_step cX10_step 1 none, .instanceMethod yX10_step, .selects RX10 yX10_step yX10_step, .methodLink RX3 77 yX10_step, .code yX3_readSum cX3_readSum 4 (some .boolean), .code yX3_readTerm cX3_readTerm 4 (some .boolean), .code yX3_readAtom cX3_readAtom 4 (some .boolean), .code yX10_isDigit cX10_isDigit 1 (some .boolean), .static yX10_isDigit, .methodLink RX3 92 yX10_isDigit, .code yX3_write cX3_write 3 none, .fieldLink RX3 15 "LeftArguments$LawReader" "used" "I", .fieldLink RX3 11 "LeftArguments$LawReader" "code" "[I", .instanceMethod yX3_write, .selects RX3 yX3_write yX3_write, .methodLink RX3 66 yX3_write, .code yX10_wrongHere cX10_wrongHere 1 (some .boolean), .fieldLink RX10 22 "LeftArguments$Tape" "wrongAt" "I", .instanceMethod yX10_wrongHere, .selects RX10 yX10_wrongHere yX10_wrongHere, .methodLink RX3 83 yX10_wrongHere, .code yJ0_indexOf_0f7a4 cJ0_indexOf_0f7a4 2 (some .int), .code yJ0_indexOf_7cf53 cJ0_indexOf_7cf53 3 (some .int), .code yJ0_isLatin1_aae02 cJ0_isLatin1_aae02 1 (some .boolean), .fieldLink RJ0 38 "java/lang/String" "COMPACT_STRINGS" "Z", .fieldLink RJ0 15 "java/lang/String" "coder" "B", .initialized RJ0, .instanceMethod yJ0_isLatin1_aae02, .selects RJ0 yJ0_isLatin1_aae02 yJ0_isLatin1_aae02, .methodLink RJ0 492 yJ0_isLatin1_aae02, .fieldLink RJ0 9 "java/lang/String" "value" "[B", .code yJ0_length_8abf5 cJ0_length_8abf5 1 (some .int), .code yJ0_coder_7d493 cJ0_coder_7d493 1 (some .byte), .instanceMethod yJ0_coder_7d493, .selects RJ0 yJ0_coder_7d493 yJ0_coder_7d493, .methodLink RJ0 335 yJ0_coder_7d493, .instanceMethod yJ0_length_8abf5, .selects RJ0 yJ0_length_8abf5 yJ0_length_8abf5, .methodLink RJ0 505 yJ0_length_8abf5, .code yJ1_indexOf_4cfef cJ1_indexOf_4cfef 4 (some .int), .code yJ1_canEncode_9a6ad cJ1_canEncode_9a6ad 1 (some .boolean), .initialized RJ1, .static yJ1_canEncode_9a6ad, .methodLink RJ1 88 yJ1_canEncode_9a6ad, .methodLink RJ1 92 Lib.Math.max.name, .static Lib.Math.max.name, .initialized "java/lang/Math", .code Lib.Math.max.name Lib.Math.max.code 2 (some .int), .methodLink RJ1 38 Lib.Math.min.name, .static Lib.Math.min.name, .code Lib.Math.min.name Lib.Math.min.code 2 (some .int), .code yJ1_indexOfChar_4cfef cJ1_indexOfChar_4cfef 6 (some .int), .static yJ1_indexOfChar_4cfef, .methodLink RJ1 95 yJ1_indexOfChar_4cfef, .static yJ1_indexOf_4cfef, .methodLink RJ0 637 yJ1_indexOf_4cfef, .instanceMethod yJ0_indexOf_7cf53, .selects RJ0 yJ0_indexOf_7cf53 yJ0_indexOf_7cf53, .methodLink RJ0 633 yJ0_indexOf_7cf53, .instanceMethod yJ0_indexOf_0f7a4, .selects RJ0 yJ0_indexOf_0f7a4 yJ0_indexOf_0f7a4, .methodLink RX3 103 yJ0_indexOf_0f7a4, .code yX10_takeNumber cX10_takeNumber 3 (some .boolean), .methodLink RX10 37 yX10_next, .methodLink RX10 45 yX10_isDigit, .fieldLink RX10 25 "LeftArguments$Tape" "number" "I", .code yX10_sign cX10_sign 1 (some .int), .instanceMethod yX10_sign, .selects RX10 yX10_sign yX10_sign, .methodLink RX10 49 yX10_sign, .methodLink RX10 41 yX10_wrongHere, .instanceMethod yX10_takeNumber, .selects RX10 yX10_takeNumber yX10_takeNumber, .methodLink RX3 95 yX10_takeNumber, .code yX10_number cX10_number 1 (some .int), .instanceMethod yX10_number, .selects RX10 yX10_number yX10_number, .methodLink RX3 98 yX10_number, .instanceMethod yX3_readAtom, .selects RX3 yX3_readAtom yX3_readAtom, .methodLink RX3 89 yX3_readAtom, .instanceMethod yX3_readTerm, .selects RX3 yX3_readTerm yX3_readTerm, .methodLink RX3 86 yX3_readTerm, .instanceMethod yX3_readSum, .selects RX3 yX3_readSum yX3_readSum, .methodLink RX3 59 yX3_readSum, .code yX10_take cX10_take 2 (some .boolean), .instanceMethod yX10_take, .selects RX10 yX10_take yX10_take, .methodLink RX3 51 yX10_take, .instanceMethod yX3_readUnit, .selects RX3 yX3_readUnit yX3_readUnit, .methodLink RX3 80 yX3_readUnit, .code yX3_readCondition cX3_readCondition 4 (some .boolean), .code yX3_readTruth cX3_readTruth 4 (some .boolean), .instanceMethod yX3_readTruth, .selects RX3 yX3_readTruth yX3_readTruth, .methodLink RX3 74 yX3_readTruth, .instanceMethod yX3_readCondition, .selects RX3 yX3_readCondition yX3_readCondition, .methodLink RX3 70 yX3_readCondition] : List Cond) ++ wsX30 ++ wsX100)
set_option maxRecDepth 20000 in
theorem g_X3_readTruth_6_0 : GoodIn q_X3_readTruth_6 (wsV RX3 80 RX3 yX3_readUnit q_X3_readUnit_6) := goodIn_app (goodIn_r _ [108, 106, 107, 12] rfl (by decide +kernel)) (goodIn_ca (goodIn_ca (goodIn_r (.code yX3_readUnit cX3_readUnit 5 (some .boolean) :: [.fieldLink RX3 19 "LeftArguments$LawReader" "tape" "LLeftArguments$Tape;", .code yX10_next cX10_next 1 (some .int), .fieldLink RX10 19 "LeftArguments$Tape" "at" "I", .fieldLink RX10 15 "LeftArguments$Tape" "used" "I", .fieldLink RX10 9 "LeftArguments$Tape" "bytes" "[I", .initialized RX10, .instanceMethod yX10_next, .selects RX10 yX10_next yX10_next, .methodLink RX3 48 yX10_next, .code yX3_comparing cX3_comparing 1 (some .int), .initialized RX3, .static yX3_comparing, .methodLink RX3 62 yX3_comparing, .code yX10_step cX10_step 1 none, .instanceMethod yX10_step, .selects RX10 yX10_step yX10_step, .methodLink RX3 77 yX10_step, .code yX3_readSum cX3_readSum 4 (some .boolean), .code yX3_readTerm cX3_readTerm 4 (some .boolean), .code yX3_readAtom cX3_readAtom 4 (some .boolean), .code yX10_isDigit cX10_isDigit 1 (some .boolean), .static yX10_isDigit, .methodLink RX3 92 yX10_isDigit, .code yX3_write cX3_write 3 none, .fieldLink RX3 15 "LeftArguments$LawReader" "used" "I", .fieldLink RX3 11 "LeftArguments$LawReader" "code" "[I", .instanceMethod yX3_write, .selects RX3 yX3_write yX3_write, .methodLink RX3 66 yX3_write, .code yX10_wrongHere cX10_wrongHere 1 (some .boolean), .fieldLink RX10 22 "LeftArguments$Tape" "wrongAt" "I", .instanceMethod yX10_wrongHere, .selects RX10 yX10_wrongHere yX10_wrongHere, .methodLink RX3 83 yX10_wrongHere, .code yJ0_indexOf_0f7a4 cJ0_indexOf_0f7a4 2 (some .int), .code yJ0_indexOf_7cf53 cJ0_indexOf_7cf53 3 (some .int), .code yJ0_isLatin1_aae02 cJ0_isLatin1_aae02 1 (some .boolean), .fieldLink RJ0 38 "java/lang/String" "COMPACT_STRINGS" "Z", .fieldLink RJ0 15 "java/lang/String" "coder" "B", .initialized RJ0, .instanceMethod yJ0_isLatin1_aae02, .selects RJ0 yJ0_isLatin1_aae02 yJ0_isLatin1_aae02, .methodLink RJ0 492 yJ0_isLatin1_aae02, .fieldLink RJ0 9 "java/lang/String" "value" "[B", .code yJ0_length_8abf5 cJ0_length_8abf5 1 (some .int), .code yJ0_coder_7d493 cJ0_coder_7d493 1 (some .byte), .instanceMethod yJ0_coder_7d493, .selects RJ0 yJ0_coder_7d493 yJ0_coder_7d493, .methodLink RJ0 335 yJ0_coder_7d493, .instanceMethod yJ0_length_8abf5, .selects RJ0 yJ0_length_8abf5 yJ0_length_8abf5, .methodLink RJ0 505 yJ0_length_8abf5, .code yJ1_indexOf_4cfef cJ1_indexOf_4cfef 4 (some .int), .code yJ1_canEncode_9a6ad cJ1_canEncode_9a6ad 1 (some .boolean), .initialized RJ1, .static yJ1_canEncode_9a6ad, .methodLink RJ1 88 yJ1_canEncode_9a6ad, .methodLink RJ1 92 Lib.Math.max.name, .static Lib.Math.max.name, .initialized "java/lang/Math", .code Lib.Math.max.name Lib.Math.max.code 2 (some .int), .methodLink RJ1 38 Lib.Math.min.name, .static Lib.Math.min.name, .code Lib.Math.min.name Lib.Math.min.code 2 (some .int), .code yJ1_indexOfChar_4cfef cJ1_indexOfChar_4cfef 6 (some .int), .static yJ1_indexOfChar_4cfef, .methodLink RJ1 95 yJ1_indexOfChar_4cfef, .static yJ1_indexOf_4cfef, .methodLink RJ0 637 yJ1_indexOf_4cfef, .instanceMethod yJ0_indexOf_7cf53, .selects RJ0 yJ0_indexOf_7cf53 yJ0_indexOf_7cf53, .methodLink RJ0 633 yJ0_indexOf_7cf53, .instanceMethod yJ0_indexOf_0f7a4, .selects RJ0 yJ0_indexOf_0f7a4 yJ0_indexOf_0f7a4, .methodLink RX3 103 yJ0_indexOf_0f7a4, .code yX10_takeNumber cX10_takeNumber 3 (some .boolean), .methodLink RX10 37 yX10_next, .methodLink RX10 45 yX10_isDigit, .fieldLink RX10 25 "LeftArguments$Tape" "number" "I", .code yX10_sign cX10_sign 1 (some .int), .instanceMethod yX10_sign, .selects RX10 yX10_sign yX10_sign, .methodLink RX10 49 yX10_sign, .methodLink RX10 41 yX10_wrongHere, .instanceMethod yX10_takeNumber, .selects RX10 yX10_takeNumber yX10_takeNumber, .methodLink RX3 95 yX10_takeNumber, .code yX10_number cX10_number 1 (some .int), .instanceMethod yX10_number, .selects RX10 yX10_number yX10_number, .methodLink RX3 98 yX10_number, .instanceMethod yX3_readAtom, .selects RX3 yX3_readAtom yX3_readAtom, .methodLink RX3 89 yX3_readAtom, .instanceMethod yX3_readTerm, .selects RX3 yX3_readTerm yX3_readTerm, .methodLink RX3 86 yX3_readTerm, .instanceMethod yX3_readSum, .selects RX3 yX3_readSum yX3_readSum, .methodLink RX3 59 yX3_readSum, .code yX10_take cX10_take 2 (some .boolean), .instanceMethod yX10_take, .selects RX10 yX10_take yX10_take, .methodLink RX3 51 yX10_take, .code yX3_readUnit cX3_readUnit 5 (some .boolean), .instanceMethod yX3_readUnit, .selects RX3 yX3_readUnit yX3_readUnit, .methodLink RX3 80 yX3_readUnit, .code yX3_readCondition cX3_readCondition 4 (some .boolean), .code yX3_readTruth cX3_readTruth 4 (some .boolean), .instanceMethod yX3_readTruth, .selects RX3 yX3_readTruth yX3_readTruth, .methodLink RX3 74 yX3_readTruth, .instanceMethod yX3_readCondition, .selects RX3 yX3_readCondition yX3_readCondition, .methodLink RX3 70 yX3_readCondition]) [1, 2, 3, 4, 5, 6, 7, 8, 9, 10, 11, 12, 13, 14, 15, 16, 17, 18, 19, 20, 21, 22, 23, 24, 25, 26, 27, 28, 29, 30, 31, 32, 33, 34, 35, 36, 37, 38, 39, 40, 41, 42, 43, 44, 45, 46, 47, 48, 49, 50, 51, 52, 53, 54, 55, 56, 57, 58, 59, 60, 61, 62, 63, 64, 65, 66, 67, 68, 69, 70, 71, 72, 73, 74, 75, 76, 77, 78, 79, 80, 81, 82, 83, 84, 85, 86, 87, 88, 89, 90, 91, 92, 93, 94, 95, 96, 97, 98, 99, 100, 101, 102, 103, 104, 105, 1, 106, 107, 108, 109, 110, 111, 112, 113, 114, 115, 116] rfl (by decide +kernel)) (goodIn_sub (fun _ h => List.mem_cons_of_mem _ (List.mem_append_left _ (List.mem_append_right _ h))) gwX3)) (goodIn_sub (fun _ h => List.mem_cons_of_mem _ (List.mem_append_right _ h)) gwX10))
set_option maxRecDepth 20000 in
theorem g_X3_readTruth_6_1 : GoodIn q_X3_readTruth_6 (wsV RX3 48 RX10 yX10_next q_X10_next) := goodIn_app (goodIn_r _ [10, 8, 9, 7] rfl (by decide +kernel)) (goodIn_ca (goodIn_r (.code yX10_next cX10_next 1 (some .int) :: [.fieldLink RX10 19 "LeftArguments$Tape" "at" "I", .fieldLink RX10 15 "LeftArguments$Tape" "used" "I", .fieldLink RX10 9 "LeftArguments$Tape" "bytes" "[I"]) [3, 4, 5, 6] rfl (by decide +kernel)) (goodIn_sub (fun _ h => List.mem_cons_of_mem _ (List.mem_append_right _ h)) gwX10))
set_option maxRecDepth 20000 in
theorem g_X3_readTruth_6_2 : GoodIn q_X3_readTruth_6 (wsV RX3 77 RX10 yX10_step q_X10_step) := goodIn_app (goodIn_r _ [18, 16, 17, 7] rfl (by decide +kernel)) (goodIn_ca (goodIn_r (.code yX10_step cX10_step 1 none :: [.fieldLink RX10 19 "LeftArguments$Tape" "at" "I"]) [15, 4] rfl (by decide +kernel)) (goodIn_sub (fun _ h => List.mem_cons_of_mem _ (List.mem_append_right _ h)) gwX10))
set_option maxRecDepth 20000 in
theorem g_X3_readTruth_6_4 : GoodIn q_X3_readTruth_6 (wsV RX3 66 RX3 yX3_write q_X3_write) := goodIn_app (goodIn_r _ [30, 28, 29, 12] rfl (by decide +kernel)) (goodIn_ca (goodIn_r (.code yX3_write cX3_write 3 none :: [.fieldLink RX3 15 "LeftArguments$LawReader" "used" "I", .fieldLink RX3 11 "LeftArguments$LawReader" "code" "[I"]) [25, 26, 27] rfl (by decide +kernel)) (goodIn_sub (fun _ h => List.mem_cons_of_mem _ (List.mem_append_left _ (List.mem_append_right _ h))) gwX3))
set_option maxHeartbeats 4000000 in
set_option maxRecDepth 100000 in
theorem k_X3_readTruth_6 (l : Launch) (dC : Nat → ClassId) (dI : Nat → Nat → Nat) (adK : Nat → Nat) (adV : Nat → Nat) (h0 : Nat) (h1 : Nat) (h2 : Nat) (h3 : Nat) (v0 : Int32) (v1 : Int32) (v2 : Int32) (v3 : Int32) (v4 : Int32) (g0 : ClassId) (f5 : Nat → Int32) (g1 : ClassId) (f6 : Nat → Int32) (v7 : Int32) (i_v0 : 0 ≤ v0.toInt ∧ v0.toInt ≤ 256) (i_v1 : 0 ≤ v1.toInt ∧ v1.toInt ≤ 240) (i_v7 : 0 ≤ v7.toInt ∧ v7.toInt ≤ 1) (sz : Nat) : Met l yX3_readTruth q_X3_readTruth_6 ({ frames := 26, cells := 0, slots := 0, locals := 604 }) (va_Pc [.ref h0, .int 0, .int v7] (fun U => U.heap.size = sz ∧ va_P (dC, dI) vwCl (wd_1ad0248d h0 h1 h3 v0 h1 h2 v1 v2 v3 v4 h2 g0 f5 h3 g1 f6) U.heap ∧ va_K (dC, dI) vwCl [(g0, .int), (g1, .int)] U ∧ va_D (fun _ => True) (wd_1ad0248d h0 h1 h3 v0 h1 h2 v1 v2 v3 v4 h2 g0 f5 h3 g1 f6) ∧ vk_R RX3 101 "zaondt" (adK 2) U ∧ va_Z "java/lang/String" "COMPACT_STRINGS" "Z" (.int 1) (va_A (wd_1ad0248d h0 h1 h3 v0 h1 h2 v1 v2 v3 v4 h2 g0 f5 h3 g1 f6) sz) U U.heap ∧ vk_S 3 pv_len3 pv_byt3 adK adV (va_A (wd_1ad0248d h0 h1 h3 v0 h1 h2 v1 v2 v3 v4 h2 g0 f5 h3 g1 f6) sz) U U.heap)) (va_Qi (fun (r : Int32) (_ : Unit) => 0 ≤ r.toInt ∧ r.toInt ≤ 1) (fun (_ : Unit) (t : State) => ∃ (o_h0_2 : Int32) (o_h1_2 : Int32) (o_h1_3 : Int32) (o_h1_4 : Int32) (o_h3 : Nat → Int32), 0 ≤ o_h0_2.toInt ∧ o_h0_2.toInt ≤ 256 ∧ va_P (dC, dI) vwCl (wd_1ad0248d h0 h1 h3 o_h0_2 h1 h2 v1 o_h1_2 o_h1_3 o_h1_4 h2 g0 f5 h3 g1 o_h3) t.heap ∧ va_K (dC, dI) vwCl [] t ∧ va_D (va_A (wd_1ad0248d h0 h1 h3 v0 h1 h2 v1 v2 v3 v4 h2 g0 f5 h3 g1 f6) sz) (wd_1ad0248d h0 h1 h3 o_h0_2 h1 h2 v1 o_h1_2 o_h1_3 o_h1_4 h2 g0 f5 h3 g1 o_h3)) (va_A (wd_1ad0248d h0 h1 h3 v0 h1 h2 v1 v2 v3 v4 h2 g0 f5 h3 g1 f6) sz)) 0 0 (va_A (wd_1ad0248d h0 h1 h3 v0 h1 h2 v1 v2 v3 v4 h2 g0 f5 h3 g1 f6) sz) := by
  refine Met.ofW (cc := cX3_readTruth) (maxL := 4) (ret := (some .boolean)) (by decide) rfl ?_
  intro p e s m args below meth c s₁ B hml hv
  obtain ⟨i_v0a, i_v0b⟩ := i_v0
  obtain ⟨i_v1a, i_v1b⟩ := i_v1
  obtain ⟨i_v7a, i_v7b⟩ := i_v7
  obtain ⟨rfl, hsz, hP, hK, hD0, h_vr_2, h_st_CS, h_st_S⟩ := hv
  have hx := B.exec
  have hb := B.bytes
  have hr := B.returns
  have hts := atoms_spec (ws := q_X3_readTruth_6) B.pre
  have hown : s.vm.findClass RX3 = some m.cls := findClass_of_methodNamed B.named
  have hlocks := B.notSynchronized
  subst hsz
  have hD := hD0.self (sz := s.heap.size)
  generalize hAe : va_A (wd_1ad0248d h0 h1 h3 v0 h1 h2 v1 v2 v3 v4 h2 g0 f5 h3 g1 f6) s.heap.size = A at hD h_st_CS h_st_S ⊢
  have hA : ∀ q : Nat, s.heap.size ≤ q → A q := fun q h => by rw [← hAe]; exact Or.inr h
  have hS : va_S A s.heap s.heap [] := va_S.rf
  generalize hQ : (MQ below _ _ s 0 0 A) = Q
  have hl := lv_entry ([.ref h0, .int 0, .int v7]) (n := 4) (Nat.le_of_ble_eq_true rfl)
  rw [lg_entry_eq]
  generalize (lg_sl ([.ref h0, .int 0, .int v7]) ++ List.replicate (4 - (lg_sl ([.ref h0, .int 0, .int v7])).length) Slot.unset).toArray = ls at hl ⊢
  have hl : lv_has ls 4 [(0, .ref h0), (1, .int 0), (2, .int v7)] := hl
  obtain ⟨H, hH⟩ : ∃ H : Heap, H = s.heap := ⟨_, rfl⟩
  obtain ⟨locs, hlocs⟩ : ∃ y : List Loc, y = [] := ⟨_, rfl⟩
  have hS : va_S A s.heap H locs := by rw [hH, hlocs]; exact va_S.rf
  have hP : va_P (dC, dI) vwCl (wd_1ad0248d h0 h1 h3 v0 h1 h2 v1 v2 v3 v4 h2 g0 f5 h3 g1 f6) H := by rw [hH]; exact hP
  rw [← hH, ← hlocs]
  refine lv_aload_n hx hb dX3_readTruth_0 rfl (lv_at hl 0 rfl) ?_
  refine lv_iload_n hx hb dX3_readTruth_1 rfl (lv_at hl 1 rfl) ?_
  refine lv_iload_n hx hb dX3_readTruth_2 rfl (lv_at hl 2 rfl) ?_
  have hPc := hP.sub (ws' := (wd_1ad0248d h0 h1 h3 v0 h1 h2 v1 v2 v3 v4 h2 g0 f5 h3 g1 f6)) [0, 1, 2, 3] rfl
  have hDc := hD.sub (ws' := (wd_1ad0248d h0 h1 h3 v0 h1 h2 v1 v2 v3 v4 h2 g0 f5 h3 g1 f6)) [0, 1, 2, 3] (by decide) rfl
  have hKc := hK.sub (tys' := [(g0, .int), (g1, .int)]) [0, 1] rfl
  have hFc := va_free (wc := (wd_1ad0248d h0 h1 h3 v0 h1 h2 v1 v2 v3 v4 h2 g0 f5 h3 g1 f6)) hD hS hA [0, 1, 2, 3] rfl
  refine va_calli (va_runV (As := [.int 0, .int v7]) (rest := []) ⟨hx, hb, hml, hown, hts⟩ (k_X3_readUnit_6 l dC dI adK adV h0 h1 h2 h3 v0 v1 v2 v3 v4 g0 f5 g1 f6 v7 ⟨by first | omega | decide, by first | omega | decide⟩ ⟨by first | omega | decide, by first | omega | decide⟩ ⟨by first | omega | decide, by first | omega | decide⟩ H.size) (cwV 2 hts g_X3_readTruth_6_0 rfl rfl rfl (by decide +kernel) ⟨Nat.le_of_ble_eq_true rfl, Nat.le_of_ble_eq_true rfl⟩) ⟨fun a U g mk q => by obtain ⟨q0, q1, qP, qK, qD, n0, n1, n2⟩ := q; exact ⟨q0, q1, qP, va_K.moved (u := U) (U := U.calling g mk a) (Vm.Alike.refl U.vm) qK, qD, vk_R.same rfl n0, va_Z.moved (Vm.Alike.refl _) n1, vk_S.moved (Vm.Alike.refl _) n2⟩, va_recv hKc hPc (ci := 3) (q0 := 0) rfl rfl, fun U hU hW => ⟨rfl, by rw [hU], by rw [hU]; exact hPc, va_K.moved hW.alike hKc, hDc.weaken (fun _ _ _ _ => trivial), vk_R.warm hW h_vr_2, (by rw [hU]; exact (va_Z.moved hW.alike (va_Z.kept h_st_CS hS.2.1)).narrow hFc), (by rw [hU]; exact (vk_S.moved hW.alike (vk_S.kept h_st_S hS.2.1)).narrow hFc)⟩⟩ rfl rfl hl.1 rfl (lv_room (Nat.le_of_ble_eq_true rfl)) dX3_readTruth_3 ⟨Nat.le_of_ble_eq_true rfl, Nat.le_of_ble_eq_true rfl⟩) hS (fun q _ h => hFc q h) hFc (fun ra1 u t H1 locs ht hvm hwra1 hB hz1 hk1 hS => ?_)
  obtain ⟨x2, x3, x4, x5, fn6, oa_x2, ob_x2, hP1, hK1, hD1⟩ := hB
  rw [ht] at hP1
  obtain ⟨hP, hD⟩ := va_join (wr := []) (w1 := (wd_1ad0248d h0 h1 h3 x2 h1 h2 v1 x3 x4 x5 h2 g0 f5 h3 g1 fn6)) hP hD [0, 1, 2, 3] [] rfl rfl (by decide) (by decide) hk1 hFc hP1 hD1
  generalize H1 = H at hP hS ⊢
  have hP : va_P (dC, dI) vwCl (wd_1ad0248d h0 h1 h3 x2 h1 h2 v1 x3 x4 x5 h2 g0 f5 h3 g1 fn6) H := hP
  have hD : va_D A (wd_1ad0248d h0 h1 h3 x2 h1 h2 v1 x3 x4 x5 h2 g0 f5 h3 g1 fn6) := hD
  obtain ⟨wa_ra1, wb_ra1⟩ := hwra1
  have wa_ra1 : 0 ≤ ra1.toInt := wa_ra1
  have wb_ra1 : ra1.toInt ≤ 1 := wb_ra1
  refine lv_if_ne (tgt := 11) hx hb dX3_readTruth_6 (by decide) (fun c7 => ?_) (fun c7 => ?_)
  · skip
    have fc7 : ¬ (ra1.toInt = 0) := fun h9 => c7 (Int32.toInt_inj.mp h9)
    refine lv_iconst (v := 0) hx hb dX3_readTruth_11 (by decide) ?_
    refine lv_istore_n (lv' := [(3, .int 0), (0, .ref h0), (1, .int 0), (2, .int v7)]) hx hb dX3_readTruth_12 rfl hl (by decide) rfl (fun ls hl => ?_)
    have hL98 : ∀ (n9 : Nat), ∀ (x86 : Int32) (x87 : Int32) (x88 : Int32) (x89 : Int32) (x90 : Int32) (fn91 : Nat → Int32) (H : Heap) (locs : List Loc) (ls : Array Slot), 0 ≤ x86.toInt → x86.toInt ≤ 240 → 0 ≤ x87.toInt → x87.toInt ≤ 256 → (240 - x86.toInt).toNat < n9 → va_P (dC, dI) vwCl (wd_1ad0248d h0 h1 h3 x87 h1 h2 v1 x88 x89 x90 h2 g0 f5 h3 g1 fn91) H → va_D A (wd_1ad0248d h0 h1 h3 x87 h1 h2 v1 x88 x89 x90 h2 g0 f5 h3 g1 fn91) → va_S A s.heap H locs → lv_has ls 4 [(3, .int x86), (0, .ref h0), (1, .int 0), (2, .int v7)] → W p l e ({ frames := 26, cells := 0, slots := 0, locals := 604 }) s m ([.ref h0, .int 0, .int v7] : List Value).toArray below meth c H locs 0 0 Q (F0 m 13 ls []) := by
      intro n9
      induction n9 with
      | zero => intro x86 x87 x88 x89 x90 fn91 H locs ls qa_x86 qb_x86 qa_x87 qb_x87 hm9 hP hD hS hl; exact absurd hm9 (Nat.not_lt_zero _)
      | succ n9 ih_hL98 =>
        intro x86 x87 x88 x89 x90 fn91 H locs ls qa_x86 qb_x86 qa_x87 qb_x87 hm9 hP hD hS hl
        refine lv_iload_n hx hb dX3_readTruth_13 rfl (lv_at hl 0 rfl) ?_
        refine lv_sipush (v := 240) hx hb dX3_readTruth_14 (by decide) ?_
        refine lv_icmp_ge (tgt := 63) hx hb dX3_readTruth_17 (by decide) (fun c99 => ?_) (fun c99 => ?_)
        · skip
          have fc99 : 240 ≤ x86.toInt := Int32.le_iff_toInt_le.mp c99
          refine lv_iconst (v := 1) hx hb dX3_readTruth_63 (by decide) ?_
          subst hQ
          have hP9 := hP.sub (ws' := (wd_1ad0248d h0 h1 h3 x87 h1 h2 v1 x88 x89 x90 h2 g0 f5 h3 g1 fn91)) [0, 1, 2, 3] rfl
          have hD9 := hD.sub (ws' := (wd_1ad0248d h0 h1 h3 x87 h1 h2 v1 x88 x89 x90 h2 g0 f5 h3 g1 fn91)) [0, 1, 2, 3] (by decide) rfl
          have hK9 := hK.sub (tys' := []) [] rfl
          exact W.zret (v := 1) hx hb hr rfl (fun t ht hW => ⟨⟨1, (), rfl, ⟨by first | omega | decide, by first | omega | decide⟩, x87, x88, x89, x90, fn91, by first | omega | decide, by first | omega | decide, by rw [ht]; exact hP9, va_K.moved hW.alike hK9, hD9⟩, hS.F ht⟩) hS.2.2 dX3_readTruth_64
        · skip
          have fc99 : ¬ (240 ≤ x86.toInt) := fun h9 => c99 (Int32.le_iff_toInt_le.mpr h9)
          refine lv_aload_n hx hb dX3_readTruth_20 rfl (lv_at hl 1 rfl) ?_
          refine va_get (D := (dC, dI)) (ci := 3) (v := .ref h1) (C := RX3) (T := TX3) (N := 3) hx hb hts (fun _ h => List.mem_cons_of_mem _ (List.mem_append_left _ (List.mem_append_right _ h))) hown hK hP 0 rfl rfl 0 (by decide) (hts (.fieldLink RX3 19 "LeftArguments$LawReader" "tape" "LLeftArguments$Tape;") (List.mem_cons_of_mem _ (List.mem_append_left _ (List.mem_append_left _ (List.mem_of_getElem? (i := 1) rfl))))) (fun _ h9 => h9) rfl dX3_readTruth_21 ?_
          have hPc := hP.sub (ws' := (wd_82cdd16b h1 h2 v1 x88 x89 x90 h2 g0 f5)) [1, 2] rfl
          have hDc := hD.sub (ws' := (wd_82cdd16b h1 h2 v1 x88 x89 x90 h2 g0 f5)) [1, 2] (by decide) rfl
          have hKc := hK.sub (tys' := [(g0, .int)]) [0] rfl
          have hFc := va_free (wc := (wd_82cdd16b h1 h2 v1 x88 x89 x90 h2 g0 f5)) hD hS hA [1, 2] rfl
          refine va_calli (va_runV (As := []) (rest := []) ⟨hx, hb, hml, hown, hts⟩ (k_X10_next l dC dI h1 h2 v1 x88 x89 x90 g0 f5 ⟨by first | omega | decide, by first | omega | decide⟩ H.size) (cwV 0 hts g_X3_readTruth_6_1 rfl rfl rfl (by decide +kernel) ⟨Nat.le_of_ble_eq_true rfl, Nat.le_of_ble_eq_true rfl⟩) ⟨fun a U g mk q => by obtain ⟨q0, q1, qP, qK, qD⟩ := q; exact ⟨q0, q1, qP, va_K.moved (u := U) (U := U.calling g mk a) (Vm.Alike.refl U.vm) qK, qD⟩, va_recv hKc hPc (ci := 10) (q0 := 0) rfl rfl, fun U hU hW => ⟨rfl, by rw [hU], by rw [hU]; exact hPc, va_K.moved hW.alike hKc, hDc.weaken (fun _ _ _ _ => trivial)⟩⟩ rfl rfl hl.1 rfl (lv_room (Nat.le_of_ble_eq_true rfl)) dX3_readTruth_24 ⟨Nat.le_of_ble_eq_true rfl, Nat.le_of_ble_eq_true rfl⟩) hS (fun q _ h => hFc q h) hFc (fun ra100 u t H1 locs ht hvm hwra100 hB hz1 hk1 hS => ?_)
          obtain ⟨x101, hP1, hK1, hD1⟩ := hB
          rw [ht] at hP1
          obtain ⟨hP, hD⟩ := va_join (wr := (wd_b958b9da h0 h1 h3 x87 h3 g1 fn91)) (w1 := (wd_82cdd16b h1 h2 v1 x101 x89 x90 h2 g0 f5)) hP hD [1, 2] [0, 3] rfl rfl (by decide) (by decide) hk1 hFc hP1 hD1
          generalize H1 = H at hP hS ⊢
          have hP := hP.sub (ws' := (wd_1ad0248d h0 h1 h3 x87 h1 h2 v1 x101 x89 x90 h2 g0 f5 h3 g1 fn91)) [0, 2, 3, 1] rfl
          have hD := hD.sub (ws' := (wd_1ad0248d h0 h1 h3 x87 h1 h2 v1 x101 x89 x90 h2 g0 f5 h3 g1 fn91)) [0, 2, 3, 1] (by decide) rfl
          have hP : va_P (dC, dI) vwCl (wd_1ad0248d h0 h1 h3 x87 h1 h2 v1 x101 x89 x90 h2 g0 f5 h3 g1 fn91) H := hP
          have hD : va_D A (wd_1ad0248d h0 h1 h3 x87 h1 h2 v1 x101 x89 x90 h2 g0 f5 h3 g1 fn91) := hD
          refine lv_bipush (v := 38) hx hb dX3_readTruth_27 (by decide) ?_
          refine lv_icmp_ne (tgt := 63) hx hb dX3_readTruth_29 (by decide) (fun c102 => ?_) (fun c102 => ?_)
          · skip
            have fc102 : ¬ (ra100.toInt = 38) := fun h9 => c102 (Int32.toInt_inj.mp h9)
            refine lv_iconst (v := 1) hx hb dX3_readTruth_63 (by decide) ?_
            subst hQ
            have hP9 := hP.sub (ws' := (wd_1ad0248d h0 h1 h3 x87 h1 h2 v1 x101 x89 x90 h2 g0 f5 h3 g1 fn91)) [0, 1, 2, 3] rfl
            have hD9 := hD.sub (ws' := (wd_1ad0248d h0 h1 h3 x87 h1 h2 v1 x101 x89 x90 h2 g0 f5 h3 g1 fn91)) [0, 1, 2, 3] (by decide) rfl
            have hK9 := hK.sub (tys' := []) [] rfl
            exact W.zret (v := 1) hx hb hr rfl (fun t ht hW => ⟨⟨1, (), rfl, ⟨by first | omega | decide, by first | omega | decide⟩, x87, x101, x89, x90, fn91, by first | omega | decide, by first | omega | decide, by rw [ht]; exact hP9, va_K.moved hW.alike hK9, hD9⟩, hS.F ht⟩) hS.2.2 dX3_readTruth_64
          · skip
            have fc102 : ra100.toInt = 38 := congrArg Int32.toInt c102
            refine lv_aload_n hx hb dX3_readTruth_32 rfl (lv_at hl 1 rfl) ?_
            refine va_get (D := (dC, dI)) (ci := 3) (v := .ref h1) (C := RX3) (T := TX3) (N := 3) hx hb hts (fun _ h => List.mem_cons_of_mem _ (List.mem_append_left _ (List.mem_append_right _ h))) hown hK hP 0 rfl rfl 0 (by decide) (hts (.fieldLink RX3 19 "LeftArguments$LawReader" "tape" "LLeftArguments$Tape;") (List.mem_cons_of_mem _ (List.mem_append_left _ (List.mem_append_left _ (List.mem_of_getElem? (i := 1) rfl))))) (fun _ h9 => h9) rfl dX3_readTruth_33 ?_
            have hPc := hP.sub (ws' := (wd_09b0abee h1 h2 v1 x101 x89 x90)) [1] rfl
            have hDc := hD.sub (ws' := (wd_09b0abee h1 h2 v1 x101 x89 x90)) [1] (by decide) rfl
            have hKc := hK.sub (tys' := []) [] rfl
            have hFc := va_free (wc := (wd_09b0abee h1 h2 v1 x101 x89 x90)) hD hS hA [1] rfl
            refine va_callv (va_runV (As := []) (rest := []) ⟨hx, hb, hml, hown, hts⟩ (k_X10_step l dC dI h1 h2 v1 x101 x89 x90 ⟨by first | omega | decide, by first | omega | decide⟩ H.size) (cwV 0 hts g_X3_readTruth_6_2 rfl rfl rfl (by decide +kernel) ⟨Nat.le_of_ble_eq_true rfl, Nat.le_of_ble_eq_true rfl⟩) ⟨fun a U g mk q => by obtain ⟨q0, q1, qP, qK, qD⟩ := q; exact ⟨q0, q1, qP, va_K.moved (u := U) (U := U.calling g mk a) (Vm.Alike.refl U.vm) qK, qD⟩, va_recv hKc hPc (ci := 10) (q0 := 0) rfl rfl, fun U hU hW => ⟨rfl, by rw [hU], by rw [hU]; exact hPc, va_K.moved hW.alike hKc, hDc.weaken (fun _ _ _ _ => trivial)⟩⟩ rfl rfl hl.1 rfl (lv_room (Nat.le_of_ble_eq_true rfl)) dX3_readTruth_36 ⟨Nat.le_of_ble_eq_true rfl, Nat.le_of_ble_eq_true rfl⟩) hS (fun q _ h => hFc q h) hFc (fun u t H1 locs ht hvm hwra103 hB hz1 hk1 hS => ?_)
            obtain ⟨x104, hP1, hK1, hD1⟩ := hB
            rw [ht] at hP1
            obtain ⟨hP, hD⟩ := va_join (wr := (wd_6b0d8e05 h0 h1 h3 x87 h2 g0 f5 h3 g1 fn91)) (w1 := (wd_09b0abee h1 h2 v1 x104 x89 x90)) hP hD [1] [0, 2, 3] rfl rfl (by decide) (by decide) hk1 hFc hP1 hD1
            generalize H1 = H at hP hS ⊢
            have hP := hP.sub (ws' := (wd_1ad0248d h0 h1 h3 x87 h1 h2 v1 x104 x89 x90 h2 g0 f5 h3 g1 fn91)) [0, 3, 1, 2] rfl
            have hD := hD.sub (ws' := (wd_1ad0248d h0 h1 h3 x87 h1 h2 v1 x104 x89 x90 h2 g0 f5 h3 g1 fn91)) [0, 3, 1, 2] (by decide) rfl
            have hP : va_P (dC, dI) vwCl (wd_1ad0248d h0 h1 h3 x87 h1 h2 v1 x104 x89 x90 h2 g0 f5 h3 g1 fn91) H := hP
            have hD : va_D A (wd_1ad0248d h0 h1 h3 x87 h1 h2 v1 x104 x89 x90 h2 g0 f5 h3 g1 fn91) := hD
            refine lv_aload_n hx hb dX3_readTruth_39 rfl (lv_at hl 1 rfl) ?_
            refine lv_iload_n hx hb dX3_readTruth_40 rfl (lv_at hl 2 rfl) ?_
            refine lv_iconst (v := 0) hx hb dX3_readTruth_41 (by decide) ?_
            have hPc := hP.sub (ws' := (wd_1ad0248d h0 h1 h3 x87 h1 h2 v1 x104 x89 x90 h2 g0 f5 h3 g1 fn91)) [0, 1, 2, 3] rfl
            have hDc := hD.sub (ws' := (wd_1ad0248d h0 h1 h3 x87 h1 h2 v1 x104 x89 x90 h2 g0 f5 h3 g1 fn91)) [0, 1, 2, 3] (by decide) rfl
            have hKc := hK.sub (tys' := [(g0, .int), (g1, .int)]) [0, 1] rfl
            have hFc := va_free (wc := (wd_1ad0248d h0 h1 h3 x87 h1 h2 v1 x104 x89 x90 h2 g0 f5 h3 g1 fn91)) hD hS hA [0, 1, 2, 3] rfl
            refine va_calli (va_runV (As := [.int 0, .int 0]) (rest := []) ⟨hx, hb, hml, hown, hts⟩ (k_X3_readUnit_6 l dC dI adK adV h0 h1 h2 h3 x87 v1 x104 x89 x90 g0 f5 g1 fn91 0 ⟨by first | omega | decide, by first | omega | decide⟩ ⟨by first | omega | decide, by first | omega | decide⟩ ⟨by first | omega | decide, by first | omega | decide⟩ H.size) (cwV 2 hts g_X3_readTruth_6_0 rfl rfl rfl (by decide +kernel) ⟨Nat.le_of_ble_eq_true rfl, Nat.le_of_ble_eq_true rfl⟩) ⟨fun a U g mk q => by obtain ⟨q0, q1, qP, qK, qD, n0, n1, n2⟩ := q; exact ⟨q0, q1, qP, va_K.moved (u := U) (U := U.calling g mk a) (Vm.Alike.refl U.vm) qK, qD, vk_R.same rfl n0, va_Z.moved (Vm.Alike.refl _) n1, vk_S.moved (Vm.Alike.refl _) n2⟩, va_recv hKc hPc (ci := 3) (q0 := 0) rfl rfl, fun U hU hW => ⟨rfl, by rw [hU], by rw [hU]; exact hPc, va_K.moved hW.alike hKc, hDc.weaken (fun _ _ _ _ => trivial), vk_R.warm hW h_vr_2, (by rw [hU]; exact (va_Z.moved hW.alike (va_Z.kept h_st_CS hS.2.1)).narrow hFc), (by rw [hU]; exact (vk_S.moved hW.alike (vk_S.kept h_st_S hS.2.1)).narrow hFc)⟩⟩ rfl rfl hl.1 rfl (lv_room (Nat.le_of_ble_eq_true rfl)) dX3_readTruth_42 ⟨Nat.le_of_ble_eq_true rfl, Nat.le_of_ble_eq_true rfl⟩) hS (fun q _ h => hFc q h) hFc (fun ra105 u t H1 locs ht hvm hwra105 hB hz1 hk1 hS => ?_)
            obtain ⟨x106, x107, x108, x109, fn110, oa_x106, ob_x106, hP1, hK1, hD1⟩ := hB
            rw [ht] at hP1
            obtain ⟨hP, hD⟩ := va_join (wr := []) (w1 := (wd_1ad0248d h0 h1 h3 x106 h1 h2 v1 x107 x108 x109 h2 g0 f5 h3 g1 fn110)) hP hD [0, 1, 2, 3] [] rfl rfl (by decide) (by decide) hk1 hFc hP1 hD1
            generalize H1 = H at hP hS ⊢
            have hP : va_P (dC, dI) vwCl (wd_1ad0248d h0 h1 h3 x106 h1 h2 v1 x107 x108 x109 h2 g0 f5 h3 g1 fn110) H := hP
            have hD : va_D A (wd_1ad0248d h0 h1 h3 x106 h1 h2 v1 x107 x108 x109 h2 g0 f5 h3 g1 fn110) := hD
            obtain ⟨wa_ra105, wb_ra105⟩ := hwra105
            have wa_ra105 : 0 ≤ ra105.toInt := wa_ra105
            have wb_ra105 : ra105.toInt ≤ 1 := wb_ra105
            refine lv_if_ne (tgt := 50) hx hb dX3_readTruth_45 (by decide) (fun c111 => ?_) (fun c111 => ?_)
            · skip
              have fc111 : ¬ (ra105.toInt = 0) := fun h9 => c111 (Int32.toInt_inj.mp h9)
              refine lv_aload_n hx hb dX3_readTruth_50 rfl (lv_at hl 1 rfl) ?_
              refine lv_bipush (v := 10) hx hb dX3_readTruth_51 (by decide) ?_
              refine lv_iconst (v := 0) hx hb dX3_readTruth_53 (by decide) ?_
              have hPc := hP.sub (ws' := (wd_b958b9da h0 h1 h3 x106 h3 g1 fn110)) [0, 3] rfl
              have hDc := hD.sub (ws' := (wd_b958b9da h0 h1 h3 x106 h3 g1 fn110)) [0, 3] (by decide) rfl
              have hKc := hK.sub (tys' := [(g1, .int)]) [1] rfl
              have hFc := va_free (wc := (wd_b958b9da h0 h1 h3 x106 h3 g1 fn110)) hD hS hA [0, 3] rfl
              refine va_callv (va_runV (As := [.int 10, .int 0]) (rest := []) ⟨hx, hb, hml, hown, hts⟩ (k_X3_write l dC dI h0 h3 h1 x106 g1 fn110 10 0 ⟨by first | omega | decide, by first | omega | decide⟩ H.size) (cwV 2 hts g_X3_readTruth_6_4 rfl rfl rfl (by decide +kernel) ⟨Nat.le_of_ble_eq_true rfl, Nat.le_of_ble_eq_true rfl⟩) ⟨fun a U g mk q => by obtain ⟨q0, q1, qP, qK, qD⟩ := q; exact ⟨q0, q1, qP, va_K.moved (u := U) (U := U.calling g mk a) (Vm.Alike.refl U.vm) qK, qD⟩, va_recv hKc hPc (ci := 3) (q0 := 0) rfl rfl, fun U hU hW => ⟨rfl, by rw [hU], by rw [hU]; exact hPc, va_K.moved hW.alike hKc, hDc.weaken (fun _ _ _ _ => trivial)⟩⟩ rfl rfl hl.1 rfl (lv_room (Nat.le_of_ble_eq_true rfl)) dX3_readTruth_54 ⟨Nat.le_of_ble_eq_true rfl, Nat.le_of_ble_eq_true rfl⟩) hS (fun q _ h => hFc q h) hFc (fun u t H1 locs ht hvm hwra112 hB hz1 hk1 hS => ?_)
              obtain ⟨x113, fn114, oa_x113, ob_x113, hP1, hK1, hD1⟩ := hB
              rw [ht] at hP1
              obtain ⟨hP, hD⟩ := va_join (wr := (wd_82cdd16b h1 h2 v1 x107 x108 x109 h2 g0 f5)) (w1 := (wd_b958b9da h0 h1 h3 x113 h3 g1 fn114)) hP hD [0, 3] [1, 2] rfl rfl (by decide) (by decide) hk1 hFc hP1 hD1
              generalize H1 = H at hP hS ⊢
              have hP := hP.sub (ws' := (wd_1ad0248d h0 h1 h3 x113 h1 h2 v1 x107 x108 x109 h2 g0 f5 h3 g1 fn114)) [2, 0, 1, 3] rfl
              have hD := hD.sub (ws' := (wd_1ad0248d h0 h1 h3 x113 h1 h2 v1 x107 x108 x109 h2 g0 f5 h3 g1 fn114)) [2, 0, 1, 3] (by decide) rfl
              have hP : va_P (dC, dI) vwCl (wd_1ad0248d h0 h1 h3 x113 h1 h2 v1 x107 x108 x109 h2 g0 f5 h3 g1 fn114) H := hP
              have hD : va_D A (wd_1ad0248d h0 h1 h3 x113 h1 h2 v1 x107 x108 x109 h2 g0 f5 h3 g1 fn114) := hD
              obtain ⟨t115, et115⟩ : ∃ y : Int32, y = x86 + 1 := ⟨_, rfl⟩
              have gt115 : t115.toInt = x86.toInt + (1) := pv_add (a := x86.toInt) (b := (1)) et115 rfl (by decide) (by omega) (by omega)
              refine lv_iinc (v := t115) (lv' := [(3, .int t115), (0, .ref h0), (1, .int 0), (2, .int v7)]) hx hb dX3_readTruth_57 hl (k := 0) rfl (by rw [et115]; rfl) (by decide) rfl (fun ls hl => ?_)
              refine lv_goto (tgt := 13) hx hb dX3_readTruth_60 (by decide) ?_
              exact ih_hL98 t115 x113 x107 x108 x109 fn114 H locs ls (by first | omega | decide) (by first | omega | decide) (by first | omega | decide) (by first | omega | decide) (by first | omega | (simp only [Int.toNat] at *; omega)) hP hD hS (lv_sub hl [0, 1, 2, 3] rfl)
            · skip
              have fc111 : ra105.toInt = 0 := congrArg Int32.toInt c111
              refine lv_iconst (v := 0) hx hb dX3_readTruth_48 (by decide) ?_
              subst hQ
              have hP9 := hP.sub (ws' := (wd_1ad0248d h0 h1 h3 x106 h1 h2 v1 x107 x108 x109 h2 g0 f5 h3 g1 fn110)) [0, 1, 2, 3] rfl
              have hD9 := hD.sub (ws' := (wd_1ad0248d h0 h1 h3 x106 h1 h2 v1 x107 x108 x109 h2 g0 f5 h3 g1 fn110)) [0, 1, 2, 3] (by decide) rfl
              have hK9 := hK.sub (tys' := []) [] rfl
              exact W.zret (v := 0) hx hb hr rfl (fun t ht hW => ⟨⟨0, (), rfl, ⟨by first | omega | decide, by first | omega | decide⟩, x106, x107, x108, x109, fn110, by first | omega | decide, by first | omega | decide, by rw [ht]; exact hP9, va_K.moved hW.alike hK9, hD9⟩, hS.F ht⟩) hS.2.2 dX3_readTruth_49
    exact hL98 _ 0 x2 x3 x4 x5 fn6 H locs ls (by first | omega | decide) (by first | omega | decide) (by first | omega | decide) (by first | omega | decide) (Nat.lt_succ_self _) hP hD hS (lv_sub hl [0, 1, 2, 3] rfl)
  · skip
    have fc7 : ra1.toInt = 0 := congrArg Int32.toInt c7
    refine lv_iconst (v := 0) hx hb dX3_readTruth_9 (by decide) ?_
    subst hQ
    have hP9 := hP.sub (ws' := (wd_1ad0248d h0 h1 h3 x2 h1 h2 v1 x3 x4 x5 h2 g0 f5 h3 g1 fn6)) [0, 1, 2, 3] rfl
    have hD9 := hD.sub (ws' := (wd_1ad0248d h0 h1 h3 x2 h1 h2 v1 x3 x4 x5 h2 g0 f5 h3 g1 fn6)) [0, 1, 2, 3] (by decide) rfl
    have hK9 := hK.sub (tys' := []) [] rfl
    exact W.zret (v := 0) hx hb hr rfl (fun t ht hW => ⟨⟨0, (), rfl, ⟨by first | omega | decide, by first | omega | decide⟩, x2, x3, x4, x5, fn6, by first | omega | decide, by first | omega | decide, by rw [ht]; exact hP9, va_K.moved hW.alike hK9, hD9⟩, hS.F ht⟩) hS.2.2 dX3_readTruth_10
def q_X3_readCondition_6 : List Cond := .code yX3_readCondition cX3_readCondition 4 (some .boolean) :: (([.code yX3_readTruth cX3_readTruth 4 (some .boolean), .code yX3_readUnit cX3_readUnit 5 (some .boolean), .fieldLink RX3 19 "LeftArguments$LawReader" "tape" "LLeftArguments$Tape;", .code yX10_next cX10_next 1 (some .int), .fieldLink RX10 19 "LeftArguments$Tape" "at" "I", .fieldLink RX10 15 "LeftArguments$Tape" "used" "I", .fieldLink RX10 9 "LeftArguments$Tape" "bytes" "[I", .initialized RX10, .instanceMethod yX10_next, .selects RX10 yX10_next yX10_next, .methodLink RX3 48 yX10_next, .code yX3_comparing cX3_comparing 1 (some .int), .initialized RX3, .static yX3_comparing, .methodLink RX3 62 yX3_comparing, .code yX10_step cX10_step 1 none, .instanceMethod yX10_step, .selects RX10 yX10_step yX10_step, .methodLink RX3 77 yX10_step, .code yX3_readSum cX3_readSum 4 (some .boolean), .code yX3_readTerm cX3_readTerm 4 (some .boolean), .code yX3_readAtom cX3_readAtom 4 (some .boolean), .code yX10_isDigit cX10_isDigit 1 (some .boolean), .static yX10_isDigit, .methodLink RX3 92 yX10_isDigit, .code yX3_write cX3_write 3 none, .fieldLink RX3 15 "LeftArguments$LawReader" "used" "I", .fieldLink RX3 11 "LeftArguments$LawReader" "code" "[I", .instanceMethod yX3_write, .selects RX3 yX3_write yX3_write, .methodLink RX3 66 yX3_write, .code yX10_wrongHere cX10_wrongHere 1 (some .boolean), .fieldLink RX10 22 "LeftArguments$Tape" "wrongAt" "I", .instanceMethod yX10_wrongHere, .selects RX10 yX10_wrongHere yX10_wrongHere, .methodLink RX3 83 yX10_wrongHere, .code yJ0_indexOf_0f7a4 cJ0_indexOf_0f7a4 2 (some .int), .code yJ0_indexOf_7cf53 cJ0_indexOf_7cf53 3 (some .int), .code yJ0_isLatin1_aae02 cJ0_isLatin1_aae02 1 (some .boolean), .fieldLink RJ0 38 "java/lang/String" "COMPACT_STRINGS" "Z", .fieldLink RJ0 15 "java/lang/String" "coder" "B", .initialized RJ0, .instanceMethod yJ0_isLatin1_aae02, .selects RJ0 yJ0_isLatin1_aae02 yJ0_isLatin1_aae02, .methodLink RJ0 492 yJ0_isLatin1_aae02, .fieldLink RJ0 9 "java/lang/String" "value" "[B", .code yJ0_length_8abf5 cJ0_length_8abf5 1 (some .int), .code yJ0_coder_7d493 cJ0_coder_7d493 1 (some .byte), .instanceMethod yJ0_coder_7d493, .selects RJ0 yJ0_coder_7d493 yJ0_coder_7d493, .methodLink RJ0 335 yJ0_coder_7d493, .instanceMethod yJ0_length_8abf5, .selects RJ0 yJ0_length_8abf5 yJ0_length_8abf5, .methodLink RJ0 505 yJ0_length_8abf5, .code yJ1_indexOf_4cfef cJ1_indexOf_4cfef 4 (some .int), .code yJ1_canEncode_9a6ad cJ1_canEncode_9a6ad 1 (some .boolean), .initialized RJ1, .static yJ1_canEncode_9a6ad, .methodLink RJ1 88 yJ1_canEncode_9a6ad, .methodLink RJ1 92 Lib.Math.max.name, .static Lib.Math.max.name, .initialized "java/lang/Math", .code Lib.Math.max.name Lib.Math.max.code 2 (some .int), .methodLink RJ1 38 Lib.Math.min.name, .static Lib.Math.min.name, .code Lib.Math.min.name Lib.Math.min.code 2 (some .int), .code yJ1_indexOfChar_4cfef cJ1_indexOfChar_4cfef 6 (some .int), .static yJ1_indexOfChar_4cfef, .methodLink RJ1 95 yJ1_indexOfChar_4cfef, .static yJ1_indexOf_4cfef, .methodLink RJ0 637 yJ1_indexOf_4cfef, .instanceMethod yJ0_indexOf_7cf53, .selects RJ0 yJ0_indexOf_7cf53 yJ0_indexOf_7cf53, .methodLink RJ0 633 yJ0_indexOf_7cf53, .instanceMethod yJ0_indexOf_0f7a4, .selects RJ0 yJ0_indexOf_0f7a4 yJ0_indexOf_0f7a4, .methodLink RX3 103 yJ0_indexOf_0f7a4, .code yX10_takeNumber cX10_takeNumber 3 (some .boolean), .methodLink RX10 37 yX10_next, .methodLink RX10 45 yX10_isDigit, .fieldLink RX10 25 "LeftArguments$Tape" "number" "I", .code yX10_sign cX10_sign 1 (some .int), .instanceMethod yX10_sign, .selects RX10 yX10_sign yX10_sign, .methodLink RX10 49 yX10_sign, .methodLink RX10 41 yX10_wrongHere, .instanceMethod yX10_takeNumber, .selects RX10 yX10_takeNumber yX10_takeNumber, .methodLink RX3 95 yX10_takeNumber, .code yX10_number cX10_number 1 (some .int), .instanceMethod yX10_number, .selects RX10 yX10_number yX10_number, .methodLink RX3 98 yX10_number, .instanceMethod yX3_readAtom, .selects RX3 yX3_readAtom yX3_readAtom, .methodLink RX3 89 yX3_readAtom, .instanceMethod yX3_readTerm, .selects RX3 yX3_readTerm yX3_readTerm, .methodLink RX3 86 yX3_readTerm, .instanceMethod yX3_readSum, .selects RX3 yX3_readSum yX3_readSum, .methodLink RX3 59 yX3_readSum, .code yX10_take cX10_take 2 (some .boolean), .instanceMethod yX10_take, .selects RX10 yX10_take yX10_take, .methodLink RX3 51 yX10_take, .instanceMethod yX3_readUnit, .selects RX3 yX3_readUnit yX3_readUnit, .methodLink RX3 80 yX3_readUnit, .code yX3_readCondition cX3_readCondition 4 (some .boolean), .instanceMethod yX3_readTruth, .selects RX3 yX3_readTruth yX3_readTruth, .methodLink RX3 74 yX3_readTruth, .instanceMethod yX3_readCondition, .selects RX3 yX3_readCondition yX3_readCondition, .methodLink RX3 70 yX3_readCondition] : List Cond) ++ wsX30 ++ wsX100)
set_option maxRecDepth 20000 in
theorem g_X3_readCondition_6_0 : GoodIn q_X3_readCondition_6 (wsV RX3 74 RX3 yX3_readTruth q_X3_readTruth_6) := goodIn_app (goodIn_r _ [113, 111, 112, 13] rfl (by decide +kernel)) (goodIn_ca (goodIn_ca (goodIn_r (.code yX3_readTruth cX3_readTruth 4 (some .boolean) :: [.code yX3_readUnit cX3_readUnit 5 (some .boolean), .fieldLink RX3 19 "LeftArguments$LawReader" "tape" "LLeftArguments$Tape;", .code yX10_next cX10_next 1 (some .int), .fieldLink RX10 19 "LeftArguments$Tape" "at" "I", .fieldLink RX10 15 "LeftArguments$Tape" "used" "I", .fieldLink RX10 9 "LeftArguments$Tape" "bytes" "[I", .initialized RX10, .instanceMethod yX10_next, .selects RX10 yX10_next yX10_next, .methodLink RX3 48 yX10_next, .code yX3_comparing cX3_comparing 1 (some .int), .initialized RX3, .static yX3_comparing, .methodLink RX3 62 yX3_comparing, .code yX10_step cX10_step 1 none, .instanceMethod yX10_step, .selects RX10 yX10_step yX10_step, .methodLink RX3 77 yX10_step, .code yX3_readSum cX3_readSum 4 (some .boolean), .code yX3_readTerm cX3_readTerm 4 (some .boolean), .code yX3_readAtom cX3_readAtom 4 (some .boolean), .code yX10_isDigit cX10_isDigit 1 (some .boolean), .static yX10_isDigit, .methodLink RX3 92 yX10_isDigit, .code yX3_write cX3_write 3 none, .fieldLink RX3 15 "LeftArguments$LawReader" "used" "I", .fieldLink RX3 11 "LeftArguments$LawReader" "code" "[I", .instanceMethod yX3_write, .selects RX3 yX3_write yX3_write, .methodLink RX3 66 yX3_write, .code yX10_wrongHere cX10_wrongHere 1 (some .boolean), .fieldLink RX10 22 "LeftArguments$Tape" "wrongAt" "I", .instanceMethod yX10_wrongHere, .selects RX10 yX10_wrongHere yX10_wrongHere, .methodLink RX3 83 yX10_wrongHere, .code yJ0_indexOf_0f7a4 cJ0_indexOf_0f7a4 2 (some .int), .code yJ0_indexOf_7cf53 cJ0_indexOf_7cf53 3 (some .int), .code yJ0_isLatin1_aae02 cJ0_isLatin1_aae02 1 (some .boolean), .fieldLink RJ0 38 "java/lang/String" "COMPACT_STRINGS" "Z", .fieldLink RJ0 15 "java/lang/String" "coder" "B", .initialized RJ0, .instanceMethod yJ0_isLatin1_aae02, .selects RJ0 yJ0_isLatin1_aae02 yJ0_isLatin1_aae02, .methodLink RJ0 492 yJ0_isLatin1_aae02, .fieldLink RJ0 9 "java/lang/String" "value" "[B", .code yJ0_length_8abf5 cJ0_length_8abf5 1 (some .int), .code yJ0_coder_7d493 cJ0_coder_7d493 1 (some .byte), .instanceMethod yJ0_coder_7d493, .selects RJ0 yJ0_coder_7d493 yJ0_coder_7d493, .methodLink RJ0 335 yJ0_coder_7d493, .instanceMethod yJ0_length_8abf5, .selects RJ0 yJ0_length_8abf5 yJ0_length_8abf5, .methodLink RJ0 505 yJ0_length_8abf5, .code yJ1_indexOf_4cfef cJ1_indexOf_4cfef 4 (some .int), .code yJ1_canEncode_9a6ad cJ1_canEncode_9a6ad 1 (some .boolean), .initialized RJ1, .static yJ1_canEncode_9a6ad, .methodLink RJ1 88 yJ1_canEncode_9a6ad, .methodLink RJ1 92 Lib.Math.max.name, .static Lib.Math.max.name, .initialized "java/lang/Math", .code Lib.Math.max.name Lib.Math.max.code 2 (some .int), .methodLink RJ1 38 Lib.Math.min.name, .static Lib.Math.min.name, .code Lib.Math.min.name Lib.Math.min.code 2 (some .int), .code yJ1_indexOfChar_4cfef cJ1_indexOfChar_4cfef 6 (some .int), .static yJ1_indexOfChar_4cfef, .methodLink RJ1 95 yJ1_indexOfChar_4cfef, .static yJ1_indexOf_4cfef, .methodLink RJ0 637 yJ1_indexOf_4cfef, .instanceMethod yJ0_indexOf_7cf53, .selects RJ0 yJ0_indexOf_7cf53 yJ0_indexOf_7cf53, .methodLink RJ0 633 yJ0_indexOf_7cf53, .instanceMethod yJ0_indexOf_0f7a4, .selects RJ0 yJ0_indexOf_0f7a4 yJ0_indexOf_0f7a4, .methodLink RX3 103 yJ0_indexOf_0f7a4, .code yX10_takeNumber cX10_takeNumber 3 (some .boolean), .methodLink RX10 37 yX10_next, .methodLink RX10 45 yX10_isDigit, .fieldLink RX10 25 "LeftArguments$Tape" "number" "I", .code yX10_sign cX10_sign 1 (some .int), .instanceMethod yX10_sign, .selects RX10 yX10_sign yX10_sign, .methodLink RX10 49 yX10_sign, .methodLink RX10 41 yX10_wrongHere, .instanceMethod yX10_takeNumber, .selects RX10 yX10_takeNumber yX10_takeNumber, .methodLink RX3 95 yX10_takeNumber, .code yX10_number cX10_number 1 (some .int), .instanceMethod yX10_number, .selects RX10 yX10_number yX10_number, .methodLink RX3 98 yX10_number, .instanceMethod yX3_readAtom, .selects RX3 yX3_readAtom yX3_readAtom, .methodLink RX3 89 yX3_readAtom, .instanceMethod yX3_readTerm, .selects RX3 yX3_readTerm yX3_readTerm, .methodLink RX3 86 yX3_readTerm, .instanceMethod yX3_readSum, .selects RX3 yX3_readSum yX3_readSum, .methodLink RX3 59 yX3_readSum, .code yX10_take cX10_take 2 (some .boolean), .instanceMethod yX10_take, .selects RX10 yX10_take yX10_take, .methodLink RX3 51 yX10_take, .instanceMethod yX3_readUnit, .selects RX3 yX3_readUnit yX3_readUnit, .methodLink RX3 80 yX3_readUnit, .code yX3_readCondition cX3_readCondition 4 (some .boolean), .code yX3_readTruth cX3_readTruth 4 (some .boolean), .instanceMethod yX3_readTruth, .selects RX3 yX3_readTruth yX3_readTruth, .methodLink RX3 74 yX3_readTruth, .instanceMethod yX3_readCondition, .selects RX3 yX3_readCondition yX3_readCondition, .methodLink RX3 70 yX3_readCondition]) [1, 2, 3, 4, 5, 6, 7, 8, 9, 10, 11, 12, 13, 14, 15, 16, 17, 18, 19, 20, 21, 22, 23, 24, 25, 26, 27, 28, 29, 30, 31, 32, 33, 34, 35, 36, 37, 38, 39, 40, 41, 42, 43, 44, 45, 46, 47, 48, 49, 50, 51, 52, 53, 54, 55, 56, 57, 58, 59, 60, 61, 62, 63, 64, 65, 66, 67, 68, 69, 70, 71, 72, 73, 74, 75, 76, 77, 78, 79, 80, 81, 82, 83, 84, 85, 86, 87, 88, 89, 90, 91, 92, 93, 94, 95, 96, 97, 98, 99, 100, 101, 102, 103, 104, 105, 106, 107, 108, 109, 110, 1, 111, 112, 113, 114, 115, 116] rfl (by decide +kernel)) (goodIn_sub (fun _ h => List.mem_cons_of_mem _ (List.mem_append_left _ (List.mem_append_right _ h))) gwX3)) (goodIn_sub (fun _ h => List.mem_cons_of_mem _ (List.mem_append_right _ h)) gwX10))
set_option maxRecDepth 20000 in
theorem g_X3_readCondition_6_1 : GoodIn q_X3_readCondition_6 (wsV RX3 48 RX10 yX10_next q_X10_next) := goodIn_app (goodIn_r _ [11, 9, 10, 8] rfl (by decide +kernel)) (goodIn_ca (goodIn_r (.code yX10_next cX10_next 1 (some .int) :: [.fieldLink RX10 19 "LeftArguments$Tape" "at" "I", .fieldLink RX10 15 "LeftArguments$Tape" "used" "I", .fieldLink RX10 9 "LeftArguments$Tape" "bytes" "[I"]) [4, 5, 6, 7] rfl (by decide +kernel)) (goodIn_sub (fun _ h => List.mem_cons_of_mem _ (List.mem_append_right _ h)) gwX10))
set_option maxRecDepth 20000 in
theorem g_X3_readCondition_6_2 : GoodIn q_X3_readCondition_6 (wsV RX3 77 RX10 yX10_step q_X10_step) := goodIn_app (goodIn_r _ [19, 17, 18, 8] rfl (by decide +kernel)) (goodIn_ca (goodIn_r (.code yX10_step cX10_step 1 none :: [.fieldLink RX10 19 "LeftArguments$Tape" "at" "I"]) [16, 5] rfl (by decide +kernel)) (goodIn_sub (fun _ h => List.mem_cons_of_mem _ (List.mem_append_right _ h)) gwX10))
set_option maxRecDepth 20000 in
theorem g_X3_readCondition_6_4 : GoodIn q_X3_readCondition_6 (wsV RX3 66 RX3 yX3_write q_X3_write) := goodIn_app (goodIn_r _ [31, 29, 30, 13] rfl (by decide +kernel)) (goodIn_ca (goodIn_r (.code yX3_write cX3_write 3 none :: [.fieldLink RX3 15 "LeftArguments$LawReader" "used" "I", .fieldLink RX3 11 "LeftArguments$LawReader" "code" "[I"]) [26, 27, 28] rfl (by decide +kernel)) (goodIn_sub (fun _ h => List.mem_cons_of_mem _ (List.mem_append_left _ (List.mem_append_right _ h))) gwX3))
set_option maxHeartbeats 4000000 in
set_option maxRecDepth 100000 in
theorem k_X3_readCondition_6 (l : Launch) (dC : Nat → ClassId) (dI : Nat → Nat → Nat) (adK : Nat → Nat) (adV : Nat → Nat) (h0 : Nat) (h1 : Nat) (h2 : Nat) (h3 : Nat) (v0 : Int32) (v1 : Int32) (v2 : Int32) (v3 : Int32) (v4 : Int32) (g0 : ClassId) (f5 : Nat → Int32) (g1 : ClassId) (f6 : Nat → Int32) (v7 : Int32) (i_v0 : 0 ≤ v0.toInt ∧ v0.toInt ≤ 256) (i_v1 : 0 ≤ v1.toInt ∧ v1.toInt ≤ 240) (i_v7 : 0 ≤ v7.toInt ∧ v7.toInt ≤ 1) (sz : Nat) : Met l yX3_readCondition q_X3_readCondition_6 ({ frames := 27, cells := 0, slots := 0, locals := 627 }) (va_Pc [.ref h0, .int 0, .int v7] (fun U => U.heap.size = sz ∧ va_P (dC, dI) vwCl (wd_1ad0248d h0 h1 h3 v0 h1 h2 v1 v2 v3 v4 h2 g0 f5 h3 g1 f6) U.heap ∧ va_K (dC, dI) vwCl [(g0, .int), (g1, .int)] U ∧ va_D (fun _ => True) (wd_1ad0248d h0 h1 h3 v0 h1 h2 v1 v2 v3 v4 h2 g0 f5 h3 g1 f6) ∧ vk_R RX3 101 "zaondt" (adK 2) U ∧ va_Z "java/lang/String" "COMPACT_STRINGS" "Z" (.int 1) (va_A (wd_1ad0248d h0 h1 h3 v0 h1 h2 v1 v2 v3 v4 h2 g0 f5 h3 g1 f6) sz) U U.heap ∧ vk_S 3 pv_len3 pv_byt3 adK adV (va_A (wd_1ad0248d h0 h1 h3 v0 h1 h2 v1 v2 v3 v4 h2 g0 f5 h3 g1 f6) sz) U U.heap)) (va_Qi (fun (r : Int32) (_ : Unit) => 0 ≤ r.toInt ∧ r.toInt ≤ 1) (fun (_ : Unit) (t : State) => ∃ (o_h0_2 : Int32) (o_h1_2 : Int32) (o_h1_3 : Int32) (o_h1_4 : Int32) (o_h3 : Nat → Int32), 0 ≤ o_h0_2.toInt ∧ o_h0_2.toInt ≤ 256 ∧ va_P (dC, dI) vwCl (wd_1ad0248d h0 h1 h3 o_h0_2 h1 h2 v1 o_h1_2 o_h1_3 o_h1_4 h2 g0 f5 h3 g1 o_h3) t.heap ∧ va_K (dC, dI) vwCl [] t ∧ va_D (va_A (wd_1ad0248d h0 h1 h3 v0 h1 h2 v1 v2 v3 v4 h2 g0 f5 h3 g1 f6) sz) (wd_1ad0248d h0 h1 h3 o_h0_2 h1 h2 v1 o_h1_2 o_h1_3 o_h1_4 h2 g0 f5 h3 g1 o_h3)) (va_A (wd_1ad0248d h0 h1 h3 v0 h1 h2 v1 v2 v3 v4 h2 g0 f5 h3 g1 f6) sz)) 0 0 (va_A (wd_1ad0248d h0 h1 h3 v0 h1 h2 v1 v2 v3 v4 h2 g0 f5 h3 g1 f6) sz) := by
  refine Met.ofW (cc := cX3_readCondition) (maxL := 4) (ret := (some .boolean)) (by decide) rfl ?_
  intro p e s m args below meth c s₁ B hml hv
  obtain ⟨i_v0a, i_v0b⟩ := i_v0
  obtain ⟨i_v1a, i_v1b⟩ := i_v1
  obtain ⟨i_v7a, i_v7b⟩ := i_v7
  obtain ⟨rfl, hsz, hP, hK, hD0, h_vr_2, h_st_CS, h_st_S⟩ := hv
  have hx := B.exec
  have hb := B.bytes
  have hr := B.returns
  have hts := atoms_spec (ws := q_X3_readCondition_6) B.pre
  have hown : s.vm.findClass RX3 = some m.cls := findClass_of_methodNamed B.named
  have hlocks := B.notSynchronized
  subst hsz
  have hD := hD0.self (sz := s.heap.size)
  generalize hAe : va_A (wd_1ad0248d h0 h1 h3 v0 h1 h2 v1 v2 v3 v4 h2 g0 f5 h3 g1 f6) s.heap.size = A at hD h_st_CS h_st_S ⊢
  have hA : ∀ q : Nat, s.heap.size ≤ q → A q := fun q h => by rw [← hAe]; exact Or.inr h
  have hS : va_S A s.heap s.heap [] := va_S.rf
  generalize hQ : (MQ below _ _ s 0 0 A) = Q
  have hl := lv_entry ([.ref h0, .int 0, .int v7]) (n := 4) (Nat.le_of_ble_eq_true rfl)
  rw [lg_entry_eq]
  generalize (lg_sl ([.ref h0, .int 0, .int v7]) ++ List.replicate (4 - (lg_sl ([.ref h0, .int 0, .int v7])).length) Slot.unset).toArray = ls at hl ⊢
  have hl : lv_has ls 4 [(0, .ref h0), (1, .int 0), (2, .int v7)] := hl
  obtain ⟨H, hH⟩ : ∃ H : Heap, H = s.heap := ⟨_, rfl⟩
  obtain ⟨locs, hlocs⟩ : ∃ y : List Loc, y = [] := ⟨_, rfl⟩
  have hS : va_S A s.heap H locs := by rw [hH, hlocs]; exact va_S.rf
  have hP : va_P (dC, dI) vwCl (wd_1ad0248d h0 h1 h3 v0 h1 h2 v1 v2 v3 v4 h2 g0 f5 h3 g1 f6) H := by rw [hH]; exact hP
  rw [← hH, ← hlocs]
  refine lv_aload_n hx hb dX3_readCondition_0 rfl (lv_at hl 0 rfl) ?_
  refine lv_iload_n hx hb dX3_readCondition_1 rfl (lv_at hl 1 rfl) ?_
  refine lv_iload_n hx hb dX3_readCondition_2 rfl (lv_at hl 2 rfl) ?_
  have hPc := hP.sub (ws' := (wd_1ad0248d h0 h1 h3 v0 h1 h2 v1 v2 v3 v4 h2 g0 f5 h3 g1 f6)) [0, 1, 2, 3] rfl
  have hDc := hD.sub (ws' := (wd_1ad0248d h0 h1 h3 v0 h1 h2 v1 v2 v3 v4 h2 g0 f5 h3 g1 f6)) [0, 1, 2, 3] (by decide) rfl
  have hKc := hK.sub (tys' := [(g0, .int), (g1, .int)]) [0, 1] rfl
  have hFc := va_free (wc := (wd_1ad0248d h0 h1 h3 v0 h1 h2 v1 v2 v3 v4 h2 g0 f5 h3 g1 f6)) hD hS hA [0, 1, 2, 3] rfl
  refine va_calli (va_runV (As := [.int 0, .int v7]) (rest := []) ⟨hx, hb, hml, hown, hts⟩ (k_X3_readTruth_6 l dC dI adK adV h0 h1 h2 h3 v0 v1 v2 v3 v4 g0 f5 g1 f6 v7 ⟨by first | omega | decide, by first | omega | decide⟩ ⟨by first | omega | decide, by first | omega | decide⟩ ⟨by first | omega | decide, by first | omega | decide⟩ H.size) (cwV 2 hts g_X3_readCondition_6_0 rfl rfl rfl (by decide +kernel) ⟨Nat.le_of_ble_eq_true rfl, Nat.le_of_ble_eq_true rfl⟩) ⟨fun a U g mk q => by obtain ⟨q0, q1, qP, qK, qD, n0, n1, n2⟩ := q; exact ⟨q0, q1, qP, va_K.moved (u := U) (U := U.calling g mk a) (Vm.Alike.refl U.vm) qK, qD, vk_R.same rfl n0, va_Z.moved (Vm.Alike.refl _) n1, vk_S.moved (Vm.Alike.refl _) n2⟩, va_recv hKc hPc (ci := 3) (q0 := 0) rfl rfl, fun U hU hW => ⟨rfl, by rw [hU], by rw [hU]; exact hPc, va_K.moved hW.alike hKc, hDc.weaken (fun _ _ _ _ => trivial), vk_R.warm hW h_vr_2, (by rw [hU]; exact (va_Z.moved hW.alike (va_Z.kept h_st_CS hS.2.1)).narrow hFc), (by rw [hU]; exact (vk_S.moved hW.alike (vk_S.kept h_st_S hS.2.1)).narrow hFc)⟩⟩ rfl rfl hl.1 rfl (lv_room (Nat.le_of_ble_eq_true rfl)) dX3_readCondition_3 ⟨Nat.le_of_ble_eq_true rfl, Nat.le_of_ble_eq_true rfl⟩) hS (fun q _ h => hFc q h) hFc (fun ra1 u t H1 locs ht hvm hwra1 hB hz1 hk1 hS => ?_)
  obtain ⟨x2, x3, x4, x5, fn6, oa_x2, ob_x2, hP1, hK1, hD1⟩ := hB
  rw [ht] at hP1
  obtain ⟨hP, hD⟩ := va_join (wr := []) (w1 := (wd_1ad0248d h0 h1 h3 x2 h1 h2 v1 x3 x4 x5 h2 g0 f5 h3 g1 fn6)) hP hD [0, 1, 2, 3] [] rfl rfl (by decide) (by decide) hk1 hFc hP1 hD1
  generalize H1 = H at hP hS ⊢
  have hP : va_P (dC, dI) vwCl (wd_1ad0248d h0 h1 h3 x2 h1 h2 v1 x3 x4 x5 h2 g0 f5 h3 g1 fn6) H := hP
  have hD : va_D A (wd_1ad0248d h0 h1 h3 x2 h1 h2 v1 x3 x4 x5 h2 g0 f5 h3 g1 fn6) := hD
  obtain ⟨wa_ra1, wb_ra1⟩ := hwra1
  have wa_ra1 : 0 ≤ ra1.toInt := wa_ra1
  have wb_ra1 : ra1.toInt ≤ 1 := wb_ra1
  refine lv_if_ne (tgt := 11) hx hb dX3_readCondition_6 (by decide) (fun c7 => ?_) (fun c7 => ?_)
  · skip
    have fc7 : ¬ (ra1.toInt = 0) := fun h9 => c7 (Int32.toInt_inj.mp h9)
    refine lv_iconst (v := 0) hx hb dX3_readCondition_11 (by decide) ?_
    refine lv_istore_n (lv' := [(3, .int 0), (0, .ref h0), (1, .int 0), (2, .int v7)]) hx hb dX3_readCondition_12 rfl hl (by decide) rfl (fun ls hl => ?_)
    have hL98 : ∀ (n9 : Nat), ∀ (x86 : Int32) (x87 : Int32) (x88 : Int32) (x89 : Int32) (x90 : Int32) (fn91 : Nat → Int32) (H : Heap) (locs : List Loc) (ls : Array Slot), 0 ≤ x86.toInt → x86.toInt ≤ 240 → 0 ≤ x87.toInt → x87.toInt ≤ 256 → (240 - x86.toInt).toNat < n9 → va_P (dC, dI) vwCl (wd_1ad0248d h0 h1 h3 x87 h1 h2 v1 x88 x89 x90 h2 g0 f5 h3 g1 fn91) H → va_D A (wd_1ad0248d h0 h1 h3 x87 h1 h2 v1 x88 x89 x90 h2 g0 f5 h3 g1 fn91) → va_S A s.heap H locs → lv_has ls 4 [(3, .int x86), (0, .ref h0), (1, .int 0), (2, .int v7)] → W p l e ({ frames := 27, cells := 0, slots := 0, locals := 627 }) s m ([.ref h0, .int 0, .int v7] : List Value).toArray below meth c H locs 0 0 Q (F0 m 13 ls []) := by
      intro n9
      induction n9 with
      | zero => intro x86 x87 x88 x89 x90 fn91 H locs ls qa_x86 qb_x86 qa_x87 qb_x87 hm9 hP hD hS hl; exact absurd hm9 (Nat.not_lt_zero _)
      | succ n9 ih_hL98 =>
        intro x86 x87 x88 x89 x90 fn91 H locs ls qa_x86 qb_x86 qa_x87 qb_x87 hm9 hP hD hS hl
        refine lv_iload_n hx hb dX3_readCondition_13 rfl (lv_at hl 0 rfl) ?_
        refine lv_sipush (v := 240) hx hb dX3_readCondition_14 (by decide) ?_
        refine lv_icmp_ge (tgt := 63) hx hb dX3_readCondition_17 (by decide) (fun c99 => ?_) (fun c99 => ?_)
        · skip
          have fc99 : 240 ≤ x86.toInt := Int32.le_iff_toInt_le.mp c99
          refine lv_iconst (v := 1) hx hb dX3_readCondition_63 (by decide) ?_
          subst hQ
          have hP9 := hP.sub (ws' := (wd_1ad0248d h0 h1 h3 x87 h1 h2 v1 x88 x89 x90 h2 g0 f5 h3 g1 fn91)) [0, 1, 2, 3] rfl
          have hD9 := hD.sub (ws' := (wd_1ad0248d h0 h1 h3 x87 h1 h2 v1 x88 x89 x90 h2 g0 f5 h3 g1 fn91)) [0, 1, 2, 3] (by decide) rfl
          have hK9 := hK.sub (tys' := []) [] rfl
          exact W.zret (v := 1) hx hb hr rfl (fun t ht hW => ⟨⟨1, (), rfl, ⟨by first | omega | decide, by first | omega | decide⟩, x87, x88, x89, x90, fn91, by first | omega | decide, by first | omega | decide, by rw [ht]; exact hP9, va_K.moved hW.alike hK9, hD9⟩, hS.F ht⟩) hS.2.2 dX3_readCondition_64
        · skip
          have fc99 : ¬ (240 ≤ x86.toInt) := fun h9 => c99 (Int32.le_iff_toInt_le.mpr h9)
          refine lv_aload_n hx hb dX3_readCondition_20 rfl (lv_at hl 1 rfl) ?_
          refine va_get (D := (dC, dI)) (ci := 3) (v := .ref h1) (C := RX3) (T := TX3) (N := 3) hx hb hts (fun _ h => List.mem_cons_of_mem _ (List.mem_append_left _ (List.mem_append_right _ h))) hown hK hP 0 rfl rfl 0 (by decide) (hts (.fieldLink RX3 19 "LeftArguments$LawReader" "tape" "LLeftArguments$Tape;") (List.mem_cons_of_mem _ (List.mem_append_left _ (List.mem_append_left _ (List.mem_of_getElem? (i := 2) rfl))))) (fun _ h9 => h9) rfl dX3_readCondition_21 ?_
          have hPc := hP.sub (ws' := (wd_82cdd16b h1 h2 v1 x88 x89 x90 h2 g0 f5)) [1, 2] rfl
          have hDc := hD.sub (ws' := (wd_82cdd16b h1 h2 v1 x88 x89 x90 h2 g0 f5)) [1, 2] (by decide) rfl
          have hKc := hK.sub (tys' := [(g0, .int)]) [0] rfl
          have hFc := va_free (wc := (wd_82cdd16b h1 h2 v1 x88 x89 x90 h2 g0 f5)) hD hS hA [1, 2] rfl
          refine va_calli (va_runV (As := []) (rest := []) ⟨hx, hb, hml, hown, hts⟩ (k_X10_next l dC dI h1 h2 v1 x88 x89 x90 g0 f5 ⟨by first | omega | decide, by first | omega | decide⟩ H.size) (cwV 0 hts g_X3_readCondition_6_1 rfl rfl rfl (by decide +kernel) ⟨Nat.le_of_ble_eq_true rfl, Nat.le_of_ble_eq_true rfl⟩) ⟨fun a U g mk q => by obtain ⟨q0, q1, qP, qK, qD⟩ := q; exact ⟨q0, q1, qP, va_K.moved (u := U) (U := U.calling g mk a) (Vm.Alike.refl U.vm) qK, qD⟩, va_recv hKc hPc (ci := 10) (q0 := 0) rfl rfl, fun U hU hW => ⟨rfl, by rw [hU], by rw [hU]; exact hPc, va_K.moved hW.alike hKc, hDc.weaken (fun _ _ _ _ => trivial)⟩⟩ rfl rfl hl.1 rfl (lv_room (Nat.le_of_ble_eq_true rfl)) dX3_readCondition_24 ⟨Nat.le_of_ble_eq_true rfl, Nat.le_of_ble_eq_true rfl⟩) hS (fun q _ h => hFc q h) hFc (fun ra100 u t H1 locs ht hvm hwra100 hB hz1 hk1 hS => ?_)
          obtain ⟨x101, hP1, hK1, hD1⟩ := hB
          rw [ht] at hP1
          obtain ⟨hP, hD⟩ := va_join (wr := (wd_b958b9da h0 h1 h3 x87 h3 g1 fn91)) (w1 := (wd_82cdd16b h1 h2 v1 x101 x89 x90 h2 g0 f5)) hP hD [1, 2] [0, 3] rfl rfl (by decide) (by decide) hk1 hFc hP1 hD1
          generalize H1 = H at hP hS ⊢
          have hP := hP.sub (ws' := (wd_1ad0248d h0 h1 h3 x87 h1 h2 v1 x101 x89 x90 h2 g0 f5 h3 g1 fn91)) [0, 2, 3, 1] rfl
          have hD := hD.sub (ws' := (wd_1ad0248d h0 h1 h3 x87 h1 h2 v1 x101 x89 x90 h2 g0 f5 h3 g1 fn91)) [0, 2, 3, 1] (by decide) rfl
          have hP : va_P (dC, dI) vwCl (wd_1ad0248d h0 h1 h3 x87 h1 h2 v1 x101 x89 x90 h2 g0 f5 h3 g1 fn91) H := hP
          have hD : va_D A (wd_1ad0248d h0 h1 h3 x87 h1 h2 v1 x101 x89 x90 h2 g0 f5 h3 g1 fn91) := hD
          refine lv_bipush (v := 124) hx hb dX3_readCondition_27 (by decide) ?_
          refine lv_icmp_ne (tgt := 63) hx hb dX3_readCondition_29 (by decide) (fun c102 => ?_) (fun c102 => ?_)
          · skip
            have fc102 : ¬ (ra100.toInt = 124) := fun h9 => c102 (Int32.toInt_inj.mp h9)
            refine lv_iconst (v := 1) hx hb dX3_readCondition_63 (by decide) ?_
            subst hQ
            have hP9 := hP.sub (ws' := (wd_1ad0248d h0 h1 h3 x87 h1 h2 v1 x101 x89 x90 h2 g0 f5 h3 g1 fn91)) [0, 1, 2, 3] rfl
            have hD9 := hD.sub (ws' := (wd_1ad0248d h0 h1 h3 x87 h1 h2 v1 x101 x89 x90 h2 g0 f5 h3 g1 fn91)) [0, 1, 2, 3] (by decide) rfl
            have hK9 := hK.sub (tys' := []) [] rfl
            exact W.zret (v := 1) hx hb hr rfl (fun t ht hW => ⟨⟨1, (), rfl, ⟨by first | omega | decide, by first | omega | decide⟩, x87, x101, x89, x90, fn91, by first | omega | decide, by first | omega | decide, by rw [ht]; exact hP9, va_K.moved hW.alike hK9, hD9⟩, hS.F ht⟩) hS.2.2 dX3_readCondition_64
          · skip
            have fc102 : ra100.toInt = 124 := congrArg Int32.toInt c102
            refine lv_aload_n hx hb dX3_readCondition_32 rfl (lv_at hl 1 rfl) ?_
            refine va_get (D := (dC, dI)) (ci := 3) (v := .ref h1) (C := RX3) (T := TX3) (N := 3) hx hb hts (fun _ h => List.mem_cons_of_mem _ (List.mem_append_left _ (List.mem_append_right _ h))) hown hK hP 0 rfl rfl 0 (by decide) (hts (.fieldLink RX3 19 "LeftArguments$LawReader" "tape" "LLeftArguments$Tape;") (List.mem_cons_of_mem _ (List.mem_append_left _ (List.mem_append_left _ (List.mem_of_getElem? (i := 2) rfl))))) (fun _ h9 => h9) rfl dX3_readCondition_33 ?_
            have hPc := hP.sub (ws' := (wd_09b0abee h1 h2 v1 x101 x89 x90)) [1] rfl
            have hDc := hD.sub (ws' := (wd_09b0abee h1 h2 v1 x101 x89 x90)) [1] (by decide) rfl
            have hKc := hK.sub (tys' := []) [] rfl
            have hFc := va_free (wc := (wd_09b0abee h1 h2 v1 x101 x89 x90)) hD hS hA [1] rfl
            refine va_callv (va_runV (As := []) (rest := []) ⟨hx, hb, hml, hown, hts⟩ (k_X10_step l dC dI h1 h2 v1 x101 x89 x90 ⟨by first | omega | decide, by first | omega | decide⟩ H.size) (cwV 0 hts g_X3_readCondition_6_2 rfl rfl rfl (by decide +kernel) ⟨Nat.le_of_ble_eq_true rfl, Nat.le_of_ble_eq_true rfl⟩) ⟨fun a U g mk q => by obtain ⟨q0, q1, qP, qK, qD⟩ := q; exact ⟨q0, q1, qP, va_K.moved (u := U) (U := U.calling g mk a) (Vm.Alike.refl U.vm) qK, qD⟩, va_recv hKc hPc (ci := 10) (q0 := 0) rfl rfl, fun U hU hW => ⟨rfl, by rw [hU], by rw [hU]; exact hPc, va_K.moved hW.alike hKc, hDc.weaken (fun _ _ _ _ => trivial)⟩⟩ rfl rfl hl.1 rfl (lv_room (Nat.le_of_ble_eq_true rfl)) dX3_readCondition_36 ⟨Nat.le_of_ble_eq_true rfl, Nat.le_of_ble_eq_true rfl⟩) hS (fun q _ h => hFc q h) hFc (fun u t H1 locs ht hvm hwra103 hB hz1 hk1 hS => ?_)
            obtain ⟨x104, hP1, hK1, hD1⟩ := hB
            rw [ht] at hP1
            obtain ⟨hP, hD⟩ := va_join (wr := (wd_6b0d8e05 h0 h1 h3 x87 h2 g0 f5 h3 g1 fn91)) (w1 := (wd_09b0abee h1 h2 v1 x104 x89 x90)) hP hD [1] [0, 2, 3] rfl rfl (by decide) (by decide) hk1 hFc hP1 hD1
            generalize H1 = H at hP hS ⊢
            have hP := hP.sub (ws' := (wd_1ad0248d h0 h1 h3 x87 h1 h2 v1 x104 x89 x90 h2 g0 f5 h3 g1 fn91)) [0, 3, 1, 2] rfl
            have hD := hD.sub (ws' := (wd_1ad0248d h0 h1 h3 x87 h1 h2 v1 x104 x89 x90 h2 g0 f5 h3 g1 fn91)) [0, 3, 1, 2] (by decide) rfl
            have hP : va_P (dC, dI) vwCl (wd_1ad0248d h0 h1 h3 x87 h1 h2 v1 x104 x89 x90 h2 g0 f5 h3 g1 fn91) H := hP
            have hD : va_D A (wd_1ad0248d h0 h1 h3 x87 h1 h2 v1 x104 x89 x90 h2 g0 f5 h3 g1 fn91) := hD
            refine lv_aload_n hx hb dX3_readCondition_39 rfl (lv_at hl 1 rfl) ?_
            refine lv_iload_n hx hb dX3_readCondition_40 rfl (lv_at hl 2 rfl) ?_
            refine lv_iconst (v := 0) hx hb dX3_readCondition_41 (by decide) ?_
            have hPc := hP.sub (ws' := (wd_1ad0248d h0 h1 h3 x87 h1 h2 v1 x104 x89 x90 h2 g0 f5 h3 g1 fn91)) [0, 1, 2, 3] rfl
            have hDc := hD.sub (ws' := (wd_1ad0248d h0 h1 h3 x87 h1 h2 v1 x104 x89 x90 h2 g0 f5 h3 g1 fn91)) [0, 1, 2, 3] (by decide) rfl
            have hKc := hK.sub (tys' := [(g0, .int), (g1, .int)]) [0, 1] rfl
            have hFc := va_free (wc := (wd_1ad0248d h0 h1 h3 x87 h1 h2 v1 x104 x89 x90 h2 g0 f5 h3 g1 fn91)) hD hS hA [0, 1, 2, 3] rfl
            refine va_calli (va_runV (As := [.int 0, .int 0]) (rest := []) ⟨hx, hb, hml, hown, hts⟩ (k_X3_readTruth_6 l dC dI adK adV h0 h1 h2 h3 x87 v1 x104 x89 x90 g0 f5 g1 fn91 0 ⟨by first | omega | decide, by first | omega | decide⟩ ⟨by first | omega | decide, by first | omega | decide⟩ ⟨by first | omega | decide, by first | omega | decide⟩ H.size) (cwV 2 hts g_X3_readCondition_6_0 rfl rfl rfl (by decide +kernel) ⟨Nat.le_of_ble_eq_true rfl, Nat.le_of_ble_eq_true rfl⟩) ⟨fun a U g mk q => by obtain ⟨q0, q1, qP, qK, qD, n0, n1, n2⟩ := q; exact ⟨q0, q1, qP, va_K.moved (u := U) (U := U.calling g mk a) (Vm.Alike.refl U.vm) qK, qD, vk_R.same rfl n0, va_Z.moved (Vm.Alike.refl _) n1, vk_S.moved (Vm.Alike.refl _) n2⟩, va_recv hKc hPc (ci := 3) (q0 := 0) rfl rfl, fun U hU hW => ⟨rfl, by rw [hU], by rw [hU]; exact hPc, va_K.moved hW.alike hKc, hDc.weaken (fun _ _ _ _ => trivial), vk_R.warm hW h_vr_2, (by rw [hU]; exact (va_Z.moved hW.alike (va_Z.kept h_st_CS hS.2.1)).narrow hFc), (by rw [hU]; exact (vk_S.moved hW.alike (vk_S.kept h_st_S hS.2.1)).narrow hFc)⟩⟩ rfl rfl hl.1 rfl (lv_room (Nat.le_of_ble_eq_true rfl)) dX3_readCondition_42 ⟨Nat.le_of_ble_eq_true rfl, Nat.le_of_ble_eq_true rfl⟩) hS (fun q _ h => hFc q h) hFc (fun ra105 u t H1 locs ht hvm hwra105 hB hz1 hk1 hS => ?_)
            obtain ⟨x106, x107, x108, x109, fn110, oa_x106, ob_x106, hP1, hK1, hD1⟩ := hB
            rw [ht] at hP1
            obtain ⟨hP, hD⟩ := va_join (wr := []) (w1 := (wd_1ad0248d h0 h1 h3 x106 h1 h2 v1 x107 x108 x109 h2 g0 f5 h3 g1 fn110)) hP hD [0, 1, 2, 3] [] rfl rfl (by decide) (by decide) hk1 hFc hP1 hD1
            generalize H1 = H at hP hS ⊢
            have hP : va_P (dC, dI) vwCl (wd_1ad0248d h0 h1 h3 x106 h1 h2 v1 x107 x108 x109 h2 g0 f5 h3 g1 fn110) H := hP
            have hD : va_D A (wd_1ad0248d h0 h1 h3 x106 h1 h2 v1 x107 x108 x109 h2 g0 f5 h3 g1 fn110) := hD
            obtain ⟨wa_ra105, wb_ra105⟩ := hwra105
            have wa_ra105 : 0 ≤ ra105.toInt := wa_ra105
            have wb_ra105 : ra105.toInt ≤ 1 := wb_ra105
            refine lv_if_ne (tgt := 50) hx hb dX3_readCondition_45 (by decide) (fun c111 => ?_) (fun c111 => ?_)
            · skip
              have fc111 : ¬ (ra105.toInt = 0) := fun h9 => c111 (Int32.toInt_inj.mp h9)
              refine lv_aload_n hx hb dX3_readCondition_50 rfl (lv_at hl 1 rfl) ?_
              refine lv_bipush (v := 11) hx hb dX3_readCondition_51 (by decide) ?_
              refine lv_iconst (v := 0) hx hb dX3_readCondition_53 (by decide) ?_
              have hPc := hP.sub (ws' := (wd_b958b9da h0 h1 h3 x106 h3 g1 fn110)) [0, 3] rfl
              have hDc := hD.sub (ws' := (wd_b958b9da h0 h1 h3 x106 h3 g1 fn110)) [0, 3] (by decide) rfl
              have hKc := hK.sub (tys' := [(g1, .int)]) [1] rfl
              have hFc := va_free (wc := (wd_b958b9da h0 h1 h3 x106 h3 g1 fn110)) hD hS hA [0, 3] rfl
              refine va_callv (va_runV (As := [.int 11, .int 0]) (rest := []) ⟨hx, hb, hml, hown, hts⟩ (k_X3_write l dC dI h0 h3 h1 x106 g1 fn110 11 0 ⟨by first | omega | decide, by first | omega | decide⟩ H.size) (cwV 2 hts g_X3_readCondition_6_4 rfl rfl rfl (by decide +kernel) ⟨Nat.le_of_ble_eq_true rfl, Nat.le_of_ble_eq_true rfl⟩) ⟨fun a U g mk q => by obtain ⟨q0, q1, qP, qK, qD⟩ := q; exact ⟨q0, q1, qP, va_K.moved (u := U) (U := U.calling g mk a) (Vm.Alike.refl U.vm) qK, qD⟩, va_recv hKc hPc (ci := 3) (q0 := 0) rfl rfl, fun U hU hW => ⟨rfl, by rw [hU], by rw [hU]; exact hPc, va_K.moved hW.alike hKc, hDc.weaken (fun _ _ _ _ => trivial)⟩⟩ rfl rfl hl.1 rfl (lv_room (Nat.le_of_ble_eq_true rfl)) dX3_readCondition_54 ⟨Nat.le_of_ble_eq_true rfl, Nat.le_of_ble_eq_true rfl⟩) hS (fun q _ h => hFc q h) hFc (fun u t H1 locs ht hvm hwra112 hB hz1 hk1 hS => ?_)
              obtain ⟨x113, fn114, oa_x113, ob_x113, hP1, hK1, hD1⟩ := hB
              rw [ht] at hP1
              obtain ⟨hP, hD⟩ := va_join (wr := (wd_82cdd16b h1 h2 v1 x107 x108 x109 h2 g0 f5)) (w1 := (wd_b958b9da h0 h1 h3 x113 h3 g1 fn114)) hP hD [0, 3] [1, 2] rfl rfl (by decide) (by decide) hk1 hFc hP1 hD1
              generalize H1 = H at hP hS ⊢
              have hP := hP.sub (ws' := (wd_1ad0248d h0 h1 h3 x113 h1 h2 v1 x107 x108 x109 h2 g0 f5 h3 g1 fn114)) [2, 0, 1, 3] rfl
              have hD := hD.sub (ws' := (wd_1ad0248d h0 h1 h3 x113 h1 h2 v1 x107 x108 x109 h2 g0 f5 h3 g1 fn114)) [2, 0, 1, 3] (by decide) rfl
              have hP : va_P (dC, dI) vwCl (wd_1ad0248d h0 h1 h3 x113 h1 h2 v1 x107 x108 x109 h2 g0 f5 h3 g1 fn114) H := hP
              have hD : va_D A (wd_1ad0248d h0 h1 h3 x113 h1 h2 v1 x107 x108 x109 h2 g0 f5 h3 g1 fn114) := hD
              obtain ⟨t115, et115⟩ : ∃ y : Int32, y = x86 + 1 := ⟨_, rfl⟩
              have gt115 : t115.toInt = x86.toInt + (1) := pv_add (a := x86.toInt) (b := (1)) et115 rfl (by decide) (by omega) (by omega)
              refine lv_iinc (v := t115) (lv' := [(3, .int t115), (0, .ref h0), (1, .int 0), (2, .int v7)]) hx hb dX3_readCondition_57 hl (k := 0) rfl (by rw [et115]; rfl) (by decide) rfl (fun ls hl => ?_)
              refine lv_goto (tgt := 13) hx hb dX3_readCondition_60 (by decide) ?_
              exact ih_hL98 t115 x113 x107 x108 x109 fn114 H locs ls (by first | omega | decide) (by first | omega | decide) (by first | omega | decide) (by first | omega | decide) (by first | omega | (simp only [Int.toNat] at *; omega)) hP hD hS (lv_sub hl [0, 1, 2, 3] rfl)
            · skip
              have fc111 : ra105.toInt = 0 := congrArg Int32.toInt c111
              refine lv_iconst (v := 0) hx hb dX3_readCondition_48 (by decide) ?_
              subst hQ
              have hP9 := hP.sub (ws' := (wd_1ad0248d h0 h1 h3 x106 h1 h2 v1 x107 x108 x109 h2 g0 f5 h3 g1 fn110)) [0, 1, 2, 3] rfl
              have hD9 := hD.sub (ws' := (wd_1ad0248d h0 h1 h3 x106 h1 h2 v1 x107 x108 x109 h2 g0 f5 h3 g1 fn110)) [0, 1, 2, 3] (by decide) rfl
              have hK9 := hK.sub (tys' := []) [] rfl
              exact W.zret (v := 0) hx hb hr rfl (fun t ht hW => ⟨⟨0, (), rfl, ⟨by first | omega | decide, by first | omega | decide⟩, x106, x107, x108, x109, fn110, by first | omega | decide, by first | omega | decide, by rw [ht]; exact hP9, va_K.moved hW.alike hK9, hD9⟩, hS.F ht⟩) hS.2.2 dX3_readCondition_49
    exact hL98 _ 0 x2 x3 x4 x5 fn6 H locs ls (by first | omega | decide) (by first | omega | decide) (by first | omega | decide) (by first | omega | decide) (Nat.lt_succ_self _) hP hD hS (lv_sub hl [0, 1, 2, 3] rfl)
  · skip
    have fc7 : ra1.toInt = 0 := congrArg Int32.toInt c7
    refine lv_iconst (v := 0) hx hb dX3_readCondition_9 (by decide) ?_
    subst hQ
    have hP9 := hP.sub (ws' := (wd_1ad0248d h0 h1 h3 x2 h1 h2 v1 x3 x4 x5 h2 g0 f5 h3 g1 fn6)) [0, 1, 2, 3] rfl
    have hD9 := hD.sub (ws' := (wd_1ad0248d h0 h1 h3 x2 h1 h2 v1 x3 x4 x5 h2 g0 f5 h3 g1 fn6)) [0, 1, 2, 3] (by decide) rfl
    have hK9 := hK.sub (tys' := []) [] rfl
    exact W.zret (v := 0) hx hb hr rfl (fun t ht hW => ⟨⟨0, (), rfl, ⟨by first | omega | decide, by first | omega | decide⟩, x2, x3, x4, x5, fn6, by first | omega | decide, by first | omega | decide, by rw [ht]; exact hP9, va_K.moved hW.alike hK9, hD9⟩, hS.F ht⟩) hS.2.2 dX3_readCondition_10
def q_X3_readClause : List Cond := .code yX3_readClause cX3_readClause 4 (some .boolean) :: (([.fieldLink RX3 19 "LeftArguments$LawReader" "tape" "LLeftArguments$Tape;", .code yX10_take cX10_take 2 (some .boolean), .code yX10_next cX10_next 1 (some .int), .fieldLink RX10 19 "LeftArguments$Tape" "at" "I", .fieldLink RX10 15 "LeftArguments$Tape" "used" "I", .fieldLink RX10 9 "LeftArguments$Tape" "bytes" "[I", .initialized RX10, .instanceMethod yX10_next, .selects RX10 yX10_next yX10_next, .methodLink RX10 37 yX10_next, .code yX10_wrongHere cX10_wrongHere 1 (some .boolean), .fieldLink RX10 22 "LeftArguments$Tape" "wrongAt" "I", .instanceMethod yX10_wrongHere, .selects RX10 yX10_wrongHere yX10_wrongHere, .methodLink RX10 41 yX10_wrongHere, .instanceMethod yX10_take, .selects RX10 yX10_take yX10_take, .methodLink RX3 51 yX10_take, .methodLink RX3 48 yX10_next, .code yX3_readCondition cX3_readCondition 4 (some .boolean), .code yX3_readTruth cX3_readTruth 4 (some .boolean), .code yX3_readUnit cX3_readUnit 5 (some .boolean), .code yX3_comparing cX3_comparing 1 (some .int), .initialized RX3, .static yX3_comparing, .methodLink RX3 62 yX3_comparing, .code yX10_step cX10_step 1 none, .instanceMethod yX10_step, .selects RX10 yX10_step yX10_step, .methodLink RX3 77 yX10_step, .code yX3_readSum cX3_readSum 4 (some .boolean), .code yX3_readTerm cX3_readTerm 4 (some .boolean), .code yX3_readAtom cX3_readAtom 4 (some .boolean), .code yX10_isDigit cX10_isDigit 1 (some .boolean), .static yX10_isDigit, .methodLink RX3 92 yX10_isDigit, .code yX3_write cX3_write 3 none, .fieldLink RX3 15 "LeftArguments$LawReader" "used" "I", .fieldLink RX3 11 "LeftArguments$LawReader" "code" "[I", .instanceMethod yX3_write, .selects RX3 yX3_write yX3_write, .methodLink RX3 66 yX3_write, .methodLink RX3 83 yX10_wrongHere, .code yJ0_indexOf_0f7a4 cJ0_indexOf_0f7a4 2 (some .int), .code yJ0_indexOf_7cf53 cJ0_indexOf_7cf53 3 (some .int), .code yJ0_isLatin1_aae02 cJ0_isLatin1_aae02 1 (some .boolean), .fieldLink RJ0 38 "java/lang/String" "COMPACT_STRINGS" "Z", .fieldLink RJ0 15 "java/lang/String" "coder" "B", .initialized RJ0, .instanceMethod yJ0_isLatin1_aae02, .selects RJ0 yJ0_isLatin1_aae02 yJ0_isLatin1_aae02, .methodLink RJ0 492 yJ0_isLatin1_aae02, .fieldLink RJ0 9 "java/lang/String" "value" "[B", .code yJ0_length_8abf5 cJ0_length_8abf5 1 (some .int), .code yJ0_coder_7d493 cJ0_coder_7d493 1 (some .byte), .instanceMethod yJ0_coder_7d493, .selects RJ0 yJ0_coder_7d493 yJ0_coder_7d493, .methodLink RJ0 335 yJ0_coder_7d493, .instanceMethod yJ0_length_8abf5, .selects RJ0 yJ0_length_8abf5 yJ0_length_8abf5, .methodLink RJ0 505 yJ0_length_8abf5, .code yJ1_indexOf_4cfef cJ1_indexOf_4cfef 4 (some .int), .code yJ1_canEncode_9a6ad cJ1_canEncode_9a6ad 1 (some .boolean), .initialized RJ1, .static yJ1_canEncode_9a6ad, .methodLink RJ1 88 yJ1_canEncode_9a6ad, .methodLink RJ1 92 Lib.Math.max.name, .static Lib.Math.max.name, .initialized "java/lang/Math", .code Lib.Math.max.name Lib.Math.max.code 2 (some .int), .methodLink RJ1 38 Lib.Math.min.name, .static Lib.Math.min.name, .code Lib.Math.min.name Lib.Math.min.code 2 (some .int), .code yJ1_indexOfChar_4cfef cJ1_indexOfChar_4cfef 6 (some .int), .static yJ1_indexOfChar_4cfef, .methodLink RJ1 95 yJ1_indexOfChar_4cfef, .static yJ1_indexOf_4cfef, .methodLink RJ0 637 yJ1_indexOf_4cfef, .instanceMethod yJ0_indexOf_7cf53, .selects RJ0 yJ0_indexOf_7cf53 yJ0_indexOf_7cf53, .methodLink RJ0 633 yJ0_indexOf_7cf53, .instanceMethod yJ0_indexOf_0f7a4, .selects RJ0 yJ0_indexOf_0f7a4 yJ0_indexOf_0f7a4, .methodLink RX3 103 yJ0_indexOf_0f7a4, .code yX10_takeNumber cX10_takeNumber 3 (some .boolean), .methodLink RX10 45 yX10_isDigit, .fieldLink RX10 25 "LeftArguments$Tape" "number" "I", .code yX10_sign cX10_sign 1 (some .int), .instanceMethod yX10_sign, .selects RX10 yX10_sign yX10_sign, .methodLink RX10 49 yX10_sign, .instanceMethod yX10_takeNumber, .selects RX10 yX10_takeNumber yX10_takeNumber, .methodLink RX3 95 yX10_takeNumber, .code yX10_number cX10_number 1 (some .int), .instanceMethod yX10_number, .selects RX10 yX10_number yX10_number, .methodLink RX3 98 yX10_number, .instanceMethod yX3_readAtom, .selects RX3 yX3_readAtom yX3_readAtom, .methodLink RX3 89 yX3_readAtom, .instanceMethod yX3_readTerm, .selects RX3 yX3_readTerm yX3_readTerm, .methodLink RX3 86 yX3_readTerm, .instanceMethod yX3_readSum, .selects RX3 yX3_readSum yX3_readSum, .methodLink RX3 59 yX3_readSum, .instanceMethod yX3_readUnit, .selects RX3 yX3_readUnit yX3_readUnit, .methodLink RX3 80 yX3_readUnit, .instanceMethod yX3_readTruth, .selects RX3 yX3_readTruth yX3_readTruth, .methodLink RX3 74 yX3_readTruth, .instanceMethod yX3_readCondition, .selects RX3 yX3_readCondition yX3_readCondition, .methodLink RX3 70 yX3_readCondition] : List Cond) ++ wsX30 ++ wsX100)
set_option maxRecDepth 20000 in
theorem g_X3_readClause_0 : GoodIn q_X3_readClause (wsV RX3 51 RX10 yX10_take q_X10_take) := goodIn_app (goodIn_r _ [18, 16, 17, 7] rfl (by decide +kernel)) (goodIn_ca (goodIn_r (.code yX10_take cX10_take 2 (some .boolean) :: [.code yX10_next cX10_next 1 (some .int), .fieldLink RX10 19 "LeftArguments$Tape" "at" "I", .fieldLink RX10 15 "LeftArguments$Tape" "used" "I", .fieldLink RX10 9 "LeftArguments$Tape" "bytes" "[I", .initialized RX10, .instanceMethod yX10_next, .selects RX10 yX10_next yX10_next, .methodLink RX10 37 yX10_next, .code yX10_wrongHere cX10_wrongHere 1 (some .boolean), .fieldLink RX10 22 "LeftArguments$Tape" "wrongAt" "I", .instanceMethod yX10_wrongHere, .selects RX10 yX10_wrongHere yX10_wrongHere, .methodLink RX10 41 yX10_wrongHere]) [2, 3, 4, 5, 6, 7, 8, 9, 10, 11, 12, 13, 14, 15] rfl (by decide +kernel)) (goodIn_sub (fun _ h => List.mem_cons_of_mem _ (List.mem_append_right _ h)) gwX10))
set_option maxRecDepth 20000 in
theorem g_X3_readClause_2 : GoodIn q_X3_readClause (wsV RX3 48 RX10 yX10_next q_X10_next) := goodIn_app (goodIn_r _ [19, 8, 9, 7] rfl (by decide +kernel)) (goodIn_ca (goodIn_r (.code yX10_next cX10_next 1 (some .int) :: [.fieldLink RX10 19 "LeftArguments$Tape" "at" "I", .fieldLink RX10 15 "LeftArguments$Tape" "used" "I", .fieldLink RX10 9 "LeftArguments$Tape" "bytes" "[I"]) [3, 4, 5, 6] rfl (by decide +kernel)) (goodIn_sub (fun _ h => List.mem_cons_of_mem _ (List.mem_append_right _ h)) gwX10))
set_option maxRecDepth 20000 in
theorem g_X3_readClause_3 : GoodIn q_X3_readClause (wsV RX3 70 RX3 yX3_readCondition q_X3_readCondition_6) := goodIn_app (goodIn_r _ [116, 114, 115, 24] rfl (by decide +kernel)) (goodIn_ca (goodIn_ca (goodIn_r (.code yX3_readCondition cX3_readCondition 4 (some .boolean) :: [.code yX3_readTruth cX3_readTruth 4 (some .boolean), .code yX3_readUnit cX3_readUnit 5 (some .boolean), .fieldLink RX3 19 "LeftArguments$LawReader" "tape" "LLeftArguments$Tape;", .code yX10_next cX10_next 1 (some .int), .fieldLink RX10 19 "LeftArguments$Tape" "at" "I", .fieldLink RX10 15 "LeftArguments$Tape" "used" "I", .fieldLink RX10 9 "LeftArguments$Tape" "bytes" "[I", .initialized RX10, .instanceMethod yX10_next, .selects RX10 yX10_next yX10_next, .methodLink RX3 48 yX10_next, .code yX3_comparing cX3_comparing 1 (some .int), .initialized RX3, .static yX3_comparing, .methodLink RX3 62 yX3_comparing, .code yX10_step cX10_step 1 none, .instanceMethod yX10_step, .selects RX10 yX10_step yX10_step, .methodLink RX3 77 yX10_step, .code yX3_readSum cX3_readSum 4 (some .boolean), .code yX3_readTerm cX3_readTerm 4 (some .boolean), .code yX3_readAtom cX3_readAtom 4 (some .boolean), .code yX10_isDigit cX10_isDigit 1 (some .boolean), .static yX10_isDigit, .methodLink RX3 92 yX10_isDigit, .code yX3_write cX3_write 3 none, .fieldLink RX3 15 "LeftArguments$LawReader" "used" "I", .fieldLink RX3 11 "LeftArguments$LawReader" "code" "[I", .instanceMethod yX3_write, .selects RX3 yX3_write yX3_write, .methodLink RX3 66 yX3_write, .code yX10_wrongHere cX10_wrongHere 1 (some .boolean), .fieldLink RX10 22 "LeftArguments$Tape" "wrongAt" "I", .instanceMethod yX10_wrongHere, .selects RX10 yX10_wrongHere yX10_wrongHere, .methodLink RX3 83 yX10_wrongHere, .code yJ0_indexOf_0f7a4 cJ0_indexOf_0f7a4 2 (some .int), .code yJ0_indexOf_7cf53 cJ0_indexOf_7cf53 3 (some .int), .code yJ0_isLatin1_aae02 cJ0_isLatin1_aae02 1 (some .boolean), .fieldLink RJ0 38 "java/lang/String" "COMPACT_STRINGS" "Z", .fieldLink RJ0 15 "java/lang/String" "coder" "B", .initialized RJ0, .instanceMethod yJ0_isLatin1_aae02, .selects RJ0 yJ0_isLatin1_aae02 yJ0_isLatin1_aae02, .methodLink RJ0 492 yJ0_isLatin1_aae02, .fieldLink RJ0 9 "java/lang/String" "value" "[B", .code yJ0_length_8abf5 cJ0_length_8abf5 1 (some .int), .code yJ0_coder_7d493 cJ0_coder_7d493 1 (some .byte), .instanceMethod yJ0_coder_7d493, .selects RJ0 yJ0_coder_7d493 yJ0_coder_7d493, .methodLink RJ0 335 yJ0_coder_7d493, .instanceMethod yJ0_length_8abf5, .selects RJ0 yJ0_length_8abf5 yJ0_length_8abf5, .methodLink RJ0 505 yJ0_length_8abf5, .code yJ1_indexOf_4cfef cJ1_indexOf_4cfef 4 (some .int), .code yJ1_canEncode_9a6ad cJ1_canEncode_9a6ad 1 (some .boolean), .initialized RJ1, .static yJ1_canEncode_9a6ad, .methodLink RJ1 88 yJ1_canEncode_9a6ad, .methodLink RJ1 92 Lib.Math.max.name, .static Lib.Math.max.name, .initialized "java/lang/Math", .code Lib.Math.max.name Lib.Math.max.code 2 (some .int), .methodLink RJ1 38 Lib.Math.min.name, .static Lib.Math.min.name, .code Lib.Math.min.name Lib.Math.min.code 2 (some .int), .code yJ1_indexOfChar_4cfef cJ1_indexOfChar_4cfef 6 (some .int), .static yJ1_indexOfChar_4cfef, .methodLink RJ1 95 yJ1_indexOfChar_4cfef, .static yJ1_indexOf_4cfef, .methodLink RJ0 637 yJ1_indexOf_4cfef, .instanceMethod yJ0_indexOf_7cf53, .selects RJ0 yJ0_indexOf_7cf53 yJ0_indexOf_7cf53, .methodLink RJ0 633 yJ0_indexOf_7cf53, .instanceMethod yJ0_indexOf_0f7a4, .selects RJ0 yJ0_indexOf_0f7a4 yJ0_indexOf_0f7a4, .methodLink RX3 103 yJ0_indexOf_0f7a4, .code yX10_takeNumber cX10_takeNumber 3 (some .boolean), .methodLink RX10 37 yX10_next, .methodLink RX10 45 yX10_isDigit, .fieldLink RX10 25 "LeftArguments$Tape" "number" "I", .code yX10_sign cX10_sign 1 (some .int), .instanceMethod yX10_sign, .selects RX10 yX10_sign yX10_sign, .methodLink RX10 49 yX10_sign, .methodLink RX10 41 yX10_wrongHere, .instanceMethod yX10_takeNumber, .selects RX10 yX10_takeNumber yX10_takeNumber, .methodLink RX3 95 yX10_takeNumber, .code yX10_number cX10_number 1 (some .int), .instanceMethod yX10_number, .selects RX10 yX10_number yX10_number, .methodLink RX3 98 yX10_number, .instanceMethod yX3_readAtom, .selects RX3 yX3_readAtom yX3_readAtom, .methodLink RX3 89 yX3_readAtom, .instanceMethod yX3_readTerm, .selects RX3 yX3_readTerm yX3_readTerm, .methodLink RX3 86 yX3_readTerm, .instanceMethod yX3_readSum, .selects RX3 yX3_readSum yX3_readSum, .methodLink RX3 59 yX3_readSum, .code yX10_take cX10_take 2 (some .boolean), .instanceMethod yX10_take, .selects RX10 yX10_take yX10_take, .methodLink RX3 51 yX10_take, .instanceMethod yX3_readUnit, .selects RX3 yX3_readUnit yX3_readUnit, .methodLink RX3 80 yX3_readUnit, .code yX3_readCondition cX3_readCondition 4 (some .boolean), .instanceMethod yX3_readTruth, .selects RX3 yX3_readTruth yX3_readTruth, .methodLink RX3 74 yX3_readTruth, .instanceMethod yX3_readCondition, .selects RX3 yX3_readCondition yX3_readCondition, .methodLink RX3 70 yX3_readCondition]) [20, 21, 22, 1, 3, 4, 5, 6, 7, 8, 9, 19, 23, 24, 25, 26, 27, 28, 29, 30, 31, 32, 33, 34, 35, 36, 37, 38, 39, 40, 41, 42, 11, 12, 13, 14, 43, 44, 45, 46, 47, 48, 49, 50, 51, 52, 53, 54, 55, 56, 57, 58, 59, 60, 61, 62, 63, 64, 65, 66, 67, 68, 69, 70, 71, 72, 73, 74, 75, 76, 77, 78, 79, 80, 81, 82, 83, 84, 85, 10, 86, 87, 88, 89, 90, 91, 15, 92, 93, 94, 95, 96, 97, 98, 99, 100, 101, 102, 103, 104, 105, 106, 107, 2, 16, 17, 18, 108, 109, 110, 20, 111, 112, 113, 114, 115, 116] rfl (by decide +kernel)) (goodIn_sub (fun _ h => List.mem_cons_of_mem _ (List.mem_append_left _ (List.mem_append_right _ h))) gwX3)) (goodIn_sub (fun _ h => List.mem_cons_of_mem _ (List.mem_append_right _ h)) gwX10))
set_option maxRecDepth 20000 in
theorem g_X3_readClause_5 : GoodIn q_X3_readClause (wsV RX3 66 RX3 yX3_write q_X3_write) := goodIn_app (goodIn_r _ [42, 40, 41, 24] rfl (by decide +kernel)) (goodIn_ca (goodIn_r (.code yX3_write cX3_write 3 none :: [.fieldLink RX3 15 "LeftArguments$LawReader" "used" "I", .fieldLink RX3 11 "LeftArguments$LawReader" "code" "[I"]) [37, 38, 39] rfl (by decide +kernel)) (goodIn_sub (fun _ h => List.mem_cons_of_mem _ (List.mem_append_left _ (List.mem_append_right _ h))) gwX3))
set_option maxRecDepth 20000 in
theorem g_X3_readClause_6 : GoodIn q_X3_readClause (wsV RX3 59 RX3 yX3_readSum q_X3_readSum_6) := goodIn_app (goodIn_r _ [107, 105, 106, 24] rfl (by decide +kernel)) (goodIn_ca (goodIn_ca (goodIn_r (.code yX3_readSum cX3_readSum 4 (some .boolean) :: [.code yX3_readTerm cX3_readTerm 4 (some .boolean), .code yX3_readAtom cX3_readAtom 4 (some .boolean), .fieldLink RX3 19 "LeftArguments$LawReader" "tape" "LLeftArguments$Tape;", .code yX10_next cX10_next 1 (some .int), .fieldLink RX10 19 "LeftArguments$Tape" "at" "I", .fieldLink RX10 15 "LeftArguments$Tape" "used" "I", .fieldLink RX10 9 "LeftArguments$Tape" "bytes" "[I", .initialized RX10, .instanceMethod yX10_next, .selects RX10 yX10_next yX10_next, .methodLink RX3 48 yX10_next, .code yX10_isDigit cX10_isDigit 1 (some .boolean), .static yX10_isDigit, .methodLink RX3 92 yX10_isDigit, .code yX10_step cX10_step 1 none, .instanceMethod yX10_step, .selects RX10 yX10_step yX10_step, .methodLink RX3 77 yX10_step, .code yX3_write cX3_write 3 none, .fieldLink RX3 15 "LeftArguments$LawReader" "used" "I", .fieldLink RX3 11 "LeftArguments$LawReader" "code" "[I", .initialized RX3, .instanceMethod yX3_write, .selects RX3 yX3_write yX3_write, .methodLink RX3 66 yX3_write, .code yX10_wrongHere cX10_wrongHere 1 (some .boolean), .fieldLink RX10 22 "LeftArguments$Tape" "wrongAt" "I", .instanceMethod yX10_wrongHere, .selects RX10 yX10_wrongHere yX10_wrongHere, .methodLink RX3 83 yX10_wrongHere, .code yJ0_indexOf_0f7a4 cJ0_indexOf_0f7a4 2 (some .int), .code yJ0_indexOf_7cf53 cJ0_indexOf_7cf53 3 (some .int), .code yJ0_isLatin1_aae02 cJ0_isLatin1_aae02 1 (some .boolean), .fieldLink RJ0 38 "java/lang/String" "COMPACT_STRINGS" "Z", .fieldLink RJ0 15 "java/lang/String" "coder" "B", .initialized RJ0, .instanceMethod yJ0_isLatin1_aae02, .selects RJ0 yJ0_isLatin1_aae02 yJ0_isLatin1_aae02, .methodLink RJ0 492 yJ0_isLatin1_aae02, .fieldLink RJ0 9 "java/lang/String" "value" "[B", .code yJ0_length_8abf5 cJ0_length_8abf5 1 (some .int), .code yJ0_coder_7d493 cJ0_coder_7d493 1 (some .byte), .instanceMethod yJ0_coder_7d493, .selects RJ0 yJ0_coder_7d493 yJ0_coder_7d493, .methodLink RJ0 335 yJ0_coder_7d493, .instanceMethod yJ0_length_8abf5, .selects RJ0 yJ0_length_8abf5 yJ0_length_8abf5, .methodLink RJ0 505 yJ0_length_8abf5, .code yJ1_indexOf_4cfef cJ1_indexOf_4cfef 4 (some .int), .code yJ1_canEncode_9a6ad cJ1_canEncode_9a6ad 1 (some .boolean), .initialized RJ1, .static yJ1_canEncode_9a6ad, .methodLink RJ1 88 yJ1_canEncode_9a6ad, .methodLink RJ1 92 Lib.Math.max.name, .static Lib.Math.max.name, .initialized "java/lang/Math", .code Lib.Math.max.name Lib.Math.max.code 2 (some .int), .methodLink RJ1 38 Lib.Math.min.name, .static Lib.Math.min.name, .code Lib.Math.min.name Lib.Math.min.code 2 (some .int), .code yJ1_indexOfChar_4cfef cJ1_indexOfChar_4cfef 6 (some .int), .static yJ1_indexOfChar_4cfef, .methodLink RJ1 95 yJ1_indexOfChar_4cfef, .static yJ1_indexOf_4cfef, .methodLink RJ0 637 yJ1_indexOf_4cfef, .instanceMethod yJ0_indexOf_7cf53, .selects RJ0 yJ0_indexOf_7cf53 yJ0_indexOf_7cf53, .methodLink RJ0 633 yJ0_indexOf_7cf53, .instanceMethod yJ0_indexOf_0f7a4, .selects RJ0 yJ0_indexOf_0f7a4 yJ0_indexOf_0f7a4, .methodLink RX3 103 yJ0_indexOf_0f7a4, .code yX10_takeNumber cX10_takeNumber 3 (some .boolean), .methodLink RX10 37 yX10_next, .methodLink RX10 45 yX10_isDigit, .fieldLink RX10 25 "LeftArguments$Tape" "number" "I", .code yX10_sign cX10_sign 1 (some .int), .instanceMethod yX10_sign, .selects RX10 yX10_sign yX10_sign, .methodLink RX10 49 yX10_sign, .methodLink RX10 41 yX10_wrongHere, .instanceMethod yX10_takeNumber, .selects RX10 yX10_takeNumber yX10_takeNumber, .methodLink RX3 95 yX10_takeNumber, .code yX10_number cX10_number 1 (some .int), .instanceMethod yX10_number, .selects RX10 yX10_number yX10_number, .methodLink RX3 98 yX10_number, .code yX3_readSum cX3_readSum 4 (some .boolean), .instanceMethod yX3_readAtom, .selects RX3 yX3_readAtom yX3_readAtom, .methodLink RX3 89 yX3_readAtom, .instanceMethod yX3_readTerm, .selects RX3 yX3_readTerm yX3_readTerm, .methodLink RX3 86 yX3_readTerm, .instanceMethod yX3_readSum, .selects RX3 yX3_readSum yX3_readSum, .methodLink RX3 59 yX3_readSum, .code yX10_take cX10_take 2 (some .boolean), .instanceMethod yX10_take, .selects RX10 yX10_take yX10_take, .methodLink RX3 51 yX10_take]) [31, 32, 33, 1, 3, 4, 5, 6, 7, 8, 9, 19, 34, 35, 36, 27, 28, 29, 30, 37, 38, 39, 24, 40, 41, 42, 11, 12, 13, 14, 43, 44, 45, 46, 47, 48, 49, 50, 51, 52, 53, 54, 55, 56, 57, 58, 59, 60, 61, 62, 63, 64, 65, 66, 67, 68, 69, 70, 71, 72, 73, 74, 75, 76, 77, 78, 79, 80, 81, 82, 83, 84, 85, 10, 86, 87, 88, 89, 90, 91, 15, 92, 93, 94, 95, 96, 97, 98, 31, 99, 100, 101, 102, 103, 104, 105, 106, 107, 2, 16, 17, 18] rfl (by decide +kernel)) (goodIn_sub (fun _ h => List.mem_cons_of_mem _ (List.mem_append_left _ (List.mem_append_right _ h))) gwX3)) (goodIn_sub (fun _ h => List.mem_cons_of_mem _ (List.mem_append_right _ h)) gwX10))
set_option maxRecDepth 20000 in
theorem g_X3_readClause_10 : GoodIn q_X3_readClause (va_wsS RX3 62 yX3_comparing q_X3_comparing) := goodIn_app (goodIn_r _ [26, 25, 24] rfl (by decide +kernel)) (goodIn_r (.code yX3_comparing cX3_comparing 1 (some .int) :: []) [23] rfl (by decide +kernel))
set_option maxHeartbeats 4000000 in
set_option maxRecDepth 100000 in
theorem k_X3_readClause (l : Launch) (dC : Nat → ClassId) (dI : Nat → Nat → Nat) (adK : Nat → Nat) (adV : Nat → Nat) (h0 : Nat) (h1 : Nat) (h2 : Nat) (h3 : Nat) (v0 : Int32) (v1 : Int32) (v2 : Int32) (v3 : Int32) (v4 : Int32) (g0 : ClassId) (f5 : Nat → Int32) (g1 : ClassId) (f6 : Nat → Int32) (i_v0 : 0 ≤ v0.toInt ∧ v0.toInt ≤ 256) (i_v1 : 0 ≤ v1.toInt ∧ v1.toInt ≤ 240) (sz : Nat) : Met l yX3_readClause q_X3_readClause ({ frames := 28, cells := 0, slots := 0, locals := 650 }) (va_Pc [.ref h0] (fun U => U.heap.size = sz ∧ va_P (dC, dI) vwCl (wd_1ad0248d h0 h1 h3 v0 h1 h2 v1 v2 v3 v4 h2 g0 f5 h3 g1 f6) U.heap ∧ va_K (dC, dI) vwCl [(g0, .int), (g1, .int)] U ∧ va_D (fun _ => True) (wd_1ad0248d h0 h1 h3 v0 h1 h2 v1 v2 v3 v4 h2 g0 f5 h3 g1 f6) ∧ vk_R RX3 101 "zaondt" (adK 2) U ∧ va_Z "java/lang/String" "COMPACT_STRINGS" "Z" (.int 1) (va_A (wd_1ad0248d h0 h1 h3 v0 h1 h2 v1 v2 v3 v4 h2 g0 f5 h3 g1 f6) sz) U U.heap ∧ vk_S 3 pv_len3 pv_byt3 adK adV (va_A (wd_1ad0248d h0 h1 h3 v0 h1 h2 v1 v2 v3 v4 h2 g0 f5 h3 g1 f6) sz) U U.heap)) (va_Qi (fun (r : Int32) (_ : Unit) => 0 ≤ r.toInt ∧ r.toInt ≤ 1) (fun (_ : Unit) (t : State) => ∃ (o_h0_2 : Int32) (o_h1_2 : Int32) (o_h1_3 : Int32) (o_h1_4 : Int32) (o_h3 : Nat → Int32), 0 ≤ o_h0_2.toInt ∧ o_h0_2.toInt ≤ 256 ∧ va_P (dC, dI) vwCl (wd_1ad0248d h0 h1 h3 o_h0_2 h1 h2 v1 o_h1_2 o_h1_3 o_h1_4 h2 g0 f5 h3 g1 o_h3) t.heap ∧ va_K (dC, dI) vwCl [] t ∧ va_D (va_A (wd_1ad0248d h0 h1 h3 v0 h1 h2 v1 v2 v3 v4 h2 g0 f5 h3 g1 f6) sz) (wd_1ad0248d h0 h1 h3 o_h0_2 h1 h2 v1 o_h1_2 o_h1_3 o_h1_4 h2 g0 f5 h3 g1 o_h3)) (va_A (wd_1ad0248d h0 h1 h3 v0 h1 h2 v1 v2 v3 v4 h2 g0 f5 h3 g1 f6) sz)) 0 0 (va_A (wd_1ad0248d h0 h1 h3 v0 h1 h2 v1 v2 v3 v4 h2 g0 f5 h3 g1 f6) sz) := by
  refine Met.ofW (cc := cX3_readClause) (maxL := 4) (ret := (some .boolean)) (by decide) rfl ?_
  intro p e s m args below meth c s₁ B hml hv
  obtain ⟨i_v0a, i_v0b⟩ := i_v0
  obtain ⟨i_v1a, i_v1b⟩ := i_v1
  obtain ⟨rfl, hsz, hP, hK, hD0, h_vr_2, h_st_CS, h_st_S⟩ := hv
  have hx := B.exec
  have hb := B.bytes
  have hr := B.returns
  have hts := atoms_spec (ws := q_X3_readClause) B.pre
  have hown : s.vm.findClass RX3 = some m.cls := findClass_of_methodNamed B.named
  have hlocks := B.notSynchronized
  subst hsz
  have hD := hD0.self (sz := s.heap.size)
  generalize hAe : va_A (wd_1ad0248d h0 h1 h3 v0 h1 h2 v1 v2 v3 v4 h2 g0 f5 h3 g1 f6) s.heap.size = A at hD h_st_CS h_st_S ⊢
  have hA : ∀ q : Nat, s.heap.size ≤ q → A q := fun q h => by rw [← hAe]; exact Or.inr h
  have hS : va_S A s.heap s.heap [] := va_S.rf
  generalize hQ : (MQ below _ _ s 0 0 A) = Q
  have hl := lv_entry ([.ref h0]) (n := 4) (Nat.le_of_ble_eq_true rfl)
  rw [lg_entry_eq]
  generalize (lg_sl ([.ref h0]) ++ List.replicate (4 - (lg_sl ([.ref h0])).length) Slot.unset).toArray = ls at hl ⊢
  have hl : lv_has ls 4 [(0, .ref h0)] := hl
  obtain ⟨H, hH⟩ : ∃ H : Heap, H = s.heap := ⟨_, rfl⟩
  obtain ⟨locs, hlocs⟩ : ∃ y : List Loc, y = [] := ⟨_, rfl⟩
  have hS : va_S A s.heap H locs := by rw [hH, hlocs]; exact va_S.rf
  have hP : va_P (dC, dI) vwCl (wd_1ad0248d h0 h1 h3 v0 h1 h2 v1 v2 v3 v4 h2 g0 f5 h3 g1 f6) H := by rw [hH]; exact hP
  rw [← hH, ← hlocs]
  refine lv_aload_n hx hb dX3_readClause_0 rfl (lv_at hl 0 rfl) ?_
  refine va_get (D := (dC, dI)) (ci := 3) (v := .ref h1) (C := RX3) (T := TX3) (N := 3) hx hb hts (fun _ h => List.mem_cons_of_mem _ (List.mem_append_left _ (List.mem_append_right _ h))) hown hK hP 0 rfl rfl 0 (by decide) (hts (.fieldLink RX3 19 "LeftArguments$LawReader" "tape" "LLeftArguments$Tape;") (List.mem_cons_of_mem _ (List.mem_append_left _ (List.mem_append_left _ (List.mem_of_getElem? (i := 0) rfl))))) (fun _ h9 => h9) rfl dX3_readClause_1 ?_
  refine lv_bipush (v := 121) hx hb dX3_readClause_4 (by decide) ?_
  have hPc := hP.sub (ws' := (wd_82cdd16b h1 h2 v1 v2 v3 v4 h2 g0 f5)) [1, 2] rfl
  have hDc := hD.sub (ws' := (wd_82cdd16b h1 h2 v1 v2 v3 v4 h2 g0 f5)) [1, 2] (by decide) rfl
  have hKc := hK.sub (tys' := [(g0, .int)]) [0] rfl
  have hFc := va_free (wc := (wd_82cdd16b h1 h2 v1 v2 v3 v4 h2 g0 f5)) hD hS hA [1, 2] rfl
  refine va_calli (va_runV (As := [.int 121]) (rest := []) ⟨hx, hb, hml, hown, hts⟩ (k_X10_take l dC dI h1 h2 v1 v2 v3 v4 g0 f5 121 ⟨by first | omega | decide, by first | omega | decide⟩ H.size) (cwV 1 hts g_X3_readClause_0 rfl rfl rfl (by decide +kernel) ⟨Nat.le_of_ble_eq_true rfl, Nat.le_of_ble_eq_true rfl⟩) ⟨fun a U g mk q => by obtain ⟨q0, q1, qP, qK, qD⟩ := q; exact ⟨q0, q1, qP, va_K.moved (u := U) (U := U.calling g mk a) (Vm.Alike.refl U.vm) qK, qD⟩, va_recv hKc hPc (ci := 10) (q0 := 0) rfl rfl, fun U hU hW => ⟨rfl, by rw [hU], by rw [hU]; exact hPc, va_K.moved hW.alike hKc, hDc.weaken (fun _ _ _ _ => trivial)⟩⟩ rfl rfl hl.1 rfl (lv_room (Nat.le_of_ble_eq_true rfl)) dX3_readClause_6 ⟨Nat.le_of_ble_eq_true rfl, Nat.le_of_ble_eq_true rfl⟩) hS (fun q _ h => hFc q h) hFc (fun ra1 u t H1 locs ht hvm hwra1 hB hz1 hk1 hS => ?_)
  obtain ⟨x2, x3, hP1, hK1, hD1⟩ := hB
  rw [ht] at hP1
  obtain ⟨hP, hD⟩ := va_join (wr := (wd_b958b9da h0 h1 h3 v0 h3 g1 f6)) (w1 := (wd_82cdd16b h1 h2 v1 x2 x3 v4 h2 g0 f5)) hP hD [1, 2] [0, 3] rfl rfl (by decide) (by decide) hk1 hFc hP1 hD1
  generalize H1 = H at hP hS ⊢
  have hP := hP.sub (ws' := (wd_1ad0248d h0 h1 h3 v0 h1 h2 v1 x2 x3 v4 h2 g0 f5 h3 g1 f6)) [0, 2, 3, 1] rfl
  have hD := hD.sub (ws' := (wd_1ad0248d h0 h1 h3 v0 h1 h2 v1 x2 x3 v4 h2 g0 f5 h3 g1 f6)) [0, 2, 3, 1] (by decide) rfl
  have hP : va_P (dC, dI) vwCl (wd_1ad0248d h0 h1 h3 v0 h1 h2 v1 x2 x3 v4 h2 g0 f5 h3 g1 f6) H := hP
  have hD : va_D A (wd_1ad0248d h0 h1 h3 v0 h1 h2 v1 x2 x3 v4 h2 g0 f5 h3 g1 f6) := hD
  obtain ⟨wa_ra1, wb_ra1⟩ := hwra1
  have wa_ra1 : 0 ≤ ra1.toInt := wa_ra1
  have wb_ra1 : ra1.toInt ≤ 1 := wb_ra1
  refine lv_if_eq (tgt := 24) hx hb dX3_readClause_9 (by decide) (fun c4 => ?_) (fun c4 => ?_)
  · skip
    have fc4 : ra1.toInt = 0 := congrArg Int32.toInt c4
    refine lv_iconst (v := 0) hx hb dX3_readClause_24 (by decide) ?_
    subst hQ
    have hP9 := hP.sub (ws' := (wd_1ad0248d h0 h1 h3 v0 h1 h2 v1 x2 x3 v4 h2 g0 f5 h3 g1 f6)) [0, 1, 2, 3] rfl
    have hD9 := hD.sub (ws' := (wd_1ad0248d h0 h1 h3 v0 h1 h2 v1 x2 x3 v4 h2 g0 f5 h3 g1 f6)) [0, 1, 2, 3] (by decide) rfl
    have hK9 := hK.sub (tys' := []) [] rfl
    exact W.zret (v := 0) hx hb hr rfl (fun t ht hW => ⟨⟨0, (), rfl, ⟨by first | omega | decide, by first | omega | decide⟩, v0, x2, x3, v4, f6, by first | omega | decide, by first | omega | decide, by rw [ht]; exact hP9, va_K.moved hW.alike hK9, hD9⟩, hS.F ht⟩) hS.2.2 dX3_readClause_25
  · skip
    have fc4 : ¬ (ra1.toInt = 0) := fun h9 => c4 (Int32.toInt_inj.mp h9)
    refine lv_aload_n hx hb dX3_readClause_12 rfl (lv_at hl 0 rfl) ?_
    refine va_get (D := (dC, dI)) (ci := 3) (v := .ref h1) (C := RX3) (T := TX3) (N := 3) hx hb hts (fun _ h => List.mem_cons_of_mem _ (List.mem_append_left _ (List.mem_append_right _ h))) hown hK hP 0 rfl rfl 0 (by decide) (hts (.fieldLink RX3 19 "LeftArguments$LawReader" "tape" "LLeftArguments$Tape;") (List.mem_cons_of_mem _ (List.mem_append_left _ (List.mem_append_left _ (List.mem_of_getElem? (i := 0) rfl))))) (fun _ h9 => h9) rfl dX3_readClause_13 ?_
    refine lv_bipush (v := 58) hx hb dX3_readClause_16 (by decide) ?_
    have hPc := hP.sub (ws' := (wd_82cdd16b h1 h2 v1 x2 x3 v4 h2 g0 f5)) [1, 2] rfl
    have hDc := hD.sub (ws' := (wd_82cdd16b h1 h2 v1 x2 x3 v4 h2 g0 f5)) [1, 2] (by decide) rfl
    have hKc := hK.sub (tys' := [(g0, .int)]) [0] rfl
    have hFc := va_free (wc := (wd_82cdd16b h1 h2 v1 x2 x3 v4 h2 g0 f5)) hD hS hA [1, 2] rfl
    refine va_calli (va_runV (As := [.int 58]) (rest := []) ⟨hx, hb, hml, hown, hts⟩ (k_X10_take l dC dI h1 h2 v1 x2 x3 v4 g0 f5 58 ⟨by first | omega | decide, by first | omega | decide⟩ H.size) (cwV 1 hts g_X3_readClause_0 rfl rfl rfl (by decide +kernel) ⟨Nat.le_of_ble_eq_true rfl, Nat.le_of_ble_eq_true rfl⟩) ⟨fun a U g mk q => by obtain ⟨q0, q1, qP, qK, qD⟩ := q; exact ⟨q0, q1, qP, va_K.moved (u := U) (U := U.calling g mk a) (Vm.Alike.refl U.vm) qK, qD⟩, va_recv hKc hPc (ci := 10) (q0 := 0) rfl rfl, fun U hU hW => ⟨rfl, by rw [hU], by rw [hU]; exact hPc, va_K.moved hW.alike hKc, hDc.weaken (fun _ _ _ _ => trivial)⟩⟩ rfl rfl hl.1 rfl (lv_room (Nat.le_of_ble_eq_true rfl)) dX3_readClause_18 ⟨Nat.le_of_ble_eq_true rfl, Nat.le_of_ble_eq_true rfl⟩) hS (fun q _ h => hFc q h) hFc (fun ra5 u t H1 locs ht hvm hwra5 hB hz1 hk1 hS => ?_)
    obtain ⟨x6, x7, hP1, hK1, hD1⟩ := hB
    rw [ht] at hP1
    obtain ⟨hP, hD⟩ := va_join (wr := (wd_b958b9da h0 h1 h3 v0 h3 g1 f6)) (w1 := (wd_82cdd16b h1 h2 v1 x6 x7 v4 h2 g0 f5)) hP hD [1, 2] [0, 3] rfl rfl (by decide) (by decide) hk1 hFc hP1 hD1
    generalize H1 = H at hP hS ⊢
    have hP := hP.sub (ws' := (wd_1ad0248d h0 h1 h3 v0 h1 h2 v1 x6 x7 v4 h2 g0 f5 h3 g1 f6)) [0, 2, 3, 1] rfl
    have hD := hD.sub (ws' := (wd_1ad0248d h0 h1 h3 v0 h1 h2 v1 x6 x7 v4 h2 g0 f5 h3 g1 f6)) [0, 2, 3, 1] (by decide) rfl
    have hP : va_P (dC, dI) vwCl (wd_1ad0248d h0 h1 h3 v0 h1 h2 v1 x6 x7 v4 h2 g0 f5 h3 g1 f6) H := hP
    have hD : va_D A (wd_1ad0248d h0 h1 h3 v0 h1 h2 v1 x6 x7 v4 h2 g0 f5 h3 g1 f6) := hD
    obtain ⟨wa_ra5, wb_ra5⟩ := hwra5
    have wa_ra5 : 0 ≤ ra5.toInt := wa_ra5
    have wb_ra5 : ra5.toInt ≤ 1 := wb_ra5
    refine lv_if_ne (tgt := 26) hx hb dX3_readClause_21 (by decide) (fun c8 => ?_) (fun c8 => ?_)
    · skip
      have fc8 : ¬ (ra5.toInt = 0) := fun h9 => c8 (Int32.toInt_inj.mp h9)
      refine lv_aload_n hx hb dX3_readClause_26 rfl (lv_at hl 0 rfl) ?_
      refine va_get (D := (dC, dI)) (ci := 3) (v := .ref h1) (C := RX3) (T := TX3) (N := 3) hx hb hts (fun _ h => List.mem_cons_of_mem _ (List.mem_append_left _ (List.mem_append_right _ h))) hown hK hP 0 rfl rfl 0 (by decide) (hts (.fieldLink RX3 19 "LeftArguments$LawReader" "tape" "LLeftArguments$Tape;") (List.mem_cons_of_mem _ (List.mem_append_left _ (List.mem_append_left _ (List.mem_of_getElem? (i := 0) rfl))))) (fun _ h9 => h9) rfl dX3_readClause_27 ?_
      have hPc := hP.sub (ws' := (wd_82cdd16b h1 h2 v1 x6 x7 v4 h2 g0 f5)) [1, 2] rfl
      have hDc := hD.sub (ws' := (wd_82cdd16b h1 h2 v1 x6 x7 v4 h2 g0 f5)) [1, 2] (by decide) rfl
      have hKc := hK.sub (tys' := [(g0, .int)]) [0] rfl
      have hFc := va_free (wc := (wd_82cdd16b h1 h2 v1 x6 x7 v4 h2 g0 f5)) hD hS hA [1, 2] rfl
      refine va_calli (va_runV (As := []) (rest := []) ⟨hx, hb, hml, hown, hts⟩ (k_X10_next l dC dI h1 h2 v1 x6 x7 v4 g0 f5 ⟨by first | omega | decide, by first | omega | decide⟩ H.size) (cwV 0 hts g_X3_readClause_2 rfl rfl rfl (by decide +kernel) ⟨Nat.le_of_ble_eq_true rfl, Nat.le_of_ble_eq_true rfl⟩) ⟨fun a U g mk q => by obtain ⟨q0, q1, qP, qK, qD⟩ := q; exact ⟨q0, q1, qP, va_K.moved (u := U) (U := U.calling g mk a) (Vm.Alike.refl U.vm) qK, qD⟩, va_recv hKc hPc (ci := 10) (q0 := 0) rfl rfl, fun U hU hW => ⟨rfl, by rw [hU], by rw [hU]; exact hPc, va_K.moved hW.alike hKc, hDc.weaken (fun _ _ _ _ => trivial)⟩⟩ rfl rfl hl.1 rfl (lv_room (Nat.le_of_ble_eq_true rfl)) dX3_readClause_30 ⟨Nat.le_of_ble_eq_true rfl, Nat.le_of_ble_eq_true rfl⟩) hS (fun q _ h => hFc q h) hFc (fun ra9 u t H1 locs ht hvm hwra9 hB hz1 hk1 hS => ?_)
      obtain ⟨x10, hP1, hK1, hD1⟩ := hB
      rw [ht] at hP1
      obtain ⟨hP, hD⟩ := va_join (wr := (wd_b958b9da h0 h1 h3 v0 h3 g1 f6)) (w1 := (wd_82cdd16b h1 h2 v1 x10 x7 v4 h2 g0 f5)) hP hD [1, 2] [0, 3] rfl rfl (by decide) (by decide) hk1 hFc hP1 hD1
      generalize H1 = H at hP hS ⊢
      have hP := hP.sub (ws' := (wd_1ad0248d h0 h1 h3 v0 h1 h2 v1 x10 x7 v4 h2 g0 f5 h3 g1 f6)) [0, 2, 3, 1] rfl
      have hD := hD.sub (ws' := (wd_1ad0248d h0 h1 h3 v0 h1 h2 v1 x10 x7 v4 h2 g0 f5 h3 g1 f6)) [0, 2, 3, 1] (by decide) rfl
      have hP : va_P (dC, dI) vwCl (wd_1ad0248d h0 h1 h3 v0 h1 h2 v1 x10 x7 v4 h2 g0 f5 h3 g1 f6) H := hP
      have hD : va_D A (wd_1ad0248d h0 h1 h3 v0 h1 h2 v1 x10 x7 v4 h2 g0 f5 h3 g1 f6) := hD
      refine lv_istore_n (lv' := [(1, .int ra9), (0, .ref h0)]) hx hb dX3_readClause_33 rfl hl (by decide) rfl (fun ls hl => ?_)
      refine lv_iload_n hx hb dX3_readClause_34 rfl (lv_at hl 0 rfl) ?_
      refine lv_bipush (v := 33) hx hb dX3_readClause_35 (by decide) ?_
      have hJ12 : ∀ (x11 : Int32) (H : Heap) (locs : List Loc) (ls : Array Slot), 0 ≤ x11.toInt → x11.toInt ≤ 1 → va_P (dC, dI) vwCl (wd_1ad0248d h0 h1 h3 v0 h1 h2 v1 x10 x7 v4 h2 g0 f5 h3 g1 f6) H → va_D A (wd_1ad0248d h0 h1 h3 v0 h1 h2 v1 x10 x7 v4 h2 g0 f5 h3 g1 f6) → va_S A s.heap H locs → lv_has ls 4 [(1, .int ra9), (0, .ref h0)] → W p l e ({ frames := 28, cells := 0, slots := 0, locals := 650 }) s m ([.ref h0] : List Value).toArray below meth c H locs 0 0 Q (F0 m 51 ls [.int x11]) := by
        intro x11 H locs ls qa_x11 qb_x11 hP hD hS hl
        refine lv_istore_n (lv' := [(2, .int x11), (1, .int ra9), (0, .ref h0)]) hx hb dX3_readClause_51 rfl hl (by decide) rfl (fun ls hl => ?_)
        refine lv_iload_n hx hb dX3_readClause_52 rfl (lv_at hl 0 rfl) ?_
        refine lv_if_eq (tgt := 89) hx hb dX3_readClause_53 (by decide) (fun c13 => ?_) (fun c13 => ?_)
        · skip
          have fc13 : x11.toInt = 0 := congrArg Int32.toInt c13
          refine lv_aload_n hx hb dX3_readClause_89 rfl (lv_at hl 2 rfl) ?_
          refine lv_iconst (v := 0) hx hb dX3_readClause_90 (by decide) ?_
          refine lv_iload_n hx hb dX3_readClause_91 rfl (lv_at hl 0 rfl) ?_
          have hPc := hP.sub (ws' := (wd_1ad0248d h0 h1 h3 v0 h1 h2 v1 x10 x7 v4 h2 g0 f5 h3 g1 f6)) [0, 1, 2, 3] rfl
          have hDc := hD.sub (ws' := (wd_1ad0248d h0 h1 h3 v0 h1 h2 v1 x10 x7 v4 h2 g0 f5 h3 g1 f6)) [0, 1, 2, 3] (by decide) rfl
          have hKc := hK.sub (tys' := [(g0, .int), (g1, .int)]) [0, 1] rfl
          have hFc := va_free (wc := (wd_1ad0248d h0 h1 h3 v0 h1 h2 v1 x10 x7 v4 h2 g0 f5 h3 g1 f6)) hD hS hA [0, 1, 2, 3] rfl
          refine va_calli (va_runV (As := [.int 0, .int x11]) (rest := []) ⟨hx, hb, hml, hown, hts⟩ (k_X3_readCondition_6 l dC dI adK adV h0 h1 h2 h3 v0 v1 x10 x7 v4 g0 f5 g1 f6 x11 ⟨by first | omega | decide, by first | omega | decide⟩ ⟨by first | omega | decide, by first | omega | decide⟩ ⟨by first | omega | decide, by first | omega | decide⟩ H.size) (cwV 2 hts g_X3_readClause_3 rfl rfl rfl (by decide +kernel) ⟨Nat.le_of_ble_eq_true rfl, Nat.le_of_ble_eq_true rfl⟩) ⟨fun a U g mk q => by obtain ⟨q0, q1, qP, qK, qD, n0, n1, n2⟩ := q; exact ⟨q0, q1, qP, va_K.moved (u := U) (U := U.calling g mk a) (Vm.Alike.refl U.vm) qK, qD, vk_R.same rfl n0, va_Z.moved (Vm.Alike.refl _) n1, vk_S.moved (Vm.Alike.refl _) n2⟩, va_recv hKc hPc (ci := 3) (q0 := 0) rfl rfl, fun U hU hW => ⟨rfl, by rw [hU], by rw [hU]; exact hPc, va_K.moved hW.alike hKc, hDc.weaken (fun _ _ _ _ => trivial), vk_R.warm hW h_vr_2, (by rw [hU]; exact (va_Z.moved hW.alike (va_Z.kept h_st_CS hS.2.1)).narrow hFc), (by rw [hU]; exact (vk_S.moved hW.alike (vk_S.kept h_st_S hS.2.1)).narrow hFc)⟩⟩ rfl rfl hl.1 rfl (lv_room (Nat.le_of_ble_eq_true rfl)) dX3_readClause_92 ⟨Nat.le_of_ble_eq_true rfl, Nat.le_of_ble_eq_true rfl⟩) hS (fun q _ h => hFc q h) hFc (fun ra14 u t H1 locs ht hvm hwra14 hB hz1 hk1 hS => ?_)
          obtain ⟨x15, x16, x17, x18, fn19, oa_x15, ob_x15, hP1, hK1, hD1⟩ := hB
          rw [ht] at hP1
          obtain ⟨hP, hD⟩ := va_join (wr := []) (w1 := (wd_1ad0248d h0 h1 h3 x15 h1 h2 v1 x16 x17 x18 h2 g0 f5 h3 g1 fn19)) hP hD [0, 1, 2, 3] [] rfl rfl (by decide) (by decide) hk1 hFc hP1 hD1
          generalize H1 = H at hP hS ⊢
          have hP : va_P (dC, dI) vwCl (wd_1ad0248d h0 h1 h3 x15 h1 h2 v1 x16 x17 x18 h2 g0 f5 h3 g1 fn19) H := hP
          have hD : va_D A (wd_1ad0248d h0 h1 h3 x15 h1 h2 v1 x16 x17 x18 h2 g0 f5 h3 g1 fn19) := hD
          obtain ⟨wa_ra14, wb_ra14⟩ := hwra14
          have wa_ra14 : 0 ≤ ra14.toInt := wa_ra14
          have wb_ra14 : ra14.toInt ≤ 1 := wb_ra14
          refine lv_if_eq (tgt := 110) hx hb dX3_readClause_95 (by decide) (fun c20 => ?_) (fun c20 => ?_)
          · skip
            have fc20 : ra14.toInt = 0 := congrArg Int32.toInt c20
            refine lv_iconst (v := 0) hx hb dX3_readClause_110 (by decide) ?_
            subst hQ
            have hP9 := hP.sub (ws' := (wd_1ad0248d h0 h1 h3 x15 h1 h2 v1 x16 x17 x18 h2 g0 f5 h3 g1 fn19)) [0, 1, 2, 3] rfl
            have hD9 := hD.sub (ws' := (wd_1ad0248d h0 h1 h3 x15 h1 h2 v1 x16 x17 x18 h2 g0 f5 h3 g1 fn19)) [0, 1, 2, 3] (by decide) rfl
            have hK9 := hK.sub (tys' := []) [] rfl
            exact W.zret (v := 0) hx hb hr rfl (fun t ht hW => ⟨⟨0, (), rfl, ⟨by first | omega | decide, by first | omega | decide⟩, x15, x16, x17, x18, fn19, by first | omega | decide, by first | omega | decide, by rw [ht]; exact hP9, va_K.moved hW.alike hK9, hD9⟩, hS.F ht⟩) hS.2.2 dX3_readClause_111
          · skip
            have fc20 : ¬ (ra14.toInt = 0) := fun h9 => c20 (Int32.toInt_inj.mp h9)
            refine lv_aload_n hx hb dX3_readClause_98 rfl (lv_at hl 2 rfl) ?_
            refine va_get (D := (dC, dI)) (ci := 3) (v := .ref h1) (C := RX3) (T := TX3) (N := 3) hx hb hts (fun _ h => List.mem_cons_of_mem _ (List.mem_append_left _ (List.mem_append_right _ h))) hown hK hP 0 rfl rfl 0 (by decide) (hts (.fieldLink RX3 19 "LeftArguments$LawReader" "tape" "LLeftArguments$Tape;") (List.mem_cons_of_mem _ (List.mem_append_left _ (List.mem_append_left _ (List.mem_of_getElem? (i := 0) rfl))))) (fun _ h9 => h9) rfl dX3_readClause_99 ?_
            refine lv_bipush (v := 63) hx hb dX3_readClause_102 (by decide) ?_
            have hPc := hP.sub (ws' := (wd_82cdd16b h1 h2 v1 x16 x17 x18 h2 g0 f5)) [1, 2] rfl
            have hDc := hD.sub (ws' := (wd_82cdd16b h1 h2 v1 x16 x17 x18 h2 g0 f5)) [1, 2] (by decide) rfl
            have hKc := hK.sub (tys' := [(g0, .int)]) [0] rfl
            have hFc := va_free (wc := (wd_82cdd16b h1 h2 v1 x16 x17 x18 h2 g0 f5)) hD hS hA [1, 2] rfl
            refine va_calli (va_runV (As := [.int 63]) (rest := []) ⟨hx, hb, hml, hown, hts⟩ (k_X10_take l dC dI h1 h2 v1 x16 x17 x18 g0 f5 63 ⟨by first | omega | decide, by first | omega | decide⟩ H.size) (cwV 1 hts g_X3_readClause_0 rfl rfl rfl (by decide +kernel) ⟨Nat.le_of_ble_eq_true rfl, Nat.le_of_ble_eq_true rfl⟩) ⟨fun a U g mk q => by obtain ⟨q0, q1, qP, qK, qD⟩ := q; exact ⟨q0, q1, qP, va_K.moved (u := U) (U := U.calling g mk a) (Vm.Alike.refl U.vm) qK, qD⟩, va_recv hKc hPc (ci := 10) (q0 := 0) rfl rfl, fun U hU hW => ⟨rfl, by rw [hU], by rw [hU]; exact hPc, va_K.moved hW.alike hKc, hDc.weaken (fun _ _ _ _ => trivial)⟩⟩ rfl rfl hl.1 rfl (lv_room (Nat.le_of_ble_eq_true rfl)) dX3_readClause_104 ⟨Nat.le_of_ble_eq_true rfl, Nat.le_of_ble_eq_true rfl⟩) hS (fun q _ h => hFc q h) hFc (fun ra21 u t H1 locs ht hvm hwra21 hB hz1 hk1 hS => ?_)
            obtain ⟨x22, x23, hP1, hK1, hD1⟩ := hB
            rw [ht] at hP1
            obtain ⟨hP, hD⟩ := va_join (wr := (wd_b958b9da h0 h1 h3 x15 h3 g1 fn19)) (w1 := (wd_82cdd16b h1 h2 v1 x22 x23 x18 h2 g0 f5)) hP hD [1, 2] [0, 3] rfl rfl (by decide) (by decide) hk1 hFc hP1 hD1
            generalize H1 = H at hP hS ⊢
            have hP := hP.sub (ws' := (wd_1ad0248d h0 h1 h3 x15 h1 h2 v1 x22 x23 x18 h2 g0 f5 h3 g1 fn19)) [0, 2, 3, 1] rfl
            have hD := hD.sub (ws' := (wd_1ad0248d h0 h1 h3 x15 h1 h2 v1 x22 x23 x18 h2 g0 f5 h3 g1 fn19)) [0, 2, 3, 1] (by decide) rfl
            have hP : va_P (dC, dI) vwCl (wd_1ad0248d h0 h1 h3 x15 h1 h2 v1 x22 x23 x18 h2 g0 f5 h3 g1 fn19) H := hP
            have hD : va_D A (wd_1ad0248d h0 h1 h3 x15 h1 h2 v1 x22 x23 x18 h2 g0 f5 h3 g1 fn19) := hD
            obtain ⟨wa_ra21, wb_ra21⟩ := hwra21
            have wa_ra21 : 0 ≤ ra21.toInt := wa_ra21
            have wb_ra21 : ra21.toInt ≤ 1 := wb_ra21
            refine lv_if_ne (tgt := 112) hx hb dX3_readClause_107 (by decide) (fun c24 => ?_) (fun c24 => ?_)
            · skip
              have fc24 : ¬ (ra21.toInt = 0) := fun h9 => c24 (Int32.toInt_inj.mp h9)
              refine lv_aload_n hx hb dX3_readClause_112 rfl (lv_at hl 2 rfl) ?_
              refine va_get (D := (dC, dI)) (ci := 3) (v := .int x15) (C := RX3) (T := TX3) (N := 3) hx hb hts (fun _ h => List.mem_cons_of_mem _ (List.mem_append_left _ (List.mem_append_right _ h))) hown hK hP 0 rfl rfl 2 (by decide) (hts (.fieldLink RX3 15 "LeftArguments$LawReader" "used" "I") (List.mem_cons_of_mem _ (List.mem_append_left _ (List.mem_append_left _ (List.mem_of_getElem? (i := 37) rfl))))) (fun _ h9 => h9) rfl dX3_readClause_113 ?_
              refine lv_istore_n (lv' := [(3, .int x15), (2, .int x11), (1, .int ra9), (0, .ref h0)]) hx hb dX3_readClause_116 rfl hl (by decide) rfl (fun ls hl => ?_)
              refine lv_aload_n hx hb dX3_readClause_117 rfl (lv_at hl 3 rfl) ?_
              refine lv_bipush (v := 12) hx hb dX3_readClause_118 (by decide) ?_
              refine lv_iconst (v := 0) hx hb dX3_readClause_120 (by decide) ?_
              have hPc := hP.sub (ws' := (wd_b958b9da h0 h1 h3 x15 h3 g1 fn19)) [0, 3] rfl
              have hDc := hD.sub (ws' := (wd_b958b9da h0 h1 h3 x15 h3 g1 fn19)) [0, 3] (by decide) rfl
              have hKc := hK.sub (tys' := [(g1, .int)]) [1] rfl
              have hFc := va_free (wc := (wd_b958b9da h0 h1 h3 x15 h3 g1 fn19)) hD hS hA [0, 3] rfl
              refine va_callv (va_runV (As := [.int 12, .int 0]) (rest := []) ⟨hx, hb, hml, hown, hts⟩ (k_X3_write l dC dI h0 h3 h1 x15 g1 fn19 12 0 ⟨by first | omega | decide, by first | omega | decide⟩ H.size) (cwV 2 hts g_X3_readClause_5 rfl rfl rfl (by decide +kernel) ⟨Nat.le_of_ble_eq_true rfl, Nat.le_of_ble_eq_true rfl⟩) ⟨fun a U g mk q => by obtain ⟨q0, q1, qP, qK, qD⟩ := q; exact ⟨q0, q1, qP, va_K.moved (u := U) (U := U.calling g mk a) (Vm.Alike.refl U.vm) qK, qD⟩, va_recv hKc hPc (ci := 3) (q0 := 0) rfl rfl, fun U hU hW => ⟨rfl, by rw [hU], by rw [hU]; exact hPc, va_K.moved hW.alike hKc, hDc.weaken (fun _ _ _ _ => trivial)⟩⟩ rfl rfl hl.1 rfl (lv_room (Nat.le_of_ble_eq_true rfl)) dX3_readClause_121 ⟨Nat.le_of_ble_eq_true rfl, Nat.le_of_ble_eq_true rfl⟩) hS (fun q _ h => hFc q h) hFc (fun u t H1 locs ht hvm hwra25 hB hz1 hk1 hS => ?_)
              obtain ⟨x26, fn27, oa_x26, ob_x26, hP1, hK1, hD1⟩ := hB
              rw [ht] at hP1
              obtain ⟨hP, hD⟩ := va_join (wr := (wd_82cdd16b h1 h2 v1 x22 x23 x18 h2 g0 f5)) (w1 := (wd_b958b9da h0 h1 h3 x26 h3 g1 fn27)) hP hD [0, 3] [1, 2] rfl rfl (by decide) (by decide) hk1 hFc hP1 hD1
              generalize H1 = H at hP hS ⊢
              have hP := hP.sub (ws' := (wd_1ad0248d h0 h1 h3 x26 h1 h2 v1 x22 x23 x18 h2 g0 f5 h3 g1 fn27)) [2, 0, 1, 3] rfl
              have hD := hD.sub (ws' := (wd_1ad0248d h0 h1 h3 x26 h1 h2 v1 x22 x23 x18 h2 g0 f5 h3 g1 fn27)) [2, 0, 1, 3] (by decide) rfl
              have hP : va_P (dC, dI) vwCl (wd_1ad0248d h0 h1 h3 x26 h1 h2 v1 x22 x23 x18 h2 g0 f5 h3 g1 fn27) H := hP
              have hD : va_D A (wd_1ad0248d h0 h1 h3 x26 h1 h2 v1 x22 x23 x18 h2 g0 f5 h3 g1 fn27) := hD
              refine lv_aload_n hx hb dX3_readClause_124 rfl (lv_at hl 3 rfl) ?_
              refine lv_iconst (v := 0) hx hb dX3_readClause_125 (by decide) ?_
              have hPc := hP.sub (ws' := (wd_1ad0248d h0 h1 h3 x26 h1 h2 v1 x22 x23 x18 h2 g0 f5 h3 g1 fn27)) [0, 1, 2, 3] rfl
              have hDc := hD.sub (ws' := (wd_1ad0248d h0 h1 h3 x26 h1 h2 v1 x22 x23 x18 h2 g0 f5 h3 g1 fn27)) [0, 1, 2, 3] (by decide) rfl
              have hKc := hK.sub (tys' := [(g0, .int), (g1, .int)]) [0, 1] rfl
              have hFc := va_free (wc := (wd_1ad0248d h0 h1 h3 x26 h1 h2 v1 x22 x23 x18 h2 g0 f5 h3 g1 fn27)) hD hS hA [0, 1, 2, 3] rfl
              refine va_calli (va_runV (As := [.int 0]) (rest := []) ⟨hx, hb, hml, hown, hts⟩ (k_X3_readSum_6 l dC dI adK adV h0 h1 h2 h3 x26 v1 x22 x23 x18 g0 f5 g1 fn27 ⟨by first | omega | decide, by first | omega | decide⟩ ⟨by first | omega | decide, by first | omega | decide⟩ H.size) (cwV 1 hts g_X3_readClause_6 rfl rfl rfl (by decide +kernel) ⟨Nat.le_of_ble_eq_true rfl, Nat.le_of_ble_eq_true rfl⟩) ⟨fun a U g mk q => by obtain ⟨q0, q1, qP, qK, qD, n0, n1, n2⟩ := q; exact ⟨q0, q1, qP, va_K.moved (u := U) (U := U.calling g mk a) (Vm.Alike.refl U.vm) qK, qD, vk_R.same rfl n0, va_Z.moved (Vm.Alike.refl _) n1, vk_S.moved (Vm.Alike.refl _) n2⟩, va_recv hKc hPc (ci := 3) (q0 := 0) rfl rfl, fun U hU hW => ⟨rfl, by rw [hU], by rw [hU]; exact hPc, va_K.moved hW.alike hKc, hDc.weaken (fun _ _ _ _ => trivial), vk_R.warm hW h_vr_2, (by rw [hU]; exact (va_Z.moved hW.alike (va_Z.kept h_st_CS hS.2.1)).narrow hFc), (by rw [hU]; exact (vk_S.moved hW.alike (vk_S.kept h_st_S hS.2.1)).narrow hFc)⟩⟩ rfl rfl hl.1 rfl (lv_room (Nat.le_of_ble_eq_true rfl)) dX3_readClause_126 ⟨Nat.le_of_ble_eq_true rfl, Nat.le_of_ble_eq_true rfl⟩) hS (fun q _ h => hFc q h) hFc (fun ra28 u t H1 locs ht hvm hwra28 hB hz1 hk1 hS => ?_)
              obtain ⟨x29, x30, x31, x32, fn33, oa_x29, ob_x29, hP1, hK1, hD1⟩ := hB
              rw [ht] at hP1
              obtain ⟨hP, hD⟩ := va_join (wr := []) (w1 := (wd_1ad0248d h0 h1 h3 x29 h1 h2 v1 x30 x31 x32 h2 g0 f5 h3 g1 fn33)) hP hD [0, 1, 2, 3] [] rfl rfl (by decide) (by decide) hk1 hFc hP1 hD1
              generalize H1 = H at hP hS ⊢
              have hP : va_P (dC, dI) vwCl (wd_1ad0248d h0 h1 h3 x29 h1 h2 v1 x30 x31 x32 h2 g0 f5 h3 g1 fn33) H := hP
              have hD : va_D A (wd_1ad0248d h0 h1 h3 x29 h1 h2 v1 x30 x31 x32 h2 g0 f5 h3 g1 fn33) := hD
              obtain ⟨wa_ra28, wb_ra28⟩ := hwra28
              have wa_ra28 : 0 ≤ ra28.toInt := wa_ra28
              have wb_ra28 : ra28.toInt ≤ 1 := wb_ra28
              refine lv_if_ne (tgt := 134) hx hb dX3_readClause_129 (by decide) (fun c34 => ?_) (fun c34 => ?_)
              · skip
                have fc34 : ¬ (ra28.toInt = 0) := fun h9 => c34 (Int32.toInt_inj.mp h9)
                refine lv_aload_n hx hb dX3_readClause_134 rfl (lv_at hl 3 rfl) ?_
                refine lv_bipush (v := 13) hx hb dX3_readClause_135 (by decide) ?_
                refine lv_iconst (v := 0) hx hb dX3_readClause_137 (by decide) ?_
                have hPc := hP.sub (ws' := (wd_b958b9da h0 h1 h3 x29 h3 g1 fn33)) [0, 3] rfl
                have hDc := hD.sub (ws' := (wd_b958b9da h0 h1 h3 x29 h3 g1 fn33)) [0, 3] (by decide) rfl
                have hKc := hK.sub (tys' := [(g1, .int)]) [1] rfl
                have hFc := va_free (wc := (wd_b958b9da h0 h1 h3 x29 h3 g1 fn33)) hD hS hA [0, 3] rfl
                refine va_callv (va_runV (As := [.int 13, .int 0]) (rest := []) ⟨hx, hb, hml, hown, hts⟩ (k_X3_write l dC dI h0 h3 h1 x29 g1 fn33 13 0 ⟨by first | omega | decide, by first | omega | decide⟩ H.size) (cwV 2 hts g_X3_readClause_5 rfl rfl rfl (by decide +kernel) ⟨Nat.le_of_ble_eq_true rfl, Nat.le_of_ble_eq_true rfl⟩) ⟨fun a U g mk q => by obtain ⟨q0, q1, qP, qK, qD⟩ := q; exact ⟨q0, q1, qP, va_K.moved (u := U) (U := U.calling g mk a) (Vm.Alike.refl U.vm) qK, qD⟩, va_recv hKc hPc (ci := 3) (q0 := 0) rfl rfl, fun U hU hW => ⟨rfl, by rw [hU], by rw [hU]; exact hPc, va_K.moved hW.alike hKc, hDc.weaken (fun _ _ _ _ => trivial)⟩⟩ rfl rfl hl.1 rfl (lv_room (Nat.le_of_ble_eq_true rfl)) dX3_readClause_138 ⟨Nat.le_of_ble_eq_true rfl, Nat.le_of_ble_eq_true rfl⟩) hS (fun q _ h => hFc q h) hFc (fun u t H1 locs ht hvm hwra35 hB hz1 hk1 hS => ?_)
                obtain ⟨x36, fn37, oa_x36, ob_x36, hP1, hK1, hD1⟩ := hB
                rw [ht] at hP1
                obtain ⟨hP, hD⟩ := va_join (wr := (wd_82cdd16b h1 h2 v1 x30 x31 x32 h2 g0 f5)) (w1 := (wd_b958b9da h0 h1 h3 x36 h3 g1 fn37)) hP hD [0, 3] [1, 2] rfl rfl (by decide) (by decide) hk1 hFc hP1 hD1
                generalize H1 = H at hP hS ⊢
                have hP := hP.sub (ws' := (wd_1ad0248d h0 h1 h3 x36 h1 h2 v1 x30 x31 x32 h2 g0 f5 h3 g1 fn37)) [2, 0, 1, 3] rfl
                have hD := hD.sub (ws' := (wd_1ad0248d h0 h1 h3 x36 h1 h2 v1 x30 x31 x32 h2 g0 f5 h3 g1 fn37)) [2, 0, 1, 3] (by decide) rfl
                have hP : va_P (dC, dI) vwCl (wd_1ad0248d h0 h1 h3 x36 h1 h2 v1 x30 x31 x32 h2 g0 f5 h3 g1 fn37) H := hP
                have hD : va_D A (wd_1ad0248d h0 h1 h3 x36 h1 h2 v1 x30 x31 x32 h2 g0 f5 h3 g1 fn37) := hD
                refine lv_iload_n hx hb dX3_readClause_141 rfl (lv_at hl 0 rfl) ?_
                refine lv_sipush (v := 256) hx hb dX3_readClause_142 (by decide) ?_
                have hJ39 : ∀ (fn38 : Nat → Int32) (H : Heap) (locs : List Loc) (ls : Array Slot), va_P (dC, dI) vwCl (wd_1ad0248d h0 h1 h3 x36 h1 h2 v1 x30 x31 x32 h2 g0 f5 h3 g1 fn38) H → va_D A (wd_1ad0248d h0 h1 h3 x36 h1 h2 v1 x30 x31 x32 h2 g0 f5 h3 g1 fn38) → va_S A s.heap H locs → lv_has ls 4 [(3, .int x15), (2, .int x11), (1, .int ra9), (0, .ref h0)] → W p l e ({ frames := 28, cells := 0, slots := 0, locals := 650 }) s m ([.ref h0] : List Value).toArray below meth c H locs 0 0 Q (F0 m 164 ls []) := by
                  intro fn38 H locs ls hP hD hS hl
                  refine lv_iconst (v := 1) hx hb dX3_readClause_164 (by decide) ?_
                  subst hQ
                  have hP9 := hP.sub (ws' := (wd_1ad0248d h0 h1 h3 x36 h1 h2 v1 x30 x31 x32 h2 g0 f5 h3 g1 fn38)) [0, 1, 2, 3] rfl
                  have hD9 := hD.sub (ws' := (wd_1ad0248d h0 h1 h3 x36 h1 h2 v1 x30 x31 x32 h2 g0 f5 h3 g1 fn38)) [0, 1, 2, 3] (by decide) rfl
                  have hK9 := hK.sub (tys' := []) [] rfl
                  exact W.zret (v := 1) hx hb hr rfl (fun t ht hW => ⟨⟨1, (), rfl, ⟨by first | omega | decide, by first | omega | decide⟩, x36, x30, x31, x32, fn38, by first | omega | decide, by first | omega | decide, by rw [ht]; exact hP9, va_K.moved hW.alike hK9, hD9⟩, hS.F ht⟩) hS.2.2 dX3_readClause_165
                refine lv_icmp_ge (tgt := 164) hx hb dX3_readClause_145 (by decide) (fun c40 => ?_) (fun c40 => ?_)
                · skip
                  have fc40 : 256 ≤ x15.toInt := Int32.le_iff_toInt_le.mp c40
                  exact hJ39 fn37 H locs ls hP hD hS (lv_sub hl [0, 1, 2, 3] rfl)
                · skip
                  have fc40 : ¬ (256 ≤ x15.toInt) := fun h9 => c40 (Int32.le_iff_toInt_le.mpr h9)
                  refine lv_aload_n hx hb dX3_readClause_148 rfl (lv_at hl 3 rfl) ?_
                  refine va_get (D := (dC, dI)) (ci := 3) (v := .ref h3) (C := RX3) (T := TX3) (N := 3) hx hb hts (fun _ h => List.mem_cons_of_mem _ (List.mem_append_left _ (List.mem_append_right _ h))) hown hK hP 0 rfl rfl 1 (by decide) (hts (.fieldLink RX3 11 "LeftArguments$LawReader" "code" "[I") (List.mem_cons_of_mem _ (List.mem_append_left _ (List.mem_append_left _ (List.mem_of_getElem? (i := 38) rfl))))) (fun _ h9 => h9) rfl dX3_readClause_149 ?_
                  refine lv_iload_n hx hb dX3_readClause_152 rfl (lv_at hl 0 rfl) ?_
                  refine lv_aload_n hx hb dX3_readClause_153 rfl (lv_at hl 3 rfl) ?_
                  refine va_get (D := (dC, dI)) (ci := 3) (v := .int x36) (C := RX3) (T := TX3) (N := 3) hx hb hts (fun _ h => List.mem_cons_of_mem _ (List.mem_append_left _ (List.mem_append_right _ h))) hown hK hP 0 rfl rfl 2 (by decide) (hts (.fieldLink RX3 15 "LeftArguments$LawReader" "used" "I") (List.mem_cons_of_mem _ (List.mem_append_left _ (List.mem_append_left _ (List.mem_of_getElem? (i := 37) rfl))))) (fun _ h9 => h9) rfl dX3_readClause_154 ?_
                  refine lv_bipush (v := 16) hx hb dX3_readClause_157 (by decide) ?_
                  refine lv_imul hx hb dX3_readClause_159 ?_
                  refine lv_topi (fun t41 et41 => ?_)
                  have gt41 : t41.toInt = x36.toInt * 16 := pv_mul (a := x36.toInt) (b := 16) et41 rfl (by decide) (by omega) (by omega)
                  refine lv_bipush (v := 12) hx hb dX3_readClause_160 (by decide) ?_
                  refine lv_iadd hx hb dX3_readClause_162 ?_
                  refine lv_topi (fun t42 et42 => ?_)
                  have gt42 : t42.toInt = t41.toInt + 12 := pv_add (a := t41.toInt) (b := 12) et42 rfl (by decide) (by omega) (by omega)
                  refine va_iast hx hb hK hP hD hS 3 1 rfl rfl (vp_in_iff.mpr ⟨by omega, by omega⟩) dX3_readClause_163 (fun H locs hP hD hS => ?_)
                  obtain ⟨fn43, efn43⟩ : ∃ g : Nat → Int32, g = upd fn37 (Int32.toNatClampNeg x15) t42 := ⟨_, rfl⟩
                  rw [← efn43] at hP hD
                  have hP : va_P (dC, dI) vwCl (wd_1ad0248d h0 h1 h3 x36 h1 h2 v1 x30 x31 x32 h2 g0 f5 h3 g1 fn43) H := hP
                  have hD : va_D A (wd_1ad0248d h0 h1 h3 x36 h1 h2 v1 x30 x31 x32 h2 g0 f5 h3 g1 fn43) := hD
                  exact hJ39 fn43 H locs ls hP hD hS (lv_sub hl [0, 1, 2, 3] rfl)
              · skip
                have fc34 : ra28.toInt = 0 := congrArg Int32.toInt c34
                refine lv_iconst (v := 0) hx hb dX3_readClause_132 (by decide) ?_
                subst hQ
                have hP9 := hP.sub (ws' := (wd_1ad0248d h0 h1 h3 x29 h1 h2 v1 x30 x31 x32 h2 g0 f5 h3 g1 fn33)) [0, 1, 2, 3] rfl
                have hD9 := hD.sub (ws' := (wd_1ad0248d h0 h1 h3 x29 h1 h2 v1 x30 x31 x32 h2 g0 f5 h3 g1 fn33)) [0, 1, 2, 3] (by decide) rfl
                have hK9 := hK.sub (tys' := []) [] rfl
                exact W.zret (v := 0) hx hb hr rfl (fun t ht hW => ⟨⟨0, (), rfl, ⟨by first | omega | decide, by first | omega | decide⟩, x29, x30, x31, x32, fn33, by first | omega | decide, by first | omega | decide, by rw [ht]; exact hP9, va_K.moved hW.alike hK9, hD9⟩, hS.F ht⟩) hS.2.2 dX3_readClause_133
            · skip
              have fc24 : ra21.toInt = 0 := congrArg Int32.toInt c24
              refine lv_iconst (v := 0) hx hb dX3_readClause_110 (by decide) ?_
              subst hQ
              have hP9 := hP.sub (ws' := (wd_1ad0248d h0 h1 h3 x15 h1 h2 v1 x22 x23 x18 h2 g0 f5 h3 g1 fn19)) [0, 1, 2, 3] rfl
              have hD9 := hD.sub (ws' := (wd_1ad0248d h0 h1 h3 x15 h1 h2 v1 x22 x23 x18 h2 g0 f5 h3 g1 fn19)) [0, 1, 2, 3] (by decide) rfl
              have hK9 := hK.sub (tys' := []) [] rfl
              exact W.zret (v := 0) hx hb hr rfl (fun t ht hW => ⟨⟨0, (), rfl, ⟨by first | omega | decide, by first | omega | decide⟩, x15, x22, x23, x18, fn19, by first | omega | decide, by first | omega | decide, by rw [ht]; exact hP9, va_K.moved hW.alike hK9, hD9⟩, hS.F ht⟩) hS.2.2 dX3_readClause_111
        · skip
          have fc13 : ¬ (x11.toInt = 0) := fun h9 => c13 (Int32.toInt_inj.mp h9)
          refine lv_aload_n hx hb dX3_readClause_56 rfl (lv_at hl 2 rfl) ?_
          refine lv_iconst (v := 0) hx hb dX3_readClause_57 (by decide) ?_
          have hPc := hP.sub (ws' := (wd_1ad0248d h0 h1 h3 v0 h1 h2 v1 x10 x7 v4 h2 g0 f5 h3 g1 f6)) [0, 1, 2, 3] rfl
          have hDc := hD.sub (ws' := (wd_1ad0248d h0 h1 h3 v0 h1 h2 v1 x10 x7 v4 h2 g0 f5 h3 g1 f6)) [0, 1, 2, 3] (by decide) rfl
          have hKc := hK.sub (tys' := [(g0, .int), (g1, .int)]) [0, 1] rfl
          have hFc := va_free (wc := (wd_1ad0248d h0 h1 h3 v0 h1 h2 v1 x10 x7 v4 h2 g0 f5 h3 g1 f6)) hD hS hA [0, 1, 2, 3] rfl
          refine va_calli (va_runV (As := [.int 0]) (rest := []) ⟨hx, hb, hml, hown, hts⟩ (k_X3_readSum_6 l dC dI adK adV h0 h1 h2 h3 v0 v1 x10 x7 v4 g0 f5 g1 f6 ⟨by first | omega | decide, by first | omega | decide⟩ ⟨by first | omega | decide, by first | omega | decide⟩ H.size) (cwV 1 hts g_X3_readClause_6 rfl rfl rfl (by decide +kernel) ⟨Nat.le_of_ble_eq_true rfl, Nat.le_of_ble_eq_true rfl⟩) ⟨fun a U g mk q => by obtain ⟨q0, q1, qP, qK, qD, n0, n1, n2⟩ := q; exact ⟨q0, q1, qP, va_K.moved (u := U) (U := U.calling g mk a) (Vm.Alike.refl U.vm) qK, qD, vk_R.same rfl n0, va_Z.moved (Vm.Alike.refl _) n1, vk_S.moved (Vm.Alike.refl _) n2⟩, va_recv hKc hPc (ci := 3) (q0 := 0) rfl rfl, fun U hU hW => ⟨rfl, by rw [hU], by rw [hU]; exact hPc, va_K.moved hW.alike hKc, hDc.weaken (fun _ _ _ _ => trivial), vk_R.warm hW h_vr_2, (by rw [hU]; exact (va_Z.moved hW.alike (va_Z.kept h_st_CS hS.2.1)).narrow hFc), (by rw [hU]; exact (vk_S.moved hW.alike (vk_S.kept h_st_S hS.2.1)).narrow hFc)⟩⟩ rfl rfl hl.1 rfl (lv_room (Nat.le_of_ble_eq_true rfl)) dX3_readClause_58 ⟨Nat.le_of_ble_eq_true rfl, Nat.le_of_ble_eq_true rfl⟩) hS (fun q _ h => hFc q h) hFc (fun ra44 u t H1 locs ht hvm hwra44 hB hz1 hk1 hS => ?_)
          obtain ⟨x45, x46, x47, x48, fn49, oa_x45, ob_x45, hP1, hK1, hD1⟩ := hB
          rw [ht] at hP1
          obtain ⟨hP, hD⟩ := va_join (wr := []) (w1 := (wd_1ad0248d h0 h1 h3 x45 h1 h2 v1 x46 x47 x48 h2 g0 f5 h3 g1 fn49)) hP hD [0, 1, 2, 3] [] rfl rfl (by decide) (by decide) hk1 hFc hP1 hD1
          generalize H1 = H at hP hS ⊢
          have hP : va_P (dC, dI) vwCl (wd_1ad0248d h0 h1 h3 x45 h1 h2 v1 x46 x47 x48 h2 g0 f5 h3 g1 fn49) H := hP
          have hD : va_D A (wd_1ad0248d h0 h1 h3 x45 h1 h2 v1 x46 x47 x48 h2 g0 f5 h3 g1 fn49) := hD
          obtain ⟨wa_ra44, wb_ra44⟩ := hwra44
          have wa_ra44 : 0 ≤ ra44.toInt := wa_ra44
          have wb_ra44 : ra44.toInt ≤ 1 := wb_ra44
          refine lv_if_ne (tgt := 66) hx hb dX3_readClause_61 (by decide) (fun c50 => ?_) (fun c50 => ?_)
          · skip
            have fc50 : ¬ (ra44.toInt = 0) := fun h9 => c50 (Int32.toInt_inj.mp h9)
            refine lv_aload_n hx hb dX3_readClause_66 rfl (lv_at hl 2 rfl) ?_
            refine va_get (D := (dC, dI)) (ci := 3) (v := .ref h1) (C := RX3) (T := TX3) (N := 3) hx hb hts (fun _ h => List.mem_cons_of_mem _ (List.mem_append_left _ (List.mem_append_right _ h))) hown hK hP 0 rfl rfl 0 (by decide) (hts (.fieldLink RX3 19 "LeftArguments$LawReader" "tape" "LLeftArguments$Tape;") (List.mem_cons_of_mem _ (List.mem_append_left _ (List.mem_append_left _ (List.mem_of_getElem? (i := 0) rfl))))) (fun _ h9 => h9) rfl dX3_readClause_67 ?_
            have hPc := hP.sub (ws' := (wd_82cdd16b h1 h2 v1 x46 x47 x48 h2 g0 f5)) [1, 2] rfl
            have hDc := hD.sub (ws' := (wd_82cdd16b h1 h2 v1 x46 x47 x48 h2 g0 f5)) [1, 2] (by decide) rfl
            have hKc := hK.sub (tys' := [(g0, .int)]) [0] rfl
            have hFc := va_free (wc := (wd_82cdd16b h1 h2 v1 x46 x47 x48 h2 g0 f5)) hD hS hA [1, 2] rfl
            refine va_calli (va_runV (As := []) (rest := []) ⟨hx, hb, hml, hown, hts⟩ (k_X10_next l dC dI h1 h2 v1 x46 x47 x48 g0 f5 ⟨by first | omega | decide, by first | omega | decide⟩ H.size) (cwV 0 hts g_X3_readClause_2 rfl rfl rfl (by decide +kernel) ⟨Nat.le_of_ble_eq_true rfl, Nat.le_of_ble_eq_true rfl⟩) ⟨fun a U g mk q => by obtain ⟨q0, q1, qP, qK, qD⟩ := q; exact ⟨q0, q1, qP, va_K.moved (u := U) (U := U.calling g mk a) (Vm.Alike.refl U.vm) qK, qD⟩, va_recv hKc hPc (ci := 10) (q0 := 0) rfl rfl, fun U hU hW => ⟨rfl, by rw [hU], by rw [hU]; exact hPc, va_K.moved hW.alike hKc, hDc.weaken (fun _ _ _ _ => trivial)⟩⟩ rfl rfl hl.1 rfl (lv_room (Nat.le_of_ble_eq_true rfl)) dX3_readClause_70 ⟨Nat.le_of_ble_eq_true rfl, Nat.le_of_ble_eq_true rfl⟩) hS (fun q _ h => hFc q h) hFc (fun ra51 u t H1 locs ht hvm hwra51 hB hz1 hk1 hS => ?_)
            obtain ⟨x52, hP1, hK1, hD1⟩ := hB
            rw [ht] at hP1
            obtain ⟨hP, hD⟩ := va_join (wr := (wd_b958b9da h0 h1 h3 x45 h3 g1 fn49)) (w1 := (wd_82cdd16b h1 h2 v1 x52 x47 x48 h2 g0 f5)) hP hD [1, 2] [0, 3] rfl rfl (by decide) (by decide) hk1 hFc hP1 hD1
            generalize H1 = H at hP hS ⊢
            have hP := hP.sub (ws' := (wd_1ad0248d h0 h1 h3 x45 h1 h2 v1 x52 x47 x48 h2 g0 f5 h3 g1 fn49)) [0, 2, 3, 1] rfl
            have hD := hD.sub (ws' := (wd_1ad0248d h0 h1 h3 x45 h1 h2 v1 x52 x47 x48 h2 g0 f5 h3 g1 fn49)) [0, 2, 3, 1] (by decide) rfl
            have hP : va_P (dC, dI) vwCl (wd_1ad0248d h0 h1 h3 x45 h1 h2 v1 x52 x47 x48 h2 g0 f5 h3 g1 fn49) H := hP
            have hD : va_D A (wd_1ad0248d h0 h1 h3 x45 h1 h2 v1 x52 x47 x48 h2 g0 f5 h3 g1 fn49) := hD
            have hPc := hP.sub (ws' := []) [] rfl
            have hDc := hD.sub (ws' := []) [] (by decide) rfl
            have hKc := hK.sub (tys' := []) [] rfl
            have hFc := va_free (wc := []) hD hS hA [] rfl
            refine va_calli (va_runS (As := [.int ra51]) (rest := []) ⟨hx, hb, hml, hown, hts⟩ (k_X3_comparing l dC dI ra51  H.size) (va_cwS 1 hts g_X3_readClause_10 rfl rfl rfl (by decide +kernel) ⟨Nat.le_of_ble_eq_true rfl, Nat.le_of_ble_eq_true rfl⟩) ⟨fun a U g mk q => by obtain ⟨q0, q1, qP, qK, qD⟩ := q; exact ⟨q0, q1, qP, va_K.moved (u := U) (U := U.calling g mk a) (Vm.Alike.refl U.vm) qK, qD⟩, fun U hU hW => ⟨rfl, by rw [hU], by rw [hU]; exact hPc, va_K.moved hW.alike hKc, hDc.weaken (fun _ _ _ _ => trivial)⟩⟩ rfl rfl hl.1 rfl (lv_room (Nat.le_of_ble_eq_true rfl)) dX3_readClause_73 ⟨Nat.le_of_ble_eq_true rfl, Nat.le_of_ble_eq_true rfl⟩) hS (fun q _ h => hFc q h) hFc (fun ra53 u t H1 locs ht hvm hwra53 hB hz1 hk1 hS => ?_)
            obtain ⟨hP1, hK1, hD1⟩ := hB
            rw [ht] at hP1
            obtain ⟨hP, hD⟩ := va_join (wr := (wd_1ad0248d h0 h1 h3 x45 h1 h2 v1 x52 x47 x48 h2 g0 f5 h3 g1 fn49)) (w1 := []) hP hD [] [0, 1, 2, 3] rfl rfl (by decide) (by decide) hk1 hFc hP1 hD1
            generalize H1 = H at hP hS ⊢
            have hP : va_P (dC, dI) vwCl (wd_1ad0248d h0 h1 h3 x45 h1 h2 v1 x52 x47 x48 h2 g0 f5 h3 g1 fn49) H := hP
            have hD : va_D A (wd_1ad0248d h0 h1 h3 x45 h1 h2 v1 x52 x47 x48 h2 g0 f5 h3 g1 fn49) := hD
            obtain ⟨wa_ra53, wb_ra53⟩ := hwra53
            have wa_ra53 : -1 ≤ ra53.toInt := wa_ra53
            have wb_ra53 : ra53.toInt ≤ 8 := wb_ra53
            refine lv_iconst (v := (-1)) hx hb dX3_readClause_76 (by decide) ?_
            refine lv_icmp_ne (tgt := 89) hx hb dX3_readClause_77 (by decide) (fun c54 => ?_) (fun c54 => ?_)
            · skip
              have fc54 : ¬ (ra53.toInt = (-1)) := fun h9 => c54 (Int32.toInt_inj.mp h9)
              refine lv_aload_n hx hb dX3_readClause_89 rfl (lv_at hl 2 rfl) ?_
              refine lv_iconst (v := 0) hx hb dX3_readClause_90 (by decide) ?_
              refine lv_iload_n hx hb dX3_readClause_91 rfl (lv_at hl 0 rfl) ?_
              have hPc := hP.sub (ws' := (wd_1ad0248d h0 h1 h3 x45 h1 h2 v1 x52 x47 x48 h2 g0 f5 h3 g1 fn49)) [0, 1, 2, 3] rfl
              have hDc := hD.sub (ws' := (wd_1ad0248d h0 h1 h3 x45 h1 h2 v1 x52 x47 x48 h2 g0 f5 h3 g1 fn49)) [0, 1, 2, 3] (by decide) rfl
              have hKc := hK.sub (tys' := [(g0, .int), (g1, .int)]) [0, 1] rfl
              have hFc := va_free (wc := (wd_1ad0248d h0 h1 h3 x45 h1 h2 v1 x52 x47 x48 h2 g0 f5 h3 g1 fn49)) hD hS hA [0, 1, 2, 3] rfl
              refine va_calli (va_runV (As := [.int 0, .int x11]) (rest := []) ⟨hx, hb, hml, hown, hts⟩ (k_X3_readCondition_6 l dC dI adK adV h0 h1 h2 h3 x45 v1 x52 x47 x48 g0 f5 g1 fn49 x11 ⟨by first | omega | decide, by first | omega | decide⟩ ⟨by first | omega | decide, by first | omega | decide⟩ ⟨by first | omega | decide, by first | omega | decide⟩ H.size) (cwV 2 hts g_X3_readClause_3 rfl rfl rfl (by decide +kernel) ⟨Nat.le_of_ble_eq_true rfl, Nat.le_of_ble_eq_true rfl⟩) ⟨fun a U g mk q => by obtain ⟨q0, q1, qP, qK, qD, n0, n1, n2⟩ := q; exact ⟨q0, q1, qP, va_K.moved (u := U) (U := U.calling g mk a) (Vm.Alike.refl U.vm) qK, qD, vk_R.same rfl n0, va_Z.moved (Vm.Alike.refl _) n1, vk_S.moved (Vm.Alike.refl _) n2⟩, va_recv hKc hPc (ci := 3) (q0 := 0) rfl rfl, fun U hU hW => ⟨rfl, by rw [hU], by rw [hU]; exact hPc, va_K.moved hW.alike hKc, hDc.weaken (fun _ _ _ _ => trivial), vk_R.warm hW h_vr_2, (by rw [hU]; exact (va_Z.moved hW.alike (va_Z.kept h_st_CS hS.2.1)).narrow hFc), (by rw [hU]; exact (vk_S.moved hW.alike (vk_S.kept h_st_S hS.2.1)).narrow hFc)⟩⟩ rfl rfl hl.1 rfl (lv_room (Nat.le_of_ble_eq_true rfl)) dX3_readClause_92 ⟨Nat.le_of_ble_eq_true rfl, Nat.le_of_ble_eq_true rfl⟩) hS (fun q _ h => hFc q h) hFc (fun ra55 u t H1 locs ht hvm hwra55 hB hz1 hk1 hS => ?_)
              obtain ⟨x56, x57, x58, x59, fn60, oa_x56, ob_x56, hP1, hK1, hD1⟩ := hB
              rw [ht] at hP1
              obtain ⟨hP, hD⟩ := va_join (wr := []) (w1 := (wd_1ad0248d h0 h1 h3 x56 h1 h2 v1 x57 x58 x59 h2 g0 f5 h3 g1 fn60)) hP hD [0, 1, 2, 3] [] rfl rfl (by decide) (by decide) hk1 hFc hP1 hD1
              generalize H1 = H at hP hS ⊢
              have hP : va_P (dC, dI) vwCl (wd_1ad0248d h0 h1 h3 x56 h1 h2 v1 x57 x58 x59 h2 g0 f5 h3 g1 fn60) H := hP
              have hD : va_D A (wd_1ad0248d h0 h1 h3 x56 h1 h2 v1 x57 x58 x59 h2 g0 f5 h3 g1 fn60) := hD
              obtain ⟨wa_ra55, wb_ra55⟩ := hwra55
              have wa_ra55 : 0 ≤ ra55.toInt := wa_ra55
              have wb_ra55 : ra55.toInt ≤ 1 := wb_ra55
              refine lv_if_eq (tgt := 110) hx hb dX3_readClause_95 (by decide) (fun c61 => ?_) (fun c61 => ?_)
              · skip
                have fc61 : ra55.toInt = 0 := congrArg Int32.toInt c61
                refine lv_iconst (v := 0) hx hb dX3_readClause_110 (by decide) ?_
                subst hQ
                have hP9 := hP.sub (ws' := (wd_1ad0248d h0 h1 h3 x56 h1 h2 v1 x57 x58 x59 h2 g0 f5 h3 g1 fn60)) [0, 1, 2, 3] rfl
                have hD9 := hD.sub (ws' := (wd_1ad0248d h0 h1 h3 x56 h1 h2 v1 x57 x58 x59 h2 g0 f5 h3 g1 fn60)) [0, 1, 2, 3] (by decide) rfl
                have hK9 := hK.sub (tys' := []) [] rfl
                exact W.zret (v := 0) hx hb hr rfl (fun t ht hW => ⟨⟨0, (), rfl, ⟨by first | omega | decide, by first | omega | decide⟩, x56, x57, x58, x59, fn60, by first | omega | decide, by first | omega | decide, by rw [ht]; exact hP9, va_K.moved hW.alike hK9, hD9⟩, hS.F ht⟩) hS.2.2 dX3_readClause_111
              · skip
                have fc61 : ¬ (ra55.toInt = 0) := fun h9 => c61 (Int32.toInt_inj.mp h9)
                refine lv_aload_n hx hb dX3_readClause_98 rfl (lv_at hl 2 rfl) ?_
                refine va_get (D := (dC, dI)) (ci := 3) (v := .ref h1) (C := RX3) (T := TX3) (N := 3) hx hb hts (fun _ h => List.mem_cons_of_mem _ (List.mem_append_left _ (List.mem_append_right _ h))) hown hK hP 0 rfl rfl 0 (by decide) (hts (.fieldLink RX3 19 "LeftArguments$LawReader" "tape" "LLeftArguments$Tape;") (List.mem_cons_of_mem _ (List.mem_append_left _ (List.mem_append_left _ (List.mem_of_getElem? (i := 0) rfl))))) (fun _ h9 => h9) rfl dX3_readClause_99 ?_
                refine lv_bipush (v := 63) hx hb dX3_readClause_102 (by decide) ?_
                have hPc := hP.sub (ws' := (wd_82cdd16b h1 h2 v1 x57 x58 x59 h2 g0 f5)) [1, 2] rfl
                have hDc := hD.sub (ws' := (wd_82cdd16b h1 h2 v1 x57 x58 x59 h2 g0 f5)) [1, 2] (by decide) rfl
                have hKc := hK.sub (tys' := [(g0, .int)]) [0] rfl
                have hFc := va_free (wc := (wd_82cdd16b h1 h2 v1 x57 x58 x59 h2 g0 f5)) hD hS hA [1, 2] rfl
                refine va_calli (va_runV (As := [.int 63]) (rest := []) ⟨hx, hb, hml, hown, hts⟩ (k_X10_take l dC dI h1 h2 v1 x57 x58 x59 g0 f5 63 ⟨by first | omega | decide, by first | omega | decide⟩ H.size) (cwV 1 hts g_X3_readClause_0 rfl rfl rfl (by decide +kernel) ⟨Nat.le_of_ble_eq_true rfl, Nat.le_of_ble_eq_true rfl⟩) ⟨fun a U g mk q => by obtain ⟨q0, q1, qP, qK, qD⟩ := q; exact ⟨q0, q1, qP, va_K.moved (u := U) (U := U.calling g mk a) (Vm.Alike.refl U.vm) qK, qD⟩, va_recv hKc hPc (ci := 10) (q0 := 0) rfl rfl, fun U hU hW => ⟨rfl, by rw [hU], by rw [hU]; exact hPc, va_K.moved hW.alike hKc, hDc.weaken (fun _ _ _ _ => trivial)⟩⟩ rfl rfl hl.1 rfl (lv_room (Nat.le_of_ble_eq_true rfl)) dX3_readClause_104 ⟨Nat.le_of_ble_eq_true rfl, Nat.le_of_ble_eq_true rfl⟩) hS (fun q _ h => hFc q h) hFc (fun ra62 u t H1 locs ht hvm hwra62 hB hz1 hk1 hS => ?_)
                obtain ⟨x63, x64, hP1, hK1, hD1⟩ := hB
                rw [ht] at hP1
                obtain ⟨hP, hD⟩ := va_join (wr := (wd_b958b9da h0 h1 h3 x56 h3 g1 fn60)) (w1 := (wd_82cdd16b h1 h2 v1 x63 x64 x59 h2 g0 f5)) hP hD [1, 2] [0, 3] rfl rfl (by decide) (by decide) hk1 hFc hP1 hD1
                generalize H1 = H at hP hS ⊢
                have hP := hP.sub (ws' := (wd_1ad0248d h0 h1 h3 x56 h1 h2 v1 x63 x64 x59 h2 g0 f5 h3 g1 fn60)) [0, 2, 3, 1] rfl
                have hD := hD.sub (ws' := (wd_1ad0248d h0 h1 h3 x56 h1 h2 v1 x63 x64 x59 h2 g0 f5 h3 g1 fn60)) [0, 2, 3, 1] (by decide) rfl
                have hP : va_P (dC, dI) vwCl (wd_1ad0248d h0 h1 h3 x56 h1 h2 v1 x63 x64 x59 h2 g0 f5 h3 g1 fn60) H := hP
                have hD : va_D A (wd_1ad0248d h0 h1 h3 x56 h1 h2 v1 x63 x64 x59 h2 g0 f5 h3 g1 fn60) := hD
                obtain ⟨wa_ra62, wb_ra62⟩ := hwra62
                have wa_ra62 : 0 ≤ ra62.toInt := wa_ra62
                have wb_ra62 : ra62.toInt ≤ 1 := wb_ra62
                refine lv_if_ne (tgt := 112) hx hb dX3_readClause_107 (by decide) (fun c65 => ?_) (fun c65 => ?_)
                · skip
                  have fc65 : ¬ (ra62.toInt = 0) := fun h9 => c65 (Int32.toInt_inj.mp h9)
                  refine lv_aload_n hx hb dX3_readClause_112 rfl (lv_at hl 2 rfl) ?_
                  refine va_get (D := (dC, dI)) (ci := 3) (v := .int x56) (C := RX3) (T := TX3) (N := 3) hx hb hts (fun _ h => List.mem_cons_of_mem _ (List.mem_append_left _ (List.mem_append_right _ h))) hown hK hP 0 rfl rfl 2 (by decide) (hts (.fieldLink RX3 15 "LeftArguments$LawReader" "used" "I") (List.mem_cons_of_mem _ (List.mem_append_left _ (List.mem_append_left _ (List.mem_of_getElem? (i := 37) rfl))))) (fun _ h9 => h9) rfl dX3_readClause_113 ?_
                  refine lv_istore_n (lv' := [(3, .int x56), (2, .int x11), (1, .int ra9), (0, .ref h0)]) hx hb dX3_readClause_116 rfl hl (by decide) rfl (fun ls hl => ?_)
                  refine lv_aload_n hx hb dX3_readClause_117 rfl (lv_at hl 3 rfl) ?_
                  refine lv_bipush (v := 12) hx hb dX3_readClause_118 (by decide) ?_
                  refine lv_iconst (v := 0) hx hb dX3_readClause_120 (by decide) ?_
                  have hPc := hP.sub (ws' := (wd_b958b9da h0 h1 h3 x56 h3 g1 fn60)) [0, 3] rfl
                  have hDc := hD.sub (ws' := (wd_b958b9da h0 h1 h3 x56 h3 g1 fn60)) [0, 3] (by decide) rfl
                  have hKc := hK.sub (tys' := [(g1, .int)]) [1] rfl
                  have hFc := va_free (wc := (wd_b958b9da h0 h1 h3 x56 h3 g1 fn60)) hD hS hA [0, 3] rfl
                  refine va_callv (va_runV (As := [.int 12, .int 0]) (rest := []) ⟨hx, hb, hml, hown, hts⟩ (k_X3_write l dC dI h0 h3 h1 x56 g1 fn60 12 0 ⟨by first | omega | decide, by first | omega | decide⟩ H.size) (cwV 2 hts g_X3_readClause_5 rfl rfl rfl (by decide +kernel) ⟨Nat.le_of_ble_eq_true rfl, Nat.le_of_ble_eq_true rfl⟩) ⟨fun a U g mk q => by obtain ⟨q0, q1, qP, qK, qD⟩ := q; exact ⟨q0, q1, qP, va_K.moved (u := U) (U := U.calling g mk a) (Vm.Alike.refl U.vm) qK, qD⟩, va_recv hKc hPc (ci := 3) (q0 := 0) rfl rfl, fun U hU hW => ⟨rfl, by rw [hU], by rw [hU]; exact hPc, va_K.moved hW.alike hKc, hDc.weaken (fun _ _ _ _ => trivial)⟩⟩ rfl rfl hl.1 rfl (lv_room (Nat.le_of_ble_eq_true rfl)) dX3_readClause_121 ⟨Nat.le_of_ble_eq_true rfl, Nat.le_of_ble_eq_true rfl⟩) hS (fun q _ h => hFc q h) hFc (fun u t H1 locs ht hvm hwra66 hB hz1 hk1 hS => ?_)
                  obtain ⟨x67, fn68, oa_x67, ob_x67, hP1, hK1, hD1⟩ := hB
                  rw [ht] at hP1
                  obtain ⟨hP, hD⟩ := va_join (wr := (wd_82cdd16b h1 h2 v1 x63 x64 x59 h2 g0 f5)) (w1 := (wd_b958b9da h0 h1 h3 x67 h3 g1 fn68)) hP hD [0, 3] [1, 2] rfl rfl (by decide) (by decide) hk1 hFc hP1 hD1
                  generalize H1 = H at hP hS ⊢
                  have hP := hP.sub (ws' := (wd_1ad0248d h0 h1 h3 x67 h1 h2 v1 x63 x64 x59 h2 g0 f5 h3 g1 fn68)) [2, 0, 1, 3] rfl
                  have hD := hD.sub (ws' := (wd_1ad0248d h0 h1 h3 x67 h1 h2 v1 x63 x64 x59 h2 g0 f5 h3 g1 fn68)) [2, 0, 1, 3] (by decide) rfl
                  have hP : va_P (dC, dI) vwCl (wd_1ad0248d h0 h1 h3 x67 h1 h2 v1 x63 x64 x59 h2 g0 f5 h3 g1 fn68) H := hP
                  have hD : va_D A (wd_1ad0248d h0 h1 h3 x67 h1 h2 v1 x63 x64 x59 h2 g0 f5 h3 g1 fn68) := hD
                  refine lv_aload_n hx hb dX3_readClause_124 rfl (lv_at hl 3 rfl) ?_
                  refine lv_iconst (v := 0) hx hb dX3_readClause_125 (by decide) ?_
                  have hPc := hP.sub (ws' := (wd_1ad0248d h0 h1 h3 x67 h1 h2 v1 x63 x64 x59 h2 g0 f5 h3 g1 fn68)) [0, 1, 2, 3] rfl
                  have hDc := hD.sub (ws' := (wd_1ad0248d h0 h1 h3 x67 h1 h2 v1 x63 x64 x59 h2 g0 f5 h3 g1 fn68)) [0, 1, 2, 3] (by decide) rfl
                  have hKc := hK.sub (tys' := [(g0, .int), (g1, .int)]) [0, 1] rfl
                  have hFc := va_free (wc := (wd_1ad0248d h0 h1 h3 x67 h1 h2 v1 x63 x64 x59 h2 g0 f5 h3 g1 fn68)) hD hS hA [0, 1, 2, 3] rfl
                  refine va_calli (va_runV (As := [.int 0]) (rest := []) ⟨hx, hb, hml, hown, hts⟩ (k_X3_readSum_6 l dC dI adK adV h0 h1 h2 h3 x67 v1 x63 x64 x59 g0 f5 g1 fn68 ⟨by first | omega | decide, by first | omega | decide⟩ ⟨by first | omega | decide, by first | omega | decide⟩ H.size) (cwV 1 hts g_X3_readClause_6 rfl rfl rfl (by decide +kernel) ⟨Nat.le_of_ble_eq_true rfl, Nat.le_of_ble_eq_true rfl⟩) ⟨fun a U g mk q => by obtain ⟨q0, q1, qP, qK, qD, n0, n1, n2⟩ := q; exact ⟨q0, q1, qP, va_K.moved (u := U) (U := U.calling g mk a) (Vm.Alike.refl U.vm) qK, qD, vk_R.same rfl n0, va_Z.moved (Vm.Alike.refl _) n1, vk_S.moved (Vm.Alike.refl _) n2⟩, va_recv hKc hPc (ci := 3) (q0 := 0) rfl rfl, fun U hU hW => ⟨rfl, by rw [hU], by rw [hU]; exact hPc, va_K.moved hW.alike hKc, hDc.weaken (fun _ _ _ _ => trivial), vk_R.warm hW h_vr_2, (by rw [hU]; exact (va_Z.moved hW.alike (va_Z.kept h_st_CS hS.2.1)).narrow hFc), (by rw [hU]; exact (vk_S.moved hW.alike (vk_S.kept h_st_S hS.2.1)).narrow hFc)⟩⟩ rfl rfl hl.1 rfl (lv_room (Nat.le_of_ble_eq_true rfl)) dX3_readClause_126 ⟨Nat.le_of_ble_eq_true rfl, Nat.le_of_ble_eq_true rfl⟩) hS (fun q _ h => hFc q h) hFc (fun ra69 u t H1 locs ht hvm hwra69 hB hz1 hk1 hS => ?_)
                  obtain ⟨x70, x71, x72, x73, fn74, oa_x70, ob_x70, hP1, hK1, hD1⟩ := hB
                  rw [ht] at hP1
                  obtain ⟨hP, hD⟩ := va_join (wr := []) (w1 := (wd_1ad0248d h0 h1 h3 x70 h1 h2 v1 x71 x72 x73 h2 g0 f5 h3 g1 fn74)) hP hD [0, 1, 2, 3] [] rfl rfl (by decide) (by decide) hk1 hFc hP1 hD1
                  generalize H1 = H at hP hS ⊢
                  have hP : va_P (dC, dI) vwCl (wd_1ad0248d h0 h1 h3 x70 h1 h2 v1 x71 x72 x73 h2 g0 f5 h3 g1 fn74) H := hP
                  have hD : va_D A (wd_1ad0248d h0 h1 h3 x70 h1 h2 v1 x71 x72 x73 h2 g0 f5 h3 g1 fn74) := hD
                  obtain ⟨wa_ra69, wb_ra69⟩ := hwra69
                  have wa_ra69 : 0 ≤ ra69.toInt := wa_ra69
                  have wb_ra69 : ra69.toInt ≤ 1 := wb_ra69
                  refine lv_if_ne (tgt := 134) hx hb dX3_readClause_129 (by decide) (fun c75 => ?_) (fun c75 => ?_)
                  · skip
                    have fc75 : ¬ (ra69.toInt = 0) := fun h9 => c75 (Int32.toInt_inj.mp h9)
                    refine lv_aload_n hx hb dX3_readClause_134 rfl (lv_at hl 3 rfl) ?_
                    refine lv_bipush (v := 13) hx hb dX3_readClause_135 (by decide) ?_
                    refine lv_iconst (v := 0) hx hb dX3_readClause_137 (by decide) ?_
                    have hPc := hP.sub (ws' := (wd_b958b9da h0 h1 h3 x70 h3 g1 fn74)) [0, 3] rfl
                    have hDc := hD.sub (ws' := (wd_b958b9da h0 h1 h3 x70 h3 g1 fn74)) [0, 3] (by decide) rfl
                    have hKc := hK.sub (tys' := [(g1, .int)]) [1] rfl
                    have hFc := va_free (wc := (wd_b958b9da h0 h1 h3 x70 h3 g1 fn74)) hD hS hA [0, 3] rfl
                    refine va_callv (va_runV (As := [.int 13, .int 0]) (rest := []) ⟨hx, hb, hml, hown, hts⟩ (k_X3_write l dC dI h0 h3 h1 x70 g1 fn74 13 0 ⟨by first | omega | decide, by first | omega | decide⟩ H.size) (cwV 2 hts g_X3_readClause_5 rfl rfl rfl (by decide +kernel) ⟨Nat.le_of_ble_eq_true rfl, Nat.le_of_ble_eq_true rfl⟩) ⟨fun a U g mk q => by obtain ⟨q0, q1, qP, qK, qD⟩ := q; exact ⟨q0, q1, qP, va_K.moved (u := U) (U := U.calling g mk a) (Vm.Alike.refl U.vm) qK, qD⟩, va_recv hKc hPc (ci := 3) (q0 := 0) rfl rfl, fun U hU hW => ⟨rfl, by rw [hU], by rw [hU]; exact hPc, va_K.moved hW.alike hKc, hDc.weaken (fun _ _ _ _ => trivial)⟩⟩ rfl rfl hl.1 rfl (lv_room (Nat.le_of_ble_eq_true rfl)) dX3_readClause_138 ⟨Nat.le_of_ble_eq_true rfl, Nat.le_of_ble_eq_true rfl⟩) hS (fun q _ h => hFc q h) hFc (fun u t H1 locs ht hvm hwra76 hB hz1 hk1 hS => ?_)
                    obtain ⟨x77, fn78, oa_x77, ob_x77, hP1, hK1, hD1⟩ := hB
                    rw [ht] at hP1
                    obtain ⟨hP, hD⟩ := va_join (wr := (wd_82cdd16b h1 h2 v1 x71 x72 x73 h2 g0 f5)) (w1 := (wd_b958b9da h0 h1 h3 x77 h3 g1 fn78)) hP hD [0, 3] [1, 2] rfl rfl (by decide) (by decide) hk1 hFc hP1 hD1
                    generalize H1 = H at hP hS ⊢
                    have hP := hP.sub (ws' := (wd_1ad0248d h0 h1 h3 x77 h1 h2 v1 x71 x72 x73 h2 g0 f5 h3 g1 fn78)) [2, 0, 1, 3] rfl
                    have hD := hD.sub (ws' := (wd_1ad0248d h0 h1 h3 x77 h1 h2 v1 x71 x72 x73 h2 g0 f5 h3 g1 fn78)) [2, 0, 1, 3] (by decide) rfl
                    have hP : va_P (dC, dI) vwCl (wd_1ad0248d h0 h1 h3 x77 h1 h2 v1 x71 x72 x73 h2 g0 f5 h3 g1 fn78) H := hP
                    have hD : va_D A (wd_1ad0248d h0 h1 h3 x77 h1 h2 v1 x71 x72 x73 h2 g0 f5 h3 g1 fn78) := hD
                    refine lv_iload_n hx hb dX3_readClause_141 rfl (lv_at hl 0 rfl) ?_
                    refine lv_sipush (v := 256) hx hb dX3_readClause_142 (by decide) ?_
                    have hJ80 : ∀ (fn79 : Nat → Int32) (H : Heap) (locs : List Loc) (ls : Array Slot), va_P (dC, dI) vwCl (wd_1ad0248d h0 h1 h3 x77 h1 h2 v1 x71 x72 x73 h2 g0 f5 h3 g1 fn79) H → va_D A (wd_1ad0248d h0 h1 h3 x77 h1 h2 v1 x71 x72 x73 h2 g0 f5 h3 g1 fn79) → va_S A s.heap H locs → lv_has ls 4 [(3, .int x56), (2, .int x11), (1, .int ra9), (0, .ref h0)] → W p l e ({ frames := 28, cells := 0, slots := 0, locals := 650 }) s m ([.ref h0] : List Value).toArray below meth c H locs 0 0 Q (F0 m 164 ls []) := by
                      intro fn79 H locs ls hP hD hS hl
                      refine lv_iconst (v := 1) hx hb dX3_readClause_164 (by decide) ?_
                      subst hQ
                      have hP9 := hP.sub (ws' := (wd_1ad0248d h0 h1 h3 x77 h1 h2 v1 x71 x72 x73 h2 g0 f5 h3 g1 fn79)) [0, 1, 2, 3] rfl
                      have hD9 := hD.sub (ws' := (wd_1ad0248d h0 h1 h3 x77 h1 h2 v1 x71 x72 x73 h2 g0 f5 h3 g1 fn79)) [0, 1, 2, 3] (by decide) rfl
                      have hK9 := hK.sub (tys' := []) [] rfl
                      exact W.zret (v := 1) hx hb hr rfl (fun t ht hW => ⟨⟨1, (), rfl, ⟨by first | omega | decide, by first | omega | decide⟩, x77, x71, x72, x73, fn79, by first | omega | decide, by first | omega | decide, by rw [ht]; exact hP9, va_K.moved hW.alike hK9, hD9⟩, hS.F ht⟩) hS.2.2 dX3_readClause_165
                    refine lv_icmp_ge (tgt := 164) hx hb dX3_readClause_145 (by decide) (fun c81 => ?_) (fun c81 => ?_)
                    · skip
                      have fc81 : 256 ≤ x56.toInt := Int32.le_iff_toInt_le.mp c81
                      exact hJ80 fn78 H locs ls hP hD hS (lv_sub hl [0, 1, 2, 3] rfl)
                    · skip
                      have fc81 : ¬ (256 ≤ x56.toInt) := fun h9 => c81 (Int32.le_iff_toInt_le.mpr h9)
                      refine lv_aload_n hx hb dX3_readClause_148 rfl (lv_at hl 3 rfl) ?_
                      refine va_get (D := (dC, dI)) (ci := 3) (v := .ref h3) (C := RX3) (T := TX3) (N := 3) hx hb hts (fun _ h => List.mem_cons_of_mem _ (List.mem_append_left _ (List.mem_append_right _ h))) hown hK hP 0 rfl rfl 1 (by decide) (hts (.fieldLink RX3 11 "LeftArguments$LawReader" "code" "[I") (List.mem_cons_of_mem _ (List.mem_append_left _ (List.mem_append_left _ (List.mem_of_getElem? (i := 38) rfl))))) (fun _ h9 => h9) rfl dX3_readClause_149 ?_
                      refine lv_iload_n hx hb dX3_readClause_152 rfl (lv_at hl 0 rfl) ?_
                      refine lv_aload_n hx hb dX3_readClause_153 rfl (lv_at hl 3 rfl) ?_
                      refine va_get (D := (dC, dI)) (ci := 3) (v := .int x77) (C := RX3) (T := TX3) (N := 3) hx hb hts (fun _ h => List.mem_cons_of_mem _ (List.mem_append_left _ (List.mem_append_right _ h))) hown hK hP 0 rfl rfl 2 (by decide) (hts (.fieldLink RX3 15 "LeftArguments$LawReader" "used" "I") (List.mem_cons_of_mem _ (List.mem_append_left _ (List.mem_append_left _ (List.mem_of_getElem? (i := 37) rfl))))) (fun _ h9 => h9) rfl dX3_readClause_154 ?_
                      refine lv_bipush (v := 16) hx hb dX3_readClause_157 (by decide) ?_
                      refine lv_imul hx hb dX3_readClause_159 ?_
                      refine lv_topi (fun t82 et82 => ?_)
                      have gt82 : t82.toInt = x77.toInt * 16 := pv_mul (a := x77.toInt) (b := 16) et82 rfl (by decide) (by omega) (by omega)
                      refine lv_bipush (v := 12) hx hb dX3_readClause_160 (by decide) ?_
                      refine lv_iadd hx hb dX3_readClause_162 ?_
                      refine lv_topi (fun t83 et83 => ?_)
                      have gt83 : t83.toInt = t82.toInt + 12 := pv_add (a := t82.toInt) (b := 12) et83 rfl (by decide) (by omega) (by omega)
                      refine va_iast hx hb hK hP hD hS 3 1 rfl rfl (vp_in_iff.mpr ⟨by omega, by omega⟩) dX3_readClause_163 (fun H locs hP hD hS => ?_)
                      obtain ⟨fn84, efn84⟩ : ∃ g : Nat → Int32, g = upd fn78 (Int32.toNatClampNeg x56) t83 := ⟨_, rfl⟩
                      rw [← efn84] at hP hD
                      have hP : va_P (dC, dI) vwCl (wd_1ad0248d h0 h1 h3 x77 h1 h2 v1 x71 x72 x73 h2 g0 f5 h3 g1 fn84) H := hP
                      have hD : va_D A (wd_1ad0248d h0 h1 h3 x77 h1 h2 v1 x71 x72 x73 h2 g0 f5 h3 g1 fn84) := hD
                      exact hJ80 fn84 H locs ls hP hD hS (lv_sub hl [0, 1, 2, 3] rfl)
                  · skip
                    have fc75 : ra69.toInt = 0 := congrArg Int32.toInt c75
                    refine lv_iconst (v := 0) hx hb dX3_readClause_132 (by decide) ?_
                    subst hQ
                    have hP9 := hP.sub (ws' := (wd_1ad0248d h0 h1 h3 x70 h1 h2 v1 x71 x72 x73 h2 g0 f5 h3 g1 fn74)) [0, 1, 2, 3] rfl
                    have hD9 := hD.sub (ws' := (wd_1ad0248d h0 h1 h3 x70 h1 h2 v1 x71 x72 x73 h2 g0 f5 h3 g1 fn74)) [0, 1, 2, 3] (by decide) rfl
                    have hK9 := hK.sub (tys' := []) [] rfl
                    exact W.zret (v := 0) hx hb hr rfl (fun t ht hW => ⟨⟨0, (), rfl, ⟨by first | omega | decide, by first | omega | decide⟩, x70, x71, x72, x73, fn74, by first | omega | decide, by first | omega | decide, by rw [ht]; exact hP9, va_K.moved hW.alike hK9, hD9⟩, hS.F ht⟩) hS.2.2 dX3_readClause_133
                · skip
                  have fc65 : ra62.toInt = 0 := congrArg Int32.toInt c65
                  refine lv_iconst (v := 0) hx hb dX3_readClause_110 (by decide) ?_
                  subst hQ
                  have hP9 := hP.sub (ws' := (wd_1ad0248d h0 h1 h3 x56 h1 h2 v1 x63 x64 x59 h2 g0 f5 h3 g1 fn60)) [0, 1, 2, 3] rfl
                  have hD9 := hD.sub (ws' := (wd_1ad0248d h0 h1 h3 x56 h1 h2 v1 x63 x64 x59 h2 g0 f5 h3 g1 fn60)) [0, 1, 2, 3] (by decide) rfl
                  have hK9 := hK.sub (tys' := []) [] rfl
                  exact W.zret (v := 0) hx hb hr rfl (fun t ht hW => ⟨⟨0, (), rfl, ⟨by first | omega | decide, by first | omega | decide⟩, x56, x63, x64, x59, fn60, by first | omega | decide, by first | omega | decide, by rw [ht]; exact hP9, va_K.moved hW.alike hK9, hD9⟩, hS.F ht⟩) hS.2.2 dX3_readClause_111
            · skip
              have fc54 : ra53.toInt = (-1) := congrArg Int32.toInt c54
              refine lv_aload_n hx hb dX3_readClause_80 rfl (lv_at hl 2 rfl) ?_
              refine lv_bipush (v := 13) hx hb dX3_readClause_81 (by decide) ?_
              refine lv_iconst (v := 0) hx hb dX3_readClause_83 (by decide) ?_
              have hPc := hP.sub (ws' := (wd_b958b9da h0 h1 h3 x45 h3 g1 fn49)) [0, 3] rfl
              have hDc := hD.sub (ws' := (wd_b958b9da h0 h1 h3 x45 h3 g1 fn49)) [0, 3] (by decide) rfl
              have hKc := hK.sub (tys' := [(g1, .int)]) [1] rfl
              have hFc := va_free (wc := (wd_b958b9da h0 h1 h3 x45 h3 g1 fn49)) hD hS hA [0, 3] rfl
              refine va_callv (va_runV (As := [.int 13, .int 0]) (rest := []) ⟨hx, hb, hml, hown, hts⟩ (k_X3_write l dC dI h0 h3 h1 x45 g1 fn49 13 0 ⟨by first | omega | decide, by first | omega | decide⟩ H.size) (cwV 2 hts g_X3_readClause_5 rfl rfl rfl (by decide +kernel) ⟨Nat.le_of_ble_eq_true rfl, Nat.le_of_ble_eq_true rfl⟩) ⟨fun a U g mk q => by obtain ⟨q0, q1, qP, qK, qD⟩ := q; exact ⟨q0, q1, qP, va_K.moved (u := U) (U := U.calling g mk a) (Vm.Alike.refl U.vm) qK, qD⟩, va_recv hKc hPc (ci := 3) (q0 := 0) rfl rfl, fun U hU hW => ⟨rfl, by rw [hU], by rw [hU]; exact hPc, va_K.moved hW.alike hKc, hDc.weaken (fun _ _ _ _ => trivial)⟩⟩ rfl rfl hl.1 rfl (lv_room (Nat.le_of_ble_eq_true rfl)) dX3_readClause_84 ⟨Nat.le_of_ble_eq_true rfl, Nat.le_of_ble_eq_true rfl⟩) hS (fun q _ h => hFc q h) hFc (fun u t H1 locs ht hvm hwra85 hB hz1 hk1 hS => ?_)
              obtain ⟨x86, fn87, oa_x86, ob_x86, hP1, hK1, hD1⟩ := hB
              rw [ht] at hP1
              obtain ⟨hP, hD⟩ := va_join (wr := (wd_82cdd16b h1 h2 v1 x52 x47 x48 h2 g0 f5)) (w1 := (wd_b958b9da h0 h1 h3 x86 h3 g1 fn87)) hP hD [0, 3] [1, 2] rfl rfl (by decide) (by decide) hk1 hFc hP1 hD1
              generalize H1 = H at hP hS ⊢
              have hP := hP.sub (ws' := (wd_1ad0248d h0 h1 h3 x86 h1 h2 v1 x52 x47 x48 h2 g0 f5 h3 g1 fn87)) [2, 0, 1, 3] rfl
              have hD := hD.sub (ws' := (wd_1ad0248d h0 h1 h3 x86 h1 h2 v1 x52 x47 x48 h2 g0 f5 h3 g1 fn87)) [2, 0, 1, 3] (by decide) rfl
              have hP : va_P (dC, dI) vwCl (wd_1ad0248d h0 h1 h3 x86 h1 h2 v1 x52 x47 x48 h2 g0 f5 h3 g1 fn87) H := hP
              have hD : va_D A (wd_1ad0248d h0 h1 h3 x86 h1 h2 v1 x52 x47 x48 h2 g0 f5 h3 g1 fn87) := hD
              refine lv_iconst (v := 1) hx hb dX3_readClause_87 (by decide) ?_
              subst hQ
              have hP9 := hP.sub (ws' := (wd_1ad0248d h0 h1 h3 x86 h1 h2 v1 x52 x47 x48 h2 g0 f5 h3 g1 fn87)) [0, 1, 2, 3] rfl
              have hD9 := hD.sub (ws' := (wd_1ad0248d h0 h1 h3 x86 h1 h2 v1 x52 x47 x48 h2 g0 f5 h3 g1 fn87)) [0, 1, 2, 3] (by decide) rfl
              have hK9 := hK.sub (tys' := []) [] rfl
              exact W.zret (v := 1) hx hb hr rfl (fun t ht hW => ⟨⟨1, (), rfl, ⟨by first | omega | decide, by first | omega | decide⟩, x86, x52, x47, x48, fn87, by first | omega | decide, by first | omega | decide, by rw [ht]; exact hP9, va_K.moved hW.alike hK9, hD9⟩, hS.F ht⟩) hS.2.2 dX3_readClause_88
          · skip
            have fc50 : ra44.toInt = 0 := congrArg Int32.toInt c50
            refine lv_iconst (v := 0) hx hb dX3_readClause_64 (by decide) ?_
            subst hQ
            have hP9 := hP.sub (ws' := (wd_1ad0248d h0 h1 h3 x45 h1 h2 v1 x46 x47 x48 h2 g0 f5 h3 g1 fn49)) [0, 1, 2, 3] rfl
            have hD9 := hD.sub (ws' := (wd_1ad0248d h0 h1 h3 x45 h1 h2 v1 x46 x47 x48 h2 g0 f5 h3 g1 fn49)) [0, 1, 2, 3] (by decide) rfl
            have hK9 := hK.sub (tys' := []) [] rfl
            exact W.zret (v := 0) hx hb hr rfl (fun t ht hW => ⟨⟨0, (), rfl, ⟨by first | omega | decide, by first | omega | decide⟩, x45, x46, x47, x48, fn49, by first | omega | decide, by first | omega | decide, by rw [ht]; exact hP9, va_K.moved hW.alike hK9, hD9⟩, hS.F ht⟩) hS.2.2 dX3_readClause_65
      refine lv_icmp_eq (tgt := 50) hx hb dX3_readClause_37 (by decide) (fun c88 => ?_) (fun c88 => ?_)
      · skip
        have fc88 : ra9.toInt = 33 := congrArg Int32.toInt c88
        refine lv_iconst (v := 0) hx hb dX3_readClause_50 (by decide) ?_
        exact hJ12 0 H locs ls (by first | omega | decide) (by first | omega | decide) hP hD hS (lv_sub hl [0, 1] rfl)
      · skip
        have fc88 : ¬ (ra9.toInt = 33) := fun h9 => c88 (Int32.toInt_inj.mp h9)
        refine lv_iload_n hx hb dX3_readClause_40 rfl (lv_at hl 0 rfl) ?_
        refine lv_bipush (v := 40) hx hb dX3_readClause_41 (by decide) ?_
        refine lv_icmp_eq (tgt := 50) hx hb dX3_readClause_43 (by decide) (fun c89 => ?_) (fun c89 => ?_)
        · skip
          have fc89 : ra9.toInt = 40 := congrArg Int32.toInt c89
          refine lv_iconst (v := 0) hx hb dX3_readClause_50 (by decide) ?_
          exact hJ12 0 H locs ls (by first | omega | decide) (by first | omega | decide) hP hD hS (lv_sub hl [0, 1] rfl)
        · skip
          have fc89 : ¬ (ra9.toInt = 40) := fun h9 => c89 (Int32.toInt_inj.mp h9)
          refine lv_iconst (v := 1) hx hb dX3_readClause_46 (by decide) ?_
          refine lv_goto (tgt := 51) hx hb dX3_readClause_47 (by decide) ?_
          exact hJ12 1 H locs ls (by first | omega | decide) (by first | omega | decide) hP hD hS (lv_sub hl [0, 1] rfl)
    · skip
      have fc8 : ra5.toInt = 0 := congrArg Int32.toInt c8
      refine lv_iconst (v := 0) hx hb dX3_readClause_24 (by decide) ?_
      subst hQ
      have hP9 := hP.sub (ws' := (wd_1ad0248d h0 h1 h3 v0 h1 h2 v1 x6 x7 v4 h2 g0 f5 h3 g1 f6)) [0, 1, 2, 3] rfl
      have hD9 := hD.sub (ws' := (wd_1ad0248d h0 h1 h3 v0 h1 h2 v1 x6 x7 v4 h2 g0 f5 h3 g1 f6)) [0, 1, 2, 3] (by decide) rfl
      have hK9 := hK.sub (tys' := []) [] rfl
      exact W.zret (v := 0) hx hb hr rfl (fun t ht hW => ⟨⟨0, (), rfl, ⟨by first | omega | decide, by first | omega | decide⟩, v0, x6, x7, v4, f6, by first | omega | decide, by first | omega | decide, by rw [ht]; exact hP9, va_K.moved hW.alike hK9, hD9⟩, hS.F ht⟩) hS.2.2 dX3_readClause_25
def q_X3_read : List Cond := .code yX3_read cX3_read 2 (some .int) :: (([.fieldLink RX3 19 "LeftArguments$LawReader" "tape" "LLeftArguments$Tape;", .code yX10_rewind cX10_rewind 1 none, .fieldLink RX10 19 "LeftArguments$Tape" "at" "I", .fieldLink RX10 22 "LeftArguments$Tape" "wrongAt" "I", .initialized RX10, .instanceMethod yX10_rewind, .selects RX10 yX10_rewind yX10_rewind, .methodLink RX3 35 yX10_rewind, .fieldLink RX3 15 "LeftArguments$LawReader" "used" "I", .code yX10_used cX10_used 1 (some .int), .fieldLink RX10 15 "LeftArguments$Tape" "used" "I", .instanceMethod yX10_used, .selects RX10 yX10_used yX10_used, .methodLink RX3 55 yX10_used, .code yX3_readClause cX3_readClause 4 (some .boolean), .code yX10_take cX10_take 2 (some .boolean), .code yX10_next cX10_next 1 (some .int), .fieldLink RX10 9 "LeftArguments$Tape" "bytes" "[I", .instanceMethod yX10_next, .selects RX10 yX10_next yX10_next, .methodLink RX10 37 yX10_next, .code yX10_wrongHere cX10_wrongHere 1 (some .boolean), .instanceMethod yX10_wrongHere, .selects RX10 yX10_wrongHere yX10_wrongHere, .methodLink RX10 41 yX10_wrongHere, .instanceMethod yX10_take, .selects RX10 yX10_take yX10_take, .methodLink RX3 51 yX10_take, .methodLink RX3 48 yX10_next, .code yX3_readCondition cX3_readCondition 4 (some .boolean), .code yX3_readTruth cX3_readTruth 4 (some .boolean), .code yX3_readUnit cX3_readUnit 5 (some .boolean), .code yX3_comparing cX3_comparing 1 (some .int), .initialized RX3, .static yX3_comparing, .methodLink RX3 62 yX3_comparing, .code yX10_step cX10_step 1 none, .instanceMethod yX10_step, .selects RX10 yX10_step yX10_step, .methodLink RX3 77 yX10_step, .code yX3_readSum cX3_readSum 4 (some .boolean), .code yX3_readTerm cX3_readTerm 4 (some .boolean), .code yX3_readAtom cX3_readAtom 4 (some .boolean), .code yX10_isDigit cX10_isDigit 1 (some .boolean), .static yX10_isDigit, .methodLink RX3 92 yX10_isDigit, .code yX3_write cX3_write 3 none, .fieldLink RX3 11 "LeftArguments$LawReader" "code" "[I", .instanceMethod yX3_write, .selects RX3 yX3_write yX3_write, .methodLink RX3 66 yX3_write, .methodLink RX3 83 yX10_wrongHere, .code yJ0_indexOf_0f7a4 cJ0_indexOf_0f7a4 2 (some .int), .code yJ0_indexOf_7cf53 cJ0_indexOf_7cf53 3 (some .int), .code yJ0_isLatin1_aae02 cJ0_isLatin1_aae02 1 (some .boolean), .fieldLink RJ0 38 "java/lang/String" "COMPACT_STRINGS" "Z", .fieldLink RJ0 15 "java/lang/String" "coder" "B", .initialized RJ0, .instanceMethod yJ0_isLatin1_aae02, .selects RJ0 yJ0_isLatin1_aae02 yJ0_isLatin1_aae02, .methodLink RJ0 492 yJ0_isLatin1_aae02, .fieldLink RJ0 9 "java/lang/String" "value" "[B", .code yJ0_length_8abf5 cJ0_length_8abf5 1 (some .int), .code yJ0_coder_7d493 cJ0_coder_7d493 1 (some .byte), .instanceMethod yJ0_coder_7d493, .selects RJ0 yJ0_coder_7d493 yJ0_coder_7d493, .methodLink RJ0 335 yJ0_coder_7d493, .instanceMethod yJ0_length_8abf5, .selects RJ0 yJ0_length_8abf5 yJ0_length_8abf5, .methodLink RJ0 505 yJ0_length_8abf5, .code yJ1_indexOf_4cfef cJ1_indexOf_4cfef 4 (some .int), .code yJ1_canEncode_9a6ad cJ1_canEncode_9a6ad 1 (some .boolean), .initialized RJ1, .static yJ1_canEncode_9a6ad, .methodLink RJ1 88 yJ1_canEncode_9a6ad, .methodLink RJ1 92 Lib.Math.max.name, .static Lib.Math.max.name, .initialized "java/lang/Math", .code Lib.Math.max.name Lib.Math.max.code 2 (some .int), .methodLink RJ1 38 Lib.Math.min.name, .static Lib.Math.min.name, .code Lib.Math.min.name Lib.Math.min.code 2 (some .int), .code yJ1_indexOfChar_4cfef cJ1_indexOfChar_4cfef 6 (some .int), .static yJ1_indexOfChar_4cfef, .methodLink RJ1 95 yJ1_indexOfChar_4cfef, .static yJ1_indexOf_4cfef, .methodLink RJ0 637 yJ1_indexOf_4cfef, .instanceMethod yJ0_indexOf_7cf53, .selects RJ0 yJ0_indexOf_7cf53 yJ0_indexOf_7cf53, .methodLink RJ0 633 yJ0_indexOf_7cf53, .instanceMethod yJ0_indexOf_0f7a4, .selects RJ0 yJ0_indexOf_0f7a4 yJ0_indexOf_0f7a4, .methodLink RX3 103 yJ0_indexOf_0f7a4, .code yX10_takeNumber cX10_takeNumber 3 (some .boolean), .methodLink RX10 45 yX10_isDigit, .fieldLink RX10 25 "LeftArguments$Tape" "number" "I", .code yX10_sign cX10_sign 1 (some .int), .instanceMethod yX10_sign, .selects RX10 yX10_sign yX10_sign, .methodLink RX10 49 yX10_sign, .instanceMethod yX10_takeNumber, .selects RX10 yX10_takeNumber yX10_takeNumber, .methodLink RX3 95 yX10_takeNumber, .code yX10_number cX10_number 1 (some .int), .instanceMethod yX10_number, .selects RX10 yX10_number yX10_number, .methodLink RX3 98 yX10_number, .instanceMethod yX3_readAtom, .selects RX3 yX3_readAtom yX3_readAtom, .methodLink RX3 89 yX3_readAtom, .instanceMethod yX3_readTerm, .selects RX3 yX3_readTerm yX3_readTerm, .methodLink RX3 86 yX3_readTerm, .instanceMethod yX3_readSum, .selects RX3 yX3_readSum yX3_readSum, .methodLink RX3 59 yX3_readSum, .instanceMethod yX3_readUnit, .selects RX3 yX3_readUnit yX3_readUnit, .methodLink RX3 80 yX3_readUnit, .instanceMethod yX3_readTruth, .selects RX3 yX3_readTruth yX3_readTruth, .methodLink RX3 74 yX3_readTruth, .instanceMethod yX3_readCondition, .selects RX3 yX3_readCondition yX3_readCondition, .methodLink RX3 70 yX3_readCondition, .instanceMethod yX3_readClause, .selects RX3 yX3_readClause yX3_readClause, .methodLink RX3 40 yX3_readClause, .code yX10_wrongAt cX10_wrongAt 1 (some .int), .instanceMethod yX10_wrongAt, .selects RX10 yX10_wrongAt yX10_wrongAt, .methodLink RX3 44 yX10_wrongAt] : List Cond) ++ wsX30 ++ wsX100)
set_option maxRecDepth 20000 in
theorem g_X3_read_0 : GoodIn q_X3_read (wsV RX3 35 RX10 yX10_rewind q_X10_rewind) := goodIn_app (goodIn_r _ [8, 6, 7, 5] rfl (by decide +kernel)) (goodIn_ca (goodIn_r (.code yX10_rewind cX10_rewind 1 none :: [.fieldLink RX10 19 "LeftArguments$Tape" "at" "I", .fieldLink RX10 22 "LeftArguments$Tape" "wrongAt" "I"]) [2, 3, 4] rfl (by decide +kernel)) (goodIn_sub (fun _ h => List.mem_cons_of_mem _ (List.mem_append_right _ h)) gwX10))
set_option maxRecDepth 20000 in
theorem g_X3_read_1 : GoodIn q_X3_read (wsV RX3 55 RX10 yX10_used q_X10_used) := goodIn_app (goodIn_r _ [14, 12, 13, 5] rfl (by decide +kernel)) (goodIn_ca (goodIn_r (.code yX10_used cX10_used 1 (some .int) :: [.fieldLink RX10 15 "LeftArguments$Tape" "used" "I"]) [10, 11] rfl (by decide +kernel)) (goodIn_sub (fun _ h => List.mem_cons_of_mem _ (List.mem_append_right _ h)) gwX10))
set_option maxRecDepth 20000 in
theorem g_X3_read_2 : GoodIn q_X3_read (wsV RX3 40 RX3 yX3_readClause q_X3_readClause) := goodIn_app (goodIn_r _ [128, 126, 127, 34] rfl (by decide +kernel)) (goodIn_ca (goodIn_ca (goodIn_r (.code yX3_readClause cX3_readClause 4 (some .boolean) :: [.fieldLink RX3 19 "LeftArguments$LawReader" "tape" "LLeftArguments$Tape;", .code yX10_take cX10_take 2 (some .boolean), .code yX10_next cX10_next 1 (some .int), .fieldLink RX10 19 "LeftArguments$Tape" "at" "I", .fieldLink RX10 15 "LeftArguments$Tape" "used" "I", .fieldLink RX10 9 "LeftArguments$Tape" "bytes" "[I", .initialized RX10, .instanceMethod yX10_next, .selects RX10 yX10_next yX10_next, .methodLink RX10 37 yX10_next, .code yX10_wrongHere cX10_wrongHere 1 (some .boolean), .fieldLink RX10 22 "LeftArguments$Tape" "wrongAt" "I", .instanceMethod yX10_wrongHere, .selects RX10 yX10_wrongHere yX10_wrongHere, .methodLink RX10 41 yX10_wrongHere, .instanceMethod yX10_take, .selects RX10 yX10_take yX10_take, .methodLink RX3 51 yX10_take, .methodLink RX3 48 yX10_next, .code yX3_readCondition cX3_readCondition 4 (some .boolean), .code yX3_readTruth cX3_readTruth 4 (some .boolean), .code yX3_readUnit cX3_readUnit 5 (some .boolean), .code yX3_comparing cX3_comparing 1 (some .int), .initialized RX3, .static yX3_comparing, .methodLink RX3 62 yX3_comparing, .code yX10_step cX10_step 1 none, .instanceMethod yX10_step, .selects RX10 yX10_step yX10_step, .methodLink RX3 77 yX10_step, .code yX3_readSum cX3_readSum 4 (some .boolean), .code yX3_readTerm cX3_readTerm 4 (some .boolean), .code yX3_readAtom cX3_readAtom 4 (some .boolean), .code yX10_isDigit cX10_isDigit 1 (some .boolean), .static yX10_isDigit, .methodLink RX3 92 yX10_isDigit, .code yX3_write cX3_write 3 none, .fieldLink RX3 15 "LeftArguments$LawReader" "used" "I", .fieldLink RX3 11 "LeftArguments$LawReader" "code" "[I", .instanceMethod yX3_write, .selects RX3 yX3_write yX3_write, .methodLink RX3 66 yX3_write, .methodLink RX3 83 yX10_wrongHere, .code yJ0_indexOf_0f7a4 cJ0_indexOf_0f7a4 2 (some .int), .code yJ0_indexOf_7cf53 cJ0_indexOf_7cf53 3 (some .int), .code yJ0_isLatin1_aae02 cJ0_isLatin1_aae02 1 (some .boolean), .fieldLink RJ0 38 "java/lang/String" "COMPACT_STRINGS" "Z", .fieldLink RJ0 15 "java/lang/String" "coder" "B", .initialized RJ0, .instanceMethod yJ0_isLatin1_aae02, .selects RJ0 yJ0_isLatin1_aae02 yJ0_isLatin1_aae02, .methodLink RJ0 492 yJ0_isLatin1_aae02, .fieldLink RJ0 9 "java/lang/String" "value" "[B", .code yJ0_length_8abf5 cJ0_length_8abf5 1 (some .int), .code yJ0_coder_7d493 cJ0_coder_7d493 1 (some .byte), .instanceMethod yJ0_coder_7d493, .selects RJ0 yJ0_coder_7d493 yJ0_coder_7d493, .methodLink RJ0 335 yJ0_coder_7d493, .instanceMethod yJ0_length_8abf5, .selects RJ0 yJ0_length_8abf5 yJ0_length_8abf5, .methodLink RJ0 505 yJ0_length_8abf5, .code yJ1_indexOf_4cfef cJ1_indexOf_4cfef 4 (some .int), .code yJ1_canEncode_9a6ad cJ1_canEncode_9a6ad 1 (some .boolean), .initialized RJ1, .static yJ1_canEncode_9a6ad, .methodLink RJ1 88 yJ1_canEncode_9a6ad, .methodLink RJ1 92 Lib.Math.max.name, .static Lib.Math.max.name, .initialized "java/lang/Math", .code Lib.Math.max.name Lib.Math.max.code 2 (some .int), .methodLink RJ1 38 Lib.Math.min.name, .static Lib.Math.min.name, .code Lib.Math.min.name Lib.Math.min.code 2 (some .int), .code yJ1_indexOfChar_4cfef cJ1_indexOfChar_4cfef 6 (some .int), .static yJ1_indexOfChar_4cfef, .methodLink RJ1 95 yJ1_indexOfChar_4cfef, .static yJ1_indexOf_4cfef, .methodLink RJ0 637 yJ1_indexOf_4cfef, .instanceMethod yJ0_indexOf_7cf53, .selects RJ0 yJ0_indexOf_7cf53 yJ0_indexOf_7cf53, .methodLink RJ0 633 yJ0_indexOf_7cf53, .instanceMethod yJ0_indexOf_0f7a4, .selects RJ0 yJ0_indexOf_0f7a4 yJ0_indexOf_0f7a4, .methodLink RX3 103 yJ0_indexOf_0f7a4, .code yX10_takeNumber cX10_takeNumber 3 (some .boolean), .methodLink RX10 45 yX10_isDigit, .fieldLink RX10 25 "LeftArguments$Tape" "number" "I", .code yX10_sign cX10_sign 1 (some .int), .instanceMethod yX10_sign, .selects RX10 yX10_sign yX10_sign, .methodLink RX10 49 yX10_sign, .instanceMethod yX10_takeNumber, .selects RX10 yX10_takeNumber yX10_takeNumber, .methodLink RX3 95 yX10_takeNumber, .code yX10_number cX10_number 1 (some .int), .instanceMethod yX10_number, .selects RX10 yX10_number yX10_number, .methodLink RX3 98 yX10_number, .instanceMethod yX3_readAtom, .selects RX3 yX3_readAtom yX3_readAtom, .methodLink RX3 89 yX3_readAtom, .instanceMethod yX3_readTerm, .selects RX3 yX3_readTerm yX3_readTerm, .methodLink RX3 86 yX3_readTerm, .instanceMethod yX3_readSum, .selects RX3 yX3_readSum yX3_readSum, .methodLink RX3 59 yX3_readSum, .instanceMethod yX3_readUnit, .selects RX3 yX3_readUnit yX3_readUnit, .methodLink RX3 80 yX3_readUnit, .instanceMethod yX3_readTruth, .selects RX3 yX3_readTruth yX3_readTruth, .methodLink RX3 74 yX3_readTruth, .instanceMethod yX3_readCondition, .selects RX3 yX3_readCondition yX3_readCondition, .methodLink RX3 70 yX3_readCondition]) [15, 1, 16, 17, 3, 11, 18, 5, 19, 20, 21, 22, 4, 23, 24, 25, 26, 27, 28, 29, 30, 31, 32, 33, 34, 35, 36, 37, 38, 39, 40, 41, 42, 43, 44, 45, 46, 47, 9, 48, 49, 50, 51, 52, 53, 54, 55, 56, 57, 58, 59, 60, 61, 62, 63, 64, 65, 66, 67, 68, 69, 70, 71, 72, 73, 74, 75, 76, 77, 78, 79, 80, 81, 82, 83, 84, 85, 86, 87, 88, 89, 90, 91, 92, 93, 94, 95, 96, 97, 98, 99, 100, 101, 102, 103, 104, 105, 106, 107, 108, 109, 110, 111, 112, 113, 114, 115, 116, 117, 118, 119, 120, 121, 122, 123, 124, 125] rfl (by decide +kernel)) (goodIn_sub (fun _ h => List.mem_cons_of_mem _ (List.mem_append_left _ (List.mem_append_right _ h))) gwX3)) (goodIn_sub (fun _ h => List.mem_cons_of_mem _ (List.mem_append_right _ h)) gwX10))
set_option maxRecDepth 20000 in
theorem g_X3_read_3 : GoodIn q_X3_read (wsV RX3 48 RX10 yX10_next q_X10_next) := goodIn_app (goodIn_r _ [29, 19, 20, 5] rfl (by decide +kernel)) (goodIn_ca (goodIn_r (.code yX10_next cX10_next 1 (some .int) :: [.fieldLink RX10 19 "LeftArguments$Tape" "at" "I", .fieldLink RX10 15 "LeftArguments$Tape" "used" "I", .fieldLink RX10 9 "LeftArguments$Tape" "bytes" "[I"]) [17, 3, 11, 18] rfl (by decide +kernel)) (goodIn_sub (fun _ h => List.mem_cons_of_mem _ (List.mem_append_right _ h)) gwX10))
set_option maxRecDepth 20000 in
theorem g_X3_read_4 : GoodIn q_X3_read (wsV RX3 51 RX10 yX10_take q_X10_take) := goodIn_app (goodIn_r _ [28, 26, 27, 5] rfl (by decide +kernel)) (goodIn_ca (goodIn_r (.code yX10_take cX10_take 2 (some .boolean) :: [.code yX10_next cX10_next 1 (some .int), .fieldLink RX10 19 "LeftArguments$Tape" "at" "I", .fieldLink RX10 15 "LeftArguments$Tape" "used" "I", .fieldLink RX10 9 "LeftArguments$Tape" "bytes" "[I", .initialized RX10, .instanceMethod yX10_next, .selects RX10 yX10_next yX10_next, .methodLink RX10 37 yX10_next, .code yX10_wrongHere cX10_wrongHere 1 (some .boolean), .fieldLink RX10 22 "LeftArguments$Tape" "wrongAt" "I", .instanceMethod yX10_wrongHere, .selects RX10 yX10_wrongHere yX10_wrongHere, .methodLink RX10 41 yX10_wrongHere]) [16, 17, 3, 11, 18, 5, 19, 20, 21, 22, 4, 23, 24, 25] rfl (by decide +kernel)) (goodIn_sub (fun _ h => List.mem_cons_of_mem _ (List.mem_append_right _ h)) gwX10))
set_option maxRecDepth 20000 in
theorem g_X3_read_5 : GoodIn q_X3_read (wsV RX3 44 RX10 yX10_wrongAt q_X10_wrongAt) := goodIn_app (goodIn_r _ [132, 130, 131, 5] rfl (by decide +kernel)) (goodIn_ca (goodIn_r (.code yX10_wrongAt cX10_wrongAt 1 (some .int) :: [.fieldLink RX10 22 "LeftArguments$Tape" "wrongAt" "I"]) [129, 4] rfl (by decide +kernel)) (goodIn_sub (fun _ h => List.mem_cons_of_mem _ (List.mem_append_right _ h)) gwX10))
set_option maxHeartbeats 4000000 in
set_option maxRecDepth 100000 in
theorem k_X3_read (l : Launch) (dC : Nat → ClassId) (dI : Nat → Nat → Nat) (adK : Nat → Nat) (adV : Nat → Nat) (h0 : Nat) (h1 : Nat) (h2 : Nat) (h3 : Nat) (v0 : Int32) (v1 : Int32) (v2 : Int32) (v3 : Int32) (v4 : Int32) (g0 : ClassId) (f5 : Nat → Int32) (g1 : ClassId) (f6 : Nat → Int32) (i_v0 : 0 ≤ v0.toInt ∧ v0.toInt ≤ 256) (i_v1 : 0 ≤ v1.toInt ∧ v1.toInt ≤ 240) (sz : Nat) : Met l yX3_read q_X3_read ({ frames := 29, cells := 0, slots := 0, locals := 673 }) (va_Pc [.ref h0] (fun U => U.heap.size = sz ∧ va_P (dC, dI) vwCl (wd_1ad0248d h0 h1 h3 v0 h1 h2 v1 v2 v3 v4 h2 g0 f5 h3 g1 f6) U.heap ∧ va_K (dC, dI) vwCl [(g0, .int), (g1, .int)] U ∧ va_D (fun _ => True) (wd_1ad0248d h0 h1 h3 v0 h1 h2 v1 v2 v3 v4 h2 g0 f5 h3 g1 f6) ∧ vk_R RX3 101 "zaondt" (adK 2) U ∧ va_Z "java/lang/String" "COMPACT_STRINGS" "Z" (.int 1) (va_A (wd_1ad0248d h0 h1 h3 v0 h1 h2 v1 v2 v3 v4 h2 g0 f5 h3 g1 f6) sz) U U.heap ∧ vk_S 3 pv_len3 pv_byt3 adK adV (va_A (wd_1ad0248d h0 h1 h3 v0 h1 h2 v1 v2 v3 v4 h2 g0 f5 h3 g1 f6) sz) U U.heap)) (va_Qi (fun (r : Int32) (_ : Unit) => True) (fun (_ : Unit) (t : State) => ∃ (o_h0_2 : Int32) (o_h1_2 : Int32) (o_h1_3 : Int32) (o_h1_4 : Int32) (o_h3 : Nat → Int32), 0 ≤ o_h0_2.toInt ∧ o_h0_2.toInt ≤ 256 ∧ va_P (dC, dI) vwCl (wd_1ad0248d h0 h1 h3 o_h0_2 h1 h2 v1 o_h1_2 o_h1_3 o_h1_4 h2 g0 f5 h3 g1 o_h3) t.heap ∧ va_K (dC, dI) vwCl [] t ∧ va_D (va_A (wd_1ad0248d h0 h1 h3 v0 h1 h2 v1 v2 v3 v4 h2 g0 f5 h3 g1 f6) sz) (wd_1ad0248d h0 h1 h3 o_h0_2 h1 h2 v1 o_h1_2 o_h1_3 o_h1_4 h2 g0 f5 h3 g1 o_h3)) (va_A (wd_1ad0248d h0 h1 h3 v0 h1 h2 v1 v2 v3 v4 h2 g0 f5 h3 g1 f6) sz)) 0 0 (va_A (wd_1ad0248d h0 h1 h3 v0 h1 h2 v1 v2 v3 v4 h2 g0 f5 h3 g1 f6) sz) := by
  refine Met.ofW (cc := cX3_read) (maxL := 2) (ret := (some .int)) (by decide) rfl ?_
  intro p e s m args below meth c s₁ B hml hv
  obtain ⟨i_v0a, i_v0b⟩ := i_v0
  obtain ⟨i_v1a, i_v1b⟩ := i_v1
  obtain ⟨rfl, hsz, hP, hK, hD0, h_vr_2, h_st_CS, h_st_S⟩ := hv
  have hx := B.exec
  have hb := B.bytes
  have hr := B.returns
  have hts := atoms_spec (ws := q_X3_read) B.pre
  have hown : s.vm.findClass RX3 = some m.cls := findClass_of_methodNamed B.named
  have hlocks := B.notSynchronized
  subst hsz
  have hD := hD0.self (sz := s.heap.size)
  generalize hAe : va_A (wd_1ad0248d h0 h1 h3 v0 h1 h2 v1 v2 v3 v4 h2 g0 f5 h3 g1 f6) s.heap.size = A at hD h_st_CS h_st_S ⊢
  have hA : ∀ q : Nat, s.heap.size ≤ q → A q := fun q h => by rw [← hAe]; exact Or.inr h
  have hS : va_S A s.heap s.heap [] := va_S.rf
  generalize hQ : (MQ below _ _ s 0 0 A) = Q
  have hl := lv_entry ([.ref h0]) (n := 2) (Nat.le_of_ble_eq_true rfl)
  rw [lg_entry_eq]
  generalize (lg_sl ([.ref h0]) ++ List.replicate (2 - (lg_sl ([.ref h0])).length) Slot.unset).toArray = ls at hl ⊢
  have hl : lv_has ls 2 [(0, .ref h0)] := hl
  obtain ⟨H, hH⟩ : ∃ H : Heap, H = s.heap := ⟨_, rfl⟩
  obtain ⟨locs, hlocs⟩ : ∃ y : List Loc, y = [] := ⟨_, rfl⟩
  have hS : va_S A s.heap H locs := by rw [hH, hlocs]; exact va_S.rf
  have hP : va_P (dC, dI) vwCl (wd_1ad0248d h0 h1 h3 v0 h1 h2 v1 v2 v3 v4 h2 g0 f5 h3 g1 f6) H := by rw [hH]; exact hP
  rw [← hH, ← hlocs]
  refine lv_aload_n hx hb dX3_read_0 rfl (lv_at hl 0 rfl) ?_
  refine va_get (D := (dC, dI)) (ci := 3) (v := .ref h1) (C := RX3) (T := TX3) (N := 3) hx hb hts (fun _ h => List.mem_cons_of_mem _ (List.mem_append_left _ (List.mem_append_right _ h))) hown hK hP 0 rfl rfl 0 (by decide) (hts (.fieldLink RX3 19 "LeftArguments$LawReader" "tape" "LLeftArguments$Tape;") (List.mem_cons_of_mem _ (List.mem_append_left _ (List.mem_append_left _ (List.mem_of_getElem? (i := 0) rfl))))) (fun _ h9 => h9) rfl dX3_read_1 ?_
  have hPc := hP.sub (ws' := (wd_09b0abee h1 h2 v1 v2 v3 v4)) [1] rfl
  have hDc := hD.sub (ws' := (wd_09b0abee h1 h2 v1 v2 v3 v4)) [1] (by decide) rfl
  have hKc := hK.sub (tys' := []) [] rfl
  have hFc := va_free (wc := (wd_09b0abee h1 h2 v1 v2 v3 v4)) hD hS hA [1] rfl
  refine va_callv (va_runV (As := []) (rest := []) ⟨hx, hb, hml, hown, hts⟩ (k_X10_rewind l dC dI h1 h2 v1 v2 v3 v4 ⟨by first | omega | decide, by first | omega | decide⟩ H.size) (cwV 0 hts g_X3_read_0 rfl rfl rfl (by decide +kernel) ⟨Nat.le_of_ble_eq_true rfl, Nat.le_of_ble_eq_true rfl⟩) ⟨fun a U g mk q => by obtain ⟨q0, q1, qP, qK, qD⟩ := q; exact ⟨q0, q1, qP, va_K.moved (u := U) (U := U.calling g mk a) (Vm.Alike.refl U.vm) qK, qD⟩, va_recv hKc hPc (ci := 10) (q0 := 0) rfl rfl, fun U hU hW => ⟨rfl, by rw [hU], by rw [hU]; exact hPc, va_K.moved hW.alike hKc, hDc.weaken (fun _ _ _ _ => trivial)⟩⟩ rfl rfl hl.1 rfl (lv_room (Nat.le_of_ble_eq_true rfl)) dX3_read_4 ⟨Nat.le_of_ble_eq_true rfl, Nat.le_of_ble_eq_true rfl⟩) hS (fun q _ h => hFc q h) hFc (fun u t H1 locs ht hvm hwra1 hB hz1 hk1 hS => ?_)
  obtain ⟨x2, x3, hP1, hK1, hD1⟩ := hB
  rw [ht] at hP1
  obtain ⟨hP, hD⟩ := va_join (wr := (wd_6b0d8e05 h0 h1 h3 v0 h2 g0 f5 h3 g1 f6)) (w1 := (wd_09b0abee h1 h2 v1 x2 x3 v4)) hP hD [1] [0, 2, 3] rfl rfl (by decide) (by decide) hk1 hFc hP1 hD1
  generalize H1 = H at hP hS ⊢
  have hP := hP.sub (ws' := (wd_1ad0248d h0 h1 h3 v0 h1 h2 v1 x2 x3 v4 h2 g0 f5 h3 g1 f6)) [0, 3, 1, 2] rfl
  have hD := hD.sub (ws' := (wd_1ad0248d h0 h1 h3 v0 h1 h2 v1 x2 x3 v4 h2 g0 f5 h3 g1 f6)) [0, 3, 1, 2] (by decide) rfl
  have hP : va_P (dC, dI) vwCl (wd_1ad0248d h0 h1 h3 v0 h1 h2 v1 x2 x3 v4 h2 g0 f5 h3 g1 f6) H := hP
  have hD : va_D A (wd_1ad0248d h0 h1 h3 v0 h1 h2 v1 x2 x3 v4 h2 g0 f5 h3 g1 f6) := hD
  refine lv_aload_n hx hb dX3_read_7 rfl (lv_at hl 0 rfl) ?_
  refine lv_iconst (v := 0) hx hb dX3_read_8 (by decide) ?_
  refine va_put (D := (dC, dI)) (ci := 3) (v := .int 0) (ty := .int) (C := RX3) (T := TX3) (N := 3) hx hb hts (fun _ h => List.mem_cons_of_mem _ (List.mem_append_left _ (List.mem_append_right _ h))) tyX3 tyX3_ok nmX3 hown hK hP hD hS 0 rfl rfl 2 (by decide) (hts (.fieldLink RX3 15 "LeftArguments$LawReader" "used" "I") (List.mem_cons_of_mem _ (List.mem_append_left _ (List.mem_append_left _ (List.mem_of_getElem? (i := 8) rfl))))) (fun _ h9 => h9) rfl (by decide +kernel) rfl rfl (Nat.le_of_ble_eq_true rfl) dX3_read_9 (fun H locs hP hD hS => ?_)
  have hP : va_P (dC, dI) vwCl (wd_1ad0248d h0 h1 h3 0 h1 h2 v1 x2 x3 v4 h2 g0 f5 h3 g1 f6) H := hP
  have hD : va_D A (wd_1ad0248d h0 h1 h3 0 h1 h2 v1 x2 x3 v4 h2 g0 f5 h3 g1 f6) := hD
  refine lv_iconst (v := 0) hx hb dX3_read_12 (by decide) ?_
  refine lv_istore_n (lv' := [(1, .int 0), (0, .ref h0)]) hx hb dX3_read_13 rfl hl (by decide) rfl (fun ls hl => ?_)
  have hL82 : ∀ (n9 : Nat), ∀ (x70 : Int32) (x71 : Int32) (x72 : Int32) (x73 : Int32) (x74 : Int32) (fn75 : Nat → Int32) (H : Heap) (locs : List Loc) (ls : Array Slot), 0 ≤ x70.toInt → x70.toInt ≤ 241 → 0 ≤ x71.toInt → x71.toInt ≤ 256 → (241 - x70.toInt).toNat < n9 → va_P (dC, dI) vwCl (wd_1ad0248d h0 h1 h3 x71 h1 h2 v1 x72 x73 x74 h2 g0 f5 h3 g1 fn75) H → va_D A (wd_1ad0248d h0 h1 h3 x71 h1 h2 v1 x72 x73 x74 h2 g0 f5 h3 g1 fn75) → va_S A s.heap H locs → lv_has ls 2 [(1, .int x70), (0, .ref h0)] → W p l e ({ frames := 29, cells := 0, slots := 0, locals := 673 }) s m ([.ref h0] : List Value).toArray below meth c H locs 0 0 Q (F0 m 14 ls []) := by
    intro n9
    induction n9 with
    | zero => intro x70 x71 x72 x73 x74 fn75 H locs ls qa_x70 qb_x70 qa_x71 qb_x71 hm9 hP hD hS hl; exact absurd hm9 (Nat.not_lt_zero _)
    | succ n9 ih_hL82 =>
      intro x70 x71 x72 x73 x74 fn75 H locs ls qa_x70 qb_x70 qa_x71 qb_x71 hm9 hP hD hS hl
      refine lv_iload_n hx hb dX3_read_14 rfl (lv_at hl 0 rfl) ?_
      refine lv_sipush (v := 240) hx hb dX3_read_15 (by decide) ?_
      refine lv_icmp_gt (tgt := 75) hx hb dX3_read_18 (by decide) (fun c83 => ?_) (fun c83 => ?_)
      · skip
        have fc83 : 240 < x70.toInt := Int32.lt_iff_toInt_lt.mp c83
        refine lv_aload_n hx hb dX3_read_75 rfl (lv_at hl 1 rfl) ?_
        refine va_get (D := (dC, dI)) (ci := 3) (v := .ref h1) (C := RX3) (T := TX3) (N := 3) hx hb hts (fun _ h => List.mem_cons_of_mem _ (List.mem_append_left _ (List.mem_append_right _ h))) hown hK hP 0 rfl rfl 0 (by decide) (hts (.fieldLink RX3 19 "LeftArguments$LawReader" "tape" "LLeftArguments$Tape;") (List.mem_cons_of_mem _ (List.mem_append_left _ (List.mem_append_left _ (List.mem_of_getElem? (i := 0) rfl))))) (fun _ h9 => h9) rfl dX3_read_76 ?_
        have hPc := hP.sub (ws' := (wd_09b0abee h1 h2 v1 x72 x73 x74)) [1] rfl
        have hDc := hD.sub (ws' := (wd_09b0abee h1 h2 v1 x72 x73 x74)) [1] (by decide) rfl
        have hKc := hK.sub (tys' := []) [] rfl
        have hFc := va_free (wc := (wd_09b0abee h1 h2 v1 x72 x73 x74)) hD hS hA [1] rfl
        refine va_calli (va_runV (As := []) (rest := []) ⟨hx, hb, hml, hown, hts⟩ (k_X10_used l dC dI h1 h2 v1 x72 x73 x74 ⟨by first | omega | decide, by first | omega | decide⟩ H.size) (cwV 0 hts g_X3_read_1 rfl rfl rfl (by decide +kernel) ⟨Nat.le_of_ble_eq_true rfl, Nat.le_of_ble_eq_true rfl⟩) ⟨fun a U g mk q => by obtain ⟨q0, q1, qP, qK, qD⟩ := q; exact ⟨q0, q1, qP, va_K.moved (u := U) (U := U.calling g mk a) (Vm.Alike.refl U.vm) qK, qD⟩, va_recv hKc hPc (ci := 10) (q0 := 0) rfl rfl, fun U hU hW => ⟨rfl, by rw [hU], by rw [hU]; exact hPc, va_K.moved hW.alike hKc, hDc.weaken (fun _ _ _ _ => trivial)⟩⟩ rfl rfl hl.1 rfl (lv_room (Nat.le_of_ble_eq_true rfl)) dX3_read_79 ⟨Nat.le_of_ble_eq_true rfl, Nat.le_of_ble_eq_true rfl⟩) hS (fun q _ h => hFc q h) hFc (fun ra84 u t H1 locs ht hvm hwra84 hB hz1 hk1 hS => ?_)
        obtain ⟨hP1, hK1, hD1⟩ := hB
        rw [ht] at hP1
        obtain ⟨hP, hD⟩ := va_join (wr := (wd_6b0d8e05 h0 h1 h3 x71 h2 g0 f5 h3 g1 fn75)) (w1 := (wd_09b0abee h1 h2 v1 x72 x73 x74)) hP hD [1] [0, 2, 3] rfl rfl (by decide) (by decide) hk1 hFc hP1 hD1
        generalize H1 = H at hP hS ⊢
        have hP := hP.sub (ws' := (wd_1ad0248d h0 h1 h3 x71 h1 h2 v1 x72 x73 x74 h2 g0 f5 h3 g1 fn75)) [0, 3, 1, 2] rfl
        have hD := hD.sub (ws' := (wd_1ad0248d h0 h1 h3 x71 h1 h2 v1 x72 x73 x74 h2 g0 f5 h3 g1 fn75)) [0, 3, 1, 2] (by decide) rfl
        have hP : va_P (dC, dI) vwCl (wd_1ad0248d h0 h1 h3 x71 h1 h2 v1 x72 x73 x74 h2 g0 f5 h3 g1 fn75) H := hP
        have hD : va_D A (wd_1ad0248d h0 h1 h3 x71 h1 h2 v1 x72 x73 x74 h2 g0 f5 h3 g1 fn75) := hD
        obtain ⟨wa_ra84, wb_ra84⟩ := hwra84
        have wa_ra84 : 0 ≤ ra84.toInt := wa_ra84
        have wb_ra84 : ra84.toInt ≤ 240 := wb_ra84
        subst hQ
        have hP9 := hP.sub (ws' := (wd_1ad0248d h0 h1 h3 x71 h1 h2 v1 x72 x73 x74 h2 g0 f5 h3 g1 fn75)) [0, 1, 2, 3] rfl
        have hD9 := hD.sub (ws' := (wd_1ad0248d h0 h1 h3 x71 h1 h2 v1 x72 x73 x74 h2 g0 f5 h3 g1 fn75)) [0, 1, 2, 3] (by decide) rfl
        have hK9 := hK.sub (tys' := []) [] rfl
        exact W.iret (v := ra84) hx hb hr (fun t ht hW => ⟨⟨ra84, (), rfl, trivial, x71, x72, x73, x74, fn75, by first | omega | decide, by first | omega | decide, by rw [ht]; exact hP9, va_K.moved hW.alike hK9, hD9⟩, hS.F ht⟩) hS.2.2 dX3_read_82
      · skip
        have fc83 : ¬ (240 < x70.toInt) := fun h9 => c83 (Int32.lt_iff_toInt_lt.mpr h9)
        refine lv_aload_n hx hb dX3_read_21 rfl (lv_at hl 1 rfl) ?_
        have hPc := hP.sub (ws' := (wd_1ad0248d h0 h1 h3 x71 h1 h2 v1 x72 x73 x74 h2 g0 f5 h3 g1 fn75)) [0, 1, 2, 3] rfl
        have hDc := hD.sub (ws' := (wd_1ad0248d h0 h1 h3 x71 h1 h2 v1 x72 x73 x74 h2 g0 f5 h3 g1 fn75)) [0, 1, 2, 3] (by decide) rfl
        have hKc := hK.sub (tys' := [(g0, .int), (g1, .int)]) [0, 1] rfl
        have hFc := va_free (wc := (wd_1ad0248d h0 h1 h3 x71 h1 h2 v1 x72 x73 x74 h2 g0 f5 h3 g1 fn75)) hD hS hA [0, 1, 2, 3] rfl
        refine va_calli (va_runV (As := []) (rest := []) ⟨hx, hb, hml, hown, hts⟩ (k_X3_readClause l dC dI adK adV h0 h1 h2 h3 x71 v1 x72 x73 x74 g0 f5 g1 fn75 ⟨by first | omega | decide, by first | omega | decide⟩ ⟨by first | omega | decide, by first | omega | decide⟩ H.size) (cwV 0 hts g_X3_read_2 rfl rfl rfl (by decide +kernel) ⟨Nat.le_of_ble_eq_true rfl, Nat.le_of_ble_eq_true rfl⟩) ⟨fun a U g mk q => by obtain ⟨q0, q1, qP, qK, qD, n0, n1, n2⟩ := q; exact ⟨q0, q1, qP, va_K.moved (u := U) (U := U.calling g mk a) (Vm.Alike.refl U.vm) qK, qD, vk_R.same rfl n0, va_Z.moved (Vm.Alike.refl _) n1, vk_S.moved (Vm.Alike.refl _) n2⟩, va_recv hKc hPc (ci := 3) (q0 := 0) rfl rfl, fun U hU hW => ⟨rfl, by rw [hU], by rw [hU]; exact hPc, va_K.moved hW.alike hKc, hDc.weaken (fun _ _ _ _ => trivial), vk_R.warm hW h_vr_2, (by rw [hU]; exact (va_Z.moved hW.alike (va_Z.kept h_st_CS hS.2.1)).narrow hFc), (by rw [hU]; exact (vk_S.moved hW.alike (vk_S.kept h_st_S hS.2.1)).narrow hFc)⟩⟩ rfl rfl hl.1 rfl (lv_room (Nat.le_of_ble_eq_true rfl)) dX3_read_22 ⟨Nat.le_of_ble_eq_true rfl, Nat.le_of_ble_eq_true rfl⟩) hS (fun q _ h => hFc q h) hFc (fun ra85 u t H1 locs ht hvm hwra85 hB hz1 hk1 hS => ?_)
        obtain ⟨x86, x87, x88, x89, fn90, oa_x86, ob_x86, hP1, hK1, hD1⟩ := hB
        rw [ht] at hP1
        obtain ⟨hP, hD⟩ := va_join (wr := []) (w1 := (wd_1ad0248d h0 h1 h3 x86 h1 h2 v1 x87 x88 x89 h2 g0 f5 h3 g1 fn90)) hP hD [0, 1, 2, 3] [] rfl rfl (by decide) (by decide) hk1 hFc hP1 hD1
        generalize H1 = H at hP hS ⊢
        have hP : va_P (dC, dI) vwCl (wd_1ad0248d h0 h1 h3 x86 h1 h2 v1 x87 x88 x89 h2 g0 f5 h3 g1 fn90) H := hP
        have hD : va_D A (wd_1ad0248d h0 h1 h3 x86 h1 h2 v1 x87 x88 x89 h2 g0 f5 h3 g1 fn90) := hD
        obtain ⟨wa_ra85, wb_ra85⟩ := hwra85
        have wa_ra85 : 0 ≤ ra85.toInt := wa_ra85
        have wb_ra85 : ra85.toInt ≤ 1 := wb_ra85
        refine lv_if_ne (tgt := 36) hx hb dX3_read_25 (by decide) (fun c91 => ?_) (fun c91 => ?_)
        · skip
          have fc91 : ¬ (ra85.toInt = 0) := fun h9 => c91 (Int32.toInt_inj.mp h9)
          refine lv_aload_n hx hb dX3_read_36 rfl (lv_at hl 1 rfl) ?_
          refine va_get (D := (dC, dI)) (ci := 3) (v := .ref h1) (C := RX3) (T := TX3) (N := 3) hx hb hts (fun _ h => List.mem_cons_of_mem _ (List.mem_append_left _ (List.mem_append_right _ h))) hown hK hP 0 rfl rfl 0 (by decide) (hts (.fieldLink RX3 19 "LeftArguments$LawReader" "tape" "LLeftArguments$Tape;") (List.mem_cons_of_mem _ (List.mem_append_left _ (List.mem_append_left _ (List.mem_of_getElem? (i := 0) rfl))))) (fun _ h9 => h9) rfl dX3_read_37 ?_
          have hPc := hP.sub (ws' := (wd_82cdd16b h1 h2 v1 x87 x88 x89 h2 g0 f5)) [1, 2] rfl
          have hDc := hD.sub (ws' := (wd_82cdd16b h1 h2 v1 x87 x88 x89 h2 g0 f5)) [1, 2] (by decide) rfl
          have hKc := hK.sub (tys' := [(g0, .int)]) [0] rfl
          have hFc := va_free (wc := (wd_82cdd16b h1 h2 v1 x87 x88 x89 h2 g0 f5)) hD hS hA [1, 2] rfl
          refine va_calli (va_runV (As := []) (rest := []) ⟨hx, hb, hml, hown, hts⟩ (k_X10_next l dC dI h1 h2 v1 x87 x88 x89 g0 f5 ⟨by first | omega | decide, by first | omega | decide⟩ H.size) (cwV 0 hts g_X3_read_3 rfl rfl rfl (by decide +kernel) ⟨Nat.le_of_ble_eq_true rfl, Nat.le_of_ble_eq_true rfl⟩) ⟨fun a U g mk q => by obtain ⟨q0, q1, qP, qK, qD⟩ := q; exact ⟨q0, q1, qP, va_K.moved (u := U) (U := U.calling g mk a) (Vm.Alike.refl U.vm) qK, qD⟩, va_recv hKc hPc (ci := 10) (q0 := 0) rfl rfl, fun U hU hW => ⟨rfl, by rw [hU], by rw [hU]; exact hPc, va_K.moved hW.alike hKc, hDc.weaken (fun _ _ _ _ => trivial)⟩⟩ rfl rfl hl.1 rfl (lv_room (Nat.le_of_ble_eq_true rfl)) dX3_read_40 ⟨Nat.le_of_ble_eq_true rfl, Nat.le_of_ble_eq_true rfl⟩) hS (fun q _ h => hFc q h) hFc (fun ra92 u t H1 locs ht hvm hwra92 hB hz1 hk1 hS => ?_)
          obtain ⟨x93, hP1, hK1, hD1⟩ := hB
          rw [ht] at hP1
          obtain ⟨hP, hD⟩ := va_join (wr := (wd_b958b9da h0 h1 h3 x86 h3 g1 fn90)) (w1 := (wd_82cdd16b h1 h2 v1 x93 x88 x89 h2 g0 f5)) hP hD [1, 2] [0, 3] rfl rfl (by decide) (by decide) hk1 hFc hP1 hD1
          generalize H1 = H at hP hS ⊢
          have hP := hP.sub (ws' := (wd_1ad0248d h0 h1 h3 x86 h1 h2 v1 x93 x88 x89 h2 g0 f5 h3 g1 fn90)) [0, 2, 3, 1] rfl
          have hD := hD.sub (ws' := (wd_1ad0248d h0 h1 h3 x86 h1 h2 v1 x93 x88 x89 h2 g0 f5 h3 g1 fn90)) [0, 2, 3, 1] (by decide) rfl
          have hP : va_P (dC, dI) vwCl (wd_1ad0248d h0 h1 h3 x86 h1 h2 v1 x93 x88 x89 h2 g0 f5 h3 g1 fn90) H := hP
          have hD : va_D A (wd_1ad0248d h0 h1 h3 x86 h1 h2 v1 x93 x88 x89 h2 g0 f5 h3 g1 fn90) := hD
          refine lv_iconst (v := (-1)) hx hb dX3_read_43 (by decide) ?_
          refine lv_icmp_ne (tgt := 49) hx hb dX3_read_44 (by decide) (fun c94 => ?_) (fun c94 => ?_)
          · skip
            have fc94 : ¬ (ra92.toInt = (-1)) := fun h9 => c94 (Int32.toInt_inj.mp h9)
            refine lv_aload_n hx hb dX3_read_49 rfl (lv_at hl 1 rfl) ?_
            refine va_get (D := (dC, dI)) (ci := 3) (v := .ref h1) (C := RX3) (T := TX3) (N := 3) hx hb hts (fun _ h => List.mem_cons_of_mem _ (List.mem_append_left _ (List.mem_append_right _ h))) hown hK hP 0 rfl rfl 0 (by decide) (hts (.fieldLink RX3 19 "LeftArguments$LawReader" "tape" "LLeftArguments$Tape;") (List.mem_cons_of_mem _ (List.mem_append_left _ (List.mem_append_left _ (List.mem_of_getElem? (i := 0) rfl))))) (fun _ h9 => h9) rfl dX3_read_50 ?_
            refine lv_bipush (v := 59) hx hb dX3_read_53 (by decide) ?_
            have hPc := hP.sub (ws' := (wd_82cdd16b h1 h2 v1 x93 x88 x89 h2 g0 f5)) [1, 2] rfl
            have hDc := hD.sub (ws' := (wd_82cdd16b h1 h2 v1 x93 x88 x89 h2 g0 f5)) [1, 2] (by decide) rfl
            have hKc := hK.sub (tys' := [(g0, .int)]) [0] rfl
            have hFc := va_free (wc := (wd_82cdd16b h1 h2 v1 x93 x88 x89 h2 g0 f5)) hD hS hA [1, 2] rfl
            refine va_calli (va_runV (As := [.int 59]) (rest := []) ⟨hx, hb, hml, hown, hts⟩ (k_X10_take l dC dI h1 h2 v1 x93 x88 x89 g0 f5 59 ⟨by first | omega | decide, by first | omega | decide⟩ H.size) (cwV 1 hts g_X3_read_4 rfl rfl rfl (by decide +kernel) ⟨Nat.le_of_ble_eq_true rfl, Nat.le_of_ble_eq_true rfl⟩) ⟨fun a U g mk q => by obtain ⟨q0, q1, qP, qK, qD⟩ := q; exact ⟨q0, q1, qP, va_K.moved (u := U) (U := U.calling g mk a) (Vm.Alike.refl U.vm) qK, qD⟩, va_recv hKc hPc (ci := 10) (q0 := 0) rfl rfl, fun U hU hW => ⟨rfl, by rw [hU], by rw [hU]; exact hPc, va_K.moved hW.alike hKc, hDc.weaken (fun _ _ _ _ => trivial)⟩⟩ rfl rfl hl.1 rfl (lv_room (Nat.le_of_ble_eq_true rfl)) dX3_read_55 ⟨Nat.le_of_ble_eq_true rfl, Nat.le_of_ble_eq_true rfl⟩) hS (fun q _ h => hFc q h) hFc (fun ra95 u t H1 locs ht hvm hwra95 hB hz1 hk1 hS => ?_)
            obtain ⟨x96, x97, hP1, hK1, hD1⟩ := hB
            rw [ht] at hP1
            obtain ⟨hP, hD⟩ := va_join (wr := (wd_b958b9da h0 h1 h3 x86 h3 g1 fn90)) (w1 := (wd_82cdd16b h1 h2 v1 x96 x97 x89 h2 g0 f5)) hP hD [1, 2] [0, 3] rfl rfl (by decide) (by decide) hk1 hFc hP1 hD1
            generalize H1 = H at hP hS ⊢
            have hP := hP.sub (ws' := (wd_1ad0248d h0 h1 h3 x86 h1 h2 v1 x96 x97 x89 h2 g0 f5 h3 g1 fn90)) [0, 2, 3, 1] rfl
            have hD := hD.sub (ws' := (wd_1ad0248d h0 h1 h3 x86 h1 h2 v1 x96 x97 x89 h2 g0 f5 h3 g1 fn90)) [0, 2, 3, 1] (by decide) rfl
            have hP : va_P (dC, dI) vwCl (wd_1ad0248d h0 h1 h3 x86 h1 h2 v1 x96 x97 x89 h2 g0 f5 h3 g1 fn90) H := hP
            have hD : va_D A (wd_1ad0248d h0 h1 h3 x86 h1 h2 v1 x96 x97 x89 h2 g0 f5 h3 g1 fn90) := hD
            obtain ⟨wa_ra95, wb_ra95⟩ := hwra95
            have wa_ra95 : 0 ≤ ra95.toInt := wa_ra95
            have wb_ra95 : ra95.toInt ≤ 1 := wb_ra95
            refine lv_if_ne (tgt := 69) hx hb dX3_read_58 (by decide) (fun c98 => ?_) (fun c98 => ?_)
            · skip
              have fc98 : ¬ (ra95.toInt = 0) := fun h9 => c98 (Int32.toInt_inj.mp h9)
              obtain ⟨t99, et99⟩ : ∃ y : Int32, y = x70 + 1 := ⟨_, rfl⟩
              have gt99 : t99.toInt = x70.toInt + (1) := pv_add (a := x70.toInt) (b := (1)) et99 rfl (by decide) (by omega) (by omega)
              refine lv_iinc (v := t99) (lv' := [(1, .int t99), (0, .ref h0)]) hx hb dX3_read_69 hl (k := 0) rfl (by rw [et99]; rfl) (by decide) rfl (fun ls hl => ?_)
              refine lv_goto (tgt := 14) hx hb dX3_read_72 (by decide) ?_
              exact ih_hL82 t99 x86 x96 x97 x89 fn90 H locs ls (by first | omega | decide) (by first | omega | decide) (by first | omega | decide) (by first | omega | decide) (by first | omega | (simp only [Int.toNat] at *; omega)) hP hD hS (lv_sub hl [0, 1] rfl)
            · skip
              have fc98 : ra95.toInt = 0 := congrArg Int32.toInt c98
              refine lv_aload_n hx hb dX3_read_61 rfl (lv_at hl 1 rfl) ?_
              refine va_get (D := (dC, dI)) (ci := 3) (v := .ref h1) (C := RX3) (T := TX3) (N := 3) hx hb hts (fun _ h => List.mem_cons_of_mem _ (List.mem_append_left _ (List.mem_append_right _ h))) hown hK hP 0 rfl rfl 0 (by decide) (hts (.fieldLink RX3 19 "LeftArguments$LawReader" "tape" "LLeftArguments$Tape;") (List.mem_cons_of_mem _ (List.mem_append_left _ (List.mem_append_left _ (List.mem_of_getElem? (i := 0) rfl))))) (fun _ h9 => h9) rfl dX3_read_62 ?_
              have hPc := hP.sub (ws' := (wd_09b0abee h1 h2 v1 x96 x97 x89)) [1] rfl
              have hDc := hD.sub (ws' := (wd_09b0abee h1 h2 v1 x96 x97 x89)) [1] (by decide) rfl
              have hKc := hK.sub (tys' := []) [] rfl
              have hFc := va_free (wc := (wd_09b0abee h1 h2 v1 x96 x97 x89)) hD hS hA [1] rfl
              refine va_calli (va_runV (As := []) (rest := []) ⟨hx, hb, hml, hown, hts⟩ (k_X10_wrongAt l dC dI h1 h2 v1 x96 x97 x89 ⟨by first | omega | decide, by first | omega | decide⟩ H.size) (cwV 0 hts g_X3_read_5 rfl rfl rfl (by decide +kernel) ⟨Nat.le_of_ble_eq_true rfl, Nat.le_of_ble_eq_true rfl⟩) ⟨fun a U g mk q => by obtain ⟨q0, q1, qP, qK, qD⟩ := q; exact ⟨q0, q1, qP, va_K.moved (u := U) (U := U.calling g mk a) (Vm.Alike.refl U.vm) qK, qD⟩, va_recv hKc hPc (ci := 10) (q0 := 0) rfl rfl, fun U hU hW => ⟨rfl, by rw [hU], by rw [hU]; exact hPc, va_K.moved hW.alike hKc, hDc.weaken (fun _ _ _ _ => trivial)⟩⟩ rfl rfl hl.1 rfl (lv_room (Nat.le_of_ble_eq_true rfl)) dX3_read_65 ⟨Nat.le_of_ble_eq_true rfl, Nat.le_of_ble_eq_true rfl⟩) hS (fun q _ h => hFc q h) hFc (fun ra100 u t H1 locs ht hvm hwra100 hB hz1 hk1 hS => ?_)
              obtain ⟨hP1, hK1, hD1⟩ := hB
              rw [ht] at hP1
              obtain ⟨hP, hD⟩ := va_join (wr := (wd_6b0d8e05 h0 h1 h3 x86 h2 g0 f5 h3 g1 fn90)) (w1 := (wd_09b0abee h1 h2 v1 x96 x97 x89)) hP hD [1] [0, 2, 3] rfl rfl (by decide) (by decide) hk1 hFc hP1 hD1
              generalize H1 = H at hP hS ⊢
              have hP := hP.sub (ws' := (wd_1ad0248d h0 h1 h3 x86 h1 h2 v1 x96 x97 x89 h2 g0 f5 h3 g1 fn90)) [0, 3, 1, 2] rfl
              have hD := hD.sub (ws' := (wd_1ad0248d h0 h1 h3 x86 h1 h2 v1 x96 x97 x89 h2 g0 f5 h3 g1 fn90)) [0, 3, 1, 2] (by decide) rfl
              have hP : va_P (dC, dI) vwCl (wd_1ad0248d h0 h1 h3 x86 h1 h2 v1 x96 x97 x89 h2 g0 f5 h3 g1 fn90) H := hP
              have hD : va_D A (wd_1ad0248d h0 h1 h3 x86 h1 h2 v1 x96 x97 x89 h2 g0 f5 h3 g1 fn90) := hD
              subst hQ
              have hP9 := hP.sub (ws' := (wd_1ad0248d h0 h1 h3 x86 h1 h2 v1 x96 x97 x89 h2 g0 f5 h3 g1 fn90)) [0, 1, 2, 3] rfl
              have hD9 := hD.sub (ws' := (wd_1ad0248d h0 h1 h3 x86 h1 h2 v1 x96 x97 x89 h2 g0 f5 h3 g1 fn90)) [0, 1, 2, 3] (by decide) rfl
              have hK9 := hK.sub (tys' := []) [] rfl
              exact W.iret (v := ra100) hx hb hr (fun t ht hW => ⟨⟨ra100, (), rfl, trivial, x86, x96, x97, x89, fn90, by first | omega | decide, by first | omega | decide, by rw [ht]; exact hP9, va_K.moved hW.alike hK9, hD9⟩, hS.F ht⟩) hS.2.2 dX3_read_68
          · skip
            have fc94 : ra92.toInt = (-1) := congrArg Int32.toInt c94
            refine lv_iconst (v := (-1)) hx hb dX3_read_47 (by decide) ?_
            subst hQ
            have hP9 := hP.sub (ws' := (wd_1ad0248d h0 h1 h3 x86 h1 h2 v1 x93 x88 x89 h2 g0 f5 h3 g1 fn90)) [0, 1, 2, 3] rfl
            have hD9 := hD.sub (ws' := (wd_1ad0248d h0 h1 h3 x86 h1 h2 v1 x93 x88 x89 h2 g0 f5 h3 g1 fn90)) [0, 1, 2, 3] (by decide) rfl
            have hK9 := hK.sub (tys' := []) [] rfl
            exact W.iret (v := (-1)) hx hb hr (fun t ht hW => ⟨⟨(-1), (), rfl, trivial, x86, x93, x88, x89, fn90, by first | omega | decide, by first | omega | decide, by rw [ht]; exact hP9, va_K.moved hW.alike hK9, hD9⟩, hS.F ht⟩) hS.2.2 dX3_read_48
        · skip
          have fc91 : ra85.toInt = 0 := congrArg Int32.toInt c91
          refine lv_aload_n hx hb dX3_read_28 rfl (lv_at hl 1 rfl) ?_
          refine va_get (D := (dC, dI)) (ci := 3) (v := .ref h1) (C := RX3) (T := TX3) (N := 3) hx hb hts (fun _ h => List.mem_cons_of_mem _ (List.mem_append_left _ (List.mem_append_right _ h))) hown hK hP 0 rfl rfl 0 (by decide) (hts (.fieldLink RX3 19 "LeftArguments$LawReader" "tape" "LLeftArguments$Tape;") (List.mem_cons_of_mem _ (List.mem_append_left _ (List.mem_append_left _ (List.mem_of_getElem? (i := 0) rfl))))) (fun _ h9 => h9) rfl dX3_read_29 ?_
          have hPc := hP.sub (ws' := (wd_09b0abee h1 h2 v1 x87 x88 x89)) [1] rfl
          have hDc := hD.sub (ws' := (wd_09b0abee h1 h2 v1 x87 x88 x89)) [1] (by decide) rfl
          have hKc := hK.sub (tys' := []) [] rfl
          have hFc := va_free (wc := (wd_09b0abee h1 h2 v1 x87 x88 x89)) hD hS hA [1] rfl
          refine va_calli (va_runV (As := []) (rest := []) ⟨hx, hb, hml, hown, hts⟩ (k_X10_wrongAt l dC dI h1 h2 v1 x87 x88 x89 ⟨by first | omega | decide, by first | omega | decide⟩ H.size) (cwV 0 hts g_X3_read_5 rfl rfl rfl (by decide +kernel) ⟨Nat.le_of_ble_eq_true rfl, Nat.le_of_ble_eq_true rfl⟩) ⟨fun a U g mk q => by obtain ⟨q0, q1, qP, qK, qD⟩ := q; exact ⟨q0, q1, qP, va_K.moved (u := U) (U := U.calling g mk a) (Vm.Alike.refl U.vm) qK, qD⟩, va_recv hKc hPc (ci := 10) (q0 := 0) rfl rfl, fun U hU hW => ⟨rfl, by rw [hU], by rw [hU]; exact hPc, va_K.moved hW.alike hKc, hDc.weaken (fun _ _ _ _ => trivial)⟩⟩ rfl rfl hl.1 rfl (lv_room (Nat.le_of_ble_eq_true rfl)) dX3_read_32 ⟨Nat.le_of_ble_eq_true rfl, Nat.le_of_ble_eq_true rfl⟩) hS (fun q _ h => hFc q h) hFc (fun ra101 u t H1 locs ht hvm hwra101 hB hz1 hk1 hS => ?_)
          obtain ⟨hP1, hK1, hD1⟩ := hB
          rw [ht] at hP1
          obtain ⟨hP, hD⟩ := va_join (wr := (wd_6b0d8e05 h0 h1 h3 x86 h2 g0 f5 h3 g1 fn90)) (w1 := (wd_09b0abee h1 h2 v1 x87 x88 x89)) hP hD [1] [0, 2, 3] rfl rfl (by decide) (by decide) hk1 hFc hP1 hD1
          generalize H1 = H at hP hS ⊢
          have hP := hP.sub (ws' := (wd_1ad0248d h0 h1 h3 x86 h1 h2 v1 x87 x88 x89 h2 g0 f5 h3 g1 fn90)) [0, 3, 1, 2] rfl
          have hD := hD.sub (ws' := (wd_1ad0248d h0 h1 h3 x86 h1 h2 v1 x87 x88 x89 h2 g0 f5 h3 g1 fn90)) [0, 3, 1, 2] (by decide) rfl
          have hP : va_P (dC, dI) vwCl (wd_1ad0248d h0 h1 h3 x86 h1 h2 v1 x87 x88 x89 h2 g0 f5 h3 g1 fn90) H := hP
          have hD : va_D A (wd_1ad0248d h0 h1 h3 x86 h1 h2 v1 x87 x88 x89 h2 g0 f5 h3 g1 fn90) := hD
          subst hQ
          have hP9 := hP.sub (ws' := (wd_1ad0248d h0 h1 h3 x86 h1 h2 v1 x87 x88 x89 h2 g0 f5 h3 g1 fn90)) [0, 1, 2, 3] rfl
          have hD9 := hD.sub (ws' := (wd_1ad0248d h0 h1 h3 x86 h1 h2 v1 x87 x88 x89 h2 g0 f5 h3 g1 fn90)) [0, 1, 2, 3] (by decide) rfl
          have hK9 := hK.sub (tys' := []) [] rfl
          exact W.iret (v := ra101) hx hb hr (fun t ht hW => ⟨⟨ra101, (), rfl, trivial, x86, x87, x88, x89, fn90, by first | omega | decide, by first | omega | decide, by rw [ht]; exact hP9, va_K.moved hW.alike hK9, hD9⟩, hS.F ht⟩) hS.2.2 dX3_read_35
  exact hL82 _ 0 0 x2 x3 v4 f6 H locs ls (by first | omega | decide) (by first | omega | decide) (by first | omega | decide) (by first | omega | decide) (Nat.lt_succ_self _) hP hD hS (lv_sub hl [0, 1] rfl)
def q_J0_coder_7d493_1 : List Cond := .code yJ0_coder_7d493 cJ0_coder_7d493 1 (some .byte) :: (([.fieldLink RJ0 38 "java/lang/String" "COMPACT_STRINGS" "Z", .fieldLink RJ0 15 "java/lang/String" "coder" "B"] : List Cond))
set_option maxHeartbeats 4000000 in
set_option maxRecDepth 100000 in
theorem k_J0_coder_7d493_1 (l : Launch) (dC : Nat → ClassId) (dI : Nat → Nat → Nat) (adK : Nat → Nat) (adV : Nat → Nat) (sz : Nat) : Met l yJ0_coder_7d493 q_J0_coder_7d493_1 ({ frames := 0, cells := 0, slots := 0, locals := 0 }) (va_Pc [.ref (adK 1)] (fun U => U.heap.size = sz ∧ va_P (dC, dI) vwCl [] U.heap ∧ va_K (dC, dI) vwCl [] U ∧ va_D (fun _ => True) [] ∧ va_Z "java/lang/String" "COMPACT_STRINGS" "Z" (.int 1) (va_A [] sz) U U.heap ∧ vk_S 3 pv_len3 pv_byt3 adK adV (va_A [] sz) U U.heap)) (va_Qi (fun (r : Int32) (_ : Unit) => 0 ≤ r.toInt ∧ r.toInt ≤ 0) (fun (_ : Unit) (t : State) => va_P (dC, dI) vwCl [] t.heap ∧ va_K (dC, dI) vwCl [] t ∧ va_D (va_A [] sz) []) (va_A [] sz)) 0 0 (va_A [] sz) := by
  refine pv_ofWF (cc := cJ0_coder_7d493) (maxL := 1) (ret := (some .byte)) (by decide +kernel) rfl ?_
  intro p e s m args below meth c s₁ B hml hv
  obtain ⟨rfl, hsz, hP, hK, hD0, h_st_CS, h_st_S⟩ := hv
  have hx := B.exec
  have hb := B.bytes
  have hr := B.returns
  have hts := atoms_spec (ws := q_J0_coder_7d493_1) B.pre
  have hown : s.vm.findClass RJ0 = some m.cls := findClass_of_methodNamed B.named
  have hlocks := B.notSynchronized
  subst hsz
  have hD := hD0.self (sz := s.heap.size)
  generalize hAe : va_A [] s.heap.size = A at hD h_st_CS h_st_S ⊢
  have hA : ∀ q : Nat, s.heap.size ≤ q → A q := fun q h => by rw [← hAe]; exact Or.inr h
  have hS : va_S A s.heap s.heap [] := va_S.rf
  generalize hQ : (MQ below _ _ s 0 0 A) = Q
  have hl := lv_entry ([.ref (adK 1)]) (n := 1) (Nat.le_of_ble_eq_true rfl)
  rw [lg_entry_eq]
  generalize (lg_sl ([.ref (adK 1)]) ++ List.replicate (1 - (lg_sl ([.ref (adK 1)])).length) Slot.unset).toArray = ls at hl ⊢
  have hl : lv_has ls 1 [(0, .ref (adK 1))] := hl
  obtain ⟨H, hH⟩ : ∃ H : Heap, H = s.heap := ⟨_, rfl⟩
  obtain ⟨locs, hlocs⟩ : ∃ y : List Loc, y = [] := ⟨_, rfl⟩
  have hS : va_S A s.heap H locs := by rw [hH, hlocs]; exact va_S.rf
  have hP : va_P (dC, dI) vwCl [] H := by rw [hH]; exact hP
  rw [← hH, ← hlocs]
  refine va_gets hx hb h_st_CS hS hown (hts (.fieldLink RJ0 38 "java/lang/String" "COMPACT_STRINGS" "Z") (List.mem_cons_of_mem _ (List.mem_of_getElem? (i := 0) rfl))) (fun _ h9 => h9) dJ0_coder_7d493_0 ?_
  refine lv_if_eq (tgt := 13) hx hb dJ0_coder_7d493_3 (by decide) (fun c => absurd c (by decide)) (fun _ => ?_)
  refine lv_aload_n hx hb dJ0_coder_7d493_6 rfl (lv_at hl 0 rfl) ?_
  refine vk_getf hx hb (h_st_S.1 1 (by decide)).2.1 hS hown (hts (.fieldLink RJ0 15 "java/lang/String" "coder" "B") (List.mem_cons_of_mem _ (List.mem_of_getElem? (i := 1) rfl))) (fun _ h9 => h9) dJ0_coder_7d493_7 ?_
  refine lv_goto (tgt := 14) hx hb dJ0_coder_7d493_10 (by decide) ?_
  subst hQ
  have hP9 := hP.sub (ws' := []) [] rfl
  have hD9 := hD.sub (ws' := []) [] (by decide) rfl
  have hK9 := hK.sub (tys' := []) [] rfl
  exact W.zret (v := 0) hx hb hr rfl (fun t ht hW => ⟨⟨0, (), rfl, ⟨by first | omega | decide, by first | omega | decide⟩, by rw [ht]; exact hP9, va_K.moved hW.alike hK9, hD9⟩, hS.F ht⟩) hS.2.2 dJ0_coder_7d493_14
def q_J0_length_8abf5_1 : List Cond := .code yJ0_length_8abf5 cJ0_length_8abf5 1 (some .int) :: (([.fieldLink RJ0 9 "java/lang/String" "value" "[B", .code yJ0_coder_7d493 cJ0_coder_7d493 1 (some .byte), .fieldLink RJ0 38 "java/lang/String" "COMPACT_STRINGS" "Z", .fieldLink RJ0 15 "java/lang/String" "coder" "B", .initialized RJ0, .instanceMethod yJ0_coder_7d493, .selects RJ0 yJ0_coder_7d493 yJ0_coder_7d493, .methodLink RJ0 335 yJ0_coder_7d493] : List Cond))
set_option maxRecDepth 20000 in
theorem g_J0_length_8abf5_1_0 : GoodIn q_J0_length_8abf5_1 (wsV RJ0 335 RJ0 yJ0_coder_7d493 q_J0_coder_7d493_1) := goodIn_app (goodIn_r _ [8, 6, 7, 5] rfl (by decide +kernel)) (goodIn_r (.code yJ0_coder_7d493 cJ0_coder_7d493 1 (some .byte) :: [.fieldLink RJ0 38 "java/lang/String" "COMPACT_STRINGS" "Z", .fieldLink RJ0 15 "java/lang/String" "coder" "B"]) [2, 3, 4] rfl (by decide +kernel))
set_option maxHeartbeats 4000000 in
set_option maxRecDepth 100000 in
theorem k_J0_length_8abf5_1 (l : Launch) (dC : Nat → ClassId) (dI : Nat → Nat → Nat) (adK : Nat → Nat) (adV : Nat → Nat) (sz : Nat) : Met l yJ0_length_8abf5 q_J0_length_8abf5_1 ({ frames := 1, cells := 0, slots := 0, locals := 20 }) (va_Pc [.ref (adK 1)] (fun U => U.heap.size = sz ∧ va_P (dC, dI) vwCl [] U.heap ∧ va_K (dC, dI) vwCl [] U ∧ va_D (fun _ => True) [] ∧ vk_S 3 pv_len3 pv_byt3 adK adV (va_A [] sz) U U.heap ∧ va_Z "java/lang/String" "COMPACT_STRINGS" "Z" (.int 1) (va_A [] sz) U U.heap)) (va_Qi (fun (r : Int32) (_ : Unit) => 5 ≤ r.toInt ∧ r.toInt ≤ 5) (fun (_ : Unit) (t : State) => va_P (dC, dI) vwCl [] t.heap ∧ va_K (dC, dI) vwCl [] t ∧ va_D (va_A [] sz) []) (va_A [] sz)) 0 0 (va_A [] sz) := by
  refine pv_ofWF (cc := cJ0_length_8abf5) (maxL := 1) (ret := (some .int)) (by decide +kernel) rfl ?_
  intro p e s m args below meth c s₁ B hml hv
  obtain ⟨rfl, hsz, hP, hK, hD0, h_st_S, h_st_CS⟩ := hv
  have hx := B.exec
  have hb := B.bytes
  have hr := B.returns
  have hts := atoms_spec (ws := q_J0_length_8abf5_1) B.pre
  have hown : s.vm.findClass RJ0 = some m.cls := findClass_of_methodNamed B.named
  have hlocks := B.notSynchronized
  subst hsz
  have hD := hD0.self (sz := s.heap.size)
  generalize hAe : va_A [] s.heap.size = A at hD h_st_S h_st_CS ⊢
  have hA : ∀ q : Nat, s.heap.size ≤ q → A q := fun q h => by rw [← hAe]; exact Or.inr h
  have hS : va_S A s.heap s.heap [] := va_S.rf
  generalize hQ : (MQ below _ _ s 0 0 A) = Q
  have hl := lv_entry ([.ref (adK 1)]) (n := 1) (Nat.le_of_ble_eq_true rfl)
  rw [lg_entry_eq]
  generalize (lg_sl ([.ref (adK 1)]) ++ List.replicate (1 - (lg_sl ([.ref (adK 1)])).length) Slot.unset).toArray = ls at hl ⊢
  have hl : lv_has ls 1 [(0, .ref (adK 1))] := hl
  obtain ⟨H, hH⟩ : ∃ H : Heap, H = s.heap := ⟨_, rfl⟩
  obtain ⟨locs, hlocs⟩ : ∃ y : List Loc, y = [] := ⟨_, rfl⟩
  have hS : va_S A s.heap H locs := by rw [hH, hlocs]; exact va_S.rf
  have hP : va_P (dC, dI) vwCl [] H := by rw [hH]; exact hP
  rw [← hH, ← hlocs]
  refine lv_aload_n hx hb dJ0_length_8abf5_0 rfl (lv_at hl 0 rfl) ?_
  refine vk_getf hx hb (h_st_S.1 1 (by decide)).2.2.1 hS hown (hts (.fieldLink RJ0 9 "java/lang/String" "value" "[B") (List.mem_cons_of_mem _ (List.mem_of_getElem? (i := 0) rfl))) (fun _ h9 => h9) dJ0_length_8abf5_1 ?_
  refine va_tlen (v := 5) hx hb (h_st_S.1 1 (by decide)).2.2.2 hS (by decide) dJ0_length_8abf5_4 ?_
  refine lv_aload_n hx hb dJ0_length_8abf5_5 rfl (lv_at hl 0 rfl) ?_
  have hPc := hP.sub (ws' := []) [] rfl
  have hDc := hD.sub (ws' := []) [] (by decide) rfl
  have hKc := hK.sub (tys' := []) [] rfl
  have hFc := va_free (wc := []) hD hS hA [] rfl
  refine va_calli (va_runV (As := []) (rest := [.int 5]) ⟨hx, hb, hml, hown, hts⟩ (k_J0_coder_7d493_1 l dC dI adK adV  H.size) (cwV 0 hts g_J0_length_8abf5_1_0 rfl rfl rfl (by decide +kernel) ⟨Nat.le_of_ble_eq_true rfl, Nat.le_of_ble_eq_true rfl⟩) ⟨fun a U g mk q => by obtain ⟨q0, q1, qP, qK, qD, n0, n1⟩ := q; exact ⟨q0, q1, qP, va_K.moved (u := U) (U := U.calling g mk a) (Vm.Alike.refl U.vm) qK, qD, va_Z.moved (Vm.Alike.refl _) n0, vk_S.moved (Vm.Alike.refl _) n1⟩, vk_recv h_st_S (by decide : 1 < 3) hS, fun U hU hW => ⟨rfl, by rw [hU], by rw [hU]; exact hPc, va_K.moved hW.alike hKc, hDc.weaken (fun _ _ _ _ => trivial), (by rw [hU]; exact (va_Z.moved hW.alike (va_Z.kept h_st_CS hS.2.1)).narrow hFc), (by rw [hU]; exact (vk_S.moved hW.alike (vk_S.kept h_st_S hS.2.1)).narrow hFc)⟩⟩ rfl rfl hl.1 rfl (lv_room (Nat.le_of_ble_eq_true rfl)) dJ0_length_8abf5_6 ⟨Nat.le_of_ble_eq_true rfl, Nat.le_of_ble_eq_true rfl⟩) hS (fun q _ h => hFc q h) hFc (fun ra1 u t H1 locs ht hvm hwra1 hB hz1 hk1 hS => ?_)
  obtain ⟨hP1, hK1, hD1⟩ := hB
  rw [ht] at hP1
  obtain ⟨hP, hD⟩ := va_join (wr := []) (w1 := []) hP hD [] [] rfl rfl (by decide) (by decide) hk1 hFc hP1 hD1
  generalize H1 = H at hP hS ⊢
  have hP : va_P (dC, dI) vwCl [] H := hP
  have hD : va_D A [] := hD
  obtain ⟨wa_ra1, wb_ra1⟩ := hwra1
  have wa_ra1 : 0 ≤ ra1.toInt := wa_ra1
  have wb_ra1 : ra1.toInt ≤ 0 := wb_ra1
  obtain rfl : ra1 = (0 : Int32) := Int32.toInt_inj.mp (by rw [show ((0 : Int32)).toInt = 0 by decide]; omega)
  refine lv_ishr hx hb dJ0_length_8abf5_9 ?_
  refine lv_topi (fun tv2 etv2 => ?_)
  obtain rfl : tv2 = (5 : Int32) := etv2.trans (by first | rfl | decide)
  subst hQ
  have hP9 := hP.sub (ws' := []) [] rfl
  have hD9 := hD.sub (ws' := []) [] (by decide) rfl
  have hK9 := hK.sub (tys' := []) [] rfl
  exact W.iret (v := 5) hx hb hr (fun t ht hW => ⟨⟨5, (), rfl, ⟨by first | omega | decide, by first | omega | decide⟩, by rw [ht]; exact hP9, va_K.moved hW.alike hK9, hD9⟩, hS.F ht⟩) hS.2.2 dJ0_length_8abf5_10
def q_J0_isLatin1_aae02_1 : List Cond := .code yJ0_isLatin1_aae02 cJ0_isLatin1_aae02 1 (some .boolean) :: (([.fieldLink RJ0 38 "java/lang/String" "COMPACT_STRINGS" "Z", .fieldLink RJ0 15 "java/lang/String" "coder" "B"] : List Cond))
set_option maxHeartbeats 4000000 in
set_option maxRecDepth 100000 in
theorem k_J0_isLatin1_aae02_1 (l : Launch) (dC : Nat → ClassId) (dI : Nat → Nat → Nat) (adK : Nat → Nat) (adV : Nat → Nat) (sz : Nat) : Met l yJ0_isLatin1_aae02 q_J0_isLatin1_aae02_1 ({ frames := 0, cells := 0, slots := 0, locals := 0 }) (va_Pc [.ref (adK 1)] (fun U => U.heap.size = sz ∧ va_P (dC, dI) vwCl [] U.heap ∧ va_K (dC, dI) vwCl [] U ∧ va_D (fun _ => True) [] ∧ va_Z "java/lang/String" "COMPACT_STRINGS" "Z" (.int 1) (va_A [] sz) U U.heap ∧ vk_S 3 pv_len3 pv_byt3 adK adV (va_A [] sz) U U.heap)) (va_Qi (fun (r : Int32) (_ : Unit) => 1 ≤ r.toInt ∧ r.toInt ≤ 1) (fun (_ : Unit) (t : State) => va_P (dC, dI) vwCl [] t.heap ∧ va_K (dC, dI) vwCl [] t ∧ va_D (va_A [] sz) []) (va_A [] sz)) 0 0 (va_A [] sz) := by
  refine pv_ofWF (cc := cJ0_isLatin1_aae02) (maxL := 1) (ret := (some .boolean)) (by decide +kernel) rfl ?_
  intro p e s m args below meth c s₁ B hml hv
  obtain ⟨rfl, hsz, hP, hK, hD0, h_st_CS, h_st_S⟩ := hv
  have hx := B.exec
  have hb := B.bytes
  have hr := B.returns
  have hts := atoms_spec (ws := q_J0_isLatin1_aae02_1) B.pre
  have hown : s.vm.findClass RJ0 = some m.cls := findClass_of_methodNamed B.named
  have hlocks := B.notSynchronized
  subst hsz
  have hD := hD0.self (sz := s.heap.size)
  generalize hAe : va_A [] s.heap.size = A at hD h_st_CS h_st_S ⊢
  have hA : ∀ q : Nat, s.heap.size ≤ q → A q := fun q h => by rw [← hAe]; exact Or.inr h
  have hS : va_S A s.heap s.heap [] := va_S.rf
  generalize hQ : (MQ below _ _ s 0 0 A) = Q
  have hl := lv_entry ([.ref (adK 1)]) (n := 1) (Nat.le_of_ble_eq_true rfl)
  rw [lg_entry_eq]
  generalize (lg_sl ([.ref (adK 1)]) ++ List.replicate (1 - (lg_sl ([.ref (adK 1)])).length) Slot.unset).toArray = ls at hl ⊢
  have hl : lv_has ls 1 [(0, .ref (adK 1))] := hl
  obtain ⟨H, hH⟩ : ∃ H : Heap, H = s.heap := ⟨_, rfl⟩
  obtain ⟨locs, hlocs⟩ : ∃ y : List Loc, y = [] := ⟨_, rfl⟩
  have hS : va_S A s.heap H locs := by rw [hH, hlocs]; exact va_S.rf
  have hP : va_P (dC, dI) vwCl [] H := by rw [hH]; exact hP
  rw [← hH, ← hlocs]
  refine va_gets hx hb h_st_CS hS hown (hts (.fieldLink RJ0 38 "java/lang/String" "COMPACT_STRINGS" "Z") (List.mem_cons_of_mem _ (List.mem_of_getElem? (i := 0) rfl))) (fun _ h9 => h9) dJ0_isLatin1_aae02_0 ?_
  refine lv_if_eq (tgt := 17) hx hb dJ0_isLatin1_aae02_3 (by decide) (fun c => absurd c (by decide)) (fun _ => ?_)
  refine lv_aload_n hx hb dJ0_isLatin1_aae02_6 rfl (lv_at hl 0 rfl) ?_
  refine vk_getf hx hb (h_st_S.1 1 (by decide)).2.1 hS hown (hts (.fieldLink RJ0 15 "java/lang/String" "coder" "B") (List.mem_cons_of_mem _ (List.mem_of_getElem? (i := 1) rfl))) (fun _ h9 => h9) dJ0_isLatin1_aae02_7 ?_
  refine lv_if_ne (tgt := 17) hx hb dJ0_isLatin1_aae02_10 (by decide) (fun c => absurd (by decide) c) (fun _ => ?_)
  refine lv_iconst (v := 1) hx hb dJ0_isLatin1_aae02_13 (by decide) ?_
  refine lv_goto (tgt := 18) hx hb dJ0_isLatin1_aae02_14 (by decide) ?_
  subst hQ
  have hP9 := hP.sub (ws' := []) [] rfl
  have hD9 := hD.sub (ws' := []) [] (by decide) rfl
  have hK9 := hK.sub (tys' := []) [] rfl
  exact W.zret (v := 1) hx hb hr rfl (fun t ht hW => ⟨⟨1, (), rfl, ⟨by first | omega | decide, by first | omega | decide⟩, by rw [ht]; exact hP9, va_K.moved hW.alike hK9, hD9⟩, hS.F ht⟩) hS.2.2 dJ0_isLatin1_aae02_18
def q_J1_indexOfChar_4cfef_1 : List Cond := .code yJ1_indexOfChar_4cfef cJ1_indexOfChar_4cfef 6 (some .int) :: (([] : List Cond))
set_option maxHeartbeats 4000000 in
set_option maxRecDepth 100000 in
theorem k_J1_indexOfChar_4cfef_1 (l : Launch) (dC : Nat → ClassId) (dI : Nat → Nat → Nat) (adK : Nat → Nat) (adV : Nat → Nat) (v0 : Int32) (sz : Nat) : Met l yJ1_indexOfChar_4cfef q_J1_indexOfChar_4cfef_1 ({ frames := 0, cells := 0, slots := 0, locals := 0 }) (va_Pc [.ref (adV 1), .int v0, .int 0, .int 5] (fun U => U.heap.size = sz ∧ va_P (dC, dI) vwCl [] U.heap ∧ va_K (dC, dI) vwCl [] U ∧ va_D (fun _ => True) [] ∧ vk_S 3 pv_len3 pv_byt3 adK adV (va_A [] sz) U U.heap)) (va_Qi (fun (r : Int32) (_ : Unit) => -1 ≤ r.toInt ∧ r.toInt ≤ 4) (fun (_ : Unit) (t : State) => va_P (dC, dI) vwCl [] t.heap ∧ va_K (dC, dI) vwCl [] t ∧ va_D (va_A [] sz) []) (va_A [] sz)) 0 0 (va_A [] sz) := by
  refine pv_ofWF (cc := cJ1_indexOfChar_4cfef) (maxL := 6) (ret := (some .int)) (by decide +kernel) rfl ?_
  intro p e s m args below meth c s₁ B hml hv
  obtain ⟨rfl, hsz, hP, hK, hD0, h_st_S⟩ := hv
  have hx := B.exec
  have hb := B.bytes
  have hr := B.returns
  have hts := atoms_spec (ws := q_J1_indexOfChar_4cfef_1) B.pre
  have hown : s.vm.findClass RJ1 = some m.cls := findClass_of_methodNamed B.named
  have hlocks := B.notSynchronized
  subst hsz
  have hD := hD0.self (sz := s.heap.size)
  generalize hAe : va_A [] s.heap.size = A at hD h_st_S ⊢
  have hA : ∀ q : Nat, s.heap.size ≤ q → A q := fun q h => by rw [← hAe]; exact Or.inr h
  have hS : va_S A s.heap s.heap [] := va_S.rf
  generalize hQ : (MQ below _ _ s 0 0 A) = Q
  have hl := lv_entry ([.ref (adV 1), .int v0, .int 0, .int 5]) (n := 6) (Nat.le_of_ble_eq_true rfl)
  rw [lg_entry_eq]
  generalize (lg_sl ([.ref (adV 1), .int v0, .int 0, .int 5]) ++ List.replicate (6 - (lg_sl ([.ref (adV 1), .int v0, .int 0, .int 5])).length) Slot.unset).toArray = ls at hl ⊢
  have hl : lv_has ls 6 [(0, .ref (adV 1)), (1, .int v0), (2, .int 0), (3, .int 5)] := hl
  obtain ⟨H, hH⟩ : ∃ H : Heap, H = s.heap := ⟨_, rfl⟩
  obtain ⟨locs, hlocs⟩ : ∃ y : List Loc, y = [] := ⟨_, rfl⟩
  have hS : va_S A s.heap H locs := by rw [hH, hlocs]; exact va_S.rf
  have hP : va_P (dC, dI) vwCl [] H := by rw [hH]; exact hP
  rw [← hH, ← hlocs]
  refine lv_iload_n hx hb dJ1_indexOfChar_4cfef_0 rfl (lv_at hl 1 rfl) ?_
  obtain ⟨t1, et1⟩ : ∃ z : Int32, z = (v0 : Int32).toInt8.toInt32 := ⟨_, rfl⟩
  refine lv_i2b (v := t1) hx hb dJ1_indexOfChar_4cfef_1 (by rw [et1]) ?_
  refine lv_istore (lv' := [(4, .int t1), (0, .ref (adV 1)), (1, .int v0), (2, .int 0), (3, .int 5)]) hx hb dJ1_indexOfChar_4cfef_2 hl (by decide) rfl (fun ls hl => ?_)
  refine lv_iload_n hx hb dJ1_indexOfChar_4cfef_4 rfl (lv_at hl 3 rfl) ?_
  refine lv_istore (lv' := [(5, .int 0), (4, .int t1), (0, .ref (adV 1)), (1, .int v0), (2, .int 0), (3, .int 5)]) hx hb dJ1_indexOfChar_4cfef_5 hl (by decide) rfl (fun ls hl => ?_)
  have hL6 : ∀ (n9 : Nat), ∀ (x4 : Int32) (H : Heap) (locs : List Loc) (ls : Array Slot), 0 ≤ x4.toInt → x4.toInt ≤ 5 → (5 - x4.toInt).toNat < n9 → va_P (dC, dI) vwCl [] H → va_D A [] → va_S A s.heap H locs → lv_has ls 6 [(5, .int x4), (4, .int t1), (0, .ref (adV 1)), (1, .int v0), (2, .int 0), (3, .int 5)] → W p l e ({ frames := 0, cells := 0, slots := 0, locals := 0 }) s m ([.ref (adV 1), .int v0, .int 0, .int 5] : List Value).toArray below meth c H locs 0 0 Q (F0 m 7 ls []) := by
    intro n9
    induction n9 with
    | zero => intro x4 H locs ls qa_x4 qb_x4 hm9 hP hD hS hl; exact absurd hm9 (Nat.not_lt_zero _)
    | succ n9 ih_hL6 =>
      intro x4 H locs ls qa_x4 qb_x4 hm9 hP hD hS hl
      refine lv_iload hx hb dJ1_indexOfChar_4cfef_7 (lv_at hl 0 rfl) ?_
      refine lv_iload_n hx hb dJ1_indexOfChar_4cfef_9 rfl (lv_at hl 5 rfl) ?_
      refine lv_icmp_ge (tgt := 31) hx hb dJ1_indexOfChar_4cfef_10 (by decide) (fun c7 => ?_) (fun c7 => ?_)
      · skip
        have fc7 : 5 ≤ x4.toInt := Int32.le_iff_toInt_le.mp c7
        refine lv_iconst (v := (-1)) hx hb dJ1_indexOfChar_4cfef_31 (by decide) ?_
        subst hQ
        have hP9 := hP.sub (ws' := []) [] rfl
        have hD9 := hD.sub (ws' := []) [] (by decide) rfl
        have hK9 := hK.sub (tys' := []) [] rfl
        exact W.iret (v := (-1)) hx hb hr (fun t ht hW => ⟨⟨(-1), (), rfl, ⟨by first | omega | decide, by first | omega | decide⟩, by rw [ht]; exact hP9, va_K.moved hW.alike hK9, hD9⟩, hS.F ht⟩) hS.2.2 dJ1_indexOfChar_4cfef_32
      · skip
        have fc7 : ¬ (5 ≤ x4.toInt) := fun h9 => c7 (Int32.le_iff_toInt_le.mpr h9)
        refine lv_aload_n hx hb dJ1_indexOfChar_4cfef_13 rfl (lv_at hl 2 rfl) ?_
        refine lv_iload hx hb dJ1_indexOfChar_4cfef_14 (lv_at hl 0 rfl) ?_
        refine va_tb hx hb (h_st_S.1 1 (by decide)).2.2.2 hS (show vp_in x4 5 from (vp_in_iff.mpr ⟨by omega, by omega⟩)) rfl dJ1_indexOfChar_4cfef_16 ?_
        refine lv_topi (fun t8 et8 => ?_)
        refine lv_iload hx hb dJ1_indexOfChar_4cfef_17 (lv_at hl 1 rfl) ?_
        refine lv_icmp_ne (tgt := 25) hx hb dJ1_indexOfChar_4cfef_19 (by decide) (fun c9 => ?_) (fun c9 => ?_)
        · skip
          have fc9 : ¬ (t8.toInt = t1.toInt) := fun h9 => c9 (Int32.toInt_inj.mp h9)
          have r1c9 := Int32.toInt_lt t8
          have r2c9 := Int32.toInt_lt t1
          have r3c9 := Int32.le_toInt t8
          have r4c9 := Int32.le_toInt t1
          obtain ⟨t10, et10⟩ : ∃ y : Int32, y = x4 + 1 := ⟨_, rfl⟩
          have gt10 : t10.toInt = x4.toInt + (1) := pv_add (a := x4.toInt) (b := (1)) et10 rfl (by decide) (by omega) (by omega)
          refine lv_iinc (v := t10) (lv' := [(5, .int t10), (4, .int t1), (0, .ref (adV 1)), (1, .int v0), (2, .int 0), (3, .int 5)]) hx hb dJ1_indexOfChar_4cfef_25 hl (k := 0) rfl (by rw [et10]; rfl) (by decide) rfl (fun ls hl => ?_)
          refine lv_goto (tgt := 7) hx hb dJ1_indexOfChar_4cfef_28 (by decide) ?_
          exact ih_hL6 t10 H locs ls (by first | omega | decide) (by first | omega | decide) (by first | omega | (simp only [Int.toNat] at *; omega)) hP hD hS (lv_sub hl [0, 1, 2, 3, 4, 5] rfl)
        · skip
          have fc9 : t8.toInt = t1.toInt := congrArg Int32.toInt c9
          have r1c9 := Int32.toInt_lt t8
          have r2c9 := Int32.toInt_lt t1
          have r3c9 := Int32.le_toInt t8
          have r4c9 := Int32.le_toInt t1
          refine lv_iload hx hb dJ1_indexOfChar_4cfef_22 (lv_at hl 0 rfl) ?_
          subst hQ
          have hP9 := hP.sub (ws' := []) [] rfl
          have hD9 := hD.sub (ws' := []) [] (by decide) rfl
          have hK9 := hK.sub (tys' := []) [] rfl
          exact W.iret (v := x4) hx hb hr (fun t ht hW => ⟨⟨x4, (), rfl, ⟨by first | omega | decide, by first | omega | decide⟩, by rw [ht]; exact hP9, va_K.moved hW.alike hK9, hD9⟩, hS.F ht⟩) hS.2.2 dJ1_indexOfChar_4cfef_24
  exact hL6 _ 0 H locs ls (by first | omega | decide) (by first | omega | decide) (Nat.lt_succ_self _) hP hD hS (lv_sub hl [0, 1, 2, 3, 4, 5] rfl)
def q_J1_indexOf_4cfef_1 : List Cond := .code yJ1_indexOf_4cfef cJ1_indexOf_4cfef 4 (some .int) :: (([.code yJ1_canEncode_9a6ad cJ1_canEncode_9a6ad 1 (some .boolean), .initialized RJ1, .static yJ1_canEncode_9a6ad, .methodLink RJ1 88 yJ1_canEncode_9a6ad, .methodLink RJ1 92 Lib.Math.max.name, .static Lib.Math.max.name, .initialized "java/lang/Math", .code Lib.Math.max.name Lib.Math.max.code 2 (some .int), .methodLink RJ1 38 Lib.Math.min.name, .static Lib.Math.min.name, .code Lib.Math.min.name Lib.Math.min.code 2 (some .int), .code yJ1_indexOfChar_4cfef cJ1_indexOfChar_4cfef 6 (some .int), .static yJ1_indexOfChar_4cfef, .methodLink RJ1 95 yJ1_indexOfChar_4cfef] : List Cond))
set_option maxRecDepth 20000 in
theorem g_J1_indexOf_4cfef_1_0 : GoodIn q_J1_indexOf_4cfef_1 (va_wsS RJ1 88 yJ1_canEncode_9a6ad q_J1_canEncode_9a6ad) := goodIn_app (goodIn_r _ [4, 3, 2] rfl (by decide +kernel)) (goodIn_r (.code yJ1_canEncode_9a6ad cJ1_canEncode_9a6ad 1 (some .boolean) :: []) [1] rfl (by decide +kernel))
set_option maxRecDepth 20000 in
theorem g_J1_indexOf_4cfef_1_1 : GoodIn q_J1_indexOf_4cfef_1 (va_wsS RJ1 95 yJ1_indexOfChar_4cfef q_J1_indexOfChar_4cfef_1) := goodIn_app (goodIn_r _ [14, 13, 2] rfl (by decide +kernel)) (goodIn_r (.code yJ1_indexOfChar_4cfef cJ1_indexOfChar_4cfef 6 (some .int) :: []) [12] rfl (by decide +kernel))
set_option maxHeartbeats 4000000 in
set_option maxRecDepth 100000 in
theorem k_J1_indexOf_4cfef_1 (l : Launch) (dC : Nat → ClassId) (dI : Nat → Nat → Nat) (adK : Nat → Nat) (adV : Nat → Nat) (v0 : Int32) (sz : Nat) : Met l yJ1_indexOf_4cfef q_J1_indexOf_4cfef_1 ({ frames := 1, cells := 0, slots := 0, locals := 25 }) (va_Pc [.ref (adV 1), .int v0, .int 0, .int 5] (fun U => U.heap.size = sz ∧ va_P (dC, dI) vwCl [] U.heap ∧ va_K (dC, dI) vwCl [] U ∧ va_D (fun _ => True) [] ∧ vk_S 3 pv_len3 pv_byt3 adK adV (va_A [] sz) U U.heap)) (va_Qi (fun (r : Int32) (_ : Unit) => -1 ≤ r.toInt ∧ r.toInt ≤ 4) (fun (_ : Unit) (t : State) => va_P (dC, dI) vwCl [] t.heap ∧ va_K (dC, dI) vwCl [] t ∧ va_D (va_A [] sz) []) (va_A [] sz)) 0 0 (va_A [] sz) := by
  refine pv_ofWF (cc := cJ1_indexOf_4cfef) (maxL := 4) (ret := (some .int)) (by decide +kernel) rfl ?_
  intro p e s m args below meth c s₁ B hml hv
  obtain ⟨rfl, hsz, hP, hK, hD0, h_st_S⟩ := hv
  have hx := B.exec
  have hb := B.bytes
  have hr := B.returns
  have hts := atoms_spec (ws := q_J1_indexOf_4cfef_1) B.pre
  have hown : s.vm.findClass RJ1 = some m.cls := findClass_of_methodNamed B.named
  have hlocks := B.notSynchronized
  subst hsz
  have hD := hD0.self (sz := s.heap.size)
  generalize hAe : va_A [] s.heap.size = A at hD h_st_S ⊢
  have hA : ∀ q : Nat, s.heap.size ≤ q → A q := fun q h => by rw [← hAe]; exact Or.inr h
  have hS : va_S A s.heap s.heap [] := va_S.rf
  generalize hQ : (MQ below _ _ s 0 0 A) = Q
  have hl := lv_entry ([.ref (adV 1), .int v0, .int 0, .int 5]) (n := 4) (Nat.le_of_ble_eq_true rfl)
  rw [lg_entry_eq]
  generalize (lg_sl ([.ref (adV 1), .int v0, .int 0, .int 5]) ++ List.replicate (4 - (lg_sl ([.ref (adV 1), .int v0, .int 0, .int 5])).length) Slot.unset).toArray = ls at hl ⊢
  have hl : lv_has ls 4 [(0, .ref (adV 1)), (1, .int v0), (2, .int 0), (3, .int 5)] := hl
  obtain ⟨H, hH⟩ : ∃ H : Heap, H = s.heap := ⟨_, rfl⟩
  obtain ⟨locs, hlocs⟩ : ∃ y : List Loc, y = [] := ⟨_, rfl⟩
  have hS : va_S A s.heap H locs := by rw [hH, hlocs]; exact va_S.rf
  have hP : va_P (dC, dI) vwCl [] H := by rw [hH]; exact hP
  rw [← hH, ← hlocs]
  refine lv_iload_n hx hb dJ1_indexOf_4cfef_0 rfl (lv_at hl 1 rfl) ?_
  have hPc := hP.sub (ws' := []) [] rfl
  have hDc := hD.sub (ws' := []) [] (by decide) rfl
  have hKc := hK.sub (tys' := []) [] rfl
  have hFc := va_free (wc := []) hD hS hA [] rfl
  refine va_calli (va_runS (As := [.int v0]) (rest := []) ⟨hx, hb, hml, hown, hts⟩ (k_J1_canEncode_9a6ad l dC dI v0  H.size) (va_cwS 1 hts g_J1_indexOf_4cfef_1_0 rfl rfl rfl (by decide +kernel) ⟨Nat.le_of_ble_eq_true rfl, Nat.le_of_ble_eq_true rfl⟩) ⟨fun a U g mk q => by obtain ⟨q0, q1, qP, qK, qD⟩ := q; exact ⟨q0, q1, qP, va_K.moved (u := U) (U := U.calling g mk a) (Vm.Alike.refl U.vm) qK, qD⟩, fun U hU hW => ⟨rfl, by rw [hU], by rw [hU]; exact hPc, va_K.moved hW.alike hKc, hDc.weaken (fun _ _ _ _ => trivial)⟩⟩ rfl rfl hl.1 rfl (lv_room (Nat.le_of_ble_eq_true rfl)) dJ1_indexOf_4cfef_1 ⟨Nat.le_of_ble_eq_true rfl, Nat.le_of_ble_eq_true rfl⟩) hS (fun q _ h => hFc q h) hFc (fun ra1 u t H1 locs ht hvm hwra1 hB hz1 hk1 hS => ?_)
  obtain ⟨hP1, hK1, hD1⟩ := hB
  rw [ht] at hP1
  obtain ⟨hP, hD⟩ := va_join (wr := []) (w1 := []) hP hD [] [] rfl rfl (by decide) (by decide) hk1 hFc hP1 hD1
  generalize H1 = H at hP hS ⊢
  have hP : va_P (dC, dI) vwCl [] H := hP
  have hD : va_D A [] := hD
  obtain ⟨wa_ra1, wb_ra1⟩ := hwra1
  have wa_ra1 : 0 ≤ ra1.toInt := wa_ra1
  have wb_ra1 : ra1.toInt ≤ 1 := wb_ra1
  refine lv_if_ne (tgt := 9) hx hb dJ1_indexOf_4cfef_4 (by decide) (fun c2 => ?_) (fun c2 => ?_)
  · skip
    have fc2 : ¬ (ra1.toInt = 0) := fun h9 => c2 (Int32.toInt_inj.mp h9)
    refine lv_iload_n hx hb dJ1_indexOf_4cfef_9 rfl (lv_at hl 2 rfl) ?_
    refine lv_iconst (v := 0) hx hb dJ1_indexOf_4cfef_10 (by decide) ?_
    refine va_mmax hx hb (by rw [hml]; exact hl.1.symm) hown (hts (.methodLink RJ1 92 Lib.Math.max.name) (List.mem_cons_of_mem _ (List.mem_of_getElem? (i := 4) rfl))) (hts (.static Lib.Math.max.name) (List.mem_cons_of_mem _ (List.mem_of_getElem? (i := 5) rfl))) (hts (.initialized "java/lang/Math") (List.mem_cons_of_mem _ (List.mem_of_getElem? (i := 6) rfl))) (hts (.code Lib.Math.max.name Lib.Math.max.code 2 (some .int)) (List.mem_cons_of_mem _ (List.mem_of_getElem? (i := 7) rfl))) (Nat.le_of_ble_eq_true rfl) (Nat.le_of_ble_eq_true rfl) (Nat.le_of_ble_eq_true rfl) (Nat.le_of_ble_eq_true rfl) dJ1_indexOf_4cfef_11 ?_
    refine lv_topi (fun tv3 etv3 => ?_)
    obtain rfl : tv3 = (0 : Int32) := etv3.trans (by first | rfl | decide)
    refine lv_istore_n (lv' := [(2, .int 0), (0, .ref (adV 1)), (1, .int v0), (3, .int 5)]) hx hb dJ1_indexOf_4cfef_14 rfl hl (by decide) rfl (fun ls hl => ?_)
    refine lv_iload_n hx hb dJ1_indexOf_4cfef_15 rfl (lv_at hl 3 rfl) ?_
    refine lv_aload_n hx hb dJ1_indexOf_4cfef_16 rfl (lv_at hl 1 rfl) ?_
    refine va_tlen (v := 5) hx hb (h_st_S.1 1 (by decide)).2.2.2 hS (by decide) dJ1_indexOf_4cfef_17 ?_
    refine va_mmin hx hb (by rw [hml]; exact hl.1.symm) hown (hts (.methodLink RJ1 38 Lib.Math.min.name) (List.mem_cons_of_mem _ (List.mem_of_getElem? (i := 8) rfl))) (hts (.static Lib.Math.min.name) (List.mem_cons_of_mem _ (List.mem_of_getElem? (i := 9) rfl))) (hts (.initialized "java/lang/Math") (List.mem_cons_of_mem _ (List.mem_of_getElem? (i := 6) rfl))) (hts (.code Lib.Math.min.name Lib.Math.min.code 2 (some .int)) (List.mem_cons_of_mem _ (List.mem_of_getElem? (i := 10) rfl))) (Nat.le_of_ble_eq_true rfl) (Nat.le_of_ble_eq_true rfl) (Nat.le_of_ble_eq_true rfl) (Nat.le_of_ble_eq_true rfl) dJ1_indexOf_4cfef_18 ?_
    refine lv_topi (fun tv4 etv4 => ?_)
    obtain rfl : tv4 = (5 : Int32) := etv4.trans (by first | rfl | decide)
    refine lv_istore_n (lv' := [(3, .int 5), (2, .int 0), (0, .ref (adV 1)), (1, .int v0)]) hx hb dJ1_indexOf_4cfef_21 rfl hl (by decide) rfl (fun ls hl => ?_)
    refine lv_iload_n hx hb dJ1_indexOf_4cfef_22 rfl (lv_at hl 1 rfl) ?_
    refine lv_iload_n hx hb dJ1_indexOf_4cfef_23 rfl (lv_at hl 0 rfl) ?_
    refine lv_icmp_lt (tgt := 29) hx hb dJ1_indexOf_4cfef_24 (by decide) (fun _ => ?_) (fun c => absurd (by decide) c)
    refine lv_aload_n hx hb dJ1_indexOf_4cfef_29 rfl (lv_at hl 2 rfl) ?_
    refine lv_iload_n hx hb dJ1_indexOf_4cfef_30 rfl (lv_at hl 3 rfl) ?_
    refine lv_iload_n hx hb dJ1_indexOf_4cfef_31 rfl (lv_at hl 1 rfl) ?_
    refine lv_iload_n hx hb dJ1_indexOf_4cfef_32 rfl (lv_at hl 0 rfl) ?_
    have hPc := hP.sub (ws' := []) [] rfl
    have hDc := hD.sub (ws' := []) [] (by decide) rfl
    have hKc := hK.sub (tys' := []) [] rfl
    have hFc := va_free (wc := []) hD hS hA [] rfl
    refine va_calli (va_runS (As := [.ref (adV 1), .int v0, .int 0, .int 5]) (rest := []) ⟨hx, hb, hml, hown, hts⟩ (k_J1_indexOfChar_4cfef_1 l dC dI adK adV v0  H.size) (va_cwS 4 hts g_J1_indexOf_4cfef_1_1 rfl rfl rfl (by decide +kernel) ⟨Nat.le_of_ble_eq_true rfl, Nat.le_of_ble_eq_true rfl⟩) ⟨fun a U g mk q => by obtain ⟨q0, q1, qP, qK, qD, n0⟩ := q; exact ⟨q0, q1, qP, va_K.moved (u := U) (U := U.calling g mk a) (Vm.Alike.refl U.vm) qK, qD, vk_S.moved (Vm.Alike.refl _) n0⟩, fun U hU hW => ⟨rfl, by rw [hU], by rw [hU]; exact hPc, va_K.moved hW.alike hKc, hDc.weaken (fun _ _ _ _ => trivial), (by rw [hU]; exact (vk_S.moved hW.alike (vk_S.kept h_st_S hS.2.1)).narrow hFc)⟩⟩ rfl rfl hl.1 rfl (lv_room (Nat.le_of_ble_eq_true rfl)) dJ1_indexOf_4cfef_33 ⟨Nat.le_of_ble_eq_true rfl, Nat.le_of_ble_eq_true rfl⟩) hS (fun q _ h => hFc q h) hFc (fun ra5 u t H1 locs ht hvm hwra5 hB hz1 hk1 hS => ?_)
    obtain ⟨hP1, hK1, hD1⟩ := hB
    rw [ht] at hP1
    obtain ⟨hP, hD⟩ := va_join (wr := []) (w1 := []) hP hD [] [] rfl rfl (by decide) (by decide) hk1 hFc hP1 hD1
    generalize H1 = H at hP hS ⊢
    have hP : va_P (dC, dI) vwCl [] H := hP
    have hD : va_D A [] := hD
    obtain ⟨wa_ra5, wb_ra5⟩ := hwra5
    have wa_ra5 : -1 ≤ ra5.toInt := wa_ra5
    have wb_ra5 : ra5.toInt ≤ 4 := wb_ra5
    subst hQ
    have hP9 := hP.sub (ws' := []) [] rfl
    have hD9 := hD.sub (ws' := []) [] (by decide) rfl
    have hK9 := hK.sub (tys' := []) [] rfl
    exact W.iret (v := ra5) hx hb hr (fun t ht hW => ⟨⟨ra5, (), rfl, ⟨by first | omega | decide, by first | omega | decide⟩, by rw [ht]; exact hP9, va_K.moved hW.alike hK9, hD9⟩, hS.F ht⟩) hS.2.2 dJ1_indexOf_4cfef_36
  · skip
    have fc2 : ra1.toInt = 0 := congrArg Int32.toInt c2
    refine lv_iconst (v := (-1)) hx hb dJ1_indexOf_4cfef_7 (by decide) ?_
    subst hQ
    have hP9 := hP.sub (ws' := []) [] rfl
    have hD9 := hD.sub (ws' := []) [] (by decide) rfl
    have hK9 := hK.sub (tys' := []) [] rfl
    exact W.iret (v := (-1)) hx hb hr (fun t ht hW => ⟨⟨(-1), (), rfl, ⟨by first | omega | decide, by first | omega | decide⟩, by rw [ht]; exact hP9, va_K.moved hW.alike hK9, hD9⟩, hS.F ht⟩) hS.2.2 dJ1_indexOf_4cfef_8
def q_J0_indexOf_7cf53_1 : List Cond := .code yJ0_indexOf_7cf53 cJ0_indexOf_7cf53 3 (some .int) :: (([.code yJ0_isLatin1_aae02 cJ0_isLatin1_aae02 1 (some .boolean), .fieldLink RJ0 38 "java/lang/String" "COMPACT_STRINGS" "Z", .fieldLink RJ0 15 "java/lang/String" "coder" "B", .initialized RJ0, .instanceMethod yJ0_isLatin1_aae02, .selects RJ0 yJ0_isLatin1_aae02 yJ0_isLatin1_aae02, .methodLink RJ0 492 yJ0_isLatin1_aae02, .fieldLink RJ0 9 "java/lang/String" "value" "[B", .code yJ0_length_8abf5 cJ0_length_8abf5 1 (some .int), .code yJ0_coder_7d493 cJ0_coder_7d493 1 (some .byte), .instanceMethod yJ0_coder_7d493, .selects RJ0 yJ0_coder_7d493 yJ0_coder_7d493, .methodLink RJ0 335 yJ0_coder_7d493, .instanceMethod yJ0_length_8abf5, .selects RJ0 yJ0_length_8abf5 yJ0_length_8abf5, .methodLink RJ0 505 yJ0_length_8abf5, .code yJ1_indexOf_4cfef cJ1_indexOf_4cfef 4 (some .int), .code yJ1_canEncode_9a6ad cJ1_canEncode_9a6ad 1 (some .boolean), .initialized RJ1, .static yJ1_canEncode_9a6ad, .methodLink RJ1 88 yJ1_canEncode_9a6ad, .methodLink RJ1 92 Lib.Math.max.name, .static Lib.Math.max.name, .initialized "java/lang/Math", .code Lib.Math.max.name Lib.Math.max.code 2 (some .int), .methodLink RJ1 38 Lib.Math.min.name, .static Lib.Math.min.name, .code Lib.Math.min.name Lib.Math.min.code 2 (some .int), .code yJ1_indexOfChar_4cfef cJ1_indexOfChar_4cfef 6 (some .int), .static yJ1_indexOfChar_4cfef, .methodLink RJ1 95 yJ1_indexOfChar_4cfef, .static yJ1_indexOf_4cfef, .methodLink RJ0 637 yJ1_indexOf_4cfef] : List Cond))
set_option maxRecDepth 20000 in
theorem g_J0_indexOf_7cf53_1_0 : GoodIn q_J0_indexOf_7cf53_1 (wsV RJ0 492 RJ0 yJ0_isLatin1_aae02 q_J0_isLatin1_aae02_1) := goodIn_app (goodIn_r _ [7, 5, 6, 4] rfl (by decide +kernel)) (goodIn_r (.code yJ0_isLatin1_aae02 cJ0_isLatin1_aae02 1 (some .boolean) :: [.fieldLink RJ0 38 "java/lang/String" "COMPACT_STRINGS" "Z", .fieldLink RJ0 15 "java/lang/String" "coder" "B"]) [1, 2, 3] rfl (by decide +kernel))
set_option maxRecDepth 20000 in
theorem g_J0_indexOf_7cf53_1_1 : GoodIn q_J0_indexOf_7cf53_1 (wsV RJ0 505 RJ0 yJ0_length_8abf5 q_J0_length_8abf5_1) := goodIn_app (goodIn_r _ [16, 14, 15, 4] rfl (by decide +kernel)) (goodIn_r (.code yJ0_length_8abf5 cJ0_length_8abf5 1 (some .int) :: [.fieldLink RJ0 9 "java/lang/String" "value" "[B", .code yJ0_coder_7d493 cJ0_coder_7d493 1 (some .byte), .fieldLink RJ0 38 "java/lang/String" "COMPACT_STRINGS" "Z", .fieldLink RJ0 15 "java/lang/String" "coder" "B", .initialized RJ0, .instanceMethod yJ0_coder_7d493, .selects RJ0 yJ0_coder_7d493 yJ0_coder_7d493, .methodLink RJ0 335 yJ0_coder_7d493]) [9, 8, 10, 2, 3, 4, 11, 12, 13] rfl (by decide +kernel))
set_option maxRecDepth 20000 in
theorem g_J0_indexOf_7cf53_1_2 : GoodIn q_J0_indexOf_7cf53_1 (va_wsS RJ0 637 yJ1_indexOf_4cfef q_J1_indexOf_4cfef_1) := goodIn_app (goodIn_r _ [33, 32, 19] rfl (by decide +kernel)) (goodIn_r (.code yJ1_indexOf_4cfef cJ1_indexOf_4cfef 4 (some .int) :: [.code yJ1_canEncode_9a6ad cJ1_canEncode_9a6ad 1 (some .boolean), .initialized RJ1, .static yJ1_canEncode_9a6ad, .methodLink RJ1 88 yJ1_canEncode_9a6ad, .methodLink RJ1 92 Lib.Math.max.name, .static Lib.Math.max.name, .initialized "java/lang/Math", .code Lib.Math.max.name Lib.Math.max.code 2 (some .int), .methodLink RJ1 38 Lib.Math.min.name, .static Lib.Math.min.name, .code Lib.Math.min.name Lib.Math.min.code 2 (some .int), .code yJ1_indexOfChar_4cfef cJ1_indexOfChar_4cfef 6 (some .int), .static yJ1_indexOfChar_4cfef, .methodLink RJ1 95 yJ1_indexOfChar_4cfef]) [17, 18, 19, 20, 21, 22, 23, 24, 25, 26, 27, 28, 29, 30, 31] rfl (by decide +kernel))
set_option maxHeartbeats 4000000 in
set_option maxRecDepth 100000 in
theorem k_J0_indexOf_7cf53_1 (l : Launch) (dC : Nat → ClassId) (dI : Nat → Nat → Nat) (adK : Nat → Nat) (adV : Nat → Nat) (v0 : Int32) (sz : Nat) : Met l yJ0_indexOf_7cf53 q_J0_indexOf_7cf53_1 ({ frames := 2, cells := 0, slots := 0, locals := 48 }) (va_Pc [.ref (adK 1), .int v0, .int 0] (fun U => U.heap.size = sz ∧ va_P (dC, dI) vwCl [] U.heap ∧ va_K (dC, dI) vwCl [] U ∧ va_D (fun _ => True) [] ∧ va_Z "java/lang/String" "COMPACT_STRINGS" "Z" (.int 1) (va_A [] sz) U U.heap ∧ vk_S 3 pv_len3 pv_byt3 adK adV (va_A [] sz) U U.heap)) (va_Qi (fun (r : Int32) (_ : Unit) => -1 ≤ r.toInt ∧ r.toInt ≤ 4) (fun (_ : Unit) (t : State) => va_P (dC, dI) vwCl [] t.heap ∧ va_K (dC, dI) vwCl [] t ∧ va_D (va_A [] sz) []) (va_A [] sz)) 0 0 (va_A [] sz) := by
  refine pv_ofWF (cc := cJ0_indexOf_7cf53) (maxL := 3) (ret := (some .int)) (by decide +kernel) rfl ?_
  intro p e s m args below meth c s₁ B hml hv
  obtain ⟨rfl, hsz, hP, hK, hD0, h_st_CS, h_st_S⟩ := hv
  have hx := B.exec
  have hb := B.bytes
  have hr := B.returns
  have hts := atoms_spec (ws := q_J0_indexOf_7cf53_1) B.pre
  have hown : s.vm.findClass RJ0 = some m.cls := findClass_of_methodNamed B.named
  have hlocks := B.notSynchronized
  subst hsz
  have hD := hD0.self (sz := s.heap.size)
  generalize hAe : va_A [] s.heap.size = A at hD h_st_CS h_st_S ⊢
  have hA : ∀ q : Nat, s.heap.size ≤ q → A q := fun q h => by rw [← hAe]; exact Or.inr h
  have hS : va_S A s.heap s.heap [] := va_S.rf
  generalize hQ : (MQ below _ _ s 0 0 A) = Q
  have hl := lv_entry ([.ref (adK 1), .int v0, .int 0]) (n := 3) (Nat.le_of_ble_eq_true rfl)
  rw [lg_entry_eq]
  generalize (lg_sl ([.ref (adK 1), .int v0, .int 0]) ++ List.replicate (3 - (lg_sl ([.ref (adK 1), .int v0, .int 0])).length) Slot.unset).toArray = ls at hl ⊢
  have hl : lv_has ls 3 [(0, .ref (adK 1)), (1, .int v0), (2, .int 0)] := hl
  obtain ⟨H, hH⟩ : ∃ H : Heap, H = s.heap := ⟨_, rfl⟩
  obtain ⟨locs, hlocs⟩ : ∃ y : List Loc, y = [] := ⟨_, rfl⟩
  have hS : va_S A s.heap H locs := by rw [hH, hlocs]; exact va_S.rf
  have hP : va_P (dC, dI) vwCl [] H := by rw [hH]; exact hP
  rw [← hH, ← hlocs]
  refine lv_aload_n hx hb dJ0_indexOf_7cf53_0 rfl (lv_at hl 0 rfl) ?_
  have hPc := hP.sub (ws' := []) [] rfl
  have hDc := hD.sub (ws' := []) [] (by decide) rfl
  have hKc := hK.sub (tys' := []) [] rfl
  have hFc := va_free (wc := []) hD hS hA [] rfl
  refine va_calli (va_runV (As := []) (rest := []) ⟨hx, hb, hml, hown, hts⟩ (k_J0_isLatin1_aae02_1 l dC dI adK adV  H.size) (cwV 0 hts g_J0_indexOf_7cf53_1_0 rfl rfl rfl (by decide +kernel) ⟨Nat.le_of_ble_eq_true rfl, Nat.le_of_ble_eq_true rfl⟩) ⟨fun a U g mk q => by obtain ⟨q0, q1, qP, qK, qD, n0, n1⟩ := q; exact ⟨q0, q1, qP, va_K.moved (u := U) (U := U.calling g mk a) (Vm.Alike.refl U.vm) qK, qD, va_Z.moved (Vm.Alike.refl _) n0, vk_S.moved (Vm.Alike.refl _) n1⟩, vk_recv h_st_S (by decide : 1 < 3) hS, fun U hU hW => ⟨rfl, by rw [hU], by rw [hU]; exact hPc, va_K.moved hW.alike hKc, hDc.weaken (fun _ _ _ _ => trivial), (by rw [hU]; exact (va_Z.moved hW.alike (va_Z.kept h_st_CS hS.2.1)).narrow hFc), (by rw [hU]; exact (vk_S.moved hW.alike (vk_S.kept h_st_S hS.2.1)).narrow hFc)⟩⟩ rfl rfl hl.1 rfl (lv_room (Nat.le_of_ble_eq_true rfl)) dJ0_indexOf_7cf53_1 ⟨Nat.le_of_ble_eq_true rfl, Nat.le_of_ble_eq_true rfl⟩) hS (fun q _ h => hFc q h) hFc (fun ra1 u t H1 locs ht hvm hwra1 hB hz1 hk1 hS => ?_)
  obtain ⟨hP1, hK1, hD1⟩ := hB
  rw [ht] at hP1
  obtain ⟨hP, hD⟩ := va_join (wr := []) (w1 := []) hP hD [] [] rfl rfl (by decide) (by decide) hk1 hFc hP1 hD1
  generalize H1 = H at hP hS ⊢
  have hP : va_P (dC, dI) vwCl [] H := hP
  have hD : va_D A [] := hD
  obtain ⟨wa_ra1, wb_ra1⟩ := hwra1
  have wa_ra1 : 1 ≤ ra1.toInt := wa_ra1
  have wb_ra1 : ra1.toInt ≤ 1 := wb_ra1
  refine lv_if_eq (tgt := 23) hx hb dJ0_indexOf_7cf53_4 (by decide) (fun c2 => by exfalso; have fc2 : ra1.toInt = 0 := congrArg Int32.toInt c2; omega) (fun _ => ?_)
  refine lv_aload_n hx hb dJ0_indexOf_7cf53_7 rfl (lv_at hl 0 rfl) ?_
  refine vk_getf hx hb (h_st_S.1 1 (by decide)).2.2.1 hS hown (hts (.fieldLink RJ0 9 "java/lang/String" "value" "[B") (List.mem_cons_of_mem _ (List.mem_of_getElem? (i := 7) rfl))) (fun _ h9 => h9) dJ0_indexOf_7cf53_8 ?_
  refine lv_iload_n hx hb dJ0_indexOf_7cf53_11 rfl (lv_at hl 1 rfl) ?_
  refine lv_iload_n hx hb dJ0_indexOf_7cf53_12 rfl (lv_at hl 2 rfl) ?_
  refine lv_aload_n hx hb dJ0_indexOf_7cf53_13 rfl (lv_at hl 0 rfl) ?_
  have hPc := hP.sub (ws' := []) [] rfl
  have hDc := hD.sub (ws' := []) [] (by decide) rfl
  have hKc := hK.sub (tys' := []) [] rfl
  have hFc := va_free (wc := []) hD hS hA [] rfl
  refine va_calli (va_runV (As := []) (rest := [.int 0, .int v0, .ref (adV 1)]) ⟨hx, hb, hml, hown, hts⟩ (k_J0_length_8abf5_1 l dC dI adK adV  H.size) (cwV 0 hts g_J0_indexOf_7cf53_1_1 rfl rfl rfl (by decide +kernel) ⟨Nat.le_of_ble_eq_true rfl, Nat.le_of_ble_eq_true rfl⟩) ⟨fun a U g mk q => by obtain ⟨q0, q1, qP, qK, qD, n0, n1⟩ := q; exact ⟨q0, q1, qP, va_K.moved (u := U) (U := U.calling g mk a) (Vm.Alike.refl U.vm) qK, qD, vk_S.moved (Vm.Alike.refl _) n0, va_Z.moved (Vm.Alike.refl _) n1⟩, vk_recv h_st_S (by decide : 1 < 3) hS, fun U hU hW => ⟨rfl, by rw [hU], by rw [hU]; exact hPc, va_K.moved hW.alike hKc, hDc.weaken (fun _ _ _ _ => trivial), (by rw [hU]; exact (vk_S.moved hW.alike (vk_S.kept h_st_S hS.2.1)).narrow hFc), (by rw [hU]; exact (va_Z.moved hW.alike (va_Z.kept h_st_CS hS.2.1)).narrow hFc)⟩⟩ rfl rfl hl.1 rfl (lv_room (Nat.le_of_ble_eq_true rfl)) dJ0_indexOf_7cf53_14 ⟨Nat.le_of_ble_eq_true rfl, Nat.le_of_ble_eq_true rfl⟩) hS (fun q _ h => hFc q h) hFc (fun ra3 u t H1 locs ht hvm hwra3 hB hz1 hk1 hS => ?_)
  obtain ⟨hP1, hK1, hD1⟩ := hB
  rw [ht] at hP1
  obtain ⟨hP, hD⟩ := va_join (wr := []) (w1 := []) hP hD [] [] rfl rfl (by decide) (by decide) hk1 hFc hP1 hD1
  generalize H1 = H at hP hS ⊢
  have hP : va_P (dC, dI) vwCl [] H := hP
  have hD : va_D A [] := hD
  obtain ⟨wa_ra3, wb_ra3⟩ := hwra3
  have wa_ra3 : 5 ≤ ra3.toInt := wa_ra3
  have wb_ra3 : ra3.toInt ≤ 5 := wb_ra3
  obtain rfl : ra3 = (5 : Int32) := Int32.toInt_inj.mp (by rw [show ((5 : Int32)).toInt = 5 by decide]; omega)
  have hPc := hP.sub (ws' := []) [] rfl
  have hDc := hD.sub (ws' := []) [] (by decide) rfl
  have hKc := hK.sub (tys' := []) [] rfl
  have hFc := va_free (wc := []) hD hS hA [] rfl
  refine va_calli (va_runS (As := [.ref (adV 1), .int v0, .int 0, .int 5]) (rest := []) ⟨hx, hb, hml, hown, hts⟩ (k_J1_indexOf_4cfef_1 l dC dI adK adV v0  H.size) (va_cwS 4 hts g_J0_indexOf_7cf53_1_2 rfl rfl rfl (by decide +kernel) ⟨Nat.le_of_ble_eq_true rfl, Nat.le_of_ble_eq_true rfl⟩) ⟨fun a U g mk q => by obtain ⟨q0, q1, qP, qK, qD, n0⟩ := q; exact ⟨q0, q1, qP, va_K.moved (u := U) (U := U.calling g mk a) (Vm.Alike.refl U.vm) qK, qD, vk_S.moved (Vm.Alike.refl _) n0⟩, fun U hU hW => ⟨rfl, by rw [hU], by rw [hU]; exact hPc, va_K.moved hW.alike hKc, hDc.weaken (fun _ _ _ _ => trivial), (by rw [hU]; exact (vk_S.moved hW.alike (vk_S.kept h_st_S hS.2.1)).narrow hFc)⟩⟩ rfl rfl hl.1 rfl (lv_room (Nat.le_of_ble_eq_true rfl)) dJ0_indexOf_7cf53_17 ⟨Nat.le_of_ble_eq_true rfl, Nat.le_of_ble_eq_true rfl⟩) hS (fun q _ h => hFc q h) hFc (fun ra4 u t H1 locs ht hvm hwra4 hB hz1 hk1 hS => ?_)
  obtain ⟨hP1, hK1, hD1⟩ := hB
  rw [ht] at hP1
  obtain ⟨hP, hD⟩ := va_join (wr := []) (w1 := []) hP hD [] [] rfl rfl (by decide) (by decide) hk1 hFc hP1 hD1
  generalize H1 = H at hP hS ⊢
  have hP : va_P (dC, dI) vwCl [] H := hP
  have hD : va_D A [] := hD
  obtain ⟨wa_ra4, wb_ra4⟩ := hwra4
  have wa_ra4 : -1 ≤ ra4.toInt := wa_ra4
  have wb_ra4 : ra4.toInt ≤ 4 := wb_ra4
  refine lv_goto (tgt := 36) hx hb dJ0_indexOf_7cf53_20 (by decide) ?_
  subst hQ
  have hP9 := hP.sub (ws' := []) [] rfl
  have hD9 := hD.sub (ws' := []) [] (by decide) rfl
  have hK9 := hK.sub (tys' := []) [] rfl
  exact W.iret (v := ra4) hx hb hr (fun t ht hW => ⟨⟨ra4, (), rfl, ⟨by first | omega | decide, by first | omega | decide⟩, by rw [ht]; exact hP9, va_K.moved hW.alike hK9, hD9⟩, hS.F ht⟩) hS.2.2 dJ0_indexOf_7cf53_36
def q_J0_indexOf_0f7a4_1 : List Cond := .code yJ0_indexOf_0f7a4 cJ0_indexOf_0f7a4 2 (some .int) :: (([.code yJ0_indexOf_7cf53 cJ0_indexOf_7cf53 3 (some .int), .code yJ0_isLatin1_aae02 cJ0_isLatin1_aae02 1 (some .boolean), .fieldLink RJ0 38 "java/lang/String" "COMPACT_STRINGS" "Z", .fieldLink RJ0 15 "java/lang/String" "coder" "B", .initialized RJ0, .instanceMethod yJ0_isLatin1_aae02, .selects RJ0 yJ0_isLatin1_aae02 yJ0_isLatin1_aae02, .methodLink RJ0 492 yJ0_isLatin1_aae02, .fieldLink RJ0 9 "java/lang/String" "value" "[B", .code yJ0_length_8abf5 cJ0_length_8abf5 1 (some .int), .code yJ0_coder_7d493 cJ0_coder_7d493 1 (some .byte), .instanceMethod yJ0_coder_7d493, .selects RJ0 yJ0_coder_7d493 yJ0_coder_7d493, .methodLink RJ0 335 yJ0_coder_7d493, .instanceMethod yJ0_length_8abf5, .selects RJ0 yJ0_length_8abf5 yJ0_length_8abf5, .methodLink RJ0 505 yJ0_length_8abf5, .code yJ1_indexOf_4cfef cJ1_indexOf_4cfef 4 (some .int), .code yJ1_canEncode_9a6ad cJ1_canEncode_9a6ad 1 (some .boolean), .initialized RJ1, .static yJ1_canEncode_9a6ad, .methodLink RJ1 88 yJ1_canEncode_9a6ad, .methodLink RJ1 92 Lib.Math.max.name, .static Lib.Math.max.name, .initialized "java/lang/Math", .code Lib.Math.max.name Lib.Math.max.code 2 (some .int), .methodLink RJ1 38 Lib.Math.min.name, .static Lib.Math.min.name, .code Lib.Math.min.name Lib.Math.min.code 2 (some .int), .code yJ1_indexOfChar_4cfef cJ1_indexOfChar_4cfef 6 (some .int), .static yJ1_indexOfChar_4cfef, .methodLink RJ1 95 yJ1_indexOfChar_4cfef, .static yJ1_indexOf_4cfef, .methodLink RJ0 637 yJ1_indexOf_4cfef, .instanceMethod yJ0_indexOf_7cf53, .selects RJ0 yJ0_indexOf_7cf53 yJ0_indexOf_7cf53, .methodLink RJ0 633 yJ0_indexOf_7cf53] : List Cond))
set_option maxRecDepth 20000 in
theorem g_J0_indexOf_0f7a4_1_0 : GoodIn q_J0_indexOf_0f7a4_1 (wsV RJ0 633 RJ0 yJ0_indexOf_7cf53 q_J0_indexOf_7cf53_1) := goodIn_app (goodIn_r _ [37, 35, 36, 5] rfl (by decide +kernel)) (goodIn_r (.code yJ0_indexOf_7cf53 cJ0_indexOf_7cf53 3 (some .int) :: [.code yJ0_isLatin1_aae02 cJ0_isLatin1_aae02 1 (some .boolean), .fieldLink RJ0 38 "java/lang/String" "COMPACT_STRINGS" "Z", .fieldLink RJ0 15 "java/lang/String" "coder" "B", .initialized RJ0, .instanceMethod yJ0_isLatin1_aae02, .selects RJ0 yJ0_isLatin1_aae02 yJ0_isLatin1_aae02, .methodLink RJ0 492 yJ0_isLatin1_aae02, .fieldLink RJ0 9 "java/lang/String" "value" "[B", .code yJ0_length_8abf5 cJ0_length_8abf5 1 (some .int), .code yJ0_coder_7d493 cJ0_coder_7d493 1 (some .byte), .instanceMethod yJ0_coder_7d493, .selects RJ0 yJ0_coder_7d493 yJ0_coder_7d493, .methodLink RJ0 335 yJ0_coder_7d493, .instanceMethod yJ0_length_8abf5, .selects RJ0 yJ0_length_8abf5 yJ0_length_8abf5, .methodLink RJ0 505 yJ0_length_8abf5, .code yJ1_indexOf_4cfef cJ1_indexOf_4cfef 4 (some .int), .code yJ1_canEncode_9a6ad cJ1_canEncode_9a6ad 1 (some .boolean), .initialized RJ1, .static yJ1_canEncode_9a6ad, .methodLink RJ1 88 yJ1_canEncode_9a6ad, .methodLink RJ1 92 Lib.Math.max.name, .static Lib.Math.max.name, .initialized "java/lang/Math", .code Lib.Math.max.name Lib.Math.max.code 2 (some .int), .methodLink RJ1 38 Lib.Math.min.name, .static Lib.Math.min.name, .code Lib.Math.min.name Lib.Math.min.code 2 (some .int), .code yJ1_indexOfChar_4cfef cJ1_indexOfChar_4cfef 6 (some .int), .static yJ1_indexOfChar_4cfef, .methodLink RJ1 95 yJ1_indexOfChar_4cfef, .static yJ1_indexOf_4cfef, .methodLink RJ0 637 yJ1_indexOf_4cfef]) [1, 2, 3, 4, 5, 6, 7, 8, 9, 10, 11, 12, 13, 14, 15, 16, 17, 18, 19, 20, 21, 22, 23, 24, 25, 26, 27, 28, 29, 30, 31, 32, 33, 34] rfl (by decide +kernel))
set_option maxHeartbeats 4000000 in
set_option maxRecDepth 100000 in
theorem k_J0_indexOf_0f7a4_1 (l : Launch) (dC : Nat → ClassId) (dI : Nat → Nat → Nat) (adK : Nat → Nat) (adV : Nat → Nat) (v0 : Int32) (sz : Nat) : Met l yJ0_indexOf_0f7a4 q_J0_indexOf_0f7a4_1 ({ frames := 3, cells := 0, slots := 0, locals := 70 }) (va_Pc [.ref (adK 1), .int v0] (fun U => U.heap.size = sz ∧ va_P (dC, dI) vwCl [] U.heap ∧ va_K (dC, dI) vwCl [] U ∧ va_D (fun _ => True) [] ∧ va_Z "java/lang/String" "COMPACT_STRINGS" "Z" (.int 1) (va_A [] sz) U U.heap ∧ vk_S 3 pv_len3 pv_byt3 adK adV (va_A [] sz) U U.heap)) (va_Qi (fun (r : Int32) (_ : Unit) => -1 ≤ r.toInt ∧ r.toInt ≤ 4) (fun (_ : Unit) (t : State) => va_P (dC, dI) vwCl [] t.heap ∧ va_K (dC, dI) vwCl [] t ∧ va_D (va_A [] sz) []) (va_A [] sz)) 0 0 (va_A [] sz) := by
  refine pv_ofWF (cc := cJ0_indexOf_0f7a4) (maxL := 2) (ret := (some .int)) (by decide +kernel) rfl ?_
  intro p e s m args below meth c s₁ B hml hv
  obtain ⟨rfl, hsz, hP, hK, hD0, h_st_CS, h_st_S⟩ := hv
  have hx := B.exec
  have hb := B.bytes
  have hr := B.returns
  have hts := atoms_spec (ws := q_J0_indexOf_0f7a4_1) B.pre
  have hown : s.vm.findClass RJ0 = some m.cls := findClass_of_methodNamed B.named
  have hlocks := B.notSynchronized
  subst hsz
  have hD := hD0.self (sz := s.heap.size)
  generalize hAe : va_A [] s.heap.size = A at hD h_st_CS h_st_S ⊢
  have hA : ∀ q : Nat, s.heap.size ≤ q → A q := fun q h => by rw [← hAe]; exact Or.inr h
  have hS : va_S A s.heap s.heap [] := va_S.rf
  generalize hQ : (MQ below _ _ s 0 0 A) = Q
  have hl := lv_entry ([.ref (adK 1), .int v0]) (n := 2) (Nat.le_of_ble_eq_true rfl)
  rw [lg_entry_eq]
  generalize (lg_sl ([.ref (adK 1), .int v0]) ++ List.replicate (2 - (lg_sl ([.ref (adK 1), .int v0])).length) Slot.unset).toArray = ls at hl ⊢
  have hl : lv_has ls 2 [(0, .ref (adK 1)), (1, .int v0)] := hl
  obtain ⟨H, hH⟩ : ∃ H : Heap, H = s.heap := ⟨_, rfl⟩
  obtain ⟨locs, hlocs⟩ : ∃ y : List Loc, y = [] := ⟨_, rfl⟩
  have hS : va_S A s.heap H locs := by rw [hH, hlocs]; exact va_S.rf
  have hP : va_P (dC, dI) vwCl [] H := by rw [hH]; exact hP
  rw [← hH, ← hlocs]
  refine lv_aload_n hx hb dJ0_indexOf_0f7a4_0 rfl (lv_at hl 0 rfl) ?_
  refine lv_iload_n hx hb dJ0_indexOf_0f7a4_1 rfl (lv_at hl 1 rfl) ?_
  refine lv_iconst (v := 0) hx hb dJ0_indexOf_0f7a4_2 (by decide) ?_
  have hPc := hP.sub (ws' := []) [] rfl
  have hDc := hD.sub (ws' := []) [] (by decide) rfl
  have hKc := hK.sub (tys' := []) [] rfl
  have hFc := va_free (wc := []) hD hS hA [] rfl
  refine va_calli (va_runV (As := [.int v0, .int 0]) (rest := []) ⟨hx, hb, hml, hown, hts⟩ (k_J0_indexOf_7cf53_1 l dC dI adK adV v0  H.size) (cwV 2 hts g_J0_indexOf_0f7a4_1_0 rfl rfl rfl (by decide +kernel) ⟨Nat.le_of_ble_eq_true rfl, Nat.le_of_ble_eq_true rfl⟩) ⟨fun a U g mk q => by obtain ⟨q0, q1, qP, qK, qD, n0, n1⟩ := q; exact ⟨q0, q1, qP, va_K.moved (u := U) (U := U.calling g mk a) (Vm.Alike.refl U.vm) qK, qD, va_Z.moved (Vm.Alike.refl _) n0, vk_S.moved (Vm.Alike.refl _) n1⟩, vk_recv h_st_S (by decide : 1 < 3) hS, fun U hU hW => ⟨rfl, by rw [hU], by rw [hU]; exact hPc, va_K.moved hW.alike hKc, hDc.weaken (fun _ _ _ _ => trivial), (by rw [hU]; exact (va_Z.moved hW.alike (va_Z.kept h_st_CS hS.2.1)).narrow hFc), (by rw [hU]; exact (vk_S.moved hW.alike (vk_S.kept h_st_S hS.2.1)).narrow hFc)⟩⟩ rfl rfl hl.1 rfl (lv_room (Nat.le_of_ble_eq_true rfl)) dJ0_indexOf_0f7a4_3 ⟨Nat.le_of_ble_eq_true rfl, Nat.le_of_ble_eq_true rfl⟩) hS (fun q _ h => hFc q h) hFc (fun ra1 u t H1 locs ht hvm hwra1 hB hz1 hk1 hS => ?_)
  obtain ⟨hP1, hK1, hD1⟩ := hB
  rw [ht] at hP1
  obtain ⟨hP, hD⟩ := va_join (wr := []) (w1 := []) hP hD [] [] rfl rfl (by decide) (by decide) hk1 hFc hP1 hD1
  generalize H1 = H at hP hS ⊢
  have hP : va_P (dC, dI) vwCl [] H := hP
  have hD : va_D A [] := hD
  obtain ⟨wa_ra1, wb_ra1⟩ := hwra1
  have wa_ra1 : -1 ≤ ra1.toInt := wa_ra1
  have wb_ra1 : ra1.toInt ≤ 4 := wb_ra1
  subst hQ
  have hP9 := hP.sub (ws' := []) [] rfl
  have hD9 := hD.sub (ws' := []) [] (by decide) rfl
  have hK9 := hK.sub (tys' := []) [] rfl
  exact W.iret (v := ra1) hx hb hr (fun t ht hW => ⟨⟨ra1, (), rfl, ⟨by first | omega | decide, by first | omega | decide⟩, by rw [ht]; exact hP9, va_K.moved hW.alike hK9, hD9⟩, hS.F ht⟩) hS.2.2 dJ0_indexOf_0f7a4_6
def q_X6_readLetter : List Cond := .code yX6_readLetter cX6_readLetter 4 (some .int) :: (([.fieldLink RX6 26 "LeftArguments$OfficeReader" "tape" "LLeftArguments$Tape;", .code yX10_next cX10_next 1 (some .int), .fieldLink RX10 19 "LeftArguments$Tape" "at" "I", .fieldLink RX10 15 "LeftArguments$Tape" "used" "I", .fieldLink RX10 9 "LeftArguments$Tape" "bytes" "[I", .initialized RX10, .instanceMethod yX10_next, .selects RX10 yX10_next yX10_next, .methodLink RX6 61 yX10_next, .code yJ0_indexOf_0f7a4 cJ0_indexOf_0f7a4 2 (some .int), .code yJ0_indexOf_7cf53 cJ0_indexOf_7cf53 3 (some .int), .code yJ0_isLatin1_aae02 cJ0_isLatin1_aae02 1 (some .boolean), .fieldLink RJ0 38 "java/lang/String" "COMPACT_STRINGS" "Z", .fieldLink RJ0 15 "java/lang/String" "coder" "B", .initialized RJ0, .instanceMethod yJ0_isLatin1_aae02, .selects RJ0 yJ0_isLatin1_aae02 yJ0_isLatin1_aae02, .methodLink RJ0 492 yJ0_isLatin1_aae02, .fieldLink RJ0 9 "java/lang/String" "value" "[B", .code yJ0_length_8abf5 cJ0_length_8abf5 1 (some .int), .code yJ0_coder_7d493 cJ0_coder_7d493 1 (some .byte), .instanceMethod yJ0_coder_7d493, .selects RJ0 yJ0_coder_7d493 yJ0_coder_7d493, .methodLink RJ0 335 yJ0_coder_7d493, .instanceMethod yJ0_length_8abf5, .selects RJ0 yJ0_length_8abf5 yJ0_length_8abf5, .methodLink RJ0 505 yJ0_length_8abf5, .code yJ1_indexOf_4cfef cJ1_indexOf_4cfef 4 (some .int), .code yJ1_canEncode_9a6ad cJ1_canEncode_9a6ad 1 (some .boolean), .initialized RJ1, .static yJ1_canEncode_9a6ad, .methodLink RJ1 88 yJ1_canEncode_9a6ad, .methodLink RJ1 92 Lib.Math.max.name, .static Lib.Math.max.name, .initialized "java/lang/Math", .code Lib.Math.max.name Lib.Math.max.code 2 (some .int), .methodLink RJ1 38 Lib.Math.min.name, .static Lib.Math.min.name, .code Lib.Math.min.name Lib.Math.min.code 2 (some .int), .code yJ1_indexOfChar_4cfef cJ1_indexOfChar_4cfef 6 (some .int), .static yJ1_indexOfChar_4cfef, .methodLink RJ1 95 yJ1_indexOfChar_4cfef, .static yJ1_indexOf_4cfef, .methodLink RJ0 637 yJ1_indexOf_4cfef, .instanceMethod yJ0_indexOf_7cf53, .selects RJ0 yJ0_indexOf_7cf53 yJ0_indexOf_7cf53, .methodLink RJ0 633 yJ0_indexOf_7cf53, .instanceMethod yJ0_indexOf_0f7a4, .selects RJ0 yJ0_indexOf_0f7a4 yJ0_indexOf_0f7a4, .methodLink RX6 119 yJ0_indexOf_0f7a4, .code yX10_wrongHere cX10_wrongHere 1 (some .boolean), .fieldLink RX10 22 "LeftArguments$Tape" "wrongAt" "I", .instanceMethod yX10_wrongHere, .selects RX10 yX10_wrongHere yX10_wrongHere, .methodLink RX6 93 yX10_wrongHere, .code yX10_step cX10_step 1 none, .instanceMethod yX10_step, .selects RX10 yX10_step yX10_step, .methodLink RX6 70 yX10_step] : List Cond) ++ wsX60 ++ wsX100)
set_option maxRecDepth 20000 in
theorem g_X6_readLetter_0 : GoodIn q_X6_readLetter (wsV RX6 61 RX10 yX10_next q_X10_next) := goodIn_app (goodIn_r _ [9, 7, 8, 6] rfl (by decide +kernel)) (goodIn_ca (goodIn_r (.code yX10_next cX10_next 1 (some .int) :: [.fieldLink RX10 19 "LeftArguments$Tape" "at" "I", .fieldLink RX10 15 "LeftArguments$Tape" "used" "I", .fieldLink RX10 9 "LeftArguments$Tape" "bytes" "[I"]) [2, 3, 4, 5] rfl (by decide +kernel)) (goodIn_sub (fun _ h => List.mem_cons_of_mem _ (List.mem_append_right _ h)) gwX10))
set_option maxRecDepth 20000 in
theorem g_X6_readLetter_1 : GoodIn q_X6_readLetter (wsV RX6 119 RJ0 yJ0_indexOf_0f7a4 q_J0_indexOf_0f7a4_1) := goodIn_app (goodIn_r _ [50, 48, 49, 15] rfl (by decide +kernel)) (goodIn_r (.code yJ0_indexOf_0f7a4 cJ0_indexOf_0f7a4 2 (some .int) :: [.code yJ0_indexOf_7cf53 cJ0_indexOf_7cf53 3 (some .int), .code yJ0_isLatin1_aae02 cJ0_isLatin1_aae02 1 (some .boolean), .fieldLink RJ0 38 "java/lang/String" "COMPACT_STRINGS" "Z", .fieldLink RJ0 15 "java/lang/String" "coder" "B", .initialized RJ0, .instanceMethod yJ0_isLatin1_aae02, .selects RJ0 yJ0_isLatin1_aae02 yJ0_isLatin1_aae02, .methodLink RJ0 492 yJ0_isLatin1_aae02, .fieldLink RJ0 9 "java/lang/String" "value" "[B", .code yJ0_length_8abf5 cJ0_length_8abf5 1 (some .int), .code yJ0_coder_7d493 cJ0_coder_7d493 1 (some .byte), .instanceMethod yJ0_coder_7d493, .selects RJ0 yJ0_coder_7d493 yJ0_coder_7d493, .methodLink RJ0 335 yJ0_coder_7d493, .instanceMethod yJ0_length_8abf5, .selects RJ0 yJ0_length_8abf5 yJ0_length_8abf5, .methodLink RJ0 505 yJ0_length_8abf5, .code yJ1_indexOf_4cfef cJ1_indexOf_4cfef 4 (some .int), .code yJ1_canEncode_9a6ad cJ1_canEncode_9a6ad 1 (some .boolean), .initialized RJ1, .static yJ1_canEncode_9a6ad, .methodLink RJ1 88 yJ1_canEncode_9a6ad, .methodLink RJ1 92 Lib.Math.max.name, .static Lib.Math.max.name, .initialized "java/lang/Math", .code Lib.Math.max.name Lib.Math.max.code 2 (some .int), .methodLink RJ1 38 Lib.Math.min.name, .static Lib.Math.min.name, .code Lib.Math.min.name Lib.Math.min.code 2 (some .int), .code yJ1_indexOfChar_4cfef cJ1_indexOfChar_4cfef 6 (some .int), .static yJ1_indexOfChar_4cfef, .methodLink RJ1 95 yJ1_indexOfChar_4cfef, .static yJ1_indexOf_4cfef, .methodLink RJ0 637 yJ1_indexOf_4cfef, .instanceMethod yJ0_indexOf_7cf53, .selects RJ0 yJ0_indexOf_7cf53 yJ0_indexOf_7cf53, .methodLink RJ0 633 yJ0_indexOf_7cf53]) [10, 11, 12, 13, 14, 15, 16, 17, 18, 19, 20, 21, 22, 23, 24, 25, 26, 27, 28, 29, 30, 31, 32, 33, 34, 35, 36, 37, 38, 39, 40, 41, 42, 43, 44, 45, 46, 47] rfl (by decide +kernel))
set_option maxRecDepth 20000 in
theorem g_X6_readLetter_2 : GoodIn q_X6_readLetter (wsV RX6 93 RX10 yX10_wrongHere q_X10_wrongHere) := goodIn_app (goodIn_r _ [55, 53, 54, 6] rfl (by decide +kernel)) (goodIn_ca (goodIn_r (.code yX10_wrongHere cX10_wrongHere 1 (some .boolean) :: [.fieldLink RX10 19 "LeftArguments$Tape" "at" "I", .fieldLink RX10 22 "LeftArguments$Tape" "wrongAt" "I"]) [51, 3, 52] rfl (by decide +kernel)) (goodIn_sub (fun _ h => List.mem_cons_of_mem _ (List.mem_append_right _ h)) gwX10))
set_option maxRecDepth 20000 in
theorem g_X6_readLetter_3 : GoodIn q_X6_readLetter (wsV RX6 70 RX10 yX10_step q_X10_step) := goodIn_app (goodIn_r _ [59, 57, 58, 6] rfl (by decide +kernel)) (goodIn_ca (goodIn_r (.code yX10_step cX10_step 1 none :: [.fieldLink RX10 19 "LeftArguments$Tape" "at" "I"]) [56, 3] rfl (by decide +kernel)) (goodIn_sub (fun _ h => List.mem_cons_of_mem _ (List.mem_append_right _ h)) gwX10))
set_option maxHeartbeats 4000000 in
set_option maxRecDepth 100000 in
theorem k_X6_readLetter (l : Launch) (dC : Nat → ClassId) (dI : Nat → Nat → Nat) (adK : Nat → Nat) (adV : Nat → Nat) (h0 : Nat) (h1 : Nat) (h2 : Nat) (r0 : Nat) (r1 : Nat) (v0 : Int32) (v1 : Int32) (v2 : Int32) (v3 : Int32) (v4 : Int32) (v5 : Int32) (g0 : ClassId) (f6 : Nat → Int32) (v7 : Int32) (i_v0 : 0 ≤ v0.toInt ∧ v0.toInt ≤ 1) (i_v1 : 0 ≤ v1.toInt ∧ v1.toInt ≤ 8) (i_v2 : 0 ≤ v2.toInt ∧ v2.toInt ≤ 240) (sz : Nat) : Met l yX6_readLetter q_X6_readLetter ({ frames := 4, cells := 0, slots := 0, locals := 91 }) (va_Pc [.ref h0, .ref (adK 1), .int v7] (fun U => U.heap.size = sz ∧ va_P (dC, dI) vwCl (wd_1b33869b h0 h1 r0 r1 v0 v1 h1 h2 v2 v3 v4 v5 h2 g0 f6) U.heap ∧ va_K (dC, dI) vwCl [(g0, .int)] U ∧ va_D (fun _ => True) (wd_1b33869b h0 h1 r0 r1 v0 v1 h1 h2 v2 v3 v4 v5 h2 g0 f6) ∧ va_Z "java/lang/String" "COMPACT_STRINGS" "Z" (.int 1) (va_A (wd_1b33869b h0 h1 r0 r1 v0 v1 h1 h2 v2 v3 v4 v5 h2 g0 f6) sz) U U.heap ∧ vk_S 3 pv_len3 pv_byt3 adK adV (va_A (wd_1b33869b h0 h1 r0 r1 v0 v1 h1 h2 v2 v3 v4 v5 h2 g0 f6) sz) U U.heap)) (va_Qi (fun (r : Int32) (_ : Unit) => -1 ≤ r.toInt ∧ r.toInt ≤ 4) (fun (_ : Unit) (t : State) => ∃ (o_h1_2 : Int32) (o_h1_3 : Int32), va_P (dC, dI) vwCl (wd_1b33869b h0 h1 r0 r1 v0 v1 h1 h2 v2 o_h1_2 o_h1_3 v5 h2 g0 f6) t.heap ∧ va_K (dC, dI) vwCl [] t ∧ va_D (va_A (wd_1b33869b h0 h1 r0 r1 v0 v1 h1 h2 v2 v3 v4 v5 h2 g0 f6) sz) (wd_1b33869b h0 h1 r0 r1 v0 v1 h1 h2 v2 o_h1_2 o_h1_3 v5 h2 g0 f6)) (va_A (wd_1b33869b h0 h1 r0 r1 v0 v1 h1 h2 v2 v3 v4 v5 h2 g0 f6) sz)) 0 0 (va_A (wd_1b33869b h0 h1 r0 r1 v0 v1 h1 h2 v2 v3 v4 v5 h2 g0 f6) sz) := by
  refine Met.ofW (cc := cX6_readLetter) (maxL := 4) (ret := (some .int)) (by decide) rfl ?_
  intro p e s m args below meth c s₁ B hml hv
  obtain ⟨i_v0a, i_v0b⟩ := i_v0
  obtain ⟨i_v1a, i_v1b⟩ := i_v1
  obtain ⟨i_v2a, i_v2b⟩ := i_v2
  obtain ⟨rfl, hsz, hP, hK, hD0, h_st_CS, h_st_S⟩ := hv
  have hx := B.exec
  have hb := B.bytes
  have hr := B.returns
  have hts := atoms_spec (ws := q_X6_readLetter) B.pre
  have hown : s.vm.findClass RX6 = some m.cls := findClass_of_methodNamed B.named
  have hlocks := B.notSynchronized
  subst hsz
  have hD := hD0.self (sz := s.heap.size)
  generalize hAe : va_A (wd_1b33869b h0 h1 r0 r1 v0 v1 h1 h2 v2 v3 v4 v5 h2 g0 f6) s.heap.size = A at hD h_st_CS h_st_S ⊢
  have hA : ∀ q : Nat, s.heap.size ≤ q → A q := fun q h => by rw [← hAe]; exact Or.inr h
  have hS : va_S A s.heap s.heap [] := va_S.rf
  generalize hQ : (MQ below _ _ s 0 0 A) = Q
  have hl := lv_entry ([.ref h0, .ref (adK 1), .int v7]) (n := 4) (Nat.le_of_ble_eq_true rfl)
  rw [lg_entry_eq]
  generalize (lg_sl ([.ref h0, .ref (adK 1), .int v7]) ++ List.replicate (4 - (lg_sl ([.ref h0, .ref (adK 1), .int v7])).length) Slot.unset).toArray = ls at hl ⊢
  have hl : lv_has ls 4 [(0, .ref h0), (1, .ref (adK 1)), (2, .int v7)] := hl
  obtain ⟨H, hH⟩ : ∃ H : Heap, H = s.heap := ⟨_, rfl⟩
  obtain ⟨locs, hlocs⟩ : ∃ y : List Loc, y = [] := ⟨_, rfl⟩
  have hS : va_S A s.heap H locs := by rw [hH, hlocs]; exact va_S.rf
  have hP : va_P (dC, dI) vwCl (wd_1b33869b h0 h1 r0 r1 v0 v1 h1 h2 v2 v3 v4 v5 h2 g0 f6) H := by rw [hH]; exact hP
  rw [← hH, ← hlocs]
  refine lv_aload_n hx hb dX6_readLetter_0 rfl (lv_at hl 1 rfl) ?_
  refine lv_aload_n hx hb dX6_readLetter_1 rfl (lv_at hl 0 rfl) ?_
  refine va_get (D := (dC, dI)) (ci := 6) (v := .ref h1) (C := RX6) (T := TX6) (N := 5) hx hb hts (fun _ h => List.mem_cons_of_mem _ (List.mem_append_left _ (List.mem_append_right _ h))) hown hK hP 0 rfl rfl 0 (by decide) (hts (.fieldLink RX6 26 "LeftArguments$OfficeReader" "tape" "LLeftArguments$Tape;") (List.mem_cons_of_mem _ (List.mem_append_left _ (List.mem_append_left _ (List.mem_of_getElem? (i := 0) rfl))))) (fun _ h9 => h9) rfl dX6_readLetter_2 ?_
  have hPc := hP.sub (ws' := (wd_82cdd16b h1 h2 v2 v3 v4 v5 h2 g0 f6)) [1, 2] rfl
  have hDc := hD.sub (ws' := (wd_82cdd16b h1 h2 v2 v3 v4 v5 h2 g0 f6)) [1, 2] (by decide) rfl
  have hKc := hK.sub (tys' := [(g0, .int)]) [0] rfl
  have hFc := va_free (wc := (wd_82cdd16b h1 h2 v2 v3 v4 v5 h2 g0 f6)) hD hS hA [1, 2] rfl
  refine va_calli (va_runV (As := []) (rest := [.ref (adK 1)]) ⟨hx, hb, hml, hown, hts⟩ (k_X10_next l dC dI h1 h2 v2 v3 v4 v5 g0 f6 ⟨by first | omega | decide, by first | omega | decide⟩ H.size) (cwV 0 hts g_X6_readLetter_0 rfl rfl rfl (by decide +kernel) ⟨Nat.le_of_ble_eq_true rfl, Nat.le_of_ble_eq_true rfl⟩) ⟨fun a U g mk q => by obtain ⟨q0, q1, qP, qK, qD⟩ := q; exact ⟨q0, q1, qP, va_K.moved (u := U) (U := U.calling g mk a) (Vm.Alike.refl U.vm) qK, qD⟩, va_recv hKc hPc (ci := 10) (q0 := 0) rfl rfl, fun U hU hW => ⟨rfl, by rw [hU], by rw [hU]; exact hPc, va_K.moved hW.alike hKc, hDc.weaken (fun _ _ _ _ => trivial)⟩⟩ rfl rfl hl.1 rfl (lv_room (Nat.le_of_ble_eq_true rfl)) dX6_readLetter_5 ⟨Nat.le_of_ble_eq_true rfl, Nat.le_of_ble_eq_true rfl⟩) hS (fun q _ h => hFc q h) hFc (fun ra1 u t H1 locs ht hvm hwra1 hB hz1 hk1 hS => ?_)
  obtain ⟨x2, hP1, hK1, hD1⟩ := hB
  rw [ht] at hP1
  obtain ⟨hP, hD⟩ := va_join (wr := (wd_ca2b0013 h0 h1 r0 r1 v0 v1)) (w1 := (wd_82cdd16b h1 h2 v2 x2 v4 v5 h2 g0 f6)) hP hD [1, 2] [0] rfl rfl (by decide) (by decide) hk1 hFc hP1 hD1
  generalize H1 = H at hP hS ⊢
  have hP : va_P (dC, dI) vwCl (wd_1b33869b h0 h1 r0 r1 v0 v1 h1 h2 v2 x2 v4 v5 h2 g0 f6) H := hP
  have hD : va_D A (wd_1b33869b h0 h1 r0 r1 v0 v1 h1 h2 v2 x2 v4 v5 h2 g0 f6) := hD
  obtain ⟨t3, et3⟩ : ∃ z : Int32, z = ((ra1 : Int32).toUInt32 % 65536).toInt32 := ⟨_, rfl⟩
  refine lv_i2c (v := t3) hx hb dX6_readLetter_8 (by rw [et3]) ?_
  have hPc := hP.sub (ws' := []) [] rfl
  have hDc := hD.sub (ws' := []) [] (by decide) rfl
  have hKc := hK.sub (tys' := []) [] rfl
  have hFc := va_free (wc := []) hD hS hA [] rfl
  refine va_calli (va_runV (As := [.int t3]) (rest := []) ⟨hx, hb, hml, hown, hts⟩ (k_J0_indexOf_0f7a4_1 l dC dI adK adV t3  H.size) (cwV 1 hts g_X6_readLetter_1 rfl rfl rfl (by decide +kernel) ⟨Nat.le_of_ble_eq_true rfl, Nat.le_of_ble_eq_true rfl⟩) ⟨fun a U g mk q => by obtain ⟨q0, q1, qP, qK, qD, n0, n1⟩ := q; exact ⟨q0, q1, qP, va_K.moved (u := U) (U := U.calling g mk a) (Vm.Alike.refl U.vm) qK, qD, va_Z.moved (Vm.Alike.refl _) n0, vk_S.moved (Vm.Alike.refl _) n1⟩, vk_recv h_st_S (by decide : 1 < 3) hS, fun U hU hW => ⟨rfl, by rw [hU], by rw [hU]; exact hPc, va_K.moved hW.alike hKc, hDc.weaken (fun _ _ _ _ => trivial), (by rw [hU]; exact (va_Z.moved hW.alike (va_Z.kept h_st_CS hS.2.1)).narrow hFc), (by rw [hU]; exact (vk_S.moved hW.alike (vk_S.kept h_st_S hS.2.1)).narrow hFc)⟩⟩ rfl rfl hl.1 rfl (lv_room (Nat.le_of_ble_eq_true rfl)) dX6_readLetter_9 ⟨Nat.le_of_ble_eq_true rfl, Nat.le_of_ble_eq_true rfl⟩) hS (fun q _ h => hFc q h) hFc (fun ra4 u t H1 locs ht hvm hwra4 hB hz1 hk1 hS => ?_)
  obtain ⟨hP1, hK1, hD1⟩ := hB
  rw [ht] at hP1
  obtain ⟨hP, hD⟩ := va_join (wr := (wd_1b33869b h0 h1 r0 r1 v0 v1 h1 h2 v2 x2 v4 v5 h2 g0 f6)) (w1 := []) hP hD [] [0, 1, 2] rfl rfl (by decide) (by decide) hk1 hFc hP1 hD1
  generalize H1 = H at hP hS ⊢
  have hP : va_P (dC, dI) vwCl (wd_1b33869b h0 h1 r0 r1 v0 v1 h1 h2 v2 x2 v4 v5 h2 g0 f6) H := hP
  have hD : va_D A (wd_1b33869b h0 h1 r0 r1 v0 v1 h1 h2 v2 x2 v4 v5 h2 g0 f6) := hD
  obtain ⟨wa_ra4, wb_ra4⟩ := hwra4
  have wa_ra4 : -1 ≤ ra4.toInt := wa_ra4
  have wb_ra4 : ra4.toInt ≤ 4 := wb_ra4
  refine lv_istore_n (lv' := [(3, .int ra4), (0, .ref h0), (1, .ref (adK 1)), (2, .int v7)]) hx hb dX6_readLetter_12 rfl hl (by decide) rfl (fun ls hl => ?_)
  refine lv_iload_n hx hb dX6_readLetter_13 rfl (lv_at hl 0 rfl) ?_
  refine lv_if_lt (tgt := 26) hx hb dX6_readLetter_14 (by decide) (fun c5 => ?_) (fun c5 => ?_)
  · skip
    have fc5 : ra4.toInt < 0 := Int32.lt_iff_toInt_lt.mp c5
    refine lv_aload_n hx hb dX6_readLetter_26 rfl (lv_at hl 1 rfl) ?_
    refine va_get (D := (dC, dI)) (ci := 6) (v := .ref h1) (C := RX6) (T := TX6) (N := 5) hx hb hts (fun _ h => List.mem_cons_of_mem _ (List.mem_append_left _ (List.mem_append_right _ h))) hown hK hP 0 rfl rfl 0 (by decide) (hts (.fieldLink RX6 26 "LeftArguments$OfficeReader" "tape" "LLeftArguments$Tape;") (List.mem_cons_of_mem _ (List.mem_append_left _ (List.mem_append_left _ (List.mem_of_getElem? (i := 0) rfl))))) (fun _ h9 => h9) rfl dX6_readLetter_27 ?_
    have hPc := hP.sub (ws' := (wd_09b0abee h1 h2 v2 x2 v4 v5)) [1] rfl
    have hDc := hD.sub (ws' := (wd_09b0abee h1 h2 v2 x2 v4 v5)) [1] (by decide) rfl
    have hKc := hK.sub (tys' := []) [] rfl
    have hFc := va_free (wc := (wd_09b0abee h1 h2 v2 x2 v4 v5)) hD hS hA [1] rfl
    refine va_calli (va_runV (As := []) (rest := []) ⟨hx, hb, hml, hown, hts⟩ (k_X10_wrongHere l dC dI h1 h2 v2 x2 v4 v5 ⟨by first | omega | decide, by first | omega | decide⟩ H.size) (cwV 0 hts g_X6_readLetter_2 rfl rfl rfl (by decide +kernel) ⟨Nat.le_of_ble_eq_true rfl, Nat.le_of_ble_eq_true rfl⟩) ⟨fun a U g mk q => by obtain ⟨q0, q1, qP, qK, qD⟩ := q; exact ⟨q0, q1, qP, va_K.moved (u := U) (U := U.calling g mk a) (Vm.Alike.refl U.vm) qK, qD⟩, va_recv hKc hPc (ci := 10) (q0 := 0) rfl rfl, fun U hU hW => ⟨rfl, by rw [hU], by rw [hU]; exact hPc, va_K.moved hW.alike hKc, hDc.weaken (fun _ _ _ _ => trivial)⟩⟩ rfl rfl hl.1 rfl (lv_room (Nat.le_of_ble_eq_true rfl)) dX6_readLetter_30 ⟨Nat.le_of_ble_eq_true rfl, Nat.le_of_ble_eq_true rfl⟩) hS (fun q _ h => hFc q h) hFc (fun ra6 u t H1 locs ht hvm hwra6 hB hz1 hk1 hS => ?_)
    obtain ⟨x7, hP1, hK1, hD1⟩ := hB
    rw [ht] at hP1
    obtain ⟨hP, hD⟩ := va_join (wr := (wd_5ddcf59f h0 h1 r0 r1 v0 v1 h2 g0 f6)) (w1 := (wd_09b0abee h1 h2 v2 x2 x7 v5)) hP hD [1] [0, 2] rfl rfl (by decide) (by decide) hk1 hFc hP1 hD1
    generalize H1 = H at hP hS ⊢
    have hP := hP.sub (ws' := (wd_1b33869b h0 h1 r0 r1 v0 v1 h1 h2 v2 x2 x7 v5 h2 g0 f6)) [0, 2, 1] rfl
    have hD := hD.sub (ws' := (wd_1b33869b h0 h1 r0 r1 v0 v1 h1 h2 v2 x2 x7 v5 h2 g0 f6)) [0, 2, 1] (by decide) rfl
    have hP : va_P (dC, dI) vwCl (wd_1b33869b h0 h1 r0 r1 v0 v1 h1 h2 v2 x2 x7 v5 h2 g0 f6) H := hP
    have hD : va_D A (wd_1b33869b h0 h1 r0 r1 v0 v1 h1 h2 v2 x2 x7 v5 h2 g0 f6) := hD
    obtain ⟨wa_ra6, wb_ra6⟩ := hwra6
    have wa_ra6 : 0 ≤ ra6.toInt := wa_ra6
    have wb_ra6 : ra6.toInt ≤ 0 := wb_ra6
    refine lv_pop hx hb dX6_readLetter_33 rfl ?_
    refine lv_iconst (v := (-1)) hx hb dX6_readLetter_34 (by decide) ?_
    subst hQ
    have hP9 := hP.sub (ws' := (wd_1b33869b h0 h1 r0 r1 v0 v1 h1 h2 v2 x2 x7 v5 h2 g0 f6)) [0, 1, 2] rfl
    have hD9 := hD.sub (ws' := (wd_1b33869b h0 h1 r0 r1 v0 v1 h1 h2 v2 x2 x7 v5 h2 g0 f6)) [0, 1, 2] (by decide) rfl
    have hK9 := hK.sub (tys' := []) [] rfl
    exact W.iret (v := (-1)) hx hb hr (fun t ht hW => ⟨⟨(-1), (), rfl, ⟨by first | omega | decide, by first | omega | decide⟩, x2, x7, by rw [ht]; exact hP9, va_K.moved hW.alike hK9, hD9⟩, hS.F ht⟩) hS.2.2 dX6_readLetter_35
  · skip
    have fc5 : ¬ (ra4.toInt < 0) := fun h9 => c5 (Int32.lt_iff_toInt_lt.mpr h9)
    refine lv_iload_n hx hb dX6_readLetter_17 rfl (lv_at hl 3 rfl) ?_
    refine lv_iload_n hx hb dX6_readLetter_18 rfl (lv_at hl 0 rfl) ?_
    refine lv_ishr hx hb dX6_readLetter_19 ?_
    refine lv_topi (fun t8 et8 => ?_)
    refine lv_iconst (v := 1) hx hb dX6_readLetter_20 (by decide) ?_
    refine lv_iand hx hb dX6_readLetter_21 ?_
    refine lv_topi (fun t9 et9 => ?_)
    have gt9 : 0 ≤ t9.toInt ∧ t9.toInt ≤ 1 := pv_andR et9 (by decide) (by decide)
    refine lv_iconst (v := 1) hx hb dX6_readLetter_22 (by decide) ?_
    refine lv_icmp_ne (tgt := 36) hx hb dX6_readLetter_23 (by decide) (fun c10 => ?_) (fun c10 => ?_)
    · skip
      have fc10 : ¬ (t9.toInt = 1) := fun h9 => c10 (Int32.toInt_inj.mp h9)
      refine lv_aload_n hx hb dX6_readLetter_36 rfl (lv_at hl 1 rfl) ?_
      refine va_get (D := (dC, dI)) (ci := 6) (v := .ref h1) (C := RX6) (T := TX6) (N := 5) hx hb hts (fun _ h => List.mem_cons_of_mem _ (List.mem_append_left _ (List.mem_append_right _ h))) hown hK hP 0 rfl rfl 0 (by decide) (hts (.fieldLink RX6 26 "LeftArguments$OfficeReader" "tape" "LLeftArguments$Tape;") (List.mem_cons_of_mem _ (List.mem_append_left _ (List.mem_append_left _ (List.mem_of_getElem? (i := 0) rfl))))) (fun _ h9 => h9) rfl dX6_readLetter_37 ?_
      have hPc := hP.sub (ws' := (wd_09b0abee h1 h2 v2 x2 v4 v5)) [1] rfl
      have hDc := hD.sub (ws' := (wd_09b0abee h1 h2 v2 x2 v4 v5)) [1] (by decide) rfl
      have hKc := hK.sub (tys' := []) [] rfl
      have hFc := va_free (wc := (wd_09b0abee h1 h2 v2 x2 v4 v5)) hD hS hA [1] rfl
      refine va_callv (va_runV (As := []) (rest := []) ⟨hx, hb, hml, hown, hts⟩ (k_X10_step l dC dI h1 h2 v2 x2 v4 v5 ⟨by first | omega | decide, by first | omega | decide⟩ H.size) (cwV 0 hts g_X6_readLetter_3 rfl rfl rfl (by decide +kernel) ⟨Nat.le_of_ble_eq_true rfl, Nat.le_of_ble_eq_true rfl⟩) ⟨fun a U g mk q => by obtain ⟨q0, q1, qP, qK, qD⟩ := q; exact ⟨q0, q1, qP, va_K.moved (u := U) (U := U.calling g mk a) (Vm.Alike.refl U.vm) qK, qD⟩, va_recv hKc hPc (ci := 10) (q0 := 0) rfl rfl, fun U hU hW => ⟨rfl, by rw [hU], by rw [hU]; exact hPc, va_K.moved hW.alike hKc, hDc.weaken (fun _ _ _ _ => trivial)⟩⟩ rfl rfl hl.1 rfl (lv_room (Nat.le_of_ble_eq_true rfl)) dX6_readLetter_40 ⟨Nat.le_of_ble_eq_true rfl, Nat.le_of_ble_eq_true rfl⟩) hS (fun q _ h => hFc q h) hFc (fun u t H1 locs ht hvm hwra11 hB hz1 hk1 hS => ?_)
      obtain ⟨x12, hP1, hK1, hD1⟩ := hB
      rw [ht] at hP1
      obtain ⟨hP, hD⟩ := va_join (wr := (wd_5ddcf59f h0 h1 r0 r1 v0 v1 h2 g0 f6)) (w1 := (wd_09b0abee h1 h2 v2 x12 v4 v5)) hP hD [1] [0, 2] rfl rfl (by decide) (by decide) hk1 hFc hP1 hD1
      generalize H1 = H at hP hS ⊢
      have hP := hP.sub (ws' := (wd_1b33869b h0 h1 r0 r1 v0 v1 h1 h2 v2 x12 v4 v5 h2 g0 f6)) [0, 2, 1] rfl
      have hD := hD.sub (ws' := (wd_1b33869b h0 h1 r0 r1 v0 v1 h1 h2 v2 x12 v4 v5 h2 g0 f6)) [0, 2, 1] (by decide) rfl
      have hP : va_P (dC, dI) vwCl (wd_1b33869b h0 h1 r0 r1 v0 v1 h1 h2 v2 x12 v4 v5 h2 g0 f6) H := hP
      have hD : va_D A (wd_1b33869b h0 h1 r0 r1 v0 v1 h1 h2 v2 x12 v4 v5 h2 g0 f6) := hD
      refine lv_iload_n hx hb dX6_readLetter_43 rfl (lv_at hl 0 rfl) ?_
      subst hQ
      have hP9 := hP.sub (ws' := (wd_1b33869b h0 h1 r0 r1 v0 v1 h1 h2 v2 x12 v4 v5 h2 g0 f6)) [0, 1, 2] rfl
      have hD9 := hD.sub (ws' := (wd_1b33869b h0 h1 r0 r1 v0 v1 h1 h2 v2 x12 v4 v5 h2 g0 f6)) [0, 1, 2] (by decide) rfl
      have hK9 := hK.sub (tys' := []) [] rfl
      exact W.iret (v := ra4) hx hb hr (fun t ht hW => ⟨⟨ra4, (), rfl, ⟨by first | omega | decide, by first | omega | decide⟩, x12, v4, by rw [ht]; exact hP9, va_K.moved hW.alike hK9, hD9⟩, hS.F ht⟩) hS.2.2 dX6_readLetter_44
    · skip
      have fc10 : t9.toInt = 1 := congrArg Int32.toInt c10
      refine lv_aload_n hx hb dX6_readLetter_26 rfl (lv_at hl 1 rfl) ?_
      refine va_get (D := (dC, dI)) (ci := 6) (v := .ref h1) (C := RX6) (T := TX6) (N := 5) hx hb hts (fun _ h => List.mem_cons_of_mem _ (List.mem_append_left _ (List.mem_append_right _ h))) hown hK hP 0 rfl rfl 0 (by decide) (hts (.fieldLink RX6 26 "LeftArguments$OfficeReader" "tape" "LLeftArguments$Tape;") (List.mem_cons_of_mem _ (List.mem_append_left _ (List.mem_append_left _ (List.mem_of_getElem? (i := 0) rfl))))) (fun _ h9 => h9) rfl dX6_readLetter_27 ?_
      have hPc := hP.sub (ws' := (wd_09b0abee h1 h2 v2 x2 v4 v5)) [1] rfl
      have hDc := hD.sub (ws' := (wd_09b0abee h1 h2 v2 x2 v4 v5)) [1] (by decide) rfl
      have hKc := hK.sub (tys' := []) [] rfl
      have hFc := va_free (wc := (wd_09b0abee h1 h2 v2 x2 v4 v5)) hD hS hA [1] rfl
      refine va_calli (va_runV (As := []) (rest := []) ⟨hx, hb, hml, hown, hts⟩ (k_X10_wrongHere l dC dI h1 h2 v2 x2 v4 v5 ⟨by first | omega | decide, by first | omega | decide⟩ H.size) (cwV 0 hts g_X6_readLetter_2 rfl rfl rfl (by decide +kernel) ⟨Nat.le_of_ble_eq_true rfl, Nat.le_of_ble_eq_true rfl⟩) ⟨fun a U g mk q => by obtain ⟨q0, q1, qP, qK, qD⟩ := q; exact ⟨q0, q1, qP, va_K.moved (u := U) (U := U.calling g mk a) (Vm.Alike.refl U.vm) qK, qD⟩, va_recv hKc hPc (ci := 10) (q0 := 0) rfl rfl, fun U hU hW => ⟨rfl, by rw [hU], by rw [hU]; exact hPc, va_K.moved hW.alike hKc, hDc.weaken (fun _ _ _ _ => trivial)⟩⟩ rfl rfl hl.1 rfl (lv_room (Nat.le_of_ble_eq_true rfl)) dX6_readLetter_30 ⟨Nat.le_of_ble_eq_true rfl, Nat.le_of_ble_eq_true rfl⟩) hS (fun q _ h => hFc q h) hFc (fun ra13 u t H1 locs ht hvm hwra13 hB hz1 hk1 hS => ?_)
      obtain ⟨x14, hP1, hK1, hD1⟩ := hB
      rw [ht] at hP1
      obtain ⟨hP, hD⟩ := va_join (wr := (wd_5ddcf59f h0 h1 r0 r1 v0 v1 h2 g0 f6)) (w1 := (wd_09b0abee h1 h2 v2 x2 x14 v5)) hP hD [1] [0, 2] rfl rfl (by decide) (by decide) hk1 hFc hP1 hD1
      generalize H1 = H at hP hS ⊢
      have hP := hP.sub (ws' := (wd_1b33869b h0 h1 r0 r1 v0 v1 h1 h2 v2 x2 x14 v5 h2 g0 f6)) [0, 2, 1] rfl
      have hD := hD.sub (ws' := (wd_1b33869b h0 h1 r0 r1 v0 v1 h1 h2 v2 x2 x14 v5 h2 g0 f6)) [0, 2, 1] (by decide) rfl
      have hP : va_P (dC, dI) vwCl (wd_1b33869b h0 h1 r0 r1 v0 v1 h1 h2 v2 x2 x14 v5 h2 g0 f6) H := hP
      have hD : va_D A (wd_1b33869b h0 h1 r0 r1 v0 v1 h1 h2 v2 x2 x14 v5 h2 g0 f6) := hD
      obtain ⟨wa_ra13, wb_ra13⟩ := hwra13
      have wa_ra13 : 0 ≤ ra13.toInt := wa_ra13
      have wb_ra13 : ra13.toInt ≤ 0 := wb_ra13
      refine lv_pop hx hb dX6_readLetter_33 rfl ?_
      refine lv_iconst (v := (-1)) hx hb dX6_readLetter_34 (by decide) ?_
      subst hQ
      have hP9 := hP.sub (ws' := (wd_1b33869b h0 h1 r0 r1 v0 v1 h1 h2 v2 x2 x14 v5 h2 g0 f6)) [0, 1, 2] rfl
      have hD9 := hD.sub (ws' := (wd_1b33869b h0 h1 r0 r1 v0 v1 h1 h2 v2 x2 x14 v5 h2 g0 f6)) [0, 1, 2] (by decide) rfl
      have hK9 := hK.sub (tys' := []) [] rfl
      exact W.iret (v := (-1)) hx hb hr (fun t ht hW => ⟨⟨(-1), (), rfl, ⟨by first | omega | decide, by first | omega | decide⟩, x2, x14, by rw [ht]; exact hP9, va_K.moved hW.alike hK9, hD9⟩, hS.F ht⟩) hS.2.2 dX6_readLetter_35
def q_X6_readItems : List Cond := .code yX6_readItems cX6_readItems 9 (some .boolean) :: (([.code yJ0_length_8abf5 cJ0_length_8abf5 1 (some .int), .fieldLink RJ0 9 "java/lang/String" "value" "[B", .code yJ0_coder_7d493 cJ0_coder_7d493 1 (some .byte), .fieldLink RJ0 38 "java/lang/String" "COMPACT_STRINGS" "Z", .fieldLink RJ0 15 "java/lang/String" "coder" "B", .initialized RJ0, .instanceMethod yJ0_coder_7d493, .selects RJ0 yJ0_coder_7d493 yJ0_coder_7d493, .methodLink RJ0 335 yJ0_coder_7d493, .instanceMethod yJ0_length_8abf5, .selects RJ0 yJ0_length_8abf5 yJ0_length_8abf5, .methodLink RX6 96 yJ0_length_8abf5, .code yX6_atClauseEnd cX6_atClauseEnd 2 (some .boolean), .fieldLink RX6 26 "LeftArguments$OfficeReader" "tape" "LLeftArguments$Tape;", .code yX10_next cX10_next 1 (some .int), .fieldLink RX10 19 "LeftArguments$Tape" "at" "I", .fieldLink RX10 15 "LeftArguments$Tape" "used" "I", .fieldLink RX10 9 "LeftArguments$Tape" "bytes" "[I", .initialized RX10, .instanceMethod yX10_next, .selects RX10 yX10_next yX10_next, .methodLink RX6 61 yX10_next, .initialized RX6, .instanceMethod yX6_atClauseEnd, .selects RX6 yX6_atClauseEnd yX6_atClauseEnd, .methodLink RX6 101 yX6_atClauseEnd, .code yX6_readLetter cX6_readLetter 4 (some .int), .code yJ0_indexOf_0f7a4 cJ0_indexOf_0f7a4 2 (some .int), .code yJ0_indexOf_7cf53 cJ0_indexOf_7cf53 3 (some .int), .code yJ0_isLatin1_aae02 cJ0_isLatin1_aae02 1 (some .boolean), .instanceMethod yJ0_isLatin1_aae02, .selects RJ0 yJ0_isLatin1_aae02 yJ0_isLatin1_aae02, .methodLink RJ0 492 yJ0_isLatin1_aae02, .methodLink RJ0 505 yJ0_length_8abf5, .code yJ1_indexOf_4cfef cJ1_indexOf_4cfef 4 (some .int), .code yJ1_canEncode_9a6ad cJ1_canEncode_9a6ad 1 (some .boolean), .initialized RJ1, .static yJ1_canEncode_9a6ad, .methodLink RJ1 88 yJ1_canEncode_9a6ad, .methodLink RJ1 92 Lib.Math.max.name, .static Lib.Math.max.name, .initialized "java/lang/Math", .code Lib.Math.max.name Lib.Math.max.code 2 (some .int), .methodLink RJ1 38 Lib.Math.min.name, .static Lib.Math.min.name, .code Lib.Math.min.name Lib.Math.min.code 2 (some .int), .code yJ1_indexOfChar_4cfef cJ1_indexOfChar_4cfef 6 (some .int), .static yJ1_indexOfChar_4cfef, .methodLink RJ1 95 yJ1_indexOfChar_4cfef, .static yJ1_indexOf_4cfef, .methodLink RJ0 637 yJ1_indexOf_4cfef, .instanceMethod yJ0_indexOf_7cf53, .selects RJ0 yJ0_indexOf_7cf53 yJ0_indexOf_7cf53, .methodLink RJ0 633 yJ0_indexOf_7cf53, .instanceMethod yJ0_indexOf_0f7a4, .selects RJ0 yJ0_indexOf_0f7a4 yJ0_indexOf_0f7a4, .methodLink RX6 119 yJ0_indexOf_0f7a4, .code yX10_wrongHere cX10_wrongHere 1 (some .boolean), .fieldLink RX10 22 "LeftArguments$Tape" "wrongAt" "I", .instanceMethod yX10_wrongHere, .selects RX10 yX10_wrongHere yX10_wrongHere, .methodLink RX6 93 yX10_wrongHere, .code yX10_step cX10_step 1 none, .instanceMethod yX10_step, .selects RX10 yX10_step yX10_step, .methodLink RX6 70 yX10_step, .instanceMethod yX6_readLetter, .selects RX6 yX6_readLetter yX6_readLetter, .methodLink RX6 104 yX6_readLetter, .code yX10_takeNumber cX10_takeNumber 3 (some .boolean), .methodLink RX10 37 yX10_next, .code yX10_isDigit cX10_isDigit 1 (some .boolean), .static yX10_isDigit, .methodLink RX10 45 yX10_isDigit, .fieldLink RX10 25 "LeftArguments$Tape" "number" "I", .code yX10_sign cX10_sign 1 (some .int), .instanceMethod yX10_sign, .selects RX10 yX10_sign yX10_sign, .methodLink RX10 49 yX10_sign, .methodLink RX10 41 yX10_wrongHere, .instanceMethod yX10_takeNumber, .selects RX10 yX10_takeNumber yX10_takeNumber, .methodLink RX6 108 yX10_takeNumber, .code yX10_numberWithin cX10_numberWithin 3 (some .boolean), .code yX11_within cX11_within 3 (some .boolean), .initialized RX11, .static yX11_within, .code yX10_wrong cX10_wrong 2 (some .boolean), .instanceMethod yX10_wrong, .selects RX10 yX10_wrong yX10_wrong, .methodLink RX10 56 yX10_wrong, .instanceMethod yX10_numberWithin, .selects RX10 yX10_numberWithin yX10_numberWithin, .methodLink RX6 112 yX10_numberWithin, .code yX10_number cX10_number 1 (some .int), .instanceMethod yX10_number, .selects RX10 yX10_number yX10_number, .methodLink RX6 116 yX10_number] : List Cond) ++ wsX60 ++ wsX100)
set_option maxRecDepth 20000 in
theorem g_X6_readItems_0 : GoodIn q_X6_readItems (wsV RX6 96 RJ0 yJ0_length_8abf5 q_J0_length_8abf5_1) := goodIn_app (goodIn_r _ [12, 10, 11, 6] rfl (by decide +kernel)) (goodIn_r (.code yJ0_length_8abf5 cJ0_length_8abf5 1 (some .int) :: [.fieldLink RJ0 9 "java/lang/String" "value" "[B", .code yJ0_coder_7d493 cJ0_coder_7d493 1 (some .byte), .fieldLink RJ0 38 "java/lang/String" "COMPACT_STRINGS" "Z", .fieldLink RJ0 15 "java/lang/String" "coder" "B", .initialized RJ0, .instanceMethod yJ0_coder_7d493, .selects RJ0 yJ0_coder_7d493 yJ0_coder_7d493, .methodLink RJ0 335 yJ0_coder_7d493]) [1, 2, 3, 4, 5, 6, 7, 8, 9] rfl (by decide +kernel))
set_option maxRecDepth 20000 in
theorem g_X6_readItems_1 : GoodIn q_X6_readItems (wsV RX6 101 RX6 yX6_atClauseEnd q_X6_atClauseEnd) := goodIn_app (goodIn_r _ [26, 24, 25, 23] rfl (by decide +kernel)) (goodIn_ca (goodIn_ca (goodIn_r (.code yX6_atClauseEnd cX6_atClauseEnd 2 (some .boolean) :: [.fieldLink RX6 26 "LeftArguments$OfficeReader" "tape" "LLeftArguments$Tape;", .code yX10_next cX10_next 1 (some .int), .fieldLink RX10 19 "LeftArguments$Tape" "at" "I", .fieldLink RX10 15 "LeftArguments$Tape" "used" "I", .fieldLink RX10 9 "LeftArguments$Tape" "bytes" "[I", .initialized RX10, .instanceMethod yX10_next, .selects RX10 yX10_next yX10_next, .methodLink RX6 61 yX10_next]) [13, 14, 15, 16, 17, 18, 19, 20, 21, 22] rfl (by decide +kernel)) (goodIn_sub (fun _ h => List.mem_cons_of_mem _ (List.mem_append_left _ (List.mem_append_right _ h))) gwX6)) (goodIn_sub (fun _ h => List.mem_cons_of_mem _ (List.mem_append_right _ h)) gwX10))
set_option maxRecDepth 20000 in
theorem g_X6_readItems_2 : GoodIn q_X6_readItems (wsV RX6 104 RX6 yX6_readLetter q_X6_readLetter) := goodIn_app (goodIn_r _ [69, 67, 68, 23] rfl (by decide +kernel)) (goodIn_ca (goodIn_ca (goodIn_r (.code yX6_readLetter cX6_readLetter 4 (some .int) :: [.fieldLink RX6 26 "LeftArguments$OfficeReader" "tape" "LLeftArguments$Tape;", .code yX10_next cX10_next 1 (some .int), .fieldLink RX10 19 "LeftArguments$Tape" "at" "I", .fieldLink RX10 15 "LeftArguments$Tape" "used" "I", .fieldLink RX10 9 "LeftArguments$Tape" "bytes" "[I", .initialized RX10, .instanceMethod yX10_next, .selects RX10 yX10_next yX10_next, .methodLink RX6 61 yX10_next, .code yJ0_indexOf_0f7a4 cJ0_indexOf_0f7a4 2 (some .int), .code yJ0_indexOf_7cf53 cJ0_indexOf_7cf53 3 (some .int), .code yJ0_isLatin1_aae02 cJ0_isLatin1_aae02 1 (some .boolean), .fieldLink RJ0 38 "java/lang/String" "COMPACT_STRINGS" "Z", .fieldLink RJ0 15 "java/lang/String" "coder" "B", .initialized RJ0, .instanceMethod yJ0_isLatin1_aae02, .selects RJ0 yJ0_isLatin1_aae02 yJ0_isLatin1_aae02, .methodLink RJ0 492 yJ0_isLatin1_aae02, .fieldLink RJ0 9 "java/lang/String" "value" "[B", .code yJ0_length_8abf5 cJ0_length_8abf5 1 (some .int), .code yJ0_coder_7d493 cJ0_coder_7d493 1 (some .byte), .instanceMethod yJ0_coder_7d493, .selects RJ0 yJ0_coder_7d493 yJ0_coder_7d493, .methodLink RJ0 335 yJ0_coder_7d493, .instanceMethod yJ0_length_8abf5, .selects RJ0 yJ0_length_8abf5 yJ0_length_8abf5, .methodLink RJ0 505 yJ0_length_8abf5, .code yJ1_indexOf_4cfef cJ1_indexOf_4cfef 4 (some .int), .code yJ1_canEncode_9a6ad cJ1_canEncode_9a6ad 1 (some .boolean), .initialized RJ1, .static yJ1_canEncode_9a6ad, .methodLink RJ1 88 yJ1_canEncode_9a6ad, .methodLink RJ1 92 Lib.Math.max.name, .static Lib.Math.max.name, .initialized "java/lang/Math", .code Lib.Math.max.name Lib.Math.max.code 2 (some .int), .methodLink RJ1 38 Lib.Math.min.name, .static Lib.Math.min.name, .code Lib.Math.min.name Lib.Math.min.code 2 (some .int), .code yJ1_indexOfChar_4cfef cJ1_indexOfChar_4cfef 6 (some .int), .static yJ1_indexOfChar_4cfef, .methodLink RJ1 95 yJ1_indexOfChar_4cfef, .static yJ1_indexOf_4cfef, .methodLink RJ0 637 yJ1_indexOf_4cfef, .instanceMethod yJ0_indexOf_7cf53, .selects RJ0 yJ0_indexOf_7cf53 yJ0_indexOf_7cf53, .methodLink RJ0 633 yJ0_indexOf_7cf53, .instanceMethod yJ0_indexOf_0f7a4, .selects RJ0 yJ0_indexOf_0f7a4 yJ0_indexOf_0f7a4, .methodLink RX6 119 yJ0_indexOf_0f7a4, .code yX10_wrongHere cX10_wrongHere 1 (some .boolean), .fieldLink RX10 22 "LeftArguments$Tape" "wrongAt" "I", .instanceMethod yX10_wrongHere, .selects RX10 yX10_wrongHere yX10_wrongHere, .methodLink RX6 93 yX10_wrongHere, .code yX10_step cX10_step 1 none, .instanceMethod yX10_step, .selects RX10 yX10_step yX10_step, .methodLink RX6 70 yX10_step]) [27, 14, 15, 16, 17, 18, 19, 20, 21, 22, 28, 29, 30, 4, 5, 6, 31, 32, 33, 2, 1, 3, 7, 8, 9, 10, 11, 34, 35, 36, 37, 38, 39, 40, 41, 42, 43, 44, 45, 46, 47, 48, 49, 50, 51, 52, 53, 54, 55, 56, 57, 58, 59, 60, 61, 62, 63, 64, 65, 66] rfl (by decide +kernel)) (goodIn_sub (fun _ h => List.mem_cons_of_mem _ (List.mem_append_left _ (List.mem_append_right _ h))) gwX6)) (goodIn_sub (fun _ h => List.mem_cons_of_mem _ (List.mem_append_right _ h)) gwX10))
set_option maxRecDepth 20000 in
theorem g_X6_readItems_3 : GoodIn q_X6_readItems (wsV RX6 108 RX10 yX10_takeNumber q_X10_takeNumber) := goodIn_app (goodIn_r _ [83, 81, 82, 19] rfl (by decide +kernel)) (goodIn_ca (goodIn_r (.code yX10_takeNumber cX10_takeNumber 3 (some .boolean) :: [.code yX10_next cX10_next 1 (some .int), .fieldLink RX10 19 "LeftArguments$Tape" "at" "I", .fieldLink RX10 15 "LeftArguments$Tape" "used" "I", .fieldLink RX10 9 "LeftArguments$Tape" "bytes" "[I", .initialized RX10, .instanceMethod yX10_next, .selects RX10 yX10_next yX10_next, .methodLink RX10 37 yX10_next, .code yX10_isDigit cX10_isDigit 1 (some .boolean), .static yX10_isDigit, .methodLink RX10 45 yX10_isDigit, .fieldLink RX10 25 "LeftArguments$Tape" "number" "I", .code yX10_sign cX10_sign 1 (some .int), .instanceMethod yX10_sign, .selects RX10 yX10_sign yX10_sign, .methodLink RX10 49 yX10_sign, .code yX10_wrongHere cX10_wrongHere 1 (some .boolean), .fieldLink RX10 22 "LeftArguments$Tape" "wrongAt" "I", .instanceMethod yX10_wrongHere, .selects RX10 yX10_wrongHere yX10_wrongHere, .methodLink RX10 41 yX10_wrongHere]) [70, 15, 16, 17, 18, 19, 20, 21, 71, 72, 73, 74, 75, 76, 77, 78, 79, 58, 59, 60, 61, 80] rfl (by decide +kernel)) (goodIn_sub (fun _ h => List.mem_cons_of_mem _ (List.mem_append_right _ h)) gwX10))
set_option maxRecDepth 20000 in
theorem g_X6_readItems_4 : GoodIn q_X6_readItems (wsV RX6 112 RX10 yX10_numberWithin q_X10_numberWithin) := goodIn_app (goodIn_r _ [94, 92, 93, 19] rfl (by decide +kernel)) (goodIn_ca (goodIn_r (.code yX10_numberWithin cX10_numberWithin 3 (some .boolean) :: [.fieldLink RX10 25 "LeftArguments$Tape" "number" "I", .code yX11_within cX11_within 3 (some .boolean), .initialized RX11, .static yX11_within, .fieldLink RX10 19 "LeftArguments$Tape" "at" "I", .code yX10_wrong cX10_wrong 2 (some .boolean), .fieldLink RX10 22 "LeftArguments$Tape" "wrongAt" "I", .initialized RX10, .instanceMethod yX10_wrong, .selects RX10 yX10_wrong yX10_wrong, .methodLink RX10 56 yX10_wrong]) [84, 75, 85, 86, 87, 16, 88, 59, 19, 89, 90, 91] rfl (by decide +kernel)) (goodIn_sub (fun _ h => List.mem_cons_of_mem _ (List.mem_append_right _ h)) gwX10))
set_option maxRecDepth 20000 in
theorem g_X6_readItems_5 : GoodIn q_X6_readItems (wsV RX6 116 RX10 yX10_number q_X10_number) := goodIn_app (goodIn_r _ [98, 96, 97, 19] rfl (by decide +kernel)) (goodIn_ca (goodIn_r (.code yX10_number cX10_number 1 (some .int) :: [.fieldLink RX10 25 "LeftArguments$Tape" "number" "I"]) [95, 75] rfl (by decide +kernel)) (goodIn_sub (fun _ h => List.mem_cons_of_mem _ (List.mem_append_right _ h)) gwX10))
set_option maxHeartbeats 4000000 in
set_option maxRecDepth 100000 in
theorem k_X6_readItems (l : Launch) (dC : Nat → ClassId) (dI : Nat → Nat → Nat) (tBAG_LEAST : Nat) (tBAG_MOST : Nat) (adK : Nat → Nat) (adV : Nat → Nat) (h0 : Nat) (h1 : Nat) (h2 : Nat) (h3 : Nat) (r0 : Nat) (v0 : Int32) (v1 : Int32) (v2 : Int32) (v3 : Int32) (v4 : Int32) (v5 : Int32) (g0 : ClassId) (f6 : Nat → Int32) (g1 : ClassId) (f7 : Nat → Int32) (v8 : Int32) (i_v0 : 0 ≤ v0.toInt ∧ v0.toInt ≤ 1) (i_v1 : 0 ≤ v1.toInt ∧ v1.toInt ≤ 8) (i_v2 : 0 ≤ v2.toInt ∧ v2.toInt ≤ 240) (i_v8 : 0 ≤ v8.toInt ∧ v8.toInt ≤ 40) (sz : Nat) : Met l yX6_readItems q_X6_readItems ({ frames := 5, cells := 0, slots := 0, locals := 114 }) (va_Pc [.ref h0, .ref (adK 1), .ref tBAG_LEAST, .ref tBAG_MOST, .ref h3, .int v8] (fun U => U.heap.size = sz ∧ va_P (dC, dI) vwCl (wd_16a8d446 h0 h1 r0 h3 v0 v1 h1 h2 v2 v3 v4 v5 h2 g0 f6 h3 g1 f7) U.heap ∧ va_K (dC, dI) vwCl [(g0, .int), (g1, .int)] U ∧ va_D (fun _ => True) (wd_16a8d446 h0 h1 r0 h3 v0 v1 h1 h2 v2 v3 v4 v5 h2 g0 f6 h3 g1 f7) ∧ vk_S 3 pv_len3 pv_byt3 adK adV (va_A (wd_16a8d446 h0 h1 r0 h3 v0 v1 h1 h2 v2 v3 v4 v5 h2 g0 f6 h3 g1 f7) sz) U U.heap ∧ va_Z "java/lang/String" "COMPACT_STRINGS" "Z" (.int 1) (va_A (wd_16a8d446 h0 h1 r0 h3 v0 v1 h1 h2 v2 v3 v4 v5 h2 g0 f6 h3 g1 f7) sz) U U.heap ∧ pv_Xs tBAG_LEAST 5 (va_A (wd_16a8d446 h0 h1 r0 h3 v0 v1 h1 h2 v2 v3 v4 v5 h2 g0 f6 h3 g1 f7) sz) U U.heap ∧ pv_Xs tBAG_MOST 5 (va_A (wd_16a8d446 h0 h1 r0 h3 v0 v1 h1 h2 v2 v3 v4 v5 h2 g0 f6 h3 g1 f7) sz) U U.heap ∧ va_Nw (.methodLinkNest RX10 52 yX11_within RX11) U)) (va_Qi (fun (r : Int32) (_ : Unit) => 0 ≤ r.toInt ∧ r.toInt ≤ 1) (fun (_ : Unit) (t : State) => ∃ (o_h1_2 : Int32) (o_h1_3 : Int32) (o_h1_4 : Int32) (o_h3 : Nat → Int32), va_P (dC, dI) vwCl (wd_16a8d446 h0 h1 r0 h3 v0 v1 h1 h2 v2 o_h1_2 o_h1_3 o_h1_4 h2 g0 f6 h3 g1 o_h3) t.heap ∧ va_K (dC, dI) vwCl [] t ∧ va_D (va_A (wd_16a8d446 h0 h1 r0 h3 v0 v1 h1 h2 v2 v3 v4 v5 h2 g0 f6 h3 g1 f7) sz) (wd_16a8d446 h0 h1 r0 h3 v0 v1 h1 h2 v2 o_h1_2 o_h1_3 o_h1_4 h2 g0 f6 h3 g1 o_h3)) (va_A (wd_16a8d446 h0 h1 r0 h3 v0 v1 h1 h2 v2 v3 v4 v5 h2 g0 f6 h3 g1 f7) sz)) 0 0 (va_A (wd_16a8d446 h0 h1 r0 h3 v0 v1 h1 h2 v2 v3 v4 v5 h2 g0 f6 h3 g1 f7) sz) := by
  refine Met.ofW (cc := cX6_readItems) (maxL := 9) (ret := (some .boolean)) (by decide) rfl ?_
  intro p e s m args below meth c s₁ B hml hv
  obtain ⟨i_v0a, i_v0b⟩ := i_v0
  obtain ⟨i_v1a, i_v1b⟩ := i_v1
  obtain ⟨i_v2a, i_v2b⟩ := i_v2
  obtain ⟨i_v8a, i_v8b⟩ := i_v8
  obtain ⟨rfl, hsz, hP, hK, hD0, h_st_S, h_st_CS, h_st_x_BAG_LEAST, h_st_x_BAG_MOST, h_nm_X10_52⟩ := hv
  have hx := B.exec
  have hb := B.bytes
  have hr := B.returns
  have hts := atoms_spec (ws := q_X6_readItems) B.pre
  have hown : s.vm.findClass RX6 = some m.cls := findClass_of_methodNamed B.named
  have hlocks := B.notSynchronized
  subst hsz
  have hD := hD0.self (sz := s.heap.size)
  generalize hAe : va_A (wd_16a8d446 h0 h1 r0 h3 v0 v1 h1 h2 v2 v3 v4 v5 h2 g0 f6 h3 g1 f7) s.heap.size = A at hD h_st_S h_st_CS h_st_x_BAG_LEAST h_st_x_BAG_MOST ⊢
  have hA : ∀ q : Nat, s.heap.size ≤ q → A q := fun q h => by rw [← hAe]; exact Or.inr h
  have hS : va_S A s.heap s.heap [] := va_S.rf
  generalize hQ : (MQ below _ _ s 0 0 A) = Q
  have hl := lv_entry ([.ref h0, .ref (adK 1), .ref tBAG_LEAST, .ref tBAG_MOST, .ref h3, .int v8]) (n := 9) (Nat.le_of_ble_eq_true rfl)
  rw [lg_entry_eq]
  generalize (lg_sl ([.ref h0, .ref (adK 1), .ref tBAG_LEAST, .ref tBAG_MOST, .ref h3, .int v8]) ++ List.replicate (9 - (lg_sl ([.ref h0, .ref (adK 1), .ref tBAG_LEAST, .ref tBAG_MOST, .ref h3, .int v8])).length) Slot.unset).toArray = ls at hl ⊢
  have hl : lv_has ls 9 [(0, .ref h0), (1, .ref (adK 1)), (2, .ref tBAG_LEAST), (3, .ref tBAG_MOST), (4, .ref h3), (5, .int v8)] := hl
  obtain ⟨H, hH⟩ : ∃ H : Heap, H = s.heap := ⟨_, rfl⟩
  obtain ⟨locs, hlocs⟩ : ∃ y : List Loc, y = [] := ⟨_, rfl⟩
  have hS : va_S A s.heap H locs := by rw [hH, hlocs]; exact va_S.rf
  have hP : va_P (dC, dI) vwCl (wd_16a8d446 h0 h1 r0 h3 v0 v1 h1 h2 v2 v3 v4 v5 h2 g0 f6 h3 g1 f7) H := by rw [hH]; exact hP
  rw [← hH, ← hlocs]
  refine lv_iconst (v := 0) hx hb dX6_readItems_0 (by decide) ?_
  refine lv_istore (lv' := [(6, .int 0), (0, .ref h0), (1, .ref (adK 1)), (2, .ref tBAG_LEAST), (3, .ref tBAG_MOST), (4, .ref h3), (5, .int v8)]) hx hb dX6_readItems_1 hl (by decide) rfl (fun ls hl => ?_)
  refine lv_iconst (v := 0) hx hb dX6_readItems_3 (by decide) ?_
  refine lv_istore (lv' := [(7, .int 0), (6, .int 0), (0, .ref h0), (1, .ref (adK 1)), (2, .ref tBAG_LEAST), (3, .ref tBAG_MOST), (4, .ref h3), (5, .int v8)]) hx hb dX6_readItems_4 hl (by decide) rfl (fun ls hl => ?_)
  have hL31 : ∀ (n9 : Nat), ∀ (x19 : Int32) (x20 : Int32) (x21 : Int32) (x22 : Int32) (x23 : Int32) (fn24 : Nat → Int32) (H : Heap) (locs : List Loc) (ls : Array Slot), 0 ≤ x19.toInt → x19.toInt ≤ 6 → (6 - x19.toInt).toNat < n9 → va_P (dC, dI) vwCl (wd_16a8d446 h0 h1 r0 h3 v0 v1 h1 h2 v2 x21 x22 x23 h2 g0 f6 h3 g1 fn24) H → va_D A (wd_16a8d446 h0 h1 r0 h3 v0 v1 h1 h2 v2 x21 x22 x23 h2 g0 f6 h3 g1 fn24) → va_S A s.heap H locs → lv_has ls 9 [(7, .int x19), (6, .int x20), (0, .ref h0), (1, .ref (adK 1)), (2, .ref tBAG_LEAST), (3, .ref tBAG_MOST), (4, .ref h3), (5, .int v8)] → W p l e ({ frames := 5, cells := 0, slots := 0, locals := 114 }) s m ([.ref h0, .ref (adK 1), .ref tBAG_LEAST, .ref tBAG_MOST, .ref h3, .int v8] : List Value).toArray below meth c H locs 0 0 Q (F0 m 6 ls []) := by
    intro n9
    induction n9 with
    | zero => intro x19 x20 x21 x22 x23 fn24 H locs ls qa_x19 qb_x19 hm9 hP hD hS hl; exact absurd hm9 (Nat.not_lt_zero _)
    | succ n9 ih_hL31 =>
      intro x19 x20 x21 x22 x23 fn24 H locs ls qa_x19 qb_x19 hm9 hP hD hS hl
      refine lv_iload hx hb dX6_readItems_6 (lv_at hl 0 rfl) ?_
      refine lv_aload_n hx hb dX6_readItems_8 rfl (lv_at hl 3 rfl) ?_
      have hPc := hP.sub (ws' := []) [] rfl
      have hDc := hD.sub (ws' := []) [] (by decide) rfl
      have hKc := hK.sub (tys' := []) [] rfl
      have hFc := va_free (wc := []) hD hS hA [] rfl
      refine va_calli (va_runV (As := []) (rest := [.int x19]) ⟨hx, hb, hml, hown, hts⟩ (k_J0_length_8abf5_1 l dC dI adK adV  H.size) (cwV 0 hts g_X6_readItems_0 rfl rfl rfl (by decide +kernel) ⟨Nat.le_of_ble_eq_true rfl, Nat.le_of_ble_eq_true rfl⟩) ⟨fun a U g mk q => by obtain ⟨q0, q1, qP, qK, qD, n0, n1⟩ := q; exact ⟨q0, q1, qP, va_K.moved (u := U) (U := U.calling g mk a) (Vm.Alike.refl U.vm) qK, qD, vk_S.moved (Vm.Alike.refl _) n0, va_Z.moved (Vm.Alike.refl _) n1⟩, vk_recv h_st_S (by decide : 1 < 3) hS, fun U hU hW => ⟨rfl, by rw [hU], by rw [hU]; exact hPc, va_K.moved hW.alike hKc, hDc.weaken (fun _ _ _ _ => trivial), (by rw [hU]; exact (vk_S.moved hW.alike (vk_S.kept h_st_S hS.2.1)).narrow hFc), (by rw [hU]; exact (va_Z.moved hW.alike (va_Z.kept h_st_CS hS.2.1)).narrow hFc)⟩⟩ rfl rfl hl.1 rfl (lv_room (Nat.le_of_ble_eq_true rfl)) dX6_readItems_9 ⟨Nat.le_of_ble_eq_true rfl, Nat.le_of_ble_eq_true rfl⟩) hS (fun q _ h => hFc q h) hFc (fun ra32 u t H1 locs ht hvm hwra32 hB hz1 hk1 hS => ?_)
      obtain ⟨hP1, hK1, hD1⟩ := hB
      rw [ht] at hP1
      obtain ⟨hP, hD⟩ := va_join (wr := (wd_16a8d446 h0 h1 r0 h3 v0 v1 h1 h2 v2 x21 x22 x23 h2 g0 f6 h3 g1 fn24)) (w1 := []) hP hD [] [0, 1, 2, 3] rfl rfl (by decide) (by decide) hk1 hFc hP1 hD1
      generalize H1 = H at hP hS ⊢
      have hP : va_P (dC, dI) vwCl (wd_16a8d446 h0 h1 r0 h3 v0 v1 h1 h2 v2 x21 x22 x23 h2 g0 f6 h3 g1 fn24) H := hP
      have hD : va_D A (wd_16a8d446 h0 h1 r0 h3 v0 v1 h1 h2 v2 x21 x22 x23 h2 g0 f6 h3 g1 fn24) := hD
      obtain ⟨wa_ra32, wb_ra32⟩ := hwra32
      have wa_ra32 : 5 ≤ ra32.toInt := wa_ra32
      have wb_ra32 : ra32.toInt ≤ 5 := wb_ra32
      obtain rfl : ra32 = (5 : Int32) := Int32.toInt_inj.mp (by rw [show ((5 : Int32)).toInt = 5 by decide]; omega)
      refine lv_icmp_gt (tgt := 127) hx hb dX6_readItems_12 (by decide) (fun c33 => ?_) (fun c33 => ?_)
      · skip
        have fc33 : 5 < x19.toInt := Int32.lt_iff_toInt_lt.mp c33
        refine lv_iconst (v := 1) hx hb dX6_readItems_127 (by decide) ?_
        subst hQ
        have hP9 := hP.sub (ws' := (wd_16a8d446 h0 h1 r0 h3 v0 v1 h1 h2 v2 x21 x22 x23 h2 g0 f6 h3 g1 fn24)) [0, 1, 2, 3] rfl
        have hD9 := hD.sub (ws' := (wd_16a8d446 h0 h1 r0 h3 v0 v1 h1 h2 v2 x21 x22 x23 h2 g0 f6 h3 g1 fn24)) [0, 1, 2, 3] (by decide) rfl
        have hK9 := hK.sub (tys' := []) [] rfl
        exact W.zret (v := 1) hx hb hr rfl (fun t ht hW => ⟨⟨1, (), rfl, ⟨by first | omega | decide, by first | omega | decide⟩, x21, x22, x23, fn24, by rw [ht]; exact hP9, va_K.moved hW.alike hK9, hD9⟩, hS.F ht⟩) hS.2.2 dX6_readItems_128
      · skip
        have fc33 : ¬ (5 < x19.toInt) := fun h9 => c33 (Int32.lt_iff_toInt_lt.mpr h9)
        refine lv_aload_n hx hb dX6_readItems_15 rfl (lv_at hl 2 rfl) ?_
        have hPc := hP.sub (ws' := (wd_1b33869b h0 h1 r0 h3 v0 v1 h1 h2 v2 x21 x22 x23 h2 g0 f6)) [0, 1, 2] rfl
        have hDc := hD.sub (ws' := (wd_1b33869b h0 h1 r0 h3 v0 v1 h1 h2 v2 x21 x22 x23 h2 g0 f6)) [0, 1, 2] (by decide) rfl
        have hKc := hK.sub (tys' := [(g0, .int)]) [0] rfl
        have hFc := va_free (wc := (wd_1b33869b h0 h1 r0 h3 v0 v1 h1 h2 v2 x21 x22 x23 h2 g0 f6)) hD hS hA [0, 1, 2] rfl
        refine va_calli (va_runV (As := []) (rest := []) ⟨hx, hb, hml, hown, hts⟩ (k_X6_atClauseEnd l dC dI h0 h1 h2 r0 h3 v0 v1 v2 x21 x22 x23 g0 f6 ⟨by first | omega | decide, by first | omega | decide⟩ ⟨by first | omega | decide, by first | omega | decide⟩ ⟨by first | omega | decide, by first | omega | decide⟩ H.size) (cwV 0 hts g_X6_readItems_1 rfl rfl rfl (by decide +kernel) ⟨Nat.le_of_ble_eq_true rfl, Nat.le_of_ble_eq_true rfl⟩) ⟨fun a U g mk q => by obtain ⟨q0, q1, qP, qK, qD⟩ := q; exact ⟨q0, q1, qP, va_K.moved (u := U) (U := U.calling g mk a) (Vm.Alike.refl U.vm) qK, qD⟩, va_recv hKc hPc (ci := 6) (q0 := 0) rfl rfl, fun U hU hW => ⟨rfl, by rw [hU], by rw [hU]; exact hPc, va_K.moved hW.alike hKc, hDc.weaken (fun _ _ _ _ => trivial)⟩⟩ rfl rfl hl.1 rfl (lv_room (Nat.le_of_ble_eq_true rfl)) dX6_readItems_16 ⟨Nat.le_of_ble_eq_true rfl, Nat.le_of_ble_eq_true rfl⟩) hS (fun q _ h => hFc q h) hFc (fun ra34 u t H1 locs ht hvm hwra34 hB hz1 hk1 hS => ?_)
        obtain ⟨x35, hP1, hK1, hD1⟩ := hB
        rw [ht] at hP1
        obtain ⟨hP, hD⟩ := va_join (wr := (wd_aad598ec h3 g1 fn24)) (w1 := (wd_1b33869b h0 h1 r0 h3 v0 v1 h1 h2 v2 x35 x22 x23 h2 g0 f6)) hP hD [0, 1, 2] [3] rfl rfl (by decide) (by decide) hk1 hFc hP1 hD1
        generalize H1 = H at hP hS ⊢
        have hP := hP.sub (ws' := (wd_16a8d446 h0 h1 r0 h3 v0 v1 h1 h2 v2 x35 x22 x23 h2 g0 f6 h3 g1 fn24)) [1, 2, 3, 0] rfl
        have hD := hD.sub (ws' := (wd_16a8d446 h0 h1 r0 h3 v0 v1 h1 h2 v2 x35 x22 x23 h2 g0 f6 h3 g1 fn24)) [1, 2, 3, 0] (by decide) rfl
        have hP : va_P (dC, dI) vwCl (wd_16a8d446 h0 h1 r0 h3 v0 v1 h1 h2 v2 x35 x22 x23 h2 g0 f6 h3 g1 fn24) H := hP
        have hD : va_D A (wd_16a8d446 h0 h1 r0 h3 v0 v1 h1 h2 v2 x35 x22 x23 h2 g0 f6 h3 g1 fn24) := hD
        obtain ⟨wa_ra34, wb_ra34⟩ := hwra34
        have wa_ra34 : 0 ≤ ra34.toInt := wa_ra34
        have wb_ra34 : ra34.toInt ≤ 1 := wb_ra34
        refine lv_if_ne (tgt := 127) hx hb dX6_readItems_19 (by decide) (fun c36 => ?_) (fun c36 => ?_)
        · skip
          have fc36 : ¬ (ra34.toInt = 0) := fun h9 => c36 (Int32.toInt_inj.mp h9)
          refine lv_iconst (v := 1) hx hb dX6_readItems_127 (by decide) ?_
          subst hQ
          have hP9 := hP.sub (ws' := (wd_16a8d446 h0 h1 r0 h3 v0 v1 h1 h2 v2 x35 x22 x23 h2 g0 f6 h3 g1 fn24)) [0, 1, 2, 3] rfl
          have hD9 := hD.sub (ws' := (wd_16a8d446 h0 h1 r0 h3 v0 v1 h1 h2 v2 x35 x22 x23 h2 g0 f6 h3 g1 fn24)) [0, 1, 2, 3] (by decide) rfl
          have hK9 := hK.sub (tys' := []) [] rfl
          exact W.zret (v := 1) hx hb hr rfl (fun t ht hW => ⟨⟨1, (), rfl, ⟨by first | omega | decide, by first | omega | decide⟩, x35, x22, x23, fn24, by rw [ht]; exact hP9, va_K.moved hW.alike hK9, hD9⟩, hS.F ht⟩) hS.2.2 dX6_readItems_128
        · skip
          have fc36 : ra34.toInt = 0 := congrArg Int32.toInt c36
          refine lv_aload_n hx hb dX6_readItems_22 rfl (lv_at hl 2 rfl) ?_
          refine lv_aload_n hx hb dX6_readItems_23 rfl (lv_at hl 3 rfl) ?_
          refine lv_iload hx hb dX6_readItems_24 (lv_at hl 1 rfl) ?_
          have hPc := hP.sub (ws' := (wd_1b33869b h0 h1 r0 h3 v0 v1 h1 h2 v2 x35 x22 x23 h2 g0 f6)) [0, 1, 2] rfl
          have hDc := hD.sub (ws' := (wd_1b33869b h0 h1 r0 h3 v0 v1 h1 h2 v2 x35 x22 x23 h2 g0 f6)) [0, 1, 2] (by decide) rfl
          have hKc := hK.sub (tys' := [(g0, .int)]) [0] rfl
          have hFc := va_free (wc := (wd_1b33869b h0 h1 r0 h3 v0 v1 h1 h2 v2 x35 x22 x23 h2 g0 f6)) hD hS hA [0, 1, 2] rfl
          refine va_calli (va_runV (As := [.ref (adK 1), .int x20]) (rest := []) ⟨hx, hb, hml, hown, hts⟩ (k_X6_readLetter l dC dI adK adV h0 h1 h2 r0 h3 v0 v1 v2 x35 x22 x23 g0 f6 x20 ⟨by first | omega | decide, by first | omega | decide⟩ ⟨by first | omega | decide, by first | omega | decide⟩ ⟨by first | omega | decide, by first | omega | decide⟩ H.size) (cwV 2 hts g_X6_readItems_2 rfl rfl rfl (by decide +kernel) ⟨Nat.le_of_ble_eq_true rfl, Nat.le_of_ble_eq_true rfl⟩) ⟨fun a U g mk q => by obtain ⟨q0, q1, qP, qK, qD, n0, n1⟩ := q; exact ⟨q0, q1, qP, va_K.moved (u := U) (U := U.calling g mk a) (Vm.Alike.refl U.vm) qK, qD, va_Z.moved (Vm.Alike.refl _) n0, vk_S.moved (Vm.Alike.refl _) n1⟩, va_recv hKc hPc (ci := 6) (q0 := 0) rfl rfl, fun U hU hW => ⟨rfl, by rw [hU], by rw [hU]; exact hPc, va_K.moved hW.alike hKc, hDc.weaken (fun _ _ _ _ => trivial), (by rw [hU]; exact (va_Z.moved hW.alike (va_Z.kept h_st_CS hS.2.1)).narrow hFc), (by rw [hU]; exact (vk_S.moved hW.alike (vk_S.kept h_st_S hS.2.1)).narrow hFc)⟩⟩ rfl rfl hl.1 rfl (lv_room (Nat.le_of_ble_eq_true rfl)) dX6_readItems_26 ⟨Nat.le_of_ble_eq_true rfl, Nat.le_of_ble_eq_true rfl⟩) hS (fun q _ h => hFc q h) hFc (fun ra37 u t H1 locs ht hvm hwra37 hB hz1 hk1 hS => ?_)
          obtain ⟨x38, x39, hP1, hK1, hD1⟩ := hB
          rw [ht] at hP1
          obtain ⟨hP, hD⟩ := va_join (wr := (wd_aad598ec h3 g1 fn24)) (w1 := (wd_1b33869b h0 h1 r0 h3 v0 v1 h1 h2 v2 x38 x39 x23 h2 g0 f6)) hP hD [0, 1, 2] [3] rfl rfl (by decide) (by decide) hk1 hFc hP1 hD1
          generalize H1 = H at hP hS ⊢
          have hP := hP.sub (ws' := (wd_16a8d446 h0 h1 r0 h3 v0 v1 h1 h2 v2 x38 x39 x23 h2 g0 f6 h3 g1 fn24)) [1, 2, 3, 0] rfl
          have hD := hD.sub (ws' := (wd_16a8d446 h0 h1 r0 h3 v0 v1 h1 h2 v2 x38 x39 x23 h2 g0 f6 h3 g1 fn24)) [1, 2, 3, 0] (by decide) rfl
          have hP : va_P (dC, dI) vwCl (wd_16a8d446 h0 h1 r0 h3 v0 v1 h1 h2 v2 x38 x39 x23 h2 g0 f6 h3 g1 fn24) H := hP
          have hD : va_D A (wd_16a8d446 h0 h1 r0 h3 v0 v1 h1 h2 v2 x38 x39 x23 h2 g0 f6 h3 g1 fn24) := hD
          obtain ⟨wa_ra37, wb_ra37⟩ := hwra37
          have wa_ra37 : -1 ≤ ra37.toInt := wa_ra37
          have wb_ra37 : ra37.toInt ≤ 4 := wb_ra37
          refine lv_istore (lv' := [(8, .int ra37), (7, .int x19), (6, .int x20), (0, .ref h0), (1, .ref (adK 1)), (2, .ref tBAG_LEAST), (3, .ref tBAG_MOST), (4, .ref h3), (5, .int v8)]) hx hb dX6_readItems_29 hl (by decide) rfl (fun ls hl => ?_)
          refine lv_iload hx hb dX6_readItems_31 (lv_at hl 0 rfl) ?_
          refine lv_if_lt (tgt := 79) hx hb dX6_readItems_33 (by decide) (fun c40 => ?_) (fun c40 => ?_)
          · skip
            have fc40 : ra37.toInt < 0 := Int32.lt_iff_toInt_lt.mp c40
            refine lv_iconst (v := 0) hx hb dX6_readItems_79 (by decide) ?_
            subst hQ
            have hP9 := hP.sub (ws' := (wd_16a8d446 h0 h1 r0 h3 v0 v1 h1 h2 v2 x38 x39 x23 h2 g0 f6 h3 g1 fn24)) [0, 1, 2, 3] rfl
            have hD9 := hD.sub (ws' := (wd_16a8d446 h0 h1 r0 h3 v0 v1 h1 h2 v2 x38 x39 x23 h2 g0 f6 h3 g1 fn24)) [0, 1, 2, 3] (by decide) rfl
            have hK9 := hK.sub (tys' := []) [] rfl
            exact W.zret (v := 0) hx hb hr rfl (fun t ht hW => ⟨⟨0, (), rfl, ⟨by first | omega | decide, by first | omega | decide⟩, x38, x39, x23, fn24, by rw [ht]; exact hP9, va_K.moved hW.alike hK9, hD9⟩, hS.F ht⟩) hS.2.2 dX6_readItems_80
          · skip
            have fc40 : ¬ (ra37.toInt < 0) := fun h9 => c40 (Int32.lt_iff_toInt_lt.mpr h9)
            refine lv_iload hx hb dX6_readItems_36 (lv_at hl 0 rfl) ?_
            refine lv_aload_n hx hb dX6_readItems_38 rfl (lv_at hl 5 rfl) ?_
            obtain ⟨fz41, hcz41, hnz41⟩ := id (h_st_x_BAG_LEAST)
            refine va_slen hx hb hcz41 (Array.getElem?_eq_some_iff.mp hcz41.choose_spec.1).1 hnz41 hS dX6_readItems_39 ?_
            refine W.eq (g2 := F0 m 40 ls [.int 5, .int ra37]) rfl ?_
            refine lv_icmp_ge (tgt := 79) hx hb dX6_readItems_40 (by decide) (fun c42 => by exfalso; have fc42 : 5 ≤ ra37.toInt := Int32.le_iff_toInt_le.mp c42; omega) (fun _ => ?_)
            refine lv_iload hx hb dX6_readItems_43 (lv_at hl 0 rfl) ?_
            refine lv_aload_n hx hb dX6_readItems_45 rfl (lv_at hl 6 rfl) ?_
            obtain ⟨fz43, hcz43, hnz43⟩ := id (h_st_x_BAG_MOST)
            refine va_slen hx hb hcz43 (Array.getElem?_eq_some_iff.mp hcz43.choose_spec.1).1 hnz43 hS dX6_readItems_46 ?_
            refine W.eq (g2 := F0 m 47 ls [.int 5, .int ra37]) rfl ?_
            refine lv_icmp_ge (tgt := 79) hx hb dX6_readItems_47 (by decide) (fun c44 => by exfalso; have fc44 : 5 ≤ ra37.toInt := Int32.le_iff_toInt_le.mp c44; omega) (fun _ => ?_)
            refine lv_aload_n hx hb dX6_readItems_50 rfl (lv_at hl 3 rfl) ?_
            refine va_get (D := (dC, dI)) (ci := 6) (v := .ref h1) (C := RX6) (T := TX6) (N := 5) hx hb hts (fun _ h => List.mem_cons_of_mem _ (List.mem_append_left _ (List.mem_append_right _ h))) hown hK hP 0 rfl rfl 0 (by decide) (hts (.fieldLink RX6 26 "LeftArguments$OfficeReader" "tape" "LLeftArguments$Tape;") (List.mem_cons_of_mem _ (List.mem_append_left _ (List.mem_append_left _ (List.mem_of_getElem? (i := 13) rfl))))) (fun _ h9 => h9) rfl dX6_readItems_51 ?_
            refine lv_iconst (v := 2) hx hb dX6_readItems_54 (by decide) ?_
            have hPc := hP.sub (ws' := (wd_82cdd16b h1 h2 v2 x38 x39 x23 h2 g0 f6)) [1, 2] rfl
            have hDc := hD.sub (ws' := (wd_82cdd16b h1 h2 v2 x38 x39 x23 h2 g0 f6)) [1, 2] (by decide) rfl
            have hKc := hK.sub (tys' := [(g0, .int)]) [0] rfl
            have hFc := va_free (wc := (wd_82cdd16b h1 h2 v2 x38 x39 x23 h2 g0 f6)) hD hS hA [1, 2] rfl
            refine va_calli (va_runV (As := [.int 2]) (rest := []) ⟨hx, hb, hml, hown, hts⟩ (k_X10_takeNumber l dC dI h1 h2 v2 x38 x39 x23 g0 f6 2 ⟨by first | omega | decide, by first | omega | decide⟩ H.size) (cwV 1 hts g_X6_readItems_3 rfl rfl rfl (by decide +kernel) ⟨Nat.le_of_ble_eq_true rfl, Nat.le_of_ble_eq_true rfl⟩) ⟨fun a U g mk q => by obtain ⟨q0, q1, qP, qK, qD⟩ := q; exact ⟨q0, q1, qP, va_K.moved (u := U) (U := U.calling g mk a) (Vm.Alike.refl U.vm) qK, qD⟩, va_recv hKc hPc (ci := 10) (q0 := 0) rfl rfl, fun U hU hW => ⟨rfl, by rw [hU], by rw [hU]; exact hPc, va_K.moved hW.alike hKc, hDc.weaken (fun _ _ _ _ => trivial)⟩⟩ rfl rfl hl.1 rfl (lv_room (Nat.le_of_ble_eq_true rfl)) dX6_readItems_55 ⟨Nat.le_of_ble_eq_true rfl, Nat.le_of_ble_eq_true rfl⟩) hS (fun q _ h => hFc q h) hFc (fun ra45 u t H1 locs ht hvm hwra45 hB hz1 hk1 hS => ?_)
            obtain ⟨x46, x47, x48, hP1, hK1, hD1⟩ := hB
            rw [ht] at hP1
            obtain ⟨hP, hD⟩ := va_join (wr := (wd_0e707b52 h0 h1 r0 h3 v0 v1 h3 g1 fn24)) (w1 := (wd_82cdd16b h1 h2 v2 x46 x47 x48 h2 g0 f6)) hP hD [1, 2] [0, 3] rfl rfl (by decide) (by decide) hk1 hFc hP1 hD1
            generalize H1 = H at hP hS ⊢
            have hP := hP.sub (ws' := (wd_16a8d446 h0 h1 r0 h3 v0 v1 h1 h2 v2 x46 x47 x48 h2 g0 f6 h3 g1 fn24)) [0, 2, 3, 1] rfl
            have hD := hD.sub (ws' := (wd_16a8d446 h0 h1 r0 h3 v0 v1 h1 h2 v2 x46 x47 x48 h2 g0 f6 h3 g1 fn24)) [0, 2, 3, 1] (by decide) rfl
            have hP : va_P (dC, dI) vwCl (wd_16a8d446 h0 h1 r0 h3 v0 v1 h1 h2 v2 x46 x47 x48 h2 g0 f6 h3 g1 fn24) H := hP
            have hD : va_D A (wd_16a8d446 h0 h1 r0 h3 v0 v1 h1 h2 v2 x46 x47 x48 h2 g0 f6 h3 g1 fn24) := hD
            obtain ⟨wa_ra45, wb_ra45⟩ := hwra45
            have wa_ra45 : 0 ≤ ra45.toInt := wa_ra45
            have wb_ra45 : ra45.toInt ≤ 1 := wb_ra45
            refine lv_if_eq (tgt := 79) hx hb dX6_readItems_58 (by decide) (fun c49 => ?_) (fun c49 => ?_)
            · skip
              have fc49 : ra45.toInt = 0 := congrArg Int32.toInt c49
              refine lv_iconst (v := 0) hx hb dX6_readItems_79 (by decide) ?_
              subst hQ
              have hP9 := hP.sub (ws' := (wd_16a8d446 h0 h1 r0 h3 v0 v1 h1 h2 v2 x46 x47 x48 h2 g0 f6 h3 g1 fn24)) [0, 1, 2, 3] rfl
              have hD9 := hD.sub (ws' := (wd_16a8d446 h0 h1 r0 h3 v0 v1 h1 h2 v2 x46 x47 x48 h2 g0 f6 h3 g1 fn24)) [0, 1, 2, 3] (by decide) rfl
              have hK9 := hK.sub (tys' := []) [] rfl
              exact W.zret (v := 0) hx hb hr rfl (fun t ht hW => ⟨⟨0, (), rfl, ⟨by first | omega | decide, by first | omega | decide⟩, x46, x47, x48, fn24, by rw [ht]; exact hP9, va_K.moved hW.alike hK9, hD9⟩, hS.F ht⟩) hS.2.2 dX6_readItems_80
            · skip
              have fc49 : ¬ (ra45.toInt = 0) := fun h9 => c49 (Int32.toInt_inj.mp h9)
              refine lv_aload_n hx hb dX6_readItems_61 rfl (lv_at hl 3 rfl) ?_
              refine va_get (D := (dC, dI)) (ci := 6) (v := .ref h1) (C := RX6) (T := TX6) (N := 5) hx hb hts (fun _ h => List.mem_cons_of_mem _ (List.mem_append_left _ (List.mem_append_right _ h))) hown hK hP 0 rfl rfl 0 (by decide) (hts (.fieldLink RX6 26 "LeftArguments$OfficeReader" "tape" "LLeftArguments$Tape;") (List.mem_cons_of_mem _ (List.mem_append_left _ (List.mem_append_left _ (List.mem_of_getElem? (i := 13) rfl))))) (fun _ h9 => h9) rfl dX6_readItems_62 ?_
              refine lv_aload_n hx hb dX6_readItems_65 rfl (lv_at hl 5 rfl) ?_
              refine lv_iload hx hb dX6_readItems_66 (lv_at hl 0 rfl) ?_
              obtain ⟨fz50, hcz50, hnz50⟩ := id (h_st_x_BAG_LEAST)
              refine va_sld hx hb hcz50 (Array.getElem?_eq_some_iff.mp hcz50.choose_spec.1).1 hnz50 hS (vp_in_iff.mpr ⟨by omega, by omega⟩) dX6_readItems_68 ?_
              refine lv_topi (fun t51 et51 => ?_)
              refine lv_aload_n hx hb dX6_readItems_69 rfl (lv_at hl 6 rfl) ?_
              refine lv_iload hx hb dX6_readItems_70 (lv_at hl 0 rfl) ?_
              obtain ⟨fz52, hcz52, hnz52⟩ := id (h_st_x_BAG_MOST)
              refine va_sld hx hb hcz52 (Array.getElem?_eq_some_iff.mp hcz52.choose_spec.1).1 hnz52 hS (vp_in_iff.mpr ⟨by omega, by omega⟩) dX6_readItems_72 ?_
              refine lv_topi (fun t53 et53 => ?_)
              have hPc := hP.sub (ws' := (wd_09b0abee h1 h2 v2 x46 x47 x48)) [1] rfl
              have hDc := hD.sub (ws' := (wd_09b0abee h1 h2 v2 x46 x47 x48)) [1] (by decide) rfl
              have hKc := hK.sub (tys' := []) [] rfl
              have hFc := va_free (wc := (wd_09b0abee h1 h2 v2 x46 x47 x48)) hD hS hA [1] rfl
              refine va_calli (va_runV (As := [.int t51, .int t53]) (rest := []) ⟨hx, hb, hml, hown, hts⟩ (k_X10_numberWithin l dC dI h1 h2 v2 x46 x47 x48 t51 t53 ⟨by first | omega | decide, by first | omega | decide⟩ H.size) (cwV 2 hts g_X6_readItems_4 rfl rfl rfl (by decide +kernel) ⟨Nat.le_of_ble_eq_true rfl, Nat.le_of_ble_eq_true rfl⟩) ⟨fun a U g mk q => by obtain ⟨q0, q1, qP, qK, qD, n0⟩ := q; exact ⟨q0, q1, qP, va_K.moved (u := U) (U := U.calling g mk a) (Vm.Alike.refl U.vm) qK, qD, va_Nw.same rfl rfl n0⟩, va_recv hKc hPc (ci := 10) (q0 := 0) rfl rfl, fun U hU hW => ⟨rfl, by rw [hU], by rw [hU]; exact hPc, va_K.moved hW.alike hKc, hDc.weaken (fun _ _ _ _ => trivial), va_Nw.warmM hW h_nm_X10_52⟩⟩ rfl rfl hl.1 rfl (lv_room (Nat.le_of_ble_eq_true rfl)) dX6_readItems_73 ⟨Nat.le_of_ble_eq_true rfl, Nat.le_of_ble_eq_true rfl⟩) hS (fun q _ h => hFc q h) hFc (fun ra54 u t H1 locs ht hvm hwra54 hB hz1 hk1 hS => ?_)
              obtain ⟨x55, hP1, hK1, hD1⟩ := hB
              rw [ht] at hP1
              obtain ⟨hP, hD⟩ := va_join (wr := (wd_a7d1db7f h0 h1 r0 h3 v0 v1 h2 g0 f6 h3 g1 fn24)) (w1 := (wd_09b0abee h1 h2 v2 x46 x55 x48)) hP hD [1] [0, 2, 3] rfl rfl (by decide) (by decide) hk1 hFc hP1 hD1
              generalize H1 = H at hP hS ⊢
              have hP := hP.sub (ws' := (wd_16a8d446 h0 h1 r0 h3 v0 v1 h1 h2 v2 x46 x55 x48 h2 g0 f6 h3 g1 fn24)) [0, 3, 1, 2] rfl
              have hD := hD.sub (ws' := (wd_16a8d446 h0 h1 r0 h3 v0 v1 h1 h2 v2 x46 x55 x48 h2 g0 f6 h3 g1 fn24)) [0, 3, 1, 2] (by decide) rfl
              have hP : va_P (dC, dI) vwCl (wd_16a8d446 h0 h1 r0 h3 v0 v1 h1 h2 v2 x46 x55 x48 h2 g0 f6 h3 g1 fn24) H := hP
              have hD : va_D A (wd_16a8d446 h0 h1 r0 h3 v0 v1 h1 h2 v2 x46 x55 x48 h2 g0 f6 h3 g1 fn24) := hD
              obtain ⟨wa_ra54, wb_ra54⟩ := hwra54
              have wa_ra54 : 0 ≤ ra54.toInt := wa_ra54
              have wb_ra54 : ra54.toInt ≤ 1 := wb_ra54
              refine lv_if_ne (tgt := 81) hx hb dX6_readItems_76 (by decide) (fun c56 => ?_) (fun c56 => ?_)
              · skip
                have fc56 : ¬ (ra54.toInt = 0) := fun h9 => c56 (Int32.toInt_inj.mp h9)
                refine lv_iload hx hb dX6_readItems_81 (lv_at hl 8 rfl) ?_
                refine lv_if_lt (tgt := 112) hx hb dX6_readItems_83 (by decide) (fun c57 => by exfalso; have fc57 : v8.toInt < 0 := Int32.lt_iff_toInt_lt.mp c57; omega) (fun _ => ?_)
                refine lv_iload hx hb dX6_readItems_86 (lv_at hl 8 rfl) ?_
                refine lv_iload hx hb dX6_readItems_88 (lv_at hl 0 rfl) ?_
                refine lv_iadd hx hb dX6_readItems_90 ?_
                refine lv_topi (fun t58 et58 => ?_)
                have gt58 : t58.toInt = v8.toInt + ra37.toInt := pv_add (a := v8.toInt) (b := ra37.toInt) et58 rfl rfl (by omega) (by omega)
                refine lv_aload hx hb dX6_readItems_91 (lv_at hl 7 rfl) ?_
                refine va_alen (v := 40) hx hb hK hP 3 1 rfl rfl (by rfl) dX6_readItems_93 ?_
                have hJ60 : ∀ (fn59 : Nat → Int32) (H : Heap) (locs : List Loc) (ls : Array Slot), va_P (dC, dI) vwCl (wd_16a8d446 h0 h1 r0 h3 v0 v1 h1 h2 v2 x46 x55 x48 h2 g0 f6 h3 g1 fn59) H → va_D A (wd_16a8d446 h0 h1 r0 h3 v0 v1 h1 h2 v2 x46 x55 x48 h2 g0 f6 h3 g1 fn59) → va_S A s.heap H locs → lv_has ls 9 [(8, .int ra37), (7, .int x19), (6, .int x20), (0, .ref h0), (1, .ref (adK 1)), (2, .ref tBAG_LEAST), (3, .ref tBAG_MOST), (4, .ref h3), (5, .int v8)] → W p l e ({ frames := 5, cells := 0, slots := 0, locals := 114 }) s m ([.ref h0, .ref (adK 1), .ref tBAG_LEAST, .ref tBAG_MOST, .ref h3, .int v8] : List Value).toArray below meth c H locs 0 0 Q (F0 m 112 ls []) := by
                  intro fn59 H locs ls hP hD hS hl
                  refine lv_iload hx hb dX6_readItems_112 (lv_at hl 2 rfl) ?_
                  refine lv_iconst (v := 1) hx hb dX6_readItems_114 (by decide) ?_
                  refine lv_iload hx hb dX6_readItems_115 (lv_at hl 0 rfl) ?_
                  refine lv_ishl hx hb dX6_readItems_117 ?_
                  refine lv_topi (fun t61 et61 => ?_)
                  refine lv_ior hx hb dX6_readItems_118 ?_
                  refine lv_topi (fun t62 et62 => ?_)
                  refine lv_istore (lv' := [(6, .int t62), (8, .int ra37), (7, .int x19), (0, .ref h0), (1, .ref (adK 1)), (2, .ref tBAG_LEAST), (3, .ref tBAG_MOST), (4, .ref h3), (5, .int v8)]) hx hb dX6_readItems_119 hl (by decide) rfl (fun ls hl => ?_)
                  obtain ⟨t63, et63⟩ : ∃ y : Int32, y = x19 + 1 := ⟨_, rfl⟩
                  have gt63 : t63.toInt = x19.toInt + (1) := pv_add (a := x19.toInt) (b := (1)) et63 rfl (by decide) (by omega) (by omega)
                  refine lv_iinc (v := t63) (lv' := [(7, .int t63), (6, .int t62), (8, .int ra37), (0, .ref h0), (1, .ref (adK 1)), (2, .ref tBAG_LEAST), (3, .ref tBAG_MOST), (4, .ref h3), (5, .int v8)]) hx hb dX6_readItems_121 hl (k := 2) rfl (by rw [et63]; rfl) (by decide) rfl (fun ls hl => ?_)
                  refine lv_goto (tgt := 6) hx hb dX6_readItems_124 (by decide) ?_
                  exact ih_hL31 t63 t62 x46 x55 x48 fn59 H locs ls (by first | omega | decide) (by first | omega | decide) (by first | omega | (simp only [Int.toNat] at *; omega)) hP hD hS (lv_sub hl [0, 1, 3, 4, 5, 6, 7, 8] rfl)
                refine lv_icmp_ge (tgt := 112) hx hb dX6_readItems_94 (by decide) (fun c64 => ?_) (fun c64 => ?_)
                · skip
                  have fc64 : 40 ≤ t58.toInt := Int32.le_iff_toInt_le.mp c64
                  exact hJ60 fn24 H locs ls hP hD hS (lv_sub hl [0, 1, 2, 3, 4, 5, 6, 7, 8] rfl)
                · skip
                  have fc64 : ¬ (40 ≤ t58.toInt) := fun h9 => c64 (Int32.le_iff_toInt_le.mpr h9)
                  refine lv_aload hx hb dX6_readItems_97 (lv_at hl 7 rfl) ?_
                  refine lv_iload hx hb dX6_readItems_99 (lv_at hl 8 rfl) ?_
                  refine lv_iload hx hb dX6_readItems_101 (lv_at hl 0 rfl) ?_
                  refine lv_iadd hx hb dX6_readItems_103 ?_
                  refine lv_topi (fun t65 et65 => ?_)
                  have gt65 : t65.toInt = v8.toInt + ra37.toInt := pv_add (a := v8.toInt) (b := ra37.toInt) et65 rfl rfl (by omega) (by omega)
                  refine lv_aload_n hx hb dX6_readItems_104 rfl (lv_at hl 3 rfl) ?_
                  refine va_get (D := (dC, dI)) (ci := 6) (v := .ref h1) (C := RX6) (T := TX6) (N := 5) hx hb hts (fun _ h => List.mem_cons_of_mem _ (List.mem_append_left _ (List.mem_append_right _ h))) hown hK hP 0 rfl rfl 0 (by decide) (hts (.fieldLink RX6 26 "LeftArguments$OfficeReader" "tape" "LLeftArguments$Tape;") (List.mem_cons_of_mem _ (List.mem_append_left _ (List.mem_append_left _ (List.mem_of_getElem? (i := 13) rfl))))) (fun _ h9 => h9) rfl dX6_readItems_105 ?_
                  have hPc := hP.sub (ws' := (wd_09b0abee h1 h2 v2 x46 x55 x48)) [1] rfl
                  have hDc := hD.sub (ws' := (wd_09b0abee h1 h2 v2 x46 x55 x48)) [1] (by decide) rfl
                  have hKc := hK.sub (tys' := []) [] rfl
                  have hFc := va_free (wc := (wd_09b0abee h1 h2 v2 x46 x55 x48)) hD hS hA [1] rfl
                  refine va_calli (va_runV (As := []) (rest := [.int t65, .ref h3]) ⟨hx, hb, hml, hown, hts⟩ (k_X10_number l dC dI h1 h2 v2 x46 x55 x48 ⟨by first | omega | decide, by first | omega | decide⟩ H.size) (cwV 0 hts g_X6_readItems_5 rfl rfl rfl (by decide +kernel) ⟨Nat.le_of_ble_eq_true rfl, Nat.le_of_ble_eq_true rfl⟩) ⟨fun a U g mk q => by obtain ⟨q0, q1, qP, qK, qD⟩ := q; exact ⟨q0, q1, qP, va_K.moved (u := U) (U := U.calling g mk a) (Vm.Alike.refl U.vm) qK, qD⟩, va_recv hKc hPc (ci := 10) (q0 := 0) rfl rfl, fun U hU hW => ⟨rfl, by rw [hU], by rw [hU]; exact hPc, va_K.moved hW.alike hKc, hDc.weaken (fun _ _ _ _ => trivial)⟩⟩ rfl rfl hl.1 rfl (lv_room (Nat.le_of_ble_eq_true rfl)) dX6_readItems_108 ⟨Nat.le_of_ble_eq_true rfl, Nat.le_of_ble_eq_true rfl⟩) hS (fun q _ h => hFc q h) hFc (fun ra66 u t H1 locs ht hvm hwra66 hB hz1 hk1 hS => ?_)
                  obtain ⟨hP1, hK1, hD1⟩ := hB
                  rw [ht] at hP1
                  obtain ⟨hP, hD⟩ := va_join (wr := (wd_a7d1db7f h0 h1 r0 h3 v0 v1 h2 g0 f6 h3 g1 fn24)) (w1 := (wd_09b0abee h1 h2 v2 x46 x55 x48)) hP hD [1] [0, 2, 3] rfl rfl (by decide) (by decide) hk1 hFc hP1 hD1
                  generalize H1 = H at hP hS ⊢
                  have hP := hP.sub (ws' := (wd_16a8d446 h0 h1 r0 h3 v0 v1 h1 h2 v2 x46 x55 x48 h2 g0 f6 h3 g1 fn24)) [0, 3, 1, 2] rfl
                  have hD := hD.sub (ws' := (wd_16a8d446 h0 h1 r0 h3 v0 v1 h1 h2 v2 x46 x55 x48 h2 g0 f6 h3 g1 fn24)) [0, 3, 1, 2] (by decide) rfl
                  have hP : va_P (dC, dI) vwCl (wd_16a8d446 h0 h1 r0 h3 v0 v1 h1 h2 v2 x46 x55 x48 h2 g0 f6 h3 g1 fn24) H := hP
                  have hD : va_D A (wd_16a8d446 h0 h1 r0 h3 v0 v1 h1 h2 v2 x46 x55 x48 h2 g0 f6 h3 g1 fn24) := hD
                  refine va_iast hx hb hK hP hD hS 3 1 rfl rfl (vp_in_iff.mpr ⟨by omega, by omega⟩) dX6_readItems_111 (fun H locs hP hD hS => ?_)
                  obtain ⟨fn67, efn67⟩ : ∃ g : Nat → Int32, g = upd fn24 (Int32.toNatClampNeg t65) ra66 := ⟨_, rfl⟩
                  rw [← efn67] at hP hD
                  have hP : va_P (dC, dI) vwCl (wd_16a8d446 h0 h1 r0 h3 v0 v1 h1 h2 v2 x46 x55 x48 h2 g0 f6 h3 g1 fn67) H := hP
                  have hD : va_D A (wd_16a8d446 h0 h1 r0 h3 v0 v1 h1 h2 v2 x46 x55 x48 h2 g0 f6 h3 g1 fn67) := hD
                  exact hJ60 fn67 H locs ls hP hD hS (lv_sub hl [0, 1, 2, 3, 4, 5, 6, 7, 8] rfl)
              · skip
                have fc56 : ra54.toInt = 0 := congrArg Int32.toInt c56
                refine lv_iconst (v := 0) hx hb dX6_readItems_79 (by decide) ?_
                subst hQ
                have hP9 := hP.sub (ws' := (wd_16a8d446 h0 h1 r0 h3 v0 v1 h1 h2 v2 x46 x55 x48 h2 g0 f6 h3 g1 fn24)) [0, 1, 2, 3] rfl
                have hD9 := hD.sub (ws' := (wd_16a8d446 h0 h1 r0 h3 v0 v1 h1 h2 v2 x46 x55 x48 h2 g0 f6 h3 g1 fn24)) [0, 1, 2, 3] (by decide) rfl
                have hK9 := hK.sub (tys' := []) [] rfl
                exact W.zret (v := 0) hx hb hr rfl (fun t ht hW => ⟨⟨0, (), rfl, ⟨by first | omega | decide, by first | omega | decide⟩, x46, x55, x48, fn24, by rw [ht]; exact hP9, va_K.moved hW.alike hK9, hD9⟩, hS.F ht⟩) hS.2.2 dX6_readItems_80
  exact hL31 _ 0 0 v3 v4 v5 f7 H locs ls (by first | omega | decide) (by first | omega | decide) (Nat.lt_succ_self _) hP hD hS (lv_sub hl [0, 1, 2, 3, 4, 5, 6, 7] rfl)
def q_J0_coder_7d493_2 : List Cond := .code yJ0_coder_7d493 cJ0_coder_7d493 1 (some .byte) :: (([.fieldLink RJ0 38 "java/lang/String" "COMPACT_STRINGS" "Z", .fieldLink RJ0 15 "java/lang/String" "coder" "B"] : List Cond))
set_option maxHeartbeats 4000000 in
set_option maxRecDepth 100000 in
theorem k_J0_coder_7d493_2 (l : Launch) (dC : Nat → ClassId) (dI : Nat → Nat → Nat) (adK : Nat → Nat) (adV : Nat → Nat) (sz : Nat) : Met l yJ0_coder_7d493 q_J0_coder_7d493_2 ({ frames := 0, cells := 0, slots := 0, locals := 0 }) (va_Pc [.ref (adK 0)] (fun U => U.heap.size = sz ∧ va_P (dC, dI) vwCl [] U.heap ∧ va_K (dC, dI) vwCl [] U ∧ va_D (fun _ => True) [] ∧ va_Z "java/lang/String" "COMPACT_STRINGS" "Z" (.int 1) (va_A [] sz) U U.heap ∧ vk_S 3 pv_len3 pv_byt3 adK adV (va_A [] sz) U U.heap)) (va_Qi (fun (r : Int32) (_ : Unit) => 0 ≤ r.toInt ∧ r.toInt ≤ 0) (fun (_ : Unit) (t : State) => va_P (dC, dI) vwCl [] t.heap ∧ va_K (dC, dI) vwCl [] t ∧ va_D (va_A [] sz) []) (va_A [] sz)) 0 0 (va_A [] sz) := by
  refine pv_ofWF (cc := cJ0_coder_7d493) (maxL := 1) (ret := (some .byte)) (by decide +kernel) rfl ?_
  intro p e s m args below meth c s₁ B hml hv
  obtain ⟨rfl, hsz, hP, hK, hD0, h_st_CS, h_st_S⟩ := hv
  have hx := B.exec
  have hb := B.bytes
  have hr := B.returns
  have hts := atoms_spec (ws := q_J0_coder_7d493_2) B.pre
  have hown : s.vm.findClass RJ0 = some m.cls := findClass_of_methodNamed B.named
  have hlocks := B.notSynchronized
  subst hsz
  have hD := hD0.self (sz := s.heap.size)
  generalize hAe : va_A [] s.heap.size = A at hD h_st_CS h_st_S ⊢
  have hA : ∀ q : Nat, s.heap.size ≤ q → A q := fun q h => by rw [← hAe]; exact Or.inr h
  have hS : va_S A s.heap s.heap [] := va_S.rf
  generalize hQ : (MQ below _ _ s 0 0 A) = Q
  have hl := lv_entry ([.ref (adK 0)]) (n := 1) (Nat.le_of_ble_eq_true rfl)
  rw [lg_entry_eq]
  generalize (lg_sl ([.ref (adK 0)]) ++ List.replicate (1 - (lg_sl ([.ref (adK 0)])).length) Slot.unset).toArray = ls at hl ⊢
  have hl : lv_has ls 1 [(0, .ref (adK 0))] := hl
  obtain ⟨H, hH⟩ : ∃ H : Heap, H = s.heap := ⟨_, rfl⟩
  obtain ⟨locs, hlocs⟩ : ∃ y : List Loc, y = [] := ⟨_, rfl⟩
  have hS : va_S A s.heap H locs := by rw [hH, hlocs]; exact va_S.rf
  have hP : va_P (dC, dI) vwCl [] H := by rw [hH]; exact hP
  rw [← hH, ← hlocs]
  refine va_gets hx hb h_st_CS hS hown (hts (.fieldLink RJ0 38 "java/lang/String" "COMPACT_STRINGS" "Z") (List.mem_cons_of_mem _ (List.mem_of_getElem? (i := 0) rfl))) (fun _ h9 => h9) dJ0_coder_7d493_0 ?_
  refine lv_if_eq (tgt := 13) hx hb dJ0_coder_7d493_3 (by decide) (fun c => absurd c (by decide)) (fun _ => ?_)
  refine lv_aload_n hx hb dJ0_coder_7d493_6 rfl (lv_at hl 0 rfl) ?_
  refine vk_getf hx hb (h_st_S.1 0 (by decide)).2.1 hS hown (hts (.fieldLink RJ0 15 "java/lang/String" "coder" "B") (List.mem_cons_of_mem _ (List.mem_of_getElem? (i := 1) rfl))) (fun _ h9 => h9) dJ0_coder_7d493_7 ?_
  refine lv_goto (tgt := 14) hx hb dJ0_coder_7d493_10 (by decide) ?_
  subst hQ
  have hP9 := hP.sub (ws' := []) [] rfl
  have hD9 := hD.sub (ws' := []) [] (by decide) rfl
  have hK9 := hK.sub (tys' := []) [] rfl
  exact W.zret (v := 0) hx hb hr rfl (fun t ht hW => ⟨⟨0, (), rfl, ⟨by first | omega | decide, by first | omega | decide⟩, by rw [ht]; exact hP9, va_K.moved hW.alike hK9, hD9⟩, hS.F ht⟩) hS.2.2 dJ0_coder_7d493_14
def q_J0_length_8abf5_2 : List Cond := .code yJ0_length_8abf5 cJ0_length_8abf5 1 (some .int) :: (([.fieldLink RJ0 9 "java/lang/String" "value" "[B", .code yJ0_coder_7d493 cJ0_coder_7d493 1 (some .byte), .fieldLink RJ0 38 "java/lang/String" "COMPACT_STRINGS" "Z", .fieldLink RJ0 15 "java/lang/String" "coder" "B", .initialized RJ0, .instanceMethod yJ0_coder_7d493, .selects RJ0 yJ0_coder_7d493 yJ0_coder_7d493, .methodLink RJ0 335 yJ0_coder_7d493] : List Cond))
set_option maxRecDepth 20000 in
theorem g_J0_length_8abf5_2_0 : GoodIn q_J0_length_8abf5_2 (wsV RJ0 335 RJ0 yJ0_coder_7d493 q_J0_coder_7d493_2) := goodIn_app (goodIn_r _ [8, 6, 7, 5] rfl (by decide +kernel)) (goodIn_r (.code yJ0_coder_7d493 cJ0_coder_7d493 1 (some .byte) :: [.fieldLink RJ0 38 "java/lang/String" "COMPACT_STRINGS" "Z", .fieldLink RJ0 15 "java/lang/String" "coder" "B"]) [2, 3, 4] rfl (by decide +kernel))
set_option maxHeartbeats 4000000 in
set_option maxRecDepth 100000 in
theorem k_J0_length_8abf5_2 (l : Launch) (dC : Nat → ClassId) (dI : Nat → Nat → Nat) (adK : Nat → Nat) (adV : Nat → Nat) (sz : Nat) : Met l yJ0_length_8abf5 q_J0_length_8abf5_2 ({ frames := 1, cells := 0, slots := 0, locals := 20 }) (va_Pc [.ref (adK 0)] (fun U => U.heap.size = sz ∧ va_P (dC, dI) vwCl [] U.heap ∧ va_K (dC, dI) vwCl [] U ∧ va_D (fun _ => True) [] ∧ vk_S 3 pv_len3 pv_byt3 adK adV (va_A [] sz) U U.heap ∧ va_Z "java/lang/String" "COMPACT_STRINGS" "Z" (.int 1) (va_A [] sz) U U.heap)) (va_Qi (fun (r : Int32) (_ : Unit) => 4 ≤ r.toInt ∧ r.toInt ≤ 4) (fun (_ : Unit) (t : State) => va_P (dC, dI) vwCl [] t.heap ∧ va_K (dC, dI) vwCl [] t ∧ va_D (va_A [] sz) []) (va_A [] sz)) 0 0 (va_A [] sz) := by
  refine pv_ofWF (cc := cJ0_length_8abf5) (maxL := 1) (ret := (some .int)) (by decide +kernel) rfl ?_
  intro p e s m args below meth c s₁ B hml hv
  obtain ⟨rfl, hsz, hP, hK, hD0, h_st_S, h_st_CS⟩ := hv
  have hx := B.exec
  have hb := B.bytes
  have hr := B.returns
  have hts := atoms_spec (ws := q_J0_length_8abf5_2) B.pre
  have hown : s.vm.findClass RJ0 = some m.cls := findClass_of_methodNamed B.named
  have hlocks := B.notSynchronized
  subst hsz
  have hD := hD0.self (sz := s.heap.size)
  generalize hAe : va_A [] s.heap.size = A at hD h_st_S h_st_CS ⊢
  have hA : ∀ q : Nat, s.heap.size ≤ q → A q := fun q h => by rw [← hAe]; exact Or.inr h
  have hS : va_S A s.heap s.heap [] := va_S.rf
  generalize hQ : (MQ below _ _ s 0 0 A) = Q
  have hl := lv_entry ([.ref (adK 0)]) (n := 1) (Nat.le_of_ble_eq_true rfl)
  rw [lg_entry_eq]
  generalize (lg_sl ([.ref (adK 0)]) ++ List.replicate (1 - (lg_sl ([.ref (adK 0)])).length) Slot.unset).toArray = ls at hl ⊢
  have hl : lv_has ls 1 [(0, .ref (adK 0))] := hl
  obtain ⟨H, hH⟩ : ∃ H : Heap, H = s.heap := ⟨_, rfl⟩
  obtain ⟨locs, hlocs⟩ : ∃ y : List Loc, y = [] := ⟨_, rfl⟩
  have hS : va_S A s.heap H locs := by rw [hH, hlocs]; exact va_S.rf
  have hP : va_P (dC, dI) vwCl [] H := by rw [hH]; exact hP
  rw [← hH, ← hlocs]
  refine lv_aload_n hx hb dJ0_length_8abf5_0 rfl (lv_at hl 0 rfl) ?_
  refine vk_getf hx hb (h_st_S.1 0 (by decide)).2.2.1 hS hown (hts (.fieldLink RJ0 9 "java/lang/String" "value" "[B") (List.mem_cons_of_mem _ (List.mem_of_getElem? (i := 0) rfl))) (fun _ h9 => h9) dJ0_length_8abf5_1 ?_
  refine va_tlen (v := 4) hx hb (h_st_S.1 0 (by decide)).2.2.2 hS (by decide) dJ0_length_8abf5_4 ?_
  refine lv_aload_n hx hb dJ0_length_8abf5_5 rfl (lv_at hl 0 rfl) ?_
  have hPc := hP.sub (ws' := []) [] rfl
  have hDc := hD.sub (ws' := []) [] (by decide) rfl
  have hKc := hK.sub (tys' := []) [] rfl
  have hFc := va_free (wc := []) hD hS hA [] rfl
  refine va_calli (va_runV (As := []) (rest := [.int 4]) ⟨hx, hb, hml, hown, hts⟩ (k_J0_coder_7d493_2 l dC dI adK adV  H.size) (cwV 0 hts g_J0_length_8abf5_2_0 rfl rfl rfl (by decide +kernel) ⟨Nat.le_of_ble_eq_true rfl, Nat.le_of_ble_eq_true rfl⟩) ⟨fun a U g mk q => by obtain ⟨q0, q1, qP, qK, qD, n0, n1⟩ := q; exact ⟨q0, q1, qP, va_K.moved (u := U) (U := U.calling g mk a) (Vm.Alike.refl U.vm) qK, qD, va_Z.moved (Vm.Alike.refl _) n0, vk_S.moved (Vm.Alike.refl _) n1⟩, vk_recv h_st_S (by decide : 0 < 3) hS, fun U hU hW => ⟨rfl, by rw [hU], by rw [hU]; exact hPc, va_K.moved hW.alike hKc, hDc.weaken (fun _ _ _ _ => trivial), (by rw [hU]; exact (va_Z.moved hW.alike (va_Z.kept h_st_CS hS.2.1)).narrow hFc), (by rw [hU]; exact (vk_S.moved hW.alike (vk_S.kept h_st_S hS.2.1)).narrow hFc)⟩⟩ rfl rfl hl.1 rfl (lv_room (Nat.le_of_ble_eq_true rfl)) dJ0_length_8abf5_6 ⟨Nat.le_of_ble_eq_true rfl, Nat.le_of_ble_eq_true rfl⟩) hS (fun q _ h => hFc q h) hFc (fun ra1 u t H1 locs ht hvm hwra1 hB hz1 hk1 hS => ?_)
  obtain ⟨hP1, hK1, hD1⟩ := hB
  rw [ht] at hP1
  obtain ⟨hP, hD⟩ := va_join (wr := []) (w1 := []) hP hD [] [] rfl rfl (by decide) (by decide) hk1 hFc hP1 hD1
  generalize H1 = H at hP hS ⊢
  have hP : va_P (dC, dI) vwCl [] H := hP
  have hD : va_D A [] := hD
  obtain ⟨wa_ra1, wb_ra1⟩ := hwra1
  have wa_ra1 : 0 ≤ ra1.toInt := wa_ra1
  have wb_ra1 : ra1.toInt ≤ 0 := wb_ra1
  obtain rfl : ra1 = (0 : Int32) := Int32.toInt_inj.mp (by rw [show ((0 : Int32)).toInt = 0 by decide]; omega)
  refine lv_ishr hx hb dJ0_length_8abf5_9 ?_
  refine lv_topi (fun tv2 etv2 => ?_)
  obtain rfl : tv2 = (4 : Int32) := etv2.trans (by first | rfl | decide)
  subst hQ
  have hP9 := hP.sub (ws' := []) [] rfl
  have hD9 := hD.sub (ws' := []) [] (by decide) rfl
  have hK9 := hK.sub (tys' := []) [] rfl
  exact W.iret (v := 4) hx hb hr (fun t ht hW => ⟨⟨4, (), rfl, ⟨by first | omega | decide, by first | omega | decide⟩, by rw [ht]; exact hP9, va_K.moved hW.alike hK9, hD9⟩, hS.F ht⟩) hS.2.2 dJ0_length_8abf5_10
def q_J0_isLatin1_aae02_2 : List Cond := .code yJ0_isLatin1_aae02 cJ0_isLatin1_aae02 1 (some .boolean) :: (([.fieldLink RJ0 38 "java/lang/String" "COMPACT_STRINGS" "Z", .fieldLink RJ0 15 "java/lang/String" "coder" "B"] : List Cond))
set_option maxHeartbeats 4000000 in
set_option maxRecDepth 100000 in
theorem k_J0_isLatin1_aae02_2 (l : Launch) (dC : Nat → ClassId) (dI : Nat → Nat → Nat) (adK : Nat → Nat) (adV : Nat → Nat) (sz : Nat) : Met l yJ0_isLatin1_aae02 q_J0_isLatin1_aae02_2 ({ frames := 0, cells := 0, slots := 0, locals := 0 }) (va_Pc [.ref (adK 0)] (fun U => U.heap.size = sz ∧ va_P (dC, dI) vwCl [] U.heap ∧ va_K (dC, dI) vwCl [] U ∧ va_D (fun _ => True) [] ∧ va_Z "java/lang/String" "COMPACT_STRINGS" "Z" (.int 1) (va_A [] sz) U U.heap ∧ vk_S 3 pv_len3 pv_byt3 adK adV (va_A [] sz) U U.heap)) (va_Qi (fun (r : Int32) (_ : Unit) => 1 ≤ r.toInt ∧ r.toInt ≤ 1) (fun (_ : Unit) (t : State) => va_P (dC, dI) vwCl [] t.heap ∧ va_K (dC, dI) vwCl [] t ∧ va_D (va_A [] sz) []) (va_A [] sz)) 0 0 (va_A [] sz) := by
  refine pv_ofWF (cc := cJ0_isLatin1_aae02) (maxL := 1) (ret := (some .boolean)) (by decide +kernel) rfl ?_
  intro p e s m args below meth c s₁ B hml hv
  obtain ⟨rfl, hsz, hP, hK, hD0, h_st_CS, h_st_S⟩ := hv
  have hx := B.exec
  have hb := B.bytes
  have hr := B.returns
  have hts := atoms_spec (ws := q_J0_isLatin1_aae02_2) B.pre
  have hown : s.vm.findClass RJ0 = some m.cls := findClass_of_methodNamed B.named
  have hlocks := B.notSynchronized
  subst hsz
  have hD := hD0.self (sz := s.heap.size)
  generalize hAe : va_A [] s.heap.size = A at hD h_st_CS h_st_S ⊢
  have hA : ∀ q : Nat, s.heap.size ≤ q → A q := fun q h => by rw [← hAe]; exact Or.inr h
  have hS : va_S A s.heap s.heap [] := va_S.rf
  generalize hQ : (MQ below _ _ s 0 0 A) = Q
  have hl := lv_entry ([.ref (adK 0)]) (n := 1) (Nat.le_of_ble_eq_true rfl)
  rw [lg_entry_eq]
  generalize (lg_sl ([.ref (adK 0)]) ++ List.replicate (1 - (lg_sl ([.ref (adK 0)])).length) Slot.unset).toArray = ls at hl ⊢
  have hl : lv_has ls 1 [(0, .ref (adK 0))] := hl
  obtain ⟨H, hH⟩ : ∃ H : Heap, H = s.heap := ⟨_, rfl⟩
  obtain ⟨locs, hlocs⟩ : ∃ y : List Loc, y = [] := ⟨_, rfl⟩
  have hS : va_S A s.heap H locs := by rw [hH, hlocs]; exact va_S.rf
  have hP : va_P (dC, dI) vwCl [] H := by rw [hH]; exact hP
  rw [← hH, ← hlocs]
  refine va_gets hx hb h_st_CS hS hown (hts (.fieldLink RJ0 38 "java/lang/String" "COMPACT_STRINGS" "Z") (List.mem_cons_of_mem _ (List.mem_of_getElem? (i := 0) rfl))) (fun _ h9 => h9) dJ0_isLatin1_aae02_0 ?_
  refine lv_if_eq (tgt := 17) hx hb dJ0_isLatin1_aae02_3 (by decide) (fun c => absurd c (by decide)) (fun _ => ?_)
  refine lv_aload_n hx hb dJ0_isLatin1_aae02_6 rfl (lv_at hl 0 rfl) ?_
  refine vk_getf hx hb (h_st_S.1 0 (by decide)).2.1 hS hown (hts (.fieldLink RJ0 15 "java/lang/String" "coder" "B") (List.mem_cons_of_mem _ (List.mem_of_getElem? (i := 1) rfl))) (fun _ h9 => h9) dJ0_isLatin1_aae02_7 ?_
  refine lv_if_ne (tgt := 17) hx hb dJ0_isLatin1_aae02_10 (by decide) (fun c => absurd (by decide) c) (fun _ => ?_)
  refine lv_iconst (v := 1) hx hb dJ0_isLatin1_aae02_13 (by decide) ?_
  refine lv_goto (tgt := 18) hx hb dJ0_isLatin1_aae02_14 (by decide) ?_
  subst hQ
  have hP9 := hP.sub (ws' := []) [] rfl
  have hD9 := hD.sub (ws' := []) [] (by decide) rfl
  have hK9 := hK.sub (tys' := []) [] rfl
  exact W.zret (v := 1) hx hb hr rfl (fun t ht hW => ⟨⟨1, (), rfl, ⟨by first | omega | decide, by first | omega | decide⟩, by rw [ht]; exact hP9, va_K.moved hW.alike hK9, hD9⟩, hS.F ht⟩) hS.2.2 dJ0_isLatin1_aae02_18
def q_J1_indexOfChar_4cfef_2 : List Cond := .code yJ1_indexOfChar_4cfef cJ1_indexOfChar_4cfef 6 (some .int) :: (([] : List Cond))
set_option maxHeartbeats 4000000 in
set_option maxRecDepth 100000 in
theorem k_J1_indexOfChar_4cfef_2 (l : Launch) (dC : Nat → ClassId) (dI : Nat → Nat → Nat) (adK : Nat → Nat) (adV : Nat → Nat) (v0 : Int32) (sz : Nat) : Met l yJ1_indexOfChar_4cfef q_J1_indexOfChar_4cfef_2 ({ frames := 0, cells := 0, slots := 0, locals := 0 }) (va_Pc [.ref (adV 0), .int v0, .int 0, .int 4] (fun U => U.heap.size = sz ∧ va_P (dC, dI) vwCl [] U.heap ∧ va_K (dC, dI) vwCl [] U ∧ va_D (fun _ => True) [] ∧ vk_S 3 pv_len3 pv_byt3 adK adV (va_A [] sz) U U.heap)) (va_Qi (fun (r : Int32) (_ : Unit) => -1 ≤ r.toInt ∧ r.toInt ≤ 3) (fun (_ : Unit) (t : State) => va_P (dC, dI) vwCl [] t.heap ∧ va_K (dC, dI) vwCl [] t ∧ va_D (va_A [] sz) []) (va_A [] sz)) 0 0 (va_A [] sz) := by
  refine pv_ofWF (cc := cJ1_indexOfChar_4cfef) (maxL := 6) (ret := (some .int)) (by decide +kernel) rfl ?_
  intro p e s m args below meth c s₁ B hml hv
  obtain ⟨rfl, hsz, hP, hK, hD0, h_st_S⟩ := hv
  have hx := B.exec
  have hb := B.bytes
  have hr := B.returns
  have hts := atoms_spec (ws := q_J1_indexOfChar_4cfef_2) B.pre
  have hown : s.vm.findClass RJ1 = some m.cls := findClass_of_methodNamed B.named
  have hlocks := B.notSynchronized
  subst hsz
  have hD := hD0.self (sz := s.heap.size)
  generalize hAe : va_A [] s.heap.size = A at hD h_st_S ⊢
  have hA : ∀ q : Nat, s.heap.size ≤ q → A q := fun q h => by rw [← hAe]; exact Or.inr h
  have hS : va_S A s.heap s.heap [] := va_S.rf
  generalize hQ : (MQ below _ _ s 0 0 A) = Q
  have hl := lv_entry ([.ref (adV 0), .int v0, .int 0, .int 4]) (n := 6) (Nat.le_of_ble_eq_true rfl)
  rw [lg_entry_eq]
  generalize (lg_sl ([.ref (adV 0), .int v0, .int 0, .int 4]) ++ List.replicate (6 - (lg_sl ([.ref (adV 0), .int v0, .int 0, .int 4])).length) Slot.unset).toArray = ls at hl ⊢
  have hl : lv_has ls 6 [(0, .ref (adV 0)), (1, .int v0), (2, .int 0), (3, .int 4)] := hl
  obtain ⟨H, hH⟩ : ∃ H : Heap, H = s.heap := ⟨_, rfl⟩
  obtain ⟨locs, hlocs⟩ : ∃ y : List Loc, y = [] := ⟨_, rfl⟩
  have hS : va_S A s.heap H locs := by rw [hH, hlocs]; exact va_S.rf
  have hP : va_P (dC, dI) vwCl [] H := by rw [hH]; exact hP
  rw [← hH, ← hlocs]
  refine lv_iload_n hx hb dJ1_indexOfChar_4cfef_0 rfl (lv_at hl 1 rfl) ?_
  obtain ⟨t1, et1⟩ : ∃ z : Int32, z = (v0 : Int32).toInt8.toInt32 := ⟨_, rfl⟩
  refine lv_i2b (v := t1) hx hb dJ1_indexOfChar_4cfef_1 (by rw [et1]) ?_
  refine lv_istore (lv' := [(4, .int t1), (0, .ref (adV 0)), (1, .int v0), (2, .int 0), (3, .int 4)]) hx hb dJ1_indexOfChar_4cfef_2 hl (by decide) rfl (fun ls hl => ?_)
  refine lv_iload_n hx hb dJ1_indexOfChar_4cfef_4 rfl (lv_at hl 3 rfl) ?_
  refine lv_istore (lv' := [(5, .int 0), (4, .int t1), (0, .ref (adV 0)), (1, .int v0), (2, .int 0), (3, .int 4)]) hx hb dJ1_indexOfChar_4cfef_5 hl (by decide) rfl (fun ls hl => ?_)
  have hL6 : ∀ (n9 : Nat), ∀ (x4 : Int32) (H : Heap) (locs : List Loc) (ls : Array Slot), 0 ≤ x4.toInt → x4.toInt ≤ 4 → (4 - x4.toInt).toNat < n9 → va_P (dC, dI) vwCl [] H → va_D A [] → va_S A s.heap H locs → lv_has ls 6 [(5, .int x4), (4, .int t1), (0, .ref (adV 0)), (1, .int v0), (2, .int 0), (3, .int 4)] → W p l e ({ frames := 0, cells := 0, slots := 0, locals := 0 }) s m ([.ref (adV 0), .int v0, .int 0, .int 4] : List Value).toArray below meth c H locs 0 0 Q (F0 m 7 ls []) := by
    intro n9
    induction n9 with
    | zero => intro x4 H locs ls qa_x4 qb_x4 hm9 hP hD hS hl; exact absurd hm9 (Nat.not_lt_zero _)
    | succ n9 ih_hL6 =>
      intro x4 H locs ls qa_x4 qb_x4 hm9 hP hD hS hl
      refine lv_iload hx hb dJ1_indexOfChar_4cfef_7 (lv_at hl 0 rfl) ?_
      refine lv_iload_n hx hb dJ1_indexOfChar_4cfef_9 rfl (lv_at hl 5 rfl) ?_
      refine lv_icmp_ge (tgt := 31) hx hb dJ1_indexOfChar_4cfef_10 (by decide) (fun c7 => ?_) (fun c7 => ?_)
      · skip
        have fc7 : 4 ≤ x4.toInt := Int32.le_iff_toInt_le.mp c7
        refine lv_iconst (v := (-1)) hx hb dJ1_indexOfChar_4cfef_31 (by decide) ?_
        subst hQ
        have hP9 := hP.sub (ws' := []) [] rfl
        have hD9 := hD.sub (ws' := []) [] (by decide) rfl
        have hK9 := hK.sub (tys' := []) [] rfl
        exact W.iret (v := (-1)) hx hb hr (fun t ht hW => ⟨⟨(-1), (), rfl, ⟨by first | omega | decide, by first | omega | decide⟩, by rw [ht]; exact hP9, va_K.moved hW.alike hK9, hD9⟩, hS.F ht⟩) hS.2.2 dJ1_indexOfChar_4cfef_32
      · skip
        have fc7 : ¬ (4 ≤ x4.toInt) := fun h9 => c7 (Int32.le_iff_toInt_le.mpr h9)
        refine lv_aload_n hx hb dJ1_indexOfChar_4cfef_13 rfl (lv_at hl 2 rfl) ?_
        refine lv_iload hx hb dJ1_indexOfChar_4cfef_14 (lv_at hl 0 rfl) ?_
        refine va_tb hx hb (h_st_S.1 0 (by decide)).2.2.2 hS (show vp_in x4 4 from (vp_in_iff.mpr ⟨by omega, by omega⟩)) rfl dJ1_indexOfChar_4cfef_16 ?_
        refine lv_topi (fun t8 et8 => ?_)
        refine lv_iload hx hb dJ1_indexOfChar_4cfef_17 (lv_at hl 1 rfl) ?_
        refine lv_icmp_ne (tgt := 25) hx hb dJ1_indexOfChar_4cfef_19 (by decide) (fun c9 => ?_) (fun c9 => ?_)
        · skip
          have fc9 : ¬ (t8.toInt = t1.toInt) := fun h9 => c9 (Int32.toInt_inj.mp h9)
          have r1c9 := Int32.toInt_lt t8
          have r2c9 := Int32.toInt_lt t1
          have r3c9 := Int32.le_toInt t8
          have r4c9 := Int32.le_toInt t1
          obtain ⟨t10, et10⟩ : ∃ y : Int32, y = x4 + 1 := ⟨_, rfl⟩
          have gt10 : t10.toInt = x4.toInt + (1) := pv_add (a := x4.toInt) (b := (1)) et10 rfl (by decide) (by omega) (by omega)
          refine lv_iinc (v := t10) (lv' := [(5, .int t10), (4, .int t1), (0, .ref (adV 0)), (1, .int v0), (2, .int 0), (3, .int 4)]) hx hb dJ1_indexOfChar_4cfef_25 hl (k := 0) rfl (by rw [et10]; rfl) (by decide) rfl (fun ls hl => ?_)
          refine lv_goto (tgt := 7) hx hb dJ1_indexOfChar_4cfef_28 (by decide) ?_
          exact ih_hL6 t10 H locs ls (by first | omega | decide) (by first | omega | decide) (by first | omega | (simp only [Int.toNat] at *; omega)) hP hD hS (lv_sub hl [0, 1, 2, 3, 4, 5] rfl)
        · skip
          have fc9 : t8.toInt = t1.toInt := congrArg Int32.toInt c9
          have r1c9 := Int32.toInt_lt t8
          have r2c9 := Int32.toInt_lt t1
          have r3c9 := Int32.le_toInt t8
          have r4c9 := Int32.le_toInt t1
          refine lv_iload hx hb dJ1_indexOfChar_4cfef_22 (lv_at hl 0 rfl) ?_
          subst hQ
          have hP9 := hP.sub (ws' := []) [] rfl
          have hD9 := hD.sub (ws' := []) [] (by decide) rfl
          have hK9 := hK.sub (tys' := []) [] rfl
          exact W.iret (v := x4) hx hb hr (fun t ht hW => ⟨⟨x4, (), rfl, ⟨by first | omega | decide, by first | omega | decide⟩, by rw [ht]; exact hP9, va_K.moved hW.alike hK9, hD9⟩, hS.F ht⟩) hS.2.2 dJ1_indexOfChar_4cfef_24
  exact hL6 _ 0 H locs ls (by first | omega | decide) (by first | omega | decide) (Nat.lt_succ_self _) hP hD hS (lv_sub hl [0, 1, 2, 3, 4, 5] rfl)
def q_J1_indexOf_4cfef_2 : List Cond := .code yJ1_indexOf_4cfef cJ1_indexOf_4cfef 4 (some .int) :: (([.code yJ1_canEncode_9a6ad cJ1_canEncode_9a6ad 1 (some .boolean), .initialized RJ1, .static yJ1_canEncode_9a6ad, .methodLink RJ1 88 yJ1_canEncode_9a6ad, .methodLink RJ1 92 Lib.Math.max.name, .static Lib.Math.max.name, .initialized "java/lang/Math", .code Lib.Math.max.name Lib.Math.max.code 2 (some .int), .methodLink RJ1 38 Lib.Math.min.name, .static Lib.Math.min.name, .code Lib.Math.min.name Lib.Math.min.code 2 (some .int), .code yJ1_indexOfChar_4cfef cJ1_indexOfChar_4cfef 6 (some .int), .static yJ1_indexOfChar_4cfef, .methodLink RJ1 95 yJ1_indexOfChar_4cfef] : List Cond))
set_option maxRecDepth 20000 in
theorem g_J1_indexOf_4cfef_2_0 : GoodIn q_J1_indexOf_4cfef_2 (va_wsS RJ1 88 yJ1_canEncode_9a6ad q_J1_canEncode_9a6ad) := goodIn_app (goodIn_r _ [4, 3, 2] rfl (by decide +kernel)) (goodIn_r (.code yJ1_canEncode_9a6ad cJ1_canEncode_9a6ad 1 (some .boolean) :: []) [1] rfl (by decide +kernel))
set_option maxRecDepth 20000 in
theorem g_J1_indexOf_4cfef_2_1 : GoodIn q_J1_indexOf_4cfef_2 (va_wsS RJ1 95 yJ1_indexOfChar_4cfef q_J1_indexOfChar_4cfef_2) := goodIn_app (goodIn_r _ [14, 13, 2] rfl (by decide +kernel)) (goodIn_r (.code yJ1_indexOfChar_4cfef cJ1_indexOfChar_4cfef 6 (some .int) :: []) [12] rfl (by decide +kernel))
set_option maxHeartbeats 4000000 in
set_option maxRecDepth 100000 in
theorem k_J1_indexOf_4cfef_2 (l : Launch) (dC : Nat → ClassId) (dI : Nat → Nat → Nat) (adK : Nat → Nat) (adV : Nat → Nat) (v0 : Int32) (sz : Nat) : Met l yJ1_indexOf_4cfef q_J1_indexOf_4cfef_2 ({ frames := 1, cells := 0, slots := 0, locals := 25 }) (va_Pc [.ref (adV 0), .int v0, .int 0, .int 4] (fun U => U.heap.size = sz ∧ va_P (dC, dI) vwCl [] U.heap ∧ va_K (dC, dI) vwCl [] U ∧ va_D (fun _ => True) [] ∧ vk_S 3 pv_len3 pv_byt3 adK adV (va_A [] sz) U U.heap)) (va_Qi (fun (r : Int32) (_ : Unit) => -1 ≤ r.toInt ∧ r.toInt ≤ 3) (fun (_ : Unit) (t : State) => va_P (dC, dI) vwCl [] t.heap ∧ va_K (dC, dI) vwCl [] t ∧ va_D (va_A [] sz) []) (va_A [] sz)) 0 0 (va_A [] sz) := by
  refine pv_ofWF (cc := cJ1_indexOf_4cfef) (maxL := 4) (ret := (some .int)) (by decide +kernel) rfl ?_
  intro p e s m args below meth c s₁ B hml hv
  obtain ⟨rfl, hsz, hP, hK, hD0, h_st_S⟩ := hv
  have hx := B.exec
  have hb := B.bytes
  have hr := B.returns
  have hts := atoms_spec (ws := q_J1_indexOf_4cfef_2) B.pre
  have hown : s.vm.findClass RJ1 = some m.cls := findClass_of_methodNamed B.named
  have hlocks := B.notSynchronized
  subst hsz
  have hD := hD0.self (sz := s.heap.size)
  generalize hAe : va_A [] s.heap.size = A at hD h_st_S ⊢
  have hA : ∀ q : Nat, s.heap.size ≤ q → A q := fun q h => by rw [← hAe]; exact Or.inr h
  have hS : va_S A s.heap s.heap [] := va_S.rf
  generalize hQ : (MQ below _ _ s 0 0 A) = Q
  have hl := lv_entry ([.ref (adV 0), .int v0, .int 0, .int 4]) (n := 4) (Nat.le_of_ble_eq_true rfl)
  rw [lg_entry_eq]
  generalize (lg_sl ([.ref (adV 0), .int v0, .int 0, .int 4]) ++ List.replicate (4 - (lg_sl ([.ref (adV 0), .int v0, .int 0, .int 4])).length) Slot.unset).toArray = ls at hl ⊢
  have hl : lv_has ls 4 [(0, .ref (adV 0)), (1, .int v0), (2, .int 0), (3, .int 4)] := hl
  obtain ⟨H, hH⟩ : ∃ H : Heap, H = s.heap := ⟨_, rfl⟩
  obtain ⟨locs, hlocs⟩ : ∃ y : List Loc, y = [] := ⟨_, rfl⟩
  have hS : va_S A s.heap H locs := by rw [hH, hlocs]; exact va_S.rf
  have hP : va_P (dC, dI) vwCl [] H := by rw [hH]; exact hP
  rw [← hH, ← hlocs]
  refine lv_iload_n hx hb dJ1_indexOf_4cfef_0 rfl (lv_at hl 1 rfl) ?_
  have hPc := hP.sub (ws' := []) [] rfl
  have hDc := hD.sub (ws' := []) [] (by decide) rfl
  have hKc := hK.sub (tys' := []) [] rfl
  have hFc := va_free (wc := []) hD hS hA [] rfl
  refine va_calli (va_runS (As := [.int v0]) (rest := []) ⟨hx, hb, hml, hown, hts⟩ (k_J1_canEncode_9a6ad l dC dI v0  H.size) (va_cwS 1 hts g_J1_indexOf_4cfef_2_0 rfl rfl rfl (by decide +kernel) ⟨Nat.le_of_ble_eq_true rfl, Nat.le_of_ble_eq_true rfl⟩) ⟨fun a U g mk q => by obtain ⟨q0, q1, qP, qK, qD⟩ := q; exact ⟨q0, q1, qP, va_K.moved (u := U) (U := U.calling g mk a) (Vm.Alike.refl U.vm) qK, qD⟩, fun U hU hW => ⟨rfl, by rw [hU], by rw [hU]; exact hPc, va_K.moved hW.alike hKc, hDc.weaken (fun _ _ _ _ => trivial)⟩⟩ rfl rfl hl.1 rfl (lv_room (Nat.le_of_ble_eq_true rfl)) dJ1_indexOf_4cfef_1 ⟨Nat.le_of_ble_eq_true rfl, Nat.le_of_ble_eq_true rfl⟩) hS (fun q _ h => hFc q h) hFc (fun ra1 u t H1 locs ht hvm hwra1 hB hz1 hk1 hS => ?_)
  obtain ⟨hP1, hK1, hD1⟩ := hB
  rw [ht] at hP1
  obtain ⟨hP, hD⟩ := va_join (wr := []) (w1 := []) hP hD [] [] rfl rfl (by decide) (by decide) hk1 hFc hP1 hD1
  generalize H1 = H at hP hS ⊢
  have hP : va_P (dC, dI) vwCl [] H := hP
  have hD : va_D A [] := hD
  obtain ⟨wa_ra1, wb_ra1⟩ := hwra1
  have wa_ra1 : 0 ≤ ra1.toInt := wa_ra1
  have wb_ra1 : ra1.toInt ≤ 1 := wb_ra1
  refine lv_if_ne (tgt := 9) hx hb dJ1_indexOf_4cfef_4 (by decide) (fun c2 => ?_) (fun c2 => ?_)
  · skip
    have fc2 : ¬ (ra1.toInt = 0) := fun h9 => c2 (Int32.toInt_inj.mp h9)
    refine lv_iload_n hx hb dJ1_indexOf_4cfef_9 rfl (lv_at hl 2 rfl) ?_
    refine lv_iconst (v := 0) hx hb dJ1_indexOf_4cfef_10 (by decide) ?_
    refine va_mmax hx hb (by rw [hml]; exact hl.1.symm) hown (hts (.methodLink RJ1 92 Lib.Math.max.name) (List.mem_cons_of_mem _ (List.mem_of_getElem? (i := 4) rfl))) (hts (.static Lib.Math.max.name) (List.mem_cons_of_mem _ (List.mem_of_getElem? (i := 5) rfl))) (hts (.initialized "java/lang/Math") (List.mem_cons_of_mem _ (List.mem_of_getElem? (i := 6) rfl))) (hts (.code Lib.Math.max.name Lib.Math.max.code 2 (some .int)) (List.mem_cons_of_mem _ (List.mem_of_getElem? (i := 7) rfl))) (Nat.le_of_ble_eq_true rfl) (Nat.le_of_ble_eq_true rfl) (Nat.le_of_ble_eq_true rfl) (Nat.le_of_ble_eq_true rfl) dJ1_indexOf_4cfef_11 ?_
    refine lv_topi (fun tv3 etv3 => ?_)
    obtain rfl : tv3 = (0 : Int32) := etv3.trans (by first | rfl | decide)
    refine lv_istore_n (lv' := [(2, .int 0), (0, .ref (adV 0)), (1, .int v0), (3, .int 4)]) hx hb dJ1_indexOf_4cfef_14 rfl hl (by decide) rfl (fun ls hl => ?_)
    refine lv_iload_n hx hb dJ1_indexOf_4cfef_15 rfl (lv_at hl 3 rfl) ?_
    refine lv_aload_n hx hb dJ1_indexOf_4cfef_16 rfl (lv_at hl 1 rfl) ?_
    refine va_tlen (v := 4) hx hb (h_st_S.1 0 (by decide)).2.2.2 hS (by decide) dJ1_indexOf_4cfef_17 ?_
    refine va_mmin hx hb (by rw [hml]; exact hl.1.symm) hown (hts (.methodLink RJ1 38 Lib.Math.min.name) (List.mem_cons_of_mem _ (List.mem_of_getElem? (i := 8) rfl))) (hts (.static Lib.Math.min.name) (List.mem_cons_of_mem _ (List.mem_of_getElem? (i := 9) rfl))) (hts (.initialized "java/lang/Math") (List.mem_cons_of_mem _ (List.mem_of_getElem? (i := 6) rfl))) (hts (.code Lib.Math.min.name Lib.Math.min.code 2 (some .int)) (List.mem_cons_of_mem _ (List.mem_of_getElem? (i := 10) rfl))) (Nat.le_of_ble_eq_true rfl) (Nat.le_of_ble_eq_true rfl) (Nat.le_of_ble_eq_true rfl) (Nat.le_of_ble_eq_true rfl) dJ1_indexOf_4cfef_18 ?_
    refine lv_topi (fun tv4 etv4 => ?_)
    obtain rfl : tv4 = (4 : Int32) := etv4.trans (by first | rfl | decide)
    refine lv_istore_n (lv' := [(3, .int 4), (2, .int 0), (0, .ref (adV 0)), (1, .int v0)]) hx hb dJ1_indexOf_4cfef_21 rfl hl (by decide) rfl (fun ls hl => ?_)
    refine lv_iload_n hx hb dJ1_indexOf_4cfef_22 rfl (lv_at hl 1 rfl) ?_
    refine lv_iload_n hx hb dJ1_indexOf_4cfef_23 rfl (lv_at hl 0 rfl) ?_
    refine lv_icmp_lt (tgt := 29) hx hb dJ1_indexOf_4cfef_24 (by decide) (fun _ => ?_) (fun c => absurd (by decide) c)
    refine lv_aload_n hx hb dJ1_indexOf_4cfef_29 rfl (lv_at hl 2 rfl) ?_
    refine lv_iload_n hx hb dJ1_indexOf_4cfef_30 rfl (lv_at hl 3 rfl) ?_
    refine lv_iload_n hx hb dJ1_indexOf_4cfef_31 rfl (lv_at hl 1 rfl) ?_
    refine lv_iload_n hx hb dJ1_indexOf_4cfef_32 rfl (lv_at hl 0 rfl) ?_
    have hPc := hP.sub (ws' := []) [] rfl
    have hDc := hD.sub (ws' := []) [] (by decide) rfl
    have hKc := hK.sub (tys' := []) [] rfl
    have hFc := va_free (wc := []) hD hS hA [] rfl
    refine va_calli (va_runS (As := [.ref (adV 0), .int v0, .int 0, .int 4]) (rest := []) ⟨hx, hb, hml, hown, hts⟩ (k_J1_indexOfChar_4cfef_2 l dC dI adK adV v0  H.size) (va_cwS 4 hts g_J1_indexOf_4cfef_2_1 rfl rfl rfl (by decide +kernel) ⟨Nat.le_of_ble_eq_true rfl, Nat.le_of_ble_eq_true rfl⟩) ⟨fun a U g mk q => by obtain ⟨q0, q1, qP, qK, qD, n0⟩ := q; exact ⟨q0, q1, qP, va_K.moved (u := U) (U := U.calling g mk a) (Vm.Alike.refl U.vm) qK, qD, vk_S.moved (Vm.Alike.refl _) n0⟩, fun U hU hW => ⟨rfl, by rw [hU], by rw [hU]; exact hPc, va_K.moved hW.alike hKc, hDc.weaken (fun _ _ _ _ => trivial), (by rw [hU]; exact (vk_S.moved hW.alike (vk_S.kept h_st_S hS.2.1)).narrow hFc)⟩⟩ rfl rfl hl.1 rfl (lv_room (Nat.le_of_ble_eq_true rfl)) dJ1_indexOf_4cfef_33 ⟨Nat.le_of_ble_eq_true rfl, Nat.le_of_ble_eq_true rfl⟩) hS (fun q _ h => hFc q h) hFc (fun ra5 u t H1 locs ht hvm hwra5 hB hz1 hk1 hS => ?_)
    obtain ⟨hP1, hK1, hD1⟩ := hB
    rw [ht] at hP1
    obtain ⟨hP, hD⟩ := va_join (wr := []) (w1 := []) hP hD [] [] rfl rfl (by decide) (by decide) hk1 hFc hP1 hD1
    generalize H1 = H at hP hS ⊢
    have hP : va_P (dC, dI) vwCl [] H := hP
    have hD : va_D A [] := hD
    obtain ⟨wa_ra5, wb_ra5⟩ := hwra5
    have wa_ra5 : -1 ≤ ra5.toInt := wa_ra5
    have wb_ra5 : ra5.toInt ≤ 3 := wb_ra5
    subst hQ
    have hP9 := hP.sub (ws' := []) [] rfl
    have hD9 := hD.sub (ws' := []) [] (by decide) rfl
    have hK9 := hK.sub (tys' := []) [] rfl
    exact W.iret (v := ra5) hx hb hr (fun t ht hW => ⟨⟨ra5, (), rfl, ⟨by first | omega | decide, by first | omega | decide⟩, by rw [ht]; exact hP9, va_K.moved hW.alike hK9, hD9⟩, hS.F ht⟩) hS.2.2 dJ1_indexOf_4cfef_36
  · skip
    have fc2 : ra1.toInt = 0 := congrArg Int32.toInt c2
    refine lv_iconst (v := (-1)) hx hb dJ1_indexOf_4cfef_7 (by decide) ?_
    subst hQ
    have hP9 := hP.sub (ws' := []) [] rfl
    have hD9 := hD.sub (ws' := []) [] (by decide) rfl
    have hK9 := hK.sub (tys' := []) [] rfl
    exact W.iret (v := (-1)) hx hb hr (fun t ht hW => ⟨⟨(-1), (), rfl, ⟨by first | omega | decide, by first | omega | decide⟩, by rw [ht]; exact hP9, va_K.moved hW.alike hK9, hD9⟩, hS.F ht⟩) hS.2.2 dJ1_indexOf_4cfef_8
def q_J0_indexOf_7cf53_2 : List Cond := .code yJ0_indexOf_7cf53 cJ0_indexOf_7cf53 3 (some .int) :: (([.code yJ0_isLatin1_aae02 cJ0_isLatin1_aae02 1 (some .boolean), .fieldLink RJ0 38 "java/lang/String" "COMPACT_STRINGS" "Z", .fieldLink RJ0 15 "java/lang/String" "coder" "B", .initialized RJ0, .instanceMethod yJ0_isLatin1_aae02, .selects RJ0 yJ0_isLatin1_aae02 yJ0_isLatin1_aae02, .methodLink RJ0 492 yJ0_isLatin1_aae02, .fieldLink RJ0 9 "java/lang/String" "value" "[B", .code yJ0_length_8abf5 cJ0_length_8abf5 1 (some .int), .code yJ0_coder_7d493 cJ0_coder_7d493 1 (some .byte), .instanceMethod yJ0_coder_7d493, .selects RJ0 yJ0_coder_7d493 yJ0_coder_7d493, .methodLink RJ0 335 yJ0_coder_7d493, .instanceMethod yJ0_length_8abf5, .selects RJ0 yJ0_length_8abf5 yJ0_length_8abf5, .methodLink RJ0 505 yJ0_length_8abf5, .code yJ1_indexOf_4cfef cJ1_indexOf_4cfef 4 (some .int), .code yJ1_canEncode_9a6ad cJ1_canEncode_9a6ad 1 (some .boolean), .initialized RJ1, .static yJ1_canEncode_9a6ad, .methodLink RJ1 88 yJ1_canEncode_9a6ad, .methodLink RJ1 92 Lib.Math.max.name, .static Lib.Math.max.name, .initialized "java/lang/Math", .code Lib.Math.max.name Lib.Math.max.code 2 (some .int), .methodLink RJ1 38 Lib.Math.min.name, .static Lib.Math.min.name, .code Lib.Math.min.name Lib.Math.min.code 2 (some .int), .code yJ1_indexOfChar_4cfef cJ1_indexOfChar_4cfef 6 (some .int), .static yJ1_indexOfChar_4cfef, .methodLink RJ1 95 yJ1_indexOfChar_4cfef, .static yJ1_indexOf_4cfef, .methodLink RJ0 637 yJ1_indexOf_4cfef] : List Cond))
set_option maxRecDepth 20000 in
theorem g_J0_indexOf_7cf53_2_0 : GoodIn q_J0_indexOf_7cf53_2 (wsV RJ0 492 RJ0 yJ0_isLatin1_aae02 q_J0_isLatin1_aae02_2) := goodIn_app (goodIn_r _ [7, 5, 6, 4] rfl (by decide +kernel)) (goodIn_r (.code yJ0_isLatin1_aae02 cJ0_isLatin1_aae02 1 (some .boolean) :: [.fieldLink RJ0 38 "java/lang/String" "COMPACT_STRINGS" "Z", .fieldLink RJ0 15 "java/lang/String" "coder" "B"]) [1, 2, 3] rfl (by decide +kernel))
set_option maxRecDepth 20000 in
theorem g_J0_indexOf_7cf53_2_1 : GoodIn q_J0_indexOf_7cf53_2 (wsV RJ0 505 RJ0 yJ0_length_8abf5 q_J0_length_8abf5_2) := goodIn_app (goodIn_r _ [16, 14, 15, 4] rfl (by decide +kernel)) (goodIn_r (.code yJ0_length_8abf5 cJ0_length_8abf5 1 (some .int) :: [.fieldLink RJ0 9 "java/lang/String" "value" "[B", .code yJ0_coder_7d493 cJ0_coder_7d493 1 (some .byte), .fieldLink RJ0 38 "java/lang/String" "COMPACT_STRINGS" "Z", .fieldLink RJ0 15 "java/lang/String" "coder" "B", .initialized RJ0, .instanceMethod yJ0_coder_7d493, .selects RJ0 yJ0_coder_7d493 yJ0_coder_7d493, .methodLink RJ0 335 yJ0_coder_7d493]) [9, 8, 10, 2, 3, 4, 11, 12, 13] rfl (by decide +kernel))
set_option maxRecDepth 20000 in
theorem g_J0_indexOf_7cf53_2_2 : GoodIn q_J0_indexOf_7cf53_2 (va_wsS RJ0 637 yJ1_indexOf_4cfef q_J1_indexOf_4cfef_2) := goodIn_app (goodIn_r _ [33, 32, 19] rfl (by decide +kernel)) (goodIn_r (.code yJ1_indexOf_4cfef cJ1_indexOf_4cfef 4 (some .int) :: [.code yJ1_canEncode_9a6ad cJ1_canEncode_9a6ad 1 (some .boolean), .initialized RJ1, .static yJ1_canEncode_9a6ad, .methodLink RJ1 88 yJ1_canEncode_9a6ad, .methodLink RJ1 92 Lib.Math.max.name, .static Lib.Math.max.name, .initialized "java/lang/Math", .code Lib.Math.max.name Lib.Math.max.code 2 (some .int), .methodLink RJ1 38 Lib.Math.min.name, .static Lib.Math.min.name, .code Lib.Math.min.name Lib.Math.min.code 2 (some .int), .code yJ1_indexOfChar_4cfef cJ1_indexOfChar_4cfef 6 (some .int), .static yJ1_indexOfChar_4cfef, .methodLink RJ1 95 yJ1_indexOfChar_4cfef]) [17, 18, 19, 20, 21, 22, 23, 24, 25, 26, 27, 28, 29, 30, 31] rfl (by decide +kernel))
set_option maxHeartbeats 4000000 in
set_option maxRecDepth 100000 in
theorem k_J0_indexOf_7cf53_2 (l : Launch) (dC : Nat → ClassId) (dI : Nat → Nat → Nat) (adK : Nat → Nat) (adV : Nat → Nat) (v0 : Int32) (sz : Nat) : Met l yJ0_indexOf_7cf53 q_J0_indexOf_7cf53_2 ({ frames := 2, cells := 0, slots := 0, locals := 48 }) (va_Pc [.ref (adK 0), .int v0, .int 0] (fun U => U.heap.size = sz ∧ va_P (dC, dI) vwCl [] U.heap ∧ va_K (dC, dI) vwCl [] U ∧ va_D (fun _ => True) [] ∧ va_Z "java/lang/String" "COMPACT_STRINGS" "Z" (.int 1) (va_A [] sz) U U.heap ∧ vk_S 3 pv_len3 pv_byt3 adK adV (va_A [] sz) U U.heap)) (va_Qi (fun (r : Int32) (_ : Unit) => -1 ≤ r.toInt ∧ r.toInt ≤ 3) (fun (_ : Unit) (t : State) => va_P (dC, dI) vwCl [] t.heap ∧ va_K (dC, dI) vwCl [] t ∧ va_D (va_A [] sz) []) (va_A [] sz)) 0 0 (va_A [] sz) := by
  refine pv_ofWF (cc := cJ0_indexOf_7cf53) (maxL := 3) (ret := (some .int)) (by decide +kernel) rfl ?_
  intro p e s m args below meth c s₁ B hml hv
  obtain ⟨rfl, hsz, hP, hK, hD0, h_st_CS, h_st_S⟩ := hv
  have hx := B.exec
  have hb := B.bytes
  have hr := B.returns
  have hts := atoms_spec (ws := q_J0_indexOf_7cf53_2) B.pre
  have hown : s.vm.findClass RJ0 = some m.cls := findClass_of_methodNamed B.named
  have hlocks := B.notSynchronized
  subst hsz
  have hD := hD0.self (sz := s.heap.size)
  generalize hAe : va_A [] s.heap.size = A at hD h_st_CS h_st_S ⊢
  have hA : ∀ q : Nat, s.heap.size ≤ q → A q := fun q h => by rw [← hAe]; exact Or.inr h
  have hS : va_S A s.heap s.heap [] := va_S.rf
  generalize hQ : (MQ below _ _ s 0 0 A) = Q
  have hl := lv_entry ([.ref (adK 0), .int v0, .int 0]) (n := 3) (Nat.le_of_ble_eq_true rfl)
  rw [lg_entry_eq]
  generalize (lg_sl ([.ref (adK 0), .int v0, .int 0]) ++ List.replicate (3 - (lg_sl ([.ref (adK 0), .int v0, .int 0])).length) Slot.unset).toArray = ls at hl ⊢
  have hl : lv_has ls 3 [(0, .ref (adK 0)), (1, .int v0), (2, .int 0)] := hl
  obtain ⟨H, hH⟩ : ∃ H : Heap, H = s.heap := ⟨_, rfl⟩
  obtain ⟨locs, hlocs⟩ : ∃ y : List Loc, y = [] := ⟨_, rfl⟩
  have hS : va_S A s.heap H locs := by rw [hH, hlocs]; exact va_S.rf
  have hP : va_P (dC, dI) vwCl [] H := by rw [hH]; exact hP
  rw [← hH, ← hlocs]
  refine lv_aload_n hx hb dJ0_indexOf_7cf53_0 rfl (lv_at hl 0 rfl) ?_
  have hPc := hP.sub (ws' := []) [] rfl
  have hDc := hD.sub (ws' := []) [] (by decide) rfl
  have hKc := hK.sub (tys' := []) [] rfl
  have hFc := va_free (wc := []) hD hS hA [] rfl
  refine va_calli (va_runV (As := []) (rest := []) ⟨hx, hb, hml, hown, hts⟩ (k_J0_isLatin1_aae02_2 l dC dI adK adV  H.size) (cwV 0 hts g_J0_indexOf_7cf53_2_0 rfl rfl rfl (by decide +kernel) ⟨Nat.le_of_ble_eq_true rfl, Nat.le_of_ble_eq_true rfl⟩) ⟨fun a U g mk q => by obtain ⟨q0, q1, qP, qK, qD, n0, n1⟩ := q; exact ⟨q0, q1, qP, va_K.moved (u := U) (U := U.calling g mk a) (Vm.Alike.refl U.vm) qK, qD, va_Z.moved (Vm.Alike.refl _) n0, vk_S.moved (Vm.Alike.refl _) n1⟩, vk_recv h_st_S (by decide : 0 < 3) hS, fun U hU hW => ⟨rfl, by rw [hU], by rw [hU]; exact hPc, va_K.moved hW.alike hKc, hDc.weaken (fun _ _ _ _ => trivial), (by rw [hU]; exact (va_Z.moved hW.alike (va_Z.kept h_st_CS hS.2.1)).narrow hFc), (by rw [hU]; exact (vk_S.moved hW.alike (vk_S.kept h_st_S hS.2.1)).narrow hFc)⟩⟩ rfl rfl hl.1 rfl (lv_room (Nat.le_of_ble_eq_true rfl)) dJ0_indexOf_7cf53_1 ⟨Nat.le_of_ble_eq_true rfl, Nat.le_of_ble_eq_true rfl⟩) hS (fun q _ h => hFc q h) hFc (fun ra1 u t H1 locs ht hvm hwra1 hB hz1 hk1 hS => ?_)
  obtain ⟨hP1, hK1, hD1⟩ := hB
  rw [ht] at hP1
  obtain ⟨hP, hD⟩ := va_join (wr := []) (w1 := []) hP hD [] [] rfl rfl (by decide) (by decide) hk1 hFc hP1 hD1
  generalize H1 = H at hP hS ⊢
  have hP : va_P (dC, dI) vwCl [] H := hP
  have hD : va_D A [] := hD
  obtain ⟨wa_ra1, wb_ra1⟩ := hwra1
  have wa_ra1 : 1 ≤ ra1.toInt := wa_ra1
  have wb_ra1 : ra1.toInt ≤ 1 := wb_ra1
  refine lv_if_eq (tgt := 23) hx hb dJ0_indexOf_7cf53_4 (by decide) (fun c2 => by exfalso; have fc2 : ra1.toInt = 0 := congrArg Int32.toInt c2; omega) (fun _ => ?_)
  refine lv_aload_n hx hb dJ0_indexOf_7cf53_7 rfl (lv_at hl 0 rfl) ?_
  refine vk_getf hx hb (h_st_S.1 0 (by decide)).2.2.1 hS hown (hts (.fieldLink RJ0 9 "java/lang/String" "value" "[B") (List.mem_cons_of_mem _ (List.mem_of_getElem? (i := 7) rfl))) (fun _ h9 => h9) dJ0_indexOf_7cf53_8 ?_
  refine lv_iload_n hx hb dJ0_indexOf_7cf53_11 rfl (lv_at hl 1 rfl) ?_
  refine lv_iload_n hx hb dJ0_indexOf_7cf53_12 rfl (lv_at hl 2 rfl) ?_
  refine lv_aload_n hx hb dJ0_indexOf_7cf53_13 rfl (lv_at hl 0 rfl) ?_
  have hPc := hP.sub (ws' := []) [] rfl
  have hDc := hD.sub (ws' := []) [] (by decide) rfl
  have hKc := hK.sub (tys' := []) [] rfl
  have hFc := va_free (wc := []) hD hS hA [] rfl
  refine va_calli (va_runV (As := []) (rest := [.int 0, .int v0, .ref (adV 0)]) ⟨hx, hb, hml, hown, hts⟩ (k_J0_length_8abf5_2 l dC dI adK adV  H.size) (cwV 0 hts g_J0_indexOf_7cf53_2_1 rfl rfl rfl (by decide +kernel) ⟨Nat.le_of_ble_eq_true rfl, Nat.le_of_ble_eq_true rfl⟩) ⟨fun a U g mk q => by obtain ⟨q0, q1, qP, qK, qD, n0, n1⟩ := q; exact ⟨q0, q1, qP, va_K.moved (u := U) (U := U.calling g mk a) (Vm.Alike.refl U.vm) qK, qD, vk_S.moved (Vm.Alike.refl _) n0, va_Z.moved (Vm.Alike.refl _) n1⟩, vk_recv h_st_S (by decide : 0 < 3) hS, fun U hU hW => ⟨rfl, by rw [hU], by rw [hU]; exact hPc, va_K.moved hW.alike hKc, hDc.weaken (fun _ _ _ _ => trivial), (by rw [hU]; exact (vk_S.moved hW.alike (vk_S.kept h_st_S hS.2.1)).narrow hFc), (by rw [hU]; exact (va_Z.moved hW.alike (va_Z.kept h_st_CS hS.2.1)).narrow hFc)⟩⟩ rfl rfl hl.1 rfl (lv_room (Nat.le_of_ble_eq_true rfl)) dJ0_indexOf_7cf53_14 ⟨Nat.le_of_ble_eq_true rfl, Nat.le_of_ble_eq_true rfl⟩) hS (fun q _ h => hFc q h) hFc (fun ra3 u t H1 locs ht hvm hwra3 hB hz1 hk1 hS => ?_)
  obtain ⟨hP1, hK1, hD1⟩ := hB
  rw [ht] at hP1
  obtain ⟨hP, hD⟩ := va_join (wr := []) (w1 := []) hP hD [] [] rfl rfl (by decide) (by decide) hk1 hFc hP1 hD1
  generalize H1 = H at hP hS ⊢
  have hP : va_P (dC, dI) vwCl [] H := hP
  have hD : va_D A [] := hD
  obtain ⟨wa_ra3, wb_ra3⟩ := hwra3
  have wa_ra3 : 4 ≤ ra3.toInt := wa_ra3
  have wb_ra3 : ra3.toInt ≤ 4 := wb_ra3
  obtain rfl : ra3 = (4 : Int32) := Int32.toInt_inj.mp (by rw [show ((4 : Int32)).toInt = 4 by decide]; omega)
  have hPc := hP.sub (ws' := []) [] rfl
  have hDc := hD.sub (ws' := []) [] (by decide) rfl
  have hKc := hK.sub (tys' := []) [] rfl
  have hFc := va_free (wc := []) hD hS hA [] rfl
  refine va_calli (va_runS (As := [.ref (adV 0), .int v0, .int 0, .int 4]) (rest := []) ⟨hx, hb, hml, hown, hts⟩ (k_J1_indexOf_4cfef_2 l dC dI adK adV v0  H.size) (va_cwS 4 hts g_J0_indexOf_7cf53_2_2 rfl rfl rfl (by decide +kernel) ⟨Nat.le_of_ble_eq_true rfl, Nat.le_of_ble_eq_true rfl⟩) ⟨fun a U g mk q => by obtain ⟨q0, q1, qP, qK, qD, n0⟩ := q; exact ⟨q0, q1, qP, va_K.moved (u := U) (U := U.calling g mk a) (Vm.Alike.refl U.vm) qK, qD, vk_S.moved (Vm.Alike.refl _) n0⟩, fun U hU hW => ⟨rfl, by rw [hU], by rw [hU]; exact hPc, va_K.moved hW.alike hKc, hDc.weaken (fun _ _ _ _ => trivial), (by rw [hU]; exact (vk_S.moved hW.alike (vk_S.kept h_st_S hS.2.1)).narrow hFc)⟩⟩ rfl rfl hl.1 rfl (lv_room (Nat.le_of_ble_eq_true rfl)) dJ0_indexOf_7cf53_17 ⟨Nat.le_of_ble_eq_true rfl, Nat.le_of_ble_eq_true rfl⟩) hS (fun q _ h => hFc q h) hFc (fun ra4 u t H1 locs ht hvm hwra4 hB hz1 hk1 hS => ?_)
  obtain ⟨hP1, hK1, hD1⟩ := hB
  rw [ht] at hP1
  obtain ⟨hP, hD⟩ := va_join (wr := []) (w1 := []) hP hD [] [] rfl rfl (by decide) (by decide) hk1 hFc hP1 hD1
  generalize H1 = H at hP hS ⊢
  have hP : va_P (dC, dI) vwCl [] H := hP
  have hD : va_D A [] := hD
  obtain ⟨wa_ra4, wb_ra4⟩ := hwra4
  have wa_ra4 : -1 ≤ ra4.toInt := wa_ra4
  have wb_ra4 : ra4.toInt ≤ 3 := wb_ra4
  refine lv_goto (tgt := 36) hx hb dJ0_indexOf_7cf53_20 (by decide) ?_
  subst hQ
  have hP9 := hP.sub (ws' := []) [] rfl
  have hD9 := hD.sub (ws' := []) [] (by decide) rfl
  have hK9 := hK.sub (tys' := []) [] rfl
  exact W.iret (v := ra4) hx hb hr (fun t ht hW => ⟨⟨ra4, (), rfl, ⟨by first | omega | decide, by first | omega | decide⟩, by rw [ht]; exact hP9, va_K.moved hW.alike hK9, hD9⟩, hS.F ht⟩) hS.2.2 dJ0_indexOf_7cf53_36
def q_J0_indexOf_0f7a4_2 : List Cond := .code yJ0_indexOf_0f7a4 cJ0_indexOf_0f7a4 2 (some .int) :: (([.code yJ0_indexOf_7cf53 cJ0_indexOf_7cf53 3 (some .int), .code yJ0_isLatin1_aae02 cJ0_isLatin1_aae02 1 (some .boolean), .fieldLink RJ0 38 "java/lang/String" "COMPACT_STRINGS" "Z", .fieldLink RJ0 15 "java/lang/String" "coder" "B", .initialized RJ0, .instanceMethod yJ0_isLatin1_aae02, .selects RJ0 yJ0_isLatin1_aae02 yJ0_isLatin1_aae02, .methodLink RJ0 492 yJ0_isLatin1_aae02, .fieldLink RJ0 9 "java/lang/String" "value" "[B", .code yJ0_length_8abf5 cJ0_length_8abf5 1 (some .int), .code yJ0_coder_7d493 cJ0_coder_7d493 1 (some .byte), .instanceMethod yJ0_coder_7d493, .selects RJ0 yJ0_coder_7d493 yJ0_coder_7d493, .methodLink RJ0 335 yJ0_coder_7d493, .instanceMethod yJ0_length_8abf5, .selects RJ0 yJ0_length_8abf5 yJ0_length_8abf5, .methodLink RJ0 505 yJ0_length_8abf5, .code yJ1_indexOf_4cfef cJ1_indexOf_4cfef 4 (some .int), .code yJ1_canEncode_9a6ad cJ1_canEncode_9a6ad 1 (some .boolean), .initialized RJ1, .static yJ1_canEncode_9a6ad, .methodLink RJ1 88 yJ1_canEncode_9a6ad, .methodLink RJ1 92 Lib.Math.max.name, .static Lib.Math.max.name, .initialized "java/lang/Math", .code Lib.Math.max.name Lib.Math.max.code 2 (some .int), .methodLink RJ1 38 Lib.Math.min.name, .static Lib.Math.min.name, .code Lib.Math.min.name Lib.Math.min.code 2 (some .int), .code yJ1_indexOfChar_4cfef cJ1_indexOfChar_4cfef 6 (some .int), .static yJ1_indexOfChar_4cfef, .methodLink RJ1 95 yJ1_indexOfChar_4cfef, .static yJ1_indexOf_4cfef, .methodLink RJ0 637 yJ1_indexOf_4cfef, .instanceMethod yJ0_indexOf_7cf53, .selects RJ0 yJ0_indexOf_7cf53 yJ0_indexOf_7cf53, .methodLink RJ0 633 yJ0_indexOf_7cf53] : List Cond))
set_option maxRecDepth 20000 in
theorem g_J0_indexOf_0f7a4_2_0 : GoodIn q_J0_indexOf_0f7a4_2 (wsV RJ0 633 RJ0 yJ0_indexOf_7cf53 q_J0_indexOf_7cf53_2) := goodIn_app (goodIn_r _ [37, 35, 36, 5] rfl (by decide +kernel)) (goodIn_r (.code yJ0_indexOf_7cf53 cJ0_indexOf_7cf53 3 (some .int) :: [.code yJ0_isLatin1_aae02 cJ0_isLatin1_aae02 1 (some .boolean), .fieldLink RJ0 38 "java/lang/String" "COMPACT_STRINGS" "Z", .fieldLink RJ0 15 "java/lang/String" "coder" "B", .initialized RJ0, .instanceMethod yJ0_isLatin1_aae02, .selects RJ0 yJ0_isLatin1_aae02 yJ0_isLatin1_aae02, .methodLink RJ0 492 yJ0_isLatin1_aae02, .fieldLink RJ0 9 "java/lang/String" "value" "[B", .code yJ0_length_8abf5 cJ0_length_8abf5 1 (some .int), .code yJ0_coder_7d493 cJ0_coder_7d493 1 (some .byte), .instanceMethod yJ0_coder_7d493, .selects RJ0 yJ0_coder_7d493 yJ0_coder_7d493, .methodLink RJ0 335 yJ0_coder_7d493, .instanceMethod yJ0_length_8abf5, .selects RJ0 yJ0_length_8abf5 yJ0_length_8abf5, .methodLink RJ0 505 yJ0_length_8abf5, .code yJ1_indexOf_4cfef cJ1_indexOf_4cfef 4 (some .int), .code yJ1_canEncode_9a6ad cJ1_canEncode_9a6ad 1 (some .boolean), .initialized RJ1, .static yJ1_canEncode_9a6ad, .methodLink RJ1 88 yJ1_canEncode_9a6ad, .methodLink RJ1 92 Lib.Math.max.name, .static Lib.Math.max.name, .initialized "java/lang/Math", .code Lib.Math.max.name Lib.Math.max.code 2 (some .int), .methodLink RJ1 38 Lib.Math.min.name, .static Lib.Math.min.name, .code Lib.Math.min.name Lib.Math.min.code 2 (some .int), .code yJ1_indexOfChar_4cfef cJ1_indexOfChar_4cfef 6 (some .int), .static yJ1_indexOfChar_4cfef, .methodLink RJ1 95 yJ1_indexOfChar_4cfef, .static yJ1_indexOf_4cfef, .methodLink RJ0 637 yJ1_indexOf_4cfef]) [1, 2, 3, 4, 5, 6, 7, 8, 9, 10, 11, 12, 13, 14, 15, 16, 17, 18, 19, 20, 21, 22, 23, 24, 25, 26, 27, 28, 29, 30, 31, 32, 33, 34] rfl (by decide +kernel))
set_option maxHeartbeats 4000000 in
set_option maxRecDepth 100000 in
theorem k_J0_indexOf_0f7a4_2 (l : Launch) (dC : Nat → ClassId) (dI : Nat → Nat → Nat) (adK : Nat → Nat) (adV : Nat → Nat) (v0 : Int32) (sz : Nat) : Met l yJ0_indexOf_0f7a4 q_J0_indexOf_0f7a4_2 ({ frames := 3, cells := 0, slots := 0, locals := 70 }) (va_Pc [.ref (adK 0), .int v0] (fun U => U.heap.size = sz ∧ va_P (dC, dI) vwCl [] U.heap ∧ va_K (dC, dI) vwCl [] U ∧ va_D (fun _ => True) [] ∧ va_Z "java/lang/String" "COMPACT_STRINGS" "Z" (.int 1) (va_A [] sz) U U.heap ∧ vk_S 3 pv_len3 pv_byt3 adK adV (va_A [] sz) U U.heap)) (va_Qi (fun (r : Int32) (_ : Unit) => -1 ≤ r.toInt ∧ r.toInt ≤ 3) (fun (_ : Unit) (t : State) => va_P (dC, dI) vwCl [] t.heap ∧ va_K (dC, dI) vwCl [] t ∧ va_D (va_A [] sz) []) (va_A [] sz)) 0 0 (va_A [] sz) := by
  refine pv_ofWF (cc := cJ0_indexOf_0f7a4) (maxL := 2) (ret := (some .int)) (by decide +kernel) rfl ?_
  intro p e s m args below meth c s₁ B hml hv
  obtain ⟨rfl, hsz, hP, hK, hD0, h_st_CS, h_st_S⟩ := hv
  have hx := B.exec
  have hb := B.bytes
  have hr := B.returns
  have hts := atoms_spec (ws := q_J0_indexOf_0f7a4_2) B.pre
  have hown : s.vm.findClass RJ0 = some m.cls := findClass_of_methodNamed B.named
  have hlocks := B.notSynchronized
  subst hsz
  have hD := hD0.self (sz := s.heap.size)
  generalize hAe : va_A [] s.heap.size = A at hD h_st_CS h_st_S ⊢
  have hA : ∀ q : Nat, s.heap.size ≤ q → A q := fun q h => by rw [← hAe]; exact Or.inr h
  have hS : va_S A s.heap s.heap [] := va_S.rf
  generalize hQ : (MQ below _ _ s 0 0 A) = Q
  have hl := lv_entry ([.ref (adK 0), .int v0]) (n := 2) (Nat.le_of_ble_eq_true rfl)
  rw [lg_entry_eq]
  generalize (lg_sl ([.ref (adK 0), .int v0]) ++ List.replicate (2 - (lg_sl ([.ref (adK 0), .int v0])).length) Slot.unset).toArray = ls at hl ⊢
  have hl : lv_has ls 2 [(0, .ref (adK 0)), (1, .int v0)] := hl
  obtain ⟨H, hH⟩ : ∃ H : Heap, H = s.heap := ⟨_, rfl⟩
  obtain ⟨locs, hlocs⟩ : ∃ y : List Loc, y = [] := ⟨_, rfl⟩
  have hS : va_S A s.heap H locs := by rw [hH, hlocs]; exact va_S.rf
  have hP : va_P (dC, dI) vwCl [] H := by rw [hH]; exact hP
  rw [← hH, ← hlocs]
  refine lv_aload_n hx hb dJ0_indexOf_0f7a4_0 rfl (lv_at hl 0 rfl) ?_
  refine lv_iload_n hx hb dJ0_indexOf_0f7a4_1 rfl (lv_at hl 1 rfl) ?_
  refine lv_iconst (v := 0) hx hb dJ0_indexOf_0f7a4_2 (by decide) ?_
  have hPc := hP.sub (ws' := []) [] rfl
  have hDc := hD.sub (ws' := []) [] (by decide) rfl
  have hKc := hK.sub (tys' := []) [] rfl
  have hFc := va_free (wc := []) hD hS hA [] rfl
  refine va_calli (va_runV (As := [.int v0, .int 0]) (rest := []) ⟨hx, hb, hml, hown, hts⟩ (k_J0_indexOf_7cf53_2 l dC dI adK adV v0  H.size) (cwV 2 hts g_J0_indexOf_0f7a4_2_0 rfl rfl rfl (by decide +kernel) ⟨Nat.le_of_ble_eq_true rfl, Nat.le_of_ble_eq_true rfl⟩) ⟨fun a U g mk q => by obtain ⟨q0, q1, qP, qK, qD, n0, n1⟩ := q; exact ⟨q0, q1, qP, va_K.moved (u := U) (U := U.calling g mk a) (Vm.Alike.refl U.vm) qK, qD, va_Z.moved (Vm.Alike.refl _) n0, vk_S.moved (Vm.Alike.refl _) n1⟩, vk_recv h_st_S (by decide : 0 < 3) hS, fun U hU hW => ⟨rfl, by rw [hU], by rw [hU]; exact hPc, va_K.moved hW.alike hKc, hDc.weaken (fun _ _ _ _ => trivial), (by rw [hU]; exact (va_Z.moved hW.alike (va_Z.kept h_st_CS hS.2.1)).narrow hFc), (by rw [hU]; exact (vk_S.moved hW.alike (vk_S.kept h_st_S hS.2.1)).narrow hFc)⟩⟩ rfl rfl hl.1 rfl (lv_room (Nat.le_of_ble_eq_true rfl)) dJ0_indexOf_0f7a4_3 ⟨Nat.le_of_ble_eq_true rfl, Nat.le_of_ble_eq_true rfl⟩) hS (fun q _ h => hFc q h) hFc (fun ra1 u t H1 locs ht hvm hwra1 hB hz1 hk1 hS => ?_)
  obtain ⟨hP1, hK1, hD1⟩ := hB
  rw [ht] at hP1
  obtain ⟨hP, hD⟩ := va_join (wr := []) (w1 := []) hP hD [] [] rfl rfl (by decide) (by decide) hk1 hFc hP1 hD1
  generalize H1 = H at hP hS ⊢
  have hP : va_P (dC, dI) vwCl [] H := hP
  have hD : va_D A [] := hD
  obtain ⟨wa_ra1, wb_ra1⟩ := hwra1
  have wa_ra1 : -1 ≤ ra1.toInt := wa_ra1
  have wb_ra1 : ra1.toInt ≤ 3 := wb_ra1
  subst hQ
  have hP9 := hP.sub (ws' := []) [] rfl
  have hD9 := hD.sub (ws' := []) [] (by decide) rfl
  have hK9 := hK.sub (tys' := []) [] rfl
  exact W.iret (v := ra1) hx hb hr (fun t ht hW => ⟨⟨ra1, (), rfl, ⟨by first | omega | decide, by first | omega | decide⟩, by rw [ht]; exact hP9, va_K.moved hW.alike hK9, hD9⟩, hS.F ht⟩) hS.2.2 dJ0_indexOf_0f7a4_6
def q_X6_readLetter_1 : List Cond := .code yX6_readLetter cX6_readLetter 4 (some .int) :: (([.fieldLink RX6 26 "LeftArguments$OfficeReader" "tape" "LLeftArguments$Tape;", .code yX10_next cX10_next 1 (some .int), .fieldLink RX10 19 "LeftArguments$Tape" "at" "I", .fieldLink RX10 15 "LeftArguments$Tape" "used" "I", .fieldLink RX10 9 "LeftArguments$Tape" "bytes" "[I", .initialized RX10, .instanceMethod yX10_next, .selects RX10 yX10_next yX10_next, .methodLink RX6 61 yX10_next, .code yJ0_indexOf_0f7a4 cJ0_indexOf_0f7a4 2 (some .int), .code yJ0_indexOf_7cf53 cJ0_indexOf_7cf53 3 (some .int), .code yJ0_isLatin1_aae02 cJ0_isLatin1_aae02 1 (some .boolean), .fieldLink RJ0 38 "java/lang/String" "COMPACT_STRINGS" "Z", .fieldLink RJ0 15 "java/lang/String" "coder" "B", .initialized RJ0, .instanceMethod yJ0_isLatin1_aae02, .selects RJ0 yJ0_isLatin1_aae02 yJ0_isLatin1_aae02, .methodLink RJ0 492 yJ0_isLatin1_aae02, .fieldLink RJ0 9 "java/lang/String" "value" "[B", .code yJ0_length_8abf5 cJ0_length_8abf5 1 (some .int), .code yJ0_coder_7d493 cJ0_coder_7d493 1 (some .byte), .instanceMethod yJ0_coder_7d493, .selects RJ0 yJ0_coder_7d493 yJ0_coder_7d493, .methodLink RJ0 335 yJ0_coder_7d493, .instanceMethod yJ0_length_8abf5, .selects RJ0 yJ0_length_8abf5 yJ0_length_8abf5, .methodLink RJ0 505 yJ0_length_8abf5, .code yJ1_indexOf_4cfef cJ1_indexOf_4cfef 4 (some .int), .code yJ1_canEncode_9a6ad cJ1_canEncode_9a6ad 1 (some .boolean), .initialized RJ1, .static yJ1_canEncode_9a6ad, .methodLink RJ1 88 yJ1_canEncode_9a6ad, .methodLink RJ1 92 Lib.Math.max.name, .static Lib.Math.max.name, .initialized "java/lang/Math", .code Lib.Math.max.name Lib.Math.max.code 2 (some .int), .methodLink RJ1 38 Lib.Math.min.name, .static Lib.Math.min.name, .code Lib.Math.min.name Lib.Math.min.code 2 (some .int), .code yJ1_indexOfChar_4cfef cJ1_indexOfChar_4cfef 6 (some .int), .static yJ1_indexOfChar_4cfef, .methodLink RJ1 95 yJ1_indexOfChar_4cfef, .static yJ1_indexOf_4cfef, .methodLink RJ0 637 yJ1_indexOf_4cfef, .instanceMethod yJ0_indexOf_7cf53, .selects RJ0 yJ0_indexOf_7cf53 yJ0_indexOf_7cf53, .methodLink RJ0 633 yJ0_indexOf_7cf53, .instanceMethod yJ0_indexOf_0f7a4, .selects RJ0 yJ0_indexOf_0f7a4 yJ0_indexOf_0f7a4, .methodLink RX6 119 yJ0_indexOf_0f7a4, .code yX10_wrongHere cX10_wrongHere 1 (some .boolean), .fieldLink RX10 22 "LeftArguments$Tape" "wrongAt" "I", .instanceMethod yX10_wrongHere, .selects RX10 yX10_wrongHere yX10_wrongHere, .methodLink RX6 93 yX10_wrongHere, .code yX10_step cX10_step 1 none, .instanceMethod yX10_step, .selects RX10 yX10_step yX10_step, .methodLink RX6 70 yX10_step] : List Cond) ++ wsX60 ++ wsX100)
set_option maxRecDepth 20000 in
theorem g_X6_readLetter_1_0 : GoodIn q_X6_readLetter_1 (wsV RX6 61 RX10 yX10_next q_X10_next) := goodIn_app (goodIn_r _ [9, 7, 8, 6] rfl (by decide +kernel)) (goodIn_ca (goodIn_r (.code yX10_next cX10_next 1 (some .int) :: [.fieldLink RX10 19 "LeftArguments$Tape" "at" "I", .fieldLink RX10 15 "LeftArguments$Tape" "used" "I", .fieldLink RX10 9 "LeftArguments$Tape" "bytes" "[I"]) [2, 3, 4, 5] rfl (by decide +kernel)) (goodIn_sub (fun _ h => List.mem_cons_of_mem _ (List.mem_append_right _ h)) gwX10))
set_option maxRecDepth 20000 in
theorem g_X6_readLetter_1_1 : GoodIn q_X6_readLetter_1 (wsV RX6 119 RJ0 yJ0_indexOf_0f7a4 q_J0_indexOf_0f7a4_2) := goodIn_app (goodIn_r _ [50, 48, 49, 15] rfl (by decide +kernel)) (goodIn_r (.code yJ0_indexOf_0f7a4 cJ0_indexOf_0f7a4 2 (some .int) :: [.code yJ0_indexOf_7cf53 cJ0_indexOf_7cf53 3 (some .int), .code yJ0_isLatin1_aae02 cJ0_isLatin1_aae02 1 (some .boolean), .fieldLink RJ0 38 "java/lang/String" "COMPACT_STRINGS" "Z", .fieldLink RJ0 15 "java/lang/String" "coder" "B", .initialized RJ0, .instanceMethod yJ0_isLatin1_aae02, .selects RJ0 yJ0_isLatin1_aae02 yJ0_isLatin1_aae02, .methodLink RJ0 492 yJ0_isLatin1_aae02, .fieldLink RJ0 9 "java/lang/String" "value" "[B", .code yJ0_length_8abf5 cJ0_length_8abf5 1 (some .int), .code yJ0_coder_7d493 cJ0_coder_7d493 1 (some .byte), .instanceMethod yJ0_coder_7d493, .selects RJ0 yJ0_coder_7d493 yJ0_coder_7d493, .methodLink RJ0 335 yJ0_coder_7d493, .instanceMethod yJ0_length_8abf5, .selects RJ0 yJ0_length_8abf5 yJ0_length_8abf5, .methodLink RJ0 505 yJ0_length_8abf5, .code yJ1_indexOf_4cfef cJ1_indexOf_4cfef 4 (some .int), .code yJ1_canEncode_9a6ad cJ1_canEncode_9a6ad 1 (some .boolean), .initialized RJ1, .static yJ1_canEncode_9a6ad, .methodLink RJ1 88 yJ1_canEncode_9a6ad, .methodLink RJ1 92 Lib.Math.max.name, .static Lib.Math.max.name, .initialized "java/lang/Math", .code Lib.Math.max.name Lib.Math.max.code 2 (some .int), .methodLink RJ1 38 Lib.Math.min.name, .static Lib.Math.min.name, .code Lib.Math.min.name Lib.Math.min.code 2 (some .int), .code yJ1_indexOfChar_4cfef cJ1_indexOfChar_4cfef 6 (some .int), .static yJ1_indexOfChar_4cfef, .methodLink RJ1 95 yJ1_indexOfChar_4cfef, .static yJ1_indexOf_4cfef, .methodLink RJ0 637 yJ1_indexOf_4cfef, .instanceMethod yJ0_indexOf_7cf53, .selects RJ0 yJ0_indexOf_7cf53 yJ0_indexOf_7cf53, .methodLink RJ0 633 yJ0_indexOf_7cf53]) [10, 11, 12, 13, 14, 15, 16, 17, 18, 19, 20, 21, 22, 23, 24, 25, 26, 27, 28, 29, 30, 31, 32, 33, 34, 35, 36, 37, 38, 39, 40, 41, 42, 43, 44, 45, 46, 47] rfl (by decide +kernel))
set_option maxRecDepth 20000 in
theorem g_X6_readLetter_1_2 : GoodIn q_X6_readLetter_1 (wsV RX6 93 RX10 yX10_wrongHere q_X10_wrongHere) := goodIn_app (goodIn_r _ [55, 53, 54, 6] rfl (by decide +kernel)) (goodIn_ca (goodIn_r (.code yX10_wrongHere cX10_wrongHere 1 (some .boolean) :: [.fieldLink RX10 19 "LeftArguments$Tape" "at" "I", .fieldLink RX10 22 "LeftArguments$Tape" "wrongAt" "I"]) [51, 3, 52] rfl (by decide +kernel)) (goodIn_sub (fun _ h => List.mem_cons_of_mem _ (List.mem_append_right _ h)) gwX10))
set_option maxRecDepth 20000 in
theorem g_X6_readLetter_1_3 : GoodIn q_X6_readLetter_1 (wsV RX6 70 RX10 yX10_step q_X10_step) := goodIn_app (goodIn_r _ [59, 57, 58, 6] rfl (by decide +kernel)) (goodIn_ca (goodIn_r (.code yX10_step cX10_step 1 none :: [.fieldLink RX10 19 "LeftArguments$Tape" "at" "I"]) [56, 3] rfl (by decide +kernel)) (goodIn_sub (fun _ h => List.mem_cons_of_mem _ (List.mem_append_right _ h)) gwX10))
set_option maxHeartbeats 4000000 in
set_option maxRecDepth 100000 in
theorem k_X6_readLetter_1 (l : Launch) (dC : Nat → ClassId) (dI : Nat → Nat → Nat) (adK : Nat → Nat) (adV : Nat → Nat) (h0 : Nat) (h1 : Nat) (h2 : Nat) (r0 : Nat) (r1 : Nat) (v0 : Int32) (v1 : Int32) (v2 : Int32) (v3 : Int32) (v4 : Int32) (v5 : Int32) (g0 : ClassId) (f6 : Nat → Int32) (v7 : Int32) (i_v0 : 0 ≤ v0.toInt ∧ v0.toInt ≤ 1) (i_v1 : 0 ≤ v1.toInt ∧ v1.toInt ≤ 8) (i_v2 : 0 ≤ v2.toInt ∧ v2.toInt ≤ 240) (sz : Nat) : Met l yX6_readLetter q_X6_readLetter_1 ({ frames := 4, cells := 0, slots := 0, locals := 91 }) (va_Pc [.ref h0, .ref (adK 0), .int v7] (fun U => U.heap.size = sz ∧ va_P (dC, dI) vwCl (wd_1b33869b h0 h1 r0 r1 v0 v1 h1 h2 v2 v3 v4 v5 h2 g0 f6) U.heap ∧ va_K (dC, dI) vwCl [(g0, .int)] U ∧ va_D (fun _ => True) (wd_1b33869b h0 h1 r0 r1 v0 v1 h1 h2 v2 v3 v4 v5 h2 g0 f6) ∧ va_Z "java/lang/String" "COMPACT_STRINGS" "Z" (.int 1) (va_A (wd_1b33869b h0 h1 r0 r1 v0 v1 h1 h2 v2 v3 v4 v5 h2 g0 f6) sz) U U.heap ∧ vk_S 3 pv_len3 pv_byt3 adK adV (va_A (wd_1b33869b h0 h1 r0 r1 v0 v1 h1 h2 v2 v3 v4 v5 h2 g0 f6) sz) U U.heap)) (va_Qi (fun (r : Int32) (_ : Unit) => -1 ≤ r.toInt ∧ r.toInt ≤ 3) (fun (_ : Unit) (t : State) => ∃ (o_h1_2 : Int32) (o_h1_3 : Int32), va_P (dC, dI) vwCl (wd_1b33869b h0 h1 r0 r1 v0 v1 h1 h2 v2 o_h1_2 o_h1_3 v5 h2 g0 f6) t.heap ∧ va_K (dC, dI) vwCl [] t ∧ va_D (va_A (wd_1b33869b h0 h1 r0 r1 v0 v1 h1 h2 v2 v3 v4 v5 h2 g0 f6) sz) (wd_1b33869b h0 h1 r0 r1 v0 v1 h1 h2 v2 o_h1_2 o_h1_3 v5 h2 g0 f6)) (va_A (wd_1b33869b h0 h1 r0 r1 v0 v1 h1 h2 v2 v3 v4 v5 h2 g0 f6) sz)) 0 0 (va_A (wd_1b33869b h0 h1 r0 r1 v0 v1 h1 h2 v2 v3 v4 v5 h2 g0 f6) sz) := by
  refine Met.ofW (cc := cX6_readLetter) (maxL := 4) (ret := (some .int)) (by decide) rfl ?_
  intro p e s m args below meth c s₁ B hml hv
  obtain ⟨i_v0a, i_v0b⟩ := i_v0
  obtain ⟨i_v1a, i_v1b⟩ := i_v1
  obtain ⟨i_v2a, i_v2b⟩ := i_v2
  obtain ⟨rfl, hsz, hP, hK, hD0, h_st_CS, h_st_S⟩ := hv
  have hx := B.exec
  have hb := B.bytes
  have hr := B.returns
  have hts := atoms_spec (ws := q_X6_readLetter_1) B.pre
  have hown : s.vm.findClass RX6 = some m.cls := findClass_of_methodNamed B.named
  have hlocks := B.notSynchronized
  subst hsz
  have hD := hD0.self (sz := s.heap.size)
  generalize hAe : va_A (wd_1b33869b h0 h1 r0 r1 v0 v1 h1 h2 v2 v3 v4 v5 h2 g0 f6) s.heap.size = A at hD h_st_CS h_st_S ⊢
  have hA : ∀ q : Nat, s.heap.size ≤ q → A q := fun q h => by rw [← hAe]; exact Or.inr h
  have hS : va_S A s.heap s.heap [] := va_S.rf
  generalize hQ : (MQ below _ _ s 0 0 A) = Q
  have hl := lv_entry ([.ref h0, .ref (adK 0), .int v7]) (n := 4) (Nat.le_of_ble_eq_true rfl)
  rw [lg_entry_eq]
  generalize (lg_sl ([.ref h0, .ref (adK 0), .int v7]) ++ List.replicate (4 - (lg_sl ([.ref h0, .ref (adK 0), .int v7])).length) Slot.unset).toArray = ls at hl ⊢
  have hl : lv_has ls 4 [(0, .ref h0), (1, .ref (adK 0)), (2, .int v7)] := hl
  obtain ⟨H, hH⟩ : ∃ H : Heap, H = s.heap := ⟨_, rfl⟩
  obtain ⟨locs, hlocs⟩ : ∃ y : List Loc, y = [] := ⟨_, rfl⟩
  have hS : va_S A s.heap H locs := by rw [hH, hlocs]; exact va_S.rf
  have hP : va_P (dC, dI) vwCl (wd_1b33869b h0 h1 r0 r1 v0 v1 h1 h2 v2 v3 v4 v5 h2 g0 f6) H := by rw [hH]; exact hP
  rw [← hH, ← hlocs]
  refine lv_aload_n hx hb dX6_readLetter_0 rfl (lv_at hl 1 rfl) ?_
  refine lv_aload_n hx hb dX6_readLetter_1 rfl (lv_at hl 0 rfl) ?_
  refine va_get (D := (dC, dI)) (ci := 6) (v := .ref h1) (C := RX6) (T := TX6) (N := 5) hx hb hts (fun _ h => List.mem_cons_of_mem _ (List.mem_append_left _ (List.mem_append_right _ h))) hown hK hP 0 rfl rfl 0 (by decide) (hts (.fieldLink RX6 26 "LeftArguments$OfficeReader" "tape" "LLeftArguments$Tape;") (List.mem_cons_of_mem _ (List.mem_append_left _ (List.mem_append_left _ (List.mem_of_getElem? (i := 0) rfl))))) (fun _ h9 => h9) rfl dX6_readLetter_2 ?_
  have hPc := hP.sub (ws' := (wd_82cdd16b h1 h2 v2 v3 v4 v5 h2 g0 f6)) [1, 2] rfl
  have hDc := hD.sub (ws' := (wd_82cdd16b h1 h2 v2 v3 v4 v5 h2 g0 f6)) [1, 2] (by decide) rfl
  have hKc := hK.sub (tys' := [(g0, .int)]) [0] rfl
  have hFc := va_free (wc := (wd_82cdd16b h1 h2 v2 v3 v4 v5 h2 g0 f6)) hD hS hA [1, 2] rfl
  refine va_calli (va_runV (As := []) (rest := [.ref (adK 0)]) ⟨hx, hb, hml, hown, hts⟩ (k_X10_next l dC dI h1 h2 v2 v3 v4 v5 g0 f6 ⟨by first | omega | decide, by first | omega | decide⟩ H.size) (cwV 0 hts g_X6_readLetter_1_0 rfl rfl rfl (by decide +kernel) ⟨Nat.le_of_ble_eq_true rfl, Nat.le_of_ble_eq_true rfl⟩) ⟨fun a U g mk q => by obtain ⟨q0, q1, qP, qK, qD⟩ := q; exact ⟨q0, q1, qP, va_K.moved (u := U) (U := U.calling g mk a) (Vm.Alike.refl U.vm) qK, qD⟩, va_recv hKc hPc (ci := 10) (q0 := 0) rfl rfl, fun U hU hW => ⟨rfl, by rw [hU], by rw [hU]; exact hPc, va_K.moved hW.alike hKc, hDc.weaken (fun _ _ _ _ => trivial)⟩⟩ rfl rfl hl.1 rfl (lv_room (Nat.le_of_ble_eq_true rfl)) dX6_readLetter_5 ⟨Nat.le_of_ble_eq_true rfl, Nat.le_of_ble_eq_true rfl⟩) hS (fun q _ h => hFc q h) hFc (fun ra1 u t H1 locs ht hvm hwra1 hB hz1 hk1 hS => ?_)
  obtain ⟨x2, hP1, hK1, hD1⟩ := hB
  rw [ht] at hP1
  obtain ⟨hP, hD⟩ := va_join (wr := (wd_ca2b0013 h0 h1 r0 r1 v0 v1)) (w1 := (wd_82cdd16b h1 h2 v2 x2 v4 v5 h2 g0 f6)) hP hD [1, 2] [0] rfl rfl (by decide) (by decide) hk1 hFc hP1 hD1
  generalize H1 = H at hP hS ⊢
  have hP : va_P (dC, dI) vwCl (wd_1b33869b h0 h1 r0 r1 v0 v1 h1 h2 v2 x2 v4 v5 h2 g0 f6) H := hP
  have hD : va_D A (wd_1b33869b h0 h1 r0 r1 v0 v1 h1 h2 v2 x2 v4 v5 h2 g0 f6) := hD
  obtain ⟨t3, et3⟩ : ∃ z : Int32, z = ((ra1 : Int32).toUInt32 % 65536).toInt32 := ⟨_, rfl⟩
  refine lv_i2c (v := t3) hx hb dX6_readLetter_8 (by rw [et3]) ?_
  have hPc := hP.sub (ws' := []) [] rfl
  have hDc := hD.sub (ws' := []) [] (by decide) rfl
  have hKc := hK.sub (tys' := []) [] rfl
  have hFc := va_free (wc := []) hD hS hA [] rfl
  refine va_calli (va_runV (As := [.int t3]) (rest := []) ⟨hx, hb, hml, hown, hts⟩ (k_J0_indexOf_0f7a4_2 l dC dI adK adV t3  H.size) (cwV 1 hts g_X6_readLetter_1_1 rfl rfl rfl (by decide +kernel) ⟨Nat.le_of_ble_eq_true rfl, Nat.le_of_ble_eq_true rfl⟩) ⟨fun a U g mk q => by obtain ⟨q0, q1, qP, qK, qD, n0, n1⟩ := q; exact ⟨q0, q1, qP, va_K.moved (u := U) (U := U.calling g mk a) (Vm.Alike.refl U.vm) qK, qD, va_Z.moved (Vm.Alike.refl _) n0, vk_S.moved (Vm.Alike.refl _) n1⟩, vk_recv h_st_S (by decide : 0 < 3) hS, fun U hU hW => ⟨rfl, by rw [hU], by rw [hU]; exact hPc, va_K.moved hW.alike hKc, hDc.weaken (fun _ _ _ _ => trivial), (by rw [hU]; exact (va_Z.moved hW.alike (va_Z.kept h_st_CS hS.2.1)).narrow hFc), (by rw [hU]; exact (vk_S.moved hW.alike (vk_S.kept h_st_S hS.2.1)).narrow hFc)⟩⟩ rfl rfl hl.1 rfl (lv_room (Nat.le_of_ble_eq_true rfl)) dX6_readLetter_9 ⟨Nat.le_of_ble_eq_true rfl, Nat.le_of_ble_eq_true rfl⟩) hS (fun q _ h => hFc q h) hFc (fun ra4 u t H1 locs ht hvm hwra4 hB hz1 hk1 hS => ?_)
  obtain ⟨hP1, hK1, hD1⟩ := hB
  rw [ht] at hP1
  obtain ⟨hP, hD⟩ := va_join (wr := (wd_1b33869b h0 h1 r0 r1 v0 v1 h1 h2 v2 x2 v4 v5 h2 g0 f6)) (w1 := []) hP hD [] [0, 1, 2] rfl rfl (by decide) (by decide) hk1 hFc hP1 hD1
  generalize H1 = H at hP hS ⊢
  have hP : va_P (dC, dI) vwCl (wd_1b33869b h0 h1 r0 r1 v0 v1 h1 h2 v2 x2 v4 v5 h2 g0 f6) H := hP
  have hD : va_D A (wd_1b33869b h0 h1 r0 r1 v0 v1 h1 h2 v2 x2 v4 v5 h2 g0 f6) := hD
  obtain ⟨wa_ra4, wb_ra4⟩ := hwra4
  have wa_ra4 : -1 ≤ ra4.toInt := wa_ra4
  have wb_ra4 : ra4.toInt ≤ 3 := wb_ra4
  refine lv_istore_n (lv' := [(3, .int ra4), (0, .ref h0), (1, .ref (adK 0)), (2, .int v7)]) hx hb dX6_readLetter_12 rfl hl (by decide) rfl (fun ls hl => ?_)
  refine lv_iload_n hx hb dX6_readLetter_13 rfl (lv_at hl 0 rfl) ?_
  refine lv_if_lt (tgt := 26) hx hb dX6_readLetter_14 (by decide) (fun c5 => ?_) (fun c5 => ?_)
  · skip
    have fc5 : ra4.toInt < 0 := Int32.lt_iff_toInt_lt.mp c5
    refine lv_aload_n hx hb dX6_readLetter_26 rfl (lv_at hl 1 rfl) ?_
    refine va_get (D := (dC, dI)) (ci := 6) (v := .ref h1) (C := RX6) (T := TX6) (N := 5) hx hb hts (fun _ h => List.mem_cons_of_mem _ (List.mem_append_left _ (List.mem_append_right _ h))) hown hK hP 0 rfl rfl 0 (by decide) (hts (.fieldLink RX6 26 "LeftArguments$OfficeReader" "tape" "LLeftArguments$Tape;") (List.mem_cons_of_mem _ (List.mem_append_left _ (List.mem_append_left _ (List.mem_of_getElem? (i := 0) rfl))))) (fun _ h9 => h9) rfl dX6_readLetter_27 ?_
    have hPc := hP.sub (ws' := (wd_09b0abee h1 h2 v2 x2 v4 v5)) [1] rfl
    have hDc := hD.sub (ws' := (wd_09b0abee h1 h2 v2 x2 v4 v5)) [1] (by decide) rfl
    have hKc := hK.sub (tys' := []) [] rfl
    have hFc := va_free (wc := (wd_09b0abee h1 h2 v2 x2 v4 v5)) hD hS hA [1] rfl
    refine va_calli (va_runV (As := []) (rest := []) ⟨hx, hb, hml, hown, hts⟩ (k_X10_wrongHere l dC dI h1 h2 v2 x2 v4 v5 ⟨by first | omega | decide, by first | omega | decide⟩ H.size) (cwV 0 hts g_X6_readLetter_1_2 rfl rfl rfl (by decide +kernel) ⟨Nat.le_of_ble_eq_true rfl, Nat.le_of_ble_eq_true rfl⟩) ⟨fun a U g mk q => by obtain ⟨q0, q1, qP, qK, qD⟩ := q; exact ⟨q0, q1, qP, va_K.moved (u := U) (U := U.calling g mk a) (Vm.Alike.refl U.vm) qK, qD⟩, va_recv hKc hPc (ci := 10) (q0 := 0) rfl rfl, fun U hU hW => ⟨rfl, by rw [hU], by rw [hU]; exact hPc, va_K.moved hW.alike hKc, hDc.weaken (fun _ _ _ _ => trivial)⟩⟩ rfl rfl hl.1 rfl (lv_room (Nat.le_of_ble_eq_true rfl)) dX6_readLetter_30 ⟨Nat.le_of_ble_eq_true rfl, Nat.le_of_ble_eq_true rfl⟩) hS (fun q _ h => hFc q h) hFc (fun ra6 u t H1 locs ht hvm hwra6 hB hz1 hk1 hS => ?_)
    obtain ⟨x7, hP1, hK1, hD1⟩ := hB
    rw [ht] at hP1
    obtain ⟨hP, hD⟩ := va_join (wr := (wd_5ddcf59f h0 h1 r0 r1 v0 v1 h2 g0 f6)) (w1 := (wd_09b0abee h1 h2 v2 x2 x7 v5)) hP hD [1] [0, 2] rfl rfl (by decide) (by decide) hk1 hFc hP1 hD1
    generalize H1 = H at hP hS ⊢
    have hP := hP.sub (ws' := (wd_1b33869b h0 h1 r0 r1 v0 v1 h1 h2 v2 x2 x7 v5 h2 g0 f6)) [0, 2, 1] rfl
    have hD := hD.sub (ws' := (wd_1b33869b h0 h1 r0 r1 v0 v1 h1 h2 v2 x2 x7 v5 h2 g0 f6)) [0, 2, 1] (by decide) rfl
    have hP : va_P (dC, dI) vwCl (wd_1b33869b h0 h1 r0 r1 v0 v1 h1 h2 v2 x2 x7 v5 h2 g0 f6) H := hP
    have hD : va_D A (wd_1b33869b h0 h1 r0 r1 v0 v1 h1 h2 v2 x2 x7 v5 h2 g0 f6) := hD
    obtain ⟨wa_ra6, wb_ra6⟩ := hwra6
    have wa_ra6 : 0 ≤ ra6.toInt := wa_ra6
    have wb_ra6 : ra6.toInt ≤ 0 := wb_ra6
    refine lv_pop hx hb dX6_readLetter_33 rfl ?_
    refine lv_iconst (v := (-1)) hx hb dX6_readLetter_34 (by decide) ?_
    subst hQ
    have hP9 := hP.sub (ws' := (wd_1b33869b h0 h1 r0 r1 v0 v1 h1 h2 v2 x2 x7 v5 h2 g0 f6)) [0, 1, 2] rfl
    have hD9 := hD.sub (ws' := (wd_1b33869b h0 h1 r0 r1 v0 v1 h1 h2 v2 x2 x7 v5 h2 g0 f6)) [0, 1, 2] (by decide) rfl
    have hK9 := hK.sub (tys' := []) [] rfl
    exact W.iret (v := (-1)) hx hb hr (fun t ht hW => ⟨⟨(-1), (), rfl, ⟨by first | omega | decide, by first | omega | decide⟩, x2, x7, by rw [ht]; exact hP9, va_K.moved hW.alike hK9, hD9⟩, hS.F ht⟩) hS.2.2 dX6_readLetter_35
  · skip
    have fc5 : ¬ (ra4.toInt < 0) := fun h9 => c5 (Int32.lt_iff_toInt_lt.mpr h9)
    refine lv_iload_n hx hb dX6_readLetter_17 rfl (lv_at hl 3 rfl) ?_
    refine lv_iload_n hx hb dX6_readLetter_18 rfl (lv_at hl 0 rfl) ?_
    refine lv_ishr hx hb dX6_readLetter_19 ?_
    refine lv_topi (fun t8 et8 => ?_)
    refine lv_iconst (v := 1) hx hb dX6_readLetter_20 (by decide) ?_
    refine lv_iand hx hb dX6_readLetter_21 ?_
    refine lv_topi (fun t9 et9 => ?_)
    have gt9 : 0 ≤ t9.toInt ∧ t9.toInt ≤ 1 := pv_andR et9 (by decide) (by decide)
    refine lv_iconst (v := 1) hx hb dX6_readLetter_22 (by decide) ?_
    refine lv_icmp_ne (tgt := 36) hx hb dX6_readLetter_23 (by decide) (fun c10 => ?_) (fun c10 => ?_)
    · skip
      have fc10 : ¬ (t9.toInt = 1) := fun h9 => c10 (Int32.toInt_inj.mp h9)
      refine lv_aload_n hx hb dX6_readLetter_36 rfl (lv_at hl 1 rfl) ?_
      refine va_get (D := (dC, dI)) (ci := 6) (v := .ref h1) (C := RX6) (T := TX6) (N := 5) hx hb hts (fun _ h => List.mem_cons_of_mem _ (List.mem_append_left _ (List.mem_append_right _ h))) hown hK hP 0 rfl rfl 0 (by decide) (hts (.fieldLink RX6 26 "LeftArguments$OfficeReader" "tape" "LLeftArguments$Tape;") (List.mem_cons_of_mem _ (List.mem_append_left _ (List.mem_append_left _ (List.mem_of_getElem? (i := 0) rfl))))) (fun _ h9 => h9) rfl dX6_readLetter_37 ?_
      have hPc := hP.sub (ws' := (wd_09b0abee h1 h2 v2 x2 v4 v5)) [1] rfl
      have hDc := hD.sub (ws' := (wd_09b0abee h1 h2 v2 x2 v4 v5)) [1] (by decide) rfl
      have hKc := hK.sub (tys' := []) [] rfl
      have hFc := va_free (wc := (wd_09b0abee h1 h2 v2 x2 v4 v5)) hD hS hA [1] rfl
      refine va_callv (va_runV (As := []) (rest := []) ⟨hx, hb, hml, hown, hts⟩ (k_X10_step l dC dI h1 h2 v2 x2 v4 v5 ⟨by first | omega | decide, by first | omega | decide⟩ H.size) (cwV 0 hts g_X6_readLetter_1_3 rfl rfl rfl (by decide +kernel) ⟨Nat.le_of_ble_eq_true rfl, Nat.le_of_ble_eq_true rfl⟩) ⟨fun a U g mk q => by obtain ⟨q0, q1, qP, qK, qD⟩ := q; exact ⟨q0, q1, qP, va_K.moved (u := U) (U := U.calling g mk a) (Vm.Alike.refl U.vm) qK, qD⟩, va_recv hKc hPc (ci := 10) (q0 := 0) rfl rfl, fun U hU hW => ⟨rfl, by rw [hU], by rw [hU]; exact hPc, va_K.moved hW.alike hKc, hDc.weaken (fun _ _ _ _ => trivial)⟩⟩ rfl rfl hl.1 rfl (lv_room (Nat.le_of_ble_eq_true rfl)) dX6_readLetter_40 ⟨Nat.le_of_ble_eq_true rfl, Nat.le_of_ble_eq_true rfl⟩) hS (fun q _ h => hFc q h) hFc (fun u t H1 locs ht hvm hwra11 hB hz1 hk1 hS => ?_)
      obtain ⟨x12, hP1, hK1, hD1⟩ := hB
      rw [ht] at hP1
      obtain ⟨hP, hD⟩ := va_join (wr := (wd_5ddcf59f h0 h1 r0 r1 v0 v1 h2 g0 f6)) (w1 := (wd_09b0abee h1 h2 v2 x12 v4 v5)) hP hD [1] [0, 2] rfl rfl (by decide) (by decide) hk1 hFc hP1 hD1
      generalize H1 = H at hP hS ⊢
      have hP := hP.sub (ws' := (wd_1b33869b h0 h1 r0 r1 v0 v1 h1 h2 v2 x12 v4 v5 h2 g0 f6)) [0, 2, 1] rfl
      have hD := hD.sub (ws' := (wd_1b33869b h0 h1 r0 r1 v0 v1 h1 h2 v2 x12 v4 v5 h2 g0 f6)) [0, 2, 1] (by decide) rfl
      have hP : va_P (dC, dI) vwCl (wd_1b33869b h0 h1 r0 r1 v0 v1 h1 h2 v2 x12 v4 v5 h2 g0 f6) H := hP
      have hD : va_D A (wd_1b33869b h0 h1 r0 r1 v0 v1 h1 h2 v2 x12 v4 v5 h2 g0 f6) := hD
      refine lv_iload_n hx hb dX6_readLetter_43 rfl (lv_at hl 0 rfl) ?_
      subst hQ
      have hP9 := hP.sub (ws' := (wd_1b33869b h0 h1 r0 r1 v0 v1 h1 h2 v2 x12 v4 v5 h2 g0 f6)) [0, 1, 2] rfl
      have hD9 := hD.sub (ws' := (wd_1b33869b h0 h1 r0 r1 v0 v1 h1 h2 v2 x12 v4 v5 h2 g0 f6)) [0, 1, 2] (by decide) rfl
      have hK9 := hK.sub (tys' := []) [] rfl
      exact W.iret (v := ra4) hx hb hr (fun t ht hW => ⟨⟨ra4, (), rfl, ⟨by first | omega | decide, by first | omega | decide⟩, x12, v4, by rw [ht]; exact hP9, va_K.moved hW.alike hK9, hD9⟩, hS.F ht⟩) hS.2.2 dX6_readLetter_44
    · skip
      have fc10 : t9.toInt = 1 := congrArg Int32.toInt c10
      refine lv_aload_n hx hb dX6_readLetter_26 rfl (lv_at hl 1 rfl) ?_
      refine va_get (D := (dC, dI)) (ci := 6) (v := .ref h1) (C := RX6) (T := TX6) (N := 5) hx hb hts (fun _ h => List.mem_cons_of_mem _ (List.mem_append_left _ (List.mem_append_right _ h))) hown hK hP 0 rfl rfl 0 (by decide) (hts (.fieldLink RX6 26 "LeftArguments$OfficeReader" "tape" "LLeftArguments$Tape;") (List.mem_cons_of_mem _ (List.mem_append_left _ (List.mem_append_left _ (List.mem_of_getElem? (i := 0) rfl))))) (fun _ h9 => h9) rfl dX6_readLetter_27 ?_
      have hPc := hP.sub (ws' := (wd_09b0abee h1 h2 v2 x2 v4 v5)) [1] rfl
      have hDc := hD.sub (ws' := (wd_09b0abee h1 h2 v2 x2 v4 v5)) [1] (by decide) rfl
      have hKc := hK.sub (tys' := []) [] rfl
      have hFc := va_free (wc := (wd_09b0abee h1 h2 v2 x2 v4 v5)) hD hS hA [1] rfl
      refine va_calli (va_runV (As := []) (rest := []) ⟨hx, hb, hml, hown, hts⟩ (k_X10_wrongHere l dC dI h1 h2 v2 x2 v4 v5 ⟨by first | omega | decide, by first | omega | decide⟩ H.size) (cwV 0 hts g_X6_readLetter_1_2 rfl rfl rfl (by decide +kernel) ⟨Nat.le_of_ble_eq_true rfl, Nat.le_of_ble_eq_true rfl⟩) ⟨fun a U g mk q => by obtain ⟨q0, q1, qP, qK, qD⟩ := q; exact ⟨q0, q1, qP, va_K.moved (u := U) (U := U.calling g mk a) (Vm.Alike.refl U.vm) qK, qD⟩, va_recv hKc hPc (ci := 10) (q0 := 0) rfl rfl, fun U hU hW => ⟨rfl, by rw [hU], by rw [hU]; exact hPc, va_K.moved hW.alike hKc, hDc.weaken (fun _ _ _ _ => trivial)⟩⟩ rfl rfl hl.1 rfl (lv_room (Nat.le_of_ble_eq_true rfl)) dX6_readLetter_30 ⟨Nat.le_of_ble_eq_true rfl, Nat.le_of_ble_eq_true rfl⟩) hS (fun q _ h => hFc q h) hFc (fun ra13 u t H1 locs ht hvm hwra13 hB hz1 hk1 hS => ?_)
      obtain ⟨x14, hP1, hK1, hD1⟩ := hB
      rw [ht] at hP1
      obtain ⟨hP, hD⟩ := va_join (wr := (wd_5ddcf59f h0 h1 r0 r1 v0 v1 h2 g0 f6)) (w1 := (wd_09b0abee h1 h2 v2 x2 x14 v5)) hP hD [1] [0, 2] rfl rfl (by decide) (by decide) hk1 hFc hP1 hD1
      generalize H1 = H at hP hS ⊢
      have hP := hP.sub (ws' := (wd_1b33869b h0 h1 r0 r1 v0 v1 h1 h2 v2 x2 x14 v5 h2 g0 f6)) [0, 2, 1] rfl
      have hD := hD.sub (ws' := (wd_1b33869b h0 h1 r0 r1 v0 v1 h1 h2 v2 x2 x14 v5 h2 g0 f6)) [0, 2, 1] (by decide) rfl
      have hP : va_P (dC, dI) vwCl (wd_1b33869b h0 h1 r0 r1 v0 v1 h1 h2 v2 x2 x14 v5 h2 g0 f6) H := hP
      have hD : va_D A (wd_1b33869b h0 h1 r0 r1 v0 v1 h1 h2 v2 x2 x14 v5 h2 g0 f6) := hD
      obtain ⟨wa_ra13, wb_ra13⟩ := hwra13
      have wa_ra13 : 0 ≤ ra13.toInt := wa_ra13
      have wb_ra13 : ra13.toInt ≤ 0 := wb_ra13
      refine lv_pop hx hb dX6_readLetter_33 rfl ?_
      refine lv_iconst (v := (-1)) hx hb dX6_readLetter_34 (by decide) ?_
      subst hQ
      have hP9 := hP.sub (ws' := (wd_1b33869b h0 h1 r0 r1 v0 v1 h1 h2 v2 x2 x14 v5 h2 g0 f6)) [0, 1, 2] rfl
      have hD9 := hD.sub (ws' := (wd_1b33869b h0 h1 r0 r1 v0 v1 h1 h2 v2 x2 x14 v5 h2 g0 f6)) [0, 1, 2] (by decide) rfl
      have hK9 := hK.sub (tys' := []) [] rfl
      exact W.iret (v := (-1)) hx hb hr (fun t ht hW => ⟨⟨(-1), (), rfl, ⟨by first | omega | decide, by first | omega | decide⟩, x2, x14, by rw [ht]; exact hP9, va_K.moved hW.alike hK9, hD9⟩, hS.F ht⟩) hS.2.2 dX6_readLetter_35
def q_X6_readItems_1 : List Cond := .code yX6_readItems cX6_readItems 9 (some .boolean) :: (([.code yJ0_length_8abf5 cJ0_length_8abf5 1 (some .int), .fieldLink RJ0 9 "java/lang/String" "value" "[B", .code yJ0_coder_7d493 cJ0_coder_7d493 1 (some .byte), .fieldLink RJ0 38 "java/lang/String" "COMPACT_STRINGS" "Z", .fieldLink RJ0 15 "java/lang/String" "coder" "B", .initialized RJ0, .instanceMethod yJ0_coder_7d493, .selects RJ0 yJ0_coder_7d493 yJ0_coder_7d493, .methodLink RJ0 335 yJ0_coder_7d493, .instanceMethod yJ0_length_8abf5, .selects RJ0 yJ0_length_8abf5 yJ0_length_8abf5, .methodLink RX6 96 yJ0_length_8abf5, .code yX6_atClauseEnd cX6_atClauseEnd 2 (some .boolean), .fieldLink RX6 26 "LeftArguments$OfficeReader" "tape" "LLeftArguments$Tape;", .code yX10_next cX10_next 1 (some .int), .fieldLink RX10 19 "LeftArguments$Tape" "at" "I", .fieldLink RX10 15 "LeftArguments$Tape" "used" "I", .fieldLink RX10 9 "LeftArguments$Tape" "bytes" "[I", .initialized RX10, .instanceMethod yX10_next, .selects RX10 yX10_next yX10_next, .methodLink RX6 61 yX10_next, .initialized RX6, .instanceMethod yX6_atClauseEnd, .selects RX6 yX6_atClauseEnd yX6_atClauseEnd, .methodLink RX6 101 yX6_atClauseEnd, .code yX6_readLetter cX6_readLetter 4 (some .int), .code yJ0_indexOf_0f7a4 cJ0_indexOf_0f7a4 2 (some .int), .code yJ0_indexOf_7cf53 cJ0_indexOf_7cf53 3 (some .int), .code yJ0_isLatin1_aae02 cJ0_isLatin1_aae02 1 (some .boolean), .instanceMethod yJ0_isLatin1_aae02, .selects RJ0 yJ0_isLatin1_aae02 yJ0_isLatin1_aae02, .methodLink RJ0 492 yJ0_isLatin1_aae02, .methodLink RJ0 505 yJ0_length_8abf5, .code yJ1_indexOf_4cfef cJ1_indexOf_4cfef 4 (some .int), .code yJ1_canEncode_9a6ad cJ1_canEncode_9a6ad 1 (some .boolean), .initialized RJ1, .static yJ1_canEncode_9a6ad, .methodLink RJ1 88 yJ1_canEncode_9a6ad, .methodLink RJ1 92 Lib.Math.max.name, .static Lib.Math.max.name, .initialized "java/lang/Math", .code Lib.Math.max.name Lib.Math.max.code 2 (some .int), .methodLink RJ1 38 Lib.Math.min.name, .static Lib.Math.min.name, .code Lib.Math.min.name Lib.Math.min.code 2 (some .int), .code yJ1_indexOfChar_4cfef cJ1_indexOfChar_4cfef 6 (some .int), .static yJ1_indexOfChar_4cfef, .methodLink RJ1 95 yJ1_indexOfChar_4cfef, .static yJ1_indexOf_4cfef, .methodLink RJ0 637 yJ1_indexOf_4cfef, .instanceMethod yJ0_indexOf_7cf53, .selects RJ0 yJ0_indexOf_7cf53 yJ0_indexOf_7cf53, .methodLink RJ0 633 yJ0_indexOf_7cf53, .instanceMethod yJ0_indexOf_0f7a4, .selects RJ0 yJ0_indexOf_0f7a4 yJ0_indexOf_0f7a4, .methodLink RX6 119 yJ0_indexOf_0f7a4, .code yX10_wrongHere cX10_wrongHere 1 (some .boolean), .fieldLink RX10 22 "LeftArguments$Tape" "wrongAt" "I", .instanceMethod yX10_wrongHere, .selects RX10 yX10_wrongHere yX10_wrongHere, .methodLink RX6 93 yX10_wrongHere, .code yX10_step cX10_step 1 none, .instanceMethod yX10_step, .selects RX10 yX10_step yX10_step, .methodLink RX6 70 yX10_step, .instanceMethod yX6_readLetter, .selects RX6 yX6_readLetter yX6_readLetter, .methodLink RX6 104 yX6_readLetter, .code yX10_takeNumber cX10_takeNumber 3 (some .boolean), .methodLink RX10 37 yX10_next, .code yX10_isDigit cX10_isDigit 1 (some .boolean), .static yX10_isDigit, .methodLink RX10 45 yX10_isDigit, .fieldLink RX10 25 "LeftArguments$Tape" "number" "I", .code yX10_sign cX10_sign 1 (some .int), .instanceMethod yX10_sign, .selects RX10 yX10_sign yX10_sign, .methodLink RX10 49 yX10_sign, .methodLink RX10 41 yX10_wrongHere, .instanceMethod yX10_takeNumber, .selects RX10 yX10_takeNumber yX10_takeNumber, .methodLink RX6 108 yX10_takeNumber, .code yX10_numberWithin cX10_numberWithin 3 (some .boolean), .code yX11_within cX11_within 3 (some .boolean), .initialized RX11, .static yX11_within, .code yX10_wrong cX10_wrong 2 (some .boolean), .instanceMethod yX10_wrong, .selects RX10 yX10_wrong yX10_wrong, .methodLink RX10 56 yX10_wrong, .instanceMethod yX10_numberWithin, .selects RX10 yX10_numberWithin yX10_numberWithin, .methodLink RX6 112 yX10_numberWithin, .code yX10_number cX10_number 1 (some .int), .instanceMethod yX10_number, .selects RX10 yX10_number yX10_number, .methodLink RX6 116 yX10_number] : List Cond) ++ wsX60 ++ wsX100)
set_option maxRecDepth 20000 in
theorem g_X6_readItems_1_0 : GoodIn q_X6_readItems_1 (wsV RX6 96 RJ0 yJ0_length_8abf5 q_J0_length_8abf5_2) := goodIn_app (goodIn_r _ [12, 10, 11, 6] rfl (by decide +kernel)) (goodIn_r (.code yJ0_length_8abf5 cJ0_length_8abf5 1 (some .int) :: [.fieldLink RJ0 9 "java/lang/String" "value" "[B", .code yJ0_coder_7d493 cJ0_coder_7d493 1 (some .byte), .fieldLink RJ0 38 "java/lang/String" "COMPACT_STRINGS" "Z", .fieldLink RJ0 15 "java/lang/String" "coder" "B", .initialized RJ0, .instanceMethod yJ0_coder_7d493, .selects RJ0 yJ0_coder_7d493 yJ0_coder_7d493, .methodLink RJ0 335 yJ0_coder_7d493]) [1, 2, 3, 4, 5, 6, 7, 8, 9] rfl (by decide +kernel))
set_option maxRecDepth 20000 in
theorem g_X6_readItems_1_1 : GoodIn q_X6_readItems_1 (wsV RX6 101 RX6 yX6_atClauseEnd q_X6_atClauseEnd) := goodIn_app (goodIn_r _ [26, 24, 25, 23] rfl (by decide +kernel)) (goodIn_ca (goodIn_ca (goodIn_r (.code yX6_atClauseEnd cX6_atClauseEnd 2 (some .boolean) :: [.fieldLink RX6 26 "LeftArguments$OfficeReader" "tape" "LLeftArguments$Tape;", .code yX10_next cX10_next 1 (some .int), .fieldLink RX10 19 "LeftArguments$Tape" "at" "I", .fieldLink RX10 15 "LeftArguments$Tape" "used" "I", .fieldLink RX10 9 "LeftArguments$Tape" "bytes" "[I", .initialized RX10, .instanceMethod yX10_next, .selects RX10 yX10_next yX10_next, .methodLink RX6 61 yX10_next]) [13, 14, 15, 16, 17, 18, 19, 20, 21, 22] rfl (by decide +kernel)) (goodIn_sub (fun _ h => List.mem_cons_of_mem _ (List.mem_append_left _ (List.mem_append_right _ h))) gwX6)) (goodIn_sub (fun _ h => List.mem_cons_of_mem _ (List.mem_append_right _ h)) gwX10))
set_option maxRecDepth 20000 in
theorem g_X6_readItems_1_2 : GoodIn q_X6_readItems_1 (wsV RX6 104 RX6 yX6_readLetter q_X6_readLetter_1) := goodIn_app (goodIn_r _ [69, 67, 68, 23] rfl (by decide +kernel)) (goodIn_ca (goodIn_ca (goodIn_r (.code yX6_readLetter cX6_readLetter 4 (some .int) :: [.fieldLink RX6 26 "LeftArguments$OfficeReader" "tape" "LLeftArguments$Tape;", .code yX10_next cX10_next 1 (some .int), .fieldLink RX10 19 "LeftArguments$Tape" "at" "I", .fieldLink RX10 15 "LeftArguments$Tape" "used" "I", .fieldLink RX10 9 "LeftArguments$Tape" "bytes" "[I", .initialized RX10, .instanceMethod yX10_next, .selects RX10 yX10_next yX10_next, .methodLink RX6 61 yX10_next, .code yJ0_indexOf_0f7a4 cJ0_indexOf_0f7a4 2 (some .int), .code yJ0_indexOf_7cf53 cJ0_indexOf_7cf53 3 (some .int), .code yJ0_isLatin1_aae02 cJ0_isLatin1_aae02 1 (some .boolean), .fieldLink RJ0 38 "java/lang/String" "COMPACT_STRINGS" "Z", .fieldLink RJ0 15 "java/lang/String" "coder" "B", .initialized RJ0, .instanceMethod yJ0_isLatin1_aae02, .selects RJ0 yJ0_isLatin1_aae02 yJ0_isLatin1_aae02, .methodLink RJ0 492 yJ0_isLatin1_aae02, .fieldLink RJ0 9 "java/lang/String" "value" "[B", .code yJ0_length_8abf5 cJ0_length_8abf5 1 (some .int), .code yJ0_coder_7d493 cJ0_coder_7d493 1 (some .byte), .instanceMethod yJ0_coder_7d493, .selects RJ0 yJ0_coder_7d493 yJ0_coder_7d493, .methodLink RJ0 335 yJ0_coder_7d493, .instanceMethod yJ0_length_8abf5, .selects RJ0 yJ0_length_8abf5 yJ0_length_8abf5, .methodLink RJ0 505 yJ0_length_8abf5, .code yJ1_indexOf_4cfef cJ1_indexOf_4cfef 4 (some .int), .code yJ1_canEncode_9a6ad cJ1_canEncode_9a6ad 1 (some .boolean), .initialized RJ1, .static yJ1_canEncode_9a6ad, .methodLink RJ1 88 yJ1_canEncode_9a6ad, .methodLink RJ1 92 Lib.Math.max.name, .static Lib.Math.max.name, .initialized "java/lang/Math", .code Lib.Math.max.name Lib.Math.max.code 2 (some .int), .methodLink RJ1 38 Lib.Math.min.name, .static Lib.Math.min.name, .code Lib.Math.min.name Lib.Math.min.code 2 (some .int), .code yJ1_indexOfChar_4cfef cJ1_indexOfChar_4cfef 6 (some .int), .static yJ1_indexOfChar_4cfef, .methodLink RJ1 95 yJ1_indexOfChar_4cfef, .static yJ1_indexOf_4cfef, .methodLink RJ0 637 yJ1_indexOf_4cfef, .instanceMethod yJ0_indexOf_7cf53, .selects RJ0 yJ0_indexOf_7cf53 yJ0_indexOf_7cf53, .methodLink RJ0 633 yJ0_indexOf_7cf53, .instanceMethod yJ0_indexOf_0f7a4, .selects RJ0 yJ0_indexOf_0f7a4 yJ0_indexOf_0f7a4, .methodLink RX6 119 yJ0_indexOf_0f7a4, .code yX10_wrongHere cX10_wrongHere 1 (some .boolean), .fieldLink RX10 22 "LeftArguments$Tape" "wrongAt" "I", .instanceMethod yX10_wrongHere, .selects RX10 yX10_wrongHere yX10_wrongHere, .methodLink RX6 93 yX10_wrongHere, .code yX10_step cX10_step 1 none, .instanceMethod yX10_step, .selects RX10 yX10_step yX10_step, .methodLink RX6 70 yX10_step]) [27, 14, 15, 16, 17, 18, 19, 20, 21, 22, 28, 29, 30, 4, 5, 6, 31, 32, 33, 2, 1, 3, 7, 8, 9, 10, 11, 34, 35, 36, 37, 38, 39, 40, 41, 42, 43, 44, 45, 46, 47, 48, 49, 50, 51, 52, 53, 54, 55, 56, 57, 58, 59, 60, 61, 62, 63, 64, 65, 66] rfl (by decide +kernel)) (goodIn_sub (fun _ h => List.mem_cons_of_mem _ (List.mem_append_left _ (List.mem_append_right _ h))) gwX6)) (goodIn_sub (fun _ h => List.mem_cons_of_mem _ (List.mem_append_right _ h)) gwX10))
set_option maxRecDepth 20000 in
theorem g_X6_readItems_1_3 : GoodIn q_X6_readItems_1 (wsV RX6 108 RX10 yX10_takeNumber q_X10_takeNumber) := goodIn_app (goodIn_r _ [83, 81, 82, 19] rfl (by decide +kernel)) (goodIn_ca (goodIn_r (.code yX10_takeNumber cX10_takeNumber 3 (some .boolean) :: [.code yX10_next cX10_next 1 (some .int), .fieldLink RX10 19 "LeftArguments$Tape" "at" "I", .fieldLink RX10 15 "LeftArguments$Tape" "used" "I", .fieldLink RX10 9 "LeftArguments$Tape" "bytes" "[I", .initialized RX10, .instanceMethod yX10_next, .selects RX10 yX10_next yX10_next, .methodLink RX10 37 yX10_next, .code yX10_isDigit cX10_isDigit 1 (some .boolean), .static yX10_isDigit, .methodLink RX10 45 yX10_isDigit, .fieldLink RX10 25 "LeftArguments$Tape" "number" "I", .code yX10_sign cX10_sign 1 (some .int), .instanceMethod yX10_sign, .selects RX10 yX10_sign yX10_sign, .methodLink RX10 49 yX10_sign, .code yX10_wrongHere cX10_wrongHere 1 (some .boolean), .fieldLink RX10 22 "LeftArguments$Tape" "wrongAt" "I", .instanceMethod yX10_wrongHere, .selects RX10 yX10_wrongHere yX10_wrongHere, .methodLink RX10 41 yX10_wrongHere]) [70, 15, 16, 17, 18, 19, 20, 21, 71, 72, 73, 74, 75, 76, 77, 78, 79, 58, 59, 60, 61, 80] rfl (by decide +kernel)) (goodIn_sub (fun _ h => List.mem_cons_of_mem _ (List.mem_append_right _ h)) gwX10))
set_option maxRecDepth 20000 in
theorem g_X6_readItems_1_4 : GoodIn q_X6_readItems_1 (wsV RX6 112 RX10 yX10_numberWithin q_X10_numberWithin) := goodIn_app (goodIn_r _ [94, 92, 93, 19] rfl (by decide +kernel)) (goodIn_ca (goodIn_r (.code yX10_numberWithin cX10_numberWithin 3 (some .boolean) :: [.fieldLink RX10 25 "LeftArguments$Tape" "number" "I", .code yX11_within cX11_within 3 (some .boolean), .initialized RX11, .static yX11_within, .fieldLink RX10 19 "LeftArguments$Tape" "at" "I", .code yX10_wrong cX10_wrong 2 (some .boolean), .fieldLink RX10 22 "LeftArguments$Tape" "wrongAt" "I", .initialized RX10, .instanceMethod yX10_wrong, .selects RX10 yX10_wrong yX10_wrong, .methodLink RX10 56 yX10_wrong]) [84, 75, 85, 86, 87, 16, 88, 59, 19, 89, 90, 91] rfl (by decide +kernel)) (goodIn_sub (fun _ h => List.mem_cons_of_mem _ (List.mem_append_right _ h)) gwX10))
set_option maxRecDepth 20000 in
theorem g_X6_readItems_1_5 : GoodIn q_X6_readItems_1 (wsV RX6 116 RX10 yX10_number q_X10_number) := goodIn_app (goodIn_r _ [98, 96, 97, 19] rfl (by decide +kernel)) (goodIn_ca (goodIn_r (.code yX10_number cX10_number 1 (some .int) :: [.fieldLink RX10 25 "LeftArguments$Tape" "number" "I"]) [95, 75] rfl (by decide +kernel)) (goodIn_sub (fun _ h => List.mem_cons_of_mem _ (List.mem_append_right _ h)) gwX10))
set_option maxHeartbeats 4000000 in
set_option maxRecDepth 100000 in
theorem k_X6_readItems_1 (l : Launch) (dC : Nat → ClassId) (dI : Nat → Nat → Nat) (tRULE_LEAST : Nat) (tRULE_MOST : Nat) (adK : Nat → Nat) (adV : Nat → Nat) (h0 : Nat) (h1 : Nat) (h2 : Nat) (h3 : Nat) (r0 : Nat) (v0 : Int32) (v1 : Int32) (v2 : Int32) (v3 : Int32) (v4 : Int32) (v5 : Int32) (g0 : ClassId) (f6 : Nat → Int32) (g1 : ClassId) (f7 : Nat → Int32) (v8 : Int32) (i_v0 : 0 ≤ v0.toInt ∧ v0.toInt ≤ 1) (i_v1 : 0 ≤ v1.toInt ∧ v1.toInt ≤ 8) (i_v2 : 0 ≤ v2.toInt ∧ v2.toInt ≤ 240) (i_v8 : 0 ≤ v8.toInt ∧ v8.toInt ≤ 40) (sz : Nat) : Met l yX6_readItems q_X6_readItems_1 ({ frames := 5, cells := 0, slots := 0, locals := 114 }) (va_Pc [.ref h0, .ref (adK 0), .ref tRULE_LEAST, .ref tRULE_MOST, .ref h3, .int v8] (fun U => U.heap.size = sz ∧ va_P (dC, dI) vwCl (wd_01f996b1 h0 h1 h3 r0 v0 v1 h1 h2 v2 v3 v4 v5 h2 g0 f6 h3 g1 f7) U.heap ∧ va_K (dC, dI) vwCl [(g0, .int), (g1, .int)] U ∧ va_D (fun _ => True) (wd_01f996b1 h0 h1 h3 r0 v0 v1 h1 h2 v2 v3 v4 v5 h2 g0 f6 h3 g1 f7) ∧ vk_S 3 pv_len3 pv_byt3 adK adV (va_A (wd_01f996b1 h0 h1 h3 r0 v0 v1 h1 h2 v2 v3 v4 v5 h2 g0 f6 h3 g1 f7) sz) U U.heap ∧ va_Z "java/lang/String" "COMPACT_STRINGS" "Z" (.int 1) (va_A (wd_01f996b1 h0 h1 h3 r0 v0 v1 h1 h2 v2 v3 v4 v5 h2 g0 f6 h3 g1 f7) sz) U U.heap ∧ pv_Xs tRULE_LEAST 4 (va_A (wd_01f996b1 h0 h1 h3 r0 v0 v1 h1 h2 v2 v3 v4 v5 h2 g0 f6 h3 g1 f7) sz) U U.heap ∧ pv_Xs tRULE_MOST 4 (va_A (wd_01f996b1 h0 h1 h3 r0 v0 v1 h1 h2 v2 v3 v4 v5 h2 g0 f6 h3 g1 f7) sz) U U.heap ∧ va_Nw (.methodLinkNest RX10 52 yX11_within RX11) U)) (va_Qi (fun (r : Int32) (_ : Unit) => 0 ≤ r.toInt ∧ r.toInt ≤ 1) (fun (_ : Unit) (t : State) => ∃ (o_h1_2 : Int32) (o_h1_3 : Int32) (o_h1_4 : Int32) (o_h3 : Nat → Int32), va_P (dC, dI) vwCl (wd_01f996b1 h0 h1 h3 r0 v0 v1 h1 h2 v2 o_h1_2 o_h1_3 o_h1_4 h2 g0 f6 h3 g1 o_h3) t.heap ∧ va_K (dC, dI) vwCl [] t ∧ va_D (va_A (wd_01f996b1 h0 h1 h3 r0 v0 v1 h1 h2 v2 v3 v4 v5 h2 g0 f6 h3 g1 f7) sz) (wd_01f996b1 h0 h1 h3 r0 v0 v1 h1 h2 v2 o_h1_2 o_h1_3 o_h1_4 h2 g0 f6 h3 g1 o_h3)) (va_A (wd_01f996b1 h0 h1 h3 r0 v0 v1 h1 h2 v2 v3 v4 v5 h2 g0 f6 h3 g1 f7) sz)) 0 0 (va_A (wd_01f996b1 h0 h1 h3 r0 v0 v1 h1 h2 v2 v3 v4 v5 h2 g0 f6 h3 g1 f7) sz) := by
  refine Met.ofW (cc := cX6_readItems) (maxL := 9) (ret := (some .boolean)) (by decide) rfl ?_
  intro p e s m args below meth c s₁ B hml hv
  obtain ⟨i_v0a, i_v0b⟩ := i_v0
  obtain ⟨i_v1a, i_v1b⟩ := i_v1
  obtain ⟨i_v2a, i_v2b⟩ := i_v2
  obtain ⟨i_v8a, i_v8b⟩ := i_v8
  obtain ⟨rfl, hsz, hP, hK, hD0, h_st_S, h_st_CS, h_st_x_RULE_LEAST, h_st_x_RULE_MOST, h_nm_X10_52⟩ := hv
  have hx := B.exec
  have hb := B.bytes
  have hr := B.returns
  have hts := atoms_spec (ws := q_X6_readItems_1) B.pre
  have hown : s.vm.findClass RX6 = some m.cls := findClass_of_methodNamed B.named
  have hlocks := B.notSynchronized
  subst hsz
  have hD := hD0.self (sz := s.heap.size)
  generalize hAe : va_A (wd_01f996b1 h0 h1 h3 r0 v0 v1 h1 h2 v2 v3 v4 v5 h2 g0 f6 h3 g1 f7) s.heap.size = A at hD h_st_S h_st_CS h_st_x_RULE_LEAST h_st_x_RULE_MOST ⊢
  have hA : ∀ q : Nat, s.heap.size ≤ q → A q := fun q h => by rw [← hAe]; exact Or.inr h
  have hS : va_S A s.heap s.heap [] := va_S.rf
  generalize hQ : (MQ below _ _ s 0 0 A) = Q
  have hl := lv_entry ([.ref h0, .ref (adK 0), .ref tRULE_LEAST, .ref tRULE_MOST, .ref h3, .int v8]) (n := 9) (Nat.le_of_ble_eq_true rfl)
  rw [lg_entry_eq]
  generalize (lg_sl ([.ref h0, .ref (adK 0), .ref tRULE_LEAST, .ref tRULE_MOST, .ref h3, .int v8]) ++ List.replicate (9 - (lg_sl ([.ref h0, .ref (adK 0), .ref tRULE_LEAST, .ref tRULE_MOST, .ref h3, .int v8])).length) Slot.unset).toArray = ls at hl ⊢
  have hl : lv_has ls 9 [(0, .ref h0), (1, .ref (adK 0)), (2, .ref tRULE_LEAST), (3, .ref tRULE_MOST), (4, .ref h3), (5, .int v8)] := hl
  obtain ⟨H, hH⟩ : ∃ H : Heap, H = s.heap := ⟨_, rfl⟩
  obtain ⟨locs, hlocs⟩ : ∃ y : List Loc, y = [] := ⟨_, rfl⟩
  have hS : va_S A s.heap H locs := by rw [hH, hlocs]; exact va_S.rf
  have hP : va_P (dC, dI) vwCl (wd_01f996b1 h0 h1 h3 r0 v0 v1 h1 h2 v2 v3 v4 v5 h2 g0 f6 h3 g1 f7) H := by rw [hH]; exact hP
  rw [← hH, ← hlocs]
  refine lv_iconst (v := 0) hx hb dX6_readItems_0 (by decide) ?_
  refine lv_istore (lv' := [(6, .int 0), (0, .ref h0), (1, .ref (adK 0)), (2, .ref tRULE_LEAST), (3, .ref tRULE_MOST), (4, .ref h3), (5, .int v8)]) hx hb dX6_readItems_1 hl (by decide) rfl (fun ls hl => ?_)
  refine lv_iconst (v := 0) hx hb dX6_readItems_3 (by decide) ?_
  refine lv_istore (lv' := [(7, .int 0), (6, .int 0), (0, .ref h0), (1, .ref (adK 0)), (2, .ref tRULE_LEAST), (3, .ref tRULE_MOST), (4, .ref h3), (5, .int v8)]) hx hb dX6_readItems_4 hl (by decide) rfl (fun ls hl => ?_)
  have hL31 : ∀ (n9 : Nat), ∀ (x19 : Int32) (x20 : Int32) (x21 : Int32) (x22 : Int32) (x23 : Int32) (fn24 : Nat → Int32) (H : Heap) (locs : List Loc) (ls : Array Slot), 0 ≤ x19.toInt → x19.toInt ≤ 5 → (5 - x19.toInt).toNat < n9 → va_P (dC, dI) vwCl (wd_01f996b1 h0 h1 h3 r0 v0 v1 h1 h2 v2 x21 x22 x23 h2 g0 f6 h3 g1 fn24) H → va_D A (wd_01f996b1 h0 h1 h3 r0 v0 v1 h1 h2 v2 x21 x22 x23 h2 g0 f6 h3 g1 fn24) → va_S A s.heap H locs → lv_has ls 9 [(7, .int x19), (6, .int x20), (0, .ref h0), (1, .ref (adK 0)), (2, .ref tRULE_LEAST), (3, .ref tRULE_MOST), (4, .ref h3), (5, .int v8)] → W p l e ({ frames := 5, cells := 0, slots := 0, locals := 114 }) s m ([.ref h0, .ref (adK 0), .ref tRULE_LEAST, .ref tRULE_MOST, .ref h3, .int v8] : List Value).toArray below meth c H locs 0 0 Q (F0 m 6 ls []) := by
    intro n9
    induction n9 with
    | zero => intro x19 x20 x21 x22 x23 fn24 H locs ls qa_x19 qb_x19 hm9 hP hD hS hl; exact absurd hm9 (Nat.not_lt_zero _)
    | succ n9 ih_hL31 =>
      intro x19 x20 x21 x22 x23 fn24 H locs ls qa_x19 qb_x19 hm9 hP hD hS hl
      refine lv_iload hx hb dX6_readItems_6 (lv_at hl 0 rfl) ?_
      refine lv_aload_n hx hb dX6_readItems_8 rfl (lv_at hl 3 rfl) ?_
      have hPc := hP.sub (ws' := []) [] rfl
      have hDc := hD.sub (ws' := []) [] (by decide) rfl
      have hKc := hK.sub (tys' := []) [] rfl
      have hFc := va_free (wc := []) hD hS hA [] rfl
      refine va_calli (va_runV (As := []) (rest := [.int x19]) ⟨hx, hb, hml, hown, hts⟩ (k_J0_length_8abf5_2 l dC dI adK adV  H.size) (cwV 0 hts g_X6_readItems_1_0 rfl rfl rfl (by decide +kernel) ⟨Nat.le_of_ble_eq_true rfl, Nat.le_of_ble_eq_true rfl⟩) ⟨fun a U g mk q => by obtain ⟨q0, q1, qP, qK, qD, n0, n1⟩ := q; exact ⟨q0, q1, qP, va_K.moved (u := U) (U := U.calling g mk a) (Vm.Alike.refl U.vm) qK, qD, vk_S.moved (Vm.Alike.refl _) n0, va_Z.moved (Vm.Alike.refl _) n1⟩, vk_recv h_st_S (by decide : 0 < 3) hS, fun U hU hW => ⟨rfl, by rw [hU], by rw [hU]; exact hPc, va_K.moved hW.alike hKc, hDc.weaken (fun _ _ _ _ => trivial), (by rw [hU]; exact (vk_S.moved hW.alike (vk_S.kept h_st_S hS.2.1)).narrow hFc), (by rw [hU]; exact (va_Z.moved hW.alike (va_Z.kept h_st_CS hS.2.1)).narrow hFc)⟩⟩ rfl rfl hl.1 rfl (lv_room (Nat.le_of_ble_eq_true rfl)) dX6_readItems_9 ⟨Nat.le_of_ble_eq_true rfl, Nat.le_of_ble_eq_true rfl⟩) hS (fun q _ h => hFc q h) hFc (fun ra32 u t H1 locs ht hvm hwra32 hB hz1 hk1 hS => ?_)
      obtain ⟨hP1, hK1, hD1⟩ := hB
      rw [ht] at hP1
      obtain ⟨hP, hD⟩ := va_join (wr := (wd_01f996b1 h0 h1 h3 r0 v0 v1 h1 h2 v2 x21 x22 x23 h2 g0 f6 h3 g1 fn24)) (w1 := []) hP hD [] [0, 1, 2, 3] rfl rfl (by decide) (by decide) hk1 hFc hP1 hD1
      generalize H1 = H at hP hS ⊢
      have hP : va_P (dC, dI) vwCl (wd_01f996b1 h0 h1 h3 r0 v0 v1 h1 h2 v2 x21 x22 x23 h2 g0 f6 h3 g1 fn24) H := hP
      have hD : va_D A (wd_01f996b1 h0 h1 h3 r0 v0 v1 h1 h2 v2 x21 x22 x23 h2 g0 f6 h3 g1 fn24) := hD
      obtain ⟨wa_ra32, wb_ra32⟩ := hwra32
      have wa_ra32 : 4 ≤ ra32.toInt := wa_ra32
      have wb_ra32 : ra32.toInt ≤ 4 := wb_ra32
      obtain rfl : ra32 = (4 : Int32) := Int32.toInt_inj.mp (by rw [show ((4 : Int32)).toInt = 4 by decide]; omega)
      refine lv_icmp_gt (tgt := 127) hx hb dX6_readItems_12 (by decide) (fun c33 => ?_) (fun c33 => ?_)
      · skip
        have fc33 : 4 < x19.toInt := Int32.lt_iff_toInt_lt.mp c33
        refine lv_iconst (v := 1) hx hb dX6_readItems_127 (by decide) ?_
        subst hQ
        have hP9 := hP.sub (ws' := (wd_01f996b1 h0 h1 h3 r0 v0 v1 h1 h2 v2 x21 x22 x23 h2 g0 f6 h3 g1 fn24)) [0, 1, 2, 3] rfl
        have hD9 := hD.sub (ws' := (wd_01f996b1 h0 h1 h3 r0 v0 v1 h1 h2 v2 x21 x22 x23 h2 g0 f6 h3 g1 fn24)) [0, 1, 2, 3] (by decide) rfl
        have hK9 := hK.sub (tys' := []) [] rfl
        exact W.zret (v := 1) hx hb hr rfl (fun t ht hW => ⟨⟨1, (), rfl, ⟨by first | omega | decide, by first | omega | decide⟩, x21, x22, x23, fn24, by rw [ht]; exact hP9, va_K.moved hW.alike hK9, hD9⟩, hS.F ht⟩) hS.2.2 dX6_readItems_128
      · skip
        have fc33 : ¬ (4 < x19.toInt) := fun h9 => c33 (Int32.lt_iff_toInt_lt.mpr h9)
        refine lv_aload_n hx hb dX6_readItems_15 rfl (lv_at hl 2 rfl) ?_
        have hPc := hP.sub (ws' := (wd_1b33869b h0 h1 h3 r0 v0 v1 h1 h2 v2 x21 x22 x23 h2 g0 f6)) [0, 1, 2] rfl
        have hDc := hD.sub (ws' := (wd_1b33869b h0 h1 h3 r0 v0 v1 h1 h2 v2 x21 x22 x23 h2 g0 f6)) [0, 1, 2] (by decide) rfl
        have hKc := hK.sub (tys' := [(g0, .int)]) [0] rfl
        have hFc := va_free (wc := (wd_1b33869b h0 h1 h3 r0 v0 v1 h1 h2 v2 x21 x22 x23 h2 g0 f6)) hD hS hA [0, 1, 2] rfl
        refine va_calli (va_runV (As := []) (rest := []) ⟨hx, hb, hml, hown, hts⟩ (k_X6_atClauseEnd l dC dI h0 h1 h2 h3 r0 v0 v1 v2 x21 x22 x23 g0 f6 ⟨by first | omega | decide, by first | omega | decide⟩ ⟨by first | omega | decide, by first | omega | decide⟩ ⟨by first | omega | decide, by first | omega | decide⟩ H.size) (cwV 0 hts g_X6_readItems_1_1 rfl rfl rfl (by decide +kernel) ⟨Nat.le_of_ble_eq_true rfl, Nat.le_of_ble_eq_true rfl⟩) ⟨fun a U g mk q => by obtain ⟨q0, q1, qP, qK, qD⟩ := q; exact ⟨q0, q1, qP, va_K.moved (u := U) (U := U.calling g mk a) (Vm.Alike.refl U.vm) qK, qD⟩, va_recv hKc hPc (ci := 6) (q0 := 0) rfl rfl, fun U hU hW => ⟨rfl, by rw [hU], by rw [hU]; exact hPc, va_K.moved hW.alike hKc, hDc.weaken (fun _ _ _ _ => trivial)⟩⟩ rfl rfl hl.1 rfl (lv_room (Nat.le_of_ble_eq_true rfl)) dX6_readItems_16 ⟨Nat.le_of_ble_eq_true rfl, Nat.le_of_ble_eq_true rfl⟩) hS (fun q _ h => hFc q h) hFc (fun ra34 u t H1 locs ht hvm hwra34 hB hz1 hk1 hS => ?_)
        obtain ⟨x35, hP1, hK1, hD1⟩ := hB
        rw [ht] at hP1
        obtain ⟨hP, hD⟩ := va_join (wr := (wd_6f8f3203 h3 g1 fn24)) (w1 := (wd_1b33869b h0 h1 h3 r0 v0 v1 h1 h2 v2 x35 x22 x23 h2 g0 f6)) hP hD [0, 1, 2] [3] rfl rfl (by decide) (by decide) hk1 hFc hP1 hD1
        generalize H1 = H at hP hS ⊢
        have hP := hP.sub (ws' := (wd_01f996b1 h0 h1 h3 r0 v0 v1 h1 h2 v2 x35 x22 x23 h2 g0 f6 h3 g1 fn24)) [1, 2, 3, 0] rfl
        have hD := hD.sub (ws' := (wd_01f996b1 h0 h1 h3 r0 v0 v1 h1 h2 v2 x35 x22 x23 h2 g0 f6 h3 g1 fn24)) [1, 2, 3, 0] (by decide) rfl
        have hP : va_P (dC, dI) vwCl (wd_01f996b1 h0 h1 h3 r0 v0 v1 h1 h2 v2 x35 x22 x23 h2 g0 f6 h3 g1 fn24) H := hP
        have hD : va_D A (wd_01f996b1 h0 h1 h3 r0 v0 v1 h1 h2 v2 x35 x22 x23 h2 g0 f6 h3 g1 fn24) := hD
        obtain ⟨wa_ra34, wb_ra34⟩ := hwra34
        have wa_ra34 : 0 ≤ ra34.toInt := wa_ra34
        have wb_ra34 : ra34.toInt ≤ 1 := wb_ra34
        refine lv_if_ne (tgt := 127) hx hb dX6_readItems_19 (by decide) (fun c36 => ?_) (fun c36 => ?_)
        · skip
          have fc36 : ¬ (ra34.toInt = 0) := fun h9 => c36 (Int32.toInt_inj.mp h9)
          refine lv_iconst (v := 1) hx hb dX6_readItems_127 (by decide) ?_
          subst hQ
          have hP9 := hP.sub (ws' := (wd_01f996b1 h0 h1 h3 r0 v0 v1 h1 h2 v2 x35 x22 x23 h2 g0 f6 h3 g1 fn24)) [0, 1, 2, 3] rfl
          have hD9 := hD.sub (ws' := (wd_01f996b1 h0 h1 h3 r0 v0 v1 h1 h2 v2 x35 x22 x23 h2 g0 f6 h3 g1 fn24)) [0, 1, 2, 3] (by decide) rfl
          have hK9 := hK.sub (tys' := []) [] rfl
          exact W.zret (v := 1) hx hb hr rfl (fun t ht hW => ⟨⟨1, (), rfl, ⟨by first | omega | decide, by first | omega | decide⟩, x35, x22, x23, fn24, by rw [ht]; exact hP9, va_K.moved hW.alike hK9, hD9⟩, hS.F ht⟩) hS.2.2 dX6_readItems_128
        · skip
          have fc36 : ra34.toInt = 0 := congrArg Int32.toInt c36
          refine lv_aload_n hx hb dX6_readItems_22 rfl (lv_at hl 2 rfl) ?_
          refine lv_aload_n hx hb dX6_readItems_23 rfl (lv_at hl 3 rfl) ?_
          refine lv_iload hx hb dX6_readItems_24 (lv_at hl 1 rfl) ?_
          have hPc := hP.sub (ws' := (wd_1b33869b h0 h1 h3 r0 v0 v1 h1 h2 v2 x35 x22 x23 h2 g0 f6)) [0, 1, 2] rfl
          have hDc := hD.sub (ws' := (wd_1b33869b h0 h1 h3 r0 v0 v1 h1 h2 v2 x35 x22 x23 h2 g0 f6)) [0, 1, 2] (by decide) rfl
          have hKc := hK.sub (tys' := [(g0, .int)]) [0] rfl
          have hFc := va_free (wc := (wd_1b33869b h0 h1 h3 r0 v0 v1 h1 h2 v2 x35 x22 x23 h2 g0 f6)) hD hS hA [0, 1, 2] rfl
          refine va_calli (va_runV (As := [.ref (adK 0), .int x20]) (rest := []) ⟨hx, hb, hml, hown, hts⟩ (k_X6_readLetter_1 l dC dI adK adV h0 h1 h2 h3 r0 v0 v1 v2 x35 x22 x23 g0 f6 x20 ⟨by first | omega | decide, by first | omega | decide⟩ ⟨by first | omega | decide, by first | omega | decide⟩ ⟨by first | omega | decide, by first | omega | decide⟩ H.size) (cwV 2 hts g_X6_readItems_1_2 rfl rfl rfl (by decide +kernel) ⟨Nat.le_of_ble_eq_true rfl, Nat.le_of_ble_eq_true rfl⟩) ⟨fun a U g mk q => by obtain ⟨q0, q1, qP, qK, qD, n0, n1⟩ := q; exact ⟨q0, q1, qP, va_K.moved (u := U) (U := U.calling g mk a) (Vm.Alike.refl U.vm) qK, qD, va_Z.moved (Vm.Alike.refl _) n0, vk_S.moved (Vm.Alike.refl _) n1⟩, va_recv hKc hPc (ci := 6) (q0 := 0) rfl rfl, fun U hU hW => ⟨rfl, by rw [hU], by rw [hU]; exact hPc, va_K.moved hW.alike hKc, hDc.weaken (fun _ _ _ _ => trivial), (by rw [hU]; exact (va_Z.moved hW.alike (va_Z.kept h_st_CS hS.2.1)).narrow hFc), (by rw [hU]; exact (vk_S.moved hW.alike (vk_S.kept h_st_S hS.2.1)).narrow hFc)⟩⟩ rfl rfl hl.1 rfl (lv_room (Nat.le_of_ble_eq_true rfl)) dX6_readItems_26 ⟨Nat.le_of_ble_eq_true rfl, Nat.le_of_ble_eq_true rfl⟩) hS (fun q _ h => hFc q h) hFc (fun ra37 u t H1 locs ht hvm hwra37 hB hz1 hk1 hS => ?_)
          obtain ⟨x38, x39, hP1, hK1, hD1⟩ := hB
          rw [ht] at hP1
          obtain ⟨hP, hD⟩ := va_join (wr := (wd_6f8f3203 h3 g1 fn24)) (w1 := (wd_1b33869b h0 h1 h3 r0 v0 v1 h1 h2 v2 x38 x39 x23 h2 g0 f6)) hP hD [0, 1, 2] [3] rfl rfl (by decide) (by decide) hk1 hFc hP1 hD1
          generalize H1 = H at hP hS ⊢
          have hP := hP.sub (ws' := (wd_01f996b1 h0 h1 h3 r0 v0 v1 h1 h2 v2 x38 x39 x23 h2 g0 f6 h3 g1 fn24)) [1, 2, 3, 0] rfl
          have hD := hD.sub (ws' := (wd_01f996b1 h0 h1 h3 r0 v0 v1 h1 h2 v2 x38 x39 x23 h2 g0 f6 h3 g1 fn24)) [1, 2, 3, 0] (by decide) rfl
          have hP : va_P (dC, dI) vwCl (wd_01f996b1 h0 h1 h3 r0 v0 v1 h1 h2 v2 x38 x39 x23 h2 g0 f6 h3 g1 fn24) H := hP
          have hD : va_D A (wd_01f996b1 h0 h1 h3 r0 v0 v1 h1 h2 v2 x38 x39 x23 h2 g0 f6 h3 g1 fn24) := hD
          obtain ⟨wa_ra37, wb_ra37⟩ := hwra37
          have wa_ra37 : -1 ≤ ra37.toInt := wa_ra37
          have wb_ra37 : ra37.toInt ≤ 3 := wb_ra37
          refine lv_istore (lv' := [(8, .int ra37), (7, .int x19), (6, .int x20), (0, .ref h0), (1, .ref (adK 0)), (2, .ref tRULE_LEAST), (3, .ref tRULE_MOST), (4, .ref h3), (5, .int v8)]) hx hb dX6_readItems_29 hl (by decide) rfl (fun ls hl => ?_)
          refine lv_iload hx hb dX6_readItems_31 (lv_at hl 0 rfl) ?_
          refine lv_if_lt (tgt := 79) hx hb dX6_readItems_33 (by decide) (fun c40 => ?_) (fun c40 => ?_)
          · skip
            have fc40 : ra37.toInt < 0 := Int32.lt_iff_toInt_lt.mp c40
            refine lv_iconst (v := 0) hx hb dX6_readItems_79 (by decide) ?_
            subst hQ
            have hP9 := hP.sub (ws' := (wd_01f996b1 h0 h1 h3 r0 v0 v1 h1 h2 v2 x38 x39 x23 h2 g0 f6 h3 g1 fn24)) [0, 1, 2, 3] rfl
            have hD9 := hD.sub (ws' := (wd_01f996b1 h0 h1 h3 r0 v0 v1 h1 h2 v2 x38 x39 x23 h2 g0 f6 h3 g1 fn24)) [0, 1, 2, 3] (by decide) rfl
            have hK9 := hK.sub (tys' := []) [] rfl
            exact W.zret (v := 0) hx hb hr rfl (fun t ht hW => ⟨⟨0, (), rfl, ⟨by first | omega | decide, by first | omega | decide⟩, x38, x39, x23, fn24, by rw [ht]; exact hP9, va_K.moved hW.alike hK9, hD9⟩, hS.F ht⟩) hS.2.2 dX6_readItems_80
          · skip
            have fc40 : ¬ (ra37.toInt < 0) := fun h9 => c40 (Int32.lt_iff_toInt_lt.mpr h9)
            refine lv_iload hx hb dX6_readItems_36 (lv_at hl 0 rfl) ?_
            refine lv_aload_n hx hb dX6_readItems_38 rfl (lv_at hl 5 rfl) ?_
            obtain ⟨fz41, hcz41, hnz41⟩ := id (h_st_x_RULE_LEAST)
            refine va_slen hx hb hcz41 (Array.getElem?_eq_some_iff.mp hcz41.choose_spec.1).1 hnz41 hS dX6_readItems_39 ?_
            refine W.eq (g2 := F0 m 40 ls [.int 4, .int ra37]) rfl ?_
            refine lv_icmp_ge (tgt := 79) hx hb dX6_readItems_40 (by decide) (fun c42 => by exfalso; have fc42 : 4 ≤ ra37.toInt := Int32.le_iff_toInt_le.mp c42; omega) (fun _ => ?_)
            refine lv_iload hx hb dX6_readItems_43 (lv_at hl 0 rfl) ?_
            refine lv_aload_n hx hb dX6_readItems_45 rfl (lv_at hl 6 rfl) ?_
            obtain ⟨fz43, hcz43, hnz43⟩ := id (h_st_x_RULE_MOST)
            refine va_slen hx hb hcz43 (Array.getElem?_eq_some_iff.mp hcz43.choose_spec.1).1 hnz43 hS dX6_readItems_46 ?_
            refine W.eq (g2 := F0 m 47 ls [.int 4, .int ra37]) rfl ?_
            refine lv_icmp_ge (tgt := 79) hx hb dX6_readItems_47 (by decide) (fun c44 => by exfalso; have fc44 : 4 ≤ ra37.toInt := Int32.le_iff_toInt_le.mp c44; omega) (fun _ => ?_)
            refine lv_aload_n hx hb dX6_readItems_50 rfl (lv_at hl 3 rfl) ?_
            refine va_get (D := (dC, dI)) (ci := 6) (v := .ref h1) (C := RX6) (T := TX6) (N := 5) hx hb hts (fun _ h => List.mem_cons_of_mem _ (List.mem_append_left _ (List.mem_append_right _ h))) hown hK hP 0 rfl rfl 0 (by decide) (hts (.fieldLink RX6 26 "LeftArguments$OfficeReader" "tape" "LLeftArguments$Tape;") (List.mem_cons_of_mem _ (List.mem_append_left _ (List.mem_append_left _ (List.mem_of_getElem? (i := 13) rfl))))) (fun _ h9 => h9) rfl dX6_readItems_51 ?_
            refine lv_iconst (v := 2) hx hb dX6_readItems_54 (by decide) ?_
            have hPc := hP.sub (ws' := (wd_82cdd16b h1 h2 v2 x38 x39 x23 h2 g0 f6)) [1, 2] rfl
            have hDc := hD.sub (ws' := (wd_82cdd16b h1 h2 v2 x38 x39 x23 h2 g0 f6)) [1, 2] (by decide) rfl
            have hKc := hK.sub (tys' := [(g0, .int)]) [0] rfl
            have hFc := va_free (wc := (wd_82cdd16b h1 h2 v2 x38 x39 x23 h2 g0 f6)) hD hS hA [1, 2] rfl
            refine va_calli (va_runV (As := [.int 2]) (rest := []) ⟨hx, hb, hml, hown, hts⟩ (k_X10_takeNumber l dC dI h1 h2 v2 x38 x39 x23 g0 f6 2 ⟨by first | omega | decide, by first | omega | decide⟩ H.size) (cwV 1 hts g_X6_readItems_1_3 rfl rfl rfl (by decide +kernel) ⟨Nat.le_of_ble_eq_true rfl, Nat.le_of_ble_eq_true rfl⟩) ⟨fun a U g mk q => by obtain ⟨q0, q1, qP, qK, qD⟩ := q; exact ⟨q0, q1, qP, va_K.moved (u := U) (U := U.calling g mk a) (Vm.Alike.refl U.vm) qK, qD⟩, va_recv hKc hPc (ci := 10) (q0 := 0) rfl rfl, fun U hU hW => ⟨rfl, by rw [hU], by rw [hU]; exact hPc, va_K.moved hW.alike hKc, hDc.weaken (fun _ _ _ _ => trivial)⟩⟩ rfl rfl hl.1 rfl (lv_room (Nat.le_of_ble_eq_true rfl)) dX6_readItems_55 ⟨Nat.le_of_ble_eq_true rfl, Nat.le_of_ble_eq_true rfl⟩) hS (fun q _ h => hFc q h) hFc (fun ra45 u t H1 locs ht hvm hwra45 hB hz1 hk1 hS => ?_)
            obtain ⟨x46, x47, x48, hP1, hK1, hD1⟩ := hB
            rw [ht] at hP1
            obtain ⟨hP, hD⟩ := va_join (wr := (wd_d3c86de3 h0 h1 h3 r0 v0 v1 h3 g1 fn24)) (w1 := (wd_82cdd16b h1 h2 v2 x46 x47 x48 h2 g0 f6)) hP hD [1, 2] [0, 3] rfl rfl (by decide) (by decide) hk1 hFc hP1 hD1
            generalize H1 = H at hP hS ⊢
            have hP := hP.sub (ws' := (wd_01f996b1 h0 h1 h3 r0 v0 v1 h1 h2 v2 x46 x47 x48 h2 g0 f6 h3 g1 fn24)) [0, 2, 3, 1] rfl
            have hD := hD.sub (ws' := (wd_01f996b1 h0 h1 h3 r0 v0 v1 h1 h2 v2 x46 x47 x48 h2 g0 f6 h3 g1 fn24)) [0, 2, 3, 1] (by decide) rfl
            have hP : va_P (dC, dI) vwCl (wd_01f996b1 h0 h1 h3 r0 v0 v1 h1 h2 v2 x46 x47 x48 h2 g0 f6 h3 g1 fn24) H := hP
            have hD : va_D A (wd_01f996b1 h0 h1 h3 r0 v0 v1 h1 h2 v2 x46 x47 x48 h2 g0 f6 h3 g1 fn24) := hD
            obtain ⟨wa_ra45, wb_ra45⟩ := hwra45
            have wa_ra45 : 0 ≤ ra45.toInt := wa_ra45
            have wb_ra45 : ra45.toInt ≤ 1 := wb_ra45
            refine lv_if_eq (tgt := 79) hx hb dX6_readItems_58 (by decide) (fun c49 => ?_) (fun c49 => ?_)
            · skip
              have fc49 : ra45.toInt = 0 := congrArg Int32.toInt c49
              refine lv_iconst (v := 0) hx hb dX6_readItems_79 (by decide) ?_
              subst hQ
              have hP9 := hP.sub (ws' := (wd_01f996b1 h0 h1 h3 r0 v0 v1 h1 h2 v2 x46 x47 x48 h2 g0 f6 h3 g1 fn24)) [0, 1, 2, 3] rfl
              have hD9 := hD.sub (ws' := (wd_01f996b1 h0 h1 h3 r0 v0 v1 h1 h2 v2 x46 x47 x48 h2 g0 f6 h3 g1 fn24)) [0, 1, 2, 3] (by decide) rfl
              have hK9 := hK.sub (tys' := []) [] rfl
              exact W.zret (v := 0) hx hb hr rfl (fun t ht hW => ⟨⟨0, (), rfl, ⟨by first | omega | decide, by first | omega | decide⟩, x46, x47, x48, fn24, by rw [ht]; exact hP9, va_K.moved hW.alike hK9, hD9⟩, hS.F ht⟩) hS.2.2 dX6_readItems_80
            · skip
              have fc49 : ¬ (ra45.toInt = 0) := fun h9 => c49 (Int32.toInt_inj.mp h9)
              refine lv_aload_n hx hb dX6_readItems_61 rfl (lv_at hl 3 rfl) ?_
              refine va_get (D := (dC, dI)) (ci := 6) (v := .ref h1) (C := RX6) (T := TX6) (N := 5) hx hb hts (fun _ h => List.mem_cons_of_mem _ (List.mem_append_left _ (List.mem_append_right _ h))) hown hK hP 0 rfl rfl 0 (by decide) (hts (.fieldLink RX6 26 "LeftArguments$OfficeReader" "tape" "LLeftArguments$Tape;") (List.mem_cons_of_mem _ (List.mem_append_left _ (List.mem_append_left _ (List.mem_of_getElem? (i := 13) rfl))))) (fun _ h9 => h9) rfl dX6_readItems_62 ?_
              refine lv_aload_n hx hb dX6_readItems_65 rfl (lv_at hl 5 rfl) ?_
              refine lv_iload hx hb dX6_readItems_66 (lv_at hl 0 rfl) ?_
              obtain ⟨fz50, hcz50, hnz50⟩ := id (h_st_x_RULE_LEAST)
              refine va_sld hx hb hcz50 (Array.getElem?_eq_some_iff.mp hcz50.choose_spec.1).1 hnz50 hS (vp_in_iff.mpr ⟨by omega, by omega⟩) dX6_readItems_68 ?_
              refine lv_topi (fun t51 et51 => ?_)
              refine lv_aload_n hx hb dX6_readItems_69 rfl (lv_at hl 6 rfl) ?_
              refine lv_iload hx hb dX6_readItems_70 (lv_at hl 0 rfl) ?_
              obtain ⟨fz52, hcz52, hnz52⟩ := id (h_st_x_RULE_MOST)
              refine va_sld hx hb hcz52 (Array.getElem?_eq_some_iff.mp hcz52.choose_spec.1).1 hnz52 hS (vp_in_iff.mpr ⟨by omega, by omega⟩) dX6_readItems_72 ?_
              refine lv_topi (fun t53 et53 => ?_)
              have hPc := hP.sub (ws' := (wd_09b0abee h1 h2 v2 x46 x47 x48)) [1] rfl
              have hDc := hD.sub (ws' := (wd_09b0abee h1 h2 v2 x46 x47 x48)) [1] (by decide) rfl
              have hKc := hK.sub (tys' := []) [] rfl
              have hFc := va_free (wc := (wd_09b0abee h1 h2 v2 x46 x47 x48)) hD hS hA [1] rfl
              refine va_calli (va_runV (As := [.int t51, .int t53]) (rest := []) ⟨hx, hb, hml, hown, hts⟩ (k_X10_numberWithin l dC dI h1 h2 v2 x46 x47 x48 t51 t53 ⟨by first | omega | decide, by first | omega | decide⟩ H.size) (cwV 2 hts g_X6_readItems_1_4 rfl rfl rfl (by decide +kernel) ⟨Nat.le_of_ble_eq_true rfl, Nat.le_of_ble_eq_true rfl⟩) ⟨fun a U g mk q => by obtain ⟨q0, q1, qP, qK, qD, n0⟩ := q; exact ⟨q0, q1, qP, va_K.moved (u := U) (U := U.calling g mk a) (Vm.Alike.refl U.vm) qK, qD, va_Nw.same rfl rfl n0⟩, va_recv hKc hPc (ci := 10) (q0 := 0) rfl rfl, fun U hU hW => ⟨rfl, by rw [hU], by rw [hU]; exact hPc, va_K.moved hW.alike hKc, hDc.weaken (fun _ _ _ _ => trivial), va_Nw.warmM hW h_nm_X10_52⟩⟩ rfl rfl hl.1 rfl (lv_room (Nat.le_of_ble_eq_true rfl)) dX6_readItems_73 ⟨Nat.le_of_ble_eq_true rfl, Nat.le_of_ble_eq_true rfl⟩) hS (fun q _ h => hFc q h) hFc (fun ra54 u t H1 locs ht hvm hwra54 hB hz1 hk1 hS => ?_)
              obtain ⟨x55, hP1, hK1, hD1⟩ := hB
              rw [ht] at hP1
              obtain ⟨hP, hD⟩ := va_join (wr := (wd_b8c97548 h0 h1 h3 r0 v0 v1 h2 g0 f6 h3 g1 fn24)) (w1 := (wd_09b0abee h1 h2 v2 x46 x55 x48)) hP hD [1] [0, 2, 3] rfl rfl (by decide) (by decide) hk1 hFc hP1 hD1
              generalize H1 = H at hP hS ⊢
              have hP := hP.sub (ws' := (wd_01f996b1 h0 h1 h3 r0 v0 v1 h1 h2 v2 x46 x55 x48 h2 g0 f6 h3 g1 fn24)) [0, 3, 1, 2] rfl
              have hD := hD.sub (ws' := (wd_01f996b1 h0 h1 h3 r0 v0 v1 h1 h2 v2 x46 x55 x48 h2 g0 f6 h3 g1 fn24)) [0, 3, 1, 2] (by decide) rfl
              have hP : va_P (dC, dI) vwCl (wd_01f996b1 h0 h1 h3 r0 v0 v1 h1 h2 v2 x46 x55 x48 h2 g0 f6 h3 g1 fn24) H := hP
              have hD : va_D A (wd_01f996b1 h0 h1 h3 r0 v0 v1 h1 h2 v2 x46 x55 x48 h2 g0 f6 h3 g1 fn24) := hD
              obtain ⟨wa_ra54, wb_ra54⟩ := hwra54
              have wa_ra54 : 0 ≤ ra54.toInt := wa_ra54
              have wb_ra54 : ra54.toInt ≤ 1 := wb_ra54
              refine lv_if_ne (tgt := 81) hx hb dX6_readItems_76 (by decide) (fun c56 => ?_) (fun c56 => ?_)
              · skip
                have fc56 : ¬ (ra54.toInt = 0) := fun h9 => c56 (Int32.toInt_inj.mp h9)
                refine lv_iload hx hb dX6_readItems_81 (lv_at hl 8 rfl) ?_
                refine lv_if_lt (tgt := 112) hx hb dX6_readItems_83 (by decide) (fun c57 => by exfalso; have fc57 : v8.toInt < 0 := Int32.lt_iff_toInt_lt.mp c57; omega) (fun _ => ?_)
                refine lv_iload hx hb dX6_readItems_86 (lv_at hl 8 rfl) ?_
                refine lv_iload hx hb dX6_readItems_88 (lv_at hl 0 rfl) ?_
                refine lv_iadd hx hb dX6_readItems_90 ?_
                refine lv_topi (fun t58 et58 => ?_)
                have gt58 : t58.toInt = v8.toInt + ra37.toInt := pv_add (a := v8.toInt) (b := ra37.toInt) et58 rfl rfl (by omega) (by omega)
                refine lv_aload hx hb dX6_readItems_91 (lv_at hl 7 rfl) ?_
                refine va_alen (v := 4) hx hb hK hP 3 1 rfl rfl (by rfl) dX6_readItems_93 ?_
                have hJ60 : ∀ (fn59 : Nat → Int32) (H : Heap) (locs : List Loc) (ls : Array Slot), va_P (dC, dI) vwCl (wd_01f996b1 h0 h1 h3 r0 v0 v1 h1 h2 v2 x46 x55 x48 h2 g0 f6 h3 g1 fn59) H → va_D A (wd_01f996b1 h0 h1 h3 r0 v0 v1 h1 h2 v2 x46 x55 x48 h2 g0 f6 h3 g1 fn59) → va_S A s.heap H locs → lv_has ls 9 [(8, .int ra37), (7, .int x19), (6, .int x20), (0, .ref h0), (1, .ref (adK 0)), (2, .ref tRULE_LEAST), (3, .ref tRULE_MOST), (4, .ref h3), (5, .int v8)] → W p l e ({ frames := 5, cells := 0, slots := 0, locals := 114 }) s m ([.ref h0, .ref (adK 0), .ref tRULE_LEAST, .ref tRULE_MOST, .ref h3, .int v8] : List Value).toArray below meth c H locs 0 0 Q (F0 m 112 ls []) := by
                  intro fn59 H locs ls hP hD hS hl
                  refine lv_iload hx hb dX6_readItems_112 (lv_at hl 2 rfl) ?_
                  refine lv_iconst (v := 1) hx hb dX6_readItems_114 (by decide) ?_
                  refine lv_iload hx hb dX6_readItems_115 (lv_at hl 0 rfl) ?_
                  refine lv_ishl hx hb dX6_readItems_117 ?_
                  refine lv_topi (fun t61 et61 => ?_)
                  refine lv_ior hx hb dX6_readItems_118 ?_
                  refine lv_topi (fun t62 et62 => ?_)
                  refine lv_istore (lv' := [(6, .int t62), (8, .int ra37), (7, .int x19), (0, .ref h0), (1, .ref (adK 0)), (2, .ref tRULE_LEAST), (3, .ref tRULE_MOST), (4, .ref h3), (5, .int v8)]) hx hb dX6_readItems_119 hl (by decide) rfl (fun ls hl => ?_)
                  obtain ⟨t63, et63⟩ : ∃ y : Int32, y = x19 + 1 := ⟨_, rfl⟩
                  have gt63 : t63.toInt = x19.toInt + (1) := pv_add (a := x19.toInt) (b := (1)) et63 rfl (by decide) (by omega) (by omega)
                  refine lv_iinc (v := t63) (lv' := [(7, .int t63), (6, .int t62), (8, .int ra37), (0, .ref h0), (1, .ref (adK 0)), (2, .ref tRULE_LEAST), (3, .ref tRULE_MOST), (4, .ref h3), (5, .int v8)]) hx hb dX6_readItems_121 hl (k := 2) rfl (by rw [et63]; rfl) (by decide) rfl (fun ls hl => ?_)
                  refine lv_goto (tgt := 6) hx hb dX6_readItems_124 (by decide) ?_
                  exact ih_hL31 t63 t62 x46 x55 x48 fn59 H locs ls (by first | omega | decide) (by first | omega | decide) (by first | omega | (simp only [Int.toNat] at *; omega)) hP hD hS (lv_sub hl [0, 1, 3, 4, 5, 6, 7, 8] rfl)
                refine lv_icmp_ge (tgt := 112) hx hb dX6_readItems_94 (by decide) (fun c64 => ?_) (fun c64 => ?_)
                · skip
                  have fc64 : 4 ≤ t58.toInt := Int32.le_iff_toInt_le.mp c64
                  exact hJ60 fn24 H locs ls hP hD hS (lv_sub hl [0, 1, 2, 3, 4, 5, 6, 7, 8] rfl)
                · skip
                  have fc64 : ¬ (4 ≤ t58.toInt) := fun h9 => c64 (Int32.le_iff_toInt_le.mpr h9)
                  refine lv_aload hx hb dX6_readItems_97 (lv_at hl 7 rfl) ?_
                  refine lv_iload hx hb dX6_readItems_99 (lv_at hl 8 rfl) ?_
                  refine lv_iload hx hb dX6_readItems_101 (lv_at hl 0 rfl) ?_
                  refine lv_iadd hx hb dX6_readItems_103 ?_
                  refine lv_topi (fun t65 et65 => ?_)
                  have gt65 : t65.toInt = v8.toInt + ra37.toInt := pv_add (a := v8.toInt) (b := ra37.toInt) et65 rfl rfl (by omega) (by omega)
                  refine lv_aload_n hx hb dX6_readItems_104 rfl (lv_at hl 3 rfl) ?_
                  refine va_get (D := (dC, dI)) (ci := 6) (v := .ref h1) (C := RX6) (T := TX6) (N := 5) hx hb hts (fun _ h => List.mem_cons_of_mem _ (List.mem_append_left _ (List.mem_append_right _ h))) hown hK hP 0 rfl rfl 0 (by decide) (hts (.fieldLink RX6 26 "LeftArguments$OfficeReader" "tape" "LLeftArguments$Tape;") (List.mem_cons_of_mem _ (List.mem_append_left _ (List.mem_append_left _ (List.mem_of_getElem? (i := 13) rfl))))) (fun _ h9 => h9) rfl dX6_readItems_105 ?_
                  have hPc := hP.sub (ws' := (wd_09b0abee h1 h2 v2 x46 x55 x48)) [1] rfl
                  have hDc := hD.sub (ws' := (wd_09b0abee h1 h2 v2 x46 x55 x48)) [1] (by decide) rfl
                  have hKc := hK.sub (tys' := []) [] rfl
                  have hFc := va_free (wc := (wd_09b0abee h1 h2 v2 x46 x55 x48)) hD hS hA [1] rfl
                  refine va_calli (va_runV (As := []) (rest := [.int t65, .ref h3]) ⟨hx, hb, hml, hown, hts⟩ (k_X10_number l dC dI h1 h2 v2 x46 x55 x48 ⟨by first | omega | decide, by first | omega | decide⟩ H.size) (cwV 0 hts g_X6_readItems_1_5 rfl rfl rfl (by decide +kernel) ⟨Nat.le_of_ble_eq_true rfl, Nat.le_of_ble_eq_true rfl⟩) ⟨fun a U g mk q => by obtain ⟨q0, q1, qP, qK, qD⟩ := q; exact ⟨q0, q1, qP, va_K.moved (u := U) (U := U.calling g mk a) (Vm.Alike.refl U.vm) qK, qD⟩, va_recv hKc hPc (ci := 10) (q0 := 0) rfl rfl, fun U hU hW => ⟨rfl, by rw [hU], by rw [hU]; exact hPc, va_K.moved hW.alike hKc, hDc.weaken (fun _ _ _ _ => trivial)⟩⟩ rfl rfl hl.1 rfl (lv_room (Nat.le_of_ble_eq_true rfl)) dX6_readItems_108 ⟨Nat.le_of_ble_eq_true rfl, Nat.le_of_ble_eq_true rfl⟩) hS (fun q _ h => hFc q h) hFc (fun ra66 u t H1 locs ht hvm hwra66 hB hz1 hk1 hS => ?_)
                  obtain ⟨hP1, hK1, hD1⟩ := hB
                  rw [ht] at hP1
                  obtain ⟨hP, hD⟩ := va_join (wr := (wd_b8c97548 h0 h1 h3 r0 v0 v1 h2 g0 f6 h3 g1 fn24)) (w1 := (wd_09b0abee h1 h2 v2 x46 x55 x48)) hP hD [1] [0, 2, 3] rfl rfl (by decide) (by decide) hk1 hFc hP1 hD1
                  generalize H1 = H at hP hS ⊢
                  have hP := hP.sub (ws' := (wd_01f996b1 h0 h1 h3 r0 v0 v1 h1 h2 v2 x46 x55 x48 h2 g0 f6 h3 g1 fn24)) [0, 3, 1, 2] rfl
                  have hD := hD.sub (ws' := (wd_01f996b1 h0 h1 h3 r0 v0 v1 h1 h2 v2 x46 x55 x48 h2 g0 f6 h3 g1 fn24)) [0, 3, 1, 2] (by decide) rfl
                  have hP : va_P (dC, dI) vwCl (wd_01f996b1 h0 h1 h3 r0 v0 v1 h1 h2 v2 x46 x55 x48 h2 g0 f6 h3 g1 fn24) H := hP
                  have hD : va_D A (wd_01f996b1 h0 h1 h3 r0 v0 v1 h1 h2 v2 x46 x55 x48 h2 g0 f6 h3 g1 fn24) := hD
                  refine va_iast hx hb hK hP hD hS 3 1 rfl rfl (vp_in_iff.mpr ⟨by omega, by omega⟩) dX6_readItems_111 (fun H locs hP hD hS => ?_)
                  obtain ⟨fn67, efn67⟩ : ∃ g : Nat → Int32, g = upd fn24 (Int32.toNatClampNeg t65) ra66 := ⟨_, rfl⟩
                  rw [← efn67] at hP hD
                  have hP : va_P (dC, dI) vwCl (wd_01f996b1 h0 h1 h3 r0 v0 v1 h1 h2 v2 x46 x55 x48 h2 g0 f6 h3 g1 fn67) H := hP
                  have hD : va_D A (wd_01f996b1 h0 h1 h3 r0 v0 v1 h1 h2 v2 x46 x55 x48 h2 g0 f6 h3 g1 fn67) := hD
                  exact hJ60 fn67 H locs ls hP hD hS (lv_sub hl [0, 1, 2, 3, 4, 5, 6, 7, 8] rfl)
              · skip
                have fc56 : ra54.toInt = 0 := congrArg Int32.toInt c56
                refine lv_iconst (v := 0) hx hb dX6_readItems_79 (by decide) ?_
                subst hQ
                have hP9 := hP.sub (ws' := (wd_01f996b1 h0 h1 h3 r0 v0 v1 h1 h2 v2 x46 x55 x48 h2 g0 f6 h3 g1 fn24)) [0, 1, 2, 3] rfl
                have hD9 := hD.sub (ws' := (wd_01f996b1 h0 h1 h3 r0 v0 v1 h1 h2 v2 x46 x55 x48 h2 g0 f6 h3 g1 fn24)) [0, 1, 2, 3] (by decide) rfl
                have hK9 := hK.sub (tys' := []) [] rfl
                exact W.zret (v := 0) hx hb hr rfl (fun t ht hW => ⟨⟨0, (), rfl, ⟨by first | omega | decide, by first | omega | decide⟩, x46, x55, x48, fn24, by rw [ht]; exact hP9, va_K.moved hW.alike hK9, hD9⟩, hS.F ht⟩) hS.2.2 dX6_readItems_80
  exact hL31 _ 0 0 v3 v4 v5 f7 H locs ls (by first | omega | decide) (by first | omega | decide) (Nat.lt_succ_self _) hP hD hS (lv_sub hl [0, 1, 2, 3, 4, 5, 6, 7] rfl)
