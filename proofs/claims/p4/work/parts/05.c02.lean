abbrev wd_8dccebc0 (p0 : Nat) (p1 : Int32) (p2 : Nat) (p3 : Int32) (p4 : Int32) (p5 : Int32) (p6 : Int32) (p7 : Nat) (p8 : Nat) (p9 : Nat) (p10 : Nat) (p11 : Nat) (p12 : Nat) (p13 : Nat) (p14 : Int32) (p15 : Int32) (p16 : Nat) (p17 : Nat) (p18 : Nat) (p19 : Nat) (p20 : Int32) (p21 : Nat) (p22 : Nat) (p23 : Int32) (p24 : Int32) (p25 : Nat) (p26 : Nat) (p27 : Int32) (p28 : Int32) (p29 : Nat) (p30 : Int32) (p31 : Int32) (p32 : Nat) (p33 : Int32) (p34 : Int64) (p35 : Nat) (p36 : Int32) (p37 : Int32) (p38 : Nat) (p39 : Nat) (p40 : Nat) (p41 : Nat) (p42 : Nat) (p43 : Nat) (p44 : Int32) (p45 : Nat) (p46 : Nat) (p47 : Nat) (p48 : Int32) (p49 : Nat) (p50 : ClassId) (p51 : Nat → Int32) (p52 : Nat) (p53 : ClassId) (p54 : Nat → Int32) : va_W := [(p0, .inr (12, [.int p1, .ref p2, .int p3, .int p4, .int p5, .int p6, .ref p7, .ref p8, .ref p9, .ref p10, .ref p11, .ref p12, .ref p13, .int p14, .int p15, .ref p16, .ref p17, .ref p18, .ref p19, .int p20, .ref p21, .ref p22, .int p23, .int p24, .ref p25, .ref p26, .int p27, .int p28, .ref p29, .int p30, .int p31, .ref p32, .int p33, .long p34, .ref p35, .int p36, .int p37, .ref p38, .ref p39, .ref p40, .ref p41, .ref p42, .ref p43, .int p44, .ref p45, .ref p46, .ref p47, .int p48])), (p49, .inl (p50, 40, .inl p51)), (p52, .inl (p53, 247, .inl p54))]
abbrev wd_aad598ec (p0 : Nat) (p1 : ClassId) (p2 : Nat → Int32) : va_W := [(p0, .inl (p1, 40, .inl p2))]
abbrev wd_56d90344 (p0 : Nat) (p1 : Int32) (p2 : Nat) (p3 : Int32) (p4 : Int32) (p5 : Int32) (p6 : Int32) (p7 : Nat) (p8 : Nat) (p9 : Nat) (p10 : Nat) (p11 : Nat) (p12 : Nat) (p13 : Nat) (p14 : Int32) (p15 : Int32) (p16 : Nat) (p17 : Nat) (p18 : Nat) (p19 : Nat) (p20 : Int32) (p21 : Nat) (p22 : Nat) (p23 : Int32) (p24 : Int32) (p25 : Nat) (p26 : Nat) (p27 : Int32) (p28 : Int32) (p29 : Nat) (p30 : Int32) (p31 : Int32) (p32 : Nat) (p33 : Int32) (p34 : Int64) (p35 : Nat) (p36 : Int32) (p37 : Int32) (p38 : Nat) (p39 : Nat) (p40 : Nat) (p41 : Nat) (p42 : Nat) (p43 : Nat) (p44 : Int32) (p45 : Nat) (p46 : Nat) (p47 : Nat) (p48 : Int32) (p49 : Nat) (p50 : ClassId) (p51 : Nat → Int32) (p52 : Nat) (p53 : ClassId) (p54 : Nat → Int32) (p55 : Nat) (p56 : ClassId) (p57 : Nat → Int32) (p58 : Nat) (p59 : ClassId) (p60 : Nat → Int32) : va_W := [(p0, .inr (12, [.int p1, .ref p2, .int p3, .int p4, .int p5, .int p6, .ref p7, .ref p8, .ref p9, .ref p10, .ref p11, .ref p12, .ref p13, .int p14, .int p15, .ref p16, .ref p17, .ref p18, .ref p19, .int p20, .ref p21, .ref p22, .int p23, .int p24, .ref p25, .ref p26, .int p27, .int p28, .ref p29, .int p30, .int p31, .ref p32, .int p33, .long p34, .ref p35, .int p36, .int p37, .ref p38, .ref p39, .ref p40, .ref p41, .ref p42, .ref p43, .int p44, .ref p45, .ref p46, .ref p47, .int p48])), (p49, .inl (p50, 4, .inl p51)), (p52, .inl (p53, 247, .inl p54)), (p55, .inl (p56, 5, .inl p57)), (p58, .inl (p59, 9880, .inl p60))]
abbrev wd_5cc14b98 (p0 : Nat) (p1 : ClassId) (p2 : Nat → Int32) (p3 : Nat) (p4 : ClassId) (p5 : Nat → Int32) (p6 : Nat) (p7 : ClassId) (p8 : Nat → Int32) : va_W := [(p0, .inl (p1, 4, .inl p2)), (p3, .inl (p4, 5, .inl p5)), (p6, .inl (p7, 9880, .inl p8))]
abbrev wd_3ac54ae4 (p0 : Nat) (p1 : ClassId) (p2 : Nat → Int32) (p3 : Nat) (p4 : ClassId) (p5 : Nat → Int32) (p6 : Nat) (p7 : ClassId) (p8 : Nat → Int32) (p9 : Nat) (p10 : ClassId) (p11 : Nat → Int32) : va_W := [(p0, .inl (p1, 4, .inl p2)), (p3, .inl (p4, 247, .inl p5)), (p6, .inl (p7, 5, .inl p8)), (p9, .inl (p10, 9880, .inl p11))]
abbrev wd_2e233976 (p0 : Nat) (p1 : ClassId) (p2 : Nat → Int32) (p3 : Nat) (p4 : ClassId) (p5 : Nat → Int32) : va_W := [(p0, .inl (p1, 4, .inl p2)), (p3, .inl (p4, 5, .inl p5))]
abbrev wd_969f66a9 (p0 : Nat) (p1 : ClassId) (p2 : Nat → Int32) (p3 : Nat) (p4 : ClassId) (p5 : Nat → Int32) : va_W := [(p0, .inl (p1, 5, .inl p2)), (p3, .inl (p4, 9880, .inl p5))]
abbrev wd_4b0b152d (p0 : Nat) (p1 : ClassId) (p2 : Nat → Int32) (p3 : Nat) (p4 : ClassId) (p5 : Nat → Int32) (p6 : Nat) (p7 : ClassId) (p8 : Nat → Int32) : va_W := [(p0, .inl (p1, 4, .inl p2)), (p3, .inl (p4, 247, .inl p5)), (p6, .inl (p7, 9880, .inl p8))]
abbrev wd_9ef0db97 (p0 : Nat) (p1 : ClassId) (p2 : Nat → Int32) (p3 : Nat) (p4 : ClassId) (p5 : Nat → Int32) (p6 : Nat) (p7 : ClassId) (p8 : Nat → Int32) : va_W := [(p0, .inl (p1, 247, .inl p2)), (p3, .inl (p4, 5, .inl p5)), (p6, .inl (p7, 9880, .inl p8))]
abbrev wd_1ad11ebb (p0 : Nat) (p1 : Int32) (p2 : Nat) (p3 : Int32) (p4 : Int32) (p5 : Int32) (p6 : Int32) (p7 : Nat) (p8 : Nat) (p9 : Nat) (p10 : Nat) (p11 : Nat) (p12 : Nat) (p13 : Nat) (p14 : Int32) (p15 : Int32) (p16 : Nat) (p17 : Nat) (p18 : Nat) (p19 : Nat) (p20 : Int32) (p21 : Nat) (p22 : Nat) (p23 : Int32) (p24 : Int32) (p25 : Nat) (p26 : Nat) (p27 : Int32) (p28 : Int32) (p29 : Nat) (p30 : Int32) (p31 : Int32) (p32 : Nat) (p33 : Int32) (p34 : Int64) (p35 : Nat) (p36 : Int32) (p37 : Int32) (p38 : Nat) (p39 : Nat) (p40 : Nat) (p41 : Nat) (p42 : Nat) (p43 : Nat) (p44 : Int32) (p45 : Nat) (p46 : Nat) (p47 : Nat) (p48 : Int32) (p49 : Nat) (p50 : ClassId) (p51 : Nat → Int32) (p52 : Nat) (p53 : ClassId) (p54 : Nat → Int32) (p55 : Nat) (p56 : ClassId) (p57 : Nat → Int32) : va_W := [(p0, .inr (12, [.int p1, .ref p2, .int p3, .int p4, .int p5, .int p6, .ref p7, .ref p8, .ref p9, .ref p10, .ref p11, .ref p12, .ref p13, .int p14, .int p15, .ref p16, .ref p17, .ref p18, .ref p19, .int p20, .ref p21, .ref p22, .int p23, .int p24, .ref p25, .ref p26, .int p27, .int p28, .ref p29, .int p30, .int p31, .ref p32, .int p33, .long p34, .ref p35, .int p36, .int p37, .ref p38, .ref p39, .ref p40, .ref p41, .ref p42, .ref p43, .int p44, .ref p45, .ref p46, .ref p47, .int p48])), (p49, .inl (p50, 247, .inl p51)), (p52, .inl (p53, 5, .inl p54)), (p55, .inl (p56, 9880, .inl p57))]
abbrev wd_cd0f205f (p0 : Nat) (p1 : ClassId) (p2 : Nat → Int32) : va_W := [(p0, .inl (p1, 5, .inl p2))]
abbrev wd_dd47ee91 (p0 : Nat) (p1 : ClassId) (p2 : Nat → Int32) (p3 : Nat) (p4 : ClassId) (p5 : Nat → Int32) : va_W := [(p0, .inl (p1, 247, .inl p2)), (p3, .inl (p4, 9880, .inl p5))]
def q_X12_passDay : List Cond := .code yX12_passDay cX12_passDay 2 none :: (([.code yX12_live cX12_live 2 none, .code yX12_growAll cX12_growAll 2 none, .code yX12_isThere cX12_isThere 2 (some .boolean), .code yX12_in cX12_in 3 (some .boolean), .initialized RX12, .static yX12_in, .methodLink RX12 217 yX12_in, .code yX12_of cX12_of 3 (some .int), .fieldLink RX12 52 "LeftArgumentsModel" "now" "[I", .instanceMethod yX12_of, .selects RX12 yX12_of yX12_of, .methodLink RX12 287 yX12_of, .instanceMethod yX12_isThere, .selects RX12 yX12_isThere yX12_isThere, .methodLink RX12 290 yX12_isThere, .fieldLink RX12 65 "LeftArgumentsModel" "grows" "[I", .methodLink RX12 299 Lib.Math.min.name, .static Lib.Math.min.name, .initialized "java/lang/Math", .code Lib.Math.min.name Lib.Math.min.code 2 (some .int), .methodLink RX12 301 Lib.Math.max.name, .static Lib.Math.max.name, .code Lib.Math.max.name Lib.Math.max.code 2 (some .int), .code yX12_set cX12_set 4 none, .instanceMethod yX12_set, .selects RX12 yX12_set yX12_set, .methodLink RX12 258 yX12_set, .code yX12_growthOf cX12_growthOf 4 (some .int), .code yX12_withOf cX12_withOf 4 (some .int), .instanceMethod yX12_withOf, .selects RX12 yX12_withOf yX12_withOf, .methodLink RX12 293 yX12_withOf, .fieldLink RX12 58 "LeftArgumentsModel" "holding" "I", .fieldLink RX12 34 "LeftArgumentsModel" "letters" "[I", .code yX12_worthOf cX12_worthOf 3 (some .int), .fieldLink RX12 22 "LeftArgumentsModel" "clauses" "[I", .fieldLink RX12 25 "LeftArgumentsModel" "testFrom" "[I", .fieldLink RX12 28 "LeftArgumentsModel" "sumFrom" "[I", .fieldLink RX12 31 "LeftArgumentsModel" "sumTo" "[I", .code yX12_workOut cX12_workOut 6 (some .int), .fieldLink RX12 37 "LeftArgumentsModel" "stack" "[I", .fieldLink RX12 13 "LeftArgumentsModel" "code" "[I", .fieldLink RX12 16 "LeftArgumentsModel" "value" "[I", .code yX12_worked cX12_worked 5 (some .int), .code yX12_bounded cX12_bounded 2 (some .int), .constantLong RX12 192 (-1000000), .constantLong RX12 194 (1000000), .methodLink RX12 196 Lib.MathLoose.min_long.x, .static Lib.MathLoose.min_long.x, .code Lib.MathLoose.min_long.x Lib.MathLoose.min_long.code 4 (some .long), .methodLink RX12 202 Lib.MathLoose.max_long.x, .static Lib.MathLoose.max_long.x, .code Lib.MathLoose.max_long.x Lib.MathLoose.max_long.code 4 (some .long), .static yX12_bounded, .methodLink RX12 205 yX12_bounded, .static yX12_worked, .methodLink RX12 209 yX12_worked, .instanceMethod yX12_workOut, .selects RX12 yX12_workOut yX12_workOut, .methodLink RX12 213 yX12_workOut, .instanceMethod yX12_worthOf, .selects RX12 yX12_worthOf yX12_worthOf, .methodLink RX12 296 yX12_worthOf, .instanceMethod yX12_growthOf, .selects RX12 yX12_growthOf yX12_growthOf, .methodLink RX12 303 yX12_growthOf, .instanceMethod yX12_growAll, .selects RX12 yX12_growAll yX12_growAll, .methodLink RX12 318 yX12_growAll, .code yX12_endAll cX12_endAll 2 none, .fieldLink RX12 306 "LeftArgumentsModel" "ended" "I", .instanceMethod yX12_endAll, .selects RX12 yX12_endAll yX12_endAll, .methodLink RX12 321 yX12_endAll, .code yX12_dropAll cX12_dropAll 3 none, .fieldLink RX12 309 "LeftArgumentsModel" "fell" "I", .fieldLink RX12 46 "LeftArgumentsModel" "rule" "[I", .code yX12_loadOf cX12_loadOf 4 (some .int), .instanceMethod yX12_loadOf, .selects RX12 yX12_loadOf yX12_loadOf, .methodLink RX12 312 yX12_loadOf, .code yX12_largestOn cX12_largestOn 4 (some .int), .instanceMethod yX12_largestOn, .selects RX12 yX12_largestOn yX12_largestOn, .methodLink RX12 315 yX12_largestOn, .instanceMethod yX12_dropAll, .selects RX12 yX12_dropAll yX12_dropAll, .methodLink RX12 324 yX12_dropAll, .instanceMethod yX12_live, .selects RX12 yX12_live yX12_live, .methodLink RX12 327 yX12_live, .code yX12_sizeAll cX12_sizeAll 3 (some .int), .instanceMethod yX12_sizeAll, .selects RX12 yX12_sizeAll yX12_sizeAll, .methodLink RX12 330 yX12_sizeAll] : List Cond) ++ wsX120)
set_option maxRecDepth 20000 in
theorem g_X12_passDay_0 : GoodIn q_X12_passDay (wsV RX12 327 RX12 yX12_live q_X12_live) := goodIn_app (goodIn_r _ [91, 89, 90, 5] rfl (by decide +kernel)) (goodIn_ca (goodIn_r (.code yX12_live cX12_live 2 none :: [.code yX12_growAll cX12_growAll 2 none, .code yX12_isThere cX12_isThere 2 (some .boolean), .code yX12_in cX12_in 3 (some .boolean), .initialized RX12, .static yX12_in, .methodLink RX12 217 yX12_in, .code yX12_of cX12_of 3 (some .int), .fieldLink RX12 52 "LeftArgumentsModel" "now" "[I", .instanceMethod yX12_of, .selects RX12 yX12_of yX12_of, .methodLink RX12 287 yX12_of, .instanceMethod yX12_isThere, .selects RX12 yX12_isThere yX12_isThere, .methodLink RX12 290 yX12_isThere, .fieldLink RX12 65 "LeftArgumentsModel" "grows" "[I", .methodLink RX12 299 Lib.Math.min.name, .static Lib.Math.min.name, .initialized "java/lang/Math", .code Lib.Math.min.name Lib.Math.min.code 2 (some .int), .methodLink RX12 301 Lib.Math.max.name, .static Lib.Math.max.name, .code Lib.Math.max.name Lib.Math.max.code 2 (some .int), .code yX12_set cX12_set 4 none, .instanceMethod yX12_set, .selects RX12 yX12_set yX12_set, .methodLink RX12 258 yX12_set, .code yX12_growthOf cX12_growthOf 4 (some .int), .code yX12_withOf cX12_withOf 4 (some .int), .instanceMethod yX12_withOf, .selects RX12 yX12_withOf yX12_withOf, .methodLink RX12 293 yX12_withOf, .fieldLink RX12 58 "LeftArgumentsModel" "holding" "I", .fieldLink RX12 34 "LeftArgumentsModel" "letters" "[I", .code yX12_worthOf cX12_worthOf 3 (some .int), .fieldLink RX12 22 "LeftArgumentsModel" "clauses" "[I", .fieldLink RX12 25 "LeftArgumentsModel" "testFrom" "[I", .fieldLink RX12 28 "LeftArgumentsModel" "sumFrom" "[I", .fieldLink RX12 31 "LeftArgumentsModel" "sumTo" "[I", .code yX12_workOut cX12_workOut 6 (some .int), .fieldLink RX12 37 "LeftArgumentsModel" "stack" "[I", .fieldLink RX12 13 "LeftArgumentsModel" "code" "[I", .fieldLink RX12 16 "LeftArgumentsModel" "value" "[I", .code yX12_worked cX12_worked 5 (some .int), .code yX12_bounded cX12_bounded 2 (some .int), .constantLong RX12 192 (-1000000), .constantLong RX12 194 (1000000), .methodLink RX12 196 Lib.MathLoose.min_long.x, .static Lib.MathLoose.min_long.x, .code Lib.MathLoose.min_long.x Lib.MathLoose.min_long.code 4 (some .long), .methodLink RX12 202 Lib.MathLoose.max_long.x, .static Lib.MathLoose.max_long.x, .code Lib.MathLoose.max_long.x Lib.MathLoose.max_long.code 4 (some .long), .static yX12_bounded, .methodLink RX12 205 yX12_bounded, .static yX12_worked, .methodLink RX12 209 yX12_worked, .instanceMethod yX12_workOut, .selects RX12 yX12_workOut yX12_workOut, .methodLink RX12 213 yX12_workOut, .instanceMethod yX12_worthOf, .selects RX12 yX12_worthOf yX12_worthOf, .methodLink RX12 296 yX12_worthOf, .instanceMethod yX12_growthOf, .selects RX12 yX12_growthOf yX12_growthOf, .methodLink RX12 303 yX12_growthOf, .instanceMethod yX12_growAll, .selects RX12 yX12_growAll yX12_growAll, .methodLink RX12 318 yX12_growAll, .code yX12_endAll cX12_endAll 2 none, .fieldLink RX12 306 "LeftArgumentsModel" "ended" "I", .instanceMethod yX12_endAll, .selects RX12 yX12_endAll yX12_endAll, .methodLink RX12 321 yX12_endAll, .code yX12_dropAll cX12_dropAll 3 none, .fieldLink RX12 309 "LeftArgumentsModel" "fell" "I", .fieldLink RX12 46 "LeftArgumentsModel" "rule" "[I", .code yX12_loadOf cX12_loadOf 4 (some .int), .instanceMethod yX12_loadOf, .selects RX12 yX12_loadOf yX12_loadOf, .methodLink RX12 312 yX12_loadOf, .code yX12_largestOn cX12_largestOn 4 (some .int), .instanceMethod yX12_largestOn, .selects RX12 yX12_largestOn yX12_largestOn, .methodLink RX12 315 yX12_largestOn, .instanceMethod yX12_dropAll, .selects RX12 yX12_dropAll yX12_dropAll, .methodLink RX12 324 yX12_dropAll]) [1, 2, 3, 4, 5, 6, 7, 8, 9, 10, 11, 12, 13, 14, 15, 16, 17, 18, 19, 20, 21, 22, 23, 24, 25, 26, 27, 28, 29, 30, 31, 32, 33, 34, 35, 36, 37, 38, 39, 40, 41, 42, 43, 44, 45, 46, 47, 48, 49, 50, 51, 52, 53, 54, 55, 56, 57, 58, 59, 60, 61, 62, 63, 64, 65, 66, 67, 68, 69, 70, 71, 72, 73, 74, 75, 76, 77, 78, 79, 80, 81, 82, 83, 84, 85, 86, 87, 88] rfl (by decide +kernel)) (goodIn_sub (fun _ h => List.mem_cons_of_mem _ (List.mem_append_right _ h)) gwX12))
set_option maxRecDepth 20000 in
theorem g_X12_passDay_1 : GoodIn q_X12_passDay (wsV RX12 330 RX12 yX12_sizeAll q_X12_sizeAll) := goodIn_app (goodIn_r _ [95, 93, 94, 5] rfl (by decide +kernel)) (goodIn_ca (goodIn_r (.code yX12_sizeAll cX12_sizeAll 3 (some .int) :: [.code yX12_isThere cX12_isThere 2 (some .boolean), .code yX12_in cX12_in 3 (some .boolean), .initialized RX12, .static yX12_in, .methodLink RX12 217 yX12_in, .code yX12_of cX12_of 3 (some .int), .fieldLink RX12 52 "LeftArgumentsModel" "now" "[I", .instanceMethod yX12_of, .selects RX12 yX12_of yX12_of, .methodLink RX12 287 yX12_of, .instanceMethod yX12_isThere, .selects RX12 yX12_isThere yX12_isThere, .methodLink RX12 290 yX12_isThere]) [92, 3, 4, 5, 6, 7, 8, 9, 10, 11, 12, 13, 14, 15] rfl (by decide +kernel)) (goodIn_sub (fun _ h => List.mem_cons_of_mem _ (List.mem_append_right _ h)) gwX12))
set_option maxHeartbeats 4000000 in
set_option maxRecDepth 100000 in
theorem k_X12_passDay (l : Launch) (dC : Nat → ClassId) (dI : Nat → Nat → Nat) (h0 : Nat) (h1 : Nat) (h2 : Nat) (h3 : Nat) (h4 : Nat) (h5 : Nat) (h6 : Nat) (h7 : Nat) (h8 : Nat) (h9 : Nat) (h10 : Nat) (h11 : Nat) (v0 : Int32) (r0 : Nat) (v1 : Int32) (v2 : Int32) (v3 : Int32) (v4 : Int32) (r1 : Nat) (v5 : Int32) (v6 : Int32) (r2 : Nat) (r3 : Nat) (v7 : Int32) (r4 : Nat) (v8 : Int32) (v9 : Int32) (r5 : Nat) (v10 : Int32) (v11 : Int32) (v12 : Int32) (v13 : Int32) (r6 : Nat) (v14 : Int32) (w15 : Int64) (r7 : Nat) (v16 : Int32) (v17 : Int32) (r8 : Nat) (r9 : Nat) (r10 : Nat) (r11 : Nat) (r12 : Nat) (r13 : Nat) (v18 : Int32) (r14 : Nat) (r15 : Nat) (r16 : Nat) (v19 : Int32) (g0 : ClassId) (f20 : Nat → Int32) (g1 : ClassId) (f21 : Nat → Int32) (g2 : ClassId) (f22 : Nat → Int32) (g3 : ClassId) (f23 : Nat → Int32) (g4 : ClassId) (f24 : Nat → Int32) (g5 : ClassId) (f25 : Nat → Int32) (g6 : ClassId) (f26 : Nat → Int32) (g7 : ClassId) (f27 : Nat → Int32) (g8 : ClassId) (f28 : Nat → Int32) (g9 : ClassId) (f29 : Nat → Int32) (g10 : ClassId) (f30 : Nat → Int32) (i_v1 : 0 ≤ v1.toInt ∧ v1.toInt ≤ 240) (i_v5 : 0 ≤ v5.toInt ∧ v5.toInt ≤ 4) (i_v6 : 0 ≤ v6.toInt ∧ v6.toInt ≤ 4) (i_v7 : 0 ≤ v7.toInt ∧ v7.toInt ≤ 8) (i_v8 : 0 ≤ v8.toInt ∧ v8.toInt ≤ 8) (i_v9 : 0 ≤ v9.toInt ∧ v9.toInt ≤ 1) (i_v10 : -1 ≤ v10.toInt ∧ v10.toInt ≤ 3) (i_v14 : 0 ≤ v14.toInt ∧ v14.toInt ≤ 40) (i_v18 : 0 ≤ v18.toInt ∧ v18.toInt ≤ 10) (i_v19 : 0 ≤ v19.toInt ∧ v19.toInt ≤ 1) (ia_f28 : (pm_RU f28)) (ia_f29 : (pm_NW f29)) (pp0 : pm_Held v10 f20 f21 f22 f23 f24 f25) (sz : Nat) : Met l yX12_passDay q_X12_passDay ({ frames := 8, cells := 0, slots := 0, locals := 174 }) (va_Pc [.ref h0] (fun U => U.heap.size = sz ∧ va_P (dC, dI) vwCl (wd_935d8763 h0 v0 r0 v1 v2 v3 v4 h1 h2 r1 h3 h4 h5 h6 v5 v6 h7 h8 r2 r3 v7 h9 r4 v8 v9 h10 r5 v10 v11 h11 v12 v13 r6 v14 w15 r7 v16 v17 r8 r9 r10 r11 r12 r13 v18 r14 r15 r16 v19 h1 g0 f20 h2 g1 f21 h3 g2 f22 h4 g3 f23 h5 g4 f24 h6 g5 f25 h7 g6 f26 h8 g7 f27 h9 g8 f28 h10 g9 f29 h11 g10 f30) U.heap ∧ va_K (dC, dI) vwCl [(g0, .int), (g1, .int), (g2, .int), (g3, .int), (g4, .int), (g5, .int), (g6, .int), (g7, .int), (g8, .int), (g9, .int), (g10, .int)] U ∧ va_D (fun _ => True) (wd_935d8763 h0 v0 r0 v1 v2 v3 v4 h1 h2 r1 h3 h4 h5 h6 v5 v6 h7 h8 r2 r3 v7 h9 r4 v8 v9 h10 r5 v10 v11 h11 v12 v13 r6 v14 w15 r7 v16 v17 r8 r9 r10 r11 r12 r13 v18 r14 r15 r16 v19 h1 g0 f20 h2 g1 f21 h3 g2 f22 h4 g3 f23 h5 g4 f24 h6 g5 f25 h7 g6 f26 h8 g7 f27 h9 g8 f28 h10 g9 f29 h11 g10 f30))) (va_Qv (fun (_ : Unit) => True) (fun (_ : Unit) (t : State) => (∃ (o_h0_29 : Int32) (o_h0_30 : Int32) (o_h7 : Nat → Int32) (o_h8 : Nat → Int32) (o_h10 : Nat → Int32) (o_h11 : Nat → Int32), (pm_NW o_h10) ∧ va_P (dC, dI) vwCl (wd_935d8763 h0 v0 r0 v1 v2 v3 v4 h1 h2 r1 h3 h4 h5 h6 v5 v6 h7 h8 r2 r3 v7 h9 r4 v8 v9 h10 r5 v10 v11 h11 o_h0_29 o_h0_30 r6 v14 w15 r7 v16 v17 r8 r9 r10 r11 r12 r13 v18 r14 r15 r16 v19 h1 g0 f20 h2 g1 f21 h3 g2 f22 h4 g3 f23 h5 g4 f24 h6 g5 f25 h7 g6 o_h7 h8 g7 o_h8 h9 g8 f28 h10 g9 o_h10 h11 g10 o_h11) t.heap ∧ va_K (dC, dI) vwCl [] t ∧ va_D (va_A (wd_935d8763 h0 v0 r0 v1 v2 v3 v4 h1 h2 r1 h3 h4 h5 h6 v5 v6 h7 h8 r2 r3 v7 h9 r4 v8 v9 h10 r5 v10 v11 h11 v12 v13 r6 v14 w15 r7 v16 v17 r8 r9 r10 r11 r12 r13 v18 r14 r15 r16 v19 h1 g0 f20 h2 g1 f21 h3 g2 f22 h4 g3 f23 h5 g4 f24 h6 g5 f25 h7 g6 f26 h8 g7 f27 h9 g8 f28 h10 g9 f29 h11 g10 f30) sz) (wd_935d8763 h0 v0 r0 v1 v2 v3 v4 h1 h2 r1 h3 h4 h5 h6 v5 v6 h7 h8 r2 r3 v7 h9 r4 v8 v9 h10 r5 v10 v11 h11 o_h0_29 o_h0_30 r6 v14 w15 r7 v16 v17 r8 r9 r10 r11 r12 r13 v18 r14 r15 r16 v19 h1 g0 f20 h2 g1 f21 h3 g2 f22 h4 g3 f23 h5 g4 f24 h6 g5 f25 h7 g6 o_h7 h8 g7 o_h8 h9 g8 f28 h10 g9 o_h10 h11 g10 o_h11))) (va_A (wd_935d8763 h0 v0 r0 v1 v2 v3 v4 h1 h2 r1 h3 h4 h5 h6 v5 v6 h7 h8 r2 r3 v7 h9 r4 v8 v9 h10 r5 v10 v11 h11 v12 v13 r6 v14 w15 r7 v16 v17 r8 r9 r10 r11 r12 r13 v18 r14 r15 r16 v19 h1 g0 f20 h2 g1 f21 h3 g2 f22 h4 g3 f23 h5 g4 f24 h6 g5 f25 h7 g6 f26 h8 g7 f27 h9 g8 f28 h10 g9 f29 h11 g10 f30) sz)) 0 0 (va_A (wd_935d8763 h0 v0 r0 v1 v2 v3 v4 h1 h2 r1 h3 h4 h5 h6 v5 v6 h7 h8 r2 r3 v7 h9 r4 v8 v9 h10 r5 v10 v11 h11 v12 v13 r6 v14 w15 r7 v16 v17 r8 r9 r10 r11 r12 r13 v18 r14 r15 r16 v19 h1 g0 f20 h2 g1 f21 h3 g2 f22 h4 g3 f23 h5 g4 f24 h6 g5 f25 h7 g6 f26 h8 g7 f27 h9 g8 f28 h10 g9 f29 h11 g10 f30) sz) := by
  refine Met.ofW (cc := cX12_passDay) (maxL := 2) (ret := none) (by decide) rfl ?_
  intro p e s m args below meth c s₁ B hml hv
  obtain ⟨i_v1a, i_v1b⟩ := i_v1
  obtain ⟨i_v5a, i_v5b⟩ := i_v5
  obtain ⟨i_v6a, i_v6b⟩ := i_v6
  obtain ⟨i_v7a, i_v7b⟩ := i_v7
  obtain ⟨i_v8a, i_v8b⟩ := i_v8
  obtain ⟨i_v9a, i_v9b⟩ := i_v9
  obtain ⟨i_v10a, i_v10b⟩ := i_v10
  obtain ⟨i_v14a, i_v14b⟩ := i_v14
  obtain ⟨i_v18a, i_v18b⟩ := i_v18
  obtain ⟨i_v19a, i_v19b⟩ := i_v19
  obtain ⟨rfl, hsz, hP, hK, hD0⟩ := hv
  have hx := B.exec
  have hb := B.bytes
  have hr := B.returns
  have hts := atoms_spec (ws := q_X12_passDay) B.pre
  have hown : s.vm.findClass RX12 = some m.cls := findClass_of_methodNamed B.named
  have hlocks := B.notSynchronized
  subst hsz
  have hD := hD0.self (sz := s.heap.size)
  generalize hAe : va_A (wd_935d8763 h0 v0 r0 v1 v2 v3 v4 h1 h2 r1 h3 h4 h5 h6 v5 v6 h7 h8 r2 r3 v7 h9 r4 v8 v9 h10 r5 v10 v11 h11 v12 v13 r6 v14 w15 r7 v16 v17 r8 r9 r10 r11 r12 r13 v18 r14 r15 r16 v19 h1 g0 f20 h2 g1 f21 h3 g2 f22 h4 g3 f23 h5 g4 f24 h6 g5 f25 h7 g6 f26 h8 g7 f27 h9 g8 f28 h10 g9 f29 h11 g10 f30) s.heap.size = A at hD ⊢
  have hA : ∀ q : Nat, s.heap.size ≤ q → A q := fun q h => by rw [← hAe]; exact Or.inr h
  have hS : va_S A s.heap s.heap [] := va_S.rf
  generalize hQ : (MQ below _ _ s 0 0 A) = Q
  have hl := lv_entry ([.ref h0]) (n := 2) (Nat.le_of_ble_eq_true rfl)
  rw [lg_entry_eq]
  generalize (lg_sl ([.ref h0]) ++ List.replicate (2 - (lg_sl ([.ref h0])).length) Slot.unset).toArray = ls at hl ⊢
  have hl : lv_has ls 2 [(0, .ref h0)] := hl
  obtain ⟨H, hH⟩ : ∃ H : Heap, H = s.heap := ⟨_, rfl⟩
  obtain ⟨locs, hlocs⟩ : ∃ y : List Loc, y = [] := ⟨_, rfl⟩
  have hS : va_S A s.heap H locs := by rw [hH, hlocs]; exact va_S.rf
  have hP : va_P (dC, dI) vwCl (wd_935d8763 h0 v0 r0 v1 v2 v3 v4 h1 h2 r1 h3 h4 h5 h6 v5 v6 h7 h8 r2 r3 v7 h9 r4 v8 v9 h10 r5 v10 v11 h11 v12 v13 r6 v14 w15 r7 v16 v17 r8 r9 r10 r11 r12 r13 v18 r14 r15 r16 v19 h1 g0 f20 h2 g1 f21 h3 g2 f22 h4 g3 f23 h5 g4 f24 h6 g5 f25 h7 g6 f26 h8 g7 f27 h9 g8 f28 h10 g9 f29 h11 g10 f30) H := by rw [hH]; exact hP
  rw [← hH, ← hlocs]
  refine lv_aload_n hx hb dX12_passDay_0 rfl (lv_at hl 0 rfl) ?_
  have hPc := hP.sub (ws' := (wd_935d8763 h0 v0 r0 v1 v2 v3 v4 h1 h2 r1 h3 h4 h5 h6 v5 v6 h7 h8 r2 r3 v7 h9 r4 v8 v9 h10 r5 v10 v11 h11 v12 v13 r6 v14 w15 r7 v16 v17 r8 r9 r10 r11 r12 r13 v18 r14 r15 r16 v19 h1 g0 f20 h2 g1 f21 h3 g2 f22 h4 g3 f23 h5 g4 f24 h6 g5 f25 h7 g6 f26 h8 g7 f27 h9 g8 f28 h10 g9 f29 h11 g10 f30)) [0, 1, 2, 3, 4, 5, 6, 7, 8, 9, 10, 11] rfl
  have hDc := hD.sub (ws' := (wd_935d8763 h0 v0 r0 v1 v2 v3 v4 h1 h2 r1 h3 h4 h5 h6 v5 v6 h7 h8 r2 r3 v7 h9 r4 v8 v9 h10 r5 v10 v11 h11 v12 v13 r6 v14 w15 r7 v16 v17 r8 r9 r10 r11 r12 r13 v18 r14 r15 r16 v19 h1 g0 f20 h2 g1 f21 h3 g2 f22 h4 g3 f23 h5 g4 f24 h6 g5 f25 h7 g6 f26 h8 g7 f27 h9 g8 f28 h10 g9 f29 h11 g10 f30)) [0, 1, 2, 3, 4, 5, 6, 7, 8, 9, 10, 11] (by decide +kernel) rfl
  have hKc := hK.sub (tys' := [(g0, .int), (g1, .int), (g2, .int), (g3, .int), (g4, .int), (g5, .int), (g6, .int), (g7, .int), (g8, .int), (g9, .int), (g10, .int)]) [0, 1, 2, 3, 4, 5, 6, 7, 8, 9, 10] rfl
  have hFc := va_free (wc := (wd_935d8763 h0 v0 r0 v1 v2 v3 v4 h1 h2 r1 h3 h4 h5 h6 v5 v6 h7 h8 r2 r3 v7 h9 r4 v8 v9 h10 r5 v10 v11 h11 v12 v13 r6 v14 w15 r7 v16 v17 r8 r9 r10 r11 r12 r13 v18 r14 r15 r16 v19 h1 g0 f20 h2 g1 f21 h3 g2 f22 h4 g3 f23 h5 g4 f24 h6 g5 f25 h7 g6 f26 h8 g7 f27 h9 g8 f28 h10 g9 f29 h11 g10 f30)) hD hS hA [0, 1, 2, 3, 4, 5, 6, 7, 8, 9, 10, 11] rfl
  refine va_callv (va_runV (As := []) (rest := []) ⟨hx, hb, hml, hown, hts⟩ (k_X12_live l dC dI h0 h1 h2 h3 h4 h5 h6 h7 h8 h9 h10 h11 v0 r0 v1 v2 v3 v4 r1 v5 v6 r2 r3 v7 r4 v8 v9 r5 v10 v11 v12 v13 r6 v14 w15 r7 v16 v17 r8 r9 r10 r11 r12 r13 v18 r14 r15 r16 v19 g0 f20 g1 f21 g2 f22 g3 f23 g4 f24 g5 f25 g6 f26 g7 f27 g8 f28 g9 f29 g10 f30 ⟨i_v1a, i_v1b⟩ ⟨i_v5a, i_v5b⟩ ⟨i_v6a, i_v6b⟩ ⟨i_v7a, i_v7b⟩ ⟨i_v8a, i_v8b⟩ ⟨i_v9a, i_v9b⟩ ⟨i_v10a, i_v10b⟩ ⟨i_v14a, i_v14b⟩ ⟨i_v18a, i_v18b⟩ ⟨i_v19a, i_v19b⟩ ia_f28 ia_f29.1 pp0 H.size) (cwV 0 hts g_X12_passDay_0 rfl rfl rfl (by decide +kernel) ⟨Nat.le_of_ble_eq_true rfl, Nat.le_of_ble_eq_true rfl⟩) (pv_PV12 hPc hKc hDc (q0 := 0) rfl) rfl rfl hl.1 rfl (lv_room (Nat.le_of_ble_eq_true rfl)) dX12_passDay_1 ⟨Nat.le_of_ble_eq_true rfl, Nat.le_of_ble_eq_true rfl⟩) hS (fun q _ h => hFc q h) hFc (fun u t H1 locs ht hvm hwra1 hB hz1 hk1 hS => ?_)
  obtain ⟨x2, x3, fn4, fn5, fn6, fn7, ia_fn6, hP1, hK1, hD1⟩ := hB
  rw [ht] at hP1
  obtain ⟨hP2, hD2⟩ := va_join (wr := []) (w1 := (wd_935d8763 h0 v0 r0 v1 v2 v3 v4 h1 h2 r1 h3 h4 h5 h6 v5 v6 h7 h8 r2 r3 v7 h9 r4 v8 v9 h10 r5 v10 v11 h11 x2 x3 r6 v14 w15 r7 v16 v17 r8 r9 r10 r11 r12 r13 v18 r14 r15 r16 v19 h1 g0 f20 h2 g1 f21 h3 g2 f22 h4 g3 f23 h5 g4 f24 h6 g5 f25 h7 g6 fn4 h8 g7 fn5 h9 g8 f28 h10 g9 fn6 h11 g10 fn7)) hP hD [0, 1, 2, 3, 4, 5, 6, 7, 8, 9, 10, 11] [] rfl rfl (by decide +kernel) (by decide +kernel) hk1 hFc hP1 hD1
  clear hP hD hPc hDc hKc hFc hP1 hK1 hD1 hk1 hz1
  generalize H1 = H at hP2 hS ⊢
  have hP : va_P (dC, dI) vwCl (wd_935d8763 h0 v0 r0 v1 v2 v3 v4 h1 h2 r1 h3 h4 h5 h6 v5 v6 h7 h8 r2 r3 v7 h9 r4 v8 v9 h10 r5 v10 v11 h11 x2 x3 r6 v14 w15 r7 v16 v17 r8 r9 r10 r11 r12 r13 v18 r14 r15 r16 v19 h1 g0 f20 h2 g1 f21 h3 g2 f22 h4 g3 f23 h5 g4 f24 h6 g5 f25 h7 g6 fn4 h8 g7 fn5 h9 g8 f28 h10 g9 fn6 h11 g10 fn7) H := hP2
  have hD : va_D A (wd_935d8763 h0 v0 r0 v1 v2 v3 v4 h1 h2 r1 h3 h4 h5 h6 v5 v6 h7 h8 r2 r3 v7 h9 r4 v8 v9 h10 r5 v10 v11 h11 x2 x3 r6 v14 w15 r7 v16 v17 r8 r9 r10 r11 r12 r13 v18 r14 r15 r16 v19 h1 g0 f20 h2 g1 f21 h3 g2 f22 h4 g3 f23 h5 g4 f24 h6 g5 f25 h7 g6 fn4 h8 g7 fn5 h9 g8 f28 h10 g9 fn6 h11 g10 fn7) := hD2
  clear hP2 hD2
  refine lv_aload_n hx hb dX12_passDay_4 rfl (lv_at hl 0 rfl) ?_
  refine va_get (D := (dC, dI)) (ci := 12) (v := .ref h10) (C := RX12) (T := TX12) (N := 48) hx hb hts (fun _ h => List.mem_cons_of_mem _ (List.mem_append_right _ h)) hown hK hP 0 rfl rfl 24 (by decide) (hts (.fieldLink RX12 52 "LeftArgumentsModel" "now" "[I") (List.mem_cons_of_mem _ (List.mem_append_left _ (List.mem_of_getElem? (i := 8) rfl)))) (fun _ h9 => h9) rfl dX12_passDay_5 ?_
  refine lv_bipush (v := 66) hx hb dX12_passDay_8 (by decide) ?_
  refine va_iald hx hb hK hP 10 9 rfl rfl (pv_c (x := 66) (n := 247) (by decide)) dX12_passDay_10 ?_
  refine lv_topi (fun t8 et8 => ?_)
  have gat8 : 0 ≤ t8.toInt ∧ t8.toInt ≤ 60 := by rw [et8]; exact (ia_fn6.1).lg (by decide)
  have mmt8 : fn6 (Int32.toNatClampNeg 66) = t8 := et8.symm
  refine lv_bipush (v := 60) hx hb dX12_passDay_11 (by decide) ?_
  refine lv_icmp_ne (tgt := 62) hx hb dX12_passDay_13 (by decide) (fun c9 => ?_) (fun c9 => ?_)
  · skip
    have fc9 : ¬ (t8.toInt = 60) := fun h9 => c9 (Int32.toInt_inj.mp h9)
    refine lv_bipush (v := 67) hx hb dX12_passDay_62 (by decide) ?_
    refine lv_iconst (v := 3) hx hb dX12_passDay_64 (by decide) ?_
    refine lv_aload_n hx hb dX12_passDay_65 rfl (lv_at hl 0 rfl) ?_
    refine va_get (D := (dC, dI)) (ci := 12) (v := .ref h10) (C := RX12) (T := TX12) (N := 48) hx hb hts (fun _ h => List.mem_cons_of_mem _ (List.mem_append_right _ h)) hown hK hP 0 rfl rfl 24 (by decide) (hts (.fieldLink RX12 52 "LeftArgumentsModel" "now" "[I") (List.mem_cons_of_mem _ (List.mem_append_left _ (List.mem_of_getElem? (i := 8) rfl)))) (fun _ h9 => h9) rfl dX12_passDay_66 ?_
    refine lv_bipush (v := 66) hx hb dX12_passDay_69 (by decide) ?_
    refine va_iald hx hb hK hP 10 9 rfl rfl (pv_c (x := 66) (n := 247) (by decide)) dX12_passDay_71 ?_
    refine lv_topi (fun t10 et10 => ?_)
    have gat10 : 0 ≤ t10.toInt ∧ t10.toInt ≤ 60 := by rw [et10]; exact (ia_fn6.1).lg (by decide)
    have gmt10 : t10.toInt = t8.toInt := by rw [et10, mmt8]
    refine lv_imul hx hb dX12_passDay_72 ?_
    refine lv_topi (fun t11 et11 => ?_)
    have gt11 : t11.toInt = 3 * t10.toInt := pv_mul (a := 3) (b := t10.toInt) et11 (by decide) rfl (by omega) (by omega)
    refine lv_iadd hx hb dX12_passDay_73 ?_
    refine lv_topi (fun t12 et12 => ?_)
    have gt12 : t12.toInt = 67 + t11.toInt := pv_add (a := 67) (b := t11.toInt) et12 (by decide) rfl (by omega) (by omega)
    refine lv_istore_n (lv' := [(1, .int t12), (0, .ref h0)]) hx hb dX12_passDay_74 rfl hl (by decide) rfl (fun ls hl => ?_)
    refine lv_aload_n hx hb dX12_passDay_75 rfl (lv_at hl 1 rfl) ?_
    refine va_get (D := (dC, dI)) (ci := 12) (v := .ref h10) (C := RX12) (T := TX12) (N := 48) hx hb hts (fun _ h => List.mem_cons_of_mem _ (List.mem_append_right _ h)) hown hK hP 0 rfl rfl 24 (by decide) (hts (.fieldLink RX12 52 "LeftArgumentsModel" "now" "[I") (List.mem_cons_of_mem _ (List.mem_append_left _ (List.mem_of_getElem? (i := 8) rfl)))) (fun _ h9 => h9) rfl dX12_passDay_76 ?_
    refine lv_iload_n hx hb dX12_passDay_79 rfl (lv_at hl 0 rfl) ?_
    refine lv_aload_n hx hb dX12_passDay_80 rfl (lv_at hl 1 rfl) ?_
    refine va_get (D := (dC, dI)) (ci := 12) (v := .int x2) (C := RX12) (T := TX12) (N := 48) hx hb hts (fun _ h => List.mem_cons_of_mem _ (List.mem_append_right _ h)) hown hK hP 0 rfl rfl 29 (by decide) (hts (.fieldLink RX12 309 "LeftArgumentsModel" "fell" "I") (List.mem_cons_of_mem _ (List.mem_append_left _ (List.mem_of_getElem? (i := 75) rfl)))) (fun _ h9 => h9) rfl dX12_passDay_81 ?_
    refine va_iast hx hb hK hP hD hS 10 9 rfl rfl (vp_in_iff.mpr ⟨by omega, by omega⟩) dX12_passDay_84 (fun H locs hP hD hS => ?_)
    obtain ⟨fn13, efn13⟩ : ∃ g : Nat → Int32, g = upd fn6 (Int32.toNatClampNeg t12) x2 := ⟨_, rfl⟩
    rw [← efn13] at hP hD
    have ia_fn13 : pm_NW fn13 := by rw [efn13]; exact pm_NW.st ia_fn6 (z := t12.toInt) (y := x2.toInt) rfl rfl (by omega) (fun b9 h8 h9 => ⟨fun _ => ⟨by omega, by omega⟩, fun _ => ⟨by omega, by omega⟩⟩) (fun _ => ⟨by omega, by omega⟩) (fun b9 h8 h9 => ⟨fun _ => by omega, fun _ => by omega⟩)
    have mmfn13_66 : fn13 (Int32.toNatClampNeg 66) = t8 := by rw [efn13]; exact (pk_un (pm_ne (z := t12.toInt) (c := 66) rfl (by decide) (by omega) (by omega))).trans mmt8
    have hP : va_P (dC, dI) vwCl (wd_935d8763 h0 v0 r0 v1 v2 v3 v4 h1 h2 r1 h3 h4 h5 h6 v5 v6 h7 h8 r2 r3 v7 h9 r4 v8 v9 h10 r5 v10 v11 h11 x2 x3 r6 v14 w15 r7 v16 v17 r8 r9 r10 r11 r12 r13 v18 r14 r15 r16 v19 h1 g0 f20 h2 g1 f21 h3 g2 f22 h4 g3 f23 h5 g4 f24 h6 g5 f25 h7 g6 fn4 h8 g7 fn5 h9 g8 f28 h10 g9 fn13 h11 g10 fn7) H := hP
    have hD : va_D A (wd_935d8763 h0 v0 r0 v1 v2 v3 v4 h1 h2 r1 h3 h4 h5 h6 v5 v6 h7 h8 r2 r3 v7 h9 r4 v8 v9 h10 r5 v10 v11 h11 x2 x3 r6 v14 w15 r7 v16 v17 r8 r9 r10 r11 r12 r13 v18 r14 r15 r16 v19 h1 g0 f20 h2 g1 f21 h3 g2 f22 h4 g3 f23 h5 g4 f24 h6 g5 f25 h7 g6 fn4 h8 g7 fn5 h9 g8 f28 h10 g9 fn13 h11 g10 fn7) := hD
    refine lv_aload_n hx hb dX12_passDay_85 rfl (lv_at hl 1 rfl) ?_
    refine va_get (D := (dC, dI)) (ci := 12) (v := .ref h10) (C := RX12) (T := TX12) (N := 48) hx hb hts (fun _ h => List.mem_cons_of_mem _ (List.mem_append_right _ h)) hown hK hP 0 rfl rfl 24 (by decide) (hts (.fieldLink RX12 52 "LeftArgumentsModel" "now" "[I") (List.mem_cons_of_mem _ (List.mem_append_left _ (List.mem_of_getElem? (i := 8) rfl)))) (fun _ h9 => h9) rfl dX12_passDay_86 ?_
    refine lv_iload_n hx hb dX12_passDay_89 rfl (lv_at hl 0 rfl) ?_
    refine lv_iconst (v := 1) hx hb dX12_passDay_90 (by decide) ?_
    refine lv_iadd hx hb dX12_passDay_91 ?_
    refine lv_topi (fun t14 et14 => ?_)
    have gt14 : t14.toInt = t12.toInt + 1 := pv_add (a := t12.toInt) (b := 1) et14 rfl (by decide) (by omega) (by omega)
    refine lv_aload_n hx hb dX12_passDay_92 rfl (lv_at hl 1 rfl) ?_
    refine va_get (D := (dC, dI)) (ci := 12) (v := .int x3) (C := RX12) (T := TX12) (N := 48) hx hb hts (fun _ h => List.mem_cons_of_mem _ (List.mem_append_right _ h)) hown hK hP 0 rfl rfl 30 (by decide) (hts (.fieldLink RX12 306 "LeftArgumentsModel" "ended" "I") (List.mem_cons_of_mem _ (List.mem_append_left _ (List.mem_of_getElem? (i := 70) rfl)))) (fun _ h9 => h9) rfl dX12_passDay_93 ?_
    refine va_iast hx hb hK hP hD hS 10 9 rfl rfl (vp_in_iff.mpr ⟨by omega, by omega⟩) dX12_passDay_96 (fun H locs hP hD hS => ?_)
    obtain ⟨fn15, efn15⟩ : ∃ g : Nat → Int32, g = upd fn13 (Int32.toNatClampNeg t14) x3 := ⟨_, rfl⟩
    rw [← efn15] at hP hD
    have ia_fn15 : pm_NW fn15 := by rw [efn15]; exact pm_NW.st ia_fn13 (z := t14.toInt) (y := x3.toInt) rfl rfl (by omega) (fun b9 h8 h9 => ⟨fun _ => ⟨by omega, by omega⟩, fun _ => ⟨by omega, by omega⟩⟩) (fun _ => ⟨by omega, by omega⟩) (fun b9 h8 h9 => ⟨fun _ => by omega, fun _ => by omega⟩)
    have mmfn15_66 : fn15 (Int32.toNatClampNeg 66) = t8 := by rw [efn15]; exact (pk_un (pm_ne (z := t14.toInt) (c := 66) rfl (by decide) (by omega) (by omega))).trans mmfn13_66
    have hP : va_P (dC, dI) vwCl (wd_935d8763 h0 v0 r0 v1 v2 v3 v4 h1 h2 r1 h3 h4 h5 h6 v5 v6 h7 h8 r2 r3 v7 h9 r4 v8 v9 h10 r5 v10 v11 h11 x2 x3 r6 v14 w15 r7 v16 v17 r8 r9 r10 r11 r12 r13 v18 r14 r15 r16 v19 h1 g0 f20 h2 g1 f21 h3 g2 f22 h4 g3 f23 h5 g4 f24 h6 g5 f25 h7 g6 fn4 h8 g7 fn5 h9 g8 f28 h10 g9 fn15 h11 g10 fn7) H := hP
    have hD : va_D A (wd_935d8763 h0 v0 r0 v1 v2 v3 v4 h1 h2 r1 h3 h4 h5 h6 v5 v6 h7 h8 r2 r3 v7 h9 r4 v8 v9 h10 r5 v10 v11 h11 x2 x3 r6 v14 w15 r7 v16 v17 r8 r9 r10 r11 r12 r13 v18 r14 r15 r16 v19 h1 g0 f20 h2 g1 f21 h3 g2 f22 h4 g3 f23 h5 g4 f24 h6 g5 f25 h7 g6 fn4 h8 g7 fn5 h9 g8 f28 h10 g9 fn15 h11 g10 fn7) := hD
    refine lv_aload_n hx hb dX12_passDay_97 rfl (lv_at hl 1 rfl) ?_
    refine va_get (D := (dC, dI)) (ci := 12) (v := .ref h10) (C := RX12) (T := TX12) (N := 48) hx hb hts (fun _ h => List.mem_cons_of_mem _ (List.mem_append_right _ h)) hown hK hP 0 rfl rfl 24 (by decide) (hts (.fieldLink RX12 52 "LeftArgumentsModel" "now" "[I") (List.mem_cons_of_mem _ (List.mem_append_left _ (List.mem_of_getElem? (i := 8) rfl)))) (fun _ h9 => h9) rfl dX12_passDay_98 ?_
    refine lv_iload_n hx hb dX12_passDay_101 rfl (lv_at hl 0 rfl) ?_
    refine lv_iconst (v := 2) hx hb dX12_passDay_102 (by decide) ?_
    refine lv_iadd hx hb dX12_passDay_103 ?_
    refine lv_topi (fun t16 et16 => ?_)
    have gt16 : t16.toInt = t12.toInt + 2 := pv_add (a := t12.toInt) (b := 2) et16 rfl (by decide) (by omega) (by omega)
    refine lv_aload_n hx hb dX12_passDay_104 rfl (lv_at hl 1 rfl) ?_
    have hPc := hP.sub (ws' := (wd_5013416a h0 v0 r0 v1 v2 v3 v4 h1 h2 r1 h3 h4 h5 h6 v5 v6 h7 h8 r2 r3 v7 h9 r4 v8 v9 h10 r5 v10 v11 h11 x2 x3 r6 v14 w15 r7 v16 v17 r8 r9 r10 r11 r12 r13 v18 r14 r15 r16 v19 h10 g9 fn15)) [0, 10] rfl
    have hDc := hD.sub (ws' := (wd_5013416a h0 v0 r0 v1 v2 v3 v4 h1 h2 r1 h3 h4 h5 h6 v5 v6 h7 h8 r2 r3 v7 h9 r4 v8 v9 h10 r5 v10 v11 h11 x2 x3 r6 v14 w15 r7 v16 v17 r8 r9 r10 r11 r12 r13 v18 r14 r15 r16 v19 h10 g9 fn15)) [0, 10] (by decide) rfl
    have hKc := hK.sub (tys' := [(g9, .int)]) [9] rfl
    have hFc := va_free (wc := (wd_5013416a h0 v0 r0 v1 v2 v3 v4 h1 h2 r1 h3 h4 h5 h6 v5 v6 h7 h8 r2 r3 v7 h9 r4 v8 v9 h10 r5 v10 v11 h11 x2 x3 r6 v14 w15 r7 v16 v17 r8 r9 r10 r11 r12 r13 v18 r14 r15 r16 v19 h10 g9 fn15)) hD hS hA [0, 10] rfl
    refine va_calli (va_runV (As := []) (rest := [.int t16, .ref h10]) ⟨hx, hb, hml, hown, hts⟩ (k_X12_sizeAll l dC dI h0 h10 v0 r0 v1 v2 v3 v4 h1 h2 r1 h3 h4 h5 h6 v5 v6 h7 h8 r2 r3 v7 h9 r4 v8 v9 r5 v10 v11 h11 x2 x3 r6 v14 w15 r7 v16 v17 r8 r9 r10 r11 r12 r13 v18 r14 r15 r16 v19 g9 fn15 ⟨i_v1a, i_v1b⟩ ⟨i_v5a, i_v5b⟩ ⟨i_v6a, i_v6b⟩ ⟨i_v7a, i_v7b⟩ ⟨i_v8a, i_v8b⟩ ⟨i_v9a, i_v9b⟩ ⟨i_v10a, i_v10b⟩ ⟨i_v14a, i_v14b⟩ ⟨i_v18a, i_v18b⟩ ⟨i_v19a, i_v19b⟩ ia_fn15 H.size) (cwV 0 hts g_X12_passDay_1 rfl rfl rfl (by decide +kernel) ⟨Nat.le_of_ble_eq_true rfl, Nat.le_of_ble_eq_true rfl⟩) (pv_PV12 hPc hKc hDc (q0 := 0) rfl) rfl rfl hl.1 rfl (lv_room (Nat.le_of_ble_eq_true rfl)) dX12_passDay_105 ⟨Nat.le_of_ble_eq_true rfl, Nat.le_of_ble_eq_true rfl⟩) hS (fun q _ h => hFc q h) hFc (fun ra17 u t H1 locs ht hvm hwra17 hB hz1 hk1 hS => ?_)
    try rw [hwra17] at hB
    obtain ⟨pt0_ra17, pt1_ra17, pt2_ra17, hP1, hK1, hD1⟩ := hB
    rw [ht] at hP1
    obtain ⟨hP2, hD2⟩ := va_join (wr := (wd_4dc6964c h1 g0 f20 h2 g1 f21 h3 g2 f22 h4 g3 f23 h5 g4 f24 h6 g5 f25 h7 g6 fn4 h8 g7 fn5 h9 g8 f28 h11 g10 fn7)) (w1 := (wd_5013416a h0 v0 r0 v1 v2 v3 v4 h1 h2 r1 h3 h4 h5 h6 v5 v6 h7 h8 r2 r3 v7 h9 r4 v8 v9 h10 r5 v10 v11 h11 x2 x3 r6 v14 w15 r7 v16 v17 r8 r9 r10 r11 r12 r13 v18 r14 r15 r16 v19 h10 g9 fn15)) hP hD [0, 10] [1, 2, 3, 4, 5, 6, 7, 8, 9, 11] rfl rfl (by decide +kernel) (by decide +kernel) hk1 hFc hP1 hD1
    clear hP hD hPc hDc hKc hFc hP1 hK1 hD1 hk1 hz1
    generalize H1 = H at hP2 hS ⊢
    have hP := hP2.sub (ws' := (wd_935d8763 h0 v0 r0 v1 v2 v3 v4 h1 h2 r1 h3 h4 h5 h6 v5 v6 h7 h8 r2 r3 v7 h9 r4 v8 v9 h10 r5 v10 v11 h11 x2 x3 r6 v14 w15 r7 v16 v17 r8 r9 r10 r11 r12 r13 v18 r14 r15 r16 v19 h1 g0 f20 h2 g1 f21 h3 g2 f22 h4 g3 f23 h5 g4 f24 h6 g5 f25 h7 g6 fn4 h8 g7 fn5 h9 g8 f28 h10 g9 fn15 h11 g10 fn7)) [10, 0, 1, 2, 3, 4, 5, 6, 7, 8, 11, 9] rfl
    have hD := hD2.sub (ws' := (wd_935d8763 h0 v0 r0 v1 v2 v3 v4 h1 h2 r1 h3 h4 h5 h6 v5 v6 h7 h8 r2 r3 v7 h9 r4 v8 v9 h10 r5 v10 v11 h11 x2 x3 r6 v14 w15 r7 v16 v17 r8 r9 r10 r11 r12 r13 v18 r14 r15 r16 v19 h1 g0 f20 h2 g1 f21 h3 g2 f22 h4 g3 f23 h5 g4 f24 h6 g5 f25 h7 g6 fn4 h8 g7 fn5 h9 g8 f28 h10 g9 fn15 h11 g10 fn7)) [10, 0, 1, 2, 3, 4, 5, 6, 7, 8, 11, 9] (by decide +kernel) rfl
    clear hP2 hD2
    refine va_iast hx hb hK hP hD hS 10 9 rfl rfl (vp_in_iff.mpr ⟨by omega, by omega⟩) dX12_passDay_108 (fun H locs hP hD hS => ?_)
    obtain ⟨fn18, efn18⟩ : ∃ g : Nat → Int32, g = upd fn15 (Int32.toNatClampNeg t16) ra17 := ⟨_, rfl⟩
    rw [← efn18] at hP hD
    have ia_fn18 : pm_NW fn18 := by rw [efn18]; exact pm_NW.st ia_fn15 (z := t16.toInt) (y := ra17.toInt) rfl rfl (by omega) (fun b9 h8 h9 => ⟨fun _ => ⟨by omega, by omega⟩, fun _ => ⟨by omega, by omega⟩⟩) (fun _ => ⟨by omega, by omega⟩) (fun b9 h8 h9 => ⟨fun _ => by omega, fun _ => by omega⟩)
    have mmfn18_66 : fn18 (Int32.toNatClampNeg 66) = t8 := by rw [efn18]; exact (pk_un (pm_ne (z := t16.toInt) (c := 66) rfl (by decide) (by omega) (by omega))).trans mmfn15_66
    have hP : va_P (dC, dI) vwCl (wd_935d8763 h0 v0 r0 v1 v2 v3 v4 h1 h2 r1 h3 h4 h5 h6 v5 v6 h7 h8 r2 r3 v7 h9 r4 v8 v9 h10 r5 v10 v11 h11 x2 x3 r6 v14 w15 r7 v16 v17 r8 r9 r10 r11 r12 r13 v18 r14 r15 r16 v19 h1 g0 f20 h2 g1 f21 h3 g2 f22 h4 g3 f23 h5 g4 f24 h6 g5 f25 h7 g6 fn4 h8 g7 fn5 h9 g8 f28 h10 g9 fn18 h11 g10 fn7) H := hP
    have hD : va_D A (wd_935d8763 h0 v0 r0 v1 v2 v3 v4 h1 h2 r1 h3 h4 h5 h6 v5 v6 h7 h8 r2 r3 v7 h9 r4 v8 v9 h10 r5 v10 v11 h11 x2 x3 r6 v14 w15 r7 v16 v17 r8 r9 r10 r11 r12 r13 v18 r14 r15 r16 v19 h1 g0 f20 h2 g1 f21 h3 g2 f22 h4 g3 f23 h5 g4 f24 h6 g5 f25 h7 g6 fn4 h8 g7 fn5 h9 g8 f28 h10 g9 fn18 h11 g10 fn7) := hD
    refine lv_aload_n hx hb dX12_passDay_109 rfl (lv_at hl 1 rfl) ?_
    refine va_get (D := (dC, dI)) (ci := 12) (v := .ref h10) (C := RX12) (T := TX12) (N := 48) hx hb hts (fun _ h => List.mem_cons_of_mem _ (List.mem_append_right _ h)) hown hK hP 0 rfl rfl 24 (by decide) (hts (.fieldLink RX12 52 "LeftArgumentsModel" "now" "[I") (List.mem_cons_of_mem _ (List.mem_append_left _ (List.mem_of_getElem? (i := 8) rfl)))) (fun _ h9 => h9) rfl dX12_passDay_110 ?_
    refine lv_bipush (v := 66) hx hb dX12_passDay_113 (by decide) ?_
    refine lv_dup2_11 hx hb dX12_passDay_115 rfl rfl ?_
    refine va_iald hx hb hK hP 10 9 rfl rfl (pv_c (x := 66) (n := 247) (by decide)) dX12_passDay_116 ?_
    refine lv_topi (fun t19 et19 => ?_)
    have gat19 : 0 ≤ t19.toInt ∧ t19.toInt ≤ 60 := by rw [et19]; exact (ia_fn18.1).lg (by decide)
    have gmt19 : t19.toInt = t8.toInt := by rw [et19, mmfn18_66]
    refine lv_iconst (v := 1) hx hb dX12_passDay_117 (by decide) ?_
    refine lv_iadd hx hb dX12_passDay_118 ?_
    refine lv_topi (fun t20 et20 => ?_)
    have gt20 : t20.toInt = t19.toInt + 1 := pv_add (a := t19.toInt) (b := 1) et20 rfl (by decide) (by omega) (by omega)
    refine va_iast hx hb hK hP hD hS 10 9 rfl rfl (pv_c (x := 66) (n := 247) (by decide)) dX12_passDay_119 (fun H locs hP hD hS => ?_)
    obtain ⟨fn21, efn21⟩ : ∃ g : Nat → Int32, g = upd fn18 (Int32.toNatClampNeg 66) t20 := ⟨_, rfl⟩
    rw [← efn21] at hP hD
    have ia_fn21 : pm_NW fn21 := by rw [efn21]; exact pm_NW.st ia_fn18 (z := 66) (y := t20.toInt) (by decide) rfl (by omega) (fun b9 h8 h9 => ⟨fun _ => ⟨by omega, by omega⟩, fun _ => ⟨by omega, by omega⟩⟩) (fun _ => ⟨by omega, by omega⟩) (fun b9 h8 h9 => ⟨fun _ => by omega, fun _ => by omega⟩)
    have mmfn21_66 : fn21 (Int32.toNatClampNeg 66) = t20 := by rw [efn21]; exact pk_us
    have hP : va_P (dC, dI) vwCl (wd_935d8763 h0 v0 r0 v1 v2 v3 v4 h1 h2 r1 h3 h4 h5 h6 v5 v6 h7 h8 r2 r3 v7 h9 r4 v8 v9 h10 r5 v10 v11 h11 x2 x3 r6 v14 w15 r7 v16 v17 r8 r9 r10 r11 r12 r13 v18 r14 r15 r16 v19 h1 g0 f20 h2 g1 f21 h3 g2 f22 h4 g3 f23 h5 g4 f24 h6 g5 f25 h7 g6 fn4 h8 g7 fn5 h9 g8 f28 h10 g9 fn21 h11 g10 fn7) H := hP
    have hD : va_D A (wd_935d8763 h0 v0 r0 v1 v2 v3 v4 h1 h2 r1 h3 h4 h5 h6 v5 v6 h7 h8 r2 r3 v7 h9 r4 v8 v9 h10 r5 v10 v11 h11 x2 x3 r6 v14 w15 r7 v16 v17 r8 r9 r10 r11 r12 r13 v18 r14 r15 r16 v19 h1 g0 f20 h2 g1 f21 h3 g2 f22 h4 g3 f23 h5 g4 f24 h6 g5 f25 h7 g6 fn4 h8 g7 fn5 h9 g8 f28 h10 g9 fn21 h11 g10 fn7) := hD
    subst hQ
    have hP9 := hP.sub (ws' := (wd_935d8763 h0 v0 r0 v1 v2 v3 v4 h1 h2 r1 h3 h4 h5 h6 v5 v6 h7 h8 r2 r3 v7 h9 r4 v8 v9 h10 r5 v10 v11 h11 x2 x3 r6 v14 w15 r7 v16 v17 r8 r9 r10 r11 r12 r13 v18 r14 r15 r16 v19 h1 g0 f20 h2 g1 f21 h3 g2 f22 h4 g3 f23 h5 g4 f24 h6 g5 f25 h7 g6 fn4 h8 g7 fn5 h9 g8 f28 h10 g9 fn21 h11 g10 fn7)) [0, 1, 2, 3, 4, 5, 6, 7, 8, 9, 10, 11] rfl
    have hD9 := hD.sub (ws' := (wd_935d8763 h0 v0 r0 v1 v2 v3 v4 h1 h2 r1 h3 h4 h5 h6 v5 v6 h7 h8 r2 r3 v7 h9 r4 v8 v9 h10 r5 v10 v11 h11 x2 x3 r6 v14 w15 r7 v16 v17 r8 r9 r10 r11 r12 r13 v18 r14 r15 r16 v19 h1 g0 f20 h2 g1 f21 h3 g2 f22 h4 g3 f23 h5 g4 f24 h6 g5 f25 h7 g6 fn4 h8 g7 fn5 h9 g8 f28 h10 g9 fn21 h11 g10 fn7)) [0, 1, 2, 3, 4, 5, 6, 7, 8, 9, 10, 11] (by decide +kernel) rfl
    have hK9 := hK.sub (tys' := []) [] rfl
    exact W.vret hx hb hr (fun t ht hW => ⟨⟨(), rfl, trivial, ⟨x2, x3, fn4, fn5, fn21, fn7, ia_fn21, by rw [ht]; exact hP9, va_K.moved hW.alike hK9, hD9⟩⟩, hS.F ht⟩) hS.2.2 dX12_passDay_120
  · skip
    have fc9 : t8.toInt = 60 := congrArg Int32.toInt c9
    refine lv_iconst (v := 3) hx hb dX12_passDay_16 (by decide) ?_
    refine lv_istore_n (lv' := [(1, .int 3), (0, .ref h0)]) hx hb dX12_passDay_17 rfl hl (by decide) rfl (fun ls hl => ?_)
    have hL54 : ∀ (n9 : Nat), ∀ (x50 : Int32) (fn51 : Nat → Int32) (H : Heap) (locs : List Loc) (ls : Array Slot), 3 ≤ x50.toInt → x50.toInt ≤ 180 → (pm_NW fn51) → (fn51 (Int32.toNatClampNeg 66) = fn6 (Int32.toNatClampNeg 66)) → (180 - x50.toInt).toNat < n9 → va_P (dC, dI) vwCl (wd_935d8763 h0 v0 r0 v1 v2 v3 v4 h1 h2 r1 h3 h4 h5 h6 v5 v6 h7 h8 r2 r3 v7 h9 r4 v8 v9 h10 r5 v10 v11 h11 x2 x3 r6 v14 w15 r7 v16 v17 r8 r9 r10 r11 r12 r13 v18 r14 r15 r16 v19 h1 g0 f20 h2 g1 f21 h3 g2 f22 h4 g3 f23 h5 g4 f24 h6 g5 f25 h7 g6 fn4 h8 g7 fn5 h9 g8 f28 h10 g9 fn51 h11 g10 fn7) H → va_D A (wd_935d8763 h0 v0 r0 v1 v2 v3 v4 h1 h2 r1 h3 h4 h5 h6 v5 v6 h7 h8 r2 r3 v7 h9 r4 v8 v9 h10 r5 v10 v11 h11 x2 x3 r6 v14 w15 r7 v16 v17 r8 r9 r10 r11 r12 r13 v18 r14 r15 r16 v19 h1 g0 f20 h2 g1 f21 h3 g2 f22 h4 g3 f23 h5 g4 f24 h6 g5 f25 h7 g6 fn4 h8 g7 fn5 h9 g8 f28 h10 g9 fn51 h11 g10 fn7) → va_S A s.heap H locs → lv_has ls 2 [(1, .int x50), (0, .ref h0)] → W p l e ({ frames := 8, cells := 0, slots := 0, locals := 174 }) s m ([.ref h0] : List Value).toArray below meth c H locs 0 0 Q (F0 m 18 ls []) := by
      intro n9
      induction n9 with
      | zero => intro x50 fn51 H locs ls qa_x50 qb_x50 ia_fn51 gh0_hL54 hm9 hP hD hS hl; exact absurd hm9 (Nat.not_lt_zero _)
      | succ n9 ih_hL54 =>
        intro x50 fn51 H locs ls qa_x50 qb_x50 ia_fn51 gh0_hL54 hm9 hP hD hS hl
        refine lv_iload_n hx hb dX12_passDay_18 rfl (lv_at hl 0 rfl) ?_
        refine lv_sipush (v := 180) hx hb dX12_passDay_19 (by decide) ?_
        refine lv_icmp_ge (tgt := 51) hx hb dX12_passDay_22 (by decide) (fun c55 => ?_) (fun c55 => ?_)
        · skip
          have fc55 : 180 ≤ x50.toInt := Int32.le_iff_toInt_le.mp c55
          have mmzfn51 : fn51 (Int32.toNatClampNeg 66) = t8 := (gh0_hL54).trans mmt8
          refine lv_aload_n hx hb dX12_passDay_51 rfl (lv_at hl 1 rfl) ?_
          refine va_get (D := (dC, dI)) (ci := 12) (v := .ref h10) (C := RX12) (T := TX12) (N := 48) hx hb hts (fun _ h => List.mem_cons_of_mem _ (List.mem_append_right _ h)) hown hK hP 0 rfl rfl 24 (by decide) (hts (.fieldLink RX12 52 "LeftArgumentsModel" "now" "[I") (List.mem_cons_of_mem _ (List.mem_append_left _ (List.mem_of_getElem? (i := 8) rfl)))) (fun _ h9 => h9) rfl dX12_passDay_52 ?_
          refine lv_bipush (v := 66) hx hb dX12_passDay_55 (by decide) ?_
          refine lv_dup2_11 hx hb dX12_passDay_57 rfl rfl ?_
          refine va_iald hx hb hK hP 10 9 rfl rfl (pv_c (x := 66) (n := 247) (by decide)) dX12_passDay_58 ?_
          refine lv_topi (fun t56 et56 => ?_)
          have gat56 : 0 ≤ t56.toInt ∧ t56.toInt ≤ 60 := by rw [et56]; exact (ia_fn51.1).lg (by decide)
          have gmt56 : t56.toInt = t8.toInt := by rw [et56, mmzfn51]
          refine lv_iconst (v := 1) hx hb dX12_passDay_59 (by decide) ?_
          refine lv_isub hx hb dX12_passDay_60 ?_
          refine lv_topi (fun t57 et57 => ?_)
          have gt57 : t57.toInt = t56.toInt - 1 := pv_sub (a := t56.toInt) (b := 1) et57 rfl (by decide) (by omega) (by omega)
          refine va_iast hx hb hK hP hD hS 10 9 rfl rfl (pv_c (x := 66) (n := 247) (by decide)) dX12_passDay_61 (fun H locs hP hD hS => ?_)
          obtain ⟨fn58, efn58⟩ : ∃ g : Nat → Int32, g = upd fn51 (Int32.toNatClampNeg 66) t57 := ⟨_, rfl⟩
          rw [← efn58] at hP hD
          have ia_fn58 : pm_NW fn58 := by rw [efn58]; exact pm_NW.st ia_fn51 (z := 66) (y := t57.toInt) (by decide) rfl (by omega) (fun b9 h8 h9 => ⟨fun _ => ⟨by omega, by omega⟩, fun _ => ⟨by omega, by omega⟩⟩) (fun _ => ⟨by omega, by omega⟩) (fun b9 h8 h9 => ⟨fun _ => by omega, fun _ => by omega⟩)
          have mmfn58_66 : fn58 (Int32.toNatClampNeg 66) = t57 := by rw [efn58]; exact pk_us
          have hP : va_P (dC, dI) vwCl (wd_935d8763 h0 v0 r0 v1 v2 v3 v4 h1 h2 r1 h3 h4 h5 h6 v5 v6 h7 h8 r2 r3 v7 h9 r4 v8 v9 h10 r5 v10 v11 h11 x2 x3 r6 v14 w15 r7 v16 v17 r8 r9 r10 r11 r12 r13 v18 r14 r15 r16 v19 h1 g0 f20 h2 g1 f21 h3 g2 f22 h4 g3 f23 h5 g4 f24 h6 g5 f25 h7 g6 fn4 h8 g7 fn5 h9 g8 f28 h10 g9 fn58 h11 g10 fn7) H := hP
          have hD : va_D A (wd_935d8763 h0 v0 r0 v1 v2 v3 v4 h1 h2 r1 h3 h4 h5 h6 v5 v6 h7 h8 r2 r3 v7 h9 r4 v8 v9 h10 r5 v10 v11 h11 x2 x3 r6 v14 w15 r7 v16 v17 r8 r9 r10 r11 r12 r13 v18 r14 r15 r16 v19 h1 g0 f20 h2 g1 f21 h3 g2 f22 h4 g3 f23 h5 g4 f24 h6 g5 f25 h7 g6 fn4 h8 g7 fn5 h9 g8 f28 h10 g9 fn58 h11 g10 fn7) := hD
          refine lv_bipush (v := 67) hx hb dX12_passDay_62 (by decide) ?_
          refine lv_iconst (v := 3) hx hb dX12_passDay_64 (by decide) ?_
          refine lv_aload_n hx hb dX12_passDay_65 rfl (lv_at hl 1 rfl) ?_
          refine va_get (D := (dC, dI)) (ci := 12) (v := .ref h10) (C := RX12) (T := TX12) (N := 48) hx hb hts (fun _ h => List.mem_cons_of_mem _ (List.mem_append_right _ h)) hown hK hP 0 rfl rfl 24 (by decide) (hts (.fieldLink RX12 52 "LeftArgumentsModel" "now" "[I") (List.mem_cons_of_mem _ (List.mem_append_left _ (List.mem_of_getElem? (i := 8) rfl)))) (fun _ h9 => h9) rfl dX12_passDay_66 ?_
          refine lv_bipush (v := 66) hx hb dX12_passDay_69 (by decide) ?_
          refine va_iald hx hb hK hP 10 9 rfl rfl (pv_c (x := 66) (n := 247) (by decide)) dX12_passDay_71 ?_
          refine lv_topi (fun t59 et59 => ?_)
          have gat59 : 0 ≤ t59.toInt ∧ t59.toInt ≤ 60 := by rw [et59]; exact (ia_fn58.1).lg (by decide)
          have gmt59 : t59.toInt = t57.toInt := by rw [et59, mmfn58_66]
          refine lv_imul hx hb dX12_passDay_72 ?_
          refine lv_topi (fun t60 et60 => ?_)
          have gt60 : t60.toInt = 3 * t59.toInt := pv_mul (a := 3) (b := t59.toInt) et60 (by decide) rfl (by omega) (by omega)
          refine lv_iadd hx hb dX12_passDay_73 ?_
          refine lv_topi (fun t61 et61 => ?_)
          have gt61 : t61.toInt = 67 + t60.toInt := pv_add (a := 67) (b := t60.toInt) et61 (by decide) rfl (by omega) (by omega)
          refine lv_istore_n (lv' := [(1, .int t61), (0, .ref h0)]) hx hb dX12_passDay_74 rfl hl (by decide) rfl (fun ls hl => ?_)
          refine lv_aload_n hx hb dX12_passDay_75 rfl (lv_at hl 1 rfl) ?_
          refine va_get (D := (dC, dI)) (ci := 12) (v := .ref h10) (C := RX12) (T := TX12) (N := 48) hx hb hts (fun _ h => List.mem_cons_of_mem _ (List.mem_append_right _ h)) hown hK hP 0 rfl rfl 24 (by decide) (hts (.fieldLink RX12 52 "LeftArgumentsModel" "now" "[I") (List.mem_cons_of_mem _ (List.mem_append_left _ (List.mem_of_getElem? (i := 8) rfl)))) (fun _ h9 => h9) rfl dX12_passDay_76 ?_
          refine lv_iload_n hx hb dX12_passDay_79 rfl (lv_at hl 0 rfl) ?_
          refine lv_aload_n hx hb dX12_passDay_80 rfl (lv_at hl 1 rfl) ?_
          refine va_get (D := (dC, dI)) (ci := 12) (v := .int x2) (C := RX12) (T := TX12) (N := 48) hx hb hts (fun _ h => List.mem_cons_of_mem _ (List.mem_append_right _ h)) hown hK hP 0 rfl rfl 29 (by decide) (hts (.fieldLink RX12 309 "LeftArgumentsModel" "fell" "I") (List.mem_cons_of_mem _ (List.mem_append_left _ (List.mem_of_getElem? (i := 75) rfl)))) (fun _ h9 => h9) rfl dX12_passDay_81 ?_
          refine va_iast hx hb hK hP hD hS 10 9 rfl rfl (vp_in_iff.mpr ⟨by omega, by omega⟩) dX12_passDay_84 (fun H locs hP hD hS => ?_)
          obtain ⟨fn62, efn62⟩ : ∃ g : Nat → Int32, g = upd fn58 (Int32.toNatClampNeg t61) x2 := ⟨_, rfl⟩
          rw [← efn62] at hP hD
          have ia_fn62 : pm_NW fn62 := by rw [efn62]; exact pm_NW.st ia_fn58 (z := t61.toInt) (y := x2.toInt) rfl rfl (by omega) (fun b9 h8 h9 => ⟨fun _ => ⟨by omega, by omega⟩, fun _ => ⟨by omega, by omega⟩⟩) (fun _ => ⟨by omega, by omega⟩) (fun b9 h8 h9 => ⟨fun _ => by omega, fun _ => by omega⟩)
          have mmfn62_66 : fn62 (Int32.toNatClampNeg 66) = t57 := by rw [efn62]; exact (pk_un (pm_ne (z := t61.toInt) (c := 66) rfl (by decide) (by omega) (by omega))).trans mmfn58_66
          have hP : va_P (dC, dI) vwCl (wd_935d8763 h0 v0 r0 v1 v2 v3 v4 h1 h2 r1 h3 h4 h5 h6 v5 v6 h7 h8 r2 r3 v7 h9 r4 v8 v9 h10 r5 v10 v11 h11 x2 x3 r6 v14 w15 r7 v16 v17 r8 r9 r10 r11 r12 r13 v18 r14 r15 r16 v19 h1 g0 f20 h2 g1 f21 h3 g2 f22 h4 g3 f23 h5 g4 f24 h6 g5 f25 h7 g6 fn4 h8 g7 fn5 h9 g8 f28 h10 g9 fn62 h11 g10 fn7) H := hP
          have hD : va_D A (wd_935d8763 h0 v0 r0 v1 v2 v3 v4 h1 h2 r1 h3 h4 h5 h6 v5 v6 h7 h8 r2 r3 v7 h9 r4 v8 v9 h10 r5 v10 v11 h11 x2 x3 r6 v14 w15 r7 v16 v17 r8 r9 r10 r11 r12 r13 v18 r14 r15 r16 v19 h1 g0 f20 h2 g1 f21 h3 g2 f22 h4 g3 f23 h5 g4 f24 h6 g5 f25 h7 g6 fn4 h8 g7 fn5 h9 g8 f28 h10 g9 fn62 h11 g10 fn7) := hD
          refine lv_aload_n hx hb dX12_passDay_85 rfl (lv_at hl 1 rfl) ?_
          refine va_get (D := (dC, dI)) (ci := 12) (v := .ref h10) (C := RX12) (T := TX12) (N := 48) hx hb hts (fun _ h => List.mem_cons_of_mem _ (List.mem_append_right _ h)) hown hK hP 0 rfl rfl 24 (by decide) (hts (.fieldLink RX12 52 "LeftArgumentsModel" "now" "[I") (List.mem_cons_of_mem _ (List.mem_append_left _ (List.mem_of_getElem? (i := 8) rfl)))) (fun _ h9 => h9) rfl dX12_passDay_86 ?_
          refine lv_iload_n hx hb dX12_passDay_89 rfl (lv_at hl 0 rfl) ?_
          refine lv_iconst (v := 1) hx hb dX12_passDay_90 (by decide) ?_
          refine lv_iadd hx hb dX12_passDay_91 ?_
          refine lv_topi (fun t63 et63 => ?_)
          have gt63 : t63.toInt = t61.toInt + 1 := pv_add (a := t61.toInt) (b := 1) et63 rfl (by decide) (by omega) (by omega)
          refine lv_aload_n hx hb dX12_passDay_92 rfl (lv_at hl 1 rfl) ?_
          refine va_get (D := (dC, dI)) (ci := 12) (v := .int x3) (C := RX12) (T := TX12) (N := 48) hx hb hts (fun _ h => List.mem_cons_of_mem _ (List.mem_append_right _ h)) hown hK hP 0 rfl rfl 30 (by decide) (hts (.fieldLink RX12 306 "LeftArgumentsModel" "ended" "I") (List.mem_cons_of_mem _ (List.mem_append_left _ (List.mem_of_getElem? (i := 70) rfl)))) (fun _ h9 => h9) rfl dX12_passDay_93 ?_
          refine va_iast hx hb hK hP hD hS 10 9 rfl rfl (vp_in_iff.mpr ⟨by omega, by omega⟩) dX12_passDay_96 (fun H locs hP hD hS => ?_)
          obtain ⟨fn64, efn64⟩ : ∃ g : Nat → Int32, g = upd fn62 (Int32.toNatClampNeg t63) x3 := ⟨_, rfl⟩
          rw [← efn64] at hP hD
          have ia_fn64 : pm_NW fn64 := by rw [efn64]; exact pm_NW.st ia_fn62 (z := t63.toInt) (y := x3.toInt) rfl rfl (by omega) (fun b9 h8 h9 => ⟨fun _ => ⟨by omega, by omega⟩, fun _ => ⟨by omega, by omega⟩⟩) (fun _ => ⟨by omega, by omega⟩) (fun b9 h8 h9 => ⟨fun _ => by omega, fun _ => by omega⟩)
          have mmfn64_66 : fn64 (Int32.toNatClampNeg 66) = t57 := by rw [efn64]; exact (pk_un (pm_ne (z := t63.toInt) (c := 66) rfl (by decide) (by omega) (by omega))).trans mmfn62_66
          have hP : va_P (dC, dI) vwCl (wd_935d8763 h0 v0 r0 v1 v2 v3 v4 h1 h2 r1 h3 h4 h5 h6 v5 v6 h7 h8 r2 r3 v7 h9 r4 v8 v9 h10 r5 v10 v11 h11 x2 x3 r6 v14 w15 r7 v16 v17 r8 r9 r10 r11 r12 r13 v18 r14 r15 r16 v19 h1 g0 f20 h2 g1 f21 h3 g2 f22 h4 g3 f23 h5 g4 f24 h6 g5 f25 h7 g6 fn4 h8 g7 fn5 h9 g8 f28 h10 g9 fn64 h11 g10 fn7) H := hP
          have hD : va_D A (wd_935d8763 h0 v0 r0 v1 v2 v3 v4 h1 h2 r1 h3 h4 h5 h6 v5 v6 h7 h8 r2 r3 v7 h9 r4 v8 v9 h10 r5 v10 v11 h11 x2 x3 r6 v14 w15 r7 v16 v17 r8 r9 r10 r11 r12 r13 v18 r14 r15 r16 v19 h1 g0 f20 h2 g1 f21 h3 g2 f22 h4 g3 f23 h5 g4 f24 h6 g5 f25 h7 g6 fn4 h8 g7 fn5 h9 g8 f28 h10 g9 fn64 h11 g10 fn7) := hD
          refine lv_aload_n hx hb dX12_passDay_97 rfl (lv_at hl 1 rfl) ?_
          refine va_get (D := (dC, dI)) (ci := 12) (v := .ref h10) (C := RX12) (T := TX12) (N := 48) hx hb hts (fun _ h => List.mem_cons_of_mem _ (List.mem_append_right _ h)) hown hK hP 0 rfl rfl 24 (by decide) (hts (.fieldLink RX12 52 "LeftArgumentsModel" "now" "[I") (List.mem_cons_of_mem _ (List.mem_append_left _ (List.mem_of_getElem? (i := 8) rfl)))) (fun _ h9 => h9) rfl dX12_passDay_98 ?_
          refine lv_iload_n hx hb dX12_passDay_101 rfl (lv_at hl 0 rfl) ?_
          refine lv_iconst (v := 2) hx hb dX12_passDay_102 (by decide) ?_
          refine lv_iadd hx hb dX12_passDay_103 ?_
          refine lv_topi (fun t65 et65 => ?_)
          have gt65 : t65.toInt = t61.toInt + 2 := pv_add (a := t61.toInt) (b := 2) et65 rfl (by decide) (by omega) (by omega)
          refine lv_aload_n hx hb dX12_passDay_104 rfl (lv_at hl 1 rfl) ?_
          have hPc := hP.sub (ws' := (wd_5013416a h0 v0 r0 v1 v2 v3 v4 h1 h2 r1 h3 h4 h5 h6 v5 v6 h7 h8 r2 r3 v7 h9 r4 v8 v9 h10 r5 v10 v11 h11 x2 x3 r6 v14 w15 r7 v16 v17 r8 r9 r10 r11 r12 r13 v18 r14 r15 r16 v19 h10 g9 fn64)) [0, 10] rfl
          have hDc := hD.sub (ws' := (wd_5013416a h0 v0 r0 v1 v2 v3 v4 h1 h2 r1 h3 h4 h5 h6 v5 v6 h7 h8 r2 r3 v7 h9 r4 v8 v9 h10 r5 v10 v11 h11 x2 x3 r6 v14 w15 r7 v16 v17 r8 r9 r10 r11 r12 r13 v18 r14 r15 r16 v19 h10 g9 fn64)) [0, 10] (by decide) rfl
          have hKc := hK.sub (tys' := [(g9, .int)]) [9] rfl
          have hFc := va_free (wc := (wd_5013416a h0 v0 r0 v1 v2 v3 v4 h1 h2 r1 h3 h4 h5 h6 v5 v6 h7 h8 r2 r3 v7 h9 r4 v8 v9 h10 r5 v10 v11 h11 x2 x3 r6 v14 w15 r7 v16 v17 r8 r9 r10 r11 r12 r13 v18 r14 r15 r16 v19 h10 g9 fn64)) hD hS hA [0, 10] rfl
          refine va_calli (va_runV (As := []) (rest := [.int t65, .ref h10]) ⟨hx, hb, hml, hown, hts⟩ (k_X12_sizeAll l dC dI h0 h10 v0 r0 v1 v2 v3 v4 h1 h2 r1 h3 h4 h5 h6 v5 v6 h7 h8 r2 r3 v7 h9 r4 v8 v9 r5 v10 v11 h11 x2 x3 r6 v14 w15 r7 v16 v17 r8 r9 r10 r11 r12 r13 v18 r14 r15 r16 v19 g9 fn64 ⟨i_v1a, i_v1b⟩ ⟨i_v5a, i_v5b⟩ ⟨i_v6a, i_v6b⟩ ⟨i_v7a, i_v7b⟩ ⟨i_v8a, i_v8b⟩ ⟨i_v9a, i_v9b⟩ ⟨i_v10a, i_v10b⟩ ⟨i_v14a, i_v14b⟩ ⟨i_v18a, i_v18b⟩ ⟨i_v19a, i_v19b⟩ ia_fn64 H.size) (cwV 0 hts g_X12_passDay_1 rfl rfl rfl (by decide +kernel) ⟨Nat.le_of_ble_eq_true rfl, Nat.le_of_ble_eq_true rfl⟩) (pv_PV12 hPc hKc hDc (q0 := 0) rfl) rfl rfl hl.1 rfl (lv_room (Nat.le_of_ble_eq_true rfl)) dX12_passDay_105 ⟨Nat.le_of_ble_eq_true rfl, Nat.le_of_ble_eq_true rfl⟩) hS (fun q _ h => hFc q h) hFc (fun ra66 u t H1 locs ht hvm hwra66 hB hz1 hk1 hS => ?_)
          try rw [hwra66] at hB
          obtain ⟨pt0_ra66, pt1_ra66, pt2_ra66, hP1, hK1, hD1⟩ := hB
          rw [ht] at hP1
          obtain ⟨hP2, hD2⟩ := va_join (wr := (wd_4dc6964c h1 g0 f20 h2 g1 f21 h3 g2 f22 h4 g3 f23 h5 g4 f24 h6 g5 f25 h7 g6 fn4 h8 g7 fn5 h9 g8 f28 h11 g10 fn7)) (w1 := (wd_5013416a h0 v0 r0 v1 v2 v3 v4 h1 h2 r1 h3 h4 h5 h6 v5 v6 h7 h8 r2 r3 v7 h9 r4 v8 v9 h10 r5 v10 v11 h11 x2 x3 r6 v14 w15 r7 v16 v17 r8 r9 r10 r11 r12 r13 v18 r14 r15 r16 v19 h10 g9 fn64)) hP hD [0, 10] [1, 2, 3, 4, 5, 6, 7, 8, 9, 11] rfl rfl (by decide +kernel) (by decide +kernel) hk1 hFc hP1 hD1
          clear hP hD hPc hDc hKc hFc hP1 hK1 hD1 hk1 hz1
          generalize H1 = H at hP2 hS ⊢
          have hP := hP2.sub (ws' := (wd_935d8763 h0 v0 r0 v1 v2 v3 v4 h1 h2 r1 h3 h4 h5 h6 v5 v6 h7 h8 r2 r3 v7 h9 r4 v8 v9 h10 r5 v10 v11 h11 x2 x3 r6 v14 w15 r7 v16 v17 r8 r9 r10 r11 r12 r13 v18 r14 r15 r16 v19 h1 g0 f20 h2 g1 f21 h3 g2 f22 h4 g3 f23 h5 g4 f24 h6 g5 f25 h7 g6 fn4 h8 g7 fn5 h9 g8 f28 h10 g9 fn64 h11 g10 fn7)) [10, 0, 1, 2, 3, 4, 5, 6, 7, 8, 11, 9] rfl
          have hD := hD2.sub (ws' := (wd_935d8763 h0 v0 r0 v1 v2 v3 v4 h1 h2 r1 h3 h4 h5 h6 v5 v6 h7 h8 r2 r3 v7 h9 r4 v8 v9 h10 r5 v10 v11 h11 x2 x3 r6 v14 w15 r7 v16 v17 r8 r9 r10 r11 r12 r13 v18 r14 r15 r16 v19 h1 g0 f20 h2 g1 f21 h3 g2 f22 h4 g3 f23 h5 g4 f24 h6 g5 f25 h7 g6 fn4 h8 g7 fn5 h9 g8 f28 h10 g9 fn64 h11 g10 fn7)) [10, 0, 1, 2, 3, 4, 5, 6, 7, 8, 11, 9] (by decide +kernel) rfl
          clear hP2 hD2
          refine va_iast hx hb hK hP hD hS 10 9 rfl rfl (vp_in_iff.mpr ⟨by omega, by omega⟩) dX12_passDay_108 (fun H locs hP hD hS => ?_)
          obtain ⟨fn67, efn67⟩ : ∃ g : Nat → Int32, g = upd fn64 (Int32.toNatClampNeg t65) ra66 := ⟨_, rfl⟩
          rw [← efn67] at hP hD
          have ia_fn67 : pm_NW fn67 := by rw [efn67]; exact pm_NW.st ia_fn64 (z := t65.toInt) (y := ra66.toInt) rfl rfl (by omega) (fun b9 h8 h9 => ⟨fun _ => ⟨by omega, by omega⟩, fun _ => ⟨by omega, by omega⟩⟩) (fun _ => ⟨by omega, by omega⟩) (fun b9 h8 h9 => ⟨fun _ => by omega, fun _ => by omega⟩)
          have mmfn67_66 : fn67 (Int32.toNatClampNeg 66) = t57 := by rw [efn67]; exact (pk_un (pm_ne (z := t65.toInt) (c := 66) rfl (by decide) (by omega) (by omega))).trans mmfn64_66
          have hP : va_P (dC, dI) vwCl (wd_935d8763 h0 v0 r0 v1 v2 v3 v4 h1 h2 r1 h3 h4 h5 h6 v5 v6 h7 h8 r2 r3 v7 h9 r4 v8 v9 h10 r5 v10 v11 h11 x2 x3 r6 v14 w15 r7 v16 v17 r8 r9 r10 r11 r12 r13 v18 r14 r15 r16 v19 h1 g0 f20 h2 g1 f21 h3 g2 f22 h4 g3 f23 h5 g4 f24 h6 g5 f25 h7 g6 fn4 h8 g7 fn5 h9 g8 f28 h10 g9 fn67 h11 g10 fn7) H := hP
          have hD : va_D A (wd_935d8763 h0 v0 r0 v1 v2 v3 v4 h1 h2 r1 h3 h4 h5 h6 v5 v6 h7 h8 r2 r3 v7 h9 r4 v8 v9 h10 r5 v10 v11 h11 x2 x3 r6 v14 w15 r7 v16 v17 r8 r9 r10 r11 r12 r13 v18 r14 r15 r16 v19 h1 g0 f20 h2 g1 f21 h3 g2 f22 h4 g3 f23 h5 g4 f24 h6 g5 f25 h7 g6 fn4 h8 g7 fn5 h9 g8 f28 h10 g9 fn67 h11 g10 fn7) := hD
          refine lv_aload_n hx hb dX12_passDay_109 rfl (lv_at hl 1 rfl) ?_
          refine va_get (D := (dC, dI)) (ci := 12) (v := .ref h10) (C := RX12) (T := TX12) (N := 48) hx hb hts (fun _ h => List.mem_cons_of_mem _ (List.mem_append_right _ h)) hown hK hP 0 rfl rfl 24 (by decide) (hts (.fieldLink RX12 52 "LeftArgumentsModel" "now" "[I") (List.mem_cons_of_mem _ (List.mem_append_left _ (List.mem_of_getElem? (i := 8) rfl)))) (fun _ h9 => h9) rfl dX12_passDay_110 ?_
          refine lv_bipush (v := 66) hx hb dX12_passDay_113 (by decide) ?_
          refine lv_dup2_11 hx hb dX12_passDay_115 rfl rfl ?_
          refine va_iald hx hb hK hP 10 9 rfl rfl (pv_c (x := 66) (n := 247) (by decide)) dX12_passDay_116 ?_
          refine lv_topi (fun t68 et68 => ?_)
          have gat68 : 0 ≤ t68.toInt ∧ t68.toInt ≤ 60 := by rw [et68]; exact (ia_fn67.1).lg (by decide)
          have gmt68 : t68.toInt = t57.toInt := by rw [et68, mmfn67_66]
          refine lv_iconst (v := 1) hx hb dX12_passDay_117 (by decide) ?_
          refine lv_iadd hx hb dX12_passDay_118 ?_
          refine lv_topi (fun t69 et69 => ?_)
          have gt69 : t69.toInt = t68.toInt + 1 := pv_add (a := t68.toInt) (b := 1) et69 rfl (by decide) (by omega) (by omega)
          refine va_iast hx hb hK hP hD hS 10 9 rfl rfl (pv_c (x := 66) (n := 247) (by decide)) dX12_passDay_119 (fun H locs hP hD hS => ?_)
          obtain ⟨fn70, efn70⟩ : ∃ g : Nat → Int32, g = upd fn67 (Int32.toNatClampNeg 66) t69 := ⟨_, rfl⟩
          rw [← efn70] at hP hD
          have ia_fn70 : pm_NW fn70 := by rw [efn70]; exact pm_NW.st ia_fn67 (z := 66) (y := t69.toInt) (by decide) rfl (by omega) (fun b9 h8 h9 => ⟨fun _ => ⟨by omega, by omega⟩, fun _ => ⟨by omega, by omega⟩⟩) (fun _ => ⟨by omega, by omega⟩) (fun b9 h8 h9 => ⟨fun _ => by omega, fun _ => by omega⟩)
          have mmfn70_66 : fn70 (Int32.toNatClampNeg 66) = t69 := by rw [efn70]; exact pk_us
          have hP : va_P (dC, dI) vwCl (wd_935d8763 h0 v0 r0 v1 v2 v3 v4 h1 h2 r1 h3 h4 h5 h6 v5 v6 h7 h8 r2 r3 v7 h9 r4 v8 v9 h10 r5 v10 v11 h11 x2 x3 r6 v14 w15 r7 v16 v17 r8 r9 r10 r11 r12 r13 v18 r14 r15 r16 v19 h1 g0 f20 h2 g1 f21 h3 g2 f22 h4 g3 f23 h5 g4 f24 h6 g5 f25 h7 g6 fn4 h8 g7 fn5 h9 g8 f28 h10 g9 fn70 h11 g10 fn7) H := hP
          have hD : va_D A (wd_935d8763 h0 v0 r0 v1 v2 v3 v4 h1 h2 r1 h3 h4 h5 h6 v5 v6 h7 h8 r2 r3 v7 h9 r4 v8 v9 h10 r5 v10 v11 h11 x2 x3 r6 v14 w15 r7 v16 v17 r8 r9 r10 r11 r12 r13 v18 r14 r15 r16 v19 h1 g0 f20 h2 g1 f21 h3 g2 f22 h4 g3 f23 h5 g4 f24 h6 g5 f25 h7 g6 fn4 h8 g7 fn5 h9 g8 f28 h10 g9 fn70 h11 g10 fn7) := hD
          subst hQ
          have hP9 := hP.sub (ws' := (wd_935d8763 h0 v0 r0 v1 v2 v3 v4 h1 h2 r1 h3 h4 h5 h6 v5 v6 h7 h8 r2 r3 v7 h9 r4 v8 v9 h10 r5 v10 v11 h11 x2 x3 r6 v14 w15 r7 v16 v17 r8 r9 r10 r11 r12 r13 v18 r14 r15 r16 v19 h1 g0 f20 h2 g1 f21 h3 g2 f22 h4 g3 f23 h5 g4 f24 h6 g5 f25 h7 g6 fn4 h8 g7 fn5 h9 g8 f28 h10 g9 fn70 h11 g10 fn7)) [0, 1, 2, 3, 4, 5, 6, 7, 8, 9, 10, 11] rfl
          have hD9 := hD.sub (ws' := (wd_935d8763 h0 v0 r0 v1 v2 v3 v4 h1 h2 r1 h3 h4 h5 h6 v5 v6 h7 h8 r2 r3 v7 h9 r4 v8 v9 h10 r5 v10 v11 h11 x2 x3 r6 v14 w15 r7 v16 v17 r8 r9 r10 r11 r12 r13 v18 r14 r15 r16 v19 h1 g0 f20 h2 g1 f21 h3 g2 f22 h4 g3 f23 h5 g4 f24 h6 g5 f25 h7 g6 fn4 h8 g7 fn5 h9 g8 f28 h10 g9 fn70 h11 g10 fn7)) [0, 1, 2, 3, 4, 5, 6, 7, 8, 9, 10, 11] (by decide +kernel) rfl
          have hK9 := hK.sub (tys' := []) [] rfl
          exact W.vret hx hb hr (fun t ht hW => ⟨⟨(), rfl, trivial, ⟨x2, x3, fn4, fn5, fn70, fn7, ia_fn70, by rw [ht]; exact hP9, va_K.moved hW.alike hK9, hD9⟩⟩, hS.F ht⟩) hS.2.2 dX12_passDay_120
        · skip
          have fc55 : ¬ (180 ≤ x50.toInt) := fun h9 => c55 (Int32.le_iff_toInt_le.mpr h9)
          refine lv_aload_n hx hb dX12_passDay_25 rfl (lv_at hl 1 rfl) ?_
          refine va_get (D := (dC, dI)) (ci := 12) (v := .ref h10) (C := RX12) (T := TX12) (N := 48) hx hb hts (fun _ h => List.mem_cons_of_mem _ (List.mem_append_right _ h)) hown hK hP 0 rfl rfl 24 (by decide) (hts (.fieldLink RX12 52 "LeftArgumentsModel" "now" "[I") (List.mem_cons_of_mem _ (List.mem_append_left _ (List.mem_of_getElem? (i := 8) rfl)))) (fun _ h9 => h9) rfl dX12_passDay_26 ?_
          refine lv_bipush (v := 67) hx hb dX12_passDay_29 (by decide) ?_
          refine lv_iload_n hx hb dX12_passDay_31 rfl (lv_at hl 0 rfl) ?_
          refine lv_iadd hx hb dX12_passDay_32 ?_
          refine lv_topi (fun t71 et71 => ?_)
          have gt71 : t71.toInt = 67 + x50.toInt := pv_add (a := 67) (b := x50.toInt) et71 (by decide) rfl (by omega) (by omega)
          refine lv_iconst (v := 3) hx hb dX12_passDay_33 (by decide) ?_
          refine lv_isub hx hb dX12_passDay_34 ?_
          refine lv_topi (fun t72 et72 => ?_)
          have gt72 : t72.toInt = t71.toInt - 3 := pv_sub (a := t71.toInt) (b := 3) et72 rfl (by decide) (by omega) (by omega)
          refine lv_aload_n hx hb dX12_passDay_35 rfl (lv_at hl 1 rfl) ?_
          refine va_get (D := (dC, dI)) (ci := 12) (v := .ref h10) (C := RX12) (T := TX12) (N := 48) hx hb hts (fun _ h => List.mem_cons_of_mem _ (List.mem_append_right _ h)) hown hK hP 0 rfl rfl 24 (by decide) (hts (.fieldLink RX12 52 "LeftArgumentsModel" "now" "[I") (List.mem_cons_of_mem _ (List.mem_append_left _ (List.mem_of_getElem? (i := 8) rfl)))) (fun _ h9 => h9) rfl dX12_passDay_36 ?_
          refine lv_bipush (v := 67) hx hb dX12_passDay_39 (by decide) ?_
          refine lv_iload_n hx hb dX12_passDay_41 rfl (lv_at hl 0 rfl) ?_
          refine lv_iadd hx hb dX12_passDay_42 ?_
          refine lv_topi (fun t73 et73 => ?_)
          have gt73 : t73.toInt = 67 + x50.toInt := pv_add (a := 67) (b := x50.toInt) et73 (by decide) rfl (by omega) (by omega)
          refine va_iald hx hb hK hP 10 9 rfl rfl (vp_in_iff.mpr ⟨by omega, by omega⟩) dX12_passDay_43 ?_
          refine lv_topi (fun t74 et74 => ?_)
          refine va_iast hx hb hK hP hD hS 10 9 rfl rfl (vp_in_iff.mpr ⟨by omega, by omega⟩) dX12_passDay_44 (fun H locs hP hD hS => ?_)
          obtain ⟨fn75, efn75⟩ : ∃ g : Nat → Int32, g = upd fn51 (Int32.toNatClampNeg t72) t74 := ⟨_, rfl⟩
          rw [← efn75] at hP hD
          have ia_fn75 : pm_NW fn75 := by rw [efn75]; exact pm_NW.st ia_fn51 (z := t72.toInt) (y := t74.toInt) rfl rfl (by omega) (fun b9 h8 h9 => ⟨fun _ => ⟨by omega, by omega⟩, fun _ => ⟨by omega, by omega⟩⟩) (fun _ => ⟨by omega, by omega⟩) (fun b9 h8 h9 => ⟨fun _ => by omega, fun _ => by omega⟩)
          have hP : va_P (dC, dI) vwCl (wd_935d8763 h0 v0 r0 v1 v2 v3 v4 h1 h2 r1 h3 h4 h5 h6 v5 v6 h7 h8 r2 r3 v7 h9 r4 v8 v9 h10 r5 v10 v11 h11 x2 x3 r6 v14 w15 r7 v16 v17 r8 r9 r10 r11 r12 r13 v18 r14 r15 r16 v19 h1 g0 f20 h2 g1 f21 h3 g2 f22 h4 g3 f23 h5 g4 f24 h6 g5 f25 h7 g6 fn4 h8 g7 fn5 h9 g8 f28 h10 g9 fn75 h11 g10 fn7) H := hP
          have hD : va_D A (wd_935d8763 h0 v0 r0 v1 v2 v3 v4 h1 h2 r1 h3 h4 h5 h6 v5 v6 h7 h8 r2 r3 v7 h9 r4 v8 v9 h10 r5 v10 v11 h11 x2 x3 r6 v14 w15 r7 v16 v17 r8 r9 r10 r11 r12 r13 v18 r14 r15 r16 v19 h1 g0 f20 h2 g1 f21 h3 g2 f22 h4 g3 f23 h5 g4 f24 h6 g5 f25 h7 g6 fn4 h8 g7 fn5 h9 g8 f28 h10 g9 fn75 h11 g10 fn7) := hD
          obtain ⟨t76, et76⟩ : ∃ y : Int32, y = x50 + 1 := ⟨_, rfl⟩
          have gt76 : t76.toInt = x50.toInt + (1) := pv_add (a := x50.toInt) (b := (1)) et76 rfl (by decide) (by omega) (by omega)
          refine lv_iinc (v := t76) (lv' := [(1, .int t76), (0, .ref h0)]) hx hb dX12_passDay_45 hl (k := 0) rfl (by rw [et76]; rfl) (by decide) rfl (fun ls hl => ?_)
          refine lv_goto (tgt := 18) hx hb dX12_passDay_48 (by decide) ?_
          exact ih_hL54 t76 fn75 H locs ls (by first | omega | decide) (by first | omega | decide) ia_fn75 (by first | rfl | (apply pm_k66 <;> first | assumption | omega)) (by first | omega | (simp only [Int.toNat] at *; omega)) hP hD hS (lv_sub hl [0, 1] rfl)
    exact hL54 _ 3 fn6 H locs ls (by decide) (by decide) ia_fn6 (by first | rfl | (apply pm_k66 <;> first | assumption | omega)) (Nat.lt_succ_self _) hP hD hS (lv_sub hl [0, 1] rfl)
def q_X12_set_6 : List Cond := .code yX12_set cX12_set 4 none :: (([.fieldLink RX12 52 "LeftArgumentsModel" "now" "[I"] : List Cond) ++ wsX120)
set_option maxHeartbeats 4000000 in
set_option maxRecDepth 100000 in
theorem k_X12_set_6 (l : Launch) (dC : Nat → ClassId) (dI : Nat → Nat → Nat) (h0 : Nat) (h1 : Nat) (v0 : Int32) (r0 : Nat) (v1 : Int32) (v2 : Int32) (v3 : Int32) (v4 : Int32) (r1 : Nat) (r2 : Nat) (r3 : Nat) (r4 : Nat) (r5 : Nat) (r6 : Nat) (r7 : Nat) (v5 : Int32) (v6 : Int32) (r8 : Nat) (r9 : Nat) (r10 : Nat) (r11 : Nat) (v7 : Int32) (r12 : Nat) (r13 : Nat) (v8 : Int32) (v9 : Int32) (r14 : Nat) (v10 : Int32) (v11 : Int32) (r15 : Nat) (v12 : Int32) (v13 : Int32) (r16 : Nat) (v14 : Int32) (w15 : Int64) (r17 : Nat) (v16 : Int32) (v17 : Int32) (r18 : Nat) (r19 : Nat) (r20 : Nat) (r21 : Nat) (r22 : Nat) (r23 : Nat) (v18 : Int32) (r24 : Nat) (r25 : Nat) (r26 : Nat) (v19 : Int32) (g0 : ClassId) (f20 : Nat → Int32) (v21 : Int32) (v22 : Int32) (i_v1 : 0 ≤ v1.toInt ∧ v1.toInt ≤ 240) (i_v5 : 0 ≤ v5.toInt ∧ v5.toInt ≤ 4) (i_v6 : 0 ≤ v6.toInt ∧ v6.toInt ≤ 4) (i_v7 : 0 ≤ v7.toInt ∧ v7.toInt ≤ 8) (i_v8 : 0 ≤ v8.toInt ∧ v8.toInt ≤ 8) (i_v9 : 0 ≤ v9.toInt ∧ v9.toInt ≤ 1) (i_v10 : -1 ≤ v10.toInt ∧ v10.toInt ≤ 3) (i_v14 : 0 ≤ v14.toInt ∧ v14.toInt ≤ 40) (i_v18 : 0 ≤ v18.toInt ∧ v18.toInt ≤ 10) (i_v19 : 0 ≤ v19.toInt ∧ v19.toInt ≤ 1) (i_v21 : 0 ≤ v21.toInt ∧ v21.toInt ≤ 7) (ia_f20 : (pm_ANY f20)) (sz : Nat) : Met l yX12_set q_X12_set_6 ({ frames := 0, cells := 0, slots := 0, locals := 0 }) (va_Pc [.ref h0, .int v21, .int 1, .int v22] (fun U => U.heap.size = sz ∧ va_P (dC, dI) vwCl (wd_5013416a h0 v0 r0 v1 v2 v3 v4 r1 r2 r3 r4 r5 r6 r7 v5 v6 r8 r9 r10 r11 v7 r12 r13 v8 v9 h1 r14 v10 v11 r15 v12 v13 r16 v14 w15 r17 v16 v17 r18 r19 r20 r21 r22 r23 v18 r24 r25 r26 v19 h1 g0 f20) U.heap ∧ va_K (dC, dI) vwCl [(g0, .int)] U ∧ va_D (fun _ => True) (wd_5013416a h0 v0 r0 v1 v2 v3 v4 r1 r2 r3 r4 r5 r6 r7 v5 v6 r8 r9 r10 r11 v7 r12 r13 v8 v9 h1 r14 v10 v11 r15 v12 v13 r16 v14 w15 r17 v16 v17 r18 r19 r20 r21 r22 r23 v18 r24 r25 r26 v19 h1 g0 f20))) (va_Qv (fun (_ : Unit) => True) (fun (_ : Unit) (t : State) => (va_P (dC, dI) vwCl (wd_5013416a h0 v0 r0 v1 v2 v3 v4 r1 r2 r3 r4 r5 r6 r7 v5 v6 r8 r9 r10 r11 v7 r12 r13 v8 v9 h1 r14 v10 v11 r15 v12 v13 r16 v14 w15 r17 v16 v17 r18 r19 r20 r21 r22 r23 v18 r24 r25 r26 v19 h1 g0 (upd f20 (pm_I v21 1) v22)) t.heap ∧ va_K (dC, dI) vwCl [] t ∧ va_D (va_A (wd_5013416a h0 v0 r0 v1 v2 v3 v4 r1 r2 r3 r4 r5 r6 r7 v5 v6 r8 r9 r10 r11 v7 r12 r13 v8 v9 h1 r14 v10 v11 r15 v12 v13 r16 v14 w15 r17 v16 v17 r18 r19 r20 r21 r22 r23 v18 r24 r25 r26 v19 h1 g0 f20) sz) (wd_5013416a h0 v0 r0 v1 v2 v3 v4 r1 r2 r3 r4 r5 r6 r7 v5 v6 r8 r9 r10 r11 v7 r12 r13 v8 v9 h1 r14 v10 v11 r15 v12 v13 r16 v14 w15 r17 v16 v17 r18 r19 r20 r21 r22 r23 v18 r24 r25 r26 v19 h1 g0 (upd f20 (pm_I v21 1) v22)))) (va_A (wd_5013416a h0 v0 r0 v1 v2 v3 v4 r1 r2 r3 r4 r5 r6 r7 v5 v6 r8 r9 r10 r11 v7 r12 r13 v8 v9 h1 r14 v10 v11 r15 v12 v13 r16 v14 w15 r17 v16 v17 r18 r19 r20 r21 r22 r23 v18 r24 r25 r26 v19 h1 g0 f20) sz)) 0 0 (va_A (wd_5013416a h0 v0 r0 v1 v2 v3 v4 r1 r2 r3 r4 r5 r6 r7 v5 v6 r8 r9 r10 r11 v7 r12 r13 v8 v9 h1 r14 v10 v11 r15 v12 v13 r16 v14 w15 r17 v16 v17 r18 r19 r20 r21 r22 r23 v18 r24 r25 r26 v19 h1 g0 f20) sz) := by
  refine Met.ofW (cc := cX12_set) (maxL := 4) (ret := none) (by decide) rfl ?_
  intro p e s m args below meth c s₁ B hml hv
  obtain ⟨i_v1a, i_v1b⟩ := i_v1
  obtain ⟨i_v5a, i_v5b⟩ := i_v5
  obtain ⟨i_v6a, i_v6b⟩ := i_v6
  obtain ⟨i_v7a, i_v7b⟩ := i_v7
  obtain ⟨i_v8a, i_v8b⟩ := i_v8
  obtain ⟨i_v9a, i_v9b⟩ := i_v9
  obtain ⟨i_v10a, i_v10b⟩ := i_v10
  obtain ⟨i_v14a, i_v14b⟩ := i_v14
  obtain ⟨i_v18a, i_v18b⟩ := i_v18
  obtain ⟨i_v19a, i_v19b⟩ := i_v19
  obtain ⟨i_v21a, i_v21b⟩ := i_v21
  obtain ⟨rfl, hsz, hP, hK, hD0⟩ := hv
  have hx := B.exec
  have hb := B.bytes
  have hr := B.returns
  have hts := atoms_spec (ws := q_X12_set_6) B.pre
  have hown : s.vm.findClass RX12 = some m.cls := findClass_of_methodNamed B.named
  have hlocks := B.notSynchronized
  subst hsz
  have hD := hD0.self (sz := s.heap.size)
  generalize hAe : va_A (wd_5013416a h0 v0 r0 v1 v2 v3 v4 r1 r2 r3 r4 r5 r6 r7 v5 v6 r8 r9 r10 r11 v7 r12 r13 v8 v9 h1 r14 v10 v11 r15 v12 v13 r16 v14 w15 r17 v16 v17 r18 r19 r20 r21 r22 r23 v18 r24 r25 r26 v19 h1 g0 f20) s.heap.size = A at hD ⊢
  have hA : ∀ q : Nat, s.heap.size ≤ q → A q := fun q h => by rw [← hAe]; exact Or.inr h
  have hS : va_S A s.heap s.heap [] := va_S.rf
  generalize hQ : (MQ below _ _ s 0 0 A) = Q
  have hl := lv_entry ([.ref h0, .int v21, .int 1, .int v22]) (n := 4) (Nat.le_of_ble_eq_true rfl)
  rw [lg_entry_eq]
  generalize (lg_sl ([.ref h0, .int v21, .int 1, .int v22]) ++ List.replicate (4 - (lg_sl ([.ref h0, .int v21, .int 1, .int v22])).length) Slot.unset).toArray = ls at hl ⊢
  have hl : lv_has ls 4 [(0, .ref h0), (1, .int v21), (2, .int 1), (3, .int v22)] := hl
  obtain ⟨H, hH⟩ : ∃ H : Heap, H = s.heap := ⟨_, rfl⟩
  obtain ⟨locs, hlocs⟩ : ∃ y : List Loc, y = [] := ⟨_, rfl⟩
  have hS : va_S A s.heap H locs := by rw [hH, hlocs]; exact va_S.rf
  have hP : va_P (dC, dI) vwCl (wd_5013416a h0 v0 r0 v1 v2 v3 v4 r1 r2 r3 r4 r5 r6 r7 v5 v6 r8 r9 r10 r11 v7 r12 r13 v8 v9 h1 r14 v10 v11 r15 v12 v13 r16 v14 w15 r17 v16 v17 r18 r19 r20 r21 r22 r23 v18 r24 r25 r26 v19 h1 g0 f20) H := by rw [hH]; exact hP
  rw [← hH, ← hlocs]
  refine lv_aload_n hx hb dX12_set_0 rfl (lv_at hl 0 rfl) ?_
  refine va_get (D := (dC, dI)) (ci := 12) (v := .ref h1) (C := RX12) (T := TX12) (N := 48) hx hb hts (fun _ h => List.mem_cons_of_mem _ (List.mem_append_right _ h)) hown hK hP 0 rfl rfl 24 (by decide) (hts (.fieldLink RX12 52 "LeftArgumentsModel" "now" "[I") (List.mem_cons_of_mem _ (List.mem_append_left _ (List.mem_of_getElem? (i := 0) rfl)))) (fun _ h9 => h9) rfl dX12_set_1 ?_
  refine lv_bipush (v := 8) hx hb dX12_set_4 (by decide) ?_
  refine lv_iload_n hx hb dX12_set_6 rfl (lv_at hl 1 rfl) ?_
  refine lv_imul hx hb dX12_set_7 ?_
  refine lv_topi (fun t1 et1 => ?_)
  have gt1 : t1.toInt = 8 * v21.toInt := pv_mul (a := 8) (b := v21.toInt) et1 (by decide) rfl (by omega) (by omega)
  refine lv_iload_n hx hb dX12_set_8 rfl (lv_at hl 2 rfl) ?_
  refine lv_iadd hx hb dX12_set_9 ?_
  refine lv_topi (fun t2 et2 => ?_)
  have gt2 : t2.toInt = t1.toInt + 1 := pv_add (a := t1.toInt) (b := 1) et2 rfl (by decide) (by omega) (by omega)
  refine lv_iload_n hx hb dX12_set_10 rfl (lv_at hl 3 rfl) ?_
  refine va_iast hx hb hK hP hD hS 1 0 rfl rfl (vp_in_iff.mpr ⟨by omega, by omega⟩) dX12_set_11 (fun H locs hP hD hS => ?_)
  obtain ⟨fn3, efn3⟩ : ∃ g : Nat → Int32, g = upd f20 (Int32.toNatClampNeg t2) v22 := ⟨_, rfl⟩
  rw [← efn3] at hP hD
  have ia_fn3 : pm_ANY fn3 := trivial
  have hP : va_P (dC, dI) vwCl (wd_5013416a h0 v0 r0 v1 v2 v3 v4 r1 r2 r3 r4 r5 r6 r7 v5 v6 r8 r9 r10 r11 v7 r12 r13 v8 v9 h1 r14 v10 v11 r15 v12 v13 r16 v14 w15 r17 v16 v17 r18 r19 r20 r21 r22 r23 v18 r24 r25 r26 v19 h1 g0 fn3) H := hP
  have hD : va_D A (wd_5013416a h0 v0 r0 v1 v2 v3 v4 r1 r2 r3 r4 r5 r6 r7 v5 v6 r8 r9 r10 r11 v7 r12 r13 v8 v9 h1 r14 v10 v11 r15 v12 v13 r16 v14 w15 r17 v16 v17 r18 r19 r20 r21 r22 r23 v18 r24 r25 r26 v19 h1 g0 fn3) := hD
  subst hQ
  have e9 : fn3 = (upd f20 (pm_I v21 1) v22) := by subst_vars; rfl
  rw [e9] at hP hD
  have hP9 := hP.sub (ws' := (wd_5013416a h0 v0 r0 v1 v2 v3 v4 r1 r2 r3 r4 r5 r6 r7 v5 v6 r8 r9 r10 r11 v7 r12 r13 v8 v9 h1 r14 v10 v11 r15 v12 v13 r16 v14 w15 r17 v16 v17 r18 r19 r20 r21 r22 r23 v18 r24 r25 r26 v19 h1 g0 (upd f20 (pm_I v21 1) v22))) [0, 1] rfl
  have hD9 := hD.sub (ws' := (wd_5013416a h0 v0 r0 v1 v2 v3 v4 r1 r2 r3 r4 r5 r6 r7 v5 v6 r8 r9 r10 r11 v7 r12 r13 v8 v9 h1 r14 v10 v11 r15 v12 v13 r16 v14 w15 r17 v16 v17 r18 r19 r20 r21 r22 r23 v18 r24 r25 r26 v19 h1 g0 (upd f20 (pm_I v21 1) v22))) [0, 1] (by decide) rfl
  have hK9 := hK.sub (tys' := []) [] rfl
  exact W.vret hx hb hr (fun t ht hW => ⟨⟨(), rfl, trivial, ⟨by rw [ht]; exact hP9, va_K.moved hW.alike hK9, hD9⟩⟩, hS.F ht⟩) hS.2.2 dX12_set_12
def q_X12_set_7 : List Cond := .code yX12_set cX12_set 4 none :: (([.fieldLink RX12 52 "LeftArgumentsModel" "now" "[I"] : List Cond) ++ wsX120)
set_option maxHeartbeats 4000000 in
set_option maxRecDepth 100000 in
theorem k_X12_set_7 (l : Launch) (dC : Nat → ClassId) (dI : Nat → Nat → Nat) (h0 : Nat) (h1 : Nat) (v0 : Int32) (r0 : Nat) (v1 : Int32) (v2 : Int32) (v3 : Int32) (v4 : Int32) (r1 : Nat) (r2 : Nat) (r3 : Nat) (r4 : Nat) (r5 : Nat) (r6 : Nat) (r7 : Nat) (v5 : Int32) (v6 : Int32) (r8 : Nat) (r9 : Nat) (r10 : Nat) (r11 : Nat) (v7 : Int32) (r12 : Nat) (r13 : Nat) (v8 : Int32) (v9 : Int32) (r14 : Nat) (v10 : Int32) (v11 : Int32) (r15 : Nat) (v12 : Int32) (v13 : Int32) (r16 : Nat) (v14 : Int32) (w15 : Int64) (r17 : Nat) (v16 : Int32) (v17 : Int32) (r18 : Nat) (r19 : Nat) (r20 : Nat) (r21 : Nat) (r22 : Nat) (r23 : Nat) (v18 : Int32) (r24 : Nat) (r25 : Nat) (r26 : Nat) (v19 : Int32) (g0 : ClassId) (f20 : Nat → Int32) (v21 : Int32) (v22 : Int32) (i_v1 : 0 ≤ v1.toInt ∧ v1.toInt ≤ 240) (i_v5 : 0 ≤ v5.toInt ∧ v5.toInt ≤ 4) (i_v6 : 0 ≤ v6.toInt ∧ v6.toInt ≤ 4) (i_v7 : 0 ≤ v7.toInt ∧ v7.toInt ≤ 8) (i_v8 : 0 ≤ v8.toInt ∧ v8.toInt ≤ 8) (i_v9 : 0 ≤ v9.toInt ∧ v9.toInt ≤ 1) (i_v10 : -1 ≤ v10.toInt ∧ v10.toInt ≤ 3) (i_v14 : 0 ≤ v14.toInt ∧ v14.toInt ≤ 40) (i_v18 : 0 ≤ v18.toInt ∧ v18.toInt ≤ 10) (i_v19 : 0 ≤ v19.toInt ∧ v19.toInt ≤ 1) (i_v21 : 0 ≤ v21.toInt ∧ v21.toInt ≤ 7) (ia_f20 : (pm_ANY f20)) (sz : Nat) : Met l yX12_set q_X12_set_7 ({ frames := 0, cells := 0, slots := 0, locals := 0 }) (va_Pc [.ref h0, .int v21, .int 2, .int v22] (fun U => U.heap.size = sz ∧ va_P (dC, dI) vwCl (wd_5013416a h0 v0 r0 v1 v2 v3 v4 r1 r2 r3 r4 r5 r6 r7 v5 v6 r8 r9 r10 r11 v7 r12 r13 v8 v9 h1 r14 v10 v11 r15 v12 v13 r16 v14 w15 r17 v16 v17 r18 r19 r20 r21 r22 r23 v18 r24 r25 r26 v19 h1 g0 f20) U.heap ∧ va_K (dC, dI) vwCl [(g0, .int)] U ∧ va_D (fun _ => True) (wd_5013416a h0 v0 r0 v1 v2 v3 v4 r1 r2 r3 r4 r5 r6 r7 v5 v6 r8 r9 r10 r11 v7 r12 r13 v8 v9 h1 r14 v10 v11 r15 v12 v13 r16 v14 w15 r17 v16 v17 r18 r19 r20 r21 r22 r23 v18 r24 r25 r26 v19 h1 g0 f20))) (va_Qv (fun (_ : Unit) => True) (fun (_ : Unit) (t : State) => (va_P (dC, dI) vwCl (wd_5013416a h0 v0 r0 v1 v2 v3 v4 r1 r2 r3 r4 r5 r6 r7 v5 v6 r8 r9 r10 r11 v7 r12 r13 v8 v9 h1 r14 v10 v11 r15 v12 v13 r16 v14 w15 r17 v16 v17 r18 r19 r20 r21 r22 r23 v18 r24 r25 r26 v19 h1 g0 (upd f20 (pm_I v21 2) v22)) t.heap ∧ va_K (dC, dI) vwCl [] t ∧ va_D (va_A (wd_5013416a h0 v0 r0 v1 v2 v3 v4 r1 r2 r3 r4 r5 r6 r7 v5 v6 r8 r9 r10 r11 v7 r12 r13 v8 v9 h1 r14 v10 v11 r15 v12 v13 r16 v14 w15 r17 v16 v17 r18 r19 r20 r21 r22 r23 v18 r24 r25 r26 v19 h1 g0 f20) sz) (wd_5013416a h0 v0 r0 v1 v2 v3 v4 r1 r2 r3 r4 r5 r6 r7 v5 v6 r8 r9 r10 r11 v7 r12 r13 v8 v9 h1 r14 v10 v11 r15 v12 v13 r16 v14 w15 r17 v16 v17 r18 r19 r20 r21 r22 r23 v18 r24 r25 r26 v19 h1 g0 (upd f20 (pm_I v21 2) v22)))) (va_A (wd_5013416a h0 v0 r0 v1 v2 v3 v4 r1 r2 r3 r4 r5 r6 r7 v5 v6 r8 r9 r10 r11 v7 r12 r13 v8 v9 h1 r14 v10 v11 r15 v12 v13 r16 v14 w15 r17 v16 v17 r18 r19 r20 r21 r22 r23 v18 r24 r25 r26 v19 h1 g0 f20) sz)) 0 0 (va_A (wd_5013416a h0 v0 r0 v1 v2 v3 v4 r1 r2 r3 r4 r5 r6 r7 v5 v6 r8 r9 r10 r11 v7 r12 r13 v8 v9 h1 r14 v10 v11 r15 v12 v13 r16 v14 w15 r17 v16 v17 r18 r19 r20 r21 r22 r23 v18 r24 r25 r26 v19 h1 g0 f20) sz) := by
  refine Met.ofW (cc := cX12_set) (maxL := 4) (ret := none) (by decide) rfl ?_
  intro p e s m args below meth c s₁ B hml hv
  obtain ⟨i_v1a, i_v1b⟩ := i_v1
  obtain ⟨i_v5a, i_v5b⟩ := i_v5
  obtain ⟨i_v6a, i_v6b⟩ := i_v6
  obtain ⟨i_v7a, i_v7b⟩ := i_v7
  obtain ⟨i_v8a, i_v8b⟩ := i_v8
  obtain ⟨i_v9a, i_v9b⟩ := i_v9
  obtain ⟨i_v10a, i_v10b⟩ := i_v10
  obtain ⟨i_v14a, i_v14b⟩ := i_v14
  obtain ⟨i_v18a, i_v18b⟩ := i_v18
  obtain ⟨i_v19a, i_v19b⟩ := i_v19
  obtain ⟨i_v21a, i_v21b⟩ := i_v21
  obtain ⟨rfl, hsz, hP, hK, hD0⟩ := hv
  have hx := B.exec
  have hb := B.bytes
  have hr := B.returns
  have hts := atoms_spec (ws := q_X12_set_7) B.pre
  have hown : s.vm.findClass RX12 = some m.cls := findClass_of_methodNamed B.named
  have hlocks := B.notSynchronized
  subst hsz
  have hD := hD0.self (sz := s.heap.size)
  generalize hAe : va_A (wd_5013416a h0 v0 r0 v1 v2 v3 v4 r1 r2 r3 r4 r5 r6 r7 v5 v6 r8 r9 r10 r11 v7 r12 r13 v8 v9 h1 r14 v10 v11 r15 v12 v13 r16 v14 w15 r17 v16 v17 r18 r19 r20 r21 r22 r23 v18 r24 r25 r26 v19 h1 g0 f20) s.heap.size = A at hD ⊢
  have hA : ∀ q : Nat, s.heap.size ≤ q → A q := fun q h => by rw [← hAe]; exact Or.inr h
  have hS : va_S A s.heap s.heap [] := va_S.rf
  generalize hQ : (MQ below _ _ s 0 0 A) = Q
  have hl := lv_entry ([.ref h0, .int v21, .int 2, .int v22]) (n := 4) (Nat.le_of_ble_eq_true rfl)
  rw [lg_entry_eq]
  generalize (lg_sl ([.ref h0, .int v21, .int 2, .int v22]) ++ List.replicate (4 - (lg_sl ([.ref h0, .int v21, .int 2, .int v22])).length) Slot.unset).toArray = ls at hl ⊢
  have hl : lv_has ls 4 [(0, .ref h0), (1, .int v21), (2, .int 2), (3, .int v22)] := hl
  obtain ⟨H, hH⟩ : ∃ H : Heap, H = s.heap := ⟨_, rfl⟩
  obtain ⟨locs, hlocs⟩ : ∃ y : List Loc, y = [] := ⟨_, rfl⟩
  have hS : va_S A s.heap H locs := by rw [hH, hlocs]; exact va_S.rf
  have hP : va_P (dC, dI) vwCl (wd_5013416a h0 v0 r0 v1 v2 v3 v4 r1 r2 r3 r4 r5 r6 r7 v5 v6 r8 r9 r10 r11 v7 r12 r13 v8 v9 h1 r14 v10 v11 r15 v12 v13 r16 v14 w15 r17 v16 v17 r18 r19 r20 r21 r22 r23 v18 r24 r25 r26 v19 h1 g0 f20) H := by rw [hH]; exact hP
  rw [← hH, ← hlocs]
  refine lv_aload_n hx hb dX12_set_0 rfl (lv_at hl 0 rfl) ?_
  refine va_get (D := (dC, dI)) (ci := 12) (v := .ref h1) (C := RX12) (T := TX12) (N := 48) hx hb hts (fun _ h => List.mem_cons_of_mem _ (List.mem_append_right _ h)) hown hK hP 0 rfl rfl 24 (by decide) (hts (.fieldLink RX12 52 "LeftArgumentsModel" "now" "[I") (List.mem_cons_of_mem _ (List.mem_append_left _ (List.mem_of_getElem? (i := 0) rfl)))) (fun _ h9 => h9) rfl dX12_set_1 ?_
  refine lv_bipush (v := 8) hx hb dX12_set_4 (by decide) ?_
  refine lv_iload_n hx hb dX12_set_6 rfl (lv_at hl 1 rfl) ?_
  refine lv_imul hx hb dX12_set_7 ?_
  refine lv_topi (fun t1 et1 => ?_)
  have gt1 : t1.toInt = 8 * v21.toInt := pv_mul (a := 8) (b := v21.toInt) et1 (by decide) rfl (by omega) (by omega)
  refine lv_iload_n hx hb dX12_set_8 rfl (lv_at hl 2 rfl) ?_
  refine lv_iadd hx hb dX12_set_9 ?_
  refine lv_topi (fun t2 et2 => ?_)
  have gt2 : t2.toInt = t1.toInt + 2 := pv_add (a := t1.toInt) (b := 2) et2 rfl (by decide) (by omega) (by omega)
  refine lv_iload_n hx hb dX12_set_10 rfl (lv_at hl 3 rfl) ?_
  refine va_iast hx hb hK hP hD hS 1 0 rfl rfl (vp_in_iff.mpr ⟨by omega, by omega⟩) dX12_set_11 (fun H locs hP hD hS => ?_)
  obtain ⟨fn3, efn3⟩ : ∃ g : Nat → Int32, g = upd f20 (Int32.toNatClampNeg t2) v22 := ⟨_, rfl⟩
  rw [← efn3] at hP hD
  have ia_fn3 : pm_ANY fn3 := trivial
  have hP : va_P (dC, dI) vwCl (wd_5013416a h0 v0 r0 v1 v2 v3 v4 r1 r2 r3 r4 r5 r6 r7 v5 v6 r8 r9 r10 r11 v7 r12 r13 v8 v9 h1 r14 v10 v11 r15 v12 v13 r16 v14 w15 r17 v16 v17 r18 r19 r20 r21 r22 r23 v18 r24 r25 r26 v19 h1 g0 fn3) H := hP
  have hD : va_D A (wd_5013416a h0 v0 r0 v1 v2 v3 v4 r1 r2 r3 r4 r5 r6 r7 v5 v6 r8 r9 r10 r11 v7 r12 r13 v8 v9 h1 r14 v10 v11 r15 v12 v13 r16 v14 w15 r17 v16 v17 r18 r19 r20 r21 r22 r23 v18 r24 r25 r26 v19 h1 g0 fn3) := hD
  subst hQ
  have e9 : fn3 = (upd f20 (pm_I v21 2) v22) := by subst_vars; rfl
  rw [e9] at hP hD
  have hP9 := hP.sub (ws' := (wd_5013416a h0 v0 r0 v1 v2 v3 v4 r1 r2 r3 r4 r5 r6 r7 v5 v6 r8 r9 r10 r11 v7 r12 r13 v8 v9 h1 r14 v10 v11 r15 v12 v13 r16 v14 w15 r17 v16 v17 r18 r19 r20 r21 r22 r23 v18 r24 r25 r26 v19 h1 g0 (upd f20 (pm_I v21 2) v22))) [0, 1] rfl
  have hD9 := hD.sub (ws' := (wd_5013416a h0 v0 r0 v1 v2 v3 v4 r1 r2 r3 r4 r5 r6 r7 v5 v6 r8 r9 r10 r11 v7 r12 r13 v8 v9 h1 r14 v10 v11 r15 v12 v13 r16 v14 w15 r17 v16 v17 r18 r19 r20 r21 r22 r23 v18 r24 r25 r26 v19 h1 g0 (upd f20 (pm_I v21 2) v22))) [0, 1] (by decide) rfl
  have hK9 := hK.sub (tys' := []) [] rfl
  exact W.vret hx hb hr (fun t ht hW => ⟨⟨(), rfl, trivial, ⟨by rw [ht]; exact hP9, va_K.moved hW.alike hK9, hD9⟩⟩, hS.F ht⟩) hS.2.2 dX12_set_12
def q_X12_layBag : List Cond := .code yX12_layBag cX12_layBag 3 none :: (([.fieldLink RX12 49 "LeftArgumentsModel" "bag" "[I", .code yX12_set cX12_set 4 none, .fieldLink RX12 52 "LeftArgumentsModel" "now" "[I", .initialized RX12, .instanceMethod yX12_set, .selects RX12 yX12_set yX12_set, .methodLink RX12 258 yX12_set] : List Cond) ++ wsX120)
set_option maxRecDepth 20000 in
theorem g_X12_layBag_0 : GoodIn q_X12_layBag (wsV RX12 258 RX12 yX12_set q_X12_set_2) := goodIn_app (goodIn_r _ [7, 5, 6, 4] rfl (by decide +kernel)) (goodIn_ca (goodIn_r (.code yX12_set cX12_set 4 none :: [.fieldLink RX12 52 "LeftArgumentsModel" "now" "[I"]) [2, 3] rfl (by decide +kernel)) (goodIn_sub (fun _ h => List.mem_cons_of_mem _ (List.mem_append_right _ h)) gwX12))
set_option maxRecDepth 20000 in
theorem g_X12_layBag_1 : GoodIn q_X12_layBag (wsV RX12 258 RX12 yX12_set q_X12_set_6) := goodIn_app (goodIn_r _ [7, 5, 6, 4] rfl (by decide +kernel)) (goodIn_ca (goodIn_r (.code yX12_set cX12_set 4 none :: [.fieldLink RX12 52 "LeftArgumentsModel" "now" "[I"]) [2, 3] rfl (by decide +kernel)) (goodIn_sub (fun _ h => List.mem_cons_of_mem _ (List.mem_append_right _ h)) gwX12))
set_option maxRecDepth 20000 in
theorem g_X12_layBag_2 : GoodIn q_X12_layBag (wsV RX12 258 RX12 yX12_set q_X12_set_7) := goodIn_app (goodIn_r _ [7, 5, 6, 4] rfl (by decide +kernel)) (goodIn_ca (goodIn_r (.code yX12_set cX12_set 4 none :: [.fieldLink RX12 52 "LeftArgumentsModel" "now" "[I"]) [2, 3] rfl (by decide +kernel)) (goodIn_sub (fun _ h => List.mem_cons_of_mem _ (List.mem_append_right _ h)) gwX12))
set_option maxRecDepth 20000 in
theorem g_X12_layBag_3 : GoodIn q_X12_layBag (wsV RX12 258 RX12 yX12_set q_X12_set_1) := goodIn_app (goodIn_r _ [7, 5, 6, 4] rfl (by decide +kernel)) (goodIn_ca (goodIn_r (.code yX12_set cX12_set 4 none :: [.fieldLink RX12 52 "LeftArgumentsModel" "now" "[I"]) [2, 3] rfl (by decide +kernel)) (goodIn_sub (fun _ h => List.mem_cons_of_mem _ (List.mem_append_right _ h)) gwX12))
set_option maxRecDepth 20000 in
theorem g_X12_layBag_4 : GoodIn q_X12_layBag (wsV RX12 258 RX12 yX12_set q_X12_set_3) := goodIn_app (goodIn_r _ [7, 5, 6, 4] rfl (by decide +kernel)) (goodIn_ca (goodIn_r (.code yX12_set cX12_set 4 none :: [.fieldLink RX12 52 "LeftArgumentsModel" "now" "[I"]) [2, 3] rfl (by decide +kernel)) (goodIn_sub (fun _ h => List.mem_cons_of_mem _ (List.mem_append_right _ h)) gwX12))
set_option maxRecDepth 20000 in
theorem g_X12_layBag_5 : GoodIn q_X12_layBag (wsV RX12 258 RX12 yX12_set q_X12_set_5) := goodIn_app (goodIn_r _ [7, 5, 6, 4] rfl (by decide +kernel)) (goodIn_ca (goodIn_r (.code yX12_set cX12_set 4 none :: [.fieldLink RX12 52 "LeftArgumentsModel" "now" "[I"]) [2, 3] rfl (by decide +kernel)) (goodIn_sub (fun _ h => List.mem_cons_of_mem _ (List.mem_append_right _ h)) gwX12))
set_option maxRecDepth 20000 in
theorem g_X12_layBag_6 : GoodIn q_X12_layBag (wsV RX12 258 RX12 yX12_set q_X12_set_4) := goodIn_app (goodIn_r _ [7, 5, 6, 4] rfl (by decide +kernel)) (goodIn_ca (goodIn_r (.code yX12_set cX12_set 4 none :: [.fieldLink RX12 52 "LeftArgumentsModel" "now" "[I"]) [2, 3] rfl (by decide +kernel)) (goodIn_sub (fun _ h => List.mem_cons_of_mem _ (List.mem_append_right _ h)) gwX12))
set_option maxRecDepth 20000 in
theorem g_X12_layBag_7 : GoodIn q_X12_layBag (wsV RX12 258 RX12 yX12_set q_X12_set) := goodIn_app (goodIn_r _ [7, 5, 6, 4] rfl (by decide +kernel)) (goodIn_ca (goodIn_r (.code yX12_set cX12_set 4 none :: [.fieldLink RX12 52 "LeftArgumentsModel" "now" "[I"]) [2, 3] rfl (by decide +kernel)) (goodIn_sub (fun _ h => List.mem_cons_of_mem _ (List.mem_append_right _ h)) gwX12))
set_option maxHeartbeats 4000000 in
set_option maxRecDepth 100000 in
theorem k_X12_layBag (l : Launch) (dC : Nat → ClassId) (dI : Nat → Nat → Nat) (h0 : Nat) (h1 : Nat) (h2 : Nat) (v0 : Int32) (r0 : Nat) (v1 : Int32) (v2 : Int32) (v3 : Int32) (v4 : Int32) (r1 : Nat) (r2 : Nat) (r3 : Nat) (r4 : Nat) (r5 : Nat) (r6 : Nat) (r7 : Nat) (v5 : Int32) (v6 : Int32) (r8 : Nat) (r9 : Nat) (r10 : Nat) (r11 : Nat) (v7 : Int32) (r12 : Nat) (v8 : Int32) (v9 : Int32) (r13 : Nat) (v10 : Int32) (v11 : Int32) (r14 : Nat) (v12 : Int32) (v13 : Int32) (r15 : Nat) (v14 : Int32) (w15 : Int64) (r16 : Nat) (v16 : Int32) (v17 : Int32) (r17 : Nat) (r18 : Nat) (r19 : Nat) (r20 : Nat) (r21 : Nat) (r22 : Nat) (v18 : Int32) (r23 : Nat) (r24 : Nat) (r25 : Nat) (v19 : Int32) (g0 : ClassId) (f20 : Nat → Int32) (g1 : ClassId) (f21 : Nat → Int32) (v22 : Int32) (i_v1 : 0 ≤ v1.toInt ∧ v1.toInt ≤ 240) (i_v5 : 0 ≤ v5.toInt ∧ v5.toInt ≤ 4) (i_v6 : 0 ≤ v6.toInt ∧ v6.toInt ≤ 4) (i_v7 : 0 ≤ v7.toInt ∧ v7.toInt ≤ 8) (i_v8 : 0 ≤ v8.toInt ∧ v8.toInt ≤ 8) (i_v9 : 0 ≤ v9.toInt ∧ v9.toInt ≤ 1) (i_v10 : -1 ≤ v10.toInt ∧ v10.toInt ≤ 3) (i_v14 : 0 ≤ v14.toInt ∧ v14.toInt ≤ 40) (i_v18 : 0 ≤ v18.toInt ∧ v18.toInt ≤ 10) (i_v19 : 0 ≤ v19.toInt ∧ v19.toInt ≤ 1) (i_v22 : 0 ≤ v22.toInt ∧ v22.toInt ≤ 7) (ia_f21 : (pm_NW f21)) (pp0 : pm_bg f20 v22) (sz : Nat) : Met l yX12_layBag q_X12_layBag ({ frames := 1, cells := 0, slots := 0, locals := 23 }) (va_Pc [.ref h0, .int v22] (fun U => U.heap.size = sz ∧ va_P (dC, dI) vwCl (wd_8dccebc0 h0 v0 r0 v1 v2 v3 v4 r1 r2 r3 r4 r5 r6 r7 v5 v6 r8 r9 r10 r11 v7 r12 h1 v8 v9 h2 r13 v10 v11 r14 v12 v13 r15 v14 w15 r16 v16 v17 r17 r18 r19 r20 r21 r22 v18 r23 r24 r25 v19 h1 g0 f20 h2 g1 f21) U.heap ∧ va_K (dC, dI) vwCl [(g0, .int), (g1, .int)] U ∧ va_D (fun _ => True) (wd_8dccebc0 h0 v0 r0 v1 v2 v3 v4 r1 r2 r3 r4 r5 r6 r7 v5 v6 r8 r9 r10 r11 v7 r12 h1 v8 v9 h2 r13 v10 v11 r14 v12 v13 r15 v14 w15 r16 v16 v17 r17 r18 r19 r20 r21 r22 v18 r23 r24 r25 v19 h1 g0 f20 h2 g1 f21))) (va_Qv (fun (_ : Unit) => True) (fun (_ : Unit) (t : State) => (∃ (o_h2 : Nat → Int32), (pm_NW o_h2) ∧ va_P (dC, dI) vwCl (wd_8dccebc0 h0 v0 r0 v1 v2 v3 v4 r1 r2 r3 r4 r5 r6 r7 v5 v6 r8 r9 r10 r11 v7 r12 h1 v8 v9 h2 r13 v10 v11 r14 v12 v13 r15 v14 w15 r16 v16 v17 r17 r18 r19 r20 r21 r22 v18 r23 r24 r25 v19 h1 g0 f20 h2 g1 o_h2) t.heap ∧ va_K (dC, dI) vwCl [] t ∧ va_D (va_A (wd_8dccebc0 h0 v0 r0 v1 v2 v3 v4 r1 r2 r3 r4 r5 r6 r7 v5 v6 r8 r9 r10 r11 v7 r12 h1 v8 v9 h2 r13 v10 v11 r14 v12 v13 r15 v14 w15 r16 v16 v17 r17 r18 r19 r20 r21 r22 v18 r23 r24 r25 v19 h1 g0 f20 h2 g1 f21) sz) (wd_8dccebc0 h0 v0 r0 v1 v2 v3 v4 r1 r2 r3 r4 r5 r6 r7 v5 v6 r8 r9 r10 r11 v7 r12 h1 v8 v9 h2 r13 v10 v11 r14 v12 v13 r15 v14 w15 r16 v16 v17 r17 r18 r19 r20 r21 r22 v18 r23 r24 r25 v19 h1 g0 f20 h2 g1 o_h2))) (va_A (wd_8dccebc0 h0 v0 r0 v1 v2 v3 v4 r1 r2 r3 r4 r5 r6 r7 v5 v6 r8 r9 r10 r11 v7 r12 h1 v8 v9 h2 r13 v10 v11 r14 v12 v13 r15 v14 w15 r16 v16 v17 r17 r18 r19 r20 r21 r22 v18 r23 r24 r25 v19 h1 g0 f20 h2 g1 f21) sz)) 0 0 (va_A (wd_8dccebc0 h0 v0 r0 v1 v2 v3 v4 r1 r2 r3 r4 r5 r6 r7 v5 v6 r8 r9 r10 r11 v7 r12 h1 v8 v9 h2 r13 v10 v11 r14 v12 v13 r15 v14 w15 r16 v16 v17 r17 r18 r19 r20 r21 r22 v18 r23 r24 r25 v19 h1 g0 f20 h2 g1 f21) sz) := by
  refine Met.ofW (cc := cX12_layBag) (maxL := 3) (ret := none) (by decide) rfl ?_
  intro p e s m args below meth c s₁ B hml hv
  obtain ⟨i_v1a, i_v1b⟩ := i_v1
  obtain ⟨i_v5a, i_v5b⟩ := i_v5
  obtain ⟨i_v6a, i_v6b⟩ := i_v6
  obtain ⟨i_v7a, i_v7b⟩ := i_v7
  obtain ⟨i_v8a, i_v8b⟩ := i_v8
  obtain ⟨i_v9a, i_v9b⟩ := i_v9
  obtain ⟨i_v10a, i_v10b⟩ := i_v10
  obtain ⟨i_v14a, i_v14b⟩ := i_v14
  obtain ⟨i_v18a, i_v18b⟩ := i_v18
  obtain ⟨i_v19a, i_v19b⟩ := i_v19
  obtain ⟨i_v22a, i_v22b⟩ := i_v22
  obtain ⟨rfl, hsz, hP, hK, hD0⟩ := hv
  have hx := B.exec
  have hb := B.bytes
  have hr := B.returns
  have hts := atoms_spec (ws := q_X12_layBag) B.pre
  have hown : s.vm.findClass RX12 = some m.cls := findClass_of_methodNamed B.named
  have hlocks := B.notSynchronized
  subst hsz
  have hD := hD0.self (sz := s.heap.size)
  generalize hAe : va_A (wd_8dccebc0 h0 v0 r0 v1 v2 v3 v4 r1 r2 r3 r4 r5 r6 r7 v5 v6 r8 r9 r10 r11 v7 r12 h1 v8 v9 h2 r13 v10 v11 r14 v12 v13 r15 v14 w15 r16 v16 v17 r17 r18 r19 r20 r21 r22 v18 r23 r24 r25 v19 h1 g0 f20 h2 g1 f21) s.heap.size = A at hD ⊢
  have hA : ∀ q : Nat, s.heap.size ≤ q → A q := fun q h => by rw [← hAe]; exact Or.inr h
  have hS : va_S A s.heap s.heap [] := va_S.rf
  generalize hQ : (MQ below _ _ s 0 0 A) = Q
  have hl := lv_entry ([.ref h0, .int v22]) (n := 3) (Nat.le_of_ble_eq_true rfl)
  rw [lg_entry_eq]
  generalize (lg_sl ([.ref h0, .int v22]) ++ List.replicate (3 - (lg_sl ([.ref h0, .int v22])).length) Slot.unset).toArray = ls at hl ⊢
  have hl : lv_has ls 3 [(0, .ref h0), (1, .int v22)] := hl
  obtain ⟨H, hH⟩ : ∃ H : Heap, H = s.heap := ⟨_, rfl⟩
  obtain ⟨locs, hlocs⟩ : ∃ y : List Loc, y = [] := ⟨_, rfl⟩
  have hS : va_S A s.heap H locs := by rw [hH, hlocs]; exact va_S.rf
  have hP : va_P (dC, dI) vwCl (wd_8dccebc0 h0 v0 r0 v1 v2 v3 v4 r1 r2 r3 r4 r5 r6 r7 v5 v6 r8 r9 r10 r11 v7 r12 h1 v8 v9 h2 r13 v10 v11 r14 v12 v13 r15 v14 w15 r16 v16 v17 r17 r18 r19 r20 r21 r22 v18 r23 r24 r25 v19 h1 g0 f20 h2 g1 f21) H := by rw [hH]; exact hP
  rw [← hH, ← hlocs]
  refine lv_iconst (v := 0) hx hb dX12_layBag_0 (by decide) ?_
  refine lv_istore_n (lv' := [(2, .int 0), (0, .ref h0), (1, .int v22)]) hx hb dX12_layBag_1 rfl hl (by decide) rfl (fun ls hl => ?_)
  refine lv_iload_n hx hb dX12_layBag_2 rfl (lv_at hl 0 rfl) ?_
  refine lv_iconst (v := 5) hx hb dX12_layBag_3 (by decide) ?_
  refine lv_icmp_ge (tgt := 29) hx hb dX12_layBag_4 (by decide) (fun c => absurd c (by decide)) (fun _ => ?_)
  refine lv_aload_n hx hb dX12_layBag_7 rfl (lv_at hl 1 rfl) ?_
  refine lv_iload_n hx hb dX12_layBag_8 rfl (lv_at hl 2 rfl) ?_
  refine lv_iload_n hx hb dX12_layBag_9 rfl (lv_at hl 0 rfl) ?_
  refine lv_aload_n hx hb dX12_layBag_10 rfl (lv_at hl 1 rfl) ?_
  refine va_get (D := (dC, dI)) (ci := 12) (v := .ref h1) (C := RX12) (T := TX12) (N := 48) hx hb hts (fun _ h => List.mem_cons_of_mem _ (List.mem_append_right _ h)) hown hK hP 0 rfl rfl 21 (by decide) (hts (.fieldLink RX12 49 "LeftArgumentsModel" "bag" "[I") (List.mem_cons_of_mem _ (List.mem_append_left _ (List.mem_of_getElem? (i := 0) rfl)))) (fun _ h9 => h9) rfl dX12_layBag_11 ?_
  refine lv_iconst (v := 5) hx hb dX12_layBag_14 (by decide) ?_
  refine lv_iload_n hx hb dX12_layBag_15 rfl (lv_at hl 2 rfl) ?_
  refine lv_imul hx hb dX12_layBag_16 ?_
  refine lv_topi (fun t1 et1 => ?_)
  have gt1 : t1.toInt = 5 * v22.toInt := pv_mul (a := 5) (b := v22.toInt) et1 (by decide) rfl (by omega) (by omega)
  refine lv_iload_n hx hb dX12_layBag_17 rfl (lv_at hl 0 rfl) ?_
  refine lv_iadd hx hb dX12_layBag_18 ?_
  refine lv_topi (fun t2 et2 => ?_)
  have gt2 : t2.toInt = t1.toInt + 0 := pv_add (a := t1.toInt) (b := 0) et2 rfl (by decide) (by omega) (by omega)
  refine va_iald hx hb hK hP 1 0 rfl rfl (vp_in_iff.mpr ⟨by omega, by omega⟩) dX12_layBag_19 ?_
  refine lv_topi (fun t3 et3 => ?_)
  have gbt3 : 1 ≤ t3.toInt ∧ t3.toInt ≤ 99 := by rw [et3]; exact pp0.sz (by omega) (by omega) (by omega)
  have hPc := hP.sub (ws' := (wd_5013416a h0 v0 r0 v1 v2 v3 v4 r1 r2 r3 r4 r5 r6 r7 v5 v6 r8 r9 r10 r11 v7 r12 h1 v8 v9 h2 r13 v10 v11 r14 v12 v13 r15 v14 w15 r16 v16 v17 r17 r18 r19 r20 r21 r22 v18 r23 r24 r25 v19 h2 g1 f21)) [0, 2] rfl
  have hDc := hD.sub (ws' := (wd_5013416a h0 v0 r0 v1 v2 v3 v4 r1 r2 r3 r4 r5 r6 r7 v5 v6 r8 r9 r10 r11 v7 r12 h1 v8 v9 h2 r13 v10 v11 r14 v12 v13 r15 v14 w15 r16 v16 v17 r17 r18 r19 r20 r21 r22 v18 r23 r24 r25 v19 h2 g1 f21)) [0, 2] (by decide) rfl
  have hKc := hK.sub (tys' := [(g1, .int)]) [1] rfl
  have hFc := va_free (wc := (wd_5013416a h0 v0 r0 v1 v2 v3 v4 r1 r2 r3 r4 r5 r6 r7 v5 v6 r8 r9 r10 r11 v7 r12 h1 v8 v9 h2 r13 v10 v11 r14 v12 v13 r15 v14 w15 r16 v16 v17 r17 r18 r19 r20 r21 r22 v18 r23 r24 r25 v19 h2 g1 f21)) hD hS hA [0, 2] rfl
  refine va_callv (va_runV (As := [.int v22, .int 0, .int t3]) (rest := []) ⟨hx, hb, hml, hown, hts⟩ (k_X12_set_2 l dC dI h0 h2 v0 r0 v1 v2 v3 v4 r1 r2 r3 r4 r5 r6 r7 v5 v6 r8 r9 r10 r11 v7 r12 h1 v8 v9 r13 v10 v11 r14 v12 v13 r15 v14 w15 r16 v16 v17 r17 r18 r19 r20 r21 r22 v18 r23 r24 r25 v19 g1 f21 v22 t3 ⟨i_v1a, i_v1b⟩ ⟨i_v5a, i_v5b⟩ ⟨i_v6a, i_v6b⟩ ⟨i_v7a, i_v7b⟩ ⟨i_v8a, i_v8b⟩ ⟨i_v9a, i_v9b⟩ ⟨i_v10a, i_v10b⟩ ⟨i_v14a, i_v14b⟩ ⟨i_v18a, i_v18b⟩ ⟨i_v19a, i_v19b⟩ ⟨i_v22a, i_v22b⟩ trivial H.size) (cwV 3 hts g_X12_layBag_0 rfl rfl rfl (by decide +kernel) ⟨Nat.le_of_ble_eq_true rfl, Nat.le_of_ble_eq_true rfl⟩) (pv_PV12 hPc hKc hDc (q0 := 0) rfl) rfl rfl hl.1 rfl (lv_room (Nat.le_of_ble_eq_true rfl)) dX12_layBag_20 ⟨Nat.le_of_ble_eq_true rfl, Nat.le_of_ble_eq_true rfl⟩) hS (fun q _ h => hFc q h) hFc (fun u t H1 locs ht hvm hwra4 hB hz1 hk1 hS => ?_)
  obtain ⟨hP1, hK1, hD1⟩ := hB
  rw [ht] at hP1
  obtain ⟨hP2, hD2⟩ := va_join (wr := (wd_aad598ec h1 g0 f20)) (w1 := (wd_5013416a h0 v0 r0 v1 v2 v3 v4 r1 r2 r3 r4 r5 r6 r7 v5 v6 r8 r9 r10 r11 v7 r12 h1 v8 v9 h2 r13 v10 v11 r14 v12 v13 r15 v14 w15 r16 v16 v17 r17 r18 r19 r20 r21 r22 v18 r23 r24 r25 v19 h2 g1 (upd f21 (pm_I v22 0) t3))) hP hD [0, 2] [1] rfl rfl (by decide) (by decide) hk1 hFc hP1 hD1
  clear hP hD hPc hDc hKc hFc hP1 hK1 hD1 hk1 hz1
  generalize H1 = H at hP2 hS ⊢
  have hP := hP2.sub (ws' := (wd_8dccebc0 h0 v0 r0 v1 v2 v3 v4 r1 r2 r3 r4 r5 r6 r7 v5 v6 r8 r9 r10 r11 v7 r12 h1 v8 v9 h2 r13 v10 v11 r14 v12 v13 r15 v14 w15 r16 v16 v17 r17 r18 r19 r20 r21 r22 v18 r23 r24 r25 v19 h1 g0 f20 h2 g1 (upd f21 (pm_I v22 0) t3))) [1, 0, 2] rfl
  have hD := hD2.sub (ws' := (wd_8dccebc0 h0 v0 r0 v1 v2 v3 v4 r1 r2 r3 r4 r5 r6 r7 v5 v6 r8 r9 r10 r11 v7 r12 h1 v8 v9 h2 r13 v10 v11 r14 v12 v13 r15 v14 w15 r16 v16 v17 r17 r18 r19 r20 r21 r22 v18 r23 r24 r25 v19 h1 g0 f20 h2 g1 (upd f21 (pm_I v22 0) t3))) [1, 0, 2] (by decide) rfl
  clear hP2 hD2
  obtain ⟨t5, et5⟩ : ∃ y : Int32, y = 8 * v22 + 0 := ⟨_, rfl⟩
  have gt5 : t5.toInt = 8 * v22.toInt + 0 := pm_i8 et5 rfl (by decide) (by omega) (by omega) (by omega) (by omega)
  obtain ⟨fn7, efn7⟩ : ∃ g : Nat → Int32, g = upd f21 (Int32.toNatClampNeg t5) t3 := ⟨_, rfl⟩
  have e9 : (upd f21 (pm_I v22 0) t3) = fn7 := by rw [efn7, et5]; rfl
  rw [e9] at hP hD
  have ia_fn7 : pm_NWB v22 fn7 := by rw [efn7]; exact pm_NW.mk (y := t3.toInt) ia_f21 (by omega) (by omega) (by omega) rfl (by omega) (by omega)
  have hP : va_P (dC, dI) vwCl (wd_8dccebc0 h0 v0 r0 v1 v2 v3 v4 r1 r2 r3 r4 r5 r6 r7 v5 v6 r8 r9 r10 r11 v7 r12 h1 v8 v9 h2 r13 v10 v11 r14 v12 v13 r15 v14 w15 r16 v16 v17 r17 r18 r19 r20 r21 r22 v18 r23 r24 r25 v19 h1 g0 f20 h2 g1 fn7) H := hP
  have hD : va_D A (wd_8dccebc0 h0 v0 r0 v1 v2 v3 v4 r1 r2 r3 r4 r5 r6 r7 v5 v6 r8 r9 r10 r11 v7 r12 h1 v8 v9 h2 r13 v10 v11 r14 v12 v13 r15 v14 w15 r16 v16 v17 r17 r18 r19 r20 r21 r22 v18 r23 r24 r25 v19 h1 g0 f20 h2 g1 fn7) := hD
  refine lv_iinc (v := 1) (lv' := [(2, .int 1), (0, .ref h0), (1, .int v22)]) hx hb dX12_layBag_23 hl (k := 0) rfl (by decide) (by decide) rfl (fun ls hl => ?_)
  refine lv_goto (tgt := 2) hx hb dX12_layBag_26 (by decide) ?_
  refine lv_iload_n hx hb dX12_layBag_2 rfl (lv_at hl 0 rfl) ?_
  refine lv_iconst (v := 5) hx hb dX12_layBag_3 (by decide) ?_
  refine lv_icmp_ge (tgt := 29) hx hb dX12_layBag_4 (by decide) (fun c => absurd c (by decide)) (fun _ => ?_)
  refine lv_aload_n hx hb dX12_layBag_7 rfl (lv_at hl 1 rfl) ?_
  refine lv_iload_n hx hb dX12_layBag_8 rfl (lv_at hl 2 rfl) ?_
  refine lv_iload_n hx hb dX12_layBag_9 rfl (lv_at hl 0 rfl) ?_
  refine lv_aload_n hx hb dX12_layBag_10 rfl (lv_at hl 1 rfl) ?_
  refine va_get (D := (dC, dI)) (ci := 12) (v := .ref h1) (C := RX12) (T := TX12) (N := 48) hx hb hts (fun _ h => List.mem_cons_of_mem _ (List.mem_append_right _ h)) hown hK hP 0 rfl rfl 21 (by decide) (hts (.fieldLink RX12 49 "LeftArgumentsModel" "bag" "[I") (List.mem_cons_of_mem _ (List.mem_append_left _ (List.mem_of_getElem? (i := 0) rfl)))) (fun _ h9 => h9) rfl dX12_layBag_11 ?_
  refine lv_iconst (v := 5) hx hb dX12_layBag_14 (by decide) ?_
  refine lv_iload_n hx hb dX12_layBag_15 rfl (lv_at hl 2 rfl) ?_
  refine lv_imul hx hb dX12_layBag_16 ?_
  refine lv_topi (fun t8 et8 => ?_)
  have gt8 : t8.toInt = 5 * v22.toInt := pv_mul (a := 5) (b := v22.toInt) et8 (by decide) rfl (by omega) (by omega)
  refine lv_iload_n hx hb dX12_layBag_17 rfl (lv_at hl 0 rfl) ?_
  refine lv_iadd hx hb dX12_layBag_18 ?_
  refine lv_topi (fun t9 et9 => ?_)
  have gt9 : t9.toInt = t8.toInt + 1 := pv_add (a := t8.toInt) (b := 1) et9 rfl (by decide) (by omega) (by omega)
  refine va_iald hx hb hK hP 1 0 rfl rfl (vp_in_iff.mpr ⟨by omega, by omega⟩) dX12_layBag_19 ?_
  refine lv_topi (fun t10 et10 => ?_)
  have hPc := hP.sub (ws' := (wd_5013416a h0 v0 r0 v1 v2 v3 v4 r1 r2 r3 r4 r5 r6 r7 v5 v6 r8 r9 r10 r11 v7 r12 h1 v8 v9 h2 r13 v10 v11 r14 v12 v13 r15 v14 w15 r16 v16 v17 r17 r18 r19 r20 r21 r22 v18 r23 r24 r25 v19 h2 g1 fn7)) [0, 2] rfl
  have hDc := hD.sub (ws' := (wd_5013416a h0 v0 r0 v1 v2 v3 v4 r1 r2 r3 r4 r5 r6 r7 v5 v6 r8 r9 r10 r11 v7 r12 h1 v8 v9 h2 r13 v10 v11 r14 v12 v13 r15 v14 w15 r16 v16 v17 r17 r18 r19 r20 r21 r22 v18 r23 r24 r25 v19 h2 g1 fn7)) [0, 2] (by decide) rfl
  have hKc := hK.sub (tys' := [(g1, .int)]) [1] rfl
  have hFc := va_free (wc := (wd_5013416a h0 v0 r0 v1 v2 v3 v4 r1 r2 r3 r4 r5 r6 r7 v5 v6 r8 r9 r10 r11 v7 r12 h1 v8 v9 h2 r13 v10 v11 r14 v12 v13 r15 v14 w15 r16 v16 v17 r17 r18 r19 r20 r21 r22 v18 r23 r24 r25 v19 h2 g1 fn7)) hD hS hA [0, 2] rfl
  refine va_callv (va_runV (As := [.int v22, .int 1, .int t10]) (rest := []) ⟨hx, hb, hml, hown, hts⟩ (k_X12_set_6 l dC dI h0 h2 v0 r0 v1 v2 v3 v4 r1 r2 r3 r4 r5 r6 r7 v5 v6 r8 r9 r10 r11 v7 r12 h1 v8 v9 r13 v10 v11 r14 v12 v13 r15 v14 w15 r16 v16 v17 r17 r18 r19 r20 r21 r22 v18 r23 r24 r25 v19 g1 fn7 v22 t10 ⟨i_v1a, i_v1b⟩ ⟨i_v5a, i_v5b⟩ ⟨i_v6a, i_v6b⟩ ⟨i_v7a, i_v7b⟩ ⟨i_v8a, i_v8b⟩ ⟨i_v9a, i_v9b⟩ ⟨i_v10a, i_v10b⟩ ⟨i_v14a, i_v14b⟩ ⟨i_v18a, i_v18b⟩ ⟨i_v19a, i_v19b⟩ ⟨i_v22a, i_v22b⟩ trivial H.size) (cwV 3 hts g_X12_layBag_1 rfl rfl rfl (by decide +kernel) ⟨Nat.le_of_ble_eq_true rfl, Nat.le_of_ble_eq_true rfl⟩) (pv_PV12 hPc hKc hDc (q0 := 0) rfl) rfl rfl hl.1 rfl (lv_room (Nat.le_of_ble_eq_true rfl)) dX12_layBag_20 ⟨Nat.le_of_ble_eq_true rfl, Nat.le_of_ble_eq_true rfl⟩) hS (fun q _ h => hFc q h) hFc (fun u t H1 locs ht hvm hwra11 hB hz1 hk1 hS => ?_)
  obtain ⟨hP1, hK1, hD1⟩ := hB
  rw [ht] at hP1
  obtain ⟨hP2, hD2⟩ := va_join (wr := (wd_aad598ec h1 g0 f20)) (w1 := (wd_5013416a h0 v0 r0 v1 v2 v3 v4 r1 r2 r3 r4 r5 r6 r7 v5 v6 r8 r9 r10 r11 v7 r12 h1 v8 v9 h2 r13 v10 v11 r14 v12 v13 r15 v14 w15 r16 v16 v17 r17 r18 r19 r20 r21 r22 v18 r23 r24 r25 v19 h2 g1 (upd fn7 (pm_I v22 1) t10))) hP hD [0, 2] [1] rfl rfl (by decide) (by decide) hk1 hFc hP1 hD1
  clear hP hD hPc hDc hKc hFc hP1 hK1 hD1 hk1 hz1
  generalize H1 = H at hP2 hS ⊢
  have hP := hP2.sub (ws' := (wd_8dccebc0 h0 v0 r0 v1 v2 v3 v4 r1 r2 r3 r4 r5 r6 r7 v5 v6 r8 r9 r10 r11 v7 r12 h1 v8 v9 h2 r13 v10 v11 r14 v12 v13 r15 v14 w15 r16 v16 v17 r17 r18 r19 r20 r21 r22 v18 r23 r24 r25 v19 h1 g0 f20 h2 g1 (upd fn7 (pm_I v22 1) t10))) [1, 0, 2] rfl
  have hD := hD2.sub (ws' := (wd_8dccebc0 h0 v0 r0 v1 v2 v3 v4 r1 r2 r3 r4 r5 r6 r7 v5 v6 r8 r9 r10 r11 v7 r12 h1 v8 v9 h2 r13 v10 v11 r14 v12 v13 r15 v14 w15 r16 v16 v17 r17 r18 r19 r20 r21 r22 v18 r23 r24 r25 v19 h1 g0 f20 h2 g1 (upd fn7 (pm_I v22 1) t10))) [1, 0, 2] (by decide) rfl
  clear hP2 hD2
  obtain ⟨t12, et12⟩ : ∃ y : Int32, y = 8 * v22 + 1 := ⟨_, rfl⟩
  have gt12 : t12.toInt = 8 * v22.toInt + 1 := pm_i8 et12 rfl (by decide) (by omega) (by omega) (by omega) (by omega)
  obtain ⟨fn14, efn14⟩ : ∃ g : Nat → Int32, g = upd fn7 (Int32.toNatClampNeg t12) t10 := ⟨_, rfl⟩
  have e9 : (upd fn7 (pm_I v22 1) t10) = fn14 := by rw [efn14, et12]; rfl
  rw [e9] at hP hD
  have ia_fn14 : pm_NWB v22 fn14 := by rw [efn14]; exact pm_NWB.st ia_fn7 (z := t12.toInt) (y := t10.toInt) (by omega) (by omega) rfl rfl (by omega) (fun b9 h8 h9 => ⟨fun _ => ⟨by omega, by omega⟩, fun _ => ⟨by omega, by omega⟩⟩) (fun _ => ⟨by omega, by omega⟩) (fun b9 h8 h9 => ⟨fun _ => by omega, fun _ => by omega⟩)
  have hP : va_P (dC, dI) vwCl (wd_8dccebc0 h0 v0 r0 v1 v2 v3 v4 r1 r2 r3 r4 r5 r6 r7 v5 v6 r8 r9 r10 r11 v7 r12 h1 v8 v9 h2 r13 v10 v11 r14 v12 v13 r15 v14 w15 r16 v16 v17 r17 r18 r19 r20 r21 r22 v18 r23 r24 r25 v19 h1 g0 f20 h2 g1 fn14) H := hP
  have hD : va_D A (wd_8dccebc0 h0 v0 r0 v1 v2 v3 v4 r1 r2 r3 r4 r5 r6 r7 v5 v6 r8 r9 r10 r11 v7 r12 h1 v8 v9 h2 r13 v10 v11 r14 v12 v13 r15 v14 w15 r16 v16 v17 r17 r18 r19 r20 r21 r22 v18 r23 r24 r25 v19 h1 g0 f20 h2 g1 fn14) := hD
  refine lv_iinc (v := 2) (lv' := [(2, .int 2), (0, .ref h0), (1, .int v22)]) hx hb dX12_layBag_23 hl (k := 0) rfl (by decide) (by decide) rfl (fun ls hl => ?_)
  refine lv_goto (tgt := 2) hx hb dX12_layBag_26 (by decide) ?_
  refine lv_iload_n hx hb dX12_layBag_2 rfl (lv_at hl 0 rfl) ?_
  refine lv_iconst (v := 5) hx hb dX12_layBag_3 (by decide) ?_
  refine lv_icmp_ge (tgt := 29) hx hb dX12_layBag_4 (by decide) (fun c => absurd c (by decide)) (fun _ => ?_)
  refine lv_aload_n hx hb dX12_layBag_7 rfl (lv_at hl 1 rfl) ?_
  refine lv_iload_n hx hb dX12_layBag_8 rfl (lv_at hl 2 rfl) ?_
  refine lv_iload_n hx hb dX12_layBag_9 rfl (lv_at hl 0 rfl) ?_
  refine lv_aload_n hx hb dX12_layBag_10 rfl (lv_at hl 1 rfl) ?_
  refine va_get (D := (dC, dI)) (ci := 12) (v := .ref h1) (C := RX12) (T := TX12) (N := 48) hx hb hts (fun _ h => List.mem_cons_of_mem _ (List.mem_append_right _ h)) hown hK hP 0 rfl rfl 21 (by decide) (hts (.fieldLink RX12 49 "LeftArgumentsModel" "bag" "[I") (List.mem_cons_of_mem _ (List.mem_append_left _ (List.mem_of_getElem? (i := 0) rfl)))) (fun _ h9 => h9) rfl dX12_layBag_11 ?_
  refine lv_iconst (v := 5) hx hb dX12_layBag_14 (by decide) ?_
  refine lv_iload_n hx hb dX12_layBag_15 rfl (lv_at hl 2 rfl) ?_
  refine lv_imul hx hb dX12_layBag_16 ?_
  refine lv_topi (fun t15 et15 => ?_)
  have gt15 : t15.toInt = 5 * v22.toInt := pv_mul (a := 5) (b := v22.toInt) et15 (by decide) rfl (by omega) (by omega)
  refine lv_iload_n hx hb dX12_layBag_17 rfl (lv_at hl 0 rfl) ?_
  refine lv_iadd hx hb dX12_layBag_18 ?_
  refine lv_topi (fun t16 et16 => ?_)
  have gt16 : t16.toInt = t15.toInt + 2 := pv_add (a := t15.toInt) (b := 2) et16 rfl (by decide) (by omega) (by omega)
  refine va_iald hx hb hK hP 1 0 rfl rfl (vp_in_iff.mpr ⟨by omega, by omega⟩) dX12_layBag_19 ?_
  refine lv_topi (fun t17 et17 => ?_)
  have hPc := hP.sub (ws' := (wd_5013416a h0 v0 r0 v1 v2 v3 v4 r1 r2 r3 r4 r5 r6 r7 v5 v6 r8 r9 r10 r11 v7 r12 h1 v8 v9 h2 r13 v10 v11 r14 v12 v13 r15 v14 w15 r16 v16 v17 r17 r18 r19 r20 r21 r22 v18 r23 r24 r25 v19 h2 g1 fn14)) [0, 2] rfl
  have hDc := hD.sub (ws' := (wd_5013416a h0 v0 r0 v1 v2 v3 v4 r1 r2 r3 r4 r5 r6 r7 v5 v6 r8 r9 r10 r11 v7 r12 h1 v8 v9 h2 r13 v10 v11 r14 v12 v13 r15 v14 w15 r16 v16 v17 r17 r18 r19 r20 r21 r22 v18 r23 r24 r25 v19 h2 g1 fn14)) [0, 2] (by decide) rfl
  have hKc := hK.sub (tys' := [(g1, .int)]) [1] rfl
  have hFc := va_free (wc := (wd_5013416a h0 v0 r0 v1 v2 v3 v4 r1 r2 r3 r4 r5 r6 r7 v5 v6 r8 r9 r10 r11 v7 r12 h1 v8 v9 h2 r13 v10 v11 r14 v12 v13 r15 v14 w15 r16 v16 v17 r17 r18 r19 r20 r21 r22 v18 r23 r24 r25 v19 h2 g1 fn14)) hD hS hA [0, 2] rfl
  refine va_callv (va_runV (As := [.int v22, .int 2, .int t17]) (rest := []) ⟨hx, hb, hml, hown, hts⟩ (k_X12_set_7 l dC dI h0 h2 v0 r0 v1 v2 v3 v4 r1 r2 r3 r4 r5 r6 r7 v5 v6 r8 r9 r10 r11 v7 r12 h1 v8 v9 r13 v10 v11 r14 v12 v13 r15 v14 w15 r16 v16 v17 r17 r18 r19 r20 r21 r22 v18 r23 r24 r25 v19 g1 fn14 v22 t17 ⟨i_v1a, i_v1b⟩ ⟨i_v5a, i_v5b⟩ ⟨i_v6a, i_v6b⟩ ⟨i_v7a, i_v7b⟩ ⟨i_v8a, i_v8b⟩ ⟨i_v9a, i_v9b⟩ ⟨i_v10a, i_v10b⟩ ⟨i_v14a, i_v14b⟩ ⟨i_v18a, i_v18b⟩ ⟨i_v19a, i_v19b⟩ ⟨i_v22a, i_v22b⟩ trivial H.size) (cwV 3 hts g_X12_layBag_2 rfl rfl rfl (by decide +kernel) ⟨Nat.le_of_ble_eq_true rfl, Nat.le_of_ble_eq_true rfl⟩) (pv_PV12 hPc hKc hDc (q0 := 0) rfl) rfl rfl hl.1 rfl (lv_room (Nat.le_of_ble_eq_true rfl)) dX12_layBag_20 ⟨Nat.le_of_ble_eq_true rfl, Nat.le_of_ble_eq_true rfl⟩) hS (fun q _ h => hFc q h) hFc (fun u t H1 locs ht hvm hwra18 hB hz1 hk1 hS => ?_)
  obtain ⟨hP1, hK1, hD1⟩ := hB
  rw [ht] at hP1
  obtain ⟨hP2, hD2⟩ := va_join (wr := (wd_aad598ec h1 g0 f20)) (w1 := (wd_5013416a h0 v0 r0 v1 v2 v3 v4 r1 r2 r3 r4 r5 r6 r7 v5 v6 r8 r9 r10 r11 v7 r12 h1 v8 v9 h2 r13 v10 v11 r14 v12 v13 r15 v14 w15 r16 v16 v17 r17 r18 r19 r20 r21 r22 v18 r23 r24 r25 v19 h2 g1 (upd fn14 (pm_I v22 2) t17))) hP hD [0, 2] [1] rfl rfl (by decide) (by decide) hk1 hFc hP1 hD1
  clear hP hD hPc hDc hKc hFc hP1 hK1 hD1 hk1 hz1
  generalize H1 = H at hP2 hS ⊢
  have hP := hP2.sub (ws' := (wd_8dccebc0 h0 v0 r0 v1 v2 v3 v4 r1 r2 r3 r4 r5 r6 r7 v5 v6 r8 r9 r10 r11 v7 r12 h1 v8 v9 h2 r13 v10 v11 r14 v12 v13 r15 v14 w15 r16 v16 v17 r17 r18 r19 r20 r21 r22 v18 r23 r24 r25 v19 h1 g0 f20 h2 g1 (upd fn14 (pm_I v22 2) t17))) [1, 0, 2] rfl
  have hD := hD2.sub (ws' := (wd_8dccebc0 h0 v0 r0 v1 v2 v3 v4 r1 r2 r3 r4 r5 r6 r7 v5 v6 r8 r9 r10 r11 v7 r12 h1 v8 v9 h2 r13 v10 v11 r14 v12 v13 r15 v14 w15 r16 v16 v17 r17 r18 r19 r20 r21 r22 v18 r23 r24 r25 v19 h1 g0 f20 h2 g1 (upd fn14 (pm_I v22 2) t17))) [1, 0, 2] (by decide) rfl
  clear hP2 hD2
  obtain ⟨t19, et19⟩ : ∃ y : Int32, y = 8 * v22 + 2 := ⟨_, rfl⟩
  have gt19 : t19.toInt = 8 * v22.toInt + 2 := pm_i8 et19 rfl (by decide) (by omega) (by omega) (by omega) (by omega)
  obtain ⟨fn21, efn21⟩ : ∃ g : Nat → Int32, g = upd fn14 (Int32.toNatClampNeg t19) t17 := ⟨_, rfl⟩
  have e9 : (upd fn14 (pm_I v22 2) t17) = fn21 := by rw [efn21, et19]; rfl
  rw [e9] at hP hD
  have ia_fn21 : pm_NWB v22 fn21 := by rw [efn21]; exact pm_NWB.st ia_fn14 (z := t19.toInt) (y := t17.toInt) (by omega) (by omega) rfl rfl (by omega) (fun b9 h8 h9 => ⟨fun _ => ⟨by omega, by omega⟩, fun _ => ⟨by omega, by omega⟩⟩) (fun _ => ⟨by omega, by omega⟩) (fun b9 h8 h9 => ⟨fun _ => by omega, fun _ => by omega⟩)
  have hP : va_P (dC, dI) vwCl (wd_8dccebc0 h0 v0 r0 v1 v2 v3 v4 r1 r2 r3 r4 r5 r6 r7 v5 v6 r8 r9 r10 r11 v7 r12 h1 v8 v9 h2 r13 v10 v11 r14 v12 v13 r15 v14 w15 r16 v16 v17 r17 r18 r19 r20 r21 r22 v18 r23 r24 r25 v19 h1 g0 f20 h2 g1 fn21) H := hP
  have hD : va_D A (wd_8dccebc0 h0 v0 r0 v1 v2 v3 v4 r1 r2 r3 r4 r5 r6 r7 v5 v6 r8 r9 r10 r11 v7 r12 h1 v8 v9 h2 r13 v10 v11 r14 v12 v13 r15 v14 w15 r16 v16 v17 r17 r18 r19 r20 r21 r22 v18 r23 r24 r25 v19 h1 g0 f20 h2 g1 fn21) := hD
  refine lv_iinc (v := 3) (lv' := [(2, .int 3), (0, .ref h0), (1, .int v22)]) hx hb dX12_layBag_23 hl (k := 0) rfl (by decide) (by decide) rfl (fun ls hl => ?_)
  refine lv_goto (tgt := 2) hx hb dX12_layBag_26 (by decide) ?_
  refine lv_iload_n hx hb dX12_layBag_2 rfl (lv_at hl 0 rfl) ?_
  refine lv_iconst (v := 5) hx hb dX12_layBag_3 (by decide) ?_
  refine lv_icmp_ge (tgt := 29) hx hb dX12_layBag_4 (by decide) (fun c => absurd c (by decide)) (fun _ => ?_)
  refine lv_aload_n hx hb dX12_layBag_7 rfl (lv_at hl 1 rfl) ?_
  refine lv_iload_n hx hb dX12_layBag_8 rfl (lv_at hl 2 rfl) ?_
  refine lv_iload_n hx hb dX12_layBag_9 rfl (lv_at hl 0 rfl) ?_
  refine lv_aload_n hx hb dX12_layBag_10 rfl (lv_at hl 1 rfl) ?_
  refine va_get (D := (dC, dI)) (ci := 12) (v := .ref h1) (C := RX12) (T := TX12) (N := 48) hx hb hts (fun _ h => List.mem_cons_of_mem _ (List.mem_append_right _ h)) hown hK hP 0 rfl rfl 21 (by decide) (hts (.fieldLink RX12 49 "LeftArgumentsModel" "bag" "[I") (List.mem_cons_of_mem _ (List.mem_append_left _ (List.mem_of_getElem? (i := 0) rfl)))) (fun _ h9 => h9) rfl dX12_layBag_11 ?_
  refine lv_iconst (v := 5) hx hb dX12_layBag_14 (by decide) ?_
  refine lv_iload_n hx hb dX12_layBag_15 rfl (lv_at hl 2 rfl) ?_
  refine lv_imul hx hb dX12_layBag_16 ?_
  refine lv_topi (fun t22 et22 => ?_)
  have gt22 : t22.toInt = 5 * v22.toInt := pv_mul (a := 5) (b := v22.toInt) et22 (by decide) rfl (by omega) (by omega)
  refine lv_iload_n hx hb dX12_layBag_17 rfl (lv_at hl 0 rfl) ?_
  refine lv_iadd hx hb dX12_layBag_18 ?_
  refine lv_topi (fun t23 et23 => ?_)
  have gt23 : t23.toInt = t22.toInt + 3 := pv_add (a := t22.toInt) (b := 3) et23 rfl (by decide) (by omega) (by omega)
  refine va_iald hx hb hK hP 1 0 rfl rfl (vp_in_iff.mpr ⟨by omega, by omega⟩) dX12_layBag_19 ?_
  refine lv_topi (fun t24 et24 => ?_)
  have hPc := hP.sub (ws' := (wd_5013416a h0 v0 r0 v1 v2 v3 v4 r1 r2 r3 r4 r5 r6 r7 v5 v6 r8 r9 r10 r11 v7 r12 h1 v8 v9 h2 r13 v10 v11 r14 v12 v13 r15 v14 w15 r16 v16 v17 r17 r18 r19 r20 r21 r22 v18 r23 r24 r25 v19 h2 g1 fn21)) [0, 2] rfl
  have hDc := hD.sub (ws' := (wd_5013416a h0 v0 r0 v1 v2 v3 v4 r1 r2 r3 r4 r5 r6 r7 v5 v6 r8 r9 r10 r11 v7 r12 h1 v8 v9 h2 r13 v10 v11 r14 v12 v13 r15 v14 w15 r16 v16 v17 r17 r18 r19 r20 r21 r22 v18 r23 r24 r25 v19 h2 g1 fn21)) [0, 2] (by decide) rfl
  have hKc := hK.sub (tys' := [(g1, .int)]) [1] rfl
  have hFc := va_free (wc := (wd_5013416a h0 v0 r0 v1 v2 v3 v4 r1 r2 r3 r4 r5 r6 r7 v5 v6 r8 r9 r10 r11 v7 r12 h1 v8 v9 h2 r13 v10 v11 r14 v12 v13 r15 v14 w15 r16 v16 v17 r17 r18 r19 r20 r21 r22 v18 r23 r24 r25 v19 h2 g1 fn21)) hD hS hA [0, 2] rfl
  refine va_callv (va_runV (As := [.int v22, .int 3, .int t24]) (rest := []) ⟨hx, hb, hml, hown, hts⟩ (k_X12_set_1 l dC dI h0 h2 v0 r0 v1 v2 v3 v4 r1 r2 r3 r4 r5 r6 r7 v5 v6 r8 r9 r10 r11 v7 r12 h1 v8 v9 r13 v10 v11 r14 v12 v13 r15 v14 w15 r16 v16 v17 r17 r18 r19 r20 r21 r22 v18 r23 r24 r25 v19 g1 fn21 v22 t24 ⟨i_v1a, i_v1b⟩ ⟨i_v5a, i_v5b⟩ ⟨i_v6a, i_v6b⟩ ⟨i_v7a, i_v7b⟩ ⟨i_v8a, i_v8b⟩ ⟨i_v9a, i_v9b⟩ ⟨i_v10a, i_v10b⟩ ⟨i_v14a, i_v14b⟩ ⟨i_v18a, i_v18b⟩ ⟨i_v19a, i_v19b⟩ ⟨i_v22a, i_v22b⟩ trivial H.size) (cwV 3 hts g_X12_layBag_3 rfl rfl rfl (by decide +kernel) ⟨Nat.le_of_ble_eq_true rfl, Nat.le_of_ble_eq_true rfl⟩) (pv_PV12 hPc hKc hDc (q0 := 0) rfl) rfl rfl hl.1 rfl (lv_room (Nat.le_of_ble_eq_true rfl)) dX12_layBag_20 ⟨Nat.le_of_ble_eq_true rfl, Nat.le_of_ble_eq_true rfl⟩) hS (fun q _ h => hFc q h) hFc (fun u t H1 locs ht hvm hwra25 hB hz1 hk1 hS => ?_)
  obtain ⟨hP1, hK1, hD1⟩ := hB
  rw [ht] at hP1
  obtain ⟨hP2, hD2⟩ := va_join (wr := (wd_aad598ec h1 g0 f20)) (w1 := (wd_5013416a h0 v0 r0 v1 v2 v3 v4 r1 r2 r3 r4 r5 r6 r7 v5 v6 r8 r9 r10 r11 v7 r12 h1 v8 v9 h2 r13 v10 v11 r14 v12 v13 r15 v14 w15 r16 v16 v17 r17 r18 r19 r20 r21 r22 v18 r23 r24 r25 v19 h2 g1 (upd fn21 (pm_I v22 3) t24))) hP hD [0, 2] [1] rfl rfl (by decide) (by decide) hk1 hFc hP1 hD1
  clear hP hD hPc hDc hKc hFc hP1 hK1 hD1 hk1 hz1
  generalize H1 = H at hP2 hS ⊢
  have hP := hP2.sub (ws' := (wd_8dccebc0 h0 v0 r0 v1 v2 v3 v4 r1 r2 r3 r4 r5 r6 r7 v5 v6 r8 r9 r10 r11 v7 r12 h1 v8 v9 h2 r13 v10 v11 r14 v12 v13 r15 v14 w15 r16 v16 v17 r17 r18 r19 r20 r21 r22 v18 r23 r24 r25 v19 h1 g0 f20 h2 g1 (upd fn21 (pm_I v22 3) t24))) [1, 0, 2] rfl
  have hD := hD2.sub (ws' := (wd_8dccebc0 h0 v0 r0 v1 v2 v3 v4 r1 r2 r3 r4 r5 r6 r7 v5 v6 r8 r9 r10 r11 v7 r12 h1 v8 v9 h2 r13 v10 v11 r14 v12 v13 r15 v14 w15 r16 v16 v17 r17 r18 r19 r20 r21 r22 v18 r23 r24 r25 v19 h1 g0 f20 h2 g1 (upd fn21 (pm_I v22 3) t24))) [1, 0, 2] (by decide) rfl
  clear hP2 hD2
  obtain ⟨t26, et26⟩ : ∃ y : Int32, y = 8 * v22 + 3 := ⟨_, rfl⟩
  have gt26 : t26.toInt = 8 * v22.toInt + 3 := pm_i8 et26 rfl (by decide) (by omega) (by omega) (by omega) (by omega)
  obtain ⟨fn28, efn28⟩ : ∃ g : Nat → Int32, g = upd fn21 (Int32.toNatClampNeg t26) t24 := ⟨_, rfl⟩
  have e9 : (upd fn21 (pm_I v22 3) t24) = fn28 := by rw [efn28, et26]; rfl
  rw [e9] at hP hD
  have ia_fn28 : pm_NWB v22 fn28 := by rw [efn28]; exact pm_NWB.st ia_fn21 (z := t26.toInt) (y := t24.toInt) (by omega) (by omega) rfl rfl (by omega) (fun b9 h8 h9 => ⟨fun _ => ⟨by omega, by omega⟩, fun _ => ⟨by omega, by omega⟩⟩) (fun _ => ⟨by omega, by omega⟩) (fun b9 h8 h9 => ⟨fun _ => by omega, fun _ => by omega⟩)
  have hP : va_P (dC, dI) vwCl (wd_8dccebc0 h0 v0 r0 v1 v2 v3 v4 r1 r2 r3 r4 r5 r6 r7 v5 v6 r8 r9 r10 r11 v7 r12 h1 v8 v9 h2 r13 v10 v11 r14 v12 v13 r15 v14 w15 r16 v16 v17 r17 r18 r19 r20 r21 r22 v18 r23 r24 r25 v19 h1 g0 f20 h2 g1 fn28) H := hP
  have hD : va_D A (wd_8dccebc0 h0 v0 r0 v1 v2 v3 v4 r1 r2 r3 r4 r5 r6 r7 v5 v6 r8 r9 r10 r11 v7 r12 h1 v8 v9 h2 r13 v10 v11 r14 v12 v13 r15 v14 w15 r16 v16 v17 r17 r18 r19 r20 r21 r22 v18 r23 r24 r25 v19 h1 g0 f20 h2 g1 fn28) := hD
  refine lv_iinc (v := 4) (lv' := [(2, .int 4), (0, .ref h0), (1, .int v22)]) hx hb dX12_layBag_23 hl (k := 0) rfl (by decide) (by decide) rfl (fun ls hl => ?_)
  refine lv_goto (tgt := 2) hx hb dX12_layBag_26 (by decide) ?_
  refine lv_iload_n hx hb dX12_layBag_2 rfl (lv_at hl 0 rfl) ?_
  refine lv_iconst (v := 5) hx hb dX12_layBag_3 (by decide) ?_
  refine lv_icmp_ge (tgt := 29) hx hb dX12_layBag_4 (by decide) (fun c => absurd c (by decide)) (fun _ => ?_)
  refine lv_aload_n hx hb dX12_layBag_7 rfl (lv_at hl 1 rfl) ?_
  refine lv_iload_n hx hb dX12_layBag_8 rfl (lv_at hl 2 rfl) ?_
  refine lv_iload_n hx hb dX12_layBag_9 rfl (lv_at hl 0 rfl) ?_
  refine lv_aload_n hx hb dX12_layBag_10 rfl (lv_at hl 1 rfl) ?_
  refine va_get (D := (dC, dI)) (ci := 12) (v := .ref h1) (C := RX12) (T := TX12) (N := 48) hx hb hts (fun _ h => List.mem_cons_of_mem _ (List.mem_append_right _ h)) hown hK hP 0 rfl rfl 21 (by decide) (hts (.fieldLink RX12 49 "LeftArgumentsModel" "bag" "[I") (List.mem_cons_of_mem _ (List.mem_append_left _ (List.mem_of_getElem? (i := 0) rfl)))) (fun _ h9 => h9) rfl dX12_layBag_11 ?_
  refine lv_iconst (v := 5) hx hb dX12_layBag_14 (by decide) ?_
  refine lv_iload_n hx hb dX12_layBag_15 rfl (lv_at hl 2 rfl) ?_
  refine lv_imul hx hb dX12_layBag_16 ?_
  refine lv_topi (fun t29 et29 => ?_)
  have gt29 : t29.toInt = 5 * v22.toInt := pv_mul (a := 5) (b := v22.toInt) et29 (by decide) rfl (by omega) (by omega)
  refine lv_iload_n hx hb dX12_layBag_17 rfl (lv_at hl 0 rfl) ?_
  refine lv_iadd hx hb dX12_layBag_18 ?_
  refine lv_topi (fun t30 et30 => ?_)
  have gt30 : t30.toInt = t29.toInt + 4 := pv_add (a := t29.toInt) (b := 4) et30 rfl (by decide) (by omega) (by omega)
  refine va_iald hx hb hK hP 1 0 rfl rfl (vp_in_iff.mpr ⟨by omega, by omega⟩) dX12_layBag_19 ?_
  refine lv_topi (fun t31 et31 => ?_)
  have gbt31 : 0 ≤ t31.toInt ∧ t31.toInt ≤ 1 := by rw [et31]; exact pp0.la (by omega) (by omega) (by omega)
  have hPc := hP.sub (ws' := (wd_5013416a h0 v0 r0 v1 v2 v3 v4 r1 r2 r3 r4 r5 r6 r7 v5 v6 r8 r9 r10 r11 v7 r12 h1 v8 v9 h2 r13 v10 v11 r14 v12 v13 r15 v14 w15 r16 v16 v17 r17 r18 r19 r20 r21 r22 v18 r23 r24 r25 v19 h2 g1 fn28)) [0, 2] rfl
  have hDc := hD.sub (ws' := (wd_5013416a h0 v0 r0 v1 v2 v3 v4 r1 r2 r3 r4 r5 r6 r7 v5 v6 r8 r9 r10 r11 v7 r12 h1 v8 v9 h2 r13 v10 v11 r14 v12 v13 r15 v14 w15 r16 v16 v17 r17 r18 r19 r20 r21 r22 v18 r23 r24 r25 v19 h2 g1 fn28)) [0, 2] (by decide) rfl
  have hKc := hK.sub (tys' := [(g1, .int)]) [1] rfl
  have hFc := va_free (wc := (wd_5013416a h0 v0 r0 v1 v2 v3 v4 r1 r2 r3 r4 r5 r6 r7 v5 v6 r8 r9 r10 r11 v7 r12 h1 v8 v9 h2 r13 v10 v11 r14 v12 v13 r15 v14 w15 r16 v16 v17 r17 r18 r19 r20 r21 r22 v18 r23 r24 r25 v19 h2 g1 fn28)) hD hS hA [0, 2] rfl
  refine va_callv (va_runV (As := [.int v22, .int 4, .int t31]) (rest := []) ⟨hx, hb, hml, hown, hts⟩ (k_X12_set_3 l dC dI h0 h2 v0 r0 v1 v2 v3 v4 r1 r2 r3 r4 r5 r6 r7 v5 v6 r8 r9 r10 r11 v7 r12 h1 v8 v9 r13 v10 v11 r14 v12 v13 r15 v14 w15 r16 v16 v17 r17 r18 r19 r20 r21 r22 v18 r23 r24 r25 v19 g1 fn28 v22 t31 ⟨i_v1a, i_v1b⟩ ⟨i_v5a, i_v5b⟩ ⟨i_v6a, i_v6b⟩ ⟨i_v7a, i_v7b⟩ ⟨i_v8a, i_v8b⟩ ⟨i_v9a, i_v9b⟩ ⟨i_v10a, i_v10b⟩ ⟨i_v14a, i_v14b⟩ ⟨i_v18a, i_v18b⟩ ⟨i_v19a, i_v19b⟩ ⟨i_v22a, i_v22b⟩ trivial H.size) (cwV 3 hts g_X12_layBag_4 rfl rfl rfl (by decide +kernel) ⟨Nat.le_of_ble_eq_true rfl, Nat.le_of_ble_eq_true rfl⟩) (pv_PV12 hPc hKc hDc (q0 := 0) rfl) rfl rfl hl.1 rfl (lv_room (Nat.le_of_ble_eq_true rfl)) dX12_layBag_20 ⟨Nat.le_of_ble_eq_true rfl, Nat.le_of_ble_eq_true rfl⟩) hS (fun q _ h => hFc q h) hFc (fun u t H1 locs ht hvm hwra32 hB hz1 hk1 hS => ?_)
  obtain ⟨hP1, hK1, hD1⟩ := hB
  rw [ht] at hP1
  obtain ⟨hP2, hD2⟩ := va_join (wr := (wd_aad598ec h1 g0 f20)) (w1 := (wd_5013416a h0 v0 r0 v1 v2 v3 v4 r1 r2 r3 r4 r5 r6 r7 v5 v6 r8 r9 r10 r11 v7 r12 h1 v8 v9 h2 r13 v10 v11 r14 v12 v13 r15 v14 w15 r16 v16 v17 r17 r18 r19 r20 r21 r22 v18 r23 r24 r25 v19 h2 g1 (upd fn28 (pm_I v22 4) t31))) hP hD [0, 2] [1] rfl rfl (by decide) (by decide) hk1 hFc hP1 hD1
  clear hP hD hPc hDc hKc hFc hP1 hK1 hD1 hk1 hz1
  generalize H1 = H at hP2 hS ⊢
  have hP := hP2.sub (ws' := (wd_8dccebc0 h0 v0 r0 v1 v2 v3 v4 r1 r2 r3 r4 r5 r6 r7 v5 v6 r8 r9 r10 r11 v7 r12 h1 v8 v9 h2 r13 v10 v11 r14 v12 v13 r15 v14 w15 r16 v16 v17 r17 r18 r19 r20 r21 r22 v18 r23 r24 r25 v19 h1 g0 f20 h2 g1 (upd fn28 (pm_I v22 4) t31))) [1, 0, 2] rfl
  have hD := hD2.sub (ws' := (wd_8dccebc0 h0 v0 r0 v1 v2 v3 v4 r1 r2 r3 r4 r5 r6 r7 v5 v6 r8 r9 r10 r11 v7 r12 h1 v8 v9 h2 r13 v10 v11 r14 v12 v13 r15 v14 w15 r16 v16 v17 r17 r18 r19 r20 r21 r22 v18 r23 r24 r25 v19 h1 g0 f20 h2 g1 (upd fn28 (pm_I v22 4) t31))) [1, 0, 2] (by decide) rfl
  clear hP2 hD2
  obtain ⟨t33, et33⟩ : ∃ y : Int32, y = 8 * v22 + 4 := ⟨_, rfl⟩
  have gt33 : t33.toInt = 8 * v22.toInt + 4 := pm_i8 et33 rfl (by decide) (by omega) (by omega) (by omega) (by omega)
  obtain ⟨fn35, efn35⟩ : ∃ g : Nat → Int32, g = upd fn28 (Int32.toNatClampNeg t33) t31 := ⟨_, rfl⟩
  have e9 : (upd fn28 (pm_I v22 4) t31) = fn35 := by rw [efn35, et33]; rfl
  rw [e9] at hP hD
  have ia_fn35 : pm_NWB v22 fn35 := by rw [efn35]; exact pm_NWB.st ia_fn28 (z := t33.toInt) (y := t31.toInt) (by omega) (by omega) rfl rfl (by omega) (fun b9 h8 h9 => ⟨fun _ => ⟨by omega, by omega⟩, fun _ => ⟨by omega, by omega⟩⟩) (fun _ => ⟨by omega, by omega⟩) (fun b9 h8 h9 => ⟨fun _ => by omega, fun _ => by omega⟩)
  have hP : va_P (dC, dI) vwCl (wd_8dccebc0 h0 v0 r0 v1 v2 v3 v4 r1 r2 r3 r4 r5 r6 r7 v5 v6 r8 r9 r10 r11 v7 r12 h1 v8 v9 h2 r13 v10 v11 r14 v12 v13 r15 v14 w15 r16 v16 v17 r17 r18 r19 r20 r21 r22 v18 r23 r24 r25 v19 h1 g0 f20 h2 g1 fn35) H := hP
  have hD : va_D A (wd_8dccebc0 h0 v0 r0 v1 v2 v3 v4 r1 r2 r3 r4 r5 r6 r7 v5 v6 r8 r9 r10 r11 v7 r12 h1 v8 v9 h2 r13 v10 v11 r14 v12 v13 r15 v14 w15 r16 v16 v17 r17 r18 r19 r20 r21 r22 v18 r23 r24 r25 v19 h1 g0 f20 h2 g1 fn35) := hD
  refine lv_iinc (v := 5) (lv' := [(2, .int 5), (0, .ref h0), (1, .int v22)]) hx hb dX12_layBag_23 hl (k := 0) rfl (by decide) (by decide) rfl (fun ls hl => ?_)
  refine lv_goto (tgt := 2) hx hb dX12_layBag_26 (by decide) ?_
  refine lv_iload_n hx hb dX12_layBag_2 rfl (lv_at hl 0 rfl) ?_
  refine lv_iconst (v := 5) hx hb dX12_layBag_3 (by decide) ?_
  refine lv_icmp_ge (tgt := 29) hx hb dX12_layBag_4 (by decide) (fun _ => ?_) (fun c => absurd (by decide) c)
  refine lv_aload_n hx hb dX12_layBag_29 rfl (lv_at hl 1 rfl) ?_
  refine lv_iload_n hx hb dX12_layBag_30 rfl (lv_at hl 2 rfl) ?_
  refine lv_iconst (v := 5) hx hb dX12_layBag_31 (by decide) ?_
  refine lv_iconst (v := 0) hx hb dX12_layBag_32 (by decide) ?_
  have hPc := hP.sub (ws' := (wd_5013416a h0 v0 r0 v1 v2 v3 v4 r1 r2 r3 r4 r5 r6 r7 v5 v6 r8 r9 r10 r11 v7 r12 h1 v8 v9 h2 r13 v10 v11 r14 v12 v13 r15 v14 w15 r16 v16 v17 r17 r18 r19 r20 r21 r22 v18 r23 r24 r25 v19 h2 g1 fn35)) [0, 2] rfl
  have hDc := hD.sub (ws' := (wd_5013416a h0 v0 r0 v1 v2 v3 v4 r1 r2 r3 r4 r5 r6 r7 v5 v6 r8 r9 r10 r11 v7 r12 h1 v8 v9 h2 r13 v10 v11 r14 v12 v13 r15 v14 w15 r16 v16 v17 r17 r18 r19 r20 r21 r22 v18 r23 r24 r25 v19 h2 g1 fn35)) [0, 2] (by decide) rfl
  have hKc := hK.sub (tys' := [(g1, .int)]) [1] rfl
  have hFc := va_free (wc := (wd_5013416a h0 v0 r0 v1 v2 v3 v4 r1 r2 r3 r4 r5 r6 r7 v5 v6 r8 r9 r10 r11 v7 r12 h1 v8 v9 h2 r13 v10 v11 r14 v12 v13 r15 v14 w15 r16 v16 v17 r17 r18 r19 r20 r21 r22 v18 r23 r24 r25 v19 h2 g1 fn35)) hD hS hA [0, 2] rfl
  refine va_callv (va_runV (As := [.int v22, .int 5, .int 0]) (rest := []) ⟨hx, hb, hml, hown, hts⟩ (k_X12_set_5 l dC dI h0 h2 v0 r0 v1 v2 v3 v4 r1 r2 r3 r4 r5 r6 r7 v5 v6 r8 r9 r10 r11 v7 r12 h1 v8 v9 r13 v10 v11 r14 v12 v13 r15 v14 w15 r16 v16 v17 r17 r18 r19 r20 r21 r22 v18 r23 r24 r25 v19 g1 fn35 v22 0 ⟨i_v1a, i_v1b⟩ ⟨i_v5a, i_v5b⟩ ⟨i_v6a, i_v6b⟩ ⟨i_v7a, i_v7b⟩ ⟨i_v8a, i_v8b⟩ ⟨i_v9a, i_v9b⟩ ⟨i_v10a, i_v10b⟩ ⟨i_v14a, i_v14b⟩ ⟨i_v18a, i_v18b⟩ ⟨i_v19a, i_v19b⟩ ⟨i_v22a, i_v22b⟩ trivial H.size) (cwV 3 hts g_X12_layBag_5 rfl rfl rfl (by decide +kernel) ⟨Nat.le_of_ble_eq_true rfl, Nat.le_of_ble_eq_true rfl⟩) (pv_PV12 hPc hKc hDc (q0 := 0) rfl) rfl rfl hl.1 rfl (lv_room (Nat.le_of_ble_eq_true rfl)) dX12_layBag_33 ⟨Nat.le_of_ble_eq_true rfl, Nat.le_of_ble_eq_true rfl⟩) hS (fun q _ h => hFc q h) hFc (fun u t H1 locs ht hvm hwra36 hB hz1 hk1 hS => ?_)
  obtain ⟨hP1, hK1, hD1⟩ := hB
  rw [ht] at hP1
  obtain ⟨hP2, hD2⟩ := va_join (wr := (wd_aad598ec h1 g0 f20)) (w1 := (wd_5013416a h0 v0 r0 v1 v2 v3 v4 r1 r2 r3 r4 r5 r6 r7 v5 v6 r8 r9 r10 r11 v7 r12 h1 v8 v9 h2 r13 v10 v11 r14 v12 v13 r15 v14 w15 r16 v16 v17 r17 r18 r19 r20 r21 r22 v18 r23 r24 r25 v19 h2 g1 (upd fn35 (pm_I v22 5) 0))) hP hD [0, 2] [1] rfl rfl (by decide) (by decide) hk1 hFc hP1 hD1
  clear hP hD hPc hDc hKc hFc hP1 hK1 hD1 hk1 hz1
  generalize H1 = H at hP2 hS ⊢
  have hP := hP2.sub (ws' := (wd_8dccebc0 h0 v0 r0 v1 v2 v3 v4 r1 r2 r3 r4 r5 r6 r7 v5 v6 r8 r9 r10 r11 v7 r12 h1 v8 v9 h2 r13 v10 v11 r14 v12 v13 r15 v14 w15 r16 v16 v17 r17 r18 r19 r20 r21 r22 v18 r23 r24 r25 v19 h1 g0 f20 h2 g1 (upd fn35 (pm_I v22 5) 0))) [1, 0, 2] rfl
  have hD := hD2.sub (ws' := (wd_8dccebc0 h0 v0 r0 v1 v2 v3 v4 r1 r2 r3 r4 r5 r6 r7 v5 v6 r8 r9 r10 r11 v7 r12 h1 v8 v9 h2 r13 v10 v11 r14 v12 v13 r15 v14 w15 r16 v16 v17 r17 r18 r19 r20 r21 r22 v18 r23 r24 r25 v19 h1 g0 f20 h2 g1 (upd fn35 (pm_I v22 5) 0))) [1, 0, 2] (by decide) rfl
  clear hP2 hD2
  obtain ⟨t37, et37⟩ : ∃ y : Int32, y = 8 * v22 + 5 := ⟨_, rfl⟩
  have gt37 : t37.toInt = 8 * v22.toInt + 5 := pm_i8 et37 rfl (by decide) (by omega) (by omega) (by omega) (by omega)
  obtain ⟨fn39, efn39⟩ : ∃ g : Nat → Int32, g = upd fn35 (Int32.toNatClampNeg t37) 0 := ⟨_, rfl⟩
  have e9 : (upd fn35 (pm_I v22 5) 0) = fn39 := by rw [efn39, et37]; rfl
  rw [e9] at hP hD
  have ia_fn39 : pm_NWB v22 fn39 := by rw [efn39]; exact pm_NWB.st ia_fn35 (z := t37.toInt) (y := 0) (by omega) (by omega) rfl (by decide) (by omega) (fun b9 h8 h9 => ⟨fun _ => ⟨by omega, by omega⟩, fun _ => ⟨by omega, by omega⟩⟩) (fun _ => ⟨by omega, by omega⟩) (fun b9 h8 h9 => ⟨fun _ => by omega, fun _ => by omega⟩)
  have hP : va_P (dC, dI) vwCl (wd_8dccebc0 h0 v0 r0 v1 v2 v3 v4 r1 r2 r3 r4 r5 r6 r7 v5 v6 r8 r9 r10 r11 v7 r12 h1 v8 v9 h2 r13 v10 v11 r14 v12 v13 r15 v14 w15 r16 v16 v17 r17 r18 r19 r20 r21 r22 v18 r23 r24 r25 v19 h1 g0 f20 h2 g1 fn39) H := hP
  have hD : va_D A (wd_8dccebc0 h0 v0 r0 v1 v2 v3 v4 r1 r2 r3 r4 r5 r6 r7 v5 v6 r8 r9 r10 r11 v7 r12 h1 v8 v9 h2 r13 v10 v11 r14 v12 v13 r15 v14 w15 r16 v16 v17 r17 r18 r19 r20 r21 r22 v18 r23 r24 r25 v19 h1 g0 f20 h2 g1 fn39) := hD
  refine lv_aload_n hx hb dX12_layBag_36 rfl (lv_at hl 1 rfl) ?_
  refine lv_iload_n hx hb dX12_layBag_37 rfl (lv_at hl 2 rfl) ?_
  refine lv_bipush (v := 6) hx hb dX12_layBag_38 (by decide) ?_
  refine lv_iconst (v := 0) hx hb dX12_layBag_40 (by decide) ?_
  have hPc := hP.sub (ws' := (wd_5013416a h0 v0 r0 v1 v2 v3 v4 r1 r2 r3 r4 r5 r6 r7 v5 v6 r8 r9 r10 r11 v7 r12 h1 v8 v9 h2 r13 v10 v11 r14 v12 v13 r15 v14 w15 r16 v16 v17 r17 r18 r19 r20 r21 r22 v18 r23 r24 r25 v19 h2 g1 fn39)) [0, 2] rfl
  have hDc := hD.sub (ws' := (wd_5013416a h0 v0 r0 v1 v2 v3 v4 r1 r2 r3 r4 r5 r6 r7 v5 v6 r8 r9 r10 r11 v7 r12 h1 v8 v9 h2 r13 v10 v11 r14 v12 v13 r15 v14 w15 r16 v16 v17 r17 r18 r19 r20 r21 r22 v18 r23 r24 r25 v19 h2 g1 fn39)) [0, 2] (by decide) rfl
  have hKc := hK.sub (tys' := [(g1, .int)]) [1] rfl
  have hFc := va_free (wc := (wd_5013416a h0 v0 r0 v1 v2 v3 v4 r1 r2 r3 r4 r5 r6 r7 v5 v6 r8 r9 r10 r11 v7 r12 h1 v8 v9 h2 r13 v10 v11 r14 v12 v13 r15 v14 w15 r16 v16 v17 r17 r18 r19 r20 r21 r22 v18 r23 r24 r25 v19 h2 g1 fn39)) hD hS hA [0, 2] rfl
  refine va_callv (va_runV (As := [.int v22, .int 6, .int 0]) (rest := []) ⟨hx, hb, hml, hown, hts⟩ (k_X12_set_4 l dC dI h0 h2 v0 r0 v1 v2 v3 v4 r1 r2 r3 r4 r5 r6 r7 v5 v6 r8 r9 r10 r11 v7 r12 h1 v8 v9 r13 v10 v11 r14 v12 v13 r15 v14 w15 r16 v16 v17 r17 r18 r19 r20 r21 r22 v18 r23 r24 r25 v19 g1 fn39 v22 0 ⟨i_v1a, i_v1b⟩ ⟨i_v5a, i_v5b⟩ ⟨i_v6a, i_v6b⟩ ⟨i_v7a, i_v7b⟩ ⟨i_v8a, i_v8b⟩ ⟨i_v9a, i_v9b⟩ ⟨i_v10a, i_v10b⟩ ⟨i_v14a, i_v14b⟩ ⟨i_v18a, i_v18b⟩ ⟨i_v19a, i_v19b⟩ ⟨i_v22a, i_v22b⟩ trivial H.size) (cwV 3 hts g_X12_layBag_6 rfl rfl rfl (by decide +kernel) ⟨Nat.le_of_ble_eq_true rfl, Nat.le_of_ble_eq_true rfl⟩) (pv_PV12 hPc hKc hDc (q0 := 0) rfl) rfl rfl hl.1 rfl (lv_room (Nat.le_of_ble_eq_true rfl)) dX12_layBag_41 ⟨Nat.le_of_ble_eq_true rfl, Nat.le_of_ble_eq_true rfl⟩) hS (fun q _ h => hFc q h) hFc (fun u t H1 locs ht hvm hwra40 hB hz1 hk1 hS => ?_)
  obtain ⟨hP1, hK1, hD1⟩ := hB
  rw [ht] at hP1
  obtain ⟨hP2, hD2⟩ := va_join (wr := (wd_aad598ec h1 g0 f20)) (w1 := (wd_5013416a h0 v0 r0 v1 v2 v3 v4 r1 r2 r3 r4 r5 r6 r7 v5 v6 r8 r9 r10 r11 v7 r12 h1 v8 v9 h2 r13 v10 v11 r14 v12 v13 r15 v14 w15 r16 v16 v17 r17 r18 r19 r20 r21 r22 v18 r23 r24 r25 v19 h2 g1 (upd fn39 (pm_I v22 6) 0))) hP hD [0, 2] [1] rfl rfl (by decide) (by decide) hk1 hFc hP1 hD1
  clear hP hD hPc hDc hKc hFc hP1 hK1 hD1 hk1 hz1
  generalize H1 = H at hP2 hS ⊢
  have hP := hP2.sub (ws' := (wd_8dccebc0 h0 v0 r0 v1 v2 v3 v4 r1 r2 r3 r4 r5 r6 r7 v5 v6 r8 r9 r10 r11 v7 r12 h1 v8 v9 h2 r13 v10 v11 r14 v12 v13 r15 v14 w15 r16 v16 v17 r17 r18 r19 r20 r21 r22 v18 r23 r24 r25 v19 h1 g0 f20 h2 g1 (upd fn39 (pm_I v22 6) 0))) [1, 0, 2] rfl
  have hD := hD2.sub (ws' := (wd_8dccebc0 h0 v0 r0 v1 v2 v3 v4 r1 r2 r3 r4 r5 r6 r7 v5 v6 r8 r9 r10 r11 v7 r12 h1 v8 v9 h2 r13 v10 v11 r14 v12 v13 r15 v14 w15 r16 v16 v17 r17 r18 r19 r20 r21 r22 v18 r23 r24 r25 v19 h1 g0 f20 h2 g1 (upd fn39 (pm_I v22 6) 0))) [1, 0, 2] (by decide) rfl
  clear hP2 hD2
  obtain ⟨t41, et41⟩ : ∃ y : Int32, y = 8 * v22 + 6 := ⟨_, rfl⟩
  have gt41 : t41.toInt = 8 * v22.toInt + 6 := pm_i8 et41 rfl (by decide) (by omega) (by omega) (by omega) (by omega)
  obtain ⟨fn43, efn43⟩ : ∃ g : Nat → Int32, g = upd fn39 (Int32.toNatClampNeg t41) 0 := ⟨_, rfl⟩
  have e9 : (upd fn39 (pm_I v22 6) 0) = fn43 := by rw [efn43, et41]; rfl
  rw [e9] at hP hD
  have ia_fn43 : pm_NWB v22 fn43 := by rw [efn43]; exact pm_NWB.st ia_fn39 (z := t41.toInt) (y := 0) (by omega) (by omega) rfl (by decide) (by omega) (fun b9 h8 h9 => ⟨fun _ => ⟨by omega, by omega⟩, fun _ => ⟨by omega, by omega⟩⟩) (fun _ => ⟨by omega, by omega⟩) (fun b9 h8 h9 => ⟨fun _ => by omega, fun _ => by omega⟩)
  have hP : va_P (dC, dI) vwCl (wd_8dccebc0 h0 v0 r0 v1 v2 v3 v4 r1 r2 r3 r4 r5 r6 r7 v5 v6 r8 r9 r10 r11 v7 r12 h1 v8 v9 h2 r13 v10 v11 r14 v12 v13 r15 v14 w15 r16 v16 v17 r17 r18 r19 r20 r21 r22 v18 r23 r24 r25 v19 h1 g0 f20 h2 g1 fn43) H := hP
  have hD : va_D A (wd_8dccebc0 h0 v0 r0 v1 v2 v3 v4 r1 r2 r3 r4 r5 r6 r7 v5 v6 r8 r9 r10 r11 v7 r12 h1 v8 v9 h2 r13 v10 v11 r14 v12 v13 r15 v14 w15 r16 v16 v17 r17 r18 r19 r20 r21 r22 v18 r23 r24 r25 v19 h1 g0 f20 h2 g1 fn43) := hD
  refine lv_aload_n hx hb dX12_layBag_44 rfl (lv_at hl 1 rfl) ?_
  refine lv_iload_n hx hb dX12_layBag_45 rfl (lv_at hl 2 rfl) ?_
  refine lv_bipush (v := 7) hx hb dX12_layBag_46 (by decide) ?_
  refine lv_iconst (v := 1) hx hb dX12_layBag_48 (by decide) ?_
  have hPc := hP.sub (ws' := (wd_5013416a h0 v0 r0 v1 v2 v3 v4 r1 r2 r3 r4 r5 r6 r7 v5 v6 r8 r9 r10 r11 v7 r12 h1 v8 v9 h2 r13 v10 v11 r14 v12 v13 r15 v14 w15 r16 v16 v17 r17 r18 r19 r20 r21 r22 v18 r23 r24 r25 v19 h2 g1 fn43)) [0, 2] rfl
  have hDc := hD.sub (ws' := (wd_5013416a h0 v0 r0 v1 v2 v3 v4 r1 r2 r3 r4 r5 r6 r7 v5 v6 r8 r9 r10 r11 v7 r12 h1 v8 v9 h2 r13 v10 v11 r14 v12 v13 r15 v14 w15 r16 v16 v17 r17 r18 r19 r20 r21 r22 v18 r23 r24 r25 v19 h2 g1 fn43)) [0, 2] (by decide) rfl
  have hKc := hK.sub (tys' := [(g1, .int)]) [1] rfl
  have hFc := va_free (wc := (wd_5013416a h0 v0 r0 v1 v2 v3 v4 r1 r2 r3 r4 r5 r6 r7 v5 v6 r8 r9 r10 r11 v7 r12 h1 v8 v9 h2 r13 v10 v11 r14 v12 v13 r15 v14 w15 r16 v16 v17 r17 r18 r19 r20 r21 r22 v18 r23 r24 r25 v19 h2 g1 fn43)) hD hS hA [0, 2] rfl
  refine va_callv (va_runV (As := [.int v22, .int 7, .int 1]) (rest := []) ⟨hx, hb, hml, hown, hts⟩ (k_X12_set l dC dI h0 h2 v0 r0 v1 v2 v3 v4 r1 r2 r3 r4 r5 r6 r7 v5 v6 r8 r9 r10 r11 v7 r12 h1 v8 v9 r13 v10 v11 r14 v12 v13 r15 v14 w15 r16 v16 v17 r17 r18 r19 r20 r21 r22 v18 r23 r24 r25 v19 g1 fn43 v22 1 ⟨i_v1a, i_v1b⟩ ⟨i_v5a, i_v5b⟩ ⟨i_v6a, i_v6b⟩ ⟨i_v7a, i_v7b⟩ ⟨i_v8a, i_v8b⟩ ⟨i_v9a, i_v9b⟩ ⟨i_v10a, i_v10b⟩ ⟨i_v14a, i_v14b⟩ ⟨i_v18a, i_v18b⟩ ⟨i_v19a, i_v19b⟩ ⟨i_v22a, i_v22b⟩ trivial H.size) (cwV 3 hts g_X12_layBag_7 rfl rfl rfl (by decide +kernel) ⟨Nat.le_of_ble_eq_true rfl, Nat.le_of_ble_eq_true rfl⟩) (pv_PV12 hPc hKc hDc (q0 := 0) rfl) rfl rfl hl.1 rfl (lv_room (Nat.le_of_ble_eq_true rfl)) dX12_layBag_49 ⟨Nat.le_of_ble_eq_true rfl, Nat.le_of_ble_eq_true rfl⟩) hS (fun q _ h => hFc q h) hFc (fun u t H1 locs ht hvm hwra44 hB hz1 hk1 hS => ?_)
  obtain ⟨hP1, hK1, hD1⟩ := hB
  rw [ht] at hP1
  obtain ⟨hP2, hD2⟩ := va_join (wr := (wd_aad598ec h1 g0 f20)) (w1 := (wd_5013416a h0 v0 r0 v1 v2 v3 v4 r1 r2 r3 r4 r5 r6 r7 v5 v6 r8 r9 r10 r11 v7 r12 h1 v8 v9 h2 r13 v10 v11 r14 v12 v13 r15 v14 w15 r16 v16 v17 r17 r18 r19 r20 r21 r22 v18 r23 r24 r25 v19 h2 g1 (upd fn43 (pm_I v22 7) 1))) hP hD [0, 2] [1] rfl rfl (by decide) (by decide) hk1 hFc hP1 hD1
  clear hP hD hPc hDc hKc hFc hP1 hK1 hD1 hk1 hz1
  generalize H1 = H at hP2 hS ⊢
  have hP := hP2.sub (ws' := (wd_8dccebc0 h0 v0 r0 v1 v2 v3 v4 r1 r2 r3 r4 r5 r6 r7 v5 v6 r8 r9 r10 r11 v7 r12 h1 v8 v9 h2 r13 v10 v11 r14 v12 v13 r15 v14 w15 r16 v16 v17 r17 r18 r19 r20 r21 r22 v18 r23 r24 r25 v19 h1 g0 f20 h2 g1 (upd fn43 (pm_I v22 7) 1))) [1, 0, 2] rfl
  have hD := hD2.sub (ws' := (wd_8dccebc0 h0 v0 r0 v1 v2 v3 v4 r1 r2 r3 r4 r5 r6 r7 v5 v6 r8 r9 r10 r11 v7 r12 h1 v8 v9 h2 r13 v10 v11 r14 v12 v13 r15 v14 w15 r16 v16 v17 r17 r18 r19 r20 r21 r22 v18 r23 r24 r25 v19 h1 g0 f20 h2 g1 (upd fn43 (pm_I v22 7) 1))) [1, 0, 2] (by decide) rfl
  clear hP2 hD2
  obtain ⟨t45, et45⟩ : ∃ y : Int32, y = 8 * v22 + 7 := ⟨_, rfl⟩
  have gt45 : t45.toInt = 8 * v22.toInt + 7 := pm_i8 et45 rfl (by decide) (by omega) (by omega) (by omega) (by omega)
  obtain ⟨fn47, efn47⟩ : ∃ g : Nat → Int32, g = upd fn43 (Int32.toNatClampNeg t45) 1 := ⟨_, rfl⟩
  have e9 : (upd fn43 (pm_I v22 7) 1) = fn47 := by rw [efn47, et45]; rfl
  rw [e9] at hP hD
  have ia_fn47 : pm_NW fn47 := by rw [efn47]; exact pm_NWB.on ia_fn43 (by omega) (by omega) (by omega)
  have hP : va_P (dC, dI) vwCl (wd_8dccebc0 h0 v0 r0 v1 v2 v3 v4 r1 r2 r3 r4 r5 r6 r7 v5 v6 r8 r9 r10 r11 v7 r12 h1 v8 v9 h2 r13 v10 v11 r14 v12 v13 r15 v14 w15 r16 v16 v17 r17 r18 r19 r20 r21 r22 v18 r23 r24 r25 v19 h1 g0 f20 h2 g1 fn47) H := hP
  have hD : va_D A (wd_8dccebc0 h0 v0 r0 v1 v2 v3 v4 r1 r2 r3 r4 r5 r6 r7 v5 v6 r8 r9 r10 r11 v7 r12 h1 v8 v9 h2 r13 v10 v11 r14 v12 v13 r15 v14 w15 r16 v16 v17 r17 r18 r19 r20 r21 r22 v18 r23 r24 r25 v19 h1 g0 f20 h2 g1 fn47) := hD
  subst hQ
  have hP9 := hP.sub (ws' := (wd_8dccebc0 h0 v0 r0 v1 v2 v3 v4 r1 r2 r3 r4 r5 r6 r7 v5 v6 r8 r9 r10 r11 v7 r12 h1 v8 v9 h2 r13 v10 v11 r14 v12 v13 r15 v14 w15 r16 v16 v17 r17 r18 r19 r20 r21 r22 v18 r23 r24 r25 v19 h1 g0 f20 h2 g1 fn47)) [0, 1, 2] rfl
  have hD9 := hD.sub (ws' := (wd_8dccebc0 h0 v0 r0 v1 v2 v3 v4 r1 r2 r3 r4 r5 r6 r7 v5 v6 r8 r9 r10 r11 v7 r12 h1 v8 v9 h2 r13 v10 v11 r14 v12 v13 r15 v14 w15 r16 v16 v17 r17 r18 r19 r20 r21 r22 v18 r23 r24 r25 v19 h1 g0 f20 h2 g1 fn47)) [0, 1, 2] (by decide) rfl
  have hK9 := hK.sub (tys' := []) [] rfl
  exact W.vret hx hb hr (fun t ht hW => ⟨⟨(), rfl, trivial, ⟨fn47, ia_fn47, by rw [ht]; exact hP9, va_K.moved hW.alike hK9, hD9⟩⟩, hS.F ht⟩) hS.2.2 dX12_layBag_52
def q_X12_leaveNow : List Cond := .code yX12_leaveNow cX12_leaveNow 6 (some .int) :: (([.code yX12_freePlace cX12_freePlace 2 (some .int), .code yX12_isThere cX12_isThere 2 (some .boolean), .code yX12_in cX12_in 3 (some .boolean), .initialized RX12, .static yX12_in, .methodLink RX12 217 yX12_in, .code yX12_of cX12_of 3 (some .int), .fieldLink RX12 52 "LeftArgumentsModel" "now" "[I", .instanceMethod yX12_of, .selects RX12 yX12_of yX12_of, .methodLink RX12 287 yX12_of, .instanceMethod yX12_isThere, .selects RX12 yX12_isThere yX12_isThere, .methodLink RX12 290 yX12_isThere, .instanceMethod yX12_freePlace, .selects RX12 yX12_freePlace yX12_freePlace, .methodLink RX12 348 yX12_freePlace, .code yX12_set cX12_set 4 none, .instanceMethod yX12_set, .selects RX12 yX12_set yX12_set, .methodLink RX12 258 yX12_set] : List Cond) ++ wsX120)
set_option maxRecDepth 20000 in
theorem g_X12_leaveNow_0 : GoodIn q_X12_leaveNow (wsV RX12 348 RX12 yX12_freePlace q_X12_freePlace) := goodIn_app (goodIn_r _ [17, 15, 16, 4] rfl (by decide +kernel)) (goodIn_ca (goodIn_r (.code yX12_freePlace cX12_freePlace 2 (some .int) :: [.code yX12_isThere cX12_isThere 2 (some .boolean), .code yX12_in cX12_in 3 (some .boolean), .initialized RX12, .static yX12_in, .methodLink RX12 217 yX12_in, .code yX12_of cX12_of 3 (some .int), .fieldLink RX12 52 "LeftArgumentsModel" "now" "[I", .instanceMethod yX12_of, .selects RX12 yX12_of yX12_of, .methodLink RX12 287 yX12_of, .instanceMethod yX12_isThere, .selects RX12 yX12_isThere yX12_isThere, .methodLink RX12 290 yX12_isThere]) [1, 2, 3, 4, 5, 6, 7, 8, 9, 10, 11, 12, 13, 14] rfl (by decide +kernel)) (goodIn_sub (fun _ h => List.mem_cons_of_mem _ (List.mem_append_right _ h)) gwX12))
set_option maxRecDepth 20000 in
theorem g_X12_leaveNow_1 : GoodIn q_X12_leaveNow (wsV RX12 258 RX12 yX12_set q_X12_set_2) := goodIn_app (goodIn_r _ [21, 19, 20, 4] rfl (by decide +kernel)) (goodIn_ca (goodIn_r (.code yX12_set cX12_set 4 none :: [.fieldLink RX12 52 "LeftArgumentsModel" "now" "[I"]) [18, 8] rfl (by decide +kernel)) (goodIn_sub (fun _ h => List.mem_cons_of_mem _ (List.mem_append_right _ h)) gwX12))
set_option maxRecDepth 20000 in
theorem g_X12_leaveNow_2 : GoodIn q_X12_leaveNow (wsV RX12 258 RX12 yX12_set q_X12_set_6) := goodIn_app (goodIn_r _ [21, 19, 20, 4] rfl (by decide +kernel)) (goodIn_ca (goodIn_r (.code yX12_set cX12_set 4 none :: [.fieldLink RX12 52 "LeftArgumentsModel" "now" "[I"]) [18, 8] rfl (by decide +kernel)) (goodIn_sub (fun _ h => List.mem_cons_of_mem _ (List.mem_append_right _ h)) gwX12))
set_option maxRecDepth 20000 in
theorem g_X12_leaveNow_3 : GoodIn q_X12_leaveNow (wsV RX12 258 RX12 yX12_set q_X12_set_7) := goodIn_app (goodIn_r _ [21, 19, 20, 4] rfl (by decide +kernel)) (goodIn_ca (goodIn_r (.code yX12_set cX12_set 4 none :: [.fieldLink RX12 52 "LeftArgumentsModel" "now" "[I"]) [18, 8] rfl (by decide +kernel)) (goodIn_sub (fun _ h => List.mem_cons_of_mem _ (List.mem_append_right _ h)) gwX12))
set_option maxRecDepth 20000 in
theorem g_X12_leaveNow_4 : GoodIn q_X12_leaveNow (wsV RX12 258 RX12 yX12_set q_X12_set_1) := goodIn_app (goodIn_r _ [21, 19, 20, 4] rfl (by decide +kernel)) (goodIn_ca (goodIn_r (.code yX12_set cX12_set 4 none :: [.fieldLink RX12 52 "LeftArgumentsModel" "now" "[I"]) [18, 8] rfl (by decide +kernel)) (goodIn_sub (fun _ h => List.mem_cons_of_mem _ (List.mem_append_right _ h)) gwX12))
set_option maxRecDepth 20000 in
theorem g_X12_leaveNow_5 : GoodIn q_X12_leaveNow (wsV RX12 258 RX12 yX12_set q_X12_set_3) := goodIn_app (goodIn_r _ [21, 19, 20, 4] rfl (by decide +kernel)) (goodIn_ca (goodIn_r (.code yX12_set cX12_set 4 none :: [.fieldLink RX12 52 "LeftArgumentsModel" "now" "[I"]) [18, 8] rfl (by decide +kernel)) (goodIn_sub (fun _ h => List.mem_cons_of_mem _ (List.mem_append_right _ h)) gwX12))
set_option maxRecDepth 20000 in
theorem g_X12_leaveNow_6 : GoodIn q_X12_leaveNow (wsV RX12 258 RX12 yX12_set q_X12_set_5) := goodIn_app (goodIn_r _ [21, 19, 20, 4] rfl (by decide +kernel)) (goodIn_ca (goodIn_r (.code yX12_set cX12_set 4 none :: [.fieldLink RX12 52 "LeftArgumentsModel" "now" "[I"]) [18, 8] rfl (by decide +kernel)) (goodIn_sub (fun _ h => List.mem_cons_of_mem _ (List.mem_append_right _ h)) gwX12))
set_option maxRecDepth 20000 in
theorem g_X12_leaveNow_7 : GoodIn q_X12_leaveNow (wsV RX12 258 RX12 yX12_set q_X12_set_4) := goodIn_app (goodIn_r _ [21, 19, 20, 4] rfl (by decide +kernel)) (goodIn_ca (goodIn_r (.code yX12_set cX12_set 4 none :: [.fieldLink RX12 52 "LeftArgumentsModel" "now" "[I"]) [18, 8] rfl (by decide +kernel)) (goodIn_sub (fun _ h => List.mem_cons_of_mem _ (List.mem_append_right _ h)) gwX12))
set_option maxRecDepth 20000 in
theorem g_X12_leaveNow_8 : GoodIn q_X12_leaveNow (wsV RX12 258 RX12 yX12_set q_X12_set) := goodIn_app (goodIn_r _ [21, 19, 20, 4] rfl (by decide +kernel)) (goodIn_ca (goodIn_r (.code yX12_set cX12_set 4 none :: [.fieldLink RX12 52 "LeftArgumentsModel" "now" "[I"]) [18, 8] rfl (by decide +kernel)) (goodIn_sub (fun _ h => List.mem_cons_of_mem _ (List.mem_append_right _ h)) gwX12))
set_option maxHeartbeats 4000000 in
set_option maxRecDepth 100000 in
theorem k_X12_leaveNow (l : Launch) (dC : Nat → ClassId) (dI : Nat → Nat → Nat) (h0 : Nat) (h1 : Nat) (v0 : Int32) (r0 : Nat) (v1 : Int32) (v2 : Int32) (v3 : Int32) (v4 : Int32) (r1 : Nat) (r2 : Nat) (r3 : Nat) (r4 : Nat) (r5 : Nat) (r6 : Nat) (r7 : Nat) (v5 : Int32) (v6 : Int32) (r8 : Nat) (r9 : Nat) (r10 : Nat) (r11 : Nat) (v7 : Int32) (r12 : Nat) (r13 : Nat) (v8 : Int32) (v9 : Int32) (r14 : Nat) (v10 : Int32) (v11 : Int32) (r15 : Nat) (v12 : Int32) (v13 : Int32) (r16 : Nat) (v14 : Int32) (w15 : Int64) (r17 : Nat) (v16 : Int32) (v17 : Int32) (r18 : Nat) (r19 : Nat) (r20 : Nat) (r21 : Nat) (r22 : Nat) (r23 : Nat) (v18 : Int32) (r24 : Nat) (r25 : Nat) (r26 : Nat) (v19 : Int32) (g0 : ClassId) (f20 : Nat → Int32) (v21 : Int32) (v22 : Int32) (v23 : Int32) (v24 : Int32) (i_v1 : 0 ≤ v1.toInt ∧ v1.toInt ≤ 240) (i_v5 : 0 ≤ v5.toInt ∧ v5.toInt ≤ 4) (i_v6 : 0 ≤ v6.toInt ∧ v6.toInt ≤ 4) (i_v7 : 0 ≤ v7.toInt ∧ v7.toInt ≤ 8) (i_v8 : 0 ≤ v8.toInt ∧ v8.toInt ≤ 8) (i_v9 : 0 ≤ v9.toInt ∧ v9.toInt ≤ 1) (i_v10 : -1 ≤ v10.toInt ∧ v10.toInt ≤ 3) (i_v14 : 0 ≤ v14.toInt ∧ v14.toInt ≤ 40) (i_v18 : 0 ≤ v18.toInt ∧ v18.toInt ≤ 10) (i_v19 : 0 ≤ v19.toInt ∧ v19.toInt ≤ 1) (i_v21 : 1 ≤ v21.toInt ∧ v21.toInt ≤ 30) (ia_f20 : (pm_NW f20)) (pp0 : pm_free f20) (sz : Nat) : Met l yX12_leaveNow q_X12_leaveNow ({ frames := 3, cells := 0, slots := 0, locals := 64 }) (va_Pc [.ref h0, .int v21, .int v22, .int v23, .int v24] (fun U => U.heap.size = sz ∧ va_P (dC, dI) vwCl (wd_5013416a h0 v0 r0 v1 v2 v3 v4 r1 r2 r3 r4 r5 r6 r7 v5 v6 r8 r9 r10 r11 v7 r12 r13 v8 v9 h1 r14 v10 v11 r15 v12 v13 r16 v14 w15 r17 v16 v17 r18 r19 r20 r21 r22 r23 v18 r24 r25 r26 v19 h1 g0 f20) U.heap ∧ va_K (dC, dI) vwCl [(g0, .int)] U ∧ va_D (fun _ => True) (wd_5013416a h0 v0 r0 v1 v2 v3 v4 r1 r2 r3 r4 r5 r6 r7 v5 v6 r8 r9 r10 r11 v7 r12 r13 v8 v9 h1 r14 v10 v11 r15 v12 v13 r16 v14 w15 r17 v16 v17 r18 r19 r20 r21 r22 r23 v18 r24 r25 r26 v19 h1 g0 f20))) (va_Qi (fun (r : Int32) (r9 : Int32) => r9 = r) (fun (r : Int32) (t : State) => (∃ (o_h1 : Nat → Int32), (pm_NW o_h1) ∧ (0 ≤ r.toInt) ∧ (r.toInt ≤ 7) ∧ va_P (dC, dI) vwCl (wd_5013416a h0 v0 r0 v1 v2 v3 v4 r1 r2 r3 r4 r5 r6 r7 v5 v6 r8 r9 r10 r11 v7 r12 r13 v8 v9 h1 r14 v10 v11 r15 v12 v13 r16 v14 w15 r17 v16 v17 r18 r19 r20 r21 r22 r23 v18 r24 r25 r26 v19 h1 g0 o_h1) t.heap ∧ va_K (dC, dI) vwCl [] t ∧ va_D (va_A (wd_5013416a h0 v0 r0 v1 v2 v3 v4 r1 r2 r3 r4 r5 r6 r7 v5 v6 r8 r9 r10 r11 v7 r12 r13 v8 v9 h1 r14 v10 v11 r15 v12 v13 r16 v14 w15 r17 v16 v17 r18 r19 r20 r21 r22 r23 v18 r24 r25 r26 v19 h1 g0 f20) sz) (wd_5013416a h0 v0 r0 v1 v2 v3 v4 r1 r2 r3 r4 r5 r6 r7 v5 v6 r8 r9 r10 r11 v7 r12 r13 v8 v9 h1 r14 v10 v11 r15 v12 v13 r16 v14 w15 r17 v16 v17 r18 r19 r20 r21 r22 r23 v18 r24 r25 r26 v19 h1 g0 o_h1))) (va_A (wd_5013416a h0 v0 r0 v1 v2 v3 v4 r1 r2 r3 r4 r5 r6 r7 v5 v6 r8 r9 r10 r11 v7 r12 r13 v8 v9 h1 r14 v10 v11 r15 v12 v13 r16 v14 w15 r17 v16 v17 r18 r19 r20 r21 r22 r23 v18 r24 r25 r26 v19 h1 g0 f20) sz)) 0 0 (va_A (wd_5013416a h0 v0 r0 v1 v2 v3 v4 r1 r2 r3 r4 r5 r6 r7 v5 v6 r8 r9 r10 r11 v7 r12 r13 v8 v9 h1 r14 v10 v11 r15 v12 v13 r16 v14 w15 r17 v16 v17 r18 r19 r20 r21 r22 r23 v18 r24 r25 r26 v19 h1 g0 f20) sz) := by
  refine Met.ofW (cc := cX12_leaveNow) (maxL := 6) (ret := (some .int)) (by decide) rfl ?_
  intro p e s m args below meth c s₁ B hml hv
  obtain ⟨i_v1a, i_v1b⟩ := i_v1
  obtain ⟨i_v5a, i_v5b⟩ := i_v5
  obtain ⟨i_v6a, i_v6b⟩ := i_v6
  obtain ⟨i_v7a, i_v7b⟩ := i_v7
  obtain ⟨i_v8a, i_v8b⟩ := i_v8
  obtain ⟨i_v9a, i_v9b⟩ := i_v9
  obtain ⟨i_v10a, i_v10b⟩ := i_v10
  obtain ⟨i_v14a, i_v14b⟩ := i_v14
  obtain ⟨i_v18a, i_v18b⟩ := i_v18
  obtain ⟨i_v19a, i_v19b⟩ := i_v19
  obtain ⟨i_v21a, i_v21b⟩ := i_v21
  obtain ⟨rfl, hsz, hP, hK, hD0⟩ := hv
  have hx := B.exec
  have hb := B.bytes
  have hr := B.returns
  have hts := atoms_spec (ws := q_X12_leaveNow) B.pre
  have hown : s.vm.findClass RX12 = some m.cls := findClass_of_methodNamed B.named
  have hlocks := B.notSynchronized
  subst hsz
  have hD := hD0.self (sz := s.heap.size)
  generalize hAe : va_A (wd_5013416a h0 v0 r0 v1 v2 v3 v4 r1 r2 r3 r4 r5 r6 r7 v5 v6 r8 r9 r10 r11 v7 r12 r13 v8 v9 h1 r14 v10 v11 r15 v12 v13 r16 v14 w15 r17 v16 v17 r18 r19 r20 r21 r22 r23 v18 r24 r25 r26 v19 h1 g0 f20) s.heap.size = A at hD ⊢
  have hA : ∀ q : Nat, s.heap.size ≤ q → A q := fun q h => by rw [← hAe]; exact Or.inr h
  have hS : va_S A s.heap s.heap [] := va_S.rf
  generalize hQ : (MQ below _ _ s 0 0 A) = Q
  have hl := lv_entry ([.ref h0, .int v21, .int v22, .int v23, .int v24]) (n := 6) (Nat.le_of_ble_eq_true rfl)
  rw [lg_entry_eq]
  generalize (lg_sl ([.ref h0, .int v21, .int v22, .int v23, .int v24]) ++ List.replicate (6 - (lg_sl ([.ref h0, .int v21, .int v22, .int v23, .int v24])).length) Slot.unset).toArray = ls at hl ⊢
  have hl : lv_has ls 6 [(0, .ref h0), (1, .int v21), (2, .int v22), (3, .int v23), (4, .int v24)] := hl
  obtain ⟨H, hH⟩ : ∃ H : Heap, H = s.heap := ⟨_, rfl⟩
  obtain ⟨locs, hlocs⟩ : ∃ y : List Loc, y = [] := ⟨_, rfl⟩
  have hS : va_S A s.heap H locs := by rw [hH, hlocs]; exact va_S.rf
  have hP : va_P (dC, dI) vwCl (wd_5013416a h0 v0 r0 v1 v2 v3 v4 r1 r2 r3 r4 r5 r6 r7 v5 v6 r8 r9 r10 r11 v7 r12 r13 v8 v9 h1 r14 v10 v11 r15 v12 v13 r16 v14 w15 r17 v16 v17 r18 r19 r20 r21 r22 r23 v18 r24 r25 r26 v19 h1 g0 f20) H := by rw [hH]; exact hP
  rw [← hH, ← hlocs]
  refine lv_aload_n hx hb dX12_leaveNow_0 rfl (lv_at hl 0 rfl) ?_
  have hPc := hP.sub (ws' := (wd_5013416a h0 v0 r0 v1 v2 v3 v4 r1 r2 r3 r4 r5 r6 r7 v5 v6 r8 r9 r10 r11 v7 r12 r13 v8 v9 h1 r14 v10 v11 r15 v12 v13 r16 v14 w15 r17 v16 v17 r18 r19 r20 r21 r22 r23 v18 r24 r25 r26 v19 h1 g0 f20)) [0, 1] rfl
  have hDc := hD.sub (ws' := (wd_5013416a h0 v0 r0 v1 v2 v3 v4 r1 r2 r3 r4 r5 r6 r7 v5 v6 r8 r9 r10 r11 v7 r12 r13 v8 v9 h1 r14 v10 v11 r15 v12 v13 r16 v14 w15 r17 v16 v17 r18 r19 r20 r21 r22 r23 v18 r24 r25 r26 v19 h1 g0 f20)) [0, 1] (by decide) rfl
  have hKc := hK.sub (tys' := [(g0, .int)]) [0] rfl
  have hFc := va_free (wc := (wd_5013416a h0 v0 r0 v1 v2 v3 v4 r1 r2 r3 r4 r5 r6 r7 v5 v6 r8 r9 r10 r11 v7 r12 r13 v8 v9 h1 r14 v10 v11 r15 v12 v13 r16 v14 w15 r17 v16 v17 r18 r19 r20 r21 r22 r23 v18 r24 r25 r26 v19 h1 g0 f20)) hD hS hA [0, 1] rfl
  refine va_calli (va_runV (As := []) (rest := []) ⟨hx, hb, hml, hown, hts⟩ (k_X12_freePlace l dC dI h0 h1 v0 r0 v1 v2 v3 v4 r1 r2 r3 r4 r5 r6 r7 v5 v6 r8 r9 r10 r11 v7 r12 r13 v8 v9 r14 v10 v11 r15 v12 v13 r16 v14 w15 r17 v16 v17 r18 r19 r20 r21 r22 r23 v18 r24 r25 r26 v19 g0 f20 ⟨i_v1a, i_v1b⟩ ⟨i_v5a, i_v5b⟩ ⟨i_v6a, i_v6b⟩ ⟨i_v7a, i_v7b⟩ ⟨i_v8a, i_v8b⟩ ⟨i_v9a, i_v9b⟩ ⟨i_v10a, i_v10b⟩ ⟨i_v14a, i_v14b⟩ ⟨i_v18a, i_v18b⟩ ⟨i_v19a, i_v19b⟩ ia_f20 H.size) (cwV 0 hts g_X12_leaveNow_0 rfl rfl rfl (by decide +kernel) ⟨Nat.le_of_ble_eq_true rfl, Nat.le_of_ble_eq_true rfl⟩) (pv_PV12 hPc hKc hDc (q0 := 0) rfl) rfl rfl hl.1 rfl (lv_room (Nat.le_of_ble_eq_true rfl)) dX12_leaveNow_1 ⟨Nat.le_of_ble_eq_true rfl, Nat.le_of_ble_eq_true rfl⟩) hS (fun q _ h => hFc q h) hFc (fun ra1 u t H1 locs ht hvm hwra1 hB hz1 hk1 hS => ?_)
  try rw [hwra1] at hB
  obtain ⟨pt0_ra1, pt1_ra1, pt2_ra1, pt3_ra1, hP1, hK1, hD1⟩ := hB
  rw [ht] at hP1
  obtain ⟨hP2, hD2⟩ := va_join (wr := []) (w1 := (wd_5013416a h0 v0 r0 v1 v2 v3 v4 r1 r2 r3 r4 r5 r6 r7 v5 v6 r8 r9 r10 r11 v7 r12 r13 v8 v9 h1 r14 v10 v11 r15 v12 v13 r16 v14 w15 r17 v16 v17 r18 r19 r20 r21 r22 r23 v18 r24 r25 r26 v19 h1 g0 f20)) hP hD [0, 1] [] rfl rfl (by decide) (by decide) hk1 hFc hP1 hD1
  clear hP hD hPc hDc hKc hFc hP1 hK1 hD1 hk1 hz1
  generalize H1 = H at hP2 hS ⊢
  have hP : va_P (dC, dI) vwCl (wd_5013416a h0 v0 r0 v1 v2 v3 v4 r1 r2 r3 r4 r5 r6 r7 v5 v6 r8 r9 r10 r11 v7 r12 r13 v8 v9 h1 r14 v10 v11 r15 v12 v13 r16 v14 w15 r17 v16 v17 r18 r19 r20 r21 r22 r23 v18 r24 r25 r26 v19 h1 g0 f20) H := hP2
  have hD : va_D A (wd_5013416a h0 v0 r0 v1 v2 v3 v4 r1 r2 r3 r4 r5 r6 r7 v5 v6 r8 r9 r10 r11 v7 r12 r13 v8 v9 h1 r14 v10 v11 r15 v12 v13 r16 v14 w15 r17 v16 v17 r18 r19 r20 r21 r22 r23 v18 r24 r25 r26 v19 h1 g0 f20) := hD2
  clear hP2 hD2
  have hfra1 : 0 ≤ ra1.toInt := by rcases (show ra1.toInt = -1 ∨ 0 ≤ ra1.toInt by omega) with h9 | h9; exact absurd (pt2_ra1 h9) pp0; exact h9
  refine lv_istore (lv' := [(5, .int ra1), (0, .ref h0), (1, .int v21), (2, .int v22), (3, .int v23), (4, .int v24)]) hx hb dX12_leaveNow_4 hl (by decide) rfl (fun ls hl => ?_)
  refine lv_aload_n hx hb dX12_leaveNow_6 rfl (lv_at hl 1 rfl) ?_
  refine lv_iload hx hb dX12_leaveNow_7 (lv_at hl 0 rfl) ?_
  refine lv_iconst (v := 0) hx hb dX12_leaveNow_9 (by decide) ?_
  refine lv_iload_n hx hb dX12_leaveNow_10 rfl (lv_at hl 2 rfl) ?_
  have hPc := hP.sub (ws' := (wd_5013416a h0 v0 r0 v1 v2 v3 v4 r1 r2 r3 r4 r5 r6 r7 v5 v6 r8 r9 r10 r11 v7 r12 r13 v8 v9 h1 r14 v10 v11 r15 v12 v13 r16 v14 w15 r17 v16 v17 r18 r19 r20 r21 r22 r23 v18 r24 r25 r26 v19 h1 g0 f20)) [0, 1] rfl
  have hDc := hD.sub (ws' := (wd_5013416a h0 v0 r0 v1 v2 v3 v4 r1 r2 r3 r4 r5 r6 r7 v5 v6 r8 r9 r10 r11 v7 r12 r13 v8 v9 h1 r14 v10 v11 r15 v12 v13 r16 v14 w15 r17 v16 v17 r18 r19 r20 r21 r22 r23 v18 r24 r25 r26 v19 h1 g0 f20)) [0, 1] (by decide) rfl
  have hKc := hK.sub (tys' := [(g0, .int)]) [0] rfl
  have hFc := va_free (wc := (wd_5013416a h0 v0 r0 v1 v2 v3 v4 r1 r2 r3 r4 r5 r6 r7 v5 v6 r8 r9 r10 r11 v7 r12 r13 v8 v9 h1 r14 v10 v11 r15 v12 v13 r16 v14 w15 r17 v16 v17 r18 r19 r20 r21 r22 r23 v18 r24 r25 r26 v19 h1 g0 f20)) hD hS hA [0, 1] rfl
  refine va_callv (va_runV (As := [.int ra1, .int 0, .int v21]) (rest := []) ⟨hx, hb, hml, hown, hts⟩ (k_X12_set_2 l dC dI h0 h1 v0 r0 v1 v2 v3 v4 r1 r2 r3 r4 r5 r6 r7 v5 v6 r8 r9 r10 r11 v7 r12 r13 v8 v9 r14 v10 v11 r15 v12 v13 r16 v14 w15 r17 v16 v17 r18 r19 r20 r21 r22 r23 v18 r24 r25 r26 v19 g0 f20 ra1 v21 ⟨i_v1a, i_v1b⟩ ⟨i_v5a, i_v5b⟩ ⟨i_v6a, i_v6b⟩ ⟨i_v7a, i_v7b⟩ ⟨i_v8a, i_v8b⟩ ⟨i_v9a, i_v9b⟩ ⟨i_v10a, i_v10b⟩ ⟨i_v14a, i_v14b⟩ ⟨i_v18a, i_v18b⟩ ⟨i_v19a, i_v19b⟩ ⟨by first | omega | decide, by first | omega | decide⟩ trivial H.size) (cwV 3 hts g_X12_leaveNow_1 rfl rfl rfl (by decide +kernel) ⟨Nat.le_of_ble_eq_true rfl, Nat.le_of_ble_eq_true rfl⟩) (pv_PV12 hPc hKc hDc (q0 := 0) rfl) rfl rfl hl.1 rfl (lv_room (Nat.le_of_ble_eq_true rfl)) dX12_leaveNow_11 ⟨Nat.le_of_ble_eq_true rfl, Nat.le_of_ble_eq_true rfl⟩) hS (fun q _ h => hFc q h) hFc (fun u t H1 locs ht hvm hwra2 hB hz1 hk1 hS => ?_)
  obtain ⟨hP1, hK1, hD1⟩ := hB
  rw [ht] at hP1
  obtain ⟨hP2, hD2⟩ := va_join (wr := []) (w1 := (wd_5013416a h0 v0 r0 v1 v2 v3 v4 r1 r2 r3 r4 r5 r6 r7 v5 v6 r8 r9 r10 r11 v7 r12 r13 v8 v9 h1 r14 v10 v11 r15 v12 v13 r16 v14 w15 r17 v16 v17 r18 r19 r20 r21 r22 r23 v18 r24 r25 r26 v19 h1 g0 (upd f20 (pm_I ra1 0) v21))) hP hD [0, 1] [] rfl rfl (by decide) (by decide) hk1 hFc hP1 hD1
  clear hP hD hPc hDc hKc hFc hP1 hK1 hD1 hk1 hz1
  generalize H1 = H at hP2 hS ⊢
  have hP : va_P (dC, dI) vwCl (wd_5013416a h0 v0 r0 v1 v2 v3 v4 r1 r2 r3 r4 r5 r6 r7 v5 v6 r8 r9 r10 r11 v7 r12 r13 v8 v9 h1 r14 v10 v11 r15 v12 v13 r16 v14 w15 r17 v16 v17 r18 r19 r20 r21 r22 r23 v18 r24 r25 r26 v19 h1 g0 (upd f20 (pm_I ra1 0) v21)) H := hP2
  have hD : va_D A (wd_5013416a h0 v0 r0 v1 v2 v3 v4 r1 r2 r3 r4 r5 r6 r7 v5 v6 r8 r9 r10 r11 v7 r12 r13 v8 v9 h1 r14 v10 v11 r15 v12 v13 r16 v14 w15 r17 v16 v17 r18 r19 r20 r21 r22 r23 v18 r24 r25 r26 v19 h1 g0 (upd f20 (pm_I ra1 0) v21)) := hD2
  clear hP2 hD2
  obtain ⟨t3, et3⟩ : ∃ y : Int32, y = 8 * ra1 + 0 := ⟨_, rfl⟩
  have gt3 : t3.toInt = 8 * ra1.toInt + 0 := pm_i8 et3 rfl (by decide) (by omega) (by omega) (by omega) (by omega)
  obtain ⟨fn5, efn5⟩ : ∃ g : Nat → Int32, g = upd f20 (Int32.toNatClampNeg t3) v21 := ⟨_, rfl⟩
  have e9 : (upd f20 (pm_I ra1 0) v21) = fn5 := by rw [efn5, et3]; rfl
  rw [e9] at hP hD
  have ia_fn5 : pm_NWB ra1 fn5 := by rw [efn5]; exact pm_NW.mk (y := v21.toInt) ia_f20 (by omega) (by omega) (by omega) rfl (by omega) (by omega)
  have hP : va_P (dC, dI) vwCl (wd_5013416a h0 v0 r0 v1 v2 v3 v4 r1 r2 r3 r4 r5 r6 r7 v5 v6 r8 r9 r10 r11 v7 r12 r13 v8 v9 h1 r14 v10 v11 r15 v12 v13 r16 v14 w15 r17 v16 v17 r18 r19 r20 r21 r22 r23 v18 r24 r25 r26 v19 h1 g0 fn5) H := hP
  have hD : va_D A (wd_5013416a h0 v0 r0 v1 v2 v3 v4 r1 r2 r3 r4 r5 r6 r7 v5 v6 r8 r9 r10 r11 v7 r12 r13 v8 v9 h1 r14 v10 v11 r15 v12 v13 r16 v14 w15 r17 v16 v17 r18 r19 r20 r21 r22 r23 v18 r24 r25 r26 v19 h1 g0 fn5) := hD
  refine lv_aload_n hx hb dX12_leaveNow_14 rfl (lv_at hl 1 rfl) ?_
  refine lv_iload hx hb dX12_leaveNow_15 (lv_at hl 0 rfl) ?_
  refine lv_iconst (v := 1) hx hb dX12_leaveNow_17 (by decide) ?_
  refine lv_iload_n hx hb dX12_leaveNow_18 rfl (lv_at hl 3 rfl) ?_
  have hPc := hP.sub (ws' := (wd_5013416a h0 v0 r0 v1 v2 v3 v4 r1 r2 r3 r4 r5 r6 r7 v5 v6 r8 r9 r10 r11 v7 r12 r13 v8 v9 h1 r14 v10 v11 r15 v12 v13 r16 v14 w15 r17 v16 v17 r18 r19 r20 r21 r22 r23 v18 r24 r25 r26 v19 h1 g0 fn5)) [0, 1] rfl
  have hDc := hD.sub (ws' := (wd_5013416a h0 v0 r0 v1 v2 v3 v4 r1 r2 r3 r4 r5 r6 r7 v5 v6 r8 r9 r10 r11 v7 r12 r13 v8 v9 h1 r14 v10 v11 r15 v12 v13 r16 v14 w15 r17 v16 v17 r18 r19 r20 r21 r22 r23 v18 r24 r25 r26 v19 h1 g0 fn5)) [0, 1] (by decide) rfl
  have hKc := hK.sub (tys' := [(g0, .int)]) [0] rfl
  have hFc := va_free (wc := (wd_5013416a h0 v0 r0 v1 v2 v3 v4 r1 r2 r3 r4 r5 r6 r7 v5 v6 r8 r9 r10 r11 v7 r12 r13 v8 v9 h1 r14 v10 v11 r15 v12 v13 r16 v14 w15 r17 v16 v17 r18 r19 r20 r21 r22 r23 v18 r24 r25 r26 v19 h1 g0 fn5)) hD hS hA [0, 1] rfl
  refine va_callv (va_runV (As := [.int ra1, .int 1, .int v22]) (rest := []) ⟨hx, hb, hml, hown, hts⟩ (k_X12_set_6 l dC dI h0 h1 v0 r0 v1 v2 v3 v4 r1 r2 r3 r4 r5 r6 r7 v5 v6 r8 r9 r10 r11 v7 r12 r13 v8 v9 r14 v10 v11 r15 v12 v13 r16 v14 w15 r17 v16 v17 r18 r19 r20 r21 r22 r23 v18 r24 r25 r26 v19 g0 fn5 ra1 v22 ⟨i_v1a, i_v1b⟩ ⟨i_v5a, i_v5b⟩ ⟨i_v6a, i_v6b⟩ ⟨i_v7a, i_v7b⟩ ⟨i_v8a, i_v8b⟩ ⟨i_v9a, i_v9b⟩ ⟨i_v10a, i_v10b⟩ ⟨i_v14a, i_v14b⟩ ⟨i_v18a, i_v18b⟩ ⟨i_v19a, i_v19b⟩ ⟨by first | omega | decide, by first | omega | decide⟩ trivial H.size) (cwV 3 hts g_X12_leaveNow_2 rfl rfl rfl (by decide +kernel) ⟨Nat.le_of_ble_eq_true rfl, Nat.le_of_ble_eq_true rfl⟩) (pv_PV12 hPc hKc hDc (q0 := 0) rfl) rfl rfl hl.1 rfl (lv_room (Nat.le_of_ble_eq_true rfl)) dX12_leaveNow_19 ⟨Nat.le_of_ble_eq_true rfl, Nat.le_of_ble_eq_true rfl⟩) hS (fun q _ h => hFc q h) hFc (fun u t H1 locs ht hvm hwra6 hB hz1 hk1 hS => ?_)
  obtain ⟨hP1, hK1, hD1⟩ := hB
  rw [ht] at hP1
  obtain ⟨hP2, hD2⟩ := va_join (wr := []) (w1 := (wd_5013416a h0 v0 r0 v1 v2 v3 v4 r1 r2 r3 r4 r5 r6 r7 v5 v6 r8 r9 r10 r11 v7 r12 r13 v8 v9 h1 r14 v10 v11 r15 v12 v13 r16 v14 w15 r17 v16 v17 r18 r19 r20 r21 r22 r23 v18 r24 r25 r26 v19 h1 g0 (upd fn5 (pm_I ra1 1) v22))) hP hD [0, 1] [] rfl rfl (by decide) (by decide) hk1 hFc hP1 hD1
  clear hP hD hPc hDc hKc hFc hP1 hK1 hD1 hk1 hz1
  generalize H1 = H at hP2 hS ⊢
  have hP : va_P (dC, dI) vwCl (wd_5013416a h0 v0 r0 v1 v2 v3 v4 r1 r2 r3 r4 r5 r6 r7 v5 v6 r8 r9 r10 r11 v7 r12 r13 v8 v9 h1 r14 v10 v11 r15 v12 v13 r16 v14 w15 r17 v16 v17 r18 r19 r20 r21 r22 r23 v18 r24 r25 r26 v19 h1 g0 (upd fn5 (pm_I ra1 1) v22)) H := hP2
  have hD : va_D A (wd_5013416a h0 v0 r0 v1 v2 v3 v4 r1 r2 r3 r4 r5 r6 r7 v5 v6 r8 r9 r10 r11 v7 r12 r13 v8 v9 h1 r14 v10 v11 r15 v12 v13 r16 v14 w15 r17 v16 v17 r18 r19 r20 r21 r22 r23 v18 r24 r25 r26 v19 h1 g0 (upd fn5 (pm_I ra1 1) v22)) := hD2
  clear hP2 hD2
  obtain ⟨t7, et7⟩ : ∃ y : Int32, y = 8 * ra1 + 1 := ⟨_, rfl⟩
  have gt7 : t7.toInt = 8 * ra1.toInt + 1 := pm_i8 et7 rfl (by decide) (by omega) (by omega) (by omega) (by omega)
  obtain ⟨fn9, efn9⟩ : ∃ g : Nat → Int32, g = upd fn5 (Int32.toNatClampNeg t7) v22 := ⟨_, rfl⟩
  have e9 : (upd fn5 (pm_I ra1 1) v22) = fn9 := by rw [efn9, et7]; rfl
  rw [e9] at hP hD
  have ia_fn9 : pm_NWB ra1 fn9 := by rw [efn9]; exact pm_NWB.st ia_fn5 (z := t7.toInt) (y := v22.toInt) (by omega) (by omega) rfl rfl (by omega) (fun b9 h8 h9 => ⟨fun _ => ⟨by omega, by omega⟩, fun _ => ⟨by omega, by omega⟩⟩) (fun _ => ⟨by omega, by omega⟩) (fun b9 h8 h9 => ⟨fun _ => by omega, fun _ => by omega⟩)
  have hP : va_P (dC, dI) vwCl (wd_5013416a h0 v0 r0 v1 v2 v3 v4 r1 r2 r3 r4 r5 r6 r7 v5 v6 r8 r9 r10 r11 v7 r12 r13 v8 v9 h1 r14 v10 v11 r15 v12 v13 r16 v14 w15 r17 v16 v17 r18 r19 r20 r21 r22 r23 v18 r24 r25 r26 v19 h1 g0 fn9) H := hP
  have hD : va_D A (wd_5013416a h0 v0 r0 v1 v2 v3 v4 r1 r2 r3 r4 r5 r6 r7 v5 v6 r8 r9 r10 r11 v7 r12 r13 v8 v9 h1 r14 v10 v11 r15 v12 v13 r16 v14 w15 r17 v16 v17 r18 r19 r20 r21 r22 r23 v18 r24 r25 r26 v19 h1 g0 fn9) := hD
  refine lv_aload_n hx hb dX12_leaveNow_22 rfl (lv_at hl 1 rfl) ?_
  refine lv_iload hx hb dX12_leaveNow_23 (lv_at hl 0 rfl) ?_
  refine lv_iconst (v := 2) hx hb dX12_leaveNow_25 (by decide) ?_
  refine lv_iload_n hx hb dX12_leaveNow_26 rfl (lv_at hl 4 rfl) ?_
  have hPc := hP.sub (ws' := (wd_5013416a h0 v0 r0 v1 v2 v3 v4 r1 r2 r3 r4 r5 r6 r7 v5 v6 r8 r9 r10 r11 v7 r12 r13 v8 v9 h1 r14 v10 v11 r15 v12 v13 r16 v14 w15 r17 v16 v17 r18 r19 r20 r21 r22 r23 v18 r24 r25 r26 v19 h1 g0 fn9)) [0, 1] rfl
  have hDc := hD.sub (ws' := (wd_5013416a h0 v0 r0 v1 v2 v3 v4 r1 r2 r3 r4 r5 r6 r7 v5 v6 r8 r9 r10 r11 v7 r12 r13 v8 v9 h1 r14 v10 v11 r15 v12 v13 r16 v14 w15 r17 v16 v17 r18 r19 r20 r21 r22 r23 v18 r24 r25 r26 v19 h1 g0 fn9)) [0, 1] (by decide) rfl
  have hKc := hK.sub (tys' := [(g0, .int)]) [0] rfl
  have hFc := va_free (wc := (wd_5013416a h0 v0 r0 v1 v2 v3 v4 r1 r2 r3 r4 r5 r6 r7 v5 v6 r8 r9 r10 r11 v7 r12 r13 v8 v9 h1 r14 v10 v11 r15 v12 v13 r16 v14 w15 r17 v16 v17 r18 r19 r20 r21 r22 r23 v18 r24 r25 r26 v19 h1 g0 fn9)) hD hS hA [0, 1] rfl
  refine va_callv (va_runV (As := [.int ra1, .int 2, .int v23]) (rest := []) ⟨hx, hb, hml, hown, hts⟩ (k_X12_set_7 l dC dI h0 h1 v0 r0 v1 v2 v3 v4 r1 r2 r3 r4 r5 r6 r7 v5 v6 r8 r9 r10 r11 v7 r12 r13 v8 v9 r14 v10 v11 r15 v12 v13 r16 v14 w15 r17 v16 v17 r18 r19 r20 r21 r22 r23 v18 r24 r25 r26 v19 g0 fn9 ra1 v23 ⟨i_v1a, i_v1b⟩ ⟨i_v5a, i_v5b⟩ ⟨i_v6a, i_v6b⟩ ⟨i_v7a, i_v7b⟩ ⟨i_v8a, i_v8b⟩ ⟨i_v9a, i_v9b⟩ ⟨i_v10a, i_v10b⟩ ⟨i_v14a, i_v14b⟩ ⟨i_v18a, i_v18b⟩ ⟨i_v19a, i_v19b⟩ ⟨by first | omega | decide, by first | omega | decide⟩ trivial H.size) (cwV 3 hts g_X12_leaveNow_3 rfl rfl rfl (by decide +kernel) ⟨Nat.le_of_ble_eq_true rfl, Nat.le_of_ble_eq_true rfl⟩) (pv_PV12 hPc hKc hDc (q0 := 0) rfl) rfl rfl hl.1 rfl (lv_room (Nat.le_of_ble_eq_true rfl)) dX12_leaveNow_27 ⟨Nat.le_of_ble_eq_true rfl, Nat.le_of_ble_eq_true rfl⟩) hS (fun q _ h => hFc q h) hFc (fun u t H1 locs ht hvm hwra10 hB hz1 hk1 hS => ?_)
  obtain ⟨hP1, hK1, hD1⟩ := hB
  rw [ht] at hP1
  obtain ⟨hP2, hD2⟩ := va_join (wr := []) (w1 := (wd_5013416a h0 v0 r0 v1 v2 v3 v4 r1 r2 r3 r4 r5 r6 r7 v5 v6 r8 r9 r10 r11 v7 r12 r13 v8 v9 h1 r14 v10 v11 r15 v12 v13 r16 v14 w15 r17 v16 v17 r18 r19 r20 r21 r22 r23 v18 r24 r25 r26 v19 h1 g0 (upd fn9 (pm_I ra1 2) v23))) hP hD [0, 1] [] rfl rfl (by decide) (by decide) hk1 hFc hP1 hD1
  clear hP hD hPc hDc hKc hFc hP1 hK1 hD1 hk1 hz1
  generalize H1 = H at hP2 hS ⊢
  have hP : va_P (dC, dI) vwCl (wd_5013416a h0 v0 r0 v1 v2 v3 v4 r1 r2 r3 r4 r5 r6 r7 v5 v6 r8 r9 r10 r11 v7 r12 r13 v8 v9 h1 r14 v10 v11 r15 v12 v13 r16 v14 w15 r17 v16 v17 r18 r19 r20 r21 r22 r23 v18 r24 r25 r26 v19 h1 g0 (upd fn9 (pm_I ra1 2) v23)) H := hP2
  have hD : va_D A (wd_5013416a h0 v0 r0 v1 v2 v3 v4 r1 r2 r3 r4 r5 r6 r7 v5 v6 r8 r9 r10 r11 v7 r12 r13 v8 v9 h1 r14 v10 v11 r15 v12 v13 r16 v14 w15 r17 v16 v17 r18 r19 r20 r21 r22 r23 v18 r24 r25 r26 v19 h1 g0 (upd fn9 (pm_I ra1 2) v23)) := hD2
  clear hP2 hD2
  obtain ⟨t11, et11⟩ : ∃ y : Int32, y = 8 * ra1 + 2 := ⟨_, rfl⟩
  have gt11 : t11.toInt = 8 * ra1.toInt + 2 := pm_i8 et11 rfl (by decide) (by omega) (by omega) (by omega) (by omega)
  obtain ⟨fn13, efn13⟩ : ∃ g : Nat → Int32, g = upd fn9 (Int32.toNatClampNeg t11) v23 := ⟨_, rfl⟩
  have e9 : (upd fn9 (pm_I ra1 2) v23) = fn13 := by rw [efn13, et11]; rfl
  rw [e9] at hP hD
  have ia_fn13 : pm_NWB ra1 fn13 := by rw [efn13]; exact pm_NWB.st ia_fn9 (z := t11.toInt) (y := v23.toInt) (by omega) (by omega) rfl rfl (by omega) (fun b9 h8 h9 => ⟨fun _ => ⟨by omega, by omega⟩, fun _ => ⟨by omega, by omega⟩⟩) (fun _ => ⟨by omega, by omega⟩) (fun b9 h8 h9 => ⟨fun _ => by omega, fun _ => by omega⟩)
  have hP : va_P (dC, dI) vwCl (wd_5013416a h0 v0 r0 v1 v2 v3 v4 r1 r2 r3 r4 r5 r6 r7 v5 v6 r8 r9 r10 r11 v7 r12 r13 v8 v9 h1 r14 v10 v11 r15 v12 v13 r16 v14 w15 r17 v16 v17 r18 r19 r20 r21 r22 r23 v18 r24 r25 r26 v19 h1 g0 fn13) H := hP
  have hD : va_D A (wd_5013416a h0 v0 r0 v1 v2 v3 v4 r1 r2 r3 r4 r5 r6 r7 v5 v6 r8 r9 r10 r11 v7 r12 r13 v8 v9 h1 r14 v10 v11 r15 v12 v13 r16 v14 w15 r17 v16 v17 r18 r19 r20 r21 r22 r23 v18 r24 r25 r26 v19 h1 g0 fn13) := hD
  refine lv_aload_n hx hb dX12_leaveNow_30 rfl (lv_at hl 1 rfl) ?_
  refine lv_iload hx hb dX12_leaveNow_31 (lv_at hl 0 rfl) ?_
  refine lv_iconst (v := 3) hx hb dX12_leaveNow_33 (by decide) ?_
  refine lv_iload hx hb dX12_leaveNow_34 (lv_at hl 5 rfl) ?_
  have hPc := hP.sub (ws' := (wd_5013416a h0 v0 r0 v1 v2 v3 v4 r1 r2 r3 r4 r5 r6 r7 v5 v6 r8 r9 r10 r11 v7 r12 r13 v8 v9 h1 r14 v10 v11 r15 v12 v13 r16 v14 w15 r17 v16 v17 r18 r19 r20 r21 r22 r23 v18 r24 r25 r26 v19 h1 g0 fn13)) [0, 1] rfl
  have hDc := hD.sub (ws' := (wd_5013416a h0 v0 r0 v1 v2 v3 v4 r1 r2 r3 r4 r5 r6 r7 v5 v6 r8 r9 r10 r11 v7 r12 r13 v8 v9 h1 r14 v10 v11 r15 v12 v13 r16 v14 w15 r17 v16 v17 r18 r19 r20 r21 r22 r23 v18 r24 r25 r26 v19 h1 g0 fn13)) [0, 1] (by decide) rfl
  have hKc := hK.sub (tys' := [(g0, .int)]) [0] rfl
  have hFc := va_free (wc := (wd_5013416a h0 v0 r0 v1 v2 v3 v4 r1 r2 r3 r4 r5 r6 r7 v5 v6 r8 r9 r10 r11 v7 r12 r13 v8 v9 h1 r14 v10 v11 r15 v12 v13 r16 v14 w15 r17 v16 v17 r18 r19 r20 r21 r22 r23 v18 r24 r25 r26 v19 h1 g0 fn13)) hD hS hA [0, 1] rfl
  refine va_callv (va_runV (As := [.int ra1, .int 3, .int v24]) (rest := []) ⟨hx, hb, hml, hown, hts⟩ (k_X12_set_1 l dC dI h0 h1 v0 r0 v1 v2 v3 v4 r1 r2 r3 r4 r5 r6 r7 v5 v6 r8 r9 r10 r11 v7 r12 r13 v8 v9 r14 v10 v11 r15 v12 v13 r16 v14 w15 r17 v16 v17 r18 r19 r20 r21 r22 r23 v18 r24 r25 r26 v19 g0 fn13 ra1 v24 ⟨i_v1a, i_v1b⟩ ⟨i_v5a, i_v5b⟩ ⟨i_v6a, i_v6b⟩ ⟨i_v7a, i_v7b⟩ ⟨i_v8a, i_v8b⟩ ⟨i_v9a, i_v9b⟩ ⟨i_v10a, i_v10b⟩ ⟨i_v14a, i_v14b⟩ ⟨i_v18a, i_v18b⟩ ⟨i_v19a, i_v19b⟩ ⟨by first | omega | decide, by first | omega | decide⟩ trivial H.size) (cwV 3 hts g_X12_leaveNow_4 rfl rfl rfl (by decide +kernel) ⟨Nat.le_of_ble_eq_true rfl, Nat.le_of_ble_eq_true rfl⟩) (pv_PV12 hPc hKc hDc (q0 := 0) rfl) rfl rfl hl.1 rfl (lv_room (Nat.le_of_ble_eq_true rfl)) dX12_leaveNow_36 ⟨Nat.le_of_ble_eq_true rfl, Nat.le_of_ble_eq_true rfl⟩) hS (fun q _ h => hFc q h) hFc (fun u t H1 locs ht hvm hwra14 hB hz1 hk1 hS => ?_)
  obtain ⟨hP1, hK1, hD1⟩ := hB
  rw [ht] at hP1
  obtain ⟨hP2, hD2⟩ := va_join (wr := []) (w1 := (wd_5013416a h0 v0 r0 v1 v2 v3 v4 r1 r2 r3 r4 r5 r6 r7 v5 v6 r8 r9 r10 r11 v7 r12 r13 v8 v9 h1 r14 v10 v11 r15 v12 v13 r16 v14 w15 r17 v16 v17 r18 r19 r20 r21 r22 r23 v18 r24 r25 r26 v19 h1 g0 (upd fn13 (pm_I ra1 3) v24))) hP hD [0, 1] [] rfl rfl (by decide) (by decide) hk1 hFc hP1 hD1
  clear hP hD hPc hDc hKc hFc hP1 hK1 hD1 hk1 hz1
  generalize H1 = H at hP2 hS ⊢
  have hP : va_P (dC, dI) vwCl (wd_5013416a h0 v0 r0 v1 v2 v3 v4 r1 r2 r3 r4 r5 r6 r7 v5 v6 r8 r9 r10 r11 v7 r12 r13 v8 v9 h1 r14 v10 v11 r15 v12 v13 r16 v14 w15 r17 v16 v17 r18 r19 r20 r21 r22 r23 v18 r24 r25 r26 v19 h1 g0 (upd fn13 (pm_I ra1 3) v24)) H := hP2
  have hD : va_D A (wd_5013416a h0 v0 r0 v1 v2 v3 v4 r1 r2 r3 r4 r5 r6 r7 v5 v6 r8 r9 r10 r11 v7 r12 r13 v8 v9 h1 r14 v10 v11 r15 v12 v13 r16 v14 w15 r17 v16 v17 r18 r19 r20 r21 r22 r23 v18 r24 r25 r26 v19 h1 g0 (upd fn13 (pm_I ra1 3) v24)) := hD2
  clear hP2 hD2
  obtain ⟨t15, et15⟩ : ∃ y : Int32, y = 8 * ra1 + 3 := ⟨_, rfl⟩
  have gt15 : t15.toInt = 8 * ra1.toInt + 3 := pm_i8 et15 rfl (by decide) (by omega) (by omega) (by omega) (by omega)
  obtain ⟨fn17, efn17⟩ : ∃ g : Nat → Int32, g = upd fn13 (Int32.toNatClampNeg t15) v24 := ⟨_, rfl⟩
  have e9 : (upd fn13 (pm_I ra1 3) v24) = fn17 := by rw [efn17, et15]; rfl
  rw [e9] at hP hD
  have ia_fn17 : pm_NWB ra1 fn17 := by rw [efn17]; exact pm_NWB.st ia_fn13 (z := t15.toInt) (y := v24.toInt) (by omega) (by omega) rfl rfl (by omega) (fun b9 h8 h9 => ⟨fun _ => ⟨by omega, by omega⟩, fun _ => ⟨by omega, by omega⟩⟩) (fun _ => ⟨by omega, by omega⟩) (fun b9 h8 h9 => ⟨fun _ => by omega, fun _ => by omega⟩)
  have hP : va_P (dC, dI) vwCl (wd_5013416a h0 v0 r0 v1 v2 v3 v4 r1 r2 r3 r4 r5 r6 r7 v5 v6 r8 r9 r10 r11 v7 r12 r13 v8 v9 h1 r14 v10 v11 r15 v12 v13 r16 v14 w15 r17 v16 v17 r18 r19 r20 r21 r22 r23 v18 r24 r25 r26 v19 h1 g0 fn17) H := hP
  have hD : va_D A (wd_5013416a h0 v0 r0 v1 v2 v3 v4 r1 r2 r3 r4 r5 r6 r7 v5 v6 r8 r9 r10 r11 v7 r12 r13 v8 v9 h1 r14 v10 v11 r15 v12 v13 r16 v14 w15 r17 v16 v17 r18 r19 r20 r21 r22 r23 v18 r24 r25 r26 v19 h1 g0 fn17) := hD
  refine lv_aload_n hx hb dX12_leaveNow_39 rfl (lv_at hl 1 rfl) ?_
  refine lv_iload hx hb dX12_leaveNow_40 (lv_at hl 0 rfl) ?_
  refine lv_iconst (v := 4) hx hb dX12_leaveNow_42 (by decide) ?_
  refine lv_iconst (v := 0) hx hb dX12_leaveNow_43 (by decide) ?_
  have hPc := hP.sub (ws' := (wd_5013416a h0 v0 r0 v1 v2 v3 v4 r1 r2 r3 r4 r5 r6 r7 v5 v6 r8 r9 r10 r11 v7 r12 r13 v8 v9 h1 r14 v10 v11 r15 v12 v13 r16 v14 w15 r17 v16 v17 r18 r19 r20 r21 r22 r23 v18 r24 r25 r26 v19 h1 g0 fn17)) [0, 1] rfl
  have hDc := hD.sub (ws' := (wd_5013416a h0 v0 r0 v1 v2 v3 v4 r1 r2 r3 r4 r5 r6 r7 v5 v6 r8 r9 r10 r11 v7 r12 r13 v8 v9 h1 r14 v10 v11 r15 v12 v13 r16 v14 w15 r17 v16 v17 r18 r19 r20 r21 r22 r23 v18 r24 r25 r26 v19 h1 g0 fn17)) [0, 1] (by decide) rfl
  have hKc := hK.sub (tys' := [(g0, .int)]) [0] rfl
  have hFc := va_free (wc := (wd_5013416a h0 v0 r0 v1 v2 v3 v4 r1 r2 r3 r4 r5 r6 r7 v5 v6 r8 r9 r10 r11 v7 r12 r13 v8 v9 h1 r14 v10 v11 r15 v12 v13 r16 v14 w15 r17 v16 v17 r18 r19 r20 r21 r22 r23 v18 r24 r25 r26 v19 h1 g0 fn17)) hD hS hA [0, 1] rfl
  refine va_callv (va_runV (As := [.int ra1, .int 4, .int 0]) (rest := []) ⟨hx, hb, hml, hown, hts⟩ (k_X12_set_3 l dC dI h0 h1 v0 r0 v1 v2 v3 v4 r1 r2 r3 r4 r5 r6 r7 v5 v6 r8 r9 r10 r11 v7 r12 r13 v8 v9 r14 v10 v11 r15 v12 v13 r16 v14 w15 r17 v16 v17 r18 r19 r20 r21 r22 r23 v18 r24 r25 r26 v19 g0 fn17 ra1 0 ⟨i_v1a, i_v1b⟩ ⟨i_v5a, i_v5b⟩ ⟨i_v6a, i_v6b⟩ ⟨i_v7a, i_v7b⟩ ⟨i_v8a, i_v8b⟩ ⟨i_v9a, i_v9b⟩ ⟨i_v10a, i_v10b⟩ ⟨i_v14a, i_v14b⟩ ⟨i_v18a, i_v18b⟩ ⟨i_v19a, i_v19b⟩ ⟨by first | omega | decide, by first | omega | decide⟩ trivial H.size) (cwV 3 hts g_X12_leaveNow_5 rfl rfl rfl (by decide +kernel) ⟨Nat.le_of_ble_eq_true rfl, Nat.le_of_ble_eq_true rfl⟩) (pv_PV12 hPc hKc hDc (q0 := 0) rfl) rfl rfl hl.1 rfl (lv_room (Nat.le_of_ble_eq_true rfl)) dX12_leaveNow_44 ⟨Nat.le_of_ble_eq_true rfl, Nat.le_of_ble_eq_true rfl⟩) hS (fun q _ h => hFc q h) hFc (fun u t H1 locs ht hvm hwra18 hB hz1 hk1 hS => ?_)
  obtain ⟨hP1, hK1, hD1⟩ := hB
  rw [ht] at hP1
  obtain ⟨hP2, hD2⟩ := va_join (wr := []) (w1 := (wd_5013416a h0 v0 r0 v1 v2 v3 v4 r1 r2 r3 r4 r5 r6 r7 v5 v6 r8 r9 r10 r11 v7 r12 r13 v8 v9 h1 r14 v10 v11 r15 v12 v13 r16 v14 w15 r17 v16 v17 r18 r19 r20 r21 r22 r23 v18 r24 r25 r26 v19 h1 g0 (upd fn17 (pm_I ra1 4) 0))) hP hD [0, 1] [] rfl rfl (by decide) (by decide) hk1 hFc hP1 hD1
  clear hP hD hPc hDc hKc hFc hP1 hK1 hD1 hk1 hz1
  generalize H1 = H at hP2 hS ⊢
  have hP : va_P (dC, dI) vwCl (wd_5013416a h0 v0 r0 v1 v2 v3 v4 r1 r2 r3 r4 r5 r6 r7 v5 v6 r8 r9 r10 r11 v7 r12 r13 v8 v9 h1 r14 v10 v11 r15 v12 v13 r16 v14 w15 r17 v16 v17 r18 r19 r20 r21 r22 r23 v18 r24 r25 r26 v19 h1 g0 (upd fn17 (pm_I ra1 4) 0)) H := hP2
  have hD : va_D A (wd_5013416a h0 v0 r0 v1 v2 v3 v4 r1 r2 r3 r4 r5 r6 r7 v5 v6 r8 r9 r10 r11 v7 r12 r13 v8 v9 h1 r14 v10 v11 r15 v12 v13 r16 v14 w15 r17 v16 v17 r18 r19 r20 r21 r22 r23 v18 r24 r25 r26 v19 h1 g0 (upd fn17 (pm_I ra1 4) 0)) := hD2
  clear hP2 hD2
  obtain ⟨t19, et19⟩ : ∃ y : Int32, y = 8 * ra1 + 4 := ⟨_, rfl⟩
  have gt19 : t19.toInt = 8 * ra1.toInt + 4 := pm_i8 et19 rfl (by decide) (by omega) (by omega) (by omega) (by omega)
  obtain ⟨fn21, efn21⟩ : ∃ g : Nat → Int32, g = upd fn17 (Int32.toNatClampNeg t19) 0 := ⟨_, rfl⟩
  have e9 : (upd fn17 (pm_I ra1 4) 0) = fn21 := by rw [efn21, et19]; rfl
  rw [e9] at hP hD
  have ia_fn21 : pm_NWB ra1 fn21 := by rw [efn21]; exact pm_NWB.st ia_fn17 (z := t19.toInt) (y := 0) (by omega) (by omega) rfl (by decide) (by omega) (fun b9 h8 h9 => ⟨fun _ => ⟨by omega, by omega⟩, fun _ => ⟨by omega, by omega⟩⟩) (fun _ => ⟨by omega, by omega⟩) (fun b9 h8 h9 => ⟨fun _ => by omega, fun _ => by omega⟩)
  have hP : va_P (dC, dI) vwCl (wd_5013416a h0 v0 r0 v1 v2 v3 v4 r1 r2 r3 r4 r5 r6 r7 v5 v6 r8 r9 r10 r11 v7 r12 r13 v8 v9 h1 r14 v10 v11 r15 v12 v13 r16 v14 w15 r17 v16 v17 r18 r19 r20 r21 r22 r23 v18 r24 r25 r26 v19 h1 g0 fn21) H := hP
  have hD : va_D A (wd_5013416a h0 v0 r0 v1 v2 v3 v4 r1 r2 r3 r4 r5 r6 r7 v5 v6 r8 r9 r10 r11 v7 r12 r13 v8 v9 h1 r14 v10 v11 r15 v12 v13 r16 v14 w15 r17 v16 v17 r18 r19 r20 r21 r22 r23 v18 r24 r25 r26 v19 h1 g0 fn21) := hD
  refine lv_aload_n hx hb dX12_leaveNow_47 rfl (lv_at hl 1 rfl) ?_
  refine lv_iload hx hb dX12_leaveNow_48 (lv_at hl 0 rfl) ?_
  refine lv_iconst (v := 5) hx hb dX12_leaveNow_50 (by decide) ?_
  refine lv_iconst (v := 0) hx hb dX12_leaveNow_51 (by decide) ?_
  have hPc := hP.sub (ws' := (wd_5013416a h0 v0 r0 v1 v2 v3 v4 r1 r2 r3 r4 r5 r6 r7 v5 v6 r8 r9 r10 r11 v7 r12 r13 v8 v9 h1 r14 v10 v11 r15 v12 v13 r16 v14 w15 r17 v16 v17 r18 r19 r20 r21 r22 r23 v18 r24 r25 r26 v19 h1 g0 fn21)) [0, 1] rfl
  have hDc := hD.sub (ws' := (wd_5013416a h0 v0 r0 v1 v2 v3 v4 r1 r2 r3 r4 r5 r6 r7 v5 v6 r8 r9 r10 r11 v7 r12 r13 v8 v9 h1 r14 v10 v11 r15 v12 v13 r16 v14 w15 r17 v16 v17 r18 r19 r20 r21 r22 r23 v18 r24 r25 r26 v19 h1 g0 fn21)) [0, 1] (by decide) rfl
  have hKc := hK.sub (tys' := [(g0, .int)]) [0] rfl
  have hFc := va_free (wc := (wd_5013416a h0 v0 r0 v1 v2 v3 v4 r1 r2 r3 r4 r5 r6 r7 v5 v6 r8 r9 r10 r11 v7 r12 r13 v8 v9 h1 r14 v10 v11 r15 v12 v13 r16 v14 w15 r17 v16 v17 r18 r19 r20 r21 r22 r23 v18 r24 r25 r26 v19 h1 g0 fn21)) hD hS hA [0, 1] rfl
  refine va_callv (va_runV (As := [.int ra1, .int 5, .int 0]) (rest := []) ⟨hx, hb, hml, hown, hts⟩ (k_X12_set_5 l dC dI h0 h1 v0 r0 v1 v2 v3 v4 r1 r2 r3 r4 r5 r6 r7 v5 v6 r8 r9 r10 r11 v7 r12 r13 v8 v9 r14 v10 v11 r15 v12 v13 r16 v14 w15 r17 v16 v17 r18 r19 r20 r21 r22 r23 v18 r24 r25 r26 v19 g0 fn21 ra1 0 ⟨i_v1a, i_v1b⟩ ⟨i_v5a, i_v5b⟩ ⟨i_v6a, i_v6b⟩ ⟨i_v7a, i_v7b⟩ ⟨i_v8a, i_v8b⟩ ⟨i_v9a, i_v9b⟩ ⟨i_v10a, i_v10b⟩ ⟨i_v14a, i_v14b⟩ ⟨i_v18a, i_v18b⟩ ⟨i_v19a, i_v19b⟩ ⟨by first | omega | decide, by first | omega | decide⟩ trivial H.size) (cwV 3 hts g_X12_leaveNow_6 rfl rfl rfl (by decide +kernel) ⟨Nat.le_of_ble_eq_true rfl, Nat.le_of_ble_eq_true rfl⟩) (pv_PV12 hPc hKc hDc (q0 := 0) rfl) rfl rfl hl.1 rfl (lv_room (Nat.le_of_ble_eq_true rfl)) dX12_leaveNow_52 ⟨Nat.le_of_ble_eq_true rfl, Nat.le_of_ble_eq_true rfl⟩) hS (fun q _ h => hFc q h) hFc (fun u t H1 locs ht hvm hwra22 hB hz1 hk1 hS => ?_)
  obtain ⟨hP1, hK1, hD1⟩ := hB
  rw [ht] at hP1
  obtain ⟨hP2, hD2⟩ := va_join (wr := []) (w1 := (wd_5013416a h0 v0 r0 v1 v2 v3 v4 r1 r2 r3 r4 r5 r6 r7 v5 v6 r8 r9 r10 r11 v7 r12 r13 v8 v9 h1 r14 v10 v11 r15 v12 v13 r16 v14 w15 r17 v16 v17 r18 r19 r20 r21 r22 r23 v18 r24 r25 r26 v19 h1 g0 (upd fn21 (pm_I ra1 5) 0))) hP hD [0, 1] [] rfl rfl (by decide) (by decide) hk1 hFc hP1 hD1
  clear hP hD hPc hDc hKc hFc hP1 hK1 hD1 hk1 hz1
  generalize H1 = H at hP2 hS ⊢
  have hP : va_P (dC, dI) vwCl (wd_5013416a h0 v0 r0 v1 v2 v3 v4 r1 r2 r3 r4 r5 r6 r7 v5 v6 r8 r9 r10 r11 v7 r12 r13 v8 v9 h1 r14 v10 v11 r15 v12 v13 r16 v14 w15 r17 v16 v17 r18 r19 r20 r21 r22 r23 v18 r24 r25 r26 v19 h1 g0 (upd fn21 (pm_I ra1 5) 0)) H := hP2
  have hD : va_D A (wd_5013416a h0 v0 r0 v1 v2 v3 v4 r1 r2 r3 r4 r5 r6 r7 v5 v6 r8 r9 r10 r11 v7 r12 r13 v8 v9 h1 r14 v10 v11 r15 v12 v13 r16 v14 w15 r17 v16 v17 r18 r19 r20 r21 r22 r23 v18 r24 r25 r26 v19 h1 g0 (upd fn21 (pm_I ra1 5) 0)) := hD2
  clear hP2 hD2
  obtain ⟨t23, et23⟩ : ∃ y : Int32, y = 8 * ra1 + 5 := ⟨_, rfl⟩
  have gt23 : t23.toInt = 8 * ra1.toInt + 5 := pm_i8 et23 rfl (by decide) (by omega) (by omega) (by omega) (by omega)
  obtain ⟨fn25, efn25⟩ : ∃ g : Nat → Int32, g = upd fn21 (Int32.toNatClampNeg t23) 0 := ⟨_, rfl⟩
  have e9 : (upd fn21 (pm_I ra1 5) 0) = fn25 := by rw [efn25, et23]; rfl
  rw [e9] at hP hD
  have ia_fn25 : pm_NWB ra1 fn25 := by rw [efn25]; exact pm_NWB.st ia_fn21 (z := t23.toInt) (y := 0) (by omega) (by omega) rfl (by decide) (by omega) (fun b9 h8 h9 => ⟨fun _ => ⟨by omega, by omega⟩, fun _ => ⟨by omega, by omega⟩⟩) (fun _ => ⟨by omega, by omega⟩) (fun b9 h8 h9 => ⟨fun _ => by omega, fun _ => by omega⟩)
  have hP : va_P (dC, dI) vwCl (wd_5013416a h0 v0 r0 v1 v2 v3 v4 r1 r2 r3 r4 r5 r6 r7 v5 v6 r8 r9 r10 r11 v7 r12 r13 v8 v9 h1 r14 v10 v11 r15 v12 v13 r16 v14 w15 r17 v16 v17 r18 r19 r20 r21 r22 r23 v18 r24 r25 r26 v19 h1 g0 fn25) H := hP
  have hD : va_D A (wd_5013416a h0 v0 r0 v1 v2 v3 v4 r1 r2 r3 r4 r5 r6 r7 v5 v6 r8 r9 r10 r11 v7 r12 r13 v8 v9 h1 r14 v10 v11 r15 v12 v13 r16 v14 w15 r17 v16 v17 r18 r19 r20 r21 r22 r23 v18 r24 r25 r26 v19 h1 g0 fn25) := hD
  refine lv_aload_n hx hb dX12_leaveNow_55 rfl (lv_at hl 1 rfl) ?_
  refine lv_iload hx hb dX12_leaveNow_56 (lv_at hl 0 rfl) ?_
  refine lv_bipush (v := 6) hx hb dX12_leaveNow_58 (by decide) ?_
  refine lv_iconst (v := 0) hx hb dX12_leaveNow_60 (by decide) ?_
  have hPc := hP.sub (ws' := (wd_5013416a h0 v0 r0 v1 v2 v3 v4 r1 r2 r3 r4 r5 r6 r7 v5 v6 r8 r9 r10 r11 v7 r12 r13 v8 v9 h1 r14 v10 v11 r15 v12 v13 r16 v14 w15 r17 v16 v17 r18 r19 r20 r21 r22 r23 v18 r24 r25 r26 v19 h1 g0 fn25)) [0, 1] rfl
  have hDc := hD.sub (ws' := (wd_5013416a h0 v0 r0 v1 v2 v3 v4 r1 r2 r3 r4 r5 r6 r7 v5 v6 r8 r9 r10 r11 v7 r12 r13 v8 v9 h1 r14 v10 v11 r15 v12 v13 r16 v14 w15 r17 v16 v17 r18 r19 r20 r21 r22 r23 v18 r24 r25 r26 v19 h1 g0 fn25)) [0, 1] (by decide) rfl
  have hKc := hK.sub (tys' := [(g0, .int)]) [0] rfl
  have hFc := va_free (wc := (wd_5013416a h0 v0 r0 v1 v2 v3 v4 r1 r2 r3 r4 r5 r6 r7 v5 v6 r8 r9 r10 r11 v7 r12 r13 v8 v9 h1 r14 v10 v11 r15 v12 v13 r16 v14 w15 r17 v16 v17 r18 r19 r20 r21 r22 r23 v18 r24 r25 r26 v19 h1 g0 fn25)) hD hS hA [0, 1] rfl
  refine va_callv (va_runV (As := [.int ra1, .int 6, .int 0]) (rest := []) ⟨hx, hb, hml, hown, hts⟩ (k_X12_set_4 l dC dI h0 h1 v0 r0 v1 v2 v3 v4 r1 r2 r3 r4 r5 r6 r7 v5 v6 r8 r9 r10 r11 v7 r12 r13 v8 v9 r14 v10 v11 r15 v12 v13 r16 v14 w15 r17 v16 v17 r18 r19 r20 r21 r22 r23 v18 r24 r25 r26 v19 g0 fn25 ra1 0 ⟨i_v1a, i_v1b⟩ ⟨i_v5a, i_v5b⟩ ⟨i_v6a, i_v6b⟩ ⟨i_v7a, i_v7b⟩ ⟨i_v8a, i_v8b⟩ ⟨i_v9a, i_v9b⟩ ⟨i_v10a, i_v10b⟩ ⟨i_v14a, i_v14b⟩ ⟨i_v18a, i_v18b⟩ ⟨i_v19a, i_v19b⟩ ⟨by first | omega | decide, by first | omega | decide⟩ trivial H.size) (cwV 3 hts g_X12_leaveNow_7 rfl rfl rfl (by decide +kernel) ⟨Nat.le_of_ble_eq_true rfl, Nat.le_of_ble_eq_true rfl⟩) (pv_PV12 hPc hKc hDc (q0 := 0) rfl) rfl rfl hl.1 rfl (lv_room (Nat.le_of_ble_eq_true rfl)) dX12_leaveNow_61 ⟨Nat.le_of_ble_eq_true rfl, Nat.le_of_ble_eq_true rfl⟩) hS (fun q _ h => hFc q h) hFc (fun u t H1 locs ht hvm hwra26 hB hz1 hk1 hS => ?_)
  obtain ⟨hP1, hK1, hD1⟩ := hB
  rw [ht] at hP1
  obtain ⟨hP2, hD2⟩ := va_join (wr := []) (w1 := (wd_5013416a h0 v0 r0 v1 v2 v3 v4 r1 r2 r3 r4 r5 r6 r7 v5 v6 r8 r9 r10 r11 v7 r12 r13 v8 v9 h1 r14 v10 v11 r15 v12 v13 r16 v14 w15 r17 v16 v17 r18 r19 r20 r21 r22 r23 v18 r24 r25 r26 v19 h1 g0 (upd fn25 (pm_I ra1 6) 0))) hP hD [0, 1] [] rfl rfl (by decide) (by decide) hk1 hFc hP1 hD1
  clear hP hD hPc hDc hKc hFc hP1 hK1 hD1 hk1 hz1
  generalize H1 = H at hP2 hS ⊢
  have hP : va_P (dC, dI) vwCl (wd_5013416a h0 v0 r0 v1 v2 v3 v4 r1 r2 r3 r4 r5 r6 r7 v5 v6 r8 r9 r10 r11 v7 r12 r13 v8 v9 h1 r14 v10 v11 r15 v12 v13 r16 v14 w15 r17 v16 v17 r18 r19 r20 r21 r22 r23 v18 r24 r25 r26 v19 h1 g0 (upd fn25 (pm_I ra1 6) 0)) H := hP2
  have hD : va_D A (wd_5013416a h0 v0 r0 v1 v2 v3 v4 r1 r2 r3 r4 r5 r6 r7 v5 v6 r8 r9 r10 r11 v7 r12 r13 v8 v9 h1 r14 v10 v11 r15 v12 v13 r16 v14 w15 r17 v16 v17 r18 r19 r20 r21 r22 r23 v18 r24 r25 r26 v19 h1 g0 (upd fn25 (pm_I ra1 6) 0)) := hD2
  clear hP2 hD2
  obtain ⟨t27, et27⟩ : ∃ y : Int32, y = 8 * ra1 + 6 := ⟨_, rfl⟩
  have gt27 : t27.toInt = 8 * ra1.toInt + 6 := pm_i8 et27 rfl (by decide) (by omega) (by omega) (by omega) (by omega)
  obtain ⟨fn29, efn29⟩ : ∃ g : Nat → Int32, g = upd fn25 (Int32.toNatClampNeg t27) 0 := ⟨_, rfl⟩
  have e9 : (upd fn25 (pm_I ra1 6) 0) = fn29 := by rw [efn29, et27]; rfl
  rw [e9] at hP hD
  have ia_fn29 : pm_NWB ra1 fn29 := by rw [efn29]; exact pm_NWB.st ia_fn25 (z := t27.toInt) (y := 0) (by omega) (by omega) rfl (by decide) (by omega) (fun b9 h8 h9 => ⟨fun _ => ⟨by omega, by omega⟩, fun _ => ⟨by omega, by omega⟩⟩) (fun _ => ⟨by omega, by omega⟩) (fun b9 h8 h9 => ⟨fun _ => by omega, fun _ => by omega⟩)
  have hP : va_P (dC, dI) vwCl (wd_5013416a h0 v0 r0 v1 v2 v3 v4 r1 r2 r3 r4 r5 r6 r7 v5 v6 r8 r9 r10 r11 v7 r12 r13 v8 v9 h1 r14 v10 v11 r15 v12 v13 r16 v14 w15 r17 v16 v17 r18 r19 r20 r21 r22 r23 v18 r24 r25 r26 v19 h1 g0 fn29) H := hP
  have hD : va_D A (wd_5013416a h0 v0 r0 v1 v2 v3 v4 r1 r2 r3 r4 r5 r6 r7 v5 v6 r8 r9 r10 r11 v7 r12 r13 v8 v9 h1 r14 v10 v11 r15 v12 v13 r16 v14 w15 r17 v16 v17 r18 r19 r20 r21 r22 r23 v18 r24 r25 r26 v19 h1 g0 fn29) := hD
  refine lv_aload_n hx hb dX12_leaveNow_64 rfl (lv_at hl 1 rfl) ?_
  refine lv_iload hx hb dX12_leaveNow_65 (lv_at hl 0 rfl) ?_
  refine lv_bipush (v := 7) hx hb dX12_leaveNow_67 (by decide) ?_
  refine lv_iconst (v := 1) hx hb dX12_leaveNow_69 (by decide) ?_
  have hPc := hP.sub (ws' := (wd_5013416a h0 v0 r0 v1 v2 v3 v4 r1 r2 r3 r4 r5 r6 r7 v5 v6 r8 r9 r10 r11 v7 r12 r13 v8 v9 h1 r14 v10 v11 r15 v12 v13 r16 v14 w15 r17 v16 v17 r18 r19 r20 r21 r22 r23 v18 r24 r25 r26 v19 h1 g0 fn29)) [0, 1] rfl
  have hDc := hD.sub (ws' := (wd_5013416a h0 v0 r0 v1 v2 v3 v4 r1 r2 r3 r4 r5 r6 r7 v5 v6 r8 r9 r10 r11 v7 r12 r13 v8 v9 h1 r14 v10 v11 r15 v12 v13 r16 v14 w15 r17 v16 v17 r18 r19 r20 r21 r22 r23 v18 r24 r25 r26 v19 h1 g0 fn29)) [0, 1] (by decide) rfl
  have hKc := hK.sub (tys' := [(g0, .int)]) [0] rfl
  have hFc := va_free (wc := (wd_5013416a h0 v0 r0 v1 v2 v3 v4 r1 r2 r3 r4 r5 r6 r7 v5 v6 r8 r9 r10 r11 v7 r12 r13 v8 v9 h1 r14 v10 v11 r15 v12 v13 r16 v14 w15 r17 v16 v17 r18 r19 r20 r21 r22 r23 v18 r24 r25 r26 v19 h1 g0 fn29)) hD hS hA [0, 1] rfl
  refine va_callv (va_runV (As := [.int ra1, .int 7, .int 1]) (rest := []) ⟨hx, hb, hml, hown, hts⟩ (k_X12_set l dC dI h0 h1 v0 r0 v1 v2 v3 v4 r1 r2 r3 r4 r5 r6 r7 v5 v6 r8 r9 r10 r11 v7 r12 r13 v8 v9 r14 v10 v11 r15 v12 v13 r16 v14 w15 r17 v16 v17 r18 r19 r20 r21 r22 r23 v18 r24 r25 r26 v19 g0 fn29 ra1 1 ⟨i_v1a, i_v1b⟩ ⟨i_v5a, i_v5b⟩ ⟨i_v6a, i_v6b⟩ ⟨i_v7a, i_v7b⟩ ⟨i_v8a, i_v8b⟩ ⟨i_v9a, i_v9b⟩ ⟨i_v10a, i_v10b⟩ ⟨i_v14a, i_v14b⟩ ⟨i_v18a, i_v18b⟩ ⟨i_v19a, i_v19b⟩ ⟨by first | omega | decide, by first | omega | decide⟩ trivial H.size) (cwV 3 hts g_X12_leaveNow_8 rfl rfl rfl (by decide +kernel) ⟨Nat.le_of_ble_eq_true rfl, Nat.le_of_ble_eq_true rfl⟩) (pv_PV12 hPc hKc hDc (q0 := 0) rfl) rfl rfl hl.1 rfl (lv_room (Nat.le_of_ble_eq_true rfl)) dX12_leaveNow_70 ⟨Nat.le_of_ble_eq_true rfl, Nat.le_of_ble_eq_true rfl⟩) hS (fun q _ h => hFc q h) hFc (fun u t H1 locs ht hvm hwra30 hB hz1 hk1 hS => ?_)
  obtain ⟨hP1, hK1, hD1⟩ := hB
  rw [ht] at hP1
  obtain ⟨hP2, hD2⟩ := va_join (wr := []) (w1 := (wd_5013416a h0 v0 r0 v1 v2 v3 v4 r1 r2 r3 r4 r5 r6 r7 v5 v6 r8 r9 r10 r11 v7 r12 r13 v8 v9 h1 r14 v10 v11 r15 v12 v13 r16 v14 w15 r17 v16 v17 r18 r19 r20 r21 r22 r23 v18 r24 r25 r26 v19 h1 g0 (upd fn29 (pm_I ra1 7) 1))) hP hD [0, 1] [] rfl rfl (by decide) (by decide) hk1 hFc hP1 hD1
  clear hP hD hPc hDc hKc hFc hP1 hK1 hD1 hk1 hz1
  generalize H1 = H at hP2 hS ⊢
  have hP : va_P (dC, dI) vwCl (wd_5013416a h0 v0 r0 v1 v2 v3 v4 r1 r2 r3 r4 r5 r6 r7 v5 v6 r8 r9 r10 r11 v7 r12 r13 v8 v9 h1 r14 v10 v11 r15 v12 v13 r16 v14 w15 r17 v16 v17 r18 r19 r20 r21 r22 r23 v18 r24 r25 r26 v19 h1 g0 (upd fn29 (pm_I ra1 7) 1)) H := hP2
  have hD : va_D A (wd_5013416a h0 v0 r0 v1 v2 v3 v4 r1 r2 r3 r4 r5 r6 r7 v5 v6 r8 r9 r10 r11 v7 r12 r13 v8 v9 h1 r14 v10 v11 r15 v12 v13 r16 v14 w15 r17 v16 v17 r18 r19 r20 r21 r22 r23 v18 r24 r25 r26 v19 h1 g0 (upd fn29 (pm_I ra1 7) 1)) := hD2
  clear hP2 hD2
  obtain ⟨t31, et31⟩ : ∃ y : Int32, y = 8 * ra1 + 7 := ⟨_, rfl⟩
  have gt31 : t31.toInt = 8 * ra1.toInt + 7 := pm_i8 et31 rfl (by decide) (by omega) (by omega) (by omega) (by omega)
  obtain ⟨fn33, efn33⟩ : ∃ g : Nat → Int32, g = upd fn29 (Int32.toNatClampNeg t31) 1 := ⟨_, rfl⟩
  have e9 : (upd fn29 (pm_I ra1 7) 1) = fn33 := by rw [efn33, et31]; rfl
  rw [e9] at hP hD
  have ia_fn33 : pm_NW fn33 := by rw [efn33]; exact pm_NWB.on ia_fn29 (by omega) (by omega) (by omega)
  have hP : va_P (dC, dI) vwCl (wd_5013416a h0 v0 r0 v1 v2 v3 v4 r1 r2 r3 r4 r5 r6 r7 v5 v6 r8 r9 r10 r11 v7 r12 r13 v8 v9 h1 r14 v10 v11 r15 v12 v13 r16 v14 w15 r17 v16 v17 r18 r19 r20 r21 r22 r23 v18 r24 r25 r26 v19 h1 g0 fn33) H := hP
  have hD : va_D A (wd_5013416a h0 v0 r0 v1 v2 v3 v4 r1 r2 r3 r4 r5 r6 r7 v5 v6 r8 r9 r10 r11 v7 r12 r13 v8 v9 h1 r14 v10 v11 r15 v12 v13 r16 v14 w15 r17 v16 v17 r18 r19 r20 r21 r22 r23 v18 r24 r25 r26 v19 h1 g0 fn33) := hD
  refine lv_iload hx hb dX12_leaveNow_73 (lv_at hl 0 rfl) ?_
  subst hQ
  have hP9 := hP.sub (ws' := (wd_5013416a h0 v0 r0 v1 v2 v3 v4 r1 r2 r3 r4 r5 r6 r7 v5 v6 r8 r9 r10 r11 v7 r12 r13 v8 v9 h1 r14 v10 v11 r15 v12 v13 r16 v14 w15 r17 v16 v17 r18 r19 r20 r21 r22 r23 v18 r24 r25 r26 v19 h1 g0 fn33)) [0, 1] rfl
  have hD9 := hD.sub (ws' := (wd_5013416a h0 v0 r0 v1 v2 v3 v4 r1 r2 r3 r4 r5 r6 r7 v5 v6 r8 r9 r10 r11 v7 r12 r13 v8 v9 h1 r14 v10 v11 r15 v12 v13 r16 v14 w15 r17 v16 v17 r18 r19 r20 r21 r22 r23 v18 r24 r25 r26 v19 h1 g0 fn33)) [0, 1] (by decide) rfl
  have hK9 := hK.sub (tys' := []) [] rfl
  exact W.iret (v := ra1) hx hb hr (fun t ht hW => ⟨⟨ra1, ra1, rfl, rfl, ⟨fn33, ia_fn33, by first | omega | decide, by first | omega | decide, by rw [ht]; exact hP9, va_K.moved hW.alike hK9, hD9⟩⟩, hS.F ht⟩) hS.2.2 dX12_leaveNow_75
def q_X12_callNow : List Cond := .code yX12_callNow cX12_callNow 3 (some .int) :: (([.fieldLink RX12 46 "LeftArgumentsModel" "rule" "[I", .code yX12_of cX12_of 3 (some .int), .fieldLink RX12 52 "LeftArgumentsModel" "now" "[I", .initialized RX12, .instanceMethod yX12_of, .selects RX12 yX12_of yX12_of, .methodLink RX12 287 yX12_of, .methodLink RX12 299 Lib.Math.min.name, .static Lib.Math.min.name, .initialized "java/lang/Math", .code Lib.Math.min.name Lib.Math.min.code 2 (some .int), .code yX12_set cX12_set 4 none, .instanceMethod yX12_set, .selects RX12 yX12_set yX12_set, .methodLink RX12 258 yX12_set] : List Cond) ++ wsX120)
set_option maxRecDepth 20000 in
theorem g_X12_callNow_0 : GoodIn q_X12_callNow (wsV RX12 287 RX12 yX12_of q_X12_of_5) := goodIn_app (goodIn_r _ [7, 5, 6, 4] rfl (by decide +kernel)) (goodIn_ca (goodIn_r (.code yX12_of cX12_of 3 (some .int) :: [.fieldLink RX12 52 "LeftArgumentsModel" "now" "[I"]) [2, 3] rfl (by decide +kernel)) (goodIn_sub (fun _ h => List.mem_cons_of_mem _ (List.mem_append_right _ h)) gwX12))
set_option maxRecDepth 20000 in
theorem g_X12_callNow_1 : GoodIn q_X12_callNow (wsV RX12 258 RX12 yX12_set q_X12_set) := goodIn_app (goodIn_r _ [15, 13, 14, 4] rfl (by decide +kernel)) (goodIn_ca (goodIn_r (.code yX12_set cX12_set 4 none :: [.fieldLink RX12 52 "LeftArgumentsModel" "now" "[I"]) [12, 3] rfl (by decide +kernel)) (goodIn_sub (fun _ h => List.mem_cons_of_mem _ (List.mem_append_right _ h)) gwX12))
set_option maxHeartbeats 4000000 in
set_option maxRecDepth 100000 in
theorem k_X12_callNow (l : Launch) (dC : Nat → ClassId) (dI : Nat → Nat → Nat) (h0 : Nat) (h1 : Nat) (h2 : Nat) (v0 : Int32) (r0 : Nat) (v1 : Int32) (v2 : Int32) (v3 : Int32) (v4 : Int32) (r1 : Nat) (r2 : Nat) (r3 : Nat) (r4 : Nat) (r5 : Nat) (r6 : Nat) (r7 : Nat) (v5 : Int32) (v6 : Int32) (r8 : Nat) (r9 : Nat) (r10 : Nat) (r11 : Nat) (v7 : Int32) (r12 : Nat) (v8 : Int32) (v9 : Int32) (r13 : Nat) (v10 : Int32) (v11 : Int32) (r14 : Nat) (v12 : Int32) (v13 : Int32) (r15 : Nat) (v14 : Int32) (w15 : Int64) (r16 : Nat) (v16 : Int32) (v17 : Int32) (r17 : Nat) (r18 : Nat) (r19 : Nat) (r20 : Nat) (r21 : Nat) (r22 : Nat) (v18 : Int32) (r23 : Nat) (r24 : Nat) (r25 : Nat) (v19 : Int32) (g0 : ClassId) (f20 : Nat → Int32) (g1 : ClassId) (f21 : Nat → Int32) (v22 : Int32) (i_v1 : 0 ≤ v1.toInt ∧ v1.toInt ≤ 240) (i_v5 : 0 ≤ v5.toInt ∧ v5.toInt ≤ 4) (i_v6 : 0 ≤ v6.toInt ∧ v6.toInt ≤ 4) (i_v7 : 0 ≤ v7.toInt ∧ v7.toInt ≤ 8) (i_v8 : 0 ≤ v8.toInt ∧ v8.toInt ≤ 8) (i_v9 : 0 ≤ v9.toInt ∧ v9.toInt ≤ 1) (i_v10 : -1 ≤ v10.toInt ∧ v10.toInt ≤ 3) (i_v14 : 0 ≤ v14.toInt ∧ v14.toInt ≤ 40) (i_v18 : 0 ≤ v18.toInt ∧ v18.toInt ≤ 10) (i_v19 : 0 ≤ v19.toInt ∧ v19.toInt ≤ 1) (i_v22 : 0 ≤ v22.toInt ∧ v22.toInt ≤ 7) (ia_f20 : (pm_RU f20)) (ia_f21 : (pm_NW f21)) (sz : Nat) : Met l yX12_callNow q_X12_callNow ({ frames := 1, cells := 0, slots := 0, locals := 23 }) (va_Pc [.ref h0, .int v22] (fun U => U.heap.size = sz ∧ va_P (dC, dI) vwCl (wd_78675856 h0 v0 r0 v1 v2 v3 v4 r1 r2 r3 r4 r5 r6 r7 v5 v6 r8 r9 r10 r11 v7 h1 r12 v8 v9 h2 r13 v10 v11 r14 v12 v13 r15 v14 w15 r16 v16 v17 r17 r18 r19 r20 r21 r22 v18 r23 r24 r25 v19 h1 g0 f20 h2 g1 f21) U.heap ∧ va_K (dC, dI) vwCl [(g0, .int), (g1, .int)] U ∧ va_D (fun _ => True) (wd_78675856 h0 v0 r0 v1 v2 v3 v4 r1 r2 r3 r4 r5 r6 r7 v5 v6 r8 r9 r10 r11 v7 h1 r12 v8 v9 h2 r13 v10 v11 r14 v12 v13 r15 v14 w15 r16 v16 v17 r17 r18 r19 r20 r21 r22 v18 r23 r24 r25 v19 h1 g0 f20 h2 g1 f21))) (va_Qi (fun (r : Int32) (r9 : Int32) => r9 = r) (fun (r : Int32) (t : State) => (∃ (o_h2 : Nat → Int32), (pm_NW o_h2) ∧ va_P (dC, dI) vwCl (wd_78675856 h0 v0 r0 v1 v2 v3 v4 r1 r2 r3 r4 r5 r6 r7 v5 v6 r8 r9 r10 r11 v7 h1 r12 v8 v9 h2 r13 v10 v11 r14 v12 v13 r15 v14 w15 r16 v16 v17 r17 r18 r19 r20 r21 r22 v18 r23 r24 r25 v19 h1 g0 f20 h2 g1 o_h2) t.heap ∧ va_K (dC, dI) vwCl [] t ∧ va_D (va_A (wd_78675856 h0 v0 r0 v1 v2 v3 v4 r1 r2 r3 r4 r5 r6 r7 v5 v6 r8 r9 r10 r11 v7 h1 r12 v8 v9 h2 r13 v10 v11 r14 v12 v13 r15 v14 w15 r16 v16 v17 r17 r18 r19 r20 r21 r22 v18 r23 r24 r25 v19 h1 g0 f20 h2 g1 f21) sz) (wd_78675856 h0 v0 r0 v1 v2 v3 v4 r1 r2 r3 r4 r5 r6 r7 v5 v6 r8 r9 r10 r11 v7 h1 r12 v8 v9 h2 r13 v10 v11 r14 v12 v13 r15 v14 w15 r16 v16 v17 r17 r18 r19 r20 r21 r22 v18 r23 r24 r25 v19 h1 g0 f20 h2 g1 o_h2))) (va_A (wd_78675856 h0 v0 r0 v1 v2 v3 v4 r1 r2 r3 r4 r5 r6 r7 v5 v6 r8 r9 r10 r11 v7 h1 r12 v8 v9 h2 r13 v10 v11 r14 v12 v13 r15 v14 w15 r16 v16 v17 r17 r18 r19 r20 r21 r22 v18 r23 r24 r25 v19 h1 g0 f20 h2 g1 f21) sz)) 0 0 (va_A (wd_78675856 h0 v0 r0 v1 v2 v3 v4 r1 r2 r3 r4 r5 r6 r7 v5 v6 r8 r9 r10 r11 v7 h1 r12 v8 v9 h2 r13 v10 v11 r14 v12 v13 r15 v14 w15 r16 v16 v17 r17 r18 r19 r20 r21 r22 v18 r23 r24 r25 v19 h1 g0 f20 h2 g1 f21) sz) := by
  refine Met.ofW (cc := cX12_callNow) (maxL := 3) (ret := (some .int)) (by decide) rfl ?_
  intro p e s m args below meth c s₁ B hml hv
  obtain ⟨i_v1a, i_v1b⟩ := i_v1
  obtain ⟨i_v5a, i_v5b⟩ := i_v5
  obtain ⟨i_v6a, i_v6b⟩ := i_v6
  obtain ⟨i_v7a, i_v7b⟩ := i_v7
  obtain ⟨i_v8a, i_v8b⟩ := i_v8
  obtain ⟨i_v9a, i_v9b⟩ := i_v9
  obtain ⟨i_v10a, i_v10b⟩ := i_v10
  obtain ⟨i_v14a, i_v14b⟩ := i_v14
  obtain ⟨i_v18a, i_v18b⟩ := i_v18
  obtain ⟨i_v19a, i_v19b⟩ := i_v19
  obtain ⟨i_v22a, i_v22b⟩ := i_v22
  obtain ⟨rfl, hsz, hP, hK, hD0⟩ := hv
  have hx := B.exec
  have hb := B.bytes
  have hr := B.returns
  have hts := atoms_spec (ws := q_X12_callNow) B.pre
  have hown : s.vm.findClass RX12 = some m.cls := findClass_of_methodNamed B.named
  have hlocks := B.notSynchronized
  subst hsz
  have hD := hD0.self (sz := s.heap.size)
  generalize hAe : va_A (wd_78675856 h0 v0 r0 v1 v2 v3 v4 r1 r2 r3 r4 r5 r6 r7 v5 v6 r8 r9 r10 r11 v7 h1 r12 v8 v9 h2 r13 v10 v11 r14 v12 v13 r15 v14 w15 r16 v16 v17 r17 r18 r19 r20 r21 r22 v18 r23 r24 r25 v19 h1 g0 f20 h2 g1 f21) s.heap.size = A at hD ⊢
  have hA : ∀ q : Nat, s.heap.size ≤ q → A q := fun q h => by rw [← hAe]; exact Or.inr h
  have hS : va_S A s.heap s.heap [] := va_S.rf
  generalize hQ : (MQ below _ _ s 0 0 A) = Q
  have hl := lv_entry ([.ref h0, .int v22]) (n := 3) (Nat.le_of_ble_eq_true rfl)
  rw [lg_entry_eq]
  generalize (lg_sl ([.ref h0, .int v22]) ++ List.replicate (3 - (lg_sl ([.ref h0, .int v22])).length) Slot.unset).toArray = ls at hl ⊢
  have hl : lv_has ls 3 [(0, .ref h0), (1, .int v22)] := hl
  obtain ⟨H, hH⟩ : ∃ H : Heap, H = s.heap := ⟨_, rfl⟩
  obtain ⟨locs, hlocs⟩ : ∃ y : List Loc, y = [] := ⟨_, rfl⟩
  have hS : va_S A s.heap H locs := by rw [hH, hlocs]; exact va_S.rf
  have hP : va_P (dC, dI) vwCl (wd_78675856 h0 v0 r0 v1 v2 v3 v4 r1 r2 r3 r4 r5 r6 r7 v5 v6 r8 r9 r10 r11 v7 h1 r12 v8 v9 h2 r13 v10 v11 r14 v12 v13 r15 v14 w15 r16 v16 v17 r17 r18 r19 r20 r21 r22 v18 r23 r24 r25 v19 h1 g0 f20 h2 g1 f21) H := by rw [hH]; exact hP
  rw [← hH, ← hlocs]
  refine lv_aload_n hx hb dX12_callNow_0 rfl (lv_at hl 0 rfl) ?_
  refine va_get (D := (dC, dI)) (ci := 12) (v := .ref h1) (C := RX12) (T := TX12) (N := 48) hx hb hts (fun _ h => List.mem_cons_of_mem _ (List.mem_append_right _ h)) hown hK hP 0 rfl rfl 20 (by decide) (hts (.fieldLink RX12 46 "LeftArgumentsModel" "rule" "[I") (List.mem_cons_of_mem _ (List.mem_append_left _ (List.mem_of_getElem? (i := 0) rfl)))) (fun _ h9 => h9) rfl dX12_callNow_1 ?_
  refine lv_iconst (v := 2) hx hb dX12_callNow_4 (by decide) ?_
  refine va_iald hx hb hK hP 1 0 rfl rfl (pv_c (x := 2) (n := 4) (by decide)) dX12_callNow_5 ?_
  refine lv_topi (fun t1 et1 => ?_)
  refine lv_aload_n hx hb dX12_callNow_6 rfl (lv_at hl 0 rfl) ?_
  refine lv_iload_n hx hb dX12_callNow_7 rfl (lv_at hl 1 rfl) ?_
  refine lv_iconst (v := 5) hx hb dX12_callNow_8 (by decide) ?_
  have hPc := hP.sub (ws' := (wd_5013416a h0 v0 r0 v1 v2 v3 v4 r1 r2 r3 r4 r5 r6 r7 v5 v6 r8 r9 r10 r11 v7 h1 r12 v8 v9 h2 r13 v10 v11 r14 v12 v13 r15 v14 w15 r16 v16 v17 r17 r18 r19 r20 r21 r22 v18 r23 r24 r25 v19 h2 g1 f21)) [0, 2] rfl
  have hDc := hD.sub (ws' := (wd_5013416a h0 v0 r0 v1 v2 v3 v4 r1 r2 r3 r4 r5 r6 r7 v5 v6 r8 r9 r10 r11 v7 h1 r12 v8 v9 h2 r13 v10 v11 r14 v12 v13 r15 v14 w15 r16 v16 v17 r17 r18 r19 r20 r21 r22 v18 r23 r24 r25 v19 h2 g1 f21)) [0, 2] (by decide) rfl
  have hKc := hK.sub (tys' := [(g1, .int)]) [1] rfl
  have hFc := va_free (wc := (wd_5013416a h0 v0 r0 v1 v2 v3 v4 r1 r2 r3 r4 r5 r6 r7 v5 v6 r8 r9 r10 r11 v7 h1 r12 v8 v9 h2 r13 v10 v11 r14 v12 v13 r15 v14 w15 r16 v16 v17 r17 r18 r19 r20 r21 r22 v18 r23 r24 r25 v19 h2 g1 f21)) hD hS hA [0, 2] rfl
  refine va_calli (va_runV (As := [.int v22, .int 5]) (rest := [.int t1]) ⟨hx, hb, hml, hown, hts⟩ (k_X12_of_5 l dC dI h0 h2 v0 r0 v1 v2 v3 v4 r1 r2 r3 r4 r5 r6 r7 v5 v6 r8 r9 r10 r11 v7 h1 r12 v8 v9 r13 v10 v11 r14 v12 v13 r15 v14 w15 r16 v16 v17 r17 r18 r19 r20 r21 r22 v18 r23 r24 r25 v19 g1 f21 v22 ⟨i_v1a, i_v1b⟩ ⟨i_v5a, i_v5b⟩ ⟨i_v6a, i_v6b⟩ ⟨i_v7a, i_v7b⟩ ⟨i_v8a, i_v8b⟩ ⟨i_v9a, i_v9b⟩ ⟨i_v10a, i_v10b⟩ ⟨i_v14a, i_v14b⟩ ⟨i_v18a, i_v18b⟩ ⟨i_v19a, i_v19b⟩ ⟨i_v22a, i_v22b⟩ ia_f21.1 H.size) (cwV 2 hts g_X12_callNow_0 rfl rfl rfl (by decide +kernel) ⟨Nat.le_of_ble_eq_true rfl, Nat.le_of_ble_eq_true rfl⟩) (pv_PV12 hPc hKc hDc (q0 := 0) rfl) rfl rfl hl.1 rfl (lv_room (Nat.le_of_ble_eq_true rfl)) dX12_callNow_9 ⟨Nat.le_of_ble_eq_true rfl, Nat.le_of_ble_eq_true rfl⟩) hS (fun q _ h => hFc q h) hFc (fun ra2 u t H1 locs ht hvm hwra2 hB hz1 hk1 hS => ?_)
  try rw [hwra2] at hB
  obtain ⟨pt0_ra2, hP1, hK1, hD1⟩ := hB
  rw [ht] at hP1
  obtain ⟨hP2, hD2⟩ := va_join (wr := (wd_6f8f3203 h1 g0 f20)) (w1 := (wd_5013416a h0 v0 r0 v1 v2 v3 v4 r1 r2 r3 r4 r5 r6 r7 v5 v6 r8 r9 r10 r11 v7 h1 r12 v8 v9 h2 r13 v10 v11 r14 v12 v13 r15 v14 w15 r16 v16 v17 r17 r18 r19 r20 r21 r22 v18 r23 r24 r25 v19 h2 g1 f21)) hP hD [0, 2] [1] rfl rfl (by decide) (by decide) hk1 hFc hP1 hD1
  clear hP hD hPc hDc hKc hFc hP1 hK1 hD1 hk1 hz1
  generalize H1 = H at hP2 hS ⊢
  have hP := hP2.sub (ws' := (wd_78675856 h0 v0 r0 v1 v2 v3 v4 r1 r2 r3 r4 r5 r6 r7 v5 v6 r8 r9 r10 r11 v7 h1 r12 v8 v9 h2 r13 v10 v11 r14 v12 v13 r15 v14 w15 r16 v16 v17 r17 r18 r19 r20 r21 r22 v18 r23 r24 r25 v19 h1 g0 f20 h2 g1 f21)) [1, 0, 2] rfl
  have hD := hD2.sub (ws' := (wd_78675856 h0 v0 r0 v1 v2 v3 v4 r1 r2 r3 r4 r5 r6 r7 v5 v6 r8 r9 r10 r11 v7 h1 r12 v8 v9 h2 r13 v10 v11 r14 v12 v13 r15 v14 w15 r16 v16 v17 r17 r18 r19 r20 r21 r22 v18 r23 r24 r25 v19 h1 g0 f20 h2 g1 f21)) [1, 0, 2] (by decide) rfl
  clear hP2 hD2
  refine lv_imul hx hb dX12_callNow_12 ?_
  refine lv_topi (fun t3 et3 => ?_)
  refine lv_istore_n (lv' := [(2, .int t3), (0, .ref h0), (1, .int v22)]) hx hb dX12_callNow_13 rfl hl (by decide) rfl (fun ls hl => ?_)
  refine lv_aload_n hx hb dX12_callNow_14 rfl (lv_at hl 1 rfl) ?_
  refine va_get (D := (dC, dI)) (ci := 12) (v := .ref h2) (C := RX12) (T := TX12) (N := 48) hx hb hts (fun _ h => List.mem_cons_of_mem _ (List.mem_append_right _ h)) hown hK hP 0 rfl rfl 24 (by decide) (hts (.fieldLink RX12 52 "LeftArgumentsModel" "now" "[I") (List.mem_cons_of_mem _ (List.mem_append_left _ (List.mem_of_getElem? (i := 2) rfl)))) (fun _ h9 => h9) rfl dX12_callNow_15 ?_
  refine lv_bipush (v := 64) hx hb dX12_callNow_18 (by decide) ?_
  refine lv_sipush (v := 999) hx hb dX12_callNow_20 (by decide) ?_
  refine lv_aload_n hx hb dX12_callNow_23 rfl (lv_at hl 1 rfl) ?_
  refine va_get (D := (dC, dI)) (ci := 12) (v := .ref h2) (C := RX12) (T := TX12) (N := 48) hx hb hts (fun _ h => List.mem_cons_of_mem _ (List.mem_append_right _ h)) hown hK hP 0 rfl rfl 24 (by decide) (hts (.fieldLink RX12 52 "LeftArgumentsModel" "now" "[I") (List.mem_cons_of_mem _ (List.mem_append_left _ (List.mem_of_getElem? (i := 2) rfl)))) (fun _ h9 => h9) rfl dX12_callNow_24 ?_
  refine lv_bipush (v := 64) hx hb dX12_callNow_27 (by decide) ?_
  refine va_iald hx hb hK hP 2 1 rfl rfl (pv_c (x := 64) (n := 247) (by decide)) dX12_callNow_29 ?_
  refine lv_topi (fun t4 et4 => ?_)
  have mmt4 : f21 (Int32.toNatClampNeg 64) = t4 := et4.symm
  refine lv_iload_n hx hb dX12_callNow_30 rfl (lv_at hl 0 rfl) ?_
  refine lv_iadd hx hb dX12_callNow_31 ?_
  refine lv_topi (fun t5 et5 => ?_)
  refine va_mmin hx hb (by rw [hml]; exact hl.1.symm) hown (hts (.methodLink RX12 299 Lib.Math.min.name) (List.mem_cons_of_mem _ (List.mem_append_left _ (List.mem_of_getElem? (i := 7) rfl)))) (hts (.static Lib.Math.min.name) (List.mem_cons_of_mem _ (List.mem_append_left _ (List.mem_of_getElem? (i := 8) rfl)))) (hts (.initialized "java/lang/Math") (List.mem_cons_of_mem _ (List.mem_append_left _ (List.mem_of_getElem? (i := 9) rfl)))) (hts (.code Lib.Math.min.name Lib.Math.min.code 2 (some .int)) (List.mem_cons_of_mem _ (List.mem_append_left _ (List.mem_of_getElem? (i := 10) rfl)))) (Nat.le_of_ble_eq_true rfl) (Nat.le_of_ble_eq_true rfl) (Nat.le_of_ble_eq_true rfl) (Nat.le_of_ble_eq_true rfl) dX12_callNow_32 ?_
  refine lv_topi (fun t6 et6 => ?_)
  obtain ⟨gat6, gbt6, gct6⟩ := pv_min (a := 999) (b := t5.toInt) et6 (by decide) rfl
  refine va_iast hx hb hK hP hD hS 2 1 rfl rfl (pv_c (x := 64) (n := 247) (by decide)) dX12_callNow_35 (fun H locs hP hD hS => ?_)
  obtain ⟨fn7, efn7⟩ : ∃ g : Nat → Int32, g = upd f21 (Int32.toNatClampNeg 64) t6 := ⟨_, rfl⟩
  rw [← efn7] at hP hD
  have ia_fn7 : pm_NW fn7 := by rw [efn7]; exact pm_NW.st ia_f21 (z := 64) (y := t6.toInt) (by decide) rfl (by omega) (fun b9 h8 h9 => ⟨fun _ => ⟨by omega, by omega⟩, fun _ => ⟨by omega, by omega⟩⟩) (fun _ => ⟨by omega, by omega⟩) (fun b9 h8 h9 => ⟨fun _ => by omega, fun _ => by omega⟩)
  have mmfn7_64 : fn7 (Int32.toNatClampNeg 64) = t6 := by rw [efn7]; exact pk_us
  have hP : va_P (dC, dI) vwCl (wd_78675856 h0 v0 r0 v1 v2 v3 v4 r1 r2 r3 r4 r5 r6 r7 v5 v6 r8 r9 r10 r11 v7 h1 r12 v8 v9 h2 r13 v10 v11 r14 v12 v13 r15 v14 w15 r16 v16 v17 r17 r18 r19 r20 r21 r22 v18 r23 r24 r25 v19 h1 g0 f20 h2 g1 fn7) H := hP
  have hD : va_D A (wd_78675856 h0 v0 r0 v1 v2 v3 v4 r1 r2 r3 r4 r5 r6 r7 v5 v6 r8 r9 r10 r11 v7 h1 r12 v8 v9 h2 r13 v10 v11 r14 v12 v13 r15 v14 w15 r16 v16 v17 r17 r18 r19 r20 r21 r22 v18 r23 r24 r25 v19 h1 g0 f20 h2 g1 fn7) := hD
  refine lv_aload_n hx hb dX12_callNow_36 rfl (lv_at hl 1 rfl) ?_
  refine lv_iload_n hx hb dX12_callNow_37 rfl (lv_at hl 2 rfl) ?_
  refine lv_bipush (v := 7) hx hb dX12_callNow_38 (by decide) ?_
  refine lv_iconst (v := 0) hx hb dX12_callNow_40 (by decide) ?_
  have hPc := hP.sub (ws' := (wd_5013416a h0 v0 r0 v1 v2 v3 v4 r1 r2 r3 r4 r5 r6 r7 v5 v6 r8 r9 r10 r11 v7 h1 r12 v8 v9 h2 r13 v10 v11 r14 v12 v13 r15 v14 w15 r16 v16 v17 r17 r18 r19 r20 r21 r22 v18 r23 r24 r25 v19 h2 g1 fn7)) [0, 2] rfl
  have hDc := hD.sub (ws' := (wd_5013416a h0 v0 r0 v1 v2 v3 v4 r1 r2 r3 r4 r5 r6 r7 v5 v6 r8 r9 r10 r11 v7 h1 r12 v8 v9 h2 r13 v10 v11 r14 v12 v13 r15 v14 w15 r16 v16 v17 r17 r18 r19 r20 r21 r22 v18 r23 r24 r25 v19 h2 g1 fn7)) [0, 2] (by decide) rfl
  have hKc := hK.sub (tys' := [(g1, .int)]) [1] rfl
  have hFc := va_free (wc := (wd_5013416a h0 v0 r0 v1 v2 v3 v4 r1 r2 r3 r4 r5 r6 r7 v5 v6 r8 r9 r10 r11 v7 h1 r12 v8 v9 h2 r13 v10 v11 r14 v12 v13 r15 v14 w15 r16 v16 v17 r17 r18 r19 r20 r21 r22 v18 r23 r24 r25 v19 h2 g1 fn7)) hD hS hA [0, 2] rfl
  refine va_callv (va_runV (As := [.int v22, .int 7, .int 0]) (rest := []) ⟨hx, hb, hml, hown, hts⟩ (k_X12_set l dC dI h0 h2 v0 r0 v1 v2 v3 v4 r1 r2 r3 r4 r5 r6 r7 v5 v6 r8 r9 r10 r11 v7 h1 r12 v8 v9 r13 v10 v11 r14 v12 v13 r15 v14 w15 r16 v16 v17 r17 r18 r19 r20 r21 r22 v18 r23 r24 r25 v19 g1 fn7 v22 0 ⟨i_v1a, i_v1b⟩ ⟨i_v5a, i_v5b⟩ ⟨i_v6a, i_v6b⟩ ⟨i_v7a, i_v7b⟩ ⟨i_v8a, i_v8b⟩ ⟨i_v9a, i_v9b⟩ ⟨i_v10a, i_v10b⟩ ⟨i_v14a, i_v14b⟩ ⟨i_v18a, i_v18b⟩ ⟨i_v19a, i_v19b⟩ ⟨i_v22a, i_v22b⟩ trivial H.size) (cwV 3 hts g_X12_callNow_1 rfl rfl rfl (by decide +kernel) ⟨Nat.le_of_ble_eq_true rfl, Nat.le_of_ble_eq_true rfl⟩) (pv_PV12 hPc hKc hDc (q0 := 0) rfl) rfl rfl hl.1 rfl (lv_room (Nat.le_of_ble_eq_true rfl)) dX12_callNow_41 ⟨Nat.le_of_ble_eq_true rfl, Nat.le_of_ble_eq_true rfl⟩) hS (fun q _ h => hFc q h) hFc (fun u t H1 locs ht hvm hwra8 hB hz1 hk1 hS => ?_)
  obtain ⟨hP1, hK1, hD1⟩ := hB
  rw [ht] at hP1
  obtain ⟨hP2, hD2⟩ := va_join (wr := (wd_6f8f3203 h1 g0 f20)) (w1 := (wd_5013416a h0 v0 r0 v1 v2 v3 v4 r1 r2 r3 r4 r5 r6 r7 v5 v6 r8 r9 r10 r11 v7 h1 r12 v8 v9 h2 r13 v10 v11 r14 v12 v13 r15 v14 w15 r16 v16 v17 r17 r18 r19 r20 r21 r22 v18 r23 r24 r25 v19 h2 g1 (upd fn7 (pm_I v22 7) 0))) hP hD [0, 2] [1] rfl rfl (by decide) (by decide) hk1 hFc hP1 hD1
  clear hP hD hPc hDc hKc hFc hP1 hK1 hD1 hk1 hz1
  generalize H1 = H at hP2 hS ⊢
  have hP := hP2.sub (ws' := (wd_78675856 h0 v0 r0 v1 v2 v3 v4 r1 r2 r3 r4 r5 r6 r7 v5 v6 r8 r9 r10 r11 v7 h1 r12 v8 v9 h2 r13 v10 v11 r14 v12 v13 r15 v14 w15 r16 v16 v17 r17 r18 r19 r20 r21 r22 v18 r23 r24 r25 v19 h1 g0 f20 h2 g1 (upd fn7 (pm_I v22 7) 0))) [1, 0, 2] rfl
  have hD := hD2.sub (ws' := (wd_78675856 h0 v0 r0 v1 v2 v3 v4 r1 r2 r3 r4 r5 r6 r7 v5 v6 r8 r9 r10 r11 v7 h1 r12 v8 v9 h2 r13 v10 v11 r14 v12 v13 r15 v14 w15 r16 v16 v17 r17 r18 r19 r20 r21 r22 v18 r23 r24 r25 v19 h1 g0 f20 h2 g1 (upd fn7 (pm_I v22 7) 0))) [1, 0, 2] (by decide) rfl
  clear hP2 hD2
  obtain ⟨t9, et9⟩ : ∃ y : Int32, y = 8 * v22 + 7 := ⟨_, rfl⟩
  have gt9 : t9.toInt = 8 * v22.toInt + 7 := pm_i8 et9 rfl (by decide) (by omega) (by omega) (by omega) (by omega)
  obtain ⟨fn11, efn11⟩ : ∃ g : Nat → Int32, g = upd fn7 (Int32.toNatClampNeg t9) 0 := ⟨_, rfl⟩
  have e9 : (upd fn7 (pm_I v22 7) 0) = fn11 := by rw [efn11, et9]; rfl
  rw [e9] at hP hD
  have ia_fn11 : pm_NW fn11 := by rw [efn11]; exact pm_NW.st ia_fn7 (z := t9.toInt) (y := 0) rfl (by decide) (by omega) (fun b9 h8 h9 => ⟨fun _ => ⟨by omega, by omega⟩, fun _ => ⟨by omega, by omega⟩⟩) (fun _ => ⟨by omega, by omega⟩) (fun b9 h8 h9 => ⟨fun _ => by omega, fun _ => by omega⟩)
  have mmfn11_64 : fn11 (Int32.toNatClampNeg 64) = t6 := by rw [efn11]; exact (pk_un (pm_ne (z := t9.toInt) (c := 64) rfl (by decide) (by omega) (by omega))).trans mmfn7_64
  have hP : va_P (dC, dI) vwCl (wd_78675856 h0 v0 r0 v1 v2 v3 v4 r1 r2 r3 r4 r5 r6 r7 v5 v6 r8 r9 r10 r11 v7 h1 r12 v8 v9 h2 r13 v10 v11 r14 v12 v13 r15 v14 w15 r16 v16 v17 r17 r18 r19 r20 r21 r22 v18 r23 r24 r25 v19 h1 g0 f20 h2 g1 fn11) H := hP
  have hD : va_D A (wd_78675856 h0 v0 r0 v1 v2 v3 v4 r1 r2 r3 r4 r5 r6 r7 v5 v6 r8 r9 r10 r11 v7 h1 r12 v8 v9 h2 r13 v10 v11 r14 v12 v13 r15 v14 w15 r16 v16 v17 r17 r18 r19 r20 r21 r22 v18 r23 r24 r25 v19 h1 g0 f20 h2 g1 fn11) := hD
  refine lv_iload_n hx hb dX12_callNow_44 rfl (lv_at hl 0 rfl) ?_
  subst hQ
  have hP9 := hP.sub (ws' := (wd_78675856 h0 v0 r0 v1 v2 v3 v4 r1 r2 r3 r4 r5 r6 r7 v5 v6 r8 r9 r10 r11 v7 h1 r12 v8 v9 h2 r13 v10 v11 r14 v12 v13 r15 v14 w15 r16 v16 v17 r17 r18 r19 r20 r21 r22 v18 r23 r24 r25 v19 h1 g0 f20 h2 g1 fn11)) [0, 1, 2] rfl
  have hD9 := hD.sub (ws' := (wd_78675856 h0 v0 r0 v1 v2 v3 v4 r1 r2 r3 r4 r5 r6 r7 v5 v6 r8 r9 r10 r11 v7 h1 r12 v8 v9 h2 r13 v10 v11 r14 v12 v13 r15 v14 w15 r16 v16 v17 r17 r18 r19 r20 r21 r22 v18 r23 r24 r25 v19 h1 g0 f20 h2 g1 fn11)) [0, 1, 2] (by decide) rfl
  have hK9 := hK.sub (tys' := []) [] rfl
  exact W.iret (v := t3) hx hb hr (fun t ht hW => ⟨⟨t3, t3, rfl, rfl, ⟨fn11, ia_fn11, by rw [ht]; exact hP9, va_K.moved hW.alike hK9, hD9⟩⟩, hS.F ht⟩) hS.2.2 dX12_callNow_45
def q_X12_isRefused : List Cond := .code yX12_isRefused cX12_isRefused 2 (some .boolean) :: (([] : List Cond))
set_option maxHeartbeats 4000000 in
set_option maxRecDepth 100000 in
theorem k_X12_isRefused (l : Launch) (dC : Nat → ClassId) (dI : Nat → Nat → Nat) (h0 : Nat) (v0 : Int32) (r0 : Nat) (v1 : Int32) (v2 : Int32) (v3 : Int32) (v4 : Int32) (r1 : Nat) (r2 : Nat) (r3 : Nat) (r4 : Nat) (r5 : Nat) (r6 : Nat) (r7 : Nat) (v5 : Int32) (v6 : Int32) (r8 : Nat) (r9 : Nat) (r10 : Nat) (r11 : Nat) (v7 : Int32) (r12 : Nat) (r13 : Nat) (v8 : Int32) (v9 : Int32) (r14 : Nat) (r15 : Nat) (v10 : Int32) (v11 : Int32) (r16 : Nat) (v12 : Int32) (v13 : Int32) (r17 : Nat) (v14 : Int32) (w15 : Int64) (r18 : Nat) (v16 : Int32) (v17 : Int32) (r19 : Nat) (r20 : Nat) (r21 : Nat) (r22 : Nat) (r23 : Nat) (r24 : Nat) (v18 : Int32) (r25 : Nat) (r26 : Nat) (r27 : Nat) (v19 : Int32) (i_v1 : 0 ≤ v1.toInt ∧ v1.toInt ≤ 240) (i_v5 : 0 ≤ v5.toInt ∧ v5.toInt ≤ 4) (i_v6 : 0 ≤ v6.toInt ∧ v6.toInt ≤ 4) (i_v7 : 0 ≤ v7.toInt ∧ v7.toInt ≤ 8) (i_v8 : 0 ≤ v8.toInt ∧ v8.toInt ≤ 8) (i_v9 : 0 ≤ v9.toInt ∧ v9.toInt ≤ 1) (i_v10 : -1 ≤ v10.toInt ∧ v10.toInt ≤ 3) (i_v14 : 0 ≤ v14.toInt ∧ v14.toInt ≤ 40) (i_v18 : 0 ≤ v18.toInt ∧ v18.toInt ≤ 10) (i_v19 : 0 ≤ v19.toInt ∧ v19.toInt ≤ 1) (sz : Nat) : Met l yX12_isRefused q_X12_isRefused ({ frames := 0, cells := 0, slots := 0, locals := 0 }) (va_Pc [.ref h0, .int (-1)] (fun U => U.heap.size = sz ∧ va_P (dC, dI) vwCl (wd_171f232f h0 v0 r0 v1 v2 v3 v4 r1 r2 r3 r4 r5 r6 r7 v5 v6 r8 r9 r10 r11 v7 r12 r13 v8 v9 r14 r15 v10 v11 r16 v12 v13 r17 v14 w15 r18 v16 v17 r19 r20 r21 r22 r23 r24 v18 r25 r26 r27 v19) U.heap ∧ va_K (dC, dI) vwCl [] U ∧ va_D (fun _ => True) (wd_171f232f h0 v0 r0 v1 v2 v3 v4 r1 r2 r3 r4 r5 r6 r7 v5 v6 r8 r9 r10 r11 v7 r12 r13 v8 v9 r14 r15 v10 v11 r16 v12 v13 r17 v14 w15 r18 v16 v17 r19 r20 r21 r22 r23 r24 v18 r25 r26 r27 v19))) (va_Qi (fun (r : Int32) (r9 : Int32) => r9 = r) (fun (r : Int32) (t : State) => ((0 ≤ r.toInt) ∧ (r.toInt ≤ 0) ∧ va_P (dC, dI) vwCl (wd_171f232f h0 v0 r0 v1 v2 v3 v4 r1 r2 r3 r4 r5 r6 r7 v5 v6 r8 r9 r10 r11 v7 r12 r13 v8 v9 r14 r15 v10 v11 r16 v12 v13 r17 v14 w15 r18 v16 v17 r19 r20 r21 r22 r23 r24 v18 r25 r26 r27 v19) t.heap ∧ va_K (dC, dI) vwCl [] t ∧ va_D (va_A (wd_171f232f h0 v0 r0 v1 v2 v3 v4 r1 r2 r3 r4 r5 r6 r7 v5 v6 r8 r9 r10 r11 v7 r12 r13 v8 v9 r14 r15 v10 v11 r16 v12 v13 r17 v14 w15 r18 v16 v17 r19 r20 r21 r22 r23 r24 v18 r25 r26 r27 v19) sz) (wd_171f232f h0 v0 r0 v1 v2 v3 v4 r1 r2 r3 r4 r5 r6 r7 v5 v6 r8 r9 r10 r11 v7 r12 r13 v8 v9 r14 r15 v10 v11 r16 v12 v13 r17 v14 w15 r18 v16 v17 r19 r20 r21 r22 r23 r24 v18 r25 r26 r27 v19))) (va_A (wd_171f232f h0 v0 r0 v1 v2 v3 v4 r1 r2 r3 r4 r5 r6 r7 v5 v6 r8 r9 r10 r11 v7 r12 r13 v8 v9 r14 r15 v10 v11 r16 v12 v13 r17 v14 w15 r18 v16 v17 r19 r20 r21 r22 r23 r24 v18 r25 r26 r27 v19) sz)) 0 0 (va_A (wd_171f232f h0 v0 r0 v1 v2 v3 v4 r1 r2 r3 r4 r5 r6 r7 v5 v6 r8 r9 r10 r11 v7 r12 r13 v8 v9 r14 r15 v10 v11 r16 v12 v13 r17 v14 w15 r18 v16 v17 r19 r20 r21 r22 r23 r24 v18 r25 r26 r27 v19) sz) := by
  refine Met.ofW (cc := cX12_isRefused) (maxL := 2) (ret := (some .boolean)) (by decide) rfl ?_
  intro p e s m args below meth c s₁ B hml hv
  obtain ⟨i_v1a, i_v1b⟩ := i_v1
  obtain ⟨i_v5a, i_v5b⟩ := i_v5
  obtain ⟨i_v6a, i_v6b⟩ := i_v6
  obtain ⟨i_v7a, i_v7b⟩ := i_v7
  obtain ⟨i_v8a, i_v8b⟩ := i_v8
  obtain ⟨i_v9a, i_v9b⟩ := i_v9
  obtain ⟨i_v10a, i_v10b⟩ := i_v10
  obtain ⟨i_v14a, i_v14b⟩ := i_v14
  obtain ⟨i_v18a, i_v18b⟩ := i_v18
  obtain ⟨i_v19a, i_v19b⟩ := i_v19
  obtain ⟨rfl, hsz, hP, hK, hD0⟩ := hv
  have hx := B.exec
  have hb := B.bytes
  have hr := B.returns
  have hts := atoms_spec (ws := q_X12_isRefused) B.pre
  have hown : s.vm.findClass RX12 = some m.cls := findClass_of_methodNamed B.named
  have hlocks := B.notSynchronized
  subst hsz
  have hD := hD0.self (sz := s.heap.size)
  generalize hAe : va_A (wd_171f232f h0 v0 r0 v1 v2 v3 v4 r1 r2 r3 r4 r5 r6 r7 v5 v6 r8 r9 r10 r11 v7 r12 r13 v8 v9 r14 r15 v10 v11 r16 v12 v13 r17 v14 w15 r18 v16 v17 r19 r20 r21 r22 r23 r24 v18 r25 r26 r27 v19) s.heap.size = A at hD ⊢
  have hA : ∀ q : Nat, s.heap.size ≤ q → A q := fun q h => by rw [← hAe]; exact Or.inr h
  have hS : va_S A s.heap s.heap [] := va_S.rf
  generalize hQ : (MQ below _ _ s 0 0 A) = Q
  have hl := lv_entry ([.ref h0, .int (-1)]) (n := 2) (Nat.le_of_ble_eq_true rfl)
  rw [lg_entry_eq]
  generalize (lg_sl ([.ref h0, .int (-1)]) ++ List.replicate (2 - (lg_sl ([.ref h0, .int (-1)])).length) Slot.unset).toArray = ls at hl ⊢
  have hl : lv_has ls 2 [(0, .ref h0), (1, .int (-1))] := hl
  obtain ⟨H, hH⟩ : ∃ H : Heap, H = s.heap := ⟨_, rfl⟩
  obtain ⟨locs, hlocs⟩ : ∃ y : List Loc, y = [] := ⟨_, rfl⟩
  have hS : va_S A s.heap H locs := by rw [hH, hlocs]; exact va_S.rf
  have hP : va_P (dC, dI) vwCl (wd_171f232f h0 v0 r0 v1 v2 v3 v4 r1 r2 r3 r4 r5 r6 r7 v5 v6 r8 r9 r10 r11 v7 r12 r13 v8 v9 r14 r15 v10 v11 r16 v12 v13 r17 v14 w15 r18 v16 v17 r19 r20 r21 r22 r23 r24 v18 r25 r26 r27 v19) H := by rw [hH]; exact hP
  rw [← hH, ← hlocs]
  refine lv_iload_n hx hb dX12_isRefused_0 rfl (lv_at hl 1 rfl) ?_
  refine lv_iconst (v := (-1)) hx hb dX12_isRefused_1 (by decide) ?_
  refine lv_icmp_eq (tgt := 15) hx hb dX12_isRefused_2 (by decide) (fun _ => ?_) (fun c => absurd (by decide) c)
  refine lv_iload_n hx hb dX12_isRefused_15 rfl (lv_at hl 1 rfl) ?_
  refine lv_iconst (v := (-1)) hx hb dX12_isRefused_16 (by decide) ?_
  refine lv_icmp_eq (tgt := 24) hx hb dX12_isRefused_17 (by decide) (fun _ => ?_) (fun c => absurd (by decide) c)
  refine lv_iconst (v := 0) hx hb dX12_isRefused_24 (by decide) ?_
  subst hQ
  have hP9 := hP.sub (ws' := (wd_171f232f h0 v0 r0 v1 v2 v3 v4 r1 r2 r3 r4 r5 r6 r7 v5 v6 r8 r9 r10 r11 v7 r12 r13 v8 v9 r14 r15 v10 v11 r16 v12 v13 r17 v14 w15 r18 v16 v17 r19 r20 r21 r22 r23 r24 v18 r25 r26 r27 v19)) [0] rfl
  have hD9 := hD.sub (ws' := (wd_171f232f h0 v0 r0 v1 v2 v3 v4 r1 r2 r3 r4 r5 r6 r7 v5 v6 r8 r9 r10 r11 v7 r12 r13 v8 v9 r14 r15 v10 v11 r16 v12 v13 r17 v14 w15 r18 v16 v17 r19 r20 r21 r22 r23 r24 v18 r25 r26 r27 v19)) [0] (by decide) rfl
  have hK9 := hK.sub (tys' := []) [] rfl
  exact W.zret (v := 0) hx hb hr rfl (fun t ht hW => ⟨⟨0, 0, rfl, rfl, ⟨by first | omega | decide, by first | omega | decide, by rw [ht]; exact hP9, va_K.moved hW.alike hK9, hD9⟩⟩, hS.F ht⟩) hS.2.2 dX12_isRefused_25
def q_X12_isRefused_1 : List Cond := .code yX12_isRefused cX12_isRefused 2 (some .boolean) :: (([.fieldLink RX12 55 "LeftArgumentsModel" "refused" "[I"] : List Cond) ++ wsX120)
set_option maxHeartbeats 4000000 in
set_option maxRecDepth 100000 in
theorem k_X12_isRefused_1 (l : Launch) (dC : Nat → ClassId) (dI : Nat → Nat → Nat) (h0 : Nat) (h1 : Nat) (v0 : Int32) (r0 : Nat) (v1 : Int32) (v2 : Int32) (v3 : Int32) (v4 : Int32) (r1 : Nat) (r2 : Nat) (r3 : Nat) (r4 : Nat) (r5 : Nat) (r6 : Nat) (r7 : Nat) (v5 : Int32) (v6 : Int32) (r8 : Nat) (r9 : Nat) (r10 : Nat) (r11 : Nat) (v7 : Int32) (r12 : Nat) (r13 : Nat) (v8 : Int32) (v9 : Int32) (r14 : Nat) (v10 : Int32) (v11 : Int32) (r15 : Nat) (v12 : Int32) (v13 : Int32) (r16 : Nat) (v14 : Int32) (w15 : Int64) (r17 : Nat) (v16 : Int32) (v17 : Int32) (r18 : Nat) (r19 : Nat) (r20 : Nat) (r21 : Nat) (r22 : Nat) (r23 : Nat) (v18 : Int32) (r24 : Nat) (r25 : Nat) (r26 : Nat) (v19 : Int32) (g0 : ClassId) (f20 : Nat → Int32) (i_v1 : 0 ≤ v1.toInt ∧ v1.toInt ≤ 240) (i_v5 : 0 ≤ v5.toInt ∧ v5.toInt ≤ 4) (i_v6 : 0 ≤ v6.toInt ∧ v6.toInt ≤ 4) (i_v7 : 0 ≤ v7.toInt ∧ v7.toInt ≤ 8) (i_v8 : 0 ≤ v8.toInt ∧ v8.toInt ≤ 8) (i_v9 : 0 ≤ v9.toInt ∧ v9.toInt ≤ 1) (i_v10 : -1 ≤ v10.toInt ∧ v10.toInt ≤ 3) (i_v14 : 0 ≤ v14.toInt ∧ v14.toInt ≤ 40) (i_v18 : 0 ≤ v18.toInt ∧ v18.toInt ≤ 10) (i_v19 : 0 ≤ v19.toInt ∧ v19.toInt ≤ 1) (sz : Nat) : Met l yX12_isRefused q_X12_isRefused_1 ({ frames := 0, cells := 0, slots := 0, locals := 0 }) (va_Pc [.ref h0, .int 0] (fun U => U.heap.size = sz ∧ va_P (dC, dI) vwCl (wd_5b5f7811 h0 v0 r0 v1 v2 v3 v4 r1 r2 r3 r4 r5 r6 r7 v5 v6 r8 r9 r10 r11 v7 r12 r13 v8 v9 r14 h1 v10 v11 r15 v12 v13 r16 v14 w15 r17 v16 v17 r18 r19 r20 r21 r22 r23 v18 r24 r25 r26 v19 h1 g0 f20) U.heap ∧ va_K (dC, dI) vwCl [(g0, .int)] U ∧ va_D (fun _ => True) (wd_5b5f7811 h0 v0 r0 v1 v2 v3 v4 r1 r2 r3 r4 r5 r6 r7 v5 v6 r8 r9 r10 r11 v7 r12 r13 v8 v9 r14 h1 v10 v11 r15 v12 v13 r16 v14 w15 r17 v16 v17 r18 r19 r20 r21 r22 r23 v18 r24 r25 r26 v19 h1 g0 f20))) (va_Qi (fun (r : Int32) (r9 : Int32) => r9 = r) (fun (r : Int32) (t : State) => (∃ (o_h1 : Nat → Int32), (1 ≤ r.toInt) ∧ (r.toInt ≤ 1) ∧ va_P (dC, dI) vwCl (wd_5b5f7811 h0 v0 r0 v1 v2 v3 v4 r1 r2 r3 r4 r5 r6 r7 v5 v6 r8 r9 r10 r11 v7 r12 r13 v8 v9 r14 h1 v10 v11 r15 v12 v13 r16 v14 w15 r17 v16 v17 r18 r19 r20 r21 r22 r23 v18 r24 r25 r26 v19 h1 g0 o_h1) t.heap ∧ va_K (dC, dI) vwCl [] t ∧ va_D (va_A (wd_5b5f7811 h0 v0 r0 v1 v2 v3 v4 r1 r2 r3 r4 r5 r6 r7 v5 v6 r8 r9 r10 r11 v7 r12 r13 v8 v9 r14 h1 v10 v11 r15 v12 v13 r16 v14 w15 r17 v16 v17 r18 r19 r20 r21 r22 r23 v18 r24 r25 r26 v19 h1 g0 f20) sz) (wd_5b5f7811 h0 v0 r0 v1 v2 v3 v4 r1 r2 r3 r4 r5 r6 r7 v5 v6 r8 r9 r10 r11 v7 r12 r13 v8 v9 r14 h1 v10 v11 r15 v12 v13 r16 v14 w15 r17 v16 v17 r18 r19 r20 r21 r22 r23 v18 r24 r25 r26 v19 h1 g0 o_h1))) (va_A (wd_5b5f7811 h0 v0 r0 v1 v2 v3 v4 r1 r2 r3 r4 r5 r6 r7 v5 v6 r8 r9 r10 r11 v7 r12 r13 v8 v9 r14 h1 v10 v11 r15 v12 v13 r16 v14 w15 r17 v16 v17 r18 r19 r20 r21 r22 r23 v18 r24 r25 r26 v19 h1 g0 f20) sz)) 0 0 (va_A (wd_5b5f7811 h0 v0 r0 v1 v2 v3 v4 r1 r2 r3 r4 r5 r6 r7 v5 v6 r8 r9 r10 r11 v7 r12 r13 v8 v9 r14 h1 v10 v11 r15 v12 v13 r16 v14 w15 r17 v16 v17 r18 r19 r20 r21 r22 r23 v18 r24 r25 r26 v19 h1 g0 f20) sz) := by
  refine Met.ofW (cc := cX12_isRefused) (maxL := 2) (ret := (some .boolean)) (by decide) rfl ?_
  intro p e s m args below meth c s₁ B hml hv
  obtain ⟨i_v1a, i_v1b⟩ := i_v1
  obtain ⟨i_v5a, i_v5b⟩ := i_v5
  obtain ⟨i_v6a, i_v6b⟩ := i_v6
  obtain ⟨i_v7a, i_v7b⟩ := i_v7
  obtain ⟨i_v8a, i_v8b⟩ := i_v8
  obtain ⟨i_v9a, i_v9b⟩ := i_v9
  obtain ⟨i_v10a, i_v10b⟩ := i_v10
  obtain ⟨i_v14a, i_v14b⟩ := i_v14
  obtain ⟨i_v18a, i_v18b⟩ := i_v18
  obtain ⟨i_v19a, i_v19b⟩ := i_v19
  obtain ⟨rfl, hsz, hP, hK, hD0⟩ := hv
  have hx := B.exec
  have hb := B.bytes
  have hr := B.returns
  have hts := atoms_spec (ws := q_X12_isRefused_1) B.pre
  have hown : s.vm.findClass RX12 = some m.cls := findClass_of_methodNamed B.named
  have hlocks := B.notSynchronized
  subst hsz
  have hD := hD0.self (sz := s.heap.size)
  generalize hAe : va_A (wd_5b5f7811 h0 v0 r0 v1 v2 v3 v4 r1 r2 r3 r4 r5 r6 r7 v5 v6 r8 r9 r10 r11 v7 r12 r13 v8 v9 r14 h1 v10 v11 r15 v12 v13 r16 v14 w15 r17 v16 v17 r18 r19 r20 r21 r22 r23 v18 r24 r25 r26 v19 h1 g0 f20) s.heap.size = A at hD ⊢
  have hA : ∀ q : Nat, s.heap.size ≤ q → A q := fun q h => by rw [← hAe]; exact Or.inr h
  have hS : va_S A s.heap s.heap [] := va_S.rf
  generalize hQ : (MQ below _ _ s 0 0 A) = Q
  have hl := lv_entry ([.ref h0, .int 0]) (n := 2) (Nat.le_of_ble_eq_true rfl)
  rw [lg_entry_eq]
  generalize (lg_sl ([.ref h0, .int 0]) ++ List.replicate (2 - (lg_sl ([.ref h0, .int 0])).length) Slot.unset).toArray = ls at hl ⊢
  have hl : lv_has ls 2 [(0, .ref h0), (1, .int 0)] := hl
  obtain ⟨H, hH⟩ : ∃ H : Heap, H = s.heap := ⟨_, rfl⟩
  obtain ⟨locs, hlocs⟩ : ∃ y : List Loc, y = [] := ⟨_, rfl⟩
  have hS : va_S A s.heap H locs := by rw [hH, hlocs]; exact va_S.rf
  have hP : va_P (dC, dI) vwCl (wd_5b5f7811 h0 v0 r0 v1 v2 v3 v4 r1 r2 r3 r4 r5 r6 r7 v5 v6 r8 r9 r10 r11 v7 r12 r13 v8 v9 r14 h1 v10 v11 r15 v12 v13 r16 v14 w15 r17 v16 v17 r18 r19 r20 r21 r22 r23 v18 r24 r25 r26 v19 h1 g0 f20) H := by rw [hH]; exact hP
  rw [← hH, ← hlocs]
  refine lv_iload_n hx hb dX12_isRefused_0 rfl (lv_at hl 1 rfl) ?_
  refine lv_iconst (v := (-1)) hx hb dX12_isRefused_1 (by decide) ?_
  refine lv_icmp_eq (tgt := 15) hx hb dX12_isRefused_2 (by decide) (fun c => absurd c (by decide)) (fun _ => ?_)
  refine lv_aload_n hx hb dX12_isRefused_5 rfl (lv_at hl 0 rfl) ?_
  refine va_get (D := (dC, dI)) (ci := 12) (v := .ref h1) (C := RX12) (T := TX12) (N := 48) hx hb hts (fun _ h => List.mem_cons_of_mem _ (List.mem_append_right _ h)) hown hK hP 0 rfl rfl 25 (by decide) (hts (.fieldLink RX12 55 "LeftArgumentsModel" "refused" "[I") (List.mem_cons_of_mem _ (List.mem_append_left _ (List.mem_of_getElem? (i := 0) rfl)))) (fun _ h9 => h9) rfl dX12_isRefused_6 ?_
  refine lv_iload_n hx hb dX12_isRefused_9 rfl (lv_at hl 1 rfl) ?_
  refine lv_dup2_11 hx hb dX12_isRefused_10 rfl rfl ?_
  refine va_iald hx hb hK hP 1 0 rfl rfl (pv_c (x := 0) (n := 5) (by decide)) dX12_isRefused_11 ?_
  refine lv_topi (fun t1 et1 => ?_)
  refine lv_iconst (v := 1) hx hb dX12_isRefused_12 (by decide) ?_
  refine lv_iadd hx hb dX12_isRefused_13 ?_
  refine lv_topi (fun t2 et2 => ?_)
  refine va_iast hx hb hK hP hD hS 1 0 rfl rfl (pv_c (x := 0) (n := 5) (by decide)) dX12_isRefused_14 (fun H locs hP hD hS => ?_)
  obtain ⟨fn3, efn3⟩ : ∃ g : Nat → Int32, g = upd f20 (Int32.toNatClampNeg 0) t2 := ⟨_, rfl⟩
  rw [← efn3] at hP hD
  have hP : va_P (dC, dI) vwCl (wd_5b5f7811 h0 v0 r0 v1 v2 v3 v4 r1 r2 r3 r4 r5 r6 r7 v5 v6 r8 r9 r10 r11 v7 r12 r13 v8 v9 r14 h1 v10 v11 r15 v12 v13 r16 v14 w15 r17 v16 v17 r18 r19 r20 r21 r22 r23 v18 r24 r25 r26 v19 h1 g0 fn3) H := hP
  have hD : va_D A (wd_5b5f7811 h0 v0 r0 v1 v2 v3 v4 r1 r2 r3 r4 r5 r6 r7 v5 v6 r8 r9 r10 r11 v7 r12 r13 v8 v9 r14 h1 v10 v11 r15 v12 v13 r16 v14 w15 r17 v16 v17 r18 r19 r20 r21 r22 r23 v18 r24 r25 r26 v19 h1 g0 fn3) := hD
  refine lv_iload_n hx hb dX12_isRefused_15 rfl (lv_at hl 1 rfl) ?_
  refine lv_iconst (v := (-1)) hx hb dX12_isRefused_16 (by decide) ?_
  refine lv_icmp_eq (tgt := 24) hx hb dX12_isRefused_17 (by decide) (fun c => absurd c (by decide)) (fun _ => ?_)
  refine lv_iconst (v := 1) hx hb dX12_isRefused_20 (by decide) ?_
  refine lv_goto (tgt := 25) hx hb dX12_isRefused_21 (by decide) ?_
  subst hQ
  have hP9 := hP.sub (ws' := (wd_5b5f7811 h0 v0 r0 v1 v2 v3 v4 r1 r2 r3 r4 r5 r6 r7 v5 v6 r8 r9 r10 r11 v7 r12 r13 v8 v9 r14 h1 v10 v11 r15 v12 v13 r16 v14 w15 r17 v16 v17 r18 r19 r20 r21 r22 r23 v18 r24 r25 r26 v19 h1 g0 fn3)) [0, 1] rfl
  have hD9 := hD.sub (ws' := (wd_5b5f7811 h0 v0 r0 v1 v2 v3 v4 r1 r2 r3 r4 r5 r6 r7 v5 v6 r8 r9 r10 r11 v7 r12 r13 v8 v9 r14 h1 v10 v11 r15 v12 v13 r16 v14 w15 r17 v16 v17 r18 r19 r20 r21 r22 r23 v18 r24 r25 r26 v19 h1 g0 fn3)) [0, 1] (by decide) rfl
  have hK9 := hK.sub (tys' := []) [] rfl
  exact W.zret (v := 1) hx hb hr rfl (fun t ht hW => ⟨⟨1, 1, rfl, rfl, ⟨fn3, by first | omega | decide, by first | omega | decide, by rw [ht]; exact hP9, va_K.moved hW.alike hK9, hD9⟩⟩, hS.F ht⟩) hS.2.2 dX12_isRefused_25
def q_X12_call : List Cond := .code yX12_call cX12_call 2 (some .int) :: (([.code yX12_isThere cX12_isThere 2 (some .boolean), .code yX12_in cX12_in 3 (some .boolean), .initialized RX12, .static yX12_in, .methodLink RX12 217 yX12_in, .code yX12_of cX12_of 3 (some .int), .fieldLink RX12 52 "LeftArgumentsModel" "now" "[I", .instanceMethod yX12_of, .selects RX12 yX12_of yX12_of, .methodLink RX12 287 yX12_of, .instanceMethod yX12_isThere, .selects RX12 yX12_isThere yX12_isThere, .methodLink RX12 290 yX12_isThere, .code yX12_isRefused cX12_isRefused 2 (some .boolean), .instanceMethod yX12_isRefused, .selects RX12 yX12_isRefused yX12_isRefused, .methodLink RX12 339 yX12_isRefused, .code yX12_keep cX12_keep 2 none, .fieldLink RX12 275 "LeftArgumentsModel" "acts" "I", .fieldLink RX12 68 "LeftArgumentsModel" "kept" "[I", .instanceMethod yX12_keep, .selects RX12 yX12_keep yX12_keep, .methodLink RX12 342 yX12_keep, .code yX12_callNow cX12_callNow 3 (some .int), .fieldLink RX12 46 "LeftArgumentsModel" "rule" "[I", .methodLink RX12 299 Lib.Math.min.name, .static Lib.Math.min.name, .initialized "java/lang/Math", .code Lib.Math.min.name Lib.Math.min.code 2 (some .int), .code yX12_set cX12_set 4 none, .instanceMethod yX12_set, .selects RX12 yX12_set yX12_set, .methodLink RX12 258 yX12_set, .instanceMethod yX12_callNow, .selects RX12 yX12_callNow yX12_callNow, .methodLink RX12 358 yX12_callNow, .fieldLink RX12 55 "LeftArgumentsModel" "refused" "[I"] : List Cond) ++ wsX120)
set_option maxRecDepth 20000 in
theorem g_X12_call_0 : GoodIn q_X12_call (wsV RX12 290 RX12 yX12_isThere q_X12_isThere) := goodIn_app (goodIn_r _ [13, 11, 12, 3] rfl (by decide +kernel)) (goodIn_ca (goodIn_r (.code yX12_isThere cX12_isThere 2 (some .boolean) :: [.code yX12_in cX12_in 3 (some .boolean), .initialized RX12, .static yX12_in, .methodLink RX12 217 yX12_in, .code yX12_of cX12_of 3 (some .int), .fieldLink RX12 52 "LeftArgumentsModel" "now" "[I", .instanceMethod yX12_of, .selects RX12 yX12_of yX12_of, .methodLink RX12 287 yX12_of]) [1, 2, 3, 4, 5, 6, 7, 8, 9, 10] rfl (by decide +kernel)) (goodIn_sub (fun _ h => List.mem_cons_of_mem _ (List.mem_append_right _ h)) gwX12))
set_option maxRecDepth 20000 in
theorem g_X12_call_1 : GoodIn q_X12_call (wsV RX12 339 RX12 yX12_isRefused q_X12_isRefused) := goodIn_app (goodIn_r _ [17, 15, 16, 3] rfl (by decide +kernel)) (goodIn_r (.code yX12_isRefused cX12_isRefused 2 (some .boolean) :: []) [14] rfl (by decide +kernel))
set_option maxRecDepth 20000 in
theorem g_X12_call_2 : GoodIn q_X12_call (wsV RX12 342 RX12 yX12_keep q_X12_keep) := goodIn_app (goodIn_r _ [23, 21, 22, 3] rfl (by decide +kernel)) (goodIn_ca (goodIn_r (.code yX12_keep cX12_keep 2 none :: [.fieldLink RX12 275 "LeftArgumentsModel" "acts" "I", .fieldLink RX12 68 "LeftArgumentsModel" "kept" "[I", .fieldLink RX12 52 "LeftArgumentsModel" "now" "[I"]) [18, 19, 20, 7] rfl (by decide +kernel)) (goodIn_sub (fun _ h => List.mem_cons_of_mem _ (List.mem_append_right _ h)) gwX12))
set_option maxRecDepth 20000 in
theorem g_X12_call_3 : GoodIn q_X12_call (wsV RX12 358 RX12 yX12_callNow q_X12_callNow) := goodIn_app (goodIn_r _ [36, 34, 35, 3] rfl (by decide +kernel)) (goodIn_ca (goodIn_r (.code yX12_callNow cX12_callNow 3 (some .int) :: [.fieldLink RX12 46 "LeftArgumentsModel" "rule" "[I", .code yX12_of cX12_of 3 (some .int), .fieldLink RX12 52 "LeftArgumentsModel" "now" "[I", .initialized RX12, .instanceMethod yX12_of, .selects RX12 yX12_of yX12_of, .methodLink RX12 287 yX12_of, .methodLink RX12 299 Lib.Math.min.name, .static Lib.Math.min.name, .initialized "java/lang/Math", .code Lib.Math.min.name Lib.Math.min.code 2 (some .int), .code yX12_set cX12_set 4 none, .instanceMethod yX12_set, .selects RX12 yX12_set yX12_set, .methodLink RX12 258 yX12_set]) [24, 25, 6, 7, 3, 8, 9, 10, 26, 27, 28, 29, 30, 31, 32, 33] rfl (by decide +kernel)) (goodIn_sub (fun _ h => List.mem_cons_of_mem _ (List.mem_append_right _ h)) gwX12))
set_option maxRecDepth 20000 in
theorem g_X12_call_4 : GoodIn q_X12_call (wsV RX12 339 RX12 yX12_isRefused q_X12_isRefused_1) := goodIn_app (goodIn_r _ [17, 15, 16, 3] rfl (by decide +kernel)) (goodIn_ca (goodIn_r (.code yX12_isRefused cX12_isRefused 2 (some .boolean) :: [.fieldLink RX12 55 "LeftArgumentsModel" "refused" "[I"]) [14, 37] rfl (by decide +kernel)) (goodIn_sub (fun _ h => List.mem_cons_of_mem _ (List.mem_append_right _ h)) gwX12))
set_option maxHeartbeats 4000000 in
set_option maxRecDepth 100000 in
theorem k_X12_call (l : Launch) (dC : Nat → ClassId) (dI : Nat → Nat → Nat) (h0 : Nat) (h1 : Nat) (h2 : Nat) (h3 : Nat) (h4 : Nat) (v0 : Int32) (r0 : Nat) (v1 : Int32) (v2 : Int32) (v3 : Int32) (v4 : Int32) (r1 : Nat) (r2 : Nat) (r3 : Nat) (r4 : Nat) (r5 : Nat) (r6 : Nat) (r7 : Nat) (v5 : Int32) (v6 : Int32) (r8 : Nat) (r9 : Nat) (r10 : Nat) (r11 : Nat) (v7 : Int32) (r12 : Nat) (v8 : Int32) (v9 : Int32) (v10 : Int32) (v11 : Int32) (r13 : Nat) (v12 : Int32) (v13 : Int32) (v14 : Int32) (w15 : Int64) (r14 : Nat) (v16 : Int32) (v17 : Int32) (r15 : Nat) (r16 : Nat) (r17 : Nat) (r18 : Nat) (r19 : Nat) (r20 : Nat) (v18 : Int32) (r21 : Nat) (r22 : Nat) (r23 : Nat) (v19 : Int32) (g0 : ClassId) (f20 : Nat → Int32) (g1 : ClassId) (f21 : Nat → Int32) (g2 : ClassId) (f22 : Nat → Int32) (g3 : ClassId) (f23 : Nat → Int32) (v24 : Int32) (i_v1 : 0 ≤ v1.toInt ∧ v1.toInt ≤ 240) (i_v5 : 0 ≤ v5.toInt ∧ v5.toInt ≤ 4) (i_v6 : 0 ≤ v6.toInt ∧ v6.toInt ≤ 4) (i_v7 : 0 ≤ v7.toInt ∧ v7.toInt ≤ 8) (i_v8 : 0 ≤ v8.toInt ∧ v8.toInt ≤ 8) (i_v9 : 0 ≤ v9.toInt ∧ v9.toInt ≤ 1) (i_v10 : -1 ≤ v10.toInt ∧ v10.toInt ≤ 3) (i_v14 : 0 ≤ v14.toInt ∧ v14.toInt ≤ 40) (i_v18 : 0 ≤ v18.toInt ∧ v18.toInt ≤ 10) (i_v19 : 0 ≤ v19.toInt ∧ v19.toInt ≤ 1) (ia_f20 : (pm_RU f20)) (ia_f21 : (pm_NW f21)) (ia_f23 : (pm_KP f23)) (sz : Nat) : Met l yX12_call q_X12_call ({ frames := 2, cells := 0, slots := 0, locals := 45 }) (va_Pc [.ref h0, .int v24] (fun U => U.heap.size = sz ∧ va_P (dC, dI) vwCl (wd_56d90344 h0 v0 r0 v1 v2 v3 v4 r1 r2 r3 r4 r5 r6 r7 v5 v6 r8 r9 r10 r11 v7 h1 r12 v8 v9 h2 h3 v10 v11 r13 v12 v13 h4 v14 w15 r14 v16 v17 r15 r16 r17 r18 r19 r20 v18 r21 r22 r23 v19 h1 g0 f20 h2 g1 f21 h3 g2 f22 h4 g3 f23) U.heap ∧ va_K (dC, dI) vwCl [(g0, .int), (g1, .int), (g2, .int), (g3, .int)] U ∧ va_D (fun _ => True) (wd_56d90344 h0 v0 r0 v1 v2 v3 v4 r1 r2 r3 r4 r5 r6 r7 v5 v6 r8 r9 r10 r11 v7 h1 r12 v8 v9 h2 h3 v10 v11 r13 v12 v13 h4 v14 w15 r14 v16 v17 r15 r16 r17 r18 r19 r20 v18 r21 r22 r23 v19 h1 g0 f20 h2 g1 f21 h3 g2 f22 h4 g3 f23))) (va_Qi (fun (r : Int32) (r9 : Int32) => r9 = r) (fun (r : Int32) (t : State) => (∃ (o_h0_32 : Int32) (o_h2 : Nat → Int32) (o_h3 : Nat → Int32) (o_h4 : Nat → Int32), 0 ≤ o_h0_32.toInt ∧ o_h0_32.toInt ≤ 40 ∧ (pm_NW o_h2) ∧ (pm_KP o_h4) ∧ va_P (dC, dI) vwCl (wd_56d90344 h0 v0 r0 v1 v2 v3 v4 r1 r2 r3 r4 r5 r6 r7 v5 v6 r8 r9 r10 r11 v7 h1 r12 v8 v9 h2 h3 v10 v11 r13 v12 v13 h4 o_h0_32 w15 r14 v16 v17 r15 r16 r17 r18 r19 r20 v18 r21 r22 r23 v19 h1 g0 f20 h2 g1 o_h2 h3 g2 o_h3 h4 g3 o_h4) t.heap ∧ va_K (dC, dI) vwCl [] t ∧ va_D (va_A (wd_56d90344 h0 v0 r0 v1 v2 v3 v4 r1 r2 r3 r4 r5 r6 r7 v5 v6 r8 r9 r10 r11 v7 h1 r12 v8 v9 h2 h3 v10 v11 r13 v12 v13 h4 v14 w15 r14 v16 v17 r15 r16 r17 r18 r19 r20 v18 r21 r22 r23 v19 h1 g0 f20 h2 g1 f21 h3 g2 f22 h4 g3 f23) sz) (wd_56d90344 h0 v0 r0 v1 v2 v3 v4 r1 r2 r3 r4 r5 r6 r7 v5 v6 r8 r9 r10 r11 v7 h1 r12 v8 v9 h2 h3 v10 v11 r13 v12 v13 h4 o_h0_32 w15 r14 v16 v17 r15 r16 r17 r18 r19 r20 v18 r21 r22 r23 v19 h1 g0 f20 h2 g1 o_h2 h3 g2 o_h3 h4 g3 o_h4))) (va_A (wd_56d90344 h0 v0 r0 v1 v2 v3 v4 r1 r2 r3 r4 r5 r6 r7 v5 v6 r8 r9 r10 r11 v7 h1 r12 v8 v9 h2 h3 v10 v11 r13 v12 v13 h4 v14 w15 r14 v16 v17 r15 r16 r17 r18 r19 r20 v18 r21 r22 r23 v19 h1 g0 f20 h2 g1 f21 h3 g2 f22 h4 g3 f23) sz)) 0 0 (va_A (wd_56d90344 h0 v0 r0 v1 v2 v3 v4 r1 r2 r3 r4 r5 r6 r7 v5 v6 r8 r9 r10 r11 v7 h1 r12 v8 v9 h2 h3 v10 v11 r13 v12 v13 h4 v14 w15 r14 v16 v17 r15 r16 r17 r18 r19 r20 v18 r21 r22 r23 v19 h1 g0 f20 h2 g1 f21 h3 g2 f22 h4 g3 f23) sz) := by
  refine Met.ofW (cc := cX12_call) (maxL := 2) (ret := (some .int)) (by decide) rfl ?_
  intro p e s m args below meth c s₁ B hml hv
  obtain ⟨i_v1a, i_v1b⟩ := i_v1
  obtain ⟨i_v5a, i_v5b⟩ := i_v5
  obtain ⟨i_v6a, i_v6b⟩ := i_v6
  obtain ⟨i_v7a, i_v7b⟩ := i_v7
  obtain ⟨i_v8a, i_v8b⟩ := i_v8
  obtain ⟨i_v9a, i_v9b⟩ := i_v9
  obtain ⟨i_v10a, i_v10b⟩ := i_v10
  obtain ⟨i_v14a, i_v14b⟩ := i_v14
  obtain ⟨i_v18a, i_v18b⟩ := i_v18
  obtain ⟨i_v19a, i_v19b⟩ := i_v19
  obtain ⟨rfl, hsz, hP, hK, hD0⟩ := hv
  have hx := B.exec
  have hb := B.bytes
  have hr := B.returns
  have hts := atoms_spec (ws := q_X12_call) B.pre
  have hown : s.vm.findClass RX12 = some m.cls := findClass_of_methodNamed B.named
  have hlocks := B.notSynchronized
  subst hsz
  have hD := hD0.self (sz := s.heap.size)
  generalize hAe : va_A (wd_56d90344 h0 v0 r0 v1 v2 v3 v4 r1 r2 r3 r4 r5 r6 r7 v5 v6 r8 r9 r10 r11 v7 h1 r12 v8 v9 h2 h3 v10 v11 r13 v12 v13 h4 v14 w15 r14 v16 v17 r15 r16 r17 r18 r19 r20 v18 r21 r22 r23 v19 h1 g0 f20 h2 g1 f21 h3 g2 f22 h4 g3 f23) s.heap.size = A at hD ⊢
  have hA : ∀ q : Nat, s.heap.size ≤ q → A q := fun q h => by rw [← hAe]; exact Or.inr h
  have hS : va_S A s.heap s.heap [] := va_S.rf
  generalize hQ : (MQ below _ _ s 0 0 A) = Q
  have hl := lv_entry ([.ref h0, .int v24]) (n := 2) (Nat.le_of_ble_eq_true rfl)
  rw [lg_entry_eq]
  generalize (lg_sl ([.ref h0, .int v24]) ++ List.replicate (2 - (lg_sl ([.ref h0, .int v24])).length) Slot.unset).toArray = ls at hl ⊢
  have hl : lv_has ls 2 [(0, .ref h0), (1, .int v24)] := hl
  obtain ⟨H, hH⟩ : ∃ H : Heap, H = s.heap := ⟨_, rfl⟩
  obtain ⟨locs, hlocs⟩ : ∃ y : List Loc, y = [] := ⟨_, rfl⟩
  have hS : va_S A s.heap H locs := by rw [hH, hlocs]; exact va_S.rf
  have hP : va_P (dC, dI) vwCl (wd_56d90344 h0 v0 r0 v1 v2 v3 v4 r1 r2 r3 r4 r5 r6 r7 v5 v6 r8 r9 r10 r11 v7 h1 r12 v8 v9 h2 h3 v10 v11 r13 v12 v13 h4 v14 w15 r14 v16 v17 r15 r16 r17 r18 r19 r20 v18 r21 r22 r23 v19 h1 g0 f20 h2 g1 f21 h3 g2 f22 h4 g3 f23) H := by rw [hH]; exact hP
  rw [← hH, ← hlocs]
  refine lv_aload_n hx hb dX12_call_0 rfl (lv_at hl 0 rfl) ?_
  refine lv_aload_n hx hb dX12_call_1 rfl (lv_at hl 0 rfl) ?_
  refine lv_iload_n hx hb dX12_call_2 rfl (lv_at hl 1 rfl) ?_
  have hPc := hP.sub (ws' := (wd_5013416a h0 v0 r0 v1 v2 v3 v4 r1 r2 r3 r4 r5 r6 r7 v5 v6 r8 r9 r10 r11 v7 h1 r12 v8 v9 h2 h3 v10 v11 r13 v12 v13 h4 v14 w15 r14 v16 v17 r15 r16 r17 r18 r19 r20 v18 r21 r22 r23 v19 h2 g1 f21)) [0, 2] rfl
  have hDc := hD.sub (ws' := (wd_5013416a h0 v0 r0 v1 v2 v3 v4 r1 r2 r3 r4 r5 r6 r7 v5 v6 r8 r9 r10 r11 v7 h1 r12 v8 v9 h2 h3 v10 v11 r13 v12 v13 h4 v14 w15 r14 v16 v17 r15 r16 r17 r18 r19 r20 v18 r21 r22 r23 v19 h2 g1 f21)) [0, 2] (by decide) rfl
  have hKc := hK.sub (tys' := [(g1, .int)]) [1] rfl
  have hFc := va_free (wc := (wd_5013416a h0 v0 r0 v1 v2 v3 v4 r1 r2 r3 r4 r5 r6 r7 v5 v6 r8 r9 r10 r11 v7 h1 r12 v8 v9 h2 h3 v10 v11 r13 v12 v13 h4 v14 w15 r14 v16 v17 r15 r16 r17 r18 r19 r20 v18 r21 r22 r23 v19 h2 g1 f21)) hD hS hA [0, 2] rfl
  refine va_calli (va_runV (As := [.int v24]) (rest := [.ref h0]) ⟨hx, hb, hml, hown, hts⟩ (k_X12_isThere l dC dI h0 h2 v0 r0 v1 v2 v3 v4 r1 r2 r3 r4 r5 r6 r7 v5 v6 r8 r9 r10 r11 v7 h1 r12 v8 v9 h3 v10 v11 r13 v12 v13 h4 v14 w15 r14 v16 v17 r15 r16 r17 r18 r19 r20 v18 r21 r22 r23 v19 g1 f21 v24 ⟨i_v1a, i_v1b⟩ ⟨i_v5a, i_v5b⟩ ⟨i_v6a, i_v6b⟩ ⟨i_v7a, i_v7b⟩ ⟨i_v8a, i_v8b⟩ ⟨i_v9a, i_v9b⟩ ⟨i_v10a, i_v10b⟩ ⟨i_v14a, i_v14b⟩ ⟨i_v18a, i_v18b⟩ ⟨i_v19a, i_v19b⟩ ia_f21.1 H.size) (cwV 1 hts g_X12_call_0 rfl rfl rfl (by decide +kernel) ⟨Nat.le_of_ble_eq_true rfl, Nat.le_of_ble_eq_true rfl⟩) (pv_PV12 hPc hKc hDc (q0 := 0) rfl) rfl rfl hl.1 rfl (lv_room (Nat.le_of_ble_eq_true rfl)) dX12_call_3 ⟨Nat.le_of_ble_eq_true rfl, Nat.le_of_ble_eq_true rfl⟩) hS (fun q _ h => hFc q h) hFc (fun ra1 u t H1 locs ht hvm hwra1 hB hz1 hk1 hS => ?_)
  try rw [hwra1] at hB
  obtain ⟨pt0_ra1, pt1_ra1, pt2_ra1, pt3_ra1, pt4_ra1, pt5_ra1, hP1, hK1, hD1⟩ := hB
  rw [ht] at hP1
  obtain ⟨hP2, hD2⟩ := va_join (wr := (wd_5cc14b98 h1 g0 f20 h3 g2 f22 h4 g3 f23)) (w1 := (wd_5013416a h0 v0 r0 v1 v2 v3 v4 r1 r2 r3 r4 r5 r6 r7 v5 v6 r8 r9 r10 r11 v7 h1 r12 v8 v9 h2 h3 v10 v11 r13 v12 v13 h4 v14 w15 r14 v16 v17 r15 r16 r17 r18 r19 r20 v18 r21 r22 r23 v19 h2 g1 f21)) hP hD [0, 2] [1, 3, 4] rfl rfl (by decide) (by decide) hk1 hFc hP1 hD1
  clear hP hD hPc hDc hKc hFc hP1 hK1 hD1 hk1 hz1
  generalize H1 = H at hP2 hS ⊢
  have hP := hP2.sub (ws' := (wd_56d90344 h0 v0 r0 v1 v2 v3 v4 r1 r2 r3 r4 r5 r6 r7 v5 v6 r8 r9 r10 r11 v7 h1 r12 v8 v9 h2 h3 v10 v11 r13 v12 v13 h4 v14 w15 r14 v16 v17 r15 r16 r17 r18 r19 r20 v18 r21 r22 r23 v19 h1 g0 f20 h2 g1 f21 h3 g2 f22 h4 g3 f23)) [3, 0, 4, 1, 2] rfl
  have hD := hD2.sub (ws' := (wd_56d90344 h0 v0 r0 v1 v2 v3 v4 r1 r2 r3 r4 r5 r6 r7 v5 v6 r8 r9 r10 r11 v7 h1 r12 v8 v9 h2 h3 v10 v11 r13 v12 v13 h4 v14 w15 r14 v16 v17 r15 r16 r17 r18 r19 r20 v18 r21 r22 r23 v19 h1 g0 f20 h2 g1 f21 h3 g2 f22 h4 g3 f23)) [3, 0, 4, 1, 2] (by decide) rfl
  clear hP2 hD2
  refine lv_if_ne (tgt := 13) hx hb dX12_call_6 (by decide) (fun c2 => ?_) (fun c2 => ?_)
  · skip
    have fc2 : ¬ (ra1.toInt = 0) := fun h9 => c2 (Int32.toInt_inj.mp h9)
    have q1pt4_ra1 := pt4_ra1 (by omega)
    refine lv_iconst (v := (-1)) hx hb dX12_call_13 (by decide) ?_
    have hPc := hP.sub (ws' := (wd_171f232f h0 v0 r0 v1 v2 v3 v4 r1 r2 r3 r4 r5 r6 r7 v5 v6 r8 r9 r10 r11 v7 h1 r12 v8 v9 h2 h3 v10 v11 r13 v12 v13 h4 v14 w15 r14 v16 v17 r15 r16 r17 r18 r19 r20 v18 r21 r22 r23 v19)) [0] rfl
    have hDc := hD.sub (ws' := (wd_171f232f h0 v0 r0 v1 v2 v3 v4 r1 r2 r3 r4 r5 r6 r7 v5 v6 r8 r9 r10 r11 v7 h1 r12 v8 v9 h2 h3 v10 v11 r13 v12 v13 h4 v14 w15 r14 v16 v17 r15 r16 r17 r18 r19 r20 v18 r21 r22 r23 v19)) [0] (by decide) rfl
    have hKc := hK.sub (tys' := []) [] rfl
    have hFc := va_free (wc := (wd_171f232f h0 v0 r0 v1 v2 v3 v4 r1 r2 r3 r4 r5 r6 r7 v5 v6 r8 r9 r10 r11 v7 h1 r12 v8 v9 h2 h3 v10 v11 r13 v12 v13 h4 v14 w15 r14 v16 v17 r15 r16 r17 r18 r19 r20 v18 r21 r22 r23 v19)) hD hS hA [0] rfl
    refine va_calli (va_runV (As := [.int (-1)]) (rest := []) ⟨hx, hb, hml, hown, hts⟩ (k_X12_isRefused l dC dI h0 v0 r0 v1 v2 v3 v4 r1 r2 r3 r4 r5 r6 r7 v5 v6 r8 r9 r10 r11 v7 h1 r12 v8 v9 h2 h3 v10 v11 r13 v12 v13 h4 v14 w15 r14 v16 v17 r15 r16 r17 r18 r19 r20 v18 r21 r22 r23 v19 ⟨i_v1a, i_v1b⟩ ⟨i_v5a, i_v5b⟩ ⟨i_v6a, i_v6b⟩ ⟨i_v7a, i_v7b⟩ ⟨i_v8a, i_v8b⟩ ⟨i_v9a, i_v9b⟩ ⟨i_v10a, i_v10b⟩ ⟨i_v14a, i_v14b⟩ ⟨i_v18a, i_v18b⟩ ⟨i_v19a, i_v19b⟩ H.size) (cwV 1 hts g_X12_call_1 rfl rfl rfl (by decide +kernel) ⟨Nat.le_of_ble_eq_true rfl, Nat.le_of_ble_eq_true rfl⟩) (pv_PV12 hPc hKc hDc (q0 := 0) rfl) rfl rfl hl.1 rfl (lv_room (Nat.le_of_ble_eq_true rfl)) dX12_call_14 ⟨Nat.le_of_ble_eq_true rfl, Nat.le_of_ble_eq_true rfl⟩) hS (fun q _ h => hFc q h) hFc (fun ra3 u t H1 locs ht hvm hwra3 hB hz1 hk1 hS => ?_)
    try rw [hwra3] at hB
    obtain ⟨pt0_ra3, pt1_ra3, hP1, hK1, hD1⟩ := hB
    rw [ht] at hP1
    obtain ⟨hP2, hD2⟩ := va_join (wr := (wd_3ac54ae4 h1 g0 f20 h2 g1 f21 h3 g2 f22 h4 g3 f23)) (w1 := (wd_171f232f h0 v0 r0 v1 v2 v3 v4 r1 r2 r3 r4 r5 r6 r7 v5 v6 r8 r9 r10 r11 v7 h1 r12 v8 v9 h2 h3 v10 v11 r13 v12 v13 h4 v14 w15 r14 v16 v17 r15 r16 r17 r18 r19 r20 v18 r21 r22 r23 v19)) hP hD [0] [1, 2, 3, 4] rfl rfl (by decide) (by decide) hk1 hFc hP1 hD1
    clear hP hD hPc hDc hKc hFc hP1 hK1 hD1 hk1 hz1
    generalize H1 = H at hP2 hS ⊢
    have hP := hP2.sub (ws' := (wd_56d90344 h0 v0 r0 v1 v2 v3 v4 r1 r2 r3 r4 r5 r6 r7 v5 v6 r8 r9 r10 r11 v7 h1 r12 v8 v9 h2 h3 v10 v11 r13 v12 v13 h4 v14 w15 r14 v16 v17 r15 r16 r17 r18 r19 r20 v18 r21 r22 r23 v19 h1 g0 f20 h2 g1 f21 h3 g2 f22 h4 g3 f23)) [4, 0, 1, 2, 3] rfl
    have hD := hD2.sub (ws' := (wd_56d90344 h0 v0 r0 v1 v2 v3 v4 r1 r2 r3 r4 r5 r6 r7 v5 v6 r8 r9 r10 r11 v7 h1 r12 v8 v9 h2 h3 v10 v11 r13 v12 v13 h4 v14 w15 r14 v16 v17 r15 r16 r17 r18 r19 r20 v18 r21 r22 r23 v19 h1 g0 f20 h2 g1 f21 h3 g2 f22 h4 g3 f23)) [4, 0, 1, 2, 3] (by decide) rfl
    clear hP2 hD2
    obtain rfl : ra3 = (0 : Int32) := pv_cs (by decide) pt0_ra3 pt1_ra3
    refine lv_if_eq (tgt := 22) hx hb dX12_call_17 (by decide) (fun _ => ?_) (fun c => absurd (by decide) c)
    refine lv_aload_n hx hb dX12_call_22 rfl (lv_at hl 0 rfl) ?_
    have hPc := hP.sub (ws' := (wd_baa7feb8 h0 v0 r0 v1 v2 v3 v4 r1 r2 r3 r4 r5 r6 r7 v5 v6 r8 r9 r10 r11 v7 h1 r12 v8 v9 h2 h3 v10 v11 r13 v12 v13 h4 v14 w15 r14 v16 v17 r15 r16 r17 r18 r19 r20 v18 r21 r22 r23 v19 h2 g1 f21 h4 g3 f23)) [0, 2, 4] rfl
    have hDc := hD.sub (ws' := (wd_baa7feb8 h0 v0 r0 v1 v2 v3 v4 r1 r2 r3 r4 r5 r6 r7 v5 v6 r8 r9 r10 r11 v7 h1 r12 v8 v9 h2 h3 v10 v11 r13 v12 v13 h4 v14 w15 r14 v16 v17 r15 r16 r17 r18 r19 r20 v18 r21 r22 r23 v19 h2 g1 f21 h4 g3 f23)) [0, 2, 4] (by decide) rfl
    have hKc := hK.sub (tys' := [(g1, .int), (g3, .int)]) [1, 3] rfl
    have hFc := va_free (wc := (wd_baa7feb8 h0 v0 r0 v1 v2 v3 v4 r1 r2 r3 r4 r5 r6 r7 v5 v6 r8 r9 r10 r11 v7 h1 r12 v8 v9 h2 h3 v10 v11 r13 v12 v13 h4 v14 w15 r14 v16 v17 r15 r16 r17 r18 r19 r20 v18 r21 r22 r23 v19 h2 g1 f21 h4 g3 f23)) hD hS hA [0, 2, 4] rfl
    refine va_callv (va_runV (As := []) (rest := []) ⟨hx, hb, hml, hown, hts⟩ (k_X12_keep l dC dI h0 h2 h4 v0 r0 v1 v2 v3 v4 r1 r2 r3 r4 r5 r6 r7 v5 v6 r8 r9 r10 r11 v7 h1 r12 v8 v9 h3 v10 v11 r13 v12 v13 v14 w15 r14 v16 v17 r15 r16 r17 r18 r19 r20 v18 r21 r22 r23 v19 g1 f21 g3 f23 ⟨i_v1a, i_v1b⟩ ⟨i_v5a, i_v5b⟩ ⟨i_v6a, i_v6b⟩ ⟨i_v7a, i_v7b⟩ ⟨i_v8a, i_v8b⟩ ⟨i_v9a, i_v9b⟩ ⟨i_v10a, i_v10b⟩ ⟨i_v14a, i_v14b⟩ ⟨i_v18a, i_v18b⟩ ⟨i_v19a, i_v19b⟩ ia_f21 ia_f23 H.size) (cwV 0 hts g_X12_call_2 rfl rfl rfl (by decide +kernel) ⟨Nat.le_of_ble_eq_true rfl, Nat.le_of_ble_eq_true rfl⟩) (pv_PV12 hPc hKc hDc (q0 := 0) rfl) rfl rfl hl.1 rfl (lv_room (Nat.le_of_ble_eq_true rfl)) dX12_call_23 ⟨Nat.le_of_ble_eq_true rfl, Nat.le_of_ble_eq_true rfl⟩) hS (fun q _ h => hFc q h) hFc (fun u t H1 locs ht hvm hwra4 hB hz1 hk1 hS => ?_)
    obtain ⟨x5, fn6, oa_x5, ob_x5, ia_fn6, hP1, hK1, hD1⟩ := hB
    rw [ht] at hP1
    obtain ⟨hP2, hD2⟩ := va_join (wr := (wd_2e233976 h1 g0 f20 h3 g2 f22)) (w1 := (wd_baa7feb8 h0 v0 r0 v1 v2 v3 v4 r1 r2 r3 r4 r5 r6 r7 v5 v6 r8 r9 r10 r11 v7 h1 r12 v8 v9 h2 h3 v10 v11 r13 v12 v13 h4 x5 w15 r14 v16 v17 r15 r16 r17 r18 r19 r20 v18 r21 r22 r23 v19 h2 g1 f21 h4 g3 fn6)) hP hD [0, 2, 4] [1, 3] rfl rfl (by decide) (by decide) hk1 hFc hP1 hD1
    clear hP hD hPc hDc hKc hFc hP1 hK1 hD1 hk1 hz1
    generalize H1 = H at hP2 hS ⊢
    have hP := hP2.sub (ws' := (wd_56d90344 h0 v0 r0 v1 v2 v3 v4 r1 r2 r3 r4 r5 r6 r7 v5 v6 r8 r9 r10 r11 v7 h1 r12 v8 v9 h2 h3 v10 v11 r13 v12 v13 h4 x5 w15 r14 v16 v17 r15 r16 r17 r18 r19 r20 v18 r21 r22 r23 v19 h1 g0 f20 h2 g1 f21 h3 g2 f22 h4 g3 fn6)) [2, 0, 3, 1, 4] rfl
    have hD := hD2.sub (ws' := (wd_56d90344 h0 v0 r0 v1 v2 v3 v4 r1 r2 r3 r4 r5 r6 r7 v5 v6 r8 r9 r10 r11 v7 h1 r12 v8 v9 h2 h3 v10 v11 r13 v12 v13 h4 x5 w15 r14 v16 v17 r15 r16 r17 r18 r19 r20 v18 r21 r22 r23 v19 h1 g0 f20 h2 g1 f21 h3 g2 f22 h4 g3 fn6)) [2, 0, 3, 1, 4] (by decide) rfl
    clear hP2 hD2
    refine lv_aload_n hx hb dX12_call_26 rfl (lv_at hl 0 rfl) ?_
    refine lv_iload_n hx hb dX12_call_27 rfl (lv_at hl 1 rfl) ?_
    have hPc := hP.sub (ws' := (wd_78675856 h0 v0 r0 v1 v2 v3 v4 r1 r2 r3 r4 r5 r6 r7 v5 v6 r8 r9 r10 r11 v7 h1 r12 v8 v9 h2 h3 v10 v11 r13 v12 v13 h4 x5 w15 r14 v16 v17 r15 r16 r17 r18 r19 r20 v18 r21 r22 r23 v19 h1 g0 f20 h2 g1 f21)) [0, 1, 2] rfl
    have hDc := hD.sub (ws' := (wd_78675856 h0 v0 r0 v1 v2 v3 v4 r1 r2 r3 r4 r5 r6 r7 v5 v6 r8 r9 r10 r11 v7 h1 r12 v8 v9 h2 h3 v10 v11 r13 v12 v13 h4 x5 w15 r14 v16 v17 r15 r16 r17 r18 r19 r20 v18 r21 r22 r23 v19 h1 g0 f20 h2 g1 f21)) [0, 1, 2] (by decide) rfl
    have hKc := hK.sub (tys' := [(g0, .int), (g1, .int)]) [0, 1] rfl
    have hFc := va_free (wc := (wd_78675856 h0 v0 r0 v1 v2 v3 v4 r1 r2 r3 r4 r5 r6 r7 v5 v6 r8 r9 r10 r11 v7 h1 r12 v8 v9 h2 h3 v10 v11 r13 v12 v13 h4 x5 w15 r14 v16 v17 r15 r16 r17 r18 r19 r20 v18 r21 r22 r23 v19 h1 g0 f20 h2 g1 f21)) hD hS hA [0, 1, 2] rfl
    refine va_calli (va_runV (As := [.int v24]) (rest := []) ⟨hx, hb, hml, hown, hts⟩ (k_X12_callNow l dC dI h0 h1 h2 v0 r0 v1 v2 v3 v4 r1 r2 r3 r4 r5 r6 r7 v5 v6 r8 r9 r10 r11 v7 r12 v8 v9 h3 v10 v11 r13 v12 v13 h4 x5 w15 r14 v16 v17 r15 r16 r17 r18 r19 r20 v18 r21 r22 r23 v19 g0 f20 g1 f21 v24 ⟨i_v1a, i_v1b⟩ ⟨i_v5a, i_v5b⟩ ⟨i_v6a, i_v6b⟩ ⟨i_v7a, i_v7b⟩ ⟨i_v8a, i_v8b⟩ ⟨i_v9a, i_v9b⟩ ⟨i_v10a, i_v10b⟩ ⟨by first | omega | decide, ob_x5⟩ ⟨i_v18a, i_v18b⟩ ⟨i_v19a, i_v19b⟩ ⟨by first | omega | decide, by first | omega | decide⟩ ia_f20 ia_f21 H.size) (cwV 1 hts g_X12_call_3 rfl rfl rfl (by decide +kernel) ⟨Nat.le_of_ble_eq_true rfl, Nat.le_of_ble_eq_true rfl⟩) (pv_PV12 hPc hKc hDc (q0 := 0) rfl) rfl rfl hl.1 rfl (lv_room (Nat.le_of_ble_eq_true rfl)) dX12_call_28 ⟨Nat.le_of_ble_eq_true rfl, Nat.le_of_ble_eq_true rfl⟩) hS (fun q _ h => hFc q h) hFc (fun ra7 u t H1 locs ht hvm hwra7 hB hz1 hk1 hS => ?_)
    try rw [hwra7] at hB
    obtain ⟨fn8, ia_fn8, hP1, hK1, hD1⟩ := hB
    rw [ht] at hP1
    obtain ⟨hP2, hD2⟩ := va_join (wr := (wd_969f66a9 h3 g2 f22 h4 g3 fn6)) (w1 := (wd_78675856 h0 v0 r0 v1 v2 v3 v4 r1 r2 r3 r4 r5 r6 r7 v5 v6 r8 r9 r10 r11 v7 h1 r12 v8 v9 h2 h3 v10 v11 r13 v12 v13 h4 x5 w15 r14 v16 v17 r15 r16 r17 r18 r19 r20 v18 r21 r22 r23 v19 h1 g0 f20 h2 g1 fn8)) hP hD [0, 1, 2] [3, 4] rfl rfl (by decide) (by decide) hk1 hFc hP1 hD1
    clear hP hD hPc hDc hKc hFc hP1 hK1 hD1 hk1 hz1
    generalize H1 = H at hP2 hS ⊢
    have hP := hP2.sub (ws' := (wd_56d90344 h0 v0 r0 v1 v2 v3 v4 r1 r2 r3 r4 r5 r6 r7 v5 v6 r8 r9 r10 r11 v7 h1 r12 v8 v9 h2 h3 v10 v11 r13 v12 v13 h4 x5 w15 r14 v16 v17 r15 r16 r17 r18 r19 r20 v18 r21 r22 r23 v19 h1 g0 f20 h2 g1 fn8 h3 g2 f22 h4 g3 fn6)) [2, 3, 4, 0, 1] rfl
    have hD := hD2.sub (ws' := (wd_56d90344 h0 v0 r0 v1 v2 v3 v4 r1 r2 r3 r4 r5 r6 r7 v5 v6 r8 r9 r10 r11 v7 h1 r12 v8 v9 h2 h3 v10 v11 r13 v12 v13 h4 x5 w15 r14 v16 v17 r15 r16 r17 r18 r19 r20 v18 r21 r22 r23 v19 h1 g0 f20 h2 g1 fn8 h3 g2 f22 h4 g3 fn6)) [2, 3, 4, 0, 1] (by decide) rfl
    clear hP2 hD2
    subst hQ
    have hP9 := hP.sub (ws' := (wd_56d90344 h0 v0 r0 v1 v2 v3 v4 r1 r2 r3 r4 r5 r6 r7 v5 v6 r8 r9 r10 r11 v7 h1 r12 v8 v9 h2 h3 v10 v11 r13 v12 v13 h4 x5 w15 r14 v16 v17 r15 r16 r17 r18 r19 r20 v18 r21 r22 r23 v19 h1 g0 f20 h2 g1 fn8 h3 g2 f22 h4 g3 fn6)) [0, 1, 2, 3, 4] rfl
    have hD9 := hD.sub (ws' := (wd_56d90344 h0 v0 r0 v1 v2 v3 v4 r1 r2 r3 r4 r5 r6 r7 v5 v6 r8 r9 r10 r11 v7 h1 r12 v8 v9 h2 h3 v10 v11 r13 v12 v13 h4 x5 w15 r14 v16 v17 r15 r16 r17 r18 r19 r20 v18 r21 r22 r23 v19 h1 g0 f20 h2 g1 fn8 h3 g2 f22 h4 g3 fn6)) [0, 1, 2, 3, 4] (by decide) rfl
    have hK9 := hK.sub (tys' := []) [] rfl
    exact W.iret (v := ra7) hx hb hr (fun t ht hW => ⟨⟨ra7, ra7, rfl, rfl, ⟨x5, fn8, f22, fn6, by first | omega | decide, ob_x5, ia_fn8, ia_fn6, by rw [ht]; exact hP9, va_K.moved hW.alike hK9, hD9⟩⟩, hS.F ht⟩) hS.2.2 dX12_call_31
  · skip
    have fc2 : ra1.toInt = 0 := congrArg Int32.toInt c2
    refine lv_iconst (v := 0) hx hb dX12_call_9 (by decide) ?_
    refine lv_goto (tgt := 14) hx hb dX12_call_10 (by decide) ?_
    have hPc := hP.sub (ws' := (wd_5b5f7811 h0 v0 r0 v1 v2 v3 v4 r1 r2 r3 r4 r5 r6 r7 v5 v6 r8 r9 r10 r11 v7 h1 r12 v8 v9 h2 h3 v10 v11 r13 v12 v13 h4 v14 w15 r14 v16 v17 r15 r16 r17 r18 r19 r20 v18 r21 r22 r23 v19 h3 g2 f22)) [0, 3] rfl
    have hDc := hD.sub (ws' := (wd_5b5f7811 h0 v0 r0 v1 v2 v3 v4 r1 r2 r3 r4 r5 r6 r7 v5 v6 r8 r9 r10 r11 v7 h1 r12 v8 v9 h2 h3 v10 v11 r13 v12 v13 h4 v14 w15 r14 v16 v17 r15 r16 r17 r18 r19 r20 v18 r21 r22 r23 v19 h3 g2 f22)) [0, 3] (by decide) rfl
    have hKc := hK.sub (tys' := [(g2, .int)]) [2] rfl
    have hFc := va_free (wc := (wd_5b5f7811 h0 v0 r0 v1 v2 v3 v4 r1 r2 r3 r4 r5 r6 r7 v5 v6 r8 r9 r10 r11 v7 h1 r12 v8 v9 h2 h3 v10 v11 r13 v12 v13 h4 v14 w15 r14 v16 v17 r15 r16 r17 r18 r19 r20 v18 r21 r22 r23 v19 h3 g2 f22)) hD hS hA [0, 3] rfl
    refine va_calli (va_runV (As := [.int 0]) (rest := []) ⟨hx, hb, hml, hown, hts⟩ (k_X12_isRefused_1 l dC dI h0 h3 v0 r0 v1 v2 v3 v4 r1 r2 r3 r4 r5 r6 r7 v5 v6 r8 r9 r10 r11 v7 h1 r12 v8 v9 h2 v10 v11 r13 v12 v13 h4 v14 w15 r14 v16 v17 r15 r16 r17 r18 r19 r20 v18 r21 r22 r23 v19 g2 f22 ⟨i_v1a, i_v1b⟩ ⟨i_v5a, i_v5b⟩ ⟨i_v6a, i_v6b⟩ ⟨i_v7a, i_v7b⟩ ⟨i_v8a, i_v8b⟩ ⟨i_v9a, i_v9b⟩ ⟨i_v10a, i_v10b⟩ ⟨i_v14a, i_v14b⟩ ⟨i_v18a, i_v18b⟩ ⟨i_v19a, i_v19b⟩ H.size) (cwV 1 hts g_X12_call_4 rfl rfl rfl (by decide +kernel) ⟨Nat.le_of_ble_eq_true rfl, Nat.le_of_ble_eq_true rfl⟩) (pv_PV12 hPc hKc hDc (q0 := 0) rfl) rfl rfl hl.1 rfl (lv_room (Nat.le_of_ble_eq_true rfl)) dX12_call_14 ⟨Nat.le_of_ble_eq_true rfl, Nat.le_of_ble_eq_true rfl⟩) hS (fun q _ h => hFc q h) hFc (fun ra9 u t H1 locs ht hvm hwra9 hB hz1 hk1 hS => ?_)
    try rw [hwra9] at hB
    obtain ⟨fn10, pt0_ra9, pt1_ra9, hP1, hK1, hD1⟩ := hB
    rw [ht] at hP1
    obtain ⟨hP2, hD2⟩ := va_join (wr := (wd_4b0b152d h1 g0 f20 h2 g1 f21 h4 g3 f23)) (w1 := (wd_5b5f7811 h0 v0 r0 v1 v2 v3 v4 r1 r2 r3 r4 r5 r6 r7 v5 v6 r8 r9 r10 r11 v7 h1 r12 v8 v9 h2 h3 v10 v11 r13 v12 v13 h4 v14 w15 r14 v16 v17 r15 r16 r17 r18 r19 r20 v18 r21 r22 r23 v19 h3 g2 fn10)) hP hD [0, 3] [1, 2, 4] rfl rfl (by decide) (by decide) hk1 hFc hP1 hD1
    clear hP hD hPc hDc hKc hFc hP1 hK1 hD1 hk1 hz1
    generalize H1 = H at hP2 hS ⊢
    have hP := hP2.sub (ws' := (wd_56d90344 h0 v0 r0 v1 v2 v3 v4 r1 r2 r3 r4 r5 r6 r7 v5 v6 r8 r9 r10 r11 v7 h1 r12 v8 v9 h2 h3 v10 v11 r13 v12 v13 h4 v14 w15 r14 v16 v17 r15 r16 r17 r18 r19 r20 v18 r21 r22 r23 v19 h1 g0 f20 h2 g1 f21 h3 g2 fn10 h4 g3 f23)) [3, 0, 1, 4, 2] rfl
    have hD := hD2.sub (ws' := (wd_56d90344 h0 v0 r0 v1 v2 v3 v4 r1 r2 r3 r4 r5 r6 r7 v5 v6 r8 r9 r10 r11 v7 h1 r12 v8 v9 h2 h3 v10 v11 r13 v12 v13 h4 v14 w15 r14 v16 v17 r15 r16 r17 r18 r19 r20 v18 r21 r22 r23 v19 h1 g0 f20 h2 g1 f21 h3 g2 fn10 h4 g3 f23)) [3, 0, 1, 4, 2] (by decide) rfl
    clear hP2 hD2
    obtain rfl : ra9 = (1 : Int32) := pv_cs (by decide) pt0_ra9 pt1_ra9
    refine lv_if_eq (tgt := 22) hx hb dX12_call_17 (by decide) (fun c => absurd c (by decide)) (fun _ => ?_)
    refine lv_iconst (v := (-1)) hx hb dX12_call_20 (by decide) ?_
    subst hQ
    have hP9 := hP.sub (ws' := (wd_56d90344 h0 v0 r0 v1 v2 v3 v4 r1 r2 r3 r4 r5 r6 r7 v5 v6 r8 r9 r10 r11 v7 h1 r12 v8 v9 h2 h3 v10 v11 r13 v12 v13 h4 v14 w15 r14 v16 v17 r15 r16 r17 r18 r19 r20 v18 r21 r22 r23 v19 h1 g0 f20 h2 g1 f21 h3 g2 fn10 h4 g3 f23)) [0, 1, 2, 3, 4] rfl
    have hD9 := hD.sub (ws' := (wd_56d90344 h0 v0 r0 v1 v2 v3 v4 r1 r2 r3 r4 r5 r6 r7 v5 v6 r8 r9 r10 r11 v7 h1 r12 v8 v9 h2 h3 v10 v11 r13 v12 v13 h4 v14 w15 r14 v16 v17 r15 r16 r17 r18 r19 r20 v18 r21 r22 r23 v19 h1 g0 f20 h2 g1 f21 h3 g2 fn10 h4 g3 f23)) [0, 1, 2, 3, 4] (by decide) rfl
    have hK9 := hK.sub (tys' := []) [] rfl
    exact W.iret (v := (-1)) hx hb hr (fun t ht hW => ⟨⟨(-1), (-1), rfl, rfl, ⟨v14, f21, fn10, f23, i_v14a, i_v14b, ia_f21, ia_f23, by rw [ht]; exact hP9, va_K.moved hW.alike hK9, hD9⟩⟩, hS.F ht⟩) hS.2.2 dX12_call_21
def q_X12_isRefused_2 : List Cond := .code yX12_isRefused cX12_isRefused 2 (some .boolean) :: (([.fieldLink RX12 55 "LeftArgumentsModel" "refused" "[I"] : List Cond) ++ wsX120)
set_option maxHeartbeats 4000000 in
set_option maxRecDepth 100000 in
theorem k_X12_isRefused_2 (l : Launch) (dC : Nat → ClassId) (dI : Nat → Nat → Nat) (h0 : Nat) (h1 : Nat) (v0 : Int32) (r0 : Nat) (v1 : Int32) (v2 : Int32) (v3 : Int32) (v4 : Int32) (r1 : Nat) (r2 : Nat) (r3 : Nat) (r4 : Nat) (r5 : Nat) (r6 : Nat) (r7 : Nat) (v5 : Int32) (v6 : Int32) (r8 : Nat) (r9 : Nat) (r10 : Nat) (r11 : Nat) (v7 : Int32) (r12 : Nat) (r13 : Nat) (v8 : Int32) (v9 : Int32) (r14 : Nat) (v10 : Int32) (v11 : Int32) (r15 : Nat) (v12 : Int32) (v13 : Int32) (r16 : Nat) (v14 : Int32) (w15 : Int64) (r17 : Nat) (v16 : Int32) (v17 : Int32) (r18 : Nat) (r19 : Nat) (r20 : Nat) (r21 : Nat) (r22 : Nat) (r23 : Nat) (v18 : Int32) (r24 : Nat) (r25 : Nat) (r26 : Nat) (v19 : Int32) (g0 : ClassId) (f20 : Nat → Int32) (i_v1 : 0 ≤ v1.toInt ∧ v1.toInt ≤ 240) (i_v5 : 0 ≤ v5.toInt ∧ v5.toInt ≤ 4) (i_v6 : 0 ≤ v6.toInt ∧ v6.toInt ≤ 4) (i_v7 : 0 ≤ v7.toInt ∧ v7.toInt ≤ 8) (i_v8 : 0 ≤ v8.toInt ∧ v8.toInt ≤ 8) (i_v9 : 0 ≤ v9.toInt ∧ v9.toInt ≤ 1) (i_v10 : -1 ≤ v10.toInt ∧ v10.toInt ≤ 3) (i_v14 : 0 ≤ v14.toInt ∧ v14.toInt ≤ 40) (i_v18 : 0 ≤ v18.toInt ∧ v18.toInt ≤ 10) (i_v19 : 0 ≤ v19.toInt ∧ v19.toInt ≤ 1) (sz : Nat) : Met l yX12_isRefused q_X12_isRefused_2 ({ frames := 0, cells := 0, slots := 0, locals := 0 }) (va_Pc [.ref h0, .int 3] (fun U => U.heap.size = sz ∧ va_P (dC, dI) vwCl (wd_5b5f7811 h0 v0 r0 v1 v2 v3 v4 r1 r2 r3 r4 r5 r6 r7 v5 v6 r8 r9 r10 r11 v7 r12 r13 v8 v9 r14 h1 v10 v11 r15 v12 v13 r16 v14 w15 r17 v16 v17 r18 r19 r20 r21 r22 r23 v18 r24 r25 r26 v19 h1 g0 f20) U.heap ∧ va_K (dC, dI) vwCl [(g0, .int)] U ∧ va_D (fun _ => True) (wd_5b5f7811 h0 v0 r0 v1 v2 v3 v4 r1 r2 r3 r4 r5 r6 r7 v5 v6 r8 r9 r10 r11 v7 r12 r13 v8 v9 r14 h1 v10 v11 r15 v12 v13 r16 v14 w15 r17 v16 v17 r18 r19 r20 r21 r22 r23 v18 r24 r25 r26 v19 h1 g0 f20))) (va_Qi (fun (r : Int32) (r9 : Int32) => r9 = r) (fun (r : Int32) (t : State) => (∃ (o_h1 : Nat → Int32), (1 ≤ r.toInt) ∧ (r.toInt ≤ 1) ∧ va_P (dC, dI) vwCl (wd_5b5f7811 h0 v0 r0 v1 v2 v3 v4 r1 r2 r3 r4 r5 r6 r7 v5 v6 r8 r9 r10 r11 v7 r12 r13 v8 v9 r14 h1 v10 v11 r15 v12 v13 r16 v14 w15 r17 v16 v17 r18 r19 r20 r21 r22 r23 v18 r24 r25 r26 v19 h1 g0 o_h1) t.heap ∧ va_K (dC, dI) vwCl [] t ∧ va_D (va_A (wd_5b5f7811 h0 v0 r0 v1 v2 v3 v4 r1 r2 r3 r4 r5 r6 r7 v5 v6 r8 r9 r10 r11 v7 r12 r13 v8 v9 r14 h1 v10 v11 r15 v12 v13 r16 v14 w15 r17 v16 v17 r18 r19 r20 r21 r22 r23 v18 r24 r25 r26 v19 h1 g0 f20) sz) (wd_5b5f7811 h0 v0 r0 v1 v2 v3 v4 r1 r2 r3 r4 r5 r6 r7 v5 v6 r8 r9 r10 r11 v7 r12 r13 v8 v9 r14 h1 v10 v11 r15 v12 v13 r16 v14 w15 r17 v16 v17 r18 r19 r20 r21 r22 r23 v18 r24 r25 r26 v19 h1 g0 o_h1))) (va_A (wd_5b5f7811 h0 v0 r0 v1 v2 v3 v4 r1 r2 r3 r4 r5 r6 r7 v5 v6 r8 r9 r10 r11 v7 r12 r13 v8 v9 r14 h1 v10 v11 r15 v12 v13 r16 v14 w15 r17 v16 v17 r18 r19 r20 r21 r22 r23 v18 r24 r25 r26 v19 h1 g0 f20) sz)) 0 0 (va_A (wd_5b5f7811 h0 v0 r0 v1 v2 v3 v4 r1 r2 r3 r4 r5 r6 r7 v5 v6 r8 r9 r10 r11 v7 r12 r13 v8 v9 r14 h1 v10 v11 r15 v12 v13 r16 v14 w15 r17 v16 v17 r18 r19 r20 r21 r22 r23 v18 r24 r25 r26 v19 h1 g0 f20) sz) := by
  refine Met.ofW (cc := cX12_isRefused) (maxL := 2) (ret := (some .boolean)) (by decide) rfl ?_
  intro p e s m args below meth c s₁ B hml hv
  obtain ⟨i_v1a, i_v1b⟩ := i_v1
  obtain ⟨i_v5a, i_v5b⟩ := i_v5
  obtain ⟨i_v6a, i_v6b⟩ := i_v6
  obtain ⟨i_v7a, i_v7b⟩ := i_v7
  obtain ⟨i_v8a, i_v8b⟩ := i_v8
  obtain ⟨i_v9a, i_v9b⟩ := i_v9
  obtain ⟨i_v10a, i_v10b⟩ := i_v10
  obtain ⟨i_v14a, i_v14b⟩ := i_v14
  obtain ⟨i_v18a, i_v18b⟩ := i_v18
  obtain ⟨i_v19a, i_v19b⟩ := i_v19
  obtain ⟨rfl, hsz, hP, hK, hD0⟩ := hv
  have hx := B.exec
  have hb := B.bytes
  have hr := B.returns
  have hts := atoms_spec (ws := q_X12_isRefused_2) B.pre
  have hown : s.vm.findClass RX12 = some m.cls := findClass_of_methodNamed B.named
  have hlocks := B.notSynchronized
  subst hsz
  have hD := hD0.self (sz := s.heap.size)
  generalize hAe : va_A (wd_5b5f7811 h0 v0 r0 v1 v2 v3 v4 r1 r2 r3 r4 r5 r6 r7 v5 v6 r8 r9 r10 r11 v7 r12 r13 v8 v9 r14 h1 v10 v11 r15 v12 v13 r16 v14 w15 r17 v16 v17 r18 r19 r20 r21 r22 r23 v18 r24 r25 r26 v19 h1 g0 f20) s.heap.size = A at hD ⊢
  have hA : ∀ q : Nat, s.heap.size ≤ q → A q := fun q h => by rw [← hAe]; exact Or.inr h
  have hS : va_S A s.heap s.heap [] := va_S.rf
  generalize hQ : (MQ below _ _ s 0 0 A) = Q
  have hl := lv_entry ([.ref h0, .int 3]) (n := 2) (Nat.le_of_ble_eq_true rfl)
  rw [lg_entry_eq]
  generalize (lg_sl ([.ref h0, .int 3]) ++ List.replicate (2 - (lg_sl ([.ref h0, .int 3])).length) Slot.unset).toArray = ls at hl ⊢
  have hl : lv_has ls 2 [(0, .ref h0), (1, .int 3)] := hl
  obtain ⟨H, hH⟩ : ∃ H : Heap, H = s.heap := ⟨_, rfl⟩
  obtain ⟨locs, hlocs⟩ : ∃ y : List Loc, y = [] := ⟨_, rfl⟩
  have hS : va_S A s.heap H locs := by rw [hH, hlocs]; exact va_S.rf
  have hP : va_P (dC, dI) vwCl (wd_5b5f7811 h0 v0 r0 v1 v2 v3 v4 r1 r2 r3 r4 r5 r6 r7 v5 v6 r8 r9 r10 r11 v7 r12 r13 v8 v9 r14 h1 v10 v11 r15 v12 v13 r16 v14 w15 r17 v16 v17 r18 r19 r20 r21 r22 r23 v18 r24 r25 r26 v19 h1 g0 f20) H := by rw [hH]; exact hP
  rw [← hH, ← hlocs]
  refine lv_iload_n hx hb dX12_isRefused_0 rfl (lv_at hl 1 rfl) ?_
  refine lv_iconst (v := (-1)) hx hb dX12_isRefused_1 (by decide) ?_
  refine lv_icmp_eq (tgt := 15) hx hb dX12_isRefused_2 (by decide) (fun c => absurd c (by decide)) (fun _ => ?_)
  refine lv_aload_n hx hb dX12_isRefused_5 rfl (lv_at hl 0 rfl) ?_
  refine va_get (D := (dC, dI)) (ci := 12) (v := .ref h1) (C := RX12) (T := TX12) (N := 48) hx hb hts (fun _ h => List.mem_cons_of_mem _ (List.mem_append_right _ h)) hown hK hP 0 rfl rfl 25 (by decide) (hts (.fieldLink RX12 55 "LeftArgumentsModel" "refused" "[I") (List.mem_cons_of_mem _ (List.mem_append_left _ (List.mem_of_getElem? (i := 0) rfl)))) (fun _ h9 => h9) rfl dX12_isRefused_6 ?_
  refine lv_iload_n hx hb dX12_isRefused_9 rfl (lv_at hl 1 rfl) ?_
  refine lv_dup2_11 hx hb dX12_isRefused_10 rfl rfl ?_
  refine va_iald hx hb hK hP 1 0 rfl rfl (pv_c (x := 3) (n := 5) (by decide)) dX12_isRefused_11 ?_
  refine lv_topi (fun t1 et1 => ?_)
  refine lv_iconst (v := 1) hx hb dX12_isRefused_12 (by decide) ?_
  refine lv_iadd hx hb dX12_isRefused_13 ?_
  refine lv_topi (fun t2 et2 => ?_)
  refine va_iast hx hb hK hP hD hS 1 0 rfl rfl (pv_c (x := 3) (n := 5) (by decide)) dX12_isRefused_14 (fun H locs hP hD hS => ?_)
  obtain ⟨fn3, efn3⟩ : ∃ g : Nat → Int32, g = upd f20 (Int32.toNatClampNeg 3) t2 := ⟨_, rfl⟩
  rw [← efn3] at hP hD
  have hP : va_P (dC, dI) vwCl (wd_5b5f7811 h0 v0 r0 v1 v2 v3 v4 r1 r2 r3 r4 r5 r6 r7 v5 v6 r8 r9 r10 r11 v7 r12 r13 v8 v9 r14 h1 v10 v11 r15 v12 v13 r16 v14 w15 r17 v16 v17 r18 r19 r20 r21 r22 r23 v18 r24 r25 r26 v19 h1 g0 fn3) H := hP
  have hD : va_D A (wd_5b5f7811 h0 v0 r0 v1 v2 v3 v4 r1 r2 r3 r4 r5 r6 r7 v5 v6 r8 r9 r10 r11 v7 r12 r13 v8 v9 r14 h1 v10 v11 r15 v12 v13 r16 v14 w15 r17 v16 v17 r18 r19 r20 r21 r22 r23 v18 r24 r25 r26 v19 h1 g0 fn3) := hD
  refine lv_iload_n hx hb dX12_isRefused_15 rfl (lv_at hl 1 rfl) ?_
  refine lv_iconst (v := (-1)) hx hb dX12_isRefused_16 (by decide) ?_
  refine lv_icmp_eq (tgt := 24) hx hb dX12_isRefused_17 (by decide) (fun c => absurd c (by decide)) (fun _ => ?_)
  refine lv_iconst (v := 1) hx hb dX12_isRefused_20 (by decide) ?_
  refine lv_goto (tgt := 25) hx hb dX12_isRefused_21 (by decide) ?_
  subst hQ
  have hP9 := hP.sub (ws' := (wd_5b5f7811 h0 v0 r0 v1 v2 v3 v4 r1 r2 r3 r4 r5 r6 r7 v5 v6 r8 r9 r10 r11 v7 r12 r13 v8 v9 r14 h1 v10 v11 r15 v12 v13 r16 v14 w15 r17 v16 v17 r18 r19 r20 r21 r22 r23 v18 r24 r25 r26 v19 h1 g0 fn3)) [0, 1] rfl
  have hD9 := hD.sub (ws' := (wd_5b5f7811 h0 v0 r0 v1 v2 v3 v4 r1 r2 r3 r4 r5 r6 r7 v5 v6 r8 r9 r10 r11 v7 r12 r13 v8 v9 r14 h1 v10 v11 r15 v12 v13 r16 v14 w15 r17 v16 v17 r18 r19 r20 r21 r22 r23 v18 r24 r25 r26 v19 h1 g0 fn3)) [0, 1] (by decide) rfl
  have hK9 := hK.sub (tys' := []) [] rfl
  exact W.zret (v := 1) hx hb hr rfl (fun t ht hW => ⟨⟨1, 1, rfl, rfl, ⟨fn3, by first | omega | decide, by first | omega | decide, by rw [ht]; exact hP9, va_K.moved hW.alike hK9, hD9⟩⟩, hS.F ht⟩) hS.2.2 dX12_isRefused_25
def q_X12_isRefused_3 : List Cond := .code yX12_isRefused cX12_isRefused 2 (some .boolean) :: (([.fieldLink RX12 55 "LeftArgumentsModel" "refused" "[I"] : List Cond) ++ wsX120)
set_option maxHeartbeats 4000000 in
set_option maxRecDepth 100000 in
theorem k_X12_isRefused_3 (l : Launch) (dC : Nat → ClassId) (dI : Nat → Nat → Nat) (h0 : Nat) (h1 : Nat) (v0 : Int32) (r0 : Nat) (v1 : Int32) (v2 : Int32) (v3 : Int32) (v4 : Int32) (r1 : Nat) (r2 : Nat) (r3 : Nat) (r4 : Nat) (r5 : Nat) (r6 : Nat) (r7 : Nat) (v5 : Int32) (v6 : Int32) (r8 : Nat) (r9 : Nat) (r10 : Nat) (r11 : Nat) (v7 : Int32) (r12 : Nat) (r13 : Nat) (v8 : Int32) (v9 : Int32) (r14 : Nat) (v10 : Int32) (v11 : Int32) (r15 : Nat) (v12 : Int32) (v13 : Int32) (r16 : Nat) (v14 : Int32) (w15 : Int64) (r17 : Nat) (v16 : Int32) (v17 : Int32) (r18 : Nat) (r19 : Nat) (r20 : Nat) (r21 : Nat) (r22 : Nat) (r23 : Nat) (v18 : Int32) (r24 : Nat) (r25 : Nat) (r26 : Nat) (v19 : Int32) (g0 : ClassId) (f20 : Nat → Int32) (i_v1 : 0 ≤ v1.toInt ∧ v1.toInt ≤ 240) (i_v5 : 0 ≤ v5.toInt ∧ v5.toInt ≤ 4) (i_v6 : 0 ≤ v6.toInt ∧ v6.toInt ≤ 4) (i_v7 : 0 ≤ v7.toInt ∧ v7.toInt ≤ 8) (i_v8 : 0 ≤ v8.toInt ∧ v8.toInt ≤ 8) (i_v9 : 0 ≤ v9.toInt ∧ v9.toInt ≤ 1) (i_v10 : -1 ≤ v10.toInt ∧ v10.toInt ≤ 3) (i_v14 : 0 ≤ v14.toInt ∧ v14.toInt ≤ 40) (i_v18 : 0 ≤ v18.toInt ∧ v18.toInt ≤ 10) (i_v19 : 0 ≤ v19.toInt ∧ v19.toInt ≤ 1) (sz : Nat) : Met l yX12_isRefused q_X12_isRefused_3 ({ frames := 0, cells := 0, slots := 0, locals := 0 }) (va_Pc [.ref h0, .int 2] (fun U => U.heap.size = sz ∧ va_P (dC, dI) vwCl (wd_5b5f7811 h0 v0 r0 v1 v2 v3 v4 r1 r2 r3 r4 r5 r6 r7 v5 v6 r8 r9 r10 r11 v7 r12 r13 v8 v9 r14 h1 v10 v11 r15 v12 v13 r16 v14 w15 r17 v16 v17 r18 r19 r20 r21 r22 r23 v18 r24 r25 r26 v19 h1 g0 f20) U.heap ∧ va_K (dC, dI) vwCl [(g0, .int)] U ∧ va_D (fun _ => True) (wd_5b5f7811 h0 v0 r0 v1 v2 v3 v4 r1 r2 r3 r4 r5 r6 r7 v5 v6 r8 r9 r10 r11 v7 r12 r13 v8 v9 r14 h1 v10 v11 r15 v12 v13 r16 v14 w15 r17 v16 v17 r18 r19 r20 r21 r22 r23 v18 r24 r25 r26 v19 h1 g0 f20))) (va_Qi (fun (r : Int32) (r9 : Int32) => r9 = r) (fun (r : Int32) (t : State) => (∃ (o_h1 : Nat → Int32), (1 ≤ r.toInt) ∧ (r.toInt ≤ 1) ∧ va_P (dC, dI) vwCl (wd_5b5f7811 h0 v0 r0 v1 v2 v3 v4 r1 r2 r3 r4 r5 r6 r7 v5 v6 r8 r9 r10 r11 v7 r12 r13 v8 v9 r14 h1 v10 v11 r15 v12 v13 r16 v14 w15 r17 v16 v17 r18 r19 r20 r21 r22 r23 v18 r24 r25 r26 v19 h1 g0 o_h1) t.heap ∧ va_K (dC, dI) vwCl [] t ∧ va_D (va_A (wd_5b5f7811 h0 v0 r0 v1 v2 v3 v4 r1 r2 r3 r4 r5 r6 r7 v5 v6 r8 r9 r10 r11 v7 r12 r13 v8 v9 r14 h1 v10 v11 r15 v12 v13 r16 v14 w15 r17 v16 v17 r18 r19 r20 r21 r22 r23 v18 r24 r25 r26 v19 h1 g0 f20) sz) (wd_5b5f7811 h0 v0 r0 v1 v2 v3 v4 r1 r2 r3 r4 r5 r6 r7 v5 v6 r8 r9 r10 r11 v7 r12 r13 v8 v9 r14 h1 v10 v11 r15 v12 v13 r16 v14 w15 r17 v16 v17 r18 r19 r20 r21 r22 r23 v18 r24 r25 r26 v19 h1 g0 o_h1))) (va_A (wd_5b5f7811 h0 v0 r0 v1 v2 v3 v4 r1 r2 r3 r4 r5 r6 r7 v5 v6 r8 r9 r10 r11 v7 r12 r13 v8 v9 r14 h1 v10 v11 r15 v12 v13 r16 v14 w15 r17 v16 v17 r18 r19 r20 r21 r22 r23 v18 r24 r25 r26 v19 h1 g0 f20) sz)) 0 0 (va_A (wd_5b5f7811 h0 v0 r0 v1 v2 v3 v4 r1 r2 r3 r4 r5 r6 r7 v5 v6 r8 r9 r10 r11 v7 r12 r13 v8 v9 r14 h1 v10 v11 r15 v12 v13 r16 v14 w15 r17 v16 v17 r18 r19 r20 r21 r22 r23 v18 r24 r25 r26 v19 h1 g0 f20) sz) := by
  refine Met.ofW (cc := cX12_isRefused) (maxL := 2) (ret := (some .boolean)) (by decide) rfl ?_
  intro p e s m args below meth c s₁ B hml hv
  obtain ⟨i_v1a, i_v1b⟩ := i_v1
  obtain ⟨i_v5a, i_v5b⟩ := i_v5
  obtain ⟨i_v6a, i_v6b⟩ := i_v6
  obtain ⟨i_v7a, i_v7b⟩ := i_v7
  obtain ⟨i_v8a, i_v8b⟩ := i_v8
  obtain ⟨i_v9a, i_v9b⟩ := i_v9
  obtain ⟨i_v10a, i_v10b⟩ := i_v10
  obtain ⟨i_v14a, i_v14b⟩ := i_v14
  obtain ⟨i_v18a, i_v18b⟩ := i_v18
  obtain ⟨i_v19a, i_v19b⟩ := i_v19
  obtain ⟨rfl, hsz, hP, hK, hD0⟩ := hv
  have hx := B.exec
  have hb := B.bytes
  have hr := B.returns
  have hts := atoms_spec (ws := q_X12_isRefused_3) B.pre
  have hown : s.vm.findClass RX12 = some m.cls := findClass_of_methodNamed B.named
  have hlocks := B.notSynchronized
  subst hsz
  have hD := hD0.self (sz := s.heap.size)
  generalize hAe : va_A (wd_5b5f7811 h0 v0 r0 v1 v2 v3 v4 r1 r2 r3 r4 r5 r6 r7 v5 v6 r8 r9 r10 r11 v7 r12 r13 v8 v9 r14 h1 v10 v11 r15 v12 v13 r16 v14 w15 r17 v16 v17 r18 r19 r20 r21 r22 r23 v18 r24 r25 r26 v19 h1 g0 f20) s.heap.size = A at hD ⊢
  have hA : ∀ q : Nat, s.heap.size ≤ q → A q := fun q h => by rw [← hAe]; exact Or.inr h
  have hS : va_S A s.heap s.heap [] := va_S.rf
  generalize hQ : (MQ below _ _ s 0 0 A) = Q
  have hl := lv_entry ([.ref h0, .int 2]) (n := 2) (Nat.le_of_ble_eq_true rfl)
  rw [lg_entry_eq]
  generalize (lg_sl ([.ref h0, .int 2]) ++ List.replicate (2 - (lg_sl ([.ref h0, .int 2])).length) Slot.unset).toArray = ls at hl ⊢
  have hl : lv_has ls 2 [(0, .ref h0), (1, .int 2)] := hl
  obtain ⟨H, hH⟩ : ∃ H : Heap, H = s.heap := ⟨_, rfl⟩
  obtain ⟨locs, hlocs⟩ : ∃ y : List Loc, y = [] := ⟨_, rfl⟩
  have hS : va_S A s.heap H locs := by rw [hH, hlocs]; exact va_S.rf
  have hP : va_P (dC, dI) vwCl (wd_5b5f7811 h0 v0 r0 v1 v2 v3 v4 r1 r2 r3 r4 r5 r6 r7 v5 v6 r8 r9 r10 r11 v7 r12 r13 v8 v9 r14 h1 v10 v11 r15 v12 v13 r16 v14 w15 r17 v16 v17 r18 r19 r20 r21 r22 r23 v18 r24 r25 r26 v19 h1 g0 f20) H := by rw [hH]; exact hP
  rw [← hH, ← hlocs]
  refine lv_iload_n hx hb dX12_isRefused_0 rfl (lv_at hl 1 rfl) ?_
  refine lv_iconst (v := (-1)) hx hb dX12_isRefused_1 (by decide) ?_
  refine lv_icmp_eq (tgt := 15) hx hb dX12_isRefused_2 (by decide) (fun c => absurd c (by decide)) (fun _ => ?_)
  refine lv_aload_n hx hb dX12_isRefused_5 rfl (lv_at hl 0 rfl) ?_
  refine va_get (D := (dC, dI)) (ci := 12) (v := .ref h1) (C := RX12) (T := TX12) (N := 48) hx hb hts (fun _ h => List.mem_cons_of_mem _ (List.mem_append_right _ h)) hown hK hP 0 rfl rfl 25 (by decide) (hts (.fieldLink RX12 55 "LeftArgumentsModel" "refused" "[I") (List.mem_cons_of_mem _ (List.mem_append_left _ (List.mem_of_getElem? (i := 0) rfl)))) (fun _ h9 => h9) rfl dX12_isRefused_6 ?_
  refine lv_iload_n hx hb dX12_isRefused_9 rfl (lv_at hl 1 rfl) ?_
  refine lv_dup2_11 hx hb dX12_isRefused_10 rfl rfl ?_
  refine va_iald hx hb hK hP 1 0 rfl rfl (pv_c (x := 2) (n := 5) (by decide)) dX12_isRefused_11 ?_
  refine lv_topi (fun t1 et1 => ?_)
  refine lv_iconst (v := 1) hx hb dX12_isRefused_12 (by decide) ?_
  refine lv_iadd hx hb dX12_isRefused_13 ?_
  refine lv_topi (fun t2 et2 => ?_)
  refine va_iast hx hb hK hP hD hS 1 0 rfl rfl (pv_c (x := 2) (n := 5) (by decide)) dX12_isRefused_14 (fun H locs hP hD hS => ?_)
  obtain ⟨fn3, efn3⟩ : ∃ g : Nat → Int32, g = upd f20 (Int32.toNatClampNeg 2) t2 := ⟨_, rfl⟩
  rw [← efn3] at hP hD
  have hP : va_P (dC, dI) vwCl (wd_5b5f7811 h0 v0 r0 v1 v2 v3 v4 r1 r2 r3 r4 r5 r6 r7 v5 v6 r8 r9 r10 r11 v7 r12 r13 v8 v9 r14 h1 v10 v11 r15 v12 v13 r16 v14 w15 r17 v16 v17 r18 r19 r20 r21 r22 r23 v18 r24 r25 r26 v19 h1 g0 fn3) H := hP
  have hD : va_D A (wd_5b5f7811 h0 v0 r0 v1 v2 v3 v4 r1 r2 r3 r4 r5 r6 r7 v5 v6 r8 r9 r10 r11 v7 r12 r13 v8 v9 r14 h1 v10 v11 r15 v12 v13 r16 v14 w15 r17 v16 v17 r18 r19 r20 r21 r22 r23 v18 r24 r25 r26 v19 h1 g0 fn3) := hD
  refine lv_iload_n hx hb dX12_isRefused_15 rfl (lv_at hl 1 rfl) ?_
  refine lv_iconst (v := (-1)) hx hb dX12_isRefused_16 (by decide) ?_
  refine lv_icmp_eq (tgt := 24) hx hb dX12_isRefused_17 (by decide) (fun c => absurd c (by decide)) (fun _ => ?_)
  refine lv_iconst (v := 1) hx hb dX12_isRefused_20 (by decide) ?_
  refine lv_goto (tgt := 25) hx hb dX12_isRefused_21 (by decide) ?_
  subst hQ
  have hP9 := hP.sub (ws' := (wd_5b5f7811 h0 v0 r0 v1 v2 v3 v4 r1 r2 r3 r4 r5 r6 r7 v5 v6 r8 r9 r10 r11 v7 r12 r13 v8 v9 r14 h1 v10 v11 r15 v12 v13 r16 v14 w15 r17 v16 v17 r18 r19 r20 r21 r22 r23 v18 r24 r25 r26 v19 h1 g0 fn3)) [0, 1] rfl
  have hD9 := hD.sub (ws' := (wd_5b5f7811 h0 v0 r0 v1 v2 v3 v4 r1 r2 r3 r4 r5 r6 r7 v5 v6 r8 r9 r10 r11 v7 r12 r13 v8 v9 r14 h1 v10 v11 r15 v12 v13 r16 v14 w15 r17 v16 v17 r18 r19 r20 r21 r22 r23 v18 r24 r25 r26 v19 h1 g0 fn3)) [0, 1] (by decide) rfl
  have hK9 := hK.sub (tys' := []) [] rfl
  exact W.zret (v := 1) hx hb hr rfl (fun t ht hW => ⟨⟨1, 1, rfl, rfl, ⟨fn3, by first | omega | decide, by first | omega | decide, by rw [ht]; exact hP9, va_K.moved hW.alike hK9, hD9⟩⟩, hS.F ht⟩) hS.2.2 dX12_isRefused_25
def q_X12_isRefused_4 : List Cond := .code yX12_isRefused cX12_isRefused 2 (some .boolean) :: (([.fieldLink RX12 55 "LeftArgumentsModel" "refused" "[I"] : List Cond) ++ wsX120)
set_option maxHeartbeats 4000000 in
set_option maxRecDepth 100000 in
theorem k_X12_isRefused_4 (l : Launch) (dC : Nat → ClassId) (dI : Nat → Nat → Nat) (h0 : Nat) (h1 : Nat) (v0 : Int32) (r0 : Nat) (v1 : Int32) (v2 : Int32) (v3 : Int32) (v4 : Int32) (r1 : Nat) (r2 : Nat) (r3 : Nat) (r4 : Nat) (r5 : Nat) (r6 : Nat) (r7 : Nat) (v5 : Int32) (v6 : Int32) (r8 : Nat) (r9 : Nat) (r10 : Nat) (r11 : Nat) (v7 : Int32) (r12 : Nat) (r13 : Nat) (v8 : Int32) (v9 : Int32) (r14 : Nat) (v10 : Int32) (v11 : Int32) (r15 : Nat) (v12 : Int32) (v13 : Int32) (r16 : Nat) (v14 : Int32) (w15 : Int64) (r17 : Nat) (v16 : Int32) (v17 : Int32) (r18 : Nat) (r19 : Nat) (r20 : Nat) (r21 : Nat) (r22 : Nat) (r23 : Nat) (v18 : Int32) (r24 : Nat) (r25 : Nat) (r26 : Nat) (v19 : Int32) (g0 : ClassId) (f20 : Nat → Int32) (i_v1 : 0 ≤ v1.toInt ∧ v1.toInt ≤ 240) (i_v5 : 0 ≤ v5.toInt ∧ v5.toInt ≤ 4) (i_v6 : 0 ≤ v6.toInt ∧ v6.toInt ≤ 4) (i_v7 : 0 ≤ v7.toInt ∧ v7.toInt ≤ 8) (i_v8 : 0 ≤ v8.toInt ∧ v8.toInt ≤ 8) (i_v9 : 0 ≤ v9.toInt ∧ v9.toInt ≤ 1) (i_v10 : -1 ≤ v10.toInt ∧ v10.toInt ≤ 3) (i_v14 : 0 ≤ v14.toInt ∧ v14.toInt ≤ 40) (i_v18 : 0 ≤ v18.toInt ∧ v18.toInt ≤ 10) (i_v19 : 0 ≤ v19.toInt ∧ v19.toInt ≤ 1) (sz : Nat) : Met l yX12_isRefused q_X12_isRefused_4 ({ frames := 0, cells := 0, slots := 0, locals := 0 }) (va_Pc [.ref h0, .int 1] (fun U => U.heap.size = sz ∧ va_P (dC, dI) vwCl (wd_5b5f7811 h0 v0 r0 v1 v2 v3 v4 r1 r2 r3 r4 r5 r6 r7 v5 v6 r8 r9 r10 r11 v7 r12 r13 v8 v9 r14 h1 v10 v11 r15 v12 v13 r16 v14 w15 r17 v16 v17 r18 r19 r20 r21 r22 r23 v18 r24 r25 r26 v19 h1 g0 f20) U.heap ∧ va_K (dC, dI) vwCl [(g0, .int)] U ∧ va_D (fun _ => True) (wd_5b5f7811 h0 v0 r0 v1 v2 v3 v4 r1 r2 r3 r4 r5 r6 r7 v5 v6 r8 r9 r10 r11 v7 r12 r13 v8 v9 r14 h1 v10 v11 r15 v12 v13 r16 v14 w15 r17 v16 v17 r18 r19 r20 r21 r22 r23 v18 r24 r25 r26 v19 h1 g0 f20))) (va_Qi (fun (r : Int32) (r9 : Int32) => r9 = r) (fun (r : Int32) (t : State) => (∃ (o_h1 : Nat → Int32), (1 ≤ r.toInt) ∧ (r.toInt ≤ 1) ∧ va_P (dC, dI) vwCl (wd_5b5f7811 h0 v0 r0 v1 v2 v3 v4 r1 r2 r3 r4 r5 r6 r7 v5 v6 r8 r9 r10 r11 v7 r12 r13 v8 v9 r14 h1 v10 v11 r15 v12 v13 r16 v14 w15 r17 v16 v17 r18 r19 r20 r21 r22 r23 v18 r24 r25 r26 v19 h1 g0 o_h1) t.heap ∧ va_K (dC, dI) vwCl [] t ∧ va_D (va_A (wd_5b5f7811 h0 v0 r0 v1 v2 v3 v4 r1 r2 r3 r4 r5 r6 r7 v5 v6 r8 r9 r10 r11 v7 r12 r13 v8 v9 r14 h1 v10 v11 r15 v12 v13 r16 v14 w15 r17 v16 v17 r18 r19 r20 r21 r22 r23 v18 r24 r25 r26 v19 h1 g0 f20) sz) (wd_5b5f7811 h0 v0 r0 v1 v2 v3 v4 r1 r2 r3 r4 r5 r6 r7 v5 v6 r8 r9 r10 r11 v7 r12 r13 v8 v9 r14 h1 v10 v11 r15 v12 v13 r16 v14 w15 r17 v16 v17 r18 r19 r20 r21 r22 r23 v18 r24 r25 r26 v19 h1 g0 o_h1))) (va_A (wd_5b5f7811 h0 v0 r0 v1 v2 v3 v4 r1 r2 r3 r4 r5 r6 r7 v5 v6 r8 r9 r10 r11 v7 r12 r13 v8 v9 r14 h1 v10 v11 r15 v12 v13 r16 v14 w15 r17 v16 v17 r18 r19 r20 r21 r22 r23 v18 r24 r25 r26 v19 h1 g0 f20) sz)) 0 0 (va_A (wd_5b5f7811 h0 v0 r0 v1 v2 v3 v4 r1 r2 r3 r4 r5 r6 r7 v5 v6 r8 r9 r10 r11 v7 r12 r13 v8 v9 r14 h1 v10 v11 r15 v12 v13 r16 v14 w15 r17 v16 v17 r18 r19 r20 r21 r22 r23 v18 r24 r25 r26 v19 h1 g0 f20) sz) := by
  refine Met.ofW (cc := cX12_isRefused) (maxL := 2) (ret := (some .boolean)) (by decide) rfl ?_
  intro p e s m args below meth c s₁ B hml hv
  obtain ⟨i_v1a, i_v1b⟩ := i_v1
  obtain ⟨i_v5a, i_v5b⟩ := i_v5
  obtain ⟨i_v6a, i_v6b⟩ := i_v6
  obtain ⟨i_v7a, i_v7b⟩ := i_v7
  obtain ⟨i_v8a, i_v8b⟩ := i_v8
  obtain ⟨i_v9a, i_v9b⟩ := i_v9
  obtain ⟨i_v10a, i_v10b⟩ := i_v10
  obtain ⟨i_v14a, i_v14b⟩ := i_v14
  obtain ⟨i_v18a, i_v18b⟩ := i_v18
  obtain ⟨i_v19a, i_v19b⟩ := i_v19
  obtain ⟨rfl, hsz, hP, hK, hD0⟩ := hv
  have hx := B.exec
  have hb := B.bytes
  have hr := B.returns
  have hts := atoms_spec (ws := q_X12_isRefused_4) B.pre
  have hown : s.vm.findClass RX12 = some m.cls := findClass_of_methodNamed B.named
  have hlocks := B.notSynchronized
  subst hsz
  have hD := hD0.self (sz := s.heap.size)
  generalize hAe : va_A (wd_5b5f7811 h0 v0 r0 v1 v2 v3 v4 r1 r2 r3 r4 r5 r6 r7 v5 v6 r8 r9 r10 r11 v7 r12 r13 v8 v9 r14 h1 v10 v11 r15 v12 v13 r16 v14 w15 r17 v16 v17 r18 r19 r20 r21 r22 r23 v18 r24 r25 r26 v19 h1 g0 f20) s.heap.size = A at hD ⊢
  have hA : ∀ q : Nat, s.heap.size ≤ q → A q := fun q h => by rw [← hAe]; exact Or.inr h
  have hS : va_S A s.heap s.heap [] := va_S.rf
  generalize hQ : (MQ below _ _ s 0 0 A) = Q
  have hl := lv_entry ([.ref h0, .int 1]) (n := 2) (Nat.le_of_ble_eq_true rfl)
  rw [lg_entry_eq]
  generalize (lg_sl ([.ref h0, .int 1]) ++ List.replicate (2 - (lg_sl ([.ref h0, .int 1])).length) Slot.unset).toArray = ls at hl ⊢
  have hl : lv_has ls 2 [(0, .ref h0), (1, .int 1)] := hl
  obtain ⟨H, hH⟩ : ∃ H : Heap, H = s.heap := ⟨_, rfl⟩
  obtain ⟨locs, hlocs⟩ : ∃ y : List Loc, y = [] := ⟨_, rfl⟩
  have hS : va_S A s.heap H locs := by rw [hH, hlocs]; exact va_S.rf
  have hP : va_P (dC, dI) vwCl (wd_5b5f7811 h0 v0 r0 v1 v2 v3 v4 r1 r2 r3 r4 r5 r6 r7 v5 v6 r8 r9 r10 r11 v7 r12 r13 v8 v9 r14 h1 v10 v11 r15 v12 v13 r16 v14 w15 r17 v16 v17 r18 r19 r20 r21 r22 r23 v18 r24 r25 r26 v19 h1 g0 f20) H := by rw [hH]; exact hP
  rw [← hH, ← hlocs]
  refine lv_iload_n hx hb dX12_isRefused_0 rfl (lv_at hl 1 rfl) ?_
  refine lv_iconst (v := (-1)) hx hb dX12_isRefused_1 (by decide) ?_
  refine lv_icmp_eq (tgt := 15) hx hb dX12_isRefused_2 (by decide) (fun c => absurd c (by decide)) (fun _ => ?_)
  refine lv_aload_n hx hb dX12_isRefused_5 rfl (lv_at hl 0 rfl) ?_
  refine va_get (D := (dC, dI)) (ci := 12) (v := .ref h1) (C := RX12) (T := TX12) (N := 48) hx hb hts (fun _ h => List.mem_cons_of_mem _ (List.mem_append_right _ h)) hown hK hP 0 rfl rfl 25 (by decide) (hts (.fieldLink RX12 55 "LeftArgumentsModel" "refused" "[I") (List.mem_cons_of_mem _ (List.mem_append_left _ (List.mem_of_getElem? (i := 0) rfl)))) (fun _ h9 => h9) rfl dX12_isRefused_6 ?_
  refine lv_iload_n hx hb dX12_isRefused_9 rfl (lv_at hl 1 rfl) ?_
  refine lv_dup2_11 hx hb dX12_isRefused_10 rfl rfl ?_
  refine va_iald hx hb hK hP 1 0 rfl rfl (pv_c (x := 1) (n := 5) (by decide)) dX12_isRefused_11 ?_
  refine lv_topi (fun t1 et1 => ?_)
  refine lv_iconst (v := 1) hx hb dX12_isRefused_12 (by decide) ?_
  refine lv_iadd hx hb dX12_isRefused_13 ?_
  refine lv_topi (fun t2 et2 => ?_)
  refine va_iast hx hb hK hP hD hS 1 0 rfl rfl (pv_c (x := 1) (n := 5) (by decide)) dX12_isRefused_14 (fun H locs hP hD hS => ?_)
  obtain ⟨fn3, efn3⟩ : ∃ g : Nat → Int32, g = upd f20 (Int32.toNatClampNeg 1) t2 := ⟨_, rfl⟩
  rw [← efn3] at hP hD
  have hP : va_P (dC, dI) vwCl (wd_5b5f7811 h0 v0 r0 v1 v2 v3 v4 r1 r2 r3 r4 r5 r6 r7 v5 v6 r8 r9 r10 r11 v7 r12 r13 v8 v9 r14 h1 v10 v11 r15 v12 v13 r16 v14 w15 r17 v16 v17 r18 r19 r20 r21 r22 r23 v18 r24 r25 r26 v19 h1 g0 fn3) H := hP
  have hD : va_D A (wd_5b5f7811 h0 v0 r0 v1 v2 v3 v4 r1 r2 r3 r4 r5 r6 r7 v5 v6 r8 r9 r10 r11 v7 r12 r13 v8 v9 r14 h1 v10 v11 r15 v12 v13 r16 v14 w15 r17 v16 v17 r18 r19 r20 r21 r22 r23 v18 r24 r25 r26 v19 h1 g0 fn3) := hD
  refine lv_iload_n hx hb dX12_isRefused_15 rfl (lv_at hl 1 rfl) ?_
  refine lv_iconst (v := (-1)) hx hb dX12_isRefused_16 (by decide) ?_
  refine lv_icmp_eq (tgt := 24) hx hb dX12_isRefused_17 (by decide) (fun c => absurd c (by decide)) (fun _ => ?_)
  refine lv_iconst (v := 1) hx hb dX12_isRefused_20 (by decide) ?_
  refine lv_goto (tgt := 25) hx hb dX12_isRefused_21 (by decide) ?_
  subst hQ
  have hP9 := hP.sub (ws' := (wd_5b5f7811 h0 v0 r0 v1 v2 v3 v4 r1 r2 r3 r4 r5 r6 r7 v5 v6 r8 r9 r10 r11 v7 r12 r13 v8 v9 r14 h1 v10 v11 r15 v12 v13 r16 v14 w15 r17 v16 v17 r18 r19 r20 r21 r22 r23 v18 r24 r25 r26 v19 h1 g0 fn3)) [0, 1] rfl
  have hD9 := hD.sub (ws' := (wd_5b5f7811 h0 v0 r0 v1 v2 v3 v4 r1 r2 r3 r4 r5 r6 r7 v5 v6 r8 r9 r10 r11 v7 r12 r13 v8 v9 r14 h1 v10 v11 r15 v12 v13 r16 v14 w15 r17 v16 v17 r18 r19 r20 r21 r22 r23 v18 r24 r25 r26 v19 h1 g0 fn3)) [0, 1] (by decide) rfl
  have hK9 := hK.sub (tys' := []) [] rfl
  exact W.zret (v := 1) hx hb hr rfl (fun t ht hW => ⟨⟨1, 1, rfl, rfl, ⟨fn3, by first | omega | decide, by first | omega | decide, by rw [ht]; exact hP9, va_K.moved hW.alike hK9, hD9⟩⟩, hS.F ht⟩) hS.2.2 dX12_isRefused_25
def q_X12_move : List Cond := .code yX12_move cX12_move 4 (some .int) :: (([.code yX12_isThere cX12_isThere 2 (some .boolean), .code yX12_in cX12_in 3 (some .boolean), .initialized RX12, .static yX12_in, .methodLink RX12 217 yX12_in, .code yX12_of cX12_of 3 (some .int), .fieldLink RX12 52 "LeftArgumentsModel" "now" "[I", .instanceMethod yX12_of, .selects RX12 yX12_of yX12_of, .methodLink RX12 287 yX12_of, .instanceMethod yX12_isThere, .selects RX12 yX12_isThere yX12_isThere, .methodLink RX12 290 yX12_isThere, .code yX12_isShelf cX12_isShelf 2 (some .boolean), .fieldLink RX12 46 "LeftArgumentsModel" "rule" "[I", .instanceMethod yX12_isShelf, .selects RX12 yX12_isShelf yX12_isShelf, .methodLink RX12 333 yX12_isShelf, .code yX12_isRefused cX12_isRefused 2 (some .boolean), .instanceMethod yX12_isRefused, .selects RX12 yX12_isRefused yX12_isRefused, .methodLink RX12 339 yX12_isRefused, .code yX12_keep cX12_keep 2 none, .fieldLink RX12 275 "LeftArgumentsModel" "acts" "I", .fieldLink RX12 68 "LeftArgumentsModel" "kept" "[I", .instanceMethod yX12_keep, .selects RX12 yX12_keep yX12_keep, .methodLink RX12 342 yX12_keep, .code yX12_set cX12_set 4 none, .instanceMethod yX12_set, .selects RX12 yX12_set yX12_set, .methodLink RX12 258 yX12_set, .fieldLink RX12 55 "LeftArgumentsModel" "refused" "[I", .code yX12_does cX12_does 3 (some .boolean), .code yX12_loadOf cX12_loadOf 4 (some .int), .instanceMethod yX12_loadOf, .selects RX12 yX12_loadOf yX12_loadOf, .methodLink RX12 312 yX12_loadOf, .instanceMethod yX12_does, .selects RX12 yX12_does yX12_does, .methodLink RX12 351 yX12_does] : List Cond) ++ wsX120)
set_option maxRecDepth 20000 in
theorem g_X12_move_0 : GoodIn q_X12_move (wsV RX12 290 RX12 yX12_isThere q_X12_isThere) := goodIn_app (goodIn_r _ [13, 11, 12, 3] rfl (by decide +kernel)) (goodIn_ca (goodIn_r (.code yX12_isThere cX12_isThere 2 (some .boolean) :: [.code yX12_in cX12_in 3 (some .boolean), .initialized RX12, .static yX12_in, .methodLink RX12 217 yX12_in, .code yX12_of cX12_of 3 (some .int), .fieldLink RX12 52 "LeftArgumentsModel" "now" "[I", .instanceMethod yX12_of, .selects RX12 yX12_of yX12_of, .methodLink RX12 287 yX12_of]) [1, 2, 3, 4, 5, 6, 7, 8, 9, 10] rfl (by decide +kernel)) (goodIn_sub (fun _ h => List.mem_cons_of_mem _ (List.mem_append_right _ h)) gwX12))
set_option maxRecDepth 20000 in
theorem g_X12_move_1 : GoodIn q_X12_move (wsV RX12 333 RX12 yX12_isShelf q_X12_isShelf) := goodIn_app (goodIn_r _ [18, 16, 17, 3] rfl (by decide +kernel)) (goodIn_ca (goodIn_r (.code yX12_isShelf cX12_isShelf 2 (some .boolean) :: [.fieldLink RX12 46 "LeftArgumentsModel" "rule" "[I", .code yX12_in cX12_in 3 (some .boolean), .initialized RX12, .static yX12_in, .methodLink RX12 217 yX12_in]) [14, 15, 2, 3, 4, 5] rfl (by decide +kernel)) (goodIn_sub (fun _ h => List.mem_cons_of_mem _ (List.mem_append_right _ h)) gwX12))
set_option maxRecDepth 20000 in
theorem g_X12_move_2 : GoodIn q_X12_move (wsV RX12 287 RX12 yX12_of q_X12_of_4) := goodIn_app (goodIn_r _ [10, 8, 9, 3] rfl (by decide +kernel)) (goodIn_ca (goodIn_r (.code yX12_of cX12_of 3 (some .int) :: [.fieldLink RX12 52 "LeftArgumentsModel" "now" "[I"]) [6, 7] rfl (by decide +kernel)) (goodIn_sub (fun _ h => List.mem_cons_of_mem _ (List.mem_append_right _ h)) gwX12))
set_option maxRecDepth 20000 in
theorem g_X12_move_3 : GoodIn q_X12_move (wsV RX12 339 RX12 yX12_isRefused q_X12_isRefused) := goodIn_app (goodIn_r _ [22, 20, 21, 3] rfl (by decide +kernel)) (goodIn_r (.code yX12_isRefused cX12_isRefused 2 (some .boolean) :: []) [19] rfl (by decide +kernel))
set_option maxRecDepth 20000 in
theorem g_X12_move_4 : GoodIn q_X12_move (wsV RX12 342 RX12 yX12_keep q_X12_keep) := goodIn_app (goodIn_r _ [28, 26, 27, 3] rfl (by decide +kernel)) (goodIn_ca (goodIn_r (.code yX12_keep cX12_keep 2 none :: [.fieldLink RX12 275 "LeftArgumentsModel" "acts" "I", .fieldLink RX12 68 "LeftArgumentsModel" "kept" "[I", .fieldLink RX12 52 "LeftArgumentsModel" "now" "[I"]) [23, 24, 25, 7] rfl (by decide +kernel)) (goodIn_sub (fun _ h => List.mem_cons_of_mem _ (List.mem_append_right _ h)) gwX12))
set_option maxRecDepth 20000 in
theorem g_X12_move_6 : GoodIn q_X12_move (wsV RX12 258 RX12 yX12_set q_X12_set_1) := goodIn_app (goodIn_r _ [32, 30, 31, 3] rfl (by decide +kernel)) (goodIn_ca (goodIn_r (.code yX12_set cX12_set 4 none :: [.fieldLink RX12 52 "LeftArgumentsModel" "now" "[I"]) [29, 7] rfl (by decide +kernel)) (goodIn_sub (fun _ h => List.mem_cons_of_mem _ (List.mem_append_right _ h)) gwX12))
set_option maxRecDepth 20000 in
theorem g_X12_move_7 : GoodIn q_X12_move (wsV RX12 339 RX12 yX12_isRefused q_X12_isRefused_2) := goodIn_app (goodIn_r _ [22, 20, 21, 3] rfl (by decide +kernel)) (goodIn_ca (goodIn_r (.code yX12_isRefused cX12_isRefused 2 (some .boolean) :: [.fieldLink RX12 55 "LeftArgumentsModel" "refused" "[I"]) [19, 33] rfl (by decide +kernel)) (goodIn_sub (fun _ h => List.mem_cons_of_mem _ (List.mem_append_right _ h)) gwX12))
set_option maxRecDepth 20000 in
theorem g_X12_move_8 : GoodIn q_X12_move (wsV RX12 287 RX12 yX12_of q_X12_of_3) := goodIn_app (goodIn_r _ [10, 8, 9, 3] rfl (by decide +kernel)) (goodIn_ca (goodIn_r (.code yX12_of cX12_of 3 (some .int) :: [.fieldLink RX12 52 "LeftArgumentsModel" "now" "[I"]) [6, 7] rfl (by decide +kernel)) (goodIn_sub (fun _ h => List.mem_cons_of_mem _ (List.mem_append_right _ h)) gwX12))
set_option maxRecDepth 20000 in
theorem g_X12_move_9 : GoodIn q_X12_move (wsV RX12 351 RX12 yX12_does q_X12_does) := goodIn_app (goodIn_r _ [41, 39, 40, 3] rfl (by decide +kernel)) (goodIn_ca (goodIn_r (.code yX12_does cX12_does 3 (some .boolean) :: [.code yX12_loadOf cX12_loadOf 4 (some .int), .code yX12_isThere cX12_isThere 2 (some .boolean), .code yX12_in cX12_in 3 (some .boolean), .initialized RX12, .static yX12_in, .methodLink RX12 217 yX12_in, .code yX12_of cX12_of 3 (some .int), .fieldLink RX12 52 "LeftArgumentsModel" "now" "[I", .instanceMethod yX12_of, .selects RX12 yX12_of yX12_of, .methodLink RX12 287 yX12_of, .instanceMethod yX12_isThere, .selects RX12 yX12_isThere yX12_isThere, .methodLink RX12 290 yX12_isThere, .instanceMethod yX12_loadOf, .selects RX12 yX12_loadOf yX12_loadOf, .methodLink RX12 312 yX12_loadOf, .fieldLink RX12 46 "LeftArgumentsModel" "rule" "[I"]) [34, 35, 1, 2, 3, 4, 5, 6, 7, 8, 9, 10, 11, 12, 13, 36, 37, 38, 15] rfl (by decide +kernel)) (goodIn_sub (fun _ h => List.mem_cons_of_mem _ (List.mem_append_right _ h)) gwX12))
set_option maxRecDepth 20000 in
theorem g_X12_move_16 : GoodIn q_X12_move (wsV RX12 339 RX12 yX12_isRefused q_X12_isRefused_3) := goodIn_app (goodIn_r _ [22, 20, 21, 3] rfl (by decide +kernel)) (goodIn_ca (goodIn_r (.code yX12_isRefused cX12_isRefused 2 (some .boolean) :: [.fieldLink RX12 55 "LeftArgumentsModel" "refused" "[I"]) [19, 33] rfl (by decide +kernel)) (goodIn_sub (fun _ h => List.mem_cons_of_mem _ (List.mem_append_right _ h)) gwX12))
set_option maxRecDepth 20000 in
theorem g_X12_move_23 : GoodIn q_X12_move (wsV RX12 339 RX12 yX12_isRefused q_X12_isRefused_4) := goodIn_app (goodIn_r _ [22, 20, 21, 3] rfl (by decide +kernel)) (goodIn_ca (goodIn_r (.code yX12_isRefused cX12_isRefused 2 (some .boolean) :: [.fieldLink RX12 55 "LeftArgumentsModel" "refused" "[I"]) [19, 33] rfl (by decide +kernel)) (goodIn_sub (fun _ h => List.mem_cons_of_mem _ (List.mem_append_right _ h)) gwX12))
set_option maxRecDepth 20000 in
theorem g_X12_move_24 : GoodIn q_X12_move (wsV RX12 339 RX12 yX12_isRefused q_X12_isRefused_1) := goodIn_app (goodIn_r _ [22, 20, 21, 3] rfl (by decide +kernel)) (goodIn_ca (goodIn_r (.code yX12_isRefused cX12_isRefused 2 (some .boolean) :: [.fieldLink RX12 55 "LeftArgumentsModel" "refused" "[I"]) [19, 33] rfl (by decide +kernel)) (goodIn_sub (fun _ h => List.mem_cons_of_mem _ (List.mem_append_right _ h)) gwX12))
set_option maxHeartbeats 4000000 in
set_option maxRecDepth 100000 in
theorem k_X12_move (l : Launch) (dC : Nat → ClassId) (dI : Nat → Nat → Nat) (h0 : Nat) (h1 : Nat) (h2 : Nat) (h3 : Nat) (h4 : Nat) (v0 : Int32) (r0 : Nat) (v1 : Int32) (v2 : Int32) (v3 : Int32) (v4 : Int32) (r1 : Nat) (r2 : Nat) (r3 : Nat) (r4 : Nat) (r5 : Nat) (r6 : Nat) (r7 : Nat) (v5 : Int32) (v6 : Int32) (r8 : Nat) (r9 : Nat) (r10 : Nat) (r11 : Nat) (v7 : Int32) (r12 : Nat) (v8 : Int32) (v9 : Int32) (v10 : Int32) (v11 : Int32) (r13 : Nat) (v12 : Int32) (v13 : Int32) (v14 : Int32) (w15 : Int64) (r14 : Nat) (v16 : Int32) (v17 : Int32) (r15 : Nat) (r16 : Nat) (r17 : Nat) (r18 : Nat) (r19 : Nat) (r20 : Nat) (v18 : Int32) (r21 : Nat) (r22 : Nat) (r23 : Nat) (v19 : Int32) (g0 : ClassId) (f20 : Nat → Int32) (g1 : ClassId) (f21 : Nat → Int32) (g2 : ClassId) (f22 : Nat → Int32) (g3 : ClassId) (f23 : Nat → Int32) (v24 : Int32) (v25 : Int32) (i_v1 : 0 ≤ v1.toInt ∧ v1.toInt ≤ 240) (i_v5 : 0 ≤ v5.toInt ∧ v5.toInt ≤ 4) (i_v6 : 0 ≤ v6.toInt ∧ v6.toInt ≤ 4) (i_v7 : 0 ≤ v7.toInt ∧ v7.toInt ≤ 8) (i_v8 : 0 ≤ v8.toInt ∧ v8.toInt ≤ 8) (i_v9 : 0 ≤ v9.toInt ∧ v9.toInt ≤ 1) (i_v10 : -1 ≤ v10.toInt ∧ v10.toInt ≤ 3) (i_v14 : 0 ≤ v14.toInt ∧ v14.toInt ≤ 40) (i_v18 : 0 ≤ v18.toInt ∧ v18.toInt ≤ 10) (i_v19 : 0 ≤ v19.toInt ∧ v19.toInt ≤ 1) (ia_f20 : (pm_RU f20)) (ia_f21 : (pm_NW f21)) (ia_f23 : (pm_KP f23)) (sz : Nat) : Met l yX12_move q_X12_move ({ frames := 4, cells := 0, slots := 0, locals := 88 }) (va_Pc [.ref h0, .int v24, .int v25] (fun U => U.heap.size = sz ∧ va_P (dC, dI) vwCl (wd_56d90344 h0 v0 r0 v1 v2 v3 v4 r1 r2 r3 r4 r5 r6 r7 v5 v6 r8 r9 r10 r11 v7 h1 r12 v8 v9 h2 h3 v10 v11 r13 v12 v13 h4 v14 w15 r14 v16 v17 r15 r16 r17 r18 r19 r20 v18 r21 r22 r23 v19 h1 g0 f20 h2 g1 f21 h3 g2 f22 h4 g3 f23) U.heap ∧ va_K (dC, dI) vwCl [(g0, .int), (g1, .int), (g2, .int), (g3, .int)] U ∧ va_D (fun _ => True) (wd_56d90344 h0 v0 r0 v1 v2 v3 v4 r1 r2 r3 r4 r5 r6 r7 v5 v6 r8 r9 r10 r11 v7 h1 r12 v8 v9 h2 h3 v10 v11 r13 v12 v13 h4 v14 w15 r14 v16 v17 r15 r16 r17 r18 r19 r20 v18 r21 r22 r23 v19 h1 g0 f20 h2 g1 f21 h3 g2 f22 h4 g3 f23))) (va_Qi (fun (r : Int32) (r9 : Int32) => r9 = r) (fun (r : Int32) (t : State) => (∃ (o_h0_32 : Int32) (o_h2 : Nat → Int32) (o_h3 : Nat → Int32) (o_h4 : Nat → Int32), 0 ≤ o_h0_32.toInt ∧ o_h0_32.toInt ≤ 40 ∧ (pm_NW o_h2) ∧ (pm_KP o_h4) ∧ va_P (dC, dI) vwCl (wd_56d90344 h0 v0 r0 v1 v2 v3 v4 r1 r2 r3 r4 r5 r6 r7 v5 v6 r8 r9 r10 r11 v7 h1 r12 v8 v9 h2 h3 v10 v11 r13 v12 v13 h4 o_h0_32 w15 r14 v16 v17 r15 r16 r17 r18 r19 r20 v18 r21 r22 r23 v19 h1 g0 f20 h2 g1 o_h2 h3 g2 o_h3 h4 g3 o_h4) t.heap ∧ va_K (dC, dI) vwCl [] t ∧ va_D (va_A (wd_56d90344 h0 v0 r0 v1 v2 v3 v4 r1 r2 r3 r4 r5 r6 r7 v5 v6 r8 r9 r10 r11 v7 h1 r12 v8 v9 h2 h3 v10 v11 r13 v12 v13 h4 v14 w15 r14 v16 v17 r15 r16 r17 r18 r19 r20 v18 r21 r22 r23 v19 h1 g0 f20 h2 g1 f21 h3 g2 f22 h4 g3 f23) sz) (wd_56d90344 h0 v0 r0 v1 v2 v3 v4 r1 r2 r3 r4 r5 r6 r7 v5 v6 r8 r9 r10 r11 v7 h1 r12 v8 v9 h2 h3 v10 v11 r13 v12 v13 h4 o_h0_32 w15 r14 v16 v17 r15 r16 r17 r18 r19 r20 v18 r21 r22 r23 v19 h1 g0 f20 h2 g1 o_h2 h3 g2 o_h3 h4 g3 o_h4))) (va_A (wd_56d90344 h0 v0 r0 v1 v2 v3 v4 r1 r2 r3 r4 r5 r6 r7 v5 v6 r8 r9 r10 r11 v7 h1 r12 v8 v9 h2 h3 v10 v11 r13 v12 v13 h4 v14 w15 r14 v16 v17 r15 r16 r17 r18 r19 r20 v18 r21 r22 r23 v19 h1 g0 f20 h2 g1 f21 h3 g2 f22 h4 g3 f23) sz)) 0 0 (va_A (wd_56d90344 h0 v0 r0 v1 v2 v3 v4 r1 r2 r3 r4 r5 r6 r7 v5 v6 r8 r9 r10 r11 v7 h1 r12 v8 v9 h2 h3 v10 v11 r13 v12 v13 h4 v14 w15 r14 v16 v17 r15 r16 r17 r18 r19 r20 v18 r21 r22 r23 v19 h1 g0 f20 h2 g1 f21 h3 g2 f22 h4 g3 f23) sz) := by
  refine Met.ofW (cc := cX12_move) (maxL := 4) (ret := (some .int)) (by decide) rfl ?_
  intro p e s m args below meth c s₁ B hml hv
  obtain ⟨i_v1a, i_v1b⟩ := i_v1
  obtain ⟨i_v5a, i_v5b⟩ := i_v5
  obtain ⟨i_v6a, i_v6b⟩ := i_v6
  obtain ⟨i_v7a, i_v7b⟩ := i_v7
  obtain ⟨i_v8a, i_v8b⟩ := i_v8
  obtain ⟨i_v9a, i_v9b⟩ := i_v9
  obtain ⟨i_v10a, i_v10b⟩ := i_v10
  obtain ⟨i_v14a, i_v14b⟩ := i_v14
  obtain ⟨i_v18a, i_v18b⟩ := i_v18
  obtain ⟨i_v19a, i_v19b⟩ := i_v19
  obtain ⟨rfl, hsz, hP, hK, hD0⟩ := hv
  have hx := B.exec
  have hb := B.bytes
  have hr := B.returns
  have hts := atoms_spec (ws := q_X12_move) B.pre
  have hown : s.vm.findClass RX12 = some m.cls := findClass_of_methodNamed B.named
  have hlocks := B.notSynchronized
  subst hsz
  have hD := hD0.self (sz := s.heap.size)
  generalize hAe : va_A (wd_56d90344 h0 v0 r0 v1 v2 v3 v4 r1 r2 r3 r4 r5 r6 r7 v5 v6 r8 r9 r10 r11 v7 h1 r12 v8 v9 h2 h3 v10 v11 r13 v12 v13 h4 v14 w15 r14 v16 v17 r15 r16 r17 r18 r19 r20 v18 r21 r22 r23 v19 h1 g0 f20 h2 g1 f21 h3 g2 f22 h4 g3 f23) s.heap.size = A at hD ⊢
  have hA : ∀ q : Nat, s.heap.size ≤ q → A q := fun q h => by rw [← hAe]; exact Or.inr h
  have hS : va_S A s.heap s.heap [] := va_S.rf
  generalize hQ : (MQ below _ _ s 0 0 A) = Q
  have hl := lv_entry ([.ref h0, .int v24, .int v25]) (n := 4) (Nat.le_of_ble_eq_true rfl)
  rw [lg_entry_eq]
  generalize (lg_sl ([.ref h0, .int v24, .int v25]) ++ List.replicate (4 - (lg_sl ([.ref h0, .int v24, .int v25])).length) Slot.unset).toArray = ls at hl ⊢
  have hl : lv_has ls 4 [(0, .ref h0), (1, .int v24), (2, .int v25)] := hl
  obtain ⟨H, hH⟩ : ∃ H : Heap, H = s.heap := ⟨_, rfl⟩
  obtain ⟨locs, hlocs⟩ : ∃ y : List Loc, y = [] := ⟨_, rfl⟩
  have hS : va_S A s.heap H locs := by rw [hH, hlocs]; exact va_S.rf
  have hP : va_P (dC, dI) vwCl (wd_56d90344 h0 v0 r0 v1 v2 v3 v4 r1 r2 r3 r4 r5 r6 r7 v5 v6 r8 r9 r10 r11 v7 h1 r12 v8 v9 h2 h3 v10 v11 r13 v12 v13 h4 v14 w15 r14 v16 v17 r15 r16 r17 r18 r19 r20 v18 r21 r22 r23 v19 h1 g0 f20 h2 g1 f21 h3 g2 f22 h4 g3 f23) H := by rw [hH]; exact hP
  rw [← hH, ← hlocs]
  refine lv_aload_n hx hb dX12_move_0 rfl (lv_at hl 0 rfl) ?_
  refine lv_aload_n hx hb dX12_move_1 rfl (lv_at hl 0 rfl) ?_
  refine lv_iload_n hx hb dX12_move_2 rfl (lv_at hl 1 rfl) ?_
  have hPc := hP.sub (ws' := (wd_5013416a h0 v0 r0 v1 v2 v3 v4 r1 r2 r3 r4 r5 r6 r7 v5 v6 r8 r9 r10 r11 v7 h1 r12 v8 v9 h2 h3 v10 v11 r13 v12 v13 h4 v14 w15 r14 v16 v17 r15 r16 r17 r18 r19 r20 v18 r21 r22 r23 v19 h2 g1 f21)) [0, 2] rfl
  have hDc := hD.sub (ws' := (wd_5013416a h0 v0 r0 v1 v2 v3 v4 r1 r2 r3 r4 r5 r6 r7 v5 v6 r8 r9 r10 r11 v7 h1 r12 v8 v9 h2 h3 v10 v11 r13 v12 v13 h4 v14 w15 r14 v16 v17 r15 r16 r17 r18 r19 r20 v18 r21 r22 r23 v19 h2 g1 f21)) [0, 2] (by decide) rfl
  have hKc := hK.sub (tys' := [(g1, .int)]) [1] rfl
  have hFc := va_free (wc := (wd_5013416a h0 v0 r0 v1 v2 v3 v4 r1 r2 r3 r4 r5 r6 r7 v5 v6 r8 r9 r10 r11 v7 h1 r12 v8 v9 h2 h3 v10 v11 r13 v12 v13 h4 v14 w15 r14 v16 v17 r15 r16 r17 r18 r19 r20 v18 r21 r22 r23 v19 h2 g1 f21)) hD hS hA [0, 2] rfl
  refine va_calli (va_runV (As := [.int v24]) (rest := [.ref h0]) ⟨hx, hb, hml, hown, hts⟩ (k_X12_isThere l dC dI h0 h2 v0 r0 v1 v2 v3 v4 r1 r2 r3 r4 r5 r6 r7 v5 v6 r8 r9 r10 r11 v7 h1 r12 v8 v9 h3 v10 v11 r13 v12 v13 h4 v14 w15 r14 v16 v17 r15 r16 r17 r18 r19 r20 v18 r21 r22 r23 v19 g1 f21 v24 ⟨i_v1a, i_v1b⟩ ⟨i_v5a, i_v5b⟩ ⟨i_v6a, i_v6b⟩ ⟨i_v7a, i_v7b⟩ ⟨i_v8a, i_v8b⟩ ⟨i_v9a, i_v9b⟩ ⟨i_v10a, i_v10b⟩ ⟨i_v14a, i_v14b⟩ ⟨i_v18a, i_v18b⟩ ⟨i_v19a, i_v19b⟩ ia_f21.1 H.size) (cwV 1 hts g_X12_move_0 rfl rfl rfl (by decide +kernel) ⟨Nat.le_of_ble_eq_true rfl, Nat.le_of_ble_eq_true rfl⟩) (pv_PV12 hPc hKc hDc (q0 := 0) rfl) rfl rfl hl.1 rfl (lv_room (Nat.le_of_ble_eq_true rfl)) dX12_move_3 ⟨Nat.le_of_ble_eq_true rfl, Nat.le_of_ble_eq_true rfl⟩) hS (fun q _ h => hFc q h) hFc (fun ra1 u t H1 locs ht hvm hwra1 hB hz1 hk1 hS => ?_)
  try rw [hwra1] at hB
  obtain ⟨pt0_ra1, pt1_ra1, pt2_ra1, pt3_ra1, pt4_ra1, pt5_ra1, hP1, hK1, hD1⟩ := hB
  rw [ht] at hP1
  obtain ⟨hP2, hD2⟩ := va_join (wr := (wd_5cc14b98 h1 g0 f20 h3 g2 f22 h4 g3 f23)) (w1 := (wd_5013416a h0 v0 r0 v1 v2 v3 v4 r1 r2 r3 r4 r5 r6 r7 v5 v6 r8 r9 r10 r11 v7 h1 r12 v8 v9 h2 h3 v10 v11 r13 v12 v13 h4 v14 w15 r14 v16 v17 r15 r16 r17 r18 r19 r20 v18 r21 r22 r23 v19 h2 g1 f21)) hP hD [0, 2] [1, 3, 4] rfl rfl (by decide) (by decide) hk1 hFc hP1 hD1
  clear hP hD hPc hDc hKc hFc hP1 hK1 hD1 hk1 hz1
  generalize H1 = H at hP2 hS ⊢
  have hP := hP2.sub (ws' := (wd_56d90344 h0 v0 r0 v1 v2 v3 v4 r1 r2 r3 r4 r5 r6 r7 v5 v6 r8 r9 r10 r11 v7 h1 r12 v8 v9 h2 h3 v10 v11 r13 v12 v13 h4 v14 w15 r14 v16 v17 r15 r16 r17 r18 r19 r20 v18 r21 r22 r23 v19 h1 g0 f20 h2 g1 f21 h3 g2 f22 h4 g3 f23)) [3, 0, 4, 1, 2] rfl
  have hD := hD2.sub (ws' := (wd_56d90344 h0 v0 r0 v1 v2 v3 v4 r1 r2 r3 r4 r5 r6 r7 v5 v6 r8 r9 r10 r11 v7 h1 r12 v8 v9 h2 h3 v10 v11 r13 v12 v13 h4 v14 w15 r14 v16 v17 r15 r16 r17 r18 r19 r20 v18 r21 r22 r23 v19 h1 g0 f20 h2 g1 f21 h3 g2 f22 h4 g3 f23)) [3, 0, 4, 1, 2] (by decide) rfl
  clear hP2 hD2
  refine lv_if_ne (tgt := 13) hx hb dX12_move_6 (by decide) (fun c2 => ?_) (fun c2 => ?_)
  · skip
    have fc2 : ¬ (ra1.toInt = 0) := fun h9 => c2 (Int32.toInt_inj.mp h9)
    have q1pt4_ra1 := pt4_ra1 (by omega)
    refine lv_aload_n hx hb dX12_move_13 rfl (lv_at hl 0 rfl) ?_
    refine lv_iload_n hx hb dX12_move_14 rfl (lv_at hl 2 rfl) ?_
    have hPc := hP.sub (ws' := (wd_50966390 h0 v0 r0 v1 v2 v3 v4 r1 r2 r3 r4 r5 r6 r7 v5 v6 r8 r9 r10 r11 v7 h1 r12 v8 v9 h2 h3 v10 v11 r13 v12 v13 h4 v14 w15 r14 v16 v17 r15 r16 r17 r18 r19 r20 v18 r21 r22 r23 v19 h1 g0 f20)) [0, 1] rfl
    have hDc := hD.sub (ws' := (wd_50966390 h0 v0 r0 v1 v2 v3 v4 r1 r2 r3 r4 r5 r6 r7 v5 v6 r8 r9 r10 r11 v7 h1 r12 v8 v9 h2 h3 v10 v11 r13 v12 v13 h4 v14 w15 r14 v16 v17 r15 r16 r17 r18 r19 r20 v18 r21 r22 r23 v19 h1 g0 f20)) [0, 1] (by decide) rfl
    have hKc := hK.sub (tys' := [(g0, .int)]) [0] rfl
    have hFc := va_free (wc := (wd_50966390 h0 v0 r0 v1 v2 v3 v4 r1 r2 r3 r4 r5 r6 r7 v5 v6 r8 r9 r10 r11 v7 h1 r12 v8 v9 h2 h3 v10 v11 r13 v12 v13 h4 v14 w15 r14 v16 v17 r15 r16 r17 r18 r19 r20 v18 r21 r22 r23 v19 h1 g0 f20)) hD hS hA [0, 1] rfl
    refine va_calli (va_runV (As := [.int v25]) (rest := [.ref h0]) ⟨hx, hb, hml, hown, hts⟩ (k_X12_isShelf l dC dI h0 h1 v0 r0 v1 v2 v3 v4 r1 r2 r3 r4 r5 r6 r7 v5 v6 r8 r9 r10 r11 v7 r12 v8 v9 h2 h3 v10 v11 r13 v12 v13 h4 v14 w15 r14 v16 v17 r15 r16 r17 r18 r19 r20 v18 r21 r22 r23 v19 g0 f20 v25 ⟨i_v1a, i_v1b⟩ ⟨i_v5a, i_v5b⟩ ⟨i_v6a, i_v6b⟩ ⟨i_v7a, i_v7b⟩ ⟨i_v8a, i_v8b⟩ ⟨i_v9a, i_v9b⟩ ⟨i_v10a, i_v10b⟩ ⟨i_v14a, i_v14b⟩ ⟨i_v18a, i_v18b⟩ ⟨i_v19a, i_v19b⟩ ia_f20 H.size) (cwV 1 hts g_X12_move_1 rfl rfl rfl (by decide +kernel) ⟨Nat.le_of_ble_eq_true rfl, Nat.le_of_ble_eq_true rfl⟩) (pv_PV12 hPc hKc hDc (q0 := 0) rfl) rfl rfl hl.1 rfl (lv_room (Nat.le_of_ble_eq_true rfl)) dX12_move_15 ⟨Nat.le_of_ble_eq_true rfl, Nat.le_of_ble_eq_true rfl⟩) hS (fun q _ h => hFc q h) hFc (fun ra3 u t H1 locs ht hvm hwra3 hB hz1 hk1 hS => ?_)
    try rw [hwra3] at hB
    obtain ⟨pt0_ra3, pt1_ra3, hP1, hK1, hD1⟩ := hB
    rw [ht] at hP1
    obtain ⟨hP2, hD2⟩ := va_join (wr := (wd_9ef0db97 h2 g1 f21 h3 g2 f22 h4 g3 f23)) (w1 := (wd_50966390 h0 v0 r0 v1 v2 v3 v4 r1 r2 r3 r4 r5 r6 r7 v5 v6 r8 r9 r10 r11 v7 h1 r12 v8 v9 h2 h3 v10 v11 r13 v12 v13 h4 v14 w15 r14 v16 v17 r15 r16 r17 r18 r19 r20 v18 r21 r22 r23 v19 h1 g0 f20)) hP hD [0, 1] [2, 3, 4] rfl rfl (by decide) (by decide) hk1 hFc hP1 hD1
    clear hP hD hPc hDc hKc hFc hP1 hK1 hD1 hk1 hz1
    generalize H1 = H at hP2 hS ⊢
    have hP := hP2.sub (ws' := (wd_56d90344 h0 v0 r0 v1 v2 v3 v4 r1 r2 r3 r4 r5 r6 r7 v5 v6 r8 r9 r10 r11 v7 h1 r12 v8 v9 h2 h3 v10 v11 r13 v12 v13 h4 v14 w15 r14 v16 v17 r15 r16 r17 r18 r19 r20 v18 r21 r22 r23 v19 h1 g0 f20 h2 g1 f21 h3 g2 f22 h4 g3 f23)) [3, 4, 0, 1, 2] rfl
    have hD := hD2.sub (ws' := (wd_56d90344 h0 v0 r0 v1 v2 v3 v4 r1 r2 r3 r4 r5 r6 r7 v5 v6 r8 r9 r10 r11 v7 h1 r12 v8 v9 h2 h3 v10 v11 r13 v12 v13 h4 v14 w15 r14 v16 v17 r15 r16 r17 r18 r19 r20 v18 r21 r22 r23 v19 h1 g0 f20 h2 g1 f21 h3 g2 f22 h4 g3 f23)) [3, 4, 0, 1, 2] (by decide) rfl
    clear hP2 hD2
    refine lv_if_ne (tgt := 31) hx hb dX12_move_18 (by decide) (fun c4 => ?_) (fun c4 => ?_)
    · skip
      have fc4 : ¬ (ra3.toInt = 0) := fun h9 => c4 (Int32.toInt_inj.mp h9)
      refine lv_aload_n hx hb dX12_move_31 rfl (lv_at hl 0 rfl) ?_
      refine lv_iload_n hx hb dX12_move_32 rfl (lv_at hl 1 rfl) ?_
      refine lv_iconst (v := 3) hx hb dX12_move_33 (by decide) ?_
      have hPc := hP.sub (ws' := (wd_5013416a h0 v0 r0 v1 v2 v3 v4 r1 r2 r3 r4 r5 r6 r7 v5 v6 r8 r9 r10 r11 v7 h1 r12 v8 v9 h2 h3 v10 v11 r13 v12 v13 h4 v14 w15 r14 v16 v17 r15 r16 r17 r18 r19 r20 v18 r21 r22 r23 v19 h2 g1 f21)) [0, 2] rfl
      have hDc := hD.sub (ws' := (wd_5013416a h0 v0 r0 v1 v2 v3 v4 r1 r2 r3 r4 r5 r6 r7 v5 v6 r8 r9 r10 r11 v7 h1 r12 v8 v9 h2 h3 v10 v11 r13 v12 v13 h4 v14 w15 r14 v16 v17 r15 r16 r17 r18 r19 r20 v18 r21 r22 r23 v19 h2 g1 f21)) [0, 2] (by decide) rfl
      have hKc := hK.sub (tys' := [(g1, .int)]) [1] rfl
      have hFc := va_free (wc := (wd_5013416a h0 v0 r0 v1 v2 v3 v4 r1 r2 r3 r4 r5 r6 r7 v5 v6 r8 r9 r10 r11 v7 h1 r12 v8 v9 h2 h3 v10 v11 r13 v12 v13 h4 v14 w15 r14 v16 v17 r15 r16 r17 r18 r19 r20 v18 r21 r22 r23 v19 h2 g1 f21)) hD hS hA [0, 2] rfl
      refine va_calli (va_runV (As := [.int v24, .int 3]) (rest := [.ref h0]) ⟨hx, hb, hml, hown, hts⟩ (k_X12_of_4 l dC dI h0 h2 v0 r0 v1 v2 v3 v4 r1 r2 r3 r4 r5 r6 r7 v5 v6 r8 r9 r10 r11 v7 h1 r12 v8 v9 h3 v10 v11 r13 v12 v13 h4 v14 w15 r14 v16 v17 r15 r16 r17 r18 r19 r20 v18 r21 r22 r23 v19 g1 f21 v24 ⟨i_v1a, i_v1b⟩ ⟨i_v5a, i_v5b⟩ ⟨i_v6a, i_v6b⟩ ⟨i_v7a, i_v7b⟩ ⟨i_v8a, i_v8b⟩ ⟨i_v9a, i_v9b⟩ ⟨i_v10a, i_v10b⟩ ⟨i_v14a, i_v14b⟩ ⟨i_v18a, i_v18b⟩ ⟨i_v19a, i_v19b⟩ ⟨by first | omega | decide, by first | omega | decide⟩ ia_f21.1 H.size) (cwV 2 hts g_X12_move_2 rfl rfl rfl (by decide +kernel) ⟨Nat.le_of_ble_eq_true rfl, Nat.le_of_ble_eq_true rfl⟩) (pv_PV12 hPc hKc hDc (q0 := 0) rfl) rfl rfl hl.1 rfl (lv_room (Nat.le_of_ble_eq_true rfl)) dX12_move_34 ⟨Nat.le_of_ble_eq_true rfl, Nat.le_of_ble_eq_true rfl⟩) hS (fun q _ h => hFc q h) hFc (fun ra5 u t H1 locs ht hvm hwra5 hB hz1 hk1 hS => ?_)
      try rw [hwra5] at hB
      obtain ⟨pt0_ra5, hP1, hK1, hD1⟩ := hB
      rw [ht] at hP1
      obtain ⟨hP2, hD2⟩ := va_join (wr := (wd_5cc14b98 h1 g0 f20 h3 g2 f22 h4 g3 f23)) (w1 := (wd_5013416a h0 v0 r0 v1 v2 v3 v4 r1 r2 r3 r4 r5 r6 r7 v5 v6 r8 r9 r10 r11 v7 h1 r12 v8 v9 h2 h3 v10 v11 r13 v12 v13 h4 v14 w15 r14 v16 v17 r15 r16 r17 r18 r19 r20 v18 r21 r22 r23 v19 h2 g1 f21)) hP hD [0, 2] [1, 3, 4] rfl rfl (by decide) (by decide) hk1 hFc hP1 hD1
      clear hP hD hPc hDc hKc hFc hP1 hK1 hD1 hk1 hz1
      generalize H1 = H at hP2 hS ⊢
      have hP := hP2.sub (ws' := (wd_56d90344 h0 v0 r0 v1 v2 v3 v4 r1 r2 r3 r4 r5 r6 r7 v5 v6 r8 r9 r10 r11 v7 h1 r12 v8 v9 h2 h3 v10 v11 r13 v12 v13 h4 v14 w15 r14 v16 v17 r15 r16 r17 r18 r19 r20 v18 r21 r22 r23 v19 h1 g0 f20 h2 g1 f21 h3 g2 f22 h4 g3 f23)) [3, 0, 4, 1, 2] rfl
      have hD := hD2.sub (ws' := (wd_56d90344 h0 v0 r0 v1 v2 v3 v4 r1 r2 r3 r4 r5 r6 r7 v5 v6 r8 r9 r10 r11 v7 h1 r12 v8 v9 h2 h3 v10 v11 r13 v12 v13 h4 v14 w15 r14 v16 v17 r15 r16 r17 r18 r19 r20 v18 r21 r22 r23 v19 h1 g0 f20 h2 g1 f21 h3 g2 f22 h4 g3 f23)) [3, 0, 4, 1, 2] (by decide) rfl
      clear hP2 hD2
      refine lv_iload_n hx hb dX12_move_37 rfl (lv_at hl 2 rfl) ?_
      refine lv_icmp_ne (tgt := 45) hx hb dX12_move_38 (by decide) (fun c6 => ?_) (fun c6 => ?_)
      · skip
        have fc6 : ¬ (ra5.toInt = v25.toInt) := fun h9 => c6 (Int32.toInt_inj.mp h9)
        have r1c6 := Int32.toInt_lt ra5
        have r2c6 := Int32.toInt_lt v25
        have r3c6 := Int32.le_toInt ra5
        have r4c6 := Int32.le_toInt v25
        refine lv_iload_n hx hb dX12_move_45 rfl (lv_at hl 2 rfl) ?_
        refine lv_bipush (v := 9) hx hb dX12_move_46 (by decide) ?_
        refine lv_icmp_eq (tgt := 80) hx hb dX12_move_48 (by decide) (fun c7 => ?_) (fun c7 => ?_)
        · skip
          have fc7 : v25.toInt = 9 := congrArg Int32.toInt c7
          refine lv_iconst (v := (-1)) hx hb dX12_move_80 (by decide) ?_
          have hPc := hP.sub (ws' := (wd_171f232f h0 v0 r0 v1 v2 v3 v4 r1 r2 r3 r4 r5 r6 r7 v5 v6 r8 r9 r10 r11 v7 h1 r12 v8 v9 h2 h3 v10 v11 r13 v12 v13 h4 v14 w15 r14 v16 v17 r15 r16 r17 r18 r19 r20 v18 r21 r22 r23 v19)) [0] rfl
          have hDc := hD.sub (ws' := (wd_171f232f h0 v0 r0 v1 v2 v3 v4 r1 r2 r3 r4 r5 r6 r7 v5 v6 r8 r9 r10 r11 v7 h1 r12 v8 v9 h2 h3 v10 v11 r13 v12 v13 h4 v14 w15 r14 v16 v17 r15 r16 r17 r18 r19 r20 v18 r21 r22 r23 v19)) [0] (by decide) rfl
          have hKc := hK.sub (tys' := []) [] rfl
          have hFc := va_free (wc := (wd_171f232f h0 v0 r0 v1 v2 v3 v4 r1 r2 r3 r4 r5 r6 r7 v5 v6 r8 r9 r10 r11 v7 h1 r12 v8 v9 h2 h3 v10 v11 r13 v12 v13 h4 v14 w15 r14 v16 v17 r15 r16 r17 r18 r19 r20 v18 r21 r22 r23 v19)) hD hS hA [0] rfl
          refine va_calli (va_runV (As := [.int (-1)]) (rest := []) ⟨hx, hb, hml, hown, hts⟩ (k_X12_isRefused l dC dI h0 v0 r0 v1 v2 v3 v4 r1 r2 r3 r4 r5 r6 r7 v5 v6 r8 r9 r10 r11 v7 h1 r12 v8 v9 h2 h3 v10 v11 r13 v12 v13 h4 v14 w15 r14 v16 v17 r15 r16 r17 r18 r19 r20 v18 r21 r22 r23 v19 ⟨i_v1a, i_v1b⟩ ⟨i_v5a, i_v5b⟩ ⟨i_v6a, i_v6b⟩ ⟨i_v7a, i_v7b⟩ ⟨i_v8a, i_v8b⟩ ⟨i_v9a, i_v9b⟩ ⟨i_v10a, i_v10b⟩ ⟨i_v14a, i_v14b⟩ ⟨i_v18a, i_v18b⟩ ⟨i_v19a, i_v19b⟩ H.size) (cwV 1 hts g_X12_move_3 rfl rfl rfl (by decide +kernel) ⟨Nat.le_of_ble_eq_true rfl, Nat.le_of_ble_eq_true rfl⟩) (pv_PV12 hPc hKc hDc (q0 := 0) rfl) rfl rfl hl.1 rfl (lv_room (Nat.le_of_ble_eq_true rfl)) dX12_move_81 ⟨Nat.le_of_ble_eq_true rfl, Nat.le_of_ble_eq_true rfl⟩) hS (fun q _ h => hFc q h) hFc (fun ra8 u t H1 locs ht hvm hwra8 hB hz1 hk1 hS => ?_)
          try rw [hwra8] at hB
          obtain ⟨pt0_ra8, pt1_ra8, hP1, hK1, hD1⟩ := hB
          rw [ht] at hP1
          obtain ⟨hP2, hD2⟩ := va_join (wr := (wd_3ac54ae4 h1 g0 f20 h2 g1 f21 h3 g2 f22 h4 g3 f23)) (w1 := (wd_171f232f h0 v0 r0 v1 v2 v3 v4 r1 r2 r3 r4 r5 r6 r7 v5 v6 r8 r9 r10 r11 v7 h1 r12 v8 v9 h2 h3 v10 v11 r13 v12 v13 h4 v14 w15 r14 v16 v17 r15 r16 r17 r18 r19 r20 v18 r21 r22 r23 v19)) hP hD [0] [1, 2, 3, 4] rfl rfl (by decide) (by decide) hk1 hFc hP1 hD1
          clear hP hD hPc hDc hKc hFc hP1 hK1 hD1 hk1 hz1
          generalize H1 = H at hP2 hS ⊢
          have hP := hP2.sub (ws' := (wd_56d90344 h0 v0 r0 v1 v2 v3 v4 r1 r2 r3 r4 r5 r6 r7 v5 v6 r8 r9 r10 r11 v7 h1 r12 v8 v9 h2 h3 v10 v11 r13 v12 v13 h4 v14 w15 r14 v16 v17 r15 r16 r17 r18 r19 r20 v18 r21 r22 r23 v19 h1 g0 f20 h2 g1 f21 h3 g2 f22 h4 g3 f23)) [4, 0, 1, 2, 3] rfl
          have hD := hD2.sub (ws' := (wd_56d90344 h0 v0 r0 v1 v2 v3 v4 r1 r2 r3 r4 r5 r6 r7 v5 v6 r8 r9 r10 r11 v7 h1 r12 v8 v9 h2 h3 v10 v11 r13 v12 v13 h4 v14 w15 r14 v16 v17 r15 r16 r17 r18 r19 r20 v18 r21 r22 r23 v19 h1 g0 f20 h2 g1 f21 h3 g2 f22 h4 g3 f23)) [4, 0, 1, 2, 3] (by decide) rfl
          clear hP2 hD2
          obtain rfl : ra8 = (0 : Int32) := pv_cs (by decide) pt0_ra8 pt1_ra8
          refine lv_if_eq (tgt := 89) hx hb dX12_move_84 (by decide) (fun _ => ?_) (fun c => absurd (by decide) c)
          refine lv_aload_n hx hb dX12_move_89 rfl (lv_at hl 0 rfl) ?_
          have hPc := hP.sub (ws' := (wd_baa7feb8 h0 v0 r0 v1 v2 v3 v4 r1 r2 r3 r4 r5 r6 r7 v5 v6 r8 r9 r10 r11 v7 h1 r12 v8 v9 h2 h3 v10 v11 r13 v12 v13 h4 v14 w15 r14 v16 v17 r15 r16 r17 r18 r19 r20 v18 r21 r22 r23 v19 h2 g1 f21 h4 g3 f23)) [0, 2, 4] rfl
          have hDc := hD.sub (ws' := (wd_baa7feb8 h0 v0 r0 v1 v2 v3 v4 r1 r2 r3 r4 r5 r6 r7 v5 v6 r8 r9 r10 r11 v7 h1 r12 v8 v9 h2 h3 v10 v11 r13 v12 v13 h4 v14 w15 r14 v16 v17 r15 r16 r17 r18 r19 r20 v18 r21 r22 r23 v19 h2 g1 f21 h4 g3 f23)) [0, 2, 4] (by decide) rfl
          have hKc := hK.sub (tys' := [(g1, .int), (g3, .int)]) [1, 3] rfl
          have hFc := va_free (wc := (wd_baa7feb8 h0 v0 r0 v1 v2 v3 v4 r1 r2 r3 r4 r5 r6 r7 v5 v6 r8 r9 r10 r11 v7 h1 r12 v8 v9 h2 h3 v10 v11 r13 v12 v13 h4 v14 w15 r14 v16 v17 r15 r16 r17 r18 r19 r20 v18 r21 r22 r23 v19 h2 g1 f21 h4 g3 f23)) hD hS hA [0, 2, 4] rfl
          refine va_callv (va_runV (As := []) (rest := []) ⟨hx, hb, hml, hown, hts⟩ (k_X12_keep l dC dI h0 h2 h4 v0 r0 v1 v2 v3 v4 r1 r2 r3 r4 r5 r6 r7 v5 v6 r8 r9 r10 r11 v7 h1 r12 v8 v9 h3 v10 v11 r13 v12 v13 v14 w15 r14 v16 v17 r15 r16 r17 r18 r19 r20 v18 r21 r22 r23 v19 g1 f21 g3 f23 ⟨i_v1a, i_v1b⟩ ⟨i_v5a, i_v5b⟩ ⟨i_v6a, i_v6b⟩ ⟨i_v7a, i_v7b⟩ ⟨i_v8a, i_v8b⟩ ⟨i_v9a, i_v9b⟩ ⟨i_v10a, i_v10b⟩ ⟨i_v14a, i_v14b⟩ ⟨i_v18a, i_v18b⟩ ⟨i_v19a, i_v19b⟩ ia_f21 ia_f23 H.size) (cwV 0 hts g_X12_move_4 rfl rfl rfl (by decide +kernel) ⟨Nat.le_of_ble_eq_true rfl, Nat.le_of_ble_eq_true rfl⟩) (pv_PV12 hPc hKc hDc (q0 := 0) rfl) rfl rfl hl.1 rfl (lv_room (Nat.le_of_ble_eq_true rfl)) dX12_move_90 ⟨Nat.le_of_ble_eq_true rfl, Nat.le_of_ble_eq_true rfl⟩) hS (fun q _ h => hFc q h) hFc (fun u t H1 locs ht hvm hwra9 hB hz1 hk1 hS => ?_)
          obtain ⟨x10, fn11, oa_x10, ob_x10, ia_fn11, hP1, hK1, hD1⟩ := hB
          rw [ht] at hP1
          obtain ⟨hP2, hD2⟩ := va_join (wr := (wd_2e233976 h1 g0 f20 h3 g2 f22)) (w1 := (wd_baa7feb8 h0 v0 r0 v1 v2 v3 v4 r1 r2 r3 r4 r5 r6 r7 v5 v6 r8 r9 r10 r11 v7 h1 r12 v8 v9 h2 h3 v10 v11 r13 v12 v13 h4 x10 w15 r14 v16 v17 r15 r16 r17 r18 r19 r20 v18 r21 r22 r23 v19 h2 g1 f21 h4 g3 fn11)) hP hD [0, 2, 4] [1, 3] rfl rfl (by decide) (by decide) hk1 hFc hP1 hD1
          clear hP hD hPc hDc hKc hFc hP1 hK1 hD1 hk1 hz1
          generalize H1 = H at hP2 hS ⊢
          have hP := hP2.sub (ws' := (wd_56d90344 h0 v0 r0 v1 v2 v3 v4 r1 r2 r3 r4 r5 r6 r7 v5 v6 r8 r9 r10 r11 v7 h1 r12 v8 v9 h2 h3 v10 v11 r13 v12 v13 h4 x10 w15 r14 v16 v17 r15 r16 r17 r18 r19 r20 v18 r21 r22 r23 v19 h1 g0 f20 h2 g1 f21 h3 g2 f22 h4 g3 fn11)) [2, 0, 3, 1, 4] rfl
          have hD := hD2.sub (ws' := (wd_56d90344 h0 v0 r0 v1 v2 v3 v4 r1 r2 r3 r4 r5 r6 r7 v5 v6 r8 r9 r10 r11 v7 h1 r12 v8 v9 h2 h3 v10 v11 r13 v12 v13 h4 x10 w15 r14 v16 v17 r15 r16 r17 r18 r19 r20 v18 r21 r22 r23 v19 h1 g0 f20 h2 g1 f21 h3 g2 f22 h4 g3 fn11)) [2, 0, 3, 1, 4] (by decide) rfl
          clear hP2 hD2
          refine lv_aload_n hx hb dX12_move_93 rfl (lv_at hl 0 rfl) ?_
          refine lv_iload_n hx hb dX12_move_94 rfl (lv_at hl 1 rfl) ?_
          refine lv_iconst (v := 3) hx hb dX12_move_95 (by decide) ?_
          have hPc := hP.sub (ws' := (wd_5013416a h0 v0 r0 v1 v2 v3 v4 r1 r2 r3 r4 r5 r6 r7 v5 v6 r8 r9 r10 r11 v7 h1 r12 v8 v9 h2 h3 v10 v11 r13 v12 v13 h4 x10 w15 r14 v16 v17 r15 r16 r17 r18 r19 r20 v18 r21 r22 r23 v19 h2 g1 f21)) [0, 2] rfl
          have hDc := hD.sub (ws' := (wd_5013416a h0 v0 r0 v1 v2 v3 v4 r1 r2 r3 r4 r5 r6 r7 v5 v6 r8 r9 r10 r11 v7 h1 r12 v8 v9 h2 h3 v10 v11 r13 v12 v13 h4 x10 w15 r14 v16 v17 r15 r16 r17 r18 r19 r20 v18 r21 r22 r23 v19 h2 g1 f21)) [0, 2] (by decide) rfl
          have hKc := hK.sub (tys' := [(g1, .int)]) [1] rfl
          have hFc := va_free (wc := (wd_5013416a h0 v0 r0 v1 v2 v3 v4 r1 r2 r3 r4 r5 r6 r7 v5 v6 r8 r9 r10 r11 v7 h1 r12 v8 v9 h2 h3 v10 v11 r13 v12 v13 h4 x10 w15 r14 v16 v17 r15 r16 r17 r18 r19 r20 v18 r21 r22 r23 v19 h2 g1 f21)) hD hS hA [0, 2] rfl
          refine va_calli (va_runV (As := [.int v24, .int 3]) (rest := []) ⟨hx, hb, hml, hown, hts⟩ (k_X12_of_4 l dC dI h0 h2 v0 r0 v1 v2 v3 v4 r1 r2 r3 r4 r5 r6 r7 v5 v6 r8 r9 r10 r11 v7 h1 r12 v8 v9 h3 v10 v11 r13 v12 v13 h4 x10 w15 r14 v16 v17 r15 r16 r17 r18 r19 r20 v18 r21 r22 r23 v19 g1 f21 v24 ⟨i_v1a, i_v1b⟩ ⟨i_v5a, i_v5b⟩ ⟨i_v6a, i_v6b⟩ ⟨i_v7a, i_v7b⟩ ⟨i_v8a, i_v8b⟩ ⟨i_v9a, i_v9b⟩ ⟨i_v10a, i_v10b⟩ ⟨by first | omega | decide, ob_x10⟩ ⟨i_v18a, i_v18b⟩ ⟨i_v19a, i_v19b⟩ ⟨by first | omega | decide, by first | omega | decide⟩ ia_f21.1 H.size) (cwV 2 hts g_X12_move_2 rfl rfl rfl (by decide +kernel) ⟨Nat.le_of_ble_eq_true rfl, Nat.le_of_ble_eq_true rfl⟩) (pv_PV12 hPc hKc hDc (q0 := 0) rfl) rfl rfl hl.1 rfl (lv_room (Nat.le_of_ble_eq_true rfl)) dX12_move_96 ⟨Nat.le_of_ble_eq_true rfl, Nat.le_of_ble_eq_true rfl⟩) hS (fun q _ h => hFc q h) hFc (fun ra12 u t H1 locs ht hvm hwra12 hB hz1 hk1 hS => ?_)
          try rw [hwra12] at hB
          obtain ⟨pt0_ra12, hP1, hK1, hD1⟩ := hB
          rw [ht] at hP1
          obtain ⟨hP2, hD2⟩ := va_join (wr := (wd_5cc14b98 h1 g0 f20 h3 g2 f22 h4 g3 fn11)) (w1 := (wd_5013416a h0 v0 r0 v1 v2 v3 v4 r1 r2 r3 r4 r5 r6 r7 v5 v6 r8 r9 r10 r11 v7 h1 r12 v8 v9 h2 h3 v10 v11 r13 v12 v13 h4 x10 w15 r14 v16 v17 r15 r16 r17 r18 r19 r20 v18 r21 r22 r23 v19 h2 g1 f21)) hP hD [0, 2] [1, 3, 4] rfl rfl (by decide) (by decide) hk1 hFc hP1 hD1
          clear hP hD hPc hDc hKc hFc hP1 hK1 hD1 hk1 hz1
          generalize H1 = H at hP2 hS ⊢
          have hP := hP2.sub (ws' := (wd_56d90344 h0 v0 r0 v1 v2 v3 v4 r1 r2 r3 r4 r5 r6 r7 v5 v6 r8 r9 r10 r11 v7 h1 r12 v8 v9 h2 h3 v10 v11 r13 v12 v13 h4 x10 w15 r14 v16 v17 r15 r16 r17 r18 r19 r20 v18 r21 r22 r23 v19 h1 g0 f20 h2 g1 f21 h3 g2 f22 h4 g3 fn11)) [3, 0, 4, 1, 2] rfl
          have hD := hD2.sub (ws' := (wd_56d90344 h0 v0 r0 v1 v2 v3 v4 r1 r2 r3 r4 r5 r6 r7 v5 v6 r8 r9 r10 r11 v7 h1 r12 v8 v9 h2 h3 v10 v11 r13 v12 v13 h4 x10 w15 r14 v16 v17 r15 r16 r17 r18 r19 r20 v18 r21 r22 r23 v19 h1 g0 f20 h2 g1 f21 h3 g2 f22 h4 g3 fn11)) [3, 0, 4, 1, 2] (by decide) rfl
          clear hP2 hD2
          refine lv_istore_n (lv' := [(3, .int ra12), (0, .ref h0), (1, .int v24), (2, .int v25)]) hx hb dX12_move_99 rfl hl (by decide) rfl (fun ls hl => ?_)
          refine lv_aload_n hx hb dX12_move_100 rfl (lv_at hl 1 rfl) ?_
          refine va_get (D := (dC, dI)) (ci := 12) (v := .ref h2) (C := RX12) (T := TX12) (N := 48) hx hb hts (fun _ h => List.mem_cons_of_mem _ (List.mem_append_right _ h)) hown hK hP 0 rfl rfl 24 (by decide) (hts (.fieldLink RX12 52 "LeftArgumentsModel" "now" "[I") (List.mem_cons_of_mem _ (List.mem_append_left _ (List.mem_of_getElem? (i := 6) rfl)))) (fun _ h9 => h9) rfl dX12_move_101 ?_
          refine lv_bipush (v := 64) hx hb dX12_move_104 (by decide) ?_
          refine lv_dup2_11 hx hb dX12_move_106 rfl rfl ?_
          refine va_iald hx hb hK hP 2 1 rfl rfl (pv_c (x := 64) (n := 247) (by decide)) dX12_move_107 ?_
          refine lv_topi (fun t13 et13 => ?_)
          have mmt13 : f21 (Int32.toNatClampNeg 64) = t13 := et13.symm
          refine lv_iload_n hx hb dX12_move_108 rfl (lv_at hl 3 rfl) ?_
          refine lv_bipush (v := 9) hx hb dX12_move_109 (by decide) ?_
          refine lv_icmp_ne (tgt := 118) hx hb dX12_move_111 (by decide) (fun c14 => by exfalso; have fc14 : ¬ (v25.toInt = 9) := fun h9 => c14 (Int32.toInt_inj.mp h9); omega) (fun _ => ?_)
          refine lv_iconst (v := 0) hx hb dX12_move_114 (by decide) ?_
          refine lv_goto (tgt := 119) hx hb dX12_move_115 (by decide) ?_
          refine lv_isub hx hb dX12_move_119 ?_
          refine lv_topi (fun t15 et15 => ?_)
          have r5t15t13 := Int32.le_toInt t13; have r6t15t13 := Int32.toInt_lt t13
          have gt15 : t15.toInt = t13.toInt - 0 := pv_sub (a := t13.toInt) (b := 0) et15 rfl (by decide) (by omega) (by omega)
          refine va_iast hx hb hK hP hD hS 2 1 rfl rfl (pv_c (x := 64) (n := 247) (by decide)) dX12_move_120 (fun H locs hP hD hS => ?_)
          obtain ⟨fn16, efn16⟩ : ∃ g : Nat → Int32, g = upd f21 (Int32.toNatClampNeg 64) t15 := ⟨_, rfl⟩
          rw [← efn16] at hP hD
          have ia_fn16 : pm_NW fn16 := by rw [efn16]; exact pm_NW.st ia_f21 (z := 64) (y := t15.toInt) (by decide) rfl (by omega) (fun b9 h8 h9 => ⟨fun _ => ⟨by omega, by omega⟩, fun _ => ⟨by omega, by omega⟩⟩) (fun _ => ⟨by omega, by omega⟩) (fun b9 h8 h9 => ⟨fun _ => by omega, fun _ => by omega⟩)
          have mmfn16_64 : fn16 (Int32.toNatClampNeg 64) = t15 := by rw [efn16]; exact pk_us
          have hP : va_P (dC, dI) vwCl (wd_56d90344 h0 v0 r0 v1 v2 v3 v4 r1 r2 r3 r4 r5 r6 r7 v5 v6 r8 r9 r10 r11 v7 h1 r12 v8 v9 h2 h3 v10 v11 r13 v12 v13 h4 x10 w15 r14 v16 v17 r15 r16 r17 r18 r19 r20 v18 r21 r22 r23 v19 h1 g0 f20 h2 g1 fn16 h3 g2 f22 h4 g3 fn11) H := hP
          have hD : va_D A (wd_56d90344 h0 v0 r0 v1 v2 v3 v4 r1 r2 r3 r4 r5 r6 r7 v5 v6 r8 r9 r10 r11 v7 h1 r12 v8 v9 h2 h3 v10 v11 r13 v12 v13 h4 x10 w15 r14 v16 v17 r15 r16 r17 r18 r19 r20 v18 r21 r22 r23 v19 h1 g0 f20 h2 g1 fn16 h3 g2 f22 h4 g3 fn11) := hD
          refine lv_aload_n hx hb dX12_move_121 rfl (lv_at hl 1 rfl) ?_
          refine lv_iload_n hx hb dX12_move_122 rfl (lv_at hl 2 rfl) ?_
          refine lv_iconst (v := 3) hx hb dX12_move_123 (by decide) ?_
          refine lv_iload_n hx hb dX12_move_124 rfl (lv_at hl 3 rfl) ?_
          have hPc := hP.sub (ws' := (wd_5013416a h0 v0 r0 v1 v2 v3 v4 r1 r2 r3 r4 r5 r6 r7 v5 v6 r8 r9 r10 r11 v7 h1 r12 v8 v9 h2 h3 v10 v11 r13 v12 v13 h4 x10 w15 r14 v16 v17 r15 r16 r17 r18 r19 r20 v18 r21 r22 r23 v19 h2 g1 fn16)) [0, 2] rfl
          have hDc := hD.sub (ws' := (wd_5013416a h0 v0 r0 v1 v2 v3 v4 r1 r2 r3 r4 r5 r6 r7 v5 v6 r8 r9 r10 r11 v7 h1 r12 v8 v9 h2 h3 v10 v11 r13 v12 v13 h4 x10 w15 r14 v16 v17 r15 r16 r17 r18 r19 r20 v18 r21 r22 r23 v19 h2 g1 fn16)) [0, 2] (by decide) rfl
          have hKc := hK.sub (tys' := [(g1, .int)]) [1] rfl
          have hFc := va_free (wc := (wd_5013416a h0 v0 r0 v1 v2 v3 v4 r1 r2 r3 r4 r5 r6 r7 v5 v6 r8 r9 r10 r11 v7 h1 r12 v8 v9 h2 h3 v10 v11 r13 v12 v13 h4 x10 w15 r14 v16 v17 r15 r16 r17 r18 r19 r20 v18 r21 r22 r23 v19 h2 g1 fn16)) hD hS hA [0, 2] rfl
          refine va_callv (va_runV (As := [.int v24, .int 3, .int v25]) (rest := []) ⟨hx, hb, hml, hown, hts⟩ (k_X12_set_1 l dC dI h0 h2 v0 r0 v1 v2 v3 v4 r1 r2 r3 r4 r5 r6 r7 v5 v6 r8 r9 r10 r11 v7 h1 r12 v8 v9 h3 v10 v11 r13 v12 v13 h4 x10 w15 r14 v16 v17 r15 r16 r17 r18 r19 r20 v18 r21 r22 r23 v19 g1 fn16 v24 v25 ⟨i_v1a, i_v1b⟩ ⟨i_v5a, i_v5b⟩ ⟨i_v6a, i_v6b⟩ ⟨i_v7a, i_v7b⟩ ⟨i_v8a, i_v8b⟩ ⟨i_v9a, i_v9b⟩ ⟨i_v10a, i_v10b⟩ ⟨by first | omega | decide, ob_x10⟩ ⟨i_v18a, i_v18b⟩ ⟨i_v19a, i_v19b⟩ ⟨by first | omega | decide, by first | omega | decide⟩ trivial H.size) (cwV 3 hts g_X12_move_6 rfl rfl rfl (by decide +kernel) ⟨Nat.le_of_ble_eq_true rfl, Nat.le_of_ble_eq_true rfl⟩) (pv_PV12 hPc hKc hDc (q0 := 0) rfl) rfl rfl hl.1 rfl (lv_room (Nat.le_of_ble_eq_true rfl)) dX12_move_125 ⟨Nat.le_of_ble_eq_true rfl, Nat.le_of_ble_eq_true rfl⟩) hS (fun q _ h => hFc q h) hFc (fun u t H1 locs ht hvm hwra17 hB hz1 hk1 hS => ?_)
          obtain ⟨hP1, hK1, hD1⟩ := hB
          rw [ht] at hP1
          obtain ⟨hP2, hD2⟩ := va_join (wr := (wd_5cc14b98 h1 g0 f20 h3 g2 f22 h4 g3 fn11)) (w1 := (wd_5013416a h0 v0 r0 v1 v2 v3 v4 r1 r2 r3 r4 r5 r6 r7 v5 v6 r8 r9 r10 r11 v7 h1 r12 v8 v9 h2 h3 v10 v11 r13 v12 v13 h4 x10 w15 r14 v16 v17 r15 r16 r17 r18 r19 r20 v18 r21 r22 r23 v19 h2 g1 (upd fn16 (pm_I v24 3) v25))) hP hD [0, 2] [1, 3, 4] rfl rfl (by decide) (by decide) hk1 hFc hP1 hD1
          clear hP hD hPc hDc hKc hFc hP1 hK1 hD1 hk1 hz1
          generalize H1 = H at hP2 hS ⊢
          have hP := hP2.sub (ws' := (wd_56d90344 h0 v0 r0 v1 v2 v3 v4 r1 r2 r3 r4 r5 r6 r7 v5 v6 r8 r9 r10 r11 v7 h1 r12 v8 v9 h2 h3 v10 v11 r13 v12 v13 h4 x10 w15 r14 v16 v17 r15 r16 r17 r18 r19 r20 v18 r21 r22 r23 v19 h1 g0 f20 h2 g1 (upd fn16 (pm_I v24 3) v25) h3 g2 f22 h4 g3 fn11)) [3, 0, 4, 1, 2] rfl
          have hD := hD2.sub (ws' := (wd_56d90344 h0 v0 r0 v1 v2 v3 v4 r1 r2 r3 r4 r5 r6 r7 v5 v6 r8 r9 r10 r11 v7 h1 r12 v8 v9 h2 h3 v10 v11 r13 v12 v13 h4 x10 w15 r14 v16 v17 r15 r16 r17 r18 r19 r20 v18 r21 r22 r23 v19 h1 g0 f20 h2 g1 (upd fn16 (pm_I v24 3) v25) h3 g2 f22 h4 g3 fn11)) [3, 0, 4, 1, 2] (by decide) rfl
          clear hP2 hD2
          obtain ⟨t18, et18⟩ : ∃ y : Int32, y = 8 * v24 + 3 := ⟨_, rfl⟩
          have gt18 : t18.toInt = 8 * v24.toInt + 3 := pm_i8 et18 rfl (by decide) (by omega) (by omega) (by omega) (by omega)
          obtain ⟨fn20, efn20⟩ : ∃ g : Nat → Int32, g = upd fn16 (Int32.toNatClampNeg t18) v25 := ⟨_, rfl⟩
          have e9 : (upd fn16 (pm_I v24 3) v25) = fn20 := by rw [efn20, et18]; rfl
          rw [e9] at hP hD
          have ia_fn20 : pm_NW fn20 := by rw [efn20]; exact pm_NW.st ia_fn16 (z := t18.toInt) (y := v25.toInt) rfl rfl (by omega) (fun b9 h8 h9 => ⟨fun _ => ⟨by omega, by omega⟩, fun _ => ⟨by omega, by omega⟩⟩) (fun _ => ⟨by omega, by omega⟩) (fun b9 h8 h9 => ⟨fun _ => by omega, fun _ => by omega⟩)
          have mmfn20_64 : fn20 (Int32.toNatClampNeg 64) = t15 := by rw [efn20]; exact (pk_un (pm_ne (z := t18.toInt) (c := 64) rfl (by decide) (by omega) (by omega))).trans mmfn16_64
          have hP : va_P (dC, dI) vwCl (wd_56d90344 h0 v0 r0 v1 v2 v3 v4 r1 r2 r3 r4 r5 r6 r7 v5 v6 r8 r9 r10 r11 v7 h1 r12 v8 v9 h2 h3 v10 v11 r13 v12 v13 h4 x10 w15 r14 v16 v17 r15 r16 r17 r18 r19 r20 v18 r21 r22 r23 v19 h1 g0 f20 h2 g1 fn20 h3 g2 f22 h4 g3 fn11) H := hP
          have hD : va_D A (wd_56d90344 h0 v0 r0 v1 v2 v3 v4 r1 r2 r3 r4 r5 r6 r7 v5 v6 r8 r9 r10 r11 v7 h1 r12 v8 v9 h2 h3 v10 v11 r13 v12 v13 h4 x10 w15 r14 v16 v17 r15 r16 r17 r18 r19 r20 v18 r21 r22 r23 v19 h1 g0 f20 h2 g1 fn20 h3 g2 f22 h4 g3 fn11) := hD
          refine lv_iload_n hx hb dX12_move_128 rfl (lv_at hl 0 rfl) ?_
          subst hQ
          have hP9 := hP.sub (ws' := (wd_56d90344 h0 v0 r0 v1 v2 v3 v4 r1 r2 r3 r4 r5 r6 r7 v5 v6 r8 r9 r10 r11 v7 h1 r12 v8 v9 h2 h3 v10 v11 r13 v12 v13 h4 x10 w15 r14 v16 v17 r15 r16 r17 r18 r19 r20 v18 r21 r22 r23 v19 h1 g0 f20 h2 g1 fn20 h3 g2 f22 h4 g3 fn11)) [0, 1, 2, 3, 4] rfl
          have hD9 := hD.sub (ws' := (wd_56d90344 h0 v0 r0 v1 v2 v3 v4 r1 r2 r3 r4 r5 r6 r7 v5 v6 r8 r9 r10 r11 v7 h1 r12 v8 v9 h2 h3 v10 v11 r13 v12 v13 h4 x10 w15 r14 v16 v17 r15 r16 r17 r18 r19 r20 v18 r21 r22 r23 v19 h1 g0 f20 h2 g1 fn20 h3 g2 f22 h4 g3 fn11)) [0, 1, 2, 3, 4] (by decide) rfl
          have hK9 := hK.sub (tys' := []) [] rfl
          exact W.iret (v := ra12) hx hb hr (fun t ht hW => ⟨⟨ra12, ra12, rfl, rfl, ⟨x10, fn20, f22, fn11, by first | omega | decide, ob_x10, ia_fn20, ia_fn11, by rw [ht]; exact hP9, va_K.moved hW.alike hK9, hD9⟩⟩, hS.F ht⟩) hS.2.2 dX12_move_129
        · skip
          have fc7 : ¬ (v25.toInt = 9) := fun h9 => c7 (Int32.toInt_inj.mp h9)
          refine lv_aload_n hx hb dX12_move_51 rfl (lv_at hl 0 rfl) ?_
          refine va_get (D := (dC, dI)) (ci := 12) (v := .ref h2) (C := RX12) (T := TX12) (N := 48) hx hb hts (fun _ h => List.mem_cons_of_mem _ (List.mem_append_right _ h)) hown hK hP 0 rfl rfl 24 (by decide) (hts (.fieldLink RX12 52 "LeftArgumentsModel" "now" "[I") (List.mem_cons_of_mem _ (List.mem_append_left _ (List.mem_of_getElem? (i := 6) rfl)))) (fun _ h9 => h9) rfl dX12_move_52 ?_
          refine lv_bipush (v := 64) hx hb dX12_move_55 (by decide) ?_
          refine va_iald hx hb hK hP 2 1 rfl rfl (pv_c (x := 64) (n := 247) (by decide)) dX12_move_57 ?_
          refine lv_topi (fun t21 et21 => ?_)
          have mmt21 : f21 (Int32.toNatClampNeg 64) = t21 := et21.symm
          refine lv_iconst (v := 1) hx hb dX12_move_58 (by decide) ?_
          refine lv_icmp_lt (tgt := 76) hx hb dX12_move_59 (by decide) (fun c22 => ?_) (fun c22 => ?_)
          · skip
            have fc22 : t21.toInt < 1 := Int32.lt_iff_toInt_lt.mp c22
            refine lv_iconst (v := 3) hx hb dX12_move_76 (by decide) ?_
            refine lv_goto (tgt := 81) hx hb dX12_move_77 (by decide) ?_
            have hPc := hP.sub (ws' := (wd_5b5f7811 h0 v0 r0 v1 v2 v3 v4 r1 r2 r3 r4 r5 r6 r7 v5 v6 r8 r9 r10 r11 v7 h1 r12 v8 v9 h2 h3 v10 v11 r13 v12 v13 h4 v14 w15 r14 v16 v17 r15 r16 r17 r18 r19 r20 v18 r21 r22 r23 v19 h3 g2 f22)) [0, 3] rfl
            have hDc := hD.sub (ws' := (wd_5b5f7811 h0 v0 r0 v1 v2 v3 v4 r1 r2 r3 r4 r5 r6 r7 v5 v6 r8 r9 r10 r11 v7 h1 r12 v8 v9 h2 h3 v10 v11 r13 v12 v13 h4 v14 w15 r14 v16 v17 r15 r16 r17 r18 r19 r20 v18 r21 r22 r23 v19 h3 g2 f22)) [0, 3] (by decide) rfl
            have hKc := hK.sub (tys' := [(g2, .int)]) [2] rfl
            have hFc := va_free (wc := (wd_5b5f7811 h0 v0 r0 v1 v2 v3 v4 r1 r2 r3 r4 r5 r6 r7 v5 v6 r8 r9 r10 r11 v7 h1 r12 v8 v9 h2 h3 v10 v11 r13 v12 v13 h4 v14 w15 r14 v16 v17 r15 r16 r17 r18 r19 r20 v18 r21 r22 r23 v19 h3 g2 f22)) hD hS hA [0, 3] rfl
            refine va_calli (va_runV (As := [.int 3]) (rest := []) ⟨hx, hb, hml, hown, hts⟩ (k_X12_isRefused_2 l dC dI h0 h3 v0 r0 v1 v2 v3 v4 r1 r2 r3 r4 r5 r6 r7 v5 v6 r8 r9 r10 r11 v7 h1 r12 v8 v9 h2 v10 v11 r13 v12 v13 h4 v14 w15 r14 v16 v17 r15 r16 r17 r18 r19 r20 v18 r21 r22 r23 v19 g2 f22 ⟨i_v1a, i_v1b⟩ ⟨i_v5a, i_v5b⟩ ⟨i_v6a, i_v6b⟩ ⟨i_v7a, i_v7b⟩ ⟨i_v8a, i_v8b⟩ ⟨i_v9a, i_v9b⟩ ⟨i_v10a, i_v10b⟩ ⟨i_v14a, i_v14b⟩ ⟨i_v18a, i_v18b⟩ ⟨i_v19a, i_v19b⟩ H.size) (cwV 1 hts g_X12_move_7 rfl rfl rfl (by decide +kernel) ⟨Nat.le_of_ble_eq_true rfl, Nat.le_of_ble_eq_true rfl⟩) (pv_PV12 hPc hKc hDc (q0 := 0) rfl) rfl rfl hl.1 rfl (lv_room (Nat.le_of_ble_eq_true rfl)) dX12_move_81 ⟨Nat.le_of_ble_eq_true rfl, Nat.le_of_ble_eq_true rfl⟩) hS (fun q _ h => hFc q h) hFc (fun ra23 u t H1 locs ht hvm hwra23 hB hz1 hk1 hS => ?_)
            try rw [hwra23] at hB
            obtain ⟨fn24, pt0_ra23, pt1_ra23, hP1, hK1, hD1⟩ := hB
            rw [ht] at hP1
            obtain ⟨hP2, hD2⟩ := va_join (wr := (wd_4b0b152d h1 g0 f20 h2 g1 f21 h4 g3 f23)) (w1 := (wd_5b5f7811 h0 v0 r0 v1 v2 v3 v4 r1 r2 r3 r4 r5 r6 r7 v5 v6 r8 r9 r10 r11 v7 h1 r12 v8 v9 h2 h3 v10 v11 r13 v12 v13 h4 v14 w15 r14 v16 v17 r15 r16 r17 r18 r19 r20 v18 r21 r22 r23 v19 h3 g2 fn24)) hP hD [0, 3] [1, 2, 4] rfl rfl (by decide) (by decide) hk1 hFc hP1 hD1
            clear hP hD hPc hDc hKc hFc hP1 hK1 hD1 hk1 hz1
            generalize H1 = H at hP2 hS ⊢
            have hP := hP2.sub (ws' := (wd_56d90344 h0 v0 r0 v1 v2 v3 v4 r1 r2 r3 r4 r5 r6 r7 v5 v6 r8 r9 r10 r11 v7 h1 r12 v8 v9 h2 h3 v10 v11 r13 v12 v13 h4 v14 w15 r14 v16 v17 r15 r16 r17 r18 r19 r20 v18 r21 r22 r23 v19 h1 g0 f20 h2 g1 f21 h3 g2 fn24 h4 g3 f23)) [3, 0, 1, 4, 2] rfl
            have hD := hD2.sub (ws' := (wd_56d90344 h0 v0 r0 v1 v2 v3 v4 r1 r2 r3 r4 r5 r6 r7 v5 v6 r8 r9 r10 r11 v7 h1 r12 v8 v9 h2 h3 v10 v11 r13 v12 v13 h4 v14 w15 r14 v16 v17 r15 r16 r17 r18 r19 r20 v18 r21 r22 r23 v19 h1 g0 f20 h2 g1 f21 h3 g2 fn24 h4 g3 f23)) [3, 0, 1, 4, 2] (by decide) rfl
            clear hP2 hD2
            obtain rfl : ra23 = (1 : Int32) := pv_cs (by decide) pt0_ra23 pt1_ra23
            refine lv_if_eq (tgt := 89) hx hb dX12_move_84 (by decide) (fun c => absurd c (by decide)) (fun _ => ?_)
            refine lv_iconst (v := (-1)) hx hb dX12_move_87 (by decide) ?_
            subst hQ
            have hP9 := hP.sub (ws' := (wd_56d90344 h0 v0 r0 v1 v2 v3 v4 r1 r2 r3 r4 r5 r6 r7 v5 v6 r8 r9 r10 r11 v7 h1 r12 v8 v9 h2 h3 v10 v11 r13 v12 v13 h4 v14 w15 r14 v16 v17 r15 r16 r17 r18 r19 r20 v18 r21 r22 r23 v19 h1 g0 f20 h2 g1 f21 h3 g2 fn24 h4 g3 f23)) [0, 1, 2, 3, 4] rfl
            have hD9 := hD.sub (ws' := (wd_56d90344 h0 v0 r0 v1 v2 v3 v4 r1 r2 r3 r4 r5 r6 r7 v5 v6 r8 r9 r10 r11 v7 h1 r12 v8 v9 h2 h3 v10 v11 r13 v12 v13 h4 v14 w15 r14 v16 v17 r15 r16 r17 r18 r19 r20 v18 r21 r22 r23 v19 h1 g0 f20 h2 g1 f21 h3 g2 fn24 h4 g3 f23)) [0, 1, 2, 3, 4] (by decide) rfl
            have hK9 := hK.sub (tys' := []) [] rfl
            exact W.iret (v := (-1)) hx hb hr (fun t ht hW => ⟨⟨(-1), (-1), rfl, rfl, ⟨v14, f21, fn24, f23, i_v14a, i_v14b, ia_f21, ia_f23, by rw [ht]; exact hP9, va_K.moved hW.alike hK9, hD9⟩⟩, hS.F ht⟩) hS.2.2 dX12_move_88
          · skip
            have fc22 : ¬ (t21.toInt < 1) := fun h9 => c22 (Int32.lt_iff_toInt_lt.mpr h9)
            refine lv_aload_n hx hb dX12_move_62 rfl (lv_at hl 0 rfl) ?_
            refine lv_iload_n hx hb dX12_move_63 rfl (lv_at hl 2 rfl) ?_
            refine lv_aload_n hx hb dX12_move_64 rfl (lv_at hl 0 rfl) ?_
            refine lv_iload_n hx hb dX12_move_65 rfl (lv_at hl 1 rfl) ?_
            refine lv_iconst (v := 0) hx hb dX12_move_66 (by decide) ?_
            have hPc := hP.sub (ws' := (wd_5013416a h0 v0 r0 v1 v2 v3 v4 r1 r2 r3 r4 r5 r6 r7 v5 v6 r8 r9 r10 r11 v7 h1 r12 v8 v9 h2 h3 v10 v11 r13 v12 v13 h4 v14 w15 r14 v16 v17 r15 r16 r17 r18 r19 r20 v18 r21 r22 r23 v19 h2 g1 f21)) [0, 2] rfl
            have hDc := hD.sub (ws' := (wd_5013416a h0 v0 r0 v1 v2 v3 v4 r1 r2 r3 r4 r5 r6 r7 v5 v6 r8 r9 r10 r11 v7 h1 r12 v8 v9 h2 h3 v10 v11 r13 v12 v13 h4 v14 w15 r14 v16 v17 r15 r16 r17 r18 r19 r20 v18 r21 r22 r23 v19 h2 g1 f21)) [0, 2] (by decide) rfl
            have hKc := hK.sub (tys' := [(g1, .int)]) [1] rfl
            have hFc := va_free (wc := (wd_5013416a h0 v0 r0 v1 v2 v3 v4 r1 r2 r3 r4 r5 r6 r7 v5 v6 r8 r9 r10 r11 v7 h1 r12 v8 v9 h2 h3 v10 v11 r13 v12 v13 h4 v14 w15 r14 v16 v17 r15 r16 r17 r18 r19 r20 v18 r21 r22 r23 v19 h2 g1 f21)) hD hS hA [0, 2] rfl
            refine va_calli (va_runV (As := [.int v24, .int 0]) (rest := [.int v25, .ref h0, .ref h0]) ⟨hx, hb, hml, hown, hts⟩ (k_X12_of_3 l dC dI h0 h2 v0 r0 v1 v2 v3 v4 r1 r2 r3 r4 r5 r6 r7 v5 v6 r8 r9 r10 r11 v7 h1 r12 v8 v9 h3 v10 v11 r13 v12 v13 h4 v14 w15 r14 v16 v17 r15 r16 r17 r18 r19 r20 v18 r21 r22 r23 v19 g1 f21 v24 ⟨i_v1a, i_v1b⟩ ⟨i_v5a, i_v5b⟩ ⟨i_v6a, i_v6b⟩ ⟨i_v7a, i_v7b⟩ ⟨i_v8a, i_v8b⟩ ⟨i_v9a, i_v9b⟩ ⟨i_v10a, i_v10b⟩ ⟨i_v14a, i_v14b⟩ ⟨i_v18a, i_v18b⟩ ⟨i_v19a, i_v19b⟩ ⟨by first | omega | decide, by first | omega | decide⟩ ia_f21.1 H.size) (cwV 2 hts g_X12_move_8 rfl rfl rfl (by decide +kernel) ⟨Nat.le_of_ble_eq_true rfl, Nat.le_of_ble_eq_true rfl⟩) (pv_PV12 hPc hKc hDc (q0 := 0) rfl) rfl rfl hl.1 rfl (lv_room (Nat.le_of_ble_eq_true rfl)) dX12_move_67 ⟨Nat.le_of_ble_eq_true rfl, Nat.le_of_ble_eq_true rfl⟩) hS (fun q _ h => hFc q h) hFc (fun ra25 u t H1 locs ht hvm hwra25 hB hz1 hk1 hS => ?_)
            try rw [hwra25] at hB
            obtain ⟨pt0_ra25, pt1_ra25, pt2_ra25, hP1, hK1, hD1⟩ := hB
            rw [ht] at hP1
            obtain ⟨hP2, hD2⟩ := va_join (wr := (wd_5cc14b98 h1 g0 f20 h3 g2 f22 h4 g3 f23)) (w1 := (wd_5013416a h0 v0 r0 v1 v2 v3 v4 r1 r2 r3 r4 r5 r6 r7 v5 v6 r8 r9 r10 r11 v7 h1 r12 v8 v9 h2 h3 v10 v11 r13 v12 v13 h4 v14 w15 r14 v16 v17 r15 r16 r17 r18 r19 r20 v18 r21 r22 r23 v19 h2 g1 f21)) hP hD [0, 2] [1, 3, 4] rfl rfl (by decide) (by decide) hk1 hFc hP1 hD1
            clear hP hD hPc hDc hKc hFc hP1 hK1 hD1 hk1 hz1
            generalize H1 = H at hP2 hS ⊢
            have hP := hP2.sub (ws' := (wd_56d90344 h0 v0 r0 v1 v2 v3 v4 r1 r2 r3 r4 r5 r6 r7 v5 v6 r8 r9 r10 r11 v7 h1 r12 v8 v9 h2 h3 v10 v11 r13 v12 v13 h4 v14 w15 r14 v16 v17 r15 r16 r17 r18 r19 r20 v18 r21 r22 r23 v19 h1 g0 f20 h2 g1 f21 h3 g2 f22 h4 g3 f23)) [3, 0, 4, 1, 2] rfl
            have hD := hD2.sub (ws' := (wd_56d90344 h0 v0 r0 v1 v2 v3 v4 r1 r2 r3 r4 r5 r6 r7 v5 v6 r8 r9 r10 r11 v7 h1 r12 v8 v9 h2 h3 v10 v11 r13 v12 v13 h4 v14 w15 r14 v16 v17 r15 r16 r17 r18 r19 r20 v18 r21 r22 r23 v19 h1 g0 f20 h2 g1 f21 h3 g2 f22 h4 g3 f23)) [3, 0, 4, 1, 2] (by decide) rfl
            clear hP2 hD2
            have hPc := hP.sub (ws' := (wd_78675856 h0 v0 r0 v1 v2 v3 v4 r1 r2 r3 r4 r5 r6 r7 v5 v6 r8 r9 r10 r11 v7 h1 r12 v8 v9 h2 h3 v10 v11 r13 v12 v13 h4 v14 w15 r14 v16 v17 r15 r16 r17 r18 r19 r20 v18 r21 r22 r23 v19 h1 g0 f20 h2 g1 f21)) [0, 1, 2] rfl
            have hDc := hD.sub (ws' := (wd_78675856 h0 v0 r0 v1 v2 v3 v4 r1 r2 r3 r4 r5 r6 r7 v5 v6 r8 r9 r10 r11 v7 h1 r12 v8 v9 h2 h3 v10 v11 r13 v12 v13 h4 v14 w15 r14 v16 v17 r15 r16 r17 r18 r19 r20 v18 r21 r22 r23 v19 h1 g0 f20 h2 g1 f21)) [0, 1, 2] (by decide) rfl
            have hKc := hK.sub (tys' := [(g0, .int), (g1, .int)]) [0, 1] rfl
            have hFc := va_free (wc := (wd_78675856 h0 v0 r0 v1 v2 v3 v4 r1 r2 r3 r4 r5 r6 r7 v5 v6 r8 r9 r10 r11 v7 h1 r12 v8 v9 h2 h3 v10 v11 r13 v12 v13 h4 v14 w15 r14 v16 v17 r15 r16 r17 r18 r19 r20 v18 r21 r22 r23 v19 h1 g0 f20 h2 g1 f21)) hD hS hA [0, 1, 2] rfl
            refine va_calli (va_runV (As := [.int v25, .int ra25]) (rest := [.ref h0]) ⟨hx, hb, hml, hown, hts⟩ (k_X12_does l dC dI h0 h1 h2 v0 r0 v1 v2 v3 v4 r1 r2 r3 r4 r5 r6 r7 v5 v6 r8 r9 r10 r11 v7 r12 v8 v9 h3 v10 v11 r13 v12 v13 h4 v14 w15 r14 v16 v17 r15 r16 r17 r18 r19 r20 v18 r21 r22 r23 v19 g0 f20 g1 f21 v25 ra25 ⟨i_v1a, i_v1b⟩ ⟨i_v5a, i_v5b⟩ ⟨i_v6a, i_v6b⟩ ⟨i_v7a, i_v7b⟩ ⟨i_v8a, i_v8b⟩ ⟨i_v9a, i_v9b⟩ ⟨i_v10a, i_v10b⟩ ⟨i_v14a, i_v14b⟩ ⟨i_v18a, i_v18b⟩ ⟨i_v19a, i_v19b⟩ ia_f20 ia_f21 H.size) (cwV 2 hts g_X12_move_9 rfl rfl rfl (by decide +kernel) ⟨Nat.le_of_ble_eq_true rfl, Nat.le_of_ble_eq_true rfl⟩) (pv_PV12 hPc hKc hDc (q0 := 0) rfl) rfl rfl hl.1 rfl (lv_room (Nat.le_of_ble_eq_true rfl)) dX12_move_70 ⟨Nat.le_of_ble_eq_true rfl, Nat.le_of_ble_eq_true rfl⟩) hS (fun q _ h => hFc q h) hFc (fun ra26 u t H1 locs ht hvm hwra26 hB hz1 hk1 hS => ?_)
            try rw [hwra26] at hB
            obtain ⟨pt0_ra26, pt1_ra26, hP1, hK1, hD1⟩ := hB
            rw [ht] at hP1
            obtain ⟨hP2, hD2⟩ := va_join (wr := (wd_969f66a9 h3 g2 f22 h4 g3 f23)) (w1 := (wd_78675856 h0 v0 r0 v1 v2 v3 v4 r1 r2 r3 r4 r5 r6 r7 v5 v6 r8 r9 r10 r11 v7 h1 r12 v8 v9 h2 h3 v10 v11 r13 v12 v13 h4 v14 w15 r14 v16 v17 r15 r16 r17 r18 r19 r20 v18 r21 r22 r23 v19 h1 g0 f20 h2 g1 f21)) hP hD [0, 1, 2] [3, 4] rfl rfl (by decide) (by decide) hk1 hFc hP1 hD1
            clear hP hD hPc hDc hKc hFc hP1 hK1 hD1 hk1 hz1
            generalize H1 = H at hP2 hS ⊢
            have hP := hP2.sub (ws' := (wd_56d90344 h0 v0 r0 v1 v2 v3 v4 r1 r2 r3 r4 r5 r6 r7 v5 v6 r8 r9 r10 r11 v7 h1 r12 v8 v9 h2 h3 v10 v11 r13 v12 v13 h4 v14 w15 r14 v16 v17 r15 r16 r17 r18 r19 r20 v18 r21 r22 r23 v19 h1 g0 f20 h2 g1 f21 h3 g2 f22 h4 g3 f23)) [2, 3, 4, 0, 1] rfl
            have hD := hD2.sub (ws' := (wd_56d90344 h0 v0 r0 v1 v2 v3 v4 r1 r2 r3 r4 r5 r6 r7 v5 v6 r8 r9 r10 r11 v7 h1 r12 v8 v9 h2 h3 v10 v11 r13 v12 v13 h4 v14 w15 r14 v16 v17 r15 r16 r17 r18 r19 r20 v18 r21 r22 r23 v19 h1 g0 f20 h2 g1 f21 h3 g2 f22 h4 g3 f23)) [2, 3, 4, 0, 1] (by decide) rfl
            clear hP2 hD2
            refine lv_if_ne (tgt := 80) hx hb dX12_move_73 (by decide) (fun c27 => ?_) (fun c27 => ?_)
            · skip
              have fc27 : ¬ (ra26.toInt = 0) := fun h9 => c27 (Int32.toInt_inj.mp h9)
              refine lv_iconst (v := (-1)) hx hb dX12_move_80 (by decide) ?_
              have hPc := hP.sub (ws' := (wd_171f232f h0 v0 r0 v1 v2 v3 v4 r1 r2 r3 r4 r5 r6 r7 v5 v6 r8 r9 r10 r11 v7 h1 r12 v8 v9 h2 h3 v10 v11 r13 v12 v13 h4 v14 w15 r14 v16 v17 r15 r16 r17 r18 r19 r20 v18 r21 r22 r23 v19)) [0] rfl
              have hDc := hD.sub (ws' := (wd_171f232f h0 v0 r0 v1 v2 v3 v4 r1 r2 r3 r4 r5 r6 r7 v5 v6 r8 r9 r10 r11 v7 h1 r12 v8 v9 h2 h3 v10 v11 r13 v12 v13 h4 v14 w15 r14 v16 v17 r15 r16 r17 r18 r19 r20 v18 r21 r22 r23 v19)) [0] (by decide) rfl
              have hKc := hK.sub (tys' := []) [] rfl
              have hFc := va_free (wc := (wd_171f232f h0 v0 r0 v1 v2 v3 v4 r1 r2 r3 r4 r5 r6 r7 v5 v6 r8 r9 r10 r11 v7 h1 r12 v8 v9 h2 h3 v10 v11 r13 v12 v13 h4 v14 w15 r14 v16 v17 r15 r16 r17 r18 r19 r20 v18 r21 r22 r23 v19)) hD hS hA [0] rfl
              refine va_calli (va_runV (As := [.int (-1)]) (rest := []) ⟨hx, hb, hml, hown, hts⟩ (k_X12_isRefused l dC dI h0 v0 r0 v1 v2 v3 v4 r1 r2 r3 r4 r5 r6 r7 v5 v6 r8 r9 r10 r11 v7 h1 r12 v8 v9 h2 h3 v10 v11 r13 v12 v13 h4 v14 w15 r14 v16 v17 r15 r16 r17 r18 r19 r20 v18 r21 r22 r23 v19 ⟨i_v1a, i_v1b⟩ ⟨i_v5a, i_v5b⟩ ⟨i_v6a, i_v6b⟩ ⟨i_v7a, i_v7b⟩ ⟨i_v8a, i_v8b⟩ ⟨i_v9a, i_v9b⟩ ⟨i_v10a, i_v10b⟩ ⟨i_v14a, i_v14b⟩ ⟨i_v18a, i_v18b⟩ ⟨i_v19a, i_v19b⟩ H.size) (cwV 1 hts g_X12_move_3 rfl rfl rfl (by decide +kernel) ⟨Nat.le_of_ble_eq_true rfl, Nat.le_of_ble_eq_true rfl⟩) (pv_PV12 hPc hKc hDc (q0 := 0) rfl) rfl rfl hl.1 rfl (lv_room (Nat.le_of_ble_eq_true rfl)) dX12_move_81 ⟨Nat.le_of_ble_eq_true rfl, Nat.le_of_ble_eq_true rfl⟩) hS (fun q _ h => hFc q h) hFc (fun ra28 u t H1 locs ht hvm hwra28 hB hz1 hk1 hS => ?_)
              try rw [hwra28] at hB
              obtain ⟨pt0_ra28, pt1_ra28, hP1, hK1, hD1⟩ := hB
              rw [ht] at hP1
              obtain ⟨hP2, hD2⟩ := va_join (wr := (wd_3ac54ae4 h1 g0 f20 h2 g1 f21 h3 g2 f22 h4 g3 f23)) (w1 := (wd_171f232f h0 v0 r0 v1 v2 v3 v4 r1 r2 r3 r4 r5 r6 r7 v5 v6 r8 r9 r10 r11 v7 h1 r12 v8 v9 h2 h3 v10 v11 r13 v12 v13 h4 v14 w15 r14 v16 v17 r15 r16 r17 r18 r19 r20 v18 r21 r22 r23 v19)) hP hD [0] [1, 2, 3, 4] rfl rfl (by decide) (by decide) hk1 hFc hP1 hD1
              clear hP hD hPc hDc hKc hFc hP1 hK1 hD1 hk1 hz1
              generalize H1 = H at hP2 hS ⊢
              have hP := hP2.sub (ws' := (wd_56d90344 h0 v0 r0 v1 v2 v3 v4 r1 r2 r3 r4 r5 r6 r7 v5 v6 r8 r9 r10 r11 v7 h1 r12 v8 v9 h2 h3 v10 v11 r13 v12 v13 h4 v14 w15 r14 v16 v17 r15 r16 r17 r18 r19 r20 v18 r21 r22 r23 v19 h1 g0 f20 h2 g1 f21 h3 g2 f22 h4 g3 f23)) [4, 0, 1, 2, 3] rfl
              have hD := hD2.sub (ws' := (wd_56d90344 h0 v0 r0 v1 v2 v3 v4 r1 r2 r3 r4 r5 r6 r7 v5 v6 r8 r9 r10 r11 v7 h1 r12 v8 v9 h2 h3 v10 v11 r13 v12 v13 h4 v14 w15 r14 v16 v17 r15 r16 r17 r18 r19 r20 v18 r21 r22 r23 v19 h1 g0 f20 h2 g1 f21 h3 g2 f22 h4 g3 f23)) [4, 0, 1, 2, 3] (by decide) rfl
              clear hP2 hD2
              obtain rfl : ra28 = (0 : Int32) := pv_cs (by decide) pt0_ra28 pt1_ra28
              refine lv_if_eq (tgt := 89) hx hb dX12_move_84 (by decide) (fun _ => ?_) (fun c => absurd (by decide) c)
              refine lv_aload_n hx hb dX12_move_89 rfl (lv_at hl 0 rfl) ?_
              have hPc := hP.sub (ws' := (wd_baa7feb8 h0 v0 r0 v1 v2 v3 v4 r1 r2 r3 r4 r5 r6 r7 v5 v6 r8 r9 r10 r11 v7 h1 r12 v8 v9 h2 h3 v10 v11 r13 v12 v13 h4 v14 w15 r14 v16 v17 r15 r16 r17 r18 r19 r20 v18 r21 r22 r23 v19 h2 g1 f21 h4 g3 f23)) [0, 2, 4] rfl
              have hDc := hD.sub (ws' := (wd_baa7feb8 h0 v0 r0 v1 v2 v3 v4 r1 r2 r3 r4 r5 r6 r7 v5 v6 r8 r9 r10 r11 v7 h1 r12 v8 v9 h2 h3 v10 v11 r13 v12 v13 h4 v14 w15 r14 v16 v17 r15 r16 r17 r18 r19 r20 v18 r21 r22 r23 v19 h2 g1 f21 h4 g3 f23)) [0, 2, 4] (by decide) rfl
              have hKc := hK.sub (tys' := [(g1, .int), (g3, .int)]) [1, 3] rfl
              have hFc := va_free (wc := (wd_baa7feb8 h0 v0 r0 v1 v2 v3 v4 r1 r2 r3 r4 r5 r6 r7 v5 v6 r8 r9 r10 r11 v7 h1 r12 v8 v9 h2 h3 v10 v11 r13 v12 v13 h4 v14 w15 r14 v16 v17 r15 r16 r17 r18 r19 r20 v18 r21 r22 r23 v19 h2 g1 f21 h4 g3 f23)) hD hS hA [0, 2, 4] rfl
              refine va_callv (va_runV (As := []) (rest := []) ⟨hx, hb, hml, hown, hts⟩ (k_X12_keep l dC dI h0 h2 h4 v0 r0 v1 v2 v3 v4 r1 r2 r3 r4 r5 r6 r7 v5 v6 r8 r9 r10 r11 v7 h1 r12 v8 v9 h3 v10 v11 r13 v12 v13 v14 w15 r14 v16 v17 r15 r16 r17 r18 r19 r20 v18 r21 r22 r23 v19 g1 f21 g3 f23 ⟨i_v1a, i_v1b⟩ ⟨i_v5a, i_v5b⟩ ⟨i_v6a, i_v6b⟩ ⟨i_v7a, i_v7b⟩ ⟨i_v8a, i_v8b⟩ ⟨i_v9a, i_v9b⟩ ⟨i_v10a, i_v10b⟩ ⟨i_v14a, i_v14b⟩ ⟨i_v18a, i_v18b⟩ ⟨i_v19a, i_v19b⟩ ia_f21 ia_f23 H.size) (cwV 0 hts g_X12_move_4 rfl rfl rfl (by decide +kernel) ⟨Nat.le_of_ble_eq_true rfl, Nat.le_of_ble_eq_true rfl⟩) (pv_PV12 hPc hKc hDc (q0 := 0) rfl) rfl rfl hl.1 rfl (lv_room (Nat.le_of_ble_eq_true rfl)) dX12_move_90 ⟨Nat.le_of_ble_eq_true rfl, Nat.le_of_ble_eq_true rfl⟩) hS (fun q _ h => hFc q h) hFc (fun u t H1 locs ht hvm hwra29 hB hz1 hk1 hS => ?_)
              obtain ⟨x30, fn31, oa_x30, ob_x30, ia_fn31, hP1, hK1, hD1⟩ := hB
              rw [ht] at hP1
              obtain ⟨hP2, hD2⟩ := va_join (wr := (wd_2e233976 h1 g0 f20 h3 g2 f22)) (w1 := (wd_baa7feb8 h0 v0 r0 v1 v2 v3 v4 r1 r2 r3 r4 r5 r6 r7 v5 v6 r8 r9 r10 r11 v7 h1 r12 v8 v9 h2 h3 v10 v11 r13 v12 v13 h4 x30 w15 r14 v16 v17 r15 r16 r17 r18 r19 r20 v18 r21 r22 r23 v19 h2 g1 f21 h4 g3 fn31)) hP hD [0, 2, 4] [1, 3] rfl rfl (by decide) (by decide) hk1 hFc hP1 hD1
              clear hP hD hPc hDc hKc hFc hP1 hK1 hD1 hk1 hz1
              generalize H1 = H at hP2 hS ⊢
              have hP := hP2.sub (ws' := (wd_56d90344 h0 v0 r0 v1 v2 v3 v4 r1 r2 r3 r4 r5 r6 r7 v5 v6 r8 r9 r10 r11 v7 h1 r12 v8 v9 h2 h3 v10 v11 r13 v12 v13 h4 x30 w15 r14 v16 v17 r15 r16 r17 r18 r19 r20 v18 r21 r22 r23 v19 h1 g0 f20 h2 g1 f21 h3 g2 f22 h4 g3 fn31)) [2, 0, 3, 1, 4] rfl
              have hD := hD2.sub (ws' := (wd_56d90344 h0 v0 r0 v1 v2 v3 v4 r1 r2 r3 r4 r5 r6 r7 v5 v6 r8 r9 r10 r11 v7 h1 r12 v8 v9 h2 h3 v10 v11 r13 v12 v13 h4 x30 w15 r14 v16 v17 r15 r16 r17 r18 r19 r20 v18 r21 r22 r23 v19 h1 g0 f20 h2 g1 f21 h3 g2 f22 h4 g3 fn31)) [2, 0, 3, 1, 4] (by decide) rfl
              clear hP2 hD2
              refine lv_aload_n hx hb dX12_move_93 rfl (lv_at hl 0 rfl) ?_
              refine lv_iload_n hx hb dX12_move_94 rfl (lv_at hl 1 rfl) ?_
              refine lv_iconst (v := 3) hx hb dX12_move_95 (by decide) ?_
              have hPc := hP.sub (ws' := (wd_5013416a h0 v0 r0 v1 v2 v3 v4 r1 r2 r3 r4 r5 r6 r7 v5 v6 r8 r9 r10 r11 v7 h1 r12 v8 v9 h2 h3 v10 v11 r13 v12 v13 h4 x30 w15 r14 v16 v17 r15 r16 r17 r18 r19 r20 v18 r21 r22 r23 v19 h2 g1 f21)) [0, 2] rfl
              have hDc := hD.sub (ws' := (wd_5013416a h0 v0 r0 v1 v2 v3 v4 r1 r2 r3 r4 r5 r6 r7 v5 v6 r8 r9 r10 r11 v7 h1 r12 v8 v9 h2 h3 v10 v11 r13 v12 v13 h4 x30 w15 r14 v16 v17 r15 r16 r17 r18 r19 r20 v18 r21 r22 r23 v19 h2 g1 f21)) [0, 2] (by decide) rfl
              have hKc := hK.sub (tys' := [(g1, .int)]) [1] rfl
              have hFc := va_free (wc := (wd_5013416a h0 v0 r0 v1 v2 v3 v4 r1 r2 r3 r4 r5 r6 r7 v5 v6 r8 r9 r10 r11 v7 h1 r12 v8 v9 h2 h3 v10 v11 r13 v12 v13 h4 x30 w15 r14 v16 v17 r15 r16 r17 r18 r19 r20 v18 r21 r22 r23 v19 h2 g1 f21)) hD hS hA [0, 2] rfl
              refine va_calli (va_runV (As := [.int v24, .int 3]) (rest := []) ⟨hx, hb, hml, hown, hts⟩ (k_X12_of_4 l dC dI h0 h2 v0 r0 v1 v2 v3 v4 r1 r2 r3 r4 r5 r6 r7 v5 v6 r8 r9 r10 r11 v7 h1 r12 v8 v9 h3 v10 v11 r13 v12 v13 h4 x30 w15 r14 v16 v17 r15 r16 r17 r18 r19 r20 v18 r21 r22 r23 v19 g1 f21 v24 ⟨i_v1a, i_v1b⟩ ⟨i_v5a, i_v5b⟩ ⟨i_v6a, i_v6b⟩ ⟨i_v7a, i_v7b⟩ ⟨i_v8a, i_v8b⟩ ⟨i_v9a, i_v9b⟩ ⟨i_v10a, i_v10b⟩ ⟨by first | omega | decide, ob_x30⟩ ⟨i_v18a, i_v18b⟩ ⟨i_v19a, i_v19b⟩ ⟨by first | omega | decide, by first | omega | decide⟩ ia_f21.1 H.size) (cwV 2 hts g_X12_move_2 rfl rfl rfl (by decide +kernel) ⟨Nat.le_of_ble_eq_true rfl, Nat.le_of_ble_eq_true rfl⟩) (pv_PV12 hPc hKc hDc (q0 := 0) rfl) rfl rfl hl.1 rfl (lv_room (Nat.le_of_ble_eq_true rfl)) dX12_move_96 ⟨Nat.le_of_ble_eq_true rfl, Nat.le_of_ble_eq_true rfl⟩) hS (fun q _ h => hFc q h) hFc (fun ra32 u t H1 locs ht hvm hwra32 hB hz1 hk1 hS => ?_)
              try rw [hwra32] at hB
              obtain ⟨pt0_ra32, hP1, hK1, hD1⟩ := hB
              rw [ht] at hP1
              obtain ⟨hP2, hD2⟩ := va_join (wr := (wd_5cc14b98 h1 g0 f20 h3 g2 f22 h4 g3 fn31)) (w1 := (wd_5013416a h0 v0 r0 v1 v2 v3 v4 r1 r2 r3 r4 r5 r6 r7 v5 v6 r8 r9 r10 r11 v7 h1 r12 v8 v9 h2 h3 v10 v11 r13 v12 v13 h4 x30 w15 r14 v16 v17 r15 r16 r17 r18 r19 r20 v18 r21 r22 r23 v19 h2 g1 f21)) hP hD [0, 2] [1, 3, 4] rfl rfl (by decide) (by decide) hk1 hFc hP1 hD1
              clear hP hD hPc hDc hKc hFc hP1 hK1 hD1 hk1 hz1
              generalize H1 = H at hP2 hS ⊢
              have hP := hP2.sub (ws' := (wd_56d90344 h0 v0 r0 v1 v2 v3 v4 r1 r2 r3 r4 r5 r6 r7 v5 v6 r8 r9 r10 r11 v7 h1 r12 v8 v9 h2 h3 v10 v11 r13 v12 v13 h4 x30 w15 r14 v16 v17 r15 r16 r17 r18 r19 r20 v18 r21 r22 r23 v19 h1 g0 f20 h2 g1 f21 h3 g2 f22 h4 g3 fn31)) [3, 0, 4, 1, 2] rfl
              have hD := hD2.sub (ws' := (wd_56d90344 h0 v0 r0 v1 v2 v3 v4 r1 r2 r3 r4 r5 r6 r7 v5 v6 r8 r9 r10 r11 v7 h1 r12 v8 v9 h2 h3 v10 v11 r13 v12 v13 h4 x30 w15 r14 v16 v17 r15 r16 r17 r18 r19 r20 v18 r21 r22 r23 v19 h1 g0 f20 h2 g1 f21 h3 g2 f22 h4 g3 fn31)) [3, 0, 4, 1, 2] (by decide) rfl
              clear hP2 hD2
              refine lv_istore_n (lv' := [(3, .int ra32), (0, .ref h0), (1, .int v24), (2, .int v25)]) hx hb dX12_move_99 rfl hl (by decide) rfl (fun ls hl => ?_)
              refine lv_aload_n hx hb dX12_move_100 rfl (lv_at hl 1 rfl) ?_
              refine va_get (D := (dC, dI)) (ci := 12) (v := .ref h2) (C := RX12) (T := TX12) (N := 48) hx hb hts (fun _ h => List.mem_cons_of_mem _ (List.mem_append_right _ h)) hown hK hP 0 rfl rfl 24 (by decide) (hts (.fieldLink RX12 52 "LeftArgumentsModel" "now" "[I") (List.mem_cons_of_mem _ (List.mem_append_left _ (List.mem_of_getElem? (i := 6) rfl)))) (fun _ h9 => h9) rfl dX12_move_101 ?_
              refine lv_bipush (v := 64) hx hb dX12_move_104 (by decide) ?_
              refine lv_dup2_11 hx hb dX12_move_106 rfl rfl ?_
              refine va_iald hx hb hK hP 2 1 rfl rfl (pv_c (x := 64) (n := 247) (by decide)) dX12_move_107 ?_
              refine lv_topi (fun t33 et33 => ?_)
              have gmt33 : t33.toInt = t21.toInt := by rw [et33, mmt21]
              refine lv_iload_n hx hb dX12_move_108 rfl (lv_at hl 3 rfl) ?_
              refine lv_bipush (v := 9) hx hb dX12_move_109 (by decide) ?_
              refine lv_icmp_ne (tgt := 118) hx hb dX12_move_111 (by decide) (fun c34 => ?_) (fun c34 => ?_)
              · skip
                have fc34 : ¬ (v25.toInt = 9) := fun h9 => c34 (Int32.toInt_inj.mp h9)
                refine lv_iconst (v := 1) hx hb dX12_move_118 (by decide) ?_
                refine lv_isub hx hb dX12_move_119 ?_
                refine lv_topi (fun t35 et35 => ?_)
                have r5t35t33 := Int32.le_toInt t33; have r6t35t33 := Int32.toInt_lt t33
                have gt35 : t35.toInt = t33.toInt - 1 := pv_sub (a := t33.toInt) (b := 1) et35 rfl (by decide) (by omega) (by omega)
                refine va_iast hx hb hK hP hD hS 2 1 rfl rfl (pv_c (x := 64) (n := 247) (by decide)) dX12_move_120 (fun H locs hP hD hS => ?_)
                obtain ⟨fn36, efn36⟩ : ∃ g : Nat → Int32, g = upd f21 (Int32.toNatClampNeg 64) t35 := ⟨_, rfl⟩
                rw [← efn36] at hP hD
                have ia_fn36 : pm_NW fn36 := by rw [efn36]; exact pm_NW.st ia_f21 (z := 64) (y := t35.toInt) (by decide) rfl (by omega) (fun b9 h8 h9 => ⟨fun _ => ⟨by omega, by omega⟩, fun _ => ⟨by omega, by omega⟩⟩) (fun _ => ⟨by omega, by omega⟩) (fun b9 h8 h9 => ⟨fun _ => by omega, fun _ => by omega⟩)
                have mmfn36_64 : fn36 (Int32.toNatClampNeg 64) = t35 := by rw [efn36]; exact pk_us
                have hP : va_P (dC, dI) vwCl (wd_56d90344 h0 v0 r0 v1 v2 v3 v4 r1 r2 r3 r4 r5 r6 r7 v5 v6 r8 r9 r10 r11 v7 h1 r12 v8 v9 h2 h3 v10 v11 r13 v12 v13 h4 x30 w15 r14 v16 v17 r15 r16 r17 r18 r19 r20 v18 r21 r22 r23 v19 h1 g0 f20 h2 g1 fn36 h3 g2 f22 h4 g3 fn31) H := hP
                have hD : va_D A (wd_56d90344 h0 v0 r0 v1 v2 v3 v4 r1 r2 r3 r4 r5 r6 r7 v5 v6 r8 r9 r10 r11 v7 h1 r12 v8 v9 h2 h3 v10 v11 r13 v12 v13 h4 x30 w15 r14 v16 v17 r15 r16 r17 r18 r19 r20 v18 r21 r22 r23 v19 h1 g0 f20 h2 g1 fn36 h3 g2 f22 h4 g3 fn31) := hD
                refine lv_aload_n hx hb dX12_move_121 rfl (lv_at hl 1 rfl) ?_
                refine lv_iload_n hx hb dX12_move_122 rfl (lv_at hl 2 rfl) ?_
                refine lv_iconst (v := 3) hx hb dX12_move_123 (by decide) ?_
                refine lv_iload_n hx hb dX12_move_124 rfl (lv_at hl 3 rfl) ?_
                have hPc := hP.sub (ws' := (wd_5013416a h0 v0 r0 v1 v2 v3 v4 r1 r2 r3 r4 r5 r6 r7 v5 v6 r8 r9 r10 r11 v7 h1 r12 v8 v9 h2 h3 v10 v11 r13 v12 v13 h4 x30 w15 r14 v16 v17 r15 r16 r17 r18 r19 r20 v18 r21 r22 r23 v19 h2 g1 fn36)) [0, 2] rfl
                have hDc := hD.sub (ws' := (wd_5013416a h0 v0 r0 v1 v2 v3 v4 r1 r2 r3 r4 r5 r6 r7 v5 v6 r8 r9 r10 r11 v7 h1 r12 v8 v9 h2 h3 v10 v11 r13 v12 v13 h4 x30 w15 r14 v16 v17 r15 r16 r17 r18 r19 r20 v18 r21 r22 r23 v19 h2 g1 fn36)) [0, 2] (by decide) rfl
                have hKc := hK.sub (tys' := [(g1, .int)]) [1] rfl
                have hFc := va_free (wc := (wd_5013416a h0 v0 r0 v1 v2 v3 v4 r1 r2 r3 r4 r5 r6 r7 v5 v6 r8 r9 r10 r11 v7 h1 r12 v8 v9 h2 h3 v10 v11 r13 v12 v13 h4 x30 w15 r14 v16 v17 r15 r16 r17 r18 r19 r20 v18 r21 r22 r23 v19 h2 g1 fn36)) hD hS hA [0, 2] rfl
                refine va_callv (va_runV (As := [.int v24, .int 3, .int v25]) (rest := []) ⟨hx, hb, hml, hown, hts⟩ (k_X12_set_1 l dC dI h0 h2 v0 r0 v1 v2 v3 v4 r1 r2 r3 r4 r5 r6 r7 v5 v6 r8 r9 r10 r11 v7 h1 r12 v8 v9 h3 v10 v11 r13 v12 v13 h4 x30 w15 r14 v16 v17 r15 r16 r17 r18 r19 r20 v18 r21 r22 r23 v19 g1 fn36 v24 v25 ⟨i_v1a, i_v1b⟩ ⟨i_v5a, i_v5b⟩ ⟨i_v6a, i_v6b⟩ ⟨i_v7a, i_v7b⟩ ⟨i_v8a, i_v8b⟩ ⟨i_v9a, i_v9b⟩ ⟨i_v10a, i_v10b⟩ ⟨by first | omega | decide, ob_x30⟩ ⟨i_v18a, i_v18b⟩ ⟨i_v19a, i_v19b⟩ ⟨by first | omega | decide, by first | omega | decide⟩ trivial H.size) (cwV 3 hts g_X12_move_6 rfl rfl rfl (by decide +kernel) ⟨Nat.le_of_ble_eq_true rfl, Nat.le_of_ble_eq_true rfl⟩) (pv_PV12 hPc hKc hDc (q0 := 0) rfl) rfl rfl hl.1 rfl (lv_room (Nat.le_of_ble_eq_true rfl)) dX12_move_125 ⟨Nat.le_of_ble_eq_true rfl, Nat.le_of_ble_eq_true rfl⟩) hS (fun q _ h => hFc q h) hFc (fun u t H1 locs ht hvm hwra37 hB hz1 hk1 hS => ?_)
                obtain ⟨hP1, hK1, hD1⟩ := hB
                rw [ht] at hP1
                obtain ⟨hP2, hD2⟩ := va_join (wr := (wd_5cc14b98 h1 g0 f20 h3 g2 f22 h4 g3 fn31)) (w1 := (wd_5013416a h0 v0 r0 v1 v2 v3 v4 r1 r2 r3 r4 r5 r6 r7 v5 v6 r8 r9 r10 r11 v7 h1 r12 v8 v9 h2 h3 v10 v11 r13 v12 v13 h4 x30 w15 r14 v16 v17 r15 r16 r17 r18 r19 r20 v18 r21 r22 r23 v19 h2 g1 (upd fn36 (pm_I v24 3) v25))) hP hD [0, 2] [1, 3, 4] rfl rfl (by decide) (by decide) hk1 hFc hP1 hD1
                clear hP hD hPc hDc hKc hFc hP1 hK1 hD1 hk1 hz1
                generalize H1 = H at hP2 hS ⊢
                have hP := hP2.sub (ws' := (wd_56d90344 h0 v0 r0 v1 v2 v3 v4 r1 r2 r3 r4 r5 r6 r7 v5 v6 r8 r9 r10 r11 v7 h1 r12 v8 v9 h2 h3 v10 v11 r13 v12 v13 h4 x30 w15 r14 v16 v17 r15 r16 r17 r18 r19 r20 v18 r21 r22 r23 v19 h1 g0 f20 h2 g1 (upd fn36 (pm_I v24 3) v25) h3 g2 f22 h4 g3 fn31)) [3, 0, 4, 1, 2] rfl
                have hD := hD2.sub (ws' := (wd_56d90344 h0 v0 r0 v1 v2 v3 v4 r1 r2 r3 r4 r5 r6 r7 v5 v6 r8 r9 r10 r11 v7 h1 r12 v8 v9 h2 h3 v10 v11 r13 v12 v13 h4 x30 w15 r14 v16 v17 r15 r16 r17 r18 r19 r20 v18 r21 r22 r23 v19 h1 g0 f20 h2 g1 (upd fn36 (pm_I v24 3) v25) h3 g2 f22 h4 g3 fn31)) [3, 0, 4, 1, 2] (by decide) rfl
                clear hP2 hD2
                obtain ⟨t38, et38⟩ : ∃ y : Int32, y = 8 * v24 + 3 := ⟨_, rfl⟩
                have gt38 : t38.toInt = 8 * v24.toInt + 3 := pm_i8 et38 rfl (by decide) (by omega) (by omega) (by omega) (by omega)
                obtain ⟨fn40, efn40⟩ : ∃ g : Nat → Int32, g = upd fn36 (Int32.toNatClampNeg t38) v25 := ⟨_, rfl⟩
                have e9 : (upd fn36 (pm_I v24 3) v25) = fn40 := by rw [efn40, et38]; rfl
                rw [e9] at hP hD
                have ia_fn40 : pm_NW fn40 := by rw [efn40]; exact pm_NW.st ia_fn36 (z := t38.toInt) (y := v25.toInt) rfl rfl (by omega) (fun b9 h8 h9 => ⟨fun _ => ⟨by omega, by omega⟩, fun _ => ⟨by omega, by omega⟩⟩) (fun _ => ⟨by omega, by omega⟩) (fun b9 h8 h9 => ⟨fun _ => by omega, fun _ => by omega⟩)
                have mmfn40_64 : fn40 (Int32.toNatClampNeg 64) = t35 := by rw [efn40]; exact (pk_un (pm_ne (z := t38.toInt) (c := 64) rfl (by decide) (by omega) (by omega))).trans mmfn36_64
                have hP : va_P (dC, dI) vwCl (wd_56d90344 h0 v0 r0 v1 v2 v3 v4 r1 r2 r3 r4 r5 r6 r7 v5 v6 r8 r9 r10 r11 v7 h1 r12 v8 v9 h2 h3 v10 v11 r13 v12 v13 h4 x30 w15 r14 v16 v17 r15 r16 r17 r18 r19 r20 v18 r21 r22 r23 v19 h1 g0 f20 h2 g1 fn40 h3 g2 f22 h4 g3 fn31) H := hP
                have hD : va_D A (wd_56d90344 h0 v0 r0 v1 v2 v3 v4 r1 r2 r3 r4 r5 r6 r7 v5 v6 r8 r9 r10 r11 v7 h1 r12 v8 v9 h2 h3 v10 v11 r13 v12 v13 h4 x30 w15 r14 v16 v17 r15 r16 r17 r18 r19 r20 v18 r21 r22 r23 v19 h1 g0 f20 h2 g1 fn40 h3 g2 f22 h4 g3 fn31) := hD
                refine lv_iload_n hx hb dX12_move_128 rfl (lv_at hl 0 rfl) ?_
                subst hQ
                have hP9 := hP.sub (ws' := (wd_56d90344 h0 v0 r0 v1 v2 v3 v4 r1 r2 r3 r4 r5 r6 r7 v5 v6 r8 r9 r10 r11 v7 h1 r12 v8 v9 h2 h3 v10 v11 r13 v12 v13 h4 x30 w15 r14 v16 v17 r15 r16 r17 r18 r19 r20 v18 r21 r22 r23 v19 h1 g0 f20 h2 g1 fn40 h3 g2 f22 h4 g3 fn31)) [0, 1, 2, 3, 4] rfl
                have hD9 := hD.sub (ws' := (wd_56d90344 h0 v0 r0 v1 v2 v3 v4 r1 r2 r3 r4 r5 r6 r7 v5 v6 r8 r9 r10 r11 v7 h1 r12 v8 v9 h2 h3 v10 v11 r13 v12 v13 h4 x30 w15 r14 v16 v17 r15 r16 r17 r18 r19 r20 v18 r21 r22 r23 v19 h1 g0 f20 h2 g1 fn40 h3 g2 f22 h4 g3 fn31)) [0, 1, 2, 3, 4] (by decide) rfl
                have hK9 := hK.sub (tys' := []) [] rfl
                exact W.iret (v := ra32) hx hb hr (fun t ht hW => ⟨⟨ra32, ra32, rfl, rfl, ⟨x30, fn40, f22, fn31, by first | omega | decide, ob_x30, ia_fn40, ia_fn31, by rw [ht]; exact hP9, va_K.moved hW.alike hK9, hD9⟩⟩, hS.F ht⟩) hS.2.2 dX12_move_129
              · skip
                have fc34 : v25.toInt = 9 := congrArg Int32.toInt c34
                refine lv_iconst (v := 0) hx hb dX12_move_114 (by decide) ?_
                refine lv_goto (tgt := 119) hx hb dX12_move_115 (by decide) ?_
                refine lv_isub hx hb dX12_move_119 ?_
                refine lv_topi (fun t41 et41 => ?_)
                have r5t41t33 := Int32.le_toInt t33; have r6t41t33 := Int32.toInt_lt t33
                have gt41 : t41.toInt = t33.toInt - 0 := pv_sub (a := t33.toInt) (b := 0) et41 rfl (by decide) (by omega) (by omega)
                refine va_iast hx hb hK hP hD hS 2 1 rfl rfl (pv_c (x := 64) (n := 247) (by decide)) dX12_move_120 (fun H locs hP hD hS => ?_)
                obtain ⟨fn42, efn42⟩ : ∃ g : Nat → Int32, g = upd f21 (Int32.toNatClampNeg 64) t41 := ⟨_, rfl⟩
                rw [← efn42] at hP hD
                have ia_fn42 : pm_NW fn42 := by rw [efn42]; exact pm_NW.st ia_f21 (z := 64) (y := t41.toInt) (by decide) rfl (by omega) (fun b9 h8 h9 => ⟨fun _ => ⟨by omega, by omega⟩, fun _ => ⟨by omega, by omega⟩⟩) (fun _ => ⟨by omega, by omega⟩) (fun b9 h8 h9 => ⟨fun _ => by omega, fun _ => by omega⟩)
                have mmfn42_64 : fn42 (Int32.toNatClampNeg 64) = t41 := by rw [efn42]; exact pk_us
                have hP : va_P (dC, dI) vwCl (wd_56d90344 h0 v0 r0 v1 v2 v3 v4 r1 r2 r3 r4 r5 r6 r7 v5 v6 r8 r9 r10 r11 v7 h1 r12 v8 v9 h2 h3 v10 v11 r13 v12 v13 h4 x30 w15 r14 v16 v17 r15 r16 r17 r18 r19 r20 v18 r21 r22 r23 v19 h1 g0 f20 h2 g1 fn42 h3 g2 f22 h4 g3 fn31) H := hP
                have hD : va_D A (wd_56d90344 h0 v0 r0 v1 v2 v3 v4 r1 r2 r3 r4 r5 r6 r7 v5 v6 r8 r9 r10 r11 v7 h1 r12 v8 v9 h2 h3 v10 v11 r13 v12 v13 h4 x30 w15 r14 v16 v17 r15 r16 r17 r18 r19 r20 v18 r21 r22 r23 v19 h1 g0 f20 h2 g1 fn42 h3 g2 f22 h4 g3 fn31) := hD
                refine lv_aload_n hx hb dX12_move_121 rfl (lv_at hl 1 rfl) ?_
                refine lv_iload_n hx hb dX12_move_122 rfl (lv_at hl 2 rfl) ?_
                refine lv_iconst (v := 3) hx hb dX12_move_123 (by decide) ?_
                refine lv_iload_n hx hb dX12_move_124 rfl (lv_at hl 3 rfl) ?_
                have hPc := hP.sub (ws' := (wd_5013416a h0 v0 r0 v1 v2 v3 v4 r1 r2 r3 r4 r5 r6 r7 v5 v6 r8 r9 r10 r11 v7 h1 r12 v8 v9 h2 h3 v10 v11 r13 v12 v13 h4 x30 w15 r14 v16 v17 r15 r16 r17 r18 r19 r20 v18 r21 r22 r23 v19 h2 g1 fn42)) [0, 2] rfl
                have hDc := hD.sub (ws' := (wd_5013416a h0 v0 r0 v1 v2 v3 v4 r1 r2 r3 r4 r5 r6 r7 v5 v6 r8 r9 r10 r11 v7 h1 r12 v8 v9 h2 h3 v10 v11 r13 v12 v13 h4 x30 w15 r14 v16 v17 r15 r16 r17 r18 r19 r20 v18 r21 r22 r23 v19 h2 g1 fn42)) [0, 2] (by decide) rfl
                have hKc := hK.sub (tys' := [(g1, .int)]) [1] rfl
                have hFc := va_free (wc := (wd_5013416a h0 v0 r0 v1 v2 v3 v4 r1 r2 r3 r4 r5 r6 r7 v5 v6 r8 r9 r10 r11 v7 h1 r12 v8 v9 h2 h3 v10 v11 r13 v12 v13 h4 x30 w15 r14 v16 v17 r15 r16 r17 r18 r19 r20 v18 r21 r22 r23 v19 h2 g1 fn42)) hD hS hA [0, 2] rfl
                refine va_callv (va_runV (As := [.int v24, .int 3, .int v25]) (rest := []) ⟨hx, hb, hml, hown, hts⟩ (k_X12_set_1 l dC dI h0 h2 v0 r0 v1 v2 v3 v4 r1 r2 r3 r4 r5 r6 r7 v5 v6 r8 r9 r10 r11 v7 h1 r12 v8 v9 h3 v10 v11 r13 v12 v13 h4 x30 w15 r14 v16 v17 r15 r16 r17 r18 r19 r20 v18 r21 r22 r23 v19 g1 fn42 v24 v25 ⟨i_v1a, i_v1b⟩ ⟨i_v5a, i_v5b⟩ ⟨i_v6a, i_v6b⟩ ⟨i_v7a, i_v7b⟩ ⟨i_v8a, i_v8b⟩ ⟨i_v9a, i_v9b⟩ ⟨i_v10a, i_v10b⟩ ⟨by first | omega | decide, ob_x30⟩ ⟨i_v18a, i_v18b⟩ ⟨i_v19a, i_v19b⟩ ⟨by first | omega | decide, by first | omega | decide⟩ trivial H.size) (cwV 3 hts g_X12_move_6 rfl rfl rfl (by decide +kernel) ⟨Nat.le_of_ble_eq_true rfl, Nat.le_of_ble_eq_true rfl⟩) (pv_PV12 hPc hKc hDc (q0 := 0) rfl) rfl rfl hl.1 rfl (lv_room (Nat.le_of_ble_eq_true rfl)) dX12_move_125 ⟨Nat.le_of_ble_eq_true rfl, Nat.le_of_ble_eq_true rfl⟩) hS (fun q _ h => hFc q h) hFc (fun u t H1 locs ht hvm hwra43 hB hz1 hk1 hS => ?_)
                obtain ⟨hP1, hK1, hD1⟩ := hB
                rw [ht] at hP1
                obtain ⟨hP2, hD2⟩ := va_join (wr := (wd_5cc14b98 h1 g0 f20 h3 g2 f22 h4 g3 fn31)) (w1 := (wd_5013416a h0 v0 r0 v1 v2 v3 v4 r1 r2 r3 r4 r5 r6 r7 v5 v6 r8 r9 r10 r11 v7 h1 r12 v8 v9 h2 h3 v10 v11 r13 v12 v13 h4 x30 w15 r14 v16 v17 r15 r16 r17 r18 r19 r20 v18 r21 r22 r23 v19 h2 g1 (upd fn42 (pm_I v24 3) v25))) hP hD [0, 2] [1, 3, 4] rfl rfl (by decide) (by decide) hk1 hFc hP1 hD1
                clear hP hD hPc hDc hKc hFc hP1 hK1 hD1 hk1 hz1
                generalize H1 = H at hP2 hS ⊢
                have hP := hP2.sub (ws' := (wd_56d90344 h0 v0 r0 v1 v2 v3 v4 r1 r2 r3 r4 r5 r6 r7 v5 v6 r8 r9 r10 r11 v7 h1 r12 v8 v9 h2 h3 v10 v11 r13 v12 v13 h4 x30 w15 r14 v16 v17 r15 r16 r17 r18 r19 r20 v18 r21 r22 r23 v19 h1 g0 f20 h2 g1 (upd fn42 (pm_I v24 3) v25) h3 g2 f22 h4 g3 fn31)) [3, 0, 4, 1, 2] rfl
                have hD := hD2.sub (ws' := (wd_56d90344 h0 v0 r0 v1 v2 v3 v4 r1 r2 r3 r4 r5 r6 r7 v5 v6 r8 r9 r10 r11 v7 h1 r12 v8 v9 h2 h3 v10 v11 r13 v12 v13 h4 x30 w15 r14 v16 v17 r15 r16 r17 r18 r19 r20 v18 r21 r22 r23 v19 h1 g0 f20 h2 g1 (upd fn42 (pm_I v24 3) v25) h3 g2 f22 h4 g3 fn31)) [3, 0, 4, 1, 2] (by decide) rfl
                clear hP2 hD2
                obtain ⟨t44, et44⟩ : ∃ y : Int32, y = 8 * v24 + 3 := ⟨_, rfl⟩
                have gt44 : t44.toInt = 8 * v24.toInt + 3 := pm_i8 et44 rfl (by decide) (by omega) (by omega) (by omega) (by omega)
                obtain ⟨fn46, efn46⟩ : ∃ g : Nat → Int32, g = upd fn42 (Int32.toNatClampNeg t44) v25 := ⟨_, rfl⟩
                have e9 : (upd fn42 (pm_I v24 3) v25) = fn46 := by rw [efn46, et44]; rfl
                rw [e9] at hP hD
                have ia_fn46 : pm_NW fn46 := by rw [efn46]; exact pm_NW.st ia_fn42 (z := t44.toInt) (y := v25.toInt) rfl rfl (by omega) (fun b9 h8 h9 => ⟨fun _ => ⟨by omega, by omega⟩, fun _ => ⟨by omega, by omega⟩⟩) (fun _ => ⟨by omega, by omega⟩) (fun b9 h8 h9 => ⟨fun _ => by omega, fun _ => by omega⟩)
                have mmfn46_64 : fn46 (Int32.toNatClampNeg 64) = t41 := by rw [efn46]; exact (pk_un (pm_ne (z := t44.toInt) (c := 64) rfl (by decide) (by omega) (by omega))).trans mmfn42_64
                have hP : va_P (dC, dI) vwCl (wd_56d90344 h0 v0 r0 v1 v2 v3 v4 r1 r2 r3 r4 r5 r6 r7 v5 v6 r8 r9 r10 r11 v7 h1 r12 v8 v9 h2 h3 v10 v11 r13 v12 v13 h4 x30 w15 r14 v16 v17 r15 r16 r17 r18 r19 r20 v18 r21 r22 r23 v19 h1 g0 f20 h2 g1 fn46 h3 g2 f22 h4 g3 fn31) H := hP
                have hD : va_D A (wd_56d90344 h0 v0 r0 v1 v2 v3 v4 r1 r2 r3 r4 r5 r6 r7 v5 v6 r8 r9 r10 r11 v7 h1 r12 v8 v9 h2 h3 v10 v11 r13 v12 v13 h4 x30 w15 r14 v16 v17 r15 r16 r17 r18 r19 r20 v18 r21 r22 r23 v19 h1 g0 f20 h2 g1 fn46 h3 g2 f22 h4 g3 fn31) := hD
                refine lv_iload_n hx hb dX12_move_128 rfl (lv_at hl 0 rfl) ?_
                subst hQ
                have hP9 := hP.sub (ws' := (wd_56d90344 h0 v0 r0 v1 v2 v3 v4 r1 r2 r3 r4 r5 r6 r7 v5 v6 r8 r9 r10 r11 v7 h1 r12 v8 v9 h2 h3 v10 v11 r13 v12 v13 h4 x30 w15 r14 v16 v17 r15 r16 r17 r18 r19 r20 v18 r21 r22 r23 v19 h1 g0 f20 h2 g1 fn46 h3 g2 f22 h4 g3 fn31)) [0, 1, 2, 3, 4] rfl
                have hD9 := hD.sub (ws' := (wd_56d90344 h0 v0 r0 v1 v2 v3 v4 r1 r2 r3 r4 r5 r6 r7 v5 v6 r8 r9 r10 r11 v7 h1 r12 v8 v9 h2 h3 v10 v11 r13 v12 v13 h4 x30 w15 r14 v16 v17 r15 r16 r17 r18 r19 r20 v18 r21 r22 r23 v19 h1 g0 f20 h2 g1 fn46 h3 g2 f22 h4 g3 fn31)) [0, 1, 2, 3, 4] (by decide) rfl
                have hK9 := hK.sub (tys' := []) [] rfl
                exact W.iret (v := ra32) hx hb hr (fun t ht hW => ⟨⟨ra32, ra32, rfl, rfl, ⟨x30, fn46, f22, fn31, by first | omega | decide, ob_x30, ia_fn46, ia_fn31, by rw [ht]; exact hP9, va_K.moved hW.alike hK9, hD9⟩⟩, hS.F ht⟩) hS.2.2 dX12_move_129
            · skip
              have fc27 : ra26.toInt = 0 := congrArg Int32.toInt c27
              refine lv_iconst (v := 3) hx hb dX12_move_76 (by decide) ?_
              refine lv_goto (tgt := 81) hx hb dX12_move_77 (by decide) ?_
              have hPc := hP.sub (ws' := (wd_5b5f7811 h0 v0 r0 v1 v2 v3 v4 r1 r2 r3 r4 r5 r6 r7 v5 v6 r8 r9 r10 r11 v7 h1 r12 v8 v9 h2 h3 v10 v11 r13 v12 v13 h4 v14 w15 r14 v16 v17 r15 r16 r17 r18 r19 r20 v18 r21 r22 r23 v19 h3 g2 f22)) [0, 3] rfl
              have hDc := hD.sub (ws' := (wd_5b5f7811 h0 v0 r0 v1 v2 v3 v4 r1 r2 r3 r4 r5 r6 r7 v5 v6 r8 r9 r10 r11 v7 h1 r12 v8 v9 h2 h3 v10 v11 r13 v12 v13 h4 v14 w15 r14 v16 v17 r15 r16 r17 r18 r19 r20 v18 r21 r22 r23 v19 h3 g2 f22)) [0, 3] (by decide) rfl
              have hKc := hK.sub (tys' := [(g2, .int)]) [2] rfl
              have hFc := va_free (wc := (wd_5b5f7811 h0 v0 r0 v1 v2 v3 v4 r1 r2 r3 r4 r5 r6 r7 v5 v6 r8 r9 r10 r11 v7 h1 r12 v8 v9 h2 h3 v10 v11 r13 v12 v13 h4 v14 w15 r14 v16 v17 r15 r16 r17 r18 r19 r20 v18 r21 r22 r23 v19 h3 g2 f22)) hD hS hA [0, 3] rfl
              refine va_calli (va_runV (As := [.int 3]) (rest := []) ⟨hx, hb, hml, hown, hts⟩ (k_X12_isRefused_2 l dC dI h0 h3 v0 r0 v1 v2 v3 v4 r1 r2 r3 r4 r5 r6 r7 v5 v6 r8 r9 r10 r11 v7 h1 r12 v8 v9 h2 v10 v11 r13 v12 v13 h4 v14 w15 r14 v16 v17 r15 r16 r17 r18 r19 r20 v18 r21 r22 r23 v19 g2 f22 ⟨i_v1a, i_v1b⟩ ⟨i_v5a, i_v5b⟩ ⟨i_v6a, i_v6b⟩ ⟨i_v7a, i_v7b⟩ ⟨i_v8a, i_v8b⟩ ⟨i_v9a, i_v9b⟩ ⟨i_v10a, i_v10b⟩ ⟨i_v14a, i_v14b⟩ ⟨i_v18a, i_v18b⟩ ⟨i_v19a, i_v19b⟩ H.size) (cwV 1 hts g_X12_move_7 rfl rfl rfl (by decide +kernel) ⟨Nat.le_of_ble_eq_true rfl, Nat.le_of_ble_eq_true rfl⟩) (pv_PV12 hPc hKc hDc (q0 := 0) rfl) rfl rfl hl.1 rfl (lv_room (Nat.le_of_ble_eq_true rfl)) dX12_move_81 ⟨Nat.le_of_ble_eq_true rfl, Nat.le_of_ble_eq_true rfl⟩) hS (fun q _ h => hFc q h) hFc (fun ra47 u t H1 locs ht hvm hwra47 hB hz1 hk1 hS => ?_)
              try rw [hwra47] at hB
              obtain ⟨fn48, pt0_ra47, pt1_ra47, hP1, hK1, hD1⟩ := hB
              rw [ht] at hP1
              obtain ⟨hP2, hD2⟩ := va_join (wr := (wd_4b0b152d h1 g0 f20 h2 g1 f21 h4 g3 f23)) (w1 := (wd_5b5f7811 h0 v0 r0 v1 v2 v3 v4 r1 r2 r3 r4 r5 r6 r7 v5 v6 r8 r9 r10 r11 v7 h1 r12 v8 v9 h2 h3 v10 v11 r13 v12 v13 h4 v14 w15 r14 v16 v17 r15 r16 r17 r18 r19 r20 v18 r21 r22 r23 v19 h3 g2 fn48)) hP hD [0, 3] [1, 2, 4] rfl rfl (by decide) (by decide) hk1 hFc hP1 hD1
              clear hP hD hPc hDc hKc hFc hP1 hK1 hD1 hk1 hz1
              generalize H1 = H at hP2 hS ⊢
              have hP := hP2.sub (ws' := (wd_56d90344 h0 v0 r0 v1 v2 v3 v4 r1 r2 r3 r4 r5 r6 r7 v5 v6 r8 r9 r10 r11 v7 h1 r12 v8 v9 h2 h3 v10 v11 r13 v12 v13 h4 v14 w15 r14 v16 v17 r15 r16 r17 r18 r19 r20 v18 r21 r22 r23 v19 h1 g0 f20 h2 g1 f21 h3 g2 fn48 h4 g3 f23)) [3, 0, 1, 4, 2] rfl
              have hD := hD2.sub (ws' := (wd_56d90344 h0 v0 r0 v1 v2 v3 v4 r1 r2 r3 r4 r5 r6 r7 v5 v6 r8 r9 r10 r11 v7 h1 r12 v8 v9 h2 h3 v10 v11 r13 v12 v13 h4 v14 w15 r14 v16 v17 r15 r16 r17 r18 r19 r20 v18 r21 r22 r23 v19 h1 g0 f20 h2 g1 f21 h3 g2 fn48 h4 g3 f23)) [3, 0, 1, 4, 2] (by decide) rfl
              clear hP2 hD2
              obtain rfl : ra47 = (1 : Int32) := pv_cs (by decide) pt0_ra47 pt1_ra47
              refine lv_if_eq (tgt := 89) hx hb dX12_move_84 (by decide) (fun c => absurd c (by decide)) (fun _ => ?_)
              refine lv_iconst (v := (-1)) hx hb dX12_move_87 (by decide) ?_
              subst hQ
              have hP9 := hP.sub (ws' := (wd_56d90344 h0 v0 r0 v1 v2 v3 v4 r1 r2 r3 r4 r5 r6 r7 v5 v6 r8 r9 r10 r11 v7 h1 r12 v8 v9 h2 h3 v10 v11 r13 v12 v13 h4 v14 w15 r14 v16 v17 r15 r16 r17 r18 r19 r20 v18 r21 r22 r23 v19 h1 g0 f20 h2 g1 f21 h3 g2 fn48 h4 g3 f23)) [0, 1, 2, 3, 4] rfl
              have hD9 := hD.sub (ws' := (wd_56d90344 h0 v0 r0 v1 v2 v3 v4 r1 r2 r3 r4 r5 r6 r7 v5 v6 r8 r9 r10 r11 v7 h1 r12 v8 v9 h2 h3 v10 v11 r13 v12 v13 h4 v14 w15 r14 v16 v17 r15 r16 r17 r18 r19 r20 v18 r21 r22 r23 v19 h1 g0 f20 h2 g1 f21 h3 g2 fn48 h4 g3 f23)) [0, 1, 2, 3, 4] (by decide) rfl
              have hK9 := hK.sub (tys' := []) [] rfl
              exact W.iret (v := (-1)) hx hb hr (fun t ht hW => ⟨⟨(-1), (-1), rfl, rfl, ⟨v14, f21, fn48, f23, i_v14a, i_v14b, ia_f21, ia_f23, by rw [ht]; exact hP9, va_K.moved hW.alike hK9, hD9⟩⟩, hS.F ht⟩) hS.2.2 dX12_move_88
      · skip
        have fc6 : ra5.toInt = v25.toInt := congrArg Int32.toInt c6
        have r1c6 := Int32.toInt_lt ra5
        have r2c6 := Int32.toInt_lt v25
        have r3c6 := Int32.le_toInt ra5
        have r4c6 := Int32.le_toInt v25
        refine lv_iconst (v := 2) hx hb dX12_move_41 (by decide) ?_
        refine lv_goto (tgt := 81) hx hb dX12_move_42 (by decide) ?_
        have hPc := hP.sub (ws' := (wd_5b5f7811 h0 v0 r0 v1 v2 v3 v4 r1 r2 r3 r4 r5 r6 r7 v5 v6 r8 r9 r10 r11 v7 h1 r12 v8 v9 h2 h3 v10 v11 r13 v12 v13 h4 v14 w15 r14 v16 v17 r15 r16 r17 r18 r19 r20 v18 r21 r22 r23 v19 h3 g2 f22)) [0, 3] rfl
        have hDc := hD.sub (ws' := (wd_5b5f7811 h0 v0 r0 v1 v2 v3 v4 r1 r2 r3 r4 r5 r6 r7 v5 v6 r8 r9 r10 r11 v7 h1 r12 v8 v9 h2 h3 v10 v11 r13 v12 v13 h4 v14 w15 r14 v16 v17 r15 r16 r17 r18 r19 r20 v18 r21 r22 r23 v19 h3 g2 f22)) [0, 3] (by decide) rfl
        have hKc := hK.sub (tys' := [(g2, .int)]) [2] rfl
        have hFc := va_free (wc := (wd_5b5f7811 h0 v0 r0 v1 v2 v3 v4 r1 r2 r3 r4 r5 r6 r7 v5 v6 r8 r9 r10 r11 v7 h1 r12 v8 v9 h2 h3 v10 v11 r13 v12 v13 h4 v14 w15 r14 v16 v17 r15 r16 r17 r18 r19 r20 v18 r21 r22 r23 v19 h3 g2 f22)) hD hS hA [0, 3] rfl
        refine va_calli (va_runV (As := [.int 2]) (rest := []) ⟨hx, hb, hml, hown, hts⟩ (k_X12_isRefused_3 l dC dI h0 h3 v0 r0 v1 v2 v3 v4 r1 r2 r3 r4 r5 r6 r7 v5 v6 r8 r9 r10 r11 v7 h1 r12 v8 v9 h2 v10 v11 r13 v12 v13 h4 v14 w15 r14 v16 v17 r15 r16 r17 r18 r19 r20 v18 r21 r22 r23 v19 g2 f22 ⟨i_v1a, i_v1b⟩ ⟨i_v5a, i_v5b⟩ ⟨i_v6a, i_v6b⟩ ⟨i_v7a, i_v7b⟩ ⟨i_v8a, i_v8b⟩ ⟨i_v9a, i_v9b⟩ ⟨i_v10a, i_v10b⟩ ⟨i_v14a, i_v14b⟩ ⟨i_v18a, i_v18b⟩ ⟨i_v19a, i_v19b⟩ H.size) (cwV 1 hts g_X12_move_16 rfl rfl rfl (by decide +kernel) ⟨Nat.le_of_ble_eq_true rfl, Nat.le_of_ble_eq_true rfl⟩) (pv_PV12 hPc hKc hDc (q0 := 0) rfl) rfl rfl hl.1 rfl (lv_room (Nat.le_of_ble_eq_true rfl)) dX12_move_81 ⟨Nat.le_of_ble_eq_true rfl, Nat.le_of_ble_eq_true rfl⟩) hS (fun q _ h => hFc q h) hFc (fun ra49 u t H1 locs ht hvm hwra49 hB hz1 hk1 hS => ?_)
        try rw [hwra49] at hB
        obtain ⟨fn50, pt0_ra49, pt1_ra49, hP1, hK1, hD1⟩ := hB
        rw [ht] at hP1
        obtain ⟨hP2, hD2⟩ := va_join (wr := (wd_4b0b152d h1 g0 f20 h2 g1 f21 h4 g3 f23)) (w1 := (wd_5b5f7811 h0 v0 r0 v1 v2 v3 v4 r1 r2 r3 r4 r5 r6 r7 v5 v6 r8 r9 r10 r11 v7 h1 r12 v8 v9 h2 h3 v10 v11 r13 v12 v13 h4 v14 w15 r14 v16 v17 r15 r16 r17 r18 r19 r20 v18 r21 r22 r23 v19 h3 g2 fn50)) hP hD [0, 3] [1, 2, 4] rfl rfl (by decide) (by decide) hk1 hFc hP1 hD1
        clear hP hD hPc hDc hKc hFc hP1 hK1 hD1 hk1 hz1
        generalize H1 = H at hP2 hS ⊢
        have hP := hP2.sub (ws' := (wd_56d90344 h0 v0 r0 v1 v2 v3 v4 r1 r2 r3 r4 r5 r6 r7 v5 v6 r8 r9 r10 r11 v7 h1 r12 v8 v9 h2 h3 v10 v11 r13 v12 v13 h4 v14 w15 r14 v16 v17 r15 r16 r17 r18 r19 r20 v18 r21 r22 r23 v19 h1 g0 f20 h2 g1 f21 h3 g2 fn50 h4 g3 f23)) [3, 0, 1, 4, 2] rfl
        have hD := hD2.sub (ws' := (wd_56d90344 h0 v0 r0 v1 v2 v3 v4 r1 r2 r3 r4 r5 r6 r7 v5 v6 r8 r9 r10 r11 v7 h1 r12 v8 v9 h2 h3 v10 v11 r13 v12 v13 h4 v14 w15 r14 v16 v17 r15 r16 r17 r18 r19 r20 v18 r21 r22 r23 v19 h1 g0 f20 h2 g1 f21 h3 g2 fn50 h4 g3 f23)) [3, 0, 1, 4, 2] (by decide) rfl
        clear hP2 hD2
        obtain rfl : ra49 = (1 : Int32) := pv_cs (by decide) pt0_ra49 pt1_ra49
        refine lv_if_eq (tgt := 89) hx hb dX12_move_84 (by decide) (fun c => absurd c (by decide)) (fun _ => ?_)
        refine lv_iconst (v := (-1)) hx hb dX12_move_87 (by decide) ?_
        subst hQ
        have hP9 := hP.sub (ws' := (wd_56d90344 h0 v0 r0 v1 v2 v3 v4 r1 r2 r3 r4 r5 r6 r7 v5 v6 r8 r9 r10 r11 v7 h1 r12 v8 v9 h2 h3 v10 v11 r13 v12 v13 h4 v14 w15 r14 v16 v17 r15 r16 r17 r18 r19 r20 v18 r21 r22 r23 v19 h1 g0 f20 h2 g1 f21 h3 g2 fn50 h4 g3 f23)) [0, 1, 2, 3, 4] rfl
        have hD9 := hD.sub (ws' := (wd_56d90344 h0 v0 r0 v1 v2 v3 v4 r1 r2 r3 r4 r5 r6 r7 v5 v6 r8 r9 r10 r11 v7 h1 r12 v8 v9 h2 h3 v10 v11 r13 v12 v13 h4 v14 w15 r14 v16 v17 r15 r16 r17 r18 r19 r20 v18 r21 r22 r23 v19 h1 g0 f20 h2 g1 f21 h3 g2 fn50 h4 g3 f23)) [0, 1, 2, 3, 4] (by decide) rfl
        have hK9 := hK.sub (tys' := []) [] rfl
        exact W.iret (v := (-1)) hx hb hr (fun t ht hW => ⟨⟨(-1), (-1), rfl, rfl, ⟨v14, f21, fn50, f23, i_v14a, i_v14b, ia_f21, ia_f23, by rw [ht]; exact hP9, va_K.moved hW.alike hK9, hD9⟩⟩, hS.F ht⟩) hS.2.2 dX12_move_88
    · skip
      have fc4 : ra3.toInt = 0 := congrArg Int32.toInt c4
      refine lv_iload_n hx hb dX12_move_21 rfl (lv_at hl 2 rfl) ?_
      refine lv_bipush (v := 9) hx hb dX12_move_22 (by decide) ?_
      refine lv_icmp_eq (tgt := 31) hx hb dX12_move_24 (by decide) (fun c51 => ?_) (fun c51 => ?_)
      · skip
        have fc51 : v25.toInt = 9 := congrArg Int32.toInt c51
        refine lv_aload_n hx hb dX12_move_31 rfl (lv_at hl 0 rfl) ?_
        refine lv_iload_n hx hb dX12_move_32 rfl (lv_at hl 1 rfl) ?_
        refine lv_iconst (v := 3) hx hb dX12_move_33 (by decide) ?_
        have hPc := hP.sub (ws' := (wd_5013416a h0 v0 r0 v1 v2 v3 v4 r1 r2 r3 r4 r5 r6 r7 v5 v6 r8 r9 r10 r11 v7 h1 r12 v8 v9 h2 h3 v10 v11 r13 v12 v13 h4 v14 w15 r14 v16 v17 r15 r16 r17 r18 r19 r20 v18 r21 r22 r23 v19 h2 g1 f21)) [0, 2] rfl
        have hDc := hD.sub (ws' := (wd_5013416a h0 v0 r0 v1 v2 v3 v4 r1 r2 r3 r4 r5 r6 r7 v5 v6 r8 r9 r10 r11 v7 h1 r12 v8 v9 h2 h3 v10 v11 r13 v12 v13 h4 v14 w15 r14 v16 v17 r15 r16 r17 r18 r19 r20 v18 r21 r22 r23 v19 h2 g1 f21)) [0, 2] (by decide) rfl
        have hKc := hK.sub (tys' := [(g1, .int)]) [1] rfl
        have hFc := va_free (wc := (wd_5013416a h0 v0 r0 v1 v2 v3 v4 r1 r2 r3 r4 r5 r6 r7 v5 v6 r8 r9 r10 r11 v7 h1 r12 v8 v9 h2 h3 v10 v11 r13 v12 v13 h4 v14 w15 r14 v16 v17 r15 r16 r17 r18 r19 r20 v18 r21 r22 r23 v19 h2 g1 f21)) hD hS hA [0, 2] rfl
        refine va_calli (va_runV (As := [.int v24, .int 3]) (rest := [.ref h0]) ⟨hx, hb, hml, hown, hts⟩ (k_X12_of_4 l dC dI h0 h2 v0 r0 v1 v2 v3 v4 r1 r2 r3 r4 r5 r6 r7 v5 v6 r8 r9 r10 r11 v7 h1 r12 v8 v9 h3 v10 v11 r13 v12 v13 h4 v14 w15 r14 v16 v17 r15 r16 r17 r18 r19 r20 v18 r21 r22 r23 v19 g1 f21 v24 ⟨i_v1a, i_v1b⟩ ⟨i_v5a, i_v5b⟩ ⟨i_v6a, i_v6b⟩ ⟨i_v7a, i_v7b⟩ ⟨i_v8a, i_v8b⟩ ⟨i_v9a, i_v9b⟩ ⟨i_v10a, i_v10b⟩ ⟨i_v14a, i_v14b⟩ ⟨i_v18a, i_v18b⟩ ⟨i_v19a, i_v19b⟩ ⟨by first | omega | decide, by first | omega | decide⟩ ia_f21.1 H.size) (cwV 2 hts g_X12_move_2 rfl rfl rfl (by decide +kernel) ⟨Nat.le_of_ble_eq_true rfl, Nat.le_of_ble_eq_true rfl⟩) (pv_PV12 hPc hKc hDc (q0 := 0) rfl) rfl rfl hl.1 rfl (lv_room (Nat.le_of_ble_eq_true rfl)) dX12_move_34 ⟨Nat.le_of_ble_eq_true rfl, Nat.le_of_ble_eq_true rfl⟩) hS (fun q _ h => hFc q h) hFc (fun ra52 u t H1 locs ht hvm hwra52 hB hz1 hk1 hS => ?_)
        try rw [hwra52] at hB
        obtain ⟨pt0_ra52, hP1, hK1, hD1⟩ := hB
        rw [ht] at hP1
        obtain ⟨hP2, hD2⟩ := va_join (wr := (wd_5cc14b98 h1 g0 f20 h3 g2 f22 h4 g3 f23)) (w1 := (wd_5013416a h0 v0 r0 v1 v2 v3 v4 r1 r2 r3 r4 r5 r6 r7 v5 v6 r8 r9 r10 r11 v7 h1 r12 v8 v9 h2 h3 v10 v11 r13 v12 v13 h4 v14 w15 r14 v16 v17 r15 r16 r17 r18 r19 r20 v18 r21 r22 r23 v19 h2 g1 f21)) hP hD [0, 2] [1, 3, 4] rfl rfl (by decide) (by decide) hk1 hFc hP1 hD1
        clear hP hD hPc hDc hKc hFc hP1 hK1 hD1 hk1 hz1
        generalize H1 = H at hP2 hS ⊢
        have hP := hP2.sub (ws' := (wd_56d90344 h0 v0 r0 v1 v2 v3 v4 r1 r2 r3 r4 r5 r6 r7 v5 v6 r8 r9 r10 r11 v7 h1 r12 v8 v9 h2 h3 v10 v11 r13 v12 v13 h4 v14 w15 r14 v16 v17 r15 r16 r17 r18 r19 r20 v18 r21 r22 r23 v19 h1 g0 f20 h2 g1 f21 h3 g2 f22 h4 g3 f23)) [3, 0, 4, 1, 2] rfl
        have hD := hD2.sub (ws' := (wd_56d90344 h0 v0 r0 v1 v2 v3 v4 r1 r2 r3 r4 r5 r6 r7 v5 v6 r8 r9 r10 r11 v7 h1 r12 v8 v9 h2 h3 v10 v11 r13 v12 v13 h4 v14 w15 r14 v16 v17 r15 r16 r17 r18 r19 r20 v18 r21 r22 r23 v19 h1 g0 f20 h2 g1 f21 h3 g2 f22 h4 g3 f23)) [3, 0, 4, 1, 2] (by decide) rfl
        clear hP2 hD2
        refine lv_iload_n hx hb dX12_move_37 rfl (lv_at hl 2 rfl) ?_
        refine lv_icmp_ne (tgt := 45) hx hb dX12_move_38 (by decide) (fun c53 => ?_) (fun c53 => ?_)
        · skip
          have fc53 : ¬ (ra52.toInt = v25.toInt) := fun h9 => c53 (Int32.toInt_inj.mp h9)
          have r1c53 := Int32.toInt_lt ra52
          have r2c53 := Int32.toInt_lt v25
          have r3c53 := Int32.le_toInt ra52
          have r4c53 := Int32.le_toInt v25
          refine lv_iload_n hx hb dX12_move_45 rfl (lv_at hl 2 rfl) ?_
          refine lv_bipush (v := 9) hx hb dX12_move_46 (by decide) ?_
          refine lv_icmp_eq (tgt := 80) hx hb dX12_move_48 (by decide) (fun _ => ?_) (fun c54 => by exfalso; have fc54 : ¬ (v25.toInt = 9) := fun h9 => c54 (Int32.toInt_inj.mp h9); omega)
          refine lv_iconst (v := (-1)) hx hb dX12_move_80 (by decide) ?_
          have hPc := hP.sub (ws' := (wd_171f232f h0 v0 r0 v1 v2 v3 v4 r1 r2 r3 r4 r5 r6 r7 v5 v6 r8 r9 r10 r11 v7 h1 r12 v8 v9 h2 h3 v10 v11 r13 v12 v13 h4 v14 w15 r14 v16 v17 r15 r16 r17 r18 r19 r20 v18 r21 r22 r23 v19)) [0] rfl
          have hDc := hD.sub (ws' := (wd_171f232f h0 v0 r0 v1 v2 v3 v4 r1 r2 r3 r4 r5 r6 r7 v5 v6 r8 r9 r10 r11 v7 h1 r12 v8 v9 h2 h3 v10 v11 r13 v12 v13 h4 v14 w15 r14 v16 v17 r15 r16 r17 r18 r19 r20 v18 r21 r22 r23 v19)) [0] (by decide) rfl
          have hKc := hK.sub (tys' := []) [] rfl
          have hFc := va_free (wc := (wd_171f232f h0 v0 r0 v1 v2 v3 v4 r1 r2 r3 r4 r5 r6 r7 v5 v6 r8 r9 r10 r11 v7 h1 r12 v8 v9 h2 h3 v10 v11 r13 v12 v13 h4 v14 w15 r14 v16 v17 r15 r16 r17 r18 r19 r20 v18 r21 r22 r23 v19)) hD hS hA [0] rfl
          refine va_calli (va_runV (As := [.int (-1)]) (rest := []) ⟨hx, hb, hml, hown, hts⟩ (k_X12_isRefused l dC dI h0 v0 r0 v1 v2 v3 v4 r1 r2 r3 r4 r5 r6 r7 v5 v6 r8 r9 r10 r11 v7 h1 r12 v8 v9 h2 h3 v10 v11 r13 v12 v13 h4 v14 w15 r14 v16 v17 r15 r16 r17 r18 r19 r20 v18 r21 r22 r23 v19 ⟨i_v1a, i_v1b⟩ ⟨i_v5a, i_v5b⟩ ⟨i_v6a, i_v6b⟩ ⟨i_v7a, i_v7b⟩ ⟨i_v8a, i_v8b⟩ ⟨i_v9a, i_v9b⟩ ⟨i_v10a, i_v10b⟩ ⟨i_v14a, i_v14b⟩ ⟨i_v18a, i_v18b⟩ ⟨i_v19a, i_v19b⟩ H.size) (cwV 1 hts g_X12_move_3 rfl rfl rfl (by decide +kernel) ⟨Nat.le_of_ble_eq_true rfl, Nat.le_of_ble_eq_true rfl⟩) (pv_PV12 hPc hKc hDc (q0 := 0) rfl) rfl rfl hl.1 rfl (lv_room (Nat.le_of_ble_eq_true rfl)) dX12_move_81 ⟨Nat.le_of_ble_eq_true rfl, Nat.le_of_ble_eq_true rfl⟩) hS (fun q _ h => hFc q h) hFc (fun ra55 u t H1 locs ht hvm hwra55 hB hz1 hk1 hS => ?_)
          try rw [hwra55] at hB
          obtain ⟨pt0_ra55, pt1_ra55, hP1, hK1, hD1⟩ := hB
          rw [ht] at hP1
          obtain ⟨hP2, hD2⟩ := va_join (wr := (wd_3ac54ae4 h1 g0 f20 h2 g1 f21 h3 g2 f22 h4 g3 f23)) (w1 := (wd_171f232f h0 v0 r0 v1 v2 v3 v4 r1 r2 r3 r4 r5 r6 r7 v5 v6 r8 r9 r10 r11 v7 h1 r12 v8 v9 h2 h3 v10 v11 r13 v12 v13 h4 v14 w15 r14 v16 v17 r15 r16 r17 r18 r19 r20 v18 r21 r22 r23 v19)) hP hD [0] [1, 2, 3, 4] rfl rfl (by decide) (by decide) hk1 hFc hP1 hD1
          clear hP hD hPc hDc hKc hFc hP1 hK1 hD1 hk1 hz1
          generalize H1 = H at hP2 hS ⊢
          have hP := hP2.sub (ws' := (wd_56d90344 h0 v0 r0 v1 v2 v3 v4 r1 r2 r3 r4 r5 r6 r7 v5 v6 r8 r9 r10 r11 v7 h1 r12 v8 v9 h2 h3 v10 v11 r13 v12 v13 h4 v14 w15 r14 v16 v17 r15 r16 r17 r18 r19 r20 v18 r21 r22 r23 v19 h1 g0 f20 h2 g1 f21 h3 g2 f22 h4 g3 f23)) [4, 0, 1, 2, 3] rfl
          have hD := hD2.sub (ws' := (wd_56d90344 h0 v0 r0 v1 v2 v3 v4 r1 r2 r3 r4 r5 r6 r7 v5 v6 r8 r9 r10 r11 v7 h1 r12 v8 v9 h2 h3 v10 v11 r13 v12 v13 h4 v14 w15 r14 v16 v17 r15 r16 r17 r18 r19 r20 v18 r21 r22 r23 v19 h1 g0 f20 h2 g1 f21 h3 g2 f22 h4 g3 f23)) [4, 0, 1, 2, 3] (by decide) rfl
          clear hP2 hD2
          obtain rfl : ra55 = (0 : Int32) := pv_cs (by decide) pt0_ra55 pt1_ra55
          refine lv_if_eq (tgt := 89) hx hb dX12_move_84 (by decide) (fun _ => ?_) (fun c => absurd (by decide) c)
          refine lv_aload_n hx hb dX12_move_89 rfl (lv_at hl 0 rfl) ?_
          have hPc := hP.sub (ws' := (wd_baa7feb8 h0 v0 r0 v1 v2 v3 v4 r1 r2 r3 r4 r5 r6 r7 v5 v6 r8 r9 r10 r11 v7 h1 r12 v8 v9 h2 h3 v10 v11 r13 v12 v13 h4 v14 w15 r14 v16 v17 r15 r16 r17 r18 r19 r20 v18 r21 r22 r23 v19 h2 g1 f21 h4 g3 f23)) [0, 2, 4] rfl
          have hDc := hD.sub (ws' := (wd_baa7feb8 h0 v0 r0 v1 v2 v3 v4 r1 r2 r3 r4 r5 r6 r7 v5 v6 r8 r9 r10 r11 v7 h1 r12 v8 v9 h2 h3 v10 v11 r13 v12 v13 h4 v14 w15 r14 v16 v17 r15 r16 r17 r18 r19 r20 v18 r21 r22 r23 v19 h2 g1 f21 h4 g3 f23)) [0, 2, 4] (by decide) rfl
          have hKc := hK.sub (tys' := [(g1, .int), (g3, .int)]) [1, 3] rfl
          have hFc := va_free (wc := (wd_baa7feb8 h0 v0 r0 v1 v2 v3 v4 r1 r2 r3 r4 r5 r6 r7 v5 v6 r8 r9 r10 r11 v7 h1 r12 v8 v9 h2 h3 v10 v11 r13 v12 v13 h4 v14 w15 r14 v16 v17 r15 r16 r17 r18 r19 r20 v18 r21 r22 r23 v19 h2 g1 f21 h4 g3 f23)) hD hS hA [0, 2, 4] rfl
          refine va_callv (va_runV (As := []) (rest := []) ⟨hx, hb, hml, hown, hts⟩ (k_X12_keep l dC dI h0 h2 h4 v0 r0 v1 v2 v3 v4 r1 r2 r3 r4 r5 r6 r7 v5 v6 r8 r9 r10 r11 v7 h1 r12 v8 v9 h3 v10 v11 r13 v12 v13 v14 w15 r14 v16 v17 r15 r16 r17 r18 r19 r20 v18 r21 r22 r23 v19 g1 f21 g3 f23 ⟨i_v1a, i_v1b⟩ ⟨i_v5a, i_v5b⟩ ⟨i_v6a, i_v6b⟩ ⟨i_v7a, i_v7b⟩ ⟨i_v8a, i_v8b⟩ ⟨i_v9a, i_v9b⟩ ⟨i_v10a, i_v10b⟩ ⟨i_v14a, i_v14b⟩ ⟨i_v18a, i_v18b⟩ ⟨i_v19a, i_v19b⟩ ia_f21 ia_f23 H.size) (cwV 0 hts g_X12_move_4 rfl rfl rfl (by decide +kernel) ⟨Nat.le_of_ble_eq_true rfl, Nat.le_of_ble_eq_true rfl⟩) (pv_PV12 hPc hKc hDc (q0 := 0) rfl) rfl rfl hl.1 rfl (lv_room (Nat.le_of_ble_eq_true rfl)) dX12_move_90 ⟨Nat.le_of_ble_eq_true rfl, Nat.le_of_ble_eq_true rfl⟩) hS (fun q _ h => hFc q h) hFc (fun u t H1 locs ht hvm hwra56 hB hz1 hk1 hS => ?_)
          obtain ⟨x57, fn58, oa_x57, ob_x57, ia_fn58, hP1, hK1, hD1⟩ := hB
          rw [ht] at hP1
          obtain ⟨hP2, hD2⟩ := va_join (wr := (wd_2e233976 h1 g0 f20 h3 g2 f22)) (w1 := (wd_baa7feb8 h0 v0 r0 v1 v2 v3 v4 r1 r2 r3 r4 r5 r6 r7 v5 v6 r8 r9 r10 r11 v7 h1 r12 v8 v9 h2 h3 v10 v11 r13 v12 v13 h4 x57 w15 r14 v16 v17 r15 r16 r17 r18 r19 r20 v18 r21 r22 r23 v19 h2 g1 f21 h4 g3 fn58)) hP hD [0, 2, 4] [1, 3] rfl rfl (by decide) (by decide) hk1 hFc hP1 hD1
          clear hP hD hPc hDc hKc hFc hP1 hK1 hD1 hk1 hz1
          generalize H1 = H at hP2 hS ⊢
          have hP := hP2.sub (ws' := (wd_56d90344 h0 v0 r0 v1 v2 v3 v4 r1 r2 r3 r4 r5 r6 r7 v5 v6 r8 r9 r10 r11 v7 h1 r12 v8 v9 h2 h3 v10 v11 r13 v12 v13 h4 x57 w15 r14 v16 v17 r15 r16 r17 r18 r19 r20 v18 r21 r22 r23 v19 h1 g0 f20 h2 g1 f21 h3 g2 f22 h4 g3 fn58)) [2, 0, 3, 1, 4] rfl
          have hD := hD2.sub (ws' := (wd_56d90344 h0 v0 r0 v1 v2 v3 v4 r1 r2 r3 r4 r5 r6 r7 v5 v6 r8 r9 r10 r11 v7 h1 r12 v8 v9 h2 h3 v10 v11 r13 v12 v13 h4 x57 w15 r14 v16 v17 r15 r16 r17 r18 r19 r20 v18 r21 r22 r23 v19 h1 g0 f20 h2 g1 f21 h3 g2 f22 h4 g3 fn58)) [2, 0, 3, 1, 4] (by decide) rfl
          clear hP2 hD2
          refine lv_aload_n hx hb dX12_move_93 rfl (lv_at hl 0 rfl) ?_
          refine lv_iload_n hx hb dX12_move_94 rfl (lv_at hl 1 rfl) ?_
          refine lv_iconst (v := 3) hx hb dX12_move_95 (by decide) ?_
          have hPc := hP.sub (ws' := (wd_5013416a h0 v0 r0 v1 v2 v3 v4 r1 r2 r3 r4 r5 r6 r7 v5 v6 r8 r9 r10 r11 v7 h1 r12 v8 v9 h2 h3 v10 v11 r13 v12 v13 h4 x57 w15 r14 v16 v17 r15 r16 r17 r18 r19 r20 v18 r21 r22 r23 v19 h2 g1 f21)) [0, 2] rfl
          have hDc := hD.sub (ws' := (wd_5013416a h0 v0 r0 v1 v2 v3 v4 r1 r2 r3 r4 r5 r6 r7 v5 v6 r8 r9 r10 r11 v7 h1 r12 v8 v9 h2 h3 v10 v11 r13 v12 v13 h4 x57 w15 r14 v16 v17 r15 r16 r17 r18 r19 r20 v18 r21 r22 r23 v19 h2 g1 f21)) [0, 2] (by decide) rfl
          have hKc := hK.sub (tys' := [(g1, .int)]) [1] rfl
          have hFc := va_free (wc := (wd_5013416a h0 v0 r0 v1 v2 v3 v4 r1 r2 r3 r4 r5 r6 r7 v5 v6 r8 r9 r10 r11 v7 h1 r12 v8 v9 h2 h3 v10 v11 r13 v12 v13 h4 x57 w15 r14 v16 v17 r15 r16 r17 r18 r19 r20 v18 r21 r22 r23 v19 h2 g1 f21)) hD hS hA [0, 2] rfl
          refine va_calli (va_runV (As := [.int v24, .int 3]) (rest := []) ⟨hx, hb, hml, hown, hts⟩ (k_X12_of_4 l dC dI h0 h2 v0 r0 v1 v2 v3 v4 r1 r2 r3 r4 r5 r6 r7 v5 v6 r8 r9 r10 r11 v7 h1 r12 v8 v9 h3 v10 v11 r13 v12 v13 h4 x57 w15 r14 v16 v17 r15 r16 r17 r18 r19 r20 v18 r21 r22 r23 v19 g1 f21 v24 ⟨i_v1a, i_v1b⟩ ⟨i_v5a, i_v5b⟩ ⟨i_v6a, i_v6b⟩ ⟨i_v7a, i_v7b⟩ ⟨i_v8a, i_v8b⟩ ⟨i_v9a, i_v9b⟩ ⟨i_v10a, i_v10b⟩ ⟨by first | omega | decide, ob_x57⟩ ⟨i_v18a, i_v18b⟩ ⟨i_v19a, i_v19b⟩ ⟨by first | omega | decide, by first | omega | decide⟩ ia_f21.1 H.size) (cwV 2 hts g_X12_move_2 rfl rfl rfl (by decide +kernel) ⟨Nat.le_of_ble_eq_true rfl, Nat.le_of_ble_eq_true rfl⟩) (pv_PV12 hPc hKc hDc (q0 := 0) rfl) rfl rfl hl.1 rfl (lv_room (Nat.le_of_ble_eq_true rfl)) dX12_move_96 ⟨Nat.le_of_ble_eq_true rfl, Nat.le_of_ble_eq_true rfl⟩) hS (fun q _ h => hFc q h) hFc (fun ra59 u t H1 locs ht hvm hwra59 hB hz1 hk1 hS => ?_)
          try rw [hwra59] at hB
          obtain ⟨pt0_ra59, hP1, hK1, hD1⟩ := hB
          rw [ht] at hP1
          obtain ⟨hP2, hD2⟩ := va_join (wr := (wd_5cc14b98 h1 g0 f20 h3 g2 f22 h4 g3 fn58)) (w1 := (wd_5013416a h0 v0 r0 v1 v2 v3 v4 r1 r2 r3 r4 r5 r6 r7 v5 v6 r8 r9 r10 r11 v7 h1 r12 v8 v9 h2 h3 v10 v11 r13 v12 v13 h4 x57 w15 r14 v16 v17 r15 r16 r17 r18 r19 r20 v18 r21 r22 r23 v19 h2 g1 f21)) hP hD [0, 2] [1, 3, 4] rfl rfl (by decide) (by decide) hk1 hFc hP1 hD1
          clear hP hD hPc hDc hKc hFc hP1 hK1 hD1 hk1 hz1
          generalize H1 = H at hP2 hS ⊢
          have hP := hP2.sub (ws' := (wd_56d90344 h0 v0 r0 v1 v2 v3 v4 r1 r2 r3 r4 r5 r6 r7 v5 v6 r8 r9 r10 r11 v7 h1 r12 v8 v9 h2 h3 v10 v11 r13 v12 v13 h4 x57 w15 r14 v16 v17 r15 r16 r17 r18 r19 r20 v18 r21 r22 r23 v19 h1 g0 f20 h2 g1 f21 h3 g2 f22 h4 g3 fn58)) [3, 0, 4, 1, 2] rfl
          have hD := hD2.sub (ws' := (wd_56d90344 h0 v0 r0 v1 v2 v3 v4 r1 r2 r3 r4 r5 r6 r7 v5 v6 r8 r9 r10 r11 v7 h1 r12 v8 v9 h2 h3 v10 v11 r13 v12 v13 h4 x57 w15 r14 v16 v17 r15 r16 r17 r18 r19 r20 v18 r21 r22 r23 v19 h1 g0 f20 h2 g1 f21 h3 g2 f22 h4 g3 fn58)) [3, 0, 4, 1, 2] (by decide) rfl
          clear hP2 hD2
          refine lv_istore_n (lv' := [(3, .int ra59), (0, .ref h0), (1, .int v24), (2, .int v25)]) hx hb dX12_move_99 rfl hl (by decide) rfl (fun ls hl => ?_)
          refine lv_aload_n hx hb dX12_move_100 rfl (lv_at hl 1 rfl) ?_
          refine va_get (D := (dC, dI)) (ci := 12) (v := .ref h2) (C := RX12) (T := TX12) (N := 48) hx hb hts (fun _ h => List.mem_cons_of_mem _ (List.mem_append_right _ h)) hown hK hP 0 rfl rfl 24 (by decide) (hts (.fieldLink RX12 52 "LeftArgumentsModel" "now" "[I") (List.mem_cons_of_mem _ (List.mem_append_left _ (List.mem_of_getElem? (i := 6) rfl)))) (fun _ h9 => h9) rfl dX12_move_101 ?_
          refine lv_bipush (v := 64) hx hb dX12_move_104 (by decide) ?_
          refine lv_dup2_11 hx hb dX12_move_106 rfl rfl ?_
          refine va_iald hx hb hK hP 2 1 rfl rfl (pv_c (x := 64) (n := 247) (by decide)) dX12_move_107 ?_
          refine lv_topi (fun t60 et60 => ?_)
          have mmt60 : f21 (Int32.toNatClampNeg 64) = t60 := et60.symm
          refine lv_iload_n hx hb dX12_move_108 rfl (lv_at hl 3 rfl) ?_
          refine lv_bipush (v := 9) hx hb dX12_move_109 (by decide) ?_
          refine lv_icmp_ne (tgt := 118) hx hb dX12_move_111 (by decide) (fun c61 => by exfalso; have fc61 : ¬ (v25.toInt = 9) := fun h9 => c61 (Int32.toInt_inj.mp h9); omega) (fun _ => ?_)
          refine lv_iconst (v := 0) hx hb dX12_move_114 (by decide) ?_
          refine lv_goto (tgt := 119) hx hb dX12_move_115 (by decide) ?_
          refine lv_isub hx hb dX12_move_119 ?_
          refine lv_topi (fun t62 et62 => ?_)
          have r5t62t60 := Int32.le_toInt t60; have r6t62t60 := Int32.toInt_lt t60
          have gt62 : t62.toInt = t60.toInt - 0 := pv_sub (a := t60.toInt) (b := 0) et62 rfl (by decide) (by omega) (by omega)
          refine va_iast hx hb hK hP hD hS 2 1 rfl rfl (pv_c (x := 64) (n := 247) (by decide)) dX12_move_120 (fun H locs hP hD hS => ?_)
          obtain ⟨fn63, efn63⟩ : ∃ g : Nat → Int32, g = upd f21 (Int32.toNatClampNeg 64) t62 := ⟨_, rfl⟩
          rw [← efn63] at hP hD
          have ia_fn63 : pm_NW fn63 := by rw [efn63]; exact pm_NW.st ia_f21 (z := 64) (y := t62.toInt) (by decide) rfl (by omega) (fun b9 h8 h9 => ⟨fun _ => ⟨by omega, by omega⟩, fun _ => ⟨by omega, by omega⟩⟩) (fun _ => ⟨by omega, by omega⟩) (fun b9 h8 h9 => ⟨fun _ => by omega, fun _ => by omega⟩)
          have mmfn63_64 : fn63 (Int32.toNatClampNeg 64) = t62 := by rw [efn63]; exact pk_us
          have hP : va_P (dC, dI) vwCl (wd_56d90344 h0 v0 r0 v1 v2 v3 v4 r1 r2 r3 r4 r5 r6 r7 v5 v6 r8 r9 r10 r11 v7 h1 r12 v8 v9 h2 h3 v10 v11 r13 v12 v13 h4 x57 w15 r14 v16 v17 r15 r16 r17 r18 r19 r20 v18 r21 r22 r23 v19 h1 g0 f20 h2 g1 fn63 h3 g2 f22 h4 g3 fn58) H := hP
          have hD : va_D A (wd_56d90344 h0 v0 r0 v1 v2 v3 v4 r1 r2 r3 r4 r5 r6 r7 v5 v6 r8 r9 r10 r11 v7 h1 r12 v8 v9 h2 h3 v10 v11 r13 v12 v13 h4 x57 w15 r14 v16 v17 r15 r16 r17 r18 r19 r20 v18 r21 r22 r23 v19 h1 g0 f20 h2 g1 fn63 h3 g2 f22 h4 g3 fn58) := hD
          refine lv_aload_n hx hb dX12_move_121 rfl (lv_at hl 1 rfl) ?_
          refine lv_iload_n hx hb dX12_move_122 rfl (lv_at hl 2 rfl) ?_
          refine lv_iconst (v := 3) hx hb dX12_move_123 (by decide) ?_
          refine lv_iload_n hx hb dX12_move_124 rfl (lv_at hl 3 rfl) ?_
          have hPc := hP.sub (ws' := (wd_5013416a h0 v0 r0 v1 v2 v3 v4 r1 r2 r3 r4 r5 r6 r7 v5 v6 r8 r9 r10 r11 v7 h1 r12 v8 v9 h2 h3 v10 v11 r13 v12 v13 h4 x57 w15 r14 v16 v17 r15 r16 r17 r18 r19 r20 v18 r21 r22 r23 v19 h2 g1 fn63)) [0, 2] rfl
          have hDc := hD.sub (ws' := (wd_5013416a h0 v0 r0 v1 v2 v3 v4 r1 r2 r3 r4 r5 r6 r7 v5 v6 r8 r9 r10 r11 v7 h1 r12 v8 v9 h2 h3 v10 v11 r13 v12 v13 h4 x57 w15 r14 v16 v17 r15 r16 r17 r18 r19 r20 v18 r21 r22 r23 v19 h2 g1 fn63)) [0, 2] (by decide) rfl
          have hKc := hK.sub (tys' := [(g1, .int)]) [1] rfl
          have hFc := va_free (wc := (wd_5013416a h0 v0 r0 v1 v2 v3 v4 r1 r2 r3 r4 r5 r6 r7 v5 v6 r8 r9 r10 r11 v7 h1 r12 v8 v9 h2 h3 v10 v11 r13 v12 v13 h4 x57 w15 r14 v16 v17 r15 r16 r17 r18 r19 r20 v18 r21 r22 r23 v19 h2 g1 fn63)) hD hS hA [0, 2] rfl
          refine va_callv (va_runV (As := [.int v24, .int 3, .int v25]) (rest := []) ⟨hx, hb, hml, hown, hts⟩ (k_X12_set_1 l dC dI h0 h2 v0 r0 v1 v2 v3 v4 r1 r2 r3 r4 r5 r6 r7 v5 v6 r8 r9 r10 r11 v7 h1 r12 v8 v9 h3 v10 v11 r13 v12 v13 h4 x57 w15 r14 v16 v17 r15 r16 r17 r18 r19 r20 v18 r21 r22 r23 v19 g1 fn63 v24 v25 ⟨i_v1a, i_v1b⟩ ⟨i_v5a, i_v5b⟩ ⟨i_v6a, i_v6b⟩ ⟨i_v7a, i_v7b⟩ ⟨i_v8a, i_v8b⟩ ⟨i_v9a, i_v9b⟩ ⟨i_v10a, i_v10b⟩ ⟨by first | omega | decide, ob_x57⟩ ⟨i_v18a, i_v18b⟩ ⟨i_v19a, i_v19b⟩ ⟨by first | omega | decide, by first | omega | decide⟩ trivial H.size) (cwV 3 hts g_X12_move_6 rfl rfl rfl (by decide +kernel) ⟨Nat.le_of_ble_eq_true rfl, Nat.le_of_ble_eq_true rfl⟩) (pv_PV12 hPc hKc hDc (q0 := 0) rfl) rfl rfl hl.1 rfl (lv_room (Nat.le_of_ble_eq_true rfl)) dX12_move_125 ⟨Nat.le_of_ble_eq_true rfl, Nat.le_of_ble_eq_true rfl⟩) hS (fun q _ h => hFc q h) hFc (fun u t H1 locs ht hvm hwra64 hB hz1 hk1 hS => ?_)
          obtain ⟨hP1, hK1, hD1⟩ := hB
          rw [ht] at hP1
          obtain ⟨hP2, hD2⟩ := va_join (wr := (wd_5cc14b98 h1 g0 f20 h3 g2 f22 h4 g3 fn58)) (w1 := (wd_5013416a h0 v0 r0 v1 v2 v3 v4 r1 r2 r3 r4 r5 r6 r7 v5 v6 r8 r9 r10 r11 v7 h1 r12 v8 v9 h2 h3 v10 v11 r13 v12 v13 h4 x57 w15 r14 v16 v17 r15 r16 r17 r18 r19 r20 v18 r21 r22 r23 v19 h2 g1 (upd fn63 (pm_I v24 3) v25))) hP hD [0, 2] [1, 3, 4] rfl rfl (by decide) (by decide) hk1 hFc hP1 hD1
          clear hP hD hPc hDc hKc hFc hP1 hK1 hD1 hk1 hz1
          generalize H1 = H at hP2 hS ⊢
          have hP := hP2.sub (ws' := (wd_56d90344 h0 v0 r0 v1 v2 v3 v4 r1 r2 r3 r4 r5 r6 r7 v5 v6 r8 r9 r10 r11 v7 h1 r12 v8 v9 h2 h3 v10 v11 r13 v12 v13 h4 x57 w15 r14 v16 v17 r15 r16 r17 r18 r19 r20 v18 r21 r22 r23 v19 h1 g0 f20 h2 g1 (upd fn63 (pm_I v24 3) v25) h3 g2 f22 h4 g3 fn58)) [3, 0, 4, 1, 2] rfl
          have hD := hD2.sub (ws' := (wd_56d90344 h0 v0 r0 v1 v2 v3 v4 r1 r2 r3 r4 r5 r6 r7 v5 v6 r8 r9 r10 r11 v7 h1 r12 v8 v9 h2 h3 v10 v11 r13 v12 v13 h4 x57 w15 r14 v16 v17 r15 r16 r17 r18 r19 r20 v18 r21 r22 r23 v19 h1 g0 f20 h2 g1 (upd fn63 (pm_I v24 3) v25) h3 g2 f22 h4 g3 fn58)) [3, 0, 4, 1, 2] (by decide) rfl
          clear hP2 hD2
          obtain ⟨t65, et65⟩ : ∃ y : Int32, y = 8 * v24 + 3 := ⟨_, rfl⟩
          have gt65 : t65.toInt = 8 * v24.toInt + 3 := pm_i8 et65 rfl (by decide) (by omega) (by omega) (by omega) (by omega)
          obtain ⟨fn67, efn67⟩ : ∃ g : Nat → Int32, g = upd fn63 (Int32.toNatClampNeg t65) v25 := ⟨_, rfl⟩
          have e9 : (upd fn63 (pm_I v24 3) v25) = fn67 := by rw [efn67, et65]; rfl
          rw [e9] at hP hD
          have ia_fn67 : pm_NW fn67 := by rw [efn67]; exact pm_NW.st ia_fn63 (z := t65.toInt) (y := v25.toInt) rfl rfl (by omega) (fun b9 h8 h9 => ⟨fun _ => ⟨by omega, by omega⟩, fun _ => ⟨by omega, by omega⟩⟩) (fun _ => ⟨by omega, by omega⟩) (fun b9 h8 h9 => ⟨fun _ => by omega, fun _ => by omega⟩)
          have mmfn67_64 : fn67 (Int32.toNatClampNeg 64) = t62 := by rw [efn67]; exact (pk_un (pm_ne (z := t65.toInt) (c := 64) rfl (by decide) (by omega) (by omega))).trans mmfn63_64
          have hP : va_P (dC, dI) vwCl (wd_56d90344 h0 v0 r0 v1 v2 v3 v4 r1 r2 r3 r4 r5 r6 r7 v5 v6 r8 r9 r10 r11 v7 h1 r12 v8 v9 h2 h3 v10 v11 r13 v12 v13 h4 x57 w15 r14 v16 v17 r15 r16 r17 r18 r19 r20 v18 r21 r22 r23 v19 h1 g0 f20 h2 g1 fn67 h3 g2 f22 h4 g3 fn58) H := hP
          have hD : va_D A (wd_56d90344 h0 v0 r0 v1 v2 v3 v4 r1 r2 r3 r4 r5 r6 r7 v5 v6 r8 r9 r10 r11 v7 h1 r12 v8 v9 h2 h3 v10 v11 r13 v12 v13 h4 x57 w15 r14 v16 v17 r15 r16 r17 r18 r19 r20 v18 r21 r22 r23 v19 h1 g0 f20 h2 g1 fn67 h3 g2 f22 h4 g3 fn58) := hD
          refine lv_iload_n hx hb dX12_move_128 rfl (lv_at hl 0 rfl) ?_
          subst hQ
          have hP9 := hP.sub (ws' := (wd_56d90344 h0 v0 r0 v1 v2 v3 v4 r1 r2 r3 r4 r5 r6 r7 v5 v6 r8 r9 r10 r11 v7 h1 r12 v8 v9 h2 h3 v10 v11 r13 v12 v13 h4 x57 w15 r14 v16 v17 r15 r16 r17 r18 r19 r20 v18 r21 r22 r23 v19 h1 g0 f20 h2 g1 fn67 h3 g2 f22 h4 g3 fn58)) [0, 1, 2, 3, 4] rfl
          have hD9 := hD.sub (ws' := (wd_56d90344 h0 v0 r0 v1 v2 v3 v4 r1 r2 r3 r4 r5 r6 r7 v5 v6 r8 r9 r10 r11 v7 h1 r12 v8 v9 h2 h3 v10 v11 r13 v12 v13 h4 x57 w15 r14 v16 v17 r15 r16 r17 r18 r19 r20 v18 r21 r22 r23 v19 h1 g0 f20 h2 g1 fn67 h3 g2 f22 h4 g3 fn58)) [0, 1, 2, 3, 4] (by decide) rfl
          have hK9 := hK.sub (tys' := []) [] rfl
          exact W.iret (v := ra59) hx hb hr (fun t ht hW => ⟨⟨ra59, ra59, rfl, rfl, ⟨x57, fn67, f22, fn58, by first | omega | decide, ob_x57, ia_fn67, ia_fn58, by rw [ht]; exact hP9, va_K.moved hW.alike hK9, hD9⟩⟩, hS.F ht⟩) hS.2.2 dX12_move_129
        · skip
          have fc53 : ra52.toInt = v25.toInt := congrArg Int32.toInt c53
          have r1c53 := Int32.toInt_lt ra52
          have r2c53 := Int32.toInt_lt v25
          have r3c53 := Int32.le_toInt ra52
          have r4c53 := Int32.le_toInt v25
          refine lv_iconst (v := 2) hx hb dX12_move_41 (by decide) ?_
          refine lv_goto (tgt := 81) hx hb dX12_move_42 (by decide) ?_
          have hPc := hP.sub (ws' := (wd_5b5f7811 h0 v0 r0 v1 v2 v3 v4 r1 r2 r3 r4 r5 r6 r7 v5 v6 r8 r9 r10 r11 v7 h1 r12 v8 v9 h2 h3 v10 v11 r13 v12 v13 h4 v14 w15 r14 v16 v17 r15 r16 r17 r18 r19 r20 v18 r21 r22 r23 v19 h3 g2 f22)) [0, 3] rfl
          have hDc := hD.sub (ws' := (wd_5b5f7811 h0 v0 r0 v1 v2 v3 v4 r1 r2 r3 r4 r5 r6 r7 v5 v6 r8 r9 r10 r11 v7 h1 r12 v8 v9 h2 h3 v10 v11 r13 v12 v13 h4 v14 w15 r14 v16 v17 r15 r16 r17 r18 r19 r20 v18 r21 r22 r23 v19 h3 g2 f22)) [0, 3] (by decide) rfl
          have hKc := hK.sub (tys' := [(g2, .int)]) [2] rfl
          have hFc := va_free (wc := (wd_5b5f7811 h0 v0 r0 v1 v2 v3 v4 r1 r2 r3 r4 r5 r6 r7 v5 v6 r8 r9 r10 r11 v7 h1 r12 v8 v9 h2 h3 v10 v11 r13 v12 v13 h4 v14 w15 r14 v16 v17 r15 r16 r17 r18 r19 r20 v18 r21 r22 r23 v19 h3 g2 f22)) hD hS hA [0, 3] rfl
          refine va_calli (va_runV (As := [.int 2]) (rest := []) ⟨hx, hb, hml, hown, hts⟩ (k_X12_isRefused_3 l dC dI h0 h3 v0 r0 v1 v2 v3 v4 r1 r2 r3 r4 r5 r6 r7 v5 v6 r8 r9 r10 r11 v7 h1 r12 v8 v9 h2 v10 v11 r13 v12 v13 h4 v14 w15 r14 v16 v17 r15 r16 r17 r18 r19 r20 v18 r21 r22 r23 v19 g2 f22 ⟨i_v1a, i_v1b⟩ ⟨i_v5a, i_v5b⟩ ⟨i_v6a, i_v6b⟩ ⟨i_v7a, i_v7b⟩ ⟨i_v8a, i_v8b⟩ ⟨i_v9a, i_v9b⟩ ⟨i_v10a, i_v10b⟩ ⟨i_v14a, i_v14b⟩ ⟨i_v18a, i_v18b⟩ ⟨i_v19a, i_v19b⟩ H.size) (cwV 1 hts g_X12_move_16 rfl rfl rfl (by decide +kernel) ⟨Nat.le_of_ble_eq_true rfl, Nat.le_of_ble_eq_true rfl⟩) (pv_PV12 hPc hKc hDc (q0 := 0) rfl) rfl rfl hl.1 rfl (lv_room (Nat.le_of_ble_eq_true rfl)) dX12_move_81 ⟨Nat.le_of_ble_eq_true rfl, Nat.le_of_ble_eq_true rfl⟩) hS (fun q _ h => hFc q h) hFc (fun ra68 u t H1 locs ht hvm hwra68 hB hz1 hk1 hS => ?_)
          try rw [hwra68] at hB
          obtain ⟨fn69, pt0_ra68, pt1_ra68, hP1, hK1, hD1⟩ := hB
          rw [ht] at hP1
          obtain ⟨hP2, hD2⟩ := va_join (wr := (wd_4b0b152d h1 g0 f20 h2 g1 f21 h4 g3 f23)) (w1 := (wd_5b5f7811 h0 v0 r0 v1 v2 v3 v4 r1 r2 r3 r4 r5 r6 r7 v5 v6 r8 r9 r10 r11 v7 h1 r12 v8 v9 h2 h3 v10 v11 r13 v12 v13 h4 v14 w15 r14 v16 v17 r15 r16 r17 r18 r19 r20 v18 r21 r22 r23 v19 h3 g2 fn69)) hP hD [0, 3] [1, 2, 4] rfl rfl (by decide) (by decide) hk1 hFc hP1 hD1
          clear hP hD hPc hDc hKc hFc hP1 hK1 hD1 hk1 hz1
          generalize H1 = H at hP2 hS ⊢
          have hP := hP2.sub (ws' := (wd_56d90344 h0 v0 r0 v1 v2 v3 v4 r1 r2 r3 r4 r5 r6 r7 v5 v6 r8 r9 r10 r11 v7 h1 r12 v8 v9 h2 h3 v10 v11 r13 v12 v13 h4 v14 w15 r14 v16 v17 r15 r16 r17 r18 r19 r20 v18 r21 r22 r23 v19 h1 g0 f20 h2 g1 f21 h3 g2 fn69 h4 g3 f23)) [3, 0, 1, 4, 2] rfl
          have hD := hD2.sub (ws' := (wd_56d90344 h0 v0 r0 v1 v2 v3 v4 r1 r2 r3 r4 r5 r6 r7 v5 v6 r8 r9 r10 r11 v7 h1 r12 v8 v9 h2 h3 v10 v11 r13 v12 v13 h4 v14 w15 r14 v16 v17 r15 r16 r17 r18 r19 r20 v18 r21 r22 r23 v19 h1 g0 f20 h2 g1 f21 h3 g2 fn69 h4 g3 f23)) [3, 0, 1, 4, 2] (by decide) rfl
          clear hP2 hD2
          obtain rfl : ra68 = (1 : Int32) := pv_cs (by decide) pt0_ra68 pt1_ra68
          refine lv_if_eq (tgt := 89) hx hb dX12_move_84 (by decide) (fun c => absurd c (by decide)) (fun _ => ?_)
          refine lv_iconst (v := (-1)) hx hb dX12_move_87 (by decide) ?_
          subst hQ
          have hP9 := hP.sub (ws' := (wd_56d90344 h0 v0 r0 v1 v2 v3 v4 r1 r2 r3 r4 r5 r6 r7 v5 v6 r8 r9 r10 r11 v7 h1 r12 v8 v9 h2 h3 v10 v11 r13 v12 v13 h4 v14 w15 r14 v16 v17 r15 r16 r17 r18 r19 r20 v18 r21 r22 r23 v19 h1 g0 f20 h2 g1 f21 h3 g2 fn69 h4 g3 f23)) [0, 1, 2, 3, 4] rfl
          have hD9 := hD.sub (ws' := (wd_56d90344 h0 v0 r0 v1 v2 v3 v4 r1 r2 r3 r4 r5 r6 r7 v5 v6 r8 r9 r10 r11 v7 h1 r12 v8 v9 h2 h3 v10 v11 r13 v12 v13 h4 v14 w15 r14 v16 v17 r15 r16 r17 r18 r19 r20 v18 r21 r22 r23 v19 h1 g0 f20 h2 g1 f21 h3 g2 fn69 h4 g3 f23)) [0, 1, 2, 3, 4] (by decide) rfl
          have hK9 := hK.sub (tys' := []) [] rfl
          exact W.iret (v := (-1)) hx hb hr (fun t ht hW => ⟨⟨(-1), (-1), rfl, rfl, ⟨v14, f21, fn69, f23, i_v14a, i_v14b, ia_f21, ia_f23, by rw [ht]; exact hP9, va_K.moved hW.alike hK9, hD9⟩⟩, hS.F ht⟩) hS.2.2 dX12_move_88
      · skip
        have fc51 : ¬ (v25.toInt = 9) := fun h9 => c51 (Int32.toInt_inj.mp h9)
        refine lv_iconst (v := 1) hx hb dX12_move_27 (by decide) ?_
        refine lv_goto (tgt := 81) hx hb dX12_move_28 (by decide) ?_
        have hPc := hP.sub (ws' := (wd_5b5f7811 h0 v0 r0 v1 v2 v3 v4 r1 r2 r3 r4 r5 r6 r7 v5 v6 r8 r9 r10 r11 v7 h1 r12 v8 v9 h2 h3 v10 v11 r13 v12 v13 h4 v14 w15 r14 v16 v17 r15 r16 r17 r18 r19 r20 v18 r21 r22 r23 v19 h3 g2 f22)) [0, 3] rfl
        have hDc := hD.sub (ws' := (wd_5b5f7811 h0 v0 r0 v1 v2 v3 v4 r1 r2 r3 r4 r5 r6 r7 v5 v6 r8 r9 r10 r11 v7 h1 r12 v8 v9 h2 h3 v10 v11 r13 v12 v13 h4 v14 w15 r14 v16 v17 r15 r16 r17 r18 r19 r20 v18 r21 r22 r23 v19 h3 g2 f22)) [0, 3] (by decide) rfl
        have hKc := hK.sub (tys' := [(g2, .int)]) [2] rfl
        have hFc := va_free (wc := (wd_5b5f7811 h0 v0 r0 v1 v2 v3 v4 r1 r2 r3 r4 r5 r6 r7 v5 v6 r8 r9 r10 r11 v7 h1 r12 v8 v9 h2 h3 v10 v11 r13 v12 v13 h4 v14 w15 r14 v16 v17 r15 r16 r17 r18 r19 r20 v18 r21 r22 r23 v19 h3 g2 f22)) hD hS hA [0, 3] rfl
        refine va_calli (va_runV (As := [.int 1]) (rest := []) ⟨hx, hb, hml, hown, hts⟩ (k_X12_isRefused_4 l dC dI h0 h3 v0 r0 v1 v2 v3 v4 r1 r2 r3 r4 r5 r6 r7 v5 v6 r8 r9 r10 r11 v7 h1 r12 v8 v9 h2 v10 v11 r13 v12 v13 h4 v14 w15 r14 v16 v17 r15 r16 r17 r18 r19 r20 v18 r21 r22 r23 v19 g2 f22 ⟨i_v1a, i_v1b⟩ ⟨i_v5a, i_v5b⟩ ⟨i_v6a, i_v6b⟩ ⟨i_v7a, i_v7b⟩ ⟨i_v8a, i_v8b⟩ ⟨i_v9a, i_v9b⟩ ⟨i_v10a, i_v10b⟩ ⟨i_v14a, i_v14b⟩ ⟨i_v18a, i_v18b⟩ ⟨i_v19a, i_v19b⟩ H.size) (cwV 1 hts g_X12_move_23 rfl rfl rfl (by decide +kernel) ⟨Nat.le_of_ble_eq_true rfl, Nat.le_of_ble_eq_true rfl⟩) (pv_PV12 hPc hKc hDc (q0 := 0) rfl) rfl rfl hl.1 rfl (lv_room (Nat.le_of_ble_eq_true rfl)) dX12_move_81 ⟨Nat.le_of_ble_eq_true rfl, Nat.le_of_ble_eq_true rfl⟩) hS (fun q _ h => hFc q h) hFc (fun ra70 u t H1 locs ht hvm hwra70 hB hz1 hk1 hS => ?_)
        try rw [hwra70] at hB
        obtain ⟨fn71, pt0_ra70, pt1_ra70, hP1, hK1, hD1⟩ := hB
        rw [ht] at hP1
        obtain ⟨hP2, hD2⟩ := va_join (wr := (wd_4b0b152d h1 g0 f20 h2 g1 f21 h4 g3 f23)) (w1 := (wd_5b5f7811 h0 v0 r0 v1 v2 v3 v4 r1 r2 r3 r4 r5 r6 r7 v5 v6 r8 r9 r10 r11 v7 h1 r12 v8 v9 h2 h3 v10 v11 r13 v12 v13 h4 v14 w15 r14 v16 v17 r15 r16 r17 r18 r19 r20 v18 r21 r22 r23 v19 h3 g2 fn71)) hP hD [0, 3] [1, 2, 4] rfl rfl (by decide) (by decide) hk1 hFc hP1 hD1
        clear hP hD hPc hDc hKc hFc hP1 hK1 hD1 hk1 hz1
        generalize H1 = H at hP2 hS ⊢
        have hP := hP2.sub (ws' := (wd_56d90344 h0 v0 r0 v1 v2 v3 v4 r1 r2 r3 r4 r5 r6 r7 v5 v6 r8 r9 r10 r11 v7 h1 r12 v8 v9 h2 h3 v10 v11 r13 v12 v13 h4 v14 w15 r14 v16 v17 r15 r16 r17 r18 r19 r20 v18 r21 r22 r23 v19 h1 g0 f20 h2 g1 f21 h3 g2 fn71 h4 g3 f23)) [3, 0, 1, 4, 2] rfl
        have hD := hD2.sub (ws' := (wd_56d90344 h0 v0 r0 v1 v2 v3 v4 r1 r2 r3 r4 r5 r6 r7 v5 v6 r8 r9 r10 r11 v7 h1 r12 v8 v9 h2 h3 v10 v11 r13 v12 v13 h4 v14 w15 r14 v16 v17 r15 r16 r17 r18 r19 r20 v18 r21 r22 r23 v19 h1 g0 f20 h2 g1 f21 h3 g2 fn71 h4 g3 f23)) [3, 0, 1, 4, 2] (by decide) rfl
        clear hP2 hD2
        obtain rfl : ra70 = (1 : Int32) := pv_cs (by decide) pt0_ra70 pt1_ra70
        refine lv_if_eq (tgt := 89) hx hb dX12_move_84 (by decide) (fun c => absurd c (by decide)) (fun _ => ?_)
        refine lv_iconst (v := (-1)) hx hb dX12_move_87 (by decide) ?_
        subst hQ
        have hP9 := hP.sub (ws' := (wd_56d90344 h0 v0 r0 v1 v2 v3 v4 r1 r2 r3 r4 r5 r6 r7 v5 v6 r8 r9 r10 r11 v7 h1 r12 v8 v9 h2 h3 v10 v11 r13 v12 v13 h4 v14 w15 r14 v16 v17 r15 r16 r17 r18 r19 r20 v18 r21 r22 r23 v19 h1 g0 f20 h2 g1 f21 h3 g2 fn71 h4 g3 f23)) [0, 1, 2, 3, 4] rfl
        have hD9 := hD.sub (ws' := (wd_56d90344 h0 v0 r0 v1 v2 v3 v4 r1 r2 r3 r4 r5 r6 r7 v5 v6 r8 r9 r10 r11 v7 h1 r12 v8 v9 h2 h3 v10 v11 r13 v12 v13 h4 v14 w15 r14 v16 v17 r15 r16 r17 r18 r19 r20 v18 r21 r22 r23 v19 h1 g0 f20 h2 g1 f21 h3 g2 fn71 h4 g3 f23)) [0, 1, 2, 3, 4] (by decide) rfl
        have hK9 := hK.sub (tys' := []) [] rfl
        exact W.iret (v := (-1)) hx hb hr (fun t ht hW => ⟨⟨(-1), (-1), rfl, rfl, ⟨v14, f21, fn71, f23, i_v14a, i_v14b, ia_f21, ia_f23, by rw [ht]; exact hP9, va_K.moved hW.alike hK9, hD9⟩⟩, hS.F ht⟩) hS.2.2 dX12_move_88
  · skip
    have fc2 : ra1.toInt = 0 := congrArg Int32.toInt c2
    refine lv_iconst (v := 0) hx hb dX12_move_9 (by decide) ?_
    refine lv_goto (tgt := 81) hx hb dX12_move_10 (by decide) ?_
    have hPc := hP.sub (ws' := (wd_5b5f7811 h0 v0 r0 v1 v2 v3 v4 r1 r2 r3 r4 r5 r6 r7 v5 v6 r8 r9 r10 r11 v7 h1 r12 v8 v9 h2 h3 v10 v11 r13 v12 v13 h4 v14 w15 r14 v16 v17 r15 r16 r17 r18 r19 r20 v18 r21 r22 r23 v19 h3 g2 f22)) [0, 3] rfl
    have hDc := hD.sub (ws' := (wd_5b5f7811 h0 v0 r0 v1 v2 v3 v4 r1 r2 r3 r4 r5 r6 r7 v5 v6 r8 r9 r10 r11 v7 h1 r12 v8 v9 h2 h3 v10 v11 r13 v12 v13 h4 v14 w15 r14 v16 v17 r15 r16 r17 r18 r19 r20 v18 r21 r22 r23 v19 h3 g2 f22)) [0, 3] (by decide) rfl
    have hKc := hK.sub (tys' := [(g2, .int)]) [2] rfl
    have hFc := va_free (wc := (wd_5b5f7811 h0 v0 r0 v1 v2 v3 v4 r1 r2 r3 r4 r5 r6 r7 v5 v6 r8 r9 r10 r11 v7 h1 r12 v8 v9 h2 h3 v10 v11 r13 v12 v13 h4 v14 w15 r14 v16 v17 r15 r16 r17 r18 r19 r20 v18 r21 r22 r23 v19 h3 g2 f22)) hD hS hA [0, 3] rfl
    refine va_calli (va_runV (As := [.int 0]) (rest := []) ⟨hx, hb, hml, hown, hts⟩ (k_X12_isRefused_1 l dC dI h0 h3 v0 r0 v1 v2 v3 v4 r1 r2 r3 r4 r5 r6 r7 v5 v6 r8 r9 r10 r11 v7 h1 r12 v8 v9 h2 v10 v11 r13 v12 v13 h4 v14 w15 r14 v16 v17 r15 r16 r17 r18 r19 r20 v18 r21 r22 r23 v19 g2 f22 ⟨i_v1a, i_v1b⟩ ⟨i_v5a, i_v5b⟩ ⟨i_v6a, i_v6b⟩ ⟨i_v7a, i_v7b⟩ ⟨i_v8a, i_v8b⟩ ⟨i_v9a, i_v9b⟩ ⟨i_v10a, i_v10b⟩ ⟨i_v14a, i_v14b⟩ ⟨i_v18a, i_v18b⟩ ⟨i_v19a, i_v19b⟩ H.size) (cwV 1 hts g_X12_move_24 rfl rfl rfl (by decide +kernel) ⟨Nat.le_of_ble_eq_true rfl, Nat.le_of_ble_eq_true rfl⟩) (pv_PV12 hPc hKc hDc (q0 := 0) rfl) rfl rfl hl.1 rfl (lv_room (Nat.le_of_ble_eq_true rfl)) dX12_move_81 ⟨Nat.le_of_ble_eq_true rfl, Nat.le_of_ble_eq_true rfl⟩) hS (fun q _ h => hFc q h) hFc (fun ra72 u t H1 locs ht hvm hwra72 hB hz1 hk1 hS => ?_)
    try rw [hwra72] at hB
    obtain ⟨fn73, pt0_ra72, pt1_ra72, hP1, hK1, hD1⟩ := hB
    rw [ht] at hP1
    obtain ⟨hP2, hD2⟩ := va_join (wr := (wd_4b0b152d h1 g0 f20 h2 g1 f21 h4 g3 f23)) (w1 := (wd_5b5f7811 h0 v0 r0 v1 v2 v3 v4 r1 r2 r3 r4 r5 r6 r7 v5 v6 r8 r9 r10 r11 v7 h1 r12 v8 v9 h2 h3 v10 v11 r13 v12 v13 h4 v14 w15 r14 v16 v17 r15 r16 r17 r18 r19 r20 v18 r21 r22 r23 v19 h3 g2 fn73)) hP hD [0, 3] [1, 2, 4] rfl rfl (by decide) (by decide) hk1 hFc hP1 hD1
    clear hP hD hPc hDc hKc hFc hP1 hK1 hD1 hk1 hz1
    generalize H1 = H at hP2 hS ⊢
    have hP := hP2.sub (ws' := (wd_56d90344 h0 v0 r0 v1 v2 v3 v4 r1 r2 r3 r4 r5 r6 r7 v5 v6 r8 r9 r10 r11 v7 h1 r12 v8 v9 h2 h3 v10 v11 r13 v12 v13 h4 v14 w15 r14 v16 v17 r15 r16 r17 r18 r19 r20 v18 r21 r22 r23 v19 h1 g0 f20 h2 g1 f21 h3 g2 fn73 h4 g3 f23)) [3, 0, 1, 4, 2] rfl
    have hD := hD2.sub (ws' := (wd_56d90344 h0 v0 r0 v1 v2 v3 v4 r1 r2 r3 r4 r5 r6 r7 v5 v6 r8 r9 r10 r11 v7 h1 r12 v8 v9 h2 h3 v10 v11 r13 v12 v13 h4 v14 w15 r14 v16 v17 r15 r16 r17 r18 r19 r20 v18 r21 r22 r23 v19 h1 g0 f20 h2 g1 f21 h3 g2 fn73 h4 g3 f23)) [3, 0, 1, 4, 2] (by decide) rfl
    clear hP2 hD2
    obtain rfl : ra72 = (1 : Int32) := pv_cs (by decide) pt0_ra72 pt1_ra72
    refine lv_if_eq (tgt := 89) hx hb dX12_move_84 (by decide) (fun c => absurd c (by decide)) (fun _ => ?_)
    refine lv_iconst (v := (-1)) hx hb dX12_move_87 (by decide) ?_
    subst hQ
    have hP9 := hP.sub (ws' := (wd_56d90344 h0 v0 r0 v1 v2 v3 v4 r1 r2 r3 r4 r5 r6 r7 v5 v6 r8 r9 r10 r11 v7 h1 r12 v8 v9 h2 h3 v10 v11 r13 v12 v13 h4 v14 w15 r14 v16 v17 r15 r16 r17 r18 r19 r20 v18 r21 r22 r23 v19 h1 g0 f20 h2 g1 f21 h3 g2 fn73 h4 g3 f23)) [0, 1, 2, 3, 4] rfl
    have hD9 := hD.sub (ws' := (wd_56d90344 h0 v0 r0 v1 v2 v3 v4 r1 r2 r3 r4 r5 r6 r7 v5 v6 r8 r9 r10 r11 v7 h1 r12 v8 v9 h2 h3 v10 v11 r13 v12 v13 h4 v14 w15 r14 v16 v17 r15 r16 r17 r18 r19 r20 v18 r21 r22 r23 v19 h1 g0 f20 h2 g1 f21 h3 g2 fn73 h4 g3 f23)) [0, 1, 2, 3, 4] (by decide) rfl
    have hK9 := hK.sub (tys' := []) [] rfl
    exact W.iret (v := (-1)) hx hb hr (fun t ht hW => ⟨⟨(-1), (-1), rfl, rfl, ⟨v14, f21, fn73, f23, i_v14a, i_v14b, ia_f21, ia_f23, by rw [ht]; exact hP9, va_K.moved hW.alike hK9, hD9⟩⟩, hS.F ht⟩) hS.2.2 dX12_move_88
def q_X12_hush : List Cond := .code yX12_hush cX12_hush 2 (some .int) :: (([.code yX12_isThere cX12_isThere 2 (some .boolean), .code yX12_in cX12_in 3 (some .boolean), .initialized RX12, .static yX12_in, .methodLink RX12 217 yX12_in, .code yX12_of cX12_of 3 (some .int), .fieldLink RX12 52 "LeftArgumentsModel" "now" "[I", .instanceMethod yX12_of, .selects RX12 yX12_of yX12_of, .methodLink RX12 287 yX12_of, .instanceMethod yX12_isThere, .selects RX12 yX12_isThere yX12_isThere, .methodLink RX12 290 yX12_isThere, .code yX12_isRefused cX12_isRefused 2 (some .boolean), .instanceMethod yX12_isRefused, .selects RX12 yX12_isRefused yX12_isRefused, .methodLink RX12 339 yX12_isRefused, .code yX12_keep cX12_keep 2 none, .fieldLink RX12 275 "LeftArgumentsModel" "acts" "I", .fieldLink RX12 68 "LeftArgumentsModel" "kept" "[I", .instanceMethod yX12_keep, .selects RX12 yX12_keep yX12_keep, .methodLink RX12 342 yX12_keep, .code yX12_set cX12_set 4 none, .instanceMethod yX12_set, .selects RX12 yX12_set yX12_set, .methodLink RX12 258 yX12_set, .fieldLink RX12 55 "LeftArgumentsModel" "refused" "[I"] : List Cond) ++ wsX120)
set_option maxRecDepth 20000 in
theorem g_X12_hush_0 : GoodIn q_X12_hush (wsV RX12 290 RX12 yX12_isThere q_X12_isThere) := goodIn_app (goodIn_r _ [13, 11, 12, 3] rfl (by decide +kernel)) (goodIn_ca (goodIn_r (.code yX12_isThere cX12_isThere 2 (some .boolean) :: [.code yX12_in cX12_in 3 (some .boolean), .initialized RX12, .static yX12_in, .methodLink RX12 217 yX12_in, .code yX12_of cX12_of 3 (some .int), .fieldLink RX12 52 "LeftArgumentsModel" "now" "[I", .instanceMethod yX12_of, .selects RX12 yX12_of yX12_of, .methodLink RX12 287 yX12_of]) [1, 2, 3, 4, 5, 6, 7, 8, 9, 10] rfl (by decide +kernel)) (goodIn_sub (fun _ h => List.mem_cons_of_mem _ (List.mem_append_right _ h)) gwX12))
set_option maxRecDepth 20000 in
theorem g_X12_hush_1 : GoodIn q_X12_hush (wsV RX12 287 RX12 yX12_of q_X12_of_8) := goodIn_app (goodIn_r _ [10, 8, 9, 3] rfl (by decide +kernel)) (goodIn_ca (goodIn_r (.code yX12_of cX12_of 3 (some .int) :: [.fieldLink RX12 52 "LeftArgumentsModel" "now" "[I"]) [6, 7] rfl (by decide +kernel)) (goodIn_sub (fun _ h => List.mem_cons_of_mem _ (List.mem_append_right _ h)) gwX12))
set_option maxRecDepth 20000 in
theorem g_X12_hush_2 : GoodIn q_X12_hush (wsV RX12 339 RX12 yX12_isRefused q_X12_isRefused) := goodIn_app (goodIn_r _ [17, 15, 16, 3] rfl (by decide +kernel)) (goodIn_r (.code yX12_isRefused cX12_isRefused 2 (some .boolean) :: []) [14] rfl (by decide +kernel))
set_option maxRecDepth 20000 in
theorem g_X12_hush_3 : GoodIn q_X12_hush (wsV RX12 342 RX12 yX12_keep q_X12_keep) := goodIn_app (goodIn_r _ [23, 21, 22, 3] rfl (by decide +kernel)) (goodIn_ca (goodIn_r (.code yX12_keep cX12_keep 2 none :: [.fieldLink RX12 275 "LeftArgumentsModel" "acts" "I", .fieldLink RX12 68 "LeftArgumentsModel" "kept" "[I", .fieldLink RX12 52 "LeftArgumentsModel" "now" "[I"]) [18, 19, 20, 7] rfl (by decide +kernel)) (goodIn_sub (fun _ h => List.mem_cons_of_mem _ (List.mem_append_right _ h)) gwX12))
set_option maxRecDepth 20000 in
theorem g_X12_hush_4 : GoodIn q_X12_hush (wsV RX12 258 RX12 yX12_set q_X12_set_4) := goodIn_app (goodIn_r _ [27, 25, 26, 3] rfl (by decide +kernel)) (goodIn_ca (goodIn_r (.code yX12_set cX12_set 4 none :: [.fieldLink RX12 52 "LeftArgumentsModel" "now" "[I"]) [24, 7] rfl (by decide +kernel)) (goodIn_sub (fun _ h => List.mem_cons_of_mem _ (List.mem_append_right _ h)) gwX12))
set_option maxRecDepth 20000 in
theorem g_X12_hush_5 : GoodIn q_X12_hush (wsV RX12 339 RX12 yX12_isRefused q_X12_isRefused_2) := goodIn_app (goodIn_r _ [17, 15, 16, 3] rfl (by decide +kernel)) (goodIn_ca (goodIn_r (.code yX12_isRefused cX12_isRefused 2 (some .boolean) :: [.fieldLink RX12 55 "LeftArgumentsModel" "refused" "[I"]) [14, 28] rfl (by decide +kernel)) (goodIn_sub (fun _ h => List.mem_cons_of_mem _ (List.mem_append_right _ h)) gwX12))
set_option maxRecDepth 20000 in
theorem g_X12_hush_6 : GoodIn q_X12_hush (wsV RX12 339 RX12 yX12_isRefused q_X12_isRefused_3) := goodIn_app (goodIn_r _ [17, 15, 16, 3] rfl (by decide +kernel)) (goodIn_ca (goodIn_r (.code yX12_isRefused cX12_isRefused 2 (some .boolean) :: [.fieldLink RX12 55 "LeftArgumentsModel" "refused" "[I"]) [14, 28] rfl (by decide +kernel)) (goodIn_sub (fun _ h => List.mem_cons_of_mem _ (List.mem_append_right _ h)) gwX12))
set_option maxRecDepth 20000 in
theorem g_X12_hush_7 : GoodIn q_X12_hush (wsV RX12 339 RX12 yX12_isRefused q_X12_isRefused_1) := goodIn_app (goodIn_r _ [17, 15, 16, 3] rfl (by decide +kernel)) (goodIn_ca (goodIn_r (.code yX12_isRefused cX12_isRefused 2 (some .boolean) :: [.fieldLink RX12 55 "LeftArgumentsModel" "refused" "[I"]) [14, 28] rfl (by decide +kernel)) (goodIn_sub (fun _ h => List.mem_cons_of_mem _ (List.mem_append_right _ h)) gwX12))
set_option maxHeartbeats 4000000 in
set_option maxRecDepth 100000 in
theorem k_X12_hush (l : Launch) (dC : Nat → ClassId) (dI : Nat → Nat → Nat) (h0 : Nat) (h1 : Nat) (h2 : Nat) (h3 : Nat) (v0 : Int32) (r0 : Nat) (v1 : Int32) (v2 : Int32) (v3 : Int32) (v4 : Int32) (r1 : Nat) (r2 : Nat) (r3 : Nat) (r4 : Nat) (r5 : Nat) (r6 : Nat) (r7 : Nat) (v5 : Int32) (v6 : Int32) (r8 : Nat) (r9 : Nat) (r10 : Nat) (r11 : Nat) (v7 : Int32) (r12 : Nat) (r13 : Nat) (v8 : Int32) (v9 : Int32) (v10 : Int32) (v11 : Int32) (r14 : Nat) (v12 : Int32) (v13 : Int32) (v14 : Int32) (w15 : Int64) (r15 : Nat) (v16 : Int32) (v17 : Int32) (r16 : Nat) (r17 : Nat) (r18 : Nat) (r19 : Nat) (r20 : Nat) (r21 : Nat) (v18 : Int32) (r22 : Nat) (r23 : Nat) (r24 : Nat) (v19 : Int32) (g0 : ClassId) (f20 : Nat → Int32) (g1 : ClassId) (f21 : Nat → Int32) (g2 : ClassId) (f22 : Nat → Int32) (v23 : Int32) (i_v1 : 0 ≤ v1.toInt ∧ v1.toInt ≤ 240) (i_v5 : 0 ≤ v5.toInt ∧ v5.toInt ≤ 4) (i_v6 : 0 ≤ v6.toInt ∧ v6.toInt ≤ 4) (i_v7 : 0 ≤ v7.toInt ∧ v7.toInt ≤ 8) (i_v8 : 0 ≤ v8.toInt ∧ v8.toInt ≤ 8) (i_v9 : 0 ≤ v9.toInt ∧ v9.toInt ≤ 1) (i_v10 : -1 ≤ v10.toInt ∧ v10.toInt ≤ 3) (i_v14 : 0 ≤ v14.toInt ∧ v14.toInt ≤ 40) (i_v18 : 0 ≤ v18.toInt ∧ v18.toInt ≤ 10) (i_v19 : 0 ≤ v19.toInt ∧ v19.toInt ≤ 1) (ia_f20 : (pm_NW f20)) (ia_f22 : (pm_KP f22)) (sz : Nat) : Met l yX12_hush q_X12_hush ({ frames := 2, cells := 0, slots := 0, locals := 43 }) (va_Pc [.ref h0, .int v23] (fun U => U.heap.size = sz ∧ va_P (dC, dI) vwCl (wd_1ad11ebb h0 v0 r0 v1 v2 v3 v4 r1 r2 r3 r4 r5 r6 r7 v5 v6 r8 r9 r10 r11 v7 r12 r13 v8 v9 h1 h2 v10 v11 r14 v12 v13 h3 v14 w15 r15 v16 v17 r16 r17 r18 r19 r20 r21 v18 r22 r23 r24 v19 h1 g0 f20 h2 g1 f21 h3 g2 f22) U.heap ∧ va_K (dC, dI) vwCl [(g0, .int), (g1, .int), (g2, .int)] U ∧ va_D (fun _ => True) (wd_1ad11ebb h0 v0 r0 v1 v2 v3 v4 r1 r2 r3 r4 r5 r6 r7 v5 v6 r8 r9 r10 r11 v7 r12 r13 v8 v9 h1 h2 v10 v11 r14 v12 v13 h3 v14 w15 r15 v16 v17 r16 r17 r18 r19 r20 r21 v18 r22 r23 r24 v19 h1 g0 f20 h2 g1 f21 h3 g2 f22))) (va_Qi (fun (r : Int32) (r9 : Int32) => r9 = r) (fun (r : Int32) (t : State) => (∃ (o_h0_32 : Int32) (o_h1 : Nat → Int32) (o_h2 : Nat → Int32) (o_h3 : Nat → Int32), 0 ≤ o_h0_32.toInt ∧ o_h0_32.toInt ≤ 40 ∧ (pm_NW o_h1) ∧ (pm_KP o_h3) ∧ (-1 ≤ r.toInt) ∧ (r.toInt ≤ 2147483646) ∧ va_P (dC, dI) vwCl (wd_1ad11ebb h0 v0 r0 v1 v2 v3 v4 r1 r2 r3 r4 r5 r6 r7 v5 v6 r8 r9 r10 r11 v7 r12 r13 v8 v9 h1 h2 v10 v11 r14 v12 v13 h3 o_h0_32 w15 r15 v16 v17 r16 r17 r18 r19 r20 r21 v18 r22 r23 r24 v19 h1 g0 o_h1 h2 g1 o_h2 h3 g2 o_h3) t.heap ∧ va_K (dC, dI) vwCl [] t ∧ va_D (va_A (wd_1ad11ebb h0 v0 r0 v1 v2 v3 v4 r1 r2 r3 r4 r5 r6 r7 v5 v6 r8 r9 r10 r11 v7 r12 r13 v8 v9 h1 h2 v10 v11 r14 v12 v13 h3 v14 w15 r15 v16 v17 r16 r17 r18 r19 r20 r21 v18 r22 r23 r24 v19 h1 g0 f20 h2 g1 f21 h3 g2 f22) sz) (wd_1ad11ebb h0 v0 r0 v1 v2 v3 v4 r1 r2 r3 r4 r5 r6 r7 v5 v6 r8 r9 r10 r11 v7 r12 r13 v8 v9 h1 h2 v10 v11 r14 v12 v13 h3 o_h0_32 w15 r15 v16 v17 r16 r17 r18 r19 r20 r21 v18 r22 r23 r24 v19 h1 g0 o_h1 h2 g1 o_h2 h3 g2 o_h3))) (va_A (wd_1ad11ebb h0 v0 r0 v1 v2 v3 v4 r1 r2 r3 r4 r5 r6 r7 v5 v6 r8 r9 r10 r11 v7 r12 r13 v8 v9 h1 h2 v10 v11 r14 v12 v13 h3 v14 w15 r15 v16 v17 r16 r17 r18 r19 r20 r21 v18 r22 r23 r24 v19 h1 g0 f20 h2 g1 f21 h3 g2 f22) sz)) 0 0 (va_A (wd_1ad11ebb h0 v0 r0 v1 v2 v3 v4 r1 r2 r3 r4 r5 r6 r7 v5 v6 r8 r9 r10 r11 v7 r12 r13 v8 v9 h1 h2 v10 v11 r14 v12 v13 h3 v14 w15 r15 v16 v17 r16 r17 r18 r19 r20 r21 v18 r22 r23 r24 v19 h1 g0 f20 h2 g1 f21 h3 g2 f22) sz) := by
  refine Met.ofW (cc := cX12_hush) (maxL := 2) (ret := (some .int)) (by decide) rfl ?_
  intro p e s m args below meth c s₁ B hml hv
  obtain ⟨i_v1a, i_v1b⟩ := i_v1
  obtain ⟨i_v5a, i_v5b⟩ := i_v5
  obtain ⟨i_v6a, i_v6b⟩ := i_v6
  obtain ⟨i_v7a, i_v7b⟩ := i_v7
  obtain ⟨i_v8a, i_v8b⟩ := i_v8
  obtain ⟨i_v9a, i_v9b⟩ := i_v9
  obtain ⟨i_v10a, i_v10b⟩ := i_v10
  obtain ⟨i_v14a, i_v14b⟩ := i_v14
  obtain ⟨i_v18a, i_v18b⟩ := i_v18
  obtain ⟨i_v19a, i_v19b⟩ := i_v19
  obtain ⟨rfl, hsz, hP, hK, hD0⟩ := hv
  have hx := B.exec
  have hb := B.bytes
  have hr := B.returns
  have hts := atoms_spec (ws := q_X12_hush) B.pre
  have hown : s.vm.findClass RX12 = some m.cls := findClass_of_methodNamed B.named
  have hlocks := B.notSynchronized
  subst hsz
  have hD := hD0.self (sz := s.heap.size)
  generalize hAe : va_A (wd_1ad11ebb h0 v0 r0 v1 v2 v3 v4 r1 r2 r3 r4 r5 r6 r7 v5 v6 r8 r9 r10 r11 v7 r12 r13 v8 v9 h1 h2 v10 v11 r14 v12 v13 h3 v14 w15 r15 v16 v17 r16 r17 r18 r19 r20 r21 v18 r22 r23 r24 v19 h1 g0 f20 h2 g1 f21 h3 g2 f22) s.heap.size = A at hD ⊢
  have hA : ∀ q : Nat, s.heap.size ≤ q → A q := fun q h => by rw [← hAe]; exact Or.inr h
  have hS : va_S A s.heap s.heap [] := va_S.rf
  generalize hQ : (MQ below _ _ s 0 0 A) = Q
  have hl := lv_entry ([.ref h0, .int v23]) (n := 2) (Nat.le_of_ble_eq_true rfl)
  rw [lg_entry_eq]
  generalize (lg_sl ([.ref h0, .int v23]) ++ List.replicate (2 - (lg_sl ([.ref h0, .int v23])).length) Slot.unset).toArray = ls at hl ⊢
  have hl : lv_has ls 2 [(0, .ref h0), (1, .int v23)] := hl
  obtain ⟨H, hH⟩ : ∃ H : Heap, H = s.heap := ⟨_, rfl⟩
  obtain ⟨locs, hlocs⟩ : ∃ y : List Loc, y = [] := ⟨_, rfl⟩
  have hS : va_S A s.heap H locs := by rw [hH, hlocs]; exact va_S.rf
  have hP : va_P (dC, dI) vwCl (wd_1ad11ebb h0 v0 r0 v1 v2 v3 v4 r1 r2 r3 r4 r5 r6 r7 v5 v6 r8 r9 r10 r11 v7 r12 r13 v8 v9 h1 h2 v10 v11 r14 v12 v13 h3 v14 w15 r15 v16 v17 r16 r17 r18 r19 r20 r21 v18 r22 r23 r24 v19 h1 g0 f20 h2 g1 f21 h3 g2 f22) H := by rw [hH]; exact hP
  rw [← hH, ← hlocs]
  refine lv_aload_n hx hb dX12_hush_0 rfl (lv_at hl 0 rfl) ?_
  refine lv_aload_n hx hb dX12_hush_1 rfl (lv_at hl 0 rfl) ?_
  refine lv_iload_n hx hb dX12_hush_2 rfl (lv_at hl 1 rfl) ?_
  have hPc := hP.sub (ws' := (wd_5013416a h0 v0 r0 v1 v2 v3 v4 r1 r2 r3 r4 r5 r6 r7 v5 v6 r8 r9 r10 r11 v7 r12 r13 v8 v9 h1 h2 v10 v11 r14 v12 v13 h3 v14 w15 r15 v16 v17 r16 r17 r18 r19 r20 r21 v18 r22 r23 r24 v19 h1 g0 f20)) [0, 1] rfl
  have hDc := hD.sub (ws' := (wd_5013416a h0 v0 r0 v1 v2 v3 v4 r1 r2 r3 r4 r5 r6 r7 v5 v6 r8 r9 r10 r11 v7 r12 r13 v8 v9 h1 h2 v10 v11 r14 v12 v13 h3 v14 w15 r15 v16 v17 r16 r17 r18 r19 r20 r21 v18 r22 r23 r24 v19 h1 g0 f20)) [0, 1] (by decide) rfl
  have hKc := hK.sub (tys' := [(g0, .int)]) [0] rfl
  have hFc := va_free (wc := (wd_5013416a h0 v0 r0 v1 v2 v3 v4 r1 r2 r3 r4 r5 r6 r7 v5 v6 r8 r9 r10 r11 v7 r12 r13 v8 v9 h1 h2 v10 v11 r14 v12 v13 h3 v14 w15 r15 v16 v17 r16 r17 r18 r19 r20 r21 v18 r22 r23 r24 v19 h1 g0 f20)) hD hS hA [0, 1] rfl
  refine va_calli (va_runV (As := [.int v23]) (rest := [.ref h0]) ⟨hx, hb, hml, hown, hts⟩ (k_X12_isThere l dC dI h0 h1 v0 r0 v1 v2 v3 v4 r1 r2 r3 r4 r5 r6 r7 v5 v6 r8 r9 r10 r11 v7 r12 r13 v8 v9 h2 v10 v11 r14 v12 v13 h3 v14 w15 r15 v16 v17 r16 r17 r18 r19 r20 r21 v18 r22 r23 r24 v19 g0 f20 v23 ⟨i_v1a, i_v1b⟩ ⟨i_v5a, i_v5b⟩ ⟨i_v6a, i_v6b⟩ ⟨i_v7a, i_v7b⟩ ⟨i_v8a, i_v8b⟩ ⟨i_v9a, i_v9b⟩ ⟨i_v10a, i_v10b⟩ ⟨i_v14a, i_v14b⟩ ⟨i_v18a, i_v18b⟩ ⟨i_v19a, i_v19b⟩ ia_f20.1 H.size) (cwV 1 hts g_X12_hush_0 rfl rfl rfl (by decide +kernel) ⟨Nat.le_of_ble_eq_true rfl, Nat.le_of_ble_eq_true rfl⟩) (pv_PV12 hPc hKc hDc (q0 := 0) rfl) rfl rfl hl.1 rfl (lv_room (Nat.le_of_ble_eq_true rfl)) dX12_hush_3 ⟨Nat.le_of_ble_eq_true rfl, Nat.le_of_ble_eq_true rfl⟩) hS (fun q _ h => hFc q h) hFc (fun ra1 u t H1 locs ht hvm hwra1 hB hz1 hk1 hS => ?_)
  try rw [hwra1] at hB
  obtain ⟨pt0_ra1, pt1_ra1, pt2_ra1, pt3_ra1, pt4_ra1, pt5_ra1, hP1, hK1, hD1⟩ := hB
  rw [ht] at hP1
  obtain ⟨hP2, hD2⟩ := va_join (wr := (wd_969f66a9 h2 g1 f21 h3 g2 f22)) (w1 := (wd_5013416a h0 v0 r0 v1 v2 v3 v4 r1 r2 r3 r4 r5 r6 r7 v5 v6 r8 r9 r10 r11 v7 r12 r13 v8 v9 h1 h2 v10 v11 r14 v12 v13 h3 v14 w15 r15 v16 v17 r16 r17 r18 r19 r20 r21 v18 r22 r23 r24 v19 h1 g0 f20)) hP hD [0, 1] [2, 3] rfl rfl (by decide) (by decide) hk1 hFc hP1 hD1
  clear hP hD hPc hDc hKc hFc hP1 hK1 hD1 hk1 hz1
  generalize H1 = H at hP2 hS ⊢
  have hP := hP2.sub (ws' := (wd_1ad11ebb h0 v0 r0 v1 v2 v3 v4 r1 r2 r3 r4 r5 r6 r7 v5 v6 r8 r9 r10 r11 v7 r12 r13 v8 v9 h1 h2 v10 v11 r14 v12 v13 h3 v14 w15 r15 v16 v17 r16 r17 r18 r19 r20 r21 v18 r22 r23 r24 v19 h1 g0 f20 h2 g1 f21 h3 g2 f22)) [2, 3, 0, 1] rfl
  have hD := hD2.sub (ws' := (wd_1ad11ebb h0 v0 r0 v1 v2 v3 v4 r1 r2 r3 r4 r5 r6 r7 v5 v6 r8 r9 r10 r11 v7 r12 r13 v8 v9 h1 h2 v10 v11 r14 v12 v13 h3 v14 w15 r15 v16 v17 r16 r17 r18 r19 r20 r21 v18 r22 r23 r24 v19 h1 g0 f20 h2 g1 f21 h3 g2 f22)) [2, 3, 0, 1] (by decide) rfl
  clear hP2 hD2
  refine lv_if_ne (tgt := 13) hx hb dX12_hush_6 (by decide) (fun c2 => ?_) (fun c2 => ?_)
  · skip
    have fc2 : ¬ (ra1.toInt = 0) := fun h9 => c2 (Int32.toInt_inj.mp h9)
    have q1pt4_ra1 := pt4_ra1 (by omega)
    refine lv_aload_n hx hb dX12_hush_13 rfl (lv_at hl 0 rfl) ?_
    refine lv_iload_n hx hb dX12_hush_14 rfl (lv_at hl 1 rfl) ?_
    refine lv_bipush (v := 6) hx hb dX12_hush_15 (by decide) ?_
    have hPc := hP.sub (ws' := (wd_5013416a h0 v0 r0 v1 v2 v3 v4 r1 r2 r3 r4 r5 r6 r7 v5 v6 r8 r9 r10 r11 v7 r12 r13 v8 v9 h1 h2 v10 v11 r14 v12 v13 h3 v14 w15 r15 v16 v17 r16 r17 r18 r19 r20 r21 v18 r22 r23 r24 v19 h1 g0 f20)) [0, 1] rfl
    have hDc := hD.sub (ws' := (wd_5013416a h0 v0 r0 v1 v2 v3 v4 r1 r2 r3 r4 r5 r6 r7 v5 v6 r8 r9 r10 r11 v7 r12 r13 v8 v9 h1 h2 v10 v11 r14 v12 v13 h3 v14 w15 r15 v16 v17 r16 r17 r18 r19 r20 r21 v18 r22 r23 r24 v19 h1 g0 f20)) [0, 1] (by decide) rfl
    have hKc := hK.sub (tys' := [(g0, .int)]) [0] rfl
    have hFc := va_free (wc := (wd_5013416a h0 v0 r0 v1 v2 v3 v4 r1 r2 r3 r4 r5 r6 r7 v5 v6 r8 r9 r10 r11 v7 r12 r13 v8 v9 h1 h2 v10 v11 r14 v12 v13 h3 v14 w15 r15 v16 v17 r16 r17 r18 r19 r20 r21 v18 r22 r23 r24 v19 h1 g0 f20)) hD hS hA [0, 1] rfl
    refine va_calli (va_runV (As := [.int v23, .int 6]) (rest := [.ref h0]) ⟨hx, hb, hml, hown, hts⟩ (k_X12_of_8 l dC dI h0 h1 v0 r0 v1 v2 v3 v4 r1 r2 r3 r4 r5 r6 r7 v5 v6 r8 r9 r10 r11 v7 r12 r13 v8 v9 h2 v10 v11 r14 v12 v13 h3 v14 w15 r15 v16 v17 r16 r17 r18 r19 r20 r21 v18 r22 r23 r24 v19 g0 f20 v23 ⟨i_v1a, i_v1b⟩ ⟨i_v5a, i_v5b⟩ ⟨i_v6a, i_v6b⟩ ⟨i_v7a, i_v7b⟩ ⟨i_v8a, i_v8b⟩ ⟨i_v9a, i_v9b⟩ ⟨i_v10a, i_v10b⟩ ⟨i_v14a, i_v14b⟩ ⟨i_v18a, i_v18b⟩ ⟨i_v19a, i_v19b⟩ ⟨by first | omega | decide, by first | omega | decide⟩ ia_f20.1 H.size) (cwV 2 hts g_X12_hush_1 rfl rfl rfl (by decide +kernel) ⟨Nat.le_of_ble_eq_true rfl, Nat.le_of_ble_eq_true rfl⟩) (pv_PV12 hPc hKc hDc (q0 := 0) rfl) rfl rfl hl.1 rfl (lv_room (Nat.le_of_ble_eq_true rfl)) dX12_hush_17 ⟨Nat.le_of_ble_eq_true rfl, Nat.le_of_ble_eq_true rfl⟩) hS (fun q _ h => hFc q h) hFc (fun ra3 u t H1 locs ht hvm hwra3 hB hz1 hk1 hS => ?_)
    try rw [hwra3] at hB
    obtain ⟨pt0_ra3, hP1, hK1, hD1⟩ := hB
    rw [ht] at hP1
    obtain ⟨hP2, hD2⟩ := va_join (wr := (wd_969f66a9 h2 g1 f21 h3 g2 f22)) (w1 := (wd_5013416a h0 v0 r0 v1 v2 v3 v4 r1 r2 r3 r4 r5 r6 r7 v5 v6 r8 r9 r10 r11 v7 r12 r13 v8 v9 h1 h2 v10 v11 r14 v12 v13 h3 v14 w15 r15 v16 v17 r16 r17 r18 r19 r20 r21 v18 r22 r23 r24 v19 h1 g0 f20)) hP hD [0, 1] [2, 3] rfl rfl (by decide) (by decide) hk1 hFc hP1 hD1
    clear hP hD hPc hDc hKc hFc hP1 hK1 hD1 hk1 hz1
    generalize H1 = H at hP2 hS ⊢
    have hP := hP2.sub (ws' := (wd_1ad11ebb h0 v0 r0 v1 v2 v3 v4 r1 r2 r3 r4 r5 r6 r7 v5 v6 r8 r9 r10 r11 v7 r12 r13 v8 v9 h1 h2 v10 v11 r14 v12 v13 h3 v14 w15 r15 v16 v17 r16 r17 r18 r19 r20 r21 v18 r22 r23 r24 v19 h1 g0 f20 h2 g1 f21 h3 g2 f22)) [2, 3, 0, 1] rfl
    have hD := hD2.sub (ws' := (wd_1ad11ebb h0 v0 r0 v1 v2 v3 v4 r1 r2 r3 r4 r5 r6 r7 v5 v6 r8 r9 r10 r11 v7 r12 r13 v8 v9 h1 h2 v10 v11 r14 v12 v13 h3 v14 w15 r15 v16 v17 r16 r17 r18 r19 r20 r21 v18 r22 r23 r24 v19 h1 g0 f20 h2 g1 f21 h3 g2 f22)) [2, 3, 0, 1] (by decide) rfl
    clear hP2 hD2
    refine lv_iconst (v := 1) hx hb dX12_hush_20 (by decide) ?_
    refine lv_icmp_ne (tgt := 28) hx hb dX12_hush_21 (by decide) (fun c4 => ?_) (fun c4 => ?_)
    · skip
      have fc4 : ¬ (ra3.toInt = 1) := fun h9 => c4 (Int32.toInt_inj.mp h9)
      refine lv_aload_n hx hb dX12_hush_28 rfl (lv_at hl 0 rfl) ?_
      refine va_get (D := (dC, dI)) (ci := 12) (v := .ref h1) (C := RX12) (T := TX12) (N := 48) hx hb hts (fun _ h => List.mem_cons_of_mem _ (List.mem_append_right _ h)) hown hK hP 0 rfl rfl 24 (by decide) (hts (.fieldLink RX12 52 "LeftArgumentsModel" "now" "[I") (List.mem_cons_of_mem _ (List.mem_append_left _ (List.mem_of_getElem? (i := 6) rfl)))) (fun _ h9 => h9) rfl dX12_hush_29 ?_
      refine lv_bipush (v := 64) hx hb dX12_hush_32 (by decide) ?_
      refine va_iald hx hb hK hP 1 0 rfl rfl (pv_c (x := 64) (n := 247) (by decide)) dX12_hush_34 ?_
      refine lv_topi (fun t5 et5 => ?_)
      have mmt5 : f20 (Int32.toNatClampNeg 64) = t5 := et5.symm
      refine lv_iconst (v := 1) hx hb dX12_hush_35 (by decide) ?_
      refine lv_icmp_ge (tgt := 43) hx hb dX12_hush_36 (by decide) (fun c6 => ?_) (fun c6 => ?_)
      · skip
        have fc6 : 1 ≤ t5.toInt := Int32.le_iff_toInt_le.mp c6
        refine lv_iconst (v := (-1)) hx hb dX12_hush_43 (by decide) ?_
        have hPc := hP.sub (ws' := (wd_171f232f h0 v0 r0 v1 v2 v3 v4 r1 r2 r3 r4 r5 r6 r7 v5 v6 r8 r9 r10 r11 v7 r12 r13 v8 v9 h1 h2 v10 v11 r14 v12 v13 h3 v14 w15 r15 v16 v17 r16 r17 r18 r19 r20 r21 v18 r22 r23 r24 v19)) [0] rfl
        have hDc := hD.sub (ws' := (wd_171f232f h0 v0 r0 v1 v2 v3 v4 r1 r2 r3 r4 r5 r6 r7 v5 v6 r8 r9 r10 r11 v7 r12 r13 v8 v9 h1 h2 v10 v11 r14 v12 v13 h3 v14 w15 r15 v16 v17 r16 r17 r18 r19 r20 r21 v18 r22 r23 r24 v19)) [0] (by decide) rfl
        have hKc := hK.sub (tys' := []) [] rfl
        have hFc := va_free (wc := (wd_171f232f h0 v0 r0 v1 v2 v3 v4 r1 r2 r3 r4 r5 r6 r7 v5 v6 r8 r9 r10 r11 v7 r12 r13 v8 v9 h1 h2 v10 v11 r14 v12 v13 h3 v14 w15 r15 v16 v17 r16 r17 r18 r19 r20 r21 v18 r22 r23 r24 v19)) hD hS hA [0] rfl
        refine va_calli (va_runV (As := [.int (-1)]) (rest := []) ⟨hx, hb, hml, hown, hts⟩ (k_X12_isRefused l dC dI h0 v0 r0 v1 v2 v3 v4 r1 r2 r3 r4 r5 r6 r7 v5 v6 r8 r9 r10 r11 v7 r12 r13 v8 v9 h1 h2 v10 v11 r14 v12 v13 h3 v14 w15 r15 v16 v17 r16 r17 r18 r19 r20 r21 v18 r22 r23 r24 v19 ⟨i_v1a, i_v1b⟩ ⟨i_v5a, i_v5b⟩ ⟨i_v6a, i_v6b⟩ ⟨i_v7a, i_v7b⟩ ⟨i_v8a, i_v8b⟩ ⟨i_v9a, i_v9b⟩ ⟨i_v10a, i_v10b⟩ ⟨i_v14a, i_v14b⟩ ⟨i_v18a, i_v18b⟩ ⟨i_v19a, i_v19b⟩ H.size) (cwV 1 hts g_X12_hush_2 rfl rfl rfl (by decide +kernel) ⟨Nat.le_of_ble_eq_true rfl, Nat.le_of_ble_eq_true rfl⟩) (pv_PV12 hPc hKc hDc (q0 := 0) rfl) rfl rfl hl.1 rfl (lv_room (Nat.le_of_ble_eq_true rfl)) dX12_hush_44 ⟨Nat.le_of_ble_eq_true rfl, Nat.le_of_ble_eq_true rfl⟩) hS (fun q _ h => hFc q h) hFc (fun ra7 u t H1 locs ht hvm hwra7 hB hz1 hk1 hS => ?_)
        try rw [hwra7] at hB
        obtain ⟨pt0_ra7, pt1_ra7, hP1, hK1, hD1⟩ := hB
        rw [ht] at hP1
        obtain ⟨hP2, hD2⟩ := va_join (wr := (wd_9ef0db97 h1 g0 f20 h2 g1 f21 h3 g2 f22)) (w1 := (wd_171f232f h0 v0 r0 v1 v2 v3 v4 r1 r2 r3 r4 r5 r6 r7 v5 v6 r8 r9 r10 r11 v7 r12 r13 v8 v9 h1 h2 v10 v11 r14 v12 v13 h3 v14 w15 r15 v16 v17 r16 r17 r18 r19 r20 r21 v18 r22 r23 r24 v19)) hP hD [0] [1, 2, 3] rfl rfl (by decide) (by decide) hk1 hFc hP1 hD1
        clear hP hD hPc hDc hKc hFc hP1 hK1 hD1 hk1 hz1
        generalize H1 = H at hP2 hS ⊢
        have hP := hP2.sub (ws' := (wd_1ad11ebb h0 v0 r0 v1 v2 v3 v4 r1 r2 r3 r4 r5 r6 r7 v5 v6 r8 r9 r10 r11 v7 r12 r13 v8 v9 h1 h2 v10 v11 r14 v12 v13 h3 v14 w15 r15 v16 v17 r16 r17 r18 r19 r20 r21 v18 r22 r23 r24 v19 h1 g0 f20 h2 g1 f21 h3 g2 f22)) [3, 0, 1, 2] rfl
        have hD := hD2.sub (ws' := (wd_1ad11ebb h0 v0 r0 v1 v2 v3 v4 r1 r2 r3 r4 r5 r6 r7 v5 v6 r8 r9 r10 r11 v7 r12 r13 v8 v9 h1 h2 v10 v11 r14 v12 v13 h3 v14 w15 r15 v16 v17 r16 r17 r18 r19 r20 r21 v18 r22 r23 r24 v19 h1 g0 f20 h2 g1 f21 h3 g2 f22)) [3, 0, 1, 2] (by decide) rfl
        clear hP2 hD2
        obtain rfl : ra7 = (0 : Int32) := pv_cs (by decide) pt0_ra7 pt1_ra7
        refine lv_if_eq (tgt := 52) hx hb dX12_hush_47 (by decide) (fun _ => ?_) (fun c => absurd (by decide) c)
        refine lv_aload_n hx hb dX12_hush_52 rfl (lv_at hl 0 rfl) ?_
        have hPc := hP.sub (ws' := (wd_baa7feb8 h0 v0 r0 v1 v2 v3 v4 r1 r2 r3 r4 r5 r6 r7 v5 v6 r8 r9 r10 r11 v7 r12 r13 v8 v9 h1 h2 v10 v11 r14 v12 v13 h3 v14 w15 r15 v16 v17 r16 r17 r18 r19 r20 r21 v18 r22 r23 r24 v19 h1 g0 f20 h3 g2 f22)) [0, 1, 3] rfl
        have hDc := hD.sub (ws' := (wd_baa7feb8 h0 v0 r0 v1 v2 v3 v4 r1 r2 r3 r4 r5 r6 r7 v5 v6 r8 r9 r10 r11 v7 r12 r13 v8 v9 h1 h2 v10 v11 r14 v12 v13 h3 v14 w15 r15 v16 v17 r16 r17 r18 r19 r20 r21 v18 r22 r23 r24 v19 h1 g0 f20 h3 g2 f22)) [0, 1, 3] (by decide) rfl
        have hKc := hK.sub (tys' := [(g0, .int), (g2, .int)]) [0, 2] rfl
        have hFc := va_free (wc := (wd_baa7feb8 h0 v0 r0 v1 v2 v3 v4 r1 r2 r3 r4 r5 r6 r7 v5 v6 r8 r9 r10 r11 v7 r12 r13 v8 v9 h1 h2 v10 v11 r14 v12 v13 h3 v14 w15 r15 v16 v17 r16 r17 r18 r19 r20 r21 v18 r22 r23 r24 v19 h1 g0 f20 h3 g2 f22)) hD hS hA [0, 1, 3] rfl
        refine va_callv (va_runV (As := []) (rest := []) ⟨hx, hb, hml, hown, hts⟩ (k_X12_keep l dC dI h0 h1 h3 v0 r0 v1 v2 v3 v4 r1 r2 r3 r4 r5 r6 r7 v5 v6 r8 r9 r10 r11 v7 r12 r13 v8 v9 h2 v10 v11 r14 v12 v13 v14 w15 r15 v16 v17 r16 r17 r18 r19 r20 r21 v18 r22 r23 r24 v19 g0 f20 g2 f22 ⟨i_v1a, i_v1b⟩ ⟨i_v5a, i_v5b⟩ ⟨i_v6a, i_v6b⟩ ⟨i_v7a, i_v7b⟩ ⟨i_v8a, i_v8b⟩ ⟨i_v9a, i_v9b⟩ ⟨i_v10a, i_v10b⟩ ⟨i_v14a, i_v14b⟩ ⟨i_v18a, i_v18b⟩ ⟨i_v19a, i_v19b⟩ ia_f20 ia_f22 H.size) (cwV 0 hts g_X12_hush_3 rfl rfl rfl (by decide +kernel) ⟨Nat.le_of_ble_eq_true rfl, Nat.le_of_ble_eq_true rfl⟩) (pv_PV12 hPc hKc hDc (q0 := 0) rfl) rfl rfl hl.1 rfl (lv_room (Nat.le_of_ble_eq_true rfl)) dX12_hush_53 ⟨Nat.le_of_ble_eq_true rfl, Nat.le_of_ble_eq_true rfl⟩) hS (fun q _ h => hFc q h) hFc (fun u t H1 locs ht hvm hwra8 hB hz1 hk1 hS => ?_)
        obtain ⟨x9, fn10, oa_x9, ob_x9, ia_fn10, hP1, hK1, hD1⟩ := hB
        rw [ht] at hP1
        obtain ⟨hP2, hD2⟩ := va_join (wr := (wd_cd0f205f h2 g1 f21)) (w1 := (wd_baa7feb8 h0 v0 r0 v1 v2 v3 v4 r1 r2 r3 r4 r5 r6 r7 v5 v6 r8 r9 r10 r11 v7 r12 r13 v8 v9 h1 h2 v10 v11 r14 v12 v13 h3 x9 w15 r15 v16 v17 r16 r17 r18 r19 r20 r21 v18 r22 r23 r24 v19 h1 g0 f20 h3 g2 fn10)) hP hD [0, 1, 3] [2] rfl rfl (by decide) (by decide) hk1 hFc hP1 hD1
        clear hP hD hPc hDc hKc hFc hP1 hK1 hD1 hk1 hz1
        generalize H1 = H at hP2 hS ⊢
        have hP := hP2.sub (ws' := (wd_1ad11ebb h0 v0 r0 v1 v2 v3 v4 r1 r2 r3 r4 r5 r6 r7 v5 v6 r8 r9 r10 r11 v7 r12 r13 v8 v9 h1 h2 v10 v11 r14 v12 v13 h3 x9 w15 r15 v16 v17 r16 r17 r18 r19 r20 r21 v18 r22 r23 r24 v19 h1 g0 f20 h2 g1 f21 h3 g2 fn10)) [1, 2, 0, 3] rfl
        have hD := hD2.sub (ws' := (wd_1ad11ebb h0 v0 r0 v1 v2 v3 v4 r1 r2 r3 r4 r5 r6 r7 v5 v6 r8 r9 r10 r11 v7 r12 r13 v8 v9 h1 h2 v10 v11 r14 v12 v13 h3 x9 w15 r15 v16 v17 r16 r17 r18 r19 r20 r21 v18 r22 r23 r24 v19 h1 g0 f20 h2 g1 f21 h3 g2 fn10)) [1, 2, 0, 3] (by decide) rfl
        clear hP2 hD2
        refine lv_aload_n hx hb dX12_hush_56 rfl (lv_at hl 0 rfl) ?_
        refine va_get (D := (dC, dI)) (ci := 12) (v := .ref h1) (C := RX12) (T := TX12) (N := 48) hx hb hts (fun _ h => List.mem_cons_of_mem _ (List.mem_append_right _ h)) hown hK hP 0 rfl rfl 24 (by decide) (hts (.fieldLink RX12 52 "LeftArgumentsModel" "now" "[I") (List.mem_cons_of_mem _ (List.mem_append_left _ (List.mem_of_getElem? (i := 6) rfl)))) (fun _ h9 => h9) rfl dX12_hush_57 ?_
        refine lv_bipush (v := 64) hx hb dX12_hush_60 (by decide) ?_
        refine lv_dup2_11 hx hb dX12_hush_62 rfl rfl ?_
        refine va_iald hx hb hK hP 1 0 rfl rfl (pv_c (x := 64) (n := 247) (by decide)) dX12_hush_63 ?_
        refine lv_topi (fun t11 et11 => ?_)
        have gmt11 : t11.toInt = t5.toInt := by rw [et11, mmt5]
        refine lv_iconst (v := 1) hx hb dX12_hush_64 (by decide) ?_
        refine lv_isub hx hb dX12_hush_65 ?_
        refine lv_topi (fun t12 et12 => ?_)
        have r5t12t11 := Int32.le_toInt t11; have r6t12t11 := Int32.toInt_lt t11
        have gt12 : t12.toInt = t11.toInt - 1 := pv_sub (a := t11.toInt) (b := 1) et12 rfl (by decide) (by omega) (by omega)
        refine va_iast hx hb hK hP hD hS 1 0 rfl rfl (pv_c (x := 64) (n := 247) (by decide)) dX12_hush_66 (fun H locs hP hD hS => ?_)
        obtain ⟨fn13, efn13⟩ : ∃ g : Nat → Int32, g = upd f20 (Int32.toNatClampNeg 64) t12 := ⟨_, rfl⟩
        rw [← efn13] at hP hD
        have ia_fn13 : pm_NW fn13 := by rw [efn13]; exact pm_NW.st ia_f20 (z := 64) (y := t12.toInt) (by decide) rfl (by omega) (fun b9 h8 h9 => ⟨fun _ => ⟨by omega, by omega⟩, fun _ => ⟨by omega, by omega⟩⟩) (fun _ => ⟨by omega, by omega⟩) (fun b9 h8 h9 => ⟨fun _ => by omega, fun _ => by omega⟩)
        have mmfn13_64 : fn13 (Int32.toNatClampNeg 64) = t12 := by rw [efn13]; exact pk_us
        have hP : va_P (dC, dI) vwCl (wd_1ad11ebb h0 v0 r0 v1 v2 v3 v4 r1 r2 r3 r4 r5 r6 r7 v5 v6 r8 r9 r10 r11 v7 r12 r13 v8 v9 h1 h2 v10 v11 r14 v12 v13 h3 x9 w15 r15 v16 v17 r16 r17 r18 r19 r20 r21 v18 r22 r23 r24 v19 h1 g0 fn13 h2 g1 f21 h3 g2 fn10) H := hP
        have hD : va_D A (wd_1ad11ebb h0 v0 r0 v1 v2 v3 v4 r1 r2 r3 r4 r5 r6 r7 v5 v6 r8 r9 r10 r11 v7 r12 r13 v8 v9 h1 h2 v10 v11 r14 v12 v13 h3 x9 w15 r15 v16 v17 r16 r17 r18 r19 r20 r21 v18 r22 r23 r24 v19 h1 g0 fn13 h2 g1 f21 h3 g2 fn10) := hD
        refine lv_aload_n hx hb dX12_hush_67 rfl (lv_at hl 0 rfl) ?_
        refine lv_iload_n hx hb dX12_hush_68 rfl (lv_at hl 1 rfl) ?_
        refine lv_bipush (v := 6) hx hb dX12_hush_69 (by decide) ?_
        refine lv_iconst (v := 1) hx hb dX12_hush_71 (by decide) ?_
        have hPc := hP.sub (ws' := (wd_5013416a h0 v0 r0 v1 v2 v3 v4 r1 r2 r3 r4 r5 r6 r7 v5 v6 r8 r9 r10 r11 v7 r12 r13 v8 v9 h1 h2 v10 v11 r14 v12 v13 h3 x9 w15 r15 v16 v17 r16 r17 r18 r19 r20 r21 v18 r22 r23 r24 v19 h1 g0 fn13)) [0, 1] rfl
        have hDc := hD.sub (ws' := (wd_5013416a h0 v0 r0 v1 v2 v3 v4 r1 r2 r3 r4 r5 r6 r7 v5 v6 r8 r9 r10 r11 v7 r12 r13 v8 v9 h1 h2 v10 v11 r14 v12 v13 h3 x9 w15 r15 v16 v17 r16 r17 r18 r19 r20 r21 v18 r22 r23 r24 v19 h1 g0 fn13)) [0, 1] (by decide) rfl
        have hKc := hK.sub (tys' := [(g0, .int)]) [0] rfl
        have hFc := va_free (wc := (wd_5013416a h0 v0 r0 v1 v2 v3 v4 r1 r2 r3 r4 r5 r6 r7 v5 v6 r8 r9 r10 r11 v7 r12 r13 v8 v9 h1 h2 v10 v11 r14 v12 v13 h3 x9 w15 r15 v16 v17 r16 r17 r18 r19 r20 r21 v18 r22 r23 r24 v19 h1 g0 fn13)) hD hS hA [0, 1] rfl
        refine va_callv (va_runV (As := [.int v23, .int 6, .int 1]) (rest := []) ⟨hx, hb, hml, hown, hts⟩ (k_X12_set_4 l dC dI h0 h1 v0 r0 v1 v2 v3 v4 r1 r2 r3 r4 r5 r6 r7 v5 v6 r8 r9 r10 r11 v7 r12 r13 v8 v9 h2 v10 v11 r14 v12 v13 h3 x9 w15 r15 v16 v17 r16 r17 r18 r19 r20 r21 v18 r22 r23 r24 v19 g0 fn13 v23 1 ⟨i_v1a, i_v1b⟩ ⟨i_v5a, i_v5b⟩ ⟨i_v6a, i_v6b⟩ ⟨i_v7a, i_v7b⟩ ⟨i_v8a, i_v8b⟩ ⟨i_v9a, i_v9b⟩ ⟨i_v10a, i_v10b⟩ ⟨by first | omega | decide, ob_x9⟩ ⟨i_v18a, i_v18b⟩ ⟨i_v19a, i_v19b⟩ ⟨by first | omega | decide, by first | omega | decide⟩ trivial H.size) (cwV 3 hts g_X12_hush_4 rfl rfl rfl (by decide +kernel) ⟨Nat.le_of_ble_eq_true rfl, Nat.le_of_ble_eq_true rfl⟩) (pv_PV12 hPc hKc hDc (q0 := 0) rfl) rfl rfl hl.1 rfl (lv_room (Nat.le_of_ble_eq_true rfl)) dX12_hush_72 ⟨Nat.le_of_ble_eq_true rfl, Nat.le_of_ble_eq_true rfl⟩) hS (fun q _ h => hFc q h) hFc (fun u t H1 locs ht hvm hwra14 hB hz1 hk1 hS => ?_)
        obtain ⟨hP1, hK1, hD1⟩ := hB
        rw [ht] at hP1
        obtain ⟨hP2, hD2⟩ := va_join (wr := (wd_969f66a9 h2 g1 f21 h3 g2 fn10)) (w1 := (wd_5013416a h0 v0 r0 v1 v2 v3 v4 r1 r2 r3 r4 r5 r6 r7 v5 v6 r8 r9 r10 r11 v7 r12 r13 v8 v9 h1 h2 v10 v11 r14 v12 v13 h3 x9 w15 r15 v16 v17 r16 r17 r18 r19 r20 r21 v18 r22 r23 r24 v19 h1 g0 (upd fn13 (pm_I v23 6) 1))) hP hD [0, 1] [2, 3] rfl rfl (by decide) (by decide) hk1 hFc hP1 hD1
        clear hP hD hPc hDc hKc hFc hP1 hK1 hD1 hk1 hz1
        generalize H1 = H at hP2 hS ⊢
        have hP := hP2.sub (ws' := (wd_1ad11ebb h0 v0 r0 v1 v2 v3 v4 r1 r2 r3 r4 r5 r6 r7 v5 v6 r8 r9 r10 r11 v7 r12 r13 v8 v9 h1 h2 v10 v11 r14 v12 v13 h3 x9 w15 r15 v16 v17 r16 r17 r18 r19 r20 r21 v18 r22 r23 r24 v19 h1 g0 (upd fn13 (pm_I v23 6) 1) h2 g1 f21 h3 g2 fn10)) [2, 3, 0, 1] rfl
        have hD := hD2.sub (ws' := (wd_1ad11ebb h0 v0 r0 v1 v2 v3 v4 r1 r2 r3 r4 r5 r6 r7 v5 v6 r8 r9 r10 r11 v7 r12 r13 v8 v9 h1 h2 v10 v11 r14 v12 v13 h3 x9 w15 r15 v16 v17 r16 r17 r18 r19 r20 r21 v18 r22 r23 r24 v19 h1 g0 (upd fn13 (pm_I v23 6) 1) h2 g1 f21 h3 g2 fn10)) [2, 3, 0, 1] (by decide) rfl
        clear hP2 hD2
        obtain ⟨t15, et15⟩ : ∃ y : Int32, y = 8 * v23 + 6 := ⟨_, rfl⟩
        have gt15 : t15.toInt = 8 * v23.toInt + 6 := pm_i8 et15 rfl (by decide) (by omega) (by omega) (by omega) (by omega)
        obtain ⟨fn17, efn17⟩ : ∃ g : Nat → Int32, g = upd fn13 (Int32.toNatClampNeg t15) 1 := ⟨_, rfl⟩
        have e9 : (upd fn13 (pm_I v23 6) 1) = fn17 := by rw [efn17, et15]; rfl
        rw [e9] at hP hD
        have ia_fn17 : pm_NW fn17 := by rw [efn17]; exact pm_NW.st ia_fn13 (z := t15.toInt) (y := 1) rfl (by decide) (by omega) (fun b9 h8 h9 => ⟨fun _ => ⟨by omega, by omega⟩, fun _ => ⟨by omega, by omega⟩⟩) (fun _ => ⟨by omega, by omega⟩) (fun b9 h8 h9 => ⟨fun _ => by omega, fun _ => by omega⟩)
        have mmfn17_64 : fn17 (Int32.toNatClampNeg 64) = t12 := by rw [efn17]; exact (pk_un (pm_ne (z := t15.toInt) (c := 64) rfl (by decide) (by omega) (by omega))).trans mmfn13_64
        have hP : va_P (dC, dI) vwCl (wd_1ad11ebb h0 v0 r0 v1 v2 v3 v4 r1 r2 r3 r4 r5 r6 r7 v5 v6 r8 r9 r10 r11 v7 r12 r13 v8 v9 h1 h2 v10 v11 r14 v12 v13 h3 x9 w15 r15 v16 v17 r16 r17 r18 r19 r20 r21 v18 r22 r23 r24 v19 h1 g0 fn17 h2 g1 f21 h3 g2 fn10) H := hP
        have hD : va_D A (wd_1ad11ebb h0 v0 r0 v1 v2 v3 v4 r1 r2 r3 r4 r5 r6 r7 v5 v6 r8 r9 r10 r11 v7 r12 r13 v8 v9 h1 h2 v10 v11 r14 v12 v13 h3 x9 w15 r15 v16 v17 r16 r17 r18 r19 r20 r21 v18 r22 r23 r24 v19 h1 g0 fn17 h2 g1 f21 h3 g2 fn10) := hD
        refine lv_aload_n hx hb dX12_hush_75 rfl (lv_at hl 0 rfl) ?_
        refine va_get (D := (dC, dI)) (ci := 12) (v := .ref h1) (C := RX12) (T := TX12) (N := 48) hx hb hts (fun _ h => List.mem_cons_of_mem _ (List.mem_append_right _ h)) hown hK hP 0 rfl rfl 24 (by decide) (hts (.fieldLink RX12 52 "LeftArgumentsModel" "now" "[I") (List.mem_cons_of_mem _ (List.mem_append_left _ (List.mem_of_getElem? (i := 6) rfl)))) (fun _ h9 => h9) rfl dX12_hush_76 ?_
        refine lv_bipush (v := 64) hx hb dX12_hush_79 (by decide) ?_
        refine va_iald hx hb hK hP 1 0 rfl rfl (pv_c (x := 64) (n := 247) (by decide)) dX12_hush_81 ?_
        refine lv_topi (fun t18 et18 => ?_)
        have gmt18 : t18.toInt = t12.toInt := by rw [et18, mmfn17_64]
        subst hQ
        have hP9 := hP.sub (ws' := (wd_1ad11ebb h0 v0 r0 v1 v2 v3 v4 r1 r2 r3 r4 r5 r6 r7 v5 v6 r8 r9 r10 r11 v7 r12 r13 v8 v9 h1 h2 v10 v11 r14 v12 v13 h3 x9 w15 r15 v16 v17 r16 r17 r18 r19 r20 r21 v18 r22 r23 r24 v19 h1 g0 fn17 h2 g1 f21 h3 g2 fn10)) [0, 1, 2, 3] rfl
        have hD9 := hD.sub (ws' := (wd_1ad11ebb h0 v0 r0 v1 v2 v3 v4 r1 r2 r3 r4 r5 r6 r7 v5 v6 r8 r9 r10 r11 v7 r12 r13 v8 v9 h1 h2 v10 v11 r14 v12 v13 h3 x9 w15 r15 v16 v17 r16 r17 r18 r19 r20 r21 v18 r22 r23 r24 v19 h1 g0 fn17 h2 g1 f21 h3 g2 fn10)) [0, 1, 2, 3] (by decide) rfl
        have hK9 := hK.sub (tys' := []) [] rfl
        exact W.iret (v := t18) hx hb hr (fun t ht hW => ⟨⟨t18, t18, rfl, rfl, ⟨x9, fn17, f21, fn10, by first | omega | decide, ob_x9, ia_fn17, ia_fn10, by first | omega | decide, by first | omega | decide, by rw [ht]; exact hP9, va_K.moved hW.alike hK9, hD9⟩⟩, hS.F ht⟩) hS.2.2 dX12_hush_82
      · skip
        have fc6 : ¬ (1 ≤ t5.toInt) := fun h9 => c6 (Int32.le_iff_toInt_le.mpr h9)
        refine lv_iconst (v := 3) hx hb dX12_hush_39 (by decide) ?_
        refine lv_goto (tgt := 44) hx hb dX12_hush_40 (by decide) ?_
        have hPc := hP.sub (ws' := (wd_5b5f7811 h0 v0 r0 v1 v2 v3 v4 r1 r2 r3 r4 r5 r6 r7 v5 v6 r8 r9 r10 r11 v7 r12 r13 v8 v9 h1 h2 v10 v11 r14 v12 v13 h3 v14 w15 r15 v16 v17 r16 r17 r18 r19 r20 r21 v18 r22 r23 r24 v19 h2 g1 f21)) [0, 2] rfl
        have hDc := hD.sub (ws' := (wd_5b5f7811 h0 v0 r0 v1 v2 v3 v4 r1 r2 r3 r4 r5 r6 r7 v5 v6 r8 r9 r10 r11 v7 r12 r13 v8 v9 h1 h2 v10 v11 r14 v12 v13 h3 v14 w15 r15 v16 v17 r16 r17 r18 r19 r20 r21 v18 r22 r23 r24 v19 h2 g1 f21)) [0, 2] (by decide) rfl
        have hKc := hK.sub (tys' := [(g1, .int)]) [1] rfl
        have hFc := va_free (wc := (wd_5b5f7811 h0 v0 r0 v1 v2 v3 v4 r1 r2 r3 r4 r5 r6 r7 v5 v6 r8 r9 r10 r11 v7 r12 r13 v8 v9 h1 h2 v10 v11 r14 v12 v13 h3 v14 w15 r15 v16 v17 r16 r17 r18 r19 r20 r21 v18 r22 r23 r24 v19 h2 g1 f21)) hD hS hA [0, 2] rfl
        refine va_calli (va_runV (As := [.int 3]) (rest := []) ⟨hx, hb, hml, hown, hts⟩ (k_X12_isRefused_2 l dC dI h0 h2 v0 r0 v1 v2 v3 v4 r1 r2 r3 r4 r5 r6 r7 v5 v6 r8 r9 r10 r11 v7 r12 r13 v8 v9 h1 v10 v11 r14 v12 v13 h3 v14 w15 r15 v16 v17 r16 r17 r18 r19 r20 r21 v18 r22 r23 r24 v19 g1 f21 ⟨i_v1a, i_v1b⟩ ⟨i_v5a, i_v5b⟩ ⟨i_v6a, i_v6b⟩ ⟨i_v7a, i_v7b⟩ ⟨i_v8a, i_v8b⟩ ⟨i_v9a, i_v9b⟩ ⟨i_v10a, i_v10b⟩ ⟨i_v14a, i_v14b⟩ ⟨i_v18a, i_v18b⟩ ⟨i_v19a, i_v19b⟩ H.size) (cwV 1 hts g_X12_hush_5 rfl rfl rfl (by decide +kernel) ⟨Nat.le_of_ble_eq_true rfl, Nat.le_of_ble_eq_true rfl⟩) (pv_PV12 hPc hKc hDc (q0 := 0) rfl) rfl rfl hl.1 rfl (lv_room (Nat.le_of_ble_eq_true rfl)) dX12_hush_44 ⟨Nat.le_of_ble_eq_true rfl, Nat.le_of_ble_eq_true rfl⟩) hS (fun q _ h => hFc q h) hFc (fun ra19 u t H1 locs ht hvm hwra19 hB hz1 hk1 hS => ?_)
        try rw [hwra19] at hB
        obtain ⟨fn20, pt0_ra19, pt1_ra19, hP1, hK1, hD1⟩ := hB
        rw [ht] at hP1
        obtain ⟨hP2, hD2⟩ := va_join (wr := (wd_dd47ee91 h1 g0 f20 h3 g2 f22)) (w1 := (wd_5b5f7811 h0 v0 r0 v1 v2 v3 v4 r1 r2 r3 r4 r5 r6 r7 v5 v6 r8 r9 r10 r11 v7 r12 r13 v8 v9 h1 h2 v10 v11 r14 v12 v13 h3 v14 w15 r15 v16 v17 r16 r17 r18 r19 r20 r21 v18 r22 r23 r24 v19 h2 g1 fn20)) hP hD [0, 2] [1, 3] rfl rfl (by decide) (by decide) hk1 hFc hP1 hD1
        clear hP hD hPc hDc hKc hFc hP1 hK1 hD1 hk1 hz1
        generalize H1 = H at hP2 hS ⊢
        have hP := hP2.sub (ws' := (wd_1ad11ebb h0 v0 r0 v1 v2 v3 v4 r1 r2 r3 r4 r5 r6 r7 v5 v6 r8 r9 r10 r11 v7 r12 r13 v8 v9 h1 h2 v10 v11 r14 v12 v13 h3 v14 w15 r15 v16 v17 r16 r17 r18 r19 r20 r21 v18 r22 r23 r24 v19 h1 g0 f20 h2 g1 fn20 h3 g2 f22)) [2, 0, 3, 1] rfl
        have hD := hD2.sub (ws' := (wd_1ad11ebb h0 v0 r0 v1 v2 v3 v4 r1 r2 r3 r4 r5 r6 r7 v5 v6 r8 r9 r10 r11 v7 r12 r13 v8 v9 h1 h2 v10 v11 r14 v12 v13 h3 v14 w15 r15 v16 v17 r16 r17 r18 r19 r20 r21 v18 r22 r23 r24 v19 h1 g0 f20 h2 g1 fn20 h3 g2 f22)) [2, 0, 3, 1] (by decide) rfl
        clear hP2 hD2
        obtain rfl : ra19 = (1 : Int32) := pv_cs (by decide) pt0_ra19 pt1_ra19
        refine lv_if_eq (tgt := 52) hx hb dX12_hush_47 (by decide) (fun c => absurd c (by decide)) (fun _ => ?_)
        refine lv_iconst (v := (-1)) hx hb dX12_hush_50 (by decide) ?_
        subst hQ
        have hP9 := hP.sub (ws' := (wd_1ad11ebb h0 v0 r0 v1 v2 v3 v4 r1 r2 r3 r4 r5 r6 r7 v5 v6 r8 r9 r10 r11 v7 r12 r13 v8 v9 h1 h2 v10 v11 r14 v12 v13 h3 v14 w15 r15 v16 v17 r16 r17 r18 r19 r20 r21 v18 r22 r23 r24 v19 h1 g0 f20 h2 g1 fn20 h3 g2 f22)) [0, 1, 2, 3] rfl
        have hD9 := hD.sub (ws' := (wd_1ad11ebb h0 v0 r0 v1 v2 v3 v4 r1 r2 r3 r4 r5 r6 r7 v5 v6 r8 r9 r10 r11 v7 r12 r13 v8 v9 h1 h2 v10 v11 r14 v12 v13 h3 v14 w15 r15 v16 v17 r16 r17 r18 r19 r20 r21 v18 r22 r23 r24 v19 h1 g0 f20 h2 g1 fn20 h3 g2 f22)) [0, 1, 2, 3] (by decide) rfl
        have hK9 := hK.sub (tys' := []) [] rfl
        exact W.iret (v := (-1)) hx hb hr (fun t ht hW => ⟨⟨(-1), (-1), rfl, rfl, ⟨v14, f20, fn20, f22, i_v14a, i_v14b, ia_f20, ia_f22, by first | omega | decide, by first | omega | decide, by rw [ht]; exact hP9, va_K.moved hW.alike hK9, hD9⟩⟩, hS.F ht⟩) hS.2.2 dX12_hush_51
    · skip
      have fc4 : ra3.toInt = 1 := congrArg Int32.toInt c4
      refine lv_iconst (v := 2) hx hb dX12_hush_24 (by decide) ?_
      refine lv_goto (tgt := 44) hx hb dX12_hush_25 (by decide) ?_
      have hPc := hP.sub (ws' := (wd_5b5f7811 h0 v0 r0 v1 v2 v3 v4 r1 r2 r3 r4 r5 r6 r7 v5 v6 r8 r9 r10 r11 v7 r12 r13 v8 v9 h1 h2 v10 v11 r14 v12 v13 h3 v14 w15 r15 v16 v17 r16 r17 r18 r19 r20 r21 v18 r22 r23 r24 v19 h2 g1 f21)) [0, 2] rfl
      have hDc := hD.sub (ws' := (wd_5b5f7811 h0 v0 r0 v1 v2 v3 v4 r1 r2 r3 r4 r5 r6 r7 v5 v6 r8 r9 r10 r11 v7 r12 r13 v8 v9 h1 h2 v10 v11 r14 v12 v13 h3 v14 w15 r15 v16 v17 r16 r17 r18 r19 r20 r21 v18 r22 r23 r24 v19 h2 g1 f21)) [0, 2] (by decide) rfl
      have hKc := hK.sub (tys' := [(g1, .int)]) [1] rfl
      have hFc := va_free (wc := (wd_5b5f7811 h0 v0 r0 v1 v2 v3 v4 r1 r2 r3 r4 r5 r6 r7 v5 v6 r8 r9 r10 r11 v7 r12 r13 v8 v9 h1 h2 v10 v11 r14 v12 v13 h3 v14 w15 r15 v16 v17 r16 r17 r18 r19 r20 r21 v18 r22 r23 r24 v19 h2 g1 f21)) hD hS hA [0, 2] rfl
      refine va_calli (va_runV (As := [.int 2]) (rest := []) ⟨hx, hb, hml, hown, hts⟩ (k_X12_isRefused_3 l dC dI h0 h2 v0 r0 v1 v2 v3 v4 r1 r2 r3 r4 r5 r6 r7 v5 v6 r8 r9 r10 r11 v7 r12 r13 v8 v9 h1 v10 v11 r14 v12 v13 h3 v14 w15 r15 v16 v17 r16 r17 r18 r19 r20 r21 v18 r22 r23 r24 v19 g1 f21 ⟨i_v1a, i_v1b⟩ ⟨i_v5a, i_v5b⟩ ⟨i_v6a, i_v6b⟩ ⟨i_v7a, i_v7b⟩ ⟨i_v8a, i_v8b⟩ ⟨i_v9a, i_v9b⟩ ⟨i_v10a, i_v10b⟩ ⟨i_v14a, i_v14b⟩ ⟨i_v18a, i_v18b⟩ ⟨i_v19a, i_v19b⟩ H.size) (cwV 1 hts g_X12_hush_6 rfl rfl rfl (by decide +kernel) ⟨Nat.le_of_ble_eq_true rfl, Nat.le_of_ble_eq_true rfl⟩) (pv_PV12 hPc hKc hDc (q0 := 0) rfl) rfl rfl hl.1 rfl (lv_room (Nat.le_of_ble_eq_true rfl)) dX12_hush_44 ⟨Nat.le_of_ble_eq_true rfl, Nat.le_of_ble_eq_true rfl⟩) hS (fun q _ h => hFc q h) hFc (fun ra21 u t H1 locs ht hvm hwra21 hB hz1 hk1 hS => ?_)
      try rw [hwra21] at hB
      obtain ⟨fn22, pt0_ra21, pt1_ra21, hP1, hK1, hD1⟩ := hB
      rw [ht] at hP1
      obtain ⟨hP2, hD2⟩ := va_join (wr := (wd_dd47ee91 h1 g0 f20 h3 g2 f22)) (w1 := (wd_5b5f7811 h0 v0 r0 v1 v2 v3 v4 r1 r2 r3 r4 r5 r6 r7 v5 v6 r8 r9 r10 r11 v7 r12 r13 v8 v9 h1 h2 v10 v11 r14 v12 v13 h3 v14 w15 r15 v16 v17 r16 r17 r18 r19 r20 r21 v18 r22 r23 r24 v19 h2 g1 fn22)) hP hD [0, 2] [1, 3] rfl rfl (by decide) (by decide) hk1 hFc hP1 hD1
      clear hP hD hPc hDc hKc hFc hP1 hK1 hD1 hk1 hz1
      generalize H1 = H at hP2 hS ⊢
      have hP := hP2.sub (ws' := (wd_1ad11ebb h0 v0 r0 v1 v2 v3 v4 r1 r2 r3 r4 r5 r6 r7 v5 v6 r8 r9 r10 r11 v7 r12 r13 v8 v9 h1 h2 v10 v11 r14 v12 v13 h3 v14 w15 r15 v16 v17 r16 r17 r18 r19 r20 r21 v18 r22 r23 r24 v19 h1 g0 f20 h2 g1 fn22 h3 g2 f22)) [2, 0, 3, 1] rfl
      have hD := hD2.sub (ws' := (wd_1ad11ebb h0 v0 r0 v1 v2 v3 v4 r1 r2 r3 r4 r5 r6 r7 v5 v6 r8 r9 r10 r11 v7 r12 r13 v8 v9 h1 h2 v10 v11 r14 v12 v13 h3 v14 w15 r15 v16 v17 r16 r17 r18 r19 r20 r21 v18 r22 r23 r24 v19 h1 g0 f20 h2 g1 fn22 h3 g2 f22)) [2, 0, 3, 1] (by decide) rfl
      clear hP2 hD2
      obtain rfl : ra21 = (1 : Int32) := pv_cs (by decide) pt0_ra21 pt1_ra21
      refine lv_if_eq (tgt := 52) hx hb dX12_hush_47 (by decide) (fun c => absurd c (by decide)) (fun _ => ?_)
      refine lv_iconst (v := (-1)) hx hb dX12_hush_50 (by decide) ?_
      subst hQ
      have hP9 := hP.sub (ws' := (wd_1ad11ebb h0 v0 r0 v1 v2 v3 v4 r1 r2 r3 r4 r5 r6 r7 v5 v6 r8 r9 r10 r11 v7 r12 r13 v8 v9 h1 h2 v10 v11 r14 v12 v13 h3 v14 w15 r15 v16 v17 r16 r17 r18 r19 r20 r21 v18 r22 r23 r24 v19 h1 g0 f20 h2 g1 fn22 h3 g2 f22)) [0, 1, 2, 3] rfl
      have hD9 := hD.sub (ws' := (wd_1ad11ebb h0 v0 r0 v1 v2 v3 v4 r1 r2 r3 r4 r5 r6 r7 v5 v6 r8 r9 r10 r11 v7 r12 r13 v8 v9 h1 h2 v10 v11 r14 v12 v13 h3 v14 w15 r15 v16 v17 r16 r17 r18 r19 r20 r21 v18 r22 r23 r24 v19 h1 g0 f20 h2 g1 fn22 h3 g2 f22)) [0, 1, 2, 3] (by decide) rfl
      have hK9 := hK.sub (tys' := []) [] rfl
      exact W.iret (v := (-1)) hx hb hr (fun t ht hW => ⟨⟨(-1), (-1), rfl, rfl, ⟨v14, f20, fn22, f22, i_v14a, i_v14b, ia_f20, ia_f22, by first | omega | decide, by first | omega | decide, by rw [ht]; exact hP9, va_K.moved hW.alike hK9, hD9⟩⟩, hS.F ht⟩) hS.2.2 dX12_hush_51
  · skip
    have fc2 : ra1.toInt = 0 := congrArg Int32.toInt c2
    refine lv_iconst (v := 0) hx hb dX12_hush_9 (by decide) ?_
    refine lv_goto (tgt := 44) hx hb dX12_hush_10 (by decide) ?_
    have hPc := hP.sub (ws' := (wd_5b5f7811 h0 v0 r0 v1 v2 v3 v4 r1 r2 r3 r4 r5 r6 r7 v5 v6 r8 r9 r10 r11 v7 r12 r13 v8 v9 h1 h2 v10 v11 r14 v12 v13 h3 v14 w15 r15 v16 v17 r16 r17 r18 r19 r20 r21 v18 r22 r23 r24 v19 h2 g1 f21)) [0, 2] rfl
    have hDc := hD.sub (ws' := (wd_5b5f7811 h0 v0 r0 v1 v2 v3 v4 r1 r2 r3 r4 r5 r6 r7 v5 v6 r8 r9 r10 r11 v7 r12 r13 v8 v9 h1 h2 v10 v11 r14 v12 v13 h3 v14 w15 r15 v16 v17 r16 r17 r18 r19 r20 r21 v18 r22 r23 r24 v19 h2 g1 f21)) [0, 2] (by decide) rfl
    have hKc := hK.sub (tys' := [(g1, .int)]) [1] rfl
    have hFc := va_free (wc := (wd_5b5f7811 h0 v0 r0 v1 v2 v3 v4 r1 r2 r3 r4 r5 r6 r7 v5 v6 r8 r9 r10 r11 v7 r12 r13 v8 v9 h1 h2 v10 v11 r14 v12 v13 h3 v14 w15 r15 v16 v17 r16 r17 r18 r19 r20 r21 v18 r22 r23 r24 v19 h2 g1 f21)) hD hS hA [0, 2] rfl
    refine va_calli (va_runV (As := [.int 0]) (rest := []) ⟨hx, hb, hml, hown, hts⟩ (k_X12_isRefused_1 l dC dI h0 h2 v0 r0 v1 v2 v3 v4 r1 r2 r3 r4 r5 r6 r7 v5 v6 r8 r9 r10 r11 v7 r12 r13 v8 v9 h1 v10 v11 r14 v12 v13 h3 v14 w15 r15 v16 v17 r16 r17 r18 r19 r20 r21 v18 r22 r23 r24 v19 g1 f21 ⟨i_v1a, i_v1b⟩ ⟨i_v5a, i_v5b⟩ ⟨i_v6a, i_v6b⟩ ⟨i_v7a, i_v7b⟩ ⟨i_v8a, i_v8b⟩ ⟨i_v9a, i_v9b⟩ ⟨i_v10a, i_v10b⟩ ⟨i_v14a, i_v14b⟩ ⟨i_v18a, i_v18b⟩ ⟨i_v19a, i_v19b⟩ H.size) (cwV 1 hts g_X12_hush_7 rfl rfl rfl (by decide +kernel) ⟨Nat.le_of_ble_eq_true rfl, Nat.le_of_ble_eq_true rfl⟩) (pv_PV12 hPc hKc hDc (q0 := 0) rfl) rfl rfl hl.1 rfl (lv_room (Nat.le_of_ble_eq_true rfl)) dX12_hush_44 ⟨Nat.le_of_ble_eq_true rfl, Nat.le_of_ble_eq_true rfl⟩) hS (fun q _ h => hFc q h) hFc (fun ra23 u t H1 locs ht hvm hwra23 hB hz1 hk1 hS => ?_)
    try rw [hwra23] at hB
    obtain ⟨fn24, pt0_ra23, pt1_ra23, hP1, hK1, hD1⟩ := hB
    rw [ht] at hP1
    obtain ⟨hP2, hD2⟩ := va_join (wr := (wd_dd47ee91 h1 g0 f20 h3 g2 f22)) (w1 := (wd_5b5f7811 h0 v0 r0 v1 v2 v3 v4 r1 r2 r3 r4 r5 r6 r7 v5 v6 r8 r9 r10 r11 v7 r12 r13 v8 v9 h1 h2 v10 v11 r14 v12 v13 h3 v14 w15 r15 v16 v17 r16 r17 r18 r19 r20 r21 v18 r22 r23 r24 v19 h2 g1 fn24)) hP hD [0, 2] [1, 3] rfl rfl (by decide) (by decide) hk1 hFc hP1 hD1
    clear hP hD hPc hDc hKc hFc hP1 hK1 hD1 hk1 hz1
    generalize H1 = H at hP2 hS ⊢
    have hP := hP2.sub (ws' := (wd_1ad11ebb h0 v0 r0 v1 v2 v3 v4 r1 r2 r3 r4 r5 r6 r7 v5 v6 r8 r9 r10 r11 v7 r12 r13 v8 v9 h1 h2 v10 v11 r14 v12 v13 h3 v14 w15 r15 v16 v17 r16 r17 r18 r19 r20 r21 v18 r22 r23 r24 v19 h1 g0 f20 h2 g1 fn24 h3 g2 f22)) [2, 0, 3, 1] rfl
    have hD := hD2.sub (ws' := (wd_1ad11ebb h0 v0 r0 v1 v2 v3 v4 r1 r2 r3 r4 r5 r6 r7 v5 v6 r8 r9 r10 r11 v7 r12 r13 v8 v9 h1 h2 v10 v11 r14 v12 v13 h3 v14 w15 r15 v16 v17 r16 r17 r18 r19 r20 r21 v18 r22 r23 r24 v19 h1 g0 f20 h2 g1 fn24 h3 g2 f22)) [2, 0, 3, 1] (by decide) rfl
    clear hP2 hD2
    obtain rfl : ra23 = (1 : Int32) := pv_cs (by decide) pt0_ra23 pt1_ra23
    refine lv_if_eq (tgt := 52) hx hb dX12_hush_47 (by decide) (fun c => absurd c (by decide)) (fun _ => ?_)
    refine lv_iconst (v := (-1)) hx hb dX12_hush_50 (by decide) ?_
    subst hQ
    have hP9 := hP.sub (ws' := (wd_1ad11ebb h0 v0 r0 v1 v2 v3 v4 r1 r2 r3 r4 r5 r6 r7 v5 v6 r8 r9 r10 r11 v7 r12 r13 v8 v9 h1 h2 v10 v11 r14 v12 v13 h3 v14 w15 r15 v16 v17 r16 r17 r18 r19 r20 r21 v18 r22 r23 r24 v19 h1 g0 f20 h2 g1 fn24 h3 g2 f22)) [0, 1, 2, 3] rfl
    have hD9 := hD.sub (ws' := (wd_1ad11ebb h0 v0 r0 v1 v2 v3 v4 r1 r2 r3 r4 r5 r6 r7 v5 v6 r8 r9 r10 r11 v7 r12 r13 v8 v9 h1 h2 v10 v11 r14 v12 v13 h3 v14 w15 r15 v16 v17 r16 r17 r18 r19 r20 r21 v18 r22 r23 r24 v19 h1 g0 f20 h2 g1 fn24 h3 g2 f22)) [0, 1, 2, 3] (by decide) rfl
    have hK9 := hK.sub (tys' := []) [] rfl
    exact W.iret (v := (-1)) hx hb hr (fun t ht hW => ⟨⟨(-1), (-1), rfl, rfl, ⟨v14, f20, fn24, f22, i_v14a, i_v14b, ia_f20, ia_f22, by first | omega | decide, by first | omega | decide, by rw [ht]; exact hP9, va_K.moved hW.alike hK9, hD9⟩⟩, hS.F ht⟩) hS.2.2 dX12_hush_51
def q_X12_sell : List Cond := .code yX12_sell cX12_sell 2 (some .int) :: (([.code yX12_isThere cX12_isThere 2 (some .boolean), .code yX12_in cX12_in 3 (some .boolean), .initialized RX12, .static yX12_in, .methodLink RX12 217 yX12_in, .code yX12_of cX12_of 3 (some .int), .fieldLink RX12 52 "LeftArgumentsModel" "now" "[I", .instanceMethod yX12_of, .selects RX12 yX12_of yX12_of, .methodLink RX12 287 yX12_of, .instanceMethod yX12_isThere, .selects RX12 yX12_isThere yX12_isThere, .methodLink RX12 290 yX12_isThere, .code yX12_isRefused cX12_isRefused 2 (some .boolean), .instanceMethod yX12_isRefused, .selects RX12 yX12_isRefused yX12_isRefused, .methodLink RX12 339 yX12_isRefused, .code yX12_keep cX12_keep 2 none, .fieldLink RX12 275 "LeftArgumentsModel" "acts" "I", .fieldLink RX12 68 "LeftArgumentsModel" "kept" "[I", .instanceMethod yX12_keep, .selects RX12 yX12_keep yX12_keep, .methodLink RX12 342 yX12_keep, .methodLink RX12 299 Lib.Math.min.name, .static Lib.Math.min.name, .initialized "java/lang/Math", .code Lib.Math.min.name Lib.Math.min.code 2 (some .int), .code yX12_set cX12_set 4 none, .instanceMethod yX12_set, .selects RX12 yX12_set yX12_set, .methodLink RX12 258 yX12_set, .fieldLink RX12 55 "LeftArgumentsModel" "refused" "[I"] : List Cond) ++ wsX120)
set_option maxRecDepth 20000 in
theorem g_X12_sell_0 : GoodIn q_X12_sell (wsV RX12 290 RX12 yX12_isThere q_X12_isThere) := goodIn_app (goodIn_r _ [13, 11, 12, 3] rfl (by decide +kernel)) (goodIn_ca (goodIn_r (.code yX12_isThere cX12_isThere 2 (some .boolean) :: [.code yX12_in cX12_in 3 (some .boolean), .initialized RX12, .static yX12_in, .methodLink RX12 217 yX12_in, .code yX12_of cX12_of 3 (some .int), .fieldLink RX12 52 "LeftArgumentsModel" "now" "[I", .instanceMethod yX12_of, .selects RX12 yX12_of yX12_of, .methodLink RX12 287 yX12_of]) [1, 2, 3, 4, 5, 6, 7, 8, 9, 10] rfl (by decide +kernel)) (goodIn_sub (fun _ h => List.mem_cons_of_mem _ (List.mem_append_right _ h)) gwX12))
set_option maxRecDepth 20000 in
theorem g_X12_sell_1 : GoodIn q_X12_sell (wsV RX12 287 RX12 yX12_of q_X12_of_5) := goodIn_app (goodIn_r _ [10, 8, 9, 3] rfl (by decide +kernel)) (goodIn_ca (goodIn_r (.code yX12_of cX12_of 3 (some .int) :: [.fieldLink RX12 52 "LeftArgumentsModel" "now" "[I"]) [6, 7] rfl (by decide +kernel)) (goodIn_sub (fun _ h => List.mem_cons_of_mem _ (List.mem_append_right _ h)) gwX12))
set_option maxRecDepth 20000 in
theorem g_X12_sell_2 : GoodIn q_X12_sell (wsV RX12 339 RX12 yX12_isRefused q_X12_isRefused) := goodIn_app (goodIn_r _ [17, 15, 16, 3] rfl (by decide +kernel)) (goodIn_r (.code yX12_isRefused cX12_isRefused 2 (some .boolean) :: []) [14] rfl (by decide +kernel))
set_option maxRecDepth 20000 in
theorem g_X12_sell_3 : GoodIn q_X12_sell (wsV RX12 342 RX12 yX12_keep q_X12_keep) := goodIn_app (goodIn_r _ [23, 21, 22, 3] rfl (by decide +kernel)) (goodIn_ca (goodIn_r (.code yX12_keep cX12_keep 2 none :: [.fieldLink RX12 275 "LeftArgumentsModel" "acts" "I", .fieldLink RX12 68 "LeftArgumentsModel" "kept" "[I", .fieldLink RX12 52 "LeftArgumentsModel" "now" "[I"]) [18, 19, 20, 7] rfl (by decide +kernel)) (goodIn_sub (fun _ h => List.mem_cons_of_mem _ (List.mem_append_right _ h)) gwX12))
set_option maxRecDepth 20000 in
theorem g_X12_sell_4 : GoodIn q_X12_sell (wsV RX12 287 RX12 yX12_of q_X12_of_3) := goodIn_app (goodIn_r _ [10, 8, 9, 3] rfl (by decide +kernel)) (goodIn_ca (goodIn_r (.code yX12_of cX12_of 3 (some .int) :: [.fieldLink RX12 52 "LeftArgumentsModel" "now" "[I"]) [6, 7] rfl (by decide +kernel)) (goodIn_sub (fun _ h => List.mem_cons_of_mem _ (List.mem_append_right _ h)) gwX12))
set_option maxRecDepth 20000 in
theorem g_X12_sell_5 : GoodIn q_X12_sell (wsV RX12 258 RX12 yX12_set q_X12_set) := goodIn_app (goodIn_r _ [31, 29, 30, 3] rfl (by decide +kernel)) (goodIn_ca (goodIn_r (.code yX12_set cX12_set 4 none :: [.fieldLink RX12 52 "LeftArgumentsModel" "now" "[I"]) [28, 7] rfl (by decide +kernel)) (goodIn_sub (fun _ h => List.mem_cons_of_mem _ (List.mem_append_right _ h)) gwX12))
set_option maxRecDepth 20000 in
theorem g_X12_sell_7 : GoodIn q_X12_sell (wsV RX12 339 RX12 yX12_isRefused q_X12_isRefused_3) := goodIn_app (goodIn_r _ [17, 15, 16, 3] rfl (by decide +kernel)) (goodIn_ca (goodIn_r (.code yX12_isRefused cX12_isRefused 2 (some .boolean) :: [.fieldLink RX12 55 "LeftArgumentsModel" "refused" "[I"]) [14, 32] rfl (by decide +kernel)) (goodIn_sub (fun _ h => List.mem_cons_of_mem _ (List.mem_append_right _ h)) gwX12))
set_option maxRecDepth 20000 in
theorem g_X12_sell_8 : GoodIn q_X12_sell (wsV RX12 339 RX12 yX12_isRefused q_X12_isRefused_1) := goodIn_app (goodIn_r _ [17, 15, 16, 3] rfl (by decide +kernel)) (goodIn_ca (goodIn_r (.code yX12_isRefused cX12_isRefused 2 (some .boolean) :: [.fieldLink RX12 55 "LeftArgumentsModel" "refused" "[I"]) [14, 32] rfl (by decide +kernel)) (goodIn_sub (fun _ h => List.mem_cons_of_mem _ (List.mem_append_right _ h)) gwX12))
set_option maxHeartbeats 4000000 in
set_option maxRecDepth 100000 in
theorem k_X12_sell (l : Launch) (dC : Nat → ClassId) (dI : Nat → Nat → Nat) (h0 : Nat) (h1 : Nat) (h2 : Nat) (h3 : Nat) (v0 : Int32) (r0 : Nat) (v1 : Int32) (v2 : Int32) (v3 : Int32) (v4 : Int32) (r1 : Nat) (r2 : Nat) (r3 : Nat) (r4 : Nat) (r5 : Nat) (r6 : Nat) (r7 : Nat) (v5 : Int32) (v6 : Int32) (r8 : Nat) (r9 : Nat) (r10 : Nat) (r11 : Nat) (v7 : Int32) (r12 : Nat) (r13 : Nat) (v8 : Int32) (v9 : Int32) (v10 : Int32) (v11 : Int32) (r14 : Nat) (v12 : Int32) (v13 : Int32) (v14 : Int32) (w15 : Int64) (r15 : Nat) (v16 : Int32) (v17 : Int32) (r16 : Nat) (r17 : Nat) (r18 : Nat) (r19 : Nat) (r20 : Nat) (r21 : Nat) (v18 : Int32) (r22 : Nat) (r23 : Nat) (r24 : Nat) (v19 : Int32) (g0 : ClassId) (f20 : Nat → Int32) (g1 : ClassId) (f21 : Nat → Int32) (g2 : ClassId) (f22 : Nat → Int32) (v23 : Int32) (i_v1 : 0 ≤ v1.toInt ∧ v1.toInt ≤ 240) (i_v5 : 0 ≤ v5.toInt ∧ v5.toInt ≤ 4) (i_v6 : 0 ≤ v6.toInt ∧ v6.toInt ≤ 4) (i_v7 : 0 ≤ v7.toInt ∧ v7.toInt ≤ 8) (i_v8 : 0 ≤ v8.toInt ∧ v8.toInt ≤ 8) (i_v9 : 0 ≤ v9.toInt ∧ v9.toInt ≤ 1) (i_v10 : -1 ≤ v10.toInt ∧ v10.toInt ≤ 3) (i_v14 : 0 ≤ v14.toInt ∧ v14.toInt ≤ 40) (i_v18 : 0 ≤ v18.toInt ∧ v18.toInt ≤ 10) (i_v19 : 0 ≤ v19.toInt ∧ v19.toInt ≤ 1) (ia_f20 : (pm_NW f20)) (ia_f22 : (pm_KP f22)) (sz : Nat) : Met l yX12_sell q_X12_sell ({ frames := 2, cells := 0, slots := 0, locals := 43 }) (va_Pc [.ref h0, .int v23] (fun U => U.heap.size = sz ∧ va_P (dC, dI) vwCl (wd_1ad11ebb h0 v0 r0 v1 v2 v3 v4 r1 r2 r3 r4 r5 r6 r7 v5 v6 r8 r9 r10 r11 v7 r12 r13 v8 v9 h1 h2 v10 v11 r14 v12 v13 h3 v14 w15 r15 v16 v17 r16 r17 r18 r19 r20 r21 v18 r22 r23 r24 v19 h1 g0 f20 h2 g1 f21 h3 g2 f22) U.heap ∧ va_K (dC, dI) vwCl [(g0, .int), (g1, .int), (g2, .int)] U ∧ va_D (fun _ => True) (wd_1ad11ebb h0 v0 r0 v1 v2 v3 v4 r1 r2 r3 r4 r5 r6 r7 v5 v6 r8 r9 r10 r11 v7 r12 r13 v8 v9 h1 h2 v10 v11 r14 v12 v13 h3 v14 w15 r15 v16 v17 r16 r17 r18 r19 r20 r21 v18 r22 r23 r24 v19 h1 g0 f20 h2 g1 f21 h3 g2 f22))) (va_Qi (fun (r : Int32) (r9 : Int32) => r9 = r) (fun (r : Int32) (t : State) => (∃ (o_h0_32 : Int32) (o_h1 : Nat → Int32) (o_h2 : Nat → Int32) (o_h3 : Nat → Int32), 0 ≤ o_h0_32.toInt ∧ o_h0_32.toInt ≤ 40 ∧ (pm_NW o_h1) ∧ (pm_KP o_h3) ∧ (-1 ≤ r.toInt) ∧ (r.toInt ≤ 99) ∧ va_P (dC, dI) vwCl (wd_1ad11ebb h0 v0 r0 v1 v2 v3 v4 r1 r2 r3 r4 r5 r6 r7 v5 v6 r8 r9 r10 r11 v7 r12 r13 v8 v9 h1 h2 v10 v11 r14 v12 v13 h3 o_h0_32 w15 r15 v16 v17 r16 r17 r18 r19 r20 r21 v18 r22 r23 r24 v19 h1 g0 o_h1 h2 g1 o_h2 h3 g2 o_h3) t.heap ∧ va_K (dC, dI) vwCl [] t ∧ va_D (va_A (wd_1ad11ebb h0 v0 r0 v1 v2 v3 v4 r1 r2 r3 r4 r5 r6 r7 v5 v6 r8 r9 r10 r11 v7 r12 r13 v8 v9 h1 h2 v10 v11 r14 v12 v13 h3 v14 w15 r15 v16 v17 r16 r17 r18 r19 r20 r21 v18 r22 r23 r24 v19 h1 g0 f20 h2 g1 f21 h3 g2 f22) sz) (wd_1ad11ebb h0 v0 r0 v1 v2 v3 v4 r1 r2 r3 r4 r5 r6 r7 v5 v6 r8 r9 r10 r11 v7 r12 r13 v8 v9 h1 h2 v10 v11 r14 v12 v13 h3 o_h0_32 w15 r15 v16 v17 r16 r17 r18 r19 r20 r21 v18 r22 r23 r24 v19 h1 g0 o_h1 h2 g1 o_h2 h3 g2 o_h3))) (va_A (wd_1ad11ebb h0 v0 r0 v1 v2 v3 v4 r1 r2 r3 r4 r5 r6 r7 v5 v6 r8 r9 r10 r11 v7 r12 r13 v8 v9 h1 h2 v10 v11 r14 v12 v13 h3 v14 w15 r15 v16 v17 r16 r17 r18 r19 r20 r21 v18 r22 r23 r24 v19 h1 g0 f20 h2 g1 f21 h3 g2 f22) sz)) 0 0 (va_A (wd_1ad11ebb h0 v0 r0 v1 v2 v3 v4 r1 r2 r3 r4 r5 r6 r7 v5 v6 r8 r9 r10 r11 v7 r12 r13 v8 v9 h1 h2 v10 v11 r14 v12 v13 h3 v14 w15 r15 v16 v17 r16 r17 r18 r19 r20 r21 v18 r22 r23 r24 v19 h1 g0 f20 h2 g1 f21 h3 g2 f22) sz) := by
  refine Met.ofW (cc := cX12_sell) (maxL := 2) (ret := (some .int)) (by decide) rfl ?_
  intro p e s m args below meth c s₁ B hml hv
  obtain ⟨i_v1a, i_v1b⟩ := i_v1
  obtain ⟨i_v5a, i_v5b⟩ := i_v5
  obtain ⟨i_v6a, i_v6b⟩ := i_v6
  obtain ⟨i_v7a, i_v7b⟩ := i_v7
  obtain ⟨i_v8a, i_v8b⟩ := i_v8
  obtain ⟨i_v9a, i_v9b⟩ := i_v9
  obtain ⟨i_v10a, i_v10b⟩ := i_v10
  obtain ⟨i_v14a, i_v14b⟩ := i_v14
  obtain ⟨i_v18a, i_v18b⟩ := i_v18
  obtain ⟨i_v19a, i_v19b⟩ := i_v19
  obtain ⟨rfl, hsz, hP, hK, hD0⟩ := hv
  have hx := B.exec
  have hb := B.bytes
  have hr := B.returns
  have hts := atoms_spec (ws := q_X12_sell) B.pre
  have hown : s.vm.findClass RX12 = some m.cls := findClass_of_methodNamed B.named
  have hlocks := B.notSynchronized
  subst hsz
  have hD := hD0.self (sz := s.heap.size)
  generalize hAe : va_A (wd_1ad11ebb h0 v0 r0 v1 v2 v3 v4 r1 r2 r3 r4 r5 r6 r7 v5 v6 r8 r9 r10 r11 v7 r12 r13 v8 v9 h1 h2 v10 v11 r14 v12 v13 h3 v14 w15 r15 v16 v17 r16 r17 r18 r19 r20 r21 v18 r22 r23 r24 v19 h1 g0 f20 h2 g1 f21 h3 g2 f22) s.heap.size = A at hD ⊢
  have hA : ∀ q : Nat, s.heap.size ≤ q → A q := fun q h => by rw [← hAe]; exact Or.inr h
  have hS : va_S A s.heap s.heap [] := va_S.rf
  generalize hQ : (MQ below _ _ s 0 0 A) = Q
  have hl := lv_entry ([.ref h0, .int v23]) (n := 2) (Nat.le_of_ble_eq_true rfl)
  rw [lg_entry_eq]
  generalize (lg_sl ([.ref h0, .int v23]) ++ List.replicate (2 - (lg_sl ([.ref h0, .int v23])).length) Slot.unset).toArray = ls at hl ⊢
  have hl : lv_has ls 2 [(0, .ref h0), (1, .int v23)] := hl
  obtain ⟨H, hH⟩ : ∃ H : Heap, H = s.heap := ⟨_, rfl⟩
  obtain ⟨locs, hlocs⟩ : ∃ y : List Loc, y = [] := ⟨_, rfl⟩
  have hS : va_S A s.heap H locs := by rw [hH, hlocs]; exact va_S.rf
  have hP : va_P (dC, dI) vwCl (wd_1ad11ebb h0 v0 r0 v1 v2 v3 v4 r1 r2 r3 r4 r5 r6 r7 v5 v6 r8 r9 r10 r11 v7 r12 r13 v8 v9 h1 h2 v10 v11 r14 v12 v13 h3 v14 w15 r15 v16 v17 r16 r17 r18 r19 r20 r21 v18 r22 r23 r24 v19 h1 g0 f20 h2 g1 f21 h3 g2 f22) H := by rw [hH]; exact hP
  rw [← hH, ← hlocs]
  refine lv_aload_n hx hb dX12_sell_0 rfl (lv_at hl 0 rfl) ?_
  refine lv_aload_n hx hb dX12_sell_1 rfl (lv_at hl 0 rfl) ?_
  refine lv_iload_n hx hb dX12_sell_2 rfl (lv_at hl 1 rfl) ?_
  have hPc := hP.sub (ws' := (wd_5013416a h0 v0 r0 v1 v2 v3 v4 r1 r2 r3 r4 r5 r6 r7 v5 v6 r8 r9 r10 r11 v7 r12 r13 v8 v9 h1 h2 v10 v11 r14 v12 v13 h3 v14 w15 r15 v16 v17 r16 r17 r18 r19 r20 r21 v18 r22 r23 r24 v19 h1 g0 f20)) [0, 1] rfl
  have hDc := hD.sub (ws' := (wd_5013416a h0 v0 r0 v1 v2 v3 v4 r1 r2 r3 r4 r5 r6 r7 v5 v6 r8 r9 r10 r11 v7 r12 r13 v8 v9 h1 h2 v10 v11 r14 v12 v13 h3 v14 w15 r15 v16 v17 r16 r17 r18 r19 r20 r21 v18 r22 r23 r24 v19 h1 g0 f20)) [0, 1] (by decide) rfl
  have hKc := hK.sub (tys' := [(g0, .int)]) [0] rfl
  have hFc := va_free (wc := (wd_5013416a h0 v0 r0 v1 v2 v3 v4 r1 r2 r3 r4 r5 r6 r7 v5 v6 r8 r9 r10 r11 v7 r12 r13 v8 v9 h1 h2 v10 v11 r14 v12 v13 h3 v14 w15 r15 v16 v17 r16 r17 r18 r19 r20 r21 v18 r22 r23 r24 v19 h1 g0 f20)) hD hS hA [0, 1] rfl
  refine va_calli (va_runV (As := [.int v23]) (rest := [.ref h0]) ⟨hx, hb, hml, hown, hts⟩ (k_X12_isThere l dC dI h0 h1 v0 r0 v1 v2 v3 v4 r1 r2 r3 r4 r5 r6 r7 v5 v6 r8 r9 r10 r11 v7 r12 r13 v8 v9 h2 v10 v11 r14 v12 v13 h3 v14 w15 r15 v16 v17 r16 r17 r18 r19 r20 r21 v18 r22 r23 r24 v19 g0 f20 v23 ⟨i_v1a, i_v1b⟩ ⟨i_v5a, i_v5b⟩ ⟨i_v6a, i_v6b⟩ ⟨i_v7a, i_v7b⟩ ⟨i_v8a, i_v8b⟩ ⟨i_v9a, i_v9b⟩ ⟨i_v10a, i_v10b⟩ ⟨i_v14a, i_v14b⟩ ⟨i_v18a, i_v18b⟩ ⟨i_v19a, i_v19b⟩ ia_f20.1 H.size) (cwV 1 hts g_X12_sell_0 rfl rfl rfl (by decide +kernel) ⟨Nat.le_of_ble_eq_true rfl, Nat.le_of_ble_eq_true rfl⟩) (pv_PV12 hPc hKc hDc (q0 := 0) rfl) rfl rfl hl.1 rfl (lv_room (Nat.le_of_ble_eq_true rfl)) dX12_sell_3 ⟨Nat.le_of_ble_eq_true rfl, Nat.le_of_ble_eq_true rfl⟩) hS (fun q _ h => hFc q h) hFc (fun ra1 u t H1 locs ht hvm hwra1 hB hz1 hk1 hS => ?_)
  try rw [hwra1] at hB
  obtain ⟨pt0_ra1, pt1_ra1, pt2_ra1, pt3_ra1, pt4_ra1, pt5_ra1, hP1, hK1, hD1⟩ := hB
  rw [ht] at hP1
  obtain ⟨hP2, hD2⟩ := va_join (wr := (wd_969f66a9 h2 g1 f21 h3 g2 f22)) (w1 := (wd_5013416a h0 v0 r0 v1 v2 v3 v4 r1 r2 r3 r4 r5 r6 r7 v5 v6 r8 r9 r10 r11 v7 r12 r13 v8 v9 h1 h2 v10 v11 r14 v12 v13 h3 v14 w15 r15 v16 v17 r16 r17 r18 r19 r20 r21 v18 r22 r23 r24 v19 h1 g0 f20)) hP hD [0, 1] [2, 3] rfl rfl (by decide) (by decide) hk1 hFc hP1 hD1
  clear hP hD hPc hDc hKc hFc hP1 hK1 hD1 hk1 hz1
  generalize H1 = H at hP2 hS ⊢
  have hP := hP2.sub (ws' := (wd_1ad11ebb h0 v0 r0 v1 v2 v3 v4 r1 r2 r3 r4 r5 r6 r7 v5 v6 r8 r9 r10 r11 v7 r12 r13 v8 v9 h1 h2 v10 v11 r14 v12 v13 h3 v14 w15 r15 v16 v17 r16 r17 r18 r19 r20 r21 v18 r22 r23 r24 v19 h1 g0 f20 h2 g1 f21 h3 g2 f22)) [2, 3, 0, 1] rfl
  have hD := hD2.sub (ws' := (wd_1ad11ebb h0 v0 r0 v1 v2 v3 v4 r1 r2 r3 r4 r5 r6 r7 v5 v6 r8 r9 r10 r11 v7 r12 r13 v8 v9 h1 h2 v10 v11 r14 v12 v13 h3 v14 w15 r15 v16 v17 r16 r17 r18 r19 r20 r21 v18 r22 r23 r24 v19 h1 g0 f20 h2 g1 f21 h3 g2 f22)) [2, 3, 0, 1] (by decide) rfl
  clear hP2 hD2
  refine lv_if_ne (tgt := 13) hx hb dX12_sell_6 (by decide) (fun c2 => ?_) (fun c2 => ?_)
  · skip
    have fc2 : ¬ (ra1.toInt = 0) := fun h9 => c2 (Int32.toInt_inj.mp h9)
    have q1pt4_ra1 := pt4_ra1 (by omega)
    refine lv_aload_n hx hb dX12_sell_13 rfl (lv_at hl 0 rfl) ?_
    refine lv_iload_n hx hb dX12_sell_14 rfl (lv_at hl 1 rfl) ?_
    refine lv_iconst (v := 5) hx hb dX12_sell_15 (by decide) ?_
    have hPc := hP.sub (ws' := (wd_5013416a h0 v0 r0 v1 v2 v3 v4 r1 r2 r3 r4 r5 r6 r7 v5 v6 r8 r9 r10 r11 v7 r12 r13 v8 v9 h1 h2 v10 v11 r14 v12 v13 h3 v14 w15 r15 v16 v17 r16 r17 r18 r19 r20 r21 v18 r22 r23 r24 v19 h1 g0 f20)) [0, 1] rfl
    have hDc := hD.sub (ws' := (wd_5013416a h0 v0 r0 v1 v2 v3 v4 r1 r2 r3 r4 r5 r6 r7 v5 v6 r8 r9 r10 r11 v7 r12 r13 v8 v9 h1 h2 v10 v11 r14 v12 v13 h3 v14 w15 r15 v16 v17 r16 r17 r18 r19 r20 r21 v18 r22 r23 r24 v19 h1 g0 f20)) [0, 1] (by decide) rfl
    have hKc := hK.sub (tys' := [(g0, .int)]) [0] rfl
    have hFc := va_free (wc := (wd_5013416a h0 v0 r0 v1 v2 v3 v4 r1 r2 r3 r4 r5 r6 r7 v5 v6 r8 r9 r10 r11 v7 r12 r13 v8 v9 h1 h2 v10 v11 r14 v12 v13 h3 v14 w15 r15 v16 v17 r16 r17 r18 r19 r20 r21 v18 r22 r23 r24 v19 h1 g0 f20)) hD hS hA [0, 1] rfl
    refine va_calli (va_runV (As := [.int v23, .int 5]) (rest := [.ref h0]) ⟨hx, hb, hml, hown, hts⟩ (k_X12_of_5 l dC dI h0 h1 v0 r0 v1 v2 v3 v4 r1 r2 r3 r4 r5 r6 r7 v5 v6 r8 r9 r10 r11 v7 r12 r13 v8 v9 h2 v10 v11 r14 v12 v13 h3 v14 w15 r15 v16 v17 r16 r17 r18 r19 r20 r21 v18 r22 r23 r24 v19 g0 f20 v23 ⟨i_v1a, i_v1b⟩ ⟨i_v5a, i_v5b⟩ ⟨i_v6a, i_v6b⟩ ⟨i_v7a, i_v7b⟩ ⟨i_v8a, i_v8b⟩ ⟨i_v9a, i_v9b⟩ ⟨i_v10a, i_v10b⟩ ⟨i_v14a, i_v14b⟩ ⟨i_v18a, i_v18b⟩ ⟨i_v19a, i_v19b⟩ ⟨by first | omega | decide, by first | omega | decide⟩ ia_f20.1 H.size) (cwV 2 hts g_X12_sell_1 rfl rfl rfl (by decide +kernel) ⟨Nat.le_of_ble_eq_true rfl, Nat.le_of_ble_eq_true rfl⟩) (pv_PV12 hPc hKc hDc (q0 := 0) rfl) rfl rfl hl.1 rfl (lv_room (Nat.le_of_ble_eq_true rfl)) dX12_sell_16 ⟨Nat.le_of_ble_eq_true rfl, Nat.le_of_ble_eq_true rfl⟩) hS (fun q _ h => hFc q h) hFc (fun ra3 u t H1 locs ht hvm hwra3 hB hz1 hk1 hS => ?_)
    try rw [hwra3] at hB
    obtain ⟨pt0_ra3, hP1, hK1, hD1⟩ := hB
    rw [ht] at hP1
    obtain ⟨hP2, hD2⟩ := va_join (wr := (wd_969f66a9 h2 g1 f21 h3 g2 f22)) (w1 := (wd_5013416a h0 v0 r0 v1 v2 v3 v4 r1 r2 r3 r4 r5 r6 r7 v5 v6 r8 r9 r10 r11 v7 r12 r13 v8 v9 h1 h2 v10 v11 r14 v12 v13 h3 v14 w15 r15 v16 v17 r16 r17 r18 r19 r20 r21 v18 r22 r23 r24 v19 h1 g0 f20)) hP hD [0, 1] [2, 3] rfl rfl (by decide) (by decide) hk1 hFc hP1 hD1
    clear hP hD hPc hDc hKc hFc hP1 hK1 hD1 hk1 hz1
    generalize H1 = H at hP2 hS ⊢
    have hP := hP2.sub (ws' := (wd_1ad11ebb h0 v0 r0 v1 v2 v3 v4 r1 r2 r3 r4 r5 r6 r7 v5 v6 r8 r9 r10 r11 v7 r12 r13 v8 v9 h1 h2 v10 v11 r14 v12 v13 h3 v14 w15 r15 v16 v17 r16 r17 r18 r19 r20 r21 v18 r22 r23 r24 v19 h1 g0 f20 h2 g1 f21 h3 g2 f22)) [2, 3, 0, 1] rfl
    have hD := hD2.sub (ws' := (wd_1ad11ebb h0 v0 r0 v1 v2 v3 v4 r1 r2 r3 r4 r5 r6 r7 v5 v6 r8 r9 r10 r11 v7 r12 r13 v8 v9 h1 h2 v10 v11 r14 v12 v13 h3 v14 w15 r15 v16 v17 r16 r17 r18 r19 r20 r21 v18 r22 r23 r24 v19 h1 g0 f20 h2 g1 f21 h3 g2 f22)) [2, 3, 0, 1] (by decide) rfl
    clear hP2 hD2
    refine lv_bipush (v := 7) hx hb dX12_sell_19 (by decide) ?_
    refine lv_icmp_ge (tgt := 28) hx hb dX12_sell_21 (by decide) (fun c4 => ?_) (fun c4 => ?_)
    · skip
      have fc4 : 7 ≤ ra3.toInt := Int32.le_iff_toInt_le.mp c4
      refine lv_iconst (v := (-1)) hx hb dX12_sell_28 (by decide) ?_
      have hPc := hP.sub (ws' := (wd_171f232f h0 v0 r0 v1 v2 v3 v4 r1 r2 r3 r4 r5 r6 r7 v5 v6 r8 r9 r10 r11 v7 r12 r13 v8 v9 h1 h2 v10 v11 r14 v12 v13 h3 v14 w15 r15 v16 v17 r16 r17 r18 r19 r20 r21 v18 r22 r23 r24 v19)) [0] rfl
      have hDc := hD.sub (ws' := (wd_171f232f h0 v0 r0 v1 v2 v3 v4 r1 r2 r3 r4 r5 r6 r7 v5 v6 r8 r9 r10 r11 v7 r12 r13 v8 v9 h1 h2 v10 v11 r14 v12 v13 h3 v14 w15 r15 v16 v17 r16 r17 r18 r19 r20 r21 v18 r22 r23 r24 v19)) [0] (by decide) rfl
      have hKc := hK.sub (tys' := []) [] rfl
      have hFc := va_free (wc := (wd_171f232f h0 v0 r0 v1 v2 v3 v4 r1 r2 r3 r4 r5 r6 r7 v5 v6 r8 r9 r10 r11 v7 r12 r13 v8 v9 h1 h2 v10 v11 r14 v12 v13 h3 v14 w15 r15 v16 v17 r16 r17 r18 r19 r20 r21 v18 r22 r23 r24 v19)) hD hS hA [0] rfl
      refine va_calli (va_runV (As := [.int (-1)]) (rest := []) ⟨hx, hb, hml, hown, hts⟩ (k_X12_isRefused l dC dI h0 v0 r0 v1 v2 v3 v4 r1 r2 r3 r4 r5 r6 r7 v5 v6 r8 r9 r10 r11 v7 r12 r13 v8 v9 h1 h2 v10 v11 r14 v12 v13 h3 v14 w15 r15 v16 v17 r16 r17 r18 r19 r20 r21 v18 r22 r23 r24 v19 ⟨i_v1a, i_v1b⟩ ⟨i_v5a, i_v5b⟩ ⟨i_v6a, i_v6b⟩ ⟨i_v7a, i_v7b⟩ ⟨i_v8a, i_v8b⟩ ⟨i_v9a, i_v9b⟩ ⟨i_v10a, i_v10b⟩ ⟨i_v14a, i_v14b⟩ ⟨i_v18a, i_v18b⟩ ⟨i_v19a, i_v19b⟩ H.size) (cwV 1 hts g_X12_sell_2 rfl rfl rfl (by decide +kernel) ⟨Nat.le_of_ble_eq_true rfl, Nat.le_of_ble_eq_true rfl⟩) (pv_PV12 hPc hKc hDc (q0 := 0) rfl) rfl rfl hl.1 rfl (lv_room (Nat.le_of_ble_eq_true rfl)) dX12_sell_29 ⟨Nat.le_of_ble_eq_true rfl, Nat.le_of_ble_eq_true rfl⟩) hS (fun q _ h => hFc q h) hFc (fun ra5 u t H1 locs ht hvm hwra5 hB hz1 hk1 hS => ?_)
      try rw [hwra5] at hB
      obtain ⟨pt0_ra5, pt1_ra5, hP1, hK1, hD1⟩ := hB
      rw [ht] at hP1
      obtain ⟨hP2, hD2⟩ := va_join (wr := (wd_9ef0db97 h1 g0 f20 h2 g1 f21 h3 g2 f22)) (w1 := (wd_171f232f h0 v0 r0 v1 v2 v3 v4 r1 r2 r3 r4 r5 r6 r7 v5 v6 r8 r9 r10 r11 v7 r12 r13 v8 v9 h1 h2 v10 v11 r14 v12 v13 h3 v14 w15 r15 v16 v17 r16 r17 r18 r19 r20 r21 v18 r22 r23 r24 v19)) hP hD [0] [1, 2, 3] rfl rfl (by decide) (by decide) hk1 hFc hP1 hD1
      clear hP hD hPc hDc hKc hFc hP1 hK1 hD1 hk1 hz1
      generalize H1 = H at hP2 hS ⊢
      have hP := hP2.sub (ws' := (wd_1ad11ebb h0 v0 r0 v1 v2 v3 v4 r1 r2 r3 r4 r5 r6 r7 v5 v6 r8 r9 r10 r11 v7 r12 r13 v8 v9 h1 h2 v10 v11 r14 v12 v13 h3 v14 w15 r15 v16 v17 r16 r17 r18 r19 r20 r21 v18 r22 r23 r24 v19 h1 g0 f20 h2 g1 f21 h3 g2 f22)) [3, 0, 1, 2] rfl
      have hD := hD2.sub (ws' := (wd_1ad11ebb h0 v0 r0 v1 v2 v3 v4 r1 r2 r3 r4 r5 r6 r7 v5 v6 r8 r9 r10 r11 v7 r12 r13 v8 v9 h1 h2 v10 v11 r14 v12 v13 h3 v14 w15 r15 v16 v17 r16 r17 r18 r19 r20 r21 v18 r22 r23 r24 v19 h1 g0 f20 h2 g1 f21 h3 g2 f22)) [3, 0, 1, 2] (by decide) rfl
      clear hP2 hD2
      obtain rfl : ra5 = (0 : Int32) := pv_cs (by decide) pt0_ra5 pt1_ra5
      refine lv_if_eq (tgt := 37) hx hb dX12_sell_32 (by decide) (fun _ => ?_) (fun c => absurd (by decide) c)
      refine lv_aload_n hx hb dX12_sell_37 rfl (lv_at hl 0 rfl) ?_
      have hPc := hP.sub (ws' := (wd_baa7feb8 h0 v0 r0 v1 v2 v3 v4 r1 r2 r3 r4 r5 r6 r7 v5 v6 r8 r9 r10 r11 v7 r12 r13 v8 v9 h1 h2 v10 v11 r14 v12 v13 h3 v14 w15 r15 v16 v17 r16 r17 r18 r19 r20 r21 v18 r22 r23 r24 v19 h1 g0 f20 h3 g2 f22)) [0, 1, 3] rfl
      have hDc := hD.sub (ws' := (wd_baa7feb8 h0 v0 r0 v1 v2 v3 v4 r1 r2 r3 r4 r5 r6 r7 v5 v6 r8 r9 r10 r11 v7 r12 r13 v8 v9 h1 h2 v10 v11 r14 v12 v13 h3 v14 w15 r15 v16 v17 r16 r17 r18 r19 r20 r21 v18 r22 r23 r24 v19 h1 g0 f20 h3 g2 f22)) [0, 1, 3] (by decide) rfl
      have hKc := hK.sub (tys' := [(g0, .int), (g2, .int)]) [0, 2] rfl
      have hFc := va_free (wc := (wd_baa7feb8 h0 v0 r0 v1 v2 v3 v4 r1 r2 r3 r4 r5 r6 r7 v5 v6 r8 r9 r10 r11 v7 r12 r13 v8 v9 h1 h2 v10 v11 r14 v12 v13 h3 v14 w15 r15 v16 v17 r16 r17 r18 r19 r20 r21 v18 r22 r23 r24 v19 h1 g0 f20 h3 g2 f22)) hD hS hA [0, 1, 3] rfl
      refine va_callv (va_runV (As := []) (rest := []) ⟨hx, hb, hml, hown, hts⟩ (k_X12_keep l dC dI h0 h1 h3 v0 r0 v1 v2 v3 v4 r1 r2 r3 r4 r5 r6 r7 v5 v6 r8 r9 r10 r11 v7 r12 r13 v8 v9 h2 v10 v11 r14 v12 v13 v14 w15 r15 v16 v17 r16 r17 r18 r19 r20 r21 v18 r22 r23 r24 v19 g0 f20 g2 f22 ⟨i_v1a, i_v1b⟩ ⟨i_v5a, i_v5b⟩ ⟨i_v6a, i_v6b⟩ ⟨i_v7a, i_v7b⟩ ⟨i_v8a, i_v8b⟩ ⟨i_v9a, i_v9b⟩ ⟨i_v10a, i_v10b⟩ ⟨i_v14a, i_v14b⟩ ⟨i_v18a, i_v18b⟩ ⟨i_v19a, i_v19b⟩ ia_f20 ia_f22 H.size) (cwV 0 hts g_X12_sell_3 rfl rfl rfl (by decide +kernel) ⟨Nat.le_of_ble_eq_true rfl, Nat.le_of_ble_eq_true rfl⟩) (pv_PV12 hPc hKc hDc (q0 := 0) rfl) rfl rfl hl.1 rfl (lv_room (Nat.le_of_ble_eq_true rfl)) dX12_sell_38 ⟨Nat.le_of_ble_eq_true rfl, Nat.le_of_ble_eq_true rfl⟩) hS (fun q _ h => hFc q h) hFc (fun u t H1 locs ht hvm hwra6 hB hz1 hk1 hS => ?_)
      obtain ⟨x7, fn8, oa_x7, ob_x7, ia_fn8, hP1, hK1, hD1⟩ := hB
      rw [ht] at hP1
      obtain ⟨hP2, hD2⟩ := va_join (wr := (wd_cd0f205f h2 g1 f21)) (w1 := (wd_baa7feb8 h0 v0 r0 v1 v2 v3 v4 r1 r2 r3 r4 r5 r6 r7 v5 v6 r8 r9 r10 r11 v7 r12 r13 v8 v9 h1 h2 v10 v11 r14 v12 v13 h3 x7 w15 r15 v16 v17 r16 r17 r18 r19 r20 r21 v18 r22 r23 r24 v19 h1 g0 f20 h3 g2 fn8)) hP hD [0, 1, 3] [2] rfl rfl (by decide) (by decide) hk1 hFc hP1 hD1
      clear hP hD hPc hDc hKc hFc hP1 hK1 hD1 hk1 hz1
      generalize H1 = H at hP2 hS ⊢
      have hP := hP2.sub (ws' := (wd_1ad11ebb h0 v0 r0 v1 v2 v3 v4 r1 r2 r3 r4 r5 r6 r7 v5 v6 r8 r9 r10 r11 v7 r12 r13 v8 v9 h1 h2 v10 v11 r14 v12 v13 h3 x7 w15 r15 v16 v17 r16 r17 r18 r19 r20 r21 v18 r22 r23 r24 v19 h1 g0 f20 h2 g1 f21 h3 g2 fn8)) [1, 2, 0, 3] rfl
      have hD := hD2.sub (ws' := (wd_1ad11ebb h0 v0 r0 v1 v2 v3 v4 r1 r2 r3 r4 r5 r6 r7 v5 v6 r8 r9 r10 r11 v7 r12 r13 v8 v9 h1 h2 v10 v11 r14 v12 v13 h3 x7 w15 r15 v16 v17 r16 r17 r18 r19 r20 r21 v18 r22 r23 r24 v19 h1 g0 f20 h2 g1 f21 h3 g2 fn8)) [1, 2, 0, 3] (by decide) rfl
      clear hP2 hD2
      refine lv_aload_n hx hb dX12_sell_41 rfl (lv_at hl 0 rfl) ?_
      refine va_get (D := (dC, dI)) (ci := 12) (v := .ref h1) (C := RX12) (T := TX12) (N := 48) hx hb hts (fun _ h => List.mem_cons_of_mem _ (List.mem_append_right _ h)) hown hK hP 0 rfl rfl 24 (by decide) (hts (.fieldLink RX12 52 "LeftArgumentsModel" "now" "[I") (List.mem_cons_of_mem _ (List.mem_append_left _ (List.mem_of_getElem? (i := 6) rfl)))) (fun _ h9 => h9) rfl dX12_sell_42 ?_
      refine lv_bipush (v := 64) hx hb dX12_sell_45 (by decide) ?_
      refine lv_sipush (v := 999) hx hb dX12_sell_47 (by decide) ?_
      refine lv_aload_n hx hb dX12_sell_50 rfl (lv_at hl 0 rfl) ?_
      refine va_get (D := (dC, dI)) (ci := 12) (v := .ref h1) (C := RX12) (T := TX12) (N := 48) hx hb hts (fun _ h => List.mem_cons_of_mem _ (List.mem_append_right _ h)) hown hK hP 0 rfl rfl 24 (by decide) (hts (.fieldLink RX12 52 "LeftArgumentsModel" "now" "[I") (List.mem_cons_of_mem _ (List.mem_append_left _ (List.mem_of_getElem? (i := 6) rfl)))) (fun _ h9 => h9) rfl dX12_sell_51 ?_
      refine lv_bipush (v := 64) hx hb dX12_sell_54 (by decide) ?_
      refine va_iald hx hb hK hP 1 0 rfl rfl (pv_c (x := 64) (n := 247) (by decide)) dX12_sell_56 ?_
      refine lv_topi (fun t9 et9 => ?_)
      have mmt9 : f20 (Int32.toNatClampNeg 64) = t9 := et9.symm
      refine lv_aload_n hx hb dX12_sell_57 rfl (lv_at hl 0 rfl) ?_
      refine lv_iload_n hx hb dX12_sell_58 rfl (lv_at hl 1 rfl) ?_
      refine lv_iconst (v := 0) hx hb dX12_sell_59 (by decide) ?_
      have hPc := hP.sub (ws' := (wd_5013416a h0 v0 r0 v1 v2 v3 v4 r1 r2 r3 r4 r5 r6 r7 v5 v6 r8 r9 r10 r11 v7 r12 r13 v8 v9 h1 h2 v10 v11 r14 v12 v13 h3 x7 w15 r15 v16 v17 r16 r17 r18 r19 r20 r21 v18 r22 r23 r24 v19 h1 g0 f20)) [0, 1] rfl
      have hDc := hD.sub (ws' := (wd_5013416a h0 v0 r0 v1 v2 v3 v4 r1 r2 r3 r4 r5 r6 r7 v5 v6 r8 r9 r10 r11 v7 r12 r13 v8 v9 h1 h2 v10 v11 r14 v12 v13 h3 x7 w15 r15 v16 v17 r16 r17 r18 r19 r20 r21 v18 r22 r23 r24 v19 h1 g0 f20)) [0, 1] (by decide) rfl
      have hKc := hK.sub (tys' := [(g0, .int)]) [0] rfl
      have hFc := va_free (wc := (wd_5013416a h0 v0 r0 v1 v2 v3 v4 r1 r2 r3 r4 r5 r6 r7 v5 v6 r8 r9 r10 r11 v7 r12 r13 v8 v9 h1 h2 v10 v11 r14 v12 v13 h3 x7 w15 r15 v16 v17 r16 r17 r18 r19 r20 r21 v18 r22 r23 r24 v19 h1 g0 f20)) hD hS hA [0, 1] rfl
      refine va_calli (va_runV (As := [.int v23, .int 0]) (rest := [.int t9, .int 999, .int 64, .ref h1]) ⟨hx, hb, hml, hown, hts⟩ (k_X12_of_3 l dC dI h0 h1 v0 r0 v1 v2 v3 v4 r1 r2 r3 r4 r5 r6 r7 v5 v6 r8 r9 r10 r11 v7 r12 r13 v8 v9 h2 v10 v11 r14 v12 v13 h3 x7 w15 r15 v16 v17 r16 r17 r18 r19 r20 r21 v18 r22 r23 r24 v19 g0 f20 v23 ⟨i_v1a, i_v1b⟩ ⟨i_v5a, i_v5b⟩ ⟨i_v6a, i_v6b⟩ ⟨i_v7a, i_v7b⟩ ⟨i_v8a, i_v8b⟩ ⟨i_v9a, i_v9b⟩ ⟨i_v10a, i_v10b⟩ ⟨by first | omega | decide, ob_x7⟩ ⟨i_v18a, i_v18b⟩ ⟨i_v19a, i_v19b⟩ ⟨by first | omega | decide, by first | omega | decide⟩ ia_f20.1 H.size) (cwV 2 hts g_X12_sell_4 rfl rfl rfl (by decide +kernel) ⟨Nat.le_of_ble_eq_true rfl, Nat.le_of_ble_eq_true rfl⟩) (pv_PV12 hPc hKc hDc (q0 := 0) rfl) rfl rfl hl.1 rfl (lv_room (Nat.le_of_ble_eq_true rfl)) dX12_sell_60 ⟨Nat.le_of_ble_eq_true rfl, Nat.le_of_ble_eq_true rfl⟩) hS (fun q _ h => hFc q h) hFc (fun ra10 u t H1 locs ht hvm hwra10 hB hz1 hk1 hS => ?_)
      try rw [hwra10] at hB
      obtain ⟨pt0_ra10, pt1_ra10, pt2_ra10, hP1, hK1, hD1⟩ := hB
      rw [ht] at hP1
      obtain ⟨hP2, hD2⟩ := va_join (wr := (wd_969f66a9 h2 g1 f21 h3 g2 fn8)) (w1 := (wd_5013416a h0 v0 r0 v1 v2 v3 v4 r1 r2 r3 r4 r5 r6 r7 v5 v6 r8 r9 r10 r11 v7 r12 r13 v8 v9 h1 h2 v10 v11 r14 v12 v13 h3 x7 w15 r15 v16 v17 r16 r17 r18 r19 r20 r21 v18 r22 r23 r24 v19 h1 g0 f20)) hP hD [0, 1] [2, 3] rfl rfl (by decide) (by decide) hk1 hFc hP1 hD1
      clear hP hD hPc hDc hKc hFc hP1 hK1 hD1 hk1 hz1
      generalize H1 = H at hP2 hS ⊢
      have hP := hP2.sub (ws' := (wd_1ad11ebb h0 v0 r0 v1 v2 v3 v4 r1 r2 r3 r4 r5 r6 r7 v5 v6 r8 r9 r10 r11 v7 r12 r13 v8 v9 h1 h2 v10 v11 r14 v12 v13 h3 x7 w15 r15 v16 v17 r16 r17 r18 r19 r20 r21 v18 r22 r23 r24 v19 h1 g0 f20 h2 g1 f21 h3 g2 fn8)) [2, 3, 0, 1] rfl
      have hD := hD2.sub (ws' := (wd_1ad11ebb h0 v0 r0 v1 v2 v3 v4 r1 r2 r3 r4 r5 r6 r7 v5 v6 r8 r9 r10 r11 v7 r12 r13 v8 v9 h1 h2 v10 v11 r14 v12 v13 h3 x7 w15 r15 v16 v17 r16 r17 r18 r19 r20 r21 v18 r22 r23 r24 v19 h1 g0 f20 h2 g1 f21 h3 g2 fn8)) [2, 3, 0, 1] (by decide) rfl
      clear hP2 hD2
      refine lv_iadd hx hb dX12_sell_63 ?_
      refine lv_topi (fun t11 et11 => ?_)
      refine va_mmin hx hb (by rw [hml]; exact hl.1.symm) hown (hts (.methodLink RX12 299 Lib.Math.min.name) (List.mem_cons_of_mem _ (List.mem_append_left _ (List.mem_of_getElem? (i := 23) rfl)))) (hts (.static Lib.Math.min.name) (List.mem_cons_of_mem _ (List.mem_append_left _ (List.mem_of_getElem? (i := 24) rfl)))) (hts (.initialized "java/lang/Math") (List.mem_cons_of_mem _ (List.mem_append_left _ (List.mem_of_getElem? (i := 25) rfl)))) (hts (.code Lib.Math.min.name Lib.Math.min.code 2 (some .int)) (List.mem_cons_of_mem _ (List.mem_append_left _ (List.mem_of_getElem? (i := 26) rfl)))) (Nat.le_of_ble_eq_true rfl) (Nat.le_of_ble_eq_true rfl) (Nat.le_of_ble_eq_true rfl) (Nat.le_of_ble_eq_true rfl) dX12_sell_64 ?_
      refine lv_topi (fun t12 et12 => ?_)
      obtain ⟨gat12, gbt12, gct12⟩ := pv_min (a := 999) (b := t11.toInt) et12 (by decide) rfl
      refine va_iast hx hb hK hP hD hS 1 0 rfl rfl (pv_c (x := 64) (n := 247) (by decide)) dX12_sell_67 (fun H locs hP hD hS => ?_)
      obtain ⟨fn13, efn13⟩ : ∃ g : Nat → Int32, g = upd f20 (Int32.toNatClampNeg 64) t12 := ⟨_, rfl⟩
      rw [← efn13] at hP hD
      have ia_fn13 : pm_NW fn13 := by rw [efn13]; exact pm_NW.st ia_f20 (z := 64) (y := t12.toInt) (by decide) rfl (by omega) (fun b9 h8 h9 => ⟨fun _ => ⟨by omega, by omega⟩, fun _ => ⟨by omega, by omega⟩⟩) (fun _ => ⟨by omega, by omega⟩) (fun b9 h8 h9 => ⟨fun _ => by omega, fun _ => by omega⟩)
      have mmfn13_64 : fn13 (Int32.toNatClampNeg 64) = t12 := by rw [efn13]; exact pk_us
      have hP : va_P (dC, dI) vwCl (wd_1ad11ebb h0 v0 r0 v1 v2 v3 v4 r1 r2 r3 r4 r5 r6 r7 v5 v6 r8 r9 r10 r11 v7 r12 r13 v8 v9 h1 h2 v10 v11 r14 v12 v13 h3 x7 w15 r15 v16 v17 r16 r17 r18 r19 r20 r21 v18 r22 r23 r24 v19 h1 g0 fn13 h2 g1 f21 h3 g2 fn8) H := hP
      have hD : va_D A (wd_1ad11ebb h0 v0 r0 v1 v2 v3 v4 r1 r2 r3 r4 r5 r6 r7 v5 v6 r8 r9 r10 r11 v7 r12 r13 v8 v9 h1 h2 v10 v11 r14 v12 v13 h3 x7 w15 r15 v16 v17 r16 r17 r18 r19 r20 r21 v18 r22 r23 r24 v19 h1 g0 fn13 h2 g1 f21 h3 g2 fn8) := hD
      refine lv_aload_n hx hb dX12_sell_68 rfl (lv_at hl 0 rfl) ?_
      refine lv_iload_n hx hb dX12_sell_69 rfl (lv_at hl 1 rfl) ?_
      refine lv_bipush (v := 7) hx hb dX12_sell_70 (by decide) ?_
      refine lv_iconst (v := 0) hx hb dX12_sell_72 (by decide) ?_
      have hPc := hP.sub (ws' := (wd_5013416a h0 v0 r0 v1 v2 v3 v4 r1 r2 r3 r4 r5 r6 r7 v5 v6 r8 r9 r10 r11 v7 r12 r13 v8 v9 h1 h2 v10 v11 r14 v12 v13 h3 x7 w15 r15 v16 v17 r16 r17 r18 r19 r20 r21 v18 r22 r23 r24 v19 h1 g0 fn13)) [0, 1] rfl
      have hDc := hD.sub (ws' := (wd_5013416a h0 v0 r0 v1 v2 v3 v4 r1 r2 r3 r4 r5 r6 r7 v5 v6 r8 r9 r10 r11 v7 r12 r13 v8 v9 h1 h2 v10 v11 r14 v12 v13 h3 x7 w15 r15 v16 v17 r16 r17 r18 r19 r20 r21 v18 r22 r23 r24 v19 h1 g0 fn13)) [0, 1] (by decide) rfl
      have hKc := hK.sub (tys' := [(g0, .int)]) [0] rfl
      have hFc := va_free (wc := (wd_5013416a h0 v0 r0 v1 v2 v3 v4 r1 r2 r3 r4 r5 r6 r7 v5 v6 r8 r9 r10 r11 v7 r12 r13 v8 v9 h1 h2 v10 v11 r14 v12 v13 h3 x7 w15 r15 v16 v17 r16 r17 r18 r19 r20 r21 v18 r22 r23 r24 v19 h1 g0 fn13)) hD hS hA [0, 1] rfl
      refine va_callv (va_runV (As := [.int v23, .int 7, .int 0]) (rest := []) ⟨hx, hb, hml, hown, hts⟩ (k_X12_set l dC dI h0 h1 v0 r0 v1 v2 v3 v4 r1 r2 r3 r4 r5 r6 r7 v5 v6 r8 r9 r10 r11 v7 r12 r13 v8 v9 h2 v10 v11 r14 v12 v13 h3 x7 w15 r15 v16 v17 r16 r17 r18 r19 r20 r21 v18 r22 r23 r24 v19 g0 fn13 v23 0 ⟨i_v1a, i_v1b⟩ ⟨i_v5a, i_v5b⟩ ⟨i_v6a, i_v6b⟩ ⟨i_v7a, i_v7b⟩ ⟨i_v8a, i_v8b⟩ ⟨i_v9a, i_v9b⟩ ⟨i_v10a, i_v10b⟩ ⟨by first | omega | decide, ob_x7⟩ ⟨i_v18a, i_v18b⟩ ⟨i_v19a, i_v19b⟩ ⟨by first | omega | decide, by first | omega | decide⟩ trivial H.size) (cwV 3 hts g_X12_sell_5 rfl rfl rfl (by decide +kernel) ⟨Nat.le_of_ble_eq_true rfl, Nat.le_of_ble_eq_true rfl⟩) (pv_PV12 hPc hKc hDc (q0 := 0) rfl) rfl rfl hl.1 rfl (lv_room (Nat.le_of_ble_eq_true rfl)) dX12_sell_73 ⟨Nat.le_of_ble_eq_true rfl, Nat.le_of_ble_eq_true rfl⟩) hS (fun q _ h => hFc q h) hFc (fun u t H1 locs ht hvm hwra14 hB hz1 hk1 hS => ?_)
      obtain ⟨hP1, hK1, hD1⟩ := hB
      rw [ht] at hP1
      obtain ⟨hP2, hD2⟩ := va_join (wr := (wd_969f66a9 h2 g1 f21 h3 g2 fn8)) (w1 := (wd_5013416a h0 v0 r0 v1 v2 v3 v4 r1 r2 r3 r4 r5 r6 r7 v5 v6 r8 r9 r10 r11 v7 r12 r13 v8 v9 h1 h2 v10 v11 r14 v12 v13 h3 x7 w15 r15 v16 v17 r16 r17 r18 r19 r20 r21 v18 r22 r23 r24 v19 h1 g0 (upd fn13 (pm_I v23 7) 0))) hP hD [0, 1] [2, 3] rfl rfl (by decide) (by decide) hk1 hFc hP1 hD1
      clear hP hD hPc hDc hKc hFc hP1 hK1 hD1 hk1 hz1
      generalize H1 = H at hP2 hS ⊢
      have hP := hP2.sub (ws' := (wd_1ad11ebb h0 v0 r0 v1 v2 v3 v4 r1 r2 r3 r4 r5 r6 r7 v5 v6 r8 r9 r10 r11 v7 r12 r13 v8 v9 h1 h2 v10 v11 r14 v12 v13 h3 x7 w15 r15 v16 v17 r16 r17 r18 r19 r20 r21 v18 r22 r23 r24 v19 h1 g0 (upd fn13 (pm_I v23 7) 0) h2 g1 f21 h3 g2 fn8)) [2, 3, 0, 1] rfl
      have hD := hD2.sub (ws' := (wd_1ad11ebb h0 v0 r0 v1 v2 v3 v4 r1 r2 r3 r4 r5 r6 r7 v5 v6 r8 r9 r10 r11 v7 r12 r13 v8 v9 h1 h2 v10 v11 r14 v12 v13 h3 x7 w15 r15 v16 v17 r16 r17 r18 r19 r20 r21 v18 r22 r23 r24 v19 h1 g0 (upd fn13 (pm_I v23 7) 0) h2 g1 f21 h3 g2 fn8)) [2, 3, 0, 1] (by decide) rfl
      clear hP2 hD2
      obtain ⟨t15, et15⟩ : ∃ y : Int32, y = 8 * v23 + 7 := ⟨_, rfl⟩
      have gt15 : t15.toInt = 8 * v23.toInt + 7 := pm_i8 et15 rfl (by decide) (by omega) (by omega) (by omega) (by omega)
      obtain ⟨fn17, efn17⟩ : ∃ g : Nat → Int32, g = upd fn13 (Int32.toNatClampNeg t15) 0 := ⟨_, rfl⟩
      have e9 : (upd fn13 (pm_I v23 7) 0) = fn17 := by rw [efn17, et15]; rfl
      rw [e9] at hP hD
      have ia_fn17 : pm_NW fn17 := by rw [efn17]; exact pm_NW.st ia_fn13 (z := t15.toInt) (y := 0) rfl (by decide) (by omega) (fun b9 h8 h9 => ⟨fun _ => ⟨by omega, by omega⟩, fun _ => ⟨by omega, by omega⟩⟩) (fun _ => ⟨by omega, by omega⟩) (fun b9 h8 h9 => ⟨fun _ => by omega, fun _ => by omega⟩)
      have mmfn17_64 : fn17 (Int32.toNatClampNeg 64) = t12 := by rw [efn17]; exact (pk_un (pm_ne (z := t15.toInt) (c := 64) rfl (by decide) (by omega) (by omega))).trans mmfn13_64
      have hP : va_P (dC, dI) vwCl (wd_1ad11ebb h0 v0 r0 v1 v2 v3 v4 r1 r2 r3 r4 r5 r6 r7 v5 v6 r8 r9 r10 r11 v7 r12 r13 v8 v9 h1 h2 v10 v11 r14 v12 v13 h3 x7 w15 r15 v16 v17 r16 r17 r18 r19 r20 r21 v18 r22 r23 r24 v19 h1 g0 fn17 h2 g1 f21 h3 g2 fn8) H := hP
      have hD : va_D A (wd_1ad11ebb h0 v0 r0 v1 v2 v3 v4 r1 r2 r3 r4 r5 r6 r7 v5 v6 r8 r9 r10 r11 v7 r12 r13 v8 v9 h1 h2 v10 v11 r14 v12 v13 h3 x7 w15 r15 v16 v17 r16 r17 r18 r19 r20 r21 v18 r22 r23 r24 v19 h1 g0 fn17 h2 g1 f21 h3 g2 fn8) := hD
      refine lv_aload_n hx hb dX12_sell_76 rfl (lv_at hl 0 rfl) ?_
      refine lv_iload_n hx hb dX12_sell_77 rfl (lv_at hl 1 rfl) ?_
      refine lv_iconst (v := 0) hx hb dX12_sell_78 (by decide) ?_
      have hPc := hP.sub (ws' := (wd_5013416a h0 v0 r0 v1 v2 v3 v4 r1 r2 r3 r4 r5 r6 r7 v5 v6 r8 r9 r10 r11 v7 r12 r13 v8 v9 h1 h2 v10 v11 r14 v12 v13 h3 x7 w15 r15 v16 v17 r16 r17 r18 r19 r20 r21 v18 r22 r23 r24 v19 h1 g0 fn17)) [0, 1] rfl
      have hDc := hD.sub (ws' := (wd_5013416a h0 v0 r0 v1 v2 v3 v4 r1 r2 r3 r4 r5 r6 r7 v5 v6 r8 r9 r10 r11 v7 r12 r13 v8 v9 h1 h2 v10 v11 r14 v12 v13 h3 x7 w15 r15 v16 v17 r16 r17 r18 r19 r20 r21 v18 r22 r23 r24 v19 h1 g0 fn17)) [0, 1] (by decide) rfl
      have hKc := hK.sub (tys' := [(g0, .int)]) [0] rfl
      have hFc := va_free (wc := (wd_5013416a h0 v0 r0 v1 v2 v3 v4 r1 r2 r3 r4 r5 r6 r7 v5 v6 r8 r9 r10 r11 v7 r12 r13 v8 v9 h1 h2 v10 v11 r14 v12 v13 h3 x7 w15 r15 v16 v17 r16 r17 r18 r19 r20 r21 v18 r22 r23 r24 v19 h1 g0 fn17)) hD hS hA [0, 1] rfl
      refine va_calli (va_runV (As := [.int v23, .int 0]) (rest := []) ⟨hx, hb, hml, hown, hts⟩ (k_X12_of_3 l dC dI h0 h1 v0 r0 v1 v2 v3 v4 r1 r2 r3 r4 r5 r6 r7 v5 v6 r8 r9 r10 r11 v7 r12 r13 v8 v9 h2 v10 v11 r14 v12 v13 h3 x7 w15 r15 v16 v17 r16 r17 r18 r19 r20 r21 v18 r22 r23 r24 v19 g0 fn17 v23 ⟨i_v1a, i_v1b⟩ ⟨i_v5a, i_v5b⟩ ⟨i_v6a, i_v6b⟩ ⟨i_v7a, i_v7b⟩ ⟨i_v8a, i_v8b⟩ ⟨i_v9a, i_v9b⟩ ⟨i_v10a, i_v10b⟩ ⟨by first | omega | decide, ob_x7⟩ ⟨i_v18a, i_v18b⟩ ⟨i_v19a, i_v19b⟩ ⟨by first | omega | decide, by first | omega | decide⟩ ia_fn17.1 H.size) (cwV 2 hts g_X12_sell_4 rfl rfl rfl (by decide +kernel) ⟨Nat.le_of_ble_eq_true rfl, Nat.le_of_ble_eq_true rfl⟩) (pv_PV12 hPc hKc hDc (q0 := 0) rfl) rfl rfl hl.1 rfl (lv_room (Nat.le_of_ble_eq_true rfl)) dX12_sell_79 ⟨Nat.le_of_ble_eq_true rfl, Nat.le_of_ble_eq_true rfl⟩) hS (fun q _ h => hFc q h) hFc (fun ra18 u t H1 locs ht hvm hwra18 hB hz1 hk1 hS => ?_)
      try rw [hwra18] at hB
      obtain ⟨pt0_ra18, pt1_ra18, pt2_ra18, hP1, hK1, hD1⟩ := hB
      rw [ht] at hP1
      obtain ⟨hP2, hD2⟩ := va_join (wr := (wd_969f66a9 h2 g1 f21 h3 g2 fn8)) (w1 := (wd_5013416a h0 v0 r0 v1 v2 v3 v4 r1 r2 r3 r4 r5 r6 r7 v5 v6 r8 r9 r10 r11 v7 r12 r13 v8 v9 h1 h2 v10 v11 r14 v12 v13 h3 x7 w15 r15 v16 v17 r16 r17 r18 r19 r20 r21 v18 r22 r23 r24 v19 h1 g0 fn17)) hP hD [0, 1] [2, 3] rfl rfl (by decide) (by decide) hk1 hFc hP1 hD1
      clear hP hD hPc hDc hKc hFc hP1 hK1 hD1 hk1 hz1
      generalize H1 = H at hP2 hS ⊢
      have hP := hP2.sub (ws' := (wd_1ad11ebb h0 v0 r0 v1 v2 v3 v4 r1 r2 r3 r4 r5 r6 r7 v5 v6 r8 r9 r10 r11 v7 r12 r13 v8 v9 h1 h2 v10 v11 r14 v12 v13 h3 x7 w15 r15 v16 v17 r16 r17 r18 r19 r20 r21 v18 r22 r23 r24 v19 h1 g0 fn17 h2 g1 f21 h3 g2 fn8)) [2, 3, 0, 1] rfl
      have hD := hD2.sub (ws' := (wd_1ad11ebb h0 v0 r0 v1 v2 v3 v4 r1 r2 r3 r4 r5 r6 r7 v5 v6 r8 r9 r10 r11 v7 r12 r13 v8 v9 h1 h2 v10 v11 r14 v12 v13 h3 x7 w15 r15 v16 v17 r16 r17 r18 r19 r20 r21 v18 r22 r23 r24 v19 h1 g0 fn17 h2 g1 f21 h3 g2 fn8)) [2, 3, 0, 1] (by decide) rfl
      clear hP2 hD2
      subst hQ
      have hP9 := hP.sub (ws' := (wd_1ad11ebb h0 v0 r0 v1 v2 v3 v4 r1 r2 r3 r4 r5 r6 r7 v5 v6 r8 r9 r10 r11 v7 r12 r13 v8 v9 h1 h2 v10 v11 r14 v12 v13 h3 x7 w15 r15 v16 v17 r16 r17 r18 r19 r20 r21 v18 r22 r23 r24 v19 h1 g0 fn17 h2 g1 f21 h3 g2 fn8)) [0, 1, 2, 3] rfl
      have hD9 := hD.sub (ws' := (wd_1ad11ebb h0 v0 r0 v1 v2 v3 v4 r1 r2 r3 r4 r5 r6 r7 v5 v6 r8 r9 r10 r11 v7 r12 r13 v8 v9 h1 h2 v10 v11 r14 v12 v13 h3 x7 w15 r15 v16 v17 r16 r17 r18 r19 r20 r21 v18 r22 r23 r24 v19 h1 g0 fn17 h2 g1 f21 h3 g2 fn8)) [0, 1, 2, 3] (by decide) rfl
      have hK9 := hK.sub (tys' := []) [] rfl
      exact W.iret (v := ra18) hx hb hr (fun t ht hW => ⟨⟨ra18, ra18, rfl, rfl, ⟨x7, fn17, f21, fn8, by first | omega | decide, ob_x7, ia_fn17, ia_fn8, by first | omega | decide, by first | omega | decide, by rw [ht]; exact hP9, va_K.moved hW.alike hK9, hD9⟩⟩, hS.F ht⟩) hS.2.2 dX12_sell_82
    · skip
      have fc4 : ¬ (7 ≤ ra3.toInt) := fun h9 => c4 (Int32.le_iff_toInt_le.mpr h9)
      refine lv_iconst (v := 2) hx hb dX12_sell_24 (by decide) ?_
      refine lv_goto (tgt := 29) hx hb dX12_sell_25 (by decide) ?_
      have hPc := hP.sub (ws' := (wd_5b5f7811 h0 v0 r0 v1 v2 v3 v4 r1 r2 r3 r4 r5 r6 r7 v5 v6 r8 r9 r10 r11 v7 r12 r13 v8 v9 h1 h2 v10 v11 r14 v12 v13 h3 v14 w15 r15 v16 v17 r16 r17 r18 r19 r20 r21 v18 r22 r23 r24 v19 h2 g1 f21)) [0, 2] rfl
      have hDc := hD.sub (ws' := (wd_5b5f7811 h0 v0 r0 v1 v2 v3 v4 r1 r2 r3 r4 r5 r6 r7 v5 v6 r8 r9 r10 r11 v7 r12 r13 v8 v9 h1 h2 v10 v11 r14 v12 v13 h3 v14 w15 r15 v16 v17 r16 r17 r18 r19 r20 r21 v18 r22 r23 r24 v19 h2 g1 f21)) [0, 2] (by decide) rfl
      have hKc := hK.sub (tys' := [(g1, .int)]) [1] rfl
      have hFc := va_free (wc := (wd_5b5f7811 h0 v0 r0 v1 v2 v3 v4 r1 r2 r3 r4 r5 r6 r7 v5 v6 r8 r9 r10 r11 v7 r12 r13 v8 v9 h1 h2 v10 v11 r14 v12 v13 h3 v14 w15 r15 v16 v17 r16 r17 r18 r19 r20 r21 v18 r22 r23 r24 v19 h2 g1 f21)) hD hS hA [0, 2] rfl
      refine va_calli (va_runV (As := [.int 2]) (rest := []) ⟨hx, hb, hml, hown, hts⟩ (k_X12_isRefused_3 l dC dI h0 h2 v0 r0 v1 v2 v3 v4 r1 r2 r3 r4 r5 r6 r7 v5 v6 r8 r9 r10 r11 v7 r12 r13 v8 v9 h1 v10 v11 r14 v12 v13 h3 v14 w15 r15 v16 v17 r16 r17 r18 r19 r20 r21 v18 r22 r23 r24 v19 g1 f21 ⟨i_v1a, i_v1b⟩ ⟨i_v5a, i_v5b⟩ ⟨i_v6a, i_v6b⟩ ⟨i_v7a, i_v7b⟩ ⟨i_v8a, i_v8b⟩ ⟨i_v9a, i_v9b⟩ ⟨i_v10a, i_v10b⟩ ⟨i_v14a, i_v14b⟩ ⟨i_v18a, i_v18b⟩ ⟨i_v19a, i_v19b⟩ H.size) (cwV 1 hts g_X12_sell_7 rfl rfl rfl (by decide +kernel) ⟨Nat.le_of_ble_eq_true rfl, Nat.le_of_ble_eq_true rfl⟩) (pv_PV12 hPc hKc hDc (q0 := 0) rfl) rfl rfl hl.1 rfl (lv_room (Nat.le_of_ble_eq_true rfl)) dX12_sell_29 ⟨Nat.le_of_ble_eq_true rfl, Nat.le_of_ble_eq_true rfl⟩) hS (fun q _ h => hFc q h) hFc (fun ra19 u t H1 locs ht hvm hwra19 hB hz1 hk1 hS => ?_)
      try rw [hwra19] at hB
      obtain ⟨fn20, pt0_ra19, pt1_ra19, hP1, hK1, hD1⟩ := hB
      rw [ht] at hP1
      obtain ⟨hP2, hD2⟩ := va_join (wr := (wd_dd47ee91 h1 g0 f20 h3 g2 f22)) (w1 := (wd_5b5f7811 h0 v0 r0 v1 v2 v3 v4 r1 r2 r3 r4 r5 r6 r7 v5 v6 r8 r9 r10 r11 v7 r12 r13 v8 v9 h1 h2 v10 v11 r14 v12 v13 h3 v14 w15 r15 v16 v17 r16 r17 r18 r19 r20 r21 v18 r22 r23 r24 v19 h2 g1 fn20)) hP hD [0, 2] [1, 3] rfl rfl (by decide) (by decide) hk1 hFc hP1 hD1
      clear hP hD hPc hDc hKc hFc hP1 hK1 hD1 hk1 hz1
      generalize H1 = H at hP2 hS ⊢
      have hP := hP2.sub (ws' := (wd_1ad11ebb h0 v0 r0 v1 v2 v3 v4 r1 r2 r3 r4 r5 r6 r7 v5 v6 r8 r9 r10 r11 v7 r12 r13 v8 v9 h1 h2 v10 v11 r14 v12 v13 h3 v14 w15 r15 v16 v17 r16 r17 r18 r19 r20 r21 v18 r22 r23 r24 v19 h1 g0 f20 h2 g1 fn20 h3 g2 f22)) [2, 0, 3, 1] rfl
      have hD := hD2.sub (ws' := (wd_1ad11ebb h0 v0 r0 v1 v2 v3 v4 r1 r2 r3 r4 r5 r6 r7 v5 v6 r8 r9 r10 r11 v7 r12 r13 v8 v9 h1 h2 v10 v11 r14 v12 v13 h3 v14 w15 r15 v16 v17 r16 r17 r18 r19 r20 r21 v18 r22 r23 r24 v19 h1 g0 f20 h2 g1 fn20 h3 g2 f22)) [2, 0, 3, 1] (by decide) rfl
      clear hP2 hD2
      obtain rfl : ra19 = (1 : Int32) := pv_cs (by decide) pt0_ra19 pt1_ra19
      refine lv_if_eq (tgt := 37) hx hb dX12_sell_32 (by decide) (fun c => absurd c (by decide)) (fun _ => ?_)
      refine lv_iconst (v := (-1)) hx hb dX12_sell_35 (by decide) ?_
      subst hQ
      have hP9 := hP.sub (ws' := (wd_1ad11ebb h0 v0 r0 v1 v2 v3 v4 r1 r2 r3 r4 r5 r6 r7 v5 v6 r8 r9 r10 r11 v7 r12 r13 v8 v9 h1 h2 v10 v11 r14 v12 v13 h3 v14 w15 r15 v16 v17 r16 r17 r18 r19 r20 r21 v18 r22 r23 r24 v19 h1 g0 f20 h2 g1 fn20 h3 g2 f22)) [0, 1, 2, 3] rfl
      have hD9 := hD.sub (ws' := (wd_1ad11ebb h0 v0 r0 v1 v2 v3 v4 r1 r2 r3 r4 r5 r6 r7 v5 v6 r8 r9 r10 r11 v7 r12 r13 v8 v9 h1 h2 v10 v11 r14 v12 v13 h3 v14 w15 r15 v16 v17 r16 r17 r18 r19 r20 r21 v18 r22 r23 r24 v19 h1 g0 f20 h2 g1 fn20 h3 g2 f22)) [0, 1, 2, 3] (by decide) rfl
      have hK9 := hK.sub (tys' := []) [] rfl
      exact W.iret (v := (-1)) hx hb hr (fun t ht hW => ⟨⟨(-1), (-1), rfl, rfl, ⟨v14, f20, fn20, f22, i_v14a, i_v14b, ia_f20, ia_f22, by first | omega | decide, by first | omega | decide, by rw [ht]; exact hP9, va_K.moved hW.alike hK9, hD9⟩⟩, hS.F ht⟩) hS.2.2 dX12_sell_36
  · skip
    have fc2 : ra1.toInt = 0 := congrArg Int32.toInt c2
    refine lv_iconst (v := 0) hx hb dX12_sell_9 (by decide) ?_
    refine lv_goto (tgt := 29) hx hb dX12_sell_10 (by decide) ?_
    have hPc := hP.sub (ws' := (wd_5b5f7811 h0 v0 r0 v1 v2 v3 v4 r1 r2 r3 r4 r5 r6 r7 v5 v6 r8 r9 r10 r11 v7 r12 r13 v8 v9 h1 h2 v10 v11 r14 v12 v13 h3 v14 w15 r15 v16 v17 r16 r17 r18 r19 r20 r21 v18 r22 r23 r24 v19 h2 g1 f21)) [0, 2] rfl
    have hDc := hD.sub (ws' := (wd_5b5f7811 h0 v0 r0 v1 v2 v3 v4 r1 r2 r3 r4 r5 r6 r7 v5 v6 r8 r9 r10 r11 v7 r12 r13 v8 v9 h1 h2 v10 v11 r14 v12 v13 h3 v14 w15 r15 v16 v17 r16 r17 r18 r19 r20 r21 v18 r22 r23 r24 v19 h2 g1 f21)) [0, 2] (by decide) rfl
    have hKc := hK.sub (tys' := [(g1, .int)]) [1] rfl
    have hFc := va_free (wc := (wd_5b5f7811 h0 v0 r0 v1 v2 v3 v4 r1 r2 r3 r4 r5 r6 r7 v5 v6 r8 r9 r10 r11 v7 r12 r13 v8 v9 h1 h2 v10 v11 r14 v12 v13 h3 v14 w15 r15 v16 v17 r16 r17 r18 r19 r20 r21 v18 r22 r23 r24 v19 h2 g1 f21)) hD hS hA [0, 2] rfl
    refine va_calli (va_runV (As := [.int 0]) (rest := []) ⟨hx, hb, hml, hown, hts⟩ (k_X12_isRefused_1 l dC dI h0 h2 v0 r0 v1 v2 v3 v4 r1 r2 r3 r4 r5 r6 r7 v5 v6 r8 r9 r10 r11 v7 r12 r13 v8 v9 h1 v10 v11 r14 v12 v13 h3 v14 w15 r15 v16 v17 r16 r17 r18 r19 r20 r21 v18 r22 r23 r24 v19 g1 f21 ⟨i_v1a, i_v1b⟩ ⟨i_v5a, i_v5b⟩ ⟨i_v6a, i_v6b⟩ ⟨i_v7a, i_v7b⟩ ⟨i_v8a, i_v8b⟩ ⟨i_v9a, i_v9b⟩ ⟨i_v10a, i_v10b⟩ ⟨i_v14a, i_v14b⟩ ⟨i_v18a, i_v18b⟩ ⟨i_v19a, i_v19b⟩ H.size) (cwV 1 hts g_X12_sell_8 rfl rfl rfl (by decide +kernel) ⟨Nat.le_of_ble_eq_true rfl, Nat.le_of_ble_eq_true rfl⟩) (pv_PV12 hPc hKc hDc (q0 := 0) rfl) rfl rfl hl.1 rfl (lv_room (Nat.le_of_ble_eq_true rfl)) dX12_sell_29 ⟨Nat.le_of_ble_eq_true rfl, Nat.le_of_ble_eq_true rfl⟩) hS (fun q _ h => hFc q h) hFc (fun ra21 u t H1 locs ht hvm hwra21 hB hz1 hk1 hS => ?_)
    try rw [hwra21] at hB
    obtain ⟨fn22, pt0_ra21, pt1_ra21, hP1, hK1, hD1⟩ := hB
    rw [ht] at hP1
    obtain ⟨hP2, hD2⟩ := va_join (wr := (wd_dd47ee91 h1 g0 f20 h3 g2 f22)) (w1 := (wd_5b5f7811 h0 v0 r0 v1 v2 v3 v4 r1 r2 r3 r4 r5 r6 r7 v5 v6 r8 r9 r10 r11 v7 r12 r13 v8 v9 h1 h2 v10 v11 r14 v12 v13 h3 v14 w15 r15 v16 v17 r16 r17 r18 r19 r20 r21 v18 r22 r23 r24 v19 h2 g1 fn22)) hP hD [0, 2] [1, 3] rfl rfl (by decide) (by decide) hk1 hFc hP1 hD1
    clear hP hD hPc hDc hKc hFc hP1 hK1 hD1 hk1 hz1
    generalize H1 = H at hP2 hS ⊢
    have hP := hP2.sub (ws' := (wd_1ad11ebb h0 v0 r0 v1 v2 v3 v4 r1 r2 r3 r4 r5 r6 r7 v5 v6 r8 r9 r10 r11 v7 r12 r13 v8 v9 h1 h2 v10 v11 r14 v12 v13 h3 v14 w15 r15 v16 v17 r16 r17 r18 r19 r20 r21 v18 r22 r23 r24 v19 h1 g0 f20 h2 g1 fn22 h3 g2 f22)) [2, 0, 3, 1] rfl
    have hD := hD2.sub (ws' := (wd_1ad11ebb h0 v0 r0 v1 v2 v3 v4 r1 r2 r3 r4 r5 r6 r7 v5 v6 r8 r9 r10 r11 v7 r12 r13 v8 v9 h1 h2 v10 v11 r14 v12 v13 h3 v14 w15 r15 v16 v17 r16 r17 r18 r19 r20 r21 v18 r22 r23 r24 v19 h1 g0 f20 h2 g1 fn22 h3 g2 f22)) [2, 0, 3, 1] (by decide) rfl
    clear hP2 hD2
    obtain rfl : ra21 = (1 : Int32) := pv_cs (by decide) pt0_ra21 pt1_ra21
    refine lv_if_eq (tgt := 37) hx hb dX12_sell_32 (by decide) (fun c => absurd c (by decide)) (fun _ => ?_)
    refine lv_iconst (v := (-1)) hx hb dX12_sell_35 (by decide) ?_
    subst hQ
    have hP9 := hP.sub (ws' := (wd_1ad11ebb h0 v0 r0 v1 v2 v3 v4 r1 r2 r3 r4 r5 r6 r7 v5 v6 r8 r9 r10 r11 v7 r12 r13 v8 v9 h1 h2 v10 v11 r14 v12 v13 h3 v14 w15 r15 v16 v17 r16 r17 r18 r19 r20 r21 v18 r22 r23 r24 v19 h1 g0 f20 h2 g1 fn22 h3 g2 f22)) [0, 1, 2, 3] rfl
    have hD9 := hD.sub (ws' := (wd_1ad11ebb h0 v0 r0 v1 v2 v3 v4 r1 r2 r3 r4 r5 r6 r7 v5 v6 r8 r9 r10 r11 v7 r12 r13 v8 v9 h1 h2 v10 v11 r14 v12 v13 h3 v14 w15 r15 v16 v17 r16 r17 r18 r19 r20 r21 v18 r22 r23 r24 v19 h1 g0 f20 h2 g1 fn22 h3 g2 f22)) [0, 1, 2, 3] (by decide) rfl
    have hK9 := hK.sub (tys' := []) [] rfl
    exact W.iret (v := (-1)) hx hb hr (fun t ht hW => ⟨⟨(-1), (-1), rfl, rfl, ⟨v14, f20, fn22, f22, i_v14a, i_v14b, ia_f20, ia_f22, by first | omega | decide, by first | omega | decide, by rw [ht]; exact hP9, va_K.moved hW.alike hK9, hD9⟩⟩, hS.F ht⟩) hS.2.2 dX12_sell_36
def q_X12_in_10 : List Cond := .code yX12_in cX12_in 3 (some .boolean) :: (([] : List Cond))
set_option maxHeartbeats 4000000 in
set_option maxRecDepth 100000 in
theorem k_X12_in_10 (l : Launch) (dC : Nat → ClassId) (dI : Nat → Nat → Nat) (v0 : Int32) (sz : Nat) : Met l yX12_in q_X12_in_10 ({ frames := 0, cells := 0, slots := 0, locals := 0 }) (va_Pc [.int v0, .int 1, .int 50] (fun U => U.heap.size = sz ∧ va_P (dC, dI) vwCl [] U.heap ∧ va_K (dC, dI) vwCl [] U ∧ va_D (fun _ => True) [])) (va_Qi (fun (r : Int32) (r9 : Int32) => r9 = r) (fun (r : Int32) (t : State) => ((0 ≤ r.toInt) ∧ (r.toInt ≤ 1) ∧ ((r.toInt = 1 → 1 ≤ v0.toInt)) ∧ ((r.toInt = 1 → v0.toInt ≤ 50)) ∧ (r.toInt = 0 → ¬ (1 ≤ v0.toInt ∧ v0.toInt ≤ 50)) ∧ va_P (dC, dI) vwCl [] t.heap ∧ va_K (dC, dI) vwCl [] t ∧ va_D (va_A [] sz) [])) (va_A [] sz)) 0 0 (va_A [] sz) := by
  refine Met.ofW (cc := cX12_in) (maxL := 3) (ret := (some .boolean)) (by decide) rfl ?_
  intro p e s m args below meth c s₁ B hml hv
  obtain ⟨rfl, hsz, hP, hK, hD0⟩ := hv
  have hx := B.exec
  have hb := B.bytes
  have hr := B.returns
  have hts := atoms_spec (ws := q_X12_in_10) B.pre
  have hown : s.vm.findClass RX12 = some m.cls := findClass_of_methodNamed B.named
  have hlocks := B.notSynchronized
  subst hsz
  have hD := hD0.self (sz := s.heap.size)
  generalize hAe : va_A [] s.heap.size = A at hD ⊢
  have hA : ∀ q : Nat, s.heap.size ≤ q → A q := fun q h => by rw [← hAe]; exact Or.inr h
  have hS : va_S A s.heap s.heap [] := va_S.rf
  generalize hQ : (MQ below _ _ s 0 0 A) = Q
  have hl := lv_entry ([.int v0, .int 1, .int 50]) (n := 3) (Nat.le_of_ble_eq_true rfl)
  rw [lg_entry_eq]
  generalize (lg_sl ([.int v0, .int 1, .int 50]) ++ List.replicate (3 - (lg_sl ([.int v0, .int 1, .int 50])).length) Slot.unset).toArray = ls at hl ⊢
  have hl : lv_has ls 3 [(0, .int v0), (1, .int 1), (2, .int 50)] := hl
  obtain ⟨H, hH⟩ : ∃ H : Heap, H = s.heap := ⟨_, rfl⟩
  obtain ⟨locs, hlocs⟩ : ∃ y : List Loc, y = [] := ⟨_, rfl⟩
  have hS : va_S A s.heap H locs := by rw [hH, hlocs]; exact va_S.rf
  have hP : va_P (dC, dI) vwCl [] H := by rw [hH]; exact hP
  rw [← hH, ← hlocs]
  refine lv_iload_n hx hb dX12_in_0 rfl (lv_at hl 0 rfl) ?_
  refine lv_iload_n hx hb dX12_in_1 rfl (lv_at hl 1 rfl) ?_
  refine lv_icmp_lt (tgt := 14) hx hb dX12_in_2 (by decide) (fun c1 => ?_) (fun c1 => ?_)
  · skip
    have fc1 : v0.toInt < 1 := Int32.lt_iff_toInt_lt.mp c1
    refine lv_iconst (v := 0) hx hb dX12_in_14 (by decide) ?_
    subst hQ
    have hP9 := hP.sub (ws' := []) [] rfl
    have hD9 := hD.sub (ws' := []) [] (by decide) rfl
    have hK9 := hK.sub (tys' := []) [] rfl
    exact W.zret (v := 0) hx hb hr rfl (fun t ht hW => ⟨⟨0, 0, rfl, rfl, ⟨by first | omega | decide, by first | omega | decide, fun h9 => absurd h9 (by decide), fun h9 => absurd h9 (by decide), fun _ => by omega, by rw [ht]; exact hP9, va_K.moved hW.alike hK9, hD9⟩⟩, hS.F ht⟩) hS.2.2 dX12_in_15
  · skip
    have fc1 : ¬ (v0.toInt < 1) := fun h9 => c1 (Int32.lt_iff_toInt_lt.mpr h9)
    refine lv_iload_n hx hb dX12_in_5 rfl (lv_at hl 0 rfl) ?_
    refine lv_iload_n hx hb dX12_in_6 rfl (lv_at hl 2 rfl) ?_
    refine lv_icmp_gt (tgt := 14) hx hb dX12_in_7 (by decide) (fun c2 => ?_) (fun c2 => ?_)
    · skip
      have fc2 : 50 < v0.toInt := Int32.lt_iff_toInt_lt.mp c2
      refine lv_iconst (v := 0) hx hb dX12_in_14 (by decide) ?_
      subst hQ
      have hP9 := hP.sub (ws' := []) [] rfl
      have hD9 := hD.sub (ws' := []) [] (by decide) rfl
      have hK9 := hK.sub (tys' := []) [] rfl
      exact W.zret (v := 0) hx hb hr rfl (fun t ht hW => ⟨⟨0, 0, rfl, rfl, ⟨by first | omega | decide, by first | omega | decide, fun h9 => absurd h9 (by decide), fun h9 => absurd h9 (by decide), fun _ => by omega, by rw [ht]; exact hP9, va_K.moved hW.alike hK9, hD9⟩⟩, hS.F ht⟩) hS.2.2 dX12_in_15
    · skip
      have fc2 : ¬ (50 < v0.toInt) := fun h9 => c2 (Int32.lt_iff_toInt_lt.mpr h9)
      refine lv_iconst (v := 1) hx hb dX12_in_10 (by decide) ?_
      refine lv_goto (tgt := 15) hx hb dX12_in_11 (by decide) ?_
      subst hQ
      have hP9 := hP.sub (ws' := []) [] rfl
      have hD9 := hD.sub (ws' := []) [] (by decide) rfl
      have hK9 := hK.sub (tys' := []) [] rfl
      exact W.zret (v := 1) hx hb hr rfl (fun t ht hW => ⟨⟨1, 1, rfl, rfl, ⟨by first | omega | decide, by first | omega | decide, fun _ => by omega, fun _ => by omega, fun h9 => absurd h9 (by decide), by rw [ht]; exact hP9, va_K.moved hW.alike hK9, hD9⟩⟩, hS.F ht⟩) hS.2.2 dX12_in_15
def q_X12_give : List Cond := .code yX12_give cX12_give 2 (some .int) :: (([.fieldLink RX12 262 "LeftArgumentsModel" "isOffice" "Z", .code yX12_in cX12_in 3 (some .boolean), .initialized RX12, .static yX12_in, .methodLink RX12 217 yX12_in, .code yX12_isRefused cX12_isRefused 2 (some .boolean), .fieldLink RX12 55 "LeftArgumentsModel" "refused" "[I", .instanceMethod yX12_isRefused, .selects RX12 yX12_isRefused yX12_isRefused, .methodLink RX12 339 yX12_isRefused, .fieldLink RX12 52 "LeftArgumentsModel" "now" "[I", .code yX12_keep cX12_keep 2 none, .fieldLink RX12 275 "LeftArgumentsModel" "acts" "I", .fieldLink RX12 68 "LeftArgumentsModel" "kept" "[I", .instanceMethod yX12_keep, .selects RX12 yX12_keep yX12_keep, .methodLink RX12 342 yX12_keep] : List Cond) ++ wsX120)
set_option maxRecDepth 20000 in
theorem g_X12_give_0 : GoodIn q_X12_give (va_wsS RX12 217 yX12_in q_X12_in_10) := goodIn_app (goodIn_r _ [5, 4, 3] rfl (by decide +kernel)) (goodIn_r (.code yX12_in cX12_in 3 (some .boolean) :: []) [2] rfl (by decide +kernel))
set_option maxRecDepth 20000 in
theorem g_X12_give_1 : GoodIn q_X12_give (wsV RX12 339 RX12 yX12_isRefused q_X12_isRefused_4) := goodIn_app (goodIn_r _ [10, 8, 9, 3] rfl (by decide +kernel)) (goodIn_ca (goodIn_r (.code yX12_isRefused cX12_isRefused 2 (some .boolean) :: [.fieldLink RX12 55 "LeftArgumentsModel" "refused" "[I"]) [6, 7] rfl (by decide +kernel)) (goodIn_sub (fun _ h => List.mem_cons_of_mem _ (List.mem_append_right _ h)) gwX12))
set_option maxRecDepth 20000 in
theorem g_X12_give_2 : GoodIn q_X12_give (wsV RX12 339 RX12 yX12_isRefused q_X12_isRefused) := goodIn_app (goodIn_r _ [10, 8, 9, 3] rfl (by decide +kernel)) (goodIn_r (.code yX12_isRefused cX12_isRefused 2 (some .boolean) :: []) [6] rfl (by decide +kernel))
set_option maxRecDepth 20000 in
theorem g_X12_give_3 : GoodIn q_X12_give (wsV RX12 342 RX12 yX12_keep q_X12_keep) := goodIn_app (goodIn_r _ [17, 15, 16, 3] rfl (by decide +kernel)) (goodIn_ca (goodIn_r (.code yX12_keep cX12_keep 2 none :: [.fieldLink RX12 275 "LeftArgumentsModel" "acts" "I", .fieldLink RX12 68 "LeftArgumentsModel" "kept" "[I", .fieldLink RX12 52 "LeftArgumentsModel" "now" "[I"]) [12, 13, 14, 11] rfl (by decide +kernel)) (goodIn_sub (fun _ h => List.mem_cons_of_mem _ (List.mem_append_right _ h)) gwX12))
set_option maxRecDepth 20000 in
theorem g_X12_give_5 : GoodIn q_X12_give (wsV RX12 339 RX12 yX12_isRefused q_X12_isRefused_1) := goodIn_app (goodIn_r _ [10, 8, 9, 3] rfl (by decide +kernel)) (goodIn_ca (goodIn_r (.code yX12_isRefused cX12_isRefused 2 (some .boolean) :: [.fieldLink RX12 55 "LeftArgumentsModel" "refused" "[I"]) [6, 7] rfl (by decide +kernel)) (goodIn_sub (fun _ h => List.mem_cons_of_mem _ (List.mem_append_right _ h)) gwX12))
set_option maxHeartbeats 4000000 in
set_option maxRecDepth 100000 in
theorem k_X12_give (l : Launch) (dC : Nat → ClassId) (dI : Nat → Nat → Nat) (h0 : Nat) (h1 : Nat) (h2 : Nat) (h3 : Nat) (v0 : Int32) (r0 : Nat) (v1 : Int32) (v2 : Int32) (v3 : Int32) (v4 : Int32) (r1 : Nat) (r2 : Nat) (r3 : Nat) (r4 : Nat) (r5 : Nat) (r6 : Nat) (r7 : Nat) (v5 : Int32) (v6 : Int32) (r8 : Nat) (r9 : Nat) (r10 : Nat) (r11 : Nat) (v7 : Int32) (r12 : Nat) (r13 : Nat) (v8 : Int32) (v9 : Int32) (v10 : Int32) (v11 : Int32) (r14 : Nat) (v12 : Int32) (v13 : Int32) (v14 : Int32) (w15 : Int64) (r15 : Nat) (v16 : Int32) (v17 : Int32) (r16 : Nat) (r17 : Nat) (r18 : Nat) (r19 : Nat) (r20 : Nat) (r21 : Nat) (v18 : Int32) (r22 : Nat) (r23 : Nat) (r24 : Nat) (v19 : Int32) (g0 : ClassId) (f20 : Nat → Int32) (g1 : ClassId) (f21 : Nat → Int32) (g2 : ClassId) (f22 : Nat → Int32) (v23 : Int32) (i_v1 : 0 ≤ v1.toInt ∧ v1.toInt ≤ 240) (i_v5 : 0 ≤ v5.toInt ∧ v5.toInt ≤ 4) (i_v6 : 0 ≤ v6.toInt ∧ v6.toInt ≤ 4) (i_v7 : 0 ≤ v7.toInt ∧ v7.toInt ≤ 8) (i_v8 : 0 ≤ v8.toInt ∧ v8.toInt ≤ 8) (i_v9 : 0 ≤ v9.toInt ∧ v9.toInt ≤ 1) (i_v10 : -1 ≤ v10.toInt ∧ v10.toInt ≤ 3) (i_v14 : 0 ≤ v14.toInt ∧ v14.toInt ≤ 40) (i_v18 : 0 ≤ v18.toInt ∧ v18.toInt ≤ 10) (i_v19 : 0 ≤ v19.toInt ∧ v19.toInt ≤ 1) (ia_f20 : (pm_NW f20)) (ia_f22 : (pm_KP f22)) (sz : Nat) : Met l yX12_give q_X12_give ({ frames := 1, cells := 0, slots := 0, locals := 22 }) (va_Pc [.ref h0, .int v23] (fun U => U.heap.size = sz ∧ va_P (dC, dI) vwCl (wd_1ad11ebb h0 v0 r0 v1 v2 v3 v4 r1 r2 r3 r4 r5 r6 r7 v5 v6 r8 r9 r10 r11 v7 r12 r13 v8 v9 h1 h2 v10 v11 r14 v12 v13 h3 v14 w15 r15 v16 v17 r16 r17 r18 r19 r20 r21 v18 r22 r23 r24 v19 h1 g0 f20 h2 g1 f21 h3 g2 f22) U.heap ∧ va_K (dC, dI) vwCl [(g0, .int), (g1, .int), (g2, .int)] U ∧ va_D (fun _ => True) (wd_1ad11ebb h0 v0 r0 v1 v2 v3 v4 r1 r2 r3 r4 r5 r6 r7 v5 v6 r8 r9 r10 r11 v7 r12 r13 v8 v9 h1 h2 v10 v11 r14 v12 v13 h3 v14 w15 r15 v16 v17 r16 r17 r18 r19 r20 r21 v18 r22 r23 r24 v19 h1 g0 f20 h2 g1 f21 h3 g2 f22))) (va_Qi (fun (r : Int32) (r9 : Int32) => r9 = r) (fun (r : Int32) (t : State) => (∃ (o_h0_32 : Int32) (o_h1 : Nat → Int32) (o_h2 : Nat → Int32) (o_h3 : Nat → Int32), 0 ≤ o_h0_32.toInt ∧ o_h0_32.toInt ≤ 40 ∧ (pm_NW o_h1) ∧ (pm_KP o_h3) ∧ va_P (dC, dI) vwCl (wd_1ad11ebb h0 v0 r0 v1 v2 v3 v4 r1 r2 r3 r4 r5 r6 r7 v5 v6 r8 r9 r10 r11 v7 r12 r13 v8 v9 h1 h2 v10 v11 r14 v12 v13 h3 o_h0_32 w15 r15 v16 v17 r16 r17 r18 r19 r20 r21 v18 r22 r23 r24 v19 h1 g0 o_h1 h2 g1 o_h2 h3 g2 o_h3) t.heap ∧ va_K (dC, dI) vwCl [] t ∧ va_D (va_A (wd_1ad11ebb h0 v0 r0 v1 v2 v3 v4 r1 r2 r3 r4 r5 r6 r7 v5 v6 r8 r9 r10 r11 v7 r12 r13 v8 v9 h1 h2 v10 v11 r14 v12 v13 h3 v14 w15 r15 v16 v17 r16 r17 r18 r19 r20 r21 v18 r22 r23 r24 v19 h1 g0 f20 h2 g1 f21 h3 g2 f22) sz) (wd_1ad11ebb h0 v0 r0 v1 v2 v3 v4 r1 r2 r3 r4 r5 r6 r7 v5 v6 r8 r9 r10 r11 v7 r12 r13 v8 v9 h1 h2 v10 v11 r14 v12 v13 h3 o_h0_32 w15 r15 v16 v17 r16 r17 r18 r19 r20 r21 v18 r22 r23 r24 v19 h1 g0 o_h1 h2 g1 o_h2 h3 g2 o_h3))) (va_A (wd_1ad11ebb h0 v0 r0 v1 v2 v3 v4 r1 r2 r3 r4 r5 r6 r7 v5 v6 r8 r9 r10 r11 v7 r12 r13 v8 v9 h1 h2 v10 v11 r14 v12 v13 h3 v14 w15 r15 v16 v17 r16 r17 r18 r19 r20 r21 v18 r22 r23 r24 v19 h1 g0 f20 h2 g1 f21 h3 g2 f22) sz)) 0 0 (va_A (wd_1ad11ebb h0 v0 r0 v1 v2 v3 v4 r1 r2 r3 r4 r5 r6 r7 v5 v6 r8 r9 r10 r11 v7 r12 r13 v8 v9 h1 h2 v10 v11 r14 v12 v13 h3 v14 w15 r15 v16 v17 r16 r17 r18 r19 r20 r21 v18 r22 r23 r24 v19 h1 g0 f20 h2 g1 f21 h3 g2 f22) sz) := by
  refine Met.ofW (cc := cX12_give) (maxL := 2) (ret := (some .int)) (by decide) rfl ?_
  intro p e s m args below meth c s₁ B hml hv
  obtain ⟨i_v1a, i_v1b⟩ := i_v1
  obtain ⟨i_v5a, i_v5b⟩ := i_v5
  obtain ⟨i_v6a, i_v6b⟩ := i_v6
  obtain ⟨i_v7a, i_v7b⟩ := i_v7
  obtain ⟨i_v8a, i_v8b⟩ := i_v8
  obtain ⟨i_v9a, i_v9b⟩ := i_v9
  obtain ⟨i_v10a, i_v10b⟩ := i_v10
  obtain ⟨i_v14a, i_v14b⟩ := i_v14
  obtain ⟨i_v18a, i_v18b⟩ := i_v18
  obtain ⟨i_v19a, i_v19b⟩ := i_v19
  obtain ⟨rfl, hsz, hP, hK, hD0⟩ := hv
  have hx := B.exec
  have hb := B.bytes
  have hr := B.returns
  have hts := atoms_spec (ws := q_X12_give) B.pre
  have hown : s.vm.findClass RX12 = some m.cls := findClass_of_methodNamed B.named
  have hlocks := B.notSynchronized
  subst hsz
  have hD := hD0.self (sz := s.heap.size)
  generalize hAe : va_A (wd_1ad11ebb h0 v0 r0 v1 v2 v3 v4 r1 r2 r3 r4 r5 r6 r7 v5 v6 r8 r9 r10 r11 v7 r12 r13 v8 v9 h1 h2 v10 v11 r14 v12 v13 h3 v14 w15 r15 v16 v17 r16 r17 r18 r19 r20 r21 v18 r22 r23 r24 v19 h1 g0 f20 h2 g1 f21 h3 g2 f22) s.heap.size = A at hD ⊢
  have hA : ∀ q : Nat, s.heap.size ≤ q → A q := fun q h => by rw [← hAe]; exact Or.inr h
  have hS : va_S A s.heap s.heap [] := va_S.rf
  generalize hQ : (MQ below _ _ s 0 0 A) = Q
  have hl := lv_entry ([.ref h0, .int v23]) (n := 2) (Nat.le_of_ble_eq_true rfl)
  rw [lg_entry_eq]
  generalize (lg_sl ([.ref h0, .int v23]) ++ List.replicate (2 - (lg_sl ([.ref h0, .int v23])).length) Slot.unset).toArray = ls at hl ⊢
  have hl : lv_has ls 2 [(0, .ref h0), (1, .int v23)] := hl
  obtain ⟨H, hH⟩ : ∃ H : Heap, H = s.heap := ⟨_, rfl⟩
  obtain ⟨locs, hlocs⟩ : ∃ y : List Loc, y = [] := ⟨_, rfl⟩
  have hS : va_S A s.heap H locs := by rw [hH, hlocs]; exact va_S.rf
  have hP : va_P (dC, dI) vwCl (wd_1ad11ebb h0 v0 r0 v1 v2 v3 v4 r1 r2 r3 r4 r5 r6 r7 v5 v6 r8 r9 r10 r11 v7 r12 r13 v8 v9 h1 h2 v10 v11 r14 v12 v13 h3 v14 w15 r15 v16 v17 r16 r17 r18 r19 r20 r21 v18 r22 r23 r24 v19 h1 g0 f20 h2 g1 f21 h3 g2 f22) H := by rw [hH]; exact hP
  rw [← hH, ← hlocs]
  refine lv_aload_n hx hb dX12_give_0 rfl (lv_at hl 0 rfl) ?_
  refine lv_aload_n hx hb dX12_give_1 rfl (lv_at hl 0 rfl) ?_
  refine va_get (D := (dC, dI)) (ci := 12) (v := .int v9) (C := RX12) (T := TX12) (N := 48) hx hb hts (fun _ h => List.mem_cons_of_mem _ (List.mem_append_right _ h)) hown hK hP 0 rfl rfl 23 (by decide) (hts (.fieldLink RX12 262 "LeftArgumentsModel" "isOffice" "Z") (List.mem_cons_of_mem _ (List.mem_append_left _ (List.mem_of_getElem? (i := 0) rfl)))) (fun _ h9 => h9) rfl dX12_give_2 ?_
  refine lv_if_ne (tgt := 12) hx hb dX12_give_5 (by decide) (fun c1 => ?_) (fun c1 => ?_)
  · skip
    have fc1 : ¬ (v9.toInt = 0) := fun h9 => c1 (Int32.toInt_inj.mp h9)
    refine lv_iload_n hx hb dX12_give_12 rfl (lv_at hl 1 rfl) ?_
    refine lv_iconst (v := 1) hx hb dX12_give_13 (by decide) ?_
    refine lv_bipush (v := 50) hx hb dX12_give_14 (by decide) ?_
    have hPc := hP.sub (ws' := []) [] rfl
    have hDc := hD.sub (ws' := []) [] (by decide) rfl
    have hKc := hK.sub (tys' := []) [] rfl
    have hFc := va_free (wc := []) hD hS hA [] rfl
    refine va_calli (va_runS (As := [.int v23, .int 1, .int 50]) (rest := [.ref h0]) ⟨hx, hb, hml, hown, hts⟩ (k_X12_in_10 l dC dI v23  H.size) (va_cwS 3 hts g_X12_give_0 rfl rfl rfl (by decide +kernel) ⟨Nat.le_of_ble_eq_true rfl, Nat.le_of_ble_eq_true rfl⟩) (pv_PS hPc hKc hDc) rfl rfl hl.1 rfl (lv_room (Nat.le_of_ble_eq_true rfl)) dX12_give_16 ⟨Nat.le_of_ble_eq_true rfl, Nat.le_of_ble_eq_true rfl⟩) hS (fun q _ h => hFc q h) hFc (fun ra2 u t H1 locs ht hvm hwra2 hB hz1 hk1 hS => ?_)
    try rw [hwra2] at hB
    obtain ⟨pt0_ra2, pt1_ra2, pt2_ra2, pt3_ra2, pt4_ra2, hP1, hK1, hD1⟩ := hB
    rw [ht] at hP1
    obtain ⟨hP2, hD2⟩ := va_join (wr := (wd_1ad11ebb h0 v0 r0 v1 v2 v3 v4 r1 r2 r3 r4 r5 r6 r7 v5 v6 r8 r9 r10 r11 v7 r12 r13 v8 v9 h1 h2 v10 v11 r14 v12 v13 h3 v14 w15 r15 v16 v17 r16 r17 r18 r19 r20 r21 v18 r22 r23 r24 v19 h1 g0 f20 h2 g1 f21 h3 g2 f22)) (w1 := []) hP hD [] [0, 1, 2, 3] rfl rfl (by decide) (by decide) hk1 hFc hP1 hD1
    clear hP hD hPc hDc hKc hFc hP1 hK1 hD1 hk1 hz1
    generalize H1 = H at hP2 hS ⊢
    have hP : va_P (dC, dI) vwCl (wd_1ad11ebb h0 v0 r0 v1 v2 v3 v4 r1 r2 r3 r4 r5 r6 r7 v5 v6 r8 r9 r10 r11 v7 r12 r13 v8 v9 h1 h2 v10 v11 r14 v12 v13 h3 v14 w15 r15 v16 v17 r16 r17 r18 r19 r20 r21 v18 r22 r23 r24 v19 h1 g0 f20 h2 g1 f21 h3 g2 f22) H := hP2
    have hD : va_D A (wd_1ad11ebb h0 v0 r0 v1 v2 v3 v4 r1 r2 r3 r4 r5 r6 r7 v5 v6 r8 r9 r10 r11 v7 r12 r13 v8 v9 h1 h2 v10 v11 r14 v12 v13 h3 v14 w15 r15 v16 v17 r16 r17 r18 r19 r20 r21 v18 r22 r23 r24 v19 h1 g0 f20 h2 g1 f21 h3 g2 f22) := hD2
    clear hP2 hD2
    refine lv_if_eq (tgt := 37) hx hb dX12_give_19 (by decide) (fun c3 => ?_) (fun c3 => ?_)
    · skip
      have fc3 : ra2.toInt = 0 := congrArg Int32.toInt c3
      refine lv_iconst (v := 1) hx hb dX12_give_37 (by decide) ?_
      refine lv_goto (tgt := 42) hx hb dX12_give_38 (by decide) ?_
      have hPc := hP.sub (ws' := (wd_5b5f7811 h0 v0 r0 v1 v2 v3 v4 r1 r2 r3 r4 r5 r6 r7 v5 v6 r8 r9 r10 r11 v7 r12 r13 v8 v9 h1 h2 v10 v11 r14 v12 v13 h3 v14 w15 r15 v16 v17 r16 r17 r18 r19 r20 r21 v18 r22 r23 r24 v19 h2 g1 f21)) [0, 2] rfl
      have hDc := hD.sub (ws' := (wd_5b5f7811 h0 v0 r0 v1 v2 v3 v4 r1 r2 r3 r4 r5 r6 r7 v5 v6 r8 r9 r10 r11 v7 r12 r13 v8 v9 h1 h2 v10 v11 r14 v12 v13 h3 v14 w15 r15 v16 v17 r16 r17 r18 r19 r20 r21 v18 r22 r23 r24 v19 h2 g1 f21)) [0, 2] (by decide) rfl
      have hKc := hK.sub (tys' := [(g1, .int)]) [1] rfl
      have hFc := va_free (wc := (wd_5b5f7811 h0 v0 r0 v1 v2 v3 v4 r1 r2 r3 r4 r5 r6 r7 v5 v6 r8 r9 r10 r11 v7 r12 r13 v8 v9 h1 h2 v10 v11 r14 v12 v13 h3 v14 w15 r15 v16 v17 r16 r17 r18 r19 r20 r21 v18 r22 r23 r24 v19 h2 g1 f21)) hD hS hA [0, 2] rfl
      refine va_calli (va_runV (As := [.int 1]) (rest := []) ⟨hx, hb, hml, hown, hts⟩ (k_X12_isRefused_4 l dC dI h0 h2 v0 r0 v1 v2 v3 v4 r1 r2 r3 r4 r5 r6 r7 v5 v6 r8 r9 r10 r11 v7 r12 r13 v8 v9 h1 v10 v11 r14 v12 v13 h3 v14 w15 r15 v16 v17 r16 r17 r18 r19 r20 r21 v18 r22 r23 r24 v19 g1 f21 ⟨i_v1a, i_v1b⟩ ⟨i_v5a, i_v5b⟩ ⟨i_v6a, i_v6b⟩ ⟨i_v7a, i_v7b⟩ ⟨i_v8a, i_v8b⟩ ⟨i_v9a, i_v9b⟩ ⟨i_v10a, i_v10b⟩ ⟨i_v14a, i_v14b⟩ ⟨i_v18a, i_v18b⟩ ⟨i_v19a, i_v19b⟩ H.size) (cwV 1 hts g_X12_give_1 rfl rfl rfl (by decide +kernel) ⟨Nat.le_of_ble_eq_true rfl, Nat.le_of_ble_eq_true rfl⟩) (pv_PV12 hPc hKc hDc (q0 := 0) rfl) rfl rfl hl.1 rfl (lv_room (Nat.le_of_ble_eq_true rfl)) dX12_give_42 ⟨Nat.le_of_ble_eq_true rfl, Nat.le_of_ble_eq_true rfl⟩) hS (fun q _ h => hFc q h) hFc (fun ra4 u t H1 locs ht hvm hwra4 hB hz1 hk1 hS => ?_)
      try rw [hwra4] at hB
      obtain ⟨fn5, pt0_ra4, pt1_ra4, hP1, hK1, hD1⟩ := hB
      rw [ht] at hP1
      obtain ⟨hP2, hD2⟩ := va_join (wr := (wd_dd47ee91 h1 g0 f20 h3 g2 f22)) (w1 := (wd_5b5f7811 h0 v0 r0 v1 v2 v3 v4 r1 r2 r3 r4 r5 r6 r7 v5 v6 r8 r9 r10 r11 v7 r12 r13 v8 v9 h1 h2 v10 v11 r14 v12 v13 h3 v14 w15 r15 v16 v17 r16 r17 r18 r19 r20 r21 v18 r22 r23 r24 v19 h2 g1 fn5)) hP hD [0, 2] [1, 3] rfl rfl (by decide) (by decide) hk1 hFc hP1 hD1
      clear hP hD hPc hDc hKc hFc hP1 hK1 hD1 hk1 hz1
      generalize H1 = H at hP2 hS ⊢
      have hP := hP2.sub (ws' := (wd_1ad11ebb h0 v0 r0 v1 v2 v3 v4 r1 r2 r3 r4 r5 r6 r7 v5 v6 r8 r9 r10 r11 v7 r12 r13 v8 v9 h1 h2 v10 v11 r14 v12 v13 h3 v14 w15 r15 v16 v17 r16 r17 r18 r19 r20 r21 v18 r22 r23 r24 v19 h1 g0 f20 h2 g1 fn5 h3 g2 f22)) [2, 0, 3, 1] rfl
      have hD := hD2.sub (ws' := (wd_1ad11ebb h0 v0 r0 v1 v2 v3 v4 r1 r2 r3 r4 r5 r6 r7 v5 v6 r8 r9 r10 r11 v7 r12 r13 v8 v9 h1 h2 v10 v11 r14 v12 v13 h3 v14 w15 r15 v16 v17 r16 r17 r18 r19 r20 r21 v18 r22 r23 r24 v19 h1 g0 f20 h2 g1 fn5 h3 g2 f22)) [2, 0, 3, 1] (by decide) rfl
      clear hP2 hD2
      obtain rfl : ra4 = (1 : Int32) := pv_cs (by decide) pt0_ra4 pt1_ra4
      refine lv_if_eq (tgt := 50) hx hb dX12_give_45 (by decide) (fun c => absurd c (by decide)) (fun _ => ?_)
      refine lv_iconst (v := (-1)) hx hb dX12_give_48 (by decide) ?_
      subst hQ
      have hP9 := hP.sub (ws' := (wd_1ad11ebb h0 v0 r0 v1 v2 v3 v4 r1 r2 r3 r4 r5 r6 r7 v5 v6 r8 r9 r10 r11 v7 r12 r13 v8 v9 h1 h2 v10 v11 r14 v12 v13 h3 v14 w15 r15 v16 v17 r16 r17 r18 r19 r20 r21 v18 r22 r23 r24 v19 h1 g0 f20 h2 g1 fn5 h3 g2 f22)) [0, 1, 2, 3] rfl
      have hD9 := hD.sub (ws' := (wd_1ad11ebb h0 v0 r0 v1 v2 v3 v4 r1 r2 r3 r4 r5 r6 r7 v5 v6 r8 r9 r10 r11 v7 r12 r13 v8 v9 h1 h2 v10 v11 r14 v12 v13 h3 v14 w15 r15 v16 v17 r16 r17 r18 r19 r20 r21 v18 r22 r23 r24 v19 h1 g0 f20 h2 g1 fn5 h3 g2 f22)) [0, 1, 2, 3] (by decide) rfl
      have hK9 := hK.sub (tys' := []) [] rfl
      exact W.iret (v := (-1)) hx hb hr (fun t ht hW => ⟨⟨(-1), (-1), rfl, rfl, ⟨v14, f20, fn5, f22, i_v14a, i_v14b, ia_f20, ia_f22, by rw [ht]; exact hP9, va_K.moved hW.alike hK9, hD9⟩⟩, hS.F ht⟩) hS.2.2 dX12_give_49
    · skip
      have fc3 : ¬ (ra2.toInt = 0) := fun h9 => c3 (Int32.toInt_inj.mp h9)
      refine lv_aload_n hx hb dX12_give_22 rfl (lv_at hl 0 rfl) ?_
      refine va_get (D := (dC, dI)) (ci := 12) (v := .ref h1) (C := RX12) (T := TX12) (N := 48) hx hb hts (fun _ h => List.mem_cons_of_mem _ (List.mem_append_right _ h)) hown hK hP 0 rfl rfl 24 (by decide) (hts (.fieldLink RX12 52 "LeftArgumentsModel" "now" "[I") (List.mem_cons_of_mem _ (List.mem_append_left _ (List.mem_of_getElem? (i := 10) rfl)))) (fun _ h9 => h9) rfl dX12_give_23 ?_
      refine lv_bipush (v := 64) hx hb dX12_give_26 (by decide) ?_
      refine va_iald hx hb hK hP 1 0 rfl rfl (pv_c (x := 64) (n := 247) (by decide)) dX12_give_28 ?_
      refine lv_topi (fun t6 et6 => ?_)
      have mmt6 : f20 (Int32.toNatClampNeg 64) = t6 := et6.symm
      refine lv_iload_n hx hb dX12_give_29 rfl (lv_at hl 1 rfl) ?_
      refine lv_iadd hx hb dX12_give_30 ?_
      refine lv_topi (fun t7 et7 => ?_)
      refine lv_sipush (v := 999) hx hb dX12_give_31 (by decide) ?_
      refine lv_icmp_le (tgt := 41) hx hb dX12_give_34 (by decide) (fun c8 => ?_) (fun c8 => ?_)
      · skip
        have fc8 : t7.toInt ≤ 999 := Int32.le_iff_toInt_le.mp c8
        refine lv_iconst (v := (-1)) hx hb dX12_give_41 (by decide) ?_
        have hPc := hP.sub (ws' := (wd_171f232f h0 v0 r0 v1 v2 v3 v4 r1 r2 r3 r4 r5 r6 r7 v5 v6 r8 r9 r10 r11 v7 r12 r13 v8 v9 h1 h2 v10 v11 r14 v12 v13 h3 v14 w15 r15 v16 v17 r16 r17 r18 r19 r20 r21 v18 r22 r23 r24 v19)) [0] rfl
        have hDc := hD.sub (ws' := (wd_171f232f h0 v0 r0 v1 v2 v3 v4 r1 r2 r3 r4 r5 r6 r7 v5 v6 r8 r9 r10 r11 v7 r12 r13 v8 v9 h1 h2 v10 v11 r14 v12 v13 h3 v14 w15 r15 v16 v17 r16 r17 r18 r19 r20 r21 v18 r22 r23 r24 v19)) [0] (by decide) rfl
        have hKc := hK.sub (tys' := []) [] rfl
        have hFc := va_free (wc := (wd_171f232f h0 v0 r0 v1 v2 v3 v4 r1 r2 r3 r4 r5 r6 r7 v5 v6 r8 r9 r10 r11 v7 r12 r13 v8 v9 h1 h2 v10 v11 r14 v12 v13 h3 v14 w15 r15 v16 v17 r16 r17 r18 r19 r20 r21 v18 r22 r23 r24 v19)) hD hS hA [0] rfl
        refine va_calli (va_runV (As := [.int (-1)]) (rest := []) ⟨hx, hb, hml, hown, hts⟩ (k_X12_isRefused l dC dI h0 v0 r0 v1 v2 v3 v4 r1 r2 r3 r4 r5 r6 r7 v5 v6 r8 r9 r10 r11 v7 r12 r13 v8 v9 h1 h2 v10 v11 r14 v12 v13 h3 v14 w15 r15 v16 v17 r16 r17 r18 r19 r20 r21 v18 r22 r23 r24 v19 ⟨i_v1a, i_v1b⟩ ⟨i_v5a, i_v5b⟩ ⟨i_v6a, i_v6b⟩ ⟨i_v7a, i_v7b⟩ ⟨i_v8a, i_v8b⟩ ⟨i_v9a, i_v9b⟩ ⟨i_v10a, i_v10b⟩ ⟨i_v14a, i_v14b⟩ ⟨i_v18a, i_v18b⟩ ⟨i_v19a, i_v19b⟩ H.size) (cwV 1 hts g_X12_give_2 rfl rfl rfl (by decide +kernel) ⟨Nat.le_of_ble_eq_true rfl, Nat.le_of_ble_eq_true rfl⟩) (pv_PV12 hPc hKc hDc (q0 := 0) rfl) rfl rfl hl.1 rfl (lv_room (Nat.le_of_ble_eq_true rfl)) dX12_give_42 ⟨Nat.le_of_ble_eq_true rfl, Nat.le_of_ble_eq_true rfl⟩) hS (fun q _ h => hFc q h) hFc (fun ra9 u t H1 locs ht hvm hwra9 hB hz1 hk1 hS => ?_)
        try rw [hwra9] at hB
        obtain ⟨pt0_ra9, pt1_ra9, hP1, hK1, hD1⟩ := hB
        rw [ht] at hP1
        obtain ⟨hP2, hD2⟩ := va_join (wr := (wd_9ef0db97 h1 g0 f20 h2 g1 f21 h3 g2 f22)) (w1 := (wd_171f232f h0 v0 r0 v1 v2 v3 v4 r1 r2 r3 r4 r5 r6 r7 v5 v6 r8 r9 r10 r11 v7 r12 r13 v8 v9 h1 h2 v10 v11 r14 v12 v13 h3 v14 w15 r15 v16 v17 r16 r17 r18 r19 r20 r21 v18 r22 r23 r24 v19)) hP hD [0] [1, 2, 3] rfl rfl (by decide) (by decide) hk1 hFc hP1 hD1
        clear hP hD hPc hDc hKc hFc hP1 hK1 hD1 hk1 hz1
        generalize H1 = H at hP2 hS ⊢
        have hP := hP2.sub (ws' := (wd_1ad11ebb h0 v0 r0 v1 v2 v3 v4 r1 r2 r3 r4 r5 r6 r7 v5 v6 r8 r9 r10 r11 v7 r12 r13 v8 v9 h1 h2 v10 v11 r14 v12 v13 h3 v14 w15 r15 v16 v17 r16 r17 r18 r19 r20 r21 v18 r22 r23 r24 v19 h1 g0 f20 h2 g1 f21 h3 g2 f22)) [3, 0, 1, 2] rfl
        have hD := hD2.sub (ws' := (wd_1ad11ebb h0 v0 r0 v1 v2 v3 v4 r1 r2 r3 r4 r5 r6 r7 v5 v6 r8 r9 r10 r11 v7 r12 r13 v8 v9 h1 h2 v10 v11 r14 v12 v13 h3 v14 w15 r15 v16 v17 r16 r17 r18 r19 r20 r21 v18 r22 r23 r24 v19 h1 g0 f20 h2 g1 f21 h3 g2 f22)) [3, 0, 1, 2] (by decide) rfl
        clear hP2 hD2
        obtain rfl : ra9 = (0 : Int32) := pv_cs (by decide) pt0_ra9 pt1_ra9
        refine lv_if_eq (tgt := 50) hx hb dX12_give_45 (by decide) (fun _ => ?_) (fun c => absurd (by decide) c)
        refine lv_aload_n hx hb dX12_give_50 rfl (lv_at hl 0 rfl) ?_
        have hPc := hP.sub (ws' := (wd_baa7feb8 h0 v0 r0 v1 v2 v3 v4 r1 r2 r3 r4 r5 r6 r7 v5 v6 r8 r9 r10 r11 v7 r12 r13 v8 v9 h1 h2 v10 v11 r14 v12 v13 h3 v14 w15 r15 v16 v17 r16 r17 r18 r19 r20 r21 v18 r22 r23 r24 v19 h1 g0 f20 h3 g2 f22)) [0, 1, 3] rfl
        have hDc := hD.sub (ws' := (wd_baa7feb8 h0 v0 r0 v1 v2 v3 v4 r1 r2 r3 r4 r5 r6 r7 v5 v6 r8 r9 r10 r11 v7 r12 r13 v8 v9 h1 h2 v10 v11 r14 v12 v13 h3 v14 w15 r15 v16 v17 r16 r17 r18 r19 r20 r21 v18 r22 r23 r24 v19 h1 g0 f20 h3 g2 f22)) [0, 1, 3] (by decide) rfl
        have hKc := hK.sub (tys' := [(g0, .int), (g2, .int)]) [0, 2] rfl
        have hFc := va_free (wc := (wd_baa7feb8 h0 v0 r0 v1 v2 v3 v4 r1 r2 r3 r4 r5 r6 r7 v5 v6 r8 r9 r10 r11 v7 r12 r13 v8 v9 h1 h2 v10 v11 r14 v12 v13 h3 v14 w15 r15 v16 v17 r16 r17 r18 r19 r20 r21 v18 r22 r23 r24 v19 h1 g0 f20 h3 g2 f22)) hD hS hA [0, 1, 3] rfl
        refine va_callv (va_runV (As := []) (rest := []) ⟨hx, hb, hml, hown, hts⟩ (k_X12_keep l dC dI h0 h1 h3 v0 r0 v1 v2 v3 v4 r1 r2 r3 r4 r5 r6 r7 v5 v6 r8 r9 r10 r11 v7 r12 r13 v8 v9 h2 v10 v11 r14 v12 v13 v14 w15 r15 v16 v17 r16 r17 r18 r19 r20 r21 v18 r22 r23 r24 v19 g0 f20 g2 f22 ⟨i_v1a, i_v1b⟩ ⟨i_v5a, i_v5b⟩ ⟨i_v6a, i_v6b⟩ ⟨i_v7a, i_v7b⟩ ⟨i_v8a, i_v8b⟩ ⟨i_v9a, i_v9b⟩ ⟨i_v10a, i_v10b⟩ ⟨i_v14a, i_v14b⟩ ⟨i_v18a, i_v18b⟩ ⟨i_v19a, i_v19b⟩ ia_f20 ia_f22 H.size) (cwV 0 hts g_X12_give_3 rfl rfl rfl (by decide +kernel) ⟨Nat.le_of_ble_eq_true rfl, Nat.le_of_ble_eq_true rfl⟩) (pv_PV12 hPc hKc hDc (q0 := 0) rfl) rfl rfl hl.1 rfl (lv_room (Nat.le_of_ble_eq_true rfl)) dX12_give_51 ⟨Nat.le_of_ble_eq_true rfl, Nat.le_of_ble_eq_true rfl⟩) hS (fun q _ h => hFc q h) hFc (fun u t H1 locs ht hvm hwra10 hB hz1 hk1 hS => ?_)
        obtain ⟨x11, fn12, oa_x11, ob_x11, ia_fn12, hP1, hK1, hD1⟩ := hB
        rw [ht] at hP1
        obtain ⟨hP2, hD2⟩ := va_join (wr := (wd_cd0f205f h2 g1 f21)) (w1 := (wd_baa7feb8 h0 v0 r0 v1 v2 v3 v4 r1 r2 r3 r4 r5 r6 r7 v5 v6 r8 r9 r10 r11 v7 r12 r13 v8 v9 h1 h2 v10 v11 r14 v12 v13 h3 x11 w15 r15 v16 v17 r16 r17 r18 r19 r20 r21 v18 r22 r23 r24 v19 h1 g0 f20 h3 g2 fn12)) hP hD [0, 1, 3] [2] rfl rfl (by decide) (by decide) hk1 hFc hP1 hD1
        clear hP hD hPc hDc hKc hFc hP1 hK1 hD1 hk1 hz1
        generalize H1 = H at hP2 hS ⊢
        have hP := hP2.sub (ws' := (wd_1ad11ebb h0 v0 r0 v1 v2 v3 v4 r1 r2 r3 r4 r5 r6 r7 v5 v6 r8 r9 r10 r11 v7 r12 r13 v8 v9 h1 h2 v10 v11 r14 v12 v13 h3 x11 w15 r15 v16 v17 r16 r17 r18 r19 r20 r21 v18 r22 r23 r24 v19 h1 g0 f20 h2 g1 f21 h3 g2 fn12)) [1, 2, 0, 3] rfl
        have hD := hD2.sub (ws' := (wd_1ad11ebb h0 v0 r0 v1 v2 v3 v4 r1 r2 r3 r4 r5 r6 r7 v5 v6 r8 r9 r10 r11 v7 r12 r13 v8 v9 h1 h2 v10 v11 r14 v12 v13 h3 x11 w15 r15 v16 v17 r16 r17 r18 r19 r20 r21 v18 r22 r23 r24 v19 h1 g0 f20 h2 g1 f21 h3 g2 fn12)) [1, 2, 0, 3] (by decide) rfl
        clear hP2 hD2
        refine lv_aload_n hx hb dX12_give_54 rfl (lv_at hl 0 rfl) ?_
        refine va_get (D := (dC, dI)) (ci := 12) (v := .ref h1) (C := RX12) (T := TX12) (N := 48) hx hb hts (fun _ h => List.mem_cons_of_mem _ (List.mem_append_right _ h)) hown hK hP 0 rfl rfl 24 (by decide) (hts (.fieldLink RX12 52 "LeftArgumentsModel" "now" "[I") (List.mem_cons_of_mem _ (List.mem_append_left _ (List.mem_of_getElem? (i := 10) rfl)))) (fun _ h9 => h9) rfl dX12_give_55 ?_
        refine lv_bipush (v := 64) hx hb dX12_give_58 (by decide) ?_
        refine lv_dup2_11 hx hb dX12_give_60 rfl rfl ?_
        refine va_iald hx hb hK hP 1 0 rfl rfl (pv_c (x := 64) (n := 247) (by decide)) dX12_give_61 ?_
        refine lv_topi (fun t13 et13 => ?_)
        have gmt13 : t13.toInt = t6.toInt := by rw [et13, mmt6]
        refine lv_iload_n hx hb dX12_give_62 rfl (lv_at hl 1 rfl) ?_
        refine lv_iadd hx hb dX12_give_63 ?_
        refine lv_topi (fun t14 et14 => ?_)
        refine va_iast hx hb hK hP hD hS 1 0 rfl rfl (pv_c (x := 64) (n := 247) (by decide)) dX12_give_64 (fun H locs hP hD hS => ?_)
        obtain ⟨fn15, efn15⟩ : ∃ g : Nat → Int32, g = upd f20 (Int32.toNatClampNeg 64) t14 := ⟨_, rfl⟩
        rw [← efn15] at hP hD
        have ia_fn15 : pm_NW fn15 := by rw [efn15]; exact pm_NW.st ia_f20 (z := 64) (y := t14.toInt) (by decide) rfl (by omega) (fun b9 h8 h9 => ⟨fun _ => ⟨by omega, by omega⟩, fun _ => ⟨by omega, by omega⟩⟩) (fun _ => ⟨by omega, by omega⟩) (fun b9 h8 h9 => ⟨fun _ => by omega, fun _ => by omega⟩)
        have mmfn15_64 : fn15 (Int32.toNatClampNeg 64) = t14 := by rw [efn15]; exact pk_us
        have hP : va_P (dC, dI) vwCl (wd_1ad11ebb h0 v0 r0 v1 v2 v3 v4 r1 r2 r3 r4 r5 r6 r7 v5 v6 r8 r9 r10 r11 v7 r12 r13 v8 v9 h1 h2 v10 v11 r14 v12 v13 h3 x11 w15 r15 v16 v17 r16 r17 r18 r19 r20 r21 v18 r22 r23 r24 v19 h1 g0 fn15 h2 g1 f21 h3 g2 fn12) H := hP
        have hD : va_D A (wd_1ad11ebb h0 v0 r0 v1 v2 v3 v4 r1 r2 r3 r4 r5 r6 r7 v5 v6 r8 r9 r10 r11 v7 r12 r13 v8 v9 h1 h2 v10 v11 r14 v12 v13 h3 x11 w15 r15 v16 v17 r16 r17 r18 r19 r20 r21 v18 r22 r23 r24 v19 h1 g0 fn15 h2 g1 f21 h3 g2 fn12) := hD
        refine lv_aload_n hx hb dX12_give_65 rfl (lv_at hl 0 rfl) ?_
        refine va_get (D := (dC, dI)) (ci := 12) (v := .ref h1) (C := RX12) (T := TX12) (N := 48) hx hb hts (fun _ h => List.mem_cons_of_mem _ (List.mem_append_right _ h)) hown hK hP 0 rfl rfl 24 (by decide) (hts (.fieldLink RX12 52 "LeftArgumentsModel" "now" "[I") (List.mem_cons_of_mem _ (List.mem_append_left _ (List.mem_of_getElem? (i := 10) rfl)))) (fun _ h9 => h9) rfl dX12_give_66 ?_
        refine lv_bipush (v := 64) hx hb dX12_give_69 (by decide) ?_
        refine va_iald hx hb hK hP 1 0 rfl rfl (pv_c (x := 64) (n := 247) (by decide)) dX12_give_71 ?_
        refine lv_topi (fun t16 et16 => ?_)
        have gmt16 : t16.toInt = t14.toInt := by rw [et16, mmfn15_64]
        subst hQ
        have hP9 := hP.sub (ws' := (wd_1ad11ebb h0 v0 r0 v1 v2 v3 v4 r1 r2 r3 r4 r5 r6 r7 v5 v6 r8 r9 r10 r11 v7 r12 r13 v8 v9 h1 h2 v10 v11 r14 v12 v13 h3 x11 w15 r15 v16 v17 r16 r17 r18 r19 r20 r21 v18 r22 r23 r24 v19 h1 g0 fn15 h2 g1 f21 h3 g2 fn12)) [0, 1, 2, 3] rfl
        have hD9 := hD.sub (ws' := (wd_1ad11ebb h0 v0 r0 v1 v2 v3 v4 r1 r2 r3 r4 r5 r6 r7 v5 v6 r8 r9 r10 r11 v7 r12 r13 v8 v9 h1 h2 v10 v11 r14 v12 v13 h3 x11 w15 r15 v16 v17 r16 r17 r18 r19 r20 r21 v18 r22 r23 r24 v19 h1 g0 fn15 h2 g1 f21 h3 g2 fn12)) [0, 1, 2, 3] (by decide) rfl
        have hK9 := hK.sub (tys' := []) [] rfl
        exact W.iret (v := t16) hx hb hr (fun t ht hW => ⟨⟨t16, t16, rfl, rfl, ⟨x11, fn15, f21, fn12, by first | omega | decide, ob_x11, ia_fn15, ia_fn12, by rw [ht]; exact hP9, va_K.moved hW.alike hK9, hD9⟩⟩, hS.F ht⟩) hS.2.2 dX12_give_72
      · skip
        have fc8 : ¬ (t7.toInt ≤ 999) := fun h9 => c8 (Int32.le_iff_toInt_le.mpr h9)
        refine lv_iconst (v := 1) hx hb dX12_give_37 (by decide) ?_
        refine lv_goto (tgt := 42) hx hb dX12_give_38 (by decide) ?_
        have hPc := hP.sub (ws' := (wd_5b5f7811 h0 v0 r0 v1 v2 v3 v4 r1 r2 r3 r4 r5 r6 r7 v5 v6 r8 r9 r10 r11 v7 r12 r13 v8 v9 h1 h2 v10 v11 r14 v12 v13 h3 v14 w15 r15 v16 v17 r16 r17 r18 r19 r20 r21 v18 r22 r23 r24 v19 h2 g1 f21)) [0, 2] rfl
        have hDc := hD.sub (ws' := (wd_5b5f7811 h0 v0 r0 v1 v2 v3 v4 r1 r2 r3 r4 r5 r6 r7 v5 v6 r8 r9 r10 r11 v7 r12 r13 v8 v9 h1 h2 v10 v11 r14 v12 v13 h3 v14 w15 r15 v16 v17 r16 r17 r18 r19 r20 r21 v18 r22 r23 r24 v19 h2 g1 f21)) [0, 2] (by decide) rfl
        have hKc := hK.sub (tys' := [(g1, .int)]) [1] rfl
        have hFc := va_free (wc := (wd_5b5f7811 h0 v0 r0 v1 v2 v3 v4 r1 r2 r3 r4 r5 r6 r7 v5 v6 r8 r9 r10 r11 v7 r12 r13 v8 v9 h1 h2 v10 v11 r14 v12 v13 h3 v14 w15 r15 v16 v17 r16 r17 r18 r19 r20 r21 v18 r22 r23 r24 v19 h2 g1 f21)) hD hS hA [0, 2] rfl
        refine va_calli (va_runV (As := [.int 1]) (rest := []) ⟨hx, hb, hml, hown, hts⟩ (k_X12_isRefused_4 l dC dI h0 h2 v0 r0 v1 v2 v3 v4 r1 r2 r3 r4 r5 r6 r7 v5 v6 r8 r9 r10 r11 v7 r12 r13 v8 v9 h1 v10 v11 r14 v12 v13 h3 v14 w15 r15 v16 v17 r16 r17 r18 r19 r20 r21 v18 r22 r23 r24 v19 g1 f21 ⟨i_v1a, i_v1b⟩ ⟨i_v5a, i_v5b⟩ ⟨i_v6a, i_v6b⟩ ⟨i_v7a, i_v7b⟩ ⟨i_v8a, i_v8b⟩ ⟨i_v9a, i_v9b⟩ ⟨i_v10a, i_v10b⟩ ⟨i_v14a, i_v14b⟩ ⟨i_v18a, i_v18b⟩ ⟨i_v19a, i_v19b⟩ H.size) (cwV 1 hts g_X12_give_1 rfl rfl rfl (by decide +kernel) ⟨Nat.le_of_ble_eq_true rfl, Nat.le_of_ble_eq_true rfl⟩) (pv_PV12 hPc hKc hDc (q0 := 0) rfl) rfl rfl hl.1 rfl (lv_room (Nat.le_of_ble_eq_true rfl)) dX12_give_42 ⟨Nat.le_of_ble_eq_true rfl, Nat.le_of_ble_eq_true rfl⟩) hS (fun q _ h => hFc q h) hFc (fun ra17 u t H1 locs ht hvm hwra17 hB hz1 hk1 hS => ?_)
        try rw [hwra17] at hB
        obtain ⟨fn18, pt0_ra17, pt1_ra17, hP1, hK1, hD1⟩ := hB
        rw [ht] at hP1
        obtain ⟨hP2, hD2⟩ := va_join (wr := (wd_dd47ee91 h1 g0 f20 h3 g2 f22)) (w1 := (wd_5b5f7811 h0 v0 r0 v1 v2 v3 v4 r1 r2 r3 r4 r5 r6 r7 v5 v6 r8 r9 r10 r11 v7 r12 r13 v8 v9 h1 h2 v10 v11 r14 v12 v13 h3 v14 w15 r15 v16 v17 r16 r17 r18 r19 r20 r21 v18 r22 r23 r24 v19 h2 g1 fn18)) hP hD [0, 2] [1, 3] rfl rfl (by decide) (by decide) hk1 hFc hP1 hD1
        clear hP hD hPc hDc hKc hFc hP1 hK1 hD1 hk1 hz1
        generalize H1 = H at hP2 hS ⊢
        have hP := hP2.sub (ws' := (wd_1ad11ebb h0 v0 r0 v1 v2 v3 v4 r1 r2 r3 r4 r5 r6 r7 v5 v6 r8 r9 r10 r11 v7 r12 r13 v8 v9 h1 h2 v10 v11 r14 v12 v13 h3 v14 w15 r15 v16 v17 r16 r17 r18 r19 r20 r21 v18 r22 r23 r24 v19 h1 g0 f20 h2 g1 fn18 h3 g2 f22)) [2, 0, 3, 1] rfl
        have hD := hD2.sub (ws' := (wd_1ad11ebb h0 v0 r0 v1 v2 v3 v4 r1 r2 r3 r4 r5 r6 r7 v5 v6 r8 r9 r10 r11 v7 r12 r13 v8 v9 h1 h2 v10 v11 r14 v12 v13 h3 v14 w15 r15 v16 v17 r16 r17 r18 r19 r20 r21 v18 r22 r23 r24 v19 h1 g0 f20 h2 g1 fn18 h3 g2 f22)) [2, 0, 3, 1] (by decide) rfl
        clear hP2 hD2
        obtain rfl : ra17 = (1 : Int32) := pv_cs (by decide) pt0_ra17 pt1_ra17
        refine lv_if_eq (tgt := 50) hx hb dX12_give_45 (by decide) (fun c => absurd c (by decide)) (fun _ => ?_)
        refine lv_iconst (v := (-1)) hx hb dX12_give_48 (by decide) ?_
        subst hQ
        have hP9 := hP.sub (ws' := (wd_1ad11ebb h0 v0 r0 v1 v2 v3 v4 r1 r2 r3 r4 r5 r6 r7 v5 v6 r8 r9 r10 r11 v7 r12 r13 v8 v9 h1 h2 v10 v11 r14 v12 v13 h3 v14 w15 r15 v16 v17 r16 r17 r18 r19 r20 r21 v18 r22 r23 r24 v19 h1 g0 f20 h2 g1 fn18 h3 g2 f22)) [0, 1, 2, 3] rfl
        have hD9 := hD.sub (ws' := (wd_1ad11ebb h0 v0 r0 v1 v2 v3 v4 r1 r2 r3 r4 r5 r6 r7 v5 v6 r8 r9 r10 r11 v7 r12 r13 v8 v9 h1 h2 v10 v11 r14 v12 v13 h3 v14 w15 r15 v16 v17 r16 r17 r18 r19 r20 r21 v18 r22 r23 r24 v19 h1 g0 f20 h2 g1 fn18 h3 g2 f22)) [0, 1, 2, 3] (by decide) rfl
        have hK9 := hK.sub (tys' := []) [] rfl
        exact W.iret (v := (-1)) hx hb hr (fun t ht hW => ⟨⟨(-1), (-1), rfl, rfl, ⟨v14, f20, fn18, f22, i_v14a, i_v14b, ia_f20, ia_f22, by rw [ht]; exact hP9, va_K.moved hW.alike hK9, hD9⟩⟩, hS.F ht⟩) hS.2.2 dX12_give_49
  · skip
    have fc1 : v9.toInt = 0 := congrArg Int32.toInt c1
    refine lv_iconst (v := 0) hx hb dX12_give_8 (by decide) ?_
    refine lv_goto (tgt := 42) hx hb dX12_give_9 (by decide) ?_
    have hPc := hP.sub (ws' := (wd_5b5f7811 h0 v0 r0 v1 v2 v3 v4 r1 r2 r3 r4 r5 r6 r7 v5 v6 r8 r9 r10 r11 v7 r12 r13 v8 v9 h1 h2 v10 v11 r14 v12 v13 h3 v14 w15 r15 v16 v17 r16 r17 r18 r19 r20 r21 v18 r22 r23 r24 v19 h2 g1 f21)) [0, 2] rfl
    have hDc := hD.sub (ws' := (wd_5b5f7811 h0 v0 r0 v1 v2 v3 v4 r1 r2 r3 r4 r5 r6 r7 v5 v6 r8 r9 r10 r11 v7 r12 r13 v8 v9 h1 h2 v10 v11 r14 v12 v13 h3 v14 w15 r15 v16 v17 r16 r17 r18 r19 r20 r21 v18 r22 r23 r24 v19 h2 g1 f21)) [0, 2] (by decide) rfl
    have hKc := hK.sub (tys' := [(g1, .int)]) [1] rfl
    have hFc := va_free (wc := (wd_5b5f7811 h0 v0 r0 v1 v2 v3 v4 r1 r2 r3 r4 r5 r6 r7 v5 v6 r8 r9 r10 r11 v7 r12 r13 v8 v9 h1 h2 v10 v11 r14 v12 v13 h3 v14 w15 r15 v16 v17 r16 r17 r18 r19 r20 r21 v18 r22 r23 r24 v19 h2 g1 f21)) hD hS hA [0, 2] rfl
    refine va_calli (va_runV (As := [.int 0]) (rest := []) ⟨hx, hb, hml, hown, hts⟩ (k_X12_isRefused_1 l dC dI h0 h2 v0 r0 v1 v2 v3 v4 r1 r2 r3 r4 r5 r6 r7 v5 v6 r8 r9 r10 r11 v7 r12 r13 v8 v9 h1 v10 v11 r14 v12 v13 h3 v14 w15 r15 v16 v17 r16 r17 r18 r19 r20 r21 v18 r22 r23 r24 v19 g1 f21 ⟨i_v1a, i_v1b⟩ ⟨i_v5a, i_v5b⟩ ⟨i_v6a, i_v6b⟩ ⟨i_v7a, i_v7b⟩ ⟨i_v8a, i_v8b⟩ ⟨i_v9a, i_v9b⟩ ⟨i_v10a, i_v10b⟩ ⟨i_v14a, i_v14b⟩ ⟨i_v18a, i_v18b⟩ ⟨i_v19a, i_v19b⟩ H.size) (cwV 1 hts g_X12_give_5 rfl rfl rfl (by decide +kernel) ⟨Nat.le_of_ble_eq_true rfl, Nat.le_of_ble_eq_true rfl⟩) (pv_PV12 hPc hKc hDc (q0 := 0) rfl) rfl rfl hl.1 rfl (lv_room (Nat.le_of_ble_eq_true rfl)) dX12_give_42 ⟨Nat.le_of_ble_eq_true rfl, Nat.le_of_ble_eq_true rfl⟩) hS (fun q _ h => hFc q h) hFc (fun ra19 u t H1 locs ht hvm hwra19 hB hz1 hk1 hS => ?_)
    try rw [hwra19] at hB
    obtain ⟨fn20, pt0_ra19, pt1_ra19, hP1, hK1, hD1⟩ := hB
    rw [ht] at hP1
    obtain ⟨hP2, hD2⟩ := va_join (wr := (wd_dd47ee91 h1 g0 f20 h3 g2 f22)) (w1 := (wd_5b5f7811 h0 v0 r0 v1 v2 v3 v4 r1 r2 r3 r4 r5 r6 r7 v5 v6 r8 r9 r10 r11 v7 r12 r13 v8 v9 h1 h2 v10 v11 r14 v12 v13 h3 v14 w15 r15 v16 v17 r16 r17 r18 r19 r20 r21 v18 r22 r23 r24 v19 h2 g1 fn20)) hP hD [0, 2] [1, 3] rfl rfl (by decide) (by decide) hk1 hFc hP1 hD1
    clear hP hD hPc hDc hKc hFc hP1 hK1 hD1 hk1 hz1
    generalize H1 = H at hP2 hS ⊢
    have hP := hP2.sub (ws' := (wd_1ad11ebb h0 v0 r0 v1 v2 v3 v4 r1 r2 r3 r4 r5 r6 r7 v5 v6 r8 r9 r10 r11 v7 r12 r13 v8 v9 h1 h2 v10 v11 r14 v12 v13 h3 v14 w15 r15 v16 v17 r16 r17 r18 r19 r20 r21 v18 r22 r23 r24 v19 h1 g0 f20 h2 g1 fn20 h3 g2 f22)) [2, 0, 3, 1] rfl
    have hD := hD2.sub (ws' := (wd_1ad11ebb h0 v0 r0 v1 v2 v3 v4 r1 r2 r3 r4 r5 r6 r7 v5 v6 r8 r9 r10 r11 v7 r12 r13 v8 v9 h1 h2 v10 v11 r14 v12 v13 h3 v14 w15 r15 v16 v17 r16 r17 r18 r19 r20 r21 v18 r22 r23 r24 v19 h1 g0 f20 h2 g1 fn20 h3 g2 f22)) [2, 0, 3, 1] (by decide) rfl
    clear hP2 hD2
    obtain rfl : ra19 = (1 : Int32) := pv_cs (by decide) pt0_ra19 pt1_ra19
    refine lv_if_eq (tgt := 50) hx hb dX12_give_45 (by decide) (fun c => absurd c (by decide)) (fun _ => ?_)
    refine lv_iconst (v := (-1)) hx hb dX12_give_48 (by decide) ?_
    subst hQ
    have hP9 := hP.sub (ws' := (wd_1ad11ebb h0 v0 r0 v1 v2 v3 v4 r1 r2 r3 r4 r5 r6 r7 v5 v6 r8 r9 r10 r11 v7 r12 r13 v8 v9 h1 h2 v10 v11 r14 v12 v13 h3 v14 w15 r15 v16 v17 r16 r17 r18 r19 r20 r21 v18 r22 r23 r24 v19 h1 g0 f20 h2 g1 fn20 h3 g2 f22)) [0, 1, 2, 3] rfl
    have hD9 := hD.sub (ws' := (wd_1ad11ebb h0 v0 r0 v1 v2 v3 v4 r1 r2 r3 r4 r5 r6 r7 v5 v6 r8 r9 r10 r11 v7 r12 r13 v8 v9 h1 h2 v10 v11 r14 v12 v13 h3 v14 w15 r15 v16 v17 r16 r17 r18 r19 r20 r21 v18 r22 r23 r24 v19 h1 g0 f20 h2 g1 fn20 h3 g2 f22)) [0, 1, 2, 3] (by decide) rfl
    have hK9 := hK.sub (tys' := []) [] rfl
    exact W.iret (v := (-1)) hx hb hr (fun t ht hW => ⟨⟨(-1), (-1), rfl, rfl, ⟨v14, f20, fn20, f22, i_v14a, i_v14b, ia_f20, ia_f22, by rw [ht]; exact hP9, va_K.moved hW.alike hK9, hD9⟩⟩, hS.F ht⟩) hS.2.2 dX12_give_49
def q_X12_in_11 : List Cond := .code yX12_in cX12_in 3 (some .boolean) :: (([] : List Cond))
set_option maxHeartbeats 4000000 in
set_option maxRecDepth 100000 in
theorem k_X12_in_11 (l : Launch) (dC : Nat → ClassId) (dI : Nat → Nat → Nat) (v0 : Int32) (sz : Nat) : Met l yX12_in q_X12_in_11 ({ frames := 0, cells := 0, slots := 0, locals := 0 }) (va_Pc [.int v0, .int 1, .int 30] (fun U => U.heap.size = sz ∧ va_P (dC, dI) vwCl [] U.heap ∧ va_K (dC, dI) vwCl [] U ∧ va_D (fun _ => True) [])) (va_Qi (fun (r : Int32) (r9 : Int32) => r9 = r) (fun (r : Int32) (t : State) => ((0 ≤ r.toInt) ∧ (r.toInt ≤ 1) ∧ ((r.toInt = 1 → 1 ≤ v0.toInt)) ∧ ((r.toInt = 1 → v0.toInt ≤ 30)) ∧ (r.toInt = 0 → ¬ (1 ≤ v0.toInt ∧ v0.toInt ≤ 30)) ∧ va_P (dC, dI) vwCl [] t.heap ∧ va_K (dC, dI) vwCl [] t ∧ va_D (va_A [] sz) [])) (va_A [] sz)) 0 0 (va_A [] sz) := by
  refine Met.ofW (cc := cX12_in) (maxL := 3) (ret := (some .boolean)) (by decide) rfl ?_
  intro p e s m args below meth c s₁ B hml hv
  obtain ⟨rfl, hsz, hP, hK, hD0⟩ := hv
  have hx := B.exec
  have hb := B.bytes
  have hr := B.returns
  have hts := atoms_spec (ws := q_X12_in_11) B.pre
  have hown : s.vm.findClass RX12 = some m.cls := findClass_of_methodNamed B.named
  have hlocks := B.notSynchronized
  subst hsz
  have hD := hD0.self (sz := s.heap.size)
  generalize hAe : va_A [] s.heap.size = A at hD ⊢
  have hA : ∀ q : Nat, s.heap.size ≤ q → A q := fun q h => by rw [← hAe]; exact Or.inr h
  have hS : va_S A s.heap s.heap [] := va_S.rf
  generalize hQ : (MQ below _ _ s 0 0 A) = Q
  have hl := lv_entry ([.int v0, .int 1, .int 30]) (n := 3) (Nat.le_of_ble_eq_true rfl)
  rw [lg_entry_eq]
  generalize (lg_sl ([.int v0, .int 1, .int 30]) ++ List.replicate (3 - (lg_sl ([.int v0, .int 1, .int 30])).length) Slot.unset).toArray = ls at hl ⊢
  have hl : lv_has ls 3 [(0, .int v0), (1, .int 1), (2, .int 30)] := hl
  obtain ⟨H, hH⟩ : ∃ H : Heap, H = s.heap := ⟨_, rfl⟩
  obtain ⟨locs, hlocs⟩ : ∃ y : List Loc, y = [] := ⟨_, rfl⟩
  have hS : va_S A s.heap H locs := by rw [hH, hlocs]; exact va_S.rf
  have hP : va_P (dC, dI) vwCl [] H := by rw [hH]; exact hP
  rw [← hH, ← hlocs]
  refine lv_iload_n hx hb dX12_in_0 rfl (lv_at hl 0 rfl) ?_
  refine lv_iload_n hx hb dX12_in_1 rfl (lv_at hl 1 rfl) ?_
  refine lv_icmp_lt (tgt := 14) hx hb dX12_in_2 (by decide) (fun c1 => ?_) (fun c1 => ?_)
  · skip
    have fc1 : v0.toInt < 1 := Int32.lt_iff_toInt_lt.mp c1
    refine lv_iconst (v := 0) hx hb dX12_in_14 (by decide) ?_
    subst hQ
    have hP9 := hP.sub (ws' := []) [] rfl
    have hD9 := hD.sub (ws' := []) [] (by decide) rfl
    have hK9 := hK.sub (tys' := []) [] rfl
    exact W.zret (v := 0) hx hb hr rfl (fun t ht hW => ⟨⟨0, 0, rfl, rfl, ⟨by first | omega | decide, by first | omega | decide, fun h9 => absurd h9 (by decide), fun h9 => absurd h9 (by decide), fun _ => by omega, by rw [ht]; exact hP9, va_K.moved hW.alike hK9, hD9⟩⟩, hS.F ht⟩) hS.2.2 dX12_in_15
  · skip
    have fc1 : ¬ (v0.toInt < 1) := fun h9 => c1 (Int32.lt_iff_toInt_lt.mpr h9)
    refine lv_iload_n hx hb dX12_in_5 rfl (lv_at hl 0 rfl) ?_
    refine lv_iload_n hx hb dX12_in_6 rfl (lv_at hl 2 rfl) ?_
    refine lv_icmp_gt (tgt := 14) hx hb dX12_in_7 (by decide) (fun c2 => ?_) (fun c2 => ?_)
    · skip
      have fc2 : 30 < v0.toInt := Int32.lt_iff_toInt_lt.mp c2
      refine lv_iconst (v := 0) hx hb dX12_in_14 (by decide) ?_
      subst hQ
      have hP9 := hP.sub (ws' := []) [] rfl
      have hD9 := hD.sub (ws' := []) [] (by decide) rfl
      have hK9 := hK.sub (tys' := []) [] rfl
      exact W.zret (v := 0) hx hb hr rfl (fun t ht hW => ⟨⟨0, 0, rfl, rfl, ⟨by first | omega | decide, by first | omega | decide, fun h9 => absurd h9 (by decide), fun h9 => absurd h9 (by decide), fun _ => by omega, by rw [ht]; exact hP9, va_K.moved hW.alike hK9, hD9⟩⟩, hS.F ht⟩) hS.2.2 dX12_in_15
    · skip
      have fc2 : ¬ (30 < v0.toInt) := fun h9 => c2 (Int32.lt_iff_toInt_lt.mpr h9)
      refine lv_iconst (v := 1) hx hb dX12_in_10 (by decide) ?_
      refine lv_goto (tgt := 15) hx hb dX12_in_11 (by decide) ?_
      subst hQ
      have hP9 := hP.sub (ws' := []) [] rfl
      have hD9 := hD.sub (ws' := []) [] (by decide) rfl
      have hK9 := hK.sub (tys' := []) [] rfl
      exact W.zret (v := 1) hx hb hr rfl (fun t ht hW => ⟨⟨1, 1, rfl, rfl, ⟨by first | omega | decide, by first | omega | decide, fun _ => by omega, fun _ => by omega, fun h9 => absurd h9 (by decide), by rw [ht]; exact hP9, va_K.moved hW.alike hK9, hD9⟩⟩, hS.F ht⟩) hS.2.2 dX12_in_15
