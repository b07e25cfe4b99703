abbrev wd_f4cd022e (p0 : Nat) (p1 : Int32) (p2 : Nat) (p3 : Int32) (p4 : Int32) (p5 : Int32) (p6 : Int32) (p7 : Nat) (p8 : Nat) (p9 : Nat) (p10 : Nat) (p11 : Nat) (p12 : Nat) (p13 : Nat) (p14 : Int32) (p15 : Int32) (p16 : Nat) (p17 : Nat) (p18 : Nat) (p19 : Nat) (p20 : Int32) (p21 : Nat) (p22 : Nat) (p23 : Int32) (p24 : Int32) (p25 : Nat) (p26 : Nat) (p27 : Int32) (p28 : Int32) (p29 : Nat) (p30 : Int32) (p31 : Int32) (p32 : Nat) (p33 : Int32) (p34 : Int64) (p35 : Nat) (p36 : Int32) (p37 : Int32) (p38 : Nat) (p39 : Nat) (p40 : Nat) (p41 : Nat) (p42 : Nat) (p43 : Nat) (p44 : Int32) (p45 : Nat) (p46 : Nat) (p47 : Nat) (p48 : Int32) (p49 : Nat) (p50 : ClassId) (p51 : Nat → Int32) : va_W := [(p0, .inr (12, [.int p1, .ref p2, .int p3, .int p4, .int p5, .int p6, .ref p7, .ref p8, .ref p9, .ref p10, .ref p11, .ref p12, .ref p13, .int p14, .int p15, .ref p16, .ref p17, .ref p18, .ref p19, .int p20, .ref p21, .ref p22, .int p23, .int p24, .ref p25, .ref p26, .int p27, .int p28, .ref p29, .int p30, .int p31, .ref p32, .int p33, .long p34, .ref p35, .int p36, .int p37, .ref p38, .ref p39, .ref p40, .ref p41, .ref p42, .ref p43, .int p44, .ref p45, .ref p46, .ref p47, .int p48])), (p49, .inl (p50, 240, .inl p51))]
abbrev wd_c62683a8 (p0 : Nat) (p1 : Int32) (p2 : Nat) (p3 : Int32) (p4 : Int32) (p5 : Int32) (p6 : Int32) (p7 : Nat) (p8 : Nat) (p9 : Nat) (p10 : Nat) (p11 : Nat) (p12 : Nat) (p13 : Nat) (p14 : Int32) (p15 : Int32) (p16 : Nat) (p17 : Nat) (p18 : Nat) (p19 : Nat) (p20 : Int32) (p21 : Nat) (p22 : Nat) (p23 : Int32) (p24 : Int32) (p25 : Nat) (p26 : Nat) (p27 : Int32) (p28 : Int32) (p29 : Nat) (p30 : Int32) (p31 : Int32) (p32 : Nat) (p33 : Int32) (p34 : Int64) (p35 : Nat) (p36 : Int32) (p37 : Int32) (p38 : Nat) (p39 : Nat) (p40 : Nat) (p41 : Nat) (p42 : Nat) (p43 : Nat) (p44 : Int32) (p45 : Nat) (p46 : Nat) (p47 : Nat) (p48 : Int32) (p49 : Nat) (p50 : ClassId) (p51 : Nat → Int32) (p52 : Nat) (p53 : ClassId) (p54 : Nat → Int32) (p55 : Nat) (p56 : ClassId) (p57 : Nat → Int32) : va_W := [(p0, .inr (12, [.int p1, .ref p2, .int p3, .int p4, .int p5, .int p6, .ref p7, .ref p8, .ref p9, .ref p10, .ref p11, .ref p12, .ref p13, .int p14, .int p15, .ref p16, .ref p17, .ref p18, .ref p19, .int p20, .ref p21, .ref p22, .int p23, .int p24, .ref p25, .ref p26, .int p27, .int p28, .ref p29, .int p30, .int p31, .ref p32, .int p33, .long p34, .ref p35, .int p36, .int p37, .ref p38, .ref p39, .ref p40, .ref p41, .ref p42, .ref p43, .int p44, .ref p45, .ref p46, .ref p47, .int p48])), (p49, .inl (p50, 2600, .inl p51)), (p52, .inl (p53, 2600, .inl p54)), (p55, .inl (p56, 5, .inl p57))]
abbrev wd_d0032b31 (p0 : Nat) (p1 : ClassId) (p2 : Nat → Int32) : va_W := [(p0, .inl (p1, 240, .inl p2))]
abbrev wd_d906eaf1 (p0 : Nat) (p1 : Int32) (p2 : Nat) (p3 : Int32) (p4 : Int32) (p5 : Int32) (p6 : Int32) (p7 : Nat) (p8 : Nat) (p9 : Nat) (p10 : Nat) (p11 : Nat) (p12 : Nat) (p13 : Nat) (p14 : Int32) (p15 : Int32) (p16 : Nat) (p17 : Nat) (p18 : Nat) (p19 : Nat) (p20 : Int32) (p21 : Nat) (p22 : Nat) (p23 : Int32) (p24 : Int32) (p25 : Nat) (p26 : Nat) (p27 : Int32) (p28 : Int32) (p29 : Nat) (p30 : Int32) (p31 : Int32) (p32 : Nat) (p33 : Int32) (p34 : Int64) (p35 : Nat) (p36 : Int32) (p37 : Int32) (p38 : Nat) (p39 : Nat) (p40 : Nat) (p41 : Nat) (p42 : Nat) (p43 : Nat) (p44 : Int32) (p45 : Nat) (p46 : Nat) (p47 : Nat) (p48 : Int32) (p49 : Nat) (p50 : ClassId) (p51 : Nat → Int32) (p52 : Nat) (p53 : ClassId) (p54 : Nat → Int32) (p55 : Nat) (p56 : ClassId) (p57 : Nat → Int32) (p58 : Nat) (p59 : ClassId) (p60 : Nat → Int32) : va_W := [(p0, .inr (12, [.int p1, .ref p2, .int p3, .int p4, .int p5, .int p6, .ref p7, .ref p8, .ref p9, .ref p10, .ref p11, .ref p12, .ref p13, .int p14, .int p15, .ref p16, .ref p17, .ref p18, .ref p19, .int p20, .ref p21, .ref p22, .int p23, .int p24, .ref p25, .ref p26, .int p27, .int p28, .ref p29, .int p30, .int p31, .ref p32, .int p33, .long p34, .ref p35, .int p36, .int p37, .ref p38, .ref p39, .ref p40, .ref p41, .ref p42, .ref p43, .int p44, .ref p45, .ref p46, .ref p47, .int p48])), (p49, .inl (p50, 240, .inl p51)), (p52, .inl (p53, 2600, .inl p54)), (p55, .inl (p56, 2600, .inl p57)), (p58, .inl (p59, 5, .inl p60))]
abbrev wd_ad0642e8 (p0 : Nat) (p1 : ClassId) (p2 : Nat → Int32) (p3 : Nat) (p4 : ClassId) (p5 : Nat → Int32) (p6 : Nat) (p7 : ClassId) (p8 : Nat → Int32) : va_W := [(p0, .inl (p1, 2600, .inl p2)), (p3, .inl (p4, 2600, .inl p5)), (p6, .inl (p7, 5, .inl p8))]
abbrev wd_bfe486e6 (p0 : Nat) (p1 : ClassId) (p2 : Nat → Int32) (p3 : Nat) (p4 : ClassId) (p5 : Nat → Int32) (p6 : Nat) (p7 : ClassId) (p8 : Nat → Int32) (p9 : Nat) (p10 : ClassId) (p11 : Nat → Int32) : va_W := [(p0, .inl (p1, 240, .inl p2)), (p3, .inl (p4, 2600, .inl p5)), (p6, .inl (p7, 2600, .inl p8)), (p9, .inl (p10, 5, .inl p11))]
def q_X12_oddsFrom_5 : List Cond := .code yX12_oddsFrom cX12_oddsFrom 10 (some .int) :: (([.constantLong RX12 447 (100), .code yX12_putAside cX12_putAside 3 none, .fieldLink RX12 71 "LeftArgumentsModel" "aside" "[I", .fieldLink RX12 52 "LeftArgumentsModel" "now" "[I", .initialized RX12, .instanceMethod yX12_putAside, .selects RX12 yX12_putAside yX12_putAside, .methodLink RX12 375 yX12_putAside, .code yX12_set cX12_set 4 none, .instanceMethod yX12_set, .selects RX12 yX12_set yX12_set, .methodLink RX12 258 yX12_set, .code yX12_live cX12_live 2 none, .code yX12_growAll cX12_growAll 2 none, .code yX12_isThere cX12_isThere 2 (some .boolean), .code yX12_in cX12_in 3 (some .boolean), .static yX12_in, .methodLink RX12 217 yX12_in, .code yX12_of cX12_of 3 (some .int), .instanceMethod yX12_of, .selects RX12 yX12_of yX12_of, .methodLink RX12 287 yX12_of, .instanceMethod yX12_isThere, .selects RX12 yX12_isThere yX12_isThere, .methodLink RX12 290 yX12_isThere, .fieldLink RX12 65 "LeftArgumentsModel" "grows" "[I", .methodLink RX12 299 Lib.Math.min.name, .static Lib.Math.min.name, .initialized "java/lang/Math", .code Lib.Math.min.name Lib.Math.min.code 2 (some .int), .methodLink RX12 301 Lib.Math.max.name, .static Lib.Math.max.name, .code Lib.Math.max.name Lib.Math.max.code 2 (some .int), .code yX12_growthOf cX12_growthOf 4 (some .int), .code yX12_withOf cX12_withOf 4 (some .int), .instanceMethod yX12_withOf, .selects RX12 yX12_withOf yX12_withOf, .methodLink RX12 293 yX12_withOf, .fieldLink RX12 58 "LeftArgumentsModel" "holding" "I", .fieldLink RX12 34 "LeftArgumentsModel" "letters" "[I", .code yX12_worthOf cX12_worthOf 3 (some .int), .fieldLink RX12 22 "LeftArgumentsModel" "clauses" "[I", .fieldLink RX12 25 "LeftArgumentsModel" "testFrom" "[I", .fieldLink RX12 28 "LeftArgumentsModel" "sumFrom" "[I", .fieldLink RX12 31 "LeftArgumentsModel" "sumTo" "[I", .code yX12_workOut cX12_workOut 6 (some .int), .fieldLink RX12 37 "LeftArgumentsModel" "stack" "[I", .fieldLink RX12 13 "LeftArgumentsModel" "code" "[I", .fieldLink RX12 16 "LeftArgumentsModel" "value" "[I", .code yX12_worked cX12_worked 5 (some .int), .code yX12_bounded cX12_bounded 2 (some .int), .constantLong RX12 192 (-1000000), .constantLong RX12 194 (1000000), .methodLink RX12 196 Lib.MathLoose.min_long.x, .static Lib.MathLoose.min_long.x, .code Lib.MathLoose.min_long.x Lib.MathLoose.min_long.code 4 (some .long), .methodLink RX12 202 Lib.MathLoose.max_long.x, .static Lib.MathLoose.max_long.x, .code Lib.MathLoose.max_long.x Lib.MathLoose.max_long.code 4 (some .long), .static yX12_bounded, .methodLink RX12 205 yX12_bounded, .static yX12_worked, .methodLink RX12 209 yX12_worked, .instanceMethod yX12_workOut, .selects RX12 yX12_workOut yX12_workOut, .methodLink RX12 213 yX12_workOut, .instanceMethod yX12_worthOf, .selects RX12 yX12_worthOf yX12_worthOf, .methodLink RX12 296 yX12_worthOf, .instanceMethod yX12_growthOf, .selects RX12 yX12_growthOf yX12_growthOf, .methodLink RX12 303 yX12_growthOf, .instanceMethod yX12_growAll, .selects RX12 yX12_growAll yX12_growAll, .methodLink RX12 318 yX12_growAll, .code yX12_endAll cX12_endAll 2 none, .fieldLink RX12 306 "LeftArgumentsModel" "ended" "I", .instanceMethod yX12_endAll, .selects RX12 yX12_endAll yX12_endAll, .methodLink RX12 321 yX12_endAll, .code yX12_dropAll cX12_dropAll 3 none, .fieldLink RX12 309 "LeftArgumentsModel" "fell" "I", .fieldLink RX12 46 "LeftArgumentsModel" "rule" "[I", .code yX12_loadOf cX12_loadOf 4 (some .int), .instanceMethod yX12_loadOf, .selects RX12 yX12_loadOf yX12_loadOf, .methodLink RX12 312 yX12_loadOf, .code yX12_largestOn cX12_largestOn 4 (some .int), .instanceMethod yX12_largestOn, .selects RX12 yX12_largestOn yX12_largestOn, .methodLink RX12 315 yX12_largestOn, .instanceMethod yX12_dropAll, .selects RX12 yX12_dropAll yX12_dropAll, .methodLink RX12 324 yX12_dropAll, .instanceMethod yX12_live, .selects RX12 yX12_live yX12_live, .methodLink RX12 327 yX12_live, .code yX12_oddsFrom cX12_oddsFrom 10 (some .int), .code yX12_sizeNow cX12_sizeNow 2 (some .int), .instanceMethod yX12_sizeNow, .selects RX12 yX12_sizeNow yX12_sizeNow, .methodLink RX12 378 yX12_sizeNow, .instanceMethod yX12_oddsFrom, .selects RX12 yX12_oddsFrom yX12_oddsFrom, .methodLink RX12 449 yX12_oddsFrom, .code yX12_takeBack cX12_takeBack 3 none, .instanceMethod yX12_takeBack, .selects RX12 yX12_takeBack yX12_takeBack, .methodLink RX12 381 yX12_takeBack] : List Cond) ++ wsX120)
set_option maxRecDepth 20000 in
theorem g_X12_oddsFrom_5_0 : GoodIn q_X12_oddsFrom_5 (wsV RX12 375 RX12 yX12_putAside q_X12_putAside) := goodIn_app (goodIn_r _ [8, 6, 7, 5] rfl (by decide +kernel)) (goodIn_ca (goodIn_r (.code yX12_putAside cX12_putAside 3 none :: [.fieldLink RX12 71 "LeftArgumentsModel" "aside" "[I", .fieldLink RX12 52 "LeftArgumentsModel" "now" "[I"]) [2, 3, 4] rfl (by decide +kernel)) (goodIn_sub (fun _ h => List.mem_cons_of_mem _ (List.mem_append_right _ h)) gwX12))
set_option maxRecDepth 20000 in
theorem g_X12_oddsFrom_5_1 : GoodIn q_X12_oddsFrom_5 (wsV RX12 258 RX12 yX12_set q_X12_set_4) := goodIn_app (goodIn_r _ [12, 10, 11, 5] rfl (by decide +kernel)) (goodIn_ca (goodIn_r (.code yX12_set cX12_set 4 none :: [.fieldLink RX12 52 "LeftArgumentsModel" "now" "[I"]) [9, 4] rfl (by decide +kernel)) (goodIn_sub (fun _ h => List.mem_cons_of_mem _ (List.mem_append_right _ h)) gwX12))
set_option maxRecDepth 20000 in
theorem g_X12_oddsFrom_5_2 : GoodIn q_X12_oddsFrom_5 (wsV RX12 327 RX12 yX12_live q_X12_live) := goodIn_app (goodIn_r _ [97, 95, 96, 5] rfl (by decide +kernel)) (goodIn_ca (goodIn_r (.code yX12_live cX12_live 2 none :: [.code yX12_growAll cX12_growAll 2 none, .code yX12_isThere cX12_isThere 2 (some .boolean), .code yX12_in cX12_in 3 (some .boolean), .initialized RX12, .static yX12_in, .methodLink RX12 217 yX12_in, .code yX12_of cX12_of 3 (some .int), .fieldLink RX12 52 "LeftArgumentsModel" "now" "[I", .instanceMethod yX12_of, .selects RX12 yX12_of yX12_of, .methodLink RX12 287 yX12_of, .instanceMethod yX12_isThere, .selects RX12 yX12_isThere yX12_isThere, .methodLink RX12 290 yX12_isThere, .fieldLink RX12 65 "LeftArgumentsModel" "grows" "[I", .methodLink RX12 299 Lib.Math.min.name, .static Lib.Math.min.name, .initialized "java/lang/Math", .code Lib.Math.min.name Lib.Math.min.code 2 (some .int), .methodLink RX12 301 Lib.Math.max.name, .static Lib.Math.max.name, .code Lib.Math.max.name Lib.Math.max.code 2 (some .int), .code yX12_set cX12_set 4 none, .instanceMethod yX12_set, .selects RX12 yX12_set yX12_set, .methodLink RX12 258 yX12_set, .code yX12_growthOf cX12_growthOf 4 (some .int), .code yX12_withOf cX12_withOf 4 (some .int), .instanceMethod yX12_withOf, .selects RX12 yX12_withOf yX12_withOf, .methodLink RX12 293 yX12_withOf, .fieldLink RX12 58 "LeftArgumentsModel" "holding" "I", .fieldLink RX12 34 "LeftArgumentsModel" "letters" "[I", .code yX12_worthOf cX12_worthOf 3 (some .int), .fieldLink RX12 22 "LeftArgumentsModel" "clauses" "[I", .fieldLink RX12 25 "LeftArgumentsModel" "testFrom" "[I", .fieldLink RX12 28 "LeftArgumentsModel" "sumFrom" "[I", .fieldLink RX12 31 "LeftArgumentsModel" "sumTo" "[I", .code yX12_workOut cX12_workOut 6 (some .int), .fieldLink RX12 37 "LeftArgumentsModel" "stack" "[I", .fieldLink RX12 13 "LeftArgumentsModel" "code" "[I", .fieldLink RX12 16 "LeftArgumentsModel" "value" "[I", .code yX12_worked cX12_worked 5 (some .int), .code yX12_bounded cX12_bounded 2 (some .int), .constantLong RX12 192 (-1000000), .constantLong RX12 194 (1000000), .methodLink RX12 196 Lib.MathLoose.min_long.x, .static Lib.MathLoose.min_long.x, .code Lib.MathLoose.min_long.x Lib.MathLoose.min_long.code 4 (some .long), .methodLink RX12 202 Lib.MathLoose.max_long.x, .static Lib.MathLoose.max_long.x, .code Lib.MathLoose.max_long.x Lib.MathLoose.max_long.code 4 (some .long), .static yX12_bounded, .methodLink RX12 205 yX12_bounded, .static yX12_worked, .methodLink RX12 209 yX12_worked, .instanceMethod yX12_workOut, .selects RX12 yX12_workOut yX12_workOut, .methodLink RX12 213 yX12_workOut, .instanceMethod yX12_worthOf, .selects RX12 yX12_worthOf yX12_worthOf, .methodLink RX12 296 yX12_worthOf, .instanceMethod yX12_growthOf, .selects RX12 yX12_growthOf yX12_growthOf, .methodLink RX12 303 yX12_growthOf, .instanceMethod yX12_growAll, .selects RX12 yX12_growAll yX12_growAll, .methodLink RX12 318 yX12_growAll, .code yX12_endAll cX12_endAll 2 none, .fieldLink RX12 306 "LeftArgumentsModel" "ended" "I", .instanceMethod yX12_endAll, .selects RX12 yX12_endAll yX12_endAll, .methodLink RX12 321 yX12_endAll, .code yX12_dropAll cX12_dropAll 3 none, .fieldLink RX12 309 "LeftArgumentsModel" "fell" "I", .fieldLink RX12 46 "LeftArgumentsModel" "rule" "[I", .code yX12_loadOf cX12_loadOf 4 (some .int), .instanceMethod yX12_loadOf, .selects RX12 yX12_loadOf yX12_loadOf, .methodLink RX12 312 yX12_loadOf, .code yX12_largestOn cX12_largestOn 4 (some .int), .instanceMethod yX12_largestOn, .selects RX12 yX12_largestOn yX12_largestOn, .methodLink RX12 315 yX12_largestOn, .instanceMethod yX12_dropAll, .selects RX12 yX12_dropAll yX12_dropAll, .methodLink RX12 324 yX12_dropAll]) [13, 14, 15, 16, 5, 17, 18, 19, 4, 20, 21, 22, 23, 24, 25, 26, 27, 28, 29, 30, 31, 32, 33, 9, 10, 11, 12, 34, 35, 36, 37, 38, 39, 40, 41, 42, 43, 44, 45, 46, 47, 48, 49, 50, 51, 52, 53, 54, 55, 56, 57, 58, 59, 60, 61, 62, 63, 64, 65, 66, 67, 68, 69, 70, 71, 72, 73, 74, 75, 76, 77, 78, 79, 80, 81, 82, 83, 84, 85, 86, 87, 88, 89, 90, 91, 92, 93, 94] rfl (by decide +kernel)) (goodIn_sub (fun _ h => List.mem_cons_of_mem _ (List.mem_append_right _ h)) gwX12))
set_option maxRecDepth 20000 in
theorem g_X12_oddsFrom_5_3 : GoodIn q_X12_oddsFrom_5 (wsV RX12 449 RX12 yX12_oddsFrom q_X12_oddsFrom_4) := goodIn_app (goodIn_r _ [105, 103, 104, 5] rfl (by decide +kernel)) (goodIn_ca (goodIn_r (.code yX12_oddsFrom cX12_oddsFrom 10 (some .int) :: [.constantLong RX12 447 (100), .code yX12_putAside cX12_putAside 3 none, .fieldLink RX12 71 "LeftArgumentsModel" "aside" "[I", .fieldLink RX12 52 "LeftArgumentsModel" "now" "[I", .initialized RX12, .instanceMethod yX12_putAside, .selects RX12 yX12_putAside yX12_putAside, .methodLink RX12 375 yX12_putAside, .code yX12_set cX12_set 4 none, .instanceMethod yX12_set, .selects RX12 yX12_set yX12_set, .methodLink RX12 258 yX12_set, .code yX12_live cX12_live 2 none, .code yX12_growAll cX12_growAll 2 none, .code yX12_isThere cX12_isThere 2 (some .boolean), .code yX12_in cX12_in 3 (some .boolean), .static yX12_in, .methodLink RX12 217 yX12_in, .code yX12_of cX12_of 3 (some .int), .instanceMethod yX12_of, .selects RX12 yX12_of yX12_of, .methodLink RX12 287 yX12_of, .instanceMethod yX12_isThere, .selects RX12 yX12_isThere yX12_isThere, .methodLink RX12 290 yX12_isThere, .fieldLink RX12 65 "LeftArgumentsModel" "grows" "[I", .methodLink RX12 299 Lib.Math.min.name, .static Lib.Math.min.name, .initialized "java/lang/Math", .code Lib.Math.min.name Lib.Math.min.code 2 (some .int), .methodLink RX12 301 Lib.Math.max.name, .static Lib.Math.max.name, .code Lib.Math.max.name Lib.Math.max.code 2 (some .int), .code yX12_growthOf cX12_growthOf 4 (some .int), .code yX12_withOf cX12_withOf 4 (some .int), .instanceMethod yX12_withOf, .selects RX12 yX12_withOf yX12_withOf, .methodLink RX12 293 yX12_withOf, .fieldLink RX12 58 "LeftArgumentsModel" "holding" "I", .fieldLink RX12 34 "LeftArgumentsModel" "letters" "[I", .code yX12_worthOf cX12_worthOf 3 (some .int), .fieldLink RX12 22 "LeftArgumentsModel" "clauses" "[I", .fieldLink RX12 25 "LeftArgumentsModel" "testFrom" "[I", .fieldLink RX12 28 "LeftArgumentsModel" "sumFrom" "[I", .fieldLink RX12 31 "LeftArgumentsModel" "sumTo" "[I", .code yX12_workOut cX12_workOut 6 (some .int), .fieldLink RX12 37 "LeftArgumentsModel" "stack" "[I", .fieldLink RX12 13 "LeftArgumentsModel" "code" "[I", .fieldLink RX12 16 "LeftArgumentsModel" "value" "[I", .code yX12_worked cX12_worked 5 (some .int), .code yX12_bounded cX12_bounded 2 (some .int), .constantLong RX12 192 (-1000000), .constantLong RX12 194 (1000000), .methodLink RX12 196 Lib.MathLoose.min_long.x, .static Lib.MathLoose.min_long.x, .code Lib.MathLoose.min_long.x Lib.MathLoose.min_long.code 4 (some .long), .methodLink RX12 202 Lib.MathLoose.max_long.x, .static Lib.MathLoose.max_long.x, .code Lib.MathLoose.max_long.x Lib.MathLoose.max_long.code 4 (some .long), .static yX12_bounded, .methodLink RX12 205 yX12_bounded, .static yX12_worked, .methodLink RX12 209 yX12_worked, .instanceMethod yX12_workOut, .selects RX12 yX12_workOut yX12_workOut, .methodLink RX12 213 yX12_workOut, .instanceMethod yX12_worthOf, .selects RX12 yX12_worthOf yX12_worthOf, .methodLink RX12 296 yX12_worthOf, .instanceMethod yX12_growthOf, .selects RX12 yX12_growthOf yX12_growthOf, .methodLink RX12 303 yX12_growthOf, .instanceMethod yX12_growAll, .selects RX12 yX12_growAll yX12_growAll, .methodLink RX12 318 yX12_growAll, .code yX12_endAll cX12_endAll 2 none, .fieldLink RX12 306 "LeftArgumentsModel" "ended" "I", .instanceMethod yX12_endAll, .selects RX12 yX12_endAll yX12_endAll, .methodLink RX12 321 yX12_endAll, .code yX12_dropAll cX12_dropAll 3 none, .fieldLink RX12 309 "LeftArgumentsModel" "fell" "I", .fieldLink RX12 46 "LeftArgumentsModel" "rule" "[I", .code yX12_loadOf cX12_loadOf 4 (some .int), .instanceMethod yX12_loadOf, .selects RX12 yX12_loadOf yX12_loadOf, .methodLink RX12 312 yX12_loadOf, .code yX12_largestOn cX12_largestOn 4 (some .int), .instanceMethod yX12_largestOn, .selects RX12 yX12_largestOn yX12_largestOn, .methodLink RX12 315 yX12_largestOn, .instanceMethod yX12_dropAll, .selects RX12 yX12_dropAll yX12_dropAll, .methodLink RX12 324 yX12_dropAll, .instanceMethod yX12_live, .selects RX12 yX12_live yX12_live, .methodLink RX12 327 yX12_live, .code yX12_oddsFrom cX12_oddsFrom 10 (some .int), .code yX12_sizeNow cX12_sizeNow 2 (some .int), .instanceMethod yX12_sizeNow, .selects RX12 yX12_sizeNow yX12_sizeNow, .methodLink RX12 378 yX12_sizeNow, .instanceMethod yX12_oddsFrom, .selects RX12 yX12_oddsFrom yX12_oddsFrom, .methodLink RX12 449 yX12_oddsFrom, .code yX12_takeBack cX12_takeBack 3 none, .instanceMethod yX12_takeBack, .selects RX12 yX12_takeBack yX12_takeBack, .methodLink RX12 381 yX12_takeBack]) [98, 1, 2, 3, 4, 5, 6, 7, 8, 9, 10, 11, 12, 13, 14, 15, 16, 17, 18, 19, 20, 21, 22, 23, 24, 25, 26, 27, 28, 29, 30, 31, 32, 33, 34, 35, 36, 37, 38, 39, 40, 41, 42, 43, 44, 45, 46, 47, 48, 49, 50, 51, 52, 53, 54, 55, 56, 57, 58, 59, 60, 61, 62, 63, 64, 65, 66, 67, 68, 69, 70, 71, 72, 73, 74, 75, 76, 77, 78, 79, 80, 81, 82, 83, 84, 85, 86, 87, 88, 89, 90, 91, 92, 93, 94, 95, 96, 97, 98, 99, 100, 101, 102, 103, 104, 105, 106, 107, 108, 109] rfl (by decide +kernel)) (goodIn_sub (fun _ h => List.mem_cons_of_mem _ (List.mem_append_right _ h)) gwX12))
set_option maxRecDepth 20000 in
theorem g_X12_oddsFrom_5_4 : GoodIn q_X12_oddsFrom_5 (wsV RX12 381 RX12 yX12_takeBack q_X12_takeBack) := goodIn_app (goodIn_r _ [109, 107, 108, 5] rfl (by decide +kernel)) (goodIn_ca (goodIn_r (.code yX12_takeBack cX12_takeBack 3 none :: [.fieldLink RX12 52 "LeftArgumentsModel" "now" "[I", .fieldLink RX12 71 "LeftArgumentsModel" "aside" "[I"]) [106, 4, 3] rfl (by decide +kernel)) (goodIn_sub (fun _ h => List.mem_cons_of_mem _ (List.mem_append_right _ h)) gwX12))
set_option maxRecDepth 20000 in
theorem g_X12_oddsFrom_5_5 : GoodIn q_X12_oddsFrom_5 (wsV RX12 287 RX12 yX12_of q_X12_of_8) := goodIn_app (goodIn_r _ [22, 20, 21, 5] rfl (by decide +kernel)) (goodIn_ca (goodIn_r (.code yX12_of cX12_of 3 (some .int) :: [.fieldLink RX12 52 "LeftArgumentsModel" "now" "[I"]) [19, 4] rfl (by decide +kernel)) (goodIn_sub (fun _ h => List.mem_cons_of_mem _ (List.mem_append_right _ h)) gwX12))
set_option maxRecDepth 20000 in
theorem g_X12_oddsFrom_5_6 : GoodIn q_X12_oddsFrom_5 (wsV RX12 378 RX12 yX12_sizeNow q_X12_sizeNow) := goodIn_app (goodIn_r _ [102, 100, 101, 5] rfl (by decide +kernel)) (goodIn_ca (goodIn_r (.code yX12_sizeNow cX12_sizeNow 2 (some .int) :: [.code yX12_isThere cX12_isThere 2 (some .boolean), .code yX12_in cX12_in 3 (some .boolean), .initialized RX12, .static yX12_in, .methodLink RX12 217 yX12_in, .code yX12_of cX12_of 3 (some .int), .fieldLink RX12 52 "LeftArgumentsModel" "now" "[I", .instanceMethod yX12_of, .selects RX12 yX12_of yX12_of, .methodLink RX12 287 yX12_of, .instanceMethod yX12_isThere, .selects RX12 yX12_isThere yX12_isThere, .methodLink RX12 290 yX12_isThere]) [99, 15, 16, 5, 17, 18, 19, 4, 20, 21, 22, 23, 24, 25] rfl (by decide +kernel)) (goodIn_sub (fun _ h => List.mem_cons_of_mem _ (List.mem_append_right _ h)) gwX12))
set_option maxHeartbeats 4000000 in
set_option maxRecDepth 100000 in
theorem k_X12_oddsFrom_5 (l : Launch) (dC : Nat → ClassId) (dI : Nat → Nat → Nat) (h0 : Nat) (h1 : Nat) (h2 : Nat) (h3 : Nat) (h4 : Nat) (h5 : Nat) (h6 : Nat) (h7 : Nat) (h8 : Nat) (h9 : Nat) (h10 : Nat) (h11 : Nat) (h12 : Nat) (v0 : Int32) (r0 : Nat) (v1 : Int32) (v2 : Int32) (v3 : Int32) (v4 : Int32) (r1 : Nat) (v5 : Int32) (v6 : Int32) (r2 : Nat) (r3 : Nat) (v7 : Int32) (r4 : Nat) (v8 : Int32) (v9 : Int32) (r5 : Nat) (v10 : Int32) (v11 : Int32) (v12 : Int32) (v13 : Int32) (r6 : Nat) (v14 : Int32) (w15 : Int64) (v16 : Int32) (v17 : Int32) (r7 : Nat) (r8 : Nat) (r9 : Nat) (r10 : Nat) (r11 : Nat) (r12 : Nat) (v18 : Int32) (r13 : Nat) (r14 : Nat) (r15 : Nat) (v19 : Int32) (g0 : ClassId) (f20 : Nat → Int32) (g1 : ClassId) (f21 : Nat → Int32) (g2 : ClassId) (f22 : Nat → Int32) (g3 : ClassId) (f23 : Nat → Int32) (g4 : ClassId) (f24 : Nat → Int32) (g5 : ClassId) (f25 : Nat → Int32) (g6 : ClassId) (f26 : Nat → Int32) (g7 : ClassId) (f27 : Nat → Int32) (g8 : ClassId) (f28 : Nat → Int32) (g9 : ClassId) (f29 : Nat → Int32) (g10 : ClassId) (f30 : Nat → Int32) (g11 : ClassId) (f31 : Nat → Int32) (v32 : Int32) (v33 : Int32) (v34 : Int32) (v35 : Int32) (v36 : Int32) (i_v1 : 0 ≤ v1.toInt ∧ v1.toInt ≤ 240) (i_v5 : 0 ≤ v5.toInt ∧ v5.toInt ≤ 4) (i_v6 : 0 ≤ v6.toInt ∧ v6.toInt ≤ 4) (i_v7 : 0 ≤ v7.toInt ∧ v7.toInt ≤ 8) (i_v8 : 0 ≤ v8.toInt ∧ v8.toInt ≤ 8) (i_v9 : 0 ≤ v9.toInt ∧ v9.toInt ≤ 1) (i_v10 : -1 ≤ v10.toInt ∧ v10.toInt ≤ 3) (i_v14 : 0 ≤ v14.toInt ∧ v14.toInt ≤ 40) (i_v18 : 0 ≤ v18.toInt ∧ v18.toInt ≤ 10) (i_v19 : 0 ≤ v19.toInt ∧ v19.toInt ≤ 1) (i_v32 : 0 ≤ v32.toInt ∧ v32.toInt ≤ 7) (i_v34 : 0 ≤ v34.toInt ∧ v34.toInt ≤ 5) (ia_f28 : (pm_RU f28)) (ia_f29 : (pm_NW f29)) (ia_f31 : (pm_AS f31)) (pp0 : pm_Held v10 f20 f21 f22 f23 f24 f25) (sz : Nat) : Met l yX12_oddsFrom q_X12_oddsFrom_5 ({ frames := 12, cells := 0, slots := 0, locals := 290 }) (va_Pc [.ref h0, .int 1, .int v32, .int v33, .int v34, .int v35, .int v36] (fun U => U.heap.size = sz ∧ va_P (dC, dI) vwCl (wd_cfaca2a5 h0 v0 r0 v1 v2 v3 v4 h1 h2 r1 h3 h4 h5 h6 v5 v6 h7 h8 r2 r3 v7 h9 r4 v8 v9 h10 r5 v10 v11 h11 v12 v13 r6 v14 w15 h12 v16 v17 r7 r8 r9 r10 r11 r12 v18 r13 r14 r15 v19 h1 g0 f20 h2 g1 f21 h3 g2 f22 h4 g3 f23 h5 g4 f24 h6 g5 f25 h7 g6 f26 h8 g7 f27 h9 g8 f28 h10 g9 f29 h11 g10 f30 h12 g11 f31) U.heap ∧ va_K (dC, dI) vwCl [(g0, .int), (g1, .int), (g2, .int), (g3, .int), (g4, .int), (g5, .int), (g6, .int), (g7, .int), (g8, .int), (g9, .int), (g10, .int), (g11, .int)] U ∧ va_D (fun _ => True) (wd_cfaca2a5 h0 v0 r0 v1 v2 v3 v4 h1 h2 r1 h3 h4 h5 h6 v5 v6 h7 h8 r2 r3 v7 h9 r4 v8 v9 h10 r5 v10 v11 h11 v12 v13 r6 v14 w15 h12 v16 v17 r7 r8 r9 r10 r11 r12 v18 r13 r14 r15 v19 h1 g0 f20 h2 g1 f21 h3 g2 f22 h4 g3 f23 h5 g4 f24 h6 g5 f25 h7 g6 f26 h8 g7 f27 h9 g8 f28 h10 g9 f29 h11 g10 f30 h12 g11 f31))) (va_Qi (fun (r : Int32) (r9 : Int32) => r9 = r) (fun (r : Int32) (t : State) => (∃ (o_h0_29 : Int32) (o_h0_30 : Int32) (o_h7 : Nat → Int32) (o_h8 : Nat → Int32) (o_h10 : Nat → Int32) (o_h11 : Nat → Int32) (o_h12 : Nat → Int32), (pm_NW o_h10) ∧ (pm_AS o_h12) ∧ va_P (dC, dI) vwCl (wd_cfaca2a5 h0 v0 r0 v1 v2 v3 v4 h1 h2 r1 h3 h4 h5 h6 v5 v6 h7 h8 r2 r3 v7 h9 r4 v8 v9 h10 r5 v10 v11 h11 o_h0_29 o_h0_30 r6 v14 w15 h12 v16 v17 r7 r8 r9 r10 r11 r12 v18 r13 r14 r15 v19 h1 g0 f20 h2 g1 f21 h3 g2 f22 h4 g3 f23 h5 g4 f24 h6 g5 f25 h7 g6 o_h7 h8 g7 o_h8 h9 g8 f28 h10 g9 o_h10 h11 g10 o_h11 h12 g11 o_h12) t.heap ∧ va_K (dC, dI) vwCl [] t ∧ va_D (va_A (wd_cfaca2a5 h0 v0 r0 v1 v2 v3 v4 h1 h2 r1 h3 h4 h5 h6 v5 v6 h7 h8 r2 r3 v7 h9 r4 v8 v9 h10 r5 v10 v11 h11 v12 v13 r6 v14 w15 h12 v16 v17 r7 r8 r9 r10 r11 r12 v18 r13 r14 r15 v19 h1 g0 f20 h2 g1 f21 h3 g2 f22 h4 g3 f23 h5 g4 f24 h6 g5 f25 h7 g6 f26 h8 g7 f27 h9 g8 f28 h10 g9 f29 h11 g10 f30 h12 g11 f31) sz) (wd_cfaca2a5 h0 v0 r0 v1 v2 v3 v4 h1 h2 r1 h3 h4 h5 h6 v5 v6 h7 h8 r2 r3 v7 h9 r4 v8 v9 h10 r5 v10 v11 h11 o_h0_29 o_h0_30 r6 v14 w15 h12 v16 v17 r7 r8 r9 r10 r11 r12 v18 r13 r14 r15 v19 h1 g0 f20 h2 g1 f21 h3 g2 f22 h4 g3 f23 h5 g4 f24 h6 g5 f25 h7 g6 o_h7 h8 g7 o_h8 h9 g8 f28 h10 g9 o_h10 h11 g10 o_h11 h12 g11 o_h12))) (va_A (wd_cfaca2a5 h0 v0 r0 v1 v2 v3 v4 h1 h2 r1 h3 h4 h5 h6 v5 v6 h7 h8 r2 r3 v7 h9 r4 v8 v9 h10 r5 v10 v11 h11 v12 v13 r6 v14 w15 h12 v16 v17 r7 r8 r9 r10 r11 r12 v18 r13 r14 r15 v19 h1 g0 f20 h2 g1 f21 h3 g2 f22 h4 g3 f23 h5 g4 f24 h6 g5 f25 h7 g6 f26 h8 g7 f27 h9 g8 f28 h10 g9 f29 h11 g10 f30 h12 g11 f31) sz)) 0 0 (va_A (wd_cfaca2a5 h0 v0 r0 v1 v2 v3 v4 h1 h2 r1 h3 h4 h5 h6 v5 v6 h7 h8 r2 r3 v7 h9 r4 v8 v9 h10 r5 v10 v11 h11 v12 v13 r6 v14 w15 h12 v16 v17 r7 r8 r9 r10 r11 r12 v18 r13 r14 r15 v19 h1 g0 f20 h2 g1 f21 h3 g2 f22 h4 g3 f23 h5 g4 f24 h6 g5 f25 h7 g6 f26 h8 g7 f27 h9 g8 f28 h10 g9 f29 h11 g10 f30 h12 g11 f31) sz) := by
  refine Met.ofW (cc := cX12_oddsFrom) (maxL := 10) (ret := (some .int)) (by decide) rfl ?_
  intro p e s m args below meth c s₁ B hml hv
  obtain ⟨i_v1a, i_v1b⟩ := i_v1
  obtain ⟨i_v5a, i_v5b⟩ := i_v5
  obtain ⟨i_v6a, i_v6b⟩ := i_v6
  obtain ⟨i_v7a, i_v7b⟩ := i_v7
  obtain ⟨i_v8a, i_v8b⟩ := i_v8
  obtain ⟨i_v9a, i_v9b⟩ := i_v9
  obtain ⟨i_v10a, i_v10b⟩ := i_v10
  obtain ⟨i_v14a, i_v14b⟩ := i_v14
  obtain ⟨i_v18a, i_v18b⟩ := i_v18
  obtain ⟨i_v19a, i_v19b⟩ := i_v19
  obtain ⟨i_v32a, i_v32b⟩ := i_v32
  obtain ⟨i_v34a, i_v34b⟩ := i_v34
  obtain ⟨rfl, hsz, hP, hK, hD0⟩ := hv
  have hx := B.exec
  have hb := B.bytes
  have hr := B.returns
  have hts := atoms_spec (ws := q_X12_oddsFrom_5) B.pre
  have hown : s.vm.findClass RX12 = some m.cls := findClass_of_methodNamed B.named
  have hlocks := B.notSynchronized
  subst hsz
  have hD := hD0.self (sz := s.heap.size)
  generalize hAe : va_A (wd_cfaca2a5 h0 v0 r0 v1 v2 v3 v4 h1 h2 r1 h3 h4 h5 h6 v5 v6 h7 h8 r2 r3 v7 h9 r4 v8 v9 h10 r5 v10 v11 h11 v12 v13 r6 v14 w15 h12 v16 v17 r7 r8 r9 r10 r11 r12 v18 r13 r14 r15 v19 h1 g0 f20 h2 g1 f21 h3 g2 f22 h4 g3 f23 h5 g4 f24 h6 g5 f25 h7 g6 f26 h8 g7 f27 h9 g8 f28 h10 g9 f29 h11 g10 f30 h12 g11 f31) s.heap.size = A at hD ⊢
  have hA : ∀ q : Nat, s.heap.size ≤ q → A q := fun q h => by rw [← hAe]; exact Or.inr h
  have hS : va_S A s.heap s.heap [] := va_S.rf
  generalize hQ : (MQ below _ _ s 0 0 A) = Q
  have hl := lv_entry ([.ref h0, .int 1, .int v32, .int v33, .int v34, .int v35, .int v36]) (n := 10) (Nat.le_of_ble_eq_true rfl)
  rw [lg_entry_eq]
  generalize (lg_sl ([.ref h0, .int 1, .int v32, .int v33, .int v34, .int v35, .int v36]) ++ List.replicate (10 - (lg_sl ([.ref h0, .int 1, .int v32, .int v33, .int v34, .int v35, .int v36])).length) Slot.unset).toArray = ls at hl ⊢
  have hl : lv_has ls 10 [(0, .ref h0), (1, .int 1), (2, .int v32), (3, .int v33), (4, .int v34), (5, .int v35), (6, .int v36)] := hl
  obtain ⟨H, hH⟩ : ∃ H : Heap, H = s.heap := ⟨_, rfl⟩
  obtain ⟨locs, hlocs⟩ : ∃ y : List Loc, y = [] := ⟨_, rfl⟩
  have hS : va_S A s.heap H locs := by rw [hH, hlocs]; exact va_S.rf
  have hP : va_P (dC, dI) vwCl (wd_cfaca2a5 h0 v0 r0 v1 v2 v3 v4 h1 h2 r1 h3 h4 h5 h6 v5 v6 h7 h8 r2 r3 v7 h9 r4 v8 v9 h10 r5 v10 v11 h11 v12 v13 r6 v14 w15 h12 v16 v17 r7 r8 r9 r10 r11 r12 v18 r13 r14 r15 v19 h1 g0 f20 h2 g1 f21 h3 g2 f22 h4 g3 f23 h5 g4 f24 h6 g5 f25 h7 g6 f26 h8 g7 f27 h9 g8 f28 h10 g9 f29 h11 g10 f30 h12 g11 f31) H := by rw [hH]; exact hP
  rw [← hH, ← hlocs]
  refine lv_iload hx hb dX12_oddsFrom_0 (lv_at hl 4 rfl) ?_
  refine lv_if_ne (tgt := 21) hx hb dX12_oddsFrom_2 (by decide) (fun c1 => ?_) (fun c1 => ?_)
  · skip
    have fc1 : ¬ (v34.toInt = 0) := fun h9 => c1 (Int32.toInt_inj.mp h9)
    refine lv_iload hx hb dX12_oddsFrom_21 (lv_at hl 6 rfl) ?_
    obtain ⟨y2, ey2⟩ : ∃ z : Int64, z = (v36 : Int32).toInt64 := ⟨_, rfl⟩
    refine lv_i2l (v := y2) hx hb dX12_oddsFrom_23 (by rw [ey2]) ?_
    refine lv_iload hx hb dX12_oddsFrom_24 (lv_at hl 5 rfl) ?_
    obtain ⟨y3, ey3⟩ : ∃ z : Int64, z = (v35 : Int32).toInt64 := ⟨_, rfl⟩
    refine lv_i2l (v := y3) hx hb dX12_oddsFrom_26 (by rw [ey3]) ?_
    refine lv_lmul hx hb dX12_oddsFrom_27 ?_
    refine lv_topl (fun y4 ey4 => ?_)
    refine lv_ldc2 (v := 100) hx hb hown (hts (.constantLong RX12 447 (100)) (List.mem_cons_of_mem _ (List.mem_append_left _ (List.mem_of_getElem? (i := 0) rfl)))) dX12_oddsFrom_28 ?_
    refine lv_ldiv hx hb dX12_oddsFrom_31 (by decide) ?_
    refine lv_topl (fun y5 ey5 => ?_)
    obtain ⟨t6, et6⟩ : ∃ z : Int32, z = (y5 : Int64).toInt32 := ⟨_, rfl⟩
    refine lv_l2i (v := t6) hx hb dX12_oddsFrom_32 (by rw [et6]) ?_
    refine lv_istore (lv' := [(7, .int t6), (0, .ref h0), (1, .int 1), (2, .int v32), (3, .int v33), (4, .int v34), (5, .int v35), (6, .int v36)]) hx hb dX12_oddsFrom_33 hl (by decide) rfl (fun ls hl => ?_)
    refine lv_iconst (v := 0) hx hb dX12_oddsFrom_35 (by decide) ?_
    refine lv_istore (lv' := [(8, .int 0), (7, .int t6), (0, .ref h0), (1, .int 1), (2, .int v32), (3, .int v33), (4, .int v34), (5, .int v35), (6, .int v36)]) hx hb dX12_oddsFrom_36 hl (by decide) rfl (fun ls hl => ?_)
    refine lv_aload_n hx hb dX12_oddsFrom_38 rfl (lv_at hl 2 rfl) ?_
    refine lv_iload_n hx hb dX12_oddsFrom_39 rfl (lv_at hl 3 rfl) ?_
    have hPc := hP.sub (ws' := (wd_04244fe9 h0 v0 r0 v1 v2 v3 v4 h1 h2 r1 h3 h4 h5 h6 v5 v6 h7 h8 r2 r3 v7 h9 r4 v8 v9 h10 r5 v10 v11 h11 v12 v13 r6 v14 w15 h12 v16 v17 r7 r8 r9 r10 r11 r12 v18 r13 r14 r15 v19 h10 g9 f29 h12 g11 f31)) [0, 10, 12] rfl
    have hDc := hD.sub (ws' := (wd_04244fe9 h0 v0 r0 v1 v2 v3 v4 h1 h2 r1 h3 h4 h5 h6 v5 v6 h7 h8 r2 r3 v7 h9 r4 v8 v9 h10 r5 v10 v11 h11 v12 v13 r6 v14 w15 h12 v16 v17 r7 r8 r9 r10 r11 r12 v18 r13 r14 r15 v19 h10 g9 f29 h12 g11 f31)) [0, 10, 12] (by decide) rfl
    have hKc := hK.sub (tys' := [(g9, .int), (g11, .int)]) [9, 11] rfl
    have hFc := va_free (wc := (wd_04244fe9 h0 v0 r0 v1 v2 v3 v4 h1 h2 r1 h3 h4 h5 h6 v5 v6 h7 h8 r2 r3 v7 h9 r4 v8 v9 h10 r5 v10 v11 h11 v12 v13 r6 v14 w15 h12 v16 v17 r7 r8 r9 r10 r11 r12 v18 r13 r14 r15 v19 h10 g9 f29 h12 g11 f31)) hD hS hA [0, 10, 12] rfl
    refine va_callv (va_runV (As := [.int 1]) (rest := []) ⟨hx, hb, hml, hown, hts⟩ (k_X12_putAside l dC dI h0 h10 h12 v0 r0 v1 v2 v3 v4 h1 h2 r1 h3 h4 h5 h6 v5 v6 h7 h8 r2 r3 v7 h9 r4 v8 v9 r5 v10 v11 h11 v12 v13 r6 v14 w15 v16 v17 r7 r8 r9 r10 r11 r12 v18 r13 r14 r15 v19 g9 f29 g11 f31 1 ⟨i_v1a, i_v1b⟩ ⟨i_v5a, i_v5b⟩ ⟨i_v6a, i_v6b⟩ ⟨i_v7a, i_v7b⟩ ⟨i_v8a, i_v8b⟩ ⟨i_v9a, i_v9b⟩ ⟨i_v10a, i_v10b⟩ ⟨i_v14a, i_v14b⟩ ⟨i_v18a, i_v18b⟩ ⟨i_v19a, i_v19b⟩ ⟨by decide, by decide⟩ ia_f29 ia_f31 H.size) (cwV 1 hts g_X12_oddsFrom_5_0 rfl rfl rfl (by decide +kernel) ⟨Nat.le_of_ble_eq_true rfl, Nat.le_of_ble_eq_true rfl⟩) (pv_PV12 hPc hKc hDc (q0 := 0) rfl) rfl rfl hl.1 rfl (lv_room (Nat.le_of_ble_eq_true rfl)) dX12_oddsFrom_40 ⟨Nat.le_of_ble_eq_true rfl, Nat.le_of_ble_eq_true rfl⟩) hS (fun q _ h => hFc q h) hFc (fun u t H1 locs ht hvm hwra7 hB hz1 hk1 hS => ?_)
    obtain ⟨fn8, ia_fn8, hP1, hK1, hD1⟩ := hB
    rw [ht] at hP1
    obtain ⟨hP2, hD2⟩ := va_join (wr := (wd_4dc6964c h1 g0 f20 h2 g1 f21 h3 g2 f22 h4 g3 f23 h5 g4 f24 h6 g5 f25 h7 g6 f26 h8 g7 f27 h9 g8 f28 h11 g10 f30)) (w1 := (wd_04244fe9 h0 v0 r0 v1 v2 v3 v4 h1 h2 r1 h3 h4 h5 h6 v5 v6 h7 h8 r2 r3 v7 h9 r4 v8 v9 h10 r5 v10 v11 h11 v12 v13 r6 v14 w15 h12 v16 v17 r7 r8 r9 r10 r11 r12 v18 r13 r14 r15 v19 h10 g9 f29 h12 g11 fn8)) hP hD [0, 10, 12] [1, 2, 3, 4, 5, 6, 7, 8, 9, 11] rfl rfl (by decide +kernel) (by decide +kernel) hk1 hFc hP1 hD1
    clear hP hD hPc hDc hKc hFc hP1 hK1 hD1 hk1 hz1
    generalize H1 = H at hP2 hS ⊢
    have hP := hP2.sub (ws' := (wd_cfaca2a5 h0 v0 r0 v1 v2 v3 v4 h1 h2 r1 h3 h4 h5 h6 v5 v6 h7 h8 r2 r3 v7 h9 r4 v8 v9 h10 r5 v10 v11 h11 v12 v13 r6 v14 w15 h12 v16 v17 r7 r8 r9 r10 r11 r12 v18 r13 r14 r15 v19 h1 g0 f20 h2 g1 f21 h3 g2 f22 h4 g3 f23 h5 g4 f24 h6 g5 f25 h7 g6 f26 h8 g7 f27 h9 g8 f28 h10 g9 f29 h11 g10 f30 h12 g11 fn8)) [10, 0, 1, 2, 3, 4, 5, 6, 7, 8, 11, 9, 12] rfl
    have hD := hD2.sub (ws' := (wd_cfaca2a5 h0 v0 r0 v1 v2 v3 v4 h1 h2 r1 h3 h4 h5 h6 v5 v6 h7 h8 r2 r3 v7 h9 r4 v8 v9 h10 r5 v10 v11 h11 v12 v13 r6 v14 w15 h12 v16 v17 r7 r8 r9 r10 r11 r12 v18 r13 r14 r15 v19 h1 g0 f20 h2 g1 f21 h3 g2 f22 h4 g3 f23 h5 g4 f24 h6 g5 f25 h7 g6 f26 h8 g7 f27 h9 g8 f28 h10 g9 f29 h11 g10 f30 h12 g11 fn8)) [10, 0, 1, 2, 3, 4, 5, 6, 7, 8, 11, 9, 12] (by decide +kernel) rfl
    clear hP2 hD2
    refine lv_iconst (v := 0) hx hb dX12_oddsFrom_43 (by decide) ?_
    refine lv_istore (lv' := [(9, .int 0), (8, .int 0), (7, .int t6), (0, .ref h0), (1, .int 1), (2, .int v32), (3, .int v33), (4, .int v34), (5, .int v35), (6, .int v36)]) hx hb dX12_oddsFrom_44 hl (by decide) rfl (fun ls hl => ?_)
    have hL36 : ∀ (n9 : Nat), ∀ (x18 : Int32) (x19 : Int32) (x20 : Int32) (x21 : Int32) (fn22 : Nat → Int32) (fn23 : Nat → Int32) (fn24 : Nat → Int32) (fn25 : Nat → Int32) (fn26 : Nat → Int32) (H : Heap) (locs : List Loc) (ls : Array Slot), 0 ≤ x18.toInt → x18.toInt ≤ 2 → (pm_NW fn24) → (pm_AS fn26) → (2 - x18.toInt).toNat < n9 → va_P (dC, dI) vwCl (wd_cfaca2a5 h0 v0 r0 v1 v2 v3 v4 h1 h2 r1 h3 h4 h5 h6 v5 v6 h7 h8 r2 r3 v7 h9 r4 v8 v9 h10 r5 v10 v11 h11 x20 x21 r6 v14 w15 h12 v16 v17 r7 r8 r9 r10 r11 r12 v18 r13 r14 r15 v19 h1 g0 f20 h2 g1 f21 h3 g2 f22 h4 g3 f23 h5 g4 f24 h6 g5 f25 h7 g6 fn22 h8 g7 fn23 h9 g8 f28 h10 g9 fn24 h11 g10 fn25 h12 g11 fn26) H → va_D A (wd_cfaca2a5 h0 v0 r0 v1 v2 v3 v4 h1 h2 r1 h3 h4 h5 h6 v5 v6 h7 h8 r2 r3 v7 h9 r4 v8 v9 h10 r5 v10 v11 h11 x20 x21 r6 v14 w15 h12 v16 v17 r7 r8 r9 r10 r11 r12 v18 r13 r14 r15 v19 h1 g0 f20 h2 g1 f21 h3 g2 f22 h4 g3 f23 h5 g4 f24 h6 g5 f25 h7 g6 fn22 h8 g7 fn23 h9 g8 f28 h10 g9 fn24 h11 g10 fn25 h12 g11 fn26) → va_S A s.heap H locs → lv_has ls 10 [(9, .int x18), (8, .int x19), (7, .int t6), (0, .ref h0), (1, .int 1), (2, .int v32), (3, .int v33), (4, .int v34), (5, .int v35), (6, .int v36)] → W p l e ({ frames := 12, cells := 0, slots := 0, locals := 290 }) s m ([.ref h0, .int 1, .int v32, .int v33, .int v34, .int v35, .int v36] : List Value).toArray below meth c H locs 0 0 Q (F0 m 46 ls []) := by
      intro n9
      induction n9 with
      | zero => intro x18 x19 x20 x21 fn22 fn23 fn24 fn25 fn26 H locs ls qa_x18 qb_x18 ia_fn24 ia_fn26 hm9 hP hD hS hl; exact absurd hm9 (Nat.not_lt_zero _)
      | succ n9 ih_hL36 =>
        intro x18 x19 x20 x21 fn22 fn23 fn24 fn25 fn26 H locs ls qa_x18 qb_x18 ia_fn24 ia_fn26 hm9 hP hD hS hl
        refine lv_iload hx hb dX12_oddsFrom_46 (lv_at hl 0 rfl) ?_
        refine lv_iconst (v := 2) hx hb dX12_oddsFrom_48 (by decide) ?_
        refine lv_icmp_ge (tgt := 127) hx hb dX12_oddsFrom_49 (by decide) (fun c37 => ?_) (fun c37 => ?_)
        · skip
          have fc37 : 2 ≤ x18.toInt := Int32.le_iff_toInt_le.mp c37
          refine lv_iload hx hb dX12_oddsFrom_127 (lv_at hl 1 rfl) ?_
          subst hQ
          have hP9 := hP.sub (ws' := (wd_cfaca2a5 h0 v0 r0 v1 v2 v3 v4 h1 h2 r1 h3 h4 h5 h6 v5 v6 h7 h8 r2 r3 v7 h9 r4 v8 v9 h10 r5 v10 v11 h11 x20 x21 r6 v14 w15 h12 v16 v17 r7 r8 r9 r10 r11 r12 v18 r13 r14 r15 v19 h1 g0 f20 h2 g1 f21 h3 g2 f22 h4 g3 f23 h5 g4 f24 h6 g5 f25 h7 g6 fn22 h8 g7 fn23 h9 g8 f28 h10 g9 fn24 h11 g10 fn25 h12 g11 fn26)) [0, 1, 2, 3, 4, 5, 6, 7, 8, 9, 10, 11, 12] rfl
          have hD9 := hD.sub (ws' := (wd_cfaca2a5 h0 v0 r0 v1 v2 v3 v4 h1 h2 r1 h3 h4 h5 h6 v5 v6 h7 h8 r2 r3 v7 h9 r4 v8 v9 h10 r5 v10 v11 h11 x20 x21 r6 v14 w15 h12 v16 v17 r7 r8 r9 r10 r11 r12 v18 r13 r14 r15 v19 h1 g0 f20 h2 g1 f21 h3 g2 f22 h4 g3 f23 h5 g4 f24 h6 g5 f25 h7 g6 fn22 h8 g7 fn23 h9 g8 f28 h10 g9 fn24 h11 g10 fn25 h12 g11 fn26)) [0, 1, 2, 3, 4, 5, 6, 7, 8, 9, 10, 11, 12] (by decide +kernel) rfl
          have hK9 := hK.sub (tys' := []) [] rfl
          exact W.iret (v := x19) hx hb hr (fun t ht hW => ⟨⟨x19, x19, rfl, rfl, ⟨x20, x21, fn22, fn23, fn24, fn25, fn26, ia_fn24, ia_fn26, by rw [ht]; exact hP9, va_K.moved hW.alike hK9, hD9⟩⟩, hS.F ht⟩) hS.2.2 dX12_oddsFrom_129
        · skip
          have fc37 : ¬ (2 ≤ x18.toInt) := fun h9 => c37 (Int32.le_iff_toInt_le.mpr h9)
          refine lv_aload_n hx hb dX12_oddsFrom_52 rfl (lv_at hl 3 rfl) ?_
          refine lv_iload_n hx hb dX12_oddsFrom_53 rfl (lv_at hl 5 rfl) ?_
          refine lv_bipush (v := 6) hx hb dX12_oddsFrom_54 (by decide) ?_
          refine lv_iload hx hb dX12_oddsFrom_56 (lv_at hl 0 rfl) ?_
          refine lv_iconst (v := 1) hx hb dX12_oddsFrom_58 (by decide) ?_
          have hJ39 : ∀ (x38 : Int32) (H : Heap) (locs : List Loc) (ls : Array Slot), va_P (dC, dI) vwCl (wd_cfaca2a5 h0 v0 r0 v1 v2 v3 v4 h1 h2 r1 h3 h4 h5 h6 v5 v6 h7 h8 r2 r3 v7 h9 r4 v8 v9 h10 r5 v10 v11 h11 x20 x21 r6 v14 w15 h12 v16 v17 r7 r8 r9 r10 r11 r12 v18 r13 r14 r15 v19 h1 g0 f20 h2 g1 f21 h3 g2 f22 h4 g3 f23 h5 g4 f24 h6 g5 f25 h7 g6 fn22 h8 g7 fn23 h9 g8 f28 h10 g9 fn24 h11 g10 fn25 h12 g11 fn26) H → va_D A (wd_cfaca2a5 h0 v0 r0 v1 v2 v3 v4 h1 h2 r1 h3 h4 h5 h6 v5 v6 h7 h8 r2 r3 v7 h9 r4 v8 v9 h10 r5 v10 v11 h11 x20 x21 r6 v14 w15 h12 v16 v17 r7 r8 r9 r10 r11 r12 v18 r13 r14 r15 v19 h1 g0 f20 h2 g1 f21 h3 g2 f22 h4 g3 f23 h5 g4 f24 h6 g5 f25 h7 g6 fn22 h8 g7 fn23 h9 g8 f28 h10 g9 fn24 h11 g10 fn25 h12 g11 fn26) → va_S A s.heap H locs → lv_has ls 10 [(9, .int x18), (8, .int x19), (7, .int t6), (0, .ref h0), (1, .int 1), (2, .int v32), (3, .int v33), (4, .int v34), (5, .int v35), (6, .int v36)] → W p l e ({ frames := 12, cells := 0, slots := 0, locals := 290 }) s m ([.ref h0, .int 1, .int v32, .int v33, .int v34, .int v35, .int v36] : List Value).toArray below meth c H locs 0 0 Q (F0 m 73 ls [.int x38, .int 6, .int v32, .ref h0]) := by
            intro x38 H locs ls hP hD hS hl
            have hPc := hP.sub (ws' := (wd_5013416a h0 v0 r0 v1 v2 v3 v4 h1 h2 r1 h3 h4 h5 h6 v5 v6 h7 h8 r2 r3 v7 h9 r4 v8 v9 h10 r5 v10 v11 h11 x20 x21 r6 v14 w15 h12 v16 v17 r7 r8 r9 r10 r11 r12 v18 r13 r14 r15 v19 h10 g9 fn24)) [0, 10] rfl
            have hDc := hD.sub (ws' := (wd_5013416a h0 v0 r0 v1 v2 v3 v4 h1 h2 r1 h3 h4 h5 h6 v5 v6 h7 h8 r2 r3 v7 h9 r4 v8 v9 h10 r5 v10 v11 h11 x20 x21 r6 v14 w15 h12 v16 v17 r7 r8 r9 r10 r11 r12 v18 r13 r14 r15 v19 h10 g9 fn24)) [0, 10] (by decide) rfl
            have hKc := hK.sub (tys' := [(g9, .int)]) [9] rfl
            have hFc := va_free (wc := (wd_5013416a h0 v0 r0 v1 v2 v3 v4 h1 h2 r1 h3 h4 h5 h6 v5 v6 h7 h8 r2 r3 v7 h9 r4 v8 v9 h10 r5 v10 v11 h11 x20 x21 r6 v14 w15 h12 v16 v17 r7 r8 r9 r10 r11 r12 v18 r13 r14 r15 v19 h10 g9 fn24)) hD hS hA [0, 10] rfl
            refine va_callv (va_runV (As := [.int v32, .int 6, .int x38]) (rest := []) ⟨hx, hb, hml, hown, hts⟩ (k_X12_set_4 l dC dI h0 h10 v0 r0 v1 v2 v3 v4 h1 h2 r1 h3 h4 h5 h6 v5 v6 h7 h8 r2 r3 v7 h9 r4 v8 v9 r5 v10 v11 h11 x20 x21 r6 v14 w15 h12 v16 v17 r7 r8 r9 r10 r11 r12 v18 r13 r14 r15 v19 g9 fn24 v32 x38 ⟨i_v1a, i_v1b⟩ ⟨i_v5a, i_v5b⟩ ⟨i_v6a, i_v6b⟩ ⟨i_v7a, i_v7b⟩ ⟨i_v8a, i_v8b⟩ ⟨i_v9a, i_v9b⟩ ⟨i_v10a, i_v10b⟩ ⟨i_v14a, i_v14b⟩ ⟨i_v18a, i_v18b⟩ ⟨i_v19a, i_v19b⟩ ⟨i_v32a, i_v32b⟩ trivial H.size) (cwV 3 hts g_X12_oddsFrom_5_1 rfl rfl rfl (by decide +kernel) ⟨Nat.le_of_ble_eq_true rfl, Nat.le_of_ble_eq_true rfl⟩) (pv_PV12 hPc hKc hDc (q0 := 0) rfl) rfl rfl hl.1 rfl (lv_room (Nat.le_of_ble_eq_true rfl)) dX12_oddsFrom_73 ⟨Nat.le_of_ble_eq_true rfl, Nat.le_of_ble_eq_true rfl⟩) hS (fun q _ h => hFc q h) hFc (fun u t H1 locs ht hvm hwra40 hB hz1 hk1 hS => ?_)
            obtain ⟨hP1, hK1, hD1⟩ := hB
            rw [ht] at hP1
            obtain ⟨hP2, hD2⟩ := va_join (wr := (wd_e8ff9da7 h1 g0 f20 h2 g1 f21 h3 g2 f22 h4 g3 f23 h5 g4 f24 h6 g5 f25 h7 g6 fn22 h8 g7 fn23 h9 g8 f28 h11 g10 fn25 h12 g11 fn26)) (w1 := (wd_5013416a h0 v0 r0 v1 v2 v3 v4 h1 h2 r1 h3 h4 h5 h6 v5 v6 h7 h8 r2 r3 v7 h9 r4 v8 v9 h10 r5 v10 v11 h11 x20 x21 r6 v14 w15 h12 v16 v17 r7 r8 r9 r10 r11 r12 v18 r13 r14 r15 v19 h10 g9 (upd fn24 (pm_I v32 6) x38))) hP hD [0, 10] [1, 2, 3, 4, 5, 6, 7, 8, 9, 11, 12] rfl rfl (by decide +kernel) (by decide +kernel) hk1 hFc hP1 hD1
            clear hP hD hPc hDc hKc hFc hP1 hK1 hD1 hk1 hz1
            generalize H1 = H at hP2 hS ⊢
            have hP := hP2.sub (ws' := (wd_cfaca2a5 h0 v0 r0 v1 v2 v3 v4 h1 h2 r1 h3 h4 h5 h6 v5 v6 h7 h8 r2 r3 v7 h9 r4 v8 v9 h10 r5 v10 v11 h11 x20 x21 r6 v14 w15 h12 v16 v17 r7 r8 r9 r10 r11 r12 v18 r13 r14 r15 v19 h1 g0 f20 h2 g1 f21 h3 g2 f22 h4 g3 f23 h5 g4 f24 h6 g5 f25 h7 g6 fn22 h8 g7 fn23 h9 g8 f28 h10 g9 (upd fn24 (pm_I v32 6) x38) h11 g10 fn25 h12 g11 fn26)) [11, 0, 1, 2, 3, 4, 5, 6, 7, 8, 12, 9, 10] rfl
            have hD := hD2.sub (ws' := (wd_cfaca2a5 h0 v0 r0 v1 v2 v3 v4 h1 h2 r1 h3 h4 h5 h6 v5 v6 h7 h8 r2 r3 v7 h9 r4 v8 v9 h10 r5 v10 v11 h11 x20 x21 r6 v14 w15 h12 v16 v17 r7 r8 r9 r10 r11 r12 v18 r13 r14 r15 v19 h1 g0 f20 h2 g1 f21 h3 g2 f22 h4 g3 f23 h5 g4 f24 h6 g5 f25 h7 g6 fn22 h8 g7 fn23 h9 g8 f28 h10 g9 (upd fn24 (pm_I v32 6) x38) h11 g10 fn25 h12 g11 fn26)) [11, 0, 1, 2, 3, 4, 5, 6, 7, 8, 12, 9, 10] (by decide +kernel) rfl
            clear hP2 hD2
            obtain ⟨t41, et41⟩ : ∃ y : Int32, y = 8 * v32 + 6 := ⟨_, rfl⟩
            have gt41 : t41.toInt = 8 * v32.toInt + 6 := pm_i8 et41 rfl (by decide) (by omega) (by omega) (by omega) (by omega)
            obtain ⟨fn43, efn43⟩ : ∃ g : Nat → Int32, g = upd fn24 (Int32.toNatClampNeg t41) x38 := ⟨_, rfl⟩
            have e9 : (upd fn24 (pm_I v32 6) x38) = fn43 := by rw [efn43, et41]; rfl
            rw [e9] at hP hD
            have ia_fn43 : pm_NW fn43 := by rw [efn43]; exact pm_NW.st ia_fn24 (z := t41.toInt) (y := x38.toInt) rfl rfl (by omega) (fun b9 h8 h9 => ⟨fun _ => ⟨by omega, by omega⟩, fun _ => ⟨by omega, by omega⟩⟩) (fun _ => ⟨by omega, by omega⟩) (fun b9 h8 h9 => ⟨fun _ => by omega, fun _ => by omega⟩)
            have hP : va_P (dC, dI) vwCl (wd_cfaca2a5 h0 v0 r0 v1 v2 v3 v4 h1 h2 r1 h3 h4 h5 h6 v5 v6 h7 h8 r2 r3 v7 h9 r4 v8 v9 h10 r5 v10 v11 h11 x20 x21 r6 v14 w15 h12 v16 v17 r7 r8 r9 r10 r11 r12 v18 r13 r14 r15 v19 h1 g0 f20 h2 g1 f21 h3 g2 f22 h4 g3 f23 h5 g4 f24 h6 g5 f25 h7 g6 fn22 h8 g7 fn23 h9 g8 f28 h10 g9 fn43 h11 g10 fn25 h12 g11 fn26) H := hP
            have hD : va_D A (wd_cfaca2a5 h0 v0 r0 v1 v2 v3 v4 h1 h2 r1 h3 h4 h5 h6 v5 v6 h7 h8 r2 r3 v7 h9 r4 v8 v9 h10 r5 v10 v11 h11 x20 x21 r6 v14 w15 h12 v16 v17 r7 r8 r9 r10 r11 r12 v18 r13 r14 r15 v19 h1 g0 f20 h2 g1 f21 h3 g2 f22 h4 g3 f23 h5 g4 f24 h6 g5 f25 h7 g6 fn22 h8 g7 fn23 h9 g8 f28 h10 g9 fn43 h11 g10 fn25 h12 g11 fn26) := hD
            refine lv_aload_n hx hb dX12_oddsFrom_76 rfl (lv_at hl 3 rfl) ?_
            have hPc := hP.sub (ws' := (wd_935d8763 h0 v0 r0 v1 v2 v3 v4 h1 h2 r1 h3 h4 h5 h6 v5 v6 h7 h8 r2 r3 v7 h9 r4 v8 v9 h10 r5 v10 v11 h11 x20 x21 r6 v14 w15 h12 v16 v17 r7 r8 r9 r10 r11 r12 v18 r13 r14 r15 v19 h1 g0 f20 h2 g1 f21 h3 g2 f22 h4 g3 f23 h5 g4 f24 h6 g5 f25 h7 g6 fn22 h8 g7 fn23 h9 g8 f28 h10 g9 fn43 h11 g10 fn25)) [0, 1, 2, 3, 4, 5, 6, 7, 8, 9, 10, 11] rfl
            have hDc := hD.sub (ws' := (wd_935d8763 h0 v0 r0 v1 v2 v3 v4 h1 h2 r1 h3 h4 h5 h6 v5 v6 h7 h8 r2 r3 v7 h9 r4 v8 v9 h10 r5 v10 v11 h11 x20 x21 r6 v14 w15 h12 v16 v17 r7 r8 r9 r10 r11 r12 v18 r13 r14 r15 v19 h1 g0 f20 h2 g1 f21 h3 g2 f22 h4 g3 f23 h5 g4 f24 h6 g5 f25 h7 g6 fn22 h8 g7 fn23 h9 g8 f28 h10 g9 fn43 h11 g10 fn25)) [0, 1, 2, 3, 4, 5, 6, 7, 8, 9, 10, 11] (by decide +kernel) rfl
            have hKc := hK.sub (tys' := [(g0, .int), (g1, .int), (g2, .int), (g3, .int), (g4, .int), (g5, .int), (g6, .int), (g7, .int), (g8, .int), (g9, .int), (g10, .int)]) [0, 1, 2, 3, 4, 5, 6, 7, 8, 9, 10] rfl
            have hFc := va_free (wc := (wd_935d8763 h0 v0 r0 v1 v2 v3 v4 h1 h2 r1 h3 h4 h5 h6 v5 v6 h7 h8 r2 r3 v7 h9 r4 v8 v9 h10 r5 v10 v11 h11 x20 x21 r6 v14 w15 h12 v16 v17 r7 r8 r9 r10 r11 r12 v18 r13 r14 r15 v19 h1 g0 f20 h2 g1 f21 h3 g2 f22 h4 g3 f23 h5 g4 f24 h6 g5 f25 h7 g6 fn22 h8 g7 fn23 h9 g8 f28 h10 g9 fn43 h11 g10 fn25)) hD hS hA [0, 1, 2, 3, 4, 5, 6, 7, 8, 9, 10, 11] rfl
            refine va_callv (va_runV (As := []) (rest := []) ⟨hx, hb, hml, hown, hts⟩ (k_X12_live l dC dI h0 h1 h2 h3 h4 h5 h6 h7 h8 h9 h10 h11 v0 r0 v1 v2 v3 v4 r1 v5 v6 r2 r3 v7 r4 v8 v9 r5 v10 v11 x20 x21 r6 v14 w15 h12 v16 v17 r7 r8 r9 r10 r11 r12 v18 r13 r14 r15 v19 g0 f20 g1 f21 g2 f22 g3 f23 g4 f24 g5 f25 g6 fn22 g7 fn23 g8 f28 g9 fn43 g10 fn25 ⟨i_v1a, i_v1b⟩ ⟨i_v5a, i_v5b⟩ ⟨i_v6a, i_v6b⟩ ⟨i_v7a, i_v7b⟩ ⟨i_v8a, i_v8b⟩ ⟨i_v9a, i_v9b⟩ ⟨i_v10a, i_v10b⟩ ⟨i_v14a, i_v14b⟩ ⟨i_v18a, i_v18b⟩ ⟨i_v19a, i_v19b⟩ ia_f28 ia_fn43.1 pp0 H.size) (cwV 0 hts g_X12_oddsFrom_5_2 rfl rfl rfl (by decide +kernel) ⟨Nat.le_of_ble_eq_true rfl, Nat.le_of_ble_eq_true rfl⟩) (pv_PV12 hPc hKc hDc (q0 := 0) rfl) rfl rfl hl.1 rfl (lv_room (Nat.le_of_ble_eq_true rfl)) dX12_oddsFrom_77 ⟨Nat.le_of_ble_eq_true rfl, Nat.le_of_ble_eq_true rfl⟩) hS (fun q _ h => hFc q h) hFc (fun u t H1 locs ht hvm hwra44 hB hz1 hk1 hS => ?_)
            obtain ⟨x45, x46, fn47, fn48, fn49, fn50, ia_fn49, hP1, hK1, hD1⟩ := hB
            rw [ht] at hP1
            obtain ⟨hP2, hD2⟩ := va_join (wr := (wd_811139ca h12 g11 fn26)) (w1 := (wd_935d8763 h0 v0 r0 v1 v2 v3 v4 h1 h2 r1 h3 h4 h5 h6 v5 v6 h7 h8 r2 r3 v7 h9 r4 v8 v9 h10 r5 v10 v11 h11 x45 x46 r6 v14 w15 h12 v16 v17 r7 r8 r9 r10 r11 r12 v18 r13 r14 r15 v19 h1 g0 f20 h2 g1 f21 h3 g2 f22 h4 g3 f23 h5 g4 f24 h6 g5 f25 h7 g6 fn47 h8 g7 fn48 h9 g8 f28 h10 g9 fn49 h11 g10 fn50)) hP hD [0, 1, 2, 3, 4, 5, 6, 7, 8, 9, 10, 11] [12] rfl rfl (by decide +kernel) (by decide +kernel) hk1 hFc hP1 hD1
            clear hP hD hPc hDc hKc hFc hP1 hK1 hD1 hk1 hz1
            generalize H1 = H at hP2 hS ⊢
            have hP := hP2.sub (ws' := (wd_cfaca2a5 h0 v0 r0 v1 v2 v3 v4 h1 h2 r1 h3 h4 h5 h6 v5 v6 h7 h8 r2 r3 v7 h9 r4 v8 v9 h10 r5 v10 v11 h11 x45 x46 r6 v14 w15 h12 v16 v17 r7 r8 r9 r10 r11 r12 v18 r13 r14 r15 v19 h1 g0 f20 h2 g1 f21 h3 g2 f22 h4 g3 f23 h5 g4 f24 h6 g5 f25 h7 g6 fn47 h8 g7 fn48 h9 g8 f28 h10 g9 fn49 h11 g10 fn50 h12 g11 fn26)) [1, 2, 3, 4, 5, 6, 7, 8, 9, 10, 11, 12, 0] rfl
            have hD := hD2.sub (ws' := (wd_cfaca2a5 h0 v0 r0 v1 v2 v3 v4 h1 h2 r1 h3 h4 h5 h6 v5 v6 h7 h8 r2 r3 v7 h9 r4 v8 v9 h10 r5 v10 v11 h11 x45 x46 r6 v14 w15 h12 v16 v17 r7 r8 r9 r10 r11 r12 v18 r13 r14 r15 v19 h1 g0 f20 h2 g1 f21 h3 g2 f22 h4 g3 f23 h5 g4 f24 h6 g5 f25 h7 g6 fn47 h8 g7 fn48 h9 g8 f28 h10 g9 fn49 h11 g10 fn50 h12 g11 fn26)) [1, 2, 3, 4, 5, 6, 7, 8, 9, 10, 11, 12, 0] (by decide +kernel) rfl
            clear hP2 hD2
            refine lv_iload hx hb dX12_oddsFrom_80 (lv_at hl 1 rfl) ?_
            refine lv_aload_n hx hb dX12_oddsFrom_82 rfl (lv_at hl 3 rfl) ?_
            refine lv_iload_n hx hb dX12_oddsFrom_83 rfl (lv_at hl 4 rfl) ?_
            refine lv_iconst (v := 1) hx hb dX12_oddsFrom_84 (by decide) ?_
            refine lv_iadd hx hb dX12_oddsFrom_85 ?_
            refine lv_topi (fun tv51 etv51 => ?_)
            obtain rfl : tv51 = (2 : Int32) := etv51.trans (by first | rfl | decide)
            refine lv_iload_n hx hb dX12_oddsFrom_86 rfl (lv_at hl 5 rfl) ?_
            refine lv_iload_n hx hb dX12_oddsFrom_87 rfl (lv_at hl 6 rfl) ?_
            refine lv_iload hx hb dX12_oddsFrom_88 (lv_at hl 7 rfl) ?_
            refine lv_iconst (v := 1) hx hb dX12_oddsFrom_90 (by decide) ?_
            refine lv_isub hx hb dX12_oddsFrom_91 ?_
            refine lv_topi (fun t52 et52 => ?_)
            have gt52 : t52.toInt = v34.toInt - 1 := pv_sub (a := v34.toInt) (b := 1) et52 rfl (by decide) (by omega) (by omega)
            refine lv_iload hx hb dX12_oddsFrom_92 (lv_at hl 8 rfl) ?_
            refine lv_iload hx hb dX12_oddsFrom_94 (lv_at hl 0 rfl) ?_
            refine lv_iconst (v := 1) hx hb dX12_oddsFrom_96 (by decide) ?_
            have hJ54 : ∀ (x53 : Int32) (H : Heap) (locs : List Loc) (ls : Array Slot), va_P (dC, dI) vwCl (wd_cfaca2a5 h0 v0 r0 v1 v2 v3 v4 h1 h2 r1 h3 h4 h5 h6 v5 v6 h7 h8 r2 r3 v7 h9 r4 v8 v9 h10 r5 v10 v11 h11 x45 x46 r6 v14 w15 h12 v16 v17 r7 r8 r9 r10 r11 r12 v18 r13 r14 r15 v19 h1 g0 f20 h2 g1 f21 h3 g2 f22 h4 g3 f23 h5 g4 f24 h6 g5 f25 h7 g6 fn47 h8 g7 fn48 h9 g8 f28 h10 g9 fn49 h11 g10 fn50 h12 g11 fn26) H → va_D A (wd_cfaca2a5 h0 v0 r0 v1 v2 v3 v4 h1 h2 r1 h3 h4 h5 h6 v5 v6 h7 h8 r2 r3 v7 h9 r4 v8 v9 h10 r5 v10 v11 h11 x45 x46 r6 v14 w15 h12 v16 v17 r7 r8 r9 r10 r11 r12 v18 r13 r14 r15 v19 h1 g0 f20 h2 g1 f21 h3 g2 f22 h4 g3 f23 h5 g4 f24 h6 g5 f25 h7 g6 fn47 h8 g7 fn48 h9 g8 f28 h10 g9 fn49 h11 g10 fn50 h12 g11 fn26) → va_S A s.heap H locs → lv_has ls 10 [(9, .int x18), (8, .int x19), (7, .int t6), (0, .ref h0), (1, .int 1), (2, .int v32), (3, .int v33), (4, .int v34), (5, .int v35), (6, .int v36)] → W p l e ({ frames := 12, cells := 0, slots := 0, locals := 290 }) s m ([.ref h0, .int 1, .int v32, .int v33, .int v34, .int v35, .int v36] : List Value).toArray below meth c H locs 0 0 Q (F0 m 110 ls [.int x53, .int v35, .int t52, .int v33, .int v32, .int 2, .ref h0, .int x19]) := by
              intro x53 H locs ls hP hD hS hl
              have hPc := hP.sub (ws' := (wd_cfaca2a5 h0 v0 r0 v1 v2 v3 v4 h1 h2 r1 h3 h4 h5 h6 v5 v6 h7 h8 r2 r3 v7 h9 r4 v8 v9 h10 r5 v10 v11 h11 x45 x46 r6 v14 w15 h12 v16 v17 r7 r8 r9 r10 r11 r12 v18 r13 r14 r15 v19 h1 g0 f20 h2 g1 f21 h3 g2 f22 h4 g3 f23 h5 g4 f24 h6 g5 f25 h7 g6 fn47 h8 g7 fn48 h9 g8 f28 h10 g9 fn49 h11 g10 fn50 h12 g11 fn26)) [0, 1, 2, 3, 4, 5, 6, 7, 8, 9, 10, 11, 12] rfl
              have hDc := hD.sub (ws' := (wd_cfaca2a5 h0 v0 r0 v1 v2 v3 v4 h1 h2 r1 h3 h4 h5 h6 v5 v6 h7 h8 r2 r3 v7 h9 r4 v8 v9 h10 r5 v10 v11 h11 x45 x46 r6 v14 w15 h12 v16 v17 r7 r8 r9 r10 r11 r12 v18 r13 r14 r15 v19 h1 g0 f20 h2 g1 f21 h3 g2 f22 h4 g3 f23 h5 g4 f24 h6 g5 f25 h7 g6 fn47 h8 g7 fn48 h9 g8 f28 h10 g9 fn49 h11 g10 fn50 h12 g11 fn26)) [0, 1, 2, 3, 4, 5, 6, 7, 8, 9, 10, 11, 12] (by decide +kernel) rfl
              have hKc := hK.sub (tys' := [(g0, .int), (g1, .int), (g2, .int), (g3, .int), (g4, .int), (g5, .int), (g6, .int), (g7, .int), (g8, .int), (g9, .int), (g10, .int), (g11, .int)]) [0, 1, 2, 3, 4, 5, 6, 7, 8, 9, 10, 11] rfl
              have hFc := va_free (wc := (wd_cfaca2a5 h0 v0 r0 v1 v2 v3 v4 h1 h2 r1 h3 h4 h5 h6 v5 v6 h7 h8 r2 r3 v7 h9 r4 v8 v9 h10 r5 v10 v11 h11 x45 x46 r6 v14 w15 h12 v16 v17 r7 r8 r9 r10 r11 r12 v18 r13 r14 r15 v19 h1 g0 f20 h2 g1 f21 h3 g2 f22 h4 g3 f23 h5 g4 f24 h6 g5 f25 h7 g6 fn47 h8 g7 fn48 h9 g8 f28 h10 g9 fn49 h11 g10 fn50 h12 g11 fn26)) hD hS hA [0, 1, 2, 3, 4, 5, 6, 7, 8, 9, 10, 11, 12] rfl
              refine va_calli (va_runV (As := [.int 2, .int v32, .int v33, .int t52, .int v35, .int x53]) (rest := [.int x19]) ⟨hx, hb, hml, hown, hts⟩ (k_X12_oddsFrom_4 l dC dI h0 h1 h2 h3 h4 h5 h6 h7 h8 h9 h10 h11 h12 v0 r0 v1 v2 v3 v4 r1 v5 v6 r2 r3 v7 r4 v8 v9 r5 v10 v11 x45 x46 r6 v14 w15 v16 v17 r7 r8 r9 r10 r11 r12 v18 r13 r14 r15 v19 g0 f20 g1 f21 g2 f22 g3 f23 g4 f24 g5 f25 g6 fn47 g7 fn48 g8 f28 g9 fn49 g10 fn50 g11 fn26 v32 v33 t52 v35 x53 ⟨i_v1a, i_v1b⟩ ⟨i_v5a, i_v5b⟩ ⟨i_v6a, i_v6b⟩ ⟨i_v7a, i_v7b⟩ ⟨i_v8a, i_v8b⟩ ⟨i_v9a, i_v9b⟩ ⟨i_v10a, i_v10b⟩ ⟨i_v14a, i_v14b⟩ ⟨i_v18a, i_v18b⟩ ⟨i_v19a, i_v19b⟩ ⟨i_v32a, i_v32b⟩ ⟨by first | omega | decide, by first | omega | decide⟩ ia_f28 ia_fn49 ia_fn26 pp0 H.size) (cwV 6 hts g_X12_oddsFrom_5_3 rfl rfl rfl (by decide +kernel) ⟨Nat.le_of_ble_eq_true rfl, Nat.le_of_ble_eq_true rfl⟩) (pv_PV12 hPc hKc hDc (q0 := 0) rfl) rfl rfl hl.1 rfl (lv_room (Nat.le_of_ble_eq_true rfl)) dX12_oddsFrom_110 ⟨Nat.le_of_ble_eq_true rfl, Nat.le_of_ble_eq_true rfl⟩) hS (fun q _ h => hFc q h) hFc (fun ra55 u t H1 locs ht hvm hwra55 hB hz1 hk1 hS => ?_)
              try rw [hwra55] at hB
              obtain ⟨x56, x57, fn58, fn59, fn60, fn61, fn62, ia_fn60, ia_fn62, hP1, hK1, hD1⟩ := hB
              rw [ht] at hP1
              obtain ⟨hP2, hD2⟩ := va_join (wr := []) (w1 := (wd_cfaca2a5 h0 v0 r0 v1 v2 v3 v4 h1 h2 r1 h3 h4 h5 h6 v5 v6 h7 h8 r2 r3 v7 h9 r4 v8 v9 h10 r5 v10 v11 h11 x56 x57 r6 v14 w15 h12 v16 v17 r7 r8 r9 r10 r11 r12 v18 r13 r14 r15 v19 h1 g0 f20 h2 g1 f21 h3 g2 f22 h4 g3 f23 h5 g4 f24 h6 g5 f25 h7 g6 fn58 h8 g7 fn59 h9 g8 f28 h10 g9 fn60 h11 g10 fn61 h12 g11 fn62)) hP hD [0, 1, 2, 3, 4, 5, 6, 7, 8, 9, 10, 11, 12] [] rfl rfl (by decide +kernel) (by decide +kernel) hk1 hFc hP1 hD1
              clear hP hD hPc hDc hKc hFc hP1 hK1 hD1 hk1 hz1
              generalize H1 = H at hP2 hS ⊢
              have hP : va_P (dC, dI) vwCl (wd_cfaca2a5 h0 v0 r0 v1 v2 v3 v4 h1 h2 r1 h3 h4 h5 h6 v5 v6 h7 h8 r2 r3 v7 h9 r4 v8 v9 h10 r5 v10 v11 h11 x56 x57 r6 v14 w15 h12 v16 v17 r7 r8 r9 r10 r11 r12 v18 r13 r14 r15 v19 h1 g0 f20 h2 g1 f21 h3 g2 f22 h4 g3 f23 h5 g4 f24 h6 g5 f25 h7 g6 fn58 h8 g7 fn59 h9 g8 f28 h10 g9 fn60 h11 g10 fn61 h12 g11 fn62) H := hP2
              have hD : va_D A (wd_cfaca2a5 h0 v0 r0 v1 v2 v3 v4 h1 h2 r1 h3 h4 h5 h6 v5 v6 h7 h8 r2 r3 v7 h9 r4 v8 v9 h10 r5 v10 v11 h11 x56 x57 r6 v14 w15 h12 v16 v17 r7 r8 r9 r10 r11 r12 v18 r13 r14 r15 v19 h1 g0 f20 h2 g1 f21 h3 g2 f22 h4 g3 f23 h5 g4 f24 h6 g5 f25 h7 g6 fn58 h8 g7 fn59 h9 g8 f28 h10 g9 fn60 h11 g10 fn61 h12 g11 fn62) := hD2
              clear hP2 hD2
              refine lv_iadd hx hb dX12_oddsFrom_113 ?_
              refine lv_topi (fun t63 et63 => ?_)
              refine lv_istore (lv' := [(8, .int t63), (9, .int x18), (7, .int t6), (0, .ref h0), (1, .int 1), (2, .int v32), (3, .int v33), (4, .int v34), (5, .int v35), (6, .int v36)]) hx hb dX12_oddsFrom_114 hl (by decide) rfl (fun ls hl => ?_)
              refine lv_aload_n hx hb dX12_oddsFrom_116 rfl (lv_at hl 3 rfl) ?_
              refine lv_iload_n hx hb dX12_oddsFrom_117 rfl (lv_at hl 4 rfl) ?_
              have hPc := hP.sub (ws' := (wd_04244fe9 h0 v0 r0 v1 v2 v3 v4 h1 h2 r1 h3 h4 h5 h6 v5 v6 h7 h8 r2 r3 v7 h9 r4 v8 v9 h10 r5 v10 v11 h11 x56 x57 r6 v14 w15 h12 v16 v17 r7 r8 r9 r10 r11 r12 v18 r13 r14 r15 v19 h10 g9 fn60 h12 g11 fn62)) [0, 10, 12] rfl
              have hDc := hD.sub (ws' := (wd_04244fe9 h0 v0 r0 v1 v2 v3 v4 h1 h2 r1 h3 h4 h5 h6 v5 v6 h7 h8 r2 r3 v7 h9 r4 v8 v9 h10 r5 v10 v11 h11 x56 x57 r6 v14 w15 h12 v16 v17 r7 r8 r9 r10 r11 r12 v18 r13 r14 r15 v19 h10 g9 fn60 h12 g11 fn62)) [0, 10, 12] (by decide) rfl
              have hKc := hK.sub (tys' := [(g9, .int), (g11, .int)]) [9, 11] rfl
              have hFc := va_free (wc := (wd_04244fe9 h0 v0 r0 v1 v2 v3 v4 h1 h2 r1 h3 h4 h5 h6 v5 v6 h7 h8 r2 r3 v7 h9 r4 v8 v9 h10 r5 v10 v11 h11 x56 x57 r6 v14 w15 h12 v16 v17 r7 r8 r9 r10 r11 r12 v18 r13 r14 r15 v19 h10 g9 fn60 h12 g11 fn62)) hD hS hA [0, 10, 12] rfl
              refine va_callv (va_runV (As := [.int 1]) (rest := []) ⟨hx, hb, hml, hown, hts⟩ (k_X12_takeBack l dC dI h0 h10 h12 v0 r0 v1 v2 v3 v4 h1 h2 r1 h3 h4 h5 h6 v5 v6 h7 h8 r2 r3 v7 h9 r4 v8 v9 r5 v10 v11 h11 x56 x57 r6 v14 w15 v16 v17 r7 r8 r9 r10 r11 r12 v18 r13 r14 r15 v19 g9 fn60 g11 fn62 1 ⟨i_v1a, i_v1b⟩ ⟨i_v5a, i_v5b⟩ ⟨i_v6a, i_v6b⟩ ⟨i_v7a, i_v7b⟩ ⟨i_v8a, i_v8b⟩ ⟨i_v9a, i_v9b⟩ ⟨i_v10a, i_v10b⟩ ⟨i_v14a, i_v14b⟩ ⟨i_v18a, i_v18b⟩ ⟨i_v19a, i_v19b⟩ ⟨by decide, by decide⟩ ia_fn60.1 ia_fn62 H.size) (cwV 1 hts g_X12_oddsFrom_5_4 rfl rfl rfl (by decide +kernel) ⟨Nat.le_of_ble_eq_true rfl, Nat.le_of_ble_eq_true rfl⟩) (pv_PV12 hPc hKc hDc (q0 := 0) rfl) rfl rfl hl.1 rfl (lv_room (Nat.le_of_ble_eq_true rfl)) dX12_oddsFrom_118 ⟨Nat.le_of_ble_eq_true rfl, Nat.le_of_ble_eq_true rfl⟩) hS (fun q _ h => hFc q h) hFc (fun u t H1 locs ht hvm hwra64 hB hz1 hk1 hS => ?_)
              obtain ⟨fn65, ia_fn65, hP1, hK1, hD1⟩ := hB
              rw [ht] at hP1
              obtain ⟨hP2, hD2⟩ := va_join (wr := (wd_4dc6964c h1 g0 f20 h2 g1 f21 h3 g2 f22 h4 g3 f23 h5 g4 f24 h6 g5 f25 h7 g6 fn58 h8 g7 fn59 h9 g8 f28 h11 g10 fn61)) (w1 := (wd_04244fe9 h0 v0 r0 v1 v2 v3 v4 h1 h2 r1 h3 h4 h5 h6 v5 v6 h7 h8 r2 r3 v7 h9 r4 v8 v9 h10 r5 v10 v11 h11 x56 x57 r6 v14 w15 h12 v16 v17 r7 r8 r9 r10 r11 r12 v18 r13 r14 r15 v19 h10 g9 fn65 h12 g11 fn62)) hP hD [0, 10, 12] [1, 2, 3, 4, 5, 6, 7, 8, 9, 11] rfl rfl (by decide +kernel) (by decide +kernel) hk1 hFc hP1 hD1
              clear hP hD hPc hDc hKc hFc hP1 hK1 hD1 hk1 hz1
              generalize H1 = H at hP2 hS ⊢
              have hP := hP2.sub (ws' := (wd_cfaca2a5 h0 v0 r0 v1 v2 v3 v4 h1 h2 r1 h3 h4 h5 h6 v5 v6 h7 h8 r2 r3 v7 h9 r4 v8 v9 h10 r5 v10 v11 h11 x56 x57 r6 v14 w15 h12 v16 v17 r7 r8 r9 r10 r11 r12 v18 r13 r14 r15 v19 h1 g0 f20 h2 g1 f21 h3 g2 f22 h4 g3 f23 h5 g4 f24 h6 g5 f25 h7 g6 fn58 h8 g7 fn59 h9 g8 f28 h10 g9 fn65 h11 g10 fn61 h12 g11 fn62)) [10, 0, 1, 2, 3, 4, 5, 6, 7, 8, 11, 9, 12] rfl
              have hD := hD2.sub (ws' := (wd_cfaca2a5 h0 v0 r0 v1 v2 v3 v4 h1 h2 r1 h3 h4 h5 h6 v5 v6 h7 h8 r2 r3 v7 h9 r4 v8 v9 h10 r5 v10 v11 h11 x56 x57 r6 v14 w15 h12 v16 v17 r7 r8 r9 r10 r11 r12 v18 r13 r14 r15 v19 h1 g0 f20 h2 g1 f21 h3 g2 f22 h4 g3 f23 h5 g4 f24 h6 g5 f25 h7 g6 fn58 h8 g7 fn59 h9 g8 f28 h10 g9 fn65 h11 g10 fn61 h12 g11 fn62)) [10, 0, 1, 2, 3, 4, 5, 6, 7, 8, 11, 9, 12] (by decide +kernel) rfl
              clear hP2 hD2
              obtain ⟨t66, et66⟩ : ∃ y : Int32, y = x18 + 1 := ⟨_, rfl⟩
              have gt66 : t66.toInt = x18.toInt + (1) := pv_add (a := x18.toInt) (b := (1)) et66 rfl (by decide) (by omega) (by omega)
              refine lv_iinc (v := t66) (lv' := [(9, .int t66), (8, .int t63), (7, .int t6), (0, .ref h0), (1, .int 1), (2, .int v32), (3, .int v33), (4, .int v34), (5, .int v35), (6, .int v36)]) hx hb dX12_oddsFrom_121 hl (k := 1) rfl (by rw [et66]; rfl) (by decide) rfl (fun ls hl => ?_)
              refine lv_goto (tgt := 46) hx hb dX12_oddsFrom_124 (by decide) ?_
              exact ih_hL36 t66 t63 x56 x57 fn58 fn59 fn65 fn61 fn62 H locs ls (by first | omega | decide) (by first | omega | decide) ia_fn65 ia_fn62 (by first | omega | (simp only [Int.toNat] at *; omega)) hP hD hS (lv_sub hl [0, 1, 2, 3, 4, 5, 6, 7, 8, 9] rfl)
            refine lv_icmp_ne (tgt := 105) hx hb dX12_oddsFrom_97 (by decide) (fun c67 => ?_) (fun c67 => ?_)
            · skip
              have fc67 : ¬ (x18.toInt = 1) := fun h9 => c67 (Int32.toInt_inj.mp h9)
              refine lv_iload hx hb dX12_oddsFrom_105 (lv_at hl 9 rfl) ?_
              refine lv_iload hx hb dX12_oddsFrom_107 (lv_at hl 2 rfl) ?_
              refine lv_isub hx hb dX12_oddsFrom_109 ?_
              refine lv_topi (fun t68 et68 => ?_)
              exact hJ54 t68 H locs ls hP hD hS (lv_sub hl [0, 1, 2, 3, 4, 5, 6, 7, 8, 9] rfl)
            · skip
              have fc67 : x18.toInt = 1 := congrArg Int32.toInt c67
              refine lv_iload hx hb dX12_oddsFrom_100 (lv_at hl 2 rfl) ?_
              refine lv_goto (tgt := 110) hx hb dX12_oddsFrom_102 (by decide) ?_
              exact hJ54 t6 H locs ls hP hD hS (lv_sub hl [0, 1, 2, 3, 4, 5, 6, 7, 8, 9] rfl)
          refine lv_icmp_ne (tgt := 66) hx hb dX12_oddsFrom_59 (by decide) (fun c69 => ?_) (fun c69 => ?_)
          · skip
            have fc69 : ¬ (x18.toInt = 1) := fun h9 => c69 (Int32.toInt_inj.mp h9)
            refine lv_aload_n hx hb dX12_oddsFrom_66 rfl (lv_at hl 3 rfl) ?_
            refine lv_iload_n hx hb dX12_oddsFrom_67 rfl (lv_at hl 5 rfl) ?_
            refine lv_bipush (v := 6) hx hb dX12_oddsFrom_68 (by decide) ?_
            have hPc := hP.sub (ws' := (wd_5013416a h0 v0 r0 v1 v2 v3 v4 h1 h2 r1 h3 h4 h5 h6 v5 v6 h7 h8 r2 r3 v7 h9 r4 v8 v9 h10 r5 v10 v11 h11 x20 x21 r6 v14 w15 h12 v16 v17 r7 r8 r9 r10 r11 r12 v18 r13 r14 r15 v19 h10 g9 fn24)) [0, 10] rfl
            have hDc := hD.sub (ws' := (wd_5013416a h0 v0 r0 v1 v2 v3 v4 h1 h2 r1 h3 h4 h5 h6 v5 v6 h7 h8 r2 r3 v7 h9 r4 v8 v9 h10 r5 v10 v11 h11 x20 x21 r6 v14 w15 h12 v16 v17 r7 r8 r9 r10 r11 r12 v18 r13 r14 r15 v19 h10 g9 fn24)) [0, 10] (by decide) rfl
            have hKc := hK.sub (tys' := [(g9, .int)]) [9] rfl
            have hFc := va_free (wc := (wd_5013416a h0 v0 r0 v1 v2 v3 v4 h1 h2 r1 h3 h4 h5 h6 v5 v6 h7 h8 r2 r3 v7 h9 r4 v8 v9 h10 r5 v10 v11 h11 x20 x21 r6 v14 w15 h12 v16 v17 r7 r8 r9 r10 r11 r12 v18 r13 r14 r15 v19 h10 g9 fn24)) hD hS hA [0, 10] rfl
            refine va_calli (va_runV (As := [.int v32, .int 6]) (rest := [.int 6, .int v32, .ref h0]) ⟨hx, hb, hml, hown, hts⟩ (k_X12_of_8 l dC dI h0 h10 v0 r0 v1 v2 v3 v4 h1 h2 r1 h3 h4 h5 h6 v5 v6 h7 h8 r2 r3 v7 h9 r4 v8 v9 r5 v10 v11 h11 x20 x21 r6 v14 w15 h12 v16 v17 r7 r8 r9 r10 r11 r12 v18 r13 r14 r15 v19 g9 fn24 v32 ⟨i_v1a, i_v1b⟩ ⟨i_v5a, i_v5b⟩ ⟨i_v6a, i_v6b⟩ ⟨i_v7a, i_v7b⟩ ⟨i_v8a, i_v8b⟩ ⟨i_v9a, i_v9b⟩ ⟨i_v10a, i_v10b⟩ ⟨i_v14a, i_v14b⟩ ⟨i_v18a, i_v18b⟩ ⟨i_v19a, i_v19b⟩ ⟨i_v32a, i_v32b⟩ ia_fn24.1 H.size) (cwV 2 hts g_X12_oddsFrom_5_5 rfl rfl rfl (by decide +kernel) ⟨Nat.le_of_ble_eq_true rfl, Nat.le_of_ble_eq_true rfl⟩) (pv_PV12 hPc hKc hDc (q0 := 0) rfl) rfl rfl hl.1 rfl (lv_room (Nat.le_of_ble_eq_true rfl)) dX12_oddsFrom_70 ⟨Nat.le_of_ble_eq_true rfl, Nat.le_of_ble_eq_true rfl⟩) hS (fun q _ h => hFc q h) hFc (fun ra70 u t H1 locs ht hvm hwra70 hB hz1 hk1 hS => ?_)
            try rw [hwra70] at hB
            obtain ⟨pt0_ra70, hP1, hK1, hD1⟩ := hB
            rw [ht] at hP1
            obtain ⟨hP2, hD2⟩ := va_join (wr := (wd_e8ff9da7 h1 g0 f20 h2 g1 f21 h3 g2 f22 h4 g3 f23 h5 g4 f24 h6 g5 f25 h7 g6 fn22 h8 g7 fn23 h9 g8 f28 h11 g10 fn25 h12 g11 fn26)) (w1 := (wd_5013416a h0 v0 r0 v1 v2 v3 v4 h1 h2 r1 h3 h4 h5 h6 v5 v6 h7 h8 r2 r3 v7 h9 r4 v8 v9 h10 r5 v10 v11 h11 x20 x21 r6 v14 w15 h12 v16 v17 r7 r8 r9 r10 r11 r12 v18 r13 r14 r15 v19 h10 g9 fn24)) hP hD [0, 10] [1, 2, 3, 4, 5, 6, 7, 8, 9, 11, 12] rfl rfl (by decide +kernel) (by decide +kernel) hk1 hFc hP1 hD1
            clear hP hD hPc hDc hKc hFc hP1 hK1 hD1 hk1 hz1
            generalize H1 = H at hP2 hS ⊢
            have hP := hP2.sub (ws' := (wd_cfaca2a5 h0 v0 r0 v1 v2 v3 v4 h1 h2 r1 h3 h4 h5 h6 v5 v6 h7 h8 r2 r3 v7 h9 r4 v8 v9 h10 r5 v10 v11 h11 x20 x21 r6 v14 w15 h12 v16 v17 r7 r8 r9 r10 r11 r12 v18 r13 r14 r15 v19 h1 g0 f20 h2 g1 f21 h3 g2 f22 h4 g3 f23 h5 g4 f24 h6 g5 f25 h7 g6 fn22 h8 g7 fn23 h9 g8 f28 h10 g9 fn24 h11 g10 fn25 h12 g11 fn26)) [11, 0, 1, 2, 3, 4, 5, 6, 7, 8, 12, 9, 10] rfl
            have hD := hD2.sub (ws' := (wd_cfaca2a5 h0 v0 r0 v1 v2 v3 v4 h1 h2 r1 h3 h4 h5 h6 v5 v6 h7 h8 r2 r3 v7 h9 r4 v8 v9 h10 r5 v10 v11 h11 x20 x21 r6 v14 w15 h12 v16 v17 r7 r8 r9 r10 r11 r12 v18 r13 r14 r15 v19 h1 g0 f20 h2 g1 f21 h3 g2 f22 h4 g3 f23 h5 g4 f24 h6 g5 f25 h7 g6 fn22 h8 g7 fn23 h9 g8 f28 h10 g9 fn24 h11 g10 fn25 h12 g11 fn26)) [11, 0, 1, 2, 3, 4, 5, 6, 7, 8, 12, 9, 10] (by decide +kernel) rfl
            clear hP2 hD2
            exact hJ39 ra70 H locs ls hP hD hS (lv_sub hl [0, 1, 2, 3, 4, 5, 6, 7, 8, 9] rfl)
          · skip
            have fc69 : x18.toInt = 1 := congrArg Int32.toInt c69
            refine lv_iconst (v := 1) hx hb dX12_oddsFrom_62 (by decide) ?_
            refine lv_goto (tgt := 73) hx hb dX12_oddsFrom_63 (by decide) ?_
            exact hJ39 1 H locs ls hP hD hS (lv_sub hl [0, 1, 2, 3, 4, 5, 6, 7, 8, 9] rfl)
    exact hL36 _ 0 0 v12 v13 f26 f27 f29 f30 fn8 H locs ls (by decide) (by decide) ia_f29 ia_fn8 (Nat.lt_succ_self _) hP hD hS (lv_sub hl [0, 1, 2, 3, 4, 5, 6, 7, 8, 9] rfl)
  · skip
    have fc1 : v34.toInt = 0 := congrArg Int32.toInt c1
    refine lv_aload_n hx hb dX12_oddsFrom_5 rfl (lv_at hl 0 rfl) ?_
    refine lv_iload_n hx hb dX12_oddsFrom_6 rfl (lv_at hl 2 rfl) ?_
    have hPc := hP.sub (ws' := (wd_5013416a h0 v0 r0 v1 v2 v3 v4 h1 h2 r1 h3 h4 h5 h6 v5 v6 h7 h8 r2 r3 v7 h9 r4 v8 v9 h10 r5 v10 v11 h11 v12 v13 r6 v14 w15 h12 v16 v17 r7 r8 r9 r10 r11 r12 v18 r13 r14 r15 v19 h10 g9 f29)) [0, 10] rfl
    have hDc := hD.sub (ws' := (wd_5013416a h0 v0 r0 v1 v2 v3 v4 h1 h2 r1 h3 h4 h5 h6 v5 v6 h7 h8 r2 r3 v7 h9 r4 v8 v9 h10 r5 v10 v11 h11 v12 v13 r6 v14 w15 h12 v16 v17 r7 r8 r9 r10 r11 r12 v18 r13 r14 r15 v19 h10 g9 f29)) [0, 10] (by decide) rfl
    have hKc := hK.sub (tys' := [(g9, .int)]) [9] rfl
    have hFc := va_free (wc := (wd_5013416a h0 v0 r0 v1 v2 v3 v4 h1 h2 r1 h3 h4 h5 h6 v5 v6 h7 h8 r2 r3 v7 h9 r4 v8 v9 h10 r5 v10 v11 h11 v12 v13 r6 v14 w15 h12 v16 v17 r7 r8 r9 r10 r11 r12 v18 r13 r14 r15 v19 h10 g9 f29)) hD hS hA [0, 10] rfl
    refine va_calli (va_runV (As := [.int v32]) (rest := []) ⟨hx, hb, hml, hown, hts⟩ (k_X12_sizeNow l dC dI h0 h10 v0 r0 v1 v2 v3 v4 h1 h2 r1 h3 h4 h5 h6 v5 v6 h7 h8 r2 r3 v7 h9 r4 v8 v9 r5 v10 v11 h11 v12 v13 r6 v14 w15 h12 v16 v17 r7 r8 r9 r10 r11 r12 v18 r13 r14 r15 v19 g9 f29 v32 ⟨i_v1a, i_v1b⟩ ⟨i_v5a, i_v5b⟩ ⟨i_v6a, i_v6b⟩ ⟨i_v7a, i_v7b⟩ ⟨i_v8a, i_v8b⟩ ⟨i_v9a, i_v9b⟩ ⟨i_v10a, i_v10b⟩ ⟨i_v14a, i_v14b⟩ ⟨i_v18a, i_v18b⟩ ⟨i_v19a, i_v19b⟩ ia_f29.1 H.size) (cwV 1 hts g_X12_oddsFrom_5_6 rfl rfl rfl (by decide +kernel) ⟨Nat.le_of_ble_eq_true rfl, Nat.le_of_ble_eq_true rfl⟩) (pv_PV12 hPc hKc hDc (q0 := 0) rfl) rfl rfl hl.1 rfl (lv_room (Nat.le_of_ble_eq_true rfl)) dX12_oddsFrom_7 ⟨Nat.le_of_ble_eq_true rfl, Nat.le_of_ble_eq_true rfl⟩) hS (fun q _ h => hFc q h) hFc (fun ra71 u t H1 locs ht hvm hwra71 hB hz1 hk1 hS => ?_)
    try rw [hwra71] at hB
    obtain ⟨pt0_ra71, pt1_ra71, hP1, hK1, hD1⟩ := hB
    rw [ht] at hP1
    obtain ⟨hP2, hD2⟩ := va_join (wr := (wd_e8ff9da7 h1 g0 f20 h2 g1 f21 h3 g2 f22 h4 g3 f23 h5 g4 f24 h6 g5 f25 h7 g6 f26 h8 g7 f27 h9 g8 f28 h11 g10 f30 h12 g11 f31)) (w1 := (wd_5013416a h0 v0 r0 v1 v2 v3 v4 h1 h2 r1 h3 h4 h5 h6 v5 v6 h7 h8 r2 r3 v7 h9 r4 v8 v9 h10 r5 v10 v11 h11 v12 v13 r6 v14 w15 h12 v16 v17 r7 r8 r9 r10 r11 r12 v18 r13 r14 r15 v19 h10 g9 f29)) hP hD [0, 10] [1, 2, 3, 4, 5, 6, 7, 8, 9, 11, 12] rfl rfl (by decide +kernel) (by decide +kernel) hk1 hFc hP1 hD1
    clear hP hD hPc hDc hKc hFc hP1 hK1 hD1 hk1 hz1
    generalize H1 = H at hP2 hS ⊢
    have hP := hP2.sub (ws' := (wd_cfaca2a5 h0 v0 r0 v1 v2 v3 v4 h1 h2 r1 h3 h4 h5 h6 v5 v6 h7 h8 r2 r3 v7 h9 r4 v8 v9 h10 r5 v10 v11 h11 v12 v13 r6 v14 w15 h12 v16 v17 r7 r8 r9 r10 r11 r12 v18 r13 r14 r15 v19 h1 g0 f20 h2 g1 f21 h3 g2 f22 h4 g3 f23 h5 g4 f24 h6 g5 f25 h7 g6 f26 h8 g7 f27 h9 g8 f28 h10 g9 f29 h11 g10 f30 h12 g11 f31)) [11, 0, 1, 2, 3, 4, 5, 6, 7, 8, 12, 9, 10] rfl
    have hD := hD2.sub (ws' := (wd_cfaca2a5 h0 v0 r0 v1 v2 v3 v4 h1 h2 r1 h3 h4 h5 h6 v5 v6 h7 h8 r2 r3 v7 h9 r4 v8 v9 h10 r5 v10 v11 h11 v12 v13 r6 v14 w15 h12 v16 v17 r7 r8 r9 r10 r11 r12 v18 r13 r14 r15 v19 h1 g0 f20 h2 g1 f21 h3 g2 f22 h4 g3 f23 h5 g4 f24 h6 g5 f25 h7 g6 f26 h8 g7 f27 h9 g8 f28 h10 g9 f29 h11 g10 f30 h12 g11 f31)) [11, 0, 1, 2, 3, 4, 5, 6, 7, 8, 12, 9, 10] (by decide +kernel) rfl
    clear hP2 hD2
    refine lv_iload_n hx hb dX12_oddsFrom_10 rfl (lv_at hl 3 rfl) ?_
    have hJ73 : ∀ (x72 : Int32) (H : Heap) (locs : List Loc) (ls : Array Slot), va_P (dC, dI) vwCl (wd_cfaca2a5 h0 v0 r0 v1 v2 v3 v4 h1 h2 r1 h3 h4 h5 h6 v5 v6 h7 h8 r2 r3 v7 h9 r4 v8 v9 h10 r5 v10 v11 h11 v12 v13 r6 v14 w15 h12 v16 v17 r7 r8 r9 r10 r11 r12 v18 r13 r14 r15 v19 h1 g0 f20 h2 g1 f21 h3 g2 f22 h4 g3 f23 h5 g4 f24 h6 g5 f25 h7 g6 f26 h8 g7 f27 h9 g8 f28 h10 g9 f29 h11 g10 f30 h12 g11 f31) H → va_D A (wd_cfaca2a5 h0 v0 r0 v1 v2 v3 v4 h1 h2 r1 h3 h4 h5 h6 v5 v6 h7 h8 r2 r3 v7 h9 r4 v8 v9 h10 r5 v10 v11 h11 v12 v13 r6 v14 w15 h12 v16 v17 r7 r8 r9 r10 r11 r12 v18 r13 r14 r15 v19 h1 g0 f20 h2 g1 f21 h3 g2 f22 h4 g3 f23 h5 g4 f24 h6 g5 f25 h7 g6 f26 h8 g7 f27 h9 g8 f28 h10 g9 f29 h11 g10 f30 h12 g11 f31) → va_S A s.heap H locs → lv_has ls 10 [(0, .ref h0), (1, .int 1), (2, .int v32), (3, .int v33), (4, .int v34), (5, .int v35), (6, .int v36)] → W p l e ({ frames := 12, cells := 0, slots := 0, locals := 290 }) s m ([.ref h0, .int 1, .int v32, .int v33, .int v34, .int v35, .int v36] : List Value).toArray below meth c H locs 0 0 Q (F0 m 20 ls [.int x72]) := by
      intro x72 H locs ls hP hD hS hl
      subst hQ
      have hP9 := hP.sub (ws' := (wd_cfaca2a5 h0 v0 r0 v1 v2 v3 v4 h1 h2 r1 h3 h4 h5 h6 v5 v6 h7 h8 r2 r3 v7 h9 r4 v8 v9 h10 r5 v10 v11 h11 v12 v13 r6 v14 w15 h12 v16 v17 r7 r8 r9 r10 r11 r12 v18 r13 r14 r15 v19 h1 g0 f20 h2 g1 f21 h3 g2 f22 h4 g3 f23 h5 g4 f24 h6 g5 f25 h7 g6 f26 h8 g7 f27 h9 g8 f28 h10 g9 f29 h11 g10 f30 h12 g11 f31)) [0, 1, 2, 3, 4, 5, 6, 7, 8, 9, 10, 11, 12] rfl
      have hD9 := hD.sub (ws' := (wd_cfaca2a5 h0 v0 r0 v1 v2 v3 v4 h1 h2 r1 h3 h4 h5 h6 v5 v6 h7 h8 r2 r3 v7 h9 r4 v8 v9 h10 r5 v10 v11 h11 v12 v13 r6 v14 w15 h12 v16 v17 r7 r8 r9 r10 r11 r12 v18 r13 r14 r15 v19 h1 g0 f20 h2 g1 f21 h3 g2 f22 h4 g3 f23 h5 g4 f24 h6 g5 f25 h7 g6 f26 h8 g7 f27 h9 g8 f28 h10 g9 f29 h11 g10 f30 h12 g11 f31)) [0, 1, 2, 3, 4, 5, 6, 7, 8, 9, 10, 11, 12] (by decide +kernel) rfl
      have hK9 := hK.sub (tys' := []) [] rfl
      exact W.iret (v := x72) hx hb hr (fun t ht hW => ⟨⟨x72, x72, rfl, rfl, ⟨v12, v13, f26, f27, f29, f30, f31, ia_f29, ia_f31, by rw [ht]; exact hP9, va_K.moved hW.alike hK9, hD9⟩⟩, hS.F ht⟩) hS.2.2 dX12_oddsFrom_20
    refine lv_icmp_lt (tgt := 19) hx hb dX12_oddsFrom_11 (by decide) (fun c74 => ?_) (fun c74 => ?_)
    · skip
      have fc74 : ra71.toInt < v33.toInt := Int32.lt_iff_toInt_lt.mp c74
      have r1c74 := Int32.toInt_lt ra71
      have r2c74 := Int32.toInt_lt v33
      have r3c74 := Int32.le_toInt ra71
      have r4c74 := Int32.le_toInt v33
      refine lv_iconst (v := 0) hx hb dX12_oddsFrom_19 (by decide) ?_
      exact hJ73 0 H locs ls hP hD hS (lv_sub hl [0, 1, 2, 3, 4, 5, 6] rfl)
    · skip
      have fc74 : ¬ (ra71.toInt < v33.toInt) := fun h9 => c74 (Int32.lt_iff_toInt_lt.mpr h9)
      have r1c74 := Int32.toInt_lt ra71
      have r2c74 := Int32.toInt_lt v33
      have r3c74 := Int32.le_toInt ra71
      have r4c74 := Int32.le_toInt v33
      refine lv_iload hx hb dX12_oddsFrom_14 (lv_at hl 6 rfl) ?_
      refine lv_goto (tgt := 20) hx hb dX12_oddsFrom_16 (by decide) ?_
      exact hJ73 v36 H locs ls hP hD hS (lv_sub hl [0, 1, 2, 3, 4, 5, 6] rfl)
def q_X12_oddsFrom_6 : List Cond := .code yX12_oddsFrom cX12_oddsFrom 10 (some .int) :: (([.constantLong RX12 447 (100), .code yX12_putAside cX12_putAside 3 none, .fieldLink RX12 71 "LeftArgumentsModel" "aside" "[I", .fieldLink RX12 52 "LeftArgumentsModel" "now" "[I", .initialized RX12, .instanceMethod yX12_putAside, .selects RX12 yX12_putAside yX12_putAside, .methodLink RX12 375 yX12_putAside, .code yX12_set cX12_set 4 none, .instanceMethod yX12_set, .selects RX12 yX12_set yX12_set, .methodLink RX12 258 yX12_set, .code yX12_live cX12_live 2 none, .code yX12_growAll cX12_growAll 2 none, .code yX12_isThere cX12_isThere 2 (some .boolean), .code yX12_in cX12_in 3 (some .boolean), .static yX12_in, .methodLink RX12 217 yX12_in, .code yX12_of cX12_of 3 (some .int), .instanceMethod yX12_of, .selects RX12 yX12_of yX12_of, .methodLink RX12 287 yX12_of, .instanceMethod yX12_isThere, .selects RX12 yX12_isThere yX12_isThere, .methodLink RX12 290 yX12_isThere, .fieldLink RX12 65 "LeftArgumentsModel" "grows" "[I", .methodLink RX12 299 Lib.Math.min.name, .static Lib.Math.min.name, .initialized "java/lang/Math", .code Lib.Math.min.name Lib.Math.min.code 2 (some .int), .methodLink RX12 301 Lib.Math.max.name, .static Lib.Math.max.name, .code Lib.Math.max.name Lib.Math.max.code 2 (some .int), .code yX12_growthOf cX12_growthOf 4 (some .int), .code yX12_withOf cX12_withOf 4 (some .int), .instanceMethod yX12_withOf, .selects RX12 yX12_withOf yX12_withOf, .methodLink RX12 293 yX12_withOf, .fieldLink RX12 58 "LeftArgumentsModel" "holding" "I", .fieldLink RX12 34 "LeftArgumentsModel" "letters" "[I", .code yX12_worthOf cX12_worthOf 3 (some .int), .fieldLink RX12 22 "LeftArgumentsModel" "clauses" "[I", .fieldLink RX12 25 "LeftArgumentsModel" "testFrom" "[I", .fieldLink RX12 28 "LeftArgumentsModel" "sumFrom" "[I", .fieldLink RX12 31 "LeftArgumentsModel" "sumTo" "[I", .code yX12_workOut cX12_workOut 6 (some .int), .fieldLink RX12 37 "LeftArgumentsModel" "stack" "[I", .fieldLink RX12 13 "LeftArgumentsModel" "code" "[I", .fieldLink RX12 16 "LeftArgumentsModel" "value" "[I", .code yX12_worked cX12_worked 5 (some .int), .code yX12_bounded cX12_bounded 2 (some .int), .constantLong RX12 192 (-1000000), .constantLong RX12 194 (1000000), .methodLink RX12 196 Lib.MathLoose.min_long.x, .static Lib.MathLoose.min_long.x, .code Lib.MathLoose.min_long.x Lib.MathLoose.min_long.code 4 (some .long), .methodLink RX12 202 Lib.MathLoose.max_long.x, .static Lib.MathLoose.max_long.x, .code Lib.MathLoose.max_long.x Lib.MathLoose.max_long.code 4 (some .long), .static yX12_bounded, .methodLink RX12 205 yX12_bounded, .static yX12_worked, .methodLink RX12 209 yX12_worked, .instanceMethod yX12_workOut, .selects RX12 yX12_workOut yX12_workOut, .methodLink RX12 213 yX12_workOut, .instanceMethod yX12_worthOf, .selects RX12 yX12_worthOf yX12_worthOf, .methodLink RX12 296 yX12_worthOf, .instanceMethod yX12_growthOf, .selects RX12 yX12_growthOf yX12_growthOf, .methodLink RX12 303 yX12_growthOf, .instanceMethod yX12_growAll, .selects RX12 yX12_growAll yX12_growAll, .methodLink RX12 318 yX12_growAll, .code yX12_endAll cX12_endAll 2 none, .fieldLink RX12 306 "LeftArgumentsModel" "ended" "I", .instanceMethod yX12_endAll, .selects RX12 yX12_endAll yX12_endAll, .methodLink RX12 321 yX12_endAll, .code yX12_dropAll cX12_dropAll 3 none, .fieldLink RX12 309 "LeftArgumentsModel" "fell" "I", .fieldLink RX12 46 "LeftArgumentsModel" "rule" "[I", .code yX12_loadOf cX12_loadOf 4 (some .int), .instanceMethod yX12_loadOf, .selects RX12 yX12_loadOf yX12_loadOf, .methodLink RX12 312 yX12_loadOf, .code yX12_largestOn cX12_largestOn 4 (some .int), .instanceMethod yX12_largestOn, .selects RX12 yX12_largestOn yX12_largestOn, .methodLink RX12 315 yX12_largestOn, .instanceMethod yX12_dropAll, .selects RX12 yX12_dropAll yX12_dropAll, .methodLink RX12 324 yX12_dropAll, .instanceMethod yX12_live, .selects RX12 yX12_live yX12_live, .methodLink RX12 327 yX12_live, .code yX12_oddsFrom cX12_oddsFrom 10 (some .int), .code yX12_sizeNow cX12_sizeNow 2 (some .int), .instanceMethod yX12_sizeNow, .selects RX12 yX12_sizeNow yX12_sizeNow, .methodLink RX12 378 yX12_sizeNow, .instanceMethod yX12_oddsFrom, .selects RX12 yX12_oddsFrom yX12_oddsFrom, .methodLink RX12 449 yX12_oddsFrom, .code yX12_takeBack cX12_takeBack 3 none, .instanceMethod yX12_takeBack, .selects RX12 yX12_takeBack yX12_takeBack, .methodLink RX12 381 yX12_takeBack] : List Cond) ++ wsX120)
set_option maxRecDepth 20000 in
theorem g_X12_oddsFrom_6_0 : GoodIn q_X12_oddsFrom_6 (wsV RX12 375 RX12 yX12_putAside q_X12_putAside) := goodIn_app (goodIn_r _ [8, 6, 7, 5] rfl (by decide +kernel)) (goodIn_ca (goodIn_r (.code yX12_putAside cX12_putAside 3 none :: [.fieldLink RX12 71 "LeftArgumentsModel" "aside" "[I", .fieldLink RX12 52 "LeftArgumentsModel" "now" "[I"]) [2, 3, 4] rfl (by decide +kernel)) (goodIn_sub (fun _ h => List.mem_cons_of_mem _ (List.mem_append_right _ h)) gwX12))
set_option maxRecDepth 20000 in
theorem g_X12_oddsFrom_6_1 : GoodIn q_X12_oddsFrom_6 (wsV RX12 258 RX12 yX12_set q_X12_set_4) := goodIn_app (goodIn_r _ [12, 10, 11, 5] rfl (by decide +kernel)) (goodIn_ca (goodIn_r (.code yX12_set cX12_set 4 none :: [.fieldLink RX12 52 "LeftArgumentsModel" "now" "[I"]) [9, 4] rfl (by decide +kernel)) (goodIn_sub (fun _ h => List.mem_cons_of_mem _ (List.mem_append_right _ h)) gwX12))
set_option maxRecDepth 20000 in
theorem g_X12_oddsFrom_6_2 : GoodIn q_X12_oddsFrom_6 (wsV RX12 327 RX12 yX12_live q_X12_live) := goodIn_app (goodIn_r _ [97, 95, 96, 5] rfl (by decide +kernel)) (goodIn_ca (goodIn_r (.code yX12_live cX12_live 2 none :: [.code yX12_growAll cX12_growAll 2 none, .code yX12_isThere cX12_isThere 2 (some .boolean), .code yX12_in cX12_in 3 (some .boolean), .initialized RX12, .static yX12_in, .methodLink RX12 217 yX12_in, .code yX12_of cX12_of 3 (some .int), .fieldLink RX12 52 "LeftArgumentsModel" "now" "[I", .instanceMethod yX12_of, .selects RX12 yX12_of yX12_of, .methodLink RX12 287 yX12_of, .instanceMethod yX12_isThere, .selects RX12 yX12_isThere yX12_isThere, .methodLink RX12 290 yX12_isThere, .fieldLink RX12 65 "LeftArgumentsModel" "grows" "[I", .methodLink RX12 299 Lib.Math.min.name, .static Lib.Math.min.name, .initialized "java/lang/Math", .code Lib.Math.min.name Lib.Math.min.code 2 (some .int), .methodLink RX12 301 Lib.Math.max.name, .static Lib.Math.max.name, .code Lib.Math.max.name Lib.Math.max.code 2 (some .int), .code yX12_set cX12_set 4 none, .instanceMethod yX12_set, .selects RX12 yX12_set yX12_set, .methodLink RX12 258 yX12_set, .code yX12_growthOf cX12_growthOf 4 (some .int), .code yX12_withOf cX12_withOf 4 (some .int), .instanceMethod yX12_withOf, .selects RX12 yX12_withOf yX12_withOf, .methodLink RX12 293 yX12_withOf, .fieldLink RX12 58 "LeftArgumentsModel" "holding" "I", .fieldLink RX12 34 "LeftArgumentsModel" "letters" "[I", .code yX12_worthOf cX12_worthOf 3 (some .int), .fieldLink RX12 22 "LeftArgumentsModel" "clauses" "[I", .fieldLink RX12 25 "LeftArgumentsModel" "testFrom" "[I", .fieldLink RX12 28 "LeftArgumentsModel" "sumFrom" "[I", .fieldLink RX12 31 "LeftArgumentsModel" "sumTo" "[I", .code yX12_workOut cX12_workOut 6 (some .int), .fieldLink RX12 37 "LeftArgumentsModel" "stack" "[I", .fieldLink RX12 13 "LeftArgumentsModel" "code" "[I", .fieldLink RX12 16 "LeftArgumentsModel" "value" "[I", .code yX12_worked cX12_worked 5 (some .int), .code yX12_bounded cX12_bounded 2 (some .int), .constantLong RX12 192 (-1000000), .constantLong RX12 194 (1000000), .methodLink RX12 196 Lib.MathLoose.min_long.x, .static Lib.MathLoose.min_long.x, .code Lib.MathLoose.min_long.x Lib.MathLoose.min_long.code 4 (some .long), .methodLink RX12 202 Lib.MathLoose.max_long.x, .static Lib.MathLoose.max_long.x, .code Lib.MathLoose.max_long.x Lib.MathLoose.max_long.code 4 (some .long), .static yX12_bounded, .methodLink RX12 205 yX12_bounded, .static yX12_worked, .methodLink RX12 209 yX12_worked, .instanceMethod yX12_workOut, .selects RX12 yX12_workOut yX12_workOut, .methodLink RX12 213 yX12_workOut, .instanceMethod yX12_worthOf, .selects RX12 yX12_worthOf yX12_worthOf, .methodLink RX12 296 yX12_worthOf, .instanceMethod yX12_growthOf, .selects RX12 yX12_growthOf yX12_growthOf, .methodLink RX12 303 yX12_growthOf, .instanceMethod yX12_growAll, .selects RX12 yX12_growAll yX12_growAll, .methodLink RX12 318 yX12_growAll, .code yX12_endAll cX12_endAll 2 none, .fieldLink RX12 306 "LeftArgumentsModel" "ended" "I", .instanceMethod yX12_endAll, .selects RX12 yX12_endAll yX12_endAll, .methodLink RX12 321 yX12_endAll, .code yX12_dropAll cX12_dropAll 3 none, .fieldLink RX12 309 "LeftArgumentsModel" "fell" "I", .fieldLink RX12 46 "LeftArgumentsModel" "rule" "[I", .code yX12_loadOf cX12_loadOf 4 (some .int), .instanceMethod yX12_loadOf, .selects RX12 yX12_loadOf yX12_loadOf, .methodLink RX12 312 yX12_loadOf, .code yX12_largestOn cX12_largestOn 4 (some .int), .instanceMethod yX12_largestOn, .selects RX12 yX12_largestOn yX12_largestOn, .methodLink RX12 315 yX12_largestOn, .instanceMethod yX12_dropAll, .selects RX12 yX12_dropAll yX12_dropAll, .methodLink RX12 324 yX12_dropAll]) [13, 14, 15, 16, 5, 17, 18, 19, 4, 20, 21, 22, 23, 24, 25, 26, 27, 28, 29, 30, 31, 32, 33, 9, 10, 11, 12, 34, 35, 36, 37, 38, 39, 40, 41, 42, 43, 44, 45, 46, 47, 48, 49, 50, 51, 52, 53, 54, 55, 56, 57, 58, 59, 60, 61, 62, 63, 64, 65, 66, 67, 68, 69, 70, 71, 72, 73, 74, 75, 76, 77, 78, 79, 80, 81, 82, 83, 84, 85, 86, 87, 88, 89, 90, 91, 92, 93, 94] rfl (by decide +kernel)) (goodIn_sub (fun _ h => List.mem_cons_of_mem _ (List.mem_append_right _ h)) gwX12))
set_option maxRecDepth 20000 in
theorem g_X12_oddsFrom_6_3 : GoodIn q_X12_oddsFrom_6 (wsV RX12 449 RX12 yX12_oddsFrom q_X12_oddsFrom_5) := goodIn_app (goodIn_r _ [105, 103, 104, 5] rfl (by decide +kernel)) (goodIn_ca (goodIn_r (.code yX12_oddsFrom cX12_oddsFrom 10 (some .int) :: [.constantLong RX12 447 (100), .code yX12_putAside cX12_putAside 3 none, .fieldLink RX12 71 "LeftArgumentsModel" "aside" "[I", .fieldLink RX12 52 "LeftArgumentsModel" "now" "[I", .initialized RX12, .instanceMethod yX12_putAside, .selects RX12 yX12_putAside yX12_putAside, .methodLink RX12 375 yX12_putAside, .code yX12_set cX12_set 4 none, .instanceMethod yX12_set, .selects RX12 yX12_set yX12_set, .methodLink RX12 258 yX12_set, .code yX12_live cX12_live 2 none, .code yX12_growAll cX12_growAll 2 none, .code yX12_isThere cX12_isThere 2 (some .boolean), .code yX12_in cX12_in 3 (some .boolean), .static yX12_in, .methodLink RX12 217 yX12_in, .code yX12_of cX12_of 3 (some .int), .instanceMethod yX12_of, .selects RX12 yX12_of yX12_of, .methodLink RX12 287 yX12_of, .instanceMethod yX12_isThere, .selects RX12 yX12_isThere yX12_isThere, .methodLink RX12 290 yX12_isThere, .fieldLink RX12 65 "LeftArgumentsModel" "grows" "[I", .methodLink RX12 299 Lib.Math.min.name, .static Lib.Math.min.name, .initialized "java/lang/Math", .code Lib.Math.min.name Lib.Math.min.code 2 (some .int), .methodLink RX12 301 Lib.Math.max.name, .static Lib.Math.max.name, .code Lib.Math.max.name Lib.Math.max.code 2 (some .int), .code yX12_growthOf cX12_growthOf 4 (some .int), .code yX12_withOf cX12_withOf 4 (some .int), .instanceMethod yX12_withOf, .selects RX12 yX12_withOf yX12_withOf, .methodLink RX12 293 yX12_withOf, .fieldLink RX12 58 "LeftArgumentsModel" "holding" "I", .fieldLink RX12 34 "LeftArgumentsModel" "letters" "[I", .code yX12_worthOf cX12_worthOf 3 (some .int), .fieldLink RX12 22 "LeftArgumentsModel" "clauses" "[I", .fieldLink RX12 25 "LeftArgumentsModel" "testFrom" "[I", .fieldLink RX12 28 "LeftArgumentsModel" "sumFrom" "[I", .fieldLink RX12 31 "LeftArgumentsModel" "sumTo" "[I", .code yX12_workOut cX12_workOut 6 (some .int), .fieldLink RX12 37 "LeftArgumentsModel" "stack" "[I", .fieldLink RX12 13 "LeftArgumentsModel" "code" "[I", .fieldLink RX12 16 "LeftArgumentsModel" "value" "[I", .code yX12_worked cX12_worked 5 (some .int), .code yX12_bounded cX12_bounded 2 (some .int), .constantLong RX12 192 (-1000000), .constantLong RX12 194 (1000000), .methodLink RX12 196 Lib.MathLoose.min_long.x, .static Lib.MathLoose.min_long.x, .code Lib.MathLoose.min_long.x Lib.MathLoose.min_long.code 4 (some .long), .methodLink RX12 202 Lib.MathLoose.max_long.x, .static Lib.MathLoose.max_long.x, .code Lib.MathLoose.max_long.x Lib.MathLoose.max_long.code 4 (some .long), .static yX12_bounded, .methodLink RX12 205 yX12_bounded, .static yX12_worked, .methodLink RX12 209 yX12_worked, .instanceMethod yX12_workOut, .selects RX12 yX12_workOut yX12_workOut, .methodLink RX12 213 yX12_workOut, .instanceMethod yX12_worthOf, .selects RX12 yX12_worthOf yX12_worthOf, .methodLink RX12 296 yX12_worthOf, .instanceMethod yX12_growthOf, .selects RX12 yX12_growthOf yX12_growthOf, .methodLink RX12 303 yX12_growthOf, .instanceMethod yX12_growAll, .selects RX12 yX12_growAll yX12_growAll, .methodLink RX12 318 yX12_growAll, .code yX12_endAll cX12_endAll 2 none, .fieldLink RX12 306 "LeftArgumentsModel" "ended" "I", .instanceMethod yX12_endAll, .selects RX12 yX12_endAll yX12_endAll, .methodLink RX12 321 yX12_endAll, .code yX12_dropAll cX12_dropAll 3 none, .fieldLink RX12 309 "LeftArgumentsModel" "fell" "I", .fieldLink RX12 46 "LeftArgumentsModel" "rule" "[I", .code yX12_loadOf cX12_loadOf 4 (some .int), .instanceMethod yX12_loadOf, .selects RX12 yX12_loadOf yX12_loadOf, .methodLink RX12 312 yX12_loadOf, .code yX12_largestOn cX12_largestOn 4 (some .int), .instanceMethod yX12_largestOn, .selects RX12 yX12_largestOn yX12_largestOn, .methodLink RX12 315 yX12_largestOn, .instanceMethod yX12_dropAll, .selects RX12 yX12_dropAll yX12_dropAll, .methodLink RX12 324 yX12_dropAll, .instanceMethod yX12_live, .selects RX12 yX12_live yX12_live, .methodLink RX12 327 yX12_live, .code yX12_oddsFrom cX12_oddsFrom 10 (some .int), .code yX12_sizeNow cX12_sizeNow 2 (some .int), .instanceMethod yX12_sizeNow, .selects RX12 yX12_sizeNow yX12_sizeNow, .methodLink RX12 378 yX12_sizeNow, .instanceMethod yX12_oddsFrom, .selects RX12 yX12_oddsFrom yX12_oddsFrom, .methodLink RX12 449 yX12_oddsFrom, .code yX12_takeBack cX12_takeBack 3 none, .instanceMethod yX12_takeBack, .selects RX12 yX12_takeBack yX12_takeBack, .methodLink RX12 381 yX12_takeBack]) [98, 1, 2, 3, 4, 5, 6, 7, 8, 9, 10, 11, 12, 13, 14, 15, 16, 17, 18, 19, 20, 21, 22, 23, 24, 25, 26, 27, 28, 29, 30, 31, 32, 33, 34, 35, 36, 37, 38, 39, 40, 41, 42, 43, 44, 45, 46, 47, 48, 49, 50, 51, 52, 53, 54, 55, 56, 57, 58, 59, 60, 61, 62, 63, 64, 65, 66, 67, 68, 69, 70, 71, 72, 73, 74, 75, 76, 77, 78, 79, 80, 81, 82, 83, 84, 85, 86, 87, 88, 89, 90, 91, 92, 93, 94, 95, 96, 97, 98, 99, 100, 101, 102, 103, 104, 105, 106, 107, 108, 109] rfl (by decide +kernel)) (goodIn_sub (fun _ h => List.mem_cons_of_mem _ (List.mem_append_right _ h)) gwX12))
set_option maxRecDepth 20000 in
theorem g_X12_oddsFrom_6_4 : GoodIn q_X12_oddsFrom_6 (wsV RX12 381 RX12 yX12_takeBack q_X12_takeBack) := goodIn_app (goodIn_r _ [109, 107, 108, 5] rfl (by decide +kernel)) (goodIn_ca (goodIn_r (.code yX12_takeBack cX12_takeBack 3 none :: [.fieldLink RX12 52 "LeftArgumentsModel" "now" "[I", .fieldLink RX12 71 "LeftArgumentsModel" "aside" "[I"]) [106, 4, 3] rfl (by decide +kernel)) (goodIn_sub (fun _ h => List.mem_cons_of_mem _ (List.mem_append_right _ h)) gwX12))
set_option maxRecDepth 20000 in
theorem g_X12_oddsFrom_6_5 : GoodIn q_X12_oddsFrom_6 (wsV RX12 287 RX12 yX12_of q_X12_of_8) := goodIn_app (goodIn_r _ [22, 20, 21, 5] rfl (by decide +kernel)) (goodIn_ca (goodIn_r (.code yX12_of cX12_of 3 (some .int) :: [.fieldLink RX12 52 "LeftArgumentsModel" "now" "[I"]) [19, 4] rfl (by decide +kernel)) (goodIn_sub (fun _ h => List.mem_cons_of_mem _ (List.mem_append_right _ h)) gwX12))
set_option maxRecDepth 20000 in
theorem g_X12_oddsFrom_6_6 : GoodIn q_X12_oddsFrom_6 (wsV RX12 378 RX12 yX12_sizeNow q_X12_sizeNow) := goodIn_app (goodIn_r _ [102, 100, 101, 5] rfl (by decide +kernel)) (goodIn_ca (goodIn_r (.code yX12_sizeNow cX12_sizeNow 2 (some .int) :: [.code yX12_isThere cX12_isThere 2 (some .boolean), .code yX12_in cX12_in 3 (some .boolean), .initialized RX12, .static yX12_in, .methodLink RX12 217 yX12_in, .code yX12_of cX12_of 3 (some .int), .fieldLink RX12 52 "LeftArgumentsModel" "now" "[I", .instanceMethod yX12_of, .selects RX12 yX12_of yX12_of, .methodLink RX12 287 yX12_of, .instanceMethod yX12_isThere, .selects RX12 yX12_isThere yX12_isThere, .methodLink RX12 290 yX12_isThere]) [99, 15, 16, 5, 17, 18, 19, 4, 20, 21, 22, 23, 24, 25] rfl (by decide +kernel)) (goodIn_sub (fun _ h => List.mem_cons_of_mem _ (List.mem_append_right _ h)) gwX12))
set_option maxHeartbeats 4000000 in
set_option maxRecDepth 100000 in
theorem k_X12_oddsFrom_6 (l : Launch) (dC : Nat → ClassId) (dI : Nat → Nat → Nat) (h0 : Nat) (h1 : Nat) (h2 : Nat) (h3 : Nat) (h4 : Nat) (h5 : Nat) (h6 : Nat) (h7 : Nat) (h8 : Nat) (h9 : Nat) (h10 : Nat) (h11 : Nat) (h12 : Nat) (v0 : Int32) (r0 : Nat) (v1 : Int32) (v2 : Int32) (v3 : Int32) (v4 : Int32) (r1 : Nat) (v5 : Int32) (v6 : Int32) (r2 : Nat) (r3 : Nat) (v7 : Int32) (r4 : Nat) (v8 : Int32) (v9 : Int32) (r5 : Nat) (v10 : Int32) (v11 : Int32) (v12 : Int32) (v13 : Int32) (r6 : Nat) (v14 : Int32) (w15 : Int64) (v16 : Int32) (v17 : Int32) (r7 : Nat) (r8 : Nat) (r9 : Nat) (r10 : Nat) (r11 : Nat) (r12 : Nat) (v18 : Int32) (r13 : Nat) (r14 : Nat) (r15 : Nat) (v19 : Int32) (g0 : ClassId) (f20 : Nat → Int32) (g1 : ClassId) (f21 : Nat → Int32) (g2 : ClassId) (f22 : Nat → Int32) (g3 : ClassId) (f23 : Nat → Int32) (g4 : ClassId) (f24 : Nat → Int32) (g5 : ClassId) (f25 : Nat → Int32) (g6 : ClassId) (f26 : Nat → Int32) (g7 : ClassId) (f27 : Nat → Int32) (g8 : ClassId) (f28 : Nat → Int32) (g9 : ClassId) (f29 : Nat → Int32) (g10 : ClassId) (f30 : Nat → Int32) (g11 : ClassId) (f31 : Nat → Int32) (v32 : Int32) (v33 : Int32) (v34 : Int32) (v35 : Int32) (v36 : Int32) (i_v1 : 0 ≤ v1.toInt ∧ v1.toInt ≤ 240) (i_v5 : 0 ≤ v5.toInt ∧ v5.toInt ≤ 4) (i_v6 : 0 ≤ v6.toInt ∧ v6.toInt ≤ 4) (i_v7 : 0 ≤ v7.toInt ∧ v7.toInt ≤ 8) (i_v8 : 0 ≤ v8.toInt ∧ v8.toInt ≤ 8) (i_v9 : 0 ≤ v9.toInt ∧ v9.toInt ≤ 1) (i_v10 : -1 ≤ v10.toInt ∧ v10.toInt ≤ 3) (i_v14 : 0 ≤ v14.toInt ∧ v14.toInt ≤ 40) (i_v18 : 0 ≤ v18.toInt ∧ v18.toInt ≤ 10) (i_v19 : 0 ≤ v19.toInt ∧ v19.toInt ≤ 1) (i_v32 : 0 ≤ v32.toInt ∧ v32.toInt ≤ 7) (i_v34 : 0 ≤ v34.toInt ∧ v34.toInt ≤ 6) (ia_f28 : (pm_RU f28)) (ia_f29 : (pm_NW f29)) (ia_f31 : (pm_AS f31)) (pp0 : pm_Held v10 f20 f21 f22 f23 f24 f25) (sz : Nat) : Met l yX12_oddsFrom q_X12_oddsFrom_6 ({ frames := 13, cells := 0, slots := 0, locals := 319 }) (va_Pc [.ref h0, .int 0, .int v32, .int v33, .int v34, .int v35, .int v36] (fun U => U.heap.size = sz ∧ va_P (dC, dI) vwCl (wd_cfaca2a5 h0 v0 r0 v1 v2 v3 v4 h1 h2 r1 h3 h4 h5 h6 v5 v6 h7 h8 r2 r3 v7 h9 r4 v8 v9 h10 r5 v10 v11 h11 v12 v13 r6 v14 w15 h12 v16 v17 r7 r8 r9 r10 r11 r12 v18 r13 r14 r15 v19 h1 g0 f20 h2 g1 f21 h3 g2 f22 h4 g3 f23 h5 g4 f24 h6 g5 f25 h7 g6 f26 h8 g7 f27 h9 g8 f28 h10 g9 f29 h11 g10 f30 h12 g11 f31) U.heap ∧ va_K (dC, dI) vwCl [(g0, .int), (g1, .int), (g2, .int), (g3, .int), (g4, .int), (g5, .int), (g6, .int), (g7, .int), (g8, .int), (g9, .int), (g10, .int), (g11, .int)] U ∧ va_D (fun _ => True) (wd_cfaca2a5 h0 v0 r0 v1 v2 v3 v4 h1 h2 r1 h3 h4 h5 h6 v5 v6 h7 h8 r2 r3 v7 h9 r4 v8 v9 h10 r5 v10 v11 h11 v12 v13 r6 v14 w15 h12 v16 v17 r7 r8 r9 r10 r11 r12 v18 r13 r14 r15 v19 h1 g0 f20 h2 g1 f21 h3 g2 f22 h4 g3 f23 h5 g4 f24 h6 g5 f25 h7 g6 f26 h8 g7 f27 h9 g8 f28 h10 g9 f29 h11 g10 f30 h12 g11 f31))) (va_Qi (fun (r : Int32) (r9 : Int32) => r9 = r) (fun (r : Int32) (t : State) => (∃ (o_h0_29 : Int32) (o_h0_30 : Int32) (o_h7 : Nat → Int32) (o_h8 : Nat → Int32) (o_h10 : Nat → Int32) (o_h11 : Nat → Int32) (o_h12 : Nat → Int32), (pm_NW o_h10) ∧ (pm_AS o_h12) ∧ va_P (dC, dI) vwCl (wd_cfaca2a5 h0 v0 r0 v1 v2 v3 v4 h1 h2 r1 h3 h4 h5 h6 v5 v6 h7 h8 r2 r3 v7 h9 r4 v8 v9 h10 r5 v10 v11 h11 o_h0_29 o_h0_30 r6 v14 w15 h12 v16 v17 r7 r8 r9 r10 r11 r12 v18 r13 r14 r15 v19 h1 g0 f20 h2 g1 f21 h3 g2 f22 h4 g3 f23 h5 g4 f24 h6 g5 f25 h7 g6 o_h7 h8 g7 o_h8 h9 g8 f28 h10 g9 o_h10 h11 g10 o_h11 h12 g11 o_h12) t.heap ∧ va_K (dC, dI) vwCl [] t ∧ va_D (va_A (wd_cfaca2a5 h0 v0 r0 v1 v2 v3 v4 h1 h2 r1 h3 h4 h5 h6 v5 v6 h7 h8 r2 r3 v7 h9 r4 v8 v9 h10 r5 v10 v11 h11 v12 v13 r6 v14 w15 h12 v16 v17 r7 r8 r9 r10 r11 r12 v18 r13 r14 r15 v19 h1 g0 f20 h2 g1 f21 h3 g2 f22 h4 g3 f23 h5 g4 f24 h6 g5 f25 h7 g6 f26 h8 g7 f27 h9 g8 f28 h10 g9 f29 h11 g10 f30 h12 g11 f31) sz) (wd_cfaca2a5 h0 v0 r0 v1 v2 v3 v4 h1 h2 r1 h3 h4 h5 h6 v5 v6 h7 h8 r2 r3 v7 h9 r4 v8 v9 h10 r5 v10 v11 h11 o_h0_29 o_h0_30 r6 v14 w15 h12 v16 v17 r7 r8 r9 r10 r11 r12 v18 r13 r14 r15 v19 h1 g0 f20 h2 g1 f21 h3 g2 f22 h4 g3 f23 h5 g4 f24 h6 g5 f25 h7 g6 o_h7 h8 g7 o_h8 h9 g8 f28 h10 g9 o_h10 h11 g10 o_h11 h12 g11 o_h12))) (va_A (wd_cfaca2a5 h0 v0 r0 v1 v2 v3 v4 h1 h2 r1 h3 h4 h5 h6 v5 v6 h7 h8 r2 r3 v7 h9 r4 v8 v9 h10 r5 v10 v11 h11 v12 v13 r6 v14 w15 h12 v16 v17 r7 r8 r9 r10 r11 r12 v18 r13 r14 r15 v19 h1 g0 f20 h2 g1 f21 h3 g2 f22 h4 g3 f23 h5 g4 f24 h6 g5 f25 h7 g6 f26 h8 g7 f27 h9 g8 f28 h10 g9 f29 h11 g10 f30 h12 g11 f31) sz)) 0 0 (va_A (wd_cfaca2a5 h0 v0 r0 v1 v2 v3 v4 h1 h2 r1 h3 h4 h5 h6 v5 v6 h7 h8 r2 r3 v7 h9 r4 v8 v9 h10 r5 v10 v11 h11 v12 v13 r6 v14 w15 h12 v16 v17 r7 r8 r9 r10 r11 r12 v18 r13 r14 r15 v19 h1 g0 f20 h2 g1 f21 h3 g2 f22 h4 g3 f23 h5 g4 f24 h6 g5 f25 h7 g6 f26 h8 g7 f27 h9 g8 f28 h10 g9 f29 h11 g10 f30 h12 g11 f31) sz) := by
  refine Met.ofW (cc := cX12_oddsFrom) (maxL := 10) (ret := (some .int)) (by decide) rfl ?_
  intro p e s m args below meth c s₁ B hml hv
  obtain ⟨i_v1a, i_v1b⟩ := i_v1
  obtain ⟨i_v5a, i_v5b⟩ := i_v5
  obtain ⟨i_v6a, i_v6b⟩ := i_v6
  obtain ⟨i_v7a, i_v7b⟩ := i_v7
  obtain ⟨i_v8a, i_v8b⟩ := i_v8
  obtain ⟨i_v9a, i_v9b⟩ := i_v9
  obtain ⟨i_v10a, i_v10b⟩ := i_v10
  obtain ⟨i_v14a, i_v14b⟩ := i_v14
  obtain ⟨i_v18a, i_v18b⟩ := i_v18
  obtain ⟨i_v19a, i_v19b⟩ := i_v19
  obtain ⟨i_v32a, i_v32b⟩ := i_v32
  obtain ⟨i_v34a, i_v34b⟩ := i_v34
  obtain ⟨rfl, hsz, hP, hK, hD0⟩ := hv
  have hx := B.exec
  have hb := B.bytes
  have hr := B.returns
  have hts := atoms_spec (ws := q_X12_oddsFrom_6) B.pre
  have hown : s.vm.findClass RX12 = some m.cls := findClass_of_methodNamed B.named
  have hlocks := B.notSynchronized
  subst hsz
  have hD := hD0.self (sz := s.heap.size)
  generalize hAe : va_A (wd_cfaca2a5 h0 v0 r0 v1 v2 v3 v4 h1 h2 r1 h3 h4 h5 h6 v5 v6 h7 h8 r2 r3 v7 h9 r4 v8 v9 h10 r5 v10 v11 h11 v12 v13 r6 v14 w15 h12 v16 v17 r7 r8 r9 r10 r11 r12 v18 r13 r14 r15 v19 h1 g0 f20 h2 g1 f21 h3 g2 f22 h4 g3 f23 h5 g4 f24 h6 g5 f25 h7 g6 f26 h8 g7 f27 h9 g8 f28 h10 g9 f29 h11 g10 f30 h12 g11 f31) s.heap.size = A at hD ⊢
  have hA : ∀ q : Nat, s.heap.size ≤ q → A q := fun q h => by rw [← hAe]; exact Or.inr h
  have hS : va_S A s.heap s.heap [] := va_S.rf
  generalize hQ : (MQ below _ _ s 0 0 A) = Q
  have hl := lv_entry ([.ref h0, .int 0, .int v32, .int v33, .int v34, .int v35, .int v36]) (n := 10) (Nat.le_of_ble_eq_true rfl)
  rw [lg_entry_eq]
  generalize (lg_sl ([.ref h0, .int 0, .int v32, .int v33, .int v34, .int v35, .int v36]) ++ List.replicate (10 - (lg_sl ([.ref h0, .int 0, .int v32, .int v33, .int v34, .int v35, .int v36])).length) Slot.unset).toArray = ls at hl ⊢
  have hl : lv_has ls 10 [(0, .ref h0), (1, .int 0), (2, .int v32), (3, .int v33), (4, .int v34), (5, .int v35), (6, .int v36)] := hl
  obtain ⟨H, hH⟩ : ∃ H : Heap, H = s.heap := ⟨_, rfl⟩
  obtain ⟨locs, hlocs⟩ : ∃ y : List Loc, y = [] := ⟨_, rfl⟩
  have hS : va_S A s.heap H locs := by rw [hH, hlocs]; exact va_S.rf
  have hP : va_P (dC, dI) vwCl (wd_cfaca2a5 h0 v0 r0 v1 v2 v3 v4 h1 h2 r1 h3 h4 h5 h6 v5 v6 h7 h8 r2 r3 v7 h9 r4 v8 v9 h10 r5 v10 v11 h11 v12 v13 r6 v14 w15 h12 v16 v17 r7 r8 r9 r10 r11 r12 v18 r13 r14 r15 v19 h1 g0 f20 h2 g1 f21 h3 g2 f22 h4 g3 f23 h5 g4 f24 h6 g5 f25 h7 g6 f26 h8 g7 f27 h9 g8 f28 h10 g9 f29 h11 g10 f30 h12 g11 f31) H := by rw [hH]; exact hP
  rw [← hH, ← hlocs]
  refine lv_iload hx hb dX12_oddsFrom_0 (lv_at hl 4 rfl) ?_
  refine lv_if_ne (tgt := 21) hx hb dX12_oddsFrom_2 (by decide) (fun c1 => ?_) (fun c1 => ?_)
  · skip
    have fc1 : ¬ (v34.toInt = 0) := fun h9 => c1 (Int32.toInt_inj.mp h9)
    refine lv_iload hx hb dX12_oddsFrom_21 (lv_at hl 6 rfl) ?_
    obtain ⟨y2, ey2⟩ : ∃ z : Int64, z = (v36 : Int32).toInt64 := ⟨_, rfl⟩
    refine lv_i2l (v := y2) hx hb dX12_oddsFrom_23 (by rw [ey2]) ?_
    refine lv_iload hx hb dX12_oddsFrom_24 (lv_at hl 5 rfl) ?_
    obtain ⟨y3, ey3⟩ : ∃ z : Int64, z = (v35 : Int32).toInt64 := ⟨_, rfl⟩
    refine lv_i2l (v := y3) hx hb dX12_oddsFrom_26 (by rw [ey3]) ?_
    refine lv_lmul hx hb dX12_oddsFrom_27 ?_
    refine lv_topl (fun y4 ey4 => ?_)
    refine lv_ldc2 (v := 100) hx hb hown (hts (.constantLong RX12 447 (100)) (List.mem_cons_of_mem _ (List.mem_append_left _ (List.mem_of_getElem? (i := 0) rfl)))) dX12_oddsFrom_28 ?_
    refine lv_ldiv hx hb dX12_oddsFrom_31 (by decide) ?_
    refine lv_topl (fun y5 ey5 => ?_)
    obtain ⟨t6, et6⟩ : ∃ z : Int32, z = (y5 : Int64).toInt32 := ⟨_, rfl⟩
    refine lv_l2i (v := t6) hx hb dX12_oddsFrom_32 (by rw [et6]) ?_
    refine lv_istore (lv' := [(7, .int t6), (0, .ref h0), (1, .int 0), (2, .int v32), (3, .int v33), (4, .int v34), (5, .int v35), (6, .int v36)]) hx hb dX12_oddsFrom_33 hl (by decide) rfl (fun ls hl => ?_)
    refine lv_iconst (v := 0) hx hb dX12_oddsFrom_35 (by decide) ?_
    refine lv_istore (lv' := [(8, .int 0), (7, .int t6), (0, .ref h0), (1, .int 0), (2, .int v32), (3, .int v33), (4, .int v34), (5, .int v35), (6, .int v36)]) hx hb dX12_oddsFrom_36 hl (by decide) rfl (fun ls hl => ?_)
    refine lv_aload_n hx hb dX12_oddsFrom_38 rfl (lv_at hl 2 rfl) ?_
    refine lv_iload_n hx hb dX12_oddsFrom_39 rfl (lv_at hl 3 rfl) ?_
    have hPc := hP.sub (ws' := (wd_04244fe9 h0 v0 r0 v1 v2 v3 v4 h1 h2 r1 h3 h4 h5 h6 v5 v6 h7 h8 r2 r3 v7 h9 r4 v8 v9 h10 r5 v10 v11 h11 v12 v13 r6 v14 w15 h12 v16 v17 r7 r8 r9 r10 r11 r12 v18 r13 r14 r15 v19 h10 g9 f29 h12 g11 f31)) [0, 10, 12] rfl
    have hDc := hD.sub (ws' := (wd_04244fe9 h0 v0 r0 v1 v2 v3 v4 h1 h2 r1 h3 h4 h5 h6 v5 v6 h7 h8 r2 r3 v7 h9 r4 v8 v9 h10 r5 v10 v11 h11 v12 v13 r6 v14 w15 h12 v16 v17 r7 r8 r9 r10 r11 r12 v18 r13 r14 r15 v19 h10 g9 f29 h12 g11 f31)) [0, 10, 12] (by decide) rfl
    have hKc := hK.sub (tys' := [(g9, .int), (g11, .int)]) [9, 11] rfl
    have hFc := va_free (wc := (wd_04244fe9 h0 v0 r0 v1 v2 v3 v4 h1 h2 r1 h3 h4 h5 h6 v5 v6 h7 h8 r2 r3 v7 h9 r4 v8 v9 h10 r5 v10 v11 h11 v12 v13 r6 v14 w15 h12 v16 v17 r7 r8 r9 r10 r11 r12 v18 r13 r14 r15 v19 h10 g9 f29 h12 g11 f31)) hD hS hA [0, 10, 12] rfl
    refine va_callv (va_runV (As := [.int 0]) (rest := []) ⟨hx, hb, hml, hown, hts⟩ (k_X12_putAside l dC dI h0 h10 h12 v0 r0 v1 v2 v3 v4 h1 h2 r1 h3 h4 h5 h6 v5 v6 h7 h8 r2 r3 v7 h9 r4 v8 v9 r5 v10 v11 h11 v12 v13 r6 v14 w15 v16 v17 r7 r8 r9 r10 r11 r12 v18 r13 r14 r15 v19 g9 f29 g11 f31 0 ⟨i_v1a, i_v1b⟩ ⟨i_v5a, i_v5b⟩ ⟨i_v6a, i_v6b⟩ ⟨i_v7a, i_v7b⟩ ⟨i_v8a, i_v8b⟩ ⟨i_v9a, i_v9b⟩ ⟨i_v10a, i_v10b⟩ ⟨i_v14a, i_v14b⟩ ⟨i_v18a, i_v18b⟩ ⟨i_v19a, i_v19b⟩ ⟨by decide, by decide⟩ ia_f29 ia_f31 H.size) (cwV 1 hts g_X12_oddsFrom_6_0 rfl rfl rfl (by decide +kernel) ⟨Nat.le_of_ble_eq_true rfl, Nat.le_of_ble_eq_true rfl⟩) (pv_PV12 hPc hKc hDc (q0 := 0) rfl) rfl rfl hl.1 rfl (lv_room (Nat.le_of_ble_eq_true rfl)) dX12_oddsFrom_40 ⟨Nat.le_of_ble_eq_true rfl, Nat.le_of_ble_eq_true rfl⟩) hS (fun q _ h => hFc q h) hFc (fun u t H1 locs ht hvm hwra7 hB hz1 hk1 hS => ?_)
    obtain ⟨fn8, ia_fn8, hP1, hK1, hD1⟩ := hB
    rw [ht] at hP1
    obtain ⟨hP2, hD2⟩ := va_join (wr := (wd_4dc6964c h1 g0 f20 h2 g1 f21 h3 g2 f22 h4 g3 f23 h5 g4 f24 h6 g5 f25 h7 g6 f26 h8 g7 f27 h9 g8 f28 h11 g10 f30)) (w1 := (wd_04244fe9 h0 v0 r0 v1 v2 v3 v4 h1 h2 r1 h3 h4 h5 h6 v5 v6 h7 h8 r2 r3 v7 h9 r4 v8 v9 h10 r5 v10 v11 h11 v12 v13 r6 v14 w15 h12 v16 v17 r7 r8 r9 r10 r11 r12 v18 r13 r14 r15 v19 h10 g9 f29 h12 g11 fn8)) hP hD [0, 10, 12] [1, 2, 3, 4, 5, 6, 7, 8, 9, 11] rfl rfl (by decide +kernel) (by decide +kernel) hk1 hFc hP1 hD1
    clear hP hD hPc hDc hKc hFc hP1 hK1 hD1 hk1 hz1
    generalize H1 = H at hP2 hS ⊢
    have hP := hP2.sub (ws' := (wd_cfaca2a5 h0 v0 r0 v1 v2 v3 v4 h1 h2 r1 h3 h4 h5 h6 v5 v6 h7 h8 r2 r3 v7 h9 r4 v8 v9 h10 r5 v10 v11 h11 v12 v13 r6 v14 w15 h12 v16 v17 r7 r8 r9 r10 r11 r12 v18 r13 r14 r15 v19 h1 g0 f20 h2 g1 f21 h3 g2 f22 h4 g3 f23 h5 g4 f24 h6 g5 f25 h7 g6 f26 h8 g7 f27 h9 g8 f28 h10 g9 f29 h11 g10 f30 h12 g11 fn8)) [10, 0, 1, 2, 3, 4, 5, 6, 7, 8, 11, 9, 12] rfl
    have hD := hD2.sub (ws' := (wd_cfaca2a5 h0 v0 r0 v1 v2 v3 v4 h1 h2 r1 h3 h4 h5 h6 v5 v6 h7 h8 r2 r3 v7 h9 r4 v8 v9 h10 r5 v10 v11 h11 v12 v13 r6 v14 w15 h12 v16 v17 r7 r8 r9 r10 r11 r12 v18 r13 r14 r15 v19 h1 g0 f20 h2 g1 f21 h3 g2 f22 h4 g3 f23 h5 g4 f24 h6 g5 f25 h7 g6 f26 h8 g7 f27 h9 g8 f28 h10 g9 f29 h11 g10 f30 h12 g11 fn8)) [10, 0, 1, 2, 3, 4, 5, 6, 7, 8, 11, 9, 12] (by decide +kernel) rfl
    clear hP2 hD2
    refine lv_iconst (v := 0) hx hb dX12_oddsFrom_43 (by decide) ?_
    refine lv_istore (lv' := [(9, .int 0), (8, .int 0), (7, .int t6), (0, .ref h0), (1, .int 0), (2, .int v32), (3, .int v33), (4, .int v34), (5, .int v35), (6, .int v36)]) hx hb dX12_oddsFrom_44 hl (by decide) rfl (fun ls hl => ?_)
    have hL36 : ∀ (n9 : Nat), ∀ (x18 : Int32) (x19 : Int32) (x20 : Int32) (x21 : Int32) (fn22 : Nat → Int32) (fn23 : Nat → Int32) (fn24 : Nat → Int32) (fn25 : Nat → Int32) (fn26 : Nat → Int32) (H : Heap) (locs : List Loc) (ls : Array Slot), 0 ≤ x18.toInt → x18.toInt ≤ 2 → (pm_NW fn24) → (pm_AS fn26) → (2 - x18.toInt).toNat < n9 → va_P (dC, dI) vwCl (wd_cfaca2a5 h0 v0 r0 v1 v2 v3 v4 h1 h2 r1 h3 h4 h5 h6 v5 v6 h7 h8 r2 r3 v7 h9 r4 v8 v9 h10 r5 v10 v11 h11 x20 x21 r6 v14 w15 h12 v16 v17 r7 r8 r9 r10 r11 r12 v18 r13 r14 r15 v19 h1 g0 f20 h2 g1 f21 h3 g2 f22 h4 g3 f23 h5 g4 f24 h6 g5 f25 h7 g6 fn22 h8 g7 fn23 h9 g8 f28 h10 g9 fn24 h11 g10 fn25 h12 g11 fn26) H → va_D A (wd_cfaca2a5 h0 v0 r0 v1 v2 v3 v4 h1 h2 r1 h3 h4 h5 h6 v5 v6 h7 h8 r2 r3 v7 h9 r4 v8 v9 h10 r5 v10 v11 h11 x20 x21 r6 v14 w15 h12 v16 v17 r7 r8 r9 r10 r11 r12 v18 r13 r14 r15 v19 h1 g0 f20 h2 g1 f21 h3 g2 f22 h4 g3 f23 h5 g4 f24 h6 g5 f25 h7 g6 fn22 h8 g7 fn23 h9 g8 f28 h10 g9 fn24 h11 g10 fn25 h12 g11 fn26) → va_S A s.heap H locs → lv_has ls 10 [(9, .int x18), (8, .int x19), (7, .int t6), (0, .ref h0), (1, .int 0), (2, .int v32), (3, .int v33), (4, .int v34), (5, .int v35), (6, .int v36)] → W p l e ({ frames := 13, cells := 0, slots := 0, locals := 319 }) s m ([.ref h0, .int 0, .int v32, .int v33, .int v34, .int v35, .int v36] : List Value).toArray below meth c H locs 0 0 Q (F0 m 46 ls []) := by
      intro n9
      induction n9 with
      | zero => intro x18 x19 x20 x21 fn22 fn23 fn24 fn25 fn26 H locs ls qa_x18 qb_x18 ia_fn24 ia_fn26 hm9 hP hD hS hl; exact absurd hm9 (Nat.not_lt_zero _)
      | succ n9 ih_hL36 =>
        intro x18 x19 x20 x21 fn22 fn23 fn24 fn25 fn26 H locs ls qa_x18 qb_x18 ia_fn24 ia_fn26 hm9 hP hD hS hl
        refine lv_iload hx hb dX12_oddsFrom_46 (lv_at hl 0 rfl) ?_
        refine lv_iconst (v := 2) hx hb dX12_oddsFrom_48 (by decide) ?_
        refine lv_icmp_ge (tgt := 127) hx hb dX12_oddsFrom_49 (by decide) (fun c37 => ?_) (fun c37 => ?_)
        · skip
          have fc37 : 2 ≤ x18.toInt := Int32.le_iff_toInt_le.mp c37
          refine lv_iload hx hb dX12_oddsFrom_127 (lv_at hl 1 rfl) ?_
          subst hQ
          have hP9 := hP.sub (ws' := (wd_cfaca2a5 h0 v0 r0 v1 v2 v3 v4 h1 h2 r1 h3 h4 h5 h6 v5 v6 h7 h8 r2 r3 v7 h9 r4 v8 v9 h10 r5 v10 v11 h11 x20 x21 r6 v14 w15 h12 v16 v17 r7 r8 r9 r10 r11 r12 v18 r13 r14 r15 v19 h1 g0 f20 h2 g1 f21 h3 g2 f22 h4 g3 f23 h5 g4 f24 h6 g5 f25 h7 g6 fn22 h8 g7 fn23 h9 g8 f28 h10 g9 fn24 h11 g10 fn25 h12 g11 fn26)) [0, 1, 2, 3, 4, 5, 6, 7, 8, 9, 10, 11, 12] rfl
          have hD9 := hD.sub (ws' := (wd_cfaca2a5 h0 v0 r0 v1 v2 v3 v4 h1 h2 r1 h3 h4 h5 h6 v5 v6 h7 h8 r2 r3 v7 h9 r4 v8 v9 h10 r5 v10 v11 h11 x20 x21 r6 v14 w15 h12 v16 v17 r7 r8 r9 r10 r11 r12 v18 r13 r14 r15 v19 h1 g0 f20 h2 g1 f21 h3 g2 f22 h4 g3 f23 h5 g4 f24 h6 g5 f25 h7 g6 fn22 h8 g7 fn23 h9 g8 f28 h10 g9 fn24 h11 g10 fn25 h12 g11 fn26)) [0, 1, 2, 3, 4, 5, 6, 7, 8, 9, 10, 11, 12] (by decide +kernel) rfl
          have hK9 := hK.sub (tys' := []) [] rfl
          exact W.iret (v := x19) hx hb hr (fun t ht hW => ⟨⟨x19, x19, rfl, rfl, ⟨x20, x21, fn22, fn23, fn24, fn25, fn26, ia_fn24, ia_fn26, by rw [ht]; exact hP9, va_K.moved hW.alike hK9, hD9⟩⟩, hS.F ht⟩) hS.2.2 dX12_oddsFrom_129
        · skip
          have fc37 : ¬ (2 ≤ x18.toInt) := fun h9 => c37 (Int32.le_iff_toInt_le.mpr h9)
          refine lv_aload_n hx hb dX12_oddsFrom_52 rfl (lv_at hl 3 rfl) ?_
          refine lv_iload_n hx hb dX12_oddsFrom_53 rfl (lv_at hl 5 rfl) ?_
          refine lv_bipush (v := 6) hx hb dX12_oddsFrom_54 (by decide) ?_
          refine lv_iload hx hb dX12_oddsFrom_56 (lv_at hl 0 rfl) ?_
          refine lv_iconst (v := 1) hx hb dX12_oddsFrom_58 (by decide) ?_
          have hJ39 : ∀ (x38 : Int32) (H : Heap) (locs : List Loc) (ls : Array Slot), va_P (dC, dI) vwCl (wd_cfaca2a5 h0 v0 r0 v1 v2 v3 v4 h1 h2 r1 h3 h4 h5 h6 v5 v6 h7 h8 r2 r3 v7 h9 r4 v8 v9 h10 r5 v10 v11 h11 x20 x21 r6 v14 w15 h12 v16 v17 r7 r8 r9 r10 r11 r12 v18 r13 r14 r15 v19 h1 g0 f20 h2 g1 f21 h3 g2 f22 h4 g3 f23 h5 g4 f24 h6 g5 f25 h7 g6 fn22 h8 g7 fn23 h9 g8 f28 h10 g9 fn24 h11 g10 fn25 h12 g11 fn26) H → va_D A (wd_cfaca2a5 h0 v0 r0 v1 v2 v3 v4 h1 h2 r1 h3 h4 h5 h6 v5 v6 h7 h8 r2 r3 v7 h9 r4 v8 v9 h10 r5 v10 v11 h11 x20 x21 r6 v14 w15 h12 v16 v17 r7 r8 r9 r10 r11 r12 v18 r13 r14 r15 v19 h1 g0 f20 h2 g1 f21 h3 g2 f22 h4 g3 f23 h5 g4 f24 h6 g5 f25 h7 g6 fn22 h8 g7 fn23 h9 g8 f28 h10 g9 fn24 h11 g10 fn25 h12 g11 fn26) → va_S A s.heap H locs → lv_has ls 10 [(9, .int x18), (8, .int x19), (7, .int t6), (0, .ref h0), (1, .int 0), (2, .int v32), (3, .int v33), (4, .int v34), (5, .int v35), (6, .int v36)] → W p l e ({ frames := 13, cells := 0, slots := 0, locals := 319 }) s m ([.ref h0, .int 0, .int v32, .int v33, .int v34, .int v35, .int v36] : List Value).toArray below meth c H locs 0 0 Q (F0 m 73 ls [.int x38, .int 6, .int v32, .ref h0]) := by
            intro x38 H locs ls hP hD hS hl
            have hPc := hP.sub (ws' := (wd_5013416a h0 v0 r0 v1 v2 v3 v4 h1 h2 r1 h3 h4 h5 h6 v5 v6 h7 h8 r2 r3 v7 h9 r4 v8 v9 h10 r5 v10 v11 h11 x20 x21 r6 v14 w15 h12 v16 v17 r7 r8 r9 r10 r11 r12 v18 r13 r14 r15 v19 h10 g9 fn24)) [0, 10] rfl
            have hDc := hD.sub (ws' := (wd_5013416a h0 v0 r0 v1 v2 v3 v4 h1 h2 r1 h3 h4 h5 h6 v5 v6 h7 h8 r2 r3 v7 h9 r4 v8 v9 h10 r5 v10 v11 h11 x20 x21 r6 v14 w15 h12 v16 v17 r7 r8 r9 r10 r11 r12 v18 r13 r14 r15 v19 h10 g9 fn24)) [0, 10] (by decide) rfl
            have hKc := hK.sub (tys' := [(g9, .int)]) [9] rfl
            have hFc := va_free (wc := (wd_5013416a h0 v0 r0 v1 v2 v3 v4 h1 h2 r1 h3 h4 h5 h6 v5 v6 h7 h8 r2 r3 v7 h9 r4 v8 v9 h10 r5 v10 v11 h11 x20 x21 r6 v14 w15 h12 v16 v17 r7 r8 r9 r10 r11 r12 v18 r13 r14 r15 v19 h10 g9 fn24)) hD hS hA [0, 10] rfl
            refine va_callv (va_runV (As := [.int v32, .int 6, .int x38]) (rest := []) ⟨hx, hb, hml, hown, hts⟩ (k_X12_set_4 l dC dI h0 h10 v0 r0 v1 v2 v3 v4 h1 h2 r1 h3 h4 h5 h6 v5 v6 h7 h8 r2 r3 v7 h9 r4 v8 v9 r5 v10 v11 h11 x20 x21 r6 v14 w15 h12 v16 v17 r7 r8 r9 r10 r11 r12 v18 r13 r14 r15 v19 g9 fn24 v32 x38 ⟨i_v1a, i_v1b⟩ ⟨i_v5a, i_v5b⟩ ⟨i_v6a, i_v6b⟩ ⟨i_v7a, i_v7b⟩ ⟨i_v8a, i_v8b⟩ ⟨i_v9a, i_v9b⟩ ⟨i_v10a, i_v10b⟩ ⟨i_v14a, i_v14b⟩ ⟨i_v18a, i_v18b⟩ ⟨i_v19a, i_v19b⟩ ⟨i_v32a, i_v32b⟩ trivial H.size) (cwV 3 hts g_X12_oddsFrom_6_1 rfl rfl rfl (by decide +kernel) ⟨Nat.le_of_ble_eq_true rfl, Nat.le_of_ble_eq_true rfl⟩) (pv_PV12 hPc hKc hDc (q0 := 0) rfl) rfl rfl hl.1 rfl (lv_room (Nat.le_of_ble_eq_true rfl)) dX12_oddsFrom_73 ⟨Nat.le_of_ble_eq_true rfl, Nat.le_of_ble_eq_true rfl⟩) hS (fun q _ h => hFc q h) hFc (fun u t H1 locs ht hvm hwra40 hB hz1 hk1 hS => ?_)
            obtain ⟨hP1, hK1, hD1⟩ := hB
            rw [ht] at hP1
            obtain ⟨hP2, hD2⟩ := va_join (wr := (wd_e8ff9da7 h1 g0 f20 h2 g1 f21 h3 g2 f22 h4 g3 f23 h5 g4 f24 h6 g5 f25 h7 g6 fn22 h8 g7 fn23 h9 g8 f28 h11 g10 fn25 h12 g11 fn26)) (w1 := (wd_5013416a h0 v0 r0 v1 v2 v3 v4 h1 h2 r1 h3 h4 h5 h6 v5 v6 h7 h8 r2 r3 v7 h9 r4 v8 v9 h10 r5 v10 v11 h11 x20 x21 r6 v14 w15 h12 v16 v17 r7 r8 r9 r10 r11 r12 v18 r13 r14 r15 v19 h10 g9 (upd fn24 (pm_I v32 6) x38))) hP hD [0, 10] [1, 2, 3, 4, 5, 6, 7, 8, 9, 11, 12] rfl rfl (by decide +kernel) (by decide +kernel) hk1 hFc hP1 hD1
            clear hP hD hPc hDc hKc hFc hP1 hK1 hD1 hk1 hz1
            generalize H1 = H at hP2 hS ⊢
            have hP := hP2.sub (ws' := (wd_cfaca2a5 h0 v0 r0 v1 v2 v3 v4 h1 h2 r1 h3 h4 h5 h6 v5 v6 h7 h8 r2 r3 v7 h9 r4 v8 v9 h10 r5 v10 v11 h11 x20 x21 r6 v14 w15 h12 v16 v17 r7 r8 r9 r10 r11 r12 v18 r13 r14 r15 v19 h1 g0 f20 h2 g1 f21 h3 g2 f22 h4 g3 f23 h5 g4 f24 h6 g5 f25 h7 g6 fn22 h8 g7 fn23 h9 g8 f28 h10 g9 (upd fn24 (pm_I v32 6) x38) h11 g10 fn25 h12 g11 fn26)) [11, 0, 1, 2, 3, 4, 5, 6, 7, 8, 12, 9, 10] rfl
            have hD := hD2.sub (ws' := (wd_cfaca2a5 h0 v0 r0 v1 v2 v3 v4 h1 h2 r1 h3 h4 h5 h6 v5 v6 h7 h8 r2 r3 v7 h9 r4 v8 v9 h10 r5 v10 v11 h11 x20 x21 r6 v14 w15 h12 v16 v17 r7 r8 r9 r10 r11 r12 v18 r13 r14 r15 v19 h1 g0 f20 h2 g1 f21 h3 g2 f22 h4 g3 f23 h5 g4 f24 h6 g5 f25 h7 g6 fn22 h8 g7 fn23 h9 g8 f28 h10 g9 (upd fn24 (pm_I v32 6) x38) h11 g10 fn25 h12 g11 fn26)) [11, 0, 1, 2, 3, 4, 5, 6, 7, 8, 12, 9, 10] (by decide +kernel) rfl
            clear hP2 hD2
            obtain ⟨t41, et41⟩ : ∃ y : Int32, y = 8 * v32 + 6 := ⟨_, rfl⟩
            have gt41 : t41.toInt = 8 * v32.toInt + 6 := pm_i8 et41 rfl (by decide) (by omega) (by omega) (by omega) (by omega)
            obtain ⟨fn43, efn43⟩ : ∃ g : Nat → Int32, g = upd fn24 (Int32.toNatClampNeg t41) x38 := ⟨_, rfl⟩
            have e9 : (upd fn24 (pm_I v32 6) x38) = fn43 := by rw [efn43, et41]; rfl
            rw [e9] at hP hD
            have ia_fn43 : pm_NW fn43 := by rw [efn43]; exact pm_NW.st ia_fn24 (z := t41.toInt) (y := x38.toInt) rfl rfl (by omega) (fun b9 h8 h9 => ⟨fun _ => ⟨by omega, by omega⟩, fun _ => ⟨by omega, by omega⟩⟩) (fun _ => ⟨by omega, by omega⟩) (fun b9 h8 h9 => ⟨fun _ => by omega, fun _ => by omega⟩)
            have hP : va_P (dC, dI) vwCl (wd_cfaca2a5 h0 v0 r0 v1 v2 v3 v4 h1 h2 r1 h3 h4 h5 h6 v5 v6 h7 h8 r2 r3 v7 h9 r4 v8 v9 h10 r5 v10 v11 h11 x20 x21 r6 v14 w15 h12 v16 v17 r7 r8 r9 r10 r11 r12 v18 r13 r14 r15 v19 h1 g0 f20 h2 g1 f21 h3 g2 f22 h4 g3 f23 h5 g4 f24 h6 g5 f25 h7 g6 fn22 h8 g7 fn23 h9 g8 f28 h10 g9 fn43 h11 g10 fn25 h12 g11 fn26) H := hP
            have hD : va_D A (wd_cfaca2a5 h0 v0 r0 v1 v2 v3 v4 h1 h2 r1 h3 h4 h5 h6 v5 v6 h7 h8 r2 r3 v7 h9 r4 v8 v9 h10 r5 v10 v11 h11 x20 x21 r6 v14 w15 h12 v16 v17 r7 r8 r9 r10 r11 r12 v18 r13 r14 r15 v19 h1 g0 f20 h2 g1 f21 h3 g2 f22 h4 g3 f23 h5 g4 f24 h6 g5 f25 h7 g6 fn22 h8 g7 fn23 h9 g8 f28 h10 g9 fn43 h11 g10 fn25 h12 g11 fn26) := hD
            refine lv_aload_n hx hb dX12_oddsFrom_76 rfl (lv_at hl 3 rfl) ?_
            have hPc := hP.sub (ws' := (wd_935d8763 h0 v0 r0 v1 v2 v3 v4 h1 h2 r1 h3 h4 h5 h6 v5 v6 h7 h8 r2 r3 v7 h9 r4 v8 v9 h10 r5 v10 v11 h11 x20 x21 r6 v14 w15 h12 v16 v17 r7 r8 r9 r10 r11 r12 v18 r13 r14 r15 v19 h1 g0 f20 h2 g1 f21 h3 g2 f22 h4 g3 f23 h5 g4 f24 h6 g5 f25 h7 g6 fn22 h8 g7 fn23 h9 g8 f28 h10 g9 fn43 h11 g10 fn25)) [0, 1, 2, 3, 4, 5, 6, 7, 8, 9, 10, 11] rfl
            have hDc := hD.sub (ws' := (wd_935d8763 h0 v0 r0 v1 v2 v3 v4 h1 h2 r1 h3 h4 h5 h6 v5 v6 h7 h8 r2 r3 v7 h9 r4 v8 v9 h10 r5 v10 v11 h11 x20 x21 r6 v14 w15 h12 v16 v17 r7 r8 r9 r10 r11 r12 v18 r13 r14 r15 v19 h1 g0 f20 h2 g1 f21 h3 g2 f22 h4 g3 f23 h5 g4 f24 h6 g5 f25 h7 g6 fn22 h8 g7 fn23 h9 g8 f28 h10 g9 fn43 h11 g10 fn25)) [0, 1, 2, 3, 4, 5, 6, 7, 8, 9, 10, 11] (by decide +kernel) rfl
            have hKc := hK.sub (tys' := [(g0, .int), (g1, .int), (g2, .int), (g3, .int), (g4, .int), (g5, .int), (g6, .int), (g7, .int), (g8, .int), (g9, .int), (g10, .int)]) [0, 1, 2, 3, 4, 5, 6, 7, 8, 9, 10] rfl
            have hFc := va_free (wc := (wd_935d8763 h0 v0 r0 v1 v2 v3 v4 h1 h2 r1 h3 h4 h5 h6 v5 v6 h7 h8 r2 r3 v7 h9 r4 v8 v9 h10 r5 v10 v11 h11 x20 x21 r6 v14 w15 h12 v16 v17 r7 r8 r9 r10 r11 r12 v18 r13 r14 r15 v19 h1 g0 f20 h2 g1 f21 h3 g2 f22 h4 g3 f23 h5 g4 f24 h6 g5 f25 h7 g6 fn22 h8 g7 fn23 h9 g8 f28 h10 g9 fn43 h11 g10 fn25)) hD hS hA [0, 1, 2, 3, 4, 5, 6, 7, 8, 9, 10, 11] rfl
            refine va_callv (va_runV (As := []) (rest := []) ⟨hx, hb, hml, hown, hts⟩ (k_X12_live l dC dI h0 h1 h2 h3 h4 h5 h6 h7 h8 h9 h10 h11 v0 r0 v1 v2 v3 v4 r1 v5 v6 r2 r3 v7 r4 v8 v9 r5 v10 v11 x20 x21 r6 v14 w15 h12 v16 v17 r7 r8 r9 r10 r11 r12 v18 r13 r14 r15 v19 g0 f20 g1 f21 g2 f22 g3 f23 g4 f24 g5 f25 g6 fn22 g7 fn23 g8 f28 g9 fn43 g10 fn25 ⟨i_v1a, i_v1b⟩ ⟨i_v5a, i_v5b⟩ ⟨i_v6a, i_v6b⟩ ⟨i_v7a, i_v7b⟩ ⟨i_v8a, i_v8b⟩ ⟨i_v9a, i_v9b⟩ ⟨i_v10a, i_v10b⟩ ⟨i_v14a, i_v14b⟩ ⟨i_v18a, i_v18b⟩ ⟨i_v19a, i_v19b⟩ ia_f28 ia_fn43.1 pp0 H.size) (cwV 0 hts g_X12_oddsFrom_6_2 rfl rfl rfl (by decide +kernel) ⟨Nat.le_of_ble_eq_true rfl, Nat.le_of_ble_eq_true rfl⟩) (pv_PV12 hPc hKc hDc (q0 := 0) rfl) rfl rfl hl.1 rfl (lv_room (Nat.le_of_ble_eq_true rfl)) dX12_oddsFrom_77 ⟨Nat.le_of_ble_eq_true rfl, Nat.le_of_ble_eq_true rfl⟩) hS (fun q _ h => hFc q h) hFc (fun u t H1 locs ht hvm hwra44 hB hz1 hk1 hS => ?_)
            obtain ⟨x45, x46, fn47, fn48, fn49, fn50, ia_fn49, hP1, hK1, hD1⟩ := hB
            rw [ht] at hP1
            obtain ⟨hP2, hD2⟩ := va_join (wr := (wd_811139ca h12 g11 fn26)) (w1 := (wd_935d8763 h0 v0 r0 v1 v2 v3 v4 h1 h2 r1 h3 h4 h5 h6 v5 v6 h7 h8 r2 r3 v7 h9 r4 v8 v9 h10 r5 v10 v11 h11 x45 x46 r6 v14 w15 h12 v16 v17 r7 r8 r9 r10 r11 r12 v18 r13 r14 r15 v19 h1 g0 f20 h2 g1 f21 h3 g2 f22 h4 g3 f23 h5 g4 f24 h6 g5 f25 h7 g6 fn47 h8 g7 fn48 h9 g8 f28 h10 g9 fn49 h11 g10 fn50)) hP hD [0, 1, 2, 3, 4, 5, 6, 7, 8, 9, 10, 11] [12] rfl rfl (by decide +kernel) (by decide +kernel) hk1 hFc hP1 hD1
            clear hP hD hPc hDc hKc hFc hP1 hK1 hD1 hk1 hz1
            generalize H1 = H at hP2 hS ⊢
            have hP := hP2.sub (ws' := (wd_cfaca2a5 h0 v0 r0 v1 v2 v3 v4 h1 h2 r1 h3 h4 h5 h6 v5 v6 h7 h8 r2 r3 v7 h9 r4 v8 v9 h10 r5 v10 v11 h11 x45 x46 r6 v14 w15 h12 v16 v17 r7 r8 r9 r10 r11 r12 v18 r13 r14 r15 v19 h1 g0 f20 h2 g1 f21 h3 g2 f22 h4 g3 f23 h5 g4 f24 h6 g5 f25 h7 g6 fn47 h8 g7 fn48 h9 g8 f28 h10 g9 fn49 h11 g10 fn50 h12 g11 fn26)) [1, 2, 3, 4, 5, 6, 7, 8, 9, 10, 11, 12, 0] rfl
            have hD := hD2.sub (ws' := (wd_cfaca2a5 h0 v0 r0 v1 v2 v3 v4 h1 h2 r1 h3 h4 h5 h6 v5 v6 h7 h8 r2 r3 v7 h9 r4 v8 v9 h10 r5 v10 v11 h11 x45 x46 r6 v14 w15 h12 v16 v17 r7 r8 r9 r10 r11 r12 v18 r13 r14 r15 v19 h1 g0 f20 h2 g1 f21 h3 g2 f22 h4 g3 f23 h5 g4 f24 h6 g5 f25 h7 g6 fn47 h8 g7 fn48 h9 g8 f28 h10 g9 fn49 h11 g10 fn50 h12 g11 fn26)) [1, 2, 3, 4, 5, 6, 7, 8, 9, 10, 11, 12, 0] (by decide +kernel) rfl
            clear hP2 hD2
            refine lv_iload hx hb dX12_oddsFrom_80 (lv_at hl 1 rfl) ?_
            refine lv_aload_n hx hb dX12_oddsFrom_82 rfl (lv_at hl 3 rfl) ?_
            refine lv_iload_n hx hb dX12_oddsFrom_83 rfl (lv_at hl 4 rfl) ?_
            refine lv_iconst (v := 1) hx hb dX12_oddsFrom_84 (by decide) ?_
            refine lv_iadd hx hb dX12_oddsFrom_85 ?_
            refine lv_topi (fun tv51 etv51 => ?_)
            obtain rfl : tv51 = (1 : Int32) := etv51.trans (by first | rfl | decide)
            refine lv_iload_n hx hb dX12_oddsFrom_86 rfl (lv_at hl 5 rfl) ?_
            refine lv_iload_n hx hb dX12_oddsFrom_87 rfl (lv_at hl 6 rfl) ?_
            refine lv_iload hx hb dX12_oddsFrom_88 (lv_at hl 7 rfl) ?_
            refine lv_iconst (v := 1) hx hb dX12_oddsFrom_90 (by decide) ?_
            refine lv_isub hx hb dX12_oddsFrom_91 ?_
            refine lv_topi (fun t52 et52 => ?_)
            have gt52 : t52.toInt = v34.toInt - 1 := pv_sub (a := v34.toInt) (b := 1) et52 rfl (by decide) (by omega) (by omega)
            refine lv_iload hx hb dX12_oddsFrom_92 (lv_at hl 8 rfl) ?_
            refine lv_iload hx hb dX12_oddsFrom_94 (lv_at hl 0 rfl) ?_
            refine lv_iconst (v := 1) hx hb dX12_oddsFrom_96 (by decide) ?_
            have hJ54 : ∀ (x53 : Int32) (H : Heap) (locs : List Loc) (ls : Array Slot), va_P (dC, dI) vwCl (wd_cfaca2a5 h0 v0 r0 v1 v2 v3 v4 h1 h2 r1 h3 h4 h5 h6 v5 v6 h7 h8 r2 r3 v7 h9 r4 v8 v9 h10 r5 v10 v11 h11 x45 x46 r6 v14 w15 h12 v16 v17 r7 r8 r9 r10 r11 r12 v18 r13 r14 r15 v19 h1 g0 f20 h2 g1 f21 h3 g2 f22 h4 g3 f23 h5 g4 f24 h6 g5 f25 h7 g6 fn47 h8 g7 fn48 h9 g8 f28 h10 g9 fn49 h11 g10 fn50 h12 g11 fn26) H → va_D A (wd_cfaca2a5 h0 v0 r0 v1 v2 v3 v4 h1 h2 r1 h3 h4 h5 h6 v5 v6 h7 h8 r2 r3 v7 h9 r4 v8 v9 h10 r5 v10 v11 h11 x45 x46 r6 v14 w15 h12 v16 v17 r7 r8 r9 r10 r11 r12 v18 r13 r14 r15 v19 h1 g0 f20 h2 g1 f21 h3 g2 f22 h4 g3 f23 h5 g4 f24 h6 g5 f25 h7 g6 fn47 h8 g7 fn48 h9 g8 f28 h10 g9 fn49 h11 g10 fn50 h12 g11 fn26) → va_S A s.heap H locs → lv_has ls 10 [(9, .int x18), (8, .int x19), (7, .int t6), (0, .ref h0), (1, .int 0), (2, .int v32), (3, .int v33), (4, .int v34), (5, .int v35), (6, .int v36)] → W p l e ({ frames := 13, cells := 0, slots := 0, locals := 319 }) s m ([.ref h0, .int 0, .int v32, .int v33, .int v34, .int v35, .int v36] : List Value).toArray below meth c H locs 0 0 Q (F0 m 110 ls [.int x53, .int v35, .int t52, .int v33, .int v32, .int 1, .ref h0, .int x19]) := by
              intro x53 H locs ls hP hD hS hl
              have hPc := hP.sub (ws' := (wd_cfaca2a5 h0 v0 r0 v1 v2 v3 v4 h1 h2 r1 h3 h4 h5 h6 v5 v6 h7 h8 r2 r3 v7 h9 r4 v8 v9 h10 r5 v10 v11 h11 x45 x46 r6 v14 w15 h12 v16 v17 r7 r8 r9 r10 r11 r12 v18 r13 r14 r15 v19 h1 g0 f20 h2 g1 f21 h3 g2 f22 h4 g3 f23 h5 g4 f24 h6 g5 f25 h7 g6 fn47 h8 g7 fn48 h9 g8 f28 h10 g9 fn49 h11 g10 fn50 h12 g11 fn26)) [0, 1, 2, 3, 4, 5, 6, 7, 8, 9, 10, 11, 12] rfl
              have hDc := hD.sub (ws' := (wd_cfaca2a5 h0 v0 r0 v1 v2 v3 v4 h1 h2 r1 h3 h4 h5 h6 v5 v6 h7 h8 r2 r3 v7 h9 r4 v8 v9 h10 r5 v10 v11 h11 x45 x46 r6 v14 w15 h12 v16 v17 r7 r8 r9 r10 r11 r12 v18 r13 r14 r15 v19 h1 g0 f20 h2 g1 f21 h3 g2 f22 h4 g3 f23 h5 g4 f24 h6 g5 f25 h7 g6 fn47 h8 g7 fn48 h9 g8 f28 h10 g9 fn49 h11 g10 fn50 h12 g11 fn26)) [0, 1, 2, 3, 4, 5, 6, 7, 8, 9, 10, 11, 12] (by decide +kernel) rfl
              have hKc := hK.sub (tys' := [(g0, .int), (g1, .int), (g2, .int), (g3, .int), (g4, .int), (g5, .int), (g6, .int), (g7, .int), (g8, .int), (g9, .int), (g10, .int), (g11, .int)]) [0, 1, 2, 3, 4, 5, 6, 7, 8, 9, 10, 11] rfl
              have hFc := va_free (wc := (wd_cfaca2a5 h0 v0 r0 v1 v2 v3 v4 h1 h2 r1 h3 h4 h5 h6 v5 v6 h7 h8 r2 r3 v7 h9 r4 v8 v9 h10 r5 v10 v11 h11 x45 x46 r6 v14 w15 h12 v16 v17 r7 r8 r9 r10 r11 r12 v18 r13 r14 r15 v19 h1 g0 f20 h2 g1 f21 h3 g2 f22 h4 g3 f23 h5 g4 f24 h6 g5 f25 h7 g6 fn47 h8 g7 fn48 h9 g8 f28 h10 g9 fn49 h11 g10 fn50 h12 g11 fn26)) hD hS hA [0, 1, 2, 3, 4, 5, 6, 7, 8, 9, 10, 11, 12] rfl
              refine va_calli (va_runV (As := [.int 1, .int v32, .int v33, .int t52, .int v35, .int x53]) (rest := [.int x19]) ⟨hx, hb, hml, hown, hts⟩ (k_X12_oddsFrom_5 l dC dI h0 h1 h2 h3 h4 h5 h6 h7 h8 h9 h10 h11 h12 v0 r0 v1 v2 v3 v4 r1 v5 v6 r2 r3 v7 r4 v8 v9 r5 v10 v11 x45 x46 r6 v14 w15 v16 v17 r7 r8 r9 r10 r11 r12 v18 r13 r14 r15 v19 g0 f20 g1 f21 g2 f22 g3 f23 g4 f24 g5 f25 g6 fn47 g7 fn48 g8 f28 g9 fn49 g10 fn50 g11 fn26 v32 v33 t52 v35 x53 ⟨i_v1a, i_v1b⟩ ⟨i_v5a, i_v5b⟩ ⟨i_v6a, i_v6b⟩ ⟨i_v7a, i_v7b⟩ ⟨i_v8a, i_v8b⟩ ⟨i_v9a, i_v9b⟩ ⟨i_v10a, i_v10b⟩ ⟨i_v14a, i_v14b⟩ ⟨i_v18a, i_v18b⟩ ⟨i_v19a, i_v19b⟩ ⟨i_v32a, i_v32b⟩ ⟨by first | omega | decide, by first | omega | decide⟩ ia_f28 ia_fn49 ia_fn26 pp0 H.size) (cwV 6 hts g_X12_oddsFrom_6_3 rfl rfl rfl (by decide +kernel) ⟨Nat.le_of_ble_eq_true rfl, Nat.le_of_ble_eq_true rfl⟩) (pv_PV12 hPc hKc hDc (q0 := 0) rfl) rfl rfl hl.1 rfl (lv_room (Nat.le_of_ble_eq_true rfl)) dX12_oddsFrom_110 ⟨Nat.le_of_ble_eq_true rfl, Nat.le_of_ble_eq_true rfl⟩) hS (fun q _ h => hFc q h) hFc (fun ra55 u t H1 locs ht hvm hwra55 hB hz1 hk1 hS => ?_)
              try rw [hwra55] at hB
              obtain ⟨x56, x57, fn58, fn59, fn60, fn61, fn62, ia_fn60, ia_fn62, hP1, hK1, hD1⟩ := hB
              rw [ht] at hP1
              obtain ⟨hP2, hD2⟩ := va_join (wr := []) (w1 := (wd_cfaca2a5 h0 v0 r0 v1 v2 v3 v4 h1 h2 r1 h3 h4 h5 h6 v5 v6 h7 h8 r2 r3 v7 h9 r4 v8 v9 h10 r5 v10 v11 h11 x56 x57 r6 v14 w15 h12 v16 v17 r7 r8 r9 r10 r11 r12 v18 r13 r14 r15 v19 h1 g0 f20 h2 g1 f21 h3 g2 f22 h4 g3 f23 h5 g4 f24 h6 g5 f25 h7 g6 fn58 h8 g7 fn59 h9 g8 f28 h10 g9 fn60 h11 g10 fn61 h12 g11 fn62)) hP hD [0, 1, 2, 3, 4, 5, 6, 7, 8, 9, 10, 11, 12] [] rfl rfl (by decide +kernel) (by decide +kernel) hk1 hFc hP1 hD1
              clear hP hD hPc hDc hKc hFc hP1 hK1 hD1 hk1 hz1
              generalize H1 = H at hP2 hS ⊢
              have hP : va_P (dC, dI) vwCl (wd_cfaca2a5 h0 v0 r0 v1 v2 v3 v4 h1 h2 r1 h3 h4 h5 h6 v5 v6 h7 h8 r2 r3 v7 h9 r4 v8 v9 h10 r5 v10 v11 h11 x56 x57 r6 v14 w15 h12 v16 v17 r7 r8 r9 r10 r11 r12 v18 r13 r14 r15 v19 h1 g0 f20 h2 g1 f21 h3 g2 f22 h4 g3 f23 h5 g4 f24 h6 g5 f25 h7 g6 fn58 h8 g7 fn59 h9 g8 f28 h10 g9 fn60 h11 g10 fn61 h12 g11 fn62) H := hP2
              have hD : va_D A (wd_cfaca2a5 h0 v0 r0 v1 v2 v3 v4 h1 h2 r1 h3 h4 h5 h6 v5 v6 h7 h8 r2 r3 v7 h9 r4 v8 v9 h10 r5 v10 v11 h11 x56 x57 r6 v14 w15 h12 v16 v17 r7 r8 r9 r10 r11 r12 v18 r13 r14 r15 v19 h1 g0 f20 h2 g1 f21 h3 g2 f22 h4 g3 f23 h5 g4 f24 h6 g5 f25 h7 g6 fn58 h8 g7 fn59 h9 g8 f28 h10 g9 fn60 h11 g10 fn61 h12 g11 fn62) := hD2
              clear hP2 hD2
              refine lv_iadd hx hb dX12_oddsFrom_113 ?_
              refine lv_topi (fun t63 et63 => ?_)
              refine lv_istore (lv' := [(8, .int t63), (9, .int x18), (7, .int t6), (0, .ref h0), (1, .int 0), (2, .int v32), (3, .int v33), (4, .int v34), (5, .int v35), (6, .int v36)]) hx hb dX12_oddsFrom_114 hl (by decide) rfl (fun ls hl => ?_)
              refine lv_aload_n hx hb dX12_oddsFrom_116 rfl (lv_at hl 3 rfl) ?_
              refine lv_iload_n hx hb dX12_oddsFrom_117 rfl (lv_at hl 4 rfl) ?_
              have hPc := hP.sub (ws' := (wd_04244fe9 h0 v0 r0 v1 v2 v3 v4 h1 h2 r1 h3 h4 h5 h6 v5 v6 h7 h8 r2 r3 v7 h9 r4 v8 v9 h10 r5 v10 v11 h11 x56 x57 r6 v14 w15 h12 v16 v17 r7 r8 r9 r10 r11 r12 v18 r13 r14 r15 v19 h10 g9 fn60 h12 g11 fn62)) [0, 10, 12] rfl
              have hDc := hD.sub (ws' := (wd_04244fe9 h0 v0 r0 v1 v2 v3 v4 h1 h2 r1 h3 h4 h5 h6 v5 v6 h7 h8 r2 r3 v7 h9 r4 v8 v9 h10 r5 v10 v11 h11 x56 x57 r6 v14 w15 h12 v16 v17 r7 r8 r9 r10 r11 r12 v18 r13 r14 r15 v19 h10 g9 fn60 h12 g11 fn62)) [0, 10, 12] (by decide) rfl
              have hKc := hK.sub (tys' := [(g9, .int), (g11, .int)]) [9, 11] rfl
              have hFc := va_free (wc := (wd_04244fe9 h0 v0 r0 v1 v2 v3 v4 h1 h2 r1 h3 h4 h5 h6 v5 v6 h7 h8 r2 r3 v7 h9 r4 v8 v9 h10 r5 v10 v11 h11 x56 x57 r6 v14 w15 h12 v16 v17 r7 r8 r9 r10 r11 r12 v18 r13 r14 r15 v19 h10 g9 fn60 h12 g11 fn62)) hD hS hA [0, 10, 12] rfl
              refine va_callv (va_runV (As := [.int 0]) (rest := []) ⟨hx, hb, hml, hown, hts⟩ (k_X12_takeBack l dC dI h0 h10 h12 v0 r0 v1 v2 v3 v4 h1 h2 r1 h3 h4 h5 h6 v5 v6 h7 h8 r2 r3 v7 h9 r4 v8 v9 r5 v10 v11 h11 x56 x57 r6 v14 w15 v16 v17 r7 r8 r9 r10 r11 r12 v18 r13 r14 r15 v19 g9 fn60 g11 fn62 0 ⟨i_v1a, i_v1b⟩ ⟨i_v5a, i_v5b⟩ ⟨i_v6a, i_v6b⟩ ⟨i_v7a, i_v7b⟩ ⟨i_v8a, i_v8b⟩ ⟨i_v9a, i_v9b⟩ ⟨i_v10a, i_v10b⟩ ⟨i_v14a, i_v14b⟩ ⟨i_v18a, i_v18b⟩ ⟨i_v19a, i_v19b⟩ ⟨by decide, by decide⟩ ia_fn60.1 ia_fn62 H.size) (cwV 1 hts g_X12_oddsFrom_6_4 rfl rfl rfl (by decide +kernel) ⟨Nat.le_of_ble_eq_true rfl, Nat.le_of_ble_eq_true rfl⟩) (pv_PV12 hPc hKc hDc (q0 := 0) rfl) rfl rfl hl.1 rfl (lv_room (Nat.le_of_ble_eq_true rfl)) dX12_oddsFrom_118 ⟨Nat.le_of_ble_eq_true rfl, Nat.le_of_ble_eq_true rfl⟩) hS (fun q _ h => hFc q h) hFc (fun u t H1 locs ht hvm hwra64 hB hz1 hk1 hS => ?_)
              obtain ⟨fn65, ia_fn65, hP1, hK1, hD1⟩ := hB
              rw [ht] at hP1
              obtain ⟨hP2, hD2⟩ := va_join (wr := (wd_4dc6964c h1 g0 f20 h2 g1 f21 h3 g2 f22 h4 g3 f23 h5 g4 f24 h6 g5 f25 h7 g6 fn58 h8 g7 fn59 h9 g8 f28 h11 g10 fn61)) (w1 := (wd_04244fe9 h0 v0 r0 v1 v2 v3 v4 h1 h2 r1 h3 h4 h5 h6 v5 v6 h7 h8 r2 r3 v7 h9 r4 v8 v9 h10 r5 v10 v11 h11 x56 x57 r6 v14 w15 h12 v16 v17 r7 r8 r9 r10 r11 r12 v18 r13 r14 r15 v19 h10 g9 fn65 h12 g11 fn62)) hP hD [0, 10, 12] [1, 2, 3, 4, 5, 6, 7, 8, 9, 11] rfl rfl (by decide +kernel) (by decide +kernel) hk1 hFc hP1 hD1
              clear hP hD hPc hDc hKc hFc hP1 hK1 hD1 hk1 hz1
              generalize H1 = H at hP2 hS ⊢
              have hP := hP2.sub (ws' := (wd_cfaca2a5 h0 v0 r0 v1 v2 v3 v4 h1 h2 r1 h3 h4 h5 h6 v5 v6 h7 h8 r2 r3 v7 h9 r4 v8 v9 h10 r5 v10 v11 h11 x56 x57 r6 v14 w15 h12 v16 v17 r7 r8 r9 r10 r11 r12 v18 r13 r14 r15 v19 h1 g0 f20 h2 g1 f21 h3 g2 f22 h4 g3 f23 h5 g4 f24 h6 g5 f25 h7 g6 fn58 h8 g7 fn59 h9 g8 f28 h10 g9 fn65 h11 g10 fn61 h12 g11 fn62)) [10, 0, 1, 2, 3, 4, 5, 6, 7, 8, 11, 9, 12] rfl
              have hD := hD2.sub (ws' := (wd_cfaca2a5 h0 v0 r0 v1 v2 v3 v4 h1 h2 r1 h3 h4 h5 h6 v5 v6 h7 h8 r2 r3 v7 h9 r4 v8 v9 h10 r5 v10 v11 h11 x56 x57 r6 v14 w15 h12 v16 v17 r7 r8 r9 r10 r11 r12 v18 r13 r14 r15 v19 h1 g0 f20 h2 g1 f21 h3 g2 f22 h4 g3 f23 h5 g4 f24 h6 g5 f25 h7 g6 fn58 h8 g7 fn59 h9 g8 f28 h10 g9 fn65 h11 g10 fn61 h12 g11 fn62)) [10, 0, 1, 2, 3, 4, 5, 6, 7, 8, 11, 9, 12] (by decide +kernel) rfl
              clear hP2 hD2
              obtain ⟨t66, et66⟩ : ∃ y : Int32, y = x18 + 1 := ⟨_, rfl⟩
              have gt66 : t66.toInt = x18.toInt + (1) := pv_add (a := x18.toInt) (b := (1)) et66 rfl (by decide) (by omega) (by omega)
              refine lv_iinc (v := t66) (lv' := [(9, .int t66), (8, .int t63), (7, .int t6), (0, .ref h0), (1, .int 0), (2, .int v32), (3, .int v33), (4, .int v34), (5, .int v35), (6, .int v36)]) hx hb dX12_oddsFrom_121 hl (k := 1) rfl (by rw [et66]; rfl) (by decide) rfl (fun ls hl => ?_)
              refine lv_goto (tgt := 46) hx hb dX12_oddsFrom_124 (by decide) ?_
              exact ih_hL36 t66 t63 x56 x57 fn58 fn59 fn65 fn61 fn62 H locs ls (by first | omega | decide) (by first | omega | decide) ia_fn65 ia_fn62 (by first | omega | (simp only [Int.toNat] at *; omega)) hP hD hS (lv_sub hl [0, 1, 2, 3, 4, 5, 6, 7, 8, 9] rfl)
            refine lv_icmp_ne (tgt := 105) hx hb dX12_oddsFrom_97 (by decide) (fun c67 => ?_) (fun c67 => ?_)
            · skip
              have fc67 : ¬ (x18.toInt = 1) := fun h9 => c67 (Int32.toInt_inj.mp h9)
              refine lv_iload hx hb dX12_oddsFrom_105 (lv_at hl 9 rfl) ?_
              refine lv_iload hx hb dX12_oddsFrom_107 (lv_at hl 2 rfl) ?_
              refine lv_isub hx hb dX12_oddsFrom_109 ?_
              refine lv_topi (fun t68 et68 => ?_)
              exact hJ54 t68 H locs ls hP hD hS (lv_sub hl [0, 1, 2, 3, 4, 5, 6, 7, 8, 9] rfl)
            · skip
              have fc67 : x18.toInt = 1 := congrArg Int32.toInt c67
              refine lv_iload hx hb dX12_oddsFrom_100 (lv_at hl 2 rfl) ?_
              refine lv_goto (tgt := 110) hx hb dX12_oddsFrom_102 (by decide) ?_
              exact hJ54 t6 H locs ls hP hD hS (lv_sub hl [0, 1, 2, 3, 4, 5, 6, 7, 8, 9] rfl)
          refine lv_icmp_ne (tgt := 66) hx hb dX12_oddsFrom_59 (by decide) (fun c69 => ?_) (fun c69 => ?_)
          · skip
            have fc69 : ¬ (x18.toInt = 1) := fun h9 => c69 (Int32.toInt_inj.mp h9)
            refine lv_aload_n hx hb dX12_oddsFrom_66 rfl (lv_at hl 3 rfl) ?_
            refine lv_iload_n hx hb dX12_oddsFrom_67 rfl (lv_at hl 5 rfl) ?_
            refine lv_bipush (v := 6) hx hb dX12_oddsFrom_68 (by decide) ?_
            have hPc := hP.sub (ws' := (wd_5013416a h0 v0 r0 v1 v2 v3 v4 h1 h2 r1 h3 h4 h5 h6 v5 v6 h7 h8 r2 r3 v7 h9 r4 v8 v9 h10 r5 v10 v11 h11 x20 x21 r6 v14 w15 h12 v16 v17 r7 r8 r9 r10 r11 r12 v18 r13 r14 r15 v19 h10 g9 fn24)) [0, 10] rfl
            have hDc := hD.sub (ws' := (wd_5013416a h0 v0 r0 v1 v2 v3 v4 h1 h2 r1 h3 h4 h5 h6 v5 v6 h7 h8 r2 r3 v7 h9 r4 v8 v9 h10 r5 v10 v11 h11 x20 x21 r6 v14 w15 h12 v16 v17 r7 r8 r9 r10 r11 r12 v18 r13 r14 r15 v19 h10 g9 fn24)) [0, 10] (by decide) rfl
            have hKc := hK.sub (tys' := [(g9, .int)]) [9] rfl
            have hFc := va_free (wc := (wd_5013416a h0 v0 r0 v1 v2 v3 v4 h1 h2 r1 h3 h4 h5 h6 v5 v6 h7 h8 r2 r3 v7 h9 r4 v8 v9 h10 r5 v10 v11 h11 x20 x21 r6 v14 w15 h12 v16 v17 r7 r8 r9 r10 r11 r12 v18 r13 r14 r15 v19 h10 g9 fn24)) hD hS hA [0, 10] rfl
            refine va_calli (va_runV (As := [.int v32, .int 6]) (rest := [.int 6, .int v32, .ref h0]) ⟨hx, hb, hml, hown, hts⟩ (k_X12_of_8 l dC dI h0 h10 v0 r0 v1 v2 v3 v4 h1 h2 r1 h3 h4 h5 h6 v5 v6 h7 h8 r2 r3 v7 h9 r4 v8 v9 r5 v10 v11 h11 x20 x21 r6 v14 w15 h12 v16 v17 r7 r8 r9 r10 r11 r12 v18 r13 r14 r15 v19 g9 fn24 v32 ⟨i_v1a, i_v1b⟩ ⟨i_v5a, i_v5b⟩ ⟨i_v6a, i_v6b⟩ ⟨i_v7a, i_v7b⟩ ⟨i_v8a, i_v8b⟩ ⟨i_v9a, i_v9b⟩ ⟨i_v10a, i_v10b⟩ ⟨i_v14a, i_v14b⟩ ⟨i_v18a, i_v18b⟩ ⟨i_v19a, i_v19b⟩ ⟨i_v32a, i_v32b⟩ ia_fn24.1 H.size) (cwV 2 hts g_X12_oddsFrom_6_5 rfl rfl rfl (by decide +kernel) ⟨Nat.le_of_ble_eq_true rfl, Nat.le_of_ble_eq_true rfl⟩) (pv_PV12 hPc hKc hDc (q0 := 0) rfl) rfl rfl hl.1 rfl (lv_room (Nat.le_of_ble_eq_true rfl)) dX12_oddsFrom_70 ⟨Nat.le_of_ble_eq_true rfl, Nat.le_of_ble_eq_true rfl⟩) hS (fun q _ h => hFc q h) hFc (fun ra70 u t H1 locs ht hvm hwra70 hB hz1 hk1 hS => ?_)
            try rw [hwra70] at hB
            obtain ⟨pt0_ra70, hP1, hK1, hD1⟩ := hB
            rw [ht] at hP1
            obtain ⟨hP2, hD2⟩ := va_join (wr := (wd_e8ff9da7 h1 g0 f20 h2 g1 f21 h3 g2 f22 h4 g3 f23 h5 g4 f24 h6 g5 f25 h7 g6 fn22 h8 g7 fn23 h9 g8 f28 h11 g10 fn25 h12 g11 fn26)) (w1 := (wd_5013416a h0 v0 r0 v1 v2 v3 v4 h1 h2 r1 h3 h4 h5 h6 v5 v6 h7 h8 r2 r3 v7 h9 r4 v8 v9 h10 r5 v10 v11 h11 x20 x21 r6 v14 w15 h12 v16 v17 r7 r8 r9 r10 r11 r12 v18 r13 r14 r15 v19 h10 g9 fn24)) hP hD [0, 10] [1, 2, 3, 4, 5, 6, 7, 8, 9, 11, 12] rfl rfl (by decide +kernel) (by decide +kernel) hk1 hFc hP1 hD1
            clear hP hD hPc hDc hKc hFc hP1 hK1 hD1 hk1 hz1
            generalize H1 = H at hP2 hS ⊢
            have hP := hP2.sub (ws' := (wd_cfaca2a5 h0 v0 r0 v1 v2 v3 v4 h1 h2 r1 h3 h4 h5 h6 v5 v6 h7 h8 r2 r3 v7 h9 r4 v8 v9 h10 r5 v10 v11 h11 x20 x21 r6 v14 w15 h12 v16 v17 r7 r8 r9 r10 r11 r12 v18 r13 r14 r15 v19 h1 g0 f20 h2 g1 f21 h3 g2 f22 h4 g3 f23 h5 g4 f24 h6 g5 f25 h7 g6 fn22 h8 g7 fn23 h9 g8 f28 h10 g9 fn24 h11 g10 fn25 h12 g11 fn26)) [11, 0, 1, 2, 3, 4, 5, 6, 7, 8, 12, 9, 10] rfl
            have hD := hD2.sub (ws' := (wd_cfaca2a5 h0 v0 r0 v1 v2 v3 v4 h1 h2 r1 h3 h4 h5 h6 v5 v6 h7 h8 r2 r3 v7 h9 r4 v8 v9 h10 r5 v10 v11 h11 x20 x21 r6 v14 w15 h12 v16 v17 r7 r8 r9 r10 r11 r12 v18 r13 r14 r15 v19 h1 g0 f20 h2 g1 f21 h3 g2 f22 h4 g3 f23 h5 g4 f24 h6 g5 f25 h7 g6 fn22 h8 g7 fn23 h9 g8 f28 h10 g9 fn24 h11 g10 fn25 h12 g11 fn26)) [11, 0, 1, 2, 3, 4, 5, 6, 7, 8, 12, 9, 10] (by decide +kernel) rfl
            clear hP2 hD2
            exact hJ39 ra70 H locs ls hP hD hS (lv_sub hl [0, 1, 2, 3, 4, 5, 6, 7, 8, 9] rfl)
          · skip
            have fc69 : x18.toInt = 1 := congrArg Int32.toInt c69
            refine lv_iconst (v := 1) hx hb dX12_oddsFrom_62 (by decide) ?_
            refine lv_goto (tgt := 73) hx hb dX12_oddsFrom_63 (by decide) ?_
            exact hJ39 1 H locs ls hP hD hS (lv_sub hl [0, 1, 2, 3, 4, 5, 6, 7, 8, 9] rfl)
    exact hL36 _ 0 0 v12 v13 f26 f27 f29 f30 fn8 H locs ls (by decide) (by decide) ia_f29 ia_fn8 (Nat.lt_succ_self _) hP hD hS (lv_sub hl [0, 1, 2, 3, 4, 5, 6, 7, 8, 9] rfl)
  · skip
    have fc1 : v34.toInt = 0 := congrArg Int32.toInt c1
    refine lv_aload_n hx hb dX12_oddsFrom_5 rfl (lv_at hl 0 rfl) ?_
    refine lv_iload_n hx hb dX12_oddsFrom_6 rfl (lv_at hl 2 rfl) ?_
    have hPc := hP.sub (ws' := (wd_5013416a h0 v0 r0 v1 v2 v3 v4 h1 h2 r1 h3 h4 h5 h6 v5 v6 h7 h8 r2 r3 v7 h9 r4 v8 v9 h10 r5 v10 v11 h11 v12 v13 r6 v14 w15 h12 v16 v17 r7 r8 r9 r10 r11 r12 v18 r13 r14 r15 v19 h10 g9 f29)) [0, 10] rfl
    have hDc := hD.sub (ws' := (wd_5013416a h0 v0 r0 v1 v2 v3 v4 h1 h2 r1 h3 h4 h5 h6 v5 v6 h7 h8 r2 r3 v7 h9 r4 v8 v9 h10 r5 v10 v11 h11 v12 v13 r6 v14 w15 h12 v16 v17 r7 r8 r9 r10 r11 r12 v18 r13 r14 r15 v19 h10 g9 f29)) [0, 10] (by decide) rfl
    have hKc := hK.sub (tys' := [(g9, .int)]) [9] rfl
    have hFc := va_free (wc := (wd_5013416a h0 v0 r0 v1 v2 v3 v4 h1 h2 r1 h3 h4 h5 h6 v5 v6 h7 h8 r2 r3 v7 h9 r4 v8 v9 h10 r5 v10 v11 h11 v12 v13 r6 v14 w15 h12 v16 v17 r7 r8 r9 r10 r11 r12 v18 r13 r14 r15 v19 h10 g9 f29)) hD hS hA [0, 10] rfl
    refine va_calli (va_runV (As := [.int v32]) (rest := []) ⟨hx, hb, hml, hown, hts⟩ (k_X12_sizeNow l dC dI h0 h10 v0 r0 v1 v2 v3 v4 h1 h2 r1 h3 h4 h5 h6 v5 v6 h7 h8 r2 r3 v7 h9 r4 v8 v9 r5 v10 v11 h11 v12 v13 r6 v14 w15 h12 v16 v17 r7 r8 r9 r10 r11 r12 v18 r13 r14 r15 v19 g9 f29 v32 ⟨i_v1a, i_v1b⟩ ⟨i_v5a, i_v5b⟩ ⟨i_v6a, i_v6b⟩ ⟨i_v7a, i_v7b⟩ ⟨i_v8a, i_v8b⟩ ⟨i_v9a, i_v9b⟩ ⟨i_v10a, i_v10b⟩ ⟨i_v14a, i_v14b⟩ ⟨i_v18a, i_v18b⟩ ⟨i_v19a, i_v19b⟩ ia_f29.1 H.size) (cwV 1 hts g_X12_oddsFrom_6_6 rfl rfl rfl (by decide +kernel) ⟨Nat.le_of_ble_eq_true rfl, Nat.le_of_ble_eq_true rfl⟩) (pv_PV12 hPc hKc hDc (q0 := 0) rfl) rfl rfl hl.1 rfl (lv_room (Nat.le_of_ble_eq_true rfl)) dX12_oddsFrom_7 ⟨Nat.le_of_ble_eq_true rfl, Nat.le_of_ble_eq_true rfl⟩) hS (fun q _ h => hFc q h) hFc (fun ra71 u t H1 locs ht hvm hwra71 hB hz1 hk1 hS => ?_)
    try rw [hwra71] at hB
    obtain ⟨pt0_ra71, pt1_ra71, hP1, hK1, hD1⟩ := hB
    rw [ht] at hP1
    obtain ⟨hP2, hD2⟩ := va_join (wr := (wd_e8ff9da7 h1 g0 f20 h2 g1 f21 h3 g2 f22 h4 g3 f23 h5 g4 f24 h6 g5 f25 h7 g6 f26 h8 g7 f27 h9 g8 f28 h11 g10 f30 h12 g11 f31)) (w1 := (wd_5013416a h0 v0 r0 v1 v2 v3 v4 h1 h2 r1 h3 h4 h5 h6 v5 v6 h7 h8 r2 r3 v7 h9 r4 v8 v9 h10 r5 v10 v11 h11 v12 v13 r6 v14 w15 h12 v16 v17 r7 r8 r9 r10 r11 r12 v18 r13 r14 r15 v19 h10 g9 f29)) hP hD [0, 10] [1, 2, 3, 4, 5, 6, 7, 8, 9, 11, 12] rfl rfl (by decide +kernel) (by decide +kernel) hk1 hFc hP1 hD1
    clear hP hD hPc hDc hKc hFc hP1 hK1 hD1 hk1 hz1
    generalize H1 = H at hP2 hS ⊢
    have hP := hP2.sub (ws' := (wd_cfaca2a5 h0 v0 r0 v1 v2 v3 v4 h1 h2 r1 h3 h4 h5 h6 v5 v6 h7 h8 r2 r3 v7 h9 r4 v8 v9 h10 r5 v10 v11 h11 v12 v13 r6 v14 w15 h12 v16 v17 r7 r8 r9 r10 r11 r12 v18 r13 r14 r15 v19 h1 g0 f20 h2 g1 f21 h3 g2 f22 h4 g3 f23 h5 g4 f24 h6 g5 f25 h7 g6 f26 h8 g7 f27 h9 g8 f28 h10 g9 f29 h11 g10 f30 h12 g11 f31)) [11, 0, 1, 2, 3, 4, 5, 6, 7, 8, 12, 9, 10] rfl
    have hD := hD2.sub (ws' := (wd_cfaca2a5 h0 v0 r0 v1 v2 v3 v4 h1 h2 r1 h3 h4 h5 h6 v5 v6 h7 h8 r2 r3 v7 h9 r4 v8 v9 h10 r5 v10 v11 h11 v12 v13 r6 v14 w15 h12 v16 v17 r7 r8 r9 r10 r11 r12 v18 r13 r14 r15 v19 h1 g0 f20 h2 g1 f21 h3 g2 f22 h4 g3 f23 h5 g4 f24 h6 g5 f25 h7 g6 f26 h8 g7 f27 h9 g8 f28 h10 g9 f29 h11 g10 f30 h12 g11 f31)) [11, 0, 1, 2, 3, 4, 5, 6, 7, 8, 12, 9, 10] (by decide +kernel) rfl
    clear hP2 hD2
    refine lv_iload_n hx hb dX12_oddsFrom_10 rfl (lv_at hl 3 rfl) ?_
    have hJ73 : ∀ (x72 : Int32) (H : Heap) (locs : List Loc) (ls : Array Slot), va_P (dC, dI) vwCl (wd_cfaca2a5 h0 v0 r0 v1 v2 v3 v4 h1 h2 r1 h3 h4 h5 h6 v5 v6 h7 h8 r2 r3 v7 h9 r4 v8 v9 h10 r5 v10 v11 h11 v12 v13 r6 v14 w15 h12 v16 v17 r7 r8 r9 r10 r11 r12 v18 r13 r14 r15 v19 h1 g0 f20 h2 g1 f21 h3 g2 f22 h4 g3 f23 h5 g4 f24 h6 g5 f25 h7 g6 f26 h8 g7 f27 h9 g8 f28 h10 g9 f29 h11 g10 f30 h12 g11 f31) H → va_D A (wd_cfaca2a5 h0 v0 r0 v1 v2 v3 v4 h1 h2 r1 h3 h4 h5 h6 v5 v6 h7 h8 r2 r3 v7 h9 r4 v8 v9 h10 r5 v10 v11 h11 v12 v13 r6 v14 w15 h12 v16 v17 r7 r8 r9 r10 r11 r12 v18 r13 r14 r15 v19 h1 g0 f20 h2 g1 f21 h3 g2 f22 h4 g3 f23 h5 g4 f24 h6 g5 f25 h7 g6 f26 h8 g7 f27 h9 g8 f28 h10 g9 f29 h11 g10 f30 h12 g11 f31) → va_S A s.heap H locs → lv_has ls 10 [(0, .ref h0), (1, .int 0), (2, .int v32), (3, .int v33), (4, .int v34), (5, .int v35), (6, .int v36)] → W p l e ({ frames := 13, cells := 0, slots := 0, locals := 319 }) s m ([.ref h0, .int 0, .int v32, .int v33, .int v34, .int v35, .int v36] : List Value).toArray below meth c H locs 0 0 Q (F0 m 20 ls [.int x72]) := by
      intro x72 H locs ls hP hD hS hl
      subst hQ
      have hP9 := hP.sub (ws' := (wd_cfaca2a5 h0 v0 r0 v1 v2 v3 v4 h1 h2 r1 h3 h4 h5 h6 v5 v6 h7 h8 r2 r3 v7 h9 r4 v8 v9 h10 r5 v10 v11 h11 v12 v13 r6 v14 w15 h12 v16 v17 r7 r8 r9 r10 r11 r12 v18 r13 r14 r15 v19 h1 g0 f20 h2 g1 f21 h3 g2 f22 h4 g3 f23 h5 g4 f24 h6 g5 f25 h7 g6 f26 h8 g7 f27 h9 g8 f28 h10 g9 f29 h11 g10 f30 h12 g11 f31)) [0, 1, 2, 3, 4, 5, 6, 7, 8, 9, 10, 11, 12] rfl
      have hD9 := hD.sub (ws' := (wd_cfaca2a5 h0 v0 r0 v1 v2 v3 v4 h1 h2 r1 h3 h4 h5 h6 v5 v6 h7 h8 r2 r3 v7 h9 r4 v8 v9 h10 r5 v10 v11 h11 v12 v13 r6 v14 w15 h12 v16 v17 r7 r8 r9 r10 r11 r12 v18 r13 r14 r15 v19 h1 g0 f20 h2 g1 f21 h3 g2 f22 h4 g3 f23 h5 g4 f24 h6 g5 f25 h7 g6 f26 h8 g7 f27 h9 g8 f28 h10 g9 f29 h11 g10 f30 h12 g11 f31)) [0, 1, 2, 3, 4, 5, 6, 7, 8, 9, 10, 11, 12] (by decide +kernel) rfl
      have hK9 := hK.sub (tys' := []) [] rfl
      exact W.iret (v := x72) hx hb hr (fun t ht hW => ⟨⟨x72, x72, rfl, rfl, ⟨v12, v13, f26, f27, f29, f30, f31, ia_f29, ia_f31, by rw [ht]; exact hP9, va_K.moved hW.alike hK9, hD9⟩⟩, hS.F ht⟩) hS.2.2 dX12_oddsFrom_20
    refine lv_icmp_lt (tgt := 19) hx hb dX12_oddsFrom_11 (by decide) (fun c74 => ?_) (fun c74 => ?_)
    · skip
      have fc74 : ra71.toInt < v33.toInt := Int32.lt_iff_toInt_lt.mp c74
      have r1c74 := Int32.toInt_lt ra71
      have r2c74 := Int32.toInt_lt v33
      have r3c74 := Int32.le_toInt ra71
      have r4c74 := Int32.le_toInt v33
      refine lv_iconst (v := 0) hx hb dX12_oddsFrom_19 (by decide) ?_
      exact hJ73 0 H locs ls hP hD hS (lv_sub hl [0, 1, 2, 3, 4, 5, 6] rfl)
    · skip
      have fc74 : ¬ (ra71.toInt < v33.toInt) := fun h9 => c74 (Int32.lt_iff_toInt_lt.mpr h9)
      have r1c74 := Int32.toInt_lt ra71
      have r2c74 := Int32.toInt_lt v33
      have r3c74 := Int32.le_toInt ra71
      have r4c74 := Int32.le_toInt v33
      refine lv_iload hx hb dX12_oddsFrom_14 (lv_at hl 6 rfl) ?_
      refine lv_goto (tgt := 20) hx hb dX12_oddsFrom_16 (by decide) ?_
      exact hJ73 v36 H locs ls hP hD hS (lv_sub hl [0, 1, 2, 3, 4, 5, 6] rfl)
def q_X12_odds : List Cond := .code yX12_odds cX12_odds 5 (some .int) :: (([.code yX12_isThere cX12_isThere 2 (some .boolean), .code yX12_in cX12_in 3 (some .boolean), .initialized RX12, .static yX12_in, .methodLink RX12 217 yX12_in, .code yX12_of cX12_of 3 (some .int), .fieldLink RX12 52 "LeftArgumentsModel" "now" "[I", .instanceMethod yX12_of, .selects RX12 yX12_of yX12_of, .methodLink RX12 287 yX12_of, .instanceMethod yX12_isThere, .selects RX12 yX12_isThere yX12_isThere, .methodLink RX12 290 yX12_isThere, .constant RX12 452 (1000000000), .code yX12_oddsFrom cX12_oddsFrom 10 (some .int), .constantLong RX12 447 (100), .code yX12_putAside cX12_putAside 3 none, .fieldLink RX12 71 "LeftArgumentsModel" "aside" "[I", .instanceMethod yX12_putAside, .selects RX12 yX12_putAside yX12_putAside, .methodLink RX12 375 yX12_putAside, .code yX12_set cX12_set 4 none, .instanceMethod yX12_set, .selects RX12 yX12_set yX12_set, .methodLink RX12 258 yX12_set, .code yX12_live cX12_live 2 none, .code yX12_growAll cX12_growAll 2 none, .fieldLink RX12 65 "LeftArgumentsModel" "grows" "[I", .methodLink RX12 299 Lib.Math.min.name, .static Lib.Math.min.name, .initialized "java/lang/Math", .code Lib.Math.min.name Lib.Math.min.code 2 (some .int), .methodLink RX12 301 Lib.Math.max.name, .static Lib.Math.max.name, .code Lib.Math.max.name Lib.Math.max.code 2 (some .int), .code yX12_growthOf cX12_growthOf 4 (some .int), .code yX12_withOf cX12_withOf 4 (some .int), .instanceMethod yX12_withOf, .selects RX12 yX12_withOf yX12_withOf, .methodLink RX12 293 yX12_withOf, .fieldLink RX12 58 "LeftArgumentsModel" "holding" "I", .fieldLink RX12 34 "LeftArgumentsModel" "letters" "[I", .code yX12_worthOf cX12_worthOf 3 (some .int), .fieldLink RX12 22 "LeftArgumentsModel" "clauses" "[I", .fieldLink RX12 25 "LeftArgumentsModel" "testFrom" "[I", .fieldLink RX12 28 "LeftArgumentsModel" "sumFrom" "[I", .fieldLink RX12 31 "LeftArgumentsModel" "sumTo" "[I", .code yX12_workOut cX12_workOut 6 (some .int), .fieldLink RX12 37 "LeftArgumentsModel" "stack" "[I", .fieldLink RX12 13 "LeftArgumentsModel" "code" "[I", .fieldLink RX12 16 "LeftArgumentsModel" "value" "[I", .code yX12_worked cX12_worked 5 (some .int), .code yX12_bounded cX12_bounded 2 (some .int), .constantLong RX12 192 (-1000000), .constantLong RX12 194 (1000000), .methodLink RX12 196 Lib.MathLoose.min_long.x, .static Lib.MathLoose.min_long.x, .code Lib.MathLoose.min_long.x Lib.MathLoose.min_long.code 4 (some .long), .methodLink RX12 202 Lib.MathLoose.max_long.x, .static Lib.MathLoose.max_long.x, .code Lib.MathLoose.max_long.x Lib.MathLoose.max_long.code 4 (some .long), .static yX12_bounded, .methodLink RX12 205 yX12_bounded, .static yX12_worked, .methodLink RX12 209 yX12_worked, .instanceMethod yX12_workOut, .selects RX12 yX12_workOut yX12_workOut, .methodLink RX12 213 yX12_workOut, .instanceMethod yX12_worthOf, .selects RX12 yX12_worthOf yX12_worthOf, .methodLink RX12 296 yX12_worthOf, .instanceMethod yX12_growthOf, .selects RX12 yX12_growthOf yX12_growthOf, .methodLink RX12 303 yX12_growthOf, .instanceMethod yX12_growAll, .selects RX12 yX12_growAll yX12_growAll, .methodLink RX12 318 yX12_growAll, .code yX12_endAll cX12_endAll 2 none, .fieldLink RX12 306 "LeftArgumentsModel" "ended" "I", .instanceMethod yX12_endAll, .selects RX12 yX12_endAll yX12_endAll, .methodLink RX12 321 yX12_endAll, .code yX12_dropAll cX12_dropAll 3 none, .fieldLink RX12 309 "LeftArgumentsModel" "fell" "I", .fieldLink RX12 46 "LeftArgumentsModel" "rule" "[I", .code yX12_loadOf cX12_loadOf 4 (some .int), .instanceMethod yX12_loadOf, .selects RX12 yX12_loadOf yX12_loadOf, .methodLink RX12 312 yX12_loadOf, .code yX12_largestOn cX12_largestOn 4 (some .int), .instanceMethod yX12_largestOn, .selects RX12 yX12_largestOn yX12_largestOn, .methodLink RX12 315 yX12_largestOn, .instanceMethod yX12_dropAll, .selects RX12 yX12_dropAll yX12_dropAll, .methodLink RX12 324 yX12_dropAll, .instanceMethod yX12_live, .selects RX12 yX12_live yX12_live, .methodLink RX12 327 yX12_live, .code yX12_sizeNow cX12_sizeNow 2 (some .int), .instanceMethod yX12_sizeNow, .selects RX12 yX12_sizeNow yX12_sizeNow, .methodLink RX12 378 yX12_sizeNow, .instanceMethod yX12_oddsFrom, .selects RX12 yX12_oddsFrom yX12_oddsFrom, .methodLink RX12 449 yX12_oddsFrom, .code yX12_takeBack cX12_takeBack 3 none, .instanceMethod yX12_takeBack, .selects RX12 yX12_takeBack yX12_takeBack, .methodLink RX12 381 yX12_takeBack] : List Cond) ++ wsX120)
set_option maxRecDepth 20000 in
theorem g_X12_odds_0 : GoodIn q_X12_odds (wsV RX12 290 RX12 yX12_isThere q_X12_isThere) := goodIn_app (goodIn_r _ [13, 11, 12, 3] rfl (by decide +kernel)) (goodIn_ca (goodIn_r (.code yX12_isThere cX12_isThere 2 (some .boolean) :: [.code yX12_in cX12_in 3 (some .boolean), .initialized RX12, .static yX12_in, .methodLink RX12 217 yX12_in, .code yX12_of cX12_of 3 (some .int), .fieldLink RX12 52 "LeftArgumentsModel" "now" "[I", .instanceMethod yX12_of, .selects RX12 yX12_of yX12_of, .methodLink RX12 287 yX12_of]) [1, 2, 3, 4, 5, 6, 7, 8, 9, 10] rfl (by decide +kernel)) (goodIn_sub (fun _ h => List.mem_cons_of_mem _ (List.mem_append_right _ h)) gwX12))
set_option maxRecDepth 20000 in
theorem g_X12_odds_1 : GoodIn q_X12_odds (va_wsS RX12 217 yX12_in q_X12_in_16) := goodIn_app (goodIn_r _ [5, 4, 3] rfl (by decide +kernel)) (goodIn_r (.code yX12_in cX12_in 3 (some .boolean) :: []) [2] rfl (by decide +kernel))
set_option maxRecDepth 20000 in
theorem g_X12_odds_2 : GoodIn q_X12_odds (va_wsS RX12 217 yX12_in q_X12_in_13) := goodIn_app (goodIn_r _ [5, 4, 3] rfl (by decide +kernel)) (goodIn_r (.code yX12_in cX12_in 3 (some .boolean) :: []) [2] rfl (by decide +kernel))
set_option maxRecDepth 20000 in
theorem g_X12_odds_3 : GoodIn q_X12_odds (va_wsS RX12 217 yX12_in q_X12_in_17) := goodIn_app (goodIn_r _ [5, 4, 3] rfl (by decide +kernel)) (goodIn_r (.code yX12_in cX12_in 3 (some .boolean) :: []) [2] rfl (by decide +kernel))
set_option maxRecDepth 20000 in
theorem g_X12_odds_4 : GoodIn q_X12_odds (wsV RX12 449 RX12 yX12_oddsFrom q_X12_oddsFrom_6) := goodIn_app (goodIn_r _ [106, 104, 105, 3] rfl (by decide +kernel)) (goodIn_ca (goodIn_r (.code yX12_oddsFrom cX12_oddsFrom 10 (some .int) :: [.constantLong RX12 447 (100), .code yX12_putAside cX12_putAside 3 none, .fieldLink RX12 71 "LeftArgumentsModel" "aside" "[I", .fieldLink RX12 52 "LeftArgumentsModel" "now" "[I", .initialized RX12, .instanceMethod yX12_putAside, .selects RX12 yX12_putAside yX12_putAside, .methodLink RX12 375 yX12_putAside, .code yX12_set cX12_set 4 none, .instanceMethod yX12_set, .selects RX12 yX12_set yX12_set, .methodLink RX12 258 yX12_set, .code yX12_live cX12_live 2 none, .code yX12_growAll cX12_growAll 2 none, .code yX12_isThere cX12_isThere 2 (some .boolean), .code yX12_in cX12_in 3 (some .boolean), .static yX12_in, .methodLink RX12 217 yX12_in, .code yX12_of cX12_of 3 (some .int), .instanceMethod yX12_of, .selects RX12 yX12_of yX12_of, .methodLink RX12 287 yX12_of, .instanceMethod yX12_isThere, .selects RX12 yX12_isThere yX12_isThere, .methodLink RX12 290 yX12_isThere, .fieldLink RX12 65 "LeftArgumentsModel" "grows" "[I", .methodLink RX12 299 Lib.Math.min.name, .static Lib.Math.min.name, .initialized "java/lang/Math", .code Lib.Math.min.name Lib.Math.min.code 2 (some .int), .methodLink RX12 301 Lib.Math.max.name, .static Lib.Math.max.name, .code Lib.Math.max.name Lib.Math.max.code 2 (some .int), .code yX12_growthOf cX12_growthOf 4 (some .int), .code yX12_withOf cX12_withOf 4 (some .int), .instanceMethod yX12_withOf, .selects RX12 yX12_withOf yX12_withOf, .methodLink RX12 293 yX12_withOf, .fieldLink RX12 58 "LeftArgumentsModel" "holding" "I", .fieldLink RX12 34 "LeftArgumentsModel" "letters" "[I", .code yX12_worthOf cX12_worthOf 3 (some .int), .fieldLink RX12 22 "LeftArgumentsModel" "clauses" "[I", .fieldLink RX12 25 "LeftArgumentsModel" "testFrom" "[I", .fieldLink RX12 28 "LeftArgumentsModel" "sumFrom" "[I", .fieldLink RX12 31 "LeftArgumentsModel" "sumTo" "[I", .code yX12_workOut cX12_workOut 6 (some .int), .fieldLink RX12 37 "LeftArgumentsModel" "stack" "[I", .fieldLink RX12 13 "LeftArgumentsModel" "code" "[I", .fieldLink RX12 16 "LeftArgumentsModel" "value" "[I", .code yX12_worked cX12_worked 5 (some .int), .code yX12_bounded cX12_bounded 2 (some .int), .constantLong RX12 192 (-1000000), .constantLong RX12 194 (1000000), .methodLink RX12 196 Lib.MathLoose.min_long.x, .static Lib.MathLoose.min_long.x, .code Lib.MathLoose.min_long.x Lib.MathLoose.min_long.code 4 (some .long), .methodLink RX12 202 Lib.MathLoose.max_long.x, .static Lib.MathLoose.max_long.x, .code Lib.MathLoose.max_long.x Lib.MathLoose.max_long.code 4 (some .long), .static yX12_bounded, .methodLink RX12 205 yX12_bounded, .static yX12_worked, .methodLink RX12 209 yX12_worked, .instanceMethod yX12_workOut, .selects RX12 yX12_workOut yX12_workOut, .methodLink RX12 213 yX12_workOut, .instanceMethod yX12_worthOf, .selects RX12 yX12_worthOf yX12_worthOf, .methodLink RX12 296 yX12_worthOf, .instanceMethod yX12_growthOf, .selects RX12 yX12_growthOf yX12_growthOf, .methodLink RX12 303 yX12_growthOf, .instanceMethod yX12_growAll, .selects RX12 yX12_growAll yX12_growAll, .methodLink RX12 318 yX12_growAll, .code yX12_endAll cX12_endAll 2 none, .fieldLink RX12 306 "LeftArgumentsModel" "ended" "I", .instanceMethod yX12_endAll, .selects RX12 yX12_endAll yX12_endAll, .methodLink RX12 321 yX12_endAll, .code yX12_dropAll cX12_dropAll 3 none, .fieldLink RX12 309 "LeftArgumentsModel" "fell" "I", .fieldLink RX12 46 "LeftArgumentsModel" "rule" "[I", .code yX12_loadOf cX12_loadOf 4 (some .int), .instanceMethod yX12_loadOf, .selects RX12 yX12_loadOf yX12_loadOf, .methodLink RX12 312 yX12_loadOf, .code yX12_largestOn cX12_largestOn 4 (some .int), .instanceMethod yX12_largestOn, .selects RX12 yX12_largestOn yX12_largestOn, .methodLink RX12 315 yX12_largestOn, .instanceMethod yX12_dropAll, .selects RX12 yX12_dropAll yX12_dropAll, .methodLink RX12 324 yX12_dropAll, .instanceMethod yX12_live, .selects RX12 yX12_live yX12_live, .methodLink RX12 327 yX12_live, .code yX12_oddsFrom cX12_oddsFrom 10 (some .int), .code yX12_sizeNow cX12_sizeNow 2 (some .int), .instanceMethod yX12_sizeNow, .selects RX12 yX12_sizeNow yX12_sizeNow, .methodLink RX12 378 yX12_sizeNow, .instanceMethod yX12_oddsFrom, .selects RX12 yX12_oddsFrom yX12_oddsFrom, .methodLink RX12 449 yX12_oddsFrom, .code yX12_takeBack cX12_takeBack 3 none, .instanceMethod yX12_takeBack, .selects RX12 yX12_takeBack yX12_takeBack, .methodLink RX12 381 yX12_takeBack]) [15, 16, 17, 18, 7, 3, 19, 20, 21, 22, 23, 24, 25, 26, 27, 1, 2, 4, 5, 6, 8, 9, 10, 11, 12, 13, 28, 29, 30, 31, 32, 33, 34, 35, 36, 37, 38, 39, 40, 41, 42, 43, 44, 45, 46, 47, 48, 49, 50, 51, 52, 53, 54, 55, 56, 57, 58, 59, 60, 61, 62, 63, 64, 65, 66, 67, 68, 69, 70, 71, 72, 73, 74, 75, 76, 77, 78, 79, 80, 81, 82, 83, 84, 85, 86, 87, 88, 89, 90, 91, 92, 93, 94, 95, 96, 97, 98, 99, 15, 100, 101, 102, 103, 104, 105, 106, 107, 108, 109, 110] rfl (by decide +kernel)) (goodIn_sub (fun _ h => List.mem_cons_of_mem _ (List.mem_append_right _ h)) gwX12))
set_option maxHeartbeats 4000000 in
set_option maxRecDepth 100000 in
theorem k_X12_odds (l : Launch) (dC : Nat → ClassId) (dI : Nat → Nat → Nat) (h0 : Nat) (h1 : Nat) (h2 : Nat) (h3 : Nat) (h4 : Nat) (h5 : Nat) (h6 : Nat) (h7 : Nat) (h8 : Nat) (h9 : Nat) (h10 : Nat) (h11 : Nat) (h12 : Nat) (v0 : Int32) (r0 : Nat) (v1 : Int32) (v2 : Int32) (v3 : Int32) (v4 : Int32) (r1 : Nat) (v5 : Int32) (v6 : Int32) (r2 : Nat) (r3 : Nat) (v7 : Int32) (r4 : Nat) (v8 : Int32) (v9 : Int32) (r5 : Nat) (v10 : Int32) (v11 : Int32) (v12 : Int32) (v13 : Int32) (r6 : Nat) (v14 : Int32) (w15 : Int64) (v16 : Int32) (v17 : Int32) (r7 : Nat) (r8 : Nat) (r9 : Nat) (r10 : Nat) (r11 : Nat) (r12 : Nat) (v18 : Int32) (r13 : Nat) (r14 : Nat) (r15 : Nat) (v19 : Int32) (g0 : ClassId) (f20 : Nat → Int32) (g1 : ClassId) (f21 : Nat → Int32) (g2 : ClassId) (f22 : Nat → Int32) (g3 : ClassId) (f23 : Nat → Int32) (g4 : ClassId) (f24 : Nat → Int32) (g5 : ClassId) (f25 : Nat → Int32) (g6 : ClassId) (f26 : Nat → Int32) (g7 : ClassId) (f27 : Nat → Int32) (g8 : ClassId) (f28 : Nat → Int32) (g9 : ClassId) (f29 : Nat → Int32) (g10 : ClassId) (f30 : Nat → Int32) (g11 : ClassId) (f31 : Nat → Int32) (v32 : Int32) (v33 : Int32) (v34 : Int32) (v35 : Int32) (i_v1 : 0 ≤ v1.toInt ∧ v1.toInt ≤ 240) (i_v5 : 0 ≤ v5.toInt ∧ v5.toInt ≤ 4) (i_v6 : 0 ≤ v6.toInt ∧ v6.toInt ≤ 4) (i_v7 : 0 ≤ v7.toInt ∧ v7.toInt ≤ 8) (i_v8 : 0 ≤ v8.toInt ∧ v8.toInt ≤ 8) (i_v9 : 0 ≤ v9.toInt ∧ v9.toInt ≤ 1) (i_v10 : -1 ≤ v10.toInt ∧ v10.toInt ≤ 3) (i_v14 : 0 ≤ v14.toInt ∧ v14.toInt ≤ 40) (i_v18 : 0 ≤ v18.toInt ∧ v18.toInt ≤ 10) (i_v19 : 0 ≤ v19.toInt ∧ v19.toInt ≤ 1) (ia_f28 : (pm_RU f28)) (ia_f29 : (pm_NW f29)) (ia_f31 : (pm_AS f31)) (pp0 : pm_Held v10 f20 f21 f22 f23 f24 f25) (sz : Nat) : Met l yX12_odds q_X12_odds ({ frames := 14, cells := 0, slots := 0, locals := 348 }) (va_Pc [.ref h0, .int v32, .int v33, .int v34, .int v35] (fun U => U.heap.size = sz ∧ va_P (dC, dI) vwCl (wd_cfaca2a5 h0 v0 r0 v1 v2 v3 v4 h1 h2 r1 h3 h4 h5 h6 v5 v6 h7 h8 r2 r3 v7 h9 r4 v8 v9 h10 r5 v10 v11 h11 v12 v13 r6 v14 w15 h12 v16 v17 r7 r8 r9 r10 r11 r12 v18 r13 r14 r15 v19 h1 g0 f20 h2 g1 f21 h3 g2 f22 h4 g3 f23 h5 g4 f24 h6 g5 f25 h7 g6 f26 h8 g7 f27 h9 g8 f28 h10 g9 f29 h11 g10 f30 h12 g11 f31) U.heap ∧ va_K (dC, dI) vwCl [(g0, .int), (g1, .int), (g2, .int), (g3, .int), (g4, .int), (g5, .int), (g6, .int), (g7, .int), (g8, .int), (g9, .int), (g10, .int), (g11, .int)] U ∧ va_D (fun _ => True) (wd_cfaca2a5 h0 v0 r0 v1 v2 v3 v4 h1 h2 r1 h3 h4 h5 h6 v5 v6 h7 h8 r2 r3 v7 h9 r4 v8 v9 h10 r5 v10 v11 h11 v12 v13 r6 v14 w15 h12 v16 v17 r7 r8 r9 r10 r11 r12 v18 r13 r14 r15 v19 h1 g0 f20 h2 g1 f21 h3 g2 f22 h4 g3 f23 h5 g4 f24 h6 g5 f25 h7 g6 f26 h8 g7 f27 h9 g8 f28 h10 g9 f29 h11 g10 f30 h12 g11 f31))) (va_Qi (fun (r : Int32) (r9 : Int32) => r9 = r) (fun (r : Int32) (t : State) => (∃ (o_h0_29 : Int32) (o_h0_30 : Int32) (o_h7 : Nat → Int32) (o_h8 : Nat → Int32) (o_h10 : Nat → Int32) (o_h11 : Nat → Int32) (o_h12 : Nat → Int32), (pm_NW o_h10) ∧ (pm_AS o_h12) ∧ va_P (dC, dI) vwCl (wd_cfaca2a5 h0 v0 r0 v1 v2 v3 v4 h1 h2 r1 h3 h4 h5 h6 v5 v6 h7 h8 r2 r3 v7 h9 r4 v8 v9 h10 r5 v10 v11 h11 o_h0_29 o_h0_30 r6 v14 w15 h12 v16 v17 r7 r8 r9 r10 r11 r12 v18 r13 r14 r15 v19 h1 g0 f20 h2 g1 f21 h3 g2 f22 h4 g3 f23 h5 g4 f24 h6 g5 f25 h7 g6 o_h7 h8 g7 o_h8 h9 g8 f28 h10 g9 o_h10 h11 g10 o_h11 h12 g11 o_h12) t.heap ∧ va_K (dC, dI) vwCl [] t ∧ va_D (va_A (wd_cfaca2a5 h0 v0 r0 v1 v2 v3 v4 h1 h2 r1 h3 h4 h5 h6 v5 v6 h7 h8 r2 r3 v7 h9 r4 v8 v9 h10 r5 v10 v11 h11 v12 v13 r6 v14 w15 h12 v16 v17 r7 r8 r9 r10 r11 r12 v18 r13 r14 r15 v19 h1 g0 f20 h2 g1 f21 h3 g2 f22 h4 g3 f23 h5 g4 f24 h6 g5 f25 h7 g6 f26 h8 g7 f27 h9 g8 f28 h10 g9 f29 h11 g10 f30 h12 g11 f31) sz) (wd_cfaca2a5 h0 v0 r0 v1 v2 v3 v4 h1 h2 r1 h3 h4 h5 h6 v5 v6 h7 h8 r2 r3 v7 h9 r4 v8 v9 h10 r5 v10 v11 h11 o_h0_29 o_h0_30 r6 v14 w15 h12 v16 v17 r7 r8 r9 r10 r11 r12 v18 r13 r14 r15 v19 h1 g0 f20 h2 g1 f21 h3 g2 f22 h4 g3 f23 h5 g4 f24 h6 g5 f25 h7 g6 o_h7 h8 g7 o_h8 h9 g8 f28 h10 g9 o_h10 h11 g10 o_h11 h12 g11 o_h12))) (va_A (wd_cfaca2a5 h0 v0 r0 v1 v2 v3 v4 h1 h2 r1 h3 h4 h5 h6 v5 v6 h7 h8 r2 r3 v7 h9 r4 v8 v9 h10 r5 v10 v11 h11 v12 v13 r6 v14 w15 h12 v16 v17 r7 r8 r9 r10 r11 r12 v18 r13 r14 r15 v19 h1 g0 f20 h2 g1 f21 h3 g2 f22 h4 g3 f23 h5 g4 f24 h6 g5 f25 h7 g6 f26 h8 g7 f27 h9 g8 f28 h10 g9 f29 h11 g10 f30 h12 g11 f31) sz)) 0 0 (va_A (wd_cfaca2a5 h0 v0 r0 v1 v2 v3 v4 h1 h2 r1 h3 h4 h5 h6 v5 v6 h7 h8 r2 r3 v7 h9 r4 v8 v9 h10 r5 v10 v11 h11 v12 v13 r6 v14 w15 h12 v16 v17 r7 r8 r9 r10 r11 r12 v18 r13 r14 r15 v19 h1 g0 f20 h2 g1 f21 h3 g2 f22 h4 g3 f23 h5 g4 f24 h6 g5 f25 h7 g6 f26 h8 g7 f27 h9 g8 f28 h10 g9 f29 h11 g10 f30 h12 g11 f31) sz) := by
  refine Met.ofW (cc := cX12_odds) (maxL := 5) (ret := (some .int)) (by decide) rfl ?_
  intro p e s m args below meth c s₁ B hml hv
  obtain ⟨i_v1a, i_v1b⟩ := i_v1
  obtain ⟨i_v5a, i_v5b⟩ := i_v5
  obtain ⟨i_v6a, i_v6b⟩ := i_v6
  obtain ⟨i_v7a, i_v7b⟩ := i_v7
  obtain ⟨i_v8a, i_v8b⟩ := i_v8
  obtain ⟨i_v9a, i_v9b⟩ := i_v9
  obtain ⟨i_v10a, i_v10b⟩ := i_v10
  obtain ⟨i_v14a, i_v14b⟩ := i_v14
  obtain ⟨i_v18a, i_v18b⟩ := i_v18
  obtain ⟨i_v19a, i_v19b⟩ := i_v19
  obtain ⟨rfl, hsz, hP, hK, hD0⟩ := hv
  have hx := B.exec
  have hb := B.bytes
  have hr := B.returns
  have hts := atoms_spec (ws := q_X12_odds) B.pre
  have hown : s.vm.findClass RX12 = some m.cls := findClass_of_methodNamed B.named
  have hlocks := B.notSynchronized
  subst hsz
  have hD := hD0.self (sz := s.heap.size)
  generalize hAe : va_A (wd_cfaca2a5 h0 v0 r0 v1 v2 v3 v4 h1 h2 r1 h3 h4 h5 h6 v5 v6 h7 h8 r2 r3 v7 h9 r4 v8 v9 h10 r5 v10 v11 h11 v12 v13 r6 v14 w15 h12 v16 v17 r7 r8 r9 r10 r11 r12 v18 r13 r14 r15 v19 h1 g0 f20 h2 g1 f21 h3 g2 f22 h4 g3 f23 h5 g4 f24 h6 g5 f25 h7 g6 f26 h8 g7 f27 h9 g8 f28 h10 g9 f29 h11 g10 f30 h12 g11 f31) s.heap.size = A at hD ⊢
  have hA : ∀ q : Nat, s.heap.size ≤ q → A q := fun q h => by rw [← hAe]; exact Or.inr h
  have hS : va_S A s.heap s.heap [] := va_S.rf
  generalize hQ : (MQ below _ _ s 0 0 A) = Q
  have hl := lv_entry ([.ref h0, .int v32, .int v33, .int v34, .int v35]) (n := 5) (Nat.le_of_ble_eq_true rfl)
  rw [lg_entry_eq]
  generalize (lg_sl ([.ref h0, .int v32, .int v33, .int v34, .int v35]) ++ List.replicate (5 - (lg_sl ([.ref h0, .int v32, .int v33, .int v34, .int v35])).length) Slot.unset).toArray = ls at hl ⊢
  have hl : lv_has ls 5 [(0, .ref h0), (1, .int v32), (2, .int v33), (3, .int v34), (4, .int v35)] := hl
  obtain ⟨H, hH⟩ : ∃ H : Heap, H = s.heap := ⟨_, rfl⟩
  obtain ⟨locs, hlocs⟩ : ∃ y : List Loc, y = [] := ⟨_, rfl⟩
  have hS : va_S A s.heap H locs := by rw [hH, hlocs]; exact va_S.rf
  have hP : va_P (dC, dI) vwCl (wd_cfaca2a5 h0 v0 r0 v1 v2 v3 v4 h1 h2 r1 h3 h4 h5 h6 v5 v6 h7 h8 r2 r3 v7 h9 r4 v8 v9 h10 r5 v10 v11 h11 v12 v13 r6 v14 w15 h12 v16 v17 r7 r8 r9 r10 r11 r12 v18 r13 r14 r15 v19 h1 g0 f20 h2 g1 f21 h3 g2 f22 h4 g3 f23 h5 g4 f24 h6 g5 f25 h7 g6 f26 h8 g7 f27 h9 g8 f28 h10 g9 f29 h11 g10 f30 h12 g11 f31) H := by rw [hH]; exact hP
  rw [← hH, ← hlocs]
  refine lv_aload_n hx hb dX12_odds_0 rfl (lv_at hl 0 rfl) ?_
  refine lv_iload_n hx hb dX12_odds_1 rfl (lv_at hl 1 rfl) ?_
  have hPc := hP.sub (ws' := (wd_5013416a h0 v0 r0 v1 v2 v3 v4 h1 h2 r1 h3 h4 h5 h6 v5 v6 h7 h8 r2 r3 v7 h9 r4 v8 v9 h10 r5 v10 v11 h11 v12 v13 r6 v14 w15 h12 v16 v17 r7 r8 r9 r10 r11 r12 v18 r13 r14 r15 v19 h10 g9 f29)) [0, 10] rfl
  have hDc := hD.sub (ws' := (wd_5013416a h0 v0 r0 v1 v2 v3 v4 h1 h2 r1 h3 h4 h5 h6 v5 v6 h7 h8 r2 r3 v7 h9 r4 v8 v9 h10 r5 v10 v11 h11 v12 v13 r6 v14 w15 h12 v16 v17 r7 r8 r9 r10 r11 r12 v18 r13 r14 r15 v19 h10 g9 f29)) [0, 10] (by decide) rfl
  have hKc := hK.sub (tys' := [(g9, .int)]) [9] rfl
  have hFc := va_free (wc := (wd_5013416a h0 v0 r0 v1 v2 v3 v4 h1 h2 r1 h3 h4 h5 h6 v5 v6 h7 h8 r2 r3 v7 h9 r4 v8 v9 h10 r5 v10 v11 h11 v12 v13 r6 v14 w15 h12 v16 v17 r7 r8 r9 r10 r11 r12 v18 r13 r14 r15 v19 h10 g9 f29)) hD hS hA [0, 10] rfl
  refine va_calli (va_runV (As := [.int v32]) (rest := []) ⟨hx, hb, hml, hown, hts⟩ (k_X12_isThere l dC dI h0 h10 v0 r0 v1 v2 v3 v4 h1 h2 r1 h3 h4 h5 h6 v5 v6 h7 h8 r2 r3 v7 h9 r4 v8 v9 r5 v10 v11 h11 v12 v13 r6 v14 w15 h12 v16 v17 r7 r8 r9 r10 r11 r12 v18 r13 r14 r15 v19 g9 f29 v32 ⟨i_v1a, i_v1b⟩ ⟨i_v5a, i_v5b⟩ ⟨i_v6a, i_v6b⟩ ⟨i_v7a, i_v7b⟩ ⟨i_v8a, i_v8b⟩ ⟨i_v9a, i_v9b⟩ ⟨i_v10a, i_v10b⟩ ⟨i_v14a, i_v14b⟩ ⟨i_v18a, i_v18b⟩ ⟨i_v19a, i_v19b⟩ ia_f29.1 H.size) (cwV 1 hts g_X12_odds_0 rfl rfl rfl (by decide +kernel) ⟨Nat.le_of_ble_eq_true rfl, Nat.le_of_ble_eq_true rfl⟩) (pv_PV12 hPc hKc hDc (q0 := 0) rfl) rfl rfl hl.1 rfl (lv_room (Nat.le_of_ble_eq_true rfl)) dX12_odds_2 ⟨Nat.le_of_ble_eq_true rfl, Nat.le_of_ble_eq_true rfl⟩) hS (fun q _ h => hFc q h) hFc (fun ra1 u t H1 locs ht hvm hwra1 hB hz1 hk1 hS => ?_)
  try rw [hwra1] at hB
  obtain ⟨pt0_ra1, pt1_ra1, pt2_ra1, pt3_ra1, pt4_ra1, pt5_ra1, hP1, hK1, hD1⟩ := hB
  rw [ht] at hP1
  obtain ⟨hP2, hD2⟩ := va_join (wr := (wd_e8ff9da7 h1 g0 f20 h2 g1 f21 h3 g2 f22 h4 g3 f23 h5 g4 f24 h6 g5 f25 h7 g6 f26 h8 g7 f27 h9 g8 f28 h11 g10 f30 h12 g11 f31)) (w1 := (wd_5013416a h0 v0 r0 v1 v2 v3 v4 h1 h2 r1 h3 h4 h5 h6 v5 v6 h7 h8 r2 r3 v7 h9 r4 v8 v9 h10 r5 v10 v11 h11 v12 v13 r6 v14 w15 h12 v16 v17 r7 r8 r9 r10 r11 r12 v18 r13 r14 r15 v19 h10 g9 f29)) hP hD [0, 10] [1, 2, 3, 4, 5, 6, 7, 8, 9, 11, 12] rfl rfl (by decide +kernel) (by decide +kernel) hk1 hFc hP1 hD1
  clear hP hD hPc hDc hKc hFc hP1 hK1 hD1 hk1 hz1
  generalize H1 = H at hP2 hS ⊢
  have hP := hP2.sub (ws' := (wd_cfaca2a5 h0 v0 r0 v1 v2 v3 v4 h1 h2 r1 h3 h4 h5 h6 v5 v6 h7 h8 r2 r3 v7 h9 r4 v8 v9 h10 r5 v10 v11 h11 v12 v13 r6 v14 w15 h12 v16 v17 r7 r8 r9 r10 r11 r12 v18 r13 r14 r15 v19 h1 g0 f20 h2 g1 f21 h3 g2 f22 h4 g3 f23 h5 g4 f24 h6 g5 f25 h7 g6 f26 h8 g7 f27 h9 g8 f28 h10 g9 f29 h11 g10 f30 h12 g11 f31)) [11, 0, 1, 2, 3, 4, 5, 6, 7, 8, 12, 9, 10] rfl
  have hD := hD2.sub (ws' := (wd_cfaca2a5 h0 v0 r0 v1 v2 v3 v4 h1 h2 r1 h3 h4 h5 h6 v5 v6 h7 h8 r2 r3 v7 h9 r4 v8 v9 h10 r5 v10 v11 h11 v12 v13 r6 v14 w15 h12 v16 v17 r7 r8 r9 r10 r11 r12 v18 r13 r14 r15 v19 h1 g0 f20 h2 g1 f21 h3 g2 f22 h4 g3 f23 h5 g4 f24 h6 g5 f25 h7 g6 f26 h8 g7 f27 h9 g8 f28 h10 g9 f29 h11 g10 f30 h12 g11 f31)) [11, 0, 1, 2, 3, 4, 5, 6, 7, 8, 12, 9, 10] (by decide +kernel) rfl
  clear hP2 hD2
  refine lv_if_eq (tgt := 39) hx hb dX12_odds_5 (by decide) (fun c2 => ?_) (fun c2 => ?_)
  · skip
    have fc2 : ra1.toInt = 0 := congrArg Int32.toInt c2
    refine lv_iconst (v := (-1)) hx hb dX12_odds_39 (by decide) ?_
    subst hQ
    have hP9 := hP.sub (ws' := (wd_cfaca2a5 h0 v0 r0 v1 v2 v3 v4 h1 h2 r1 h3 h4 h5 h6 v5 v6 h7 h8 r2 r3 v7 h9 r4 v8 v9 h10 r5 v10 v11 h11 v12 v13 r6 v14 w15 h12 v16 v17 r7 r8 r9 r10 r11 r12 v18 r13 r14 r15 v19 h1 g0 f20 h2 g1 f21 h3 g2 f22 h4 g3 f23 h5 g4 f24 h6 g5 f25 h7 g6 f26 h8 g7 f27 h9 g8 f28 h10 g9 f29 h11 g10 f30 h12 g11 f31)) [0, 1, 2, 3, 4, 5, 6, 7, 8, 9, 10, 11, 12] rfl
    have hD9 := hD.sub (ws' := (wd_cfaca2a5 h0 v0 r0 v1 v2 v3 v4 h1 h2 r1 h3 h4 h5 h6 v5 v6 h7 h8 r2 r3 v7 h9 r4 v8 v9 h10 r5 v10 v11 h11 v12 v13 r6 v14 w15 h12 v16 v17 r7 r8 r9 r10 r11 r12 v18 r13 r14 r15 v19 h1 g0 f20 h2 g1 f21 h3 g2 f22 h4 g3 f23 h5 g4 f24 h6 g5 f25 h7 g6 f26 h8 g7 f27 h9 g8 f28 h10 g9 f29 h11 g10 f30 h12 g11 f31)) [0, 1, 2, 3, 4, 5, 6, 7, 8, 9, 10, 11, 12] (by decide +kernel) rfl
    have hK9 := hK.sub (tys' := []) [] rfl
    exact W.iret (v := (-1)) hx hb hr (fun t ht hW => ⟨⟨(-1), (-1), rfl, rfl, ⟨v12, v13, f26, f27, f29, f30, f31, ia_f29, ia_f31, by rw [ht]; exact hP9, va_K.moved hW.alike hK9, hD9⟩⟩, hS.F ht⟩) hS.2.2 dX12_odds_40
  · skip
    have fc2 : ¬ (ra1.toInt = 0) := fun h9 => c2 (Int32.toInt_inj.mp h9)
    have q1pt4_ra1 := pt4_ra1 (by omega)
    refine lv_iload_n hx hb dX12_odds_8 rfl (lv_at hl 2 rfl) ?_
    refine lv_iconst (v := 0) hx hb dX12_odds_9 (by decide) ?_
    refine lv_bipush (v := 6) hx hb dX12_odds_10 (by decide) ?_
    have hPc := hP.sub (ws' := []) [] rfl
    have hDc := hD.sub (ws' := []) [] (by decide) rfl
    have hKc := hK.sub (tys' := []) [] rfl
    have hFc := va_free (wc := []) hD hS hA [] rfl
    refine va_calli (va_runS (As := [.int v33, .int 0, .int 6]) (rest := []) ⟨hx, hb, hml, hown, hts⟩ (k_X12_in_16 l dC dI v33  H.size) (va_cwS 3 hts g_X12_odds_1 rfl rfl rfl (by decide +kernel) ⟨Nat.le_of_ble_eq_true rfl, Nat.le_of_ble_eq_true rfl⟩) (pv_PS hPc hKc hDc) rfl rfl hl.1 rfl (lv_room (Nat.le_of_ble_eq_true rfl)) dX12_odds_12 ⟨Nat.le_of_ble_eq_true rfl, Nat.le_of_ble_eq_true rfl⟩) hS (fun q _ h => hFc q h) hFc (fun ra3 u t H1 locs ht hvm hwra3 hB hz1 hk1 hS => ?_)
    try rw [hwra3] at hB
    obtain ⟨pt0_ra3, pt1_ra3, pt2_ra3, pt3_ra3, pt4_ra3, hP1, hK1, hD1⟩ := hB
    rw [ht] at hP1
    obtain ⟨hP2, hD2⟩ := va_join (wr := (wd_cfaca2a5 h0 v0 r0 v1 v2 v3 v4 h1 h2 r1 h3 h4 h5 h6 v5 v6 h7 h8 r2 r3 v7 h9 r4 v8 v9 h10 r5 v10 v11 h11 v12 v13 r6 v14 w15 h12 v16 v17 r7 r8 r9 r10 r11 r12 v18 r13 r14 r15 v19 h1 g0 f20 h2 g1 f21 h3 g2 f22 h4 g3 f23 h5 g4 f24 h6 g5 f25 h7 g6 f26 h8 g7 f27 h9 g8 f28 h10 g9 f29 h11 g10 f30 h12 g11 f31)) (w1 := []) hP hD [] [0, 1, 2, 3, 4, 5, 6, 7, 8, 9, 10, 11, 12] rfl rfl (by decide +kernel) (by decide +kernel) hk1 hFc hP1 hD1
    clear hP hD hPc hDc hKc hFc hP1 hK1 hD1 hk1 hz1
    generalize H1 = H at hP2 hS ⊢
    have hP : va_P (dC, dI) vwCl (wd_cfaca2a5 h0 v0 r0 v1 v2 v3 v4 h1 h2 r1 h3 h4 h5 h6 v5 v6 h7 h8 r2 r3 v7 h9 r4 v8 v9 h10 r5 v10 v11 h11 v12 v13 r6 v14 w15 h12 v16 v17 r7 r8 r9 r10 r11 r12 v18 r13 r14 r15 v19 h1 g0 f20 h2 g1 f21 h3 g2 f22 h4 g3 f23 h5 g4 f24 h6 g5 f25 h7 g6 f26 h8 g7 f27 h9 g8 f28 h10 g9 f29 h11 g10 f30 h12 g11 f31) H := hP2
    have hD : va_D A (wd_cfaca2a5 h0 v0 r0 v1 v2 v3 v4 h1 h2 r1 h3 h4 h5 h6 v5 v6 h7 h8 r2 r3 v7 h9 r4 v8 v9 h10 r5 v10 v11 h11 v12 v13 r6 v14 w15 h12 v16 v17 r7 r8 r9 r10 r11 r12 v18 r13 r14 r15 v19 h1 g0 f20 h2 g1 f21 h3 g2 f22 h4 g3 f23 h5 g4 f24 h6 g5 f25 h7 g6 f26 h8 g7 f27 h9 g8 f28 h10 g9 f29 h11 g10 f30 h12 g11 f31) := hD2
    clear hP2 hD2
    refine lv_if_eq (tgt := 39) hx hb dX12_odds_15 (by decide) (fun c4 => ?_) (fun c4 => ?_)
    · skip
      have fc4 : ra3.toInt = 0 := congrArg Int32.toInt c4
      refine lv_iconst (v := (-1)) hx hb dX12_odds_39 (by decide) ?_
      subst hQ
      have hP9 := hP.sub (ws' := (wd_cfaca2a5 h0 v0 r0 v1 v2 v3 v4 h1 h2 r1 h3 h4 h5 h6 v5 v6 h7 h8 r2 r3 v7 h9 r4 v8 v9 h10 r5 v10 v11 h11 v12 v13 r6 v14 w15 h12 v16 v17 r7 r8 r9 r10 r11 r12 v18 r13 r14 r15 v19 h1 g0 f20 h2 g1 f21 h3 g2 f22 h4 g3 f23 h5 g4 f24 h6 g5 f25 h7 g6 f26 h8 g7 f27 h9 g8 f28 h10 g9 f29 h11 g10 f30 h12 g11 f31)) [0, 1, 2, 3, 4, 5, 6, 7, 8, 9, 10, 11, 12] rfl
      have hD9 := hD.sub (ws' := (wd_cfaca2a5 h0 v0 r0 v1 v2 v3 v4 h1 h2 r1 h3 h4 h5 h6 v5 v6 h7 h8 r2 r3 v7 h9 r4 v8 v9 h10 r5 v10 v11 h11 v12 v13 r6 v14 w15 h12 v16 v17 r7 r8 r9 r10 r11 r12 v18 r13 r14 r15 v19 h1 g0 f20 h2 g1 f21 h3 g2 f22 h4 g3 f23 h5 g4 f24 h6 g5 f25 h7 g6 f26 h8 g7 f27 h9 g8 f28 h10 g9 f29 h11 g10 f30 h12 g11 f31)) [0, 1, 2, 3, 4, 5, 6, 7, 8, 9, 10, 11, 12] (by decide +kernel) rfl
      have hK9 := hK.sub (tys' := []) [] rfl
      exact W.iret (v := (-1)) hx hb hr (fun t ht hW => ⟨⟨(-1), (-1), rfl, rfl, ⟨v12, v13, f26, f27, f29, f30, f31, ia_f29, ia_f31, by rw [ht]; exact hP9, va_K.moved hW.alike hK9, hD9⟩⟩, hS.F ht⟩) hS.2.2 dX12_odds_40
    · skip
      have fc4 : ¬ (ra3.toInt = 0) := fun h9 => c4 (Int32.toInt_inj.mp h9)
      refine lv_iload_n hx hb dX12_odds_18 rfl (lv_at hl 3 rfl) ?_
      refine lv_iconst (v := 0) hx hb dX12_odds_19 (by decide) ?_
      refine lv_bipush (v := 99) hx hb dX12_odds_20 (by decide) ?_
      have hPc := hP.sub (ws' := []) [] rfl
      have hDc := hD.sub (ws' := []) [] (by decide) rfl
      have hKc := hK.sub (tys' := []) [] rfl
      have hFc := va_free (wc := []) hD hS hA [] rfl
      refine va_calli (va_runS (As := [.int v34, .int 0, .int 99]) (rest := []) ⟨hx, hb, hml, hown, hts⟩ (k_X12_in_13 l dC dI v34  H.size) (va_cwS 3 hts g_X12_odds_2 rfl rfl rfl (by decide +kernel) ⟨Nat.le_of_ble_eq_true rfl, Nat.le_of_ble_eq_true rfl⟩) (pv_PS hPc hKc hDc) rfl rfl hl.1 rfl (lv_room (Nat.le_of_ble_eq_true rfl)) dX12_odds_22 ⟨Nat.le_of_ble_eq_true rfl, Nat.le_of_ble_eq_true rfl⟩) hS (fun q _ h => hFc q h) hFc (fun ra5 u t H1 locs ht hvm hwra5 hB hz1 hk1 hS => ?_)
      try rw [hwra5] at hB
      obtain ⟨pt0_ra5, pt1_ra5, pt2_ra5, pt3_ra5, pt4_ra5, hP1, hK1, hD1⟩ := hB
      rw [ht] at hP1
      obtain ⟨hP2, hD2⟩ := va_join (wr := (wd_cfaca2a5 h0 v0 r0 v1 v2 v3 v4 h1 h2 r1 h3 h4 h5 h6 v5 v6 h7 h8 r2 r3 v7 h9 r4 v8 v9 h10 r5 v10 v11 h11 v12 v13 r6 v14 w15 h12 v16 v17 r7 r8 r9 r10 r11 r12 v18 r13 r14 r15 v19 h1 g0 f20 h2 g1 f21 h3 g2 f22 h4 g3 f23 h5 g4 f24 h6 g5 f25 h7 g6 f26 h8 g7 f27 h9 g8 f28 h10 g9 f29 h11 g10 f30 h12 g11 f31)) (w1 := []) hP hD [] [0, 1, 2, 3, 4, 5, 6, 7, 8, 9, 10, 11, 12] rfl rfl (by decide +kernel) (by decide +kernel) hk1 hFc hP1 hD1
      clear hP hD hPc hDc hKc hFc hP1 hK1 hD1 hk1 hz1
      generalize H1 = H at hP2 hS ⊢
      have hP : va_P (dC, dI) vwCl (wd_cfaca2a5 h0 v0 r0 v1 v2 v3 v4 h1 h2 r1 h3 h4 h5 h6 v5 v6 h7 h8 r2 r3 v7 h9 r4 v8 v9 h10 r5 v10 v11 h11 v12 v13 r6 v14 w15 h12 v16 v17 r7 r8 r9 r10 r11 r12 v18 r13 r14 r15 v19 h1 g0 f20 h2 g1 f21 h3 g2 f22 h4 g3 f23 h5 g4 f24 h6 g5 f25 h7 g6 f26 h8 g7 f27 h9 g8 f28 h10 g9 f29 h11 g10 f30 h12 g11 f31) H := hP2
      have hD : va_D A (wd_cfaca2a5 h0 v0 r0 v1 v2 v3 v4 h1 h2 r1 h3 h4 h5 h6 v5 v6 h7 h8 r2 r3 v7 h9 r4 v8 v9 h10 r5 v10 v11 h11 v12 v13 r6 v14 w15 h12 v16 v17 r7 r8 r9 r10 r11 r12 v18 r13 r14 r15 v19 h1 g0 f20 h2 g1 f21 h3 g2 f22 h4 g3 f23 h5 g4 f24 h6 g5 f25 h7 g6 f26 h8 g7 f27 h9 g8 f28 h10 g9 f29 h11 g10 f30 h12 g11 f31) := hD2
      clear hP2 hD2
      refine lv_if_eq (tgt := 39) hx hb dX12_odds_25 (by decide) (fun c6 => ?_) (fun c6 => ?_)
      · skip
        have fc6 : ra5.toInt = 0 := congrArg Int32.toInt c6
        refine lv_iconst (v := (-1)) hx hb dX12_odds_39 (by decide) ?_
        subst hQ
        have hP9 := hP.sub (ws' := (wd_cfaca2a5 h0 v0 r0 v1 v2 v3 v4 h1 h2 r1 h3 h4 h5 h6 v5 v6 h7 h8 r2 r3 v7 h9 r4 v8 v9 h10 r5 v10 v11 h11 v12 v13 r6 v14 w15 h12 v16 v17 r7 r8 r9 r10 r11 r12 v18 r13 r14 r15 v19 h1 g0 f20 h2 g1 f21 h3 g2 f22 h4 g3 f23 h5 g4 f24 h6 g5 f25 h7 g6 f26 h8 g7 f27 h9 g8 f28 h10 g9 f29 h11 g10 f30 h12 g11 f31)) [0, 1, 2, 3, 4, 5, 6, 7, 8, 9, 10, 11, 12] rfl
        have hD9 := hD.sub (ws' := (wd_cfaca2a5 h0 v0 r0 v1 v2 v3 v4 h1 h2 r1 h3 h4 h5 h6 v5 v6 h7 h8 r2 r3 v7 h9 r4 v8 v9 h10 r5 v10 v11 h11 v12 v13 r6 v14 w15 h12 v16 v17 r7 r8 r9 r10 r11 r12 v18 r13 r14 r15 v19 h1 g0 f20 h2 g1 f21 h3 g2 f22 h4 g3 f23 h5 g4 f24 h6 g5 f25 h7 g6 f26 h8 g7 f27 h9 g8 f28 h10 g9 f29 h11 g10 f30 h12 g11 f31)) [0, 1, 2, 3, 4, 5, 6, 7, 8, 9, 10, 11, 12] (by decide +kernel) rfl
        have hK9 := hK.sub (tys' := []) [] rfl
        exact W.iret (v := (-1)) hx hb hr (fun t ht hW => ⟨⟨(-1), (-1), rfl, rfl, ⟨v12, v13, f26, f27, f29, f30, f31, ia_f29, ia_f31, by rw [ht]; exact hP9, va_K.moved hW.alike hK9, hD9⟩⟩, hS.F ht⟩) hS.2.2 dX12_odds_40
      · skip
        have fc6 : ¬ (ra5.toInt = 0) := fun h9 => c6 (Int32.toInt_inj.mp h9)
        refine lv_iload hx hb dX12_odds_28 (lv_at hl 4 rfl) ?_
        refine lv_iconst (v := 0) hx hb dX12_odds_30 (by decide) ?_
        refine lv_bipush (v := 100) hx hb dX12_odds_31 (by decide) ?_
        have hPc := hP.sub (ws' := []) [] rfl
        have hDc := hD.sub (ws' := []) [] (by decide) rfl
        have hKc := hK.sub (tys' := []) [] rfl
        have hFc := va_free (wc := []) hD hS hA [] rfl
        refine va_calli (va_runS (As := [.int v35, .int 0, .int 100]) (rest := []) ⟨hx, hb, hml, hown, hts⟩ (k_X12_in_17 l dC dI v35  H.size) (va_cwS 3 hts g_X12_odds_3 rfl rfl rfl (by decide +kernel) ⟨Nat.le_of_ble_eq_true rfl, Nat.le_of_ble_eq_true rfl⟩) (pv_PS hPc hKc hDc) rfl rfl hl.1 rfl (lv_room (Nat.le_of_ble_eq_true rfl)) dX12_odds_33 ⟨Nat.le_of_ble_eq_true rfl, Nat.le_of_ble_eq_true rfl⟩) hS (fun q _ h => hFc q h) hFc (fun ra7 u t H1 locs ht hvm hwra7 hB hz1 hk1 hS => ?_)
        try rw [hwra7] at hB
        obtain ⟨pt0_ra7, pt1_ra7, pt2_ra7, pt3_ra7, pt4_ra7, hP1, hK1, hD1⟩ := hB
        rw [ht] at hP1
        obtain ⟨hP2, hD2⟩ := va_join (wr := (wd_cfaca2a5 h0 v0 r0 v1 v2 v3 v4 h1 h2 r1 h3 h4 h5 h6 v5 v6 h7 h8 r2 r3 v7 h9 r4 v8 v9 h10 r5 v10 v11 h11 v12 v13 r6 v14 w15 h12 v16 v17 r7 r8 r9 r10 r11 r12 v18 r13 r14 r15 v19 h1 g0 f20 h2 g1 f21 h3 g2 f22 h4 g3 f23 h5 g4 f24 h6 g5 f25 h7 g6 f26 h8 g7 f27 h9 g8 f28 h10 g9 f29 h11 g10 f30 h12 g11 f31)) (w1 := []) hP hD [] [0, 1, 2, 3, 4, 5, 6, 7, 8, 9, 10, 11, 12] rfl rfl (by decide +kernel) (by decide +kernel) hk1 hFc hP1 hD1
        clear hP hD hPc hDc hKc hFc hP1 hK1 hD1 hk1 hz1
        generalize H1 = H at hP2 hS ⊢
        have hP : va_P (dC, dI) vwCl (wd_cfaca2a5 h0 v0 r0 v1 v2 v3 v4 h1 h2 r1 h3 h4 h5 h6 v5 v6 h7 h8 r2 r3 v7 h9 r4 v8 v9 h10 r5 v10 v11 h11 v12 v13 r6 v14 w15 h12 v16 v17 r7 r8 r9 r10 r11 r12 v18 r13 r14 r15 v19 h1 g0 f20 h2 g1 f21 h3 g2 f22 h4 g3 f23 h5 g4 f24 h6 g5 f25 h7 g6 f26 h8 g7 f27 h9 g8 f28 h10 g9 f29 h11 g10 f30 h12 g11 f31) H := hP2
        have hD : va_D A (wd_cfaca2a5 h0 v0 r0 v1 v2 v3 v4 h1 h2 r1 h3 h4 h5 h6 v5 v6 h7 h8 r2 r3 v7 h9 r4 v8 v9 h10 r5 v10 v11 h11 v12 v13 r6 v14 w15 h12 v16 v17 r7 r8 r9 r10 r11 r12 v18 r13 r14 r15 v19 h1 g0 f20 h2 g1 f21 h3 g2 f22 h4 g3 f23 h5 g4 f24 h6 g5 f25 h7 g6 f26 h8 g7 f27 h9 g8 f28 h10 g9 f29 h11 g10 f30 h12 g11 f31) := hD2
        clear hP2 hD2
        refine lv_if_ne (tgt := 41) hx hb dX12_odds_36 (by decide) (fun c8 => ?_) (fun c8 => ?_)
        · skip
          have fc8 : ¬ (ra7.toInt = 0) := fun h9 => c8 (Int32.toInt_inj.mp h9)
          refine lv_aload_n hx hb dX12_odds_41 rfl (lv_at hl 0 rfl) ?_
          refine lv_iconst (v := 0) hx hb dX12_odds_42 (by decide) ?_
          refine lv_iload_n hx hb dX12_odds_43 rfl (lv_at hl 1 rfl) ?_
          refine lv_iload_n hx hb dX12_odds_44 rfl (lv_at hl 3 rfl) ?_
          refine lv_iload_n hx hb dX12_odds_45 rfl (lv_at hl 2 rfl) ?_
          refine lv_iload hx hb dX12_odds_46 (lv_at hl 4 rfl) ?_
          refine lv_ldcw (v := 1000000000) hx hb hown (hts (.constant RX12 452 (1000000000)) (List.mem_cons_of_mem _ (List.mem_append_left _ (List.mem_of_getElem? (i := 13) rfl)))) dX12_odds_48 ?_
          have hPc := hP.sub (ws' := (wd_cfaca2a5 h0 v0 r0 v1 v2 v3 v4 h1 h2 r1 h3 h4 h5 h6 v5 v6 h7 h8 r2 r3 v7 h9 r4 v8 v9 h10 r5 v10 v11 h11 v12 v13 r6 v14 w15 h12 v16 v17 r7 r8 r9 r10 r11 r12 v18 r13 r14 r15 v19 h1 g0 f20 h2 g1 f21 h3 g2 f22 h4 g3 f23 h5 g4 f24 h6 g5 f25 h7 g6 f26 h8 g7 f27 h9 g8 f28 h10 g9 f29 h11 g10 f30 h12 g11 f31)) [0, 1, 2, 3, 4, 5, 6, 7, 8, 9, 10, 11, 12] rfl
          have hDc := hD.sub (ws' := (wd_cfaca2a5 h0 v0 r0 v1 v2 v3 v4 h1 h2 r1 h3 h4 h5 h6 v5 v6 h7 h8 r2 r3 v7 h9 r4 v8 v9 h10 r5 v10 v11 h11 v12 v13 r6 v14 w15 h12 v16 v17 r7 r8 r9 r10 r11 r12 v18 r13 r14 r15 v19 h1 g0 f20 h2 g1 f21 h3 g2 f22 h4 g3 f23 h5 g4 f24 h6 g5 f25 h7 g6 f26 h8 g7 f27 h9 g8 f28 h10 g9 f29 h11 g10 f30 h12 g11 f31)) [0, 1, 2, 3, 4, 5, 6, 7, 8, 9, 10, 11, 12] (by decide +kernel) rfl
          have hKc := hK.sub (tys' := [(g0, .int), (g1, .int), (g2, .int), (g3, .int), (g4, .int), (g5, .int), (g6, .int), (g7, .int), (g8, .int), (g9, .int), (g10, .int), (g11, .int)]) [0, 1, 2, 3, 4, 5, 6, 7, 8, 9, 10, 11] rfl
          have hFc := va_free (wc := (wd_cfaca2a5 h0 v0 r0 v1 v2 v3 v4 h1 h2 r1 h3 h4 h5 h6 v5 v6 h7 h8 r2 r3 v7 h9 r4 v8 v9 h10 r5 v10 v11 h11 v12 v13 r6 v14 w15 h12 v16 v17 r7 r8 r9 r10 r11 r12 v18 r13 r14 r15 v19 h1 g0 f20 h2 g1 f21 h3 g2 f22 h4 g3 f23 h5 g4 f24 h6 g5 f25 h7 g6 f26 h8 g7 f27 h9 g8 f28 h10 g9 f29 h11 g10 f30 h12 g11 f31)) hD hS hA [0, 1, 2, 3, 4, 5, 6, 7, 8, 9, 10, 11, 12] rfl
          refine va_calli (va_runV (As := [.int 0, .int v32, .int v34, .int v33, .int v35, .int 1000000000]) (rest := []) ⟨hx, hb, hml, hown, hts⟩ (k_X12_oddsFrom_6 l dC dI h0 h1 h2 h3 h4 h5 h6 h7 h8 h9 h10 h11 h12 v0 r0 v1 v2 v3 v4 r1 v5 v6 r2 r3 v7 r4 v8 v9 r5 v10 v11 v12 v13 r6 v14 w15 v16 v17 r7 r8 r9 r10 r11 r12 v18 r13 r14 r15 v19 g0 f20 g1 f21 g2 f22 g3 f23 g4 f24 g5 f25 g6 f26 g7 f27 g8 f28 g9 f29 g10 f30 g11 f31 v32 v34 v33 v35 1000000000 ⟨i_v1a, i_v1b⟩ ⟨i_v5a, i_v5b⟩ ⟨i_v6a, i_v6b⟩ ⟨i_v7a, i_v7b⟩ ⟨i_v8a, i_v8b⟩ ⟨i_v9a, i_v9b⟩ ⟨i_v10a, i_v10b⟩ ⟨i_v14a, i_v14b⟩ ⟨i_v18a, i_v18b⟩ ⟨i_v19a, i_v19b⟩ ⟨by first | omega | decide, by first | omega | decide⟩ ⟨by first | omega | decide, by first | omega | decide⟩ ia_f28 ia_f29 ia_f31 pp0 H.size) (cwV 6 hts g_X12_odds_4 rfl rfl rfl (by decide +kernel) ⟨Nat.le_of_ble_eq_true rfl, Nat.le_of_ble_eq_true rfl⟩) (pv_PV12 hPc hKc hDc (q0 := 0) rfl) rfl rfl hl.1 rfl (lv_room (Nat.le_of_ble_eq_true rfl)) dX12_odds_51 ⟨Nat.le_of_ble_eq_true rfl, Nat.le_of_ble_eq_true rfl⟩) hS (fun q _ h => hFc q h) hFc (fun ra9 u t H1 locs ht hvm hwra9 hB hz1 hk1 hS => ?_)
          try rw [hwra9] at hB
          obtain ⟨x10, x11, fn12, fn13, fn14, fn15, fn16, ia_fn14, ia_fn16, hP1, hK1, hD1⟩ := hB
          rw [ht] at hP1
          obtain ⟨hP2, hD2⟩ := va_join (wr := []) (w1 := (wd_cfaca2a5 h0 v0 r0 v1 v2 v3 v4 h1 h2 r1 h3 h4 h5 h6 v5 v6 h7 h8 r2 r3 v7 h9 r4 v8 v9 h10 r5 v10 v11 h11 x10 x11 r6 v14 w15 h12 v16 v17 r7 r8 r9 r10 r11 r12 v18 r13 r14 r15 v19 h1 g0 f20 h2 g1 f21 h3 g2 f22 h4 g3 f23 h5 g4 f24 h6 g5 f25 h7 g6 fn12 h8 g7 fn13 h9 g8 f28 h10 g9 fn14 h11 g10 fn15 h12 g11 fn16)) hP hD [0, 1, 2, 3, 4, 5, 6, 7, 8, 9, 10, 11, 12] [] rfl rfl (by decide +kernel) (by decide +kernel) hk1 hFc hP1 hD1
          clear hP hD hPc hDc hKc hFc hP1 hK1 hD1 hk1 hz1
          generalize H1 = H at hP2 hS ⊢
          have hP : va_P (dC, dI) vwCl (wd_cfaca2a5 h0 v0 r0 v1 v2 v3 v4 h1 h2 r1 h3 h4 h5 h6 v5 v6 h7 h8 r2 r3 v7 h9 r4 v8 v9 h10 r5 v10 v11 h11 x10 x11 r6 v14 w15 h12 v16 v17 r7 r8 r9 r10 r11 r12 v18 r13 r14 r15 v19 h1 g0 f20 h2 g1 f21 h3 g2 f22 h4 g3 f23 h5 g4 f24 h6 g5 f25 h7 g6 fn12 h8 g7 fn13 h9 g8 f28 h10 g9 fn14 h11 g10 fn15 h12 g11 fn16) H := hP2
          have hD : va_D A (wd_cfaca2a5 h0 v0 r0 v1 v2 v3 v4 h1 h2 r1 h3 h4 h5 h6 v5 v6 h7 h8 r2 r3 v7 h9 r4 v8 v9 h10 r5 v10 v11 h11 x10 x11 r6 v14 w15 h12 v16 v17 r7 r8 r9 r10 r11 r12 v18 r13 r14 r15 v19 h1 g0 f20 h2 g1 f21 h3 g2 f22 h4 g3 f23 h5 g4 f24 h6 g5 f25 h7 g6 fn12 h8 g7 fn13 h9 g8 f28 h10 g9 fn14 h11 g10 fn15 h12 g11 fn16) := hD2
          clear hP2 hD2
          subst hQ
          have hP9 := hP.sub (ws' := (wd_cfaca2a5 h0 v0 r0 v1 v2 v3 v4 h1 h2 r1 h3 h4 h5 h6 v5 v6 h7 h8 r2 r3 v7 h9 r4 v8 v9 h10 r5 v10 v11 h11 x10 x11 r6 v14 w15 h12 v16 v17 r7 r8 r9 r10 r11 r12 v18 r13 r14 r15 v19 h1 g0 f20 h2 g1 f21 h3 g2 f22 h4 g3 f23 h5 g4 f24 h6 g5 f25 h7 g6 fn12 h8 g7 fn13 h9 g8 f28 h10 g9 fn14 h11 g10 fn15 h12 g11 fn16)) [0, 1, 2, 3, 4, 5, 6, 7, 8, 9, 10, 11, 12] rfl
          have hD9 := hD.sub (ws' := (wd_cfaca2a5 h0 v0 r0 v1 v2 v3 v4 h1 h2 r1 h3 h4 h5 h6 v5 v6 h7 h8 r2 r3 v7 h9 r4 v8 v9 h10 r5 v10 v11 h11 x10 x11 r6 v14 w15 h12 v16 v17 r7 r8 r9 r10 r11 r12 v18 r13 r14 r15 v19 h1 g0 f20 h2 g1 f21 h3 g2 f22 h4 g3 f23 h5 g4 f24 h6 g5 f25 h7 g6 fn12 h8 g7 fn13 h9 g8 f28 h10 g9 fn14 h11 g10 fn15 h12 g11 fn16)) [0, 1, 2, 3, 4, 5, 6, 7, 8, 9, 10, 11, 12] (by decide +kernel) rfl
          have hK9 := hK.sub (tys' := []) [] rfl
          exact W.iret (v := ra9) hx hb hr (fun t ht hW => ⟨⟨ra9, ra9, rfl, rfl, ⟨x10, x11, fn12, fn13, fn14, fn15, fn16, ia_fn14, ia_fn16, by rw [ht]; exact hP9, va_K.moved hW.alike hK9, hD9⟩⟩, hS.F ht⟩) hS.2.2 dX12_odds_54
        · skip
          have fc8 : ra7.toInt = 0 := congrArg Int32.toInt c8
          refine lv_iconst (v := (-1)) hx hb dX12_odds_39 (by decide) ?_
          subst hQ
          have hP9 := hP.sub (ws' := (wd_cfaca2a5 h0 v0 r0 v1 v2 v3 v4 h1 h2 r1 h3 h4 h5 h6 v5 v6 h7 h8 r2 r3 v7 h9 r4 v8 v9 h10 r5 v10 v11 h11 v12 v13 r6 v14 w15 h12 v16 v17 r7 r8 r9 r10 r11 r12 v18 r13 r14 r15 v19 h1 g0 f20 h2 g1 f21 h3 g2 f22 h4 g3 f23 h5 g4 f24 h6 g5 f25 h7 g6 f26 h8 g7 f27 h9 g8 f28 h10 g9 f29 h11 g10 f30 h12 g11 f31)) [0, 1, 2, 3, 4, 5, 6, 7, 8, 9, 10, 11, 12] rfl
          have hD9 := hD.sub (ws' := (wd_cfaca2a5 h0 v0 r0 v1 v2 v3 v4 h1 h2 r1 h3 h4 h5 h6 v5 v6 h7 h8 r2 r3 v7 h9 r4 v8 v9 h10 r5 v10 v11 h11 v12 v13 r6 v14 w15 h12 v16 v17 r7 r8 r9 r10 r11 r12 v18 r13 r14 r15 v19 h1 g0 f20 h2 g1 f21 h3 g2 f22 h4 g3 f23 h5 g4 f24 h6 g5 f25 h7 g6 f26 h8 g7 f27 h9 g8 f28 h10 g9 f29 h11 g10 f30 h12 g11 f31)) [0, 1, 2, 3, 4, 5, 6, 7, 8, 9, 10, 11, 12] (by decide +kernel) rfl
          have hK9 := hK.sub (tys' := []) [] rfl
          exact W.iret (v := (-1)) hx hb hr (fun t ht hW => ⟨⟨(-1), (-1), rfl, rfl, ⟨v12, v13, f26, f27, f29, f30, f31, ia_f29, ia_f31, by rw [ht]; exact hP9, va_K.moved hW.alike hK9, hD9⟩⟩, hS.F ht⟩) hS.2.2 dX12_odds_40
def q_X12_count : List Cond := .code yX12_count cX12_count 2 (some .int) :: (([.fieldLink RX12 266 "LeftArgumentsModel" "toldMany" "I", .code yX12_bagOnes cX12_bagOnes 3 (some .int), .code yX12_isThere cX12_isThere 2 (some .boolean), .code yX12_in cX12_in 3 (some .boolean), .initialized RX12, .static yX12_in, .methodLink RX12 217 yX12_in, .code yX12_of cX12_of 3 (some .int), .fieldLink RX12 52 "LeftArgumentsModel" "now" "[I", .instanceMethod yX12_of, .selects RX12 yX12_of yX12_of, .methodLink RX12 287 yX12_of, .instanceMethod yX12_isThere, .selects RX12 yX12_isThere yX12_isThere, .methodLink RX12 290 yX12_isThere, .instanceMethod yX12_bagOnes, .selects RX12 yX12_bagOnes yX12_bagOnes, .methodLink RX12 404 yX12_bagOnes, .code yJ6_bitCount_0f7a4 cJ6_bitCount_0f7a4 1 (some .int), .constant RJ6 265 (1431655765), .constant RJ6 266 (858993459), .constant RJ6 267 (252645135), .initialized RJ6, .static yJ6_bitCount_0f7a4, .methodLink RX12 417 yJ6_bitCount_0f7a4, .fieldLink RX12 284 "LeftArgumentsModel" "laws" "I", .fieldLink RX12 109 "LeftArgumentsModel" "size" "I", .fieldLink RX12 58 "LeftArgumentsModel" "holding" "I", .fieldLink RX12 62 "LeftArgumentsModel" "training" "I", .fieldLink RX12 272 "LeftArgumentsModel" "noted" "I", .fieldLink RX12 275 "LeftArgumentsModel" "acts" "I", .constant RX12 443 (-1000000)] : List Cond) ++ wsX120)
set_option maxRecDepth 20000 in
theorem g_X12_count_0 : GoodIn q_X12_count (wsV RX12 404 RX12 yX12_bagOnes q_X12_bagOnes) := goodIn_app (goodIn_r _ [18, 16, 17, 5] rfl (by decide +kernel)) (goodIn_ca (goodIn_r (.code yX12_bagOnes cX12_bagOnes 3 (some .int) :: [.code yX12_isThere cX12_isThere 2 (some .boolean), .code yX12_in cX12_in 3 (some .boolean), .initialized RX12, .static yX12_in, .methodLink RX12 217 yX12_in, .code yX12_of cX12_of 3 (some .int), .fieldLink RX12 52 "LeftArgumentsModel" "now" "[I", .instanceMethod yX12_of, .selects RX12 yX12_of yX12_of, .methodLink RX12 287 yX12_of, .instanceMethod yX12_isThere, .selects RX12 yX12_isThere yX12_isThere, .methodLink RX12 290 yX12_isThere]) [2, 3, 4, 5, 6, 7, 8, 9, 10, 11, 12, 13, 14, 15] rfl (by decide +kernel)) (goodIn_sub (fun _ h => List.mem_cons_of_mem _ (List.mem_append_right _ h)) gwX12))
set_option maxRecDepth 20000 in
theorem g_X12_count_1 : GoodIn q_X12_count (va_wsS RX12 417 yJ6_bitCount_0f7a4 q_J6_bitCount_0f7a4) := goodIn_app (goodIn_r _ [25, 24, 23] rfl (by decide +kernel)) (goodIn_r (.code yJ6_bitCount_0f7a4 cJ6_bitCount_0f7a4 1 (some .int) :: [.constant RJ6 265 (1431655765), .constant RJ6 266 (858993459), .constant RJ6 267 (252645135)]) [19, 20, 21, 22] rfl (by decide +kernel))
set_option maxHeartbeats 4000000 in
set_option maxRecDepth 100000 in
theorem k_X12_count (l : Launch) (dC : Nat → ClassId) (dI : Nat → Nat → Nat) (h0 : Nat) (h1 : Nat) (v0 : Int32) (r0 : Nat) (v1 : Int32) (v2 : Int32) (v3 : Int32) (v4 : Int32) (r1 : Nat) (r2 : Nat) (r3 : Nat) (r4 : Nat) (r5 : Nat) (r6 : Nat) (r7 : Nat) (v5 : Int32) (v6 : Int32) (r8 : Nat) (r9 : Nat) (r10 : Nat) (r11 : Nat) (v7 : Int32) (r12 : Nat) (r13 : Nat) (v8 : Int32) (v9 : Int32) (r14 : Nat) (v10 : Int32) (v11 : Int32) (r15 : Nat) (v12 : Int32) (v13 : Int32) (r16 : Nat) (v14 : Int32) (w15 : Int64) (r17 : Nat) (v16 : Int32) (v17 : Int32) (r18 : Nat) (r19 : Nat) (r20 : Nat) (r21 : Nat) (r22 : Nat) (r23 : Nat) (v18 : Int32) (r24 : Nat) (r25 : Nat) (r26 : Nat) (v19 : Int32) (g0 : ClassId) (f20 : Nat → Int32) (v21 : Int32) (i_v1 : 0 ≤ v1.toInt ∧ v1.toInt ≤ 240) (i_v5 : 0 ≤ v5.toInt ∧ v5.toInt ≤ 4) (i_v6 : 0 ≤ v6.toInt ∧ v6.toInt ≤ 4) (i_v7 : 0 ≤ v7.toInt ∧ v7.toInt ≤ 8) (i_v8 : 0 ≤ v8.toInt ∧ v8.toInt ≤ 8) (i_v9 : 0 ≤ v9.toInt ∧ v9.toInt ≤ 1) (i_v10 : -1 ≤ v10.toInt ∧ v10.toInt ≤ 3) (i_v14 : 0 ≤ v14.toInt ∧ v14.toInt ≤ 40) (i_v18 : 0 ≤ v18.toInt ∧ v18.toInt ≤ 10) (i_v19 : 0 ≤ v19.toInt ∧ v19.toInt ≤ 1) (ia_f20 : (pm_NW f20)) (sz : Nat) : Met l yX12_count q_X12_count ({ frames := 3, cells := 0, slots := 0, locals := 65 }) (va_Pc [.ref h0, .int v21] (fun U => U.heap.size = sz ∧ va_P (dC, dI) vwCl (wd_5013416a h0 v0 r0 v1 v2 v3 v4 r1 r2 r3 r4 r5 r6 r7 v5 v6 r8 r9 r10 r11 v7 r12 r13 v8 v9 h1 r14 v10 v11 r15 v12 v13 r16 v14 w15 r17 v16 v17 r18 r19 r20 r21 r22 r23 v18 r24 r25 r26 v19 h1 g0 f20) U.heap ∧ va_K (dC, dI) vwCl [(g0, .int)] U ∧ va_D (fun _ => True) (wd_5013416a h0 v0 r0 v1 v2 v3 v4 r1 r2 r3 r4 r5 r6 r7 v5 v6 r8 r9 r10 r11 v7 r12 r13 v8 v9 h1 r14 v10 v11 r15 v12 v13 r16 v14 w15 r17 v16 v17 r18 r19 r20 r21 r22 r23 v18 r24 r25 r26 v19 h1 g0 f20))) (va_Qi (fun (r : Int32) (r9 : Int32) => r9 = r) (fun (r : Int32) (t : State) => (va_P (dC, dI) vwCl (wd_5013416a h0 v0 r0 v1 v2 v3 v4 r1 r2 r3 r4 r5 r6 r7 v5 v6 r8 r9 r10 r11 v7 r12 r13 v8 v9 h1 r14 v10 v11 r15 v12 v13 r16 v14 w15 r17 v16 v17 r18 r19 r20 r21 r22 r23 v18 r24 r25 r26 v19 h1 g0 f20) t.heap ∧ va_K (dC, dI) vwCl [] t ∧ va_D (va_A (wd_5013416a h0 v0 r0 v1 v2 v3 v4 r1 r2 r3 r4 r5 r6 r7 v5 v6 r8 r9 r10 r11 v7 r12 r13 v8 v9 h1 r14 v10 v11 r15 v12 v13 r16 v14 w15 r17 v16 v17 r18 r19 r20 r21 r22 r23 v18 r24 r25 r26 v19 h1 g0 f20) sz) (wd_5013416a h0 v0 r0 v1 v2 v3 v4 r1 r2 r3 r4 r5 r6 r7 v5 v6 r8 r9 r10 r11 v7 r12 r13 v8 v9 h1 r14 v10 v11 r15 v12 v13 r16 v14 w15 r17 v16 v17 r18 r19 r20 r21 r22 r23 v18 r24 r25 r26 v19 h1 g0 f20))) (va_A (wd_5013416a h0 v0 r0 v1 v2 v3 v4 r1 r2 r3 r4 r5 r6 r7 v5 v6 r8 r9 r10 r11 v7 r12 r13 v8 v9 h1 r14 v10 v11 r15 v12 v13 r16 v14 w15 r17 v16 v17 r18 r19 r20 r21 r22 r23 v18 r24 r25 r26 v19 h1 g0 f20) sz)) 0 0 (va_A (wd_5013416a h0 v0 r0 v1 v2 v3 v4 r1 r2 r3 r4 r5 r6 r7 v5 v6 r8 r9 r10 r11 v7 r12 r13 v8 v9 h1 r14 v10 v11 r15 v12 v13 r16 v14 w15 r17 v16 v17 r18 r19 r20 r21 r22 r23 v18 r24 r25 r26 v19 h1 g0 f20) sz) := by
  refine Met.ofW (cc := cX12_count) (maxL := 2) (ret := (some .int)) (by decide) rfl ?_
  intro p e s m args below meth c s₁ B hml hv
  obtain ⟨i_v1a, i_v1b⟩ := i_v1
  obtain ⟨i_v5a, i_v5b⟩ := i_v5
  obtain ⟨i_v6a, i_v6b⟩ := i_v6
  obtain ⟨i_v7a, i_v7b⟩ := i_v7
  obtain ⟨i_v8a, i_v8b⟩ := i_v8
  obtain ⟨i_v9a, i_v9b⟩ := i_v9
  obtain ⟨i_v10a, i_v10b⟩ := i_v10
  obtain ⟨i_v14a, i_v14b⟩ := i_v14
  obtain ⟨i_v18a, i_v18b⟩ := i_v18
  obtain ⟨i_v19a, i_v19b⟩ := i_v19
  obtain ⟨rfl, hsz, hP, hK, hD0⟩ := hv
  have hx := B.exec
  have hb := B.bytes
  have hr := B.returns
  have hts := atoms_spec (ws := q_X12_count) B.pre
  have hown : s.vm.findClass RX12 = some m.cls := findClass_of_methodNamed B.named
  have hlocks := B.notSynchronized
  subst hsz
  have hD := hD0.self (sz := s.heap.size)
  generalize hAe : va_A (wd_5013416a h0 v0 r0 v1 v2 v3 v4 r1 r2 r3 r4 r5 r6 r7 v5 v6 r8 r9 r10 r11 v7 r12 r13 v8 v9 h1 r14 v10 v11 r15 v12 v13 r16 v14 w15 r17 v16 v17 r18 r19 r20 r21 r22 r23 v18 r24 r25 r26 v19 h1 g0 f20) s.heap.size = A at hD ⊢
  have hA : ∀ q : Nat, s.heap.size ≤ q → A q := fun q h => by rw [← hAe]; exact Or.inr h
  have hS : va_S A s.heap s.heap [] := va_S.rf
  generalize hQ : (MQ below _ _ s 0 0 A) = Q
  have hl := lv_entry ([.ref h0, .int v21]) (n := 2) (Nat.le_of_ble_eq_true rfl)
  rw [lg_entry_eq]
  generalize (lg_sl ([.ref h0, .int v21]) ++ List.replicate (2 - (lg_sl ([.ref h0, .int v21])).length) Slot.unset).toArray = ls at hl ⊢
  have hl : lv_has ls 2 [(0, .ref h0), (1, .int v21)] := hl
  obtain ⟨H, hH⟩ : ∃ H : Heap, H = s.heap := ⟨_, rfl⟩
  obtain ⟨locs, hlocs⟩ : ∃ y : List Loc, y = [] := ⟨_, rfl⟩
  have hS : va_S A s.heap H locs := by rw [hH, hlocs]; exact va_S.rf
  have hP : va_P (dC, dI) vwCl (wd_5013416a h0 v0 r0 v1 v2 v3 v4 r1 r2 r3 r4 r5 r6 r7 v5 v6 r8 r9 r10 r11 v7 r12 r13 v8 v9 h1 r14 v10 v11 r15 v12 v13 r16 v14 w15 r17 v16 v17 r18 r19 r20 r21 r22 r23 v18 r24 r25 r26 v19 h1 g0 f20) H := by rw [hH]; exact hP
  rw [← hH, ← hlocs]
  refine lv_iload_n hx hb dX12_count_0 rfl (lv_at hl 1 rfl) ?_
  by_cases c1 : v21 = 0
  · skip
    have fc1 : v21.toInt = 0 := congrArg Int32.toInt c1
    refine lv_tableIn (off := 55) (tgt := 56) hx hb dX12_count_1 (by rw [c1]; decide) (by rw [c1]; decide) (by rw [c1]; rfl) (by decide) ?_
    refine lv_aload_n hx hb dX12_count_56 rfl (lv_at hl 0 rfl) ?_
    refine va_get (D := (dC, dI)) (ci := 12) (v := .int v8) (C := RX12) (T := TX12) (N := 48) hx hb hts (fun _ h => List.mem_cons_of_mem _ (List.mem_append_right _ h)) hown hK hP 0 rfl rfl 22 (by decide) (hts (.fieldLink RX12 266 "LeftArgumentsModel" "toldMany" "I") (List.mem_cons_of_mem _ (List.mem_append_left _ (List.mem_of_getElem? (i := 0) rfl)))) (fun _ h9 => h9) rfl dX12_count_57 ?_
    subst hQ
    have hP9 := hP.sub (ws' := (wd_5013416a h0 v0 r0 v1 v2 v3 v4 r1 r2 r3 r4 r5 r6 r7 v5 v6 r8 r9 r10 r11 v7 r12 r13 v8 v9 h1 r14 v10 v11 r15 v12 v13 r16 v14 w15 r17 v16 v17 r18 r19 r20 r21 r22 r23 v18 r24 r25 r26 v19 h1 g0 f20)) [0, 1] rfl
    have hD9 := hD.sub (ws' := (wd_5013416a h0 v0 r0 v1 v2 v3 v4 r1 r2 r3 r4 r5 r6 r7 v5 v6 r8 r9 r10 r11 v7 r12 r13 v8 v9 h1 r14 v10 v11 r15 v12 v13 r16 v14 w15 r17 v16 v17 r18 r19 r20 r21 r22 r23 v18 r24 r25 r26 v19 h1 g0 f20)) [0, 1] (by decide) rfl
    have hK9 := hK.sub (tys' := []) [] rfl
    exact W.iret (v := v8) hx hb hr (fun t ht hW => ⟨⟨v8, v8, rfl, rfl, ⟨by rw [ht]; exact hP9, va_K.moved hW.alike hK9, hD9⟩⟩, hS.F ht⟩) hS.2.2 dX12_count_60
  by_cases c2 : v21 = 1
  · skip
    have fc2 : v21.toInt = 1 := congrArg Int32.toInt c2
    refine lv_tableIn (off := 60) (tgt := 61) hx hb dX12_count_1 (by rw [c2]; decide) (by rw [c2]; decide) (by rw [c2]; rfl) (by decide) ?_
    refine lv_aload_n hx hb dX12_count_61 rfl (lv_at hl 0 rfl) ?_
    have hPc := hP.sub (ws' := (wd_5013416a h0 v0 r0 v1 v2 v3 v4 r1 r2 r3 r4 r5 r6 r7 v5 v6 r8 r9 r10 r11 v7 r12 r13 v8 v9 h1 r14 v10 v11 r15 v12 v13 r16 v14 w15 r17 v16 v17 r18 r19 r20 r21 r22 r23 v18 r24 r25 r26 v19 h1 g0 f20)) [0, 1] rfl
    have hDc := hD.sub (ws' := (wd_5013416a h0 v0 r0 v1 v2 v3 v4 r1 r2 r3 r4 r5 r6 r7 v5 v6 r8 r9 r10 r11 v7 r12 r13 v8 v9 h1 r14 v10 v11 r15 v12 v13 r16 v14 w15 r17 v16 v17 r18 r19 r20 r21 r22 r23 v18 r24 r25 r26 v19 h1 g0 f20)) [0, 1] (by decide) rfl
    have hKc := hK.sub (tys' := [(g0, .int)]) [0] rfl
    have hFc := va_free (wc := (wd_5013416a h0 v0 r0 v1 v2 v3 v4 r1 r2 r3 r4 r5 r6 r7 v5 v6 r8 r9 r10 r11 v7 r12 r13 v8 v9 h1 r14 v10 v11 r15 v12 v13 r16 v14 w15 r17 v16 v17 r18 r19 r20 r21 r22 r23 v18 r24 r25 r26 v19 h1 g0 f20)) hD hS hA [0, 1] rfl
    refine va_calli (va_runV (As := []) (rest := []) ⟨hx, hb, hml, hown, hts⟩ (k_X12_bagOnes l dC dI h0 h1 v0 r0 v1 v2 v3 v4 r1 r2 r3 r4 r5 r6 r7 v5 v6 r8 r9 r10 r11 v7 r12 r13 v8 v9 r14 v10 v11 r15 v12 v13 r16 v14 w15 r17 v16 v17 r18 r19 r20 r21 r22 r23 v18 r24 r25 r26 v19 g0 f20 ⟨i_v1a, i_v1b⟩ ⟨i_v5a, i_v5b⟩ ⟨i_v6a, i_v6b⟩ ⟨i_v7a, i_v7b⟩ ⟨i_v8a, i_v8b⟩ ⟨i_v9a, i_v9b⟩ ⟨i_v10a, i_v10b⟩ ⟨i_v14a, i_v14b⟩ ⟨i_v18a, i_v18b⟩ ⟨i_v19a, i_v19b⟩ ia_f20 H.size) (cwV 0 hts g_X12_count_0 rfl rfl rfl (by decide +kernel) ⟨Nat.le_of_ble_eq_true rfl, Nat.le_of_ble_eq_true rfl⟩) (pv_PV12 hPc hKc hDc (q0 := 0) rfl) rfl rfl hl.1 rfl (lv_room (Nat.le_of_ble_eq_true rfl)) dX12_count_62 ⟨Nat.le_of_ble_eq_true rfl, Nat.le_of_ble_eq_true rfl⟩) hS (fun q _ h => hFc q h) hFc (fun ra3 u t H1 locs ht hvm hwra3 hB hz1 hk1 hS => ?_)
    try rw [hwra3] at hB
    obtain ⟨hP1, hK1, hD1⟩ := hB
    rw [ht] at hP1
    obtain ⟨hP2, hD2⟩ := va_join (wr := []) (w1 := (wd_5013416a h0 v0 r0 v1 v2 v3 v4 r1 r2 r3 r4 r5 r6 r7 v5 v6 r8 r9 r10 r11 v7 r12 r13 v8 v9 h1 r14 v10 v11 r15 v12 v13 r16 v14 w15 r17 v16 v17 r18 r19 r20 r21 r22 r23 v18 r24 r25 r26 v19 h1 g0 f20)) hP hD [0, 1] [] rfl rfl (by decide) (by decide) hk1 hFc hP1 hD1
    clear hP hD hPc hDc hKc hFc hP1 hK1 hD1 hk1 hz1
    generalize H1 = H at hP2 hS ⊢
    have hP : va_P (dC, dI) vwCl (wd_5013416a h0 v0 r0 v1 v2 v3 v4 r1 r2 r3 r4 r5 r6 r7 v5 v6 r8 r9 r10 r11 v7 r12 r13 v8 v9 h1 r14 v10 v11 r15 v12 v13 r16 v14 w15 r17 v16 v17 r18 r19 r20 r21 r22 r23 v18 r24 r25 r26 v19 h1 g0 f20) H := hP2
    have hD : va_D A (wd_5013416a h0 v0 r0 v1 v2 v3 v4 r1 r2 r3 r4 r5 r6 r7 v5 v6 r8 r9 r10 r11 v7 r12 r13 v8 v9 h1 r14 v10 v11 r15 v12 v13 r16 v14 w15 r17 v16 v17 r18 r19 r20 r21 r22 r23 v18 r24 r25 r26 v19 h1 g0 f20) := hD2
    clear hP2 hD2
    have hPc := hP.sub (ws' := []) [] rfl
    have hDc := hD.sub (ws' := []) [] (by decide) rfl
    have hKc := hK.sub (tys' := []) [] rfl
    have hFc := va_free (wc := []) hD hS hA [] rfl
    refine va_calli (va_runS (As := [.int ra3]) (rest := []) ⟨hx, hb, hml, hown, hts⟩ (k_J6_bitCount_0f7a4 l dC dI ra3  H.size) (va_cwS 1 hts g_X12_count_1 rfl rfl rfl (by decide +kernel) ⟨Nat.le_of_ble_eq_true rfl, Nat.le_of_ble_eq_true rfl⟩) (pv_PS hPc hKc hDc) rfl rfl hl.1 rfl (lv_room (Nat.le_of_ble_eq_true rfl)) dX12_count_65 ⟨Nat.le_of_ble_eq_true rfl, Nat.le_of_ble_eq_true rfl⟩) hS (fun q _ h => hFc q h) hFc (fun ra4 u t H1 locs ht hvm hwra4 hB hz1 hk1 hS => ?_)
    obtain ⟨hP1, hK1, hD1⟩ := hB
    rw [ht] at hP1
    obtain ⟨hP2, hD2⟩ := va_join (wr := (wd_5013416a h0 v0 r0 v1 v2 v3 v4 r1 r2 r3 r4 r5 r6 r7 v5 v6 r8 r9 r10 r11 v7 r12 r13 v8 v9 h1 r14 v10 v11 r15 v12 v13 r16 v14 w15 r17 v16 v17 r18 r19 r20 r21 r22 r23 v18 r24 r25 r26 v19 h1 g0 f20)) (w1 := []) hP hD [] [0, 1] rfl rfl (by decide) (by decide) hk1 hFc hP1 hD1
    clear hP hD hPc hDc hKc hFc hP1 hK1 hD1 hk1 hz1
    generalize H1 = H at hP2 hS ⊢
    have hP : va_P (dC, dI) vwCl (wd_5013416a h0 v0 r0 v1 v2 v3 v4 r1 r2 r3 r4 r5 r6 r7 v5 v6 r8 r9 r10 r11 v7 r12 r13 v8 v9 h1 r14 v10 v11 r15 v12 v13 r16 v14 w15 r17 v16 v17 r18 r19 r20 r21 r22 r23 v18 r24 r25 r26 v19 h1 g0 f20) H := hP2
    have hD : va_D A (wd_5013416a h0 v0 r0 v1 v2 v3 v4 r1 r2 r3 r4 r5 r6 r7 v5 v6 r8 r9 r10 r11 v7 r12 r13 v8 v9 h1 r14 v10 v11 r15 v12 v13 r16 v14 w15 r17 v16 v17 r18 r19 r20 r21 r22 r23 v18 r24 r25 r26 v19 h1 g0 f20) := hD2
    clear hP2 hD2
    obtain ⟨wa_ra4, wb_ra4⟩ := hwra4
    have wa_ra4 : 0 ≤ ra4.toInt := wa_ra4
    have wb_ra4 : ra4.toInt ≤ 63 := wb_ra4
    subst hQ
    have hP9 := hP.sub (ws' := (wd_5013416a h0 v0 r0 v1 v2 v3 v4 r1 r2 r3 r4 r5 r6 r7 v5 v6 r8 r9 r10 r11 v7 r12 r13 v8 v9 h1 r14 v10 v11 r15 v12 v13 r16 v14 w15 r17 v16 v17 r18 r19 r20 r21 r22 r23 v18 r24 r25 r26 v19 h1 g0 f20)) [0, 1] rfl
    have hD9 := hD.sub (ws' := (wd_5013416a h0 v0 r0 v1 v2 v3 v4 r1 r2 r3 r4 r5 r6 r7 v5 v6 r8 r9 r10 r11 v7 r12 r13 v8 v9 h1 r14 v10 v11 r15 v12 v13 r16 v14 w15 r17 v16 v17 r18 r19 r20 r21 r22 r23 v18 r24 r25 r26 v19 h1 g0 f20)) [0, 1] (by decide) rfl
    have hK9 := hK.sub (tys' := []) [] rfl
    exact W.iret (v := ra4) hx hb hr (fun t ht hW => ⟨⟨ra4, ra4, rfl, rfl, ⟨by rw [ht]; exact hP9, va_K.moved hW.alike hK9, hD9⟩⟩, hS.F ht⟩) hS.2.2 dX12_count_68
  by_cases c5 : v21 = 2
  · skip
    have fc5 : v21.toInt = 2 := congrArg Int32.toInt c5
    refine lv_tableIn (off := 68) (tgt := 69) hx hb dX12_count_1 (by rw [c5]; decide) (by rw [c5]; decide) (by rw [c5]; rfl) (by decide) ?_
    refine lv_aload_n hx hb dX12_count_69 rfl (lv_at hl 0 rfl) ?_
    refine va_get (D := (dC, dI)) (ci := 12) (v := .int v5) (C := RX12) (T := TX12) (N := 48) hx hb hts (fun _ h => List.mem_cons_of_mem _ (List.mem_append_right _ h)) hown hK hP 0 rfl rfl 13 (by decide) (hts (.fieldLink RX12 284 "LeftArgumentsModel" "laws" "I") (List.mem_cons_of_mem _ (List.mem_append_left _ (List.mem_of_getElem? (i := 25) rfl)))) (fun _ h9 => h9) rfl dX12_count_70 ?_
    subst hQ
    have hP9 := hP.sub (ws' := (wd_5013416a h0 v0 r0 v1 v2 v3 v4 r1 r2 r3 r4 r5 r6 r7 v5 v6 r8 r9 r10 r11 v7 r12 r13 v8 v9 h1 r14 v10 v11 r15 v12 v13 r16 v14 w15 r17 v16 v17 r18 r19 r20 r21 r22 r23 v18 r24 r25 r26 v19 h1 g0 f20)) [0, 1] rfl
    have hD9 := hD.sub (ws' := (wd_5013416a h0 v0 r0 v1 v2 v3 v4 r1 r2 r3 r4 r5 r6 r7 v5 v6 r8 r9 r10 r11 v7 r12 r13 v8 v9 h1 r14 v10 v11 r15 v12 v13 r16 v14 w15 r17 v16 v17 r18 r19 r20 r21 r22 r23 v18 r24 r25 r26 v19 h1 g0 f20)) [0, 1] (by decide) rfl
    have hK9 := hK.sub (tys' := []) [] rfl
    exact W.iret (v := v5) hx hb hr (fun t ht hW => ⟨⟨v5, v5, rfl, rfl, ⟨by rw [ht]; exact hP9, va_K.moved hW.alike hK9, hD9⟩⟩, hS.F ht⟩) hS.2.2 dX12_count_73
  by_cases c6 : v21 = 3
  · skip
    have fc6 : v21.toInt = 3 := congrArg Int32.toInt c6
    refine lv_tableIn (off := 73) (tgt := 74) hx hb dX12_count_1 (by rw [c6]; decide) (by rw [c6]; decide) (by rw [c6]; rfl) (by decide) ?_
    refine lv_aload_n hx hb dX12_count_74 rfl (lv_at hl 0 rfl) ?_
    refine va_get (D := (dC, dI)) (ci := 12) (v := .int v1) (C := RX12) (T := TX12) (N := 48) hx hb hts (fun _ h => List.mem_cons_of_mem _ (List.mem_append_right _ h)) hown hK hP 0 rfl rfl 2 (by decide) (hts (.fieldLink RX12 109 "LeftArgumentsModel" "size" "I") (List.mem_cons_of_mem _ (List.mem_append_left _ (List.mem_of_getElem? (i := 26) rfl)))) (fun _ h9 => h9) rfl dX12_count_75 ?_
    subst hQ
    have hP9 := hP.sub (ws' := (wd_5013416a h0 v0 r0 v1 v2 v3 v4 r1 r2 r3 r4 r5 r6 r7 v5 v6 r8 r9 r10 r11 v7 r12 r13 v8 v9 h1 r14 v10 v11 r15 v12 v13 r16 v14 w15 r17 v16 v17 r18 r19 r20 r21 r22 r23 v18 r24 r25 r26 v19 h1 g0 f20)) [0, 1] rfl
    have hD9 := hD.sub (ws' := (wd_5013416a h0 v0 r0 v1 v2 v3 v4 r1 r2 r3 r4 r5 r6 r7 v5 v6 r8 r9 r10 r11 v7 r12 r13 v8 v9 h1 r14 v10 v11 r15 v12 v13 r16 v14 w15 r17 v16 v17 r18 r19 r20 r21 r22 r23 v18 r24 r25 r26 v19 h1 g0 f20)) [0, 1] (by decide) rfl
    have hK9 := hK.sub (tys' := []) [] rfl
    exact W.iret (v := v1) hx hb hr (fun t ht hW => ⟨⟨v1, v1, rfl, rfl, ⟨by rw [ht]; exact hP9, va_K.moved hW.alike hK9, hD9⟩⟩, hS.F ht⟩) hS.2.2 dX12_count_78
  by_cases c7 : v21 = 4
  · skip
    have fc7 : v21.toInt = 4 := congrArg Int32.toInt c7
    refine lv_tableIn (off := 78) (tgt := 79) hx hb dX12_count_1 (by rw [c7]; decide) (by rw [c7]; decide) (by rw [c7]; rfl) (by decide) ?_
    refine lv_aload_n hx hb dX12_count_79 rfl (lv_at hl 0 rfl) ?_
    refine va_get (D := (dC, dI)) (ci := 12) (v := .int v10) (C := RX12) (T := TX12) (N := 48) hx hb hts (fun _ h => List.mem_cons_of_mem _ (List.mem_append_right _ h)) hown hK hP 0 rfl rfl 26 (by decide) (hts (.fieldLink RX12 58 "LeftArgumentsModel" "holding" "I") (List.mem_cons_of_mem _ (List.mem_append_left _ (List.mem_of_getElem? (i := 27) rfl)))) (fun _ h9 => h9) rfl dX12_count_80 ?_
    subst hQ
    have hP9 := hP.sub (ws' := (wd_5013416a h0 v0 r0 v1 v2 v3 v4 r1 r2 r3 r4 r5 r6 r7 v5 v6 r8 r9 r10 r11 v7 r12 r13 v8 v9 h1 r14 v10 v11 r15 v12 v13 r16 v14 w15 r17 v16 v17 r18 r19 r20 r21 r22 r23 v18 r24 r25 r26 v19 h1 g0 f20)) [0, 1] rfl
    have hD9 := hD.sub (ws' := (wd_5013416a h0 v0 r0 v1 v2 v3 v4 r1 r2 r3 r4 r5 r6 r7 v5 v6 r8 r9 r10 r11 v7 r12 r13 v8 v9 h1 r14 v10 v11 r15 v12 v13 r16 v14 w15 r17 v16 v17 r18 r19 r20 r21 r22 r23 v18 r24 r25 r26 v19 h1 g0 f20)) [0, 1] (by decide) rfl
    have hK9 := hK.sub (tys' := []) [] rfl
    exact W.iret (v := v10) hx hb hr (fun t ht hW => ⟨⟨v10, v10, rfl, rfl, ⟨by rw [ht]; exact hP9, va_K.moved hW.alike hK9, hD9⟩⟩, hS.F ht⟩) hS.2.2 dX12_count_83
  by_cases c8 : v21 = 5
  · skip
    have fc8 : v21.toInt = 5 := congrArg Int32.toInt c8
    refine lv_tableIn (off := 83) (tgt := 84) hx hb dX12_count_1 (by rw [c8]; decide) (by rw [c8]; decide) (by rw [c8]; rfl) (by decide) ?_
    refine lv_aload_n hx hb dX12_count_84 rfl (lv_at hl 0 rfl) ?_
    refine va_get (D := (dC, dI)) (ci := 12) (v := .ref h1) (C := RX12) (T := TX12) (N := 48) hx hb hts (fun _ h => List.mem_cons_of_mem _ (List.mem_append_right _ h)) hown hK hP 0 rfl rfl 24 (by decide) (hts (.fieldLink RX12 52 "LeftArgumentsModel" "now" "[I") (List.mem_cons_of_mem _ (List.mem_append_left _ (List.mem_of_getElem? (i := 8) rfl)))) (fun _ h9 => h9) rfl dX12_count_85 ?_
    refine lv_bipush (v := 65) hx hb dX12_count_88 (by decide) ?_
    refine va_iald hx hb hK hP 1 0 rfl rfl (pv_c (x := 65) (n := 247) (by decide)) dX12_count_90 ?_
    refine lv_topi (fun t9 et9 => ?_)
    have mmt9 : f20 (Int32.toNatClampNeg 65) = t9 := et9.symm
    subst hQ
    have hP9 := hP.sub (ws' := (wd_5013416a h0 v0 r0 v1 v2 v3 v4 r1 r2 r3 r4 r5 r6 r7 v5 v6 r8 r9 r10 r11 v7 r12 r13 v8 v9 h1 r14 v10 v11 r15 v12 v13 r16 v14 w15 r17 v16 v17 r18 r19 r20 r21 r22 r23 v18 r24 r25 r26 v19 h1 g0 f20)) [0, 1] rfl
    have hD9 := hD.sub (ws' := (wd_5013416a h0 v0 r0 v1 v2 v3 v4 r1 r2 r3 r4 r5 r6 r7 v5 v6 r8 r9 r10 r11 v7 r12 r13 v8 v9 h1 r14 v10 v11 r15 v12 v13 r16 v14 w15 r17 v16 v17 r18 r19 r20 r21 r22 r23 v18 r24 r25 r26 v19 h1 g0 f20)) [0, 1] (by decide) rfl
    have hK9 := hK.sub (tys' := []) [] rfl
    exact W.iret (v := t9) hx hb hr (fun t ht hW => ⟨⟨t9, t9, rfl, rfl, ⟨by rw [ht]; exact hP9, va_K.moved hW.alike hK9, hD9⟩⟩, hS.F ht⟩) hS.2.2 dX12_count_91
  by_cases c10 : v21 = 6
  · skip
    have fc10 : v21.toInt = 6 := congrArg Int32.toInt c10
    refine lv_tableIn (off := 91) (tgt := 92) hx hb dX12_count_1 (by rw [c10]; decide) (by rw [c10]; decide) (by rw [c10]; rfl) (by decide) ?_
    refine lv_aload_n hx hb dX12_count_92 rfl (lv_at hl 0 rfl) ?_
    refine va_get (D := (dC, dI)) (ci := 12) (v := .int v11) (C := RX12) (T := TX12) (N := 48) hx hb hts (fun _ h => List.mem_cons_of_mem _ (List.mem_append_right _ h)) hown hK hP 0 rfl rfl 27 (by decide) (hts (.fieldLink RX12 62 "LeftArgumentsModel" "training" "I") (List.mem_cons_of_mem _ (List.mem_append_left _ (List.mem_of_getElem? (i := 28) rfl)))) (fun _ h9 => h9) rfl dX12_count_93 ?_
    subst hQ
    have hP9 := hP.sub (ws' := (wd_5013416a h0 v0 r0 v1 v2 v3 v4 r1 r2 r3 r4 r5 r6 r7 v5 v6 r8 r9 r10 r11 v7 r12 r13 v8 v9 h1 r14 v10 v11 r15 v12 v13 r16 v14 w15 r17 v16 v17 r18 r19 r20 r21 r22 r23 v18 r24 r25 r26 v19 h1 g0 f20)) [0, 1] rfl
    have hD9 := hD.sub (ws' := (wd_5013416a h0 v0 r0 v1 v2 v3 v4 r1 r2 r3 r4 r5 r6 r7 v5 v6 r8 r9 r10 r11 v7 r12 r13 v8 v9 h1 r14 v10 v11 r15 v12 v13 r16 v14 w15 r17 v16 v17 r18 r19 r20 r21 r22 r23 v18 r24 r25 r26 v19 h1 g0 f20)) [0, 1] (by decide) rfl
    have hK9 := hK.sub (tys' := []) [] rfl
    exact W.iret (v := v11) hx hb hr (fun t ht hW => ⟨⟨v11, v11, rfl, rfl, ⟨by rw [ht]; exact hP9, va_K.moved hW.alike hK9, hD9⟩⟩, hS.F ht⟩) hS.2.2 dX12_count_96
  by_cases c11 : v21 = 7
  · skip
    have fc11 : v21.toInt = 7 := congrArg Int32.toInt c11
    refine lv_tableIn (off := 96) (tgt := 97) hx hb dX12_count_1 (by rw [c11]; decide) (by rw [c11]; decide) (by rw [c11]; rfl) (by decide) ?_
    refine lv_aload_n hx hb dX12_count_97 rfl (lv_at hl 0 rfl) ?_
    refine va_get (D := (dC, dI)) (ci := 12) (v := .int v18) (C := RX12) (T := TX12) (N := 48) hx hb hts (fun _ h => List.mem_cons_of_mem _ (List.mem_append_right _ h)) hown hK hP 0 rfl rfl 43 (by decide) (hts (.fieldLink RX12 272 "LeftArgumentsModel" "noted" "I") (List.mem_cons_of_mem _ (List.mem_append_left _ (List.mem_of_getElem? (i := 29) rfl)))) (fun _ h9 => h9) rfl dX12_count_98 ?_
    subst hQ
    have hP9 := hP.sub (ws' := (wd_5013416a h0 v0 r0 v1 v2 v3 v4 r1 r2 r3 r4 r5 r6 r7 v5 v6 r8 r9 r10 r11 v7 r12 r13 v8 v9 h1 r14 v10 v11 r15 v12 v13 r16 v14 w15 r17 v16 v17 r18 r19 r20 r21 r22 r23 v18 r24 r25 r26 v19 h1 g0 f20)) [0, 1] rfl
    have hD9 := hD.sub (ws' := (wd_5013416a h0 v0 r0 v1 v2 v3 v4 r1 r2 r3 r4 r5 r6 r7 v5 v6 r8 r9 r10 r11 v7 r12 r13 v8 v9 h1 r14 v10 v11 r15 v12 v13 r16 v14 w15 r17 v16 v17 r18 r19 r20 r21 r22 r23 v18 r24 r25 r26 v19 h1 g0 f20)) [0, 1] (by decide) rfl
    have hK9 := hK.sub (tys' := []) [] rfl
    exact W.iret (v := v18) hx hb hr (fun t ht hW => ⟨⟨v18, v18, rfl, rfl, ⟨by rw [ht]; exact hP9, va_K.moved hW.alike hK9, hD9⟩⟩, hS.F ht⟩) hS.2.2 dX12_count_101
  by_cases c12 : v21 = 8
  · skip
    have fc12 : v21.toInt = 8 := congrArg Int32.toInt c12
    refine lv_tableIn (off := 101) (tgt := 102) hx hb dX12_count_1 (by rw [c12]; decide) (by rw [c12]; decide) (by rw [c12]; rfl) (by decide) ?_
    refine lv_aload_n hx hb dX12_count_102 rfl (lv_at hl 0 rfl) ?_
    refine va_get (D := (dC, dI)) (ci := 12) (v := .ref h1) (C := RX12) (T := TX12) (N := 48) hx hb hts (fun _ h => List.mem_cons_of_mem _ (List.mem_append_right _ h)) hown hK hP 0 rfl rfl 24 (by decide) (hts (.fieldLink RX12 52 "LeftArgumentsModel" "now" "[I") (List.mem_cons_of_mem _ (List.mem_append_left _ (List.mem_of_getElem? (i := 8) rfl)))) (fun _ h9 => h9) rfl dX12_count_103 ?_
    refine lv_bipush (v := 66) hx hb dX12_count_106 (by decide) ?_
    refine va_iald hx hb hK hP 1 0 rfl rfl (pv_c (x := 66) (n := 247) (by decide)) dX12_count_108 ?_
    refine lv_topi (fun t13 et13 => ?_)
    have gat13 : 0 ≤ t13.toInt ∧ t13.toInt ≤ 60 := by rw [et13]; exact (ia_f20.1).lg (by decide)
    have mmt13 : f20 (Int32.toNatClampNeg 66) = t13 := et13.symm
    subst hQ
    have hP9 := hP.sub (ws' := (wd_5013416a h0 v0 r0 v1 v2 v3 v4 r1 r2 r3 r4 r5 r6 r7 v5 v6 r8 r9 r10 r11 v7 r12 r13 v8 v9 h1 r14 v10 v11 r15 v12 v13 r16 v14 w15 r17 v16 v17 r18 r19 r20 r21 r22 r23 v18 r24 r25 r26 v19 h1 g0 f20)) [0, 1] rfl
    have hD9 := hD.sub (ws' := (wd_5013416a h0 v0 r0 v1 v2 v3 v4 r1 r2 r3 r4 r5 r6 r7 v5 v6 r8 r9 r10 r11 v7 r12 r13 v8 v9 h1 r14 v10 v11 r15 v12 v13 r16 v14 w15 r17 v16 v17 r18 r19 r20 r21 r22 r23 v18 r24 r25 r26 v19 h1 g0 f20)) [0, 1] (by decide) rfl
    have hK9 := hK.sub (tys' := []) [] rfl
    exact W.iret (v := t13) hx hb hr (fun t ht hW => ⟨⟨t13, t13, rfl, rfl, ⟨by rw [ht]; exact hP9, va_K.moved hW.alike hK9, hD9⟩⟩, hS.F ht⟩) hS.2.2 dX12_count_109
  by_cases c14 : v21 = 9
  · skip
    have fc14 : v21.toInt = 9 := congrArg Int32.toInt c14
    refine lv_tableIn (off := 109) (tgt := 110) hx hb dX12_count_1 (by rw [c14]; decide) (by rw [c14]; decide) (by rw [c14]; rfl) (by decide) ?_
    refine lv_aload_n hx hb dX12_count_110 rfl (lv_at hl 0 rfl) ?_
    refine va_get (D := (dC, dI)) (ci := 12) (v := .int v14) (C := RX12) (T := TX12) (N := 48) hx hb hts (fun _ h => List.mem_cons_of_mem _ (List.mem_append_right _ h)) hown hK hP 0 rfl rfl 32 (by decide) (hts (.fieldLink RX12 275 "LeftArgumentsModel" "acts" "I") (List.mem_cons_of_mem _ (List.mem_append_left _ (List.mem_of_getElem? (i := 30) rfl)))) (fun _ h9 => h9) rfl dX12_count_111 ?_
    subst hQ
    have hP9 := hP.sub (ws' := (wd_5013416a h0 v0 r0 v1 v2 v3 v4 r1 r2 r3 r4 r5 r6 r7 v5 v6 r8 r9 r10 r11 v7 r12 r13 v8 v9 h1 r14 v10 v11 r15 v12 v13 r16 v14 w15 r17 v16 v17 r18 r19 r20 r21 r22 r23 v18 r24 r25 r26 v19 h1 g0 f20)) [0, 1] rfl
    have hD9 := hD.sub (ws' := (wd_5013416a h0 v0 r0 v1 v2 v3 v4 r1 r2 r3 r4 r5 r6 r7 v5 v6 r8 r9 r10 r11 v7 r12 r13 v8 v9 h1 r14 v10 v11 r15 v12 v13 r16 v14 w15 r17 v16 v17 r18 r19 r20 r21 r22 r23 v18 r24 r25 r26 v19 h1 g0 f20)) [0, 1] (by decide) rfl
    have hK9 := hK.sub (tys' := []) [] rfl
    exact W.iret (v := v14) hx hb hr (fun t ht hW => ⟨⟨v14, v14, rfl, rfl, ⟨by rw [ht]; exact hP9, va_K.moved hW.alike hK9, hD9⟩⟩, hS.F ht⟩) hS.2.2 dX12_count_114
  refine lv_tableOut (tgt := 115) hx hb dX12_count_1 (pv_tabL 0 9 rfl (fun j hj => by rcases (show j = 0 ∨ j = 1 ∨ j = 2 ∨ j = 3 ∨ j = 4 ∨ j = 5 ∨ j = 6 ∨ j = 7 ∨ j = 8 ∨ j = 9 by omega) with rfl | rfl | rfl | rfl | rfl | rfl | rfl | rfl | rfl | rfl <;> assumption)) (by decide) ?_
  refine lv_ldcw (v := (-1000000)) hx hb hown (hts (.constant RX12 443 (-1000000)) (List.mem_cons_of_mem _ (List.mem_append_left _ (List.mem_of_getElem? (i := 31) rfl)))) dX12_count_115 ?_
  subst hQ
  have hP9 := hP.sub (ws' := (wd_5013416a h0 v0 r0 v1 v2 v3 v4 r1 r2 r3 r4 r5 r6 r7 v5 v6 r8 r9 r10 r11 v7 r12 r13 v8 v9 h1 r14 v10 v11 r15 v12 v13 r16 v14 w15 r17 v16 v17 r18 r19 r20 r21 r22 r23 v18 r24 r25 r26 v19 h1 g0 f20)) [0, 1] rfl
  have hD9 := hD.sub (ws' := (wd_5013416a h0 v0 r0 v1 v2 v3 v4 r1 r2 r3 r4 r5 r6 r7 v5 v6 r8 r9 r10 r11 v7 r12 r13 v8 v9 h1 r14 v10 v11 r15 v12 v13 r16 v14 w15 r17 v16 v17 r18 r19 r20 r21 r22 r23 v18 r24 r25 r26 v19 h1 g0 f20)) [0, 1] (by decide) rfl
  have hK9 := hK.sub (tys' := []) [] rfl
  exact W.iret (v := (-1000000)) hx hb hr (fun t ht hW => ⟨⟨(-1000000), (-1000000), rfl, rfl, ⟨by rw [ht]; exact hP9, va_K.moved hW.alike hK9, hD9⟩⟩, hS.F ht⟩) hS.2.2 dX12_count_118
def q_X12_here : List Cond := .code yX12_here cX12_here 1 (some .int) :: (([.fieldLink RX12 112 "LeftArgumentsModel" "at" "I", .fieldLink RX12 109 "LeftArgumentsModel" "size" "I", .fieldLink RX12 9 "LeftArgumentsModel" "tape" "[I"] : List Cond) ++ wsX120)
set_option maxHeartbeats 4000000 in
set_option maxRecDepth 100000 in
theorem k_X12_here (l : Launch) (dC : Nat → ClassId) (dI : Nat → Nat → Nat) (h0 : Nat) (h1 : Nat) (v0 : Int32) (v1 : Int32) (v2 : Int32) (v3 : Int32) (v4 : Int32) (r0 : Nat) (r1 : Nat) (r2 : Nat) (r3 : Nat) (r4 : Nat) (r5 : Nat) (r6 : Nat) (v5 : Int32) (v6 : Int32) (r7 : Nat) (r8 : Nat) (r9 : Nat) (r10 : Nat) (v7 : Int32) (r11 : Nat) (r12 : Nat) (v8 : Int32) (v9 : Int32) (r13 : Nat) (r14 : Nat) (v10 : Int32) (v11 : Int32) (r15 : Nat) (v12 : Int32) (v13 : Int32) (r16 : Nat) (v14 : Int32) (w15 : Int64) (r17 : Nat) (v16 : Int32) (v17 : Int32) (r18 : Nat) (r19 : Nat) (r20 : Nat) (r21 : Nat) (r22 : Nat) (r23 : Nat) (v18 : Int32) (r24 : Nat) (r25 : Nat) (r26 : Nat) (v19 : Int32) (g0 : ClassId) (f20 : Nat → Int32) (i_v1 : 0 ≤ v1.toInt ∧ v1.toInt ≤ 240) (i_v2 : 0 ≤ v2.toInt ∧ v2.toInt ≤ 240) (i_v5 : 0 ≤ v5.toInt ∧ v5.toInt ≤ 4) (i_v6 : 0 ≤ v6.toInt ∧ v6.toInt ≤ 4) (i_v7 : 0 ≤ v7.toInt ∧ v7.toInt ≤ 8) (i_v8 : 0 ≤ v8.toInt ∧ v8.toInt ≤ 8) (i_v9 : 0 ≤ v9.toInt ∧ v9.toInt ≤ 1) (i_v10 : -1 ≤ v10.toInt ∧ v10.toInt ≤ 3) (i_v14 : 0 ≤ v14.toInt ∧ v14.toInt ≤ 40) (i_v18 : 0 ≤ v18.toInt ∧ v18.toInt ≤ 10) (i_v19 : 0 ≤ v19.toInt ∧ v19.toInt ≤ 1) (ia_f20 : (∀ j, 0 ≤ (f20 j).toInt ∧ (f20 j).toInt ≤ 255)) (sz : Nat) : Met l yX12_here q_X12_here ({ frames := 0, cells := 0, slots := 0, locals := 0 }) (va_Pc [.ref h0] (fun U => U.heap.size = sz ∧ va_P (dC, dI) vwCl (wd_f4cd022e h0 v0 h1 v1 v2 v3 v4 r0 r1 r2 r3 r4 r5 r6 v5 v6 r7 r8 r9 r10 v7 r11 r12 v8 v9 r13 r14 v10 v11 r15 v12 v13 r16 v14 w15 r17 v16 v17 r18 r19 r20 r21 r22 r23 v18 r24 r25 r26 v19 h1 g0 f20) U.heap ∧ va_K (dC, dI) vwCl [(g0, .int)] U ∧ va_D (fun _ => True) (wd_f4cd022e h0 v0 h1 v1 v2 v3 v4 r0 r1 r2 r3 r4 r5 r6 v5 v6 r7 r8 r9 r10 v7 r11 r12 v8 v9 r13 r14 v10 v11 r15 v12 v13 r16 v14 w15 r17 v16 v17 r18 r19 r20 r21 r22 r23 v18 r24 r25 r26 v19 h1 g0 f20))) (va_Qi (fun (r : Int32) (r9 : Int32) => r9 = r) (fun (r : Int32) (t : State) => ((-1 ≤ r.toInt) ∧ (r.toInt ≤ -1) ∧ (v1.toInt ≤ v2.toInt) ∧ (r.toInt = pg_ch f20 v1.toInt v2.toInt) ∧ va_P (dC, dI) vwCl (wd_f4cd022e h0 v0 h1 v1 v2 v3 v4 r0 r1 r2 r3 r4 r5 r6 v5 v6 r7 r8 r9 r10 v7 r11 r12 v8 v9 r13 r14 v10 v11 r15 v12 v13 r16 v14 w15 r17 v16 v17 r18 r19 r20 r21 r22 r23 v18 r24 r25 r26 v19 h1 g0 f20) t.heap ∧ va_K (dC, dI) vwCl [] t ∧ va_D (va_A (wd_f4cd022e h0 v0 h1 v1 v2 v3 v4 r0 r1 r2 r3 r4 r5 r6 v5 v6 r7 r8 r9 r10 v7 r11 r12 v8 v9 r13 r14 v10 v11 r15 v12 v13 r16 v14 w15 r17 v16 v17 r18 r19 r20 r21 r22 r23 v18 r24 r25 r26 v19 h1 g0 f20) sz) (wd_f4cd022e h0 v0 h1 v1 v2 v3 v4 r0 r1 r2 r3 r4 r5 r6 v5 v6 r7 r8 r9 r10 v7 r11 r12 v8 v9 r13 r14 v10 v11 r15 v12 v13 r16 v14 w15 r17 v16 v17 r18 r19 r20 r21 r22 r23 v18 r24 r25 r26 v19 h1 g0 f20)) ∨ ((0 ≤ r.toInt) ∧ (r.toInt ≤ 255) ∧ (v2.toInt < v1.toInt) ∧ (r.toInt = (f20 (Int32.toNatClampNeg v2)).toInt) ∧ (r.toInt = pg_ch f20 v1.toInt v2.toInt) ∧ va_P (dC, dI) vwCl (wd_f4cd022e h0 v0 h1 v1 v2 v3 v4 r0 r1 r2 r3 r4 r5 r6 v5 v6 r7 r8 r9 r10 v7 r11 r12 v8 v9 r13 r14 v10 v11 r15 v12 v13 r16 v14 w15 r17 v16 v17 r18 r19 r20 r21 r22 r23 v18 r24 r25 r26 v19 h1 g0 f20) t.heap ∧ va_K (dC, dI) vwCl [] t ∧ va_D (va_A (wd_f4cd022e h0 v0 h1 v1 v2 v3 v4 r0 r1 r2 r3 r4 r5 r6 v5 v6 r7 r8 r9 r10 v7 r11 r12 v8 v9 r13 r14 v10 v11 r15 v12 v13 r16 v14 w15 r17 v16 v17 r18 r19 r20 r21 r22 r23 v18 r24 r25 r26 v19 h1 g0 f20) sz) (wd_f4cd022e h0 v0 h1 v1 v2 v3 v4 r0 r1 r2 r3 r4 r5 r6 v5 v6 r7 r8 r9 r10 v7 r11 r12 v8 v9 r13 r14 v10 v11 r15 v12 v13 r16 v14 w15 r17 v16 v17 r18 r19 r20 r21 r22 r23 v18 r24 r25 r26 v19 h1 g0 f20))) (va_A (wd_f4cd022e h0 v0 h1 v1 v2 v3 v4 r0 r1 r2 r3 r4 r5 r6 v5 v6 r7 r8 r9 r10 v7 r11 r12 v8 v9 r13 r14 v10 v11 r15 v12 v13 r16 v14 w15 r17 v16 v17 r18 r19 r20 r21 r22 r23 v18 r24 r25 r26 v19 h1 g0 f20) sz)) 0 0 (va_A (wd_f4cd022e h0 v0 h1 v1 v2 v3 v4 r0 r1 r2 r3 r4 r5 r6 v5 v6 r7 r8 r9 r10 v7 r11 r12 v8 v9 r13 r14 v10 v11 r15 v12 v13 r16 v14 w15 r17 v16 v17 r18 r19 r20 r21 r22 r23 v18 r24 r25 r26 v19 h1 g0 f20) sz) := by
  refine Met.ofW (cc := cX12_here) (maxL := 1) (ret := (some .int)) (by decide) rfl ?_
  intro p e s m args below meth c s₁ B hml hv
  obtain ⟨i_v1a, i_v1b⟩ := i_v1
  obtain ⟨i_v2a, i_v2b⟩ := i_v2
  obtain ⟨i_v5a, i_v5b⟩ := i_v5
  obtain ⟨i_v6a, i_v6b⟩ := i_v6
  obtain ⟨i_v7a, i_v7b⟩ := i_v7
  obtain ⟨i_v8a, i_v8b⟩ := i_v8
  obtain ⟨i_v9a, i_v9b⟩ := i_v9
  obtain ⟨i_v10a, i_v10b⟩ := i_v10
  obtain ⟨i_v14a, i_v14b⟩ := i_v14
  obtain ⟨i_v18a, i_v18b⟩ := i_v18
  obtain ⟨i_v19a, i_v19b⟩ := i_v19
  obtain ⟨rfl, hsz, hP, hK, hD0⟩ := hv
  have hx := B.exec
  have hb := B.bytes
  have hr := B.returns
  have hts := atoms_spec (ws := q_X12_here) B.pre
  have hown : s.vm.findClass RX12 = some m.cls := findClass_of_methodNamed B.named
  have hlocks := B.notSynchronized
  subst hsz
  have hD := hD0.self (sz := s.heap.size)
  generalize hAe : va_A (wd_f4cd022e h0 v0 h1 v1 v2 v3 v4 r0 r1 r2 r3 r4 r5 r6 v5 v6 r7 r8 r9 r10 v7 r11 r12 v8 v9 r13 r14 v10 v11 r15 v12 v13 r16 v14 w15 r17 v16 v17 r18 r19 r20 r21 r22 r23 v18 r24 r25 r26 v19 h1 g0 f20) s.heap.size = A at hD ⊢
  have hA : ∀ q : Nat, s.heap.size ≤ q → A q := fun q h => by rw [← hAe]; exact Or.inr h
  have hS : va_S A s.heap s.heap [] := va_S.rf
  generalize hQ : (MQ below _ _ s 0 0 A) = Q
  have hl := lv_entry ([.ref h0]) (n := 1) (Nat.le_of_ble_eq_true rfl)
  rw [lg_entry_eq]
  generalize (lg_sl ([.ref h0]) ++ List.replicate (1 - (lg_sl ([.ref h0])).length) Slot.unset).toArray = ls at hl ⊢
  have hl : lv_has ls 1 [(0, .ref h0)] := hl
  obtain ⟨H, hH⟩ : ∃ H : Heap, H = s.heap := ⟨_, rfl⟩
  obtain ⟨locs, hlocs⟩ : ∃ y : List Loc, y = [] := ⟨_, rfl⟩
  have hS : va_S A s.heap H locs := by rw [hH, hlocs]; exact va_S.rf
  have hP : va_P (dC, dI) vwCl (wd_f4cd022e h0 v0 h1 v1 v2 v3 v4 r0 r1 r2 r3 r4 r5 r6 v5 v6 r7 r8 r9 r10 v7 r11 r12 v8 v9 r13 r14 v10 v11 r15 v12 v13 r16 v14 w15 r17 v16 v17 r18 r19 r20 r21 r22 r23 v18 r24 r25 r26 v19 h1 g0 f20) H := by rw [hH]; exact hP
  rw [← hH, ← hlocs]
  refine lv_aload_n hx hb dX12_here_0 rfl (lv_at hl 0 rfl) ?_
  refine va_get (D := (dC, dI)) (ci := 12) (v := .int v2) (C := RX12) (T := TX12) (N := 48) hx hb hts (fun _ h => List.mem_cons_of_mem _ (List.mem_append_right _ h)) hown hK hP 0 rfl rfl 3 (by decide) (hts (.fieldLink RX12 112 "LeftArgumentsModel" "at" "I") (List.mem_cons_of_mem _ (List.mem_append_left _ (List.mem_of_getElem? (i := 0) rfl)))) (fun _ h9 => h9) rfl dX12_here_1 ?_
  refine lv_aload_n hx hb dX12_here_4 rfl (lv_at hl 0 rfl) ?_
  refine va_get (D := (dC, dI)) (ci := 12) (v := .int v1) (C := RX12) (T := TX12) (N := 48) hx hb hts (fun _ h => List.mem_cons_of_mem _ (List.mem_append_right _ h)) hown hK hP 0 rfl rfl 2 (by decide) (hts (.fieldLink RX12 109 "LeftArgumentsModel" "size" "I") (List.mem_cons_of_mem _ (List.mem_append_left _ (List.mem_of_getElem? (i := 1) rfl)))) (fun _ h9 => h9) rfl dX12_here_5 ?_
  refine lv_icmp_ge (tgt := 23) hx hb dX12_here_8 (by decide) (fun c1 => ?_) (fun c1 => ?_)
  · skip
    have fc1 : v1.toInt ≤ v2.toInt := Int32.le_iff_toInt_le.mp c1
    have r1c1 := Int32.toInt_lt v2
    have r2c1 := Int32.toInt_lt v1
    have r3c1 := Int32.le_toInt v2
    have r4c1 := Int32.le_toInt v1
    refine lv_iconst (v := (-1)) hx hb dX12_here_23 (by decide) ?_
    subst hQ
    have hP9 := hP.sub (ws' := (wd_f4cd022e h0 v0 h1 v1 v2 v3 v4 r0 r1 r2 r3 r4 r5 r6 v5 v6 r7 r8 r9 r10 v7 r11 r12 v8 v9 r13 r14 v10 v11 r15 v12 v13 r16 v14 w15 r17 v16 v17 r18 r19 r20 r21 r22 r23 v18 r24 r25 r26 v19 h1 g0 f20)) [0, 1] rfl
    have hD9 := hD.sub (ws' := (wd_f4cd022e h0 v0 h1 v1 v2 v3 v4 r0 r1 r2 r3 r4 r5 r6 v5 v6 r7 r8 r9 r10 v7 r11 r12 v8 v9 r13 r14 v10 v11 r15 v12 v13 r16 v14 w15 r17 v16 v17 r18 r19 r20 r21 r22 r23 v18 r24 r25 r26 v19 h1 g0 f20)) [0, 1] (by decide) rfl
    have hK9 := hK.sub (tys' := []) [] rfl
    exact W.iret (v := (-1)) hx hb hr (fun t ht hW => ⟨⟨(-1), (-1), rfl, rfl, Or.inl ⟨by first | omega | decide, by first | omega | decide, by first | omega | decide, by rw [pg_ch.off (by omega)]; first | decide | omega, by rw [ht]; exact hP9, va_K.moved hW.alike hK9, hD9⟩⟩, hS.F ht⟩) hS.2.2 dX12_here_24
  · skip
    have fc1 : ¬ (v1.toInt ≤ v2.toInt) := fun h9 => c1 (Int32.le_iff_toInt_le.mpr h9)
    have r1c1 := Int32.toInt_lt v2
    have r2c1 := Int32.toInt_lt v1
    have r3c1 := Int32.le_toInt v2
    have r4c1 := Int32.le_toInt v1
    refine lv_aload_n hx hb dX12_here_11 rfl (lv_at hl 0 rfl) ?_
    refine va_get (D := (dC, dI)) (ci := 12) (v := .ref h1) (C := RX12) (T := TX12) (N := 48) hx hb hts (fun _ h => List.mem_cons_of_mem _ (List.mem_append_right _ h)) hown hK hP 0 rfl rfl 1 (by decide) (hts (.fieldLink RX12 9 "LeftArgumentsModel" "tape" "[I") (List.mem_cons_of_mem _ (List.mem_append_left _ (List.mem_of_getElem? (i := 2) rfl)))) (fun _ h9 => h9) rfl dX12_here_12 ?_
    refine lv_aload_n hx hb dX12_here_15 rfl (lv_at hl 0 rfl) ?_
    refine va_get (D := (dC, dI)) (ci := 12) (v := .int v2) (C := RX12) (T := TX12) (N := 48) hx hb hts (fun _ h => List.mem_cons_of_mem _ (List.mem_append_right _ h)) hown hK hP 0 rfl rfl 3 (by decide) (hts (.fieldLink RX12 112 "LeftArgumentsModel" "at" "I") (List.mem_cons_of_mem _ (List.mem_append_left _ (List.mem_of_getElem? (i := 0) rfl)))) (fun _ h9 => h9) rfl dX12_here_16 ?_
    refine va_iald hx hb hK hP 1 0 rfl rfl (vp_in_iff.mpr ⟨by omega, by omega⟩) dX12_here_19 ?_
    refine lv_topi (fun t2 et2 => ?_)
    have gat2 : 0 ≤ t2.toInt ∧ t2.toInt ≤ 255 := by rw [et2]; exact ia_f20 _
    refine lv_goto (tgt := 24) hx hb dX12_here_20 (by decide) ?_
    subst hQ
    have hP9 := hP.sub (ws' := (wd_f4cd022e h0 v0 h1 v1 v2 v3 v4 r0 r1 r2 r3 r4 r5 r6 v5 v6 r7 r8 r9 r10 v7 r11 r12 v8 v9 r13 r14 v10 v11 r15 v12 v13 r16 v14 w15 r17 v16 v17 r18 r19 r20 r21 r22 r23 v18 r24 r25 r26 v19 h1 g0 f20)) [0, 1] rfl
    have hD9 := hD.sub (ws' := (wd_f4cd022e h0 v0 h1 v1 v2 v3 v4 r0 r1 r2 r3 r4 r5 r6 v5 v6 r7 r8 r9 r10 v7 r11 r12 v8 v9 r13 r14 v10 v11 r15 v12 v13 r16 v14 w15 r17 v16 v17 r18 r19 r20 r21 r22 r23 v18 r24 r25 r26 v19 h1 g0 f20)) [0, 1] (by decide) rfl
    have hK9 := hK.sub (tys' := []) [] rfl
    exact W.iret (v := t2) hx hb hr (fun t ht hW => ⟨⟨t2, t2, rfl, rfl, Or.inr (⟨by first | omega | decide, by first | omega | decide, by first | omega | decide, by rw [et2], by rw [pg_ch.on (by omega), et2]; rfl, by rw [ht]; exact hP9, va_K.moved hW.alike hK9, hD9⟩)⟩, hS.F ht⟩) hS.2.2 dX12_here_24
def q_X12_look : List Cond := .code yX12_look cX12_look 1 (some .int) :: (([.code yX12_here cX12_here 1 (some .int), .fieldLink RX12 112 "LeftArgumentsModel" "at" "I", .fieldLink RX12 109 "LeftArgumentsModel" "size" "I", .fieldLink RX12 9 "LeftArgumentsModel" "tape" "[I", .initialized RX12, .instanceMethod yX12_here, .selects RX12 yX12_here yX12_here, .methodLink RX12 115 yX12_here] : List Cond) ++ wsX120)
set_option maxRecDepth 20000 in
theorem g_X12_look_0 : GoodIn q_X12_look (wsV RX12 115 RX12 yX12_here q_X12_here) := goodIn_app (goodIn_r _ [8, 6, 7, 5] rfl (by decide +kernel)) (goodIn_ca (goodIn_r (.code yX12_here cX12_here 1 (some .int) :: [.fieldLink RX12 112 "LeftArgumentsModel" "at" "I", .fieldLink RX12 109 "LeftArgumentsModel" "size" "I", .fieldLink RX12 9 "LeftArgumentsModel" "tape" "[I"]) [1, 2, 3, 4] rfl (by decide +kernel)) (goodIn_sub (fun _ h => List.mem_cons_of_mem _ (List.mem_append_right _ h)) gwX12))
set_option maxHeartbeats 4000000 in
set_option maxRecDepth 100000 in
theorem k_X12_look (l : Launch) (dC : Nat → ClassId) (dI : Nat → Nat → Nat) (h0 : Nat) (h1 : Nat) (v0 : Int32) (v1 : Int32) (v2 : Int32) (v3 : Int32) (v4 : Int32) (r0 : Nat) (r1 : Nat) (r2 : Nat) (r3 : Nat) (r4 : Nat) (r5 : Nat) (r6 : Nat) (v5 : Int32) (v6 : Int32) (r7 : Nat) (r8 : Nat) (r9 : Nat) (r10 : Nat) (v7 : Int32) (r11 : Nat) (r12 : Nat) (v8 : Int32) (v9 : Int32) (r13 : Nat) (r14 : Nat) (v10 : Int32) (v11 : Int32) (r15 : Nat) (v12 : Int32) (v13 : Int32) (r16 : Nat) (v14 : Int32) (w15 : Int64) (r17 : Nat) (v16 : Int32) (v17 : Int32) (r18 : Nat) (r19 : Nat) (r20 : Nat) (r21 : Nat) (r22 : Nat) (r23 : Nat) (v18 : Int32) (r24 : Nat) (r25 : Nat) (r26 : Nat) (v19 : Int32) (g0 : ClassId) (f20 : Nat → Int32) (i_v1 : 0 ≤ v1.toInt ∧ v1.toInt ≤ 240) (i_v2 : 0 ≤ v2.toInt ∧ v2.toInt ≤ 240) (i_v5 : 0 ≤ v5.toInt ∧ v5.toInt ≤ 4) (i_v6 : 0 ≤ v6.toInt ∧ v6.toInt ≤ 4) (i_v7 : 0 ≤ v7.toInt ∧ v7.toInt ≤ 8) (i_v8 : 0 ≤ v8.toInt ∧ v8.toInt ≤ 8) (i_v9 : 0 ≤ v9.toInt ∧ v9.toInt ≤ 1) (i_v10 : -1 ≤ v10.toInt ∧ v10.toInt ≤ 3) (i_v14 : 0 ≤ v14.toInt ∧ v14.toInt ≤ 40) (i_v18 : 0 ≤ v18.toInt ∧ v18.toInt ≤ 10) (i_v19 : 0 ≤ v19.toInt ∧ v19.toInt ≤ 1) (ia_f20 : (∀ j, 0 ≤ (f20 j).toInt ∧ (f20 j).toInt ≤ 255)) (sz : Nat) : Met l yX12_look q_X12_look ({ frames := 1, cells := 0, slots := 0, locals := 20 }) (va_Pc [.ref h0] (fun U => U.heap.size = sz ∧ va_P (dC, dI) vwCl (wd_f4cd022e h0 v0 h1 v1 v2 v3 v4 r0 r1 r2 r3 r4 r5 r6 v5 v6 r7 r8 r9 r10 v7 r11 r12 v8 v9 r13 r14 v10 v11 r15 v12 v13 r16 v14 w15 r17 v16 v17 r18 r19 r20 r21 r22 r23 v18 r24 r25 r26 v19 h1 g0 f20) U.heap ∧ va_K (dC, dI) vwCl [(g0, .int)] U ∧ va_D (fun _ => True) (wd_f4cd022e h0 v0 h1 v1 v2 v3 v4 r0 r1 r2 r3 r4 r5 r6 v5 v6 r7 r8 r9 r10 v7 r11 r12 v8 v9 r13 r14 v10 v11 r15 v12 v13 r16 v14 w15 r17 v16 v17 r18 r19 r20 r21 r22 r23 v18 r24 r25 r26 v19 h1 g0 f20))) (va_Qi (fun (r : Int32) (r9 : Int32) => r9 = r) (fun (r : Int32) (t : State) => (∃ (o_h0_3 : Int32), 0 ≤ o_h0_3.toInt ∧ o_h0_3.toInt ≤ 240 ∧ (-1 ≤ r.toInt) ∧ (r.toInt ≤ -1) ∧ (v2.toInt ≤ o_h0_3.toInt) ∧ (v1.toInt ≤ o_h0_3.toInt) ∧ (pg_s f20 v1.toInt v2.toInt = o_h0_3.toInt) ∧ (r.toInt = pg_ch f20 v1.toInt o_h0_3.toInt) ∧ (¬ pg_ch f20 v1.toInt o_h0_3.toInt = 32) ∧ va_P (dC, dI) vwCl (wd_f4cd022e h0 v0 h1 v1 o_h0_3 v3 v4 r0 r1 r2 r3 r4 r5 r6 v5 v6 r7 r8 r9 r10 v7 r11 r12 v8 v9 r13 r14 v10 v11 r15 v12 v13 r16 v14 w15 r17 v16 v17 r18 r19 r20 r21 r22 r23 v18 r24 r25 r26 v19 h1 g0 f20) t.heap ∧ va_K (dC, dI) vwCl [] t ∧ va_D (va_A (wd_f4cd022e h0 v0 h1 v1 v2 v3 v4 r0 r1 r2 r3 r4 r5 r6 v5 v6 r7 r8 r9 r10 v7 r11 r12 v8 v9 r13 r14 v10 v11 r15 v12 v13 r16 v14 w15 r17 v16 v17 r18 r19 r20 r21 r22 r23 v18 r24 r25 r26 v19 h1 g0 f20) sz) (wd_f4cd022e h0 v0 h1 v1 o_h0_3 v3 v4 r0 r1 r2 r3 r4 r5 r6 v5 v6 r7 r8 r9 r10 v7 r11 r12 v8 v9 r13 r14 v10 v11 r15 v12 v13 r16 v14 w15 r17 v16 v17 r18 r19 r20 r21 r22 r23 v18 r24 r25 r26 v19 h1 g0 f20)) ∨ (∃ (o_h0_3 : Int32), 0 ≤ o_h0_3.toInt ∧ o_h0_3.toInt ≤ 239 ∧ (0 ≤ r.toInt) ∧ (r.toInt ≤ 255) ∧ (v2.toInt ≤ o_h0_3.toInt) ∧ (o_h0_3.toInt < v1.toInt) ∧ (r.toInt = (f20 (Int32.toNatClampNeg o_h0_3)).toInt) ∧ (pg_s f20 v1.toInt v2.toInt = o_h0_3.toInt) ∧ (r.toInt = pg_ch f20 v1.toInt o_h0_3.toInt) ∧ (¬ pg_ch f20 v1.toInt o_h0_3.toInt = 32) ∧ va_P (dC, dI) vwCl (wd_f4cd022e h0 v0 h1 v1 o_h0_3 v3 v4 r0 r1 r2 r3 r4 r5 r6 v5 v6 r7 r8 r9 r10 v7 r11 r12 v8 v9 r13 r14 v10 v11 r15 v12 v13 r16 v14 w15 r17 v16 v17 r18 r19 r20 r21 r22 r23 v18 r24 r25 r26 v19 h1 g0 f20) t.heap ∧ va_K (dC, dI) vwCl [] t ∧ va_D (va_A (wd_f4cd022e h0 v0 h1 v1 v2 v3 v4 r0 r1 r2 r3 r4 r5 r6 v5 v6 r7 r8 r9 r10 v7 r11 r12 v8 v9 r13 r14 v10 v11 r15 v12 v13 r16 v14 w15 r17 v16 v17 r18 r19 r20 r21 r22 r23 v18 r24 r25 r26 v19 h1 g0 f20) sz) (wd_f4cd022e h0 v0 h1 v1 o_h0_3 v3 v4 r0 r1 r2 r3 r4 r5 r6 v5 v6 r7 r8 r9 r10 v7 r11 r12 v8 v9 r13 r14 v10 v11 r15 v12 v13 r16 v14 w15 r17 v16 v17 r18 r19 r20 r21 r22 r23 v18 r24 r25 r26 v19 h1 g0 f20))) (va_A (wd_f4cd022e h0 v0 h1 v1 v2 v3 v4 r0 r1 r2 r3 r4 r5 r6 v5 v6 r7 r8 r9 r10 v7 r11 r12 v8 v9 r13 r14 v10 v11 r15 v12 v13 r16 v14 w15 r17 v16 v17 r18 r19 r20 r21 r22 r23 v18 r24 r25 r26 v19 h1 g0 f20) sz)) 0 0 (va_A (wd_f4cd022e h0 v0 h1 v1 v2 v3 v4 r0 r1 r2 r3 r4 r5 r6 v5 v6 r7 r8 r9 r10 v7 r11 r12 v8 v9 r13 r14 v10 v11 r15 v12 v13 r16 v14 w15 r17 v16 v17 r18 r19 r20 r21 r22 r23 v18 r24 r25 r26 v19 h1 g0 f20) sz) := by
  refine Met.ofW (cc := cX12_look) (maxL := 1) (ret := (some .int)) (by decide) rfl ?_
  intro p e s m args below meth c s₁ B hml hv
  obtain ⟨i_v1a, i_v1b⟩ := i_v1
  obtain ⟨i_v2a, i_v2b⟩ := i_v2
  obtain ⟨i_v5a, i_v5b⟩ := i_v5
  obtain ⟨i_v6a, i_v6b⟩ := i_v6
  obtain ⟨i_v7a, i_v7b⟩ := i_v7
  obtain ⟨i_v8a, i_v8b⟩ := i_v8
  obtain ⟨i_v9a, i_v9b⟩ := i_v9
  obtain ⟨i_v10a, i_v10b⟩ := i_v10
  obtain ⟨i_v14a, i_v14b⟩ := i_v14
  obtain ⟨i_v18a, i_v18b⟩ := i_v18
  obtain ⟨i_v19a, i_v19b⟩ := i_v19
  obtain ⟨rfl, hsz, hP, hK, hD0⟩ := hv
  have hx := B.exec
  have hb := B.bytes
  have hr := B.returns
  have hts := atoms_spec (ws := q_X12_look) B.pre
  have hown : s.vm.findClass RX12 = some m.cls := findClass_of_methodNamed B.named
  have hlocks := B.notSynchronized
  subst hsz
  have hD := hD0.self (sz := s.heap.size)
  generalize hAe : va_A (wd_f4cd022e h0 v0 h1 v1 v2 v3 v4 r0 r1 r2 r3 r4 r5 r6 v5 v6 r7 r8 r9 r10 v7 r11 r12 v8 v9 r13 r14 v10 v11 r15 v12 v13 r16 v14 w15 r17 v16 v17 r18 r19 r20 r21 r22 r23 v18 r24 r25 r26 v19 h1 g0 f20) s.heap.size = A at hD ⊢
  have hA : ∀ q : Nat, s.heap.size ≤ q → A q := fun q h => by rw [← hAe]; exact Or.inr h
  have hS : va_S A s.heap s.heap [] := va_S.rf
  generalize hQ : (MQ below _ _ s 0 0 A) = Q
  have hl := lv_entry ([.ref h0]) (n := 1) (Nat.le_of_ble_eq_true rfl)
  rw [lg_entry_eq]
  generalize (lg_sl ([.ref h0]) ++ List.replicate (1 - (lg_sl ([.ref h0])).length) Slot.unset).toArray = ls at hl ⊢
  have hl : lv_has ls 1 [(0, .ref h0)] := hl
  obtain ⟨H, hH⟩ : ∃ H : Heap, H = s.heap := ⟨_, rfl⟩
  obtain ⟨locs, hlocs⟩ : ∃ y : List Loc, y = [] := ⟨_, rfl⟩
  have hS : va_S A s.heap H locs := by rw [hH, hlocs]; exact va_S.rf
  have hP : va_P (dC, dI) vwCl (wd_f4cd022e h0 v0 h1 v1 v2 v3 v4 r0 r1 r2 r3 r4 r5 r6 v5 v6 r7 r8 r9 r10 v7 r11 r12 v8 v9 r13 r14 v10 v11 r15 v12 v13 r16 v14 w15 r17 v16 v17 r18 r19 r20 r21 r22 r23 v18 r24 r25 r26 v19 h1 g0 f20) H := by rw [hH]; exact hP
  rw [← hH, ← hlocs]
  have hL3 : ∀ (n9 : Nat), ∀ (x1 : Int32) (H : Heap) (locs : List Loc) (ls : Array Slot), 0 ≤ x1.toInt → x1.toInt ≤ 240 → (v2.toInt ≤ x1.toInt) → (pg_Bl f20 v1.toInt v2.toInt x1.toInt) → (240 - x1.toInt).toNat < n9 → va_P (dC, dI) vwCl (wd_f4cd022e h0 v0 h1 v1 x1 v3 v4 r0 r1 r2 r3 r4 r5 r6 v5 v6 r7 r8 r9 r10 v7 r11 r12 v8 v9 r13 r14 v10 v11 r15 v12 v13 r16 v14 w15 r17 v16 v17 r18 r19 r20 r21 r22 r23 v18 r24 r25 r26 v19 h1 g0 f20) H → va_D A (wd_f4cd022e h0 v0 h1 v1 x1 v3 v4 r0 r1 r2 r3 r4 r5 r6 v5 v6 r7 r8 r9 r10 v7 r11 r12 v8 v9 r13 r14 v10 v11 r15 v12 v13 r16 v14 w15 r17 v16 v17 r18 r19 r20 r21 r22 r23 v18 r24 r25 r26 v19 h1 g0 f20) → va_S A s.heap H locs → lv_has ls 1 [(0, .ref h0)] → W p l e ({ frames := 1, cells := 0, slots := 0, locals := 20 }) s m ([.ref h0] : List Value).toArray below meth c H locs 0 0 Q (F0 m 0 ls []) := by
    intro n9
    induction n9 with
    | zero => intro x1 H locs ls qa_x1 qb_x1 gh0_hL3 gh1_hL3 hm9 hP hD hS hl; exact absurd hm9 (Nat.not_lt_zero _)
    | succ n9 ih_hL3 =>
      intro x1 H locs ls qa_x1 qb_x1 gh0_hL3 gh1_hL3 hm9 hP hD hS hl
      refine lv_aload_n hx hb dX12_look_0 rfl (lv_at hl 0 rfl) ?_
      have hPc := hP.sub (ws' := (wd_f4cd022e h0 v0 h1 v1 x1 v3 v4 r0 r1 r2 r3 r4 r5 r6 v5 v6 r7 r8 r9 r10 v7 r11 r12 v8 v9 r13 r14 v10 v11 r15 v12 v13 r16 v14 w15 r17 v16 v17 r18 r19 r20 r21 r22 r23 v18 r24 r25 r26 v19 h1 g0 f20)) [0, 1] rfl
      have hDc := hD.sub (ws' := (wd_f4cd022e h0 v0 h1 v1 x1 v3 v4 r0 r1 r2 r3 r4 r5 r6 v5 v6 r7 r8 r9 r10 v7 r11 r12 v8 v9 r13 r14 v10 v11 r15 v12 v13 r16 v14 w15 r17 v16 v17 r18 r19 r20 r21 r22 r23 v18 r24 r25 r26 v19 h1 g0 f20)) [0, 1] (by decide) rfl
      have hKc := hK.sub (tys' := [(g0, .int)]) [0] rfl
      have hFc := va_free (wc := (wd_f4cd022e h0 v0 h1 v1 x1 v3 v4 r0 r1 r2 r3 r4 r5 r6 v5 v6 r7 r8 r9 r10 v7 r11 r12 v8 v9 r13 r14 v10 v11 r15 v12 v13 r16 v14 w15 r17 v16 v17 r18 r19 r20 r21 r22 r23 v18 r24 r25 r26 v19 h1 g0 f20)) hD hS hA [0, 1] rfl
      refine va_calli (va_runV (As := []) (rest := []) ⟨hx, hb, hml, hown, hts⟩ (k_X12_here l dC dI h0 h1 v0 v1 x1 v3 v4 r0 r1 r2 r3 r4 r5 r6 v5 v6 r7 r8 r9 r10 v7 r11 r12 v8 v9 r13 r14 v10 v11 r15 v12 v13 r16 v14 w15 r17 v16 v17 r18 r19 r20 r21 r22 r23 v18 r24 r25 r26 v19 g0 f20 ⟨i_v1a, i_v1b⟩ ⟨qa_x1, qb_x1⟩ ⟨i_v5a, i_v5b⟩ ⟨i_v6a, i_v6b⟩ ⟨i_v7a, i_v7b⟩ ⟨i_v8a, i_v8b⟩ ⟨i_v9a, i_v9b⟩ ⟨i_v10a, i_v10b⟩ ⟨i_v14a, i_v14b⟩ ⟨i_v18a, i_v18b⟩ ⟨i_v19a, i_v19b⟩ ia_f20 H.size) (cwV 0 hts g_X12_look_0 rfl rfl rfl (by decide +kernel) ⟨Nat.le_of_ble_eq_true rfl, Nat.le_of_ble_eq_true rfl⟩) (pv_PV12 hPc hKc hDc (q0 := 0) rfl) rfl rfl hl.1 rfl (lv_room (Nat.le_of_ble_eq_true rfl)) dX12_look_1 ⟨Nat.le_of_ble_eq_true rfl, Nat.le_of_ble_eq_true rfl⟩) hS (fun q _ h => hFc q h) hFc (fun ra4 u t H1 locs ht hvm hwra4 hB hz1 hk1 hS => ?_)
      try rw [hwra4] at hB
      rcases hB with hB | hB
      · skip
        obtain ⟨pt0_ra4, pt1_ra4, pt2_ra4, pt3_ra4, hP1, hK1, hD1⟩ := hB
        rw [ht] at hP1
        obtain ⟨hP2, hD2⟩ := va_join (wr := []) (w1 := (wd_f4cd022e h0 v0 h1 v1 x1 v3 v4 r0 r1 r2 r3 r4 r5 r6 v5 v6 r7 r8 r9 r10 v7 r11 r12 v8 v9 r13 r14 v10 v11 r15 v12 v13 r16 v14 w15 r17 v16 v17 r18 r19 r20 r21 r22 r23 v18 r24 r25 r26 v19 h1 g0 f20)) hP hD [0, 1] [] rfl rfl (by decide) (by decide) hk1 hFc hP1 hD1
        clear hP hD hPc hDc hKc hFc hP1 hK1 hD1 hk1 hz1
        generalize H1 = H at hP2 hS ⊢
        have hP : va_P (dC, dI) vwCl (wd_f4cd022e h0 v0 h1 v1 x1 v3 v4 r0 r1 r2 r3 r4 r5 r6 v5 v6 r7 r8 r9 r10 v7 r11 r12 v8 v9 r13 r14 v10 v11 r15 v12 v13 r16 v14 w15 r17 v16 v17 r18 r19 r20 r21 r22 r23 v18 r24 r25 r26 v19 h1 g0 f20) H := hP2
        have hD : va_D A (wd_f4cd022e h0 v0 h1 v1 x1 v3 v4 r0 r1 r2 r3 r4 r5 r6 v5 v6 r7 r8 r9 r10 v7 r11 r12 v8 v9 r13 r14 v10 v11 r15 v12 v13 r16 v14 w15 r17 v16 v17 r18 r19 r20 r21 r22 r23 v18 r24 r25 r26 v19 h1 g0 f20) := hD2
        clear hP2 hD2
        obtain rfl : ra4 = ((-1) : Int32) := pv_cs (by decide) pt0_ra4 pt1_ra4
        refine lv_bipush (v := 32) hx hb dX12_look_4 (by decide) ?_
        refine lv_icmp_ne (tgt := 22) hx hb dX12_look_6 (by decide) (fun _ => ?_) (fun c => absurd c (by decide))
        refine lv_aload_n hx hb dX12_look_22 rfl (lv_at hl 0 rfl) ?_
        have hPc := hP.sub (ws' := (wd_f4cd022e h0 v0 h1 v1 x1 v3 v4 r0 r1 r2 r3 r4 r5 r6 v5 v6 r7 r8 r9 r10 v7 r11 r12 v8 v9 r13 r14 v10 v11 r15 v12 v13 r16 v14 w15 r17 v16 v17 r18 r19 r20 r21 r22 r23 v18 r24 r25 r26 v19 h1 g0 f20)) [0, 1] rfl
        have hDc := hD.sub (ws' := (wd_f4cd022e h0 v0 h1 v1 x1 v3 v4 r0 r1 r2 r3 r4 r5 r6 v5 v6 r7 r8 r9 r10 v7 r11 r12 v8 v9 r13 r14 v10 v11 r15 v12 v13 r16 v14 w15 r17 v16 v17 r18 r19 r20 r21 r22 r23 v18 r24 r25 r26 v19 h1 g0 f20)) [0, 1] (by decide) rfl
        have hKc := hK.sub (tys' := [(g0, .int)]) [0] rfl
        have hFc := va_free (wc := (wd_f4cd022e h0 v0 h1 v1 x1 v3 v4 r0 r1 r2 r3 r4 r5 r6 v5 v6 r7 r8 r9 r10 v7 r11 r12 v8 v9 r13 r14 v10 v11 r15 v12 v13 r16 v14 w15 r17 v16 v17 r18 r19 r20 r21 r22 r23 v18 r24 r25 r26 v19 h1 g0 f20)) hD hS hA [0, 1] rfl
        refine va_calli (va_runV (As := []) (rest := []) ⟨hx, hb, hml, hown, hts⟩ (k_X12_here l dC dI h0 h1 v0 v1 x1 v3 v4 r0 r1 r2 r3 r4 r5 r6 v5 v6 r7 r8 r9 r10 v7 r11 r12 v8 v9 r13 r14 v10 v11 r15 v12 v13 r16 v14 w15 r17 v16 v17 r18 r19 r20 r21 r22 r23 v18 r24 r25 r26 v19 g0 f20 ⟨i_v1a, i_v1b⟩ ⟨qa_x1, qb_x1⟩ ⟨i_v5a, i_v5b⟩ ⟨i_v6a, i_v6b⟩ ⟨i_v7a, i_v7b⟩ ⟨i_v8a, i_v8b⟩ ⟨i_v9a, i_v9b⟩ ⟨i_v10a, i_v10b⟩ ⟨i_v14a, i_v14b⟩ ⟨i_v18a, i_v18b⟩ ⟨i_v19a, i_v19b⟩ ia_f20 H.size) (cwV 0 hts g_X12_look_0 rfl rfl rfl (by decide +kernel) ⟨Nat.le_of_ble_eq_true rfl, Nat.le_of_ble_eq_true rfl⟩) (pv_PV12 hPc hKc hDc (q0 := 0) rfl) rfl rfl hl.1 rfl (lv_room (Nat.le_of_ble_eq_true rfl)) dX12_look_23 ⟨Nat.le_of_ble_eq_true rfl, Nat.le_of_ble_eq_true rfl⟩) hS (fun q _ h => hFc q h) hFc (fun ra5 u t H1 locs ht hvm hwra5 hB hz1 hk1 hS => ?_)
        try rw [hwra5] at hB
        rcases hB with hB | hB
        · skip
          obtain ⟨pt0_ra5, pt1_ra5, pt2_ra5, pt3_ra5, hP1, hK1, hD1⟩ := hB
          rw [ht] at hP1
          obtain ⟨hP2, hD2⟩ := va_join (wr := []) (w1 := (wd_f4cd022e h0 v0 h1 v1 x1 v3 v4 r0 r1 r2 r3 r4 r5 r6 v5 v6 r7 r8 r9 r10 v7 r11 r12 v8 v9 r13 r14 v10 v11 r15 v12 v13 r16 v14 w15 r17 v16 v17 r18 r19 r20 r21 r22 r23 v18 r24 r25 r26 v19 h1 g0 f20)) hP hD [0, 1] [] rfl rfl (by decide) (by decide) hk1 hFc hP1 hD1
          clear hP hD hPc hDc hKc hFc hP1 hK1 hD1 hk1 hz1
          generalize H1 = H at hP2 hS ⊢
          have hP : va_P (dC, dI) vwCl (wd_f4cd022e h0 v0 h1 v1 x1 v3 v4 r0 r1 r2 r3 r4 r5 r6 v5 v6 r7 r8 r9 r10 v7 r11 r12 v8 v9 r13 r14 v10 v11 r15 v12 v13 r16 v14 w15 r17 v16 v17 r18 r19 r20 r21 r22 r23 v18 r24 r25 r26 v19 h1 g0 f20) H := hP2
          have hD : va_D A (wd_f4cd022e h0 v0 h1 v1 x1 v3 v4 r0 r1 r2 r3 r4 r5 r6 v5 v6 r7 r8 r9 r10 v7 r11 r12 v8 v9 r13 r14 v10 v11 r15 v12 v13 r16 v14 w15 r17 v16 v17 r18 r19 r20 r21 r22 r23 v18 r24 r25 r26 v19 h1 g0 f20) := hD2
          clear hP2 hD2
          obtain rfl : ra5 = ((-1) : Int32) := pv_cs (by decide) pt0_ra5 pt1_ra5
          subst hQ
          have hP9 := hP.sub (ws' := (wd_f4cd022e h0 v0 h1 v1 x1 v3 v4 r0 r1 r2 r3 r4 r5 r6 v5 v6 r7 r8 r9 r10 v7 r11 r12 v8 v9 r13 r14 v10 v11 r15 v12 v13 r16 v14 w15 r17 v16 v17 r18 r19 r20 r21 r22 r23 v18 r24 r25 r26 v19 h1 g0 f20)) [0, 1] rfl
          have hD9 := hD.sub (ws' := (wd_f4cd022e h0 v0 h1 v1 x1 v3 v4 r0 r1 r2 r3 r4 r5 r6 v5 v6 r7 r8 r9 r10 v7 r11 r12 v8 v9 r13 r14 v10 v11 r15 v12 v13 r16 v14 w15 r17 v16 v17 r18 r19 r20 r21 r22 r23 v18 r24 r25 r26 v19 h1 g0 f20)) [0, 1] (by decide) rfl
          have hK9 := hK.sub (tys' := []) [] rfl
          exact W.iret (v := (-1)) hx hb hr (fun t ht hW => ⟨⟨(-1), (-1), rfl, rfl, Or.inl ⟨x1, qa_x1, qb_x1, by first | omega | decide, by first | omega | decide, by first | omega | decide, by first | omega | decide, by apply pg_Bl.eq <;> first | assumption | omega, by omega, by omega, by rw [ht]; exact hP9, va_K.moved hW.alike hK9, hD9⟩⟩, hS.F ht⟩) hS.2.2 dX12_look_26
        · skip
          obtain ⟨pt0_ra5, pt1_ra5, pt2_ra5, pt3_ra5, pt4_ra5, hP1, hK1, hD1⟩ := hB
          rw [ht] at hP1
          obtain ⟨hP2, hD2⟩ := va_join (wr := []) (w1 := (wd_f4cd022e h0 v0 h1 v1 x1 v3 v4 r0 r1 r2 r3 r4 r5 r6 v5 v6 r7 r8 r9 r10 v7 r11 r12 v8 v9 r13 r14 v10 v11 r15 v12 v13 r16 v14 w15 r17 v16 v17 r18 r19 r20 r21 r22 r23 v18 r24 r25 r26 v19 h1 g0 f20)) hP hD [0, 1] [] rfl rfl (by decide) (by decide) hk1 hFc hP1 hD1
          clear hP hD hPc hDc hKc hFc hP1 hK1 hD1 hk1 hz1
          generalize H1 = H at hP2 hS ⊢
          have hP : va_P (dC, dI) vwCl (wd_f4cd022e h0 v0 h1 v1 x1 v3 v4 r0 r1 r2 r3 r4 r5 r6 v5 v6 r7 r8 r9 r10 v7 r11 r12 v8 v9 r13 r14 v10 v11 r15 v12 v13 r16 v14 w15 r17 v16 v17 r18 r19 r20 r21 r22 r23 v18 r24 r25 r26 v19 h1 g0 f20) H := hP2
          have hD : va_D A (wd_f4cd022e h0 v0 h1 v1 x1 v3 v4 r0 r1 r2 r3 r4 r5 r6 v5 v6 r7 r8 r9 r10 v7 r11 r12 v8 v9 r13 r14 v10 v11 r15 v12 v13 r16 v14 w15 r17 v16 v17 r18 r19 r20 r21 r22 r23 v18 r24 r25 r26 v19 h1 g0 f20) := hD2
          clear hP2 hD2
          exfalso; omega
      · skip
        obtain ⟨pt0_ra4, pt1_ra4, pt2_ra4, pt3_ra4, pt4_ra4, hP1, hK1, hD1⟩ := hB
        rw [ht] at hP1
        obtain ⟨hP2, hD2⟩ := va_join (wr := []) (w1 := (wd_f4cd022e h0 v0 h1 v1 x1 v3 v4 r0 r1 r2 r3 r4 r5 r6 v5 v6 r7 r8 r9 r10 v7 r11 r12 v8 v9 r13 r14 v10 v11 r15 v12 v13 r16 v14 w15 r17 v16 v17 r18 r19 r20 r21 r22 r23 v18 r24 r25 r26 v19 h1 g0 f20)) hP hD [0, 1] [] rfl rfl (by decide) (by decide) hk1 hFc hP1 hD1
        clear hP hD hPc hDc hKc hFc hP1 hK1 hD1 hk1 hz1
        generalize H1 = H at hP2 hS ⊢
        have hP : va_P (dC, dI) vwCl (wd_f4cd022e h0 v0 h1 v1 x1 v3 v4 r0 r1 r2 r3 r4 r5 r6 v5 v6 r7 r8 r9 r10 v7 r11 r12 v8 v9 r13 r14 v10 v11 r15 v12 v13 r16 v14 w15 r17 v16 v17 r18 r19 r20 r21 r22 r23 v18 r24 r25 r26 v19 h1 g0 f20) H := hP2
        have hD : va_D A (wd_f4cd022e h0 v0 h1 v1 x1 v3 v4 r0 r1 r2 r3 r4 r5 r6 v5 v6 r7 r8 r9 r10 v7 r11 r12 v8 v9 r13 r14 v10 v11 r15 v12 v13 r16 v14 w15 r17 v16 v17 r18 r19 r20 r21 r22 r23 v18 r24 r25 r26 v19 h1 g0 f20) := hD2
        clear hP2 hD2
        refine lv_bipush (v := 32) hx hb dX12_look_4 (by decide) ?_
        refine lv_icmp_ne (tgt := 22) hx hb dX12_look_6 (by decide) (fun c6 => ?_) (fun c6 => ?_)
        · skip
          have fc6 : ¬ (ra4.toInt = 32) := fun h9 => c6 (Int32.toInt_inj.mp h9)
          refine lv_aload_n hx hb dX12_look_22 rfl (lv_at hl 0 rfl) ?_
          have hPc := hP.sub (ws' := (wd_f4cd022e h0 v0 h1 v1 x1 v3 v4 r0 r1 r2 r3 r4 r5 r6 v5 v6 r7 r8 r9 r10 v7 r11 r12 v8 v9 r13 r14 v10 v11 r15 v12 v13 r16 v14 w15 r17 v16 v17 r18 r19 r20 r21 r22 r23 v18 r24 r25 r26 v19 h1 g0 f20)) [0, 1] rfl
          have hDc := hD.sub (ws' := (wd_f4cd022e h0 v0 h1 v1 x1 v3 v4 r0 r1 r2 r3 r4 r5 r6 v5 v6 r7 r8 r9 r10 v7 r11 r12 v8 v9 r13 r14 v10 v11 r15 v12 v13 r16 v14 w15 r17 v16 v17 r18 r19 r20 r21 r22 r23 v18 r24 r25 r26 v19 h1 g0 f20)) [0, 1] (by decide) rfl
          have hKc := hK.sub (tys' := [(g0, .int)]) [0] rfl
          have hFc := va_free (wc := (wd_f4cd022e h0 v0 h1 v1 x1 v3 v4 r0 r1 r2 r3 r4 r5 r6 v5 v6 r7 r8 r9 r10 v7 r11 r12 v8 v9 r13 r14 v10 v11 r15 v12 v13 r16 v14 w15 r17 v16 v17 r18 r19 r20 r21 r22 r23 v18 r24 r25 r26 v19 h1 g0 f20)) hD hS hA [0, 1] rfl
          refine va_calli (va_runV (As := []) (rest := []) ⟨hx, hb, hml, hown, hts⟩ (k_X12_here l dC dI h0 h1 v0 v1 x1 v3 v4 r0 r1 r2 r3 r4 r5 r6 v5 v6 r7 r8 r9 r10 v7 r11 r12 v8 v9 r13 r14 v10 v11 r15 v12 v13 r16 v14 w15 r17 v16 v17 r18 r19 r20 r21 r22 r23 v18 r24 r25 r26 v19 g0 f20 ⟨i_v1a, i_v1b⟩ ⟨qa_x1, qb_x1⟩ ⟨i_v5a, i_v5b⟩ ⟨i_v6a, i_v6b⟩ ⟨i_v7a, i_v7b⟩ ⟨i_v8a, i_v8b⟩ ⟨i_v9a, i_v9b⟩ ⟨i_v10a, i_v10b⟩ ⟨i_v14a, i_v14b⟩ ⟨i_v18a, i_v18b⟩ ⟨i_v19a, i_v19b⟩ ia_f20 H.size) (cwV 0 hts g_X12_look_0 rfl rfl rfl (by decide +kernel) ⟨Nat.le_of_ble_eq_true rfl, Nat.le_of_ble_eq_true rfl⟩) (pv_PV12 hPc hKc hDc (q0 := 0) rfl) rfl rfl hl.1 rfl (lv_room (Nat.le_of_ble_eq_true rfl)) dX12_look_23 ⟨Nat.le_of_ble_eq_true rfl, Nat.le_of_ble_eq_true rfl⟩) hS (fun q _ h => hFc q h) hFc (fun ra7 u t H1 locs ht hvm hwra7 hB hz1 hk1 hS => ?_)
          try rw [hwra7] at hB
          rcases hB with hB | hB
          · skip
            obtain ⟨pt0_ra7, pt1_ra7, pt2_ra7, pt3_ra7, hP1, hK1, hD1⟩ := hB
            rw [ht] at hP1
            obtain ⟨hP2, hD2⟩ := va_join (wr := []) (w1 := (wd_f4cd022e h0 v0 h1 v1 x1 v3 v4 r0 r1 r2 r3 r4 r5 r6 v5 v6 r7 r8 r9 r10 v7 r11 r12 v8 v9 r13 r14 v10 v11 r15 v12 v13 r16 v14 w15 r17 v16 v17 r18 r19 r20 r21 r22 r23 v18 r24 r25 r26 v19 h1 g0 f20)) hP hD [0, 1] [] rfl rfl (by decide) (by decide) hk1 hFc hP1 hD1
            clear hP hD hPc hDc hKc hFc hP1 hK1 hD1 hk1 hz1
            generalize H1 = H at hP2 hS ⊢
            have hP : va_P (dC, dI) vwCl (wd_f4cd022e h0 v0 h1 v1 x1 v3 v4 r0 r1 r2 r3 r4 r5 r6 v5 v6 r7 r8 r9 r10 v7 r11 r12 v8 v9 r13 r14 v10 v11 r15 v12 v13 r16 v14 w15 r17 v16 v17 r18 r19 r20 r21 r22 r23 v18 r24 r25 r26 v19 h1 g0 f20) H := hP2
            have hD : va_D A (wd_f4cd022e h0 v0 h1 v1 x1 v3 v4 r0 r1 r2 r3 r4 r5 r6 v5 v6 r7 r8 r9 r10 v7 r11 r12 v8 v9 r13 r14 v10 v11 r15 v12 v13 r16 v14 w15 r17 v16 v17 r18 r19 r20 r21 r22 r23 v18 r24 r25 r26 v19 h1 g0 f20) := hD2
            clear hP2 hD2
            obtain rfl : ra7 = ((-1) : Int32) := pv_cs (by decide) pt0_ra7 pt1_ra7
            exfalso; omega
          · skip
            obtain ⟨pt0_ra7, pt1_ra7, pt2_ra7, pt3_ra7, pt4_ra7, hP1, hK1, hD1⟩ := hB
            rw [ht] at hP1
            obtain ⟨hP2, hD2⟩ := va_join (wr := []) (w1 := (wd_f4cd022e h0 v0 h1 v1 x1 v3 v4 r0 r1 r2 r3 r4 r5 r6 v5 v6 r7 r8 r9 r10 v7 r11 r12 v8 v9 r13 r14 v10 v11 r15 v12 v13 r16 v14 w15 r17 v16 v17 r18 r19 r20 r21 r22 r23 v18 r24 r25 r26 v19 h1 g0 f20)) hP hD [0, 1] [] rfl rfl (by decide) (by decide) hk1 hFc hP1 hD1
            clear hP hD hPc hDc hKc hFc hP1 hK1 hD1 hk1 hz1
            generalize H1 = H at hP2 hS ⊢
            have hP : va_P (dC, dI) vwCl (wd_f4cd022e h0 v0 h1 v1 x1 v3 v4 r0 r1 r2 r3 r4 r5 r6 v5 v6 r7 r8 r9 r10 v7 r11 r12 v8 v9 r13 r14 v10 v11 r15 v12 v13 r16 v14 w15 r17 v16 v17 r18 r19 r20 r21 r22 r23 v18 r24 r25 r26 v19 h1 g0 f20) H := hP2
            have hD : va_D A (wd_f4cd022e h0 v0 h1 v1 x1 v3 v4 r0 r1 r2 r3 r4 r5 r6 v5 v6 r7 r8 r9 r10 v7 r11 r12 v8 v9 r13 r14 v10 v11 r15 v12 v13 r16 v14 w15 r17 v16 v17 r18 r19 r20 r21 r22 r23 v18 r24 r25 r26 v19 h1 g0 f20) := hD2
            clear hP2 hD2
            subst hQ
            have hP9 := hP.sub (ws' := (wd_f4cd022e h0 v0 h1 v1 x1 v3 v4 r0 r1 r2 r3 r4 r5 r6 v5 v6 r7 r8 r9 r10 v7 r11 r12 v8 v9 r13 r14 v10 v11 r15 v12 v13 r16 v14 w15 r17 v16 v17 r18 r19 r20 r21 r22 r23 v18 r24 r25 r26 v19 h1 g0 f20)) [0, 1] rfl
            have hD9 := hD.sub (ws' := (wd_f4cd022e h0 v0 h1 v1 x1 v3 v4 r0 r1 r2 r3 r4 r5 r6 v5 v6 r7 r8 r9 r10 v7 r11 r12 v8 v9 r13 r14 v10 v11 r15 v12 v13 r16 v14 w15 r17 v16 v17 r18 r19 r20 r21 r22 r23 v18 r24 r25 r26 v19 h1 g0 f20)) [0, 1] (by decide) rfl
            have hK9 := hK.sub (tys' := []) [] rfl
            exact W.iret (v := ra7) hx hb hr (fun t ht hW => ⟨⟨ra7, ra7, rfl, rfl, Or.inr (⟨x1, qa_x1, by first | omega | decide, by first | omega | decide, by first | omega | decide, by first | omega | decide, by first | omega | decide, by assumption, by apply pg_Bl.eq <;> first | assumption | omega, by omega, by omega, by rw [ht]; exact hP9, va_K.moved hW.alike hK9, hD9⟩)⟩, hS.F ht⟩) hS.2.2 dX12_look_26
        · skip
          have fc6 : ra4.toInt = 32 := congrArg Int32.toInt c6
          refine lv_aload_n hx hb dX12_look_9 rfl (lv_at hl 0 rfl) ?_
          refine lv_dup hx hb dX12_look_10 rfl ?_
          refine va_get (D := (dC, dI)) (ci := 12) (v := .int x1) (C := RX12) (T := TX12) (N := 48) hx hb hts (fun _ h => List.mem_cons_of_mem _ (List.mem_append_right _ h)) hown hK hP 0 rfl rfl 3 (by decide) (hts (.fieldLink RX12 112 "LeftArgumentsModel" "at" "I") (List.mem_cons_of_mem _ (List.mem_append_left _ (List.mem_of_getElem? (i := 1) rfl)))) (fun _ h9 => h9) rfl dX12_look_11 ?_
          refine lv_iconst (v := 1) hx hb dX12_look_14 (by decide) ?_
          refine lv_iadd hx hb dX12_look_15 ?_
          refine lv_topi (fun t8 et8 => ?_)
          have gt8 : t8.toInt = x1.toInt + 1 := pv_add (a := x1.toInt) (b := 1) et8 rfl (by decide) (by omega) (by omega)
          refine va_put (D := (dC, dI)) (ci := 12) (v := .int t8) (ty := .int) (C := RX12) (T := TX12) (N := 48) hx hb hts (fun _ h => List.mem_cons_of_mem _ (List.mem_append_right _ h)) tyX12 tyX12_ok nmX12 hown hK hP hD hS 0 rfl rfl 3 (by decide) (hts (.fieldLink RX12 112 "LeftArgumentsModel" "at" "I") (List.mem_cons_of_mem _ (List.mem_append_left _ (List.mem_of_getElem? (i := 1) rfl)))) (fun _ h9 => h9) rfl (by decide +kernel) rfl rfl (Nat.le_of_ble_eq_true rfl) dX12_look_16 (fun H locs hP hD hS => ?_)
          have hP : va_P (dC, dI) vwCl (wd_f4cd022e h0 v0 h1 v1 t8 v3 v4 r0 r1 r2 r3 r4 r5 r6 v5 v6 r7 r8 r9 r10 v7 r11 r12 v8 v9 r13 r14 v10 v11 r15 v12 v13 r16 v14 w15 r17 v16 v17 r18 r19 r20 r21 r22 r23 v18 r24 r25 r26 v19 h1 g0 f20) H := hP
          have hD : va_D A (wd_f4cd022e h0 v0 h1 v1 t8 v3 v4 r0 r1 r2 r3 r4 r5 r6 v5 v6 r7 r8 r9 r10 v7 r11 r12 v8 v9 r13 r14 v10 v11 r15 v12 v13 r16 v14 w15 r17 v16 v17 r18 r19 r20 r21 r22 r23 v18 r24 r25 r26 v19 h1 g0 f20) := hD
          refine lv_goto (tgt := 0) hx hb dX12_look_19 (by decide) ?_
          exact ih_hL3 t8 H locs ls (by first | omega | decide) (by first | omega | decide) (by omega) (by first | exact pg_Bl.refl _ | (apply pg_Bl.next <;> first | assumption | omega)) (by first | omega | (simp only [Int.toNat] at *; omega)) hP hD hS (lv_sub hl [0] rfl)
  exact hL3 _ v2 H locs ls i_v2a i_v2b (by omega) (by first | exact pg_Bl.refl _ | (apply pg_Bl.next <;> first | assumption | omega)) (Nat.lt_succ_self _) hP hD hS (lv_sub hl [0] rfl)
def q_X12_bad : List Cond := .code yX12_bad cX12_bad 1 none :: (([.fieldLink RX12 119 "LeftArgumentsModel" "wrong" "I", .fieldLink RX12 112 "LeftArgumentsModel" "at" "I"] : List Cond) ++ wsX120)
set_option maxHeartbeats 4000000 in
set_option maxRecDepth 100000 in
theorem k_X12_bad (l : Launch) (dC : Nat → ClassId) (dI : Nat → Nat → Nat) (h0 : Nat) (v0 : Int32) (r0 : Nat) (v1 : Int32) (v2 : Int32) (v3 : Int32) (r1 : Nat) (r2 : Nat) (r3 : Nat) (r4 : Nat) (r5 : Nat) (r6 : Nat) (r7 : Nat) (v4 : Int32) (v5 : Int32) (r8 : Nat) (r9 : Nat) (r10 : Nat) (r11 : Nat) (v6 : Int32) (r12 : Nat) (r13 : Nat) (v7 : Int32) (v8 : Int32) (r14 : Nat) (r15 : Nat) (v9 : Int32) (v10 : Int32) (r16 : Nat) (v11 : Int32) (v12 : Int32) (r17 : Nat) (v13 : Int32) (w14 : Int64) (r18 : Nat) (v15 : Int32) (v16 : Int32) (r19 : Nat) (r20 : Nat) (r21 : Nat) (r22 : Nat) (r23 : Nat) (r24 : Nat) (v17 : Int32) (r25 : Nat) (r26 : Nat) (r27 : Nat) (v18 : Int32) (i_v1 : 0 ≤ v1.toInt ∧ v1.toInt ≤ 240) (i_v2 : 0 ≤ v2.toInt ∧ v2.toInt ≤ 240) (i_v4 : 0 ≤ v4.toInt ∧ v4.toInt ≤ 4) (i_v5 : 0 ≤ v5.toInt ∧ v5.toInt ≤ 4) (i_v6 : 0 ≤ v6.toInt ∧ v6.toInt ≤ 8) (i_v7 : 0 ≤ v7.toInt ∧ v7.toInt ≤ 8) (i_v8 : 0 ≤ v8.toInt ∧ v8.toInt ≤ 1) (i_v9 : -1 ≤ v9.toInt ∧ v9.toInt ≤ 3) (i_v13 : 0 ≤ v13.toInt ∧ v13.toInt ≤ 40) (i_v17 : 0 ≤ v17.toInt ∧ v17.toInt ≤ 10) (i_v18 : 0 ≤ v18.toInt ∧ v18.toInt ≤ 1) (sz : Nat) : Met l yX12_bad q_X12_bad ({ frames := 0, cells := 0, slots := 0, locals := 0 }) (va_Pc [.ref h0] (fun U => U.heap.size = sz ∧ va_P (dC, dI) vwCl (wd_171f232f h0 v0 r0 v1 v2 (-1) v3 r1 r2 r3 r4 r5 r6 r7 v4 v5 r8 r9 r10 r11 v6 r12 r13 v7 v8 r14 r15 v9 v10 r16 v11 v12 r17 v13 w14 r18 v15 v16 r19 r20 r21 r22 r23 r24 v17 r25 r26 r27 v18) U.heap ∧ va_K (dC, dI) vwCl [] U ∧ va_D (fun _ => True) (wd_171f232f h0 v0 r0 v1 v2 (-1) v3 r1 r2 r3 r4 r5 r6 r7 v4 v5 r8 r9 r10 r11 v6 r12 r13 v7 v8 r14 r15 v9 v10 r16 v11 v12 r17 v13 w14 r18 v15 v16 r19 r20 r21 r22 r23 r24 v17 r25 r26 r27 v18))) (va_Qv (fun (_ : Unit) => True) (fun (_ : Unit) (t : State) => (∃ (o_h0_4 : Int32), 0 ≤ o_h0_4.toInt ∧ o_h0_4.toInt ≤ 240 ∧ (o_h0_4.toInt = v2.toInt) ∧ va_P (dC, dI) vwCl (wd_171f232f h0 v0 r0 v1 v2 o_h0_4 v3 r1 r2 r3 r4 r5 r6 r7 v4 v5 r8 r9 r10 r11 v6 r12 r13 v7 v8 r14 r15 v9 v10 r16 v11 v12 r17 v13 w14 r18 v15 v16 r19 r20 r21 r22 r23 r24 v17 r25 r26 r27 v18) t.heap ∧ va_K (dC, dI) vwCl [] t ∧ va_D (va_A (wd_171f232f h0 v0 r0 v1 v2 (-1) v3 r1 r2 r3 r4 r5 r6 r7 v4 v5 r8 r9 r10 r11 v6 r12 r13 v7 v8 r14 r15 v9 v10 r16 v11 v12 r17 v13 w14 r18 v15 v16 r19 r20 r21 r22 r23 r24 v17 r25 r26 r27 v18) sz) (wd_171f232f h0 v0 r0 v1 v2 o_h0_4 v3 r1 r2 r3 r4 r5 r6 r7 v4 v5 r8 r9 r10 r11 v6 r12 r13 v7 v8 r14 r15 v9 v10 r16 v11 v12 r17 v13 w14 r18 v15 v16 r19 r20 r21 r22 r23 r24 v17 r25 r26 r27 v18))) (va_A (wd_171f232f h0 v0 r0 v1 v2 (-1) v3 r1 r2 r3 r4 r5 r6 r7 v4 v5 r8 r9 r10 r11 v6 r12 r13 v7 v8 r14 r15 v9 v10 r16 v11 v12 r17 v13 w14 r18 v15 v16 r19 r20 r21 r22 r23 r24 v17 r25 r26 r27 v18) sz)) 0 0 (va_A (wd_171f232f h0 v0 r0 v1 v2 (-1) v3 r1 r2 r3 r4 r5 r6 r7 v4 v5 r8 r9 r10 r11 v6 r12 r13 v7 v8 r14 r15 v9 v10 r16 v11 v12 r17 v13 w14 r18 v15 v16 r19 r20 r21 r22 r23 r24 v17 r25 r26 r27 v18) sz) := by
  refine Met.ofW (cc := cX12_bad) (maxL := 1) (ret := none) (by decide) rfl ?_
  intro p e s m args below meth c s₁ B hml hv
  obtain ⟨i_v1a, i_v1b⟩ := i_v1
  obtain ⟨i_v2a, i_v2b⟩ := i_v2
  obtain ⟨i_v4a, i_v4b⟩ := i_v4
  obtain ⟨i_v5a, i_v5b⟩ := i_v5
  obtain ⟨i_v6a, i_v6b⟩ := i_v6
  obtain ⟨i_v7a, i_v7b⟩ := i_v7
  obtain ⟨i_v8a, i_v8b⟩ := i_v8
  obtain ⟨i_v9a, i_v9b⟩ := i_v9
  obtain ⟨i_v13a, i_v13b⟩ := i_v13
  obtain ⟨i_v17a, i_v17b⟩ := i_v17
  obtain ⟨i_v18a, i_v18b⟩ := i_v18
  obtain ⟨rfl, hsz, hP, hK, hD0⟩ := hv
  have hx := B.exec
  have hb := B.bytes
  have hr := B.returns
  have hts := atoms_spec (ws := q_X12_bad) B.pre
  have hown : s.vm.findClass RX12 = some m.cls := findClass_of_methodNamed B.named
  have hlocks := B.notSynchronized
  subst hsz
  have hD := hD0.self (sz := s.heap.size)
  generalize hAe : va_A (wd_171f232f h0 v0 r0 v1 v2 (-1) v3 r1 r2 r3 r4 r5 r6 r7 v4 v5 r8 r9 r10 r11 v6 r12 r13 v7 v8 r14 r15 v9 v10 r16 v11 v12 r17 v13 w14 r18 v15 v16 r19 r20 r21 r22 r23 r24 v17 r25 r26 r27 v18) s.heap.size = A at hD ⊢
  have hA : ∀ q : Nat, s.heap.size ≤ q → A q := fun q h => by rw [← hAe]; exact Or.inr h
  have hS : va_S A s.heap s.heap [] := va_S.rf
  generalize hQ : (MQ below _ _ s 0 0 A) = Q
  have hl := lv_entry ([.ref h0]) (n := 1) (Nat.le_of_ble_eq_true rfl)
  rw [lg_entry_eq]
  generalize (lg_sl ([.ref h0]) ++ List.replicate (1 - (lg_sl ([.ref h0])).length) Slot.unset).toArray = ls at hl ⊢
  have hl : lv_has ls 1 [(0, .ref h0)] := hl
  obtain ⟨H, hH⟩ : ∃ H : Heap, H = s.heap := ⟨_, rfl⟩
  obtain ⟨locs, hlocs⟩ : ∃ y : List Loc, y = [] := ⟨_, rfl⟩
  have hS : va_S A s.heap H locs := by rw [hH, hlocs]; exact va_S.rf
  have hP : va_P (dC, dI) vwCl (wd_171f232f h0 v0 r0 v1 v2 (-1) v3 r1 r2 r3 r4 r5 r6 r7 v4 v5 r8 r9 r10 r11 v6 r12 r13 v7 v8 r14 r15 v9 v10 r16 v11 v12 r17 v13 w14 r18 v15 v16 r19 r20 r21 r22 r23 r24 v17 r25 r26 r27 v18) H := by rw [hH]; exact hP
  rw [← hH, ← hlocs]
  refine lv_aload_n hx hb dX12_bad_0 rfl (lv_at hl 0 rfl) ?_
  refine lv_aload_n hx hb dX12_bad_1 rfl (lv_at hl 0 rfl) ?_
  refine va_get (D := (dC, dI)) (ci := 12) (v := .int (-1)) (C := RX12) (T := TX12) (N := 48) hx hb hts (fun _ h => List.mem_cons_of_mem _ (List.mem_append_right _ h)) hown hK hP 0 rfl rfl 4 (by decide) (hts (.fieldLink RX12 119 "LeftArgumentsModel" "wrong" "I") (List.mem_cons_of_mem _ (List.mem_append_left _ (List.mem_of_getElem? (i := 0) rfl)))) (fun _ h9 => h9) rfl dX12_bad_2 ?_
  refine lv_iconst (v := (-1)) hx hb dX12_bad_5 (by decide) ?_
  refine lv_icmp_ne (tgt := 16) hx hb dX12_bad_6 (by decide) (fun c => absurd (by decide) c) (fun _ => ?_)
  refine lv_aload_n hx hb dX12_bad_9 rfl (lv_at hl 0 rfl) ?_
  refine va_get (D := (dC, dI)) (ci := 12) (v := .int v2) (C := RX12) (T := TX12) (N := 48) hx hb hts (fun _ h => List.mem_cons_of_mem _ (List.mem_append_right _ h)) hown hK hP 0 rfl rfl 3 (by decide) (hts (.fieldLink RX12 112 "LeftArgumentsModel" "at" "I") (List.mem_cons_of_mem _ (List.mem_append_left _ (List.mem_of_getElem? (i := 1) rfl)))) (fun _ h9 => h9) rfl dX12_bad_10 ?_
  refine lv_goto (tgt := 20) hx hb dX12_bad_13 (by decide) ?_
  refine va_put (D := (dC, dI)) (ci := 12) (v := .int v2) (ty := .int) (C := RX12) (T := TX12) (N := 48) hx hb hts (fun _ h => List.mem_cons_of_mem _ (List.mem_append_right _ h)) tyX12 tyX12_ok nmX12 hown hK hP hD hS 0 rfl rfl 4 (by decide) (hts (.fieldLink RX12 119 "LeftArgumentsModel" "wrong" "I") (List.mem_cons_of_mem _ (List.mem_append_left _ (List.mem_of_getElem? (i := 0) rfl)))) (fun _ h9 => h9) rfl (by decide +kernel) rfl rfl (Nat.le_of_ble_eq_true rfl) dX12_bad_20 (fun H locs hP hD hS => ?_)
  have hP : va_P (dC, dI) vwCl (wd_171f232f h0 v0 r0 v1 v2 v2 v3 r1 r2 r3 r4 r5 r6 r7 v4 v5 r8 r9 r10 r11 v6 r12 r13 v7 v8 r14 r15 v9 v10 r16 v11 v12 r17 v13 w14 r18 v15 v16 r19 r20 r21 r22 r23 r24 v17 r25 r26 r27 v18) H := hP
  have hD : va_D A (wd_171f232f h0 v0 r0 v1 v2 v2 v3 r1 r2 r3 r4 r5 r6 r7 v4 v5 r8 r9 r10 r11 v6 r12 r13 v7 v8 r14 r15 v9 v10 r16 v11 v12 r17 v13 w14 r18 v15 v16 r19 r20 r21 r22 r23 r24 v17 r25 r26 r27 v18) := hD
  subst hQ
  have hP9 := hP.sub (ws' := (wd_171f232f h0 v0 r0 v1 v2 v2 v3 r1 r2 r3 r4 r5 r6 r7 v4 v5 r8 r9 r10 r11 v6 r12 r13 v7 v8 r14 r15 v9 v10 r16 v11 v12 r17 v13 w14 r18 v15 v16 r19 r20 r21 r22 r23 r24 v17 r25 r26 r27 v18)) [0] rfl
  have hD9 := hD.sub (ws' := (wd_171f232f h0 v0 r0 v1 v2 v2 v3 r1 r2 r3 r4 r5 r6 r7 v4 v5 r8 r9 r10 r11 v6 r12 r13 v7 v8 r14 r15 v9 v10 r16 v11 v12 r17 v13 w14 r18 v15 v16 r19 r20 r21 r22 r23 r24 v17 r25 r26 r27 v18)) [0] (by decide) rfl
  have hK9 := hK.sub (tys' := []) [] rfl
  exact W.vret hx hb hr (fun t ht hW => ⟨⟨(), rfl, trivial, ⟨v2, i_v2a, i_v2b, by rfl, by rw [ht]; exact hP9, va_K.moved hW.alike hK9, hD9⟩⟩, hS.F ht⟩) hS.2.2 dX12_bad_23
def q_X12_opens : List Cond := .code yX12_opens cX12_opens 1 none :: (([.fieldLink RX12 125 "LeftArgumentsModel" "deep" "I", .code yX12_bad cX12_bad 1 none, .fieldLink RX12 119 "LeftArgumentsModel" "wrong" "I", .fieldLink RX12 112 "LeftArgumentsModel" "at" "I", .initialized RX12, .instanceMethod yX12_bad, .selects RX12 yX12_bad yX12_bad, .methodLink RX12 128 yX12_bad] : List Cond) ++ wsX120)
set_option maxRecDepth 20000 in
theorem g_X12_opens_0 : GoodIn q_X12_opens (wsV RX12 128 RX12 yX12_bad q_X12_bad) := goodIn_app (goodIn_r _ [8, 6, 7, 5] rfl (by decide +kernel)) (goodIn_ca (goodIn_r (.code yX12_bad cX12_bad 1 none :: [.fieldLink RX12 119 "LeftArgumentsModel" "wrong" "I", .fieldLink RX12 112 "LeftArgumentsModel" "at" "I"]) [2, 3, 4] rfl (by decide +kernel)) (goodIn_sub (fun _ h => List.mem_cons_of_mem _ (List.mem_append_right _ h)) gwX12))
set_option maxHeartbeats 4000000 in
set_option maxRecDepth 100000 in
theorem k_X12_opens (l : Launch) (dC : Nat → ClassId) (dI : Nat → Nat → Nat) (h0 : Nat) (v0 : Int32) (r0 : Nat) (v1 : Int32) (v2 : Int32) (r1 : Nat) (r2 : Nat) (r3 : Nat) (r4 : Nat) (r5 : Nat) (r6 : Nat) (r7 : Nat) (v3 : Int32) (v4 : Int32) (r8 : Nat) (r9 : Nat) (r10 : Nat) (r11 : Nat) (v5 : Int32) (r12 : Nat) (r13 : Nat) (v6 : Int32) (v7 : Int32) (r14 : Nat) (r15 : Nat) (v8 : Int32) (v9 : Int32) (r16 : Nat) (v10 : Int32) (v11 : Int32) (r17 : Nat) (v12 : Int32) (w13 : Int64) (r18 : Nat) (v14 : Int32) (v15 : Int32) (r19 : Nat) (r20 : Nat) (r21 : Nat) (r22 : Nat) (r23 : Nat) (r24 : Nat) (v16 : Int32) (r25 : Nat) (r26 : Nat) (r27 : Nat) (v17 : Int32) (i_v1 : 0 ≤ v1.toInt ∧ v1.toInt ≤ 240) (i_v2 : 0 ≤ v2.toInt ∧ v2.toInt ≤ 239) (i_v3 : 0 ≤ v3.toInt ∧ v3.toInt ≤ 4) (i_v4 : 0 ≤ v4.toInt ∧ v4.toInt ≤ 4) (i_v5 : 0 ≤ v5.toInt ∧ v5.toInt ≤ 8) (i_v6 : 0 ≤ v6.toInt ∧ v6.toInt ≤ 8) (i_v7 : 0 ≤ v7.toInt ∧ v7.toInt ≤ 1) (i_v8 : -1 ≤ v8.toInt ∧ v8.toInt ≤ 3) (i_v12 : 0 ≤ v12.toInt ∧ v12.toInt ≤ 40) (i_v16 : 0 ≤ v16.toInt ∧ v16.toInt ≤ 10) (i_v17 : 0 ≤ v17.toInt ∧ v17.toInt ≤ 1) (sz : Nat) : Met l yX12_opens q_X12_opens ({ frames := 1, cells := 0, slots := 0, locals := 20 }) (va_Pc [.ref h0] (fun U => U.heap.size = sz ∧ va_P (dC, dI) vwCl (wd_171f232f h0 v0 r0 v1 v2 (-1) 6 r1 r2 r3 r4 r5 r6 r7 v3 v4 r8 r9 r10 r11 v5 r12 r13 v6 v7 r14 r15 v8 v9 r16 v10 v11 r17 v12 w13 r18 v14 v15 r19 r20 r21 r22 r23 r24 v16 r25 r26 r27 v17) U.heap ∧ va_K (dC, dI) vwCl [] U ∧ va_D (fun _ => True) (wd_171f232f h0 v0 r0 v1 v2 (-1) 6 r1 r2 r3 r4 r5 r6 r7 v3 v4 r8 r9 r10 r11 v5 r12 r13 v6 v7 r14 r15 v8 v9 r16 v10 v11 r17 v12 w13 r18 v14 v15 r19 r20 r21 r22 r23 r24 v16 r25 r26 r27 v17))) (va_Qv (fun (_ : Unit) => True) (fun (_ : Unit) (t : State) => (∃ (o_h0_3 : Int32) (o_h0_4 : Int32), 1 ≤ o_h0_3.toInt ∧ o_h0_3.toInt ≤ 240 ∧ 0 ≤ o_h0_4.toInt ∧ o_h0_4.toInt ≤ 240 ∧ (o_h0_3.toInt = v2.toInt + 1) ∧ (o_h0_4.toInt = v2.toInt) ∧ va_P (dC, dI) vwCl (wd_171f232f h0 v0 r0 v1 o_h0_3 o_h0_4 7 r1 r2 r3 r4 r5 r6 r7 v3 v4 r8 r9 r10 r11 v5 r12 r13 v6 v7 r14 r15 v8 v9 r16 v10 v11 r17 v12 w13 r18 v14 v15 r19 r20 r21 r22 r23 r24 v16 r25 r26 r27 v17) t.heap ∧ va_K (dC, dI) vwCl [] t ∧ va_D (va_A (wd_171f232f h0 v0 r0 v1 v2 (-1) 6 r1 r2 r3 r4 r5 r6 r7 v3 v4 r8 r9 r10 r11 v5 r12 r13 v6 v7 r14 r15 v8 v9 r16 v10 v11 r17 v12 w13 r18 v14 v15 r19 r20 r21 r22 r23 r24 v16 r25 r26 r27 v17) sz) (wd_171f232f h0 v0 r0 v1 o_h0_3 o_h0_4 7 r1 r2 r3 r4 r5 r6 r7 v3 v4 r8 r9 r10 r11 v5 r12 r13 v6 v7 r14 r15 v8 v9 r16 v10 v11 r17 v12 w13 r18 v14 v15 r19 r20 r21 r22 r23 r24 v16 r25 r26 r27 v17))) (va_A (wd_171f232f h0 v0 r0 v1 v2 (-1) 6 r1 r2 r3 r4 r5 r6 r7 v3 v4 r8 r9 r10 r11 v5 r12 r13 v6 v7 r14 r15 v8 v9 r16 v10 v11 r17 v12 w13 r18 v14 v15 r19 r20 r21 r22 r23 r24 v16 r25 r26 r27 v17) sz)) 0 0 (va_A (wd_171f232f h0 v0 r0 v1 v2 (-1) 6 r1 r2 r3 r4 r5 r6 r7 v3 v4 r8 r9 r10 r11 v5 r12 r13 v6 v7 r14 r15 v8 v9 r16 v10 v11 r17 v12 w13 r18 v14 v15 r19 r20 r21 r22 r23 r24 v16 r25 r26 r27 v17) sz) := by
  refine Met.ofW (cc := cX12_opens) (maxL := 1) (ret := none) (by decide) rfl ?_
  intro p e s m args below meth c s₁ B hml hv
  obtain ⟨i_v1a, i_v1b⟩ := i_v1
  obtain ⟨i_v2a, i_v2b⟩ := i_v2
  obtain ⟨i_v3a, i_v3b⟩ := i_v3
  obtain ⟨i_v4a, i_v4b⟩ := i_v4
  obtain ⟨i_v5a, i_v5b⟩ := i_v5
  obtain ⟨i_v6a, i_v6b⟩ := i_v6
  obtain ⟨i_v7a, i_v7b⟩ := i_v7
  obtain ⟨i_v8a, i_v8b⟩ := i_v8
  obtain ⟨i_v12a, i_v12b⟩ := i_v12
  obtain ⟨i_v16a, i_v16b⟩ := i_v16
  obtain ⟨i_v17a, i_v17b⟩ := i_v17
  obtain ⟨rfl, hsz, hP, hK, hD0⟩ := hv
  have hx := B.exec
  have hb := B.bytes
  have hr := B.returns
  have hts := atoms_spec (ws := q_X12_opens) B.pre
  have hown : s.vm.findClass RX12 = some m.cls := findClass_of_methodNamed B.named
  have hlocks := B.notSynchronized
  subst hsz
  have hD := hD0.self (sz := s.heap.size)
  generalize hAe : va_A (wd_171f232f h0 v0 r0 v1 v2 (-1) 6 r1 r2 r3 r4 r5 r6 r7 v3 v4 r8 r9 r10 r11 v5 r12 r13 v6 v7 r14 r15 v8 v9 r16 v10 v11 r17 v12 w13 r18 v14 v15 r19 r20 r21 r22 r23 r24 v16 r25 r26 r27 v17) s.heap.size = A at hD ⊢
  have hA : ∀ q : Nat, s.heap.size ≤ q → A q := fun q h => by rw [← hAe]; exact Or.inr h
  have hS : va_S A s.heap s.heap [] := va_S.rf
  generalize hQ : (MQ below _ _ s 0 0 A) = Q
  have hl := lv_entry ([.ref h0]) (n := 1) (Nat.le_of_ble_eq_true rfl)
  rw [lg_entry_eq]
  generalize (lg_sl ([.ref h0]) ++ List.replicate (1 - (lg_sl ([.ref h0])).length) Slot.unset).toArray = ls at hl ⊢
  have hl : lv_has ls 1 [(0, .ref h0)] := hl
  obtain ⟨H, hH⟩ : ∃ H : Heap, H = s.heap := ⟨_, rfl⟩
  obtain ⟨locs, hlocs⟩ : ∃ y : List Loc, y = [] := ⟨_, rfl⟩
  have hS : va_S A s.heap H locs := by rw [hH, hlocs]; exact va_S.rf
  have hP : va_P (dC, dI) vwCl (wd_171f232f h0 v0 r0 v1 v2 (-1) 6 r1 r2 r3 r4 r5 r6 r7 v3 v4 r8 r9 r10 r11 v5 r12 r13 v6 v7 r14 r15 v8 v9 r16 v10 v11 r17 v12 w13 r18 v14 v15 r19 r20 r21 r22 r23 r24 v16 r25 r26 r27 v17) H := by rw [hH]; exact hP
  rw [← hH, ← hlocs]
  refine lv_aload_n hx hb dX12_opens_0 rfl (lv_at hl 0 rfl) ?_
  refine va_get (D := (dC, dI)) (ci := 12) (v := .int 6) (C := RX12) (T := TX12) (N := 48) hx hb hts (fun _ h => List.mem_cons_of_mem _ (List.mem_append_right _ h)) hown hK hP 0 rfl rfl 5 (by decide) (hts (.fieldLink RX12 125 "LeftArgumentsModel" "deep" "I") (List.mem_cons_of_mem _ (List.mem_append_left _ (List.mem_of_getElem? (i := 0) rfl)))) (fun _ h9 => h9) rfl dX12_opens_1 ?_
  refine lv_bipush (v := 6) hx hb dX12_opens_4 (by decide) ?_
  refine lv_icmp_ne (tgt := 13) hx hb dX12_opens_6 (by decide) (fun c => absurd (by decide) c) (fun _ => ?_)
  refine lv_aload_n hx hb dX12_opens_9 rfl (lv_at hl 0 rfl) ?_
  have hPc := hP.sub (ws' := (wd_171f232f h0 v0 r0 v1 v2 (-1) 6 r1 r2 r3 r4 r5 r6 r7 v3 v4 r8 r9 r10 r11 v5 r12 r13 v6 v7 r14 r15 v8 v9 r16 v10 v11 r17 v12 w13 r18 v14 v15 r19 r20 r21 r22 r23 r24 v16 r25 r26 r27 v17)) [0] rfl
  have hDc := hD.sub (ws' := (wd_171f232f h0 v0 r0 v1 v2 (-1) 6 r1 r2 r3 r4 r5 r6 r7 v3 v4 r8 r9 r10 r11 v5 r12 r13 v6 v7 r14 r15 v8 v9 r16 v10 v11 r17 v12 w13 r18 v14 v15 r19 r20 r21 r22 r23 r24 v16 r25 r26 r27 v17)) [0] (by decide) rfl
  have hKc := hK.sub (tys' := []) [] rfl
  have hFc := va_free (wc := (wd_171f232f h0 v0 r0 v1 v2 (-1) 6 r1 r2 r3 r4 r5 r6 r7 v3 v4 r8 r9 r10 r11 v5 r12 r13 v6 v7 r14 r15 v8 v9 r16 v10 v11 r17 v12 w13 r18 v14 v15 r19 r20 r21 r22 r23 r24 v16 r25 r26 r27 v17)) hD hS hA [0] rfl
  refine va_callv (va_runV (As := []) (rest := []) ⟨hx, hb, hml, hown, hts⟩ (k_X12_bad l dC dI h0 v0 r0 v1 v2 6 r1 r2 r3 r4 r5 r6 r7 v3 v4 r8 r9 r10 r11 v5 r12 r13 v6 v7 r14 r15 v8 v9 r16 v10 v11 r17 v12 w13 r18 v14 v15 r19 r20 r21 r22 r23 r24 v16 r25 r26 r27 v17 ⟨i_v1a, i_v1b⟩ ⟨i_v2a, by first | omega | decide⟩ ⟨i_v3a, i_v3b⟩ ⟨i_v4a, i_v4b⟩ ⟨i_v5a, i_v5b⟩ ⟨i_v6a, i_v6b⟩ ⟨i_v7a, i_v7b⟩ ⟨i_v8a, i_v8b⟩ ⟨i_v12a, i_v12b⟩ ⟨i_v16a, i_v16b⟩ ⟨i_v17a, i_v17b⟩ H.size) (cwV 0 hts g_X12_opens_0 rfl rfl rfl (by decide +kernel) ⟨Nat.le_of_ble_eq_true rfl, Nat.le_of_ble_eq_true rfl⟩) (pv_PV12 hPc hKc hDc (q0 := 0) rfl) rfl rfl hl.1 rfl (lv_room (Nat.le_of_ble_eq_true rfl)) dX12_opens_10 ⟨Nat.le_of_ble_eq_true rfl, Nat.le_of_ble_eq_true rfl⟩) hS (fun q _ h => hFc q h) hFc (fun u t H1 locs ht hvm hwra1 hB hz1 hk1 hS => ?_)
  have hkra1_0 : ((6 : Int32)).toInt = 6 := by decide
  obtain ⟨x2, oa_x2, ob_x2, pt0_ra1, hP1, hK1, hD1⟩ := hB
  rw [ht] at hP1
  obtain ⟨hP2, hD2⟩ := va_join (wr := []) (w1 := (wd_171f232f h0 v0 r0 v1 v2 x2 6 r1 r2 r3 r4 r5 r6 r7 v3 v4 r8 r9 r10 r11 v5 r12 r13 v6 v7 r14 r15 v8 v9 r16 v10 v11 r17 v12 w13 r18 v14 v15 r19 r20 r21 r22 r23 r24 v16 r25 r26 r27 v17)) hP hD [0] [] rfl rfl (by decide) (by decide) hk1 hFc hP1 hD1
  clear hP hD hPc hDc hKc hFc hP1 hK1 hD1 hk1 hz1
  generalize H1 = H at hP2 hS ⊢
  have hP : va_P (dC, dI) vwCl (wd_171f232f h0 v0 r0 v1 v2 x2 6 r1 r2 r3 r4 r5 r6 r7 v3 v4 r8 r9 r10 r11 v5 r12 r13 v6 v7 r14 r15 v8 v9 r16 v10 v11 r17 v12 w13 r18 v14 v15 r19 r20 r21 r22 r23 r24 v16 r25 r26 r27 v17) H := hP2
  have hD : va_D A (wd_171f232f h0 v0 r0 v1 v2 x2 6 r1 r2 r3 r4 r5 r6 r7 v3 v4 r8 r9 r10 r11 v5 r12 r13 v6 v7 r14 r15 v8 v9 r16 v10 v11 r17 v12 w13 r18 v14 v15 r19 r20 r21 r22 r23 r24 v16 r25 r26 r27 v17) := hD2
  clear hP2 hD2
  refine lv_aload_n hx hb dX12_opens_13 rfl (lv_at hl 0 rfl) ?_
  refine lv_dup hx hb dX12_opens_14 rfl ?_
  refine va_get (D := (dC, dI)) (ci := 12) (v := .int 6) (C := RX12) (T := TX12) (N := 48) hx hb hts (fun _ h => List.mem_cons_of_mem _ (List.mem_append_right _ h)) hown hK hP 0 rfl rfl 5 (by decide) (hts (.fieldLink RX12 125 "LeftArgumentsModel" "deep" "I") (List.mem_cons_of_mem _ (List.mem_append_left _ (List.mem_of_getElem? (i := 0) rfl)))) (fun _ h9 => h9) rfl dX12_opens_15 ?_
  refine lv_iconst (v := 1) hx hb dX12_opens_18 (by decide) ?_
  refine lv_iadd hx hb dX12_opens_19 ?_
  refine lv_topi (fun tv3 etv3 => ?_)
  obtain rfl : tv3 = (7 : Int32) := etv3.trans (by first | rfl | decide)
  refine va_put (D := (dC, dI)) (ci := 12) (v := .int 7) (ty := .int) (C := RX12) (T := TX12) (N := 48) hx hb hts (fun _ h => List.mem_cons_of_mem _ (List.mem_append_right _ h)) tyX12 tyX12_ok nmX12 hown hK hP hD hS 0 rfl rfl 5 (by decide) (hts (.fieldLink RX12 125 "LeftArgumentsModel" "deep" "I") (List.mem_cons_of_mem _ (List.mem_append_left _ (List.mem_of_getElem? (i := 0) rfl)))) (fun _ h9 => h9) rfl (by decide +kernel) rfl rfl (Nat.le_of_ble_eq_true rfl) dX12_opens_20 (fun H locs hP hD hS => ?_)
  have hP : va_P (dC, dI) vwCl (wd_171f232f h0 v0 r0 v1 v2 x2 7 r1 r2 r3 r4 r5 r6 r7 v3 v4 r8 r9 r10 r11 v5 r12 r13 v6 v7 r14 r15 v8 v9 r16 v10 v11 r17 v12 w13 r18 v14 v15 r19 r20 r21 r22 r23 r24 v16 r25 r26 r27 v17) H := hP
  have hD : va_D A (wd_171f232f h0 v0 r0 v1 v2 x2 7 r1 r2 r3 r4 r5 r6 r7 v3 v4 r8 r9 r10 r11 v5 r12 r13 v6 v7 r14 r15 v8 v9 r16 v10 v11 r17 v12 w13 r18 v14 v15 r19 r20 r21 r22 r23 r24 v16 r25 r26 r27 v17) := hD
  refine lv_aload_n hx hb dX12_opens_23 rfl (lv_at hl 0 rfl) ?_
  refine lv_dup hx hb dX12_opens_24 rfl ?_
  refine va_get (D := (dC, dI)) (ci := 12) (v := .int v2) (C := RX12) (T := TX12) (N := 48) hx hb hts (fun _ h => List.mem_cons_of_mem _ (List.mem_append_right _ h)) hown hK hP 0 rfl rfl 3 (by decide) (hts (.fieldLink RX12 112 "LeftArgumentsModel" "at" "I") (List.mem_cons_of_mem _ (List.mem_append_left _ (List.mem_of_getElem? (i := 3) rfl)))) (fun _ h9 => h9) rfl dX12_opens_25 ?_
  refine lv_iconst (v := 1) hx hb dX12_opens_28 (by decide) ?_
  refine lv_iadd hx hb dX12_opens_29 ?_
  refine lv_topi (fun t4 et4 => ?_)
  have gt4 : t4.toInt = v2.toInt + 1 := pv_add (a := v2.toInt) (b := 1) et4 rfl (by decide) (by omega) (by omega)
  refine va_put (D := (dC, dI)) (ci := 12) (v := .int t4) (ty := .int) (C := RX12) (T := TX12) (N := 48) hx hb hts (fun _ h => List.mem_cons_of_mem _ (List.mem_append_right _ h)) tyX12 tyX12_ok nmX12 hown hK hP hD hS 0 rfl rfl 3 (by decide) (hts (.fieldLink RX12 112 "LeftArgumentsModel" "at" "I") (List.mem_cons_of_mem _ (List.mem_append_left _ (List.mem_of_getElem? (i := 3) rfl)))) (fun _ h9 => h9) rfl (by decide +kernel) rfl rfl (Nat.le_of_ble_eq_true rfl) dX12_opens_30 (fun H locs hP hD hS => ?_)
  have hP : va_P (dC, dI) vwCl (wd_171f232f h0 v0 r0 v1 t4 x2 7 r1 r2 r3 r4 r5 r6 r7 v3 v4 r8 r9 r10 r11 v5 r12 r13 v6 v7 r14 r15 v8 v9 r16 v10 v11 r17 v12 w13 r18 v14 v15 r19 r20 r21 r22 r23 r24 v16 r25 r26 r27 v17) H := hP
  have hD : va_D A (wd_171f232f h0 v0 r0 v1 t4 x2 7 r1 r2 r3 r4 r5 r6 r7 v3 v4 r8 r9 r10 r11 v5 r12 r13 v6 v7 r14 r15 v8 v9 r16 v10 v11 r17 v12 w13 r18 v14 v15 r19 r20 r21 r22 r23 r24 v16 r25 r26 r27 v17) := hD
  subst hQ
  have hP9 := hP.sub (ws' := (wd_171f232f h0 v0 r0 v1 t4 x2 7 r1 r2 r3 r4 r5 r6 r7 v3 v4 r8 r9 r10 r11 v5 r12 r13 v6 v7 r14 r15 v8 v9 r16 v10 v11 r17 v12 w13 r18 v14 v15 r19 r20 r21 r22 r23 r24 v16 r25 r26 r27 v17)) [0] rfl
  have hD9 := hD.sub (ws' := (wd_171f232f h0 v0 r0 v1 t4 x2 7 r1 r2 r3 r4 r5 r6 r7 v3 v4 r8 r9 r10 r11 v5 r12 r13 v6 v7 r14 r15 v8 v9 r16 v10 v11 r17 v12 w13 r18 v14 v15 r19 r20 r21 r22 r23 r24 v16 r25 r26 r27 v17)) [0] (by decide) rfl
  have hK9 := hK.sub (tys' := []) [] rfl
  exact W.vret hx hb hr (fun t ht hW => ⟨⟨(), rfl, trivial, ⟨t4, x2, by first | omega | decide, by first | omega | decide, oa_x2, ob_x2, by omega, by omega, by rw [ht]; exact hP9, va_K.moved hW.alike hK9, hD9⟩⟩, hS.F ht⟩) hS.2.2 dX12_opens_33
def q_X12_put : List Cond := .code yX12_put cX12_put 3 none :: (([.fieldLink RX12 13 "LeftArgumentsModel" "code" "[I", .fieldLink RX12 122 "LeftArgumentsModel" "text" "I", .fieldLink RX12 19 "LeftArgumentsModel" "codes" "[I", .fieldLink RX12 16 "LeftArgumentsModel" "value" "[I"] : List Cond) ++ wsX120)
set_option maxHeartbeats 4000000 in
set_option maxRecDepth 100000 in
theorem k_X12_put (l : Launch) (dC : Nat → ClassId) (dI : Nat → Nat → Nat) (h0 : Nat) (h1 : Nat) (h2 : Nat) (h3 : Nat) (v0 : Int32) (r0 : Nat) (v1 : Int32) (v2 : Int32) (v3 : Int32) (v4 : Int32) (r1 : Nat) (r2 : Nat) (r3 : Nat) (r4 : Nat) (v5 : Int32) (v6 : Int32) (r5 : Nat) (r6 : Nat) (r7 : Nat) (r8 : Nat) (v7 : Int32) (r9 : Nat) (r10 : Nat) (v8 : Int32) (v9 : Int32) (r11 : Nat) (r12 : Nat) (v10 : Int32) (v11 : Int32) (r13 : Nat) (v12 : Int32) (v13 : Int32) (r14 : Nat) (v14 : Int32) (w15 : Int64) (r15 : Nat) (v16 : Int32) (v17 : Int32) (r16 : Nat) (r17 : Nat) (r18 : Nat) (r19 : Nat) (r20 : Nat) (r21 : Nat) (v18 : Int32) (r22 : Nat) (r23 : Nat) (r24 : Nat) (v19 : Int32) (g0 : ClassId) (f20 : Nat → Int32) (g1 : ClassId) (f21 : Nat → Int32) (g2 : ClassId) (f22 : Nat → Int32) (v23 : Int32) (v24 : Int32) (i_v1 : 0 ≤ v1.toInt ∧ v1.toInt ≤ 240) (i_v5 : 0 ≤ v5.toInt ∧ v5.toInt ≤ 4) (i_v6 : 0 ≤ v6.toInt ∧ v6.toInt ≤ 4) (i_v7 : 0 ≤ v7.toInt ∧ v7.toInt ≤ 8) (i_v8 : 0 ≤ v8.toInt ∧ v8.toInt ≤ 8) (i_v9 : 0 ≤ v9.toInt ∧ v9.toInt ≤ 1) (i_v10 : -1 ≤ v10.toInt ∧ v10.toInt ≤ 3) (i_v14 : 0 ≤ v14.toInt ∧ v14.toInt ≤ 40) (i_v18 : 0 ≤ v18.toInt ∧ v18.toInt ≤ 10) (i_v19 : 0 ≤ v19.toInt ∧ v19.toInt ≤ 1) (pp0 : 0 ≤ pm_x f22 v6 ∧ pm_x f22 v6 ≤ 500) (sz : Nat) : Met l yX12_put q_X12_put ({ frames := 0, cells := 0, slots := 0, locals := 0 }) (va_Pc [.ref h0, .int v23, .int v24] (fun U => U.heap.size = sz ∧ va_P (dC, dI) vwCl (wd_c62683a8 h0 v0 r0 v1 v2 v3 v4 h1 h2 h3 r1 r2 r3 r4 v5 v6 r5 r6 r7 r8 v7 r9 r10 v8 v9 r11 r12 v10 v11 r13 v12 v13 r14 v14 w15 r15 v16 v17 r16 r17 r18 r19 r20 r21 v18 r22 r23 r24 v19 h1 g0 f20 h2 g1 f21 h3 g2 f22) U.heap ∧ va_K (dC, dI) vwCl [(g0, .int), (g1, .int), (g2, .int)] U ∧ va_D (fun _ => True) (wd_c62683a8 h0 v0 r0 v1 v2 v3 v4 h1 h2 h3 r1 r2 r3 r4 v5 v6 r5 r6 r7 r8 v7 r9 r10 v8 v9 r11 r12 v10 v11 r13 v12 v13 r14 v14 w15 r15 v16 v17 r16 r17 r18 r19 r20 r21 v18 r22 r23 r24 v19 h1 g0 f20 h2 g1 f21 h3 g2 f22))) (va_Qv (fun (_ : Unit) => True) (fun (_ : Unit) (t : State) => (∃ (o_h1 : Nat → Int32) (o_h2 : Nat → Int32) (o_h3 : Nat → Int32), (pm_Put v6 v23 v24 f20 f21 f22 o_h1 o_h2 o_h3) ∧ va_P (dC, dI) vwCl (wd_c62683a8 h0 v0 r0 v1 v2 v3 v4 h1 h2 h3 r1 r2 r3 r4 v5 v6 r5 r6 r7 r8 v7 r9 r10 v8 v9 r11 r12 v10 v11 r13 v12 v13 r14 v14 w15 r15 v16 v17 r16 r17 r18 r19 r20 r21 v18 r22 r23 r24 v19 h1 g0 o_h1 h2 g1 o_h2 h3 g2 o_h3) t.heap ∧ va_K (dC, dI) vwCl [] t ∧ va_D (va_A (wd_c62683a8 h0 v0 r0 v1 v2 v3 v4 h1 h2 h3 r1 r2 r3 r4 v5 v6 r5 r6 r7 r8 v7 r9 r10 v8 v9 r11 r12 v10 v11 r13 v12 v13 r14 v14 w15 r15 v16 v17 r16 r17 r18 r19 r20 r21 v18 r22 r23 r24 v19 h1 g0 f20 h2 g1 f21 h3 g2 f22) sz) (wd_c62683a8 h0 v0 r0 v1 v2 v3 v4 h1 h2 h3 r1 r2 r3 r4 v5 v6 r5 r6 r7 r8 v7 r9 r10 v8 v9 r11 r12 v10 v11 r13 v12 v13 r14 v14 w15 r15 v16 v17 r16 r17 r18 r19 r20 r21 v18 r22 r23 r24 v19 h1 g0 o_h1 h2 g1 o_h2 h3 g2 o_h3))) (va_A (wd_c62683a8 h0 v0 r0 v1 v2 v3 v4 h1 h2 h3 r1 r2 r3 r4 v5 v6 r5 r6 r7 r8 v7 r9 r10 v8 v9 r11 r12 v10 v11 r13 v12 v13 r14 v14 w15 r15 v16 v17 r16 r17 r18 r19 r20 r21 v18 r22 r23 r24 v19 h1 g0 f20 h2 g1 f21 h3 g2 f22) sz)) 0 0 (va_A (wd_c62683a8 h0 v0 r0 v1 v2 v3 v4 h1 h2 h3 r1 r2 r3 r4 v5 v6 r5 r6 r7 r8 v7 r9 r10 v8 v9 r11 r12 v10 v11 r13 v12 v13 r14 v14 w15 r15 v16 v17 r16 r17 r18 r19 r20 r21 v18 r22 r23 r24 v19 h1 g0 f20 h2 g1 f21 h3 g2 f22) sz) := by
  refine Met.ofW (cc := cX12_put) (maxL := 3) (ret := none) (by decide) rfl ?_
  intro p e s m args below meth c s₁ B hml hv
  obtain ⟨i_v1a, i_v1b⟩ := i_v1
  obtain ⟨i_v5a, i_v5b⟩ := i_v5
  obtain ⟨i_v6a, i_v6b⟩ := i_v6
  obtain ⟨i_v7a, i_v7b⟩ := i_v7
  obtain ⟨i_v8a, i_v8b⟩ := i_v8
  obtain ⟨i_v9a, i_v9b⟩ := i_v9
  obtain ⟨i_v10a, i_v10b⟩ := i_v10
  obtain ⟨i_v14a, i_v14b⟩ := i_v14
  obtain ⟨i_v18a, i_v18b⟩ := i_v18
  obtain ⟨i_v19a, i_v19b⟩ := i_v19
  obtain ⟨rfl, hsz, hP, hK, hD0⟩ := hv
  have hx := B.exec
  have hb := B.bytes
  have hr := B.returns
  have hts := atoms_spec (ws := q_X12_put) B.pre
  have hown : s.vm.findClass RX12 = some m.cls := findClass_of_methodNamed B.named
  have hlocks := B.notSynchronized
  subst hsz
  have hD := hD0.self (sz := s.heap.size)
  generalize hAe : va_A (wd_c62683a8 h0 v0 r0 v1 v2 v3 v4 h1 h2 h3 r1 r2 r3 r4 v5 v6 r5 r6 r7 r8 v7 r9 r10 v8 v9 r11 r12 v10 v11 r13 v12 v13 r14 v14 w15 r15 v16 v17 r16 r17 r18 r19 r20 r21 v18 r22 r23 r24 v19 h1 g0 f20 h2 g1 f21 h3 g2 f22) s.heap.size = A at hD ⊢
  have hA : ∀ q : Nat, s.heap.size ≤ q → A q := fun q h => by rw [← hAe]; exact Or.inr h
  have hS : va_S A s.heap s.heap [] := va_S.rf
  generalize hQ : (MQ below _ _ s 0 0 A) = Q
  have hl := lv_entry ([.ref h0, .int v23, .int v24]) (n := 3) (Nat.le_of_ble_eq_true rfl)
  rw [lg_entry_eq]
  generalize (lg_sl ([.ref h0, .int v23, .int v24]) ++ List.replicate (3 - (lg_sl ([.ref h0, .int v23, .int v24])).length) Slot.unset).toArray = ls at hl ⊢
  have hl : lv_has ls 3 [(0, .ref h0), (1, .int v23), (2, .int v24)] := hl
  obtain ⟨H, hH⟩ : ∃ H : Heap, H = s.heap := ⟨_, rfl⟩
  obtain ⟨locs, hlocs⟩ : ∃ y : List Loc, y = [] := ⟨_, rfl⟩
  have hS : va_S A s.heap H locs := by rw [hH, hlocs]; exact va_S.rf
  have hP : va_P (dC, dI) vwCl (wd_c62683a8 h0 v0 r0 v1 v2 v3 v4 h1 h2 h3 r1 r2 r3 r4 v5 v6 r5 r6 r7 r8 v7 r9 r10 v8 v9 r11 r12 v10 v11 r13 v12 v13 r14 v14 w15 r15 v16 v17 r16 r17 r18 r19 r20 r21 v18 r22 r23 r24 v19 h1 g0 f20 h2 g1 f21 h3 g2 f22) H := by rw [hH]; exact hP
  rw [← hH, ← hlocs]
  obtain ⟨px1, px2⟩ := pp0; have px3 : pm_x f22 v6 = (f22 (Int32.toNatClampNeg v6)).toInt := rfl
  refine lv_aload_n hx hb dX12_put_0 rfl (lv_at hl 0 rfl) ?_
  refine va_get (D := (dC, dI)) (ci := 12) (v := .ref h1) (C := RX12) (T := TX12) (N := 48) hx hb hts (fun _ h => List.mem_cons_of_mem _ (List.mem_append_right _ h)) hown hK hP 0 rfl rfl 6 (by decide) (hts (.fieldLink RX12 13 "LeftArgumentsModel" "code" "[I") (List.mem_cons_of_mem _ (List.mem_append_left _ (List.mem_of_getElem? (i := 0) rfl)))) (fun _ h9 => h9) rfl dX12_put_1 ?_
  refine lv_sipush (v := 520) hx hb dX12_put_4 (by decide) ?_
  refine lv_aload_n hx hb dX12_put_7 rfl (lv_at hl 0 rfl) ?_
  refine va_get (D := (dC, dI)) (ci := 12) (v := .int v6) (C := RX12) (T := TX12) (N := 48) hx hb hts (fun _ h => List.mem_cons_of_mem _ (List.mem_append_right _ h)) hown hK hP 0 rfl rfl 14 (by decide) (hts (.fieldLink RX12 122 "LeftArgumentsModel" "text" "I") (List.mem_cons_of_mem _ (List.mem_append_left _ (List.mem_of_getElem? (i := 1) rfl)))) (fun _ h9 => h9) rfl dX12_put_8 ?_
  refine lv_imul hx hb dX12_put_11 ?_
  refine lv_topi (fun t1 et1 => ?_)
  have gt1 : t1.toInt = 520 * v6.toInt := pv_mul (a := 520) (b := v6.toInt) et1 (by decide) rfl (by omega) (by omega)
  refine lv_aload_n hx hb dX12_put_12 rfl (lv_at hl 0 rfl) ?_
  refine va_get (D := (dC, dI)) (ci := 12) (v := .ref h3) (C := RX12) (T := TX12) (N := 48) hx hb hts (fun _ h => List.mem_cons_of_mem _ (List.mem_append_right _ h)) hown hK hP 0 rfl rfl 8 (by decide) (hts (.fieldLink RX12 19 "LeftArgumentsModel" "codes" "[I") (List.mem_cons_of_mem _ (List.mem_append_left _ (List.mem_of_getElem? (i := 2) rfl)))) (fun _ h9 => h9) rfl dX12_put_13 ?_
  refine lv_aload_n hx hb dX12_put_16 rfl (lv_at hl 0 rfl) ?_
  refine va_get (D := (dC, dI)) (ci := 12) (v := .int v6) (C := RX12) (T := TX12) (N := 48) hx hb hts (fun _ h => List.mem_cons_of_mem _ (List.mem_append_right _ h)) hown hK hP 0 rfl rfl 14 (by decide) (hts (.fieldLink RX12 122 "LeftArgumentsModel" "text" "I") (List.mem_cons_of_mem _ (List.mem_append_left _ (List.mem_of_getElem? (i := 1) rfl)))) (fun _ h9 => h9) rfl dX12_put_17 ?_
  refine va_iald hx hb hK hP 3 2 rfl rfl (vp_in_iff.mpr ⟨by omega, by omega⟩) dX12_put_20 ?_
  refine lv_topi (fun t2 et2 => ?_)
  have gat2 : 0 ≤ t2.toInt ∧ t2.toInt ≤ 500 := by rw [et2]; constructor <;> omega
  refine lv_iadd hx hb dX12_put_21 ?_
  refine lv_topi (fun t3 et3 => ?_)
  have gt3 : t3.toInt = t1.toInt + t2.toInt := pv_add (a := t1.toInt) (b := t2.toInt) et3 rfl rfl (by omega) (by omega)
  refine lv_iload_n hx hb dX12_put_22 rfl (lv_at hl 1 rfl) ?_
  refine va_iast hx hb hK hP hD hS 1 0 rfl rfl (vp_in_iff.mpr ⟨by omega, by omega⟩) dX12_put_23 (fun H locs hP hD hS => ?_)
  obtain ⟨fn4, efn4⟩ : ∃ g : Nat → Int32, g = upd f20 (Int32.toNatClampNeg t3) v23 := ⟨_, rfl⟩
  rw [← efn4] at hP hD
  have hP : va_P (dC, dI) vwCl (wd_c62683a8 h0 v0 r0 v1 v2 v3 v4 h1 h2 h3 r1 r2 r3 r4 v5 v6 r5 r6 r7 r8 v7 r9 r10 v8 v9 r11 r12 v10 v11 r13 v12 v13 r14 v14 w15 r15 v16 v17 r16 r17 r18 r19 r20 r21 v18 r22 r23 r24 v19 h1 g0 fn4 h2 g1 f21 h3 g2 f22) H := hP
  have hD : va_D A (wd_c62683a8 h0 v0 r0 v1 v2 v3 v4 h1 h2 h3 r1 r2 r3 r4 v5 v6 r5 r6 r7 r8 v7 r9 r10 v8 v9 r11 r12 v10 v11 r13 v12 v13 r14 v14 w15 r15 v16 v17 r16 r17 r18 r19 r20 r21 v18 r22 r23 r24 v19 h1 g0 fn4 h2 g1 f21 h3 g2 f22) := hD
  refine lv_aload_n hx hb dX12_put_24 rfl (lv_at hl 0 rfl) ?_
  refine va_get (D := (dC, dI)) (ci := 12) (v := .ref h2) (C := RX12) (T := TX12) (N := 48) hx hb hts (fun _ h => List.mem_cons_of_mem _ (List.mem_append_right _ h)) hown hK hP 0 rfl rfl 7 (by decide) (hts (.fieldLink RX12 16 "LeftArgumentsModel" "value" "[I") (List.mem_cons_of_mem _ (List.mem_append_left _ (List.mem_of_getElem? (i := 3) rfl)))) (fun _ h9 => h9) rfl dX12_put_25 ?_
  refine lv_sipush (v := 520) hx hb dX12_put_28 (by decide) ?_
  refine lv_aload_n hx hb dX12_put_31 rfl (lv_at hl 0 rfl) ?_
  refine va_get (D := (dC, dI)) (ci := 12) (v := .int v6) (C := RX12) (T := TX12) (N := 48) hx hb hts (fun _ h => List.mem_cons_of_mem _ (List.mem_append_right _ h)) hown hK hP 0 rfl rfl 14 (by decide) (hts (.fieldLink RX12 122 "LeftArgumentsModel" "text" "I") (List.mem_cons_of_mem _ (List.mem_append_left _ (List.mem_of_getElem? (i := 1) rfl)))) (fun _ h9 => h9) rfl dX12_put_32 ?_
  refine lv_imul hx hb dX12_put_35 ?_
  refine lv_topi (fun t5 et5 => ?_)
  have gt5 : t5.toInt = 520 * v6.toInt := pv_mul (a := 520) (b := v6.toInt) et5 (by decide) rfl (by omega) (by omega)
  refine lv_aload_n hx hb dX12_put_36 rfl (lv_at hl 0 rfl) ?_
  refine va_get (D := (dC, dI)) (ci := 12) (v := .ref h3) (C := RX12) (T := TX12) (N := 48) hx hb hts (fun _ h => List.mem_cons_of_mem _ (List.mem_append_right _ h)) hown hK hP 0 rfl rfl 8 (by decide) (hts (.fieldLink RX12 19 "LeftArgumentsModel" "codes" "[I") (List.mem_cons_of_mem _ (List.mem_append_left _ (List.mem_of_getElem? (i := 2) rfl)))) (fun _ h9 => h9) rfl dX12_put_37 ?_
  refine lv_aload_n hx hb dX12_put_40 rfl (lv_at hl 0 rfl) ?_
  refine va_get (D := (dC, dI)) (ci := 12) (v := .int v6) (C := RX12) (T := TX12) (N := 48) hx hb hts (fun _ h => List.mem_cons_of_mem _ (List.mem_append_right _ h)) hown hK hP 0 rfl rfl 14 (by decide) (hts (.fieldLink RX12 122 "LeftArgumentsModel" "text" "I") (List.mem_cons_of_mem _ (List.mem_append_left _ (List.mem_of_getElem? (i := 1) rfl)))) (fun _ h9 => h9) rfl dX12_put_41 ?_
  refine va_iald hx hb hK hP 3 2 rfl rfl (vp_in_iff.mpr ⟨by omega, by omega⟩) dX12_put_44 ?_
  refine lv_topi (fun t6 et6 => ?_)
  have gmt6 : t6.toInt = t2.toInt := by rw [et6, et2]
  have gat6 : 0 ≤ t6.toInt ∧ t6.toInt ≤ 500 := by rw [et6]; constructor <;> omega
  refine lv_iadd hx hb dX12_put_45 ?_
  refine lv_topi (fun t7 et7 => ?_)
  have gt7 : t7.toInt = t5.toInt + t6.toInt := pv_add (a := t5.toInt) (b := t6.toInt) et7 rfl rfl (by omega) (by omega)
  refine lv_iload_n hx hb dX12_put_46 rfl (lv_at hl 2 rfl) ?_
  refine va_iast hx hb hK hP hD hS 2 1 rfl rfl (vp_in_iff.mpr ⟨by omega, by omega⟩) dX12_put_47 (fun H locs hP hD hS => ?_)
  obtain ⟨fn8, efn8⟩ : ∃ g : Nat → Int32, g = upd f21 (Int32.toNatClampNeg t7) v24 := ⟨_, rfl⟩
  rw [← efn8] at hP hD
  have hP : va_P (dC, dI) vwCl (wd_c62683a8 h0 v0 r0 v1 v2 v3 v4 h1 h2 h3 r1 r2 r3 r4 v5 v6 r5 r6 r7 r8 v7 r9 r10 v8 v9 r11 r12 v10 v11 r13 v12 v13 r14 v14 w15 r15 v16 v17 r16 r17 r18 r19 r20 r21 v18 r22 r23 r24 v19 h1 g0 fn4 h2 g1 fn8 h3 g2 f22) H := hP
  have hD : va_D A (wd_c62683a8 h0 v0 r0 v1 v2 v3 v4 h1 h2 h3 r1 r2 r3 r4 v5 v6 r5 r6 r7 r8 v7 r9 r10 v8 v9 r11 r12 v10 v11 r13 v12 v13 r14 v14 w15 r15 v16 v17 r16 r17 r18 r19 r20 r21 v18 r22 r23 r24 v19 h1 g0 fn4 h2 g1 fn8 h3 g2 f22) := hD
  refine lv_aload_n hx hb dX12_put_48 rfl (lv_at hl 0 rfl) ?_
  refine va_get (D := (dC, dI)) (ci := 12) (v := .ref h3) (C := RX12) (T := TX12) (N := 48) hx hb hts (fun _ h => List.mem_cons_of_mem _ (List.mem_append_right _ h)) hown hK hP 0 rfl rfl 8 (by decide) (hts (.fieldLink RX12 19 "LeftArgumentsModel" "codes" "[I") (List.mem_cons_of_mem _ (List.mem_append_left _ (List.mem_of_getElem? (i := 2) rfl)))) (fun _ h9 => h9) rfl dX12_put_49 ?_
  refine lv_aload_n hx hb dX12_put_52 rfl (lv_at hl 0 rfl) ?_
  refine va_get (D := (dC, dI)) (ci := 12) (v := .int v6) (C := RX12) (T := TX12) (N := 48) hx hb hts (fun _ h => List.mem_cons_of_mem _ (List.mem_append_right _ h)) hown hK hP 0 rfl rfl 14 (by decide) (hts (.fieldLink RX12 122 "LeftArgumentsModel" "text" "I") (List.mem_cons_of_mem _ (List.mem_append_left _ (List.mem_of_getElem? (i := 1) rfl)))) (fun _ h9 => h9) rfl dX12_put_53 ?_
  refine lv_dup2_11 hx hb dX12_put_56 rfl rfl ?_
  refine va_iald hx hb hK hP 3 2 rfl rfl (vp_in_iff.mpr ⟨by omega, by omega⟩) dX12_put_57 ?_
  refine lv_topi (fun t9 et9 => ?_)
  have gmt9 : t9.toInt = t2.toInt := by rw [et9, et2]
  have gat9 : 0 ≤ t9.toInt ∧ t9.toInt ≤ 500 := by rw [et9]; constructor <;> omega
  refine lv_iconst (v := 1) hx hb dX12_put_58 (by decide) ?_
  refine lv_iadd hx hb dX12_put_59 ?_
  refine lv_topi (fun t10 et10 => ?_)
  have gt10 : t10.toInt = t9.toInt + 1 := pv_add (a := t9.toInt) (b := 1) et10 rfl (by decide) (by omega) (by omega)
  refine va_iast hx hb hK hP hD hS 3 2 rfl rfl (vp_in_iff.mpr ⟨by omega, by omega⟩) dX12_put_60 (fun H locs hP hD hS => ?_)
  obtain ⟨fn11, efn11⟩ : ∃ g : Nat → Int32, g = upd f22 (Int32.toNatClampNeg v6) t10 := ⟨_, rfl⟩
  rw [← efn11] at hP hD
  have hP : va_P (dC, dI) vwCl (wd_c62683a8 h0 v0 r0 v1 v2 v3 v4 h1 h2 h3 r1 r2 r3 r4 v5 v6 r5 r6 r7 r8 v7 r9 r10 v8 v9 r11 r12 v10 v11 r13 v12 v13 r14 v14 w15 r15 v16 v17 r16 r17 r18 r19 r20 r21 v18 r22 r23 r24 v19 h1 g0 fn4 h2 g1 fn8 h3 g2 fn11) H := hP
  have hD : va_D A (wd_c62683a8 h0 v0 r0 v1 v2 v3 v4 h1 h2 h3 r1 r2 r3 r4 v5 v6 r5 r6 r7 r8 v7 r9 r10 v8 v9 r11 r12 v10 v11 r13 v12 v13 r14 v14 w15 r15 v16 v17 r16 r17 r18 r19 r20 r21 v18 r22 r23 r24 v19 h1 g0 fn4 h2 g1 fn8 h3 g2 fn11) := hD
  subst hQ
  have hP9 := hP.sub (ws' := (wd_c62683a8 h0 v0 r0 v1 v2 v3 v4 h1 h2 h3 r1 r2 r3 r4 v5 v6 r5 r6 r7 r8 v7 r9 r10 v8 v9 r11 r12 v10 v11 r13 v12 v13 r14 v14 w15 r15 v16 v17 r16 r17 r18 r19 r20 r21 v18 r22 r23 r24 v19 h1 g0 fn4 h2 g1 fn8 h3 g2 fn11)) [0, 1, 2, 3] rfl
  have hD9 := hD.sub (ws' := (wd_c62683a8 h0 v0 r0 v1 v2 v3 v4 h1 h2 h3 r1 r2 r3 r4 v5 v6 r5 r6 r7 r8 v7 r9 r10 v8 v9 r11 r12 v10 v11 r13 v12 v13 r14 v14 w15 r15 v16 v17 r16 r17 r18 r19 r20 r21 v18 r22 r23 r24 v19 h1 g0 fn4 h2 g1 fn8 h3 g2 fn11)) [0, 1, 2, 3] (by decide) rfl
  have hK9 := hK.sub (tys' := []) [] rfl
  exact W.vret hx hb hr (fun t ht hW => ⟨⟨(), rfl, trivial, ⟨fn4, fn8, fn11, by apply pm_Put.mk <;> first | assumption | omega, by rw [ht]; exact hP9, va_K.moved hW.alike hK9, hD9⟩⟩, hS.F ht⟩) hS.2.2 dX12_put_61
def q_X12_plainNumber : List Cond := .code yX12_plainNumber cX12_plainNumber 3 (some .int) :: (([.code yX12_here cX12_here 1 (some .int), .fieldLink RX12 112 "LeftArgumentsModel" "at" "I", .fieldLink RX12 109 "LeftArgumentsModel" "size" "I", .fieldLink RX12 9 "LeftArgumentsModel" "tape" "[I", .initialized RX12, .instanceMethod yX12_here, .selects RX12 yX12_here yX12_here, .methodLink RX12 115 yX12_here, .code yX12_isDigit cX12_isDigit 1 (some .boolean), .static yX12_isDigit, .methodLink RX12 134 yX12_isDigit, .code yX12_bad cX12_bad 1 none, .fieldLink RX12 119 "LeftArgumentsModel" "wrong" "I", .instanceMethod yX12_bad, .selects RX12 yX12_bad yX12_bad, .methodLink RX12 128 yX12_bad] : List Cond) ++ wsX120)
set_option maxRecDepth 20000 in
theorem g_X12_plainNumber_0 : GoodIn q_X12_plainNumber (wsV RX12 115 RX12 yX12_here q_X12_here) := goodIn_app (goodIn_r _ [8, 6, 7, 5] rfl (by decide +kernel)) (goodIn_ca (goodIn_r (.code yX12_here cX12_here 1 (some .int) :: [.fieldLink RX12 112 "LeftArgumentsModel" "at" "I", .fieldLink RX12 109 "LeftArgumentsModel" "size" "I", .fieldLink RX12 9 "LeftArgumentsModel" "tape" "[I"]) [1, 2, 3, 4] rfl (by decide +kernel)) (goodIn_sub (fun _ h => List.mem_cons_of_mem _ (List.mem_append_right _ h)) gwX12))
set_option maxRecDepth 20000 in
theorem g_X12_plainNumber_1 : GoodIn q_X12_plainNumber (va_wsS RX12 134 yX12_isDigit q_X12_isDigit) := goodIn_app (goodIn_r _ [11, 10, 5] rfl (by decide +kernel)) (goodIn_r (.code yX12_isDigit cX12_isDigit 1 (some .boolean) :: []) [9] rfl (by decide +kernel))
set_option maxRecDepth 20000 in
theorem g_X12_plainNumber_7 : GoodIn q_X12_plainNumber (wsV RX12 128 RX12 yX12_bad q_X12_bad) := goodIn_app (goodIn_r _ [16, 14, 15, 5] rfl (by decide +kernel)) (goodIn_ca (goodIn_r (.code yX12_bad cX12_bad 1 none :: [.fieldLink RX12 119 "LeftArgumentsModel" "wrong" "I", .fieldLink RX12 112 "LeftArgumentsModel" "at" "I"]) [12, 13, 2] rfl (by decide +kernel)) (goodIn_sub (fun _ h => List.mem_cons_of_mem _ (List.mem_append_right _ h)) gwX12))
set_option maxHeartbeats 4000000 in
set_option maxRecDepth 100000 in
theorem k_X12_plainNumber (l : Launch) (dC : Nat → ClassId) (dI : Nat → Nat → Nat) (h0 : Nat) (h1 : Nat) (v0 : Int32) (v1 : Int32) (v2 : Int32) (v3 : Int32) (r0 : Nat) (r1 : Nat) (r2 : Nat) (r3 : Nat) (r4 : Nat) (r5 : Nat) (r6 : Nat) (v4 : Int32) (v5 : Int32) (r7 : Nat) (r8 : Nat) (r9 : Nat) (r10 : Nat) (v6 : Int32) (r11 : Nat) (r12 : Nat) (v7 : Int32) (v8 : Int32) (r13 : Nat) (r14 : Nat) (v9 : Int32) (v10 : Int32) (r15 : Nat) (v11 : Int32) (v12 : Int32) (r16 : Nat) (v13 : Int32) (w14 : Int64) (r17 : Nat) (v15 : Int32) (v16 : Int32) (r18 : Nat) (r19 : Nat) (r20 : Nat) (r21 : Nat) (r22 : Nat) (r23 : Nat) (v17 : Int32) (r24 : Nat) (r25 : Nat) (r26 : Nat) (v18 : Int32) (g0 : ClassId) (f19 : Nat → Int32) (i_v1 : 0 ≤ v1.toInt ∧ v1.toInt ≤ 240) (i_v2 : 0 ≤ v2.toInt ∧ v2.toInt ≤ 240) (i_v4 : 0 ≤ v4.toInt ∧ v4.toInt ≤ 4) (i_v5 : 0 ≤ v5.toInt ∧ v5.toInt ≤ 4) (i_v6 : 0 ≤ v6.toInt ∧ v6.toInt ≤ 8) (i_v7 : 0 ≤ v7.toInt ∧ v7.toInt ≤ 8) (i_v8 : 0 ≤ v8.toInt ∧ v8.toInt ≤ 1) (i_v9 : -1 ≤ v9.toInt ∧ v9.toInt ≤ 3) (i_v13 : 0 ≤ v13.toInt ∧ v13.toInt ≤ 40) (i_v17 : 0 ≤ v17.toInt ∧ v17.toInt ≤ 10) (i_v18 : 0 ≤ v18.toInt ∧ v18.toInt ≤ 1) (ia_f19 : (∀ j, 0 ≤ (f19 j).toInt ∧ (f19 j).toInt ≤ 255)) (pp0 : pm_dig v2 v1 f19) (sz : Nat) : Met l yX12_plainNumber q_X12_plainNumber ({ frames := 1, cells := 0, slots := 0, locals := 20 }) (va_Pc [.ref h0] (fun U => U.heap.size = sz ∧ va_P (dC, dI) vwCl (wd_f4cd022e h0 v0 h1 v1 v2 (-1) v3 r0 r1 r2 r3 r4 r5 r6 v4 v5 r7 r8 r9 r10 v6 r11 r12 v7 v8 r13 r14 v9 v10 r15 v11 v12 r16 v13 w14 r17 v15 v16 r18 r19 r20 r21 r22 r23 v17 r24 r25 r26 v18 h1 g0 f19) U.heap ∧ va_K (dC, dI) vwCl [(g0, .int)] U ∧ va_D (fun _ => True) (wd_f4cd022e h0 v0 h1 v1 v2 (-1) v3 r0 r1 r2 r3 r4 r5 r6 v4 v5 r7 r8 r9 r10 v6 r11 r12 v7 v8 r13 r14 v9 v10 r15 v11 v12 r16 v13 w14 r17 v15 v16 r18 r19 r20 r21 r22 r23 v17 r24 r25 r26 v18 h1 g0 f19))) (va_Qi (fun (r : Int32) (r9 : Int32) => r9 = r) (fun (r : Int32) (t : State) => (∃ (o_h0_3 : Int32), 0 ≤ o_h0_3.toInt ∧ o_h0_3.toInt ≤ 240 ∧ (-53328 ≤ r.toInt) ∧ (r.toInt ≤ 229977) ∧ (v2.toInt + 1 ≤ o_h0_3.toInt) ∧ (pg_nm f19 v1.toInt 4 v2.toInt = (true, o_h0_3.toInt)) ∧ va_P (dC, dI) vwCl (wd_f4cd022e h0 v0 h1 v1 o_h0_3 (-1) v3 r0 r1 r2 r3 r4 r5 r6 v4 v5 r7 r8 r9 r10 v6 r11 r12 v7 v8 r13 r14 v9 v10 r15 v11 v12 r16 v13 w14 r17 v15 v16 r18 r19 r20 r21 r22 r23 v17 r24 r25 r26 v18 h1 g0 f19) t.heap ∧ va_K (dC, dI) vwCl [] t ∧ va_D (va_A (wd_f4cd022e h0 v0 h1 v1 v2 (-1) v3 r0 r1 r2 r3 r4 r5 r6 v4 v5 r7 r8 r9 r10 v6 r11 r12 v7 v8 r13 r14 v9 v10 r15 v11 v12 r16 v13 w14 r17 v15 v16 r18 r19 r20 r21 r22 r23 v17 r24 r25 r26 v18 h1 g0 f19) sz) (wd_f4cd022e h0 v0 h1 v1 o_h0_3 (-1) v3 r0 r1 r2 r3 r4 r5 r6 v4 v5 r7 r8 r9 r10 v6 r11 r12 v7 v8 r13 r14 v9 v10 r15 v11 v12 r16 v13 w14 r17 v15 v16 r18 r19 r20 r21 r22 r23 v17 r24 r25 r26 v18 h1 g0 f19)) ∨ (∃ (o_h0_3 : Int32) (o_h0_4 : Int32), 0 ≤ o_h0_3.toInt ∧ o_h0_3.toInt ≤ 239 ∧ 0 ≤ o_h0_4.toInt ∧ o_h0_4.toInt ≤ 240 ∧ (-53328 ≤ r.toInt) ∧ (r.toInt ≤ 229977) ∧ (v2.toInt + 1 ≤ o_h0_3.toInt) ∧ (pg_nm f19 v1.toInt 4 v2.toInt = (false, o_h0_4.toInt)) ∧ va_P (dC, dI) vwCl (wd_f4cd022e h0 v0 h1 v1 o_h0_3 o_h0_4 v3 r0 r1 r2 r3 r4 r5 r6 v4 v5 r7 r8 r9 r10 v6 r11 r12 v7 v8 r13 r14 v9 v10 r15 v11 v12 r16 v13 w14 r17 v15 v16 r18 r19 r20 r21 r22 r23 v17 r24 r25 r26 v18 h1 g0 f19) t.heap ∧ va_K (dC, dI) vwCl [] t ∧ va_D (va_A (wd_f4cd022e h0 v0 h1 v1 v2 (-1) v3 r0 r1 r2 r3 r4 r5 r6 v4 v5 r7 r8 r9 r10 v6 r11 r12 v7 v8 r13 r14 v9 v10 r15 v11 v12 r16 v13 w14 r17 v15 v16 r18 r19 r20 r21 r22 r23 v17 r24 r25 r26 v18 h1 g0 f19) sz) (wd_f4cd022e h0 v0 h1 v1 o_h0_3 o_h0_4 v3 r0 r1 r2 r3 r4 r5 r6 v4 v5 r7 r8 r9 r10 v6 r11 r12 v7 v8 r13 r14 v9 v10 r15 v11 v12 r16 v13 w14 r17 v15 v16 r18 r19 r20 r21 r22 r23 v17 r24 r25 r26 v18 h1 g0 f19))) (va_A (wd_f4cd022e h0 v0 h1 v1 v2 (-1) v3 r0 r1 r2 r3 r4 r5 r6 v4 v5 r7 r8 r9 r10 v6 r11 r12 v7 v8 r13 r14 v9 v10 r15 v11 v12 r16 v13 w14 r17 v15 v16 r18 r19 r20 r21 r22 r23 v17 r24 r25 r26 v18 h1 g0 f19) sz)) 0 0 (va_A (wd_f4cd022e h0 v0 h1 v1 v2 (-1) v3 r0 r1 r2 r3 r4 r5 r6 v4 v5 r7 r8 r9 r10 v6 r11 r12 v7 v8 r13 r14 v9 v10 r15 v11 v12 r16 v13 w14 r17 v15 v16 r18 r19 r20 r21 r22 r23 v17 r24 r25 r26 v18 h1 g0 f19) sz) := by
  refine Met.ofW (cc := cX12_plainNumber) (maxL := 3) (ret := (some .int)) (by decide) rfl ?_
  intro p e s m args below meth c s₁ B hml hv
  obtain ⟨i_v1a, i_v1b⟩ := i_v1
  obtain ⟨i_v2a, i_v2b⟩ := i_v2
  obtain ⟨i_v4a, i_v4b⟩ := i_v4
  obtain ⟨i_v5a, i_v5b⟩ := i_v5
  obtain ⟨i_v6a, i_v6b⟩ := i_v6
  obtain ⟨i_v7a, i_v7b⟩ := i_v7
  obtain ⟨i_v8a, i_v8b⟩ := i_v8
  obtain ⟨i_v9a, i_v9b⟩ := i_v9
  obtain ⟨i_v13a, i_v13b⟩ := i_v13
  obtain ⟨i_v17a, i_v17b⟩ := i_v17
  obtain ⟨i_v18a, i_v18b⟩ := i_v18
  obtain ⟨rfl, hsz, hP, hK, hD0⟩ := hv
  have hx := B.exec
  have hb := B.bytes
  have hr := B.returns
  have hts := atoms_spec (ws := q_X12_plainNumber) B.pre
  have hown : s.vm.findClass RX12 = some m.cls := findClass_of_methodNamed B.named
  have hlocks := B.notSynchronized
  subst hsz
  have hD := hD0.self (sz := s.heap.size)
  generalize hAe : va_A (wd_f4cd022e h0 v0 h1 v1 v2 (-1) v3 r0 r1 r2 r3 r4 r5 r6 v4 v5 r7 r8 r9 r10 v6 r11 r12 v7 v8 r13 r14 v9 v10 r15 v11 v12 r16 v13 w14 r17 v15 v16 r18 r19 r20 r21 r22 r23 v17 r24 r25 r26 v18 h1 g0 f19) s.heap.size = A at hD ⊢
  have hA : ∀ q : Nat, s.heap.size ≤ q → A q := fun q h => by rw [← hAe]; exact Or.inr h
  have hS : va_S A s.heap s.heap [] := va_S.rf
  generalize hQ : (MQ below _ _ s 0 0 A) = Q
  have hl := lv_entry ([.ref h0]) (n := 3) (Nat.le_of_ble_eq_true rfl)
  rw [lg_entry_eq]
  generalize (lg_sl ([.ref h0]) ++ List.replicate (3 - (lg_sl ([.ref h0])).length) Slot.unset).toArray = ls at hl ⊢
  have hl : lv_has ls 3 [(0, .ref h0)] := hl
  obtain ⟨H, hH⟩ : ∃ H : Heap, H = s.heap := ⟨_, rfl⟩
  obtain ⟨locs, hlocs⟩ : ∃ y : List Loc, y = [] := ⟨_, rfl⟩
  have hS : va_S A s.heap H locs := by rw [hH, hlocs]; exact va_S.rf
  have hP : va_P (dC, dI) vwCl (wd_f4cd022e h0 v0 h1 v1 v2 (-1) v3 r0 r1 r2 r3 r4 r5 r6 v4 v5 r7 r8 r9 r10 v6 r11 r12 v7 v8 r13 r14 v9 v10 r15 v11 v12 r16 v13 w14 r17 v15 v16 r18 r19 r20 r21 r22 r23 v17 r24 r25 r26 v18 h1 g0 f19) H := by rw [hH]; exact hP
  rw [← hH, ← hlocs]
  obtain ⟨pd1, pd2, pd3⟩ := pp0
  have hnm : pg_nm f19 v1.toInt 4 v2.toInt = pg_nm f19 v1.toInt 4 v2.toInt := rfl
  refine lv_iconst (v := 0) hx hb dX12_plainNumber_0 (by decide) ?_
  refine lv_istore_n (lv' := [(1, .int 0), (0, .ref h0)]) hx hb dX12_plainNumber_1 rfl hl (by decide) rfl (fun ls hl => ?_)
  refine lv_iconst (v := 0) hx hb dX12_plainNumber_2 (by decide) ?_
  refine lv_istore_n (lv' := [(2, .int 0), (1, .int 0), (0, .ref h0)]) hx hb dX12_plainNumber_3 rfl hl (by decide) rfl (fun ls hl => ?_)
  refine lv_iload_n hx hb dX12_plainNumber_4 rfl (lv_at hl 0 rfl) ?_
  refine lv_iconst (v := 4) hx hb dX12_plainNumber_5 (by decide) ?_
  refine lv_icmp_ge (tgt := 48) hx hb dX12_plainNumber_6 (by decide) (fun c => absurd c (by decide)) (fun _ => ?_)
  refine lv_aload_n hx hb dX12_plainNumber_9 rfl (lv_at hl 2 rfl) ?_
  have hPc := hP.sub (ws' := (wd_f4cd022e h0 v0 h1 v1 v2 (-1) v3 r0 r1 r2 r3 r4 r5 r6 v4 v5 r7 r8 r9 r10 v6 r11 r12 v7 v8 r13 r14 v9 v10 r15 v11 v12 r16 v13 w14 r17 v15 v16 r18 r19 r20 r21 r22 r23 v17 r24 r25 r26 v18 h1 g0 f19)) [0, 1] rfl
  have hDc := hD.sub (ws' := (wd_f4cd022e h0 v0 h1 v1 v2 (-1) v3 r0 r1 r2 r3 r4 r5 r6 v4 v5 r7 r8 r9 r10 v6 r11 r12 v7 v8 r13 r14 v9 v10 r15 v11 v12 r16 v13 w14 r17 v15 v16 r18 r19 r20 r21 r22 r23 v17 r24 r25 r26 v18 h1 g0 f19)) [0, 1] (by decide) rfl
  have hKc := hK.sub (tys' := [(g0, .int)]) [0] rfl
  have hFc := va_free (wc := (wd_f4cd022e h0 v0 h1 v1 v2 (-1) v3 r0 r1 r2 r3 r4 r5 r6 v4 v5 r7 r8 r9 r10 v6 r11 r12 v7 v8 r13 r14 v9 v10 r15 v11 v12 r16 v13 w14 r17 v15 v16 r18 r19 r20 r21 r22 r23 v17 r24 r25 r26 v18 h1 g0 f19)) hD hS hA [0, 1] rfl
  refine va_calli (va_runV (As := []) (rest := []) ⟨hx, hb, hml, hown, hts⟩ (k_X12_here l dC dI h0 h1 v0 v1 v2 ((-1)) v3 r0 r1 r2 r3 r4 r5 r6 v4 v5 r7 r8 r9 r10 v6 r11 r12 v7 v8 r13 r14 v9 v10 r15 v11 v12 r16 v13 w14 r17 v15 v16 r18 r19 r20 r21 r22 r23 v17 r24 r25 r26 v18 g0 f19 ⟨i_v1a, i_v1b⟩ ⟨i_v2a, i_v2b⟩ ⟨i_v4a, i_v4b⟩ ⟨i_v5a, i_v5b⟩ ⟨i_v6a, i_v6b⟩ ⟨i_v7a, i_v7b⟩ ⟨i_v8a, i_v8b⟩ ⟨i_v9a, i_v9b⟩ ⟨i_v13a, i_v13b⟩ ⟨i_v17a, i_v17b⟩ ⟨i_v18a, i_v18b⟩ ia_f19 H.size) (cwV 0 hts g_X12_plainNumber_0 rfl rfl rfl (by decide +kernel) ⟨Nat.le_of_ble_eq_true rfl, Nat.le_of_ble_eq_true rfl⟩) (pv_PV12 hPc hKc hDc (q0 := 0) rfl) rfl rfl hl.1 rfl (lv_room (Nat.le_of_ble_eq_true rfl)) dX12_plainNumber_10 ⟨Nat.le_of_ble_eq_true rfl, Nat.le_of_ble_eq_true rfl⟩) hS (fun q _ h => hFc q h) hFc (fun ra1 u t H1 locs ht hvm hwra1 hB hz1 hk1 hS => ?_)
  try rw [hwra1] at hB
  have hkra1_0 : (((-1) : Int32)).toInt = -1 := by decide
  rcases hB with hB | hB
  · skip
    obtain ⟨pt0_ra1, pt1_ra1, pt2_ra1, pt3_ra1, hP1, hK1, hD1⟩ := hB
    rw [ht] at hP1
    obtain ⟨hP2, hD2⟩ := va_join (wr := []) (w1 := (wd_f4cd022e h0 v0 h1 v1 v2 (-1) v3 r0 r1 r2 r3 r4 r5 r6 v4 v5 r7 r8 r9 r10 v6 r11 r12 v7 v8 r13 r14 v9 v10 r15 v11 v12 r16 v13 w14 r17 v15 v16 r18 r19 r20 r21 r22 r23 v17 r24 r25 r26 v18 h1 g0 f19)) hP hD [0, 1] [] rfl rfl (by decide) (by decide) hk1 hFc hP1 hD1
    clear hP hD hPc hDc hKc hFc hP1 hK1 hD1 hk1 hz1
    generalize H1 = H at hP2 hS ⊢
    have hP : va_P (dC, dI) vwCl (wd_f4cd022e h0 v0 h1 v1 v2 (-1) v3 r0 r1 r2 r3 r4 r5 r6 v4 v5 r7 r8 r9 r10 v6 r11 r12 v7 v8 r13 r14 v9 v10 r15 v11 v12 r16 v13 w14 r17 v15 v16 r18 r19 r20 r21 r22 r23 v17 r24 r25 r26 v18 h1 g0 f19) H := hP2
    have hD : va_D A (wd_f4cd022e h0 v0 h1 v1 v2 (-1) v3 r0 r1 r2 r3 r4 r5 r6 v4 v5 r7 r8 r9 r10 v6 r11 r12 v7 v8 r13 r14 v9 v10 r15 v11 v12 r16 v13 w14 r17 v15 v16 r18 r19 r20 r21 r22 r23 v17 r24 r25 r26 v18 h1 g0 f19) := hD2
    clear hP2 hD2
    obtain rfl : ra1 = ((-1) : Int32) := pv_cs (by decide) pt0_ra1 pt1_ra1
    have hPc := hP.sub (ws' := []) [] rfl
    have hDc := hD.sub (ws' := []) [] (by decide) rfl
    have hKc := hK.sub (tys' := []) [] rfl
    have hFc := va_free (wc := []) hD hS hA [] rfl
    refine va_calli (va_runS (As := [.int (-1)]) (rest := []) ⟨hx, hb, hml, hown, hts⟩ (k_X12_isDigit l dC dI ((-1))  H.size) (va_cwS 1 hts g_X12_plainNumber_1 rfl rfl rfl (by decide +kernel) ⟨Nat.le_of_ble_eq_true rfl, Nat.le_of_ble_eq_true rfl⟩) (pv_PS hPc hKc hDc) rfl rfl hl.1 rfl (lv_room (Nat.le_of_ble_eq_true rfl)) dX12_plainNumber_13 ⟨Nat.le_of_ble_eq_true rfl, Nat.le_of_ble_eq_true rfl⟩) hS (fun q _ h => hFc q h) hFc (fun ra2 u t H1 locs ht hvm hwra2 hB hz1 hk1 hS => ?_)
    try rw [hwra2] at hB
    have hkra2_0 : (((-1) : Int32)).toInt = -1 := by decide
    obtain ⟨pt0_ra2, pt1_ra2, pt2_ra2, pt3_ra2, pt4_ra2, hP1, hK1, hD1⟩ := hB
    rw [ht] at hP1
    obtain ⟨hP2, hD2⟩ := va_join (wr := (wd_f4cd022e h0 v0 h1 v1 v2 (-1) v3 r0 r1 r2 r3 r4 r5 r6 v4 v5 r7 r8 r9 r10 v6 r11 r12 v7 v8 r13 r14 v9 v10 r15 v11 v12 r16 v13 w14 r17 v15 v16 r18 r19 r20 r21 r22 r23 v17 r24 r25 r26 v18 h1 g0 f19)) (w1 := []) hP hD [] [0, 1] rfl rfl (by decide) (by decide) hk1 hFc hP1 hD1
    clear hP hD hPc hDc hKc hFc hP1 hK1 hD1 hk1 hz1
    generalize H1 = H at hP2 hS ⊢
    have hP : va_P (dC, dI) vwCl (wd_f4cd022e h0 v0 h1 v1 v2 (-1) v3 r0 r1 r2 r3 r4 r5 r6 v4 v5 r7 r8 r9 r10 v6 r11 r12 v7 v8 r13 r14 v9 v10 r15 v11 v12 r16 v13 w14 r17 v15 v16 r18 r19 r20 r21 r22 r23 v17 r24 r25 r26 v18 h1 g0 f19) H := hP2
    have hD : va_D A (wd_f4cd022e h0 v0 h1 v1 v2 (-1) v3 r0 r1 r2 r3 r4 r5 r6 v4 v5 r7 r8 r9 r10 v6 r11 r12 v7 v8 r13 r14 v9 v10 r15 v11 v12 r16 v13 w14 r17 v15 v16 r18 r19 r20 r21 r22 r23 v17 r24 r25 r26 v18 h1 g0 f19) := hD2
    clear hP2 hD2
    refine lv_if_eq (tgt := 48) hx hb dX12_plainNumber_16 (by decide) (fun c3 => ?_) (fun c3 => ?_)
    · skip
      have fc3 : ra2.toInt = 0 := congrArg Int32.toInt c3
      refine lv_aload_n hx hb dX12_plainNumber_48 rfl (lv_at hl 2 rfl) ?_
      have hPc := hP.sub (ws' := (wd_f4cd022e h0 v0 h1 v1 v2 (-1) v3 r0 r1 r2 r3 r4 r5 r6 v4 v5 r7 r8 r9 r10 v6 r11 r12 v7 v8 r13 r14 v9 v10 r15 v11 v12 r16 v13 w14 r17 v15 v16 r18 r19 r20 r21 r22 r23 v17 r24 r25 r26 v18 h1 g0 f19)) [0, 1] rfl
      have hDc := hD.sub (ws' := (wd_f4cd022e h0 v0 h1 v1 v2 (-1) v3 r0 r1 r2 r3 r4 r5 r6 v4 v5 r7 r8 r9 r10 v6 r11 r12 v7 v8 r13 r14 v9 v10 r15 v11 v12 r16 v13 w14 r17 v15 v16 r18 r19 r20 r21 r22 r23 v17 r24 r25 r26 v18 h1 g0 f19)) [0, 1] (by decide) rfl
      have hKc := hK.sub (tys' := [(g0, .int)]) [0] rfl
      have hFc := va_free (wc := (wd_f4cd022e h0 v0 h1 v1 v2 (-1) v3 r0 r1 r2 r3 r4 r5 r6 v4 v5 r7 r8 r9 r10 v6 r11 r12 v7 v8 r13 r14 v9 v10 r15 v11 v12 r16 v13 w14 r17 v15 v16 r18 r19 r20 r21 r22 r23 v17 r24 r25 r26 v18 h1 g0 f19)) hD hS hA [0, 1] rfl
      refine va_calli (va_runV (As := []) (rest := []) ⟨hx, hb, hml, hown, hts⟩ (k_X12_here l dC dI h0 h1 v0 v1 v2 ((-1)) v3 r0 r1 r2 r3 r4 r5 r6 v4 v5 r7 r8 r9 r10 v6 r11 r12 v7 v8 r13 r14 v9 v10 r15 v11 v12 r16 v13 w14 r17 v15 v16 r18 r19 r20 r21 r22 r23 v17 r24 r25 r26 v18 g0 f19 ⟨i_v1a, i_v1b⟩ ⟨i_v2a, i_v2b⟩ ⟨i_v4a, i_v4b⟩ ⟨i_v5a, i_v5b⟩ ⟨i_v6a, i_v6b⟩ ⟨i_v7a, i_v7b⟩ ⟨i_v8a, i_v8b⟩ ⟨i_v9a, i_v9b⟩ ⟨i_v13a, i_v13b⟩ ⟨i_v17a, i_v17b⟩ ⟨i_v18a, i_v18b⟩ ia_f19 H.size) (cwV 0 hts g_X12_plainNumber_0 rfl rfl rfl (by decide +kernel) ⟨Nat.le_of_ble_eq_true rfl, Nat.le_of_ble_eq_true rfl⟩) (pv_PV12 hPc hKc hDc (q0 := 0) rfl) rfl rfl hl.1 rfl (lv_room (Nat.le_of_ble_eq_true rfl)) dX12_plainNumber_49 ⟨Nat.le_of_ble_eq_true rfl, Nat.le_of_ble_eq_true rfl⟩) hS (fun q _ h => hFc q h) hFc (fun ra4 u t H1 locs ht hvm hwra4 hB hz1 hk1 hS => ?_)
      try rw [hwra4] at hB
      have hkra4_0 : (((-1) : Int32)).toInt = -1 := by decide
      rcases hB with hB | hB
      · skip
        obtain ⟨pt0_ra4, pt1_ra4, pt2_ra4, pt3_ra4, hP1, hK1, hD1⟩ := hB
        rw [ht] at hP1
        obtain ⟨hP2, hD2⟩ := va_join (wr := []) (w1 := (wd_f4cd022e h0 v0 h1 v1 v2 (-1) v3 r0 r1 r2 r3 r4 r5 r6 v4 v5 r7 r8 r9 r10 v6 r11 r12 v7 v8 r13 r14 v9 v10 r15 v11 v12 r16 v13 w14 r17 v15 v16 r18 r19 r20 r21 r22 r23 v17 r24 r25 r26 v18 h1 g0 f19)) hP hD [0, 1] [] rfl rfl (by decide) (by decide) hk1 hFc hP1 hD1
        clear hP hD hPc hDc hKc hFc hP1 hK1 hD1 hk1 hz1
        generalize H1 = H at hP2 hS ⊢
        have hP : va_P (dC, dI) vwCl (wd_f4cd022e h0 v0 h1 v1 v2 (-1) v3 r0 r1 r2 r3 r4 r5 r6 v4 v5 r7 r8 r9 r10 v6 r11 r12 v7 v8 r13 r14 v9 v10 r15 v11 v12 r16 v13 w14 r17 v15 v16 r18 r19 r20 r21 r22 r23 v17 r24 r25 r26 v18 h1 g0 f19) H := hP2
        have hD : va_D A (wd_f4cd022e h0 v0 h1 v1 v2 (-1) v3 r0 r1 r2 r3 r4 r5 r6 v4 v5 r7 r8 r9 r10 v6 r11 r12 v7 v8 r13 r14 v9 v10 r15 v11 v12 r16 v13 w14 r17 v15 v16 r18 r19 r20 r21 r22 r23 v17 r24 r25 r26 v18 h1 g0 f19) := hD2
        clear hP2 hD2
        obtain rfl : ra4 = ((-1) : Int32) := pv_cs (by decide) pt0_ra4 pt1_ra4
        have hPc := hP.sub (ws' := []) [] rfl
        have hDc := hD.sub (ws' := []) [] (by decide) rfl
        have hKc := hK.sub (tys' := []) [] rfl
        have hFc := va_free (wc := []) hD hS hA [] rfl
        refine va_calli (va_runS (As := [.int (-1)]) (rest := []) ⟨hx, hb, hml, hown, hts⟩ (k_X12_isDigit l dC dI ((-1))  H.size) (va_cwS 1 hts g_X12_plainNumber_1 rfl rfl rfl (by decide +kernel) ⟨Nat.le_of_ble_eq_true rfl, Nat.le_of_ble_eq_true rfl⟩) (pv_PS hPc hKc hDc) rfl rfl hl.1 rfl (lv_room (Nat.le_of_ble_eq_true rfl)) dX12_plainNumber_52 ⟨Nat.le_of_ble_eq_true rfl, Nat.le_of_ble_eq_true rfl⟩) hS (fun q _ h => hFc q h) hFc (fun ra5 u t H1 locs ht hvm hwra5 hB hz1 hk1 hS => ?_)
        try rw [hwra5] at hB
        have hkra5_0 : (((-1) : Int32)).toInt = -1 := by decide
        obtain ⟨pt0_ra5, pt1_ra5, pt2_ra5, pt3_ra5, pt4_ra5, hP1, hK1, hD1⟩ := hB
        rw [ht] at hP1
        obtain ⟨hP2, hD2⟩ := va_join (wr := (wd_f4cd022e h0 v0 h1 v1 v2 (-1) v3 r0 r1 r2 r3 r4 r5 r6 v4 v5 r7 r8 r9 r10 v6 r11 r12 v7 v8 r13 r14 v9 v10 r15 v11 v12 r16 v13 w14 r17 v15 v16 r18 r19 r20 r21 r22 r23 v17 r24 r25 r26 v18 h1 g0 f19)) (w1 := []) hP hD [] [0, 1] rfl rfl (by decide) (by decide) hk1 hFc hP1 hD1
        clear hP hD hPc hDc hKc hFc hP1 hK1 hD1 hk1 hz1
        generalize H1 = H at hP2 hS ⊢
        have hP : va_P (dC, dI) vwCl (wd_f4cd022e h0 v0 h1 v1 v2 (-1) v3 r0 r1 r2 r3 r4 r5 r6 v4 v5 r7 r8 r9 r10 v6 r11 r12 v7 v8 r13 r14 v9 v10 r15 v11 v12 r16 v13 w14 r17 v15 v16 r18 r19 r20 r21 r22 r23 v17 r24 r25 r26 v18 h1 g0 f19) H := hP2
        have hD : va_D A (wd_f4cd022e h0 v0 h1 v1 v2 (-1) v3 r0 r1 r2 r3 r4 r5 r6 v4 v5 r7 r8 r9 r10 v6 r11 r12 v7 v8 r13 r14 v9 v10 r15 v11 v12 r16 v13 w14 r17 v15 v16 r18 r19 r20 r21 r22 r23 v17 r24 r25 r26 v18 h1 g0 f19) := hD2
        clear hP2 hD2
        refine lv_if_eq (tgt := 62) hx hb dX12_plainNumber_55 (by decide) (fun c6 => ?_) (fun c6 => ?_)
        · skip
          have fc6 : ra5.toInt = 0 := congrArg Int32.toInt c6
          refine lv_iload_n hx hb dX12_plainNumber_62 rfl (lv_at hl 1 rfl) ?_
          subst hQ
          have hP9 := hP.sub (ws' := (wd_f4cd022e h0 v0 h1 v1 v2 (-1) v3 r0 r1 r2 r3 r4 r5 r6 v4 v5 r7 r8 r9 r10 v6 r11 r12 v7 v8 r13 r14 v9 v10 r15 v11 v12 r16 v13 w14 r17 v15 v16 r18 r19 r20 r21 r22 r23 v17 r24 r25 r26 v18 h1 g0 f19)) [0, 1] rfl
          have hD9 := hD.sub (ws' := (wd_f4cd022e h0 v0 h1 v1 v2 (-1) v3 r0 r1 r2 r3 r4 r5 r6 v4 v5 r7 r8 r9 r10 v6 r11 r12 v7 v8 r13 r14 v9 v10 r15 v11 v12 r16 v13 w14 r17 v15 v16 r18 r19 r20 r21 r22 r23 v17 r24 r25 r26 v18 h1 g0 f19)) [0, 1] (by decide) rfl
          have hK9 := hK.sub (tys' := []) [] rfl
          exact W.iret (v := 0) hx hb hr (fun t ht hW => ⟨⟨0, 0, rfl, rfl, Or.inl ⟨v2, i_v2a, i_v2b, by first | omega | decide, by first | omega | decide, by omega, by first | exact hnm.trans (pg_nm.stop (by omega)) | exact hnm.trans (pg_nm.over (by omega) (by omega) (by omega)) | (exfalso; omega), by rw [ht]; exact hP9, va_K.moved hW.alike hK9, hD9⟩⟩, hS.F ht⟩) hS.2.2 dX12_plainNumber_63
        · skip
          have fc6 : ¬ (ra5.toInt = 0) := fun h9 => c6 (Int32.toInt_inj.mp h9)
          exfalso; omega
      · skip
        obtain ⟨pt0_ra4, pt1_ra4, pt2_ra4, pt3_ra4, pt4_ra4, hP1, hK1, hD1⟩ := hB
        rw [ht] at hP1
        obtain ⟨hP2, hD2⟩ := va_join (wr := []) (w1 := (wd_f4cd022e h0 v0 h1 v1 v2 (-1) v3 r0 r1 r2 r3 r4 r5 r6 v4 v5 r7 r8 r9 r10 v6 r11 r12 v7 v8 r13 r14 v9 v10 r15 v11 v12 r16 v13 w14 r17 v15 v16 r18 r19 r20 r21 r22 r23 v17 r24 r25 r26 v18 h1 g0 f19)) hP hD [0, 1] [] rfl rfl (by decide) (by decide) hk1 hFc hP1 hD1
        clear hP hD hPc hDc hKc hFc hP1 hK1 hD1 hk1 hz1
        generalize H1 = H at hP2 hS ⊢
        have hP : va_P (dC, dI) vwCl (wd_f4cd022e h0 v0 h1 v1 v2 (-1) v3 r0 r1 r2 r3 r4 r5 r6 v4 v5 r7 r8 r9 r10 v6 r11 r12 v7 v8 r13 r14 v9 v10 r15 v11 v12 r16 v13 w14 r17 v15 v16 r18 r19 r20 r21 r22 r23 v17 r24 r25 r26 v18 h1 g0 f19) H := hP2
        have hD : va_D A (wd_f4cd022e h0 v0 h1 v1 v2 (-1) v3 r0 r1 r2 r3 r4 r5 r6 v4 v5 r7 r8 r9 r10 v6 r11 r12 v7 v8 r13 r14 v9 v10 r15 v11 v12 r16 v13 w14 r17 v15 v16 r18 r19 r20 r21 r22 r23 v17 r24 r25 r26 v18 h1 g0 f19) := hD2
        clear hP2 hD2
        exfalso; omega
    · skip
      have fc3 : ¬ (ra2.toInt = 0) := fun h9 => c3 (Int32.toInt_inj.mp h9)
      exfalso; omega
  · skip
    obtain ⟨pt0_ra1, pt1_ra1, pt2_ra1, pt3_ra1, pt4_ra1, hP1, hK1, hD1⟩ := hB
    rw [ht] at hP1
    obtain ⟨hP2, hD2⟩ := va_join (wr := []) (w1 := (wd_f4cd022e h0 v0 h1 v1 v2 (-1) v3 r0 r1 r2 r3 r4 r5 r6 v4 v5 r7 r8 r9 r10 v6 r11 r12 v7 v8 r13 r14 v9 v10 r15 v11 v12 r16 v13 w14 r17 v15 v16 r18 r19 r20 r21 r22 r23 v17 r24 r25 r26 v18 h1 g0 f19)) hP hD [0, 1] [] rfl rfl (by decide) (by decide) hk1 hFc hP1 hD1
    clear hP hD hPc hDc hKc hFc hP1 hK1 hD1 hk1 hz1
    generalize H1 = H at hP2 hS ⊢
    have hP : va_P (dC, dI) vwCl (wd_f4cd022e h0 v0 h1 v1 v2 (-1) v3 r0 r1 r2 r3 r4 r5 r6 v4 v5 r7 r8 r9 r10 v6 r11 r12 v7 v8 r13 r14 v9 v10 r15 v11 v12 r16 v13 w14 r17 v15 v16 r18 r19 r20 r21 r22 r23 v17 r24 r25 r26 v18 h1 g0 f19) H := hP2
    have hD : va_D A (wd_f4cd022e h0 v0 h1 v1 v2 (-1) v3 r0 r1 r2 r3 r4 r5 r6 v4 v5 r7 r8 r9 r10 v6 r11 r12 v7 v8 r13 r14 v9 v10 r15 v11 v12 r16 v13 w14 r17 v15 v16 r18 r19 r20 r21 r22 r23 v17 r24 r25 r26 v18 h1 g0 f19) := hD2
    clear hP2 hD2
    have hPc := hP.sub (ws' := []) [] rfl
    have hDc := hD.sub (ws' := []) [] (by decide) rfl
    have hKc := hK.sub (tys' := []) [] rfl
    have hFc := va_free (wc := []) hD hS hA [] rfl
    refine va_calli (va_runS (As := [.int ra1]) (rest := []) ⟨hx, hb, hml, hown, hts⟩ (k_X12_isDigit l dC dI ra1  H.size) (va_cwS 1 hts g_X12_plainNumber_1 rfl rfl rfl (by decide +kernel) ⟨Nat.le_of_ble_eq_true rfl, Nat.le_of_ble_eq_true rfl⟩) (pv_PS hPc hKc hDc) rfl rfl hl.1 rfl (lv_room (Nat.le_of_ble_eq_true rfl)) dX12_plainNumber_13 ⟨Nat.le_of_ble_eq_true rfl, Nat.le_of_ble_eq_true rfl⟩) hS (fun q _ h => hFc q h) hFc (fun ra7 u t H1 locs ht hvm hwra7 hB hz1 hk1 hS => ?_)
    try rw [hwra7] at hB
    obtain ⟨pt0_ra7, pt1_ra7, pt2_ra7, pt3_ra7, pt4_ra7, hP1, hK1, hD1⟩ := hB
    rw [ht] at hP1
    obtain ⟨hP2, hD2⟩ := va_join (wr := (wd_f4cd022e h0 v0 h1 v1 v2 (-1) v3 r0 r1 r2 r3 r4 r5 r6 v4 v5 r7 r8 r9 r10 v6 r11 r12 v7 v8 r13 r14 v9 v10 r15 v11 v12 r16 v13 w14 r17 v15 v16 r18 r19 r20 r21 r22 r23 v17 r24 r25 r26 v18 h1 g0 f19)) (w1 := []) hP hD [] [0, 1] rfl rfl (by decide) (by decide) hk1 hFc hP1 hD1
    clear hP hD hPc hDc hKc hFc hP1 hK1 hD1 hk1 hz1
    generalize H1 = H at hP2 hS ⊢
    have hP : va_P (dC, dI) vwCl (wd_f4cd022e h0 v0 h1 v1 v2 (-1) v3 r0 r1 r2 r3 r4 r5 r6 v4 v5 r7 r8 r9 r10 v6 r11 r12 v7 v8 r13 r14 v9 v10 r15 v11 v12 r16 v13 w14 r17 v15 v16 r18 r19 r20 r21 r22 r23 v17 r24 r25 r26 v18 h1 g0 f19) H := hP2
    have hD : va_D A (wd_f4cd022e h0 v0 h1 v1 v2 (-1) v3 r0 r1 r2 r3 r4 r5 r6 v4 v5 r7 r8 r9 r10 v6 r11 r12 v7 v8 r13 r14 v9 v10 r15 v11 v12 r16 v13 w14 r17 v15 v16 r18 r19 r20 r21 r22 r23 v17 r24 r25 r26 v18 h1 g0 f19) := hD2
    clear hP2 hD2
    refine lv_if_eq (tgt := 48) hx hb dX12_plainNumber_16 (by decide) (fun c8 => ?_) (fun c8 => ?_)
    · skip
      have fc8 : ra7.toInt = 0 := congrArg Int32.toInt c8
      refine lv_aload_n hx hb dX12_plainNumber_48 rfl (lv_at hl 2 rfl) ?_
      have hPc := hP.sub (ws' := (wd_f4cd022e h0 v0 h1 v1 v2 (-1) v3 r0 r1 r2 r3 r4 r5 r6 v4 v5 r7 r8 r9 r10 v6 r11 r12 v7 v8 r13 r14 v9 v10 r15 v11 v12 r16 v13 w14 r17 v15 v16 r18 r19 r20 r21 r22 r23 v17 r24 r25 r26 v18 h1 g0 f19)) [0, 1] rfl
      have hDc := hD.sub (ws' := (wd_f4cd022e h0 v0 h1 v1 v2 (-1) v3 r0 r1 r2 r3 r4 r5 r6 v4 v5 r7 r8 r9 r10 v6 r11 r12 v7 v8 r13 r14 v9 v10 r15 v11 v12 r16 v13 w14 r17 v15 v16 r18 r19 r20 r21 r22 r23 v17 r24 r25 r26 v18 h1 g0 f19)) [0, 1] (by decide) rfl
      have hKc := hK.sub (tys' := [(g0, .int)]) [0] rfl
      have hFc := va_free (wc := (wd_f4cd022e h0 v0 h1 v1 v2 (-1) v3 r0 r1 r2 r3 r4 r5 r6 v4 v5 r7 r8 r9 r10 v6 r11 r12 v7 v8 r13 r14 v9 v10 r15 v11 v12 r16 v13 w14 r17 v15 v16 r18 r19 r20 r21 r22 r23 v17 r24 r25 r26 v18 h1 g0 f19)) hD hS hA [0, 1] rfl
      refine va_calli (va_runV (As := []) (rest := []) ⟨hx, hb, hml, hown, hts⟩ (k_X12_here l dC dI h0 h1 v0 v1 v2 ((-1)) v3 r0 r1 r2 r3 r4 r5 r6 v4 v5 r7 r8 r9 r10 v6 r11 r12 v7 v8 r13 r14 v9 v10 r15 v11 v12 r16 v13 w14 r17 v15 v16 r18 r19 r20 r21 r22 r23 v17 r24 r25 r26 v18 g0 f19 ⟨i_v1a, i_v1b⟩ ⟨i_v2a, i_v2b⟩ ⟨i_v4a, i_v4b⟩ ⟨i_v5a, i_v5b⟩ ⟨i_v6a, i_v6b⟩ ⟨i_v7a, i_v7b⟩ ⟨i_v8a, i_v8b⟩ ⟨i_v9a, i_v9b⟩ ⟨i_v13a, i_v13b⟩ ⟨i_v17a, i_v17b⟩ ⟨i_v18a, i_v18b⟩ ia_f19 H.size) (cwV 0 hts g_X12_plainNumber_0 rfl rfl rfl (by decide +kernel) ⟨Nat.le_of_ble_eq_true rfl, Nat.le_of_ble_eq_true rfl⟩) (pv_PV12 hPc hKc hDc (q0 := 0) rfl) rfl rfl hl.1 rfl (lv_room (Nat.le_of_ble_eq_true rfl)) dX12_plainNumber_49 ⟨Nat.le_of_ble_eq_true rfl, Nat.le_of_ble_eq_true rfl⟩) hS (fun q _ h => hFc q h) hFc (fun ra9 u t H1 locs ht hvm hwra9 hB hz1 hk1 hS => ?_)
      try rw [hwra9] at hB
      have hkra9_0 : (((-1) : Int32)).toInt = -1 := by decide
      rcases hB with hB | hB
      · skip
        obtain ⟨pt0_ra9, pt1_ra9, pt2_ra9, pt3_ra9, hP1, hK1, hD1⟩ := hB
        rw [ht] at hP1
        obtain ⟨hP2, hD2⟩ := va_join (wr := []) (w1 := (wd_f4cd022e h0 v0 h1 v1 v2 (-1) v3 r0 r1 r2 r3 r4 r5 r6 v4 v5 r7 r8 r9 r10 v6 r11 r12 v7 v8 r13 r14 v9 v10 r15 v11 v12 r16 v13 w14 r17 v15 v16 r18 r19 r20 r21 r22 r23 v17 r24 r25 r26 v18 h1 g0 f19)) hP hD [0, 1] [] rfl rfl (by decide) (by decide) hk1 hFc hP1 hD1
        clear hP hD hPc hDc hKc hFc hP1 hK1 hD1 hk1 hz1
        generalize H1 = H at hP2 hS ⊢
        have hP : va_P (dC, dI) vwCl (wd_f4cd022e h0 v0 h1 v1 v2 (-1) v3 r0 r1 r2 r3 r4 r5 r6 v4 v5 r7 r8 r9 r10 v6 r11 r12 v7 v8 r13 r14 v9 v10 r15 v11 v12 r16 v13 w14 r17 v15 v16 r18 r19 r20 r21 r22 r23 v17 r24 r25 r26 v18 h1 g0 f19) H := hP2
        have hD : va_D A (wd_f4cd022e h0 v0 h1 v1 v2 (-1) v3 r0 r1 r2 r3 r4 r5 r6 v4 v5 r7 r8 r9 r10 v6 r11 r12 v7 v8 r13 r14 v9 v10 r15 v11 v12 r16 v13 w14 r17 v15 v16 r18 r19 r20 r21 r22 r23 v17 r24 r25 r26 v18 h1 g0 f19) := hD2
        clear hP2 hD2
        obtain rfl : ra9 = ((-1) : Int32) := pv_cs (by decide) pt0_ra9 pt1_ra9
        exfalso; omega
      · skip
        obtain ⟨pt0_ra9, pt1_ra9, pt2_ra9, pt3_ra9, pt4_ra9, hP1, hK1, hD1⟩ := hB
        rw [ht] at hP1
        obtain ⟨hP2, hD2⟩ := va_join (wr := []) (w1 := (wd_f4cd022e h0 v0 h1 v1 v2 (-1) v3 r0 r1 r2 r3 r4 r5 r6 v4 v5 r7 r8 r9 r10 v6 r11 r12 v7 v8 r13 r14 v9 v10 r15 v11 v12 r16 v13 w14 r17 v15 v16 r18 r19 r20 r21 r22 r23 v17 r24 r25 r26 v18 h1 g0 f19)) hP hD [0, 1] [] rfl rfl (by decide) (by decide) hk1 hFc hP1 hD1
        clear hP hD hPc hDc hKc hFc hP1 hK1 hD1 hk1 hz1
        generalize H1 = H at hP2 hS ⊢
        have hP : va_P (dC, dI) vwCl (wd_f4cd022e h0 v0 h1 v1 v2 (-1) v3 r0 r1 r2 r3 r4 r5 r6 v4 v5 r7 r8 r9 r10 v6 r11 r12 v7 v8 r13 r14 v9 v10 r15 v11 v12 r16 v13 w14 r17 v15 v16 r18 r19 r20 r21 r22 r23 v17 r24 r25 r26 v18 h1 g0 f19) H := hP2
        have hD : va_D A (wd_f4cd022e h0 v0 h1 v1 v2 (-1) v3 r0 r1 r2 r3 r4 r5 r6 v4 v5 r7 r8 r9 r10 v6 r11 r12 v7 v8 r13 r14 v9 v10 r15 v11 v12 r16 v13 w14 r17 v15 v16 r18 r19 r20 r21 r22 r23 v17 r24 r25 r26 v18 h1 g0 f19) := hD2
        clear hP2 hD2
        have hPc := hP.sub (ws' := []) [] rfl
        have hDc := hD.sub (ws' := []) [] (by decide) rfl
        have hKc := hK.sub (tys' := []) [] rfl
        have hFc := va_free (wc := []) hD hS hA [] rfl
        refine va_calli (va_runS (As := [.int ra9]) (rest := []) ⟨hx, hb, hml, hown, hts⟩ (k_X12_isDigit l dC dI ra9  H.size) (va_cwS 1 hts g_X12_plainNumber_1 rfl rfl rfl (by decide +kernel) ⟨Nat.le_of_ble_eq_true rfl, Nat.le_of_ble_eq_true rfl⟩) (pv_PS hPc hKc hDc) rfl rfl hl.1 rfl (lv_room (Nat.le_of_ble_eq_true rfl)) dX12_plainNumber_52 ⟨Nat.le_of_ble_eq_true rfl, Nat.le_of_ble_eq_true rfl⟩) hS (fun q _ h => hFc q h) hFc (fun ra10 u t H1 locs ht hvm hwra10 hB hz1 hk1 hS => ?_)
        try rw [hwra10] at hB
        obtain ⟨pt0_ra10, pt1_ra10, pt2_ra10, pt3_ra10, pt4_ra10, hP1, hK1, hD1⟩ := hB
        rw [ht] at hP1
        obtain ⟨hP2, hD2⟩ := va_join (wr := (wd_f4cd022e h0 v0 h1 v1 v2 (-1) v3 r0 r1 r2 r3 r4 r5 r6 v4 v5 r7 r8 r9 r10 v6 r11 r12 v7 v8 r13 r14 v9 v10 r15 v11 v12 r16 v13 w14 r17 v15 v16 r18 r19 r20 r21 r22 r23 v17 r24 r25 r26 v18 h1 g0 f19)) (w1 := []) hP hD [] [0, 1] rfl rfl (by decide) (by decide) hk1 hFc hP1 hD1
        clear hP hD hPc hDc hKc hFc hP1 hK1 hD1 hk1 hz1
        generalize H1 = H at hP2 hS ⊢
        have hP : va_P (dC, dI) vwCl (wd_f4cd022e h0 v0 h1 v1 v2 (-1) v3 r0 r1 r2 r3 r4 r5 r6 v4 v5 r7 r8 r9 r10 v6 r11 r12 v7 v8 r13 r14 v9 v10 r15 v11 v12 r16 v13 w14 r17 v15 v16 r18 r19 r20 r21 r22 r23 v17 r24 r25 r26 v18 h1 g0 f19) H := hP2
        have hD : va_D A (wd_f4cd022e h0 v0 h1 v1 v2 (-1) v3 r0 r1 r2 r3 r4 r5 r6 v4 v5 r7 r8 r9 r10 v6 r11 r12 v7 v8 r13 r14 v9 v10 r15 v11 v12 r16 v13 w14 r17 v15 v16 r18 r19 r20 r21 r22 r23 v17 r24 r25 r26 v18 h1 g0 f19) := hD2
        clear hP2 hD2
        refine lv_if_eq (tgt := 62) hx hb dX12_plainNumber_55 (by decide) (fun c11 => ?_) (fun c11 => ?_)
        · skip
          have fc11 : ra10.toInt = 0 := congrArg Int32.toInt c11
          refine lv_iload_n hx hb dX12_plainNumber_62 rfl (lv_at hl 1 rfl) ?_
          subst hQ
          have hP9 := hP.sub (ws' := (wd_f4cd022e h0 v0 h1 v1 v2 (-1) v3 r0 r1 r2 r3 r4 r5 r6 v4 v5 r7 r8 r9 r10 v6 r11 r12 v7 v8 r13 r14 v9 v10 r15 v11 v12 r16 v13 w14 r17 v15 v16 r18 r19 r20 r21 r22 r23 v17 r24 r25 r26 v18 h1 g0 f19)) [0, 1] rfl
          have hD9 := hD.sub (ws' := (wd_f4cd022e h0 v0 h1 v1 v2 (-1) v3 r0 r1 r2 r3 r4 r5 r6 v4 v5 r7 r8 r9 r10 v6 r11 r12 v7 v8 r13 r14 v9 v10 r15 v11 v12 r16 v13 w14 r17 v15 v16 r18 r19 r20 r21 r22 r23 v17 r24 r25 r26 v18 h1 g0 f19)) [0, 1] (by decide) rfl
          have hK9 := hK.sub (tys' := []) [] rfl
          exact W.iret (v := 0) hx hb hr (fun t ht hW => ⟨⟨0, 0, rfl, rfl, Or.inl ⟨v2, i_v2a, i_v2b, by first | omega | decide, by first | omega | decide, by omega, by first | exact hnm.trans (pg_nm.stop (by omega)) | exact hnm.trans (pg_nm.over (by omega) (by omega) (by omega)) | (exfalso; omega), by rw [ht]; exact hP9, va_K.moved hW.alike hK9, hD9⟩⟩, hS.F ht⟩) hS.2.2 dX12_plainNumber_63
        · skip
          have fc11 : ¬ (ra10.toInt = 0) := fun h9 => c11 (Int32.toInt_inj.mp h9)
          refine lv_aload_n hx hb dX12_plainNumber_58 rfl (lv_at hl 2 rfl) ?_
          have hPc := hP.sub (ws' := (wd_171f232f h0 v0 h1 v1 v2 (-1) v3 r0 r1 r2 r3 r4 r5 r6 v4 v5 r7 r8 r9 r10 v6 r11 r12 v7 v8 r13 r14 v9 v10 r15 v11 v12 r16 v13 w14 r17 v15 v16 r18 r19 r20 r21 r22 r23 v17 r24 r25 r26 v18)) [0] rfl
          have hDc := hD.sub (ws' := (wd_171f232f h0 v0 h1 v1 v2 (-1) v3 r0 r1 r2 r3 r4 r5 r6 v4 v5 r7 r8 r9 r10 v6 r11 r12 v7 v8 r13 r14 v9 v10 r15 v11 v12 r16 v13 w14 r17 v15 v16 r18 r19 r20 r21 r22 r23 v17 r24 r25 r26 v18)) [0] (by decide) rfl
          have hKc := hK.sub (tys' := []) [] rfl
          have hFc := va_free (wc := (wd_171f232f h0 v0 h1 v1 v2 (-1) v3 r0 r1 r2 r3 r4 r5 r6 v4 v5 r7 r8 r9 r10 v6 r11 r12 v7 v8 r13 r14 v9 v10 r15 v11 v12 r16 v13 w14 r17 v15 v16 r18 r19 r20 r21 r22 r23 v17 r24 r25 r26 v18)) hD hS hA [0] rfl
          refine va_callv (va_runV (As := []) (rest := []) ⟨hx, hb, hml, hown, hts⟩ (k_X12_bad l dC dI h0 v0 h1 v1 v2 v3 r0 r1 r2 r3 r4 r5 r6 v4 v5 r7 r8 r9 r10 v6 r11 r12 v7 v8 r13 r14 v9 v10 r15 v11 v12 r16 v13 w14 r17 v15 v16 r18 r19 r20 r21 r22 r23 v17 r24 r25 r26 v18 ⟨i_v1a, i_v1b⟩ ⟨i_v2a, i_v2b⟩ ⟨i_v4a, i_v4b⟩ ⟨i_v5a, i_v5b⟩ ⟨i_v6a, i_v6b⟩ ⟨i_v7a, i_v7b⟩ ⟨i_v8a, i_v8b⟩ ⟨i_v9a, i_v9b⟩ ⟨i_v13a, i_v13b⟩ ⟨i_v17a, i_v17b⟩ ⟨i_v18a, i_v18b⟩ H.size) (cwV 0 hts g_X12_plainNumber_7 rfl rfl rfl (by decide +kernel) ⟨Nat.le_of_ble_eq_true rfl, Nat.le_of_ble_eq_true rfl⟩) (pv_PV12 hPc hKc hDc (q0 := 0) rfl) rfl rfl hl.1 rfl (lv_room (Nat.le_of_ble_eq_true rfl)) dX12_plainNumber_59 ⟨Nat.le_of_ble_eq_true rfl, Nat.le_of_ble_eq_true rfl⟩) hS (fun q _ h => hFc q h) hFc (fun u t H1 locs ht hvm hwra12 hB hz1 hk1 hS => ?_)
          obtain ⟨x13, oa_x13, ob_x13, pt0_ra12, hP1, hK1, hD1⟩ := hB
          rw [ht] at hP1
          obtain ⟨hP2, hD2⟩ := va_join (wr := (wd_d0032b31 h1 g0 f19)) (w1 := (wd_171f232f h0 v0 h1 v1 v2 x13 v3 r0 r1 r2 r3 r4 r5 r6 v4 v5 r7 r8 r9 r10 v6 r11 r12 v7 v8 r13 r14 v9 v10 r15 v11 v12 r16 v13 w14 r17 v15 v16 r18 r19 r20 r21 r22 r23 v17 r24 r25 r26 v18)) hP hD [0] [1] rfl rfl (by decide) (by decide) hk1 hFc hP1 hD1
          clear hP hD hPc hDc hKc hFc hP1 hK1 hD1 hk1 hz1
          generalize H1 = H at hP2 hS ⊢
          have hP := hP2.sub (ws' := (wd_f4cd022e h0 v0 h1 v1 v2 x13 v3 r0 r1 r2 r3 r4 r5 r6 v4 v5 r7 r8 r9 r10 v6 r11 r12 v7 v8 r13 r14 v9 v10 r15 v11 v12 r16 v13 w14 r17 v15 v16 r18 r19 r20 r21 r22 r23 v17 r24 r25 r26 v18 h1 g0 f19)) [1, 0] rfl
          have hD := hD2.sub (ws' := (wd_f4cd022e h0 v0 h1 v1 v2 x13 v3 r0 r1 r2 r3 r4 r5 r6 v4 v5 r7 r8 r9 r10 v6 r11 r12 v7 v8 r13 r14 v9 v10 r15 v11 v12 r16 v13 w14 r17 v15 v16 r18 r19 r20 r21 r22 r23 v17 r24 r25 r26 v18 h1 g0 f19)) [1, 0] (by decide) rfl
          clear hP2 hD2
          refine lv_iload_n hx hb dX12_plainNumber_62 rfl (lv_at hl 1 rfl) ?_
          subst hQ
          have hP9 := hP.sub (ws' := (wd_f4cd022e h0 v0 h1 v1 v2 x13 v3 r0 r1 r2 r3 r4 r5 r6 v4 v5 r7 r8 r9 r10 v6 r11 r12 v7 v8 r13 r14 v9 v10 r15 v11 v12 r16 v13 w14 r17 v15 v16 r18 r19 r20 r21 r22 r23 v17 r24 r25 r26 v18 h1 g0 f19)) [0, 1] rfl
          have hD9 := hD.sub (ws' := (wd_f4cd022e h0 v0 h1 v1 v2 x13 v3 r0 r1 r2 r3 r4 r5 r6 v4 v5 r7 r8 r9 r10 v6 r11 r12 v7 v8 r13 r14 v9 v10 r15 v11 v12 r16 v13 w14 r17 v15 v16 r18 r19 r20 r21 r22 r23 v17 r24 r25 r26 v18 h1 g0 f19)) [0, 1] (by decide) rfl
          have hK9 := hK.sub (tys' := []) [] rfl
          exact W.iret (v := 0) hx hb hr (fun t ht hW => ⟨⟨0, 0, rfl, rfl, Or.inr (⟨v2, x13, i_v2a, by first | omega | decide, oa_x13, ob_x13, by first | omega | decide, by first | omega | decide, by omega, by first | exact hnm.trans (pg_nm.stop (by omega)) | exact hnm.trans (pg_nm.over (by omega) (by omega) (by omega)) | (exfalso; omega), by rw [ht]; exact hP9, va_K.moved hW.alike hK9, hD9⟩)⟩, hS.F ht⟩) hS.2.2 dX12_plainNumber_63
    · skip
      have fc8 : ¬ (ra7.toInt = 0) := fun h9 => c8 (Int32.toInt_inj.mp h9)
      refine lv_bipush (v := 10) hx hb dX12_plainNumber_19 (by decide) ?_
      refine lv_iload_n hx hb dX12_plainNumber_21 rfl (lv_at hl 1 rfl) ?_
      refine lv_imul hx hb dX12_plainNumber_22 ?_
      refine lv_topi (fun tv14 etv14 => ?_)
      obtain rfl : tv14 = (0 : Int32) := etv14.trans (by first | rfl | decide)
      refine lv_aload_n hx hb dX12_plainNumber_23 rfl (lv_at hl 2 rfl) ?_
      have hPc := hP.sub (ws' := (wd_f4cd022e h0 v0 h1 v1 v2 (-1) v3 r0 r1 r2 r3 r4 r5 r6 v4 v5 r7 r8 r9 r10 v6 r11 r12 v7 v8 r13 r14 v9 v10 r15 v11 v12 r16 v13 w14 r17 v15 v16 r18 r19 r20 r21 r22 r23 v17 r24 r25 r26 v18 h1 g0 f19)) [0, 1] rfl
      have hDc := hD.sub (ws' := (wd_f4cd022e h0 v0 h1 v1 v2 (-1) v3 r0 r1 r2 r3 r4 r5 r6 v4 v5 r7 r8 r9 r10 v6 r11 r12 v7 v8 r13 r14 v9 v10 r15 v11 v12 r16 v13 w14 r17 v15 v16 r18 r19 r20 r21 r22 r23 v17 r24 r25 r26 v18 h1 g0 f19)) [0, 1] (by decide) rfl
      have hKc := hK.sub (tys' := [(g0, .int)]) [0] rfl
      have hFc := va_free (wc := (wd_f4cd022e h0 v0 h1 v1 v2 (-1) v3 r0 r1 r2 r3 r4 r5 r6 v4 v5 r7 r8 r9 r10 v6 r11 r12 v7 v8 r13 r14 v9 v10 r15 v11 v12 r16 v13 w14 r17 v15 v16 r18 r19 r20 r21 r22 r23 v17 r24 r25 r26 v18 h1 g0 f19)) hD hS hA [0, 1] rfl
      refine va_calli (va_runV (As := []) (rest := [.int 0]) ⟨hx, hb, hml, hown, hts⟩ (k_X12_here l dC dI h0 h1 v0 v1 v2 ((-1)) v3 r0 r1 r2 r3 r4 r5 r6 v4 v5 r7 r8 r9 r10 v6 r11 r12 v7 v8 r13 r14 v9 v10 r15 v11 v12 r16 v13 w14 r17 v15 v16 r18 r19 r20 r21 r22 r23 v17 r24 r25 r26 v18 g0 f19 ⟨i_v1a, i_v1b⟩ ⟨i_v2a, i_v2b⟩ ⟨i_v4a, i_v4b⟩ ⟨i_v5a, i_v5b⟩ ⟨i_v6a, i_v6b⟩ ⟨i_v7a, i_v7b⟩ ⟨i_v8a, i_v8b⟩ ⟨i_v9a, i_v9b⟩ ⟨i_v13a, i_v13b⟩ ⟨i_v17a, i_v17b⟩ ⟨i_v18a, i_v18b⟩ ia_f19 H.size) (cwV 0 hts g_X12_plainNumber_0 rfl rfl rfl (by decide +kernel) ⟨Nat.le_of_ble_eq_true rfl, Nat.le_of_ble_eq_true rfl⟩) (pv_PV12 hPc hKc hDc (q0 := 0) rfl) rfl rfl hl.1 rfl (lv_room (Nat.le_of_ble_eq_true rfl)) dX12_plainNumber_24 ⟨Nat.le_of_ble_eq_true rfl, Nat.le_of_ble_eq_true rfl⟩) hS (fun q _ h => hFc q h) hFc (fun ra15 u t H1 locs ht hvm hwra15 hB hz1 hk1 hS => ?_)
      try rw [hwra15] at hB
      have hkra15_0 : (((-1) : Int32)).toInt = -1 := by decide
      rcases hB with hB | hB
      · skip
        obtain ⟨pt0_ra15, pt1_ra15, pt2_ra15, pt3_ra15, hP1, hK1, hD1⟩ := hB
        rw [ht] at hP1
        obtain ⟨hP2, hD2⟩ := va_join (wr := []) (w1 := (wd_f4cd022e h0 v0 h1 v1 v2 (-1) v3 r0 r1 r2 r3 r4 r5 r6 v4 v5 r7 r8 r9 r10 v6 r11 r12 v7 v8 r13 r14 v9 v10 r15 v11 v12 r16 v13 w14 r17 v15 v16 r18 r19 r20 r21 r22 r23 v17 r24 r25 r26 v18 h1 g0 f19)) hP hD [0, 1] [] rfl rfl (by decide) (by decide) hk1 hFc hP1 hD1
        clear hP hD hPc hDc hKc hFc hP1 hK1 hD1 hk1 hz1
        generalize H1 = H at hP2 hS ⊢
        have hP : va_P (dC, dI) vwCl (wd_f4cd022e h0 v0 h1 v1 v2 (-1) v3 r0 r1 r2 r3 r4 r5 r6 v4 v5 r7 r8 r9 r10 v6 r11 r12 v7 v8 r13 r14 v9 v10 r15 v11 v12 r16 v13 w14 r17 v15 v16 r18 r19 r20 r21 r22 r23 v17 r24 r25 r26 v18 h1 g0 f19) H := hP2
        have hD : va_D A (wd_f4cd022e h0 v0 h1 v1 v2 (-1) v3 r0 r1 r2 r3 r4 r5 r6 v4 v5 r7 r8 r9 r10 v6 r11 r12 v7 v8 r13 r14 v9 v10 r15 v11 v12 r16 v13 w14 r17 v15 v16 r18 r19 r20 r21 r22 r23 v17 r24 r25 r26 v18 h1 g0 f19) := hD2
        clear hP2 hD2
        obtain rfl : ra15 = ((-1) : Int32) := pv_cs (by decide) pt0_ra15 pt1_ra15
        exfalso; omega
      · skip
        obtain ⟨pt0_ra15, pt1_ra15, pt2_ra15, pt3_ra15, pt4_ra15, hP1, hK1, hD1⟩ := hB
        rw [ht] at hP1
        obtain ⟨hP2, hD2⟩ := va_join (wr := []) (w1 := (wd_f4cd022e h0 v0 h1 v1 v2 (-1) v3 r0 r1 r2 r3 r4 r5 r6 v4 v5 r7 r8 r9 r10 v6 r11 r12 v7 v8 r13 r14 v9 v10 r15 v11 v12 r16 v13 w14 r17 v15 v16 r18 r19 r20 r21 r22 r23 v17 r24 r25 r26 v18 h1 g0 f19)) hP hD [0, 1] [] rfl rfl (by decide) (by decide) hk1 hFc hP1 hD1
        clear hP hD hPc hDc hKc hFc hP1 hK1 hD1 hk1 hz1
        generalize H1 = H at hP2 hS ⊢
        have hP : va_P (dC, dI) vwCl (wd_f4cd022e h0 v0 h1 v1 v2 (-1) v3 r0 r1 r2 r3 r4 r5 r6 v4 v5 r7 r8 r9 r10 v6 r11 r12 v7 v8 r13 r14 v9 v10 r15 v11 v12 r16 v13 w14 r17 v15 v16 r18 r19 r20 r21 r22 r23 v17 r24 r25 r26 v18 h1 g0 f19) H := hP2
        have hD : va_D A (wd_f4cd022e h0 v0 h1 v1 v2 (-1) v3 r0 r1 r2 r3 r4 r5 r6 v4 v5 r7 r8 r9 r10 v6 r11 r12 v7 v8 r13 r14 v9 v10 r15 v11 v12 r16 v13 w14 r17 v15 v16 r18 r19 r20 r21 r22 r23 v17 r24 r25 r26 v18 h1 g0 f19) := hD2
        clear hP2 hD2
        refine lv_iadd hx hb dX12_plainNumber_27 ?_
        refine lv_topi (fun t16 et16 => ?_)
        have gt16 : t16.toInt = 0 + ra15.toInt := pv_add (a := 0) (b := ra15.toInt) et16 (by decide) rfl (by omega) (by omega)
        refine lv_bipush (v := 48) hx hb dX12_plainNumber_28 (by decide) ?_
        refine lv_isub hx hb dX12_plainNumber_30 ?_
        refine lv_topi (fun t17 et17 => ?_)
        have gt17 : t17.toInt = t16.toInt - 48 := pv_sub (a := t16.toInt) (b := 48) et17 rfl (by decide) (by omega) (by omega)
        refine lv_istore_n (lv' := [(1, .int t17), (2, .int 0), (0, .ref h0)]) hx hb dX12_plainNumber_31 rfl hl (by decide) rfl (fun ls hl => ?_)
        refine lv_aload_n hx hb dX12_plainNumber_32 rfl (lv_at hl 2 rfl) ?_
        refine lv_dup hx hb dX12_plainNumber_33 rfl ?_
        refine va_get (D := (dC, dI)) (ci := 12) (v := .int v2) (C := RX12) (T := TX12) (N := 48) hx hb hts (fun _ h => List.mem_cons_of_mem _ (List.mem_append_right _ h)) hown hK hP 0 rfl rfl 3 (by decide) (hts (.fieldLink RX12 112 "LeftArgumentsModel" "at" "I") (List.mem_cons_of_mem _ (List.mem_append_left _ (List.mem_of_getElem? (i := 1) rfl)))) (fun _ h9 => h9) rfl dX12_plainNumber_34 ?_
        refine lv_iconst (v := 1) hx hb dX12_plainNumber_37 (by decide) ?_
        refine lv_iadd hx hb dX12_plainNumber_38 ?_
        refine lv_topi (fun t18 et18 => ?_)
        have gt18 : t18.toInt = v2.toInt + 1 := pv_add (a := v2.toInt) (b := 1) et18 rfl (by decide) (by omega) (by omega)
        refine va_put (D := (dC, dI)) (ci := 12) (v := .int t18) (ty := .int) (C := RX12) (T := TX12) (N := 48) hx hb hts (fun _ h => List.mem_cons_of_mem _ (List.mem_append_right _ h)) tyX12 tyX12_ok nmX12 hown hK hP hD hS 0 rfl rfl 3 (by decide) (hts (.fieldLink RX12 112 "LeftArgumentsModel" "at" "I") (List.mem_cons_of_mem _ (List.mem_append_left _ (List.mem_of_getElem? (i := 1) rfl)))) (fun _ h9 => h9) rfl (by decide +kernel) rfl rfl (Nat.le_of_ble_eq_true rfl) dX12_plainNumber_39 (fun H locs hP hD hS => ?_)
        have hP : va_P (dC, dI) vwCl (wd_f4cd022e h0 v0 h1 v1 t18 (-1) v3 r0 r1 r2 r3 r4 r5 r6 v4 v5 r7 r8 r9 r10 v6 r11 r12 v7 v8 r13 r14 v9 v10 r15 v11 v12 r16 v13 w14 r17 v15 v16 r18 r19 r20 r21 r22 r23 v17 r24 r25 r26 v18 h1 g0 f19) H := hP
        have hD : va_D A (wd_f4cd022e h0 v0 h1 v1 t18 (-1) v3 r0 r1 r2 r3 r4 r5 r6 v4 v5 r7 r8 r9 r10 v6 r11 r12 v7 v8 r13 r14 v9 v10 r15 v11 v12 r16 v13 w14 r17 v15 v16 r18 r19 r20 r21 r22 r23 v17 r24 r25 r26 v18 h1 g0 f19) := hD
        have hnm : pg_nm f19 v1.toInt 4 v2.toInt = pg_nm f19 v1.toInt 3 t18.toInt := hnm.trans (pg_nm.step (by omega) (by omega) (by omega))
        refine lv_iinc (v := 1) (lv' := [(2, .int 1), (1, .int t17), (0, .ref h0)]) hx hb dX12_plainNumber_42 hl (k := 1) rfl (by decide) (by decide) rfl (fun ls hl => ?_)
        refine lv_goto (tgt := 4) hx hb dX12_plainNumber_45 (by decide) ?_
        refine lv_iload_n hx hb dX12_plainNumber_4 rfl (lv_at hl 0 rfl) ?_
        refine lv_iconst (v := 4) hx hb dX12_plainNumber_5 (by decide) ?_
        refine lv_icmp_ge (tgt := 48) hx hb dX12_plainNumber_6 (by decide) (fun c => absurd c (by decide)) (fun _ => ?_)
        refine lv_aload_n hx hb dX12_plainNumber_9 rfl (lv_at hl 2 rfl) ?_
        have hPc := hP.sub (ws' := (wd_f4cd022e h0 v0 h1 v1 t18 (-1) v3 r0 r1 r2 r3 r4 r5 r6 v4 v5 r7 r8 r9 r10 v6 r11 r12 v7 v8 r13 r14 v9 v10 r15 v11 v12 r16 v13 w14 r17 v15 v16 r18 r19 r20 r21 r22 r23 v17 r24 r25 r26 v18 h1 g0 f19)) [0, 1] rfl
        have hDc := hD.sub (ws' := (wd_f4cd022e h0 v0 h1 v1 t18 (-1) v3 r0 r1 r2 r3 r4 r5 r6 v4 v5 r7 r8 r9 r10 v6 r11 r12 v7 v8 r13 r14 v9 v10 r15 v11 v12 r16 v13 w14 r17 v15 v16 r18 r19 r20 r21 r22 r23 v17 r24 r25 r26 v18 h1 g0 f19)) [0, 1] (by decide) rfl
        have hKc := hK.sub (tys' := [(g0, .int)]) [0] rfl
        have hFc := va_free (wc := (wd_f4cd022e h0 v0 h1 v1 t18 (-1) v3 r0 r1 r2 r3 r4 r5 r6 v4 v5 r7 r8 r9 r10 v6 r11 r12 v7 v8 r13 r14 v9 v10 r15 v11 v12 r16 v13 w14 r17 v15 v16 r18 r19 r20 r21 r22 r23 v17 r24 r25 r26 v18 h1 g0 f19)) hD hS hA [0, 1] rfl
        refine va_calli (va_runV (As := []) (rest := []) ⟨hx, hb, hml, hown, hts⟩ (k_X12_here l dC dI h0 h1 v0 v1 t18 ((-1)) v3 r0 r1 r2 r3 r4 r5 r6 v4 v5 r7 r8 r9 r10 v6 r11 r12 v7 v8 r13 r14 v9 v10 r15 v11 v12 r16 v13 w14 r17 v15 v16 r18 r19 r20 r21 r22 r23 v17 r24 r25 r26 v18 g0 f19 ⟨i_v1a, i_v1b⟩ ⟨by first | omega | decide, by first | omega | decide⟩ ⟨i_v4a, i_v4b⟩ ⟨i_v5a, i_v5b⟩ ⟨i_v6a, i_v6b⟩ ⟨i_v7a, i_v7b⟩ ⟨i_v8a, i_v8b⟩ ⟨i_v9a, i_v9b⟩ ⟨i_v13a, i_v13b⟩ ⟨i_v17a, i_v17b⟩ ⟨i_v18a, i_v18b⟩ ia_f19 H.size) (cwV 0 hts g_X12_plainNumber_0 rfl rfl rfl (by decide +kernel) ⟨Nat.le_of_ble_eq_true rfl, Nat.le_of_ble_eq_true rfl⟩) (pv_PV12 hPc hKc hDc (q0 := 0) rfl) rfl rfl hl.1 rfl (lv_room (Nat.le_of_ble_eq_true rfl)) dX12_plainNumber_10 ⟨Nat.le_of_ble_eq_true rfl, Nat.le_of_ble_eq_true rfl⟩) hS (fun q _ h => hFc q h) hFc (fun ra19 u t H1 locs ht hvm hwra19 hB hz1 hk1 hS => ?_)
        try rw [hwra19] at hB
        have hkra19_0 : (((-1) : Int32)).toInt = -1 := by decide
        rcases hB with hB | hB
        · skip
          obtain ⟨pt0_ra19, pt1_ra19, pt2_ra19, pt3_ra19, hP1, hK1, hD1⟩ := hB
          rw [ht] at hP1
          obtain ⟨hP2, hD2⟩ := va_join (wr := []) (w1 := (wd_f4cd022e h0 v0 h1 v1 t18 (-1) v3 r0 r1 r2 r3 r4 r5 r6 v4 v5 r7 r8 r9 r10 v6 r11 r12 v7 v8 r13 r14 v9 v10 r15 v11 v12 r16 v13 w14 r17 v15 v16 r18 r19 r20 r21 r22 r23 v17 r24 r25 r26 v18 h1 g0 f19)) hP hD [0, 1] [] rfl rfl (by decide) (by decide) hk1 hFc hP1 hD1
          clear hP hD hPc hDc hKc hFc hP1 hK1 hD1 hk1 hz1
          generalize H1 = H at hP2 hS ⊢
          have hP : va_P (dC, dI) vwCl (wd_f4cd022e h0 v0 h1 v1 t18 (-1) v3 r0 r1 r2 r3 r4 r5 r6 v4 v5 r7 r8 r9 r10 v6 r11 r12 v7 v8 r13 r14 v9 v10 r15 v11 v12 r16 v13 w14 r17 v15 v16 r18 r19 r20 r21 r22 r23 v17 r24 r25 r26 v18 h1 g0 f19) H := hP2
          have hD : va_D A (wd_f4cd022e h0 v0 h1 v1 t18 (-1) v3 r0 r1 r2 r3 r4 r5 r6 v4 v5 r7 r8 r9 r10 v6 r11 r12 v7 v8 r13 r14 v9 v10 r15 v11 v12 r16 v13 w14 r17 v15 v16 r18 r19 r20 r21 r22 r23 v17 r24 r25 r26 v18 h1 g0 f19) := hD2
          clear hP2 hD2
          obtain rfl : ra19 = ((-1) : Int32) := pv_cs (by decide) pt0_ra19 pt1_ra19
          have hPc := hP.sub (ws' := []) [] rfl
          have hDc := hD.sub (ws' := []) [] (by decide) rfl
          have hKc := hK.sub (tys' := []) [] rfl
          have hFc := va_free (wc := []) hD hS hA [] rfl
          refine va_calli (va_runS (As := [.int (-1)]) (rest := []) ⟨hx, hb, hml, hown, hts⟩ (k_X12_isDigit l dC dI ((-1))  H.size) (va_cwS 1 hts g_X12_plainNumber_1 rfl rfl rfl (by decide +kernel) ⟨Nat.le_of_ble_eq_true rfl, Nat.le_of_ble_eq_true rfl⟩) (pv_PS hPc hKc hDc) rfl rfl hl.1 rfl (lv_room (Nat.le_of_ble_eq_true rfl)) dX12_plainNumber_13 ⟨Nat.le_of_ble_eq_true rfl, Nat.le_of_ble_eq_true rfl⟩) hS (fun q _ h => hFc q h) hFc (fun ra20 u t H1 locs ht hvm hwra20 hB hz1 hk1 hS => ?_)
          try rw [hwra20] at hB
          have hkra20_0 : (((-1) : Int32)).toInt = -1 := by decide
          obtain ⟨pt0_ra20, pt1_ra20, pt2_ra20, pt3_ra20, pt4_ra20, hP1, hK1, hD1⟩ := hB
          rw [ht] at hP1
          obtain ⟨hP2, hD2⟩ := va_join (wr := (wd_f4cd022e h0 v0 h1 v1 t18 (-1) v3 r0 r1 r2 r3 r4 r5 r6 v4 v5 r7 r8 r9 r10 v6 r11 r12 v7 v8 r13 r14 v9 v10 r15 v11 v12 r16 v13 w14 r17 v15 v16 r18 r19 r20 r21 r22 r23 v17 r24 r25 r26 v18 h1 g0 f19)) (w1 := []) hP hD [] [0, 1] rfl rfl (by decide) (by decide) hk1 hFc hP1 hD1
          clear hP hD hPc hDc hKc hFc hP1 hK1 hD1 hk1 hz1
          generalize H1 = H at hP2 hS ⊢
          have hP : va_P (dC, dI) vwCl (wd_f4cd022e h0 v0 h1 v1 t18 (-1) v3 r0 r1 r2 r3 r4 r5 r6 v4 v5 r7 r8 r9 r10 v6 r11 r12 v7 v8 r13 r14 v9 v10 r15 v11 v12 r16 v13 w14 r17 v15 v16 r18 r19 r20 r21 r22 r23 v17 r24 r25 r26 v18 h1 g0 f19) H := hP2
          have hD : va_D A (wd_f4cd022e h0 v0 h1 v1 t18 (-1) v3 r0 r1 r2 r3 r4 r5 r6 v4 v5 r7 r8 r9 r10 v6 r11 r12 v7 v8 r13 r14 v9 v10 r15 v11 v12 r16 v13 w14 r17 v15 v16 r18 r19 r20 r21 r22 r23 v17 r24 r25 r26 v18 h1 g0 f19) := hD2
          clear hP2 hD2
          refine lv_if_eq (tgt := 48) hx hb dX12_plainNumber_16 (by decide) (fun c21 => ?_) (fun c21 => ?_)
          · skip
            have fc21 : ra20.toInt = 0 := congrArg Int32.toInt c21
            refine lv_aload_n hx hb dX12_plainNumber_48 rfl (lv_at hl 2 rfl) ?_
            have hPc := hP.sub (ws' := (wd_f4cd022e h0 v0 h1 v1 t18 (-1) v3 r0 r1 r2 r3 r4 r5 r6 v4 v5 r7 r8 r9 r10 v6 r11 r12 v7 v8 r13 r14 v9 v10 r15 v11 v12 r16 v13 w14 r17 v15 v16 r18 r19 r20 r21 r22 r23 v17 r24 r25 r26 v18 h1 g0 f19)) [0, 1] rfl
            have hDc := hD.sub (ws' := (wd_f4cd022e h0 v0 h1 v1 t18 (-1) v3 r0 r1 r2 r3 r4 r5 r6 v4 v5 r7 r8 r9 r10 v6 r11 r12 v7 v8 r13 r14 v9 v10 r15 v11 v12 r16 v13 w14 r17 v15 v16 r18 r19 r20 r21 r22 r23 v17 r24 r25 r26 v18 h1 g0 f19)) [0, 1] (by decide) rfl
            have hKc := hK.sub (tys' := [(g0, .int)]) [0] rfl
            have hFc := va_free (wc := (wd_f4cd022e h0 v0 h1 v1 t18 (-1) v3 r0 r1 r2 r3 r4 r5 r6 v4 v5 r7 r8 r9 r10 v6 r11 r12 v7 v8 r13 r14 v9 v10 r15 v11 v12 r16 v13 w14 r17 v15 v16 r18 r19 r20 r21 r22 r23 v17 r24 r25 r26 v18 h1 g0 f19)) hD hS hA [0, 1] rfl
            refine va_calli (va_runV (As := []) (rest := []) ⟨hx, hb, hml, hown, hts⟩ (k_X12_here l dC dI h0 h1 v0 v1 t18 ((-1)) v3 r0 r1 r2 r3 r4 r5 r6 v4 v5 r7 r8 r9 r10 v6 r11 r12 v7 v8 r13 r14 v9 v10 r15 v11 v12 r16 v13 w14 r17 v15 v16 r18 r19 r20 r21 r22 r23 v17 r24 r25 r26 v18 g0 f19 ⟨i_v1a, i_v1b⟩ ⟨by first | omega | decide, by first | omega | decide⟩ ⟨i_v4a, i_v4b⟩ ⟨i_v5a, i_v5b⟩ ⟨i_v6a, i_v6b⟩ ⟨i_v7a, i_v7b⟩ ⟨i_v8a, i_v8b⟩ ⟨i_v9a, i_v9b⟩ ⟨i_v13a, i_v13b⟩ ⟨i_v17a, i_v17b⟩ ⟨i_v18a, i_v18b⟩ ia_f19 H.size) (cwV 0 hts g_X12_plainNumber_0 rfl rfl rfl (by decide +kernel) ⟨Nat.le_of_ble_eq_true rfl, Nat.le_of_ble_eq_true rfl⟩) (pv_PV12 hPc hKc hDc (q0 := 0) rfl) rfl rfl hl.1 rfl (lv_room (Nat.le_of_ble_eq_true rfl)) dX12_plainNumber_49 ⟨Nat.le_of_ble_eq_true rfl, Nat.le_of_ble_eq_true rfl⟩) hS (fun q _ h => hFc q h) hFc (fun ra22 u t H1 locs ht hvm hwra22 hB hz1 hk1 hS => ?_)
            try rw [hwra22] at hB
            have hkra22_0 : (((-1) : Int32)).toInt = -1 := by decide
            rcases hB with hB | hB
            · skip
              obtain ⟨pt0_ra22, pt1_ra22, pt2_ra22, pt3_ra22, hP1, hK1, hD1⟩ := hB
              rw [ht] at hP1
              obtain ⟨hP2, hD2⟩ := va_join (wr := []) (w1 := (wd_f4cd022e h0 v0 h1 v1 t18 (-1) v3 r0 r1 r2 r3 r4 r5 r6 v4 v5 r7 r8 r9 r10 v6 r11 r12 v7 v8 r13 r14 v9 v10 r15 v11 v12 r16 v13 w14 r17 v15 v16 r18 r19 r20 r21 r22 r23 v17 r24 r25 r26 v18 h1 g0 f19)) hP hD [0, 1] [] rfl rfl (by decide) (by decide) hk1 hFc hP1 hD1
              clear hP hD hPc hDc hKc hFc hP1 hK1 hD1 hk1 hz1
              generalize H1 = H at hP2 hS ⊢
              have hP : va_P (dC, dI) vwCl (wd_f4cd022e h0 v0 h1 v1 t18 (-1) v3 r0 r1 r2 r3 r4 r5 r6 v4 v5 r7 r8 r9 r10 v6 r11 r12 v7 v8 r13 r14 v9 v10 r15 v11 v12 r16 v13 w14 r17 v15 v16 r18 r19 r20 r21 r22 r23 v17 r24 r25 r26 v18 h1 g0 f19) H := hP2
              have hD : va_D A (wd_f4cd022e h0 v0 h1 v1 t18 (-1) v3 r0 r1 r2 r3 r4 r5 r6 v4 v5 r7 r8 r9 r10 v6 r11 r12 v7 v8 r13 r14 v9 v10 r15 v11 v12 r16 v13 w14 r17 v15 v16 r18 r19 r20 r21 r22 r23 v17 r24 r25 r26 v18 h1 g0 f19) := hD2
              clear hP2 hD2
              obtain rfl : ra22 = ((-1) : Int32) := pv_cs (by decide) pt0_ra22 pt1_ra22
              have hPc := hP.sub (ws' := []) [] rfl
              have hDc := hD.sub (ws' := []) [] (by decide) rfl
              have hKc := hK.sub (tys' := []) [] rfl
              have hFc := va_free (wc := []) hD hS hA [] rfl
              refine va_calli (va_runS (As := [.int (-1)]) (rest := []) ⟨hx, hb, hml, hown, hts⟩ (k_X12_isDigit l dC dI ((-1))  H.size) (va_cwS 1 hts g_X12_plainNumber_1 rfl rfl rfl (by decide +kernel) ⟨Nat.le_of_ble_eq_true rfl, Nat.le_of_ble_eq_true rfl⟩) (pv_PS hPc hKc hDc) rfl rfl hl.1 rfl (lv_room (Nat.le_of_ble_eq_true rfl)) dX12_plainNumber_52 ⟨Nat.le_of_ble_eq_true rfl, Nat.le_of_ble_eq_true rfl⟩) hS (fun q _ h => hFc q h) hFc (fun ra23 u t H1 locs ht hvm hwra23 hB hz1 hk1 hS => ?_)
              try rw [hwra23] at hB
              have hkra23_0 : (((-1) : Int32)).toInt = -1 := by decide
              obtain ⟨pt0_ra23, pt1_ra23, pt2_ra23, pt3_ra23, pt4_ra23, hP1, hK1, hD1⟩ := hB
              rw [ht] at hP1
              obtain ⟨hP2, hD2⟩ := va_join (wr := (wd_f4cd022e h0 v0 h1 v1 t18 (-1) v3 r0 r1 r2 r3 r4 r5 r6 v4 v5 r7 r8 r9 r10 v6 r11 r12 v7 v8 r13 r14 v9 v10 r15 v11 v12 r16 v13 w14 r17 v15 v16 r18 r19 r20 r21 r22 r23 v17 r24 r25 r26 v18 h1 g0 f19)) (w1 := []) hP hD [] [0, 1] rfl rfl (by decide) (by decide) hk1 hFc hP1 hD1
              clear hP hD hPc hDc hKc hFc hP1 hK1 hD1 hk1 hz1
              generalize H1 = H at hP2 hS ⊢
              have hP : va_P (dC, dI) vwCl (wd_f4cd022e h0 v0 h1 v1 t18 (-1) v3 r0 r1 r2 r3 r4 r5 r6 v4 v5 r7 r8 r9 r10 v6 r11 r12 v7 v8 r13 r14 v9 v10 r15 v11 v12 r16 v13 w14 r17 v15 v16 r18 r19 r20 r21 r22 r23 v17 r24 r25 r26 v18 h1 g0 f19) H := hP2
              have hD : va_D A (wd_f4cd022e h0 v0 h1 v1 t18 (-1) v3 r0 r1 r2 r3 r4 r5 r6 v4 v5 r7 r8 r9 r10 v6 r11 r12 v7 v8 r13 r14 v9 v10 r15 v11 v12 r16 v13 w14 r17 v15 v16 r18 r19 r20 r21 r22 r23 v17 r24 r25 r26 v18 h1 g0 f19) := hD2
              clear hP2 hD2
              refine lv_if_eq (tgt := 62) hx hb dX12_plainNumber_55 (by decide) (fun c24 => ?_) (fun c24 => ?_)
              · skip
                have fc24 : ra23.toInt = 0 := congrArg Int32.toInt c24
                refine lv_iload_n hx hb dX12_plainNumber_62 rfl (lv_at hl 1 rfl) ?_
                subst hQ
                have hP9 := hP.sub (ws' := (wd_f4cd022e h0 v0 h1 v1 t18 (-1) v3 r0 r1 r2 r3 r4 r5 r6 v4 v5 r7 r8 r9 r10 v6 r11 r12 v7 v8 r13 r14 v9 v10 r15 v11 v12 r16 v13 w14 r17 v15 v16 r18 r19 r20 r21 r22 r23 v17 r24 r25 r26 v18 h1 g0 f19)) [0, 1] rfl
                have hD9 := hD.sub (ws' := (wd_f4cd022e h0 v0 h1 v1 t18 (-1) v3 r0 r1 r2 r3 r4 r5 r6 v4 v5 r7 r8 r9 r10 v6 r11 r12 v7 v8 r13 r14 v9 v10 r15 v11 v12 r16 v13 w14 r17 v15 v16 r18 r19 r20 r21 r22 r23 v17 r24 r25 r26 v18 h1 g0 f19)) [0, 1] (by decide) rfl
                have hK9 := hK.sub (tys' := []) [] rfl
                exact W.iret (v := t17) hx hb hr (fun t ht hW => ⟨⟨t17, t17, rfl, rfl, Or.inl ⟨t18, by first | omega | decide, by first | omega | decide, by first | omega | decide, by first | omega | decide, by omega, by first | exact hnm.trans (pg_nm.stop (by omega)) | exact hnm.trans (pg_nm.over (by omega) (by omega) (by omega)) | (exfalso; omega), by rw [ht]; exact hP9, va_K.moved hW.alike hK9, hD9⟩⟩, hS.F ht⟩) hS.2.2 dX12_plainNumber_63
              · skip
                have fc24 : ¬ (ra23.toInt = 0) := fun h9 => c24 (Int32.toInt_inj.mp h9)
                exfalso; omega
            · skip
              obtain ⟨pt0_ra22, pt1_ra22, pt2_ra22, pt3_ra22, pt4_ra22, hP1, hK1, hD1⟩ := hB
              rw [ht] at hP1
              obtain ⟨hP2, hD2⟩ := va_join (wr := []) (w1 := (wd_f4cd022e h0 v0 h1 v1 t18 (-1) v3 r0 r1 r2 r3 r4 r5 r6 v4 v5 r7 r8 r9 r10 v6 r11 r12 v7 v8 r13 r14 v9 v10 r15 v11 v12 r16 v13 w14 r17 v15 v16 r18 r19 r20 r21 r22 r23 v17 r24 r25 r26 v18 h1 g0 f19)) hP hD [0, 1] [] rfl rfl (by decide) (by decide) hk1 hFc hP1 hD1
              clear hP hD hPc hDc hKc hFc hP1 hK1 hD1 hk1 hz1
              generalize H1 = H at hP2 hS ⊢
              have hP : va_P (dC, dI) vwCl (wd_f4cd022e h0 v0 h1 v1 t18 (-1) v3 r0 r1 r2 r3 r4 r5 r6 v4 v5 r7 r8 r9 r10 v6 r11 r12 v7 v8 r13 r14 v9 v10 r15 v11 v12 r16 v13 w14 r17 v15 v16 r18 r19 r20 r21 r22 r23 v17 r24 r25 r26 v18 h1 g0 f19) H := hP2
              have hD : va_D A (wd_f4cd022e h0 v0 h1 v1 t18 (-1) v3 r0 r1 r2 r3 r4 r5 r6 v4 v5 r7 r8 r9 r10 v6 r11 r12 v7 v8 r13 r14 v9 v10 r15 v11 v12 r16 v13 w14 r17 v15 v16 r18 r19 r20 r21 r22 r23 v17 r24 r25 r26 v18 h1 g0 f19) := hD2
              clear hP2 hD2
              exfalso; omega
          · skip
            have fc21 : ¬ (ra20.toInt = 0) := fun h9 => c21 (Int32.toInt_inj.mp h9)
            exfalso; omega
        · skip
          obtain ⟨pt0_ra19, pt1_ra19, pt2_ra19, pt3_ra19, pt4_ra19, hP1, hK1, hD1⟩ := hB
          rw [ht] at hP1
          obtain ⟨hP2, hD2⟩ := va_join (wr := []) (w1 := (wd_f4cd022e h0 v0 h1 v1 t18 (-1) v3 r0 r1 r2 r3 r4 r5 r6 v4 v5 r7 r8 r9 r10 v6 r11 r12 v7 v8 r13 r14 v9 v10 r15 v11 v12 r16 v13 w14 r17 v15 v16 r18 r19 r20 r21 r22 r23 v17 r24 r25 r26 v18 h1 g0 f19)) hP hD [0, 1] [] rfl rfl (by decide) (by decide) hk1 hFc hP1 hD1
          clear hP hD hPc hDc hKc hFc hP1 hK1 hD1 hk1 hz1
          generalize H1 = H at hP2 hS ⊢
          have hP : va_P (dC, dI) vwCl (wd_f4cd022e h0 v0 h1 v1 t18 (-1) v3 r0 r1 r2 r3 r4 r5 r6 v4 v5 r7 r8 r9 r10 v6 r11 r12 v7 v8 r13 r14 v9 v10 r15 v11 v12 r16 v13 w14 r17 v15 v16 r18 r19 r20 r21 r22 r23 v17 r24 r25 r26 v18 h1 g0 f19) H := hP2
          have hD : va_D A (wd_f4cd022e h0 v0 h1 v1 t18 (-1) v3 r0 r1 r2 r3 r4 r5 r6 v4 v5 r7 r8 r9 r10 v6 r11 r12 v7 v8 r13 r14 v9 v10 r15 v11 v12 r16 v13 w14 r17 v15 v16 r18 r19 r20 r21 r22 r23 v17 r24 r25 r26 v18 h1 g0 f19) := hD2
          clear hP2 hD2
          have hPc := hP.sub (ws' := []) [] rfl
          have hDc := hD.sub (ws' := []) [] (by decide) rfl
          have hKc := hK.sub (tys' := []) [] rfl
          have hFc := va_free (wc := []) hD hS hA [] rfl
          refine va_calli (va_runS (As := [.int ra19]) (rest := []) ⟨hx, hb, hml, hown, hts⟩ (k_X12_isDigit l dC dI ra19  H.size) (va_cwS 1 hts g_X12_plainNumber_1 rfl rfl rfl (by decide +kernel) ⟨Nat.le_of_ble_eq_true rfl, Nat.le_of_ble_eq_true rfl⟩) (pv_PS hPc hKc hDc) rfl rfl hl.1 rfl (lv_room (Nat.le_of_ble_eq_true rfl)) dX12_plainNumber_13 ⟨Nat.le_of_ble_eq_true rfl, Nat.le_of_ble_eq_true rfl⟩) hS (fun q _ h => hFc q h) hFc (fun ra25 u t H1 locs ht hvm hwra25 hB hz1 hk1 hS => ?_)
          try rw [hwra25] at hB
          obtain ⟨pt0_ra25, pt1_ra25, pt2_ra25, pt3_ra25, pt4_ra25, hP1, hK1, hD1⟩ := hB
          rw [ht] at hP1
          obtain ⟨hP2, hD2⟩ := va_join (wr := (wd_f4cd022e h0 v0 h1 v1 t18 (-1) v3 r0 r1 r2 r3 r4 r5 r6 v4 v5 r7 r8 r9 r10 v6 r11 r12 v7 v8 r13 r14 v9 v10 r15 v11 v12 r16 v13 w14 r17 v15 v16 r18 r19 r20 r21 r22 r23 v17 r24 r25 r26 v18 h1 g0 f19)) (w1 := []) hP hD [] [0, 1] rfl rfl (by decide) (by decide) hk1 hFc hP1 hD1
          clear hP hD hPc hDc hKc hFc hP1 hK1 hD1 hk1 hz1
          generalize H1 = H at hP2 hS ⊢
          have hP : va_P (dC, dI) vwCl (wd_f4cd022e h0 v0 h1 v1 t18 (-1) v3 r0 r1 r2 r3 r4 r5 r6 v4 v5 r7 r8 r9 r10 v6 r11 r12 v7 v8 r13 r14 v9 v10 r15 v11 v12 r16 v13 w14 r17 v15 v16 r18 r19 r20 r21 r22 r23 v17 r24 r25 r26 v18 h1 g0 f19) H := hP2
          have hD : va_D A (wd_f4cd022e h0 v0 h1 v1 t18 (-1) v3 r0 r1 r2 r3 r4 r5 r6 v4 v5 r7 r8 r9 r10 v6 r11 r12 v7 v8 r13 r14 v9 v10 r15 v11 v12 r16 v13 w14 r17 v15 v16 r18 r19 r20 r21 r22 r23 v17 r24 r25 r26 v18 h1 g0 f19) := hD2
          clear hP2 hD2
          refine lv_if_eq (tgt := 48) hx hb dX12_plainNumber_16 (by decide) (fun c26 => ?_) (fun c26 => ?_)
          · skip
            have fc26 : ra25.toInt = 0 := congrArg Int32.toInt c26
            refine lv_aload_n hx hb dX12_plainNumber_48 rfl (lv_at hl 2 rfl) ?_
            have hPc := hP.sub (ws' := (wd_f4cd022e h0 v0 h1 v1 t18 (-1) v3 r0 r1 r2 r3 r4 r5 r6 v4 v5 r7 r8 r9 r10 v6 r11 r12 v7 v8 r13 r14 v9 v10 r15 v11 v12 r16 v13 w14 r17 v15 v16 r18 r19 r20 r21 r22 r23 v17 r24 r25 r26 v18 h1 g0 f19)) [0, 1] rfl
            have hDc := hD.sub (ws' := (wd_f4cd022e h0 v0 h1 v1 t18 (-1) v3 r0 r1 r2 r3 r4 r5 r6 v4 v5 r7 r8 r9 r10 v6 r11 r12 v7 v8 r13 r14 v9 v10 r15 v11 v12 r16 v13 w14 r17 v15 v16 r18 r19 r20 r21 r22 r23 v17 r24 r25 r26 v18 h1 g0 f19)) [0, 1] (by decide) rfl
            have hKc := hK.sub (tys' := [(g0, .int)]) [0] rfl
            have hFc := va_free (wc := (wd_f4cd022e h0 v0 h1 v1 t18 (-1) v3 r0 r1 r2 r3 r4 r5 r6 v4 v5 r7 r8 r9 r10 v6 r11 r12 v7 v8 r13 r14 v9 v10 r15 v11 v12 r16 v13 w14 r17 v15 v16 r18 r19 r20 r21 r22 r23 v17 r24 r25 r26 v18 h1 g0 f19)) hD hS hA [0, 1] rfl
            refine va_calli (va_runV (As := []) (rest := []) ⟨hx, hb, hml, hown, hts⟩ (k_X12_here l dC dI h0 h1 v0 v1 t18 ((-1)) v3 r0 r1 r2 r3 r4 r5 r6 v4 v5 r7 r8 r9 r10 v6 r11 r12 v7 v8 r13 r14 v9 v10 r15 v11 v12 r16 v13 w14 r17 v15 v16 r18 r19 r20 r21 r22 r23 v17 r24 r25 r26 v18 g0 f19 ⟨i_v1a, i_v1b⟩ ⟨by first | omega | decide, by first | omega | decide⟩ ⟨i_v4a, i_v4b⟩ ⟨i_v5a, i_v5b⟩ ⟨i_v6a, i_v6b⟩ ⟨i_v7a, i_v7b⟩ ⟨i_v8a, i_v8b⟩ ⟨i_v9a, i_v9b⟩ ⟨i_v13a, i_v13b⟩ ⟨i_v17a, i_v17b⟩ ⟨i_v18a, i_v18b⟩ ia_f19 H.size) (cwV 0 hts g_X12_plainNumber_0 rfl rfl rfl (by decide +kernel) ⟨Nat.le_of_ble_eq_true rfl, Nat.le_of_ble_eq_true rfl⟩) (pv_PV12 hPc hKc hDc (q0 := 0) rfl) rfl rfl hl.1 rfl (lv_room (Nat.le_of_ble_eq_true rfl)) dX12_plainNumber_49 ⟨Nat.le_of_ble_eq_true rfl, Nat.le_of_ble_eq_true rfl⟩) hS (fun q _ h => hFc q h) hFc (fun ra27 u t H1 locs ht hvm hwra27 hB hz1 hk1 hS => ?_)
            try rw [hwra27] at hB
            have hkra27_0 : (((-1) : Int32)).toInt = -1 := by decide
            rcases hB with hB | hB
            · skip
              obtain ⟨pt0_ra27, pt1_ra27, pt2_ra27, pt3_ra27, hP1, hK1, hD1⟩ := hB
              rw [ht] at hP1
              obtain ⟨hP2, hD2⟩ := va_join (wr := []) (w1 := (wd_f4cd022e h0 v0 h1 v1 t18 (-1) v3 r0 r1 r2 r3 r4 r5 r6 v4 v5 r7 r8 r9 r10 v6 r11 r12 v7 v8 r13 r14 v9 v10 r15 v11 v12 r16 v13 w14 r17 v15 v16 r18 r19 r20 r21 r22 r23 v17 r24 r25 r26 v18 h1 g0 f19)) hP hD [0, 1] [] rfl rfl (by decide) (by decide) hk1 hFc hP1 hD1
              clear hP hD hPc hDc hKc hFc hP1 hK1 hD1 hk1 hz1
              generalize H1 = H at hP2 hS ⊢
              have hP : va_P (dC, dI) vwCl (wd_f4cd022e h0 v0 h1 v1 t18 (-1) v3 r0 r1 r2 r3 r4 r5 r6 v4 v5 r7 r8 r9 r10 v6 r11 r12 v7 v8 r13 r14 v9 v10 r15 v11 v12 r16 v13 w14 r17 v15 v16 r18 r19 r20 r21 r22 r23 v17 r24 r25 r26 v18 h1 g0 f19) H := hP2
              have hD : va_D A (wd_f4cd022e h0 v0 h1 v1 t18 (-1) v3 r0 r1 r2 r3 r4 r5 r6 v4 v5 r7 r8 r9 r10 v6 r11 r12 v7 v8 r13 r14 v9 v10 r15 v11 v12 r16 v13 w14 r17 v15 v16 r18 r19 r20 r21 r22 r23 v17 r24 r25 r26 v18 h1 g0 f19) := hD2
              clear hP2 hD2
              obtain rfl : ra27 = ((-1) : Int32) := pv_cs (by decide) pt0_ra27 pt1_ra27
              exfalso; omega
            · skip
              obtain ⟨pt0_ra27, pt1_ra27, pt2_ra27, pt3_ra27, pt4_ra27, hP1, hK1, hD1⟩ := hB
              rw [ht] at hP1
              obtain ⟨hP2, hD2⟩ := va_join (wr := []) (w1 := (wd_f4cd022e h0 v0 h1 v1 t18 (-1) v3 r0 r1 r2 r3 r4 r5 r6 v4 v5 r7 r8 r9 r10 v6 r11 r12 v7 v8 r13 r14 v9 v10 r15 v11 v12 r16 v13 w14 r17 v15 v16 r18 r19 r20 r21 r22 r23 v17 r24 r25 r26 v18 h1 g0 f19)) hP hD [0, 1] [] rfl rfl (by decide) (by decide) hk1 hFc hP1 hD1
              clear hP hD hPc hDc hKc hFc hP1 hK1 hD1 hk1 hz1
              generalize H1 = H at hP2 hS ⊢
              have hP : va_P (dC, dI) vwCl (wd_f4cd022e h0 v0 h1 v1 t18 (-1) v3 r0 r1 r2 r3 r4 r5 r6 v4 v5 r7 r8 r9 r10 v6 r11 r12 v7 v8 r13 r14 v9 v10 r15 v11 v12 r16 v13 w14 r17 v15 v16 r18 r19 r20 r21 r22 r23 v17 r24 r25 r26 v18 h1 g0 f19) H := hP2
              have hD : va_D A (wd_f4cd022e h0 v0 h1 v1 t18 (-1) v3 r0 r1 r2 r3 r4 r5 r6 v4 v5 r7 r8 r9 r10 v6 r11 r12 v7 v8 r13 r14 v9 v10 r15 v11 v12 r16 v13 w14 r17 v15 v16 r18 r19 r20 r21 r22 r23 v17 r24 r25 r26 v18 h1 g0 f19) := hD2
              clear hP2 hD2
              have hPc := hP.sub (ws' := []) [] rfl
              have hDc := hD.sub (ws' := []) [] (by decide) rfl
              have hKc := hK.sub (tys' := []) [] rfl
              have hFc := va_free (wc := []) hD hS hA [] rfl
              refine va_calli (va_runS (As := [.int ra27]) (rest := []) ⟨hx, hb, hml, hown, hts⟩ (k_X12_isDigit l dC dI ra27  H.size) (va_cwS 1 hts g_X12_plainNumber_1 rfl rfl rfl (by decide +kernel) ⟨Nat.le_of_ble_eq_true rfl, Nat.le_of_ble_eq_true rfl⟩) (pv_PS hPc hKc hDc) rfl rfl hl.1 rfl (lv_room (Nat.le_of_ble_eq_true rfl)) dX12_plainNumber_52 ⟨Nat.le_of_ble_eq_true rfl, Nat.le_of_ble_eq_true rfl⟩) hS (fun q _ h => hFc q h) hFc (fun ra28 u t H1 locs ht hvm hwra28 hB hz1 hk1 hS => ?_)
              try rw [hwra28] at hB
              obtain ⟨pt0_ra28, pt1_ra28, pt2_ra28, pt3_ra28, pt4_ra28, hP1, hK1, hD1⟩ := hB
              rw [ht] at hP1
              obtain ⟨hP2, hD2⟩ := va_join (wr := (wd_f4cd022e h0 v0 h1 v1 t18 (-1) v3 r0 r1 r2 r3 r4 r5 r6 v4 v5 r7 r8 r9 r10 v6 r11 r12 v7 v8 r13 r14 v9 v10 r15 v11 v12 r16 v13 w14 r17 v15 v16 r18 r19 r20 r21 r22 r23 v17 r24 r25 r26 v18 h1 g0 f19)) (w1 := []) hP hD [] [0, 1] rfl rfl (by decide) (by decide) hk1 hFc hP1 hD1
              clear hP hD hPc hDc hKc hFc hP1 hK1 hD1 hk1 hz1
              generalize H1 = H at hP2 hS ⊢
              have hP : va_P (dC, dI) vwCl (wd_f4cd022e h0 v0 h1 v1 t18 (-1) v3 r0 r1 r2 r3 r4 r5 r6 v4 v5 r7 r8 r9 r10 v6 r11 r12 v7 v8 r13 r14 v9 v10 r15 v11 v12 r16 v13 w14 r17 v15 v16 r18 r19 r20 r21 r22 r23 v17 r24 r25 r26 v18 h1 g0 f19) H := hP2
              have hD : va_D A (wd_f4cd022e h0 v0 h1 v1 t18 (-1) v3 r0 r1 r2 r3 r4 r5 r6 v4 v5 r7 r8 r9 r10 v6 r11 r12 v7 v8 r13 r14 v9 v10 r15 v11 v12 r16 v13 w14 r17 v15 v16 r18 r19 r20 r21 r22 r23 v17 r24 r25 r26 v18 h1 g0 f19) := hD2
              clear hP2 hD2
              refine lv_if_eq (tgt := 62) hx hb dX12_plainNumber_55 (by decide) (fun c29 => ?_) (fun c29 => ?_)
              · skip
                have fc29 : ra28.toInt = 0 := congrArg Int32.toInt c29
                refine lv_iload_n hx hb dX12_plainNumber_62 rfl (lv_at hl 1 rfl) ?_
                subst hQ
                have hP9 := hP.sub (ws' := (wd_f4cd022e h0 v0 h1 v1 t18 (-1) v3 r0 r1 r2 r3 r4 r5 r6 v4 v5 r7 r8 r9 r10 v6 r11 r12 v7 v8 r13 r14 v9 v10 r15 v11 v12 r16 v13 w14 r17 v15 v16 r18 r19 r20 r21 r22 r23 v17 r24 r25 r26 v18 h1 g0 f19)) [0, 1] rfl
                have hD9 := hD.sub (ws' := (wd_f4cd022e h0 v0 h1 v1 t18 (-1) v3 r0 r1 r2 r3 r4 r5 r6 v4 v5 r7 r8 r9 r10 v6 r11 r12 v7 v8 r13 r14 v9 v10 r15 v11 v12 r16 v13 w14 r17 v15 v16 r18 r19 r20 r21 r22 r23 v17 r24 r25 r26 v18 h1 g0 f19)) [0, 1] (by decide) rfl
                have hK9 := hK.sub (tys' := []) [] rfl
                exact W.iret (v := t17) hx hb hr (fun t ht hW => ⟨⟨t17, t17, rfl, rfl, Or.inl ⟨t18, by first | omega | decide, by first | omega | decide, by first | omega | decide, by first | omega | decide, by omega, by first | exact hnm.trans (pg_nm.stop (by omega)) | exact hnm.trans (pg_nm.over (by omega) (by omega) (by omega)) | (exfalso; omega), by rw [ht]; exact hP9, va_K.moved hW.alike hK9, hD9⟩⟩, hS.F ht⟩) hS.2.2 dX12_plainNumber_63
              · skip
                have fc29 : ¬ (ra28.toInt = 0) := fun h9 => c29 (Int32.toInt_inj.mp h9)
                refine lv_aload_n hx hb dX12_plainNumber_58 rfl (lv_at hl 2 rfl) ?_
                have hPc := hP.sub (ws' := (wd_171f232f h0 v0 h1 v1 t18 (-1) v3 r0 r1 r2 r3 r4 r5 r6 v4 v5 r7 r8 r9 r10 v6 r11 r12 v7 v8 r13 r14 v9 v10 r15 v11 v12 r16 v13 w14 r17 v15 v16 r18 r19 r20 r21 r22 r23 v17 r24 r25 r26 v18)) [0] rfl
                have hDc := hD.sub (ws' := (wd_171f232f h0 v0 h1 v1 t18 (-1) v3 r0 r1 r2 r3 r4 r5 r6 v4 v5 r7 r8 r9 r10 v6 r11 r12 v7 v8 r13 r14 v9 v10 r15 v11 v12 r16 v13 w14 r17 v15 v16 r18 r19 r20 r21 r22 r23 v17 r24 r25 r26 v18)) [0] (by decide) rfl
                have hKc := hK.sub (tys' := []) [] rfl
                have hFc := va_free (wc := (wd_171f232f h0 v0 h1 v1 t18 (-1) v3 r0 r1 r2 r3 r4 r5 r6 v4 v5 r7 r8 r9 r10 v6 r11 r12 v7 v8 r13 r14 v9 v10 r15 v11 v12 r16 v13 w14 r17 v15 v16 r18 r19 r20 r21 r22 r23 v17 r24 r25 r26 v18)) hD hS hA [0] rfl
                refine va_callv (va_runV (As := []) (rest := []) ⟨hx, hb, hml, hown, hts⟩ (k_X12_bad l dC dI h0 v0 h1 v1 t18 v3 r0 r1 r2 r3 r4 r5 r6 v4 v5 r7 r8 r9 r10 v6 r11 r12 v7 v8 r13 r14 v9 v10 r15 v11 v12 r16 v13 w14 r17 v15 v16 r18 r19 r20 r21 r22 r23 v17 r24 r25 r26 v18 ⟨i_v1a, i_v1b⟩ ⟨by first | omega | decide, by first | omega | decide⟩ ⟨i_v4a, i_v4b⟩ ⟨i_v5a, i_v5b⟩ ⟨i_v6a, i_v6b⟩ ⟨i_v7a, i_v7b⟩ ⟨i_v8a, i_v8b⟩ ⟨i_v9a, i_v9b⟩ ⟨i_v13a, i_v13b⟩ ⟨i_v17a, i_v17b⟩ ⟨i_v18a, i_v18b⟩ H.size) (cwV 0 hts g_X12_plainNumber_7 rfl rfl rfl (by decide +kernel) ⟨Nat.le_of_ble_eq_true rfl, Nat.le_of_ble_eq_true rfl⟩) (pv_PV12 hPc hKc hDc (q0 := 0) rfl) rfl rfl hl.1 rfl (lv_room (Nat.le_of_ble_eq_true rfl)) dX12_plainNumber_59 ⟨Nat.le_of_ble_eq_true rfl, Nat.le_of_ble_eq_true rfl⟩) hS (fun q _ h => hFc q h) hFc (fun u t H1 locs ht hvm hwra30 hB hz1 hk1 hS => ?_)
                obtain ⟨x31, oa_x31, ob_x31, pt0_ra30, hP1, hK1, hD1⟩ := hB
                rw [ht] at hP1
                obtain ⟨hP2, hD2⟩ := va_join (wr := (wd_d0032b31 h1 g0 f19)) (w1 := (wd_171f232f h0 v0 h1 v1 t18 x31 v3 r0 r1 r2 r3 r4 r5 r6 v4 v5 r7 r8 r9 r10 v6 r11 r12 v7 v8 r13 r14 v9 v10 r15 v11 v12 r16 v13 w14 r17 v15 v16 r18 r19 r20 r21 r22 r23 v17 r24 r25 r26 v18)) hP hD [0] [1] rfl rfl (by decide) (by decide) hk1 hFc hP1 hD1
                clear hP hD hPc hDc hKc hFc hP1 hK1 hD1 hk1 hz1
                generalize H1 = H at hP2 hS ⊢
                have hP := hP2.sub (ws' := (wd_f4cd022e h0 v0 h1 v1 t18 x31 v3 r0 r1 r2 r3 r4 r5 r6 v4 v5 r7 r8 r9 r10 v6 r11 r12 v7 v8 r13 r14 v9 v10 r15 v11 v12 r16 v13 w14 r17 v15 v16 r18 r19 r20 r21 r22 r23 v17 r24 r25 r26 v18 h1 g0 f19)) [1, 0] rfl
                have hD := hD2.sub (ws' := (wd_f4cd022e h0 v0 h1 v1 t18 x31 v3 r0 r1 r2 r3 r4 r5 r6 v4 v5 r7 r8 r9 r10 v6 r11 r12 v7 v8 r13 r14 v9 v10 r15 v11 v12 r16 v13 w14 r17 v15 v16 r18 r19 r20 r21 r22 r23 v17 r24 r25 r26 v18 h1 g0 f19)) [1, 0] (by decide) rfl
                clear hP2 hD2
                refine lv_iload_n hx hb dX12_plainNumber_62 rfl (lv_at hl 1 rfl) ?_
                subst hQ
                have hP9 := hP.sub (ws' := (wd_f4cd022e h0 v0 h1 v1 t18 x31 v3 r0 r1 r2 r3 r4 r5 r6 v4 v5 r7 r8 r9 r10 v6 r11 r12 v7 v8 r13 r14 v9 v10 r15 v11 v12 r16 v13 w14 r17 v15 v16 r18 r19 r20 r21 r22 r23 v17 r24 r25 r26 v18 h1 g0 f19)) [0, 1] rfl
                have hD9 := hD.sub (ws' := (wd_f4cd022e h0 v0 h1 v1 t18 x31 v3 r0 r1 r2 r3 r4 r5 r6 v4 v5 r7 r8 r9 r10 v6 r11 r12 v7 v8 r13 r14 v9 v10 r15 v11 v12 r16 v13 w14 r17 v15 v16 r18 r19 r20 r21 r22 r23 v17 r24 r25 r26 v18 h1 g0 f19)) [0, 1] (by decide) rfl
                have hK9 := hK.sub (tys' := []) [] rfl
                exact W.iret (v := t17) hx hb hr (fun t ht hW => ⟨⟨t17, t17, rfl, rfl, Or.inr (⟨t18, x31, by first | omega | decide, by first | omega | decide, oa_x31, ob_x31, by first | omega | decide, by first | omega | decide, by omega, by first | exact hnm.trans (pg_nm.stop (by omega)) | exact hnm.trans (pg_nm.over (by omega) (by omega) (by omega)) | (exfalso; omega), by rw [ht]; exact hP9, va_K.moved hW.alike hK9, hD9⟩)⟩, hS.F ht⟩) hS.2.2 dX12_plainNumber_63
          · skip
            have fc26 : ¬ (ra25.toInt = 0) := fun h9 => c26 (Int32.toInt_inj.mp h9)
            refine lv_bipush (v := 10) hx hb dX12_plainNumber_19 (by decide) ?_
            refine lv_iload_n hx hb dX12_plainNumber_21 rfl (lv_at hl 1 rfl) ?_
            refine lv_imul hx hb dX12_plainNumber_22 ?_
            refine lv_topi (fun t32 et32 => ?_)
            have gt32 : t32.toInt = 10 * t17.toInt := pv_mul (a := 10) (b := t17.toInt) et32 (by decide) rfl (by omega) (by omega)
            refine lv_aload_n hx hb dX12_plainNumber_23 rfl (lv_at hl 2 rfl) ?_
            have hPc := hP.sub (ws' := (wd_f4cd022e h0 v0 h1 v1 t18 (-1) v3 r0 r1 r2 r3 r4 r5 r6 v4 v5 r7 r8 r9 r10 v6 r11 r12 v7 v8 r13 r14 v9 v10 r15 v11 v12 r16 v13 w14 r17 v15 v16 r18 r19 r20 r21 r22 r23 v17 r24 r25 r26 v18 h1 g0 f19)) [0, 1] rfl
            have hDc := hD.sub (ws' := (wd_f4cd022e h0 v0 h1 v1 t18 (-1) v3 r0 r1 r2 r3 r4 r5 r6 v4 v5 r7 r8 r9 r10 v6 r11 r12 v7 v8 r13 r14 v9 v10 r15 v11 v12 r16 v13 w14 r17 v15 v16 r18 r19 r20 r21 r22 r23 v17 r24 r25 r26 v18 h1 g0 f19)) [0, 1] (by decide) rfl
            have hKc := hK.sub (tys' := [(g0, .int)]) [0] rfl
            have hFc := va_free (wc := (wd_f4cd022e h0 v0 h1 v1 t18 (-1) v3 r0 r1 r2 r3 r4 r5 r6 v4 v5 r7 r8 r9 r10 v6 r11 r12 v7 v8 r13 r14 v9 v10 r15 v11 v12 r16 v13 w14 r17 v15 v16 r18 r19 r20 r21 r22 r23 v17 r24 r25 r26 v18 h1 g0 f19)) hD hS hA [0, 1] rfl
            refine va_calli (va_runV (As := []) (rest := [.int t32]) ⟨hx, hb, hml, hown, hts⟩ (k_X12_here l dC dI h0 h1 v0 v1 t18 ((-1)) v3 r0 r1 r2 r3 r4 r5 r6 v4 v5 r7 r8 r9 r10 v6 r11 r12 v7 v8 r13 r14 v9 v10 r15 v11 v12 r16 v13 w14 r17 v15 v16 r18 r19 r20 r21 r22 r23 v17 r24 r25 r26 v18 g0 f19 ⟨i_v1a, i_v1b⟩ ⟨by first | omega | decide, by first | omega | decide⟩ ⟨i_v4a, i_v4b⟩ ⟨i_v5a, i_v5b⟩ ⟨i_v6a, i_v6b⟩ ⟨i_v7a, i_v7b⟩ ⟨i_v8a, i_v8b⟩ ⟨i_v9a, i_v9b⟩ ⟨i_v13a, i_v13b⟩ ⟨i_v17a, i_v17b⟩ ⟨i_v18a, i_v18b⟩ ia_f19 H.size) (cwV 0 hts g_X12_plainNumber_0 rfl rfl rfl (by decide +kernel) ⟨Nat.le_of_ble_eq_true rfl, Nat.le_of_ble_eq_true rfl⟩) (pv_PV12 hPc hKc hDc (q0 := 0) rfl) rfl rfl hl.1 rfl (lv_room (Nat.le_of_ble_eq_true rfl)) dX12_plainNumber_24 ⟨Nat.le_of_ble_eq_true rfl, Nat.le_of_ble_eq_true rfl⟩) hS (fun q _ h => hFc q h) hFc (fun ra33 u t H1 locs ht hvm hwra33 hB hz1 hk1 hS => ?_)
            try rw [hwra33] at hB
            have hkra33_0 : (((-1) : Int32)).toInt = -1 := by decide
            rcases hB with hB | hB
            · skip
              obtain ⟨pt0_ra33, pt1_ra33, pt2_ra33, pt3_ra33, hP1, hK1, hD1⟩ := hB
              rw [ht] at hP1
              obtain ⟨hP2, hD2⟩ := va_join (wr := []) (w1 := (wd_f4cd022e h0 v0 h1 v1 t18 (-1) v3 r0 r1 r2 r3 r4 r5 r6 v4 v5 r7 r8 r9 r10 v6 r11 r12 v7 v8 r13 r14 v9 v10 r15 v11 v12 r16 v13 w14 r17 v15 v16 r18 r19 r20 r21 r22 r23 v17 r24 r25 r26 v18 h1 g0 f19)) hP hD [0, 1] [] rfl rfl (by decide) (by decide) hk1 hFc hP1 hD1
              clear hP hD hPc hDc hKc hFc hP1 hK1 hD1 hk1 hz1
              generalize H1 = H at hP2 hS ⊢
              have hP : va_P (dC, dI) vwCl (wd_f4cd022e h0 v0 h1 v1 t18 (-1) v3 r0 r1 r2 r3 r4 r5 r6 v4 v5 r7 r8 r9 r10 v6 r11 r12 v7 v8 r13 r14 v9 v10 r15 v11 v12 r16 v13 w14 r17 v15 v16 r18 r19 r20 r21 r22 r23 v17 r24 r25 r26 v18 h1 g0 f19) H := hP2
              have hD : va_D A (wd_f4cd022e h0 v0 h1 v1 t18 (-1) v3 r0 r1 r2 r3 r4 r5 r6 v4 v5 r7 r8 r9 r10 v6 r11 r12 v7 v8 r13 r14 v9 v10 r15 v11 v12 r16 v13 w14 r17 v15 v16 r18 r19 r20 r21 r22 r23 v17 r24 r25 r26 v18 h1 g0 f19) := hD2
              clear hP2 hD2
              obtain rfl : ra33 = ((-1) : Int32) := pv_cs (by decide) pt0_ra33 pt1_ra33
              exfalso; omega
            · skip
              obtain ⟨pt0_ra33, pt1_ra33, pt2_ra33, pt3_ra33, pt4_ra33, hP1, hK1, hD1⟩ := hB
              rw [ht] at hP1
              obtain ⟨hP2, hD2⟩ := va_join (wr := []) (w1 := (wd_f4cd022e h0 v0 h1 v1 t18 (-1) v3 r0 r1 r2 r3 r4 r5 r6 v4 v5 r7 r8 r9 r10 v6 r11 r12 v7 v8 r13 r14 v9 v10 r15 v11 v12 r16 v13 w14 r17 v15 v16 r18 r19 r20 r21 r22 r23 v17 r24 r25 r26 v18 h1 g0 f19)) hP hD [0, 1] [] rfl rfl (by decide) (by decide) hk1 hFc hP1 hD1
              clear hP hD hPc hDc hKc hFc hP1 hK1 hD1 hk1 hz1
              generalize H1 = H at hP2 hS ⊢
              have hP : va_P (dC, dI) vwCl (wd_f4cd022e h0 v0 h1 v1 t18 (-1) v3 r0 r1 r2 r3 r4 r5 r6 v4 v5 r7 r8 r9 r10 v6 r11 r12 v7 v8 r13 r14 v9 v10 r15 v11 v12 r16 v13 w14 r17 v15 v16 r18 r19 r20 r21 r22 r23 v17 r24 r25 r26 v18 h1 g0 f19) H := hP2
              have hD : va_D A (wd_f4cd022e h0 v0 h1 v1 t18 (-1) v3 r0 r1 r2 r3 r4 r5 r6 v4 v5 r7 r8 r9 r10 v6 r11 r12 v7 v8 r13 r14 v9 v10 r15 v11 v12 r16 v13 w14 r17 v15 v16 r18 r19 r20 r21 r22 r23 v17 r24 r25 r26 v18 h1 g0 f19) := hD2
              clear hP2 hD2
              refine lv_iadd hx hb dX12_plainNumber_27 ?_
              refine lv_topi (fun t34 et34 => ?_)
              have gt34 : t34.toInt = t32.toInt + ra33.toInt := pv_add (a := t32.toInt) (b := ra33.toInt) et34 rfl rfl (by omega) (by omega)
              refine lv_bipush (v := 48) hx hb dX12_plainNumber_28 (by decide) ?_
              refine lv_isub hx hb dX12_plainNumber_30 ?_
              refine lv_topi (fun t35 et35 => ?_)
              have gt35 : t35.toInt = t34.toInt - 48 := pv_sub (a := t34.toInt) (b := 48) et35 rfl (by decide) (by omega) (by omega)
              refine lv_istore_n (lv' := [(1, .int t35), (2, .int 1), (0, .ref h0)]) hx hb dX12_plainNumber_31 rfl hl (by decide) rfl (fun ls hl => ?_)
              refine lv_aload_n hx hb dX12_plainNumber_32 rfl (lv_at hl 2 rfl) ?_
              refine lv_dup hx hb dX12_plainNumber_33 rfl ?_
              refine va_get (D := (dC, dI)) (ci := 12) (v := .int t18) (C := RX12) (T := TX12) (N := 48) hx hb hts (fun _ h => List.mem_cons_of_mem _ (List.mem_append_right _ h)) hown hK hP 0 rfl rfl 3 (by decide) (hts (.fieldLink RX12 112 "LeftArgumentsModel" "at" "I") (List.mem_cons_of_mem _ (List.mem_append_left _ (List.mem_of_getElem? (i := 1) rfl)))) (fun _ h9 => h9) rfl dX12_plainNumber_34 ?_
              refine lv_iconst (v := 1) hx hb dX12_plainNumber_37 (by decide) ?_
              refine lv_iadd hx hb dX12_plainNumber_38 ?_
              refine lv_topi (fun t36 et36 => ?_)
              have gt36 : t36.toInt = t18.toInt + 1 := pv_add (a := t18.toInt) (b := 1) et36 rfl (by decide) (by omega) (by omega)
              refine va_put (D := (dC, dI)) (ci := 12) (v := .int t36) (ty := .int) (C := RX12) (T := TX12) (N := 48) hx hb hts (fun _ h => List.mem_cons_of_mem _ (List.mem_append_right _ h)) tyX12 tyX12_ok nmX12 hown hK hP hD hS 0 rfl rfl 3 (by decide) (hts (.fieldLink RX12 112 "LeftArgumentsModel" "at" "I") (List.mem_cons_of_mem _ (List.mem_append_left _ (List.mem_of_getElem? (i := 1) rfl)))) (fun _ h9 => h9) rfl (by decide +kernel) rfl rfl (Nat.le_of_ble_eq_true rfl) dX12_plainNumber_39 (fun H locs hP hD hS => ?_)
              have hP : va_P (dC, dI) vwCl (wd_f4cd022e h0 v0 h1 v1 t36 (-1) v3 r0 r1 r2 r3 r4 r5 r6 v4 v5 r7 r8 r9 r10 v6 r11 r12 v7 v8 r13 r14 v9 v10 r15 v11 v12 r16 v13 w14 r17 v15 v16 r18 r19 r20 r21 r22 r23 v17 r24 r25 r26 v18 h1 g0 f19) H := hP
              have hD : va_D A (wd_f4cd022e h0 v0 h1 v1 t36 (-1) v3 r0 r1 r2 r3 r4 r5 r6 v4 v5 r7 r8 r9 r10 v6 r11 r12 v7 v8 r13 r14 v9 v10 r15 v11 v12 r16 v13 w14 r17 v15 v16 r18 r19 r20 r21 r22 r23 v17 r24 r25 r26 v18 h1 g0 f19) := hD
              have hnm : pg_nm f19 v1.toInt 4 v2.toInt = pg_nm f19 v1.toInt 2 t36.toInt := hnm.trans (pg_nm.step (by omega) (by omega) (by omega))
              refine lv_iinc (v := 2) (lv' := [(2, .int 2), (1, .int t35), (0, .ref h0)]) hx hb dX12_plainNumber_42 hl (k := 1) rfl (by decide) (by decide) rfl (fun ls hl => ?_)
              refine lv_goto (tgt := 4) hx hb dX12_plainNumber_45 (by decide) ?_
              refine lv_iload_n hx hb dX12_plainNumber_4 rfl (lv_at hl 0 rfl) ?_
              refine lv_iconst (v := 4) hx hb dX12_plainNumber_5 (by decide) ?_
              refine lv_icmp_ge (tgt := 48) hx hb dX12_plainNumber_6 (by decide) (fun c => absurd c (by decide)) (fun _ => ?_)
              refine lv_aload_n hx hb dX12_plainNumber_9 rfl (lv_at hl 2 rfl) ?_
              have hPc := hP.sub (ws' := (wd_f4cd022e h0 v0 h1 v1 t36 (-1) v3 r0 r1 r2 r3 r4 r5 r6 v4 v5 r7 r8 r9 r10 v6 r11 r12 v7 v8 r13 r14 v9 v10 r15 v11 v12 r16 v13 w14 r17 v15 v16 r18 r19 r20 r21 r22 r23 v17 r24 r25 r26 v18 h1 g0 f19)) [0, 1] rfl
              have hDc := hD.sub (ws' := (wd_f4cd022e h0 v0 h1 v1 t36 (-1) v3 r0 r1 r2 r3 r4 r5 r6 v4 v5 r7 r8 r9 r10 v6 r11 r12 v7 v8 r13 r14 v9 v10 r15 v11 v12 r16 v13 w14 r17 v15 v16 r18 r19 r20 r21 r22 r23 v17 r24 r25 r26 v18 h1 g0 f19)) [0, 1] (by decide) rfl
              have hKc := hK.sub (tys' := [(g0, .int)]) [0] rfl
              have hFc := va_free (wc := (wd_f4cd022e h0 v0 h1 v1 t36 (-1) v3 r0 r1 r2 r3 r4 r5 r6 v4 v5 r7 r8 r9 r10 v6 r11 r12 v7 v8 r13 r14 v9 v10 r15 v11 v12 r16 v13 w14 r17 v15 v16 r18 r19 r20 r21 r22 r23 v17 r24 r25 r26 v18 h1 g0 f19)) hD hS hA [0, 1] rfl
              refine va_calli (va_runV (As := []) (rest := []) ⟨hx, hb, hml, hown, hts⟩ (k_X12_here l dC dI h0 h1 v0 v1 t36 ((-1)) v3 r0 r1 r2 r3 r4 r5 r6 v4 v5 r7 r8 r9 r10 v6 r11 r12 v7 v8 r13 r14 v9 v10 r15 v11 v12 r16 v13 w14 r17 v15 v16 r18 r19 r20 r21 r22 r23 v17 r24 r25 r26 v18 g0 f19 ⟨i_v1a, i_v1b⟩ ⟨by first | omega | decide, by first | omega | decide⟩ ⟨i_v4a, i_v4b⟩ ⟨i_v5a, i_v5b⟩ ⟨i_v6a, i_v6b⟩ ⟨i_v7a, i_v7b⟩ ⟨i_v8a, i_v8b⟩ ⟨i_v9a, i_v9b⟩ ⟨i_v13a, i_v13b⟩ ⟨i_v17a, i_v17b⟩ ⟨i_v18a, i_v18b⟩ ia_f19 H.size) (cwV 0 hts g_X12_plainNumber_0 rfl rfl rfl (by decide +kernel) ⟨Nat.le_of_ble_eq_true rfl, Nat.le_of_ble_eq_true rfl⟩) (pv_PV12 hPc hKc hDc (q0 := 0) rfl) rfl rfl hl.1 rfl (lv_room (Nat.le_of_ble_eq_true rfl)) dX12_plainNumber_10 ⟨Nat.le_of_ble_eq_true rfl, Nat.le_of_ble_eq_true rfl⟩) hS (fun q _ h => hFc q h) hFc (fun ra37 u t H1 locs ht hvm hwra37 hB hz1 hk1 hS => ?_)
              try rw [hwra37] at hB
              have hkra37_0 : (((-1) : Int32)).toInt = -1 := by decide
              rcases hB with hB | hB
              · skip
                obtain ⟨pt0_ra37, pt1_ra37, pt2_ra37, pt3_ra37, hP1, hK1, hD1⟩ := hB
                rw [ht] at hP1
                obtain ⟨hP2, hD2⟩ := va_join (wr := []) (w1 := (wd_f4cd022e h0 v0 h1 v1 t36 (-1) v3 r0 r1 r2 r3 r4 r5 r6 v4 v5 r7 r8 r9 r10 v6 r11 r12 v7 v8 r13 r14 v9 v10 r15 v11 v12 r16 v13 w14 r17 v15 v16 r18 r19 r20 r21 r22 r23 v17 r24 r25 r26 v18 h1 g0 f19)) hP hD [0, 1] [] rfl rfl (by decide) (by decide) hk1 hFc hP1 hD1
                clear hP hD hPc hDc hKc hFc hP1 hK1 hD1 hk1 hz1
                generalize H1 = H at hP2 hS ⊢
                have hP : va_P (dC, dI) vwCl (wd_f4cd022e h0 v0 h1 v1 t36 (-1) v3 r0 r1 r2 r3 r4 r5 r6 v4 v5 r7 r8 r9 r10 v6 r11 r12 v7 v8 r13 r14 v9 v10 r15 v11 v12 r16 v13 w14 r17 v15 v16 r18 r19 r20 r21 r22 r23 v17 r24 r25 r26 v18 h1 g0 f19) H := hP2
                have hD : va_D A (wd_f4cd022e h0 v0 h1 v1 t36 (-1) v3 r0 r1 r2 r3 r4 r5 r6 v4 v5 r7 r8 r9 r10 v6 r11 r12 v7 v8 r13 r14 v9 v10 r15 v11 v12 r16 v13 w14 r17 v15 v16 r18 r19 r20 r21 r22 r23 v17 r24 r25 r26 v18 h1 g0 f19) := hD2
                clear hP2 hD2
                obtain rfl : ra37 = ((-1) : Int32) := pv_cs (by decide) pt0_ra37 pt1_ra37
                have hPc := hP.sub (ws' := []) [] rfl
                have hDc := hD.sub (ws' := []) [] (by decide) rfl
                have hKc := hK.sub (tys' := []) [] rfl
                have hFc := va_free (wc := []) hD hS hA [] rfl
                refine va_calli (va_runS (As := [.int (-1)]) (rest := []) ⟨hx, hb, hml, hown, hts⟩ (k_X12_isDigit l dC dI ((-1))  H.size) (va_cwS 1 hts g_X12_plainNumber_1 rfl rfl rfl (by decide +kernel) ⟨Nat.le_of_ble_eq_true rfl, Nat.le_of_ble_eq_true rfl⟩) (pv_PS hPc hKc hDc) rfl rfl hl.1 rfl (lv_room (Nat.le_of_ble_eq_true rfl)) dX12_plainNumber_13 ⟨Nat.le_of_ble_eq_true rfl, Nat.le_of_ble_eq_true rfl⟩) hS (fun q _ h => hFc q h) hFc (fun ra38 u t H1 locs ht hvm hwra38 hB hz1 hk1 hS => ?_)
                try rw [hwra38] at hB
                have hkra38_0 : (((-1) : Int32)).toInt = -1 := by decide
                obtain ⟨pt0_ra38, pt1_ra38, pt2_ra38, pt3_ra38, pt4_ra38, hP1, hK1, hD1⟩ := hB
                rw [ht] at hP1
                obtain ⟨hP2, hD2⟩ := va_join (wr := (wd_f4cd022e h0 v0 h1 v1 t36 (-1) v3 r0 r1 r2 r3 r4 r5 r6 v4 v5 r7 r8 r9 r10 v6 r11 r12 v7 v8 r13 r14 v9 v10 r15 v11 v12 r16 v13 w14 r17 v15 v16 r18 r19 r20 r21 r22 r23 v17 r24 r25 r26 v18 h1 g0 f19)) (w1 := []) hP hD [] [0, 1] rfl rfl (by decide) (by decide) hk1 hFc hP1 hD1
                clear hP hD hPc hDc hKc hFc hP1 hK1 hD1 hk1 hz1
                generalize H1 = H at hP2 hS ⊢
                have hP : va_P (dC, dI) vwCl (wd_f4cd022e h0 v0 h1 v1 t36 (-1) v3 r0 r1 r2 r3 r4 r5 r6 v4 v5 r7 r8 r9 r10 v6 r11 r12 v7 v8 r13 r14 v9 v10 r15 v11 v12 r16 v13 w14 r17 v15 v16 r18 r19 r20 r21 r22 r23 v17 r24 r25 r26 v18 h1 g0 f19) H := hP2
                have hD : va_D A (wd_f4cd022e h0 v0 h1 v1 t36 (-1) v3 r0 r1 r2 r3 r4 r5 r6 v4 v5 r7 r8 r9 r10 v6 r11 r12 v7 v8 r13 r14 v9 v10 r15 v11 v12 r16 v13 w14 r17 v15 v16 r18 r19 r20 r21 r22 r23 v17 r24 r25 r26 v18 h1 g0 f19) := hD2
                clear hP2 hD2
                refine lv_if_eq (tgt := 48) hx hb dX12_plainNumber_16 (by decide) (fun c39 => ?_) (fun c39 => ?_)
                · skip
                  have fc39 : ra38.toInt = 0 := congrArg Int32.toInt c39
                  refine lv_aload_n hx hb dX12_plainNumber_48 rfl (lv_at hl 2 rfl) ?_
                  have hPc := hP.sub (ws' := (wd_f4cd022e h0 v0 h1 v1 t36 (-1) v3 r0 r1 r2 r3 r4 r5 r6 v4 v5 r7 r8 r9 r10 v6 r11 r12 v7 v8 r13 r14 v9 v10 r15 v11 v12 r16 v13 w14 r17 v15 v16 r18 r19 r20 r21 r22 r23 v17 r24 r25 r26 v18 h1 g0 f19)) [0, 1] rfl
                  have hDc := hD.sub (ws' := (wd_f4cd022e h0 v0 h1 v1 t36 (-1) v3 r0 r1 r2 r3 r4 r5 r6 v4 v5 r7 r8 r9 r10 v6 r11 r12 v7 v8 r13 r14 v9 v10 r15 v11 v12 r16 v13 w14 r17 v15 v16 r18 r19 r20 r21 r22 r23 v17 r24 r25 r26 v18 h1 g0 f19)) [0, 1] (by decide) rfl
                  have hKc := hK.sub (tys' := [(g0, .int)]) [0] rfl
                  have hFc := va_free (wc := (wd_f4cd022e h0 v0 h1 v1 t36 (-1) v3 r0 r1 r2 r3 r4 r5 r6 v4 v5 r7 r8 r9 r10 v6 r11 r12 v7 v8 r13 r14 v9 v10 r15 v11 v12 r16 v13 w14 r17 v15 v16 r18 r19 r20 r21 r22 r23 v17 r24 r25 r26 v18 h1 g0 f19)) hD hS hA [0, 1] rfl
                  refine va_calli (va_runV (As := []) (rest := []) ⟨hx, hb, hml, hown, hts⟩ (k_X12_here l dC dI h0 h1 v0 v1 t36 ((-1)) v3 r0 r1 r2 r3 r4 r5 r6 v4 v5 r7 r8 r9 r10 v6 r11 r12 v7 v8 r13 r14 v9 v10 r15 v11 v12 r16 v13 w14 r17 v15 v16 r18 r19 r20 r21 r22 r23 v17 r24 r25 r26 v18 g0 f19 ⟨i_v1a, i_v1b⟩ ⟨by first | omega | decide, by first | omega | decide⟩ ⟨i_v4a, i_v4b⟩ ⟨i_v5a, i_v5b⟩ ⟨i_v6a, i_v6b⟩ ⟨i_v7a, i_v7b⟩ ⟨i_v8a, i_v8b⟩ ⟨i_v9a, i_v9b⟩ ⟨i_v13a, i_v13b⟩ ⟨i_v17a, i_v17b⟩ ⟨i_v18a, i_v18b⟩ ia_f19 H.size) (cwV 0 hts g_X12_plainNumber_0 rfl rfl rfl (by decide +kernel) ⟨Nat.le_of_ble_eq_true rfl, Nat.le_of_ble_eq_true rfl⟩) (pv_PV12 hPc hKc hDc (q0 := 0) rfl) rfl rfl hl.1 rfl (lv_room (Nat.le_of_ble_eq_true rfl)) dX12_plainNumber_49 ⟨Nat.le_of_ble_eq_true rfl, Nat.le_of_ble_eq_true rfl⟩) hS (fun q _ h => hFc q h) hFc (fun ra40 u t H1 locs ht hvm hwra40 hB hz1 hk1 hS => ?_)
                  try rw [hwra40] at hB
                  have hkra40_0 : (((-1) : Int32)).toInt = -1 := by decide
                  rcases hB with hB | hB
                  · skip
                    obtain ⟨pt0_ra40, pt1_ra40, pt2_ra40, pt3_ra40, hP1, hK1, hD1⟩ := hB
                    rw [ht] at hP1
                    obtain ⟨hP2, hD2⟩ := va_join (wr := []) (w1 := (wd_f4cd022e h0 v0 h1 v1 t36 (-1) v3 r0 r1 r2 r3 r4 r5 r6 v4 v5 r7 r8 r9 r10 v6 r11 r12 v7 v8 r13 r14 v9 v10 r15 v11 v12 r16 v13 w14 r17 v15 v16 r18 r19 r20 r21 r22 r23 v17 r24 r25 r26 v18 h1 g0 f19)) hP hD [0, 1] [] rfl rfl (by decide) (by decide) hk1 hFc hP1 hD1
                    clear hP hD hPc hDc hKc hFc hP1 hK1 hD1 hk1 hz1
                    generalize H1 = H at hP2 hS ⊢
                    have hP : va_P (dC, dI) vwCl (wd_f4cd022e h0 v0 h1 v1 t36 (-1) v3 r0 r1 r2 r3 r4 r5 r6 v4 v5 r7 r8 r9 r10 v6 r11 r12 v7 v8 r13 r14 v9 v10 r15 v11 v12 r16 v13 w14 r17 v15 v16 r18 r19 r20 r21 r22 r23 v17 r24 r25 r26 v18 h1 g0 f19) H := hP2
                    have hD : va_D A (wd_f4cd022e h0 v0 h1 v1 t36 (-1) v3 r0 r1 r2 r3 r4 r5 r6 v4 v5 r7 r8 r9 r10 v6 r11 r12 v7 v8 r13 r14 v9 v10 r15 v11 v12 r16 v13 w14 r17 v15 v16 r18 r19 r20 r21 r22 r23 v17 r24 r25 r26 v18 h1 g0 f19) := hD2
                    clear hP2 hD2
                    obtain rfl : ra40 = ((-1) : Int32) := pv_cs (by decide) pt0_ra40 pt1_ra40
                    have hPc := hP.sub (ws' := []) [] rfl
                    have hDc := hD.sub (ws' := []) [] (by decide) rfl
                    have hKc := hK.sub (tys' := []) [] rfl
                    have hFc := va_free (wc := []) hD hS hA [] rfl
                    refine va_calli (va_runS (As := [.int (-1)]) (rest := []) ⟨hx, hb, hml, hown, hts⟩ (k_X12_isDigit l dC dI ((-1))  H.size) (va_cwS 1 hts g_X12_plainNumber_1 rfl rfl rfl (by decide +kernel) ⟨Nat.le_of_ble_eq_true rfl, Nat.le_of_ble_eq_true rfl⟩) (pv_PS hPc hKc hDc) rfl rfl hl.1 rfl (lv_room (Nat.le_of_ble_eq_true rfl)) dX12_plainNumber_52 ⟨Nat.le_of_ble_eq_true rfl, Nat.le_of_ble_eq_true rfl⟩) hS (fun q _ h => hFc q h) hFc (fun ra41 u t H1 locs ht hvm hwra41 hB hz1 hk1 hS => ?_)
                    try rw [hwra41] at hB
                    have hkra41_0 : (((-1) : Int32)).toInt = -1 := by decide
                    obtain ⟨pt0_ra41, pt1_ra41, pt2_ra41, pt3_ra41, pt4_ra41, hP1, hK1, hD1⟩ := hB
                    rw [ht] at hP1
                    obtain ⟨hP2, hD2⟩ := va_join (wr := (wd_f4cd022e h0 v0 h1 v1 t36 (-1) v3 r0 r1 r2 r3 r4 r5 r6 v4 v5 r7 r8 r9 r10 v6 r11 r12 v7 v8 r13 r14 v9 v10 r15 v11 v12 r16 v13 w14 r17 v15 v16 r18 r19 r20 r21 r22 r23 v17 r24 r25 r26 v18 h1 g0 f19)) (w1 := []) hP hD [] [0, 1] rfl rfl (by decide) (by decide) hk1 hFc hP1 hD1
                    clear hP hD hPc hDc hKc hFc hP1 hK1 hD1 hk1 hz1
                    generalize H1 = H at hP2 hS ⊢
                    have hP : va_P (dC, dI) vwCl (wd_f4cd022e h0 v0 h1 v1 t36 (-1) v3 r0 r1 r2 r3 r4 r5 r6 v4 v5 r7 r8 r9 r10 v6 r11 r12 v7 v8 r13 r14 v9 v10 r15 v11 v12 r16 v13 w14 r17 v15 v16 r18 r19 r20 r21 r22 r23 v17 r24 r25 r26 v18 h1 g0 f19) H := hP2
                    have hD : va_D A (wd_f4cd022e h0 v0 h1 v1 t36 (-1) v3 r0 r1 r2 r3 r4 r5 r6 v4 v5 r7 r8 r9 r10 v6 r11 r12 v7 v8 r13 r14 v9 v10 r15 v11 v12 r16 v13 w14 r17 v15 v16 r18 r19 r20 r21 r22 r23 v17 r24 r25 r26 v18 h1 g0 f19) := hD2
                    clear hP2 hD2
                    refine lv_if_eq (tgt := 62) hx hb dX12_plainNumber_55 (by decide) (fun c42 => ?_) (fun c42 => ?_)
                    · skip
                      have fc42 : ra41.toInt = 0 := congrArg Int32.toInt c42
                      refine lv_iload_n hx hb dX12_plainNumber_62 rfl (lv_at hl 1 rfl) ?_
                      subst hQ
                      have hP9 := hP.sub (ws' := (wd_f4cd022e h0 v0 h1 v1 t36 (-1) v3 r0 r1 r2 r3 r4 r5 r6 v4 v5 r7 r8 r9 r10 v6 r11 r12 v7 v8 r13 r14 v9 v10 r15 v11 v12 r16 v13 w14 r17 v15 v16 r18 r19 r20 r21 r22 r23 v17 r24 r25 r26 v18 h1 g0 f19)) [0, 1] rfl
                      have hD9 := hD.sub (ws' := (wd_f4cd022e h0 v0 h1 v1 t36 (-1) v3 r0 r1 r2 r3 r4 r5 r6 v4 v5 r7 r8 r9 r10 v6 r11 r12 v7 v8 r13 r14 v9 v10 r15 v11 v12 r16 v13 w14 r17 v15 v16 r18 r19 r20 r21 r22 r23 v17 r24 r25 r26 v18 h1 g0 f19)) [0, 1] (by decide) rfl
                      have hK9 := hK.sub (tys' := []) [] rfl
                      exact W.iret (v := t35) hx hb hr (fun t ht hW => ⟨⟨t35, t35, rfl, rfl, Or.inl ⟨t36, by first | omega | decide, by first | omega | decide, by first | omega | decide, by first | omega | decide, by omega, by first | exact hnm.trans (pg_nm.stop (by omega)) | exact hnm.trans (pg_nm.over (by omega) (by omega) (by omega)) | (exfalso; omega), by rw [ht]; exact hP9, va_K.moved hW.alike hK9, hD9⟩⟩, hS.F ht⟩) hS.2.2 dX12_plainNumber_63
                    · skip
                      have fc42 : ¬ (ra41.toInt = 0) := fun h9 => c42 (Int32.toInt_inj.mp h9)
                      exfalso; omega
                  · skip
                    obtain ⟨pt0_ra40, pt1_ra40, pt2_ra40, pt3_ra40, pt4_ra40, hP1, hK1, hD1⟩ := hB
                    rw [ht] at hP1
                    obtain ⟨hP2, hD2⟩ := va_join (wr := []) (w1 := (wd_f4cd022e h0 v0 h1 v1 t36 (-1) v3 r0 r1 r2 r3 r4 r5 r6 v4 v5 r7 r8 r9 r10 v6 r11 r12 v7 v8 r13 r14 v9 v10 r15 v11 v12 r16 v13 w14 r17 v15 v16 r18 r19 r20 r21 r22 r23 v17 r24 r25 r26 v18 h1 g0 f19)) hP hD [0, 1] [] rfl rfl (by decide) (by decide) hk1 hFc hP1 hD1
                    clear hP hD hPc hDc hKc hFc hP1 hK1 hD1 hk1 hz1
                    generalize H1 = H at hP2 hS ⊢
                    have hP : va_P (dC, dI) vwCl (wd_f4cd022e h0 v0 h1 v1 t36 (-1) v3 r0 r1 r2 r3 r4 r5 r6 v4 v5 r7 r8 r9 r10 v6 r11 r12 v7 v8 r13 r14 v9 v10 r15 v11 v12 r16 v13 w14 r17 v15 v16 r18 r19 r20 r21 r22 r23 v17 r24 r25 r26 v18 h1 g0 f19) H := hP2
                    have hD : va_D A (wd_f4cd022e h0 v0 h1 v1 t36 (-1) v3 r0 r1 r2 r3 r4 r5 r6 v4 v5 r7 r8 r9 r10 v6 r11 r12 v7 v8 r13 r14 v9 v10 r15 v11 v12 r16 v13 w14 r17 v15 v16 r18 r19 r20 r21 r22 r23 v17 r24 r25 r26 v18 h1 g0 f19) := hD2
                    clear hP2 hD2
                    exfalso; omega
                · skip
                  have fc39 : ¬ (ra38.toInt = 0) := fun h9 => c39 (Int32.toInt_inj.mp h9)
                  exfalso; omega
              · skip
                obtain ⟨pt0_ra37, pt1_ra37, pt2_ra37, pt3_ra37, pt4_ra37, hP1, hK1, hD1⟩ := hB
                rw [ht] at hP1
                obtain ⟨hP2, hD2⟩ := va_join (wr := []) (w1 := (wd_f4cd022e h0 v0 h1 v1 t36 (-1) v3 r0 r1 r2 r3 r4 r5 r6 v4 v5 r7 r8 r9 r10 v6 r11 r12 v7 v8 r13 r14 v9 v10 r15 v11 v12 r16 v13 w14 r17 v15 v16 r18 r19 r20 r21 r22 r23 v17 r24 r25 r26 v18 h1 g0 f19)) hP hD [0, 1] [] rfl rfl (by decide) (by decide) hk1 hFc hP1 hD1
                clear hP hD hPc hDc hKc hFc hP1 hK1 hD1 hk1 hz1
                generalize H1 = H at hP2 hS ⊢
                have hP : va_P (dC, dI) vwCl (wd_f4cd022e h0 v0 h1 v1 t36 (-1) v3 r0 r1 r2 r3 r4 r5 r6 v4 v5 r7 r8 r9 r10 v6 r11 r12 v7 v8 r13 r14 v9 v10 r15 v11 v12 r16 v13 w14 r17 v15 v16 r18 r19 r20 r21 r22 r23 v17 r24 r25 r26 v18 h1 g0 f19) H := hP2
                have hD : va_D A (wd_f4cd022e h0 v0 h1 v1 t36 (-1) v3 r0 r1 r2 r3 r4 r5 r6 v4 v5 r7 r8 r9 r10 v6 r11 r12 v7 v8 r13 r14 v9 v10 r15 v11 v12 r16 v13 w14 r17 v15 v16 r18 r19 r20 r21 r22 r23 v17 r24 r25 r26 v18 h1 g0 f19) := hD2
                clear hP2 hD2
                have hPc := hP.sub (ws' := []) [] rfl
                have hDc := hD.sub (ws' := []) [] (by decide) rfl
                have hKc := hK.sub (tys' := []) [] rfl
                have hFc := va_free (wc := []) hD hS hA [] rfl
                refine va_calli (va_runS (As := [.int ra37]) (rest := []) ⟨hx, hb, hml, hown, hts⟩ (k_X12_isDigit l dC dI ra37  H.size) (va_cwS 1 hts g_X12_plainNumber_1 rfl rfl rfl (by decide +kernel) ⟨Nat.le_of_ble_eq_true rfl, Nat.le_of_ble_eq_true rfl⟩) (pv_PS hPc hKc hDc) rfl rfl hl.1 rfl (lv_room (Nat.le_of_ble_eq_true rfl)) dX12_plainNumber_13 ⟨Nat.le_of_ble_eq_true rfl, Nat.le_of_ble_eq_true rfl⟩) hS (fun q _ h => hFc q h) hFc (fun ra43 u t H1 locs ht hvm hwra43 hB hz1 hk1 hS => ?_)
                try rw [hwra43] at hB
                obtain ⟨pt0_ra43, pt1_ra43, pt2_ra43, pt3_ra43, pt4_ra43, hP1, hK1, hD1⟩ := hB
                rw [ht] at hP1
                obtain ⟨hP2, hD2⟩ := va_join (wr := (wd_f4cd022e h0 v0 h1 v1 t36 (-1) v3 r0 r1 r2 r3 r4 r5 r6 v4 v5 r7 r8 r9 r10 v6 r11 r12 v7 v8 r13 r14 v9 v10 r15 v11 v12 r16 v13 w14 r17 v15 v16 r18 r19 r20 r21 r22 r23 v17 r24 r25 r26 v18 h1 g0 f19)) (w1 := []) hP hD [] [0, 1] rfl rfl (by decide) (by decide) hk1 hFc hP1 hD1
                clear hP hD hPc hDc hKc hFc hP1 hK1 hD1 hk1 hz1
                generalize H1 = H at hP2 hS ⊢
                have hP : va_P (dC, dI) vwCl (wd_f4cd022e h0 v0 h1 v1 t36 (-1) v3 r0 r1 r2 r3 r4 r5 r6 v4 v5 r7 r8 r9 r10 v6 r11 r12 v7 v8 r13 r14 v9 v10 r15 v11 v12 r16 v13 w14 r17 v15 v16 r18 r19 r20 r21 r22 r23 v17 r24 r25 r26 v18 h1 g0 f19) H := hP2
                have hD : va_D A (wd_f4cd022e h0 v0 h1 v1 t36 (-1) v3 r0 r1 r2 r3 r4 r5 r6 v4 v5 r7 r8 r9 r10 v6 r11 r12 v7 v8 r13 r14 v9 v10 r15 v11 v12 r16 v13 w14 r17 v15 v16 r18 r19 r20 r21 r22 r23 v17 r24 r25 r26 v18 h1 g0 f19) := hD2
                clear hP2 hD2
                refine lv_if_eq (tgt := 48) hx hb dX12_plainNumber_16 (by decide) (fun c44 => ?_) (fun c44 => ?_)
                · skip
                  have fc44 : ra43.toInt = 0 := congrArg Int32.toInt c44
                  refine lv_aload_n hx hb dX12_plainNumber_48 rfl (lv_at hl 2 rfl) ?_
                  have hPc := hP.sub (ws' := (wd_f4cd022e h0 v0 h1 v1 t36 (-1) v3 r0 r1 r2 r3 r4 r5 r6 v4 v5 r7 r8 r9 r10 v6 r11 r12 v7 v8 r13 r14 v9 v10 r15 v11 v12 r16 v13 w14 r17 v15 v16 r18 r19 r20 r21 r22 r23 v17 r24 r25 r26 v18 h1 g0 f19)) [0, 1] rfl
                  have hDc := hD.sub (ws' := (wd_f4cd022e h0 v0 h1 v1 t36 (-1) v3 r0 r1 r2 r3 r4 r5 r6 v4 v5 r7 r8 r9 r10 v6 r11 r12 v7 v8 r13 r14 v9 v10 r15 v11 v12 r16 v13 w14 r17 v15 v16 r18 r19 r20 r21 r22 r23 v17 r24 r25 r26 v18 h1 g0 f19)) [0, 1] (by decide) rfl
                  have hKc := hK.sub (tys' := [(g0, .int)]) [0] rfl
                  have hFc := va_free (wc := (wd_f4cd022e h0 v0 h1 v1 t36 (-1) v3 r0 r1 r2 r3 r4 r5 r6 v4 v5 r7 r8 r9 r10 v6 r11 r12 v7 v8 r13 r14 v9 v10 r15 v11 v12 r16 v13 w14 r17 v15 v16 r18 r19 r20 r21 r22 r23 v17 r24 r25 r26 v18 h1 g0 f19)) hD hS hA [0, 1] rfl
                  refine va_calli (va_runV (As := []) (rest := []) ⟨hx, hb, hml, hown, hts⟩ (k_X12_here l dC dI h0 h1 v0 v1 t36 ((-1)) v3 r0 r1 r2 r3 r4 r5 r6 v4 v5 r7 r8 r9 r10 v6 r11 r12 v7 v8 r13 r14 v9 v10 r15 v11 v12 r16 v13 w14 r17 v15 v16 r18 r19 r20 r21 r22 r23 v17 r24 r25 r26 v18 g0 f19 ⟨i_v1a, i_v1b⟩ ⟨by first | omega | decide, by first | omega | decide⟩ ⟨i_v4a, i_v4b⟩ ⟨i_v5a, i_v5b⟩ ⟨i_v6a, i_v6b⟩ ⟨i_v7a, i_v7b⟩ ⟨i_v8a, i_v8b⟩ ⟨i_v9a, i_v9b⟩ ⟨i_v13a, i_v13b⟩ ⟨i_v17a, i_v17b⟩ ⟨i_v18a, i_v18b⟩ ia_f19 H.size) (cwV 0 hts g_X12_plainNumber_0 rfl rfl rfl (by decide +kernel) ⟨Nat.le_of_ble_eq_true rfl, Nat.le_of_ble_eq_true rfl⟩) (pv_PV12 hPc hKc hDc (q0 := 0) rfl) rfl rfl hl.1 rfl (lv_room (Nat.le_of_ble_eq_true rfl)) dX12_plainNumber_49 ⟨Nat.le_of_ble_eq_true rfl, Nat.le_of_ble_eq_true rfl⟩) hS (fun q _ h => hFc q h) hFc (fun ra45 u t H1 locs ht hvm hwra45 hB hz1 hk1 hS => ?_)
                  try rw [hwra45] at hB
                  have hkra45_0 : (((-1) : Int32)).toInt = -1 := by decide
                  rcases hB with hB | hB
                  · skip
                    obtain ⟨pt0_ra45, pt1_ra45, pt2_ra45, pt3_ra45, hP1, hK1, hD1⟩ := hB
                    rw [ht] at hP1
                    obtain ⟨hP2, hD2⟩ := va_join (wr := []) (w1 := (wd_f4cd022e h0 v0 h1 v1 t36 (-1) v3 r0 r1 r2 r3 r4 r5 r6 v4 v5 r7 r8 r9 r10 v6 r11 r12 v7 v8 r13 r14 v9 v10 r15 v11 v12 r16 v13 w14 r17 v15 v16 r18 r19 r20 r21 r22 r23 v17 r24 r25 r26 v18 h1 g0 f19)) hP hD [0, 1] [] rfl rfl (by decide) (by decide) hk1 hFc hP1 hD1
                    clear hP hD hPc hDc hKc hFc hP1 hK1 hD1 hk1 hz1
                    generalize H1 = H at hP2 hS ⊢
                    have hP : va_P (dC, dI) vwCl (wd_f4cd022e h0 v0 h1 v1 t36 (-1) v3 r0 r1 r2 r3 r4 r5 r6 v4 v5 r7 r8 r9 r10 v6 r11 r12 v7 v8 r13 r14 v9 v10 r15 v11 v12 r16 v13 w14 r17 v15 v16 r18 r19 r20 r21 r22 r23 v17 r24 r25 r26 v18 h1 g0 f19) H := hP2
                    have hD : va_D A (wd_f4cd022e h0 v0 h1 v1 t36 (-1) v3 r0 r1 r2 r3 r4 r5 r6 v4 v5 r7 r8 r9 r10 v6 r11 r12 v7 v8 r13 r14 v9 v10 r15 v11 v12 r16 v13 w14 r17 v15 v16 r18 r19 r20 r21 r22 r23 v17 r24 r25 r26 v18 h1 g0 f19) := hD2
                    clear hP2 hD2
                    obtain rfl : ra45 = ((-1) : Int32) := pv_cs (by decide) pt0_ra45 pt1_ra45
                    exfalso; omega
                  · skip
                    obtain ⟨pt0_ra45, pt1_ra45, pt2_ra45, pt3_ra45, pt4_ra45, hP1, hK1, hD1⟩ := hB
                    rw [ht] at hP1
                    obtain ⟨hP2, hD2⟩ := va_join (wr := []) (w1 := (wd_f4cd022e h0 v0 h1 v1 t36 (-1) v3 r0 r1 r2 r3 r4 r5 r6 v4 v5 r7 r8 r9 r10 v6 r11 r12 v7 v8 r13 r14 v9 v10 r15 v11 v12 r16 v13 w14 r17 v15 v16 r18 r19 r20 r21 r22 r23 v17 r24 r25 r26 v18 h1 g0 f19)) hP hD [0, 1] [] rfl rfl (by decide) (by decide) hk1 hFc hP1 hD1
                    clear hP hD hPc hDc hKc hFc hP1 hK1 hD1 hk1 hz1
                    generalize H1 = H at hP2 hS ⊢
                    have hP : va_P (dC, dI) vwCl (wd_f4cd022e h0 v0 h1 v1 t36 (-1) v3 r0 r1 r2 r3 r4 r5 r6 v4 v5 r7 r8 r9 r10 v6 r11 r12 v7 v8 r13 r14 v9 v10 r15 v11 v12 r16 v13 w14 r17 v15 v16 r18 r19 r20 r21 r22 r23 v17 r24 r25 r26 v18 h1 g0 f19) H := hP2
                    have hD : va_D A (wd_f4cd022e h0 v0 h1 v1 t36 (-1) v3 r0 r1 r2 r3 r4 r5 r6 v4 v5 r7 r8 r9 r10 v6 r11 r12 v7 v8 r13 r14 v9 v10 r15 v11 v12 r16 v13 w14 r17 v15 v16 r18 r19 r20 r21 r22 r23 v17 r24 r25 r26 v18 h1 g0 f19) := hD2
                    clear hP2 hD2
                    have hPc := hP.sub (ws' := []) [] rfl
                    have hDc := hD.sub (ws' := []) [] (by decide) rfl
                    have hKc := hK.sub (tys' := []) [] rfl
                    have hFc := va_free (wc := []) hD hS hA [] rfl
                    refine va_calli (va_runS (As := [.int ra45]) (rest := []) ⟨hx, hb, hml, hown, hts⟩ (k_X12_isDigit l dC dI ra45  H.size) (va_cwS 1 hts g_X12_plainNumber_1 rfl rfl rfl (by decide +kernel) ⟨Nat.le_of_ble_eq_true rfl, Nat.le_of_ble_eq_true rfl⟩) (pv_PS hPc hKc hDc) rfl rfl hl.1 rfl (lv_room (Nat.le_of_ble_eq_true rfl)) dX12_plainNumber_52 ⟨Nat.le_of_ble_eq_true rfl, Nat.le_of_ble_eq_true rfl⟩) hS (fun q _ h => hFc q h) hFc (fun ra46 u t H1 locs ht hvm hwra46 hB hz1 hk1 hS => ?_)
                    try rw [hwra46] at hB
                    obtain ⟨pt0_ra46, pt1_ra46, pt2_ra46, pt3_ra46, pt4_ra46, hP1, hK1, hD1⟩ := hB
                    rw [ht] at hP1
                    obtain ⟨hP2, hD2⟩ := va_join (wr := (wd_f4cd022e h0 v0 h1 v1 t36 (-1) v3 r0 r1 r2 r3 r4 r5 r6 v4 v5 r7 r8 r9 r10 v6 r11 r12 v7 v8 r13 r14 v9 v10 r15 v11 v12 r16 v13 w14 r17 v15 v16 r18 r19 r20 r21 r22 r23 v17 r24 r25 r26 v18 h1 g0 f19)) (w1 := []) hP hD [] [0, 1] rfl rfl (by decide) (by decide) hk1 hFc hP1 hD1
                    clear hP hD hPc hDc hKc hFc hP1 hK1 hD1 hk1 hz1
                    generalize H1 = H at hP2 hS ⊢
                    have hP : va_P (dC, dI) vwCl (wd_f4cd022e h0 v0 h1 v1 t36 (-1) v3 r0 r1 r2 r3 r4 r5 r6 v4 v5 r7 r8 r9 r10 v6 r11 r12 v7 v8 r13 r14 v9 v10 r15 v11 v12 r16 v13 w14 r17 v15 v16 r18 r19 r20 r21 r22 r23 v17 r24 r25 r26 v18 h1 g0 f19) H := hP2
                    have hD : va_D A (wd_f4cd022e h0 v0 h1 v1 t36 (-1) v3 r0 r1 r2 r3 r4 r5 r6 v4 v5 r7 r8 r9 r10 v6 r11 r12 v7 v8 r13 r14 v9 v10 r15 v11 v12 r16 v13 w14 r17 v15 v16 r18 r19 r20 r21 r22 r23 v17 r24 r25 r26 v18 h1 g0 f19) := hD2
                    clear hP2 hD2
                    refine lv_if_eq (tgt := 62) hx hb dX12_plainNumber_55 (by decide) (fun c47 => ?_) (fun c47 => ?_)
                    · skip
                      have fc47 : ra46.toInt = 0 := congrArg Int32.toInt c47
                      refine lv_iload_n hx hb dX12_plainNumber_62 rfl (lv_at hl 1 rfl) ?_
                      subst hQ
                      have hP9 := hP.sub (ws' := (wd_f4cd022e h0 v0 h1 v1 t36 (-1) v3 r0 r1 r2 r3 r4 r5 r6 v4 v5 r7 r8 r9 r10 v6 r11 r12 v7 v8 r13 r14 v9 v10 r15 v11 v12 r16 v13 w14 r17 v15 v16 r18 r19 r20 r21 r22 r23 v17 r24 r25 r26 v18 h1 g0 f19)) [0, 1] rfl
                      have hD9 := hD.sub (ws' := (wd_f4cd022e h0 v0 h1 v1 t36 (-1) v3 r0 r1 r2 r3 r4 r5 r6 v4 v5 r7 r8 r9 r10 v6 r11 r12 v7 v8 r13 r14 v9 v10 r15 v11 v12 r16 v13 w14 r17 v15 v16 r18 r19 r20 r21 r22 r23 v17 r24 r25 r26 v18 h1 g0 f19)) [0, 1] (by decide) rfl
                      have hK9 := hK.sub (tys' := []) [] rfl
                      exact W.iret (v := t35) hx hb hr (fun t ht hW => ⟨⟨t35, t35, rfl, rfl, Or.inl ⟨t36, by first | omega | decide, by first | omega | decide, by first | omega | decide, by first | omega | decide, by omega, by first | exact hnm.trans (pg_nm.stop (by omega)) | exact hnm.trans (pg_nm.over (by omega) (by omega) (by omega)) | (exfalso; omega), by rw [ht]; exact hP9, va_K.moved hW.alike hK9, hD9⟩⟩, hS.F ht⟩) hS.2.2 dX12_plainNumber_63
                    · skip
                      have fc47 : ¬ (ra46.toInt = 0) := fun h9 => c47 (Int32.toInt_inj.mp h9)
                      refine lv_aload_n hx hb dX12_plainNumber_58 rfl (lv_at hl 2 rfl) ?_
                      have hPc := hP.sub (ws' := (wd_171f232f h0 v0 h1 v1 t36 (-1) v3 r0 r1 r2 r3 r4 r5 r6 v4 v5 r7 r8 r9 r10 v6 r11 r12 v7 v8 r13 r14 v9 v10 r15 v11 v12 r16 v13 w14 r17 v15 v16 r18 r19 r20 r21 r22 r23 v17 r24 r25 r26 v18)) [0] rfl
                      have hDc := hD.sub (ws' := (wd_171f232f h0 v0 h1 v1 t36 (-1) v3 r0 r1 r2 r3 r4 r5 r6 v4 v5 r7 r8 r9 r10 v6 r11 r12 v7 v8 r13 r14 v9 v10 r15 v11 v12 r16 v13 w14 r17 v15 v16 r18 r19 r20 r21 r22 r23 v17 r24 r25 r26 v18)) [0] (by decide) rfl
                      have hKc := hK.sub (tys' := []) [] rfl
                      have hFc := va_free (wc := (wd_171f232f h0 v0 h1 v1 t36 (-1) v3 r0 r1 r2 r3 r4 r5 r6 v4 v5 r7 r8 r9 r10 v6 r11 r12 v7 v8 r13 r14 v9 v10 r15 v11 v12 r16 v13 w14 r17 v15 v16 r18 r19 r20 r21 r22 r23 v17 r24 r25 r26 v18)) hD hS hA [0] rfl
                      refine va_callv (va_runV (As := []) (rest := []) ⟨hx, hb, hml, hown, hts⟩ (k_X12_bad l dC dI h0 v0 h1 v1 t36 v3 r0 r1 r2 r3 r4 r5 r6 v4 v5 r7 r8 r9 r10 v6 r11 r12 v7 v8 r13 r14 v9 v10 r15 v11 v12 r16 v13 w14 r17 v15 v16 r18 r19 r20 r21 r22 r23 v17 r24 r25 r26 v18 ⟨i_v1a, i_v1b⟩ ⟨by first | omega | decide, by first | omega | decide⟩ ⟨i_v4a, i_v4b⟩ ⟨i_v5a, i_v5b⟩ ⟨i_v6a, i_v6b⟩ ⟨i_v7a, i_v7b⟩ ⟨i_v8a, i_v8b⟩ ⟨i_v9a, i_v9b⟩ ⟨i_v13a, i_v13b⟩ ⟨i_v17a, i_v17b⟩ ⟨i_v18a, i_v18b⟩ H.size) (cwV 0 hts g_X12_plainNumber_7 rfl rfl rfl (by decide +kernel) ⟨Nat.le_of_ble_eq_true rfl, Nat.le_of_ble_eq_true rfl⟩) (pv_PV12 hPc hKc hDc (q0 := 0) rfl) rfl rfl hl.1 rfl (lv_room (Nat.le_of_ble_eq_true rfl)) dX12_plainNumber_59 ⟨Nat.le_of_ble_eq_true rfl, Nat.le_of_ble_eq_true rfl⟩) hS (fun q _ h => hFc q h) hFc (fun u t H1 locs ht hvm hwra48 hB hz1 hk1 hS => ?_)
                      obtain ⟨x49, oa_x49, ob_x49, pt0_ra48, hP1, hK1, hD1⟩ := hB
                      rw [ht] at hP1
                      obtain ⟨hP2, hD2⟩ := va_join (wr := (wd_d0032b31 h1 g0 f19)) (w1 := (wd_171f232f h0 v0 h1 v1 t36 x49 v3 r0 r1 r2 r3 r4 r5 r6 v4 v5 r7 r8 r9 r10 v6 r11 r12 v7 v8 r13 r14 v9 v10 r15 v11 v12 r16 v13 w14 r17 v15 v16 r18 r19 r20 r21 r22 r23 v17 r24 r25 r26 v18)) hP hD [0] [1] rfl rfl (by decide) (by decide) hk1 hFc hP1 hD1
                      clear hP hD hPc hDc hKc hFc hP1 hK1 hD1 hk1 hz1
                      generalize H1 = H at hP2 hS ⊢
                      have hP := hP2.sub (ws' := (wd_f4cd022e h0 v0 h1 v1 t36 x49 v3 r0 r1 r2 r3 r4 r5 r6 v4 v5 r7 r8 r9 r10 v6 r11 r12 v7 v8 r13 r14 v9 v10 r15 v11 v12 r16 v13 w14 r17 v15 v16 r18 r19 r20 r21 r22 r23 v17 r24 r25 r26 v18 h1 g0 f19)) [1, 0] rfl
                      have hD := hD2.sub (ws' := (wd_f4cd022e h0 v0 h1 v1 t36 x49 v3 r0 r1 r2 r3 r4 r5 r6 v4 v5 r7 r8 r9 r10 v6 r11 r12 v7 v8 r13 r14 v9 v10 r15 v11 v12 r16 v13 w14 r17 v15 v16 r18 r19 r20 r21 r22 r23 v17 r24 r25 r26 v18 h1 g0 f19)) [1, 0] (by decide) rfl
                      clear hP2 hD2
                      refine lv_iload_n hx hb dX12_plainNumber_62 rfl (lv_at hl 1 rfl) ?_
                      subst hQ
                      have hP9 := hP.sub (ws' := (wd_f4cd022e h0 v0 h1 v1 t36 x49 v3 r0 r1 r2 r3 r4 r5 r6 v4 v5 r7 r8 r9 r10 v6 r11 r12 v7 v8 r13 r14 v9 v10 r15 v11 v12 r16 v13 w14 r17 v15 v16 r18 r19 r20 r21 r22 r23 v17 r24 r25 r26 v18 h1 g0 f19)) [0, 1] rfl
                      have hD9 := hD.sub (ws' := (wd_f4cd022e h0 v0 h1 v1 t36 x49 v3 r0 r1 r2 r3 r4 r5 r6 v4 v5 r7 r8 r9 r10 v6 r11 r12 v7 v8 r13 r14 v9 v10 r15 v11 v12 r16 v13 w14 r17 v15 v16 r18 r19 r20 r21 r22 r23 v17 r24 r25 r26 v18 h1 g0 f19)) [0, 1] (by decide) rfl
                      have hK9 := hK.sub (tys' := []) [] rfl
                      exact W.iret (v := t35) hx hb hr (fun t ht hW => ⟨⟨t35, t35, rfl, rfl, Or.inr (⟨t36, x49, by first | omega | decide, by first | omega | decide, oa_x49, ob_x49, by first | omega | decide, by first | omega | decide, by omega, by first | exact hnm.trans (pg_nm.stop (by omega)) | exact hnm.trans (pg_nm.over (by omega) (by omega) (by omega)) | (exfalso; omega), by rw [ht]; exact hP9, va_K.moved hW.alike hK9, hD9⟩)⟩, hS.F ht⟩) hS.2.2 dX12_plainNumber_63
                · skip
                  have fc44 : ¬ (ra43.toInt = 0) := fun h9 => c44 (Int32.toInt_inj.mp h9)
                  refine lv_bipush (v := 10) hx hb dX12_plainNumber_19 (by decide) ?_
                  refine lv_iload_n hx hb dX12_plainNumber_21 rfl (lv_at hl 1 rfl) ?_
                  refine lv_imul hx hb dX12_plainNumber_22 ?_
                  refine lv_topi (fun t50 et50 => ?_)
                  have gt50 : t50.toInt = 10 * t35.toInt := pv_mul (a := 10) (b := t35.toInt) et50 (by decide) rfl (by omega) (by omega)
                  refine lv_aload_n hx hb dX12_plainNumber_23 rfl (lv_at hl 2 rfl) ?_
                  have hPc := hP.sub (ws' := (wd_f4cd022e h0 v0 h1 v1 t36 (-1) v3 r0 r1 r2 r3 r4 r5 r6 v4 v5 r7 r8 r9 r10 v6 r11 r12 v7 v8 r13 r14 v9 v10 r15 v11 v12 r16 v13 w14 r17 v15 v16 r18 r19 r20 r21 r22 r23 v17 r24 r25 r26 v18 h1 g0 f19)) [0, 1] rfl
                  have hDc := hD.sub (ws' := (wd_f4cd022e h0 v0 h1 v1 t36 (-1) v3 r0 r1 r2 r3 r4 r5 r6 v4 v5 r7 r8 r9 r10 v6 r11 r12 v7 v8 r13 r14 v9 v10 r15 v11 v12 r16 v13 w14 r17 v15 v16 r18 r19 r20 r21 r22 r23 v17 r24 r25 r26 v18 h1 g0 f19)) [0, 1] (by decide) rfl
                  have hKc := hK.sub (tys' := [(g0, .int)]) [0] rfl
                  have hFc := va_free (wc := (wd_f4cd022e h0 v0 h1 v1 t36 (-1) v3 r0 r1 r2 r3 r4 r5 r6 v4 v5 r7 r8 r9 r10 v6 r11 r12 v7 v8 r13 r14 v9 v10 r15 v11 v12 r16 v13 w14 r17 v15 v16 r18 r19 r20 r21 r22 r23 v17 r24 r25 r26 v18 h1 g0 f19)) hD hS hA [0, 1] rfl
                  refine va_calli (va_runV (As := []) (rest := [.int t50]) ⟨hx, hb, hml, hown, hts⟩ (k_X12_here l dC dI h0 h1 v0 v1 t36 ((-1)) v3 r0 r1 r2 r3 r4 r5 r6 v4 v5 r7 r8 r9 r10 v6 r11 r12 v7 v8 r13 r14 v9 v10 r15 v11 v12 r16 v13 w14 r17 v15 v16 r18 r19 r20 r21 r22 r23 v17 r24 r25 r26 v18 g0 f19 ⟨i_v1a, i_v1b⟩ ⟨by first | omega | decide, by first | omega | decide⟩ ⟨i_v4a, i_v4b⟩ ⟨i_v5a, i_v5b⟩ ⟨i_v6a, i_v6b⟩ ⟨i_v7a, i_v7b⟩ ⟨i_v8a, i_v8b⟩ ⟨i_v9a, i_v9b⟩ ⟨i_v13a, i_v13b⟩ ⟨i_v17a, i_v17b⟩ ⟨i_v18a, i_v18b⟩ ia_f19 H.size) (cwV 0 hts g_X12_plainNumber_0 rfl rfl rfl (by decide +kernel) ⟨Nat.le_of_ble_eq_true rfl, Nat.le_of_ble_eq_true rfl⟩) (pv_PV12 hPc hKc hDc (q0 := 0) rfl) rfl rfl hl.1 rfl (lv_room (Nat.le_of_ble_eq_true rfl)) dX12_plainNumber_24 ⟨Nat.le_of_ble_eq_true rfl, Nat.le_of_ble_eq_true rfl⟩) hS (fun q _ h => hFc q h) hFc (fun ra51 u t H1 locs ht hvm hwra51 hB hz1 hk1 hS => ?_)
                  try rw [hwra51] at hB
                  have hkra51_0 : (((-1) : Int32)).toInt = -1 := by decide
                  rcases hB with hB | hB
                  · skip
                    obtain ⟨pt0_ra51, pt1_ra51, pt2_ra51, pt3_ra51, hP1, hK1, hD1⟩ := hB
                    rw [ht] at hP1
                    obtain ⟨hP2, hD2⟩ := va_join (wr := []) (w1 := (wd_f4cd022e h0 v0 h1 v1 t36 (-1) v3 r0 r1 r2 r3 r4 r5 r6 v4 v5 r7 r8 r9 r10 v6 r11 r12 v7 v8 r13 r14 v9 v10 r15 v11 v12 r16 v13 w14 r17 v15 v16 r18 r19 r20 r21 r22 r23 v17 r24 r25 r26 v18 h1 g0 f19)) hP hD [0, 1] [] rfl rfl (by decide) (by decide) hk1 hFc hP1 hD1
                    clear hP hD hPc hDc hKc hFc hP1 hK1 hD1 hk1 hz1
                    generalize H1 = H at hP2 hS ⊢
                    have hP : va_P (dC, dI) vwCl (wd_f4cd022e h0 v0 h1 v1 t36 (-1) v3 r0 r1 r2 r3 r4 r5 r6 v4 v5 r7 r8 r9 r10 v6 r11 r12 v7 v8 r13 r14 v9 v10 r15 v11 v12 r16 v13 w14 r17 v15 v16 r18 r19 r20 r21 r22 r23 v17 r24 r25 r26 v18 h1 g0 f19) H := hP2
                    have hD : va_D A (wd_f4cd022e h0 v0 h1 v1 t36 (-1) v3 r0 r1 r2 r3 r4 r5 r6 v4 v5 r7 r8 r9 r10 v6 r11 r12 v7 v8 r13 r14 v9 v10 r15 v11 v12 r16 v13 w14 r17 v15 v16 r18 r19 r20 r21 r22 r23 v17 r24 r25 r26 v18 h1 g0 f19) := hD2
                    clear hP2 hD2
                    obtain rfl : ra51 = ((-1) : Int32) := pv_cs (by decide) pt0_ra51 pt1_ra51
                    exfalso; omega
                  · skip
                    obtain ⟨pt0_ra51, pt1_ra51, pt2_ra51, pt3_ra51, pt4_ra51, hP1, hK1, hD1⟩ := hB
                    rw [ht] at hP1
                    obtain ⟨hP2, hD2⟩ := va_join (wr := []) (w1 := (wd_f4cd022e h0 v0 h1 v1 t36 (-1) v3 r0 r1 r2 r3 r4 r5 r6 v4 v5 r7 r8 r9 r10 v6 r11 r12 v7 v8 r13 r14 v9 v10 r15 v11 v12 r16 v13 w14 r17 v15 v16 r18 r19 r20 r21 r22 r23 v17 r24 r25 r26 v18 h1 g0 f19)) hP hD [0, 1] [] rfl rfl (by decide) (by decide) hk1 hFc hP1 hD1
                    clear hP hD hPc hDc hKc hFc hP1 hK1 hD1 hk1 hz1
                    generalize H1 = H at hP2 hS ⊢
                    have hP : va_P (dC, dI) vwCl (wd_f4cd022e h0 v0 h1 v1 t36 (-1) v3 r0 r1 r2 r3 r4 r5 r6 v4 v5 r7 r8 r9 r10 v6 r11 r12 v7 v8 r13 r14 v9 v10 r15 v11 v12 r16 v13 w14 r17 v15 v16 r18 r19 r20 r21 r22 r23 v17 r24 r25 r26 v18 h1 g0 f19) H := hP2
                    have hD : va_D A (wd_f4cd022e h0 v0 h1 v1 t36 (-1) v3 r0 r1 r2 r3 r4 r5 r6 v4 v5 r7 r8 r9 r10 v6 r11 r12 v7 v8 r13 r14 v9 v10 r15 v11 v12 r16 v13 w14 r17 v15 v16 r18 r19 r20 r21 r22 r23 v17 r24 r25 r26 v18 h1 g0 f19) := hD2
                    clear hP2 hD2
                    refine lv_iadd hx hb dX12_plainNumber_27 ?_
                    refine lv_topi (fun t52 et52 => ?_)
                    have gt52 : t52.toInt = t50.toInt + ra51.toInt := pv_add (a := t50.toInt) (b := ra51.toInt) et52 rfl rfl (by omega) (by omega)
                    refine lv_bipush (v := 48) hx hb dX12_plainNumber_28 (by decide) ?_
                    refine lv_isub hx hb dX12_plainNumber_30 ?_
                    refine lv_topi (fun t53 et53 => ?_)
                    have gt53 : t53.toInt = t52.toInt - 48 := pv_sub (a := t52.toInt) (b := 48) et53 rfl (by decide) (by omega) (by omega)
                    refine lv_istore_n (lv' := [(1, .int t53), (2, .int 2), (0, .ref h0)]) hx hb dX12_plainNumber_31 rfl hl (by decide) rfl (fun ls hl => ?_)
                    refine lv_aload_n hx hb dX12_plainNumber_32 rfl (lv_at hl 2 rfl) ?_
                    refine lv_dup hx hb dX12_plainNumber_33 rfl ?_
                    refine va_get (D := (dC, dI)) (ci := 12) (v := .int t36) (C := RX12) (T := TX12) (N := 48) hx hb hts (fun _ h => List.mem_cons_of_mem _ (List.mem_append_right _ h)) hown hK hP 0 rfl rfl 3 (by decide) (hts (.fieldLink RX12 112 "LeftArgumentsModel" "at" "I") (List.mem_cons_of_mem _ (List.mem_append_left _ (List.mem_of_getElem? (i := 1) rfl)))) (fun _ h9 => h9) rfl dX12_plainNumber_34 ?_
                    refine lv_iconst (v := 1) hx hb dX12_plainNumber_37 (by decide) ?_
                    refine lv_iadd hx hb dX12_plainNumber_38 ?_
                    refine lv_topi (fun t54 et54 => ?_)
                    have gt54 : t54.toInt = t36.toInt + 1 := pv_add (a := t36.toInt) (b := 1) et54 rfl (by decide) (by omega) (by omega)
                    refine va_put (D := (dC, dI)) (ci := 12) (v := .int t54) (ty := .int) (C := RX12) (T := TX12) (N := 48) hx hb hts (fun _ h => List.mem_cons_of_mem _ (List.mem_append_right _ h)) tyX12 tyX12_ok nmX12 hown hK hP hD hS 0 rfl rfl 3 (by decide) (hts (.fieldLink RX12 112 "LeftArgumentsModel" "at" "I") (List.mem_cons_of_mem _ (List.mem_append_left _ (List.mem_of_getElem? (i := 1) rfl)))) (fun _ h9 => h9) rfl (by decide +kernel) rfl rfl (Nat.le_of_ble_eq_true rfl) dX12_plainNumber_39 (fun H locs hP hD hS => ?_)
                    have hP : va_P (dC, dI) vwCl (wd_f4cd022e h0 v0 h1 v1 t54 (-1) v3 r0 r1 r2 r3 r4 r5 r6 v4 v5 r7 r8 r9 r10 v6 r11 r12 v7 v8 r13 r14 v9 v10 r15 v11 v12 r16 v13 w14 r17 v15 v16 r18 r19 r20 r21 r22 r23 v17 r24 r25 r26 v18 h1 g0 f19) H := hP
                    have hD : va_D A (wd_f4cd022e h0 v0 h1 v1 t54 (-1) v3 r0 r1 r2 r3 r4 r5 r6 v4 v5 r7 r8 r9 r10 v6 r11 r12 v7 v8 r13 r14 v9 v10 r15 v11 v12 r16 v13 w14 r17 v15 v16 r18 r19 r20 r21 r22 r23 v17 r24 r25 r26 v18 h1 g0 f19) := hD
                    have hnm : pg_nm f19 v1.toInt 4 v2.toInt = pg_nm f19 v1.toInt 1 t54.toInt := hnm.trans (pg_nm.step (by omega) (by omega) (by omega))
                    refine lv_iinc (v := 3) (lv' := [(2, .int 3), (1, .int t53), (0, .ref h0)]) hx hb dX12_plainNumber_42 hl (k := 1) rfl (by decide) (by decide) rfl (fun ls hl => ?_)
                    refine lv_goto (tgt := 4) hx hb dX12_plainNumber_45 (by decide) ?_
                    refine lv_iload_n hx hb dX12_plainNumber_4 rfl (lv_at hl 0 rfl) ?_
                    refine lv_iconst (v := 4) hx hb dX12_plainNumber_5 (by decide) ?_
                    refine lv_icmp_ge (tgt := 48) hx hb dX12_plainNumber_6 (by decide) (fun c => absurd c (by decide)) (fun _ => ?_)
                    refine lv_aload_n hx hb dX12_plainNumber_9 rfl (lv_at hl 2 rfl) ?_
                    have hPc := hP.sub (ws' := (wd_f4cd022e h0 v0 h1 v1 t54 (-1) v3 r0 r1 r2 r3 r4 r5 r6 v4 v5 r7 r8 r9 r10 v6 r11 r12 v7 v8 r13 r14 v9 v10 r15 v11 v12 r16 v13 w14 r17 v15 v16 r18 r19 r20 r21 r22 r23 v17 r24 r25 r26 v18 h1 g0 f19)) [0, 1] rfl
                    have hDc := hD.sub (ws' := (wd_f4cd022e h0 v0 h1 v1 t54 (-1) v3 r0 r1 r2 r3 r4 r5 r6 v4 v5 r7 r8 r9 r10 v6 r11 r12 v7 v8 r13 r14 v9 v10 r15 v11 v12 r16 v13 w14 r17 v15 v16 r18 r19 r20 r21 r22 r23 v17 r24 r25 r26 v18 h1 g0 f19)) [0, 1] (by decide) rfl
                    have hKc := hK.sub (tys' := [(g0, .int)]) [0] rfl
                    have hFc := va_free (wc := (wd_f4cd022e h0 v0 h1 v1 t54 (-1) v3 r0 r1 r2 r3 r4 r5 r6 v4 v5 r7 r8 r9 r10 v6 r11 r12 v7 v8 r13 r14 v9 v10 r15 v11 v12 r16 v13 w14 r17 v15 v16 r18 r19 r20 r21 r22 r23 v17 r24 r25 r26 v18 h1 g0 f19)) hD hS hA [0, 1] rfl
                    refine va_calli (va_runV (As := []) (rest := []) ⟨hx, hb, hml, hown, hts⟩ (k_X12_here l dC dI h0 h1 v0 v1 t54 ((-1)) v3 r0 r1 r2 r3 r4 r5 r6 v4 v5 r7 r8 r9 r10 v6 r11 r12 v7 v8 r13 r14 v9 v10 r15 v11 v12 r16 v13 w14 r17 v15 v16 r18 r19 r20 r21 r22 r23 v17 r24 r25 r26 v18 g0 f19 ⟨i_v1a, i_v1b⟩ ⟨by first | omega | decide, by first | omega | decide⟩ ⟨i_v4a, i_v4b⟩ ⟨i_v5a, i_v5b⟩ ⟨i_v6a, i_v6b⟩ ⟨i_v7a, i_v7b⟩ ⟨i_v8a, i_v8b⟩ ⟨i_v9a, i_v9b⟩ ⟨i_v13a, i_v13b⟩ ⟨i_v17a, i_v17b⟩ ⟨i_v18a, i_v18b⟩ ia_f19 H.size) (cwV 0 hts g_X12_plainNumber_0 rfl rfl rfl (by decide +kernel) ⟨Nat.le_of_ble_eq_true rfl, Nat.le_of_ble_eq_true rfl⟩) (pv_PV12 hPc hKc hDc (q0 := 0) rfl) rfl rfl hl.1 rfl (lv_room (Nat.le_of_ble_eq_true rfl)) dX12_plainNumber_10 ⟨Nat.le_of_ble_eq_true rfl, Nat.le_of_ble_eq_true rfl⟩) hS (fun q _ h => hFc q h) hFc (fun ra55 u t H1 locs ht hvm hwra55 hB hz1 hk1 hS => ?_)
                    try rw [hwra55] at hB
                    have hkra55_0 : (((-1) : Int32)).toInt = -1 := by decide
                    rcases hB with hB | hB
                    · skip
                      obtain ⟨pt0_ra55, pt1_ra55, pt2_ra55, pt3_ra55, hP1, hK1, hD1⟩ := hB
                      rw [ht] at hP1
                      obtain ⟨hP2, hD2⟩ := va_join (wr := []) (w1 := (wd_f4cd022e h0 v0 h1 v1 t54 (-1) v3 r0 r1 r2 r3 r4 r5 r6 v4 v5 r7 r8 r9 r10 v6 r11 r12 v7 v8 r13 r14 v9 v10 r15 v11 v12 r16 v13 w14 r17 v15 v16 r18 r19 r20 r21 r22 r23 v17 r24 r25 r26 v18 h1 g0 f19)) hP hD [0, 1] [] rfl rfl (by decide) (by decide) hk1 hFc hP1 hD1
                      clear hP hD hPc hDc hKc hFc hP1 hK1 hD1 hk1 hz1
                      generalize H1 = H at hP2 hS ⊢
                      have hP : va_P (dC, dI) vwCl (wd_f4cd022e h0 v0 h1 v1 t54 (-1) v3 r0 r1 r2 r3 r4 r5 r6 v4 v5 r7 r8 r9 r10 v6 r11 r12 v7 v8 r13 r14 v9 v10 r15 v11 v12 r16 v13 w14 r17 v15 v16 r18 r19 r20 r21 r22 r23 v17 r24 r25 r26 v18 h1 g0 f19) H := hP2
                      have hD : va_D A (wd_f4cd022e h0 v0 h1 v1 t54 (-1) v3 r0 r1 r2 r3 r4 r5 r6 v4 v5 r7 r8 r9 r10 v6 r11 r12 v7 v8 r13 r14 v9 v10 r15 v11 v12 r16 v13 w14 r17 v15 v16 r18 r19 r20 r21 r22 r23 v17 r24 r25 r26 v18 h1 g0 f19) := hD2
                      clear hP2 hD2
                      obtain rfl : ra55 = ((-1) : Int32) := pv_cs (by decide) pt0_ra55 pt1_ra55
                      have hPc := hP.sub (ws' := []) [] rfl
                      have hDc := hD.sub (ws' := []) [] (by decide) rfl
                      have hKc := hK.sub (tys' := []) [] rfl
                      have hFc := va_free (wc := []) hD hS hA [] rfl
                      refine va_calli (va_runS (As := [.int (-1)]) (rest := []) ⟨hx, hb, hml, hown, hts⟩ (k_X12_isDigit l dC dI ((-1))  H.size) (va_cwS 1 hts g_X12_plainNumber_1 rfl rfl rfl (by decide +kernel) ⟨Nat.le_of_ble_eq_true rfl, Nat.le_of_ble_eq_true rfl⟩) (pv_PS hPc hKc hDc) rfl rfl hl.1 rfl (lv_room (Nat.le_of_ble_eq_true rfl)) dX12_plainNumber_13 ⟨Nat.le_of_ble_eq_true rfl, Nat.le_of_ble_eq_true rfl⟩) hS (fun q _ h => hFc q h) hFc (fun ra56 u t H1 locs ht hvm hwra56 hB hz1 hk1 hS => ?_)
                      try rw [hwra56] at hB
                      have hkra56_0 : (((-1) : Int32)).toInt = -1 := by decide
                      obtain ⟨pt0_ra56, pt1_ra56, pt2_ra56, pt3_ra56, pt4_ra56, hP1, hK1, hD1⟩ := hB
                      rw [ht] at hP1
                      obtain ⟨hP2, hD2⟩ := va_join (wr := (wd_f4cd022e h0 v0 h1 v1 t54 (-1) v3 r0 r1 r2 r3 r4 r5 r6 v4 v5 r7 r8 r9 r10 v6 r11 r12 v7 v8 r13 r14 v9 v10 r15 v11 v12 r16 v13 w14 r17 v15 v16 r18 r19 r20 r21 r22 r23 v17 r24 r25 r26 v18 h1 g0 f19)) (w1 := []) hP hD [] [0, 1] rfl rfl (by decide) (by decide) hk1 hFc hP1 hD1
                      clear hP hD hPc hDc hKc hFc hP1 hK1 hD1 hk1 hz1
                      generalize H1 = H at hP2 hS ⊢
                      have hP : va_P (dC, dI) vwCl (wd_f4cd022e h0 v0 h1 v1 t54 (-1) v3 r0 r1 r2 r3 r4 r5 r6 v4 v5 r7 r8 r9 r10 v6 r11 r12 v7 v8 r13 r14 v9 v10 r15 v11 v12 r16 v13 w14 r17 v15 v16 r18 r19 r20 r21 r22 r23 v17 r24 r25 r26 v18 h1 g0 f19) H := hP2
                      have hD : va_D A (wd_f4cd022e h0 v0 h1 v1 t54 (-1) v3 r0 r1 r2 r3 r4 r5 r6 v4 v5 r7 r8 r9 r10 v6 r11 r12 v7 v8 r13 r14 v9 v10 r15 v11 v12 r16 v13 w14 r17 v15 v16 r18 r19 r20 r21 r22 r23 v17 r24 r25 r26 v18 h1 g0 f19) := hD2
                      clear hP2 hD2
                      refine lv_if_eq (tgt := 48) hx hb dX12_plainNumber_16 (by decide) (fun c57 => ?_) (fun c57 => ?_)
                      · skip
                        have fc57 : ra56.toInt = 0 := congrArg Int32.toInt c57
                        refine lv_aload_n hx hb dX12_plainNumber_48 rfl (lv_at hl 2 rfl) ?_
                        have hPc := hP.sub (ws' := (wd_f4cd022e h0 v0 h1 v1 t54 (-1) v3 r0 r1 r2 r3 r4 r5 r6 v4 v5 r7 r8 r9 r10 v6 r11 r12 v7 v8 r13 r14 v9 v10 r15 v11 v12 r16 v13 w14 r17 v15 v16 r18 r19 r20 r21 r22 r23 v17 r24 r25 r26 v18 h1 g0 f19)) [0, 1] rfl
                        have hDc := hD.sub (ws' := (wd_f4cd022e h0 v0 h1 v1 t54 (-1) v3 r0 r1 r2 r3 r4 r5 r6 v4 v5 r7 r8 r9 r10 v6 r11 r12 v7 v8 r13 r14 v9 v10 r15 v11 v12 r16 v13 w14 r17 v15 v16 r18 r19 r20 r21 r22 r23 v17 r24 r25 r26 v18 h1 g0 f19)) [0, 1] (by decide) rfl
                        have hKc := hK.sub (tys' := [(g0, .int)]) [0] rfl
                        have hFc := va_free (wc := (wd_f4cd022e h0 v0 h1 v1 t54 (-1) v3 r0 r1 r2 r3 r4 r5 r6 v4 v5 r7 r8 r9 r10 v6 r11 r12 v7 v8 r13 r14 v9 v10 r15 v11 v12 r16 v13 w14 r17 v15 v16 r18 r19 r20 r21 r22 r23 v17 r24 r25 r26 v18 h1 g0 f19)) hD hS hA [0, 1] rfl
                        refine va_calli (va_runV (As := []) (rest := []) ⟨hx, hb, hml, hown, hts⟩ (k_X12_here l dC dI h0 h1 v0 v1 t54 ((-1)) v3 r0 r1 r2 r3 r4 r5 r6 v4 v5 r7 r8 r9 r10 v6 r11 r12 v7 v8 r13 r14 v9 v10 r15 v11 v12 r16 v13 w14 r17 v15 v16 r18 r19 r20 r21 r22 r23 v17 r24 r25 r26 v18 g0 f19 ⟨i_v1a, i_v1b⟩ ⟨by first | omega | decide, by first | omega | decide⟩ ⟨i_v4a, i_v4b⟩ ⟨i_v5a, i_v5b⟩ ⟨i_v6a, i_v6b⟩ ⟨i_v7a, i_v7b⟩ ⟨i_v8a, i_v8b⟩ ⟨i_v9a, i_v9b⟩ ⟨i_v13a, i_v13b⟩ ⟨i_v17a, i_v17b⟩ ⟨i_v18a, i_v18b⟩ ia_f19 H.size) (cwV 0 hts g_X12_plainNumber_0 rfl rfl rfl (by decide +kernel) ⟨Nat.le_of_ble_eq_true rfl, Nat.le_of_ble_eq_true rfl⟩) (pv_PV12 hPc hKc hDc (q0 := 0) rfl) rfl rfl hl.1 rfl (lv_room (Nat.le_of_ble_eq_true rfl)) dX12_plainNumber_49 ⟨Nat.le_of_ble_eq_true rfl, Nat.le_of_ble_eq_true rfl⟩) hS (fun q _ h => hFc q h) hFc (fun ra58 u t H1 locs ht hvm hwra58 hB hz1 hk1 hS => ?_)
                        try rw [hwra58] at hB
                        have hkra58_0 : (((-1) : Int32)).toInt = -1 := by decide
                        rcases hB with hB | hB
                        · skip
                          obtain ⟨pt0_ra58, pt1_ra58, pt2_ra58, pt3_ra58, hP1, hK1, hD1⟩ := hB
                          rw [ht] at hP1
                          obtain ⟨hP2, hD2⟩ := va_join (wr := []) (w1 := (wd_f4cd022e h0 v0 h1 v1 t54 (-1) v3 r0 r1 r2 r3 r4 r5 r6 v4 v5 r7 r8 r9 r10 v6 r11 r12 v7 v8 r13 r14 v9 v10 r15 v11 v12 r16 v13 w14 r17 v15 v16 r18 r19 r20 r21 r22 r23 v17 r24 r25 r26 v18 h1 g0 f19)) hP hD [0, 1] [] rfl rfl (by decide) (by decide) hk1 hFc hP1 hD1
                          clear hP hD hPc hDc hKc hFc hP1 hK1 hD1 hk1 hz1
                          generalize H1 = H at hP2 hS ⊢
                          have hP : va_P (dC, dI) vwCl (wd_f4cd022e h0 v0 h1 v1 t54 (-1) v3 r0 r1 r2 r3 r4 r5 r6 v4 v5 r7 r8 r9 r10 v6 r11 r12 v7 v8 r13 r14 v9 v10 r15 v11 v12 r16 v13 w14 r17 v15 v16 r18 r19 r20 r21 r22 r23 v17 r24 r25 r26 v18 h1 g0 f19) H := hP2
                          have hD : va_D A (wd_f4cd022e h0 v0 h1 v1 t54 (-1) v3 r0 r1 r2 r3 r4 r5 r6 v4 v5 r7 r8 r9 r10 v6 r11 r12 v7 v8 r13 r14 v9 v10 r15 v11 v12 r16 v13 w14 r17 v15 v16 r18 r19 r20 r21 r22 r23 v17 r24 r25 r26 v18 h1 g0 f19) := hD2
                          clear hP2 hD2
                          obtain rfl : ra58 = ((-1) : Int32) := pv_cs (by decide) pt0_ra58 pt1_ra58
                          have hPc := hP.sub (ws' := []) [] rfl
                          have hDc := hD.sub (ws' := []) [] (by decide) rfl
                          have hKc := hK.sub (tys' := []) [] rfl
                          have hFc := va_free (wc := []) hD hS hA [] rfl
                          refine va_calli (va_runS (As := [.int (-1)]) (rest := []) ⟨hx, hb, hml, hown, hts⟩ (k_X12_isDigit l dC dI ((-1))  H.size) (va_cwS 1 hts g_X12_plainNumber_1 rfl rfl rfl (by decide +kernel) ⟨Nat.le_of_ble_eq_true rfl, Nat.le_of_ble_eq_true rfl⟩) (pv_PS hPc hKc hDc) rfl rfl hl.1 rfl (lv_room (Nat.le_of_ble_eq_true rfl)) dX12_plainNumber_52 ⟨Nat.le_of_ble_eq_true rfl, Nat.le_of_ble_eq_true rfl⟩) hS (fun q _ h => hFc q h) hFc (fun ra59 u t H1 locs ht hvm hwra59 hB hz1 hk1 hS => ?_)
                          try rw [hwra59] at hB
                          have hkra59_0 : (((-1) : Int32)).toInt = -1 := by decide
                          obtain ⟨pt0_ra59, pt1_ra59, pt2_ra59, pt3_ra59, pt4_ra59, hP1, hK1, hD1⟩ := hB
                          rw [ht] at hP1
                          obtain ⟨hP2, hD2⟩ := va_join (wr := (wd_f4cd022e h0 v0 h1 v1 t54 (-1) v3 r0 r1 r2 r3 r4 r5 r6 v4 v5 r7 r8 r9 r10 v6 r11 r12 v7 v8 r13 r14 v9 v10 r15 v11 v12 r16 v13 w14 r17 v15 v16 r18 r19 r20 r21 r22 r23 v17 r24 r25 r26 v18 h1 g0 f19)) (w1 := []) hP hD [] [0, 1] rfl rfl (by decide) (by decide) hk1 hFc hP1 hD1
                          clear hP hD hPc hDc hKc hFc hP1 hK1 hD1 hk1 hz1
                          generalize H1 = H at hP2 hS ⊢
                          have hP : va_P (dC, dI) vwCl (wd_f4cd022e h0 v0 h1 v1 t54 (-1) v3 r0 r1 r2 r3 r4 r5 r6 v4 v5 r7 r8 r9 r10 v6 r11 r12 v7 v8 r13 r14 v9 v10 r15 v11 v12 r16 v13 w14 r17 v15 v16 r18 r19 r20 r21 r22 r23 v17 r24 r25 r26 v18 h1 g0 f19) H := hP2
                          have hD : va_D A (wd_f4cd022e h0 v0 h1 v1 t54 (-1) v3 r0 r1 r2 r3 r4 r5 r6 v4 v5 r7 r8 r9 r10 v6 r11 r12 v7 v8 r13 r14 v9 v10 r15 v11 v12 r16 v13 w14 r17 v15 v16 r18 r19 r20 r21 r22 r23 v17 r24 r25 r26 v18 h1 g0 f19) := hD2
                          clear hP2 hD2
                          refine lv_if_eq (tgt := 62) hx hb dX12_plainNumber_55 (by decide) (fun c60 => ?_) (fun c60 => ?_)
                          · skip
                            have fc60 : ra59.toInt = 0 := congrArg Int32.toInt c60
                            refine lv_iload_n hx hb dX12_plainNumber_62 rfl (lv_at hl 1 rfl) ?_
                            subst hQ
                            have hP9 := hP.sub (ws' := (wd_f4cd022e h0 v0 h1 v1 t54 (-1) v3 r0 r1 r2 r3 r4 r5 r6 v4 v5 r7 r8 r9 r10 v6 r11 r12 v7 v8 r13 r14 v9 v10 r15 v11 v12 r16 v13 w14 r17 v15 v16 r18 r19 r20 r21 r22 r23 v17 r24 r25 r26 v18 h1 g0 f19)) [0, 1] rfl
                            have hD9 := hD.sub (ws' := (wd_f4cd022e h0 v0 h1 v1 t54 (-1) v3 r0 r1 r2 r3 r4 r5 r6 v4 v5 r7 r8 r9 r10 v6 r11 r12 v7 v8 r13 r14 v9 v10 r15 v11 v12 r16 v13 w14 r17 v15 v16 r18 r19 r20 r21 r22 r23 v17 r24 r25 r26 v18 h1 g0 f19)) [0, 1] (by decide) rfl
                            have hK9 := hK.sub (tys' := []) [] rfl
                            exact W.iret (v := t53) hx hb hr (fun t ht hW => ⟨⟨t53, t53, rfl, rfl, Or.inl ⟨t54, by first | omega | decide, by first | omega | decide, by first | omega | decide, by first | omega | decide, by omega, by first | exact hnm.trans (pg_nm.stop (by omega)) | exact hnm.trans (pg_nm.over (by omega) (by omega) (by omega)) | (exfalso; omega), by rw [ht]; exact hP9, va_K.moved hW.alike hK9, hD9⟩⟩, hS.F ht⟩) hS.2.2 dX12_plainNumber_63
                          · skip
                            have fc60 : ¬ (ra59.toInt = 0) := fun h9 => c60 (Int32.toInt_inj.mp h9)
                            exfalso; omega
                        · skip
                          obtain ⟨pt0_ra58, pt1_ra58, pt2_ra58, pt3_ra58, pt4_ra58, hP1, hK1, hD1⟩ := hB
                          rw [ht] at hP1
                          obtain ⟨hP2, hD2⟩ := va_join (wr := []) (w1 := (wd_f4cd022e h0 v0 h1 v1 t54 (-1) v3 r0 r1 r2 r3 r4 r5 r6 v4 v5 r7 r8 r9 r10 v6 r11 r12 v7 v8 r13 r14 v9 v10 r15 v11 v12 r16 v13 w14 r17 v15 v16 r18 r19 r20 r21 r22 r23 v17 r24 r25 r26 v18 h1 g0 f19)) hP hD [0, 1] [] rfl rfl (by decide) (by decide) hk1 hFc hP1 hD1
                          clear hP hD hPc hDc hKc hFc hP1 hK1 hD1 hk1 hz1
                          generalize H1 = H at hP2 hS ⊢
                          have hP : va_P (dC, dI) vwCl (wd_f4cd022e h0 v0 h1 v1 t54 (-1) v3 r0 r1 r2 r3 r4 r5 r6 v4 v5 r7 r8 r9 r10 v6 r11 r12 v7 v8 r13 r14 v9 v10 r15 v11 v12 r16 v13 w14 r17 v15 v16 r18 r19 r20 r21 r22 r23 v17 r24 r25 r26 v18 h1 g0 f19) H := hP2
                          have hD : va_D A (wd_f4cd022e h0 v0 h1 v1 t54 (-1) v3 r0 r1 r2 r3 r4 r5 r6 v4 v5 r7 r8 r9 r10 v6 r11 r12 v7 v8 r13 r14 v9 v10 r15 v11 v12 r16 v13 w14 r17 v15 v16 r18 r19 r20 r21 r22 r23 v17 r24 r25 r26 v18 h1 g0 f19) := hD2
                          clear hP2 hD2
                          exfalso; omega
                      · skip
                        have fc57 : ¬ (ra56.toInt = 0) := fun h9 => c57 (Int32.toInt_inj.mp h9)
                        exfalso; omega
                    · skip
                      obtain ⟨pt0_ra55, pt1_ra55, pt2_ra55, pt3_ra55, pt4_ra55, hP1, hK1, hD1⟩ := hB
                      rw [ht] at hP1
                      obtain ⟨hP2, hD2⟩ := va_join (wr := []) (w1 := (wd_f4cd022e h0 v0 h1 v1 t54 (-1) v3 r0 r1 r2 r3 r4 r5 r6 v4 v5 r7 r8 r9 r10 v6 r11 r12 v7 v8 r13 r14 v9 v10 r15 v11 v12 r16 v13 w14 r17 v15 v16 r18 r19 r20 r21 r22 r23 v17 r24 r25 r26 v18 h1 g0 f19)) hP hD [0, 1] [] rfl rfl (by decide) (by decide) hk1 hFc hP1 hD1
                      clear hP hD hPc hDc hKc hFc hP1 hK1 hD1 hk1 hz1
                      generalize H1 = H at hP2 hS ⊢
                      have hP : va_P (dC, dI) vwCl (wd_f4cd022e h0 v0 h1 v1 t54 (-1) v3 r0 r1 r2 r3 r4 r5 r6 v4 v5 r7 r8 r9 r10 v6 r11 r12 v7 v8 r13 r14 v9 v10 r15 v11 v12 r16 v13 w14 r17 v15 v16 r18 r19 r20 r21 r22 r23 v17 r24 r25 r26 v18 h1 g0 f19) H := hP2
                      have hD : va_D A (wd_f4cd022e h0 v0 h1 v1 t54 (-1) v3 r0 r1 r2 r3 r4 r5 r6 v4 v5 r7 r8 r9 r10 v6 r11 r12 v7 v8 r13 r14 v9 v10 r15 v11 v12 r16 v13 w14 r17 v15 v16 r18 r19 r20 r21 r22 r23 v17 r24 r25 r26 v18 h1 g0 f19) := hD2
                      clear hP2 hD2
                      have hPc := hP.sub (ws' := []) [] rfl
                      have hDc := hD.sub (ws' := []) [] (by decide) rfl
                      have hKc := hK.sub (tys' := []) [] rfl
                      have hFc := va_free (wc := []) hD hS hA [] rfl
                      refine va_calli (va_runS (As := [.int ra55]) (rest := []) ⟨hx, hb, hml, hown, hts⟩ (k_X12_isDigit l dC dI ra55  H.size) (va_cwS 1 hts g_X12_plainNumber_1 rfl rfl rfl (by decide +kernel) ⟨Nat.le_of_ble_eq_true rfl, Nat.le_of_ble_eq_true rfl⟩) (pv_PS hPc hKc hDc) rfl rfl hl.1 rfl (lv_room (Nat.le_of_ble_eq_true rfl)) dX12_plainNumber_13 ⟨Nat.le_of_ble_eq_true rfl, Nat.le_of_ble_eq_true rfl⟩) hS (fun q _ h => hFc q h) hFc (fun ra61 u t H1 locs ht hvm hwra61 hB hz1 hk1 hS => ?_)
                      try rw [hwra61] at hB
                      obtain ⟨pt0_ra61, pt1_ra61, pt2_ra61, pt3_ra61, pt4_ra61, hP1, hK1, hD1⟩ := hB
                      rw [ht] at hP1
                      obtain ⟨hP2, hD2⟩ := va_join (wr := (wd_f4cd022e h0 v0 h1 v1 t54 (-1) v3 r0 r1 r2 r3 r4 r5 r6 v4 v5 r7 r8 r9 r10 v6 r11 r12 v7 v8 r13 r14 v9 v10 r15 v11 v12 r16 v13 w14 r17 v15 v16 r18 r19 r20 r21 r22 r23 v17 r24 r25 r26 v18 h1 g0 f19)) (w1 := []) hP hD [] [0, 1] rfl rfl (by decide) (by decide) hk1 hFc hP1 hD1
                      clear hP hD hPc hDc hKc hFc hP1 hK1 hD1 hk1 hz1
                      generalize H1 = H at hP2 hS ⊢
                      have hP : va_P (dC, dI) vwCl (wd_f4cd022e h0 v0 h1 v1 t54 (-1) v3 r0 r1 r2 r3 r4 r5 r6 v4 v5 r7 r8 r9 r10 v6 r11 r12 v7 v8 r13 r14 v9 v10 r15 v11 v12 r16 v13 w14 r17 v15 v16 r18 r19 r20 r21 r22 r23 v17 r24 r25 r26 v18 h1 g0 f19) H := hP2
                      have hD : va_D A (wd_f4cd022e h0 v0 h1 v1 t54 (-1) v3 r0 r1 r2 r3 r4 r5 r6 v4 v5 r7 r8 r9 r10 v6 r11 r12 v7 v8 r13 r14 v9 v10 r15 v11 v12 r16 v13 w14 r17 v15 v16 r18 r19 r20 r21 r22 r23 v17 r24 r25 r26 v18 h1 g0 f19) := hD2
                      clear hP2 hD2
                      refine lv_if_eq (tgt := 48) hx hb dX12_plainNumber_16 (by decide) (fun c62 => ?_) (fun c62 => ?_)
                      · skip
                        have fc62 : ra61.toInt = 0 := congrArg Int32.toInt c62
                        refine lv_aload_n hx hb dX12_plainNumber_48 rfl (lv_at hl 2 rfl) ?_
                        have hPc := hP.sub (ws' := (wd_f4cd022e h0 v0 h1 v1 t54 (-1) v3 r0 r1 r2 r3 r4 r5 r6 v4 v5 r7 r8 r9 r10 v6 r11 r12 v7 v8 r13 r14 v9 v10 r15 v11 v12 r16 v13 w14 r17 v15 v16 r18 r19 r20 r21 r22 r23 v17 r24 r25 r26 v18 h1 g0 f19)) [0, 1] rfl
                        have hDc := hD.sub (ws' := (wd_f4cd022e h0 v0 h1 v1 t54 (-1) v3 r0 r1 r2 r3 r4 r5 r6 v4 v5 r7 r8 r9 r10 v6 r11 r12 v7 v8 r13 r14 v9 v10 r15 v11 v12 r16 v13 w14 r17 v15 v16 r18 r19 r20 r21 r22 r23 v17 r24 r25 r26 v18 h1 g0 f19)) [0, 1] (by decide) rfl
                        have hKc := hK.sub (tys' := [(g0, .int)]) [0] rfl
                        have hFc := va_free (wc := (wd_f4cd022e h0 v0 h1 v1 t54 (-1) v3 r0 r1 r2 r3 r4 r5 r6 v4 v5 r7 r8 r9 r10 v6 r11 r12 v7 v8 r13 r14 v9 v10 r15 v11 v12 r16 v13 w14 r17 v15 v16 r18 r19 r20 r21 r22 r23 v17 r24 r25 r26 v18 h1 g0 f19)) hD hS hA [0, 1] rfl
                        refine va_calli (va_runV (As := []) (rest := []) ⟨hx, hb, hml, hown, hts⟩ (k_X12_here l dC dI h0 h1 v0 v1 t54 ((-1)) v3 r0 r1 r2 r3 r4 r5 r6 v4 v5 r7 r8 r9 r10 v6 r11 r12 v7 v8 r13 r14 v9 v10 r15 v11 v12 r16 v13 w14 r17 v15 v16 r18 r19 r20 r21 r22 r23 v17 r24 r25 r26 v18 g0 f19 ⟨i_v1a, i_v1b⟩ ⟨by first | omega | decide, by first | omega | decide⟩ ⟨i_v4a, i_v4b⟩ ⟨i_v5a, i_v5b⟩ ⟨i_v6a, i_v6b⟩ ⟨i_v7a, i_v7b⟩ ⟨i_v8a, i_v8b⟩ ⟨i_v9a, i_v9b⟩ ⟨i_v13a, i_v13b⟩ ⟨i_v17a, i_v17b⟩ ⟨i_v18a, i_v18b⟩ ia_f19 H.size) (cwV 0 hts g_X12_plainNumber_0 rfl rfl rfl (by decide +kernel) ⟨Nat.le_of_ble_eq_true rfl, Nat.le_of_ble_eq_true rfl⟩) (pv_PV12 hPc hKc hDc (q0 := 0) rfl) rfl rfl hl.1 rfl (lv_room (Nat.le_of_ble_eq_true rfl)) dX12_plainNumber_49 ⟨Nat.le_of_ble_eq_true rfl, Nat.le_of_ble_eq_true rfl⟩) hS (fun q _ h => hFc q h) hFc (fun ra63 u t H1 locs ht hvm hwra63 hB hz1 hk1 hS => ?_)
                        try rw [hwra63] at hB
                        have hkra63_0 : (((-1) : Int32)).toInt = -1 := by decide
                        rcases hB with hB | hB
                        · skip
                          obtain ⟨pt0_ra63, pt1_ra63, pt2_ra63, pt3_ra63, hP1, hK1, hD1⟩ := hB
                          rw [ht] at hP1
                          obtain ⟨hP2, hD2⟩ := va_join (wr := []) (w1 := (wd_f4cd022e h0 v0 h1 v1 t54 (-1) v3 r0 r1 r2 r3 r4 r5 r6 v4 v5 r7 r8 r9 r10 v6 r11 r12 v7 v8 r13 r14 v9 v10 r15 v11 v12 r16 v13 w14 r17 v15 v16 r18 r19 r20 r21 r22 r23 v17 r24 r25 r26 v18 h1 g0 f19)) hP hD [0, 1] [] rfl rfl (by decide) (by decide) hk1 hFc hP1 hD1
                          clear hP hD hPc hDc hKc hFc hP1 hK1 hD1 hk1 hz1
                          generalize H1 = H at hP2 hS ⊢
                          have hP : va_P (dC, dI) vwCl (wd_f4cd022e h0 v0 h1 v1 t54 (-1) v3 r0 r1 r2 r3 r4 r5 r6 v4 v5 r7 r8 r9 r10 v6 r11 r12 v7 v8 r13 r14 v9 v10 r15 v11 v12 r16 v13 w14 r17 v15 v16 r18 r19 r20 r21 r22 r23 v17 r24 r25 r26 v18 h1 g0 f19) H := hP2
                          have hD : va_D A (wd_f4cd022e h0 v0 h1 v1 t54 (-1) v3 r0 r1 r2 r3 r4 r5 r6 v4 v5 r7 r8 r9 r10 v6 r11 r12 v7 v8 r13 r14 v9 v10 r15 v11 v12 r16 v13 w14 r17 v15 v16 r18 r19 r20 r21 r22 r23 v17 r24 r25 r26 v18 h1 g0 f19) := hD2
                          clear hP2 hD2
                          obtain rfl : ra63 = ((-1) : Int32) := pv_cs (by decide) pt0_ra63 pt1_ra63
                          exfalso; omega
                        · skip
                          obtain ⟨pt0_ra63, pt1_ra63, pt2_ra63, pt3_ra63, pt4_ra63, hP1, hK1, hD1⟩ := hB
                          rw [ht] at hP1
                          obtain ⟨hP2, hD2⟩ := va_join (wr := []) (w1 := (wd_f4cd022e h0 v0 h1 v1 t54 (-1) v3 r0 r1 r2 r3 r4 r5 r6 v4 v5 r7 r8 r9 r10 v6 r11 r12 v7 v8 r13 r14 v9 v10 r15 v11 v12 r16 v13 w14 r17 v15 v16 r18 r19 r20 r21 r22 r23 v17 r24 r25 r26 v18 h1 g0 f19)) hP hD [0, 1] [] rfl rfl (by decide) (by decide) hk1 hFc hP1 hD1
                          clear hP hD hPc hDc hKc hFc hP1 hK1 hD1 hk1 hz1
                          generalize H1 = H at hP2 hS ⊢
                          have hP : va_P (dC, dI) vwCl (wd_f4cd022e h0 v0 h1 v1 t54 (-1) v3 r0 r1 r2 r3 r4 r5 r6 v4 v5 r7 r8 r9 r10 v6 r11 r12 v7 v8 r13 r14 v9 v10 r15 v11 v12 r16 v13 w14 r17 v15 v16 r18 r19 r20 r21 r22 r23 v17 r24 r25 r26 v18 h1 g0 f19) H := hP2
                          have hD : va_D A (wd_f4cd022e h0 v0 h1 v1 t54 (-1) v3 r0 r1 r2 r3 r4 r5 r6 v4 v5 r7 r8 r9 r10 v6 r11 r12 v7 v8 r13 r14 v9 v10 r15 v11 v12 r16 v13 w14 r17 v15 v16 r18 r19 r20 r21 r22 r23 v17 r24 r25 r26 v18 h1 g0 f19) := hD2
                          clear hP2 hD2
                          have hPc := hP.sub (ws' := []) [] rfl
                          have hDc := hD.sub (ws' := []) [] (by decide) rfl
                          have hKc := hK.sub (tys' := []) [] rfl
                          have hFc := va_free (wc := []) hD hS hA [] rfl
                          refine va_calli (va_runS (As := [.int ra63]) (rest := []) ⟨hx, hb, hml, hown, hts⟩ (k_X12_isDigit l dC dI ra63  H.size) (va_cwS 1 hts g_X12_plainNumber_1 rfl rfl rfl (by decide +kernel) ⟨Nat.le_of_ble_eq_true rfl, Nat.le_of_ble_eq_true rfl⟩) (pv_PS hPc hKc hDc) rfl rfl hl.1 rfl (lv_room (Nat.le_of_ble_eq_true rfl)) dX12_plainNumber_52 ⟨Nat.le_of_ble_eq_true rfl, Nat.le_of_ble_eq_true rfl⟩) hS (fun q _ h => hFc q h) hFc (fun ra64 u t H1 locs ht hvm hwra64 hB hz1 hk1 hS => ?_)
                          try rw [hwra64] at hB
                          obtain ⟨pt0_ra64, pt1_ra64, pt2_ra64, pt3_ra64, pt4_ra64, hP1, hK1, hD1⟩ := hB
                          rw [ht] at hP1
                          obtain ⟨hP2, hD2⟩ := va_join (wr := (wd_f4cd022e h0 v0 h1 v1 t54 (-1) v3 r0 r1 r2 r3 r4 r5 r6 v4 v5 r7 r8 r9 r10 v6 r11 r12 v7 v8 r13 r14 v9 v10 r15 v11 v12 r16 v13 w14 r17 v15 v16 r18 r19 r20 r21 r22 r23 v17 r24 r25 r26 v18 h1 g0 f19)) (w1 := []) hP hD [] [0, 1] rfl rfl (by decide) (by decide) hk1 hFc hP1 hD1
                          clear hP hD hPc hDc hKc hFc hP1 hK1 hD1 hk1 hz1
                          generalize H1 = H at hP2 hS ⊢
                          have hP : va_P (dC, dI) vwCl (wd_f4cd022e h0 v0 h1 v1 t54 (-1) v3 r0 r1 r2 r3 r4 r5 r6 v4 v5 r7 r8 r9 r10 v6 r11 r12 v7 v8 r13 r14 v9 v10 r15 v11 v12 r16 v13 w14 r17 v15 v16 r18 r19 r20 r21 r22 r23 v17 r24 r25 r26 v18 h1 g0 f19) H := hP2
                          have hD : va_D A (wd_f4cd022e h0 v0 h1 v1 t54 (-1) v3 r0 r1 r2 r3 r4 r5 r6 v4 v5 r7 r8 r9 r10 v6 r11 r12 v7 v8 r13 r14 v9 v10 r15 v11 v12 r16 v13 w14 r17 v15 v16 r18 r19 r20 r21 r22 r23 v17 r24 r25 r26 v18 h1 g0 f19) := hD2
                          clear hP2 hD2
                          refine lv_if_eq (tgt := 62) hx hb dX12_plainNumber_55 (by decide) (fun c65 => ?_) (fun c65 => ?_)
                          · skip
                            have fc65 : ra64.toInt = 0 := congrArg Int32.toInt c65
                            refine lv_iload_n hx hb dX12_plainNumber_62 rfl (lv_at hl 1 rfl) ?_
                            subst hQ
                            have hP9 := hP.sub (ws' := (wd_f4cd022e h0 v0 h1 v1 t54 (-1) v3 r0 r1 r2 r3 r4 r5 r6 v4 v5 r7 r8 r9 r10 v6 r11 r12 v7 v8 r13 r14 v9 v10 r15 v11 v12 r16 v13 w14 r17 v15 v16 r18 r19 r20 r21 r22 r23 v17 r24 r25 r26 v18 h1 g0 f19)) [0, 1] rfl
                            have hD9 := hD.sub (ws' := (wd_f4cd022e h0 v0 h1 v1 t54 (-1) v3 r0 r1 r2 r3 r4 r5 r6 v4 v5 r7 r8 r9 r10 v6 r11 r12 v7 v8 r13 r14 v9 v10 r15 v11 v12 r16 v13 w14 r17 v15 v16 r18 r19 r20 r21 r22 r23 v17 r24 r25 r26 v18 h1 g0 f19)) [0, 1] (by decide) rfl
                            have hK9 := hK.sub (tys' := []) [] rfl
                            exact W.iret (v := t53) hx hb hr (fun t ht hW => ⟨⟨t53, t53, rfl, rfl, Or.inl ⟨t54, by first | omega | decide, by first | omega | decide, by first | omega | decide, by first | omega | decide, by omega, by first | exact hnm.trans (pg_nm.stop (by omega)) | exact hnm.trans (pg_nm.over (by omega) (by omega) (by omega)) | (exfalso; omega), by rw [ht]; exact hP9, va_K.moved hW.alike hK9, hD9⟩⟩, hS.F ht⟩) hS.2.2 dX12_plainNumber_63
                          · skip
                            have fc65 : ¬ (ra64.toInt = 0) := fun h9 => c65 (Int32.toInt_inj.mp h9)
                            refine lv_aload_n hx hb dX12_plainNumber_58 rfl (lv_at hl 2 rfl) ?_
                            have hPc := hP.sub (ws' := (wd_171f232f h0 v0 h1 v1 t54 (-1) v3 r0 r1 r2 r3 r4 r5 r6 v4 v5 r7 r8 r9 r10 v6 r11 r12 v7 v8 r13 r14 v9 v10 r15 v11 v12 r16 v13 w14 r17 v15 v16 r18 r19 r20 r21 r22 r23 v17 r24 r25 r26 v18)) [0] rfl
                            have hDc := hD.sub (ws' := (wd_171f232f h0 v0 h1 v1 t54 (-1) v3 r0 r1 r2 r3 r4 r5 r6 v4 v5 r7 r8 r9 r10 v6 r11 r12 v7 v8 r13 r14 v9 v10 r15 v11 v12 r16 v13 w14 r17 v15 v16 r18 r19 r20 r21 r22 r23 v17 r24 r25 r26 v18)) [0] (by decide) rfl
                            have hKc := hK.sub (tys' := []) [] rfl
                            have hFc := va_free (wc := (wd_171f232f h0 v0 h1 v1 t54 (-1) v3 r0 r1 r2 r3 r4 r5 r6 v4 v5 r7 r8 r9 r10 v6 r11 r12 v7 v8 r13 r14 v9 v10 r15 v11 v12 r16 v13 w14 r17 v15 v16 r18 r19 r20 r21 r22 r23 v17 r24 r25 r26 v18)) hD hS hA [0] rfl
                            refine va_callv (va_runV (As := []) (rest := []) ⟨hx, hb, hml, hown, hts⟩ (k_X12_bad l dC dI h0 v0 h1 v1 t54 v3 r0 r1 r2 r3 r4 r5 r6 v4 v5 r7 r8 r9 r10 v6 r11 r12 v7 v8 r13 r14 v9 v10 r15 v11 v12 r16 v13 w14 r17 v15 v16 r18 r19 r20 r21 r22 r23 v17 r24 r25 r26 v18 ⟨i_v1a, i_v1b⟩ ⟨by first | omega | decide, by first | omega | decide⟩ ⟨i_v4a, i_v4b⟩ ⟨i_v5a, i_v5b⟩ ⟨i_v6a, i_v6b⟩ ⟨i_v7a, i_v7b⟩ ⟨i_v8a, i_v8b⟩ ⟨i_v9a, i_v9b⟩ ⟨i_v13a, i_v13b⟩ ⟨i_v17a, i_v17b⟩ ⟨i_v18a, i_v18b⟩ H.size) (cwV 0 hts g_X12_plainNumber_7 rfl rfl rfl (by decide +kernel) ⟨Nat.le_of_ble_eq_true rfl, Nat.le_of_ble_eq_true rfl⟩) (pv_PV12 hPc hKc hDc (q0 := 0) rfl) rfl rfl hl.1 rfl (lv_room (Nat.le_of_ble_eq_true rfl)) dX12_plainNumber_59 ⟨Nat.le_of_ble_eq_true rfl, Nat.le_of_ble_eq_true rfl⟩) hS (fun q _ h => hFc q h) hFc (fun u t H1 locs ht hvm hwra66 hB hz1 hk1 hS => ?_)
                            obtain ⟨x67, oa_x67, ob_x67, pt0_ra66, hP1, hK1, hD1⟩ := hB
                            rw [ht] at hP1
                            obtain ⟨hP2, hD2⟩ := va_join (wr := (wd_d0032b31 h1 g0 f19)) (w1 := (wd_171f232f h0 v0 h1 v1 t54 x67 v3 r0 r1 r2 r3 r4 r5 r6 v4 v5 r7 r8 r9 r10 v6 r11 r12 v7 v8 r13 r14 v9 v10 r15 v11 v12 r16 v13 w14 r17 v15 v16 r18 r19 r20 r21 r22 r23 v17 r24 r25 r26 v18)) hP hD [0] [1] rfl rfl (by decide) (by decide) hk1 hFc hP1 hD1
                            clear hP hD hPc hDc hKc hFc hP1 hK1 hD1 hk1 hz1
                            generalize H1 = H at hP2 hS ⊢
                            have hP := hP2.sub (ws' := (wd_f4cd022e h0 v0 h1 v1 t54 x67 v3 r0 r1 r2 r3 r4 r5 r6 v4 v5 r7 r8 r9 r10 v6 r11 r12 v7 v8 r13 r14 v9 v10 r15 v11 v12 r16 v13 w14 r17 v15 v16 r18 r19 r20 r21 r22 r23 v17 r24 r25 r26 v18 h1 g0 f19)) [1, 0] rfl
                            have hD := hD2.sub (ws' := (wd_f4cd022e h0 v0 h1 v1 t54 x67 v3 r0 r1 r2 r3 r4 r5 r6 v4 v5 r7 r8 r9 r10 v6 r11 r12 v7 v8 r13 r14 v9 v10 r15 v11 v12 r16 v13 w14 r17 v15 v16 r18 r19 r20 r21 r22 r23 v17 r24 r25 r26 v18 h1 g0 f19)) [1, 0] (by decide) rfl
                            clear hP2 hD2
                            refine lv_iload_n hx hb dX12_plainNumber_62 rfl (lv_at hl 1 rfl) ?_
                            subst hQ
                            have hP9 := hP.sub (ws' := (wd_f4cd022e h0 v0 h1 v1 t54 x67 v3 r0 r1 r2 r3 r4 r5 r6 v4 v5 r7 r8 r9 r10 v6 r11 r12 v7 v8 r13 r14 v9 v10 r15 v11 v12 r16 v13 w14 r17 v15 v16 r18 r19 r20 r21 r22 r23 v17 r24 r25 r26 v18 h1 g0 f19)) [0, 1] rfl
                            have hD9 := hD.sub (ws' := (wd_f4cd022e h0 v0 h1 v1 t54 x67 v3 r0 r1 r2 r3 r4 r5 r6 v4 v5 r7 r8 r9 r10 v6 r11 r12 v7 v8 r13 r14 v9 v10 r15 v11 v12 r16 v13 w14 r17 v15 v16 r18 r19 r20 r21 r22 r23 v17 r24 r25 r26 v18 h1 g0 f19)) [0, 1] (by decide) rfl
                            have hK9 := hK.sub (tys' := []) [] rfl
                            exact W.iret (v := t53) hx hb hr (fun t ht hW => ⟨⟨t53, t53, rfl, rfl, Or.inr (⟨t54, x67, by first | omega | decide, by first | omega | decide, oa_x67, ob_x67, by first | omega | decide, by first | omega | decide, by omega, by first | exact hnm.trans (pg_nm.stop (by omega)) | exact hnm.trans (pg_nm.over (by omega) (by omega) (by omega)) | (exfalso; omega), by rw [ht]; exact hP9, va_K.moved hW.alike hK9, hD9⟩)⟩, hS.F ht⟩) hS.2.2 dX12_plainNumber_63
                      · skip
                        have fc62 : ¬ (ra61.toInt = 0) := fun h9 => c62 (Int32.toInt_inj.mp h9)
                        refine lv_bipush (v := 10) hx hb dX12_plainNumber_19 (by decide) ?_
                        refine lv_iload_n hx hb dX12_plainNumber_21 rfl (lv_at hl 1 rfl) ?_
                        refine lv_imul hx hb dX12_plainNumber_22 ?_
                        refine lv_topi (fun t68 et68 => ?_)
                        have gt68 : t68.toInt = 10 * t53.toInt := pv_mul (a := 10) (b := t53.toInt) et68 (by decide) rfl (by omega) (by omega)
                        refine lv_aload_n hx hb dX12_plainNumber_23 rfl (lv_at hl 2 rfl) ?_
                        have hPc := hP.sub (ws' := (wd_f4cd022e h0 v0 h1 v1 t54 (-1) v3 r0 r1 r2 r3 r4 r5 r6 v4 v5 r7 r8 r9 r10 v6 r11 r12 v7 v8 r13 r14 v9 v10 r15 v11 v12 r16 v13 w14 r17 v15 v16 r18 r19 r20 r21 r22 r23 v17 r24 r25 r26 v18 h1 g0 f19)) [0, 1] rfl
                        have hDc := hD.sub (ws' := (wd_f4cd022e h0 v0 h1 v1 t54 (-1) v3 r0 r1 r2 r3 r4 r5 r6 v4 v5 r7 r8 r9 r10 v6 r11 r12 v7 v8 r13 r14 v9 v10 r15 v11 v12 r16 v13 w14 r17 v15 v16 r18 r19 r20 r21 r22 r23 v17 r24 r25 r26 v18 h1 g0 f19)) [0, 1] (by decide) rfl
                        have hKc := hK.sub (tys' := [(g0, .int)]) [0] rfl
                        have hFc := va_free (wc := (wd_f4cd022e h0 v0 h1 v1 t54 (-1) v3 r0 r1 r2 r3 r4 r5 r6 v4 v5 r7 r8 r9 r10 v6 r11 r12 v7 v8 r13 r14 v9 v10 r15 v11 v12 r16 v13 w14 r17 v15 v16 r18 r19 r20 r21 r22 r23 v17 r24 r25 r26 v18 h1 g0 f19)) hD hS hA [0, 1] rfl
                        refine va_calli (va_runV (As := []) (rest := [.int t68]) ⟨hx, hb, hml, hown, hts⟩ (k_X12_here l dC dI h0 h1 v0 v1 t54 ((-1)) v3 r0 r1 r2 r3 r4 r5 r6 v4 v5 r7 r8 r9 r10 v6 r11 r12 v7 v8 r13 r14 v9 v10 r15 v11 v12 r16 v13 w14 r17 v15 v16 r18 r19 r20 r21 r22 r23 v17 r24 r25 r26 v18 g0 f19 ⟨i_v1a, i_v1b⟩ ⟨by first | omega | decide, by first | omega | decide⟩ ⟨i_v4a, i_v4b⟩ ⟨i_v5a, i_v5b⟩ ⟨i_v6a, i_v6b⟩ ⟨i_v7a, i_v7b⟩ ⟨i_v8a, i_v8b⟩ ⟨i_v9a, i_v9b⟩ ⟨i_v13a, i_v13b⟩ ⟨i_v17a, i_v17b⟩ ⟨i_v18a, i_v18b⟩ ia_f19 H.size) (cwV 0 hts g_X12_plainNumber_0 rfl rfl rfl (by decide +kernel) ⟨Nat.le_of_ble_eq_true rfl, Nat.le_of_ble_eq_true rfl⟩) (pv_PV12 hPc hKc hDc (q0 := 0) rfl) rfl rfl hl.1 rfl (lv_room (Nat.le_of_ble_eq_true rfl)) dX12_plainNumber_24 ⟨Nat.le_of_ble_eq_true rfl, Nat.le_of_ble_eq_true rfl⟩) hS (fun q _ h => hFc q h) hFc (fun ra69 u t H1 locs ht hvm hwra69 hB hz1 hk1 hS => ?_)
                        try rw [hwra69] at hB
                        have hkra69_0 : (((-1) : Int32)).toInt = -1 := by decide
                        rcases hB with hB | hB
                        · skip
                          obtain ⟨pt0_ra69, pt1_ra69, pt2_ra69, pt3_ra69, hP1, hK1, hD1⟩ := hB
                          rw [ht] at hP1
                          obtain ⟨hP2, hD2⟩ := va_join (wr := []) (w1 := (wd_f4cd022e h0 v0 h1 v1 t54 (-1) v3 r0 r1 r2 r3 r4 r5 r6 v4 v5 r7 r8 r9 r10 v6 r11 r12 v7 v8 r13 r14 v9 v10 r15 v11 v12 r16 v13 w14 r17 v15 v16 r18 r19 r20 r21 r22 r23 v17 r24 r25 r26 v18 h1 g0 f19)) hP hD [0, 1] [] rfl rfl (by decide) (by decide) hk1 hFc hP1 hD1
                          clear hP hD hPc hDc hKc hFc hP1 hK1 hD1 hk1 hz1
                          generalize H1 = H at hP2 hS ⊢
                          have hP : va_P (dC, dI) vwCl (wd_f4cd022e h0 v0 h1 v1 t54 (-1) v3 r0 r1 r2 r3 r4 r5 r6 v4 v5 r7 r8 r9 r10 v6 r11 r12 v7 v8 r13 r14 v9 v10 r15 v11 v12 r16 v13 w14 r17 v15 v16 r18 r19 r20 r21 r22 r23 v17 r24 r25 r26 v18 h1 g0 f19) H := hP2
                          have hD : va_D A (wd_f4cd022e h0 v0 h1 v1 t54 (-1) v3 r0 r1 r2 r3 r4 r5 r6 v4 v5 r7 r8 r9 r10 v6 r11 r12 v7 v8 r13 r14 v9 v10 r15 v11 v12 r16 v13 w14 r17 v15 v16 r18 r19 r20 r21 r22 r23 v17 r24 r25 r26 v18 h1 g0 f19) := hD2
                          clear hP2 hD2
                          obtain rfl : ra69 = ((-1) : Int32) := pv_cs (by decide) pt0_ra69 pt1_ra69
                          exfalso; omega
                        · skip
                          obtain ⟨pt0_ra69, pt1_ra69, pt2_ra69, pt3_ra69, pt4_ra69, hP1, hK1, hD1⟩ := hB
                          rw [ht] at hP1
                          obtain ⟨hP2, hD2⟩ := va_join (wr := []) (w1 := (wd_f4cd022e h0 v0 h1 v1 t54 (-1) v3 r0 r1 r2 r3 r4 r5 r6 v4 v5 r7 r8 r9 r10 v6 r11 r12 v7 v8 r13 r14 v9 v10 r15 v11 v12 r16 v13 w14 r17 v15 v16 r18 r19 r20 r21 r22 r23 v17 r24 r25 r26 v18 h1 g0 f19)) hP hD [0, 1] [] rfl rfl (by decide) (by decide) hk1 hFc hP1 hD1
                          clear hP hD hPc hDc hKc hFc hP1 hK1 hD1 hk1 hz1
                          generalize H1 = H at hP2 hS ⊢
                          have hP : va_P (dC, dI) vwCl (wd_f4cd022e h0 v0 h1 v1 t54 (-1) v3 r0 r1 r2 r3 r4 r5 r6 v4 v5 r7 r8 r9 r10 v6 r11 r12 v7 v8 r13 r14 v9 v10 r15 v11 v12 r16 v13 w14 r17 v15 v16 r18 r19 r20 r21 r22 r23 v17 r24 r25 r26 v18 h1 g0 f19) H := hP2
                          have hD : va_D A (wd_f4cd022e h0 v0 h1 v1 t54 (-1) v3 r0 r1 r2 r3 r4 r5 r6 v4 v5 r7 r8 r9 r10 v6 r11 r12 v7 v8 r13 r14 v9 v10 r15 v11 v12 r16 v13 w14 r17 v15 v16 r18 r19 r20 r21 r22 r23 v17 r24 r25 r26 v18 h1 g0 f19) := hD2
                          clear hP2 hD2
                          refine lv_iadd hx hb dX12_plainNumber_27 ?_
                          refine lv_topi (fun t70 et70 => ?_)
                          have gt70 : t70.toInt = t68.toInt + ra69.toInt := pv_add (a := t68.toInt) (b := ra69.toInt) et70 rfl rfl (by omega) (by omega)
                          refine lv_bipush (v := 48) hx hb dX12_plainNumber_28 (by decide) ?_
                          refine lv_isub hx hb dX12_plainNumber_30 ?_
                          refine lv_topi (fun t71 et71 => ?_)
                          have gt71 : t71.toInt = t70.toInt - 48 := pv_sub (a := t70.toInt) (b := 48) et71 rfl (by decide) (by omega) (by omega)
                          refine lv_istore_n (lv' := [(1, .int t71), (2, .int 3), (0, .ref h0)]) hx hb dX12_plainNumber_31 rfl hl (by decide) rfl (fun ls hl => ?_)
                          refine lv_aload_n hx hb dX12_plainNumber_32 rfl (lv_at hl 2 rfl) ?_
                          refine lv_dup hx hb dX12_plainNumber_33 rfl ?_
                          refine va_get (D := (dC, dI)) (ci := 12) (v := .int t54) (C := RX12) (T := TX12) (N := 48) hx hb hts (fun _ h => List.mem_cons_of_mem _ (List.mem_append_right _ h)) hown hK hP 0 rfl rfl 3 (by decide) (hts (.fieldLink RX12 112 "LeftArgumentsModel" "at" "I") (List.mem_cons_of_mem _ (List.mem_append_left _ (List.mem_of_getElem? (i := 1) rfl)))) (fun _ h9 => h9) rfl dX12_plainNumber_34 ?_
                          refine lv_iconst (v := 1) hx hb dX12_plainNumber_37 (by decide) ?_
                          refine lv_iadd hx hb dX12_plainNumber_38 ?_
                          refine lv_topi (fun t72 et72 => ?_)
                          have gt72 : t72.toInt = t54.toInt + 1 := pv_add (a := t54.toInt) (b := 1) et72 rfl (by decide) (by omega) (by omega)
                          refine va_put (D := (dC, dI)) (ci := 12) (v := .int t72) (ty := .int) (C := RX12) (T := TX12) (N := 48) hx hb hts (fun _ h => List.mem_cons_of_mem _ (List.mem_append_right _ h)) tyX12 tyX12_ok nmX12 hown hK hP hD hS 0 rfl rfl 3 (by decide) (hts (.fieldLink RX12 112 "LeftArgumentsModel" "at" "I") (List.mem_cons_of_mem _ (List.mem_append_left _ (List.mem_of_getElem? (i := 1) rfl)))) (fun _ h9 => h9) rfl (by decide +kernel) rfl rfl (Nat.le_of_ble_eq_true rfl) dX12_plainNumber_39 (fun H locs hP hD hS => ?_)
                          have hP : va_P (dC, dI) vwCl (wd_f4cd022e h0 v0 h1 v1 t72 (-1) v3 r0 r1 r2 r3 r4 r5 r6 v4 v5 r7 r8 r9 r10 v6 r11 r12 v7 v8 r13 r14 v9 v10 r15 v11 v12 r16 v13 w14 r17 v15 v16 r18 r19 r20 r21 r22 r23 v17 r24 r25 r26 v18 h1 g0 f19) H := hP
                          have hD : va_D A (wd_f4cd022e h0 v0 h1 v1 t72 (-1) v3 r0 r1 r2 r3 r4 r5 r6 v4 v5 r7 r8 r9 r10 v6 r11 r12 v7 v8 r13 r14 v9 v10 r15 v11 v12 r16 v13 w14 r17 v15 v16 r18 r19 r20 r21 r22 r23 v17 r24 r25 r26 v18 h1 g0 f19) := hD
                          have hnm : pg_nm f19 v1.toInt 4 v2.toInt = pg_nm f19 v1.toInt 0 t72.toInt := hnm.trans (pg_nm.step (by omega) (by omega) (by omega))
                          refine lv_iinc (v := 4) (lv' := [(2, .int 4), (1, .int t71), (0, .ref h0)]) hx hb dX12_plainNumber_42 hl (k := 1) rfl (by decide) (by decide) rfl (fun ls hl => ?_)
                          refine lv_goto (tgt := 4) hx hb dX12_plainNumber_45 (by decide) ?_
                          refine lv_iload_n hx hb dX12_plainNumber_4 rfl (lv_at hl 0 rfl) ?_
                          refine lv_iconst (v := 4) hx hb dX12_plainNumber_5 (by decide) ?_
                          refine lv_icmp_ge (tgt := 48) hx hb dX12_plainNumber_6 (by decide) (fun _ => ?_) (fun c => absurd (by decide) c)
                          refine lv_aload_n hx hb dX12_plainNumber_48 rfl (lv_at hl 2 rfl) ?_
                          have hPc := hP.sub (ws' := (wd_f4cd022e h0 v0 h1 v1 t72 (-1) v3 r0 r1 r2 r3 r4 r5 r6 v4 v5 r7 r8 r9 r10 v6 r11 r12 v7 v8 r13 r14 v9 v10 r15 v11 v12 r16 v13 w14 r17 v15 v16 r18 r19 r20 r21 r22 r23 v17 r24 r25 r26 v18 h1 g0 f19)) [0, 1] rfl
                          have hDc := hD.sub (ws' := (wd_f4cd022e h0 v0 h1 v1 t72 (-1) v3 r0 r1 r2 r3 r4 r5 r6 v4 v5 r7 r8 r9 r10 v6 r11 r12 v7 v8 r13 r14 v9 v10 r15 v11 v12 r16 v13 w14 r17 v15 v16 r18 r19 r20 r21 r22 r23 v17 r24 r25 r26 v18 h1 g0 f19)) [0, 1] (by decide) rfl
                          have hKc := hK.sub (tys' := [(g0, .int)]) [0] rfl
                          have hFc := va_free (wc := (wd_f4cd022e h0 v0 h1 v1 t72 (-1) v3 r0 r1 r2 r3 r4 r5 r6 v4 v5 r7 r8 r9 r10 v6 r11 r12 v7 v8 r13 r14 v9 v10 r15 v11 v12 r16 v13 w14 r17 v15 v16 r18 r19 r20 r21 r22 r23 v17 r24 r25 r26 v18 h1 g0 f19)) hD hS hA [0, 1] rfl
                          refine va_calli (va_runV (As := []) (rest := []) ⟨hx, hb, hml, hown, hts⟩ (k_X12_here l dC dI h0 h1 v0 v1 t72 ((-1)) v3 r0 r1 r2 r3 r4 r5 r6 v4 v5 r7 r8 r9 r10 v6 r11 r12 v7 v8 r13 r14 v9 v10 r15 v11 v12 r16 v13 w14 r17 v15 v16 r18 r19 r20 r21 r22 r23 v17 r24 r25 r26 v18 g0 f19 ⟨i_v1a, i_v1b⟩ ⟨by first | omega | decide, by first | omega | decide⟩ ⟨i_v4a, i_v4b⟩ ⟨i_v5a, i_v5b⟩ ⟨i_v6a, i_v6b⟩ ⟨i_v7a, i_v7b⟩ ⟨i_v8a, i_v8b⟩ ⟨i_v9a, i_v9b⟩ ⟨i_v13a, i_v13b⟩ ⟨i_v17a, i_v17b⟩ ⟨i_v18a, i_v18b⟩ ia_f19 H.size) (cwV 0 hts g_X12_plainNumber_0 rfl rfl rfl (by decide +kernel) ⟨Nat.le_of_ble_eq_true rfl, Nat.le_of_ble_eq_true rfl⟩) (pv_PV12 hPc hKc hDc (q0 := 0) rfl) rfl rfl hl.1 rfl (lv_room (Nat.le_of_ble_eq_true rfl)) dX12_plainNumber_49 ⟨Nat.le_of_ble_eq_true rfl, Nat.le_of_ble_eq_true rfl⟩) hS (fun q _ h => hFc q h) hFc (fun ra73 u t H1 locs ht hvm hwra73 hB hz1 hk1 hS => ?_)
                          try rw [hwra73] at hB
                          have hkra73_0 : (((-1) : Int32)).toInt = -1 := by decide
                          rcases hB with hB | hB
                          · skip
                            obtain ⟨pt0_ra73, pt1_ra73, pt2_ra73, pt3_ra73, hP1, hK1, hD1⟩ := hB
                            rw [ht] at hP1
                            obtain ⟨hP2, hD2⟩ := va_join (wr := []) (w1 := (wd_f4cd022e h0 v0 h1 v1 t72 (-1) v3 r0 r1 r2 r3 r4 r5 r6 v4 v5 r7 r8 r9 r10 v6 r11 r12 v7 v8 r13 r14 v9 v10 r15 v11 v12 r16 v13 w14 r17 v15 v16 r18 r19 r20 r21 r22 r23 v17 r24 r25 r26 v18 h1 g0 f19)) hP hD [0, 1] [] rfl rfl (by decide) (by decide) hk1 hFc hP1 hD1
                            clear hP hD hPc hDc hKc hFc hP1 hK1 hD1 hk1 hz1
                            generalize H1 = H at hP2 hS ⊢
                            have hP : va_P (dC, dI) vwCl (wd_f4cd022e h0 v0 h1 v1 t72 (-1) v3 r0 r1 r2 r3 r4 r5 r6 v4 v5 r7 r8 r9 r10 v6 r11 r12 v7 v8 r13 r14 v9 v10 r15 v11 v12 r16 v13 w14 r17 v15 v16 r18 r19 r20 r21 r22 r23 v17 r24 r25 r26 v18 h1 g0 f19) H := hP2
                            have hD : va_D A (wd_f4cd022e h0 v0 h1 v1 t72 (-1) v3 r0 r1 r2 r3 r4 r5 r6 v4 v5 r7 r8 r9 r10 v6 r11 r12 v7 v8 r13 r14 v9 v10 r15 v11 v12 r16 v13 w14 r17 v15 v16 r18 r19 r20 r21 r22 r23 v17 r24 r25 r26 v18 h1 g0 f19) := hD2
                            clear hP2 hD2
                            obtain rfl : ra73 = ((-1) : Int32) := pv_cs (by decide) pt0_ra73 pt1_ra73
                            have hPc := hP.sub (ws' := []) [] rfl
                            have hDc := hD.sub (ws' := []) [] (by decide) rfl
                            have hKc := hK.sub (tys' := []) [] rfl
                            have hFc := va_free (wc := []) hD hS hA [] rfl
                            refine va_calli (va_runS (As := [.int (-1)]) (rest := []) ⟨hx, hb, hml, hown, hts⟩ (k_X12_isDigit l dC dI ((-1))  H.size) (va_cwS 1 hts g_X12_plainNumber_1 rfl rfl rfl (by decide +kernel) ⟨Nat.le_of_ble_eq_true rfl, Nat.le_of_ble_eq_true rfl⟩) (pv_PS hPc hKc hDc) rfl rfl hl.1 rfl (lv_room (Nat.le_of_ble_eq_true rfl)) dX12_plainNumber_52 ⟨Nat.le_of_ble_eq_true rfl, Nat.le_of_ble_eq_true rfl⟩) hS (fun q _ h => hFc q h) hFc (fun ra74 u t H1 locs ht hvm hwra74 hB hz1 hk1 hS => ?_)
                            try rw [hwra74] at hB
                            have hkra74_0 : (((-1) : Int32)).toInt = -1 := by decide
                            obtain ⟨pt0_ra74, pt1_ra74, pt2_ra74, pt3_ra74, pt4_ra74, hP1, hK1, hD1⟩ := hB
                            rw [ht] at hP1
                            obtain ⟨hP2, hD2⟩ := va_join (wr := (wd_f4cd022e h0 v0 h1 v1 t72 (-1) v3 r0 r1 r2 r3 r4 r5 r6 v4 v5 r7 r8 r9 r10 v6 r11 r12 v7 v8 r13 r14 v9 v10 r15 v11 v12 r16 v13 w14 r17 v15 v16 r18 r19 r20 r21 r22 r23 v17 r24 r25 r26 v18 h1 g0 f19)) (w1 := []) hP hD [] [0, 1] rfl rfl (by decide) (by decide) hk1 hFc hP1 hD1
                            clear hP hD hPc hDc hKc hFc hP1 hK1 hD1 hk1 hz1
                            generalize H1 = H at hP2 hS ⊢
                            have hP : va_P (dC, dI) vwCl (wd_f4cd022e h0 v0 h1 v1 t72 (-1) v3 r0 r1 r2 r3 r4 r5 r6 v4 v5 r7 r8 r9 r10 v6 r11 r12 v7 v8 r13 r14 v9 v10 r15 v11 v12 r16 v13 w14 r17 v15 v16 r18 r19 r20 r21 r22 r23 v17 r24 r25 r26 v18 h1 g0 f19) H := hP2
                            have hD : va_D A (wd_f4cd022e h0 v0 h1 v1 t72 (-1) v3 r0 r1 r2 r3 r4 r5 r6 v4 v5 r7 r8 r9 r10 v6 r11 r12 v7 v8 r13 r14 v9 v10 r15 v11 v12 r16 v13 w14 r17 v15 v16 r18 r19 r20 r21 r22 r23 v17 r24 r25 r26 v18 h1 g0 f19) := hD2
                            clear hP2 hD2
                            refine lv_if_eq (tgt := 62) hx hb dX12_plainNumber_55 (by decide) (fun c75 => ?_) (fun c75 => ?_)
                            · skip
                              have fc75 : ra74.toInt = 0 := congrArg Int32.toInt c75
                              refine lv_iload_n hx hb dX12_plainNumber_62 rfl (lv_at hl 1 rfl) ?_
                              subst hQ
                              have hP9 := hP.sub (ws' := (wd_f4cd022e h0 v0 h1 v1 t72 (-1) v3 r0 r1 r2 r3 r4 r5 r6 v4 v5 r7 r8 r9 r10 v6 r11 r12 v7 v8 r13 r14 v9 v10 r15 v11 v12 r16 v13 w14 r17 v15 v16 r18 r19 r20 r21 r22 r23 v17 r24 r25 r26 v18 h1 g0 f19)) [0, 1] rfl
                              have hD9 := hD.sub (ws' := (wd_f4cd022e h0 v0 h1 v1 t72 (-1) v3 r0 r1 r2 r3 r4 r5 r6 v4 v5 r7 r8 r9 r10 v6 r11 r12 v7 v8 r13 r14 v9 v10 r15 v11 v12 r16 v13 w14 r17 v15 v16 r18 r19 r20 r21 r22 r23 v17 r24 r25 r26 v18 h1 g0 f19)) [0, 1] (by decide) rfl
                              have hK9 := hK.sub (tys' := []) [] rfl
                              exact W.iret (v := t71) hx hb hr (fun t ht hW => ⟨⟨t71, t71, rfl, rfl, Or.inl ⟨t72, by first | omega | decide, by first | omega | decide, by first | omega | decide, by first | omega | decide, by omega, by first | exact hnm.trans (pg_nm.stop (by omega)) | exact hnm.trans (pg_nm.over (by omega) (by omega) (by omega)) | (exfalso; omega), by rw [ht]; exact hP9, va_K.moved hW.alike hK9, hD9⟩⟩, hS.F ht⟩) hS.2.2 dX12_plainNumber_63
                            · skip
                              have fc75 : ¬ (ra74.toInt = 0) := fun h9 => c75 (Int32.toInt_inj.mp h9)
                              exfalso; omega
                          · skip
                            obtain ⟨pt0_ra73, pt1_ra73, pt2_ra73, pt3_ra73, pt4_ra73, hP1, hK1, hD1⟩ := hB
                            rw [ht] at hP1
                            obtain ⟨hP2, hD2⟩ := va_join (wr := []) (w1 := (wd_f4cd022e h0 v0 h1 v1 t72 (-1) v3 r0 r1 r2 r3 r4 r5 r6 v4 v5 r7 r8 r9 r10 v6 r11 r12 v7 v8 r13 r14 v9 v10 r15 v11 v12 r16 v13 w14 r17 v15 v16 r18 r19 r20 r21 r22 r23 v17 r24 r25 r26 v18 h1 g0 f19)) hP hD [0, 1] [] rfl rfl (by decide) (by decide) hk1 hFc hP1 hD1
                            clear hP hD hPc hDc hKc hFc hP1 hK1 hD1 hk1 hz1
                            generalize H1 = H at hP2 hS ⊢
                            have hP : va_P (dC, dI) vwCl (wd_f4cd022e h0 v0 h1 v1 t72 (-1) v3 r0 r1 r2 r3 r4 r5 r6 v4 v5 r7 r8 r9 r10 v6 r11 r12 v7 v8 r13 r14 v9 v10 r15 v11 v12 r16 v13 w14 r17 v15 v16 r18 r19 r20 r21 r22 r23 v17 r24 r25 r26 v18 h1 g0 f19) H := hP2
                            have hD : va_D A (wd_f4cd022e h0 v0 h1 v1 t72 (-1) v3 r0 r1 r2 r3 r4 r5 r6 v4 v5 r7 r8 r9 r10 v6 r11 r12 v7 v8 r13 r14 v9 v10 r15 v11 v12 r16 v13 w14 r17 v15 v16 r18 r19 r20 r21 r22 r23 v17 r24 r25 r26 v18 h1 g0 f19) := hD2
                            clear hP2 hD2
                            have hPc := hP.sub (ws' := []) [] rfl
                            have hDc := hD.sub (ws' := []) [] (by decide) rfl
                            have hKc := hK.sub (tys' := []) [] rfl
                            have hFc := va_free (wc := []) hD hS hA [] rfl
                            refine va_calli (va_runS (As := [.int ra73]) (rest := []) ⟨hx, hb, hml, hown, hts⟩ (k_X12_isDigit l dC dI ra73  H.size) (va_cwS 1 hts g_X12_plainNumber_1 rfl rfl rfl (by decide +kernel) ⟨Nat.le_of_ble_eq_true rfl, Nat.le_of_ble_eq_true rfl⟩) (pv_PS hPc hKc hDc) rfl rfl hl.1 rfl (lv_room (Nat.le_of_ble_eq_true rfl)) dX12_plainNumber_52 ⟨Nat.le_of_ble_eq_true rfl, Nat.le_of_ble_eq_true rfl⟩) hS (fun q _ h => hFc q h) hFc (fun ra76 u t H1 locs ht hvm hwra76 hB hz1 hk1 hS => ?_)
                            try rw [hwra76] at hB
                            obtain ⟨pt0_ra76, pt1_ra76, pt2_ra76, pt3_ra76, pt4_ra76, hP1, hK1, hD1⟩ := hB
                            rw [ht] at hP1
                            obtain ⟨hP2, hD2⟩ := va_join (wr := (wd_f4cd022e h0 v0 h1 v1 t72 (-1) v3 r0 r1 r2 r3 r4 r5 r6 v4 v5 r7 r8 r9 r10 v6 r11 r12 v7 v8 r13 r14 v9 v10 r15 v11 v12 r16 v13 w14 r17 v15 v16 r18 r19 r20 r21 r22 r23 v17 r24 r25 r26 v18 h1 g0 f19)) (w1 := []) hP hD [] [0, 1] rfl rfl (by decide) (by decide) hk1 hFc hP1 hD1
                            clear hP hD hPc hDc hKc hFc hP1 hK1 hD1 hk1 hz1
                            generalize H1 = H at hP2 hS ⊢
                            have hP : va_P (dC, dI) vwCl (wd_f4cd022e h0 v0 h1 v1 t72 (-1) v3 r0 r1 r2 r3 r4 r5 r6 v4 v5 r7 r8 r9 r10 v6 r11 r12 v7 v8 r13 r14 v9 v10 r15 v11 v12 r16 v13 w14 r17 v15 v16 r18 r19 r20 r21 r22 r23 v17 r24 r25 r26 v18 h1 g0 f19) H := hP2
                            have hD : va_D A (wd_f4cd022e h0 v0 h1 v1 t72 (-1) v3 r0 r1 r2 r3 r4 r5 r6 v4 v5 r7 r8 r9 r10 v6 r11 r12 v7 v8 r13 r14 v9 v10 r15 v11 v12 r16 v13 w14 r17 v15 v16 r18 r19 r20 r21 r22 r23 v17 r24 r25 r26 v18 h1 g0 f19) := hD2
                            clear hP2 hD2
                            refine lv_if_eq (tgt := 62) hx hb dX12_plainNumber_55 (by decide) (fun c77 => ?_) (fun c77 => ?_)
                            · skip
                              have fc77 : ra76.toInt = 0 := congrArg Int32.toInt c77
                              refine lv_iload_n hx hb dX12_plainNumber_62 rfl (lv_at hl 1 rfl) ?_
                              subst hQ
                              have hP9 := hP.sub (ws' := (wd_f4cd022e h0 v0 h1 v1 t72 (-1) v3 r0 r1 r2 r3 r4 r5 r6 v4 v5 r7 r8 r9 r10 v6 r11 r12 v7 v8 r13 r14 v9 v10 r15 v11 v12 r16 v13 w14 r17 v15 v16 r18 r19 r20 r21 r22 r23 v17 r24 r25 r26 v18 h1 g0 f19)) [0, 1] rfl
                              have hD9 := hD.sub (ws' := (wd_f4cd022e h0 v0 h1 v1 t72 (-1) v3 r0 r1 r2 r3 r4 r5 r6 v4 v5 r7 r8 r9 r10 v6 r11 r12 v7 v8 r13 r14 v9 v10 r15 v11 v12 r16 v13 w14 r17 v15 v16 r18 r19 r20 r21 r22 r23 v17 r24 r25 r26 v18 h1 g0 f19)) [0, 1] (by decide) rfl
                              have hK9 := hK.sub (tys' := []) [] rfl
                              exact W.iret (v := t71) hx hb hr (fun t ht hW => ⟨⟨t71, t71, rfl, rfl, Or.inl ⟨t72, by first | omega | decide, by first | omega | decide, by first | omega | decide, by first | omega | decide, by omega, by first | exact hnm.trans (pg_nm.stop (by omega)) | exact hnm.trans (pg_nm.over (by omega) (by omega) (by omega)) | (exfalso; omega), by rw [ht]; exact hP9, va_K.moved hW.alike hK9, hD9⟩⟩, hS.F ht⟩) hS.2.2 dX12_plainNumber_63
                            · skip
                              have fc77 : ¬ (ra76.toInt = 0) := fun h9 => c77 (Int32.toInt_inj.mp h9)
                              refine lv_aload_n hx hb dX12_plainNumber_58 rfl (lv_at hl 2 rfl) ?_
                              have hPc := hP.sub (ws' := (wd_171f232f h0 v0 h1 v1 t72 (-1) v3 r0 r1 r2 r3 r4 r5 r6 v4 v5 r7 r8 r9 r10 v6 r11 r12 v7 v8 r13 r14 v9 v10 r15 v11 v12 r16 v13 w14 r17 v15 v16 r18 r19 r20 r21 r22 r23 v17 r24 r25 r26 v18)) [0] rfl
                              have hDc := hD.sub (ws' := (wd_171f232f h0 v0 h1 v1 t72 (-1) v3 r0 r1 r2 r3 r4 r5 r6 v4 v5 r7 r8 r9 r10 v6 r11 r12 v7 v8 r13 r14 v9 v10 r15 v11 v12 r16 v13 w14 r17 v15 v16 r18 r19 r20 r21 r22 r23 v17 r24 r25 r26 v18)) [0] (by decide) rfl
                              have hKc := hK.sub (tys' := []) [] rfl
                              have hFc := va_free (wc := (wd_171f232f h0 v0 h1 v1 t72 (-1) v3 r0 r1 r2 r3 r4 r5 r6 v4 v5 r7 r8 r9 r10 v6 r11 r12 v7 v8 r13 r14 v9 v10 r15 v11 v12 r16 v13 w14 r17 v15 v16 r18 r19 r20 r21 r22 r23 v17 r24 r25 r26 v18)) hD hS hA [0] rfl
                              refine va_callv (va_runV (As := []) (rest := []) ⟨hx, hb, hml, hown, hts⟩ (k_X12_bad l dC dI h0 v0 h1 v1 t72 v3 r0 r1 r2 r3 r4 r5 r6 v4 v5 r7 r8 r9 r10 v6 r11 r12 v7 v8 r13 r14 v9 v10 r15 v11 v12 r16 v13 w14 r17 v15 v16 r18 r19 r20 r21 r22 r23 v17 r24 r25 r26 v18 ⟨i_v1a, i_v1b⟩ ⟨by first | omega | decide, by first | omega | decide⟩ ⟨i_v4a, i_v4b⟩ ⟨i_v5a, i_v5b⟩ ⟨i_v6a, i_v6b⟩ ⟨i_v7a, i_v7b⟩ ⟨i_v8a, i_v8b⟩ ⟨i_v9a, i_v9b⟩ ⟨i_v13a, i_v13b⟩ ⟨i_v17a, i_v17b⟩ ⟨i_v18a, i_v18b⟩ H.size) (cwV 0 hts g_X12_plainNumber_7 rfl rfl rfl (by decide +kernel) ⟨Nat.le_of_ble_eq_true rfl, Nat.le_of_ble_eq_true rfl⟩) (pv_PV12 hPc hKc hDc (q0 := 0) rfl) rfl rfl hl.1 rfl (lv_room (Nat.le_of_ble_eq_true rfl)) dX12_plainNumber_59 ⟨Nat.le_of_ble_eq_true rfl, Nat.le_of_ble_eq_true rfl⟩) hS (fun q _ h => hFc q h) hFc (fun u t H1 locs ht hvm hwra78 hB hz1 hk1 hS => ?_)
                              obtain ⟨x79, oa_x79, ob_x79, pt0_ra78, hP1, hK1, hD1⟩ := hB
                              rw [ht] at hP1
                              obtain ⟨hP2, hD2⟩ := va_join (wr := (wd_d0032b31 h1 g0 f19)) (w1 := (wd_171f232f h0 v0 h1 v1 t72 x79 v3 r0 r1 r2 r3 r4 r5 r6 v4 v5 r7 r8 r9 r10 v6 r11 r12 v7 v8 r13 r14 v9 v10 r15 v11 v12 r16 v13 w14 r17 v15 v16 r18 r19 r20 r21 r22 r23 v17 r24 r25 r26 v18)) hP hD [0] [1] rfl rfl (by decide) (by decide) hk1 hFc hP1 hD1
                              clear hP hD hPc hDc hKc hFc hP1 hK1 hD1 hk1 hz1
                              generalize H1 = H at hP2 hS ⊢
                              have hP := hP2.sub (ws' := (wd_f4cd022e h0 v0 h1 v1 t72 x79 v3 r0 r1 r2 r3 r4 r5 r6 v4 v5 r7 r8 r9 r10 v6 r11 r12 v7 v8 r13 r14 v9 v10 r15 v11 v12 r16 v13 w14 r17 v15 v16 r18 r19 r20 r21 r22 r23 v17 r24 r25 r26 v18 h1 g0 f19)) [1, 0] rfl
                              have hD := hD2.sub (ws' := (wd_f4cd022e h0 v0 h1 v1 t72 x79 v3 r0 r1 r2 r3 r4 r5 r6 v4 v5 r7 r8 r9 r10 v6 r11 r12 v7 v8 r13 r14 v9 v10 r15 v11 v12 r16 v13 w14 r17 v15 v16 r18 r19 r20 r21 r22 r23 v17 r24 r25 r26 v18 h1 g0 f19)) [1, 0] (by decide) rfl
                              clear hP2 hD2
                              refine lv_iload_n hx hb dX12_plainNumber_62 rfl (lv_at hl 1 rfl) ?_
                              subst hQ
                              have hP9 := hP.sub (ws' := (wd_f4cd022e h0 v0 h1 v1 t72 x79 v3 r0 r1 r2 r3 r4 r5 r6 v4 v5 r7 r8 r9 r10 v6 r11 r12 v7 v8 r13 r14 v9 v10 r15 v11 v12 r16 v13 w14 r17 v15 v16 r18 r19 r20 r21 r22 r23 v17 r24 r25 r26 v18 h1 g0 f19)) [0, 1] rfl
                              have hD9 := hD.sub (ws' := (wd_f4cd022e h0 v0 h1 v1 t72 x79 v3 r0 r1 r2 r3 r4 r5 r6 v4 v5 r7 r8 r9 r10 v6 r11 r12 v7 v8 r13 r14 v9 v10 r15 v11 v12 r16 v13 w14 r17 v15 v16 r18 r19 r20 r21 r22 r23 v17 r24 r25 r26 v18 h1 g0 f19)) [0, 1] (by decide) rfl
                              have hK9 := hK.sub (tys' := []) [] rfl
                              exact W.iret (v := t71) hx hb hr (fun t ht hW => ⟨⟨t71, t71, rfl, rfl, Or.inr (⟨t72, x79, by first | omega | decide, by first | omega | decide, oa_x79, ob_x79, by first | omega | decide, by first | omega | decide, by omega, by first | exact hnm.trans (pg_nm.stop (by omega)) | exact hnm.trans (pg_nm.over (by omega) (by omega) (by omega)) | (exfalso; omega), by rw [ht]; exact hP9, va_K.moved hW.alike hK9, hD9⟩)⟩, hS.F ht⟩) hS.2.2 dX12_plainNumber_63
def q_X12_atom : List Cond := .code yX12_atom cX12_atom 2 none :: (([.code yX12_look cX12_look 1 (some .int), .code yX12_here cX12_here 1 (some .int), .fieldLink RX12 112 "LeftArgumentsModel" "at" "I", .fieldLink RX12 109 "LeftArgumentsModel" "size" "I", .fieldLink RX12 9 "LeftArgumentsModel" "tape" "[I", .initialized RX12, .instanceMethod yX12_here, .selects RX12 yX12_here yX12_here, .methodLink RX12 115 yX12_here, .instanceMethod yX12_look, .selects RX12 yX12_look yX12_look, .methodLink RX12 131 yX12_look, .code yX12_isDigit cX12_isDigit 1 (some .boolean), .static yX12_isDigit, .methodLink RX12 134 yX12_isDigit, .code yX12_letterOf cX12_letterOf 1 (some .int), .static yX12_letterOf, .methodLink RX12 145 yX12_letterOf, .code yX12_bad cX12_bad 1 none, .fieldLink RX12 119 "LeftArgumentsModel" "wrong" "I", .instanceMethod yX12_bad, .selects RX12 yX12_bad yX12_bad, .methodLink RX12 128 yX12_bad, .code yX12_opens cX12_opens 1 none, .fieldLink RX12 125 "LeftArgumentsModel" "deep" "I", .instanceMethod yX12_opens, .selects RX12 yX12_opens yX12_opens, .methodLink RX12 149 yX12_opens, .code yX12_put cX12_put 3 none, .fieldLink RX12 13 "LeftArgumentsModel" "code" "[I", .fieldLink RX12 122 "LeftArgumentsModel" "text" "I", .fieldLink RX12 19 "LeftArgumentsModel" "codes" "[I", .fieldLink RX12 16 "LeftArgumentsModel" "value" "[I", .instanceMethod yX12_put, .selects RX12 yX12_put yX12_put, .methodLink RX12 141 yX12_put, .code yX12_plainNumber cX12_plainNumber 3 (some .int), .instanceMethod yX12_plainNumber, .selects RX12 yX12_plainNumber yX12_plainNumber, .methodLink RX12 138 yX12_plainNumber] : List Cond) ++ wsX120)
set_option maxRecDepth 20000 in
theorem g_X12_atom_0 : GoodIn q_X12_atom (wsV RX12 131 RX12 yX12_look q_X12_look) := goodIn_app (goodIn_r _ [12, 10, 11, 6] rfl (by decide +kernel)) (goodIn_ca (goodIn_r (.code yX12_look cX12_look 1 (some .int) :: [.code yX12_here cX12_here 1 (some .int), .fieldLink RX12 112 "LeftArgumentsModel" "at" "I", .fieldLink RX12 109 "LeftArgumentsModel" "size" "I", .fieldLink RX12 9 "LeftArgumentsModel" "tape" "[I", .initialized RX12, .instanceMethod yX12_here, .selects RX12 yX12_here yX12_here, .methodLink RX12 115 yX12_here]) [1, 2, 3, 4, 5, 6, 7, 8, 9] rfl (by decide +kernel)) (goodIn_sub (fun _ h => List.mem_cons_of_mem _ (List.mem_append_right _ h)) gwX12))
set_option maxRecDepth 20000 in
theorem g_X12_atom_1 : GoodIn q_X12_atom (va_wsS RX12 134 yX12_isDigit q_X12_isDigit) := goodIn_app (goodIn_r _ [15, 14, 6] rfl (by decide +kernel)) (goodIn_r (.code yX12_isDigit cX12_isDigit 1 (some .boolean) :: []) [13] rfl (by decide +kernel))
set_option maxRecDepth 20000 in
theorem g_X12_atom_2 : GoodIn q_X12_atom (va_wsS RX12 145 yX12_letterOf q_X12_letterOf) := goodIn_app (goodIn_r _ [18, 17, 6] rfl (by decide +kernel)) (goodIn_r (.code yX12_letterOf cX12_letterOf 1 (some .int) :: []) [16] rfl (by decide +kernel))
set_option maxRecDepth 20000 in
theorem g_X12_atom_3 : GoodIn q_X12_atom (wsV RX12 128 RX12 yX12_bad q_X12_bad) := goodIn_app (goodIn_r _ [23, 21, 22, 6] rfl (by decide +kernel)) (goodIn_ca (goodIn_r (.code yX12_bad cX12_bad 1 none :: [.fieldLink RX12 119 "LeftArgumentsModel" "wrong" "I", .fieldLink RX12 112 "LeftArgumentsModel" "at" "I"]) [19, 20, 3] rfl (by decide +kernel)) (goodIn_sub (fun _ h => List.mem_cons_of_mem _ (List.mem_append_right _ h)) gwX12))
set_option maxRecDepth 20000 in
theorem g_X12_atom_7 : GoodIn q_X12_atom (wsV RX12 149 RX12 yX12_opens q_X12_opens) := goodIn_app (goodIn_r _ [28, 26, 27, 6] rfl (by decide +kernel)) (goodIn_ca (goodIn_r (.code yX12_opens cX12_opens 1 none :: [.fieldLink RX12 125 "LeftArgumentsModel" "deep" "I", .code yX12_bad cX12_bad 1 none, .fieldLink RX12 119 "LeftArgumentsModel" "wrong" "I", .fieldLink RX12 112 "LeftArgumentsModel" "at" "I", .initialized RX12, .instanceMethod yX12_bad, .selects RX12 yX12_bad yX12_bad, .methodLink RX12 128 yX12_bad]) [24, 25, 19, 20, 3, 6, 21, 22, 23] rfl (by decide +kernel)) (goodIn_sub (fun _ h => List.mem_cons_of_mem _ (List.mem_append_right _ h)) gwX12))
set_option maxRecDepth 20000 in
theorem g_X12_atom_9 : GoodIn q_X12_atom (wsV RX12 141 RX12 yX12_put q_X12_put) := goodIn_app (goodIn_r _ [36, 34, 35, 6] rfl (by decide +kernel)) (goodIn_ca (goodIn_r (.code yX12_put cX12_put 3 none :: [.fieldLink RX12 13 "LeftArgumentsModel" "code" "[I", .fieldLink RX12 122 "LeftArgumentsModel" "text" "I", .fieldLink RX12 19 "LeftArgumentsModel" "codes" "[I", .fieldLink RX12 16 "LeftArgumentsModel" "value" "[I"]) [29, 30, 31, 32, 33] rfl (by decide +kernel)) (goodIn_sub (fun _ h => List.mem_cons_of_mem _ (List.mem_append_right _ h)) gwX12))
set_option maxRecDepth 20000 in
theorem g_X12_atom_10 : GoodIn q_X12_atom (wsV RX12 138 RX12 yX12_plainNumber q_X12_plainNumber) := goodIn_app (goodIn_r _ [40, 38, 39, 6] rfl (by decide +kernel)) (goodIn_ca (goodIn_r (.code yX12_plainNumber cX12_plainNumber 3 (some .int) :: [.code yX12_here cX12_here 1 (some .int), .fieldLink RX12 112 "LeftArgumentsModel" "at" "I", .fieldLink RX12 109 "LeftArgumentsModel" "size" "I", .fieldLink RX12 9 "LeftArgumentsModel" "tape" "[I", .initialized RX12, .instanceMethod yX12_here, .selects RX12 yX12_here yX12_here, .methodLink RX12 115 yX12_here, .code yX12_isDigit cX12_isDigit 1 (some .boolean), .static yX12_isDigit, .methodLink RX12 134 yX12_isDigit, .code yX12_bad cX12_bad 1 none, .fieldLink RX12 119 "LeftArgumentsModel" "wrong" "I", .instanceMethod yX12_bad, .selects RX12 yX12_bad yX12_bad, .methodLink RX12 128 yX12_bad]) [37, 2, 3, 4, 5, 6, 7, 8, 9, 13, 14, 15, 19, 20, 21, 22, 23] rfl (by decide +kernel)) (goodIn_sub (fun _ h => List.mem_cons_of_mem _ (List.mem_append_right _ h)) gwX12))
set_option maxHeartbeats 4000000 in
set_option maxRecDepth 100000 in
theorem k_X12_atom (l : Launch) (dC : Nat → ClassId) (dI : Nat → Nat → Nat) (h0 : Nat) (h1 : Nat) (h2 : Nat) (h3 : Nat) (h4 : Nat) (v0 : Int32) (v1 : Int32) (v2 : Int32) (r0 : Nat) (r1 : Nat) (r2 : Nat) (r3 : Nat) (v3 : Int32) (v4 : Int32) (r4 : Nat) (r5 : Nat) (r6 : Nat) (r7 : Nat) (v5 : Int32) (r8 : Nat) (r9 : Nat) (v6 : Int32) (v7 : Int32) (r10 : Nat) (r11 : Nat) (v8 : Int32) (v9 : Int32) (r12 : Nat) (v10 : Int32) (v11 : Int32) (r13 : Nat) (v12 : Int32) (w13 : Int64) (r14 : Nat) (v14 : Int32) (v15 : Int32) (r15 : Nat) (r16 : Nat) (r17 : Nat) (r18 : Nat) (r19 : Nat) (r20 : Nat) (v16 : Int32) (r21 : Nat) (r22 : Nat) (r23 : Nat) (v17 : Int32) (g0 : ClassId) (f18 : Nat → Int32) (g1 : ClassId) (f19 : Nat → Int32) (g2 : ClassId) (f20 : Nat → Int32) (g3 : ClassId) (f21 : Nat → Int32) (i_v1 : 0 ≤ v1.toInt ∧ v1.toInt ≤ 240) (i_v2 : 0 ≤ v2.toInt ∧ v2.toInt ≤ 240) (i_v3 : 0 ≤ v3.toInt ∧ v3.toInt ≤ 4) (i_v4 : 0 ≤ v4.toInt ∧ v4.toInt ≤ 4) (i_v5 : 0 ≤ v5.toInt ∧ v5.toInt ≤ 8) (i_v6 : 0 ≤ v6.toInt ∧ v6.toInt ≤ 8) (i_v7 : 0 ≤ v7.toInt ∧ v7.toInt ≤ 1) (i_v8 : -1 ≤ v8.toInt ∧ v8.toInt ≤ 3) (i_v12 : 0 ≤ v12.toInt ∧ v12.toInt ≤ 40) (i_v16 : 0 ≤ v16.toInt ∧ v16.toInt ≤ 10) (i_v17 : 0 ≤ v17.toInt ∧ v17.toInt ≤ 1) (ia_f18 : (∀ j, 0 ≤ (f18 j).toInt ∧ (f18 j).toInt ≤ 255)) (pp0 : 0 ≤ pm_x f21 v4 ∧ pm_x f21 v4 ≤ v2.toInt) (sz : Nat) : Met l yX12_atom q_X12_atom ({ frames := 2, cells := 0, slots := 0, locals := 42 }) (va_Pc [.ref h0] (fun U => U.heap.size = sz ∧ va_P (dC, dI) vwCl (wd_d906eaf1 h0 v0 h1 v1 v2 (-1) 6 h2 h3 h4 r0 r1 r2 r3 v3 v4 r4 r5 r6 r7 v5 r8 r9 v6 v7 r10 r11 v8 v9 r12 v10 v11 r13 v12 w13 r14 v14 v15 r15 r16 r17 r18 r19 r20 v16 r21 r22 r23 v17 h1 g0 f18 h2 g1 f19 h3 g2 f20 h4 g3 f21) U.heap ∧ va_K (dC, dI) vwCl [(g0, .int), (g1, .int), (g2, .int), (g3, .int)] U ∧ va_D (fun _ => True) (wd_d906eaf1 h0 v0 h1 v1 v2 (-1) 6 h2 h3 h4 r0 r1 r2 r3 v3 v4 r4 r5 r6 r7 v5 r8 r9 v6 v7 r10 r11 v8 v9 r12 v10 v11 r13 v12 w13 r14 v14 v15 r15 r16 r17 r18 r19 r20 v16 r21 r22 r23 v17 h1 g0 f18 h2 g1 f19 h3 g2 f20 h4 g3 f21))) (va_Qv (fun (_ : Unit) => True) (fun (_ : Unit) (t : State) => (∃ (o_h0_3 : Int32) (o_h2 : Nat → Int32) (o_h3 : Nat → Int32) (o_h4 : Nat → Int32), 0 ≤ o_h0_3.toInt ∧ o_h0_3.toInt ≤ 240 ∧ (pm_x o_h4 v4 - pm_x f21 v4 ≤ o_h0_3.toInt - v2.toInt ∧ v2.toInt ≤ o_h0_3.toInt) ∧ (pm_R v4 0 1 1 f19 f20 f21 o_h2 o_h3 o_h4) ∧ (pg_atom f18 v1.toInt 0 v2.toInt = (true, o_h0_3.toInt)) ∧ va_P (dC, dI) vwCl (wd_d906eaf1 h0 v0 h1 v1 o_h0_3 (-1) 6 h2 h3 h4 r0 r1 r2 r3 v3 v4 r4 r5 r6 r7 v5 r8 r9 v6 v7 r10 r11 v8 v9 r12 v10 v11 r13 v12 w13 r14 v14 v15 r15 r16 r17 r18 r19 r20 v16 r21 r22 r23 v17 h1 g0 f18 h2 g1 o_h2 h3 g2 o_h3 h4 g3 o_h4) t.heap ∧ va_K (dC, dI) vwCl [] t ∧ va_D (va_A (wd_d906eaf1 h0 v0 h1 v1 v2 (-1) 6 h2 h3 h4 r0 r1 r2 r3 v3 v4 r4 r5 r6 r7 v5 r8 r9 v6 v7 r10 r11 v8 v9 r12 v10 v11 r13 v12 w13 r14 v14 v15 r15 r16 r17 r18 r19 r20 v16 r21 r22 r23 v17 h1 g0 f18 h2 g1 f19 h3 g2 f20 h4 g3 f21) sz) (wd_d906eaf1 h0 v0 h1 v1 o_h0_3 (-1) 6 h2 h3 h4 r0 r1 r2 r3 v3 v4 r4 r5 r6 r7 v5 r8 r9 v6 v7 r10 r11 v8 v9 r12 v10 v11 r13 v12 w13 r14 v14 v15 r15 r16 r17 r18 r19 r20 v16 r21 r22 r23 v17 h1 g0 f18 h2 g1 o_h2 h3 g2 o_h3 h4 g3 o_h4)) ∨ (∃ (o_h0_3 : Int32) (o_h0_4 : Int32) (o_h0_5 : Int32) (o_h2 : Nat → Int32) (o_h3 : Nat → Int32) (o_h4 : Nat → Int32), 0 ≤ o_h0_3.toInt ∧ o_h0_3.toInt ≤ 240 ∧ 0 ≤ o_h0_4.toInt ∧ o_h0_4.toInt ≤ 240 ∧ 6 ≤ o_h0_5.toInt ∧ o_h0_5.toInt ≤ 7 ∧ (pm_x o_h4 v4 - pm_x f21 v4 ≤ o_h0_3.toInt - v2.toInt ∧ v2.toInt ≤ o_h0_3.toInt) ∧ (pm_F v4 f19 f20 f21 o_h2 o_h3 o_h4) ∧ (pg_atom f18 v1.toInt 0 v2.toInt = (false, o_h0_4.toInt)) ∧ va_P (dC, dI) vwCl (wd_d906eaf1 h0 v0 h1 v1 o_h0_3 o_h0_4 o_h0_5 h2 h3 h4 r0 r1 r2 r3 v3 v4 r4 r5 r6 r7 v5 r8 r9 v6 v7 r10 r11 v8 v9 r12 v10 v11 r13 v12 w13 r14 v14 v15 r15 r16 r17 r18 r19 r20 v16 r21 r22 r23 v17 h1 g0 f18 h2 g1 o_h2 h3 g2 o_h3 h4 g3 o_h4) t.heap ∧ va_K (dC, dI) vwCl [] t ∧ va_D (va_A (wd_d906eaf1 h0 v0 h1 v1 v2 (-1) 6 h2 h3 h4 r0 r1 r2 r3 v3 v4 r4 r5 r6 r7 v5 r8 r9 v6 v7 r10 r11 v8 v9 r12 v10 v11 r13 v12 w13 r14 v14 v15 r15 r16 r17 r18 r19 r20 v16 r21 r22 r23 v17 h1 g0 f18 h2 g1 f19 h3 g2 f20 h4 g3 f21) sz) (wd_d906eaf1 h0 v0 h1 v1 o_h0_3 o_h0_4 o_h0_5 h2 h3 h4 r0 r1 r2 r3 v3 v4 r4 r5 r6 r7 v5 r8 r9 v6 v7 r10 r11 v8 v9 r12 v10 v11 r13 v12 w13 r14 v14 v15 r15 r16 r17 r18 r19 r20 v16 r21 r22 r23 v17 h1 g0 f18 h2 g1 o_h2 h3 g2 o_h3 h4 g3 o_h4))) (va_A (wd_d906eaf1 h0 v0 h1 v1 v2 (-1) 6 h2 h3 h4 r0 r1 r2 r3 v3 v4 r4 r5 r6 r7 v5 r8 r9 v6 v7 r10 r11 v8 v9 r12 v10 v11 r13 v12 w13 r14 v14 v15 r15 r16 r17 r18 r19 r20 v16 r21 r22 r23 v17 h1 g0 f18 h2 g1 f19 h3 g2 f20 h4 g3 f21) sz)) 0 0 (va_A (wd_d906eaf1 h0 v0 h1 v1 v2 (-1) 6 h2 h3 h4 r0 r1 r2 r3 v3 v4 r4 r5 r6 r7 v5 r8 r9 v6 v7 r10 r11 v8 v9 r12 v10 v11 r13 v12 w13 r14 v14 v15 r15 r16 r17 r18 r19 r20 v16 r21 r22 r23 v17 h1 g0 f18 h2 g1 f19 h3 g2 f20 h4 g3 f21) sz) := by
  refine Met.ofW (cc := cX12_atom) (maxL := 2) (ret := none) (by decide) rfl ?_
  intro p e s m args below meth c s₁ B hml hv
  obtain ⟨i_v1a, i_v1b⟩ := i_v1
  obtain ⟨i_v2a, i_v2b⟩ := i_v2
  obtain ⟨i_v3a, i_v3b⟩ := i_v3
  obtain ⟨i_v4a, i_v4b⟩ := i_v4
  obtain ⟨i_v5a, i_v5b⟩ := i_v5
  obtain ⟨i_v6a, i_v6b⟩ := i_v6
  obtain ⟨i_v7a, i_v7b⟩ := i_v7
  obtain ⟨i_v8a, i_v8b⟩ := i_v8
  obtain ⟨i_v12a, i_v12b⟩ := i_v12
  obtain ⟨i_v16a, i_v16b⟩ := i_v16
  obtain ⟨i_v17a, i_v17b⟩ := i_v17
  obtain ⟨rfl, hsz, hP, hK, hD0⟩ := hv
  have hx := B.exec
  have hb := B.bytes
  have hr := B.returns
  have hts := atoms_spec (ws := q_X12_atom) B.pre
  have hown : s.vm.findClass RX12 = some m.cls := findClass_of_methodNamed B.named
  have hlocks := B.notSynchronized
  subst hsz
  have hD := hD0.self (sz := s.heap.size)
  generalize hAe : va_A (wd_d906eaf1 h0 v0 h1 v1 v2 (-1) 6 h2 h3 h4 r0 r1 r2 r3 v3 v4 r4 r5 r6 r7 v5 r8 r9 v6 v7 r10 r11 v8 v9 r12 v10 v11 r13 v12 w13 r14 v14 v15 r15 r16 r17 r18 r19 r20 v16 r21 r22 r23 v17 h1 g0 f18 h2 g1 f19 h3 g2 f20 h4 g3 f21) s.heap.size = A at hD ⊢
  have hA : ∀ q : Nat, s.heap.size ≤ q → A q := fun q h => by rw [← hAe]; exact Or.inr h
  have hS : va_S A s.heap s.heap [] := va_S.rf
  generalize hQ : (MQ below _ _ s 0 0 A) = Q
  have hl := lv_entry ([.ref h0]) (n := 2) (Nat.le_of_ble_eq_true rfl)
  rw [lg_entry_eq]
  generalize (lg_sl ([.ref h0]) ++ List.replicate (2 - (lg_sl ([.ref h0])).length) Slot.unset).toArray = ls at hl ⊢
  have hl : lv_has ls 2 [(0, .ref h0)] := hl
  obtain ⟨H, hH⟩ : ∃ H : Heap, H = s.heap := ⟨_, rfl⟩
  obtain ⟨locs, hlocs⟩ : ∃ y : List Loc, y = [] := ⟨_, rfl⟩
  have hS : va_S A s.heap H locs := by rw [hH, hlocs]; exact va_S.rf
  have hP : va_P (dC, dI) vwCl (wd_d906eaf1 h0 v0 h1 v1 v2 (-1) 6 h2 h3 h4 r0 r1 r2 r3 v3 v4 r4 r5 r6 r7 v5 r8 r9 v6 v7 r10 r11 v8 v9 r12 v10 v11 r13 v12 w13 r14 v14 v15 r15 r16 r17 r18 r19 r20 v16 r21 r22 r23 v17 h1 g0 f18 h2 g1 f19 h3 g2 f20 h4 g3 f21) H := by rw [hH]; exact hP
  rw [← hH, ← hlocs]
  obtain ⟨px1, px2⟩ := pp0
  have hgR := pm_R.refl (L := 0) v4 f19 f20 f21 px1
  have hgF := hgR.1
  refine lv_aload_n hx hb dX12_atom_0 rfl (lv_at hl 0 rfl) ?_
  have hPc := hP.sub (ws' := (wd_f4cd022e h0 v0 h1 v1 v2 (-1) 6 h2 h3 h4 r0 r1 r2 r3 v3 v4 r4 r5 r6 r7 v5 r8 r9 v6 v7 r10 r11 v8 v9 r12 v10 v11 r13 v12 w13 r14 v14 v15 r15 r16 r17 r18 r19 r20 v16 r21 r22 r23 v17 h1 g0 f18)) [0, 1] rfl
  have hDc := hD.sub (ws' := (wd_f4cd022e h0 v0 h1 v1 v2 (-1) 6 h2 h3 h4 r0 r1 r2 r3 v3 v4 r4 r5 r6 r7 v5 r8 r9 v6 v7 r10 r11 v8 v9 r12 v10 v11 r13 v12 w13 r14 v14 v15 r15 r16 r17 r18 r19 r20 v16 r21 r22 r23 v17 h1 g0 f18)) [0, 1] (by decide) rfl
  have hKc := hK.sub (tys' := [(g0, .int)]) [0] rfl
  have hFc := va_free (wc := (wd_f4cd022e h0 v0 h1 v1 v2 (-1) 6 h2 h3 h4 r0 r1 r2 r3 v3 v4 r4 r5 r6 r7 v5 r8 r9 v6 v7 r10 r11 v8 v9 r12 v10 v11 r13 v12 w13 r14 v14 v15 r15 r16 r17 r18 r19 r20 v16 r21 r22 r23 v17 h1 g0 f18)) hD hS hA [0, 1] rfl
  refine va_calli (va_runV (As := []) (rest := []) ⟨hx, hb, hml, hown, hts⟩ (k_X12_look l dC dI h0 h1 v0 v1 v2 ((-1)) 6 h2 h3 h4 r0 r1 r2 r3 v3 v4 r4 r5 r6 r7 v5 r8 r9 v6 v7 r10 r11 v8 v9 r12 v10 v11 r13 v12 w13 r14 v14 v15 r15 r16 r17 r18 r19 r20 v16 r21 r22 r23 v17 g0 f18 ⟨i_v1a, i_v1b⟩ ⟨i_v2a, i_v2b⟩ ⟨i_v3a, i_v3b⟩ ⟨i_v4a, i_v4b⟩ ⟨i_v5a, i_v5b⟩ ⟨i_v6a, i_v6b⟩ ⟨i_v7a, i_v7b⟩ ⟨i_v8a, i_v8b⟩ ⟨i_v12a, i_v12b⟩ ⟨i_v16a, i_v16b⟩ ⟨i_v17a, i_v17b⟩ ia_f18 H.size) (cwV 0 hts g_X12_atom_0 rfl rfl rfl (by decide +kernel) ⟨Nat.le_of_ble_eq_true rfl, Nat.le_of_ble_eq_true rfl⟩) (pv_PV12 hPc hKc hDc (q0 := 0) rfl) rfl rfl hl.1 rfl (lv_room (Nat.le_of_ble_eq_true rfl)) dX12_atom_1 ⟨Nat.le_of_ble_eq_true rfl, Nat.le_of_ble_eq_true rfl⟩) hS (fun q _ h => hFc q h) hFc (fun ra1 u t H1 locs ht hvm hwra1 hB hz1 hk1 hS => ?_)
  try rw [hwra1] at hB
  have hkra1_0 : (((-1) : Int32)).toInt = -1 := by decide
  have hkra1_1 : ((6 : Int32)).toInt = 6 := by decide
  rcases hB with hB | hB
  · skip
    obtain ⟨x2, oa_x2, ob_x2, pt0_ra1, pt1_ra1, pt2_ra1, pt3_ra1, pt4_ra1, pt5_ra1, pt6_ra1, hP1, hK1, hD1⟩ := hB
    rw [ht] at hP1
    obtain ⟨hP2, hD2⟩ := va_join (wr := (wd_ad0642e8 h2 g1 f19 h3 g2 f20 h4 g3 f21)) (w1 := (wd_f4cd022e h0 v0 h1 v1 x2 (-1) 6 h2 h3 h4 r0 r1 r2 r3 v3 v4 r4 r5 r6 r7 v5 r8 r9 v6 v7 r10 r11 v8 v9 r12 v10 v11 r13 v12 w13 r14 v14 v15 r15 r16 r17 r18 r19 r20 v16 r21 r22 r23 v17 h1 g0 f18)) hP hD [0, 1] [2, 3, 4] rfl rfl (by decide) (by decide) hk1 hFc hP1 hD1
    clear hP hD hPc hDc hKc hFc hP1 hK1 hD1 hk1 hz1
    generalize H1 = H at hP2 hS ⊢
    have hP := hP2.sub (ws' := (wd_d906eaf1 h0 v0 h1 v1 x2 (-1) 6 h2 h3 h4 r0 r1 r2 r3 v3 v4 r4 r5 r6 r7 v5 r8 r9 v6 v7 r10 r11 v8 v9 r12 v10 v11 r13 v12 w13 r14 v14 v15 r15 r16 r17 r18 r19 r20 v16 r21 r22 r23 v17 h1 g0 f18 h2 g1 f19 h3 g2 f20 h4 g3 f21)) [3, 4, 0, 1, 2] rfl
    have hD := hD2.sub (ws' := (wd_d906eaf1 h0 v0 h1 v1 x2 (-1) 6 h2 h3 h4 r0 r1 r2 r3 v3 v4 r4 r5 r6 r7 v5 r8 r9 v6 v7 r10 r11 v8 v9 r12 v10 v11 r13 v12 w13 r14 v14 v15 r15 r16 r17 r18 r19 r20 v16 r21 r22 r23 v17 h1 g0 f18 h2 g1 f19 h3 g2 f20 h4 g3 f21)) [3, 4, 0, 1, 2] (by decide) rfl
    clear hP2 hD2
    obtain rfl : ra1 = ((-1) : Int32) := pv_cs (by decide) pt0_ra1 pt1_ra1
    refine lv_istore_n (lv' := [(1, .int (-1)), (0, .ref h0)]) hx hb dX12_atom_4 rfl hl (by decide) rfl (fun ls hl => ?_)
    refine lv_iload_n hx hb dX12_atom_5 rfl (lv_at hl 0 rfl) ?_
    have hPc := hP.sub (ws' := []) [] rfl
    have hDc := hD.sub (ws' := []) [] (by decide) rfl
    have hKc := hK.sub (tys' := []) [] rfl
    have hFc := va_free (wc := []) hD hS hA [] rfl
    refine va_calli (va_runS (As := [.int (-1)]) (rest := []) ⟨hx, hb, hml, hown, hts⟩ (k_X12_isDigit l dC dI ((-1))  H.size) (va_cwS 1 hts g_X12_atom_1 rfl rfl rfl (by decide +kernel) ⟨Nat.le_of_ble_eq_true rfl, Nat.le_of_ble_eq_true rfl⟩) (pv_PS hPc hKc hDc) rfl rfl hl.1 rfl (lv_room (Nat.le_of_ble_eq_true rfl)) dX12_atom_6 ⟨Nat.le_of_ble_eq_true rfl, Nat.le_of_ble_eq_true rfl⟩) hS (fun q _ h => hFc q h) hFc (fun ra3 u t H1 locs ht hvm hwra3 hB hz1 hk1 hS => ?_)
    try rw [hwra3] at hB
    have hkra3_0 : (((-1) : Int32)).toInt = -1 := by decide
    obtain ⟨pt0_ra3, pt1_ra3, pt2_ra3, pt3_ra3, pt4_ra3, hP1, hK1, hD1⟩ := hB
    rw [ht] at hP1
    obtain ⟨hP2, hD2⟩ := va_join (wr := (wd_d906eaf1 h0 v0 h1 v1 x2 (-1) 6 h2 h3 h4 r0 r1 r2 r3 v3 v4 r4 r5 r6 r7 v5 r8 r9 v6 v7 r10 r11 v8 v9 r12 v10 v11 r13 v12 w13 r14 v14 v15 r15 r16 r17 r18 r19 r20 v16 r21 r22 r23 v17 h1 g0 f18 h2 g1 f19 h3 g2 f20 h4 g3 f21)) (w1 := []) hP hD [] [0, 1, 2, 3, 4] rfl rfl (by decide) (by decide) hk1 hFc hP1 hD1
    clear hP hD hPc hDc hKc hFc hP1 hK1 hD1 hk1 hz1
    generalize H1 = H at hP2 hS ⊢
    have hP : va_P (dC, dI) vwCl (wd_d906eaf1 h0 v0 h1 v1 x2 (-1) 6 h2 h3 h4 r0 r1 r2 r3 v3 v4 r4 r5 r6 r7 v5 r8 r9 v6 v7 r10 r11 v8 v9 r12 v10 v11 r13 v12 w13 r14 v14 v15 r15 r16 r17 r18 r19 r20 v16 r21 r22 r23 v17 h1 g0 f18 h2 g1 f19 h3 g2 f20 h4 g3 f21) H := hP2
    have hD : va_D A (wd_d906eaf1 h0 v0 h1 v1 x2 (-1) 6 h2 h3 h4 r0 r1 r2 r3 v3 v4 r4 r5 r6 r7 v5 r8 r9 v6 v7 r10 r11 v8 v9 r12 v10 v11 r13 v12 w13 r14 v14 v15 r15 r16 r17 r18 r19 r20 v16 r21 r22 r23 v17 h1 g0 f18 h2 g1 f19 h3 g2 f20 h4 g3 f21) := hD2
    clear hP2 hD2
    refine lv_if_eq (tgt := 24) hx hb dX12_atom_9 (by decide) (fun c4 => ?_) (fun c4 => ?_)
    · skip
      have fc4 : ra3.toInt = 0 := congrArg Int32.toInt c4
      refine lv_iload_n hx hb dX12_atom_24 rfl (lv_at hl 0 rfl) ?_
      have hPc := hP.sub (ws' := []) [] rfl
      have hDc := hD.sub (ws' := []) [] (by decide) rfl
      have hKc := hK.sub (tys' := []) [] rfl
      have hFc := va_free (wc := []) hD hS hA [] rfl
      refine va_calli (va_runS (As := [.int (-1)]) (rest := []) ⟨hx, hb, hml, hown, hts⟩ (k_X12_letterOf l dC dI ((-1))  H.size) (va_cwS 1 hts g_X12_atom_2 rfl rfl rfl (by decide +kernel) ⟨Nat.le_of_ble_eq_true rfl, Nat.le_of_ble_eq_true rfl⟩) (pv_PS hPc hKc hDc) rfl rfl hl.1 rfl (lv_room (Nat.le_of_ble_eq_true rfl)) dX12_atom_25 ⟨Nat.le_of_ble_eq_true rfl, Nat.le_of_ble_eq_true rfl⟩) hS (fun q _ h => hFc q h) hFc (fun ra5 u t H1 locs ht hvm hwra5 hB hz1 hk1 hS => ?_)
      try rw [hwra5] at hB
      have hkra5_0 : (((-1) : Int32)).toInt = -1 := by decide
      obtain ⟨pt0_ra5, pt1_ra5, pt2_ra5, pt3_ra5, hP1, hK1, hD1⟩ := hB
      rw [ht] at hP1
      obtain ⟨hP2, hD2⟩ := va_join (wr := (wd_d906eaf1 h0 v0 h1 v1 x2 (-1) 6 h2 h3 h4 r0 r1 r2 r3 v3 v4 r4 r5 r6 r7 v5 r8 r9 v6 v7 r10 r11 v8 v9 r12 v10 v11 r13 v12 w13 r14 v14 v15 r15 r16 r17 r18 r19 r20 v16 r21 r22 r23 v17 h1 g0 f18 h2 g1 f19 h3 g2 f20 h4 g3 f21)) (w1 := []) hP hD [] [0, 1, 2, 3, 4] rfl rfl (by decide) (by decide) hk1 hFc hP1 hD1
      clear hP hD hPc hDc hKc hFc hP1 hK1 hD1 hk1 hz1
      generalize H1 = H at hP2 hS ⊢
      have hP : va_P (dC, dI) vwCl (wd_d906eaf1 h0 v0 h1 v1 x2 (-1) 6 h2 h3 h4 r0 r1 r2 r3 v3 v4 r4 r5 r6 r7 v5 r8 r9 v6 v7 r10 r11 v8 v9 r12 v10 v11 r13 v12 w13 r14 v14 v15 r15 r16 r17 r18 r19 r20 v16 r21 r22 r23 v17 h1 g0 f18 h2 g1 f19 h3 g2 f20 h4 g3 f21) H := hP2
      have hD : va_D A (wd_d906eaf1 h0 v0 h1 v1 x2 (-1) 6 h2 h3 h4 r0 r1 r2 r3 v3 v4 r4 r5 r6 r7 v5 r8 r9 v6 v7 r10 r11 v8 v9 r12 v10 v11 r13 v12 w13 r14 v14 v15 r15 r16 r17 r18 r19 r20 v16 r21 r22 r23 v17 h1 g0 f18 h2 g1 f19 h3 g2 f20 h4 g3 f21) := hD2
      clear hP2 hD2
      have hltra5 : pm_lt (pg_ch f18 v1.toInt x2.toInt) = ra5.toInt := by rw [show pg_ch f18 v1.toInt x2.toInt = (((-1) : Int32)).toInt by omega]; omega
      refine lv_iconst (v := (-1)) hx hb dX12_atom_28 (by decide) ?_
      refine lv_icmp_eq (tgt := 54) hx hb dX12_atom_29 (by decide) (fun c6 => ?_) (fun c6 => ?_)
      · skip
        have fc6 : ra5.toInt = (-1) := congrArg Int32.toInt c6
        refine lv_iload_n hx hb dX12_atom_54 rfl (lv_at hl 0 rfl) ?_
        refine lv_bipush (v := 91) hx hb dX12_atom_55 (by decide) ?_
        refine lv_icmp_ne (tgt := 85) hx hb dX12_atom_57 (by decide) (fun _ => ?_) (fun c => absurd c (by decide))
        refine lv_aload_n hx hb dX12_atom_85 rfl (lv_at hl 1 rfl) ?_
        have hPc := hP.sub (ws' := (wd_171f232f h0 v0 h1 v1 x2 (-1) 6 h2 h3 h4 r0 r1 r2 r3 v3 v4 r4 r5 r6 r7 v5 r8 r9 v6 v7 r10 r11 v8 v9 r12 v10 v11 r13 v12 w13 r14 v14 v15 r15 r16 r17 r18 r19 r20 v16 r21 r22 r23 v17)) [0] rfl
        have hDc := hD.sub (ws' := (wd_171f232f h0 v0 h1 v1 x2 (-1) 6 h2 h3 h4 r0 r1 r2 r3 v3 v4 r4 r5 r6 r7 v5 r8 r9 v6 v7 r10 r11 v8 v9 r12 v10 v11 r13 v12 w13 r14 v14 v15 r15 r16 r17 r18 r19 r20 v16 r21 r22 r23 v17)) [0] (by decide) rfl
        have hKc := hK.sub (tys' := []) [] rfl
        have hFc := va_free (wc := (wd_171f232f h0 v0 h1 v1 x2 (-1) 6 h2 h3 h4 r0 r1 r2 r3 v3 v4 r4 r5 r6 r7 v5 r8 r9 v6 v7 r10 r11 v8 v9 r12 v10 v11 r13 v12 w13 r14 v14 v15 r15 r16 r17 r18 r19 r20 v16 r21 r22 r23 v17)) hD hS hA [0] rfl
        refine va_callv (va_runV (As := []) (rest := []) ⟨hx, hb, hml, hown, hts⟩ (k_X12_bad l dC dI h0 v0 h1 v1 x2 6 h2 h3 h4 r0 r1 r2 r3 v3 v4 r4 r5 r6 r7 v5 r8 r9 v6 v7 r10 r11 v8 v9 r12 v10 v11 r13 v12 w13 r14 v14 v15 r15 r16 r17 r18 r19 r20 v16 r21 r22 r23 v17 ⟨i_v1a, i_v1b⟩ ⟨oa_x2, ob_x2⟩ ⟨i_v3a, i_v3b⟩ ⟨i_v4a, i_v4b⟩ ⟨i_v5a, i_v5b⟩ ⟨i_v6a, i_v6b⟩ ⟨i_v7a, i_v7b⟩ ⟨i_v8a, i_v8b⟩ ⟨i_v12a, i_v12b⟩ ⟨i_v16a, i_v16b⟩ ⟨i_v17a, i_v17b⟩ H.size) (cwV 0 hts g_X12_atom_3 rfl rfl rfl (by decide +kernel) ⟨Nat.le_of_ble_eq_true rfl, Nat.le_of_ble_eq_true rfl⟩) (pv_PV12 hPc hKc hDc (q0 := 0) rfl) rfl rfl hl.1 rfl (lv_room (Nat.le_of_ble_eq_true rfl)) dX12_atom_86 ⟨Nat.le_of_ble_eq_true rfl, Nat.le_of_ble_eq_true rfl⟩) hS (fun q _ h => hFc q h) hFc (fun u t H1 locs ht hvm hwra7 hB hz1 hk1 hS => ?_)
        have hkra7_0 : ((6 : Int32)).toInt = 6 := by decide
        obtain ⟨x8, oa_x8, ob_x8, pt0_ra7, hP1, hK1, hD1⟩ := hB
        rw [ht] at hP1
        obtain ⟨hP2, hD2⟩ := va_join (wr := (wd_bfe486e6 h1 g0 f18 h2 g1 f19 h3 g2 f20 h4 g3 f21)) (w1 := (wd_171f232f h0 v0 h1 v1 x2 x8 6 h2 h3 h4 r0 r1 r2 r3 v3 v4 r4 r5 r6 r7 v5 r8 r9 v6 v7 r10 r11 v8 v9 r12 v10 v11 r13 v12 w13 r14 v14 v15 r15 r16 r17 r18 r19 r20 v16 r21 r22 r23 v17)) hP hD [0] [1, 2, 3, 4] rfl rfl (by decide) (by decide) hk1 hFc hP1 hD1
        clear hP hD hPc hDc hKc hFc hP1 hK1 hD1 hk1 hz1
        generalize H1 = H at hP2 hS ⊢
        have hP := hP2.sub (ws' := (wd_d906eaf1 h0 v0 h1 v1 x2 x8 6 h2 h3 h4 r0 r1 r2 r3 v3 v4 r4 r5 r6 r7 v5 r8 r9 v6 v7 r10 r11 v8 v9 r12 v10 v11 r13 v12 w13 r14 v14 v15 r15 r16 r17 r18 r19 r20 v16 r21 r22 r23 v17 h1 g0 f18 h2 g1 f19 h3 g2 f20 h4 g3 f21)) [4, 0, 1, 2, 3] rfl
        have hD := hD2.sub (ws' := (wd_d906eaf1 h0 v0 h1 v1 x2 x8 6 h2 h3 h4 r0 r1 r2 r3 v3 v4 r4 r5 r6 r7 v5 r8 r9 v6 v7 r10 r11 v8 v9 r12 v10 v11 r13 v12 w13 r14 v14 v15 r15 r16 r17 r18 r19 r20 v16 r21 r22 r23 v17 h1 g0 f18 h2 g1 f19 h3 g2 f20 h4 g3 f21)) [4, 0, 1, 2, 3] (by decide) rfl
        clear hP2 hD2
        subst hQ
        have hP9 := hP.sub (ws' := (wd_d906eaf1 h0 v0 h1 v1 x2 x8 6 h2 h3 h4 r0 r1 r2 r3 v3 v4 r4 r5 r6 r7 v5 r8 r9 v6 v7 r10 r11 v8 v9 r12 v10 v11 r13 v12 w13 r14 v14 v15 r15 r16 r17 r18 r19 r20 v16 r21 r22 r23 v17 h1 g0 f18 h2 g1 f19 h3 g2 f20 h4 g3 f21)) [0, 1, 2, 3, 4] rfl
        have hD9 := hD.sub (ws' := (wd_d906eaf1 h0 v0 h1 v1 x2 x8 6 h2 h3 h4 r0 r1 r2 r3 v3 v4 r4 r5 r6 r7 v5 r8 r9 v6 v7 r10 r11 v8 v9 r12 v10 v11 r13 v12 w13 r14 v14 v15 r15 r16 r17 r18 r19 r20 v16 r21 r22 r23 v17 h1 g0 f18 h2 g1 f19 h3 g2 f20 h4 g3 f21)) [0, 1, 2, 3, 4] (by decide) rfl
        have hK9 := hK.sub (tys' := []) [] rfl
        exact W.vret hx hb hr (fun t ht hW => ⟨⟨(), rfl, trivial, Or.inr (⟨x2, x8, 6, f19, f20, f21, oa_x2, ob_x2, oa_x8, ob_x8, by decide, by decide, by constructor <;> omega, by exact hgF, by show pg_atomF f18 v1.toInt false pg_none _ = _; first | (apply pg_atomF.num <;> first | assumption | omega) | (apply pg_atomF.par0 <;> first | assumption | omega) | (apply pg_atomF.par1 <;> first | assumption | omega) | (apply pg_atomF.deep <;> first | assumption | omega) | (apply pg_atomF.bad <;> first | assumption | omega), by rw [ht]; exact hP9, va_K.moved hW.alike hK9, hD9⟩)⟩, hS.F ht⟩) hS.2.2 dX12_atom_89
      · skip
        have fc6 : ¬ (ra5.toInt = (-1)) := fun h9 => c6 (Int32.toInt_inj.mp h9)
        exfalso; omega
    · skip
      have fc4 : ¬ (ra3.toInt = 0) := fun h9 => c4 (Int32.toInt_inj.mp h9)
      exfalso; omega
  · skip
    obtain ⟨x9, oa_x9, ob_x9, pt0_ra1, pt1_ra1, pt2_ra1, pt3_ra1, pt4_ra1, pt5_ra1, pt6_ra1, pt7_ra1, hP1, hK1, hD1⟩ := hB
    rw [ht] at hP1
    obtain ⟨hP2, hD2⟩ := va_join (wr := (wd_ad0642e8 h2 g1 f19 h3 g2 f20 h4 g3 f21)) (w1 := (wd_f4cd022e h0 v0 h1 v1 x9 (-1) 6 h2 h3 h4 r0 r1 r2 r3 v3 v4 r4 r5 r6 r7 v5 r8 r9 v6 v7 r10 r11 v8 v9 r12 v10 v11 r13 v12 w13 r14 v14 v15 r15 r16 r17 r18 r19 r20 v16 r21 r22 r23 v17 h1 g0 f18)) hP hD [0, 1] [2, 3, 4] rfl rfl (by decide) (by decide) hk1 hFc hP1 hD1
    clear hP hD hPc hDc hKc hFc hP1 hK1 hD1 hk1 hz1
    generalize H1 = H at hP2 hS ⊢
    have hP := hP2.sub (ws' := (wd_d906eaf1 h0 v0 h1 v1 x9 (-1) 6 h2 h3 h4 r0 r1 r2 r3 v3 v4 r4 r5 r6 r7 v5 r8 r9 v6 v7 r10 r11 v8 v9 r12 v10 v11 r13 v12 w13 r14 v14 v15 r15 r16 r17 r18 r19 r20 v16 r21 r22 r23 v17 h1 g0 f18 h2 g1 f19 h3 g2 f20 h4 g3 f21)) [3, 4, 0, 1, 2] rfl
    have hD := hD2.sub (ws' := (wd_d906eaf1 h0 v0 h1 v1 x9 (-1) 6 h2 h3 h4 r0 r1 r2 r3 v3 v4 r4 r5 r6 r7 v5 r8 r9 v6 v7 r10 r11 v8 v9 r12 v10 v11 r13 v12 w13 r14 v14 v15 r15 r16 r17 r18 r19 r20 v16 r21 r22 r23 v17 h1 g0 f18 h2 g1 f19 h3 g2 f20 h4 g3 f21)) [3, 4, 0, 1, 2] (by decide) rfl
    clear hP2 hD2
    refine lv_istore_n (lv' := [(1, .int ra1), (0, .ref h0)]) hx hb dX12_atom_4 rfl hl (by decide) rfl (fun ls hl => ?_)
    refine lv_iload_n hx hb dX12_atom_5 rfl (lv_at hl 0 rfl) ?_
    have hPc := hP.sub (ws' := []) [] rfl
    have hDc := hD.sub (ws' := []) [] (by decide) rfl
    have hKc := hK.sub (tys' := []) [] rfl
    have hFc := va_free (wc := []) hD hS hA [] rfl
    refine va_calli (va_runS (As := [.int ra1]) (rest := []) ⟨hx, hb, hml, hown, hts⟩ (k_X12_isDigit l dC dI ra1  H.size) (va_cwS 1 hts g_X12_atom_1 rfl rfl rfl (by decide +kernel) ⟨Nat.le_of_ble_eq_true rfl, Nat.le_of_ble_eq_true rfl⟩) (pv_PS hPc hKc hDc) rfl rfl hl.1 rfl (lv_room (Nat.le_of_ble_eq_true rfl)) dX12_atom_6 ⟨Nat.le_of_ble_eq_true rfl, Nat.le_of_ble_eq_true rfl⟩) hS (fun q _ h => hFc q h) hFc (fun ra10 u t H1 locs ht hvm hwra10 hB hz1 hk1 hS => ?_)
    try rw [hwra10] at hB
    obtain ⟨pt0_ra10, pt1_ra10, pt2_ra10, pt3_ra10, pt4_ra10, hP1, hK1, hD1⟩ := hB
    rw [ht] at hP1
    obtain ⟨hP2, hD2⟩ := va_join (wr := (wd_d906eaf1 h0 v0 h1 v1 x9 (-1) 6 h2 h3 h4 r0 r1 r2 r3 v3 v4 r4 r5 r6 r7 v5 r8 r9 v6 v7 r10 r11 v8 v9 r12 v10 v11 r13 v12 w13 r14 v14 v15 r15 r16 r17 r18 r19 r20 v16 r21 r22 r23 v17 h1 g0 f18 h2 g1 f19 h3 g2 f20 h4 g3 f21)) (w1 := []) hP hD [] [0, 1, 2, 3, 4] rfl rfl (by decide) (by decide) hk1 hFc hP1 hD1
    clear hP hD hPc hDc hKc hFc hP1 hK1 hD1 hk1 hz1
    generalize H1 = H at hP2 hS ⊢
    have hP : va_P (dC, dI) vwCl (wd_d906eaf1 h0 v0 h1 v1 x9 (-1) 6 h2 h3 h4 r0 r1 r2 r3 v3 v4 r4 r5 r6 r7 v5 r8 r9 v6 v7 r10 r11 v8 v9 r12 v10 v11 r13 v12 w13 r14 v14 v15 r15 r16 r17 r18 r19 r20 v16 r21 r22 r23 v17 h1 g0 f18 h2 g1 f19 h3 g2 f20 h4 g3 f21) H := hP2
    have hD : va_D A (wd_d906eaf1 h0 v0 h1 v1 x9 (-1) 6 h2 h3 h4 r0 r1 r2 r3 v3 v4 r4 r5 r6 r7 v5 r8 r9 v6 v7 r10 r11 v8 v9 r12 v10 v11 r13 v12 w13 r14 v14 v15 r15 r16 r17 r18 r19 r20 v16 r21 r22 r23 v17 h1 g0 f18 h2 g1 f19 h3 g2 f20 h4 g3 f21) := hD2
    clear hP2 hD2
    refine lv_if_eq (tgt := 24) hx hb dX12_atom_9 (by decide) (fun c11 => ?_) (fun c11 => ?_)
    · skip
      have fc11 : ra10.toInt = 0 := congrArg Int32.toInt c11
      refine lv_iload_n hx hb dX12_atom_24 rfl (lv_at hl 0 rfl) ?_
      have hPc := hP.sub (ws' := []) [] rfl
      have hDc := hD.sub (ws' := []) [] (by decide) rfl
      have hKc := hK.sub (tys' := []) [] rfl
      have hFc := va_free (wc := []) hD hS hA [] rfl
      refine va_calli (va_runS (As := [.int ra1]) (rest := []) ⟨hx, hb, hml, hown, hts⟩ (k_X12_letterOf l dC dI ra1  H.size) (va_cwS 1 hts g_X12_atom_2 rfl rfl rfl (by decide +kernel) ⟨Nat.le_of_ble_eq_true rfl, Nat.le_of_ble_eq_true rfl⟩) (pv_PS hPc hKc hDc) rfl rfl hl.1 rfl (lv_room (Nat.le_of_ble_eq_true rfl)) dX12_atom_25 ⟨Nat.le_of_ble_eq_true rfl, Nat.le_of_ble_eq_true rfl⟩) hS (fun q _ h => hFc q h) hFc (fun ra12 u t H1 locs ht hvm hwra12 hB hz1 hk1 hS => ?_)
      try rw [hwra12] at hB
      obtain ⟨pt0_ra12, pt1_ra12, pt2_ra12, pt3_ra12, hP1, hK1, hD1⟩ := hB
      rw [ht] at hP1
      obtain ⟨hP2, hD2⟩ := va_join (wr := (wd_d906eaf1 h0 v0 h1 v1 x9 (-1) 6 h2 h3 h4 r0 r1 r2 r3 v3 v4 r4 r5 r6 r7 v5 r8 r9 v6 v7 r10 r11 v8 v9 r12 v10 v11 r13 v12 w13 r14 v14 v15 r15 r16 r17 r18 r19 r20 v16 r21 r22 r23 v17 h1 g0 f18 h2 g1 f19 h3 g2 f20 h4 g3 f21)) (w1 := []) hP hD [] [0, 1, 2, 3, 4] rfl rfl (by decide) (by decide) hk1 hFc hP1 hD1
      clear hP hD hPc hDc hKc hFc hP1 hK1 hD1 hk1 hz1
      generalize H1 = H at hP2 hS ⊢
      have hP : va_P (dC, dI) vwCl (wd_d906eaf1 h0 v0 h1 v1 x9 (-1) 6 h2 h3 h4 r0 r1 r2 r3 v3 v4 r4 r5 r6 r7 v5 r8 r9 v6 v7 r10 r11 v8 v9 r12 v10 v11 r13 v12 w13 r14 v14 v15 r15 r16 r17 r18 r19 r20 v16 r21 r22 r23 v17 h1 g0 f18 h2 g1 f19 h3 g2 f20 h4 g3 f21) H := hP2
      have hD : va_D A (wd_d906eaf1 h0 v0 h1 v1 x9 (-1) 6 h2 h3 h4 r0 r1 r2 r3 v3 v4 r4 r5 r6 r7 v5 r8 r9 v6 v7 r10 r11 v8 v9 r12 v10 v11 r13 v12 w13 r14 v14 v15 r15 r16 r17 r18 r19 r20 v16 r21 r22 r23 v17 h1 g0 f18 h2 g1 f19 h3 g2 f20 h4 g3 f21) := hD2
      clear hP2 hD2
      have hltra12 : pm_lt (pg_ch f18 v1.toInt x9.toInt) = ra12.toInt := by rw [show pg_ch f18 v1.toInt x9.toInt = ra1.toInt by omega]; omega
      refine lv_iconst (v := (-1)) hx hb dX12_atom_28 (by decide) ?_
      refine lv_icmp_eq (tgt := 54) hx hb dX12_atom_29 (by decide) (fun c13 => ?_) (fun c13 => ?_)
      · skip
        have fc13 : ra12.toInt = (-1) := congrArg Int32.toInt c13
        refine lv_iload_n hx hb dX12_atom_54 rfl (lv_at hl 0 rfl) ?_
        refine lv_bipush (v := 91) hx hb dX12_atom_55 (by decide) ?_
        refine lv_icmp_ne (tgt := 85) hx hb dX12_atom_57 (by decide) (fun c14 => ?_) (fun c14 => ?_)
        · skip
          have fc14 : ¬ (ra1.toInt = 91) := fun h9 => c14 (Int32.toInt_inj.mp h9)
          refine lv_aload_n hx hb dX12_atom_85 rfl (lv_at hl 1 rfl) ?_
          have hPc := hP.sub (ws' := (wd_171f232f h0 v0 h1 v1 x9 (-1) 6 h2 h3 h4 r0 r1 r2 r3 v3 v4 r4 r5 r6 r7 v5 r8 r9 v6 v7 r10 r11 v8 v9 r12 v10 v11 r13 v12 w13 r14 v14 v15 r15 r16 r17 r18 r19 r20 v16 r21 r22 r23 v17)) [0] rfl
          have hDc := hD.sub (ws' := (wd_171f232f h0 v0 h1 v1 x9 (-1) 6 h2 h3 h4 r0 r1 r2 r3 v3 v4 r4 r5 r6 r7 v5 r8 r9 v6 v7 r10 r11 v8 v9 r12 v10 v11 r13 v12 w13 r14 v14 v15 r15 r16 r17 r18 r19 r20 v16 r21 r22 r23 v17)) [0] (by decide) rfl
          have hKc := hK.sub (tys' := []) [] rfl
          have hFc := va_free (wc := (wd_171f232f h0 v0 h1 v1 x9 (-1) 6 h2 h3 h4 r0 r1 r2 r3 v3 v4 r4 r5 r6 r7 v5 r8 r9 v6 v7 r10 r11 v8 v9 r12 v10 v11 r13 v12 w13 r14 v14 v15 r15 r16 r17 r18 r19 r20 v16 r21 r22 r23 v17)) hD hS hA [0] rfl
          refine va_callv (va_runV (As := []) (rest := []) ⟨hx, hb, hml, hown, hts⟩ (k_X12_bad l dC dI h0 v0 h1 v1 x9 6 h2 h3 h4 r0 r1 r2 r3 v3 v4 r4 r5 r6 r7 v5 r8 r9 v6 v7 r10 r11 v8 v9 r12 v10 v11 r13 v12 w13 r14 v14 v15 r15 r16 r17 r18 r19 r20 v16 r21 r22 r23 v17 ⟨i_v1a, i_v1b⟩ ⟨oa_x9, by first | omega | decide⟩ ⟨i_v3a, i_v3b⟩ ⟨i_v4a, i_v4b⟩ ⟨i_v5a, i_v5b⟩ ⟨i_v6a, i_v6b⟩ ⟨i_v7a, i_v7b⟩ ⟨i_v8a, i_v8b⟩ ⟨i_v12a, i_v12b⟩ ⟨i_v16a, i_v16b⟩ ⟨i_v17a, i_v17b⟩ H.size) (cwV 0 hts g_X12_atom_3 rfl rfl rfl (by decide +kernel) ⟨Nat.le_of_ble_eq_true rfl, Nat.le_of_ble_eq_true rfl⟩) (pv_PV12 hPc hKc hDc (q0 := 0) rfl) rfl rfl hl.1 rfl (lv_room (Nat.le_of_ble_eq_true rfl)) dX12_atom_86 ⟨Nat.le_of_ble_eq_true rfl, Nat.le_of_ble_eq_true rfl⟩) hS (fun q _ h => hFc q h) hFc (fun u t H1 locs ht hvm hwra15 hB hz1 hk1 hS => ?_)
          have hkra15_0 : ((6 : Int32)).toInt = 6 := by decide
          obtain ⟨x16, oa_x16, ob_x16, pt0_ra15, hP1, hK1, hD1⟩ := hB
          rw [ht] at hP1
          obtain ⟨hP2, hD2⟩ := va_join (wr := (wd_bfe486e6 h1 g0 f18 h2 g1 f19 h3 g2 f20 h4 g3 f21)) (w1 := (wd_171f232f h0 v0 h1 v1 x9 x16 6 h2 h3 h4 r0 r1 r2 r3 v3 v4 r4 r5 r6 r7 v5 r8 r9 v6 v7 r10 r11 v8 v9 r12 v10 v11 r13 v12 w13 r14 v14 v15 r15 r16 r17 r18 r19 r20 v16 r21 r22 r23 v17)) hP hD [0] [1, 2, 3, 4] rfl rfl (by decide) (by decide) hk1 hFc hP1 hD1
          clear hP hD hPc hDc hKc hFc hP1 hK1 hD1 hk1 hz1
          generalize H1 = H at hP2 hS ⊢
          have hP := hP2.sub (ws' := (wd_d906eaf1 h0 v0 h1 v1 x9 x16 6 h2 h3 h4 r0 r1 r2 r3 v3 v4 r4 r5 r6 r7 v5 r8 r9 v6 v7 r10 r11 v8 v9 r12 v10 v11 r13 v12 w13 r14 v14 v15 r15 r16 r17 r18 r19 r20 v16 r21 r22 r23 v17 h1 g0 f18 h2 g1 f19 h3 g2 f20 h4 g3 f21)) [4, 0, 1, 2, 3] rfl
          have hD := hD2.sub (ws' := (wd_d906eaf1 h0 v0 h1 v1 x9 x16 6 h2 h3 h4 r0 r1 r2 r3 v3 v4 r4 r5 r6 r7 v5 r8 r9 v6 v7 r10 r11 v8 v9 r12 v10 v11 r13 v12 w13 r14 v14 v15 r15 r16 r17 r18 r19 r20 v16 r21 r22 r23 v17 h1 g0 f18 h2 g1 f19 h3 g2 f20 h4 g3 f21)) [4, 0, 1, 2, 3] (by decide) rfl
          clear hP2 hD2
          subst hQ
          have hP9 := hP.sub (ws' := (wd_d906eaf1 h0 v0 h1 v1 x9 x16 6 h2 h3 h4 r0 r1 r2 r3 v3 v4 r4 r5 r6 r7 v5 r8 r9 v6 v7 r10 r11 v8 v9 r12 v10 v11 r13 v12 w13 r14 v14 v15 r15 r16 r17 r18 r19 r20 v16 r21 r22 r23 v17 h1 g0 f18 h2 g1 f19 h3 g2 f20 h4 g3 f21)) [0, 1, 2, 3, 4] rfl
          have hD9 := hD.sub (ws' := (wd_d906eaf1 h0 v0 h1 v1 x9 x16 6 h2 h3 h4 r0 r1 r2 r3 v3 v4 r4 r5 r6 r7 v5 r8 r9 v6 v7 r10 r11 v8 v9 r12 v10 v11 r13 v12 w13 r14 v14 v15 r15 r16 r17 r18 r19 r20 v16 r21 r22 r23 v17 h1 g0 f18 h2 g1 f19 h3 g2 f20 h4 g3 f21)) [0, 1, 2, 3, 4] (by decide) rfl
          have hK9 := hK.sub (tys' := []) [] rfl
          exact W.vret hx hb hr (fun t ht hW => ⟨⟨(), rfl, trivial, Or.inr (⟨x9, x16, 6, f19, f20, f21, oa_x9, by first | omega | decide, oa_x16, ob_x16, by decide, by decide, by constructor <;> omega, by exact hgF, by show pg_atomF f18 v1.toInt false pg_none _ = _; first | (apply pg_atomF.num <;> first | assumption | omega) | (apply pg_atomF.par0 <;> first | assumption | omega) | (apply pg_atomF.par1 <;> first | assumption | omega) | (apply pg_atomF.deep <;> first | assumption | omega) | (apply pg_atomF.bad <;> first | assumption | omega), by rw [ht]; exact hP9, va_K.moved hW.alike hK9, hD9⟩)⟩, hS.F ht⟩) hS.2.2 dX12_atom_89
        · skip
          have fc14 : ra1.toInt = 91 := congrArg Int32.toInt c14
          refine lv_aload_n hx hb dX12_atom_60 rfl (lv_at hl 1 rfl) ?_
          have hPc := hP.sub (ws' := (wd_171f232f h0 v0 h1 v1 x9 (-1) 6 h2 h3 h4 r0 r1 r2 r3 v3 v4 r4 r5 r6 r7 v5 r8 r9 v6 v7 r10 r11 v8 v9 r12 v10 v11 r13 v12 w13 r14 v14 v15 r15 r16 r17 r18 r19 r20 v16 r21 r22 r23 v17)) [0] rfl
          have hDc := hD.sub (ws' := (wd_171f232f h0 v0 h1 v1 x9 (-1) 6 h2 h3 h4 r0 r1 r2 r3 v3 v4 r4 r5 r6 r7 v5 r8 r9 v6 v7 r10 r11 v8 v9 r12 v10 v11 r13 v12 w13 r14 v14 v15 r15 r16 r17 r18 r19 r20 v16 r21 r22 r23 v17)) [0] (by decide) rfl
          have hKc := hK.sub (tys' := []) [] rfl
          have hFc := va_free (wc := (wd_171f232f h0 v0 h1 v1 x9 (-1) 6 h2 h3 h4 r0 r1 r2 r3 v3 v4 r4 r5 r6 r7 v5 r8 r9 v6 v7 r10 r11 v8 v9 r12 v10 v11 r13 v12 w13 r14 v14 v15 r15 r16 r17 r18 r19 r20 v16 r21 r22 r23 v17)) hD hS hA [0] rfl
          refine va_callv (va_runV (As := []) (rest := []) ⟨hx, hb, hml, hown, hts⟩ (k_X12_opens l dC dI h0 v0 h1 v1 x9 h2 h3 h4 r0 r1 r2 r3 v3 v4 r4 r5 r6 r7 v5 r8 r9 v6 v7 r10 r11 v8 v9 r12 v10 v11 r13 v12 w13 r14 v14 v15 r15 r16 r17 r18 r19 r20 v16 r21 r22 r23 v17 ⟨i_v1a, i_v1b⟩ ⟨oa_x9, ob_x9⟩ ⟨i_v3a, i_v3b⟩ ⟨i_v4a, i_v4b⟩ ⟨i_v5a, i_v5b⟩ ⟨i_v6a, i_v6b⟩ ⟨i_v7a, i_v7b⟩ ⟨i_v8a, i_v8b⟩ ⟨i_v12a, i_v12b⟩ ⟨i_v16a, i_v16b⟩ ⟨i_v17a, i_v17b⟩ H.size) (cwV 0 hts g_X12_atom_7 rfl rfl rfl (by decide +kernel) ⟨Nat.le_of_ble_eq_true rfl, Nat.le_of_ble_eq_true rfl⟩) (pv_PV12 hPc hKc hDc (q0 := 0) rfl) rfl rfl hl.1 rfl (lv_room (Nat.le_of_ble_eq_true rfl)) dX12_atom_61 ⟨Nat.le_of_ble_eq_true rfl, Nat.le_of_ble_eq_true rfl⟩) hS (fun q _ h => hFc q h) hFc (fun u t H1 locs ht hvm hwra17 hB hz1 hk1 hS => ?_)
          obtain ⟨x18, x19, oa_x18, ob_x18, oa_x19, ob_x19, pt0_ra17, pt1_ra17, hP1, hK1, hD1⟩ := hB
          rw [ht] at hP1
          obtain ⟨hP2, hD2⟩ := va_join (wr := (wd_bfe486e6 h1 g0 f18 h2 g1 f19 h3 g2 f20 h4 g3 f21)) (w1 := (wd_171f232f h0 v0 h1 v1 x18 x19 7 h2 h3 h4 r0 r1 r2 r3 v3 v4 r4 r5 r6 r7 v5 r8 r9 v6 v7 r10 r11 v8 v9 r12 v10 v11 r13 v12 w13 r14 v14 v15 r15 r16 r17 r18 r19 r20 v16 r21 r22 r23 v17)) hP hD [0] [1, 2, 3, 4] rfl rfl (by decide) (by decide) hk1 hFc hP1 hD1
          clear hP hD hPc hDc hKc hFc hP1 hK1 hD1 hk1 hz1
          generalize H1 = H at hP2 hS ⊢
          have hP := hP2.sub (ws' := (wd_d906eaf1 h0 v0 h1 v1 x18 x19 7 h2 h3 h4 r0 r1 r2 r3 v3 v4 r4 r5 r6 r7 v5 r8 r9 v6 v7 r10 r11 v8 v9 r12 v10 v11 r13 v12 w13 r14 v14 v15 r15 r16 r17 r18 r19 r20 v16 r21 r22 r23 v17 h1 g0 f18 h2 g1 f19 h3 g2 f20 h4 g3 f21)) [4, 0, 1, 2, 3] rfl
          have hD := hD2.sub (ws' := (wd_d906eaf1 h0 v0 h1 v1 x18 x19 7 h2 h3 h4 r0 r1 r2 r3 v3 v4 r4 r5 r6 r7 v5 r8 r9 v6 v7 r10 r11 v8 v9 r12 v10 v11 r13 v12 w13 r14 v14 v15 r15 r16 r17 r18 r19 r20 v16 r21 r22 r23 v17 h1 g0 f18 h2 g1 f19 h3 g2 f20 h4 g3 f21)) [4, 0, 1, 2, 3] (by decide) rfl
          clear hP2 hD2
          refine lv_aload_n hx hb dX12_atom_64 rfl (lv_at hl 1 rfl) ?_
          refine va_get (D := (dC, dI)) (ci := 12) (v := .int x19) (C := RX12) (T := TX12) (N := 48) hx hb hts (fun _ h => List.mem_cons_of_mem _ (List.mem_append_right _ h)) hown hK hP 0 rfl rfl 4 (by decide) (hts (.fieldLink RX12 119 "LeftArgumentsModel" "wrong" "I") (List.mem_cons_of_mem _ (List.mem_append_left _ (List.mem_of_getElem? (i := 19) rfl)))) (fun _ h9 => h9) rfl dX12_atom_65 ?_
          refine lv_iconst (v := (-1)) hx hb dX12_atom_68 (by decide) ?_
          refine lv_icmp_ne (tgt := 89) hx hb dX12_atom_69 (by decide) (fun _ => ?_) (fun c20 => by exfalso; have fc20 : x19.toInt = (-1) := congrArg Int32.toInt c20; omega)
          subst hQ
          have hP9 := hP.sub (ws' := (wd_d906eaf1 h0 v0 h1 v1 x18 x19 7 h2 h3 h4 r0 r1 r2 r3 v3 v4 r4 r5 r6 r7 v5 r8 r9 v6 v7 r10 r11 v8 v9 r12 v10 v11 r13 v12 w13 r14 v14 v15 r15 r16 r17 r18 r19 r20 v16 r21 r22 r23 v17 h1 g0 f18 h2 g1 f19 h3 g2 f20 h4 g3 f21)) [0, 1, 2, 3, 4] rfl
          have hD9 := hD.sub (ws' := (wd_d906eaf1 h0 v0 h1 v1 x18 x19 7 h2 h3 h4 r0 r1 r2 r3 v3 v4 r4 r5 r6 r7 v5 r8 r9 v6 v7 r10 r11 v8 v9 r12 v10 v11 r13 v12 w13 r14 v14 v15 r15 r16 r17 r18 r19 r20 v16 r21 r22 r23 v17 h1 g0 f18 h2 g1 f19 h3 g2 f20 h4 g3 f21)) [0, 1, 2, 3, 4] (by decide) rfl
          have hK9 := hK.sub (tys' := []) [] rfl
          exact W.vret hx hb hr (fun t ht hW => ⟨⟨(), rfl, trivial, Or.inr (⟨x18, x19, 7, f19, f20, f21, by first | omega | decide, ob_x18, oa_x19, ob_x19, by decide, by decide, by constructor <;> omega, by exact hgF, by show pg_atomF f18 v1.toInt false pg_none _ = _; first | (apply pg_atomF.num <;> first | assumption | omega) | (apply pg_atomF.par0 <;> first | assumption | omega) | (apply pg_atomF.par1 <;> first | assumption | omega) | (apply pg_atomF.deep <;> first | assumption | omega) | (apply pg_atomF.bad <;> first | assumption | omega), by rw [ht]; exact hP9, va_K.moved hW.alike hK9, hD9⟩)⟩, hS.F ht⟩) hS.2.2 dX12_atom_89
      · skip
        have fc13 : ¬ (ra12.toInt = (-1)) := fun h9 => c13 (Int32.toInt_inj.mp h9)
        refine lv_aload_n hx hb dX12_atom_32 rfl (lv_at hl 1 rfl) ?_
        refine lv_dup hx hb dX12_atom_33 rfl ?_
        refine va_get (D := (dC, dI)) (ci := 12) (v := .int x9) (C := RX12) (T := TX12) (N := 48) hx hb hts (fun _ h => List.mem_cons_of_mem _ (List.mem_append_right _ h)) hown hK hP 0 rfl rfl 3 (by decide) (hts (.fieldLink RX12 112 "LeftArgumentsModel" "at" "I") (List.mem_cons_of_mem _ (List.mem_append_left _ (List.mem_of_getElem? (i := 2) rfl)))) (fun _ h9 => h9) rfl dX12_atom_34 ?_
        refine lv_iconst (v := 1) hx hb dX12_atom_37 (by decide) ?_
        refine lv_iadd hx hb dX12_atom_38 ?_
        refine lv_topi (fun t21 et21 => ?_)
        have gt21 : t21.toInt = x9.toInt + 1 := pv_add (a := x9.toInt) (b := 1) et21 rfl (by decide) (by omega) (by omega)
        refine va_put (D := (dC, dI)) (ci := 12) (v := .int t21) (ty := .int) (C := RX12) (T := TX12) (N := 48) hx hb hts (fun _ h => List.mem_cons_of_mem _ (List.mem_append_right _ h)) tyX12 tyX12_ok nmX12 hown hK hP hD hS 0 rfl rfl 3 (by decide) (hts (.fieldLink RX12 112 "LeftArgumentsModel" "at" "I") (List.mem_cons_of_mem _ (List.mem_append_left _ (List.mem_of_getElem? (i := 2) rfl)))) (fun _ h9 => h9) rfl (by decide +kernel) rfl rfl (Nat.le_of_ble_eq_true rfl) dX12_atom_39 (fun H locs hP hD hS => ?_)
        have hP : va_P (dC, dI) vwCl (wd_d906eaf1 h0 v0 h1 v1 t21 (-1) 6 h2 h3 h4 r0 r1 r2 r3 v3 v4 r4 r5 r6 r7 v5 r8 r9 v6 v7 r10 r11 v8 v9 r12 v10 v11 r13 v12 w13 r14 v14 v15 r15 r16 r17 r18 r19 r20 v16 r21 r22 r23 v17 h1 g0 f18 h2 g1 f19 h3 g2 f20 h4 g3 f21) H := hP
        have hD : va_D A (wd_d906eaf1 h0 v0 h1 v1 t21 (-1) 6 h2 h3 h4 r0 r1 r2 r3 v3 v4 r4 r5 r6 r7 v5 r8 r9 v6 v7 r10 r11 v8 v9 r12 v10 v11 r13 v12 w13 r14 v14 v15 r15 r16 r17 r18 r19 r20 v16 r21 r22 r23 v17 h1 g0 f18 h2 g1 f19 h3 g2 f20 h4 g3 f21) := hD
        refine lv_aload_n hx hb dX12_atom_42 rfl (lv_at hl 1 rfl) ?_
        refine lv_iconst (v := 1) hx hb dX12_atom_43 (by decide) ?_
        refine lv_iload_n hx hb dX12_atom_44 rfl (lv_at hl 0 rfl) ?_
        have hPc := hP.sub (ws' := []) [] rfl
        have hDc := hD.sub (ws' := []) [] (by decide) rfl
        have hKc := hK.sub (tys' := []) [] rfl
        have hFc := va_free (wc := []) hD hS hA [] rfl
        refine va_calli (va_runS (As := [.int ra1]) (rest := [.int 1, .ref h0]) ⟨hx, hb, hml, hown, hts⟩ (k_X12_letterOf l dC dI ra1  H.size) (va_cwS 1 hts g_X12_atom_2 rfl rfl rfl (by decide +kernel) ⟨Nat.le_of_ble_eq_true rfl, Nat.le_of_ble_eq_true rfl⟩) (pv_PS hPc hKc hDc) rfl rfl hl.1 rfl (lv_room (Nat.le_of_ble_eq_true rfl)) dX12_atom_45 ⟨Nat.le_of_ble_eq_true rfl, Nat.le_of_ble_eq_true rfl⟩) hS (fun q _ h => hFc q h) hFc (fun ra22 u t H1 locs ht hvm hwra22 hB hz1 hk1 hS => ?_)
        try rw [hwra22] at hB
        obtain ⟨pt0_ra22, pt1_ra22, pt2_ra22, pt3_ra22, hP1, hK1, hD1⟩ := hB
        rw [ht] at hP1
        obtain ⟨hP2, hD2⟩ := va_join (wr := (wd_d906eaf1 h0 v0 h1 v1 t21 (-1) 6 h2 h3 h4 r0 r1 r2 r3 v3 v4 r4 r5 r6 r7 v5 r8 r9 v6 v7 r10 r11 v8 v9 r12 v10 v11 r13 v12 w13 r14 v14 v15 r15 r16 r17 r18 r19 r20 v16 r21 r22 r23 v17 h1 g0 f18 h2 g1 f19 h3 g2 f20 h4 g3 f21)) (w1 := []) hP hD [] [0, 1, 2, 3, 4] rfl rfl (by decide) (by decide) hk1 hFc hP1 hD1
        clear hP hD hPc hDc hKc hFc hP1 hK1 hD1 hk1 hz1
        generalize H1 = H at hP2 hS ⊢
        have hP : va_P (dC, dI) vwCl (wd_d906eaf1 h0 v0 h1 v1 t21 (-1) 6 h2 h3 h4 r0 r1 r2 r3 v3 v4 r4 r5 r6 r7 v5 r8 r9 v6 v7 r10 r11 v8 v9 r12 v10 v11 r13 v12 w13 r14 v14 v15 r15 r16 r17 r18 r19 r20 v16 r21 r22 r23 v17 h1 g0 f18 h2 g1 f19 h3 g2 f20 h4 g3 f21) H := hP2
        have hD : va_D A (wd_d906eaf1 h0 v0 h1 v1 t21 (-1) 6 h2 h3 h4 r0 r1 r2 r3 v3 v4 r4 r5 r6 r7 v5 r8 r9 v6 v7 r10 r11 v8 v9 r12 v10 v11 r13 v12 w13 r14 v14 v15 r15 r16 r17 r18 r19 r20 v16 r21 r22 r23 v17 h1 g0 f18 h2 g1 f19 h3 g2 f20 h4 g3 f21) := hD2
        clear hP2 hD2
        have hPc := hP.sub (ws' := (wd_c62683a8 h0 v0 h1 v1 t21 (-1) 6 h2 h3 h4 r0 r1 r2 r3 v3 v4 r4 r5 r6 r7 v5 r8 r9 v6 v7 r10 r11 v8 v9 r12 v10 v11 r13 v12 w13 r14 v14 v15 r15 r16 r17 r18 r19 r20 v16 r21 r22 r23 v17 h2 g1 f19 h3 g2 f20 h4 g3 f21)) [0, 2, 3, 4] rfl
        have hDc := hD.sub (ws' := (wd_c62683a8 h0 v0 h1 v1 t21 (-1) 6 h2 h3 h4 r0 r1 r2 r3 v3 v4 r4 r5 r6 r7 v5 r8 r9 v6 v7 r10 r11 v8 v9 r12 v10 v11 r13 v12 w13 r14 v14 v15 r15 r16 r17 r18 r19 r20 v16 r21 r22 r23 v17 h2 g1 f19 h3 g2 f20 h4 g3 f21)) [0, 2, 3, 4] (by decide) rfl
        have hKc := hK.sub (tys' := [(g1, .int), (g2, .int), (g3, .int)]) [1, 2, 3] rfl
        have hFc := va_free (wc := (wd_c62683a8 h0 v0 h1 v1 t21 (-1) 6 h2 h3 h4 r0 r1 r2 r3 v3 v4 r4 r5 r6 r7 v5 r8 r9 v6 v7 r10 r11 v8 v9 r12 v10 v11 r13 v12 w13 r14 v14 v15 r15 r16 r17 r18 r19 r20 v16 r21 r22 r23 v17 h2 g1 f19 h3 g2 f20 h4 g3 f21)) hD hS hA [0, 2, 3, 4] rfl
        refine va_callv (va_runV (As := [.int 1, .int ra22]) (rest := []) ⟨hx, hb, hml, hown, hts⟩ (k_X12_put l dC dI h0 h2 h3 h4 v0 h1 v1 t21 ((-1)) 6 r0 r1 r2 r3 v3 v4 r4 r5 r6 r7 v5 r8 r9 v6 v7 r10 r11 v8 v9 r12 v10 v11 r13 v12 w13 r14 v14 v15 r15 r16 r17 r18 r19 r20 v16 r21 r22 r23 v17 g1 f19 g2 f20 g3 f21 1 ra22 ⟨i_v1a, i_v1b⟩ ⟨i_v3a, i_v3b⟩ ⟨i_v4a, i_v4b⟩ ⟨i_v5a, i_v5b⟩ ⟨i_v6a, i_v6b⟩ ⟨i_v7a, i_v7b⟩ ⟨i_v8a, i_v8b⟩ ⟨i_v12a, i_v12b⟩ ⟨i_v16a, i_v16b⟩ ⟨i_v17a, i_v17b⟩ (by constructor <;> omega) H.size) (cwV 2 hts g_X12_atom_9 rfl rfl rfl (by decide +kernel) ⟨Nat.le_of_ble_eq_true rfl, Nat.le_of_ble_eq_true rfl⟩) (pv_PV12 hPc hKc hDc (q0 := 0) rfl) rfl rfl hl.1 rfl (lv_room (Nat.le_of_ble_eq_true rfl)) dX12_atom_48 ⟨Nat.le_of_ble_eq_true rfl, Nat.le_of_ble_eq_true rfl⟩) hS (fun q _ h => hFc q h) hFc (fun u t H1 locs ht hvm hwra23 hB hz1 hk1 hS => ?_)
        have hkra23_0 : (((-1) : Int32)).toInt = -1 := by decide
        have hkra23_1 : ((1 : Int32)).toInt = 1 := by decide
        have hkra23_2 : ((6 : Int32)).toInt = 6 := by decide
        obtain ⟨fn24, fn25, fn26, pt0_ra23, hP1, hK1, hD1⟩ := hB
        rw [ht] at hP1
        obtain ⟨hP2, hD2⟩ := va_join (wr := (wd_d0032b31 h1 g0 f18)) (w1 := (wd_c62683a8 h0 v0 h1 v1 t21 (-1) 6 h2 h3 h4 r0 r1 r2 r3 v3 v4 r4 r5 r6 r7 v5 r8 r9 v6 v7 r10 r11 v8 v9 r12 v10 v11 r13 v12 w13 r14 v14 v15 r15 r16 r17 r18 r19 r20 v16 r21 r22 r23 v17 h2 g1 fn24 h3 g2 fn25 h4 g3 fn26)) hP hD [0, 2, 3, 4] [1] rfl rfl (by decide) (by decide) hk1 hFc hP1 hD1
        clear hP hD hPc hDc hKc hFc hP1 hK1 hD1 hk1 hz1
        generalize H1 = H at hP2 hS ⊢
        have hP := hP2.sub (ws' := (wd_d906eaf1 h0 v0 h1 v1 t21 (-1) 6 h2 h3 h4 r0 r1 r2 r3 v3 v4 r4 r5 r6 r7 v5 r8 r9 v6 v7 r10 r11 v8 v9 r12 v10 v11 r13 v12 w13 r14 v14 v15 r15 r16 r17 r18 r19 r20 v16 r21 r22 r23 v17 h1 g0 f18 h2 g1 fn24 h3 g2 fn25 h4 g3 fn26)) [1, 0, 2, 3, 4] rfl
        have hD := hD2.sub (ws' := (wd_d906eaf1 h0 v0 h1 v1 t21 (-1) 6 h2 h3 h4 r0 r1 r2 r3 v3 v4 r4 r5 r6 r7 v5 r8 r9 v6 v7 r10 r11 v8 v9 r12 v10 v11 r13 v12 w13 r14 v14 v15 r15 r16 r17 r18 r19 r20 v16 r21 r22 r23 v17 h1 g0 f18 h2 g1 fn24 h3 g2 fn25 h4 g3 fn26)) [1, 0, 2, 3, 4] (by decide) rfl
        clear hP2 hD2
        have hgR := hgR.let (k' := 1) (D := 1) pt0_ra23 (by decide) (by omega) (by omega) (by decide) (by decide) (by decide) (by decide)
        have hgF := hgR.1
        have hxl := hgF.1
        have hxs := pt0_ra23.step
        refine lv_goto (tgt := 89) hx hb dX12_atom_51 (by decide) ?_
        subst hQ
        have hP9 := hP.sub (ws' := (wd_d906eaf1 h0 v0 h1 v1 t21 (-1) 6 h2 h3 h4 r0 r1 r2 r3 v3 v4 r4 r5 r6 r7 v5 r8 r9 v6 v7 r10 r11 v8 v9 r12 v10 v11 r13 v12 w13 r14 v14 v15 r15 r16 r17 r18 r19 r20 v16 r21 r22 r23 v17 h1 g0 f18 h2 g1 fn24 h3 g2 fn25 h4 g3 fn26)) [0, 1, 2, 3, 4] rfl
        have hD9 := hD.sub (ws' := (wd_d906eaf1 h0 v0 h1 v1 t21 (-1) 6 h2 h3 h4 r0 r1 r2 r3 v3 v4 r4 r5 r6 r7 v5 r8 r9 v6 v7 r10 r11 v8 v9 r12 v10 v11 r13 v12 w13 r14 v14 v15 r15 r16 r17 r18 r19 r20 v16 r21 r22 r23 v17 h1 g0 f18 h2 g1 fn24 h3 g2 fn25 h4 g3 fn26)) [0, 1, 2, 3, 4] (by decide) rfl
        have hK9 := hK.sub (tys' := []) [] rfl
        exact W.vret hx hb hr (fun t ht hW => ⟨⟨(), rfl, trivial, Or.inl ⟨t21, fn24, fn25, fn26, by first | omega | decide, by first | omega | decide, by constructor <;> omega, by exact hgR.mono (by decide), by show pg_atomF f18 v1.toInt false pg_none _ = _; first | (apply pg_atomF.num <;> first | assumption | omega) | (apply pg_atomF.lt <;> first | assumption | omega) | (apply pg_atomF.par1 <;> first | assumption | omega), by rw [ht]; exact hP9, va_K.moved hW.alike hK9, hD9⟩⟩, hS.F ht⟩) hS.2.2 dX12_atom_89
    · skip
      have fc11 : ¬ (ra10.toInt = 0) := fun h9 => c11 (Int32.toInt_inj.mp h9)
      refine lv_aload_n hx hb dX12_atom_12 rfl (lv_at hl 1 rfl) ?_
      refine lv_iconst (v := 0) hx hb dX12_atom_13 (by decide) ?_
      refine lv_aload_n hx hb dX12_atom_14 rfl (lv_at hl 1 rfl) ?_
      have hPc := hP.sub (ws' := (wd_f4cd022e h0 v0 h1 v1 x9 (-1) 6 h2 h3 h4 r0 r1 r2 r3 v3 v4 r4 r5 r6 r7 v5 r8 r9 v6 v7 r10 r11 v8 v9 r12 v10 v11 r13 v12 w13 r14 v14 v15 r15 r16 r17 r18 r19 r20 v16 r21 r22 r23 v17 h1 g0 f18)) [0, 1] rfl
      have hDc := hD.sub (ws' := (wd_f4cd022e h0 v0 h1 v1 x9 (-1) 6 h2 h3 h4 r0 r1 r2 r3 v3 v4 r4 r5 r6 r7 v5 r8 r9 v6 v7 r10 r11 v8 v9 r12 v10 v11 r13 v12 w13 r14 v14 v15 r15 r16 r17 r18 r19 r20 v16 r21 r22 r23 v17 h1 g0 f18)) [0, 1] (by decide) rfl
      have hKc := hK.sub (tys' := [(g0, .int)]) [0] rfl
      have hFc := va_free (wc := (wd_f4cd022e h0 v0 h1 v1 x9 (-1) 6 h2 h3 h4 r0 r1 r2 r3 v3 v4 r4 r5 r6 r7 v5 r8 r9 v6 v7 r10 r11 v8 v9 r12 v10 v11 r13 v12 w13 r14 v14 v15 r15 r16 r17 r18 r19 r20 v16 r21 r22 r23 v17 h1 g0 f18)) hD hS hA [0, 1] rfl
      refine va_calli (va_runV (As := []) (rest := [.int 0, .ref h0]) ⟨hx, hb, hml, hown, hts⟩ (k_X12_plainNumber l dC dI h0 h1 v0 v1 x9 6 h2 h3 h4 r0 r1 r2 r3 v3 v4 r4 r5 r6 r7 v5 r8 r9 v6 v7 r10 r11 v8 v9 r12 v10 v11 r13 v12 w13 r14 v14 v15 r15 r16 r17 r18 r19 r20 v16 r21 r22 r23 v17 g0 f18 ⟨i_v1a, i_v1b⟩ ⟨oa_x9, by first | omega | decide⟩ ⟨i_v3a, i_v3b⟩ ⟨i_v4a, i_v4b⟩ ⟨i_v5a, i_v5b⟩ ⟨i_v6a, i_v6b⟩ ⟨i_v7a, i_v7b⟩ ⟨i_v8a, i_v8b⟩ ⟨i_v12a, i_v12b⟩ ⟨i_v16a, i_v16b⟩ ⟨i_v17a, i_v17b⟩ ia_f18 (by apply pm_dig.mk <;> omega) H.size) (cwV 0 hts g_X12_atom_10 rfl rfl rfl (by decide +kernel) ⟨Nat.le_of_ble_eq_true rfl, Nat.le_of_ble_eq_true rfl⟩) (pv_PV12 hPc hKc hDc (q0 := 0) rfl) rfl rfl hl.1 rfl (lv_room (Nat.le_of_ble_eq_true rfl)) dX12_atom_15 ⟨Nat.le_of_ble_eq_true rfl, Nat.le_of_ble_eq_true rfl⟩) hS (fun q _ h => hFc q h) hFc (fun ra27 u t H1 locs ht hvm hwra27 hB hz1 hk1 hS => ?_)
      try rw [hwra27] at hB
      have hkra27_0 : ((6 : Int32)).toInt = 6 := by decide
      rcases hB with hB | hB
      · skip
        obtain ⟨x28, oa_x28, ob_x28, pt0_ra27, pt1_ra27, pt2_ra27, pt3_ra27, hP1, hK1, hD1⟩ := hB
        rw [ht] at hP1
        obtain ⟨hP2, hD2⟩ := va_join (wr := (wd_ad0642e8 h2 g1 f19 h3 g2 f20 h4 g3 f21)) (w1 := (wd_f4cd022e h0 v0 h1 v1 x28 (-1) 6 h2 h3 h4 r0 r1 r2 r3 v3 v4 r4 r5 r6 r7 v5 r8 r9 v6 v7 r10 r11 v8 v9 r12 v10 v11 r13 v12 w13 r14 v14 v15 r15 r16 r17 r18 r19 r20 v16 r21 r22 r23 v17 h1 g0 f18)) hP hD [0, 1] [2, 3, 4] rfl rfl (by decide) (by decide) hk1 hFc hP1 hD1
        clear hP hD hPc hDc hKc hFc hP1 hK1 hD1 hk1 hz1
        generalize H1 = H at hP2 hS ⊢
        have hP := hP2.sub (ws' := (wd_d906eaf1 h0 v0 h1 v1 x28 (-1) 6 h2 h3 h4 r0 r1 r2 r3 v3 v4 r4 r5 r6 r7 v5 r8 r9 v6 v7 r10 r11 v8 v9 r12 v10 v11 r13 v12 w13 r14 v14 v15 r15 r16 r17 r18 r19 r20 v16 r21 r22 r23 v17 h1 g0 f18 h2 g1 f19 h3 g2 f20 h4 g3 f21)) [3, 4, 0, 1, 2] rfl
        have hD := hD2.sub (ws' := (wd_d906eaf1 h0 v0 h1 v1 x28 (-1) 6 h2 h3 h4 r0 r1 r2 r3 v3 v4 r4 r5 r6 r7 v5 r8 r9 v6 v7 r10 r11 v8 v9 r12 v10 v11 r13 v12 w13 r14 v14 v15 r15 r16 r17 r18 r19 r20 v16 r21 r22 r23 v17 h1 g0 f18 h2 g1 f19 h3 g2 f20 h4 g3 f21)) [3, 4, 0, 1, 2] (by decide) rfl
        clear hP2 hD2
        have hPc := hP.sub (ws' := (wd_c62683a8 h0 v0 h1 v1 x28 (-1) 6 h2 h3 h4 r0 r1 r2 r3 v3 v4 r4 r5 r6 r7 v5 r8 r9 v6 v7 r10 r11 v8 v9 r12 v10 v11 r13 v12 w13 r14 v14 v15 r15 r16 r17 r18 r19 r20 v16 r21 r22 r23 v17 h2 g1 f19 h3 g2 f20 h4 g3 f21)) [0, 2, 3, 4] rfl
        have hDc := hD.sub (ws' := (wd_c62683a8 h0 v0 h1 v1 x28 (-1) 6 h2 h3 h4 r0 r1 r2 r3 v3 v4 r4 r5 r6 r7 v5 r8 r9 v6 v7 r10 r11 v8 v9 r12 v10 v11 r13 v12 w13 r14 v14 v15 r15 r16 r17 r18 r19 r20 v16 r21 r22 r23 v17 h2 g1 f19 h3 g2 f20 h4 g3 f21)) [0, 2, 3, 4] (by decide) rfl
        have hKc := hK.sub (tys' := [(g1, .int), (g2, .int), (g3, .int)]) [1, 2, 3] rfl
        have hFc := va_free (wc := (wd_c62683a8 h0 v0 h1 v1 x28 (-1) 6 h2 h3 h4 r0 r1 r2 r3 v3 v4 r4 r5 r6 r7 v5 r8 r9 v6 v7 r10 r11 v8 v9 r12 v10 v11 r13 v12 w13 r14 v14 v15 r15 r16 r17 r18 r19 r20 v16 r21 r22 r23 v17 h2 g1 f19 h3 g2 f20 h4 g3 f21)) hD hS hA [0, 2, 3, 4] rfl
        refine va_callv (va_runV (As := [.int 0, .int ra27]) (rest := []) ⟨hx, hb, hml, hown, hts⟩ (k_X12_put l dC dI h0 h2 h3 h4 v0 h1 v1 x28 ((-1)) 6 r0 r1 r2 r3 v3 v4 r4 r5 r6 r7 v5 r8 r9 v6 v7 r10 r11 v8 v9 r12 v10 v11 r13 v12 w13 r14 v14 v15 r15 r16 r17 r18 r19 r20 v16 r21 r22 r23 v17 g1 f19 g2 f20 g3 f21 0 ra27 ⟨i_v1a, i_v1b⟩ ⟨i_v3a, i_v3b⟩ ⟨i_v4a, i_v4b⟩ ⟨i_v5a, i_v5b⟩ ⟨i_v6a, i_v6b⟩ ⟨i_v7a, i_v7b⟩ ⟨i_v8a, i_v8b⟩ ⟨i_v12a, i_v12b⟩ ⟨i_v16a, i_v16b⟩ ⟨i_v17a, i_v17b⟩ (by constructor <;> omega) H.size) (cwV 2 hts g_X12_atom_9 rfl rfl rfl (by decide +kernel) ⟨Nat.le_of_ble_eq_true rfl, Nat.le_of_ble_eq_true rfl⟩) (pv_PV12 hPc hKc hDc (q0 := 0) rfl) rfl rfl hl.1 rfl (lv_room (Nat.le_of_ble_eq_true rfl)) dX12_atom_18 ⟨Nat.le_of_ble_eq_true rfl, Nat.le_of_ble_eq_true rfl⟩) hS (fun q _ h => hFc q h) hFc (fun u t H1 locs ht hvm hwra29 hB hz1 hk1 hS => ?_)
        have hkra29_0 : (((-1) : Int32)).toInt = -1 := by decide
        have hkra29_1 : ((0 : Int32)).toInt = 0 := by decide
        have hkra29_2 : ((6 : Int32)).toInt = 6 := by decide
        obtain ⟨fn30, fn31, fn32, pt0_ra29, hP1, hK1, hD1⟩ := hB
        rw [ht] at hP1
        obtain ⟨hP2, hD2⟩ := va_join (wr := (wd_d0032b31 h1 g0 f18)) (w1 := (wd_c62683a8 h0 v0 h1 v1 x28 (-1) 6 h2 h3 h4 r0 r1 r2 r3 v3 v4 r4 r5 r6 r7 v5 r8 r9 v6 v7 r10 r11 v8 v9 r12 v10 v11 r13 v12 w13 r14 v14 v15 r15 r16 r17 r18 r19 r20 v16 r21 r22 r23 v17 h2 g1 fn30 h3 g2 fn31 h4 g3 fn32)) hP hD [0, 2, 3, 4] [1] rfl rfl (by decide) (by decide) hk1 hFc hP1 hD1
        clear hP hD hPc hDc hKc hFc hP1 hK1 hD1 hk1 hz1
        generalize H1 = H at hP2 hS ⊢
        have hP := hP2.sub (ws' := (wd_d906eaf1 h0 v0 h1 v1 x28 (-1) 6 h2 h3 h4 r0 r1 r2 r3 v3 v4 r4 r5 r6 r7 v5 r8 r9 v6 v7 r10 r11 v8 v9 r12 v10 v11 r13 v12 w13 r14 v14 v15 r15 r16 r17 r18 r19 r20 v16 r21 r22 r23 v17 h1 g0 f18 h2 g1 fn30 h3 g2 fn31 h4 g3 fn32)) [1, 0, 2, 3, 4] rfl
        have hD := hD2.sub (ws' := (wd_d906eaf1 h0 v0 h1 v1 x28 (-1) 6 h2 h3 h4 r0 r1 r2 r3 v3 v4 r4 r5 r6 r7 v5 r8 r9 v6 v7 r10 r11 v8 v9 r12 v10 v11 r13 v12 w13 r14 v14 v15 r15 r16 r17 r18 r19 r20 v16 r21 r22 r23 v17 h1 g0 f18 h2 g1 fn30 h3 g2 fn31 h4 g3 fn32)) [1, 0, 2, 3, 4] (by decide) rfl
        clear hP2 hD2
        have hgR := hgR.lit (k' := 1) (D := 1) pt0_ra29 (by decide) (by decide) (by decide) (by decide) (by decide)
        have hgF := hgR.1
        have hxl := hgF.1
        have hxs := pt0_ra29.step
        refine lv_goto (tgt := 89) hx hb dX12_atom_21 (by decide) ?_
        subst hQ
        have hP9 := hP.sub (ws' := (wd_d906eaf1 h0 v0 h1 v1 x28 (-1) 6 h2 h3 h4 r0 r1 r2 r3 v3 v4 r4 r5 r6 r7 v5 r8 r9 v6 v7 r10 r11 v8 v9 r12 v10 v11 r13 v12 w13 r14 v14 v15 r15 r16 r17 r18 r19 r20 v16 r21 r22 r23 v17 h1 g0 f18 h2 g1 fn30 h3 g2 fn31 h4 g3 fn32)) [0, 1, 2, 3, 4] rfl
        have hD9 := hD.sub (ws' := (wd_d906eaf1 h0 v0 h1 v1 x28 (-1) 6 h2 h3 h4 r0 r1 r2 r3 v3 v4 r4 r5 r6 r7 v5 r8 r9 v6 v7 r10 r11 v8 v9 r12 v10 v11 r13 v12 w13 r14 v14 v15 r15 r16 r17 r18 r19 r20 v16 r21 r22 r23 v17 h1 g0 f18 h2 g1 fn30 h3 g2 fn31 h4 g3 fn32)) [0, 1, 2, 3, 4] (by decide) rfl
        have hK9 := hK.sub (tys' := []) [] rfl
        exact W.vret hx hb hr (fun t ht hW => ⟨⟨(), rfl, trivial, Or.inl ⟨x28, fn30, fn31, fn32, oa_x28, ob_x28, by constructor <;> omega, by exact hgR.mono (by decide), by show pg_atomF f18 v1.toInt false pg_none _ = _; first | (apply pg_atomF.num <;> first | assumption | omega) | (apply pg_atomF.lt <;> first | assumption | omega) | (apply pg_atomF.par1 <;> first | assumption | omega), by rw [ht]; exact hP9, va_K.moved hW.alike hK9, hD9⟩⟩, hS.F ht⟩) hS.2.2 dX12_atom_89
      · skip
        obtain ⟨x33, x34, oa_x33, ob_x33, oa_x34, ob_x34, pt0_ra27, pt1_ra27, pt2_ra27, pt3_ra27, hP1, hK1, hD1⟩ := hB
        rw [ht] at hP1
        obtain ⟨hP2, hD2⟩ := va_join (wr := (wd_ad0642e8 h2 g1 f19 h3 g2 f20 h4 g3 f21)) (w1 := (wd_f4cd022e h0 v0 h1 v1 x33 x34 6 h2 h3 h4 r0 r1 r2 r3 v3 v4 r4 r5 r6 r7 v5 r8 r9 v6 v7 r10 r11 v8 v9 r12 v10 v11 r13 v12 w13 r14 v14 v15 r15 r16 r17 r18 r19 r20 v16 r21 r22 r23 v17 h1 g0 f18)) hP hD [0, 1] [2, 3, 4] rfl rfl (by decide) (by decide) hk1 hFc hP1 hD1
        clear hP hD hPc hDc hKc hFc hP1 hK1 hD1 hk1 hz1
        generalize H1 = H at hP2 hS ⊢
        have hP := hP2.sub (ws' := (wd_d906eaf1 h0 v0 h1 v1 x33 x34 6 h2 h3 h4 r0 r1 r2 r3 v3 v4 r4 r5 r6 r7 v5 r8 r9 v6 v7 r10 r11 v8 v9 r12 v10 v11 r13 v12 w13 r14 v14 v15 r15 r16 r17 r18 r19 r20 v16 r21 r22 r23 v17 h1 g0 f18 h2 g1 f19 h3 g2 f20 h4 g3 f21)) [3, 4, 0, 1, 2] rfl
        have hD := hD2.sub (ws' := (wd_d906eaf1 h0 v0 h1 v1 x33 x34 6 h2 h3 h4 r0 r1 r2 r3 v3 v4 r4 r5 r6 r7 v5 r8 r9 v6 v7 r10 r11 v8 v9 r12 v10 v11 r13 v12 w13 r14 v14 v15 r15 r16 r17 r18 r19 r20 v16 r21 r22 r23 v17 h1 g0 f18 h2 g1 f19 h3 g2 f20 h4 g3 f21)) [3, 4, 0, 1, 2] (by decide) rfl
        clear hP2 hD2
        have hPc := hP.sub (ws' := (wd_c62683a8 h0 v0 h1 v1 x33 x34 6 h2 h3 h4 r0 r1 r2 r3 v3 v4 r4 r5 r6 r7 v5 r8 r9 v6 v7 r10 r11 v8 v9 r12 v10 v11 r13 v12 w13 r14 v14 v15 r15 r16 r17 r18 r19 r20 v16 r21 r22 r23 v17 h2 g1 f19 h3 g2 f20 h4 g3 f21)) [0, 2, 3, 4] rfl
        have hDc := hD.sub (ws' := (wd_c62683a8 h0 v0 h1 v1 x33 x34 6 h2 h3 h4 r0 r1 r2 r3 v3 v4 r4 r5 r6 r7 v5 r8 r9 v6 v7 r10 r11 v8 v9 r12 v10 v11 r13 v12 w13 r14 v14 v15 r15 r16 r17 r18 r19 r20 v16 r21 r22 r23 v17 h2 g1 f19 h3 g2 f20 h4 g3 f21)) [0, 2, 3, 4] (by decide) rfl
        have hKc := hK.sub (tys' := [(g1, .int), (g2, .int), (g3, .int)]) [1, 2, 3] rfl
        have hFc := va_free (wc := (wd_c62683a8 h0 v0 h1 v1 x33 x34 6 h2 h3 h4 r0 r1 r2 r3 v3 v4 r4 r5 r6 r7 v5 r8 r9 v6 v7 r10 r11 v8 v9 r12 v10 v11 r13 v12 w13 r14 v14 v15 r15 r16 r17 r18 r19 r20 v16 r21 r22 r23 v17 h2 g1 f19 h3 g2 f20 h4 g3 f21)) hD hS hA [0, 2, 3, 4] rfl
        refine va_callv (va_runV (As := [.int 0, .int ra27]) (rest := []) ⟨hx, hb, hml, hown, hts⟩ (k_X12_put l dC dI h0 h2 h3 h4 v0 h1 v1 x33 x34 6 r0 r1 r2 r3 v3 v4 r4 r5 r6 r7 v5 r8 r9 v6 v7 r10 r11 v8 v9 r12 v10 v11 r13 v12 w13 r14 v14 v15 r15 r16 r17 r18 r19 r20 v16 r21 r22 r23 v17 g1 f19 g2 f20 g3 f21 0 ra27 ⟨i_v1a, i_v1b⟩ ⟨i_v3a, i_v3b⟩ ⟨i_v4a, i_v4b⟩ ⟨i_v5a, i_v5b⟩ ⟨i_v6a, i_v6b⟩ ⟨i_v7a, i_v7b⟩ ⟨i_v8a, i_v8b⟩ ⟨i_v12a, i_v12b⟩ ⟨i_v16a, i_v16b⟩ ⟨i_v17a, i_v17b⟩ (by constructor <;> omega) H.size) (cwV 2 hts g_X12_atom_9 rfl rfl rfl (by decide +kernel) ⟨Nat.le_of_ble_eq_true rfl, Nat.le_of_ble_eq_true rfl⟩) (pv_PV12 hPc hKc hDc (q0 := 0) rfl) rfl rfl hl.1 rfl (lv_room (Nat.le_of_ble_eq_true rfl)) dX12_atom_18 ⟨Nat.le_of_ble_eq_true rfl, Nat.le_of_ble_eq_true rfl⟩) hS (fun q _ h => hFc q h) hFc (fun u t H1 locs ht hvm hwra35 hB hz1 hk1 hS => ?_)
        have hkra35_0 : ((0 : Int32)).toInt = 0 := by decide
        have hkra35_1 : ((6 : Int32)).toInt = 6 := by decide
        obtain ⟨fn36, fn37, fn38, pt0_ra35, hP1, hK1, hD1⟩ := hB
        rw [ht] at hP1
        obtain ⟨hP2, hD2⟩ := va_join (wr := (wd_d0032b31 h1 g0 f18)) (w1 := (wd_c62683a8 h0 v0 h1 v1 x33 x34 6 h2 h3 h4 r0 r1 r2 r3 v3 v4 r4 r5 r6 r7 v5 r8 r9 v6 v7 r10 r11 v8 v9 r12 v10 v11 r13 v12 w13 r14 v14 v15 r15 r16 r17 r18 r19 r20 v16 r21 r22 r23 v17 h2 g1 fn36 h3 g2 fn37 h4 g3 fn38)) hP hD [0, 2, 3, 4] [1] rfl rfl (by decide) (by decide) hk1 hFc hP1 hD1
        clear hP hD hPc hDc hKc hFc hP1 hK1 hD1 hk1 hz1
        generalize H1 = H at hP2 hS ⊢
        have hP := hP2.sub (ws' := (wd_d906eaf1 h0 v0 h1 v1 x33 x34 6 h2 h3 h4 r0 r1 r2 r3 v3 v4 r4 r5 r6 r7 v5 r8 r9 v6 v7 r10 r11 v8 v9 r12 v10 v11 r13 v12 w13 r14 v14 v15 r15 r16 r17 r18 r19 r20 v16 r21 r22 r23 v17 h1 g0 f18 h2 g1 fn36 h3 g2 fn37 h4 g3 fn38)) [1, 0, 2, 3, 4] rfl
        have hD := hD2.sub (ws' := (wd_d906eaf1 h0 v0 h1 v1 x33 x34 6 h2 h3 h4 r0 r1 r2 r3 v3 v4 r4 r5 r6 r7 v5 r8 r9 v6 v7 r10 r11 v8 v9 r12 v10 v11 r13 v12 w13 r14 v14 v15 r15 r16 r17 r18 r19 r20 v16 r21 r22 r23 v17 h1 g0 f18 h2 g1 fn36 h3 g2 fn37 h4 g3 fn38)) [1, 0, 2, 3, 4] (by decide) rfl
        clear hP2 hD2
        have hgF := hgF.put pt0_ra35
        have hxl := hgF.1
        have hxs := pt0_ra35.step
        refine lv_goto (tgt := 89) hx hb dX12_atom_21 (by decide) ?_
        subst hQ
        have hP9 := hP.sub (ws' := (wd_d906eaf1 h0 v0 h1 v1 x33 x34 6 h2 h3 h4 r0 r1 r2 r3 v3 v4 r4 r5 r6 r7 v5 r8 r9 v6 v7 r10 r11 v8 v9 r12 v10 v11 r13 v12 w13 r14 v14 v15 r15 r16 r17 r18 r19 r20 v16 r21 r22 r23 v17 h1 g0 f18 h2 g1 fn36 h3 g2 fn37 h4 g3 fn38)) [0, 1, 2, 3, 4] rfl
        have hD9 := hD.sub (ws' := (wd_d906eaf1 h0 v0 h1 v1 x33 x34 6 h2 h3 h4 r0 r1 r2 r3 v3 v4 r4 r5 r6 r7 v5 r8 r9 v6 v7 r10 r11 v8 v9 r12 v10 v11 r13 v12 w13 r14 v14 v15 r15 r16 r17 r18 r19 r20 v16 r21 r22 r23 v17 h1 g0 f18 h2 g1 fn36 h3 g2 fn37 h4 g3 fn38)) [0, 1, 2, 3, 4] (by decide) rfl
        have hK9 := hK.sub (tys' := []) [] rfl
        exact W.vret hx hb hr (fun t ht hW => ⟨⟨(), rfl, trivial, Or.inr (⟨x33, x34, 6, fn36, fn37, fn38, oa_x33, by first | omega | decide, oa_x34, ob_x34, by decide, by decide, by constructor <;> omega, by exact hgF, by show pg_atomF f18 v1.toInt false pg_none _ = _; first | (apply pg_atomF.num <;> first | assumption | omega) | (apply pg_atomF.par0 <;> first | assumption | omega) | (apply pg_atomF.par1 <;> first | assumption | omega) | (apply pg_atomF.deep <;> first | assumption | omega) | (apply pg_atomF.bad <;> first | assumption | omega), by rw [ht]; exact hP9, va_K.moved hW.alike hK9, hD9⟩)⟩, hS.F ht⟩) hS.2.2 dX12_atom_89
def q_X12_term : List Cond := .code yX12_term cX12_term 2 none :: (([.code yX12_atom cX12_atom 2 none, .code yX12_look cX12_look 1 (some .int), .code yX12_here cX12_here 1 (some .int), .fieldLink RX12 112 "LeftArgumentsModel" "at" "I", .fieldLink RX12 109 "LeftArgumentsModel" "size" "I", .fieldLink RX12 9 "LeftArgumentsModel" "tape" "[I", .initialized RX12, .instanceMethod yX12_here, .selects RX12 yX12_here yX12_here, .methodLink RX12 115 yX12_here, .instanceMethod yX12_look, .selects RX12 yX12_look yX12_look, .methodLink RX12 131 yX12_look, .code yX12_isDigit cX12_isDigit 1 (some .boolean), .static yX12_isDigit, .methodLink RX12 134 yX12_isDigit, .code yX12_letterOf cX12_letterOf 1 (some .int), .static yX12_letterOf, .methodLink RX12 145 yX12_letterOf, .code yX12_bad cX12_bad 1 none, .fieldLink RX12 119 "LeftArgumentsModel" "wrong" "I", .instanceMethod yX12_bad, .selects RX12 yX12_bad yX12_bad, .methodLink RX12 128 yX12_bad, .code yX12_opens cX12_opens 1 none, .fieldLink RX12 125 "LeftArgumentsModel" "deep" "I", .instanceMethod yX12_opens, .selects RX12 yX12_opens yX12_opens, .methodLink RX12 149 yX12_opens, .code yX12_put cX12_put 3 none, .fieldLink RX12 13 "LeftArgumentsModel" "code" "[I", .fieldLink RX12 122 "LeftArgumentsModel" "text" "I", .fieldLink RX12 19 "LeftArgumentsModel" "codes" "[I", .fieldLink RX12 16 "LeftArgumentsModel" "value" "[I", .instanceMethod yX12_put, .selects RX12 yX12_put yX12_put, .methodLink RX12 141 yX12_put, .code yX12_plainNumber cX12_plainNumber 3 (some .int), .instanceMethod yX12_plainNumber, .selects RX12 yX12_plainNumber yX12_plainNumber, .methodLink RX12 138 yX12_plainNumber, .instanceMethod yX12_atom, .selects RX12 yX12_atom yX12_atom, .methodLink RX12 159 yX12_atom] : List Cond) ++ wsX120)
set_option maxRecDepth 20000 in
theorem g_X12_term_0 : GoodIn q_X12_term (wsV RX12 159 RX12 yX12_atom q_X12_atom) := goodIn_app (goodIn_r _ [44, 42, 43, 7] rfl (by decide +kernel)) (goodIn_ca (goodIn_r (.code yX12_atom cX12_atom 2 none :: [.code yX12_look cX12_look 1 (some .int), .code yX12_here cX12_here 1 (some .int), .fieldLink RX12 112 "LeftArgumentsModel" "at" "I", .fieldLink RX12 109 "LeftArgumentsModel" "size" "I", .fieldLink RX12 9 "LeftArgumentsModel" "tape" "[I", .initialized RX12, .instanceMethod yX12_here, .selects RX12 yX12_here yX12_here, .methodLink RX12 115 yX12_here, .instanceMethod yX12_look, .selects RX12 yX12_look yX12_look, .methodLink RX12 131 yX12_look, .code yX12_isDigit cX12_isDigit 1 (some .boolean), .static yX12_isDigit, .methodLink RX12 134 yX12_isDigit, .code yX12_letterOf cX12_letterOf 1 (some .int), .static yX12_letterOf, .methodLink RX12 145 yX12_letterOf, .code yX12_bad cX12_bad 1 none, .fieldLink RX12 119 "LeftArgumentsModel" "wrong" "I", .instanceMethod yX12_bad, .selects RX12 yX12_bad yX12_bad, .methodLink RX12 128 yX12_bad, .code yX12_opens cX12_opens 1 none, .fieldLink RX12 125 "LeftArgumentsModel" "deep" "I", .instanceMethod yX12_opens, .selects RX12 yX12_opens yX12_opens, .methodLink RX12 149 yX12_opens, .code yX12_put cX12_put 3 none, .fieldLink RX12 13 "LeftArgumentsModel" "code" "[I", .fieldLink RX12 122 "LeftArgumentsModel" "text" "I", .fieldLink RX12 19 "LeftArgumentsModel" "codes" "[I", .fieldLink RX12 16 "LeftArgumentsModel" "value" "[I", .instanceMethod yX12_put, .selects RX12 yX12_put yX12_put, .methodLink RX12 141 yX12_put, .code yX12_plainNumber cX12_plainNumber 3 (some .int), .instanceMethod yX12_plainNumber, .selects RX12 yX12_plainNumber yX12_plainNumber, .methodLink RX12 138 yX12_plainNumber]) [1, 2, 3, 4, 5, 6, 7, 8, 9, 10, 11, 12, 13, 14, 15, 16, 17, 18, 19, 20, 21, 22, 23, 24, 25, 26, 27, 28, 29, 30, 31, 32, 33, 34, 35, 36, 37, 38, 39, 40, 41] rfl (by decide +kernel)) (goodIn_sub (fun _ h => List.mem_cons_of_mem _ (List.mem_append_right _ h)) gwX12))
set_option maxRecDepth 20000 in
theorem g_X12_term_1 : GoodIn q_X12_term (wsV RX12 131 RX12 yX12_look q_X12_look) := goodIn_app (goodIn_r _ [13, 11, 12, 7] rfl (by decide +kernel)) (goodIn_ca (goodIn_r (.code yX12_look cX12_look 1 (some .int) :: [.code yX12_here cX12_here 1 (some .int), .fieldLink RX12 112 "LeftArgumentsModel" "at" "I", .fieldLink RX12 109 "LeftArgumentsModel" "size" "I", .fieldLink RX12 9 "LeftArgumentsModel" "tape" "[I", .initialized RX12, .instanceMethod yX12_here, .selects RX12 yX12_here yX12_here, .methodLink RX12 115 yX12_here]) [2, 3, 4, 5, 6, 7, 8, 9, 10] rfl (by decide +kernel)) (goodIn_sub (fun _ h => List.mem_cons_of_mem _ (List.mem_append_right _ h)) gwX12))
set_option maxRecDepth 20000 in
theorem g_X12_term_3 : GoodIn q_X12_term (wsV RX12 141 RX12 yX12_put q_X12_put) := goodIn_app (goodIn_r _ [37, 35, 36, 7] rfl (by decide +kernel)) (goodIn_ca (goodIn_r (.code yX12_put cX12_put 3 none :: [.fieldLink RX12 13 "LeftArgumentsModel" "code" "[I", .fieldLink RX12 122 "LeftArgumentsModel" "text" "I", .fieldLink RX12 19 "LeftArgumentsModel" "codes" "[I", .fieldLink RX12 16 "LeftArgumentsModel" "value" "[I"]) [30, 31, 32, 33, 34] rfl (by decide +kernel)) (goodIn_sub (fun _ h => List.mem_cons_of_mem _ (List.mem_append_right _ h)) gwX12))
set_option maxHeartbeats 4000000 in
set_option maxRecDepth 100000 in
theorem k_X12_term (l : Launch) (dC : Nat → ClassId) (dI : Nat → Nat → Nat) (h0 : Nat) (h1 : Nat) (h2 : Nat) (h3 : Nat) (h4 : Nat) (v0 : Int32) (v1 : Int32) (v2 : Int32) (r0 : Nat) (r1 : Nat) (r2 : Nat) (r3 : Nat) (v3 : Int32) (v4 : Int32) (r4 : Nat) (r5 : Nat) (r6 : Nat) (r7 : Nat) (v5 : Int32) (r8 : Nat) (r9 : Nat) (v6 : Int32) (v7 : Int32) (r10 : Nat) (r11 : Nat) (v8 : Int32) (v9 : Int32) (r12 : Nat) (v10 : Int32) (v11 : Int32) (r13 : Nat) (v12 : Int32) (w13 : Int64) (r14 : Nat) (v14 : Int32) (v15 : Int32) (r15 : Nat) (r16 : Nat) (r17 : Nat) (r18 : Nat) (r19 : Nat) (r20 : Nat) (v16 : Int32) (r21 : Nat) (r22 : Nat) (r23 : Nat) (v17 : Int32) (g0 : ClassId) (f18 : Nat → Int32) (g1 : ClassId) (f19 : Nat → Int32) (g2 : ClassId) (f20 : Nat → Int32) (g3 : ClassId) (f21 : Nat → Int32) (i_v1 : 0 ≤ v1.toInt ∧ v1.toInt ≤ 240) (i_v2 : 0 ≤ v2.toInt ∧ v2.toInt ≤ 240) (i_v3 : 0 ≤ v3.toInt ∧ v3.toInt ≤ 4) (i_v4 : 0 ≤ v4.toInt ∧ v4.toInt ≤ 4) (i_v5 : 0 ≤ v5.toInt ∧ v5.toInt ≤ 8) (i_v6 : 0 ≤ v6.toInt ∧ v6.toInt ≤ 8) (i_v7 : 0 ≤ v7.toInt ∧ v7.toInt ≤ 1) (i_v8 : -1 ≤ v8.toInt ∧ v8.toInt ≤ 3) (i_v12 : 0 ≤ v12.toInt ∧ v12.toInt ≤ 40) (i_v16 : 0 ≤ v16.toInt ∧ v16.toInt ≤ 10) (i_v17 : 0 ≤ v17.toInt ∧ v17.toInt ≤ 1) (ia_f18 : (∀ j, 0 ≤ (f18 j).toInt ∧ (f18 j).toInt ≤ 255)) (pp0 : 0 ≤ pm_x f21 v4 ∧ pm_x f21 v4 ≤ v2.toInt) (sz : Nat) : Met l yX12_term q_X12_term ({ frames := 3, cells := 0, slots := 0, locals := 63 }) (va_Pc [.ref h0] (fun U => U.heap.size = sz ∧ va_P (dC, dI) vwCl (wd_d906eaf1 h0 v0 h1 v1 v2 (-1) 6 h2 h3 h4 r0 r1 r2 r3 v3 v4 r4 r5 r6 r7 v5 r8 r9 v6 v7 r10 r11 v8 v9 r12 v10 v11 r13 v12 w13 r14 v14 v15 r15 r16 r17 r18 r19 r20 v16 r21 r22 r23 v17 h1 g0 f18 h2 g1 f19 h3 g2 f20 h4 g3 f21) U.heap ∧ va_K (dC, dI) vwCl [(g0, .int), (g1, .int), (g2, .int), (g3, .int)] U ∧ va_D (fun _ => True) (wd_d906eaf1 h0 v0 h1 v1 v2 (-1) 6 h2 h3 h4 r0 r1 r2 r3 v3 v4 r4 r5 r6 r7 v5 r8 r9 v6 v7 r10 r11 v8 v9 r12 v10 v11 r13 v12 w13 r14 v14 v15 r15 r16 r17 r18 r19 r20 v16 r21 r22 r23 v17 h1 g0 f18 h2 g1 f19 h3 g2 f20 h4 g3 f21))) (va_Qv (fun (_ : Unit) => True) (fun (_ : Unit) (t : State) => (∃ (o_h0_3 : Int32) (o_h2 : Nat → Int32) (o_h3 : Nat → Int32) (o_h4 : Nat → Int32), 0 ≤ o_h0_3.toInt ∧ o_h0_3.toInt ≤ 240 ∧ (pm_x o_h4 v4 - pm_x f21 v4 ≤ o_h0_3.toInt - v2.toInt ∧ v2.toInt ≤ o_h0_3.toInt) ∧ (pm_R v4 0 1 2 f19 f20 f21 o_h2 o_h3 o_h4) ∧ (pg_term f18 v1.toInt 0 v2.toInt = (true, o_h0_3.toInt)) ∧ va_P (dC, dI) vwCl (wd_d906eaf1 h0 v0 h1 v1 o_h0_3 (-1) 6 h2 h3 h4 r0 r1 r2 r3 v3 v4 r4 r5 r6 r7 v5 r8 r9 v6 v7 r10 r11 v8 v9 r12 v10 v11 r13 v12 w13 r14 v14 v15 r15 r16 r17 r18 r19 r20 v16 r21 r22 r23 v17 h1 g0 f18 h2 g1 o_h2 h3 g2 o_h3 h4 g3 o_h4) t.heap ∧ va_K (dC, dI) vwCl [] t ∧ va_D (va_A (wd_d906eaf1 h0 v0 h1 v1 v2 (-1) 6 h2 h3 h4 r0 r1 r2 r3 v3 v4 r4 r5 r6 r7 v5 r8 r9 v6 v7 r10 r11 v8 v9 r12 v10 v11 r13 v12 w13 r14 v14 v15 r15 r16 r17 r18 r19 r20 v16 r21 r22 r23 v17 h1 g0 f18 h2 g1 f19 h3 g2 f20 h4 g3 f21) sz) (wd_d906eaf1 h0 v0 h1 v1 o_h0_3 (-1) 6 h2 h3 h4 r0 r1 r2 r3 v3 v4 r4 r5 r6 r7 v5 r8 r9 v6 v7 r10 r11 v8 v9 r12 v10 v11 r13 v12 w13 r14 v14 v15 r15 r16 r17 r18 r19 r20 v16 r21 r22 r23 v17 h1 g0 f18 h2 g1 o_h2 h3 g2 o_h3 h4 g3 o_h4)) ∨ (∃ (o_h0_3 : Int32) (o_h0_4 : Int32) (o_h0_5 : Int32) (o_h2 : Nat → Int32) (o_h3 : Nat → Int32) (o_h4 : Nat → Int32), 0 ≤ o_h0_3.toInt ∧ o_h0_3.toInt ≤ 240 ∧ 0 ≤ o_h0_4.toInt ∧ o_h0_4.toInt ≤ 240 ∧ 6 ≤ o_h0_5.toInt ∧ o_h0_5.toInt ≤ 7 ∧ (pm_x o_h4 v4 - pm_x f21 v4 ≤ o_h0_3.toInt - v2.toInt ∧ v2.toInt ≤ o_h0_3.toInt) ∧ (pm_F v4 f19 f20 f21 o_h2 o_h3 o_h4) ∧ (pg_term f18 v1.toInt 0 v2.toInt = (false, o_h0_4.toInt)) ∧ va_P (dC, dI) vwCl (wd_d906eaf1 h0 v0 h1 v1 o_h0_3 o_h0_4 o_h0_5 h2 h3 h4 r0 r1 r2 r3 v3 v4 r4 r5 r6 r7 v5 r8 r9 v6 v7 r10 r11 v8 v9 r12 v10 v11 r13 v12 w13 r14 v14 v15 r15 r16 r17 r18 r19 r20 v16 r21 r22 r23 v17 h1 g0 f18 h2 g1 o_h2 h3 g2 o_h3 h4 g3 o_h4) t.heap ∧ va_K (dC, dI) vwCl [] t ∧ va_D (va_A (wd_d906eaf1 h0 v0 h1 v1 v2 (-1) 6 h2 h3 h4 r0 r1 r2 r3 v3 v4 r4 r5 r6 r7 v5 r8 r9 v6 v7 r10 r11 v8 v9 r12 v10 v11 r13 v12 w13 r14 v14 v15 r15 r16 r17 r18 r19 r20 v16 r21 r22 r23 v17 h1 g0 f18 h2 g1 f19 h3 g2 f20 h4 g3 f21) sz) (wd_d906eaf1 h0 v0 h1 v1 o_h0_3 o_h0_4 o_h0_5 h2 h3 h4 r0 r1 r2 r3 v3 v4 r4 r5 r6 r7 v5 r8 r9 v6 v7 r10 r11 v8 v9 r12 v10 v11 r13 v12 w13 r14 v14 v15 r15 r16 r17 r18 r19 r20 v16 r21 r22 r23 v17 h1 g0 f18 h2 g1 o_h2 h3 g2 o_h3 h4 g3 o_h4))) (va_A (wd_d906eaf1 h0 v0 h1 v1 v2 (-1) 6 h2 h3 h4 r0 r1 r2 r3 v3 v4 r4 r5 r6 r7 v5 r8 r9 v6 v7 r10 r11 v8 v9 r12 v10 v11 r13 v12 w13 r14 v14 v15 r15 r16 r17 r18 r19 r20 v16 r21 r22 r23 v17 h1 g0 f18 h2 g1 f19 h3 g2 f20 h4 g3 f21) sz)) 0 0 (va_A (wd_d906eaf1 h0 v0 h1 v1 v2 (-1) 6 h2 h3 h4 r0 r1 r2 r3 v3 v4 r4 r5 r6 r7 v5 r8 r9 v6 v7 r10 r11 v8 v9 r12 v10 v11 r13 v12 w13 r14 v14 v15 r15 r16 r17 r18 r19 r20 v16 r21 r22 r23 v17 h1 g0 f18 h2 g1 f19 h3 g2 f20 h4 g3 f21) sz) := by
  refine Met.ofW (cc := cX12_term) (maxL := 2) (ret := none) (by decide) rfl ?_
  intro p e s m args below meth c s₁ B hml hv
  obtain ⟨i_v1a, i_v1b⟩ := i_v1
  obtain ⟨i_v2a, i_v2b⟩ := i_v2
  obtain ⟨i_v3a, i_v3b⟩ := i_v3
  obtain ⟨i_v4a, i_v4b⟩ := i_v4
  obtain ⟨i_v5a, i_v5b⟩ := i_v5
  obtain ⟨i_v6a, i_v6b⟩ := i_v6
  obtain ⟨i_v7a, i_v7b⟩ := i_v7
  obtain ⟨i_v8a, i_v8b⟩ := i_v8
  obtain ⟨i_v12a, i_v12b⟩ := i_v12
  obtain ⟨i_v16a, i_v16b⟩ := i_v16
  obtain ⟨i_v17a, i_v17b⟩ := i_v17
  obtain ⟨rfl, hsz, hP, hK, hD0⟩ := hv
  have hx := B.exec
  have hb := B.bytes
  have hr := B.returns
  have hts := atoms_spec (ws := q_X12_term) B.pre
  have hown : s.vm.findClass RX12 = some m.cls := findClass_of_methodNamed B.named
  have hlocks := B.notSynchronized
  subst hsz
  have hD := hD0.self (sz := s.heap.size)
  generalize hAe : va_A (wd_d906eaf1 h0 v0 h1 v1 v2 (-1) 6 h2 h3 h4 r0 r1 r2 r3 v3 v4 r4 r5 r6 r7 v5 r8 r9 v6 v7 r10 r11 v8 v9 r12 v10 v11 r13 v12 w13 r14 v14 v15 r15 r16 r17 r18 r19 r20 v16 r21 r22 r23 v17 h1 g0 f18 h2 g1 f19 h3 g2 f20 h4 g3 f21) s.heap.size = A at hD ⊢
  have hA : ∀ q : Nat, s.heap.size ≤ q → A q := fun q h => by rw [← hAe]; exact Or.inr h
  have hS : va_S A s.heap s.heap [] := va_S.rf
  generalize hQ : (MQ below _ _ s 0 0 A) = Q
  have hl := lv_entry ([.ref h0]) (n := 2) (Nat.le_of_ble_eq_true rfl)
  rw [lg_entry_eq]
  generalize (lg_sl ([.ref h0]) ++ List.replicate (2 - (lg_sl ([.ref h0])).length) Slot.unset).toArray = ls at hl ⊢
  have hl : lv_has ls 2 [(0, .ref h0)] := hl
  obtain ⟨H, hH⟩ : ∃ H : Heap, H = s.heap := ⟨_, rfl⟩
  obtain ⟨locs, hlocs⟩ : ∃ y : List Loc, y = [] := ⟨_, rfl⟩
  have hS : va_S A s.heap H locs := by rw [hH, hlocs]; exact va_S.rf
  have hP : va_P (dC, dI) vwCl (wd_d906eaf1 h0 v0 h1 v1 v2 (-1) 6 h2 h3 h4 r0 r1 r2 r3 v3 v4 r4 r5 r6 r7 v5 r8 r9 v6 v7 r10 r11 v8 v9 r12 v10 v11 r13 v12 w13 r14 v14 v15 r15 r16 r17 r18 r19 r20 v16 r21 r22 r23 v17 h1 g0 f18 h2 g1 f19 h3 g2 f20 h4 g3 f21) H := by rw [hH]; exact hP
  rw [← hH, ← hlocs]
  have px1 := pp0.1; have px2 := pp0.2
  have hgR := pm_R.refl (L := 0) v4 f19 f20 f21 px1
  have hgF := hgR.1
  refine lv_aload_n hx hb dX12_term_0 rfl (lv_at hl 0 rfl) ?_
  have hPc := hP.sub (ws' := (wd_d906eaf1 h0 v0 h1 v1 v2 (-1) 6 h2 h3 h4 r0 r1 r2 r3 v3 v4 r4 r5 r6 r7 v5 r8 r9 v6 v7 r10 r11 v8 v9 r12 v10 v11 r13 v12 w13 r14 v14 v15 r15 r16 r17 r18 r19 r20 v16 r21 r22 r23 v17 h1 g0 f18 h2 g1 f19 h3 g2 f20 h4 g3 f21)) [0, 1, 2, 3, 4] rfl
  have hDc := hD.sub (ws' := (wd_d906eaf1 h0 v0 h1 v1 v2 (-1) 6 h2 h3 h4 r0 r1 r2 r3 v3 v4 r4 r5 r6 r7 v5 r8 r9 v6 v7 r10 r11 v8 v9 r12 v10 v11 r13 v12 w13 r14 v14 v15 r15 r16 r17 r18 r19 r20 v16 r21 r22 r23 v17 h1 g0 f18 h2 g1 f19 h3 g2 f20 h4 g3 f21)) [0, 1, 2, 3, 4] (by decide) rfl
  have hKc := hK.sub (tys' := [(g0, .int), (g1, .int), (g2, .int), (g3, .int)]) [0, 1, 2, 3] rfl
  have hFc := va_free (wc := (wd_d906eaf1 h0 v0 h1 v1 v2 (-1) 6 h2 h3 h4 r0 r1 r2 r3 v3 v4 r4 r5 r6 r7 v5 r8 r9 v6 v7 r10 r11 v8 v9 r12 v10 v11 r13 v12 w13 r14 v14 v15 r15 r16 r17 r18 r19 r20 v16 r21 r22 r23 v17 h1 g0 f18 h2 g1 f19 h3 g2 f20 h4 g3 f21)) hD hS hA [0, 1, 2, 3, 4] rfl
  refine va_callv (va_runV (As := []) (rest := []) ⟨hx, hb, hml, hown, hts⟩ (k_X12_atom l dC dI h0 h1 h2 h3 h4 v0 v1 v2 r0 r1 r2 r3 v3 v4 r4 r5 r6 r7 v5 r8 r9 v6 v7 r10 r11 v8 v9 r12 v10 v11 r13 v12 w13 r14 v14 v15 r15 r16 r17 r18 r19 r20 v16 r21 r22 r23 v17 g0 f18 g1 f19 g2 f20 g3 f21 ⟨i_v1a, i_v1b⟩ ⟨i_v2a, i_v2b⟩ ⟨i_v3a, i_v3b⟩ ⟨i_v4a, i_v4b⟩ ⟨i_v5a, i_v5b⟩ ⟨i_v6a, i_v6b⟩ ⟨i_v7a, i_v7b⟩ ⟨i_v8a, i_v8b⟩ ⟨i_v12a, i_v12b⟩ ⟨i_v16a, i_v16b⟩ ⟨i_v17a, i_v17b⟩ ia_f18 pp0 H.size) (cwV 0 hts g_X12_term_0 rfl rfl rfl (by decide +kernel) ⟨Nat.le_of_ble_eq_true rfl, Nat.le_of_ble_eq_true rfl⟩) (pv_PV12 hPc hKc hDc (q0 := 0) rfl) rfl rfl hl.1 rfl (lv_room (Nat.le_of_ble_eq_true rfl)) dX12_term_1 ⟨Nat.le_of_ble_eq_true rfl, Nat.le_of_ble_eq_true rfl⟩) hS (fun q _ h => hFc q h) hFc (fun u t H1 locs ht hvm hwra1 hB hz1 hk1 hS => ?_)
  rcases hB with hB | hB
  · skip
    obtain ⟨x2, fn3, fn4, fn5, oa_x2, ob_x2, pt0_ra1, pt1_ra1, pt2_ra1, hP1, hK1, hD1⟩ := hB
    rw [ht] at hP1
    obtain ⟨hP2, hD2⟩ := va_join (wr := []) (w1 := (wd_d906eaf1 h0 v0 h1 v1 x2 (-1) 6 h2 h3 h4 r0 r1 r2 r3 v3 v4 r4 r5 r6 r7 v5 r8 r9 v6 v7 r10 r11 v8 v9 r12 v10 v11 r13 v12 w13 r14 v14 v15 r15 r16 r17 r18 r19 r20 v16 r21 r22 r23 v17 h1 g0 f18 h2 g1 fn3 h3 g2 fn4 h4 g3 fn5)) hP hD [0, 1, 2, 3, 4] [] rfl rfl (by decide) (by decide) hk1 hFc hP1 hD1
    clear hP hD hPc hDc hKc hFc hP1 hK1 hD1 hk1 hz1
    generalize H1 = H at hP2 hS ⊢
    have hP : va_P (dC, dI) vwCl (wd_d906eaf1 h0 v0 h1 v1 x2 (-1) 6 h2 h3 h4 r0 r1 r2 r3 v3 v4 r4 r5 r6 r7 v5 r8 r9 v6 v7 r10 r11 v8 v9 r12 v10 v11 r13 v12 w13 r14 v14 v15 r15 r16 r17 r18 r19 r20 v16 r21 r22 r23 v17 h1 g0 f18 h2 g1 fn3 h3 g2 fn4 h4 g3 fn5) H := hP2
    have hD : va_D A (wd_d906eaf1 h0 v0 h1 v1 x2 (-1) 6 h2 h3 h4 r0 r1 r2 r3 v3 v4 r4 r5 r6 r7 v5 r8 r9 v6 v7 r10 r11 v8 v9 r12 v10 v11 r13 v12 w13 r14 v14 v15 r15 r16 r17 r18 r19 r20 v16 r21 r22 r23 v17 h1 g0 f18 h2 g1 fn3 h3 g2 fn4 h4 g3 fn5) := hD2
    clear hP2 hD2
    have hgR := hgR.app (k' := 1) (D := 1) pt1_ra1 (by decide) (by decide) (by decide) (by decide)
    have hgF := hgR.1
    have hxl := hgF.1
    refine lv_aload_n hx hb dX12_term_4 rfl (lv_at hl 0 rfl) ?_
    refine va_get (D := (dC, dI)) (ci := 12) (v := .int (-1)) (C := RX12) (T := TX12) (N := 48) hx hb hts (fun _ h => List.mem_cons_of_mem _ (List.mem_append_right _ h)) hown hK hP 0 rfl rfl 4 (by decide) (hts (.fieldLink RX12 119 "LeftArgumentsModel" "wrong" "I") (List.mem_cons_of_mem _ (List.mem_append_left _ (List.mem_of_getElem? (i := 20) rfl)))) (fun _ h9 => h9) rfl dX12_term_5 ?_
    refine lv_iconst (v := (-1)) hx hb dX12_term_8 (by decide) ?_
    refine lv_icmp_ne (tgt := 19) hx hb dX12_term_9 (by decide) (fun c => absurd (by decide) c) (fun _ => ?_)
    refine lv_aload_n hx hb dX12_term_12 rfl (lv_at hl 0 rfl) ?_
    have hPc := hP.sub (ws' := (wd_f4cd022e h0 v0 h1 v1 x2 (-1) 6 h2 h3 h4 r0 r1 r2 r3 v3 v4 r4 r5 r6 r7 v5 r8 r9 v6 v7 r10 r11 v8 v9 r12 v10 v11 r13 v12 w13 r14 v14 v15 r15 r16 r17 r18 r19 r20 v16 r21 r22 r23 v17 h1 g0 f18)) [0, 1] rfl
    have hDc := hD.sub (ws' := (wd_f4cd022e h0 v0 h1 v1 x2 (-1) 6 h2 h3 h4 r0 r1 r2 r3 v3 v4 r4 r5 r6 r7 v5 r8 r9 v6 v7 r10 r11 v8 v9 r12 v10 v11 r13 v12 w13 r14 v14 v15 r15 r16 r17 r18 r19 r20 v16 r21 r22 r23 v17 h1 g0 f18)) [0, 1] (by decide) rfl
    have hKc := hK.sub (tys' := [(g0, .int)]) [0] rfl
    have hFc := va_free (wc := (wd_f4cd022e h0 v0 h1 v1 x2 (-1) 6 h2 h3 h4 r0 r1 r2 r3 v3 v4 r4 r5 r6 r7 v5 r8 r9 v6 v7 r10 r11 v8 v9 r12 v10 v11 r13 v12 w13 r14 v14 v15 r15 r16 r17 r18 r19 r20 v16 r21 r22 r23 v17 h1 g0 f18)) hD hS hA [0, 1] rfl
    refine va_calli (va_runV (As := []) (rest := []) ⟨hx, hb, hml, hown, hts⟩ (k_X12_look l dC dI h0 h1 v0 v1 x2 ((-1)) 6 h2 h3 h4 r0 r1 r2 r3 v3 v4 r4 r5 r6 r7 v5 r8 r9 v6 v7 r10 r11 v8 v9 r12 v10 v11 r13 v12 w13 r14 v14 v15 r15 r16 r17 r18 r19 r20 v16 r21 r22 r23 v17 g0 f18 ⟨i_v1a, i_v1b⟩ ⟨oa_x2, ob_x2⟩ ⟨i_v3a, i_v3b⟩ ⟨i_v4a, i_v4b⟩ ⟨i_v5a, i_v5b⟩ ⟨i_v6a, i_v6b⟩ ⟨i_v7a, i_v7b⟩ ⟨i_v8a, i_v8b⟩ ⟨i_v12a, i_v12b⟩ ⟨i_v16a, i_v16b⟩ ⟨i_v17a, i_v17b⟩ ia_f18 H.size) (cwV 0 hts g_X12_term_1 rfl rfl rfl (by decide +kernel) ⟨Nat.le_of_ble_eq_true rfl, Nat.le_of_ble_eq_true rfl⟩) (pv_PV12 hPc hKc hDc (q0 := 0) rfl) rfl rfl hl.1 rfl (lv_room (Nat.le_of_ble_eq_true rfl)) dX12_term_13 ⟨Nat.le_of_ble_eq_true rfl, Nat.le_of_ble_eq_true rfl⟩) hS (fun q _ h => hFc q h) hFc (fun ra6 u t H1 locs ht hvm hwra6 hB hz1 hk1 hS => ?_)
    try rw [hwra6] at hB
    have hkra6_0 : (((-1) : Int32)).toInt = -1 := by decide
    have hkra6_1 : ((6 : Int32)).toInt = 6 := by decide
    rcases hB with hB | hB
    · skip
      obtain ⟨x7, oa_x7, ob_x7, pt0_ra6, pt1_ra6, pt2_ra6, pt3_ra6, pt4_ra6, pt5_ra6, pt6_ra6, hP1, hK1, hD1⟩ := hB
      rw [ht] at hP1
      obtain ⟨hP2, hD2⟩ := va_join (wr := (wd_ad0642e8 h2 g1 fn3 h3 g2 fn4 h4 g3 fn5)) (w1 := (wd_f4cd022e h0 v0 h1 v1 x7 (-1) 6 h2 h3 h4 r0 r1 r2 r3 v3 v4 r4 r5 r6 r7 v5 r8 r9 v6 v7 r10 r11 v8 v9 r12 v10 v11 r13 v12 w13 r14 v14 v15 r15 r16 r17 r18 r19 r20 v16 r21 r22 r23 v17 h1 g0 f18)) hP hD [0, 1] [2, 3, 4] rfl rfl (by decide) (by decide) hk1 hFc hP1 hD1
      clear hP hD hPc hDc hKc hFc hP1 hK1 hD1 hk1 hz1
      generalize H1 = H at hP2 hS ⊢
      have hP := hP2.sub (ws' := (wd_d906eaf1 h0 v0 h1 v1 x7 (-1) 6 h2 h3 h4 r0 r1 r2 r3 v3 v4 r4 r5 r6 r7 v5 r8 r9 v6 v7 r10 r11 v8 v9 r12 v10 v11 r13 v12 w13 r14 v14 v15 r15 r16 r17 r18 r19 r20 v16 r21 r22 r23 v17 h1 g0 f18 h2 g1 fn3 h3 g2 fn4 h4 g3 fn5)) [3, 4, 0, 1, 2] rfl
      have hD := hD2.sub (ws' := (wd_d906eaf1 h0 v0 h1 v1 x7 (-1) 6 h2 h3 h4 r0 r1 r2 r3 v3 v4 r4 r5 r6 r7 v5 r8 r9 v6 v7 r10 r11 v8 v9 r12 v10 v11 r13 v12 w13 r14 v14 v15 r15 r16 r17 r18 r19 r20 v16 r21 r22 r23 v17 h1 g0 f18 h2 g1 fn3 h3 g2 fn4 h4 g3 fn5)) [3, 4, 0, 1, 2] (by decide) rfl
      clear hP2 hD2
      obtain rfl : ra6 = ((-1) : Int32) := pv_cs (by decide) pt0_ra6 pt1_ra6
      refine lv_goto (tgt := 20) hx hb dX12_term_16 (by decide) ?_
      refine lv_istore_n (lv' := [(1, .int (-1)), (0, .ref h0)]) hx hb dX12_term_20 rfl hl (by decide) rfl (fun ls hl => ?_)
      refine lv_iload_n hx hb dX12_term_21 rfl (lv_at hl 0 rfl) ?_
      refine lv_bipush (v := 42) hx hb dX12_term_22 (by decide) ?_
      refine lv_icmp_eq (tgt := 33) hx hb dX12_term_24 (by decide) (fun c => absurd c (by decide)) (fun _ => ?_)
      refine lv_iload_n hx hb dX12_term_27 rfl (lv_at hl 0 rfl) ?_
      refine lv_bipush (v := 47) hx hb dX12_term_28 (by decide) ?_
      refine lv_icmp_ne (tgt := 83) hx hb dX12_term_30 (by decide) (fun _ => ?_) (fun c => absurd c (by decide))
      subst hQ
      have hP9 := hP.sub (ws' := (wd_d906eaf1 h0 v0 h1 v1 x7 (-1) 6 h2 h3 h4 r0 r1 r2 r3 v3 v4 r4 r5 r6 r7 v5 r8 r9 v6 v7 r10 r11 v8 v9 r12 v10 v11 r13 v12 w13 r14 v14 v15 r15 r16 r17 r18 r19 r20 v16 r21 r22 r23 v17 h1 g0 f18 h2 g1 fn3 h3 g2 fn4 h4 g3 fn5)) [0, 1, 2, 3, 4] rfl
      have hD9 := hD.sub (ws' := (wd_d906eaf1 h0 v0 h1 v1 x7 (-1) 6 h2 h3 h4 r0 r1 r2 r3 v3 v4 r4 r5 r6 r7 v5 r8 r9 v6 v7 r10 r11 v8 v9 r12 v10 v11 r13 v12 w13 r14 v14 v15 r15 r16 r17 r18 r19 r20 v16 r21 r22 r23 v17 h1 g0 f18 h2 g1 fn3 h3 g2 fn4 h4 g3 fn5)) [0, 1, 2, 3, 4] (by decide) rfl
      have hK9 := hK.sub (tys' := []) [] rfl
      exact W.vret hx hb hr (fun t ht hW => ⟨⟨(), rfl, trivial, Or.inl ⟨x7, fn3, fn4, fn5, oa_x7, ob_x7, by constructor <;> omega, by exact hgR.mono (by decide), by first | assumption | (apply pg_row.st <;> first | assumption | omega) | (apply pg_L.out <;> first | assumption | omega) | (apply pg_L.last <;> first | assumption | omega), by rw [ht]; exact hP9, va_K.moved hW.alike hK9, hD9⟩⟩, hS.F ht⟩) hS.2.2 dX12_term_83
    · skip
      obtain ⟨x8, oa_x8, ob_x8, pt0_ra6, pt1_ra6, pt2_ra6, pt3_ra6, pt4_ra6, pt5_ra6, pt6_ra6, pt7_ra6, hP1, hK1, hD1⟩ := hB
      rw [ht] at hP1
      obtain ⟨hP2, hD2⟩ := va_join (wr := (wd_ad0642e8 h2 g1 fn3 h3 g2 fn4 h4 g3 fn5)) (w1 := (wd_f4cd022e h0 v0 h1 v1 x8 (-1) 6 h2 h3 h4 r0 r1 r2 r3 v3 v4 r4 r5 r6 r7 v5 r8 r9 v6 v7 r10 r11 v8 v9 r12 v10 v11 r13 v12 w13 r14 v14 v15 r15 r16 r17 r18 r19 r20 v16 r21 r22 r23 v17 h1 g0 f18)) hP hD [0, 1] [2, 3, 4] rfl rfl (by decide) (by decide) hk1 hFc hP1 hD1
      clear hP hD hPc hDc hKc hFc hP1 hK1 hD1 hk1 hz1
      generalize H1 = H at hP2 hS ⊢
      have hP := hP2.sub (ws' := (wd_d906eaf1 h0 v0 h1 v1 x8 (-1) 6 h2 h3 h4 r0 r1 r2 r3 v3 v4 r4 r5 r6 r7 v5 r8 r9 v6 v7 r10 r11 v8 v9 r12 v10 v11 r13 v12 w13 r14 v14 v15 r15 r16 r17 r18 r19 r20 v16 r21 r22 r23 v17 h1 g0 f18 h2 g1 fn3 h3 g2 fn4 h4 g3 fn5)) [3, 4, 0, 1, 2] rfl
      have hD := hD2.sub (ws' := (wd_d906eaf1 h0 v0 h1 v1 x8 (-1) 6 h2 h3 h4 r0 r1 r2 r3 v3 v4 r4 r5 r6 r7 v5 r8 r9 v6 v7 r10 r11 v8 v9 r12 v10 v11 r13 v12 w13 r14 v14 v15 r15 r16 r17 r18 r19 r20 v16 r21 r22 r23 v17 h1 g0 f18 h2 g1 fn3 h3 g2 fn4 h4 g3 fn5)) [3, 4, 0, 1, 2] (by decide) rfl
      clear hP2 hD2
      refine lv_goto (tgt := 20) hx hb dX12_term_16 (by decide) ?_
      refine lv_istore_n (lv' := [(1, .int ra6), (0, .ref h0)]) hx hb dX12_term_20 rfl hl (by decide) rfl (fun ls hl => ?_)
      have hL19 : ∀ (n9 : Nat), ∀ (x9 : Int32) (x10 : Int32) (fn11 : Nat → Int32) (fn12 : Nat → Int32) (fn13 : Nat → Int32) (H : Heap) (locs : List Loc) (ls : Array Slot), 0 ≤ x9.toInt → x9.toInt ≤ 255 → 0 ≤ x10.toInt → x10.toInt ≤ 239 → (pm_x fn13 v4 - pm_x f21 v4 ≤ x10.toInt - v2.toInt ∧ v2.toInt ≤ x10.toInt) → (pm_R v4 0 1 2 f19 f20 f21 fn11 fn12 fn13) → (pg_L f18 v1.toInt 42 47 (pg_atom f18 v1.toInt 0) x10.toInt (pg_term f18 v1.toInt 0 v2.toInt)) → (x9.toInt = pg_ch f18 v1.toInt x10.toInt) → (¬ pg_ch f18 v1.toInt x10.toInt = 32) → (300 - x10.toInt).toNat < n9 → va_P (dC, dI) vwCl (wd_d906eaf1 h0 v0 h1 v1 x10 (-1) 6 h2 h3 h4 r0 r1 r2 r3 v3 v4 r4 r5 r6 r7 v5 r8 r9 v6 v7 r10 r11 v8 v9 r12 v10 v11 r13 v12 w13 r14 v14 v15 r15 r16 r17 r18 r19 r20 v16 r21 r22 r23 v17 h1 g0 f18 h2 g1 fn11 h3 g2 fn12 h4 g3 fn13) H → va_D A (wd_d906eaf1 h0 v0 h1 v1 x10 (-1) 6 h2 h3 h4 r0 r1 r2 r3 v3 v4 r4 r5 r6 r7 v5 r8 r9 v6 v7 r10 r11 v8 v9 r12 v10 v11 r13 v12 w13 r14 v14 v15 r15 r16 r17 r18 r19 r20 v16 r21 r22 r23 v17 h1 g0 f18 h2 g1 fn11 h3 g2 fn12 h4 g3 fn13) → va_S A s.heap H locs → lv_has ls 2 [(1, .int x9), (0, .ref h0)] → W p l e ({ frames := 3, cells := 0, slots := 0, locals := 63 }) s m ([.ref h0] : List Value).toArray below meth c H locs 0 0 Q (F0 m 21 ls []) := by
        intro n9
        induction n9 with
        | zero => intro x9 x10 fn11 fn12 fn13 H locs ls qa_x9 qb_x9 qa_x10 qb_x10 gh0_hL19 gh1_hL19 gh2_hL19 gh3_hL19 gh4_hL19 hm9 hP hD hS hl; exact absurd hm9 (Nat.not_lt_zero _)
        | succ n9 ih_hL19 =>
          intro x9 x10 fn11 fn12 fn13 H locs ls qa_x9 qb_x9 qa_x10 qb_x10 gh0_hL19 gh1_hL19 gh2_hL19 gh3_hL19 gh4_hL19 hm9 hP hD hS hl
          have hgR := gh1_hL19; have hgF := hgR.1; have hxl := hgF.1
          refine lv_iload_n hx hb dX12_term_21 rfl (lv_at hl 0 rfl) ?_
          refine lv_bipush (v := 42) hx hb dX12_term_22 (by decide) ?_
          refine lv_icmp_eq (tgt := 33) hx hb dX12_term_24 (by decide) (fun c20 => ?_) (fun c20 => ?_)
          · skip
            have fc20 : x9.toInt = 42 := congrArg Int32.toInt c20
            refine lv_aload_n hx hb dX12_term_33 rfl (lv_at hl 1 rfl) ?_
            refine lv_dup hx hb dX12_term_34 rfl ?_
            refine va_get (D := (dC, dI)) (ci := 12) (v := .int x10) (C := RX12) (T := TX12) (N := 48) hx hb hts (fun _ h => List.mem_cons_of_mem _ (List.mem_append_right _ h)) hown hK hP 0 rfl rfl 3 (by decide) (hts (.fieldLink RX12 112 "LeftArgumentsModel" "at" "I") (List.mem_cons_of_mem _ (List.mem_append_left _ (List.mem_of_getElem? (i := 3) rfl)))) (fun _ h9 => h9) rfl dX12_term_35 ?_
            refine lv_iconst (v := 1) hx hb dX12_term_38 (by decide) ?_
            refine lv_iadd hx hb dX12_term_39 ?_
            refine lv_topi (fun t21 et21 => ?_)
            have gt21 : t21.toInt = x10.toInt + 1 := pv_add (a := x10.toInt) (b := 1) et21 rfl (by decide) (by omega) (by omega)
            refine va_put (D := (dC, dI)) (ci := 12) (v := .int t21) (ty := .int) (C := RX12) (T := TX12) (N := 48) hx hb hts (fun _ h => List.mem_cons_of_mem _ (List.mem_append_right _ h)) tyX12 tyX12_ok nmX12 hown hK hP hD hS 0 rfl rfl 3 (by decide) (hts (.fieldLink RX12 112 "LeftArgumentsModel" "at" "I") (List.mem_cons_of_mem _ (List.mem_append_left _ (List.mem_of_getElem? (i := 3) rfl)))) (fun _ h9 => h9) rfl (by decide +kernel) rfl rfl (Nat.le_of_ble_eq_true rfl) dX12_term_40 (fun H locs hP hD hS => ?_)
            have hP : va_P (dC, dI) vwCl (wd_d906eaf1 h0 v0 h1 v1 t21 (-1) 6 h2 h3 h4 r0 r1 r2 r3 v3 v4 r4 r5 r6 r7 v5 r8 r9 v6 v7 r10 r11 v8 v9 r12 v10 v11 r13 v12 w13 r14 v14 v15 r15 r16 r17 r18 r19 r20 v16 r21 r22 r23 v17 h1 g0 f18 h2 g1 fn11 h3 g2 fn12 h4 g3 fn13) H := hP
            have hD : va_D A (wd_d906eaf1 h0 v0 h1 v1 t21 (-1) 6 h2 h3 h4 r0 r1 r2 r3 v3 v4 r4 r5 r6 r7 v5 r8 r9 v6 v7 r10 r11 v8 v9 r12 v10 v11 r13 v12 w13 r14 v14 v15 r15 r16 r17 r18 r19 r20 v16 r21 r22 r23 v17 h1 g0 f18 h2 g1 fn11 h3 g2 fn12 h4 g3 fn13) := hD
            refine lv_aload_n hx hb dX12_term_43 rfl (lv_at hl 1 rfl) ?_
            have hPc := hP.sub (ws' := (wd_d906eaf1 h0 v0 h1 v1 t21 (-1) 6 h2 h3 h4 r0 r1 r2 r3 v3 v4 r4 r5 r6 r7 v5 r8 r9 v6 v7 r10 r11 v8 v9 r12 v10 v11 r13 v12 w13 r14 v14 v15 r15 r16 r17 r18 r19 r20 v16 r21 r22 r23 v17 h1 g0 f18 h2 g1 fn11 h3 g2 fn12 h4 g3 fn13)) [0, 1, 2, 3, 4] rfl
            have hDc := hD.sub (ws' := (wd_d906eaf1 h0 v0 h1 v1 t21 (-1) 6 h2 h3 h4 r0 r1 r2 r3 v3 v4 r4 r5 r6 r7 v5 r8 r9 v6 v7 r10 r11 v8 v9 r12 v10 v11 r13 v12 w13 r14 v14 v15 r15 r16 r17 r18 r19 r20 v16 r21 r22 r23 v17 h1 g0 f18 h2 g1 fn11 h3 g2 fn12 h4 g3 fn13)) [0, 1, 2, 3, 4] (by decide) rfl
            have hKc := hK.sub (tys' := [(g0, .int), (g1, .int), (g2, .int), (g3, .int)]) [0, 1, 2, 3] rfl
            have hFc := va_free (wc := (wd_d906eaf1 h0 v0 h1 v1 t21 (-1) 6 h2 h3 h4 r0 r1 r2 r3 v3 v4 r4 r5 r6 r7 v5 r8 r9 v6 v7 r10 r11 v8 v9 r12 v10 v11 r13 v12 w13 r14 v14 v15 r15 r16 r17 r18 r19 r20 v16 r21 r22 r23 v17 h1 g0 f18 h2 g1 fn11 h3 g2 fn12 h4 g3 fn13)) hD hS hA [0, 1, 2, 3, 4] rfl
            refine va_callv (va_runV (As := []) (rest := []) ⟨hx, hb, hml, hown, hts⟩ (k_X12_atom l dC dI h0 h1 h2 h3 h4 v0 v1 t21 r0 r1 r2 r3 v3 v4 r4 r5 r6 r7 v5 r8 r9 v6 v7 r10 r11 v8 v9 r12 v10 v11 r13 v12 w13 r14 v14 v15 r15 r16 r17 r18 r19 r20 v16 r21 r22 r23 v17 g0 f18 g1 fn11 g2 fn12 g3 fn13 ⟨i_v1a, i_v1b⟩ ⟨by first | omega | decide, by first | omega | decide⟩ ⟨i_v3a, i_v3b⟩ ⟨i_v4a, i_v4b⟩ ⟨i_v5a, i_v5b⟩ ⟨i_v6a, i_v6b⟩ ⟨i_v7a, i_v7b⟩ ⟨i_v8a, i_v8b⟩ ⟨i_v12a, i_v12b⟩ ⟨i_v16a, i_v16b⟩ ⟨i_v17a, i_v17b⟩ ia_f18 (by constructor <;> omega) H.size) (cwV 0 hts g_X12_term_0 rfl rfl rfl (by decide +kernel) ⟨Nat.le_of_ble_eq_true rfl, Nat.le_of_ble_eq_true rfl⟩) (pv_PV12 hPc hKc hDc (q0 := 0) rfl) rfl rfl hl.1 rfl (lv_room (Nat.le_of_ble_eq_true rfl)) dX12_term_44 ⟨Nat.le_of_ble_eq_true rfl, Nat.le_of_ble_eq_true rfl⟩) hS (fun q _ h => hFc q h) hFc (fun u t H1 locs ht hvm hwra22 hB hz1 hk1 hS => ?_)
            rcases hB with hB | hB
            · skip
              obtain ⟨x23, fn24, fn25, fn26, oa_x23, ob_x23, pt0_ra22, pt1_ra22, pt2_ra22, hP1, hK1, hD1⟩ := hB
              rw [ht] at hP1
              obtain ⟨hP2, hD2⟩ := va_join (wr := []) (w1 := (wd_d906eaf1 h0 v0 h1 v1 x23 (-1) 6 h2 h3 h4 r0 r1 r2 r3 v3 v4 r4 r5 r6 r7 v5 r8 r9 v6 v7 r10 r11 v8 v9 r12 v10 v11 r13 v12 w13 r14 v14 v15 r15 r16 r17 r18 r19 r20 v16 r21 r22 r23 v17 h1 g0 f18 h2 g1 fn24 h3 g2 fn25 h4 g3 fn26)) hP hD [0, 1, 2, 3, 4] [] rfl rfl (by decide) (by decide) hk1 hFc hP1 hD1
              clear hP hD hPc hDc hKc hFc hP1 hK1 hD1 hk1 hz1
              generalize H1 = H at hP2 hS ⊢
              have hP : va_P (dC, dI) vwCl (wd_d906eaf1 h0 v0 h1 v1 x23 (-1) 6 h2 h3 h4 r0 r1 r2 r3 v3 v4 r4 r5 r6 r7 v5 r8 r9 v6 v7 r10 r11 v8 v9 r12 v10 v11 r13 v12 w13 r14 v14 v15 r15 r16 r17 r18 r19 r20 v16 r21 r22 r23 v17 h1 g0 f18 h2 g1 fn24 h3 g2 fn25 h4 g3 fn26) H := hP2
              have hD : va_D A (wd_d906eaf1 h0 v0 h1 v1 x23 (-1) 6 h2 h3 h4 r0 r1 r2 r3 v3 v4 r4 r5 r6 r7 v5 r8 r9 v6 v7 r10 r11 v8 v9 r12 v10 v11 r13 v12 w13 r14 v14 v15 r15 r16 r17 r18 r19 r20 v16 r21 r22 r23 v17 h1 g0 f18 h2 g1 fn24 h3 g2 fn25 h4 g3 fn26) := hD2
              clear hP2 hD2
              have hgR := hgR.app (k' := 2) (D := 2) pt1_ra22 (by decide) (by decide) (by decide) (by decide)
              have hgF := hgR.1
              have hxl := hgF.1
              refine lv_aload_n hx hb dX12_term_47 rfl (lv_at hl 1 rfl) ?_
              refine lv_iload_n hx hb dX12_term_48 rfl (lv_at hl 0 rfl) ?_
              refine lv_bipush (v := 42) hx hb dX12_term_49 (by decide) ?_
              refine lv_icmp_ne (tgt := 58) hx hb dX12_term_51 (by decide) (fun c27 => by exfalso; have fc27 : ¬ (x9.toInt = 42) := fun h9 => c27 (Int32.toInt_inj.mp h9); omega) (fun _ => ?_)
              refine lv_iconst (v := 4) hx hb dX12_term_54 (by decide) ?_
              refine lv_goto (tgt := 59) hx hb dX12_term_55 (by decide) ?_
              refine lv_iconst (v := 0) hx hb dX12_term_59 (by decide) ?_
              have hPc := hP.sub (ws' := (wd_c62683a8 h0 v0 h1 v1 x23 (-1) 6 h2 h3 h4 r0 r1 r2 r3 v3 v4 r4 r5 r6 r7 v5 r8 r9 v6 v7 r10 r11 v8 v9 r12 v10 v11 r13 v12 w13 r14 v14 v15 r15 r16 r17 r18 r19 r20 v16 r21 r22 r23 v17 h2 g1 fn24 h3 g2 fn25 h4 g3 fn26)) [0, 2, 3, 4] rfl
              have hDc := hD.sub (ws' := (wd_c62683a8 h0 v0 h1 v1 x23 (-1) 6 h2 h3 h4 r0 r1 r2 r3 v3 v4 r4 r5 r6 r7 v5 r8 r9 v6 v7 r10 r11 v8 v9 r12 v10 v11 r13 v12 w13 r14 v14 v15 r15 r16 r17 r18 r19 r20 v16 r21 r22 r23 v17 h2 g1 fn24 h3 g2 fn25 h4 g3 fn26)) [0, 2, 3, 4] (by decide) rfl
              have hKc := hK.sub (tys' := [(g1, .int), (g2, .int), (g3, .int)]) [1, 2, 3] rfl
              have hFc := va_free (wc := (wd_c62683a8 h0 v0 h1 v1 x23 (-1) 6 h2 h3 h4 r0 r1 r2 r3 v3 v4 r4 r5 r6 r7 v5 r8 r9 v6 v7 r10 r11 v8 v9 r12 v10 v11 r13 v12 w13 r14 v14 v15 r15 r16 r17 r18 r19 r20 v16 r21 r22 r23 v17 h2 g1 fn24 h3 g2 fn25 h4 g3 fn26)) hD hS hA [0, 2, 3, 4] rfl
              refine va_callv (va_runV (As := [.int 4, .int 0]) (rest := []) ⟨hx, hb, hml, hown, hts⟩ (k_X12_put l dC dI h0 h2 h3 h4 v0 h1 v1 x23 ((-1)) 6 r0 r1 r2 r3 v3 v4 r4 r5 r6 r7 v5 r8 r9 v6 v7 r10 r11 v8 v9 r12 v10 v11 r13 v12 w13 r14 v14 v15 r15 r16 r17 r18 r19 r20 v16 r21 r22 r23 v17 g1 fn24 g2 fn25 g3 fn26 4 0 ⟨i_v1a, i_v1b⟩ ⟨i_v3a, i_v3b⟩ ⟨i_v4a, i_v4b⟩ ⟨i_v5a, i_v5b⟩ ⟨i_v6a, i_v6b⟩ ⟨i_v7a, i_v7b⟩ ⟨i_v8a, i_v8b⟩ ⟨i_v12a, i_v12b⟩ ⟨i_v16a, i_v16b⟩ ⟨i_v17a, i_v17b⟩ (by constructor <;> omega) H.size) (cwV 2 hts g_X12_term_3 rfl rfl rfl (by decide +kernel) ⟨Nat.le_of_ble_eq_true rfl, Nat.le_of_ble_eq_true rfl⟩) (pv_PV12 hPc hKc hDc (q0 := 0) rfl) rfl rfl hl.1 rfl (lv_room (Nat.le_of_ble_eq_true rfl)) dX12_term_60 ⟨Nat.le_of_ble_eq_true rfl, Nat.le_of_ble_eq_true rfl⟩) hS (fun q _ h => hFc q h) hFc (fun u t H1 locs ht hvm hwra28 hB hz1 hk1 hS => ?_)
              have hkra28_0 : (((-1) : Int32)).toInt = -1 := by decide
              have hkra28_1 : ((0 : Int32)).toInt = 0 := by decide
              have hkra28_2 : ((4 : Int32)).toInt = 4 := by decide
              have hkra28_3 : ((6 : Int32)).toInt = 6 := by decide
              obtain ⟨fn29, fn30, fn31, pt0_ra28, hP1, hK1, hD1⟩ := hB
              rw [ht] at hP1
              obtain ⟨hP2, hD2⟩ := va_join (wr := (wd_d0032b31 h1 g0 f18)) (w1 := (wd_c62683a8 h0 v0 h1 v1 x23 (-1) 6 h2 h3 h4 r0 r1 r2 r3 v3 v4 r4 r5 r6 r7 v5 r8 r9 v6 v7 r10 r11 v8 v9 r12 v10 v11 r13 v12 w13 r14 v14 v15 r15 r16 r17 r18 r19 r20 v16 r21 r22 r23 v17 h2 g1 fn29 h3 g2 fn30 h4 g3 fn31)) hP hD [0, 2, 3, 4] [1] rfl rfl (by decide) (by decide) hk1 hFc hP1 hD1
              clear hP hD hPc hDc hKc hFc hP1 hK1 hD1 hk1 hz1
              generalize H1 = H at hP2 hS ⊢
              have hP := hP2.sub (ws' := (wd_d906eaf1 h0 v0 h1 v1 x23 (-1) 6 h2 h3 h4 r0 r1 r2 r3 v3 v4 r4 r5 r6 r7 v5 r8 r9 v6 v7 r10 r11 v8 v9 r12 v10 v11 r13 v12 w13 r14 v14 v15 r15 r16 r17 r18 r19 r20 v16 r21 r22 r23 v17 h1 g0 f18 h2 g1 fn29 h3 g2 fn30 h4 g3 fn31)) [1, 0, 2, 3, 4] rfl
              have hD := hD2.sub (ws' := (wd_d906eaf1 h0 v0 h1 v1 x23 (-1) 6 h2 h3 h4 r0 r1 r2 r3 v3 v4 r4 r5 r6 r7 v5 r8 r9 v6 v7 r10 r11 v8 v9 r12 v10 v11 r13 v12 w13 r14 v14 v15 r15 r16 r17 r18 r19 r20 v16 r21 r22 r23 v17 h1 g0 f18 h2 g1 fn29 h3 g2 fn30 h4 g3 fn31)) [1, 0, 2, 3, 4] (by decide) rfl
              clear hP2 hD2
              have hgR := hgR.bin (k' := 1) (D := 2) pt0_ra28 (by decide) (by decide) (by decide) (by decide) (by decide)
              have hgF := hgR.1
              have hxl := hgF.1
              have hxs := pt0_ra28.step
              refine lv_aload_n hx hb dX12_term_63 rfl (lv_at hl 1 rfl) ?_
              refine va_get (D := (dC, dI)) (ci := 12) (v := .int (-1)) (C := RX12) (T := TX12) (N := 48) hx hb hts (fun _ h => List.mem_cons_of_mem _ (List.mem_append_right _ h)) hown hK hP 0 rfl rfl 4 (by decide) (hts (.fieldLink RX12 119 "LeftArgumentsModel" "wrong" "I") (List.mem_cons_of_mem _ (List.mem_append_left _ (List.mem_of_getElem? (i := 20) rfl)))) (fun _ h9 => h9) rfl dX12_term_64 ?_
              refine lv_iconst (v := (-1)) hx hb dX12_term_67 (by decide) ?_
              refine lv_icmp_ne (tgt := 78) hx hb dX12_term_68 (by decide) (fun c => absurd (by decide) c) (fun _ => ?_)
              refine lv_aload_n hx hb dX12_term_71 rfl (lv_at hl 1 rfl) ?_
              have hPc := hP.sub (ws' := (wd_f4cd022e h0 v0 h1 v1 x23 (-1) 6 h2 h3 h4 r0 r1 r2 r3 v3 v4 r4 r5 r6 r7 v5 r8 r9 v6 v7 r10 r11 v8 v9 r12 v10 v11 r13 v12 w13 r14 v14 v15 r15 r16 r17 r18 r19 r20 v16 r21 r22 r23 v17 h1 g0 f18)) [0, 1] rfl
              have hDc := hD.sub (ws' := (wd_f4cd022e h0 v0 h1 v1 x23 (-1) 6 h2 h3 h4 r0 r1 r2 r3 v3 v4 r4 r5 r6 r7 v5 r8 r9 v6 v7 r10 r11 v8 v9 r12 v10 v11 r13 v12 w13 r14 v14 v15 r15 r16 r17 r18 r19 r20 v16 r21 r22 r23 v17 h1 g0 f18)) [0, 1] (by decide) rfl
              have hKc := hK.sub (tys' := [(g0, .int)]) [0] rfl
              have hFc := va_free (wc := (wd_f4cd022e h0 v0 h1 v1 x23 (-1) 6 h2 h3 h4 r0 r1 r2 r3 v3 v4 r4 r5 r6 r7 v5 r8 r9 v6 v7 r10 r11 v8 v9 r12 v10 v11 r13 v12 w13 r14 v14 v15 r15 r16 r17 r18 r19 r20 v16 r21 r22 r23 v17 h1 g0 f18)) hD hS hA [0, 1] rfl
              refine va_calli (va_runV (As := []) (rest := []) ⟨hx, hb, hml, hown, hts⟩ (k_X12_look l dC dI h0 h1 v0 v1 x23 ((-1)) 6 h2 h3 h4 r0 r1 r2 r3 v3 v4 r4 r5 r6 r7 v5 r8 r9 v6 v7 r10 r11 v8 v9 r12 v10 v11 r13 v12 w13 r14 v14 v15 r15 r16 r17 r18 r19 r20 v16 r21 r22 r23 v17 g0 f18 ⟨i_v1a, i_v1b⟩ ⟨oa_x23, ob_x23⟩ ⟨i_v3a, i_v3b⟩ ⟨i_v4a, i_v4b⟩ ⟨i_v5a, i_v5b⟩ ⟨i_v6a, i_v6b⟩ ⟨i_v7a, i_v7b⟩ ⟨i_v8a, i_v8b⟩ ⟨i_v12a, i_v12b⟩ ⟨i_v16a, i_v16b⟩ ⟨i_v17a, i_v17b⟩ ia_f18 H.size) (cwV 0 hts g_X12_term_1 rfl rfl rfl (by decide +kernel) ⟨Nat.le_of_ble_eq_true rfl, Nat.le_of_ble_eq_true rfl⟩) (pv_PV12 hPc hKc hDc (q0 := 0) rfl) rfl rfl hl.1 rfl (lv_room (Nat.le_of_ble_eq_true rfl)) dX12_term_72 ⟨Nat.le_of_ble_eq_true rfl, Nat.le_of_ble_eq_true rfl⟩) hS (fun q _ h => hFc q h) hFc (fun ra32 u t H1 locs ht hvm hwra32 hB hz1 hk1 hS => ?_)
              try rw [hwra32] at hB
              have hkra32_0 : (((-1) : Int32)).toInt = -1 := by decide
              have hkra32_1 : ((6 : Int32)).toInt = 6 := by decide
              rcases hB with hB | hB
              · skip
                obtain ⟨x33, oa_x33, ob_x33, pt0_ra32, pt1_ra32, pt2_ra32, pt3_ra32, pt4_ra32, pt5_ra32, pt6_ra32, hP1, hK1, hD1⟩ := hB
                rw [ht] at hP1
                obtain ⟨hP2, hD2⟩ := va_join (wr := (wd_ad0642e8 h2 g1 fn29 h3 g2 fn30 h4 g3 fn31)) (w1 := (wd_f4cd022e h0 v0 h1 v1 x33 (-1) 6 h2 h3 h4 r0 r1 r2 r3 v3 v4 r4 r5 r6 r7 v5 r8 r9 v6 v7 r10 r11 v8 v9 r12 v10 v11 r13 v12 w13 r14 v14 v15 r15 r16 r17 r18 r19 r20 v16 r21 r22 r23 v17 h1 g0 f18)) hP hD [0, 1] [2, 3, 4] rfl rfl (by decide) (by decide) hk1 hFc hP1 hD1
                clear hP hD hPc hDc hKc hFc hP1 hK1 hD1 hk1 hz1
                generalize H1 = H at hP2 hS ⊢
                have hP := hP2.sub (ws' := (wd_d906eaf1 h0 v0 h1 v1 x33 (-1) 6 h2 h3 h4 r0 r1 r2 r3 v3 v4 r4 r5 r6 r7 v5 r8 r9 v6 v7 r10 r11 v8 v9 r12 v10 v11 r13 v12 w13 r14 v14 v15 r15 r16 r17 r18 r19 r20 v16 r21 r22 r23 v17 h1 g0 f18 h2 g1 fn29 h3 g2 fn30 h4 g3 fn31)) [3, 4, 0, 1, 2] rfl
                have hD := hD2.sub (ws' := (wd_d906eaf1 h0 v0 h1 v1 x33 (-1) 6 h2 h3 h4 r0 r1 r2 r3 v3 v4 r4 r5 r6 r7 v5 r8 r9 v6 v7 r10 r11 v8 v9 r12 v10 v11 r13 v12 w13 r14 v14 v15 r15 r16 r17 r18 r19 r20 v16 r21 r22 r23 v17 h1 g0 f18 h2 g1 fn29 h3 g2 fn30 h4 g3 fn31)) [3, 4, 0, 1, 2] (by decide) rfl
                clear hP2 hD2
                obtain rfl : ra32 = ((-1) : Int32) := pv_cs (by decide) pt0_ra32 pt1_ra32
                refine lv_goto (tgt := 79) hx hb dX12_term_75 (by decide) ?_
                refine lv_istore_n (lv' := [(1, .int (-1)), (0, .ref h0)]) hx hb dX12_term_79 rfl hl (by decide) rfl (fun ls hl => ?_)
                refine lv_goto (tgt := 21) hx hb dX12_term_80 (by decide) ?_
                refine lv_iload_n hx hb dX12_term_21 rfl (lv_at hl 0 rfl) ?_
                refine lv_bipush (v := 42) hx hb dX12_term_22 (by decide) ?_
                refine lv_icmp_eq (tgt := 33) hx hb dX12_term_24 (by decide) (fun c => absurd c (by decide)) (fun _ => ?_)
                refine lv_iload_n hx hb dX12_term_27 rfl (lv_at hl 0 rfl) ?_
                refine lv_bipush (v := 47) hx hb dX12_term_28 (by decide) ?_
                refine lv_icmp_ne (tgt := 83) hx hb dX12_term_30 (by decide) (fun _ => ?_) (fun c => absurd c (by decide))
                subst hQ
                have hP9 := hP.sub (ws' := (wd_d906eaf1 h0 v0 h1 v1 x33 (-1) 6 h2 h3 h4 r0 r1 r2 r3 v3 v4 r4 r5 r6 r7 v5 r8 r9 v6 v7 r10 r11 v8 v9 r12 v10 v11 r13 v12 w13 r14 v14 v15 r15 r16 r17 r18 r19 r20 v16 r21 r22 r23 v17 h1 g0 f18 h2 g1 fn29 h3 g2 fn30 h4 g3 fn31)) [0, 1, 2, 3, 4] rfl
                have hD9 := hD.sub (ws' := (wd_d906eaf1 h0 v0 h1 v1 x33 (-1) 6 h2 h3 h4 r0 r1 r2 r3 v3 v4 r4 r5 r6 r7 v5 r8 r9 v6 v7 r10 r11 v8 v9 r12 v10 v11 r13 v12 w13 r14 v14 v15 r15 r16 r17 r18 r19 r20 v16 r21 r22 r23 v17 h1 g0 f18 h2 g1 fn29 h3 g2 fn30 h4 g3 fn31)) [0, 1, 2, 3, 4] (by decide) rfl
                have hK9 := hK.sub (tys' := []) [] rfl
                exact W.vret hx hb hr (fun t ht hW => ⟨⟨(), rfl, trivial, Or.inl ⟨x33, fn29, fn30, fn31, oa_x33, ob_x33, by constructor <;> omega, by exact hgR.mono (by decide), by first | assumption | (apply pg_row.st <;> first | assumption | omega) | (apply pg_L.out <;> first | assumption | omega) | (apply pg_L.last <;> first | assumption | omega), by rw [ht]; exact hP9, va_K.moved hW.alike hK9, hD9⟩⟩, hS.F ht⟩) hS.2.2 dX12_term_83
              · skip
                obtain ⟨x34, oa_x34, ob_x34, pt0_ra32, pt1_ra32, pt2_ra32, pt3_ra32, pt4_ra32, pt5_ra32, pt6_ra32, pt7_ra32, hP1, hK1, hD1⟩ := hB
                rw [ht] at hP1
                obtain ⟨hP2, hD2⟩ := va_join (wr := (wd_ad0642e8 h2 g1 fn29 h3 g2 fn30 h4 g3 fn31)) (w1 := (wd_f4cd022e h0 v0 h1 v1 x34 (-1) 6 h2 h3 h4 r0 r1 r2 r3 v3 v4 r4 r5 r6 r7 v5 r8 r9 v6 v7 r10 r11 v8 v9 r12 v10 v11 r13 v12 w13 r14 v14 v15 r15 r16 r17 r18 r19 r20 v16 r21 r22 r23 v17 h1 g0 f18)) hP hD [0, 1] [2, 3, 4] rfl rfl (by decide) (by decide) hk1 hFc hP1 hD1
                clear hP hD hPc hDc hKc hFc hP1 hK1 hD1 hk1 hz1
                generalize H1 = H at hP2 hS ⊢
                have hP := hP2.sub (ws' := (wd_d906eaf1 h0 v0 h1 v1 x34 (-1) 6 h2 h3 h4 r0 r1 r2 r3 v3 v4 r4 r5 r6 r7 v5 r8 r9 v6 v7 r10 r11 v8 v9 r12 v10 v11 r13 v12 w13 r14 v14 v15 r15 r16 r17 r18 r19 r20 v16 r21 r22 r23 v17 h1 g0 f18 h2 g1 fn29 h3 g2 fn30 h4 g3 fn31)) [3, 4, 0, 1, 2] rfl
                have hD := hD2.sub (ws' := (wd_d906eaf1 h0 v0 h1 v1 x34 (-1) 6 h2 h3 h4 r0 r1 r2 r3 v3 v4 r4 r5 r6 r7 v5 r8 r9 v6 v7 r10 r11 v8 v9 r12 v10 v11 r13 v12 w13 r14 v14 v15 r15 r16 r17 r18 r19 r20 v16 r21 r22 r23 v17 h1 g0 f18 h2 g1 fn29 h3 g2 fn30 h4 g3 fn31)) [3, 4, 0, 1, 2] (by decide) rfl
                clear hP2 hD2
                refine lv_goto (tgt := 79) hx hb dX12_term_75 (by decide) ?_
                refine lv_istore_n (lv' := [(1, .int ra32), (0, .ref h0)]) hx hb dX12_term_79 rfl hl (by decide) rfl (fun ls hl => ?_)
                refine lv_goto (tgt := 21) hx hb dX12_term_80 (by decide) ?_
                exact ih_hL19 ra32 x34 fn29 fn30 fn31 H locs ls (by first | omega | decide) (by first | omega | decide) oa_x34 ob_x34 (by constructor <;> omega) (by exact hgR.mono (by decide)) (by first | assumption | (apply pg_row.ent <;> first | assumption | omega) | (apply pg_L.next <;> first | assumption | omega) | (apply pg_L.step <;> first | assumption | omega | (apply pg_tru.no <;> assumption) | (apply pg_tru.ok <;> assumption)) | exact pg_L.of (by omega) rfl) (by omega) (by omega) (by first | omega | (simp only [Int.toNat] at *; omega)) hP hD hS (lv_sub hl [0, 1] rfl)
            · skip
              obtain ⟨x35, x36, x37, fn38, fn39, fn40, oa_x35, ob_x35, oa_x36, ob_x36, oa_x37, ob_x37, pt0_ra22, pt1_ra22, pt2_ra22, hP1, hK1, hD1⟩ := hB
              rw [ht] at hP1
              obtain ⟨hP2, hD2⟩ := va_join (wr := []) (w1 := (wd_d906eaf1 h0 v0 h1 v1 x35 x36 x37 h2 h3 h4 r0 r1 r2 r3 v3 v4 r4 r5 r6 r7 v5 r8 r9 v6 v7 r10 r11 v8 v9 r12 v10 v11 r13 v12 w13 r14 v14 v15 r15 r16 r17 r18 r19 r20 v16 r21 r22 r23 v17 h1 g0 f18 h2 g1 fn38 h3 g2 fn39 h4 g3 fn40)) hP hD [0, 1, 2, 3, 4] [] rfl rfl (by decide) (by decide) hk1 hFc hP1 hD1
              clear hP hD hPc hDc hKc hFc hP1 hK1 hD1 hk1 hz1
              generalize H1 = H at hP2 hS ⊢
              have hP : va_P (dC, dI) vwCl (wd_d906eaf1 h0 v0 h1 v1 x35 x36 x37 h2 h3 h4 r0 r1 r2 r3 v3 v4 r4 r5 r6 r7 v5 r8 r9 v6 v7 r10 r11 v8 v9 r12 v10 v11 r13 v12 w13 r14 v14 v15 r15 r16 r17 r18 r19 r20 v16 r21 r22 r23 v17 h1 g0 f18 h2 g1 fn38 h3 g2 fn39 h4 g3 fn40) H := hP2
              have hD : va_D A (wd_d906eaf1 h0 v0 h1 v1 x35 x36 x37 h2 h3 h4 r0 r1 r2 r3 v3 v4 r4 r5 r6 r7 v5 r8 r9 v6 v7 r10 r11 v8 v9 r12 v10 v11 r13 v12 w13 r14 v14 v15 r15 r16 r17 r18 r19 r20 v16 r21 r22 r23 v17 h1 g0 f18 h2 g1 fn38 h3 g2 fn39 h4 g3 fn40) := hD2
              clear hP2 hD2
              have hgF := hgF.app pt1_ra22
              have hxl := hgF.1
              refine lv_aload_n hx hb dX12_term_47 rfl (lv_at hl 1 rfl) ?_
              refine lv_iload_n hx hb dX12_term_48 rfl (lv_at hl 0 rfl) ?_
              refine lv_bipush (v := 42) hx hb dX12_term_49 (by decide) ?_
              refine lv_icmp_ne (tgt := 58) hx hb dX12_term_51 (by decide) (fun c41 => by exfalso; have fc41 : ¬ (x9.toInt = 42) := fun h9 => c41 (Int32.toInt_inj.mp h9); omega) (fun _ => ?_)
              refine lv_iconst (v := 4) hx hb dX12_term_54 (by decide) ?_
              refine lv_goto (tgt := 59) hx hb dX12_term_55 (by decide) ?_
              refine lv_iconst (v := 0) hx hb dX12_term_59 (by decide) ?_
              have hPc := hP.sub (ws' := (wd_c62683a8 h0 v0 h1 v1 x35 x36 x37 h2 h3 h4 r0 r1 r2 r3 v3 v4 r4 r5 r6 r7 v5 r8 r9 v6 v7 r10 r11 v8 v9 r12 v10 v11 r13 v12 w13 r14 v14 v15 r15 r16 r17 r18 r19 r20 v16 r21 r22 r23 v17 h2 g1 fn38 h3 g2 fn39 h4 g3 fn40)) [0, 2, 3, 4] rfl
              have hDc := hD.sub (ws' := (wd_c62683a8 h0 v0 h1 v1 x35 x36 x37 h2 h3 h4 r0 r1 r2 r3 v3 v4 r4 r5 r6 r7 v5 r8 r9 v6 v7 r10 r11 v8 v9 r12 v10 v11 r13 v12 w13 r14 v14 v15 r15 r16 r17 r18 r19 r20 v16 r21 r22 r23 v17 h2 g1 fn38 h3 g2 fn39 h4 g3 fn40)) [0, 2, 3, 4] (by decide) rfl
              have hKc := hK.sub (tys' := [(g1, .int), (g2, .int), (g3, .int)]) [1, 2, 3] rfl
              have hFc := va_free (wc := (wd_c62683a8 h0 v0 h1 v1 x35 x36 x37 h2 h3 h4 r0 r1 r2 r3 v3 v4 r4 r5 r6 r7 v5 r8 r9 v6 v7 r10 r11 v8 v9 r12 v10 v11 r13 v12 w13 r14 v14 v15 r15 r16 r17 r18 r19 r20 v16 r21 r22 r23 v17 h2 g1 fn38 h3 g2 fn39 h4 g3 fn40)) hD hS hA [0, 2, 3, 4] rfl
              refine va_callv (va_runV (As := [.int 4, .int 0]) (rest := []) ⟨hx, hb, hml, hown, hts⟩ (k_X12_put l dC dI h0 h2 h3 h4 v0 h1 v1 x35 x36 x37 r0 r1 r2 r3 v3 v4 r4 r5 r6 r7 v5 r8 r9 v6 v7 r10 r11 v8 v9 r12 v10 v11 r13 v12 w13 r14 v14 v15 r15 r16 r17 r18 r19 r20 v16 r21 r22 r23 v17 g1 fn38 g2 fn39 g3 fn40 4 0 ⟨i_v1a, i_v1b⟩ ⟨i_v3a, i_v3b⟩ ⟨i_v4a, i_v4b⟩ ⟨i_v5a, i_v5b⟩ ⟨i_v6a, i_v6b⟩ ⟨i_v7a, i_v7b⟩ ⟨i_v8a, i_v8b⟩ ⟨i_v12a, i_v12b⟩ ⟨i_v16a, i_v16b⟩ ⟨i_v17a, i_v17b⟩ (by constructor <;> omega) H.size) (cwV 2 hts g_X12_term_3 rfl rfl rfl (by decide +kernel) ⟨Nat.le_of_ble_eq_true rfl, Nat.le_of_ble_eq_true rfl⟩) (pv_PV12 hPc hKc hDc (q0 := 0) rfl) rfl rfl hl.1 rfl (lv_room (Nat.le_of_ble_eq_true rfl)) dX12_term_60 ⟨Nat.le_of_ble_eq_true rfl, Nat.le_of_ble_eq_true rfl⟩) hS (fun q _ h => hFc q h) hFc (fun u t H1 locs ht hvm hwra42 hB hz1 hk1 hS => ?_)
              have hkra42_0 : ((0 : Int32)).toInt = 0 := by decide
              have hkra42_1 : ((4 : Int32)).toInt = 4 := by decide
              obtain ⟨fn43, fn44, fn45, pt0_ra42, hP1, hK1, hD1⟩ := hB
              rw [ht] at hP1
              obtain ⟨hP2, hD2⟩ := va_join (wr := (wd_d0032b31 h1 g0 f18)) (w1 := (wd_c62683a8 h0 v0 h1 v1 x35 x36 x37 h2 h3 h4 r0 r1 r2 r3 v3 v4 r4 r5 r6 r7 v5 r8 r9 v6 v7 r10 r11 v8 v9 r12 v10 v11 r13 v12 w13 r14 v14 v15 r15 r16 r17 r18 r19 r20 v16 r21 r22 r23 v17 h2 g1 fn43 h3 g2 fn44 h4 g3 fn45)) hP hD [0, 2, 3, 4] [1] rfl rfl (by decide) (by decide) hk1 hFc hP1 hD1
              clear hP hD hPc hDc hKc hFc hP1 hK1 hD1 hk1 hz1
              generalize H1 = H at hP2 hS ⊢
              have hP := hP2.sub (ws' := (wd_d906eaf1 h0 v0 h1 v1 x35 x36 x37 h2 h3 h4 r0 r1 r2 r3 v3 v4 r4 r5 r6 r7 v5 r8 r9 v6 v7 r10 r11 v8 v9 r12 v10 v11 r13 v12 w13 r14 v14 v15 r15 r16 r17 r18 r19 r20 v16 r21 r22 r23 v17 h1 g0 f18 h2 g1 fn43 h3 g2 fn44 h4 g3 fn45)) [1, 0, 2, 3, 4] rfl
              have hD := hD2.sub (ws' := (wd_d906eaf1 h0 v0 h1 v1 x35 x36 x37 h2 h3 h4 r0 r1 r2 r3 v3 v4 r4 r5 r6 r7 v5 r8 r9 v6 v7 r10 r11 v8 v9 r12 v10 v11 r13 v12 w13 r14 v14 v15 r15 r16 r17 r18 r19 r20 v16 r21 r22 r23 v17 h1 g0 f18 h2 g1 fn43 h3 g2 fn44 h4 g3 fn45)) [1, 0, 2, 3, 4] (by decide) rfl
              clear hP2 hD2
              have hgF := hgF.put pt0_ra42
              have hxl := hgF.1
              have hxs := pt0_ra42.step
              refine lv_aload_n hx hb dX12_term_63 rfl (lv_at hl 1 rfl) ?_
              refine va_get (D := (dC, dI)) (ci := 12) (v := .int x36) (C := RX12) (T := TX12) (N := 48) hx hb hts (fun _ h => List.mem_cons_of_mem _ (List.mem_append_right _ h)) hown hK hP 0 rfl rfl 4 (by decide) (hts (.fieldLink RX12 119 "LeftArgumentsModel" "wrong" "I") (List.mem_cons_of_mem _ (List.mem_append_left _ (List.mem_of_getElem? (i := 20) rfl)))) (fun _ h9 => h9) rfl dX12_term_64 ?_
              refine lv_iconst (v := (-1)) hx hb dX12_term_67 (by decide) ?_
              refine lv_icmp_ne (tgt := 78) hx hb dX12_term_68 (by decide) (fun _ => ?_) (fun c46 => by exfalso; have fc46 : x36.toInt = (-1) := congrArg Int32.toInt c46; omega)
              refine lv_iconst (v := (-1)) hx hb dX12_term_78 (by decide) ?_
              refine lv_istore_n (lv' := [(1, .int (-1)), (0, .ref h0)]) hx hb dX12_term_79 rfl hl (by decide) rfl (fun ls hl => ?_)
              refine lv_goto (tgt := 21) hx hb dX12_term_80 (by decide) ?_
              refine lv_iload_n hx hb dX12_term_21 rfl (lv_at hl 0 rfl) ?_
              refine lv_bipush (v := 42) hx hb dX12_term_22 (by decide) ?_
              refine lv_icmp_eq (tgt := 33) hx hb dX12_term_24 (by decide) (fun c => absurd c (by decide)) (fun _ => ?_)
              refine lv_iload_n hx hb dX12_term_27 rfl (lv_at hl 0 rfl) ?_
              refine lv_bipush (v := 47) hx hb dX12_term_28 (by decide) ?_
              refine lv_icmp_ne (tgt := 83) hx hb dX12_term_30 (by decide) (fun _ => ?_) (fun c => absurd c (by decide))
              subst hQ
              have hP9 := hP.sub (ws' := (wd_d906eaf1 h0 v0 h1 v1 x35 x36 x37 h2 h3 h4 r0 r1 r2 r3 v3 v4 r4 r5 r6 r7 v5 r8 r9 v6 v7 r10 r11 v8 v9 r12 v10 v11 r13 v12 w13 r14 v14 v15 r15 r16 r17 r18 r19 r20 v16 r21 r22 r23 v17 h1 g0 f18 h2 g1 fn43 h3 g2 fn44 h4 g3 fn45)) [0, 1, 2, 3, 4] rfl
              have hD9 := hD.sub (ws' := (wd_d906eaf1 h0 v0 h1 v1 x35 x36 x37 h2 h3 h4 r0 r1 r2 r3 v3 v4 r4 r5 r6 r7 v5 r8 r9 v6 v7 r10 r11 v8 v9 r12 v10 v11 r13 v12 w13 r14 v14 v15 r15 r16 r17 r18 r19 r20 v16 r21 r22 r23 v17 h1 g0 f18 h2 g1 fn43 h3 g2 fn44 h4 g3 fn45)) [0, 1, 2, 3, 4] (by decide) rfl
              have hK9 := hK.sub (tys' := []) [] rfl
              exact W.vret hx hb hr (fun t ht hW => ⟨⟨(), rfl, trivial, Or.inr (⟨x35, x36, x37, fn43, fn44, fn45, oa_x35, ob_x35, oa_x36, ob_x36, oa_x37, ob_x37, by constructor <;> omega, by exact hgF, by first | assumption | (apply pg_row.no <;> first | assumption | omega) | (apply pg_L.fail <;> first | assumption | omega), by rw [ht]; exact hP9, va_K.moved hW.alike hK9, hD9⟩)⟩, hS.F ht⟩) hS.2.2 dX12_term_83
          · skip
            have fc20 : ¬ (x9.toInt = 42) := fun h9 => c20 (Int32.toInt_inj.mp h9)
            refine lv_iload_n hx hb dX12_term_27 rfl (lv_at hl 0 rfl) ?_
            refine lv_bipush (v := 47) hx hb dX12_term_28 (by decide) ?_
            refine lv_icmp_ne (tgt := 83) hx hb dX12_term_30 (by decide) (fun c47 => ?_) (fun c47 => ?_)
            · skip
              have fc47 : ¬ (x9.toInt = 47) := fun h9 => c47 (Int32.toInt_inj.mp h9)
              subst hQ
              have hP9 := hP.sub (ws' := (wd_d906eaf1 h0 v0 h1 v1 x10 (-1) 6 h2 h3 h4 r0 r1 r2 r3 v3 v4 r4 r5 r6 r7 v5 r8 r9 v6 v7 r10 r11 v8 v9 r12 v10 v11 r13 v12 w13 r14 v14 v15 r15 r16 r17 r18 r19 r20 v16 r21 r22 r23 v17 h1 g0 f18 h2 g1 fn11 h3 g2 fn12 h4 g3 fn13)) [0, 1, 2, 3, 4] rfl
              have hD9 := hD.sub (ws' := (wd_d906eaf1 h0 v0 h1 v1 x10 (-1) 6 h2 h3 h4 r0 r1 r2 r3 v3 v4 r4 r5 r6 r7 v5 r8 r9 v6 v7 r10 r11 v8 v9 r12 v10 v11 r13 v12 w13 r14 v14 v15 r15 r16 r17 r18 r19 r20 v16 r21 r22 r23 v17 h1 g0 f18 h2 g1 fn11 h3 g2 fn12 h4 g3 fn13)) [0, 1, 2, 3, 4] (by decide) rfl
              have hK9 := hK.sub (tys' := []) [] rfl
              exact W.vret hx hb hr (fun t ht hW => ⟨⟨(), rfl, trivial, Or.inl ⟨x10, fn11, fn12, fn13, qa_x10, by first | omega | decide, by constructor <;> omega, by exact hgR.mono (by decide), by first | assumption | (apply pg_row.st <;> first | assumption | omega) | (apply pg_L.out <;> first | assumption | omega) | (apply pg_L.last <;> first | assumption | omega), by rw [ht]; exact hP9, va_K.moved hW.alike hK9, hD9⟩⟩, hS.F ht⟩) hS.2.2 dX12_term_83
            · skip
              have fc47 : x9.toInt = 47 := congrArg Int32.toInt c47
              refine lv_aload_n hx hb dX12_term_33 rfl (lv_at hl 1 rfl) ?_
              refine lv_dup hx hb dX12_term_34 rfl ?_
              refine va_get (D := (dC, dI)) (ci := 12) (v := .int x10) (C := RX12) (T := TX12) (N := 48) hx hb hts (fun _ h => List.mem_cons_of_mem _ (List.mem_append_right _ h)) hown hK hP 0 rfl rfl 3 (by decide) (hts (.fieldLink RX12 112 "LeftArgumentsModel" "at" "I") (List.mem_cons_of_mem _ (List.mem_append_left _ (List.mem_of_getElem? (i := 3) rfl)))) (fun _ h9 => h9) rfl dX12_term_35 ?_
              refine lv_iconst (v := 1) hx hb dX12_term_38 (by decide) ?_
              refine lv_iadd hx hb dX12_term_39 ?_
              refine lv_topi (fun t48 et48 => ?_)
              have gt48 : t48.toInt = x10.toInt + 1 := pv_add (a := x10.toInt) (b := 1) et48 rfl (by decide) (by omega) (by omega)
              refine va_put (D := (dC, dI)) (ci := 12) (v := .int t48) (ty := .int) (C := RX12) (T := TX12) (N := 48) hx hb hts (fun _ h => List.mem_cons_of_mem _ (List.mem_append_right _ h)) tyX12 tyX12_ok nmX12 hown hK hP hD hS 0 rfl rfl 3 (by decide) (hts (.fieldLink RX12 112 "LeftArgumentsModel" "at" "I") (List.mem_cons_of_mem _ (List.mem_append_left _ (List.mem_of_getElem? (i := 3) rfl)))) (fun _ h9 => h9) rfl (by decide +kernel) rfl rfl (Nat.le_of_ble_eq_true rfl) dX12_term_40 (fun H locs hP hD hS => ?_)
              have hP : va_P (dC, dI) vwCl (wd_d906eaf1 h0 v0 h1 v1 t48 (-1) 6 h2 h3 h4 r0 r1 r2 r3 v3 v4 r4 r5 r6 r7 v5 r8 r9 v6 v7 r10 r11 v8 v9 r12 v10 v11 r13 v12 w13 r14 v14 v15 r15 r16 r17 r18 r19 r20 v16 r21 r22 r23 v17 h1 g0 f18 h2 g1 fn11 h3 g2 fn12 h4 g3 fn13) H := hP
              have hD : va_D A (wd_d906eaf1 h0 v0 h1 v1 t48 (-1) 6 h2 h3 h4 r0 r1 r2 r3 v3 v4 r4 r5 r6 r7 v5 r8 r9 v6 v7 r10 r11 v8 v9 r12 v10 v11 r13 v12 w13 r14 v14 v15 r15 r16 r17 r18 r19 r20 v16 r21 r22 r23 v17 h1 g0 f18 h2 g1 fn11 h3 g2 fn12 h4 g3 fn13) := hD
              refine lv_aload_n hx hb dX12_term_43 rfl (lv_at hl 1 rfl) ?_
              have hPc := hP.sub (ws' := (wd_d906eaf1 h0 v0 h1 v1 t48 (-1) 6 h2 h3 h4 r0 r1 r2 r3 v3 v4 r4 r5 r6 r7 v5 r8 r9 v6 v7 r10 r11 v8 v9 r12 v10 v11 r13 v12 w13 r14 v14 v15 r15 r16 r17 r18 r19 r20 v16 r21 r22 r23 v17 h1 g0 f18 h2 g1 fn11 h3 g2 fn12 h4 g3 fn13)) [0, 1, 2, 3, 4] rfl
              have hDc := hD.sub (ws' := (wd_d906eaf1 h0 v0 h1 v1 t48 (-1) 6 h2 h3 h4 r0 r1 r2 r3 v3 v4 r4 r5 r6 r7 v5 r8 r9 v6 v7 r10 r11 v8 v9 r12 v10 v11 r13 v12 w13 r14 v14 v15 r15 r16 r17 r18 r19 r20 v16 r21 r22 r23 v17 h1 g0 f18 h2 g1 fn11 h3 g2 fn12 h4 g3 fn13)) [0, 1, 2, 3, 4] (by decide) rfl
              have hKc := hK.sub (tys' := [(g0, .int), (g1, .int), (g2, .int), (g3, .int)]) [0, 1, 2, 3] rfl
              have hFc := va_free (wc := (wd_d906eaf1 h0 v0 h1 v1 t48 (-1) 6 h2 h3 h4 r0 r1 r2 r3 v3 v4 r4 r5 r6 r7 v5 r8 r9 v6 v7 r10 r11 v8 v9 r12 v10 v11 r13 v12 w13 r14 v14 v15 r15 r16 r17 r18 r19 r20 v16 r21 r22 r23 v17 h1 g0 f18 h2 g1 fn11 h3 g2 fn12 h4 g3 fn13)) hD hS hA [0, 1, 2, 3, 4] rfl
              refine va_callv (va_runV (As := []) (rest := []) ⟨hx, hb, hml, hown, hts⟩ (k_X12_atom l dC dI h0 h1 h2 h3 h4 v0 v1 t48 r0 r1 r2 r3 v3 v4 r4 r5 r6 r7 v5 r8 r9 v6 v7 r10 r11 v8 v9 r12 v10 v11 r13 v12 w13 r14 v14 v15 r15 r16 r17 r18 r19 r20 v16 r21 r22 r23 v17 g0 f18 g1 fn11 g2 fn12 g3 fn13 ⟨i_v1a, i_v1b⟩ ⟨by first | omega | decide, by first | omega | decide⟩ ⟨i_v3a, i_v3b⟩ ⟨i_v4a, i_v4b⟩ ⟨i_v5a, i_v5b⟩ ⟨i_v6a, i_v6b⟩ ⟨i_v7a, i_v7b⟩ ⟨i_v8a, i_v8b⟩ ⟨i_v12a, i_v12b⟩ ⟨i_v16a, i_v16b⟩ ⟨i_v17a, i_v17b⟩ ia_f18 (by constructor <;> omega) H.size) (cwV 0 hts g_X12_term_0 rfl rfl rfl (by decide +kernel) ⟨Nat.le_of_ble_eq_true rfl, Nat.le_of_ble_eq_true rfl⟩) (pv_PV12 hPc hKc hDc (q0 := 0) rfl) rfl rfl hl.1 rfl (lv_room (Nat.le_of_ble_eq_true rfl)) dX12_term_44 ⟨Nat.le_of_ble_eq_true rfl, Nat.le_of_ble_eq_true rfl⟩) hS (fun q _ h => hFc q h) hFc (fun u t H1 locs ht hvm hwra49 hB hz1 hk1 hS => ?_)
              rcases hB with hB | hB
              · skip
                obtain ⟨x50, fn51, fn52, fn53, oa_x50, ob_x50, pt0_ra49, pt1_ra49, pt2_ra49, hP1, hK1, hD1⟩ := hB
                rw [ht] at hP1
                obtain ⟨hP2, hD2⟩ := va_join (wr := []) (w1 := (wd_d906eaf1 h0 v0 h1 v1 x50 (-1) 6 h2 h3 h4 r0 r1 r2 r3 v3 v4 r4 r5 r6 r7 v5 r8 r9 v6 v7 r10 r11 v8 v9 r12 v10 v11 r13 v12 w13 r14 v14 v15 r15 r16 r17 r18 r19 r20 v16 r21 r22 r23 v17 h1 g0 f18 h2 g1 fn51 h3 g2 fn52 h4 g3 fn53)) hP hD [0, 1, 2, 3, 4] [] rfl rfl (by decide) (by decide) hk1 hFc hP1 hD1
                clear hP hD hPc hDc hKc hFc hP1 hK1 hD1 hk1 hz1
                generalize H1 = H at hP2 hS ⊢
                have hP : va_P (dC, dI) vwCl (wd_d906eaf1 h0 v0 h1 v1 x50 (-1) 6 h2 h3 h4 r0 r1 r2 r3 v3 v4 r4 r5 r6 r7 v5 r8 r9 v6 v7 r10 r11 v8 v9 r12 v10 v11 r13 v12 w13 r14 v14 v15 r15 r16 r17 r18 r19 r20 v16 r21 r22 r23 v17 h1 g0 f18 h2 g1 fn51 h3 g2 fn52 h4 g3 fn53) H := hP2
                have hD : va_D A (wd_d906eaf1 h0 v0 h1 v1 x50 (-1) 6 h2 h3 h4 r0 r1 r2 r3 v3 v4 r4 r5 r6 r7 v5 r8 r9 v6 v7 r10 r11 v8 v9 r12 v10 v11 r13 v12 w13 r14 v14 v15 r15 r16 r17 r18 r19 r20 v16 r21 r22 r23 v17 h1 g0 f18 h2 g1 fn51 h3 g2 fn52 h4 g3 fn53) := hD2
                clear hP2 hD2
                have hgR := hgR.app (k' := 2) (D := 2) pt1_ra49 (by decide) (by decide) (by decide) (by decide)
                have hgF := hgR.1
                have hxl := hgF.1
                refine lv_aload_n hx hb dX12_term_47 rfl (lv_at hl 1 rfl) ?_
                refine lv_iload_n hx hb dX12_term_48 rfl (lv_at hl 0 rfl) ?_
                refine lv_bipush (v := 42) hx hb dX12_term_49 (by decide) ?_
                refine lv_icmp_ne (tgt := 58) hx hb dX12_term_51 (by decide) (fun _ => ?_) (fun c54 => by exfalso; have fc54 : x9.toInt = 42 := congrArg Int32.toInt c54; omega)
                refine lv_iconst (v := 5) hx hb dX12_term_58 (by decide) ?_
                refine lv_iconst (v := 0) hx hb dX12_term_59 (by decide) ?_
                have hPc := hP.sub (ws' := (wd_c62683a8 h0 v0 h1 v1 x50 (-1) 6 h2 h3 h4 r0 r1 r2 r3 v3 v4 r4 r5 r6 r7 v5 r8 r9 v6 v7 r10 r11 v8 v9 r12 v10 v11 r13 v12 w13 r14 v14 v15 r15 r16 r17 r18 r19 r20 v16 r21 r22 r23 v17 h2 g1 fn51 h3 g2 fn52 h4 g3 fn53)) [0, 2, 3, 4] rfl
                have hDc := hD.sub (ws' := (wd_c62683a8 h0 v0 h1 v1 x50 (-1) 6 h2 h3 h4 r0 r1 r2 r3 v3 v4 r4 r5 r6 r7 v5 r8 r9 v6 v7 r10 r11 v8 v9 r12 v10 v11 r13 v12 w13 r14 v14 v15 r15 r16 r17 r18 r19 r20 v16 r21 r22 r23 v17 h2 g1 fn51 h3 g2 fn52 h4 g3 fn53)) [0, 2, 3, 4] (by decide) rfl
                have hKc := hK.sub (tys' := [(g1, .int), (g2, .int), (g3, .int)]) [1, 2, 3] rfl
                have hFc := va_free (wc := (wd_c62683a8 h0 v0 h1 v1 x50 (-1) 6 h2 h3 h4 r0 r1 r2 r3 v3 v4 r4 r5 r6 r7 v5 r8 r9 v6 v7 r10 r11 v8 v9 r12 v10 v11 r13 v12 w13 r14 v14 v15 r15 r16 r17 r18 r19 r20 v16 r21 r22 r23 v17 h2 g1 fn51 h3 g2 fn52 h4 g3 fn53)) hD hS hA [0, 2, 3, 4] rfl
                refine va_callv (va_runV (As := [.int 5, .int 0]) (rest := []) ⟨hx, hb, hml, hown, hts⟩ (k_X12_put l dC dI h0 h2 h3 h4 v0 h1 v1 x50 ((-1)) 6 r0 r1 r2 r3 v3 v4 r4 r5 r6 r7 v5 r8 r9 v6 v7 r10 r11 v8 v9 r12 v10 v11 r13 v12 w13 r14 v14 v15 r15 r16 r17 r18 r19 r20 v16 r21 r22 r23 v17 g1 fn51 g2 fn52 g3 fn53 5 0 ⟨i_v1a, i_v1b⟩ ⟨i_v3a, i_v3b⟩ ⟨i_v4a, i_v4b⟩ ⟨i_v5a, i_v5b⟩ ⟨i_v6a, i_v6b⟩ ⟨i_v7a, i_v7b⟩ ⟨i_v8a, i_v8b⟩ ⟨i_v12a, i_v12b⟩ ⟨i_v16a, i_v16b⟩ ⟨i_v17a, i_v17b⟩ (by constructor <;> omega) H.size) (cwV 2 hts g_X12_term_3 rfl rfl rfl (by decide +kernel) ⟨Nat.le_of_ble_eq_true rfl, Nat.le_of_ble_eq_true rfl⟩) (pv_PV12 hPc hKc hDc (q0 := 0) rfl) rfl rfl hl.1 rfl (lv_room (Nat.le_of_ble_eq_true rfl)) dX12_term_60 ⟨Nat.le_of_ble_eq_true rfl, Nat.le_of_ble_eq_true rfl⟩) hS (fun q _ h => hFc q h) hFc (fun u t H1 locs ht hvm hwra55 hB hz1 hk1 hS => ?_)
                have hkra55_0 : (((-1) : Int32)).toInt = -1 := by decide
                have hkra55_1 : ((0 : Int32)).toInt = 0 := by decide
                have hkra55_2 : ((5 : Int32)).toInt = 5 := by decide
                have hkra55_3 : ((6 : Int32)).toInt = 6 := by decide
                obtain ⟨fn56, fn57, fn58, pt0_ra55, hP1, hK1, hD1⟩ := hB
                rw [ht] at hP1
                obtain ⟨hP2, hD2⟩ := va_join (wr := (wd_d0032b31 h1 g0 f18)) (w1 := (wd_c62683a8 h0 v0 h1 v1 x50 (-1) 6 h2 h3 h4 r0 r1 r2 r3 v3 v4 r4 r5 r6 r7 v5 r8 r9 v6 v7 r10 r11 v8 v9 r12 v10 v11 r13 v12 w13 r14 v14 v15 r15 r16 r17 r18 r19 r20 v16 r21 r22 r23 v17 h2 g1 fn56 h3 g2 fn57 h4 g3 fn58)) hP hD [0, 2, 3, 4] [1] rfl rfl (by decide) (by decide) hk1 hFc hP1 hD1
                clear hP hD hPc hDc hKc hFc hP1 hK1 hD1 hk1 hz1
                generalize H1 = H at hP2 hS ⊢
                have hP := hP2.sub (ws' := (wd_d906eaf1 h0 v0 h1 v1 x50 (-1) 6 h2 h3 h4 r0 r1 r2 r3 v3 v4 r4 r5 r6 r7 v5 r8 r9 v6 v7 r10 r11 v8 v9 r12 v10 v11 r13 v12 w13 r14 v14 v15 r15 r16 r17 r18 r19 r20 v16 r21 r22 r23 v17 h1 g0 f18 h2 g1 fn56 h3 g2 fn57 h4 g3 fn58)) [1, 0, 2, 3, 4] rfl
                have hD := hD2.sub (ws' := (wd_d906eaf1 h0 v0 h1 v1 x50 (-1) 6 h2 h3 h4 r0 r1 r2 r3 v3 v4 r4 r5 r6 r7 v5 r8 r9 v6 v7 r10 r11 v8 v9 r12 v10 v11 r13 v12 w13 r14 v14 v15 r15 r16 r17 r18 r19 r20 v16 r21 r22 r23 v17 h1 g0 f18 h2 g1 fn56 h3 g2 fn57 h4 g3 fn58)) [1, 0, 2, 3, 4] (by decide) rfl
                clear hP2 hD2
                have hgR := hgR.bin (k' := 1) (D := 2) pt0_ra55 (by decide) (by decide) (by decide) (by decide) (by decide)
                have hgF := hgR.1
                have hxl := hgF.1
                have hxs := pt0_ra55.step
                refine lv_aload_n hx hb dX12_term_63 rfl (lv_at hl 1 rfl) ?_
                refine va_get (D := (dC, dI)) (ci := 12) (v := .int (-1)) (C := RX12) (T := TX12) (N := 48) hx hb hts (fun _ h => List.mem_cons_of_mem _ (List.mem_append_right _ h)) hown hK hP 0 rfl rfl 4 (by decide) (hts (.fieldLink RX12 119 "LeftArgumentsModel" "wrong" "I") (List.mem_cons_of_mem _ (List.mem_append_left _ (List.mem_of_getElem? (i := 20) rfl)))) (fun _ h9 => h9) rfl dX12_term_64 ?_
                refine lv_iconst (v := (-1)) hx hb dX12_term_67 (by decide) ?_
                refine lv_icmp_ne (tgt := 78) hx hb dX12_term_68 (by decide) (fun c => absurd (by decide) c) (fun _ => ?_)
                refine lv_aload_n hx hb dX12_term_71 rfl (lv_at hl 1 rfl) ?_
                have hPc := hP.sub (ws' := (wd_f4cd022e h0 v0 h1 v1 x50 (-1) 6 h2 h3 h4 r0 r1 r2 r3 v3 v4 r4 r5 r6 r7 v5 r8 r9 v6 v7 r10 r11 v8 v9 r12 v10 v11 r13 v12 w13 r14 v14 v15 r15 r16 r17 r18 r19 r20 v16 r21 r22 r23 v17 h1 g0 f18)) [0, 1] rfl
                have hDc := hD.sub (ws' := (wd_f4cd022e h0 v0 h1 v1 x50 (-1) 6 h2 h3 h4 r0 r1 r2 r3 v3 v4 r4 r5 r6 r7 v5 r8 r9 v6 v7 r10 r11 v8 v9 r12 v10 v11 r13 v12 w13 r14 v14 v15 r15 r16 r17 r18 r19 r20 v16 r21 r22 r23 v17 h1 g0 f18)) [0, 1] (by decide) rfl
                have hKc := hK.sub (tys' := [(g0, .int)]) [0] rfl
                have hFc := va_free (wc := (wd_f4cd022e h0 v0 h1 v1 x50 (-1) 6 h2 h3 h4 r0 r1 r2 r3 v3 v4 r4 r5 r6 r7 v5 r8 r9 v6 v7 r10 r11 v8 v9 r12 v10 v11 r13 v12 w13 r14 v14 v15 r15 r16 r17 r18 r19 r20 v16 r21 r22 r23 v17 h1 g0 f18)) hD hS hA [0, 1] rfl
                refine va_calli (va_runV (As := []) (rest := []) ⟨hx, hb, hml, hown, hts⟩ (k_X12_look l dC dI h0 h1 v0 v1 x50 ((-1)) 6 h2 h3 h4 r0 r1 r2 r3 v3 v4 r4 r5 r6 r7 v5 r8 r9 v6 v7 r10 r11 v8 v9 r12 v10 v11 r13 v12 w13 r14 v14 v15 r15 r16 r17 r18 r19 r20 v16 r21 r22 r23 v17 g0 f18 ⟨i_v1a, i_v1b⟩ ⟨oa_x50, ob_x50⟩ ⟨i_v3a, i_v3b⟩ ⟨i_v4a, i_v4b⟩ ⟨i_v5a, i_v5b⟩ ⟨i_v6a, i_v6b⟩ ⟨i_v7a, i_v7b⟩ ⟨i_v8a, i_v8b⟩ ⟨i_v12a, i_v12b⟩ ⟨i_v16a, i_v16b⟩ ⟨i_v17a, i_v17b⟩ ia_f18 H.size) (cwV 0 hts g_X12_term_1 rfl rfl rfl (by decide +kernel) ⟨Nat.le_of_ble_eq_true rfl, Nat.le_of_ble_eq_true rfl⟩) (pv_PV12 hPc hKc hDc (q0 := 0) rfl) rfl rfl hl.1 rfl (lv_room (Nat.le_of_ble_eq_true rfl)) dX12_term_72 ⟨Nat.le_of_ble_eq_true rfl, Nat.le_of_ble_eq_true rfl⟩) hS (fun q _ h => hFc q h) hFc (fun ra59 u t H1 locs ht hvm hwra59 hB hz1 hk1 hS => ?_)
                try rw [hwra59] at hB
                have hkra59_0 : (((-1) : Int32)).toInt = -1 := by decide
                have hkra59_1 : ((6 : Int32)).toInt = 6 := by decide
                rcases hB with hB | hB
                · skip
                  obtain ⟨x60, oa_x60, ob_x60, pt0_ra59, pt1_ra59, pt2_ra59, pt3_ra59, pt4_ra59, pt5_ra59, pt6_ra59, hP1, hK1, hD1⟩ := hB
                  rw [ht] at hP1
                  obtain ⟨hP2, hD2⟩ := va_join (wr := (wd_ad0642e8 h2 g1 fn56 h3 g2 fn57 h4 g3 fn58)) (w1 := (wd_f4cd022e h0 v0 h1 v1 x60 (-1) 6 h2 h3 h4 r0 r1 r2 r3 v3 v4 r4 r5 r6 r7 v5 r8 r9 v6 v7 r10 r11 v8 v9 r12 v10 v11 r13 v12 w13 r14 v14 v15 r15 r16 r17 r18 r19 r20 v16 r21 r22 r23 v17 h1 g0 f18)) hP hD [0, 1] [2, 3, 4] rfl rfl (by decide) (by decide) hk1 hFc hP1 hD1
                  clear hP hD hPc hDc hKc hFc hP1 hK1 hD1 hk1 hz1
                  generalize H1 = H at hP2 hS ⊢
                  have hP := hP2.sub (ws' := (wd_d906eaf1 h0 v0 h1 v1 x60 (-1) 6 h2 h3 h4 r0 r1 r2 r3 v3 v4 r4 r5 r6 r7 v5 r8 r9 v6 v7 r10 r11 v8 v9 r12 v10 v11 r13 v12 w13 r14 v14 v15 r15 r16 r17 r18 r19 r20 v16 r21 r22 r23 v17 h1 g0 f18 h2 g1 fn56 h3 g2 fn57 h4 g3 fn58)) [3, 4, 0, 1, 2] rfl
                  have hD := hD2.sub (ws' := (wd_d906eaf1 h0 v0 h1 v1 x60 (-1) 6 h2 h3 h4 r0 r1 r2 r3 v3 v4 r4 r5 r6 r7 v5 r8 r9 v6 v7 r10 r11 v8 v9 r12 v10 v11 r13 v12 w13 r14 v14 v15 r15 r16 r17 r18 r19 r20 v16 r21 r22 r23 v17 h1 g0 f18 h2 g1 fn56 h3 g2 fn57 h4 g3 fn58)) [3, 4, 0, 1, 2] (by decide) rfl
                  clear hP2 hD2
                  obtain rfl : ra59 = ((-1) : Int32) := pv_cs (by decide) pt0_ra59 pt1_ra59
                  refine lv_goto (tgt := 79) hx hb dX12_term_75 (by decide) ?_
                  refine lv_istore_n (lv' := [(1, .int (-1)), (0, .ref h0)]) hx hb dX12_term_79 rfl hl (by decide) rfl (fun ls hl => ?_)
                  refine lv_goto (tgt := 21) hx hb dX12_term_80 (by decide) ?_
                  refine lv_iload_n hx hb dX12_term_21 rfl (lv_at hl 0 rfl) ?_
                  refine lv_bipush (v := 42) hx hb dX12_term_22 (by decide) ?_
                  refine lv_icmp_eq (tgt := 33) hx hb dX12_term_24 (by decide) (fun c => absurd c (by decide)) (fun _ => ?_)
                  refine lv_iload_n hx hb dX12_term_27 rfl (lv_at hl 0 rfl) ?_
                  refine lv_bipush (v := 47) hx hb dX12_term_28 (by decide) ?_
                  refine lv_icmp_ne (tgt := 83) hx hb dX12_term_30 (by decide) (fun _ => ?_) (fun c => absurd c (by decide))
                  subst hQ
                  have hP9 := hP.sub (ws' := (wd_d906eaf1 h0 v0 h1 v1 x60 (-1) 6 h2 h3 h4 r0 r1 r2 r3 v3 v4 r4 r5 r6 r7 v5 r8 r9 v6 v7 r10 r11 v8 v9 r12 v10 v11 r13 v12 w13 r14 v14 v15 r15 r16 r17 r18 r19 r20 v16 r21 r22 r23 v17 h1 g0 f18 h2 g1 fn56 h3 g2 fn57 h4 g3 fn58)) [0, 1, 2, 3, 4] rfl
                  have hD9 := hD.sub (ws' := (wd_d906eaf1 h0 v0 h1 v1 x60 (-1) 6 h2 h3 h4 r0 r1 r2 r3 v3 v4 r4 r5 r6 r7 v5 r8 r9 v6 v7 r10 r11 v8 v9 r12 v10 v11 r13 v12 w13 r14 v14 v15 r15 r16 r17 r18 r19 r20 v16 r21 r22 r23 v17 h1 g0 f18 h2 g1 fn56 h3 g2 fn57 h4 g3 fn58)) [0, 1, 2, 3, 4] (by decide) rfl
                  have hK9 := hK.sub (tys' := []) [] rfl
                  exact W.vret hx hb hr (fun t ht hW => ⟨⟨(), rfl, trivial, Or.inl ⟨x60, fn56, fn57, fn58, oa_x60, ob_x60, by constructor <;> omega, by exact hgR.mono (by decide), by first | assumption | (apply pg_row.st <;> first | assumption | omega) | (apply pg_L.out <;> first | assumption | omega) | (apply pg_L.last <;> first | assumption | omega), by rw [ht]; exact hP9, va_K.moved hW.alike hK9, hD9⟩⟩, hS.F ht⟩) hS.2.2 dX12_term_83
                · skip
                  obtain ⟨x61, oa_x61, ob_x61, pt0_ra59, pt1_ra59, pt2_ra59, pt3_ra59, pt4_ra59, pt5_ra59, pt6_ra59, pt7_ra59, hP1, hK1, hD1⟩ := hB
                  rw [ht] at hP1
                  obtain ⟨hP2, hD2⟩ := va_join (wr := (wd_ad0642e8 h2 g1 fn56 h3 g2 fn57 h4 g3 fn58)) (w1 := (wd_f4cd022e h0 v0 h1 v1 x61 (-1) 6 h2 h3 h4 r0 r1 r2 r3 v3 v4 r4 r5 r6 r7 v5 r8 r9 v6 v7 r10 r11 v8 v9 r12 v10 v11 r13 v12 w13 r14 v14 v15 r15 r16 r17 r18 r19 r20 v16 r21 r22 r23 v17 h1 g0 f18)) hP hD [0, 1] [2, 3, 4] rfl rfl (by decide) (by decide) hk1 hFc hP1 hD1
                  clear hP hD hPc hDc hKc hFc hP1 hK1 hD1 hk1 hz1
                  generalize H1 = H at hP2 hS ⊢
                  have hP := hP2.sub (ws' := (wd_d906eaf1 h0 v0 h1 v1 x61 (-1) 6 h2 h3 h4 r0 r1 r2 r3 v3 v4 r4 r5 r6 r7 v5 r8 r9 v6 v7 r10 r11 v8 v9 r12 v10 v11 r13 v12 w13 r14 v14 v15 r15 r16 r17 r18 r19 r20 v16 r21 r22 r23 v17 h1 g0 f18 h2 g1 fn56 h3 g2 fn57 h4 g3 fn58)) [3, 4, 0, 1, 2] rfl
                  have hD := hD2.sub (ws' := (wd_d906eaf1 h0 v0 h1 v1 x61 (-1) 6 h2 h3 h4 r0 r1 r2 r3 v3 v4 r4 r5 r6 r7 v5 r8 r9 v6 v7 r10 r11 v8 v9 r12 v10 v11 r13 v12 w13 r14 v14 v15 r15 r16 r17 r18 r19 r20 v16 r21 r22 r23 v17 h1 g0 f18 h2 g1 fn56 h3 g2 fn57 h4 g3 fn58)) [3, 4, 0, 1, 2] (by decide) rfl
                  clear hP2 hD2
                  refine lv_goto (tgt := 79) hx hb dX12_term_75 (by decide) ?_
                  refine lv_istore_n (lv' := [(1, .int ra59), (0, .ref h0)]) hx hb dX12_term_79 rfl hl (by decide) rfl (fun ls hl => ?_)
                  refine lv_goto (tgt := 21) hx hb dX12_term_80 (by decide) ?_
                  exact ih_hL19 ra59 x61 fn56 fn57 fn58 H locs ls (by first | omega | decide) (by first | omega | decide) oa_x61 ob_x61 (by constructor <;> omega) (by exact hgR.mono (by decide)) (by first | assumption | (apply pg_row.ent <;> first | assumption | omega) | (apply pg_L.next <;> first | assumption | omega) | (apply pg_L.step <;> first | assumption | omega | (apply pg_tru.no <;> assumption) | (apply pg_tru.ok <;> assumption)) | exact pg_L.of (by omega) rfl) (by omega) (by omega) (by first | omega | (simp only [Int.toNat] at *; omega)) hP hD hS (lv_sub hl [0, 1] rfl)
              · skip
                obtain ⟨x62, x63, x64, fn65, fn66, fn67, oa_x62, ob_x62, oa_x63, ob_x63, oa_x64, ob_x64, pt0_ra49, pt1_ra49, pt2_ra49, hP1, hK1, hD1⟩ := hB
                rw [ht] at hP1
                obtain ⟨hP2, hD2⟩ := va_join (wr := []) (w1 := (wd_d906eaf1 h0 v0 h1 v1 x62 x63 x64 h2 h3 h4 r0 r1 r2 r3 v3 v4 r4 r5 r6 r7 v5 r8 r9 v6 v7 r10 r11 v8 v9 r12 v10 v11 r13 v12 w13 r14 v14 v15 r15 r16 r17 r18 r19 r20 v16 r21 r22 r23 v17 h1 g0 f18 h2 g1 fn65 h3 g2 fn66 h4 g3 fn67)) hP hD [0, 1, 2, 3, 4] [] rfl rfl (by decide) (by decide) hk1 hFc hP1 hD1
                clear hP hD hPc hDc hKc hFc hP1 hK1 hD1 hk1 hz1
                generalize H1 = H at hP2 hS ⊢
                have hP : va_P (dC, dI) vwCl (wd_d906eaf1 h0 v0 h1 v1 x62 x63 x64 h2 h3 h4 r0 r1 r2 r3 v3 v4 r4 r5 r6 r7 v5 r8 r9 v6 v7 r10 r11 v8 v9 r12 v10 v11 r13 v12 w13 r14 v14 v15 r15 r16 r17 r18 r19 r20 v16 r21 r22 r23 v17 h1 g0 f18 h2 g1 fn65 h3 g2 fn66 h4 g3 fn67) H := hP2
                have hD : va_D A (wd_d906eaf1 h0 v0 h1 v1 x62 x63 x64 h2 h3 h4 r0 r1 r2 r3 v3 v4 r4 r5 r6 r7 v5 r8 r9 v6 v7 r10 r11 v8 v9 r12 v10 v11 r13 v12 w13 r14 v14 v15 r15 r16 r17 r18 r19 r20 v16 r21 r22 r23 v17 h1 g0 f18 h2 g1 fn65 h3 g2 fn66 h4 g3 fn67) := hD2
                clear hP2 hD2
                have hgF := hgF.app pt1_ra49
                have hxl := hgF.1
                refine lv_aload_n hx hb dX12_term_47 rfl (lv_at hl 1 rfl) ?_
                refine lv_iload_n hx hb dX12_term_48 rfl (lv_at hl 0 rfl) ?_
                refine lv_bipush (v := 42) hx hb dX12_term_49 (by decide) ?_
                refine lv_icmp_ne (tgt := 58) hx hb dX12_term_51 (by decide) (fun _ => ?_) (fun c68 => by exfalso; have fc68 : x9.toInt = 42 := congrArg Int32.toInt c68; omega)
                refine lv_iconst (v := 5) hx hb dX12_term_58 (by decide) ?_
                refine lv_iconst (v := 0) hx hb dX12_term_59 (by decide) ?_
                have hPc := hP.sub (ws' := (wd_c62683a8 h0 v0 h1 v1 x62 x63 x64 h2 h3 h4 r0 r1 r2 r3 v3 v4 r4 r5 r6 r7 v5 r8 r9 v6 v7 r10 r11 v8 v9 r12 v10 v11 r13 v12 w13 r14 v14 v15 r15 r16 r17 r18 r19 r20 v16 r21 r22 r23 v17 h2 g1 fn65 h3 g2 fn66 h4 g3 fn67)) [0, 2, 3, 4] rfl
                have hDc := hD.sub (ws' := (wd_c62683a8 h0 v0 h1 v1 x62 x63 x64 h2 h3 h4 r0 r1 r2 r3 v3 v4 r4 r5 r6 r7 v5 r8 r9 v6 v7 r10 r11 v8 v9 r12 v10 v11 r13 v12 w13 r14 v14 v15 r15 r16 r17 r18 r19 r20 v16 r21 r22 r23 v17 h2 g1 fn65 h3 g2 fn66 h4 g3 fn67)) [0, 2, 3, 4] (by decide) rfl
                have hKc := hK.sub (tys' := [(g1, .int), (g2, .int), (g3, .int)]) [1, 2, 3] rfl
                have hFc := va_free (wc := (wd_c62683a8 h0 v0 h1 v1 x62 x63 x64 h2 h3 h4 r0 r1 r2 r3 v3 v4 r4 r5 r6 r7 v5 r8 r9 v6 v7 r10 r11 v8 v9 r12 v10 v11 r13 v12 w13 r14 v14 v15 r15 r16 r17 r18 r19 r20 v16 r21 r22 r23 v17 h2 g1 fn65 h3 g2 fn66 h4 g3 fn67)) hD hS hA [0, 2, 3, 4] rfl
                refine va_callv (va_runV (As := [.int 5, .int 0]) (rest := []) ⟨hx, hb, hml, hown, hts⟩ (k_X12_put l dC dI h0 h2 h3 h4 v0 h1 v1 x62 x63 x64 r0 r1 r2 r3 v3 v4 r4 r5 r6 r7 v5 r8 r9 v6 v7 r10 r11 v8 v9 r12 v10 v11 r13 v12 w13 r14 v14 v15 r15 r16 r17 r18 r19 r20 v16 r21 r22 r23 v17 g1 fn65 g2 fn66 g3 fn67 5 0 ⟨i_v1a, i_v1b⟩ ⟨i_v3a, i_v3b⟩ ⟨i_v4a, i_v4b⟩ ⟨i_v5a, i_v5b⟩ ⟨i_v6a, i_v6b⟩ ⟨i_v7a, i_v7b⟩ ⟨i_v8a, i_v8b⟩ ⟨i_v12a, i_v12b⟩ ⟨i_v16a, i_v16b⟩ ⟨i_v17a, i_v17b⟩ (by constructor <;> omega) H.size) (cwV 2 hts g_X12_term_3 rfl rfl rfl (by decide +kernel) ⟨Nat.le_of_ble_eq_true rfl, Nat.le_of_ble_eq_true rfl⟩) (pv_PV12 hPc hKc hDc (q0 := 0) rfl) rfl rfl hl.1 rfl (lv_room (Nat.le_of_ble_eq_true rfl)) dX12_term_60 ⟨Nat.le_of_ble_eq_true rfl, Nat.le_of_ble_eq_true rfl⟩) hS (fun q _ h => hFc q h) hFc (fun u t H1 locs ht hvm hwra69 hB hz1 hk1 hS => ?_)
                have hkra69_0 : ((0 : Int32)).toInt = 0 := by decide
                have hkra69_1 : ((5 : Int32)).toInt = 5 := by decide
                obtain ⟨fn70, fn71, fn72, pt0_ra69, hP1, hK1, hD1⟩ := hB
                rw [ht] at hP1
                obtain ⟨hP2, hD2⟩ := va_join (wr := (wd_d0032b31 h1 g0 f18)) (w1 := (wd_c62683a8 h0 v0 h1 v1 x62 x63 x64 h2 h3 h4 r0 r1 r2 r3 v3 v4 r4 r5 r6 r7 v5 r8 r9 v6 v7 r10 r11 v8 v9 r12 v10 v11 r13 v12 w13 r14 v14 v15 r15 r16 r17 r18 r19 r20 v16 r21 r22 r23 v17 h2 g1 fn70 h3 g2 fn71 h4 g3 fn72)) hP hD [0, 2, 3, 4] [1] rfl rfl (by decide) (by decide) hk1 hFc hP1 hD1
                clear hP hD hPc hDc hKc hFc hP1 hK1 hD1 hk1 hz1
                generalize H1 = H at hP2 hS ⊢
                have hP := hP2.sub (ws' := (wd_d906eaf1 h0 v0 h1 v1 x62 x63 x64 h2 h3 h4 r0 r1 r2 r3 v3 v4 r4 r5 r6 r7 v5 r8 r9 v6 v7 r10 r11 v8 v9 r12 v10 v11 r13 v12 w13 r14 v14 v15 r15 r16 r17 r18 r19 r20 v16 r21 r22 r23 v17 h1 g0 f18 h2 g1 fn70 h3 g2 fn71 h4 g3 fn72)) [1, 0, 2, 3, 4] rfl
                have hD := hD2.sub (ws' := (wd_d906eaf1 h0 v0 h1 v1 x62 x63 x64 h2 h3 h4 r0 r1 r2 r3 v3 v4 r4 r5 r6 r7 v5 r8 r9 v6 v7 r10 r11 v8 v9 r12 v10 v11 r13 v12 w13 r14 v14 v15 r15 r16 r17 r18 r19 r20 v16 r21 r22 r23 v17 h1 g0 f18 h2 g1 fn70 h3 g2 fn71 h4 g3 fn72)) [1, 0, 2, 3, 4] (by decide) rfl
                clear hP2 hD2
                have hgF := hgF.put pt0_ra69
                have hxl := hgF.1
                have hxs := pt0_ra69.step
                refine lv_aload_n hx hb dX12_term_63 rfl (lv_at hl 1 rfl) ?_
                refine va_get (D := (dC, dI)) (ci := 12) (v := .int x63) (C := RX12) (T := TX12) (N := 48) hx hb hts (fun _ h => List.mem_cons_of_mem _ (List.mem_append_right _ h)) hown hK hP 0 rfl rfl 4 (by decide) (hts (.fieldLink RX12 119 "LeftArgumentsModel" "wrong" "I") (List.mem_cons_of_mem _ (List.mem_append_left _ (List.mem_of_getElem? (i := 20) rfl)))) (fun _ h9 => h9) rfl dX12_term_64 ?_
                refine lv_iconst (v := (-1)) hx hb dX12_term_67 (by decide) ?_
                refine lv_icmp_ne (tgt := 78) hx hb dX12_term_68 (by decide) (fun _ => ?_) (fun c73 => by exfalso; have fc73 : x63.toInt = (-1) := congrArg Int32.toInt c73; omega)
                refine lv_iconst (v := (-1)) hx hb dX12_term_78 (by decide) ?_
                refine lv_istore_n (lv' := [(1, .int (-1)), (0, .ref h0)]) hx hb dX12_term_79 rfl hl (by decide) rfl (fun ls hl => ?_)
                refine lv_goto (tgt := 21) hx hb dX12_term_80 (by decide) ?_
                refine lv_iload_n hx hb dX12_term_21 rfl (lv_at hl 0 rfl) ?_
                refine lv_bipush (v := 42) hx hb dX12_term_22 (by decide) ?_
                refine lv_icmp_eq (tgt := 33) hx hb dX12_term_24 (by decide) (fun c => absurd c (by decide)) (fun _ => ?_)
                refine lv_iload_n hx hb dX12_term_27 rfl (lv_at hl 0 rfl) ?_
                refine lv_bipush (v := 47) hx hb dX12_term_28 (by decide) ?_
                refine lv_icmp_ne (tgt := 83) hx hb dX12_term_30 (by decide) (fun _ => ?_) (fun c => absurd c (by decide))
                subst hQ
                have hP9 := hP.sub (ws' := (wd_d906eaf1 h0 v0 h1 v1 x62 x63 x64 h2 h3 h4 r0 r1 r2 r3 v3 v4 r4 r5 r6 r7 v5 r8 r9 v6 v7 r10 r11 v8 v9 r12 v10 v11 r13 v12 w13 r14 v14 v15 r15 r16 r17 r18 r19 r20 v16 r21 r22 r23 v17 h1 g0 f18 h2 g1 fn70 h3 g2 fn71 h4 g3 fn72)) [0, 1, 2, 3, 4] rfl
                have hD9 := hD.sub (ws' := (wd_d906eaf1 h0 v0 h1 v1 x62 x63 x64 h2 h3 h4 r0 r1 r2 r3 v3 v4 r4 r5 r6 r7 v5 r8 r9 v6 v7 r10 r11 v8 v9 r12 v10 v11 r13 v12 w13 r14 v14 v15 r15 r16 r17 r18 r19 r20 v16 r21 r22 r23 v17 h1 g0 f18 h2 g1 fn70 h3 g2 fn71 h4 g3 fn72)) [0, 1, 2, 3, 4] (by decide) rfl
                have hK9 := hK.sub (tys' := []) [] rfl
                exact W.vret hx hb hr (fun t ht hW => ⟨⟨(), rfl, trivial, Or.inr (⟨x62, x63, x64, fn70, fn71, fn72, oa_x62, ob_x62, oa_x63, ob_x63, oa_x64, ob_x64, by constructor <;> omega, by exact hgF, by first | assumption | (apply pg_row.no <;> first | assumption | omega) | (apply pg_L.fail <;> first | assumption | omega), by rw [ht]; exact hP9, va_K.moved hW.alike hK9, hD9⟩)⟩, hS.F ht⟩) hS.2.2 dX12_term_83
      exact hL19 _ ra6 x8 fn3 fn4 fn5 H locs ls (by first | omega | decide) (by first | omega | decide) oa_x8 ob_x8 (by constructor <;> omega) (by exact hgR.mono (by decide)) (by first | assumption | (apply pg_row.ent <;> first | assumption | omega) | (apply pg_L.next <;> first | assumption | omega) | (apply pg_L.step <;> first | assumption | omega | (apply pg_tru.no <;> assumption) | (apply pg_tru.ok <;> assumption)) | exact pg_L.of (by omega) rfl) (by omega) (by omega) (Nat.lt_succ_self _) hP hD hS (lv_sub hl [0, 1] rfl)
  · skip
    obtain ⟨x74, x75, x76, fn77, fn78, fn79, oa_x74, ob_x74, oa_x75, ob_x75, oa_x76, ob_x76, pt0_ra1, pt1_ra1, pt2_ra1, hP1, hK1, hD1⟩ := hB
    rw [ht] at hP1
    obtain ⟨hP2, hD2⟩ := va_join (wr := []) (w1 := (wd_d906eaf1 h0 v0 h1 v1 x74 x75 x76 h2 h3 h4 r0 r1 r2 r3 v3 v4 r4 r5 r6 r7 v5 r8 r9 v6 v7 r10 r11 v8 v9 r12 v10 v11 r13 v12 w13 r14 v14 v15 r15 r16 r17 r18 r19 r20 v16 r21 r22 r23 v17 h1 g0 f18 h2 g1 fn77 h3 g2 fn78 h4 g3 fn79)) hP hD [0, 1, 2, 3, 4] [] rfl rfl (by decide) (by decide) hk1 hFc hP1 hD1
    clear hP hD hPc hDc hKc hFc hP1 hK1 hD1 hk1 hz1
    generalize H1 = H at hP2 hS ⊢
    have hP : va_P (dC, dI) vwCl (wd_d906eaf1 h0 v0 h1 v1 x74 x75 x76 h2 h3 h4 r0 r1 r2 r3 v3 v4 r4 r5 r6 r7 v5 r8 r9 v6 v7 r10 r11 v8 v9 r12 v10 v11 r13 v12 w13 r14 v14 v15 r15 r16 r17 r18 r19 r20 v16 r21 r22 r23 v17 h1 g0 f18 h2 g1 fn77 h3 g2 fn78 h4 g3 fn79) H := hP2
    have hD : va_D A (wd_d906eaf1 h0 v0 h1 v1 x74 x75 x76 h2 h3 h4 r0 r1 r2 r3 v3 v4 r4 r5 r6 r7 v5 r8 r9 v6 v7 r10 r11 v8 v9 r12 v10 v11 r13 v12 w13 r14 v14 v15 r15 r16 r17 r18 r19 r20 v16 r21 r22 r23 v17 h1 g0 f18 h2 g1 fn77 h3 g2 fn78 h4 g3 fn79) := hD2
    clear hP2 hD2
    have hgF := hgF.app pt1_ra1
    have hxl := hgF.1
    refine lv_aload_n hx hb dX12_term_4 rfl (lv_at hl 0 rfl) ?_
    refine va_get (D := (dC, dI)) (ci := 12) (v := .int x75) (C := RX12) (T := TX12) (N := 48) hx hb hts (fun _ h => List.mem_cons_of_mem _ (List.mem_append_right _ h)) hown hK hP 0 rfl rfl 4 (by decide) (hts (.fieldLink RX12 119 "LeftArgumentsModel" "wrong" "I") (List.mem_cons_of_mem _ (List.mem_append_left _ (List.mem_of_getElem? (i := 20) rfl)))) (fun _ h9 => h9) rfl dX12_term_5 ?_
    refine lv_iconst (v := (-1)) hx hb dX12_term_8 (by decide) ?_
    refine lv_icmp_ne (tgt := 19) hx hb dX12_term_9 (by decide) (fun _ => ?_) (fun c80 => by exfalso; have fc80 : x75.toInt = (-1) := congrArg Int32.toInt c80; omega)
    refine lv_iconst (v := (-1)) hx hb dX12_term_19 (by decide) ?_
    refine lv_istore_n (lv' := [(1, .int (-1)), (0, .ref h0)]) hx hb dX12_term_20 rfl hl (by decide) rfl (fun ls hl => ?_)
    refine lv_iload_n hx hb dX12_term_21 rfl (lv_at hl 0 rfl) ?_
    refine lv_bipush (v := 42) hx hb dX12_term_22 (by decide) ?_
    refine lv_icmp_eq (tgt := 33) hx hb dX12_term_24 (by decide) (fun c => absurd c (by decide)) (fun _ => ?_)
    refine lv_iload_n hx hb dX12_term_27 rfl (lv_at hl 0 rfl) ?_
    refine lv_bipush (v := 47) hx hb dX12_term_28 (by decide) ?_
    refine lv_icmp_ne (tgt := 83) hx hb dX12_term_30 (by decide) (fun _ => ?_) (fun c => absurd c (by decide))
    subst hQ
    have hP9 := hP.sub (ws' := (wd_d906eaf1 h0 v0 h1 v1 x74 x75 x76 h2 h3 h4 r0 r1 r2 r3 v3 v4 r4 r5 r6 r7 v5 r8 r9 v6 v7 r10 r11 v8 v9 r12 v10 v11 r13 v12 w13 r14 v14 v15 r15 r16 r17 r18 r19 r20 v16 r21 r22 r23 v17 h1 g0 f18 h2 g1 fn77 h3 g2 fn78 h4 g3 fn79)) [0, 1, 2, 3, 4] rfl
    have hD9 := hD.sub (ws' := (wd_d906eaf1 h0 v0 h1 v1 x74 x75 x76 h2 h3 h4 r0 r1 r2 r3 v3 v4 r4 r5 r6 r7 v5 r8 r9 v6 v7 r10 r11 v8 v9 r12 v10 v11 r13 v12 w13 r14 v14 v15 r15 r16 r17 r18 r19 r20 v16 r21 r22 r23 v17 h1 g0 f18 h2 g1 fn77 h3 g2 fn78 h4 g3 fn79)) [0, 1, 2, 3, 4] (by decide) rfl
    have hK9 := hK.sub (tys' := []) [] rfl
    exact W.vret hx hb hr (fun t ht hW => ⟨⟨(), rfl, trivial, Or.inr (⟨x74, x75, x76, fn77, fn78, fn79, oa_x74, ob_x74, oa_x75, ob_x75, oa_x76, ob_x76, by constructor <;> omega, by exact hgF, by first | assumption | (apply pg_row.no <;> first | assumption | omega) | (apply pg_L.fail <;> first | assumption | omega), by rw [ht]; exact hP9, va_K.moved hW.alike hK9, hD9⟩)⟩, hS.F ht⟩) hS.2.2 dX12_term_83
