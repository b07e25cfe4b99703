abbrev wd_f4deda84 (p0 : Nat) (p1 : Int32) (p2 : Nat) (p3 : Int32) (p4 : Int32) (p5 : Int32) (p6 : Int32) (p7 : Nat) (p8 : Nat) (p9 : Nat) (p10 : Nat) (p11 : Nat) (p12 : Nat) (p13 : Nat) (p14 : Int32) (p15 : Int32) (p16 : Nat) (p17 : Nat) (p18 : Nat) (p19 : Nat) (p20 : Int32) (p21 : Nat) (p22 : Nat) (p23 : Int32) (p24 : Int32) (p25 : Nat) (p26 : Nat) (p27 : Int32) (p28 : Int32) (p29 : Nat) (p30 : Int32) (p31 : Int32) (p32 : Nat) (p33 : Int32) (p34 : Int64) (p35 : Nat) (p36 : Int32) (p37 : Int32) (p38 : Nat) (p39 : Nat) (p40 : Nat) (p41 : Nat) (p42 : Nat) (p43 : Nat) (p44 : Int32) (p45 : Nat) (p46 : Nat) (p47 : Nat) (p48 : Int32) (p49 : Nat) (p50 : ClassId) (p51 : Nat → Int32) (p52 : Nat) (p53 : ClassId) (p54 : Nat → Int32) : va_W := [(p0, .inr (12, [.int p1, .ref p2, .int p3, .int p4, .int p5, .int p6, .ref p7, .ref p8, .ref p9, .ref p10, .ref p11, .ref p12, .ref p13, .int p14, .int p15, .ref p16, .ref p17, .ref p18, .ref p19, .int p20, .ref p21, .ref p22, .int p23, .int p24, .ref p25, .ref p26, .int p27, .int p28, .ref p29, .int p30, .int p31, .ref p32, .int p33, .long p34, .ref p35, .int p36, .int p37, .ref p38, .ref p39, .ref p40, .ref p41, .ref p42, .ref p43, .int p44, .ref p45, .ref p46, .ref p47, .int p48])), (p49, .inl (p50, 247, .inl p51)), (p52, .inl (p53, 8, .inl p54))]
abbrev wd_90cd99f9 (p0 : Nat) (p1 : Int32) (p2 : Nat) (p3 : Int32) (p4 : Int32) (p5 : Int32) (p6 : Int32) (p7 : Nat) (p8 : Nat) (p9 : Nat) (p10 : Nat) (p11 : Nat) (p12 : Nat) (p13 : Nat) (p14 : Int32) (p15 : Int32) (p16 : Nat) (p17 : Nat) (p18 : Nat) (p19 : Nat) (p20 : Int32) (p21 : Nat) (p22 : Nat) (p23 : Int32) (p24 : Int32) (p25 : Nat) (p26 : Nat) (p27 : Int32) (p28 : Int32) (p29 : Nat) (p30 : Int32) (p31 : Int32) (p32 : Nat) (p33 : Int32) (p34 : Int64) (p35 : Nat) (p36 : Int32) (p37 : Int32) (p38 : Nat) (p39 : Nat) (p40 : Nat) (p41 : Nat) (p42 : Nat) (p43 : Nat) (p44 : Int32) (p45 : Nat) (p46 : Nat) (p47 : Nat) (p48 : Int32) (p49 : Nat) (p50 : ClassId) (p51 : Nat → Int32) (p52 : Nat) (p53 : ClassId) (p54 : Nat → Int32) (p55 : Nat) (p56 : ClassId) (p57 : Nat → Int32) (p58 : Nat) (p59 : ClassId) (p60 : Nat → Int32) : va_W := [(p0, .inr (12, [.int p1, .ref p2, .int p3, .int p4, .int p5, .int p6, .ref p7, .ref p8, .ref p9, .ref p10, .ref p11, .ref p12, .ref p13, .int p14, .int p15, .ref p16, .ref p17, .ref p18, .ref p19, .int p20, .ref p21, .ref p22, .int p23, .int p24, .ref p25, .ref p26, .int p27, .int p28, .ref p29, .int p30, .int p31, .ref p32, .int p33, .long p34, .ref p35, .int p36, .int p37, .ref p38, .ref p39, .ref p40, .ref p41, .ref p42, .ref p43, .int p44, .ref p45, .ref p46, .ref p47, .int p48])), (p49, .inl (p50, 4, .inl p51)), (p52, .inl (p53, 247, .inl p54)), (p55, .inl (p56, 8, .inl p57)), (p58, .inl (p59, 8, .inl p60))]
abbrev wd_20b67a68 (p0 : Nat) (p1 : ClassId) (p2 : Nat → Int32) (p3 : Nat) (p4 : ClassId) (p5 : Nat → Int32) (p6 : Nat) (p7 : ClassId) (p8 : Nat → Int32) : va_W := [(p0, .inl (p1, 4, .inl p2)), (p3, .inl (p4, 8, .inl p5)), (p6, .inl (p7, 8, .inl p8))]
abbrev wd_5481fbec (p0 : Nat) (p1 : ClassId) (p2 : Nat → Int32) (p3 : Nat) (p4 : ClassId) (p5 : Nat → Int32) : va_W := [(p0, .inl (p1, 4, .inl p2)), (p3, .inl (p4, 8, .inl p5))]
abbrev wd_fd33bfec (p0 : Nat) (p1 : ClassId) (p2 : Nat → Int32) (p3 : Nat) (p4 : ClassId) (p5 : Nat → Int32) (p6 : Nat) (p7 : ClassId) (p8 : Nat → Int32) (p9 : Nat) (p10 : ClassId) (p11 : Nat → Int32) : va_W := [(p0, .inl (p1, 4, .inl p2)), (p3, .inl (p4, 247, .inl p5)), (p6, .inl (p7, 8, .inl p8)), (p9, .inl (p10, 8, .inl p11))]
def q_X12_ends : List Cond := .code yX12_ends cX12_ends 2 (some .int) :: (([.code yX12_isThere cX12_isThere 2 (some .boolean), .code yX12_in cX12_in 3 (some .boolean), .initialized RX12, .static yX12_in, .methodLink RX12 217 yX12_in, .code yX12_of cX12_of 3 (some .int), .fieldLink RX12 52 "LeftArgumentsModel" "now" "[I", .instanceMethod yX12_of, .selects RX12 yX12_of yX12_of, .methodLink RX12 287 yX12_of, .instanceMethod yX12_isThere, .selects RX12 yX12_isThere yX12_isThere, .methodLink RX12 290 yX12_isThere, .code yX12_daysTo cX12_daysTo 5 (some .int), .code yX12_putAside cX12_putAside 3 none, .fieldLink RX12 71 "LeftArgumentsModel" "aside" "[I", .instanceMethod yX12_putAside, .selects RX12 yX12_putAside yX12_putAside, .methodLink RX12 375 yX12_putAside, .code yX12_takeBack cX12_takeBack 3 none, .instanceMethod yX12_takeBack, .selects RX12 yX12_takeBack yX12_takeBack, .methodLink RX12 381 yX12_takeBack, .code yX12_live cX12_live 2 none, .code yX12_growAll cX12_growAll 2 none, .fieldLink RX12 65 "LeftArgumentsModel" "grows" "[I", .methodLink RX12 299 Lib.Math.min.name, .static Lib.Math.min.name, .initialized "java/lang/Math", .code Lib.Math.min.name Lib.Math.min.code 2 (some .int), .methodLink RX12 301 Lib.Math.max.name, .static Lib.Math.max.name, .code Lib.Math.max.name Lib.Math.max.code 2 (some .int), .code yX12_set cX12_set 4 none, .instanceMethod yX12_set, .selects RX12 yX12_set yX12_set, .methodLink RX12 258 yX12_set, .code yX12_growthOf cX12_growthOf 4 (some .int), .code yX12_withOf cX12_withOf 4 (some .int), .instanceMethod yX12_withOf, .selects RX12 yX12_withOf yX12_withOf, .methodLink RX12 293 yX12_withOf, .fieldLink RX12 58 "LeftArgumentsModel" "holding" "I", .fieldLink RX12 34 "LeftArgumentsModel" "letters" "[I", .code yX12_worthOf cX12_worthOf 3 (some .int), .fieldLink RX12 22 "LeftArgumentsModel" "clauses" "[I", .fieldLink RX12 25 "LeftArgumentsModel" "testFrom" "[I", .fieldLink RX12 28 "LeftArgumentsModel" "sumFrom" "[I", .fieldLink RX12 31 "LeftArgumentsModel" "sumTo" "[I", .code yX12_workOut cX12_workOut 6 (some .int), .fieldLink RX12 37 "LeftArgumentsModel" "stack" "[I", .fieldLink RX12 13 "LeftArgumentsModel" "code" "[I", .fieldLink RX12 16 "LeftArgumentsModel" "value" "[I", .code yX12_worked cX12_worked 5 (some .int), .code yX12_bounded cX12_bounded 2 (some .int), .constantLong RX12 192 (-1000000), .constantLong RX12 194 (1000000), .methodLink RX12 196 Lib.MathLoose.min_long.x, .static Lib.MathLoose.min_long.x, .code Lib.MathLoose.min_long.x Lib.MathLoose.min_long.code 4 (some .long), .methodLink RX12 202 Lib.MathLoose.max_long.x, .static Lib.MathLoose.max_long.x, .code Lib.MathLoose.max_long.x Lib.MathLoose.max_long.code 4 (some .long), .static yX12_bounded, .methodLink RX12 205 yX12_bounded, .static yX12_worked, .methodLink RX12 209 yX12_worked, .instanceMethod yX12_workOut, .selects RX12 yX12_workOut yX12_workOut, .methodLink RX12 213 yX12_workOut, .instanceMethod yX12_worthOf, .selects RX12 yX12_worthOf yX12_worthOf, .methodLink RX12 296 yX12_worthOf, .instanceMethod yX12_growthOf, .selects RX12 yX12_growthOf yX12_growthOf, .methodLink RX12 303 yX12_growthOf, .instanceMethod yX12_growAll, .selects RX12 yX12_growAll yX12_growAll, .methodLink RX12 318 yX12_growAll, .code yX12_endAll cX12_endAll 2 none, .fieldLink RX12 306 "LeftArgumentsModel" "ended" "I", .instanceMethod yX12_endAll, .selects RX12 yX12_endAll yX12_endAll, .methodLink RX12 321 yX12_endAll, .code yX12_dropAll cX12_dropAll 3 none, .fieldLink RX12 309 "LeftArgumentsModel" "fell" "I", .fieldLink RX12 46 "LeftArgumentsModel" "rule" "[I", .code yX12_loadOf cX12_loadOf 4 (some .int), .instanceMethod yX12_loadOf, .selects RX12 yX12_loadOf yX12_loadOf, .methodLink RX12 312 yX12_loadOf, .code yX12_largestOn cX12_largestOn 4 (some .int), .instanceMethod yX12_largestOn, .selects RX12 yX12_largestOn yX12_largestOn, .methodLink RX12 315 yX12_largestOn, .instanceMethod yX12_dropAll, .selects RX12 yX12_dropAll yX12_dropAll, .methodLink RX12 324 yX12_dropAll, .instanceMethod yX12_live, .selects RX12 yX12_live yX12_live, .methodLink RX12 327 yX12_live, .code yX12_has cX12_has 2 (some .boolean), .static yX12_has, .methodLink RX12 228 yX12_has, .instanceMethod yX12_daysTo, .selects RX12 yX12_daysTo yX12_daysTo, .methodLink RX12 384 yX12_daysTo] : List Cond) ++ wsX120)
set_option maxRecDepth 20000 in
theorem g_X12_ends_0 : GoodIn q_X12_ends (wsV RX12 290 RX12 yX12_isThere q_X12_isThere) := goodIn_app (goodIn_r _ [13, 11, 12, 3] rfl (by decide +kernel)) (goodIn_ca (goodIn_r (.code yX12_isThere cX12_isThere 2 (some .boolean) :: [.code yX12_in cX12_in 3 (some .boolean), .initialized RX12, .static yX12_in, .methodLink RX12 217 yX12_in, .code yX12_of cX12_of 3 (some .int), .fieldLink RX12 52 "LeftArgumentsModel" "now" "[I", .instanceMethod yX12_of, .selects RX12 yX12_of yX12_of, .methodLink RX12 287 yX12_of]) [1, 2, 3, 4, 5, 6, 7, 8, 9, 10] rfl (by decide +kernel)) (goodIn_sub (fun _ h => List.mem_cons_of_mem _ (List.mem_append_right _ h)) gwX12))
set_option maxRecDepth 20000 in
theorem g_X12_ends_1 : GoodIn q_X12_ends (wsV RX12 384 RX12 yX12_daysTo q_X12_daysTo) := goodIn_app (goodIn_r _ [107, 105, 106, 3] rfl (by decide +kernel)) (goodIn_ca (goodIn_r (.code yX12_daysTo cX12_daysTo 5 (some .int) :: [.code yX12_putAside cX12_putAside 3 none, .fieldLink RX12 71 "LeftArgumentsModel" "aside" "[I", .fieldLink RX12 52 "LeftArgumentsModel" "now" "[I", .initialized RX12, .instanceMethod yX12_putAside, .selects RX12 yX12_putAside yX12_putAside, .methodLink RX12 375 yX12_putAside, .code yX12_takeBack cX12_takeBack 3 none, .instanceMethod yX12_takeBack, .selects RX12 yX12_takeBack yX12_takeBack, .methodLink RX12 381 yX12_takeBack, .code yX12_live cX12_live 2 none, .code yX12_growAll cX12_growAll 2 none, .code yX12_isThere cX12_isThere 2 (some .boolean), .code yX12_in cX12_in 3 (some .boolean), .static yX12_in, .methodLink RX12 217 yX12_in, .code yX12_of cX12_of 3 (some .int), .instanceMethod yX12_of, .selects RX12 yX12_of yX12_of, .methodLink RX12 287 yX12_of, .instanceMethod yX12_isThere, .selects RX12 yX12_isThere yX12_isThere, .methodLink RX12 290 yX12_isThere, .fieldLink RX12 65 "LeftArgumentsModel" "grows" "[I", .methodLink RX12 299 Lib.Math.min.name, .static Lib.Math.min.name, .initialized "java/lang/Math", .code Lib.Math.min.name Lib.Math.min.code 2 (some .int), .methodLink RX12 301 Lib.Math.max.name, .static Lib.Math.max.name, .code Lib.Math.max.name Lib.Math.max.code 2 (some .int), .code yX12_set cX12_set 4 none, .instanceMethod yX12_set, .selects RX12 yX12_set yX12_set, .methodLink RX12 258 yX12_set, .code yX12_growthOf cX12_growthOf 4 (some .int), .code yX12_withOf cX12_withOf 4 (some .int), .instanceMethod yX12_withOf, .selects RX12 yX12_withOf yX12_withOf, .methodLink RX12 293 yX12_withOf, .fieldLink RX12 58 "LeftArgumentsModel" "holding" "I", .fieldLink RX12 34 "LeftArgumentsModel" "letters" "[I", .code yX12_worthOf cX12_worthOf 3 (some .int), .fieldLink RX12 22 "LeftArgumentsModel" "clauses" "[I", .fieldLink RX12 25 "LeftArgumentsModel" "testFrom" "[I", .fieldLink RX12 28 "LeftArgumentsModel" "sumFrom" "[I", .fieldLink RX12 31 "LeftArgumentsModel" "sumTo" "[I", .code yX12_workOut cX12_workOut 6 (some .int), .fieldLink RX12 37 "LeftArgumentsModel" "stack" "[I", .fieldLink RX12 13 "LeftArgumentsModel" "code" "[I", .fieldLink RX12 16 "LeftArgumentsModel" "value" "[I", .code yX12_worked cX12_worked 5 (some .int), .code yX12_bounded cX12_bounded 2 (some .int), .constantLong RX12 192 (-1000000), .constantLong RX12 194 (1000000), .methodLink RX12 196 Lib.MathLoose.min_long.x, .static Lib.MathLoose.min_long.x, .code Lib.MathLoose.min_long.x Lib.MathLoose.min_long.code 4 (some .long), .methodLink RX12 202 Lib.MathLoose.max_long.x, .static Lib.MathLoose.max_long.x, .code Lib.MathLoose.max_long.x Lib.MathLoose.max_long.code 4 (some .long), .static yX12_bounded, .methodLink RX12 205 yX12_bounded, .static yX12_worked, .methodLink RX12 209 yX12_worked, .instanceMethod yX12_workOut, .selects RX12 yX12_workOut yX12_workOut, .methodLink RX12 213 yX12_workOut, .instanceMethod yX12_worthOf, .selects RX12 yX12_worthOf yX12_worthOf, .methodLink RX12 296 yX12_worthOf, .instanceMethod yX12_growthOf, .selects RX12 yX12_growthOf yX12_growthOf, .methodLink RX12 303 yX12_growthOf, .instanceMethod yX12_growAll, .selects RX12 yX12_growAll yX12_growAll, .methodLink RX12 318 yX12_growAll, .code yX12_endAll cX12_endAll 2 none, .fieldLink RX12 306 "LeftArgumentsModel" "ended" "I", .instanceMethod yX12_endAll, .selects RX12 yX12_endAll yX12_endAll, .methodLink RX12 321 yX12_endAll, .code yX12_dropAll cX12_dropAll 3 none, .fieldLink RX12 309 "LeftArgumentsModel" "fell" "I", .fieldLink RX12 46 "LeftArgumentsModel" "rule" "[I", .code yX12_loadOf cX12_loadOf 4 (some .int), .instanceMethod yX12_loadOf, .selects RX12 yX12_loadOf yX12_loadOf, .methodLink RX12 312 yX12_loadOf, .code yX12_largestOn cX12_largestOn 4 (some .int), .instanceMethod yX12_largestOn, .selects RX12 yX12_largestOn yX12_largestOn, .methodLink RX12 315 yX12_largestOn, .instanceMethod yX12_dropAll, .selects RX12 yX12_dropAll yX12_dropAll, .methodLink RX12 324 yX12_dropAll, .instanceMethod yX12_live, .selects RX12 yX12_live yX12_live, .methodLink RX12 327 yX12_live, .code yX12_has cX12_has 2 (some .boolean), .static yX12_has, .methodLink RX12 228 yX12_has]) [14, 15, 16, 7, 3, 17, 18, 19, 20, 21, 22, 23, 24, 25, 1, 2, 4, 5, 6, 8, 9, 10, 11, 12, 13, 26, 27, 28, 29, 30, 31, 32, 33, 34, 35, 36, 37, 38, 39, 40, 41, 42, 43, 44, 45, 46, 47, 48, 49, 50, 51, 52, 53, 54, 55, 56, 57, 58, 59, 60, 61, 62, 63, 64, 65, 66, 67, 68, 69, 70, 71, 72, 73, 74, 75, 76, 77, 78, 79, 80, 81, 82, 83, 84, 85, 86, 87, 88, 89, 90, 91, 92, 93, 94, 95, 96, 97, 98, 99, 100, 101, 102, 103, 104] rfl (by decide +kernel)) (goodIn_sub (fun _ h => List.mem_cons_of_mem _ (List.mem_append_right _ h)) gwX12))
set_option maxHeartbeats 4000000 in
set_option maxRecDepth 100000 in
theorem k_X12_ends (l : Launch) (dC : Nat → ClassId) (dI : Nat → Nat → Nat) (h0 : Nat) (h1 : Nat) (h2 : Nat) (h3 : Nat) (h4 : Nat) (h5 : Nat) (h6 : Nat) (h7 : Nat) (h8 : Nat) (h9 : Nat) (h10 : Nat) (h11 : Nat) (h12 : Nat) (v0 : Int32) (r0 : Nat) (v1 : Int32) (v2 : Int32) (v3 : Int32) (v4 : Int32) (r1 : Nat) (v5 : Int32) (v6 : Int32) (r2 : Nat) (r3 : Nat) (v7 : Int32) (r4 : Nat) (v8 : Int32) (v9 : Int32) (r5 : Nat) (v10 : Int32) (v11 : Int32) (v12 : Int32) (v13 : Int32) (r6 : Nat) (v14 : Int32) (w15 : Int64) (v16 : Int32) (v17 : Int32) (r7 : Nat) (r8 : Nat) (r9 : Nat) (r10 : Nat) (r11 : Nat) (r12 : Nat) (v18 : Int32) (r13 : Nat) (r14 : Nat) (r15 : Nat) (v19 : Int32) (g0 : ClassId) (f20 : Nat → Int32) (g1 : ClassId) (f21 : Nat → Int32) (g2 : ClassId) (f22 : Nat → Int32) (g3 : ClassId) (f23 : Nat → Int32) (g4 : ClassId) (f24 : Nat → Int32) (g5 : ClassId) (f25 : Nat → Int32) (g6 : ClassId) (f26 : Nat → Int32) (g7 : ClassId) (f27 : Nat → Int32) (g8 : ClassId) (f28 : Nat → Int32) (g9 : ClassId) (f29 : Nat → Int32) (g10 : ClassId) (f30 : Nat → Int32) (g11 : ClassId) (f31 : Nat → Int32) (v32 : Int32) (i_v1 : 0 ≤ v1.toInt ∧ v1.toInt ≤ 240) (i_v5 : 0 ≤ v5.toInt ∧ v5.toInt ≤ 4) (i_v6 : 0 ≤ v6.toInt ∧ v6.toInt ≤ 4) (i_v7 : 0 ≤ v7.toInt ∧ v7.toInt ≤ 8) (i_v8 : 0 ≤ v8.toInt ∧ v8.toInt ≤ 8) (i_v9 : 0 ≤ v9.toInt ∧ v9.toInt ≤ 1) (i_v10 : -1 ≤ v10.toInt ∧ v10.toInt ≤ 3) (i_v14 : 0 ≤ v14.toInt ∧ v14.toInt ≤ 40) (i_v18 : 0 ≤ v18.toInt ∧ v18.toInt ≤ 10) (i_v19 : 0 ≤ v19.toInt ∧ v19.toInt ≤ 1) (ia_f28 : (pm_RU f28)) (ia_f29 : (pm_NW f29)) (ia_f31 : (pm_AS f31)) (pp0 : pm_Held v10 f20 f21 f22 f23 f24 f25) (sz : Nat) : Met l yX12_ends q_X12_ends ({ frames := 9, cells := 0, slots := 0, locals := 198 }) (va_Pc [.ref h0, .int v32] (fun U => U.heap.size = sz ∧ va_P (dC, dI) vwCl (wd_cfaca2a5 h0 v0 r0 v1 v2 v3 v4 h1 h2 r1 h3 h4 h5 h6 v5 v6 h7 h8 r2 r3 v7 h9 r4 v8 v9 h10 r5 v10 v11 h11 v12 v13 r6 v14 w15 h12 v16 v17 r7 r8 r9 r10 r11 r12 v18 r13 r14 r15 v19 h1 g0 f20 h2 g1 f21 h3 g2 f22 h4 g3 f23 h5 g4 f24 h6 g5 f25 h7 g6 f26 h8 g7 f27 h9 g8 f28 h10 g9 f29 h11 g10 f30 h12 g11 f31) U.heap ∧ va_K (dC, dI) vwCl [(g0, .int), (g1, .int), (g2, .int), (g3, .int), (g4, .int), (g5, .int), (g6, .int), (g7, .int), (g8, .int), (g9, .int), (g10, .int), (g11, .int)] U ∧ va_D (fun _ => True) (wd_cfaca2a5 h0 v0 r0 v1 v2 v3 v4 h1 h2 r1 h3 h4 h5 h6 v5 v6 h7 h8 r2 r3 v7 h9 r4 v8 v9 h10 r5 v10 v11 h11 v12 v13 r6 v14 w15 h12 v16 v17 r7 r8 r9 r10 r11 r12 v18 r13 r14 r15 v19 h1 g0 f20 h2 g1 f21 h3 g2 f22 h4 g3 f23 h5 g4 f24 h6 g5 f25 h7 g6 f26 h8 g7 f27 h9 g8 f28 h10 g9 f29 h11 g10 f30 h12 g11 f31))) (va_Qi (fun (r : Int32) (r9 : Int32) => r9 = r) (fun (r : Int32) (t : State) => (∃ (o_h0_29 : Int32) (o_h0_30 : Int32) (o_h7 : Nat → Int32) (o_h8 : Nat → Int32) (o_h10 : Nat → Int32) (o_h11 : Nat → Int32) (o_h12 : Nat → Int32), (pm_NW o_h10) ∧ (pm_AS o_h12) ∧ (-1 ≤ r.toInt) ∧ (r.toInt ≤ 99) ∧ va_P (dC, dI) vwCl (wd_cfaca2a5 h0 v0 r0 v1 v2 v3 v4 h1 h2 r1 h3 h4 h5 h6 v5 v6 h7 h8 r2 r3 v7 h9 r4 v8 v9 h10 r5 v10 v11 h11 o_h0_29 o_h0_30 r6 v14 w15 h12 v16 v17 r7 r8 r9 r10 r11 r12 v18 r13 r14 r15 v19 h1 g0 f20 h2 g1 f21 h3 g2 f22 h4 g3 f23 h5 g4 f24 h6 g5 f25 h7 g6 o_h7 h8 g7 o_h8 h9 g8 f28 h10 g9 o_h10 h11 g10 o_h11 h12 g11 o_h12) t.heap ∧ va_K (dC, dI) vwCl [] t ∧ va_D (va_A (wd_cfaca2a5 h0 v0 r0 v1 v2 v3 v4 h1 h2 r1 h3 h4 h5 h6 v5 v6 h7 h8 r2 r3 v7 h9 r4 v8 v9 h10 r5 v10 v11 h11 v12 v13 r6 v14 w15 h12 v16 v17 r7 r8 r9 r10 r11 r12 v18 r13 r14 r15 v19 h1 g0 f20 h2 g1 f21 h3 g2 f22 h4 g3 f23 h5 g4 f24 h6 g5 f25 h7 g6 f26 h8 g7 f27 h9 g8 f28 h10 g9 f29 h11 g10 f30 h12 g11 f31) sz) (wd_cfaca2a5 h0 v0 r0 v1 v2 v3 v4 h1 h2 r1 h3 h4 h5 h6 v5 v6 h7 h8 r2 r3 v7 h9 r4 v8 v9 h10 r5 v10 v11 h11 o_h0_29 o_h0_30 r6 v14 w15 h12 v16 v17 r7 r8 r9 r10 r11 r12 v18 r13 r14 r15 v19 h1 g0 f20 h2 g1 f21 h3 g2 f22 h4 g3 f23 h5 g4 f24 h6 g5 f25 h7 g6 o_h7 h8 g7 o_h8 h9 g8 f28 h10 g9 o_h10 h11 g10 o_h11 h12 g11 o_h12))) (va_A (wd_cfaca2a5 h0 v0 r0 v1 v2 v3 v4 h1 h2 r1 h3 h4 h5 h6 v5 v6 h7 h8 r2 r3 v7 h9 r4 v8 v9 h10 r5 v10 v11 h11 v12 v13 r6 v14 w15 h12 v16 v17 r7 r8 r9 r10 r11 r12 v18 r13 r14 r15 v19 h1 g0 f20 h2 g1 f21 h3 g2 f22 h4 g3 f23 h5 g4 f24 h6 g5 f25 h7 g6 f26 h8 g7 f27 h9 g8 f28 h10 g9 f29 h11 g10 f30 h12 g11 f31) sz)) 0 0 (va_A (wd_cfaca2a5 h0 v0 r0 v1 v2 v3 v4 h1 h2 r1 h3 h4 h5 h6 v5 v6 h7 h8 r2 r3 v7 h9 r4 v8 v9 h10 r5 v10 v11 h11 v12 v13 r6 v14 w15 h12 v16 v17 r7 r8 r9 r10 r11 r12 v18 r13 r14 r15 v19 h1 g0 f20 h2 g1 f21 h3 g2 f22 h4 g3 f23 h5 g4 f24 h6 g5 f25 h7 g6 f26 h8 g7 f27 h9 g8 f28 h10 g9 f29 h11 g10 f30 h12 g11 f31) sz) := by
  refine Met.ofW (cc := cX12_ends) (maxL := 2) (ret := (some .int)) (by decide) rfl ?_
  intro p e s m args below meth c s₁ B hml hv
  obtain ⟨i_v1a, i_v1b⟩ := i_v1
  obtain ⟨i_v5a, i_v5b⟩ := i_v5
  obtain ⟨i_v6a, i_v6b⟩ := i_v6
  obtain ⟨i_v7a, i_v7b⟩ := i_v7
  obtain ⟨i_v8a, i_v8b⟩ := i_v8
  obtain ⟨i_v9a, i_v9b⟩ := i_v9
  obtain ⟨i_v10a, i_v10b⟩ := i_v10
  obtain ⟨i_v14a, i_v14b⟩ := i_v14
  obtain ⟨i_v18a, i_v18b⟩ := i_v18
  obtain ⟨i_v19a, i_v19b⟩ := i_v19
  obtain ⟨rfl, hsz, hP, hK, hD0⟩ := hv
  have hx := B.exec
  have hb := B.bytes
  have hr := B.returns
  have hts := atoms_spec (ws := q_X12_ends) B.pre
  have hown : s.vm.findClass RX12 = some m.cls := findClass_of_methodNamed B.named
  have hlocks := B.notSynchronized
  subst hsz
  have hD := hD0.self (sz := s.heap.size)
  generalize hAe : va_A (wd_cfaca2a5 h0 v0 r0 v1 v2 v3 v4 h1 h2 r1 h3 h4 h5 h6 v5 v6 h7 h8 r2 r3 v7 h9 r4 v8 v9 h10 r5 v10 v11 h11 v12 v13 r6 v14 w15 h12 v16 v17 r7 r8 r9 r10 r11 r12 v18 r13 r14 r15 v19 h1 g0 f20 h2 g1 f21 h3 g2 f22 h4 g3 f23 h5 g4 f24 h6 g5 f25 h7 g6 f26 h8 g7 f27 h9 g8 f28 h10 g9 f29 h11 g10 f30 h12 g11 f31) s.heap.size = A at hD ⊢
  have hA : ∀ q : Nat, s.heap.size ≤ q → A q := fun q h => by rw [← hAe]; exact Or.inr h
  have hS : va_S A s.heap s.heap [] := va_S.rf
  generalize hQ : (MQ below _ _ s 0 0 A) = Q
  have hl := lv_entry ([.ref h0, .int v32]) (n := 2) (Nat.le_of_ble_eq_true rfl)
  rw [lg_entry_eq]
  generalize (lg_sl ([.ref h0, .int v32]) ++ List.replicate (2 - (lg_sl ([.ref h0, .int v32])).length) Slot.unset).toArray = ls at hl ⊢
  have hl : lv_has ls 2 [(0, .ref h0), (1, .int v32)] := hl
  obtain ⟨H, hH⟩ : ∃ H : Heap, H = s.heap := ⟨_, rfl⟩
  obtain ⟨locs, hlocs⟩ : ∃ y : List Loc, y = [] := ⟨_, rfl⟩
  have hS : va_S A s.heap H locs := by rw [hH, hlocs]; exact va_S.rf
  have hP : va_P (dC, dI) vwCl (wd_cfaca2a5 h0 v0 r0 v1 v2 v3 v4 h1 h2 r1 h3 h4 h5 h6 v5 v6 h7 h8 r2 r3 v7 h9 r4 v8 v9 h10 r5 v10 v11 h11 v12 v13 r6 v14 w15 h12 v16 v17 r7 r8 r9 r10 r11 r12 v18 r13 r14 r15 v19 h1 g0 f20 h2 g1 f21 h3 g2 f22 h4 g3 f23 h5 g4 f24 h6 g5 f25 h7 g6 f26 h8 g7 f27 h9 g8 f28 h10 g9 f29 h11 g10 f30 h12 g11 f31) H := by rw [hH]; exact hP
  rw [← hH, ← hlocs]
  refine lv_aload_n hx hb dX12_ends_0 rfl (lv_at hl 0 rfl) ?_
  refine lv_iload_n hx hb dX12_ends_1 rfl (lv_at hl 1 rfl) ?_
  have hPc := hP.sub (ws' := (wd_5013416a h0 v0 r0 v1 v2 v3 v4 h1 h2 r1 h3 h4 h5 h6 v5 v6 h7 h8 r2 r3 v7 h9 r4 v8 v9 h10 r5 v10 v11 h11 v12 v13 r6 v14 w15 h12 v16 v17 r7 r8 r9 r10 r11 r12 v18 r13 r14 r15 v19 h10 g9 f29)) [0, 10] rfl
  have hDc := hD.sub (ws' := (wd_5013416a h0 v0 r0 v1 v2 v3 v4 h1 h2 r1 h3 h4 h5 h6 v5 v6 h7 h8 r2 r3 v7 h9 r4 v8 v9 h10 r5 v10 v11 h11 v12 v13 r6 v14 w15 h12 v16 v17 r7 r8 r9 r10 r11 r12 v18 r13 r14 r15 v19 h10 g9 f29)) [0, 10] (by decide) rfl
  have hKc := hK.sub (tys' := [(g9, .int)]) [9] rfl
  have hFc := va_free (wc := (wd_5013416a h0 v0 r0 v1 v2 v3 v4 h1 h2 r1 h3 h4 h5 h6 v5 v6 h7 h8 r2 r3 v7 h9 r4 v8 v9 h10 r5 v10 v11 h11 v12 v13 r6 v14 w15 h12 v16 v17 r7 r8 r9 r10 r11 r12 v18 r13 r14 r15 v19 h10 g9 f29)) hD hS hA [0, 10] rfl
  refine va_calli (va_runV (As := [.int v32]) (rest := []) ⟨hx, hb, hml, hown, hts⟩ (k_X12_isThere l dC dI h0 h10 v0 r0 v1 v2 v3 v4 h1 h2 r1 h3 h4 h5 h6 v5 v6 h7 h8 r2 r3 v7 h9 r4 v8 v9 r5 v10 v11 h11 v12 v13 r6 v14 w15 h12 v16 v17 r7 r8 r9 r10 r11 r12 v18 r13 r14 r15 v19 g9 f29 v32 ⟨i_v1a, i_v1b⟩ ⟨i_v5a, i_v5b⟩ ⟨i_v6a, i_v6b⟩ ⟨i_v7a, i_v7b⟩ ⟨i_v8a, i_v8b⟩ ⟨i_v9a, i_v9b⟩ ⟨i_v10a, i_v10b⟩ ⟨i_v14a, i_v14b⟩ ⟨i_v18a, i_v18b⟩ ⟨i_v19a, i_v19b⟩ ia_f29.1 H.size) (cwV 1 hts g_X12_ends_0 rfl rfl rfl (by decide +kernel) ⟨Nat.le_of_ble_eq_true rfl, Nat.le_of_ble_eq_true rfl⟩) (pv_PV12 hPc hKc hDc (q0 := 0) rfl) rfl rfl hl.1 rfl (lv_room (Nat.le_of_ble_eq_true rfl)) dX12_ends_2 ⟨Nat.le_of_ble_eq_true rfl, Nat.le_of_ble_eq_true rfl⟩) hS (fun q _ h => hFc q h) hFc (fun ra1 u t H1 locs ht hvm hwra1 hB hz1 hk1 hS => ?_)
  try rw [hwra1] at hB
  obtain ⟨pt0_ra1, pt1_ra1, pt2_ra1, pt3_ra1, pt4_ra1, pt5_ra1, hP1, hK1, hD1⟩ := hB
  rw [ht] at hP1
  obtain ⟨hP2, hD2⟩ := va_join (wr := (wd_e8ff9da7 h1 g0 f20 h2 g1 f21 h3 g2 f22 h4 g3 f23 h5 g4 f24 h6 g5 f25 h7 g6 f26 h8 g7 f27 h9 g8 f28 h11 g10 f30 h12 g11 f31)) (w1 := (wd_5013416a h0 v0 r0 v1 v2 v3 v4 h1 h2 r1 h3 h4 h5 h6 v5 v6 h7 h8 r2 r3 v7 h9 r4 v8 v9 h10 r5 v10 v11 h11 v12 v13 r6 v14 w15 h12 v16 v17 r7 r8 r9 r10 r11 r12 v18 r13 r14 r15 v19 h10 g9 f29)) hP hD [0, 10] [1, 2, 3, 4, 5, 6, 7, 8, 9, 11, 12] rfl rfl (by decide +kernel) (by decide +kernel) hk1 hFc hP1 hD1
  clear hP hD hPc hDc hKc hFc hP1 hK1 hD1 hk1 hz1
  generalize H1 = H at hP2 hS ⊢
  have hP := hP2.sub (ws' := (wd_cfaca2a5 h0 v0 r0 v1 v2 v3 v4 h1 h2 r1 h3 h4 h5 h6 v5 v6 h7 h8 r2 r3 v7 h9 r4 v8 v9 h10 r5 v10 v11 h11 v12 v13 r6 v14 w15 h12 v16 v17 r7 r8 r9 r10 r11 r12 v18 r13 r14 r15 v19 h1 g0 f20 h2 g1 f21 h3 g2 f22 h4 g3 f23 h5 g4 f24 h6 g5 f25 h7 g6 f26 h8 g7 f27 h9 g8 f28 h10 g9 f29 h11 g10 f30 h12 g11 f31)) [11, 0, 1, 2, 3, 4, 5, 6, 7, 8, 12, 9, 10] rfl
  have hD := hD2.sub (ws' := (wd_cfaca2a5 h0 v0 r0 v1 v2 v3 v4 h1 h2 r1 h3 h4 h5 h6 v5 v6 h7 h8 r2 r3 v7 h9 r4 v8 v9 h10 r5 v10 v11 h11 v12 v13 r6 v14 w15 h12 v16 v17 r7 r8 r9 r10 r11 r12 v18 r13 r14 r15 v19 h1 g0 f20 h2 g1 f21 h3 g2 f22 h4 g3 f23 h5 g4 f24 h6 g5 f25 h7 g6 f26 h8 g7 f27 h9 g8 f28 h10 g9 f29 h11 g10 f30 h12 g11 f31)) [11, 0, 1, 2, 3, 4, 5, 6, 7, 8, 12, 9, 10] (by decide +kernel) rfl
  clear hP2 hD2
  have hJ10 : ∀ (x2 : Int32) (x3 : Int32) (x4 : Int32) (fn5 : Nat → Int32) (fn6 : Nat → Int32) (fn7 : Nat → Int32) (fn8 : Nat → Int32) (fn9 : Nat → Int32) (H : Heap) (locs : List Loc) (ls : Array Slot), -1 ≤ x2.toInt → x2.toInt ≤ 99 → (pm_NW fn7) → (pm_AS fn9) → va_P (dC, dI) vwCl (wd_cfaca2a5 h0 v0 r0 v1 v2 v3 v4 h1 h2 r1 h3 h4 h5 h6 v5 v6 h7 h8 r2 r3 v7 h9 r4 v8 v9 h10 r5 v10 v11 h11 x3 x4 r6 v14 w15 h12 v16 v17 r7 r8 r9 r10 r11 r12 v18 r13 r14 r15 v19 h1 g0 f20 h2 g1 f21 h3 g2 f22 h4 g3 f23 h5 g4 f24 h6 g5 f25 h7 g6 fn5 h8 g7 fn6 h9 g8 f28 h10 g9 fn7 h11 g10 fn8 h12 g11 fn9) H → va_D A (wd_cfaca2a5 h0 v0 r0 v1 v2 v3 v4 h1 h2 r1 h3 h4 h5 h6 v5 v6 h7 h8 r2 r3 v7 h9 r4 v8 v9 h10 r5 v10 v11 h11 x3 x4 r6 v14 w15 h12 v16 v17 r7 r8 r9 r10 r11 r12 v18 r13 r14 r15 v19 h1 g0 f20 h2 g1 f21 h3 g2 f22 h4 g3 f23 h5 g4 f24 h6 g5 f25 h7 g6 fn5 h8 g7 fn6 h9 g8 f28 h10 g9 fn7 h11 g10 fn8 h12 g11 fn9) → va_S A s.heap H locs → lv_has ls 2 [(0, .ref h0), (1, .int v32)] → W p l e ({ frames := 9, cells := 0, slots := 0, locals := 198 }) s m ([.ref h0, .int v32] : List Value).toArray below meth c H locs 0 0 Q (F0 m 18 ls [.int x2]) := by
    intro x2 x3 x4 fn5 fn6 fn7 fn8 fn9 H locs ls qa_x2 qb_x2 ia_fn7 ia_fn9 hP hD hS hl
    subst hQ
    have hP9 := hP.sub (ws' := (wd_cfaca2a5 h0 v0 r0 v1 v2 v3 v4 h1 h2 r1 h3 h4 h5 h6 v5 v6 h7 h8 r2 r3 v7 h9 r4 v8 v9 h10 r5 v10 v11 h11 x3 x4 r6 v14 w15 h12 v16 v17 r7 r8 r9 r10 r11 r12 v18 r13 r14 r15 v19 h1 g0 f20 h2 g1 f21 h3 g2 f22 h4 g3 f23 h5 g4 f24 h6 g5 f25 h7 g6 fn5 h8 g7 fn6 h9 g8 f28 h10 g9 fn7 h11 g10 fn8 h12 g11 fn9)) [0, 1, 2, 3, 4, 5, 6, 7, 8, 9, 10, 11, 12] rfl
    have hD9 := hD.sub (ws' := (wd_cfaca2a5 h0 v0 r0 v1 v2 v3 v4 h1 h2 r1 h3 h4 h5 h6 v5 v6 h7 h8 r2 r3 v7 h9 r4 v8 v9 h10 r5 v10 v11 h11 x3 x4 r6 v14 w15 h12 v16 v17 r7 r8 r9 r10 r11 r12 v18 r13 r14 r15 v19 h1 g0 f20 h2 g1 f21 h3 g2 f22 h4 g3 f23 h5 g4 f24 h6 g5 f25 h7 g6 fn5 h8 g7 fn6 h9 g8 f28 h10 g9 fn7 h11 g10 fn8 h12 g11 fn9)) [0, 1, 2, 3, 4, 5, 6, 7, 8, 9, 10, 11, 12] (by decide +kernel) rfl
    have hK9 := hK.sub (tys' := []) [] rfl
    exact W.iret (v := x2) hx hb hr (fun t ht hW => ⟨⟨x2, x2, rfl, rfl, ⟨x3, x4, fn5, fn6, fn7, fn8, fn9, ia_fn7, ia_fn9, by first | omega | decide, by first | omega | decide, by rw [ht]; exact hP9, va_K.moved hW.alike hK9, hD9⟩⟩, hS.F ht⟩) hS.2.2 dX12_ends_18
  refine lv_if_eq (tgt := 17) hx hb dX12_ends_5 (by decide) (fun c11 => ?_) (fun c11 => ?_)
  · skip
    have fc11 : ra1.toInt = 0 := congrArg Int32.toInt c11
    refine lv_iconst (v := (-1)) hx hb dX12_ends_17 (by decide) ?_
    exact hJ10 ((-1)) v12 v13 f26 f27 f29 f30 f31 H locs ls (by decide) (by decide) ia_f29 ia_f31 hP hD hS (lv_sub hl [0, 1] rfl)
  · skip
    have fc11 : ¬ (ra1.toInt = 0) := fun h9 => c11 (Int32.toInt_inj.mp h9)
    have q1pt4_ra1 := pt4_ra1 (by omega)
    refine lv_aload_n hx hb dX12_ends_8 rfl (lv_at hl 0 rfl) ?_
    refine lv_iload_n hx hb dX12_ends_9 rfl (lv_at hl 1 rfl) ?_
    refine lv_iconst (v := 1) hx hb dX12_ends_10 (by decide) ?_
    have hPc := hP.sub (ws' := (wd_cfaca2a5 h0 v0 r0 v1 v2 v3 v4 h1 h2 r1 h3 h4 h5 h6 v5 v6 h7 h8 r2 r3 v7 h9 r4 v8 v9 h10 r5 v10 v11 h11 v12 v13 r6 v14 w15 h12 v16 v17 r7 r8 r9 r10 r11 r12 v18 r13 r14 r15 v19 h1 g0 f20 h2 g1 f21 h3 g2 f22 h4 g3 f23 h5 g4 f24 h6 g5 f25 h7 g6 f26 h8 g7 f27 h9 g8 f28 h10 g9 f29 h11 g10 f30 h12 g11 f31)) [0, 1, 2, 3, 4, 5, 6, 7, 8, 9, 10, 11, 12] rfl
    have hDc := hD.sub (ws' := (wd_cfaca2a5 h0 v0 r0 v1 v2 v3 v4 h1 h2 r1 h3 h4 h5 h6 v5 v6 h7 h8 r2 r3 v7 h9 r4 v8 v9 h10 r5 v10 v11 h11 v12 v13 r6 v14 w15 h12 v16 v17 r7 r8 r9 r10 r11 r12 v18 r13 r14 r15 v19 h1 g0 f20 h2 g1 f21 h3 g2 f22 h4 g3 f23 h5 g4 f24 h6 g5 f25 h7 g6 f26 h8 g7 f27 h9 g8 f28 h10 g9 f29 h11 g10 f30 h12 g11 f31)) [0, 1, 2, 3, 4, 5, 6, 7, 8, 9, 10, 11, 12] (by decide +kernel) rfl
    have hKc := hK.sub (tys' := [(g0, .int), (g1, .int), (g2, .int), (g3, .int), (g4, .int), (g5, .int), (g6, .int), (g7, .int), (g8, .int), (g9, .int), (g10, .int), (g11, .int)]) [0, 1, 2, 3, 4, 5, 6, 7, 8, 9, 10, 11] rfl
    have hFc := va_free (wc := (wd_cfaca2a5 h0 v0 r0 v1 v2 v3 v4 h1 h2 r1 h3 h4 h5 h6 v5 v6 h7 h8 r2 r3 v7 h9 r4 v8 v9 h10 r5 v10 v11 h11 v12 v13 r6 v14 w15 h12 v16 v17 r7 r8 r9 r10 r11 r12 v18 r13 r14 r15 v19 h1 g0 f20 h2 g1 f21 h3 g2 f22 h4 g3 f23 h5 g4 f24 h6 g5 f25 h7 g6 f26 h8 g7 f27 h9 g8 f28 h10 g9 f29 h11 g10 f30 h12 g11 f31)) hD hS hA [0, 1, 2, 3, 4, 5, 6, 7, 8, 9, 10, 11, 12] rfl
    refine va_calli (va_runV (As := [.int v32, .int 1]) (rest := []) ⟨hx, hb, hml, hown, hts⟩ (k_X12_daysTo l dC dI h0 h1 h2 h3 h4 h5 h6 h7 h8 h9 h10 h11 h12 v0 r0 v1 v2 v3 v4 r1 v5 v6 r2 r3 v7 r4 v8 v9 r5 v10 v11 v12 v13 r6 v14 w15 v16 v17 r7 r8 r9 r10 r11 r12 v18 r13 r14 r15 v19 g0 f20 g1 f21 g2 f22 g3 f23 g4 f24 g5 f25 g6 f26 g7 f27 g8 f28 g9 f29 g10 f30 g11 f31 v32 1 ⟨i_v1a, i_v1b⟩ ⟨i_v5a, i_v5b⟩ ⟨i_v6a, i_v6b⟩ ⟨i_v7a, i_v7b⟩ ⟨i_v8a, i_v8b⟩ ⟨i_v9a, i_v9b⟩ ⟨i_v10a, i_v10b⟩ ⟨i_v14a, i_v14b⟩ ⟨i_v18a, i_v18b⟩ ⟨i_v19a, i_v19b⟩ ⟨by first | omega | decide, by first | omega | decide⟩ ⟨by decide, by decide⟩ ia_f28 ia_f29 ia_f31 pp0 H.size) (cwV 2 hts g_X12_ends_1 rfl rfl rfl (by decide +kernel) ⟨Nat.le_of_ble_eq_true rfl, Nat.le_of_ble_eq_true rfl⟩) (pv_PV12 hPc hKc hDc (q0 := 0) rfl) rfl rfl hl.1 rfl (lv_room (Nat.le_of_ble_eq_true rfl)) dX12_ends_11 ⟨Nat.le_of_ble_eq_true rfl, Nat.le_of_ble_eq_true rfl⟩) hS (fun q _ h => hFc q h) hFc (fun ra12 u t H1 locs ht hvm hwra12 hB hz1 hk1 hS => ?_)
    try rw [hwra12] at hB
    have hkra12_0 : ((1 : Int32)).toInt = 1 := by decide
    obtain ⟨x13, x14, fn15, fn16, fn17, fn18, fn19, ia_fn17, ia_fn19, pt0_ra12, pt1_ra12, hP1, hK1, hD1⟩ := hB
    rw [ht] at hP1
    obtain ⟨hP2, hD2⟩ := va_join (wr := []) (w1 := (wd_cfaca2a5 h0 v0 r0 v1 v2 v3 v4 h1 h2 r1 h3 h4 h5 h6 v5 v6 h7 h8 r2 r3 v7 h9 r4 v8 v9 h10 r5 v10 v11 h11 x13 x14 r6 v14 w15 h12 v16 v17 r7 r8 r9 r10 r11 r12 v18 r13 r14 r15 v19 h1 g0 f20 h2 g1 f21 h3 g2 f22 h4 g3 f23 h5 g4 f24 h6 g5 f25 h7 g6 fn15 h8 g7 fn16 h9 g8 f28 h10 g9 fn17 h11 g10 fn18 h12 g11 fn19)) hP hD [0, 1, 2, 3, 4, 5, 6, 7, 8, 9, 10, 11, 12] [] rfl rfl (by decide +kernel) (by decide +kernel) hk1 hFc hP1 hD1
    clear hP hD hPc hDc hKc hFc hP1 hK1 hD1 hk1 hz1
    generalize H1 = H at hP2 hS ⊢
    have hP : va_P (dC, dI) vwCl (wd_cfaca2a5 h0 v0 r0 v1 v2 v3 v4 h1 h2 r1 h3 h4 h5 h6 v5 v6 h7 h8 r2 r3 v7 h9 r4 v8 v9 h10 r5 v10 v11 h11 x13 x14 r6 v14 w15 h12 v16 v17 r7 r8 r9 r10 r11 r12 v18 r13 r14 r15 v19 h1 g0 f20 h2 g1 f21 h3 g2 f22 h4 g3 f23 h5 g4 f24 h6 g5 f25 h7 g6 fn15 h8 g7 fn16 h9 g8 f28 h10 g9 fn17 h11 g10 fn18 h12 g11 fn19) H := hP2
    have hD : va_D A (wd_cfaca2a5 h0 v0 r0 v1 v2 v3 v4 h1 h2 r1 h3 h4 h5 h6 v5 v6 h7 h8 r2 r3 v7 h9 r4 v8 v9 h10 r5 v10 v11 h11 x13 x14 r6 v14 w15 h12 v16 v17 r7 r8 r9 r10 r11 r12 v18 r13 r14 r15 v19 h1 g0 f20 h2 g1 f21 h3 g2 f22 h4 g3 f23 h5 g4 f24 h6 g5 f25 h7 g6 fn15 h8 g7 fn16 h9 g8 f28 h10 g9 fn17 h11 g10 fn18 h12 g11 fn19) := hD2
    clear hP2 hD2
    refine lv_goto (tgt := 18) hx hb dX12_ends_14 (by decide) ?_
    exact hJ10 ra12 x13 x14 fn15 fn16 fn17 fn18 fn19 H locs ls (by first | omega | decide) (by first | omega | decide) ia_fn17 ia_fn19 hP hD hS (lv_sub hl [0, 1] rfl)
def q_X12_falls : List Cond := .code yX12_falls cX12_falls 2 (some .int) :: (([.code yX12_isThere cX12_isThere 2 (some .boolean), .code yX12_in cX12_in 3 (some .boolean), .initialized RX12, .static yX12_in, .methodLink RX12 217 yX12_in, .code yX12_of cX12_of 3 (some .int), .fieldLink RX12 52 "LeftArgumentsModel" "now" "[I", .instanceMethod yX12_of, .selects RX12 yX12_of yX12_of, .methodLink RX12 287 yX12_of, .instanceMethod yX12_isThere, .selects RX12 yX12_isThere yX12_isThere, .methodLink RX12 290 yX12_isThere, .code yX12_daysTo cX12_daysTo 5 (some .int), .code yX12_putAside cX12_putAside 3 none, .fieldLink RX12 71 "LeftArgumentsModel" "aside" "[I", .instanceMethod yX12_putAside, .selects RX12 yX12_putAside yX12_putAside, .methodLink RX12 375 yX12_putAside, .code yX12_takeBack cX12_takeBack 3 none, .instanceMethod yX12_takeBack, .selects RX12 yX12_takeBack yX12_takeBack, .methodLink RX12 381 yX12_takeBack, .code yX12_live cX12_live 2 none, .code yX12_growAll cX12_growAll 2 none, .fieldLink RX12 65 "LeftArgumentsModel" "grows" "[I", .methodLink RX12 299 Lib.Math.min.name, .static Lib.Math.min.name, .initialized "java/lang/Math", .code Lib.Math.min.name Lib.Math.min.code 2 (some .int), .methodLink RX12 301 Lib.Math.max.name, .static Lib.Math.max.name, .code Lib.Math.max.name Lib.Math.max.code 2 (some .int), .code yX12_set cX12_set 4 none, .instanceMethod yX12_set, .selects RX12 yX12_set yX12_set, .methodLink RX12 258 yX12_set, .code yX12_growthOf cX12_growthOf 4 (some .int), .code yX12_withOf cX12_withOf 4 (some .int), .instanceMethod yX12_withOf, .selects RX12 yX12_withOf yX12_withOf, .methodLink RX12 293 yX12_withOf, .fieldLink RX12 58 "LeftArgumentsModel" "holding" "I", .fieldLink RX12 34 "LeftArgumentsModel" "letters" "[I", .code yX12_worthOf cX12_worthOf 3 (some .int), .fieldLink RX12 22 "LeftArgumentsModel" "clauses" "[I", .fieldLink RX12 25 "LeftArgumentsModel" "testFrom" "[I", .fieldLink RX12 28 "LeftArgumentsModel" "sumFrom" "[I", .fieldLink RX12 31 "LeftArgumentsModel" "sumTo" "[I", .code yX12_workOut cX12_workOut 6 (some .int), .fieldLink RX12 37 "LeftArgumentsModel" "stack" "[I", .fieldLink RX12 13 "LeftArgumentsModel" "code" "[I", .fieldLink RX12 16 "LeftArgumentsModel" "value" "[I", .code yX12_worked cX12_worked 5 (some .int), .code yX12_bounded cX12_bounded 2 (some .int), .constantLong RX12 192 (-1000000), .constantLong RX12 194 (1000000), .methodLink RX12 196 Lib.MathLoose.min_long.x, .static Lib.MathLoose.min_long.x, .code Lib.MathLoose.min_long.x Lib.MathLoose.min_long.code 4 (some .long), .methodLink RX12 202 Lib.MathLoose.max_long.x, .static Lib.MathLoose.max_long.x, .code Lib.MathLoose.max_long.x Lib.MathLoose.max_long.code 4 (some .long), .static yX12_bounded, .methodLink RX12 205 yX12_bounded, .static yX12_worked, .methodLink RX12 209 yX12_worked, .instanceMethod yX12_workOut, .selects RX12 yX12_workOut yX12_workOut, .methodLink RX12 213 yX12_workOut, .instanceMethod yX12_worthOf, .selects RX12 yX12_worthOf yX12_worthOf, .methodLink RX12 296 yX12_worthOf, .instanceMethod yX12_growthOf, .selects RX12 yX12_growthOf yX12_growthOf, .methodLink RX12 303 yX12_growthOf, .instanceMethod yX12_growAll, .selects RX12 yX12_growAll yX12_growAll, .methodLink RX12 318 yX12_growAll, .code yX12_endAll cX12_endAll 2 none, .fieldLink RX12 306 "LeftArgumentsModel" "ended" "I", .instanceMethod yX12_endAll, .selects RX12 yX12_endAll yX12_endAll, .methodLink RX12 321 yX12_endAll, .code yX12_dropAll cX12_dropAll 3 none, .fieldLink RX12 309 "LeftArgumentsModel" "fell" "I", .fieldLink RX12 46 "LeftArgumentsModel" "rule" "[I", .code yX12_loadOf cX12_loadOf 4 (some .int), .instanceMethod yX12_loadOf, .selects RX12 yX12_loadOf yX12_loadOf, .methodLink RX12 312 yX12_loadOf, .code yX12_largestOn cX12_largestOn 4 (some .int), .instanceMethod yX12_largestOn, .selects RX12 yX12_largestOn yX12_largestOn, .methodLink RX12 315 yX12_largestOn, .instanceMethod yX12_dropAll, .selects RX12 yX12_dropAll yX12_dropAll, .methodLink RX12 324 yX12_dropAll, .instanceMethod yX12_live, .selects RX12 yX12_live yX12_live, .methodLink RX12 327 yX12_live, .code yX12_has cX12_has 2 (some .boolean), .static yX12_has, .methodLink RX12 228 yX12_has, .instanceMethod yX12_daysTo, .selects RX12 yX12_daysTo yX12_daysTo, .methodLink RX12 384 yX12_daysTo] : List Cond) ++ wsX120)
set_option maxRecDepth 20000 in
theorem g_X12_falls_0 : GoodIn q_X12_falls (wsV RX12 290 RX12 yX12_isThere q_X12_isThere) := goodIn_app (goodIn_r _ [13, 11, 12, 3] rfl (by decide +kernel)) (goodIn_ca (goodIn_r (.code yX12_isThere cX12_isThere 2 (some .boolean) :: [.code yX12_in cX12_in 3 (some .boolean), .initialized RX12, .static yX12_in, .methodLink RX12 217 yX12_in, .code yX12_of cX12_of 3 (some .int), .fieldLink RX12 52 "LeftArgumentsModel" "now" "[I", .instanceMethod yX12_of, .selects RX12 yX12_of yX12_of, .methodLink RX12 287 yX12_of]) [1, 2, 3, 4, 5, 6, 7, 8, 9, 10] rfl (by decide +kernel)) (goodIn_sub (fun _ h => List.mem_cons_of_mem _ (List.mem_append_right _ h)) gwX12))
set_option maxRecDepth 20000 in
theorem g_X12_falls_1 : GoodIn q_X12_falls (wsV RX12 287 RX12 yX12_of q_X12_of_4) := goodIn_app (goodIn_r _ [10, 8, 9, 3] rfl (by decide +kernel)) (goodIn_ca (goodIn_r (.code yX12_of cX12_of 3 (some .int) :: [.fieldLink RX12 52 "LeftArgumentsModel" "now" "[I"]) [6, 7] rfl (by decide +kernel)) (goodIn_sub (fun _ h => List.mem_cons_of_mem _ (List.mem_append_right _ h)) gwX12))
set_option maxRecDepth 20000 in
theorem g_X12_falls_2 : GoodIn q_X12_falls (wsV RX12 384 RX12 yX12_daysTo q_X12_daysTo) := goodIn_app (goodIn_r _ [107, 105, 106, 3] rfl (by decide +kernel)) (goodIn_ca (goodIn_r (.code yX12_daysTo cX12_daysTo 5 (some .int) :: [.code yX12_putAside cX12_putAside 3 none, .fieldLink RX12 71 "LeftArgumentsModel" "aside" "[I", .fieldLink RX12 52 "LeftArgumentsModel" "now" "[I", .initialized RX12, .instanceMethod yX12_putAside, .selects RX12 yX12_putAside yX12_putAside, .methodLink RX12 375 yX12_putAside, .code yX12_takeBack cX12_takeBack 3 none, .instanceMethod yX12_takeBack, .selects RX12 yX12_takeBack yX12_takeBack, .methodLink RX12 381 yX12_takeBack, .code yX12_live cX12_live 2 none, .code yX12_growAll cX12_growAll 2 none, .code yX12_isThere cX12_isThere 2 (some .boolean), .code yX12_in cX12_in 3 (some .boolean), .static yX12_in, .methodLink RX12 217 yX12_in, .code yX12_of cX12_of 3 (some .int), .instanceMethod yX12_of, .selects RX12 yX12_of yX12_of, .methodLink RX12 287 yX12_of, .instanceMethod yX12_isThere, .selects RX12 yX12_isThere yX12_isThere, .methodLink RX12 290 yX12_isThere, .fieldLink RX12 65 "LeftArgumentsModel" "grows" "[I", .methodLink RX12 299 Lib.Math.min.name, .static Lib.Math.min.name, .initialized "java/lang/Math", .code Lib.Math.min.name Lib.Math.min.code 2 (some .int), .methodLink RX12 301 Lib.Math.max.name, .static Lib.Math.max.name, .code Lib.Math.max.name Lib.Math.max.code 2 (some .int), .code yX12_set cX12_set 4 none, .instanceMethod yX12_set, .selects RX12 yX12_set yX12_set, .methodLink RX12 258 yX12_set, .code yX12_growthOf cX12_growthOf 4 (some .int), .code yX12_withOf cX12_withOf 4 (some .int), .instanceMethod yX12_withOf, .selects RX12 yX12_withOf yX12_withOf, .methodLink RX12 293 yX12_withOf, .fieldLink RX12 58 "LeftArgumentsModel" "holding" "I", .fieldLink RX12 34 "LeftArgumentsModel" "letters" "[I", .code yX12_worthOf cX12_worthOf 3 (some .int), .fieldLink RX12 22 "LeftArgumentsModel" "clauses" "[I", .fieldLink RX12 25 "LeftArgumentsModel" "testFrom" "[I", .fieldLink RX12 28 "LeftArgumentsModel" "sumFrom" "[I", .fieldLink RX12 31 "LeftArgumentsModel" "sumTo" "[I", .code yX12_workOut cX12_workOut 6 (some .int), .fieldLink RX12 37 "LeftArgumentsModel" "stack" "[I", .fieldLink RX12 13 "LeftArgumentsModel" "code" "[I", .fieldLink RX12 16 "LeftArgumentsModel" "value" "[I", .code yX12_worked cX12_worked 5 (some .int), .code yX12_bounded cX12_bounded 2 (some .int), .constantLong RX12 192 (-1000000), .constantLong RX12 194 (1000000), .methodLink RX12 196 Lib.MathLoose.min_long.x, .static Lib.MathLoose.min_long.x, .code Lib.MathLoose.min_long.x Lib.MathLoose.min_long.code 4 (some .long), .methodLink RX12 202 Lib.MathLoose.max_long.x, .static Lib.MathLoose.max_long.x, .code Lib.MathLoose.max_long.x Lib.MathLoose.max_long.code 4 (some .long), .static yX12_bounded, .methodLink RX12 205 yX12_bounded, .static yX12_worked, .methodLink RX12 209 yX12_worked, .instanceMethod yX12_workOut, .selects RX12 yX12_workOut yX12_workOut, .methodLink RX12 213 yX12_workOut, .instanceMethod yX12_worthOf, .selects RX12 yX12_worthOf yX12_worthOf, .methodLink RX12 296 yX12_worthOf, .instanceMethod yX12_growthOf, .selects RX12 yX12_growthOf yX12_growthOf, .methodLink RX12 303 yX12_growthOf, .instanceMethod yX12_growAll, .selects RX12 yX12_growAll yX12_growAll, .methodLink RX12 318 yX12_growAll, .code yX12_endAll cX12_endAll 2 none, .fieldLink RX12 306 "LeftArgumentsModel" "ended" "I", .instanceMethod yX12_endAll, .selects RX12 yX12_endAll yX12_endAll, .methodLink RX12 321 yX12_endAll, .code yX12_dropAll cX12_dropAll 3 none, .fieldLink RX12 309 "LeftArgumentsModel" "fell" "I", .fieldLink RX12 46 "LeftArgumentsModel" "rule" "[I", .code yX12_loadOf cX12_loadOf 4 (some .int), .instanceMethod yX12_loadOf, .selects RX12 yX12_loadOf yX12_loadOf, .methodLink RX12 312 yX12_loadOf, .code yX12_largestOn cX12_largestOn 4 (some .int), .instanceMethod yX12_largestOn, .selects RX12 yX12_largestOn yX12_largestOn, .methodLink RX12 315 yX12_largestOn, .instanceMethod yX12_dropAll, .selects RX12 yX12_dropAll yX12_dropAll, .methodLink RX12 324 yX12_dropAll, .instanceMethod yX12_live, .selects RX12 yX12_live yX12_live, .methodLink RX12 327 yX12_live, .code yX12_has cX12_has 2 (some .boolean), .static yX12_has, .methodLink RX12 228 yX12_has]) [14, 15, 16, 7, 3, 17, 18, 19, 20, 21, 22, 23, 24, 25, 1, 2, 4, 5, 6, 8, 9, 10, 11, 12, 13, 26, 27, 28, 29, 30, 31, 32, 33, 34, 35, 36, 37, 38, 39, 40, 41, 42, 43, 44, 45, 46, 47, 48, 49, 50, 51, 52, 53, 54, 55, 56, 57, 58, 59, 60, 61, 62, 63, 64, 65, 66, 67, 68, 69, 70, 71, 72, 73, 74, 75, 76, 77, 78, 79, 80, 81, 82, 83, 84, 85, 86, 87, 88, 89, 90, 91, 92, 93, 94, 95, 96, 97, 98, 99, 100, 101, 102, 103, 104] rfl (by decide +kernel)) (goodIn_sub (fun _ h => List.mem_cons_of_mem _ (List.mem_append_right _ h)) gwX12))
set_option maxHeartbeats 4000000 in
set_option maxRecDepth 100000 in
theorem k_X12_falls (l : Launch) (dC : Nat → ClassId) (dI : Nat → Nat → Nat) (h0 : Nat) (h1 : Nat) (h2 : Nat) (h3 : Nat) (h4 : Nat) (h5 : Nat) (h6 : Nat) (h7 : Nat) (h8 : Nat) (h9 : Nat) (h10 : Nat) (h11 : Nat) (h12 : Nat) (v0 : Int32) (r0 : Nat) (v1 : Int32) (v2 : Int32) (v3 : Int32) (v4 : Int32) (r1 : Nat) (v5 : Int32) (v6 : Int32) (r2 : Nat) (r3 : Nat) (v7 : Int32) (r4 : Nat) (v8 : Int32) (v9 : Int32) (r5 : Nat) (v10 : Int32) (v11 : Int32) (v12 : Int32) (v13 : Int32) (r6 : Nat) (v14 : Int32) (w15 : Int64) (v16 : Int32) (v17 : Int32) (r7 : Nat) (r8 : Nat) (r9 : Nat) (r10 : Nat) (r11 : Nat) (r12 : Nat) (v18 : Int32) (r13 : Nat) (r14 : Nat) (r15 : Nat) (v19 : Int32) (g0 : ClassId) (f20 : Nat → Int32) (g1 : ClassId) (f21 : Nat → Int32) (g2 : ClassId) (f22 : Nat → Int32) (g3 : ClassId) (f23 : Nat → Int32) (g4 : ClassId) (f24 : Nat → Int32) (g5 : ClassId) (f25 : Nat → Int32) (g6 : ClassId) (f26 : Nat → Int32) (g7 : ClassId) (f27 : Nat → Int32) (g8 : ClassId) (f28 : Nat → Int32) (g9 : ClassId) (f29 : Nat → Int32) (g10 : ClassId) (f30 : Nat → Int32) (g11 : ClassId) (f31 : Nat → Int32) (v32 : Int32) (i_v1 : 0 ≤ v1.toInt ∧ v1.toInt ≤ 240) (i_v5 : 0 ≤ v5.toInt ∧ v5.toInt ≤ 4) (i_v6 : 0 ≤ v6.toInt ∧ v6.toInt ≤ 4) (i_v7 : 0 ≤ v7.toInt ∧ v7.toInt ≤ 8) (i_v8 : 0 ≤ v8.toInt ∧ v8.toInt ≤ 8) (i_v9 : 0 ≤ v9.toInt ∧ v9.toInt ≤ 1) (i_v10 : -1 ≤ v10.toInt ∧ v10.toInt ≤ 3) (i_v14 : 0 ≤ v14.toInt ∧ v14.toInt ≤ 40) (i_v18 : 0 ≤ v18.toInt ∧ v18.toInt ≤ 10) (i_v19 : 0 ≤ v19.toInt ∧ v19.toInt ≤ 1) (ia_f28 : (pm_RU f28)) (ia_f29 : (pm_NW f29)) (ia_f31 : (pm_AS f31)) (pp0 : pm_Held v10 f20 f21 f22 f23 f24 f25) (sz : Nat) : Met l yX12_falls q_X12_falls ({ frames := 9, cells := 0, slots := 0, locals := 198 }) (va_Pc [.ref h0, .int v32] (fun U => U.heap.size = sz ∧ va_P (dC, dI) vwCl (wd_cfaca2a5 h0 v0 r0 v1 v2 v3 v4 h1 h2 r1 h3 h4 h5 h6 v5 v6 h7 h8 r2 r3 v7 h9 r4 v8 v9 h10 r5 v10 v11 h11 v12 v13 r6 v14 w15 h12 v16 v17 r7 r8 r9 r10 r11 r12 v18 r13 r14 r15 v19 h1 g0 f20 h2 g1 f21 h3 g2 f22 h4 g3 f23 h5 g4 f24 h6 g5 f25 h7 g6 f26 h8 g7 f27 h9 g8 f28 h10 g9 f29 h11 g10 f30 h12 g11 f31) U.heap ∧ va_K (dC, dI) vwCl [(g0, .int), (g1, .int), (g2, .int), (g3, .int), (g4, .int), (g5, .int), (g6, .int), (g7, .int), (g8, .int), (g9, .int), (g10, .int), (g11, .int)] U ∧ va_D (fun _ => True) (wd_cfaca2a5 h0 v0 r0 v1 v2 v3 v4 h1 h2 r1 h3 h4 h5 h6 v5 v6 h7 h8 r2 r3 v7 h9 r4 v8 v9 h10 r5 v10 v11 h11 v12 v13 r6 v14 w15 h12 v16 v17 r7 r8 r9 r10 r11 r12 v18 r13 r14 r15 v19 h1 g0 f20 h2 g1 f21 h3 g2 f22 h4 g3 f23 h5 g4 f24 h6 g5 f25 h7 g6 f26 h8 g7 f27 h9 g8 f28 h10 g9 f29 h11 g10 f30 h12 g11 f31))) (va_Qi (fun (r : Int32) (r9 : Int32) => r9 = r) (fun (r : Int32) (t : State) => (∃ (o_h0_29 : Int32) (o_h0_30 : Int32) (o_h7 : Nat → Int32) (o_h8 : Nat → Int32) (o_h10 : Nat → Int32) (o_h11 : Nat → Int32) (o_h12 : Nat → Int32), (pm_NW o_h10) ∧ (pm_AS o_h12) ∧ (-1 ≤ r.toInt) ∧ (r.toInt ≤ 99) ∧ va_P (dC, dI) vwCl (wd_cfaca2a5 h0 v0 r0 v1 v2 v3 v4 h1 h2 r1 h3 h4 h5 h6 v5 v6 h7 h8 r2 r3 v7 h9 r4 v8 v9 h10 r5 v10 v11 h11 o_h0_29 o_h0_30 r6 v14 w15 h12 v16 v17 r7 r8 r9 r10 r11 r12 v18 r13 r14 r15 v19 h1 g0 f20 h2 g1 f21 h3 g2 f22 h4 g3 f23 h5 g4 f24 h6 g5 f25 h7 g6 o_h7 h8 g7 o_h8 h9 g8 f28 h10 g9 o_h10 h11 g10 o_h11 h12 g11 o_h12) t.heap ∧ va_K (dC, dI) vwCl [] t ∧ va_D (va_A (wd_cfaca2a5 h0 v0 r0 v1 v2 v3 v4 h1 h2 r1 h3 h4 h5 h6 v5 v6 h7 h8 r2 r3 v7 h9 r4 v8 v9 h10 r5 v10 v11 h11 v12 v13 r6 v14 w15 h12 v16 v17 r7 r8 r9 r10 r11 r12 v18 r13 r14 r15 v19 h1 g0 f20 h2 g1 f21 h3 g2 f22 h4 g3 f23 h5 g4 f24 h6 g5 f25 h7 g6 f26 h8 g7 f27 h9 g8 f28 h10 g9 f29 h11 g10 f30 h12 g11 f31) sz) (wd_cfaca2a5 h0 v0 r0 v1 v2 v3 v4 h1 h2 r1 h3 h4 h5 h6 v5 v6 h7 h8 r2 r3 v7 h9 r4 v8 v9 h10 r5 v10 v11 h11 o_h0_29 o_h0_30 r6 v14 w15 h12 v16 v17 r7 r8 r9 r10 r11 r12 v18 r13 r14 r15 v19 h1 g0 f20 h2 g1 f21 h3 g2 f22 h4 g3 f23 h5 g4 f24 h6 g5 f25 h7 g6 o_h7 h8 g7 o_h8 h9 g8 f28 h10 g9 o_h10 h11 g10 o_h11 h12 g11 o_h12))) (va_A (wd_cfaca2a5 h0 v0 r0 v1 v2 v3 v4 h1 h2 r1 h3 h4 h5 h6 v5 v6 h7 h8 r2 r3 v7 h9 r4 v8 v9 h10 r5 v10 v11 h11 v12 v13 r6 v14 w15 h12 v16 v17 r7 r8 r9 r10 r11 r12 v18 r13 r14 r15 v19 h1 g0 f20 h2 g1 f21 h3 g2 f22 h4 g3 f23 h5 g4 f24 h6 g5 f25 h7 g6 f26 h8 g7 f27 h9 g8 f28 h10 g9 f29 h11 g10 f30 h12 g11 f31) sz)) 0 0 (va_A (wd_cfaca2a5 h0 v0 r0 v1 v2 v3 v4 h1 h2 r1 h3 h4 h5 h6 v5 v6 h7 h8 r2 r3 v7 h9 r4 v8 v9 h10 r5 v10 v11 h11 v12 v13 r6 v14 w15 h12 v16 v17 r7 r8 r9 r10 r11 r12 v18 r13 r14 r15 v19 h1 g0 f20 h2 g1 f21 h3 g2 f22 h4 g3 f23 h5 g4 f24 h6 g5 f25 h7 g6 f26 h8 g7 f27 h9 g8 f28 h10 g9 f29 h11 g10 f30 h12 g11 f31) sz) := by
  refine Met.ofW (cc := cX12_falls) (maxL := 2) (ret := (some .int)) (by decide) rfl ?_
  intro p e s m args below meth c s₁ B hml hv
  obtain ⟨i_v1a, i_v1b⟩ := i_v1
  obtain ⟨i_v5a, i_v5b⟩ := i_v5
  obtain ⟨i_v6a, i_v6b⟩ := i_v6
  obtain ⟨i_v7a, i_v7b⟩ := i_v7
  obtain ⟨i_v8a, i_v8b⟩ := i_v8
  obtain ⟨i_v9a, i_v9b⟩ := i_v9
  obtain ⟨i_v10a, i_v10b⟩ := i_v10
  obtain ⟨i_v14a, i_v14b⟩ := i_v14
  obtain ⟨i_v18a, i_v18b⟩ := i_v18
  obtain ⟨i_v19a, i_v19b⟩ := i_v19
  obtain ⟨rfl, hsz, hP, hK, hD0⟩ := hv
  have hx := B.exec
  have hb := B.bytes
  have hr := B.returns
  have hts := atoms_spec (ws := q_X12_falls) B.pre
  have hown : s.vm.findClass RX12 = some m.cls := findClass_of_methodNamed B.named
  have hlocks := B.notSynchronized
  subst hsz
  have hD := hD0.self (sz := s.heap.size)
  generalize hAe : va_A (wd_cfaca2a5 h0 v0 r0 v1 v2 v3 v4 h1 h2 r1 h3 h4 h5 h6 v5 v6 h7 h8 r2 r3 v7 h9 r4 v8 v9 h10 r5 v10 v11 h11 v12 v13 r6 v14 w15 h12 v16 v17 r7 r8 r9 r10 r11 r12 v18 r13 r14 r15 v19 h1 g0 f20 h2 g1 f21 h3 g2 f22 h4 g3 f23 h5 g4 f24 h6 g5 f25 h7 g6 f26 h8 g7 f27 h9 g8 f28 h10 g9 f29 h11 g10 f30 h12 g11 f31) s.heap.size = A at hD ⊢
  have hA : ∀ q : Nat, s.heap.size ≤ q → A q := fun q h => by rw [← hAe]; exact Or.inr h
  have hS : va_S A s.heap s.heap [] := va_S.rf
  generalize hQ : (MQ below _ _ s 0 0 A) = Q
  have hl := lv_entry ([.ref h0, .int v32]) (n := 2) (Nat.le_of_ble_eq_true rfl)
  rw [lg_entry_eq]
  generalize (lg_sl ([.ref h0, .int v32]) ++ List.replicate (2 - (lg_sl ([.ref h0, .int v32])).length) Slot.unset).toArray = ls at hl ⊢
  have hl : lv_has ls 2 [(0, .ref h0), (1, .int v32)] := hl
  obtain ⟨H, hH⟩ : ∃ H : Heap, H = s.heap := ⟨_, rfl⟩
  obtain ⟨locs, hlocs⟩ : ∃ y : List Loc, y = [] := ⟨_, rfl⟩
  have hS : va_S A s.heap H locs := by rw [hH, hlocs]; exact va_S.rf
  have hP : va_P (dC, dI) vwCl (wd_cfaca2a5 h0 v0 r0 v1 v2 v3 v4 h1 h2 r1 h3 h4 h5 h6 v5 v6 h7 h8 r2 r3 v7 h9 r4 v8 v9 h10 r5 v10 v11 h11 v12 v13 r6 v14 w15 h12 v16 v17 r7 r8 r9 r10 r11 r12 v18 r13 r14 r15 v19 h1 g0 f20 h2 g1 f21 h3 g2 f22 h4 g3 f23 h5 g4 f24 h6 g5 f25 h7 g6 f26 h8 g7 f27 h9 g8 f28 h10 g9 f29 h11 g10 f30 h12 g11 f31) H := by rw [hH]; exact hP
  rw [← hH, ← hlocs]
  refine lv_aload_n hx hb dX12_falls_0 rfl (lv_at hl 0 rfl) ?_
  refine lv_iload_n hx hb dX12_falls_1 rfl (lv_at hl 1 rfl) ?_
  have hPc := hP.sub (ws' := (wd_5013416a h0 v0 r0 v1 v2 v3 v4 h1 h2 r1 h3 h4 h5 h6 v5 v6 h7 h8 r2 r3 v7 h9 r4 v8 v9 h10 r5 v10 v11 h11 v12 v13 r6 v14 w15 h12 v16 v17 r7 r8 r9 r10 r11 r12 v18 r13 r14 r15 v19 h10 g9 f29)) [0, 10] rfl
  have hDc := hD.sub (ws' := (wd_5013416a h0 v0 r0 v1 v2 v3 v4 h1 h2 r1 h3 h4 h5 h6 v5 v6 h7 h8 r2 r3 v7 h9 r4 v8 v9 h10 r5 v10 v11 h11 v12 v13 r6 v14 w15 h12 v16 v17 r7 r8 r9 r10 r11 r12 v18 r13 r14 r15 v19 h10 g9 f29)) [0, 10] (by decide) rfl
  have hKc := hK.sub (tys' := [(g9, .int)]) [9] rfl
  have hFc := va_free (wc := (wd_5013416a h0 v0 r0 v1 v2 v3 v4 h1 h2 r1 h3 h4 h5 h6 v5 v6 h7 h8 r2 r3 v7 h9 r4 v8 v9 h10 r5 v10 v11 h11 v12 v13 r6 v14 w15 h12 v16 v17 r7 r8 r9 r10 r11 r12 v18 r13 r14 r15 v19 h10 g9 f29)) hD hS hA [0, 10] rfl
  refine va_calli (va_runV (As := [.int v32]) (rest := []) ⟨hx, hb, hml, hown, hts⟩ (k_X12_isThere l dC dI h0 h10 v0 r0 v1 v2 v3 v4 h1 h2 r1 h3 h4 h5 h6 v5 v6 h7 h8 r2 r3 v7 h9 r4 v8 v9 r5 v10 v11 h11 v12 v13 r6 v14 w15 h12 v16 v17 r7 r8 r9 r10 r11 r12 v18 r13 r14 r15 v19 g9 f29 v32 ⟨i_v1a, i_v1b⟩ ⟨i_v5a, i_v5b⟩ ⟨i_v6a, i_v6b⟩ ⟨i_v7a, i_v7b⟩ ⟨i_v8a, i_v8b⟩ ⟨i_v9a, i_v9b⟩ ⟨i_v10a, i_v10b⟩ ⟨i_v14a, i_v14b⟩ ⟨i_v18a, i_v18b⟩ ⟨i_v19a, i_v19b⟩ ia_f29.1 H.size) (cwV 1 hts g_X12_falls_0 rfl rfl rfl (by decide +kernel) ⟨Nat.le_of_ble_eq_true rfl, Nat.le_of_ble_eq_true rfl⟩) (pv_PV12 hPc hKc hDc (q0 := 0) rfl) rfl rfl hl.1 rfl (lv_room (Nat.le_of_ble_eq_true rfl)) dX12_falls_2 ⟨Nat.le_of_ble_eq_true rfl, Nat.le_of_ble_eq_true rfl⟩) hS (fun q _ h => hFc q h) hFc (fun ra1 u t H1 locs ht hvm hwra1 hB hz1 hk1 hS => ?_)
  try rw [hwra1] at hB
  obtain ⟨pt0_ra1, pt1_ra1, pt2_ra1, pt3_ra1, pt4_ra1, pt5_ra1, hP1, hK1, hD1⟩ := hB
  rw [ht] at hP1
  obtain ⟨hP2, hD2⟩ := va_join (wr := (wd_e8ff9da7 h1 g0 f20 h2 g1 f21 h3 g2 f22 h4 g3 f23 h5 g4 f24 h6 g5 f25 h7 g6 f26 h8 g7 f27 h9 g8 f28 h11 g10 f30 h12 g11 f31)) (w1 := (wd_5013416a h0 v0 r0 v1 v2 v3 v4 h1 h2 r1 h3 h4 h5 h6 v5 v6 h7 h8 r2 r3 v7 h9 r4 v8 v9 h10 r5 v10 v11 h11 v12 v13 r6 v14 w15 h12 v16 v17 r7 r8 r9 r10 r11 r12 v18 r13 r14 r15 v19 h10 g9 f29)) hP hD [0, 10] [1, 2, 3, 4, 5, 6, 7, 8, 9, 11, 12] rfl rfl (by decide +kernel) (by decide +kernel) hk1 hFc hP1 hD1
  clear hP hD hPc hDc hKc hFc hP1 hK1 hD1 hk1 hz1
  generalize H1 = H at hP2 hS ⊢
  have hP := hP2.sub (ws' := (wd_cfaca2a5 h0 v0 r0 v1 v2 v3 v4 h1 h2 r1 h3 h4 h5 h6 v5 v6 h7 h8 r2 r3 v7 h9 r4 v8 v9 h10 r5 v10 v11 h11 v12 v13 r6 v14 w15 h12 v16 v17 r7 r8 r9 r10 r11 r12 v18 r13 r14 r15 v19 h1 g0 f20 h2 g1 f21 h3 g2 f22 h4 g3 f23 h5 g4 f24 h6 g5 f25 h7 g6 f26 h8 g7 f27 h9 g8 f28 h10 g9 f29 h11 g10 f30 h12 g11 f31)) [11, 0, 1, 2, 3, 4, 5, 6, 7, 8, 12, 9, 10] rfl
  have hD := hD2.sub (ws' := (wd_cfaca2a5 h0 v0 r0 v1 v2 v3 v4 h1 h2 r1 h3 h4 h5 h6 v5 v6 h7 h8 r2 r3 v7 h9 r4 v8 v9 h10 r5 v10 v11 h11 v12 v13 r6 v14 w15 h12 v16 v17 r7 r8 r9 r10 r11 r12 v18 r13 r14 r15 v19 h1 g0 f20 h2 g1 f21 h3 g2 f22 h4 g3 f23 h5 g4 f24 h6 g5 f25 h7 g6 f26 h8 g7 f27 h9 g8 f28 h10 g9 f29 h11 g10 f30 h12 g11 f31)) [11, 0, 1, 2, 3, 4, 5, 6, 7, 8, 12, 9, 10] (by decide +kernel) rfl
  clear hP2 hD2
  have hJ10 : ∀ (x2 : Int32) (x3 : Int32) (x4 : Int32) (fn5 : Nat → Int32) (fn6 : Nat → Int32) (fn7 : Nat → Int32) (fn8 : Nat → Int32) (fn9 : Nat → Int32) (H : Heap) (locs : List Loc) (ls : Array Slot), -1 ≤ x2.toInt → x2.toInt ≤ 99 → (pm_NW fn7) → (pm_AS fn9) → va_P (dC, dI) vwCl (wd_cfaca2a5 h0 v0 r0 v1 v2 v3 v4 h1 h2 r1 h3 h4 h5 h6 v5 v6 h7 h8 r2 r3 v7 h9 r4 v8 v9 h10 r5 v10 v11 h11 x3 x4 r6 v14 w15 h12 v16 v17 r7 r8 r9 r10 r11 r12 v18 r13 r14 r15 v19 h1 g0 f20 h2 g1 f21 h3 g2 f22 h4 g3 f23 h5 g4 f24 h6 g5 f25 h7 g6 fn5 h8 g7 fn6 h9 g8 f28 h10 g9 fn7 h11 g10 fn8 h12 g11 fn9) H → va_D A (wd_cfaca2a5 h0 v0 r0 v1 v2 v3 v4 h1 h2 r1 h3 h4 h5 h6 v5 v6 h7 h8 r2 r3 v7 h9 r4 v8 v9 h10 r5 v10 v11 h11 x3 x4 r6 v14 w15 h12 v16 v17 r7 r8 r9 r10 r11 r12 v18 r13 r14 r15 v19 h1 g0 f20 h2 g1 f21 h3 g2 f22 h4 g3 f23 h5 g4 f24 h6 g5 f25 h7 g6 fn5 h8 g7 fn6 h9 g8 f28 h10 g9 fn7 h11 g10 fn8 h12 g11 fn9) → va_S A s.heap H locs → lv_has ls 2 [(0, .ref h0), (1, .int v32)] → W p l e ({ frames := 9, cells := 0, slots := 0, locals := 198 }) s m ([.ref h0, .int v32] : List Value).toArray below meth c H locs 0 0 Q (F0 m 29 ls [.int x2]) := by
    intro x2 x3 x4 fn5 fn6 fn7 fn8 fn9 H locs ls qa_x2 qb_x2 ia_fn7 ia_fn9 hP hD hS hl
    subst hQ
    have hP9 := hP.sub (ws' := (wd_cfaca2a5 h0 v0 r0 v1 v2 v3 v4 h1 h2 r1 h3 h4 h5 h6 v5 v6 h7 h8 r2 r3 v7 h9 r4 v8 v9 h10 r5 v10 v11 h11 x3 x4 r6 v14 w15 h12 v16 v17 r7 r8 r9 r10 r11 r12 v18 r13 r14 r15 v19 h1 g0 f20 h2 g1 f21 h3 g2 f22 h4 g3 f23 h5 g4 f24 h6 g5 f25 h7 g6 fn5 h8 g7 fn6 h9 g8 f28 h10 g9 fn7 h11 g10 fn8 h12 g11 fn9)) [0, 1, 2, 3, 4, 5, 6, 7, 8, 9, 10, 11, 12] rfl
    have hD9 := hD.sub (ws' := (wd_cfaca2a5 h0 v0 r0 v1 v2 v3 v4 h1 h2 r1 h3 h4 h5 h6 v5 v6 h7 h8 r2 r3 v7 h9 r4 v8 v9 h10 r5 v10 v11 h11 x3 x4 r6 v14 w15 h12 v16 v17 r7 r8 r9 r10 r11 r12 v18 r13 r14 r15 v19 h1 g0 f20 h2 g1 f21 h3 g2 f22 h4 g3 f23 h5 g4 f24 h6 g5 f25 h7 g6 fn5 h8 g7 fn6 h9 g8 f28 h10 g9 fn7 h11 g10 fn8 h12 g11 fn9)) [0, 1, 2, 3, 4, 5, 6, 7, 8, 9, 10, 11, 12] (by decide +kernel) rfl
    have hK9 := hK.sub (tys' := []) [] rfl
    exact W.iret (v := x2) hx hb hr (fun t ht hW => ⟨⟨x2, x2, rfl, rfl, ⟨x3, x4, fn5, fn6, fn7, fn8, fn9, ia_fn7, ia_fn9, by first | omega | decide, by first | omega | decide, by rw [ht]; exact hP9, va_K.moved hW.alike hK9, hD9⟩⟩, hS.F ht⟩) hS.2.2 dX12_falls_29
  refine lv_if_eq (tgt := 28) hx hb dX12_falls_5 (by decide) (fun c11 => ?_) (fun c11 => ?_)
  · skip
    have fc11 : ra1.toInt = 0 := congrArg Int32.toInt c11
    refine lv_iconst (v := (-1)) hx hb dX12_falls_28 (by decide) ?_
    exact hJ10 ((-1)) v12 v13 f26 f27 f29 f30 f31 H locs ls (by decide) (by decide) ia_f29 ia_f31 hP hD hS (lv_sub hl [0, 1] rfl)
  · skip
    have fc11 : ¬ (ra1.toInt = 0) := fun h9 => c11 (Int32.toInt_inj.mp h9)
    have q1pt4_ra1 := pt4_ra1 (by omega)
    refine lv_aload_n hx hb dX12_falls_8 rfl (lv_at hl 0 rfl) ?_
    refine lv_iload_n hx hb dX12_falls_9 rfl (lv_at hl 1 rfl) ?_
    refine lv_iconst (v := 3) hx hb dX12_falls_10 (by decide) ?_
    have hPc := hP.sub (ws' := (wd_5013416a h0 v0 r0 v1 v2 v3 v4 h1 h2 r1 h3 h4 h5 h6 v5 v6 h7 h8 r2 r3 v7 h9 r4 v8 v9 h10 r5 v10 v11 h11 v12 v13 r6 v14 w15 h12 v16 v17 r7 r8 r9 r10 r11 r12 v18 r13 r14 r15 v19 h10 g9 f29)) [0, 10] rfl
    have hDc := hD.sub (ws' := (wd_5013416a h0 v0 r0 v1 v2 v3 v4 h1 h2 r1 h3 h4 h5 h6 v5 v6 h7 h8 r2 r3 v7 h9 r4 v8 v9 h10 r5 v10 v11 h11 v12 v13 r6 v14 w15 h12 v16 v17 r7 r8 r9 r10 r11 r12 v18 r13 r14 r15 v19 h10 g9 f29)) [0, 10] (by decide) rfl
    have hKc := hK.sub (tys' := [(g9, .int)]) [9] rfl
    have hFc := va_free (wc := (wd_5013416a h0 v0 r0 v1 v2 v3 v4 h1 h2 r1 h3 h4 h5 h6 v5 v6 h7 h8 r2 r3 v7 h9 r4 v8 v9 h10 r5 v10 v11 h11 v12 v13 r6 v14 w15 h12 v16 v17 r7 r8 r9 r10 r11 r12 v18 r13 r14 r15 v19 h10 g9 f29)) hD hS hA [0, 10] rfl
    refine va_calli (va_runV (As := [.int v32, .int 3]) (rest := []) ⟨hx, hb, hml, hown, hts⟩ (k_X12_of_4 l dC dI h0 h10 v0 r0 v1 v2 v3 v4 h1 h2 r1 h3 h4 h5 h6 v5 v6 h7 h8 r2 r3 v7 h9 r4 v8 v9 r5 v10 v11 h11 v12 v13 r6 v14 w15 h12 v16 v17 r7 r8 r9 r10 r11 r12 v18 r13 r14 r15 v19 g9 f29 v32 ⟨i_v1a, i_v1b⟩ ⟨i_v5a, i_v5b⟩ ⟨i_v6a, i_v6b⟩ ⟨i_v7a, i_v7b⟩ ⟨i_v8a, i_v8b⟩ ⟨i_v9a, i_v9b⟩ ⟨i_v10a, i_v10b⟩ ⟨i_v14a, i_v14b⟩ ⟨i_v18a, i_v18b⟩ ⟨i_v19a, i_v19b⟩ ⟨by first | omega | decide, by first | omega | decide⟩ ia_f29.1 H.size) (cwV 2 hts g_X12_falls_1 rfl rfl rfl (by decide +kernel) ⟨Nat.le_of_ble_eq_true rfl, Nat.le_of_ble_eq_true rfl⟩) (pv_PV12 hPc hKc hDc (q0 := 0) rfl) rfl rfl hl.1 rfl (lv_room (Nat.le_of_ble_eq_true rfl)) dX12_falls_11 ⟨Nat.le_of_ble_eq_true rfl, Nat.le_of_ble_eq_true rfl⟩) hS (fun q _ h => hFc q h) hFc (fun ra12 u t H1 locs ht hvm hwra12 hB hz1 hk1 hS => ?_)
    try rw [hwra12] at hB
    obtain ⟨pt0_ra12, hP1, hK1, hD1⟩ := hB
    rw [ht] at hP1
    obtain ⟨hP2, hD2⟩ := va_join (wr := (wd_e8ff9da7 h1 g0 f20 h2 g1 f21 h3 g2 f22 h4 g3 f23 h5 g4 f24 h6 g5 f25 h7 g6 f26 h8 g7 f27 h9 g8 f28 h11 g10 f30 h12 g11 f31)) (w1 := (wd_5013416a h0 v0 r0 v1 v2 v3 v4 h1 h2 r1 h3 h4 h5 h6 v5 v6 h7 h8 r2 r3 v7 h9 r4 v8 v9 h10 r5 v10 v11 h11 v12 v13 r6 v14 w15 h12 v16 v17 r7 r8 r9 r10 r11 r12 v18 r13 r14 r15 v19 h10 g9 f29)) hP hD [0, 10] [1, 2, 3, 4, 5, 6, 7, 8, 9, 11, 12] rfl rfl (by decide +kernel) (by decide +kernel) hk1 hFc hP1 hD1
    clear hP hD hPc hDc hKc hFc hP1 hK1 hD1 hk1 hz1
    generalize H1 = H at hP2 hS ⊢
    have hP := hP2.sub (ws' := (wd_cfaca2a5 h0 v0 r0 v1 v2 v3 v4 h1 h2 r1 h3 h4 h5 h6 v5 v6 h7 h8 r2 r3 v7 h9 r4 v8 v9 h10 r5 v10 v11 h11 v12 v13 r6 v14 w15 h12 v16 v17 r7 r8 r9 r10 r11 r12 v18 r13 r14 r15 v19 h1 g0 f20 h2 g1 f21 h3 g2 f22 h4 g3 f23 h5 g4 f24 h6 g5 f25 h7 g6 f26 h8 g7 f27 h9 g8 f28 h10 g9 f29 h11 g10 f30 h12 g11 f31)) [11, 0, 1, 2, 3, 4, 5, 6, 7, 8, 12, 9, 10] rfl
    have hD := hD2.sub (ws' := (wd_cfaca2a5 h0 v0 r0 v1 v2 v3 v4 h1 h2 r1 h3 h4 h5 h6 v5 v6 h7 h8 r2 r3 v7 h9 r4 v8 v9 h10 r5 v10 v11 h11 v12 v13 r6 v14 w15 h12 v16 v17 r7 r8 r9 r10 r11 r12 v18 r13 r14 r15 v19 h1 g0 f20 h2 g1 f21 h3 g2 f22 h4 g3 f23 h5 g4 f24 h6 g5 f25 h7 g6 f26 h8 g7 f27 h9 g8 f28 h10 g9 f29 h11 g10 f30 h12 g11 f31)) [11, 0, 1, 2, 3, 4, 5, 6, 7, 8, 12, 9, 10] (by decide +kernel) rfl
    clear hP2 hD2
    refine lv_bipush (v := 9) hx hb dX12_falls_14 (by decide) ?_
    refine lv_icmp_eq (tgt := 28) hx hb dX12_falls_16 (by decide) (fun c13 => ?_) (fun c13 => ?_)
    · skip
      have fc13 : ra12.toInt = 9 := congrArg Int32.toInt c13
      refine lv_iconst (v := (-1)) hx hb dX12_falls_28 (by decide) ?_
      exact hJ10 ((-1)) v12 v13 f26 f27 f29 f30 f31 H locs ls (by decide) (by decide) ia_f29 ia_f31 hP hD hS (lv_sub hl [0, 1] rfl)
    · skip
      have fc13 : ¬ (ra12.toInt = 9) := fun h9 => c13 (Int32.toInt_inj.mp h9)
      refine lv_aload_n hx hb dX12_falls_19 rfl (lv_at hl 0 rfl) ?_
      refine lv_iload_n hx hb dX12_falls_20 rfl (lv_at hl 1 rfl) ?_
      refine lv_iconst (v := 0) hx hb dX12_falls_21 (by decide) ?_
      have hPc := hP.sub (ws' := (wd_cfaca2a5 h0 v0 r0 v1 v2 v3 v4 h1 h2 r1 h3 h4 h5 h6 v5 v6 h7 h8 r2 r3 v7 h9 r4 v8 v9 h10 r5 v10 v11 h11 v12 v13 r6 v14 w15 h12 v16 v17 r7 r8 r9 r10 r11 r12 v18 r13 r14 r15 v19 h1 g0 f20 h2 g1 f21 h3 g2 f22 h4 g3 f23 h5 g4 f24 h6 g5 f25 h7 g6 f26 h8 g7 f27 h9 g8 f28 h10 g9 f29 h11 g10 f30 h12 g11 f31)) [0, 1, 2, 3, 4, 5, 6, 7, 8, 9, 10, 11, 12] rfl
      have hDc := hD.sub (ws' := (wd_cfaca2a5 h0 v0 r0 v1 v2 v3 v4 h1 h2 r1 h3 h4 h5 h6 v5 v6 h7 h8 r2 r3 v7 h9 r4 v8 v9 h10 r5 v10 v11 h11 v12 v13 r6 v14 w15 h12 v16 v17 r7 r8 r9 r10 r11 r12 v18 r13 r14 r15 v19 h1 g0 f20 h2 g1 f21 h3 g2 f22 h4 g3 f23 h5 g4 f24 h6 g5 f25 h7 g6 f26 h8 g7 f27 h9 g8 f28 h10 g9 f29 h11 g10 f30 h12 g11 f31)) [0, 1, 2, 3, 4, 5, 6, 7, 8, 9, 10, 11, 12] (by decide +kernel) rfl
      have hKc := hK.sub (tys' := [(g0, .int), (g1, .int), (g2, .int), (g3, .int), (g4, .int), (g5, .int), (g6, .int), (g7, .int), (g8, .int), (g9, .int), (g10, .int), (g11, .int)]) [0, 1, 2, 3, 4, 5, 6, 7, 8, 9, 10, 11] rfl
      have hFc := va_free (wc := (wd_cfaca2a5 h0 v0 r0 v1 v2 v3 v4 h1 h2 r1 h3 h4 h5 h6 v5 v6 h7 h8 r2 r3 v7 h9 r4 v8 v9 h10 r5 v10 v11 h11 v12 v13 r6 v14 w15 h12 v16 v17 r7 r8 r9 r10 r11 r12 v18 r13 r14 r15 v19 h1 g0 f20 h2 g1 f21 h3 g2 f22 h4 g3 f23 h5 g4 f24 h6 g5 f25 h7 g6 f26 h8 g7 f27 h9 g8 f28 h10 g9 f29 h11 g10 f30 h12 g11 f31)) hD hS hA [0, 1, 2, 3, 4, 5, 6, 7, 8, 9, 10, 11, 12] rfl
      refine va_calli (va_runV (As := [.int v32, .int 0]) (rest := []) ⟨hx, hb, hml, hown, hts⟩ (k_X12_daysTo l dC dI h0 h1 h2 h3 h4 h5 h6 h7 h8 h9 h10 h11 h12 v0 r0 v1 v2 v3 v4 r1 v5 v6 r2 r3 v7 r4 v8 v9 r5 v10 v11 v12 v13 r6 v14 w15 v16 v17 r7 r8 r9 r10 r11 r12 v18 r13 r14 r15 v19 g0 f20 g1 f21 g2 f22 g3 f23 g4 f24 g5 f25 g6 f26 g7 f27 g8 f28 g9 f29 g10 f30 g11 f31 v32 0 ⟨i_v1a, i_v1b⟩ ⟨i_v5a, i_v5b⟩ ⟨i_v6a, i_v6b⟩ ⟨i_v7a, i_v7b⟩ ⟨i_v8a, i_v8b⟩ ⟨i_v9a, i_v9b⟩ ⟨i_v10a, i_v10b⟩ ⟨i_v14a, i_v14b⟩ ⟨i_v18a, i_v18b⟩ ⟨i_v19a, i_v19b⟩ ⟨by first | omega | decide, by first | omega | decide⟩ ⟨by decide, by decide⟩ ia_f28 ia_f29 ia_f31 pp0 H.size) (cwV 2 hts g_X12_falls_2 rfl rfl rfl (by decide +kernel) ⟨Nat.le_of_ble_eq_true rfl, Nat.le_of_ble_eq_true rfl⟩) (pv_PV12 hPc hKc hDc (q0 := 0) rfl) rfl rfl hl.1 rfl (lv_room (Nat.le_of_ble_eq_true rfl)) dX12_falls_22 ⟨Nat.le_of_ble_eq_true rfl, Nat.le_of_ble_eq_true rfl⟩) hS (fun q _ h => hFc q h) hFc (fun ra14 u t H1 locs ht hvm hwra14 hB hz1 hk1 hS => ?_)
      try rw [hwra14] at hB
      have hkra14_0 : ((0 : Int32)).toInt = 0 := by decide
      obtain ⟨x15, x16, fn17, fn18, fn19, fn20, fn21, ia_fn19, ia_fn21, pt0_ra14, pt1_ra14, hP1, hK1, hD1⟩ := hB
      rw [ht] at hP1
      obtain ⟨hP2, hD2⟩ := va_join (wr := []) (w1 := (wd_cfaca2a5 h0 v0 r0 v1 v2 v3 v4 h1 h2 r1 h3 h4 h5 h6 v5 v6 h7 h8 r2 r3 v7 h9 r4 v8 v9 h10 r5 v10 v11 h11 x15 x16 r6 v14 w15 h12 v16 v17 r7 r8 r9 r10 r11 r12 v18 r13 r14 r15 v19 h1 g0 f20 h2 g1 f21 h3 g2 f22 h4 g3 f23 h5 g4 f24 h6 g5 f25 h7 g6 fn17 h8 g7 fn18 h9 g8 f28 h10 g9 fn19 h11 g10 fn20 h12 g11 fn21)) hP hD [0, 1, 2, 3, 4, 5, 6, 7, 8, 9, 10, 11, 12] [] rfl rfl (by decide +kernel) (by decide +kernel) hk1 hFc hP1 hD1
      clear hP hD hPc hDc hKc hFc hP1 hK1 hD1 hk1 hz1
      generalize H1 = H at hP2 hS ⊢
      have hP : va_P (dC, dI) vwCl (wd_cfaca2a5 h0 v0 r0 v1 v2 v3 v4 h1 h2 r1 h3 h4 h5 h6 v5 v6 h7 h8 r2 r3 v7 h9 r4 v8 v9 h10 r5 v10 v11 h11 x15 x16 r6 v14 w15 h12 v16 v17 r7 r8 r9 r10 r11 r12 v18 r13 r14 r15 v19 h1 g0 f20 h2 g1 f21 h3 g2 f22 h4 g3 f23 h5 g4 f24 h6 g5 f25 h7 g6 fn17 h8 g7 fn18 h9 g8 f28 h10 g9 fn19 h11 g10 fn20 h12 g11 fn21) H := hP2
      have hD : va_D A (wd_cfaca2a5 h0 v0 r0 v1 v2 v3 v4 h1 h2 r1 h3 h4 h5 h6 v5 v6 h7 h8 r2 r3 v7 h9 r4 v8 v9 h10 r5 v10 v11 h11 x15 x16 r6 v14 w15 h12 v16 v17 r7 r8 r9 r10 r11 r12 v18 r13 r14 r15 v19 h1 g0 f20 h2 g1 f21 h3 g2 f22 h4 g3 f23 h5 g4 f24 h6 g5 f25 h7 g6 fn17 h8 g7 fn18 h9 g8 f28 h10 g9 fn19 h11 g10 fn20 h12 g11 fn21) := hD2
      clear hP2 hD2
      refine lv_goto (tgt := 29) hx hb dX12_falls_25 (by decide) ?_
      exact hJ10 ra14 x15 x16 fn17 fn18 fn19 fn20 fn21 H locs ls (by first | omega | decide) (by first | omega | decide) ia_fn19 ia_fn21 hP hD hS (lv_sub hl [0, 1] rfl)
def q_X12_isCalm : List Cond := .code yX12_isCalm cX12_isCalm 4 (some .boolean) :: (([.code yX12_isThere cX12_isThere 2 (some .boolean), .code yX12_in cX12_in 3 (some .boolean), .initialized RX12, .static yX12_in, .methodLink RX12 217 yX12_in, .code yX12_of cX12_of 3 (some .int), .fieldLink RX12 52 "LeftArgumentsModel" "now" "[I", .instanceMethod yX12_of, .selects RX12 yX12_of yX12_of, .methodLink RX12 287 yX12_of, .instanceMethod yX12_isThere, .selects RX12 yX12_isThere yX12_isThere, .methodLink RX12 290 yX12_isThere, .fieldLink RX12 74 "LeftArgumentsModel" "onShelf" "[I", .code yX12_setsOff cX12_setsOff 3 (some .boolean), .methodLink RX12 411 Lib.Math.abs.name, .static Lib.Math.abs.name, .initialized "java/lang/Math", .code Lib.Math.abs.name Lib.Math.abs.code 1 (some .int), .code yX12_stubbornOf cX12_stubbornOf 2 (some .int), .instanceMethod yX12_stubbornOf, .selects RX12 yX12_stubbornOf yX12_stubbornOf, .methodLink RX12 414 yX12_stubbornOf, .instanceMethod yX12_setsOff, .selects RX12 yX12_setsOff yX12_setsOff, .methodLink RX12 401 yX12_setsOff] : List Cond) ++ wsX120)
set_option maxRecDepth 20000 in
theorem g_X12_isCalm_0 : GoodIn q_X12_isCalm (wsV RX12 290 RX12 yX12_isThere q_X12_isThere) := goodIn_app (goodIn_r _ [13, 11, 12, 3] rfl (by decide +kernel)) (goodIn_ca (goodIn_r (.code yX12_isThere cX12_isThere 2 (some .boolean) :: [.code yX12_in cX12_in 3 (some .boolean), .initialized RX12, .static yX12_in, .methodLink RX12 217 yX12_in, .code yX12_of cX12_of 3 (some .int), .fieldLink RX12 52 "LeftArgumentsModel" "now" "[I", .instanceMethod yX12_of, .selects RX12 yX12_of yX12_of, .methodLink RX12 287 yX12_of]) [1, 2, 3, 4, 5, 6, 7, 8, 9, 10] rfl (by decide +kernel)) (goodIn_sub (fun _ h => List.mem_cons_of_mem _ (List.mem_append_right _ h)) gwX12))
set_option maxRecDepth 20000 in
theorem g_X12_isCalm_1 : GoodIn q_X12_isCalm (wsV RX12 401 RX12 yX12_setsOff q_X12_setsOff) := goodIn_app (goodIn_r _ [26, 24, 25, 3] rfl (by decide +kernel)) (goodIn_ca (goodIn_r (.code yX12_setsOff cX12_setsOff 3 (some .boolean) :: [.code yX12_of cX12_of 3 (some .int), .fieldLink RX12 52 "LeftArgumentsModel" "now" "[I", .initialized RX12, .instanceMethod yX12_of, .selects RX12 yX12_of yX12_of, .methodLink RX12 287 yX12_of, .methodLink RX12 411 Lib.Math.abs.name, .static Lib.Math.abs.name, .initialized "java/lang/Math", .code Lib.Math.abs.name Lib.Math.abs.code 1 (some .int), .code yX12_stubbornOf cX12_stubbornOf 2 (some .int), .instanceMethod yX12_stubbornOf, .selects RX12 yX12_stubbornOf yX12_stubbornOf, .methodLink RX12 414 yX12_stubbornOf]) [15, 6, 7, 3, 8, 9, 10, 16, 17, 18, 19, 20, 21, 22, 23] rfl (by decide +kernel)) (goodIn_sub (fun _ h => List.mem_cons_of_mem _ (List.mem_append_right _ h)) gwX12))
set_option maxHeartbeats 4000000 in
set_option maxRecDepth 100000 in
theorem k_X12_isCalm (l : Launch) (dC : Nat → ClassId) (dI : Nat → Nat → Nat) (h0 : Nat) (h1 : Nat) (h2 : Nat) (v0 : Int32) (r0 : Nat) (v1 : Int32) (v2 : Int32) (v3 : Int32) (v4 : Int32) (r1 : Nat) (r2 : Nat) (r3 : Nat) (r4 : Nat) (r5 : Nat) (r6 : Nat) (r7 : Nat) (v5 : Int32) (v6 : Int32) (r8 : Nat) (r9 : Nat) (r10 : Nat) (r11 : Nat) (v7 : Int32) (r12 : Nat) (r13 : Nat) (v8 : Int32) (v9 : Int32) (r14 : Nat) (v10 : Int32) (v11 : Int32) (r15 : Nat) (v12 : Int32) (v13 : Int32) (r16 : Nat) (v14 : Int32) (w15 : Int64) (r17 : Nat) (v16 : Int32) (v17 : Int32) (r18 : Nat) (r19 : Nat) (r20 : Nat) (r21 : Nat) (r22 : Nat) (v18 : Int32) (r23 : Nat) (r24 : Nat) (r25 : Nat) (v19 : Int32) (g0 : ClassId) (f20 : Nat → Int32) (g1 : ClassId) (f21 : Nat → Int32) (v22 : Int32) (v23 : Int32) (i_v1 : 0 ≤ v1.toInt ∧ v1.toInt ≤ 240) (i_v5 : 0 ≤ v5.toInt ∧ v5.toInt ≤ 4) (i_v6 : 0 ≤ v6.toInt ∧ v6.toInt ≤ 4) (i_v7 : 0 ≤ v7.toInt ∧ v7.toInt ≤ 8) (i_v8 : 0 ≤ v8.toInt ∧ v8.toInt ≤ 8) (i_v9 : 0 ≤ v9.toInt ∧ v9.toInt ≤ 1) (i_v10 : -1 ≤ v10.toInt ∧ v10.toInt ≤ 3) (i_v14 : 0 ≤ v14.toInt ∧ v14.toInt ≤ 40) (i_v18 : 0 ≤ v18.toInt ∧ v18.toInt ≤ 10) (i_v19 : 0 ≤ v19.toInt ∧ v19.toInt ≤ 1) (i_v22 : 0 ≤ v22.toInt ∧ v22.toInt ≤ 7) (ia_f20 : (pm_NW f20)) (sz : Nat) : Met l yX12_isCalm q_X12_isCalm ({ frames := 3, cells := 0, slots := 0, locals := 65 }) (va_Pc [.ref h0, .int v22, .int v23] (fun U => U.heap.size = sz ∧ va_P (dC, dI) vwCl (wd_f4deda84 h0 v0 r0 v1 v2 v3 v4 r1 r2 r3 r4 r5 r6 r7 v5 v6 r8 r9 r10 r11 v7 r12 r13 v8 v9 h1 r14 v10 v11 r15 v12 v13 r16 v14 w15 r17 v16 v17 h2 r18 r19 r20 r21 r22 v18 r23 r24 r25 v19 h1 g0 f20 h2 g1 f21) U.heap ∧ va_K (dC, dI) vwCl [(g0, .int), (g1, .int)] U ∧ va_D (fun _ => True) (wd_f4deda84 h0 v0 r0 v1 v2 v3 v4 r1 r2 r3 r4 r5 r6 r7 v5 v6 r8 r9 r10 r11 v7 r12 r13 v8 v9 h1 r14 v10 v11 r15 v12 v13 r16 v14 w15 r17 v16 v17 h2 r18 r19 r20 r21 r22 v18 r23 r24 r25 v19 h1 g0 f20 h2 g1 f21))) (va_Qi (fun (r : Int32) (r9 : Int32) => r9 = r) (fun (r : Int32) (t : State) => ((0 ≤ r.toInt) ∧ (r.toInt ≤ 1) ∧ va_P (dC, dI) vwCl (wd_f4deda84 h0 v0 r0 v1 v2 v3 v4 r1 r2 r3 r4 r5 r6 r7 v5 v6 r8 r9 r10 r11 v7 r12 r13 v8 v9 h1 r14 v10 v11 r15 v12 v13 r16 v14 w15 r17 v16 v17 h2 r18 r19 r20 r21 r22 v18 r23 r24 r25 v19 h1 g0 f20 h2 g1 f21) t.heap ∧ va_K (dC, dI) vwCl [] t ∧ va_D (va_A (wd_f4deda84 h0 v0 r0 v1 v2 v3 v4 r1 r2 r3 r4 r5 r6 r7 v5 v6 r8 r9 r10 r11 v7 r12 r13 v8 v9 h1 r14 v10 v11 r15 v12 v13 r16 v14 w15 r17 v16 v17 h2 r18 r19 r20 r21 r22 v18 r23 r24 r25 v19 h1 g0 f20 h2 g1 f21) sz) (wd_f4deda84 h0 v0 r0 v1 v2 v3 v4 r1 r2 r3 r4 r5 r6 r7 v5 v6 r8 r9 r10 r11 v7 r12 r13 v8 v9 h1 r14 v10 v11 r15 v12 v13 r16 v14 w15 r17 v16 v17 h2 r18 r19 r20 r21 r22 v18 r23 r24 r25 v19 h1 g0 f20 h2 g1 f21))) (va_A (wd_f4deda84 h0 v0 r0 v1 v2 v3 v4 r1 r2 r3 r4 r5 r6 r7 v5 v6 r8 r9 r10 r11 v7 r12 r13 v8 v9 h1 r14 v10 v11 r15 v12 v13 r16 v14 w15 r17 v16 v17 h2 r18 r19 r20 r21 r22 v18 r23 r24 r25 v19 h1 g0 f20 h2 g1 f21) sz)) 0 0 (va_A (wd_f4deda84 h0 v0 r0 v1 v2 v3 v4 r1 r2 r3 r4 r5 r6 r7 v5 v6 r8 r9 r10 r11 v7 r12 r13 v8 v9 h1 r14 v10 v11 r15 v12 v13 r16 v14 w15 r17 v16 v17 h2 r18 r19 r20 r21 r22 v18 r23 r24 r25 v19 h1 g0 f20 h2 g1 f21) sz) := by
  refine Met.ofW (cc := cX12_isCalm) (maxL := 4) (ret := (some .boolean)) (by decide) rfl ?_
  intro p e s m args below meth c s₁ B hml hv
  obtain ⟨i_v1a, i_v1b⟩ := i_v1
  obtain ⟨i_v5a, i_v5b⟩ := i_v5
  obtain ⟨i_v6a, i_v6b⟩ := i_v6
  obtain ⟨i_v7a, i_v7b⟩ := i_v7
  obtain ⟨i_v8a, i_v8b⟩ := i_v8
  obtain ⟨i_v9a, i_v9b⟩ := i_v9
  obtain ⟨i_v10a, i_v10b⟩ := i_v10
  obtain ⟨i_v14a, i_v14b⟩ := i_v14
  obtain ⟨i_v18a, i_v18b⟩ := i_v18
  obtain ⟨i_v19a, i_v19b⟩ := i_v19
  obtain ⟨i_v22a, i_v22b⟩ := i_v22
  obtain ⟨rfl, hsz, hP, hK, hD0⟩ := hv
  have hx := B.exec
  have hb := B.bytes
  have hr := B.returns
  have hts := atoms_spec (ws := q_X12_isCalm) B.pre
  have hown : s.vm.findClass RX12 = some m.cls := findClass_of_methodNamed B.named
  have hlocks := B.notSynchronized
  subst hsz
  have hD := hD0.self (sz := s.heap.size)
  generalize hAe : va_A (wd_f4deda84 h0 v0 r0 v1 v2 v3 v4 r1 r2 r3 r4 r5 r6 r7 v5 v6 r8 r9 r10 r11 v7 r12 r13 v8 v9 h1 r14 v10 v11 r15 v12 v13 r16 v14 w15 r17 v16 v17 h2 r18 r19 r20 r21 r22 v18 r23 r24 r25 v19 h1 g0 f20 h2 g1 f21) s.heap.size = A at hD ⊢
  have hA : ∀ q : Nat, s.heap.size ≤ q → A q := fun q h => by rw [← hAe]; exact Or.inr h
  have hS : va_S A s.heap s.heap [] := va_S.rf
  generalize hQ : (MQ below _ _ s 0 0 A) = Q
  have hl := lv_entry ([.ref h0, .int v22, .int v23]) (n := 4) (Nat.le_of_ble_eq_true rfl)
  rw [lg_entry_eq]
  generalize (lg_sl ([.ref h0, .int v22, .int v23]) ++ List.replicate (4 - (lg_sl ([.ref h0, .int v22, .int v23])).length) Slot.unset).toArray = ls at hl ⊢
  have hl : lv_has ls 4 [(0, .ref h0), (1, .int v22), (2, .int v23)] := hl
  obtain ⟨H, hH⟩ : ∃ H : Heap, H = s.heap := ⟨_, rfl⟩
  obtain ⟨locs, hlocs⟩ : ∃ y : List Loc, y = [] := ⟨_, rfl⟩
  have hS : va_S A s.heap H locs := by rw [hH, hlocs]; exact va_S.rf
  have hP : va_P (dC, dI) vwCl (wd_f4deda84 h0 v0 r0 v1 v2 v3 v4 r1 r2 r3 r4 r5 r6 r7 v5 v6 r8 r9 r10 r11 v7 r12 r13 v8 v9 h1 r14 v10 v11 r15 v12 v13 r16 v14 w15 r17 v16 v17 h2 r18 r19 r20 r21 r22 v18 r23 r24 r25 v19 h1 g0 f20 h2 g1 f21) H := by rw [hH]; exact hP
  rw [← hH, ← hlocs]
  refine lv_iconst (v := 0) hx hb dX12_isCalm_0 (by decide) ?_
  refine lv_istore_n (lv' := [(3, .int 0), (0, .ref h0), (1, .int v22), (2, .int v23)]) hx hb dX12_isCalm_1 rfl hl (by decide) rfl (fun ls hl => ?_)
  have hL5 : ∀ (n9 : Nat), ∀ (x3 : Int32) (H : Heap) (locs : List Loc) (ls : Array Slot), 0 ≤ x3.toInt → x3.toInt ≤ 7 → (7 - x3.toInt).toNat < n9 → va_P (dC, dI) vwCl (wd_f4deda84 h0 v0 r0 v1 v2 v3 v4 r1 r2 r3 r4 r5 r6 r7 v5 v6 r8 r9 r10 r11 v7 r12 r13 v8 v9 h1 r14 v10 v11 r15 v12 v13 r16 v14 w15 r17 v16 v17 h2 r18 r19 r20 r21 r22 v18 r23 r24 r25 v19 h1 g0 f20 h2 g1 f21) H → va_D A (wd_f4deda84 h0 v0 r0 v1 v2 v3 v4 r1 r2 r3 r4 r5 r6 r7 v5 v6 r8 r9 r10 r11 v7 r12 r13 v8 v9 h1 r14 v10 v11 r15 v12 v13 r16 v14 w15 r17 v16 v17 h2 r18 r19 r20 r21 r22 v18 r23 r24 r25 v19 h1 g0 f20 h2 g1 f21) → va_S A s.heap H locs → lv_has ls 4 [(3, .int x3), (0, .ref h0), (1, .int v22), (2, .int v23)] → W p l e ({ frames := 3, cells := 0, slots := 0, locals := 65 }) s m ([.ref h0, .int v22, .int v23] : List Value).toArray below meth c H locs 0 0 Q (F0 m 2 ls []) := by
    intro n9
    induction n9 with
    | zero => intro x3 H locs ls qa_x3 qb_x3 hm9 hP hD hS hl; exact absurd hm9 (Nat.not_lt_zero _)
    | succ n9 ih_hL5 =>
      intro x3 H locs ls qa_x3 qb_x3 hm9 hP hD hS hl
      refine lv_iload_n hx hb dX12_isCalm_2 rfl (lv_at hl 0 rfl) ?_
      refine lv_iload_n hx hb dX12_isCalm_3 rfl (lv_at hl 2 rfl) ?_
      refine lv_icmp_ge (tgt := 42) hx hb dX12_isCalm_4 (by decide) (fun c6 => ?_) (fun c6 => ?_)
      · skip
        have fc6 : v22.toInt ≤ x3.toInt := Int32.le_iff_toInt_le.mp c6
        have r1c6 := Int32.toInt_lt x3
        have r2c6 := Int32.toInt_lt v22
        have r3c6 := Int32.le_toInt x3
        have r4c6 := Int32.le_toInt v22
        refine lv_iconst (v := 1) hx hb dX12_isCalm_42 (by decide) ?_
        subst hQ
        have hP9 := hP.sub (ws' := (wd_f4deda84 h0 v0 r0 v1 v2 v3 v4 r1 r2 r3 r4 r5 r6 r7 v5 v6 r8 r9 r10 r11 v7 r12 r13 v8 v9 h1 r14 v10 v11 r15 v12 v13 r16 v14 w15 r17 v16 v17 h2 r18 r19 r20 r21 r22 v18 r23 r24 r25 v19 h1 g0 f20 h2 g1 f21)) [0, 1, 2] rfl
        have hD9 := hD.sub (ws' := (wd_f4deda84 h0 v0 r0 v1 v2 v3 v4 r1 r2 r3 r4 r5 r6 r7 v5 v6 r8 r9 r10 r11 v7 r12 r13 v8 v9 h1 r14 v10 v11 r15 v12 v13 r16 v14 w15 r17 v16 v17 h2 r18 r19 r20 r21 r22 v18 r23 r24 r25 v19 h1 g0 f20 h2 g1 f21)) [0, 1, 2] (by decide) rfl
        have hK9 := hK.sub (tys' := []) [] rfl
        exact W.zret (v := 1) hx hb hr rfl (fun t ht hW => ⟨⟨1, 1, rfl, rfl, ⟨by first | omega | decide, by first | omega | decide, by rw [ht]; exact hP9, va_K.moved hW.alike hK9, hD9⟩⟩, hS.F ht⟩) hS.2.2 dX12_isCalm_43
      · skip
        have fc6 : ¬ (v22.toInt ≤ x3.toInt) := fun h9 => c6 (Int32.le_iff_toInt_le.mpr h9)
        have r1c6 := Int32.toInt_lt x3
        have r2c6 := Int32.toInt_lt v22
        have r3c6 := Int32.le_toInt x3
        have r4c6 := Int32.le_toInt v22
        refine lv_aload_n hx hb dX12_isCalm_7 rfl (lv_at hl 1 rfl) ?_
        refine lv_iload_n hx hb dX12_isCalm_8 rfl (lv_at hl 0 rfl) ?_
        have hPc := hP.sub (ws' := (wd_5013416a h0 v0 r0 v1 v2 v3 v4 r1 r2 r3 r4 r5 r6 r7 v5 v6 r8 r9 r10 r11 v7 r12 r13 v8 v9 h1 r14 v10 v11 r15 v12 v13 r16 v14 w15 r17 v16 v17 h2 r18 r19 r20 r21 r22 v18 r23 r24 r25 v19 h1 g0 f20)) [0, 1] rfl
        have hDc := hD.sub (ws' := (wd_5013416a h0 v0 r0 v1 v2 v3 v4 r1 r2 r3 r4 r5 r6 r7 v5 v6 r8 r9 r10 r11 v7 r12 r13 v8 v9 h1 r14 v10 v11 r15 v12 v13 r16 v14 w15 r17 v16 v17 h2 r18 r19 r20 r21 r22 v18 r23 r24 r25 v19 h1 g0 f20)) [0, 1] (by decide) rfl
        have hKc := hK.sub (tys' := [(g0, .int)]) [0] rfl
        have hFc := va_free (wc := (wd_5013416a h0 v0 r0 v1 v2 v3 v4 r1 r2 r3 r4 r5 r6 r7 v5 v6 r8 r9 r10 r11 v7 r12 r13 v8 v9 h1 r14 v10 v11 r15 v12 v13 r16 v14 w15 r17 v16 v17 h2 r18 r19 r20 r21 r22 v18 r23 r24 r25 v19 h1 g0 f20)) hD hS hA [0, 1] rfl
        refine va_calli (va_runV (As := [.int x3]) (rest := []) ⟨hx, hb, hml, hown, hts⟩ (k_X12_isThere l dC dI h0 h1 v0 r0 v1 v2 v3 v4 r1 r2 r3 r4 r5 r6 r7 v5 v6 r8 r9 r10 r11 v7 r12 r13 v8 v9 r14 v10 v11 r15 v12 v13 r16 v14 w15 r17 v16 v17 h2 r18 r19 r20 r21 r22 v18 r23 r24 r25 v19 g0 f20 x3 ⟨i_v1a, i_v1b⟩ ⟨i_v5a, i_v5b⟩ ⟨i_v6a, i_v6b⟩ ⟨i_v7a, i_v7b⟩ ⟨i_v8a, i_v8b⟩ ⟨i_v9a, i_v9b⟩ ⟨i_v10a, i_v10b⟩ ⟨i_v14a, i_v14b⟩ ⟨i_v18a, i_v18b⟩ ⟨i_v19a, i_v19b⟩ ia_f20.1 H.size) (cwV 1 hts g_X12_isCalm_0 rfl rfl rfl (by decide +kernel) ⟨Nat.le_of_ble_eq_true rfl, Nat.le_of_ble_eq_true rfl⟩) (pv_PV12 hPc hKc hDc (q0 := 0) rfl) rfl rfl hl.1 rfl (lv_room (Nat.le_of_ble_eq_true rfl)) dX12_isCalm_9 ⟨Nat.le_of_ble_eq_true rfl, Nat.le_of_ble_eq_true rfl⟩) hS (fun q _ h => hFc q h) hFc (fun ra7 u t H1 locs ht hvm hwra7 hB hz1 hk1 hS => ?_)
        try rw [hwra7] at hB
        obtain ⟨pt0_ra7, pt1_ra7, pt2_ra7, pt3_ra7, pt4_ra7, pt5_ra7, hP1, hK1, hD1⟩ := hB
        rw [ht] at hP1
        obtain ⟨hP2, hD2⟩ := va_join (wr := (wd_063f09b6 h2 g1 f21)) (w1 := (wd_5013416a h0 v0 r0 v1 v2 v3 v4 r1 r2 r3 r4 r5 r6 r7 v5 v6 r8 r9 r10 r11 v7 r12 r13 v8 v9 h1 r14 v10 v11 r15 v12 v13 r16 v14 w15 r17 v16 v17 h2 r18 r19 r20 r21 r22 v18 r23 r24 r25 v19 h1 g0 f20)) hP hD [0, 1] [2] rfl rfl (by decide) (by decide) hk1 hFc hP1 hD1
        clear hP hD hPc hDc hKc hFc hP1 hK1 hD1 hk1 hz1
        generalize H1 = H at hP2 hS ⊢
        have hP := hP2.sub (ws' := (wd_f4deda84 h0 v0 r0 v1 v2 v3 v4 r1 r2 r3 r4 r5 r6 r7 v5 v6 r8 r9 r10 r11 v7 r12 r13 v8 v9 h1 r14 v10 v11 r15 v12 v13 r16 v14 w15 r17 v16 v17 h2 r18 r19 r20 r21 r22 v18 r23 r24 r25 v19 h1 g0 f20 h2 g1 f21)) [1, 2, 0] rfl
        have hD := hD2.sub (ws' := (wd_f4deda84 h0 v0 r0 v1 v2 v3 v4 r1 r2 r3 r4 r5 r6 r7 v5 v6 r8 r9 r10 r11 v7 r12 r13 v8 v9 h1 r14 v10 v11 r15 v12 v13 r16 v14 w15 r17 v16 v17 h2 r18 r19 r20 r21 r22 v18 r23 r24 r25 v19 h1 g0 f20 h2 g1 f21)) [1, 2, 0] (by decide) rfl
        clear hP2 hD2
        have wra7 : ra7.toInt = 0 → ¬ f20 (pm_I x3 7) = 1 := fun h9 => pt5_ra7 h9 (by omega) (by omega)
        refine lv_if_eq (tgt := 36) hx hb dX12_isCalm_12 (by decide) (fun c8 => ?_) (fun c8 => ?_)
        · skip
          have fc8 : ra7.toInt = 0 := congrArg Int32.toInt c8
          have q0wra7 := wra7 (by omega)
          obtain ⟨t9, et9⟩ : ∃ y : Int32, y = x3 + 1 := ⟨_, rfl⟩
          have gt9 : t9.toInt = x3.toInt + (1) := pv_add (a := x3.toInt) (b := (1)) et9 rfl (by decide) (by omega) (by omega)
          refine lv_iinc (v := t9) (lv' := [(3, .int t9), (0, .ref h0), (1, .int v22), (2, .int v23)]) hx hb dX12_isCalm_36 hl (k := 0) rfl (by rw [et9]; rfl) (by decide) rfl (fun ls hl => ?_)
          refine lv_goto (tgt := 2) hx hb dX12_isCalm_39 (by decide) ?_
          exact ih_hL5 t9 H locs ls (by first | omega | decide) (by first | omega | decide) (by first | omega | (simp only [Int.toNat] at *; omega)) hP hD hS (lv_sub hl [0, 1, 2, 3] rfl)
        · skip
          have fc8 : ¬ (ra7.toInt = 0) := fun h9 => c8 (Int32.toInt_inj.mp h9)
          have q1pt4_ra7 := pt4_ra7 (by omega)
          refine lv_aload_n hx hb dX12_isCalm_15 rfl (lv_at hl 1 rfl) ?_
          refine va_get (D := (dC, dI)) (ci := 12) (v := .ref h2) (C := RX12) (T := TX12) (N := 48) hx hb hts (fun _ h => List.mem_cons_of_mem _ (List.mem_append_right _ h)) hown hK hP 0 rfl rfl 37 (by decide) (hts (.fieldLink RX12 74 "LeftArgumentsModel" "onShelf" "[I") (List.mem_cons_of_mem _ (List.mem_append_left _ (List.mem_of_getElem? (i := 13) rfl)))) (fun _ h9 => h9) rfl dX12_isCalm_16 ?_
          refine lv_iload_n hx hb dX12_isCalm_19 rfl (lv_at hl 0 rfl) ?_
          refine va_iald hx hb hK hP 2 1 rfl rfl (vp_in_iff.mpr ⟨by omega, by omega⟩) dX12_isCalm_20 ?_
          refine lv_topi (fun t10 et10 => ?_)
          refine lv_iload_n hx hb dX12_isCalm_21 rfl (lv_at hl 3 rfl) ?_
          refine lv_icmp_ne (tgt := 36) hx hb dX12_isCalm_22 (by decide) (fun c11 => ?_) (fun c11 => ?_)
          · skip
            have fc11 : ¬ (t10.toInt = v23.toInt) := fun h9 => c11 (Int32.toInt_inj.mp h9)
            have r1c11 := Int32.toInt_lt t10
            have r2c11 := Int32.toInt_lt v23
            have r3c11 := Int32.le_toInt t10
            have r4c11 := Int32.le_toInt v23
            obtain ⟨t12, et12⟩ : ∃ y : Int32, y = x3 + 1 := ⟨_, rfl⟩
            have gt12 : t12.toInt = x3.toInt + (1) := pv_add (a := x3.toInt) (b := (1)) et12 rfl (by decide) (by omega) (by omega)
            refine lv_iinc (v := t12) (lv' := [(3, .int t12), (0, .ref h0), (1, .int v22), (2, .int v23)]) hx hb dX12_isCalm_36 hl (k := 0) rfl (by rw [et12]; rfl) (by decide) rfl (fun ls hl => ?_)
            refine lv_goto (tgt := 2) hx hb dX12_isCalm_39 (by decide) ?_
            exact ih_hL5 t12 H locs ls (by first | omega | decide) (by first | omega | decide) (by first | omega | (simp only [Int.toNat] at *; omega)) hP hD hS (lv_sub hl [0, 1, 2, 3] rfl)
          · skip
            have fc11 : t10.toInt = v23.toInt := congrArg Int32.toInt c11
            have r1c11 := Int32.toInt_lt t10
            have r2c11 := Int32.toInt_lt v23
            have r3c11 := Int32.le_toInt t10
            have r4c11 := Int32.le_toInt v23
            refine lv_aload_n hx hb dX12_isCalm_25 rfl (lv_at hl 1 rfl) ?_
            refine lv_iload_n hx hb dX12_isCalm_26 rfl (lv_at hl 0 rfl) ?_
            refine lv_iload_n hx hb dX12_isCalm_27 rfl (lv_at hl 2 rfl) ?_
            have hPc := hP.sub (ws' := (wd_5013416a h0 v0 r0 v1 v2 v3 v4 r1 r2 r3 r4 r5 r6 r7 v5 v6 r8 r9 r10 r11 v7 r12 r13 v8 v9 h1 r14 v10 v11 r15 v12 v13 r16 v14 w15 r17 v16 v17 h2 r18 r19 r20 r21 r22 v18 r23 r24 r25 v19 h1 g0 f20)) [0, 1] rfl
            have hDc := hD.sub (ws' := (wd_5013416a h0 v0 r0 v1 v2 v3 v4 r1 r2 r3 r4 r5 r6 r7 v5 v6 r8 r9 r10 r11 v7 r12 r13 v8 v9 h1 r14 v10 v11 r15 v12 v13 r16 v14 w15 r17 v16 v17 h2 r18 r19 r20 r21 r22 v18 r23 r24 r25 v19 h1 g0 f20)) [0, 1] (by decide) rfl
            have hKc := hK.sub (tys' := [(g0, .int)]) [0] rfl
            have hFc := va_free (wc := (wd_5013416a h0 v0 r0 v1 v2 v3 v4 r1 r2 r3 r4 r5 r6 r7 v5 v6 r8 r9 r10 r11 v7 r12 r13 v8 v9 h1 r14 v10 v11 r15 v12 v13 r16 v14 w15 r17 v16 v17 h2 r18 r19 r20 r21 r22 v18 r23 r24 r25 v19 h1 g0 f20)) hD hS hA [0, 1] rfl
            refine va_calli (va_runV (As := [.int x3, .int v22]) (rest := []) ⟨hx, hb, hml, hown, hts⟩ (k_X12_setsOff l dC dI h0 h1 v0 r0 v1 v2 v3 v4 r1 r2 r3 r4 r5 r6 r7 v5 v6 r8 r9 r10 r11 v7 r12 r13 v8 v9 r14 v10 v11 r15 v12 v13 r16 v14 w15 r17 v16 v17 h2 r18 r19 r20 r21 r22 v18 r23 r24 r25 v19 g0 f20 x3 v22 ⟨i_v1a, i_v1b⟩ ⟨i_v5a, i_v5b⟩ ⟨i_v6a, i_v6b⟩ ⟨i_v7a, i_v7b⟩ ⟨i_v8a, i_v8b⟩ ⟨i_v9a, i_v9b⟩ ⟨i_v10a, i_v10b⟩ ⟨i_v14a, i_v14b⟩ ⟨i_v18a, i_v18b⟩ ⟨i_v19a, i_v19b⟩ ⟨qa_x3, qb_x3⟩ ⟨i_v22a, i_v22b⟩ ia_f20 H.size) (cwV 2 hts g_X12_isCalm_1 rfl rfl rfl (by decide +kernel) ⟨Nat.le_of_ble_eq_true rfl, Nat.le_of_ble_eq_true rfl⟩) (pv_PV12 hPc hKc hDc (q0 := 0) rfl) rfl rfl hl.1 rfl (lv_room (Nat.le_of_ble_eq_true rfl)) dX12_isCalm_28 ⟨Nat.le_of_ble_eq_true rfl, Nat.le_of_ble_eq_true rfl⟩) hS (fun q _ h => hFc q h) hFc (fun ra13 u t H1 locs ht hvm hwra13 hB hz1 hk1 hS => ?_)
            try rw [hwra13] at hB
            obtain ⟨pt0_ra13, pt1_ra13, hP1, hK1, hD1⟩ := hB
            rw [ht] at hP1
            obtain ⟨hP2, hD2⟩ := va_join (wr := (wd_063f09b6 h2 g1 f21)) (w1 := (wd_5013416a h0 v0 r0 v1 v2 v3 v4 r1 r2 r3 r4 r5 r6 r7 v5 v6 r8 r9 r10 r11 v7 r12 r13 v8 v9 h1 r14 v10 v11 r15 v12 v13 r16 v14 w15 r17 v16 v17 h2 r18 r19 r20 r21 r22 v18 r23 r24 r25 v19 h1 g0 f20)) hP hD [0, 1] [2] rfl rfl (by decide) (by decide) hk1 hFc hP1 hD1
            clear hP hD hPc hDc hKc hFc hP1 hK1 hD1 hk1 hz1
            generalize H1 = H at hP2 hS ⊢
            have hP := hP2.sub (ws' := (wd_f4deda84 h0 v0 r0 v1 v2 v3 v4 r1 r2 r3 r4 r5 r6 r7 v5 v6 r8 r9 r10 r11 v7 r12 r13 v8 v9 h1 r14 v10 v11 r15 v12 v13 r16 v14 w15 r17 v16 v17 h2 r18 r19 r20 r21 r22 v18 r23 r24 r25 v19 h1 g0 f20 h2 g1 f21)) [1, 2, 0] rfl
            have hD := hD2.sub (ws' := (wd_f4deda84 h0 v0 r0 v1 v2 v3 v4 r1 r2 r3 r4 r5 r6 r7 v5 v6 r8 r9 r10 r11 v7 r12 r13 v8 v9 h1 r14 v10 v11 r15 v12 v13 r16 v14 w15 r17 v16 v17 h2 r18 r19 r20 r21 r22 v18 r23 r24 r25 v19 h1 g0 f20 h2 g1 f21)) [1, 2, 0] (by decide) rfl
            clear hP2 hD2
            refine lv_if_eq (tgt := 36) hx hb dX12_isCalm_31 (by decide) (fun c14 => ?_) (fun c14 => ?_)
            · skip
              have fc14 : ra13.toInt = 0 := congrArg Int32.toInt c14
              obtain ⟨t15, et15⟩ : ∃ y : Int32, y = x3 + 1 := ⟨_, rfl⟩
              have gt15 : t15.toInt = x3.toInt + (1) := pv_add (a := x3.toInt) (b := (1)) et15 rfl (by decide) (by omega) (by omega)
              refine lv_iinc (v := t15) (lv' := [(3, .int t15), (0, .ref h0), (1, .int v22), (2, .int v23)]) hx hb dX12_isCalm_36 hl (k := 0) rfl (by rw [et15]; rfl) (by decide) rfl (fun ls hl => ?_)
              refine lv_goto (tgt := 2) hx hb dX12_isCalm_39 (by decide) ?_
              exact ih_hL5 t15 H locs ls (by first | omega | decide) (by first | omega | decide) (by first | omega | (simp only [Int.toNat] at *; omega)) hP hD hS (lv_sub hl [0, 1, 2, 3] rfl)
            · skip
              have fc14 : ¬ (ra13.toInt = 0) := fun h9 => c14 (Int32.toInt_inj.mp h9)
              refine lv_iconst (v := 0) hx hb dX12_isCalm_34 (by decide) ?_
              subst hQ
              have hP9 := hP.sub (ws' := (wd_f4deda84 h0 v0 r0 v1 v2 v3 v4 r1 r2 r3 r4 r5 r6 r7 v5 v6 r8 r9 r10 r11 v7 r12 r13 v8 v9 h1 r14 v10 v11 r15 v12 v13 r16 v14 w15 r17 v16 v17 h2 r18 r19 r20 r21 r22 v18 r23 r24 r25 v19 h1 g0 f20 h2 g1 f21)) [0, 1, 2] rfl
              have hD9 := hD.sub (ws' := (wd_f4deda84 h0 v0 r0 v1 v2 v3 v4 r1 r2 r3 r4 r5 r6 r7 v5 v6 r8 r9 r10 r11 v7 r12 r13 v8 v9 h1 r14 v10 v11 r15 v12 v13 r16 v14 w15 r17 v16 v17 h2 r18 r19 r20 r21 r22 v18 r23 r24 r25 v19 h1 g0 f20 h2 g1 f21)) [0, 1, 2] (by decide) rfl
              have hK9 := hK.sub (tys' := []) [] rfl
              exact W.zret (v := 0) hx hb hr rfl (fun t ht hW => ⟨⟨0, 0, rfl, rfl, ⟨by first | omega | decide, by first | omega | decide, by rw [ht]; exact hP9, va_K.moved hW.alike hK9, hD9⟩⟩, hS.F ht⟩) hS.2.2 dX12_isCalm_35
  exact hL5 _ 0 H locs ls (by decide) (by decide) (Nat.lt_succ_self _) hP hD hS (lv_sub hl [0, 1, 2, 3] rfl)
def q_X12_tryShelf : List Cond := .code yX12_tryShelf cX12_tryShelf 7 none :: (([.fieldLink RX12 388 "LeftArgumentsModel" "bestRow" "I", .fieldLink RX12 391 "LeftArgumentsModel" "bestMany" "I"] : List Cond) ++ wsX120)
set_option maxHeartbeats 4000000 in
set_option maxRecDepth 100000 in
theorem k_X12_tryShelf (l : Launch) (dC : Nat → ClassId) (dI : Nat → Nat → Nat) (h0 : Nat) (v0 : Int32) (r0 : Nat) (v1 : Int32) (v2 : Int32) (v3 : Int32) (v4 : Int32) (r1 : Nat) (r2 : Nat) (r3 : Nat) (r4 : Nat) (r5 : Nat) (r6 : Nat) (r7 : Nat) (v5 : Int32) (v6 : Int32) (r8 : Nat) (r9 : Nat) (r10 : Nat) (r11 : Nat) (v7 : Int32) (r12 : Nat) (r13 : Nat) (v8 : Int32) (v9 : Int32) (r14 : Nat) (r15 : Nat) (v10 : Int32) (v11 : Int32) (r16 : Nat) (v12 : Int32) (v13 : Int32) (r17 : Nat) (v14 : Int32) (w15 : Int64) (r18 : Nat) (v16 : Int32) (v17 : Int32) (r19 : Nat) (r20 : Nat) (r21 : Nat) (r22 : Nat) (r23 : Nat) (r24 : Nat) (v18 : Int32) (r25 : Nat) (r26 : Nat) (r27 : Nat) (v19 : Int32) (v20 : Int32) (v21 : Int32) (v22 : Int32) (i_v1 : 0 ≤ v1.toInt ∧ v1.toInt ≤ 240) (i_v5 : 0 ≤ v5.toInt ∧ v5.toInt ≤ 4) (i_v6 : 0 ≤ v6.toInt ∧ v6.toInt ≤ 4) (i_v7 : 0 ≤ v7.toInt ∧ v7.toInt ≤ 8) (i_v8 : 0 ≤ v8.toInt ∧ v8.toInt ≤ 8) (i_v9 : 0 ≤ v9.toInt ∧ v9.toInt ≤ 1) (i_v10 : -1 ≤ v10.toInt ∧ v10.toInt ≤ 3) (i_v14 : 0 ≤ v14.toInt ∧ v14.toInt ≤ 40) (i_v18 : 0 ≤ v18.toInt ∧ v18.toInt ≤ 10) (i_v19 : 0 ≤ v19.toInt ∧ v19.toInt ≤ 1) (i_v22 : 0 ≤ v22.toInt ∧ v22.toInt ≤ 1) (sz : Nat) : Met l yX12_tryShelf q_X12_tryShelf ({ frames := 0, cells := 0, slots := 0, locals := 0 }) (va_Pc [.ref h0, .int 8, .int v20, .int v21, .int v22] (fun U => U.heap.size = sz ∧ va_P (dC, dI) vwCl (wd_171f232f h0 v0 r0 v1 v2 v3 v4 r1 r2 r3 r4 r5 r6 r7 v5 v6 r8 r9 r10 r11 v7 r12 r13 v8 v9 r14 r15 v10 v11 r16 v12 v13 r17 v14 w15 r18 v16 v17 r19 r20 r21 r22 r23 r24 v18 r25 r26 r27 v19) U.heap ∧ va_K (dC, dI) vwCl [] U ∧ va_D (fun _ => True) (wd_171f232f h0 v0 r0 v1 v2 v3 v4 r1 r2 r3 r4 r5 r6 r7 v5 v6 r8 r9 r10 r11 v7 r12 r13 v8 v9 r14 r15 v10 v11 r16 v12 v13 r17 v14 w15 r18 v16 v17 r19 r20 r21 r22 r23 r24 v18 r25 r26 r27 v19))) (va_Qv (fun (_ : Unit) => True) (fun (_ : Unit) (t : State) => (∃ (o_h0_35 : Int32) (o_h0_36 : Int32), va_P (dC, dI) vwCl (wd_171f232f h0 v0 r0 v1 v2 v3 v4 r1 r2 r3 r4 r5 r6 r7 v5 v6 r8 r9 r10 r11 v7 r12 r13 v8 v9 r14 r15 v10 v11 r16 v12 v13 r17 v14 w15 r18 o_h0_35 o_h0_36 r19 r20 r21 r22 r23 r24 v18 r25 r26 r27 v19) t.heap ∧ va_K (dC, dI) vwCl [] t ∧ va_D (va_A (wd_171f232f h0 v0 r0 v1 v2 v3 v4 r1 r2 r3 r4 r5 r6 r7 v5 v6 r8 r9 r10 r11 v7 r12 r13 v8 v9 r14 r15 v10 v11 r16 v12 v13 r17 v14 w15 r18 v16 v17 r19 r20 r21 r22 r23 r24 v18 r25 r26 r27 v19) sz) (wd_171f232f h0 v0 r0 v1 v2 v3 v4 r1 r2 r3 r4 r5 r6 r7 v5 v6 r8 r9 r10 r11 v7 r12 r13 v8 v9 r14 r15 v10 v11 r16 v12 v13 r17 v14 w15 r18 o_h0_35 o_h0_36 r19 r20 r21 r22 r23 r24 v18 r25 r26 r27 v19))) (va_A (wd_171f232f h0 v0 r0 v1 v2 v3 v4 r1 r2 r3 r4 r5 r6 r7 v5 v6 r8 r9 r10 r11 v7 r12 r13 v8 v9 r14 r15 v10 v11 r16 v12 v13 r17 v14 w15 r18 v16 v17 r19 r20 r21 r22 r23 r24 v18 r25 r26 r27 v19) sz)) 0 0 (va_A (wd_171f232f h0 v0 r0 v1 v2 v3 v4 r1 r2 r3 r4 r5 r6 r7 v5 v6 r8 r9 r10 r11 v7 r12 r13 v8 v9 r14 r15 v10 v11 r16 v12 v13 r17 v14 w15 r18 v16 v17 r19 r20 r21 r22 r23 r24 v18 r25 r26 r27 v19) sz) := by
  refine Met.ofW (cc := cX12_tryShelf) (maxL := 7) (ret := none) (by decide) rfl ?_
  intro p e s m args below meth c s₁ B hml hv
  obtain ⟨i_v1a, i_v1b⟩ := i_v1
  obtain ⟨i_v5a, i_v5b⟩ := i_v5
  obtain ⟨i_v6a, i_v6b⟩ := i_v6
  obtain ⟨i_v7a, i_v7b⟩ := i_v7
  obtain ⟨i_v8a, i_v8b⟩ := i_v8
  obtain ⟨i_v9a, i_v9b⟩ := i_v9
  obtain ⟨i_v10a, i_v10b⟩ := i_v10
  obtain ⟨i_v14a, i_v14b⟩ := i_v14
  obtain ⟨i_v18a, i_v18b⟩ := i_v18
  obtain ⟨i_v19a, i_v19b⟩ := i_v19
  obtain ⟨i_v22a, i_v22b⟩ := i_v22
  obtain ⟨rfl, hsz, hP, hK, hD0⟩ := hv
  have hx := B.exec
  have hb := B.bytes
  have hr := B.returns
  have hts := atoms_spec (ws := q_X12_tryShelf) B.pre
  have hown : s.vm.findClass RX12 = some m.cls := findClass_of_methodNamed B.named
  have hlocks := B.notSynchronized
  subst hsz
  have hD := hD0.self (sz := s.heap.size)
  generalize hAe : va_A (wd_171f232f h0 v0 r0 v1 v2 v3 v4 r1 r2 r3 r4 r5 r6 r7 v5 v6 r8 r9 r10 r11 v7 r12 r13 v8 v9 r14 r15 v10 v11 r16 v12 v13 r17 v14 w15 r18 v16 v17 r19 r20 r21 r22 r23 r24 v18 r25 r26 r27 v19) s.heap.size = A at hD ⊢
  have hA : ∀ q : Nat, s.heap.size ≤ q → A q := fun q h => by rw [← hAe]; exact Or.inr h
  have hS : va_S A s.heap s.heap [] := va_S.rf
  generalize hQ : (MQ below _ _ s 0 0 A) = Q
  have hl := lv_entry ([.ref h0, .int 8, .int v20, .int v21, .int v22]) (n := 7) (Nat.le_of_ble_eq_true rfl)
  rw [lg_entry_eq]
  generalize (lg_sl ([.ref h0, .int 8, .int v20, .int v21, .int v22]) ++ List.replicate (7 - (lg_sl ([.ref h0, .int 8, .int v20, .int v21, .int v22])).length) Slot.unset).toArray = ls at hl ⊢
  have hl : lv_has ls 7 [(0, .ref h0), (1, .int 8), (2, .int v20), (3, .int v21), (4, .int v22)] := hl
  obtain ⟨H, hH⟩ : ∃ H : Heap, H = s.heap := ⟨_, rfl⟩
  obtain ⟨locs, hlocs⟩ : ∃ y : List Loc, y = [] := ⟨_, rfl⟩
  have hS : va_S A s.heap H locs := by rw [hH, hlocs]; exact va_S.rf
  have hP : va_P (dC, dI) vwCl (wd_171f232f h0 v0 r0 v1 v2 v3 v4 r1 r2 r3 r4 r5 r6 r7 v5 v6 r8 r9 r10 r11 v7 r12 r13 v8 v9 r14 r15 v10 v11 r16 v12 v13 r17 v14 w15 r18 v16 v17 r19 r20 r21 r22 r23 r24 v18 r25 r26 r27 v19) H := by rw [hH]; exact hP
  rw [← hH, ← hlocs]
  refine lv_aload_n hx hb dX12_tryShelf_0 rfl (lv_at hl 0 rfl) ?_
  refine va_get (D := (dC, dI)) (ci := 12) (v := .int v16) (C := RX12) (T := TX12) (N := 48) hx hb hts (fun _ h => List.mem_cons_of_mem _ (List.mem_append_right _ h)) hown hK hP 0 rfl rfl 35 (by decide) (hts (.fieldLink RX12 388 "LeftArgumentsModel" "bestRow" "I") (List.mem_cons_of_mem _ (List.mem_append_left _ (List.mem_of_getElem? (i := 0) rfl)))) (fun _ h9 => h9) rfl dX12_tryShelf_1 ?_
  refine lv_iconst (v := (-1)) hx hb dX12_tryShelf_4 (by decide) ?_
  refine lv_icmp_eq (tgt := 17) hx hb dX12_tryShelf_5 (by decide) (fun c1 => ?_) (fun c1 => ?_)
  · skip
    have fc1 : v16.toInt = (-1) := congrArg Int32.toInt c1
    refine lv_iload_n hx hb dX12_tryShelf_17 rfl (lv_at hl 1 rfl) ?_
    refine lv_bipush (v := 8) hx hb dX12_tryShelf_18 (by decide) ?_
    refine lv_icmp_ne (tgt := 34) hx hb dX12_tryShelf_20 (by decide) (fun c => absurd (by decide) c) (fun _ => ?_)
    refine lv_aload_n hx hb dX12_tryShelf_23 rfl (lv_at hl 0 rfl) ?_
    refine lv_iload_n hx hb dX12_tryShelf_24 rfl (lv_at hl 2 rfl) ?_
    refine va_put (D := (dC, dI)) (ci := 12) (v := .int v20) (ty := .int) (C := RX12) (T := TX12) (N := 48) hx hb hts (fun _ h => List.mem_cons_of_mem _ (List.mem_append_right _ h)) tyX12 tyX12_ok nmX12 hown hK hP hD hS 0 rfl rfl 35 (by decide) (hts (.fieldLink RX12 388 "LeftArgumentsModel" "bestRow" "I") (List.mem_cons_of_mem _ (List.mem_append_left _ (List.mem_of_getElem? (i := 0) rfl)))) (fun _ h9 => h9) rfl (by decide +kernel) rfl rfl (Nat.le_of_ble_eq_true rfl) dX12_tryShelf_25 (fun H locs hP hD hS => ?_)
    have hP : va_P (dC, dI) vwCl (wd_171f232f h0 v0 r0 v1 v2 v3 v4 r1 r2 r3 r4 r5 r6 r7 v5 v6 r8 r9 r10 r11 v7 r12 r13 v8 v9 r14 r15 v10 v11 r16 v12 v13 r17 v14 w15 r18 v20 v17 r19 r20 r21 r22 r23 r24 v18 r25 r26 r27 v19) H := hP
    have hD : va_D A (wd_171f232f h0 v0 r0 v1 v2 v3 v4 r1 r2 r3 r4 r5 r6 r7 v5 v6 r8 r9 r10 r11 v7 r12 r13 v8 v9 r14 r15 v10 v11 r16 v12 v13 r17 v14 w15 r18 v20 v17 r19 r20 r21 r22 r23 r24 v18 r25 r26 r27 v19) := hD
    refine lv_aload_n hx hb dX12_tryShelf_28 rfl (lv_at hl 0 rfl) ?_
    refine lv_iload_n hx hb dX12_tryShelf_29 rfl (lv_at hl 3 rfl) ?_
    refine va_put (D := (dC, dI)) (ci := 12) (v := .int v21) (ty := .int) (C := RX12) (T := TX12) (N := 48) hx hb hts (fun _ h => List.mem_cons_of_mem _ (List.mem_append_right _ h)) tyX12 tyX12_ok nmX12 hown hK hP hD hS 0 rfl rfl 36 (by decide) (hts (.fieldLink RX12 391 "LeftArgumentsModel" "bestMany" "I") (List.mem_cons_of_mem _ (List.mem_append_left _ (List.mem_of_getElem? (i := 1) rfl)))) (fun _ h9 => h9) rfl (by decide +kernel) rfl rfl (Nat.le_of_ble_eq_true rfl) dX12_tryShelf_30 (fun H locs hP hD hS => ?_)
    have hP : va_P (dC, dI) vwCl (wd_171f232f h0 v0 r0 v1 v2 v3 v4 r1 r2 r3 r4 r5 r6 r7 v5 v6 r8 r9 r10 r11 v7 r12 r13 v8 v9 r14 r15 v10 v11 r16 v12 v13 r17 v14 w15 r18 v20 v21 r19 r20 r21 r22 r23 r24 v18 r25 r26 r27 v19) H := hP
    have hD : va_D A (wd_171f232f h0 v0 r0 v1 v2 v3 v4 r1 r2 r3 r4 r5 r6 r7 v5 v6 r8 r9 r10 r11 v7 r12 r13 v8 v9 r14 r15 v10 v11 r16 v12 v13 r17 v14 w15 r18 v20 v21 r19 r20 r21 r22 r23 r24 v18 r25 r26 r27 v19) := hD
    subst hQ
    have hP9 := hP.sub (ws' := (wd_171f232f h0 v0 r0 v1 v2 v3 v4 r1 r2 r3 r4 r5 r6 r7 v5 v6 r8 r9 r10 r11 v7 r12 r13 v8 v9 r14 r15 v10 v11 r16 v12 v13 r17 v14 w15 r18 v20 v21 r19 r20 r21 r22 r23 r24 v18 r25 r26 r27 v19)) [0] rfl
    have hD9 := hD.sub (ws' := (wd_171f232f h0 v0 r0 v1 v2 v3 v4 r1 r2 r3 r4 r5 r6 r7 v5 v6 r8 r9 r10 r11 v7 r12 r13 v8 v9 r14 r15 v10 v11 r16 v12 v13 r17 v14 w15 r18 v20 v21 r19 r20 r21 r22 r23 r24 v18 r25 r26 r27 v19)) [0] (by decide) rfl
    have hK9 := hK.sub (tys' := []) [] rfl
    exact W.vret hx hb hr (fun t ht hW => ⟨⟨(), rfl, trivial, ⟨v20, v21, by rw [ht]; exact hP9, va_K.moved hW.alike hK9, hD9⟩⟩, hS.F ht⟩) hS.2.2 dX12_tryShelf_33
  · skip
    have fc1 : ¬ (v16.toInt = (-1)) := fun h9 => c1 (Int32.toInt_inj.mp h9)
    refine lv_iload_n hx hb dX12_tryShelf_8 rfl (lv_at hl 3 rfl) ?_
    refine lv_aload_n hx hb dX12_tryShelf_9 rfl (lv_at hl 0 rfl) ?_
    refine va_get (D := (dC, dI)) (ci := 12) (v := .int v17) (C := RX12) (T := TX12) (N := 48) hx hb hts (fun _ h => List.mem_cons_of_mem _ (List.mem_append_right _ h)) hown hK hP 0 rfl rfl 36 (by decide) (hts (.fieldLink RX12 391 "LeftArgumentsModel" "bestMany" "I") (List.mem_cons_of_mem _ (List.mem_append_left _ (List.mem_of_getElem? (i := 1) rfl)))) (fun _ h9 => h9) rfl dX12_tryShelf_10 ?_
    refine lv_icmp_lt (tgt := 17) hx hb dX12_tryShelf_13 (by decide) (fun c2 => ?_) (fun c2 => ?_)
    · skip
      have fc2 : v21.toInt < v17.toInt := Int32.lt_iff_toInt_lt.mp c2
      have r1c2 := Int32.toInt_lt v21
      have r2c2 := Int32.toInt_lt v17
      have r3c2 := Int32.le_toInt v21
      have r4c2 := Int32.le_toInt v17
      refine lv_iload_n hx hb dX12_tryShelf_17 rfl (lv_at hl 1 rfl) ?_
      refine lv_bipush (v := 8) hx hb dX12_tryShelf_18 (by decide) ?_
      refine lv_icmp_ne (tgt := 34) hx hb dX12_tryShelf_20 (by decide) (fun c => absurd (by decide) c) (fun _ => ?_)
      refine lv_aload_n hx hb dX12_tryShelf_23 rfl (lv_at hl 0 rfl) ?_
      refine lv_iload_n hx hb dX12_tryShelf_24 rfl (lv_at hl 2 rfl) ?_
      refine va_put (D := (dC, dI)) (ci := 12) (v := .int v20) (ty := .int) (C := RX12) (T := TX12) (N := 48) hx hb hts (fun _ h => List.mem_cons_of_mem _ (List.mem_append_right _ h)) tyX12 tyX12_ok nmX12 hown hK hP hD hS 0 rfl rfl 35 (by decide) (hts (.fieldLink RX12 388 "LeftArgumentsModel" "bestRow" "I") (List.mem_cons_of_mem _ (List.mem_append_left _ (List.mem_of_getElem? (i := 0) rfl)))) (fun _ h9 => h9) rfl (by decide +kernel) rfl rfl (Nat.le_of_ble_eq_true rfl) dX12_tryShelf_25 (fun H locs hP hD hS => ?_)
      have hP : va_P (dC, dI) vwCl (wd_171f232f h0 v0 r0 v1 v2 v3 v4 r1 r2 r3 r4 r5 r6 r7 v5 v6 r8 r9 r10 r11 v7 r12 r13 v8 v9 r14 r15 v10 v11 r16 v12 v13 r17 v14 w15 r18 v20 v17 r19 r20 r21 r22 r23 r24 v18 r25 r26 r27 v19) H := hP
      have hD : va_D A (wd_171f232f h0 v0 r0 v1 v2 v3 v4 r1 r2 r3 r4 r5 r6 r7 v5 v6 r8 r9 r10 r11 v7 r12 r13 v8 v9 r14 r15 v10 v11 r16 v12 v13 r17 v14 w15 r18 v20 v17 r19 r20 r21 r22 r23 r24 v18 r25 r26 r27 v19) := hD
      refine lv_aload_n hx hb dX12_tryShelf_28 rfl (lv_at hl 0 rfl) ?_
      refine lv_iload_n hx hb dX12_tryShelf_29 rfl (lv_at hl 3 rfl) ?_
      refine va_put (D := (dC, dI)) (ci := 12) (v := .int v21) (ty := .int) (C := RX12) (T := TX12) (N := 48) hx hb hts (fun _ h => List.mem_cons_of_mem _ (List.mem_append_right _ h)) tyX12 tyX12_ok nmX12 hown hK hP hD hS 0 rfl rfl 36 (by decide) (hts (.fieldLink RX12 391 "LeftArgumentsModel" "bestMany" "I") (List.mem_cons_of_mem _ (List.mem_append_left _ (List.mem_of_getElem? (i := 1) rfl)))) (fun _ h9 => h9) rfl (by decide +kernel) rfl rfl (Nat.le_of_ble_eq_true rfl) dX12_tryShelf_30 (fun H locs hP hD hS => ?_)
      have hP : va_P (dC, dI) vwCl (wd_171f232f h0 v0 r0 v1 v2 v3 v4 r1 r2 r3 r4 r5 r6 r7 v5 v6 r8 r9 r10 r11 v7 r12 r13 v8 v9 r14 r15 v10 v11 r16 v12 v13 r17 v14 w15 r18 v20 v21 r19 r20 r21 r22 r23 r24 v18 r25 r26 r27 v19) H := hP
      have hD : va_D A (wd_171f232f h0 v0 r0 v1 v2 v3 v4 r1 r2 r3 r4 r5 r6 r7 v5 v6 r8 r9 r10 r11 v7 r12 r13 v8 v9 r14 r15 v10 v11 r16 v12 v13 r17 v14 w15 r18 v20 v21 r19 r20 r21 r22 r23 r24 v18 r25 r26 r27 v19) := hD
      subst hQ
      have hP9 := hP.sub (ws' := (wd_171f232f h0 v0 r0 v1 v2 v3 v4 r1 r2 r3 r4 r5 r6 r7 v5 v6 r8 r9 r10 r11 v7 r12 r13 v8 v9 r14 r15 v10 v11 r16 v12 v13 r17 v14 w15 r18 v20 v21 r19 r20 r21 r22 r23 r24 v18 r25 r26 r27 v19)) [0] rfl
      have hD9 := hD.sub (ws' := (wd_171f232f h0 v0 r0 v1 v2 v3 v4 r1 r2 r3 r4 r5 r6 r7 v5 v6 r8 r9 r10 r11 v7 r12 r13 v8 v9 r14 r15 v10 v11 r16 v12 v13 r17 v14 w15 r18 v20 v21 r19 r20 r21 r22 r23 r24 v18 r25 r26 r27 v19)) [0] (by decide) rfl
      have hK9 := hK.sub (tys' := []) [] rfl
      exact W.vret hx hb hr (fun t ht hW => ⟨⟨(), rfl, trivial, ⟨v20, v21, by rw [ht]; exact hP9, va_K.moved hW.alike hK9, hD9⟩⟩, hS.F ht⟩) hS.2.2 dX12_tryShelf_33
    · skip
      have fc2 : ¬ (v21.toInt < v17.toInt) := fun h9 => c2 (Int32.lt_iff_toInt_lt.mpr h9)
      have r1c2 := Int32.toInt_lt v21
      have r2c2 := Int32.toInt_lt v17
      have r3c2 := Int32.le_toInt v21
      have r4c2 := Int32.le_toInt v17
      subst hQ
      have hP9 := hP.sub (ws' := (wd_171f232f h0 v0 r0 v1 v2 v3 v4 r1 r2 r3 r4 r5 r6 r7 v5 v6 r8 r9 r10 r11 v7 r12 r13 v8 v9 r14 r15 v10 v11 r16 v12 v13 r17 v14 w15 r18 v16 v17 r19 r20 r21 r22 r23 r24 v18 r25 r26 r27 v19)) [0] rfl
      have hD9 := hD.sub (ws' := (wd_171f232f h0 v0 r0 v1 v2 v3 v4 r1 r2 r3 r4 r5 r6 r7 v5 v6 r8 r9 r10 r11 v7 r12 r13 v8 v9 r14 r15 v10 v11 r16 v12 v13 r17 v14 w15 r18 v16 v17 r19 r20 r21 r22 r23 r24 v18 r25 r26 r27 v19)) [0] (by decide) rfl
      have hK9 := hK.sub (tys' := []) [] rfl
      exact W.vret hx hb hr (fun t ht hW => ⟨⟨(), rfl, trivial, ⟨v16, v17, by rw [ht]; exact hP9, va_K.moved hW.alike hK9, hD9⟩⟩, hS.F ht⟩) hS.2.2 dX12_tryShelf_16
def q_X12_tryShelf_1 : List Cond := .code yX12_tryShelf cX12_tryShelf 7 none :: (([.fieldLink RX12 388 "LeftArgumentsModel" "bestRow" "I", .code yX12_isThere cX12_isThere 2 (some .boolean), .code yX12_in cX12_in 3 (some .boolean), .initialized RX12, .static yX12_in, .methodLink RX12 217 yX12_in, .code yX12_of cX12_of 3 (some .int), .fieldLink RX12 52 "LeftArgumentsModel" "now" "[I", .instanceMethod yX12_of, .selects RX12 yX12_of yX12_of, .methodLink RX12 287 yX12_of, .instanceMethod yX12_isThere, .selects RX12 yX12_isThere yX12_isThere, .methodLink RX12 290 yX12_isThere, .code yX12_isCalm cX12_isCalm 4 (some .boolean), .fieldLink RX12 74 "LeftArgumentsModel" "onShelf" "[I", .code yX12_setsOff cX12_setsOff 3 (some .boolean), .methodLink RX12 411 Lib.Math.abs.name, .static Lib.Math.abs.name, .initialized "java/lang/Math", .code Lib.Math.abs.name Lib.Math.abs.code 1 (some .int), .code yX12_stubbornOf cX12_stubbornOf 2 (some .int), .instanceMethod yX12_stubbornOf, .selects RX12 yX12_stubbornOf yX12_stubbornOf, .methodLink RX12 414 yX12_stubbornOf, .instanceMethod yX12_setsOff, .selects RX12 yX12_setsOff yX12_setsOff, .methodLink RX12 401 yX12_setsOff, .instanceMethod yX12_isCalm, .selects RX12 yX12_isCalm yX12_isCalm, .methodLink RX12 398 yX12_isCalm, .fieldLink RX12 77 "LeftArgumentsModel" "room" "[I", .code yX12_tryShelf cX12_tryShelf 7 none, .fieldLink RX12 391 "LeftArgumentsModel" "bestMany" "I", .instanceMethod yX12_tryShelf, .selects RX12 yX12_tryShelf yX12_tryShelf, .methodLink RX12 394 yX12_tryShelf, .fieldLink RX12 46 "LeftArgumentsModel" "rule" "[I"] : List Cond) ++ wsX120)
set_option maxRecDepth 20000 in
theorem g_X12_tryShelf_1_0 : GoodIn q_X12_tryShelf_1 (wsV RX12 290 RX12 yX12_isThere q_X12_isThere) := goodIn_app (goodIn_r _ [14, 12, 13, 4] rfl (by decide +kernel)) (goodIn_ca (goodIn_r (.code yX12_isThere cX12_isThere 2 (some .boolean) :: [.code yX12_in cX12_in 3 (some .boolean), .initialized RX12, .static yX12_in, .methodLink RX12 217 yX12_in, .code yX12_of cX12_of 3 (some .int), .fieldLink RX12 52 "LeftArgumentsModel" "now" "[I", .instanceMethod yX12_of, .selects RX12 yX12_of yX12_of, .methodLink RX12 287 yX12_of]) [2, 3, 4, 5, 6, 7, 8, 9, 10, 11] rfl (by decide +kernel)) (goodIn_sub (fun _ h => List.mem_cons_of_mem _ (List.mem_append_right _ h)) gwX12))
set_option maxRecDepth 20000 in
theorem g_X12_tryShelf_1_1 : GoodIn q_X12_tryShelf_1 (wsV RX12 398 RX12 yX12_isCalm q_X12_isCalm) := goodIn_app (goodIn_r _ [31, 29, 30, 4] rfl (by decide +kernel)) (goodIn_ca (goodIn_r (.code yX12_isCalm cX12_isCalm 4 (some .boolean) :: [.code yX12_isThere cX12_isThere 2 (some .boolean), .code yX12_in cX12_in 3 (some .boolean), .initialized RX12, .static yX12_in, .methodLink RX12 217 yX12_in, .code yX12_of cX12_of 3 (some .int), .fieldLink RX12 52 "LeftArgumentsModel" "now" "[I", .instanceMethod yX12_of, .selects RX12 yX12_of yX12_of, .methodLink RX12 287 yX12_of, .instanceMethod yX12_isThere, .selects RX12 yX12_isThere yX12_isThere, .methodLink RX12 290 yX12_isThere, .fieldLink RX12 74 "LeftArgumentsModel" "onShelf" "[I", .code yX12_setsOff cX12_setsOff 3 (some .boolean), .methodLink RX12 411 Lib.Math.abs.name, .static Lib.Math.abs.name, .initialized "java/lang/Math", .code Lib.Math.abs.name Lib.Math.abs.code 1 (some .int), .code yX12_stubbornOf cX12_stubbornOf 2 (some .int), .instanceMethod yX12_stubbornOf, .selects RX12 yX12_stubbornOf yX12_stubbornOf, .methodLink RX12 414 yX12_stubbornOf, .instanceMethod yX12_setsOff, .selects RX12 yX12_setsOff yX12_setsOff, .methodLink RX12 401 yX12_setsOff]) [15, 2, 3, 4, 5, 6, 7, 8, 9, 10, 11, 12, 13, 14, 16, 17, 18, 19, 20, 21, 22, 23, 24, 25, 26, 27, 28] rfl (by decide +kernel)) (goodIn_sub (fun _ h => List.mem_cons_of_mem _ (List.mem_append_right _ h)) gwX12))
set_option maxRecDepth 20000 in
theorem g_X12_tryShelf_1_2 : GoodIn q_X12_tryShelf_1 (wsV RX12 287 RX12 yX12_of q_X12_of_3) := goodIn_app (goodIn_r _ [11, 9, 10, 4] rfl (by decide +kernel)) (goodIn_ca (goodIn_r (.code yX12_of cX12_of 3 (some .int) :: [.fieldLink RX12 52 "LeftArgumentsModel" "now" "[I"]) [7, 8] rfl (by decide +kernel)) (goodIn_sub (fun _ h => List.mem_cons_of_mem _ (List.mem_append_right _ h)) gwX12))
set_option maxRecDepth 20000 in
theorem g_X12_tryShelf_1_4 : GoodIn q_X12_tryShelf_1 (wsV RX12 394 RX12 yX12_tryShelf q_X12_tryShelf) := goodIn_app (goodIn_r _ [37, 35, 36, 4] rfl (by decide +kernel)) (goodIn_ca (goodIn_r (.code yX12_tryShelf cX12_tryShelf 7 none :: [.fieldLink RX12 388 "LeftArgumentsModel" "bestRow" "I", .fieldLink RX12 391 "LeftArgumentsModel" "bestMany" "I"]) [33, 1, 34] rfl (by decide +kernel)) (goodIn_sub (fun _ h => List.mem_cons_of_mem _ (List.mem_append_right _ h)) gwX12))
set_option maxHeartbeats 4000000 in
set_option maxRecDepth 100000 in
theorem k_X12_tryShelf_1 (l : Launch) (dC : Nat → ClassId) (dI : Nat → Nat → Nat) (h0 : Nat) (h1 : Nat) (h2 : Nat) (h3 : Nat) (h4 : Nat) (v0 : Int32) (r0 : Nat) (v1 : Int32) (v2 : Int32) (v3 : Int32) (v4 : Int32) (r1 : Nat) (r2 : Nat) (r3 : Nat) (r4 : Nat) (r5 : Nat) (r6 : Nat) (r7 : Nat) (v5 : Int32) (v6 : Int32) (r8 : Nat) (r9 : Nat) (r10 : Nat) (r11 : Nat) (v7 : Int32) (r12 : Nat) (v8 : Int32) (v9 : Int32) (r13 : Nat) (v10 : Int32) (v11 : Int32) (r14 : Nat) (v12 : Int32) (v13 : Int32) (r15 : Nat) (v14 : Int32) (w15 : Int64) (r16 : Nat) (v16 : Int32) (v17 : Int32) (r17 : Nat) (r18 : Nat) (r19 : Nat) (r20 : Nat) (v18 : Int32) (r21 : Nat) (r22 : Nat) (r23 : Nat) (v19 : Int32) (g0 : ClassId) (f20 : Nat → Int32) (g1 : ClassId) (f21 : Nat → Int32) (g2 : ClassId) (f22 : Nat → Int32) (g3 : ClassId) (f23 : Nat → Int32) (v24 : Int32) (v25 : Int32) (v26 : Int32) (i_v1 : 0 ≤ v1.toInt ∧ v1.toInt ≤ 240) (i_v5 : 0 ≤ v5.toInt ∧ v5.toInt ≤ 4) (i_v6 : 0 ≤ v6.toInt ∧ v6.toInt ≤ 4) (i_v7 : 0 ≤ v7.toInt ∧ v7.toInt ≤ 8) (i_v8 : 0 ≤ v8.toInt ∧ v8.toInt ≤ 8) (i_v9 : 0 ≤ v9.toInt ∧ v9.toInt ≤ 1) (i_v10 : -1 ≤ v10.toInt ∧ v10.toInt ≤ 3) (i_v14 : 0 ≤ v14.toInt ∧ v14.toInt ≤ 40) (i_v18 : 0 ≤ v18.toInt ∧ v18.toInt ≤ 10) (i_v19 : 0 ≤ v19.toInt ∧ v19.toInt ≤ 1) (i_v26 : 0 ≤ v26.toInt ∧ v26.toInt ≤ 1) (ia_f20 : (pm_RU f20)) (ia_f21 : (pm_NW f21)) (sz : Nat) : Met l yX12_tryShelf q_X12_tryShelf_1 ({ frames := 4, cells := 0, slots := 0, locals := 88 }) (va_Pc [.ref h0, .int 7, .int v24, .int v25, .int v26] (fun U => U.heap.size = sz ∧ va_P (dC, dI) vwCl (wd_90cd99f9 h0 v0 r0 v1 v2 v3 v4 r1 r2 r3 r4 r5 r6 r7 v5 v6 r8 r9 r10 r11 v7 h1 r12 v8 v9 h2 r13 v10 v11 r14 v12 v13 r15 v14 w15 r16 v16 v17 h3 h4 r17 r18 r19 r20 v18 r21 r22 r23 v19 h1 g0 f20 h2 g1 f21 h3 g2 f22 h4 g3 f23) U.heap ∧ va_K (dC, dI) vwCl [(g0, .int), (g1, .int), (g2, .int), (g3, .int)] U ∧ va_D (fun _ => True) (wd_90cd99f9 h0 v0 r0 v1 v2 v3 v4 r1 r2 r3 r4 r5 r6 r7 v5 v6 r8 r9 r10 r11 v7 h1 r12 v8 v9 h2 r13 v10 v11 r14 v12 v13 r15 v14 w15 r16 v16 v17 h3 h4 r17 r18 r19 r20 v18 r21 r22 r23 v19 h1 g0 f20 h2 g1 f21 h3 g2 f22 h4 g3 f23))) (va_Qv (fun (_ : Unit) => True) (fun (_ : Unit) (t : State) => (∃ (o_h0_35 : Int32) (o_h0_36 : Int32) (o_h3 : Nat → Int32) (o_h4 : Nat → Int32), va_P (dC, dI) vwCl (wd_90cd99f9 h0 v0 r0 v1 v2 v3 v4 r1 r2 r3 r4 r5 r6 r7 v5 v6 r8 r9 r10 r11 v7 h1 r12 v8 v9 h2 r13 v10 v11 r14 v12 v13 r15 v14 w15 r16 o_h0_35 o_h0_36 h3 h4 r17 r18 r19 r20 v18 r21 r22 r23 v19 h1 g0 f20 h2 g1 f21 h3 g2 o_h3 h4 g3 o_h4) t.heap ∧ va_K (dC, dI) vwCl [] t ∧ va_D (va_A (wd_90cd99f9 h0 v0 r0 v1 v2 v3 v4 r1 r2 r3 r4 r5 r6 r7 v5 v6 r8 r9 r10 r11 v7 h1 r12 v8 v9 h2 r13 v10 v11 r14 v12 v13 r15 v14 w15 r16 v16 v17 h3 h4 r17 r18 r19 r20 v18 r21 r22 r23 v19 h1 g0 f20 h2 g1 f21 h3 g2 f22 h4 g3 f23) sz) (wd_90cd99f9 h0 v0 r0 v1 v2 v3 v4 r1 r2 r3 r4 r5 r6 r7 v5 v6 r8 r9 r10 r11 v7 h1 r12 v8 v9 h2 r13 v10 v11 r14 v12 v13 r15 v14 w15 r16 o_h0_35 o_h0_36 h3 h4 r17 r18 r19 r20 v18 r21 r22 r23 v19 h1 g0 f20 h2 g1 f21 h3 g2 o_h3 h4 g3 o_h4))) (va_A (wd_90cd99f9 h0 v0 r0 v1 v2 v3 v4 r1 r2 r3 r4 r5 r6 r7 v5 v6 r8 r9 r10 r11 v7 h1 r12 v8 v9 h2 r13 v10 v11 r14 v12 v13 r15 v14 w15 r16 v16 v17 h3 h4 r17 r18 r19 r20 v18 r21 r22 r23 v19 h1 g0 f20 h2 g1 f21 h3 g2 f22 h4 g3 f23) sz)) 0 0 (va_A (wd_90cd99f9 h0 v0 r0 v1 v2 v3 v4 r1 r2 r3 r4 r5 r6 r7 v5 v6 r8 r9 r10 r11 v7 h1 r12 v8 v9 h2 r13 v10 v11 r14 v12 v13 r15 v14 w15 r16 v16 v17 h3 h4 r17 r18 r19 r20 v18 r21 r22 r23 v19 h1 g0 f20 h2 g1 f21 h3 g2 f22 h4 g3 f23) sz) := by
  refine Met.ofW (cc := cX12_tryShelf) (maxL := 7) (ret := none) (by decide) rfl ?_
  intro p e s m args below meth c s₁ B hml hv
  obtain ⟨i_v1a, i_v1b⟩ := i_v1
  obtain ⟨i_v5a, i_v5b⟩ := i_v5
  obtain ⟨i_v6a, i_v6b⟩ := i_v6
  obtain ⟨i_v7a, i_v7b⟩ := i_v7
  obtain ⟨i_v8a, i_v8b⟩ := i_v8
  obtain ⟨i_v9a, i_v9b⟩ := i_v9
  obtain ⟨i_v10a, i_v10b⟩ := i_v10
  obtain ⟨i_v14a, i_v14b⟩ := i_v14
  obtain ⟨i_v18a, i_v18b⟩ := i_v18
  obtain ⟨i_v19a, i_v19b⟩ := i_v19
  obtain ⟨i_v26a, i_v26b⟩ := i_v26
  obtain ⟨rfl, hsz, hP, hK, hD0⟩ := hv
  have hx := B.exec
  have hb := B.bytes
  have hr := B.returns
  have hts := atoms_spec (ws := q_X12_tryShelf_1) B.pre
  have hown : s.vm.findClass RX12 = some m.cls := findClass_of_methodNamed B.named
  have hlocks := B.notSynchronized
  subst hsz
  have hD := hD0.self (sz := s.heap.size)
  generalize hAe : va_A (wd_90cd99f9 h0 v0 r0 v1 v2 v3 v4 r1 r2 r3 r4 r5 r6 r7 v5 v6 r8 r9 r10 r11 v7 h1 r12 v8 v9 h2 r13 v10 v11 r14 v12 v13 r15 v14 w15 r16 v16 v17 h3 h4 r17 r18 r19 r20 v18 r21 r22 r23 v19 h1 g0 f20 h2 g1 f21 h3 g2 f22 h4 g3 f23) s.heap.size = A at hD ⊢
  have hA : ∀ q : Nat, s.heap.size ≤ q → A q := fun q h => by rw [← hAe]; exact Or.inr h
  have hS : va_S A s.heap s.heap [] := va_S.rf
  generalize hQ : (MQ below _ _ s 0 0 A) = Q
  have hl := lv_entry ([.ref h0, .int 7, .int v24, .int v25, .int v26]) (n := 7) (Nat.le_of_ble_eq_true rfl)
  rw [lg_entry_eq]
  generalize (lg_sl ([.ref h0, .int 7, .int v24, .int v25, .int v26]) ++ List.replicate (7 - (lg_sl ([.ref h0, .int 7, .int v24, .int v25, .int v26])).length) Slot.unset).toArray = ls at hl ⊢
  have hl : lv_has ls 7 [(0, .ref h0), (1, .int 7), (2, .int v24), (3, .int v25), (4, .int v26)] := hl
  obtain ⟨H, hH⟩ : ∃ H : Heap, H = s.heap := ⟨_, rfl⟩
  obtain ⟨locs, hlocs⟩ : ∃ y : List Loc, y = [] := ⟨_, rfl⟩
  have hS : va_S A s.heap H locs := by rw [hH, hlocs]; exact va_S.rf
  have hP : va_P (dC, dI) vwCl (wd_90cd99f9 h0 v0 r0 v1 v2 v3 v4 r1 r2 r3 r4 r5 r6 r7 v5 v6 r8 r9 r10 r11 v7 h1 r12 v8 v9 h2 r13 v10 v11 r14 v12 v13 r15 v14 w15 r16 v16 v17 h3 h4 r17 r18 r19 r20 v18 r21 r22 r23 v19 h1 g0 f20 h2 g1 f21 h3 g2 f22 h4 g3 f23) H := by rw [hH]; exact hP
  rw [← hH, ← hlocs]
  refine lv_aload_n hx hb dX12_tryShelf_0 rfl (lv_at hl 0 rfl) ?_
  refine va_get (D := (dC, dI)) (ci := 12) (v := .int v16) (C := RX12) (T := TX12) (N := 48) hx hb hts (fun _ h => List.mem_cons_of_mem _ (List.mem_append_right _ h)) hown hK hP 0 rfl rfl 35 (by decide) (hts (.fieldLink RX12 388 "LeftArgumentsModel" "bestRow" "I") (List.mem_cons_of_mem _ (List.mem_append_left _ (List.mem_of_getElem? (i := 0) rfl)))) (fun _ h9 => h9) rfl dX12_tryShelf_1 ?_
  refine lv_iconst (v := (-1)) hx hb dX12_tryShelf_4 (by decide) ?_
  refine lv_icmp_eq (tgt := 17) hx hb dX12_tryShelf_5 (by decide) (fun c1 => ?_) (fun c1 => ?_)
  · skip
    have fc1 : v16.toInt = (-1) := congrArg Int32.toInt c1
    refine lv_iload_n hx hb dX12_tryShelf_17 rfl (lv_at hl 1 rfl) ?_
    refine lv_bipush (v := 8) hx hb dX12_tryShelf_18 (by decide) ?_
    refine lv_icmp_ne (tgt := 34) hx hb dX12_tryShelf_20 (by decide) (fun _ => ?_) (fun c => absurd c (by decide))
    refine lv_aload_n hx hb dX12_tryShelf_34 rfl (lv_at hl 0 rfl) ?_
    refine lv_iload_n hx hb dX12_tryShelf_35 rfl (lv_at hl 1 rfl) ?_
    have hPc := hP.sub (ws' := (wd_5013416a h0 v0 r0 v1 v2 v3 v4 r1 r2 r3 r4 r5 r6 r7 v5 v6 r8 r9 r10 r11 v7 h1 r12 v8 v9 h2 r13 v10 v11 r14 v12 v13 r15 v14 w15 r16 v16 v17 h3 h4 r17 r18 r19 r20 v18 r21 r22 r23 v19 h2 g1 f21)) [0, 2] rfl
    have hDc := hD.sub (ws' := (wd_5013416a h0 v0 r0 v1 v2 v3 v4 r1 r2 r3 r4 r5 r6 r7 v5 v6 r8 r9 r10 r11 v7 h1 r12 v8 v9 h2 r13 v10 v11 r14 v12 v13 r15 v14 w15 r16 v16 v17 h3 h4 r17 r18 r19 r20 v18 r21 r22 r23 v19 h2 g1 f21)) [0, 2] (by decide) rfl
    have hKc := hK.sub (tys' := [(g1, .int)]) [1] rfl
    have hFc := va_free (wc := (wd_5013416a h0 v0 r0 v1 v2 v3 v4 r1 r2 r3 r4 r5 r6 r7 v5 v6 r8 r9 r10 r11 v7 h1 r12 v8 v9 h2 r13 v10 v11 r14 v12 v13 r15 v14 w15 r16 v16 v17 h3 h4 r17 r18 r19 r20 v18 r21 r22 r23 v19 h2 g1 f21)) hD hS hA [0, 2] rfl
    refine va_calli (va_runV (As := [.int 7]) (rest := []) ⟨hx, hb, hml, hown, hts⟩ (k_X12_isThere l dC dI h0 h2 v0 r0 v1 v2 v3 v4 r1 r2 r3 r4 r5 r6 r7 v5 v6 r8 r9 r10 r11 v7 h1 r12 v8 v9 r13 v10 v11 r14 v12 v13 r15 v14 w15 r16 v16 v17 h3 h4 r17 r18 r19 r20 v18 r21 r22 r23 v19 g1 f21 7 ⟨i_v1a, i_v1b⟩ ⟨i_v5a, i_v5b⟩ ⟨i_v6a, i_v6b⟩ ⟨i_v7a, i_v7b⟩ ⟨i_v8a, i_v8b⟩ ⟨i_v9a, i_v9b⟩ ⟨i_v10a, i_v10b⟩ ⟨i_v14a, i_v14b⟩ ⟨i_v18a, i_v18b⟩ ⟨i_v19a, i_v19b⟩ ia_f21.1 H.size) (cwV 1 hts g_X12_tryShelf_1_0 rfl rfl rfl (by decide +kernel) ⟨Nat.le_of_ble_eq_true rfl, Nat.le_of_ble_eq_true rfl⟩) (pv_PV12 hPc hKc hDc (q0 := 0) rfl) rfl rfl hl.1 rfl (lv_room (Nat.le_of_ble_eq_true rfl)) dX12_tryShelf_36 ⟨Nat.le_of_ble_eq_true rfl, Nat.le_of_ble_eq_true rfl⟩) hS (fun q _ h => hFc q h) hFc (fun ra2 u t H1 locs ht hvm hwra2 hB hz1 hk1 hS => ?_)
    try rw [hwra2] at hB
    have hkra2_0 : ((7 : Int32)).toInt = 7 := by decide
    obtain ⟨pt0_ra2, pt1_ra2, pt2_ra2, pt3_ra2, pt4_ra2, pt5_ra2, hP1, hK1, hD1⟩ := hB
    rw [ht] at hP1
    obtain ⟨hP2, hD2⟩ := va_join (wr := (wd_20b67a68 h1 g0 f20 h3 g2 f22 h4 g3 f23)) (w1 := (wd_5013416a h0 v0 r0 v1 v2 v3 v4 r1 r2 r3 r4 r5 r6 r7 v5 v6 r8 r9 r10 r11 v7 h1 r12 v8 v9 h2 r13 v10 v11 r14 v12 v13 r15 v14 w15 r16 v16 v17 h3 h4 r17 r18 r19 r20 v18 r21 r22 r23 v19 h2 g1 f21)) hP hD [0, 2] [1, 3, 4] rfl rfl (by decide) (by decide) hk1 hFc hP1 hD1
    clear hP hD hPc hDc hKc hFc hP1 hK1 hD1 hk1 hz1
    generalize H1 = H at hP2 hS ⊢
    have hP := hP2.sub (ws' := (wd_90cd99f9 h0 v0 r0 v1 v2 v3 v4 r1 r2 r3 r4 r5 r6 r7 v5 v6 r8 r9 r10 r11 v7 h1 r12 v8 v9 h2 r13 v10 v11 r14 v12 v13 r15 v14 w15 r16 v16 v17 h3 h4 r17 r18 r19 r20 v18 r21 r22 r23 v19 h1 g0 f20 h2 g1 f21 h3 g2 f22 h4 g3 f23)) [3, 0, 4, 1, 2] rfl
    have hD := hD2.sub (ws' := (wd_90cd99f9 h0 v0 r0 v1 v2 v3 v4 r1 r2 r3 r4 r5 r6 r7 v5 v6 r8 r9 r10 r11 v7 h1 r12 v8 v9 h2 r13 v10 v11 r14 v12 v13 r15 v14 w15 r16 v16 v17 h3 h4 r17 r18 r19 r20 v18 r21 r22 r23 v19 h1 g0 f20 h2 g1 f21 h3 g2 f22 h4 g3 f23)) [3, 0, 4, 1, 2] (by decide) rfl
    clear hP2 hD2
    have wra2 : ra2.toInt = 0 → ¬ f21 (pm_I 7 7) = 1 := fun h9 => pt5_ra2 h9 (by omega) (by omega)
    refine lv_if_ne (tgt := 54) hx hb dX12_tryShelf_39 (by decide) (fun c3 => ?_) (fun c3 => ?_)
    · skip
      have fc3 : ¬ (ra2.toInt = 0) := fun h9 => c3 (Int32.toInt_inj.mp h9)
      have q1pt4_ra2 := pt4_ra2 (by omega)
      refine lv_iload hx hb dX12_tryShelf_54 (lv_at hl 4 rfl) ?_
      have hJ5 : ∀ (x4 : Int32) (H : Heap) (locs : List Loc) (ls : Array Slot), 0 ≤ x4.toInt → x4.toInt ≤ 8 → va_P (dC, dI) vwCl (wd_90cd99f9 h0 v0 r0 v1 v2 v3 v4 r1 r2 r3 r4 r5 r6 r7 v5 v6 r8 r9 r10 r11 v7 h1 r12 v8 v9 h2 r13 v10 v11 r14 v12 v13 r15 v14 w15 r16 v16 v17 h3 h4 r17 r18 r19 r20 v18 r21 r22 r23 v19 h1 g0 f20 h2 g1 f21 h3 g2 f22 h4 g3 f23) H → va_D A (wd_90cd99f9 h0 v0 r0 v1 v2 v3 v4 r1 r2 r3 r4 r5 r6 r7 v5 v6 r8 r9 r10 r11 v7 h1 r12 v8 v9 h2 r13 v10 v11 r14 v12 v13 r15 v14 w15 r16 v16 v17 h3 h4 r17 r18 r19 r20 v18 r21 r22 r23 v19 h1 g0 f20 h2 g1 f21 h3 g2 f22 h4 g3 f23) → va_S A s.heap H locs → lv_has ls 7 [(0, .ref h0), (1, .int 7), (2, .int v24), (3, .int v25), (4, .int v26)] → W p l e ({ frames := 4, cells := 0, slots := 0, locals := 88 }) s m ([.ref h0, .int 7, .int v24, .int v25, .int v26] : List Value).toArray below meth c H locs 0 0 Q (F0 m 70 ls [.int x4]) := by
        intro x4 H locs ls qa_x4 qb_x4 hP hD hS hl
        refine lv_istore (lv' := [(5, .int x4), (0, .ref h0), (1, .int 7), (2, .int v24), (3, .int v25), (4, .int v26)]) hx hb dX12_tryShelf_70 hl (by decide) rfl (fun ls hl => ?_)
        refine lv_iconst (v := 0) hx hb dX12_tryShelf_72 (by decide) ?_
        refine lv_istore (lv' := [(6, .int 0), (5, .int x4), (0, .ref h0), (1, .int 7), (2, .int v24), (3, .int v25), (4, .int v26)]) hx hb dX12_tryShelf_73 hl (by decide) rfl (fun ls hl => ?_)
        have hL31 : ∀ (n9 : Nat), ∀ (x21 : Int32) (x22 : Int32) (x23 : Int32) (fn24 : Nat → Int32) (fn25 : Nat → Int32) (H : Heap) (locs : List Loc) (ls : Array Slot), 0 ≤ x21.toInt → x21.toInt ≤ 8 → (8 - x21.toInt).toNat < n9 → va_P (dC, dI) vwCl (wd_90cd99f9 h0 v0 r0 v1 v2 v3 v4 r1 r2 r3 r4 r5 r6 r7 v5 v6 r8 r9 r10 r11 v7 h1 r12 v8 v9 h2 r13 v10 v11 r14 v12 v13 r15 v14 w15 r16 x22 x23 h3 h4 r17 r18 r19 r20 v18 r21 r22 r23 v19 h1 g0 f20 h2 g1 f21 h3 g2 fn24 h4 g3 fn25) H → va_D A (wd_90cd99f9 h0 v0 r0 v1 v2 v3 v4 r1 r2 r3 r4 r5 r6 r7 v5 v6 r8 r9 r10 r11 v7 h1 r12 v8 v9 h2 r13 v10 v11 r14 v12 v13 r15 v14 w15 r16 x22 x23 h3 h4 r17 r18 r19 r20 v18 r21 r22 r23 v19 h1 g0 f20 h2 g1 f21 h3 g2 fn24 h4 g3 fn25) → va_S A s.heap H locs → lv_has ls 7 [(6, .int x21), (5, .int x4), (0, .ref h0), (1, .int 7), (2, .int v24), (3, .int v25), (4, .int v26)] → W p l e ({ frames := 4, cells := 0, slots := 0, locals := 88 }) s m ([.ref h0, .int 7, .int v24, .int v25, .int v26] : List Value).toArray below meth c H locs 0 0 Q (F0 m 75 ls []) := by
          intro n9
          induction n9 with
          | zero => intro x21 x22 x23 fn24 fn25 H locs ls qa_x21 qb_x21 hm9 hP hD hS hl; exact absurd hm9 (Nat.not_lt_zero _)
          | succ n9 ih_hL31 =>
            intro x21 x22 x23 fn24 fn25 H locs ls qa_x21 qb_x21 hm9 hP hD hS hl
            refine lv_iload hx hb dX12_tryShelf_75 (lv_at hl 0 rfl) ?_
            refine lv_iload hx hb dX12_tryShelf_77 (lv_at hl 1 rfl) ?_
            refine lv_icmp_ge (tgt := 208) hx hb dX12_tryShelf_79 (by decide) (fun c32 => ?_) (fun c32 => ?_)
            · skip
              have fc32 : x4.toInt ≤ x21.toInt := Int32.le_iff_toInt_le.mp c32
              have r1c32 := Int32.toInt_lt x21
              have r2c32 := Int32.toInt_lt x4
              have r3c32 := Int32.le_toInt x21
              have r4c32 := Int32.le_toInt x4
              subst hQ
              have hP9 := hP.sub (ws' := (wd_90cd99f9 h0 v0 r0 v1 v2 v3 v4 r1 r2 r3 r4 r5 r6 r7 v5 v6 r8 r9 r10 r11 v7 h1 r12 v8 v9 h2 r13 v10 v11 r14 v12 v13 r15 v14 w15 r16 x22 x23 h3 h4 r17 r18 r19 r20 v18 r21 r22 r23 v19 h1 g0 f20 h2 g1 f21 h3 g2 fn24 h4 g3 fn25)) [0, 1, 2, 3, 4] rfl
              have hD9 := hD.sub (ws' := (wd_90cd99f9 h0 v0 r0 v1 v2 v3 v4 r1 r2 r3 r4 r5 r6 r7 v5 v6 r8 r9 r10 r11 v7 h1 r12 v8 v9 h2 r13 v10 v11 r14 v12 v13 r15 v14 w15 r16 x22 x23 h3 h4 r17 r18 r19 r20 v18 r21 r22 r23 v19 h1 g0 f20 h2 g1 f21 h3 g2 fn24 h4 g3 fn25)) [0, 1, 2, 3, 4] (by decide) rfl
              have hK9 := hK.sub (tys' := []) [] rfl
              exact W.vret hx hb hr (fun t ht hW => ⟨⟨(), rfl, trivial, ⟨x22, x23, fn24, fn25, by rw [ht]; exact hP9, va_K.moved hW.alike hK9, hD9⟩⟩, hS.F ht⟩) hS.2.2 dX12_tryShelf_208
            · skip
              have fc32 : ¬ (x4.toInt ≤ x21.toInt) := fun h9 => c32 (Int32.le_iff_toInt_le.mpr h9)
              have r1c32 := Int32.toInt_lt x21
              have r2c32 := Int32.toInt_lt x4
              have r3c32 := Int32.le_toInt x21
              have r4c32 := Int32.le_toInt x4
              refine lv_iload hx hb dX12_tryShelf_82 (lv_at hl 6 rfl) ?_
              have hJ37 : ∀ (x33 : Int32) (x34 : Int32) (fn35 : Nat → Int32) (fn36 : Nat → Int32) (H : Heap) (locs : List Loc) (ls : Array Slot), va_P (dC, dI) vwCl (wd_90cd99f9 h0 v0 r0 v1 v2 v3 v4 r1 r2 r3 r4 r5 r6 r7 v5 v6 r8 r9 r10 r11 v7 h1 r12 v8 v9 h2 r13 v10 v11 r14 v12 v13 r15 v14 w15 r16 x33 x34 h3 h4 r17 r18 r19 r20 v18 r21 r22 r23 v19 h1 g0 f20 h2 g1 f21 h3 g2 fn35 h4 g3 fn36) H → va_D A (wd_90cd99f9 h0 v0 r0 v1 v2 v3 v4 r1 r2 r3 r4 r5 r6 r7 v5 v6 r8 r9 r10 r11 v7 h1 r12 v8 v9 h2 r13 v10 v11 r14 v12 v13 r15 v14 w15 r16 x33 x34 h3 h4 r17 r18 r19 r20 v18 r21 r22 r23 v19 h1 g0 f20 h2 g1 f21 h3 g2 fn35 h4 g3 fn36) → va_S A s.heap H locs → lv_has ls 7 [(6, .int x21), (5, .int x4), (0, .ref h0), (1, .int 7), (2, .int v24), (3, .int v25), (4, .int v26)] → W p l e ({ frames := 4, cells := 0, slots := 0, locals := 88 }) s m ([.ref h0, .int 7, .int v24, .int v25, .int v26] : List Value).toArray below meth c H locs 0 0 Q (F0 m 202 ls []) := by
                intro x33 x34 fn35 fn36 H locs ls hP hD hS hl
                obtain ⟨t38, et38⟩ : ∃ y : Int32, y = x21 + 1 := ⟨_, rfl⟩
                have gt38 : t38.toInt = x21.toInt + (1) := pv_add (a := x21.toInt) (b := (1)) et38 rfl (by decide) (by omega) (by omega)
                refine lv_iinc (v := t38) (lv' := [(6, .int t38), (5, .int x4), (0, .ref h0), (1, .int 7), (2, .int v24), (3, .int v25), (4, .int v26)]) hx hb dX12_tryShelf_202 hl (k := 0) rfl (by rw [et38]; rfl) (by decide) rfl (fun ls hl => ?_)
                refine lv_goto (tgt := 75) hx hb dX12_tryShelf_205 (by decide) ?_
                exact ih_hL31 t38 x33 x34 fn35 fn36 H locs ls (by first | omega | decide) (by first | omega | decide) (by first | omega | (simp only [Int.toNat] at *; omega)) hP hD hS (lv_sub hl [0, 1, 2, 3, 4, 5, 6] rfl)
              refine lv_if_eq (tgt := 113) hx hb dX12_tryShelf_84 (by decide) (fun c39 => ?_) (fun c39 => ?_)
              · skip
                have fc39 : v26.toInt = 0 := congrArg Int32.toInt c39
                refine lv_aload_n hx hb dX12_tryShelf_113 rfl (lv_at hl 2 rfl) ?_
                refine lv_iload_n hx hb dX12_tryShelf_114 rfl (lv_at hl 3 rfl) ?_
                refine lv_iload hx hb dX12_tryShelf_115 (lv_at hl 0 rfl) ?_
                have hPc := hP.sub (ws' := (wd_f4deda84 h0 v0 r0 v1 v2 v3 v4 r1 r2 r3 r4 r5 r6 r7 v5 v6 r8 r9 r10 r11 v7 h1 r12 v8 v9 h2 r13 v10 v11 r14 v12 v13 r15 v14 w15 r16 x22 x23 h3 h4 r17 r18 r19 r20 v18 r21 r22 r23 v19 h2 g1 f21 h3 g2 fn24)) [0, 2, 3] rfl
                have hDc := hD.sub (ws' := (wd_f4deda84 h0 v0 r0 v1 v2 v3 v4 r1 r2 r3 r4 r5 r6 r7 v5 v6 r8 r9 r10 r11 v7 h1 r12 v8 v9 h2 r13 v10 v11 r14 v12 v13 r15 v14 w15 r16 x22 x23 h3 h4 r17 r18 r19 r20 v18 r21 r22 r23 v19 h2 g1 f21 h3 g2 fn24)) [0, 2, 3] (by decide) rfl
                have hKc := hK.sub (tys' := [(g1, .int), (g2, .int)]) [1, 2] rfl
                have hFc := va_free (wc := (wd_f4deda84 h0 v0 r0 v1 v2 v3 v4 r1 r2 r3 r4 r5 r6 r7 v5 v6 r8 r9 r10 r11 v7 h1 r12 v8 v9 h2 r13 v10 v11 r14 v12 v13 r15 v14 w15 r16 x22 x23 h3 h4 r17 r18 r19 r20 v18 r21 r22 r23 v19 h2 g1 f21 h3 g2 fn24)) hD hS hA [0, 2, 3] rfl
                refine va_calli (va_runV (As := [.int 7, .int x21]) (rest := []) ⟨hx, hb, hml, hown, hts⟩ (k_X12_isCalm l dC dI h0 h2 h3 v0 r0 v1 v2 v3 v4 r1 r2 r3 r4 r5 r6 r7 v5 v6 r8 r9 r10 r11 v7 h1 r12 v8 v9 r13 v10 v11 r14 v12 v13 r15 v14 w15 r16 x22 x23 h4 r17 r18 r19 r20 v18 r21 r22 r23 v19 g1 f21 g2 fn24 7 x21 ⟨i_v1a, i_v1b⟩ ⟨i_v5a, i_v5b⟩ ⟨i_v6a, i_v6b⟩ ⟨i_v7a, i_v7b⟩ ⟨i_v8a, i_v8b⟩ ⟨i_v9a, i_v9b⟩ ⟨i_v10a, i_v10b⟩ ⟨i_v14a, i_v14b⟩ ⟨i_v18a, i_v18b⟩ ⟨i_v19a, i_v19b⟩ ⟨by decide, by decide⟩ ia_f21 H.size) (cwV 2 hts g_X12_tryShelf_1_1 rfl rfl rfl (by decide +kernel) ⟨Nat.le_of_ble_eq_true rfl, Nat.le_of_ble_eq_true rfl⟩) (pv_PV12 hPc hKc hDc (q0 := 0) rfl) rfl rfl hl.1 rfl (lv_room (Nat.le_of_ble_eq_true rfl)) dX12_tryShelf_117 ⟨Nat.le_of_ble_eq_true rfl, Nat.le_of_ble_eq_true rfl⟩) hS (fun q _ h => hFc q h) hFc (fun ra40 u t H1 locs ht hvm hwra40 hB hz1 hk1 hS => ?_)
                try rw [hwra40] at hB
                have hkra40_0 : ((7 : Int32)).toInt = 7 := by decide
                obtain ⟨pt0_ra40, pt1_ra40, hP1, hK1, hD1⟩ := hB
                rw [ht] at hP1
                obtain ⟨hP2, hD2⟩ := va_join (wr := (wd_5481fbec h1 g0 f20 h4 g3 fn25)) (w1 := (wd_f4deda84 h0 v0 r0 v1 v2 v3 v4 r1 r2 r3 r4 r5 r6 r7 v5 v6 r8 r9 r10 r11 v7 h1 r12 v8 v9 h2 r13 v10 v11 r14 v12 v13 r15 v14 w15 r16 x22 x23 h3 h4 r17 r18 r19 r20 v18 r21 r22 r23 v19 h2 g1 f21 h3 g2 fn24)) hP hD [0, 2, 3] [1, 4] rfl rfl (by decide) (by decide) hk1 hFc hP1 hD1
                clear hP hD hPc hDc hKc hFc hP1 hK1 hD1 hk1 hz1
                generalize H1 = H at hP2 hS ⊢
                have hP := hP2.sub (ws' := (wd_90cd99f9 h0 v0 r0 v1 v2 v3 v4 r1 r2 r3 r4 r5 r6 r7 v5 v6 r8 r9 r10 r11 v7 h1 r12 v8 v9 h2 r13 v10 v11 r14 v12 v13 r15 v14 w15 r16 x22 x23 h3 h4 r17 r18 r19 r20 v18 r21 r22 r23 v19 h1 g0 f20 h2 g1 f21 h3 g2 fn24 h4 g3 fn25)) [2, 0, 3, 4, 1] rfl
                have hD := hD2.sub (ws' := (wd_90cd99f9 h0 v0 r0 v1 v2 v3 v4 r1 r2 r3 r4 r5 r6 r7 v5 v6 r8 r9 r10 r11 v7 h1 r12 v8 v9 h2 r13 v10 v11 r14 v12 v13 r15 v14 w15 r16 x22 x23 h3 h4 r17 r18 r19 r20 v18 r21 r22 r23 v19 h1 g0 f20 h2 g1 f21 h3 g2 fn24 h4 g3 fn25)) [2, 0, 3, 4, 1] (by decide) rfl
                clear hP2 hD2
                refine lv_if_eq (tgt := 202) hx hb dX12_tryShelf_120 (by decide) (fun c41 => ?_) (fun c41 => ?_)
                · skip
                  have fc41 : ra40.toInt = 0 := congrArg Int32.toInt c41
                  exact hJ37 x22 x23 fn24 fn25 H locs ls hP hD hS (lv_sub hl [0, 1, 2, 3, 4, 5, 6] rfl)
                · skip
                  have fc41 : ¬ (ra40.toInt = 0) := fun h9 => c41 (Int32.toInt_inj.mp h9)
                  refine lv_aload_n hx hb dX12_tryShelf_123 rfl (lv_at hl 2 rfl) ?_
                  refine va_get (D := (dC, dI)) (ci := 12) (v := .ref h4) (C := RX12) (T := TX12) (N := 48) hx hb hts (fun _ h => List.mem_cons_of_mem _ (List.mem_append_right _ h)) hown hK hP 0 rfl rfl 38 (by decide) (hts (.fieldLink RX12 77 "LeftArgumentsModel" "room" "[I") (List.mem_cons_of_mem _ (List.mem_append_left _ (List.mem_of_getElem? (i := 31) rfl)))) (fun _ h9 => h9) rfl dX12_tryShelf_124 ?_
                  refine lv_iload hx hb dX12_tryShelf_127 (lv_at hl 0 rfl) ?_
                  refine lv_dup2_11 hx hb dX12_tryShelf_129 rfl rfl ?_
                  refine va_iald hx hb hK hP 4 3 rfl rfl (vp_in_iff.mpr ⟨by omega, by omega⟩) dX12_tryShelf_130 ?_
                  refine lv_topi (fun t42 et42 => ?_)
                  refine lv_aload_n hx hb dX12_tryShelf_131 rfl (lv_at hl 2 rfl) ?_
                  refine lv_iload_n hx hb dX12_tryShelf_132 rfl (lv_at hl 3 rfl) ?_
                  refine lv_iconst (v := 0) hx hb dX12_tryShelf_133 (by decide) ?_
                  have hPc := hP.sub (ws' := (wd_5013416a h0 v0 r0 v1 v2 v3 v4 r1 r2 r3 r4 r5 r6 r7 v5 v6 r8 r9 r10 r11 v7 h1 r12 v8 v9 h2 r13 v10 v11 r14 v12 v13 r15 v14 w15 r16 x22 x23 h3 h4 r17 r18 r19 r20 v18 r21 r22 r23 v19 h2 g1 f21)) [0, 2] rfl
                  have hDc := hD.sub (ws' := (wd_5013416a h0 v0 r0 v1 v2 v3 v4 r1 r2 r3 r4 r5 r6 r7 v5 v6 r8 r9 r10 r11 v7 h1 r12 v8 v9 h2 r13 v10 v11 r14 v12 v13 r15 v14 w15 r16 x22 x23 h3 h4 r17 r18 r19 r20 v18 r21 r22 r23 v19 h2 g1 f21)) [0, 2] (by decide) rfl
                  have hKc := hK.sub (tys' := [(g1, .int)]) [1] rfl
                  have hFc := va_free (wc := (wd_5013416a h0 v0 r0 v1 v2 v3 v4 r1 r2 r3 r4 r5 r6 r7 v5 v6 r8 r9 r10 r11 v7 h1 r12 v8 v9 h2 r13 v10 v11 r14 v12 v13 r15 v14 w15 r16 x22 x23 h3 h4 r17 r18 r19 r20 v18 r21 r22 r23 v19 h2 g1 f21)) hD hS hA [0, 2] rfl
                  refine va_calli (va_runV (As := [.int 7, .int 0]) (rest := [.int t42, .int x21, .ref h4]) ⟨hx, hb, hml, hown, hts⟩ (k_X12_of_3 l dC dI h0 h2 v0 r0 v1 v2 v3 v4 r1 r2 r3 r4 r5 r6 r7 v5 v6 r8 r9 r10 r11 v7 h1 r12 v8 v9 r13 v10 v11 r14 v12 v13 r15 v14 w15 r16 x22 x23 h3 h4 r17 r18 r19 r20 v18 r21 r22 r23 v19 g1 f21 7 ⟨i_v1a, i_v1b⟩ ⟨i_v5a, i_v5b⟩ ⟨i_v6a, i_v6b⟩ ⟨i_v7a, i_v7b⟩ ⟨i_v8a, i_v8b⟩ ⟨i_v9a, i_v9b⟩ ⟨i_v10a, i_v10b⟩ ⟨i_v14a, i_v14b⟩ ⟨i_v18a, i_v18b⟩ ⟨i_v19a, i_v19b⟩ ⟨by decide, by decide⟩ ia_f21.1 H.size) (cwV 2 hts g_X12_tryShelf_1_2 rfl rfl rfl (by decide +kernel) ⟨Nat.le_of_ble_eq_true rfl, Nat.le_of_ble_eq_true rfl⟩) (pv_PV12 hPc hKc hDc (q0 := 0) rfl) rfl rfl hl.1 rfl (lv_room (Nat.le_of_ble_eq_true rfl)) dX12_tryShelf_134 ⟨Nat.le_of_ble_eq_true rfl, Nat.le_of_ble_eq_true rfl⟩) hS (fun q _ h => hFc q h) hFc (fun ra43 u t H1 locs ht hvm hwra43 hB hz1 hk1 hS => ?_)
                  try rw [hwra43] at hB
                  have hkra43_0 : ((7 : Int32)).toInt = 7 := by decide
                  obtain ⟨pt0_ra43, pt1_ra43, pt2_ra43, hP1, hK1, hD1⟩ := hB
                  rw [ht] at hP1
                  obtain ⟨hP2, hD2⟩ := va_join (wr := (wd_20b67a68 h1 g0 f20 h3 g2 fn24 h4 g3 fn25)) (w1 := (wd_5013416a h0 v0 r0 v1 v2 v3 v4 r1 r2 r3 r4 r5 r6 r7 v5 v6 r8 r9 r10 r11 v7 h1 r12 v8 v9 h2 r13 v10 v11 r14 v12 v13 r15 v14 w15 r16 x22 x23 h3 h4 r17 r18 r19 r20 v18 r21 r22 r23 v19 h2 g1 f21)) hP hD [0, 2] [1, 3, 4] rfl rfl (by decide) (by decide) hk1 hFc hP1 hD1
                  clear hP hD hPc hDc hKc hFc hP1 hK1 hD1 hk1 hz1
                  generalize H1 = H at hP2 hS ⊢
                  have hP := hP2.sub (ws' := (wd_90cd99f9 h0 v0 r0 v1 v2 v3 v4 r1 r2 r3 r4 r5 r6 r7 v5 v6 r8 r9 r10 r11 v7 h1 r12 v8 v9 h2 r13 v10 v11 r14 v12 v13 r15 v14 w15 r16 x22 x23 h3 h4 r17 r18 r19 r20 v18 r21 r22 r23 v19 h1 g0 f20 h2 g1 f21 h3 g2 fn24 h4 g3 fn25)) [3, 0, 4, 1, 2] rfl
                  have hD := hD2.sub (ws' := (wd_90cd99f9 h0 v0 r0 v1 v2 v3 v4 r1 r2 r3 r4 r5 r6 r7 v5 v6 r8 r9 r10 r11 v7 h1 r12 v8 v9 h2 r13 v10 v11 r14 v12 v13 r15 v14 w15 r16 x22 x23 h3 h4 r17 r18 r19 r20 v18 r21 r22 r23 v19 h1 g0 f20 h2 g1 f21 h3 g2 fn24 h4 g3 fn25)) [3, 0, 4, 1, 2] (by decide) rfl
                  clear hP2 hD2
                  refine lv_iadd hx hb dX12_tryShelf_137 ?_
                  refine lv_topi (fun t44 et44 => ?_)
                  refine va_iast hx hb hK hP hD hS 4 3 rfl rfl (vp_in_iff.mpr ⟨by omega, by omega⟩) dX12_tryShelf_138 (fun H locs hP hD hS => ?_)
                  obtain ⟨fn45, efn45⟩ : ∃ g : Nat → Int32, g = upd fn25 (Int32.toNatClampNeg x21) t44 := ⟨_, rfl⟩
                  rw [← efn45] at hP hD
                  have hP : va_P (dC, dI) vwCl (wd_90cd99f9 h0 v0 r0 v1 v2 v3 v4 r1 r2 r3 r4 r5 r6 r7 v5 v6 r8 r9 r10 r11 v7 h1 r12 v8 v9 h2 r13 v10 v11 r14 v12 v13 r15 v14 w15 r16 x22 x23 h3 h4 r17 r18 r19 r20 v18 r21 r22 r23 v19 h1 g0 f20 h2 g1 f21 h3 g2 fn24 h4 g3 fn45) H := hP
                  have hD : va_D A (wd_90cd99f9 h0 v0 r0 v1 v2 v3 v4 r1 r2 r3 r4 r5 r6 r7 v5 v6 r8 r9 r10 r11 v7 h1 r12 v8 v9 h2 r13 v10 v11 r14 v12 v13 r15 v14 w15 r16 x22 x23 h3 h4 r17 r18 r19 r20 v18 r21 r22 r23 v19 h1 g0 f20 h2 g1 f21 h3 g2 fn24 h4 g3 fn45) := hD
                  refine lv_aload_n hx hb dX12_tryShelf_139 rfl (lv_at hl 2 rfl) ?_
                  refine va_get (D := (dC, dI)) (ci := 12) (v := .ref h3) (C := RX12) (T := TX12) (N := 48) hx hb hts (fun _ h => List.mem_cons_of_mem _ (List.mem_append_right _ h)) hown hK hP 0 rfl rfl 37 (by decide) (hts (.fieldLink RX12 74 "LeftArgumentsModel" "onShelf" "[I") (List.mem_cons_of_mem _ (List.mem_append_left _ (List.mem_of_getElem? (i := 15) rfl)))) (fun _ h9 => h9) rfl dX12_tryShelf_140 ?_
                  refine lv_iload_n hx hb dX12_tryShelf_143 rfl (lv_at hl 3 rfl) ?_
                  refine lv_iload hx hb dX12_tryShelf_144 (lv_at hl 0 rfl) ?_
                  refine va_iast hx hb hK hP hD hS 3 2 rfl rfl (pv_c (x := 7) (n := 8) (by decide)) dX12_tryShelf_146 (fun H locs hP hD hS => ?_)
                  obtain ⟨fn46, efn46⟩ : ∃ g : Nat → Int32, g = upd fn24 (Int32.toNatClampNeg 7) x21 := ⟨_, rfl⟩
                  rw [← efn46] at hP hD
                  have hP : va_P (dC, dI) vwCl (wd_90cd99f9 h0 v0 r0 v1 v2 v3 v4 r1 r2 r3 r4 r5 r6 r7 v5 v6 r8 r9 r10 r11 v7 h1 r12 v8 v9 h2 r13 v10 v11 r14 v12 v13 r15 v14 w15 r16 x22 x23 h3 h4 r17 r18 r19 r20 v18 r21 r22 r23 v19 h1 g0 f20 h2 g1 f21 h3 g2 fn46 h4 g3 fn45) H := hP
                  have hD : va_D A (wd_90cd99f9 h0 v0 r0 v1 v2 v3 v4 r1 r2 r3 r4 r5 r6 r7 v5 v6 r8 r9 r10 r11 v7 h1 r12 v8 v9 h2 r13 v10 v11 r14 v12 v13 r15 v14 w15 r16 x22 x23 h3 h4 r17 r18 r19 r20 v18 r21 r22 r23 v19 h1 g0 f20 h2 g1 f21 h3 g2 fn46 h4 g3 fn45) := hD
                  refine lv_aload_n hx hb dX12_tryShelf_147 rfl (lv_at hl 2 rfl) ?_
                  refine lv_iload_n hx hb dX12_tryShelf_148 rfl (lv_at hl 3 rfl) ?_
                  refine lv_iconst (v := 1) hx hb dX12_tryShelf_149 (by decide) ?_
                  refine lv_iadd hx hb dX12_tryShelf_150 ?_
                  refine lv_topi (fun tv47 etv47 => ?_)
                  obtain rfl : tv47 = (8 : Int32) := etv47.trans (by first | rfl | decide)
                  refine lv_bipush (v := 10) hx hb dX12_tryShelf_151 (by decide) ?_
                  refine lv_iload_n hx hb dX12_tryShelf_153 rfl (lv_at hl 4 rfl) ?_
                  refine lv_imul hx hb dX12_tryShelf_154 ?_
                  refine lv_topi (fun t48 et48 => ?_)
                  refine lv_iload hx hb dX12_tryShelf_155 (lv_at hl 0 rfl) ?_
                  refine lv_iadd hx hb dX12_tryShelf_157 ?_
                  refine lv_topi (fun t49 et49 => ?_)
                  refine lv_iload_n hx hb dX12_tryShelf_158 rfl (lv_at hl 5 rfl) ?_
                  refine lv_aload_n hx hb dX12_tryShelf_159 rfl (lv_at hl 2 rfl) ?_
                  refine va_get (D := (dC, dI)) (ci := 12) (v := .ref h4) (C := RX12) (T := TX12) (N := 48) hx hb hts (fun _ h => List.mem_cons_of_mem _ (List.mem_append_right _ h)) hown hK hP 0 rfl rfl 38 (by decide) (hts (.fieldLink RX12 77 "LeftArgumentsModel" "room" "[I") (List.mem_cons_of_mem _ (List.mem_append_left _ (List.mem_of_getElem? (i := 31) rfl)))) (fun _ h9 => h9) rfl dX12_tryShelf_160 ?_
                  refine lv_iload hx hb dX12_tryShelf_163 (lv_at hl 0 rfl) ?_
                  refine va_iald hx hb hK hP 4 3 rfl rfl (vp_in_iff.mpr ⟨by omega, by omega⟩) dX12_tryShelf_165 ?_
                  refine lv_topi (fun t50 et50 => ?_)
                  refine lv_aload_n hx hb dX12_tryShelf_166 rfl (lv_at hl 2 rfl) ?_
                  refine lv_iload_n hx hb dX12_tryShelf_167 rfl (lv_at hl 3 rfl) ?_
                  refine lv_iconst (v := 0) hx hb dX12_tryShelf_168 (by decide) ?_
                  have hPc := hP.sub (ws' := (wd_5013416a h0 v0 r0 v1 v2 v3 v4 r1 r2 r3 r4 r5 r6 r7 v5 v6 r8 r9 r10 r11 v7 h1 r12 v8 v9 h2 r13 v10 v11 r14 v12 v13 r15 v14 w15 r16 x22 x23 h3 h4 r17 r18 r19 r20 v18 r21 r22 r23 v19 h2 g1 f21)) [0, 2] rfl
                  have hDc := hD.sub (ws' := (wd_5013416a h0 v0 r0 v1 v2 v3 v4 r1 r2 r3 r4 r5 r6 r7 v5 v6 r8 r9 r10 r11 v7 h1 r12 v8 v9 h2 r13 v10 v11 r14 v12 v13 r15 v14 w15 r16 x22 x23 h3 h4 r17 r18 r19 r20 v18 r21 r22 r23 v19 h2 g1 f21)) [0, 2] (by decide) rfl
                  have hKc := hK.sub (tys' := [(g1, .int)]) [1] rfl
                  have hFc := va_free (wc := (wd_5013416a h0 v0 r0 v1 v2 v3 v4 r1 r2 r3 r4 r5 r6 r7 v5 v6 r8 r9 r10 r11 v7 h1 r12 v8 v9 h2 r13 v10 v11 r14 v12 v13 r15 v14 w15 r16 x22 x23 h3 h4 r17 r18 r19 r20 v18 r21 r22 r23 v19 h2 g1 f21)) hD hS hA [0, 2] rfl
                  refine va_calli (va_runV (As := [.int 7, .int 0]) (rest := [.int t50, .int v25, .int t49, .int 8, .ref h0]) ⟨hx, hb, hml, hown, hts⟩ (k_X12_of_3 l dC dI h0 h2 v0 r0 v1 v2 v3 v4 r1 r2 r3 r4 r5 r6 r7 v5 v6 r8 r9 r10 r11 v7 h1 r12 v8 v9 r13 v10 v11 r14 v12 v13 r15 v14 w15 r16 x22 x23 h3 h4 r17 r18 r19 r20 v18 r21 r22 r23 v19 g1 f21 7 ⟨i_v1a, i_v1b⟩ ⟨i_v5a, i_v5b⟩ ⟨i_v6a, i_v6b⟩ ⟨i_v7a, i_v7b⟩ ⟨i_v8a, i_v8b⟩ ⟨i_v9a, i_v9b⟩ ⟨i_v10a, i_v10b⟩ ⟨i_v14a, i_v14b⟩ ⟨i_v18a, i_v18b⟩ ⟨i_v19a, i_v19b⟩ ⟨by decide, by decide⟩ ia_f21.1 H.size) (cwV 2 hts g_X12_tryShelf_1_2 rfl rfl rfl (by decide +kernel) ⟨Nat.le_of_ble_eq_true rfl, Nat.le_of_ble_eq_true rfl⟩) (pv_PV12 hPc hKc hDc (q0 := 0) rfl) rfl rfl hl.1 rfl (lv_room (Nat.le_of_ble_eq_true rfl)) dX12_tryShelf_169 ⟨Nat.le_of_ble_eq_true rfl, Nat.le_of_ble_eq_true rfl⟩) hS (fun q _ h => hFc q h) hFc (fun ra51 u t H1 locs ht hvm hwra51 hB hz1 hk1 hS => ?_)
                  try rw [hwra51] at hB
                  have hkra51_0 : ((7 : Int32)).toInt = 7 := by decide
                  obtain ⟨pt0_ra51, pt1_ra51, pt2_ra51, hP1, hK1, hD1⟩ := hB
                  rw [ht] at hP1
                  obtain ⟨hP2, hD2⟩ := va_join (wr := (wd_20b67a68 h1 g0 f20 h3 g2 fn46 h4 g3 fn45)) (w1 := (wd_5013416a h0 v0 r0 v1 v2 v3 v4 r1 r2 r3 r4 r5 r6 r7 v5 v6 r8 r9 r10 r11 v7 h1 r12 v8 v9 h2 r13 v10 v11 r14 v12 v13 r15 v14 w15 r16 x22 x23 h3 h4 r17 r18 r19 r20 v18 r21 r22 r23 v19 h2 g1 f21)) hP hD [0, 2] [1, 3, 4] rfl rfl (by decide) (by decide) hk1 hFc hP1 hD1
                  clear hP hD hPc hDc hKc hFc hP1 hK1 hD1 hk1 hz1
                  generalize H1 = H at hP2 hS ⊢
                  have hP := hP2.sub (ws' := (wd_90cd99f9 h0 v0 r0 v1 v2 v3 v4 r1 r2 r3 r4 r5 r6 r7 v5 v6 r8 r9 r10 r11 v7 h1 r12 v8 v9 h2 r13 v10 v11 r14 v12 v13 r15 v14 w15 r16 x22 x23 h3 h4 r17 r18 r19 r20 v18 r21 r22 r23 v19 h1 g0 f20 h2 g1 f21 h3 g2 fn46 h4 g3 fn45)) [3, 0, 4, 1, 2] rfl
                  have hD := hD2.sub (ws' := (wd_90cd99f9 h0 v0 r0 v1 v2 v3 v4 r1 r2 r3 r4 r5 r6 r7 v5 v6 r8 r9 r10 r11 v7 h1 r12 v8 v9 h2 r13 v10 v11 r14 v12 v13 r15 v14 w15 r16 x22 x23 h3 h4 r17 r18 r19 r20 v18 r21 r22 r23 v19 h1 g0 f20 h2 g1 f21 h3 g2 fn46 h4 g3 fn45)) [3, 0, 4, 1, 2] (by decide) rfl
                  clear hP2 hD2
                  have hJ53 : ∀ (x52 : Int32) (H : Heap) (locs : List Loc) (ls : Array Slot), 0 ≤ x52.toInt → x52.toInt ≤ 1 → va_P (dC, dI) vwCl (wd_90cd99f9 h0 v0 r0 v1 v2 v3 v4 r1 r2 r3 r4 r5 r6 r7 v5 v6 r8 r9 r10 r11 v7 h1 r12 v8 v9 h2 r13 v10 v11 r14 v12 v13 r15 v14 w15 r16 x22 x23 h3 h4 r17 r18 r19 r20 v18 r21 r22 r23 v19 h1 g0 f20 h2 g1 f21 h3 g2 fn46 h4 g3 fn45) H → va_D A (wd_90cd99f9 h0 v0 r0 v1 v2 v3 v4 r1 r2 r3 r4 r5 r6 r7 v5 v6 r8 r9 r10 r11 v7 h1 r12 v8 v9 h2 r13 v10 v11 r14 v12 v13 r15 v14 w15 r16 x22 x23 h3 h4 r17 r18 r19 r20 v18 r21 r22 r23 v19 h1 g0 f20 h2 g1 f21 h3 g2 fn46 h4 g3 fn45) → va_S A s.heap H locs → lv_has ls 7 [(6, .int x21), (5, .int x4), (0, .ref h0), (1, .int 7), (2, .int v24), (3, .int v25), (4, .int v26)] → W p l e ({ frames := 4, cells := 0, slots := 0, locals := 88 }) s m ([.ref h0, .int 7, .int v24, .int v25, .int v26] : List Value).toArray below meth c H locs 0 0 Q (F0 m 180 ls [.int x52, .int v25, .int t49, .int 8, .ref h0]) := by
                    intro x52 H locs ls qa_x52 qb_x52 hP hD hS hl
                    refine lv_iadd hx hb dX12_tryShelf_180 ?_
                    refine lv_topi (fun t54 et54 => ?_)
                    refine lv_iload hx hb dX12_tryShelf_181 (lv_at hl 6 rfl) ?_
                    have hPc := hP.sub (ws' := (wd_171f232f h0 v0 r0 v1 v2 v3 v4 r1 r2 r3 r4 r5 r6 r7 v5 v6 r8 r9 r10 r11 v7 h1 r12 v8 v9 h2 r13 v10 v11 r14 v12 v13 r15 v14 w15 r16 x22 x23 h3 h4 r17 r18 r19 r20 v18 r21 r22 r23 v19)) [0] rfl
                    have hDc := hD.sub (ws' := (wd_171f232f h0 v0 r0 v1 v2 v3 v4 r1 r2 r3 r4 r5 r6 r7 v5 v6 r8 r9 r10 r11 v7 h1 r12 v8 v9 h2 r13 v10 v11 r14 v12 v13 r15 v14 w15 r16 x22 x23 h3 h4 r17 r18 r19 r20 v18 r21 r22 r23 v19)) [0] (by decide) rfl
                    have hKc := hK.sub (tys' := []) [] rfl
                    have hFc := va_free (wc := (wd_171f232f h0 v0 r0 v1 v2 v3 v4 r1 r2 r3 r4 r5 r6 r7 v5 v6 r8 r9 r10 r11 v7 h1 r12 v8 v9 h2 r13 v10 v11 r14 v12 v13 r15 v14 w15 r16 x22 x23 h3 h4 r17 r18 r19 r20 v18 r21 r22 r23 v19)) hD hS hA [0] rfl
                    refine va_callv (va_runV (As := [.int 8, .int t49, .int t54, .int v26]) (rest := []) ⟨hx, hb, hml, hown, hts⟩ (k_X12_tryShelf l dC dI h0 v0 r0 v1 v2 v3 v4 r1 r2 r3 r4 r5 r6 r7 v5 v6 r8 r9 r10 r11 v7 h1 r12 v8 v9 h2 r13 v10 v11 r14 v12 v13 r15 v14 w15 r16 x22 x23 h3 h4 r17 r18 r19 r20 v18 r21 r22 r23 v19 t49 t54 v26 ⟨i_v1a, i_v1b⟩ ⟨i_v5a, i_v5b⟩ ⟨i_v6a, i_v6b⟩ ⟨i_v7a, i_v7b⟩ ⟨i_v8a, i_v8b⟩ ⟨i_v9a, i_v9b⟩ ⟨i_v10a, i_v10b⟩ ⟨i_v14a, i_v14b⟩ ⟨i_v18a, i_v18b⟩ ⟨i_v19a, i_v19b⟩ ⟨i_v26a, i_v26b⟩ H.size) (cwV 4 hts g_X12_tryShelf_1_4 rfl rfl rfl (by decide +kernel) ⟨Nat.le_of_ble_eq_true rfl, Nat.le_of_ble_eq_true rfl⟩) (pv_PV12 hPc hKc hDc (q0 := 0) rfl) rfl rfl hl.1 rfl (lv_room (Nat.le_of_ble_eq_true rfl)) dX12_tryShelf_183 ⟨Nat.le_of_ble_eq_true rfl, Nat.le_of_ble_eq_true rfl⟩) hS (fun q _ h => hFc q h) hFc (fun u t H1 locs ht hvm hwra55 hB hz1 hk1 hS => ?_)
                    obtain ⟨x56, x57, hP1, hK1, hD1⟩ := hB
                    rw [ht] at hP1
                    obtain ⟨hP2, hD2⟩ := va_join (wr := (wd_fd33bfec h1 g0 f20 h2 g1 f21 h3 g2 fn46 h4 g3 fn45)) (w1 := (wd_171f232f h0 v0 r0 v1 v2 v3 v4 r1 r2 r3 r4 r5 r6 r7 v5 v6 r8 r9 r10 r11 v7 h1 r12 v8 v9 h2 r13 v10 v11 r14 v12 v13 r15 v14 w15 r16 x56 x57 h3 h4 r17 r18 r19 r20 v18 r21 r22 r23 v19)) hP hD [0] [1, 2, 3, 4] rfl rfl (by decide) (by decide) hk1 hFc hP1 hD1
                    clear hP hD hPc hDc hKc hFc hP1 hK1 hD1 hk1 hz1
                    generalize H1 = H at hP2 hS ⊢
                    have hP := hP2.sub (ws' := (wd_90cd99f9 h0 v0 r0 v1 v2 v3 v4 r1 r2 r3 r4 r5 r6 r7 v5 v6 r8 r9 r10 r11 v7 h1 r12 v8 v9 h2 r13 v10 v11 r14 v12 v13 r15 v14 w15 r16 x56 x57 h3 h4 r17 r18 r19 r20 v18 r21 r22 r23 v19 h1 g0 f20 h2 g1 f21 h3 g2 fn46 h4 g3 fn45)) [4, 0, 1, 2, 3] rfl
                    have hD := hD2.sub (ws' := (wd_90cd99f9 h0 v0 r0 v1 v2 v3 v4 r1 r2 r3 r4 r5 r6 r7 v5 v6 r8 r9 r10 r11 v7 h1 r12 v8 v9 h2 r13 v10 v11 r14 v12 v13 r15 v14 w15 r16 x56 x57 h3 h4 r17 r18 r19 r20 v18 r21 r22 r23 v19 h1 g0 f20 h2 g1 f21 h3 g2 fn46 h4 g3 fn45)) [4, 0, 1, 2, 3] (by decide) rfl
                    clear hP2 hD2
                    refine lv_aload_n hx hb dX12_tryShelf_186 rfl (lv_at hl 2 rfl) ?_
                    refine va_get (D := (dC, dI)) (ci := 12) (v := .ref h4) (C := RX12) (T := TX12) (N := 48) hx hb hts (fun _ h => List.mem_cons_of_mem _ (List.mem_append_right _ h)) hown hK hP 0 rfl rfl 38 (by decide) (hts (.fieldLink RX12 77 "LeftArgumentsModel" "room" "[I") (List.mem_cons_of_mem _ (List.mem_append_left _ (List.mem_of_getElem? (i := 31) rfl)))) (fun _ h9 => h9) rfl dX12_tryShelf_187 ?_
                    refine lv_iload hx hb dX12_tryShelf_190 (lv_at hl 0 rfl) ?_
                    refine lv_dup2_11 hx hb dX12_tryShelf_192 rfl rfl ?_
                    refine va_iald hx hb hK hP 4 3 rfl rfl (vp_in_iff.mpr ⟨by omega, by omega⟩) dX12_tryShelf_193 ?_
                    refine lv_topi (fun t58 et58 => ?_)
                    have gmt58 : t58.toInt = t50.toInt := by rw [et58, et50]
                    refine lv_aload_n hx hb dX12_tryShelf_194 rfl (lv_at hl 2 rfl) ?_
                    refine lv_iload_n hx hb dX12_tryShelf_195 rfl (lv_at hl 3 rfl) ?_
                    refine lv_iconst (v := 0) hx hb dX12_tryShelf_196 (by decide) ?_
                    have hPc := hP.sub (ws' := (wd_5013416a h0 v0 r0 v1 v2 v3 v4 r1 r2 r3 r4 r5 r6 r7 v5 v6 r8 r9 r10 r11 v7 h1 r12 v8 v9 h2 r13 v10 v11 r14 v12 v13 r15 v14 w15 r16 x56 x57 h3 h4 r17 r18 r19 r20 v18 r21 r22 r23 v19 h2 g1 f21)) [0, 2] rfl
                    have hDc := hD.sub (ws' := (wd_5013416a h0 v0 r0 v1 v2 v3 v4 r1 r2 r3 r4 r5 r6 r7 v5 v6 r8 r9 r10 r11 v7 h1 r12 v8 v9 h2 r13 v10 v11 r14 v12 v13 r15 v14 w15 r16 x56 x57 h3 h4 r17 r18 r19 r20 v18 r21 r22 r23 v19 h2 g1 f21)) [0, 2] (by decide) rfl
                    have hKc := hK.sub (tys' := [(g1, .int)]) [1] rfl
                    have hFc := va_free (wc := (wd_5013416a h0 v0 r0 v1 v2 v3 v4 r1 r2 r3 r4 r5 r6 r7 v5 v6 r8 r9 r10 r11 v7 h1 r12 v8 v9 h2 r13 v10 v11 r14 v12 v13 r15 v14 w15 r16 x56 x57 h3 h4 r17 r18 r19 r20 v18 r21 r22 r23 v19 h2 g1 f21)) hD hS hA [0, 2] rfl
                    refine va_calli (va_runV (As := [.int 7, .int 0]) (rest := [.int t58, .int x21, .ref h4]) ⟨hx, hb, hml, hown, hts⟩ (k_X12_of_3 l dC dI h0 h2 v0 r0 v1 v2 v3 v4 r1 r2 r3 r4 r5 r6 r7 v5 v6 r8 r9 r10 r11 v7 h1 r12 v8 v9 r13 v10 v11 r14 v12 v13 r15 v14 w15 r16 x56 x57 h3 h4 r17 r18 r19 r20 v18 r21 r22 r23 v19 g1 f21 7 ⟨i_v1a, i_v1b⟩ ⟨i_v5a, i_v5b⟩ ⟨i_v6a, i_v6b⟩ ⟨i_v7a, i_v7b⟩ ⟨i_v8a, i_v8b⟩ ⟨i_v9a, i_v9b⟩ ⟨i_v10a, i_v10b⟩ ⟨i_v14a, i_v14b⟩ ⟨i_v18a, i_v18b⟩ ⟨i_v19a, i_v19b⟩ ⟨by decide, by decide⟩ ia_f21.1 H.size) (cwV 2 hts g_X12_tryShelf_1_2 rfl rfl rfl (by decide +kernel) ⟨Nat.le_of_ble_eq_true rfl, Nat.le_of_ble_eq_true rfl⟩) (pv_PV12 hPc hKc hDc (q0 := 0) rfl) rfl rfl hl.1 rfl (lv_room (Nat.le_of_ble_eq_true rfl)) dX12_tryShelf_197 ⟨Nat.le_of_ble_eq_true rfl, Nat.le_of_ble_eq_true rfl⟩) hS (fun q _ h => hFc q h) hFc (fun ra59 u t H1 locs ht hvm hwra59 hB hz1 hk1 hS => ?_)
                    try rw [hwra59] at hB
                    have hkra59_0 : ((7 : Int32)).toInt = 7 := by decide
                    obtain ⟨pt0_ra59, pt1_ra59, pt2_ra59, hP1, hK1, hD1⟩ := hB
                    rw [ht] at hP1
                    obtain ⟨hP2, hD2⟩ := va_join (wr := (wd_20b67a68 h1 g0 f20 h3 g2 fn46 h4 g3 fn45)) (w1 := (wd_5013416a h0 v0 r0 v1 v2 v3 v4 r1 r2 r3 r4 r5 r6 r7 v5 v6 r8 r9 r10 r11 v7 h1 r12 v8 v9 h2 r13 v10 v11 r14 v12 v13 r15 v14 w15 r16 x56 x57 h3 h4 r17 r18 r19 r20 v18 r21 r22 r23 v19 h2 g1 f21)) hP hD [0, 2] [1, 3, 4] rfl rfl (by decide) (by decide) hk1 hFc hP1 hD1
                    clear hP hD hPc hDc hKc hFc hP1 hK1 hD1 hk1 hz1
                    generalize H1 = H at hP2 hS ⊢
                    have hP := hP2.sub (ws' := (wd_90cd99f9 h0 v0 r0 v1 v2 v3 v4 r1 r2 r3 r4 r5 r6 r7 v5 v6 r8 r9 r10 r11 v7 h1 r12 v8 v9 h2 r13 v10 v11 r14 v12 v13 r15 v14 w15 r16 x56 x57 h3 h4 r17 r18 r19 r20 v18 r21 r22 r23 v19 h1 g0 f20 h2 g1 f21 h3 g2 fn46 h4 g3 fn45)) [3, 0, 4, 1, 2] rfl
                    have hD := hD2.sub (ws' := (wd_90cd99f9 h0 v0 r0 v1 v2 v3 v4 r1 r2 r3 r4 r5 r6 r7 v5 v6 r8 r9 r10 r11 v7 h1 r12 v8 v9 h2 r13 v10 v11 r14 v12 v13 r15 v14 w15 r16 x56 x57 h3 h4 r17 r18 r19 r20 v18 r21 r22 r23 v19 h1 g0 f20 h2 g1 f21 h3 g2 fn46 h4 g3 fn45)) [3, 0, 4, 1, 2] (by decide) rfl
                    clear hP2 hD2
                    refine lv_isub hx hb dX12_tryShelf_200 ?_
                    refine lv_topi (fun t60 et60 => ?_)
                    refine va_iast hx hb hK hP hD hS 4 3 rfl rfl (vp_in_iff.mpr ⟨by omega, by omega⟩) dX12_tryShelf_201 (fun H locs hP hD hS => ?_)
                    obtain ⟨fn61, efn61⟩ : ∃ g : Nat → Int32, g = upd fn45 (Int32.toNatClampNeg x21) t60 := ⟨_, rfl⟩
                    rw [← efn61] at hP hD
                    have hP : va_P (dC, dI) vwCl (wd_90cd99f9 h0 v0 r0 v1 v2 v3 v4 r1 r2 r3 r4 r5 r6 r7 v5 v6 r8 r9 r10 r11 v7 h1 r12 v8 v9 h2 r13 v10 v11 r14 v12 v13 r15 v14 w15 r16 x56 x57 h3 h4 r17 r18 r19 r20 v18 r21 r22 r23 v19 h1 g0 f20 h2 g1 f21 h3 g2 fn46 h4 g3 fn61) H := hP
                    have hD : va_D A (wd_90cd99f9 h0 v0 r0 v1 v2 v3 v4 r1 r2 r3 r4 r5 r6 r7 v5 v6 r8 r9 r10 r11 v7 h1 r12 v8 v9 h2 r13 v10 v11 r14 v12 v13 r15 v14 w15 r16 x56 x57 h3 h4 r17 r18 r19 r20 v18 r21 r22 r23 v19 h1 g0 f20 h2 g1 f21 h3 g2 fn46 h4 g3 fn61) := hD
                    exact hJ37 x56 x57 fn46 fn61 H locs ls hP hD hS (lv_sub hl [0, 1, 2, 3, 4, 5, 6] rfl)
                  refine lv_icmp_ne (tgt := 179) hx hb dX12_tryShelf_172 (by decide) (fun c62 => ?_) (fun c62 => ?_)
                  · skip
                    have fc62 : ¬ (t50.toInt = ra51.toInt) := fun h9 => c62 (Int32.toInt_inj.mp h9)
                    have r1c62 := Int32.toInt_lt t50
                    have r2c62 := Int32.toInt_lt ra51
                    have r3c62 := Int32.le_toInt t50
                    have r4c62 := Int32.le_toInt ra51
                    refine lv_iconst (v := 0) hx hb dX12_tryShelf_179 (by decide) ?_
                    exact hJ53 0 H locs ls (by decide) (by decide) hP hD hS (lv_sub hl [0, 1, 2, 3, 4, 5, 6] rfl)
                  · skip
                    have fc62 : t50.toInt = ra51.toInt := congrArg Int32.toInt c62
                    have r1c62 := Int32.toInt_lt t50
                    have r2c62 := Int32.toInt_lt ra51
                    have r3c62 := Int32.le_toInt t50
                    have r4c62 := Int32.le_toInt ra51
                    refine lv_iconst (v := 1) hx hb dX12_tryShelf_175 (by decide) ?_
                    refine lv_goto (tgt := 180) hx hb dX12_tryShelf_176 (by decide) ?_
                    exact hJ53 1 H locs ls (by decide) (by decide) hP hD hS (lv_sub hl [0, 1, 2, 3, 4, 5, 6] rfl)
              · skip
                have fc39 : ¬ (v26.toInt = 0) := fun h9 => c39 (Int32.toInt_inj.mp h9)
                refine lv_aload_n hx hb dX12_tryShelf_87 rfl (lv_at hl 2 rfl) ?_
                refine va_get (D := (dC, dI)) (ci := 12) (v := .ref h4) (C := RX12) (T := TX12) (N := 48) hx hb hts (fun _ h => List.mem_cons_of_mem _ (List.mem_append_right _ h)) hown hK hP 0 rfl rfl 38 (by decide) (hts (.fieldLink RX12 77 "LeftArgumentsModel" "room" "[I") (List.mem_cons_of_mem _ (List.mem_append_left _ (List.mem_of_getElem? (i := 31) rfl)))) (fun _ h9 => h9) rfl dX12_tryShelf_88 ?_
                refine lv_iload hx hb dX12_tryShelf_91 (lv_at hl 0 rfl) ?_
                refine va_iald hx hb hK hP 4 3 rfl rfl (vp_in_iff.mpr ⟨by omega, by omega⟩) dX12_tryShelf_93 ?_
                refine lv_topi (fun t63 et63 => ?_)
                refine lv_aload_n hx hb dX12_tryShelf_94 rfl (lv_at hl 2 rfl) ?_
                refine lv_iload_n hx hb dX12_tryShelf_95 rfl (lv_at hl 3 rfl) ?_
                refine lv_iconst (v := 0) hx hb dX12_tryShelf_96 (by decide) ?_
                have hPc := hP.sub (ws' := (wd_5013416a h0 v0 r0 v1 v2 v3 v4 r1 r2 r3 r4 r5 r6 r7 v5 v6 r8 r9 r10 r11 v7 h1 r12 v8 v9 h2 r13 v10 v11 r14 v12 v13 r15 v14 w15 r16 x22 x23 h3 h4 r17 r18 r19 r20 v18 r21 r22 r23 v19 h2 g1 f21)) [0, 2] rfl
                have hDc := hD.sub (ws' := (wd_5013416a h0 v0 r0 v1 v2 v3 v4 r1 r2 r3 r4 r5 r6 r7 v5 v6 r8 r9 r10 r11 v7 h1 r12 v8 v9 h2 r13 v10 v11 r14 v12 v13 r15 v14 w15 r16 x22 x23 h3 h4 r17 r18 r19 r20 v18 r21 r22 r23 v19 h2 g1 f21)) [0, 2] (by decide) rfl
                have hKc := hK.sub (tys' := [(g1, .int)]) [1] rfl
                have hFc := va_free (wc := (wd_5013416a h0 v0 r0 v1 v2 v3 v4 r1 r2 r3 r4 r5 r6 r7 v5 v6 r8 r9 r10 r11 v7 h1 r12 v8 v9 h2 r13 v10 v11 r14 v12 v13 r15 v14 w15 r16 x22 x23 h3 h4 r17 r18 r19 r20 v18 r21 r22 r23 v19 h2 g1 f21)) hD hS hA [0, 2] rfl
                refine va_calli (va_runV (As := [.int 7, .int 0]) (rest := [.int t63]) ⟨hx, hb, hml, hown, hts⟩ (k_X12_of_3 l dC dI h0 h2 v0 r0 v1 v2 v3 v4 r1 r2 r3 r4 r5 r6 r7 v5 v6 r8 r9 r10 r11 v7 h1 r12 v8 v9 r13 v10 v11 r14 v12 v13 r15 v14 w15 r16 x22 x23 h3 h4 r17 r18 r19 r20 v18 r21 r22 r23 v19 g1 f21 7 ⟨i_v1a, i_v1b⟩ ⟨i_v5a, i_v5b⟩ ⟨i_v6a, i_v6b⟩ ⟨i_v7a, i_v7b⟩ ⟨i_v8a, i_v8b⟩ ⟨i_v9a, i_v9b⟩ ⟨i_v10a, i_v10b⟩ ⟨i_v14a, i_v14b⟩ ⟨i_v18a, i_v18b⟩ ⟨i_v19a, i_v19b⟩ ⟨by decide, by decide⟩ ia_f21.1 H.size) (cwV 2 hts g_X12_tryShelf_1_2 rfl rfl rfl (by decide +kernel) ⟨Nat.le_of_ble_eq_true rfl, Nat.le_of_ble_eq_true rfl⟩) (pv_PV12 hPc hKc hDc (q0 := 0) rfl) rfl rfl hl.1 rfl (lv_room (Nat.le_of_ble_eq_true rfl)) dX12_tryShelf_97 ⟨Nat.le_of_ble_eq_true rfl, Nat.le_of_ble_eq_true rfl⟩) hS (fun q _ h => hFc q h) hFc (fun ra64 u t H1 locs ht hvm hwra64 hB hz1 hk1 hS => ?_)
                try rw [hwra64] at hB
                have hkra64_0 : ((7 : Int32)).toInt = 7 := by decide
                obtain ⟨pt0_ra64, pt1_ra64, pt2_ra64, hP1, hK1, hD1⟩ := hB
                rw [ht] at hP1
                obtain ⟨hP2, hD2⟩ := va_join (wr := (wd_20b67a68 h1 g0 f20 h3 g2 fn24 h4 g3 fn25)) (w1 := (wd_5013416a h0 v0 r0 v1 v2 v3 v4 r1 r2 r3 r4 r5 r6 r7 v5 v6 r8 r9 r10 r11 v7 h1 r12 v8 v9 h2 r13 v10 v11 r14 v12 v13 r15 v14 w15 r16 x22 x23 h3 h4 r17 r18 r19 r20 v18 r21 r22 r23 v19 h2 g1 f21)) hP hD [0, 2] [1, 3, 4] rfl rfl (by decide) (by decide) hk1 hFc hP1 hD1
                clear hP hD hPc hDc hKc hFc hP1 hK1 hD1 hk1 hz1
                generalize H1 = H at hP2 hS ⊢
                have hP := hP2.sub (ws' := (wd_90cd99f9 h0 v0 r0 v1 v2 v3 v4 r1 r2 r3 r4 r5 r6 r7 v5 v6 r8 r9 r10 r11 v7 h1 r12 v8 v9 h2 r13 v10 v11 r14 v12 v13 r15 v14 w15 r16 x22 x23 h3 h4 r17 r18 r19 r20 v18 r21 r22 r23 v19 h1 g0 f20 h2 g1 f21 h3 g2 fn24 h4 g3 fn25)) [3, 0, 4, 1, 2] rfl
                have hD := hD2.sub (ws' := (wd_90cd99f9 h0 v0 r0 v1 v2 v3 v4 r1 r2 r3 r4 r5 r6 r7 v5 v6 r8 r9 r10 r11 v7 h1 r12 v8 v9 h2 r13 v10 v11 r14 v12 v13 r15 v14 w15 r16 x22 x23 h3 h4 r17 r18 r19 r20 v18 r21 r22 r23 v19 h1 g0 f20 h2 g1 f21 h3 g2 fn24 h4 g3 fn25)) [3, 0, 4, 1, 2] (by decide) rfl
                clear hP2 hD2
                refine lv_iadd hx hb dX12_tryShelf_100 ?_
                refine lv_topi (fun t65 et65 => ?_)
                refine lv_aload_n hx hb dX12_tryShelf_101 rfl (lv_at hl 2 rfl) ?_
                refine va_get (D := (dC, dI)) (ci := 12) (v := .ref h1) (C := RX12) (T := TX12) (N := 48) hx hb hts (fun _ h => List.mem_cons_of_mem _ (List.mem_append_right _ h)) hown hK hP 0 rfl rfl 20 (by decide) (hts (.fieldLink RX12 46 "LeftArgumentsModel" "rule" "[I") (List.mem_cons_of_mem _ (List.mem_append_left _ (List.mem_of_getElem? (i := 37) rfl)))) (fun _ h9 => h9) rfl dX12_tryShelf_102 ?_
                refine lv_iconst (v := 0) hx hb dX12_tryShelf_105 (by decide) ?_
                refine va_iald hx hb hK hP 1 0 rfl rfl (pv_c (x := 0) (n := 4) (by decide)) dX12_tryShelf_106 ?_
                refine lv_topi (fun t66 et66 => ?_)
                have gat66 : 0 ≤ t66.toInt := by rw [et66]; exact ia_f20.2
                refine lv_icmp_gt (tgt := 202) hx hb dX12_tryShelf_107 (by decide) (fun c67 => ?_) (fun c67 => ?_)
                · skip
                  have fc67 : t66.toInt < t65.toInt := Int32.lt_iff_toInt_lt.mp c67
                  have r1c67 := Int32.toInt_lt t65
                  have r2c67 := Int32.toInt_lt t66
                  have r3c67 := Int32.le_toInt t65
                  have r4c67 := Int32.le_toInt t66
                  exact hJ37 x22 x23 fn24 fn25 H locs ls hP hD hS (lv_sub hl [0, 1, 2, 3, 4, 5, 6] rfl)
                · skip
                  have fc67 : ¬ (t66.toInt < t65.toInt) := fun h9 => c67 (Int32.lt_iff_toInt_lt.mpr h9)
                  have r1c67 := Int32.toInt_lt t65
                  have r2c67 := Int32.toInt_lt t66
                  have r3c67 := Int32.le_toInt t65
                  have r4c67 := Int32.le_toInt t66
                  refine lv_goto (tgt := 123) hx hb dX12_tryShelf_110 (by decide) ?_
                  refine lv_aload_n hx hb dX12_tryShelf_123 rfl (lv_at hl 2 rfl) ?_
                  refine va_get (D := (dC, dI)) (ci := 12) (v := .ref h4) (C := RX12) (T := TX12) (N := 48) hx hb hts (fun _ h => List.mem_cons_of_mem _ (List.mem_append_right _ h)) hown hK hP 0 rfl rfl 38 (by decide) (hts (.fieldLink RX12 77 "LeftArgumentsModel" "room" "[I") (List.mem_cons_of_mem _ (List.mem_append_left _ (List.mem_of_getElem? (i := 31) rfl)))) (fun _ h9 => h9) rfl dX12_tryShelf_124 ?_
                  refine lv_iload hx hb dX12_tryShelf_127 (lv_at hl 0 rfl) ?_
                  refine lv_dup2_11 hx hb dX12_tryShelf_129 rfl rfl ?_
                  refine va_iald hx hb hK hP 4 3 rfl rfl (vp_in_iff.mpr ⟨by omega, by omega⟩) dX12_tryShelf_130 ?_
                  refine lv_topi (fun t68 et68 => ?_)
                  have gmt68 : t68.toInt = t63.toInt := by rw [et68, et63]
                  refine lv_aload_n hx hb dX12_tryShelf_131 rfl (lv_at hl 2 rfl) ?_
                  refine lv_iload_n hx hb dX12_tryShelf_132 rfl (lv_at hl 3 rfl) ?_
                  refine lv_iconst (v := 0) hx hb dX12_tryShelf_133 (by decide) ?_
                  have hPc := hP.sub (ws' := (wd_5013416a h0 v0 r0 v1 v2 v3 v4 r1 r2 r3 r4 r5 r6 r7 v5 v6 r8 r9 r10 r11 v7 h1 r12 v8 v9 h2 r13 v10 v11 r14 v12 v13 r15 v14 w15 r16 x22 x23 h3 h4 r17 r18 r19 r20 v18 r21 r22 r23 v19 h2 g1 f21)) [0, 2] rfl
                  have hDc := hD.sub (ws' := (wd_5013416a h0 v0 r0 v1 v2 v3 v4 r1 r2 r3 r4 r5 r6 r7 v5 v6 r8 r9 r10 r11 v7 h1 r12 v8 v9 h2 r13 v10 v11 r14 v12 v13 r15 v14 w15 r16 x22 x23 h3 h4 r17 r18 r19 r20 v18 r21 r22 r23 v19 h2 g1 f21)) [0, 2] (by decide) rfl
                  have hKc := hK.sub (tys' := [(g1, .int)]) [1] rfl
                  have hFc := va_free (wc := (wd_5013416a h0 v0 r0 v1 v2 v3 v4 r1 r2 r3 r4 r5 r6 r7 v5 v6 r8 r9 r10 r11 v7 h1 r12 v8 v9 h2 r13 v10 v11 r14 v12 v13 r15 v14 w15 r16 x22 x23 h3 h4 r17 r18 r19 r20 v18 r21 r22 r23 v19 h2 g1 f21)) hD hS hA [0, 2] rfl
                  refine va_calli (va_runV (As := [.int 7, .int 0]) (rest := [.int t68, .int x21, .ref h4]) ⟨hx, hb, hml, hown, hts⟩ (k_X12_of_3 l dC dI h0 h2 v0 r0 v1 v2 v3 v4 r1 r2 r3 r4 r5 r6 r7 v5 v6 r8 r9 r10 r11 v7 h1 r12 v8 v9 r13 v10 v11 r14 v12 v13 r15 v14 w15 r16 x22 x23 h3 h4 r17 r18 r19 r20 v18 r21 r22 r23 v19 g1 f21 7 ⟨i_v1a, i_v1b⟩ ⟨i_v5a, i_v5b⟩ ⟨i_v6a, i_v6b⟩ ⟨i_v7a, i_v7b⟩ ⟨i_v8a, i_v8b⟩ ⟨i_v9a, i_v9b⟩ ⟨i_v10a, i_v10b⟩ ⟨i_v14a, i_v14b⟩ ⟨i_v18a, i_v18b⟩ ⟨i_v19a, i_v19b⟩ ⟨by decide, by decide⟩ ia_f21.1 H.size) (cwV 2 hts g_X12_tryShelf_1_2 rfl rfl rfl (by decide +kernel) ⟨Nat.le_of_ble_eq_true rfl, Nat.le_of_ble_eq_true rfl⟩) (pv_PV12 hPc hKc hDc (q0 := 0) rfl) rfl rfl hl.1 rfl (lv_room (Nat.le_of_ble_eq_true rfl)) dX12_tryShelf_134 ⟨Nat.le_of_ble_eq_true rfl, Nat.le_of_ble_eq_true rfl⟩) hS (fun q _ h => hFc q h) hFc (fun ra69 u t H1 locs ht hvm hwra69 hB hz1 hk1 hS => ?_)
                  try rw [hwra69] at hB
                  have hkra69_0 : ((7 : Int32)).toInt = 7 := by decide
                  obtain ⟨pt0_ra69, pt1_ra69, pt2_ra69, hP1, hK1, hD1⟩ := hB
                  rw [ht] at hP1
                  obtain ⟨hP2, hD2⟩ := va_join (wr := (wd_20b67a68 h1 g0 f20 h3 g2 fn24 h4 g3 fn25)) (w1 := (wd_5013416a h0 v0 r0 v1 v2 v3 v4 r1 r2 r3 r4 r5 r6 r7 v5 v6 r8 r9 r10 r11 v7 h1 r12 v8 v9 h2 r13 v10 v11 r14 v12 v13 r15 v14 w15 r16 x22 x23 h3 h4 r17 r18 r19 r20 v18 r21 r22 r23 v19 h2 g1 f21)) hP hD [0, 2] [1, 3, 4] rfl rfl (by decide) (by decide) hk1 hFc hP1 hD1
                  clear hP hD hPc hDc hKc hFc hP1 hK1 hD1 hk1 hz1
                  generalize H1 = H at hP2 hS ⊢
                  have hP := hP2.sub (ws' := (wd_90cd99f9 h0 v0 r0 v1 v2 v3 v4 r1 r2 r3 r4 r5 r6 r7 v5 v6 r8 r9 r10 r11 v7 h1 r12 v8 v9 h2 r13 v10 v11 r14 v12 v13 r15 v14 w15 r16 x22 x23 h3 h4 r17 r18 r19 r20 v18 r21 r22 r23 v19 h1 g0 f20 h2 g1 f21 h3 g2 fn24 h4 g3 fn25)) [3, 0, 4, 1, 2] rfl
                  have hD := hD2.sub (ws' := (wd_90cd99f9 h0 v0 r0 v1 v2 v3 v4 r1 r2 r3 r4 r5 r6 r7 v5 v6 r8 r9 r10 r11 v7 h1 r12 v8 v9 h2 r13 v10 v11 r14 v12 v13 r15 v14 w15 r16 x22 x23 h3 h4 r17 r18 r19 r20 v18 r21 r22 r23 v19 h1 g0 f20 h2 g1 f21 h3 g2 fn24 h4 g3 fn25)) [3, 0, 4, 1, 2] (by decide) rfl
                  clear hP2 hD2
                  refine lv_iadd hx hb dX12_tryShelf_137 ?_
                  refine lv_topi (fun t70 et70 => ?_)
                  refine va_iast hx hb hK hP hD hS 4 3 rfl rfl (vp_in_iff.mpr ⟨by omega, by omega⟩) dX12_tryShelf_138 (fun H locs hP hD hS => ?_)
                  obtain ⟨fn71, efn71⟩ : ∃ g : Nat → Int32, g = upd fn25 (Int32.toNatClampNeg x21) t70 := ⟨_, rfl⟩
                  rw [← efn71] at hP hD
                  have hP : va_P (dC, dI) vwCl (wd_90cd99f9 h0 v0 r0 v1 v2 v3 v4 r1 r2 r3 r4 r5 r6 r7 v5 v6 r8 r9 r10 r11 v7 h1 r12 v8 v9 h2 r13 v10 v11 r14 v12 v13 r15 v14 w15 r16 x22 x23 h3 h4 r17 r18 r19 r20 v18 r21 r22 r23 v19 h1 g0 f20 h2 g1 f21 h3 g2 fn24 h4 g3 fn71) H := hP
                  have hD : va_D A (wd_90cd99f9 h0 v0 r0 v1 v2 v3 v4 r1 r2 r3 r4 r5 r6 r7 v5 v6 r8 r9 r10 r11 v7 h1 r12 v8 v9 h2 r13 v10 v11 r14 v12 v13 r15 v14 w15 r16 x22 x23 h3 h4 r17 r18 r19 r20 v18 r21 r22 r23 v19 h1 g0 f20 h2 g1 f21 h3 g2 fn24 h4 g3 fn71) := hD
                  refine lv_aload_n hx hb dX12_tryShelf_139 rfl (lv_at hl 2 rfl) ?_
                  refine va_get (D := (dC, dI)) (ci := 12) (v := .ref h3) (C := RX12) (T := TX12) (N := 48) hx hb hts (fun _ h => List.mem_cons_of_mem _ (List.mem_append_right _ h)) hown hK hP 0 rfl rfl 37 (by decide) (hts (.fieldLink RX12 74 "LeftArgumentsModel" "onShelf" "[I") (List.mem_cons_of_mem _ (List.mem_append_left _ (List.mem_of_getElem? (i := 15) rfl)))) (fun _ h9 => h9) rfl dX12_tryShelf_140 ?_
                  refine lv_iload_n hx hb dX12_tryShelf_143 rfl (lv_at hl 3 rfl) ?_
                  refine lv_iload hx hb dX12_tryShelf_144 (lv_at hl 0 rfl) ?_
                  refine va_iast hx hb hK hP hD hS 3 2 rfl rfl (pv_c (x := 7) (n := 8) (by decide)) dX12_tryShelf_146 (fun H locs hP hD hS => ?_)
                  obtain ⟨fn72, efn72⟩ : ∃ g : Nat → Int32, g = upd fn24 (Int32.toNatClampNeg 7) x21 := ⟨_, rfl⟩
                  rw [← efn72] at hP hD
                  have hP : va_P (dC, dI) vwCl (wd_90cd99f9 h0 v0 r0 v1 v2 v3 v4 r1 r2 r3 r4 r5 r6 r7 v5 v6 r8 r9 r10 r11 v7 h1 r12 v8 v9 h2 r13 v10 v11 r14 v12 v13 r15 v14 w15 r16 x22 x23 h3 h4 r17 r18 r19 r20 v18 r21 r22 r23 v19 h1 g0 f20 h2 g1 f21 h3 g2 fn72 h4 g3 fn71) H := hP
                  have hD : va_D A (wd_90cd99f9 h0 v0 r0 v1 v2 v3 v4 r1 r2 r3 r4 r5 r6 r7 v5 v6 r8 r9 r10 r11 v7 h1 r12 v8 v9 h2 r13 v10 v11 r14 v12 v13 r15 v14 w15 r16 x22 x23 h3 h4 r17 r18 r19 r20 v18 r21 r22 r23 v19 h1 g0 f20 h2 g1 f21 h3 g2 fn72 h4 g3 fn71) := hD
                  refine lv_aload_n hx hb dX12_tryShelf_147 rfl (lv_at hl 2 rfl) ?_
                  refine lv_iload_n hx hb dX12_tryShelf_148 rfl (lv_at hl 3 rfl) ?_
                  refine lv_iconst (v := 1) hx hb dX12_tryShelf_149 (by decide) ?_
                  refine lv_iadd hx hb dX12_tryShelf_150 ?_
                  refine lv_topi (fun tv73 etv73 => ?_)
                  obtain rfl : tv73 = (8 : Int32) := etv73.trans (by first | rfl | decide)
                  refine lv_bipush (v := 10) hx hb dX12_tryShelf_151 (by decide) ?_
                  refine lv_iload_n hx hb dX12_tryShelf_153 rfl (lv_at hl 4 rfl) ?_
                  refine lv_imul hx hb dX12_tryShelf_154 ?_
                  refine lv_topi (fun t74 et74 => ?_)
                  refine lv_iload hx hb dX12_tryShelf_155 (lv_at hl 0 rfl) ?_
                  refine lv_iadd hx hb dX12_tryShelf_157 ?_
                  refine lv_topi (fun t75 et75 => ?_)
                  refine lv_iload_n hx hb dX12_tryShelf_158 rfl (lv_at hl 5 rfl) ?_
                  refine lv_aload_n hx hb dX12_tryShelf_159 rfl (lv_at hl 2 rfl) ?_
                  refine va_get (D := (dC, dI)) (ci := 12) (v := .ref h4) (C := RX12) (T := TX12) (N := 48) hx hb hts (fun _ h => List.mem_cons_of_mem _ (List.mem_append_right _ h)) hown hK hP 0 rfl rfl 38 (by decide) (hts (.fieldLink RX12 77 "LeftArgumentsModel" "room" "[I") (List.mem_cons_of_mem _ (List.mem_append_left _ (List.mem_of_getElem? (i := 31) rfl)))) (fun _ h9 => h9) rfl dX12_tryShelf_160 ?_
                  refine lv_iload hx hb dX12_tryShelf_163 (lv_at hl 0 rfl) ?_
                  refine va_iald hx hb hK hP 4 3 rfl rfl (vp_in_iff.mpr ⟨by omega, by omega⟩) dX12_tryShelf_165 ?_
                  refine lv_topi (fun t76 et76 => ?_)
                  refine lv_aload_n hx hb dX12_tryShelf_166 rfl (lv_at hl 2 rfl) ?_
                  refine lv_iload_n hx hb dX12_tryShelf_167 rfl (lv_at hl 3 rfl) ?_
                  refine lv_iconst (v := 0) hx hb dX12_tryShelf_168 (by decide) ?_
                  have hPc := hP.sub (ws' := (wd_5013416a h0 v0 r0 v1 v2 v3 v4 r1 r2 r3 r4 r5 r6 r7 v5 v6 r8 r9 r10 r11 v7 h1 r12 v8 v9 h2 r13 v10 v11 r14 v12 v13 r15 v14 w15 r16 x22 x23 h3 h4 r17 r18 r19 r20 v18 r21 r22 r23 v19 h2 g1 f21)) [0, 2] rfl
                  have hDc := hD.sub (ws' := (wd_5013416a h0 v0 r0 v1 v2 v3 v4 r1 r2 r3 r4 r5 r6 r7 v5 v6 r8 r9 r10 r11 v7 h1 r12 v8 v9 h2 r13 v10 v11 r14 v12 v13 r15 v14 w15 r16 x22 x23 h3 h4 r17 r18 r19 r20 v18 r21 r22 r23 v19 h2 g1 f21)) [0, 2] (by decide) rfl
                  have hKc := hK.sub (tys' := [(g1, .int)]) [1] rfl
                  have hFc := va_free (wc := (wd_5013416a h0 v0 r0 v1 v2 v3 v4 r1 r2 r3 r4 r5 r6 r7 v5 v6 r8 r9 r10 r11 v7 h1 r12 v8 v9 h2 r13 v10 v11 r14 v12 v13 r15 v14 w15 r16 x22 x23 h3 h4 r17 r18 r19 r20 v18 r21 r22 r23 v19 h2 g1 f21)) hD hS hA [0, 2] rfl
                  refine va_calli (va_runV (As := [.int 7, .int 0]) (rest := [.int t76, .int v25, .int t75, .int 8, .ref h0]) ⟨hx, hb, hml, hown, hts⟩ (k_X12_of_3 l dC dI h0 h2 v0 r0 v1 v2 v3 v4 r1 r2 r3 r4 r5 r6 r7 v5 v6 r8 r9 r10 r11 v7 h1 r12 v8 v9 r13 v10 v11 r14 v12 v13 r15 v14 w15 r16 x22 x23 h3 h4 r17 r18 r19 r20 v18 r21 r22 r23 v19 g1 f21 7 ⟨i_v1a, i_v1b⟩ ⟨i_v5a, i_v5b⟩ ⟨i_v6a, i_v6b⟩ ⟨i_v7a, i_v7b⟩ ⟨i_v8a, i_v8b⟩ ⟨i_v9a, i_v9b⟩ ⟨i_v10a, i_v10b⟩ ⟨i_v14a, i_v14b⟩ ⟨i_v18a, i_v18b⟩ ⟨i_v19a, i_v19b⟩ ⟨by decide, by decide⟩ ia_f21.1 H.size) (cwV 2 hts g_X12_tryShelf_1_2 rfl rfl rfl (by decide +kernel) ⟨Nat.le_of_ble_eq_true rfl, Nat.le_of_ble_eq_true rfl⟩) (pv_PV12 hPc hKc hDc (q0 := 0) rfl) rfl rfl hl.1 rfl (lv_room (Nat.le_of_ble_eq_true rfl)) dX12_tryShelf_169 ⟨Nat.le_of_ble_eq_true rfl, Nat.le_of_ble_eq_true rfl⟩) hS (fun q _ h => hFc q h) hFc (fun ra77 u t H1 locs ht hvm hwra77 hB hz1 hk1 hS => ?_)
                  try rw [hwra77] at hB
                  have hkra77_0 : ((7 : Int32)).toInt = 7 := by decide
                  obtain ⟨pt0_ra77, pt1_ra77, pt2_ra77, hP1, hK1, hD1⟩ := hB
                  rw [ht] at hP1
                  obtain ⟨hP2, hD2⟩ := va_join (wr := (wd_20b67a68 h1 g0 f20 h3 g2 fn72 h4 g3 fn71)) (w1 := (wd_5013416a h0 v0 r0 v1 v2 v3 v4 r1 r2 r3 r4 r5 r6 r7 v5 v6 r8 r9 r10 r11 v7 h1 r12 v8 v9 h2 r13 v10 v11 r14 v12 v13 r15 v14 w15 r16 x22 x23 h3 h4 r17 r18 r19 r20 v18 r21 r22 r23 v19 h2 g1 f21)) hP hD [0, 2] [1, 3, 4] rfl rfl (by decide) (by decide) hk1 hFc hP1 hD1
                  clear hP hD hPc hDc hKc hFc hP1 hK1 hD1 hk1 hz1
                  generalize H1 = H at hP2 hS ⊢
                  have hP := hP2.sub (ws' := (wd_90cd99f9 h0 v0 r0 v1 v2 v3 v4 r1 r2 r3 r4 r5 r6 r7 v5 v6 r8 r9 r10 r11 v7 h1 r12 v8 v9 h2 r13 v10 v11 r14 v12 v13 r15 v14 w15 r16 x22 x23 h3 h4 r17 r18 r19 r20 v18 r21 r22 r23 v19 h1 g0 f20 h2 g1 f21 h3 g2 fn72 h4 g3 fn71)) [3, 0, 4, 1, 2] rfl
                  have hD := hD2.sub (ws' := (wd_90cd99f9 h0 v0 r0 v1 v2 v3 v4 r1 r2 r3 r4 r5 r6 r7 v5 v6 r8 r9 r10 r11 v7 h1 r12 v8 v9 h2 r13 v10 v11 r14 v12 v13 r15 v14 w15 r16 x22 x23 h3 h4 r17 r18 r19 r20 v18 r21 r22 r23 v19 h1 g0 f20 h2 g1 f21 h3 g2 fn72 h4 g3 fn71)) [3, 0, 4, 1, 2] (by decide) rfl
                  clear hP2 hD2
                  have hJ79 : ∀ (x78 : Int32) (H : Heap) (locs : List Loc) (ls : Array Slot), 0 ≤ x78.toInt → x78.toInt ≤ 1 → va_P (dC, dI) vwCl (wd_90cd99f9 h0 v0 r0 v1 v2 v3 v4 r1 r2 r3 r4 r5 r6 r7 v5 v6 r8 r9 r10 r11 v7 h1 r12 v8 v9 h2 r13 v10 v11 r14 v12 v13 r15 v14 w15 r16 x22 x23 h3 h4 r17 r18 r19 r20 v18 r21 r22 r23 v19 h1 g0 f20 h2 g1 f21 h3 g2 fn72 h4 g3 fn71) H → va_D A (wd_90cd99f9 h0 v0 r0 v1 v2 v3 v4 r1 r2 r3 r4 r5 r6 r7 v5 v6 r8 r9 r10 r11 v7 h1 r12 v8 v9 h2 r13 v10 v11 r14 v12 v13 r15 v14 w15 r16 x22 x23 h3 h4 r17 r18 r19 r20 v18 r21 r22 r23 v19 h1 g0 f20 h2 g1 f21 h3 g2 fn72 h4 g3 fn71) → va_S A s.heap H locs → lv_has ls 7 [(6, .int x21), (5, .int x4), (0, .ref h0), (1, .int 7), (2, .int v24), (3, .int v25), (4, .int v26)] → W p l e ({ frames := 4, cells := 0, slots := 0, locals := 88 }) s m ([.ref h0, .int 7, .int v24, .int v25, .int v26] : List Value).toArray below meth c H locs 0 0 Q (F0 m 180 ls [.int x78, .int v25, .int t75, .int 8, .ref h0]) := by
                    intro x78 H locs ls qa_x78 qb_x78 hP hD hS hl
                    refine lv_iadd hx hb dX12_tryShelf_180 ?_
                    refine lv_topi (fun t80 et80 => ?_)
                    refine lv_iload hx hb dX12_tryShelf_181 (lv_at hl 6 rfl) ?_
                    have hPc := hP.sub (ws' := (wd_171f232f h0 v0 r0 v1 v2 v3 v4 r1 r2 r3 r4 r5 r6 r7 v5 v6 r8 r9 r10 r11 v7 h1 r12 v8 v9 h2 r13 v10 v11 r14 v12 v13 r15 v14 w15 r16 x22 x23 h3 h4 r17 r18 r19 r20 v18 r21 r22 r23 v19)) [0] rfl
                    have hDc := hD.sub (ws' := (wd_171f232f h0 v0 r0 v1 v2 v3 v4 r1 r2 r3 r4 r5 r6 r7 v5 v6 r8 r9 r10 r11 v7 h1 r12 v8 v9 h2 r13 v10 v11 r14 v12 v13 r15 v14 w15 r16 x22 x23 h3 h4 r17 r18 r19 r20 v18 r21 r22 r23 v19)) [0] (by decide) rfl
                    have hKc := hK.sub (tys' := []) [] rfl
                    have hFc := va_free (wc := (wd_171f232f h0 v0 r0 v1 v2 v3 v4 r1 r2 r3 r4 r5 r6 r7 v5 v6 r8 r9 r10 r11 v7 h1 r12 v8 v9 h2 r13 v10 v11 r14 v12 v13 r15 v14 w15 r16 x22 x23 h3 h4 r17 r18 r19 r20 v18 r21 r22 r23 v19)) hD hS hA [0] rfl
                    refine va_callv (va_runV (As := [.int 8, .int t75, .int t80, .int v26]) (rest := []) ⟨hx, hb, hml, hown, hts⟩ (k_X12_tryShelf l dC dI h0 v0 r0 v1 v2 v3 v4 r1 r2 r3 r4 r5 r6 r7 v5 v6 r8 r9 r10 r11 v7 h1 r12 v8 v9 h2 r13 v10 v11 r14 v12 v13 r15 v14 w15 r16 x22 x23 h3 h4 r17 r18 r19 r20 v18 r21 r22 r23 v19 t75 t80 v26 ⟨i_v1a, i_v1b⟩ ⟨i_v5a, i_v5b⟩ ⟨i_v6a, i_v6b⟩ ⟨i_v7a, i_v7b⟩ ⟨i_v8a, i_v8b⟩ ⟨i_v9a, i_v9b⟩ ⟨i_v10a, i_v10b⟩ ⟨i_v14a, i_v14b⟩ ⟨i_v18a, i_v18b⟩ ⟨i_v19a, i_v19b⟩ ⟨i_v26a, i_v26b⟩ H.size) (cwV 4 hts g_X12_tryShelf_1_4 rfl rfl rfl (by decide +kernel) ⟨Nat.le_of_ble_eq_true rfl, Nat.le_of_ble_eq_true rfl⟩) (pv_PV12 hPc hKc hDc (q0 := 0) rfl) rfl rfl hl.1 rfl (lv_room (Nat.le_of_ble_eq_true rfl)) dX12_tryShelf_183 ⟨Nat.le_of_ble_eq_true rfl, Nat.le_of_ble_eq_true rfl⟩) hS (fun q _ h => hFc q h) hFc (fun u t H1 locs ht hvm hwra81 hB hz1 hk1 hS => ?_)
                    obtain ⟨x82, x83, hP1, hK1, hD1⟩ := hB
                    rw [ht] at hP1
                    obtain ⟨hP2, hD2⟩ := va_join (wr := (wd_fd33bfec h1 g0 f20 h2 g1 f21 h3 g2 fn72 h4 g3 fn71)) (w1 := (wd_171f232f h0 v0 r0 v1 v2 v3 v4 r1 r2 r3 r4 r5 r6 r7 v5 v6 r8 r9 r10 r11 v7 h1 r12 v8 v9 h2 r13 v10 v11 r14 v12 v13 r15 v14 w15 r16 x82 x83 h3 h4 r17 r18 r19 r20 v18 r21 r22 r23 v19)) hP hD [0] [1, 2, 3, 4] rfl rfl (by decide) (by decide) hk1 hFc hP1 hD1
                    clear hP hD hPc hDc hKc hFc hP1 hK1 hD1 hk1 hz1
                    generalize H1 = H at hP2 hS ⊢
                    have hP := hP2.sub (ws' := (wd_90cd99f9 h0 v0 r0 v1 v2 v3 v4 r1 r2 r3 r4 r5 r6 r7 v5 v6 r8 r9 r10 r11 v7 h1 r12 v8 v9 h2 r13 v10 v11 r14 v12 v13 r15 v14 w15 r16 x82 x83 h3 h4 r17 r18 r19 r20 v18 r21 r22 r23 v19 h1 g0 f20 h2 g1 f21 h3 g2 fn72 h4 g3 fn71)) [4, 0, 1, 2, 3] rfl
                    have hD := hD2.sub (ws' := (wd_90cd99f9 h0 v0 r0 v1 v2 v3 v4 r1 r2 r3 r4 r5 r6 r7 v5 v6 r8 r9 r10 r11 v7 h1 r12 v8 v9 h2 r13 v10 v11 r14 v12 v13 r15 v14 w15 r16 x82 x83 h3 h4 r17 r18 r19 r20 v18 r21 r22 r23 v19 h1 g0 f20 h2 g1 f21 h3 g2 fn72 h4 g3 fn71)) [4, 0, 1, 2, 3] (by decide) rfl
                    clear hP2 hD2
                    refine lv_aload_n hx hb dX12_tryShelf_186 rfl (lv_at hl 2 rfl) ?_
                    refine va_get (D := (dC, dI)) (ci := 12) (v := .ref h4) (C := RX12) (T := TX12) (N := 48) hx hb hts (fun _ h => List.mem_cons_of_mem _ (List.mem_append_right _ h)) hown hK hP 0 rfl rfl 38 (by decide) (hts (.fieldLink RX12 77 "LeftArgumentsModel" "room" "[I") (List.mem_cons_of_mem _ (List.mem_append_left _ (List.mem_of_getElem? (i := 31) rfl)))) (fun _ h9 => h9) rfl dX12_tryShelf_187 ?_
                    refine lv_iload hx hb dX12_tryShelf_190 (lv_at hl 0 rfl) ?_
                    refine lv_dup2_11 hx hb dX12_tryShelf_192 rfl rfl ?_
                    refine va_iald hx hb hK hP 4 3 rfl rfl (vp_in_iff.mpr ⟨by omega, by omega⟩) dX12_tryShelf_193 ?_
                    refine lv_topi (fun t84 et84 => ?_)
                    have gmt84 : t84.toInt = t76.toInt := by rw [et84, et76]
                    refine lv_aload_n hx hb dX12_tryShelf_194 rfl (lv_at hl 2 rfl) ?_
                    refine lv_iload_n hx hb dX12_tryShelf_195 rfl (lv_at hl 3 rfl) ?_
                    refine lv_iconst (v := 0) hx hb dX12_tryShelf_196 (by decide) ?_
                    have hPc := hP.sub (ws' := (wd_5013416a h0 v0 r0 v1 v2 v3 v4 r1 r2 r3 r4 r5 r6 r7 v5 v6 r8 r9 r10 r11 v7 h1 r12 v8 v9 h2 r13 v10 v11 r14 v12 v13 r15 v14 w15 r16 x82 x83 h3 h4 r17 r18 r19 r20 v18 r21 r22 r23 v19 h2 g1 f21)) [0, 2] rfl
                    have hDc := hD.sub (ws' := (wd_5013416a h0 v0 r0 v1 v2 v3 v4 r1 r2 r3 r4 r5 r6 r7 v5 v6 r8 r9 r10 r11 v7 h1 r12 v8 v9 h2 r13 v10 v11 r14 v12 v13 r15 v14 w15 r16 x82 x83 h3 h4 r17 r18 r19 r20 v18 r21 r22 r23 v19 h2 g1 f21)) [0, 2] (by decide) rfl
                    have hKc := hK.sub (tys' := [(g1, .int)]) [1] rfl
                    have hFc := va_free (wc := (wd_5013416a h0 v0 r0 v1 v2 v3 v4 r1 r2 r3 r4 r5 r6 r7 v5 v6 r8 r9 r10 r11 v7 h1 r12 v8 v9 h2 r13 v10 v11 r14 v12 v13 r15 v14 w15 r16 x82 x83 h3 h4 r17 r18 r19 r20 v18 r21 r22 r23 v19 h2 g1 f21)) hD hS hA [0, 2] rfl
                    refine va_calli (va_runV (As := [.int 7, .int 0]) (rest := [.int t84, .int x21, .ref h4]) ⟨hx, hb, hml, hown, hts⟩ (k_X12_of_3 l dC dI h0 h2 v0 r0 v1 v2 v3 v4 r1 r2 r3 r4 r5 r6 r7 v5 v6 r8 r9 r10 r11 v7 h1 r12 v8 v9 r13 v10 v11 r14 v12 v13 r15 v14 w15 r16 x82 x83 h3 h4 r17 r18 r19 r20 v18 r21 r22 r23 v19 g1 f21 7 ⟨i_v1a, i_v1b⟩ ⟨i_v5a, i_v5b⟩ ⟨i_v6a, i_v6b⟩ ⟨i_v7a, i_v7b⟩ ⟨i_v8a, i_v8b⟩ ⟨i_v9a, i_v9b⟩ ⟨i_v10a, i_v10b⟩ ⟨i_v14a, i_v14b⟩ ⟨i_v18a, i_v18b⟩ ⟨i_v19a, i_v19b⟩ ⟨by decide, by decide⟩ ia_f21.1 H.size) (cwV 2 hts g_X12_tryShelf_1_2 rfl rfl rfl (by decide +kernel) ⟨Nat.le_of_ble_eq_true rfl, Nat.le_of_ble_eq_true rfl⟩) (pv_PV12 hPc hKc hDc (q0 := 0) rfl) rfl rfl hl.1 rfl (lv_room (Nat.le_of_ble_eq_true rfl)) dX12_tryShelf_197 ⟨Nat.le_of_ble_eq_true rfl, Nat.le_of_ble_eq_true rfl⟩) hS (fun q _ h => hFc q h) hFc (fun ra85 u t H1 locs ht hvm hwra85 hB hz1 hk1 hS => ?_)
                    try rw [hwra85] at hB
                    have hkra85_0 : ((7 : Int32)).toInt = 7 := by decide
                    obtain ⟨pt0_ra85, pt1_ra85, pt2_ra85, hP1, hK1, hD1⟩ := hB
                    rw [ht] at hP1
                    obtain ⟨hP2, hD2⟩ := va_join (wr := (wd_20b67a68 h1 g0 f20 h3 g2 fn72 h4 g3 fn71)) (w1 := (wd_5013416a h0 v0 r0 v1 v2 v3 v4 r1 r2 r3 r4 r5 r6 r7 v5 v6 r8 r9 r10 r11 v7 h1 r12 v8 v9 h2 r13 v10 v11 r14 v12 v13 r15 v14 w15 r16 x82 x83 h3 h4 r17 r18 r19 r20 v18 r21 r22 r23 v19 h2 g1 f21)) hP hD [0, 2] [1, 3, 4] rfl rfl (by decide) (by decide) hk1 hFc hP1 hD1
                    clear hP hD hPc hDc hKc hFc hP1 hK1 hD1 hk1 hz1
                    generalize H1 = H at hP2 hS ⊢
                    have hP := hP2.sub (ws' := (wd_90cd99f9 h0 v0 r0 v1 v2 v3 v4 r1 r2 r3 r4 r5 r6 r7 v5 v6 r8 r9 r10 r11 v7 h1 r12 v8 v9 h2 r13 v10 v11 r14 v12 v13 r15 v14 w15 r16 x82 x83 h3 h4 r17 r18 r19 r20 v18 r21 r22 r23 v19 h1 g0 f20 h2 g1 f21 h3 g2 fn72 h4 g3 fn71)) [3, 0, 4, 1, 2] rfl
                    have hD := hD2.sub (ws' := (wd_90cd99f9 h0 v0 r0 v1 v2 v3 v4 r1 r2 r3 r4 r5 r6 r7 v5 v6 r8 r9 r10 r11 v7 h1 r12 v8 v9 h2 r13 v10 v11 r14 v12 v13 r15 v14 w15 r16 x82 x83 h3 h4 r17 r18 r19 r20 v18 r21 r22 r23 v19 h1 g0 f20 h2 g1 f21 h3 g2 fn72 h4 g3 fn71)) [3, 0, 4, 1, 2] (by decide) rfl
                    clear hP2 hD2
                    refine lv_isub hx hb dX12_tryShelf_200 ?_
                    refine lv_topi (fun t86 et86 => ?_)
                    refine va_iast hx hb hK hP hD hS 4 3 rfl rfl (vp_in_iff.mpr ⟨by omega, by omega⟩) dX12_tryShelf_201 (fun H locs hP hD hS => ?_)
                    obtain ⟨fn87, efn87⟩ : ∃ g : Nat → Int32, g = upd fn71 (Int32.toNatClampNeg x21) t86 := ⟨_, rfl⟩
                    rw [← efn87] at hP hD
                    have hP : va_P (dC, dI) vwCl (wd_90cd99f9 h0 v0 r0 v1 v2 v3 v4 r1 r2 r3 r4 r5 r6 r7 v5 v6 r8 r9 r10 r11 v7 h1 r12 v8 v9 h2 r13 v10 v11 r14 v12 v13 r15 v14 w15 r16 x82 x83 h3 h4 r17 r18 r19 r20 v18 r21 r22 r23 v19 h1 g0 f20 h2 g1 f21 h3 g2 fn72 h4 g3 fn87) H := hP
                    have hD : va_D A (wd_90cd99f9 h0 v0 r0 v1 v2 v3 v4 r1 r2 r3 r4 r5 r6 r7 v5 v6 r8 r9 r10 r11 v7 h1 r12 v8 v9 h2 r13 v10 v11 r14 v12 v13 r15 v14 w15 r16 x82 x83 h3 h4 r17 r18 r19 r20 v18 r21 r22 r23 v19 h1 g0 f20 h2 g1 f21 h3 g2 fn72 h4 g3 fn87) := hD
                    exact hJ37 x82 x83 fn72 fn87 H locs ls hP hD hS (lv_sub hl [0, 1, 2, 3, 4, 5, 6] rfl)
                  refine lv_icmp_ne (tgt := 179) hx hb dX12_tryShelf_172 (by decide) (fun c88 => ?_) (fun c88 => ?_)
                  · skip
                    have fc88 : ¬ (t76.toInt = ra77.toInt) := fun h9 => c88 (Int32.toInt_inj.mp h9)
                    have r1c88 := Int32.toInt_lt t76
                    have r2c88 := Int32.toInt_lt ra77
                    have r3c88 := Int32.le_toInt t76
                    have r4c88 := Int32.le_toInt ra77
                    refine lv_iconst (v := 0) hx hb dX12_tryShelf_179 (by decide) ?_
                    exact hJ79 0 H locs ls (by decide) (by decide) hP hD hS (lv_sub hl [0, 1, 2, 3, 4, 5, 6] rfl)
                  · skip
                    have fc88 : t76.toInt = ra77.toInt := congrArg Int32.toInt c88
                    have r1c88 := Int32.toInt_lt t76
                    have r2c88 := Int32.toInt_lt ra77
                    have r3c88 := Int32.le_toInt t76
                    have r4c88 := Int32.le_toInt ra77
                    refine lv_iconst (v := 1) hx hb dX12_tryShelf_175 (by decide) ?_
                    refine lv_goto (tgt := 180) hx hb dX12_tryShelf_176 (by decide) ?_
                    exact hJ79 1 H locs ls (by decide) (by decide) hP hD hS (lv_sub hl [0, 1, 2, 3, 4, 5, 6] rfl)
        exact hL31 _ 0 v16 v17 f22 f23 H locs ls (by decide) (by decide) (Nat.lt_succ_self _) hP hD hS (lv_sub hl [0, 1, 2, 3, 4, 5, 6] rfl)
      refine lv_if_eq (tgt := 68) hx hb dX12_tryShelf_56 (by decide) (fun c89 => ?_) (fun c89 => ?_)
      · skip
        have fc89 : v26.toInt = 0 := congrArg Int32.toInt c89
        refine lv_bipush (v := 8) hx hb dX12_tryShelf_68 (by decide) ?_
        exact hJ5 8 H locs ls (by decide) (by decide) hP hD hS (lv_sub hl [0, 1, 2, 3, 4] rfl)
      · skip
        have fc89 : ¬ (v26.toInt = 0) := fun h9 => c89 (Int32.toInt_inj.mp h9)
        refine lv_aload_n hx hb dX12_tryShelf_59 rfl (lv_at hl 0 rfl) ?_
        refine va_get (D := (dC, dI)) (ci := 12) (v := .ref h1) (C := RX12) (T := TX12) (N := 48) hx hb hts (fun _ h => List.mem_cons_of_mem _ (List.mem_append_right _ h)) hown hK hP 0 rfl rfl 20 (by decide) (hts (.fieldLink RX12 46 "LeftArgumentsModel" "rule" "[I") (List.mem_cons_of_mem _ (List.mem_append_left _ (List.mem_of_getElem? (i := 37) rfl)))) (fun _ h9 => h9) rfl dX12_tryShelf_60 ?_
        refine lv_iconst (v := 1) hx hb dX12_tryShelf_63 (by decide) ?_
        refine va_iald hx hb hK hP 1 0 rfl rfl (pv_c (x := 1) (n := 4) (by decide)) dX12_tryShelf_64 ?_
        refine lv_topi (fun t90 et90 => ?_)
        have gat90 : 0 ≤ t90.toInt ∧ t90.toInt ≤ 5 := by rw [et90]; exact ia_f20.1
        refine lv_goto (tgt := 70) hx hb dX12_tryShelf_65 (by decide) ?_
        exact hJ5 t90 H locs ls (by first | omega | decide) (by first | omega | decide) hP hD hS (lv_sub hl [0, 1, 2, 3, 4] rfl)
    · skip
      have fc3 : ra2.toInt = 0 := congrArg Int32.toInt c3
      have q0wra2 := wra2 (by omega)
      refine lv_aload_n hx hb dX12_tryShelf_42 rfl (lv_at hl 0 rfl) ?_
      refine lv_iload_n hx hb dX12_tryShelf_43 rfl (lv_at hl 1 rfl) ?_
      refine lv_iconst (v := 1) hx hb dX12_tryShelf_44 (by decide) ?_
      refine lv_iadd hx hb dX12_tryShelf_45 ?_
      refine lv_topi (fun tv91 etv91 => ?_)
      obtain rfl : tv91 = (8 : Int32) := etv91.trans (by first | rfl | decide)
      refine lv_iload_n hx hb dX12_tryShelf_46 rfl (lv_at hl 2 rfl) ?_
      refine lv_iload_n hx hb dX12_tryShelf_47 rfl (lv_at hl 3 rfl) ?_
      refine lv_iload hx hb dX12_tryShelf_48 (lv_at hl 4 rfl) ?_
      have hPc := hP.sub (ws' := (wd_171f232f h0 v0 r0 v1 v2 v3 v4 r1 r2 r3 r4 r5 r6 r7 v5 v6 r8 r9 r10 r11 v7 h1 r12 v8 v9 h2 r13 v10 v11 r14 v12 v13 r15 v14 w15 r16 v16 v17 h3 h4 r17 r18 r19 r20 v18 r21 r22 r23 v19)) [0] rfl
      have hDc := hD.sub (ws' := (wd_171f232f h0 v0 r0 v1 v2 v3 v4 r1 r2 r3 r4 r5 r6 r7 v5 v6 r8 r9 r10 r11 v7 h1 r12 v8 v9 h2 r13 v10 v11 r14 v12 v13 r15 v14 w15 r16 v16 v17 h3 h4 r17 r18 r19 r20 v18 r21 r22 r23 v19)) [0] (by decide) rfl
      have hKc := hK.sub (tys' := []) [] rfl
      have hFc := va_free (wc := (wd_171f232f h0 v0 r0 v1 v2 v3 v4 r1 r2 r3 r4 r5 r6 r7 v5 v6 r8 r9 r10 r11 v7 h1 r12 v8 v9 h2 r13 v10 v11 r14 v12 v13 r15 v14 w15 r16 v16 v17 h3 h4 r17 r18 r19 r20 v18 r21 r22 r23 v19)) hD hS hA [0] rfl
      refine va_callv (va_runV (As := [.int 8, .int v24, .int v25, .int v26]) (rest := []) ⟨hx, hb, hml, hown, hts⟩ (k_X12_tryShelf l dC dI h0 v0 r0 v1 v2 v3 v4 r1 r2 r3 r4 r5 r6 r7 v5 v6 r8 r9 r10 r11 v7 h1 r12 v8 v9 h2 r13 v10 v11 r14 v12 v13 r15 v14 w15 r16 v16 v17 h3 h4 r17 r18 r19 r20 v18 r21 r22 r23 v19 v24 v25 v26 ⟨i_v1a, i_v1b⟩ ⟨i_v5a, i_v5b⟩ ⟨i_v6a, i_v6b⟩ ⟨i_v7a, i_v7b⟩ ⟨i_v8a, i_v8b⟩ ⟨i_v9a, i_v9b⟩ ⟨i_v10a, i_v10b⟩ ⟨i_v14a, i_v14b⟩ ⟨i_v18a, i_v18b⟩ ⟨i_v19a, i_v19b⟩ ⟨i_v26a, i_v26b⟩ H.size) (cwV 4 hts g_X12_tryShelf_1_4 rfl rfl rfl (by decide +kernel) ⟨Nat.le_of_ble_eq_true rfl, Nat.le_of_ble_eq_true rfl⟩) (pv_PV12 hPc hKc hDc (q0 := 0) rfl) rfl rfl hl.1 rfl (lv_room (Nat.le_of_ble_eq_true rfl)) dX12_tryShelf_50 ⟨Nat.le_of_ble_eq_true rfl, Nat.le_of_ble_eq_true rfl⟩) hS (fun q _ h => hFc q h) hFc (fun u t H1 locs ht hvm hwra92 hB hz1 hk1 hS => ?_)
      obtain ⟨x93, x94, hP1, hK1, hD1⟩ := hB
      rw [ht] at hP1
      obtain ⟨hP2, hD2⟩ := va_join (wr := (wd_fd33bfec h1 g0 f20 h2 g1 f21 h3 g2 f22 h4 g3 f23)) (w1 := (wd_171f232f h0 v0 r0 v1 v2 v3 v4 r1 r2 r3 r4 r5 r6 r7 v5 v6 r8 r9 r10 r11 v7 h1 r12 v8 v9 h2 r13 v10 v11 r14 v12 v13 r15 v14 w15 r16 x93 x94 h3 h4 r17 r18 r19 r20 v18 r21 r22 r23 v19)) hP hD [0] [1, 2, 3, 4] rfl rfl (by decide) (by decide) hk1 hFc hP1 hD1
      clear hP hD hPc hDc hKc hFc hP1 hK1 hD1 hk1 hz1
      generalize H1 = H at hP2 hS ⊢
      have hP := hP2.sub (ws' := (wd_90cd99f9 h0 v0 r0 v1 v2 v3 v4 r1 r2 r3 r4 r5 r6 r7 v5 v6 r8 r9 r10 r11 v7 h1 r12 v8 v9 h2 r13 v10 v11 r14 v12 v13 r15 v14 w15 r16 x93 x94 h3 h4 r17 r18 r19 r20 v18 r21 r22 r23 v19 h1 g0 f20 h2 g1 f21 h3 g2 f22 h4 g3 f23)) [4, 0, 1, 2, 3] rfl
      have hD := hD2.sub (ws' := (wd_90cd99f9 h0 v0 r0 v1 v2 v3 v4 r1 r2 r3 r4 r5 r6 r7 v5 v6 r8 r9 r10 r11 v7 h1 r12 v8 v9 h2 r13 v10 v11 r14 v12 v13 r15 v14 w15 r16 x93 x94 h3 h4 r17 r18 r19 r20 v18 r21 r22 r23 v19 h1 g0 f20 h2 g1 f21 h3 g2 f22 h4 g3 f23)) [4, 0, 1, 2, 3] (by decide) rfl
      clear hP2 hD2
      subst hQ
      have hP9 := hP.sub (ws' := (wd_90cd99f9 h0 v0 r0 v1 v2 v3 v4 r1 r2 r3 r4 r5 r6 r7 v5 v6 r8 r9 r10 r11 v7 h1 r12 v8 v9 h2 r13 v10 v11 r14 v12 v13 r15 v14 w15 r16 x93 x94 h3 h4 r17 r18 r19 r20 v18 r21 r22 r23 v19 h1 g0 f20 h2 g1 f21 h3 g2 f22 h4 g3 f23)) [0, 1, 2, 3, 4] rfl
      have hD9 := hD.sub (ws' := (wd_90cd99f9 h0 v0 r0 v1 v2 v3 v4 r1 r2 r3 r4 r5 r6 r7 v5 v6 r8 r9 r10 r11 v7 h1 r12 v8 v9 h2 r13 v10 v11 r14 v12 v13 r15 v14 w15 r16 x93 x94 h3 h4 r17 r18 r19 r20 v18 r21 r22 r23 v19 h1 g0 f20 h2 g1 f21 h3 g2 f22 h4 g3 f23)) [0, 1, 2, 3, 4] (by decide) rfl
      have hK9 := hK.sub (tys' := []) [] rfl
      exact W.vret hx hb hr (fun t ht hW => ⟨⟨(), rfl, trivial, ⟨x93, x94, f22, f23, by rw [ht]; exact hP9, va_K.moved hW.alike hK9, hD9⟩⟩, hS.F ht⟩) hS.2.2 dX12_tryShelf_53
  · skip
    have fc1 : ¬ (v16.toInt = (-1)) := fun h9 => c1 (Int32.toInt_inj.mp h9)
    refine lv_iload_n hx hb dX12_tryShelf_8 rfl (lv_at hl 3 rfl) ?_
    refine lv_aload_n hx hb dX12_tryShelf_9 rfl (lv_at hl 0 rfl) ?_
    refine va_get (D := (dC, dI)) (ci := 12) (v := .int v17) (C := RX12) (T := TX12) (N := 48) hx hb hts (fun _ h => List.mem_cons_of_mem _ (List.mem_append_right _ h)) hown hK hP 0 rfl rfl 36 (by decide) (hts (.fieldLink RX12 391 "LeftArgumentsModel" "bestMany" "I") (List.mem_cons_of_mem _ (List.mem_append_left _ (List.mem_of_getElem? (i := 33) rfl)))) (fun _ h9 => h9) rfl dX12_tryShelf_10 ?_
    refine lv_icmp_lt (tgt := 17) hx hb dX12_tryShelf_13 (by decide) (fun c95 => ?_) (fun c95 => ?_)
    · skip
      have fc95 : v25.toInt < v17.toInt := Int32.lt_iff_toInt_lt.mp c95
      have r1c95 := Int32.toInt_lt v25
      have r2c95 := Int32.toInt_lt v17
      have r3c95 := Int32.le_toInt v25
      have r4c95 := Int32.le_toInt v17
      refine lv_iload_n hx hb dX12_tryShelf_17 rfl (lv_at hl 1 rfl) ?_
      refine lv_bipush (v := 8) hx hb dX12_tryShelf_18 (by decide) ?_
      refine lv_icmp_ne (tgt := 34) hx hb dX12_tryShelf_20 (by decide) (fun _ => ?_) (fun c => absurd c (by decide))
      refine lv_aload_n hx hb dX12_tryShelf_34 rfl (lv_at hl 0 rfl) ?_
      refine lv_iload_n hx hb dX12_tryShelf_35 rfl (lv_at hl 1 rfl) ?_
      have hPc := hP.sub (ws' := (wd_5013416a h0 v0 r0 v1 v2 v3 v4 r1 r2 r3 r4 r5 r6 r7 v5 v6 r8 r9 r10 r11 v7 h1 r12 v8 v9 h2 r13 v10 v11 r14 v12 v13 r15 v14 w15 r16 v16 v17 h3 h4 r17 r18 r19 r20 v18 r21 r22 r23 v19 h2 g1 f21)) [0, 2] rfl
      have hDc := hD.sub (ws' := (wd_5013416a h0 v0 r0 v1 v2 v3 v4 r1 r2 r3 r4 r5 r6 r7 v5 v6 r8 r9 r10 r11 v7 h1 r12 v8 v9 h2 r13 v10 v11 r14 v12 v13 r15 v14 w15 r16 v16 v17 h3 h4 r17 r18 r19 r20 v18 r21 r22 r23 v19 h2 g1 f21)) [0, 2] (by decide) rfl
      have hKc := hK.sub (tys' := [(g1, .int)]) [1] rfl
      have hFc := va_free (wc := (wd_5013416a h0 v0 r0 v1 v2 v3 v4 r1 r2 r3 r4 r5 r6 r7 v5 v6 r8 r9 r10 r11 v7 h1 r12 v8 v9 h2 r13 v10 v11 r14 v12 v13 r15 v14 w15 r16 v16 v17 h3 h4 r17 r18 r19 r20 v18 r21 r22 r23 v19 h2 g1 f21)) hD hS hA [0, 2] rfl
      refine va_calli (va_runV (As := [.int 7]) (rest := []) ⟨hx, hb, hml, hown, hts⟩ (k_X12_isThere l dC dI h0 h2 v0 r0 v1 v2 v3 v4 r1 r2 r3 r4 r5 r6 r7 v5 v6 r8 r9 r10 r11 v7 h1 r12 v8 v9 r13 v10 v11 r14 v12 v13 r15 v14 w15 r16 v16 v17 h3 h4 r17 r18 r19 r20 v18 r21 r22 r23 v19 g1 f21 7 ⟨i_v1a, i_v1b⟩ ⟨i_v5a, i_v5b⟩ ⟨i_v6a, i_v6b⟩ ⟨i_v7a, i_v7b⟩ ⟨i_v8a, i_v8b⟩ ⟨i_v9a, i_v9b⟩ ⟨i_v10a, i_v10b⟩ ⟨i_v14a, i_v14b⟩ ⟨i_v18a, i_v18b⟩ ⟨i_v19a, i_v19b⟩ ia_f21.1 H.size) (cwV 1 hts g_X12_tryShelf_1_0 rfl rfl rfl (by decide +kernel) ⟨Nat.le_of_ble_eq_true rfl, Nat.le_of_ble_eq_true rfl⟩) (pv_PV12 hPc hKc hDc (q0 := 0) rfl) rfl rfl hl.1 rfl (lv_room (Nat.le_of_ble_eq_true rfl)) dX12_tryShelf_36 ⟨Nat.le_of_ble_eq_true rfl, Nat.le_of_ble_eq_true rfl⟩) hS (fun q _ h => hFc q h) hFc (fun ra96 u t H1 locs ht hvm hwra96 hB hz1 hk1 hS => ?_)
      try rw [hwra96] at hB
      have hkra96_0 : ((7 : Int32)).toInt = 7 := by decide
      obtain ⟨pt0_ra96, pt1_ra96, pt2_ra96, pt3_ra96, pt4_ra96, pt5_ra96, hP1, hK1, hD1⟩ := hB
      rw [ht] at hP1
      obtain ⟨hP2, hD2⟩ := va_join (wr := (wd_20b67a68 h1 g0 f20 h3 g2 f22 h4 g3 f23)) (w1 := (wd_5013416a h0 v0 r0 v1 v2 v3 v4 r1 r2 r3 r4 r5 r6 r7 v5 v6 r8 r9 r10 r11 v7 h1 r12 v8 v9 h2 r13 v10 v11 r14 v12 v13 r15 v14 w15 r16 v16 v17 h3 h4 r17 r18 r19 r20 v18 r21 r22 r23 v19 h2 g1 f21)) hP hD [0, 2] [1, 3, 4] rfl rfl (by decide) (by decide) hk1 hFc hP1 hD1
      clear hP hD hPc hDc hKc hFc hP1 hK1 hD1 hk1 hz1
      generalize H1 = H at hP2 hS ⊢
      have hP := hP2.sub (ws' := (wd_90cd99f9 h0 v0 r0 v1 v2 v3 v4 r1 r2 r3 r4 r5 r6 r7 v5 v6 r8 r9 r10 r11 v7 h1 r12 v8 v9 h2 r13 v10 v11 r14 v12 v13 r15 v14 w15 r16 v16 v17 h3 h4 r17 r18 r19 r20 v18 r21 r22 r23 v19 h1 g0 f20 h2 g1 f21 h3 g2 f22 h4 g3 f23)) [3, 0, 4, 1, 2] rfl
      have hD := hD2.sub (ws' := (wd_90cd99f9 h0 v0 r0 v1 v2 v3 v4 r1 r2 r3 r4 r5 r6 r7 v5 v6 r8 r9 r10 r11 v7 h1 r12 v8 v9 h2 r13 v10 v11 r14 v12 v13 r15 v14 w15 r16 v16 v17 h3 h4 r17 r18 r19 r20 v18 r21 r22 r23 v19 h1 g0 f20 h2 g1 f21 h3 g2 f22 h4 g3 f23)) [3, 0, 4, 1, 2] (by decide) rfl
      clear hP2 hD2
      have wra96 : ra96.toInt = 0 → ¬ f21 (pm_I 7 7) = 1 := fun h9 => pt5_ra96 h9 (by omega) (by omega)
      refine lv_if_ne (tgt := 54) hx hb dX12_tryShelf_39 (by decide) (fun c97 => ?_) (fun c97 => ?_)
      · skip
        have fc97 : ¬ (ra96.toInt = 0) := fun h9 => c97 (Int32.toInt_inj.mp h9)
        have q1pt4_ra96 := pt4_ra96 (by omega)
        refine lv_iload hx hb dX12_tryShelf_54 (lv_at hl 4 rfl) ?_
        have hJ99 : ∀ (x98 : Int32) (H : Heap) (locs : List Loc) (ls : Array Slot), 0 ≤ x98.toInt → x98.toInt ≤ 8 → va_P (dC, dI) vwCl (wd_90cd99f9 h0 v0 r0 v1 v2 v3 v4 r1 r2 r3 r4 r5 r6 r7 v5 v6 r8 r9 r10 r11 v7 h1 r12 v8 v9 h2 r13 v10 v11 r14 v12 v13 r15 v14 w15 r16 v16 v17 h3 h4 r17 r18 r19 r20 v18 r21 r22 r23 v19 h1 g0 f20 h2 g1 f21 h3 g2 f22 h4 g3 f23) H → va_D A (wd_90cd99f9 h0 v0 r0 v1 v2 v3 v4 r1 r2 r3 r4 r5 r6 r7 v5 v6 r8 r9 r10 r11 v7 h1 r12 v8 v9 h2 r13 v10 v11 r14 v12 v13 r15 v14 w15 r16 v16 v17 h3 h4 r17 r18 r19 r20 v18 r21 r22 r23 v19 h1 g0 f20 h2 g1 f21 h3 g2 f22 h4 g3 f23) → va_S A s.heap H locs → lv_has ls 7 [(0, .ref h0), (1, .int 7), (2, .int v24), (3, .int v25), (4, .int v26)] → W p l e ({ frames := 4, cells := 0, slots := 0, locals := 88 }) s m ([.ref h0, .int 7, .int v24, .int v25, .int v26] : List Value).toArray below meth c H locs 0 0 Q (F0 m 70 ls [.int x98]) := by
          intro x98 H locs ls qa_x98 qb_x98 hP hD hS hl
          refine lv_istore (lv' := [(5, .int x98), (0, .ref h0), (1, .int 7), (2, .int v24), (3, .int v25), (4, .int v26)]) hx hb dX12_tryShelf_70 hl (by decide) rfl (fun ls hl => ?_)
          refine lv_iconst (v := 0) hx hb dX12_tryShelf_72 (by decide) ?_
          refine lv_istore (lv' := [(6, .int 0), (5, .int x98), (0, .ref h0), (1, .int 7), (2, .int v24), (3, .int v25), (4, .int v26)]) hx hb dX12_tryShelf_73 hl (by decide) rfl (fun ls hl => ?_)
          have hL125 : ∀ (n9 : Nat), ∀ (x115 : Int32) (x116 : Int32) (x117 : Int32) (fn118 : Nat → Int32) (fn119 : Nat → Int32) (H : Heap) (locs : List Loc) (ls : Array Slot), 0 ≤ x115.toInt → x115.toInt ≤ 8 → (8 - x115.toInt).toNat < n9 → va_P (dC, dI) vwCl (wd_90cd99f9 h0 v0 r0 v1 v2 v3 v4 r1 r2 r3 r4 r5 r6 r7 v5 v6 r8 r9 r10 r11 v7 h1 r12 v8 v9 h2 r13 v10 v11 r14 v12 v13 r15 v14 w15 r16 x116 x117 h3 h4 r17 r18 r19 r20 v18 r21 r22 r23 v19 h1 g0 f20 h2 g1 f21 h3 g2 fn118 h4 g3 fn119) H → va_D A (wd_90cd99f9 h0 v0 r0 v1 v2 v3 v4 r1 r2 r3 r4 r5 r6 r7 v5 v6 r8 r9 r10 r11 v7 h1 r12 v8 v9 h2 r13 v10 v11 r14 v12 v13 r15 v14 w15 r16 x116 x117 h3 h4 r17 r18 r19 r20 v18 r21 r22 r23 v19 h1 g0 f20 h2 g1 f21 h3 g2 fn118 h4 g3 fn119) → va_S A s.heap H locs → lv_has ls 7 [(6, .int x115), (5, .int x98), (0, .ref h0), (1, .int 7), (2, .int v24), (3, .int v25), (4, .int v26)] → W p l e ({ frames := 4, cells := 0, slots := 0, locals := 88 }) s m ([.ref h0, .int 7, .int v24, .int v25, .int v26] : List Value).toArray below meth c H locs 0 0 Q (F0 m 75 ls []) := by
            intro n9
            induction n9 with
            | zero => intro x115 x116 x117 fn118 fn119 H locs ls qa_x115 qb_x115 hm9 hP hD hS hl; exact absurd hm9 (Nat.not_lt_zero _)
            | succ n9 ih_hL125 =>
              intro x115 x116 x117 fn118 fn119 H locs ls qa_x115 qb_x115 hm9 hP hD hS hl
              refine lv_iload hx hb dX12_tryShelf_75 (lv_at hl 0 rfl) ?_
              refine lv_iload hx hb dX12_tryShelf_77 (lv_at hl 1 rfl) ?_
              refine lv_icmp_ge (tgt := 208) hx hb dX12_tryShelf_79 (by decide) (fun c126 => ?_) (fun c126 => ?_)
              · skip
                have fc126 : x98.toInt ≤ x115.toInt := Int32.le_iff_toInt_le.mp c126
                have r1c126 := Int32.toInt_lt x115
                have r2c126 := Int32.toInt_lt x98
                have r3c126 := Int32.le_toInt x115
                have r4c126 := Int32.le_toInt x98
                subst hQ
                have hP9 := hP.sub (ws' := (wd_90cd99f9 h0 v0 r0 v1 v2 v3 v4 r1 r2 r3 r4 r5 r6 r7 v5 v6 r8 r9 r10 r11 v7 h1 r12 v8 v9 h2 r13 v10 v11 r14 v12 v13 r15 v14 w15 r16 x116 x117 h3 h4 r17 r18 r19 r20 v18 r21 r22 r23 v19 h1 g0 f20 h2 g1 f21 h3 g2 fn118 h4 g3 fn119)) [0, 1, 2, 3, 4] rfl
                have hD9 := hD.sub (ws' := (wd_90cd99f9 h0 v0 r0 v1 v2 v3 v4 r1 r2 r3 r4 r5 r6 r7 v5 v6 r8 r9 r10 r11 v7 h1 r12 v8 v9 h2 r13 v10 v11 r14 v12 v13 r15 v14 w15 r16 x116 x117 h3 h4 r17 r18 r19 r20 v18 r21 r22 r23 v19 h1 g0 f20 h2 g1 f21 h3 g2 fn118 h4 g3 fn119)) [0, 1, 2, 3, 4] (by decide) rfl
                have hK9 := hK.sub (tys' := []) [] rfl
                exact W.vret hx hb hr (fun t ht hW => ⟨⟨(), rfl, trivial, ⟨x116, x117, fn118, fn119, by rw [ht]; exact hP9, va_K.moved hW.alike hK9, hD9⟩⟩, hS.F ht⟩) hS.2.2 dX12_tryShelf_208
              · skip
                have fc126 : ¬ (x98.toInt ≤ x115.toInt) := fun h9 => c126 (Int32.le_iff_toInt_le.mpr h9)
                have r1c126 := Int32.toInt_lt x115
                have r2c126 := Int32.toInt_lt x98
                have r3c126 := Int32.le_toInt x115
                have r4c126 := Int32.le_toInt x98
                refine lv_iload hx hb dX12_tryShelf_82 (lv_at hl 6 rfl) ?_
                have hJ131 : ∀ (x127 : Int32) (x128 : Int32) (fn129 : Nat → Int32) (fn130 : Nat → Int32) (H : Heap) (locs : List Loc) (ls : Array Slot), va_P (dC, dI) vwCl (wd_90cd99f9 h0 v0 r0 v1 v2 v3 v4 r1 r2 r3 r4 r5 r6 r7 v5 v6 r8 r9 r10 r11 v7 h1 r12 v8 v9 h2 r13 v10 v11 r14 v12 v13 r15 v14 w15 r16 x127 x128 h3 h4 r17 r18 r19 r20 v18 r21 r22 r23 v19 h1 g0 f20 h2 g1 f21 h3 g2 fn129 h4 g3 fn130) H → va_D A (wd_90cd99f9 h0 v0 r0 v1 v2 v3 v4 r1 r2 r3 r4 r5 r6 r7 v5 v6 r8 r9 r10 r11 v7 h1 r12 v8 v9 h2 r13 v10 v11 r14 v12 v13 r15 v14 w15 r16 x127 x128 h3 h4 r17 r18 r19 r20 v18 r21 r22 r23 v19 h1 g0 f20 h2 g1 f21 h3 g2 fn129 h4 g3 fn130) → va_S A s.heap H locs → lv_has ls 7 [(6, .int x115), (5, .int x98), (0, .ref h0), (1, .int 7), (2, .int v24), (3, .int v25), (4, .int v26)] → W p l e ({ frames := 4, cells := 0, slots := 0, locals := 88 }) s m ([.ref h0, .int 7, .int v24, .int v25, .int v26] : List Value).toArray below meth c H locs 0 0 Q (F0 m 202 ls []) := by
                  intro x127 x128 fn129 fn130 H locs ls hP hD hS hl
                  obtain ⟨t132, et132⟩ : ∃ y : Int32, y = x115 + 1 := ⟨_, rfl⟩
                  have gt132 : t132.toInt = x115.toInt + (1) := pv_add (a := x115.toInt) (b := (1)) et132 rfl (by decide) (by omega) (by omega)
                  refine lv_iinc (v := t132) (lv' := [(6, .int t132), (5, .int x98), (0, .ref h0), (1, .int 7), (2, .int v24), (3, .int v25), (4, .int v26)]) hx hb dX12_tryShelf_202 hl (k := 0) rfl (by rw [et132]; rfl) (by decide) rfl (fun ls hl => ?_)
                  refine lv_goto (tgt := 75) hx hb dX12_tryShelf_205 (by decide) ?_
                  exact ih_hL125 t132 x127 x128 fn129 fn130 H locs ls (by first | omega | decide) (by first | omega | decide) (by first | omega | (simp only [Int.toNat] at *; omega)) hP hD hS (lv_sub hl [0, 1, 2, 3, 4, 5, 6] rfl)
                refine lv_if_eq (tgt := 113) hx hb dX12_tryShelf_84 (by decide) (fun c133 => ?_) (fun c133 => ?_)
                · skip
                  have fc133 : v26.toInt = 0 := congrArg Int32.toInt c133
                  refine lv_aload_n hx hb dX12_tryShelf_113 rfl (lv_at hl 2 rfl) ?_
                  refine lv_iload_n hx hb dX12_tryShelf_114 rfl (lv_at hl 3 rfl) ?_
                  refine lv_iload hx hb dX12_tryShelf_115 (lv_at hl 0 rfl) ?_
                  have hPc := hP.sub (ws' := (wd_f4deda84 h0 v0 r0 v1 v2 v3 v4 r1 r2 r3 r4 r5 r6 r7 v5 v6 r8 r9 r10 r11 v7 h1 r12 v8 v9 h2 r13 v10 v11 r14 v12 v13 r15 v14 w15 r16 x116 x117 h3 h4 r17 r18 r19 r20 v18 r21 r22 r23 v19 h2 g1 f21 h3 g2 fn118)) [0, 2, 3] rfl
                  have hDc := hD.sub (ws' := (wd_f4deda84 h0 v0 r0 v1 v2 v3 v4 r1 r2 r3 r4 r5 r6 r7 v5 v6 r8 r9 r10 r11 v7 h1 r12 v8 v9 h2 r13 v10 v11 r14 v12 v13 r15 v14 w15 r16 x116 x117 h3 h4 r17 r18 r19 r20 v18 r21 r22 r23 v19 h2 g1 f21 h3 g2 fn118)) [0, 2, 3] (by decide) rfl
                  have hKc := hK.sub (tys' := [(g1, .int), (g2, .int)]) [1, 2] rfl
                  have hFc := va_free (wc := (wd_f4deda84 h0 v0 r0 v1 v2 v3 v4 r1 r2 r3 r4 r5 r6 r7 v5 v6 r8 r9 r10 r11 v7 h1 r12 v8 v9 h2 r13 v10 v11 r14 v12 v13 r15 v14 w15 r16 x116 x117 h3 h4 r17 r18 r19 r20 v18 r21 r22 r23 v19 h2 g1 f21 h3 g2 fn118)) hD hS hA [0, 2, 3] rfl
                  refine va_calli (va_runV (As := [.int 7, .int x115]) (rest := []) ⟨hx, hb, hml, hown, hts⟩ (k_X12_isCalm l dC dI h0 h2 h3 v0 r0 v1 v2 v3 v4 r1 r2 r3 r4 r5 r6 r7 v5 v6 r8 r9 r10 r11 v7 h1 r12 v8 v9 r13 v10 v11 r14 v12 v13 r15 v14 w15 r16 x116 x117 h4 r17 r18 r19 r20 v18 r21 r22 r23 v19 g1 f21 g2 fn118 7 x115 ⟨i_v1a, i_v1b⟩ ⟨i_v5a, i_v5b⟩ ⟨i_v6a, i_v6b⟩ ⟨i_v7a, i_v7b⟩ ⟨i_v8a, i_v8b⟩ ⟨i_v9a, i_v9b⟩ ⟨i_v10a, i_v10b⟩ ⟨i_v14a, i_v14b⟩ ⟨i_v18a, i_v18b⟩ ⟨i_v19a, i_v19b⟩ ⟨by decide, by decide⟩ ia_f21 H.size) (cwV 2 hts g_X12_tryShelf_1_1 rfl rfl rfl (by decide +kernel) ⟨Nat.le_of_ble_eq_true rfl, Nat.le_of_ble_eq_true rfl⟩) (pv_PV12 hPc hKc hDc (q0 := 0) rfl) rfl rfl hl.1 rfl (lv_room (Nat.le_of_ble_eq_true rfl)) dX12_tryShelf_117 ⟨Nat.le_of_ble_eq_true rfl, Nat.le_of_ble_eq_true rfl⟩) hS (fun q _ h => hFc q h) hFc (fun ra134 u t H1 locs ht hvm hwra134 hB hz1 hk1 hS => ?_)
                  try rw [hwra134] at hB
                  have hkra134_0 : ((7 : Int32)).toInt = 7 := by decide
                  obtain ⟨pt0_ra134, pt1_ra134, hP1, hK1, hD1⟩ := hB
                  rw [ht] at hP1
                  obtain ⟨hP2, hD2⟩ := va_join (wr := (wd_5481fbec h1 g0 f20 h4 g3 fn119)) (w1 := (wd_f4deda84 h0 v0 r0 v1 v2 v3 v4 r1 r2 r3 r4 r5 r6 r7 v5 v6 r8 r9 r10 r11 v7 h1 r12 v8 v9 h2 r13 v10 v11 r14 v12 v13 r15 v14 w15 r16 x116 x117 h3 h4 r17 r18 r19 r20 v18 r21 r22 r23 v19 h2 g1 f21 h3 g2 fn118)) hP hD [0, 2, 3] [1, 4] rfl rfl (by decide) (by decide) hk1 hFc hP1 hD1
                  clear hP hD hPc hDc hKc hFc hP1 hK1 hD1 hk1 hz1
                  generalize H1 = H at hP2 hS ⊢
                  have hP := hP2.sub (ws' := (wd_90cd99f9 h0 v0 r0 v1 v2 v3 v4 r1 r2 r3 r4 r5 r6 r7 v5 v6 r8 r9 r10 r11 v7 h1 r12 v8 v9 h2 r13 v10 v11 r14 v12 v13 r15 v14 w15 r16 x116 x117 h3 h4 r17 r18 r19 r20 v18 r21 r22 r23 v19 h1 g0 f20 h2 g1 f21 h3 g2 fn118 h4 g3 fn119)) [2, 0, 3, 4, 1] rfl
                  have hD := hD2.sub (ws' := (wd_90cd99f9 h0 v0 r0 v1 v2 v3 v4 r1 r2 r3 r4 r5 r6 r7 v5 v6 r8 r9 r10 r11 v7 h1 r12 v8 v9 h2 r13 v10 v11 r14 v12 v13 r15 v14 w15 r16 x116 x117 h3 h4 r17 r18 r19 r20 v18 r21 r22 r23 v19 h1 g0 f20 h2 g1 f21 h3 g2 fn118 h4 g3 fn119)) [2, 0, 3, 4, 1] (by decide) rfl
                  clear hP2 hD2
                  refine lv_if_eq (tgt := 202) hx hb dX12_tryShelf_120 (by decide) (fun c135 => ?_) (fun c135 => ?_)
                  · skip
                    have fc135 : ra134.toInt = 0 := congrArg Int32.toInt c135
                    exact hJ131 x116 x117 fn118 fn119 H locs ls hP hD hS (lv_sub hl [0, 1, 2, 3, 4, 5, 6] rfl)
                  · skip
                    have fc135 : ¬ (ra134.toInt = 0) := fun h9 => c135 (Int32.toInt_inj.mp h9)
                    refine lv_aload_n hx hb dX12_tryShelf_123 rfl (lv_at hl 2 rfl) ?_
                    refine va_get (D := (dC, dI)) (ci := 12) (v := .ref h4) (C := RX12) (T := TX12) (N := 48) hx hb hts (fun _ h => List.mem_cons_of_mem _ (List.mem_append_right _ h)) hown hK hP 0 rfl rfl 38 (by decide) (hts (.fieldLink RX12 77 "LeftArgumentsModel" "room" "[I") (List.mem_cons_of_mem _ (List.mem_append_left _ (List.mem_of_getElem? (i := 31) rfl)))) (fun _ h9 => h9) rfl dX12_tryShelf_124 ?_
                    refine lv_iload hx hb dX12_tryShelf_127 (lv_at hl 0 rfl) ?_
                    refine lv_dup2_11 hx hb dX12_tryShelf_129 rfl rfl ?_
                    refine va_iald hx hb hK hP 4 3 rfl rfl (vp_in_iff.mpr ⟨by omega, by omega⟩) dX12_tryShelf_130 ?_
                    refine lv_topi (fun t136 et136 => ?_)
                    refine lv_aload_n hx hb dX12_tryShelf_131 rfl (lv_at hl 2 rfl) ?_
                    refine lv_iload_n hx hb dX12_tryShelf_132 rfl (lv_at hl 3 rfl) ?_
                    refine lv_iconst (v := 0) hx hb dX12_tryShelf_133 (by decide) ?_
                    have hPc := hP.sub (ws' := (wd_5013416a h0 v0 r0 v1 v2 v3 v4 r1 r2 r3 r4 r5 r6 r7 v5 v6 r8 r9 r10 r11 v7 h1 r12 v8 v9 h2 r13 v10 v11 r14 v12 v13 r15 v14 w15 r16 x116 x117 h3 h4 r17 r18 r19 r20 v18 r21 r22 r23 v19 h2 g1 f21)) [0, 2] rfl
                    have hDc := hD.sub (ws' := (wd_5013416a h0 v0 r0 v1 v2 v3 v4 r1 r2 r3 r4 r5 r6 r7 v5 v6 r8 r9 r10 r11 v7 h1 r12 v8 v9 h2 r13 v10 v11 r14 v12 v13 r15 v14 w15 r16 x116 x117 h3 h4 r17 r18 r19 r20 v18 r21 r22 r23 v19 h2 g1 f21)) [0, 2] (by decide) rfl
                    have hKc := hK.sub (tys' := [(g1, .int)]) [1] rfl
                    have hFc := va_free (wc := (wd_5013416a h0 v0 r0 v1 v2 v3 v4 r1 r2 r3 r4 r5 r6 r7 v5 v6 r8 r9 r10 r11 v7 h1 r12 v8 v9 h2 r13 v10 v11 r14 v12 v13 r15 v14 w15 r16 x116 x117 h3 h4 r17 r18 r19 r20 v18 r21 r22 r23 v19 h2 g1 f21)) hD hS hA [0, 2] rfl
                    refine va_calli (va_runV (As := [.int 7, .int 0]) (rest := [.int t136, .int x115, .ref h4]) ⟨hx, hb, hml, hown, hts⟩ (k_X12_of_3 l dC dI h0 h2 v0 r0 v1 v2 v3 v4 r1 r2 r3 r4 r5 r6 r7 v5 v6 r8 r9 r10 r11 v7 h1 r12 v8 v9 r13 v10 v11 r14 v12 v13 r15 v14 w15 r16 x116 x117 h3 h4 r17 r18 r19 r20 v18 r21 r22 r23 v19 g1 f21 7 ⟨i_v1a, i_v1b⟩ ⟨i_v5a, i_v5b⟩ ⟨i_v6a, i_v6b⟩ ⟨i_v7a, i_v7b⟩ ⟨i_v8a, i_v8b⟩ ⟨i_v9a, i_v9b⟩ ⟨i_v10a, i_v10b⟩ ⟨i_v14a, i_v14b⟩ ⟨i_v18a, i_v18b⟩ ⟨i_v19a, i_v19b⟩ ⟨by decide, by decide⟩ ia_f21.1 H.size) (cwV 2 hts g_X12_tryShelf_1_2 rfl rfl rfl (by decide +kernel) ⟨Nat.le_of_ble_eq_true rfl, Nat.le_of_ble_eq_true rfl⟩) (pv_PV12 hPc hKc hDc (q0 := 0) rfl) rfl rfl hl.1 rfl (lv_room (Nat.le_of_ble_eq_true rfl)) dX12_tryShelf_134 ⟨Nat.le_of_ble_eq_true rfl, Nat.le_of_ble_eq_true rfl⟩) hS (fun q _ h => hFc q h) hFc (fun ra137 u t H1 locs ht hvm hwra137 hB hz1 hk1 hS => ?_)
                    try rw [hwra137] at hB
                    have hkra137_0 : ((7 : Int32)).toInt = 7 := by decide
                    obtain ⟨pt0_ra137, pt1_ra137, pt2_ra137, hP1, hK1, hD1⟩ := hB
                    rw [ht] at hP1
                    obtain ⟨hP2, hD2⟩ := va_join (wr := (wd_20b67a68 h1 g0 f20 h3 g2 fn118 h4 g3 fn119)) (w1 := (wd_5013416a h0 v0 r0 v1 v2 v3 v4 r1 r2 r3 r4 r5 r6 r7 v5 v6 r8 r9 r10 r11 v7 h1 r12 v8 v9 h2 r13 v10 v11 r14 v12 v13 r15 v14 w15 r16 x116 x117 h3 h4 r17 r18 r19 r20 v18 r21 r22 r23 v19 h2 g1 f21)) hP hD [0, 2] [1, 3, 4] rfl rfl (by decide) (by decide) hk1 hFc hP1 hD1
                    clear hP hD hPc hDc hKc hFc hP1 hK1 hD1 hk1 hz1
                    generalize H1 = H at hP2 hS ⊢
                    have hP := hP2.sub (ws' := (wd_90cd99f9 h0 v0 r0 v1 v2 v3 v4 r1 r2 r3 r4 r5 r6 r7 v5 v6 r8 r9 r10 r11 v7 h1 r12 v8 v9 h2 r13 v10 v11 r14 v12 v13 r15 v14 w15 r16 x116 x117 h3 h4 r17 r18 r19 r20 v18 r21 r22 r23 v19 h1 g0 f20 h2 g1 f21 h3 g2 fn118 h4 g3 fn119)) [3, 0, 4, 1, 2] rfl
                    have hD := hD2.sub (ws' := (wd_90cd99f9 h0 v0 r0 v1 v2 v3 v4 r1 r2 r3 r4 r5 r6 r7 v5 v6 r8 r9 r10 r11 v7 h1 r12 v8 v9 h2 r13 v10 v11 r14 v12 v13 r15 v14 w15 r16 x116 x117 h3 h4 r17 r18 r19 r20 v18 r21 r22 r23 v19 h1 g0 f20 h2 g1 f21 h3 g2 fn118 h4 g3 fn119)) [3, 0, 4, 1, 2] (by decide) rfl
                    clear hP2 hD2
                    refine lv_iadd hx hb dX12_tryShelf_137 ?_
                    refine lv_topi (fun t138 et138 => ?_)
                    refine va_iast hx hb hK hP hD hS 4 3 rfl rfl (vp_in_iff.mpr ⟨by omega, by omega⟩) dX12_tryShelf_138 (fun H locs hP hD hS => ?_)
                    obtain ⟨fn139, efn139⟩ : ∃ g : Nat → Int32, g = upd fn119 (Int32.toNatClampNeg x115) t138 := ⟨_, rfl⟩
                    rw [← efn139] at hP hD
                    have hP : va_P (dC, dI) vwCl (wd_90cd99f9 h0 v0 r0 v1 v2 v3 v4 r1 r2 r3 r4 r5 r6 r7 v5 v6 r8 r9 r10 r11 v7 h1 r12 v8 v9 h2 r13 v10 v11 r14 v12 v13 r15 v14 w15 r16 x116 x117 h3 h4 r17 r18 r19 r20 v18 r21 r22 r23 v19 h1 g0 f20 h2 g1 f21 h3 g2 fn118 h4 g3 fn139) H := hP
                    have hD : va_D A (wd_90cd99f9 h0 v0 r0 v1 v2 v3 v4 r1 r2 r3 r4 r5 r6 r7 v5 v6 r8 r9 r10 r11 v7 h1 r12 v8 v9 h2 r13 v10 v11 r14 v12 v13 r15 v14 w15 r16 x116 x117 h3 h4 r17 r18 r19 r20 v18 r21 r22 r23 v19 h1 g0 f20 h2 g1 f21 h3 g2 fn118 h4 g3 fn139) := hD
                    refine lv_aload_n hx hb dX12_tryShelf_139 rfl (lv_at hl 2 rfl) ?_
                    refine va_get (D := (dC, dI)) (ci := 12) (v := .ref h3) (C := RX12) (T := TX12) (N := 48) hx hb hts (fun _ h => List.mem_cons_of_mem _ (List.mem_append_right _ h)) hown hK hP 0 rfl rfl 37 (by decide) (hts (.fieldLink RX12 74 "LeftArgumentsModel" "onShelf" "[I") (List.mem_cons_of_mem _ (List.mem_append_left _ (List.mem_of_getElem? (i := 15) rfl)))) (fun _ h9 => h9) rfl dX12_tryShelf_140 ?_
                    refine lv_iload_n hx hb dX12_tryShelf_143 rfl (lv_at hl 3 rfl) ?_
                    refine lv_iload hx hb dX12_tryShelf_144 (lv_at hl 0 rfl) ?_
                    refine va_iast hx hb hK hP hD hS 3 2 rfl rfl (pv_c (x := 7) (n := 8) (by decide)) dX12_tryShelf_146 (fun H locs hP hD hS => ?_)
                    obtain ⟨fn140, efn140⟩ : ∃ g : Nat → Int32, g = upd fn118 (Int32.toNatClampNeg 7) x115 := ⟨_, rfl⟩
                    rw [← efn140] at hP hD
                    have hP : va_P (dC, dI) vwCl (wd_90cd99f9 h0 v0 r0 v1 v2 v3 v4 r1 r2 r3 r4 r5 r6 r7 v5 v6 r8 r9 r10 r11 v7 h1 r12 v8 v9 h2 r13 v10 v11 r14 v12 v13 r15 v14 w15 r16 x116 x117 h3 h4 r17 r18 r19 r20 v18 r21 r22 r23 v19 h1 g0 f20 h2 g1 f21 h3 g2 fn140 h4 g3 fn139) H := hP
                    have hD : va_D A (wd_90cd99f9 h0 v0 r0 v1 v2 v3 v4 r1 r2 r3 r4 r5 r6 r7 v5 v6 r8 r9 r10 r11 v7 h1 r12 v8 v9 h2 r13 v10 v11 r14 v12 v13 r15 v14 w15 r16 x116 x117 h3 h4 r17 r18 r19 r20 v18 r21 r22 r23 v19 h1 g0 f20 h2 g1 f21 h3 g2 fn140 h4 g3 fn139) := hD
                    refine lv_aload_n hx hb dX12_tryShelf_147 rfl (lv_at hl 2 rfl) ?_
                    refine lv_iload_n hx hb dX12_tryShelf_148 rfl (lv_at hl 3 rfl) ?_
                    refine lv_iconst (v := 1) hx hb dX12_tryShelf_149 (by decide) ?_
                    refine lv_iadd hx hb dX12_tryShelf_150 ?_
                    refine lv_topi (fun tv141 etv141 => ?_)
                    obtain rfl : tv141 = (8 : Int32) := etv141.trans (by first | rfl | decide)
                    refine lv_bipush (v := 10) hx hb dX12_tryShelf_151 (by decide) ?_
                    refine lv_iload_n hx hb dX12_tryShelf_153 rfl (lv_at hl 4 rfl) ?_
                    refine lv_imul hx hb dX12_tryShelf_154 ?_
                    refine lv_topi (fun t142 et142 => ?_)
                    refine lv_iload hx hb dX12_tryShelf_155 (lv_at hl 0 rfl) ?_
                    refine lv_iadd hx hb dX12_tryShelf_157 ?_
                    refine lv_topi (fun t143 et143 => ?_)
                    refine lv_iload_n hx hb dX12_tryShelf_158 rfl (lv_at hl 5 rfl) ?_
                    refine lv_aload_n hx hb dX12_tryShelf_159 rfl (lv_at hl 2 rfl) ?_
                    refine va_get (D := (dC, dI)) (ci := 12) (v := .ref h4) (C := RX12) (T := TX12) (N := 48) hx hb hts (fun _ h => List.mem_cons_of_mem _ (List.mem_append_right _ h)) hown hK hP 0 rfl rfl 38 (by decide) (hts (.fieldLink RX12 77 "LeftArgumentsModel" "room" "[I") (List.mem_cons_of_mem _ (List.mem_append_left _ (List.mem_of_getElem? (i := 31) rfl)))) (fun _ h9 => h9) rfl dX12_tryShelf_160 ?_
                    refine lv_iload hx hb dX12_tryShelf_163 (lv_at hl 0 rfl) ?_
                    refine va_iald hx hb hK hP 4 3 rfl rfl (vp_in_iff.mpr ⟨by omega, by omega⟩) dX12_tryShelf_165 ?_
                    refine lv_topi (fun t144 et144 => ?_)
                    refine lv_aload_n hx hb dX12_tryShelf_166 rfl (lv_at hl 2 rfl) ?_
                    refine lv_iload_n hx hb dX12_tryShelf_167 rfl (lv_at hl 3 rfl) ?_
                    refine lv_iconst (v := 0) hx hb dX12_tryShelf_168 (by decide) ?_
                    have hPc := hP.sub (ws' := (wd_5013416a h0 v0 r0 v1 v2 v3 v4 r1 r2 r3 r4 r5 r6 r7 v5 v6 r8 r9 r10 r11 v7 h1 r12 v8 v9 h2 r13 v10 v11 r14 v12 v13 r15 v14 w15 r16 x116 x117 h3 h4 r17 r18 r19 r20 v18 r21 r22 r23 v19 h2 g1 f21)) [0, 2] rfl
                    have hDc := hD.sub (ws' := (wd_5013416a h0 v0 r0 v1 v2 v3 v4 r1 r2 r3 r4 r5 r6 r7 v5 v6 r8 r9 r10 r11 v7 h1 r12 v8 v9 h2 r13 v10 v11 r14 v12 v13 r15 v14 w15 r16 x116 x117 h3 h4 r17 r18 r19 r20 v18 r21 r22 r23 v19 h2 g1 f21)) [0, 2] (by decide) rfl
                    have hKc := hK.sub (tys' := [(g1, .int)]) [1] rfl
                    have hFc := va_free (wc := (wd_5013416a h0 v0 r0 v1 v2 v3 v4 r1 r2 r3 r4 r5 r6 r7 v5 v6 r8 r9 r10 r11 v7 h1 r12 v8 v9 h2 r13 v10 v11 r14 v12 v13 r15 v14 w15 r16 x116 x117 h3 h4 r17 r18 r19 r20 v18 r21 r22 r23 v19 h2 g1 f21)) hD hS hA [0, 2] rfl
                    refine va_calli (va_runV (As := [.int 7, .int 0]) (rest := [.int t144, .int v25, .int t143, .int 8, .ref h0]) ⟨hx, hb, hml, hown, hts⟩ (k_X12_of_3 l dC dI h0 h2 v0 r0 v1 v2 v3 v4 r1 r2 r3 r4 r5 r6 r7 v5 v6 r8 r9 r10 r11 v7 h1 r12 v8 v9 r13 v10 v11 r14 v12 v13 r15 v14 w15 r16 x116 x117 h3 h4 r17 r18 r19 r20 v18 r21 r22 r23 v19 g1 f21 7 ⟨i_v1a, i_v1b⟩ ⟨i_v5a, i_v5b⟩ ⟨i_v6a, i_v6b⟩ ⟨i_v7a, i_v7b⟩ ⟨i_v8a, i_v8b⟩ ⟨i_v9a, i_v9b⟩ ⟨i_v10a, i_v10b⟩ ⟨i_v14a, i_v14b⟩ ⟨i_v18a, i_v18b⟩ ⟨i_v19a, i_v19b⟩ ⟨by decide, by decide⟩ ia_f21.1 H.size) (cwV 2 hts g_X12_tryShelf_1_2 rfl rfl rfl (by decide +kernel) ⟨Nat.le_of_ble_eq_true rfl, Nat.le_of_ble_eq_true rfl⟩) (pv_PV12 hPc hKc hDc (q0 := 0) rfl) rfl rfl hl.1 rfl (lv_room (Nat.le_of_ble_eq_true rfl)) dX12_tryShelf_169 ⟨Nat.le_of_ble_eq_true rfl, Nat.le_of_ble_eq_true rfl⟩) hS (fun q _ h => hFc q h) hFc (fun ra145 u t H1 locs ht hvm hwra145 hB hz1 hk1 hS => ?_)
                    try rw [hwra145] at hB
                    have hkra145_0 : ((7 : Int32)).toInt = 7 := by decide
                    obtain ⟨pt0_ra145, pt1_ra145, pt2_ra145, hP1, hK1, hD1⟩ := hB
                    rw [ht] at hP1
                    obtain ⟨hP2, hD2⟩ := va_join (wr := (wd_20b67a68 h1 g0 f20 h3 g2 fn140 h4 g3 fn139)) (w1 := (wd_5013416a h0 v0 r0 v1 v2 v3 v4 r1 r2 r3 r4 r5 r6 r7 v5 v6 r8 r9 r10 r11 v7 h1 r12 v8 v9 h2 r13 v10 v11 r14 v12 v13 r15 v14 w15 r16 x116 x117 h3 h4 r17 r18 r19 r20 v18 r21 r22 r23 v19 h2 g1 f21)) hP hD [0, 2] [1, 3, 4] rfl rfl (by decide) (by decide) hk1 hFc hP1 hD1
                    clear hP hD hPc hDc hKc hFc hP1 hK1 hD1 hk1 hz1
                    generalize H1 = H at hP2 hS ⊢
                    have hP := hP2.sub (ws' := (wd_90cd99f9 h0 v0 r0 v1 v2 v3 v4 r1 r2 r3 r4 r5 r6 r7 v5 v6 r8 r9 r10 r11 v7 h1 r12 v8 v9 h2 r13 v10 v11 r14 v12 v13 r15 v14 w15 r16 x116 x117 h3 h4 r17 r18 r19 r20 v18 r21 r22 r23 v19 h1 g0 f20 h2 g1 f21 h3 g2 fn140 h4 g3 fn139)) [3, 0, 4, 1, 2] rfl
                    have hD := hD2.sub (ws' := (wd_90cd99f9 h0 v0 r0 v1 v2 v3 v4 r1 r2 r3 r4 r5 r6 r7 v5 v6 r8 r9 r10 r11 v7 h1 r12 v8 v9 h2 r13 v10 v11 r14 v12 v13 r15 v14 w15 r16 x116 x117 h3 h4 r17 r18 r19 r20 v18 r21 r22 r23 v19 h1 g0 f20 h2 g1 f21 h3 g2 fn140 h4 g3 fn139)) [3, 0, 4, 1, 2] (by decide) rfl
                    clear hP2 hD2
                    have hJ147 : ∀ (x146 : Int32) (H : Heap) (locs : List Loc) (ls : Array Slot), 0 ≤ x146.toInt → x146.toInt ≤ 1 → va_P (dC, dI) vwCl (wd_90cd99f9 h0 v0 r0 v1 v2 v3 v4 r1 r2 r3 r4 r5 r6 r7 v5 v6 r8 r9 r10 r11 v7 h1 r12 v8 v9 h2 r13 v10 v11 r14 v12 v13 r15 v14 w15 r16 x116 x117 h3 h4 r17 r18 r19 r20 v18 r21 r22 r23 v19 h1 g0 f20 h2 g1 f21 h3 g2 fn140 h4 g3 fn139) H → va_D A (wd_90cd99f9 h0 v0 r0 v1 v2 v3 v4 r1 r2 r3 r4 r5 r6 r7 v5 v6 r8 r9 r10 r11 v7 h1 r12 v8 v9 h2 r13 v10 v11 r14 v12 v13 r15 v14 w15 r16 x116 x117 h3 h4 r17 r18 r19 r20 v18 r21 r22 r23 v19 h1 g0 f20 h2 g1 f21 h3 g2 fn140 h4 g3 fn139) → va_S A s.heap H locs → lv_has ls 7 [(6, .int x115), (5, .int x98), (0, .ref h0), (1, .int 7), (2, .int v24), (3, .int v25), (4, .int v26)] → W p l e ({ frames := 4, cells := 0, slots := 0, locals := 88 }) s m ([.ref h0, .int 7, .int v24, .int v25, .int v26] : List Value).toArray below meth c H locs 0 0 Q (F0 m 180 ls [.int x146, .int v25, .int t143, .int 8, .ref h0]) := by
                      intro x146 H locs ls qa_x146 qb_x146 hP hD hS hl
                      refine lv_iadd hx hb dX12_tryShelf_180 ?_
                      refine lv_topi (fun t148 et148 => ?_)
                      have r5t148v25 := Int32.le_toInt v25; have r6t148v25 := Int32.toInt_lt v25
                      have gt148 : t148.toInt = v25.toInt + x146.toInt := pv_add (a := v25.toInt) (b := x146.toInt) et148 rfl rfl (by omega) (by omega)
                      refine lv_iload hx hb dX12_tryShelf_181 (lv_at hl 6 rfl) ?_
                      have hPc := hP.sub (ws' := (wd_171f232f h0 v0 r0 v1 v2 v3 v4 r1 r2 r3 r4 r5 r6 r7 v5 v6 r8 r9 r10 r11 v7 h1 r12 v8 v9 h2 r13 v10 v11 r14 v12 v13 r15 v14 w15 r16 x116 x117 h3 h4 r17 r18 r19 r20 v18 r21 r22 r23 v19)) [0] rfl
                      have hDc := hD.sub (ws' := (wd_171f232f h0 v0 r0 v1 v2 v3 v4 r1 r2 r3 r4 r5 r6 r7 v5 v6 r8 r9 r10 r11 v7 h1 r12 v8 v9 h2 r13 v10 v11 r14 v12 v13 r15 v14 w15 r16 x116 x117 h3 h4 r17 r18 r19 r20 v18 r21 r22 r23 v19)) [0] (by decide) rfl
                      have hKc := hK.sub (tys' := []) [] rfl
                      have hFc := va_free (wc := (wd_171f232f h0 v0 r0 v1 v2 v3 v4 r1 r2 r3 r4 r5 r6 r7 v5 v6 r8 r9 r10 r11 v7 h1 r12 v8 v9 h2 r13 v10 v11 r14 v12 v13 r15 v14 w15 r16 x116 x117 h3 h4 r17 r18 r19 r20 v18 r21 r22 r23 v19)) hD hS hA [0] rfl
                      refine va_callv (va_runV (As := [.int 8, .int t143, .int t148, .int v26]) (rest := []) ⟨hx, hb, hml, hown, hts⟩ (k_X12_tryShelf l dC dI h0 v0 r0 v1 v2 v3 v4 r1 r2 r3 r4 r5 r6 r7 v5 v6 r8 r9 r10 r11 v7 h1 r12 v8 v9 h2 r13 v10 v11 r14 v12 v13 r15 v14 w15 r16 x116 x117 h3 h4 r17 r18 r19 r20 v18 r21 r22 r23 v19 t143 t148 v26 ⟨i_v1a, i_v1b⟩ ⟨i_v5a, i_v5b⟩ ⟨i_v6a, i_v6b⟩ ⟨i_v7a, i_v7b⟩ ⟨i_v8a, i_v8b⟩ ⟨i_v9a, i_v9b⟩ ⟨i_v10a, i_v10b⟩ ⟨i_v14a, i_v14b⟩ ⟨i_v18a, i_v18b⟩ ⟨i_v19a, i_v19b⟩ ⟨i_v26a, i_v26b⟩ H.size) (cwV 4 hts g_X12_tryShelf_1_4 rfl rfl rfl (by decide +kernel) ⟨Nat.le_of_ble_eq_true rfl, Nat.le_of_ble_eq_true rfl⟩) (pv_PV12 hPc hKc hDc (q0 := 0) rfl) rfl rfl hl.1 rfl (lv_room (Nat.le_of_ble_eq_true rfl)) dX12_tryShelf_183 ⟨Nat.le_of_ble_eq_true rfl, Nat.le_of_ble_eq_true rfl⟩) hS (fun q _ h => hFc q h) hFc (fun u t H1 locs ht hvm hwra149 hB hz1 hk1 hS => ?_)
                      obtain ⟨x150, x151, hP1, hK1, hD1⟩ := hB
                      rw [ht] at hP1
                      obtain ⟨hP2, hD2⟩ := va_join (wr := (wd_fd33bfec h1 g0 f20 h2 g1 f21 h3 g2 fn140 h4 g3 fn139)) (w1 := (wd_171f232f h0 v0 r0 v1 v2 v3 v4 r1 r2 r3 r4 r5 r6 r7 v5 v6 r8 r9 r10 r11 v7 h1 r12 v8 v9 h2 r13 v10 v11 r14 v12 v13 r15 v14 w15 r16 x150 x151 h3 h4 r17 r18 r19 r20 v18 r21 r22 r23 v19)) hP hD [0] [1, 2, 3, 4] rfl rfl (by decide) (by decide) hk1 hFc hP1 hD1
                      clear hP hD hPc hDc hKc hFc hP1 hK1 hD1 hk1 hz1
                      generalize H1 = H at hP2 hS ⊢
                      have hP := hP2.sub (ws' := (wd_90cd99f9 h0 v0 r0 v1 v2 v3 v4 r1 r2 r3 r4 r5 r6 r7 v5 v6 r8 r9 r10 r11 v7 h1 r12 v8 v9 h2 r13 v10 v11 r14 v12 v13 r15 v14 w15 r16 x150 x151 h3 h4 r17 r18 r19 r20 v18 r21 r22 r23 v19 h1 g0 f20 h2 g1 f21 h3 g2 fn140 h4 g3 fn139)) [4, 0, 1, 2, 3] rfl
                      have hD := hD2.sub (ws' := (wd_90cd99f9 h0 v0 r0 v1 v2 v3 v4 r1 r2 r3 r4 r5 r6 r7 v5 v6 r8 r9 r10 r11 v7 h1 r12 v8 v9 h2 r13 v10 v11 r14 v12 v13 r15 v14 w15 r16 x150 x151 h3 h4 r17 r18 r19 r20 v18 r21 r22 r23 v19 h1 g0 f20 h2 g1 f21 h3 g2 fn140 h4 g3 fn139)) [4, 0, 1, 2, 3] (by decide) rfl
                      clear hP2 hD2
                      refine lv_aload_n hx hb dX12_tryShelf_186 rfl (lv_at hl 2 rfl) ?_
                      refine va_get (D := (dC, dI)) (ci := 12) (v := .ref h4) (C := RX12) (T := TX12) (N := 48) hx hb hts (fun _ h => List.mem_cons_of_mem _ (List.mem_append_right _ h)) hown hK hP 0 rfl rfl 38 (by decide) (hts (.fieldLink RX12 77 "LeftArgumentsModel" "room" "[I") (List.mem_cons_of_mem _ (List.mem_append_left _ (List.mem_of_getElem? (i := 31) rfl)))) (fun _ h9 => h9) rfl dX12_tryShelf_187 ?_
                      refine lv_iload hx hb dX12_tryShelf_190 (lv_at hl 0 rfl) ?_
                      refine lv_dup2_11 hx hb dX12_tryShelf_192 rfl rfl ?_
                      refine va_iald hx hb hK hP 4 3 rfl rfl (vp_in_iff.mpr ⟨by omega, by omega⟩) dX12_tryShelf_193 ?_
                      refine lv_topi (fun t152 et152 => ?_)
                      have gmt152 : t152.toInt = t144.toInt := by rw [et152, et144]
                      refine lv_aload_n hx hb dX12_tryShelf_194 rfl (lv_at hl 2 rfl) ?_
                      refine lv_iload_n hx hb dX12_tryShelf_195 rfl (lv_at hl 3 rfl) ?_
                      refine lv_iconst (v := 0) hx hb dX12_tryShelf_196 (by decide) ?_
                      have hPc := hP.sub (ws' := (wd_5013416a h0 v0 r0 v1 v2 v3 v4 r1 r2 r3 r4 r5 r6 r7 v5 v6 r8 r9 r10 r11 v7 h1 r12 v8 v9 h2 r13 v10 v11 r14 v12 v13 r15 v14 w15 r16 x150 x151 h3 h4 r17 r18 r19 r20 v18 r21 r22 r23 v19 h2 g1 f21)) [0, 2] rfl
                      have hDc := hD.sub (ws' := (wd_5013416a h0 v0 r0 v1 v2 v3 v4 r1 r2 r3 r4 r5 r6 r7 v5 v6 r8 r9 r10 r11 v7 h1 r12 v8 v9 h2 r13 v10 v11 r14 v12 v13 r15 v14 w15 r16 x150 x151 h3 h4 r17 r18 r19 r20 v18 r21 r22 r23 v19 h2 g1 f21)) [0, 2] (by decide) rfl
                      have hKc := hK.sub (tys' := [(g1, .int)]) [1] rfl
                      have hFc := va_free (wc := (wd_5013416a h0 v0 r0 v1 v2 v3 v4 r1 r2 r3 r4 r5 r6 r7 v5 v6 r8 r9 r10 r11 v7 h1 r12 v8 v9 h2 r13 v10 v11 r14 v12 v13 r15 v14 w15 r16 x150 x151 h3 h4 r17 r18 r19 r20 v18 r21 r22 r23 v19 h2 g1 f21)) hD hS hA [0, 2] rfl
                      refine va_calli (va_runV (As := [.int 7, .int 0]) (rest := [.int t152, .int x115, .ref h4]) ⟨hx, hb, hml, hown, hts⟩ (k_X12_of_3 l dC dI h0 h2 v0 r0 v1 v2 v3 v4 r1 r2 r3 r4 r5 r6 r7 v5 v6 r8 r9 r10 r11 v7 h1 r12 v8 v9 r13 v10 v11 r14 v12 v13 r15 v14 w15 r16 x150 x151 h3 h4 r17 r18 r19 r20 v18 r21 r22 r23 v19 g1 f21 7 ⟨i_v1a, i_v1b⟩ ⟨i_v5a, i_v5b⟩ ⟨i_v6a, i_v6b⟩ ⟨i_v7a, i_v7b⟩ ⟨i_v8a, i_v8b⟩ ⟨i_v9a, i_v9b⟩ ⟨i_v10a, i_v10b⟩ ⟨i_v14a, i_v14b⟩ ⟨i_v18a, i_v18b⟩ ⟨i_v19a, i_v19b⟩ ⟨by decide, by decide⟩ ia_f21.1 H.size) (cwV 2 hts g_X12_tryShelf_1_2 rfl rfl rfl (by decide +kernel) ⟨Nat.le_of_ble_eq_true rfl, Nat.le_of_ble_eq_true rfl⟩) (pv_PV12 hPc hKc hDc (q0 := 0) rfl) rfl rfl hl.1 rfl (lv_room (Nat.le_of_ble_eq_true rfl)) dX12_tryShelf_197 ⟨Nat.le_of_ble_eq_true rfl, Nat.le_of_ble_eq_true rfl⟩) hS (fun q _ h => hFc q h) hFc (fun ra153 u t H1 locs ht hvm hwra153 hB hz1 hk1 hS => ?_)
                      try rw [hwra153] at hB
                      have hkra153_0 : ((7 : Int32)).toInt = 7 := by decide
                      obtain ⟨pt0_ra153, pt1_ra153, pt2_ra153, hP1, hK1, hD1⟩ := hB
                      rw [ht] at hP1
                      obtain ⟨hP2, hD2⟩ := va_join (wr := (wd_20b67a68 h1 g0 f20 h3 g2 fn140 h4 g3 fn139)) (w1 := (wd_5013416a h0 v0 r0 v1 v2 v3 v4 r1 r2 r3 r4 r5 r6 r7 v5 v6 r8 r9 r10 r11 v7 h1 r12 v8 v9 h2 r13 v10 v11 r14 v12 v13 r15 v14 w15 r16 x150 x151 h3 h4 r17 r18 r19 r20 v18 r21 r22 r23 v19 h2 g1 f21)) hP hD [0, 2] [1, 3, 4] rfl rfl (by decide) (by decide) hk1 hFc hP1 hD1
                      clear hP hD hPc hDc hKc hFc hP1 hK1 hD1 hk1 hz1
                      generalize H1 = H at hP2 hS ⊢
                      have hP := hP2.sub (ws' := (wd_90cd99f9 h0 v0 r0 v1 v2 v3 v4 r1 r2 r3 r4 r5 r6 r7 v5 v6 r8 r9 r10 r11 v7 h1 r12 v8 v9 h2 r13 v10 v11 r14 v12 v13 r15 v14 w15 r16 x150 x151 h3 h4 r17 r18 r19 r20 v18 r21 r22 r23 v19 h1 g0 f20 h2 g1 f21 h3 g2 fn140 h4 g3 fn139)) [3, 0, 4, 1, 2] rfl
                      have hD := hD2.sub (ws' := (wd_90cd99f9 h0 v0 r0 v1 v2 v3 v4 r1 r2 r3 r4 r5 r6 r7 v5 v6 r8 r9 r10 r11 v7 h1 r12 v8 v9 h2 r13 v10 v11 r14 v12 v13 r15 v14 w15 r16 x150 x151 h3 h4 r17 r18 r19 r20 v18 r21 r22 r23 v19 h1 g0 f20 h2 g1 f21 h3 g2 fn140 h4 g3 fn139)) [3, 0, 4, 1, 2] (by decide) rfl
                      clear hP2 hD2
                      refine lv_isub hx hb dX12_tryShelf_200 ?_
                      refine lv_topi (fun t154 et154 => ?_)
                      refine va_iast hx hb hK hP hD hS 4 3 rfl rfl (vp_in_iff.mpr ⟨by omega, by omega⟩) dX12_tryShelf_201 (fun H locs hP hD hS => ?_)
                      obtain ⟨fn155, efn155⟩ : ∃ g : Nat → Int32, g = upd fn139 (Int32.toNatClampNeg x115) t154 := ⟨_, rfl⟩
                      rw [← efn155] at hP hD
                      have hP : va_P (dC, dI) vwCl (wd_90cd99f9 h0 v0 r0 v1 v2 v3 v4 r1 r2 r3 r4 r5 r6 r7 v5 v6 r8 r9 r10 r11 v7 h1 r12 v8 v9 h2 r13 v10 v11 r14 v12 v13 r15 v14 w15 r16 x150 x151 h3 h4 r17 r18 r19 r20 v18 r21 r22 r23 v19 h1 g0 f20 h2 g1 f21 h3 g2 fn140 h4 g3 fn155) H := hP
                      have hD : va_D A (wd_90cd99f9 h0 v0 r0 v1 v2 v3 v4 r1 r2 r3 r4 r5 r6 r7 v5 v6 r8 r9 r10 r11 v7 h1 r12 v8 v9 h2 r13 v10 v11 r14 v12 v13 r15 v14 w15 r16 x150 x151 h3 h4 r17 r18 r19 r20 v18 r21 r22 r23 v19 h1 g0 f20 h2 g1 f21 h3 g2 fn140 h4 g3 fn155) := hD
                      exact hJ131 x150 x151 fn140 fn155 H locs ls hP hD hS (lv_sub hl [0, 1, 2, 3, 4, 5, 6] rfl)
                    refine lv_icmp_ne (tgt := 179) hx hb dX12_tryShelf_172 (by decide) (fun c156 => ?_) (fun c156 => ?_)
                    · skip
                      have fc156 : ¬ (t144.toInt = ra145.toInt) := fun h9 => c156 (Int32.toInt_inj.mp h9)
                      have r1c156 := Int32.toInt_lt t144
                      have r2c156 := Int32.toInt_lt ra145
                      have r3c156 := Int32.le_toInt t144
                      have r4c156 := Int32.le_toInt ra145
                      refine lv_iconst (v := 0) hx hb dX12_tryShelf_179 (by decide) ?_
                      exact hJ147 0 H locs ls (by decide) (by decide) hP hD hS (lv_sub hl [0, 1, 2, 3, 4, 5, 6] rfl)
                    · skip
                      have fc156 : t144.toInt = ra145.toInt := congrArg Int32.toInt c156
                      have r1c156 := Int32.toInt_lt t144
                      have r2c156 := Int32.toInt_lt ra145
                      have r3c156 := Int32.le_toInt t144
                      have r4c156 := Int32.le_toInt ra145
                      refine lv_iconst (v := 1) hx hb dX12_tryShelf_175 (by decide) ?_
                      refine lv_goto (tgt := 180) hx hb dX12_tryShelf_176 (by decide) ?_
                      exact hJ147 1 H locs ls (by decide) (by decide) hP hD hS (lv_sub hl [0, 1, 2, 3, 4, 5, 6] rfl)
                · skip
                  have fc133 : ¬ (v26.toInt = 0) := fun h9 => c133 (Int32.toInt_inj.mp h9)
                  refine lv_aload_n hx hb dX12_tryShelf_87 rfl (lv_at hl 2 rfl) ?_
                  refine va_get (D := (dC, dI)) (ci := 12) (v := .ref h4) (C := RX12) (T := TX12) (N := 48) hx hb hts (fun _ h => List.mem_cons_of_mem _ (List.mem_append_right _ h)) hown hK hP 0 rfl rfl 38 (by decide) (hts (.fieldLink RX12 77 "LeftArgumentsModel" "room" "[I") (List.mem_cons_of_mem _ (List.mem_append_left _ (List.mem_of_getElem? (i := 31) rfl)))) (fun _ h9 => h9) rfl dX12_tryShelf_88 ?_
                  refine lv_iload hx hb dX12_tryShelf_91 (lv_at hl 0 rfl) ?_
                  refine va_iald hx hb hK hP 4 3 rfl rfl (vp_in_iff.mpr ⟨by omega, by omega⟩) dX12_tryShelf_93 ?_
                  refine lv_topi (fun t157 et157 => ?_)
                  refine lv_aload_n hx hb dX12_tryShelf_94 rfl (lv_at hl 2 rfl) ?_
                  refine lv_iload_n hx hb dX12_tryShelf_95 rfl (lv_at hl 3 rfl) ?_
                  refine lv_iconst (v := 0) hx hb dX12_tryShelf_96 (by decide) ?_
                  have hPc := hP.sub (ws' := (wd_5013416a h0 v0 r0 v1 v2 v3 v4 r1 r2 r3 r4 r5 r6 r7 v5 v6 r8 r9 r10 r11 v7 h1 r12 v8 v9 h2 r13 v10 v11 r14 v12 v13 r15 v14 w15 r16 x116 x117 h3 h4 r17 r18 r19 r20 v18 r21 r22 r23 v19 h2 g1 f21)) [0, 2] rfl
                  have hDc := hD.sub (ws' := (wd_5013416a h0 v0 r0 v1 v2 v3 v4 r1 r2 r3 r4 r5 r6 r7 v5 v6 r8 r9 r10 r11 v7 h1 r12 v8 v9 h2 r13 v10 v11 r14 v12 v13 r15 v14 w15 r16 x116 x117 h3 h4 r17 r18 r19 r20 v18 r21 r22 r23 v19 h2 g1 f21)) [0, 2] (by decide) rfl
                  have hKc := hK.sub (tys' := [(g1, .int)]) [1] rfl
                  have hFc := va_free (wc := (wd_5013416a h0 v0 r0 v1 v2 v3 v4 r1 r2 r3 r4 r5 r6 r7 v5 v6 r8 r9 r10 r11 v7 h1 r12 v8 v9 h2 r13 v10 v11 r14 v12 v13 r15 v14 w15 r16 x116 x117 h3 h4 r17 r18 r19 r20 v18 r21 r22 r23 v19 h2 g1 f21)) hD hS hA [0, 2] rfl
                  refine va_calli (va_runV (As := [.int 7, .int 0]) (rest := [.int t157]) ⟨hx, hb, hml, hown, hts⟩ (k_X12_of_3 l dC dI h0 h2 v0 r0 v1 v2 v3 v4 r1 r2 r3 r4 r5 r6 r7 v5 v6 r8 r9 r10 r11 v7 h1 r12 v8 v9 r13 v10 v11 r14 v12 v13 r15 v14 w15 r16 x116 x117 h3 h4 r17 r18 r19 r20 v18 r21 r22 r23 v19 g1 f21 7 ⟨i_v1a, i_v1b⟩ ⟨i_v5a, i_v5b⟩ ⟨i_v6a, i_v6b⟩ ⟨i_v7a, i_v7b⟩ ⟨i_v8a, i_v8b⟩ ⟨i_v9a, i_v9b⟩ ⟨i_v10a, i_v10b⟩ ⟨i_v14a, i_v14b⟩ ⟨i_v18a, i_v18b⟩ ⟨i_v19a, i_v19b⟩ ⟨by decide, by decide⟩ ia_f21.1 H.size) (cwV 2 hts g_X12_tryShelf_1_2 rfl rfl rfl (by decide +kernel) ⟨Nat.le_of_ble_eq_true rfl, Nat.le_of_ble_eq_true rfl⟩) (pv_PV12 hPc hKc hDc (q0 := 0) rfl) rfl rfl hl.1 rfl (lv_room (Nat.le_of_ble_eq_true rfl)) dX12_tryShelf_97 ⟨Nat.le_of_ble_eq_true rfl, Nat.le_of_ble_eq_true rfl⟩) hS (fun q _ h => hFc q h) hFc (fun ra158 u t H1 locs ht hvm hwra158 hB hz1 hk1 hS => ?_)
                  try rw [hwra158] at hB
                  have hkra158_0 : ((7 : Int32)).toInt = 7 := by decide
                  obtain ⟨pt0_ra158, pt1_ra158, pt2_ra158, hP1, hK1, hD1⟩ := hB
                  rw [ht] at hP1
                  obtain ⟨hP2, hD2⟩ := va_join (wr := (wd_20b67a68 h1 g0 f20 h3 g2 fn118 h4 g3 fn119)) (w1 := (wd_5013416a h0 v0 r0 v1 v2 v3 v4 r1 r2 r3 r4 r5 r6 r7 v5 v6 r8 r9 r10 r11 v7 h1 r12 v8 v9 h2 r13 v10 v11 r14 v12 v13 r15 v14 w15 r16 x116 x117 h3 h4 r17 r18 r19 r20 v18 r21 r22 r23 v19 h2 g1 f21)) hP hD [0, 2] [1, 3, 4] rfl rfl (by decide) (by decide) hk1 hFc hP1 hD1
                  clear hP hD hPc hDc hKc hFc hP1 hK1 hD1 hk1 hz1
                  generalize H1 = H at hP2 hS ⊢
                  have hP := hP2.sub (ws' := (wd_90cd99f9 h0 v0 r0 v1 v2 v3 v4 r1 r2 r3 r4 r5 r6 r7 v5 v6 r8 r9 r10 r11 v7 h1 r12 v8 v9 h2 r13 v10 v11 r14 v12 v13 r15 v14 w15 r16 x116 x117 h3 h4 r17 r18 r19 r20 v18 r21 r22 r23 v19 h1 g0 f20 h2 g1 f21 h3 g2 fn118 h4 g3 fn119)) [3, 0, 4, 1, 2] rfl
                  have hD := hD2.sub (ws' := (wd_90cd99f9 h0 v0 r0 v1 v2 v3 v4 r1 r2 r3 r4 r5 r6 r7 v5 v6 r8 r9 r10 r11 v7 h1 r12 v8 v9 h2 r13 v10 v11 r14 v12 v13 r15 v14 w15 r16 x116 x117 h3 h4 r17 r18 r19 r20 v18 r21 r22 r23 v19 h1 g0 f20 h2 g1 f21 h3 g2 fn118 h4 g3 fn119)) [3, 0, 4, 1, 2] (by decide) rfl
                  clear hP2 hD2
                  refine lv_iadd hx hb dX12_tryShelf_100 ?_
                  refine lv_topi (fun t159 et159 => ?_)
                  refine lv_aload_n hx hb dX12_tryShelf_101 rfl (lv_at hl 2 rfl) ?_
                  refine va_get (D := (dC, dI)) (ci := 12) (v := .ref h1) (C := RX12) (T := TX12) (N := 48) hx hb hts (fun _ h => List.mem_cons_of_mem _ (List.mem_append_right _ h)) hown hK hP 0 rfl rfl 20 (by decide) (hts (.fieldLink RX12 46 "LeftArgumentsModel" "rule" "[I") (List.mem_cons_of_mem _ (List.mem_append_left _ (List.mem_of_getElem? (i := 37) rfl)))) (fun _ h9 => h9) rfl dX12_tryShelf_102 ?_
                  refine lv_iconst (v := 0) hx hb dX12_tryShelf_105 (by decide) ?_
                  refine va_iald hx hb hK hP 1 0 rfl rfl (pv_c (x := 0) (n := 4) (by decide)) dX12_tryShelf_106 ?_
                  refine lv_topi (fun t160 et160 => ?_)
                  have gat160 : 0 ≤ t160.toInt := by rw [et160]; exact ia_f20.2
                  refine lv_icmp_gt (tgt := 202) hx hb dX12_tryShelf_107 (by decide) (fun c161 => ?_) (fun c161 => ?_)
                  · skip
                    have fc161 : t160.toInt < t159.toInt := Int32.lt_iff_toInt_lt.mp c161
                    have r1c161 := Int32.toInt_lt t159
                    have r2c161 := Int32.toInt_lt t160
                    have r3c161 := Int32.le_toInt t159
                    have r4c161 := Int32.le_toInt t160
                    exact hJ131 x116 x117 fn118 fn119 H locs ls hP hD hS (lv_sub hl [0, 1, 2, 3, 4, 5, 6] rfl)
                  · skip
                    have fc161 : ¬ (t160.toInt < t159.toInt) := fun h9 => c161 (Int32.lt_iff_toInt_lt.mpr h9)
                    have r1c161 := Int32.toInt_lt t159
                    have r2c161 := Int32.toInt_lt t160
                    have r3c161 := Int32.le_toInt t159
                    have r4c161 := Int32.le_toInt t160
                    refine lv_goto (tgt := 123) hx hb dX12_tryShelf_110 (by decide) ?_
                    refine lv_aload_n hx hb dX12_tryShelf_123 rfl (lv_at hl 2 rfl) ?_
                    refine va_get (D := (dC, dI)) (ci := 12) (v := .ref h4) (C := RX12) (T := TX12) (N := 48) hx hb hts (fun _ h => List.mem_cons_of_mem _ (List.mem_append_right _ h)) hown hK hP 0 rfl rfl 38 (by decide) (hts (.fieldLink RX12 77 "LeftArgumentsModel" "room" "[I") (List.mem_cons_of_mem _ (List.mem_append_left _ (List.mem_of_getElem? (i := 31) rfl)))) (fun _ h9 => h9) rfl dX12_tryShelf_124 ?_
                    refine lv_iload hx hb dX12_tryShelf_127 (lv_at hl 0 rfl) ?_
                    refine lv_dup2_11 hx hb dX12_tryShelf_129 rfl rfl ?_
                    refine va_iald hx hb hK hP 4 3 rfl rfl (vp_in_iff.mpr ⟨by omega, by omega⟩) dX12_tryShelf_130 ?_
                    refine lv_topi (fun t162 et162 => ?_)
                    have gmt162 : t162.toInt = t157.toInt := by rw [et162, et157]
                    refine lv_aload_n hx hb dX12_tryShelf_131 rfl (lv_at hl 2 rfl) ?_
                    refine lv_iload_n hx hb dX12_tryShelf_132 rfl (lv_at hl 3 rfl) ?_
                    refine lv_iconst (v := 0) hx hb dX12_tryShelf_133 (by decide) ?_
                    have hPc := hP.sub (ws' := (wd_5013416a h0 v0 r0 v1 v2 v3 v4 r1 r2 r3 r4 r5 r6 r7 v5 v6 r8 r9 r10 r11 v7 h1 r12 v8 v9 h2 r13 v10 v11 r14 v12 v13 r15 v14 w15 r16 x116 x117 h3 h4 r17 r18 r19 r20 v18 r21 r22 r23 v19 h2 g1 f21)) [0, 2] rfl
                    have hDc := hD.sub (ws' := (wd_5013416a h0 v0 r0 v1 v2 v3 v4 r1 r2 r3 r4 r5 r6 r7 v5 v6 r8 r9 r10 r11 v7 h1 r12 v8 v9 h2 r13 v10 v11 r14 v12 v13 r15 v14 w15 r16 x116 x117 h3 h4 r17 r18 r19 r20 v18 r21 r22 r23 v19 h2 g1 f21)) [0, 2] (by decide) rfl
                    have hKc := hK.sub (tys' := [(g1, .int)]) [1] rfl
                    have hFc := va_free (wc := (wd_5013416a h0 v0 r0 v1 v2 v3 v4 r1 r2 r3 r4 r5 r6 r7 v5 v6 r8 r9 r10 r11 v7 h1 r12 v8 v9 h2 r13 v10 v11 r14 v12 v13 r15 v14 w15 r16 x116 x117 h3 h4 r17 r18 r19 r20 v18 r21 r22 r23 v19 h2 g1 f21)) hD hS hA [0, 2] rfl
                    refine va_calli (va_runV (As := [.int 7, .int 0]) (rest := [.int t162, .int x115, .ref h4]) ⟨hx, hb, hml, hown, hts⟩ (k_X12_of_3 l dC dI h0 h2 v0 r0 v1 v2 v3 v4 r1 r2 r3 r4 r5 r6 r7 v5 v6 r8 r9 r10 r11 v7 h1 r12 v8 v9 r13 v10 v11 r14 v12 v13 r15 v14 w15 r16 x116 x117 h3 h4 r17 r18 r19 r20 v18 r21 r22 r23 v19 g1 f21 7 ⟨i_v1a, i_v1b⟩ ⟨i_v5a, i_v5b⟩ ⟨i_v6a, i_v6b⟩ ⟨i_v7a, i_v7b⟩ ⟨i_v8a, i_v8b⟩ ⟨i_v9a, i_v9b⟩ ⟨i_v10a, i_v10b⟩ ⟨i_v14a, i_v14b⟩ ⟨i_v18a, i_v18b⟩ ⟨i_v19a, i_v19b⟩ ⟨by decide, by decide⟩ ia_f21.1 H.size) (cwV 2 hts g_X12_tryShelf_1_2 rfl rfl rfl (by decide +kernel) ⟨Nat.le_of_ble_eq_true rfl, Nat.le_of_ble_eq_true rfl⟩) (pv_PV12 hPc hKc hDc (q0 := 0) rfl) rfl rfl hl.1 rfl (lv_room (Nat.le_of_ble_eq_true rfl)) dX12_tryShelf_134 ⟨Nat.le_of_ble_eq_true rfl, Nat.le_of_ble_eq_true rfl⟩) hS (fun q _ h => hFc q h) hFc (fun ra163 u t H1 locs ht hvm hwra163 hB hz1 hk1 hS => ?_)
                    try rw [hwra163] at hB
                    have hkra163_0 : ((7 : Int32)).toInt = 7 := by decide
                    obtain ⟨pt0_ra163, pt1_ra163, pt2_ra163, hP1, hK1, hD1⟩ := hB
                    rw [ht] at hP1
                    obtain ⟨hP2, hD2⟩ := va_join (wr := (wd_20b67a68 h1 g0 f20 h3 g2 fn118 h4 g3 fn119)) (w1 := (wd_5013416a h0 v0 r0 v1 v2 v3 v4 r1 r2 r3 r4 r5 r6 r7 v5 v6 r8 r9 r10 r11 v7 h1 r12 v8 v9 h2 r13 v10 v11 r14 v12 v13 r15 v14 w15 r16 x116 x117 h3 h4 r17 r18 r19 r20 v18 r21 r22 r23 v19 h2 g1 f21)) hP hD [0, 2] [1, 3, 4] rfl rfl (by decide) (by decide) hk1 hFc hP1 hD1
                    clear hP hD hPc hDc hKc hFc hP1 hK1 hD1 hk1 hz1
                    generalize H1 = H at hP2 hS ⊢
                    have hP := hP2.sub (ws' := (wd_90cd99f9 h0 v0 r0 v1 v2 v3 v4 r1 r2 r3 r4 r5 r6 r7 v5 v6 r8 r9 r10 r11 v7 h1 r12 v8 v9 h2 r13 v10 v11 r14 v12 v13 r15 v14 w15 r16 x116 x117 h3 h4 r17 r18 r19 r20 v18 r21 r22 r23 v19 h1 g0 f20 h2 g1 f21 h3 g2 fn118 h4 g3 fn119)) [3, 0, 4, 1, 2] rfl
                    have hD := hD2.sub (ws' := (wd_90cd99f9 h0 v0 r0 v1 v2 v3 v4 r1 r2 r3 r4 r5 r6 r7 v5 v6 r8 r9 r10 r11 v7 h1 r12 v8 v9 h2 r13 v10 v11 r14 v12 v13 r15 v14 w15 r16 x116 x117 h3 h4 r17 r18 r19 r20 v18 r21 r22 r23 v19 h1 g0 f20 h2 g1 f21 h3 g2 fn118 h4 g3 fn119)) [3, 0, 4, 1, 2] (by decide) rfl
                    clear hP2 hD2
                    refine lv_iadd hx hb dX12_tryShelf_137 ?_
                    refine lv_topi (fun t164 et164 => ?_)
                    refine va_iast hx hb hK hP hD hS 4 3 rfl rfl (vp_in_iff.mpr ⟨by omega, by omega⟩) dX12_tryShelf_138 (fun H locs hP hD hS => ?_)
                    obtain ⟨fn165, efn165⟩ : ∃ g : Nat → Int32, g = upd fn119 (Int32.toNatClampNeg x115) t164 := ⟨_, rfl⟩
                    rw [← efn165] at hP hD
                    have hP : va_P (dC, dI) vwCl (wd_90cd99f9 h0 v0 r0 v1 v2 v3 v4 r1 r2 r3 r4 r5 r6 r7 v5 v6 r8 r9 r10 r11 v7 h1 r12 v8 v9 h2 r13 v10 v11 r14 v12 v13 r15 v14 w15 r16 x116 x117 h3 h4 r17 r18 r19 r20 v18 r21 r22 r23 v19 h1 g0 f20 h2 g1 f21 h3 g2 fn118 h4 g3 fn165) H := hP
                    have hD : va_D A (wd_90cd99f9 h0 v0 r0 v1 v2 v3 v4 r1 r2 r3 r4 r5 r6 r7 v5 v6 r8 r9 r10 r11 v7 h1 r12 v8 v9 h2 r13 v10 v11 r14 v12 v13 r15 v14 w15 r16 x116 x117 h3 h4 r17 r18 r19 r20 v18 r21 r22 r23 v19 h1 g0 f20 h2 g1 f21 h3 g2 fn118 h4 g3 fn165) := hD
                    refine lv_aload_n hx hb dX12_tryShelf_139 rfl (lv_at hl 2 rfl) ?_
                    refine va_get (D := (dC, dI)) (ci := 12) (v := .ref h3) (C := RX12) (T := TX12) (N := 48) hx hb hts (fun _ h => List.mem_cons_of_mem _ (List.mem_append_right _ h)) hown hK hP 0 rfl rfl 37 (by decide) (hts (.fieldLink RX12 74 "LeftArgumentsModel" "onShelf" "[I") (List.mem_cons_of_mem _ (List.mem_append_left _ (List.mem_of_getElem? (i := 15) rfl)))) (fun _ h9 => h9) rfl dX12_tryShelf_140 ?_
                    refine lv_iload_n hx hb dX12_tryShelf_143 rfl (lv_at hl 3 rfl) ?_
                    refine lv_iload hx hb dX12_tryShelf_144 (lv_at hl 0 rfl) ?_
                    refine va_iast hx hb hK hP hD hS 3 2 rfl rfl (pv_c (x := 7) (n := 8) (by decide)) dX12_tryShelf_146 (fun H locs hP hD hS => ?_)
                    obtain ⟨fn166, efn166⟩ : ∃ g : Nat → Int32, g = upd fn118 (Int32.toNatClampNeg 7) x115 := ⟨_, rfl⟩
                    rw [← efn166] at hP hD
                    have hP : va_P (dC, dI) vwCl (wd_90cd99f9 h0 v0 r0 v1 v2 v3 v4 r1 r2 r3 r4 r5 r6 r7 v5 v6 r8 r9 r10 r11 v7 h1 r12 v8 v9 h2 r13 v10 v11 r14 v12 v13 r15 v14 w15 r16 x116 x117 h3 h4 r17 r18 r19 r20 v18 r21 r22 r23 v19 h1 g0 f20 h2 g1 f21 h3 g2 fn166 h4 g3 fn165) H := hP
                    have hD : va_D A (wd_90cd99f9 h0 v0 r0 v1 v2 v3 v4 r1 r2 r3 r4 r5 r6 r7 v5 v6 r8 r9 r10 r11 v7 h1 r12 v8 v9 h2 r13 v10 v11 r14 v12 v13 r15 v14 w15 r16 x116 x117 h3 h4 r17 r18 r19 r20 v18 r21 r22 r23 v19 h1 g0 f20 h2 g1 f21 h3 g2 fn166 h4 g3 fn165) := hD
                    refine lv_aload_n hx hb dX12_tryShelf_147 rfl (lv_at hl 2 rfl) ?_
                    refine lv_iload_n hx hb dX12_tryShelf_148 rfl (lv_at hl 3 rfl) ?_
                    refine lv_iconst (v := 1) hx hb dX12_tryShelf_149 (by decide) ?_
                    refine lv_iadd hx hb dX12_tryShelf_150 ?_
                    refine lv_topi (fun tv167 etv167 => ?_)
                    obtain rfl : tv167 = (8 : Int32) := etv167.trans (by first | rfl | decide)
                    refine lv_bipush (v := 10) hx hb dX12_tryShelf_151 (by decide) ?_
                    refine lv_iload_n hx hb dX12_tryShelf_153 rfl (lv_at hl 4 rfl) ?_
                    refine lv_imul hx hb dX12_tryShelf_154 ?_
                    refine lv_topi (fun t168 et168 => ?_)
                    refine lv_iload hx hb dX12_tryShelf_155 (lv_at hl 0 rfl) ?_
                    refine lv_iadd hx hb dX12_tryShelf_157 ?_
                    refine lv_topi (fun t169 et169 => ?_)
                    refine lv_iload_n hx hb dX12_tryShelf_158 rfl (lv_at hl 5 rfl) ?_
                    refine lv_aload_n hx hb dX12_tryShelf_159 rfl (lv_at hl 2 rfl) ?_
                    refine va_get (D := (dC, dI)) (ci := 12) (v := .ref h4) (C := RX12) (T := TX12) (N := 48) hx hb hts (fun _ h => List.mem_cons_of_mem _ (List.mem_append_right _ h)) hown hK hP 0 rfl rfl 38 (by decide) (hts (.fieldLink RX12 77 "LeftArgumentsModel" "room" "[I") (List.mem_cons_of_mem _ (List.mem_append_left _ (List.mem_of_getElem? (i := 31) rfl)))) (fun _ h9 => h9) rfl dX12_tryShelf_160 ?_
                    refine lv_iload hx hb dX12_tryShelf_163 (lv_at hl 0 rfl) ?_
                    refine va_iald hx hb hK hP 4 3 rfl rfl (vp_in_iff.mpr ⟨by omega, by omega⟩) dX12_tryShelf_165 ?_
                    refine lv_topi (fun t170 et170 => ?_)
                    refine lv_aload_n hx hb dX12_tryShelf_166 rfl (lv_at hl 2 rfl) ?_
                    refine lv_iload_n hx hb dX12_tryShelf_167 rfl (lv_at hl 3 rfl) ?_
                    refine lv_iconst (v := 0) hx hb dX12_tryShelf_168 (by decide) ?_
                    have hPc := hP.sub (ws' := (wd_5013416a h0 v0 r0 v1 v2 v3 v4 r1 r2 r3 r4 r5 r6 r7 v5 v6 r8 r9 r10 r11 v7 h1 r12 v8 v9 h2 r13 v10 v11 r14 v12 v13 r15 v14 w15 r16 x116 x117 h3 h4 r17 r18 r19 r20 v18 r21 r22 r23 v19 h2 g1 f21)) [0, 2] rfl
                    have hDc := hD.sub (ws' := (wd_5013416a h0 v0 r0 v1 v2 v3 v4 r1 r2 r3 r4 r5 r6 r7 v5 v6 r8 r9 r10 r11 v7 h1 r12 v8 v9 h2 r13 v10 v11 r14 v12 v13 r15 v14 w15 r16 x116 x117 h3 h4 r17 r18 r19 r20 v18 r21 r22 r23 v19 h2 g1 f21)) [0, 2] (by decide) rfl
                    have hKc := hK.sub (tys' := [(g1, .int)]) [1] rfl
                    have hFc := va_free (wc := (wd_5013416a h0 v0 r0 v1 v2 v3 v4 r1 r2 r3 r4 r5 r6 r7 v5 v6 r8 r9 r10 r11 v7 h1 r12 v8 v9 h2 r13 v10 v11 r14 v12 v13 r15 v14 w15 r16 x116 x117 h3 h4 r17 r18 r19 r20 v18 r21 r22 r23 v19 h2 g1 f21)) hD hS hA [0, 2] rfl
                    refine va_calli (va_runV (As := [.int 7, .int 0]) (rest := [.int t170, .int v25, .int t169, .int 8, .ref h0]) ⟨hx, hb, hml, hown, hts⟩ (k_X12_of_3 l dC dI h0 h2 v0 r0 v1 v2 v3 v4 r1 r2 r3 r4 r5 r6 r7 v5 v6 r8 r9 r10 r11 v7 h1 r12 v8 v9 r13 v10 v11 r14 v12 v13 r15 v14 w15 r16 x116 x117 h3 h4 r17 r18 r19 r20 v18 r21 r22 r23 v19 g1 f21 7 ⟨i_v1a, i_v1b⟩ ⟨i_v5a, i_v5b⟩ ⟨i_v6a, i_v6b⟩ ⟨i_v7a, i_v7b⟩ ⟨i_v8a, i_v8b⟩ ⟨i_v9a, i_v9b⟩ ⟨i_v10a, i_v10b⟩ ⟨i_v14a, i_v14b⟩ ⟨i_v18a, i_v18b⟩ ⟨i_v19a, i_v19b⟩ ⟨by decide, by decide⟩ ia_f21.1 H.size) (cwV 2 hts g_X12_tryShelf_1_2 rfl rfl rfl (by decide +kernel) ⟨Nat.le_of_ble_eq_true rfl, Nat.le_of_ble_eq_true rfl⟩) (pv_PV12 hPc hKc hDc (q0 := 0) rfl) rfl rfl hl.1 rfl (lv_room (Nat.le_of_ble_eq_true rfl)) dX12_tryShelf_169 ⟨Nat.le_of_ble_eq_true rfl, Nat.le_of_ble_eq_true rfl⟩) hS (fun q _ h => hFc q h) hFc (fun ra171 u t H1 locs ht hvm hwra171 hB hz1 hk1 hS => ?_)
                    try rw [hwra171] at hB
                    have hkra171_0 : ((7 : Int32)).toInt = 7 := by decide
                    obtain ⟨pt0_ra171, pt1_ra171, pt2_ra171, hP1, hK1, hD1⟩ := hB
                    rw [ht] at hP1
                    obtain ⟨hP2, hD2⟩ := va_join (wr := (wd_20b67a68 h1 g0 f20 h3 g2 fn166 h4 g3 fn165)) (w1 := (wd_5013416a h0 v0 r0 v1 v2 v3 v4 r1 r2 r3 r4 r5 r6 r7 v5 v6 r8 r9 r10 r11 v7 h1 r12 v8 v9 h2 r13 v10 v11 r14 v12 v13 r15 v14 w15 r16 x116 x117 h3 h4 r17 r18 r19 r20 v18 r21 r22 r23 v19 h2 g1 f21)) hP hD [0, 2] [1, 3, 4] rfl rfl (by decide) (by decide) hk1 hFc hP1 hD1
                    clear hP hD hPc hDc hKc hFc hP1 hK1 hD1 hk1 hz1
                    generalize H1 = H at hP2 hS ⊢
                    have hP := hP2.sub (ws' := (wd_90cd99f9 h0 v0 r0 v1 v2 v3 v4 r1 r2 r3 r4 r5 r6 r7 v5 v6 r8 r9 r10 r11 v7 h1 r12 v8 v9 h2 r13 v10 v11 r14 v12 v13 r15 v14 w15 r16 x116 x117 h3 h4 r17 r18 r19 r20 v18 r21 r22 r23 v19 h1 g0 f20 h2 g1 f21 h3 g2 fn166 h4 g3 fn165)) [3, 0, 4, 1, 2] rfl
                    have hD := hD2.sub (ws' := (wd_90cd99f9 h0 v0 r0 v1 v2 v3 v4 r1 r2 r3 r4 r5 r6 r7 v5 v6 r8 r9 r10 r11 v7 h1 r12 v8 v9 h2 r13 v10 v11 r14 v12 v13 r15 v14 w15 r16 x116 x117 h3 h4 r17 r18 r19 r20 v18 r21 r22 r23 v19 h1 g0 f20 h2 g1 f21 h3 g2 fn166 h4 g3 fn165)) [3, 0, 4, 1, 2] (by decide) rfl
                    clear hP2 hD2
                    have hJ173 : ∀ (x172 : Int32) (H : Heap) (locs : List Loc) (ls : Array Slot), 0 ≤ x172.toInt → x172.toInt ≤ 1 → va_P (dC, dI) vwCl (wd_90cd99f9 h0 v0 r0 v1 v2 v3 v4 r1 r2 r3 r4 r5 r6 r7 v5 v6 r8 r9 r10 r11 v7 h1 r12 v8 v9 h2 r13 v10 v11 r14 v12 v13 r15 v14 w15 r16 x116 x117 h3 h4 r17 r18 r19 r20 v18 r21 r22 r23 v19 h1 g0 f20 h2 g1 f21 h3 g2 fn166 h4 g3 fn165) H → va_D A (wd_90cd99f9 h0 v0 r0 v1 v2 v3 v4 r1 r2 r3 r4 r5 r6 r7 v5 v6 r8 r9 r10 r11 v7 h1 r12 v8 v9 h2 r13 v10 v11 r14 v12 v13 r15 v14 w15 r16 x116 x117 h3 h4 r17 r18 r19 r20 v18 r21 r22 r23 v19 h1 g0 f20 h2 g1 f21 h3 g2 fn166 h4 g3 fn165) → va_S A s.heap H locs → lv_has ls 7 [(6, .int x115), (5, .int x98), (0, .ref h0), (1, .int 7), (2, .int v24), (3, .int v25), (4, .int v26)] → W p l e ({ frames := 4, cells := 0, slots := 0, locals := 88 }) s m ([.ref h0, .int 7, .int v24, .int v25, .int v26] : List Value).toArray below meth c H locs 0 0 Q (F0 m 180 ls [.int x172, .int v25, .int t169, .int 8, .ref h0]) := by
                      intro x172 H locs ls qa_x172 qb_x172 hP hD hS hl
                      refine lv_iadd hx hb dX12_tryShelf_180 ?_
                      refine lv_topi (fun t174 et174 => ?_)
                      have r5t174v25 := Int32.le_toInt v25; have r6t174v25 := Int32.toInt_lt v25
                      have gt174 : t174.toInt = v25.toInt + x172.toInt := pv_add (a := v25.toInt) (b := x172.toInt) et174 rfl rfl (by omega) (by omega)
                      refine lv_iload hx hb dX12_tryShelf_181 (lv_at hl 6 rfl) ?_
                      have hPc := hP.sub (ws' := (wd_171f232f h0 v0 r0 v1 v2 v3 v4 r1 r2 r3 r4 r5 r6 r7 v5 v6 r8 r9 r10 r11 v7 h1 r12 v8 v9 h2 r13 v10 v11 r14 v12 v13 r15 v14 w15 r16 x116 x117 h3 h4 r17 r18 r19 r20 v18 r21 r22 r23 v19)) [0] rfl
                      have hDc := hD.sub (ws' := (wd_171f232f h0 v0 r0 v1 v2 v3 v4 r1 r2 r3 r4 r5 r6 r7 v5 v6 r8 r9 r10 r11 v7 h1 r12 v8 v9 h2 r13 v10 v11 r14 v12 v13 r15 v14 w15 r16 x116 x117 h3 h4 r17 r18 r19 r20 v18 r21 r22 r23 v19)) [0] (by decide) rfl
                      have hKc := hK.sub (tys' := []) [] rfl
                      have hFc := va_free (wc := (wd_171f232f h0 v0 r0 v1 v2 v3 v4 r1 r2 r3 r4 r5 r6 r7 v5 v6 r8 r9 r10 r11 v7 h1 r12 v8 v9 h2 r13 v10 v11 r14 v12 v13 r15 v14 w15 r16 x116 x117 h3 h4 r17 r18 r19 r20 v18 r21 r22 r23 v19)) hD hS hA [0] rfl
                      refine va_callv (va_runV (As := [.int 8, .int t169, .int t174, .int v26]) (rest := []) ⟨hx, hb, hml, hown, hts⟩ (k_X12_tryShelf l dC dI h0 v0 r0 v1 v2 v3 v4 r1 r2 r3 r4 r5 r6 r7 v5 v6 r8 r9 r10 r11 v7 h1 r12 v8 v9 h2 r13 v10 v11 r14 v12 v13 r15 v14 w15 r16 x116 x117 h3 h4 r17 r18 r19 r20 v18 r21 r22 r23 v19 t169 t174 v26 ⟨i_v1a, i_v1b⟩ ⟨i_v5a, i_v5b⟩ ⟨i_v6a, i_v6b⟩ ⟨i_v7a, i_v7b⟩ ⟨i_v8a, i_v8b⟩ ⟨i_v9a, i_v9b⟩ ⟨i_v10a, i_v10b⟩ ⟨i_v14a, i_v14b⟩ ⟨i_v18a, i_v18b⟩ ⟨i_v19a, i_v19b⟩ ⟨i_v26a, i_v26b⟩ H.size) (cwV 4 hts g_X12_tryShelf_1_4 rfl rfl rfl (by decide +kernel) ⟨Nat.le_of_ble_eq_true rfl, Nat.le_of_ble_eq_true rfl⟩) (pv_PV12 hPc hKc hDc (q0 := 0) rfl) rfl rfl hl.1 rfl (lv_room (Nat.le_of_ble_eq_true rfl)) dX12_tryShelf_183 ⟨Nat.le_of_ble_eq_true rfl, Nat.le_of_ble_eq_true rfl⟩) hS (fun q _ h => hFc q h) hFc (fun u t H1 locs ht hvm hwra175 hB hz1 hk1 hS => ?_)
                      obtain ⟨x176, x177, hP1, hK1, hD1⟩ := hB
                      rw [ht] at hP1
                      obtain ⟨hP2, hD2⟩ := va_join (wr := (wd_fd33bfec h1 g0 f20 h2 g1 f21 h3 g2 fn166 h4 g3 fn165)) (w1 := (wd_171f232f h0 v0 r0 v1 v2 v3 v4 r1 r2 r3 r4 r5 r6 r7 v5 v6 r8 r9 r10 r11 v7 h1 r12 v8 v9 h2 r13 v10 v11 r14 v12 v13 r15 v14 w15 r16 x176 x177 h3 h4 r17 r18 r19 r20 v18 r21 r22 r23 v19)) hP hD [0] [1, 2, 3, 4] rfl rfl (by decide) (by decide) hk1 hFc hP1 hD1
                      clear hP hD hPc hDc hKc hFc hP1 hK1 hD1 hk1 hz1
                      generalize H1 = H at hP2 hS ⊢
                      have hP := hP2.sub (ws' := (wd_90cd99f9 h0 v0 r0 v1 v2 v3 v4 r1 r2 r3 r4 r5 r6 r7 v5 v6 r8 r9 r10 r11 v7 h1 r12 v8 v9 h2 r13 v10 v11 r14 v12 v13 r15 v14 w15 r16 x176 x177 h3 h4 r17 r18 r19 r20 v18 r21 r22 r23 v19 h1 g0 f20 h2 g1 f21 h3 g2 fn166 h4 g3 fn165)) [4, 0, 1, 2, 3] rfl
                      have hD := hD2.sub (ws' := (wd_90cd99f9 h0 v0 r0 v1 v2 v3 v4 r1 r2 r3 r4 r5 r6 r7 v5 v6 r8 r9 r10 r11 v7 h1 r12 v8 v9 h2 r13 v10 v11 r14 v12 v13 r15 v14 w15 r16 x176 x177 h3 h4 r17 r18 r19 r20 v18 r21 r22 r23 v19 h1 g0 f20 h2 g1 f21 h3 g2 fn166 h4 g3 fn165)) [4, 0, 1, 2, 3] (by decide) rfl
                      clear hP2 hD2
                      refine lv_aload_n hx hb dX12_tryShelf_186 rfl (lv_at hl 2 rfl) ?_
                      refine va_get (D := (dC, dI)) (ci := 12) (v := .ref h4) (C := RX12) (T := TX12) (N := 48) hx hb hts (fun _ h => List.mem_cons_of_mem _ (List.mem_append_right _ h)) hown hK hP 0 rfl rfl 38 (by decide) (hts (.fieldLink RX12 77 "LeftArgumentsModel" "room" "[I") (List.mem_cons_of_mem _ (List.mem_append_left _ (List.mem_of_getElem? (i := 31) rfl)))) (fun _ h9 => h9) rfl dX12_tryShelf_187 ?_
                      refine lv_iload hx hb dX12_tryShelf_190 (lv_at hl 0 rfl) ?_
                      refine lv_dup2_11 hx hb dX12_tryShelf_192 rfl rfl ?_
                      refine va_iald hx hb hK hP 4 3 rfl rfl (vp_in_iff.mpr ⟨by omega, by omega⟩) dX12_tryShelf_193 ?_
                      refine lv_topi (fun t178 et178 => ?_)
                      have gmt178 : t178.toInt = t170.toInt := by rw [et178, et170]
                      refine lv_aload_n hx hb dX12_tryShelf_194 rfl (lv_at hl 2 rfl) ?_
                      refine lv_iload_n hx hb dX12_tryShelf_195 rfl (lv_at hl 3 rfl) ?_
                      refine lv_iconst (v := 0) hx hb dX12_tryShelf_196 (by decide) ?_
                      have hPc := hP.sub (ws' := (wd_5013416a h0 v0 r0 v1 v2 v3 v4 r1 r2 r3 r4 r5 r6 r7 v5 v6 r8 r9 r10 r11 v7 h1 r12 v8 v9 h2 r13 v10 v11 r14 v12 v13 r15 v14 w15 r16 x176 x177 h3 h4 r17 r18 r19 r20 v18 r21 r22 r23 v19 h2 g1 f21)) [0, 2] rfl
                      have hDc := hD.sub (ws' := (wd_5013416a h0 v0 r0 v1 v2 v3 v4 r1 r2 r3 r4 r5 r6 r7 v5 v6 r8 r9 r10 r11 v7 h1 r12 v8 v9 h2 r13 v10 v11 r14 v12 v13 r15 v14 w15 r16 x176 x177 h3 h4 r17 r18 r19 r20 v18 r21 r22 r23 v19 h2 g1 f21)) [0, 2] (by decide) rfl
                      have hKc := hK.sub (tys' := [(g1, .int)]) [1] rfl
                      have hFc := va_free (wc := (wd_5013416a h0 v0 r0 v1 v2 v3 v4 r1 r2 r3 r4 r5 r6 r7 v5 v6 r8 r9 r10 r11 v7 h1 r12 v8 v9 h2 r13 v10 v11 r14 v12 v13 r15 v14 w15 r16 x176 x177 h3 h4 r17 r18 r19 r20 v18 r21 r22 r23 v19 h2 g1 f21)) hD hS hA [0, 2] rfl
                      refine va_calli (va_runV (As := [.int 7, .int 0]) (rest := [.int t178, .int x115, .ref h4]) ⟨hx, hb, hml, hown, hts⟩ (k_X12_of_3 l dC dI h0 h2 v0 r0 v1 v2 v3 v4 r1 r2 r3 r4 r5 r6 r7 v5 v6 r8 r9 r10 r11 v7 h1 r12 v8 v9 r13 v10 v11 r14 v12 v13 r15 v14 w15 r16 x176 x177 h3 h4 r17 r18 r19 r20 v18 r21 r22 r23 v19 g1 f21 7 ⟨i_v1a, i_v1b⟩ ⟨i_v5a, i_v5b⟩ ⟨i_v6a, i_v6b⟩ ⟨i_v7a, i_v7b⟩ ⟨i_v8a, i_v8b⟩ ⟨i_v9a, i_v9b⟩ ⟨i_v10a, i_v10b⟩ ⟨i_v14a, i_v14b⟩ ⟨i_v18a, i_v18b⟩ ⟨i_v19a, i_v19b⟩ ⟨by decide, by decide⟩ ia_f21.1 H.size) (cwV 2 hts g_X12_tryShelf_1_2 rfl rfl rfl (by decide +kernel) ⟨Nat.le_of_ble_eq_true rfl, Nat.le_of_ble_eq_true rfl⟩) (pv_PV12 hPc hKc hDc (q0 := 0) rfl) rfl rfl hl.1 rfl (lv_room (Nat.le_of_ble_eq_true rfl)) dX12_tryShelf_197 ⟨Nat.le_of_ble_eq_true rfl, Nat.le_of_ble_eq_true rfl⟩) hS (fun q _ h => hFc q h) hFc (fun ra179 u t H1 locs ht hvm hwra179 hB hz1 hk1 hS => ?_)
                      try rw [hwra179] at hB
                      have hkra179_0 : ((7 : Int32)).toInt = 7 := by decide
                      obtain ⟨pt0_ra179, pt1_ra179, pt2_ra179, hP1, hK1, hD1⟩ := hB
                      rw [ht] at hP1
                      obtain ⟨hP2, hD2⟩ := va_join (wr := (wd_20b67a68 h1 g0 f20 h3 g2 fn166 h4 g3 fn165)) (w1 := (wd_5013416a h0 v0 r0 v1 v2 v3 v4 r1 r2 r3 r4 r5 r6 r7 v5 v6 r8 r9 r10 r11 v7 h1 r12 v8 v9 h2 r13 v10 v11 r14 v12 v13 r15 v14 w15 r16 x176 x177 h3 h4 r17 r18 r19 r20 v18 r21 r22 r23 v19 h2 g1 f21)) hP hD [0, 2] [1, 3, 4] rfl rfl (by decide) (by decide) hk1 hFc hP1 hD1
                      clear hP hD hPc hDc hKc hFc hP1 hK1 hD1 hk1 hz1
                      generalize H1 = H at hP2 hS ⊢
                      have hP := hP2.sub (ws' := (wd_90cd99f9 h0 v0 r0 v1 v2 v3 v4 r1 r2 r3 r4 r5 r6 r7 v5 v6 r8 r9 r10 r11 v7 h1 r12 v8 v9 h2 r13 v10 v11 r14 v12 v13 r15 v14 w15 r16 x176 x177 h3 h4 r17 r18 r19 r20 v18 r21 r22 r23 v19 h1 g0 f20 h2 g1 f21 h3 g2 fn166 h4 g3 fn165)) [3, 0, 4, 1, 2] rfl
                      have hD := hD2.sub (ws' := (wd_90cd99f9 h0 v0 r0 v1 v2 v3 v4 r1 r2 r3 r4 r5 r6 r7 v5 v6 r8 r9 r10 r11 v7 h1 r12 v8 v9 h2 r13 v10 v11 r14 v12 v13 r15 v14 w15 r16 x176 x177 h3 h4 r17 r18 r19 r20 v18 r21 r22 r23 v19 h1 g0 f20 h2 g1 f21 h3 g2 fn166 h4 g3 fn165)) [3, 0, 4, 1, 2] (by decide) rfl
                      clear hP2 hD2
                      refine lv_isub hx hb dX12_tryShelf_200 ?_
                      refine lv_topi (fun t180 et180 => ?_)
                      refine va_iast hx hb hK hP hD hS 4 3 rfl rfl (vp_in_iff.mpr ⟨by omega, by omega⟩) dX12_tryShelf_201 (fun H locs hP hD hS => ?_)
                      obtain ⟨fn181, efn181⟩ : ∃ g : Nat → Int32, g = upd fn165 (Int32.toNatClampNeg x115) t180 := ⟨_, rfl⟩
                      rw [← efn181] at hP hD
                      have hP : va_P (dC, dI) vwCl (wd_90cd99f9 h0 v0 r0 v1 v2 v3 v4 r1 r2 r3 r4 r5 r6 r7 v5 v6 r8 r9 r10 r11 v7 h1 r12 v8 v9 h2 r13 v10 v11 r14 v12 v13 r15 v14 w15 r16 x176 x177 h3 h4 r17 r18 r19 r20 v18 r21 r22 r23 v19 h1 g0 f20 h2 g1 f21 h3 g2 fn166 h4 g3 fn181) H := hP
                      have hD : va_D A (wd_90cd99f9 h0 v0 r0 v1 v2 v3 v4 r1 r2 r3 r4 r5 r6 r7 v5 v6 r8 r9 r10 r11 v7 h1 r12 v8 v9 h2 r13 v10 v11 r14 v12 v13 r15 v14 w15 r16 x176 x177 h3 h4 r17 r18 r19 r20 v18 r21 r22 r23 v19 h1 g0 f20 h2 g1 f21 h3 g2 fn166 h4 g3 fn181) := hD
                      exact hJ131 x176 x177 fn166 fn181 H locs ls hP hD hS (lv_sub hl [0, 1, 2, 3, 4, 5, 6] rfl)
                    refine lv_icmp_ne (tgt := 179) hx hb dX12_tryShelf_172 (by decide) (fun c182 => ?_) (fun c182 => ?_)
                    · skip
                      have fc182 : ¬ (t170.toInt = ra171.toInt) := fun h9 => c182 (Int32.toInt_inj.mp h9)
                      have r1c182 := Int32.toInt_lt t170
                      have r2c182 := Int32.toInt_lt ra171
                      have r3c182 := Int32.le_toInt t170
                      have r4c182 := Int32.le_toInt ra171
                      refine lv_iconst (v := 0) hx hb dX12_tryShelf_179 (by decide) ?_
                      exact hJ173 0 H locs ls (by decide) (by decide) hP hD hS (lv_sub hl [0, 1, 2, 3, 4, 5, 6] rfl)
                    · skip
                      have fc182 : t170.toInt = ra171.toInt := congrArg Int32.toInt c182
                      have r1c182 := Int32.toInt_lt t170
                      have r2c182 := Int32.toInt_lt ra171
                      have r3c182 := Int32.le_toInt t170
                      have r4c182 := Int32.le_toInt ra171
                      refine lv_iconst (v := 1) hx hb dX12_tryShelf_175 (by decide) ?_
                      refine lv_goto (tgt := 180) hx hb dX12_tryShelf_176 (by decide) ?_
                      exact hJ173 1 H locs ls (by decide) (by decide) hP hD hS (lv_sub hl [0, 1, 2, 3, 4, 5, 6] rfl)
          exact hL125 _ 0 v16 v17 f22 f23 H locs ls (by decide) (by decide) (Nat.lt_succ_self _) hP hD hS (lv_sub hl [0, 1, 2, 3, 4, 5, 6] rfl)
        refine lv_if_eq (tgt := 68) hx hb dX12_tryShelf_56 (by decide) (fun c183 => ?_) (fun c183 => ?_)
        · skip
          have fc183 : v26.toInt = 0 := congrArg Int32.toInt c183
          refine lv_bipush (v := 8) hx hb dX12_tryShelf_68 (by decide) ?_
          exact hJ99 8 H locs ls (by decide) (by decide) hP hD hS (lv_sub hl [0, 1, 2, 3, 4] rfl)
        · skip
          have fc183 : ¬ (v26.toInt = 0) := fun h9 => c183 (Int32.toInt_inj.mp h9)
          refine lv_aload_n hx hb dX12_tryShelf_59 rfl (lv_at hl 0 rfl) ?_
          refine va_get (D := (dC, dI)) (ci := 12) (v := .ref h1) (C := RX12) (T := TX12) (N := 48) hx hb hts (fun _ h => List.mem_cons_of_mem _ (List.mem_append_right _ h)) hown hK hP 0 rfl rfl 20 (by decide) (hts (.fieldLink RX12 46 "LeftArgumentsModel" "rule" "[I") (List.mem_cons_of_mem _ (List.mem_append_left _ (List.mem_of_getElem? (i := 37) rfl)))) (fun _ h9 => h9) rfl dX12_tryShelf_60 ?_
          refine lv_iconst (v := 1) hx hb dX12_tryShelf_63 (by decide) ?_
          refine va_iald hx hb hK hP 1 0 rfl rfl (pv_c (x := 1) (n := 4) (by decide)) dX12_tryShelf_64 ?_
          refine lv_topi (fun t184 et184 => ?_)
          have gat184 : 0 ≤ t184.toInt ∧ t184.toInt ≤ 5 := by rw [et184]; exact ia_f20.1
          refine lv_goto (tgt := 70) hx hb dX12_tryShelf_65 (by decide) ?_
          exact hJ99 t184 H locs ls (by first | omega | decide) (by first | omega | decide) hP hD hS (lv_sub hl [0, 1, 2, 3, 4] rfl)
      · skip
        have fc97 : ra96.toInt = 0 := congrArg Int32.toInt c97
        have q0wra96 := wra96 (by omega)
        refine lv_aload_n hx hb dX12_tryShelf_42 rfl (lv_at hl 0 rfl) ?_
        refine lv_iload_n hx hb dX12_tryShelf_43 rfl (lv_at hl 1 rfl) ?_
        refine lv_iconst (v := 1) hx hb dX12_tryShelf_44 (by decide) ?_
        refine lv_iadd hx hb dX12_tryShelf_45 ?_
        refine lv_topi (fun tv185 etv185 => ?_)
        obtain rfl : tv185 = (8 : Int32) := etv185.trans (by first | rfl | decide)
        refine lv_iload_n hx hb dX12_tryShelf_46 rfl (lv_at hl 2 rfl) ?_
        refine lv_iload_n hx hb dX12_tryShelf_47 rfl (lv_at hl 3 rfl) ?_
        refine lv_iload hx hb dX12_tryShelf_48 (lv_at hl 4 rfl) ?_
        have hPc := hP.sub (ws' := (wd_171f232f h0 v0 r0 v1 v2 v3 v4 r1 r2 r3 r4 r5 r6 r7 v5 v6 r8 r9 r10 r11 v7 h1 r12 v8 v9 h2 r13 v10 v11 r14 v12 v13 r15 v14 w15 r16 v16 v17 h3 h4 r17 r18 r19 r20 v18 r21 r22 r23 v19)) [0] rfl
        have hDc := hD.sub (ws' := (wd_171f232f h0 v0 r0 v1 v2 v3 v4 r1 r2 r3 r4 r5 r6 r7 v5 v6 r8 r9 r10 r11 v7 h1 r12 v8 v9 h2 r13 v10 v11 r14 v12 v13 r15 v14 w15 r16 v16 v17 h3 h4 r17 r18 r19 r20 v18 r21 r22 r23 v19)) [0] (by decide) rfl
        have hKc := hK.sub (tys' := []) [] rfl
        have hFc := va_free (wc := (wd_171f232f h0 v0 r0 v1 v2 v3 v4 r1 r2 r3 r4 r5 r6 r7 v5 v6 r8 r9 r10 r11 v7 h1 r12 v8 v9 h2 r13 v10 v11 r14 v12 v13 r15 v14 w15 r16 v16 v17 h3 h4 r17 r18 r19 r20 v18 r21 r22 r23 v19)) hD hS hA [0] rfl
        refine va_callv (va_runV (As := [.int 8, .int v24, .int v25, .int v26]) (rest := []) ⟨hx, hb, hml, hown, hts⟩ (k_X12_tryShelf l dC dI h0 v0 r0 v1 v2 v3 v4 r1 r2 r3 r4 r5 r6 r7 v5 v6 r8 r9 r10 r11 v7 h1 r12 v8 v9 h2 r13 v10 v11 r14 v12 v13 r15 v14 w15 r16 v16 v17 h3 h4 r17 r18 r19 r20 v18 r21 r22 r23 v19 v24 v25 v26 ⟨i_v1a, i_v1b⟩ ⟨i_v5a, i_v5b⟩ ⟨i_v6a, i_v6b⟩ ⟨i_v7a, i_v7b⟩ ⟨i_v8a, i_v8b⟩ ⟨i_v9a, i_v9b⟩ ⟨i_v10a, i_v10b⟩ ⟨i_v14a, i_v14b⟩ ⟨i_v18a, i_v18b⟩ ⟨i_v19a, i_v19b⟩ ⟨i_v26a, i_v26b⟩ H.size) (cwV 4 hts g_X12_tryShelf_1_4 rfl rfl rfl (by decide +kernel) ⟨Nat.le_of_ble_eq_true rfl, Nat.le_of_ble_eq_true rfl⟩) (pv_PV12 hPc hKc hDc (q0 := 0) rfl) rfl rfl hl.1 rfl (lv_room (Nat.le_of_ble_eq_true rfl)) dX12_tryShelf_50 ⟨Nat.le_of_ble_eq_true rfl, Nat.le_of_ble_eq_true rfl⟩) hS (fun q _ h => hFc q h) hFc (fun u t H1 locs ht hvm hwra186 hB hz1 hk1 hS => ?_)
        obtain ⟨x187, x188, hP1, hK1, hD1⟩ := hB
        rw [ht] at hP1
        obtain ⟨hP2, hD2⟩ := va_join (wr := (wd_fd33bfec h1 g0 f20 h2 g1 f21 h3 g2 f22 h4 g3 f23)) (w1 := (wd_171f232f h0 v0 r0 v1 v2 v3 v4 r1 r2 r3 r4 r5 r6 r7 v5 v6 r8 r9 r10 r11 v7 h1 r12 v8 v9 h2 r13 v10 v11 r14 v12 v13 r15 v14 w15 r16 x187 x188 h3 h4 r17 r18 r19 r20 v18 r21 r22 r23 v19)) hP hD [0] [1, 2, 3, 4] rfl rfl (by decide) (by decide) hk1 hFc hP1 hD1
        clear hP hD hPc hDc hKc hFc hP1 hK1 hD1 hk1 hz1
        generalize H1 = H at hP2 hS ⊢
        have hP := hP2.sub (ws' := (wd_90cd99f9 h0 v0 r0 v1 v2 v3 v4 r1 r2 r3 r4 r5 r6 r7 v5 v6 r8 r9 r10 r11 v7 h1 r12 v8 v9 h2 r13 v10 v11 r14 v12 v13 r15 v14 w15 r16 x187 x188 h3 h4 r17 r18 r19 r20 v18 r21 r22 r23 v19 h1 g0 f20 h2 g1 f21 h3 g2 f22 h4 g3 f23)) [4, 0, 1, 2, 3] rfl
        have hD := hD2.sub (ws' := (wd_90cd99f9 h0 v0 r0 v1 v2 v3 v4 r1 r2 r3 r4 r5 r6 r7 v5 v6 r8 r9 r10 r11 v7 h1 r12 v8 v9 h2 r13 v10 v11 r14 v12 v13 r15 v14 w15 r16 x187 x188 h3 h4 r17 r18 r19 r20 v18 r21 r22 r23 v19 h1 g0 f20 h2 g1 f21 h3 g2 f22 h4 g3 f23)) [4, 0, 1, 2, 3] (by decide) rfl
        clear hP2 hD2
        subst hQ
        have hP9 := hP.sub (ws' := (wd_90cd99f9 h0 v0 r0 v1 v2 v3 v4 r1 r2 r3 r4 r5 r6 r7 v5 v6 r8 r9 r10 r11 v7 h1 r12 v8 v9 h2 r13 v10 v11 r14 v12 v13 r15 v14 w15 r16 x187 x188 h3 h4 r17 r18 r19 r20 v18 r21 r22 r23 v19 h1 g0 f20 h2 g1 f21 h3 g2 f22 h4 g3 f23)) [0, 1, 2, 3, 4] rfl
        have hD9 := hD.sub (ws' := (wd_90cd99f9 h0 v0 r0 v1 v2 v3 v4 r1 r2 r3 r4 r5 r6 r7 v5 v6 r8 r9 r10 r11 v7 h1 r12 v8 v9 h2 r13 v10 v11 r14 v12 v13 r15 v14 w15 r16 x187 x188 h3 h4 r17 r18 r19 r20 v18 r21 r22 r23 v19 h1 g0 f20 h2 g1 f21 h3 g2 f22 h4 g3 f23)) [0, 1, 2, 3, 4] (by decide) rfl
        have hK9 := hK.sub (tys' := []) [] rfl
        exact W.vret hx hb hr (fun t ht hW => ⟨⟨(), rfl, trivial, ⟨x187, x188, f22, f23, by rw [ht]; exact hP9, va_K.moved hW.alike hK9, hD9⟩⟩, hS.F ht⟩) hS.2.2 dX12_tryShelf_53
    · skip
      have fc95 : ¬ (v25.toInt < v17.toInt) := fun h9 => c95 (Int32.lt_iff_toInt_lt.mpr h9)
      have r1c95 := Int32.toInt_lt v25
      have r2c95 := Int32.toInt_lt v17
      have r3c95 := Int32.le_toInt v25
      have r4c95 := Int32.le_toInt v17
      subst hQ
      have hP9 := hP.sub (ws' := (wd_90cd99f9 h0 v0 r0 v1 v2 v3 v4 r1 r2 r3 r4 r5 r6 r7 v5 v6 r8 r9 r10 r11 v7 h1 r12 v8 v9 h2 r13 v10 v11 r14 v12 v13 r15 v14 w15 r16 v16 v17 h3 h4 r17 r18 r19 r20 v18 r21 r22 r23 v19 h1 g0 f20 h2 g1 f21 h3 g2 f22 h4 g3 f23)) [0, 1, 2, 3, 4] rfl
      have hD9 := hD.sub (ws' := (wd_90cd99f9 h0 v0 r0 v1 v2 v3 v4 r1 r2 r3 r4 r5 r6 r7 v5 v6 r8 r9 r10 r11 v7 h1 r12 v8 v9 h2 r13 v10 v11 r14 v12 v13 r15 v14 w15 r16 v16 v17 h3 h4 r17 r18 r19 r20 v18 r21 r22 r23 v19 h1 g0 f20 h2 g1 f21 h3 g2 f22 h4 g3 f23)) [0, 1, 2, 3, 4] (by decide) rfl
      have hK9 := hK.sub (tys' := []) [] rfl
      exact W.vret hx hb hr (fun t ht hW => ⟨⟨(), rfl, trivial, ⟨v16, v17, f22, f23, by rw [ht]; exact hP9, va_K.moved hW.alike hK9, hD9⟩⟩, hS.F ht⟩) hS.2.2 dX12_tryShelf_16
def q_X12_tryShelf_2 : List Cond := .code yX12_tryShelf cX12_tryShelf 7 none :: (([.fieldLink RX12 388 "LeftArgumentsModel" "bestRow" "I", .code yX12_isThere cX12_isThere 2 (some .boolean), .code yX12_in cX12_in 3 (some .boolean), .initialized RX12, .static yX12_in, .methodLink RX12 217 yX12_in, .code yX12_of cX12_of 3 (some .int), .fieldLink RX12 52 "LeftArgumentsModel" "now" "[I", .instanceMethod yX12_of, .selects RX12 yX12_of yX12_of, .methodLink RX12 287 yX12_of, .instanceMethod yX12_isThere, .selects RX12 yX12_isThere yX12_isThere, .methodLink RX12 290 yX12_isThere, .code yX12_isCalm cX12_isCalm 4 (some .boolean), .fieldLink RX12 74 "LeftArgumentsModel" "onShelf" "[I", .code yX12_setsOff cX12_setsOff 3 (some .boolean), .methodLink RX12 411 Lib.Math.abs.name, .static Lib.Math.abs.name, .initialized "java/lang/Math", .code Lib.Math.abs.name Lib.Math.abs.code 1 (some .int), .code yX12_stubbornOf cX12_stubbornOf 2 (some .int), .instanceMethod yX12_stubbornOf, .selects RX12 yX12_stubbornOf yX12_stubbornOf, .methodLink RX12 414 yX12_stubbornOf, .instanceMethod yX12_setsOff, .selects RX12 yX12_setsOff yX12_setsOff, .methodLink RX12 401 yX12_setsOff, .instanceMethod yX12_isCalm, .selects RX12 yX12_isCalm yX12_isCalm, .methodLink RX12 398 yX12_isCalm, .fieldLink RX12 77 "LeftArgumentsModel" "room" "[I", .code yX12_tryShelf cX12_tryShelf 7 none, .fieldLink RX12 391 "LeftArgumentsModel" "bestMany" "I", .instanceMethod yX12_tryShelf, .selects RX12 yX12_tryShelf yX12_tryShelf, .methodLink RX12 394 yX12_tryShelf, .fieldLink RX12 46 "LeftArgumentsModel" "rule" "[I"] : List Cond) ++ wsX120)
set_option maxRecDepth 20000 in
theorem g_X12_tryShelf_2_0 : GoodIn q_X12_tryShelf_2 (wsV RX12 290 RX12 yX12_isThere q_X12_isThere) := goodIn_app (goodIn_r _ [14, 12, 13, 4] rfl (by decide +kernel)) (goodIn_ca (goodIn_r (.code yX12_isThere cX12_isThere 2 (some .boolean) :: [.code yX12_in cX12_in 3 (some .boolean), .initialized RX12, .static yX12_in, .methodLink RX12 217 yX12_in, .code yX12_of cX12_of 3 (some .int), .fieldLink RX12 52 "LeftArgumentsModel" "now" "[I", .instanceMethod yX12_of, .selects RX12 yX12_of yX12_of, .methodLink RX12 287 yX12_of]) [2, 3, 4, 5, 6, 7, 8, 9, 10, 11] rfl (by decide +kernel)) (goodIn_sub (fun _ h => List.mem_cons_of_mem _ (List.mem_append_right _ h)) gwX12))
set_option maxRecDepth 20000 in
theorem g_X12_tryShelf_2_1 : GoodIn q_X12_tryShelf_2 (wsV RX12 398 RX12 yX12_isCalm q_X12_isCalm) := goodIn_app (goodIn_r _ [31, 29, 30, 4] rfl (by decide +kernel)) (goodIn_ca (goodIn_r (.code yX12_isCalm cX12_isCalm 4 (some .boolean) :: [.code yX12_isThere cX12_isThere 2 (some .boolean), .code yX12_in cX12_in 3 (some .boolean), .initialized RX12, .static yX12_in, .methodLink RX12 217 yX12_in, .code yX12_of cX12_of 3 (some .int), .fieldLink RX12 52 "LeftArgumentsModel" "now" "[I", .instanceMethod yX12_of, .selects RX12 yX12_of yX12_of, .methodLink RX12 287 yX12_of, .instanceMethod yX12_isThere, .selects RX12 yX12_isThere yX12_isThere, .methodLink RX12 290 yX12_isThere, .fieldLink RX12 74 "LeftArgumentsModel" "onShelf" "[I", .code yX12_setsOff cX12_setsOff 3 (some .boolean), .methodLink RX12 411 Lib.Math.abs.name, .static Lib.Math.abs.name, .initialized "java/lang/Math", .code Lib.Math.abs.name Lib.Math.abs.code 1 (some .int), .code yX12_stubbornOf cX12_stubbornOf 2 (some .int), .instanceMethod yX12_stubbornOf, .selects RX12 yX12_stubbornOf yX12_stubbornOf, .methodLink RX12 414 yX12_stubbornOf, .instanceMethod yX12_setsOff, .selects RX12 yX12_setsOff yX12_setsOff, .methodLink RX12 401 yX12_setsOff]) [15, 2, 3, 4, 5, 6, 7, 8, 9, 10, 11, 12, 13, 14, 16, 17, 18, 19, 20, 21, 22, 23, 24, 25, 26, 27, 28] rfl (by decide +kernel)) (goodIn_sub (fun _ h => List.mem_cons_of_mem _ (List.mem_append_right _ h)) gwX12))
set_option maxRecDepth 20000 in
theorem g_X12_tryShelf_2_2 : GoodIn q_X12_tryShelf_2 (wsV RX12 287 RX12 yX12_of q_X12_of_3) := goodIn_app (goodIn_r _ [11, 9, 10, 4] rfl (by decide +kernel)) (goodIn_ca (goodIn_r (.code yX12_of cX12_of 3 (some .int) :: [.fieldLink RX12 52 "LeftArgumentsModel" "now" "[I"]) [7, 8] rfl (by decide +kernel)) (goodIn_sub (fun _ h => List.mem_cons_of_mem _ (List.mem_append_right _ h)) gwX12))
set_option maxRecDepth 20000 in
theorem g_X12_tryShelf_2_4 : GoodIn q_X12_tryShelf_2 (wsV RX12 394 RX12 yX12_tryShelf q_X12_tryShelf_1) := goodIn_app (goodIn_r _ [37, 35, 36, 4] rfl (by decide +kernel)) (goodIn_ca (goodIn_r (.code yX12_tryShelf cX12_tryShelf 7 none :: [.fieldLink RX12 388 "LeftArgumentsModel" "bestRow" "I", .code yX12_isThere cX12_isThere 2 (some .boolean), .code yX12_in cX12_in 3 (some .boolean), .initialized RX12, .static yX12_in, .methodLink RX12 217 yX12_in, .code yX12_of cX12_of 3 (some .int), .fieldLink RX12 52 "LeftArgumentsModel" "now" "[I", .instanceMethod yX12_of, .selects RX12 yX12_of yX12_of, .methodLink RX12 287 yX12_of, .instanceMethod yX12_isThere, .selects RX12 yX12_isThere yX12_isThere, .methodLink RX12 290 yX12_isThere, .code yX12_isCalm cX12_isCalm 4 (some .boolean), .fieldLink RX12 74 "LeftArgumentsModel" "onShelf" "[I", .code yX12_setsOff cX12_setsOff 3 (some .boolean), .methodLink RX12 411 Lib.Math.abs.name, .static Lib.Math.abs.name, .initialized "java/lang/Math", .code Lib.Math.abs.name Lib.Math.abs.code 1 (some .int), .code yX12_stubbornOf cX12_stubbornOf 2 (some .int), .instanceMethod yX12_stubbornOf, .selects RX12 yX12_stubbornOf yX12_stubbornOf, .methodLink RX12 414 yX12_stubbornOf, .instanceMethod yX12_setsOff, .selects RX12 yX12_setsOff yX12_setsOff, .methodLink RX12 401 yX12_setsOff, .instanceMethod yX12_isCalm, .selects RX12 yX12_isCalm yX12_isCalm, .methodLink RX12 398 yX12_isCalm, .fieldLink RX12 77 "LeftArgumentsModel" "room" "[I", .code yX12_tryShelf cX12_tryShelf 7 none, .fieldLink RX12 391 "LeftArgumentsModel" "bestMany" "I", .instanceMethod yX12_tryShelf, .selects RX12 yX12_tryShelf yX12_tryShelf, .methodLink RX12 394 yX12_tryShelf, .fieldLink RX12 46 "LeftArgumentsModel" "rule" "[I"]) [33, 1, 2, 3, 4, 5, 6, 7, 8, 9, 10, 11, 12, 13, 14, 15, 16, 17, 18, 19, 20, 21, 22, 23, 24, 25, 26, 27, 28, 29, 30, 31, 32, 33, 34, 35, 36, 37, 38] rfl (by decide +kernel)) (goodIn_sub (fun _ h => List.mem_cons_of_mem _ (List.mem_append_right _ h)) gwX12))
set_option maxHeartbeats 4000000 in
set_option maxRecDepth 100000 in
theorem k_X12_tryShelf_2 (l : Launch) (dC : Nat → ClassId) (dI : Nat → Nat → Nat) (h0 : Nat) (h1 : Nat) (h2 : Nat) (h3 : Nat) (h4 : Nat) (v0 : Int32) (r0 : Nat) (v1 : Int32) (v2 : Int32) (v3 : Int32) (v4 : Int32) (r1 : Nat) (r2 : Nat) (r3 : Nat) (r4 : Nat) (r5 : Nat) (r6 : Nat) (r7 : Nat) (v5 : Int32) (v6 : Int32) (r8 : Nat) (r9 : Nat) (r10 : Nat) (r11 : Nat) (v7 : Int32) (r12 : Nat) (v8 : Int32) (v9 : Int32) (r13 : Nat) (v10 : Int32) (v11 : Int32) (r14 : Nat) (v12 : Int32) (v13 : Int32) (r15 : Nat) (v14 : Int32) (w15 : Int64) (r16 : Nat) (v16 : Int32) (v17 : Int32) (r17 : Nat) (r18 : Nat) (r19 : Nat) (r20 : Nat) (v18 : Int32) (r21 : Nat) (r22 : Nat) (r23 : Nat) (v19 : Int32) (g0 : ClassId) (f20 : Nat → Int32) (g1 : ClassId) (f21 : Nat → Int32) (g2 : ClassId) (f22 : Nat → Int32) (g3 : ClassId) (f23 : Nat → Int32) (v24 : Int32) (v25 : Int32) (v26 : Int32) (i_v1 : 0 ≤ v1.toInt ∧ v1.toInt ≤ 240) (i_v5 : 0 ≤ v5.toInt ∧ v5.toInt ≤ 4) (i_v6 : 0 ≤ v6.toInt ∧ v6.toInt ≤ 4) (i_v7 : 0 ≤ v7.toInt ∧ v7.toInt ≤ 8) (i_v8 : 0 ≤ v8.toInt ∧ v8.toInt ≤ 8) (i_v9 : 0 ≤ v9.toInt ∧ v9.toInt ≤ 1) (i_v10 : -1 ≤ v10.toInt ∧ v10.toInt ≤ 3) (i_v14 : 0 ≤ v14.toInt ∧ v14.toInt ≤ 40) (i_v18 : 0 ≤ v18.toInt ∧ v18.toInt ≤ 10) (i_v19 : 0 ≤ v19.toInt ∧ v19.toInt ≤ 1) (i_v26 : 0 ≤ v26.toInt ∧ v26.toInt ≤ 1) (ia_f20 : (pm_RU f20)) (ia_f21 : (pm_NW f21)) (sz : Nat) : Met l yX12_tryShelf q_X12_tryShelf_2 ({ frames := 5, cells := 0, slots := 0, locals := 114 }) (va_Pc [.ref h0, .int 6, .int v24, .int v25, .int v26] (fun U => U.heap.size = sz ∧ va_P (dC, dI) vwCl (wd_90cd99f9 h0 v0 r0 v1 v2 v3 v4 r1 r2 r3 r4 r5 r6 r7 v5 v6 r8 r9 r10 r11 v7 h1 r12 v8 v9 h2 r13 v10 v11 r14 v12 v13 r15 v14 w15 r16 v16 v17 h3 h4 r17 r18 r19 r20 v18 r21 r22 r23 v19 h1 g0 f20 h2 g1 f21 h3 g2 f22 h4 g3 f23) U.heap ∧ va_K (dC, dI) vwCl [(g0, .int), (g1, .int), (g2, .int), (g3, .int)] U ∧ va_D (fun _ => True) (wd_90cd99f9 h0 v0 r0 v1 v2 v3 v4 r1 r2 r3 r4 r5 r6 r7 v5 v6 r8 r9 r10 r11 v7 h1 r12 v8 v9 h2 r13 v10 v11 r14 v12 v13 r15 v14 w15 r16 v16 v17 h3 h4 r17 r18 r19 r20 v18 r21 r22 r23 v19 h1 g0 f20 h2 g1 f21 h3 g2 f22 h4 g3 f23))) (va_Qv (fun (_ : Unit) => True) (fun (_ : Unit) (t : State) => (∃ (o_h0_35 : Int32) (o_h0_36 : Int32) (o_h3 : Nat → Int32) (o_h4 : Nat → Int32), va_P (dC, dI) vwCl (wd_90cd99f9 h0 v0 r0 v1 v2 v3 v4 r1 r2 r3 r4 r5 r6 r7 v5 v6 r8 r9 r10 r11 v7 h1 r12 v8 v9 h2 r13 v10 v11 r14 v12 v13 r15 v14 w15 r16 o_h0_35 o_h0_36 h3 h4 r17 r18 r19 r20 v18 r21 r22 r23 v19 h1 g0 f20 h2 g1 f21 h3 g2 o_h3 h4 g3 o_h4) t.heap ∧ va_K (dC, dI) vwCl [] t ∧ va_D (va_A (wd_90cd99f9 h0 v0 r0 v1 v2 v3 v4 r1 r2 r3 r4 r5 r6 r7 v5 v6 r8 r9 r10 r11 v7 h1 r12 v8 v9 h2 r13 v10 v11 r14 v12 v13 r15 v14 w15 r16 v16 v17 h3 h4 r17 r18 r19 r20 v18 r21 r22 r23 v19 h1 g0 f20 h2 g1 f21 h3 g2 f22 h4 g3 f23) sz) (wd_90cd99f9 h0 v0 r0 v1 v2 v3 v4 r1 r2 r3 r4 r5 r6 r7 v5 v6 r8 r9 r10 r11 v7 h1 r12 v8 v9 h2 r13 v10 v11 r14 v12 v13 r15 v14 w15 r16 o_h0_35 o_h0_36 h3 h4 r17 r18 r19 r20 v18 r21 r22 r23 v19 h1 g0 f20 h2 g1 f21 h3 g2 o_h3 h4 g3 o_h4))) (va_A (wd_90cd99f9 h0 v0 r0 v1 v2 v3 v4 r1 r2 r3 r4 r5 r6 r7 v5 v6 r8 r9 r10 r11 v7 h1 r12 v8 v9 h2 r13 v10 v11 r14 v12 v13 r15 v14 w15 r16 v16 v17 h3 h4 r17 r18 r19 r20 v18 r21 r22 r23 v19 h1 g0 f20 h2 g1 f21 h3 g2 f22 h4 g3 f23) sz)) 0 0 (va_A (wd_90cd99f9 h0 v0 r0 v1 v2 v3 v4 r1 r2 r3 r4 r5 r6 r7 v5 v6 r8 r9 r10 r11 v7 h1 r12 v8 v9 h2 r13 v10 v11 r14 v12 v13 r15 v14 w15 r16 v16 v17 h3 h4 r17 r18 r19 r20 v18 r21 r22 r23 v19 h1 g0 f20 h2 g1 f21 h3 g2 f22 h4 g3 f23) sz) := by
  refine Met.ofW (cc := cX12_tryShelf) (maxL := 7) (ret := none) (by decide) rfl ?_
  intro p e s m args below meth c s₁ B hml hv
  obtain ⟨i_v1a, i_v1b⟩ := i_v1
  obtain ⟨i_v5a, i_v5b⟩ := i_v5
  obtain ⟨i_v6a, i_v6b⟩ := i_v6
  obtain ⟨i_v7a, i_v7b⟩ := i_v7
  obtain ⟨i_v8a, i_v8b⟩ := i_v8
  obtain ⟨i_v9a, i_v9b⟩ := i_v9
  obtain ⟨i_v10a, i_v10b⟩ := i_v10
  obtain ⟨i_v14a, i_v14b⟩ := i_v14
  obtain ⟨i_v18a, i_v18b⟩ := i_v18
  obtain ⟨i_v19a, i_v19b⟩ := i_v19
  obtain ⟨i_v26a, i_v26b⟩ := i_v26
  obtain ⟨rfl, hsz, hP, hK, hD0⟩ := hv
  have hx := B.exec
  have hb := B.bytes
  have hr := B.returns
  have hts := atoms_spec (ws := q_X12_tryShelf_2) B.pre
  have hown : s.vm.findClass RX12 = some m.cls := findClass_of_methodNamed B.named
  have hlocks := B.notSynchronized
  subst hsz
  have hD := hD0.self (sz := s.heap.size)
  generalize hAe : va_A (wd_90cd99f9 h0 v0 r0 v1 v2 v3 v4 r1 r2 r3 r4 r5 r6 r7 v5 v6 r8 r9 r10 r11 v7 h1 r12 v8 v9 h2 r13 v10 v11 r14 v12 v13 r15 v14 w15 r16 v16 v17 h3 h4 r17 r18 r19 r20 v18 r21 r22 r23 v19 h1 g0 f20 h2 g1 f21 h3 g2 f22 h4 g3 f23) s.heap.size = A at hD ⊢
  have hA : ∀ q : Nat, s.heap.size ≤ q → A q := fun q h => by rw [← hAe]; exact Or.inr h
  have hS : va_S A s.heap s.heap [] := va_S.rf
  generalize hQ : (MQ below _ _ s 0 0 A) = Q
  have hl := lv_entry ([.ref h0, .int 6, .int v24, .int v25, .int v26]) (n := 7) (Nat.le_of_ble_eq_true rfl)
  rw [lg_entry_eq]
  generalize (lg_sl ([.ref h0, .int 6, .int v24, .int v25, .int v26]) ++ List.replicate (7 - (lg_sl ([.ref h0, .int 6, .int v24, .int v25, .int v26])).length) Slot.unset).toArray = ls at hl ⊢
  have hl : lv_has ls 7 [(0, .ref h0), (1, .int 6), (2, .int v24), (3, .int v25), (4, .int v26)] := hl
  obtain ⟨H, hH⟩ : ∃ H : Heap, H = s.heap := ⟨_, rfl⟩
  obtain ⟨locs, hlocs⟩ : ∃ y : List Loc, y = [] := ⟨_, rfl⟩
  have hS : va_S A s.heap H locs := by rw [hH, hlocs]; exact va_S.rf
  have hP : va_P (dC, dI) vwCl (wd_90cd99f9 h0 v0 r0 v1 v2 v3 v4 r1 r2 r3 r4 r5 r6 r7 v5 v6 r8 r9 r10 r11 v7 h1 r12 v8 v9 h2 r13 v10 v11 r14 v12 v13 r15 v14 w15 r16 v16 v17 h3 h4 r17 r18 r19 r20 v18 r21 r22 r23 v19 h1 g0 f20 h2 g1 f21 h3 g2 f22 h4 g3 f23) H := by rw [hH]; exact hP
  rw [← hH, ← hlocs]
  refine lv_aload_n hx hb dX12_tryShelf_0 rfl (lv_at hl 0 rfl) ?_
  refine va_get (D := (dC, dI)) (ci := 12) (v := .int v16) (C := RX12) (T := TX12) (N := 48) hx hb hts (fun _ h => List.mem_cons_of_mem _ (List.mem_append_right _ h)) hown hK hP 0 rfl rfl 35 (by decide) (hts (.fieldLink RX12 388 "LeftArgumentsModel" "bestRow" "I") (List.mem_cons_of_mem _ (List.mem_append_left _ (List.mem_of_getElem? (i := 0) rfl)))) (fun _ h9 => h9) rfl dX12_tryShelf_1 ?_
  refine lv_iconst (v := (-1)) hx hb dX12_tryShelf_4 (by decide) ?_
  refine lv_icmp_eq (tgt := 17) hx hb dX12_tryShelf_5 (by decide) (fun c1 => ?_) (fun c1 => ?_)
  · skip
    have fc1 : v16.toInt = (-1) := congrArg Int32.toInt c1
    refine lv_iload_n hx hb dX12_tryShelf_17 rfl (lv_at hl 1 rfl) ?_
    refine lv_bipush (v := 8) hx hb dX12_tryShelf_18 (by decide) ?_
    refine lv_icmp_ne (tgt := 34) hx hb dX12_tryShelf_20 (by decide) (fun _ => ?_) (fun c => absurd c (by decide))
    refine lv_aload_n hx hb dX12_tryShelf_34 rfl (lv_at hl 0 rfl) ?_
    refine lv_iload_n hx hb dX12_tryShelf_35 rfl (lv_at hl 1 rfl) ?_
    have hPc := hP.sub (ws' := (wd_5013416a h0 v0 r0 v1 v2 v3 v4 r1 r2 r3 r4 r5 r6 r7 v5 v6 r8 r9 r10 r11 v7 h1 r12 v8 v9 h2 r13 v10 v11 r14 v12 v13 r15 v14 w15 r16 v16 v17 h3 h4 r17 r18 r19 r20 v18 r21 r22 r23 v19 h2 g1 f21)) [0, 2] rfl
    have hDc := hD.sub (ws' := (wd_5013416a h0 v0 r0 v1 v2 v3 v4 r1 r2 r3 r4 r5 r6 r7 v5 v6 r8 r9 r10 r11 v7 h1 r12 v8 v9 h2 r13 v10 v11 r14 v12 v13 r15 v14 w15 r16 v16 v17 h3 h4 r17 r18 r19 r20 v18 r21 r22 r23 v19 h2 g1 f21)) [0, 2] (by decide) rfl
    have hKc := hK.sub (tys' := [(g1, .int)]) [1] rfl
    have hFc := va_free (wc := (wd_5013416a h0 v0 r0 v1 v2 v3 v4 r1 r2 r3 r4 r5 r6 r7 v5 v6 r8 r9 r10 r11 v7 h1 r12 v8 v9 h2 r13 v10 v11 r14 v12 v13 r15 v14 w15 r16 v16 v17 h3 h4 r17 r18 r19 r20 v18 r21 r22 r23 v19 h2 g1 f21)) hD hS hA [0, 2] rfl
    refine va_calli (va_runV (As := [.int 6]) (rest := []) ⟨hx, hb, hml, hown, hts⟩ (k_X12_isThere l dC dI h0 h2 v0 r0 v1 v2 v3 v4 r1 r2 r3 r4 r5 r6 r7 v5 v6 r8 r9 r10 r11 v7 h1 r12 v8 v9 r13 v10 v11 r14 v12 v13 r15 v14 w15 r16 v16 v17 h3 h4 r17 r18 r19 r20 v18 r21 r22 r23 v19 g1 f21 6 ⟨i_v1a, i_v1b⟩ ⟨i_v5a, i_v5b⟩ ⟨i_v6a, i_v6b⟩ ⟨i_v7a, i_v7b⟩ ⟨i_v8a, i_v8b⟩ ⟨i_v9a, i_v9b⟩ ⟨i_v10a, i_v10b⟩ ⟨i_v14a, i_v14b⟩ ⟨i_v18a, i_v18b⟩ ⟨i_v19a, i_v19b⟩ ia_f21.1 H.size) (cwV 1 hts g_X12_tryShelf_2_0 rfl rfl rfl (by decide +kernel) ⟨Nat.le_of_ble_eq_true rfl, Nat.le_of_ble_eq_true rfl⟩) (pv_PV12 hPc hKc hDc (q0 := 0) rfl) rfl rfl hl.1 rfl (lv_room (Nat.le_of_ble_eq_true rfl)) dX12_tryShelf_36 ⟨Nat.le_of_ble_eq_true rfl, Nat.le_of_ble_eq_true rfl⟩) hS (fun q _ h => hFc q h) hFc (fun ra2 u t H1 locs ht hvm hwra2 hB hz1 hk1 hS => ?_)
    try rw [hwra2] at hB
    have hkra2_0 : ((6 : Int32)).toInt = 6 := by decide
    obtain ⟨pt0_ra2, pt1_ra2, pt2_ra2, pt3_ra2, pt4_ra2, pt5_ra2, hP1, hK1, hD1⟩ := hB
    rw [ht] at hP1
    obtain ⟨hP2, hD2⟩ := va_join (wr := (wd_20b67a68 h1 g0 f20 h3 g2 f22 h4 g3 f23)) (w1 := (wd_5013416a h0 v0 r0 v1 v2 v3 v4 r1 r2 r3 r4 r5 r6 r7 v5 v6 r8 r9 r10 r11 v7 h1 r12 v8 v9 h2 r13 v10 v11 r14 v12 v13 r15 v14 w15 r16 v16 v17 h3 h4 r17 r18 r19 r20 v18 r21 r22 r23 v19 h2 g1 f21)) hP hD [0, 2] [1, 3, 4] rfl rfl (by decide) (by decide) hk1 hFc hP1 hD1
    clear hP hD hPc hDc hKc hFc hP1 hK1 hD1 hk1 hz1
    generalize H1 = H at hP2 hS ⊢
    have hP := hP2.sub (ws' := (wd_90cd99f9 h0 v0 r0 v1 v2 v3 v4 r1 r2 r3 r4 r5 r6 r7 v5 v6 r8 r9 r10 r11 v7 h1 r12 v8 v9 h2 r13 v10 v11 r14 v12 v13 r15 v14 w15 r16 v16 v17 h3 h4 r17 r18 r19 r20 v18 r21 r22 r23 v19 h1 g0 f20 h2 g1 f21 h3 g2 f22 h4 g3 f23)) [3, 0, 4, 1, 2] rfl
    have hD := hD2.sub (ws' := (wd_90cd99f9 h0 v0 r0 v1 v2 v3 v4 r1 r2 r3 r4 r5 r6 r7 v5 v6 r8 r9 r10 r11 v7 h1 r12 v8 v9 h2 r13 v10 v11 r14 v12 v13 r15 v14 w15 r16 v16 v17 h3 h4 r17 r18 r19 r20 v18 r21 r22 r23 v19 h1 g0 f20 h2 g1 f21 h3 g2 f22 h4 g3 f23)) [3, 0, 4, 1, 2] (by decide) rfl
    clear hP2 hD2
    have wra2 : ra2.toInt = 0 → ¬ f21 (pm_I 6 7) = 1 := fun h9 => pt5_ra2 h9 (by omega) (by omega)
    refine lv_if_ne (tgt := 54) hx hb dX12_tryShelf_39 (by decide) (fun c3 => ?_) (fun c3 => ?_)
    · skip
      have fc3 : ¬ (ra2.toInt = 0) := fun h9 => c3 (Int32.toInt_inj.mp h9)
      have q1pt4_ra2 := pt4_ra2 (by omega)
      refine lv_iload hx hb dX12_tryShelf_54 (lv_at hl 4 rfl) ?_
      have hJ5 : ∀ (x4 : Int32) (H : Heap) (locs : List Loc) (ls : Array Slot), 0 ≤ x4.toInt → x4.toInt ≤ 8 → va_P (dC, dI) vwCl (wd_90cd99f9 h0 v0 r0 v1 v2 v3 v4 r1 r2 r3 r4 r5 r6 r7 v5 v6 r8 r9 r10 r11 v7 h1 r12 v8 v9 h2 r13 v10 v11 r14 v12 v13 r15 v14 w15 r16 v16 v17 h3 h4 r17 r18 r19 r20 v18 r21 r22 r23 v19 h1 g0 f20 h2 g1 f21 h3 g2 f22 h4 g3 f23) H → va_D A (wd_90cd99f9 h0 v0 r0 v1 v2 v3 v4 r1 r2 r3 r4 r5 r6 r7 v5 v6 r8 r9 r10 r11 v7 h1 r12 v8 v9 h2 r13 v10 v11 r14 v12 v13 r15 v14 w15 r16 v16 v17 h3 h4 r17 r18 r19 r20 v18 r21 r22 r23 v19 h1 g0 f20 h2 g1 f21 h3 g2 f22 h4 g3 f23) → va_S A s.heap H locs → lv_has ls 7 [(0, .ref h0), (1, .int 6), (2, .int v24), (3, .int v25), (4, .int v26)] → W p l e ({ frames := 5, cells := 0, slots := 0, locals := 114 }) s m ([.ref h0, .int 6, .int v24, .int v25, .int v26] : List Value).toArray below meth c H locs 0 0 Q (F0 m 70 ls [.int x4]) := by
        intro x4 H locs ls qa_x4 qb_x4 hP hD hS hl
        refine lv_istore (lv' := [(5, .int x4), (0, .ref h0), (1, .int 6), (2, .int v24), (3, .int v25), (4, .int v26)]) hx hb dX12_tryShelf_70 hl (by decide) rfl (fun ls hl => ?_)
        refine lv_iconst (v := 0) hx hb dX12_tryShelf_72 (by decide) ?_
        refine lv_istore (lv' := [(6, .int 0), (5, .int x4), (0, .ref h0), (1, .int 6), (2, .int v24), (3, .int v25), (4, .int v26)]) hx hb dX12_tryShelf_73 hl (by decide) rfl (fun ls hl => ?_)
        have hL31 : ∀ (n9 : Nat), ∀ (x21 : Int32) (x22 : Int32) (x23 : Int32) (fn24 : Nat → Int32) (fn25 : Nat → Int32) (H : Heap) (locs : List Loc) (ls : Array Slot), 0 ≤ x21.toInt → x21.toInt ≤ 8 → (8 - x21.toInt).toNat < n9 → va_P (dC, dI) vwCl (wd_90cd99f9 h0 v0 r0 v1 v2 v3 v4 r1 r2 r3 r4 r5 r6 r7 v5 v6 r8 r9 r10 r11 v7 h1 r12 v8 v9 h2 r13 v10 v11 r14 v12 v13 r15 v14 w15 r16 x22 x23 h3 h4 r17 r18 r19 r20 v18 r21 r22 r23 v19 h1 g0 f20 h2 g1 f21 h3 g2 fn24 h4 g3 fn25) H → va_D A (wd_90cd99f9 h0 v0 r0 v1 v2 v3 v4 r1 r2 r3 r4 r5 r6 r7 v5 v6 r8 r9 r10 r11 v7 h1 r12 v8 v9 h2 r13 v10 v11 r14 v12 v13 r15 v14 w15 r16 x22 x23 h3 h4 r17 r18 r19 r20 v18 r21 r22 r23 v19 h1 g0 f20 h2 g1 f21 h3 g2 fn24 h4 g3 fn25) → va_S A s.heap H locs → lv_has ls 7 [(6, .int x21), (5, .int x4), (0, .ref h0), (1, .int 6), (2, .int v24), (3, .int v25), (4, .int v26)] → W p l e ({ frames := 5, cells := 0, slots := 0, locals := 114 }) s m ([.ref h0, .int 6, .int v24, .int v25, .int v26] : List Value).toArray below meth c H locs 0 0 Q (F0 m 75 ls []) := by
          intro n9
          induction n9 with
          | zero => intro x21 x22 x23 fn24 fn25 H locs ls qa_x21 qb_x21 hm9 hP hD hS hl; exact absurd hm9 (Nat.not_lt_zero _)
          | succ n9 ih_hL31 =>
            intro x21 x22 x23 fn24 fn25 H locs ls qa_x21 qb_x21 hm9 hP hD hS hl
            refine lv_iload hx hb dX12_tryShelf_75 (lv_at hl 0 rfl) ?_
            refine lv_iload hx hb dX12_tryShelf_77 (lv_at hl 1 rfl) ?_
            refine lv_icmp_ge (tgt := 208) hx hb dX12_tryShelf_79 (by decide) (fun c32 => ?_) (fun c32 => ?_)
            · skip
              have fc32 : x4.toInt ≤ x21.toInt := Int32.le_iff_toInt_le.mp c32
              have r1c32 := Int32.toInt_lt x21
              have r2c32 := Int32.toInt_lt x4
              have r3c32 := Int32.le_toInt x21
              have r4c32 := Int32.le_toInt x4
              subst hQ
              have hP9 := hP.sub (ws' := (wd_90cd99f9 h0 v0 r0 v1 v2 v3 v4 r1 r2 r3 r4 r5 r6 r7 v5 v6 r8 r9 r10 r11 v7 h1 r12 v8 v9 h2 r13 v10 v11 r14 v12 v13 r15 v14 w15 r16 x22 x23 h3 h4 r17 r18 r19 r20 v18 r21 r22 r23 v19 h1 g0 f20 h2 g1 f21 h3 g2 fn24 h4 g3 fn25)) [0, 1, 2, 3, 4] rfl
              have hD9 := hD.sub (ws' := (wd_90cd99f9 h0 v0 r0 v1 v2 v3 v4 r1 r2 r3 r4 r5 r6 r7 v5 v6 r8 r9 r10 r11 v7 h1 r12 v8 v9 h2 r13 v10 v11 r14 v12 v13 r15 v14 w15 r16 x22 x23 h3 h4 r17 r18 r19 r20 v18 r21 r22 r23 v19 h1 g0 f20 h2 g1 f21 h3 g2 fn24 h4 g3 fn25)) [0, 1, 2, 3, 4] (by decide) rfl
              have hK9 := hK.sub (tys' := []) [] rfl
              exact W.vret hx hb hr (fun t ht hW => ⟨⟨(), rfl, trivial, ⟨x22, x23, fn24, fn25, by rw [ht]; exact hP9, va_K.moved hW.alike hK9, hD9⟩⟩, hS.F ht⟩) hS.2.2 dX12_tryShelf_208
            · skip
              have fc32 : ¬ (x4.toInt ≤ x21.toInt) := fun h9 => c32 (Int32.le_iff_toInt_le.mpr h9)
              have r1c32 := Int32.toInt_lt x21
              have r2c32 := Int32.toInt_lt x4
              have r3c32 := Int32.le_toInt x21
              have r4c32 := Int32.le_toInt x4
              refine lv_iload hx hb dX12_tryShelf_82 (lv_at hl 6 rfl) ?_
              have hJ37 : ∀ (x33 : Int32) (x34 : Int32) (fn35 : Nat → Int32) (fn36 : Nat → Int32) (H : Heap) (locs : List Loc) (ls : Array Slot), va_P (dC, dI) vwCl (wd_90cd99f9 h0 v0 r0 v1 v2 v3 v4 r1 r2 r3 r4 r5 r6 r7 v5 v6 r8 r9 r10 r11 v7 h1 r12 v8 v9 h2 r13 v10 v11 r14 v12 v13 r15 v14 w15 r16 x33 x34 h3 h4 r17 r18 r19 r20 v18 r21 r22 r23 v19 h1 g0 f20 h2 g1 f21 h3 g2 fn35 h4 g3 fn36) H → va_D A (wd_90cd99f9 h0 v0 r0 v1 v2 v3 v4 r1 r2 r3 r4 r5 r6 r7 v5 v6 r8 r9 r10 r11 v7 h1 r12 v8 v9 h2 r13 v10 v11 r14 v12 v13 r15 v14 w15 r16 x33 x34 h3 h4 r17 r18 r19 r20 v18 r21 r22 r23 v19 h1 g0 f20 h2 g1 f21 h3 g2 fn35 h4 g3 fn36) → va_S A s.heap H locs → lv_has ls 7 [(6, .int x21), (5, .int x4), (0, .ref h0), (1, .int 6), (2, .int v24), (3, .int v25), (4, .int v26)] → W p l e ({ frames := 5, cells := 0, slots := 0, locals := 114 }) s m ([.ref h0, .int 6, .int v24, .int v25, .int v26] : List Value).toArray below meth c H locs 0 0 Q (F0 m 202 ls []) := by
                intro x33 x34 fn35 fn36 H locs ls hP hD hS hl
                obtain ⟨t38, et38⟩ : ∃ y : Int32, y = x21 + 1 := ⟨_, rfl⟩
                have gt38 : t38.toInt = x21.toInt + (1) := pv_add (a := x21.toInt) (b := (1)) et38 rfl (by decide) (by omega) (by omega)
                refine lv_iinc (v := t38) (lv' := [(6, .int t38), (5, .int x4), (0, .ref h0), (1, .int 6), (2, .int v24), (3, .int v25), (4, .int v26)]) hx hb dX12_tryShelf_202 hl (k := 0) rfl (by rw [et38]; rfl) (by decide) rfl (fun ls hl => ?_)
                refine lv_goto (tgt := 75) hx hb dX12_tryShelf_205 (by decide) ?_
                exact ih_hL31 t38 x33 x34 fn35 fn36 H locs ls (by first | omega | decide) (by first | omega | decide) (by first | omega | (simp only [Int.toNat] at *; omega)) hP hD hS (lv_sub hl [0, 1, 2, 3, 4, 5, 6] rfl)
              refine lv_if_eq (tgt := 113) hx hb dX12_tryShelf_84 (by decide) (fun c39 => ?_) (fun c39 => ?_)
              · skip
                have fc39 : v26.toInt = 0 := congrArg Int32.toInt c39
                refine lv_aload_n hx hb dX12_tryShelf_113 rfl (lv_at hl 2 rfl) ?_
                refine lv_iload_n hx hb dX12_tryShelf_114 rfl (lv_at hl 3 rfl) ?_
                refine lv_iload hx hb dX12_tryShelf_115 (lv_at hl 0 rfl) ?_
                have hPc := hP.sub (ws' := (wd_f4deda84 h0 v0 r0 v1 v2 v3 v4 r1 r2 r3 r4 r5 r6 r7 v5 v6 r8 r9 r10 r11 v7 h1 r12 v8 v9 h2 r13 v10 v11 r14 v12 v13 r15 v14 w15 r16 x22 x23 h3 h4 r17 r18 r19 r20 v18 r21 r22 r23 v19 h2 g1 f21 h3 g2 fn24)) [0, 2, 3] rfl
                have hDc := hD.sub (ws' := (wd_f4deda84 h0 v0 r0 v1 v2 v3 v4 r1 r2 r3 r4 r5 r6 r7 v5 v6 r8 r9 r10 r11 v7 h1 r12 v8 v9 h2 r13 v10 v11 r14 v12 v13 r15 v14 w15 r16 x22 x23 h3 h4 r17 r18 r19 r20 v18 r21 r22 r23 v19 h2 g1 f21 h3 g2 fn24)) [0, 2, 3] (by decide) rfl
                have hKc := hK.sub (tys' := [(g1, .int), (g2, .int)]) [1, 2] rfl
                have hFc := va_free (wc := (wd_f4deda84 h0 v0 r0 v1 v2 v3 v4 r1 r2 r3 r4 r5 r6 r7 v5 v6 r8 r9 r10 r11 v7 h1 r12 v8 v9 h2 r13 v10 v11 r14 v12 v13 r15 v14 w15 r16 x22 x23 h3 h4 r17 r18 r19 r20 v18 r21 r22 r23 v19 h2 g1 f21 h3 g2 fn24)) hD hS hA [0, 2, 3] rfl
                refine va_calli (va_runV (As := [.int 6, .int x21]) (rest := []) ⟨hx, hb, hml, hown, hts⟩ (k_X12_isCalm l dC dI h0 h2 h3 v0 r0 v1 v2 v3 v4 r1 r2 r3 r4 r5 r6 r7 v5 v6 r8 r9 r10 r11 v7 h1 r12 v8 v9 r13 v10 v11 r14 v12 v13 r15 v14 w15 r16 x22 x23 h4 r17 r18 r19 r20 v18 r21 r22 r23 v19 g1 f21 g2 fn24 6 x21 ⟨i_v1a, i_v1b⟩ ⟨i_v5a, i_v5b⟩ ⟨i_v6a, i_v6b⟩ ⟨i_v7a, i_v7b⟩ ⟨i_v8a, i_v8b⟩ ⟨i_v9a, i_v9b⟩ ⟨i_v10a, i_v10b⟩ ⟨i_v14a, i_v14b⟩ ⟨i_v18a, i_v18b⟩ ⟨i_v19a, i_v19b⟩ ⟨by decide, by decide⟩ ia_f21 H.size) (cwV 2 hts g_X12_tryShelf_2_1 rfl rfl rfl (by decide +kernel) ⟨Nat.le_of_ble_eq_true rfl, Nat.le_of_ble_eq_true rfl⟩) (pv_PV12 hPc hKc hDc (q0 := 0) rfl) rfl rfl hl.1 rfl (lv_room (Nat.le_of_ble_eq_true rfl)) dX12_tryShelf_117 ⟨Nat.le_of_ble_eq_true rfl, Nat.le_of_ble_eq_true rfl⟩) hS (fun q _ h => hFc q h) hFc (fun ra40 u t H1 locs ht hvm hwra40 hB hz1 hk1 hS => ?_)
                try rw [hwra40] at hB
                have hkra40_0 : ((6 : Int32)).toInt = 6 := by decide
                obtain ⟨pt0_ra40, pt1_ra40, hP1, hK1, hD1⟩ := hB
                rw [ht] at hP1
                obtain ⟨hP2, hD2⟩ := va_join (wr := (wd_5481fbec h1 g0 f20 h4 g3 fn25)) (w1 := (wd_f4deda84 h0 v0 r0 v1 v2 v3 v4 r1 r2 r3 r4 r5 r6 r7 v5 v6 r8 r9 r10 r11 v7 h1 r12 v8 v9 h2 r13 v10 v11 r14 v12 v13 r15 v14 w15 r16 x22 x23 h3 h4 r17 r18 r19 r20 v18 r21 r22 r23 v19 h2 g1 f21 h3 g2 fn24)) hP hD [0, 2, 3] [1, 4] rfl rfl (by decide) (by decide) hk1 hFc hP1 hD1
                clear hP hD hPc hDc hKc hFc hP1 hK1 hD1 hk1 hz1
                generalize H1 = H at hP2 hS ⊢
                have hP := hP2.sub (ws' := (wd_90cd99f9 h0 v0 r0 v1 v2 v3 v4 r1 r2 r3 r4 r5 r6 r7 v5 v6 r8 r9 r10 r11 v7 h1 r12 v8 v9 h2 r13 v10 v11 r14 v12 v13 r15 v14 w15 r16 x22 x23 h3 h4 r17 r18 r19 r20 v18 r21 r22 r23 v19 h1 g0 f20 h2 g1 f21 h3 g2 fn24 h4 g3 fn25)) [2, 0, 3, 4, 1] rfl
                have hD := hD2.sub (ws' := (wd_90cd99f9 h0 v0 r0 v1 v2 v3 v4 r1 r2 r3 r4 r5 r6 r7 v5 v6 r8 r9 r10 r11 v7 h1 r12 v8 v9 h2 r13 v10 v11 r14 v12 v13 r15 v14 w15 r16 x22 x23 h3 h4 r17 r18 r19 r20 v18 r21 r22 r23 v19 h1 g0 f20 h2 g1 f21 h3 g2 fn24 h4 g3 fn25)) [2, 0, 3, 4, 1] (by decide) rfl
                clear hP2 hD2
                refine lv_if_eq (tgt := 202) hx hb dX12_tryShelf_120 (by decide) (fun c41 => ?_) (fun c41 => ?_)
                · skip
                  have fc41 : ra40.toInt = 0 := congrArg Int32.toInt c41
                  exact hJ37 x22 x23 fn24 fn25 H locs ls hP hD hS (lv_sub hl [0, 1, 2, 3, 4, 5, 6] rfl)
                · skip
                  have fc41 : ¬ (ra40.toInt = 0) := fun h9 => c41 (Int32.toInt_inj.mp h9)
                  refine lv_aload_n hx hb dX12_tryShelf_123 rfl (lv_at hl 2 rfl) ?_
                  refine va_get (D := (dC, dI)) (ci := 12) (v := .ref h4) (C := RX12) (T := TX12) (N := 48) hx hb hts (fun _ h => List.mem_cons_of_mem _ (List.mem_append_right _ h)) hown hK hP 0 rfl rfl 38 (by decide) (hts (.fieldLink RX12 77 "LeftArgumentsModel" "room" "[I") (List.mem_cons_of_mem _ (List.mem_append_left _ (List.mem_of_getElem? (i := 31) rfl)))) (fun _ h9 => h9) rfl dX12_tryShelf_124 ?_
                  refine lv_iload hx hb dX12_tryShelf_127 (lv_at hl 0 rfl) ?_
                  refine lv_dup2_11 hx hb dX12_tryShelf_129 rfl rfl ?_
                  refine va_iald hx hb hK hP 4 3 rfl rfl (vp_in_iff.mpr ⟨by omega, by omega⟩) dX12_tryShelf_130 ?_
                  refine lv_topi (fun t42 et42 => ?_)
                  refine lv_aload_n hx hb dX12_tryShelf_131 rfl (lv_at hl 2 rfl) ?_
                  refine lv_iload_n hx hb dX12_tryShelf_132 rfl (lv_at hl 3 rfl) ?_
                  refine lv_iconst (v := 0) hx hb dX12_tryShelf_133 (by decide) ?_
                  have hPc := hP.sub (ws' := (wd_5013416a h0 v0 r0 v1 v2 v3 v4 r1 r2 r3 r4 r5 r6 r7 v5 v6 r8 r9 r10 r11 v7 h1 r12 v8 v9 h2 r13 v10 v11 r14 v12 v13 r15 v14 w15 r16 x22 x23 h3 h4 r17 r18 r19 r20 v18 r21 r22 r23 v19 h2 g1 f21)) [0, 2] rfl
                  have hDc := hD.sub (ws' := (wd_5013416a h0 v0 r0 v1 v2 v3 v4 r1 r2 r3 r4 r5 r6 r7 v5 v6 r8 r9 r10 r11 v7 h1 r12 v8 v9 h2 r13 v10 v11 r14 v12 v13 r15 v14 w15 r16 x22 x23 h3 h4 r17 r18 r19 r20 v18 r21 r22 r23 v19 h2 g1 f21)) [0, 2] (by decide) rfl
                  have hKc := hK.sub (tys' := [(g1, .int)]) [1] rfl
                  have hFc := va_free (wc := (wd_5013416a h0 v0 r0 v1 v2 v3 v4 r1 r2 r3 r4 r5 r6 r7 v5 v6 r8 r9 r10 r11 v7 h1 r12 v8 v9 h2 r13 v10 v11 r14 v12 v13 r15 v14 w15 r16 x22 x23 h3 h4 r17 r18 r19 r20 v18 r21 r22 r23 v19 h2 g1 f21)) hD hS hA [0, 2] rfl
                  refine va_calli (va_runV (As := [.int 6, .int 0]) (rest := [.int t42, .int x21, .ref h4]) ⟨hx, hb, hml, hown, hts⟩ (k_X12_of_3 l dC dI h0 h2 v0 r0 v1 v2 v3 v4 r1 r2 r3 r4 r5 r6 r7 v5 v6 r8 r9 r10 r11 v7 h1 r12 v8 v9 r13 v10 v11 r14 v12 v13 r15 v14 w15 r16 x22 x23 h3 h4 r17 r18 r19 r20 v18 r21 r22 r23 v19 g1 f21 6 ⟨i_v1a, i_v1b⟩ ⟨i_v5a, i_v5b⟩ ⟨i_v6a, i_v6b⟩ ⟨i_v7a, i_v7b⟩ ⟨i_v8a, i_v8b⟩ ⟨i_v9a, i_v9b⟩ ⟨i_v10a, i_v10b⟩ ⟨i_v14a, i_v14b⟩ ⟨i_v18a, i_v18b⟩ ⟨i_v19a, i_v19b⟩ ⟨by decide, by decide⟩ ia_f21.1 H.size) (cwV 2 hts g_X12_tryShelf_2_2 rfl rfl rfl (by decide +kernel) ⟨Nat.le_of_ble_eq_true rfl, Nat.le_of_ble_eq_true rfl⟩) (pv_PV12 hPc hKc hDc (q0 := 0) rfl) rfl rfl hl.1 rfl (lv_room (Nat.le_of_ble_eq_true rfl)) dX12_tryShelf_134 ⟨Nat.le_of_ble_eq_true rfl, Nat.le_of_ble_eq_true rfl⟩) hS (fun q _ h => hFc q h) hFc (fun ra43 u t H1 locs ht hvm hwra43 hB hz1 hk1 hS => ?_)
                  try rw [hwra43] at hB
                  have hkra43_0 : ((6 : Int32)).toInt = 6 := by decide
                  obtain ⟨pt0_ra43, pt1_ra43, pt2_ra43, hP1, hK1, hD1⟩ := hB
                  rw [ht] at hP1
                  obtain ⟨hP2, hD2⟩ := va_join (wr := (wd_20b67a68 h1 g0 f20 h3 g2 fn24 h4 g3 fn25)) (w1 := (wd_5013416a h0 v0 r0 v1 v2 v3 v4 r1 r2 r3 r4 r5 r6 r7 v5 v6 r8 r9 r10 r11 v7 h1 r12 v8 v9 h2 r13 v10 v11 r14 v12 v13 r15 v14 w15 r16 x22 x23 h3 h4 r17 r18 r19 r20 v18 r21 r22 r23 v19 h2 g1 f21)) hP hD [0, 2] [1, 3, 4] rfl rfl (by decide) (by decide) hk1 hFc hP1 hD1
                  clear hP hD hPc hDc hKc hFc hP1 hK1 hD1 hk1 hz1
                  generalize H1 = H at hP2 hS ⊢
                  have hP := hP2.sub (ws' := (wd_90cd99f9 h0 v0 r0 v1 v2 v3 v4 r1 r2 r3 r4 r5 r6 r7 v5 v6 r8 r9 r10 r11 v7 h1 r12 v8 v9 h2 r13 v10 v11 r14 v12 v13 r15 v14 w15 r16 x22 x23 h3 h4 r17 r18 r19 r20 v18 r21 r22 r23 v19 h1 g0 f20 h2 g1 f21 h3 g2 fn24 h4 g3 fn25)) [3, 0, 4, 1, 2] rfl
                  have hD := hD2.sub (ws' := (wd_90cd99f9 h0 v0 r0 v1 v2 v3 v4 r1 r2 r3 r4 r5 r6 r7 v5 v6 r8 r9 r10 r11 v7 h1 r12 v8 v9 h2 r13 v10 v11 r14 v12 v13 r15 v14 w15 r16 x22 x23 h3 h4 r17 r18 r19 r20 v18 r21 r22 r23 v19 h1 g0 f20 h2 g1 f21 h3 g2 fn24 h4 g3 fn25)) [3, 0, 4, 1, 2] (by decide) rfl
                  clear hP2 hD2
                  refine lv_iadd hx hb dX12_tryShelf_137 ?_
                  refine lv_topi (fun t44 et44 => ?_)
                  refine va_iast hx hb hK hP hD hS 4 3 rfl rfl (vp_in_iff.mpr ⟨by omega, by omega⟩) dX12_tryShelf_138 (fun H locs hP hD hS => ?_)
                  obtain ⟨fn45, efn45⟩ : ∃ g : Nat → Int32, g = upd fn25 (Int32.toNatClampNeg x21) t44 := ⟨_, rfl⟩
                  rw [← efn45] at hP hD
                  have hP : va_P (dC, dI) vwCl (wd_90cd99f9 h0 v0 r0 v1 v2 v3 v4 r1 r2 r3 r4 r5 r6 r7 v5 v6 r8 r9 r10 r11 v7 h1 r12 v8 v9 h2 r13 v10 v11 r14 v12 v13 r15 v14 w15 r16 x22 x23 h3 h4 r17 r18 r19 r20 v18 r21 r22 r23 v19 h1 g0 f20 h2 g1 f21 h3 g2 fn24 h4 g3 fn45) H := hP
                  have hD : va_D A (wd_90cd99f9 h0 v0 r0 v1 v2 v3 v4 r1 r2 r3 r4 r5 r6 r7 v5 v6 r8 r9 r10 r11 v7 h1 r12 v8 v9 h2 r13 v10 v11 r14 v12 v13 r15 v14 w15 r16 x22 x23 h3 h4 r17 r18 r19 r20 v18 r21 r22 r23 v19 h1 g0 f20 h2 g1 f21 h3 g2 fn24 h4 g3 fn45) := hD
                  refine lv_aload_n hx hb dX12_tryShelf_139 rfl (lv_at hl 2 rfl) ?_
                  refine va_get (D := (dC, dI)) (ci := 12) (v := .ref h3) (C := RX12) (T := TX12) (N := 48) hx hb hts (fun _ h => List.mem_cons_of_mem _ (List.mem_append_right _ h)) hown hK hP 0 rfl rfl 37 (by decide) (hts (.fieldLink RX12 74 "LeftArgumentsModel" "onShelf" "[I") (List.mem_cons_of_mem _ (List.mem_append_left _ (List.mem_of_getElem? (i := 15) rfl)))) (fun _ h9 => h9) rfl dX12_tryShelf_140 ?_
                  refine lv_iload_n hx hb dX12_tryShelf_143 rfl (lv_at hl 3 rfl) ?_
                  refine lv_iload hx hb dX12_tryShelf_144 (lv_at hl 0 rfl) ?_
                  refine va_iast hx hb hK hP hD hS 3 2 rfl rfl (pv_c (x := 6) (n := 8) (by decide)) dX12_tryShelf_146 (fun H locs hP hD hS => ?_)
                  obtain ⟨fn46, efn46⟩ : ∃ g : Nat → Int32, g = upd fn24 (Int32.toNatClampNeg 6) x21 := ⟨_, rfl⟩
                  rw [← efn46] at hP hD
                  have hP : va_P (dC, dI) vwCl (wd_90cd99f9 h0 v0 r0 v1 v2 v3 v4 r1 r2 r3 r4 r5 r6 r7 v5 v6 r8 r9 r10 r11 v7 h1 r12 v8 v9 h2 r13 v10 v11 r14 v12 v13 r15 v14 w15 r16 x22 x23 h3 h4 r17 r18 r19 r20 v18 r21 r22 r23 v19 h1 g0 f20 h2 g1 f21 h3 g2 fn46 h4 g3 fn45) H := hP
                  have hD : va_D A (wd_90cd99f9 h0 v0 r0 v1 v2 v3 v4 r1 r2 r3 r4 r5 r6 r7 v5 v6 r8 r9 r10 r11 v7 h1 r12 v8 v9 h2 r13 v10 v11 r14 v12 v13 r15 v14 w15 r16 x22 x23 h3 h4 r17 r18 r19 r20 v18 r21 r22 r23 v19 h1 g0 f20 h2 g1 f21 h3 g2 fn46 h4 g3 fn45) := hD
                  refine lv_aload_n hx hb dX12_tryShelf_147 rfl (lv_at hl 2 rfl) ?_
                  refine lv_iload_n hx hb dX12_tryShelf_148 rfl (lv_at hl 3 rfl) ?_
                  refine lv_iconst (v := 1) hx hb dX12_tryShelf_149 (by decide) ?_
                  refine lv_iadd hx hb dX12_tryShelf_150 ?_
                  refine lv_topi (fun tv47 etv47 => ?_)
                  obtain rfl : tv47 = (7 : Int32) := etv47.trans (by first | rfl | decide)
                  refine lv_bipush (v := 10) hx hb dX12_tryShelf_151 (by decide) ?_
                  refine lv_iload_n hx hb dX12_tryShelf_153 rfl (lv_at hl 4 rfl) ?_
                  refine lv_imul hx hb dX12_tryShelf_154 ?_
                  refine lv_topi (fun t48 et48 => ?_)
                  refine lv_iload hx hb dX12_tryShelf_155 (lv_at hl 0 rfl) ?_
                  refine lv_iadd hx hb dX12_tryShelf_157 ?_
                  refine lv_topi (fun t49 et49 => ?_)
                  refine lv_iload_n hx hb dX12_tryShelf_158 rfl (lv_at hl 5 rfl) ?_
                  refine lv_aload_n hx hb dX12_tryShelf_159 rfl (lv_at hl 2 rfl) ?_
                  refine va_get (D := (dC, dI)) (ci := 12) (v := .ref h4) (C := RX12) (T := TX12) (N := 48) hx hb hts (fun _ h => List.mem_cons_of_mem _ (List.mem_append_right _ h)) hown hK hP 0 rfl rfl 38 (by decide) (hts (.fieldLink RX12 77 "LeftArgumentsModel" "room" "[I") (List.mem_cons_of_mem _ (List.mem_append_left _ (List.mem_of_getElem? (i := 31) rfl)))) (fun _ h9 => h9) rfl dX12_tryShelf_160 ?_
                  refine lv_iload hx hb dX12_tryShelf_163 (lv_at hl 0 rfl) ?_
                  refine va_iald hx hb hK hP 4 3 rfl rfl (vp_in_iff.mpr ⟨by omega, by omega⟩) dX12_tryShelf_165 ?_
                  refine lv_topi (fun t50 et50 => ?_)
                  refine lv_aload_n hx hb dX12_tryShelf_166 rfl (lv_at hl 2 rfl) ?_
                  refine lv_iload_n hx hb dX12_tryShelf_167 rfl (lv_at hl 3 rfl) ?_
                  refine lv_iconst (v := 0) hx hb dX12_tryShelf_168 (by decide) ?_
                  have hPc := hP.sub (ws' := (wd_5013416a h0 v0 r0 v1 v2 v3 v4 r1 r2 r3 r4 r5 r6 r7 v5 v6 r8 r9 r10 r11 v7 h1 r12 v8 v9 h2 r13 v10 v11 r14 v12 v13 r15 v14 w15 r16 x22 x23 h3 h4 r17 r18 r19 r20 v18 r21 r22 r23 v19 h2 g1 f21)) [0, 2] rfl
                  have hDc := hD.sub (ws' := (wd_5013416a h0 v0 r0 v1 v2 v3 v4 r1 r2 r3 r4 r5 r6 r7 v5 v6 r8 r9 r10 r11 v7 h1 r12 v8 v9 h2 r13 v10 v11 r14 v12 v13 r15 v14 w15 r16 x22 x23 h3 h4 r17 r18 r19 r20 v18 r21 r22 r23 v19 h2 g1 f21)) [0, 2] (by decide) rfl
                  have hKc := hK.sub (tys' := [(g1, .int)]) [1] rfl
                  have hFc := va_free (wc := (wd_5013416a h0 v0 r0 v1 v2 v3 v4 r1 r2 r3 r4 r5 r6 r7 v5 v6 r8 r9 r10 r11 v7 h1 r12 v8 v9 h2 r13 v10 v11 r14 v12 v13 r15 v14 w15 r16 x22 x23 h3 h4 r17 r18 r19 r20 v18 r21 r22 r23 v19 h2 g1 f21)) hD hS hA [0, 2] rfl
                  refine va_calli (va_runV (As := [.int 6, .int 0]) (rest := [.int t50, .int v25, .int t49, .int 7, .ref h0]) ⟨hx, hb, hml, hown, hts⟩ (k_X12_of_3 l dC dI h0 h2 v0 r0 v1 v2 v3 v4 r1 r2 r3 r4 r5 r6 r7 v5 v6 r8 r9 r10 r11 v7 h1 r12 v8 v9 r13 v10 v11 r14 v12 v13 r15 v14 w15 r16 x22 x23 h3 h4 r17 r18 r19 r20 v18 r21 r22 r23 v19 g1 f21 6 ⟨i_v1a, i_v1b⟩ ⟨i_v5a, i_v5b⟩ ⟨i_v6a, i_v6b⟩ ⟨i_v7a, i_v7b⟩ ⟨i_v8a, i_v8b⟩ ⟨i_v9a, i_v9b⟩ ⟨i_v10a, i_v10b⟩ ⟨i_v14a, i_v14b⟩ ⟨i_v18a, i_v18b⟩ ⟨i_v19a, i_v19b⟩ ⟨by decide, by decide⟩ ia_f21.1 H.size) (cwV 2 hts g_X12_tryShelf_2_2 rfl rfl rfl (by decide +kernel) ⟨Nat.le_of_ble_eq_true rfl, Nat.le_of_ble_eq_true rfl⟩) (pv_PV12 hPc hKc hDc (q0 := 0) rfl) rfl rfl hl.1 rfl (lv_room (Nat.le_of_ble_eq_true rfl)) dX12_tryShelf_169 ⟨Nat.le_of_ble_eq_true rfl, Nat.le_of_ble_eq_true rfl⟩) hS (fun q _ h => hFc q h) hFc (fun ra51 u t H1 locs ht hvm hwra51 hB hz1 hk1 hS => ?_)
                  try rw [hwra51] at hB
                  have hkra51_0 : ((6 : Int32)).toInt = 6 := by decide
                  obtain ⟨pt0_ra51, pt1_ra51, pt2_ra51, hP1, hK1, hD1⟩ := hB
                  rw [ht] at hP1
                  obtain ⟨hP2, hD2⟩ := va_join (wr := (wd_20b67a68 h1 g0 f20 h3 g2 fn46 h4 g3 fn45)) (w1 := (wd_5013416a h0 v0 r0 v1 v2 v3 v4 r1 r2 r3 r4 r5 r6 r7 v5 v6 r8 r9 r10 r11 v7 h1 r12 v8 v9 h2 r13 v10 v11 r14 v12 v13 r15 v14 w15 r16 x22 x23 h3 h4 r17 r18 r19 r20 v18 r21 r22 r23 v19 h2 g1 f21)) hP hD [0, 2] [1, 3, 4] rfl rfl (by decide) (by decide) hk1 hFc hP1 hD1
                  clear hP hD hPc hDc hKc hFc hP1 hK1 hD1 hk1 hz1
                  generalize H1 = H at hP2 hS ⊢
                  have hP := hP2.sub (ws' := (wd_90cd99f9 h0 v0 r0 v1 v2 v3 v4 r1 r2 r3 r4 r5 r6 r7 v5 v6 r8 r9 r10 r11 v7 h1 r12 v8 v9 h2 r13 v10 v11 r14 v12 v13 r15 v14 w15 r16 x22 x23 h3 h4 r17 r18 r19 r20 v18 r21 r22 r23 v19 h1 g0 f20 h2 g1 f21 h3 g2 fn46 h4 g3 fn45)) [3, 0, 4, 1, 2] rfl
                  have hD := hD2.sub (ws' := (wd_90cd99f9 h0 v0 r0 v1 v2 v3 v4 r1 r2 r3 r4 r5 r6 r7 v5 v6 r8 r9 r10 r11 v7 h1 r12 v8 v9 h2 r13 v10 v11 r14 v12 v13 r15 v14 w15 r16 x22 x23 h3 h4 r17 r18 r19 r20 v18 r21 r22 r23 v19 h1 g0 f20 h2 g1 f21 h3 g2 fn46 h4 g3 fn45)) [3, 0, 4, 1, 2] (by decide) rfl
                  clear hP2 hD2
                  have hJ53 : ∀ (x52 : Int32) (H : Heap) (locs : List Loc) (ls : Array Slot), 0 ≤ x52.toInt → x52.toInt ≤ 1 → va_P (dC, dI) vwCl (wd_90cd99f9 h0 v0 r0 v1 v2 v3 v4 r1 r2 r3 r4 r5 r6 r7 v5 v6 r8 r9 r10 r11 v7 h1 r12 v8 v9 h2 r13 v10 v11 r14 v12 v13 r15 v14 w15 r16 x22 x23 h3 h4 r17 r18 r19 r20 v18 r21 r22 r23 v19 h1 g0 f20 h2 g1 f21 h3 g2 fn46 h4 g3 fn45) H → va_D A (wd_90cd99f9 h0 v0 r0 v1 v2 v3 v4 r1 r2 r3 r4 r5 r6 r7 v5 v6 r8 r9 r10 r11 v7 h1 r12 v8 v9 h2 r13 v10 v11 r14 v12 v13 r15 v14 w15 r16 x22 x23 h3 h4 r17 r18 r19 r20 v18 r21 r22 r23 v19 h1 g0 f20 h2 g1 f21 h3 g2 fn46 h4 g3 fn45) → va_S A s.heap H locs → lv_has ls 7 [(6, .int x21), (5, .int x4), (0, .ref h0), (1, .int 6), (2, .int v24), (3, .int v25), (4, .int v26)] → W p l e ({ frames := 5, cells := 0, slots := 0, locals := 114 }) s m ([.ref h0, .int 6, .int v24, .int v25, .int v26] : List Value).toArray below meth c H locs 0 0 Q (F0 m 180 ls [.int x52, .int v25, .int t49, .int 7, .ref h0]) := by
                    intro x52 H locs ls qa_x52 qb_x52 hP hD hS hl
                    refine lv_iadd hx hb dX12_tryShelf_180 ?_
                    refine lv_topi (fun t54 et54 => ?_)
                    refine lv_iload hx hb dX12_tryShelf_181 (lv_at hl 6 rfl) ?_
                    have hPc := hP.sub (ws' := (wd_90cd99f9 h0 v0 r0 v1 v2 v3 v4 r1 r2 r3 r4 r5 r6 r7 v5 v6 r8 r9 r10 r11 v7 h1 r12 v8 v9 h2 r13 v10 v11 r14 v12 v13 r15 v14 w15 r16 x22 x23 h3 h4 r17 r18 r19 r20 v18 r21 r22 r23 v19 h1 g0 f20 h2 g1 f21 h3 g2 fn46 h4 g3 fn45)) [0, 1, 2, 3, 4] rfl
                    have hDc := hD.sub (ws' := (wd_90cd99f9 h0 v0 r0 v1 v2 v3 v4 r1 r2 r3 r4 r5 r6 r7 v5 v6 r8 r9 r10 r11 v7 h1 r12 v8 v9 h2 r13 v10 v11 r14 v12 v13 r15 v14 w15 r16 x22 x23 h3 h4 r17 r18 r19 r20 v18 r21 r22 r23 v19 h1 g0 f20 h2 g1 f21 h3 g2 fn46 h4 g3 fn45)) [0, 1, 2, 3, 4] (by decide) rfl
                    have hKc := hK.sub (tys' := [(g0, .int), (g1, .int), (g2, .int), (g3, .int)]) [0, 1, 2, 3] rfl
                    have hFc := va_free (wc := (wd_90cd99f9 h0 v0 r0 v1 v2 v3 v4 r1 r2 r3 r4 r5 r6 r7 v5 v6 r8 r9 r10 r11 v7 h1 r12 v8 v9 h2 r13 v10 v11 r14 v12 v13 r15 v14 w15 r16 x22 x23 h3 h4 r17 r18 r19 r20 v18 r21 r22 r23 v19 h1 g0 f20 h2 g1 f21 h3 g2 fn46 h4 g3 fn45)) hD hS hA [0, 1, 2, 3, 4] rfl
                    refine va_callv (va_runV (As := [.int 7, .int t49, .int t54, .int v26]) (rest := []) ⟨hx, hb, hml, hown, hts⟩ (k_X12_tryShelf_1 l dC dI h0 h1 h2 h3 h4 v0 r0 v1 v2 v3 v4 r1 r2 r3 r4 r5 r6 r7 v5 v6 r8 r9 r10 r11 v7 r12 v8 v9 r13 v10 v11 r14 v12 v13 r15 v14 w15 r16 x22 x23 r17 r18 r19 r20 v18 r21 r22 r23 v19 g0 f20 g1 f21 g2 fn46 g3 fn45 t49 t54 v26 ⟨i_v1a, i_v1b⟩ ⟨i_v5a, i_v5b⟩ ⟨i_v6a, i_v6b⟩ ⟨i_v7a, i_v7b⟩ ⟨i_v8a, i_v8b⟩ ⟨i_v9a, i_v9b⟩ ⟨i_v10a, i_v10b⟩ ⟨i_v14a, i_v14b⟩ ⟨i_v18a, i_v18b⟩ ⟨i_v19a, i_v19b⟩ ⟨i_v26a, i_v26b⟩ ia_f20 ia_f21 H.size) (cwV 4 hts g_X12_tryShelf_2_4 rfl rfl rfl (by decide +kernel) ⟨Nat.le_of_ble_eq_true rfl, Nat.le_of_ble_eq_true rfl⟩) (pv_PV12 hPc hKc hDc (q0 := 0) rfl) rfl rfl hl.1 rfl (lv_room (Nat.le_of_ble_eq_true rfl)) dX12_tryShelf_183 ⟨Nat.le_of_ble_eq_true rfl, Nat.le_of_ble_eq_true rfl⟩) hS (fun q _ h => hFc q h) hFc (fun u t H1 locs ht hvm hwra55 hB hz1 hk1 hS => ?_)
                    obtain ⟨x56, x57, fn58, fn59, hP1, hK1, hD1⟩ := hB
                    rw [ht] at hP1
                    obtain ⟨hP2, hD2⟩ := va_join (wr := []) (w1 := (wd_90cd99f9 h0 v0 r0 v1 v2 v3 v4 r1 r2 r3 r4 r5 r6 r7 v5 v6 r8 r9 r10 r11 v7 h1 r12 v8 v9 h2 r13 v10 v11 r14 v12 v13 r15 v14 w15 r16 x56 x57 h3 h4 r17 r18 r19 r20 v18 r21 r22 r23 v19 h1 g0 f20 h2 g1 f21 h3 g2 fn58 h4 g3 fn59)) hP hD [0, 1, 2, 3, 4] [] rfl rfl (by decide) (by decide) hk1 hFc hP1 hD1
                    clear hP hD hPc hDc hKc hFc hP1 hK1 hD1 hk1 hz1
                    generalize H1 = H at hP2 hS ⊢
                    have hP : va_P (dC, dI) vwCl (wd_90cd99f9 h0 v0 r0 v1 v2 v3 v4 r1 r2 r3 r4 r5 r6 r7 v5 v6 r8 r9 r10 r11 v7 h1 r12 v8 v9 h2 r13 v10 v11 r14 v12 v13 r15 v14 w15 r16 x56 x57 h3 h4 r17 r18 r19 r20 v18 r21 r22 r23 v19 h1 g0 f20 h2 g1 f21 h3 g2 fn58 h4 g3 fn59) H := hP2
                    have hD : va_D A (wd_90cd99f9 h0 v0 r0 v1 v2 v3 v4 r1 r2 r3 r4 r5 r6 r7 v5 v6 r8 r9 r10 r11 v7 h1 r12 v8 v9 h2 r13 v10 v11 r14 v12 v13 r15 v14 w15 r16 x56 x57 h3 h4 r17 r18 r19 r20 v18 r21 r22 r23 v19 h1 g0 f20 h2 g1 f21 h3 g2 fn58 h4 g3 fn59) := hD2
                    clear hP2 hD2
                    refine lv_aload_n hx hb dX12_tryShelf_186 rfl (lv_at hl 2 rfl) ?_
                    refine va_get (D := (dC, dI)) (ci := 12) (v := .ref h4) (C := RX12) (T := TX12) (N := 48) hx hb hts (fun _ h => List.mem_cons_of_mem _ (List.mem_append_right _ h)) hown hK hP 0 rfl rfl 38 (by decide) (hts (.fieldLink RX12 77 "LeftArgumentsModel" "room" "[I") (List.mem_cons_of_mem _ (List.mem_append_left _ (List.mem_of_getElem? (i := 31) rfl)))) (fun _ h9 => h9) rfl dX12_tryShelf_187 ?_
                    refine lv_iload hx hb dX12_tryShelf_190 (lv_at hl 0 rfl) ?_
                    refine lv_dup2_11 hx hb dX12_tryShelf_192 rfl rfl ?_
                    refine va_iald hx hb hK hP 4 3 rfl rfl (vp_in_iff.mpr ⟨by omega, by omega⟩) dX12_tryShelf_193 ?_
                    refine lv_topi (fun t60 et60 => ?_)
                    refine lv_aload_n hx hb dX12_tryShelf_194 rfl (lv_at hl 2 rfl) ?_
                    refine lv_iload_n hx hb dX12_tryShelf_195 rfl (lv_at hl 3 rfl) ?_
                    refine lv_iconst (v := 0) hx hb dX12_tryShelf_196 (by decide) ?_
                    have hPc := hP.sub (ws' := (wd_5013416a h0 v0 r0 v1 v2 v3 v4 r1 r2 r3 r4 r5 r6 r7 v5 v6 r8 r9 r10 r11 v7 h1 r12 v8 v9 h2 r13 v10 v11 r14 v12 v13 r15 v14 w15 r16 x56 x57 h3 h4 r17 r18 r19 r20 v18 r21 r22 r23 v19 h2 g1 f21)) [0, 2] rfl
                    have hDc := hD.sub (ws' := (wd_5013416a h0 v0 r0 v1 v2 v3 v4 r1 r2 r3 r4 r5 r6 r7 v5 v6 r8 r9 r10 r11 v7 h1 r12 v8 v9 h2 r13 v10 v11 r14 v12 v13 r15 v14 w15 r16 x56 x57 h3 h4 r17 r18 r19 r20 v18 r21 r22 r23 v19 h2 g1 f21)) [0, 2] (by decide) rfl
                    have hKc := hK.sub (tys' := [(g1, .int)]) [1] rfl
                    have hFc := va_free (wc := (wd_5013416a h0 v0 r0 v1 v2 v3 v4 r1 r2 r3 r4 r5 r6 r7 v5 v6 r8 r9 r10 r11 v7 h1 r12 v8 v9 h2 r13 v10 v11 r14 v12 v13 r15 v14 w15 r16 x56 x57 h3 h4 r17 r18 r19 r20 v18 r21 r22 r23 v19 h2 g1 f21)) hD hS hA [0, 2] rfl
                    refine va_calli (va_runV (As := [.int 6, .int 0]) (rest := [.int t60, .int x21, .ref h4]) ⟨hx, hb, hml, hown, hts⟩ (k_X12_of_3 l dC dI h0 h2 v0 r0 v1 v2 v3 v4 r1 r2 r3 r4 r5 r6 r7 v5 v6 r8 r9 r10 r11 v7 h1 r12 v8 v9 r13 v10 v11 r14 v12 v13 r15 v14 w15 r16 x56 x57 h3 h4 r17 r18 r19 r20 v18 r21 r22 r23 v19 g1 f21 6 ⟨i_v1a, i_v1b⟩ ⟨i_v5a, i_v5b⟩ ⟨i_v6a, i_v6b⟩ ⟨i_v7a, i_v7b⟩ ⟨i_v8a, i_v8b⟩ ⟨i_v9a, i_v9b⟩ ⟨i_v10a, i_v10b⟩ ⟨i_v14a, i_v14b⟩ ⟨i_v18a, i_v18b⟩ ⟨i_v19a, i_v19b⟩ ⟨by decide, by decide⟩ ia_f21.1 H.size) (cwV 2 hts g_X12_tryShelf_2_2 rfl rfl rfl (by decide +kernel) ⟨Nat.le_of_ble_eq_true rfl, Nat.le_of_ble_eq_true rfl⟩) (pv_PV12 hPc hKc hDc (q0 := 0) rfl) rfl rfl hl.1 rfl (lv_room (Nat.le_of_ble_eq_true rfl)) dX12_tryShelf_197 ⟨Nat.le_of_ble_eq_true rfl, Nat.le_of_ble_eq_true rfl⟩) hS (fun q _ h => hFc q h) hFc (fun ra61 u t H1 locs ht hvm hwra61 hB hz1 hk1 hS => ?_)
                    try rw [hwra61] at hB
                    have hkra61_0 : ((6 : Int32)).toInt = 6 := by decide
                    obtain ⟨pt0_ra61, pt1_ra61, pt2_ra61, hP1, hK1, hD1⟩ := hB
                    rw [ht] at hP1
                    obtain ⟨hP2, hD2⟩ := va_join (wr := (wd_20b67a68 h1 g0 f20 h3 g2 fn58 h4 g3 fn59)) (w1 := (wd_5013416a h0 v0 r0 v1 v2 v3 v4 r1 r2 r3 r4 r5 r6 r7 v5 v6 r8 r9 r10 r11 v7 h1 r12 v8 v9 h2 r13 v10 v11 r14 v12 v13 r15 v14 w15 r16 x56 x57 h3 h4 r17 r18 r19 r20 v18 r21 r22 r23 v19 h2 g1 f21)) hP hD [0, 2] [1, 3, 4] rfl rfl (by decide) (by decide) hk1 hFc hP1 hD1
                    clear hP hD hPc hDc hKc hFc hP1 hK1 hD1 hk1 hz1
                    generalize H1 = H at hP2 hS ⊢
                    have hP := hP2.sub (ws' := (wd_90cd99f9 h0 v0 r0 v1 v2 v3 v4 r1 r2 r3 r4 r5 r6 r7 v5 v6 r8 r9 r10 r11 v7 h1 r12 v8 v9 h2 r13 v10 v11 r14 v12 v13 r15 v14 w15 r16 x56 x57 h3 h4 r17 r18 r19 r20 v18 r21 r22 r23 v19 h1 g0 f20 h2 g1 f21 h3 g2 fn58 h4 g3 fn59)) [3, 0, 4, 1, 2] rfl
                    have hD := hD2.sub (ws' := (wd_90cd99f9 h0 v0 r0 v1 v2 v3 v4 r1 r2 r3 r4 r5 r6 r7 v5 v6 r8 r9 r10 r11 v7 h1 r12 v8 v9 h2 r13 v10 v11 r14 v12 v13 r15 v14 w15 r16 x56 x57 h3 h4 r17 r18 r19 r20 v18 r21 r22 r23 v19 h1 g0 f20 h2 g1 f21 h3 g2 fn58 h4 g3 fn59)) [3, 0, 4, 1, 2] (by decide) rfl
                    clear hP2 hD2
                    refine lv_isub hx hb dX12_tryShelf_200 ?_
                    refine lv_topi (fun t62 et62 => ?_)
                    refine va_iast hx hb hK hP hD hS 4 3 rfl rfl (vp_in_iff.mpr ⟨by omega, by omega⟩) dX12_tryShelf_201 (fun H locs hP hD hS => ?_)
                    obtain ⟨fn63, efn63⟩ : ∃ g : Nat → Int32, g = upd fn59 (Int32.toNatClampNeg x21) t62 := ⟨_, rfl⟩
                    rw [← efn63] at hP hD
                    have hP : va_P (dC, dI) vwCl (wd_90cd99f9 h0 v0 r0 v1 v2 v3 v4 r1 r2 r3 r4 r5 r6 r7 v5 v6 r8 r9 r10 r11 v7 h1 r12 v8 v9 h2 r13 v10 v11 r14 v12 v13 r15 v14 w15 r16 x56 x57 h3 h4 r17 r18 r19 r20 v18 r21 r22 r23 v19 h1 g0 f20 h2 g1 f21 h3 g2 fn58 h4 g3 fn63) H := hP
                    have hD : va_D A (wd_90cd99f9 h0 v0 r0 v1 v2 v3 v4 r1 r2 r3 r4 r5 r6 r7 v5 v6 r8 r9 r10 r11 v7 h1 r12 v8 v9 h2 r13 v10 v11 r14 v12 v13 r15 v14 w15 r16 x56 x57 h3 h4 r17 r18 r19 r20 v18 r21 r22 r23 v19 h1 g0 f20 h2 g1 f21 h3 g2 fn58 h4 g3 fn63) := hD
                    exact hJ37 x56 x57 fn58 fn63 H locs ls hP hD hS (lv_sub hl [0, 1, 2, 3, 4, 5, 6] rfl)
                  refine lv_icmp_ne (tgt := 179) hx hb dX12_tryShelf_172 (by decide) (fun c64 => ?_) (fun c64 => ?_)
                  · skip
                    have fc64 : ¬ (t50.toInt = ra51.toInt) := fun h9 => c64 (Int32.toInt_inj.mp h9)
                    have r1c64 := Int32.toInt_lt t50
                    have r2c64 := Int32.toInt_lt ra51
                    have r3c64 := Int32.le_toInt t50
                    have r4c64 := Int32.le_toInt ra51
                    refine lv_iconst (v := 0) hx hb dX12_tryShelf_179 (by decide) ?_
                    exact hJ53 0 H locs ls (by decide) (by decide) hP hD hS (lv_sub hl [0, 1, 2, 3, 4, 5, 6] rfl)
                  · skip
                    have fc64 : t50.toInt = ra51.toInt := congrArg Int32.toInt c64
                    have r1c64 := Int32.toInt_lt t50
                    have r2c64 := Int32.toInt_lt ra51
                    have r3c64 := Int32.le_toInt t50
                    have r4c64 := Int32.le_toInt ra51
                    refine lv_iconst (v := 1) hx hb dX12_tryShelf_175 (by decide) ?_
                    refine lv_goto (tgt := 180) hx hb dX12_tryShelf_176 (by decide) ?_
                    exact hJ53 1 H locs ls (by decide) (by decide) hP hD hS (lv_sub hl [0, 1, 2, 3, 4, 5, 6] rfl)
              · skip
                have fc39 : ¬ (v26.toInt = 0) := fun h9 => c39 (Int32.toInt_inj.mp h9)
                refine lv_aload_n hx hb dX12_tryShelf_87 rfl (lv_at hl 2 rfl) ?_
                refine va_get (D := (dC, dI)) (ci := 12) (v := .ref h4) (C := RX12) (T := TX12) (N := 48) hx hb hts (fun _ h => List.mem_cons_of_mem _ (List.mem_append_right _ h)) hown hK hP 0 rfl rfl 38 (by decide) (hts (.fieldLink RX12 77 "LeftArgumentsModel" "room" "[I") (List.mem_cons_of_mem _ (List.mem_append_left _ (List.mem_of_getElem? (i := 31) rfl)))) (fun _ h9 => h9) rfl dX12_tryShelf_88 ?_
                refine lv_iload hx hb dX12_tryShelf_91 (lv_at hl 0 rfl) ?_
                refine va_iald hx hb hK hP 4 3 rfl rfl (vp_in_iff.mpr ⟨by omega, by omega⟩) dX12_tryShelf_93 ?_
                refine lv_topi (fun t65 et65 => ?_)
                refine lv_aload_n hx hb dX12_tryShelf_94 rfl (lv_at hl 2 rfl) ?_
                refine lv_iload_n hx hb dX12_tryShelf_95 rfl (lv_at hl 3 rfl) ?_
                refine lv_iconst (v := 0) hx hb dX12_tryShelf_96 (by decide) ?_
                have hPc := hP.sub (ws' := (wd_5013416a h0 v0 r0 v1 v2 v3 v4 r1 r2 r3 r4 r5 r6 r7 v5 v6 r8 r9 r10 r11 v7 h1 r12 v8 v9 h2 r13 v10 v11 r14 v12 v13 r15 v14 w15 r16 x22 x23 h3 h4 r17 r18 r19 r20 v18 r21 r22 r23 v19 h2 g1 f21)) [0, 2] rfl
                have hDc := hD.sub (ws' := (wd_5013416a h0 v0 r0 v1 v2 v3 v4 r1 r2 r3 r4 r5 r6 r7 v5 v6 r8 r9 r10 r11 v7 h1 r12 v8 v9 h2 r13 v10 v11 r14 v12 v13 r15 v14 w15 r16 x22 x23 h3 h4 r17 r18 r19 r20 v18 r21 r22 r23 v19 h2 g1 f21)) [0, 2] (by decide) rfl
                have hKc := hK.sub (tys' := [(g1, .int)]) [1] rfl
                have hFc := va_free (wc := (wd_5013416a h0 v0 r0 v1 v2 v3 v4 r1 r2 r3 r4 r5 r6 r7 v5 v6 r8 r9 r10 r11 v7 h1 r12 v8 v9 h2 r13 v10 v11 r14 v12 v13 r15 v14 w15 r16 x22 x23 h3 h4 r17 r18 r19 r20 v18 r21 r22 r23 v19 h2 g1 f21)) hD hS hA [0, 2] rfl
                refine va_calli (va_runV (As := [.int 6, .int 0]) (rest := [.int t65]) ⟨hx, hb, hml, hown, hts⟩ (k_X12_of_3 l dC dI h0 h2 v0 r0 v1 v2 v3 v4 r1 r2 r3 r4 r5 r6 r7 v5 v6 r8 r9 r10 r11 v7 h1 r12 v8 v9 r13 v10 v11 r14 v12 v13 r15 v14 w15 r16 x22 x23 h3 h4 r17 r18 r19 r20 v18 r21 r22 r23 v19 g1 f21 6 ⟨i_v1a, i_v1b⟩ ⟨i_v5a, i_v5b⟩ ⟨i_v6a, i_v6b⟩ ⟨i_v7a, i_v7b⟩ ⟨i_v8a, i_v8b⟩ ⟨i_v9a, i_v9b⟩ ⟨i_v10a, i_v10b⟩ ⟨i_v14a, i_v14b⟩ ⟨i_v18a, i_v18b⟩ ⟨i_v19a, i_v19b⟩ ⟨by decide, by decide⟩ ia_f21.1 H.size) (cwV 2 hts g_X12_tryShelf_2_2 rfl rfl rfl (by decide +kernel) ⟨Nat.le_of_ble_eq_true rfl, Nat.le_of_ble_eq_true rfl⟩) (pv_PV12 hPc hKc hDc (q0 := 0) rfl) rfl rfl hl.1 rfl (lv_room (Nat.le_of_ble_eq_true rfl)) dX12_tryShelf_97 ⟨Nat.le_of_ble_eq_true rfl, Nat.le_of_ble_eq_true rfl⟩) hS (fun q _ h => hFc q h) hFc (fun ra66 u t H1 locs ht hvm hwra66 hB hz1 hk1 hS => ?_)
                try rw [hwra66] at hB
                have hkra66_0 : ((6 : Int32)).toInt = 6 := by decide
                obtain ⟨pt0_ra66, pt1_ra66, pt2_ra66, hP1, hK1, hD1⟩ := hB
                rw [ht] at hP1
                obtain ⟨hP2, hD2⟩ := va_join (wr := (wd_20b67a68 h1 g0 f20 h3 g2 fn24 h4 g3 fn25)) (w1 := (wd_5013416a h0 v0 r0 v1 v2 v3 v4 r1 r2 r3 r4 r5 r6 r7 v5 v6 r8 r9 r10 r11 v7 h1 r12 v8 v9 h2 r13 v10 v11 r14 v12 v13 r15 v14 w15 r16 x22 x23 h3 h4 r17 r18 r19 r20 v18 r21 r22 r23 v19 h2 g1 f21)) hP hD [0, 2] [1, 3, 4] rfl rfl (by decide) (by decide) hk1 hFc hP1 hD1
                clear hP hD hPc hDc hKc hFc hP1 hK1 hD1 hk1 hz1
                generalize H1 = H at hP2 hS ⊢
                have hP := hP2.sub (ws' := (wd_90cd99f9 h0 v0 r0 v1 v2 v3 v4 r1 r2 r3 r4 r5 r6 r7 v5 v6 r8 r9 r10 r11 v7 h1 r12 v8 v9 h2 r13 v10 v11 r14 v12 v13 r15 v14 w15 r16 x22 x23 h3 h4 r17 r18 r19 r20 v18 r21 r22 r23 v19 h1 g0 f20 h2 g1 f21 h3 g2 fn24 h4 g3 fn25)) [3, 0, 4, 1, 2] rfl
                have hD := hD2.sub (ws' := (wd_90cd99f9 h0 v0 r0 v1 v2 v3 v4 r1 r2 r3 r4 r5 r6 r7 v5 v6 r8 r9 r10 r11 v7 h1 r12 v8 v9 h2 r13 v10 v11 r14 v12 v13 r15 v14 w15 r16 x22 x23 h3 h4 r17 r18 r19 r20 v18 r21 r22 r23 v19 h1 g0 f20 h2 g1 f21 h3 g2 fn24 h4 g3 fn25)) [3, 0, 4, 1, 2] (by decide) rfl
                clear hP2 hD2
                refine lv_iadd hx hb dX12_tryShelf_100 ?_
                refine lv_topi (fun t67 et67 => ?_)
                refine lv_aload_n hx hb dX12_tryShelf_101 rfl (lv_at hl 2 rfl) ?_
                refine va_get (D := (dC, dI)) (ci := 12) (v := .ref h1) (C := RX12) (T := TX12) (N := 48) hx hb hts (fun _ h => List.mem_cons_of_mem _ (List.mem_append_right _ h)) hown hK hP 0 rfl rfl 20 (by decide) (hts (.fieldLink RX12 46 "LeftArgumentsModel" "rule" "[I") (List.mem_cons_of_mem _ (List.mem_append_left _ (List.mem_of_getElem? (i := 37) rfl)))) (fun _ h9 => h9) rfl dX12_tryShelf_102 ?_
                refine lv_iconst (v := 0) hx hb dX12_tryShelf_105 (by decide) ?_
                refine va_iald hx hb hK hP 1 0 rfl rfl (pv_c (x := 0) (n := 4) (by decide)) dX12_tryShelf_106 ?_
                refine lv_topi (fun t68 et68 => ?_)
                have gat68 : 0 ≤ t68.toInt := by rw [et68]; exact ia_f20.2
                refine lv_icmp_gt (tgt := 202) hx hb dX12_tryShelf_107 (by decide) (fun c69 => ?_) (fun c69 => ?_)
                · skip
                  have fc69 : t68.toInt < t67.toInt := Int32.lt_iff_toInt_lt.mp c69
                  have r1c69 := Int32.toInt_lt t67
                  have r2c69 := Int32.toInt_lt t68
                  have r3c69 := Int32.le_toInt t67
                  have r4c69 := Int32.le_toInt t68
                  exact hJ37 x22 x23 fn24 fn25 H locs ls hP hD hS (lv_sub hl [0, 1, 2, 3, 4, 5, 6] rfl)
                · skip
                  have fc69 : ¬ (t68.toInt < t67.toInt) := fun h9 => c69 (Int32.lt_iff_toInt_lt.mpr h9)
                  have r1c69 := Int32.toInt_lt t67
                  have r2c69 := Int32.toInt_lt t68
                  have r3c69 := Int32.le_toInt t67
                  have r4c69 := Int32.le_toInt t68
                  refine lv_goto (tgt := 123) hx hb dX12_tryShelf_110 (by decide) ?_
                  refine lv_aload_n hx hb dX12_tryShelf_123 rfl (lv_at hl 2 rfl) ?_
                  refine va_get (D := (dC, dI)) (ci := 12) (v := .ref h4) (C := RX12) (T := TX12) (N := 48) hx hb hts (fun _ h => List.mem_cons_of_mem _ (List.mem_append_right _ h)) hown hK hP 0 rfl rfl 38 (by decide) (hts (.fieldLink RX12 77 "LeftArgumentsModel" "room" "[I") (List.mem_cons_of_mem _ (List.mem_append_left _ (List.mem_of_getElem? (i := 31) rfl)))) (fun _ h9 => h9) rfl dX12_tryShelf_124 ?_
                  refine lv_iload hx hb dX12_tryShelf_127 (lv_at hl 0 rfl) ?_
                  refine lv_dup2_11 hx hb dX12_tryShelf_129 rfl rfl ?_
                  refine va_iald hx hb hK hP 4 3 rfl rfl (vp_in_iff.mpr ⟨by omega, by omega⟩) dX12_tryShelf_130 ?_
                  refine lv_topi (fun t70 et70 => ?_)
                  have gmt70 : t70.toInt = t65.toInt := by rw [et70, et65]
                  refine lv_aload_n hx hb dX12_tryShelf_131 rfl (lv_at hl 2 rfl) ?_
                  refine lv_iload_n hx hb dX12_tryShelf_132 rfl (lv_at hl 3 rfl) ?_
                  refine lv_iconst (v := 0) hx hb dX12_tryShelf_133 (by decide) ?_
                  have hPc := hP.sub (ws' := (wd_5013416a h0 v0 r0 v1 v2 v3 v4 r1 r2 r3 r4 r5 r6 r7 v5 v6 r8 r9 r10 r11 v7 h1 r12 v8 v9 h2 r13 v10 v11 r14 v12 v13 r15 v14 w15 r16 x22 x23 h3 h4 r17 r18 r19 r20 v18 r21 r22 r23 v19 h2 g1 f21)) [0, 2] rfl
                  have hDc := hD.sub (ws' := (wd_5013416a h0 v0 r0 v1 v2 v3 v4 r1 r2 r3 r4 r5 r6 r7 v5 v6 r8 r9 r10 r11 v7 h1 r12 v8 v9 h2 r13 v10 v11 r14 v12 v13 r15 v14 w15 r16 x22 x23 h3 h4 r17 r18 r19 r20 v18 r21 r22 r23 v19 h2 g1 f21)) [0, 2] (by decide) rfl
                  have hKc := hK.sub (tys' := [(g1, .int)]) [1] rfl
                  have hFc := va_free (wc := (wd_5013416a h0 v0 r0 v1 v2 v3 v4 r1 r2 r3 r4 r5 r6 r7 v5 v6 r8 r9 r10 r11 v7 h1 r12 v8 v9 h2 r13 v10 v11 r14 v12 v13 r15 v14 w15 r16 x22 x23 h3 h4 r17 r18 r19 r20 v18 r21 r22 r23 v19 h2 g1 f21)) hD hS hA [0, 2] rfl
                  refine va_calli (va_runV (As := [.int 6, .int 0]) (rest := [.int t70, .int x21, .ref h4]) ⟨hx, hb, hml, hown, hts⟩ (k_X12_of_3 l dC dI h0 h2 v0 r0 v1 v2 v3 v4 r1 r2 r3 r4 r5 r6 r7 v5 v6 r8 r9 r10 r11 v7 h1 r12 v8 v9 r13 v10 v11 r14 v12 v13 r15 v14 w15 r16 x22 x23 h3 h4 r17 r18 r19 r20 v18 r21 r22 r23 v19 g1 f21 6 ⟨i_v1a, i_v1b⟩ ⟨i_v5a, i_v5b⟩ ⟨i_v6a, i_v6b⟩ ⟨i_v7a, i_v7b⟩ ⟨i_v8a, i_v8b⟩ ⟨i_v9a, i_v9b⟩ ⟨i_v10a, i_v10b⟩ ⟨i_v14a, i_v14b⟩ ⟨i_v18a, i_v18b⟩ ⟨i_v19a, i_v19b⟩ ⟨by decide, by decide⟩ ia_f21.1 H.size) (cwV 2 hts g_X12_tryShelf_2_2 rfl rfl rfl (by decide +kernel) ⟨Nat.le_of_ble_eq_true rfl, Nat.le_of_ble_eq_true rfl⟩) (pv_PV12 hPc hKc hDc (q0 := 0) rfl) rfl rfl hl.1 rfl (lv_room (Nat.le_of_ble_eq_true rfl)) dX12_tryShelf_134 ⟨Nat.le_of_ble_eq_true rfl, Nat.le_of_ble_eq_true rfl⟩) hS (fun q _ h => hFc q h) hFc (fun ra71 u t H1 locs ht hvm hwra71 hB hz1 hk1 hS => ?_)
                  try rw [hwra71] at hB
                  have hkra71_0 : ((6 : Int32)).toInt = 6 := by decide
                  obtain ⟨pt0_ra71, pt1_ra71, pt2_ra71, hP1, hK1, hD1⟩ := hB
                  rw [ht] at hP1
                  obtain ⟨hP2, hD2⟩ := va_join (wr := (wd_20b67a68 h1 g0 f20 h3 g2 fn24 h4 g3 fn25)) (w1 := (wd_5013416a h0 v0 r0 v1 v2 v3 v4 r1 r2 r3 r4 r5 r6 r7 v5 v6 r8 r9 r10 r11 v7 h1 r12 v8 v9 h2 r13 v10 v11 r14 v12 v13 r15 v14 w15 r16 x22 x23 h3 h4 r17 r18 r19 r20 v18 r21 r22 r23 v19 h2 g1 f21)) hP hD [0, 2] [1, 3, 4] rfl rfl (by decide) (by decide) hk1 hFc hP1 hD1
                  clear hP hD hPc hDc hKc hFc hP1 hK1 hD1 hk1 hz1
                  generalize H1 = H at hP2 hS ⊢
                  have hP := hP2.sub (ws' := (wd_90cd99f9 h0 v0 r0 v1 v2 v3 v4 r1 r2 r3 r4 r5 r6 r7 v5 v6 r8 r9 r10 r11 v7 h1 r12 v8 v9 h2 r13 v10 v11 r14 v12 v13 r15 v14 w15 r16 x22 x23 h3 h4 r17 r18 r19 r20 v18 r21 r22 r23 v19 h1 g0 f20 h2 g1 f21 h3 g2 fn24 h4 g3 fn25)) [3, 0, 4, 1, 2] rfl
                  have hD := hD2.sub (ws' := (wd_90cd99f9 h0 v0 r0 v1 v2 v3 v4 r1 r2 r3 r4 r5 r6 r7 v5 v6 r8 r9 r10 r11 v7 h1 r12 v8 v9 h2 r13 v10 v11 r14 v12 v13 r15 v14 w15 r16 x22 x23 h3 h4 r17 r18 r19 r20 v18 r21 r22 r23 v19 h1 g0 f20 h2 g1 f21 h3 g2 fn24 h4 g3 fn25)) [3, 0, 4, 1, 2] (by decide) rfl
                  clear hP2 hD2
                  refine lv_iadd hx hb dX12_tryShelf_137 ?_
                  refine lv_topi (fun t72 et72 => ?_)
                  refine va_iast hx hb hK hP hD hS 4 3 rfl rfl (vp_in_iff.mpr ⟨by omega, by omega⟩) dX12_tryShelf_138 (fun H locs hP hD hS => ?_)
                  obtain ⟨fn73, efn73⟩ : ∃ g : Nat → Int32, g = upd fn25 (Int32.toNatClampNeg x21) t72 := ⟨_, rfl⟩
                  rw [← efn73] at hP hD
                  have hP : va_P (dC, dI) vwCl (wd_90cd99f9 h0 v0 r0 v1 v2 v3 v4 r1 r2 r3 r4 r5 r6 r7 v5 v6 r8 r9 r10 r11 v7 h1 r12 v8 v9 h2 r13 v10 v11 r14 v12 v13 r15 v14 w15 r16 x22 x23 h3 h4 r17 r18 r19 r20 v18 r21 r22 r23 v19 h1 g0 f20 h2 g1 f21 h3 g2 fn24 h4 g3 fn73) H := hP
                  have hD : va_D A (wd_90cd99f9 h0 v0 r0 v1 v2 v3 v4 r1 r2 r3 r4 r5 r6 r7 v5 v6 r8 r9 r10 r11 v7 h1 r12 v8 v9 h2 r13 v10 v11 r14 v12 v13 r15 v14 w15 r16 x22 x23 h3 h4 r17 r18 r19 r20 v18 r21 r22 r23 v19 h1 g0 f20 h2 g1 f21 h3 g2 fn24 h4 g3 fn73) := hD
                  refine lv_aload_n hx hb dX12_tryShelf_139 rfl (lv_at hl 2 rfl) ?_
                  refine va_get (D := (dC, dI)) (ci := 12) (v := .ref h3) (C := RX12) (T := TX12) (N := 48) hx hb hts (fun _ h => List.mem_cons_of_mem _ (List.mem_append_right _ h)) hown hK hP 0 rfl rfl 37 (by decide) (hts (.fieldLink RX12 74 "LeftArgumentsModel" "onShelf" "[I") (List.mem_cons_of_mem _ (List.mem_append_left _ (List.mem_of_getElem? (i := 15) rfl)))) (fun _ h9 => h9) rfl dX12_tryShelf_140 ?_
                  refine lv_iload_n hx hb dX12_tryShelf_143 rfl (lv_at hl 3 rfl) ?_
                  refine lv_iload hx hb dX12_tryShelf_144 (lv_at hl 0 rfl) ?_
                  refine va_iast hx hb hK hP hD hS 3 2 rfl rfl (pv_c (x := 6) (n := 8) (by decide)) dX12_tryShelf_146 (fun H locs hP hD hS => ?_)
                  obtain ⟨fn74, efn74⟩ : ∃ g : Nat → Int32, g = upd fn24 (Int32.toNatClampNeg 6) x21 := ⟨_, rfl⟩
                  rw [← efn74] at hP hD
                  have hP : va_P (dC, dI) vwCl (wd_90cd99f9 h0 v0 r0 v1 v2 v3 v4 r1 r2 r3 r4 r5 r6 r7 v5 v6 r8 r9 r10 r11 v7 h1 r12 v8 v9 h2 r13 v10 v11 r14 v12 v13 r15 v14 w15 r16 x22 x23 h3 h4 r17 r18 r19 r20 v18 r21 r22 r23 v19 h1 g0 f20 h2 g1 f21 h3 g2 fn74 h4 g3 fn73) H := hP
                  have hD : va_D A (wd_90cd99f9 h0 v0 r0 v1 v2 v3 v4 r1 r2 r3 r4 r5 r6 r7 v5 v6 r8 r9 r10 r11 v7 h1 r12 v8 v9 h2 r13 v10 v11 r14 v12 v13 r15 v14 w15 r16 x22 x23 h3 h4 r17 r18 r19 r20 v18 r21 r22 r23 v19 h1 g0 f20 h2 g1 f21 h3 g2 fn74 h4 g3 fn73) := hD
                  refine lv_aload_n hx hb dX12_tryShelf_147 rfl (lv_at hl 2 rfl) ?_
                  refine lv_iload_n hx hb dX12_tryShelf_148 rfl (lv_at hl 3 rfl) ?_
                  refine lv_iconst (v := 1) hx hb dX12_tryShelf_149 (by decide) ?_
                  refine lv_iadd hx hb dX12_tryShelf_150 ?_
                  refine lv_topi (fun tv75 etv75 => ?_)
                  obtain rfl : tv75 = (7 : Int32) := etv75.trans (by first | rfl | decide)
                  refine lv_bipush (v := 10) hx hb dX12_tryShelf_151 (by decide) ?_
                  refine lv_iload_n hx hb dX12_tryShelf_153 rfl (lv_at hl 4 rfl) ?_
                  refine lv_imul hx hb dX12_tryShelf_154 ?_
                  refine lv_topi (fun t76 et76 => ?_)
                  refine lv_iload hx hb dX12_tryShelf_155 (lv_at hl 0 rfl) ?_
                  refine lv_iadd hx hb dX12_tryShelf_157 ?_
                  refine lv_topi (fun t77 et77 => ?_)
                  refine lv_iload_n hx hb dX12_tryShelf_158 rfl (lv_at hl 5 rfl) ?_
                  refine lv_aload_n hx hb dX12_tryShelf_159 rfl (lv_at hl 2 rfl) ?_
                  refine va_get (D := (dC, dI)) (ci := 12) (v := .ref h4) (C := RX12) (T := TX12) (N := 48) hx hb hts (fun _ h => List.mem_cons_of_mem _ (List.mem_append_right _ h)) hown hK hP 0 rfl rfl 38 (by decide) (hts (.fieldLink RX12 77 "LeftArgumentsModel" "room" "[I") (List.mem_cons_of_mem _ (List.mem_append_left _ (List.mem_of_getElem? (i := 31) rfl)))) (fun _ h9 => h9) rfl dX12_tryShelf_160 ?_
                  refine lv_iload hx hb dX12_tryShelf_163 (lv_at hl 0 rfl) ?_
                  refine va_iald hx hb hK hP 4 3 rfl rfl (vp_in_iff.mpr ⟨by omega, by omega⟩) dX12_tryShelf_165 ?_
                  refine lv_topi (fun t78 et78 => ?_)
                  refine lv_aload_n hx hb dX12_tryShelf_166 rfl (lv_at hl 2 rfl) ?_
                  refine lv_iload_n hx hb dX12_tryShelf_167 rfl (lv_at hl 3 rfl) ?_
                  refine lv_iconst (v := 0) hx hb dX12_tryShelf_168 (by decide) ?_
                  have hPc := hP.sub (ws' := (wd_5013416a h0 v0 r0 v1 v2 v3 v4 r1 r2 r3 r4 r5 r6 r7 v5 v6 r8 r9 r10 r11 v7 h1 r12 v8 v9 h2 r13 v10 v11 r14 v12 v13 r15 v14 w15 r16 x22 x23 h3 h4 r17 r18 r19 r20 v18 r21 r22 r23 v19 h2 g1 f21)) [0, 2] rfl
                  have hDc := hD.sub (ws' := (wd_5013416a h0 v0 r0 v1 v2 v3 v4 r1 r2 r3 r4 r5 r6 r7 v5 v6 r8 r9 r10 r11 v7 h1 r12 v8 v9 h2 r13 v10 v11 r14 v12 v13 r15 v14 w15 r16 x22 x23 h3 h4 r17 r18 r19 r20 v18 r21 r22 r23 v19 h2 g1 f21)) [0, 2] (by decide) rfl
                  have hKc := hK.sub (tys' := [(g1, .int)]) [1] rfl
                  have hFc := va_free (wc := (wd_5013416a h0 v0 r0 v1 v2 v3 v4 r1 r2 r3 r4 r5 r6 r7 v5 v6 r8 r9 r10 r11 v7 h1 r12 v8 v9 h2 r13 v10 v11 r14 v12 v13 r15 v14 w15 r16 x22 x23 h3 h4 r17 r18 r19 r20 v18 r21 r22 r23 v19 h2 g1 f21)) hD hS hA [0, 2] rfl
                  refine va_calli (va_runV (As := [.int 6, .int 0]) (rest := [.int t78, .int v25, .int t77, .int 7, .ref h0]) ⟨hx, hb, hml, hown, hts⟩ (k_X12_of_3 l dC dI h0 h2 v0 r0 v1 v2 v3 v4 r1 r2 r3 r4 r5 r6 r7 v5 v6 r8 r9 r10 r11 v7 h1 r12 v8 v9 r13 v10 v11 r14 v12 v13 r15 v14 w15 r16 x22 x23 h3 h4 r17 r18 r19 r20 v18 r21 r22 r23 v19 g1 f21 6 ⟨i_v1a, i_v1b⟩ ⟨i_v5a, i_v5b⟩ ⟨i_v6a, i_v6b⟩ ⟨i_v7a, i_v7b⟩ ⟨i_v8a, i_v8b⟩ ⟨i_v9a, i_v9b⟩ ⟨i_v10a, i_v10b⟩ ⟨i_v14a, i_v14b⟩ ⟨i_v18a, i_v18b⟩ ⟨i_v19a, i_v19b⟩ ⟨by decide, by decide⟩ ia_f21.1 H.size) (cwV 2 hts g_X12_tryShelf_2_2 rfl rfl rfl (by decide +kernel) ⟨Nat.le_of_ble_eq_true rfl, Nat.le_of_ble_eq_true rfl⟩) (pv_PV12 hPc hKc hDc (q0 := 0) rfl) rfl rfl hl.1 rfl (lv_room (Nat.le_of_ble_eq_true rfl)) dX12_tryShelf_169 ⟨Nat.le_of_ble_eq_true rfl, Nat.le_of_ble_eq_true rfl⟩) hS (fun q _ h => hFc q h) hFc (fun ra79 u t H1 locs ht hvm hwra79 hB hz1 hk1 hS => ?_)
                  try rw [hwra79] at hB
                  have hkra79_0 : ((6 : Int32)).toInt = 6 := by decide
                  obtain ⟨pt0_ra79, pt1_ra79, pt2_ra79, hP1, hK1, hD1⟩ := hB
                  rw [ht] at hP1
                  obtain ⟨hP2, hD2⟩ := va_join (wr := (wd_20b67a68 h1 g0 f20 h3 g2 fn74 h4 g3 fn73)) (w1 := (wd_5013416a h0 v0 r0 v1 v2 v3 v4 r1 r2 r3 r4 r5 r6 r7 v5 v6 r8 r9 r10 r11 v7 h1 r12 v8 v9 h2 r13 v10 v11 r14 v12 v13 r15 v14 w15 r16 x22 x23 h3 h4 r17 r18 r19 r20 v18 r21 r22 r23 v19 h2 g1 f21)) hP hD [0, 2] [1, 3, 4] rfl rfl (by decide) (by decide) hk1 hFc hP1 hD1
                  clear hP hD hPc hDc hKc hFc hP1 hK1 hD1 hk1 hz1
                  generalize H1 = H at hP2 hS ⊢
                  have hP := hP2.sub (ws' := (wd_90cd99f9 h0 v0 r0 v1 v2 v3 v4 r1 r2 r3 r4 r5 r6 r7 v5 v6 r8 r9 r10 r11 v7 h1 r12 v8 v9 h2 r13 v10 v11 r14 v12 v13 r15 v14 w15 r16 x22 x23 h3 h4 r17 r18 r19 r20 v18 r21 r22 r23 v19 h1 g0 f20 h2 g1 f21 h3 g2 fn74 h4 g3 fn73)) [3, 0, 4, 1, 2] rfl
                  have hD := hD2.sub (ws' := (wd_90cd99f9 h0 v0 r0 v1 v2 v3 v4 r1 r2 r3 r4 r5 r6 r7 v5 v6 r8 r9 r10 r11 v7 h1 r12 v8 v9 h2 r13 v10 v11 r14 v12 v13 r15 v14 w15 r16 x22 x23 h3 h4 r17 r18 r19 r20 v18 r21 r22 r23 v19 h1 g0 f20 h2 g1 f21 h3 g2 fn74 h4 g3 fn73)) [3, 0, 4, 1, 2] (by decide) rfl
                  clear hP2 hD2
                  have hJ81 : ∀ (x80 : Int32) (H : Heap) (locs : List Loc) (ls : Array Slot), 0 ≤ x80.toInt → x80.toInt ≤ 1 → va_P (dC, dI) vwCl (wd_90cd99f9 h0 v0 r0 v1 v2 v3 v4 r1 r2 r3 r4 r5 r6 r7 v5 v6 r8 r9 r10 r11 v7 h1 r12 v8 v9 h2 r13 v10 v11 r14 v12 v13 r15 v14 w15 r16 x22 x23 h3 h4 r17 r18 r19 r20 v18 r21 r22 r23 v19 h1 g0 f20 h2 g1 f21 h3 g2 fn74 h4 g3 fn73) H → va_D A (wd_90cd99f9 h0 v0 r0 v1 v2 v3 v4 r1 r2 r3 r4 r5 r6 r7 v5 v6 r8 r9 r10 r11 v7 h1 r12 v8 v9 h2 r13 v10 v11 r14 v12 v13 r15 v14 w15 r16 x22 x23 h3 h4 r17 r18 r19 r20 v18 r21 r22 r23 v19 h1 g0 f20 h2 g1 f21 h3 g2 fn74 h4 g3 fn73) → va_S A s.heap H locs → lv_has ls 7 [(6, .int x21), (5, .int x4), (0, .ref h0), (1, .int 6), (2, .int v24), (3, .int v25), (4, .int v26)] → W p l e ({ frames := 5, cells := 0, slots := 0, locals := 114 }) s m ([.ref h0, .int 6, .int v24, .int v25, .int v26] : List Value).toArray below meth c H locs 0 0 Q (F0 m 180 ls [.int x80, .int v25, .int t77, .int 7, .ref h0]) := by
                    intro x80 H locs ls qa_x80 qb_x80 hP hD hS hl
                    refine lv_iadd hx hb dX12_tryShelf_180 ?_
                    refine lv_topi (fun t82 et82 => ?_)
                    refine lv_iload hx hb dX12_tryShelf_181 (lv_at hl 6 rfl) ?_
                    have hPc := hP.sub (ws' := (wd_90cd99f9 h0 v0 r0 v1 v2 v3 v4 r1 r2 r3 r4 r5 r6 r7 v5 v6 r8 r9 r10 r11 v7 h1 r12 v8 v9 h2 r13 v10 v11 r14 v12 v13 r15 v14 w15 r16 x22 x23 h3 h4 r17 r18 r19 r20 v18 r21 r22 r23 v19 h1 g0 f20 h2 g1 f21 h3 g2 fn74 h4 g3 fn73)) [0, 1, 2, 3, 4] rfl
                    have hDc := hD.sub (ws' := (wd_90cd99f9 h0 v0 r0 v1 v2 v3 v4 r1 r2 r3 r4 r5 r6 r7 v5 v6 r8 r9 r10 r11 v7 h1 r12 v8 v9 h2 r13 v10 v11 r14 v12 v13 r15 v14 w15 r16 x22 x23 h3 h4 r17 r18 r19 r20 v18 r21 r22 r23 v19 h1 g0 f20 h2 g1 f21 h3 g2 fn74 h4 g3 fn73)) [0, 1, 2, 3, 4] (by decide) rfl
                    have hKc := hK.sub (tys' := [(g0, .int), (g1, .int), (g2, .int), (g3, .int)]) [0, 1, 2, 3] rfl
                    have hFc := va_free (wc := (wd_90cd99f9 h0 v0 r0 v1 v2 v3 v4 r1 r2 r3 r4 r5 r6 r7 v5 v6 r8 r9 r10 r11 v7 h1 r12 v8 v9 h2 r13 v10 v11 r14 v12 v13 r15 v14 w15 r16 x22 x23 h3 h4 r17 r18 r19 r20 v18 r21 r22 r23 v19 h1 g0 f20 h2 g1 f21 h3 g2 fn74 h4 g3 fn73)) hD hS hA [0, 1, 2, 3, 4] rfl
                    refine va_callv (va_runV (As := [.int 7, .int t77, .int t82, .int v26]) (rest := []) ⟨hx, hb, hml, hown, hts⟩ (k_X12_tryShelf_1 l dC dI h0 h1 h2 h3 h4 v0 r0 v1 v2 v3 v4 r1 r2 r3 r4 r5 r6 r7 v5 v6 r8 r9 r10 r11 v7 r12 v8 v9 r13 v10 v11 r14 v12 v13 r15 v14 w15 r16 x22 x23 r17 r18 r19 r20 v18 r21 r22 r23 v19 g0 f20 g1 f21 g2 fn74 g3 fn73 t77 t82 v26 ⟨i_v1a, i_v1b⟩ ⟨i_v5a, i_v5b⟩ ⟨i_v6a, i_v6b⟩ ⟨i_v7a, i_v7b⟩ ⟨i_v8a, i_v8b⟩ ⟨i_v9a, i_v9b⟩ ⟨i_v10a, i_v10b⟩ ⟨i_v14a, i_v14b⟩ ⟨i_v18a, i_v18b⟩ ⟨i_v19a, i_v19b⟩ ⟨i_v26a, i_v26b⟩ ia_f20 ia_f21 H.size) (cwV 4 hts g_X12_tryShelf_2_4 rfl rfl rfl (by decide +kernel) ⟨Nat.le_of_ble_eq_true rfl, Nat.le_of_ble_eq_true rfl⟩) (pv_PV12 hPc hKc hDc (q0 := 0) rfl) rfl rfl hl.1 rfl (lv_room (Nat.le_of_ble_eq_true rfl)) dX12_tryShelf_183 ⟨Nat.le_of_ble_eq_true rfl, Nat.le_of_ble_eq_true rfl⟩) hS (fun q _ h => hFc q h) hFc (fun u t H1 locs ht hvm hwra83 hB hz1 hk1 hS => ?_)
                    obtain ⟨x84, x85, fn86, fn87, hP1, hK1, hD1⟩ := hB
                    rw [ht] at hP1
                    obtain ⟨hP2, hD2⟩ := va_join (wr := []) (w1 := (wd_90cd99f9 h0 v0 r0 v1 v2 v3 v4 r1 r2 r3 r4 r5 r6 r7 v5 v6 r8 r9 r10 r11 v7 h1 r12 v8 v9 h2 r13 v10 v11 r14 v12 v13 r15 v14 w15 r16 x84 x85 h3 h4 r17 r18 r19 r20 v18 r21 r22 r23 v19 h1 g0 f20 h2 g1 f21 h3 g2 fn86 h4 g3 fn87)) hP hD [0, 1, 2, 3, 4] [] rfl rfl (by decide) (by decide) hk1 hFc hP1 hD1
                    clear hP hD hPc hDc hKc hFc hP1 hK1 hD1 hk1 hz1
                    generalize H1 = H at hP2 hS ⊢
                    have hP : va_P (dC, dI) vwCl (wd_90cd99f9 h0 v0 r0 v1 v2 v3 v4 r1 r2 r3 r4 r5 r6 r7 v5 v6 r8 r9 r10 r11 v7 h1 r12 v8 v9 h2 r13 v10 v11 r14 v12 v13 r15 v14 w15 r16 x84 x85 h3 h4 r17 r18 r19 r20 v18 r21 r22 r23 v19 h1 g0 f20 h2 g1 f21 h3 g2 fn86 h4 g3 fn87) H := hP2
                    have hD : va_D A (wd_90cd99f9 h0 v0 r0 v1 v2 v3 v4 r1 r2 r3 r4 r5 r6 r7 v5 v6 r8 r9 r10 r11 v7 h1 r12 v8 v9 h2 r13 v10 v11 r14 v12 v13 r15 v14 w15 r16 x84 x85 h3 h4 r17 r18 r19 r20 v18 r21 r22 r23 v19 h1 g0 f20 h2 g1 f21 h3 g2 fn86 h4 g3 fn87) := hD2
                    clear hP2 hD2
                    refine lv_aload_n hx hb dX12_tryShelf_186 rfl (lv_at hl 2 rfl) ?_
                    refine va_get (D := (dC, dI)) (ci := 12) (v := .ref h4) (C := RX12) (T := TX12) (N := 48) hx hb hts (fun _ h => List.mem_cons_of_mem _ (List.mem_append_right _ h)) hown hK hP 0 rfl rfl 38 (by decide) (hts (.fieldLink RX12 77 "LeftArgumentsModel" "room" "[I") (List.mem_cons_of_mem _ (List.mem_append_left _ (List.mem_of_getElem? (i := 31) rfl)))) (fun _ h9 => h9) rfl dX12_tryShelf_187 ?_
                    refine lv_iload hx hb dX12_tryShelf_190 (lv_at hl 0 rfl) ?_
                    refine lv_dup2_11 hx hb dX12_tryShelf_192 rfl rfl ?_
                    refine va_iald hx hb hK hP 4 3 rfl rfl (vp_in_iff.mpr ⟨by omega, by omega⟩) dX12_tryShelf_193 ?_
                    refine lv_topi (fun t88 et88 => ?_)
                    refine lv_aload_n hx hb dX12_tryShelf_194 rfl (lv_at hl 2 rfl) ?_
                    refine lv_iload_n hx hb dX12_tryShelf_195 rfl (lv_at hl 3 rfl) ?_
                    refine lv_iconst (v := 0) hx hb dX12_tryShelf_196 (by decide) ?_
                    have hPc := hP.sub (ws' := (wd_5013416a h0 v0 r0 v1 v2 v3 v4 r1 r2 r3 r4 r5 r6 r7 v5 v6 r8 r9 r10 r11 v7 h1 r12 v8 v9 h2 r13 v10 v11 r14 v12 v13 r15 v14 w15 r16 x84 x85 h3 h4 r17 r18 r19 r20 v18 r21 r22 r23 v19 h2 g1 f21)) [0, 2] rfl
                    have hDc := hD.sub (ws' := (wd_5013416a h0 v0 r0 v1 v2 v3 v4 r1 r2 r3 r4 r5 r6 r7 v5 v6 r8 r9 r10 r11 v7 h1 r12 v8 v9 h2 r13 v10 v11 r14 v12 v13 r15 v14 w15 r16 x84 x85 h3 h4 r17 r18 r19 r20 v18 r21 r22 r23 v19 h2 g1 f21)) [0, 2] (by decide) rfl
                    have hKc := hK.sub (tys' := [(g1, .int)]) [1] rfl
                    have hFc := va_free (wc := (wd_5013416a h0 v0 r0 v1 v2 v3 v4 r1 r2 r3 r4 r5 r6 r7 v5 v6 r8 r9 r10 r11 v7 h1 r12 v8 v9 h2 r13 v10 v11 r14 v12 v13 r15 v14 w15 r16 x84 x85 h3 h4 r17 r18 r19 r20 v18 r21 r22 r23 v19 h2 g1 f21)) hD hS hA [0, 2] rfl
                    refine va_calli (va_runV (As := [.int 6, .int 0]) (rest := [.int t88, .int x21, .ref h4]) ⟨hx, hb, hml, hown, hts⟩ (k_X12_of_3 l dC dI h0 h2 v0 r0 v1 v2 v3 v4 r1 r2 r3 r4 r5 r6 r7 v5 v6 r8 r9 r10 r11 v7 h1 r12 v8 v9 r13 v10 v11 r14 v12 v13 r15 v14 w15 r16 x84 x85 h3 h4 r17 r18 r19 r20 v18 r21 r22 r23 v19 g1 f21 6 ⟨i_v1a, i_v1b⟩ ⟨i_v5a, i_v5b⟩ ⟨i_v6a, i_v6b⟩ ⟨i_v7a, i_v7b⟩ ⟨i_v8a, i_v8b⟩ ⟨i_v9a, i_v9b⟩ ⟨i_v10a, i_v10b⟩ ⟨i_v14a, i_v14b⟩ ⟨i_v18a, i_v18b⟩ ⟨i_v19a, i_v19b⟩ ⟨by decide, by decide⟩ ia_f21.1 H.size) (cwV 2 hts g_X12_tryShelf_2_2 rfl rfl rfl (by decide +kernel) ⟨Nat.le_of_ble_eq_true rfl, Nat.le_of_ble_eq_true rfl⟩) (pv_PV12 hPc hKc hDc (q0 := 0) rfl) rfl rfl hl.1 rfl (lv_room (Nat.le_of_ble_eq_true rfl)) dX12_tryShelf_197 ⟨Nat.le_of_ble_eq_true rfl, Nat.le_of_ble_eq_true rfl⟩) hS (fun q _ h => hFc q h) hFc (fun ra89 u t H1 locs ht hvm hwra89 hB hz1 hk1 hS => ?_)
                    try rw [hwra89] at hB
                    have hkra89_0 : ((6 : Int32)).toInt = 6 := by decide
                    obtain ⟨pt0_ra89, pt1_ra89, pt2_ra89, hP1, hK1, hD1⟩ := hB
                    rw [ht] at hP1
                    obtain ⟨hP2, hD2⟩ := va_join (wr := (wd_20b67a68 h1 g0 f20 h3 g2 fn86 h4 g3 fn87)) (w1 := (wd_5013416a h0 v0 r0 v1 v2 v3 v4 r1 r2 r3 r4 r5 r6 r7 v5 v6 r8 r9 r10 r11 v7 h1 r12 v8 v9 h2 r13 v10 v11 r14 v12 v13 r15 v14 w15 r16 x84 x85 h3 h4 r17 r18 r19 r20 v18 r21 r22 r23 v19 h2 g1 f21)) hP hD [0, 2] [1, 3, 4] rfl rfl (by decide) (by decide) hk1 hFc hP1 hD1
                    clear hP hD hPc hDc hKc hFc hP1 hK1 hD1 hk1 hz1
                    generalize H1 = H at hP2 hS ⊢
                    have hP := hP2.sub (ws' := (wd_90cd99f9 h0 v0 r0 v1 v2 v3 v4 r1 r2 r3 r4 r5 r6 r7 v5 v6 r8 r9 r10 r11 v7 h1 r12 v8 v9 h2 r13 v10 v11 r14 v12 v13 r15 v14 w15 r16 x84 x85 h3 h4 r17 r18 r19 r20 v18 r21 r22 r23 v19 h1 g0 f20 h2 g1 f21 h3 g2 fn86 h4 g3 fn87)) [3, 0, 4, 1, 2] rfl
                    have hD := hD2.sub (ws' := (wd_90cd99f9 h0 v0 r0 v1 v2 v3 v4 r1 r2 r3 r4 r5 r6 r7 v5 v6 r8 r9 r10 r11 v7 h1 r12 v8 v9 h2 r13 v10 v11 r14 v12 v13 r15 v14 w15 r16 x84 x85 h3 h4 r17 r18 r19 r20 v18 r21 r22 r23 v19 h1 g0 f20 h2 g1 f21 h3 g2 fn86 h4 g3 fn87)) [3, 0, 4, 1, 2] (by decide) rfl
                    clear hP2 hD2
                    refine lv_isub hx hb dX12_tryShelf_200 ?_
                    refine lv_topi (fun t90 et90 => ?_)
                    refine va_iast hx hb hK hP hD hS 4 3 rfl rfl (vp_in_iff.mpr ⟨by omega, by omega⟩) dX12_tryShelf_201 (fun H locs hP hD hS => ?_)
                    obtain ⟨fn91, efn91⟩ : ∃ g : Nat → Int32, g = upd fn87 (Int32.toNatClampNeg x21) t90 := ⟨_, rfl⟩
                    rw [← efn91] at hP hD
                    have hP : va_P (dC, dI) vwCl (wd_90cd99f9 h0 v0 r0 v1 v2 v3 v4 r1 r2 r3 r4 r5 r6 r7 v5 v6 r8 r9 r10 r11 v7 h1 r12 v8 v9 h2 r13 v10 v11 r14 v12 v13 r15 v14 w15 r16 x84 x85 h3 h4 r17 r18 r19 r20 v18 r21 r22 r23 v19 h1 g0 f20 h2 g1 f21 h3 g2 fn86 h4 g3 fn91) H := hP
                    have hD : va_D A (wd_90cd99f9 h0 v0 r0 v1 v2 v3 v4 r1 r2 r3 r4 r5 r6 r7 v5 v6 r8 r9 r10 r11 v7 h1 r12 v8 v9 h2 r13 v10 v11 r14 v12 v13 r15 v14 w15 r16 x84 x85 h3 h4 r17 r18 r19 r20 v18 r21 r22 r23 v19 h1 g0 f20 h2 g1 f21 h3 g2 fn86 h4 g3 fn91) := hD
                    exact hJ37 x84 x85 fn86 fn91 H locs ls hP hD hS (lv_sub hl [0, 1, 2, 3, 4, 5, 6] rfl)
                  refine lv_icmp_ne (tgt := 179) hx hb dX12_tryShelf_172 (by decide) (fun c92 => ?_) (fun c92 => ?_)
                  · skip
                    have fc92 : ¬ (t78.toInt = ra79.toInt) := fun h9 => c92 (Int32.toInt_inj.mp h9)
                    have r1c92 := Int32.toInt_lt t78
                    have r2c92 := Int32.toInt_lt ra79
                    have r3c92 := Int32.le_toInt t78
                    have r4c92 := Int32.le_toInt ra79
                    refine lv_iconst (v := 0) hx hb dX12_tryShelf_179 (by decide) ?_
                    exact hJ81 0 H locs ls (by decide) (by decide) hP hD hS (lv_sub hl [0, 1, 2, 3, 4, 5, 6] rfl)
                  · skip
                    have fc92 : t78.toInt = ra79.toInt := congrArg Int32.toInt c92
                    have r1c92 := Int32.toInt_lt t78
                    have r2c92 := Int32.toInt_lt ra79
                    have r3c92 := Int32.le_toInt t78
                    have r4c92 := Int32.le_toInt ra79
                    refine lv_iconst (v := 1) hx hb dX12_tryShelf_175 (by decide) ?_
                    refine lv_goto (tgt := 180) hx hb dX12_tryShelf_176 (by decide) ?_
                    exact hJ81 1 H locs ls (by decide) (by decide) hP hD hS (lv_sub hl [0, 1, 2, 3, 4, 5, 6] rfl)
        exact hL31 _ 0 v16 v17 f22 f23 H locs ls (by decide) (by decide) (Nat.lt_succ_self _) hP hD hS (lv_sub hl [0, 1, 2, 3, 4, 5, 6] rfl)
      refine lv_if_eq (tgt := 68) hx hb dX12_tryShelf_56 (by decide) (fun c93 => ?_) (fun c93 => ?_)
      · skip
        have fc93 : v26.toInt = 0 := congrArg Int32.toInt c93
        refine lv_bipush (v := 8) hx hb dX12_tryShelf_68 (by decide) ?_
        exact hJ5 8 H locs ls (by decide) (by decide) hP hD hS (lv_sub hl [0, 1, 2, 3, 4] rfl)
      · skip
        have fc93 : ¬ (v26.toInt = 0) := fun h9 => c93 (Int32.toInt_inj.mp h9)
        refine lv_aload_n hx hb dX12_tryShelf_59 rfl (lv_at hl 0 rfl) ?_
        refine va_get (D := (dC, dI)) (ci := 12) (v := .ref h1) (C := RX12) (T := TX12) (N := 48) hx hb hts (fun _ h => List.mem_cons_of_mem _ (List.mem_append_right _ h)) hown hK hP 0 rfl rfl 20 (by decide) (hts (.fieldLink RX12 46 "LeftArgumentsModel" "rule" "[I") (List.mem_cons_of_mem _ (List.mem_append_left _ (List.mem_of_getElem? (i := 37) rfl)))) (fun _ h9 => h9) rfl dX12_tryShelf_60 ?_
        refine lv_iconst (v := 1) hx hb dX12_tryShelf_63 (by decide) ?_
        refine va_iald hx hb hK hP 1 0 rfl rfl (pv_c (x := 1) (n := 4) (by decide)) dX12_tryShelf_64 ?_
        refine lv_topi (fun t94 et94 => ?_)
        have gat94 : 0 ≤ t94.toInt ∧ t94.toInt ≤ 5 := by rw [et94]; exact ia_f20.1
        refine lv_goto (tgt := 70) hx hb dX12_tryShelf_65 (by decide) ?_
        exact hJ5 t94 H locs ls (by first | omega | decide) (by first | omega | decide) hP hD hS (lv_sub hl [0, 1, 2, 3, 4] rfl)
    · skip
      have fc3 : ra2.toInt = 0 := congrArg Int32.toInt c3
      have q0wra2 := wra2 (by omega)
      refine lv_aload_n hx hb dX12_tryShelf_42 rfl (lv_at hl 0 rfl) ?_
      refine lv_iload_n hx hb dX12_tryShelf_43 rfl (lv_at hl 1 rfl) ?_
      refine lv_iconst (v := 1) hx hb dX12_tryShelf_44 (by decide) ?_
      refine lv_iadd hx hb dX12_tryShelf_45 ?_
      refine lv_topi (fun tv95 etv95 => ?_)
      obtain rfl : tv95 = (7 : Int32) := etv95.trans (by first | rfl | decide)
      refine lv_iload_n hx hb dX12_tryShelf_46 rfl (lv_at hl 2 rfl) ?_
      refine lv_iload_n hx hb dX12_tryShelf_47 rfl (lv_at hl 3 rfl) ?_
      refine lv_iload hx hb dX12_tryShelf_48 (lv_at hl 4 rfl) ?_
      have hPc := hP.sub (ws' := (wd_90cd99f9 h0 v0 r0 v1 v2 v3 v4 r1 r2 r3 r4 r5 r6 r7 v5 v6 r8 r9 r10 r11 v7 h1 r12 v8 v9 h2 r13 v10 v11 r14 v12 v13 r15 v14 w15 r16 v16 v17 h3 h4 r17 r18 r19 r20 v18 r21 r22 r23 v19 h1 g0 f20 h2 g1 f21 h3 g2 f22 h4 g3 f23)) [0, 1, 2, 3, 4] rfl
      have hDc := hD.sub (ws' := (wd_90cd99f9 h0 v0 r0 v1 v2 v3 v4 r1 r2 r3 r4 r5 r6 r7 v5 v6 r8 r9 r10 r11 v7 h1 r12 v8 v9 h2 r13 v10 v11 r14 v12 v13 r15 v14 w15 r16 v16 v17 h3 h4 r17 r18 r19 r20 v18 r21 r22 r23 v19 h1 g0 f20 h2 g1 f21 h3 g2 f22 h4 g3 f23)) [0, 1, 2, 3, 4] (by decide) rfl
      have hKc := hK.sub (tys' := [(g0, .int), (g1, .int), (g2, .int), (g3, .int)]) [0, 1, 2, 3] rfl
      have hFc := va_free (wc := (wd_90cd99f9 h0 v0 r0 v1 v2 v3 v4 r1 r2 r3 r4 r5 r6 r7 v5 v6 r8 r9 r10 r11 v7 h1 r12 v8 v9 h2 r13 v10 v11 r14 v12 v13 r15 v14 w15 r16 v16 v17 h3 h4 r17 r18 r19 r20 v18 r21 r22 r23 v19 h1 g0 f20 h2 g1 f21 h3 g2 f22 h4 g3 f23)) hD hS hA [0, 1, 2, 3, 4] rfl
      refine va_callv (va_runV (As := [.int 7, .int v24, .int v25, .int v26]) (rest := []) ⟨hx, hb, hml, hown, hts⟩ (k_X12_tryShelf_1 l dC dI h0 h1 h2 h3 h4 v0 r0 v1 v2 v3 v4 r1 r2 r3 r4 r5 r6 r7 v5 v6 r8 r9 r10 r11 v7 r12 v8 v9 r13 v10 v11 r14 v12 v13 r15 v14 w15 r16 v16 v17 r17 r18 r19 r20 v18 r21 r22 r23 v19 g0 f20 g1 f21 g2 f22 g3 f23 v24 v25 v26 ⟨i_v1a, i_v1b⟩ ⟨i_v5a, i_v5b⟩ ⟨i_v6a, i_v6b⟩ ⟨i_v7a, i_v7b⟩ ⟨i_v8a, i_v8b⟩ ⟨i_v9a, i_v9b⟩ ⟨i_v10a, i_v10b⟩ ⟨i_v14a, i_v14b⟩ ⟨i_v18a, i_v18b⟩ ⟨i_v19a, i_v19b⟩ ⟨i_v26a, i_v26b⟩ ia_f20 ia_f21 H.size) (cwV 4 hts g_X12_tryShelf_2_4 rfl rfl rfl (by decide +kernel) ⟨Nat.le_of_ble_eq_true rfl, Nat.le_of_ble_eq_true rfl⟩) (pv_PV12 hPc hKc hDc (q0 := 0) rfl) rfl rfl hl.1 rfl (lv_room (Nat.le_of_ble_eq_true rfl)) dX12_tryShelf_50 ⟨Nat.le_of_ble_eq_true rfl, Nat.le_of_ble_eq_true rfl⟩) hS (fun q _ h => hFc q h) hFc (fun u t H1 locs ht hvm hwra96 hB hz1 hk1 hS => ?_)
      obtain ⟨x97, x98, fn99, fn100, hP1, hK1, hD1⟩ := hB
      rw [ht] at hP1
      obtain ⟨hP2, hD2⟩ := va_join (wr := []) (w1 := (wd_90cd99f9 h0 v0 r0 v1 v2 v3 v4 r1 r2 r3 r4 r5 r6 r7 v5 v6 r8 r9 r10 r11 v7 h1 r12 v8 v9 h2 r13 v10 v11 r14 v12 v13 r15 v14 w15 r16 x97 x98 h3 h4 r17 r18 r19 r20 v18 r21 r22 r23 v19 h1 g0 f20 h2 g1 f21 h3 g2 fn99 h4 g3 fn100)) hP hD [0, 1, 2, 3, 4] [] rfl rfl (by decide) (by decide) hk1 hFc hP1 hD1
      clear hP hD hPc hDc hKc hFc hP1 hK1 hD1 hk1 hz1
      generalize H1 = H at hP2 hS ⊢
      have hP : va_P (dC, dI) vwCl (wd_90cd99f9 h0 v0 r0 v1 v2 v3 v4 r1 r2 r3 r4 r5 r6 r7 v5 v6 r8 r9 r10 r11 v7 h1 r12 v8 v9 h2 r13 v10 v11 r14 v12 v13 r15 v14 w15 r16 x97 x98 h3 h4 r17 r18 r19 r20 v18 r21 r22 r23 v19 h1 g0 f20 h2 g1 f21 h3 g2 fn99 h4 g3 fn100) H := hP2
      have hD : va_D A (wd_90cd99f9 h0 v0 r0 v1 v2 v3 v4 r1 r2 r3 r4 r5 r6 r7 v5 v6 r8 r9 r10 r11 v7 h1 r12 v8 v9 h2 r13 v10 v11 r14 v12 v13 r15 v14 w15 r16 x97 x98 h3 h4 r17 r18 r19 r20 v18 r21 r22 r23 v19 h1 g0 f20 h2 g1 f21 h3 g2 fn99 h4 g3 fn100) := hD2
      clear hP2 hD2
      subst hQ
      have hP9 := hP.sub (ws' := (wd_90cd99f9 h0 v0 r0 v1 v2 v3 v4 r1 r2 r3 r4 r5 r6 r7 v5 v6 r8 r9 r10 r11 v7 h1 r12 v8 v9 h2 r13 v10 v11 r14 v12 v13 r15 v14 w15 r16 x97 x98 h3 h4 r17 r18 r19 r20 v18 r21 r22 r23 v19 h1 g0 f20 h2 g1 f21 h3 g2 fn99 h4 g3 fn100)) [0, 1, 2, 3, 4] rfl
      have hD9 := hD.sub (ws' := (wd_90cd99f9 h0 v0 r0 v1 v2 v3 v4 r1 r2 r3 r4 r5 r6 r7 v5 v6 r8 r9 r10 r11 v7 h1 r12 v8 v9 h2 r13 v10 v11 r14 v12 v13 r15 v14 w15 r16 x97 x98 h3 h4 r17 r18 r19 r20 v18 r21 r22 r23 v19 h1 g0 f20 h2 g1 f21 h3 g2 fn99 h4 g3 fn100)) [0, 1, 2, 3, 4] (by decide) rfl
      have hK9 := hK.sub (tys' := []) [] rfl
      exact W.vret hx hb hr (fun t ht hW => ⟨⟨(), rfl, trivial, ⟨x97, x98, fn99, fn100, by rw [ht]; exact hP9, va_K.moved hW.alike hK9, hD9⟩⟩, hS.F ht⟩) hS.2.2 dX12_tryShelf_53
  · skip
    have fc1 : ¬ (v16.toInt = (-1)) := fun h9 => c1 (Int32.toInt_inj.mp h9)
    refine lv_iload_n hx hb dX12_tryShelf_8 rfl (lv_at hl 3 rfl) ?_
    refine lv_aload_n hx hb dX12_tryShelf_9 rfl (lv_at hl 0 rfl) ?_
    refine va_get (D := (dC, dI)) (ci := 12) (v := .int v17) (C := RX12) (T := TX12) (N := 48) hx hb hts (fun _ h => List.mem_cons_of_mem _ (List.mem_append_right _ h)) hown hK hP 0 rfl rfl 36 (by decide) (hts (.fieldLink RX12 391 "LeftArgumentsModel" "bestMany" "I") (List.mem_cons_of_mem _ (List.mem_append_left _ (List.mem_of_getElem? (i := 33) rfl)))) (fun _ h9 => h9) rfl dX12_tryShelf_10 ?_
    refine lv_icmp_lt (tgt := 17) hx hb dX12_tryShelf_13 (by decide) (fun c101 => ?_) (fun c101 => ?_)
    · skip
      have fc101 : v25.toInt < v17.toInt := Int32.lt_iff_toInt_lt.mp c101
      have r1c101 := Int32.toInt_lt v25
      have r2c101 := Int32.toInt_lt v17
      have r3c101 := Int32.le_toInt v25
      have r4c101 := Int32.le_toInt v17
      refine lv_iload_n hx hb dX12_tryShelf_17 rfl (lv_at hl 1 rfl) ?_
      refine lv_bipush (v := 8) hx hb dX12_tryShelf_18 (by decide) ?_
      refine lv_icmp_ne (tgt := 34) hx hb dX12_tryShelf_20 (by decide) (fun _ => ?_) (fun c => absurd c (by decide))
      refine lv_aload_n hx hb dX12_tryShelf_34 rfl (lv_at hl 0 rfl) ?_
      refine lv_iload_n hx hb dX12_tryShelf_35 rfl (lv_at hl 1 rfl) ?_
      have hPc := hP.sub (ws' := (wd_5013416a h0 v0 r0 v1 v2 v3 v4 r1 r2 r3 r4 r5 r6 r7 v5 v6 r8 r9 r10 r11 v7 h1 r12 v8 v9 h2 r13 v10 v11 r14 v12 v13 r15 v14 w15 r16 v16 v17 h3 h4 r17 r18 r19 r20 v18 r21 r22 r23 v19 h2 g1 f21)) [0, 2] rfl
      have hDc := hD.sub (ws' := (wd_5013416a h0 v0 r0 v1 v2 v3 v4 r1 r2 r3 r4 r5 r6 r7 v5 v6 r8 r9 r10 r11 v7 h1 r12 v8 v9 h2 r13 v10 v11 r14 v12 v13 r15 v14 w15 r16 v16 v17 h3 h4 r17 r18 r19 r20 v18 r21 r22 r23 v19 h2 g1 f21)) [0, 2] (by decide) rfl
      have hKc := hK.sub (tys' := [(g1, .int)]) [1] rfl
      have hFc := va_free (wc := (wd_5013416a h0 v0 r0 v1 v2 v3 v4 r1 r2 r3 r4 r5 r6 r7 v5 v6 r8 r9 r10 r11 v7 h1 r12 v8 v9 h2 r13 v10 v11 r14 v12 v13 r15 v14 w15 r16 v16 v17 h3 h4 r17 r18 r19 r20 v18 r21 r22 r23 v19 h2 g1 f21)) hD hS hA [0, 2] rfl
      refine va_calli (va_runV (As := [.int 6]) (rest := []) ⟨hx, hb, hml, hown, hts⟩ (k_X12_isThere l dC dI h0 h2 v0 r0 v1 v2 v3 v4 r1 r2 r3 r4 r5 r6 r7 v5 v6 r8 r9 r10 r11 v7 h1 r12 v8 v9 r13 v10 v11 r14 v12 v13 r15 v14 w15 r16 v16 v17 h3 h4 r17 r18 r19 r20 v18 r21 r22 r23 v19 g1 f21 6 ⟨i_v1a, i_v1b⟩ ⟨i_v5a, i_v5b⟩ ⟨i_v6a, i_v6b⟩ ⟨i_v7a, i_v7b⟩ ⟨i_v8a, i_v8b⟩ ⟨i_v9a, i_v9b⟩ ⟨i_v10a, i_v10b⟩ ⟨i_v14a, i_v14b⟩ ⟨i_v18a, i_v18b⟩ ⟨i_v19a, i_v19b⟩ ia_f21.1 H.size) (cwV 1 hts g_X12_tryShelf_2_0 rfl rfl rfl (by decide +kernel) ⟨Nat.le_of_ble_eq_true rfl, Nat.le_of_ble_eq_true rfl⟩) (pv_PV12 hPc hKc hDc (q0 := 0) rfl) rfl rfl hl.1 rfl (lv_room (Nat.le_of_ble_eq_true rfl)) dX12_tryShelf_36 ⟨Nat.le_of_ble_eq_true rfl, Nat.le_of_ble_eq_true rfl⟩) hS (fun q _ h => hFc q h) hFc (fun ra102 u t H1 locs ht hvm hwra102 hB hz1 hk1 hS => ?_)
      try rw [hwra102] at hB
      have hkra102_0 : ((6 : Int32)).toInt = 6 := by decide
      obtain ⟨pt0_ra102, pt1_ra102, pt2_ra102, pt3_ra102, pt4_ra102, pt5_ra102, hP1, hK1, hD1⟩ := hB
      rw [ht] at hP1
      obtain ⟨hP2, hD2⟩ := va_join (wr := (wd_20b67a68 h1 g0 f20 h3 g2 f22 h4 g3 f23)) (w1 := (wd_5013416a h0 v0 r0 v1 v2 v3 v4 r1 r2 r3 r4 r5 r6 r7 v5 v6 r8 r9 r10 r11 v7 h1 r12 v8 v9 h2 r13 v10 v11 r14 v12 v13 r15 v14 w15 r16 v16 v17 h3 h4 r17 r18 r19 r20 v18 r21 r22 r23 v19 h2 g1 f21)) hP hD [0, 2] [1, 3, 4] rfl rfl (by decide) (by decide) hk1 hFc hP1 hD1
      clear hP hD hPc hDc hKc hFc hP1 hK1 hD1 hk1 hz1
      generalize H1 = H at hP2 hS ⊢
      have hP := hP2.sub (ws' := (wd_90cd99f9 h0 v0 r0 v1 v2 v3 v4 r1 r2 r3 r4 r5 r6 r7 v5 v6 r8 r9 r10 r11 v7 h1 r12 v8 v9 h2 r13 v10 v11 r14 v12 v13 r15 v14 w15 r16 v16 v17 h3 h4 r17 r18 r19 r20 v18 r21 r22 r23 v19 h1 g0 f20 h2 g1 f21 h3 g2 f22 h4 g3 f23)) [3, 0, 4, 1, 2] rfl
      have hD := hD2.sub (ws' := (wd_90cd99f9 h0 v0 r0 v1 v2 v3 v4 r1 r2 r3 r4 r5 r6 r7 v5 v6 r8 r9 r10 r11 v7 h1 r12 v8 v9 h2 r13 v10 v11 r14 v12 v13 r15 v14 w15 r16 v16 v17 h3 h4 r17 r18 r19 r20 v18 r21 r22 r23 v19 h1 g0 f20 h2 g1 f21 h3 g2 f22 h4 g3 f23)) [3, 0, 4, 1, 2] (by decide) rfl
      clear hP2 hD2
      have wra102 : ra102.toInt = 0 → ¬ f21 (pm_I 6 7) = 1 := fun h9 => pt5_ra102 h9 (by omega) (by omega)
      refine lv_if_ne (tgt := 54) hx hb dX12_tryShelf_39 (by decide) (fun c103 => ?_) (fun c103 => ?_)
      · skip
        have fc103 : ¬ (ra102.toInt = 0) := fun h9 => c103 (Int32.toInt_inj.mp h9)
        have q1pt4_ra102 := pt4_ra102 (by omega)
        refine lv_iload hx hb dX12_tryShelf_54 (lv_at hl 4 rfl) ?_
        have hJ105 : ∀ (x104 : Int32) (H : Heap) (locs : List Loc) (ls : Array Slot), 0 ≤ x104.toInt → x104.toInt ≤ 8 → va_P (dC, dI) vwCl (wd_90cd99f9 h0 v0 r0 v1 v2 v3 v4 r1 r2 r3 r4 r5 r6 r7 v5 v6 r8 r9 r10 r11 v7 h1 r12 v8 v9 h2 r13 v10 v11 r14 v12 v13 r15 v14 w15 r16 v16 v17 h3 h4 r17 r18 r19 r20 v18 r21 r22 r23 v19 h1 g0 f20 h2 g1 f21 h3 g2 f22 h4 g3 f23) H → va_D A (wd_90cd99f9 h0 v0 r0 v1 v2 v3 v4 r1 r2 r3 r4 r5 r6 r7 v5 v6 r8 r9 r10 r11 v7 h1 r12 v8 v9 h2 r13 v10 v11 r14 v12 v13 r15 v14 w15 r16 v16 v17 h3 h4 r17 r18 r19 r20 v18 r21 r22 r23 v19 h1 g0 f20 h2 g1 f21 h3 g2 f22 h4 g3 f23) → va_S A s.heap H locs → lv_has ls 7 [(0, .ref h0), (1, .int 6), (2, .int v24), (3, .int v25), (4, .int v26)] → W p l e ({ frames := 5, cells := 0, slots := 0, locals := 114 }) s m ([.ref h0, .int 6, .int v24, .int v25, .int v26] : List Value).toArray below meth c H locs 0 0 Q (F0 m 70 ls [.int x104]) := by
          intro x104 H locs ls qa_x104 qb_x104 hP hD hS hl
          refine lv_istore (lv' := [(5, .int x104), (0, .ref h0), (1, .int 6), (2, .int v24), (3, .int v25), (4, .int v26)]) hx hb dX12_tryShelf_70 hl (by decide) rfl (fun ls hl => ?_)
          refine lv_iconst (v := 0) hx hb dX12_tryShelf_72 (by decide) ?_
          refine lv_istore (lv' := [(6, .int 0), (5, .int x104), (0, .ref h0), (1, .int 6), (2, .int v24), (3, .int v25), (4, .int v26)]) hx hb dX12_tryShelf_73 hl (by decide) rfl (fun ls hl => ?_)
          have hL131 : ∀ (n9 : Nat), ∀ (x121 : Int32) (x122 : Int32) (x123 : Int32) (fn124 : Nat → Int32) (fn125 : Nat → Int32) (H : Heap) (locs : List Loc) (ls : Array Slot), 0 ≤ x121.toInt → x121.toInt ≤ 8 → (8 - x121.toInt).toNat < n9 → va_P (dC, dI) vwCl (wd_90cd99f9 h0 v0 r0 v1 v2 v3 v4 r1 r2 r3 r4 r5 r6 r7 v5 v6 r8 r9 r10 r11 v7 h1 r12 v8 v9 h2 r13 v10 v11 r14 v12 v13 r15 v14 w15 r16 x122 x123 h3 h4 r17 r18 r19 r20 v18 r21 r22 r23 v19 h1 g0 f20 h2 g1 f21 h3 g2 fn124 h4 g3 fn125) H → va_D A (wd_90cd99f9 h0 v0 r0 v1 v2 v3 v4 r1 r2 r3 r4 r5 r6 r7 v5 v6 r8 r9 r10 r11 v7 h1 r12 v8 v9 h2 r13 v10 v11 r14 v12 v13 r15 v14 w15 r16 x122 x123 h3 h4 r17 r18 r19 r20 v18 r21 r22 r23 v19 h1 g0 f20 h2 g1 f21 h3 g2 fn124 h4 g3 fn125) → va_S A s.heap H locs → lv_has ls 7 [(6, .int x121), (5, .int x104), (0, .ref h0), (1, .int 6), (2, .int v24), (3, .int v25), (4, .int v26)] → W p l e ({ frames := 5, cells := 0, slots := 0, locals := 114 }) s m ([.ref h0, .int 6, .int v24, .int v25, .int v26] : List Value).toArray below meth c H locs 0 0 Q (F0 m 75 ls []) := by
            intro n9
            induction n9 with
            | zero => intro x121 x122 x123 fn124 fn125 H locs ls qa_x121 qb_x121 hm9 hP hD hS hl; exact absurd hm9 (Nat.not_lt_zero _)
            | succ n9 ih_hL131 =>
              intro x121 x122 x123 fn124 fn125 H locs ls qa_x121 qb_x121 hm9 hP hD hS hl
              refine lv_iload hx hb dX12_tryShelf_75 (lv_at hl 0 rfl) ?_
              refine lv_iload hx hb dX12_tryShelf_77 (lv_at hl 1 rfl) ?_
              refine lv_icmp_ge (tgt := 208) hx hb dX12_tryShelf_79 (by decide) (fun c132 => ?_) (fun c132 => ?_)
              · skip
                have fc132 : x104.toInt ≤ x121.toInt := Int32.le_iff_toInt_le.mp c132
                have r1c132 := Int32.toInt_lt x121
                have r2c132 := Int32.toInt_lt x104
                have r3c132 := Int32.le_toInt x121
                have r4c132 := Int32.le_toInt x104
                subst hQ
                have hP9 := hP.sub (ws' := (wd_90cd99f9 h0 v0 r0 v1 v2 v3 v4 r1 r2 r3 r4 r5 r6 r7 v5 v6 r8 r9 r10 r11 v7 h1 r12 v8 v9 h2 r13 v10 v11 r14 v12 v13 r15 v14 w15 r16 x122 x123 h3 h4 r17 r18 r19 r20 v18 r21 r22 r23 v19 h1 g0 f20 h2 g1 f21 h3 g2 fn124 h4 g3 fn125)) [0, 1, 2, 3, 4] rfl
                have hD9 := hD.sub (ws' := (wd_90cd99f9 h0 v0 r0 v1 v2 v3 v4 r1 r2 r3 r4 r5 r6 r7 v5 v6 r8 r9 r10 r11 v7 h1 r12 v8 v9 h2 r13 v10 v11 r14 v12 v13 r15 v14 w15 r16 x122 x123 h3 h4 r17 r18 r19 r20 v18 r21 r22 r23 v19 h1 g0 f20 h2 g1 f21 h3 g2 fn124 h4 g3 fn125)) [0, 1, 2, 3, 4] (by decide) rfl
                have hK9 := hK.sub (tys' := []) [] rfl
                exact W.vret hx hb hr (fun t ht hW => ⟨⟨(), rfl, trivial, ⟨x122, x123, fn124, fn125, by rw [ht]; exact hP9, va_K.moved hW.alike hK9, hD9⟩⟩, hS.F ht⟩) hS.2.2 dX12_tryShelf_208
              · skip
                have fc132 : ¬ (x104.toInt ≤ x121.toInt) := fun h9 => c132 (Int32.le_iff_toInt_le.mpr h9)
                have r1c132 := Int32.toInt_lt x121
                have r2c132 := Int32.toInt_lt x104
                have r3c132 := Int32.le_toInt x121
                have r4c132 := Int32.le_toInt x104
                refine lv_iload hx hb dX12_tryShelf_82 (lv_at hl 6 rfl) ?_
                have hJ137 : ∀ (x133 : Int32) (x134 : Int32) (fn135 : Nat → Int32) (fn136 : Nat → Int32) (H : Heap) (locs : List Loc) (ls : Array Slot), va_P (dC, dI) vwCl (wd_90cd99f9 h0 v0 r0 v1 v2 v3 v4 r1 r2 r3 r4 r5 r6 r7 v5 v6 r8 r9 r10 r11 v7 h1 r12 v8 v9 h2 r13 v10 v11 r14 v12 v13 r15 v14 w15 r16 x133 x134 h3 h4 r17 r18 r19 r20 v18 r21 r22 r23 v19 h1 g0 f20 h2 g1 f21 h3 g2 fn135 h4 g3 fn136) H → va_D A (wd_90cd99f9 h0 v0 r0 v1 v2 v3 v4 r1 r2 r3 r4 r5 r6 r7 v5 v6 r8 r9 r10 r11 v7 h1 r12 v8 v9 h2 r13 v10 v11 r14 v12 v13 r15 v14 w15 r16 x133 x134 h3 h4 r17 r18 r19 r20 v18 r21 r22 r23 v19 h1 g0 f20 h2 g1 f21 h3 g2 fn135 h4 g3 fn136) → va_S A s.heap H locs → lv_has ls 7 [(6, .int x121), (5, .int x104), (0, .ref h0), (1, .int 6), (2, .int v24), (3, .int v25), (4, .int v26)] → W p l e ({ frames := 5, cells := 0, slots := 0, locals := 114 }) s m ([.ref h0, .int 6, .int v24, .int v25, .int v26] : List Value).toArray below meth c H locs 0 0 Q (F0 m 202 ls []) := by
                  intro x133 x134 fn135 fn136 H locs ls hP hD hS hl
                  obtain ⟨t138, et138⟩ : ∃ y : Int32, y = x121 + 1 := ⟨_, rfl⟩
                  have gt138 : t138.toInt = x121.toInt + (1) := pv_add (a := x121.toInt) (b := (1)) et138 rfl (by decide) (by omega) (by omega)
                  refine lv_iinc (v := t138) (lv' := [(6, .int t138), (5, .int x104), (0, .ref h0), (1, .int 6), (2, .int v24), (3, .int v25), (4, .int v26)]) hx hb dX12_tryShelf_202 hl (k := 0) rfl (by rw [et138]; rfl) (by decide) rfl (fun ls hl => ?_)
                  refine lv_goto (tgt := 75) hx hb dX12_tryShelf_205 (by decide) ?_
                  exact ih_hL131 t138 x133 x134 fn135 fn136 H locs ls (by first | omega | decide) (by first | omega | decide) (by first | omega | (simp only [Int.toNat] at *; omega)) hP hD hS (lv_sub hl [0, 1, 2, 3, 4, 5, 6] rfl)
                refine lv_if_eq (tgt := 113) hx hb dX12_tryShelf_84 (by decide) (fun c139 => ?_) (fun c139 => ?_)
                · skip
                  have fc139 : v26.toInt = 0 := congrArg Int32.toInt c139
                  refine lv_aload_n hx hb dX12_tryShelf_113 rfl (lv_at hl 2 rfl) ?_
                  refine lv_iload_n hx hb dX12_tryShelf_114 rfl (lv_at hl 3 rfl) ?_
                  refine lv_iload hx hb dX12_tryShelf_115 (lv_at hl 0 rfl) ?_
                  have hPc := hP.sub (ws' := (wd_f4deda84 h0 v0 r0 v1 v2 v3 v4 r1 r2 r3 r4 r5 r6 r7 v5 v6 r8 r9 r10 r11 v7 h1 r12 v8 v9 h2 r13 v10 v11 r14 v12 v13 r15 v14 w15 r16 x122 x123 h3 h4 r17 r18 r19 r20 v18 r21 r22 r23 v19 h2 g1 f21 h3 g2 fn124)) [0, 2, 3] rfl
                  have hDc := hD.sub (ws' := (wd_f4deda84 h0 v0 r0 v1 v2 v3 v4 r1 r2 r3 r4 r5 r6 r7 v5 v6 r8 r9 r10 r11 v7 h1 r12 v8 v9 h2 r13 v10 v11 r14 v12 v13 r15 v14 w15 r16 x122 x123 h3 h4 r17 r18 r19 r20 v18 r21 r22 r23 v19 h2 g1 f21 h3 g2 fn124)) [0, 2, 3] (by decide) rfl
                  have hKc := hK.sub (tys' := [(g1, .int), (g2, .int)]) [1, 2] rfl
                  have hFc := va_free (wc := (wd_f4deda84 h0 v0 r0 v1 v2 v3 v4 r1 r2 r3 r4 r5 r6 r7 v5 v6 r8 r9 r10 r11 v7 h1 r12 v8 v9 h2 r13 v10 v11 r14 v12 v13 r15 v14 w15 r16 x122 x123 h3 h4 r17 r18 r19 r20 v18 r21 r22 r23 v19 h2 g1 f21 h3 g2 fn124)) hD hS hA [0, 2, 3] rfl
                  refine va_calli (va_runV (As := [.int 6, .int x121]) (rest := []) ⟨hx, hb, hml, hown, hts⟩ (k_X12_isCalm l dC dI h0 h2 h3 v0 r0 v1 v2 v3 v4 r1 r2 r3 r4 r5 r6 r7 v5 v6 r8 r9 r10 r11 v7 h1 r12 v8 v9 r13 v10 v11 r14 v12 v13 r15 v14 w15 r16 x122 x123 h4 r17 r18 r19 r20 v18 r21 r22 r23 v19 g1 f21 g2 fn124 6 x121 ⟨i_v1a, i_v1b⟩ ⟨i_v5a, i_v5b⟩ ⟨i_v6a, i_v6b⟩ ⟨i_v7a, i_v7b⟩ ⟨i_v8a, i_v8b⟩ ⟨i_v9a, i_v9b⟩ ⟨i_v10a, i_v10b⟩ ⟨i_v14a, i_v14b⟩ ⟨i_v18a, i_v18b⟩ ⟨i_v19a, i_v19b⟩ ⟨by decide, by decide⟩ ia_f21 H.size) (cwV 2 hts g_X12_tryShelf_2_1 rfl rfl rfl (by decide +kernel) ⟨Nat.le_of_ble_eq_true rfl, Nat.le_of_ble_eq_true rfl⟩) (pv_PV12 hPc hKc hDc (q0 := 0) rfl) rfl rfl hl.1 rfl (lv_room (Nat.le_of_ble_eq_true rfl)) dX12_tryShelf_117 ⟨Nat.le_of_ble_eq_true rfl, Nat.le_of_ble_eq_true rfl⟩) hS (fun q _ h => hFc q h) hFc (fun ra140 u t H1 locs ht hvm hwra140 hB hz1 hk1 hS => ?_)
                  try rw [hwra140] at hB
                  have hkra140_0 : ((6 : Int32)).toInt = 6 := by decide
                  obtain ⟨pt0_ra140, pt1_ra140, hP1, hK1, hD1⟩ := hB
                  rw [ht] at hP1
                  obtain ⟨hP2, hD2⟩ := va_join (wr := (wd_5481fbec h1 g0 f20 h4 g3 fn125)) (w1 := (wd_f4deda84 h0 v0 r0 v1 v2 v3 v4 r1 r2 r3 r4 r5 r6 r7 v5 v6 r8 r9 r10 r11 v7 h1 r12 v8 v9 h2 r13 v10 v11 r14 v12 v13 r15 v14 w15 r16 x122 x123 h3 h4 r17 r18 r19 r20 v18 r21 r22 r23 v19 h2 g1 f21 h3 g2 fn124)) hP hD [0, 2, 3] [1, 4] rfl rfl (by decide) (by decide) hk1 hFc hP1 hD1
                  clear hP hD hPc hDc hKc hFc hP1 hK1 hD1 hk1 hz1
                  generalize H1 = H at hP2 hS ⊢
                  have hP := hP2.sub (ws' := (wd_90cd99f9 h0 v0 r0 v1 v2 v3 v4 r1 r2 r3 r4 r5 r6 r7 v5 v6 r8 r9 r10 r11 v7 h1 r12 v8 v9 h2 r13 v10 v11 r14 v12 v13 r15 v14 w15 r16 x122 x123 h3 h4 r17 r18 r19 r20 v18 r21 r22 r23 v19 h1 g0 f20 h2 g1 f21 h3 g2 fn124 h4 g3 fn125)) [2, 0, 3, 4, 1] rfl
                  have hD := hD2.sub (ws' := (wd_90cd99f9 h0 v0 r0 v1 v2 v3 v4 r1 r2 r3 r4 r5 r6 r7 v5 v6 r8 r9 r10 r11 v7 h1 r12 v8 v9 h2 r13 v10 v11 r14 v12 v13 r15 v14 w15 r16 x122 x123 h3 h4 r17 r18 r19 r20 v18 r21 r22 r23 v19 h1 g0 f20 h2 g1 f21 h3 g2 fn124 h4 g3 fn125)) [2, 0, 3, 4, 1] (by decide) rfl
                  clear hP2 hD2
                  refine lv_if_eq (tgt := 202) hx hb dX12_tryShelf_120 (by decide) (fun c141 => ?_) (fun c141 => ?_)
                  · skip
                    have fc141 : ra140.toInt = 0 := congrArg Int32.toInt c141
                    exact hJ137 x122 x123 fn124 fn125 H locs ls hP hD hS (lv_sub hl [0, 1, 2, 3, 4, 5, 6] rfl)
                  · skip
                    have fc141 : ¬ (ra140.toInt = 0) := fun h9 => c141 (Int32.toInt_inj.mp h9)
                    refine lv_aload_n hx hb dX12_tryShelf_123 rfl (lv_at hl 2 rfl) ?_
                    refine va_get (D := (dC, dI)) (ci := 12) (v := .ref h4) (C := RX12) (T := TX12) (N := 48) hx hb hts (fun _ h => List.mem_cons_of_mem _ (List.mem_append_right _ h)) hown hK hP 0 rfl rfl 38 (by decide) (hts (.fieldLink RX12 77 "LeftArgumentsModel" "room" "[I") (List.mem_cons_of_mem _ (List.mem_append_left _ (List.mem_of_getElem? (i := 31) rfl)))) (fun _ h9 => h9) rfl dX12_tryShelf_124 ?_
                    refine lv_iload hx hb dX12_tryShelf_127 (lv_at hl 0 rfl) ?_
                    refine lv_dup2_11 hx hb dX12_tryShelf_129 rfl rfl ?_
                    refine va_iald hx hb hK hP 4 3 rfl rfl (vp_in_iff.mpr ⟨by omega, by omega⟩) dX12_tryShelf_130 ?_
                    refine lv_topi (fun t142 et142 => ?_)
                    refine lv_aload_n hx hb dX12_tryShelf_131 rfl (lv_at hl 2 rfl) ?_
                    refine lv_iload_n hx hb dX12_tryShelf_132 rfl (lv_at hl 3 rfl) ?_
                    refine lv_iconst (v := 0) hx hb dX12_tryShelf_133 (by decide) ?_
                    have hPc := hP.sub (ws' := (wd_5013416a h0 v0 r0 v1 v2 v3 v4 r1 r2 r3 r4 r5 r6 r7 v5 v6 r8 r9 r10 r11 v7 h1 r12 v8 v9 h2 r13 v10 v11 r14 v12 v13 r15 v14 w15 r16 x122 x123 h3 h4 r17 r18 r19 r20 v18 r21 r22 r23 v19 h2 g1 f21)) [0, 2] rfl
                    have hDc := hD.sub (ws' := (wd_5013416a h0 v0 r0 v1 v2 v3 v4 r1 r2 r3 r4 r5 r6 r7 v5 v6 r8 r9 r10 r11 v7 h1 r12 v8 v9 h2 r13 v10 v11 r14 v12 v13 r15 v14 w15 r16 x122 x123 h3 h4 r17 r18 r19 r20 v18 r21 r22 r23 v19 h2 g1 f21)) [0, 2] (by decide) rfl
                    have hKc := hK.sub (tys' := [(g1, .int)]) [1] rfl
                    have hFc := va_free (wc := (wd_5013416a h0 v0 r0 v1 v2 v3 v4 r1 r2 r3 r4 r5 r6 r7 v5 v6 r8 r9 r10 r11 v7 h1 r12 v8 v9 h2 r13 v10 v11 r14 v12 v13 r15 v14 w15 r16 x122 x123 h3 h4 r17 r18 r19 r20 v18 r21 r22 r23 v19 h2 g1 f21)) hD hS hA [0, 2] rfl
                    refine va_calli (va_runV (As := [.int 6, .int 0]) (rest := [.int t142, .int x121, .ref h4]) ⟨hx, hb, hml, hown, hts⟩ (k_X12_of_3 l dC dI h0 h2 v0 r0 v1 v2 v3 v4 r1 r2 r3 r4 r5 r6 r7 v5 v6 r8 r9 r10 r11 v7 h1 r12 v8 v9 r13 v10 v11 r14 v12 v13 r15 v14 w15 r16 x122 x123 h3 h4 r17 r18 r19 r20 v18 r21 r22 r23 v19 g1 f21 6 ⟨i_v1a, i_v1b⟩ ⟨i_v5a, i_v5b⟩ ⟨i_v6a, i_v6b⟩ ⟨i_v7a, i_v7b⟩ ⟨i_v8a, i_v8b⟩ ⟨i_v9a, i_v9b⟩ ⟨i_v10a, i_v10b⟩ ⟨i_v14a, i_v14b⟩ ⟨i_v18a, i_v18b⟩ ⟨i_v19a, i_v19b⟩ ⟨by decide, by decide⟩ ia_f21.1 H.size) (cwV 2 hts g_X12_tryShelf_2_2 rfl rfl rfl (by decide +kernel) ⟨Nat.le_of_ble_eq_true rfl, Nat.le_of_ble_eq_true rfl⟩) (pv_PV12 hPc hKc hDc (q0 := 0) rfl) rfl rfl hl.1 rfl (lv_room (Nat.le_of_ble_eq_true rfl)) dX12_tryShelf_134 ⟨Nat.le_of_ble_eq_true rfl, Nat.le_of_ble_eq_true rfl⟩) hS (fun q _ h => hFc q h) hFc (fun ra143 u t H1 locs ht hvm hwra143 hB hz1 hk1 hS => ?_)
                    try rw [hwra143] at hB
                    have hkra143_0 : ((6 : Int32)).toInt = 6 := by decide
                    obtain ⟨pt0_ra143, pt1_ra143, pt2_ra143, hP1, hK1, hD1⟩ := hB
                    rw [ht] at hP1
                    obtain ⟨hP2, hD2⟩ := va_join (wr := (wd_20b67a68 h1 g0 f20 h3 g2 fn124 h4 g3 fn125)) (w1 := (wd_5013416a h0 v0 r0 v1 v2 v3 v4 r1 r2 r3 r4 r5 r6 r7 v5 v6 r8 r9 r10 r11 v7 h1 r12 v8 v9 h2 r13 v10 v11 r14 v12 v13 r15 v14 w15 r16 x122 x123 h3 h4 r17 r18 r19 r20 v18 r21 r22 r23 v19 h2 g1 f21)) hP hD [0, 2] [1, 3, 4] rfl rfl (by decide) (by decide) hk1 hFc hP1 hD1
                    clear hP hD hPc hDc hKc hFc hP1 hK1 hD1 hk1 hz1
                    generalize H1 = H at hP2 hS ⊢
                    have hP := hP2.sub (ws' := (wd_90cd99f9 h0 v0 r0 v1 v2 v3 v4 r1 r2 r3 r4 r5 r6 r7 v5 v6 r8 r9 r10 r11 v7 h1 r12 v8 v9 h2 r13 v10 v11 r14 v12 v13 r15 v14 w15 r16 x122 x123 h3 h4 r17 r18 r19 r20 v18 r21 r22 r23 v19 h1 g0 f20 h2 g1 f21 h3 g2 fn124 h4 g3 fn125)) [3, 0, 4, 1, 2] rfl
                    have hD := hD2.sub (ws' := (wd_90cd99f9 h0 v0 r0 v1 v2 v3 v4 r1 r2 r3 r4 r5 r6 r7 v5 v6 r8 r9 r10 r11 v7 h1 r12 v8 v9 h2 r13 v10 v11 r14 v12 v13 r15 v14 w15 r16 x122 x123 h3 h4 r17 r18 r19 r20 v18 r21 r22 r23 v19 h1 g0 f20 h2 g1 f21 h3 g2 fn124 h4 g3 fn125)) [3, 0, 4, 1, 2] (by decide) rfl
                    clear hP2 hD2
                    refine lv_iadd hx hb dX12_tryShelf_137 ?_
                    refine lv_topi (fun t144 et144 => ?_)
                    refine va_iast hx hb hK hP hD hS 4 3 rfl rfl (vp_in_iff.mpr ⟨by omega, by omega⟩) dX12_tryShelf_138 (fun H locs hP hD hS => ?_)
                    obtain ⟨fn145, efn145⟩ : ∃ g : Nat → Int32, g = upd fn125 (Int32.toNatClampNeg x121) t144 := ⟨_, rfl⟩
                    rw [← efn145] at hP hD
                    have hP : va_P (dC, dI) vwCl (wd_90cd99f9 h0 v0 r0 v1 v2 v3 v4 r1 r2 r3 r4 r5 r6 r7 v5 v6 r8 r9 r10 r11 v7 h1 r12 v8 v9 h2 r13 v10 v11 r14 v12 v13 r15 v14 w15 r16 x122 x123 h3 h4 r17 r18 r19 r20 v18 r21 r22 r23 v19 h1 g0 f20 h2 g1 f21 h3 g2 fn124 h4 g3 fn145) H := hP
                    have hD : va_D A (wd_90cd99f9 h0 v0 r0 v1 v2 v3 v4 r1 r2 r3 r4 r5 r6 r7 v5 v6 r8 r9 r10 r11 v7 h1 r12 v8 v9 h2 r13 v10 v11 r14 v12 v13 r15 v14 w15 r16 x122 x123 h3 h4 r17 r18 r19 r20 v18 r21 r22 r23 v19 h1 g0 f20 h2 g1 f21 h3 g2 fn124 h4 g3 fn145) := hD
                    refine lv_aload_n hx hb dX12_tryShelf_139 rfl (lv_at hl 2 rfl) ?_
                    refine va_get (D := (dC, dI)) (ci := 12) (v := .ref h3) (C := RX12) (T := TX12) (N := 48) hx hb hts (fun _ h => List.mem_cons_of_mem _ (List.mem_append_right _ h)) hown hK hP 0 rfl rfl 37 (by decide) (hts (.fieldLink RX12 74 "LeftArgumentsModel" "onShelf" "[I") (List.mem_cons_of_mem _ (List.mem_append_left _ (List.mem_of_getElem? (i := 15) rfl)))) (fun _ h9 => h9) rfl dX12_tryShelf_140 ?_
                    refine lv_iload_n hx hb dX12_tryShelf_143 rfl (lv_at hl 3 rfl) ?_
                    refine lv_iload hx hb dX12_tryShelf_144 (lv_at hl 0 rfl) ?_
                    refine va_iast hx hb hK hP hD hS 3 2 rfl rfl (pv_c (x := 6) (n := 8) (by decide)) dX12_tryShelf_146 (fun H locs hP hD hS => ?_)
                    obtain ⟨fn146, efn146⟩ : ∃ g : Nat → Int32, g = upd fn124 (Int32.toNatClampNeg 6) x121 := ⟨_, rfl⟩
                    rw [← efn146] at hP hD
                    have hP : va_P (dC, dI) vwCl (wd_90cd99f9 h0 v0 r0 v1 v2 v3 v4 r1 r2 r3 r4 r5 r6 r7 v5 v6 r8 r9 r10 r11 v7 h1 r12 v8 v9 h2 r13 v10 v11 r14 v12 v13 r15 v14 w15 r16 x122 x123 h3 h4 r17 r18 r19 r20 v18 r21 r22 r23 v19 h1 g0 f20 h2 g1 f21 h3 g2 fn146 h4 g3 fn145) H := hP
                    have hD : va_D A (wd_90cd99f9 h0 v0 r0 v1 v2 v3 v4 r1 r2 r3 r4 r5 r6 r7 v5 v6 r8 r9 r10 r11 v7 h1 r12 v8 v9 h2 r13 v10 v11 r14 v12 v13 r15 v14 w15 r16 x122 x123 h3 h4 r17 r18 r19 r20 v18 r21 r22 r23 v19 h1 g0 f20 h2 g1 f21 h3 g2 fn146 h4 g3 fn145) := hD
                    refine lv_aload_n hx hb dX12_tryShelf_147 rfl (lv_at hl 2 rfl) ?_
                    refine lv_iload_n hx hb dX12_tryShelf_148 rfl (lv_at hl 3 rfl) ?_
                    refine lv_iconst (v := 1) hx hb dX12_tryShelf_149 (by decide) ?_
                    refine lv_iadd hx hb dX12_tryShelf_150 ?_
                    refine lv_topi (fun tv147 etv147 => ?_)
                    obtain rfl : tv147 = (7 : Int32) := etv147.trans (by first | rfl | decide)
                    refine lv_bipush (v := 10) hx hb dX12_tryShelf_151 (by decide) ?_
                    refine lv_iload_n hx hb dX12_tryShelf_153 rfl (lv_at hl 4 rfl) ?_
                    refine lv_imul hx hb dX12_tryShelf_154 ?_
                    refine lv_topi (fun t148 et148 => ?_)
                    refine lv_iload hx hb dX12_tryShelf_155 (lv_at hl 0 rfl) ?_
                    refine lv_iadd hx hb dX12_tryShelf_157 ?_
                    refine lv_topi (fun t149 et149 => ?_)
                    refine lv_iload_n hx hb dX12_tryShelf_158 rfl (lv_at hl 5 rfl) ?_
                    refine lv_aload_n hx hb dX12_tryShelf_159 rfl (lv_at hl 2 rfl) ?_
                    refine va_get (D := (dC, dI)) (ci := 12) (v := .ref h4) (C := RX12) (T := TX12) (N := 48) hx hb hts (fun _ h => List.mem_cons_of_mem _ (List.mem_append_right _ h)) hown hK hP 0 rfl rfl 38 (by decide) (hts (.fieldLink RX12 77 "LeftArgumentsModel" "room" "[I") (List.mem_cons_of_mem _ (List.mem_append_left _ (List.mem_of_getElem? (i := 31) rfl)))) (fun _ h9 => h9) rfl dX12_tryShelf_160 ?_
                    refine lv_iload hx hb dX12_tryShelf_163 (lv_at hl 0 rfl) ?_
                    refine va_iald hx hb hK hP 4 3 rfl rfl (vp_in_iff.mpr ⟨by omega, by omega⟩) dX12_tryShelf_165 ?_
                    refine lv_topi (fun t150 et150 => ?_)
                    refine lv_aload_n hx hb dX12_tryShelf_166 rfl (lv_at hl 2 rfl) ?_
                    refine lv_iload_n hx hb dX12_tryShelf_167 rfl (lv_at hl 3 rfl) ?_
                    refine lv_iconst (v := 0) hx hb dX12_tryShelf_168 (by decide) ?_
                    have hPc := hP.sub (ws' := (wd_5013416a h0 v0 r0 v1 v2 v3 v4 r1 r2 r3 r4 r5 r6 r7 v5 v6 r8 r9 r10 r11 v7 h1 r12 v8 v9 h2 r13 v10 v11 r14 v12 v13 r15 v14 w15 r16 x122 x123 h3 h4 r17 r18 r19 r20 v18 r21 r22 r23 v19 h2 g1 f21)) [0, 2] rfl
                    have hDc := hD.sub (ws' := (wd_5013416a h0 v0 r0 v1 v2 v3 v4 r1 r2 r3 r4 r5 r6 r7 v5 v6 r8 r9 r10 r11 v7 h1 r12 v8 v9 h2 r13 v10 v11 r14 v12 v13 r15 v14 w15 r16 x122 x123 h3 h4 r17 r18 r19 r20 v18 r21 r22 r23 v19 h2 g1 f21)) [0, 2] (by decide) rfl
                    have hKc := hK.sub (tys' := [(g1, .int)]) [1] rfl
                    have hFc := va_free (wc := (wd_5013416a h0 v0 r0 v1 v2 v3 v4 r1 r2 r3 r4 r5 r6 r7 v5 v6 r8 r9 r10 r11 v7 h1 r12 v8 v9 h2 r13 v10 v11 r14 v12 v13 r15 v14 w15 r16 x122 x123 h3 h4 r17 r18 r19 r20 v18 r21 r22 r23 v19 h2 g1 f21)) hD hS hA [0, 2] rfl
                    refine va_calli (va_runV (As := [.int 6, .int 0]) (rest := [.int t150, .int v25, .int t149, .int 7, .ref h0]) ⟨hx, hb, hml, hown, hts⟩ (k_X12_of_3 l dC dI h0 h2 v0 r0 v1 v2 v3 v4 r1 r2 r3 r4 r5 r6 r7 v5 v6 r8 r9 r10 r11 v7 h1 r12 v8 v9 r13 v10 v11 r14 v12 v13 r15 v14 w15 r16 x122 x123 h3 h4 r17 r18 r19 r20 v18 r21 r22 r23 v19 g1 f21 6 ⟨i_v1a, i_v1b⟩ ⟨i_v5a, i_v5b⟩ ⟨i_v6a, i_v6b⟩ ⟨i_v7a, i_v7b⟩ ⟨i_v8a, i_v8b⟩ ⟨i_v9a, i_v9b⟩ ⟨i_v10a, i_v10b⟩ ⟨i_v14a, i_v14b⟩ ⟨i_v18a, i_v18b⟩ ⟨i_v19a, i_v19b⟩ ⟨by decide, by decide⟩ ia_f21.1 H.size) (cwV 2 hts g_X12_tryShelf_2_2 rfl rfl rfl (by decide +kernel) ⟨Nat.le_of_ble_eq_true rfl, Nat.le_of_ble_eq_true rfl⟩) (pv_PV12 hPc hKc hDc (q0 := 0) rfl) rfl rfl hl.1 rfl (lv_room (Nat.le_of_ble_eq_true rfl)) dX12_tryShelf_169 ⟨Nat.le_of_ble_eq_true rfl, Nat.le_of_ble_eq_true rfl⟩) hS (fun q _ h => hFc q h) hFc (fun ra151 u t H1 locs ht hvm hwra151 hB hz1 hk1 hS => ?_)
                    try rw [hwra151] at hB
                    have hkra151_0 : ((6 : Int32)).toInt = 6 := by decide
                    obtain ⟨pt0_ra151, pt1_ra151, pt2_ra151, hP1, hK1, hD1⟩ := hB
                    rw [ht] at hP1
                    obtain ⟨hP2, hD2⟩ := va_join (wr := (wd_20b67a68 h1 g0 f20 h3 g2 fn146 h4 g3 fn145)) (w1 := (wd_5013416a h0 v0 r0 v1 v2 v3 v4 r1 r2 r3 r4 r5 r6 r7 v5 v6 r8 r9 r10 r11 v7 h1 r12 v8 v9 h2 r13 v10 v11 r14 v12 v13 r15 v14 w15 r16 x122 x123 h3 h4 r17 r18 r19 r20 v18 r21 r22 r23 v19 h2 g1 f21)) hP hD [0, 2] [1, 3, 4] rfl rfl (by decide) (by decide) hk1 hFc hP1 hD1
                    clear hP hD hPc hDc hKc hFc hP1 hK1 hD1 hk1 hz1
                    generalize H1 = H at hP2 hS ⊢
                    have hP := hP2.sub (ws' := (wd_90cd99f9 h0 v0 r0 v1 v2 v3 v4 r1 r2 r3 r4 r5 r6 r7 v5 v6 r8 r9 r10 r11 v7 h1 r12 v8 v9 h2 r13 v10 v11 r14 v12 v13 r15 v14 w15 r16 x122 x123 h3 h4 r17 r18 r19 r20 v18 r21 r22 r23 v19 h1 g0 f20 h2 g1 f21 h3 g2 fn146 h4 g3 fn145)) [3, 0, 4, 1, 2] rfl
                    have hD := hD2.sub (ws' := (wd_90cd99f9 h0 v0 r0 v1 v2 v3 v4 r1 r2 r3 r4 r5 r6 r7 v5 v6 r8 r9 r10 r11 v7 h1 r12 v8 v9 h2 r13 v10 v11 r14 v12 v13 r15 v14 w15 r16 x122 x123 h3 h4 r17 r18 r19 r20 v18 r21 r22 r23 v19 h1 g0 f20 h2 g1 f21 h3 g2 fn146 h4 g3 fn145)) [3, 0, 4, 1, 2] (by decide) rfl
                    clear hP2 hD2
                    have hJ153 : ∀ (x152 : Int32) (H : Heap) (locs : List Loc) (ls : Array Slot), 0 ≤ x152.toInt → x152.toInt ≤ 1 → va_P (dC, dI) vwCl (wd_90cd99f9 h0 v0 r0 v1 v2 v3 v4 r1 r2 r3 r4 r5 r6 r7 v5 v6 r8 r9 r10 r11 v7 h1 r12 v8 v9 h2 r13 v10 v11 r14 v12 v13 r15 v14 w15 r16 x122 x123 h3 h4 r17 r18 r19 r20 v18 r21 r22 r23 v19 h1 g0 f20 h2 g1 f21 h3 g2 fn146 h4 g3 fn145) H → va_D A (wd_90cd99f9 h0 v0 r0 v1 v2 v3 v4 r1 r2 r3 r4 r5 r6 r7 v5 v6 r8 r9 r10 r11 v7 h1 r12 v8 v9 h2 r13 v10 v11 r14 v12 v13 r15 v14 w15 r16 x122 x123 h3 h4 r17 r18 r19 r20 v18 r21 r22 r23 v19 h1 g0 f20 h2 g1 f21 h3 g2 fn146 h4 g3 fn145) → va_S A s.heap H locs → lv_has ls 7 [(6, .int x121), (5, .int x104), (0, .ref h0), (1, .int 6), (2, .int v24), (3, .int v25), (4, .int v26)] → W p l e ({ frames := 5, cells := 0, slots := 0, locals := 114 }) s m ([.ref h0, .int 6, .int v24, .int v25, .int v26] : List Value).toArray below meth c H locs 0 0 Q (F0 m 180 ls [.int x152, .int v25, .int t149, .int 7, .ref h0]) := by
                      intro x152 H locs ls qa_x152 qb_x152 hP hD hS hl
                      refine lv_iadd hx hb dX12_tryShelf_180 ?_
                      refine lv_topi (fun t154 et154 => ?_)
                      have r5t154v25 := Int32.le_toInt v25; have r6t154v25 := Int32.toInt_lt v25
                      have gt154 : t154.toInt = v25.toInt + x152.toInt := pv_add (a := v25.toInt) (b := x152.toInt) et154 rfl rfl (by omega) (by omega)
                      refine lv_iload hx hb dX12_tryShelf_181 (lv_at hl 6 rfl) ?_
                      have hPc := hP.sub (ws' := (wd_90cd99f9 h0 v0 r0 v1 v2 v3 v4 r1 r2 r3 r4 r5 r6 r7 v5 v6 r8 r9 r10 r11 v7 h1 r12 v8 v9 h2 r13 v10 v11 r14 v12 v13 r15 v14 w15 r16 x122 x123 h3 h4 r17 r18 r19 r20 v18 r21 r22 r23 v19 h1 g0 f20 h2 g1 f21 h3 g2 fn146 h4 g3 fn145)) [0, 1, 2, 3, 4] rfl
                      have hDc := hD.sub (ws' := (wd_90cd99f9 h0 v0 r0 v1 v2 v3 v4 r1 r2 r3 r4 r5 r6 r7 v5 v6 r8 r9 r10 r11 v7 h1 r12 v8 v9 h2 r13 v10 v11 r14 v12 v13 r15 v14 w15 r16 x122 x123 h3 h4 r17 r18 r19 r20 v18 r21 r22 r23 v19 h1 g0 f20 h2 g1 f21 h3 g2 fn146 h4 g3 fn145)) [0, 1, 2, 3, 4] (by decide) rfl
                      have hKc := hK.sub (tys' := [(g0, .int), (g1, .int), (g2, .int), (g3, .int)]) [0, 1, 2, 3] rfl
                      have hFc := va_free (wc := (wd_90cd99f9 h0 v0 r0 v1 v2 v3 v4 r1 r2 r3 r4 r5 r6 r7 v5 v6 r8 r9 r10 r11 v7 h1 r12 v8 v9 h2 r13 v10 v11 r14 v12 v13 r15 v14 w15 r16 x122 x123 h3 h4 r17 r18 r19 r20 v18 r21 r22 r23 v19 h1 g0 f20 h2 g1 f21 h3 g2 fn146 h4 g3 fn145)) hD hS hA [0, 1, 2, 3, 4] rfl
                      refine va_callv (va_runV (As := [.int 7, .int t149, .int t154, .int v26]) (rest := []) ⟨hx, hb, hml, hown, hts⟩ (k_X12_tryShelf_1 l dC dI h0 h1 h2 h3 h4 v0 r0 v1 v2 v3 v4 r1 r2 r3 r4 r5 r6 r7 v5 v6 r8 r9 r10 r11 v7 r12 v8 v9 r13 v10 v11 r14 v12 v13 r15 v14 w15 r16 x122 x123 r17 r18 r19 r20 v18 r21 r22 r23 v19 g0 f20 g1 f21 g2 fn146 g3 fn145 t149 t154 v26 ⟨i_v1a, i_v1b⟩ ⟨i_v5a, i_v5b⟩ ⟨i_v6a, i_v6b⟩ ⟨i_v7a, i_v7b⟩ ⟨i_v8a, i_v8b⟩ ⟨i_v9a, i_v9b⟩ ⟨i_v10a, i_v10b⟩ ⟨i_v14a, i_v14b⟩ ⟨i_v18a, i_v18b⟩ ⟨i_v19a, i_v19b⟩ ⟨i_v26a, i_v26b⟩ ia_f20 ia_f21 H.size) (cwV 4 hts g_X12_tryShelf_2_4 rfl rfl rfl (by decide +kernel) ⟨Nat.le_of_ble_eq_true rfl, Nat.le_of_ble_eq_true rfl⟩) (pv_PV12 hPc hKc hDc (q0 := 0) rfl) rfl rfl hl.1 rfl (lv_room (Nat.le_of_ble_eq_true rfl)) dX12_tryShelf_183 ⟨Nat.le_of_ble_eq_true rfl, Nat.le_of_ble_eq_true rfl⟩) hS (fun q _ h => hFc q h) hFc (fun u t H1 locs ht hvm hwra155 hB hz1 hk1 hS => ?_)
                      obtain ⟨x156, x157, fn158, fn159, hP1, hK1, hD1⟩ := hB
                      rw [ht] at hP1
                      obtain ⟨hP2, hD2⟩ := va_join (wr := []) (w1 := (wd_90cd99f9 h0 v0 r0 v1 v2 v3 v4 r1 r2 r3 r4 r5 r6 r7 v5 v6 r8 r9 r10 r11 v7 h1 r12 v8 v9 h2 r13 v10 v11 r14 v12 v13 r15 v14 w15 r16 x156 x157 h3 h4 r17 r18 r19 r20 v18 r21 r22 r23 v19 h1 g0 f20 h2 g1 f21 h3 g2 fn158 h4 g3 fn159)) hP hD [0, 1, 2, 3, 4] [] rfl rfl (by decide) (by decide) hk1 hFc hP1 hD1
                      clear hP hD hPc hDc hKc hFc hP1 hK1 hD1 hk1 hz1
                      generalize H1 = H at hP2 hS ⊢
                      have hP : va_P (dC, dI) vwCl (wd_90cd99f9 h0 v0 r0 v1 v2 v3 v4 r1 r2 r3 r4 r5 r6 r7 v5 v6 r8 r9 r10 r11 v7 h1 r12 v8 v9 h2 r13 v10 v11 r14 v12 v13 r15 v14 w15 r16 x156 x157 h3 h4 r17 r18 r19 r20 v18 r21 r22 r23 v19 h1 g0 f20 h2 g1 f21 h3 g2 fn158 h4 g3 fn159) H := hP2
                      have hD : va_D A (wd_90cd99f9 h0 v0 r0 v1 v2 v3 v4 r1 r2 r3 r4 r5 r6 r7 v5 v6 r8 r9 r10 r11 v7 h1 r12 v8 v9 h2 r13 v10 v11 r14 v12 v13 r15 v14 w15 r16 x156 x157 h3 h4 r17 r18 r19 r20 v18 r21 r22 r23 v19 h1 g0 f20 h2 g1 f21 h3 g2 fn158 h4 g3 fn159) := hD2
                      clear hP2 hD2
                      refine lv_aload_n hx hb dX12_tryShelf_186 rfl (lv_at hl 2 rfl) ?_
                      refine va_get (D := (dC, dI)) (ci := 12) (v := .ref h4) (C := RX12) (T := TX12) (N := 48) hx hb hts (fun _ h => List.mem_cons_of_mem _ (List.mem_append_right _ h)) hown hK hP 0 rfl rfl 38 (by decide) (hts (.fieldLink RX12 77 "LeftArgumentsModel" "room" "[I") (List.mem_cons_of_mem _ (List.mem_append_left _ (List.mem_of_getElem? (i := 31) rfl)))) (fun _ h9 => h9) rfl dX12_tryShelf_187 ?_
                      refine lv_iload hx hb dX12_tryShelf_190 (lv_at hl 0 rfl) ?_
                      refine lv_dup2_11 hx hb dX12_tryShelf_192 rfl rfl ?_
                      refine va_iald hx hb hK hP 4 3 rfl rfl (vp_in_iff.mpr ⟨by omega, by omega⟩) dX12_tryShelf_193 ?_
                      refine lv_topi (fun t160 et160 => ?_)
                      refine lv_aload_n hx hb dX12_tryShelf_194 rfl (lv_at hl 2 rfl) ?_
                      refine lv_iload_n hx hb dX12_tryShelf_195 rfl (lv_at hl 3 rfl) ?_
                      refine lv_iconst (v := 0) hx hb dX12_tryShelf_196 (by decide) ?_
                      have hPc := hP.sub (ws' := (wd_5013416a h0 v0 r0 v1 v2 v3 v4 r1 r2 r3 r4 r5 r6 r7 v5 v6 r8 r9 r10 r11 v7 h1 r12 v8 v9 h2 r13 v10 v11 r14 v12 v13 r15 v14 w15 r16 x156 x157 h3 h4 r17 r18 r19 r20 v18 r21 r22 r23 v19 h2 g1 f21)) [0, 2] rfl
                      have hDc := hD.sub (ws' := (wd_5013416a h0 v0 r0 v1 v2 v3 v4 r1 r2 r3 r4 r5 r6 r7 v5 v6 r8 r9 r10 r11 v7 h1 r12 v8 v9 h2 r13 v10 v11 r14 v12 v13 r15 v14 w15 r16 x156 x157 h3 h4 r17 r18 r19 r20 v18 r21 r22 r23 v19 h2 g1 f21)) [0, 2] (by decide) rfl
                      have hKc := hK.sub (tys' := [(g1, .int)]) [1] rfl
                      have hFc := va_free (wc := (wd_5013416a h0 v0 r0 v1 v2 v3 v4 r1 r2 r3 r4 r5 r6 r7 v5 v6 r8 r9 r10 r11 v7 h1 r12 v8 v9 h2 r13 v10 v11 r14 v12 v13 r15 v14 w15 r16 x156 x157 h3 h4 r17 r18 r19 r20 v18 r21 r22 r23 v19 h2 g1 f21)) hD hS hA [0, 2] rfl
                      refine va_calli (va_runV (As := [.int 6, .int 0]) (rest := [.int t160, .int x121, .ref h4]) ⟨hx, hb, hml, hown, hts⟩ (k_X12_of_3 l dC dI h0 h2 v0 r0 v1 v2 v3 v4 r1 r2 r3 r4 r5 r6 r7 v5 v6 r8 r9 r10 r11 v7 h1 r12 v8 v9 r13 v10 v11 r14 v12 v13 r15 v14 w15 r16 x156 x157 h3 h4 r17 r18 r19 r20 v18 r21 r22 r23 v19 g1 f21 6 ⟨i_v1a, i_v1b⟩ ⟨i_v5a, i_v5b⟩ ⟨i_v6a, i_v6b⟩ ⟨i_v7a, i_v7b⟩ ⟨i_v8a, i_v8b⟩ ⟨i_v9a, i_v9b⟩ ⟨i_v10a, i_v10b⟩ ⟨i_v14a, i_v14b⟩ ⟨i_v18a, i_v18b⟩ ⟨i_v19a, i_v19b⟩ ⟨by decide, by decide⟩ ia_f21.1 H.size) (cwV 2 hts g_X12_tryShelf_2_2 rfl rfl rfl (by decide +kernel) ⟨Nat.le_of_ble_eq_true rfl, Nat.le_of_ble_eq_true rfl⟩) (pv_PV12 hPc hKc hDc (q0 := 0) rfl) rfl rfl hl.1 rfl (lv_room (Nat.le_of_ble_eq_true rfl)) dX12_tryShelf_197 ⟨Nat.le_of_ble_eq_true rfl, Nat.le_of_ble_eq_true rfl⟩) hS (fun q _ h => hFc q h) hFc (fun ra161 u t H1 locs ht hvm hwra161 hB hz1 hk1 hS => ?_)
                      try rw [hwra161] at hB
                      have hkra161_0 : ((6 : Int32)).toInt = 6 := by decide
                      obtain ⟨pt0_ra161, pt1_ra161, pt2_ra161, hP1, hK1, hD1⟩ := hB
                      rw [ht] at hP1
                      obtain ⟨hP2, hD2⟩ := va_join (wr := (wd_20b67a68 h1 g0 f20 h3 g2 fn158 h4 g3 fn159)) (w1 := (wd_5013416a h0 v0 r0 v1 v2 v3 v4 r1 r2 r3 r4 r5 r6 r7 v5 v6 r8 r9 r10 r11 v7 h1 r12 v8 v9 h2 r13 v10 v11 r14 v12 v13 r15 v14 w15 r16 x156 x157 h3 h4 r17 r18 r19 r20 v18 r21 r22 r23 v19 h2 g1 f21)) hP hD [0, 2] [1, 3, 4] rfl rfl (by decide) (by decide) hk1 hFc hP1 hD1
                      clear hP hD hPc hDc hKc hFc hP1 hK1 hD1 hk1 hz1
                      generalize H1 = H at hP2 hS ⊢
                      have hP := hP2.sub (ws' := (wd_90cd99f9 h0 v0 r0 v1 v2 v3 v4 r1 r2 r3 r4 r5 r6 r7 v5 v6 r8 r9 r10 r11 v7 h1 r12 v8 v9 h2 r13 v10 v11 r14 v12 v13 r15 v14 w15 r16 x156 x157 h3 h4 r17 r18 r19 r20 v18 r21 r22 r23 v19 h1 g0 f20 h2 g1 f21 h3 g2 fn158 h4 g3 fn159)) [3, 0, 4, 1, 2] rfl
                      have hD := hD2.sub (ws' := (wd_90cd99f9 h0 v0 r0 v1 v2 v3 v4 r1 r2 r3 r4 r5 r6 r7 v5 v6 r8 r9 r10 r11 v7 h1 r12 v8 v9 h2 r13 v10 v11 r14 v12 v13 r15 v14 w15 r16 x156 x157 h3 h4 r17 r18 r19 r20 v18 r21 r22 r23 v19 h1 g0 f20 h2 g1 f21 h3 g2 fn158 h4 g3 fn159)) [3, 0, 4, 1, 2] (by decide) rfl
                      clear hP2 hD2
                      refine lv_isub hx hb dX12_tryShelf_200 ?_
                      refine lv_topi (fun t162 et162 => ?_)
                      refine va_iast hx hb hK hP hD hS 4 3 rfl rfl (vp_in_iff.mpr ⟨by omega, by omega⟩) dX12_tryShelf_201 (fun H locs hP hD hS => ?_)
                      obtain ⟨fn163, efn163⟩ : ∃ g : Nat → Int32, g = upd fn159 (Int32.toNatClampNeg x121) t162 := ⟨_, rfl⟩
                      rw [← efn163] at hP hD
                      have hP : va_P (dC, dI) vwCl (wd_90cd99f9 h0 v0 r0 v1 v2 v3 v4 r1 r2 r3 r4 r5 r6 r7 v5 v6 r8 r9 r10 r11 v7 h1 r12 v8 v9 h2 r13 v10 v11 r14 v12 v13 r15 v14 w15 r16 x156 x157 h3 h4 r17 r18 r19 r20 v18 r21 r22 r23 v19 h1 g0 f20 h2 g1 f21 h3 g2 fn158 h4 g3 fn163) H := hP
                      have hD : va_D A (wd_90cd99f9 h0 v0 r0 v1 v2 v3 v4 r1 r2 r3 r4 r5 r6 r7 v5 v6 r8 r9 r10 r11 v7 h1 r12 v8 v9 h2 r13 v10 v11 r14 v12 v13 r15 v14 w15 r16 x156 x157 h3 h4 r17 r18 r19 r20 v18 r21 r22 r23 v19 h1 g0 f20 h2 g1 f21 h3 g2 fn158 h4 g3 fn163) := hD
                      exact hJ137 x156 x157 fn158 fn163 H locs ls hP hD hS (lv_sub hl [0, 1, 2, 3, 4, 5, 6] rfl)
                    refine lv_icmp_ne (tgt := 179) hx hb dX12_tryShelf_172 (by decide) (fun c164 => ?_) (fun c164 => ?_)
                    · skip
                      have fc164 : ¬ (t150.toInt = ra151.toInt) := fun h9 => c164 (Int32.toInt_inj.mp h9)
                      have r1c164 := Int32.toInt_lt t150
                      have r2c164 := Int32.toInt_lt ra151
                      have r3c164 := Int32.le_toInt t150
                      have r4c164 := Int32.le_toInt ra151
                      refine lv_iconst (v := 0) hx hb dX12_tryShelf_179 (by decide) ?_
                      exact hJ153 0 H locs ls (by decide) (by decide) hP hD hS (lv_sub hl [0, 1, 2, 3, 4, 5, 6] rfl)
                    · skip
                      have fc164 : t150.toInt = ra151.toInt := congrArg Int32.toInt c164
                      have r1c164 := Int32.toInt_lt t150
                      have r2c164 := Int32.toInt_lt ra151
                      have r3c164 := Int32.le_toInt t150
                      have r4c164 := Int32.le_toInt ra151
                      refine lv_iconst (v := 1) hx hb dX12_tryShelf_175 (by decide) ?_
                      refine lv_goto (tgt := 180) hx hb dX12_tryShelf_176 (by decide) ?_
                      exact hJ153 1 H locs ls (by decide) (by decide) hP hD hS (lv_sub hl [0, 1, 2, 3, 4, 5, 6] rfl)
                · skip
                  have fc139 : ¬ (v26.toInt = 0) := fun h9 => c139 (Int32.toInt_inj.mp h9)
                  refine lv_aload_n hx hb dX12_tryShelf_87 rfl (lv_at hl 2 rfl) ?_
                  refine va_get (D := (dC, dI)) (ci := 12) (v := .ref h4) (C := RX12) (T := TX12) (N := 48) hx hb hts (fun _ h => List.mem_cons_of_mem _ (List.mem_append_right _ h)) hown hK hP 0 rfl rfl 38 (by decide) (hts (.fieldLink RX12 77 "LeftArgumentsModel" "room" "[I") (List.mem_cons_of_mem _ (List.mem_append_left _ (List.mem_of_getElem? (i := 31) rfl)))) (fun _ h9 => h9) rfl dX12_tryShelf_88 ?_
                  refine lv_iload hx hb dX12_tryShelf_91 (lv_at hl 0 rfl) ?_
                  refine va_iald hx hb hK hP 4 3 rfl rfl (vp_in_iff.mpr ⟨by omega, by omega⟩) dX12_tryShelf_93 ?_
                  refine lv_topi (fun t165 et165 => ?_)
                  refine lv_aload_n hx hb dX12_tryShelf_94 rfl (lv_at hl 2 rfl) ?_
                  refine lv_iload_n hx hb dX12_tryShelf_95 rfl (lv_at hl 3 rfl) ?_
                  refine lv_iconst (v := 0) hx hb dX12_tryShelf_96 (by decide) ?_
                  have hPc := hP.sub (ws' := (wd_5013416a h0 v0 r0 v1 v2 v3 v4 r1 r2 r3 r4 r5 r6 r7 v5 v6 r8 r9 r10 r11 v7 h1 r12 v8 v9 h2 r13 v10 v11 r14 v12 v13 r15 v14 w15 r16 x122 x123 h3 h4 r17 r18 r19 r20 v18 r21 r22 r23 v19 h2 g1 f21)) [0, 2] rfl
                  have hDc := hD.sub (ws' := (wd_5013416a h0 v0 r0 v1 v2 v3 v4 r1 r2 r3 r4 r5 r6 r7 v5 v6 r8 r9 r10 r11 v7 h1 r12 v8 v9 h2 r13 v10 v11 r14 v12 v13 r15 v14 w15 r16 x122 x123 h3 h4 r17 r18 r19 r20 v18 r21 r22 r23 v19 h2 g1 f21)) [0, 2] (by decide) rfl
                  have hKc := hK.sub (tys' := [(g1, .int)]) [1] rfl
                  have hFc := va_free (wc := (wd_5013416a h0 v0 r0 v1 v2 v3 v4 r1 r2 r3 r4 r5 r6 r7 v5 v6 r8 r9 r10 r11 v7 h1 r12 v8 v9 h2 r13 v10 v11 r14 v12 v13 r15 v14 w15 r16 x122 x123 h3 h4 r17 r18 r19 r20 v18 r21 r22 r23 v19 h2 g1 f21)) hD hS hA [0, 2] rfl
                  refine va_calli (va_runV (As := [.int 6, .int 0]) (rest := [.int t165]) ⟨hx, hb, hml, hown, hts⟩ (k_X12_of_3 l dC dI h0 h2 v0 r0 v1 v2 v3 v4 r1 r2 r3 r4 r5 r6 r7 v5 v6 r8 r9 r10 r11 v7 h1 r12 v8 v9 r13 v10 v11 r14 v12 v13 r15 v14 w15 r16 x122 x123 h3 h4 r17 r18 r19 r20 v18 r21 r22 r23 v19 g1 f21 6 ⟨i_v1a, i_v1b⟩ ⟨i_v5a, i_v5b⟩ ⟨i_v6a, i_v6b⟩ ⟨i_v7a, i_v7b⟩ ⟨i_v8a, i_v8b⟩ ⟨i_v9a, i_v9b⟩ ⟨i_v10a, i_v10b⟩ ⟨i_v14a, i_v14b⟩ ⟨i_v18a, i_v18b⟩ ⟨i_v19a, i_v19b⟩ ⟨by decide, by decide⟩ ia_f21.1 H.size) (cwV 2 hts g_X12_tryShelf_2_2 rfl rfl rfl (by decide +kernel) ⟨Nat.le_of_ble_eq_true rfl, Nat.le_of_ble_eq_true rfl⟩) (pv_PV12 hPc hKc hDc (q0 := 0) rfl) rfl rfl hl.1 rfl (lv_room (Nat.le_of_ble_eq_true rfl)) dX12_tryShelf_97 ⟨Nat.le_of_ble_eq_true rfl, Nat.le_of_ble_eq_true rfl⟩) hS (fun q _ h => hFc q h) hFc (fun ra166 u t H1 locs ht hvm hwra166 hB hz1 hk1 hS => ?_)
                  try rw [hwra166] at hB
                  have hkra166_0 : ((6 : Int32)).toInt = 6 := by decide
                  obtain ⟨pt0_ra166, pt1_ra166, pt2_ra166, hP1, hK1, hD1⟩ := hB
                  rw [ht] at hP1
                  obtain ⟨hP2, hD2⟩ := va_join (wr := (wd_20b67a68 h1 g0 f20 h3 g2 fn124 h4 g3 fn125)) (w1 := (wd_5013416a h0 v0 r0 v1 v2 v3 v4 r1 r2 r3 r4 r5 r6 r7 v5 v6 r8 r9 r10 r11 v7 h1 r12 v8 v9 h2 r13 v10 v11 r14 v12 v13 r15 v14 w15 r16 x122 x123 h3 h4 r17 r18 r19 r20 v18 r21 r22 r23 v19 h2 g1 f21)) hP hD [0, 2] [1, 3, 4] rfl rfl (by decide) (by decide) hk1 hFc hP1 hD1
                  clear hP hD hPc hDc hKc hFc hP1 hK1 hD1 hk1 hz1
                  generalize H1 = H at hP2 hS ⊢
                  have hP := hP2.sub (ws' := (wd_90cd99f9 h0 v0 r0 v1 v2 v3 v4 r1 r2 r3 r4 r5 r6 r7 v5 v6 r8 r9 r10 r11 v7 h1 r12 v8 v9 h2 r13 v10 v11 r14 v12 v13 r15 v14 w15 r16 x122 x123 h3 h4 r17 r18 r19 r20 v18 r21 r22 r23 v19 h1 g0 f20 h2 g1 f21 h3 g2 fn124 h4 g3 fn125)) [3, 0, 4, 1, 2] rfl
                  have hD := hD2.sub (ws' := (wd_90cd99f9 h0 v0 r0 v1 v2 v3 v4 r1 r2 r3 r4 r5 r6 r7 v5 v6 r8 r9 r10 r11 v7 h1 r12 v8 v9 h2 r13 v10 v11 r14 v12 v13 r15 v14 w15 r16 x122 x123 h3 h4 r17 r18 r19 r20 v18 r21 r22 r23 v19 h1 g0 f20 h2 g1 f21 h3 g2 fn124 h4 g3 fn125)) [3, 0, 4, 1, 2] (by decide) rfl
                  clear hP2 hD2
                  refine lv_iadd hx hb dX12_tryShelf_100 ?_
                  refine lv_topi (fun t167 et167 => ?_)
                  refine lv_aload_n hx hb dX12_tryShelf_101 rfl (lv_at hl 2 rfl) ?_
                  refine va_get (D := (dC, dI)) (ci := 12) (v := .ref h1) (C := RX12) (T := TX12) (N := 48) hx hb hts (fun _ h => List.mem_cons_of_mem _ (List.mem_append_right _ h)) hown hK hP 0 rfl rfl 20 (by decide) (hts (.fieldLink RX12 46 "LeftArgumentsModel" "rule" "[I") (List.mem_cons_of_mem _ (List.mem_append_left _ (List.mem_of_getElem? (i := 37) rfl)))) (fun _ h9 => h9) rfl dX12_tryShelf_102 ?_
                  refine lv_iconst (v := 0) hx hb dX12_tryShelf_105 (by decide) ?_
                  refine va_iald hx hb hK hP 1 0 rfl rfl (pv_c (x := 0) (n := 4) (by decide)) dX12_tryShelf_106 ?_
                  refine lv_topi (fun t168 et168 => ?_)
                  have gat168 : 0 ≤ t168.toInt := by rw [et168]; exact ia_f20.2
                  refine lv_icmp_gt (tgt := 202) hx hb dX12_tryShelf_107 (by decide) (fun c169 => ?_) (fun c169 => ?_)
                  · skip
                    have fc169 : t168.toInt < t167.toInt := Int32.lt_iff_toInt_lt.mp c169
                    have r1c169 := Int32.toInt_lt t167
                    have r2c169 := Int32.toInt_lt t168
                    have r3c169 := Int32.le_toInt t167
                    have r4c169 := Int32.le_toInt t168
                    exact hJ137 x122 x123 fn124 fn125 H locs ls hP hD hS (lv_sub hl [0, 1, 2, 3, 4, 5, 6] rfl)
                  · skip
                    have fc169 : ¬ (t168.toInt < t167.toInt) := fun h9 => c169 (Int32.lt_iff_toInt_lt.mpr h9)
                    have r1c169 := Int32.toInt_lt t167
                    have r2c169 := Int32.toInt_lt t168
                    have r3c169 := Int32.le_toInt t167
                    have r4c169 := Int32.le_toInt t168
                    refine lv_goto (tgt := 123) hx hb dX12_tryShelf_110 (by decide) ?_
                    refine lv_aload_n hx hb dX12_tryShelf_123 rfl (lv_at hl 2 rfl) ?_
                    refine va_get (D := (dC, dI)) (ci := 12) (v := .ref h4) (C := RX12) (T := TX12) (N := 48) hx hb hts (fun _ h => List.mem_cons_of_mem _ (List.mem_append_right _ h)) hown hK hP 0 rfl rfl 38 (by decide) (hts (.fieldLink RX12 77 "LeftArgumentsModel" "room" "[I") (List.mem_cons_of_mem _ (List.mem_append_left _ (List.mem_of_getElem? (i := 31) rfl)))) (fun _ h9 => h9) rfl dX12_tryShelf_124 ?_
                    refine lv_iload hx hb dX12_tryShelf_127 (lv_at hl 0 rfl) ?_
                    refine lv_dup2_11 hx hb dX12_tryShelf_129 rfl rfl ?_
                    refine va_iald hx hb hK hP 4 3 rfl rfl (vp_in_iff.mpr ⟨by omega, by omega⟩) dX12_tryShelf_130 ?_
                    refine lv_topi (fun t170 et170 => ?_)
                    have gmt170 : t170.toInt = t165.toInt := by rw [et170, et165]
                    refine lv_aload_n hx hb dX12_tryShelf_131 rfl (lv_at hl 2 rfl) ?_
                    refine lv_iload_n hx hb dX12_tryShelf_132 rfl (lv_at hl 3 rfl) ?_
                    refine lv_iconst (v := 0) hx hb dX12_tryShelf_133 (by decide) ?_
                    have hPc := hP.sub (ws' := (wd_5013416a h0 v0 r0 v1 v2 v3 v4 r1 r2 r3 r4 r5 r6 r7 v5 v6 r8 r9 r10 r11 v7 h1 r12 v8 v9 h2 r13 v10 v11 r14 v12 v13 r15 v14 w15 r16 x122 x123 h3 h4 r17 r18 r19 r20 v18 r21 r22 r23 v19 h2 g1 f21)) [0, 2] rfl
                    have hDc := hD.sub (ws' := (wd_5013416a h0 v0 r0 v1 v2 v3 v4 r1 r2 r3 r4 r5 r6 r7 v5 v6 r8 r9 r10 r11 v7 h1 r12 v8 v9 h2 r13 v10 v11 r14 v12 v13 r15 v14 w15 r16 x122 x123 h3 h4 r17 r18 r19 r20 v18 r21 r22 r23 v19 h2 g1 f21)) [0, 2] (by decide) rfl
                    have hKc := hK.sub (tys' := [(g1, .int)]) [1] rfl
                    have hFc := va_free (wc := (wd_5013416a h0 v0 r0 v1 v2 v3 v4 r1 r2 r3 r4 r5 r6 r7 v5 v6 r8 r9 r10 r11 v7 h1 r12 v8 v9 h2 r13 v10 v11 r14 v12 v13 r15 v14 w15 r16 x122 x123 h3 h4 r17 r18 r19 r20 v18 r21 r22 r23 v19 h2 g1 f21)) hD hS hA [0, 2] rfl
                    refine va_calli (va_runV (As := [.int 6, .int 0]) (rest := [.int t170, .int x121, .ref h4]) ⟨hx, hb, hml, hown, hts⟩ (k_X12_of_3 l dC dI h0 h2 v0 r0 v1 v2 v3 v4 r1 r2 r3 r4 r5 r6 r7 v5 v6 r8 r9 r10 r11 v7 h1 r12 v8 v9 r13 v10 v11 r14 v12 v13 r15 v14 w15 r16 x122 x123 h3 h4 r17 r18 r19 r20 v18 r21 r22 r23 v19 g1 f21 6 ⟨i_v1a, i_v1b⟩ ⟨i_v5a, i_v5b⟩ ⟨i_v6a, i_v6b⟩ ⟨i_v7a, i_v7b⟩ ⟨i_v8a, i_v8b⟩ ⟨i_v9a, i_v9b⟩ ⟨i_v10a, i_v10b⟩ ⟨i_v14a, i_v14b⟩ ⟨i_v18a, i_v18b⟩ ⟨i_v19a, i_v19b⟩ ⟨by decide, by decide⟩ ia_f21.1 H.size) (cwV 2 hts g_X12_tryShelf_2_2 rfl rfl rfl (by decide +kernel) ⟨Nat.le_of_ble_eq_true rfl, Nat.le_of_ble_eq_true rfl⟩) (pv_PV12 hPc hKc hDc (q0 := 0) rfl) rfl rfl hl.1 rfl (lv_room (Nat.le_of_ble_eq_true rfl)) dX12_tryShelf_134 ⟨Nat.le_of_ble_eq_true rfl, Nat.le_of_ble_eq_true rfl⟩) hS (fun q _ h => hFc q h) hFc (fun ra171 u t H1 locs ht hvm hwra171 hB hz1 hk1 hS => ?_)
                    try rw [hwra171] at hB
                    have hkra171_0 : ((6 : Int32)).toInt = 6 := by decide
                    obtain ⟨pt0_ra171, pt1_ra171, pt2_ra171, hP1, hK1, hD1⟩ := hB
                    rw [ht] at hP1
                    obtain ⟨hP2, hD2⟩ := va_join (wr := (wd_20b67a68 h1 g0 f20 h3 g2 fn124 h4 g3 fn125)) (w1 := (wd_5013416a h0 v0 r0 v1 v2 v3 v4 r1 r2 r3 r4 r5 r6 r7 v5 v6 r8 r9 r10 r11 v7 h1 r12 v8 v9 h2 r13 v10 v11 r14 v12 v13 r15 v14 w15 r16 x122 x123 h3 h4 r17 r18 r19 r20 v18 r21 r22 r23 v19 h2 g1 f21)) hP hD [0, 2] [1, 3, 4] rfl rfl (by decide) (by decide) hk1 hFc hP1 hD1
                    clear hP hD hPc hDc hKc hFc hP1 hK1 hD1 hk1 hz1
                    generalize H1 = H at hP2 hS ⊢
                    have hP := hP2.sub (ws' := (wd_90cd99f9 h0 v0 r0 v1 v2 v3 v4 r1 r2 r3 r4 r5 r6 r7 v5 v6 r8 r9 r10 r11 v7 h1 r12 v8 v9 h2 r13 v10 v11 r14 v12 v13 r15 v14 w15 r16 x122 x123 h3 h4 r17 r18 r19 r20 v18 r21 r22 r23 v19 h1 g0 f20 h2 g1 f21 h3 g2 fn124 h4 g3 fn125)) [3, 0, 4, 1, 2] rfl
                    have hD := hD2.sub (ws' := (wd_90cd99f9 h0 v0 r0 v1 v2 v3 v4 r1 r2 r3 r4 r5 r6 r7 v5 v6 r8 r9 r10 r11 v7 h1 r12 v8 v9 h2 r13 v10 v11 r14 v12 v13 r15 v14 w15 r16 x122 x123 h3 h4 r17 r18 r19 r20 v18 r21 r22 r23 v19 h1 g0 f20 h2 g1 f21 h3 g2 fn124 h4 g3 fn125)) [3, 0, 4, 1, 2] (by decide) rfl
                    clear hP2 hD2
                    refine lv_iadd hx hb dX12_tryShelf_137 ?_
                    refine lv_topi (fun t172 et172 => ?_)
                    refine va_iast hx hb hK hP hD hS 4 3 rfl rfl (vp_in_iff.mpr ⟨by omega, by omega⟩) dX12_tryShelf_138 (fun H locs hP hD hS => ?_)
                    obtain ⟨fn173, efn173⟩ : ∃ g : Nat → Int32, g = upd fn125 (Int32.toNatClampNeg x121) t172 := ⟨_, rfl⟩
                    rw [← efn173] at hP hD
                    have hP : va_P (dC, dI) vwCl (wd_90cd99f9 h0 v0 r0 v1 v2 v3 v4 r1 r2 r3 r4 r5 r6 r7 v5 v6 r8 r9 r10 r11 v7 h1 r12 v8 v9 h2 r13 v10 v11 r14 v12 v13 r15 v14 w15 r16 x122 x123 h3 h4 r17 r18 r19 r20 v18 r21 r22 r23 v19 h1 g0 f20 h2 g1 f21 h3 g2 fn124 h4 g3 fn173) H := hP
                    have hD : va_D A (wd_90cd99f9 h0 v0 r0 v1 v2 v3 v4 r1 r2 r3 r4 r5 r6 r7 v5 v6 r8 r9 r10 r11 v7 h1 r12 v8 v9 h2 r13 v10 v11 r14 v12 v13 r15 v14 w15 r16 x122 x123 h3 h4 r17 r18 r19 r20 v18 r21 r22 r23 v19 h1 g0 f20 h2 g1 f21 h3 g2 fn124 h4 g3 fn173) := hD
                    refine lv_aload_n hx hb dX12_tryShelf_139 rfl (lv_at hl 2 rfl) ?_
                    refine va_get (D := (dC, dI)) (ci := 12) (v := .ref h3) (C := RX12) (T := TX12) (N := 48) hx hb hts (fun _ h => List.mem_cons_of_mem _ (List.mem_append_right _ h)) hown hK hP 0 rfl rfl 37 (by decide) (hts (.fieldLink RX12 74 "LeftArgumentsModel" "onShelf" "[I") (List.mem_cons_of_mem _ (List.mem_append_left _ (List.mem_of_getElem? (i := 15) rfl)))) (fun _ h9 => h9) rfl dX12_tryShelf_140 ?_
                    refine lv_iload_n hx hb dX12_tryShelf_143 rfl (lv_at hl 3 rfl) ?_
                    refine lv_iload hx hb dX12_tryShelf_144 (lv_at hl 0 rfl) ?_
                    refine va_iast hx hb hK hP hD hS 3 2 rfl rfl (pv_c (x := 6) (n := 8) (by decide)) dX12_tryShelf_146 (fun H locs hP hD hS => ?_)
                    obtain ⟨fn174, efn174⟩ : ∃ g : Nat → Int32, g = upd fn124 (Int32.toNatClampNeg 6) x121 := ⟨_, rfl⟩
                    rw [← efn174] at hP hD
                    have hP : va_P (dC, dI) vwCl (wd_90cd99f9 h0 v0 r0 v1 v2 v3 v4 r1 r2 r3 r4 r5 r6 r7 v5 v6 r8 r9 r10 r11 v7 h1 r12 v8 v9 h2 r13 v10 v11 r14 v12 v13 r15 v14 w15 r16 x122 x123 h3 h4 r17 r18 r19 r20 v18 r21 r22 r23 v19 h1 g0 f20 h2 g1 f21 h3 g2 fn174 h4 g3 fn173) H := hP
                    have hD : va_D A (wd_90cd99f9 h0 v0 r0 v1 v2 v3 v4 r1 r2 r3 r4 r5 r6 r7 v5 v6 r8 r9 r10 r11 v7 h1 r12 v8 v9 h2 r13 v10 v11 r14 v12 v13 r15 v14 w15 r16 x122 x123 h3 h4 r17 r18 r19 r20 v18 r21 r22 r23 v19 h1 g0 f20 h2 g1 f21 h3 g2 fn174 h4 g3 fn173) := hD
                    refine lv_aload_n hx hb dX12_tryShelf_147 rfl (lv_at hl 2 rfl) ?_
                    refine lv_iload_n hx hb dX12_tryShelf_148 rfl (lv_at hl 3 rfl) ?_
                    refine lv_iconst (v := 1) hx hb dX12_tryShelf_149 (by decide) ?_
                    refine lv_iadd hx hb dX12_tryShelf_150 ?_
                    refine lv_topi (fun tv175 etv175 => ?_)
                    obtain rfl : tv175 = (7 : Int32) := etv175.trans (by first | rfl | decide)
                    refine lv_bipush (v := 10) hx hb dX12_tryShelf_151 (by decide) ?_
                    refine lv_iload_n hx hb dX12_tryShelf_153 rfl (lv_at hl 4 rfl) ?_
                    refine lv_imul hx hb dX12_tryShelf_154 ?_
                    refine lv_topi (fun t176 et176 => ?_)
                    refine lv_iload hx hb dX12_tryShelf_155 (lv_at hl 0 rfl) ?_
                    refine lv_iadd hx hb dX12_tryShelf_157 ?_
                    refine lv_topi (fun t177 et177 => ?_)
                    refine lv_iload_n hx hb dX12_tryShelf_158 rfl (lv_at hl 5 rfl) ?_
                    refine lv_aload_n hx hb dX12_tryShelf_159 rfl (lv_at hl 2 rfl) ?_
                    refine va_get (D := (dC, dI)) (ci := 12) (v := .ref h4) (C := RX12) (T := TX12) (N := 48) hx hb hts (fun _ h => List.mem_cons_of_mem _ (List.mem_append_right _ h)) hown hK hP 0 rfl rfl 38 (by decide) (hts (.fieldLink RX12 77 "LeftArgumentsModel" "room" "[I") (List.mem_cons_of_mem _ (List.mem_append_left _ (List.mem_of_getElem? (i := 31) rfl)))) (fun _ h9 => h9) rfl dX12_tryShelf_160 ?_
                    refine lv_iload hx hb dX12_tryShelf_163 (lv_at hl 0 rfl) ?_
                    refine va_iald hx hb hK hP 4 3 rfl rfl (vp_in_iff.mpr ⟨by omega, by omega⟩) dX12_tryShelf_165 ?_
                    refine lv_topi (fun t178 et178 => ?_)
                    refine lv_aload_n hx hb dX12_tryShelf_166 rfl (lv_at hl 2 rfl) ?_
                    refine lv_iload_n hx hb dX12_tryShelf_167 rfl (lv_at hl 3 rfl) ?_
                    refine lv_iconst (v := 0) hx hb dX12_tryShelf_168 (by decide) ?_
                    have hPc := hP.sub (ws' := (wd_5013416a h0 v0 r0 v1 v2 v3 v4 r1 r2 r3 r4 r5 r6 r7 v5 v6 r8 r9 r10 r11 v7 h1 r12 v8 v9 h2 r13 v10 v11 r14 v12 v13 r15 v14 w15 r16 x122 x123 h3 h4 r17 r18 r19 r20 v18 r21 r22 r23 v19 h2 g1 f21)) [0, 2] rfl
                    have hDc := hD.sub (ws' := (wd_5013416a h0 v0 r0 v1 v2 v3 v4 r1 r2 r3 r4 r5 r6 r7 v5 v6 r8 r9 r10 r11 v7 h1 r12 v8 v9 h2 r13 v10 v11 r14 v12 v13 r15 v14 w15 r16 x122 x123 h3 h4 r17 r18 r19 r20 v18 r21 r22 r23 v19 h2 g1 f21)) [0, 2] (by decide) rfl
                    have hKc := hK.sub (tys' := [(g1, .int)]) [1] rfl
                    have hFc := va_free (wc := (wd_5013416a h0 v0 r0 v1 v2 v3 v4 r1 r2 r3 r4 r5 r6 r7 v5 v6 r8 r9 r10 r11 v7 h1 r12 v8 v9 h2 r13 v10 v11 r14 v12 v13 r15 v14 w15 r16 x122 x123 h3 h4 r17 r18 r19 r20 v18 r21 r22 r23 v19 h2 g1 f21)) hD hS hA [0, 2] rfl
                    refine va_calli (va_runV (As := [.int 6, .int 0]) (rest := [.int t178, .int v25, .int t177, .int 7, .ref h0]) ⟨hx, hb, hml, hown, hts⟩ (k_X12_of_3 l dC dI h0 h2 v0 r0 v1 v2 v3 v4 r1 r2 r3 r4 r5 r6 r7 v5 v6 r8 r9 r10 r11 v7 h1 r12 v8 v9 r13 v10 v11 r14 v12 v13 r15 v14 w15 r16 x122 x123 h3 h4 r17 r18 r19 r20 v18 r21 r22 r23 v19 g1 f21 6 ⟨i_v1a, i_v1b⟩ ⟨i_v5a, i_v5b⟩ ⟨i_v6a, i_v6b⟩ ⟨i_v7a, i_v7b⟩ ⟨i_v8a, i_v8b⟩ ⟨i_v9a, i_v9b⟩ ⟨i_v10a, i_v10b⟩ ⟨i_v14a, i_v14b⟩ ⟨i_v18a, i_v18b⟩ ⟨i_v19a, i_v19b⟩ ⟨by decide, by decide⟩ ia_f21.1 H.size) (cwV 2 hts g_X12_tryShelf_2_2 rfl rfl rfl (by decide +kernel) ⟨Nat.le_of_ble_eq_true rfl, Nat.le_of_ble_eq_true rfl⟩) (pv_PV12 hPc hKc hDc (q0 := 0) rfl) rfl rfl hl.1 rfl (lv_room (Nat.le_of_ble_eq_true rfl)) dX12_tryShelf_169 ⟨Nat.le_of_ble_eq_true rfl, Nat.le_of_ble_eq_true rfl⟩) hS (fun q _ h => hFc q h) hFc (fun ra179 u t H1 locs ht hvm hwra179 hB hz1 hk1 hS => ?_)
                    try rw [hwra179] at hB
                    have hkra179_0 : ((6 : Int32)).toInt = 6 := by decide
                    obtain ⟨pt0_ra179, pt1_ra179, pt2_ra179, hP1, hK1, hD1⟩ := hB
                    rw [ht] at hP1
                    obtain ⟨hP2, hD2⟩ := va_join (wr := (wd_20b67a68 h1 g0 f20 h3 g2 fn174 h4 g3 fn173)) (w1 := (wd_5013416a h0 v0 r0 v1 v2 v3 v4 r1 r2 r3 r4 r5 r6 r7 v5 v6 r8 r9 r10 r11 v7 h1 r12 v8 v9 h2 r13 v10 v11 r14 v12 v13 r15 v14 w15 r16 x122 x123 h3 h4 r17 r18 r19 r20 v18 r21 r22 r23 v19 h2 g1 f21)) hP hD [0, 2] [1, 3, 4] rfl rfl (by decide) (by decide) hk1 hFc hP1 hD1
                    clear hP hD hPc hDc hKc hFc hP1 hK1 hD1 hk1 hz1
                    generalize H1 = H at hP2 hS ⊢
                    have hP := hP2.sub (ws' := (wd_90cd99f9 h0 v0 r0 v1 v2 v3 v4 r1 r2 r3 r4 r5 r6 r7 v5 v6 r8 r9 r10 r11 v7 h1 r12 v8 v9 h2 r13 v10 v11 r14 v12 v13 r15 v14 w15 r16 x122 x123 h3 h4 r17 r18 r19 r20 v18 r21 r22 r23 v19 h1 g0 f20 h2 g1 f21 h3 g2 fn174 h4 g3 fn173)) [3, 0, 4, 1, 2] rfl
                    have hD := hD2.sub (ws' := (wd_90cd99f9 h0 v0 r0 v1 v2 v3 v4 r1 r2 r3 r4 r5 r6 r7 v5 v6 r8 r9 r10 r11 v7 h1 r12 v8 v9 h2 r13 v10 v11 r14 v12 v13 r15 v14 w15 r16 x122 x123 h3 h4 r17 r18 r19 r20 v18 r21 r22 r23 v19 h1 g0 f20 h2 g1 f21 h3 g2 fn174 h4 g3 fn173)) [3, 0, 4, 1, 2] (by decide) rfl
                    clear hP2 hD2
                    have hJ181 : ∀ (x180 : Int32) (H : Heap) (locs : List Loc) (ls : Array Slot), 0 ≤ x180.toInt → x180.toInt ≤ 1 → va_P (dC, dI) vwCl (wd_90cd99f9 h0 v0 r0 v1 v2 v3 v4 r1 r2 r3 r4 r5 r6 r7 v5 v6 r8 r9 r10 r11 v7 h1 r12 v8 v9 h2 r13 v10 v11 r14 v12 v13 r15 v14 w15 r16 x122 x123 h3 h4 r17 r18 r19 r20 v18 r21 r22 r23 v19 h1 g0 f20 h2 g1 f21 h3 g2 fn174 h4 g3 fn173) H → va_D A (wd_90cd99f9 h0 v0 r0 v1 v2 v3 v4 r1 r2 r3 r4 r5 r6 r7 v5 v6 r8 r9 r10 r11 v7 h1 r12 v8 v9 h2 r13 v10 v11 r14 v12 v13 r15 v14 w15 r16 x122 x123 h3 h4 r17 r18 r19 r20 v18 r21 r22 r23 v19 h1 g0 f20 h2 g1 f21 h3 g2 fn174 h4 g3 fn173) → va_S A s.heap H locs → lv_has ls 7 [(6, .int x121), (5, .int x104), (0, .ref h0), (1, .int 6), (2, .int v24), (3, .int v25), (4, .int v26)] → W p l e ({ frames := 5, cells := 0, slots := 0, locals := 114 }) s m ([.ref h0, .int 6, .int v24, .int v25, .int v26] : List Value).toArray below meth c H locs 0 0 Q (F0 m 180 ls [.int x180, .int v25, .int t177, .int 7, .ref h0]) := by
                      intro x180 H locs ls qa_x180 qb_x180 hP hD hS hl
                      refine lv_iadd hx hb dX12_tryShelf_180 ?_
                      refine lv_topi (fun t182 et182 => ?_)
                      have r5t182v25 := Int32.le_toInt v25; have r6t182v25 := Int32.toInt_lt v25
                      have gt182 : t182.toInt = v25.toInt + x180.toInt := pv_add (a := v25.toInt) (b := x180.toInt) et182 rfl rfl (by omega) (by omega)
                      refine lv_iload hx hb dX12_tryShelf_181 (lv_at hl 6 rfl) ?_
                      have hPc := hP.sub (ws' := (wd_90cd99f9 h0 v0 r0 v1 v2 v3 v4 r1 r2 r3 r4 r5 r6 r7 v5 v6 r8 r9 r10 r11 v7 h1 r12 v8 v9 h2 r13 v10 v11 r14 v12 v13 r15 v14 w15 r16 x122 x123 h3 h4 r17 r18 r19 r20 v18 r21 r22 r23 v19 h1 g0 f20 h2 g1 f21 h3 g2 fn174 h4 g3 fn173)) [0, 1, 2, 3, 4] rfl
                      have hDc := hD.sub (ws' := (wd_90cd99f9 h0 v0 r0 v1 v2 v3 v4 r1 r2 r3 r4 r5 r6 r7 v5 v6 r8 r9 r10 r11 v7 h1 r12 v8 v9 h2 r13 v10 v11 r14 v12 v13 r15 v14 w15 r16 x122 x123 h3 h4 r17 r18 r19 r20 v18 r21 r22 r23 v19 h1 g0 f20 h2 g1 f21 h3 g2 fn174 h4 g3 fn173)) [0, 1, 2, 3, 4] (by decide) rfl
                      have hKc := hK.sub (tys' := [(g0, .int), (g1, .int), (g2, .int), (g3, .int)]) [0, 1, 2, 3] rfl
                      have hFc := va_free (wc := (wd_90cd99f9 h0 v0 r0 v1 v2 v3 v4 r1 r2 r3 r4 r5 r6 r7 v5 v6 r8 r9 r10 r11 v7 h1 r12 v8 v9 h2 r13 v10 v11 r14 v12 v13 r15 v14 w15 r16 x122 x123 h3 h4 r17 r18 r19 r20 v18 r21 r22 r23 v19 h1 g0 f20 h2 g1 f21 h3 g2 fn174 h4 g3 fn173)) hD hS hA [0, 1, 2, 3, 4] rfl
                      refine va_callv (va_runV (As := [.int 7, .int t177, .int t182, .int v26]) (rest := []) ⟨hx, hb, hml, hown, hts⟩ (k_X12_tryShelf_1 l dC dI h0 h1 h2 h3 h4 v0 r0 v1 v2 v3 v4 r1 r2 r3 r4 r5 r6 r7 v5 v6 r8 r9 r10 r11 v7 r12 v8 v9 r13 v10 v11 r14 v12 v13 r15 v14 w15 r16 x122 x123 r17 r18 r19 r20 v18 r21 r22 r23 v19 g0 f20 g1 f21 g2 fn174 g3 fn173 t177 t182 v26 ⟨i_v1a, i_v1b⟩ ⟨i_v5a, i_v5b⟩ ⟨i_v6a, i_v6b⟩ ⟨i_v7a, i_v7b⟩ ⟨i_v8a, i_v8b⟩ ⟨i_v9a, i_v9b⟩ ⟨i_v10a, i_v10b⟩ ⟨i_v14a, i_v14b⟩ ⟨i_v18a, i_v18b⟩ ⟨i_v19a, i_v19b⟩ ⟨i_v26a, i_v26b⟩ ia_f20 ia_f21 H.size) (cwV 4 hts g_X12_tryShelf_2_4 rfl rfl rfl (by decide +kernel) ⟨Nat.le_of_ble_eq_true rfl, Nat.le_of_ble_eq_true rfl⟩) (pv_PV12 hPc hKc hDc (q0 := 0) rfl) rfl rfl hl.1 rfl (lv_room (Nat.le_of_ble_eq_true rfl)) dX12_tryShelf_183 ⟨Nat.le_of_ble_eq_true rfl, Nat.le_of_ble_eq_true rfl⟩) hS (fun q _ h => hFc q h) hFc (fun u t H1 locs ht hvm hwra183 hB hz1 hk1 hS => ?_)
                      obtain ⟨x184, x185, fn186, fn187, hP1, hK1, hD1⟩ := hB
                      rw [ht] at hP1
                      obtain ⟨hP2, hD2⟩ := va_join (wr := []) (w1 := (wd_90cd99f9 h0 v0 r0 v1 v2 v3 v4 r1 r2 r3 r4 r5 r6 r7 v5 v6 r8 r9 r10 r11 v7 h1 r12 v8 v9 h2 r13 v10 v11 r14 v12 v13 r15 v14 w15 r16 x184 x185 h3 h4 r17 r18 r19 r20 v18 r21 r22 r23 v19 h1 g0 f20 h2 g1 f21 h3 g2 fn186 h4 g3 fn187)) hP hD [0, 1, 2, 3, 4] [] rfl rfl (by decide) (by decide) hk1 hFc hP1 hD1
                      clear hP hD hPc hDc hKc hFc hP1 hK1 hD1 hk1 hz1
                      generalize H1 = H at hP2 hS ⊢
                      have hP : va_P (dC, dI) vwCl (wd_90cd99f9 h0 v0 r0 v1 v2 v3 v4 r1 r2 r3 r4 r5 r6 r7 v5 v6 r8 r9 r10 r11 v7 h1 r12 v8 v9 h2 r13 v10 v11 r14 v12 v13 r15 v14 w15 r16 x184 x185 h3 h4 r17 r18 r19 r20 v18 r21 r22 r23 v19 h1 g0 f20 h2 g1 f21 h3 g2 fn186 h4 g3 fn187) H := hP2
                      have hD : va_D A (wd_90cd99f9 h0 v0 r0 v1 v2 v3 v4 r1 r2 r3 r4 r5 r6 r7 v5 v6 r8 r9 r10 r11 v7 h1 r12 v8 v9 h2 r13 v10 v11 r14 v12 v13 r15 v14 w15 r16 x184 x185 h3 h4 r17 r18 r19 r20 v18 r21 r22 r23 v19 h1 g0 f20 h2 g1 f21 h3 g2 fn186 h4 g3 fn187) := hD2
                      clear hP2 hD2
                      refine lv_aload_n hx hb dX12_tryShelf_186 rfl (lv_at hl 2 rfl) ?_
                      refine va_get (D := (dC, dI)) (ci := 12) (v := .ref h4) (C := RX12) (T := TX12) (N := 48) hx hb hts (fun _ h => List.mem_cons_of_mem _ (List.mem_append_right _ h)) hown hK hP 0 rfl rfl 38 (by decide) (hts (.fieldLink RX12 77 "LeftArgumentsModel" "room" "[I") (List.mem_cons_of_mem _ (List.mem_append_left _ (List.mem_of_getElem? (i := 31) rfl)))) (fun _ h9 => h9) rfl dX12_tryShelf_187 ?_
                      refine lv_iload hx hb dX12_tryShelf_190 (lv_at hl 0 rfl) ?_
                      refine lv_dup2_11 hx hb dX12_tryShelf_192 rfl rfl ?_
                      refine va_iald hx hb hK hP 4 3 rfl rfl (vp_in_iff.mpr ⟨by omega, by omega⟩) dX12_tryShelf_193 ?_
                      refine lv_topi (fun t188 et188 => ?_)
                      refine lv_aload_n hx hb dX12_tryShelf_194 rfl (lv_at hl 2 rfl) ?_
                      refine lv_iload_n hx hb dX12_tryShelf_195 rfl (lv_at hl 3 rfl) ?_
                      refine lv_iconst (v := 0) hx hb dX12_tryShelf_196 (by decide) ?_
                      have hPc := hP.sub (ws' := (wd_5013416a h0 v0 r0 v1 v2 v3 v4 r1 r2 r3 r4 r5 r6 r7 v5 v6 r8 r9 r10 r11 v7 h1 r12 v8 v9 h2 r13 v10 v11 r14 v12 v13 r15 v14 w15 r16 x184 x185 h3 h4 r17 r18 r19 r20 v18 r21 r22 r23 v19 h2 g1 f21)) [0, 2] rfl
                      have hDc := hD.sub (ws' := (wd_5013416a h0 v0 r0 v1 v2 v3 v4 r1 r2 r3 r4 r5 r6 r7 v5 v6 r8 r9 r10 r11 v7 h1 r12 v8 v9 h2 r13 v10 v11 r14 v12 v13 r15 v14 w15 r16 x184 x185 h3 h4 r17 r18 r19 r20 v18 r21 r22 r23 v19 h2 g1 f21)) [0, 2] (by decide) rfl
                      have hKc := hK.sub (tys' := [(g1, .int)]) [1] rfl
                      have hFc := va_free (wc := (wd_5013416a h0 v0 r0 v1 v2 v3 v4 r1 r2 r3 r4 r5 r6 r7 v5 v6 r8 r9 r10 r11 v7 h1 r12 v8 v9 h2 r13 v10 v11 r14 v12 v13 r15 v14 w15 r16 x184 x185 h3 h4 r17 r18 r19 r20 v18 r21 r22 r23 v19 h2 g1 f21)) hD hS hA [0, 2] rfl
                      refine va_calli (va_runV (As := [.int 6, .int 0]) (rest := [.int t188, .int x121, .ref h4]) ⟨hx, hb, hml, hown, hts⟩ (k_X12_of_3 l dC dI h0 h2 v0 r0 v1 v2 v3 v4 r1 r2 r3 r4 r5 r6 r7 v5 v6 r8 r9 r10 r11 v7 h1 r12 v8 v9 r13 v10 v11 r14 v12 v13 r15 v14 w15 r16 x184 x185 h3 h4 r17 r18 r19 r20 v18 r21 r22 r23 v19 g1 f21 6 ⟨i_v1a, i_v1b⟩ ⟨i_v5a, i_v5b⟩ ⟨i_v6a, i_v6b⟩ ⟨i_v7a, i_v7b⟩ ⟨i_v8a, i_v8b⟩ ⟨i_v9a, i_v9b⟩ ⟨i_v10a, i_v10b⟩ ⟨i_v14a, i_v14b⟩ ⟨i_v18a, i_v18b⟩ ⟨i_v19a, i_v19b⟩ ⟨by decide, by decide⟩ ia_f21.1 H.size) (cwV 2 hts g_X12_tryShelf_2_2 rfl rfl rfl (by decide +kernel) ⟨Nat.le_of_ble_eq_true rfl, Nat.le_of_ble_eq_true rfl⟩) (pv_PV12 hPc hKc hDc (q0 := 0) rfl) rfl rfl hl.1 rfl (lv_room (Nat.le_of_ble_eq_true rfl)) dX12_tryShelf_197 ⟨Nat.le_of_ble_eq_true rfl, Nat.le_of_ble_eq_true rfl⟩) hS (fun q _ h => hFc q h) hFc (fun ra189 u t H1 locs ht hvm hwra189 hB hz1 hk1 hS => ?_)
                      try rw [hwra189] at hB
                      have hkra189_0 : ((6 : Int32)).toInt = 6 := by decide
                      obtain ⟨pt0_ra189, pt1_ra189, pt2_ra189, hP1, hK1, hD1⟩ := hB
                      rw [ht] at hP1
                      obtain ⟨hP2, hD2⟩ := va_join (wr := (wd_20b67a68 h1 g0 f20 h3 g2 fn186 h4 g3 fn187)) (w1 := (wd_5013416a h0 v0 r0 v1 v2 v3 v4 r1 r2 r3 r4 r5 r6 r7 v5 v6 r8 r9 r10 r11 v7 h1 r12 v8 v9 h2 r13 v10 v11 r14 v12 v13 r15 v14 w15 r16 x184 x185 h3 h4 r17 r18 r19 r20 v18 r21 r22 r23 v19 h2 g1 f21)) hP hD [0, 2] [1, 3, 4] rfl rfl (by decide) (by decide) hk1 hFc hP1 hD1
                      clear hP hD hPc hDc hKc hFc hP1 hK1 hD1 hk1 hz1
                      generalize H1 = H at hP2 hS ⊢
                      have hP := hP2.sub (ws' := (wd_90cd99f9 h0 v0 r0 v1 v2 v3 v4 r1 r2 r3 r4 r5 r6 r7 v5 v6 r8 r9 r10 r11 v7 h1 r12 v8 v9 h2 r13 v10 v11 r14 v12 v13 r15 v14 w15 r16 x184 x185 h3 h4 r17 r18 r19 r20 v18 r21 r22 r23 v19 h1 g0 f20 h2 g1 f21 h3 g2 fn186 h4 g3 fn187)) [3, 0, 4, 1, 2] rfl
                      have hD := hD2.sub (ws' := (wd_90cd99f9 h0 v0 r0 v1 v2 v3 v4 r1 r2 r3 r4 r5 r6 r7 v5 v6 r8 r9 r10 r11 v7 h1 r12 v8 v9 h2 r13 v10 v11 r14 v12 v13 r15 v14 w15 r16 x184 x185 h3 h4 r17 r18 r19 r20 v18 r21 r22 r23 v19 h1 g0 f20 h2 g1 f21 h3 g2 fn186 h4 g3 fn187)) [3, 0, 4, 1, 2] (by decide) rfl
                      clear hP2 hD2
                      refine lv_isub hx hb dX12_tryShelf_200 ?_
                      refine lv_topi (fun t190 et190 => ?_)
                      refine va_iast hx hb hK hP hD hS 4 3 rfl rfl (vp_in_iff.mpr ⟨by omega, by omega⟩) dX12_tryShelf_201 (fun H locs hP hD hS => ?_)
                      obtain ⟨fn191, efn191⟩ : ∃ g : Nat → Int32, g = upd fn187 (Int32.toNatClampNeg x121) t190 := ⟨_, rfl⟩
                      rw [← efn191] at hP hD
                      have hP : va_P (dC, dI) vwCl (wd_90cd99f9 h0 v0 r0 v1 v2 v3 v4 r1 r2 r3 r4 r5 r6 r7 v5 v6 r8 r9 r10 r11 v7 h1 r12 v8 v9 h2 r13 v10 v11 r14 v12 v13 r15 v14 w15 r16 x184 x185 h3 h4 r17 r18 r19 r20 v18 r21 r22 r23 v19 h1 g0 f20 h2 g1 f21 h3 g2 fn186 h4 g3 fn191) H := hP
                      have hD : va_D A (wd_90cd99f9 h0 v0 r0 v1 v2 v3 v4 r1 r2 r3 r4 r5 r6 r7 v5 v6 r8 r9 r10 r11 v7 h1 r12 v8 v9 h2 r13 v10 v11 r14 v12 v13 r15 v14 w15 r16 x184 x185 h3 h4 r17 r18 r19 r20 v18 r21 r22 r23 v19 h1 g0 f20 h2 g1 f21 h3 g2 fn186 h4 g3 fn191) := hD
                      exact hJ137 x184 x185 fn186 fn191 H locs ls hP hD hS (lv_sub hl [0, 1, 2, 3, 4, 5, 6] rfl)
                    refine lv_icmp_ne (tgt := 179) hx hb dX12_tryShelf_172 (by decide) (fun c192 => ?_) (fun c192 => ?_)
                    · skip
                      have fc192 : ¬ (t178.toInt = ra179.toInt) := fun h9 => c192 (Int32.toInt_inj.mp h9)
                      have r1c192 := Int32.toInt_lt t178
                      have r2c192 := Int32.toInt_lt ra179
                      have r3c192 := Int32.le_toInt t178
                      have r4c192 := Int32.le_toInt ra179
                      refine lv_iconst (v := 0) hx hb dX12_tryShelf_179 (by decide) ?_
                      exact hJ181 0 H locs ls (by decide) (by decide) hP hD hS (lv_sub hl [0, 1, 2, 3, 4, 5, 6] rfl)
                    · skip
                      have fc192 : t178.toInt = ra179.toInt := congrArg Int32.toInt c192
                      have r1c192 := Int32.toInt_lt t178
                      have r2c192 := Int32.toInt_lt ra179
                      have r3c192 := Int32.le_toInt t178
                      have r4c192 := Int32.le_toInt ra179
                      refine lv_iconst (v := 1) hx hb dX12_tryShelf_175 (by decide) ?_
                      refine lv_goto (tgt := 180) hx hb dX12_tryShelf_176 (by decide) ?_
                      exact hJ181 1 H locs ls (by decide) (by decide) hP hD hS (lv_sub hl [0, 1, 2, 3, 4, 5, 6] rfl)
          exact hL131 _ 0 v16 v17 f22 f23 H locs ls (by decide) (by decide) (Nat.lt_succ_self _) hP hD hS (lv_sub hl [0, 1, 2, 3, 4, 5, 6] rfl)
        refine lv_if_eq (tgt := 68) hx hb dX12_tryShelf_56 (by decide) (fun c193 => ?_) (fun c193 => ?_)
        · skip
          have fc193 : v26.toInt = 0 := congrArg Int32.toInt c193
          refine lv_bipush (v := 8) hx hb dX12_tryShelf_68 (by decide) ?_
          exact hJ105 8 H locs ls (by decide) (by decide) hP hD hS (lv_sub hl [0, 1, 2, 3, 4] rfl)
        · skip
          have fc193 : ¬ (v26.toInt = 0) := fun h9 => c193 (Int32.toInt_inj.mp h9)
          refine lv_aload_n hx hb dX12_tryShelf_59 rfl (lv_at hl 0 rfl) ?_
          refine va_get (D := (dC, dI)) (ci := 12) (v := .ref h1) (C := RX12) (T := TX12) (N := 48) hx hb hts (fun _ h => List.mem_cons_of_mem _ (List.mem_append_right _ h)) hown hK hP 0 rfl rfl 20 (by decide) (hts (.fieldLink RX12 46 "LeftArgumentsModel" "rule" "[I") (List.mem_cons_of_mem _ (List.mem_append_left _ (List.mem_of_getElem? (i := 37) rfl)))) (fun _ h9 => h9) rfl dX12_tryShelf_60 ?_
          refine lv_iconst (v := 1) hx hb dX12_tryShelf_63 (by decide) ?_
          refine va_iald hx hb hK hP 1 0 rfl rfl (pv_c (x := 1) (n := 4) (by decide)) dX12_tryShelf_64 ?_
          refine lv_topi (fun t194 et194 => ?_)
          have gat194 : 0 ≤ t194.toInt ∧ t194.toInt ≤ 5 := by rw [et194]; exact ia_f20.1
          refine lv_goto (tgt := 70) hx hb dX12_tryShelf_65 (by decide) ?_
          exact hJ105 t194 H locs ls (by first | omega | decide) (by first | omega | decide) hP hD hS (lv_sub hl [0, 1, 2, 3, 4] rfl)
      · skip
        have fc103 : ra102.toInt = 0 := congrArg Int32.toInt c103
        have q0wra102 := wra102 (by omega)
        refine lv_aload_n hx hb dX12_tryShelf_42 rfl (lv_at hl 0 rfl) ?_
        refine lv_iload_n hx hb dX12_tryShelf_43 rfl (lv_at hl 1 rfl) ?_
        refine lv_iconst (v := 1) hx hb dX12_tryShelf_44 (by decide) ?_
        refine lv_iadd hx hb dX12_tryShelf_45 ?_
        refine lv_topi (fun tv195 etv195 => ?_)
        obtain rfl : tv195 = (7 : Int32) := etv195.trans (by first | rfl | decide)
        refine lv_iload_n hx hb dX12_tryShelf_46 rfl (lv_at hl 2 rfl) ?_
        refine lv_iload_n hx hb dX12_tryShelf_47 rfl (lv_at hl 3 rfl) ?_
        refine lv_iload hx hb dX12_tryShelf_48 (lv_at hl 4 rfl) ?_
        have hPc := hP.sub (ws' := (wd_90cd99f9 h0 v0 r0 v1 v2 v3 v4 r1 r2 r3 r4 r5 r6 r7 v5 v6 r8 r9 r10 r11 v7 h1 r12 v8 v9 h2 r13 v10 v11 r14 v12 v13 r15 v14 w15 r16 v16 v17 h3 h4 r17 r18 r19 r20 v18 r21 r22 r23 v19 h1 g0 f20 h2 g1 f21 h3 g2 f22 h4 g3 f23)) [0, 1, 2, 3, 4] rfl
        have hDc := hD.sub (ws' := (wd_90cd99f9 h0 v0 r0 v1 v2 v3 v4 r1 r2 r3 r4 r5 r6 r7 v5 v6 r8 r9 r10 r11 v7 h1 r12 v8 v9 h2 r13 v10 v11 r14 v12 v13 r15 v14 w15 r16 v16 v17 h3 h4 r17 r18 r19 r20 v18 r21 r22 r23 v19 h1 g0 f20 h2 g1 f21 h3 g2 f22 h4 g3 f23)) [0, 1, 2, 3, 4] (by decide) rfl
        have hKc := hK.sub (tys' := [(g0, .int), (g1, .int), (g2, .int), (g3, .int)]) [0, 1, 2, 3] rfl
        have hFc := va_free (wc := (wd_90cd99f9 h0 v0 r0 v1 v2 v3 v4 r1 r2 r3 r4 r5 r6 r7 v5 v6 r8 r9 r10 r11 v7 h1 r12 v8 v9 h2 r13 v10 v11 r14 v12 v13 r15 v14 w15 r16 v16 v17 h3 h4 r17 r18 r19 r20 v18 r21 r22 r23 v19 h1 g0 f20 h2 g1 f21 h3 g2 f22 h4 g3 f23)) hD hS hA [0, 1, 2, 3, 4] rfl
        refine va_callv (va_runV (As := [.int 7, .int v24, .int v25, .int v26]) (rest := []) ⟨hx, hb, hml, hown, hts⟩ (k_X12_tryShelf_1 l dC dI h0 h1 h2 h3 h4 v0 r0 v1 v2 v3 v4 r1 r2 r3 r4 r5 r6 r7 v5 v6 r8 r9 r10 r11 v7 r12 v8 v9 r13 v10 v11 r14 v12 v13 r15 v14 w15 r16 v16 v17 r17 r18 r19 r20 v18 r21 r22 r23 v19 g0 f20 g1 f21 g2 f22 g3 f23 v24 v25 v26 ⟨i_v1a, i_v1b⟩ ⟨i_v5a, i_v5b⟩ ⟨i_v6a, i_v6b⟩ ⟨i_v7a, i_v7b⟩ ⟨i_v8a, i_v8b⟩ ⟨i_v9a, i_v9b⟩ ⟨i_v10a, i_v10b⟩ ⟨i_v14a, i_v14b⟩ ⟨i_v18a, i_v18b⟩ ⟨i_v19a, i_v19b⟩ ⟨i_v26a, i_v26b⟩ ia_f20 ia_f21 H.size) (cwV 4 hts g_X12_tryShelf_2_4 rfl rfl rfl (by decide +kernel) ⟨Nat.le_of_ble_eq_true rfl, Nat.le_of_ble_eq_true rfl⟩) (pv_PV12 hPc hKc hDc (q0 := 0) rfl) rfl rfl hl.1 rfl (lv_room (Nat.le_of_ble_eq_true rfl)) dX12_tryShelf_50 ⟨Nat.le_of_ble_eq_true rfl, Nat.le_of_ble_eq_true rfl⟩) hS (fun q _ h => hFc q h) hFc (fun u t H1 locs ht hvm hwra196 hB hz1 hk1 hS => ?_)
        obtain ⟨x197, x198, fn199, fn200, hP1, hK1, hD1⟩ := hB
        rw [ht] at hP1
        obtain ⟨hP2, hD2⟩ := va_join (wr := []) (w1 := (wd_90cd99f9 h0 v0 r0 v1 v2 v3 v4 r1 r2 r3 r4 r5 r6 r7 v5 v6 r8 r9 r10 r11 v7 h1 r12 v8 v9 h2 r13 v10 v11 r14 v12 v13 r15 v14 w15 r16 x197 x198 h3 h4 r17 r18 r19 r20 v18 r21 r22 r23 v19 h1 g0 f20 h2 g1 f21 h3 g2 fn199 h4 g3 fn200)) hP hD [0, 1, 2, 3, 4] [] rfl rfl (by decide) (by decide) hk1 hFc hP1 hD1
        clear hP hD hPc hDc hKc hFc hP1 hK1 hD1 hk1 hz1
        generalize H1 = H at hP2 hS ⊢
        have hP : va_P (dC, dI) vwCl (wd_90cd99f9 h0 v0 r0 v1 v2 v3 v4 r1 r2 r3 r4 r5 r6 r7 v5 v6 r8 r9 r10 r11 v7 h1 r12 v8 v9 h2 r13 v10 v11 r14 v12 v13 r15 v14 w15 r16 x197 x198 h3 h4 r17 r18 r19 r20 v18 r21 r22 r23 v19 h1 g0 f20 h2 g1 f21 h3 g2 fn199 h4 g3 fn200) H := hP2
        have hD : va_D A (wd_90cd99f9 h0 v0 r0 v1 v2 v3 v4 r1 r2 r3 r4 r5 r6 r7 v5 v6 r8 r9 r10 r11 v7 h1 r12 v8 v9 h2 r13 v10 v11 r14 v12 v13 r15 v14 w15 r16 x197 x198 h3 h4 r17 r18 r19 r20 v18 r21 r22 r23 v19 h1 g0 f20 h2 g1 f21 h3 g2 fn199 h4 g3 fn200) := hD2
        clear hP2 hD2
        subst hQ
        have hP9 := hP.sub (ws' := (wd_90cd99f9 h0 v0 r0 v1 v2 v3 v4 r1 r2 r3 r4 r5 r6 r7 v5 v6 r8 r9 r10 r11 v7 h1 r12 v8 v9 h2 r13 v10 v11 r14 v12 v13 r15 v14 w15 r16 x197 x198 h3 h4 r17 r18 r19 r20 v18 r21 r22 r23 v19 h1 g0 f20 h2 g1 f21 h3 g2 fn199 h4 g3 fn200)) [0, 1, 2, 3, 4] rfl
        have hD9 := hD.sub (ws' := (wd_90cd99f9 h0 v0 r0 v1 v2 v3 v4 r1 r2 r3 r4 r5 r6 r7 v5 v6 r8 r9 r10 r11 v7 h1 r12 v8 v9 h2 r13 v10 v11 r14 v12 v13 r15 v14 w15 r16 x197 x198 h3 h4 r17 r18 r19 r20 v18 r21 r22 r23 v19 h1 g0 f20 h2 g1 f21 h3 g2 fn199 h4 g3 fn200)) [0, 1, 2, 3, 4] (by decide) rfl
        have hK9 := hK.sub (tys' := []) [] rfl
        exact W.vret hx hb hr (fun t ht hW => ⟨⟨(), rfl, trivial, ⟨x197, x198, fn199, fn200, by rw [ht]; exact hP9, va_K.moved hW.alike hK9, hD9⟩⟩, hS.F ht⟩) hS.2.2 dX12_tryShelf_53
    · skip
      have fc101 : ¬ (v25.toInt < v17.toInt) := fun h9 => c101 (Int32.lt_iff_toInt_lt.mpr h9)
      have r1c101 := Int32.toInt_lt v25
      have r2c101 := Int32.toInt_lt v17
      have r3c101 := Int32.le_toInt v25
      have r4c101 := Int32.le_toInt v17
      subst hQ
      have hP9 := hP.sub (ws' := (wd_90cd99f9 h0 v0 r0 v1 v2 v3 v4 r1 r2 r3 r4 r5 r6 r7 v5 v6 r8 r9 r10 r11 v7 h1 r12 v8 v9 h2 r13 v10 v11 r14 v12 v13 r15 v14 w15 r16 v16 v17 h3 h4 r17 r18 r19 r20 v18 r21 r22 r23 v19 h1 g0 f20 h2 g1 f21 h3 g2 f22 h4 g3 f23)) [0, 1, 2, 3, 4] rfl
      have hD9 := hD.sub (ws' := (wd_90cd99f9 h0 v0 r0 v1 v2 v3 v4 r1 r2 r3 r4 r5 r6 r7 v5 v6 r8 r9 r10 r11 v7 h1 r12 v8 v9 h2 r13 v10 v11 r14 v12 v13 r15 v14 w15 r16 v16 v17 h3 h4 r17 r18 r19 r20 v18 r21 r22 r23 v19 h1 g0 f20 h2 g1 f21 h3 g2 f22 h4 g3 f23)) [0, 1, 2, 3, 4] (by decide) rfl
      have hK9 := hK.sub (tys' := []) [] rfl
      exact W.vret hx hb hr (fun t ht hW => ⟨⟨(), rfl, trivial, ⟨v16, v17, f22, f23, by rw [ht]; exact hP9, va_K.moved hW.alike hK9, hD9⟩⟩, hS.F ht⟩) hS.2.2 dX12_tryShelf_16
def q_X12_tryShelf_3 : List Cond := .code yX12_tryShelf cX12_tryShelf 7 none :: (([.fieldLink RX12 388 "LeftArgumentsModel" "bestRow" "I", .code yX12_isThere cX12_isThere 2 (some .boolean), .code yX12_in cX12_in 3 (some .boolean), .initialized RX12, .static yX12_in, .methodLink RX12 217 yX12_in, .code yX12_of cX12_of 3 (some .int), .fieldLink RX12 52 "LeftArgumentsModel" "now" "[I", .instanceMethod yX12_of, .selects RX12 yX12_of yX12_of, .methodLink RX12 287 yX12_of, .instanceMethod yX12_isThere, .selects RX12 yX12_isThere yX12_isThere, .methodLink RX12 290 yX12_isThere, .code yX12_isCalm cX12_isCalm 4 (some .boolean), .fieldLink RX12 74 "LeftArgumentsModel" "onShelf" "[I", .code yX12_setsOff cX12_setsOff 3 (some .boolean), .methodLink RX12 411 Lib.Math.abs.name, .static Lib.Math.abs.name, .initialized "java/lang/Math", .code Lib.Math.abs.name Lib.Math.abs.code 1 (some .int), .code yX12_stubbornOf cX12_stubbornOf 2 (some .int), .instanceMethod yX12_stubbornOf, .selects RX12 yX12_stubbornOf yX12_stubbornOf, .methodLink RX12 414 yX12_stubbornOf, .instanceMethod yX12_setsOff, .selects RX12 yX12_setsOff yX12_setsOff, .methodLink RX12 401 yX12_setsOff, .instanceMethod yX12_isCalm, .selects RX12 yX12_isCalm yX12_isCalm, .methodLink RX12 398 yX12_isCalm, .fieldLink RX12 77 "LeftArgumentsModel" "room" "[I", .code yX12_tryShelf cX12_tryShelf 7 none, .fieldLink RX12 391 "LeftArgumentsModel" "bestMany" "I", .instanceMethod yX12_tryShelf, .selects RX12 yX12_tryShelf yX12_tryShelf, .methodLink RX12 394 yX12_tryShelf, .fieldLink RX12 46 "LeftArgumentsModel" "rule" "[I"] : List Cond) ++ wsX120)
set_option maxRecDepth 20000 in
theorem g_X12_tryShelf_3_0 : GoodIn q_X12_tryShelf_3 (wsV RX12 290 RX12 yX12_isThere q_X12_isThere) := goodIn_app (goodIn_r _ [14, 12, 13, 4] rfl (by decide +kernel)) (goodIn_ca (goodIn_r (.code yX12_isThere cX12_isThere 2 (some .boolean) :: [.code yX12_in cX12_in 3 (some .boolean), .initialized RX12, .static yX12_in, .methodLink RX12 217 yX12_in, .code yX12_of cX12_of 3 (some .int), .fieldLink RX12 52 "LeftArgumentsModel" "now" "[I", .instanceMethod yX12_of, .selects RX12 yX12_of yX12_of, .methodLink RX12 287 yX12_of]) [2, 3, 4, 5, 6, 7, 8, 9, 10, 11] rfl (by decide +kernel)) (goodIn_sub (fun _ h => List.mem_cons_of_mem _ (List.mem_append_right _ h)) gwX12))
set_option maxRecDepth 20000 in
theorem g_X12_tryShelf_3_1 : GoodIn q_X12_tryShelf_3 (wsV RX12 398 RX12 yX12_isCalm q_X12_isCalm) := goodIn_app (goodIn_r _ [31, 29, 30, 4] rfl (by decide +kernel)) (goodIn_ca (goodIn_r (.code yX12_isCalm cX12_isCalm 4 (some .boolean) :: [.code yX12_isThere cX12_isThere 2 (some .boolean), .code yX12_in cX12_in 3 (some .boolean), .initialized RX12, .static yX12_in, .methodLink RX12 217 yX12_in, .code yX12_of cX12_of 3 (some .int), .fieldLink RX12 52 "LeftArgumentsModel" "now" "[I", .instanceMethod yX12_of, .selects RX12 yX12_of yX12_of, .methodLink RX12 287 yX12_of, .instanceMethod yX12_isThere, .selects RX12 yX12_isThere yX12_isThere, .methodLink RX12 290 yX12_isThere, .fieldLink RX12 74 "LeftArgumentsModel" "onShelf" "[I", .code yX12_setsOff cX12_setsOff 3 (some .boolean), .methodLink RX12 411 Lib.Math.abs.name, .static Lib.Math.abs.name, .initialized "java/lang/Math", .code Lib.Math.abs.name Lib.Math.abs.code 1 (some .int), .code yX12_stubbornOf cX12_stubbornOf 2 (some .int), .instanceMethod yX12_stubbornOf, .selects RX12 yX12_stubbornOf yX12_stubbornOf, .methodLink RX12 414 yX12_stubbornOf, .instanceMethod yX12_setsOff, .selects RX12 yX12_setsOff yX12_setsOff, .methodLink RX12 401 yX12_setsOff]) [15, 2, 3, 4, 5, 6, 7, 8, 9, 10, 11, 12, 13, 14, 16, 17, 18, 19, 20, 21, 22, 23, 24, 25, 26, 27, 28] rfl (by decide +kernel)) (goodIn_sub (fun _ h => List.mem_cons_of_mem _ (List.mem_append_right _ h)) gwX12))
set_option maxRecDepth 20000 in
theorem g_X12_tryShelf_3_2 : GoodIn q_X12_tryShelf_3 (wsV RX12 287 RX12 yX12_of q_X12_of_3) := goodIn_app (goodIn_r _ [11, 9, 10, 4] rfl (by decide +kernel)) (goodIn_ca (goodIn_r (.code yX12_of cX12_of 3 (some .int) :: [.fieldLink RX12 52 "LeftArgumentsModel" "now" "[I"]) [7, 8] rfl (by decide +kernel)) (goodIn_sub (fun _ h => List.mem_cons_of_mem _ (List.mem_append_right _ h)) gwX12))
set_option maxRecDepth 20000 in
theorem g_X12_tryShelf_3_4 : GoodIn q_X12_tryShelf_3 (wsV RX12 394 RX12 yX12_tryShelf q_X12_tryShelf_2) := goodIn_app (goodIn_r _ [37, 35, 36, 4] rfl (by decide +kernel)) (goodIn_ca (goodIn_r (.code yX12_tryShelf cX12_tryShelf 7 none :: [.fieldLink RX12 388 "LeftArgumentsModel" "bestRow" "I", .code yX12_isThere cX12_isThere 2 (some .boolean), .code yX12_in cX12_in 3 (some .boolean), .initialized RX12, .static yX12_in, .methodLink RX12 217 yX12_in, .code yX12_of cX12_of 3 (some .int), .fieldLink RX12 52 "LeftArgumentsModel" "now" "[I", .instanceMethod yX12_of, .selects RX12 yX12_of yX12_of, .methodLink RX12 287 yX12_of, .instanceMethod yX12_isThere, .selects RX12 yX12_isThere yX12_isThere, .methodLink RX12 290 yX12_isThere, .code yX12_isCalm cX12_isCalm 4 (some .boolean), .fieldLink RX12 74 "LeftArgumentsModel" "onShelf" "[I", .code yX12_setsOff cX12_setsOff 3 (some .boolean), .methodLink RX12 411 Lib.Math.abs.name, .static Lib.Math.abs.name, .initialized "java/lang/Math", .code Lib.Math.abs.name Lib.Math.abs.code 1 (some .int), .code yX12_stubbornOf cX12_stubbornOf 2 (some .int), .instanceMethod yX12_stubbornOf, .selects RX12 yX12_stubbornOf yX12_stubbornOf, .methodLink RX12 414 yX12_stubbornOf, .instanceMethod yX12_setsOff, .selects RX12 yX12_setsOff yX12_setsOff, .methodLink RX12 401 yX12_setsOff, .instanceMethod yX12_isCalm, .selects RX12 yX12_isCalm yX12_isCalm, .methodLink RX12 398 yX12_isCalm, .fieldLink RX12 77 "LeftArgumentsModel" "room" "[I", .code yX12_tryShelf cX12_tryShelf 7 none, .fieldLink RX12 391 "LeftArgumentsModel" "bestMany" "I", .instanceMethod yX12_tryShelf, .selects RX12 yX12_tryShelf yX12_tryShelf, .methodLink RX12 394 yX12_tryShelf, .fieldLink RX12 46 "LeftArgumentsModel" "rule" "[I"]) [33, 1, 2, 3, 4, 5, 6, 7, 8, 9, 10, 11, 12, 13, 14, 15, 16, 17, 18, 19, 20, 21, 22, 23, 24, 25, 26, 27, 28, 29, 30, 31, 32, 33, 34, 35, 36, 37, 38] rfl (by decide +kernel)) (goodIn_sub (fun _ h => List.mem_cons_of_mem _ (List.mem_append_right _ h)) gwX12))
set_option maxHeartbeats 4000000 in
set_option maxRecDepth 100000 in
theorem k_X12_tryShelf_3 (l : Launch) (dC : Nat → ClassId) (dI : Nat → Nat → Nat) (h0 : Nat) (h1 : Nat) (h2 : Nat) (h3 : Nat) (h4 : Nat) (v0 : Int32) (r0 : Nat) (v1 : Int32) (v2 : Int32) (v3 : Int32) (v4 : Int32) (r1 : Nat) (r2 : Nat) (r3 : Nat) (r4 : Nat) (r5 : Nat) (r6 : Nat) (r7 : Nat) (v5 : Int32) (v6 : Int32) (r8 : Nat) (r9 : Nat) (r10 : Nat) (r11 : Nat) (v7 : Int32) (r12 : Nat) (v8 : Int32) (v9 : Int32) (r13 : Nat) (v10 : Int32) (v11 : Int32) (r14 : Nat) (v12 : Int32) (v13 : Int32) (r15 : Nat) (v14 : Int32) (w15 : Int64) (r16 : Nat) (v16 : Int32) (v17 : Int32) (r17 : Nat) (r18 : Nat) (r19 : Nat) (r20 : Nat) (v18 : Int32) (r21 : Nat) (r22 : Nat) (r23 : Nat) (v19 : Int32) (g0 : ClassId) (f20 : Nat → Int32) (g1 : ClassId) (f21 : Nat → Int32) (g2 : ClassId) (f22 : Nat → Int32) (g3 : ClassId) (f23 : Nat → Int32) (v24 : Int32) (v25 : Int32) (v26 : Int32) (i_v1 : 0 ≤ v1.toInt ∧ v1.toInt ≤ 240) (i_v5 : 0 ≤ v5.toInt ∧ v5.toInt ≤ 4) (i_v6 : 0 ≤ v6.toInt ∧ v6.toInt ≤ 4) (i_v7 : 0 ≤ v7.toInt ∧ v7.toInt ≤ 8) (i_v8 : 0 ≤ v8.toInt ∧ v8.toInt ≤ 8) (i_v9 : 0 ≤ v9.toInt ∧ v9.toInt ≤ 1) (i_v10 : -1 ≤ v10.toInt ∧ v10.toInt ≤ 3) (i_v14 : 0 ≤ v14.toInt ∧ v14.toInt ≤ 40) (i_v18 : 0 ≤ v18.toInt ∧ v18.toInt ≤ 10) (i_v19 : 0 ≤ v19.toInt ∧ v19.toInt ≤ 1) (i_v26 : 0 ≤ v26.toInt ∧ v26.toInt ≤ 1) (ia_f20 : (pm_RU f20)) (ia_f21 : (pm_NW f21)) (sz : Nat) : Met l yX12_tryShelf q_X12_tryShelf_3 ({ frames := 6, cells := 0, slots := 0, locals := 140 }) (va_Pc [.ref h0, .int 5, .int v24, .int v25, .int v26] (fun U => U.heap.size = sz ∧ va_P (dC, dI) vwCl (wd_90cd99f9 h0 v0 r0 v1 v2 v3 v4 r1 r2 r3 r4 r5 r6 r7 v5 v6 r8 r9 r10 r11 v7 h1 r12 v8 v9 h2 r13 v10 v11 r14 v12 v13 r15 v14 w15 r16 v16 v17 h3 h4 r17 r18 r19 r20 v18 r21 r22 r23 v19 h1 g0 f20 h2 g1 f21 h3 g2 f22 h4 g3 f23) U.heap ∧ va_K (dC, dI) vwCl [(g0, .int), (g1, .int), (g2, .int), (g3, .int)] U ∧ va_D (fun _ => True) (wd_90cd99f9 h0 v0 r0 v1 v2 v3 v4 r1 r2 r3 r4 r5 r6 r7 v5 v6 r8 r9 r10 r11 v7 h1 r12 v8 v9 h2 r13 v10 v11 r14 v12 v13 r15 v14 w15 r16 v16 v17 h3 h4 r17 r18 r19 r20 v18 r21 r22 r23 v19 h1 g0 f20 h2 g1 f21 h3 g2 f22 h4 g3 f23))) (va_Qv (fun (_ : Unit) => True) (fun (_ : Unit) (t : State) => (∃ (o_h0_35 : Int32) (o_h0_36 : Int32) (o_h3 : Nat → Int32) (o_h4 : Nat → Int32), va_P (dC, dI) vwCl (wd_90cd99f9 h0 v0 r0 v1 v2 v3 v4 r1 r2 r3 r4 r5 r6 r7 v5 v6 r8 r9 r10 r11 v7 h1 r12 v8 v9 h2 r13 v10 v11 r14 v12 v13 r15 v14 w15 r16 o_h0_35 o_h0_36 h3 h4 r17 r18 r19 r20 v18 r21 r22 r23 v19 h1 g0 f20 h2 g1 f21 h3 g2 o_h3 h4 g3 o_h4) t.heap ∧ va_K (dC, dI) vwCl [] t ∧ va_D (va_A (wd_90cd99f9 h0 v0 r0 v1 v2 v3 v4 r1 r2 r3 r4 r5 r6 r7 v5 v6 r8 r9 r10 r11 v7 h1 r12 v8 v9 h2 r13 v10 v11 r14 v12 v13 r15 v14 w15 r16 v16 v17 h3 h4 r17 r18 r19 r20 v18 r21 r22 r23 v19 h1 g0 f20 h2 g1 f21 h3 g2 f22 h4 g3 f23) sz) (wd_90cd99f9 h0 v0 r0 v1 v2 v3 v4 r1 r2 r3 r4 r5 r6 r7 v5 v6 r8 r9 r10 r11 v7 h1 r12 v8 v9 h2 r13 v10 v11 r14 v12 v13 r15 v14 w15 r16 o_h0_35 o_h0_36 h3 h4 r17 r18 r19 r20 v18 r21 r22 r23 v19 h1 g0 f20 h2 g1 f21 h3 g2 o_h3 h4 g3 o_h4))) (va_A (wd_90cd99f9 h0 v0 r0 v1 v2 v3 v4 r1 r2 r3 r4 r5 r6 r7 v5 v6 r8 r9 r10 r11 v7 h1 r12 v8 v9 h2 r13 v10 v11 r14 v12 v13 r15 v14 w15 r16 v16 v17 h3 h4 r17 r18 r19 r20 v18 r21 r22 r23 v19 h1 g0 f20 h2 g1 f21 h3 g2 f22 h4 g3 f23) sz)) 0 0 (va_A (wd_90cd99f9 h0 v0 r0 v1 v2 v3 v4 r1 r2 r3 r4 r5 r6 r7 v5 v6 r8 r9 r10 r11 v7 h1 r12 v8 v9 h2 r13 v10 v11 r14 v12 v13 r15 v14 w15 r16 v16 v17 h3 h4 r17 r18 r19 r20 v18 r21 r22 r23 v19 h1 g0 f20 h2 g1 f21 h3 g2 f22 h4 g3 f23) sz) := by
  refine Met.ofW (cc := cX12_tryShelf) (maxL := 7) (ret := none) (by decide) rfl ?_
  intro p e s m args below meth c s₁ B hml hv
  obtain ⟨i_v1a, i_v1b⟩ := i_v1
  obtain ⟨i_v5a, i_v5b⟩ := i_v5
  obtain ⟨i_v6a, i_v6b⟩ := i_v6
  obtain ⟨i_v7a, i_v7b⟩ := i_v7
  obtain ⟨i_v8a, i_v8b⟩ := i_v8
  obtain ⟨i_v9a, i_v9b⟩ := i_v9
  obtain ⟨i_v10a, i_v10b⟩ := i_v10
  obtain ⟨i_v14a, i_v14b⟩ := i_v14
  obtain ⟨i_v18a, i_v18b⟩ := i_v18
  obtain ⟨i_v19a, i_v19b⟩ := i_v19
  obtain ⟨i_v26a, i_v26b⟩ := i_v26
  obtain ⟨rfl, hsz, hP, hK, hD0⟩ := hv
  have hx := B.exec
  have hb := B.bytes
  have hr := B.returns
  have hts := atoms_spec (ws := q_X12_tryShelf_3) B.pre
  have hown : s.vm.findClass RX12 = some m.cls := findClass_of_methodNamed B.named
  have hlocks := B.notSynchronized
  subst hsz
  have hD := hD0.self (sz := s.heap.size)
  generalize hAe : va_A (wd_90cd99f9 h0 v0 r0 v1 v2 v3 v4 r1 r2 r3 r4 r5 r6 r7 v5 v6 r8 r9 r10 r11 v7 h1 r12 v8 v9 h2 r13 v10 v11 r14 v12 v13 r15 v14 w15 r16 v16 v17 h3 h4 r17 r18 r19 r20 v18 r21 r22 r23 v19 h1 g0 f20 h2 g1 f21 h3 g2 f22 h4 g3 f23) s.heap.size = A at hD ⊢
  have hA : ∀ q : Nat, s.heap.size ≤ q → A q := fun q h => by rw [← hAe]; exact Or.inr h
  have hS : va_S A s.heap s.heap [] := va_S.rf
  generalize hQ : (MQ below _ _ s 0 0 A) = Q
  have hl := lv_entry ([.ref h0, .int 5, .int v24, .int v25, .int v26]) (n := 7) (Nat.le_of_ble_eq_true rfl)
  rw [lg_entry_eq]
  generalize (lg_sl ([.ref h0, .int 5, .int v24, .int v25, .int v26]) ++ List.replicate (7 - (lg_sl ([.ref h0, .int 5, .int v24, .int v25, .int v26])).length) Slot.unset).toArray = ls at hl ⊢
  have hl : lv_has ls 7 [(0, .ref h0), (1, .int 5), (2, .int v24), (3, .int v25), (4, .int v26)] := hl
  obtain ⟨H, hH⟩ : ∃ H : Heap, H = s.heap := ⟨_, rfl⟩
  obtain ⟨locs, hlocs⟩ : ∃ y : List Loc, y = [] := ⟨_, rfl⟩
  have hS : va_S A s.heap H locs := by rw [hH, hlocs]; exact va_S.rf
  have hP : va_P (dC, dI) vwCl (wd_90cd99f9 h0 v0 r0 v1 v2 v3 v4 r1 r2 r3 r4 r5 r6 r7 v5 v6 r8 r9 r10 r11 v7 h1 r12 v8 v9 h2 r13 v10 v11 r14 v12 v13 r15 v14 w15 r16 v16 v17 h3 h4 r17 r18 r19 r20 v18 r21 r22 r23 v19 h1 g0 f20 h2 g1 f21 h3 g2 f22 h4 g3 f23) H := by rw [hH]; exact hP
  rw [← hH, ← hlocs]
  refine lv_aload_n hx hb dX12_tryShelf_0 rfl (lv_at hl 0 rfl) ?_
  refine va_get (D := (dC, dI)) (ci := 12) (v := .int v16) (C := RX12) (T := TX12) (N := 48) hx hb hts (fun _ h => List.mem_cons_of_mem _ (List.mem_append_right _ h)) hown hK hP 0 rfl rfl 35 (by decide) (hts (.fieldLink RX12 388 "LeftArgumentsModel" "bestRow" "I") (List.mem_cons_of_mem _ (List.mem_append_left _ (List.mem_of_getElem? (i := 0) rfl)))) (fun _ h9 => h9) rfl dX12_tryShelf_1 ?_
  refine lv_iconst (v := (-1)) hx hb dX12_tryShelf_4 (by decide) ?_
  refine lv_icmp_eq (tgt := 17) hx hb dX12_tryShelf_5 (by decide) (fun c1 => ?_) (fun c1 => ?_)
  · skip
    have fc1 : v16.toInt = (-1) := congrArg Int32.toInt c1
    refine lv_iload_n hx hb dX12_tryShelf_17 rfl (lv_at hl 1 rfl) ?_
    refine lv_bipush (v := 8) hx hb dX12_tryShelf_18 (by decide) ?_
    refine lv_icmp_ne (tgt := 34) hx hb dX12_tryShelf_20 (by decide) (fun _ => ?_) (fun c => absurd c (by decide))
    refine lv_aload_n hx hb dX12_tryShelf_34 rfl (lv_at hl 0 rfl) ?_
    refine lv_iload_n hx hb dX12_tryShelf_35 rfl (lv_at hl 1 rfl) ?_
    have hPc := hP.sub (ws' := (wd_5013416a h0 v0 r0 v1 v2 v3 v4 r1 r2 r3 r4 r5 r6 r7 v5 v6 r8 r9 r10 r11 v7 h1 r12 v8 v9 h2 r13 v10 v11 r14 v12 v13 r15 v14 w15 r16 v16 v17 h3 h4 r17 r18 r19 r20 v18 r21 r22 r23 v19 h2 g1 f21)) [0, 2] rfl
    have hDc := hD.sub (ws' := (wd_5013416a h0 v0 r0 v1 v2 v3 v4 r1 r2 r3 r4 r5 r6 r7 v5 v6 r8 r9 r10 r11 v7 h1 r12 v8 v9 h2 r13 v10 v11 r14 v12 v13 r15 v14 w15 r16 v16 v17 h3 h4 r17 r18 r19 r20 v18 r21 r22 r23 v19 h2 g1 f21)) [0, 2] (by decide) rfl
    have hKc := hK.sub (tys' := [(g1, .int)]) [1] rfl
    have hFc := va_free (wc := (wd_5013416a h0 v0 r0 v1 v2 v3 v4 r1 r2 r3 r4 r5 r6 r7 v5 v6 r8 r9 r10 r11 v7 h1 r12 v8 v9 h2 r13 v10 v11 r14 v12 v13 r15 v14 w15 r16 v16 v17 h3 h4 r17 r18 r19 r20 v18 r21 r22 r23 v19 h2 g1 f21)) hD hS hA [0, 2] rfl
    refine va_calli (va_runV (As := [.int 5]) (rest := []) ⟨hx, hb, hml, hown, hts⟩ (k_X12_isThere l dC dI h0 h2 v0 r0 v1 v2 v3 v4 r1 r2 r3 r4 r5 r6 r7 v5 v6 r8 r9 r10 r11 v7 h1 r12 v8 v9 r13 v10 v11 r14 v12 v13 r15 v14 w15 r16 v16 v17 h3 h4 r17 r18 r19 r20 v18 r21 r22 r23 v19 g1 f21 5 ⟨i_v1a, i_v1b⟩ ⟨i_v5a, i_v5b⟩ ⟨i_v6a, i_v6b⟩ ⟨i_v7a, i_v7b⟩ ⟨i_v8a, i_v8b⟩ ⟨i_v9a, i_v9b⟩ ⟨i_v10a, i_v10b⟩ ⟨i_v14a, i_v14b⟩ ⟨i_v18a, i_v18b⟩ ⟨i_v19a, i_v19b⟩ ia_f21.1 H.size) (cwV 1 hts g_X12_tryShelf_3_0 rfl rfl rfl (by decide +kernel) ⟨Nat.le_of_ble_eq_true rfl, Nat.le_of_ble_eq_true rfl⟩) (pv_PV12 hPc hKc hDc (q0 := 0) rfl) rfl rfl hl.1 rfl (lv_room (Nat.le_of_ble_eq_true rfl)) dX12_tryShelf_36 ⟨Nat.le_of_ble_eq_true rfl, Nat.le_of_ble_eq_true rfl⟩) hS (fun q _ h => hFc q h) hFc (fun ra2 u t H1 locs ht hvm hwra2 hB hz1 hk1 hS => ?_)
    try rw [hwra2] at hB
    have hkra2_0 : ((5 : Int32)).toInt = 5 := by decide
    obtain ⟨pt0_ra2, pt1_ra2, pt2_ra2, pt3_ra2, pt4_ra2, pt5_ra2, hP1, hK1, hD1⟩ := hB
    rw [ht] at hP1
    obtain ⟨hP2, hD2⟩ := va_join (wr := (wd_20b67a68 h1 g0 f20 h3 g2 f22 h4 g3 f23)) (w1 := (wd_5013416a h0 v0 r0 v1 v2 v3 v4 r1 r2 r3 r4 r5 r6 r7 v5 v6 r8 r9 r10 r11 v7 h1 r12 v8 v9 h2 r13 v10 v11 r14 v12 v13 r15 v14 w15 r16 v16 v17 h3 h4 r17 r18 r19 r20 v18 r21 r22 r23 v19 h2 g1 f21)) hP hD [0, 2] [1, 3, 4] rfl rfl (by decide) (by decide) hk1 hFc hP1 hD1
    clear hP hD hPc hDc hKc hFc hP1 hK1 hD1 hk1 hz1
    generalize H1 = H at hP2 hS ⊢
    have hP := hP2.sub (ws' := (wd_90cd99f9 h0 v0 r0 v1 v2 v3 v4 r1 r2 r3 r4 r5 r6 r7 v5 v6 r8 r9 r10 r11 v7 h1 r12 v8 v9 h2 r13 v10 v11 r14 v12 v13 r15 v14 w15 r16 v16 v17 h3 h4 r17 r18 r19 r20 v18 r21 r22 r23 v19 h1 g0 f20 h2 g1 f21 h3 g2 f22 h4 g3 f23)) [3, 0, 4, 1, 2] rfl
    have hD := hD2.sub (ws' := (wd_90cd99f9 h0 v0 r0 v1 v2 v3 v4 r1 r2 r3 r4 r5 r6 r7 v5 v6 r8 r9 r10 r11 v7 h1 r12 v8 v9 h2 r13 v10 v11 r14 v12 v13 r15 v14 w15 r16 v16 v17 h3 h4 r17 r18 r19 r20 v18 r21 r22 r23 v19 h1 g0 f20 h2 g1 f21 h3 g2 f22 h4 g3 f23)) [3, 0, 4, 1, 2] (by decide) rfl
    clear hP2 hD2
    have wra2 : ra2.toInt = 0 → ¬ f21 (pm_I 5 7) = 1 := fun h9 => pt5_ra2 h9 (by omega) (by omega)
    refine lv_if_ne (tgt := 54) hx hb dX12_tryShelf_39 (by decide) (fun c3 => ?_) (fun c3 => ?_)
    · skip
      have fc3 : ¬ (ra2.toInt = 0) := fun h9 => c3 (Int32.toInt_inj.mp h9)
      have q1pt4_ra2 := pt4_ra2 (by omega)
      refine lv_iload hx hb dX12_tryShelf_54 (lv_at hl 4 rfl) ?_
      have hJ5 : ∀ (x4 : Int32) (H : Heap) (locs : List Loc) (ls : Array Slot), 0 ≤ x4.toInt → x4.toInt ≤ 8 → va_P (dC, dI) vwCl (wd_90cd99f9 h0 v0 r0 v1 v2 v3 v4 r1 r2 r3 r4 r5 r6 r7 v5 v6 r8 r9 r10 r11 v7 h1 r12 v8 v9 h2 r13 v10 v11 r14 v12 v13 r15 v14 w15 r16 v16 v17 h3 h4 r17 r18 r19 r20 v18 r21 r22 r23 v19 h1 g0 f20 h2 g1 f21 h3 g2 f22 h4 g3 f23) H → va_D A (wd_90cd99f9 h0 v0 r0 v1 v2 v3 v4 r1 r2 r3 r4 r5 r6 r7 v5 v6 r8 r9 r10 r11 v7 h1 r12 v8 v9 h2 r13 v10 v11 r14 v12 v13 r15 v14 w15 r16 v16 v17 h3 h4 r17 r18 r19 r20 v18 r21 r22 r23 v19 h1 g0 f20 h2 g1 f21 h3 g2 f22 h4 g3 f23) → va_S A s.heap H locs → lv_has ls 7 [(0, .ref h0), (1, .int 5), (2, .int v24), (3, .int v25), (4, .int v26)] → W p l e ({ frames := 6, cells := 0, slots := 0, locals := 140 }) s m ([.ref h0, .int 5, .int v24, .int v25, .int v26] : List Value).toArray below meth c H locs 0 0 Q (F0 m 70 ls [.int x4]) := by
        intro x4 H locs ls qa_x4 qb_x4 hP hD hS hl
        refine lv_istore (lv' := [(5, .int x4), (0, .ref h0), (1, .int 5), (2, .int v24), (3, .int v25), (4, .int v26)]) hx hb dX12_tryShelf_70 hl (by decide) rfl (fun ls hl => ?_)
        refine lv_iconst (v := 0) hx hb dX12_tryShelf_72 (by decide) ?_
        refine lv_istore (lv' := [(6, .int 0), (5, .int x4), (0, .ref h0), (1, .int 5), (2, .int v24), (3, .int v25), (4, .int v26)]) hx hb dX12_tryShelf_73 hl (by decide) rfl (fun ls hl => ?_)
        have hL31 : ∀ (n9 : Nat), ∀ (x21 : Int32) (x22 : Int32) (x23 : Int32) (fn24 : Nat → Int32) (fn25 : Nat → Int32) (H : Heap) (locs : List Loc) (ls : Array Slot), 0 ≤ x21.toInt → x21.toInt ≤ 8 → (8 - x21.toInt).toNat < n9 → va_P (dC, dI) vwCl (wd_90cd99f9 h0 v0 r0 v1 v2 v3 v4 r1 r2 r3 r4 r5 r6 r7 v5 v6 r8 r9 r10 r11 v7 h1 r12 v8 v9 h2 r13 v10 v11 r14 v12 v13 r15 v14 w15 r16 x22 x23 h3 h4 r17 r18 r19 r20 v18 r21 r22 r23 v19 h1 g0 f20 h2 g1 f21 h3 g2 fn24 h4 g3 fn25) H → va_D A (wd_90cd99f9 h0 v0 r0 v1 v2 v3 v4 r1 r2 r3 r4 r5 r6 r7 v5 v6 r8 r9 r10 r11 v7 h1 r12 v8 v9 h2 r13 v10 v11 r14 v12 v13 r15 v14 w15 r16 x22 x23 h3 h4 r17 r18 r19 r20 v18 r21 r22 r23 v19 h1 g0 f20 h2 g1 f21 h3 g2 fn24 h4 g3 fn25) → va_S A s.heap H locs → lv_has ls 7 [(6, .int x21), (5, .int x4), (0, .ref h0), (1, .int 5), (2, .int v24), (3, .int v25), (4, .int v26)] → W p l e ({ frames := 6, cells := 0, slots := 0, locals := 140 }) s m ([.ref h0, .int 5, .int v24, .int v25, .int v26] : List Value).toArray below meth c H locs 0 0 Q (F0 m 75 ls []) := by
          intro n9
          induction n9 with
          | zero => intro x21 x22 x23 fn24 fn25 H locs ls qa_x21 qb_x21 hm9 hP hD hS hl; exact absurd hm9 (Nat.not_lt_zero _)
          | succ n9 ih_hL31 =>
            intro x21 x22 x23 fn24 fn25 H locs ls qa_x21 qb_x21 hm9 hP hD hS hl
            refine lv_iload hx hb dX12_tryShelf_75 (lv_at hl 0 rfl) ?_
            refine lv_iload hx hb dX12_tryShelf_77 (lv_at hl 1 rfl) ?_
            refine lv_icmp_ge (tgt := 208) hx hb dX12_tryShelf_79 (by decide) (fun c32 => ?_) (fun c32 => ?_)
            · skip
              have fc32 : x4.toInt ≤ x21.toInt := Int32.le_iff_toInt_le.mp c32
              have r1c32 := Int32.toInt_lt x21
              have r2c32 := Int32.toInt_lt x4
              have r3c32 := Int32.le_toInt x21
              have r4c32 := Int32.le_toInt x4
              subst hQ
              have hP9 := hP.sub (ws' := (wd_90cd99f9 h0 v0 r0 v1 v2 v3 v4 r1 r2 r3 r4 r5 r6 r7 v5 v6 r8 r9 r10 r11 v7 h1 r12 v8 v9 h2 r13 v10 v11 r14 v12 v13 r15 v14 w15 r16 x22 x23 h3 h4 r17 r18 r19 r20 v18 r21 r22 r23 v19 h1 g0 f20 h2 g1 f21 h3 g2 fn24 h4 g3 fn25)) [0, 1, 2, 3, 4] rfl
              have hD9 := hD.sub (ws' := (wd_90cd99f9 h0 v0 r0 v1 v2 v3 v4 r1 r2 r3 r4 r5 r6 r7 v5 v6 r8 r9 r10 r11 v7 h1 r12 v8 v9 h2 r13 v10 v11 r14 v12 v13 r15 v14 w15 r16 x22 x23 h3 h4 r17 r18 r19 r20 v18 r21 r22 r23 v19 h1 g0 f20 h2 g1 f21 h3 g2 fn24 h4 g3 fn25)) [0, 1, 2, 3, 4] (by decide) rfl
              have hK9 := hK.sub (tys' := []) [] rfl
              exact W.vret hx hb hr (fun t ht hW => ⟨⟨(), rfl, trivial, ⟨x22, x23, fn24, fn25, by rw [ht]; exact hP9, va_K.moved hW.alike hK9, hD9⟩⟩, hS.F ht⟩) hS.2.2 dX12_tryShelf_208
            · skip
              have fc32 : ¬ (x4.toInt ≤ x21.toInt) := fun h9 => c32 (Int32.le_iff_toInt_le.mpr h9)
              have r1c32 := Int32.toInt_lt x21
              have r2c32 := Int32.toInt_lt x4
              have r3c32 := Int32.le_toInt x21
              have r4c32 := Int32.le_toInt x4
              refine lv_iload hx hb dX12_tryShelf_82 (lv_at hl 6 rfl) ?_
              have hJ37 : ∀ (x33 : Int32) (x34 : Int32) (fn35 : Nat → Int32) (fn36 : Nat → Int32) (H : Heap) (locs : List Loc) (ls : Array Slot), va_P (dC, dI) vwCl (wd_90cd99f9 h0 v0 r0 v1 v2 v3 v4 r1 r2 r3 r4 r5 r6 r7 v5 v6 r8 r9 r10 r11 v7 h1 r12 v8 v9 h2 r13 v10 v11 r14 v12 v13 r15 v14 w15 r16 x33 x34 h3 h4 r17 r18 r19 r20 v18 r21 r22 r23 v19 h1 g0 f20 h2 g1 f21 h3 g2 fn35 h4 g3 fn36) H → va_D A (wd_90cd99f9 h0 v0 r0 v1 v2 v3 v4 r1 r2 r3 r4 r5 r6 r7 v5 v6 r8 r9 r10 r11 v7 h1 r12 v8 v9 h2 r13 v10 v11 r14 v12 v13 r15 v14 w15 r16 x33 x34 h3 h4 r17 r18 r19 r20 v18 r21 r22 r23 v19 h1 g0 f20 h2 g1 f21 h3 g2 fn35 h4 g3 fn36) → va_S A s.heap H locs → lv_has ls 7 [(6, .int x21), (5, .int x4), (0, .ref h0), (1, .int 5), (2, .int v24), (3, .int v25), (4, .int v26)] → W p l e ({ frames := 6, cells := 0, slots := 0, locals := 140 }) s m ([.ref h0, .int 5, .int v24, .int v25, .int v26] : List Value).toArray below meth c H locs 0 0 Q (F0 m 202 ls []) := by
                intro x33 x34 fn35 fn36 H locs ls hP hD hS hl
                obtain ⟨t38, et38⟩ : ∃ y : Int32, y = x21 + 1 := ⟨_, rfl⟩
                have gt38 : t38.toInt = x21.toInt + (1) := pv_add (a := x21.toInt) (b := (1)) et38 rfl (by decide) (by omega) (by omega)
                refine lv_iinc (v := t38) (lv' := [(6, .int t38), (5, .int x4), (0, .ref h0), (1, .int 5), (2, .int v24), (3, .int v25), (4, .int v26)]) hx hb dX12_tryShelf_202 hl (k := 0) rfl (by rw [et38]; rfl) (by decide) rfl (fun ls hl => ?_)
                refine lv_goto (tgt := 75) hx hb dX12_tryShelf_205 (by decide) ?_
                exact ih_hL31 t38 x33 x34 fn35 fn36 H locs ls (by first | omega | decide) (by first | omega | decide) (by first | omega | (simp only [Int.toNat] at *; omega)) hP hD hS (lv_sub hl [0, 1, 2, 3, 4, 5, 6] rfl)
              refine lv_if_eq (tgt := 113) hx hb dX12_tryShelf_84 (by decide) (fun c39 => ?_) (fun c39 => ?_)
              · skip
                have fc39 : v26.toInt = 0 := congrArg Int32.toInt c39
                refine lv_aload_n hx hb dX12_tryShelf_113 rfl (lv_at hl 2 rfl) ?_
                refine lv_iload_n hx hb dX12_tryShelf_114 rfl (lv_at hl 3 rfl) ?_
                refine lv_iload hx hb dX12_tryShelf_115 (lv_at hl 0 rfl) ?_
                have hPc := hP.sub (ws' := (wd_f4deda84 h0 v0 r0 v1 v2 v3 v4 r1 r2 r3 r4 r5 r6 r7 v5 v6 r8 r9 r10 r11 v7 h1 r12 v8 v9 h2 r13 v10 v11 r14 v12 v13 r15 v14 w15 r16 x22 x23 h3 h4 r17 r18 r19 r20 v18 r21 r22 r23 v19 h2 g1 f21 h3 g2 fn24)) [0, 2, 3] rfl
                have hDc := hD.sub (ws' := (wd_f4deda84 h0 v0 r0 v1 v2 v3 v4 r1 r2 r3 r4 r5 r6 r7 v5 v6 r8 r9 r10 r11 v7 h1 r12 v8 v9 h2 r13 v10 v11 r14 v12 v13 r15 v14 w15 r16 x22 x23 h3 h4 r17 r18 r19 r20 v18 r21 r22 r23 v19 h2 g1 f21 h3 g2 fn24)) [0, 2, 3] (by decide) rfl
                have hKc := hK.sub (tys' := [(g1, .int), (g2, .int)]) [1, 2] rfl
                have hFc := va_free (wc := (wd_f4deda84 h0 v0 r0 v1 v2 v3 v4 r1 r2 r3 r4 r5 r6 r7 v5 v6 r8 r9 r10 r11 v7 h1 r12 v8 v9 h2 r13 v10 v11 r14 v12 v13 r15 v14 w15 r16 x22 x23 h3 h4 r17 r18 r19 r20 v18 r21 r22 r23 v19 h2 g1 f21 h3 g2 fn24)) hD hS hA [0, 2, 3] rfl
                refine va_calli (va_runV (As := [.int 5, .int x21]) (rest := []) ⟨hx, hb, hml, hown, hts⟩ (k_X12_isCalm l dC dI h0 h2 h3 v0 r0 v1 v2 v3 v4 r1 r2 r3 r4 r5 r6 r7 v5 v6 r8 r9 r10 r11 v7 h1 r12 v8 v9 r13 v10 v11 r14 v12 v13 r15 v14 w15 r16 x22 x23 h4 r17 r18 r19 r20 v18 r21 r22 r23 v19 g1 f21 g2 fn24 5 x21 ⟨i_v1a, i_v1b⟩ ⟨i_v5a, i_v5b⟩ ⟨i_v6a, i_v6b⟩ ⟨i_v7a, i_v7b⟩ ⟨i_v8a, i_v8b⟩ ⟨i_v9a, i_v9b⟩ ⟨i_v10a, i_v10b⟩ ⟨i_v14a, i_v14b⟩ ⟨i_v18a, i_v18b⟩ ⟨i_v19a, i_v19b⟩ ⟨by decide, by decide⟩ ia_f21 H.size) (cwV 2 hts g_X12_tryShelf_3_1 rfl rfl rfl (by decide +kernel) ⟨Nat.le_of_ble_eq_true rfl, Nat.le_of_ble_eq_true rfl⟩) (pv_PV12 hPc hKc hDc (q0 := 0) rfl) rfl rfl hl.1 rfl (lv_room (Nat.le_of_ble_eq_true rfl)) dX12_tryShelf_117 ⟨Nat.le_of_ble_eq_true rfl, Nat.le_of_ble_eq_true rfl⟩) hS (fun q _ h => hFc q h) hFc (fun ra40 u t H1 locs ht hvm hwra40 hB hz1 hk1 hS => ?_)
                try rw [hwra40] at hB
                have hkra40_0 : ((5 : Int32)).toInt = 5 := by decide
                obtain ⟨pt0_ra40, pt1_ra40, hP1, hK1, hD1⟩ := hB
                rw [ht] at hP1
                obtain ⟨hP2, hD2⟩ := va_join (wr := (wd_5481fbec h1 g0 f20 h4 g3 fn25)) (w1 := (wd_f4deda84 h0 v0 r0 v1 v2 v3 v4 r1 r2 r3 r4 r5 r6 r7 v5 v6 r8 r9 r10 r11 v7 h1 r12 v8 v9 h2 r13 v10 v11 r14 v12 v13 r15 v14 w15 r16 x22 x23 h3 h4 r17 r18 r19 r20 v18 r21 r22 r23 v19 h2 g1 f21 h3 g2 fn24)) hP hD [0, 2, 3] [1, 4] rfl rfl (by decide) (by decide) hk1 hFc hP1 hD1
                clear hP hD hPc hDc hKc hFc hP1 hK1 hD1 hk1 hz1
                generalize H1 = H at hP2 hS ⊢
                have hP := hP2.sub (ws' := (wd_90cd99f9 h0 v0 r0 v1 v2 v3 v4 r1 r2 r3 r4 r5 r6 r7 v5 v6 r8 r9 r10 r11 v7 h1 r12 v8 v9 h2 r13 v10 v11 r14 v12 v13 r15 v14 w15 r16 x22 x23 h3 h4 r17 r18 r19 r20 v18 r21 r22 r23 v19 h1 g0 f20 h2 g1 f21 h3 g2 fn24 h4 g3 fn25)) [2, 0, 3, 4, 1] rfl
                have hD := hD2.sub (ws' := (wd_90cd99f9 h0 v0 r0 v1 v2 v3 v4 r1 r2 r3 r4 r5 r6 r7 v5 v6 r8 r9 r10 r11 v7 h1 r12 v8 v9 h2 r13 v10 v11 r14 v12 v13 r15 v14 w15 r16 x22 x23 h3 h4 r17 r18 r19 r20 v18 r21 r22 r23 v19 h1 g0 f20 h2 g1 f21 h3 g2 fn24 h4 g3 fn25)) [2, 0, 3, 4, 1] (by decide) rfl
                clear hP2 hD2
                refine lv_if_eq (tgt := 202) hx hb dX12_tryShelf_120 (by decide) (fun c41 => ?_) (fun c41 => ?_)
                · skip
                  have fc41 : ra40.toInt = 0 := congrArg Int32.toInt c41
                  exact hJ37 x22 x23 fn24 fn25 H locs ls hP hD hS (lv_sub hl [0, 1, 2, 3, 4, 5, 6] rfl)
                · skip
                  have fc41 : ¬ (ra40.toInt = 0) := fun h9 => c41 (Int32.toInt_inj.mp h9)
                  refine lv_aload_n hx hb dX12_tryShelf_123 rfl (lv_at hl 2 rfl) ?_
                  refine va_get (D := (dC, dI)) (ci := 12) (v := .ref h4) (C := RX12) (T := TX12) (N := 48) hx hb hts (fun _ h => List.mem_cons_of_mem _ (List.mem_append_right _ h)) hown hK hP 0 rfl rfl 38 (by decide) (hts (.fieldLink RX12 77 "LeftArgumentsModel" "room" "[I") (List.mem_cons_of_mem _ (List.mem_append_left _ (List.mem_of_getElem? (i := 31) rfl)))) (fun _ h9 => h9) rfl dX12_tryShelf_124 ?_
                  refine lv_iload hx hb dX12_tryShelf_127 (lv_at hl 0 rfl) ?_
                  refine lv_dup2_11 hx hb dX12_tryShelf_129 rfl rfl ?_
                  refine va_iald hx hb hK hP 4 3 rfl rfl (vp_in_iff.mpr ⟨by omega, by omega⟩) dX12_tryShelf_130 ?_
                  refine lv_topi (fun t42 et42 => ?_)
                  refine lv_aload_n hx hb dX12_tryShelf_131 rfl (lv_at hl 2 rfl) ?_
                  refine lv_iload_n hx hb dX12_tryShelf_132 rfl (lv_at hl 3 rfl) ?_
                  refine lv_iconst (v := 0) hx hb dX12_tryShelf_133 (by decide) ?_
                  have hPc := hP.sub (ws' := (wd_5013416a h0 v0 r0 v1 v2 v3 v4 r1 r2 r3 r4 r5 r6 r7 v5 v6 r8 r9 r10 r11 v7 h1 r12 v8 v9 h2 r13 v10 v11 r14 v12 v13 r15 v14 w15 r16 x22 x23 h3 h4 r17 r18 r19 r20 v18 r21 r22 r23 v19 h2 g1 f21)) [0, 2] rfl
                  have hDc := hD.sub (ws' := (wd_5013416a h0 v0 r0 v1 v2 v3 v4 r1 r2 r3 r4 r5 r6 r7 v5 v6 r8 r9 r10 r11 v7 h1 r12 v8 v9 h2 r13 v10 v11 r14 v12 v13 r15 v14 w15 r16 x22 x23 h3 h4 r17 r18 r19 r20 v18 r21 r22 r23 v19 h2 g1 f21)) [0, 2] (by decide) rfl
                  have hKc := hK.sub (tys' := [(g1, .int)]) [1] rfl
                  have hFc := va_free (wc := (wd_5013416a h0 v0 r0 v1 v2 v3 v4 r1 r2 r3 r4 r5 r6 r7 v5 v6 r8 r9 r10 r11 v7 h1 r12 v8 v9 h2 r13 v10 v11 r14 v12 v13 r15 v14 w15 r16 x22 x23 h3 h4 r17 r18 r19 r20 v18 r21 r22 r23 v19 h2 g1 f21)) hD hS hA [0, 2] rfl
                  refine va_calli (va_runV (As := [.int 5, .int 0]) (rest := [.int t42, .int x21, .ref h4]) ⟨hx, hb, hml, hown, hts⟩ (k_X12_of_3 l dC dI h0 h2 v0 r0 v1 v2 v3 v4 r1 r2 r3 r4 r5 r6 r7 v5 v6 r8 r9 r10 r11 v7 h1 r12 v8 v9 r13 v10 v11 r14 v12 v13 r15 v14 w15 r16 x22 x23 h3 h4 r17 r18 r19 r20 v18 r21 r22 r23 v19 g1 f21 5 ⟨i_v1a, i_v1b⟩ ⟨i_v5a, i_v5b⟩ ⟨i_v6a, i_v6b⟩ ⟨i_v7a, i_v7b⟩ ⟨i_v8a, i_v8b⟩ ⟨i_v9a, i_v9b⟩ ⟨i_v10a, i_v10b⟩ ⟨i_v14a, i_v14b⟩ ⟨i_v18a, i_v18b⟩ ⟨i_v19a, i_v19b⟩ ⟨by decide, by decide⟩ ia_f21.1 H.size) (cwV 2 hts g_X12_tryShelf_3_2 rfl rfl rfl (by decide +kernel) ⟨Nat.le_of_ble_eq_true rfl, Nat.le_of_ble_eq_true rfl⟩) (pv_PV12 hPc hKc hDc (q0 := 0) rfl) rfl rfl hl.1 rfl (lv_room (Nat.le_of_ble_eq_true rfl)) dX12_tryShelf_134 ⟨Nat.le_of_ble_eq_true rfl, Nat.le_of_ble_eq_true rfl⟩) hS (fun q _ h => hFc q h) hFc (fun ra43 u t H1 locs ht hvm hwra43 hB hz1 hk1 hS => ?_)
                  try rw [hwra43] at hB
                  have hkra43_0 : ((5 : Int32)).toInt = 5 := by decide
                  obtain ⟨pt0_ra43, pt1_ra43, pt2_ra43, hP1, hK1, hD1⟩ := hB
                  rw [ht] at hP1
                  obtain ⟨hP2, hD2⟩ := va_join (wr := (wd_20b67a68 h1 g0 f20 h3 g2 fn24 h4 g3 fn25)) (w1 := (wd_5013416a h0 v0 r0 v1 v2 v3 v4 r1 r2 r3 r4 r5 r6 r7 v5 v6 r8 r9 r10 r11 v7 h1 r12 v8 v9 h2 r13 v10 v11 r14 v12 v13 r15 v14 w15 r16 x22 x23 h3 h4 r17 r18 r19 r20 v18 r21 r22 r23 v19 h2 g1 f21)) hP hD [0, 2] [1, 3, 4] rfl rfl (by decide) (by decide) hk1 hFc hP1 hD1
                  clear hP hD hPc hDc hKc hFc hP1 hK1 hD1 hk1 hz1
                  generalize H1 = H at hP2 hS ⊢
                  have hP := hP2.sub (ws' := (wd_90cd99f9 h0 v0 r0 v1 v2 v3 v4 r1 r2 r3 r4 r5 r6 r7 v5 v6 r8 r9 r10 r11 v7 h1 r12 v8 v9 h2 r13 v10 v11 r14 v12 v13 r15 v14 w15 r16 x22 x23 h3 h4 r17 r18 r19 r20 v18 r21 r22 r23 v19 h1 g0 f20 h2 g1 f21 h3 g2 fn24 h4 g3 fn25)) [3, 0, 4, 1, 2] rfl
                  have hD := hD2.sub (ws' := (wd_90cd99f9 h0 v0 r0 v1 v2 v3 v4 r1 r2 r3 r4 r5 r6 r7 v5 v6 r8 r9 r10 r11 v7 h1 r12 v8 v9 h2 r13 v10 v11 r14 v12 v13 r15 v14 w15 r16 x22 x23 h3 h4 r17 r18 r19 r20 v18 r21 r22 r23 v19 h1 g0 f20 h2 g1 f21 h3 g2 fn24 h4 g3 fn25)) [3, 0, 4, 1, 2] (by decide) rfl
                  clear hP2 hD2
                  refine lv_iadd hx hb dX12_tryShelf_137 ?_
                  refine lv_topi (fun t44 et44 => ?_)
                  refine va_iast hx hb hK hP hD hS 4 3 rfl rfl (vp_in_iff.mpr ⟨by omega, by omega⟩) dX12_tryShelf_138 (fun H locs hP hD hS => ?_)
                  obtain ⟨fn45, efn45⟩ : ∃ g : Nat → Int32, g = upd fn25 (Int32.toNatClampNeg x21) t44 := ⟨_, rfl⟩
                  rw [← efn45] at hP hD
                  have hP : va_P (dC, dI) vwCl (wd_90cd99f9 h0 v0 r0 v1 v2 v3 v4 r1 r2 r3 r4 r5 r6 r7 v5 v6 r8 r9 r10 r11 v7 h1 r12 v8 v9 h2 r13 v10 v11 r14 v12 v13 r15 v14 w15 r16 x22 x23 h3 h4 r17 r18 r19 r20 v18 r21 r22 r23 v19 h1 g0 f20 h2 g1 f21 h3 g2 fn24 h4 g3 fn45) H := hP
                  have hD : va_D A (wd_90cd99f9 h0 v0 r0 v1 v2 v3 v4 r1 r2 r3 r4 r5 r6 r7 v5 v6 r8 r9 r10 r11 v7 h1 r12 v8 v9 h2 r13 v10 v11 r14 v12 v13 r15 v14 w15 r16 x22 x23 h3 h4 r17 r18 r19 r20 v18 r21 r22 r23 v19 h1 g0 f20 h2 g1 f21 h3 g2 fn24 h4 g3 fn45) := hD
                  refine lv_aload_n hx hb dX12_tryShelf_139 rfl (lv_at hl 2 rfl) ?_
                  refine va_get (D := (dC, dI)) (ci := 12) (v := .ref h3) (C := RX12) (T := TX12) (N := 48) hx hb hts (fun _ h => List.mem_cons_of_mem _ (List.mem_append_right _ h)) hown hK hP 0 rfl rfl 37 (by decide) (hts (.fieldLink RX12 74 "LeftArgumentsModel" "onShelf" "[I") (List.mem_cons_of_mem _ (List.mem_append_left _ (List.mem_of_getElem? (i := 15) rfl)))) (fun _ h9 => h9) rfl dX12_tryShelf_140 ?_
                  refine lv_iload_n hx hb dX12_tryShelf_143 rfl (lv_at hl 3 rfl) ?_
                  refine lv_iload hx hb dX12_tryShelf_144 (lv_at hl 0 rfl) ?_
                  refine va_iast hx hb hK hP hD hS 3 2 rfl rfl (pv_c (x := 5) (n := 8) (by decide)) dX12_tryShelf_146 (fun H locs hP hD hS => ?_)
                  obtain ⟨fn46, efn46⟩ : ∃ g : Nat → Int32, g = upd fn24 (Int32.toNatClampNeg 5) x21 := ⟨_, rfl⟩
                  rw [← efn46] at hP hD
                  have hP : va_P (dC, dI) vwCl (wd_90cd99f9 h0 v0 r0 v1 v2 v3 v4 r1 r2 r3 r4 r5 r6 r7 v5 v6 r8 r9 r10 r11 v7 h1 r12 v8 v9 h2 r13 v10 v11 r14 v12 v13 r15 v14 w15 r16 x22 x23 h3 h4 r17 r18 r19 r20 v18 r21 r22 r23 v19 h1 g0 f20 h2 g1 f21 h3 g2 fn46 h4 g3 fn45) H := hP
                  have hD : va_D A (wd_90cd99f9 h0 v0 r0 v1 v2 v3 v4 r1 r2 r3 r4 r5 r6 r7 v5 v6 r8 r9 r10 r11 v7 h1 r12 v8 v9 h2 r13 v10 v11 r14 v12 v13 r15 v14 w15 r16 x22 x23 h3 h4 r17 r18 r19 r20 v18 r21 r22 r23 v19 h1 g0 f20 h2 g1 f21 h3 g2 fn46 h4 g3 fn45) := hD
                  refine lv_aload_n hx hb dX12_tryShelf_147 rfl (lv_at hl 2 rfl) ?_
                  refine lv_iload_n hx hb dX12_tryShelf_148 rfl (lv_at hl 3 rfl) ?_
                  refine lv_iconst (v := 1) hx hb dX12_tryShelf_149 (by decide) ?_
                  refine lv_iadd hx hb dX12_tryShelf_150 ?_
                  refine lv_topi (fun tv47 etv47 => ?_)
                  obtain rfl : tv47 = (6 : Int32) := etv47.trans (by first | rfl | decide)
                  refine lv_bipush (v := 10) hx hb dX12_tryShelf_151 (by decide) ?_
                  refine lv_iload_n hx hb dX12_tryShelf_153 rfl (lv_at hl 4 rfl) ?_
                  refine lv_imul hx hb dX12_tryShelf_154 ?_
                  refine lv_topi (fun t48 et48 => ?_)
                  refine lv_iload hx hb dX12_tryShelf_155 (lv_at hl 0 rfl) ?_
                  refine lv_iadd hx hb dX12_tryShelf_157 ?_
                  refine lv_topi (fun t49 et49 => ?_)
                  refine lv_iload_n hx hb dX12_tryShelf_158 rfl (lv_at hl 5 rfl) ?_
                  refine lv_aload_n hx hb dX12_tryShelf_159 rfl (lv_at hl 2 rfl) ?_
                  refine va_get (D := (dC, dI)) (ci := 12) (v := .ref h4) (C := RX12) (T := TX12) (N := 48) hx hb hts (fun _ h => List.mem_cons_of_mem _ (List.mem_append_right _ h)) hown hK hP 0 rfl rfl 38 (by decide) (hts (.fieldLink RX12 77 "LeftArgumentsModel" "room" "[I") (List.mem_cons_of_mem _ (List.mem_append_left _ (List.mem_of_getElem? (i := 31) rfl)))) (fun _ h9 => h9) rfl dX12_tryShelf_160 ?_
                  refine lv_iload hx hb dX12_tryShelf_163 (lv_at hl 0 rfl) ?_
                  refine va_iald hx hb hK hP 4 3 rfl rfl (vp_in_iff.mpr ⟨by omega, by omega⟩) dX12_tryShelf_165 ?_
                  refine lv_topi (fun t50 et50 => ?_)
                  refine lv_aload_n hx hb dX12_tryShelf_166 rfl (lv_at hl 2 rfl) ?_
                  refine lv_iload_n hx hb dX12_tryShelf_167 rfl (lv_at hl 3 rfl) ?_
                  refine lv_iconst (v := 0) hx hb dX12_tryShelf_168 (by decide) ?_
                  have hPc := hP.sub (ws' := (wd_5013416a h0 v0 r0 v1 v2 v3 v4 r1 r2 r3 r4 r5 r6 r7 v5 v6 r8 r9 r10 r11 v7 h1 r12 v8 v9 h2 r13 v10 v11 r14 v12 v13 r15 v14 w15 r16 x22 x23 h3 h4 r17 r18 r19 r20 v18 r21 r22 r23 v19 h2 g1 f21)) [0, 2] rfl
                  have hDc := hD.sub (ws' := (wd_5013416a h0 v0 r0 v1 v2 v3 v4 r1 r2 r3 r4 r5 r6 r7 v5 v6 r8 r9 r10 r11 v7 h1 r12 v8 v9 h2 r13 v10 v11 r14 v12 v13 r15 v14 w15 r16 x22 x23 h3 h4 r17 r18 r19 r20 v18 r21 r22 r23 v19 h2 g1 f21)) [0, 2] (by decide) rfl
                  have hKc := hK.sub (tys' := [(g1, .int)]) [1] rfl
                  have hFc := va_free (wc := (wd_5013416a h0 v0 r0 v1 v2 v3 v4 r1 r2 r3 r4 r5 r6 r7 v5 v6 r8 r9 r10 r11 v7 h1 r12 v8 v9 h2 r13 v10 v11 r14 v12 v13 r15 v14 w15 r16 x22 x23 h3 h4 r17 r18 r19 r20 v18 r21 r22 r23 v19 h2 g1 f21)) hD hS hA [0, 2] rfl
                  refine va_calli (va_runV (As := [.int 5, .int 0]) (rest := [.int t50, .int v25, .int t49, .int 6, .ref h0]) ⟨hx, hb, hml, hown, hts⟩ (k_X12_of_3 l dC dI h0 h2 v0 r0 v1 v2 v3 v4 r1 r2 r3 r4 r5 r6 r7 v5 v6 r8 r9 r10 r11 v7 h1 r12 v8 v9 r13 v10 v11 r14 v12 v13 r15 v14 w15 r16 x22 x23 h3 h4 r17 r18 r19 r20 v18 r21 r22 r23 v19 g1 f21 5 ⟨i_v1a, i_v1b⟩ ⟨i_v5a, i_v5b⟩ ⟨i_v6a, i_v6b⟩ ⟨i_v7a, i_v7b⟩ ⟨i_v8a, i_v8b⟩ ⟨i_v9a, i_v9b⟩ ⟨i_v10a, i_v10b⟩ ⟨i_v14a, i_v14b⟩ ⟨i_v18a, i_v18b⟩ ⟨i_v19a, i_v19b⟩ ⟨by decide, by decide⟩ ia_f21.1 H.size) (cwV 2 hts g_X12_tryShelf_3_2 rfl rfl rfl (by decide +kernel) ⟨Nat.le_of_ble_eq_true rfl, Nat.le_of_ble_eq_true rfl⟩) (pv_PV12 hPc hKc hDc (q0 := 0) rfl) rfl rfl hl.1 rfl (lv_room (Nat.le_of_ble_eq_true rfl)) dX12_tryShelf_169 ⟨Nat.le_of_ble_eq_true rfl, Nat.le_of_ble_eq_true rfl⟩) hS (fun q _ h => hFc q h) hFc (fun ra51 u t H1 locs ht hvm hwra51 hB hz1 hk1 hS => ?_)
                  try rw [hwra51] at hB
                  have hkra51_0 : ((5 : Int32)).toInt = 5 := by decide
                  obtain ⟨pt0_ra51, pt1_ra51, pt2_ra51, hP1, hK1, hD1⟩ := hB
                  rw [ht] at hP1
                  obtain ⟨hP2, hD2⟩ := va_join (wr := (wd_20b67a68 h1 g0 f20 h3 g2 fn46 h4 g3 fn45)) (w1 := (wd_5013416a h0 v0 r0 v1 v2 v3 v4 r1 r2 r3 r4 r5 r6 r7 v5 v6 r8 r9 r10 r11 v7 h1 r12 v8 v9 h2 r13 v10 v11 r14 v12 v13 r15 v14 w15 r16 x22 x23 h3 h4 r17 r18 r19 r20 v18 r21 r22 r23 v19 h2 g1 f21)) hP hD [0, 2] [1, 3, 4] rfl rfl (by decide) (by decide) hk1 hFc hP1 hD1
                  clear hP hD hPc hDc hKc hFc hP1 hK1 hD1 hk1 hz1
                  generalize H1 = H at hP2 hS ⊢
                  have hP := hP2.sub (ws' := (wd_90cd99f9 h0 v0 r0 v1 v2 v3 v4 r1 r2 r3 r4 r5 r6 r7 v5 v6 r8 r9 r10 r11 v7 h1 r12 v8 v9 h2 r13 v10 v11 r14 v12 v13 r15 v14 w15 r16 x22 x23 h3 h4 r17 r18 r19 r20 v18 r21 r22 r23 v19 h1 g0 f20 h2 g1 f21 h3 g2 fn46 h4 g3 fn45)) [3, 0, 4, 1, 2] rfl
                  have hD := hD2.sub (ws' := (wd_90cd99f9 h0 v0 r0 v1 v2 v3 v4 r1 r2 r3 r4 r5 r6 r7 v5 v6 r8 r9 r10 r11 v7 h1 r12 v8 v9 h2 r13 v10 v11 r14 v12 v13 r15 v14 w15 r16 x22 x23 h3 h4 r17 r18 r19 r20 v18 r21 r22 r23 v19 h1 g0 f20 h2 g1 f21 h3 g2 fn46 h4 g3 fn45)) [3, 0, 4, 1, 2] (by decide) rfl
                  clear hP2 hD2
                  have hJ53 : ∀ (x52 : Int32) (H : Heap) (locs : List Loc) (ls : Array Slot), 0 ≤ x52.toInt → x52.toInt ≤ 1 → va_P (dC, dI) vwCl (wd_90cd99f9 h0 v0 r0 v1 v2 v3 v4 r1 r2 r3 r4 r5 r6 r7 v5 v6 r8 r9 r10 r11 v7 h1 r12 v8 v9 h2 r13 v10 v11 r14 v12 v13 r15 v14 w15 r16 x22 x23 h3 h4 r17 r18 r19 r20 v18 r21 r22 r23 v19 h1 g0 f20 h2 g1 f21 h3 g2 fn46 h4 g3 fn45) H → va_D A (wd_90cd99f9 h0 v0 r0 v1 v2 v3 v4 r1 r2 r3 r4 r5 r6 r7 v5 v6 r8 r9 r10 r11 v7 h1 r12 v8 v9 h2 r13 v10 v11 r14 v12 v13 r15 v14 w15 r16 x22 x23 h3 h4 r17 r18 r19 r20 v18 r21 r22 r23 v19 h1 g0 f20 h2 g1 f21 h3 g2 fn46 h4 g3 fn45) → va_S A s.heap H locs → lv_has ls 7 [(6, .int x21), (5, .int x4), (0, .ref h0), (1, .int 5), (2, .int v24), (3, .int v25), (4, .int v26)] → W p l e ({ frames := 6, cells := 0, slots := 0, locals := 140 }) s m ([.ref h0, .int 5, .int v24, .int v25, .int v26] : List Value).toArray below meth c H locs 0 0 Q (F0 m 180 ls [.int x52, .int v25, .int t49, .int 6, .ref h0]) := by
                    intro x52 H locs ls qa_x52 qb_x52 hP hD hS hl
                    refine lv_iadd hx hb dX12_tryShelf_180 ?_
                    refine lv_topi (fun t54 et54 => ?_)
                    refine lv_iload hx hb dX12_tryShelf_181 (lv_at hl 6 rfl) ?_
                    have hPc := hP.sub (ws' := (wd_90cd99f9 h0 v0 r0 v1 v2 v3 v4 r1 r2 r3 r4 r5 r6 r7 v5 v6 r8 r9 r10 r11 v7 h1 r12 v8 v9 h2 r13 v10 v11 r14 v12 v13 r15 v14 w15 r16 x22 x23 h3 h4 r17 r18 r19 r20 v18 r21 r22 r23 v19 h1 g0 f20 h2 g1 f21 h3 g2 fn46 h4 g3 fn45)) [0, 1, 2, 3, 4] rfl
                    have hDc := hD.sub (ws' := (wd_90cd99f9 h0 v0 r0 v1 v2 v3 v4 r1 r2 r3 r4 r5 r6 r7 v5 v6 r8 r9 r10 r11 v7 h1 r12 v8 v9 h2 r13 v10 v11 r14 v12 v13 r15 v14 w15 r16 x22 x23 h3 h4 r17 r18 r19 r20 v18 r21 r22 r23 v19 h1 g0 f20 h2 g1 f21 h3 g2 fn46 h4 g3 fn45)) [0, 1, 2, 3, 4] (by decide) rfl
                    have hKc := hK.sub (tys' := [(g0, .int), (g1, .int), (g2, .int), (g3, .int)]) [0, 1, 2, 3] rfl
                    have hFc := va_free (wc := (wd_90cd99f9 h0 v0 r0 v1 v2 v3 v4 r1 r2 r3 r4 r5 r6 r7 v5 v6 r8 r9 r10 r11 v7 h1 r12 v8 v9 h2 r13 v10 v11 r14 v12 v13 r15 v14 w15 r16 x22 x23 h3 h4 r17 r18 r19 r20 v18 r21 r22 r23 v19 h1 g0 f20 h2 g1 f21 h3 g2 fn46 h4 g3 fn45)) hD hS hA [0, 1, 2, 3, 4] rfl
                    refine va_callv (va_runV (As := [.int 6, .int t49, .int t54, .int v26]) (rest := []) ⟨hx, hb, hml, hown, hts⟩ (k_X12_tryShelf_2 l dC dI h0 h1 h2 h3 h4 v0 r0 v1 v2 v3 v4 r1 r2 r3 r4 r5 r6 r7 v5 v6 r8 r9 r10 r11 v7 r12 v8 v9 r13 v10 v11 r14 v12 v13 r15 v14 w15 r16 x22 x23 r17 r18 r19 r20 v18 r21 r22 r23 v19 g0 f20 g1 f21 g2 fn46 g3 fn45 t49 t54 v26 ⟨i_v1a, i_v1b⟩ ⟨i_v5a, i_v5b⟩ ⟨i_v6a, i_v6b⟩ ⟨i_v7a, i_v7b⟩ ⟨i_v8a, i_v8b⟩ ⟨i_v9a, i_v9b⟩ ⟨i_v10a, i_v10b⟩ ⟨i_v14a, i_v14b⟩ ⟨i_v18a, i_v18b⟩ ⟨i_v19a, i_v19b⟩ ⟨i_v26a, i_v26b⟩ ia_f20 ia_f21 H.size) (cwV 4 hts g_X12_tryShelf_3_4 rfl rfl rfl (by decide +kernel) ⟨Nat.le_of_ble_eq_true rfl, Nat.le_of_ble_eq_true rfl⟩) (pv_PV12 hPc hKc hDc (q0 := 0) rfl) rfl rfl hl.1 rfl (lv_room (Nat.le_of_ble_eq_true rfl)) dX12_tryShelf_183 ⟨Nat.le_of_ble_eq_true rfl, Nat.le_of_ble_eq_true rfl⟩) hS (fun q _ h => hFc q h) hFc (fun u t H1 locs ht hvm hwra55 hB hz1 hk1 hS => ?_)
                    obtain ⟨x56, x57, fn58, fn59, hP1, hK1, hD1⟩ := hB
                    rw [ht] at hP1
                    obtain ⟨hP2, hD2⟩ := va_join (wr := []) (w1 := (wd_90cd99f9 h0 v0 r0 v1 v2 v3 v4 r1 r2 r3 r4 r5 r6 r7 v5 v6 r8 r9 r10 r11 v7 h1 r12 v8 v9 h2 r13 v10 v11 r14 v12 v13 r15 v14 w15 r16 x56 x57 h3 h4 r17 r18 r19 r20 v18 r21 r22 r23 v19 h1 g0 f20 h2 g1 f21 h3 g2 fn58 h4 g3 fn59)) hP hD [0, 1, 2, 3, 4] [] rfl rfl (by decide) (by decide) hk1 hFc hP1 hD1
                    clear hP hD hPc hDc hKc hFc hP1 hK1 hD1 hk1 hz1
                    generalize H1 = H at hP2 hS ⊢
                    have hP : va_P (dC, dI) vwCl (wd_90cd99f9 h0 v0 r0 v1 v2 v3 v4 r1 r2 r3 r4 r5 r6 r7 v5 v6 r8 r9 r10 r11 v7 h1 r12 v8 v9 h2 r13 v10 v11 r14 v12 v13 r15 v14 w15 r16 x56 x57 h3 h4 r17 r18 r19 r20 v18 r21 r22 r23 v19 h1 g0 f20 h2 g1 f21 h3 g2 fn58 h4 g3 fn59) H := hP2
                    have hD : va_D A (wd_90cd99f9 h0 v0 r0 v1 v2 v3 v4 r1 r2 r3 r4 r5 r6 r7 v5 v6 r8 r9 r10 r11 v7 h1 r12 v8 v9 h2 r13 v10 v11 r14 v12 v13 r15 v14 w15 r16 x56 x57 h3 h4 r17 r18 r19 r20 v18 r21 r22 r23 v19 h1 g0 f20 h2 g1 f21 h3 g2 fn58 h4 g3 fn59) := hD2
                    clear hP2 hD2
                    refine lv_aload_n hx hb dX12_tryShelf_186 rfl (lv_at hl 2 rfl) ?_
                    refine va_get (D := (dC, dI)) (ci := 12) (v := .ref h4) (C := RX12) (T := TX12) (N := 48) hx hb hts (fun _ h => List.mem_cons_of_mem _ (List.mem_append_right _ h)) hown hK hP 0 rfl rfl 38 (by decide) (hts (.fieldLink RX12 77 "LeftArgumentsModel" "room" "[I") (List.mem_cons_of_mem _ (List.mem_append_left _ (List.mem_of_getElem? (i := 31) rfl)))) (fun _ h9 => h9) rfl dX12_tryShelf_187 ?_
                    refine lv_iload hx hb dX12_tryShelf_190 (lv_at hl 0 rfl) ?_
                    refine lv_dup2_11 hx hb dX12_tryShelf_192 rfl rfl ?_
                    refine va_iald hx hb hK hP 4 3 rfl rfl (vp_in_iff.mpr ⟨by omega, by omega⟩) dX12_tryShelf_193 ?_
                    refine lv_topi (fun t60 et60 => ?_)
                    refine lv_aload_n hx hb dX12_tryShelf_194 rfl (lv_at hl 2 rfl) ?_
                    refine lv_iload_n hx hb dX12_tryShelf_195 rfl (lv_at hl 3 rfl) ?_
                    refine lv_iconst (v := 0) hx hb dX12_tryShelf_196 (by decide) ?_
                    have hPc := hP.sub (ws' := (wd_5013416a h0 v0 r0 v1 v2 v3 v4 r1 r2 r3 r4 r5 r6 r7 v5 v6 r8 r9 r10 r11 v7 h1 r12 v8 v9 h2 r13 v10 v11 r14 v12 v13 r15 v14 w15 r16 x56 x57 h3 h4 r17 r18 r19 r20 v18 r21 r22 r23 v19 h2 g1 f21)) [0, 2] rfl
                    have hDc := hD.sub (ws' := (wd_5013416a h0 v0 r0 v1 v2 v3 v4 r1 r2 r3 r4 r5 r6 r7 v5 v6 r8 r9 r10 r11 v7 h1 r12 v8 v9 h2 r13 v10 v11 r14 v12 v13 r15 v14 w15 r16 x56 x57 h3 h4 r17 r18 r19 r20 v18 r21 r22 r23 v19 h2 g1 f21)) [0, 2] (by decide) rfl
                    have hKc := hK.sub (tys' := [(g1, .int)]) [1] rfl
                    have hFc := va_free (wc := (wd_5013416a h0 v0 r0 v1 v2 v3 v4 r1 r2 r3 r4 r5 r6 r7 v5 v6 r8 r9 r10 r11 v7 h1 r12 v8 v9 h2 r13 v10 v11 r14 v12 v13 r15 v14 w15 r16 x56 x57 h3 h4 r17 r18 r19 r20 v18 r21 r22 r23 v19 h2 g1 f21)) hD hS hA [0, 2] rfl
                    refine va_calli (va_runV (As := [.int 5, .int 0]) (rest := [.int t60, .int x21, .ref h4]) ⟨hx, hb, hml, hown, hts⟩ (k_X12_of_3 l dC dI h0 h2 v0 r0 v1 v2 v3 v4 r1 r2 r3 r4 r5 r6 r7 v5 v6 r8 r9 r10 r11 v7 h1 r12 v8 v9 r13 v10 v11 r14 v12 v13 r15 v14 w15 r16 x56 x57 h3 h4 r17 r18 r19 r20 v18 r21 r22 r23 v19 g1 f21 5 ⟨i_v1a, i_v1b⟩ ⟨i_v5a, i_v5b⟩ ⟨i_v6a, i_v6b⟩ ⟨i_v7a, i_v7b⟩ ⟨i_v8a, i_v8b⟩ ⟨i_v9a, i_v9b⟩ ⟨i_v10a, i_v10b⟩ ⟨i_v14a, i_v14b⟩ ⟨i_v18a, i_v18b⟩ ⟨i_v19a, i_v19b⟩ ⟨by decide, by decide⟩ ia_f21.1 H.size) (cwV 2 hts g_X12_tryShelf_3_2 rfl rfl rfl (by decide +kernel) ⟨Nat.le_of_ble_eq_true rfl, Nat.le_of_ble_eq_true rfl⟩) (pv_PV12 hPc hKc hDc (q0 := 0) rfl) rfl rfl hl.1 rfl (lv_room (Nat.le_of_ble_eq_true rfl)) dX12_tryShelf_197 ⟨Nat.le_of_ble_eq_true rfl, Nat.le_of_ble_eq_true rfl⟩) hS (fun q _ h => hFc q h) hFc (fun ra61 u t H1 locs ht hvm hwra61 hB hz1 hk1 hS => ?_)
                    try rw [hwra61] at hB
                    have hkra61_0 : ((5 : Int32)).toInt = 5 := by decide
                    obtain ⟨pt0_ra61, pt1_ra61, pt2_ra61, hP1, hK1, hD1⟩ := hB
                    rw [ht] at hP1
                    obtain ⟨hP2, hD2⟩ := va_join (wr := (wd_20b67a68 h1 g0 f20 h3 g2 fn58 h4 g3 fn59)) (w1 := (wd_5013416a h0 v0 r0 v1 v2 v3 v4 r1 r2 r3 r4 r5 r6 r7 v5 v6 r8 r9 r10 r11 v7 h1 r12 v8 v9 h2 r13 v10 v11 r14 v12 v13 r15 v14 w15 r16 x56 x57 h3 h4 r17 r18 r19 r20 v18 r21 r22 r23 v19 h2 g1 f21)) hP hD [0, 2] [1, 3, 4] rfl rfl (by decide) (by decide) hk1 hFc hP1 hD1
                    clear hP hD hPc hDc hKc hFc hP1 hK1 hD1 hk1 hz1
                    generalize H1 = H at hP2 hS ⊢
                    have hP := hP2.sub (ws' := (wd_90cd99f9 h0 v0 r0 v1 v2 v3 v4 r1 r2 r3 r4 r5 r6 r7 v5 v6 r8 r9 r10 r11 v7 h1 r12 v8 v9 h2 r13 v10 v11 r14 v12 v13 r15 v14 w15 r16 x56 x57 h3 h4 r17 r18 r19 r20 v18 r21 r22 r23 v19 h1 g0 f20 h2 g1 f21 h3 g2 fn58 h4 g3 fn59)) [3, 0, 4, 1, 2] rfl
                    have hD := hD2.sub (ws' := (wd_90cd99f9 h0 v0 r0 v1 v2 v3 v4 r1 r2 r3 r4 r5 r6 r7 v5 v6 r8 r9 r10 r11 v7 h1 r12 v8 v9 h2 r13 v10 v11 r14 v12 v13 r15 v14 w15 r16 x56 x57 h3 h4 r17 r18 r19 r20 v18 r21 r22 r23 v19 h1 g0 f20 h2 g1 f21 h3 g2 fn58 h4 g3 fn59)) [3, 0, 4, 1, 2] (by decide) rfl
                    clear hP2 hD2
                    refine lv_isub hx hb dX12_tryShelf_200 ?_
                    refine lv_topi (fun t62 et62 => ?_)
                    refine va_iast hx hb hK hP hD hS 4 3 rfl rfl (vp_in_iff.mpr ⟨by omega, by omega⟩) dX12_tryShelf_201 (fun H locs hP hD hS => ?_)
                    obtain ⟨fn63, efn63⟩ : ∃ g : Nat → Int32, g = upd fn59 (Int32.toNatClampNeg x21) t62 := ⟨_, rfl⟩
                    rw [← efn63] at hP hD
                    have hP : va_P (dC, dI) vwCl (wd_90cd99f9 h0 v0 r0 v1 v2 v3 v4 r1 r2 r3 r4 r5 r6 r7 v5 v6 r8 r9 r10 r11 v7 h1 r12 v8 v9 h2 r13 v10 v11 r14 v12 v13 r15 v14 w15 r16 x56 x57 h3 h4 r17 r18 r19 r20 v18 r21 r22 r23 v19 h1 g0 f20 h2 g1 f21 h3 g2 fn58 h4 g3 fn63) H := hP
                    have hD : va_D A (wd_90cd99f9 h0 v0 r0 v1 v2 v3 v4 r1 r2 r3 r4 r5 r6 r7 v5 v6 r8 r9 r10 r11 v7 h1 r12 v8 v9 h2 r13 v10 v11 r14 v12 v13 r15 v14 w15 r16 x56 x57 h3 h4 r17 r18 r19 r20 v18 r21 r22 r23 v19 h1 g0 f20 h2 g1 f21 h3 g2 fn58 h4 g3 fn63) := hD
                    exact hJ37 x56 x57 fn58 fn63 H locs ls hP hD hS (lv_sub hl [0, 1, 2, 3, 4, 5, 6] rfl)
                  refine lv_icmp_ne (tgt := 179) hx hb dX12_tryShelf_172 (by decide) (fun c64 => ?_) (fun c64 => ?_)
                  · skip
                    have fc64 : ¬ (t50.toInt = ra51.toInt) := fun h9 => c64 (Int32.toInt_inj.mp h9)
                    have r1c64 := Int32.toInt_lt t50
                    have r2c64 := Int32.toInt_lt ra51
                    have r3c64 := Int32.le_toInt t50
                    have r4c64 := Int32.le_toInt ra51
                    refine lv_iconst (v := 0) hx hb dX12_tryShelf_179 (by decide) ?_
                    exact hJ53 0 H locs ls (by decide) (by decide) hP hD hS (lv_sub hl [0, 1, 2, 3, 4, 5, 6] rfl)
                  · skip
                    have fc64 : t50.toInt = ra51.toInt := congrArg Int32.toInt c64
                    have r1c64 := Int32.toInt_lt t50
                    have r2c64 := Int32.toInt_lt ra51
                    have r3c64 := Int32.le_toInt t50
                    have r4c64 := Int32.le_toInt ra51
                    refine lv_iconst (v := 1) hx hb dX12_tryShelf_175 (by decide) ?_
                    refine lv_goto (tgt := 180) hx hb dX12_tryShelf_176 (by decide) ?_
                    exact hJ53 1 H locs ls (by decide) (by decide) hP hD hS (lv_sub hl [0, 1, 2, 3, 4, 5, 6] rfl)
              · skip
                have fc39 : ¬ (v26.toInt = 0) := fun h9 => c39 (Int32.toInt_inj.mp h9)
                refine lv_aload_n hx hb dX12_tryShelf_87 rfl (lv_at hl 2 rfl) ?_
                refine va_get (D := (dC, dI)) (ci := 12) (v := .ref h4) (C := RX12) (T := TX12) (N := 48) hx hb hts (fun _ h => List.mem_cons_of_mem _ (List.mem_append_right _ h)) hown hK hP 0 rfl rfl 38 (by decide) (hts (.fieldLink RX12 77 "LeftArgumentsModel" "room" "[I") (List.mem_cons_of_mem _ (List.mem_append_left _ (List.mem_of_getElem? (i := 31) rfl)))) (fun _ h9 => h9) rfl dX12_tryShelf_88 ?_
                refine lv_iload hx hb dX12_tryShelf_91 (lv_at hl 0 rfl) ?_
                refine va_iald hx hb hK hP 4 3 rfl rfl (vp_in_iff.mpr ⟨by omega, by omega⟩) dX12_tryShelf_93 ?_
                refine lv_topi (fun t65 et65 => ?_)
                refine lv_aload_n hx hb dX12_tryShelf_94 rfl (lv_at hl 2 rfl) ?_
                refine lv_iload_n hx hb dX12_tryShelf_95 rfl (lv_at hl 3 rfl) ?_
                refine lv_iconst (v := 0) hx hb dX12_tryShelf_96 (by decide) ?_
                have hPc := hP.sub (ws' := (wd_5013416a h0 v0 r0 v1 v2 v3 v4 r1 r2 r3 r4 r5 r6 r7 v5 v6 r8 r9 r10 r11 v7 h1 r12 v8 v9 h2 r13 v10 v11 r14 v12 v13 r15 v14 w15 r16 x22 x23 h3 h4 r17 r18 r19 r20 v18 r21 r22 r23 v19 h2 g1 f21)) [0, 2] rfl
                have hDc := hD.sub (ws' := (wd_5013416a h0 v0 r0 v1 v2 v3 v4 r1 r2 r3 r4 r5 r6 r7 v5 v6 r8 r9 r10 r11 v7 h1 r12 v8 v9 h2 r13 v10 v11 r14 v12 v13 r15 v14 w15 r16 x22 x23 h3 h4 r17 r18 r19 r20 v18 r21 r22 r23 v19 h2 g1 f21)) [0, 2] (by decide) rfl
                have hKc := hK.sub (tys' := [(g1, .int)]) [1] rfl
                have hFc := va_free (wc := (wd_5013416a h0 v0 r0 v1 v2 v3 v4 r1 r2 r3 r4 r5 r6 r7 v5 v6 r8 r9 r10 r11 v7 h1 r12 v8 v9 h2 r13 v10 v11 r14 v12 v13 r15 v14 w15 r16 x22 x23 h3 h4 r17 r18 r19 r20 v18 r21 r22 r23 v19 h2 g1 f21)) hD hS hA [0, 2] rfl
                refine va_calli (va_runV (As := [.int 5, .int 0]) (rest := [.int t65]) ⟨hx, hb, hml, hown, hts⟩ (k_X12_of_3 l dC dI h0 h2 v0 r0 v1 v2 v3 v4 r1 r2 r3 r4 r5 r6 r7 v5 v6 r8 r9 r10 r11 v7 h1 r12 v8 v9 r13 v10 v11 r14 v12 v13 r15 v14 w15 r16 x22 x23 h3 h4 r17 r18 r19 r20 v18 r21 r22 r23 v19 g1 f21 5 ⟨i_v1a, i_v1b⟩ ⟨i_v5a, i_v5b⟩ ⟨i_v6a, i_v6b⟩ ⟨i_v7a, i_v7b⟩ ⟨i_v8a, i_v8b⟩ ⟨i_v9a, i_v9b⟩ ⟨i_v10a, i_v10b⟩ ⟨i_v14a, i_v14b⟩ ⟨i_v18a, i_v18b⟩ ⟨i_v19a, i_v19b⟩ ⟨by decide, by decide⟩ ia_f21.1 H.size) (cwV 2 hts g_X12_tryShelf_3_2 rfl rfl rfl (by decide +kernel) ⟨Nat.le_of_ble_eq_true rfl, Nat.le_of_ble_eq_true rfl⟩) (pv_PV12 hPc hKc hDc (q0 := 0) rfl) rfl rfl hl.1 rfl (lv_room (Nat.le_of_ble_eq_true rfl)) dX12_tryShelf_97 ⟨Nat.le_of_ble_eq_true rfl, Nat.le_of_ble_eq_true rfl⟩) hS (fun q _ h => hFc q h) hFc (fun ra66 u t H1 locs ht hvm hwra66 hB hz1 hk1 hS => ?_)
                try rw [hwra66] at hB
                have hkra66_0 : ((5 : Int32)).toInt = 5 := by decide
                obtain ⟨pt0_ra66, pt1_ra66, pt2_ra66, hP1, hK1, hD1⟩ := hB
                rw [ht] at hP1
                obtain ⟨hP2, hD2⟩ := va_join (wr := (wd_20b67a68 h1 g0 f20 h3 g2 fn24 h4 g3 fn25)) (w1 := (wd_5013416a h0 v0 r0 v1 v2 v3 v4 r1 r2 r3 r4 r5 r6 r7 v5 v6 r8 r9 r10 r11 v7 h1 r12 v8 v9 h2 r13 v10 v11 r14 v12 v13 r15 v14 w15 r16 x22 x23 h3 h4 r17 r18 r19 r20 v18 r21 r22 r23 v19 h2 g1 f21)) hP hD [0, 2] [1, 3, 4] rfl rfl (by decide) (by decide) hk1 hFc hP1 hD1
                clear hP hD hPc hDc hKc hFc hP1 hK1 hD1 hk1 hz1
                generalize H1 = H at hP2 hS ⊢
                have hP := hP2.sub (ws' := (wd_90cd99f9 h0 v0 r0 v1 v2 v3 v4 r1 r2 r3 r4 r5 r6 r7 v5 v6 r8 r9 r10 r11 v7 h1 r12 v8 v9 h2 r13 v10 v11 r14 v12 v13 r15 v14 w15 r16 x22 x23 h3 h4 r17 r18 r19 r20 v18 r21 r22 r23 v19 h1 g0 f20 h2 g1 f21 h3 g2 fn24 h4 g3 fn25)) [3, 0, 4, 1, 2] rfl
                have hD := hD2.sub (ws' := (wd_90cd99f9 h0 v0 r0 v1 v2 v3 v4 r1 r2 r3 r4 r5 r6 r7 v5 v6 r8 r9 r10 r11 v7 h1 r12 v8 v9 h2 r13 v10 v11 r14 v12 v13 r15 v14 w15 r16 x22 x23 h3 h4 r17 r18 r19 r20 v18 r21 r22 r23 v19 h1 g0 f20 h2 g1 f21 h3 g2 fn24 h4 g3 fn25)) [3, 0, 4, 1, 2] (by decide) rfl
                clear hP2 hD2
                refine lv_iadd hx hb dX12_tryShelf_100 ?_
                refine lv_topi (fun t67 et67 => ?_)
                refine lv_aload_n hx hb dX12_tryShelf_101 rfl (lv_at hl 2 rfl) ?_
                refine va_get (D := (dC, dI)) (ci := 12) (v := .ref h1) (C := RX12) (T := TX12) (N := 48) hx hb hts (fun _ h => List.mem_cons_of_mem _ (List.mem_append_right _ h)) hown hK hP 0 rfl rfl 20 (by decide) (hts (.fieldLink RX12 46 "LeftArgumentsModel" "rule" "[I") (List.mem_cons_of_mem _ (List.mem_append_left _ (List.mem_of_getElem? (i := 37) rfl)))) (fun _ h9 => h9) rfl dX12_tryShelf_102 ?_
                refine lv_iconst (v := 0) hx hb dX12_tryShelf_105 (by decide) ?_
                refine va_iald hx hb hK hP 1 0 rfl rfl (pv_c (x := 0) (n := 4) (by decide)) dX12_tryShelf_106 ?_
                refine lv_topi (fun t68 et68 => ?_)
                have gat68 : 0 ≤ t68.toInt := by rw [et68]; exact ia_f20.2
                refine lv_icmp_gt (tgt := 202) hx hb dX12_tryShelf_107 (by decide) (fun c69 => ?_) (fun c69 => ?_)
                · skip
                  have fc69 : t68.toInt < t67.toInt := Int32.lt_iff_toInt_lt.mp c69
                  have r1c69 := Int32.toInt_lt t67
                  have r2c69 := Int32.toInt_lt t68
                  have r3c69 := Int32.le_toInt t67
                  have r4c69 := Int32.le_toInt t68
                  exact hJ37 x22 x23 fn24 fn25 H locs ls hP hD hS (lv_sub hl [0, 1, 2, 3, 4, 5, 6] rfl)
                · skip
                  have fc69 : ¬ (t68.toInt < t67.toInt) := fun h9 => c69 (Int32.lt_iff_toInt_lt.mpr h9)
                  have r1c69 := Int32.toInt_lt t67
                  have r2c69 := Int32.toInt_lt t68
                  have r3c69 := Int32.le_toInt t67
                  have r4c69 := Int32.le_toInt t68
                  refine lv_goto (tgt := 123) hx hb dX12_tryShelf_110 (by decide) ?_
                  refine lv_aload_n hx hb dX12_tryShelf_123 rfl (lv_at hl 2 rfl) ?_
                  refine va_get (D := (dC, dI)) (ci := 12) (v := .ref h4) (C := RX12) (T := TX12) (N := 48) hx hb hts (fun _ h => List.mem_cons_of_mem _ (List.mem_append_right _ h)) hown hK hP 0 rfl rfl 38 (by decide) (hts (.fieldLink RX12 77 "LeftArgumentsModel" "room" "[I") (List.mem_cons_of_mem _ (List.mem_append_left _ (List.mem_of_getElem? (i := 31) rfl)))) (fun _ h9 => h9) rfl dX12_tryShelf_124 ?_
                  refine lv_iload hx hb dX12_tryShelf_127 (lv_at hl 0 rfl) ?_
                  refine lv_dup2_11 hx hb dX12_tryShelf_129 rfl rfl ?_
                  refine va_iald hx hb hK hP 4 3 rfl rfl (vp_in_iff.mpr ⟨by omega, by omega⟩) dX12_tryShelf_130 ?_
                  refine lv_topi (fun t70 et70 => ?_)
                  have gmt70 : t70.toInt = t65.toInt := by rw [et70, et65]
                  refine lv_aload_n hx hb dX12_tryShelf_131 rfl (lv_at hl 2 rfl) ?_
                  refine lv_iload_n hx hb dX12_tryShelf_132 rfl (lv_at hl 3 rfl) ?_
                  refine lv_iconst (v := 0) hx hb dX12_tryShelf_133 (by decide) ?_
                  have hPc := hP.sub (ws' := (wd_5013416a h0 v0 r0 v1 v2 v3 v4 r1 r2 r3 r4 r5 r6 r7 v5 v6 r8 r9 r10 r11 v7 h1 r12 v8 v9 h2 r13 v10 v11 r14 v12 v13 r15 v14 w15 r16 x22 x23 h3 h4 r17 r18 r19 r20 v18 r21 r22 r23 v19 h2 g1 f21)) [0, 2] rfl
                  have hDc := hD.sub (ws' := (wd_5013416a h0 v0 r0 v1 v2 v3 v4 r1 r2 r3 r4 r5 r6 r7 v5 v6 r8 r9 r10 r11 v7 h1 r12 v8 v9 h2 r13 v10 v11 r14 v12 v13 r15 v14 w15 r16 x22 x23 h3 h4 r17 r18 r19 r20 v18 r21 r22 r23 v19 h2 g1 f21)) [0, 2] (by decide) rfl
                  have hKc := hK.sub (tys' := [(g1, .int)]) [1] rfl
                  have hFc := va_free (wc := (wd_5013416a h0 v0 r0 v1 v2 v3 v4 r1 r2 r3 r4 r5 r6 r7 v5 v6 r8 r9 r10 r11 v7 h1 r12 v8 v9 h2 r13 v10 v11 r14 v12 v13 r15 v14 w15 r16 x22 x23 h3 h4 r17 r18 r19 r20 v18 r21 r22 r23 v19 h2 g1 f21)) hD hS hA [0, 2] rfl
                  refine va_calli (va_runV (As := [.int 5, .int 0]) (rest := [.int t70, .int x21, .ref h4]) ⟨hx, hb, hml, hown, hts⟩ (k_X12_of_3 l dC dI h0 h2 v0 r0 v1 v2 v3 v4 r1 r2 r3 r4 r5 r6 r7 v5 v6 r8 r9 r10 r11 v7 h1 r12 v8 v9 r13 v10 v11 r14 v12 v13 r15 v14 w15 r16 x22 x23 h3 h4 r17 r18 r19 r20 v18 r21 r22 r23 v19 g1 f21 5 ⟨i_v1a, i_v1b⟩ ⟨i_v5a, i_v5b⟩ ⟨i_v6a, i_v6b⟩ ⟨i_v7a, i_v7b⟩ ⟨i_v8a, i_v8b⟩ ⟨i_v9a, i_v9b⟩ ⟨i_v10a, i_v10b⟩ ⟨i_v14a, i_v14b⟩ ⟨i_v18a, i_v18b⟩ ⟨i_v19a, i_v19b⟩ ⟨by decide, by decide⟩ ia_f21.1 H.size) (cwV 2 hts g_X12_tryShelf_3_2 rfl rfl rfl (by decide +kernel) ⟨Nat.le_of_ble_eq_true rfl, Nat.le_of_ble_eq_true rfl⟩) (pv_PV12 hPc hKc hDc (q0 := 0) rfl) rfl rfl hl.1 rfl (lv_room (Nat.le_of_ble_eq_true rfl)) dX12_tryShelf_134 ⟨Nat.le_of_ble_eq_true rfl, Nat.le_of_ble_eq_true rfl⟩) hS (fun q _ h => hFc q h) hFc (fun ra71 u t H1 locs ht hvm hwra71 hB hz1 hk1 hS => ?_)
                  try rw [hwra71] at hB
                  have hkra71_0 : ((5 : Int32)).toInt = 5 := by decide
                  obtain ⟨pt0_ra71, pt1_ra71, pt2_ra71, hP1, hK1, hD1⟩ := hB
                  rw [ht] at hP1
                  obtain ⟨hP2, hD2⟩ := va_join (wr := (wd_20b67a68 h1 g0 f20 h3 g2 fn24 h4 g3 fn25)) (w1 := (wd_5013416a h0 v0 r0 v1 v2 v3 v4 r1 r2 r3 r4 r5 r6 r7 v5 v6 r8 r9 r10 r11 v7 h1 r12 v8 v9 h2 r13 v10 v11 r14 v12 v13 r15 v14 w15 r16 x22 x23 h3 h4 r17 r18 r19 r20 v18 r21 r22 r23 v19 h2 g1 f21)) hP hD [0, 2] [1, 3, 4] rfl rfl (by decide) (by decide) hk1 hFc hP1 hD1
                  clear hP hD hPc hDc hKc hFc hP1 hK1 hD1 hk1 hz1
                  generalize H1 = H at hP2 hS ⊢
                  have hP := hP2.sub (ws' := (wd_90cd99f9 h0 v0 r0 v1 v2 v3 v4 r1 r2 r3 r4 r5 r6 r7 v5 v6 r8 r9 r10 r11 v7 h1 r12 v8 v9 h2 r13 v10 v11 r14 v12 v13 r15 v14 w15 r16 x22 x23 h3 h4 r17 r18 r19 r20 v18 r21 r22 r23 v19 h1 g0 f20 h2 g1 f21 h3 g2 fn24 h4 g3 fn25)) [3, 0, 4, 1, 2] rfl
                  have hD := hD2.sub (ws' := (wd_90cd99f9 h0 v0 r0 v1 v2 v3 v4 r1 r2 r3 r4 r5 r6 r7 v5 v6 r8 r9 r10 r11 v7 h1 r12 v8 v9 h2 r13 v10 v11 r14 v12 v13 r15 v14 w15 r16 x22 x23 h3 h4 r17 r18 r19 r20 v18 r21 r22 r23 v19 h1 g0 f20 h2 g1 f21 h3 g2 fn24 h4 g3 fn25)) [3, 0, 4, 1, 2] (by decide) rfl
                  clear hP2 hD2
                  refine lv_iadd hx hb dX12_tryShelf_137 ?_
                  refine lv_topi (fun t72 et72 => ?_)
                  refine va_iast hx hb hK hP hD hS 4 3 rfl rfl (vp_in_iff.mpr ⟨by omega, by omega⟩) dX12_tryShelf_138 (fun H locs hP hD hS => ?_)
                  obtain ⟨fn73, efn73⟩ : ∃ g : Nat → Int32, g = upd fn25 (Int32.toNatClampNeg x21) t72 := ⟨_, rfl⟩
                  rw [← efn73] at hP hD
                  have hP : va_P (dC, dI) vwCl (wd_90cd99f9 h0 v0 r0 v1 v2 v3 v4 r1 r2 r3 r4 r5 r6 r7 v5 v6 r8 r9 r10 r11 v7 h1 r12 v8 v9 h2 r13 v10 v11 r14 v12 v13 r15 v14 w15 r16 x22 x23 h3 h4 r17 r18 r19 r20 v18 r21 r22 r23 v19 h1 g0 f20 h2 g1 f21 h3 g2 fn24 h4 g3 fn73) H := hP
                  have hD : va_D A (wd_90cd99f9 h0 v0 r0 v1 v2 v3 v4 r1 r2 r3 r4 r5 r6 r7 v5 v6 r8 r9 r10 r11 v7 h1 r12 v8 v9 h2 r13 v10 v11 r14 v12 v13 r15 v14 w15 r16 x22 x23 h3 h4 r17 r18 r19 r20 v18 r21 r22 r23 v19 h1 g0 f20 h2 g1 f21 h3 g2 fn24 h4 g3 fn73) := hD
                  refine lv_aload_n hx hb dX12_tryShelf_139 rfl (lv_at hl 2 rfl) ?_
                  refine va_get (D := (dC, dI)) (ci := 12) (v := .ref h3) (C := RX12) (T := TX12) (N := 48) hx hb hts (fun _ h => List.mem_cons_of_mem _ (List.mem_append_right _ h)) hown hK hP 0 rfl rfl 37 (by decide) (hts (.fieldLink RX12 74 "LeftArgumentsModel" "onShelf" "[I") (List.mem_cons_of_mem _ (List.mem_append_left _ (List.mem_of_getElem? (i := 15) rfl)))) (fun _ h9 => h9) rfl dX12_tryShelf_140 ?_
                  refine lv_iload_n hx hb dX12_tryShelf_143 rfl (lv_at hl 3 rfl) ?_
                  refine lv_iload hx hb dX12_tryShelf_144 (lv_at hl 0 rfl) ?_
                  refine va_iast hx hb hK hP hD hS 3 2 rfl rfl (pv_c (x := 5) (n := 8) (by decide)) dX12_tryShelf_146 (fun H locs hP hD hS => ?_)
                  obtain ⟨fn74, efn74⟩ : ∃ g : Nat → Int32, g = upd fn24 (Int32.toNatClampNeg 5) x21 := ⟨_, rfl⟩
                  rw [← efn74] at hP hD
                  have hP : va_P (dC, dI) vwCl (wd_90cd99f9 h0 v0 r0 v1 v2 v3 v4 r1 r2 r3 r4 r5 r6 r7 v5 v6 r8 r9 r10 r11 v7 h1 r12 v8 v9 h2 r13 v10 v11 r14 v12 v13 r15 v14 w15 r16 x22 x23 h3 h4 r17 r18 r19 r20 v18 r21 r22 r23 v19 h1 g0 f20 h2 g1 f21 h3 g2 fn74 h4 g3 fn73) H := hP
                  have hD : va_D A (wd_90cd99f9 h0 v0 r0 v1 v2 v3 v4 r1 r2 r3 r4 r5 r6 r7 v5 v6 r8 r9 r10 r11 v7 h1 r12 v8 v9 h2 r13 v10 v11 r14 v12 v13 r15 v14 w15 r16 x22 x23 h3 h4 r17 r18 r19 r20 v18 r21 r22 r23 v19 h1 g0 f20 h2 g1 f21 h3 g2 fn74 h4 g3 fn73) := hD
                  refine lv_aload_n hx hb dX12_tryShelf_147 rfl (lv_at hl 2 rfl) ?_
                  refine lv_iload_n hx hb dX12_tryShelf_148 rfl (lv_at hl 3 rfl) ?_
                  refine lv_iconst (v := 1) hx hb dX12_tryShelf_149 (by decide) ?_
                  refine lv_iadd hx hb dX12_tryShelf_150 ?_
                  refine lv_topi (fun tv75 etv75 => ?_)
                  obtain rfl : tv75 = (6 : Int32) := etv75.trans (by first | rfl | decide)
                  refine lv_bipush (v := 10) hx hb dX12_tryShelf_151 (by decide) ?_
                  refine lv_iload_n hx hb dX12_tryShelf_153 rfl (lv_at hl 4 rfl) ?_
                  refine lv_imul hx hb dX12_tryShelf_154 ?_
                  refine lv_topi (fun t76 et76 => ?_)
                  refine lv_iload hx hb dX12_tryShelf_155 (lv_at hl 0 rfl) ?_
                  refine lv_iadd hx hb dX12_tryShelf_157 ?_
                  refine lv_topi (fun t77 et77 => ?_)
                  refine lv_iload_n hx hb dX12_tryShelf_158 rfl (lv_at hl 5 rfl) ?_
                  refine lv_aload_n hx hb dX12_tryShelf_159 rfl (lv_at hl 2 rfl) ?_
                  refine va_get (D := (dC, dI)) (ci := 12) (v := .ref h4) (C := RX12) (T := TX12) (N := 48) hx hb hts (fun _ h => List.mem_cons_of_mem _ (List.mem_append_right _ h)) hown hK hP 0 rfl rfl 38 (by decide) (hts (.fieldLink RX12 77 "LeftArgumentsModel" "room" "[I") (List.mem_cons_of_mem _ (List.mem_append_left _ (List.mem_of_getElem? (i := 31) rfl)))) (fun _ h9 => h9) rfl dX12_tryShelf_160 ?_
                  refine lv_iload hx hb dX12_tryShelf_163 (lv_at hl 0 rfl) ?_
                  refine va_iald hx hb hK hP 4 3 rfl rfl (vp_in_iff.mpr ⟨by omega, by omega⟩) dX12_tryShelf_165 ?_
                  refine lv_topi (fun t78 et78 => ?_)
                  refine lv_aload_n hx hb dX12_tryShelf_166 rfl (lv_at hl 2 rfl) ?_
                  refine lv_iload_n hx hb dX12_tryShelf_167 rfl (lv_at hl 3 rfl) ?_
                  refine lv_iconst (v := 0) hx hb dX12_tryShelf_168 (by decide) ?_
                  have hPc := hP.sub (ws' := (wd_5013416a h0 v0 r0 v1 v2 v3 v4 r1 r2 r3 r4 r5 r6 r7 v5 v6 r8 r9 r10 r11 v7 h1 r12 v8 v9 h2 r13 v10 v11 r14 v12 v13 r15 v14 w15 r16 x22 x23 h3 h4 r17 r18 r19 r20 v18 r21 r22 r23 v19 h2 g1 f21)) [0, 2] rfl
                  have hDc := hD.sub (ws' := (wd_5013416a h0 v0 r0 v1 v2 v3 v4 r1 r2 r3 r4 r5 r6 r7 v5 v6 r8 r9 r10 r11 v7 h1 r12 v8 v9 h2 r13 v10 v11 r14 v12 v13 r15 v14 w15 r16 x22 x23 h3 h4 r17 r18 r19 r20 v18 r21 r22 r23 v19 h2 g1 f21)) [0, 2] (by decide) rfl
                  have hKc := hK.sub (tys' := [(g1, .int)]) [1] rfl
                  have hFc := va_free (wc := (wd_5013416a h0 v0 r0 v1 v2 v3 v4 r1 r2 r3 r4 r5 r6 r7 v5 v6 r8 r9 r10 r11 v7 h1 r12 v8 v9 h2 r13 v10 v11 r14 v12 v13 r15 v14 w15 r16 x22 x23 h3 h4 r17 r18 r19 r20 v18 r21 r22 r23 v19 h2 g1 f21)) hD hS hA [0, 2] rfl
                  refine va_calli (va_runV (As := [.int 5, .int 0]) (rest := [.int t78, .int v25, .int t77, .int 6, .ref h0]) ⟨hx, hb, hml, hown, hts⟩ (k_X12_of_3 l dC dI h0 h2 v0 r0 v1 v2 v3 v4 r1 r2 r3 r4 r5 r6 r7 v5 v6 r8 r9 r10 r11 v7 h1 r12 v8 v9 r13 v10 v11 r14 v12 v13 r15 v14 w15 r16 x22 x23 h3 h4 r17 r18 r19 r20 v18 r21 r22 r23 v19 g1 f21 5 ⟨i_v1a, i_v1b⟩ ⟨i_v5a, i_v5b⟩ ⟨i_v6a, i_v6b⟩ ⟨i_v7a, i_v7b⟩ ⟨i_v8a, i_v8b⟩ ⟨i_v9a, i_v9b⟩ ⟨i_v10a, i_v10b⟩ ⟨i_v14a, i_v14b⟩ ⟨i_v18a, i_v18b⟩ ⟨i_v19a, i_v19b⟩ ⟨by decide, by decide⟩ ia_f21.1 H.size) (cwV 2 hts g_X12_tryShelf_3_2 rfl rfl rfl (by decide +kernel) ⟨Nat.le_of_ble_eq_true rfl, Nat.le_of_ble_eq_true rfl⟩) (pv_PV12 hPc hKc hDc (q0 := 0) rfl) rfl rfl hl.1 rfl (lv_room (Nat.le_of_ble_eq_true rfl)) dX12_tryShelf_169 ⟨Nat.le_of_ble_eq_true rfl, Nat.le_of_ble_eq_true rfl⟩) hS (fun q _ h => hFc q h) hFc (fun ra79 u t H1 locs ht hvm hwra79 hB hz1 hk1 hS => ?_)
                  try rw [hwra79] at hB
                  have hkra79_0 : ((5 : Int32)).toInt = 5 := by decide
                  obtain ⟨pt0_ra79, pt1_ra79, pt2_ra79, hP1, hK1, hD1⟩ := hB
                  rw [ht] at hP1
                  obtain ⟨hP2, hD2⟩ := va_join (wr := (wd_20b67a68 h1 g0 f20 h3 g2 fn74 h4 g3 fn73)) (w1 := (wd_5013416a h0 v0 r0 v1 v2 v3 v4 r1 r2 r3 r4 r5 r6 r7 v5 v6 r8 r9 r10 r11 v7 h1 r12 v8 v9 h2 r13 v10 v11 r14 v12 v13 r15 v14 w15 r16 x22 x23 h3 h4 r17 r18 r19 r20 v18 r21 r22 r23 v19 h2 g1 f21)) hP hD [0, 2] [1, 3, 4] rfl rfl (by decide) (by decide) hk1 hFc hP1 hD1
                  clear hP hD hPc hDc hKc hFc hP1 hK1 hD1 hk1 hz1
                  generalize H1 = H at hP2 hS ⊢
                  have hP := hP2.sub (ws' := (wd_90cd99f9 h0 v0 r0 v1 v2 v3 v4 r1 r2 r3 r4 r5 r6 r7 v5 v6 r8 r9 r10 r11 v7 h1 r12 v8 v9 h2 r13 v10 v11 r14 v12 v13 r15 v14 w15 r16 x22 x23 h3 h4 r17 r18 r19 r20 v18 r21 r22 r23 v19 h1 g0 f20 h2 g1 f21 h3 g2 fn74 h4 g3 fn73)) [3, 0, 4, 1, 2] rfl
                  have hD := hD2.sub (ws' := (wd_90cd99f9 h0 v0 r0 v1 v2 v3 v4 r1 r2 r3 r4 r5 r6 r7 v5 v6 r8 r9 r10 r11 v7 h1 r12 v8 v9 h2 r13 v10 v11 r14 v12 v13 r15 v14 w15 r16 x22 x23 h3 h4 r17 r18 r19 r20 v18 r21 r22 r23 v19 h1 g0 f20 h2 g1 f21 h3 g2 fn74 h4 g3 fn73)) [3, 0, 4, 1, 2] (by decide) rfl
                  clear hP2 hD2
                  have hJ81 : ∀ (x80 : Int32) (H : Heap) (locs : List Loc) (ls : Array Slot), 0 ≤ x80.toInt → x80.toInt ≤ 1 → va_P (dC, dI) vwCl (wd_90cd99f9 h0 v0 r0 v1 v2 v3 v4 r1 r2 r3 r4 r5 r6 r7 v5 v6 r8 r9 r10 r11 v7 h1 r12 v8 v9 h2 r13 v10 v11 r14 v12 v13 r15 v14 w15 r16 x22 x23 h3 h4 r17 r18 r19 r20 v18 r21 r22 r23 v19 h1 g0 f20 h2 g1 f21 h3 g2 fn74 h4 g3 fn73) H → va_D A (wd_90cd99f9 h0 v0 r0 v1 v2 v3 v4 r1 r2 r3 r4 r5 r6 r7 v5 v6 r8 r9 r10 r11 v7 h1 r12 v8 v9 h2 r13 v10 v11 r14 v12 v13 r15 v14 w15 r16 x22 x23 h3 h4 r17 r18 r19 r20 v18 r21 r22 r23 v19 h1 g0 f20 h2 g1 f21 h3 g2 fn74 h4 g3 fn73) → va_S A s.heap H locs → lv_has ls 7 [(6, .int x21), (5, .int x4), (0, .ref h0), (1, .int 5), (2, .int v24), (3, .int v25), (4, .int v26)] → W p l e ({ frames := 6, cells := 0, slots := 0, locals := 140 }) s m ([.ref h0, .int 5, .int v24, .int v25, .int v26] : List Value).toArray below meth c H locs 0 0 Q (F0 m 180 ls [.int x80, .int v25, .int t77, .int 6, .ref h0]) := by
                    intro x80 H locs ls qa_x80 qb_x80 hP hD hS hl
                    refine lv_iadd hx hb dX12_tryShelf_180 ?_
                    refine lv_topi (fun t82 et82 => ?_)
                    refine lv_iload hx hb dX12_tryShelf_181 (lv_at hl 6 rfl) ?_
                    have hPc := hP.sub (ws' := (wd_90cd99f9 h0 v0 r0 v1 v2 v3 v4 r1 r2 r3 r4 r5 r6 r7 v5 v6 r8 r9 r10 r11 v7 h1 r12 v8 v9 h2 r13 v10 v11 r14 v12 v13 r15 v14 w15 r16 x22 x23 h3 h4 r17 r18 r19 r20 v18 r21 r22 r23 v19 h1 g0 f20 h2 g1 f21 h3 g2 fn74 h4 g3 fn73)) [0, 1, 2, 3, 4] rfl
                    have hDc := hD.sub (ws' := (wd_90cd99f9 h0 v0 r0 v1 v2 v3 v4 r1 r2 r3 r4 r5 r6 r7 v5 v6 r8 r9 r10 r11 v7 h1 r12 v8 v9 h2 r13 v10 v11 r14 v12 v13 r15 v14 w15 r16 x22 x23 h3 h4 r17 r18 r19 r20 v18 r21 r22 r23 v19 h1 g0 f20 h2 g1 f21 h3 g2 fn74 h4 g3 fn73)) [0, 1, 2, 3, 4] (by decide) rfl
                    have hKc := hK.sub (tys' := [(g0, .int), (g1, .int), (g2, .int), (g3, .int)]) [0, 1, 2, 3] rfl
                    have hFc := va_free (wc := (wd_90cd99f9 h0 v0 r0 v1 v2 v3 v4 r1 r2 r3 r4 r5 r6 r7 v5 v6 r8 r9 r10 r11 v7 h1 r12 v8 v9 h2 r13 v10 v11 r14 v12 v13 r15 v14 w15 r16 x22 x23 h3 h4 r17 r18 r19 r20 v18 r21 r22 r23 v19 h1 g0 f20 h2 g1 f21 h3 g2 fn74 h4 g3 fn73)) hD hS hA [0, 1, 2, 3, 4] rfl
                    refine va_callv (va_runV (As := [.int 6, .int t77, .int t82, .int v26]) (rest := []) ⟨hx, hb, hml, hown, hts⟩ (k_X12_tryShelf_2 l dC dI h0 h1 h2 h3 h4 v0 r0 v1 v2 v3 v4 r1 r2 r3 r4 r5 r6 r7 v5 v6 r8 r9 r10 r11 v7 r12 v8 v9 r13 v10 v11 r14 v12 v13 r15 v14 w15 r16 x22 x23 r17 r18 r19 r20 v18 r21 r22 r23 v19 g0 f20 g1 f21 g2 fn74 g3 fn73 t77 t82 v26 ⟨i_v1a, i_v1b⟩ ⟨i_v5a, i_v5b⟩ ⟨i_v6a, i_v6b⟩ ⟨i_v7a, i_v7b⟩ ⟨i_v8a, i_v8b⟩ ⟨i_v9a, i_v9b⟩ ⟨i_v10a, i_v10b⟩ ⟨i_v14a, i_v14b⟩ ⟨i_v18a, i_v18b⟩ ⟨i_v19a, i_v19b⟩ ⟨i_v26a, i_v26b⟩ ia_f20 ia_f21 H.size) (cwV 4 hts g_X12_tryShelf_3_4 rfl rfl rfl (by decide +kernel) ⟨Nat.le_of_ble_eq_true rfl, Nat.le_of_ble_eq_true rfl⟩) (pv_PV12 hPc hKc hDc (q0 := 0) rfl) rfl rfl hl.1 rfl (lv_room (Nat.le_of_ble_eq_true rfl)) dX12_tryShelf_183 ⟨Nat.le_of_ble_eq_true rfl, Nat.le_of_ble_eq_true rfl⟩) hS (fun q _ h => hFc q h) hFc (fun u t H1 locs ht hvm hwra83 hB hz1 hk1 hS => ?_)
                    obtain ⟨x84, x85, fn86, fn87, hP1, hK1, hD1⟩ := hB
                    rw [ht] at hP1
                    obtain ⟨hP2, hD2⟩ := va_join (wr := []) (w1 := (wd_90cd99f9 h0 v0 r0 v1 v2 v3 v4 r1 r2 r3 r4 r5 r6 r7 v5 v6 r8 r9 r10 r11 v7 h1 r12 v8 v9 h2 r13 v10 v11 r14 v12 v13 r15 v14 w15 r16 x84 x85 h3 h4 r17 r18 r19 r20 v18 r21 r22 r23 v19 h1 g0 f20 h2 g1 f21 h3 g2 fn86 h4 g3 fn87)) hP hD [0, 1, 2, 3, 4] [] rfl rfl (by decide) (by decide) hk1 hFc hP1 hD1
                    clear hP hD hPc hDc hKc hFc hP1 hK1 hD1 hk1 hz1
                    generalize H1 = H at hP2 hS ⊢
                    have hP : va_P (dC, dI) vwCl (wd_90cd99f9 h0 v0 r0 v1 v2 v3 v4 r1 r2 r3 r4 r5 r6 r7 v5 v6 r8 r9 r10 r11 v7 h1 r12 v8 v9 h2 r13 v10 v11 r14 v12 v13 r15 v14 w15 r16 x84 x85 h3 h4 r17 r18 r19 r20 v18 r21 r22 r23 v19 h1 g0 f20 h2 g1 f21 h3 g2 fn86 h4 g3 fn87) H := hP2
                    have hD : va_D A (wd_90cd99f9 h0 v0 r0 v1 v2 v3 v4 r1 r2 r3 r4 r5 r6 r7 v5 v6 r8 r9 r10 r11 v7 h1 r12 v8 v9 h2 r13 v10 v11 r14 v12 v13 r15 v14 w15 r16 x84 x85 h3 h4 r17 r18 r19 r20 v18 r21 r22 r23 v19 h1 g0 f20 h2 g1 f21 h3 g2 fn86 h4 g3 fn87) := hD2
                    clear hP2 hD2
                    refine lv_aload_n hx hb dX12_tryShelf_186 rfl (lv_at hl 2 rfl) ?_
                    refine va_get (D := (dC, dI)) (ci := 12) (v := .ref h4) (C := RX12) (T := TX12) (N := 48) hx hb hts (fun _ h => List.mem_cons_of_mem _ (List.mem_append_right _ h)) hown hK hP 0 rfl rfl 38 (by decide) (hts (.fieldLink RX12 77 "LeftArgumentsModel" "room" "[I") (List.mem_cons_of_mem _ (List.mem_append_left _ (List.mem_of_getElem? (i := 31) rfl)))) (fun _ h9 => h9) rfl dX12_tryShelf_187 ?_
                    refine lv_iload hx hb dX12_tryShelf_190 (lv_at hl 0 rfl) ?_
                    refine lv_dup2_11 hx hb dX12_tryShelf_192 rfl rfl ?_
                    refine va_iald hx hb hK hP 4 3 rfl rfl (vp_in_iff.mpr ⟨by omega, by omega⟩) dX12_tryShelf_193 ?_
                    refine lv_topi (fun t88 et88 => ?_)
                    refine lv_aload_n hx hb dX12_tryShelf_194 rfl (lv_at hl 2 rfl) ?_
                    refine lv_iload_n hx hb dX12_tryShelf_195 rfl (lv_at hl 3 rfl) ?_
                    refine lv_iconst (v := 0) hx hb dX12_tryShelf_196 (by decide) ?_
                    have hPc := hP.sub (ws' := (wd_5013416a h0 v0 r0 v1 v2 v3 v4 r1 r2 r3 r4 r5 r6 r7 v5 v6 r8 r9 r10 r11 v7 h1 r12 v8 v9 h2 r13 v10 v11 r14 v12 v13 r15 v14 w15 r16 x84 x85 h3 h4 r17 r18 r19 r20 v18 r21 r22 r23 v19 h2 g1 f21)) [0, 2] rfl
                    have hDc := hD.sub (ws' := (wd_5013416a h0 v0 r0 v1 v2 v3 v4 r1 r2 r3 r4 r5 r6 r7 v5 v6 r8 r9 r10 r11 v7 h1 r12 v8 v9 h2 r13 v10 v11 r14 v12 v13 r15 v14 w15 r16 x84 x85 h3 h4 r17 r18 r19 r20 v18 r21 r22 r23 v19 h2 g1 f21)) [0, 2] (by decide) rfl
                    have hKc := hK.sub (tys' := [(g1, .int)]) [1] rfl
                    have hFc := va_free (wc := (wd_5013416a h0 v0 r0 v1 v2 v3 v4 r1 r2 r3 r4 r5 r6 r7 v5 v6 r8 r9 r10 r11 v7 h1 r12 v8 v9 h2 r13 v10 v11 r14 v12 v13 r15 v14 w15 r16 x84 x85 h3 h4 r17 r18 r19 r20 v18 r21 r22 r23 v19 h2 g1 f21)) hD hS hA [0, 2] rfl
                    refine va_calli (va_runV (As := [.int 5, .int 0]) (rest := [.int t88, .int x21, .ref h4]) ⟨hx, hb, hml, hown, hts⟩ (k_X12_of_3 l dC dI h0 h2 v0 r0 v1 v2 v3 v4 r1 r2 r3 r4 r5 r6 r7 v5 v6 r8 r9 r10 r11 v7 h1 r12 v8 v9 r13 v10 v11 r14 v12 v13 r15 v14 w15 r16 x84 x85 h3 h4 r17 r18 r19 r20 v18 r21 r22 r23 v19 g1 f21 5 ⟨i_v1a, i_v1b⟩ ⟨i_v5a, i_v5b⟩ ⟨i_v6a, i_v6b⟩ ⟨i_v7a, i_v7b⟩ ⟨i_v8a, i_v8b⟩ ⟨i_v9a, i_v9b⟩ ⟨i_v10a, i_v10b⟩ ⟨i_v14a, i_v14b⟩ ⟨i_v18a, i_v18b⟩ ⟨i_v19a, i_v19b⟩ ⟨by decide, by decide⟩ ia_f21.1 H.size) (cwV 2 hts g_X12_tryShelf_3_2 rfl rfl rfl (by decide +kernel) ⟨Nat.le_of_ble_eq_true rfl, Nat.le_of_ble_eq_true rfl⟩) (pv_PV12 hPc hKc hDc (q0 := 0) rfl) rfl rfl hl.1 rfl (lv_room (Nat.le_of_ble_eq_true rfl)) dX12_tryShelf_197 ⟨Nat.le_of_ble_eq_true rfl, Nat.le_of_ble_eq_true rfl⟩) hS (fun q _ h => hFc q h) hFc (fun ra89 u t H1 locs ht hvm hwra89 hB hz1 hk1 hS => ?_)
                    try rw [hwra89] at hB
                    have hkra89_0 : ((5 : Int32)).toInt = 5 := by decide
                    obtain ⟨pt0_ra89, pt1_ra89, pt2_ra89, hP1, hK1, hD1⟩ := hB
                    rw [ht] at hP1
                    obtain ⟨hP2, hD2⟩ := va_join (wr := (wd_20b67a68 h1 g0 f20 h3 g2 fn86 h4 g3 fn87)) (w1 := (wd_5013416a h0 v0 r0 v1 v2 v3 v4 r1 r2 r3 r4 r5 r6 r7 v5 v6 r8 r9 r10 r11 v7 h1 r12 v8 v9 h2 r13 v10 v11 r14 v12 v13 r15 v14 w15 r16 x84 x85 h3 h4 r17 r18 r19 r20 v18 r21 r22 r23 v19 h2 g1 f21)) hP hD [0, 2] [1, 3, 4] rfl rfl (by decide) (by decide) hk1 hFc hP1 hD1
                    clear hP hD hPc hDc hKc hFc hP1 hK1 hD1 hk1 hz1
                    generalize H1 = H at hP2 hS ⊢
                    have hP := hP2.sub (ws' := (wd_90cd99f9 h0 v0 r0 v1 v2 v3 v4 r1 r2 r3 r4 r5 r6 r7 v5 v6 r8 r9 r10 r11 v7 h1 r12 v8 v9 h2 r13 v10 v11 r14 v12 v13 r15 v14 w15 r16 x84 x85 h3 h4 r17 r18 r19 r20 v18 r21 r22 r23 v19 h1 g0 f20 h2 g1 f21 h3 g2 fn86 h4 g3 fn87)) [3, 0, 4, 1, 2] rfl
                    have hD := hD2.sub (ws' := (wd_90cd99f9 h0 v0 r0 v1 v2 v3 v4 r1 r2 r3 r4 r5 r6 r7 v5 v6 r8 r9 r10 r11 v7 h1 r12 v8 v9 h2 r13 v10 v11 r14 v12 v13 r15 v14 w15 r16 x84 x85 h3 h4 r17 r18 r19 r20 v18 r21 r22 r23 v19 h1 g0 f20 h2 g1 f21 h3 g2 fn86 h4 g3 fn87)) [3, 0, 4, 1, 2] (by decide) rfl
                    clear hP2 hD2
                    refine lv_isub hx hb dX12_tryShelf_200 ?_
                    refine lv_topi (fun t90 et90 => ?_)
                    refine va_iast hx hb hK hP hD hS 4 3 rfl rfl (vp_in_iff.mpr ⟨by omega, by omega⟩) dX12_tryShelf_201 (fun H locs hP hD hS => ?_)
                    obtain ⟨fn91, efn91⟩ : ∃ g : Nat → Int32, g = upd fn87 (Int32.toNatClampNeg x21) t90 := ⟨_, rfl⟩
                    rw [← efn91] at hP hD
                    have hP : va_P (dC, dI) vwCl (wd_90cd99f9 h0 v0 r0 v1 v2 v3 v4 r1 r2 r3 r4 r5 r6 r7 v5 v6 r8 r9 r10 r11 v7 h1 r12 v8 v9 h2 r13 v10 v11 r14 v12 v13 r15 v14 w15 r16 x84 x85 h3 h4 r17 r18 r19 r20 v18 r21 r22 r23 v19 h1 g0 f20 h2 g1 f21 h3 g2 fn86 h4 g3 fn91) H := hP
                    have hD : va_D A (wd_90cd99f9 h0 v0 r0 v1 v2 v3 v4 r1 r2 r3 r4 r5 r6 r7 v5 v6 r8 r9 r10 r11 v7 h1 r12 v8 v9 h2 r13 v10 v11 r14 v12 v13 r15 v14 w15 r16 x84 x85 h3 h4 r17 r18 r19 r20 v18 r21 r22 r23 v19 h1 g0 f20 h2 g1 f21 h3 g2 fn86 h4 g3 fn91) := hD
                    exact hJ37 x84 x85 fn86 fn91 H locs ls hP hD hS (lv_sub hl [0, 1, 2, 3, 4, 5, 6] rfl)
                  refine lv_icmp_ne (tgt := 179) hx hb dX12_tryShelf_172 (by decide) (fun c92 => ?_) (fun c92 => ?_)
                  · skip
                    have fc92 : ¬ (t78.toInt = ra79.toInt) := fun h9 => c92 (Int32.toInt_inj.mp h9)
                    have r1c92 := Int32.toInt_lt t78
                    have r2c92 := Int32.toInt_lt ra79
                    have r3c92 := Int32.le_toInt t78
                    have r4c92 := Int32.le_toInt ra79
                    refine lv_iconst (v := 0) hx hb dX12_tryShelf_179 (by decide) ?_
                    exact hJ81 0 H locs ls (by decide) (by decide) hP hD hS (lv_sub hl [0, 1, 2, 3, 4, 5, 6] rfl)
                  · skip
                    have fc92 : t78.toInt = ra79.toInt := congrArg Int32.toInt c92
                    have r1c92 := Int32.toInt_lt t78
                    have r2c92 := Int32.toInt_lt ra79
                    have r3c92 := Int32.le_toInt t78
                    have r4c92 := Int32.le_toInt ra79
                    refine lv_iconst (v := 1) hx hb dX12_tryShelf_175 (by decide) ?_
                    refine lv_goto (tgt := 180) hx hb dX12_tryShelf_176 (by decide) ?_
                    exact hJ81 1 H locs ls (by decide) (by decide) hP hD hS (lv_sub hl [0, 1, 2, 3, 4, 5, 6] rfl)
        exact hL31 _ 0 v16 v17 f22 f23 H locs ls (by decide) (by decide) (Nat.lt_succ_self _) hP hD hS (lv_sub hl [0, 1, 2, 3, 4, 5, 6] rfl)
      refine lv_if_eq (tgt := 68) hx hb dX12_tryShelf_56 (by decide) (fun c93 => ?_) (fun c93 => ?_)
      · skip
        have fc93 : v26.toInt = 0 := congrArg Int32.toInt c93
        refine lv_bipush (v := 8) hx hb dX12_tryShelf_68 (by decide) ?_
        exact hJ5 8 H locs ls (by decide) (by decide) hP hD hS (lv_sub hl [0, 1, 2, 3, 4] rfl)
      · skip
        have fc93 : ¬ (v26.toInt = 0) := fun h9 => c93 (Int32.toInt_inj.mp h9)
        refine lv_aload_n hx hb dX12_tryShelf_59 rfl (lv_at hl 0 rfl) ?_
        refine va_get (D := (dC, dI)) (ci := 12) (v := .ref h1) (C := RX12) (T := TX12) (N := 48) hx hb hts (fun _ h => List.mem_cons_of_mem _ (List.mem_append_right _ h)) hown hK hP 0 rfl rfl 20 (by decide) (hts (.fieldLink RX12 46 "LeftArgumentsModel" "rule" "[I") (List.mem_cons_of_mem _ (List.mem_append_left _ (List.mem_of_getElem? (i := 37) rfl)))) (fun _ h9 => h9) rfl dX12_tryShelf_60 ?_
        refine lv_iconst (v := 1) hx hb dX12_tryShelf_63 (by decide) ?_
        refine va_iald hx hb hK hP 1 0 rfl rfl (pv_c (x := 1) (n := 4) (by decide)) dX12_tryShelf_64 ?_
        refine lv_topi (fun t94 et94 => ?_)
        have gat94 : 0 ≤ t94.toInt ∧ t94.toInt ≤ 5 := by rw [et94]; exact ia_f20.1
        refine lv_goto (tgt := 70) hx hb dX12_tryShelf_65 (by decide) ?_
        exact hJ5 t94 H locs ls (by first | omega | decide) (by first | omega | decide) hP hD hS (lv_sub hl [0, 1, 2, 3, 4] rfl)
    · skip
      have fc3 : ra2.toInt = 0 := congrArg Int32.toInt c3
      have q0wra2 := wra2 (by omega)
      refine lv_aload_n hx hb dX12_tryShelf_42 rfl (lv_at hl 0 rfl) ?_
      refine lv_iload_n hx hb dX12_tryShelf_43 rfl (lv_at hl 1 rfl) ?_
      refine lv_iconst (v := 1) hx hb dX12_tryShelf_44 (by decide) ?_
      refine lv_iadd hx hb dX12_tryShelf_45 ?_
      refine lv_topi (fun tv95 etv95 => ?_)
      obtain rfl : tv95 = (6 : Int32) := etv95.trans (by first | rfl | decide)
      refine lv_iload_n hx hb dX12_tryShelf_46 rfl (lv_at hl 2 rfl) ?_
      refine lv_iload_n hx hb dX12_tryShelf_47 rfl (lv_at hl 3 rfl) ?_
      refine lv_iload hx hb dX12_tryShelf_48 (lv_at hl 4 rfl) ?_
      have hPc := hP.sub (ws' := (wd_90cd99f9 h0 v0 r0 v1 v2 v3 v4 r1 r2 r3 r4 r5 r6 r7 v5 v6 r8 r9 r10 r11 v7 h1 r12 v8 v9 h2 r13 v10 v11 r14 v12 v13 r15 v14 w15 r16 v16 v17 h3 h4 r17 r18 r19 r20 v18 r21 r22 r23 v19 h1 g0 f20 h2 g1 f21 h3 g2 f22 h4 g3 f23)) [0, 1, 2, 3, 4] rfl
      have hDc := hD.sub (ws' := (wd_90cd99f9 h0 v0 r0 v1 v2 v3 v4 r1 r2 r3 r4 r5 r6 r7 v5 v6 r8 r9 r10 r11 v7 h1 r12 v8 v9 h2 r13 v10 v11 r14 v12 v13 r15 v14 w15 r16 v16 v17 h3 h4 r17 r18 r19 r20 v18 r21 r22 r23 v19 h1 g0 f20 h2 g1 f21 h3 g2 f22 h4 g3 f23)) [0, 1, 2, 3, 4] (by decide) rfl
      have hKc := hK.sub (tys' := [(g0, .int), (g1, .int), (g2, .int), (g3, .int)]) [0, 1, 2, 3] rfl
      have hFc := va_free (wc := (wd_90cd99f9 h0 v0 r0 v1 v2 v3 v4 r1 r2 r3 r4 r5 r6 r7 v5 v6 r8 r9 r10 r11 v7 h1 r12 v8 v9 h2 r13 v10 v11 r14 v12 v13 r15 v14 w15 r16 v16 v17 h3 h4 r17 r18 r19 r20 v18 r21 r22 r23 v19 h1 g0 f20 h2 g1 f21 h3 g2 f22 h4 g3 f23)) hD hS hA [0, 1, 2, 3, 4] rfl
      refine va_callv (va_runV (As := [.int 6, .int v24, .int v25, .int v26]) (rest := []) ⟨hx, hb, hml, hown, hts⟩ (k_X12_tryShelf_2 l dC dI h0 h1 h2 h3 h4 v0 r0 v1 v2 v3 v4 r1 r2 r3 r4 r5 r6 r7 v5 v6 r8 r9 r10 r11 v7 r12 v8 v9 r13 v10 v11 r14 v12 v13 r15 v14 w15 r16 v16 v17 r17 r18 r19 r20 v18 r21 r22 r23 v19 g0 f20 g1 f21 g2 f22 g3 f23 v24 v25 v26 ⟨i_v1a, i_v1b⟩ ⟨i_v5a, i_v5b⟩ ⟨i_v6a, i_v6b⟩ ⟨i_v7a, i_v7b⟩ ⟨i_v8a, i_v8b⟩ ⟨i_v9a, i_v9b⟩ ⟨i_v10a, i_v10b⟩ ⟨i_v14a, i_v14b⟩ ⟨i_v18a, i_v18b⟩ ⟨i_v19a, i_v19b⟩ ⟨i_v26a, i_v26b⟩ ia_f20 ia_f21 H.size) (cwV 4 hts g_X12_tryShelf_3_4 rfl rfl rfl (by decide +kernel) ⟨Nat.le_of_ble_eq_true rfl, Nat.le_of_ble_eq_true rfl⟩) (pv_PV12 hPc hKc hDc (q0 := 0) rfl) rfl rfl hl.1 rfl (lv_room (Nat.le_of_ble_eq_true rfl)) dX12_tryShelf_50 ⟨Nat.le_of_ble_eq_true rfl, Nat.le_of_ble_eq_true rfl⟩) hS (fun q _ h => hFc q h) hFc (fun u t H1 locs ht hvm hwra96 hB hz1 hk1 hS => ?_)
      obtain ⟨x97, x98, fn99, fn100, hP1, hK1, hD1⟩ := hB
      rw [ht] at hP1
      obtain ⟨hP2, hD2⟩ := va_join (wr := []) (w1 := (wd_90cd99f9 h0 v0 r0 v1 v2 v3 v4 r1 r2 r3 r4 r5 r6 r7 v5 v6 r8 r9 r10 r11 v7 h1 r12 v8 v9 h2 r13 v10 v11 r14 v12 v13 r15 v14 w15 r16 x97 x98 h3 h4 r17 r18 r19 r20 v18 r21 r22 r23 v19 h1 g0 f20 h2 g1 f21 h3 g2 fn99 h4 g3 fn100)) hP hD [0, 1, 2, 3, 4] [] rfl rfl (by decide) (by decide) hk1 hFc hP1 hD1
      clear hP hD hPc hDc hKc hFc hP1 hK1 hD1 hk1 hz1
      generalize H1 = H at hP2 hS ⊢
      have hP : va_P (dC, dI) vwCl (wd_90cd99f9 h0 v0 r0 v1 v2 v3 v4 r1 r2 r3 r4 r5 r6 r7 v5 v6 r8 r9 r10 r11 v7 h1 r12 v8 v9 h2 r13 v10 v11 r14 v12 v13 r15 v14 w15 r16 x97 x98 h3 h4 r17 r18 r19 r20 v18 r21 r22 r23 v19 h1 g0 f20 h2 g1 f21 h3 g2 fn99 h4 g3 fn100) H := hP2
      have hD : va_D A (wd_90cd99f9 h0 v0 r0 v1 v2 v3 v4 r1 r2 r3 r4 r5 r6 r7 v5 v6 r8 r9 r10 r11 v7 h1 r12 v8 v9 h2 r13 v10 v11 r14 v12 v13 r15 v14 w15 r16 x97 x98 h3 h4 r17 r18 r19 r20 v18 r21 r22 r23 v19 h1 g0 f20 h2 g1 f21 h3 g2 fn99 h4 g3 fn100) := hD2
      clear hP2 hD2
      subst hQ
      have hP9 := hP.sub (ws' := (wd_90cd99f9 h0 v0 r0 v1 v2 v3 v4 r1 r2 r3 r4 r5 r6 r7 v5 v6 r8 r9 r10 r11 v7 h1 r12 v8 v9 h2 r13 v10 v11 r14 v12 v13 r15 v14 w15 r16 x97 x98 h3 h4 r17 r18 r19 r20 v18 r21 r22 r23 v19 h1 g0 f20 h2 g1 f21 h3 g2 fn99 h4 g3 fn100)) [0, 1, 2, 3, 4] rfl
      have hD9 := hD.sub (ws' := (wd_90cd99f9 h0 v0 r0 v1 v2 v3 v4 r1 r2 r3 r4 r5 r6 r7 v5 v6 r8 r9 r10 r11 v7 h1 r12 v8 v9 h2 r13 v10 v11 r14 v12 v13 r15 v14 w15 r16 x97 x98 h3 h4 r17 r18 r19 r20 v18 r21 r22 r23 v19 h1 g0 f20 h2 g1 f21 h3 g2 fn99 h4 g3 fn100)) [0, 1, 2, 3, 4] (by decide) rfl
      have hK9 := hK.sub (tys' := []) [] rfl
      exact W.vret hx hb hr (fun t ht hW => ⟨⟨(), rfl, trivial, ⟨x97, x98, fn99, fn100, by rw [ht]; exact hP9, va_K.moved hW.alike hK9, hD9⟩⟩, hS.F ht⟩) hS.2.2 dX12_tryShelf_53
  · skip
    have fc1 : ¬ (v16.toInt = (-1)) := fun h9 => c1 (Int32.toInt_inj.mp h9)
    refine lv_iload_n hx hb dX12_tryShelf_8 rfl (lv_at hl 3 rfl) ?_
    refine lv_aload_n hx hb dX12_tryShelf_9 rfl (lv_at hl 0 rfl) ?_
    refine va_get (D := (dC, dI)) (ci := 12) (v := .int v17) (C := RX12) (T := TX12) (N := 48) hx hb hts (fun _ h => List.mem_cons_of_mem _ (List.mem_append_right _ h)) hown hK hP 0 rfl rfl 36 (by decide) (hts (.fieldLink RX12 391 "LeftArgumentsModel" "bestMany" "I") (List.mem_cons_of_mem _ (List.mem_append_left _ (List.mem_of_getElem? (i := 33) rfl)))) (fun _ h9 => h9) rfl dX12_tryShelf_10 ?_
    refine lv_icmp_lt (tgt := 17) hx hb dX12_tryShelf_13 (by decide) (fun c101 => ?_) (fun c101 => ?_)
    · skip
      have fc101 : v25.toInt < v17.toInt := Int32.lt_iff_toInt_lt.mp c101
      have r1c101 := Int32.toInt_lt v25
      have r2c101 := Int32.toInt_lt v17
      have r3c101 := Int32.le_toInt v25
      have r4c101 := Int32.le_toInt v17
      refine lv_iload_n hx hb dX12_tryShelf_17 rfl (lv_at hl 1 rfl) ?_
      refine lv_bipush (v := 8) hx hb dX12_tryShelf_18 (by decide) ?_
      refine lv_icmp_ne (tgt := 34) hx hb dX12_tryShelf_20 (by decide) (fun _ => ?_) (fun c => absurd c (by decide))
      refine lv_aload_n hx hb dX12_tryShelf_34 rfl (lv_at hl 0 rfl) ?_
      refine lv_iload_n hx hb dX12_tryShelf_35 rfl (lv_at hl 1 rfl) ?_
      have hPc := hP.sub (ws' := (wd_5013416a h0 v0 r0 v1 v2 v3 v4 r1 r2 r3 r4 r5 r6 r7 v5 v6 r8 r9 r10 r11 v7 h1 r12 v8 v9 h2 r13 v10 v11 r14 v12 v13 r15 v14 w15 r16 v16 v17 h3 h4 r17 r18 r19 r20 v18 r21 r22 r23 v19 h2 g1 f21)) [0, 2] rfl
      have hDc := hD.sub (ws' := (wd_5013416a h0 v0 r0 v1 v2 v3 v4 r1 r2 r3 r4 r5 r6 r7 v5 v6 r8 r9 r10 r11 v7 h1 r12 v8 v9 h2 r13 v10 v11 r14 v12 v13 r15 v14 w15 r16 v16 v17 h3 h4 r17 r18 r19 r20 v18 r21 r22 r23 v19 h2 g1 f21)) [0, 2] (by decide) rfl
      have hKc := hK.sub (tys' := [(g1, .int)]) [1] rfl
      have hFc := va_free (wc := (wd_5013416a h0 v0 r0 v1 v2 v3 v4 r1 r2 r3 r4 r5 r6 r7 v5 v6 r8 r9 r10 r11 v7 h1 r12 v8 v9 h2 r13 v10 v11 r14 v12 v13 r15 v14 w15 r16 v16 v17 h3 h4 r17 r18 r19 r20 v18 r21 r22 r23 v19 h2 g1 f21)) hD hS hA [0, 2] rfl
      refine va_calli (va_runV (As := [.int 5]) (rest := []) ⟨hx, hb, hml, hown, hts⟩ (k_X12_isThere l dC dI h0 h2 v0 r0 v1 v2 v3 v4 r1 r2 r3 r4 r5 r6 r7 v5 v6 r8 r9 r10 r11 v7 h1 r12 v8 v9 r13 v10 v11 r14 v12 v13 r15 v14 w15 r16 v16 v17 h3 h4 r17 r18 r19 r20 v18 r21 r22 r23 v19 g1 f21 5 ⟨i_v1a, i_v1b⟩ ⟨i_v5a, i_v5b⟩ ⟨i_v6a, i_v6b⟩ ⟨i_v7a, i_v7b⟩ ⟨i_v8a, i_v8b⟩ ⟨i_v9a, i_v9b⟩ ⟨i_v10a, i_v10b⟩ ⟨i_v14a, i_v14b⟩ ⟨i_v18a, i_v18b⟩ ⟨i_v19a, i_v19b⟩ ia_f21.1 H.size) (cwV 1 hts g_X12_tryShelf_3_0 rfl rfl rfl (by decide +kernel) ⟨Nat.le_of_ble_eq_true rfl, Nat.le_of_ble_eq_true rfl⟩) (pv_PV12 hPc hKc hDc (q0 := 0) rfl) rfl rfl hl.1 rfl (lv_room (Nat.le_of_ble_eq_true rfl)) dX12_tryShelf_36 ⟨Nat.le_of_ble_eq_true rfl, Nat.le_of_ble_eq_true rfl⟩) hS (fun q _ h => hFc q h) hFc (fun ra102 u t H1 locs ht hvm hwra102 hB hz1 hk1 hS => ?_)
      try rw [hwra102] at hB
      have hkra102_0 : ((5 : Int32)).toInt = 5 := by decide
      obtain ⟨pt0_ra102, pt1_ra102, pt2_ra102, pt3_ra102, pt4_ra102, pt5_ra102, hP1, hK1, hD1⟩ := hB
      rw [ht] at hP1
      obtain ⟨hP2, hD2⟩ := va_join (wr := (wd_20b67a68 h1 g0 f20 h3 g2 f22 h4 g3 f23)) (w1 := (wd_5013416a h0 v0 r0 v1 v2 v3 v4 r1 r2 r3 r4 r5 r6 r7 v5 v6 r8 r9 r10 r11 v7 h1 r12 v8 v9 h2 r13 v10 v11 r14 v12 v13 r15 v14 w15 r16 v16 v17 h3 h4 r17 r18 r19 r20 v18 r21 r22 r23 v19 h2 g1 f21)) hP hD [0, 2] [1, 3, 4] rfl rfl (by decide) (by decide) hk1 hFc hP1 hD1
      clear hP hD hPc hDc hKc hFc hP1 hK1 hD1 hk1 hz1
      generalize H1 = H at hP2 hS ⊢
      have hP := hP2.sub (ws' := (wd_90cd99f9 h0 v0 r0 v1 v2 v3 v4 r1 r2 r3 r4 r5 r6 r7 v5 v6 r8 r9 r10 r11 v7 h1 r12 v8 v9 h2 r13 v10 v11 r14 v12 v13 r15 v14 w15 r16 v16 v17 h3 h4 r17 r18 r19 r20 v18 r21 r22 r23 v19 h1 g0 f20 h2 g1 f21 h3 g2 f22 h4 g3 f23)) [3, 0, 4, 1, 2] rfl
      have hD := hD2.sub (ws' := (wd_90cd99f9 h0 v0 r0 v1 v2 v3 v4 r1 r2 r3 r4 r5 r6 r7 v5 v6 r8 r9 r10 r11 v7 h1 r12 v8 v9 h2 r13 v10 v11 r14 v12 v13 r15 v14 w15 r16 v16 v17 h3 h4 r17 r18 r19 r20 v18 r21 r22 r23 v19 h1 g0 f20 h2 g1 f21 h3 g2 f22 h4 g3 f23)) [3, 0, 4, 1, 2] (by decide) rfl
      clear hP2 hD2
      have wra102 : ra102.toInt = 0 → ¬ f21 (pm_I 5 7) = 1 := fun h9 => pt5_ra102 h9 (by omega) (by omega)
      refine lv_if_ne (tgt := 54) hx hb dX12_tryShelf_39 (by decide) (fun c103 => ?_) (fun c103 => ?_)
      · skip
        have fc103 : ¬ (ra102.toInt = 0) := fun h9 => c103 (Int32.toInt_inj.mp h9)
        have q1pt4_ra102 := pt4_ra102 (by omega)
        refine lv_iload hx hb dX12_tryShelf_54 (lv_at hl 4 rfl) ?_
        have hJ105 : ∀ (x104 : Int32) (H : Heap) (locs : List Loc) (ls : Array Slot), 0 ≤ x104.toInt → x104.toInt ≤ 8 → va_P (dC, dI) vwCl (wd_90cd99f9 h0 v0 r0 v1 v2 v3 v4 r1 r2 r3 r4 r5 r6 r7 v5 v6 r8 r9 r10 r11 v7 h1 r12 v8 v9 h2 r13 v10 v11 r14 v12 v13 r15 v14 w15 r16 v16 v17 h3 h4 r17 r18 r19 r20 v18 r21 r22 r23 v19 h1 g0 f20 h2 g1 f21 h3 g2 f22 h4 g3 f23) H → va_D A (wd_90cd99f9 h0 v0 r0 v1 v2 v3 v4 r1 r2 r3 r4 r5 r6 r7 v5 v6 r8 r9 r10 r11 v7 h1 r12 v8 v9 h2 r13 v10 v11 r14 v12 v13 r15 v14 w15 r16 v16 v17 h3 h4 r17 r18 r19 r20 v18 r21 r22 r23 v19 h1 g0 f20 h2 g1 f21 h3 g2 f22 h4 g3 f23) → va_S A s.heap H locs → lv_has ls 7 [(0, .ref h0), (1, .int 5), (2, .int v24), (3, .int v25), (4, .int v26)] → W p l e ({ frames := 6, cells := 0, slots := 0, locals := 140 }) s m ([.ref h0, .int 5, .int v24, .int v25, .int v26] : List Value).toArray below meth c H locs 0 0 Q (F0 m 70 ls [.int x104]) := by
          intro x104 H locs ls qa_x104 qb_x104 hP hD hS hl
          refine lv_istore (lv' := [(5, .int x104), (0, .ref h0), (1, .int 5), (2, .int v24), (3, .int v25), (4, .int v26)]) hx hb dX12_tryShelf_70 hl (by decide) rfl (fun ls hl => ?_)
          refine lv_iconst (v := 0) hx hb dX12_tryShelf_72 (by decide) ?_
          refine lv_istore (lv' := [(6, .int 0), (5, .int x104), (0, .ref h0), (1, .int 5), (2, .int v24), (3, .int v25), (4, .int v26)]) hx hb dX12_tryShelf_73 hl (by decide) rfl (fun ls hl => ?_)
          have hL131 : ∀ (n9 : Nat), ∀ (x121 : Int32) (x122 : Int32) (x123 : Int32) (fn124 : Nat → Int32) (fn125 : Nat → Int32) (H : Heap) (locs : List Loc) (ls : Array Slot), 0 ≤ x121.toInt → x121.toInt ≤ 8 → (8 - x121.toInt).toNat < n9 → va_P (dC, dI) vwCl (wd_90cd99f9 h0 v0 r0 v1 v2 v3 v4 r1 r2 r3 r4 r5 r6 r7 v5 v6 r8 r9 r10 r11 v7 h1 r12 v8 v9 h2 r13 v10 v11 r14 v12 v13 r15 v14 w15 r16 x122 x123 h3 h4 r17 r18 r19 r20 v18 r21 r22 r23 v19 h1 g0 f20 h2 g1 f21 h3 g2 fn124 h4 g3 fn125) H → va_D A (wd_90cd99f9 h0 v0 r0 v1 v2 v3 v4 r1 r2 r3 r4 r5 r6 r7 v5 v6 r8 r9 r10 r11 v7 h1 r12 v8 v9 h2 r13 v10 v11 r14 v12 v13 r15 v14 w15 r16 x122 x123 h3 h4 r17 r18 r19 r20 v18 r21 r22 r23 v19 h1 g0 f20 h2 g1 f21 h3 g2 fn124 h4 g3 fn125) → va_S A s.heap H locs → lv_has ls 7 [(6, .int x121), (5, .int x104), (0, .ref h0), (1, .int 5), (2, .int v24), (3, .int v25), (4, .int v26)] → W p l e ({ frames := 6, cells := 0, slots := 0, locals := 140 }) s m ([.ref h0, .int 5, .int v24, .int v25, .int v26] : List Value).toArray below meth c H locs 0 0 Q (F0 m 75 ls []) := by
            intro n9
            induction n9 with
            | zero => intro x121 x122 x123 fn124 fn125 H locs ls qa_x121 qb_x121 hm9 hP hD hS hl; exact absurd hm9 (Nat.not_lt_zero _)
            | succ n9 ih_hL131 =>
              intro x121 x122 x123 fn124 fn125 H locs ls qa_x121 qb_x121 hm9 hP hD hS hl
              refine lv_iload hx hb dX12_tryShelf_75 (lv_at hl 0 rfl) ?_
              refine lv_iload hx hb dX12_tryShelf_77 (lv_at hl 1 rfl) ?_
              refine lv_icmp_ge (tgt := 208) hx hb dX12_tryShelf_79 (by decide) (fun c132 => ?_) (fun c132 => ?_)
              · skip
                have fc132 : x104.toInt ≤ x121.toInt := Int32.le_iff_toInt_le.mp c132
                have r1c132 := Int32.toInt_lt x121
                have r2c132 := Int32.toInt_lt x104
                have r3c132 := Int32.le_toInt x121
                have r4c132 := Int32.le_toInt x104
                subst hQ
                have hP9 := hP.sub (ws' := (wd_90cd99f9 h0 v0 r0 v1 v2 v3 v4 r1 r2 r3 r4 r5 r6 r7 v5 v6 r8 r9 r10 r11 v7 h1 r12 v8 v9 h2 r13 v10 v11 r14 v12 v13 r15 v14 w15 r16 x122 x123 h3 h4 r17 r18 r19 r20 v18 r21 r22 r23 v19 h1 g0 f20 h2 g1 f21 h3 g2 fn124 h4 g3 fn125)) [0, 1, 2, 3, 4] rfl
                have hD9 := hD.sub (ws' := (wd_90cd99f9 h0 v0 r0 v1 v2 v3 v4 r1 r2 r3 r4 r5 r6 r7 v5 v6 r8 r9 r10 r11 v7 h1 r12 v8 v9 h2 r13 v10 v11 r14 v12 v13 r15 v14 w15 r16 x122 x123 h3 h4 r17 r18 r19 r20 v18 r21 r22 r23 v19 h1 g0 f20 h2 g1 f21 h3 g2 fn124 h4 g3 fn125)) [0, 1, 2, 3, 4] (by decide) rfl
                have hK9 := hK.sub (tys' := []) [] rfl
                exact W.vret hx hb hr (fun t ht hW => ⟨⟨(), rfl, trivial, ⟨x122, x123, fn124, fn125, by rw [ht]; exact hP9, va_K.moved hW.alike hK9, hD9⟩⟩, hS.F ht⟩) hS.2.2 dX12_tryShelf_208
              · skip
                have fc132 : ¬ (x104.toInt ≤ x121.toInt) := fun h9 => c132 (Int32.le_iff_toInt_le.mpr h9)
                have r1c132 := Int32.toInt_lt x121
                have r2c132 := Int32.toInt_lt x104
                have r3c132 := Int32.le_toInt x121
                have r4c132 := Int32.le_toInt x104
                refine lv_iload hx hb dX12_tryShelf_82 (lv_at hl 6 rfl) ?_
                have hJ137 : ∀ (x133 : Int32) (x134 : Int32) (fn135 : Nat → Int32) (fn136 : Nat → Int32) (H : Heap) (locs : List Loc) (ls : Array Slot), va_P (dC, dI) vwCl (wd_90cd99f9 h0 v0 r0 v1 v2 v3 v4 r1 r2 r3 r4 r5 r6 r7 v5 v6 r8 r9 r10 r11 v7 h1 r12 v8 v9 h2 r13 v10 v11 r14 v12 v13 r15 v14 w15 r16 x133 x134 h3 h4 r17 r18 r19 r20 v18 r21 r22 r23 v19 h1 g0 f20 h2 g1 f21 h3 g2 fn135 h4 g3 fn136) H → va_D A (wd_90cd99f9 h0 v0 r0 v1 v2 v3 v4 r1 r2 r3 r4 r5 r6 r7 v5 v6 r8 r9 r10 r11 v7 h1 r12 v8 v9 h2 r13 v10 v11 r14 v12 v13 r15 v14 w15 r16 x133 x134 h3 h4 r17 r18 r19 r20 v18 r21 r22 r23 v19 h1 g0 f20 h2 g1 f21 h3 g2 fn135 h4 g3 fn136) → va_S A s.heap H locs → lv_has ls 7 [(6, .int x121), (5, .int x104), (0, .ref h0), (1, .int 5), (2, .int v24), (3, .int v25), (4, .int v26)] → W p l e ({ frames := 6, cells := 0, slots := 0, locals := 140 }) s m ([.ref h0, .int 5, .int v24, .int v25, .int v26] : List Value).toArray below meth c H locs 0 0 Q (F0 m 202 ls []) := by
                  intro x133 x134 fn135 fn136 H locs ls hP hD hS hl
                  obtain ⟨t138, et138⟩ : ∃ y : Int32, y = x121 + 1 := ⟨_, rfl⟩
                  have gt138 : t138.toInt = x121.toInt + (1) := pv_add (a := x121.toInt) (b := (1)) et138 rfl (by decide) (by omega) (by omega)
                  refine lv_iinc (v := t138) (lv' := [(6, .int t138), (5, .int x104), (0, .ref h0), (1, .int 5), (2, .int v24), (3, .int v25), (4, .int v26)]) hx hb dX12_tryShelf_202 hl (k := 0) rfl (by rw [et138]; rfl) (by decide) rfl (fun ls hl => ?_)
                  refine lv_goto (tgt := 75) hx hb dX12_tryShelf_205 (by decide) ?_
                  exact ih_hL131 t138 x133 x134 fn135 fn136 H locs ls (by first | omega | decide) (by first | omega | decide) (by first | omega | (simp only [Int.toNat] at *; omega)) hP hD hS (lv_sub hl [0, 1, 2, 3, 4, 5, 6] rfl)
                refine lv_if_eq (tgt := 113) hx hb dX12_tryShelf_84 (by decide) (fun c139 => ?_) (fun c139 => ?_)
                · skip
                  have fc139 : v26.toInt = 0 := congrArg Int32.toInt c139
                  refine lv_aload_n hx hb dX12_tryShelf_113 rfl (lv_at hl 2 rfl) ?_
                  refine lv_iload_n hx hb dX12_tryShelf_114 rfl (lv_at hl 3 rfl) ?_
                  refine lv_iload hx hb dX12_tryShelf_115 (lv_at hl 0 rfl) ?_
                  have hPc := hP.sub (ws' := (wd_f4deda84 h0 v0 r0 v1 v2 v3 v4 r1 r2 r3 r4 r5 r6 r7 v5 v6 r8 r9 r10 r11 v7 h1 r12 v8 v9 h2 r13 v10 v11 r14 v12 v13 r15 v14 w15 r16 x122 x123 h3 h4 r17 r18 r19 r20 v18 r21 r22 r23 v19 h2 g1 f21 h3 g2 fn124)) [0, 2, 3] rfl
                  have hDc := hD.sub (ws' := (wd_f4deda84 h0 v0 r0 v1 v2 v3 v4 r1 r2 r3 r4 r5 r6 r7 v5 v6 r8 r9 r10 r11 v7 h1 r12 v8 v9 h2 r13 v10 v11 r14 v12 v13 r15 v14 w15 r16 x122 x123 h3 h4 r17 r18 r19 r20 v18 r21 r22 r23 v19 h2 g1 f21 h3 g2 fn124)) [0, 2, 3] (by decide) rfl
                  have hKc := hK.sub (tys' := [(g1, .int), (g2, .int)]) [1, 2] rfl
                  have hFc := va_free (wc := (wd_f4deda84 h0 v0 r0 v1 v2 v3 v4 r1 r2 r3 r4 r5 r6 r7 v5 v6 r8 r9 r10 r11 v7 h1 r12 v8 v9 h2 r13 v10 v11 r14 v12 v13 r15 v14 w15 r16 x122 x123 h3 h4 r17 r18 r19 r20 v18 r21 r22 r23 v19 h2 g1 f21 h3 g2 fn124)) hD hS hA [0, 2, 3] rfl
                  refine va_calli (va_runV (As := [.int 5, .int x121]) (rest := []) ⟨hx, hb, hml, hown, hts⟩ (k_X12_isCalm l dC dI h0 h2 h3 v0 r0 v1 v2 v3 v4 r1 r2 r3 r4 r5 r6 r7 v5 v6 r8 r9 r10 r11 v7 h1 r12 v8 v9 r13 v10 v11 r14 v12 v13 r15 v14 w15 r16 x122 x123 h4 r17 r18 r19 r20 v18 r21 r22 r23 v19 g1 f21 g2 fn124 5 x121 ⟨i_v1a, i_v1b⟩ ⟨i_v5a, i_v5b⟩ ⟨i_v6a, i_v6b⟩ ⟨i_v7a, i_v7b⟩ ⟨i_v8a, i_v8b⟩ ⟨i_v9a, i_v9b⟩ ⟨i_v10a, i_v10b⟩ ⟨i_v14a, i_v14b⟩ ⟨i_v18a, i_v18b⟩ ⟨i_v19a, i_v19b⟩ ⟨by decide, by decide⟩ ia_f21 H.size) (cwV 2 hts g_X12_tryShelf_3_1 rfl rfl rfl (by decide +kernel) ⟨Nat.le_of_ble_eq_true rfl, Nat.le_of_ble_eq_true rfl⟩) (pv_PV12 hPc hKc hDc (q0 := 0) rfl) rfl rfl hl.1 rfl (lv_room (Nat.le_of_ble_eq_true rfl)) dX12_tryShelf_117 ⟨Nat.le_of_ble_eq_true rfl, Nat.le_of_ble_eq_true rfl⟩) hS (fun q _ h => hFc q h) hFc (fun ra140 u t H1 locs ht hvm hwra140 hB hz1 hk1 hS => ?_)
                  try rw [hwra140] at hB
                  have hkra140_0 : ((5 : Int32)).toInt = 5 := by decide
                  obtain ⟨pt0_ra140, pt1_ra140, hP1, hK1, hD1⟩ := hB
                  rw [ht] at hP1
                  obtain ⟨hP2, hD2⟩ := va_join (wr := (wd_5481fbec h1 g0 f20 h4 g3 fn125)) (w1 := (wd_f4deda84 h0 v0 r0 v1 v2 v3 v4 r1 r2 r3 r4 r5 r6 r7 v5 v6 r8 r9 r10 r11 v7 h1 r12 v8 v9 h2 r13 v10 v11 r14 v12 v13 r15 v14 w15 r16 x122 x123 h3 h4 r17 r18 r19 r20 v18 r21 r22 r23 v19 h2 g1 f21 h3 g2 fn124)) hP hD [0, 2, 3] [1, 4] rfl rfl (by decide) (by decide) hk1 hFc hP1 hD1
                  clear hP hD hPc hDc hKc hFc hP1 hK1 hD1 hk1 hz1
                  generalize H1 = H at hP2 hS ⊢
                  have hP := hP2.sub (ws' := (wd_90cd99f9 h0 v0 r0 v1 v2 v3 v4 r1 r2 r3 r4 r5 r6 r7 v5 v6 r8 r9 r10 r11 v7 h1 r12 v8 v9 h2 r13 v10 v11 r14 v12 v13 r15 v14 w15 r16 x122 x123 h3 h4 r17 r18 r19 r20 v18 r21 r22 r23 v19 h1 g0 f20 h2 g1 f21 h3 g2 fn124 h4 g3 fn125)) [2, 0, 3, 4, 1] rfl
                  have hD := hD2.sub (ws' := (wd_90cd99f9 h0 v0 r0 v1 v2 v3 v4 r1 r2 r3 r4 r5 r6 r7 v5 v6 r8 r9 r10 r11 v7 h1 r12 v8 v9 h2 r13 v10 v11 r14 v12 v13 r15 v14 w15 r16 x122 x123 h3 h4 r17 r18 r19 r20 v18 r21 r22 r23 v19 h1 g0 f20 h2 g1 f21 h3 g2 fn124 h4 g3 fn125)) [2, 0, 3, 4, 1] (by decide) rfl
                  clear hP2 hD2
                  refine lv_if_eq (tgt := 202) hx hb dX12_tryShelf_120 (by decide) (fun c141 => ?_) (fun c141 => ?_)
                  · skip
                    have fc141 : ra140.toInt = 0 := congrArg Int32.toInt c141
                    exact hJ137 x122 x123 fn124 fn125 H locs ls hP hD hS (lv_sub hl [0, 1, 2, 3, 4, 5, 6] rfl)
                  · skip
                    have fc141 : ¬ (ra140.toInt = 0) := fun h9 => c141 (Int32.toInt_inj.mp h9)
                    refine lv_aload_n hx hb dX12_tryShelf_123 rfl (lv_at hl 2 rfl) ?_
                    refine va_get (D := (dC, dI)) (ci := 12) (v := .ref h4) (C := RX12) (T := TX12) (N := 48) hx hb hts (fun _ h => List.mem_cons_of_mem _ (List.mem_append_right _ h)) hown hK hP 0 rfl rfl 38 (by decide) (hts (.fieldLink RX12 77 "LeftArgumentsModel" "room" "[I") (List.mem_cons_of_mem _ (List.mem_append_left _ (List.mem_of_getElem? (i := 31) rfl)))) (fun _ h9 => h9) rfl dX12_tryShelf_124 ?_
                    refine lv_iload hx hb dX12_tryShelf_127 (lv_at hl 0 rfl) ?_
                    refine lv_dup2_11 hx hb dX12_tryShelf_129 rfl rfl ?_
                    refine va_iald hx hb hK hP 4 3 rfl rfl (vp_in_iff.mpr ⟨by omega, by omega⟩) dX12_tryShelf_130 ?_
                    refine lv_topi (fun t142 et142 => ?_)
                    refine lv_aload_n hx hb dX12_tryShelf_131 rfl (lv_at hl 2 rfl) ?_
                    refine lv_iload_n hx hb dX12_tryShelf_132 rfl (lv_at hl 3 rfl) ?_
                    refine lv_iconst (v := 0) hx hb dX12_tryShelf_133 (by decide) ?_
                    have hPc := hP.sub (ws' := (wd_5013416a h0 v0 r0 v1 v2 v3 v4 r1 r2 r3 r4 r5 r6 r7 v5 v6 r8 r9 r10 r11 v7 h1 r12 v8 v9 h2 r13 v10 v11 r14 v12 v13 r15 v14 w15 r16 x122 x123 h3 h4 r17 r18 r19 r20 v18 r21 r22 r23 v19 h2 g1 f21)) [0, 2] rfl
                    have hDc := hD.sub (ws' := (wd_5013416a h0 v0 r0 v1 v2 v3 v4 r1 r2 r3 r4 r5 r6 r7 v5 v6 r8 r9 r10 r11 v7 h1 r12 v8 v9 h2 r13 v10 v11 r14 v12 v13 r15 v14 w15 r16 x122 x123 h3 h4 r17 r18 r19 r20 v18 r21 r22 r23 v19 h2 g1 f21)) [0, 2] (by decide) rfl
                    have hKc := hK.sub (tys' := [(g1, .int)]) [1] rfl
                    have hFc := va_free (wc := (wd_5013416a h0 v0 r0 v1 v2 v3 v4 r1 r2 r3 r4 r5 r6 r7 v5 v6 r8 r9 r10 r11 v7 h1 r12 v8 v9 h2 r13 v10 v11 r14 v12 v13 r15 v14 w15 r16 x122 x123 h3 h4 r17 r18 r19 r20 v18 r21 r22 r23 v19 h2 g1 f21)) hD hS hA [0, 2] rfl
                    refine va_calli (va_runV (As := [.int 5, .int 0]) (rest := [.int t142, .int x121, .ref h4]) ⟨hx, hb, hml, hown, hts⟩ (k_X12_of_3 l dC dI h0 h2 v0 r0 v1 v2 v3 v4 r1 r2 r3 r4 r5 r6 r7 v5 v6 r8 r9 r10 r11 v7 h1 r12 v8 v9 r13 v10 v11 r14 v12 v13 r15 v14 w15 r16 x122 x123 h3 h4 r17 r18 r19 r20 v18 r21 r22 r23 v19 g1 f21 5 ⟨i_v1a, i_v1b⟩ ⟨i_v5a, i_v5b⟩ ⟨i_v6a, i_v6b⟩ ⟨i_v7a, i_v7b⟩ ⟨i_v8a, i_v8b⟩ ⟨i_v9a, i_v9b⟩ ⟨i_v10a, i_v10b⟩ ⟨i_v14a, i_v14b⟩ ⟨i_v18a, i_v18b⟩ ⟨i_v19a, i_v19b⟩ ⟨by decide, by decide⟩ ia_f21.1 H.size) (cwV 2 hts g_X12_tryShelf_3_2 rfl rfl rfl (by decide +kernel) ⟨Nat.le_of_ble_eq_true rfl, Nat.le_of_ble_eq_true rfl⟩) (pv_PV12 hPc hKc hDc (q0 := 0) rfl) rfl rfl hl.1 rfl (lv_room (Nat.le_of_ble_eq_true rfl)) dX12_tryShelf_134 ⟨Nat.le_of_ble_eq_true rfl, Nat.le_of_ble_eq_true rfl⟩) hS (fun q _ h => hFc q h) hFc (fun ra143 u t H1 locs ht hvm hwra143 hB hz1 hk1 hS => ?_)
                    try rw [hwra143] at hB
                    have hkra143_0 : ((5 : Int32)).toInt = 5 := by decide
                    obtain ⟨pt0_ra143, pt1_ra143, pt2_ra143, hP1, hK1, hD1⟩ := hB
                    rw [ht] at hP1
                    obtain ⟨hP2, hD2⟩ := va_join (wr := (wd_20b67a68 h1 g0 f20 h3 g2 fn124 h4 g3 fn125)) (w1 := (wd_5013416a h0 v0 r0 v1 v2 v3 v4 r1 r2 r3 r4 r5 r6 r7 v5 v6 r8 r9 r10 r11 v7 h1 r12 v8 v9 h2 r13 v10 v11 r14 v12 v13 r15 v14 w15 r16 x122 x123 h3 h4 r17 r18 r19 r20 v18 r21 r22 r23 v19 h2 g1 f21)) hP hD [0, 2] [1, 3, 4] rfl rfl (by decide) (by decide) hk1 hFc hP1 hD1
                    clear hP hD hPc hDc hKc hFc hP1 hK1 hD1 hk1 hz1
                    generalize H1 = H at hP2 hS ⊢
                    have hP := hP2.sub (ws' := (wd_90cd99f9 h0 v0 r0 v1 v2 v3 v4 r1 r2 r3 r4 r5 r6 r7 v5 v6 r8 r9 r10 r11 v7 h1 r12 v8 v9 h2 r13 v10 v11 r14 v12 v13 r15 v14 w15 r16 x122 x123 h3 h4 r17 r18 r19 r20 v18 r21 r22 r23 v19 h1 g0 f20 h2 g1 f21 h3 g2 fn124 h4 g3 fn125)) [3, 0, 4, 1, 2] rfl
                    have hD := hD2.sub (ws' := (wd_90cd99f9 h0 v0 r0 v1 v2 v3 v4 r1 r2 r3 r4 r5 r6 r7 v5 v6 r8 r9 r10 r11 v7 h1 r12 v8 v9 h2 r13 v10 v11 r14 v12 v13 r15 v14 w15 r16 x122 x123 h3 h4 r17 r18 r19 r20 v18 r21 r22 r23 v19 h1 g0 f20 h2 g1 f21 h3 g2 fn124 h4 g3 fn125)) [3, 0, 4, 1, 2] (by decide) rfl
                    clear hP2 hD2
                    refine lv_iadd hx hb dX12_tryShelf_137 ?_
                    refine lv_topi (fun t144 et144 => ?_)
                    refine va_iast hx hb hK hP hD hS 4 3 rfl rfl (vp_in_iff.mpr ⟨by omega, by omega⟩) dX12_tryShelf_138 (fun H locs hP hD hS => ?_)
                    obtain ⟨fn145, efn145⟩ : ∃ g : Nat → Int32, g = upd fn125 (Int32.toNatClampNeg x121) t144 := ⟨_, rfl⟩
                    rw [← efn145] at hP hD
                    have hP : va_P (dC, dI) vwCl (wd_90cd99f9 h0 v0 r0 v1 v2 v3 v4 r1 r2 r3 r4 r5 r6 r7 v5 v6 r8 r9 r10 r11 v7 h1 r12 v8 v9 h2 r13 v10 v11 r14 v12 v13 r15 v14 w15 r16 x122 x123 h3 h4 r17 r18 r19 r20 v18 r21 r22 r23 v19 h1 g0 f20 h2 g1 f21 h3 g2 fn124 h4 g3 fn145) H := hP
                    have hD : va_D A (wd_90cd99f9 h0 v0 r0 v1 v2 v3 v4 r1 r2 r3 r4 r5 r6 r7 v5 v6 r8 r9 r10 r11 v7 h1 r12 v8 v9 h2 r13 v10 v11 r14 v12 v13 r15 v14 w15 r16 x122 x123 h3 h4 r17 r18 r19 r20 v18 r21 r22 r23 v19 h1 g0 f20 h2 g1 f21 h3 g2 fn124 h4 g3 fn145) := hD
                    refine lv_aload_n hx hb dX12_tryShelf_139 rfl (lv_at hl 2 rfl) ?_
                    refine va_get (D := (dC, dI)) (ci := 12) (v := .ref h3) (C := RX12) (T := TX12) (N := 48) hx hb hts (fun _ h => List.mem_cons_of_mem _ (List.mem_append_right _ h)) hown hK hP 0 rfl rfl 37 (by decide) (hts (.fieldLink RX12 74 "LeftArgumentsModel" "onShelf" "[I") (List.mem_cons_of_mem _ (List.mem_append_left _ (List.mem_of_getElem? (i := 15) rfl)))) (fun _ h9 => h9) rfl dX12_tryShelf_140 ?_
                    refine lv_iload_n hx hb dX12_tryShelf_143 rfl (lv_at hl 3 rfl) ?_
                    refine lv_iload hx hb dX12_tryShelf_144 (lv_at hl 0 rfl) ?_
                    refine va_iast hx hb hK hP hD hS 3 2 rfl rfl (pv_c (x := 5) (n := 8) (by decide)) dX12_tryShelf_146 (fun H locs hP hD hS => ?_)
                    obtain ⟨fn146, efn146⟩ : ∃ g : Nat → Int32, g = upd fn124 (Int32.toNatClampNeg 5) x121 := ⟨_, rfl⟩
                    rw [← efn146] at hP hD
                    have hP : va_P (dC, dI) vwCl (wd_90cd99f9 h0 v0 r0 v1 v2 v3 v4 r1 r2 r3 r4 r5 r6 r7 v5 v6 r8 r9 r10 r11 v7 h1 r12 v8 v9 h2 r13 v10 v11 r14 v12 v13 r15 v14 w15 r16 x122 x123 h3 h4 r17 r18 r19 r20 v18 r21 r22 r23 v19 h1 g0 f20 h2 g1 f21 h3 g2 fn146 h4 g3 fn145) H := hP
                    have hD : va_D A (wd_90cd99f9 h0 v0 r0 v1 v2 v3 v4 r1 r2 r3 r4 r5 r6 r7 v5 v6 r8 r9 r10 r11 v7 h1 r12 v8 v9 h2 r13 v10 v11 r14 v12 v13 r15 v14 w15 r16 x122 x123 h3 h4 r17 r18 r19 r20 v18 r21 r22 r23 v19 h1 g0 f20 h2 g1 f21 h3 g2 fn146 h4 g3 fn145) := hD
                    refine lv_aload_n hx hb dX12_tryShelf_147 rfl (lv_at hl 2 rfl) ?_
                    refine lv_iload_n hx hb dX12_tryShelf_148 rfl (lv_at hl 3 rfl) ?_
                    refine lv_iconst (v := 1) hx hb dX12_tryShelf_149 (by decide) ?_
                    refine lv_iadd hx hb dX12_tryShelf_150 ?_
                    refine lv_topi (fun tv147 etv147 => ?_)
                    obtain rfl : tv147 = (6 : Int32) := etv147.trans (by first | rfl | decide)
                    refine lv_bipush (v := 10) hx hb dX12_tryShelf_151 (by decide) ?_
                    refine lv_iload_n hx hb dX12_tryShelf_153 rfl (lv_at hl 4 rfl) ?_
                    refine lv_imul hx hb dX12_tryShelf_154 ?_
                    refine lv_topi (fun t148 et148 => ?_)
                    refine lv_iload hx hb dX12_tryShelf_155 (lv_at hl 0 rfl) ?_
                    refine lv_iadd hx hb dX12_tryShelf_157 ?_
                    refine lv_topi (fun t149 et149 => ?_)
                    refine lv_iload_n hx hb dX12_tryShelf_158 rfl (lv_at hl 5 rfl) ?_
                    refine lv_aload_n hx hb dX12_tryShelf_159 rfl (lv_at hl 2 rfl) ?_
                    refine va_get (D := (dC, dI)) (ci := 12) (v := .ref h4) (C := RX12) (T := TX12) (N := 48) hx hb hts (fun _ h => List.mem_cons_of_mem _ (List.mem_append_right _ h)) hown hK hP 0 rfl rfl 38 (by decide) (hts (.fieldLink RX12 77 "LeftArgumentsModel" "room" "[I") (List.mem_cons_of_mem _ (List.mem_append_left _ (List.mem_of_getElem? (i := 31) rfl)))) (fun _ h9 => h9) rfl dX12_tryShelf_160 ?_
                    refine lv_iload hx hb dX12_tryShelf_163 (lv_at hl 0 rfl) ?_
                    refine va_iald hx hb hK hP 4 3 rfl rfl (vp_in_iff.mpr ⟨by omega, by omega⟩) dX12_tryShelf_165 ?_
                    refine lv_topi (fun t150 et150 => ?_)
                    refine lv_aload_n hx hb dX12_tryShelf_166 rfl (lv_at hl 2 rfl) ?_
                    refine lv_iload_n hx hb dX12_tryShelf_167 rfl (lv_at hl 3 rfl) ?_
                    refine lv_iconst (v := 0) hx hb dX12_tryShelf_168 (by decide) ?_
                    have hPc := hP.sub (ws' := (wd_5013416a h0 v0 r0 v1 v2 v3 v4 r1 r2 r3 r4 r5 r6 r7 v5 v6 r8 r9 r10 r11 v7 h1 r12 v8 v9 h2 r13 v10 v11 r14 v12 v13 r15 v14 w15 r16 x122 x123 h3 h4 r17 r18 r19 r20 v18 r21 r22 r23 v19 h2 g1 f21)) [0, 2] rfl
                    have hDc := hD.sub (ws' := (wd_5013416a h0 v0 r0 v1 v2 v3 v4 r1 r2 r3 r4 r5 r6 r7 v5 v6 r8 r9 r10 r11 v7 h1 r12 v8 v9 h2 r13 v10 v11 r14 v12 v13 r15 v14 w15 r16 x122 x123 h3 h4 r17 r18 r19 r20 v18 r21 r22 r23 v19 h2 g1 f21)) [0, 2] (by decide) rfl
                    have hKc := hK.sub (tys' := [(g1, .int)]) [1] rfl
                    have hFc := va_free (wc := (wd_5013416a h0 v0 r0 v1 v2 v3 v4 r1 r2 r3 r4 r5 r6 r7 v5 v6 r8 r9 r10 r11 v7 h1 r12 v8 v9 h2 r13 v10 v11 r14 v12 v13 r15 v14 w15 r16 x122 x123 h3 h4 r17 r18 r19 r20 v18 r21 r22 r23 v19 h2 g1 f21)) hD hS hA [0, 2] rfl
                    refine va_calli (va_runV (As := [.int 5, .int 0]) (rest := [.int t150, .int v25, .int t149, .int 6, .ref h0]) ⟨hx, hb, hml, hown, hts⟩ (k_X12_of_3 l dC dI h0 h2 v0 r0 v1 v2 v3 v4 r1 r2 r3 r4 r5 r6 r7 v5 v6 r8 r9 r10 r11 v7 h1 r12 v8 v9 r13 v10 v11 r14 v12 v13 r15 v14 w15 r16 x122 x123 h3 h4 r17 r18 r19 r20 v18 r21 r22 r23 v19 g1 f21 5 ⟨i_v1a, i_v1b⟩ ⟨i_v5a, i_v5b⟩ ⟨i_v6a, i_v6b⟩ ⟨i_v7a, i_v7b⟩ ⟨i_v8a, i_v8b⟩ ⟨i_v9a, i_v9b⟩ ⟨i_v10a, i_v10b⟩ ⟨i_v14a, i_v14b⟩ ⟨i_v18a, i_v18b⟩ ⟨i_v19a, i_v19b⟩ ⟨by decide, by decide⟩ ia_f21.1 H.size) (cwV 2 hts g_X12_tryShelf_3_2 rfl rfl rfl (by decide +kernel) ⟨Nat.le_of_ble_eq_true rfl, Nat.le_of_ble_eq_true rfl⟩) (pv_PV12 hPc hKc hDc (q0 := 0) rfl) rfl rfl hl.1 rfl (lv_room (Nat.le_of_ble_eq_true rfl)) dX12_tryShelf_169 ⟨Nat.le_of_ble_eq_true rfl, Nat.le_of_ble_eq_true rfl⟩) hS (fun q _ h => hFc q h) hFc (fun ra151 u t H1 locs ht hvm hwra151 hB hz1 hk1 hS => ?_)
                    try rw [hwra151] at hB
                    have hkra151_0 : ((5 : Int32)).toInt = 5 := by decide
                    obtain ⟨pt0_ra151, pt1_ra151, pt2_ra151, hP1, hK1, hD1⟩ := hB
                    rw [ht] at hP1
                    obtain ⟨hP2, hD2⟩ := va_join (wr := (wd_20b67a68 h1 g0 f20 h3 g2 fn146 h4 g3 fn145)) (w1 := (wd_5013416a h0 v0 r0 v1 v2 v3 v4 r1 r2 r3 r4 r5 r6 r7 v5 v6 r8 r9 r10 r11 v7 h1 r12 v8 v9 h2 r13 v10 v11 r14 v12 v13 r15 v14 w15 r16 x122 x123 h3 h4 r17 r18 r19 r20 v18 r21 r22 r23 v19 h2 g1 f21)) hP hD [0, 2] [1, 3, 4] rfl rfl (by decide) (by decide) hk1 hFc hP1 hD1
                    clear hP hD hPc hDc hKc hFc hP1 hK1 hD1 hk1 hz1
                    generalize H1 = H at hP2 hS ⊢
                    have hP := hP2.sub (ws' := (wd_90cd99f9 h0 v0 r0 v1 v2 v3 v4 r1 r2 r3 r4 r5 r6 r7 v5 v6 r8 r9 r10 r11 v7 h1 r12 v8 v9 h2 r13 v10 v11 r14 v12 v13 r15 v14 w15 r16 x122 x123 h3 h4 r17 r18 r19 r20 v18 r21 r22 r23 v19 h1 g0 f20 h2 g1 f21 h3 g2 fn146 h4 g3 fn145)) [3, 0, 4, 1, 2] rfl
                    have hD := hD2.sub (ws' := (wd_90cd99f9 h0 v0 r0 v1 v2 v3 v4 r1 r2 r3 r4 r5 r6 r7 v5 v6 r8 r9 r10 r11 v7 h1 r12 v8 v9 h2 r13 v10 v11 r14 v12 v13 r15 v14 w15 r16 x122 x123 h3 h4 r17 r18 r19 r20 v18 r21 r22 r23 v19 h1 g0 f20 h2 g1 f21 h3 g2 fn146 h4 g3 fn145)) [3, 0, 4, 1, 2] (by decide) rfl
                    clear hP2 hD2
                    have hJ153 : ∀ (x152 : Int32) (H : Heap) (locs : List Loc) (ls : Array Slot), 0 ≤ x152.toInt → x152.toInt ≤ 1 → va_P (dC, dI) vwCl (wd_90cd99f9 h0 v0 r0 v1 v2 v3 v4 r1 r2 r3 r4 r5 r6 r7 v5 v6 r8 r9 r10 r11 v7 h1 r12 v8 v9 h2 r13 v10 v11 r14 v12 v13 r15 v14 w15 r16 x122 x123 h3 h4 r17 r18 r19 r20 v18 r21 r22 r23 v19 h1 g0 f20 h2 g1 f21 h3 g2 fn146 h4 g3 fn145) H → va_D A (wd_90cd99f9 h0 v0 r0 v1 v2 v3 v4 r1 r2 r3 r4 r5 r6 r7 v5 v6 r8 r9 r10 r11 v7 h1 r12 v8 v9 h2 r13 v10 v11 r14 v12 v13 r15 v14 w15 r16 x122 x123 h3 h4 r17 r18 r19 r20 v18 r21 r22 r23 v19 h1 g0 f20 h2 g1 f21 h3 g2 fn146 h4 g3 fn145) → va_S A s.heap H locs → lv_has ls 7 [(6, .int x121), (5, .int x104), (0, .ref h0), (1, .int 5), (2, .int v24), (3, .int v25), (4, .int v26)] → W p l e ({ frames := 6, cells := 0, slots := 0, locals := 140 }) s m ([.ref h0, .int 5, .int v24, .int v25, .int v26] : List Value).toArray below meth c H locs 0 0 Q (F0 m 180 ls [.int x152, .int v25, .int t149, .int 6, .ref h0]) := by
                      intro x152 H locs ls qa_x152 qb_x152 hP hD hS hl
                      refine lv_iadd hx hb dX12_tryShelf_180 ?_
                      refine lv_topi (fun t154 et154 => ?_)
                      have r5t154v25 := Int32.le_toInt v25; have r6t154v25 := Int32.toInt_lt v25
                      have gt154 : t154.toInt = v25.toInt + x152.toInt := pv_add (a := v25.toInt) (b := x152.toInt) et154 rfl rfl (by omega) (by omega)
                      refine lv_iload hx hb dX12_tryShelf_181 (lv_at hl 6 rfl) ?_
                      have hPc := hP.sub (ws' := (wd_90cd99f9 h0 v0 r0 v1 v2 v3 v4 r1 r2 r3 r4 r5 r6 r7 v5 v6 r8 r9 r10 r11 v7 h1 r12 v8 v9 h2 r13 v10 v11 r14 v12 v13 r15 v14 w15 r16 x122 x123 h3 h4 r17 r18 r19 r20 v18 r21 r22 r23 v19 h1 g0 f20 h2 g1 f21 h3 g2 fn146 h4 g3 fn145)) [0, 1, 2, 3, 4] rfl
                      have hDc := hD.sub (ws' := (wd_90cd99f9 h0 v0 r0 v1 v2 v3 v4 r1 r2 r3 r4 r5 r6 r7 v5 v6 r8 r9 r10 r11 v7 h1 r12 v8 v9 h2 r13 v10 v11 r14 v12 v13 r15 v14 w15 r16 x122 x123 h3 h4 r17 r18 r19 r20 v18 r21 r22 r23 v19 h1 g0 f20 h2 g1 f21 h3 g2 fn146 h4 g3 fn145)) [0, 1, 2, 3, 4] (by decide) rfl
                      have hKc := hK.sub (tys' := [(g0, .int), (g1, .int), (g2, .int), (g3, .int)]) [0, 1, 2, 3] rfl
                      have hFc := va_free (wc := (wd_90cd99f9 h0 v0 r0 v1 v2 v3 v4 r1 r2 r3 r4 r5 r6 r7 v5 v6 r8 r9 r10 r11 v7 h1 r12 v8 v9 h2 r13 v10 v11 r14 v12 v13 r15 v14 w15 r16 x122 x123 h3 h4 r17 r18 r19 r20 v18 r21 r22 r23 v19 h1 g0 f20 h2 g1 f21 h3 g2 fn146 h4 g3 fn145)) hD hS hA [0, 1, 2, 3, 4] rfl
                      refine va_callv (va_runV (As := [.int 6, .int t149, .int t154, .int v26]) (rest := []) ⟨hx, hb, hml, hown, hts⟩ (k_X12_tryShelf_2 l dC dI h0 h1 h2 h3 h4 v0 r0 v1 v2 v3 v4 r1 r2 r3 r4 r5 r6 r7 v5 v6 r8 r9 r10 r11 v7 r12 v8 v9 r13 v10 v11 r14 v12 v13 r15 v14 w15 r16 x122 x123 r17 r18 r19 r20 v18 r21 r22 r23 v19 g0 f20 g1 f21 g2 fn146 g3 fn145 t149 t154 v26 ⟨i_v1a, i_v1b⟩ ⟨i_v5a, i_v5b⟩ ⟨i_v6a, i_v6b⟩ ⟨i_v7a, i_v7b⟩ ⟨i_v8a, i_v8b⟩ ⟨i_v9a, i_v9b⟩ ⟨i_v10a, i_v10b⟩ ⟨i_v14a, i_v14b⟩ ⟨i_v18a, i_v18b⟩ ⟨i_v19a, i_v19b⟩ ⟨i_v26a, i_v26b⟩ ia_f20 ia_f21 H.size) (cwV 4 hts g_X12_tryShelf_3_4 rfl rfl rfl (by decide +kernel) ⟨Nat.le_of_ble_eq_true rfl, Nat.le_of_ble_eq_true rfl⟩) (pv_PV12 hPc hKc hDc (q0 := 0) rfl) rfl rfl hl.1 rfl (lv_room (Nat.le_of_ble_eq_true rfl)) dX12_tryShelf_183 ⟨Nat.le_of_ble_eq_true rfl, Nat.le_of_ble_eq_true rfl⟩) hS (fun q _ h => hFc q h) hFc (fun u t H1 locs ht hvm hwra155 hB hz1 hk1 hS => ?_)
                      obtain ⟨x156, x157, fn158, fn159, hP1, hK1, hD1⟩ := hB
                      rw [ht] at hP1
                      obtain ⟨hP2, hD2⟩ := va_join (wr := []) (w1 := (wd_90cd99f9 h0 v0 r0 v1 v2 v3 v4 r1 r2 r3 r4 r5 r6 r7 v5 v6 r8 r9 r10 r11 v7 h1 r12 v8 v9 h2 r13 v10 v11 r14 v12 v13 r15 v14 w15 r16 x156 x157 h3 h4 r17 r18 r19 r20 v18 r21 r22 r23 v19 h1 g0 f20 h2 g1 f21 h3 g2 fn158 h4 g3 fn159)) hP hD [0, 1, 2, 3, 4] [] rfl rfl (by decide) (by decide) hk1 hFc hP1 hD1
                      clear hP hD hPc hDc hKc hFc hP1 hK1 hD1 hk1 hz1
                      generalize H1 = H at hP2 hS ⊢
                      have hP : va_P (dC, dI) vwCl (wd_90cd99f9 h0 v0 r0 v1 v2 v3 v4 r1 r2 r3 r4 r5 r6 r7 v5 v6 r8 r9 r10 r11 v7 h1 r12 v8 v9 h2 r13 v10 v11 r14 v12 v13 r15 v14 w15 r16 x156 x157 h3 h4 r17 r18 r19 r20 v18 r21 r22 r23 v19 h1 g0 f20 h2 g1 f21 h3 g2 fn158 h4 g3 fn159) H := hP2
                      have hD : va_D A (wd_90cd99f9 h0 v0 r0 v1 v2 v3 v4 r1 r2 r3 r4 r5 r6 r7 v5 v6 r8 r9 r10 r11 v7 h1 r12 v8 v9 h2 r13 v10 v11 r14 v12 v13 r15 v14 w15 r16 x156 x157 h3 h4 r17 r18 r19 r20 v18 r21 r22 r23 v19 h1 g0 f20 h2 g1 f21 h3 g2 fn158 h4 g3 fn159) := hD2
                      clear hP2 hD2
                      refine lv_aload_n hx hb dX12_tryShelf_186 rfl (lv_at hl 2 rfl) ?_
                      refine va_get (D := (dC, dI)) (ci := 12) (v := .ref h4) (C := RX12) (T := TX12) (N := 48) hx hb hts (fun _ h => List.mem_cons_of_mem _ (List.mem_append_right _ h)) hown hK hP 0 rfl rfl 38 (by decide) (hts (.fieldLink RX12 77 "LeftArgumentsModel" "room" "[I") (List.mem_cons_of_mem _ (List.mem_append_left _ (List.mem_of_getElem? (i := 31) rfl)))) (fun _ h9 => h9) rfl dX12_tryShelf_187 ?_
                      refine lv_iload hx hb dX12_tryShelf_190 (lv_at hl 0 rfl) ?_
                      refine lv_dup2_11 hx hb dX12_tryShelf_192 rfl rfl ?_
                      refine va_iald hx hb hK hP 4 3 rfl rfl (vp_in_iff.mpr ⟨by omega, by omega⟩) dX12_tryShelf_193 ?_
                      refine lv_topi (fun t160 et160 => ?_)
                      refine lv_aload_n hx hb dX12_tryShelf_194 rfl (lv_at hl 2 rfl) ?_
                      refine lv_iload_n hx hb dX12_tryShelf_195 rfl (lv_at hl 3 rfl) ?_
                      refine lv_iconst (v := 0) hx hb dX12_tryShelf_196 (by decide) ?_
                      have hPc := hP.sub (ws' := (wd_5013416a h0 v0 r0 v1 v2 v3 v4 r1 r2 r3 r4 r5 r6 r7 v5 v6 r8 r9 r10 r11 v7 h1 r12 v8 v9 h2 r13 v10 v11 r14 v12 v13 r15 v14 w15 r16 x156 x157 h3 h4 r17 r18 r19 r20 v18 r21 r22 r23 v19 h2 g1 f21)) [0, 2] rfl
                      have hDc := hD.sub (ws' := (wd_5013416a h0 v0 r0 v1 v2 v3 v4 r1 r2 r3 r4 r5 r6 r7 v5 v6 r8 r9 r10 r11 v7 h1 r12 v8 v9 h2 r13 v10 v11 r14 v12 v13 r15 v14 w15 r16 x156 x157 h3 h4 r17 r18 r19 r20 v18 r21 r22 r23 v19 h2 g1 f21)) [0, 2] (by decide) rfl
                      have hKc := hK.sub (tys' := [(g1, .int)]) [1] rfl
                      have hFc := va_free (wc := (wd_5013416a h0 v0 r0 v1 v2 v3 v4 r1 r2 r3 r4 r5 r6 r7 v5 v6 r8 r9 r10 r11 v7 h1 r12 v8 v9 h2 r13 v10 v11 r14 v12 v13 r15 v14 w15 r16 x156 x157 h3 h4 r17 r18 r19 r20 v18 r21 r22 r23 v19 h2 g1 f21)) hD hS hA [0, 2] rfl
                      refine va_calli (va_runV (As := [.int 5, .int 0]) (rest := [.int t160, .int x121, .ref h4]) ⟨hx, hb, hml, hown, hts⟩ (k_X12_of_3 l dC dI h0 h2 v0 r0 v1 v2 v3 v4 r1 r2 r3 r4 r5 r6 r7 v5 v6 r8 r9 r10 r11 v7 h1 r12 v8 v9 r13 v10 v11 r14 v12 v13 r15 v14 w15 r16 x156 x157 h3 h4 r17 r18 r19 r20 v18 r21 r22 r23 v19 g1 f21 5 ⟨i_v1a, i_v1b⟩ ⟨i_v5a, i_v5b⟩ ⟨i_v6a, i_v6b⟩ ⟨i_v7a, i_v7b⟩ ⟨i_v8a, i_v8b⟩ ⟨i_v9a, i_v9b⟩ ⟨i_v10a, i_v10b⟩ ⟨i_v14a, i_v14b⟩ ⟨i_v18a, i_v18b⟩ ⟨i_v19a, i_v19b⟩ ⟨by decide, by decide⟩ ia_f21.1 H.size) (cwV 2 hts g_X12_tryShelf_3_2 rfl rfl rfl (by decide +kernel) ⟨Nat.le_of_ble_eq_true rfl, Nat.le_of_ble_eq_true rfl⟩) (pv_PV12 hPc hKc hDc (q0 := 0) rfl) rfl rfl hl.1 rfl (lv_room (Nat.le_of_ble_eq_true rfl)) dX12_tryShelf_197 ⟨Nat.le_of_ble_eq_true rfl, Nat.le_of_ble_eq_true rfl⟩) hS (fun q _ h => hFc q h) hFc (fun ra161 u t H1 locs ht hvm hwra161 hB hz1 hk1 hS => ?_)
                      try rw [hwra161] at hB
                      have hkra161_0 : ((5 : Int32)).toInt = 5 := by decide
                      obtain ⟨pt0_ra161, pt1_ra161, pt2_ra161, hP1, hK1, hD1⟩ := hB
                      rw [ht] at hP1
                      obtain ⟨hP2, hD2⟩ := va_join (wr := (wd_20b67a68 h1 g0 f20 h3 g2 fn158 h4 g3 fn159)) (w1 := (wd_5013416a h0 v0 r0 v1 v2 v3 v4 r1 r2 r3 r4 r5 r6 r7 v5 v6 r8 r9 r10 r11 v7 h1 r12 v8 v9 h2 r13 v10 v11 r14 v12 v13 r15 v14 w15 r16 x156 x157 h3 h4 r17 r18 r19 r20 v18 r21 r22 r23 v19 h2 g1 f21)) hP hD [0, 2] [1, 3, 4] rfl rfl (by decide) (by decide) hk1 hFc hP1 hD1
                      clear hP hD hPc hDc hKc hFc hP1 hK1 hD1 hk1 hz1
                      generalize H1 = H at hP2 hS ⊢
                      have hP := hP2.sub (ws' := (wd_90cd99f9 h0 v0 r0 v1 v2 v3 v4 r1 r2 r3 r4 r5 r6 r7 v5 v6 r8 r9 r10 r11 v7 h1 r12 v8 v9 h2 r13 v10 v11 r14 v12 v13 r15 v14 w15 r16 x156 x157 h3 h4 r17 r18 r19 r20 v18 r21 r22 r23 v19 h1 g0 f20 h2 g1 f21 h3 g2 fn158 h4 g3 fn159)) [3, 0, 4, 1, 2] rfl
                      have hD := hD2.sub (ws' := (wd_90cd99f9 h0 v0 r0 v1 v2 v3 v4 r1 r2 r3 r4 r5 r6 r7 v5 v6 r8 r9 r10 r11 v7 h1 r12 v8 v9 h2 r13 v10 v11 r14 v12 v13 r15 v14 w15 r16 x156 x157 h3 h4 r17 r18 r19 r20 v18 r21 r22 r23 v19 h1 g0 f20 h2 g1 f21 h3 g2 fn158 h4 g3 fn159)) [3, 0, 4, 1, 2] (by decide) rfl
                      clear hP2 hD2
                      refine lv_isub hx hb dX12_tryShelf_200 ?_
                      refine lv_topi (fun t162 et162 => ?_)
                      refine va_iast hx hb hK hP hD hS 4 3 rfl rfl (vp_in_iff.mpr ⟨by omega, by omega⟩) dX12_tryShelf_201 (fun H locs hP hD hS => ?_)
                      obtain ⟨fn163, efn163⟩ : ∃ g : Nat → Int32, g = upd fn159 (Int32.toNatClampNeg x121) t162 := ⟨_, rfl⟩
                      rw [← efn163] at hP hD
                      have hP : va_P (dC, dI) vwCl (wd_90cd99f9 h0 v0 r0 v1 v2 v3 v4 r1 r2 r3 r4 r5 r6 r7 v5 v6 r8 r9 r10 r11 v7 h1 r12 v8 v9 h2 r13 v10 v11 r14 v12 v13 r15 v14 w15 r16 x156 x157 h3 h4 r17 r18 r19 r20 v18 r21 r22 r23 v19 h1 g0 f20 h2 g1 f21 h3 g2 fn158 h4 g3 fn163) H := hP
                      have hD : va_D A (wd_90cd99f9 h0 v0 r0 v1 v2 v3 v4 r1 r2 r3 r4 r5 r6 r7 v5 v6 r8 r9 r10 r11 v7 h1 r12 v8 v9 h2 r13 v10 v11 r14 v12 v13 r15 v14 w15 r16 x156 x157 h3 h4 r17 r18 r19 r20 v18 r21 r22 r23 v19 h1 g0 f20 h2 g1 f21 h3 g2 fn158 h4 g3 fn163) := hD
                      exact hJ137 x156 x157 fn158 fn163 H locs ls hP hD hS (lv_sub hl [0, 1, 2, 3, 4, 5, 6] rfl)
                    refine lv_icmp_ne (tgt := 179) hx hb dX12_tryShelf_172 (by decide) (fun c164 => ?_) (fun c164 => ?_)
                    · skip
                      have fc164 : ¬ (t150.toInt = ra151.toInt) := fun h9 => c164 (Int32.toInt_inj.mp h9)
                      have r1c164 := Int32.toInt_lt t150
                      have r2c164 := Int32.toInt_lt ra151
                      have r3c164 := Int32.le_toInt t150
                      have r4c164 := Int32.le_toInt ra151
                      refine lv_iconst (v := 0) hx hb dX12_tryShelf_179 (by decide) ?_
                      exact hJ153 0 H locs ls (by decide) (by decide) hP hD hS (lv_sub hl [0, 1, 2, 3, 4, 5, 6] rfl)
                    · skip
                      have fc164 : t150.toInt = ra151.toInt := congrArg Int32.toInt c164
                      have r1c164 := Int32.toInt_lt t150
                      have r2c164 := Int32.toInt_lt ra151
                      have r3c164 := Int32.le_toInt t150
                      have r4c164 := Int32.le_toInt ra151
                      refine lv_iconst (v := 1) hx hb dX12_tryShelf_175 (by decide) ?_
                      refine lv_goto (tgt := 180) hx hb dX12_tryShelf_176 (by decide) ?_
                      exact hJ153 1 H locs ls (by decide) (by decide) hP hD hS (lv_sub hl [0, 1, 2, 3, 4, 5, 6] rfl)
                · skip
                  have fc139 : ¬ (v26.toInt = 0) := fun h9 => c139 (Int32.toInt_inj.mp h9)
                  refine lv_aload_n hx hb dX12_tryShelf_87 rfl (lv_at hl 2 rfl) ?_
                  refine va_get (D := (dC, dI)) (ci := 12) (v := .ref h4) (C := RX12) (T := TX12) (N := 48) hx hb hts (fun _ h => List.mem_cons_of_mem _ (List.mem_append_right _ h)) hown hK hP 0 rfl rfl 38 (by decide) (hts (.fieldLink RX12 77 "LeftArgumentsModel" "room" "[I") (List.mem_cons_of_mem _ (List.mem_append_left _ (List.mem_of_getElem? (i := 31) rfl)))) (fun _ h9 => h9) rfl dX12_tryShelf_88 ?_
                  refine lv_iload hx hb dX12_tryShelf_91 (lv_at hl 0 rfl) ?_
                  refine va_iald hx hb hK hP 4 3 rfl rfl (vp_in_iff.mpr ⟨by omega, by omega⟩) dX12_tryShelf_93 ?_
                  refine lv_topi (fun t165 et165 => ?_)
                  refine lv_aload_n hx hb dX12_tryShelf_94 rfl (lv_at hl 2 rfl) ?_
                  refine lv_iload_n hx hb dX12_tryShelf_95 rfl (lv_at hl 3 rfl) ?_
                  refine lv_iconst (v := 0) hx hb dX12_tryShelf_96 (by decide) ?_
                  have hPc := hP.sub (ws' := (wd_5013416a h0 v0 r0 v1 v2 v3 v4 r1 r2 r3 r4 r5 r6 r7 v5 v6 r8 r9 r10 r11 v7 h1 r12 v8 v9 h2 r13 v10 v11 r14 v12 v13 r15 v14 w15 r16 x122 x123 h3 h4 r17 r18 r19 r20 v18 r21 r22 r23 v19 h2 g1 f21)) [0, 2] rfl
                  have hDc := hD.sub (ws' := (wd_5013416a h0 v0 r0 v1 v2 v3 v4 r1 r2 r3 r4 r5 r6 r7 v5 v6 r8 r9 r10 r11 v7 h1 r12 v8 v9 h2 r13 v10 v11 r14 v12 v13 r15 v14 w15 r16 x122 x123 h3 h4 r17 r18 r19 r20 v18 r21 r22 r23 v19 h2 g1 f21)) [0, 2] (by decide) rfl
                  have hKc := hK.sub (tys' := [(g1, .int)]) [1] rfl
                  have hFc := va_free (wc := (wd_5013416a h0 v0 r0 v1 v2 v3 v4 r1 r2 r3 r4 r5 r6 r7 v5 v6 r8 r9 r10 r11 v7 h1 r12 v8 v9 h2 r13 v10 v11 r14 v12 v13 r15 v14 w15 r16 x122 x123 h3 h4 r17 r18 r19 r20 v18 r21 r22 r23 v19 h2 g1 f21)) hD hS hA [0, 2] rfl
                  refine va_calli (va_runV (As := [.int 5, .int 0]) (rest := [.int t165]) ⟨hx, hb, hml, hown, hts⟩ (k_X12_of_3 l dC dI h0 h2 v0 r0 v1 v2 v3 v4 r1 r2 r3 r4 r5 r6 r7 v5 v6 r8 r9 r10 r11 v7 h1 r12 v8 v9 r13 v10 v11 r14 v12 v13 r15 v14 w15 r16 x122 x123 h3 h4 r17 r18 r19 r20 v18 r21 r22 r23 v19 g1 f21 5 ⟨i_v1a, i_v1b⟩ ⟨i_v5a, i_v5b⟩ ⟨i_v6a, i_v6b⟩ ⟨i_v7a, i_v7b⟩ ⟨i_v8a, i_v8b⟩ ⟨i_v9a, i_v9b⟩ ⟨i_v10a, i_v10b⟩ ⟨i_v14a, i_v14b⟩ ⟨i_v18a, i_v18b⟩ ⟨i_v19a, i_v19b⟩ ⟨by decide, by decide⟩ ia_f21.1 H.size) (cwV 2 hts g_X12_tryShelf_3_2 rfl rfl rfl (by decide +kernel) ⟨Nat.le_of_ble_eq_true rfl, Nat.le_of_ble_eq_true rfl⟩) (pv_PV12 hPc hKc hDc (q0 := 0) rfl) rfl rfl hl.1 rfl (lv_room (Nat.le_of_ble_eq_true rfl)) dX12_tryShelf_97 ⟨Nat.le_of_ble_eq_true rfl, Nat.le_of_ble_eq_true rfl⟩) hS (fun q _ h => hFc q h) hFc (fun ra166 u t H1 locs ht hvm hwra166 hB hz1 hk1 hS => ?_)
                  try rw [hwra166] at hB
                  have hkra166_0 : ((5 : Int32)).toInt = 5 := by decide
                  obtain ⟨pt0_ra166, pt1_ra166, pt2_ra166, hP1, hK1, hD1⟩ := hB
                  rw [ht] at hP1
                  obtain ⟨hP2, hD2⟩ := va_join (wr := (wd_20b67a68 h1 g0 f20 h3 g2 fn124 h4 g3 fn125)) (w1 := (wd_5013416a h0 v0 r0 v1 v2 v3 v4 r1 r2 r3 r4 r5 r6 r7 v5 v6 r8 r9 r10 r11 v7 h1 r12 v8 v9 h2 r13 v10 v11 r14 v12 v13 r15 v14 w15 r16 x122 x123 h3 h4 r17 r18 r19 r20 v18 r21 r22 r23 v19 h2 g1 f21)) hP hD [0, 2] [1, 3, 4] rfl rfl (by decide) (by decide) hk1 hFc hP1 hD1
                  clear hP hD hPc hDc hKc hFc hP1 hK1 hD1 hk1 hz1
                  generalize H1 = H at hP2 hS ⊢
                  have hP := hP2.sub (ws' := (wd_90cd99f9 h0 v0 r0 v1 v2 v3 v4 r1 r2 r3 r4 r5 r6 r7 v5 v6 r8 r9 r10 r11 v7 h1 r12 v8 v9 h2 r13 v10 v11 r14 v12 v13 r15 v14 w15 r16 x122 x123 h3 h4 r17 r18 r19 r20 v18 r21 r22 r23 v19 h1 g0 f20 h2 g1 f21 h3 g2 fn124 h4 g3 fn125)) [3, 0, 4, 1, 2] rfl
                  have hD := hD2.sub (ws' := (wd_90cd99f9 h0 v0 r0 v1 v2 v3 v4 r1 r2 r3 r4 r5 r6 r7 v5 v6 r8 r9 r10 r11 v7 h1 r12 v8 v9 h2 r13 v10 v11 r14 v12 v13 r15 v14 w15 r16 x122 x123 h3 h4 r17 r18 r19 r20 v18 r21 r22 r23 v19 h1 g0 f20 h2 g1 f21 h3 g2 fn124 h4 g3 fn125)) [3, 0, 4, 1, 2] (by decide) rfl
                  clear hP2 hD2
                  refine lv_iadd hx hb dX12_tryShelf_100 ?_
                  refine lv_topi (fun t167 et167 => ?_)
                  refine lv_aload_n hx hb dX12_tryShelf_101 rfl (lv_at hl 2 rfl) ?_
                  refine va_get (D := (dC, dI)) (ci := 12) (v := .ref h1) (C := RX12) (T := TX12) (N := 48) hx hb hts (fun _ h => List.mem_cons_of_mem _ (List.mem_append_right _ h)) hown hK hP 0 rfl rfl 20 (by decide) (hts (.fieldLink RX12 46 "LeftArgumentsModel" "rule" "[I") (List.mem_cons_of_mem _ (List.mem_append_left _ (List.mem_of_getElem? (i := 37) rfl)))) (fun _ h9 => h9) rfl dX12_tryShelf_102 ?_
                  refine lv_iconst (v := 0) hx hb dX12_tryShelf_105 (by decide) ?_
                  refine va_iald hx hb hK hP 1 0 rfl rfl (pv_c (x := 0) (n := 4) (by decide)) dX12_tryShelf_106 ?_
                  refine lv_topi (fun t168 et168 => ?_)
                  have gat168 : 0 ≤ t168.toInt := by rw [et168]; exact ia_f20.2
                  refine lv_icmp_gt (tgt := 202) hx hb dX12_tryShelf_107 (by decide) (fun c169 => ?_) (fun c169 => ?_)
                  · skip
                    have fc169 : t168.toInt < t167.toInt := Int32.lt_iff_toInt_lt.mp c169
                    have r1c169 := Int32.toInt_lt t167
                    have r2c169 := Int32.toInt_lt t168
                    have r3c169 := Int32.le_toInt t167
                    have r4c169 := Int32.le_toInt t168
                    exact hJ137 x122 x123 fn124 fn125 H locs ls hP hD hS (lv_sub hl [0, 1, 2, 3, 4, 5, 6] rfl)
                  · skip
                    have fc169 : ¬ (t168.toInt < t167.toInt) := fun h9 => c169 (Int32.lt_iff_toInt_lt.mpr h9)
                    have r1c169 := Int32.toInt_lt t167
                    have r2c169 := Int32.toInt_lt t168
                    have r3c169 := Int32.le_toInt t167
                    have r4c169 := Int32.le_toInt t168
                    refine lv_goto (tgt := 123) hx hb dX12_tryShelf_110 (by decide) ?_
                    refine lv_aload_n hx hb dX12_tryShelf_123 rfl (lv_at hl 2 rfl) ?_
                    refine va_get (D := (dC, dI)) (ci := 12) (v := .ref h4) (C := RX12) (T := TX12) (N := 48) hx hb hts (fun _ h => List.mem_cons_of_mem _ (List.mem_append_right _ h)) hown hK hP 0 rfl rfl 38 (by decide) (hts (.fieldLink RX12 77 "LeftArgumentsModel" "room" "[I") (List.mem_cons_of_mem _ (List.mem_append_left _ (List.mem_of_getElem? (i := 31) rfl)))) (fun _ h9 => h9) rfl dX12_tryShelf_124 ?_
                    refine lv_iload hx hb dX12_tryShelf_127 (lv_at hl 0 rfl) ?_
                    refine lv_dup2_11 hx hb dX12_tryShelf_129 rfl rfl ?_
                    refine va_iald hx hb hK hP 4 3 rfl rfl (vp_in_iff.mpr ⟨by omega, by omega⟩) dX12_tryShelf_130 ?_
                    refine lv_topi (fun t170 et170 => ?_)
                    have gmt170 : t170.toInt = t165.toInt := by rw [et170, et165]
                    refine lv_aload_n hx hb dX12_tryShelf_131 rfl (lv_at hl 2 rfl) ?_
                    refine lv_iload_n hx hb dX12_tryShelf_132 rfl (lv_at hl 3 rfl) ?_
                    refine lv_iconst (v := 0) hx hb dX12_tryShelf_133 (by decide) ?_
                    have hPc := hP.sub (ws' := (wd_5013416a h0 v0 r0 v1 v2 v3 v4 r1 r2 r3 r4 r5 r6 r7 v5 v6 r8 r9 r10 r11 v7 h1 r12 v8 v9 h2 r13 v10 v11 r14 v12 v13 r15 v14 w15 r16 x122 x123 h3 h4 r17 r18 r19 r20 v18 r21 r22 r23 v19 h2 g1 f21)) [0, 2] rfl
                    have hDc := hD.sub (ws' := (wd_5013416a h0 v0 r0 v1 v2 v3 v4 r1 r2 r3 r4 r5 r6 r7 v5 v6 r8 r9 r10 r11 v7 h1 r12 v8 v9 h2 r13 v10 v11 r14 v12 v13 r15 v14 w15 r16 x122 x123 h3 h4 r17 r18 r19 r20 v18 r21 r22 r23 v19 h2 g1 f21)) [0, 2] (by decide) rfl
                    have hKc := hK.sub (tys' := [(g1, .int)]) [1] rfl
                    have hFc := va_free (wc := (wd_5013416a h0 v0 r0 v1 v2 v3 v4 r1 r2 r3 r4 r5 r6 r7 v5 v6 r8 r9 r10 r11 v7 h1 r12 v8 v9 h2 r13 v10 v11 r14 v12 v13 r15 v14 w15 r16 x122 x123 h3 h4 r17 r18 r19 r20 v18 r21 r22 r23 v19 h2 g1 f21)) hD hS hA [0, 2] rfl
                    refine va_calli (va_runV (As := [.int 5, .int 0]) (rest := [.int t170, .int x121, .ref h4]) ⟨hx, hb, hml, hown, hts⟩ (k_X12_of_3 l dC dI h0 h2 v0 r0 v1 v2 v3 v4 r1 r2 r3 r4 r5 r6 r7 v5 v6 r8 r9 r10 r11 v7 h1 r12 v8 v9 r13 v10 v11 r14 v12 v13 r15 v14 w15 r16 x122 x123 h3 h4 r17 r18 r19 r20 v18 r21 r22 r23 v19 g1 f21 5 ⟨i_v1a, i_v1b⟩ ⟨i_v5a, i_v5b⟩ ⟨i_v6a, i_v6b⟩ ⟨i_v7a, i_v7b⟩ ⟨i_v8a, i_v8b⟩ ⟨i_v9a, i_v9b⟩ ⟨i_v10a, i_v10b⟩ ⟨i_v14a, i_v14b⟩ ⟨i_v18a, i_v18b⟩ ⟨i_v19a, i_v19b⟩ ⟨by decide, by decide⟩ ia_f21.1 H.size) (cwV 2 hts g_X12_tryShelf_3_2 rfl rfl rfl (by decide +kernel) ⟨Nat.le_of_ble_eq_true rfl, Nat.le_of_ble_eq_true rfl⟩) (pv_PV12 hPc hKc hDc (q0 := 0) rfl) rfl rfl hl.1 rfl (lv_room (Nat.le_of_ble_eq_true rfl)) dX12_tryShelf_134 ⟨Nat.le_of_ble_eq_true rfl, Nat.le_of_ble_eq_true rfl⟩) hS (fun q _ h => hFc q h) hFc (fun ra171 u t H1 locs ht hvm hwra171 hB hz1 hk1 hS => ?_)
                    try rw [hwra171] at hB
                    have hkra171_0 : ((5 : Int32)).toInt = 5 := by decide
                    obtain ⟨pt0_ra171, pt1_ra171, pt2_ra171, hP1, hK1, hD1⟩ := hB
                    rw [ht] at hP1
                    obtain ⟨hP2, hD2⟩ := va_join (wr := (wd_20b67a68 h1 g0 f20 h3 g2 fn124 h4 g3 fn125)) (w1 := (wd_5013416a h0 v0 r0 v1 v2 v3 v4 r1 r2 r3 r4 r5 r6 r7 v5 v6 r8 r9 r10 r11 v7 h1 r12 v8 v9 h2 r13 v10 v11 r14 v12 v13 r15 v14 w15 r16 x122 x123 h3 h4 r17 r18 r19 r20 v18 r21 r22 r23 v19 h2 g1 f21)) hP hD [0, 2] [1, 3, 4] rfl rfl (by decide) (by decide) hk1 hFc hP1 hD1
                    clear hP hD hPc hDc hKc hFc hP1 hK1 hD1 hk1 hz1
                    generalize H1 = H at hP2 hS ⊢
                    have hP := hP2.sub (ws' := (wd_90cd99f9 h0 v0 r0 v1 v2 v3 v4 r1 r2 r3 r4 r5 r6 r7 v5 v6 r8 r9 r10 r11 v7 h1 r12 v8 v9 h2 r13 v10 v11 r14 v12 v13 r15 v14 w15 r16 x122 x123 h3 h4 r17 r18 r19 r20 v18 r21 r22 r23 v19 h1 g0 f20 h2 g1 f21 h3 g2 fn124 h4 g3 fn125)) [3, 0, 4, 1, 2] rfl
                    have hD := hD2.sub (ws' := (wd_90cd99f9 h0 v0 r0 v1 v2 v3 v4 r1 r2 r3 r4 r5 r6 r7 v5 v6 r8 r9 r10 r11 v7 h1 r12 v8 v9 h2 r13 v10 v11 r14 v12 v13 r15 v14 w15 r16 x122 x123 h3 h4 r17 r18 r19 r20 v18 r21 r22 r23 v19 h1 g0 f20 h2 g1 f21 h3 g2 fn124 h4 g3 fn125)) [3, 0, 4, 1, 2] (by decide) rfl
                    clear hP2 hD2
                    refine lv_iadd hx hb dX12_tryShelf_137 ?_
                    refine lv_topi (fun t172 et172 => ?_)
                    refine va_iast hx hb hK hP hD hS 4 3 rfl rfl (vp_in_iff.mpr ⟨by omega, by omega⟩) dX12_tryShelf_138 (fun H locs hP hD hS => ?_)
                    obtain ⟨fn173, efn173⟩ : ∃ g : Nat → Int32, g = upd fn125 (Int32.toNatClampNeg x121) t172 := ⟨_, rfl⟩
                    rw [← efn173] at hP hD
                    have hP : va_P (dC, dI) vwCl (wd_90cd99f9 h0 v0 r0 v1 v2 v3 v4 r1 r2 r3 r4 r5 r6 r7 v5 v6 r8 r9 r10 r11 v7 h1 r12 v8 v9 h2 r13 v10 v11 r14 v12 v13 r15 v14 w15 r16 x122 x123 h3 h4 r17 r18 r19 r20 v18 r21 r22 r23 v19 h1 g0 f20 h2 g1 f21 h3 g2 fn124 h4 g3 fn173) H := hP
                    have hD : va_D A (wd_90cd99f9 h0 v0 r0 v1 v2 v3 v4 r1 r2 r3 r4 r5 r6 r7 v5 v6 r8 r9 r10 r11 v7 h1 r12 v8 v9 h2 r13 v10 v11 r14 v12 v13 r15 v14 w15 r16 x122 x123 h3 h4 r17 r18 r19 r20 v18 r21 r22 r23 v19 h1 g0 f20 h2 g1 f21 h3 g2 fn124 h4 g3 fn173) := hD
                    refine lv_aload_n hx hb dX12_tryShelf_139 rfl (lv_at hl 2 rfl) ?_
                    refine va_get (D := (dC, dI)) (ci := 12) (v := .ref h3) (C := RX12) (T := TX12) (N := 48) hx hb hts (fun _ h => List.mem_cons_of_mem _ (List.mem_append_right _ h)) hown hK hP 0 rfl rfl 37 (by decide) (hts (.fieldLink RX12 74 "LeftArgumentsModel" "onShelf" "[I") (List.mem_cons_of_mem _ (List.mem_append_left _ (List.mem_of_getElem? (i := 15) rfl)))) (fun _ h9 => h9) rfl dX12_tryShelf_140 ?_
                    refine lv_iload_n hx hb dX12_tryShelf_143 rfl (lv_at hl 3 rfl) ?_
                    refine lv_iload hx hb dX12_tryShelf_144 (lv_at hl 0 rfl) ?_
                    refine va_iast hx hb hK hP hD hS 3 2 rfl rfl (pv_c (x := 5) (n := 8) (by decide)) dX12_tryShelf_146 (fun H locs hP hD hS => ?_)
                    obtain ⟨fn174, efn174⟩ : ∃ g : Nat → Int32, g = upd fn124 (Int32.toNatClampNeg 5) x121 := ⟨_, rfl⟩
                    rw [← efn174] at hP hD
                    have hP : va_P (dC, dI) vwCl (wd_90cd99f9 h0 v0 r0 v1 v2 v3 v4 r1 r2 r3 r4 r5 r6 r7 v5 v6 r8 r9 r10 r11 v7 h1 r12 v8 v9 h2 r13 v10 v11 r14 v12 v13 r15 v14 w15 r16 x122 x123 h3 h4 r17 r18 r19 r20 v18 r21 r22 r23 v19 h1 g0 f20 h2 g1 f21 h3 g2 fn174 h4 g3 fn173) H := hP
                    have hD : va_D A (wd_90cd99f9 h0 v0 r0 v1 v2 v3 v4 r1 r2 r3 r4 r5 r6 r7 v5 v6 r8 r9 r10 r11 v7 h1 r12 v8 v9 h2 r13 v10 v11 r14 v12 v13 r15 v14 w15 r16 x122 x123 h3 h4 r17 r18 r19 r20 v18 r21 r22 r23 v19 h1 g0 f20 h2 g1 f21 h3 g2 fn174 h4 g3 fn173) := hD
                    refine lv_aload_n hx hb dX12_tryShelf_147 rfl (lv_at hl 2 rfl) ?_
                    refine lv_iload_n hx hb dX12_tryShelf_148 rfl (lv_at hl 3 rfl) ?_
                    refine lv_iconst (v := 1) hx hb dX12_tryShelf_149 (by decide) ?_
                    refine lv_iadd hx hb dX12_tryShelf_150 ?_
                    refine lv_topi (fun tv175 etv175 => ?_)
                    obtain rfl : tv175 = (6 : Int32) := etv175.trans (by first | rfl | decide)
                    refine lv_bipush (v := 10) hx hb dX12_tryShelf_151 (by decide) ?_
                    refine lv_iload_n hx hb dX12_tryShelf_153 rfl (lv_at hl 4 rfl) ?_
                    refine lv_imul hx hb dX12_tryShelf_154 ?_
                    refine lv_topi (fun t176 et176 => ?_)
                    refine lv_iload hx hb dX12_tryShelf_155 (lv_at hl 0 rfl) ?_
                    refine lv_iadd hx hb dX12_tryShelf_157 ?_
                    refine lv_topi (fun t177 et177 => ?_)
                    refine lv_iload_n hx hb dX12_tryShelf_158 rfl (lv_at hl 5 rfl) ?_
                    refine lv_aload_n hx hb dX12_tryShelf_159 rfl (lv_at hl 2 rfl) ?_
                    refine va_get (D := (dC, dI)) (ci := 12) (v := .ref h4) (C := RX12) (T := TX12) (N := 48) hx hb hts (fun _ h => List.mem_cons_of_mem _ (List.mem_append_right _ h)) hown hK hP 0 rfl rfl 38 (by decide) (hts (.fieldLink RX12 77 "LeftArgumentsModel" "room" "[I") (List.mem_cons_of_mem _ (List.mem_append_left _ (List.mem_of_getElem? (i := 31) rfl)))) (fun _ h9 => h9) rfl dX12_tryShelf_160 ?_
                    refine lv_iload hx hb dX12_tryShelf_163 (lv_at hl 0 rfl) ?_
                    refine va_iald hx hb hK hP 4 3 rfl rfl (vp_in_iff.mpr ⟨by omega, by omega⟩) dX12_tryShelf_165 ?_
                    refine lv_topi (fun t178 et178 => ?_)
                    refine lv_aload_n hx hb dX12_tryShelf_166 rfl (lv_at hl 2 rfl) ?_
                    refine lv_iload_n hx hb dX12_tryShelf_167 rfl (lv_at hl 3 rfl) ?_
                    refine lv_iconst (v := 0) hx hb dX12_tryShelf_168 (by decide) ?_
                    have hPc := hP.sub (ws' := (wd_5013416a h0 v0 r0 v1 v2 v3 v4 r1 r2 r3 r4 r5 r6 r7 v5 v6 r8 r9 r10 r11 v7 h1 r12 v8 v9 h2 r13 v10 v11 r14 v12 v13 r15 v14 w15 r16 x122 x123 h3 h4 r17 r18 r19 r20 v18 r21 r22 r23 v19 h2 g1 f21)) [0, 2] rfl
                    have hDc := hD.sub (ws' := (wd_5013416a h0 v0 r0 v1 v2 v3 v4 r1 r2 r3 r4 r5 r6 r7 v5 v6 r8 r9 r10 r11 v7 h1 r12 v8 v9 h2 r13 v10 v11 r14 v12 v13 r15 v14 w15 r16 x122 x123 h3 h4 r17 r18 r19 r20 v18 r21 r22 r23 v19 h2 g1 f21)) [0, 2] (by decide) rfl
                    have hKc := hK.sub (tys' := [(g1, .int)]) [1] rfl
                    have hFc := va_free (wc := (wd_5013416a h0 v0 r0 v1 v2 v3 v4 r1 r2 r3 r4 r5 r6 r7 v5 v6 r8 r9 r10 r11 v7 h1 r12 v8 v9 h2 r13 v10 v11 r14 v12 v13 r15 v14 w15 r16 x122 x123 h3 h4 r17 r18 r19 r20 v18 r21 r22 r23 v19 h2 g1 f21)) hD hS hA [0, 2] rfl
                    refine va_calli (va_runV (As := [.int 5, .int 0]) (rest := [.int t178, .int v25, .int t177, .int 6, .ref h0]) ⟨hx, hb, hml, hown, hts⟩ (k_X12_of_3 l dC dI h0 h2 v0 r0 v1 v2 v3 v4 r1 r2 r3 r4 r5 r6 r7 v5 v6 r8 r9 r10 r11 v7 h1 r12 v8 v9 r13 v10 v11 r14 v12 v13 r15 v14 w15 r16 x122 x123 h3 h4 r17 r18 r19 r20 v18 r21 r22 r23 v19 g1 f21 5 ⟨i_v1a, i_v1b⟩ ⟨i_v5a, i_v5b⟩ ⟨i_v6a, i_v6b⟩ ⟨i_v7a, i_v7b⟩ ⟨i_v8a, i_v8b⟩ ⟨i_v9a, i_v9b⟩ ⟨i_v10a, i_v10b⟩ ⟨i_v14a, i_v14b⟩ ⟨i_v18a, i_v18b⟩ ⟨i_v19a, i_v19b⟩ ⟨by decide, by decide⟩ ia_f21.1 H.size) (cwV 2 hts g_X12_tryShelf_3_2 rfl rfl rfl (by decide +kernel) ⟨Nat.le_of_ble_eq_true rfl, Nat.le_of_ble_eq_true rfl⟩) (pv_PV12 hPc hKc hDc (q0 := 0) rfl) rfl rfl hl.1 rfl (lv_room (Nat.le_of_ble_eq_true rfl)) dX12_tryShelf_169 ⟨Nat.le_of_ble_eq_true rfl, Nat.le_of_ble_eq_true rfl⟩) hS (fun q _ h => hFc q h) hFc (fun ra179 u t H1 locs ht hvm hwra179 hB hz1 hk1 hS => ?_)
                    try rw [hwra179] at hB
                    have hkra179_0 : ((5 : Int32)).toInt = 5 := by decide
                    obtain ⟨pt0_ra179, pt1_ra179, pt2_ra179, hP1, hK1, hD1⟩ := hB
                    rw [ht] at hP1
                    obtain ⟨hP2, hD2⟩ := va_join (wr := (wd_20b67a68 h1 g0 f20 h3 g2 fn174 h4 g3 fn173)) (w1 := (wd_5013416a h0 v0 r0 v1 v2 v3 v4 r1 r2 r3 r4 r5 r6 r7 v5 v6 r8 r9 r10 r11 v7 h1 r12 v8 v9 h2 r13 v10 v11 r14 v12 v13 r15 v14 w15 r16 x122 x123 h3 h4 r17 r18 r19 r20 v18 r21 r22 r23 v19 h2 g1 f21)) hP hD [0, 2] [1, 3, 4] rfl rfl (by decide) (by decide) hk1 hFc hP1 hD1
                    clear hP hD hPc hDc hKc hFc hP1 hK1 hD1 hk1 hz1
                    generalize H1 = H at hP2 hS ⊢
                    have hP := hP2.sub (ws' := (wd_90cd99f9 h0 v0 r0 v1 v2 v3 v4 r1 r2 r3 r4 r5 r6 r7 v5 v6 r8 r9 r10 r11 v7 h1 r12 v8 v9 h2 r13 v10 v11 r14 v12 v13 r15 v14 w15 r16 x122 x123 h3 h4 r17 r18 r19 r20 v18 r21 r22 r23 v19 h1 g0 f20 h2 g1 f21 h3 g2 fn174 h4 g3 fn173)) [3, 0, 4, 1, 2] rfl
                    have hD := hD2.sub (ws' := (wd_90cd99f9 h0 v0 r0 v1 v2 v3 v4 r1 r2 r3 r4 r5 r6 r7 v5 v6 r8 r9 r10 r11 v7 h1 r12 v8 v9 h2 r13 v10 v11 r14 v12 v13 r15 v14 w15 r16 x122 x123 h3 h4 r17 r18 r19 r20 v18 r21 r22 r23 v19 h1 g0 f20 h2 g1 f21 h3 g2 fn174 h4 g3 fn173)) [3, 0, 4, 1, 2] (by decide) rfl
                    clear hP2 hD2
                    have hJ181 : ∀ (x180 : Int32) (H : Heap) (locs : List Loc) (ls : Array Slot), 0 ≤ x180.toInt → x180.toInt ≤ 1 → va_P (dC, dI) vwCl (wd_90cd99f9 h0 v0 r0 v1 v2 v3 v4 r1 r2 r3 r4 r5 r6 r7 v5 v6 r8 r9 r10 r11 v7 h1 r12 v8 v9 h2 r13 v10 v11 r14 v12 v13 r15 v14 w15 r16 x122 x123 h3 h4 r17 r18 r19 r20 v18 r21 r22 r23 v19 h1 g0 f20 h2 g1 f21 h3 g2 fn174 h4 g3 fn173) H → va_D A (wd_90cd99f9 h0 v0 r0 v1 v2 v3 v4 r1 r2 r3 r4 r5 r6 r7 v5 v6 r8 r9 r10 r11 v7 h1 r12 v8 v9 h2 r13 v10 v11 r14 v12 v13 r15 v14 w15 r16 x122 x123 h3 h4 r17 r18 r19 r20 v18 r21 r22 r23 v19 h1 g0 f20 h2 g1 f21 h3 g2 fn174 h4 g3 fn173) → va_S A s.heap H locs → lv_has ls 7 [(6, .int x121), (5, .int x104), (0, .ref h0), (1, .int 5), (2, .int v24), (3, .int v25), (4, .int v26)] → W p l e ({ frames := 6, cells := 0, slots := 0, locals := 140 }) s m ([.ref h0, .int 5, .int v24, .int v25, .int v26] : List Value).toArray below meth c H locs 0 0 Q (F0 m 180 ls [.int x180, .int v25, .int t177, .int 6, .ref h0]) := by
                      intro x180 H locs ls qa_x180 qb_x180 hP hD hS hl
                      refine lv_iadd hx hb dX12_tryShelf_180 ?_
                      refine lv_topi (fun t182 et182 => ?_)
                      have r5t182v25 := Int32.le_toInt v25; have r6t182v25 := Int32.toInt_lt v25
                      have gt182 : t182.toInt = v25.toInt + x180.toInt := pv_add (a := v25.toInt) (b := x180.toInt) et182 rfl rfl (by omega) (by omega)
                      refine lv_iload hx hb dX12_tryShelf_181 (lv_at hl 6 rfl) ?_
                      have hPc := hP.sub (ws' := (wd_90cd99f9 h0 v0 r0 v1 v2 v3 v4 r1 r2 r3 r4 r5 r6 r7 v5 v6 r8 r9 r10 r11 v7 h1 r12 v8 v9 h2 r13 v10 v11 r14 v12 v13 r15 v14 w15 r16 x122 x123 h3 h4 r17 r18 r19 r20 v18 r21 r22 r23 v19 h1 g0 f20 h2 g1 f21 h3 g2 fn174 h4 g3 fn173)) [0, 1, 2, 3, 4] rfl
                      have hDc := hD.sub (ws' := (wd_90cd99f9 h0 v0 r0 v1 v2 v3 v4 r1 r2 r3 r4 r5 r6 r7 v5 v6 r8 r9 r10 r11 v7 h1 r12 v8 v9 h2 r13 v10 v11 r14 v12 v13 r15 v14 w15 r16 x122 x123 h3 h4 r17 r18 r19 r20 v18 r21 r22 r23 v19 h1 g0 f20 h2 g1 f21 h3 g2 fn174 h4 g3 fn173)) [0, 1, 2, 3, 4] (by decide) rfl
                      have hKc := hK.sub (tys' := [(g0, .int), (g1, .int), (g2, .int), (g3, .int)]) [0, 1, 2, 3] rfl
                      have hFc := va_free (wc := (wd_90cd99f9 h0 v0 r0 v1 v2 v3 v4 r1 r2 r3 r4 r5 r6 r7 v5 v6 r8 r9 r10 r11 v7 h1 r12 v8 v9 h2 r13 v10 v11 r14 v12 v13 r15 v14 w15 r16 x122 x123 h3 h4 r17 r18 r19 r20 v18 r21 r22 r23 v19 h1 g0 f20 h2 g1 f21 h3 g2 fn174 h4 g3 fn173)) hD hS hA [0, 1, 2, 3, 4] rfl
                      refine va_callv (va_runV (As := [.int 6, .int t177, .int t182, .int v26]) (rest := []) ⟨hx, hb, hml, hown, hts⟩ (k_X12_tryShelf_2 l dC dI h0 h1 h2 h3 h4 v0 r0 v1 v2 v3 v4 r1 r2 r3 r4 r5 r6 r7 v5 v6 r8 r9 r10 r11 v7 r12 v8 v9 r13 v10 v11 r14 v12 v13 r15 v14 w15 r16 x122 x123 r17 r18 r19 r20 v18 r21 r22 r23 v19 g0 f20 g1 f21 g2 fn174 g3 fn173 t177 t182 v26 ⟨i_v1a, i_v1b⟩ ⟨i_v5a, i_v5b⟩ ⟨i_v6a, i_v6b⟩ ⟨i_v7a, i_v7b⟩ ⟨i_v8a, i_v8b⟩ ⟨i_v9a, i_v9b⟩ ⟨i_v10a, i_v10b⟩ ⟨i_v14a, i_v14b⟩ ⟨i_v18a, i_v18b⟩ ⟨i_v19a, i_v19b⟩ ⟨i_v26a, i_v26b⟩ ia_f20 ia_f21 H.size) (cwV 4 hts g_X12_tryShelf_3_4 rfl rfl rfl (by decide +kernel) ⟨Nat.le_of_ble_eq_true rfl, Nat.le_of_ble_eq_true rfl⟩) (pv_PV12 hPc hKc hDc (q0 := 0) rfl) rfl rfl hl.1 rfl (lv_room (Nat.le_of_ble_eq_true rfl)) dX12_tryShelf_183 ⟨Nat.le_of_ble_eq_true rfl, Nat.le_of_ble_eq_true rfl⟩) hS (fun q _ h => hFc q h) hFc (fun u t H1 locs ht hvm hwra183 hB hz1 hk1 hS => ?_)
                      obtain ⟨x184, x185, fn186, fn187, hP1, hK1, hD1⟩ := hB
                      rw [ht] at hP1
                      obtain ⟨hP2, hD2⟩ := va_join (wr := []) (w1 := (wd_90cd99f9 h0 v0 r0 v1 v2 v3 v4 r1 r2 r3 r4 r5 r6 r7 v5 v6 r8 r9 r10 r11 v7 h1 r12 v8 v9 h2 r13 v10 v11 r14 v12 v13 r15 v14 w15 r16 x184 x185 h3 h4 r17 r18 r19 r20 v18 r21 r22 r23 v19 h1 g0 f20 h2 g1 f21 h3 g2 fn186 h4 g3 fn187)) hP hD [0, 1, 2, 3, 4] [] rfl rfl (by decide) (by decide) hk1 hFc hP1 hD1
                      clear hP hD hPc hDc hKc hFc hP1 hK1 hD1 hk1 hz1
                      generalize H1 = H at hP2 hS ⊢
                      have hP : va_P (dC, dI) vwCl (wd_90cd99f9 h0 v0 r0 v1 v2 v3 v4 r1 r2 r3 r4 r5 r6 r7 v5 v6 r8 r9 r10 r11 v7 h1 r12 v8 v9 h2 r13 v10 v11 r14 v12 v13 r15 v14 w15 r16 x184 x185 h3 h4 r17 r18 r19 r20 v18 r21 r22 r23 v19 h1 g0 f20 h2 g1 f21 h3 g2 fn186 h4 g3 fn187) H := hP2
                      have hD : va_D A (wd_90cd99f9 h0 v0 r0 v1 v2 v3 v4 r1 r2 r3 r4 r5 r6 r7 v5 v6 r8 r9 r10 r11 v7 h1 r12 v8 v9 h2 r13 v10 v11 r14 v12 v13 r15 v14 w15 r16 x184 x185 h3 h4 r17 r18 r19 r20 v18 r21 r22 r23 v19 h1 g0 f20 h2 g1 f21 h3 g2 fn186 h4 g3 fn187) := hD2
                      clear hP2 hD2
                      refine lv_aload_n hx hb dX12_tryShelf_186 rfl (lv_at hl 2 rfl) ?_
                      refine va_get (D := (dC, dI)) (ci := 12) (v := .ref h4) (C := RX12) (T := TX12) (N := 48) hx hb hts (fun _ h => List.mem_cons_of_mem _ (List.mem_append_right _ h)) hown hK hP 0 rfl rfl 38 (by decide) (hts (.fieldLink RX12 77 "LeftArgumentsModel" "room" "[I") (List.mem_cons_of_mem _ (List.mem_append_left _ (List.mem_of_getElem? (i := 31) rfl)))) (fun _ h9 => h9) rfl dX12_tryShelf_187 ?_
                      refine lv_iload hx hb dX12_tryShelf_190 (lv_at hl 0 rfl) ?_
                      refine lv_dup2_11 hx hb dX12_tryShelf_192 rfl rfl ?_
                      refine va_iald hx hb hK hP 4 3 rfl rfl (vp_in_iff.mpr ⟨by omega, by omega⟩) dX12_tryShelf_193 ?_
                      refine lv_topi (fun t188 et188 => ?_)
                      refine lv_aload_n hx hb dX12_tryShelf_194 rfl (lv_at hl 2 rfl) ?_
                      refine lv_iload_n hx hb dX12_tryShelf_195 rfl (lv_at hl 3 rfl) ?_
                      refine lv_iconst (v := 0) hx hb dX12_tryShelf_196 (by decide) ?_
                      have hPc := hP.sub (ws' := (wd_5013416a h0 v0 r0 v1 v2 v3 v4 r1 r2 r3 r4 r5 r6 r7 v5 v6 r8 r9 r10 r11 v7 h1 r12 v8 v9 h2 r13 v10 v11 r14 v12 v13 r15 v14 w15 r16 x184 x185 h3 h4 r17 r18 r19 r20 v18 r21 r22 r23 v19 h2 g1 f21)) [0, 2] rfl
                      have hDc := hD.sub (ws' := (wd_5013416a h0 v0 r0 v1 v2 v3 v4 r1 r2 r3 r4 r5 r6 r7 v5 v6 r8 r9 r10 r11 v7 h1 r12 v8 v9 h2 r13 v10 v11 r14 v12 v13 r15 v14 w15 r16 x184 x185 h3 h4 r17 r18 r19 r20 v18 r21 r22 r23 v19 h2 g1 f21)) [0, 2] (by decide) rfl
                      have hKc := hK.sub (tys' := [(g1, .int)]) [1] rfl
                      have hFc := va_free (wc := (wd_5013416a h0 v0 r0 v1 v2 v3 v4 r1 r2 r3 r4 r5 r6 r7 v5 v6 r8 r9 r10 r11 v7 h1 r12 v8 v9 h2 r13 v10 v11 r14 v12 v13 r15 v14 w15 r16 x184 x185 h3 h4 r17 r18 r19 r20 v18 r21 r22 r23 v19 h2 g1 f21)) hD hS hA [0, 2] rfl
                      refine va_calli (va_runV (As := [.int 5, .int 0]) (rest := [.int t188, .int x121, .ref h4]) ⟨hx, hb, hml, hown, hts⟩ (k_X12_of_3 l dC dI h0 h2 v0 r0 v1 v2 v3 v4 r1 r2 r3 r4 r5 r6 r7 v5 v6 r8 r9 r10 r11 v7 h1 r12 v8 v9 r13 v10 v11 r14 v12 v13 r15 v14 w15 r16 x184 x185 h3 h4 r17 r18 r19 r20 v18 r21 r22 r23 v19 g1 f21 5 ⟨i_v1a, i_v1b⟩ ⟨i_v5a, i_v5b⟩ ⟨i_v6a, i_v6b⟩ ⟨i_v7a, i_v7b⟩ ⟨i_v8a, i_v8b⟩ ⟨i_v9a, i_v9b⟩ ⟨i_v10a, i_v10b⟩ ⟨i_v14a, i_v14b⟩ ⟨i_v18a, i_v18b⟩ ⟨i_v19a, i_v19b⟩ ⟨by decide, by decide⟩ ia_f21.1 H.size) (cwV 2 hts g_X12_tryShelf_3_2 rfl rfl rfl (by decide +kernel) ⟨Nat.le_of_ble_eq_true rfl, Nat.le_of_ble_eq_true rfl⟩) (pv_PV12 hPc hKc hDc (q0 := 0) rfl) rfl rfl hl.1 rfl (lv_room (Nat.le_of_ble_eq_true rfl)) dX12_tryShelf_197 ⟨Nat.le_of_ble_eq_true rfl, Nat.le_of_ble_eq_true rfl⟩) hS (fun q _ h => hFc q h) hFc (fun ra189 u t H1 locs ht hvm hwra189 hB hz1 hk1 hS => ?_)
                      try rw [hwra189] at hB
                      have hkra189_0 : ((5 : Int32)).toInt = 5 := by decide
                      obtain ⟨pt0_ra189, pt1_ra189, pt2_ra189, hP1, hK1, hD1⟩ := hB
                      rw [ht] at hP1
                      obtain ⟨hP2, hD2⟩ := va_join (wr := (wd_20b67a68 h1 g0 f20 h3 g2 fn186 h4 g3 fn187)) (w1 := (wd_5013416a h0 v0 r0 v1 v2 v3 v4 r1 r2 r3 r4 r5 r6 r7 v5 v6 r8 r9 r10 r11 v7 h1 r12 v8 v9 h2 r13 v10 v11 r14 v12 v13 r15 v14 w15 r16 x184 x185 h3 h4 r17 r18 r19 r20 v18 r21 r22 r23 v19 h2 g1 f21)) hP hD [0, 2] [1, 3, 4] rfl rfl (by decide) (by decide) hk1 hFc hP1 hD1
                      clear hP hD hPc hDc hKc hFc hP1 hK1 hD1 hk1 hz1
                      generalize H1 = H at hP2 hS ⊢
                      have hP := hP2.sub (ws' := (wd_90cd99f9 h0 v0 r0 v1 v2 v3 v4 r1 r2 r3 r4 r5 r6 r7 v5 v6 r8 r9 r10 r11 v7 h1 r12 v8 v9 h2 r13 v10 v11 r14 v12 v13 r15 v14 w15 r16 x184 x185 h3 h4 r17 r18 r19 r20 v18 r21 r22 r23 v19 h1 g0 f20 h2 g1 f21 h3 g2 fn186 h4 g3 fn187)) [3, 0, 4, 1, 2] rfl
                      have hD := hD2.sub (ws' := (wd_90cd99f9 h0 v0 r0 v1 v2 v3 v4 r1 r2 r3 r4 r5 r6 r7 v5 v6 r8 r9 r10 r11 v7 h1 r12 v8 v9 h2 r13 v10 v11 r14 v12 v13 r15 v14 w15 r16 x184 x185 h3 h4 r17 r18 r19 r20 v18 r21 r22 r23 v19 h1 g0 f20 h2 g1 f21 h3 g2 fn186 h4 g3 fn187)) [3, 0, 4, 1, 2] (by decide) rfl
                      clear hP2 hD2
                      refine lv_isub hx hb dX12_tryShelf_200 ?_
                      refine lv_topi (fun t190 et190 => ?_)
                      refine va_iast hx hb hK hP hD hS 4 3 rfl rfl (vp_in_iff.mpr ⟨by omega, by omega⟩) dX12_tryShelf_201 (fun H locs hP hD hS => ?_)
                      obtain ⟨fn191, efn191⟩ : ∃ g : Nat → Int32, g = upd fn187 (Int32.toNatClampNeg x121) t190 := ⟨_, rfl⟩
                      rw [← efn191] at hP hD
                      have hP : va_P (dC, dI) vwCl (wd_90cd99f9 h0 v0 r0 v1 v2 v3 v4 r1 r2 r3 r4 r5 r6 r7 v5 v6 r8 r9 r10 r11 v7 h1 r12 v8 v9 h2 r13 v10 v11 r14 v12 v13 r15 v14 w15 r16 x184 x185 h3 h4 r17 r18 r19 r20 v18 r21 r22 r23 v19 h1 g0 f20 h2 g1 f21 h3 g2 fn186 h4 g3 fn191) H := hP
                      have hD : va_D A (wd_90cd99f9 h0 v0 r0 v1 v2 v3 v4 r1 r2 r3 r4 r5 r6 r7 v5 v6 r8 r9 r10 r11 v7 h1 r12 v8 v9 h2 r13 v10 v11 r14 v12 v13 r15 v14 w15 r16 x184 x185 h3 h4 r17 r18 r19 r20 v18 r21 r22 r23 v19 h1 g0 f20 h2 g1 f21 h3 g2 fn186 h4 g3 fn191) := hD
                      exact hJ137 x184 x185 fn186 fn191 H locs ls hP hD hS (lv_sub hl [0, 1, 2, 3, 4, 5, 6] rfl)
                    refine lv_icmp_ne (tgt := 179) hx hb dX12_tryShelf_172 (by decide) (fun c192 => ?_) (fun c192 => ?_)
                    · skip
                      have fc192 : ¬ (t178.toInt = ra179.toInt) := fun h9 => c192 (Int32.toInt_inj.mp h9)
                      have r1c192 := Int32.toInt_lt t178
                      have r2c192 := Int32.toInt_lt ra179
                      have r3c192 := Int32.le_toInt t178
                      have r4c192 := Int32.le_toInt ra179
                      refine lv_iconst (v := 0) hx hb dX12_tryShelf_179 (by decide) ?_
                      exact hJ181 0 H locs ls (by decide) (by decide) hP hD hS (lv_sub hl [0, 1, 2, 3, 4, 5, 6] rfl)
                    · skip
                      have fc192 : t178.toInt = ra179.toInt := congrArg Int32.toInt c192
                      have r1c192 := Int32.toInt_lt t178
                      have r2c192 := Int32.toInt_lt ra179
                      have r3c192 := Int32.le_toInt t178
                      have r4c192 := Int32.le_toInt ra179
                      refine lv_iconst (v := 1) hx hb dX12_tryShelf_175 (by decide) ?_
                      refine lv_goto (tgt := 180) hx hb dX12_tryShelf_176 (by decide) ?_
                      exact hJ181 1 H locs ls (by decide) (by decide) hP hD hS (lv_sub hl [0, 1, 2, 3, 4, 5, 6] rfl)
          exact hL131 _ 0 v16 v17 f22 f23 H locs ls (by decide) (by decide) (Nat.lt_succ_self _) hP hD hS (lv_sub hl [0, 1, 2, 3, 4, 5, 6] rfl)
        refine lv_if_eq (tgt := 68) hx hb dX12_tryShelf_56 (by decide) (fun c193 => ?_) (fun c193 => ?_)
        · skip
          have fc193 : v26.toInt = 0 := congrArg Int32.toInt c193
          refine lv_bipush (v := 8) hx hb dX12_tryShelf_68 (by decide) ?_
          exact hJ105 8 H locs ls (by decide) (by decide) hP hD hS (lv_sub hl [0, 1, 2, 3, 4] rfl)
        · skip
          have fc193 : ¬ (v26.toInt = 0) := fun h9 => c193 (Int32.toInt_inj.mp h9)
          refine lv_aload_n hx hb dX12_tryShelf_59 rfl (lv_at hl 0 rfl) ?_
          refine va_get (D := (dC, dI)) (ci := 12) (v := .ref h1) (C := RX12) (T := TX12) (N := 48) hx hb hts (fun _ h => List.mem_cons_of_mem _ (List.mem_append_right _ h)) hown hK hP 0 rfl rfl 20 (by decide) (hts (.fieldLink RX12 46 "LeftArgumentsModel" "rule" "[I") (List.mem_cons_of_mem _ (List.mem_append_left _ (List.mem_of_getElem? (i := 37) rfl)))) (fun _ h9 => h9) rfl dX12_tryShelf_60 ?_
          refine lv_iconst (v := 1) hx hb dX12_tryShelf_63 (by decide) ?_
          refine va_iald hx hb hK hP 1 0 rfl rfl (pv_c (x := 1) (n := 4) (by decide)) dX12_tryShelf_64 ?_
          refine lv_topi (fun t194 et194 => ?_)
          have gat194 : 0 ≤ t194.toInt ∧ t194.toInt ≤ 5 := by rw [et194]; exact ia_f20.1
          refine lv_goto (tgt := 70) hx hb dX12_tryShelf_65 (by decide) ?_
          exact hJ105 t194 H locs ls (by first | omega | decide) (by first | omega | decide) hP hD hS (lv_sub hl [0, 1, 2, 3, 4] rfl)
      · skip
        have fc103 : ra102.toInt = 0 := congrArg Int32.toInt c103
        have q0wra102 := wra102 (by omega)
        refine lv_aload_n hx hb dX12_tryShelf_42 rfl (lv_at hl 0 rfl) ?_
        refine lv_iload_n hx hb dX12_tryShelf_43 rfl (lv_at hl 1 rfl) ?_
        refine lv_iconst (v := 1) hx hb dX12_tryShelf_44 (by decide) ?_
        refine lv_iadd hx hb dX12_tryShelf_45 ?_
        refine lv_topi (fun tv195 etv195 => ?_)
        obtain rfl : tv195 = (6 : Int32) := etv195.trans (by first | rfl | decide)
        refine lv_iload_n hx hb dX12_tryShelf_46 rfl (lv_at hl 2 rfl) ?_
        refine lv_iload_n hx hb dX12_tryShelf_47 rfl (lv_at hl 3 rfl) ?_
        refine lv_iload hx hb dX12_tryShelf_48 (lv_at hl 4 rfl) ?_
        have hPc := hP.sub (ws' := (wd_90cd99f9 h0 v0 r0 v1 v2 v3 v4 r1 r2 r3 r4 r5 r6 r7 v5 v6 r8 r9 r10 r11 v7 h1 r12 v8 v9 h2 r13 v10 v11 r14 v12 v13 r15 v14 w15 r16 v16 v17 h3 h4 r17 r18 r19 r20 v18 r21 r22 r23 v19 h1 g0 f20 h2 g1 f21 h3 g2 f22 h4 g3 f23)) [0, 1, 2, 3, 4] rfl
        have hDc := hD.sub (ws' := (wd_90cd99f9 h0 v0 r0 v1 v2 v3 v4 r1 r2 r3 r4 r5 r6 r7 v5 v6 r8 r9 r10 r11 v7 h1 r12 v8 v9 h2 r13 v10 v11 r14 v12 v13 r15 v14 w15 r16 v16 v17 h3 h4 r17 r18 r19 r20 v18 r21 r22 r23 v19 h1 g0 f20 h2 g1 f21 h3 g2 f22 h4 g3 f23)) [0, 1, 2, 3, 4] (by decide) rfl
        have hKc := hK.sub (tys' := [(g0, .int), (g1, .int), (g2, .int), (g3, .int)]) [0, 1, 2, 3] rfl
        have hFc := va_free (wc := (wd_90cd99f9 h0 v0 r0 v1 v2 v3 v4 r1 r2 r3 r4 r5 r6 r7 v5 v6 r8 r9 r10 r11 v7 h1 r12 v8 v9 h2 r13 v10 v11 r14 v12 v13 r15 v14 w15 r16 v16 v17 h3 h4 r17 r18 r19 r20 v18 r21 r22 r23 v19 h1 g0 f20 h2 g1 f21 h3 g2 f22 h4 g3 f23)) hD hS hA [0, 1, 2, 3, 4] rfl
        refine va_callv (va_runV (As := [.int 6, .int v24, .int v25, .int v26]) (rest := []) ⟨hx, hb, hml, hown, hts⟩ (k_X12_tryShelf_2 l dC dI h0 h1 h2 h3 h4 v0 r0 v1 v2 v3 v4 r1 r2 r3 r4 r5 r6 r7 v5 v6 r8 r9 r10 r11 v7 r12 v8 v9 r13 v10 v11 r14 v12 v13 r15 v14 w15 r16 v16 v17 r17 r18 r19 r20 v18 r21 r22 r23 v19 g0 f20 g1 f21 g2 f22 g3 f23 v24 v25 v26 ⟨i_v1a, i_v1b⟩ ⟨i_v5a, i_v5b⟩ ⟨i_v6a, i_v6b⟩ ⟨i_v7a, i_v7b⟩ ⟨i_v8a, i_v8b⟩ ⟨i_v9a, i_v9b⟩ ⟨i_v10a, i_v10b⟩ ⟨i_v14a, i_v14b⟩ ⟨i_v18a, i_v18b⟩ ⟨i_v19a, i_v19b⟩ ⟨i_v26a, i_v26b⟩ ia_f20 ia_f21 H.size) (cwV 4 hts g_X12_tryShelf_3_4 rfl rfl rfl (by decide +kernel) ⟨Nat.le_of_ble_eq_true rfl, Nat.le_of_ble_eq_true rfl⟩) (pv_PV12 hPc hKc hDc (q0 := 0) rfl) rfl rfl hl.1 rfl (lv_room (Nat.le_of_ble_eq_true rfl)) dX12_tryShelf_50 ⟨Nat.le_of_ble_eq_true rfl, Nat.le_of_ble_eq_true rfl⟩) hS (fun q _ h => hFc q h) hFc (fun u t H1 locs ht hvm hwra196 hB hz1 hk1 hS => ?_)
        obtain ⟨x197, x198, fn199, fn200, hP1, hK1, hD1⟩ := hB
        rw [ht] at hP1
        obtain ⟨hP2, hD2⟩ := va_join (wr := []) (w1 := (wd_90cd99f9 h0 v0 r0 v1 v2 v3 v4 r1 r2 r3 r4 r5 r6 r7 v5 v6 r8 r9 r10 r11 v7 h1 r12 v8 v9 h2 r13 v10 v11 r14 v12 v13 r15 v14 w15 r16 x197 x198 h3 h4 r17 r18 r19 r20 v18 r21 r22 r23 v19 h1 g0 f20 h2 g1 f21 h3 g2 fn199 h4 g3 fn200)) hP hD [0, 1, 2, 3, 4] [] rfl rfl (by decide) (by decide) hk1 hFc hP1 hD1
        clear hP hD hPc hDc hKc hFc hP1 hK1 hD1 hk1 hz1
        generalize H1 = H at hP2 hS ⊢
        have hP : va_P (dC, dI) vwCl (wd_90cd99f9 h0 v0 r0 v1 v2 v3 v4 r1 r2 r3 r4 r5 r6 r7 v5 v6 r8 r9 r10 r11 v7 h1 r12 v8 v9 h2 r13 v10 v11 r14 v12 v13 r15 v14 w15 r16 x197 x198 h3 h4 r17 r18 r19 r20 v18 r21 r22 r23 v19 h1 g0 f20 h2 g1 f21 h3 g2 fn199 h4 g3 fn200) H := hP2
        have hD : va_D A (wd_90cd99f9 h0 v0 r0 v1 v2 v3 v4 r1 r2 r3 r4 r5 r6 r7 v5 v6 r8 r9 r10 r11 v7 h1 r12 v8 v9 h2 r13 v10 v11 r14 v12 v13 r15 v14 w15 r16 x197 x198 h3 h4 r17 r18 r19 r20 v18 r21 r22 r23 v19 h1 g0 f20 h2 g1 f21 h3 g2 fn199 h4 g3 fn200) := hD2
        clear hP2 hD2
        subst hQ
        have hP9 := hP.sub (ws' := (wd_90cd99f9 h0 v0 r0 v1 v2 v3 v4 r1 r2 r3 r4 r5 r6 r7 v5 v6 r8 r9 r10 r11 v7 h1 r12 v8 v9 h2 r13 v10 v11 r14 v12 v13 r15 v14 w15 r16 x197 x198 h3 h4 r17 r18 r19 r20 v18 r21 r22 r23 v19 h1 g0 f20 h2 g1 f21 h3 g2 fn199 h4 g3 fn200)) [0, 1, 2, 3, 4] rfl
        have hD9 := hD.sub (ws' := (wd_90cd99f9 h0 v0 r0 v1 v2 v3 v4 r1 r2 r3 r4 r5 r6 r7 v5 v6 r8 r9 r10 r11 v7 h1 r12 v8 v9 h2 r13 v10 v11 r14 v12 v13 r15 v14 w15 r16 x197 x198 h3 h4 r17 r18 r19 r20 v18 r21 r22 r23 v19 h1 g0 f20 h2 g1 f21 h3 g2 fn199 h4 g3 fn200)) [0, 1, 2, 3, 4] (by decide) rfl
        have hK9 := hK.sub (tys' := []) [] rfl
        exact W.vret hx hb hr (fun t ht hW => ⟨⟨(), rfl, trivial, ⟨x197, x198, fn199, fn200, by rw [ht]; exact hP9, va_K.moved hW.alike hK9, hD9⟩⟩, hS.F ht⟩) hS.2.2 dX12_tryShelf_53
    · skip
      have fc101 : ¬ (v25.toInt < v17.toInt) := fun h9 => c101 (Int32.lt_iff_toInt_lt.mpr h9)
      have r1c101 := Int32.toInt_lt v25
      have r2c101 := Int32.toInt_lt v17
      have r3c101 := Int32.le_toInt v25
      have r4c101 := Int32.le_toInt v17
      subst hQ
      have hP9 := hP.sub (ws' := (wd_90cd99f9 h0 v0 r0 v1 v2 v3 v4 r1 r2 r3 r4 r5 r6 r7 v5 v6 r8 r9 r10 r11 v7 h1 r12 v8 v9 h2 r13 v10 v11 r14 v12 v13 r15 v14 w15 r16 v16 v17 h3 h4 r17 r18 r19 r20 v18 r21 r22 r23 v19 h1 g0 f20 h2 g1 f21 h3 g2 f22 h4 g3 f23)) [0, 1, 2, 3, 4] rfl
      have hD9 := hD.sub (ws' := (wd_90cd99f9 h0 v0 r0 v1 v2 v3 v4 r1 r2 r3 r4 r5 r6 r7 v5 v6 r8 r9 r10 r11 v7 h1 r12 v8 v9 h2 r13 v10 v11 r14 v12 v13 r15 v14 w15 r16 v16 v17 h3 h4 r17 r18 r19 r20 v18 r21 r22 r23 v19 h1 g0 f20 h2 g1 f21 h3 g2 f22 h4 g3 f23)) [0, 1, 2, 3, 4] (by decide) rfl
      have hK9 := hK.sub (tys' := []) [] rfl
      exact W.vret hx hb hr (fun t ht hW => ⟨⟨(), rfl, trivial, ⟨v16, v17, f22, f23, by rw [ht]; exact hP9, va_K.moved hW.alike hK9, hD9⟩⟩, hS.F ht⟩) hS.2.2 dX12_tryShelf_16
