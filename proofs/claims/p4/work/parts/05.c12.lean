abbrev wd_77d3d1bb (p0 : Nat) (p1 : Int32) (p2 : Nat) (p3 : Int32) (p4 : Int32) (p5 : Int32) (p6 : Int32) (p7 : Nat) (p8 : Nat) (p9 : Nat) (p10 : Nat) (p11 : Nat) (p12 : Nat) (p13 : Nat) (p14 : Int32) (p15 : Int32) (p16 : Nat) (p17 : Nat) (p18 : Nat) (p19 : Nat) (p20 : Int32) (p21 : Nat) (p22 : Nat) (p23 : Int32) (p24 : Int32) (p25 : Nat) (p26 : Nat) (p27 : Int32) (p28 : Int32) (p29 : Nat) (p30 : Int32) (p31 : Int32) (p32 : Nat) (p33 : Int32) (p34 : Int64) (p35 : Nat) (p36 : Int32) (p37 : Int32) (p38 : Nat) (p39 : Nat) (p40 : Nat) (p41 : Nat) (p42 : Nat) (p43 : Nat) (p44 : Int32) (p45 : Nat) (p46 : Nat) (p47 : Nat) (p48 : Int32) (p49 : Nat) (p50 : ClassId) (p51 : Nat → Int32) (p52 : Nat) (p53 : ClassId) (p54 : Nat → Int32) (p55 : Nat) (p56 : ClassId) (p57 : Nat → Int32) : va_W := [(p0, .inr (12, [.int p1, .ref p2, .int p3, .int p4, .int p5, .int p6, .ref p7, .ref p8, .ref p9, .ref p10, .ref p11, .ref p12, .ref p13, .int p14, .int p15, .ref p16, .ref p17, .ref p18, .ref p19, .int p20, .ref p21, .ref p22, .int p23, .int p24, .ref p25, .ref p26, .int p27, .int p28, .ref p29, .int p30, .int p31, .ref p32, .int p33, .long p34, .ref p35, .int p36, .int p37, .ref p38, .ref p39, .ref p40, .ref p41, .ref p42, .ref p43, .int p44, .ref p45, .ref p46, .ref p47, .int p48])), (p49, .inl (p50, 240, .inl p51)), (p52, .inl (p53, 4, .inl p54)), (p55, .inl (p56, 40, .inl p57))]
abbrev wd_5ef8c86c (p0 : Nat) (p1 : ClassId) (p2 : Nat → Int32) (p3 : Nat) (p4 : ClassId) (p5 : Nat → Int32) : va_W := [(p0, .inl (p1, 4, .inl p2)), (p3, .inl (p4, 40, .inl p5))]
abbrev wd_bcaf9cf2 (p0 : Nat) (p1 : ClassId) (p2 : Nat → Int32) (p3 : Nat) (p4 : ClassId) (p5 : Nat → Int32) (p6 : Nat) (p7 : ClassId) (p8 : Nat → Int32) : va_W := [(p0, .inl (p1, 240, .inl p2)), (p3, .inl (p4, 4, .inl p5)), (p6, .inl (p7, 40, .inl p8))]
abbrev wd_3c5bdecc (p0 : Nat) (p1 : Int32) (p2 : Nat) (p3 : Int32) (p4 : Int32) (p5 : Int32) (p6 : Int32) (p7 : Nat) (p8 : Nat) (p9 : Nat) (p10 : Nat) (p11 : Nat) (p12 : Nat) (p13 : Nat) (p14 : Int32) (p15 : Int32) (p16 : Nat) (p17 : Nat) (p18 : Nat) (p19 : Nat) (p20 : Int32) (p21 : Nat) (p22 : Nat) (p23 : Int32) (p24 : Int32) (p25 : Nat) (p26 : Nat) (p27 : Int32) (p28 : Int32) (p29 : Nat) (p30 : Int32) (p31 : Int32) (p32 : Nat) (p33 : Int32) (p34 : Int64) (p35 : Nat) (p36 : Int32) (p37 : Int32) (p38 : Nat) (p39 : Nat) (p40 : Nat) (p41 : Nat) (p42 : Nat) (p43 : Nat) (p44 : Int32) (p45 : Nat) (p46 : Nat) (p47 : Nat) (p48 : Int32) (p49 : Nat) (p50 : ClassId) (p51 : Nat → Int32) (p52 : Nat) (p53 : ClassId) (p54 : Nat → Int32) (p55 : Nat) (p56 : ClassId) (p57 : Nat → Int32) (p58 : Nat) (p59 : ClassId) (p60 : Nat → Int32) (p61 : Nat) (p62 : ClassId) (p63 : Nat → Int32) : va_W := [(p0, .inr (12, [.int p1, .ref p2, .int p3, .int p4, .int p5, .int p6, .ref p7, .ref p8, .ref p9, .ref p10, .ref p11, .ref p12, .ref p13, .int p14, .int p15, .ref p16, .ref p17, .ref p18, .ref p19, .int p20, .ref p21, .ref p22, .int p23, .int p24, .ref p25, .ref p26, .int p27, .int p28, .ref p29, .int p30, .int p31, .ref p32, .int p33, .long p34, .ref p35, .int p36, .int p37, .ref p38, .ref p39, .ref p40, .ref p41, .ref p42, .ref p43, .int p44, .ref p45, .ref p46, .ref p47, .int p48])), (p49, .inl (p50, 4, .inl p51)), (p52, .inl (p53, 40, .inl p54)), (p55, .inl (p56, 4, .inl p57)), (p58, .inl (p59, 40, .inl p60)), (p61, .inl (p62, 247, .inl p63))]
abbrev wd_e8b37253 (p0 : Nat) (p1 : ClassId) (p2 : Nat → Int32) (p3 : Nat) (p4 : ClassId) (p5 : Nat → Int32) (p6 : Nat) (p7 : ClassId) (p8 : Nat → Int32) : va_W := [(p0, .inl (p1, 4, .inl p2)), (p3, .inl (p4, 40, .inl p5)), (p6, .inl (p7, 4, .inl p8))]
def q_X12_readOffice : List Cond := .code yX12_readOffice cX12_readOffice 4 (some .int) :: (([.fieldLink RX12 112 "LeftArgumentsModel" "at" "I", .fieldLink RX12 119 "LeftArgumentsModel" "wrong" "I", .fieldLink RX12 241 "LeftArgumentsModel" "readBags" "I", .fieldLink RX12 40 "LeftArgumentsModel" "readRule" "[I", .code yX12_usual cX12_usual 2 (some .int), .initialized RX12, .static yX12_usual, .methodLink RX12 221 yX12_usual, .code yX12_look cX12_look 1 (some .int), .code yX12_here cX12_here 1 (some .int), .fieldLink RX12 109 "LeftArgumentsModel" "size" "I", .fieldLink RX12 9 "LeftArgumentsModel" "tape" "[I", .instanceMethod yX12_here, .selects RX12 yX12_here yX12_here, .methodLink RX12 115 yX12_here, .instanceMethod yX12_look, .selects RX12 yX12_look yX12_look, .methodLink RX12 131 yX12_look, .code yX12_bad cX12_bad 1 none, .instanceMethod yX12_bad, .selects RX12 yX12_bad yX12_bad, .methodLink RX12 128 yX12_bad, .fieldLink RX12 43 "LeftArgumentsModel" "readBag" "[I", .code yX12_items cX12_items 7 none, .code yX12_itemOf cX12_itemOf 2 (some .int), .static yX12_itemOf, .methodLink RX12 225 yX12_itemOf, .code yX12_has cX12_has 2 (some .boolean), .static yX12_has, .methodLink RX12 228 yX12_has, .code yX12_lowest cX12_lowest 2 (some .int), .static yX12_lowest, .methodLink RX12 232 yX12_lowest, .code yX12_highest cX12_highest 2 (some .int), .static yX12_highest, .methodLink RX12 235 yX12_highest, .code yX12_number cX12_number 4 (some .int), .code yX12_isDigit cX12_isDigit 1 (some .boolean), .static yX12_isDigit, .methodLink RX12 134 yX12_isDigit, .code yX12_in cX12_in 3 (some .boolean), .static yX12_in, .methodLink RX12 217 yX12_in, .instanceMethod yX12_number, .selects RX12 yX12_number yX12_number, .methodLink RX12 238 yX12_number, .instanceMethod yX12_items, .selects RX12 yX12_items yX12_items, .methodLink RX12 244 yX12_items, .code yX12_isWhole cX12_isWhole 3 (some .boolean), .instanceMethod yX12_isWhole, .selects RX12 yX12_isWhole yX12_isWhole, .methodLink RX12 248 yX12_isWhole] : List Cond) ++ wsX120)
set_option maxRecDepth 20000 in
theorem g_X12_readOffice_0 : GoodIn q_X12_readOffice (va_wsS RX12 221 yX12_usual q_X12_usual) := goodIn_app (goodIn_r _ [8, 7, 6] rfl (by decide +kernel)) (goodIn_r (.code yX12_usual cX12_usual 2 (some .int) :: []) [5] rfl (by decide +kernel))
set_option maxRecDepth 20000 in
theorem g_X12_readOffice_1 : GoodIn q_X12_readOffice (va_wsS RX12 221 yX12_usual q_X12_usual_1) := goodIn_app (goodIn_r _ [8, 7, 6] rfl (by decide +kernel)) (goodIn_r (.code yX12_usual cX12_usual 2 (some .int) :: []) [5] rfl (by decide +kernel))
set_option maxRecDepth 20000 in
theorem g_X12_readOffice_2 : GoodIn q_X12_readOffice (va_wsS RX12 221 yX12_usual q_X12_usual_2) := goodIn_app (goodIn_r _ [8, 7, 6] rfl (by decide +kernel)) (goodIn_r (.code yX12_usual cX12_usual 2 (some .int) :: []) [5] rfl (by decide +kernel))
set_option maxRecDepth 20000 in
theorem g_X12_readOffice_3 : GoodIn q_X12_readOffice (va_wsS RX12 221 yX12_usual q_X12_usual_3) := goodIn_app (goodIn_r _ [8, 7, 6] rfl (by decide +kernel)) (goodIn_r (.code yX12_usual cX12_usual 2 (some .int) :: []) [5] rfl (by decide +kernel))
set_option maxRecDepth 20000 in
theorem g_X12_readOffice_4 : GoodIn q_X12_readOffice (wsV RX12 131 RX12 yX12_look q_X12_look) := goodIn_app (goodIn_r _ [18, 16, 17, 6] rfl (by decide +kernel)) (goodIn_ca (goodIn_r (.code yX12_look cX12_look 1 (some .int) :: [.code yX12_here cX12_here 1 (some .int), .fieldLink RX12 112 "LeftArgumentsModel" "at" "I", .fieldLink RX12 109 "LeftArgumentsModel" "size" "I", .fieldLink RX12 9 "LeftArgumentsModel" "tape" "[I", .initialized RX12, .instanceMethod yX12_here, .selects RX12 yX12_here yX12_here, .methodLink RX12 115 yX12_here]) [9, 10, 1, 11, 12, 6, 13, 14, 15] rfl (by decide +kernel)) (goodIn_sub (fun _ h => List.mem_cons_of_mem _ (List.mem_append_right _ h)) gwX12))
set_option maxRecDepth 20000 in
theorem g_X12_readOffice_5 : GoodIn q_X12_readOffice (wsV RX12 128 RX12 yX12_bad q_X12_bad) := goodIn_app (goodIn_r _ [22, 20, 21, 6] rfl (by decide +kernel)) (goodIn_ca (goodIn_r (.code yX12_bad cX12_bad 1 none :: [.fieldLink RX12 119 "LeftArgumentsModel" "wrong" "I", .fieldLink RX12 112 "LeftArgumentsModel" "at" "I"]) [19, 2, 1] rfl (by decide +kernel)) (goodIn_sub (fun _ h => List.mem_cons_of_mem _ (List.mem_append_right _ h)) gwX12))
set_option maxRecDepth 20000 in
theorem g_X12_readOffice_8 : GoodIn q_X12_readOffice (wsV RX12 244 RX12 yX12_items q_X12_items_2) := goodIn_app (goodIn_r _ [49, 47, 48, 6] rfl (by decide +kernel)) (goodIn_ca (goodIn_r (.code yX12_items cX12_items 7 none :: [.code yX12_usual cX12_usual 2 (some .int), .initialized RX12, .static yX12_usual, .methodLink RX12 221 yX12_usual, .code yX12_look cX12_look 1 (some .int), .code yX12_here cX12_here 1 (some .int), .fieldLink RX12 112 "LeftArgumentsModel" "at" "I", .fieldLink RX12 109 "LeftArgumentsModel" "size" "I", .fieldLink RX12 9 "LeftArgumentsModel" "tape" "[I", .instanceMethod yX12_here, .selects RX12 yX12_here yX12_here, .methodLink RX12 115 yX12_here, .instanceMethod yX12_look, .selects RX12 yX12_look yX12_look, .methodLink RX12 131 yX12_look, .code yX12_itemOf cX12_itemOf 2 (some .int), .static yX12_itemOf, .methodLink RX12 225 yX12_itemOf, .fieldLink RX12 119 "LeftArgumentsModel" "wrong" "I", .code yX12_has cX12_has 2 (some .boolean), .static yX12_has, .methodLink RX12 228 yX12_has, .code yX12_lowest cX12_lowest 2 (some .int), .static yX12_lowest, .methodLink RX12 232 yX12_lowest, .code yX12_highest cX12_highest 2 (some .int), .static yX12_highest, .methodLink RX12 235 yX12_highest, .code yX12_number cX12_number 4 (some .int), .code yX12_isDigit cX12_isDigit 1 (some .boolean), .static yX12_isDigit, .methodLink RX12 134 yX12_isDigit, .code yX12_bad cX12_bad 1 none, .instanceMethod yX12_bad, .selects RX12 yX12_bad yX12_bad, .methodLink RX12 128 yX12_bad, .code yX12_in cX12_in 3 (some .boolean), .static yX12_in, .methodLink RX12 217 yX12_in, .instanceMethod yX12_number, .selects RX12 yX12_number yX12_number, .methodLink RX12 238 yX12_number]) [24, 5, 6, 7, 8, 9, 10, 1, 11, 12, 13, 14, 15, 16, 17, 18, 25, 26, 27, 2, 28, 29, 30, 31, 32, 33, 34, 35, 36, 37, 38, 39, 40, 19, 20, 21, 22, 41, 42, 43, 44, 45, 46] rfl (by decide +kernel)) (goodIn_sub (fun _ h => List.mem_cons_of_mem _ (List.mem_append_right _ h)) gwX12))
set_option maxRecDepth 20000 in
theorem g_X12_readOffice_11 : GoodIn q_X12_readOffice (wsV RX12 248 RX12 yX12_isWhole q_X12_isWhole) := goodIn_app (goodIn_r _ [53, 51, 52, 6] rfl (by decide +kernel)) (goodIn_ca (goodIn_r (.code yX12_isWhole cX12_isWhole 3 (some .boolean) :: [.fieldLink RX12 241 "LeftArgumentsModel" "readBags" "I", .fieldLink RX12 43 "LeftArgumentsModel" "readBag" "[I", .fieldLink RX12 40 "LeftArgumentsModel" "readRule" "[I"]) [50, 3, 23, 4] rfl (by decide +kernel)) (goodIn_sub (fun _ h => List.mem_cons_of_mem _ (List.mem_append_right _ h)) gwX12))
set_option maxRecDepth 20000 in
theorem g_X12_readOffice_19 : GoodIn q_X12_readOffice (wsV RX12 244 RX12 yX12_items q_X12_items_1) := goodIn_app (goodIn_r _ [49, 47, 48, 6] rfl (by decide +kernel)) (goodIn_ca (goodIn_r (.code yX12_items cX12_items 7 none :: [.code yX12_usual cX12_usual 2 (some .int), .initialized RX12, .static yX12_usual, .methodLink RX12 221 yX12_usual, .code yX12_look cX12_look 1 (some .int), .code yX12_here cX12_here 1 (some .int), .fieldLink RX12 112 "LeftArgumentsModel" "at" "I", .fieldLink RX12 109 "LeftArgumentsModel" "size" "I", .fieldLink RX12 9 "LeftArgumentsModel" "tape" "[I", .instanceMethod yX12_here, .selects RX12 yX12_here yX12_here, .methodLink RX12 115 yX12_here, .instanceMethod yX12_look, .selects RX12 yX12_look yX12_look, .methodLink RX12 131 yX12_look, .code yX12_itemOf cX12_itemOf 2 (some .int), .static yX12_itemOf, .methodLink RX12 225 yX12_itemOf, .fieldLink RX12 119 "LeftArgumentsModel" "wrong" "I", .code yX12_has cX12_has 2 (some .boolean), .static yX12_has, .methodLink RX12 228 yX12_has, .code yX12_lowest cX12_lowest 2 (some .int), .static yX12_lowest, .methodLink RX12 232 yX12_lowest, .code yX12_highest cX12_highest 2 (some .int), .static yX12_highest, .methodLink RX12 235 yX12_highest, .code yX12_number cX12_number 4 (some .int), .code yX12_isDigit cX12_isDigit 1 (some .boolean), .static yX12_isDigit, .methodLink RX12 134 yX12_isDigit, .code yX12_bad cX12_bad 1 none, .instanceMethod yX12_bad, .selects RX12 yX12_bad yX12_bad, .methodLink RX12 128 yX12_bad, .code yX12_in cX12_in 3 (some .boolean), .static yX12_in, .methodLink RX12 217 yX12_in, .instanceMethod yX12_number, .selects RX12 yX12_number yX12_number, .methodLink RX12 238 yX12_number]) [24, 5, 6, 7, 8, 9, 10, 1, 11, 12, 13, 14, 15, 16, 17, 18, 25, 26, 27, 2, 28, 29, 30, 31, 32, 33, 34, 35, 36, 37, 38, 39, 40, 19, 20, 21, 22, 41, 42, 43, 44, 45, 46] rfl (by decide +kernel)) (goodIn_sub (fun _ h => List.mem_cons_of_mem _ (List.mem_append_right _ h)) gwX12))
set_option maxHeartbeats 4000000 in
set_option maxRecDepth 100000 in
theorem k_X12_readOffice (l : Launch) (dC : Nat → ClassId) (dI : Nat → Nat → Nat) (h0 : Nat) (h1 : Nat) (h2 : Nat) (h3 : Nat) (v0 : Int32) (v1 : Int32) (v2 : Int32) (v3 : Int32) (v4 : Int32) (r0 : Nat) (r1 : Nat) (r2 : Nat) (r3 : Nat) (r4 : Nat) (r5 : Nat) (r6 : Nat) (v5 : Int32) (v6 : Int32) (r7 : Nat) (r8 : Nat) (v7 : Int32) (r9 : Nat) (r10 : Nat) (v8 : Int32) (v9 : Int32) (r11 : Nat) (r12 : Nat) (v10 : Int32) (v11 : Int32) (r13 : Nat) (v12 : Int32) (v13 : Int32) (r14 : Nat) (v14 : Int32) (w15 : Int64) (r15 : Nat) (v16 : Int32) (v17 : Int32) (r16 : Nat) (r17 : Nat) (r18 : Nat) (r19 : Nat) (r20 : Nat) (r21 : Nat) (v18 : Int32) (r22 : Nat) (r23 : Nat) (r24 : Nat) (v19 : Int32) (g0 : ClassId) (f20 : Nat → Int32) (g1 : ClassId) (f21 : Nat → Int32) (g2 : ClassId) (f22 : Nat → Int32) (i_v1 : 0 ≤ v1.toInt ∧ v1.toInt ≤ 240) (i_v5 : 0 ≤ v5.toInt ∧ v5.toInt ≤ 4) (i_v6 : 0 ≤ v6.toInt ∧ v6.toInt ≤ 4) (i_v7 : 0 ≤ v7.toInt ∧ v7.toInt ≤ 8) (i_v8 : 0 ≤ v8.toInt ∧ v8.toInt ≤ 8) (i_v9 : 0 ≤ v9.toInt ∧ v9.toInt ≤ 1) (i_v10 : -1 ≤ v10.toInt ∧ v10.toInt ≤ 3) (i_v14 : 0 ≤ v14.toInt ∧ v14.toInt ≤ 40) (i_v18 : 0 ≤ v18.toInt ∧ v18.toInt ≤ 10) (i_v19 : 0 ≤ v19.toInt ∧ v19.toInt ≤ 1) (ia_f20 : (∀ j, 0 ≤ (f20 j).toInt ∧ (f20 j).toInt ≤ 255)) (sz : Nat) : Met l yX12_readOffice q_X12_readOffice ({ frames := 4, cells := 0, slots := 0, locals := 89 }) (va_Pc [.ref h0] (fun U => U.heap.size = sz ∧ va_P (dC, dI) vwCl (wd_77d3d1bb h0 v0 h1 v1 v2 v3 v4 r0 r1 r2 r3 r4 r5 r6 v5 v6 r7 r8 h2 h3 v7 r9 r10 v8 v9 r11 r12 v10 v11 r13 v12 v13 r14 v14 w15 r15 v16 v17 r16 r17 r18 r19 r20 r21 v18 r22 r23 r24 v19 h1 g0 f20 h2 g1 f21 h3 g2 f22) U.heap ∧ va_K (dC, dI) vwCl [(g0, .int), (g1, .int), (g2, .int)] U ∧ va_D (fun _ => True) (wd_77d3d1bb h0 v0 h1 v1 v2 v3 v4 r0 r1 r2 r3 r4 r5 r6 v5 v6 r7 r8 h2 h3 v7 r9 r10 v8 v9 r11 r12 v10 v11 r13 v12 v13 r14 v14 w15 r15 v16 v17 r16 r17 r18 r19 r20 r21 v18 r22 r23 r24 v19 h1 g0 f20 h2 g1 f21 h3 g2 f22))) (va_Qi (fun (r : Int32) (r9 : Int32) => r9 = r) (fun (r : Int32) (t : State) => (∃ (o_h0_3 : Int32) (o_h0_19 : Int32) (o_h2 : Nat → Int32) (o_h3 : Nat → Int32), 0 ≤ o_h0_3.toInt ∧ o_h0_3.toInt ≤ 240 ∧ 0 ≤ o_h0_19.toInt ∧ o_h0_19.toInt ≤ 8 ∧ (-1 ≤ r.toInt) ∧ (r.toInt ≤ -1) ∧ (pm_RR o_h2) ∧ (pm_BG o_h0_19 o_h3) ∧ (pg_office f20 v1.toInt = (-1, o_h0_19.toInt)) ∧ va_P (dC, dI) vwCl (wd_77d3d1bb h0 v0 h1 v1 o_h0_3 (-1) v4 r0 r1 r2 r3 r4 r5 r6 v5 v6 r7 r8 h2 h3 o_h0_19 r9 r10 v8 v9 r11 r12 v10 v11 r13 v12 v13 r14 v14 w15 r15 v16 v17 r16 r17 r18 r19 r20 r21 v18 r22 r23 r24 v19 h1 g0 f20 h2 g1 o_h2 h3 g2 o_h3) t.heap ∧ va_K (dC, dI) vwCl [] t ∧ va_D (va_A (wd_77d3d1bb h0 v0 h1 v1 v2 v3 v4 r0 r1 r2 r3 r4 r5 r6 v5 v6 r7 r8 h2 h3 v7 r9 r10 v8 v9 r11 r12 v10 v11 r13 v12 v13 r14 v14 w15 r15 v16 v17 r16 r17 r18 r19 r20 r21 v18 r22 r23 r24 v19 h1 g0 f20 h2 g1 f21 h3 g2 f22) sz) (wd_77d3d1bb h0 v0 h1 v1 o_h0_3 (-1) v4 r0 r1 r2 r3 r4 r5 r6 v5 v6 r7 r8 h2 h3 o_h0_19 r9 r10 v8 v9 r11 r12 v10 v11 r13 v12 v13 r14 v14 w15 r15 v16 v17 r16 r17 r18 r19 r20 r21 v18 r22 r23 r24 v19 h1 g0 f20 h2 g1 o_h2 h3 g2 o_h3)) ∨ (∃ (o_h0_3 : Int32) (o_h0_4 : Int32) (o_h0_19 : Int32) (o_h2 : Nat → Int32) (o_h3 : Nat → Int32), 0 ≤ o_h0_3.toInt ∧ o_h0_3.toInt ≤ 240 ∧ 0 ≤ o_h0_4.toInt ∧ o_h0_4.toInt ≤ 240 ∧ 0 ≤ o_h0_19.toInt ∧ o_h0_19.toInt ≤ 8 ∧ (0 ≤ r.toInt) ∧ (r.toInt ≤ 240) ∧ ((pg_office f20 v1.toInt).1 = r.toInt) ∧ (¬ r.toInt = -1) ∧ va_P (dC, dI) vwCl (wd_77d3d1bb h0 v0 h1 v1 o_h0_3 o_h0_4 v4 r0 r1 r2 r3 r4 r5 r6 v5 v6 r7 r8 h2 h3 o_h0_19 r9 r10 v8 v9 r11 r12 v10 v11 r13 v12 v13 r14 v14 w15 r15 v16 v17 r16 r17 r18 r19 r20 r21 v18 r22 r23 r24 v19 h1 g0 f20 h2 g1 o_h2 h3 g2 o_h3) t.heap ∧ va_K (dC, dI) vwCl [] t ∧ va_D (va_A (wd_77d3d1bb h0 v0 h1 v1 v2 v3 v4 r0 r1 r2 r3 r4 r5 r6 v5 v6 r7 r8 h2 h3 v7 r9 r10 v8 v9 r11 r12 v10 v11 r13 v12 v13 r14 v14 w15 r15 v16 v17 r16 r17 r18 r19 r20 r21 v18 r22 r23 r24 v19 h1 g0 f20 h2 g1 f21 h3 g2 f22) sz) (wd_77d3d1bb h0 v0 h1 v1 o_h0_3 o_h0_4 v4 r0 r1 r2 r3 r4 r5 r6 v5 v6 r7 r8 h2 h3 o_h0_19 r9 r10 v8 v9 r11 r12 v10 v11 r13 v12 v13 r14 v14 w15 r15 v16 v17 r16 r17 r18 r19 r20 r21 v18 r22 r23 r24 v19 h1 g0 f20 h2 g1 o_h2 h3 g2 o_h3))) (va_A (wd_77d3d1bb h0 v0 h1 v1 v2 v3 v4 r0 r1 r2 r3 r4 r5 r6 v5 v6 r7 r8 h2 h3 v7 r9 r10 v8 v9 r11 r12 v10 v11 r13 v12 v13 r14 v14 w15 r15 v16 v17 r16 r17 r18 r19 r20 r21 v18 r22 r23 r24 v19 h1 g0 f20 h2 g1 f21 h3 g2 f22) sz)) 0 0 (va_A (wd_77d3d1bb h0 v0 h1 v1 v2 v3 v4 r0 r1 r2 r3 r4 r5 r6 v5 v6 r7 r8 h2 h3 v7 r9 r10 v8 v9 r11 r12 v10 v11 r13 v12 v13 r14 v14 w15 r15 v16 v17 r16 r17 r18 r19 r20 r21 v18 r22 r23 r24 v19 h1 g0 f20 h2 g1 f21 h3 g2 f22) sz) := by
  refine Met.ofW (cc := cX12_readOffice) (maxL := 4) (ret := (some .int)) (by decide) rfl ?_
  intro p e s m args below meth c s₁ B hml hv
  obtain ⟨i_v1a, i_v1b⟩ := i_v1
  obtain ⟨i_v5a, i_v5b⟩ := i_v5
  obtain ⟨i_v6a, i_v6b⟩ := i_v6
  obtain ⟨i_v7a, i_v7b⟩ := i_v7
  obtain ⟨i_v8a, i_v8b⟩ := i_v8
  obtain ⟨i_v9a, i_v9b⟩ := i_v9
  obtain ⟨i_v10a, i_v10b⟩ := i_v10
  obtain ⟨i_v14a, i_v14b⟩ := i_v14
  obtain ⟨i_v18a, i_v18b⟩ := i_v18
  obtain ⟨i_v19a, i_v19b⟩ := i_v19
  obtain ⟨rfl, hsz, hP, hK, hD0⟩ := hv
  have hx := B.exec
  have hb := B.bytes
  have hr := B.returns
  have hts := atoms_spec (ws := q_X12_readOffice) B.pre
  have hown : s.vm.findClass RX12 = some m.cls := findClass_of_methodNamed B.named
  have hlocks := B.notSynchronized
  subst hsz
  have hD := hD0.self (sz := s.heap.size)
  generalize hAe : va_A (wd_77d3d1bb h0 v0 h1 v1 v2 v3 v4 r0 r1 r2 r3 r4 r5 r6 v5 v6 r7 r8 h2 h3 v7 r9 r10 v8 v9 r11 r12 v10 v11 r13 v12 v13 r14 v14 w15 r15 v16 v17 r16 r17 r18 r19 r20 r21 v18 r22 r23 r24 v19 h1 g0 f20 h2 g1 f21 h3 g2 f22) s.heap.size = A at hD ⊢
  have hA : ∀ q : Nat, s.heap.size ≤ q → A q := fun q h => by rw [← hAe]; exact Or.inr h
  have hS : va_S A s.heap s.heap [] := va_S.rf
  generalize hQ : (MQ below _ _ s 0 0 A) = Q
  have hl := lv_entry ([.ref h0]) (n := 4) (Nat.le_of_ble_eq_true rfl)
  rw [lg_entry_eq]
  generalize (lg_sl ([.ref h0]) ++ List.replicate (4 - (lg_sl ([.ref h0])).length) Slot.unset).toArray = ls at hl ⊢
  have hl : lv_has ls 4 [(0, .ref h0)] := hl
  obtain ⟨H, hH⟩ : ∃ H : Heap, H = s.heap := ⟨_, rfl⟩
  obtain ⟨locs, hlocs⟩ : ∃ y : List Loc, y = [] := ⟨_, rfl⟩
  have hS : va_S A s.heap H locs := by rw [hH, hlocs]; exact va_S.rf
  have hP : va_P (dC, dI) vwCl (wd_77d3d1bb h0 v0 h1 v1 v2 v3 v4 r0 r1 r2 r3 r4 r5 r6 v5 v6 r7 r8 h2 h3 v7 r9 r10 v8 v9 r11 r12 v10 v11 r13 v12 v13 r14 v14 w15 r15 v16 v17 r16 r17 r18 r19 r20 r21 v18 r22 r23 r24 v19 h1 g0 f20 h2 g1 f21 h3 g2 f22) H := by rw [hH]; exact hP
  rw [← hH, ← hlocs]
  refine lv_aload_n hx hb dX12_readOffice_0 rfl (lv_at hl 0 rfl) ?_
  refine lv_iconst (v := 0) hx hb dX12_readOffice_1 (by decide) ?_
  refine va_put (D := (dC, dI)) (ci := 12) (v := .int 0) (ty := .int) (C := RX12) (T := TX12) (N := 48) hx hb hts (fun _ h => List.mem_cons_of_mem _ (List.mem_append_right _ h)) tyX12 tyX12_ok nmX12 hown hK hP hD hS 0 rfl rfl 3 (by decide) (hts (.fieldLink RX12 112 "LeftArgumentsModel" "at" "I") (List.mem_cons_of_mem _ (List.mem_append_left _ (List.mem_of_getElem? (i := 0) rfl)))) (fun _ h9 => h9) rfl (by decide +kernel) rfl rfl (Nat.le_of_ble_eq_true rfl) dX12_readOffice_2 (fun H locs hP hD hS => ?_)
  have hP : va_P (dC, dI) vwCl (wd_77d3d1bb h0 v0 h1 v1 0 v3 v4 r0 r1 r2 r3 r4 r5 r6 v5 v6 r7 r8 h2 h3 v7 r9 r10 v8 v9 r11 r12 v10 v11 r13 v12 v13 r14 v14 w15 r15 v16 v17 r16 r17 r18 r19 r20 r21 v18 r22 r23 r24 v19 h1 g0 f20 h2 g1 f21 h3 g2 f22) H := hP
  have hD : va_D A (wd_77d3d1bb h0 v0 h1 v1 0 v3 v4 r0 r1 r2 r3 r4 r5 r6 v5 v6 r7 r8 h2 h3 v7 r9 r10 v8 v9 r11 r12 v10 v11 r13 v12 v13 r14 v14 w15 r15 v16 v17 r16 r17 r18 r19 r20 r21 v18 r22 r23 r24 v19 h1 g0 f20 h2 g1 f21 h3 g2 f22) := hD
  refine lv_aload_n hx hb dX12_readOffice_5 rfl (lv_at hl 0 rfl) ?_
  refine lv_iconst (v := (-1)) hx hb dX12_readOffice_6 (by decide) ?_
  refine va_put (D := (dC, dI)) (ci := 12) (v := .int (-1)) (ty := .int) (C := RX12) (T := TX12) (N := 48) hx hb hts (fun _ h => List.mem_cons_of_mem _ (List.mem_append_right _ h)) tyX12 tyX12_ok nmX12 hown hK hP hD hS 0 rfl rfl 4 (by decide) (hts (.fieldLink RX12 119 "LeftArgumentsModel" "wrong" "I") (List.mem_cons_of_mem _ (List.mem_append_left _ (List.mem_of_getElem? (i := 1) rfl)))) (fun _ h9 => h9) rfl (by decide +kernel) rfl rfl (Nat.le_of_ble_eq_true rfl) dX12_readOffice_7 (fun H locs hP hD hS => ?_)
  have hP : va_P (dC, dI) vwCl (wd_77d3d1bb h0 v0 h1 v1 0 (-1) v4 r0 r1 r2 r3 r4 r5 r6 v5 v6 r7 r8 h2 h3 v7 r9 r10 v8 v9 r11 r12 v10 v11 r13 v12 v13 r14 v14 w15 r15 v16 v17 r16 r17 r18 r19 r20 r21 v18 r22 r23 r24 v19 h1 g0 f20 h2 g1 f21 h3 g2 f22) H := hP
  have hD : va_D A (wd_77d3d1bb h0 v0 h1 v1 0 (-1) v4 r0 r1 r2 r3 r4 r5 r6 v5 v6 r7 r8 h2 h3 v7 r9 r10 v8 v9 r11 r12 v10 v11 r13 v12 v13 r14 v14 w15 r15 v16 v17 r16 r17 r18 r19 r20 r21 v18 r22 r23 r24 v19 h1 g0 f20 h2 g1 f21 h3 g2 f22) := hD
  refine lv_aload_n hx hb dX12_readOffice_10 rfl (lv_at hl 0 rfl) ?_
  refine lv_iconst (v := 0) hx hb dX12_readOffice_11 (by decide) ?_
  refine va_put (D := (dC, dI)) (ci := 12) (v := .int 0) (ty := .int) (C := RX12) (T := TX12) (N := 48) hx hb hts (fun _ h => List.mem_cons_of_mem _ (List.mem_append_right _ h)) tyX12 tyX12_ok nmX12 hown hK hP hD hS 0 rfl rfl 19 (by decide) (hts (.fieldLink RX12 241 "LeftArgumentsModel" "readBags" "I") (List.mem_cons_of_mem _ (List.mem_append_left _ (List.mem_of_getElem? (i := 2) rfl)))) (fun _ h9 => h9) rfl (by decide +kernel) rfl rfl (Nat.le_of_ble_eq_true rfl) dX12_readOffice_12 (fun H locs hP hD hS => ?_)
  have hP : va_P (dC, dI) vwCl (wd_77d3d1bb h0 v0 h1 v1 0 (-1) v4 r0 r1 r2 r3 r4 r5 r6 v5 v6 r7 r8 h2 h3 0 r9 r10 v8 v9 r11 r12 v10 v11 r13 v12 v13 r14 v14 w15 r15 v16 v17 r16 r17 r18 r19 r20 r21 v18 r22 r23 r24 v19 h1 g0 f20 h2 g1 f21 h3 g2 f22) H := hP
  have hD : va_D A (wd_77d3d1bb h0 v0 h1 v1 0 (-1) v4 r0 r1 r2 r3 r4 r5 r6 v5 v6 r7 r8 h2 h3 0 r9 r10 v8 v9 r11 r12 v10 v11 r13 v12 v13 r14 v14 w15 r15 v16 v17 r16 r17 r18 r19 r20 r21 v18 r22 r23 r24 v19 h1 g0 f20 h2 g1 f21 h3 g2 f22) := hD
  refine lv_iconst (v := 0) hx hb dX12_readOffice_15 (by decide) ?_
  refine lv_istore_n (lv' := [(1, .int 0), (0, .ref h0)]) hx hb dX12_readOffice_16 rfl hl (by decide) rfl (fun ls hl => ?_)
  refine lv_iconst (v := 0) hx hb dX12_readOffice_17 (by decide) ?_
  refine lv_istore_n (lv' := [(2, .int 0), (1, .int 0), (0, .ref h0)]) hx hb dX12_readOffice_18 rfl hl (by decide) rfl (fun ls hl => ?_)
  refine lv_iload_n hx hb dX12_readOffice_19 rfl (lv_at hl 0 rfl) ?_
  refine lv_iconst (v := 4) hx hb dX12_readOffice_20 (by decide) ?_
  refine lv_icmp_ge (tgt := 42) hx hb dX12_readOffice_21 (by decide) (fun c => absurd c (by decide)) (fun _ => ?_)
  refine lv_aload_n hx hb dX12_readOffice_24 rfl (lv_at hl 2 rfl) ?_
  refine va_get (D := (dC, dI)) (ci := 12) (v := .ref h2) (C := RX12) (T := TX12) (N := 48) hx hb hts (fun _ h => List.mem_cons_of_mem _ (List.mem_append_right _ h)) hown hK hP 0 rfl rfl 17 (by decide) (hts (.fieldLink RX12 40 "LeftArgumentsModel" "readRule" "[I") (List.mem_cons_of_mem _ (List.mem_append_left _ (List.mem_of_getElem? (i := 3) rfl)))) (fun _ h9 => h9) rfl dX12_readOffice_25 ?_
  refine lv_iload_n hx hb dX12_readOffice_28 rfl (lv_at hl 0 rfl) ?_
  refine lv_bipush (v := 115) hx hb dX12_readOffice_29 (by decide) ?_
  refine lv_iload_n hx hb dX12_readOffice_31 rfl (lv_at hl 0 rfl) ?_
  have hPc := hP.sub (ws' := []) [] rfl
  have hDc := hD.sub (ws' := []) [] (by decide) rfl
  have hKc := hK.sub (tys' := []) [] rfl
  have hFc := va_free (wc := []) hD hS hA [] rfl
  refine va_calli (va_runS (As := [.int 115, .int 0]) (rest := [.int 0, .ref h2]) ⟨hx, hb, hml, hown, hts⟩ (k_X12_usual l dC dI   H.size) (va_cwS 2 hts g_X12_readOffice_0 rfl rfl rfl (by decide +kernel) ⟨Nat.le_of_ble_eq_true rfl, Nat.le_of_ble_eq_true rfl⟩) (pv_PS hPc hKc hDc) rfl rfl hl.1 rfl (lv_room (Nat.le_of_ble_eq_true rfl)) dX12_readOffice_32 ⟨Nat.le_of_ble_eq_true rfl, Nat.le_of_ble_eq_true rfl⟩) hS (fun q _ h => hFc q h) hFc (fun ra1 u t H1 locs ht hvm hwra1 hB hz1 hk1 hS => ?_)
  try rw [hwra1] at hB
  obtain ⟨pt0_ra1, pt1_ra1, hP1, hK1, hD1⟩ := hB
  rw [ht] at hP1
  obtain ⟨hP2, hD2⟩ := va_join (wr := (wd_77d3d1bb h0 v0 h1 v1 0 (-1) v4 r0 r1 r2 r3 r4 r5 r6 v5 v6 r7 r8 h2 h3 0 r9 r10 v8 v9 r11 r12 v10 v11 r13 v12 v13 r14 v14 w15 r15 v16 v17 r16 r17 r18 r19 r20 r21 v18 r22 r23 r24 v19 h1 g0 f20 h2 g1 f21 h3 g2 f22)) (w1 := []) hP hD [] [0, 1, 2, 3] rfl rfl (by decide) (by decide) hk1 hFc hP1 hD1
  clear hP hD hPc hDc hKc hFc hP1 hK1 hD1 hk1 hz1
  generalize H1 = H at hP2 hS ⊢
  have hP : va_P (dC, dI) vwCl (wd_77d3d1bb h0 v0 h1 v1 0 (-1) v4 r0 r1 r2 r3 r4 r5 r6 v5 v6 r7 r8 h2 h3 0 r9 r10 v8 v9 r11 r12 v10 v11 r13 v12 v13 r14 v14 w15 r15 v16 v17 r16 r17 r18 r19 r20 r21 v18 r22 r23 r24 v19 h1 g0 f20 h2 g1 f21 h3 g2 f22) H := hP2
  have hD : va_D A (wd_77d3d1bb h0 v0 h1 v1 0 (-1) v4 r0 r1 r2 r3 r4 r5 r6 v5 v6 r7 r8 h2 h3 0 r9 r10 v8 v9 r11 r12 v10 v11 r13 v12 v13 r14 v14 w15 r15 v16 v17 r16 r17 r18 r19 r20 r21 v18 r22 r23 r24 v19 h1 g0 f20 h2 g1 f21 h3 g2 f22) := hD2
  clear hP2 hD2
  obtain rfl : ra1 = (20 : Int32) := pv_cs (by decide) pt0_ra1 pt1_ra1
  refine va_iast hx hb hK hP hD hS 2 1 rfl rfl (pv_c (x := 0) (n := 4) (by decide)) dX12_readOffice_35 (fun H locs hP hD hS => ?_)
  obtain ⟨fn2, efn2⟩ : ∃ g : Nat → Int32, g = upd f21 (Int32.toNatClampNeg 0) 20 := ⟨_, rfl⟩
  rw [← efn2] at hP hD
  have hP : va_P (dC, dI) vwCl (wd_77d3d1bb h0 v0 h1 v1 0 (-1) v4 r0 r1 r2 r3 r4 r5 r6 v5 v6 r7 r8 h2 h3 0 r9 r10 v8 v9 r11 r12 v10 v11 r13 v12 v13 r14 v14 w15 r15 v16 v17 r16 r17 r18 r19 r20 r21 v18 r22 r23 r24 v19 h1 g0 f20 h2 g1 fn2 h3 g2 f22) H := hP
  have hD : va_D A (wd_77d3d1bb h0 v0 h1 v1 0 (-1) v4 r0 r1 r2 r3 r4 r5 r6 v5 v6 r7 r8 h2 h3 0 r9 r10 v8 v9 r11 r12 v10 v11 r13 v12 v13 r14 v14 w15 r15 v16 v17 r16 r17 r18 r19 r20 r21 v18 r22 r23 r24 v19 h1 g0 f20 h2 g1 fn2 h3 g2 f22) := hD
  refine lv_iinc (v := 1) (lv' := [(2, .int 1), (1, .int 0), (0, .ref h0)]) hx hb dX12_readOffice_36 hl (k := 0) rfl (by decide) (by decide) rfl (fun ls hl => ?_)
  refine lv_goto (tgt := 19) hx hb dX12_readOffice_39 (by decide) ?_
  refine lv_iload_n hx hb dX12_readOffice_19 rfl (lv_at hl 0 rfl) ?_
  refine lv_iconst (v := 4) hx hb dX12_readOffice_20 (by decide) ?_
  refine lv_icmp_ge (tgt := 42) hx hb dX12_readOffice_21 (by decide) (fun c => absurd c (by decide)) (fun _ => ?_)
  refine lv_aload_n hx hb dX12_readOffice_24 rfl (lv_at hl 2 rfl) ?_
  refine va_get (D := (dC, dI)) (ci := 12) (v := .ref h2) (C := RX12) (T := TX12) (N := 48) hx hb hts (fun _ h => List.mem_cons_of_mem _ (List.mem_append_right _ h)) hown hK hP 0 rfl rfl 17 (by decide) (hts (.fieldLink RX12 40 "LeftArgumentsModel" "readRule" "[I") (List.mem_cons_of_mem _ (List.mem_append_left _ (List.mem_of_getElem? (i := 3) rfl)))) (fun _ h9 => h9) rfl dX12_readOffice_25 ?_
  refine lv_iload_n hx hb dX12_readOffice_28 rfl (lv_at hl 0 rfl) ?_
  refine lv_bipush (v := 115) hx hb dX12_readOffice_29 (by decide) ?_
  refine lv_iload_n hx hb dX12_readOffice_31 rfl (lv_at hl 0 rfl) ?_
  have hPc := hP.sub (ws' := []) [] rfl
  have hDc := hD.sub (ws' := []) [] (by decide) rfl
  have hKc := hK.sub (tys' := []) [] rfl
  have hFc := va_free (wc := []) hD hS hA [] rfl
  refine va_calli (va_runS (As := [.int 115, .int 1]) (rest := [.int 1, .ref h2]) ⟨hx, hb, hml, hown, hts⟩ (k_X12_usual_1 l dC dI   H.size) (va_cwS 2 hts g_X12_readOffice_1 rfl rfl rfl (by decide +kernel) ⟨Nat.le_of_ble_eq_true rfl, Nat.le_of_ble_eq_true rfl⟩) (pv_PS hPc hKc hDc) rfl rfl hl.1 rfl (lv_room (Nat.le_of_ble_eq_true rfl)) dX12_readOffice_32 ⟨Nat.le_of_ble_eq_true rfl, Nat.le_of_ble_eq_true rfl⟩) hS (fun q _ h => hFc q h) hFc (fun ra3 u t H1 locs ht hvm hwra3 hB hz1 hk1 hS => ?_)
  try rw [hwra3] at hB
  obtain ⟨pt0_ra3, pt1_ra3, hP1, hK1, hD1⟩ := hB
  rw [ht] at hP1
  obtain ⟨hP2, hD2⟩ := va_join (wr := (wd_77d3d1bb h0 v0 h1 v1 0 (-1) v4 r0 r1 r2 r3 r4 r5 r6 v5 v6 r7 r8 h2 h3 0 r9 r10 v8 v9 r11 r12 v10 v11 r13 v12 v13 r14 v14 w15 r15 v16 v17 r16 r17 r18 r19 r20 r21 v18 r22 r23 r24 v19 h1 g0 f20 h2 g1 fn2 h3 g2 f22)) (w1 := []) hP hD [] [0, 1, 2, 3] rfl rfl (by decide) (by decide) hk1 hFc hP1 hD1
  clear hP hD hPc hDc hKc hFc hP1 hK1 hD1 hk1 hz1
  generalize H1 = H at hP2 hS ⊢
  have hP : va_P (dC, dI) vwCl (wd_77d3d1bb h0 v0 h1 v1 0 (-1) v4 r0 r1 r2 r3 r4 r5 r6 v5 v6 r7 r8 h2 h3 0 r9 r10 v8 v9 r11 r12 v10 v11 r13 v12 v13 r14 v14 w15 r15 v16 v17 r16 r17 r18 r19 r20 r21 v18 r22 r23 r24 v19 h1 g0 f20 h2 g1 fn2 h3 g2 f22) H := hP2
  have hD : va_D A (wd_77d3d1bb h0 v0 h1 v1 0 (-1) v4 r0 r1 r2 r3 r4 r5 r6 v5 v6 r7 r8 h2 h3 0 r9 r10 v8 v9 r11 r12 v10 v11 r13 v12 v13 r14 v14 w15 r15 v16 v17 r16 r17 r18 r19 r20 r21 v18 r22 r23 r24 v19 h1 g0 f20 h2 g1 fn2 h3 g2 f22) := hD2
  clear hP2 hD2
  obtain rfl : ra3 = (3 : Int32) := pv_cs (by decide) pt0_ra3 pt1_ra3
  refine va_iast hx hb hK hP hD hS 2 1 rfl rfl (pv_c (x := 1) (n := 4) (by decide)) dX12_readOffice_35 (fun H locs hP hD hS => ?_)
  obtain ⟨fn4, efn4⟩ : ∃ g : Nat → Int32, g = upd fn2 (Int32.toNatClampNeg 1) 3 := ⟨_, rfl⟩
  rw [← efn4] at hP hD
  have hP : va_P (dC, dI) vwCl (wd_77d3d1bb h0 v0 h1 v1 0 (-1) v4 r0 r1 r2 r3 r4 r5 r6 v5 v6 r7 r8 h2 h3 0 r9 r10 v8 v9 r11 r12 v10 v11 r13 v12 v13 r14 v14 w15 r15 v16 v17 r16 r17 r18 r19 r20 r21 v18 r22 r23 r24 v19 h1 g0 f20 h2 g1 fn4 h3 g2 f22) H := hP
  have hD : va_D A (wd_77d3d1bb h0 v0 h1 v1 0 (-1) v4 r0 r1 r2 r3 r4 r5 r6 v5 v6 r7 r8 h2 h3 0 r9 r10 v8 v9 r11 r12 v10 v11 r13 v12 v13 r14 v14 w15 r15 v16 v17 r16 r17 r18 r19 r20 r21 v18 r22 r23 r24 v19 h1 g0 f20 h2 g1 fn4 h3 g2 f22) := hD
  refine lv_iinc (v := 2) (lv' := [(2, .int 2), (1, .int 0), (0, .ref h0)]) hx hb dX12_readOffice_36 hl (k := 0) rfl (by decide) (by decide) rfl (fun ls hl => ?_)
  refine lv_goto (tgt := 19) hx hb dX12_readOffice_39 (by decide) ?_
  refine lv_iload_n hx hb dX12_readOffice_19 rfl (lv_at hl 0 rfl) ?_
  refine lv_iconst (v := 4) hx hb dX12_readOffice_20 (by decide) ?_
  refine lv_icmp_ge (tgt := 42) hx hb dX12_readOffice_21 (by decide) (fun c => absurd c (by decide)) (fun _ => ?_)
  refine lv_aload_n hx hb dX12_readOffice_24 rfl (lv_at hl 2 rfl) ?_
  refine va_get (D := (dC, dI)) (ci := 12) (v := .ref h2) (C := RX12) (T := TX12) (N := 48) hx hb hts (fun _ h => List.mem_cons_of_mem _ (List.mem_append_right _ h)) hown hK hP 0 rfl rfl 17 (by decide) (hts (.fieldLink RX12 40 "LeftArgumentsModel" "readRule" "[I") (List.mem_cons_of_mem _ (List.mem_append_left _ (List.mem_of_getElem? (i := 3) rfl)))) (fun _ h9 => h9) rfl dX12_readOffice_25 ?_
  refine lv_iload_n hx hb dX12_readOffice_28 rfl (lv_at hl 0 rfl) ?_
  refine lv_bipush (v := 115) hx hb dX12_readOffice_29 (by decide) ?_
  refine lv_iload_n hx hb dX12_readOffice_31 rfl (lv_at hl 0 rfl) ?_
  have hPc := hP.sub (ws' := []) [] rfl
  have hDc := hD.sub (ws' := []) [] (by decide) rfl
  have hKc := hK.sub (tys' := []) [] rfl
  have hFc := va_free (wc := []) hD hS hA [] rfl
  refine va_calli (va_runS (As := [.int 115, .int 2]) (rest := [.int 2, .ref h2]) ⟨hx, hb, hml, hown, hts⟩ (k_X12_usual_2 l dC dI   H.size) (va_cwS 2 hts g_X12_readOffice_2 rfl rfl rfl (by decide +kernel) ⟨Nat.le_of_ble_eq_true rfl, Nat.le_of_ble_eq_true rfl⟩) (pv_PS hPc hKc hDc) rfl rfl hl.1 rfl (lv_room (Nat.le_of_ble_eq_true rfl)) dX12_readOffice_32 ⟨Nat.le_of_ble_eq_true rfl, Nat.le_of_ble_eq_true rfl⟩) hS (fun q _ h => hFc q h) hFc (fun ra5 u t H1 locs ht hvm hwra5 hB hz1 hk1 hS => ?_)
  try rw [hwra5] at hB
  obtain ⟨pt0_ra5, pt1_ra5, hP1, hK1, hD1⟩ := hB
  rw [ht] at hP1
  obtain ⟨hP2, hD2⟩ := va_join (wr := (wd_77d3d1bb h0 v0 h1 v1 0 (-1) v4 r0 r1 r2 r3 r4 r5 r6 v5 v6 r7 r8 h2 h3 0 r9 r10 v8 v9 r11 r12 v10 v11 r13 v12 v13 r14 v14 w15 r15 v16 v17 r16 r17 r18 r19 r20 r21 v18 r22 r23 r24 v19 h1 g0 f20 h2 g1 fn4 h3 g2 f22)) (w1 := []) hP hD [] [0, 1, 2, 3] rfl rfl (by decide) (by decide) hk1 hFc hP1 hD1
  clear hP hD hPc hDc hKc hFc hP1 hK1 hD1 hk1 hz1
  generalize H1 = H at hP2 hS ⊢
  have hP : va_P (dC, dI) vwCl (wd_77d3d1bb h0 v0 h1 v1 0 (-1) v4 r0 r1 r2 r3 r4 r5 r6 v5 v6 r7 r8 h2 h3 0 r9 r10 v8 v9 r11 r12 v10 v11 r13 v12 v13 r14 v14 w15 r15 v16 v17 r16 r17 r18 r19 r20 r21 v18 r22 r23 r24 v19 h1 g0 f20 h2 g1 fn4 h3 g2 f22) H := hP2
  have hD : va_D A (wd_77d3d1bb h0 v0 h1 v1 0 (-1) v4 r0 r1 r2 r3 r4 r5 r6 v5 v6 r7 r8 h2 h3 0 r9 r10 v8 v9 r11 r12 v10 v11 r13 v12 v13 r14 v14 w15 r15 v16 v17 r16 r17 r18 r19 r20 r21 v18 r22 r23 r24 v19 h1 g0 f20 h2 g1 fn4 h3 g2 f22) := hD2
  clear hP2 hD2
  obtain rfl : ra5 = (4 : Int32) := pv_cs (by decide) pt0_ra5 pt1_ra5
  refine va_iast hx hb hK hP hD hS 2 1 rfl rfl (pv_c (x := 2) (n := 4) (by decide)) dX12_readOffice_35 (fun H locs hP hD hS => ?_)
  obtain ⟨fn6, efn6⟩ : ∃ g : Nat → Int32, g = upd fn4 (Int32.toNatClampNeg 2) 4 := ⟨_, rfl⟩
  rw [← efn6] at hP hD
  have hP : va_P (dC, dI) vwCl (wd_77d3d1bb h0 v0 h1 v1 0 (-1) v4 r0 r1 r2 r3 r4 r5 r6 v5 v6 r7 r8 h2 h3 0 r9 r10 v8 v9 r11 r12 v10 v11 r13 v12 v13 r14 v14 w15 r15 v16 v17 r16 r17 r18 r19 r20 r21 v18 r22 r23 r24 v19 h1 g0 f20 h2 g1 fn6 h3 g2 f22) H := hP
  have hD : va_D A (wd_77d3d1bb h0 v0 h1 v1 0 (-1) v4 r0 r1 r2 r3 r4 r5 r6 v5 v6 r7 r8 h2 h3 0 r9 r10 v8 v9 r11 r12 v10 v11 r13 v12 v13 r14 v14 w15 r15 v16 v17 r16 r17 r18 r19 r20 r21 v18 r22 r23 r24 v19 h1 g0 f20 h2 g1 fn6 h3 g2 f22) := hD
  refine lv_iinc (v := 3) (lv' := [(2, .int 3), (1, .int 0), (0, .ref h0)]) hx hb dX12_readOffice_36 hl (k := 0) rfl (by decide) (by decide) rfl (fun ls hl => ?_)
  refine lv_goto (tgt := 19) hx hb dX12_readOffice_39 (by decide) ?_
  refine lv_iload_n hx hb dX12_readOffice_19 rfl (lv_at hl 0 rfl) ?_
  refine lv_iconst (v := 4) hx hb dX12_readOffice_20 (by decide) ?_
  refine lv_icmp_ge (tgt := 42) hx hb dX12_readOffice_21 (by decide) (fun c => absurd c (by decide)) (fun _ => ?_)
  refine lv_aload_n hx hb dX12_readOffice_24 rfl (lv_at hl 2 rfl) ?_
  refine va_get (D := (dC, dI)) (ci := 12) (v := .ref h2) (C := RX12) (T := TX12) (N := 48) hx hb hts (fun _ h => List.mem_cons_of_mem _ (List.mem_append_right _ h)) hown hK hP 0 rfl rfl 17 (by decide) (hts (.fieldLink RX12 40 "LeftArgumentsModel" "readRule" "[I") (List.mem_cons_of_mem _ (List.mem_append_left _ (List.mem_of_getElem? (i := 3) rfl)))) (fun _ h9 => h9) rfl dX12_readOffice_25 ?_
  refine lv_iload_n hx hb dX12_readOffice_28 rfl (lv_at hl 0 rfl) ?_
  refine lv_bipush (v := 115) hx hb dX12_readOffice_29 (by decide) ?_
  refine lv_iload_n hx hb dX12_readOffice_31 rfl (lv_at hl 0 rfl) ?_
  have hPc := hP.sub (ws' := []) [] rfl
  have hDc := hD.sub (ws' := []) [] (by decide) rfl
  have hKc := hK.sub (tys' := []) [] rfl
  have hFc := va_free (wc := []) hD hS hA [] rfl
  refine va_calli (va_runS (As := [.int 115, .int 3]) (rest := [.int 3, .ref h2]) ⟨hx, hb, hml, hown, hts⟩ (k_X12_usual_3 l dC dI   H.size) (va_cwS 2 hts g_X12_readOffice_3 rfl rfl rfl (by decide +kernel) ⟨Nat.le_of_ble_eq_true rfl, Nat.le_of_ble_eq_true rfl⟩) (pv_PS hPc hKc hDc) rfl rfl hl.1 rfl (lv_room (Nat.le_of_ble_eq_true rfl)) dX12_readOffice_32 ⟨Nat.le_of_ble_eq_true rfl, Nat.le_of_ble_eq_true rfl⟩) hS (fun q _ h => hFc q h) hFc (fun ra7 u t H1 locs ht hvm hwra7 hB hz1 hk1 hS => ?_)
  try rw [hwra7] at hB
  obtain ⟨pt0_ra7, pt1_ra7, hP1, hK1, hD1⟩ := hB
  rw [ht] at hP1
  obtain ⟨hP2, hD2⟩ := va_join (wr := (wd_77d3d1bb h0 v0 h1 v1 0 (-1) v4 r0 r1 r2 r3 r4 r5 r6 v5 v6 r7 r8 h2 h3 0 r9 r10 v8 v9 r11 r12 v10 v11 r13 v12 v13 r14 v14 w15 r15 v16 v17 r16 r17 r18 r19 r20 r21 v18 r22 r23 r24 v19 h1 g0 f20 h2 g1 fn6 h3 g2 f22)) (w1 := []) hP hD [] [0, 1, 2, 3] rfl rfl (by decide) (by decide) hk1 hFc hP1 hD1
  clear hP hD hPc hDc hKc hFc hP1 hK1 hD1 hk1 hz1
  generalize H1 = H at hP2 hS ⊢
  have hP : va_P (dC, dI) vwCl (wd_77d3d1bb h0 v0 h1 v1 0 (-1) v4 r0 r1 r2 r3 r4 r5 r6 v5 v6 r7 r8 h2 h3 0 r9 r10 v8 v9 r11 r12 v10 v11 r13 v12 v13 r14 v14 w15 r15 v16 v17 r16 r17 r18 r19 r20 r21 v18 r22 r23 r24 v19 h1 g0 f20 h2 g1 fn6 h3 g2 f22) H := hP2
  have hD : va_D A (wd_77d3d1bb h0 v0 h1 v1 0 (-1) v4 r0 r1 r2 r3 r4 r5 r6 v5 v6 r7 r8 h2 h3 0 r9 r10 v8 v9 r11 r12 v10 v11 r13 v12 v13 r14 v14 w15 r15 v16 v17 r16 r17 r18 r19 r20 r21 v18 r22 r23 r24 v19 h1 g0 f20 h2 g1 fn6 h3 g2 f22) := hD2
  clear hP2 hD2
  obtain rfl : ra7 = (20 : Int32) := pv_cs (by decide) pt0_ra7 pt1_ra7
  refine va_iast hx hb hK hP hD hS 2 1 rfl rfl (pv_c (x := 3) (n := 4) (by decide)) dX12_readOffice_35 (fun H locs hP hD hS => ?_)
  obtain ⟨fn8, efn8⟩ : ∃ g : Nat → Int32, g = upd fn6 (Int32.toNatClampNeg 3) 20 := ⟨_, rfl⟩
  rw [← efn8] at hP hD
  have hP : va_P (dC, dI) vwCl (wd_77d3d1bb h0 v0 h1 v1 0 (-1) v4 r0 r1 r2 r3 r4 r5 r6 v5 v6 r7 r8 h2 h3 0 r9 r10 v8 v9 r11 r12 v10 v11 r13 v12 v13 r14 v14 w15 r15 v16 v17 r16 r17 r18 r19 r20 r21 v18 r22 r23 r24 v19 h1 g0 f20 h2 g1 fn8 h3 g2 f22) H := hP
  have hD : va_D A (wd_77d3d1bb h0 v0 h1 v1 0 (-1) v4 r0 r1 r2 r3 r4 r5 r6 v5 v6 r7 r8 h2 h3 0 r9 r10 v8 v9 r11 r12 v10 v11 r13 v12 v13 r14 v14 w15 r15 v16 v17 r16 r17 r18 r19 r20 r21 v18 r22 r23 r24 v19 h1 g0 f20 h2 g1 fn8 h3 g2 f22) := hD
  refine lv_iinc (v := 4) (lv' := [(2, .int 4), (1, .int 0), (0, .ref h0)]) hx hb dX12_readOffice_36 hl (k := 0) rfl (by decide) (by decide) rfl (fun ls hl => ?_)
  refine lv_goto (tgt := 19) hx hb dX12_readOffice_39 (by decide) ?_
  refine lv_iload_n hx hb dX12_readOffice_19 rfl (lv_at hl 0 rfl) ?_
  refine lv_iconst (v := 4) hx hb dX12_readOffice_20 (by decide) ?_
  refine lv_icmp_ge (tgt := 42) hx hb dX12_readOffice_21 (by decide) (fun _ => ?_) (fun c => absurd (by decide) c)
  refine lv_iconst (v := 1) hx hb dX12_readOffice_42 (by decide) ?_
  refine lv_istore_n (lv' := [(2, .int 1), (1, .int 0), (0, .ref h0)]) hx hb dX12_readOffice_43 rfl hl (by decide) rfl (fun ls hl => ?_)
  have hL54 : ∀ (n9 : Nat), ∀ (x44 : Int32) (x45 : Int32) (x46 : Int32) (fn47 : Nat → Int32) (fn48 : Nat → Int32) (H : Heap) (locs : List Loc) (ls : Array Slot), 0 ≤ x44.toInt → x44.toInt ≤ 1 → 0 ≤ x45.toInt → x45.toInt ≤ 240 → 0 ≤ x46.toInt → x46.toInt ≤ 8 → (pm_RR fn47) → (pm_BG x46 fn48) → (pg_O f20 v1.toInt x45.toInt x44.toInt x46.toInt fn47 fn48 (pg_of f20 v1.toInt 300 ((0 : Int32)).toInt 0 ((0 : Int32)).toInt (pg_ur f21) f22)) → (x45.toInt ≤ v1.toInt) → (300 - x45.toInt).toNat < n9 → va_P (dC, dI) vwCl (wd_77d3d1bb h0 v0 h1 v1 x45 (-1) v4 r0 r1 r2 r3 r4 r5 r6 v5 v6 r7 r8 h2 h3 x46 r9 r10 v8 v9 r11 r12 v10 v11 r13 v12 v13 r14 v14 w15 r15 v16 v17 r16 r17 r18 r19 r20 r21 v18 r22 r23 r24 v19 h1 g0 f20 h2 g1 fn47 h3 g2 fn48) H → va_D A (wd_77d3d1bb h0 v0 h1 v1 x45 (-1) v4 r0 r1 r2 r3 r4 r5 r6 v5 v6 r7 r8 h2 h3 x46 r9 r10 v8 v9 r11 r12 v10 v11 r13 v12 v13 r14 v14 w15 r15 v16 v17 r16 r17 r18 r19 r20 r21 v18 r22 r23 r24 v19 h1 g0 f20 h2 g1 fn47 h3 g2 fn48) → va_S A s.heap H locs → lv_has ls 4 [(2, .int 1), (1, .int x44), (0, .ref h0)] → W p l e ({ frames := 4, cells := 0, slots := 0, locals := 89 }) s m ([.ref h0] : List Value).toArray below meth c H locs 0 0 Q (F0 m 44 ls []) := by
    intro n9
    induction n9 with
    | zero => intro x44 x45 x46 fn47 fn48 H locs ls qa_x44 qb_x44 qa_x45 qb_x45 qa_x46 qb_x46 gh0_hL54 gh1_hL54 gh2_hL54 gh3_hL54 hm9 hP hD hS hl; exact absurd hm9 (Nat.not_lt_zero _)
    | succ n9 ih_hL54 =>
      intro x44 x45 x46 fn47 fn48 H locs ls qa_x44 qb_x44 qa_x45 qb_x45 qa_x46 qb_x46 gh0_hL54 gh1_hL54 gh2_hL54 gh3_hL54 hm9 hP hD hS hl
      refine lv_iload_n hx hb dX12_readOffice_44 rfl (lv_at hl 0 rfl) ?_
      refine lv_if_eq (tgt := 199) hx hb dX12_readOffice_45 (by decide) (fun c => absurd c (by decide)) (fun _ => ?_)
      refine lv_aload_n hx hb dX12_readOffice_48 rfl (lv_at hl 2 rfl) ?_
      refine va_get (D := (dC, dI)) (ci := 12) (v := .int (-1)) (C := RX12) (T := TX12) (N := 48) hx hb hts (fun _ h => List.mem_cons_of_mem _ (List.mem_append_right _ h)) hown hK hP 0 rfl rfl 4 (by decide) (hts (.fieldLink RX12 119 "LeftArgumentsModel" "wrong" "I") (List.mem_cons_of_mem _ (List.mem_append_left _ (List.mem_of_getElem? (i := 1) rfl)))) (fun _ h9 => h9) rfl dX12_readOffice_49 ?_
      refine lv_iconst (v := (-1)) hx hb dX12_readOffice_52 (by decide) ?_
      refine lv_icmp_ne (tgt := 199) hx hb dX12_readOffice_53 (by decide) (fun c => absurd (by decide) c) (fun _ => ?_)
      refine lv_aload_n hx hb dX12_readOffice_56 rfl (lv_at hl 2 rfl) ?_
      have hPc := hP.sub (ws' := (wd_f4cd022e h0 v0 h1 v1 x45 (-1) v4 r0 r1 r2 r3 r4 r5 r6 v5 v6 r7 r8 h2 h3 x46 r9 r10 v8 v9 r11 r12 v10 v11 r13 v12 v13 r14 v14 w15 r15 v16 v17 r16 r17 r18 r19 r20 r21 v18 r22 r23 r24 v19 h1 g0 f20)) [0, 1] rfl
      have hDc := hD.sub (ws' := (wd_f4cd022e h0 v0 h1 v1 x45 (-1) v4 r0 r1 r2 r3 r4 r5 r6 v5 v6 r7 r8 h2 h3 x46 r9 r10 v8 v9 r11 r12 v10 v11 r13 v12 v13 r14 v14 w15 r15 v16 v17 r16 r17 r18 r19 r20 r21 v18 r22 r23 r24 v19 h1 g0 f20)) [0, 1] (by decide) rfl
      have hKc := hK.sub (tys' := [(g0, .int)]) [0] rfl
      have hFc := va_free (wc := (wd_f4cd022e h0 v0 h1 v1 x45 (-1) v4 r0 r1 r2 r3 r4 r5 r6 v5 v6 r7 r8 h2 h3 x46 r9 r10 v8 v9 r11 r12 v10 v11 r13 v12 v13 r14 v14 w15 r15 v16 v17 r16 r17 r18 r19 r20 r21 v18 r22 r23 r24 v19 h1 g0 f20)) hD hS hA [0, 1] rfl
      refine va_calli (va_runV (As := []) (rest := []) ⟨hx, hb, hml, hown, hts⟩ (k_X12_look l dC dI h0 h1 v0 v1 x45 ((-1)) v4 r0 r1 r2 r3 r4 r5 r6 v5 v6 r7 r8 h2 h3 x46 r9 r10 v8 v9 r11 r12 v10 v11 r13 v12 v13 r14 v14 w15 r15 v16 v17 r16 r17 r18 r19 r20 r21 v18 r22 r23 r24 v19 g0 f20 ⟨i_v1a, i_v1b⟩ ⟨qa_x45, qb_x45⟩ ⟨i_v5a, i_v5b⟩ ⟨i_v6a, i_v6b⟩ ⟨qa_x46, qb_x46⟩ ⟨i_v8a, i_v8b⟩ ⟨i_v9a, i_v9b⟩ ⟨i_v10a, i_v10b⟩ ⟨i_v14a, i_v14b⟩ ⟨i_v18a, i_v18b⟩ ⟨i_v19a, i_v19b⟩ ia_f20 H.size) (cwV 0 hts g_X12_readOffice_4 rfl rfl rfl (by decide +kernel) ⟨Nat.le_of_ble_eq_true rfl, Nat.le_of_ble_eq_true rfl⟩) (pv_PV12 hPc hKc hDc (q0 := 0) rfl) rfl rfl hl.1 rfl (lv_room (Nat.le_of_ble_eq_true rfl)) dX12_readOffice_57 ⟨Nat.le_of_ble_eq_true rfl, Nat.le_of_ble_eq_true rfl⟩) hS (fun q _ h => hFc q h) hFc (fun ra55 u t H1 locs ht hvm hwra55 hB hz1 hk1 hS => ?_)
      try rw [hwra55] at hB
      have hkra55_0 : (((-1) : Int32)).toInt = -1 := by decide
      rcases hB with hB | hB
      · skip
        obtain ⟨x56, oa_x56, ob_x56, pt0_ra55, pt1_ra55, pt2_ra55, pt3_ra55, pt4_ra55, pt5_ra55, pt6_ra55, hP1, hK1, hD1⟩ := hB
        rw [ht] at hP1
        obtain ⟨hP2, hD2⟩ := va_join (wr := (wd_5ef8c86c h2 g1 fn47 h3 g2 fn48)) (w1 := (wd_f4cd022e h0 v0 h1 v1 x56 (-1) v4 r0 r1 r2 r3 r4 r5 r6 v5 v6 r7 r8 h2 h3 x46 r9 r10 v8 v9 r11 r12 v10 v11 r13 v12 v13 r14 v14 w15 r15 v16 v17 r16 r17 r18 r19 r20 r21 v18 r22 r23 r24 v19 h1 g0 f20)) hP hD [0, 1] [2, 3] rfl rfl (by decide) (by decide) hk1 hFc hP1 hD1
        clear hP hD hPc hDc hKc hFc hP1 hK1 hD1 hk1 hz1
        generalize H1 = H at hP2 hS ⊢
        have hP := hP2.sub (ws' := (wd_77d3d1bb h0 v0 h1 v1 x56 (-1) v4 r0 r1 r2 r3 r4 r5 r6 v5 v6 r7 r8 h2 h3 x46 r9 r10 v8 v9 r11 r12 v10 v11 r13 v12 v13 r14 v14 w15 r15 v16 v17 r16 r17 r18 r19 r20 r21 v18 r22 r23 r24 v19 h1 g0 f20 h2 g1 fn47 h3 g2 fn48)) [2, 3, 0, 1] rfl
        have hD := hD2.sub (ws' := (wd_77d3d1bb h0 v0 h1 v1 x56 (-1) v4 r0 r1 r2 r3 r4 r5 r6 v5 v6 r7 r8 h2 h3 x46 r9 r10 v8 v9 r11 r12 v10 v11 r13 v12 v13 r14 v14 w15 r15 v16 v17 r16 r17 r18 r19 r20 r21 v18 r22 r23 r24 v19 h1 g0 f20 h2 g1 fn47 h3 g2 fn48)) [2, 3, 0, 1] (by decide) rfl
        clear hP2 hD2
        obtain rfl : ra55 = ((-1) : Int32) := pv_cs (by decide) pt0_ra55 pt1_ra55
        refine lv_istore_n (lv' := [(3, .int (-1)), (2, .int 1), (1, .int x44), (0, .ref h0)]) hx hb dX12_readOffice_60 rfl hl (by decide) rfl (fun ls hl => ?_)
        refine lv_iload_n hx hb dX12_readOffice_61 rfl (lv_at hl 0 rfl) ?_
        refine lv_bipush (v := 115) hx hb dX12_readOffice_62 (by decide) ?_
        refine lv_icmp_ne (tgt := 97) hx hb dX12_readOffice_64 (by decide) (fun _ => ?_) (fun c => absurd c (by decide))
        refine lv_iload_n hx hb dX12_readOffice_97 rfl (lv_at hl 0 rfl) ?_
        refine lv_bipush (v := 98) hx hb dX12_readOffice_98 (by decide) ?_
        refine lv_icmp_ne (tgt := 151) hx hb dX12_readOffice_100 (by decide) (fun _ => ?_) (fun c => absurd c (by decide))
        refine lv_aload_n hx hb dX12_readOffice_151 rfl (lv_at hl 3 rfl) ?_
        have hPc := hP.sub (ws' := (wd_171f232f h0 v0 h1 v1 x56 (-1) v4 r0 r1 r2 r3 r4 r5 r6 v5 v6 r7 r8 h2 h3 x46 r9 r10 v8 v9 r11 r12 v10 v11 r13 v12 v13 r14 v14 w15 r15 v16 v17 r16 r17 r18 r19 r20 r21 v18 r22 r23 r24 v19)) [0] rfl
        have hDc := hD.sub (ws' := (wd_171f232f h0 v0 h1 v1 x56 (-1) v4 r0 r1 r2 r3 r4 r5 r6 v5 v6 r7 r8 h2 h3 x46 r9 r10 v8 v9 r11 r12 v10 v11 r13 v12 v13 r14 v14 w15 r15 v16 v17 r16 r17 r18 r19 r20 r21 v18 r22 r23 r24 v19)) [0] (by decide) rfl
        have hKc := hK.sub (tys' := []) [] rfl
        have hFc := va_free (wc := (wd_171f232f h0 v0 h1 v1 x56 (-1) v4 r0 r1 r2 r3 r4 r5 r6 v5 v6 r7 r8 h2 h3 x46 r9 r10 v8 v9 r11 r12 v10 v11 r13 v12 v13 r14 v14 w15 r15 v16 v17 r16 r17 r18 r19 r20 r21 v18 r22 r23 r24 v19)) hD hS hA [0] rfl
        refine va_callv (va_runV (As := []) (rest := []) ⟨hx, hb, hml, hown, hts⟩ (k_X12_bad l dC dI h0 v0 h1 v1 x56 v4 r0 r1 r2 r3 r4 r5 r6 v5 v6 r7 r8 h2 h3 x46 r9 r10 v8 v9 r11 r12 v10 v11 r13 v12 v13 r14 v14 w15 r15 v16 v17 r16 r17 r18 r19 r20 r21 v18 r22 r23 r24 v19 ⟨i_v1a, i_v1b⟩ ⟨oa_x56, ob_x56⟩ ⟨i_v5a, i_v5b⟩ ⟨i_v6a, i_v6b⟩ ⟨qa_x46, qb_x46⟩ ⟨i_v8a, i_v8b⟩ ⟨i_v9a, i_v9b⟩ ⟨i_v10a, i_v10b⟩ ⟨i_v14a, i_v14b⟩ ⟨i_v18a, i_v18b⟩ ⟨i_v19a, i_v19b⟩ H.size) (cwV 0 hts g_X12_readOffice_5 rfl rfl rfl (by decide +kernel) ⟨Nat.le_of_ble_eq_true rfl, Nat.le_of_ble_eq_true rfl⟩) (pv_PV12 hPc hKc hDc (q0 := 0) rfl) rfl rfl hl.1 rfl (lv_room (Nat.le_of_ble_eq_true rfl)) dX12_readOffice_152 ⟨Nat.le_of_ble_eq_true rfl, Nat.le_of_ble_eq_true rfl⟩) hS (fun q _ h => hFc q h) hFc (fun u t H1 locs ht hvm hwra57 hB hz1 hk1 hS => ?_)
        obtain ⟨x58, oa_x58, ob_x58, pt0_ra57, hP1, hK1, hD1⟩ := hB
        rw [ht] at hP1
        obtain ⟨hP2, hD2⟩ := va_join (wr := (wd_bcaf9cf2 h1 g0 f20 h2 g1 fn47 h3 g2 fn48)) (w1 := (wd_171f232f h0 v0 h1 v1 x56 x58 v4 r0 r1 r2 r3 r4 r5 r6 v5 v6 r7 r8 h2 h3 x46 r9 r10 v8 v9 r11 r12 v10 v11 r13 v12 v13 r14 v14 w15 r15 v16 v17 r16 r17 r18 r19 r20 r21 v18 r22 r23 r24 v19)) hP hD [0] [1, 2, 3] rfl rfl (by decide) (by decide) hk1 hFc hP1 hD1
        clear hP hD hPc hDc hKc hFc hP1 hK1 hD1 hk1 hz1
        generalize H1 = H at hP2 hS ⊢
        have hP := hP2.sub (ws' := (wd_77d3d1bb h0 v0 h1 v1 x56 x58 v4 r0 r1 r2 r3 r4 r5 r6 v5 v6 r7 r8 h2 h3 x46 r9 r10 v8 v9 r11 r12 v10 v11 r13 v12 v13 r14 v14 w15 r15 v16 v17 r16 r17 r18 r19 r20 r21 v18 r22 r23 r24 v19 h1 g0 f20 h2 g1 fn47 h3 g2 fn48)) [3, 0, 1, 2] rfl
        have hD := hD2.sub (ws' := (wd_77d3d1bb h0 v0 h1 v1 x56 x58 v4 r0 r1 r2 r3 r4 r5 r6 v5 v6 r7 r8 h2 h3 x46 r9 r10 v8 v9 r11 r12 v10 v11 r13 v12 v13 r14 v14 w15 r15 v16 v17 r16 r17 r18 r19 r20 r21 v18 r22 r23 r24 v19 h1 g0 f20 h2 g1 fn47 h3 g2 fn48)) [3, 0, 1, 2] (by decide) rfl
        clear hP2 hD2
        refine lv_aload_n hx hb dX12_readOffice_155 rfl (lv_at hl 3 rfl) ?_
        refine va_get (D := (dC, dI)) (ci := 12) (v := .int x58) (C := RX12) (T := TX12) (N := 48) hx hb hts (fun _ h => List.mem_cons_of_mem _ (List.mem_append_right _ h)) hown hK hP 0 rfl rfl 4 (by decide) (hts (.fieldLink RX12 119 "LeftArgumentsModel" "wrong" "I") (List.mem_cons_of_mem _ (List.mem_append_left _ (List.mem_of_getElem? (i := 1) rfl)))) (fun _ h9 => h9) rfl dX12_readOffice_156 ?_
        refine lv_iconst (v := (-1)) hx hb dX12_readOffice_159 (by decide) ?_
        refine lv_icmp_ne (tgt := 176) hx hb dX12_readOffice_160 (by decide) (fun _ => ?_) (fun c59 => by exfalso; have fc59 : x58.toInt = (-1) := congrArg Int32.toInt c59; omega)
        refine lv_iconst (v := 0) hx hb dX12_readOffice_176 (by decide) ?_
        refine lv_istore_n (lv' := [(2, .int 0), (3, .int (-1)), (1, .int x44), (0, .ref h0)]) hx hb dX12_readOffice_177 rfl hl (by decide) rfl (fun ls hl => ?_)
        refine lv_aload_n hx hb dX12_readOffice_178 rfl (lv_at hl 3 rfl) ?_
        refine lv_dup hx hb dX12_readOffice_179 rfl ?_
        refine va_get (D := (dC, dI)) (ci := 12) (v := .int x56) (C := RX12) (T := TX12) (N := 48) hx hb hts (fun _ h => List.mem_cons_of_mem _ (List.mem_append_right _ h)) hown hK hP 0 rfl rfl 3 (by decide) (hts (.fieldLink RX12 112 "LeftArgumentsModel" "at" "I") (List.mem_cons_of_mem _ (List.mem_append_left _ (List.mem_of_getElem? (i := 0) rfl)))) (fun _ h9 => h9) rfl dX12_readOffice_180 ?_
        refine lv_iload_n hx hb dX12_readOffice_183 rfl (lv_at hl 0 rfl) ?_
        refine lv_if_eq (tgt := 191) hx hb dX12_readOffice_184 (by decide) (fun _ => ?_) (fun c => absurd (by decide) c)
        refine lv_iconst (v := 0) hx hb dX12_readOffice_191 (by decide) ?_
        refine lv_iadd hx hb dX12_readOffice_192 ?_
        refine lv_topi (fun t60 et60 => ?_)
        have gt60 : t60.toInt = x56.toInt + 0 := pv_add (a := x56.toInt) (b := 0) et60 rfl (by decide) (by omega) (by omega)
        obtain rfl : x56 = t60 := Int32.toInt_inj.mp (by omega)
        refine va_put (D := (dC, dI)) (ci := 12) (v := .int x56) (ty := .int) (C := RX12) (T := TX12) (N := 48) hx hb hts (fun _ h => List.mem_cons_of_mem _ (List.mem_append_right _ h)) tyX12 tyX12_ok nmX12 hown hK hP hD hS 0 rfl rfl 3 (by decide) (hts (.fieldLink RX12 112 "LeftArgumentsModel" "at" "I") (List.mem_cons_of_mem _ (List.mem_append_left _ (List.mem_of_getElem? (i := 0) rfl)))) (fun _ h9 => h9) rfl (by decide +kernel) rfl rfl (Nat.le_of_ble_eq_true rfl) dX12_readOffice_193 (fun H locs hP hD hS => ?_)
        have hP : va_P (dC, dI) vwCl (wd_77d3d1bb h0 v0 h1 v1 x56 x58 v4 r0 r1 r2 r3 r4 r5 r6 v5 v6 r7 r8 h2 h3 x46 r9 r10 v8 v9 r11 r12 v10 v11 r13 v12 v13 r14 v14 w15 r15 v16 v17 r16 r17 r18 r19 r20 r21 v18 r22 r23 r24 v19 h1 g0 f20 h2 g1 fn47 h3 g2 fn48) H := hP
        have hD : va_D A (wd_77d3d1bb h0 v0 h1 v1 x56 x58 v4 r0 r1 r2 r3 r4 r5 r6 v5 v6 r7 r8 h2 h3 x46 r9 r10 v8 v9 r11 r12 v10 v11 r13 v12 v13 r14 v14 w15 r15 v16 v17 r16 r17 r18 r19 r20 r21 v18 r22 r23 r24 v19 h1 g0 f20 h2 g1 fn47 h3 g2 fn48) := hD
        refine lv_goto (tgt := 44) hx hb dX12_readOffice_196 (by decide) ?_
        refine lv_iload_n hx hb dX12_readOffice_44 rfl (lv_at hl 0 rfl) ?_
        refine lv_if_eq (tgt := 199) hx hb dX12_readOffice_45 (by decide) (fun _ => ?_) (fun c => absurd (by decide) c)
        refine lv_aload_n hx hb dX12_readOffice_199 rfl (lv_at hl 3 rfl) ?_
        refine va_get (D := (dC, dI)) (ci := 12) (v := .int x58) (C := RX12) (T := TX12) (N := 48) hx hb hts (fun _ h => List.mem_cons_of_mem _ (List.mem_append_right _ h)) hown hK hP 0 rfl rfl 4 (by decide) (hts (.fieldLink RX12 119 "LeftArgumentsModel" "wrong" "I") (List.mem_cons_of_mem _ (List.mem_append_left _ (List.mem_of_getElem? (i := 1) rfl)))) (fun _ h9 => h9) rfl dX12_readOffice_200 ?_
        refine lv_iconst (v := (-1)) hx hb dX12_readOffice_203 (by decide) ?_
        refine lv_icmp_ne (tgt := 226) hx hb dX12_readOffice_204 (by decide) (fun _ => ?_) (fun c61 => by exfalso; have fc61 : x58.toInt = (-1) := congrArg Int32.toInt c61; omega)
        refine lv_aload_n hx hb dX12_readOffice_226 rfl (lv_at hl 3 rfl) ?_
        refine va_get (D := (dC, dI)) (ci := 12) (v := .int x58) (C := RX12) (T := TX12) (N := 48) hx hb hts (fun _ h => List.mem_cons_of_mem _ (List.mem_append_right _ h)) hown hK hP 0 rfl rfl 4 (by decide) (hts (.fieldLink RX12 119 "LeftArgumentsModel" "wrong" "I") (List.mem_cons_of_mem _ (List.mem_append_left _ (List.mem_of_getElem? (i := 1) rfl)))) (fun _ h9 => h9) rfl dX12_readOffice_227 ?_
        subst hQ
        have hP9 := hP.sub (ws' := (wd_77d3d1bb h0 v0 h1 v1 x56 x58 v4 r0 r1 r2 r3 r4 r5 r6 v5 v6 r7 r8 h2 h3 x46 r9 r10 v8 v9 r11 r12 v10 v11 r13 v12 v13 r14 v14 w15 r15 v16 v17 r16 r17 r18 r19 r20 r21 v18 r22 r23 r24 v19 h1 g0 f20 h2 g1 fn47 h3 g2 fn48)) [0, 1, 2, 3] rfl
        have hD9 := hD.sub (ws' := (wd_77d3d1bb h0 v0 h1 v1 x56 x58 v4 r0 r1 r2 r3 r4 r5 r6 v5 v6 r7 r8 h2 h3 x46 r9 r10 v8 v9 r11 r12 v10 v11 r13 v12 v13 r14 v14 w15 r15 v16 v17 r16 r17 r18 r19 r20 r21 v18 r22 r23 r24 v19 h1 g0 f20 h2 g1 fn47 h3 g2 fn48)) [0, 1, 2, 3] (by decide) rfl
        have hK9 := hK.sub (tys' := []) [] rfl
        exact W.iret (v := x58) hx hb hr (fun t ht hW => ⟨⟨x58, x58, rfl, rfl, Or.inr (⟨x56, x58, x46, fn47, fn48, oa_x56, ob_x56, oa_x58, ob_x58, qa_x46, qb_x46, by first | omega | decide, by first | omega | decide, by first | (apply pg_office.b0 (R := f21) (B := f22) <;> first | assumption | omega | (apply pg_O.sf <;> first | assumption | omega) | (apply pg_O.bf <;> first | assumption | omega) | (apply pg_O.w <;> first | assumption | omega)) | (apply pg_office.b1 (R := f21) (B := f22) <;> first | assumption | omega | (apply pg_O.s0 <;> first | assumption | omega) | (apply pg_O.b0 <;> first | assumption | omega)) | (apply pg_office.b2 (R := f21) (B := f22) <;> first | assumption | omega | (apply pg_O.s0 <;> first | assumption | omega) | (apply pg_O.b0 <;> first | assumption | omega) | (apply pg_items.pn <;> first | assumption | omega)), by omega, by rw [ht]; exact hP9, va_K.moved hW.alike hK9, hD9⟩)⟩, hS.F ht⟩) hS.2.2 dX12_readOffice_230
      · skip
        obtain ⟨x62, oa_x62, ob_x62, pt0_ra55, pt1_ra55, pt2_ra55, pt3_ra55, pt4_ra55, pt5_ra55, pt6_ra55, pt7_ra55, hP1, hK1, hD1⟩ := hB
        rw [ht] at hP1
        obtain ⟨hP2, hD2⟩ := va_join (wr := (wd_5ef8c86c h2 g1 fn47 h3 g2 fn48)) (w1 := (wd_f4cd022e h0 v0 h1 v1 x62 (-1) v4 r0 r1 r2 r3 r4 r5 r6 v5 v6 r7 r8 h2 h3 x46 r9 r10 v8 v9 r11 r12 v10 v11 r13 v12 v13 r14 v14 w15 r15 v16 v17 r16 r17 r18 r19 r20 r21 v18 r22 r23 r24 v19 h1 g0 f20)) hP hD [0, 1] [2, 3] rfl rfl (by decide) (by decide) hk1 hFc hP1 hD1
        clear hP hD hPc hDc hKc hFc hP1 hK1 hD1 hk1 hz1
        generalize H1 = H at hP2 hS ⊢
        have hP := hP2.sub (ws' := (wd_77d3d1bb h0 v0 h1 v1 x62 (-1) v4 r0 r1 r2 r3 r4 r5 r6 v5 v6 r7 r8 h2 h3 x46 r9 r10 v8 v9 r11 r12 v10 v11 r13 v12 v13 r14 v14 w15 r15 v16 v17 r16 r17 r18 r19 r20 r21 v18 r22 r23 r24 v19 h1 g0 f20 h2 g1 fn47 h3 g2 fn48)) [2, 3, 0, 1] rfl
        have hD := hD2.sub (ws' := (wd_77d3d1bb h0 v0 h1 v1 x62 (-1) v4 r0 r1 r2 r3 r4 r5 r6 v5 v6 r7 r8 h2 h3 x46 r9 r10 v8 v9 r11 r12 v10 v11 r13 v12 v13 r14 v14 w15 r15 v16 v17 r16 r17 r18 r19 r20 r21 v18 r22 r23 r24 v19 h1 g0 f20 h2 g1 fn47 h3 g2 fn48)) [2, 3, 0, 1] (by decide) rfl
        clear hP2 hD2
        refine lv_istore_n (lv' := [(3, .int ra55), (2, .int 1), (1, .int x44), (0, .ref h0)]) hx hb dX12_readOffice_60 rfl hl (by decide) rfl (fun ls hl => ?_)
        refine lv_iload_n hx hb dX12_readOffice_61 rfl (lv_at hl 0 rfl) ?_
        refine lv_bipush (v := 115) hx hb dX12_readOffice_62 (by decide) ?_
        refine lv_icmp_ne (tgt := 97) hx hb dX12_readOffice_64 (by decide) (fun c63 => ?_) (fun c63 => ?_)
        · skip
          have fc63 : ¬ (ra55.toInt = 115) := fun h9 => c63 (Int32.toInt_inj.mp h9)
          refine lv_iload_n hx hb dX12_readOffice_97 rfl (lv_at hl 0 rfl) ?_
          refine lv_bipush (v := 98) hx hb dX12_readOffice_98 (by decide) ?_
          refine lv_icmp_ne (tgt := 151) hx hb dX12_readOffice_100 (by decide) (fun c64 => ?_) (fun c64 => ?_)
          · skip
            have fc64 : ¬ (ra55.toInt = 98) := fun h9 => c64 (Int32.toInt_inj.mp h9)
            refine lv_aload_n hx hb dX12_readOffice_151 rfl (lv_at hl 3 rfl) ?_
            have hPc := hP.sub (ws' := (wd_171f232f h0 v0 h1 v1 x62 (-1) v4 r0 r1 r2 r3 r4 r5 r6 v5 v6 r7 r8 h2 h3 x46 r9 r10 v8 v9 r11 r12 v10 v11 r13 v12 v13 r14 v14 w15 r15 v16 v17 r16 r17 r18 r19 r20 r21 v18 r22 r23 r24 v19)) [0] rfl
            have hDc := hD.sub (ws' := (wd_171f232f h0 v0 h1 v1 x62 (-1) v4 r0 r1 r2 r3 r4 r5 r6 v5 v6 r7 r8 h2 h3 x46 r9 r10 v8 v9 r11 r12 v10 v11 r13 v12 v13 r14 v14 w15 r15 v16 v17 r16 r17 r18 r19 r20 r21 v18 r22 r23 r24 v19)) [0] (by decide) rfl
            have hKc := hK.sub (tys' := []) [] rfl
            have hFc := va_free (wc := (wd_171f232f h0 v0 h1 v1 x62 (-1) v4 r0 r1 r2 r3 r4 r5 r6 v5 v6 r7 r8 h2 h3 x46 r9 r10 v8 v9 r11 r12 v10 v11 r13 v12 v13 r14 v14 w15 r15 v16 v17 r16 r17 r18 r19 r20 r21 v18 r22 r23 r24 v19)) hD hS hA [0] rfl
            refine va_callv (va_runV (As := []) (rest := []) ⟨hx, hb, hml, hown, hts⟩ (k_X12_bad l dC dI h0 v0 h1 v1 x62 v4 r0 r1 r2 r3 r4 r5 r6 v5 v6 r7 r8 h2 h3 x46 r9 r10 v8 v9 r11 r12 v10 v11 r13 v12 v13 r14 v14 w15 r15 v16 v17 r16 r17 r18 r19 r20 r21 v18 r22 r23 r24 v19 ⟨i_v1a, i_v1b⟩ ⟨oa_x62, by first | omega | decide⟩ ⟨i_v5a, i_v5b⟩ ⟨i_v6a, i_v6b⟩ ⟨qa_x46, qb_x46⟩ ⟨i_v8a, i_v8b⟩ ⟨i_v9a, i_v9b⟩ ⟨i_v10a, i_v10b⟩ ⟨i_v14a, i_v14b⟩ ⟨i_v18a, i_v18b⟩ ⟨i_v19a, i_v19b⟩ H.size) (cwV 0 hts g_X12_readOffice_5 rfl rfl rfl (by decide +kernel) ⟨Nat.le_of_ble_eq_true rfl, Nat.le_of_ble_eq_true rfl⟩) (pv_PV12 hPc hKc hDc (q0 := 0) rfl) rfl rfl hl.1 rfl (lv_room (Nat.le_of_ble_eq_true rfl)) dX12_readOffice_152 ⟨Nat.le_of_ble_eq_true rfl, Nat.le_of_ble_eq_true rfl⟩) hS (fun q _ h => hFc q h) hFc (fun u t H1 locs ht hvm hwra65 hB hz1 hk1 hS => ?_)
            obtain ⟨x66, oa_x66, ob_x66, pt0_ra65, hP1, hK1, hD1⟩ := hB
            rw [ht] at hP1
            obtain ⟨hP2, hD2⟩ := va_join (wr := (wd_bcaf9cf2 h1 g0 f20 h2 g1 fn47 h3 g2 fn48)) (w1 := (wd_171f232f h0 v0 h1 v1 x62 x66 v4 r0 r1 r2 r3 r4 r5 r6 v5 v6 r7 r8 h2 h3 x46 r9 r10 v8 v9 r11 r12 v10 v11 r13 v12 v13 r14 v14 w15 r15 v16 v17 r16 r17 r18 r19 r20 r21 v18 r22 r23 r24 v19)) hP hD [0] [1, 2, 3] rfl rfl (by decide) (by decide) hk1 hFc hP1 hD1
            clear hP hD hPc hDc hKc hFc hP1 hK1 hD1 hk1 hz1
            generalize H1 = H at hP2 hS ⊢
            have hP := hP2.sub (ws' := (wd_77d3d1bb h0 v0 h1 v1 x62 x66 v4 r0 r1 r2 r3 r4 r5 r6 v5 v6 r7 r8 h2 h3 x46 r9 r10 v8 v9 r11 r12 v10 v11 r13 v12 v13 r14 v14 w15 r15 v16 v17 r16 r17 r18 r19 r20 r21 v18 r22 r23 r24 v19 h1 g0 f20 h2 g1 fn47 h3 g2 fn48)) [3, 0, 1, 2] rfl
            have hD := hD2.sub (ws' := (wd_77d3d1bb h0 v0 h1 v1 x62 x66 v4 r0 r1 r2 r3 r4 r5 r6 v5 v6 r7 r8 h2 h3 x46 r9 r10 v8 v9 r11 r12 v10 v11 r13 v12 v13 r14 v14 w15 r15 v16 v17 r16 r17 r18 r19 r20 r21 v18 r22 r23 r24 v19 h1 g0 f20 h2 g1 fn47 h3 g2 fn48)) [3, 0, 1, 2] (by decide) rfl
            clear hP2 hD2
            refine lv_aload_n hx hb dX12_readOffice_155 rfl (lv_at hl 3 rfl) ?_
            refine va_get (D := (dC, dI)) (ci := 12) (v := .int x66) (C := RX12) (T := TX12) (N := 48) hx hb hts (fun _ h => List.mem_cons_of_mem _ (List.mem_append_right _ h)) hown hK hP 0 rfl rfl 4 (by decide) (hts (.fieldLink RX12 119 "LeftArgumentsModel" "wrong" "I") (List.mem_cons_of_mem _ (List.mem_append_left _ (List.mem_of_getElem? (i := 1) rfl)))) (fun _ h9 => h9) rfl dX12_readOffice_156 ?_
            refine lv_iconst (v := (-1)) hx hb dX12_readOffice_159 (by decide) ?_
            refine lv_icmp_ne (tgt := 176) hx hb dX12_readOffice_160 (by decide) (fun _ => ?_) (fun c67 => by exfalso; have fc67 : x66.toInt = (-1) := congrArg Int32.toInt c67; omega)
            refine lv_iconst (v := 0) hx hb dX12_readOffice_176 (by decide) ?_
            refine lv_istore_n (lv' := [(2, .int 0), (3, .int ra55), (1, .int x44), (0, .ref h0)]) hx hb dX12_readOffice_177 rfl hl (by decide) rfl (fun ls hl => ?_)
            refine lv_aload_n hx hb dX12_readOffice_178 rfl (lv_at hl 3 rfl) ?_
            refine lv_dup hx hb dX12_readOffice_179 rfl ?_
            refine va_get (D := (dC, dI)) (ci := 12) (v := .int x62) (C := RX12) (T := TX12) (N := 48) hx hb hts (fun _ h => List.mem_cons_of_mem _ (List.mem_append_right _ h)) hown hK hP 0 rfl rfl 3 (by decide) (hts (.fieldLink RX12 112 "LeftArgumentsModel" "at" "I") (List.mem_cons_of_mem _ (List.mem_append_left _ (List.mem_of_getElem? (i := 0) rfl)))) (fun _ h9 => h9) rfl dX12_readOffice_180 ?_
            refine lv_iload_n hx hb dX12_readOffice_183 rfl (lv_at hl 0 rfl) ?_
            refine lv_if_eq (tgt := 191) hx hb dX12_readOffice_184 (by decide) (fun _ => ?_) (fun c => absurd (by decide) c)
            refine lv_iconst (v := 0) hx hb dX12_readOffice_191 (by decide) ?_
            refine lv_iadd hx hb dX12_readOffice_192 ?_
            refine lv_topi (fun t68 et68 => ?_)
            have gt68 : t68.toInt = x62.toInt + 0 := pv_add (a := x62.toInt) (b := 0) et68 rfl (by decide) (by omega) (by omega)
            obtain rfl : x62 = t68 := Int32.toInt_inj.mp (by omega)
            refine va_put (D := (dC, dI)) (ci := 12) (v := .int x62) (ty := .int) (C := RX12) (T := TX12) (N := 48) hx hb hts (fun _ h => List.mem_cons_of_mem _ (List.mem_append_right _ h)) tyX12 tyX12_ok nmX12 hown hK hP hD hS 0 rfl rfl 3 (by decide) (hts (.fieldLink RX12 112 "LeftArgumentsModel" "at" "I") (List.mem_cons_of_mem _ (List.mem_append_left _ (List.mem_of_getElem? (i := 0) rfl)))) (fun _ h9 => h9) rfl (by decide +kernel) rfl rfl (Nat.le_of_ble_eq_true rfl) dX12_readOffice_193 (fun H locs hP hD hS => ?_)
            have hP : va_P (dC, dI) vwCl (wd_77d3d1bb h0 v0 h1 v1 x62 x66 v4 r0 r1 r2 r3 r4 r5 r6 v5 v6 r7 r8 h2 h3 x46 r9 r10 v8 v9 r11 r12 v10 v11 r13 v12 v13 r14 v14 w15 r15 v16 v17 r16 r17 r18 r19 r20 r21 v18 r22 r23 r24 v19 h1 g0 f20 h2 g1 fn47 h3 g2 fn48) H := hP
            have hD : va_D A (wd_77d3d1bb h0 v0 h1 v1 x62 x66 v4 r0 r1 r2 r3 r4 r5 r6 v5 v6 r7 r8 h2 h3 x46 r9 r10 v8 v9 r11 r12 v10 v11 r13 v12 v13 r14 v14 w15 r15 v16 v17 r16 r17 r18 r19 r20 r21 v18 r22 r23 r24 v19 h1 g0 f20 h2 g1 fn47 h3 g2 fn48) := hD
            refine lv_goto (tgt := 44) hx hb dX12_readOffice_196 (by decide) ?_
            refine lv_iload_n hx hb dX12_readOffice_44 rfl (lv_at hl 0 rfl) ?_
            refine lv_if_eq (tgt := 199) hx hb dX12_readOffice_45 (by decide) (fun _ => ?_) (fun c => absurd (by decide) c)
            refine lv_aload_n hx hb dX12_readOffice_199 rfl (lv_at hl 3 rfl) ?_
            refine va_get (D := (dC, dI)) (ci := 12) (v := .int x66) (C := RX12) (T := TX12) (N := 48) hx hb hts (fun _ h => List.mem_cons_of_mem _ (List.mem_append_right _ h)) hown hK hP 0 rfl rfl 4 (by decide) (hts (.fieldLink RX12 119 "LeftArgumentsModel" "wrong" "I") (List.mem_cons_of_mem _ (List.mem_append_left _ (List.mem_of_getElem? (i := 1) rfl)))) (fun _ h9 => h9) rfl dX12_readOffice_200 ?_
            refine lv_iconst (v := (-1)) hx hb dX12_readOffice_203 (by decide) ?_
            refine lv_icmp_ne (tgt := 226) hx hb dX12_readOffice_204 (by decide) (fun _ => ?_) (fun c69 => by exfalso; have fc69 : x66.toInt = (-1) := congrArg Int32.toInt c69; omega)
            refine lv_aload_n hx hb dX12_readOffice_226 rfl (lv_at hl 3 rfl) ?_
            refine va_get (D := (dC, dI)) (ci := 12) (v := .int x66) (C := RX12) (T := TX12) (N := 48) hx hb hts (fun _ h => List.mem_cons_of_mem _ (List.mem_append_right _ h)) hown hK hP 0 rfl rfl 4 (by decide) (hts (.fieldLink RX12 119 "LeftArgumentsModel" "wrong" "I") (List.mem_cons_of_mem _ (List.mem_append_left _ (List.mem_of_getElem? (i := 1) rfl)))) (fun _ h9 => h9) rfl dX12_readOffice_227 ?_
            subst hQ
            have hP9 := hP.sub (ws' := (wd_77d3d1bb h0 v0 h1 v1 x62 x66 v4 r0 r1 r2 r3 r4 r5 r6 v5 v6 r7 r8 h2 h3 x46 r9 r10 v8 v9 r11 r12 v10 v11 r13 v12 v13 r14 v14 w15 r15 v16 v17 r16 r17 r18 r19 r20 r21 v18 r22 r23 r24 v19 h1 g0 f20 h2 g1 fn47 h3 g2 fn48)) [0, 1, 2, 3] rfl
            have hD9 := hD.sub (ws' := (wd_77d3d1bb h0 v0 h1 v1 x62 x66 v4 r0 r1 r2 r3 r4 r5 r6 v5 v6 r7 r8 h2 h3 x46 r9 r10 v8 v9 r11 r12 v10 v11 r13 v12 v13 r14 v14 w15 r15 v16 v17 r16 r17 r18 r19 r20 r21 v18 r22 r23 r24 v19 h1 g0 f20 h2 g1 fn47 h3 g2 fn48)) [0, 1, 2, 3] (by decide) rfl
            have hK9 := hK.sub (tys' := []) [] rfl
            exact W.iret (v := x66) hx hb hr (fun t ht hW => ⟨⟨x66, x66, rfl, rfl, Or.inr (⟨x62, x66, x46, fn47, fn48, oa_x62, by first | omega | decide, oa_x66, ob_x66, qa_x46, qb_x46, by first | omega | decide, by first | omega | decide, by first | (apply pg_office.b0 (R := f21) (B := f22) <;> first | assumption | omega | (apply pg_O.sf <;> first | assumption | omega) | (apply pg_O.bf <;> first | assumption | omega) | (apply pg_O.w <;> first | assumption | omega)) | (apply pg_office.b1 (R := f21) (B := f22) <;> first | assumption | omega | (apply pg_O.s0 <;> first | assumption | omega) | (apply pg_O.b0 <;> first | assumption | omega)) | (apply pg_office.b2 (R := f21) (B := f22) <;> first | assumption | omega | (apply pg_O.s0 <;> first | assumption | omega) | (apply pg_O.b0 <;> first | assumption | omega) | (apply pg_items.pn <;> first | assumption | omega)), by omega, by rw [ht]; exact hP9, va_K.moved hW.alike hK9, hD9⟩)⟩, hS.F ht⟩) hS.2.2 dX12_readOffice_230
          · skip
            have fc64 : ra55.toInt = 98 := congrArg Int32.toInt c64
            obtain rfl : ra55 = (98 : Int32) := Int32.toInt_inj.mp (by rw [show ((98 : Int32)).toInt = 98 by decide]; omega)
            refine lv_aload_n hx hb dX12_readOffice_103 rfl (lv_at hl 3 rfl) ?_
            refine va_get (D := (dC, dI)) (ci := 12) (v := .int x46) (C := RX12) (T := TX12) (N := 48) hx hb hts (fun _ h => List.mem_cons_of_mem _ (List.mem_append_right _ h)) hown hK hP 0 rfl rfl 19 (by decide) (hts (.fieldLink RX12 241 "LeftArgumentsModel" "readBags" "I") (List.mem_cons_of_mem _ (List.mem_append_left _ (List.mem_of_getElem? (i := 2) rfl)))) (fun _ h9 => h9) rfl dX12_readOffice_104 ?_
            refine lv_bipush (v := 8) hx hb dX12_readOffice_107 (by decide) ?_
            refine lv_icmp_ge (tgt := 151) hx hb dX12_readOffice_109 (by decide) (fun c70 => ?_) (fun c70 => ?_)
            · skip
              have fc70 : 8 ≤ x46.toInt := Int32.le_iff_toInt_le.mp c70
              refine lv_aload_n hx hb dX12_readOffice_151 rfl (lv_at hl 3 rfl) ?_
              have hPc := hP.sub (ws' := (wd_171f232f h0 v0 h1 v1 x62 (-1) v4 r0 r1 r2 r3 r4 r5 r6 v5 v6 r7 r8 h2 h3 x46 r9 r10 v8 v9 r11 r12 v10 v11 r13 v12 v13 r14 v14 w15 r15 v16 v17 r16 r17 r18 r19 r20 r21 v18 r22 r23 r24 v19)) [0] rfl
              have hDc := hD.sub (ws' := (wd_171f232f h0 v0 h1 v1 x62 (-1) v4 r0 r1 r2 r3 r4 r5 r6 v5 v6 r7 r8 h2 h3 x46 r9 r10 v8 v9 r11 r12 v10 v11 r13 v12 v13 r14 v14 w15 r15 v16 v17 r16 r17 r18 r19 r20 r21 v18 r22 r23 r24 v19)) [0] (by decide) rfl
              have hKc := hK.sub (tys' := []) [] rfl
              have hFc := va_free (wc := (wd_171f232f h0 v0 h1 v1 x62 (-1) v4 r0 r1 r2 r3 r4 r5 r6 v5 v6 r7 r8 h2 h3 x46 r9 r10 v8 v9 r11 r12 v10 v11 r13 v12 v13 r14 v14 w15 r15 v16 v17 r16 r17 r18 r19 r20 r21 v18 r22 r23 r24 v19)) hD hS hA [0] rfl
              refine va_callv (va_runV (As := []) (rest := []) ⟨hx, hb, hml, hown, hts⟩ (k_X12_bad l dC dI h0 v0 h1 v1 x62 v4 r0 r1 r2 r3 r4 r5 r6 v5 v6 r7 r8 h2 h3 x46 r9 r10 v8 v9 r11 r12 v10 v11 r13 v12 v13 r14 v14 w15 r15 v16 v17 r16 r17 r18 r19 r20 r21 v18 r22 r23 r24 v19 ⟨i_v1a, i_v1b⟩ ⟨oa_x62, by first | omega | decide⟩ ⟨i_v5a, i_v5b⟩ ⟨i_v6a, i_v6b⟩ ⟨qa_x46, qb_x46⟩ ⟨i_v8a, i_v8b⟩ ⟨i_v9a, i_v9b⟩ ⟨i_v10a, i_v10b⟩ ⟨i_v14a, i_v14b⟩ ⟨i_v18a, i_v18b⟩ ⟨i_v19a, i_v19b⟩ H.size) (cwV 0 hts g_X12_readOffice_5 rfl rfl rfl (by decide +kernel) ⟨Nat.le_of_ble_eq_true rfl, Nat.le_of_ble_eq_true rfl⟩) (pv_PV12 hPc hKc hDc (q0 := 0) rfl) rfl rfl hl.1 rfl (lv_room (Nat.le_of_ble_eq_true rfl)) dX12_readOffice_152 ⟨Nat.le_of_ble_eq_true rfl, Nat.le_of_ble_eq_true rfl⟩) hS (fun q _ h => hFc q h) hFc (fun u t H1 locs ht hvm hwra71 hB hz1 hk1 hS => ?_)
              obtain ⟨x72, oa_x72, ob_x72, pt0_ra71, hP1, hK1, hD1⟩ := hB
              rw [ht] at hP1
              obtain ⟨hP2, hD2⟩ := va_join (wr := (wd_bcaf9cf2 h1 g0 f20 h2 g1 fn47 h3 g2 fn48)) (w1 := (wd_171f232f h0 v0 h1 v1 x62 x72 v4 r0 r1 r2 r3 r4 r5 r6 v5 v6 r7 r8 h2 h3 x46 r9 r10 v8 v9 r11 r12 v10 v11 r13 v12 v13 r14 v14 w15 r15 v16 v17 r16 r17 r18 r19 r20 r21 v18 r22 r23 r24 v19)) hP hD [0] [1, 2, 3] rfl rfl (by decide) (by decide) hk1 hFc hP1 hD1
              clear hP hD hPc hDc hKc hFc hP1 hK1 hD1 hk1 hz1
              generalize H1 = H at hP2 hS ⊢
              have hP := hP2.sub (ws' := (wd_77d3d1bb h0 v0 h1 v1 x62 x72 v4 r0 r1 r2 r3 r4 r5 r6 v5 v6 r7 r8 h2 h3 x46 r9 r10 v8 v9 r11 r12 v10 v11 r13 v12 v13 r14 v14 w15 r15 v16 v17 r16 r17 r18 r19 r20 r21 v18 r22 r23 r24 v19 h1 g0 f20 h2 g1 fn47 h3 g2 fn48)) [3, 0, 1, 2] rfl
              have hD := hD2.sub (ws' := (wd_77d3d1bb h0 v0 h1 v1 x62 x72 v4 r0 r1 r2 r3 r4 r5 r6 v5 v6 r7 r8 h2 h3 x46 r9 r10 v8 v9 r11 r12 v10 v11 r13 v12 v13 r14 v14 w15 r15 v16 v17 r16 r17 r18 r19 r20 r21 v18 r22 r23 r24 v19 h1 g0 f20 h2 g1 fn47 h3 g2 fn48)) [3, 0, 1, 2] (by decide) rfl
              clear hP2 hD2
              refine lv_aload_n hx hb dX12_readOffice_155 rfl (lv_at hl 3 rfl) ?_
              refine va_get (D := (dC, dI)) (ci := 12) (v := .int x72) (C := RX12) (T := TX12) (N := 48) hx hb hts (fun _ h => List.mem_cons_of_mem _ (List.mem_append_right _ h)) hown hK hP 0 rfl rfl 4 (by decide) (hts (.fieldLink RX12 119 "LeftArgumentsModel" "wrong" "I") (List.mem_cons_of_mem _ (List.mem_append_left _ (List.mem_of_getElem? (i := 1) rfl)))) (fun _ h9 => h9) rfl dX12_readOffice_156 ?_
              refine lv_iconst (v := (-1)) hx hb dX12_readOffice_159 (by decide) ?_
              refine lv_icmp_ne (tgt := 176) hx hb dX12_readOffice_160 (by decide) (fun _ => ?_) (fun c73 => by exfalso; have fc73 : x72.toInt = (-1) := congrArg Int32.toInt c73; omega)
              refine lv_iconst (v := 0) hx hb dX12_readOffice_176 (by decide) ?_
              refine lv_istore_n (lv' := [(2, .int 0), (3, .int 98), (1, .int x44), (0, .ref h0)]) hx hb dX12_readOffice_177 rfl hl (by decide) rfl (fun ls hl => ?_)
              refine lv_aload_n hx hb dX12_readOffice_178 rfl (lv_at hl 3 rfl) ?_
              refine lv_dup hx hb dX12_readOffice_179 rfl ?_
              refine va_get (D := (dC, dI)) (ci := 12) (v := .int x62) (C := RX12) (T := TX12) (N := 48) hx hb hts (fun _ h => List.mem_cons_of_mem _ (List.mem_append_right _ h)) hown hK hP 0 rfl rfl 3 (by decide) (hts (.fieldLink RX12 112 "LeftArgumentsModel" "at" "I") (List.mem_cons_of_mem _ (List.mem_append_left _ (List.mem_of_getElem? (i := 0) rfl)))) (fun _ h9 => h9) rfl dX12_readOffice_180 ?_
              refine lv_iload_n hx hb dX12_readOffice_183 rfl (lv_at hl 0 rfl) ?_
              refine lv_if_eq (tgt := 191) hx hb dX12_readOffice_184 (by decide) (fun _ => ?_) (fun c => absurd (by decide) c)
              refine lv_iconst (v := 0) hx hb dX12_readOffice_191 (by decide) ?_
              refine lv_iadd hx hb dX12_readOffice_192 ?_
              refine lv_topi (fun t74 et74 => ?_)
              have gt74 : t74.toInt = x62.toInt + 0 := pv_add (a := x62.toInt) (b := 0) et74 rfl (by decide) (by omega) (by omega)
              obtain rfl : x62 = t74 := Int32.toInt_inj.mp (by omega)
              refine va_put (D := (dC, dI)) (ci := 12) (v := .int x62) (ty := .int) (C := RX12) (T := TX12) (N := 48) hx hb hts (fun _ h => List.mem_cons_of_mem _ (List.mem_append_right _ h)) tyX12 tyX12_ok nmX12 hown hK hP hD hS 0 rfl rfl 3 (by decide) (hts (.fieldLink RX12 112 "LeftArgumentsModel" "at" "I") (List.mem_cons_of_mem _ (List.mem_append_left _ (List.mem_of_getElem? (i := 0) rfl)))) (fun _ h9 => h9) rfl (by decide +kernel) rfl rfl (Nat.le_of_ble_eq_true rfl) dX12_readOffice_193 (fun H locs hP hD hS => ?_)
              have hP : va_P (dC, dI) vwCl (wd_77d3d1bb h0 v0 h1 v1 x62 x72 v4 r0 r1 r2 r3 r4 r5 r6 v5 v6 r7 r8 h2 h3 x46 r9 r10 v8 v9 r11 r12 v10 v11 r13 v12 v13 r14 v14 w15 r15 v16 v17 r16 r17 r18 r19 r20 r21 v18 r22 r23 r24 v19 h1 g0 f20 h2 g1 fn47 h3 g2 fn48) H := hP
              have hD : va_D A (wd_77d3d1bb h0 v0 h1 v1 x62 x72 v4 r0 r1 r2 r3 r4 r5 r6 v5 v6 r7 r8 h2 h3 x46 r9 r10 v8 v9 r11 r12 v10 v11 r13 v12 v13 r14 v14 w15 r15 v16 v17 r16 r17 r18 r19 r20 r21 v18 r22 r23 r24 v19 h1 g0 f20 h2 g1 fn47 h3 g2 fn48) := hD
              refine lv_goto (tgt := 44) hx hb dX12_readOffice_196 (by decide) ?_
              refine lv_iload_n hx hb dX12_readOffice_44 rfl (lv_at hl 0 rfl) ?_
              refine lv_if_eq (tgt := 199) hx hb dX12_readOffice_45 (by decide) (fun _ => ?_) (fun c => absurd (by decide) c)
              refine lv_aload_n hx hb dX12_readOffice_199 rfl (lv_at hl 3 rfl) ?_
              refine va_get (D := (dC, dI)) (ci := 12) (v := .int x72) (C := RX12) (T := TX12) (N := 48) hx hb hts (fun _ h => List.mem_cons_of_mem _ (List.mem_append_right _ h)) hown hK hP 0 rfl rfl 4 (by decide) (hts (.fieldLink RX12 119 "LeftArgumentsModel" "wrong" "I") (List.mem_cons_of_mem _ (List.mem_append_left _ (List.mem_of_getElem? (i := 1) rfl)))) (fun _ h9 => h9) rfl dX12_readOffice_200 ?_
              refine lv_iconst (v := (-1)) hx hb dX12_readOffice_203 (by decide) ?_
              refine lv_icmp_ne (tgt := 226) hx hb dX12_readOffice_204 (by decide) (fun _ => ?_) (fun c75 => by exfalso; have fc75 : x72.toInt = (-1) := congrArg Int32.toInt c75; omega)
              refine lv_aload_n hx hb dX12_readOffice_226 rfl (lv_at hl 3 rfl) ?_
              refine va_get (D := (dC, dI)) (ci := 12) (v := .int x72) (C := RX12) (T := TX12) (N := 48) hx hb hts (fun _ h => List.mem_cons_of_mem _ (List.mem_append_right _ h)) hown hK hP 0 rfl rfl 4 (by decide) (hts (.fieldLink RX12 119 "LeftArgumentsModel" "wrong" "I") (List.mem_cons_of_mem _ (List.mem_append_left _ (List.mem_of_getElem? (i := 1) rfl)))) (fun _ h9 => h9) rfl dX12_readOffice_227 ?_
              subst hQ
              have hP9 := hP.sub (ws' := (wd_77d3d1bb h0 v0 h1 v1 x62 x72 v4 r0 r1 r2 r3 r4 r5 r6 v5 v6 r7 r8 h2 h3 x46 r9 r10 v8 v9 r11 r12 v10 v11 r13 v12 v13 r14 v14 w15 r15 v16 v17 r16 r17 r18 r19 r20 r21 v18 r22 r23 r24 v19 h1 g0 f20 h2 g1 fn47 h3 g2 fn48)) [0, 1, 2, 3] rfl
              have hD9 := hD.sub (ws' := (wd_77d3d1bb h0 v0 h1 v1 x62 x72 v4 r0 r1 r2 r3 r4 r5 r6 v5 v6 r7 r8 h2 h3 x46 r9 r10 v8 v9 r11 r12 v10 v11 r13 v12 v13 r14 v14 w15 r15 v16 v17 r16 r17 r18 r19 r20 r21 v18 r22 r23 r24 v19 h1 g0 f20 h2 g1 fn47 h3 g2 fn48)) [0, 1, 2, 3] (by decide) rfl
              have hK9 := hK.sub (tys' := []) [] rfl
              exact W.iret (v := x72) hx hb hr (fun t ht hW => ⟨⟨x72, x72, rfl, rfl, Or.inr (⟨x62, x72, x46, fn47, fn48, oa_x62, by first | omega | decide, oa_x72, ob_x72, qa_x46, qb_x46, by first | omega | decide, by first | omega | decide, by first | (apply pg_office.b0 (R := f21) (B := f22) <;> first | assumption | omega | (apply pg_O.sf <;> first | assumption | omega) | (apply pg_O.bf <;> first | assumption | omega) | (apply pg_O.w <;> first | assumption | omega)) | (apply pg_office.b1 (R := f21) (B := f22) <;> first | assumption | omega | (apply pg_O.s0 <;> first | assumption | omega) | (apply pg_O.b0 <;> first | assumption | omega)) | (apply pg_office.b2 (R := f21) (B := f22) <;> first | assumption | omega | (apply pg_O.s0 <;> first | assumption | omega) | (apply pg_O.b0 <;> first | assumption | omega) | (apply pg_items.pn <;> first | assumption | omega)), by omega, by rw [ht]; exact hP9, va_K.moved hW.alike hK9, hD9⟩)⟩, hS.F ht⟩) hS.2.2 dX12_readOffice_230
            · skip
              have fc70 : ¬ (8 ≤ x46.toInt) := fun h9 => c70 (Int32.le_iff_toInt_le.mpr h9)
              refine lv_aload_n hx hb dX12_readOffice_112 rfl (lv_at hl 3 rfl) ?_
              refine lv_dup hx hb dX12_readOffice_113 rfl ?_
              refine va_get (D := (dC, dI)) (ci := 12) (v := .int x62) (C := RX12) (T := TX12) (N := 48) hx hb hts (fun _ h => List.mem_cons_of_mem _ (List.mem_append_right _ h)) hown hK hP 0 rfl rfl 3 (by decide) (hts (.fieldLink RX12 112 "LeftArgumentsModel" "at" "I") (List.mem_cons_of_mem _ (List.mem_append_left _ (List.mem_of_getElem? (i := 0) rfl)))) (fun _ h9 => h9) rfl dX12_readOffice_114 ?_
              refine lv_iconst (v := 1) hx hb dX12_readOffice_117 (by decide) ?_
              refine lv_iadd hx hb dX12_readOffice_118 ?_
              refine lv_topi (fun t76 et76 => ?_)
              have gt76 : t76.toInt = x62.toInt + 1 := pv_add (a := x62.toInt) (b := 1) et76 rfl (by decide) (by omega) (by omega)
              refine va_put (D := (dC, dI)) (ci := 12) (v := .int t76) (ty := .int) (C := RX12) (T := TX12) (N := 48) hx hb hts (fun _ h => List.mem_cons_of_mem _ (List.mem_append_right _ h)) tyX12 tyX12_ok nmX12 hown hK hP hD hS 0 rfl rfl 3 (by decide) (hts (.fieldLink RX12 112 "LeftArgumentsModel" "at" "I") (List.mem_cons_of_mem _ (List.mem_append_left _ (List.mem_of_getElem? (i := 0) rfl)))) (fun _ h9 => h9) rfl (by decide +kernel) rfl rfl (Nat.le_of_ble_eq_true rfl) dX12_readOffice_119 (fun H locs hP hD hS => ?_)
              have hP : va_P (dC, dI) vwCl (wd_77d3d1bb h0 v0 h1 v1 t76 (-1) v4 r0 r1 r2 r3 r4 r5 r6 v5 v6 r7 r8 h2 h3 x46 r9 r10 v8 v9 r11 r12 v10 v11 r13 v12 v13 r14 v14 w15 r15 v16 v17 r16 r17 r18 r19 r20 r21 v18 r22 r23 r24 v19 h1 g0 f20 h2 g1 fn47 h3 g2 fn48) H := hP
              have hD : va_D A (wd_77d3d1bb h0 v0 h1 v1 t76 (-1) v4 r0 r1 r2 r3 r4 r5 r6 v5 v6 r7 r8 h2 h3 x46 r9 r10 v8 v9 r11 r12 v10 v11 r13 v12 v13 r14 v14 w15 r15 v16 v17 r16 r17 r18 r19 r20 r21 v18 r22 r23 r24 v19 h1 g0 f20 h2 g1 fn47 h3 g2 fn48) := hD
              refine lv_aload_n hx hb dX12_readOffice_122 rfl (lv_at hl 3 rfl) ?_
              refine lv_iload_n hx hb dX12_readOffice_123 rfl (lv_at hl 0 rfl) ?_
              refine lv_aload_n hx hb dX12_readOffice_124 rfl (lv_at hl 3 rfl) ?_
              refine va_get (D := (dC, dI)) (ci := 12) (v := .ref h3) (C := RX12) (T := TX12) (N := 48) hx hb hts (fun _ h => List.mem_cons_of_mem _ (List.mem_append_right _ h)) hown hK hP 0 rfl rfl 18 (by decide) (hts (.fieldLink RX12 43 "LeftArgumentsModel" "readBag" "[I") (List.mem_cons_of_mem _ (List.mem_append_left _ (List.mem_of_getElem? (i := 22) rfl)))) (fun _ h9 => h9) rfl dX12_readOffice_125 ?_
              refine lv_iconst (v := 5) hx hb dX12_readOffice_128 (by decide) ?_
              refine lv_aload_n hx hb dX12_readOffice_129 rfl (lv_at hl 3 rfl) ?_
              refine va_get (D := (dC, dI)) (ci := 12) (v := .int x46) (C := RX12) (T := TX12) (N := 48) hx hb hts (fun _ h => List.mem_cons_of_mem _ (List.mem_append_right _ h)) hown hK hP 0 rfl rfl 19 (by decide) (hts (.fieldLink RX12 241 "LeftArgumentsModel" "readBags" "I") (List.mem_cons_of_mem _ (List.mem_append_left _ (List.mem_of_getElem? (i := 2) rfl)))) (fun _ h9 => h9) rfl dX12_readOffice_130 ?_
              refine lv_imul hx hb dX12_readOffice_133 ?_
              refine lv_topi (fun t77 et77 => ?_)
              have gt77 : t77.toInt = 5 * x46.toInt := pv_mul (a := 5) (b := x46.toInt) et77 (by decide) rfl (by omega) (by omega)
              refine lv_iconst (v := 5) hx hb dX12_readOffice_134 (by decide) ?_
              have hPc := hP.sub (ws' := (wd_b9c2d44b h0 v0 h1 v1 t76 (-1) v4 r0 r1 r2 r3 r4 r5 r6 v5 v6 r7 r8 h2 h3 x46 r9 r10 v8 v9 r11 r12 v10 v11 r13 v12 v13 r14 v14 w15 r15 v16 v17 r16 r17 r18 r19 r20 r21 v18 r22 r23 r24 v19 h1 g0 f20 h3 g2 fn48)) [0, 1, 3] rfl
              have hDc := hD.sub (ws' := (wd_b9c2d44b h0 v0 h1 v1 t76 (-1) v4 r0 r1 r2 r3 r4 r5 r6 v5 v6 r7 r8 h2 h3 x46 r9 r10 v8 v9 r11 r12 v10 v11 r13 v12 v13 r14 v14 w15 r15 v16 v17 r16 r17 r18 r19 r20 r21 v18 r22 r23 r24 v19 h1 g0 f20 h3 g2 fn48)) [0, 1, 3] (by decide) rfl
              have hKc := hK.sub (tys' := [(g0, .int), (g2, .int)]) [0, 2] rfl
              have hFc := va_free (wc := (wd_b9c2d44b h0 v0 h1 v1 t76 (-1) v4 r0 r1 r2 r3 r4 r5 r6 v5 v6 r7 r8 h2 h3 x46 r9 r10 v8 v9 r11 r12 v10 v11 r13 v12 v13 r14 v14 w15 r15 v16 v17 r16 r17 r18 r19 r20 r21 v18 r22 r23 r24 v19 h1 g0 f20 h3 g2 fn48)) hD hS hA [0, 1, 3] rfl
              refine va_callv (va_runV (As := [.int 98, .ref h3, .int t77, .int 5]) (rest := []) ⟨hx, hb, hml, hown, hts⟩ (k_X12_items_2 l dC dI h0 h1 h3 v0 v1 t76 v4 r0 r1 r2 r3 r4 r5 r6 v5 v6 r7 r8 h2 x46 r9 r10 v8 v9 r11 r12 v10 v11 r13 v12 v13 r14 v14 w15 r15 v16 v17 r16 r17 r18 r19 r20 r21 v18 r22 r23 r24 v19 g0 f20 g2 fn48 t77 ⟨i_v1a, i_v1b⟩ ⟨by first | omega | decide, by first | omega | decide⟩ ⟨i_v5a, i_v5b⟩ ⟨i_v6a, i_v6b⟩ ⟨qa_x46, qb_x46⟩ ⟨i_v8a, i_v8b⟩ ⟨i_v9a, i_v9b⟩ ⟨i_v10a, i_v10b⟩ ⟨i_v14a, i_v14b⟩ ⟨i_v18a, i_v18b⟩ ⟨i_v19a, i_v19b⟩ ⟨by first | omega | decide, by first | omega | decide⟩ ia_f20 H.size) (cwV 4 hts g_X12_readOffice_8 rfl rfl rfl (by decide +kernel) ⟨Nat.le_of_ble_eq_true rfl, Nat.le_of_ble_eq_true rfl⟩) (pv_PV12 hPc hKc hDc (q0 := 0) rfl) rfl rfl hl.1 rfl (lv_room (Nat.le_of_ble_eq_true rfl)) dX12_readOffice_135 ⟨Nat.le_of_ble_eq_true rfl, Nat.le_of_ble_eq_true rfl⟩) hS (fun q _ h => hFc q h) hFc (fun u t H1 locs ht hvm hwra78 hB hz1 hk1 hS => ?_)
              rcases hB with hB | hB
              · skip
                obtain ⟨x79, fn80, oa_x79, ob_x79, pt0_ra78, pt1_ra78, pt2_ra78, hP1, hK1, hD1⟩ := hB
                rw [ht] at hP1
                obtain ⟨hP2, hD2⟩ := va_join (wr := (wd_6f8f3203 h2 g1 fn47)) (w1 := (wd_b9c2d44b h0 v0 h1 v1 x79 (-1) v4 r0 r1 r2 r3 r4 r5 r6 v5 v6 r7 r8 h2 h3 x46 r9 r10 v8 v9 r11 r12 v10 v11 r13 v12 v13 r14 v14 w15 r15 v16 v17 r16 r17 r18 r19 r20 r21 v18 r22 r23 r24 v19 h1 g0 f20 h3 g2 fn80)) hP hD [0, 1, 3] [2] rfl rfl (by decide) (by decide) hk1 hFc hP1 hD1
                clear hP hD hPc hDc hKc hFc hP1 hK1 hD1 hk1 hz1
                generalize H1 = H at hP2 hS ⊢
                have hP := hP2.sub (ws' := (wd_77d3d1bb h0 v0 h1 v1 x79 (-1) v4 r0 r1 r2 r3 r4 r5 r6 v5 v6 r7 r8 h2 h3 x46 r9 r10 v8 v9 r11 r12 v10 v11 r13 v12 v13 r14 v14 w15 r15 v16 v17 r16 r17 r18 r19 r20 r21 v18 r22 r23 r24 v19 h1 g0 f20 h2 g1 fn47 h3 g2 fn80)) [1, 2, 0, 3] rfl
                have hD := hD2.sub (ws' := (wd_77d3d1bb h0 v0 h1 v1 x79 (-1) v4 r0 r1 r2 r3 r4 r5 r6 v5 v6 r7 r8 h2 h3 x46 r9 r10 v8 v9 r11 r12 v10 v11 r13 v12 v13 r14 v14 w15 r15 v16 v17 r16 r17 r18 r19 r20 r21 v18 r22 r23 r24 v19 h1 g0 f20 h2 g1 fn47 h3 g2 fn80)) [1, 2, 0, 3] (by decide) rfl
                clear hP2 hD2
                refine lv_aload_n hx hb dX12_readOffice_138 rfl (lv_at hl 3 rfl) ?_
                refine lv_dup hx hb dX12_readOffice_139 rfl ?_
                refine va_get (D := (dC, dI)) (ci := 12) (v := .int x46) (C := RX12) (T := TX12) (N := 48) hx hb hts (fun _ h => List.mem_cons_of_mem _ (List.mem_append_right _ h)) hown hK hP 0 rfl rfl 19 (by decide) (hts (.fieldLink RX12 241 "LeftArgumentsModel" "readBags" "I") (List.mem_cons_of_mem _ (List.mem_append_left _ (List.mem_of_getElem? (i := 2) rfl)))) (fun _ h9 => h9) rfl dX12_readOffice_140 ?_
                refine lv_iconst (v := 1) hx hb dX12_readOffice_143 (by decide) ?_
                refine lv_iadd hx hb dX12_readOffice_144 ?_
                refine lv_topi (fun t81 et81 => ?_)
                have gt81 : t81.toInt = x46.toInt + 1 := pv_add (a := x46.toInt) (b := 1) et81 rfl (by decide) (by omega) (by omega)
                refine va_put (D := (dC, dI)) (ci := 12) (v := .int t81) (ty := .int) (C := RX12) (T := TX12) (N := 48) hx hb hts (fun _ h => List.mem_cons_of_mem _ (List.mem_append_right _ h)) tyX12 tyX12_ok nmX12 hown hK hP hD hS 0 rfl rfl 19 (by decide) (hts (.fieldLink RX12 241 "LeftArgumentsModel" "readBags" "I") (List.mem_cons_of_mem _ (List.mem_append_left _ (List.mem_of_getElem? (i := 2) rfl)))) (fun _ h9 => h9) rfl (by decide +kernel) rfl rfl (Nat.le_of_ble_eq_true rfl) dX12_readOffice_145 (fun H locs hP hD hS => ?_)
                have hP : va_P (dC, dI) vwCl (wd_77d3d1bb h0 v0 h1 v1 x79 (-1) v4 r0 r1 r2 r3 r4 r5 r6 v5 v6 r7 r8 h2 h3 t81 r9 r10 v8 v9 r11 r12 v10 v11 r13 v12 v13 r14 v14 w15 r15 v16 v17 r16 r17 r18 r19 r20 r21 v18 r22 r23 r24 v19 h1 g0 f20 h2 g1 fn47 h3 g2 fn80) H := hP
                have hD : va_D A (wd_77d3d1bb h0 v0 h1 v1 x79 (-1) v4 r0 r1 r2 r3 r4 r5 r6 v5 v6 r7 r8 h2 h3 t81 r9 r10 v8 v9 r11 r12 v10 v11 r13 v12 v13 r14 v14 w15 r15 v16 v17 r16 r17 r18 r19 r20 r21 v18 r22 r23 r24 v19 h1 g0 f20 h2 g1 fn47 h3 g2 fn80) := hD
                refine lv_goto (tgt := 155) hx hb dX12_readOffice_148 (by decide) ?_
                refine lv_aload_n hx hb dX12_readOffice_155 rfl (lv_at hl 3 rfl) ?_
                refine va_get (D := (dC, dI)) (ci := 12) (v := .int (-1)) (C := RX12) (T := TX12) (N := 48) hx hb hts (fun _ h => List.mem_cons_of_mem _ (List.mem_append_right _ h)) hown hK hP 0 rfl rfl 4 (by decide) (hts (.fieldLink RX12 119 "LeftArgumentsModel" "wrong" "I") (List.mem_cons_of_mem _ (List.mem_append_left _ (List.mem_of_getElem? (i := 1) rfl)))) (fun _ h9 => h9) rfl dX12_readOffice_156 ?_
                refine lv_iconst (v := (-1)) hx hb dX12_readOffice_159 (by decide) ?_
                refine lv_icmp_ne (tgt := 176) hx hb dX12_readOffice_160 (by decide) (fun c => absurd (by decide) c) (fun _ => ?_)
                refine lv_aload_n hx hb dX12_readOffice_163 rfl (lv_at hl 3 rfl) ?_
                have hPc := hP.sub (ws' := (wd_f4cd022e h0 v0 h1 v1 x79 (-1) v4 r0 r1 r2 r3 r4 r5 r6 v5 v6 r7 r8 h2 h3 t81 r9 r10 v8 v9 r11 r12 v10 v11 r13 v12 v13 r14 v14 w15 r15 v16 v17 r16 r17 r18 r19 r20 r21 v18 r22 r23 r24 v19 h1 g0 f20)) [0, 1] rfl
                have hDc := hD.sub (ws' := (wd_f4cd022e h0 v0 h1 v1 x79 (-1) v4 r0 r1 r2 r3 r4 r5 r6 v5 v6 r7 r8 h2 h3 t81 r9 r10 v8 v9 r11 r12 v10 v11 r13 v12 v13 r14 v14 w15 r15 v16 v17 r16 r17 r18 r19 r20 r21 v18 r22 r23 r24 v19 h1 g0 f20)) [0, 1] (by decide) rfl
                have hKc := hK.sub (tys' := [(g0, .int)]) [0] rfl
                have hFc := va_free (wc := (wd_f4cd022e h0 v0 h1 v1 x79 (-1) v4 r0 r1 r2 r3 r4 r5 r6 v5 v6 r7 r8 h2 h3 t81 r9 r10 v8 v9 r11 r12 v10 v11 r13 v12 v13 r14 v14 w15 r15 v16 v17 r16 r17 r18 r19 r20 r21 v18 r22 r23 r24 v19 h1 g0 f20)) hD hS hA [0, 1] rfl
                refine va_calli (va_runV (As := []) (rest := []) ⟨hx, hb, hml, hown, hts⟩ (k_X12_look l dC dI h0 h1 v0 v1 x79 ((-1)) v4 r0 r1 r2 r3 r4 r5 r6 v5 v6 r7 r8 h2 h3 t81 r9 r10 v8 v9 r11 r12 v10 v11 r13 v12 v13 r14 v14 w15 r15 v16 v17 r16 r17 r18 r19 r20 r21 v18 r22 r23 r24 v19 g0 f20 ⟨i_v1a, i_v1b⟩ ⟨oa_x79, ob_x79⟩ ⟨i_v5a, i_v5b⟩ ⟨i_v6a, i_v6b⟩ ⟨by first | omega | decide, by first | omega | decide⟩ ⟨i_v8a, i_v8b⟩ ⟨i_v9a, i_v9b⟩ ⟨i_v10a, i_v10b⟩ ⟨i_v14a, i_v14b⟩ ⟨i_v18a, i_v18b⟩ ⟨i_v19a, i_v19b⟩ ia_f20 H.size) (cwV 0 hts g_X12_readOffice_4 rfl rfl rfl (by decide +kernel) ⟨Nat.le_of_ble_eq_true rfl, Nat.le_of_ble_eq_true rfl⟩) (pv_PV12 hPc hKc hDc (q0 := 0) rfl) rfl rfl hl.1 rfl (lv_room (Nat.le_of_ble_eq_true rfl)) dX12_readOffice_164 ⟨Nat.le_of_ble_eq_true rfl, Nat.le_of_ble_eq_true rfl⟩) hS (fun q _ h => hFc q h) hFc (fun ra82 u t H1 locs ht hvm hwra82 hB hz1 hk1 hS => ?_)
                try rw [hwra82] at hB
                have hkra82_0 : (((-1) : Int32)).toInt = -1 := by decide
                rcases hB with hB | hB
                · skip
                  obtain ⟨x83, oa_x83, ob_x83, pt0_ra82, pt1_ra82, pt2_ra82, pt3_ra82, pt4_ra82, pt5_ra82, pt6_ra82, hP1, hK1, hD1⟩ := hB
                  rw [ht] at hP1
                  obtain ⟨hP2, hD2⟩ := va_join (wr := (wd_5ef8c86c h2 g1 fn47 h3 g2 fn80)) (w1 := (wd_f4cd022e h0 v0 h1 v1 x83 (-1) v4 r0 r1 r2 r3 r4 r5 r6 v5 v6 r7 r8 h2 h3 t81 r9 r10 v8 v9 r11 r12 v10 v11 r13 v12 v13 r14 v14 w15 r15 v16 v17 r16 r17 r18 r19 r20 r21 v18 r22 r23 r24 v19 h1 g0 f20)) hP hD [0, 1] [2, 3] rfl rfl (by decide) (by decide) hk1 hFc hP1 hD1
                  clear hP hD hPc hDc hKc hFc hP1 hK1 hD1 hk1 hz1
                  generalize H1 = H at hP2 hS ⊢
                  have hP := hP2.sub (ws' := (wd_77d3d1bb h0 v0 h1 v1 x83 (-1) v4 r0 r1 r2 r3 r4 r5 r6 v5 v6 r7 r8 h2 h3 t81 r9 r10 v8 v9 r11 r12 v10 v11 r13 v12 v13 r14 v14 w15 r15 v16 v17 r16 r17 r18 r19 r20 r21 v18 r22 r23 r24 v19 h1 g0 f20 h2 g1 fn47 h3 g2 fn80)) [2, 3, 0, 1] rfl
                  have hD := hD2.sub (ws' := (wd_77d3d1bb h0 v0 h1 v1 x83 (-1) v4 r0 r1 r2 r3 r4 r5 r6 v5 v6 r7 r8 h2 h3 t81 r9 r10 v8 v9 r11 r12 v10 v11 r13 v12 v13 r14 v14 w15 r15 v16 v17 r16 r17 r18 r19 r20 r21 v18 r22 r23 r24 v19 h1 g0 f20 h2 g1 fn47 h3 g2 fn80)) [2, 3, 0, 1] (by decide) rfl
                  clear hP2 hD2
                  obtain rfl : ra82 = ((-1) : Int32) := pv_cs (by decide) pt0_ra82 pt1_ra82
                  refine lv_bipush (v := 59) hx hb dX12_readOffice_167 (by decide) ?_
                  refine lv_icmp_ne (tgt := 176) hx hb dX12_readOffice_169 (by decide) (fun _ => ?_) (fun c => absurd c (by decide))
                  refine lv_iconst (v := 0) hx hb dX12_readOffice_176 (by decide) ?_
                  refine lv_istore_n (lv' := [(2, .int 0), (3, .int 98), (1, .int x44), (0, .ref h0)]) hx hb dX12_readOffice_177 rfl hl (by decide) rfl (fun ls hl => ?_)
                  refine lv_aload_n hx hb dX12_readOffice_178 rfl (lv_at hl 3 rfl) ?_
                  refine lv_dup hx hb dX12_readOffice_179 rfl ?_
                  refine va_get (D := (dC, dI)) (ci := 12) (v := .int x83) (C := RX12) (T := TX12) (N := 48) hx hb hts (fun _ h => List.mem_cons_of_mem _ (List.mem_append_right _ h)) hown hK hP 0 rfl rfl 3 (by decide) (hts (.fieldLink RX12 112 "LeftArgumentsModel" "at" "I") (List.mem_cons_of_mem _ (List.mem_append_left _ (List.mem_of_getElem? (i := 0) rfl)))) (fun _ h9 => h9) rfl dX12_readOffice_180 ?_
                  refine lv_iload_n hx hb dX12_readOffice_183 rfl (lv_at hl 0 rfl) ?_
                  refine lv_if_eq (tgt := 191) hx hb dX12_readOffice_184 (by decide) (fun _ => ?_) (fun c => absurd (by decide) c)
                  refine lv_iconst (v := 0) hx hb dX12_readOffice_191 (by decide) ?_
                  refine lv_iadd hx hb dX12_readOffice_192 ?_
                  refine lv_topi (fun t84 et84 => ?_)
                  have gt84 : t84.toInt = x83.toInt + 0 := pv_add (a := x83.toInt) (b := 0) et84 rfl (by decide) (by omega) (by omega)
                  obtain rfl : x83 = t84 := Int32.toInt_inj.mp (by omega)
                  refine va_put (D := (dC, dI)) (ci := 12) (v := .int x83) (ty := .int) (C := RX12) (T := TX12) (N := 48) hx hb hts (fun _ h => List.mem_cons_of_mem _ (List.mem_append_right _ h)) tyX12 tyX12_ok nmX12 hown hK hP hD hS 0 rfl rfl 3 (by decide) (hts (.fieldLink RX12 112 "LeftArgumentsModel" "at" "I") (List.mem_cons_of_mem _ (List.mem_append_left _ (List.mem_of_getElem? (i := 0) rfl)))) (fun _ h9 => h9) rfl (by decide +kernel) rfl rfl (Nat.le_of_ble_eq_true rfl) dX12_readOffice_193 (fun H locs hP hD hS => ?_)
                  have hP : va_P (dC, dI) vwCl (wd_77d3d1bb h0 v0 h1 v1 x83 (-1) v4 r0 r1 r2 r3 r4 r5 r6 v5 v6 r7 r8 h2 h3 t81 r9 r10 v8 v9 r11 r12 v10 v11 r13 v12 v13 r14 v14 w15 r15 v16 v17 r16 r17 r18 r19 r20 r21 v18 r22 r23 r24 v19 h1 g0 f20 h2 g1 fn47 h3 g2 fn80) H := hP
                  have hD : va_D A (wd_77d3d1bb h0 v0 h1 v1 x83 (-1) v4 r0 r1 r2 r3 r4 r5 r6 v5 v6 r7 r8 h2 h3 t81 r9 r10 v8 v9 r11 r12 v10 v11 r13 v12 v13 r14 v14 w15 r15 v16 v17 r16 r17 r18 r19 r20 r21 v18 r22 r23 r24 v19 h1 g0 f20 h2 g1 fn47 h3 g2 fn80) := hD
                  refine lv_goto (tgt := 44) hx hb dX12_readOffice_196 (by decide) ?_
                  refine lv_iload_n hx hb dX12_readOffice_44 rfl (lv_at hl 0 rfl) ?_
                  refine lv_if_eq (tgt := 199) hx hb dX12_readOffice_45 (by decide) (fun _ => ?_) (fun c => absurd (by decide) c)
                  refine lv_aload_n hx hb dX12_readOffice_199 rfl (lv_at hl 3 rfl) ?_
                  refine va_get (D := (dC, dI)) (ci := 12) (v := .int (-1)) (C := RX12) (T := TX12) (N := 48) hx hb hts (fun _ h => List.mem_cons_of_mem _ (List.mem_append_right _ h)) hown hK hP 0 rfl rfl 4 (by decide) (hts (.fieldLink RX12 119 "LeftArgumentsModel" "wrong" "I") (List.mem_cons_of_mem _ (List.mem_append_left _ (List.mem_of_getElem? (i := 1) rfl)))) (fun _ h9 => h9) rfl dX12_readOffice_200 ?_
                  refine lv_iconst (v := (-1)) hx hb dX12_readOffice_203 (by decide) ?_
                  refine lv_icmp_ne (tgt := 226) hx hb dX12_readOffice_204 (by decide) (fun c => absurd (by decide) c) (fun _ => ?_)
                  refine lv_aload_n hx hb dX12_readOffice_207 rfl (lv_at hl 3 rfl) ?_
                  have hPc := hP.sub (ws' := (wd_f4cd022e h0 v0 h1 v1 x83 (-1) v4 r0 r1 r2 r3 r4 r5 r6 v5 v6 r7 r8 h2 h3 t81 r9 r10 v8 v9 r11 r12 v10 v11 r13 v12 v13 r14 v14 w15 r15 v16 v17 r16 r17 r18 r19 r20 r21 v18 r22 r23 r24 v19 h1 g0 f20)) [0, 1] rfl
                  have hDc := hD.sub (ws' := (wd_f4cd022e h0 v0 h1 v1 x83 (-1) v4 r0 r1 r2 r3 r4 r5 r6 v5 v6 r7 r8 h2 h3 t81 r9 r10 v8 v9 r11 r12 v10 v11 r13 v12 v13 r14 v14 w15 r15 v16 v17 r16 r17 r18 r19 r20 r21 v18 r22 r23 r24 v19 h1 g0 f20)) [0, 1] (by decide) rfl
                  have hKc := hK.sub (tys' := [(g0, .int)]) [0] rfl
                  have hFc := va_free (wc := (wd_f4cd022e h0 v0 h1 v1 x83 (-1) v4 r0 r1 r2 r3 r4 r5 r6 v5 v6 r7 r8 h2 h3 t81 r9 r10 v8 v9 r11 r12 v10 v11 r13 v12 v13 r14 v14 w15 r15 v16 v17 r16 r17 r18 r19 r20 r21 v18 r22 r23 r24 v19 h1 g0 f20)) hD hS hA [0, 1] rfl
                  refine va_calli (va_runV (As := []) (rest := []) ⟨hx, hb, hml, hown, hts⟩ (k_X12_look l dC dI h0 h1 v0 v1 x83 ((-1)) v4 r0 r1 r2 r3 r4 r5 r6 v5 v6 r7 r8 h2 h3 t81 r9 r10 v8 v9 r11 r12 v10 v11 r13 v12 v13 r14 v14 w15 r15 v16 v17 r16 r17 r18 r19 r20 r21 v18 r22 r23 r24 v19 g0 f20 ⟨i_v1a, i_v1b⟩ ⟨oa_x83, ob_x83⟩ ⟨i_v5a, i_v5b⟩ ⟨i_v6a, i_v6b⟩ ⟨by first | omega | decide, by first | omega | decide⟩ ⟨i_v8a, i_v8b⟩ ⟨i_v9a, i_v9b⟩ ⟨i_v10a, i_v10b⟩ ⟨i_v14a, i_v14b⟩ ⟨i_v18a, i_v18b⟩ ⟨i_v19a, i_v19b⟩ ia_f20 H.size) (cwV 0 hts g_X12_readOffice_4 rfl rfl rfl (by decide +kernel) ⟨Nat.le_of_ble_eq_true rfl, Nat.le_of_ble_eq_true rfl⟩) (pv_PV12 hPc hKc hDc (q0 := 0) rfl) rfl rfl hl.1 rfl (lv_room (Nat.le_of_ble_eq_true rfl)) dX12_readOffice_208 ⟨Nat.le_of_ble_eq_true rfl, Nat.le_of_ble_eq_true rfl⟩) hS (fun q _ h => hFc q h) hFc (fun ra85 u t H1 locs ht hvm hwra85 hB hz1 hk1 hS => ?_)
                  try rw [hwra85] at hB
                  have hkra85_0 : (((-1) : Int32)).toInt = -1 := by decide
                  rcases hB with hB | hB
                  · skip
                    obtain ⟨x86, oa_x86, ob_x86, pt0_ra85, pt1_ra85, pt2_ra85, pt3_ra85, pt4_ra85, pt5_ra85, pt6_ra85, hP1, hK1, hD1⟩ := hB
                    rw [ht] at hP1
                    obtain ⟨hP2, hD2⟩ := va_join (wr := (wd_5ef8c86c h2 g1 fn47 h3 g2 fn80)) (w1 := (wd_f4cd022e h0 v0 h1 v1 x86 (-1) v4 r0 r1 r2 r3 r4 r5 r6 v5 v6 r7 r8 h2 h3 t81 r9 r10 v8 v9 r11 r12 v10 v11 r13 v12 v13 r14 v14 w15 r15 v16 v17 r16 r17 r18 r19 r20 r21 v18 r22 r23 r24 v19 h1 g0 f20)) hP hD [0, 1] [2, 3] rfl rfl (by decide) (by decide) hk1 hFc hP1 hD1
                    clear hP hD hPc hDc hKc hFc hP1 hK1 hD1 hk1 hz1
                    generalize H1 = H at hP2 hS ⊢
                    have hP := hP2.sub (ws' := (wd_77d3d1bb h0 v0 h1 v1 x86 (-1) v4 r0 r1 r2 r3 r4 r5 r6 v5 v6 r7 r8 h2 h3 t81 r9 r10 v8 v9 r11 r12 v10 v11 r13 v12 v13 r14 v14 w15 r15 v16 v17 r16 r17 r18 r19 r20 r21 v18 r22 r23 r24 v19 h1 g0 f20 h2 g1 fn47 h3 g2 fn80)) [2, 3, 0, 1] rfl
                    have hD := hD2.sub (ws' := (wd_77d3d1bb h0 v0 h1 v1 x86 (-1) v4 r0 r1 r2 r3 r4 r5 r6 v5 v6 r7 r8 h2 h3 t81 r9 r10 v8 v9 r11 r12 v10 v11 r13 v12 v13 r14 v14 w15 r15 v16 v17 r16 r17 r18 r19 r20 r21 v18 r22 r23 r24 v19 h1 g0 f20 h2 g1 fn47 h3 g2 fn80)) [2, 3, 0, 1] (by decide) rfl
                    clear hP2 hD2
                    obtain rfl : ra85 = ((-1) : Int32) := pv_cs (by decide) pt0_ra85 pt1_ra85
                    have hsh : pg_s f20 v1.toInt x83.toInt = x83.toInt := pg_s.here (by assumption)
                    obtain rfl : x83 = x86 := Int32.toInt_inj.mp (by omega)
                    have hP : va_P (dC, dI) vwCl (wd_77d3d1bb h0 v0 h1 v1 x83 (-1) v4 r0 r1 r2 r3 r4 r5 r6 v5 v6 r7 r8 h2 h3 t81 r9 r10 v8 v9 r11 r12 v10 v11 r13 v12 v13 r14 v14 w15 r15 v16 v17 r16 r17 r18 r19 r20 r21 v18 r22 r23 r24 v19 h1 g0 f20 h2 g1 fn47 h3 g2 fn80) H := hP
                    have hD : va_D A (wd_77d3d1bb h0 v0 h1 v1 x83 (-1) v4 r0 r1 r2 r3 r4 r5 r6 v5 v6 r7 r8 h2 h3 t81 r9 r10 v8 v9 r11 r12 v10 v11 r13 v12 v13 r14 v14 w15 r15 v16 v17 r16 r17 r18 r19 r20 r21 v18 r22 r23 r24 v19 h1 g0 f20 h2 g1 fn47 h3 g2 fn80) := hD
                    refine lv_iconst (v := (-1)) hx hb dX12_readOffice_211 (by decide) ?_
                    refine lv_icmp_ne (tgt := 222) hx hb dX12_readOffice_212 (by decide) (fun c => absurd (by decide) c) (fun _ => ?_)
                    refine lv_aload_n hx hb dX12_readOffice_215 rfl (lv_at hl 3 rfl) ?_
                    have hPc := hP.sub (ws' := (wd_4d81ce87 h0 v0 h1 v1 x83 (-1) v4 r0 r1 r2 r3 r4 r5 r6 v5 v6 r7 r8 h2 h3 t81 r9 r10 v8 v9 r11 r12 v10 v11 r13 v12 v13 r14 v14 w15 r15 v16 v17 r16 r17 r18 r19 r20 r21 v18 r22 r23 r24 v19 h2 g1 fn47 h3 g2 fn80)) [0, 2, 3] rfl
                    have hDc := hD.sub (ws' := (wd_4d81ce87 h0 v0 h1 v1 x83 (-1) v4 r0 r1 r2 r3 r4 r5 r6 v5 v6 r7 r8 h2 h3 t81 r9 r10 v8 v9 r11 r12 v10 v11 r13 v12 v13 r14 v14 w15 r15 v16 v17 r16 r17 r18 r19 r20 r21 v18 r22 r23 r24 v19 h2 g1 fn47 h3 g2 fn80)) [0, 2, 3] (by decide) rfl
                    have hKc := hK.sub (tys' := [(g1, .int), (g2, .int)]) [1, 2] rfl
                    have hFc := va_free (wc := (wd_4d81ce87 h0 v0 h1 v1 x83 (-1) v4 r0 r1 r2 r3 r4 r5 r6 v5 v6 r7 r8 h2 h3 t81 r9 r10 v8 v9 r11 r12 v10 v11 r13 v12 v13 r14 v14 w15 r15 v16 v17 r16 r17 r18 r19 r20 r21 v18 r22 r23 r24 v19 h2 g1 fn47 h3 g2 fn80)) hD hS hA [0, 2, 3] rfl
                    refine va_calli (va_runV (As := []) (rest := []) ⟨hx, hb, hml, hown, hts⟩ (k_X12_isWhole l dC dI h0 h2 h3 v0 h1 v1 x83 ((-1)) v4 r0 r1 r2 r3 r4 r5 r6 v5 v6 r7 r8 t81 r9 r10 v8 v9 r11 r12 v10 v11 r13 v12 v13 r14 v14 w15 r15 v16 v17 r16 r17 r18 r19 r20 r21 v18 r22 r23 r24 v19 g1 fn47 g2 fn80 ⟨i_v1a, i_v1b⟩ ⟨i_v5a, i_v5b⟩ ⟨i_v6a, i_v6b⟩ ⟨by first | omega | decide, by first | omega | decide⟩ ⟨i_v8a, i_v8b⟩ ⟨i_v9a, i_v9b⟩ ⟨i_v10a, i_v10b⟩ ⟨i_v14a, i_v14b⟩ ⟨i_v18a, i_v18b⟩ ⟨i_v19a, i_v19b⟩ H.size) (cwV 0 hts g_X12_readOffice_11 rfl rfl rfl (by decide +kernel) ⟨Nat.le_of_ble_eq_true rfl, Nat.le_of_ble_eq_true rfl⟩) (pv_PV12 hPc hKc hDc (q0 := 0) rfl) rfl rfl hl.1 rfl (lv_room (Nat.le_of_ble_eq_true rfl)) dX12_readOffice_216 ⟨Nat.le_of_ble_eq_true rfl, Nat.le_of_ble_eq_true rfl⟩) hS (fun q _ h => hFc q h) hFc (fun ra87 u t H1 locs ht hvm hwra87 hB hz1 hk1 hS => ?_)
                    try rw [hwra87] at hB
                    have hkra87_0 : (((-1) : Int32)).toInt = -1 := by decide
                    obtain ⟨pt0_ra87, pt1_ra87, pt2_ra87, hP1, hK1, hD1⟩ := hB
                    rw [ht] at hP1
                    obtain ⟨hP2, hD2⟩ := va_join (wr := (wd_d0032b31 h1 g0 f20)) (w1 := (wd_4d81ce87 h0 v0 h1 v1 x83 (-1) v4 r0 r1 r2 r3 r4 r5 r6 v5 v6 r7 r8 h2 h3 t81 r9 r10 v8 v9 r11 r12 v10 v11 r13 v12 v13 r14 v14 w15 r15 v16 v17 r16 r17 r18 r19 r20 r21 v18 r22 r23 r24 v19 h2 g1 fn47 h3 g2 fn80)) hP hD [0, 2, 3] [1] rfl rfl (by decide) (by decide) hk1 hFc hP1 hD1
                    clear hP hD hPc hDc hKc hFc hP1 hK1 hD1 hk1 hz1
                    generalize H1 = H at hP2 hS ⊢
                    have hP := hP2.sub (ws' := (wd_77d3d1bb h0 v0 h1 v1 x83 (-1) v4 r0 r1 r2 r3 r4 r5 r6 v5 v6 r7 r8 h2 h3 t81 r9 r10 v8 v9 r11 r12 v10 v11 r13 v12 v13 r14 v14 w15 r15 v16 v17 r16 r17 r18 r19 r20 r21 v18 r22 r23 r24 v19 h1 g0 f20 h2 g1 fn47 h3 g2 fn80)) [1, 0, 2, 3] rfl
                    have hD := hD2.sub (ws' := (wd_77d3d1bb h0 v0 h1 v1 x83 (-1) v4 r0 r1 r2 r3 r4 r5 r6 v5 v6 r7 r8 h2 h3 t81 r9 r10 v8 v9 r11 r12 v10 v11 r13 v12 v13 r14 v14 w15 r15 v16 v17 r16 r17 r18 r19 r20 r21 v18 r22 r23 r24 v19 h1 g0 f20 h2 g1 fn47 h3 g2 fn80)) [1, 0, 2, 3] (by decide) rfl
                    clear hP2 hD2
                    have hw1ra87 : ra87.toInt = 1 → pg_wh t81.toInt fn47 fn80 = true := fun h9 => by rcases pt2_ra87 with h8 | h8; exact h8.2; exfalso; omega
                    have hw0ra87 : ra87.toInt = 0 → pg_wh t81.toInt fn47 fn80 = false := fun h9 => by rcases pt2_ra87 with h8 | h8; exfalso; omega; exact h8.2
                    refine lv_if_ne (tgt := 226) hx hb dX12_readOffice_219 (by decide) (fun c88 => ?_) (fun c88 => ?_)
                    · skip
                      have fc88 : ¬ (ra87.toInt = 0) := fun h9 => c88 (Int32.toInt_inj.mp h9)
                      have q1hw1ra87 := hw1ra87 (by omega)
                      refine lv_aload_n hx hb dX12_readOffice_226 rfl (lv_at hl 3 rfl) ?_
                      refine va_get (D := (dC, dI)) (ci := 12) (v := .int (-1)) (C := RX12) (T := TX12) (N := 48) hx hb hts (fun _ h => List.mem_cons_of_mem _ (List.mem_append_right _ h)) hown hK hP 0 rfl rfl 4 (by decide) (hts (.fieldLink RX12 119 "LeftArgumentsModel" "wrong" "I") (List.mem_cons_of_mem _ (List.mem_append_left _ (List.mem_of_getElem? (i := 1) rfl)))) (fun _ h9 => h9) rfl dX12_readOffice_227 ?_
                      subst hQ
                      have hP9 := hP.sub (ws' := (wd_77d3d1bb h0 v0 h1 v1 x83 (-1) v4 r0 r1 r2 r3 r4 r5 r6 v5 v6 r7 r8 h2 h3 t81 r9 r10 v8 v9 r11 r12 v10 v11 r13 v12 v13 r14 v14 w15 r15 v16 v17 r16 r17 r18 r19 r20 r21 v18 r22 r23 r24 v19 h1 g0 f20 h2 g1 fn47 h3 g2 fn80)) [0, 1, 2, 3] rfl
                      have hD9 := hD.sub (ws' := (wd_77d3d1bb h0 v0 h1 v1 x83 (-1) v4 r0 r1 r2 r3 r4 r5 r6 v5 v6 r7 r8 h2 h3 t81 r9 r10 v8 v9 r11 r12 v10 v11 r13 v12 v13 r14 v14 w15 r15 v16 v17 r16 r17 r18 r19 r20 r21 v18 r22 r23 r24 v19 h1 g0 f20 h2 g1 fn47 h3 g2 fn80)) [0, 1, 2, 3] (by decide) rfl
                      have hK9 := hK.sub (tys' := []) [] rfl
                      exact W.iret (v := (-1)) hx hb hr (fun t ht hW => ⟨⟨(-1), (-1), rfl, rfl, Or.inl ⟨x83, t81, fn47, fn80, oa_x83, ob_x83, by first | omega | decide, by first | omega | decide, by first | omega | decide, by first | omega | decide, by assumption, by first | assumption | (apply pm_BG.add <;> first | assumption | omega), by apply pg_office.g2 (R := f21) (B := f22) <;> first | assumption | omega | (apply pg_O.s0 <;> first | assumption | omega) | (apply pg_O.b0 <;> first | assumption | omega), by rw [ht]; exact hP9, va_K.moved hW.alike hK9, hD9⟩⟩, hS.F ht⟩) hS.2.2 dX12_readOffice_230
                    · skip
                      have fc88 : ra87.toInt = 0 := congrArg Int32.toInt c88
                      have q0hw0ra87 := hw0ra87 (by omega)
                      refine lv_aload_n hx hb dX12_readOffice_222 rfl (lv_at hl 3 rfl) ?_
                      have hPc := hP.sub (ws' := (wd_171f232f h0 v0 h1 v1 x83 (-1) v4 r0 r1 r2 r3 r4 r5 r6 v5 v6 r7 r8 h2 h3 t81 r9 r10 v8 v9 r11 r12 v10 v11 r13 v12 v13 r14 v14 w15 r15 v16 v17 r16 r17 r18 r19 r20 r21 v18 r22 r23 r24 v19)) [0] rfl
                      have hDc := hD.sub (ws' := (wd_171f232f h0 v0 h1 v1 x83 (-1) v4 r0 r1 r2 r3 r4 r5 r6 v5 v6 r7 r8 h2 h3 t81 r9 r10 v8 v9 r11 r12 v10 v11 r13 v12 v13 r14 v14 w15 r15 v16 v17 r16 r17 r18 r19 r20 r21 v18 r22 r23 r24 v19)) [0] (by decide) rfl
                      have hKc := hK.sub (tys' := []) [] rfl
                      have hFc := va_free (wc := (wd_171f232f h0 v0 h1 v1 x83 (-1) v4 r0 r1 r2 r3 r4 r5 r6 v5 v6 r7 r8 h2 h3 t81 r9 r10 v8 v9 r11 r12 v10 v11 r13 v12 v13 r14 v14 w15 r15 v16 v17 r16 r17 r18 r19 r20 r21 v18 r22 r23 r24 v19)) hD hS hA [0] rfl
                      refine va_callv (va_runV (As := []) (rest := []) ⟨hx, hb, hml, hown, hts⟩ (k_X12_bad l dC dI h0 v0 h1 v1 x83 v4 r0 r1 r2 r3 r4 r5 r6 v5 v6 r7 r8 h2 h3 t81 r9 r10 v8 v9 r11 r12 v10 v11 r13 v12 v13 r14 v14 w15 r15 v16 v17 r16 r17 r18 r19 r20 r21 v18 r22 r23 r24 v19 ⟨i_v1a, i_v1b⟩ ⟨oa_x83, ob_x83⟩ ⟨i_v5a, i_v5b⟩ ⟨i_v6a, i_v6b⟩ ⟨by first | omega | decide, by first | omega | decide⟩ ⟨i_v8a, i_v8b⟩ ⟨i_v9a, i_v9b⟩ ⟨i_v10a, i_v10b⟩ ⟨i_v14a, i_v14b⟩ ⟨i_v18a, i_v18b⟩ ⟨i_v19a, i_v19b⟩ H.size) (cwV 0 hts g_X12_readOffice_5 rfl rfl rfl (by decide +kernel) ⟨Nat.le_of_ble_eq_true rfl, Nat.le_of_ble_eq_true rfl⟩) (pv_PV12 hPc hKc hDc (q0 := 0) rfl) rfl rfl hl.1 rfl (lv_room (Nat.le_of_ble_eq_true rfl)) dX12_readOffice_223 ⟨Nat.le_of_ble_eq_true rfl, Nat.le_of_ble_eq_true rfl⟩) hS (fun q _ h => hFc q h) hFc (fun u t H1 locs ht hvm hwra89 hB hz1 hk1 hS => ?_)
                      obtain ⟨x90, oa_x90, ob_x90, pt0_ra89, hP1, hK1, hD1⟩ := hB
                      rw [ht] at hP1
                      obtain ⟨hP2, hD2⟩ := va_join (wr := (wd_bcaf9cf2 h1 g0 f20 h2 g1 fn47 h3 g2 fn80)) (w1 := (wd_171f232f h0 v0 h1 v1 x83 x90 v4 r0 r1 r2 r3 r4 r5 r6 v5 v6 r7 r8 h2 h3 t81 r9 r10 v8 v9 r11 r12 v10 v11 r13 v12 v13 r14 v14 w15 r15 v16 v17 r16 r17 r18 r19 r20 r21 v18 r22 r23 r24 v19)) hP hD [0] [1, 2, 3] rfl rfl (by decide) (by decide) hk1 hFc hP1 hD1
                      clear hP hD hPc hDc hKc hFc hP1 hK1 hD1 hk1 hz1
                      generalize H1 = H at hP2 hS ⊢
                      have hP := hP2.sub (ws' := (wd_77d3d1bb h0 v0 h1 v1 x83 x90 v4 r0 r1 r2 r3 r4 r5 r6 v5 v6 r7 r8 h2 h3 t81 r9 r10 v8 v9 r11 r12 v10 v11 r13 v12 v13 r14 v14 w15 r15 v16 v17 r16 r17 r18 r19 r20 r21 v18 r22 r23 r24 v19 h1 g0 f20 h2 g1 fn47 h3 g2 fn80)) [3, 0, 1, 2] rfl
                      have hD := hD2.sub (ws' := (wd_77d3d1bb h0 v0 h1 v1 x83 x90 v4 r0 r1 r2 r3 r4 r5 r6 v5 v6 r7 r8 h2 h3 t81 r9 r10 v8 v9 r11 r12 v10 v11 r13 v12 v13 r14 v14 w15 r15 v16 v17 r16 r17 r18 r19 r20 r21 v18 r22 r23 r24 v19 h1 g0 f20 h2 g1 fn47 h3 g2 fn80)) [3, 0, 1, 2] (by decide) rfl
                      clear hP2 hD2
                      refine lv_aload_n hx hb dX12_readOffice_226 rfl (lv_at hl 3 rfl) ?_
                      refine va_get (D := (dC, dI)) (ci := 12) (v := .int x90) (C := RX12) (T := TX12) (N := 48) hx hb hts (fun _ h => List.mem_cons_of_mem _ (List.mem_append_right _ h)) hown hK hP 0 rfl rfl 4 (by decide) (hts (.fieldLink RX12 119 "LeftArgumentsModel" "wrong" "I") (List.mem_cons_of_mem _ (List.mem_append_left _ (List.mem_of_getElem? (i := 1) rfl)))) (fun _ h9 => h9) rfl dX12_readOffice_227 ?_
                      subst hQ
                      have hP9 := hP.sub (ws' := (wd_77d3d1bb h0 v0 h1 v1 x83 x90 v4 r0 r1 r2 r3 r4 r5 r6 v5 v6 r7 r8 h2 h3 t81 r9 r10 v8 v9 r11 r12 v10 v11 r13 v12 v13 r14 v14 w15 r15 v16 v17 r16 r17 r18 r19 r20 r21 v18 r22 r23 r24 v19 h1 g0 f20 h2 g1 fn47 h3 g2 fn80)) [0, 1, 2, 3] rfl
                      have hD9 := hD.sub (ws' := (wd_77d3d1bb h0 v0 h1 v1 x83 x90 v4 r0 r1 r2 r3 r4 r5 r6 v5 v6 r7 r8 h2 h3 t81 r9 r10 v8 v9 r11 r12 v10 v11 r13 v12 v13 r14 v14 w15 r15 v16 v17 r16 r17 r18 r19 r20 r21 v18 r22 r23 r24 v19 h1 g0 f20 h2 g1 fn47 h3 g2 fn80)) [0, 1, 2, 3] (by decide) rfl
                      have hK9 := hK.sub (tys' := []) [] rfl
                      exact W.iret (v := x90) hx hb hr (fun t ht hW => ⟨⟨x90, x90, rfl, rfl, Or.inr (⟨x83, x90, t81, fn47, fn80, oa_x83, ob_x83, oa_x90, ob_x90, by first | omega | decide, by first | omega | decide, by first | omega | decide, by first | omega | decide, by first | (apply pg_office.b0 (R := f21) (B := f22) <;> first | assumption | omega | (apply pg_O.sf <;> first | assumption | omega) | (apply pg_O.bf <;> first | assumption | omega) | (apply pg_O.w <;> first | assumption | omega)) | (apply pg_office.b1 (R := f21) (B := f22) <;> first | assumption | omega | (apply pg_O.s0 <;> first | assumption | omega) | (apply pg_O.b0 <;> first | assumption | omega)) | (apply pg_office.b2 (R := f21) (B := f22) <;> first | assumption | omega | (apply pg_O.s0 <;> first | assumption | omega) | (apply pg_O.b0 <;> first | assumption | omega) | (apply pg_items.pn <;> first | assumption | omega)), by omega, by rw [ht]; exact hP9, va_K.moved hW.alike hK9, hD9⟩)⟩, hS.F ht⟩) hS.2.2 dX12_readOffice_230
                  · skip
                    obtain ⟨x91, oa_x91, ob_x91, pt0_ra85, pt1_ra85, pt2_ra85, pt3_ra85, pt4_ra85, pt5_ra85, pt6_ra85, pt7_ra85, hP1, hK1, hD1⟩ := hB
                    rw [ht] at hP1
                    obtain ⟨hP2, hD2⟩ := va_join (wr := (wd_5ef8c86c h2 g1 fn47 h3 g2 fn80)) (w1 := (wd_f4cd022e h0 v0 h1 v1 x91 (-1) v4 r0 r1 r2 r3 r4 r5 r6 v5 v6 r7 r8 h2 h3 t81 r9 r10 v8 v9 r11 r12 v10 v11 r13 v12 v13 r14 v14 w15 r15 v16 v17 r16 r17 r18 r19 r20 r21 v18 r22 r23 r24 v19 h1 g0 f20)) hP hD [0, 1] [2, 3] rfl rfl (by decide) (by decide) hk1 hFc hP1 hD1
                    clear hP hD hPc hDc hKc hFc hP1 hK1 hD1 hk1 hz1
                    generalize H1 = H at hP2 hS ⊢
                    have hP := hP2.sub (ws' := (wd_77d3d1bb h0 v0 h1 v1 x91 (-1) v4 r0 r1 r2 r3 r4 r5 r6 v5 v6 r7 r8 h2 h3 t81 r9 r10 v8 v9 r11 r12 v10 v11 r13 v12 v13 r14 v14 w15 r15 v16 v17 r16 r17 r18 r19 r20 r21 v18 r22 r23 r24 v19 h1 g0 f20 h2 g1 fn47 h3 g2 fn80)) [2, 3, 0, 1] rfl
                    have hD := hD2.sub (ws' := (wd_77d3d1bb h0 v0 h1 v1 x91 (-1) v4 r0 r1 r2 r3 r4 r5 r6 v5 v6 r7 r8 h2 h3 t81 r9 r10 v8 v9 r11 r12 v10 v11 r13 v12 v13 r14 v14 w15 r15 v16 v17 r16 r17 r18 r19 r20 r21 v18 r22 r23 r24 v19 h1 g0 f20 h2 g1 fn47 h3 g2 fn80)) [2, 3, 0, 1] (by decide) rfl
                    clear hP2 hD2
                    have hsh : pg_s f20 v1.toInt x83.toInt = x83.toInt := pg_s.here (by assumption)
                    obtain rfl : x83 = x91 := Int32.toInt_inj.mp (by omega)
                    have hP : va_P (dC, dI) vwCl (wd_77d3d1bb h0 v0 h1 v1 x83 (-1) v4 r0 r1 r2 r3 r4 r5 r6 v5 v6 r7 r8 h2 h3 t81 r9 r10 v8 v9 r11 r12 v10 v11 r13 v12 v13 r14 v14 w15 r15 v16 v17 r16 r17 r18 r19 r20 r21 v18 r22 r23 r24 v19 h1 g0 f20 h2 g1 fn47 h3 g2 fn80) H := hP
                    have hD : va_D A (wd_77d3d1bb h0 v0 h1 v1 x83 (-1) v4 r0 r1 r2 r3 r4 r5 r6 v5 v6 r7 r8 h2 h3 t81 r9 r10 v8 v9 r11 r12 v10 v11 r13 v12 v13 r14 v14 w15 r15 v16 v17 r16 r17 r18 r19 r20 r21 v18 r22 r23 r24 v19 h1 g0 f20 h2 g1 fn47 h3 g2 fn80) := hD
                    refine lv_iconst (v := (-1)) hx hb dX12_readOffice_211 (by decide) ?_
                    refine lv_icmp_ne (tgt := 222) hx hb dX12_readOffice_212 (by decide) (fun _ => ?_) (fun c92 => by exfalso; have fc92 : ra85.toInt = (-1) := congrArg Int32.toInt c92; omega)
                    refine lv_aload_n hx hb dX12_readOffice_222 rfl (lv_at hl 3 rfl) ?_
                    have hPc := hP.sub (ws' := (wd_171f232f h0 v0 h1 v1 x83 (-1) v4 r0 r1 r2 r3 r4 r5 r6 v5 v6 r7 r8 h2 h3 t81 r9 r10 v8 v9 r11 r12 v10 v11 r13 v12 v13 r14 v14 w15 r15 v16 v17 r16 r17 r18 r19 r20 r21 v18 r22 r23 r24 v19)) [0] rfl
                    have hDc := hD.sub (ws' := (wd_171f232f h0 v0 h1 v1 x83 (-1) v4 r0 r1 r2 r3 r4 r5 r6 v5 v6 r7 r8 h2 h3 t81 r9 r10 v8 v9 r11 r12 v10 v11 r13 v12 v13 r14 v14 w15 r15 v16 v17 r16 r17 r18 r19 r20 r21 v18 r22 r23 r24 v19)) [0] (by decide) rfl
                    have hKc := hK.sub (tys' := []) [] rfl
                    have hFc := va_free (wc := (wd_171f232f h0 v0 h1 v1 x83 (-1) v4 r0 r1 r2 r3 r4 r5 r6 v5 v6 r7 r8 h2 h3 t81 r9 r10 v8 v9 r11 r12 v10 v11 r13 v12 v13 r14 v14 w15 r15 v16 v17 r16 r17 r18 r19 r20 r21 v18 r22 r23 r24 v19)) hD hS hA [0] rfl
                    refine va_callv (va_runV (As := []) (rest := []) ⟨hx, hb, hml, hown, hts⟩ (k_X12_bad l dC dI h0 v0 h1 v1 x83 v4 r0 r1 r2 r3 r4 r5 r6 v5 v6 r7 r8 h2 h3 t81 r9 r10 v8 v9 r11 r12 v10 v11 r13 v12 v13 r14 v14 w15 r15 v16 v17 r16 r17 r18 r19 r20 r21 v18 r22 r23 r24 v19 ⟨i_v1a, i_v1b⟩ ⟨oa_x83, ob_x83⟩ ⟨i_v5a, i_v5b⟩ ⟨i_v6a, i_v6b⟩ ⟨by first | omega | decide, by first | omega | decide⟩ ⟨i_v8a, i_v8b⟩ ⟨i_v9a, i_v9b⟩ ⟨i_v10a, i_v10b⟩ ⟨i_v14a, i_v14b⟩ ⟨i_v18a, i_v18b⟩ ⟨i_v19a, i_v19b⟩ H.size) (cwV 0 hts g_X12_readOffice_5 rfl rfl rfl (by decide +kernel) ⟨Nat.le_of_ble_eq_true rfl, Nat.le_of_ble_eq_true rfl⟩) (pv_PV12 hPc hKc hDc (q0 := 0) rfl) rfl rfl hl.1 rfl (lv_room (Nat.le_of_ble_eq_true rfl)) dX12_readOffice_223 ⟨Nat.le_of_ble_eq_true rfl, Nat.le_of_ble_eq_true rfl⟩) hS (fun q _ h => hFc q h) hFc (fun u t H1 locs ht hvm hwra93 hB hz1 hk1 hS => ?_)
                    obtain ⟨x94, oa_x94, ob_x94, pt0_ra93, hP1, hK1, hD1⟩ := hB
                    rw [ht] at hP1
                    obtain ⟨hP2, hD2⟩ := va_join (wr := (wd_bcaf9cf2 h1 g0 f20 h2 g1 fn47 h3 g2 fn80)) (w1 := (wd_171f232f h0 v0 h1 v1 x83 x94 v4 r0 r1 r2 r3 r4 r5 r6 v5 v6 r7 r8 h2 h3 t81 r9 r10 v8 v9 r11 r12 v10 v11 r13 v12 v13 r14 v14 w15 r15 v16 v17 r16 r17 r18 r19 r20 r21 v18 r22 r23 r24 v19)) hP hD [0] [1, 2, 3] rfl rfl (by decide) (by decide) hk1 hFc hP1 hD1
                    clear hP hD hPc hDc hKc hFc hP1 hK1 hD1 hk1 hz1
                    generalize H1 = H at hP2 hS ⊢
                    have hP := hP2.sub (ws' := (wd_77d3d1bb h0 v0 h1 v1 x83 x94 v4 r0 r1 r2 r3 r4 r5 r6 v5 v6 r7 r8 h2 h3 t81 r9 r10 v8 v9 r11 r12 v10 v11 r13 v12 v13 r14 v14 w15 r15 v16 v17 r16 r17 r18 r19 r20 r21 v18 r22 r23 r24 v19 h1 g0 f20 h2 g1 fn47 h3 g2 fn80)) [3, 0, 1, 2] rfl
                    have hD := hD2.sub (ws' := (wd_77d3d1bb h0 v0 h1 v1 x83 x94 v4 r0 r1 r2 r3 r4 r5 r6 v5 v6 r7 r8 h2 h3 t81 r9 r10 v8 v9 r11 r12 v10 v11 r13 v12 v13 r14 v14 w15 r15 v16 v17 r16 r17 r18 r19 r20 r21 v18 r22 r23 r24 v19 h1 g0 f20 h2 g1 fn47 h3 g2 fn80)) [3, 0, 1, 2] (by decide) rfl
                    clear hP2 hD2
                    refine lv_aload_n hx hb dX12_readOffice_226 rfl (lv_at hl 3 rfl) ?_
                    refine va_get (D := (dC, dI)) (ci := 12) (v := .int x94) (C := RX12) (T := TX12) (N := 48) hx hb hts (fun _ h => List.mem_cons_of_mem _ (List.mem_append_right _ h)) hown hK hP 0 rfl rfl 4 (by decide) (hts (.fieldLink RX12 119 "LeftArgumentsModel" "wrong" "I") (List.mem_cons_of_mem _ (List.mem_append_left _ (List.mem_of_getElem? (i := 1) rfl)))) (fun _ h9 => h9) rfl dX12_readOffice_227 ?_
                    subst hQ
                    have hP9 := hP.sub (ws' := (wd_77d3d1bb h0 v0 h1 v1 x83 x94 v4 r0 r1 r2 r3 r4 r5 r6 v5 v6 r7 r8 h2 h3 t81 r9 r10 v8 v9 r11 r12 v10 v11 r13 v12 v13 r14 v14 w15 r15 v16 v17 r16 r17 r18 r19 r20 r21 v18 r22 r23 r24 v19 h1 g0 f20 h2 g1 fn47 h3 g2 fn80)) [0, 1, 2, 3] rfl
                    have hD9 := hD.sub (ws' := (wd_77d3d1bb h0 v0 h1 v1 x83 x94 v4 r0 r1 r2 r3 r4 r5 r6 v5 v6 r7 r8 h2 h3 t81 r9 r10 v8 v9 r11 r12 v10 v11 r13 v12 v13 r14 v14 w15 r15 v16 v17 r16 r17 r18 r19 r20 r21 v18 r22 r23 r24 v19 h1 g0 f20 h2 g1 fn47 h3 g2 fn80)) [0, 1, 2, 3] (by decide) rfl
                    have hK9 := hK.sub (tys' := []) [] rfl
                    exact W.iret (v := x94) hx hb hr (fun t ht hW => ⟨⟨x94, x94, rfl, rfl, Or.inr (⟨x83, x94, t81, fn47, fn80, oa_x83, ob_x83, oa_x94, ob_x94, by first | omega | decide, by first | omega | decide, by first | omega | decide, by first | omega | decide, by first | (apply pg_office.b0 (R := f21) (B := f22) <;> first | assumption | omega | (apply pg_O.sf <;> first | assumption | omega) | (apply pg_O.bf <;> first | assumption | omega) | (apply pg_O.w <;> first | assumption | omega)) | (apply pg_office.b1 (R := f21) (B := f22) <;> first | assumption | omega | (apply pg_O.s0 <;> first | assumption | omega) | (apply pg_O.b0 <;> first | assumption | omega)) | (apply pg_office.b2 (R := f21) (B := f22) <;> first | assumption | omega | (apply pg_O.s0 <;> first | assumption | omega) | (apply pg_O.b0 <;> first | assumption | omega) | (apply pg_items.pn <;> first | assumption | omega)), by omega, by rw [ht]; exact hP9, va_K.moved hW.alike hK9, hD9⟩)⟩, hS.F ht⟩) hS.2.2 dX12_readOffice_230
                · skip
                  obtain ⟨x95, oa_x95, ob_x95, pt0_ra82, pt1_ra82, pt2_ra82, pt3_ra82, pt4_ra82, pt5_ra82, pt6_ra82, pt7_ra82, hP1, hK1, hD1⟩ := hB
                  rw [ht] at hP1
                  obtain ⟨hP2, hD2⟩ := va_join (wr := (wd_5ef8c86c h2 g1 fn47 h3 g2 fn80)) (w1 := (wd_f4cd022e h0 v0 h1 v1 x95 (-1) v4 r0 r1 r2 r3 r4 r5 r6 v5 v6 r7 r8 h2 h3 t81 r9 r10 v8 v9 r11 r12 v10 v11 r13 v12 v13 r14 v14 w15 r15 v16 v17 r16 r17 r18 r19 r20 r21 v18 r22 r23 r24 v19 h1 g0 f20)) hP hD [0, 1] [2, 3] rfl rfl (by decide) (by decide) hk1 hFc hP1 hD1
                  clear hP hD hPc hDc hKc hFc hP1 hK1 hD1 hk1 hz1
                  generalize H1 = H at hP2 hS ⊢
                  have hP := hP2.sub (ws' := (wd_77d3d1bb h0 v0 h1 v1 x95 (-1) v4 r0 r1 r2 r3 r4 r5 r6 v5 v6 r7 r8 h2 h3 t81 r9 r10 v8 v9 r11 r12 v10 v11 r13 v12 v13 r14 v14 w15 r15 v16 v17 r16 r17 r18 r19 r20 r21 v18 r22 r23 r24 v19 h1 g0 f20 h2 g1 fn47 h3 g2 fn80)) [2, 3, 0, 1] rfl
                  have hD := hD2.sub (ws' := (wd_77d3d1bb h0 v0 h1 v1 x95 (-1) v4 r0 r1 r2 r3 r4 r5 r6 v5 v6 r7 r8 h2 h3 t81 r9 r10 v8 v9 r11 r12 v10 v11 r13 v12 v13 r14 v14 w15 r15 v16 v17 r16 r17 r18 r19 r20 r21 v18 r22 r23 r24 v19 h1 g0 f20 h2 g1 fn47 h3 g2 fn80)) [2, 3, 0, 1] (by decide) rfl
                  clear hP2 hD2
                  refine lv_bipush (v := 59) hx hb dX12_readOffice_167 (by decide) ?_
                  refine lv_icmp_ne (tgt := 176) hx hb dX12_readOffice_169 (by decide) (fun c96 => ?_) (fun c96 => ?_)
                  · skip
                    have fc96 : ¬ (ra82.toInt = 59) := fun h9 => c96 (Int32.toInt_inj.mp h9)
                    refine lv_iconst (v := 0) hx hb dX12_readOffice_176 (by decide) ?_
                    refine lv_istore_n (lv' := [(2, .int 0), (3, .int 98), (1, .int x44), (0, .ref h0)]) hx hb dX12_readOffice_177 rfl hl (by decide) rfl (fun ls hl => ?_)
                    refine lv_aload_n hx hb dX12_readOffice_178 rfl (lv_at hl 3 rfl) ?_
                    refine lv_dup hx hb dX12_readOffice_179 rfl ?_
                    refine va_get (D := (dC, dI)) (ci := 12) (v := .int x95) (C := RX12) (T := TX12) (N := 48) hx hb hts (fun _ h => List.mem_cons_of_mem _ (List.mem_append_right _ h)) hown hK hP 0 rfl rfl 3 (by decide) (hts (.fieldLink RX12 112 "LeftArgumentsModel" "at" "I") (List.mem_cons_of_mem _ (List.mem_append_left _ (List.mem_of_getElem? (i := 0) rfl)))) (fun _ h9 => h9) rfl dX12_readOffice_180 ?_
                    refine lv_iload_n hx hb dX12_readOffice_183 rfl (lv_at hl 0 rfl) ?_
                    refine lv_if_eq (tgt := 191) hx hb dX12_readOffice_184 (by decide) (fun _ => ?_) (fun c => absurd (by decide) c)
                    refine lv_iconst (v := 0) hx hb dX12_readOffice_191 (by decide) ?_
                    refine lv_iadd hx hb dX12_readOffice_192 ?_
                    refine lv_topi (fun t97 et97 => ?_)
                    have gt97 : t97.toInt = x95.toInt + 0 := pv_add (a := x95.toInt) (b := 0) et97 rfl (by decide) (by omega) (by omega)
                    obtain rfl : x95 = t97 := Int32.toInt_inj.mp (by omega)
                    refine va_put (D := (dC, dI)) (ci := 12) (v := .int x95) (ty := .int) (C := RX12) (T := TX12) (N := 48) hx hb hts (fun _ h => List.mem_cons_of_mem _ (List.mem_append_right _ h)) tyX12 tyX12_ok nmX12 hown hK hP hD hS 0 rfl rfl 3 (by decide) (hts (.fieldLink RX12 112 "LeftArgumentsModel" "at" "I") (List.mem_cons_of_mem _ (List.mem_append_left _ (List.mem_of_getElem? (i := 0) rfl)))) (fun _ h9 => h9) rfl (by decide +kernel) rfl rfl (Nat.le_of_ble_eq_true rfl) dX12_readOffice_193 (fun H locs hP hD hS => ?_)
                    have hP : va_P (dC, dI) vwCl (wd_77d3d1bb h0 v0 h1 v1 x95 (-1) v4 r0 r1 r2 r3 r4 r5 r6 v5 v6 r7 r8 h2 h3 t81 r9 r10 v8 v9 r11 r12 v10 v11 r13 v12 v13 r14 v14 w15 r15 v16 v17 r16 r17 r18 r19 r20 r21 v18 r22 r23 r24 v19 h1 g0 f20 h2 g1 fn47 h3 g2 fn80) H := hP
                    have hD : va_D A (wd_77d3d1bb h0 v0 h1 v1 x95 (-1) v4 r0 r1 r2 r3 r4 r5 r6 v5 v6 r7 r8 h2 h3 t81 r9 r10 v8 v9 r11 r12 v10 v11 r13 v12 v13 r14 v14 w15 r15 v16 v17 r16 r17 r18 r19 r20 r21 v18 r22 r23 r24 v19 h1 g0 f20 h2 g1 fn47 h3 g2 fn80) := hD
                    refine lv_goto (tgt := 44) hx hb dX12_readOffice_196 (by decide) ?_
                    refine lv_iload_n hx hb dX12_readOffice_44 rfl (lv_at hl 0 rfl) ?_
                    refine lv_if_eq (tgt := 199) hx hb dX12_readOffice_45 (by decide) (fun _ => ?_) (fun c => absurd (by decide) c)
                    refine lv_aload_n hx hb dX12_readOffice_199 rfl (lv_at hl 3 rfl) ?_
                    refine va_get (D := (dC, dI)) (ci := 12) (v := .int (-1)) (C := RX12) (T := TX12) (N := 48) hx hb hts (fun _ h => List.mem_cons_of_mem _ (List.mem_append_right _ h)) hown hK hP 0 rfl rfl 4 (by decide) (hts (.fieldLink RX12 119 "LeftArgumentsModel" "wrong" "I") (List.mem_cons_of_mem _ (List.mem_append_left _ (List.mem_of_getElem? (i := 1) rfl)))) (fun _ h9 => h9) rfl dX12_readOffice_200 ?_
                    refine lv_iconst (v := (-1)) hx hb dX12_readOffice_203 (by decide) ?_
                    refine lv_icmp_ne (tgt := 226) hx hb dX12_readOffice_204 (by decide) (fun c => absurd (by decide) c) (fun _ => ?_)
                    refine lv_aload_n hx hb dX12_readOffice_207 rfl (lv_at hl 3 rfl) ?_
                    have hPc := hP.sub (ws' := (wd_f4cd022e h0 v0 h1 v1 x95 (-1) v4 r0 r1 r2 r3 r4 r5 r6 v5 v6 r7 r8 h2 h3 t81 r9 r10 v8 v9 r11 r12 v10 v11 r13 v12 v13 r14 v14 w15 r15 v16 v17 r16 r17 r18 r19 r20 r21 v18 r22 r23 r24 v19 h1 g0 f20)) [0, 1] rfl
                    have hDc := hD.sub (ws' := (wd_f4cd022e h0 v0 h1 v1 x95 (-1) v4 r0 r1 r2 r3 r4 r5 r6 v5 v6 r7 r8 h2 h3 t81 r9 r10 v8 v9 r11 r12 v10 v11 r13 v12 v13 r14 v14 w15 r15 v16 v17 r16 r17 r18 r19 r20 r21 v18 r22 r23 r24 v19 h1 g0 f20)) [0, 1] (by decide) rfl
                    have hKc := hK.sub (tys' := [(g0, .int)]) [0] rfl
                    have hFc := va_free (wc := (wd_f4cd022e h0 v0 h1 v1 x95 (-1) v4 r0 r1 r2 r3 r4 r5 r6 v5 v6 r7 r8 h2 h3 t81 r9 r10 v8 v9 r11 r12 v10 v11 r13 v12 v13 r14 v14 w15 r15 v16 v17 r16 r17 r18 r19 r20 r21 v18 r22 r23 r24 v19 h1 g0 f20)) hD hS hA [0, 1] rfl
                    refine va_calli (va_runV (As := []) (rest := []) ⟨hx, hb, hml, hown, hts⟩ (k_X12_look l dC dI h0 h1 v0 v1 x95 ((-1)) v4 r0 r1 r2 r3 r4 r5 r6 v5 v6 r7 r8 h2 h3 t81 r9 r10 v8 v9 r11 r12 v10 v11 r13 v12 v13 r14 v14 w15 r15 v16 v17 r16 r17 r18 r19 r20 r21 v18 r22 r23 r24 v19 g0 f20 ⟨i_v1a, i_v1b⟩ ⟨oa_x95, by first | omega | decide⟩ ⟨i_v5a, i_v5b⟩ ⟨i_v6a, i_v6b⟩ ⟨by first | omega | decide, by first | omega | decide⟩ ⟨i_v8a, i_v8b⟩ ⟨i_v9a, i_v9b⟩ ⟨i_v10a, i_v10b⟩ ⟨i_v14a, i_v14b⟩ ⟨i_v18a, i_v18b⟩ ⟨i_v19a, i_v19b⟩ ia_f20 H.size) (cwV 0 hts g_X12_readOffice_4 rfl rfl rfl (by decide +kernel) ⟨Nat.le_of_ble_eq_true rfl, Nat.le_of_ble_eq_true rfl⟩) (pv_PV12 hPc hKc hDc (q0 := 0) rfl) rfl rfl hl.1 rfl (lv_room (Nat.le_of_ble_eq_true rfl)) dX12_readOffice_208 ⟨Nat.le_of_ble_eq_true rfl, Nat.le_of_ble_eq_true rfl⟩) hS (fun q _ h => hFc q h) hFc (fun ra98 u t H1 locs ht hvm hwra98 hB hz1 hk1 hS => ?_)
                    try rw [hwra98] at hB
                    have hkra98_0 : (((-1) : Int32)).toInt = -1 := by decide
                    rcases hB with hB | hB
                    · skip
                      obtain ⟨x99, oa_x99, ob_x99, pt0_ra98, pt1_ra98, pt2_ra98, pt3_ra98, pt4_ra98, pt5_ra98, pt6_ra98, hP1, hK1, hD1⟩ := hB
                      rw [ht] at hP1
                      obtain ⟨hP2, hD2⟩ := va_join (wr := (wd_5ef8c86c h2 g1 fn47 h3 g2 fn80)) (w1 := (wd_f4cd022e h0 v0 h1 v1 x99 (-1) v4 r0 r1 r2 r3 r4 r5 r6 v5 v6 r7 r8 h2 h3 t81 r9 r10 v8 v9 r11 r12 v10 v11 r13 v12 v13 r14 v14 w15 r15 v16 v17 r16 r17 r18 r19 r20 r21 v18 r22 r23 r24 v19 h1 g0 f20)) hP hD [0, 1] [2, 3] rfl rfl (by decide) (by decide) hk1 hFc hP1 hD1
                      clear hP hD hPc hDc hKc hFc hP1 hK1 hD1 hk1 hz1
                      generalize H1 = H at hP2 hS ⊢
                      have hP := hP2.sub (ws' := (wd_77d3d1bb h0 v0 h1 v1 x99 (-1) v4 r0 r1 r2 r3 r4 r5 r6 v5 v6 r7 r8 h2 h3 t81 r9 r10 v8 v9 r11 r12 v10 v11 r13 v12 v13 r14 v14 w15 r15 v16 v17 r16 r17 r18 r19 r20 r21 v18 r22 r23 r24 v19 h1 g0 f20 h2 g1 fn47 h3 g2 fn80)) [2, 3, 0, 1] rfl
                      have hD := hD2.sub (ws' := (wd_77d3d1bb h0 v0 h1 v1 x99 (-1) v4 r0 r1 r2 r3 r4 r5 r6 v5 v6 r7 r8 h2 h3 t81 r9 r10 v8 v9 r11 r12 v10 v11 r13 v12 v13 r14 v14 w15 r15 v16 v17 r16 r17 r18 r19 r20 r21 v18 r22 r23 r24 v19 h1 g0 f20 h2 g1 fn47 h3 g2 fn80)) [2, 3, 0, 1] (by decide) rfl
                      clear hP2 hD2
                      obtain rfl : ra98 = ((-1) : Int32) := pv_cs (by decide) pt0_ra98 pt1_ra98
                      have hsh : pg_s f20 v1.toInt x95.toInt = x95.toInt := pg_s.here (by assumption)
                      obtain rfl : x95 = x99 := Int32.toInt_inj.mp (by omega)
                      have hP : va_P (dC, dI) vwCl (wd_77d3d1bb h0 v0 h1 v1 x95 (-1) v4 r0 r1 r2 r3 r4 r5 r6 v5 v6 r7 r8 h2 h3 t81 r9 r10 v8 v9 r11 r12 v10 v11 r13 v12 v13 r14 v14 w15 r15 v16 v17 r16 r17 r18 r19 r20 r21 v18 r22 r23 r24 v19 h1 g0 f20 h2 g1 fn47 h3 g2 fn80) H := hP
                      have hD : va_D A (wd_77d3d1bb h0 v0 h1 v1 x95 (-1) v4 r0 r1 r2 r3 r4 r5 r6 v5 v6 r7 r8 h2 h3 t81 r9 r10 v8 v9 r11 r12 v10 v11 r13 v12 v13 r14 v14 w15 r15 v16 v17 r16 r17 r18 r19 r20 r21 v18 r22 r23 r24 v19 h1 g0 f20 h2 g1 fn47 h3 g2 fn80) := hD
                      refine lv_iconst (v := (-1)) hx hb dX12_readOffice_211 (by decide) ?_
                      refine lv_icmp_ne (tgt := 222) hx hb dX12_readOffice_212 (by decide) (fun c => absurd (by decide) c) (fun _ => ?_)
                      refine lv_aload_n hx hb dX12_readOffice_215 rfl (lv_at hl 3 rfl) ?_
                      have hPc := hP.sub (ws' := (wd_4d81ce87 h0 v0 h1 v1 x95 (-1) v4 r0 r1 r2 r3 r4 r5 r6 v5 v6 r7 r8 h2 h3 t81 r9 r10 v8 v9 r11 r12 v10 v11 r13 v12 v13 r14 v14 w15 r15 v16 v17 r16 r17 r18 r19 r20 r21 v18 r22 r23 r24 v19 h2 g1 fn47 h3 g2 fn80)) [0, 2, 3] rfl
                      have hDc := hD.sub (ws' := (wd_4d81ce87 h0 v0 h1 v1 x95 (-1) v4 r0 r1 r2 r3 r4 r5 r6 v5 v6 r7 r8 h2 h3 t81 r9 r10 v8 v9 r11 r12 v10 v11 r13 v12 v13 r14 v14 w15 r15 v16 v17 r16 r17 r18 r19 r20 r21 v18 r22 r23 r24 v19 h2 g1 fn47 h3 g2 fn80)) [0, 2, 3] (by decide) rfl
                      have hKc := hK.sub (tys' := [(g1, .int), (g2, .int)]) [1, 2] rfl
                      have hFc := va_free (wc := (wd_4d81ce87 h0 v0 h1 v1 x95 (-1) v4 r0 r1 r2 r3 r4 r5 r6 v5 v6 r7 r8 h2 h3 t81 r9 r10 v8 v9 r11 r12 v10 v11 r13 v12 v13 r14 v14 w15 r15 v16 v17 r16 r17 r18 r19 r20 r21 v18 r22 r23 r24 v19 h2 g1 fn47 h3 g2 fn80)) hD hS hA [0, 2, 3] rfl
                      refine va_calli (va_runV (As := []) (rest := []) ⟨hx, hb, hml, hown, hts⟩ (k_X12_isWhole l dC dI h0 h2 h3 v0 h1 v1 x95 ((-1)) v4 r0 r1 r2 r3 r4 r5 r6 v5 v6 r7 r8 t81 r9 r10 v8 v9 r11 r12 v10 v11 r13 v12 v13 r14 v14 w15 r15 v16 v17 r16 r17 r18 r19 r20 r21 v18 r22 r23 r24 v19 g1 fn47 g2 fn80 ⟨i_v1a, i_v1b⟩ ⟨i_v5a, i_v5b⟩ ⟨i_v6a, i_v6b⟩ ⟨by first | omega | decide, by first | omega | decide⟩ ⟨i_v8a, i_v8b⟩ ⟨i_v9a, i_v9b⟩ ⟨i_v10a, i_v10b⟩ ⟨i_v14a, i_v14b⟩ ⟨i_v18a, i_v18b⟩ ⟨i_v19a, i_v19b⟩ H.size) (cwV 0 hts g_X12_readOffice_11 rfl rfl rfl (by decide +kernel) ⟨Nat.le_of_ble_eq_true rfl, Nat.le_of_ble_eq_true rfl⟩) (pv_PV12 hPc hKc hDc (q0 := 0) rfl) rfl rfl hl.1 rfl (lv_room (Nat.le_of_ble_eq_true rfl)) dX12_readOffice_216 ⟨Nat.le_of_ble_eq_true rfl, Nat.le_of_ble_eq_true rfl⟩) hS (fun q _ h => hFc q h) hFc (fun ra100 u t H1 locs ht hvm hwra100 hB hz1 hk1 hS => ?_)
                      try rw [hwra100] at hB
                      have hkra100_0 : (((-1) : Int32)).toInt = -1 := by decide
                      obtain ⟨pt0_ra100, pt1_ra100, pt2_ra100, hP1, hK1, hD1⟩ := hB
                      rw [ht] at hP1
                      obtain ⟨hP2, hD2⟩ := va_join (wr := (wd_d0032b31 h1 g0 f20)) (w1 := (wd_4d81ce87 h0 v0 h1 v1 x95 (-1) v4 r0 r1 r2 r3 r4 r5 r6 v5 v6 r7 r8 h2 h3 t81 r9 r10 v8 v9 r11 r12 v10 v11 r13 v12 v13 r14 v14 w15 r15 v16 v17 r16 r17 r18 r19 r20 r21 v18 r22 r23 r24 v19 h2 g1 fn47 h3 g2 fn80)) hP hD [0, 2, 3] [1] rfl rfl (by decide) (by decide) hk1 hFc hP1 hD1
                      clear hP hD hPc hDc hKc hFc hP1 hK1 hD1 hk1 hz1
                      generalize H1 = H at hP2 hS ⊢
                      have hP := hP2.sub (ws' := (wd_77d3d1bb h0 v0 h1 v1 x95 (-1) v4 r0 r1 r2 r3 r4 r5 r6 v5 v6 r7 r8 h2 h3 t81 r9 r10 v8 v9 r11 r12 v10 v11 r13 v12 v13 r14 v14 w15 r15 v16 v17 r16 r17 r18 r19 r20 r21 v18 r22 r23 r24 v19 h1 g0 f20 h2 g1 fn47 h3 g2 fn80)) [1, 0, 2, 3] rfl
                      have hD := hD2.sub (ws' := (wd_77d3d1bb h0 v0 h1 v1 x95 (-1) v4 r0 r1 r2 r3 r4 r5 r6 v5 v6 r7 r8 h2 h3 t81 r9 r10 v8 v9 r11 r12 v10 v11 r13 v12 v13 r14 v14 w15 r15 v16 v17 r16 r17 r18 r19 r20 r21 v18 r22 r23 r24 v19 h1 g0 f20 h2 g1 fn47 h3 g2 fn80)) [1, 0, 2, 3] (by decide) rfl
                      clear hP2 hD2
                      have hw1ra100 : ra100.toInt = 1 → pg_wh t81.toInt fn47 fn80 = true := fun h9 => by rcases pt2_ra100 with h8 | h8; exact h8.2; exfalso; omega
                      have hw0ra100 : ra100.toInt = 0 → pg_wh t81.toInt fn47 fn80 = false := fun h9 => by rcases pt2_ra100 with h8 | h8; exfalso; omega; exact h8.2
                      refine lv_if_ne (tgt := 226) hx hb dX12_readOffice_219 (by decide) (fun c101 => ?_) (fun c101 => ?_)
                      · skip
                        have fc101 : ¬ (ra100.toInt = 0) := fun h9 => c101 (Int32.toInt_inj.mp h9)
                        have q1hw1ra100 := hw1ra100 (by omega)
                        refine lv_aload_n hx hb dX12_readOffice_226 rfl (lv_at hl 3 rfl) ?_
                        refine va_get (D := (dC, dI)) (ci := 12) (v := .int (-1)) (C := RX12) (T := TX12) (N := 48) hx hb hts (fun _ h => List.mem_cons_of_mem _ (List.mem_append_right _ h)) hown hK hP 0 rfl rfl 4 (by decide) (hts (.fieldLink RX12 119 "LeftArgumentsModel" "wrong" "I") (List.mem_cons_of_mem _ (List.mem_append_left _ (List.mem_of_getElem? (i := 1) rfl)))) (fun _ h9 => h9) rfl dX12_readOffice_227 ?_
                        subst hQ
                        have hP9 := hP.sub (ws' := (wd_77d3d1bb h0 v0 h1 v1 x95 (-1) v4 r0 r1 r2 r3 r4 r5 r6 v5 v6 r7 r8 h2 h3 t81 r9 r10 v8 v9 r11 r12 v10 v11 r13 v12 v13 r14 v14 w15 r15 v16 v17 r16 r17 r18 r19 r20 r21 v18 r22 r23 r24 v19 h1 g0 f20 h2 g1 fn47 h3 g2 fn80)) [0, 1, 2, 3] rfl
                        have hD9 := hD.sub (ws' := (wd_77d3d1bb h0 v0 h1 v1 x95 (-1) v4 r0 r1 r2 r3 r4 r5 r6 v5 v6 r7 r8 h2 h3 t81 r9 r10 v8 v9 r11 r12 v10 v11 r13 v12 v13 r14 v14 w15 r15 v16 v17 r16 r17 r18 r19 r20 r21 v18 r22 r23 r24 v19 h1 g0 f20 h2 g1 fn47 h3 g2 fn80)) [0, 1, 2, 3] (by decide) rfl
                        have hK9 := hK.sub (tys' := []) [] rfl
                        exact W.iret (v := (-1)) hx hb hr (fun t ht hW => ⟨⟨(-1), (-1), rfl, rfl, Or.inl ⟨x95, t81, fn47, fn80, oa_x95, by first | omega | decide, by first | omega | decide, by first | omega | decide, by first | omega | decide, by first | omega | decide, by assumption, by first | assumption | (apply pm_BG.add <;> first | assumption | omega), by apply pg_office.g2 (R := f21) (B := f22) <;> first | assumption | omega | (apply pg_O.s0 <;> first | assumption | omega) | (apply pg_O.b0 <;> first | assumption | omega), by rw [ht]; exact hP9, va_K.moved hW.alike hK9, hD9⟩⟩, hS.F ht⟩) hS.2.2 dX12_readOffice_230
                      · skip
                        have fc101 : ra100.toInt = 0 := congrArg Int32.toInt c101
                        have q0hw0ra100 := hw0ra100 (by omega)
                        refine lv_aload_n hx hb dX12_readOffice_222 rfl (lv_at hl 3 rfl) ?_
                        have hPc := hP.sub (ws' := (wd_171f232f h0 v0 h1 v1 x95 (-1) v4 r0 r1 r2 r3 r4 r5 r6 v5 v6 r7 r8 h2 h3 t81 r9 r10 v8 v9 r11 r12 v10 v11 r13 v12 v13 r14 v14 w15 r15 v16 v17 r16 r17 r18 r19 r20 r21 v18 r22 r23 r24 v19)) [0] rfl
                        have hDc := hD.sub (ws' := (wd_171f232f h0 v0 h1 v1 x95 (-1) v4 r0 r1 r2 r3 r4 r5 r6 v5 v6 r7 r8 h2 h3 t81 r9 r10 v8 v9 r11 r12 v10 v11 r13 v12 v13 r14 v14 w15 r15 v16 v17 r16 r17 r18 r19 r20 r21 v18 r22 r23 r24 v19)) [0] (by decide) rfl
                        have hKc := hK.sub (tys' := []) [] rfl
                        have hFc := va_free (wc := (wd_171f232f h0 v0 h1 v1 x95 (-1) v4 r0 r1 r2 r3 r4 r5 r6 v5 v6 r7 r8 h2 h3 t81 r9 r10 v8 v9 r11 r12 v10 v11 r13 v12 v13 r14 v14 w15 r15 v16 v17 r16 r17 r18 r19 r20 r21 v18 r22 r23 r24 v19)) hD hS hA [0] rfl
                        refine va_callv (va_runV (As := []) (rest := []) ⟨hx, hb, hml, hown, hts⟩ (k_X12_bad l dC dI h0 v0 h1 v1 x95 v4 r0 r1 r2 r3 r4 r5 r6 v5 v6 r7 r8 h2 h3 t81 r9 r10 v8 v9 r11 r12 v10 v11 r13 v12 v13 r14 v14 w15 r15 v16 v17 r16 r17 r18 r19 r20 r21 v18 r22 r23 r24 v19 ⟨i_v1a, i_v1b⟩ ⟨oa_x95, by first | omega | decide⟩ ⟨i_v5a, i_v5b⟩ ⟨i_v6a, i_v6b⟩ ⟨by first | omega | decide, by first | omega | decide⟩ ⟨i_v8a, i_v8b⟩ ⟨i_v9a, i_v9b⟩ ⟨i_v10a, i_v10b⟩ ⟨i_v14a, i_v14b⟩ ⟨i_v18a, i_v18b⟩ ⟨i_v19a, i_v19b⟩ H.size) (cwV 0 hts g_X12_readOffice_5 rfl rfl rfl (by decide +kernel) ⟨Nat.le_of_ble_eq_true rfl, Nat.le_of_ble_eq_true rfl⟩) (pv_PV12 hPc hKc hDc (q0 := 0) rfl) rfl rfl hl.1 rfl (lv_room (Nat.le_of_ble_eq_true rfl)) dX12_readOffice_223 ⟨Nat.le_of_ble_eq_true rfl, Nat.le_of_ble_eq_true rfl⟩) hS (fun q _ h => hFc q h) hFc (fun u t H1 locs ht hvm hwra102 hB hz1 hk1 hS => ?_)
                        obtain ⟨x103, oa_x103, ob_x103, pt0_ra102, hP1, hK1, hD1⟩ := hB
                        rw [ht] at hP1
                        obtain ⟨hP2, hD2⟩ := va_join (wr := (wd_bcaf9cf2 h1 g0 f20 h2 g1 fn47 h3 g2 fn80)) (w1 := (wd_171f232f h0 v0 h1 v1 x95 x103 v4 r0 r1 r2 r3 r4 r5 r6 v5 v6 r7 r8 h2 h3 t81 r9 r10 v8 v9 r11 r12 v10 v11 r13 v12 v13 r14 v14 w15 r15 v16 v17 r16 r17 r18 r19 r20 r21 v18 r22 r23 r24 v19)) hP hD [0] [1, 2, 3] rfl rfl (by decide) (by decide) hk1 hFc hP1 hD1
                        clear hP hD hPc hDc hKc hFc hP1 hK1 hD1 hk1 hz1
                        generalize H1 = H at hP2 hS ⊢
                        have hP := hP2.sub (ws' := (wd_77d3d1bb h0 v0 h1 v1 x95 x103 v4 r0 r1 r2 r3 r4 r5 r6 v5 v6 r7 r8 h2 h3 t81 r9 r10 v8 v9 r11 r12 v10 v11 r13 v12 v13 r14 v14 w15 r15 v16 v17 r16 r17 r18 r19 r20 r21 v18 r22 r23 r24 v19 h1 g0 f20 h2 g1 fn47 h3 g2 fn80)) [3, 0, 1, 2] rfl
                        have hD := hD2.sub (ws' := (wd_77d3d1bb h0 v0 h1 v1 x95 x103 v4 r0 r1 r2 r3 r4 r5 r6 v5 v6 r7 r8 h2 h3 t81 r9 r10 v8 v9 r11 r12 v10 v11 r13 v12 v13 r14 v14 w15 r15 v16 v17 r16 r17 r18 r19 r20 r21 v18 r22 r23 r24 v19 h1 g0 f20 h2 g1 fn47 h3 g2 fn80)) [3, 0, 1, 2] (by decide) rfl
                        clear hP2 hD2
                        refine lv_aload_n hx hb dX12_readOffice_226 rfl (lv_at hl 3 rfl) ?_
                        refine va_get (D := (dC, dI)) (ci := 12) (v := .int x103) (C := RX12) (T := TX12) (N := 48) hx hb hts (fun _ h => List.mem_cons_of_mem _ (List.mem_append_right _ h)) hown hK hP 0 rfl rfl 4 (by decide) (hts (.fieldLink RX12 119 "LeftArgumentsModel" "wrong" "I") (List.mem_cons_of_mem _ (List.mem_append_left _ (List.mem_of_getElem? (i := 1) rfl)))) (fun _ h9 => h9) rfl dX12_readOffice_227 ?_
                        subst hQ
                        have hP9 := hP.sub (ws' := (wd_77d3d1bb h0 v0 h1 v1 x95 x103 v4 r0 r1 r2 r3 r4 r5 r6 v5 v6 r7 r8 h2 h3 t81 r9 r10 v8 v9 r11 r12 v10 v11 r13 v12 v13 r14 v14 w15 r15 v16 v17 r16 r17 r18 r19 r20 r21 v18 r22 r23 r24 v19 h1 g0 f20 h2 g1 fn47 h3 g2 fn80)) [0, 1, 2, 3] rfl
                        have hD9 := hD.sub (ws' := (wd_77d3d1bb h0 v0 h1 v1 x95 x103 v4 r0 r1 r2 r3 r4 r5 r6 v5 v6 r7 r8 h2 h3 t81 r9 r10 v8 v9 r11 r12 v10 v11 r13 v12 v13 r14 v14 w15 r15 v16 v17 r16 r17 r18 r19 r20 r21 v18 r22 r23 r24 v19 h1 g0 f20 h2 g1 fn47 h3 g2 fn80)) [0, 1, 2, 3] (by decide) rfl
                        have hK9 := hK.sub (tys' := []) [] rfl
                        exact W.iret (v := x103) hx hb hr (fun t ht hW => ⟨⟨x103, x103, rfl, rfl, Or.inr (⟨x95, x103, t81, fn47, fn80, oa_x95, by first | omega | decide, oa_x103, ob_x103, by first | omega | decide, by first | omega | decide, by first | omega | decide, by first | omega | decide, by first | (apply pg_office.b0 (R := f21) (B := f22) <;> first | assumption | omega | (apply pg_O.sf <;> first | assumption | omega) | (apply pg_O.bf <;> first | assumption | omega) | (apply pg_O.w <;> first | assumption | omega)) | (apply pg_office.b1 (R := f21) (B := f22) <;> first | assumption | omega | (apply pg_O.s0 <;> first | assumption | omega) | (apply pg_O.b0 <;> first | assumption | omega)) | (apply pg_office.b2 (R := f21) (B := f22) <;> first | assumption | omega | (apply pg_O.s0 <;> first | assumption | omega) | (apply pg_O.b0 <;> first | assumption | omega) | (apply pg_items.pn <;> first | assumption | omega)), by omega, by rw [ht]; exact hP9, va_K.moved hW.alike hK9, hD9⟩)⟩, hS.F ht⟩) hS.2.2 dX12_readOffice_230
                    · skip
                      obtain ⟨x104, oa_x104, ob_x104, pt0_ra98, pt1_ra98, pt2_ra98, pt3_ra98, pt4_ra98, pt5_ra98, pt6_ra98, pt7_ra98, hP1, hK1, hD1⟩ := hB
                      rw [ht] at hP1
                      obtain ⟨hP2, hD2⟩ := va_join (wr := (wd_5ef8c86c h2 g1 fn47 h3 g2 fn80)) (w1 := (wd_f4cd022e h0 v0 h1 v1 x104 (-1) v4 r0 r1 r2 r3 r4 r5 r6 v5 v6 r7 r8 h2 h3 t81 r9 r10 v8 v9 r11 r12 v10 v11 r13 v12 v13 r14 v14 w15 r15 v16 v17 r16 r17 r18 r19 r20 r21 v18 r22 r23 r24 v19 h1 g0 f20)) hP hD [0, 1] [2, 3] rfl rfl (by decide) (by decide) hk1 hFc hP1 hD1
                      clear hP hD hPc hDc hKc hFc hP1 hK1 hD1 hk1 hz1
                      generalize H1 = H at hP2 hS ⊢
                      have hP := hP2.sub (ws' := (wd_77d3d1bb h0 v0 h1 v1 x104 (-1) v4 r0 r1 r2 r3 r4 r5 r6 v5 v6 r7 r8 h2 h3 t81 r9 r10 v8 v9 r11 r12 v10 v11 r13 v12 v13 r14 v14 w15 r15 v16 v17 r16 r17 r18 r19 r20 r21 v18 r22 r23 r24 v19 h1 g0 f20 h2 g1 fn47 h3 g2 fn80)) [2, 3, 0, 1] rfl
                      have hD := hD2.sub (ws' := (wd_77d3d1bb h0 v0 h1 v1 x104 (-1) v4 r0 r1 r2 r3 r4 r5 r6 v5 v6 r7 r8 h2 h3 t81 r9 r10 v8 v9 r11 r12 v10 v11 r13 v12 v13 r14 v14 w15 r15 v16 v17 r16 r17 r18 r19 r20 r21 v18 r22 r23 r24 v19 h1 g0 f20 h2 g1 fn47 h3 g2 fn80)) [2, 3, 0, 1] (by decide) rfl
                      clear hP2 hD2
                      have hsh : pg_s f20 v1.toInt x95.toInt = x95.toInt := pg_s.here (by assumption)
                      obtain rfl : x95 = x104 := Int32.toInt_inj.mp (by omega)
                      have hP : va_P (dC, dI) vwCl (wd_77d3d1bb h0 v0 h1 v1 x95 (-1) v4 r0 r1 r2 r3 r4 r5 r6 v5 v6 r7 r8 h2 h3 t81 r9 r10 v8 v9 r11 r12 v10 v11 r13 v12 v13 r14 v14 w15 r15 v16 v17 r16 r17 r18 r19 r20 r21 v18 r22 r23 r24 v19 h1 g0 f20 h2 g1 fn47 h3 g2 fn80) H := hP
                      have hD : va_D A (wd_77d3d1bb h0 v0 h1 v1 x95 (-1) v4 r0 r1 r2 r3 r4 r5 r6 v5 v6 r7 r8 h2 h3 t81 r9 r10 v8 v9 r11 r12 v10 v11 r13 v12 v13 r14 v14 w15 r15 v16 v17 r16 r17 r18 r19 r20 r21 v18 r22 r23 r24 v19 h1 g0 f20 h2 g1 fn47 h3 g2 fn80) := hD
                      refine lv_iconst (v := (-1)) hx hb dX12_readOffice_211 (by decide) ?_
                      refine lv_icmp_ne (tgt := 222) hx hb dX12_readOffice_212 (by decide) (fun _ => ?_) (fun c105 => by exfalso; have fc105 : ra98.toInt = (-1) := congrArg Int32.toInt c105; omega)
                      refine lv_aload_n hx hb dX12_readOffice_222 rfl (lv_at hl 3 rfl) ?_
                      have hPc := hP.sub (ws' := (wd_171f232f h0 v0 h1 v1 x95 (-1) v4 r0 r1 r2 r3 r4 r5 r6 v5 v6 r7 r8 h2 h3 t81 r9 r10 v8 v9 r11 r12 v10 v11 r13 v12 v13 r14 v14 w15 r15 v16 v17 r16 r17 r18 r19 r20 r21 v18 r22 r23 r24 v19)) [0] rfl
                      have hDc := hD.sub (ws' := (wd_171f232f h0 v0 h1 v1 x95 (-1) v4 r0 r1 r2 r3 r4 r5 r6 v5 v6 r7 r8 h2 h3 t81 r9 r10 v8 v9 r11 r12 v10 v11 r13 v12 v13 r14 v14 w15 r15 v16 v17 r16 r17 r18 r19 r20 r21 v18 r22 r23 r24 v19)) [0] (by decide) rfl
                      have hKc := hK.sub (tys' := []) [] rfl
                      have hFc := va_free (wc := (wd_171f232f h0 v0 h1 v1 x95 (-1) v4 r0 r1 r2 r3 r4 r5 r6 v5 v6 r7 r8 h2 h3 t81 r9 r10 v8 v9 r11 r12 v10 v11 r13 v12 v13 r14 v14 w15 r15 v16 v17 r16 r17 r18 r19 r20 r21 v18 r22 r23 r24 v19)) hD hS hA [0] rfl
                      refine va_callv (va_runV (As := []) (rest := []) ⟨hx, hb, hml, hown, hts⟩ (k_X12_bad l dC dI h0 v0 h1 v1 x95 v4 r0 r1 r2 r3 r4 r5 r6 v5 v6 r7 r8 h2 h3 t81 r9 r10 v8 v9 r11 r12 v10 v11 r13 v12 v13 r14 v14 w15 r15 v16 v17 r16 r17 r18 r19 r20 r21 v18 r22 r23 r24 v19 ⟨i_v1a, i_v1b⟩ ⟨oa_x95, by first | omega | decide⟩ ⟨i_v5a, i_v5b⟩ ⟨i_v6a, i_v6b⟩ ⟨by first | omega | decide, by first | omega | decide⟩ ⟨i_v8a, i_v8b⟩ ⟨i_v9a, i_v9b⟩ ⟨i_v10a, i_v10b⟩ ⟨i_v14a, i_v14b⟩ ⟨i_v18a, i_v18b⟩ ⟨i_v19a, i_v19b⟩ H.size) (cwV 0 hts g_X12_readOffice_5 rfl rfl rfl (by decide +kernel) ⟨Nat.le_of_ble_eq_true rfl, Nat.le_of_ble_eq_true rfl⟩) (pv_PV12 hPc hKc hDc (q0 := 0) rfl) rfl rfl hl.1 rfl (lv_room (Nat.le_of_ble_eq_true rfl)) dX12_readOffice_223 ⟨Nat.le_of_ble_eq_true rfl, Nat.le_of_ble_eq_true rfl⟩) hS (fun q _ h => hFc q h) hFc (fun u t H1 locs ht hvm hwra106 hB hz1 hk1 hS => ?_)
                      obtain ⟨x107, oa_x107, ob_x107, pt0_ra106, hP1, hK1, hD1⟩ := hB
                      rw [ht] at hP1
                      obtain ⟨hP2, hD2⟩ := va_join (wr := (wd_bcaf9cf2 h1 g0 f20 h2 g1 fn47 h3 g2 fn80)) (w1 := (wd_171f232f h0 v0 h1 v1 x95 x107 v4 r0 r1 r2 r3 r4 r5 r6 v5 v6 r7 r8 h2 h3 t81 r9 r10 v8 v9 r11 r12 v10 v11 r13 v12 v13 r14 v14 w15 r15 v16 v17 r16 r17 r18 r19 r20 r21 v18 r22 r23 r24 v19)) hP hD [0] [1, 2, 3] rfl rfl (by decide) (by decide) hk1 hFc hP1 hD1
                      clear hP hD hPc hDc hKc hFc hP1 hK1 hD1 hk1 hz1
                      generalize H1 = H at hP2 hS ⊢
                      have hP := hP2.sub (ws' := (wd_77d3d1bb h0 v0 h1 v1 x95 x107 v4 r0 r1 r2 r3 r4 r5 r6 v5 v6 r7 r8 h2 h3 t81 r9 r10 v8 v9 r11 r12 v10 v11 r13 v12 v13 r14 v14 w15 r15 v16 v17 r16 r17 r18 r19 r20 r21 v18 r22 r23 r24 v19 h1 g0 f20 h2 g1 fn47 h3 g2 fn80)) [3, 0, 1, 2] rfl
                      have hD := hD2.sub (ws' := (wd_77d3d1bb h0 v0 h1 v1 x95 x107 v4 r0 r1 r2 r3 r4 r5 r6 v5 v6 r7 r8 h2 h3 t81 r9 r10 v8 v9 r11 r12 v10 v11 r13 v12 v13 r14 v14 w15 r15 v16 v17 r16 r17 r18 r19 r20 r21 v18 r22 r23 r24 v19 h1 g0 f20 h2 g1 fn47 h3 g2 fn80)) [3, 0, 1, 2] (by decide) rfl
                      clear hP2 hD2
                      refine lv_aload_n hx hb dX12_readOffice_226 rfl (lv_at hl 3 rfl) ?_
                      refine va_get (D := (dC, dI)) (ci := 12) (v := .int x107) (C := RX12) (T := TX12) (N := 48) hx hb hts (fun _ h => List.mem_cons_of_mem _ (List.mem_append_right _ h)) hown hK hP 0 rfl rfl 4 (by decide) (hts (.fieldLink RX12 119 "LeftArgumentsModel" "wrong" "I") (List.mem_cons_of_mem _ (List.mem_append_left _ (List.mem_of_getElem? (i := 1) rfl)))) (fun _ h9 => h9) rfl dX12_readOffice_227 ?_
                      subst hQ
                      have hP9 := hP.sub (ws' := (wd_77d3d1bb h0 v0 h1 v1 x95 x107 v4 r0 r1 r2 r3 r4 r5 r6 v5 v6 r7 r8 h2 h3 t81 r9 r10 v8 v9 r11 r12 v10 v11 r13 v12 v13 r14 v14 w15 r15 v16 v17 r16 r17 r18 r19 r20 r21 v18 r22 r23 r24 v19 h1 g0 f20 h2 g1 fn47 h3 g2 fn80)) [0, 1, 2, 3] rfl
                      have hD9 := hD.sub (ws' := (wd_77d3d1bb h0 v0 h1 v1 x95 x107 v4 r0 r1 r2 r3 r4 r5 r6 v5 v6 r7 r8 h2 h3 t81 r9 r10 v8 v9 r11 r12 v10 v11 r13 v12 v13 r14 v14 w15 r15 v16 v17 r16 r17 r18 r19 r20 r21 v18 r22 r23 r24 v19 h1 g0 f20 h2 g1 fn47 h3 g2 fn80)) [0, 1, 2, 3] (by decide) rfl
                      have hK9 := hK.sub (tys' := []) [] rfl
                      exact W.iret (v := x107) hx hb hr (fun t ht hW => ⟨⟨x107, x107, rfl, rfl, Or.inr (⟨x95, x107, t81, fn47, fn80, oa_x95, by first | omega | decide, oa_x107, ob_x107, by first | omega | decide, by first | omega | decide, by first | omega | decide, by first | omega | decide, by first | (apply pg_office.b0 (R := f21) (B := f22) <;> first | assumption | omega | (apply pg_O.sf <;> first | assumption | omega) | (apply pg_O.bf <;> first | assumption | omega) | (apply pg_O.w <;> first | assumption | omega)) | (apply pg_office.b1 (R := f21) (B := f22) <;> first | assumption | omega | (apply pg_O.s0 <;> first | assumption | omega) | (apply pg_O.b0 <;> first | assumption | omega)) | (apply pg_office.b2 (R := f21) (B := f22) <;> first | assumption | omega | (apply pg_O.s0 <;> first | assumption | omega) | (apply pg_O.b0 <;> first | assumption | omega) | (apply pg_items.pn <;> first | assumption | omega)), by omega, by rw [ht]; exact hP9, va_K.moved hW.alike hK9, hD9⟩)⟩, hS.F ht⟩) hS.2.2 dX12_readOffice_230
                  · skip
                    have fc96 : ra82.toInt = 59 := congrArg Int32.toInt c96
                    refine lv_iconst (v := 1) hx hb dX12_readOffice_172 (by decide) ?_
                    refine lv_goto (tgt := 177) hx hb dX12_readOffice_173 (by decide) ?_
                    refine lv_istore_n (lv' := [(2, .int 1), (3, .int 98), (1, .int x44), (0, .ref h0)]) hx hb dX12_readOffice_177 rfl hl (by decide) rfl (fun ls hl => ?_)
                    refine lv_aload_n hx hb dX12_readOffice_178 rfl (lv_at hl 3 rfl) ?_
                    refine lv_dup hx hb dX12_readOffice_179 rfl ?_
                    refine va_get (D := (dC, dI)) (ci := 12) (v := .int x95) (C := RX12) (T := TX12) (N := 48) hx hb hts (fun _ h => List.mem_cons_of_mem _ (List.mem_append_right _ h)) hown hK hP 0 rfl rfl 3 (by decide) (hts (.fieldLink RX12 112 "LeftArgumentsModel" "at" "I") (List.mem_cons_of_mem _ (List.mem_append_left _ (List.mem_of_getElem? (i := 0) rfl)))) (fun _ h9 => h9) rfl dX12_readOffice_180 ?_
                    refine lv_iload_n hx hb dX12_readOffice_183 rfl (lv_at hl 0 rfl) ?_
                    refine lv_if_eq (tgt := 191) hx hb dX12_readOffice_184 (by decide) (fun c => absurd c (by decide)) (fun _ => ?_)
                    refine lv_iconst (v := 1) hx hb dX12_readOffice_187 (by decide) ?_
                    refine lv_goto (tgt := 192) hx hb dX12_readOffice_188 (by decide) ?_
                    refine lv_iadd hx hb dX12_readOffice_192 ?_
                    refine lv_topi (fun t108 et108 => ?_)
                    have gt108 : t108.toInt = x95.toInt + 1 := pv_add (a := x95.toInt) (b := 1) et108 rfl (by decide) (by omega) (by omega)
                    refine va_put (D := (dC, dI)) (ci := 12) (v := .int t108) (ty := .int) (C := RX12) (T := TX12) (N := 48) hx hb hts (fun _ h => List.mem_cons_of_mem _ (List.mem_append_right _ h)) tyX12 tyX12_ok nmX12 hown hK hP hD hS 0 rfl rfl 3 (by decide) (hts (.fieldLink RX12 112 "LeftArgumentsModel" "at" "I") (List.mem_cons_of_mem _ (List.mem_append_left _ (List.mem_of_getElem? (i := 0) rfl)))) (fun _ h9 => h9) rfl (by decide +kernel) rfl rfl (Nat.le_of_ble_eq_true rfl) dX12_readOffice_193 (fun H locs hP hD hS => ?_)
                    have hP : va_P (dC, dI) vwCl (wd_77d3d1bb h0 v0 h1 v1 t108 (-1) v4 r0 r1 r2 r3 r4 r5 r6 v5 v6 r7 r8 h2 h3 t81 r9 r10 v8 v9 r11 r12 v10 v11 r13 v12 v13 r14 v14 w15 r15 v16 v17 r16 r17 r18 r19 r20 r21 v18 r22 r23 r24 v19 h1 g0 f20 h2 g1 fn47 h3 g2 fn80) H := hP
                    have hD : va_D A (wd_77d3d1bb h0 v0 h1 v1 t108 (-1) v4 r0 r1 r2 r3 r4 r5 r6 v5 v6 r7 r8 h2 h3 t81 r9 r10 v8 v9 r11 r12 v10 v11 r13 v12 v13 r14 v14 w15 r15 v16 v17 r16 r17 r18 r19 r20 r21 v18 r22 r23 r24 v19 h1 g0 f20 h2 g1 fn47 h3 g2 fn80) := hD
                    refine lv_goto (tgt := 44) hx hb dX12_readOffice_196 (by decide) ?_
                    exact ih_hL54 x44 t108 t81 fn47 fn80 H locs ls qa_x44 qb_x44 (by first | omega | decide) (by first | omega | decide) (by first | omega | decide) (by first | omega | decide) (by first | assumption | (apply pm_RR.init <;> first | assumption | decide)) (by first | assumption | exact pm_BG.zero (by decide) | (apply pm_BG.add <;> first | assumption | omega)) (by first | assumption | (apply pg_O.ini <;> first | assumption | omega | decide | (apply pg_ur.mk <;> first | assumption | decide)) | (apply pg_O.s1 <;> first | assumption | omega) | (apply pg_O.b1 <;> first | assumption | omega)) (by first | omega | ((have h09 : ((0 : Int32)).toInt = 0 := by decide); omega)) (by first | omega | (simp only [Int.toNat] at *; omega)) hP hD hS (lv_sub hl [0, 2, 3] rfl)
              · skip
                obtain ⟨x109, x110, fn111, oa_x109, ob_x109, oa_x110, ob_x110, pt0_ra78, pt1_ra78, hP1, hK1, hD1⟩ := hB
                rw [ht] at hP1
                obtain ⟨hP2, hD2⟩ := va_join (wr := (wd_6f8f3203 h2 g1 fn47)) (w1 := (wd_b9c2d44b h0 v0 h1 v1 x109 x110 v4 r0 r1 r2 r3 r4 r5 r6 v5 v6 r7 r8 h2 h3 x46 r9 r10 v8 v9 r11 r12 v10 v11 r13 v12 v13 r14 v14 w15 r15 v16 v17 r16 r17 r18 r19 r20 r21 v18 r22 r23 r24 v19 h1 g0 f20 h3 g2 fn111)) hP hD [0, 1, 3] [2] rfl rfl (by decide) (by decide) hk1 hFc hP1 hD1
                clear hP hD hPc hDc hKc hFc hP1 hK1 hD1 hk1 hz1
                generalize H1 = H at hP2 hS ⊢
                have hP := hP2.sub (ws' := (wd_77d3d1bb h0 v0 h1 v1 x109 x110 v4 r0 r1 r2 r3 r4 r5 r6 v5 v6 r7 r8 h2 h3 x46 r9 r10 v8 v9 r11 r12 v10 v11 r13 v12 v13 r14 v14 w15 r15 v16 v17 r16 r17 r18 r19 r20 r21 v18 r22 r23 r24 v19 h1 g0 f20 h2 g1 fn47 h3 g2 fn111)) [1, 2, 0, 3] rfl
                have hD := hD2.sub (ws' := (wd_77d3d1bb h0 v0 h1 v1 x109 x110 v4 r0 r1 r2 r3 r4 r5 r6 v5 v6 r7 r8 h2 h3 x46 r9 r10 v8 v9 r11 r12 v10 v11 r13 v12 v13 r14 v14 w15 r15 v16 v17 r16 r17 r18 r19 r20 r21 v18 r22 r23 r24 v19 h1 g0 f20 h2 g1 fn47 h3 g2 fn111)) [1, 2, 0, 3] (by decide) rfl
                clear hP2 hD2
                refine lv_aload_n hx hb dX12_readOffice_138 rfl (lv_at hl 3 rfl) ?_
                refine lv_dup hx hb dX12_readOffice_139 rfl ?_
                refine va_get (D := (dC, dI)) (ci := 12) (v := .int x46) (C := RX12) (T := TX12) (N := 48) hx hb hts (fun _ h => List.mem_cons_of_mem _ (List.mem_append_right _ h)) hown hK hP 0 rfl rfl 19 (by decide) (hts (.fieldLink RX12 241 "LeftArgumentsModel" "readBags" "I") (List.mem_cons_of_mem _ (List.mem_append_left _ (List.mem_of_getElem? (i := 2) rfl)))) (fun _ h9 => h9) rfl dX12_readOffice_140 ?_
                refine lv_iconst (v := 1) hx hb dX12_readOffice_143 (by decide) ?_
                refine lv_iadd hx hb dX12_readOffice_144 ?_
                refine lv_topi (fun t112 et112 => ?_)
                have gt112 : t112.toInt = x46.toInt + 1 := pv_add (a := x46.toInt) (b := 1) et112 rfl (by decide) (by omega) (by omega)
                refine va_put (D := (dC, dI)) (ci := 12) (v := .int t112) (ty := .int) (C := RX12) (T := TX12) (N := 48) hx hb hts (fun _ h => List.mem_cons_of_mem _ (List.mem_append_right _ h)) tyX12 tyX12_ok nmX12 hown hK hP hD hS 0 rfl rfl 19 (by decide) (hts (.fieldLink RX12 241 "LeftArgumentsModel" "readBags" "I") (List.mem_cons_of_mem _ (List.mem_append_left _ (List.mem_of_getElem? (i := 2) rfl)))) (fun _ h9 => h9) rfl (by decide +kernel) rfl rfl (Nat.le_of_ble_eq_true rfl) dX12_readOffice_145 (fun H locs hP hD hS => ?_)
                have hP : va_P (dC, dI) vwCl (wd_77d3d1bb h0 v0 h1 v1 x109 x110 v4 r0 r1 r2 r3 r4 r5 r6 v5 v6 r7 r8 h2 h3 t112 r9 r10 v8 v9 r11 r12 v10 v11 r13 v12 v13 r14 v14 w15 r15 v16 v17 r16 r17 r18 r19 r20 r21 v18 r22 r23 r24 v19 h1 g0 f20 h2 g1 fn47 h3 g2 fn111) H := hP
                have hD : va_D A (wd_77d3d1bb h0 v0 h1 v1 x109 x110 v4 r0 r1 r2 r3 r4 r5 r6 v5 v6 r7 r8 h2 h3 t112 r9 r10 v8 v9 r11 r12 v10 v11 r13 v12 v13 r14 v14 w15 r15 v16 v17 r16 r17 r18 r19 r20 r21 v18 r22 r23 r24 v19 h1 g0 f20 h2 g1 fn47 h3 g2 fn111) := hD
                refine lv_goto (tgt := 155) hx hb dX12_readOffice_148 (by decide) ?_
                refine lv_aload_n hx hb dX12_readOffice_155 rfl (lv_at hl 3 rfl) ?_
                refine va_get (D := (dC, dI)) (ci := 12) (v := .int x110) (C := RX12) (T := TX12) (N := 48) hx hb hts (fun _ h => List.mem_cons_of_mem _ (List.mem_append_right _ h)) hown hK hP 0 rfl rfl 4 (by decide) (hts (.fieldLink RX12 119 "LeftArgumentsModel" "wrong" "I") (List.mem_cons_of_mem _ (List.mem_append_left _ (List.mem_of_getElem? (i := 1) rfl)))) (fun _ h9 => h9) rfl dX12_readOffice_156 ?_
                refine lv_iconst (v := (-1)) hx hb dX12_readOffice_159 (by decide) ?_
                refine lv_icmp_ne (tgt := 176) hx hb dX12_readOffice_160 (by decide) (fun _ => ?_) (fun c113 => by exfalso; have fc113 : x110.toInt = (-1) := congrArg Int32.toInt c113; omega)
                refine lv_iconst (v := 0) hx hb dX12_readOffice_176 (by decide) ?_
                refine lv_istore_n (lv' := [(2, .int 0), (3, .int 98), (1, .int x44), (0, .ref h0)]) hx hb dX12_readOffice_177 rfl hl (by decide) rfl (fun ls hl => ?_)
                refine lv_aload_n hx hb dX12_readOffice_178 rfl (lv_at hl 3 rfl) ?_
                refine lv_dup hx hb dX12_readOffice_179 rfl ?_
                refine va_get (D := (dC, dI)) (ci := 12) (v := .int x109) (C := RX12) (T := TX12) (N := 48) hx hb hts (fun _ h => List.mem_cons_of_mem _ (List.mem_append_right _ h)) hown hK hP 0 rfl rfl 3 (by decide) (hts (.fieldLink RX12 112 "LeftArgumentsModel" "at" "I") (List.mem_cons_of_mem _ (List.mem_append_left _ (List.mem_of_getElem? (i := 0) rfl)))) (fun _ h9 => h9) rfl dX12_readOffice_180 ?_
                refine lv_iload_n hx hb dX12_readOffice_183 rfl (lv_at hl 0 rfl) ?_
                refine lv_if_eq (tgt := 191) hx hb dX12_readOffice_184 (by decide) (fun _ => ?_) (fun c => absurd (by decide) c)
                refine lv_iconst (v := 0) hx hb dX12_readOffice_191 (by decide) ?_
                refine lv_iadd hx hb dX12_readOffice_192 ?_
                refine lv_topi (fun t114 et114 => ?_)
                have gt114 : t114.toInt = x109.toInt + 0 := pv_add (a := x109.toInt) (b := 0) et114 rfl (by decide) (by omega) (by omega)
                obtain rfl : x109 = t114 := Int32.toInt_inj.mp (by omega)
                refine va_put (D := (dC, dI)) (ci := 12) (v := .int x109) (ty := .int) (C := RX12) (T := TX12) (N := 48) hx hb hts (fun _ h => List.mem_cons_of_mem _ (List.mem_append_right _ h)) tyX12 tyX12_ok nmX12 hown hK hP hD hS 0 rfl rfl 3 (by decide) (hts (.fieldLink RX12 112 "LeftArgumentsModel" "at" "I") (List.mem_cons_of_mem _ (List.mem_append_left _ (List.mem_of_getElem? (i := 0) rfl)))) (fun _ h9 => h9) rfl (by decide +kernel) rfl rfl (Nat.le_of_ble_eq_true rfl) dX12_readOffice_193 (fun H locs hP hD hS => ?_)
                have hP : va_P (dC, dI) vwCl (wd_77d3d1bb h0 v0 h1 v1 x109 x110 v4 r0 r1 r2 r3 r4 r5 r6 v5 v6 r7 r8 h2 h3 t112 r9 r10 v8 v9 r11 r12 v10 v11 r13 v12 v13 r14 v14 w15 r15 v16 v17 r16 r17 r18 r19 r20 r21 v18 r22 r23 r24 v19 h1 g0 f20 h2 g1 fn47 h3 g2 fn111) H := hP
                have hD : va_D A (wd_77d3d1bb h0 v0 h1 v1 x109 x110 v4 r0 r1 r2 r3 r4 r5 r6 v5 v6 r7 r8 h2 h3 t112 r9 r10 v8 v9 r11 r12 v10 v11 r13 v12 v13 r14 v14 w15 r15 v16 v17 r16 r17 r18 r19 r20 r21 v18 r22 r23 r24 v19 h1 g0 f20 h2 g1 fn47 h3 g2 fn111) := hD
                refine lv_goto (tgt := 44) hx hb dX12_readOffice_196 (by decide) ?_
                refine lv_iload_n hx hb dX12_readOffice_44 rfl (lv_at hl 0 rfl) ?_
                refine lv_if_eq (tgt := 199) hx hb dX12_readOffice_45 (by decide) (fun _ => ?_) (fun c => absurd (by decide) c)
                refine lv_aload_n hx hb dX12_readOffice_199 rfl (lv_at hl 3 rfl) ?_
                refine va_get (D := (dC, dI)) (ci := 12) (v := .int x110) (C := RX12) (T := TX12) (N := 48) hx hb hts (fun _ h => List.mem_cons_of_mem _ (List.mem_append_right _ h)) hown hK hP 0 rfl rfl 4 (by decide) (hts (.fieldLink RX12 119 "LeftArgumentsModel" "wrong" "I") (List.mem_cons_of_mem _ (List.mem_append_left _ (List.mem_of_getElem? (i := 1) rfl)))) (fun _ h9 => h9) rfl dX12_readOffice_200 ?_
                refine lv_iconst (v := (-1)) hx hb dX12_readOffice_203 (by decide) ?_
                refine lv_icmp_ne (tgt := 226) hx hb dX12_readOffice_204 (by decide) (fun _ => ?_) (fun c115 => by exfalso; have fc115 : x110.toInt = (-1) := congrArg Int32.toInt c115; omega)
                refine lv_aload_n hx hb dX12_readOffice_226 rfl (lv_at hl 3 rfl) ?_
                refine va_get (D := (dC, dI)) (ci := 12) (v := .int x110) (C := RX12) (T := TX12) (N := 48) hx hb hts (fun _ h => List.mem_cons_of_mem _ (List.mem_append_right _ h)) hown hK hP 0 rfl rfl 4 (by decide) (hts (.fieldLink RX12 119 "LeftArgumentsModel" "wrong" "I") (List.mem_cons_of_mem _ (List.mem_append_left _ (List.mem_of_getElem? (i := 1) rfl)))) (fun _ h9 => h9) rfl dX12_readOffice_227 ?_
                subst hQ
                have hP9 := hP.sub (ws' := (wd_77d3d1bb h0 v0 h1 v1 x109 x110 v4 r0 r1 r2 r3 r4 r5 r6 v5 v6 r7 r8 h2 h3 t112 r9 r10 v8 v9 r11 r12 v10 v11 r13 v12 v13 r14 v14 w15 r15 v16 v17 r16 r17 r18 r19 r20 r21 v18 r22 r23 r24 v19 h1 g0 f20 h2 g1 fn47 h3 g2 fn111)) [0, 1, 2, 3] rfl
                have hD9 := hD.sub (ws' := (wd_77d3d1bb h0 v0 h1 v1 x109 x110 v4 r0 r1 r2 r3 r4 r5 r6 v5 v6 r7 r8 h2 h3 t112 r9 r10 v8 v9 r11 r12 v10 v11 r13 v12 v13 r14 v14 w15 r15 v16 v17 r16 r17 r18 r19 r20 r21 v18 r22 r23 r24 v19 h1 g0 f20 h2 g1 fn47 h3 g2 fn111)) [0, 1, 2, 3] (by decide) rfl
                have hK9 := hK.sub (tys' := []) [] rfl
                exact W.iret (v := x110) hx hb hr (fun t ht hW => ⟨⟨x110, x110, rfl, rfl, Or.inr (⟨x109, x110, t112, fn47, fn111, oa_x109, ob_x109, oa_x110, ob_x110, by first | omega | decide, by first | omega | decide, by first | omega | decide, by first | omega | decide, by first | (apply pg_office.b0 (R := f21) (B := f22) <;> first | assumption | omega | (apply pg_O.sf <;> first | assumption | omega) | (apply pg_O.bf <;> first | assumption | omega) | (apply pg_O.w <;> first | assumption | omega)) | (apply pg_office.b1 (R := f21) (B := f22) <;> first | assumption | omega | (apply pg_O.s0 <;> first | assumption | omega) | (apply pg_O.b0 <;> first | assumption | omega)) | (apply pg_office.b2 (R := f21) (B := f22) <;> first | assumption | omega | (apply pg_O.s0 <;> first | assumption | omega) | (apply pg_O.b0 <;> first | assumption | omega) | (apply pg_items.pn <;> first | assumption | omega)), by omega, by rw [ht]; exact hP9, va_K.moved hW.alike hK9, hD9⟩)⟩, hS.F ht⟩) hS.2.2 dX12_readOffice_230
        · skip
          have fc63 : ra55.toInt = 115 := congrArg Int32.toInt c63
          obtain rfl : ra55 = (115 : Int32) := Int32.toInt_inj.mp (by rw [show ((115 : Int32)).toInt = 115 by decide]; omega)
          refine lv_iload_n hx hb dX12_readOffice_67 rfl (lv_at hl 2 rfl) ?_
          refine lv_if_ne (tgt := 97) hx hb dX12_readOffice_68 (by decide) (fun c116 => ?_) (fun c116 => ?_)
          · skip
            have fc116 : ¬ (x44.toInt = 0) := fun h9 => c116 (Int32.toInt_inj.mp h9)
            refine lv_iload_n hx hb dX12_readOffice_97 rfl (lv_at hl 0 rfl) ?_
            refine lv_bipush (v := 98) hx hb dX12_readOffice_98 (by decide) ?_
            refine lv_icmp_ne (tgt := 151) hx hb dX12_readOffice_100 (by decide) (fun _ => ?_) (fun c => absurd c (by decide))
            refine lv_aload_n hx hb dX12_readOffice_151 rfl (lv_at hl 3 rfl) ?_
            have hPc := hP.sub (ws' := (wd_171f232f h0 v0 h1 v1 x62 (-1) v4 r0 r1 r2 r3 r4 r5 r6 v5 v6 r7 r8 h2 h3 x46 r9 r10 v8 v9 r11 r12 v10 v11 r13 v12 v13 r14 v14 w15 r15 v16 v17 r16 r17 r18 r19 r20 r21 v18 r22 r23 r24 v19)) [0] rfl
            have hDc := hD.sub (ws' := (wd_171f232f h0 v0 h1 v1 x62 (-1) v4 r0 r1 r2 r3 r4 r5 r6 v5 v6 r7 r8 h2 h3 x46 r9 r10 v8 v9 r11 r12 v10 v11 r13 v12 v13 r14 v14 w15 r15 v16 v17 r16 r17 r18 r19 r20 r21 v18 r22 r23 r24 v19)) [0] (by decide) rfl
            have hKc := hK.sub (tys' := []) [] rfl
            have hFc := va_free (wc := (wd_171f232f h0 v0 h1 v1 x62 (-1) v4 r0 r1 r2 r3 r4 r5 r6 v5 v6 r7 r8 h2 h3 x46 r9 r10 v8 v9 r11 r12 v10 v11 r13 v12 v13 r14 v14 w15 r15 v16 v17 r16 r17 r18 r19 r20 r21 v18 r22 r23 r24 v19)) hD hS hA [0] rfl
            refine va_callv (va_runV (As := []) (rest := []) ⟨hx, hb, hml, hown, hts⟩ (k_X12_bad l dC dI h0 v0 h1 v1 x62 v4 r0 r1 r2 r3 r4 r5 r6 v5 v6 r7 r8 h2 h3 x46 r9 r10 v8 v9 r11 r12 v10 v11 r13 v12 v13 r14 v14 w15 r15 v16 v17 r16 r17 r18 r19 r20 r21 v18 r22 r23 r24 v19 ⟨i_v1a, i_v1b⟩ ⟨oa_x62, by first | omega | decide⟩ ⟨i_v5a, i_v5b⟩ ⟨i_v6a, i_v6b⟩ ⟨qa_x46, qb_x46⟩ ⟨i_v8a, i_v8b⟩ ⟨i_v9a, i_v9b⟩ ⟨i_v10a, i_v10b⟩ ⟨i_v14a, i_v14b⟩ ⟨i_v18a, i_v18b⟩ ⟨i_v19a, i_v19b⟩ H.size) (cwV 0 hts g_X12_readOffice_5 rfl rfl rfl (by decide +kernel) ⟨Nat.le_of_ble_eq_true rfl, Nat.le_of_ble_eq_true rfl⟩) (pv_PV12 hPc hKc hDc (q0 := 0) rfl) rfl rfl hl.1 rfl (lv_room (Nat.le_of_ble_eq_true rfl)) dX12_readOffice_152 ⟨Nat.le_of_ble_eq_true rfl, Nat.le_of_ble_eq_true rfl⟩) hS (fun q _ h => hFc q h) hFc (fun u t H1 locs ht hvm hwra117 hB hz1 hk1 hS => ?_)
            obtain ⟨x118, oa_x118, ob_x118, pt0_ra117, hP1, hK1, hD1⟩ := hB
            rw [ht] at hP1
            obtain ⟨hP2, hD2⟩ := va_join (wr := (wd_bcaf9cf2 h1 g0 f20 h2 g1 fn47 h3 g2 fn48)) (w1 := (wd_171f232f h0 v0 h1 v1 x62 x118 v4 r0 r1 r2 r3 r4 r5 r6 v5 v6 r7 r8 h2 h3 x46 r9 r10 v8 v9 r11 r12 v10 v11 r13 v12 v13 r14 v14 w15 r15 v16 v17 r16 r17 r18 r19 r20 r21 v18 r22 r23 r24 v19)) hP hD [0] [1, 2, 3] rfl rfl (by decide) (by decide) hk1 hFc hP1 hD1
            clear hP hD hPc hDc hKc hFc hP1 hK1 hD1 hk1 hz1
            generalize H1 = H at hP2 hS ⊢
            have hP := hP2.sub (ws' := (wd_77d3d1bb h0 v0 h1 v1 x62 x118 v4 r0 r1 r2 r3 r4 r5 r6 v5 v6 r7 r8 h2 h3 x46 r9 r10 v8 v9 r11 r12 v10 v11 r13 v12 v13 r14 v14 w15 r15 v16 v17 r16 r17 r18 r19 r20 r21 v18 r22 r23 r24 v19 h1 g0 f20 h2 g1 fn47 h3 g2 fn48)) [3, 0, 1, 2] rfl
            have hD := hD2.sub (ws' := (wd_77d3d1bb h0 v0 h1 v1 x62 x118 v4 r0 r1 r2 r3 r4 r5 r6 v5 v6 r7 r8 h2 h3 x46 r9 r10 v8 v9 r11 r12 v10 v11 r13 v12 v13 r14 v14 w15 r15 v16 v17 r16 r17 r18 r19 r20 r21 v18 r22 r23 r24 v19 h1 g0 f20 h2 g1 fn47 h3 g2 fn48)) [3, 0, 1, 2] (by decide) rfl
            clear hP2 hD2
            refine lv_aload_n hx hb dX12_readOffice_155 rfl (lv_at hl 3 rfl) ?_
            refine va_get (D := (dC, dI)) (ci := 12) (v := .int x118) (C := RX12) (T := TX12) (N := 48) hx hb hts (fun _ h => List.mem_cons_of_mem _ (List.mem_append_right _ h)) hown hK hP 0 rfl rfl 4 (by decide) (hts (.fieldLink RX12 119 "LeftArgumentsModel" "wrong" "I") (List.mem_cons_of_mem _ (List.mem_append_left _ (List.mem_of_getElem? (i := 1) rfl)))) (fun _ h9 => h9) rfl dX12_readOffice_156 ?_
            refine lv_iconst (v := (-1)) hx hb dX12_readOffice_159 (by decide) ?_
            refine lv_icmp_ne (tgt := 176) hx hb dX12_readOffice_160 (by decide) (fun _ => ?_) (fun c119 => by exfalso; have fc119 : x118.toInt = (-1) := congrArg Int32.toInt c119; omega)
            refine lv_iconst (v := 0) hx hb dX12_readOffice_176 (by decide) ?_
            refine lv_istore_n (lv' := [(2, .int 0), (3, .int 115), (1, .int x44), (0, .ref h0)]) hx hb dX12_readOffice_177 rfl hl (by decide) rfl (fun ls hl => ?_)
            refine lv_aload_n hx hb dX12_readOffice_178 rfl (lv_at hl 3 rfl) ?_
            refine lv_dup hx hb dX12_readOffice_179 rfl ?_
            refine va_get (D := (dC, dI)) (ci := 12) (v := .int x62) (C := RX12) (T := TX12) (N := 48) hx hb hts (fun _ h => List.mem_cons_of_mem _ (List.mem_append_right _ h)) hown hK hP 0 rfl rfl 3 (by decide) (hts (.fieldLink RX12 112 "LeftArgumentsModel" "at" "I") (List.mem_cons_of_mem _ (List.mem_append_left _ (List.mem_of_getElem? (i := 0) rfl)))) (fun _ h9 => h9) rfl dX12_readOffice_180 ?_
            refine lv_iload_n hx hb dX12_readOffice_183 rfl (lv_at hl 0 rfl) ?_
            refine lv_if_eq (tgt := 191) hx hb dX12_readOffice_184 (by decide) (fun _ => ?_) (fun c => absurd (by decide) c)
            refine lv_iconst (v := 0) hx hb dX12_readOffice_191 (by decide) ?_
            refine lv_iadd hx hb dX12_readOffice_192 ?_
            refine lv_topi (fun t120 et120 => ?_)
            have gt120 : t120.toInt = x62.toInt + 0 := pv_add (a := x62.toInt) (b := 0) et120 rfl (by decide) (by omega) (by omega)
            obtain rfl : x62 = t120 := Int32.toInt_inj.mp (by omega)
            refine va_put (D := (dC, dI)) (ci := 12) (v := .int x62) (ty := .int) (C := RX12) (T := TX12) (N := 48) hx hb hts (fun _ h => List.mem_cons_of_mem _ (List.mem_append_right _ h)) tyX12 tyX12_ok nmX12 hown hK hP hD hS 0 rfl rfl 3 (by decide) (hts (.fieldLink RX12 112 "LeftArgumentsModel" "at" "I") (List.mem_cons_of_mem _ (List.mem_append_left _ (List.mem_of_getElem? (i := 0) rfl)))) (fun _ h9 => h9) rfl (by decide +kernel) rfl rfl (Nat.le_of_ble_eq_true rfl) dX12_readOffice_193 (fun H locs hP hD hS => ?_)
            have hP : va_P (dC, dI) vwCl (wd_77d3d1bb h0 v0 h1 v1 x62 x118 v4 r0 r1 r2 r3 r4 r5 r6 v5 v6 r7 r8 h2 h3 x46 r9 r10 v8 v9 r11 r12 v10 v11 r13 v12 v13 r14 v14 w15 r15 v16 v17 r16 r17 r18 r19 r20 r21 v18 r22 r23 r24 v19 h1 g0 f20 h2 g1 fn47 h3 g2 fn48) H := hP
            have hD : va_D A (wd_77d3d1bb h0 v0 h1 v1 x62 x118 v4 r0 r1 r2 r3 r4 r5 r6 v5 v6 r7 r8 h2 h3 x46 r9 r10 v8 v9 r11 r12 v10 v11 r13 v12 v13 r14 v14 w15 r15 v16 v17 r16 r17 r18 r19 r20 r21 v18 r22 r23 r24 v19 h1 g0 f20 h2 g1 fn47 h3 g2 fn48) := hD
            refine lv_goto (tgt := 44) hx hb dX12_readOffice_196 (by decide) ?_
            refine lv_iload_n hx hb dX12_readOffice_44 rfl (lv_at hl 0 rfl) ?_
            refine lv_if_eq (tgt := 199) hx hb dX12_readOffice_45 (by decide) (fun _ => ?_) (fun c => absurd (by decide) c)
            refine lv_aload_n hx hb dX12_readOffice_199 rfl (lv_at hl 3 rfl) ?_
            refine va_get (D := (dC, dI)) (ci := 12) (v := .int x118) (C := RX12) (T := TX12) (N := 48) hx hb hts (fun _ h => List.mem_cons_of_mem _ (List.mem_append_right _ h)) hown hK hP 0 rfl rfl 4 (by decide) (hts (.fieldLink RX12 119 "LeftArgumentsModel" "wrong" "I") (List.mem_cons_of_mem _ (List.mem_append_left _ (List.mem_of_getElem? (i := 1) rfl)))) (fun _ h9 => h9) rfl dX12_readOffice_200 ?_
            refine lv_iconst (v := (-1)) hx hb dX12_readOffice_203 (by decide) ?_
            refine lv_icmp_ne (tgt := 226) hx hb dX12_readOffice_204 (by decide) (fun _ => ?_) (fun c121 => by exfalso; have fc121 : x118.toInt = (-1) := congrArg Int32.toInt c121; omega)
            refine lv_aload_n hx hb dX12_readOffice_226 rfl (lv_at hl 3 rfl) ?_
            refine va_get (D := (dC, dI)) (ci := 12) (v := .int x118) (C := RX12) (T := TX12) (N := 48) hx hb hts (fun _ h => List.mem_cons_of_mem _ (List.mem_append_right _ h)) hown hK hP 0 rfl rfl 4 (by decide) (hts (.fieldLink RX12 119 "LeftArgumentsModel" "wrong" "I") (List.mem_cons_of_mem _ (List.mem_append_left _ (List.mem_of_getElem? (i := 1) rfl)))) (fun _ h9 => h9) rfl dX12_readOffice_227 ?_
            subst hQ
            have hP9 := hP.sub (ws' := (wd_77d3d1bb h0 v0 h1 v1 x62 x118 v4 r0 r1 r2 r3 r4 r5 r6 v5 v6 r7 r8 h2 h3 x46 r9 r10 v8 v9 r11 r12 v10 v11 r13 v12 v13 r14 v14 w15 r15 v16 v17 r16 r17 r18 r19 r20 r21 v18 r22 r23 r24 v19 h1 g0 f20 h2 g1 fn47 h3 g2 fn48)) [0, 1, 2, 3] rfl
            have hD9 := hD.sub (ws' := (wd_77d3d1bb h0 v0 h1 v1 x62 x118 v4 r0 r1 r2 r3 r4 r5 r6 v5 v6 r7 r8 h2 h3 x46 r9 r10 v8 v9 r11 r12 v10 v11 r13 v12 v13 r14 v14 w15 r15 v16 v17 r16 r17 r18 r19 r20 r21 v18 r22 r23 r24 v19 h1 g0 f20 h2 g1 fn47 h3 g2 fn48)) [0, 1, 2, 3] (by decide) rfl
            have hK9 := hK.sub (tys' := []) [] rfl
            exact W.iret (v := x118) hx hb hr (fun t ht hW => ⟨⟨x118, x118, rfl, rfl, Or.inr (⟨x62, x118, x46, fn47, fn48, oa_x62, by first | omega | decide, oa_x118, ob_x118, qa_x46, qb_x46, by first | omega | decide, by first | omega | decide, by first | (apply pg_office.b0 (R := f21) (B := f22) <;> first | assumption | omega | (apply pg_O.sf <;> first | assumption | omega) | (apply pg_O.bf <;> first | assumption | omega) | (apply pg_O.w <;> first | assumption | omega)) | (apply pg_office.b1 (R := f21) (B := f22) <;> first | assumption | omega | (apply pg_O.s0 <;> first | assumption | omega) | (apply pg_O.b0 <;> first | assumption | omega)) | (apply pg_office.b2 (R := f21) (B := f22) <;> first | assumption | omega | (apply pg_O.s0 <;> first | assumption | omega) | (apply pg_O.b0 <;> first | assumption | omega) | (apply pg_items.pn <;> first | assumption | omega)), by omega, by rw [ht]; exact hP9, va_K.moved hW.alike hK9, hD9⟩)⟩, hS.F ht⟩) hS.2.2 dX12_readOffice_230
          · skip
            have fc116 : x44.toInt = 0 := congrArg Int32.toInt c116
            refine lv_iconst (v := 1) hx hb dX12_readOffice_71 (by decide) ?_
            refine lv_istore_n (lv' := [(1, .int 1), (3, .int 115), (2, .int 1), (0, .ref h0)]) hx hb dX12_readOffice_72 rfl hl (by decide) rfl (fun ls hl => ?_)
            refine lv_aload_n hx hb dX12_readOffice_73 rfl (lv_at hl 3 rfl) ?_
            refine lv_dup hx hb dX12_readOffice_74 rfl ?_
            refine va_get (D := (dC, dI)) (ci := 12) (v := .int x62) (C := RX12) (T := TX12) (N := 48) hx hb hts (fun _ h => List.mem_cons_of_mem _ (List.mem_append_right _ h)) hown hK hP 0 rfl rfl 3 (by decide) (hts (.fieldLink RX12 112 "LeftArgumentsModel" "at" "I") (List.mem_cons_of_mem _ (List.mem_append_left _ (List.mem_of_getElem? (i := 0) rfl)))) (fun _ h9 => h9) rfl dX12_readOffice_75 ?_
            refine lv_iconst (v := 1) hx hb dX12_readOffice_78 (by decide) ?_
            refine lv_iadd hx hb dX12_readOffice_79 ?_
            refine lv_topi (fun t122 et122 => ?_)
            have gt122 : t122.toInt = x62.toInt + 1 := pv_add (a := x62.toInt) (b := 1) et122 rfl (by decide) (by omega) (by omega)
            refine va_put (D := (dC, dI)) (ci := 12) (v := .int t122) (ty := .int) (C := RX12) (T := TX12) (N := 48) hx hb hts (fun _ h => List.mem_cons_of_mem _ (List.mem_append_right _ h)) tyX12 tyX12_ok nmX12 hown hK hP hD hS 0 rfl rfl 3 (by decide) (hts (.fieldLink RX12 112 "LeftArgumentsModel" "at" "I") (List.mem_cons_of_mem _ (List.mem_append_left _ (List.mem_of_getElem? (i := 0) rfl)))) (fun _ h9 => h9) rfl (by decide +kernel) rfl rfl (Nat.le_of_ble_eq_true rfl) dX12_readOffice_80 (fun H locs hP hD hS => ?_)
            have hP : va_P (dC, dI) vwCl (wd_77d3d1bb h0 v0 h1 v1 t122 (-1) v4 r0 r1 r2 r3 r4 r5 r6 v5 v6 r7 r8 h2 h3 x46 r9 r10 v8 v9 r11 r12 v10 v11 r13 v12 v13 r14 v14 w15 r15 v16 v17 r16 r17 r18 r19 r20 r21 v18 r22 r23 r24 v19 h1 g0 f20 h2 g1 fn47 h3 g2 fn48) H := hP
            have hD : va_D A (wd_77d3d1bb h0 v0 h1 v1 t122 (-1) v4 r0 r1 r2 r3 r4 r5 r6 v5 v6 r7 r8 h2 h3 x46 r9 r10 v8 v9 r11 r12 v10 v11 r13 v12 v13 r14 v14 w15 r15 v16 v17 r16 r17 r18 r19 r20 r21 v18 r22 r23 r24 v19 h1 g0 f20 h2 g1 fn47 h3 g2 fn48) := hD
            refine lv_aload_n hx hb dX12_readOffice_83 rfl (lv_at hl 3 rfl) ?_
            refine lv_iload_n hx hb dX12_readOffice_84 rfl (lv_at hl 1 rfl) ?_
            refine lv_aload_n hx hb dX12_readOffice_85 rfl (lv_at hl 3 rfl) ?_
            refine va_get (D := (dC, dI)) (ci := 12) (v := .ref h2) (C := RX12) (T := TX12) (N := 48) hx hb hts (fun _ h => List.mem_cons_of_mem _ (List.mem_append_right _ h)) hown hK hP 0 rfl rfl 17 (by decide) (hts (.fieldLink RX12 40 "LeftArgumentsModel" "readRule" "[I") (List.mem_cons_of_mem _ (List.mem_append_left _ (List.mem_of_getElem? (i := 3) rfl)))) (fun _ h9 => h9) rfl dX12_readOffice_86 ?_
            refine lv_iconst (v := 0) hx hb dX12_readOffice_89 (by decide) ?_
            refine lv_iconst (v := 4) hx hb dX12_readOffice_90 (by decide) ?_
            have hPc := hP.sub (ws' := (wd_490cd7da h0 v0 h1 v1 t122 (-1) v4 r0 r1 r2 r3 r4 r5 r6 v5 v6 r7 r8 h2 h3 x46 r9 r10 v8 v9 r11 r12 v10 v11 r13 v12 v13 r14 v14 w15 r15 v16 v17 r16 r17 r18 r19 r20 r21 v18 r22 r23 r24 v19 h1 g0 f20 h2 g1 fn47)) [0, 1, 2] rfl
            have hDc := hD.sub (ws' := (wd_490cd7da h0 v0 h1 v1 t122 (-1) v4 r0 r1 r2 r3 r4 r5 r6 v5 v6 r7 r8 h2 h3 x46 r9 r10 v8 v9 r11 r12 v10 v11 r13 v12 v13 r14 v14 w15 r15 v16 v17 r16 r17 r18 r19 r20 r21 v18 r22 r23 r24 v19 h1 g0 f20 h2 g1 fn47)) [0, 1, 2] (by decide) rfl
            have hKc := hK.sub (tys' := [(g0, .int), (g1, .int)]) [0, 1] rfl
            have hFc := va_free (wc := (wd_490cd7da h0 v0 h1 v1 t122 (-1) v4 r0 r1 r2 r3 r4 r5 r6 v5 v6 r7 r8 h2 h3 x46 r9 r10 v8 v9 r11 r12 v10 v11 r13 v12 v13 r14 v14 w15 r15 v16 v17 r16 r17 r18 r19 r20 r21 v18 r22 r23 r24 v19 h1 g0 f20 h2 g1 fn47)) hD hS hA [0, 1, 2] rfl
            refine va_callv (va_runV (As := [.int 115, .ref h2, .int 0, .int 4]) (rest := []) ⟨hx, hb, hml, hown, hts⟩ (k_X12_items_1 l dC dI h0 h1 h2 v0 v1 t122 v4 r0 r1 r2 r3 r4 r5 r6 v5 v6 r7 r8 h3 x46 r9 r10 v8 v9 r11 r12 v10 v11 r13 v12 v13 r14 v14 w15 r15 v16 v17 r16 r17 r18 r19 r20 r21 v18 r22 r23 r24 v19 g0 f20 g1 fn47 ⟨i_v1a, i_v1b⟩ ⟨by first | omega | decide, by first | omega | decide⟩ ⟨i_v5a, i_v5b⟩ ⟨i_v6a, i_v6b⟩ ⟨qa_x46, qb_x46⟩ ⟨i_v8a, i_v8b⟩ ⟨i_v9a, i_v9b⟩ ⟨i_v10a, i_v10b⟩ ⟨i_v14a, i_v14b⟩ ⟨i_v18a, i_v18b⟩ ⟨i_v19a, i_v19b⟩ ia_f20 H.size) (cwV 4 hts g_X12_readOffice_19 rfl rfl rfl (by decide +kernel) ⟨Nat.le_of_ble_eq_true rfl, Nat.le_of_ble_eq_true rfl⟩) (pv_PV12 hPc hKc hDc (q0 := 0) rfl) rfl rfl hl.1 rfl (lv_room (Nat.le_of_ble_eq_true rfl)) dX12_readOffice_91 ⟨Nat.le_of_ble_eq_true rfl, Nat.le_of_ble_eq_true rfl⟩) hS (fun q _ h => hFc q h) hFc (fun u t H1 locs ht hvm hwra123 hB hz1 hk1 hS => ?_)
            rcases hB with hB | hB
            · skip
              obtain ⟨x124, fn125, oa_x124, ob_x124, pt0_ra123, pt1_ra123, pt2_ra123, hP1, hK1, hD1⟩ := hB
              rw [ht] at hP1
              obtain ⟨hP2, hD2⟩ := va_join (wr := (wd_aad598ec h3 g2 fn48)) (w1 := (wd_490cd7da h0 v0 h1 v1 x124 (-1) v4 r0 r1 r2 r3 r4 r5 r6 v5 v6 r7 r8 h2 h3 x46 r9 r10 v8 v9 r11 r12 v10 v11 r13 v12 v13 r14 v14 w15 r15 v16 v17 r16 r17 r18 r19 r20 r21 v18 r22 r23 r24 v19 h1 g0 f20 h2 g1 fn125)) hP hD [0, 1, 2] [3] rfl rfl (by decide) (by decide) hk1 hFc hP1 hD1
              clear hP hD hPc hDc hKc hFc hP1 hK1 hD1 hk1 hz1
              generalize H1 = H at hP2 hS ⊢
              have hP := hP2.sub (ws' := (wd_77d3d1bb h0 v0 h1 v1 x124 (-1) v4 r0 r1 r2 r3 r4 r5 r6 v5 v6 r7 r8 h2 h3 x46 r9 r10 v8 v9 r11 r12 v10 v11 r13 v12 v13 r14 v14 w15 r15 v16 v17 r16 r17 r18 r19 r20 r21 v18 r22 r23 r24 v19 h1 g0 f20 h2 g1 fn125 h3 g2 fn48)) [1, 2, 3, 0] rfl
              have hD := hD2.sub (ws' := (wd_77d3d1bb h0 v0 h1 v1 x124 (-1) v4 r0 r1 r2 r3 r4 r5 r6 v5 v6 r7 r8 h2 h3 x46 r9 r10 v8 v9 r11 r12 v10 v11 r13 v12 v13 r14 v14 w15 r15 v16 v17 r16 r17 r18 r19 r20 r21 v18 r22 r23 r24 v19 h1 g0 f20 h2 g1 fn125 h3 g2 fn48)) [1, 2, 3, 0] (by decide) rfl
              clear hP2 hD2
              refine lv_goto (tgt := 155) hx hb dX12_readOffice_94 (by decide) ?_
              refine lv_aload_n hx hb dX12_readOffice_155 rfl (lv_at hl 3 rfl) ?_
              refine va_get (D := (dC, dI)) (ci := 12) (v := .int (-1)) (C := RX12) (T := TX12) (N := 48) hx hb hts (fun _ h => List.mem_cons_of_mem _ (List.mem_append_right _ h)) hown hK hP 0 rfl rfl 4 (by decide) (hts (.fieldLink RX12 119 "LeftArgumentsModel" "wrong" "I") (List.mem_cons_of_mem _ (List.mem_append_left _ (List.mem_of_getElem? (i := 1) rfl)))) (fun _ h9 => h9) rfl dX12_readOffice_156 ?_
              refine lv_iconst (v := (-1)) hx hb dX12_readOffice_159 (by decide) ?_
              refine lv_icmp_ne (tgt := 176) hx hb dX12_readOffice_160 (by decide) (fun c => absurd (by decide) c) (fun _ => ?_)
              refine lv_aload_n hx hb dX12_readOffice_163 rfl (lv_at hl 3 rfl) ?_
              have hPc := hP.sub (ws' := (wd_f4cd022e h0 v0 h1 v1 x124 (-1) v4 r0 r1 r2 r3 r4 r5 r6 v5 v6 r7 r8 h2 h3 x46 r9 r10 v8 v9 r11 r12 v10 v11 r13 v12 v13 r14 v14 w15 r15 v16 v17 r16 r17 r18 r19 r20 r21 v18 r22 r23 r24 v19 h1 g0 f20)) [0, 1] rfl
              have hDc := hD.sub (ws' := (wd_f4cd022e h0 v0 h1 v1 x124 (-1) v4 r0 r1 r2 r3 r4 r5 r6 v5 v6 r7 r8 h2 h3 x46 r9 r10 v8 v9 r11 r12 v10 v11 r13 v12 v13 r14 v14 w15 r15 v16 v17 r16 r17 r18 r19 r20 r21 v18 r22 r23 r24 v19 h1 g0 f20)) [0, 1] (by decide) rfl
              have hKc := hK.sub (tys' := [(g0, .int)]) [0] rfl
              have hFc := va_free (wc := (wd_f4cd022e h0 v0 h1 v1 x124 (-1) v4 r0 r1 r2 r3 r4 r5 r6 v5 v6 r7 r8 h2 h3 x46 r9 r10 v8 v9 r11 r12 v10 v11 r13 v12 v13 r14 v14 w15 r15 v16 v17 r16 r17 r18 r19 r20 r21 v18 r22 r23 r24 v19 h1 g0 f20)) hD hS hA [0, 1] rfl
              refine va_calli (va_runV (As := []) (rest := []) ⟨hx, hb, hml, hown, hts⟩ (k_X12_look l dC dI h0 h1 v0 v1 x124 ((-1)) v4 r0 r1 r2 r3 r4 r5 r6 v5 v6 r7 r8 h2 h3 x46 r9 r10 v8 v9 r11 r12 v10 v11 r13 v12 v13 r14 v14 w15 r15 v16 v17 r16 r17 r18 r19 r20 r21 v18 r22 r23 r24 v19 g0 f20 ⟨i_v1a, i_v1b⟩ ⟨oa_x124, ob_x124⟩ ⟨i_v5a, i_v5b⟩ ⟨i_v6a, i_v6b⟩ ⟨qa_x46, qb_x46⟩ ⟨i_v8a, i_v8b⟩ ⟨i_v9a, i_v9b⟩ ⟨i_v10a, i_v10b⟩ ⟨i_v14a, i_v14b⟩ ⟨i_v18a, i_v18b⟩ ⟨i_v19a, i_v19b⟩ ia_f20 H.size) (cwV 0 hts g_X12_readOffice_4 rfl rfl rfl (by decide +kernel) ⟨Nat.le_of_ble_eq_true rfl, Nat.le_of_ble_eq_true rfl⟩) (pv_PV12 hPc hKc hDc (q0 := 0) rfl) rfl rfl hl.1 rfl (lv_room (Nat.le_of_ble_eq_true rfl)) dX12_readOffice_164 ⟨Nat.le_of_ble_eq_true rfl, Nat.le_of_ble_eq_true rfl⟩) hS (fun q _ h => hFc q h) hFc (fun ra126 u t H1 locs ht hvm hwra126 hB hz1 hk1 hS => ?_)
              try rw [hwra126] at hB
              have hkra126_0 : (((-1) : Int32)).toInt = -1 := by decide
              rcases hB with hB | hB
              · skip
                obtain ⟨x127, oa_x127, ob_x127, pt0_ra126, pt1_ra126, pt2_ra126, pt3_ra126, pt4_ra126, pt5_ra126, pt6_ra126, hP1, hK1, hD1⟩ := hB
                rw [ht] at hP1
                obtain ⟨hP2, hD2⟩ := va_join (wr := (wd_5ef8c86c h2 g1 fn125 h3 g2 fn48)) (w1 := (wd_f4cd022e h0 v0 h1 v1 x127 (-1) v4 r0 r1 r2 r3 r4 r5 r6 v5 v6 r7 r8 h2 h3 x46 r9 r10 v8 v9 r11 r12 v10 v11 r13 v12 v13 r14 v14 w15 r15 v16 v17 r16 r17 r18 r19 r20 r21 v18 r22 r23 r24 v19 h1 g0 f20)) hP hD [0, 1] [2, 3] rfl rfl (by decide) (by decide) hk1 hFc hP1 hD1
                clear hP hD hPc hDc hKc hFc hP1 hK1 hD1 hk1 hz1
                generalize H1 = H at hP2 hS ⊢
                have hP := hP2.sub (ws' := (wd_77d3d1bb h0 v0 h1 v1 x127 (-1) v4 r0 r1 r2 r3 r4 r5 r6 v5 v6 r7 r8 h2 h3 x46 r9 r10 v8 v9 r11 r12 v10 v11 r13 v12 v13 r14 v14 w15 r15 v16 v17 r16 r17 r18 r19 r20 r21 v18 r22 r23 r24 v19 h1 g0 f20 h2 g1 fn125 h3 g2 fn48)) [2, 3, 0, 1] rfl
                have hD := hD2.sub (ws' := (wd_77d3d1bb h0 v0 h1 v1 x127 (-1) v4 r0 r1 r2 r3 r4 r5 r6 v5 v6 r7 r8 h2 h3 x46 r9 r10 v8 v9 r11 r12 v10 v11 r13 v12 v13 r14 v14 w15 r15 v16 v17 r16 r17 r18 r19 r20 r21 v18 r22 r23 r24 v19 h1 g0 f20 h2 g1 fn125 h3 g2 fn48)) [2, 3, 0, 1] (by decide) rfl
                clear hP2 hD2
                obtain rfl : ra126 = ((-1) : Int32) := pv_cs (by decide) pt0_ra126 pt1_ra126
                refine lv_bipush (v := 59) hx hb dX12_readOffice_167 (by decide) ?_
                refine lv_icmp_ne (tgt := 176) hx hb dX12_readOffice_169 (by decide) (fun _ => ?_) (fun c => absurd c (by decide))
                refine lv_iconst (v := 0) hx hb dX12_readOffice_176 (by decide) ?_
                refine lv_istore_n (lv' := [(2, .int 0), (1, .int 1), (3, .int 115), (0, .ref h0)]) hx hb dX12_readOffice_177 rfl hl (by decide) rfl (fun ls hl => ?_)
                refine lv_aload_n hx hb dX12_readOffice_178 rfl (lv_at hl 3 rfl) ?_
                refine lv_dup hx hb dX12_readOffice_179 rfl ?_
                refine va_get (D := (dC, dI)) (ci := 12) (v := .int x127) (C := RX12) (T := TX12) (N := 48) hx hb hts (fun _ h => List.mem_cons_of_mem _ (List.mem_append_right _ h)) hown hK hP 0 rfl rfl 3 (by decide) (hts (.fieldLink RX12 112 "LeftArgumentsModel" "at" "I") (List.mem_cons_of_mem _ (List.mem_append_left _ (List.mem_of_getElem? (i := 0) rfl)))) (fun _ h9 => h9) rfl dX12_readOffice_180 ?_
                refine lv_iload_n hx hb dX12_readOffice_183 rfl (lv_at hl 0 rfl) ?_
                refine lv_if_eq (tgt := 191) hx hb dX12_readOffice_184 (by decide) (fun _ => ?_) (fun c => absurd (by decide) c)
                refine lv_iconst (v := 0) hx hb dX12_readOffice_191 (by decide) ?_
                refine lv_iadd hx hb dX12_readOffice_192 ?_
                refine lv_topi (fun t128 et128 => ?_)
                have gt128 : t128.toInt = x127.toInt + 0 := pv_add (a := x127.toInt) (b := 0) et128 rfl (by decide) (by omega) (by omega)
                obtain rfl : x127 = t128 := Int32.toInt_inj.mp (by omega)
                refine va_put (D := (dC, dI)) (ci := 12) (v := .int x127) (ty := .int) (C := RX12) (T := TX12) (N := 48) hx hb hts (fun _ h => List.mem_cons_of_mem _ (List.mem_append_right _ h)) tyX12 tyX12_ok nmX12 hown hK hP hD hS 0 rfl rfl 3 (by decide) (hts (.fieldLink RX12 112 "LeftArgumentsModel" "at" "I") (List.mem_cons_of_mem _ (List.mem_append_left _ (List.mem_of_getElem? (i := 0) rfl)))) (fun _ h9 => h9) rfl (by decide +kernel) rfl rfl (Nat.le_of_ble_eq_true rfl) dX12_readOffice_193 (fun H locs hP hD hS => ?_)
                have hP : va_P (dC, dI) vwCl (wd_77d3d1bb h0 v0 h1 v1 x127 (-1) v4 r0 r1 r2 r3 r4 r5 r6 v5 v6 r7 r8 h2 h3 x46 r9 r10 v8 v9 r11 r12 v10 v11 r13 v12 v13 r14 v14 w15 r15 v16 v17 r16 r17 r18 r19 r20 r21 v18 r22 r23 r24 v19 h1 g0 f20 h2 g1 fn125 h3 g2 fn48) H := hP
                have hD : va_D A (wd_77d3d1bb h0 v0 h1 v1 x127 (-1) v4 r0 r1 r2 r3 r4 r5 r6 v5 v6 r7 r8 h2 h3 x46 r9 r10 v8 v9 r11 r12 v10 v11 r13 v12 v13 r14 v14 w15 r15 v16 v17 r16 r17 r18 r19 r20 r21 v18 r22 r23 r24 v19 h1 g0 f20 h2 g1 fn125 h3 g2 fn48) := hD
                refine lv_goto (tgt := 44) hx hb dX12_readOffice_196 (by decide) ?_
                refine lv_iload_n hx hb dX12_readOffice_44 rfl (lv_at hl 0 rfl) ?_
                refine lv_if_eq (tgt := 199) hx hb dX12_readOffice_45 (by decide) (fun _ => ?_) (fun c => absurd (by decide) c)
                refine lv_aload_n hx hb dX12_readOffice_199 rfl (lv_at hl 3 rfl) ?_
                refine va_get (D := (dC, dI)) (ci := 12) (v := .int (-1)) (C := RX12) (T := TX12) (N := 48) hx hb hts (fun _ h => List.mem_cons_of_mem _ (List.mem_append_right _ h)) hown hK hP 0 rfl rfl 4 (by decide) (hts (.fieldLink RX12 119 "LeftArgumentsModel" "wrong" "I") (List.mem_cons_of_mem _ (List.mem_append_left _ (List.mem_of_getElem? (i := 1) rfl)))) (fun _ h9 => h9) rfl dX12_readOffice_200 ?_
                refine lv_iconst (v := (-1)) hx hb dX12_readOffice_203 (by decide) ?_
                refine lv_icmp_ne (tgt := 226) hx hb dX12_readOffice_204 (by decide) (fun c => absurd (by decide) c) (fun _ => ?_)
                refine lv_aload_n hx hb dX12_readOffice_207 rfl (lv_at hl 3 rfl) ?_
                have hPc := hP.sub (ws' := (wd_f4cd022e h0 v0 h1 v1 x127 (-1) v4 r0 r1 r2 r3 r4 r5 r6 v5 v6 r7 r8 h2 h3 x46 r9 r10 v8 v9 r11 r12 v10 v11 r13 v12 v13 r14 v14 w15 r15 v16 v17 r16 r17 r18 r19 r20 r21 v18 r22 r23 r24 v19 h1 g0 f20)) [0, 1] rfl
                have hDc := hD.sub (ws' := (wd_f4cd022e h0 v0 h1 v1 x127 (-1) v4 r0 r1 r2 r3 r4 r5 r6 v5 v6 r7 r8 h2 h3 x46 r9 r10 v8 v9 r11 r12 v10 v11 r13 v12 v13 r14 v14 w15 r15 v16 v17 r16 r17 r18 r19 r20 r21 v18 r22 r23 r24 v19 h1 g0 f20)) [0, 1] (by decide) rfl
                have hKc := hK.sub (tys' := [(g0, .int)]) [0] rfl
                have hFc := va_free (wc := (wd_f4cd022e h0 v0 h1 v1 x127 (-1) v4 r0 r1 r2 r3 r4 r5 r6 v5 v6 r7 r8 h2 h3 x46 r9 r10 v8 v9 r11 r12 v10 v11 r13 v12 v13 r14 v14 w15 r15 v16 v17 r16 r17 r18 r19 r20 r21 v18 r22 r23 r24 v19 h1 g0 f20)) hD hS hA [0, 1] rfl
                refine va_calli (va_runV (As := []) (rest := []) ⟨hx, hb, hml, hown, hts⟩ (k_X12_look l dC dI h0 h1 v0 v1 x127 ((-1)) v4 r0 r1 r2 r3 r4 r5 r6 v5 v6 r7 r8 h2 h3 x46 r9 r10 v8 v9 r11 r12 v10 v11 r13 v12 v13 r14 v14 w15 r15 v16 v17 r16 r17 r18 r19 r20 r21 v18 r22 r23 r24 v19 g0 f20 ⟨i_v1a, i_v1b⟩ ⟨oa_x127, ob_x127⟩ ⟨i_v5a, i_v5b⟩ ⟨i_v6a, i_v6b⟩ ⟨qa_x46, qb_x46⟩ ⟨i_v8a, i_v8b⟩ ⟨i_v9a, i_v9b⟩ ⟨i_v10a, i_v10b⟩ ⟨i_v14a, i_v14b⟩ ⟨i_v18a, i_v18b⟩ ⟨i_v19a, i_v19b⟩ ia_f20 H.size) (cwV 0 hts g_X12_readOffice_4 rfl rfl rfl (by decide +kernel) ⟨Nat.le_of_ble_eq_true rfl, Nat.le_of_ble_eq_true rfl⟩) (pv_PV12 hPc hKc hDc (q0 := 0) rfl) rfl rfl hl.1 rfl (lv_room (Nat.le_of_ble_eq_true rfl)) dX12_readOffice_208 ⟨Nat.le_of_ble_eq_true rfl, Nat.le_of_ble_eq_true rfl⟩) hS (fun q _ h => hFc q h) hFc (fun ra129 u t H1 locs ht hvm hwra129 hB hz1 hk1 hS => ?_)
                try rw [hwra129] at hB
                have hkra129_0 : (((-1) : Int32)).toInt = -1 := by decide
                rcases hB with hB | hB
                · skip
                  obtain ⟨x130, oa_x130, ob_x130, pt0_ra129, pt1_ra129, pt2_ra129, pt3_ra129, pt4_ra129, pt5_ra129, pt6_ra129, hP1, hK1, hD1⟩ := hB
                  rw [ht] at hP1
                  obtain ⟨hP2, hD2⟩ := va_join (wr := (wd_5ef8c86c h2 g1 fn125 h3 g2 fn48)) (w1 := (wd_f4cd022e h0 v0 h1 v1 x130 (-1) v4 r0 r1 r2 r3 r4 r5 r6 v5 v6 r7 r8 h2 h3 x46 r9 r10 v8 v9 r11 r12 v10 v11 r13 v12 v13 r14 v14 w15 r15 v16 v17 r16 r17 r18 r19 r20 r21 v18 r22 r23 r24 v19 h1 g0 f20)) hP hD [0, 1] [2, 3] rfl rfl (by decide) (by decide) hk1 hFc hP1 hD1
                  clear hP hD hPc hDc hKc hFc hP1 hK1 hD1 hk1 hz1
                  generalize H1 = H at hP2 hS ⊢
                  have hP := hP2.sub (ws' := (wd_77d3d1bb h0 v0 h1 v1 x130 (-1) v4 r0 r1 r2 r3 r4 r5 r6 v5 v6 r7 r8 h2 h3 x46 r9 r10 v8 v9 r11 r12 v10 v11 r13 v12 v13 r14 v14 w15 r15 v16 v17 r16 r17 r18 r19 r20 r21 v18 r22 r23 r24 v19 h1 g0 f20 h2 g1 fn125 h3 g2 fn48)) [2, 3, 0, 1] rfl
                  have hD := hD2.sub (ws' := (wd_77d3d1bb h0 v0 h1 v1 x130 (-1) v4 r0 r1 r2 r3 r4 r5 r6 v5 v6 r7 r8 h2 h3 x46 r9 r10 v8 v9 r11 r12 v10 v11 r13 v12 v13 r14 v14 w15 r15 v16 v17 r16 r17 r18 r19 r20 r21 v18 r22 r23 r24 v19 h1 g0 f20 h2 g1 fn125 h3 g2 fn48)) [2, 3, 0, 1] (by decide) rfl
                  clear hP2 hD2
                  obtain rfl : ra129 = ((-1) : Int32) := pv_cs (by decide) pt0_ra129 pt1_ra129
                  have hsh : pg_s f20 v1.toInt x127.toInt = x127.toInt := pg_s.here (by assumption)
                  obtain rfl : x127 = x130 := Int32.toInt_inj.mp (by omega)
                  have hP : va_P (dC, dI) vwCl (wd_77d3d1bb h0 v0 h1 v1 x127 (-1) v4 r0 r1 r2 r3 r4 r5 r6 v5 v6 r7 r8 h2 h3 x46 r9 r10 v8 v9 r11 r12 v10 v11 r13 v12 v13 r14 v14 w15 r15 v16 v17 r16 r17 r18 r19 r20 r21 v18 r22 r23 r24 v19 h1 g0 f20 h2 g1 fn125 h3 g2 fn48) H := hP
                  have hD : va_D A (wd_77d3d1bb h0 v0 h1 v1 x127 (-1) v4 r0 r1 r2 r3 r4 r5 r6 v5 v6 r7 r8 h2 h3 x46 r9 r10 v8 v9 r11 r12 v10 v11 r13 v12 v13 r14 v14 w15 r15 v16 v17 r16 r17 r18 r19 r20 r21 v18 r22 r23 r24 v19 h1 g0 f20 h2 g1 fn125 h3 g2 fn48) := hD
                  refine lv_iconst (v := (-1)) hx hb dX12_readOffice_211 (by decide) ?_
                  refine lv_icmp_ne (tgt := 222) hx hb dX12_readOffice_212 (by decide) (fun c => absurd (by decide) c) (fun _ => ?_)
                  refine lv_aload_n hx hb dX12_readOffice_215 rfl (lv_at hl 3 rfl) ?_
                  have hPc := hP.sub (ws' := (wd_4d81ce87 h0 v0 h1 v1 x127 (-1) v4 r0 r1 r2 r3 r4 r5 r6 v5 v6 r7 r8 h2 h3 x46 r9 r10 v8 v9 r11 r12 v10 v11 r13 v12 v13 r14 v14 w15 r15 v16 v17 r16 r17 r18 r19 r20 r21 v18 r22 r23 r24 v19 h2 g1 fn125 h3 g2 fn48)) [0, 2, 3] rfl
                  have hDc := hD.sub (ws' := (wd_4d81ce87 h0 v0 h1 v1 x127 (-1) v4 r0 r1 r2 r3 r4 r5 r6 v5 v6 r7 r8 h2 h3 x46 r9 r10 v8 v9 r11 r12 v10 v11 r13 v12 v13 r14 v14 w15 r15 v16 v17 r16 r17 r18 r19 r20 r21 v18 r22 r23 r24 v19 h2 g1 fn125 h3 g2 fn48)) [0, 2, 3] (by decide) rfl
                  have hKc := hK.sub (tys' := [(g1, .int), (g2, .int)]) [1, 2] rfl
                  have hFc := va_free (wc := (wd_4d81ce87 h0 v0 h1 v1 x127 (-1) v4 r0 r1 r2 r3 r4 r5 r6 v5 v6 r7 r8 h2 h3 x46 r9 r10 v8 v9 r11 r12 v10 v11 r13 v12 v13 r14 v14 w15 r15 v16 v17 r16 r17 r18 r19 r20 r21 v18 r22 r23 r24 v19 h2 g1 fn125 h3 g2 fn48)) hD hS hA [0, 2, 3] rfl
                  refine va_calli (va_runV (As := []) (rest := []) ⟨hx, hb, hml, hown, hts⟩ (k_X12_isWhole l dC dI h0 h2 h3 v0 h1 v1 x127 ((-1)) v4 r0 r1 r2 r3 r4 r5 r6 v5 v6 r7 r8 x46 r9 r10 v8 v9 r11 r12 v10 v11 r13 v12 v13 r14 v14 w15 r15 v16 v17 r16 r17 r18 r19 r20 r21 v18 r22 r23 r24 v19 g1 fn125 g2 fn48 ⟨i_v1a, i_v1b⟩ ⟨i_v5a, i_v5b⟩ ⟨i_v6a, i_v6b⟩ ⟨qa_x46, qb_x46⟩ ⟨i_v8a, i_v8b⟩ ⟨i_v9a, i_v9b⟩ ⟨i_v10a, i_v10b⟩ ⟨i_v14a, i_v14b⟩ ⟨i_v18a, i_v18b⟩ ⟨i_v19a, i_v19b⟩ H.size) (cwV 0 hts g_X12_readOffice_11 rfl rfl rfl (by decide +kernel) ⟨Nat.le_of_ble_eq_true rfl, Nat.le_of_ble_eq_true rfl⟩) (pv_PV12 hPc hKc hDc (q0 := 0) rfl) rfl rfl hl.1 rfl (lv_room (Nat.le_of_ble_eq_true rfl)) dX12_readOffice_216 ⟨Nat.le_of_ble_eq_true rfl, Nat.le_of_ble_eq_true rfl⟩) hS (fun q _ h => hFc q h) hFc (fun ra131 u t H1 locs ht hvm hwra131 hB hz1 hk1 hS => ?_)
                  try rw [hwra131] at hB
                  have hkra131_0 : (((-1) : Int32)).toInt = -1 := by decide
                  obtain ⟨pt0_ra131, pt1_ra131, pt2_ra131, hP1, hK1, hD1⟩ := hB
                  rw [ht] at hP1
                  obtain ⟨hP2, hD2⟩ := va_join (wr := (wd_d0032b31 h1 g0 f20)) (w1 := (wd_4d81ce87 h0 v0 h1 v1 x127 (-1) v4 r0 r1 r2 r3 r4 r5 r6 v5 v6 r7 r8 h2 h3 x46 r9 r10 v8 v9 r11 r12 v10 v11 r13 v12 v13 r14 v14 w15 r15 v16 v17 r16 r17 r18 r19 r20 r21 v18 r22 r23 r24 v19 h2 g1 fn125 h3 g2 fn48)) hP hD [0, 2, 3] [1] rfl rfl (by decide) (by decide) hk1 hFc hP1 hD1
                  clear hP hD hPc hDc hKc hFc hP1 hK1 hD1 hk1 hz1
                  generalize H1 = H at hP2 hS ⊢
                  have hP := hP2.sub (ws' := (wd_77d3d1bb h0 v0 h1 v1 x127 (-1) v4 r0 r1 r2 r3 r4 r5 r6 v5 v6 r7 r8 h2 h3 x46 r9 r10 v8 v9 r11 r12 v10 v11 r13 v12 v13 r14 v14 w15 r15 v16 v17 r16 r17 r18 r19 r20 r21 v18 r22 r23 r24 v19 h1 g0 f20 h2 g1 fn125 h3 g2 fn48)) [1, 0, 2, 3] rfl
                  have hD := hD2.sub (ws' := (wd_77d3d1bb h0 v0 h1 v1 x127 (-1) v4 r0 r1 r2 r3 r4 r5 r6 v5 v6 r7 r8 h2 h3 x46 r9 r10 v8 v9 r11 r12 v10 v11 r13 v12 v13 r14 v14 w15 r15 v16 v17 r16 r17 r18 r19 r20 r21 v18 r22 r23 r24 v19 h1 g0 f20 h2 g1 fn125 h3 g2 fn48)) [1, 0, 2, 3] (by decide) rfl
                  clear hP2 hD2
                  have hw1ra131 : ra131.toInt = 1 → pg_wh x46.toInt fn125 fn48 = true := fun h9 => by rcases pt2_ra131 with h8 | h8; exact h8.2; exfalso; omega
                  have hw0ra131 : ra131.toInt = 0 → pg_wh x46.toInt fn125 fn48 = false := fun h9 => by rcases pt2_ra131 with h8 | h8; exfalso; omega; exact h8.2
                  refine lv_if_ne (tgt := 226) hx hb dX12_readOffice_219 (by decide) (fun c132 => ?_) (fun c132 => ?_)
                  · skip
                    have fc132 : ¬ (ra131.toInt = 0) := fun h9 => c132 (Int32.toInt_inj.mp h9)
                    have q1hw1ra131 := hw1ra131 (by omega)
                    refine lv_aload_n hx hb dX12_readOffice_226 rfl (lv_at hl 3 rfl) ?_
                    refine va_get (D := (dC, dI)) (ci := 12) (v := .int (-1)) (C := RX12) (T := TX12) (N := 48) hx hb hts (fun _ h => List.mem_cons_of_mem _ (List.mem_append_right _ h)) hown hK hP 0 rfl rfl 4 (by decide) (hts (.fieldLink RX12 119 "LeftArgumentsModel" "wrong" "I") (List.mem_cons_of_mem _ (List.mem_append_left _ (List.mem_of_getElem? (i := 1) rfl)))) (fun _ h9 => h9) rfl dX12_readOffice_227 ?_
                    subst hQ
                    have hP9 := hP.sub (ws' := (wd_77d3d1bb h0 v0 h1 v1 x127 (-1) v4 r0 r1 r2 r3 r4 r5 r6 v5 v6 r7 r8 h2 h3 x46 r9 r10 v8 v9 r11 r12 v10 v11 r13 v12 v13 r14 v14 w15 r15 v16 v17 r16 r17 r18 r19 r20 r21 v18 r22 r23 r24 v19 h1 g0 f20 h2 g1 fn125 h3 g2 fn48)) [0, 1, 2, 3] rfl
                    have hD9 := hD.sub (ws' := (wd_77d3d1bb h0 v0 h1 v1 x127 (-1) v4 r0 r1 r2 r3 r4 r5 r6 v5 v6 r7 r8 h2 h3 x46 r9 r10 v8 v9 r11 r12 v10 v11 r13 v12 v13 r14 v14 w15 r15 v16 v17 r16 r17 r18 r19 r20 r21 v18 r22 r23 r24 v19 h1 g0 f20 h2 g1 fn125 h3 g2 fn48)) [0, 1, 2, 3] (by decide) rfl
                    have hK9 := hK.sub (tys' := []) [] rfl
                    exact W.iret (v := (-1)) hx hb hr (fun t ht hW => ⟨⟨(-1), (-1), rfl, rfl, Or.inl ⟨x127, x46, fn125, fn48, oa_x127, ob_x127, qa_x46, qb_x46, by first | omega | decide, by first | omega | decide, by assumption, by first | assumption | (apply pm_BG.add <;> first | assumption | omega), by apply pg_office.g2 (R := f21) (B := f22) <;> first | assumption | omega | (apply pg_O.s0 <;> first | assumption | omega) | (apply pg_O.b0 <;> first | assumption | omega), by rw [ht]; exact hP9, va_K.moved hW.alike hK9, hD9⟩⟩, hS.F ht⟩) hS.2.2 dX12_readOffice_230
                  · skip
                    have fc132 : ra131.toInt = 0 := congrArg Int32.toInt c132
                    have q0hw0ra131 := hw0ra131 (by omega)
                    refine lv_aload_n hx hb dX12_readOffice_222 rfl (lv_at hl 3 rfl) ?_
                    have hPc := hP.sub (ws' := (wd_171f232f h0 v0 h1 v1 x127 (-1) v4 r0 r1 r2 r3 r4 r5 r6 v5 v6 r7 r8 h2 h3 x46 r9 r10 v8 v9 r11 r12 v10 v11 r13 v12 v13 r14 v14 w15 r15 v16 v17 r16 r17 r18 r19 r20 r21 v18 r22 r23 r24 v19)) [0] rfl
                    have hDc := hD.sub (ws' := (wd_171f232f h0 v0 h1 v1 x127 (-1) v4 r0 r1 r2 r3 r4 r5 r6 v5 v6 r7 r8 h2 h3 x46 r9 r10 v8 v9 r11 r12 v10 v11 r13 v12 v13 r14 v14 w15 r15 v16 v17 r16 r17 r18 r19 r20 r21 v18 r22 r23 r24 v19)) [0] (by decide) rfl
                    have hKc := hK.sub (tys' := []) [] rfl
                    have hFc := va_free (wc := (wd_171f232f h0 v0 h1 v1 x127 (-1) v4 r0 r1 r2 r3 r4 r5 r6 v5 v6 r7 r8 h2 h3 x46 r9 r10 v8 v9 r11 r12 v10 v11 r13 v12 v13 r14 v14 w15 r15 v16 v17 r16 r17 r18 r19 r20 r21 v18 r22 r23 r24 v19)) hD hS hA [0] rfl
                    refine va_callv (va_runV (As := []) (rest := []) ⟨hx, hb, hml, hown, hts⟩ (k_X12_bad l dC dI h0 v0 h1 v1 x127 v4 r0 r1 r2 r3 r4 r5 r6 v5 v6 r7 r8 h2 h3 x46 r9 r10 v8 v9 r11 r12 v10 v11 r13 v12 v13 r14 v14 w15 r15 v16 v17 r16 r17 r18 r19 r20 r21 v18 r22 r23 r24 v19 ⟨i_v1a, i_v1b⟩ ⟨oa_x127, ob_x127⟩ ⟨i_v5a, i_v5b⟩ ⟨i_v6a, i_v6b⟩ ⟨qa_x46, qb_x46⟩ ⟨i_v8a, i_v8b⟩ ⟨i_v9a, i_v9b⟩ ⟨i_v10a, i_v10b⟩ ⟨i_v14a, i_v14b⟩ ⟨i_v18a, i_v18b⟩ ⟨i_v19a, i_v19b⟩ H.size) (cwV 0 hts g_X12_readOffice_5 rfl rfl rfl (by decide +kernel) ⟨Nat.le_of_ble_eq_true rfl, Nat.le_of_ble_eq_true rfl⟩) (pv_PV12 hPc hKc hDc (q0 := 0) rfl) rfl rfl hl.1 rfl (lv_room (Nat.le_of_ble_eq_true rfl)) dX12_readOffice_223 ⟨Nat.le_of_ble_eq_true rfl, Nat.le_of_ble_eq_true rfl⟩) hS (fun q _ h => hFc q h) hFc (fun u t H1 locs ht hvm hwra133 hB hz1 hk1 hS => ?_)
                    obtain ⟨x134, oa_x134, ob_x134, pt0_ra133, hP1, hK1, hD1⟩ := hB
                    rw [ht] at hP1
                    obtain ⟨hP2, hD2⟩ := va_join (wr := (wd_bcaf9cf2 h1 g0 f20 h2 g1 fn125 h3 g2 fn48)) (w1 := (wd_171f232f h0 v0 h1 v1 x127 x134 v4 r0 r1 r2 r3 r4 r5 r6 v5 v6 r7 r8 h2 h3 x46 r9 r10 v8 v9 r11 r12 v10 v11 r13 v12 v13 r14 v14 w15 r15 v16 v17 r16 r17 r18 r19 r20 r21 v18 r22 r23 r24 v19)) hP hD [0] [1, 2, 3] rfl rfl (by decide) (by decide) hk1 hFc hP1 hD1
                    clear hP hD hPc hDc hKc hFc hP1 hK1 hD1 hk1 hz1
                    generalize H1 = H at hP2 hS ⊢
                    have hP := hP2.sub (ws' := (wd_77d3d1bb h0 v0 h1 v1 x127 x134 v4 r0 r1 r2 r3 r4 r5 r6 v5 v6 r7 r8 h2 h3 x46 r9 r10 v8 v9 r11 r12 v10 v11 r13 v12 v13 r14 v14 w15 r15 v16 v17 r16 r17 r18 r19 r20 r21 v18 r22 r23 r24 v19 h1 g0 f20 h2 g1 fn125 h3 g2 fn48)) [3, 0, 1, 2] rfl
                    have hD := hD2.sub (ws' := (wd_77d3d1bb h0 v0 h1 v1 x127 x134 v4 r0 r1 r2 r3 r4 r5 r6 v5 v6 r7 r8 h2 h3 x46 r9 r10 v8 v9 r11 r12 v10 v11 r13 v12 v13 r14 v14 w15 r15 v16 v17 r16 r17 r18 r19 r20 r21 v18 r22 r23 r24 v19 h1 g0 f20 h2 g1 fn125 h3 g2 fn48)) [3, 0, 1, 2] (by decide) rfl
                    clear hP2 hD2
                    refine lv_aload_n hx hb dX12_readOffice_226 rfl (lv_at hl 3 rfl) ?_
                    refine va_get (D := (dC, dI)) (ci := 12) (v := .int x134) (C := RX12) (T := TX12) (N := 48) hx hb hts (fun _ h => List.mem_cons_of_mem _ (List.mem_append_right _ h)) hown hK hP 0 rfl rfl 4 (by decide) (hts (.fieldLink RX12 119 "LeftArgumentsModel" "wrong" "I") (List.mem_cons_of_mem _ (List.mem_append_left _ (List.mem_of_getElem? (i := 1) rfl)))) (fun _ h9 => h9) rfl dX12_readOffice_227 ?_
                    subst hQ
                    have hP9 := hP.sub (ws' := (wd_77d3d1bb h0 v0 h1 v1 x127 x134 v4 r0 r1 r2 r3 r4 r5 r6 v5 v6 r7 r8 h2 h3 x46 r9 r10 v8 v9 r11 r12 v10 v11 r13 v12 v13 r14 v14 w15 r15 v16 v17 r16 r17 r18 r19 r20 r21 v18 r22 r23 r24 v19 h1 g0 f20 h2 g1 fn125 h3 g2 fn48)) [0, 1, 2, 3] rfl
                    have hD9 := hD.sub (ws' := (wd_77d3d1bb h0 v0 h1 v1 x127 x134 v4 r0 r1 r2 r3 r4 r5 r6 v5 v6 r7 r8 h2 h3 x46 r9 r10 v8 v9 r11 r12 v10 v11 r13 v12 v13 r14 v14 w15 r15 v16 v17 r16 r17 r18 r19 r20 r21 v18 r22 r23 r24 v19 h1 g0 f20 h2 g1 fn125 h3 g2 fn48)) [0, 1, 2, 3] (by decide) rfl
                    have hK9 := hK.sub (tys' := []) [] rfl
                    exact W.iret (v := x134) hx hb hr (fun t ht hW => ⟨⟨x134, x134, rfl, rfl, Or.inr (⟨x127, x134, x46, fn125, fn48, oa_x127, ob_x127, oa_x134, ob_x134, qa_x46, qb_x46, by first | omega | decide, by first | omega | decide, by first | (apply pg_office.b0 (R := f21) (B := f22) <;> first | assumption | omega | (apply pg_O.sf <;> first | assumption | omega) | (apply pg_O.bf <;> first | assumption | omega) | (apply pg_O.w <;> first | assumption | omega)) | (apply pg_office.b1 (R := f21) (B := f22) <;> first | assumption | omega | (apply pg_O.s0 <;> first | assumption | omega) | (apply pg_O.b0 <;> first | assumption | omega)) | (apply pg_office.b2 (R := f21) (B := f22) <;> first | assumption | omega | (apply pg_O.s0 <;> first | assumption | omega) | (apply pg_O.b0 <;> first | assumption | omega) | (apply pg_items.pn <;> first | assumption | omega)), by omega, by rw [ht]; exact hP9, va_K.moved hW.alike hK9, hD9⟩)⟩, hS.F ht⟩) hS.2.2 dX12_readOffice_230
                · skip
                  obtain ⟨x135, oa_x135, ob_x135, pt0_ra129, pt1_ra129, pt2_ra129, pt3_ra129, pt4_ra129, pt5_ra129, pt6_ra129, pt7_ra129, hP1, hK1, hD1⟩ := hB
                  rw [ht] at hP1
                  obtain ⟨hP2, hD2⟩ := va_join (wr := (wd_5ef8c86c h2 g1 fn125 h3 g2 fn48)) (w1 := (wd_f4cd022e h0 v0 h1 v1 x135 (-1) v4 r0 r1 r2 r3 r4 r5 r6 v5 v6 r7 r8 h2 h3 x46 r9 r10 v8 v9 r11 r12 v10 v11 r13 v12 v13 r14 v14 w15 r15 v16 v17 r16 r17 r18 r19 r20 r21 v18 r22 r23 r24 v19 h1 g0 f20)) hP hD [0, 1] [2, 3] rfl rfl (by decide) (by decide) hk1 hFc hP1 hD1
                  clear hP hD hPc hDc hKc hFc hP1 hK1 hD1 hk1 hz1
                  generalize H1 = H at hP2 hS ⊢
                  have hP := hP2.sub (ws' := (wd_77d3d1bb h0 v0 h1 v1 x135 (-1) v4 r0 r1 r2 r3 r4 r5 r6 v5 v6 r7 r8 h2 h3 x46 r9 r10 v8 v9 r11 r12 v10 v11 r13 v12 v13 r14 v14 w15 r15 v16 v17 r16 r17 r18 r19 r20 r21 v18 r22 r23 r24 v19 h1 g0 f20 h2 g1 fn125 h3 g2 fn48)) [2, 3, 0, 1] rfl
                  have hD := hD2.sub (ws' := (wd_77d3d1bb h0 v0 h1 v1 x135 (-1) v4 r0 r1 r2 r3 r4 r5 r6 v5 v6 r7 r8 h2 h3 x46 r9 r10 v8 v9 r11 r12 v10 v11 r13 v12 v13 r14 v14 w15 r15 v16 v17 r16 r17 r18 r19 r20 r21 v18 r22 r23 r24 v19 h1 g0 f20 h2 g1 fn125 h3 g2 fn48)) [2, 3, 0, 1] (by decide) rfl
                  clear hP2 hD2
                  have hsh : pg_s f20 v1.toInt x127.toInt = x127.toInt := pg_s.here (by assumption)
                  obtain rfl : x127 = x135 := Int32.toInt_inj.mp (by omega)
                  have hP : va_P (dC, dI) vwCl (wd_77d3d1bb h0 v0 h1 v1 x127 (-1) v4 r0 r1 r2 r3 r4 r5 r6 v5 v6 r7 r8 h2 h3 x46 r9 r10 v8 v9 r11 r12 v10 v11 r13 v12 v13 r14 v14 w15 r15 v16 v17 r16 r17 r18 r19 r20 r21 v18 r22 r23 r24 v19 h1 g0 f20 h2 g1 fn125 h3 g2 fn48) H := hP
                  have hD : va_D A (wd_77d3d1bb h0 v0 h1 v1 x127 (-1) v4 r0 r1 r2 r3 r4 r5 r6 v5 v6 r7 r8 h2 h3 x46 r9 r10 v8 v9 r11 r12 v10 v11 r13 v12 v13 r14 v14 w15 r15 v16 v17 r16 r17 r18 r19 r20 r21 v18 r22 r23 r24 v19 h1 g0 f20 h2 g1 fn125 h3 g2 fn48) := hD
                  refine lv_iconst (v := (-1)) hx hb dX12_readOffice_211 (by decide) ?_
                  refine lv_icmp_ne (tgt := 222) hx hb dX12_readOffice_212 (by decide) (fun _ => ?_) (fun c136 => by exfalso; have fc136 : ra129.toInt = (-1) := congrArg Int32.toInt c136; omega)
                  refine lv_aload_n hx hb dX12_readOffice_222 rfl (lv_at hl 3 rfl) ?_
                  have hPc := hP.sub (ws' := (wd_171f232f h0 v0 h1 v1 x127 (-1) v4 r0 r1 r2 r3 r4 r5 r6 v5 v6 r7 r8 h2 h3 x46 r9 r10 v8 v9 r11 r12 v10 v11 r13 v12 v13 r14 v14 w15 r15 v16 v17 r16 r17 r18 r19 r20 r21 v18 r22 r23 r24 v19)) [0] rfl
                  have hDc := hD.sub (ws' := (wd_171f232f h0 v0 h1 v1 x127 (-1) v4 r0 r1 r2 r3 r4 r5 r6 v5 v6 r7 r8 h2 h3 x46 r9 r10 v8 v9 r11 r12 v10 v11 r13 v12 v13 r14 v14 w15 r15 v16 v17 r16 r17 r18 r19 r20 r21 v18 r22 r23 r24 v19)) [0] (by decide) rfl
                  have hKc := hK.sub (tys' := []) [] rfl
                  have hFc := va_free (wc := (wd_171f232f h0 v0 h1 v1 x127 (-1) v4 r0 r1 r2 r3 r4 r5 r6 v5 v6 r7 r8 h2 h3 x46 r9 r10 v8 v9 r11 r12 v10 v11 r13 v12 v13 r14 v14 w15 r15 v16 v17 r16 r17 r18 r19 r20 r21 v18 r22 r23 r24 v19)) hD hS hA [0] rfl
                  refine va_callv (va_runV (As := []) (rest := []) ⟨hx, hb, hml, hown, hts⟩ (k_X12_bad l dC dI h0 v0 h1 v1 x127 v4 r0 r1 r2 r3 r4 r5 r6 v5 v6 r7 r8 h2 h3 x46 r9 r10 v8 v9 r11 r12 v10 v11 r13 v12 v13 r14 v14 w15 r15 v16 v17 r16 r17 r18 r19 r20 r21 v18 r22 r23 r24 v19 ⟨i_v1a, i_v1b⟩ ⟨oa_x127, ob_x127⟩ ⟨i_v5a, i_v5b⟩ ⟨i_v6a, i_v6b⟩ ⟨qa_x46, qb_x46⟩ ⟨i_v8a, i_v8b⟩ ⟨i_v9a, i_v9b⟩ ⟨i_v10a, i_v10b⟩ ⟨i_v14a, i_v14b⟩ ⟨i_v18a, i_v18b⟩ ⟨i_v19a, i_v19b⟩ H.size) (cwV 0 hts g_X12_readOffice_5 rfl rfl rfl (by decide +kernel) ⟨Nat.le_of_ble_eq_true rfl, Nat.le_of_ble_eq_true rfl⟩) (pv_PV12 hPc hKc hDc (q0 := 0) rfl) rfl rfl hl.1 rfl (lv_room (Nat.le_of_ble_eq_true rfl)) dX12_readOffice_223 ⟨Nat.le_of_ble_eq_true rfl, Nat.le_of_ble_eq_true rfl⟩) hS (fun q _ h => hFc q h) hFc (fun u t H1 locs ht hvm hwra137 hB hz1 hk1 hS => ?_)
                  obtain ⟨x138, oa_x138, ob_x138, pt0_ra137, hP1, hK1, hD1⟩ := hB
                  rw [ht] at hP1
                  obtain ⟨hP2, hD2⟩ := va_join (wr := (wd_bcaf9cf2 h1 g0 f20 h2 g1 fn125 h3 g2 fn48)) (w1 := (wd_171f232f h0 v0 h1 v1 x127 x138 v4 r0 r1 r2 r3 r4 r5 r6 v5 v6 r7 r8 h2 h3 x46 r9 r10 v8 v9 r11 r12 v10 v11 r13 v12 v13 r14 v14 w15 r15 v16 v17 r16 r17 r18 r19 r20 r21 v18 r22 r23 r24 v19)) hP hD [0] [1, 2, 3] rfl rfl (by decide) (by decide) hk1 hFc hP1 hD1
                  clear hP hD hPc hDc hKc hFc hP1 hK1 hD1 hk1 hz1
                  generalize H1 = H at hP2 hS ⊢
                  have hP := hP2.sub (ws' := (wd_77d3d1bb h0 v0 h1 v1 x127 x138 v4 r0 r1 r2 r3 r4 r5 r6 v5 v6 r7 r8 h2 h3 x46 r9 r10 v8 v9 r11 r12 v10 v11 r13 v12 v13 r14 v14 w15 r15 v16 v17 r16 r17 r18 r19 r20 r21 v18 r22 r23 r24 v19 h1 g0 f20 h2 g1 fn125 h3 g2 fn48)) [3, 0, 1, 2] rfl
                  have hD := hD2.sub (ws' := (wd_77d3d1bb h0 v0 h1 v1 x127 x138 v4 r0 r1 r2 r3 r4 r5 r6 v5 v6 r7 r8 h2 h3 x46 r9 r10 v8 v9 r11 r12 v10 v11 r13 v12 v13 r14 v14 w15 r15 v16 v17 r16 r17 r18 r19 r20 r21 v18 r22 r23 r24 v19 h1 g0 f20 h2 g1 fn125 h3 g2 fn48)) [3, 0, 1, 2] (by decide) rfl
                  clear hP2 hD2
                  refine lv_aload_n hx hb dX12_readOffice_226 rfl (lv_at hl 3 rfl) ?_
                  refine va_get (D := (dC, dI)) (ci := 12) (v := .int x138) (C := RX12) (T := TX12) (N := 48) hx hb hts (fun _ h => List.mem_cons_of_mem _ (List.mem_append_right _ h)) hown hK hP 0 rfl rfl 4 (by decide) (hts (.fieldLink RX12 119 "LeftArgumentsModel" "wrong" "I") (List.mem_cons_of_mem _ (List.mem_append_left _ (List.mem_of_getElem? (i := 1) rfl)))) (fun _ h9 => h9) rfl dX12_readOffice_227 ?_
                  subst hQ
                  have hP9 := hP.sub (ws' := (wd_77d3d1bb h0 v0 h1 v1 x127 x138 v4 r0 r1 r2 r3 r4 r5 r6 v5 v6 r7 r8 h2 h3 x46 r9 r10 v8 v9 r11 r12 v10 v11 r13 v12 v13 r14 v14 w15 r15 v16 v17 r16 r17 r18 r19 r20 r21 v18 r22 r23 r24 v19 h1 g0 f20 h2 g1 fn125 h3 g2 fn48)) [0, 1, 2, 3] rfl
                  have hD9 := hD.sub (ws' := (wd_77d3d1bb h0 v0 h1 v1 x127 x138 v4 r0 r1 r2 r3 r4 r5 r6 v5 v6 r7 r8 h2 h3 x46 r9 r10 v8 v9 r11 r12 v10 v11 r13 v12 v13 r14 v14 w15 r15 v16 v17 r16 r17 r18 r19 r20 r21 v18 r22 r23 r24 v19 h1 g0 f20 h2 g1 fn125 h3 g2 fn48)) [0, 1, 2, 3] (by decide) rfl
                  have hK9 := hK.sub (tys' := []) [] rfl
                  exact W.iret (v := x138) hx hb hr (fun t ht hW => ⟨⟨x138, x138, rfl, rfl, Or.inr (⟨x127, x138, x46, fn125, fn48, oa_x127, ob_x127, oa_x138, ob_x138, qa_x46, qb_x46, by first | omega | decide, by first | omega | decide, by first | (apply pg_office.b0 (R := f21) (B := f22) <;> first | assumption | omega | (apply pg_O.sf <;> first | assumption | omega) | (apply pg_O.bf <;> first | assumption | omega) | (apply pg_O.w <;> first | assumption | omega)) | (apply pg_office.b1 (R := f21) (B := f22) <;> first | assumption | omega | (apply pg_O.s0 <;> first | assumption | omega) | (apply pg_O.b0 <;> first | assumption | omega)) | (apply pg_office.b2 (R := f21) (B := f22) <;> first | assumption | omega | (apply pg_O.s0 <;> first | assumption | omega) | (apply pg_O.b0 <;> first | assumption | omega) | (apply pg_items.pn <;> first | assumption | omega)), by omega, by rw [ht]; exact hP9, va_K.moved hW.alike hK9, hD9⟩)⟩, hS.F ht⟩) hS.2.2 dX12_readOffice_230
              · skip
                obtain ⟨x139, oa_x139, ob_x139, pt0_ra126, pt1_ra126, pt2_ra126, pt3_ra126, pt4_ra126, pt5_ra126, pt6_ra126, pt7_ra126, hP1, hK1, hD1⟩ := hB
                rw [ht] at hP1
                obtain ⟨hP2, hD2⟩ := va_join (wr := (wd_5ef8c86c h2 g1 fn125 h3 g2 fn48)) (w1 := (wd_f4cd022e h0 v0 h1 v1 x139 (-1) v4 r0 r1 r2 r3 r4 r5 r6 v5 v6 r7 r8 h2 h3 x46 r9 r10 v8 v9 r11 r12 v10 v11 r13 v12 v13 r14 v14 w15 r15 v16 v17 r16 r17 r18 r19 r20 r21 v18 r22 r23 r24 v19 h1 g0 f20)) hP hD [0, 1] [2, 3] rfl rfl (by decide) (by decide) hk1 hFc hP1 hD1
                clear hP hD hPc hDc hKc hFc hP1 hK1 hD1 hk1 hz1
                generalize H1 = H at hP2 hS ⊢
                have hP := hP2.sub (ws' := (wd_77d3d1bb h0 v0 h1 v1 x139 (-1) v4 r0 r1 r2 r3 r4 r5 r6 v5 v6 r7 r8 h2 h3 x46 r9 r10 v8 v9 r11 r12 v10 v11 r13 v12 v13 r14 v14 w15 r15 v16 v17 r16 r17 r18 r19 r20 r21 v18 r22 r23 r24 v19 h1 g0 f20 h2 g1 fn125 h3 g2 fn48)) [2, 3, 0, 1] rfl
                have hD := hD2.sub (ws' := (wd_77d3d1bb h0 v0 h1 v1 x139 (-1) v4 r0 r1 r2 r3 r4 r5 r6 v5 v6 r7 r8 h2 h3 x46 r9 r10 v8 v9 r11 r12 v10 v11 r13 v12 v13 r14 v14 w15 r15 v16 v17 r16 r17 r18 r19 r20 r21 v18 r22 r23 r24 v19 h1 g0 f20 h2 g1 fn125 h3 g2 fn48)) [2, 3, 0, 1] (by decide) rfl
                clear hP2 hD2
                refine lv_bipush (v := 59) hx hb dX12_readOffice_167 (by decide) ?_
                refine lv_icmp_ne (tgt := 176) hx hb dX12_readOffice_169 (by decide) (fun c140 => ?_) (fun c140 => ?_)
                · skip
                  have fc140 : ¬ (ra126.toInt = 59) := fun h9 => c140 (Int32.toInt_inj.mp h9)
                  refine lv_iconst (v := 0) hx hb dX12_readOffice_176 (by decide) ?_
                  refine lv_istore_n (lv' := [(2, .int 0), (1, .int 1), (3, .int 115), (0, .ref h0)]) hx hb dX12_readOffice_177 rfl hl (by decide) rfl (fun ls hl => ?_)
                  refine lv_aload_n hx hb dX12_readOffice_178 rfl (lv_at hl 3 rfl) ?_
                  refine lv_dup hx hb dX12_readOffice_179 rfl ?_
                  refine va_get (D := (dC, dI)) (ci := 12) (v := .int x139) (C := RX12) (T := TX12) (N := 48) hx hb hts (fun _ h => List.mem_cons_of_mem _ (List.mem_append_right _ h)) hown hK hP 0 rfl rfl 3 (by decide) (hts (.fieldLink RX12 112 "LeftArgumentsModel" "at" "I") (List.mem_cons_of_mem _ (List.mem_append_left _ (List.mem_of_getElem? (i := 0) rfl)))) (fun _ h9 => h9) rfl dX12_readOffice_180 ?_
                  refine lv_iload_n hx hb dX12_readOffice_183 rfl (lv_at hl 0 rfl) ?_
                  refine lv_if_eq (tgt := 191) hx hb dX12_readOffice_184 (by decide) (fun _ => ?_) (fun c => absurd (by decide) c)
                  refine lv_iconst (v := 0) hx hb dX12_readOffice_191 (by decide) ?_
                  refine lv_iadd hx hb dX12_readOffice_192 ?_
                  refine lv_topi (fun t141 et141 => ?_)
                  have gt141 : t141.toInt = x139.toInt + 0 := pv_add (a := x139.toInt) (b := 0) et141 rfl (by decide) (by omega) (by omega)
                  obtain rfl : x139 = t141 := Int32.toInt_inj.mp (by omega)
                  refine va_put (D := (dC, dI)) (ci := 12) (v := .int x139) (ty := .int) (C := RX12) (T := TX12) (N := 48) hx hb hts (fun _ h => List.mem_cons_of_mem _ (List.mem_append_right _ h)) tyX12 tyX12_ok nmX12 hown hK hP hD hS 0 rfl rfl 3 (by decide) (hts (.fieldLink RX12 112 "LeftArgumentsModel" "at" "I") (List.mem_cons_of_mem _ (List.mem_append_left _ (List.mem_of_getElem? (i := 0) rfl)))) (fun _ h9 => h9) rfl (by decide +kernel) rfl rfl (Nat.le_of_ble_eq_true rfl) dX12_readOffice_193 (fun H locs hP hD hS => ?_)
                  have hP : va_P (dC, dI) vwCl (wd_77d3d1bb h0 v0 h1 v1 x139 (-1) v4 r0 r1 r2 r3 r4 r5 r6 v5 v6 r7 r8 h2 h3 x46 r9 r10 v8 v9 r11 r12 v10 v11 r13 v12 v13 r14 v14 w15 r15 v16 v17 r16 r17 r18 r19 r20 r21 v18 r22 r23 r24 v19 h1 g0 f20 h2 g1 fn125 h3 g2 fn48) H := hP
                  have hD : va_D A (wd_77d3d1bb h0 v0 h1 v1 x139 (-1) v4 r0 r1 r2 r3 r4 r5 r6 v5 v6 r7 r8 h2 h3 x46 r9 r10 v8 v9 r11 r12 v10 v11 r13 v12 v13 r14 v14 w15 r15 v16 v17 r16 r17 r18 r19 r20 r21 v18 r22 r23 r24 v19 h1 g0 f20 h2 g1 fn125 h3 g2 fn48) := hD
                  refine lv_goto (tgt := 44) hx hb dX12_readOffice_196 (by decide) ?_
                  refine lv_iload_n hx hb dX12_readOffice_44 rfl (lv_at hl 0 rfl) ?_
                  refine lv_if_eq (tgt := 199) hx hb dX12_readOffice_45 (by decide) (fun _ => ?_) (fun c => absurd (by decide) c)
                  refine lv_aload_n hx hb dX12_readOffice_199 rfl (lv_at hl 3 rfl) ?_
                  refine va_get (D := (dC, dI)) (ci := 12) (v := .int (-1)) (C := RX12) (T := TX12) (N := 48) hx hb hts (fun _ h => List.mem_cons_of_mem _ (List.mem_append_right _ h)) hown hK hP 0 rfl rfl 4 (by decide) (hts (.fieldLink RX12 119 "LeftArgumentsModel" "wrong" "I") (List.mem_cons_of_mem _ (List.mem_append_left _ (List.mem_of_getElem? (i := 1) rfl)))) (fun _ h9 => h9) rfl dX12_readOffice_200 ?_
                  refine lv_iconst (v := (-1)) hx hb dX12_readOffice_203 (by decide) ?_
                  refine lv_icmp_ne (tgt := 226) hx hb dX12_readOffice_204 (by decide) (fun c => absurd (by decide) c) (fun _ => ?_)
                  refine lv_aload_n hx hb dX12_readOffice_207 rfl (lv_at hl 3 rfl) ?_
                  have hPc := hP.sub (ws' := (wd_f4cd022e h0 v0 h1 v1 x139 (-1) v4 r0 r1 r2 r3 r4 r5 r6 v5 v6 r7 r8 h2 h3 x46 r9 r10 v8 v9 r11 r12 v10 v11 r13 v12 v13 r14 v14 w15 r15 v16 v17 r16 r17 r18 r19 r20 r21 v18 r22 r23 r24 v19 h1 g0 f20)) [0, 1] rfl
                  have hDc := hD.sub (ws' := (wd_f4cd022e h0 v0 h1 v1 x139 (-1) v4 r0 r1 r2 r3 r4 r5 r6 v5 v6 r7 r8 h2 h3 x46 r9 r10 v8 v9 r11 r12 v10 v11 r13 v12 v13 r14 v14 w15 r15 v16 v17 r16 r17 r18 r19 r20 r21 v18 r22 r23 r24 v19 h1 g0 f20)) [0, 1] (by decide) rfl
                  have hKc := hK.sub (tys' := [(g0, .int)]) [0] rfl
                  have hFc := va_free (wc := (wd_f4cd022e h0 v0 h1 v1 x139 (-1) v4 r0 r1 r2 r3 r4 r5 r6 v5 v6 r7 r8 h2 h3 x46 r9 r10 v8 v9 r11 r12 v10 v11 r13 v12 v13 r14 v14 w15 r15 v16 v17 r16 r17 r18 r19 r20 r21 v18 r22 r23 r24 v19 h1 g0 f20)) hD hS hA [0, 1] rfl
                  refine va_calli (va_runV (As := []) (rest := []) ⟨hx, hb, hml, hown, hts⟩ (k_X12_look l dC dI h0 h1 v0 v1 x139 ((-1)) v4 r0 r1 r2 r3 r4 r5 r6 v5 v6 r7 r8 h2 h3 x46 r9 r10 v8 v9 r11 r12 v10 v11 r13 v12 v13 r14 v14 w15 r15 v16 v17 r16 r17 r18 r19 r20 r21 v18 r22 r23 r24 v19 g0 f20 ⟨i_v1a, i_v1b⟩ ⟨oa_x139, by first | omega | decide⟩ ⟨i_v5a, i_v5b⟩ ⟨i_v6a, i_v6b⟩ ⟨qa_x46, qb_x46⟩ ⟨i_v8a, i_v8b⟩ ⟨i_v9a, i_v9b⟩ ⟨i_v10a, i_v10b⟩ ⟨i_v14a, i_v14b⟩ ⟨i_v18a, i_v18b⟩ ⟨i_v19a, i_v19b⟩ ia_f20 H.size) (cwV 0 hts g_X12_readOffice_4 rfl rfl rfl (by decide +kernel) ⟨Nat.le_of_ble_eq_true rfl, Nat.le_of_ble_eq_true rfl⟩) (pv_PV12 hPc hKc hDc (q0 := 0) rfl) rfl rfl hl.1 rfl (lv_room (Nat.le_of_ble_eq_true rfl)) dX12_readOffice_208 ⟨Nat.le_of_ble_eq_true rfl, Nat.le_of_ble_eq_true rfl⟩) hS (fun q _ h => hFc q h) hFc (fun ra142 u t H1 locs ht hvm hwra142 hB hz1 hk1 hS => ?_)
                  try rw [hwra142] at hB
                  have hkra142_0 : (((-1) : Int32)).toInt = -1 := by decide
                  rcases hB with hB | hB
                  · skip
                    obtain ⟨x143, oa_x143, ob_x143, pt0_ra142, pt1_ra142, pt2_ra142, pt3_ra142, pt4_ra142, pt5_ra142, pt6_ra142, hP1, hK1, hD1⟩ := hB
                    rw [ht] at hP1
                    obtain ⟨hP2, hD2⟩ := va_join (wr := (wd_5ef8c86c h2 g1 fn125 h3 g2 fn48)) (w1 := (wd_f4cd022e h0 v0 h1 v1 x143 (-1) v4 r0 r1 r2 r3 r4 r5 r6 v5 v6 r7 r8 h2 h3 x46 r9 r10 v8 v9 r11 r12 v10 v11 r13 v12 v13 r14 v14 w15 r15 v16 v17 r16 r17 r18 r19 r20 r21 v18 r22 r23 r24 v19 h1 g0 f20)) hP hD [0, 1] [2, 3] rfl rfl (by decide) (by decide) hk1 hFc hP1 hD1
                    clear hP hD hPc hDc hKc hFc hP1 hK1 hD1 hk1 hz1
                    generalize H1 = H at hP2 hS ⊢
                    have hP := hP2.sub (ws' := (wd_77d3d1bb h0 v0 h1 v1 x143 (-1) v4 r0 r1 r2 r3 r4 r5 r6 v5 v6 r7 r8 h2 h3 x46 r9 r10 v8 v9 r11 r12 v10 v11 r13 v12 v13 r14 v14 w15 r15 v16 v17 r16 r17 r18 r19 r20 r21 v18 r22 r23 r24 v19 h1 g0 f20 h2 g1 fn125 h3 g2 fn48)) [2, 3, 0, 1] rfl
                    have hD := hD2.sub (ws' := (wd_77d3d1bb h0 v0 h1 v1 x143 (-1) v4 r0 r1 r2 r3 r4 r5 r6 v5 v6 r7 r8 h2 h3 x46 r9 r10 v8 v9 r11 r12 v10 v11 r13 v12 v13 r14 v14 w15 r15 v16 v17 r16 r17 r18 r19 r20 r21 v18 r22 r23 r24 v19 h1 g0 f20 h2 g1 fn125 h3 g2 fn48)) [2, 3, 0, 1] (by decide) rfl
                    clear hP2 hD2
                    obtain rfl : ra142 = ((-1) : Int32) := pv_cs (by decide) pt0_ra142 pt1_ra142
                    have hsh : pg_s f20 v1.toInt x139.toInt = x139.toInt := pg_s.here (by assumption)
                    obtain rfl : x139 = x143 := Int32.toInt_inj.mp (by omega)
                    have hP : va_P (dC, dI) vwCl (wd_77d3d1bb h0 v0 h1 v1 x139 (-1) v4 r0 r1 r2 r3 r4 r5 r6 v5 v6 r7 r8 h2 h3 x46 r9 r10 v8 v9 r11 r12 v10 v11 r13 v12 v13 r14 v14 w15 r15 v16 v17 r16 r17 r18 r19 r20 r21 v18 r22 r23 r24 v19 h1 g0 f20 h2 g1 fn125 h3 g2 fn48) H := hP
                    have hD : va_D A (wd_77d3d1bb h0 v0 h1 v1 x139 (-1) v4 r0 r1 r2 r3 r4 r5 r6 v5 v6 r7 r8 h2 h3 x46 r9 r10 v8 v9 r11 r12 v10 v11 r13 v12 v13 r14 v14 w15 r15 v16 v17 r16 r17 r18 r19 r20 r21 v18 r22 r23 r24 v19 h1 g0 f20 h2 g1 fn125 h3 g2 fn48) := hD
                    refine lv_iconst (v := (-1)) hx hb dX12_readOffice_211 (by decide) ?_
                    refine lv_icmp_ne (tgt := 222) hx hb dX12_readOffice_212 (by decide) (fun c => absurd (by decide) c) (fun _ => ?_)
                    refine lv_aload_n hx hb dX12_readOffice_215 rfl (lv_at hl 3 rfl) ?_
                    have hPc := hP.sub (ws' := (wd_4d81ce87 h0 v0 h1 v1 x139 (-1) v4 r0 r1 r2 r3 r4 r5 r6 v5 v6 r7 r8 h2 h3 x46 r9 r10 v8 v9 r11 r12 v10 v11 r13 v12 v13 r14 v14 w15 r15 v16 v17 r16 r17 r18 r19 r20 r21 v18 r22 r23 r24 v19 h2 g1 fn125 h3 g2 fn48)) [0, 2, 3] rfl
                    have hDc := hD.sub (ws' := (wd_4d81ce87 h0 v0 h1 v1 x139 (-1) v4 r0 r1 r2 r3 r4 r5 r6 v5 v6 r7 r8 h2 h3 x46 r9 r10 v8 v9 r11 r12 v10 v11 r13 v12 v13 r14 v14 w15 r15 v16 v17 r16 r17 r18 r19 r20 r21 v18 r22 r23 r24 v19 h2 g1 fn125 h3 g2 fn48)) [0, 2, 3] (by decide) rfl
                    have hKc := hK.sub (tys' := [(g1, .int), (g2, .int)]) [1, 2] rfl
                    have hFc := va_free (wc := (wd_4d81ce87 h0 v0 h1 v1 x139 (-1) v4 r0 r1 r2 r3 r4 r5 r6 v5 v6 r7 r8 h2 h3 x46 r9 r10 v8 v9 r11 r12 v10 v11 r13 v12 v13 r14 v14 w15 r15 v16 v17 r16 r17 r18 r19 r20 r21 v18 r22 r23 r24 v19 h2 g1 fn125 h3 g2 fn48)) hD hS hA [0, 2, 3] rfl
                    refine va_calli (va_runV (As := []) (rest := []) ⟨hx, hb, hml, hown, hts⟩ (k_X12_isWhole l dC dI h0 h2 h3 v0 h1 v1 x139 ((-1)) v4 r0 r1 r2 r3 r4 r5 r6 v5 v6 r7 r8 x46 r9 r10 v8 v9 r11 r12 v10 v11 r13 v12 v13 r14 v14 w15 r15 v16 v17 r16 r17 r18 r19 r20 r21 v18 r22 r23 r24 v19 g1 fn125 g2 fn48 ⟨i_v1a, i_v1b⟩ ⟨i_v5a, i_v5b⟩ ⟨i_v6a, i_v6b⟩ ⟨qa_x46, qb_x46⟩ ⟨i_v8a, i_v8b⟩ ⟨i_v9a, i_v9b⟩ ⟨i_v10a, i_v10b⟩ ⟨i_v14a, i_v14b⟩ ⟨i_v18a, i_v18b⟩ ⟨i_v19a, i_v19b⟩ H.size) (cwV 0 hts g_X12_readOffice_11 rfl rfl rfl (by decide +kernel) ⟨Nat.le_of_ble_eq_true rfl, Nat.le_of_ble_eq_true rfl⟩) (pv_PV12 hPc hKc hDc (q0 := 0) rfl) rfl rfl hl.1 rfl (lv_room (Nat.le_of_ble_eq_true rfl)) dX12_readOffice_216 ⟨Nat.le_of_ble_eq_true rfl, Nat.le_of_ble_eq_true rfl⟩) hS (fun q _ h => hFc q h) hFc (fun ra144 u t H1 locs ht hvm hwra144 hB hz1 hk1 hS => ?_)
                    try rw [hwra144] at hB
                    have hkra144_0 : (((-1) : Int32)).toInt = -1 := by decide
                    obtain ⟨pt0_ra144, pt1_ra144, pt2_ra144, hP1, hK1, hD1⟩ := hB
                    rw [ht] at hP1
                    obtain ⟨hP2, hD2⟩ := va_join (wr := (wd_d0032b31 h1 g0 f20)) (w1 := (wd_4d81ce87 h0 v0 h1 v1 x139 (-1) v4 r0 r1 r2 r3 r4 r5 r6 v5 v6 r7 r8 h2 h3 x46 r9 r10 v8 v9 r11 r12 v10 v11 r13 v12 v13 r14 v14 w15 r15 v16 v17 r16 r17 r18 r19 r20 r21 v18 r22 r23 r24 v19 h2 g1 fn125 h3 g2 fn48)) hP hD [0, 2, 3] [1] rfl rfl (by decide) (by decide) hk1 hFc hP1 hD1
                    clear hP hD hPc hDc hKc hFc hP1 hK1 hD1 hk1 hz1
                    generalize H1 = H at hP2 hS ⊢
                    have hP := hP2.sub (ws' := (wd_77d3d1bb h0 v0 h1 v1 x139 (-1) v4 r0 r1 r2 r3 r4 r5 r6 v5 v6 r7 r8 h2 h3 x46 r9 r10 v8 v9 r11 r12 v10 v11 r13 v12 v13 r14 v14 w15 r15 v16 v17 r16 r17 r18 r19 r20 r21 v18 r22 r23 r24 v19 h1 g0 f20 h2 g1 fn125 h3 g2 fn48)) [1, 0, 2, 3] rfl
                    have hD := hD2.sub (ws' := (wd_77d3d1bb h0 v0 h1 v1 x139 (-1) v4 r0 r1 r2 r3 r4 r5 r6 v5 v6 r7 r8 h2 h3 x46 r9 r10 v8 v9 r11 r12 v10 v11 r13 v12 v13 r14 v14 w15 r15 v16 v17 r16 r17 r18 r19 r20 r21 v18 r22 r23 r24 v19 h1 g0 f20 h2 g1 fn125 h3 g2 fn48)) [1, 0, 2, 3] (by decide) rfl
                    clear hP2 hD2
                    have hw1ra144 : ra144.toInt = 1 → pg_wh x46.toInt fn125 fn48 = true := fun h9 => by rcases pt2_ra144 with h8 | h8; exact h8.2; exfalso; omega
                    have hw0ra144 : ra144.toInt = 0 → pg_wh x46.toInt fn125 fn48 = false := fun h9 => by rcases pt2_ra144 with h8 | h8; exfalso; omega; exact h8.2
                    refine lv_if_ne (tgt := 226) hx hb dX12_readOffice_219 (by decide) (fun c145 => ?_) (fun c145 => ?_)
                    · skip
                      have fc145 : ¬ (ra144.toInt = 0) := fun h9 => c145 (Int32.toInt_inj.mp h9)
                      have q1hw1ra144 := hw1ra144 (by omega)
                      refine lv_aload_n hx hb dX12_readOffice_226 rfl (lv_at hl 3 rfl) ?_
                      refine va_get (D := (dC, dI)) (ci := 12) (v := .int (-1)) (C := RX12) (T := TX12) (N := 48) hx hb hts (fun _ h => List.mem_cons_of_mem _ (List.mem_append_right _ h)) hown hK hP 0 rfl rfl 4 (by decide) (hts (.fieldLink RX12 119 "LeftArgumentsModel" "wrong" "I") (List.mem_cons_of_mem _ (List.mem_append_left _ (List.mem_of_getElem? (i := 1) rfl)))) (fun _ h9 => h9) rfl dX12_readOffice_227 ?_
                      subst hQ
                      have hP9 := hP.sub (ws' := (wd_77d3d1bb h0 v0 h1 v1 x139 (-1) v4 r0 r1 r2 r3 r4 r5 r6 v5 v6 r7 r8 h2 h3 x46 r9 r10 v8 v9 r11 r12 v10 v11 r13 v12 v13 r14 v14 w15 r15 v16 v17 r16 r17 r18 r19 r20 r21 v18 r22 r23 r24 v19 h1 g0 f20 h2 g1 fn125 h3 g2 fn48)) [0, 1, 2, 3] rfl
                      have hD9 := hD.sub (ws' := (wd_77d3d1bb h0 v0 h1 v1 x139 (-1) v4 r0 r1 r2 r3 r4 r5 r6 v5 v6 r7 r8 h2 h3 x46 r9 r10 v8 v9 r11 r12 v10 v11 r13 v12 v13 r14 v14 w15 r15 v16 v17 r16 r17 r18 r19 r20 r21 v18 r22 r23 r24 v19 h1 g0 f20 h2 g1 fn125 h3 g2 fn48)) [0, 1, 2, 3] (by decide) rfl
                      have hK9 := hK.sub (tys' := []) [] rfl
                      exact W.iret (v := (-1)) hx hb hr (fun t ht hW => ⟨⟨(-1), (-1), rfl, rfl, Or.inl ⟨x139, x46, fn125, fn48, oa_x139, by first | omega | decide, qa_x46, qb_x46, by first | omega | decide, by first | omega | decide, by assumption, by first | assumption | (apply pm_BG.add <;> first | assumption | omega), by apply pg_office.g2 (R := f21) (B := f22) <;> first | assumption | omega | (apply pg_O.s0 <;> first | assumption | omega) | (apply pg_O.b0 <;> first | assumption | omega), by rw [ht]; exact hP9, va_K.moved hW.alike hK9, hD9⟩⟩, hS.F ht⟩) hS.2.2 dX12_readOffice_230
                    · skip
                      have fc145 : ra144.toInt = 0 := congrArg Int32.toInt c145
                      have q0hw0ra144 := hw0ra144 (by omega)
                      refine lv_aload_n hx hb dX12_readOffice_222 rfl (lv_at hl 3 rfl) ?_
                      have hPc := hP.sub (ws' := (wd_171f232f h0 v0 h1 v1 x139 (-1) v4 r0 r1 r2 r3 r4 r5 r6 v5 v6 r7 r8 h2 h3 x46 r9 r10 v8 v9 r11 r12 v10 v11 r13 v12 v13 r14 v14 w15 r15 v16 v17 r16 r17 r18 r19 r20 r21 v18 r22 r23 r24 v19)) [0] rfl
                      have hDc := hD.sub (ws' := (wd_171f232f h0 v0 h1 v1 x139 (-1) v4 r0 r1 r2 r3 r4 r5 r6 v5 v6 r7 r8 h2 h3 x46 r9 r10 v8 v9 r11 r12 v10 v11 r13 v12 v13 r14 v14 w15 r15 v16 v17 r16 r17 r18 r19 r20 r21 v18 r22 r23 r24 v19)) [0] (by decide) rfl
                      have hKc := hK.sub (tys' := []) [] rfl
                      have hFc := va_free (wc := (wd_171f232f h0 v0 h1 v1 x139 (-1) v4 r0 r1 r2 r3 r4 r5 r6 v5 v6 r7 r8 h2 h3 x46 r9 r10 v8 v9 r11 r12 v10 v11 r13 v12 v13 r14 v14 w15 r15 v16 v17 r16 r17 r18 r19 r20 r21 v18 r22 r23 r24 v19)) hD hS hA [0] rfl
                      refine va_callv (va_runV (As := []) (rest := []) ⟨hx, hb, hml, hown, hts⟩ (k_X12_bad l dC dI h0 v0 h1 v1 x139 v4 r0 r1 r2 r3 r4 r5 r6 v5 v6 r7 r8 h2 h3 x46 r9 r10 v8 v9 r11 r12 v10 v11 r13 v12 v13 r14 v14 w15 r15 v16 v17 r16 r17 r18 r19 r20 r21 v18 r22 r23 r24 v19 ⟨i_v1a, i_v1b⟩ ⟨oa_x139, by first | omega | decide⟩ ⟨i_v5a, i_v5b⟩ ⟨i_v6a, i_v6b⟩ ⟨qa_x46, qb_x46⟩ ⟨i_v8a, i_v8b⟩ ⟨i_v9a, i_v9b⟩ ⟨i_v10a, i_v10b⟩ ⟨i_v14a, i_v14b⟩ ⟨i_v18a, i_v18b⟩ ⟨i_v19a, i_v19b⟩ H.size) (cwV 0 hts g_X12_readOffice_5 rfl rfl rfl (by decide +kernel) ⟨Nat.le_of_ble_eq_true rfl, Nat.le_of_ble_eq_true rfl⟩) (pv_PV12 hPc hKc hDc (q0 := 0) rfl) rfl rfl hl.1 rfl (lv_room (Nat.le_of_ble_eq_true rfl)) dX12_readOffice_223 ⟨Nat.le_of_ble_eq_true rfl, Nat.le_of_ble_eq_true rfl⟩) hS (fun q _ h => hFc q h) hFc (fun u t H1 locs ht hvm hwra146 hB hz1 hk1 hS => ?_)
                      obtain ⟨x147, oa_x147, ob_x147, pt0_ra146, hP1, hK1, hD1⟩ := hB
                      rw [ht] at hP1
                      obtain ⟨hP2, hD2⟩ := va_join (wr := (wd_bcaf9cf2 h1 g0 f20 h2 g1 fn125 h3 g2 fn48)) (w1 := (wd_171f232f h0 v0 h1 v1 x139 x147 v4 r0 r1 r2 r3 r4 r5 r6 v5 v6 r7 r8 h2 h3 x46 r9 r10 v8 v9 r11 r12 v10 v11 r13 v12 v13 r14 v14 w15 r15 v16 v17 r16 r17 r18 r19 r20 r21 v18 r22 r23 r24 v19)) hP hD [0] [1, 2, 3] rfl rfl (by decide) (by decide) hk1 hFc hP1 hD1
                      clear hP hD hPc hDc hKc hFc hP1 hK1 hD1 hk1 hz1
                      generalize H1 = H at hP2 hS ⊢
                      have hP := hP2.sub (ws' := (wd_77d3d1bb h0 v0 h1 v1 x139 x147 v4 r0 r1 r2 r3 r4 r5 r6 v5 v6 r7 r8 h2 h3 x46 r9 r10 v8 v9 r11 r12 v10 v11 r13 v12 v13 r14 v14 w15 r15 v16 v17 r16 r17 r18 r19 r20 r21 v18 r22 r23 r24 v19 h1 g0 f20 h2 g1 fn125 h3 g2 fn48)) [3, 0, 1, 2] rfl
                      have hD := hD2.sub (ws' := (wd_77d3d1bb h0 v0 h1 v1 x139 x147 v4 r0 r1 r2 r3 r4 r5 r6 v5 v6 r7 r8 h2 h3 x46 r9 r10 v8 v9 r11 r12 v10 v11 r13 v12 v13 r14 v14 w15 r15 v16 v17 r16 r17 r18 r19 r20 r21 v18 r22 r23 r24 v19 h1 g0 f20 h2 g1 fn125 h3 g2 fn48)) [3, 0, 1, 2] (by decide) rfl
                      clear hP2 hD2
                      refine lv_aload_n hx hb dX12_readOffice_226 rfl (lv_at hl 3 rfl) ?_
                      refine va_get (D := (dC, dI)) (ci := 12) (v := .int x147) (C := RX12) (T := TX12) (N := 48) hx hb hts (fun _ h => List.mem_cons_of_mem _ (List.mem_append_right _ h)) hown hK hP 0 rfl rfl 4 (by decide) (hts (.fieldLink RX12 119 "LeftArgumentsModel" "wrong" "I") (List.mem_cons_of_mem _ (List.mem_append_left _ (List.mem_of_getElem? (i := 1) rfl)))) (fun _ h9 => h9) rfl dX12_readOffice_227 ?_
                      subst hQ
                      have hP9 := hP.sub (ws' := (wd_77d3d1bb h0 v0 h1 v1 x139 x147 v4 r0 r1 r2 r3 r4 r5 r6 v5 v6 r7 r8 h2 h3 x46 r9 r10 v8 v9 r11 r12 v10 v11 r13 v12 v13 r14 v14 w15 r15 v16 v17 r16 r17 r18 r19 r20 r21 v18 r22 r23 r24 v19 h1 g0 f20 h2 g1 fn125 h3 g2 fn48)) [0, 1, 2, 3] rfl
                      have hD9 := hD.sub (ws' := (wd_77d3d1bb h0 v0 h1 v1 x139 x147 v4 r0 r1 r2 r3 r4 r5 r6 v5 v6 r7 r8 h2 h3 x46 r9 r10 v8 v9 r11 r12 v10 v11 r13 v12 v13 r14 v14 w15 r15 v16 v17 r16 r17 r18 r19 r20 r21 v18 r22 r23 r24 v19 h1 g0 f20 h2 g1 fn125 h3 g2 fn48)) [0, 1, 2, 3] (by decide) rfl
                      have hK9 := hK.sub (tys' := []) [] rfl
                      exact W.iret (v := x147) hx hb hr (fun t ht hW => ⟨⟨x147, x147, rfl, rfl, Or.inr (⟨x139, x147, x46, fn125, fn48, oa_x139, by first | omega | decide, oa_x147, ob_x147, qa_x46, qb_x46, by first | omega | decide, by first | omega | decide, by first | (apply pg_office.b0 (R := f21) (B := f22) <;> first | assumption | omega | (apply pg_O.sf <;> first | assumption | omega) | (apply pg_O.bf <;> first | assumption | omega) | (apply pg_O.w <;> first | assumption | omega)) | (apply pg_office.b1 (R := f21) (B := f22) <;> first | assumption | omega | (apply pg_O.s0 <;> first | assumption | omega) | (apply pg_O.b0 <;> first | assumption | omega)) | (apply pg_office.b2 (R := f21) (B := f22) <;> first | assumption | omega | (apply pg_O.s0 <;> first | assumption | omega) | (apply pg_O.b0 <;> first | assumption | omega) | (apply pg_items.pn <;> first | assumption | omega)), by omega, by rw [ht]; exact hP9, va_K.moved hW.alike hK9, hD9⟩)⟩, hS.F ht⟩) hS.2.2 dX12_readOffice_230
                  · skip
                    obtain ⟨x148, oa_x148, ob_x148, pt0_ra142, pt1_ra142, pt2_ra142, pt3_ra142, pt4_ra142, pt5_ra142, pt6_ra142, pt7_ra142, hP1, hK1, hD1⟩ := hB
                    rw [ht] at hP1
                    obtain ⟨hP2, hD2⟩ := va_join (wr := (wd_5ef8c86c h2 g1 fn125 h3 g2 fn48)) (w1 := (wd_f4cd022e h0 v0 h1 v1 x148 (-1) v4 r0 r1 r2 r3 r4 r5 r6 v5 v6 r7 r8 h2 h3 x46 r9 r10 v8 v9 r11 r12 v10 v11 r13 v12 v13 r14 v14 w15 r15 v16 v17 r16 r17 r18 r19 r20 r21 v18 r22 r23 r24 v19 h1 g0 f20)) hP hD [0, 1] [2, 3] rfl rfl (by decide) (by decide) hk1 hFc hP1 hD1
                    clear hP hD hPc hDc hKc hFc hP1 hK1 hD1 hk1 hz1
                    generalize H1 = H at hP2 hS ⊢
                    have hP := hP2.sub (ws' := (wd_77d3d1bb h0 v0 h1 v1 x148 (-1) v4 r0 r1 r2 r3 r4 r5 r6 v5 v6 r7 r8 h2 h3 x46 r9 r10 v8 v9 r11 r12 v10 v11 r13 v12 v13 r14 v14 w15 r15 v16 v17 r16 r17 r18 r19 r20 r21 v18 r22 r23 r24 v19 h1 g0 f20 h2 g1 fn125 h3 g2 fn48)) [2, 3, 0, 1] rfl
                    have hD := hD2.sub (ws' := (wd_77d3d1bb h0 v0 h1 v1 x148 (-1) v4 r0 r1 r2 r3 r4 r5 r6 v5 v6 r7 r8 h2 h3 x46 r9 r10 v8 v9 r11 r12 v10 v11 r13 v12 v13 r14 v14 w15 r15 v16 v17 r16 r17 r18 r19 r20 r21 v18 r22 r23 r24 v19 h1 g0 f20 h2 g1 fn125 h3 g2 fn48)) [2, 3, 0, 1] (by decide) rfl
                    clear hP2 hD2
                    have hsh : pg_s f20 v1.toInt x139.toInt = x139.toInt := pg_s.here (by assumption)
                    obtain rfl : x139 = x148 := Int32.toInt_inj.mp (by omega)
                    have hP : va_P (dC, dI) vwCl (wd_77d3d1bb h0 v0 h1 v1 x139 (-1) v4 r0 r1 r2 r3 r4 r5 r6 v5 v6 r7 r8 h2 h3 x46 r9 r10 v8 v9 r11 r12 v10 v11 r13 v12 v13 r14 v14 w15 r15 v16 v17 r16 r17 r18 r19 r20 r21 v18 r22 r23 r24 v19 h1 g0 f20 h2 g1 fn125 h3 g2 fn48) H := hP
                    have hD : va_D A (wd_77d3d1bb h0 v0 h1 v1 x139 (-1) v4 r0 r1 r2 r3 r4 r5 r6 v5 v6 r7 r8 h2 h3 x46 r9 r10 v8 v9 r11 r12 v10 v11 r13 v12 v13 r14 v14 w15 r15 v16 v17 r16 r17 r18 r19 r20 r21 v18 r22 r23 r24 v19 h1 g0 f20 h2 g1 fn125 h3 g2 fn48) := hD
                    refine lv_iconst (v := (-1)) hx hb dX12_readOffice_211 (by decide) ?_
                    refine lv_icmp_ne (tgt := 222) hx hb dX12_readOffice_212 (by decide) (fun _ => ?_) (fun c149 => by exfalso; have fc149 : ra142.toInt = (-1) := congrArg Int32.toInt c149; omega)
                    refine lv_aload_n hx hb dX12_readOffice_222 rfl (lv_at hl 3 rfl) ?_
                    have hPc := hP.sub (ws' := (wd_171f232f h0 v0 h1 v1 x139 (-1) v4 r0 r1 r2 r3 r4 r5 r6 v5 v6 r7 r8 h2 h3 x46 r9 r10 v8 v9 r11 r12 v10 v11 r13 v12 v13 r14 v14 w15 r15 v16 v17 r16 r17 r18 r19 r20 r21 v18 r22 r23 r24 v19)) [0] rfl
                    have hDc := hD.sub (ws' := (wd_171f232f h0 v0 h1 v1 x139 (-1) v4 r0 r1 r2 r3 r4 r5 r6 v5 v6 r7 r8 h2 h3 x46 r9 r10 v8 v9 r11 r12 v10 v11 r13 v12 v13 r14 v14 w15 r15 v16 v17 r16 r17 r18 r19 r20 r21 v18 r22 r23 r24 v19)) [0] (by decide) rfl
                    have hKc := hK.sub (tys' := []) [] rfl
                    have hFc := va_free (wc := (wd_171f232f h0 v0 h1 v1 x139 (-1) v4 r0 r1 r2 r3 r4 r5 r6 v5 v6 r7 r8 h2 h3 x46 r9 r10 v8 v9 r11 r12 v10 v11 r13 v12 v13 r14 v14 w15 r15 v16 v17 r16 r17 r18 r19 r20 r21 v18 r22 r23 r24 v19)) hD hS hA [0] rfl
                    refine va_callv (va_runV (As := []) (rest := []) ⟨hx, hb, hml, hown, hts⟩ (k_X12_bad l dC dI h0 v0 h1 v1 x139 v4 r0 r1 r2 r3 r4 r5 r6 v5 v6 r7 r8 h2 h3 x46 r9 r10 v8 v9 r11 r12 v10 v11 r13 v12 v13 r14 v14 w15 r15 v16 v17 r16 r17 r18 r19 r20 r21 v18 r22 r23 r24 v19 ⟨i_v1a, i_v1b⟩ ⟨oa_x139, by first | omega | decide⟩ ⟨i_v5a, i_v5b⟩ ⟨i_v6a, i_v6b⟩ ⟨qa_x46, qb_x46⟩ ⟨i_v8a, i_v8b⟩ ⟨i_v9a, i_v9b⟩ ⟨i_v10a, i_v10b⟩ ⟨i_v14a, i_v14b⟩ ⟨i_v18a, i_v18b⟩ ⟨i_v19a, i_v19b⟩ H.size) (cwV 0 hts g_X12_readOffice_5 rfl rfl rfl (by decide +kernel) ⟨Nat.le_of_ble_eq_true rfl, Nat.le_of_ble_eq_true rfl⟩) (pv_PV12 hPc hKc hDc (q0 := 0) rfl) rfl rfl hl.1 rfl (lv_room (Nat.le_of_ble_eq_true rfl)) dX12_readOffice_223 ⟨Nat.le_of_ble_eq_true rfl, Nat.le_of_ble_eq_true rfl⟩) hS (fun q _ h => hFc q h) hFc (fun u t H1 locs ht hvm hwra150 hB hz1 hk1 hS => ?_)
                    obtain ⟨x151, oa_x151, ob_x151, pt0_ra150, hP1, hK1, hD1⟩ := hB
                    rw [ht] at hP1
                    obtain ⟨hP2, hD2⟩ := va_join (wr := (wd_bcaf9cf2 h1 g0 f20 h2 g1 fn125 h3 g2 fn48)) (w1 := (wd_171f232f h0 v0 h1 v1 x139 x151 v4 r0 r1 r2 r3 r4 r5 r6 v5 v6 r7 r8 h2 h3 x46 r9 r10 v8 v9 r11 r12 v10 v11 r13 v12 v13 r14 v14 w15 r15 v16 v17 r16 r17 r18 r19 r20 r21 v18 r22 r23 r24 v19)) hP hD [0] [1, 2, 3] rfl rfl (by decide) (by decide) hk1 hFc hP1 hD1
                    clear hP hD hPc hDc hKc hFc hP1 hK1 hD1 hk1 hz1
                    generalize H1 = H at hP2 hS ⊢
                    have hP := hP2.sub (ws' := (wd_77d3d1bb h0 v0 h1 v1 x139 x151 v4 r0 r1 r2 r3 r4 r5 r6 v5 v6 r7 r8 h2 h3 x46 r9 r10 v8 v9 r11 r12 v10 v11 r13 v12 v13 r14 v14 w15 r15 v16 v17 r16 r17 r18 r19 r20 r21 v18 r22 r23 r24 v19 h1 g0 f20 h2 g1 fn125 h3 g2 fn48)) [3, 0, 1, 2] rfl
                    have hD := hD2.sub (ws' := (wd_77d3d1bb h0 v0 h1 v1 x139 x151 v4 r0 r1 r2 r3 r4 r5 r6 v5 v6 r7 r8 h2 h3 x46 r9 r10 v8 v9 r11 r12 v10 v11 r13 v12 v13 r14 v14 w15 r15 v16 v17 r16 r17 r18 r19 r20 r21 v18 r22 r23 r24 v19 h1 g0 f20 h2 g1 fn125 h3 g2 fn48)) [3, 0, 1, 2] (by decide) rfl
                    clear hP2 hD2
                    refine lv_aload_n hx hb dX12_readOffice_226 rfl (lv_at hl 3 rfl) ?_
                    refine va_get (D := (dC, dI)) (ci := 12) (v := .int x151) (C := RX12) (T := TX12) (N := 48) hx hb hts (fun _ h => List.mem_cons_of_mem _ (List.mem_append_right _ h)) hown hK hP 0 rfl rfl 4 (by decide) (hts (.fieldLink RX12 119 "LeftArgumentsModel" "wrong" "I") (List.mem_cons_of_mem _ (List.mem_append_left _ (List.mem_of_getElem? (i := 1) rfl)))) (fun _ h9 => h9) rfl dX12_readOffice_227 ?_
                    subst hQ
                    have hP9 := hP.sub (ws' := (wd_77d3d1bb h0 v0 h1 v1 x139 x151 v4 r0 r1 r2 r3 r4 r5 r6 v5 v6 r7 r8 h2 h3 x46 r9 r10 v8 v9 r11 r12 v10 v11 r13 v12 v13 r14 v14 w15 r15 v16 v17 r16 r17 r18 r19 r20 r21 v18 r22 r23 r24 v19 h1 g0 f20 h2 g1 fn125 h3 g2 fn48)) [0, 1, 2, 3] rfl
                    have hD9 := hD.sub (ws' := (wd_77d3d1bb h0 v0 h1 v1 x139 x151 v4 r0 r1 r2 r3 r4 r5 r6 v5 v6 r7 r8 h2 h3 x46 r9 r10 v8 v9 r11 r12 v10 v11 r13 v12 v13 r14 v14 w15 r15 v16 v17 r16 r17 r18 r19 r20 r21 v18 r22 r23 r24 v19 h1 g0 f20 h2 g1 fn125 h3 g2 fn48)) [0, 1, 2, 3] (by decide) rfl
                    have hK9 := hK.sub (tys' := []) [] rfl
                    exact W.iret (v := x151) hx hb hr (fun t ht hW => ⟨⟨x151, x151, rfl, rfl, Or.inr (⟨x139, x151, x46, fn125, fn48, oa_x139, by first | omega | decide, oa_x151, ob_x151, qa_x46, qb_x46, by first | omega | decide, by first | omega | decide, by first | (apply pg_office.b0 (R := f21) (B := f22) <;> first | assumption | omega | (apply pg_O.sf <;> first | assumption | omega) | (apply pg_O.bf <;> first | assumption | omega) | (apply pg_O.w <;> first | assumption | omega)) | (apply pg_office.b1 (R := f21) (B := f22) <;> first | assumption | omega | (apply pg_O.s0 <;> first | assumption | omega) | (apply pg_O.b0 <;> first | assumption | omega)) | (apply pg_office.b2 (R := f21) (B := f22) <;> first | assumption | omega | (apply pg_O.s0 <;> first | assumption | omega) | (apply pg_O.b0 <;> first | assumption | omega) | (apply pg_items.pn <;> first | assumption | omega)), by omega, by rw [ht]; exact hP9, va_K.moved hW.alike hK9, hD9⟩)⟩, hS.F ht⟩) hS.2.2 dX12_readOffice_230
                · skip
                  have fc140 : ra126.toInt = 59 := congrArg Int32.toInt c140
                  refine lv_iconst (v := 1) hx hb dX12_readOffice_172 (by decide) ?_
                  refine lv_goto (tgt := 177) hx hb dX12_readOffice_173 (by decide) ?_
                  refine lv_istore_n (lv' := [(2, .int 1), (1, .int 1), (3, .int 115), (0, .ref h0)]) hx hb dX12_readOffice_177 rfl hl (by decide) rfl (fun ls hl => ?_)
                  refine lv_aload_n hx hb dX12_readOffice_178 rfl (lv_at hl 3 rfl) ?_
                  refine lv_dup hx hb dX12_readOffice_179 rfl ?_
                  refine va_get (D := (dC, dI)) (ci := 12) (v := .int x139) (C := RX12) (T := TX12) (N := 48) hx hb hts (fun _ h => List.mem_cons_of_mem _ (List.mem_append_right _ h)) hown hK hP 0 rfl rfl 3 (by decide) (hts (.fieldLink RX12 112 "LeftArgumentsModel" "at" "I") (List.mem_cons_of_mem _ (List.mem_append_left _ (List.mem_of_getElem? (i := 0) rfl)))) (fun _ h9 => h9) rfl dX12_readOffice_180 ?_
                  refine lv_iload_n hx hb dX12_readOffice_183 rfl (lv_at hl 0 rfl) ?_
                  refine lv_if_eq (tgt := 191) hx hb dX12_readOffice_184 (by decide) (fun c => absurd c (by decide)) (fun _ => ?_)
                  refine lv_iconst (v := 1) hx hb dX12_readOffice_187 (by decide) ?_
                  refine lv_goto (tgt := 192) hx hb dX12_readOffice_188 (by decide) ?_
                  refine lv_iadd hx hb dX12_readOffice_192 ?_
                  refine lv_topi (fun t152 et152 => ?_)
                  have gt152 : t152.toInt = x139.toInt + 1 := pv_add (a := x139.toInt) (b := 1) et152 rfl (by decide) (by omega) (by omega)
                  refine va_put (D := (dC, dI)) (ci := 12) (v := .int t152) (ty := .int) (C := RX12) (T := TX12) (N := 48) hx hb hts (fun _ h => List.mem_cons_of_mem _ (List.mem_append_right _ h)) tyX12 tyX12_ok nmX12 hown hK hP hD hS 0 rfl rfl 3 (by decide) (hts (.fieldLink RX12 112 "LeftArgumentsModel" "at" "I") (List.mem_cons_of_mem _ (List.mem_append_left _ (List.mem_of_getElem? (i := 0) rfl)))) (fun _ h9 => h9) rfl (by decide +kernel) rfl rfl (Nat.le_of_ble_eq_true rfl) dX12_readOffice_193 (fun H locs hP hD hS => ?_)
                  have hP : va_P (dC, dI) vwCl (wd_77d3d1bb h0 v0 h1 v1 t152 (-1) v4 r0 r1 r2 r3 r4 r5 r6 v5 v6 r7 r8 h2 h3 x46 r9 r10 v8 v9 r11 r12 v10 v11 r13 v12 v13 r14 v14 w15 r15 v16 v17 r16 r17 r18 r19 r20 r21 v18 r22 r23 r24 v19 h1 g0 f20 h2 g1 fn125 h3 g2 fn48) H := hP
                  have hD : va_D A (wd_77d3d1bb h0 v0 h1 v1 t152 (-1) v4 r0 r1 r2 r3 r4 r5 r6 v5 v6 r7 r8 h2 h3 x46 r9 r10 v8 v9 r11 r12 v10 v11 r13 v12 v13 r14 v14 w15 r15 v16 v17 r16 r17 r18 r19 r20 r21 v18 r22 r23 r24 v19 h1 g0 f20 h2 g1 fn125 h3 g2 fn48) := hD
                  refine lv_goto (tgt := 44) hx hb dX12_readOffice_196 (by decide) ?_
                  exact ih_hL54 1 t152 x46 fn125 fn48 H locs ls (by decide) (by decide) (by first | omega | decide) (by first | omega | decide) qa_x46 qb_x46 (by first | assumption | (apply pm_RR.init <;> first | assumption | decide)) (by first | assumption | exact pm_BG.zero (by decide) | (apply pm_BG.add <;> first | assumption | omega)) (by first | assumption | (apply pg_O.ini <;> first | assumption | omega | decide | (apply pg_ur.mk <;> first | assumption | decide)) | (apply pg_O.s1 <;> first | assumption | omega) | (apply pg_O.b1 <;> first | assumption | omega)) (by first | omega | ((have h09 : ((0 : Int32)).toInt = 0 := by decide); omega)) (by first | omega | (simp only [Int.toNat] at *; omega)) hP hD hS (lv_sub hl [0, 1, 3] rfl)
            · skip
              obtain ⟨x153, x154, fn155, oa_x153, ob_x153, oa_x154, ob_x154, pt0_ra123, pt1_ra123, hP1, hK1, hD1⟩ := hB
              rw [ht] at hP1
              obtain ⟨hP2, hD2⟩ := va_join (wr := (wd_aad598ec h3 g2 fn48)) (w1 := (wd_490cd7da h0 v0 h1 v1 x153 x154 v4 r0 r1 r2 r3 r4 r5 r6 v5 v6 r7 r8 h2 h3 x46 r9 r10 v8 v9 r11 r12 v10 v11 r13 v12 v13 r14 v14 w15 r15 v16 v17 r16 r17 r18 r19 r20 r21 v18 r22 r23 r24 v19 h1 g0 f20 h2 g1 fn155)) hP hD [0, 1, 2] [3] rfl rfl (by decide) (by decide) hk1 hFc hP1 hD1
              clear hP hD hPc hDc hKc hFc hP1 hK1 hD1 hk1 hz1
              generalize H1 = H at hP2 hS ⊢
              have hP := hP2.sub (ws' := (wd_77d3d1bb h0 v0 h1 v1 x153 x154 v4 r0 r1 r2 r3 r4 r5 r6 v5 v6 r7 r8 h2 h3 x46 r9 r10 v8 v9 r11 r12 v10 v11 r13 v12 v13 r14 v14 w15 r15 v16 v17 r16 r17 r18 r19 r20 r21 v18 r22 r23 r24 v19 h1 g0 f20 h2 g1 fn155 h3 g2 fn48)) [1, 2, 3, 0] rfl
              have hD := hD2.sub (ws' := (wd_77d3d1bb h0 v0 h1 v1 x153 x154 v4 r0 r1 r2 r3 r4 r5 r6 v5 v6 r7 r8 h2 h3 x46 r9 r10 v8 v9 r11 r12 v10 v11 r13 v12 v13 r14 v14 w15 r15 v16 v17 r16 r17 r18 r19 r20 r21 v18 r22 r23 r24 v19 h1 g0 f20 h2 g1 fn155 h3 g2 fn48)) [1, 2, 3, 0] (by decide) rfl
              clear hP2 hD2
              refine lv_goto (tgt := 155) hx hb dX12_readOffice_94 (by decide) ?_
              refine lv_aload_n hx hb dX12_readOffice_155 rfl (lv_at hl 3 rfl) ?_
              refine va_get (D := (dC, dI)) (ci := 12) (v := .int x154) (C := RX12) (T := TX12) (N := 48) hx hb hts (fun _ h => List.mem_cons_of_mem _ (List.mem_append_right _ h)) hown hK hP 0 rfl rfl 4 (by decide) (hts (.fieldLink RX12 119 "LeftArgumentsModel" "wrong" "I") (List.mem_cons_of_mem _ (List.mem_append_left _ (List.mem_of_getElem? (i := 1) rfl)))) (fun _ h9 => h9) rfl dX12_readOffice_156 ?_
              refine lv_iconst (v := (-1)) hx hb dX12_readOffice_159 (by decide) ?_
              refine lv_icmp_ne (tgt := 176) hx hb dX12_readOffice_160 (by decide) (fun _ => ?_) (fun c156 => by exfalso; have fc156 : x154.toInt = (-1) := congrArg Int32.toInt c156; omega)
              refine lv_iconst (v := 0) hx hb dX12_readOffice_176 (by decide) ?_
              refine lv_istore_n (lv' := [(2, .int 0), (1, .int 1), (3, .int 115), (0, .ref h0)]) hx hb dX12_readOffice_177 rfl hl (by decide) rfl (fun ls hl => ?_)
              refine lv_aload_n hx hb dX12_readOffice_178 rfl (lv_at hl 3 rfl) ?_
              refine lv_dup hx hb dX12_readOffice_179 rfl ?_
              refine va_get (D := (dC, dI)) (ci := 12) (v := .int x153) (C := RX12) (T := TX12) (N := 48) hx hb hts (fun _ h => List.mem_cons_of_mem _ (List.mem_append_right _ h)) hown hK hP 0 rfl rfl 3 (by decide) (hts (.fieldLink RX12 112 "LeftArgumentsModel" "at" "I") (List.mem_cons_of_mem _ (List.mem_append_left _ (List.mem_of_getElem? (i := 0) rfl)))) (fun _ h9 => h9) rfl dX12_readOffice_180 ?_
              refine lv_iload_n hx hb dX12_readOffice_183 rfl (lv_at hl 0 rfl) ?_
              refine lv_if_eq (tgt := 191) hx hb dX12_readOffice_184 (by decide) (fun _ => ?_) (fun c => absurd (by decide) c)
              refine lv_iconst (v := 0) hx hb dX12_readOffice_191 (by decide) ?_
              refine lv_iadd hx hb dX12_readOffice_192 ?_
              refine lv_topi (fun t157 et157 => ?_)
              have gt157 : t157.toInt = x153.toInt + 0 := pv_add (a := x153.toInt) (b := 0) et157 rfl (by decide) (by omega) (by omega)
              obtain rfl : x153 = t157 := Int32.toInt_inj.mp (by omega)
              refine va_put (D := (dC, dI)) (ci := 12) (v := .int x153) (ty := .int) (C := RX12) (T := TX12) (N := 48) hx hb hts (fun _ h => List.mem_cons_of_mem _ (List.mem_append_right _ h)) tyX12 tyX12_ok nmX12 hown hK hP hD hS 0 rfl rfl 3 (by decide) (hts (.fieldLink RX12 112 "LeftArgumentsModel" "at" "I") (List.mem_cons_of_mem _ (List.mem_append_left _ (List.mem_of_getElem? (i := 0) rfl)))) (fun _ h9 => h9) rfl (by decide +kernel) rfl rfl (Nat.le_of_ble_eq_true rfl) dX12_readOffice_193 (fun H locs hP hD hS => ?_)
              have hP : va_P (dC, dI) vwCl (wd_77d3d1bb h0 v0 h1 v1 x153 x154 v4 r0 r1 r2 r3 r4 r5 r6 v5 v6 r7 r8 h2 h3 x46 r9 r10 v8 v9 r11 r12 v10 v11 r13 v12 v13 r14 v14 w15 r15 v16 v17 r16 r17 r18 r19 r20 r21 v18 r22 r23 r24 v19 h1 g0 f20 h2 g1 fn155 h3 g2 fn48) H := hP
              have hD : va_D A (wd_77d3d1bb h0 v0 h1 v1 x153 x154 v4 r0 r1 r2 r3 r4 r5 r6 v5 v6 r7 r8 h2 h3 x46 r9 r10 v8 v9 r11 r12 v10 v11 r13 v12 v13 r14 v14 w15 r15 v16 v17 r16 r17 r18 r19 r20 r21 v18 r22 r23 r24 v19 h1 g0 f20 h2 g1 fn155 h3 g2 fn48) := hD
              refine lv_goto (tgt := 44) hx hb dX12_readOffice_196 (by decide) ?_
              refine lv_iload_n hx hb dX12_readOffice_44 rfl (lv_at hl 0 rfl) ?_
              refine lv_if_eq (tgt := 199) hx hb dX12_readOffice_45 (by decide) (fun _ => ?_) (fun c => absurd (by decide) c)
              refine lv_aload_n hx hb dX12_readOffice_199 rfl (lv_at hl 3 rfl) ?_
              refine va_get (D := (dC, dI)) (ci := 12) (v := .int x154) (C := RX12) (T := TX12) (N := 48) hx hb hts (fun _ h => List.mem_cons_of_mem _ (List.mem_append_right _ h)) hown hK hP 0 rfl rfl 4 (by decide) (hts (.fieldLink RX12 119 "LeftArgumentsModel" "wrong" "I") (List.mem_cons_of_mem _ (List.mem_append_left _ (List.mem_of_getElem? (i := 1) rfl)))) (fun _ h9 => h9) rfl dX12_readOffice_200 ?_
              refine lv_iconst (v := (-1)) hx hb dX12_readOffice_203 (by decide) ?_
              refine lv_icmp_ne (tgt := 226) hx hb dX12_readOffice_204 (by decide) (fun _ => ?_) (fun c158 => by exfalso; have fc158 : x154.toInt = (-1) := congrArg Int32.toInt c158; omega)
              refine lv_aload_n hx hb dX12_readOffice_226 rfl (lv_at hl 3 rfl) ?_
              refine va_get (D := (dC, dI)) (ci := 12) (v := .int x154) (C := RX12) (T := TX12) (N := 48) hx hb hts (fun _ h => List.mem_cons_of_mem _ (List.mem_append_right _ h)) hown hK hP 0 rfl rfl 4 (by decide) (hts (.fieldLink RX12 119 "LeftArgumentsModel" "wrong" "I") (List.mem_cons_of_mem _ (List.mem_append_left _ (List.mem_of_getElem? (i := 1) rfl)))) (fun _ h9 => h9) rfl dX12_readOffice_227 ?_
              subst hQ
              have hP9 := hP.sub (ws' := (wd_77d3d1bb h0 v0 h1 v1 x153 x154 v4 r0 r1 r2 r3 r4 r5 r6 v5 v6 r7 r8 h2 h3 x46 r9 r10 v8 v9 r11 r12 v10 v11 r13 v12 v13 r14 v14 w15 r15 v16 v17 r16 r17 r18 r19 r20 r21 v18 r22 r23 r24 v19 h1 g0 f20 h2 g1 fn155 h3 g2 fn48)) [0, 1, 2, 3] rfl
              have hD9 := hD.sub (ws' := (wd_77d3d1bb h0 v0 h1 v1 x153 x154 v4 r0 r1 r2 r3 r4 r5 r6 v5 v6 r7 r8 h2 h3 x46 r9 r10 v8 v9 r11 r12 v10 v11 r13 v12 v13 r14 v14 w15 r15 v16 v17 r16 r17 r18 r19 r20 r21 v18 r22 r23 r24 v19 h1 g0 f20 h2 g1 fn155 h3 g2 fn48)) [0, 1, 2, 3] (by decide) rfl
              have hK9 := hK.sub (tys' := []) [] rfl
              exact W.iret (v := x154) hx hb hr (fun t ht hW => ⟨⟨x154, x154, rfl, rfl, Or.inr (⟨x153, x154, x46, fn155, fn48, oa_x153, ob_x153, oa_x154, ob_x154, qa_x46, qb_x46, by first | omega | decide, by first | omega | decide, by first | (apply pg_office.b0 (R := f21) (B := f22) <;> first | assumption | omega | (apply pg_O.sf <;> first | assumption | omega) | (apply pg_O.bf <;> first | assumption | omega) | (apply pg_O.w <;> first | assumption | omega)) | (apply pg_office.b1 (R := f21) (B := f22) <;> first | assumption | omega | (apply pg_O.s0 <;> first | assumption | omega) | (apply pg_O.b0 <;> first | assumption | omega)) | (apply pg_office.b2 (R := f21) (B := f22) <;> first | assumption | omega | (apply pg_O.s0 <;> first | assumption | omega) | (apply pg_O.b0 <;> first | assumption | omega) | (apply pg_items.pn <;> first | assumption | omega)), by omega, by rw [ht]; exact hP9, va_K.moved hW.alike hK9, hD9⟩)⟩, hS.F ht⟩) hS.2.2 dX12_readOffice_230
  exact hL54 _ 0 0 0 fn8 f22 H locs ls (by decide) (by decide) (by decide) (by decide) (by decide) (by decide) (by first | assumption | (apply pm_RR.init <;> first | assumption | decide)) (by first | assumption | exact pm_BG.zero (by decide) | (apply pm_BG.add <;> first | assumption | omega)) (by first | assumption | (apply pg_O.ini <;> first | assumption | omega | decide | (apply pg_ur.mk <;> first | assumption | decide)) | (apply pg_O.s1 <;> first | assumption | omega) | (apply pg_O.b1 <;> first | assumption | omega)) (by first | omega | ((have h09 : ((0 : Int32)).toInt = 0 := by decide); omega)) (Nat.lt_succ_self _) hP hD hS (lv_sub hl [0, 1, 2] rfl)
def q_X12_takeOffice : List Cond := .code yX12_takeOffice cX12_takeOffice 2 (some .int) :: (([.fieldLink RX12 262 "LeftArgumentsModel" "isOffice" "Z", .fieldLink RX12 241 "LeftArgumentsModel" "readBags" "I", .fieldLink RX12 266 "LeftArgumentsModel" "toldMany" "I", .fieldLink RX12 52 "LeftArgumentsModel" "now" "[I", .fieldLink RX12 46 "LeftArgumentsModel" "rule" "[I", .fieldLink RX12 272 "LeftArgumentsModel" "noted" "I", .fieldLink RX12 275 "LeftArgumentsModel" "acts" "I", .fieldLink RX12 278 "LeftArgumentsModel" "hasImage" "Z", .code yX12_layBag cX12_layBag 3 none, .fieldLink RX12 49 "LeftArgumentsModel" "bag" "[I", .code yX12_set cX12_set 4 none, .initialized RX12, .instanceMethod yX12_set, .selects RX12 yX12_set yX12_set, .methodLink RX12 258 yX12_set, .instanceMethod yX12_layBag, .selects RX12 yX12_layBag yX12_layBag, .methodLink RX12 269 yX12_layBag, .fieldLink RX12 43 "LeftArgumentsModel" "readBag" "[I", .fieldLink RX12 40 "LeftArgumentsModel" "readRule" "[I"] : List Cond) ++ wsX120)
set_option maxRecDepth 20000 in
theorem g_X12_takeOffice_0 : GoodIn q_X12_takeOffice (wsV RX12 269 RX12 yX12_layBag q_X12_layBag) := goodIn_app (goodIn_r _ [18, 16, 17, 12] rfl (by decide +kernel)) (goodIn_ca (goodIn_r (.code yX12_layBag cX12_layBag 3 none :: [.fieldLink RX12 49 "LeftArgumentsModel" "bag" "[I", .code yX12_set cX12_set 4 none, .fieldLink RX12 52 "LeftArgumentsModel" "now" "[I", .initialized RX12, .instanceMethod yX12_set, .selects RX12 yX12_set yX12_set, .methodLink RX12 258 yX12_set]) [9, 10, 11, 4, 12, 13, 14, 15] rfl (by decide +kernel)) (goodIn_sub (fun _ h => List.mem_cons_of_mem _ (List.mem_append_right _ h)) gwX12))
set_option maxHeartbeats 4000000 in
set_option maxRecDepth 100000 in
theorem k_X12_takeOffice (l : Launch) (dC : Nat → ClassId) (dI : Nat → Nat → Nat) (h0 : Nat) (h1 : Nat) (h2 : Nat) (h3 : Nat) (h4 : Nat) (h5 : Nat) (v0 : Int32) (r0 : Nat) (v1 : Int32) (v2 : Int32) (v3 : Int32) (v4 : Int32) (r1 : Nat) (r2 : Nat) (r3 : Nat) (r4 : Nat) (r5 : Nat) (r6 : Nat) (r7 : Nat) (v5 : Int32) (v6 : Int32) (r8 : Nat) (r9 : Nat) (v7 : Int32) (v8 : Int32) (v9 : Int32) (r10 : Nat) (v10 : Int32) (v11 : Int32) (r11 : Nat) (v12 : Int32) (v13 : Int32) (r12 : Nat) (v14 : Int32) (w15 : Int64) (r13 : Nat) (v16 : Int32) (v17 : Int32) (r14 : Nat) (r15 : Nat) (r16 : Nat) (r17 : Nat) (r18 : Nat) (r19 : Nat) (v18 : Int32) (r20 : Nat) (r21 : Nat) (r22 : Nat) (v19 : Int32) (g0 : ClassId) (f20 : Nat → Int32) (g1 : ClassId) (f21 : Nat → Int32) (g2 : ClassId) (f22 : Nat → Int32) (g3 : ClassId) (f23 : Nat → Int32) (g4 : ClassId) (f24 : Nat → Int32) (i_v1 : 0 ≤ v1.toInt ∧ v1.toInt ≤ 240) (i_v5 : 0 ≤ v5.toInt ∧ v5.toInt ≤ 4) (i_v6 : 0 ≤ v6.toInt ∧ v6.toInt ≤ 4) (i_v7 : 0 ≤ v7.toInt ∧ v7.toInt ≤ 8) (i_v8 : 0 ≤ v8.toInt ∧ v8.toInt ≤ 8) (i_v9 : 0 ≤ v9.toInt ∧ v9.toInt ≤ 1) (i_v10 : -1 ≤ v10.toInt ∧ v10.toInt ≤ 3) (i_v14 : 0 ≤ v14.toInt ∧ v14.toInt ≤ 40) (i_v18 : 0 ≤ v18.toInt ∧ v18.toInt ≤ 10) (i_v19 : 0 ≤ v19.toInt ∧ v19.toInt ≤ 1) (ia_f22 : (pm_RU f22)) (ia_f24 : (pm_NW f24)) (pp0 : pm_RR f20) (pp1 : pm_BG v7 f21) (sz : Nat) : Met l yX12_takeOffice q_X12_takeOffice ({ frames := 2, cells := 0, slots := 0, locals := 45 }) (va_Pc [.ref h0] (fun U => U.heap.size = sz ∧ va_P (dC, dI) vwCl (wd_3c5bdecc h0 v0 r0 v1 v2 v3 v4 r1 r2 r3 r4 r5 r6 r7 v5 v6 r8 r9 h1 h2 v7 h3 h4 v8 v9 h5 r10 v10 v11 r11 v12 v13 r12 v14 w15 r13 v16 v17 r14 r15 r16 r17 r18 r19 v18 r20 r21 r22 v19 h1 g0 f20 h2 g1 f21 h3 g2 f22 h4 g3 f23 h5 g4 f24) U.heap ∧ va_K (dC, dI) vwCl [(g0, .int), (g1, .int), (g2, .int), (g3, .int), (g4, .int)] U ∧ va_D (fun _ => True) (wd_3c5bdecc h0 v0 r0 v1 v2 v3 v4 r1 r2 r3 r4 r5 r6 r7 v5 v6 r8 r9 h1 h2 v7 h3 h4 v8 v9 h5 r10 v10 v11 r11 v12 v13 r12 v14 w15 r13 v16 v17 r14 r15 r16 r17 r18 r19 v18 r20 r21 r22 v19 h1 g0 f20 h2 g1 f21 h3 g2 f22 h4 g3 f23 h5 g4 f24))) (va_Qi (fun (r : Int32) (r9 : Int32) => r9 = r) (fun (r : Int32) (t : State) => (∃ (o_h0_22 : Int32) (o_h3 : Nat → Int32) (o_h4 : Nat → Int32) (o_h5 : Nat → Int32), 0 ≤ o_h0_22.toInt ∧ o_h0_22.toInt ≤ 8 ∧ (pm_RU o_h3) ∧ (pm_NW o_h5) ∧ (0 ≤ r.toInt) ∧ (r.toInt ≤ 8) ∧ (1 ≤ (o_h3 1).toInt) ∧ (pm_BG o_h0_22 o_h4) ∧ (r.toInt = v7.toInt) ∧ va_P (dC, dI) vwCl (wd_3c5bdecc h0 v0 r0 v1 v2 v3 v4 r1 r2 r3 r4 r5 r6 r7 v5 v6 r8 r9 h1 h2 v7 h3 h4 o_h0_22 1 h5 r10 v10 v11 r11 v12 v13 r12 0 w15 r13 v16 v17 r14 r15 r16 r17 r18 r19 0 r20 r21 r22 0 h1 g0 f20 h2 g1 f21 h3 g2 o_h3 h4 g3 o_h4 h5 g4 o_h5) t.heap ∧ va_K (dC, dI) vwCl [] t ∧ va_D (va_A (wd_3c5bdecc h0 v0 r0 v1 v2 v3 v4 r1 r2 r3 r4 r5 r6 r7 v5 v6 r8 r9 h1 h2 v7 h3 h4 v8 v9 h5 r10 v10 v11 r11 v12 v13 r12 v14 w15 r13 v16 v17 r14 r15 r16 r17 r18 r19 v18 r20 r21 r22 v19 h1 g0 f20 h2 g1 f21 h3 g2 f22 h4 g3 f23 h5 g4 f24) sz) (wd_3c5bdecc h0 v0 r0 v1 v2 v3 v4 r1 r2 r3 r4 r5 r6 r7 v5 v6 r8 r9 h1 h2 v7 h3 h4 o_h0_22 1 h5 r10 v10 v11 r11 v12 v13 r12 0 w15 r13 v16 v17 r14 r15 r16 r17 r18 r19 0 r20 r21 r22 0 h1 g0 f20 h2 g1 f21 h3 g2 o_h3 h4 g3 o_h4 h5 g4 o_h5))) (va_A (wd_3c5bdecc h0 v0 r0 v1 v2 v3 v4 r1 r2 r3 r4 r5 r6 r7 v5 v6 r8 r9 h1 h2 v7 h3 h4 v8 v9 h5 r10 v10 v11 r11 v12 v13 r12 v14 w15 r13 v16 v17 r14 r15 r16 r17 r18 r19 v18 r20 r21 r22 v19 h1 g0 f20 h2 g1 f21 h3 g2 f22 h4 g3 f23 h5 g4 f24) sz)) 0 0 (va_A (wd_3c5bdecc h0 v0 r0 v1 v2 v3 v4 r1 r2 r3 r4 r5 r6 r7 v5 v6 r8 r9 h1 h2 v7 h3 h4 v8 v9 h5 r10 v10 v11 r11 v12 v13 r12 v14 w15 r13 v16 v17 r14 r15 r16 r17 r18 r19 v18 r20 r21 r22 v19 h1 g0 f20 h2 g1 f21 h3 g2 f22 h4 g3 f23 h5 g4 f24) sz) := by
  refine Met.ofW (cc := cX12_takeOffice) (maxL := 2) (ret := (some .int)) (by decide) rfl ?_
  intro p e s m args below meth c s₁ B hml hv
  obtain ⟨i_v1a, i_v1b⟩ := i_v1
  obtain ⟨i_v5a, i_v5b⟩ := i_v5
  obtain ⟨i_v6a, i_v6b⟩ := i_v6
  obtain ⟨i_v7a, i_v7b⟩ := i_v7
  obtain ⟨i_v8a, i_v8b⟩ := i_v8
  obtain ⟨i_v9a, i_v9b⟩ := i_v9
  obtain ⟨i_v10a, i_v10b⟩ := i_v10
  obtain ⟨i_v14a, i_v14b⟩ := i_v14
  obtain ⟨i_v18a, i_v18b⟩ := i_v18
  obtain ⟨i_v19a, i_v19b⟩ := i_v19
  obtain ⟨rfl, hsz, hP, hK, hD0⟩ := hv
  have hx := B.exec
  have hb := B.bytes
  have hr := B.returns
  have hts := atoms_spec (ws := q_X12_takeOffice) B.pre
  have hown : s.vm.findClass RX12 = some m.cls := findClass_of_methodNamed B.named
  have hlocks := B.notSynchronized
  subst hsz
  have hD := hD0.self (sz := s.heap.size)
  generalize hAe : va_A (wd_3c5bdecc h0 v0 r0 v1 v2 v3 v4 r1 r2 r3 r4 r5 r6 r7 v5 v6 r8 r9 h1 h2 v7 h3 h4 v8 v9 h5 r10 v10 v11 r11 v12 v13 r12 v14 w15 r13 v16 v17 r14 r15 r16 r17 r18 r19 v18 r20 r21 r22 v19 h1 g0 f20 h2 g1 f21 h3 g2 f22 h4 g3 f23 h5 g4 f24) s.heap.size = A at hD ⊢
  have hA : ∀ q : Nat, s.heap.size ≤ q → A q := fun q h => by rw [← hAe]; exact Or.inr h
  have hS : va_S A s.heap s.heap [] := va_S.rf
  generalize hQ : (MQ below _ _ s 0 0 A) = Q
  have hl := lv_entry ([.ref h0]) (n := 2) (Nat.le_of_ble_eq_true rfl)
  rw [lg_entry_eq]
  generalize (lg_sl ([.ref h0]) ++ List.replicate (2 - (lg_sl ([.ref h0])).length) Slot.unset).toArray = ls at hl ⊢
  have hl : lv_has ls 2 [(0, .ref h0)] := hl
  obtain ⟨H, hH⟩ : ∃ H : Heap, H = s.heap := ⟨_, rfl⟩
  obtain ⟨locs, hlocs⟩ : ∃ y : List Loc, y = [] := ⟨_, rfl⟩
  have hS : va_S A s.heap H locs := by rw [hH, hlocs]; exact va_S.rf
  have hP : va_P (dC, dI) vwCl (wd_3c5bdecc h0 v0 r0 v1 v2 v3 v4 r1 r2 r3 r4 r5 r6 r7 v5 v6 r8 r9 h1 h2 v7 h3 h4 v8 v9 h5 r10 v10 v11 r11 v12 v13 r12 v14 w15 r13 v16 v17 r14 r15 r16 r17 r18 r19 v18 r20 r21 r22 v19 h1 g0 f20 h2 g1 f21 h3 g2 f22 h4 g3 f23 h5 g4 f24) H := by rw [hH]; exact hP
  rw [← hH, ← hlocs]
  refine lv_aload_n hx hb dX12_takeOffice_0 rfl (lv_at hl 0 rfl) ?_
  refine lv_iconst (v := 1) hx hb dX12_takeOffice_1 (by decide) ?_
  refine va_put (D := (dC, dI)) (ci := 12) (v := .int 1) (ty := .boolean) (C := RX12) (T := TX12) (N := 48) hx hb hts (fun _ h => List.mem_cons_of_mem _ (List.mem_append_right _ h)) tyX12 tyX12_ok nmX12 hown hK hP hD hS 0 rfl rfl 23 (by decide) (hts (.fieldLink RX12 262 "LeftArgumentsModel" "isOffice" "Z") (List.mem_cons_of_mem _ (List.mem_append_left _ (List.mem_of_getElem? (i := 0) rfl)))) (fun _ h9 => h9) rfl (by decide +kernel) rfl rfl (Nat.le_of_ble_eq_true rfl) dX12_takeOffice_2 (fun H locs hP hD hS => ?_)
  have hP : va_P (dC, dI) vwCl (wd_3c5bdecc h0 v0 r0 v1 v2 v3 v4 r1 r2 r3 r4 r5 r6 r7 v5 v6 r8 r9 h1 h2 v7 h3 h4 v8 1 h5 r10 v10 v11 r11 v12 v13 r12 v14 w15 r13 v16 v17 r14 r15 r16 r17 r18 r19 v18 r20 r21 r22 v19 h1 g0 f20 h2 g1 f21 h3 g2 f22 h4 g3 f23 h5 g4 f24) H := hP
  have hD : va_D A (wd_3c5bdecc h0 v0 r0 v1 v2 v3 v4 r1 r2 r3 r4 r5 r6 r7 v5 v6 r8 r9 h1 h2 v7 h3 h4 v8 1 h5 r10 v10 v11 r11 v12 v13 r12 v14 w15 r13 v16 v17 r14 r15 r16 r17 r18 r19 v18 r20 r21 r22 v19 h1 g0 f20 h2 g1 f21 h3 g2 f22 h4 g3 f23 h5 g4 f24) := hD
  refine lv_aload_n hx hb dX12_takeOffice_5 rfl (lv_at hl 0 rfl) ?_
  refine lv_aload_n hx hb dX12_takeOffice_6 rfl (lv_at hl 0 rfl) ?_
  refine va_get (D := (dC, dI)) (ci := 12) (v := .int v7) (C := RX12) (T := TX12) (N := 48) hx hb hts (fun _ h => List.mem_cons_of_mem _ (List.mem_append_right _ h)) hown hK hP 0 rfl rfl 19 (by decide) (hts (.fieldLink RX12 241 "LeftArgumentsModel" "readBags" "I") (List.mem_cons_of_mem _ (List.mem_append_left _ (List.mem_of_getElem? (i := 1) rfl)))) (fun _ h9 => h9) rfl dX12_takeOffice_7 ?_
  refine va_put (D := (dC, dI)) (ci := 12) (v := .int v7) (ty := .int) (C := RX12) (T := TX12) (N := 48) hx hb hts (fun _ h => List.mem_cons_of_mem _ (List.mem_append_right _ h)) tyX12 tyX12_ok nmX12 hown hK hP hD hS 0 rfl rfl 22 (by decide) (hts (.fieldLink RX12 266 "LeftArgumentsModel" "toldMany" "I") (List.mem_cons_of_mem _ (List.mem_append_left _ (List.mem_of_getElem? (i := 2) rfl)))) (fun _ h9 => h9) rfl (by decide +kernel) rfl rfl (Nat.le_of_ble_eq_true rfl) dX12_takeOffice_10 (fun H locs hP hD hS => ?_)
  have hP : va_P (dC, dI) vwCl (wd_3c5bdecc h0 v0 r0 v1 v2 v3 v4 r1 r2 r3 r4 r5 r6 r7 v5 v6 r8 r9 h1 h2 v7 h3 h4 v7 1 h5 r10 v10 v11 r11 v12 v13 r12 v14 w15 r13 v16 v17 r14 r15 r16 r17 r18 r19 v18 r20 r21 r22 v19 h1 g0 f20 h2 g1 f21 h3 g2 f22 h4 g3 f23 h5 g4 f24) H := hP
  have hD : va_D A (wd_3c5bdecc h0 v0 r0 v1 v2 v3 v4 r1 r2 r3 r4 r5 r6 r7 v5 v6 r8 r9 h1 h2 v7 h3 h4 v7 1 h5 r10 v10 v11 r11 v12 v13 r12 v14 w15 r13 v16 v17 r14 r15 r16 r17 r18 r19 v18 r20 r21 r22 v19 h1 g0 f20 h2 g1 f21 h3 g2 f22 h4 g3 f23 h5 g4 f24) := hD
  refine lv_iconst (v := 0) hx hb dX12_takeOffice_13 (by decide) ?_
  refine lv_istore_n (lv' := [(1, .int 0), (0, .ref h0)]) hx hb dX12_takeOffice_14 rfl hl (by decide) rfl (fun ls hl => ?_)
  have hL11 : ∀ (n9 : Nat), ∀ (x7 : Int32) (fn8 : Nat → Int32) (H : Heap) (locs : List Loc) (ls : Array Slot), 0 ≤ x7.toInt → x7.toInt ≤ 4 → (pm_ANY fn8) → (fn8 = va_cpy f20 f22 0 0 x7.toInt.toNat) → (4 - x7.toInt).toNat < n9 → va_P (dC, dI) vwCl (wd_3c5bdecc h0 v0 r0 v1 v2 v3 v4 r1 r2 r3 r4 r5 r6 r7 v5 v6 r8 r9 h1 h2 v7 h3 h4 v7 1 h5 r10 v10 v11 r11 v12 v13 r12 v14 w15 r13 v16 v17 r14 r15 r16 r17 r18 r19 v18 r20 r21 r22 v19 h1 g0 f20 h2 g1 f21 h3 g2 fn8 h4 g3 f23 h5 g4 f24) H → va_D A (wd_3c5bdecc h0 v0 r0 v1 v2 v3 v4 r1 r2 r3 r4 r5 r6 r7 v5 v6 r8 r9 h1 h2 v7 h3 h4 v7 1 h5 r10 v10 v11 r11 v12 v13 r12 v14 w15 r13 v16 v17 r14 r15 r16 r17 r18 r19 v18 r20 r21 r22 v19 h1 g0 f20 h2 g1 f21 h3 g2 fn8 h4 g3 f23 h5 g4 f24) → va_S A s.heap H locs → lv_has ls 2 [(1, .int x7), (0, .ref h0)] → W p l e ({ frames := 2, cells := 0, slots := 0, locals := 45 }) s m ([.ref h0] : List Value).toArray below meth c H locs 0 0 Q (F0 m 15 ls []) := by
    intro n9
    induction n9 with
    | zero => intro x7 fn8 H locs ls qa_x7 qb_x7 ia_fn8 gh0_hL11 hm9 hP hD hS hl; exact absurd hm9 (Nat.not_lt_zero _)
    | succ n9 ih_hL11 =>
      intro x7 fn8 H locs ls qa_x7 qb_x7 ia_fn8 gh0_hL11 hm9 hP hD hS hl
      refine lv_iload_n hx hb dX12_takeOffice_15 rfl (lv_at hl 0 rfl) ?_
      refine lv_iconst (v := 4) hx hb dX12_takeOffice_16 (by decide) ?_
      refine lv_icmp_ge (tgt := 38) hx hb dX12_takeOffice_17 (by decide) (fun c12 => ?_) (fun c12 => ?_)
      · skip
        have fc12 : 4 ≤ x7.toInt := Int32.le_iff_toInt_le.mp c12
        refine lv_iconst (v := 0) hx hb dX12_takeOffice_38 (by decide) ?_
        have hRR : pm_RR fn8 := by apply pm_RR.cp pp0 <;> first | assumption | omega
        have ia_fn8 : pm_RU fn8 := hRR.ru
        refine lv_istore_n (lv' := [(1, .int 0), (0, .ref h0)]) hx hb dX12_takeOffice_39 rfl hl (by decide) rfl (fun ls hl => ?_)
        have hL33 : ∀ (n9 : Nat), ∀ (x29 : Int32) (fn30 : Nat → Int32) (H : Heap) (locs : List Loc) (ls : Array Slot), 0 ≤ x29.toInt → x29.toInt ≤ 40 → (fn30 = va_cpy f21 f23 0 0 x29.toInt.toNat) → (40 - x29.toInt).toNat < n9 → va_P (dC, dI) vwCl (wd_3c5bdecc h0 v0 r0 v1 v2 v3 v4 r1 r2 r3 r4 r5 r6 r7 v5 v6 r8 r9 h1 h2 v7 h3 h4 v7 1 h5 r10 v10 v11 r11 v12 v13 r12 v14 w15 r13 v16 v17 r14 r15 r16 r17 r18 r19 v18 r20 r21 r22 v19 h1 g0 f20 h2 g1 f21 h3 g2 fn8 h4 g3 fn30 h5 g4 f24) H → va_D A (wd_3c5bdecc h0 v0 r0 v1 v2 v3 v4 r1 r2 r3 r4 r5 r6 r7 v5 v6 r8 r9 h1 h2 v7 h3 h4 v7 1 h5 r10 v10 v11 r11 v12 v13 r12 v14 w15 r13 v16 v17 r14 r15 r16 r17 r18 r19 v18 r20 r21 r22 v19 h1 g0 f20 h2 g1 f21 h3 g2 fn8 h4 g3 fn30 h5 g4 f24) → va_S A s.heap H locs → lv_has ls 2 [(1, .int x29), (0, .ref h0)] → W p l e ({ frames := 2, cells := 0, slots := 0, locals := 45 }) s m ([.ref h0] : List Value).toArray below meth c H locs 0 0 Q (F0 m 40 ls []) := by
          intro n9
          induction n9 with
          | zero => intro x29 fn30 H locs ls qa_x29 qb_x29 gh0_hL33 hm9 hP hD hS hl; exact absurd hm9 (Nat.not_lt_zero _)
          | succ n9 ih_hL33 =>
            intro x29 fn30 H locs ls qa_x29 qb_x29 gh0_hL33 hm9 hP hD hS hl
            refine lv_iload_n hx hb dX12_takeOffice_40 rfl (lv_at hl 0 rfl) ?_
            refine lv_bipush (v := 40) hx hb dX12_takeOffice_41 (by decide) ?_
            refine lv_icmp_ge (tgt := 64) hx hb dX12_takeOffice_43 (by decide) (fun c34 => ?_) (fun c34 => ?_)
            · skip
              have fc34 : 40 ≤ x29.toInt := Int32.le_iff_toInt_le.mp c34
              refine lv_iconst (v := 0) hx hb dX12_takeOffice_64 (by decide) ?_
              have hBG : pm_BG v7 fn30 := by apply pm_BG.cp pp1 <;> first | assumption | omega
              refine lv_istore_n (lv' := [(1, .int 0), (0, .ref h0)]) hx hb dX12_takeOffice_65 rfl hl (by decide) rfl (fun ls hl => ?_)
              have hL69 : ∀ (n9 : Nat), ∀ (x65 : Int32) (fn66 : Nat → Int32) (H : Heap) (locs : List Loc) (ls : Array Slot), 0 ≤ x65.toInt → x65.toInt ≤ 247 → (pm_ANY fn66) → (pm_zr fn66 x65.toInt.toNat) → (247 - x65.toInt).toNat < n9 → va_P (dC, dI) vwCl (wd_3c5bdecc h0 v0 r0 v1 v2 v3 v4 r1 r2 r3 r4 r5 r6 r7 v5 v6 r8 r9 h1 h2 v7 h3 h4 v7 1 h5 r10 v10 v11 r11 v12 v13 r12 v14 w15 r13 v16 v17 r14 r15 r16 r17 r18 r19 v18 r20 r21 r22 v19 h1 g0 f20 h2 g1 f21 h3 g2 fn8 h4 g3 fn30 h5 g4 fn66) H → va_D A (wd_3c5bdecc h0 v0 r0 v1 v2 v3 v4 r1 r2 r3 r4 r5 r6 r7 v5 v6 r8 r9 h1 h2 v7 h3 h4 v7 1 h5 r10 v10 v11 r11 v12 v13 r12 v14 w15 r13 v16 v17 r14 r15 r16 r17 r18 r19 v18 r20 r21 r22 v19 h1 g0 f20 h2 g1 f21 h3 g2 fn8 h4 g3 fn30 h5 g4 fn66) → va_S A s.heap H locs → lv_has ls 2 [(1, .int x65), (0, .ref h0)] → W p l e ({ frames := 2, cells := 0, slots := 0, locals := 45 }) s m ([.ref h0] : List Value).toArray below meth c H locs 0 0 Q (F0 m 66 ls []) := by
                intro n9
                induction n9 with
                | zero => intro x65 fn66 H locs ls qa_x65 qb_x65 ia_fn66 gh0_hL69 hm9 hP hD hS hl; exact absurd hm9 (Nat.not_lt_zero _)
                | succ n9 ih_hL69 =>
                  intro x65 fn66 H locs ls qa_x65 qb_x65 ia_fn66 gh0_hL69 hm9 hP hD hS hl
                  refine lv_iload_n hx hb dX12_takeOffice_66 rfl (lv_at hl 0 rfl) ?_
                  refine lv_sipush (v := 247) hx hb dX12_takeOffice_67 (by decide) ?_
                  refine lv_icmp_ge (tgt := 86) hx hb dX12_takeOffice_70 (by decide) (fun c70 => ?_) (fun c70 => ?_)
                  · skip
                    have fc70 : 247 ≤ x65.toInt := Int32.le_iff_toInt_le.mp c70
                    refine lv_iconst (v := 0) hx hb dX12_takeOffice_86 (by decide) ?_
                    have ia_fn66 : pm_NW fn66 := by apply pm_zr.nw <;> first | assumption | omega
                    refine lv_istore_n (lv' := [(1, .int 0), (0, .ref h0)]) hx hb dX12_takeOffice_87 rfl hl (by decide) rfl (fun ls hl => ?_)
                    have hL87 : ∀ (n9 : Nat), ∀ (x83 : Int32) (fn84 : Nat → Int32) (H : Heap) (locs : List Loc) (ls : Array Slot), 0 ≤ x83.toInt → x83.toInt ≤ 8 → (pm_NW fn84) → (8 - x83.toInt).toNat < n9 → va_P (dC, dI) vwCl (wd_3c5bdecc h0 v0 r0 v1 v2 v3 v4 r1 r2 r3 r4 r5 r6 r7 v5 v6 r8 r9 h1 h2 v7 h3 h4 v7 1 h5 r10 v10 v11 r11 v12 v13 r12 v14 w15 r13 v16 v17 r14 r15 r16 r17 r18 r19 v18 r20 r21 r22 v19 h1 g0 f20 h2 g1 f21 h3 g2 fn8 h4 g3 fn30 h5 g4 fn84) H → va_D A (wd_3c5bdecc h0 v0 r0 v1 v2 v3 v4 r1 r2 r3 r4 r5 r6 r7 v5 v6 r8 r9 h1 h2 v7 h3 h4 v7 1 h5 r10 v10 v11 r11 v12 v13 r12 v14 w15 r13 v16 v17 r14 r15 r16 r17 r18 r19 v18 r20 r21 r22 v19 h1 g0 f20 h2 g1 f21 h3 g2 fn8 h4 g3 fn30 h5 g4 fn84) → va_S A s.heap H locs → lv_has ls 2 [(1, .int x83), (0, .ref h0)] → W p l e ({ frames := 2, cells := 0, slots := 0, locals := 45 }) s m ([.ref h0] : List Value).toArray below meth c H locs 0 0 Q (F0 m 88 ls []) := by
                      intro n9
                      induction n9 with
                      | zero => intro x83 fn84 H locs ls qa_x83 qb_x83 ia_fn84 hm9 hP hD hS hl; exact absurd hm9 (Nat.not_lt_zero _)
                      | succ n9 ih_hL87 =>
                        intro x83 fn84 H locs ls qa_x83 qb_x83 ia_fn84 hm9 hP hD hS hl
                        refine lv_iload_n hx hb dX12_takeOffice_88 rfl (lv_at hl 0 rfl) ?_
                        refine lv_aload_n hx hb dX12_takeOffice_89 rfl (lv_at hl 1 rfl) ?_
                        refine va_get (D := (dC, dI)) (ci := 12) (v := .int v7) (C := RX12) (T := TX12) (N := 48) hx hb hts (fun _ h => List.mem_cons_of_mem _ (List.mem_append_right _ h)) hown hK hP 0 rfl rfl 22 (by decide) (hts (.fieldLink RX12 266 "LeftArgumentsModel" "toldMany" "I") (List.mem_cons_of_mem _ (List.mem_append_left _ (List.mem_of_getElem? (i := 2) rfl)))) (fun _ h9 => h9) rfl dX12_takeOffice_90 ?_
                        refine lv_icmp_ge (tgt := 107) hx hb dX12_takeOffice_93 (by decide) (fun c88 => ?_) (fun c88 => ?_)
                        · skip
                          have fc88 : v7.toInt ≤ x83.toInt := Int32.le_iff_toInt_le.mp c88
                          have r1c88 := Int32.toInt_lt x83
                          have r2c88 := Int32.toInt_lt v7
                          have r3c88 := Int32.le_toInt x83
                          have r4c88 := Int32.le_toInt v7
                          refine lv_aload_n hx hb dX12_takeOffice_107 rfl (lv_at hl 1 rfl) ?_
                          refine va_get (D := (dC, dI)) (ci := 12) (v := .ref h5) (C := RX12) (T := TX12) (N := 48) hx hb hts (fun _ h => List.mem_cons_of_mem _ (List.mem_append_right _ h)) hown hK hP 0 rfl rfl 24 (by decide) (hts (.fieldLink RX12 52 "LeftArgumentsModel" "now" "[I") (List.mem_cons_of_mem _ (List.mem_append_left _ (List.mem_of_getElem? (i := 3) rfl)))) (fun _ h9 => h9) rfl dX12_takeOffice_108 ?_
                          refine lv_bipush (v := 64) hx hb dX12_takeOffice_111 (by decide) ?_
                          refine lv_aload_n hx hb dX12_takeOffice_113 rfl (lv_at hl 1 rfl) ?_
                          refine va_get (D := (dC, dI)) (ci := 12) (v := .ref h3) (C := RX12) (T := TX12) (N := 48) hx hb hts (fun _ h => List.mem_cons_of_mem _ (List.mem_append_right _ h)) hown hK hP 0 rfl rfl 20 (by decide) (hts (.fieldLink RX12 46 "LeftArgumentsModel" "rule" "[I") (List.mem_cons_of_mem _ (List.mem_append_left _ (List.mem_of_getElem? (i := 4) rfl)))) (fun _ h9 => h9) rfl dX12_takeOffice_114 ?_
                          refine lv_iconst (v := 3) hx hb dX12_takeOffice_117 (by decide) ?_
                          refine va_iald hx hb hK hP 3 2 rfl rfl (pv_c (x := 3) (n := 4) (by decide)) dX12_takeOffice_118 ?_
                          refine lv_topi (fun t89 et89 => ?_)
                          refine va_iast hx hb hK hP hD hS 5 4 rfl rfl (pv_c (x := 64) (n := 247) (by decide)) dX12_takeOffice_119 (fun H locs hP hD hS => ?_)
                          obtain ⟨fn90, efn90⟩ : ∃ g : Nat → Int32, g = upd fn84 (Int32.toNatClampNeg 64) t89 := ⟨_, rfl⟩
                          rw [← efn90] at hP hD
                          have ia_fn90 : pm_NW fn90 := by rw [efn90]; exact pm_NW.st ia_fn84 (z := 64) (y := t89.toInt) (by decide) rfl (by omega) (fun b9 h8 h9 => ⟨fun _ => ⟨by omega, by omega⟩, fun _ => ⟨by omega, by omega⟩⟩) (fun _ => ⟨by omega, by omega⟩) (fun b9 h8 h9 => ⟨fun _ => by omega, fun _ => by omega⟩)
                          have hP : va_P (dC, dI) vwCl (wd_3c5bdecc h0 v0 r0 v1 v2 v3 v4 r1 r2 r3 r4 r5 r6 r7 v5 v6 r8 r9 h1 h2 v7 h3 h4 v7 1 h5 r10 v10 v11 r11 v12 v13 r12 v14 w15 r13 v16 v17 r14 r15 r16 r17 r18 r19 v18 r20 r21 r22 v19 h1 g0 f20 h2 g1 f21 h3 g2 fn8 h4 g3 fn30 h5 g4 fn90) H := hP
                          have hD : va_D A (wd_3c5bdecc h0 v0 r0 v1 v2 v3 v4 r1 r2 r3 r4 r5 r6 r7 v5 v6 r8 r9 h1 h2 v7 h3 h4 v7 1 h5 r10 v10 v11 r11 v12 v13 r12 v14 w15 r13 v16 v17 r14 r15 r16 r17 r18 r19 v18 r20 r21 r22 v19 h1 g0 f20 h2 g1 f21 h3 g2 fn8 h4 g3 fn30 h5 g4 fn90) := hD
                          refine lv_aload_n hx hb dX12_takeOffice_120 rfl (lv_at hl 1 rfl) ?_
                          refine lv_iconst (v := 0) hx hb dX12_takeOffice_121 (by decide) ?_
                          refine va_put (D := (dC, dI)) (ci := 12) (v := .int 0) (ty := .int) (C := RX12) (T := TX12) (N := 48) hx hb hts (fun _ h => List.mem_cons_of_mem _ (List.mem_append_right _ h)) tyX12 tyX12_ok nmX12 hown hK hP hD hS 0 rfl rfl 43 (by decide) (hts (.fieldLink RX12 272 "LeftArgumentsModel" "noted" "I") (List.mem_cons_of_mem _ (List.mem_append_left _ (List.mem_of_getElem? (i := 5) rfl)))) (fun _ h9 => h9) rfl (by decide +kernel) rfl rfl (Nat.le_of_ble_eq_true rfl) dX12_takeOffice_122 (fun H locs hP hD hS => ?_)
                          have hP : va_P (dC, dI) vwCl (wd_3c5bdecc h0 v0 r0 v1 v2 v3 v4 r1 r2 r3 r4 r5 r6 r7 v5 v6 r8 r9 h1 h2 v7 h3 h4 v7 1 h5 r10 v10 v11 r11 v12 v13 r12 v14 w15 r13 v16 v17 r14 r15 r16 r17 r18 r19 0 r20 r21 r22 v19 h1 g0 f20 h2 g1 f21 h3 g2 fn8 h4 g3 fn30 h5 g4 fn90) H := hP
                          have hD : va_D A (wd_3c5bdecc h0 v0 r0 v1 v2 v3 v4 r1 r2 r3 r4 r5 r6 r7 v5 v6 r8 r9 h1 h2 v7 h3 h4 v7 1 h5 r10 v10 v11 r11 v12 v13 r12 v14 w15 r13 v16 v17 r14 r15 r16 r17 r18 r19 0 r20 r21 r22 v19 h1 g0 f20 h2 g1 f21 h3 g2 fn8 h4 g3 fn30 h5 g4 fn90) := hD
                          refine lv_aload_n hx hb dX12_takeOffice_125 rfl (lv_at hl 1 rfl) ?_
                          refine lv_iconst (v := 0) hx hb dX12_takeOffice_126 (by decide) ?_
                          refine va_put (D := (dC, dI)) (ci := 12) (v := .int 0) (ty := .int) (C := RX12) (T := TX12) (N := 48) hx hb hts (fun _ h => List.mem_cons_of_mem _ (List.mem_append_right _ h)) tyX12 tyX12_ok nmX12 hown hK hP hD hS 0 rfl rfl 32 (by decide) (hts (.fieldLink RX12 275 "LeftArgumentsModel" "acts" "I") (List.mem_cons_of_mem _ (List.mem_append_left _ (List.mem_of_getElem? (i := 6) rfl)))) (fun _ h9 => h9) rfl (by decide +kernel) rfl rfl (Nat.le_of_ble_eq_true rfl) dX12_takeOffice_127 (fun H locs hP hD hS => ?_)
                          have hP : va_P (dC, dI) vwCl (wd_3c5bdecc h0 v0 r0 v1 v2 v3 v4 r1 r2 r3 r4 r5 r6 r7 v5 v6 r8 r9 h1 h2 v7 h3 h4 v7 1 h5 r10 v10 v11 r11 v12 v13 r12 0 w15 r13 v16 v17 r14 r15 r16 r17 r18 r19 0 r20 r21 r22 v19 h1 g0 f20 h2 g1 f21 h3 g2 fn8 h4 g3 fn30 h5 g4 fn90) H := hP
                          have hD : va_D A (wd_3c5bdecc h0 v0 r0 v1 v2 v3 v4 r1 r2 r3 r4 r5 r6 r7 v5 v6 r8 r9 h1 h2 v7 h3 h4 v7 1 h5 r10 v10 v11 r11 v12 v13 r12 0 w15 r13 v16 v17 r14 r15 r16 r17 r18 r19 0 r20 r21 r22 v19 h1 g0 f20 h2 g1 f21 h3 g2 fn8 h4 g3 fn30 h5 g4 fn90) := hD
                          refine lv_aload_n hx hb dX12_takeOffice_130 rfl (lv_at hl 1 rfl) ?_
                          refine lv_iconst (v := 0) hx hb dX12_takeOffice_131 (by decide) ?_
                          refine va_put (D := (dC, dI)) (ci := 12) (v := .int 0) (ty := .boolean) (C := RX12) (T := TX12) (N := 48) hx hb hts (fun _ h => List.mem_cons_of_mem _ (List.mem_append_right _ h)) tyX12 tyX12_ok nmX12 hown hK hP hD hS 0 rfl rfl 47 (by decide) (hts (.fieldLink RX12 278 "LeftArgumentsModel" "hasImage" "Z") (List.mem_cons_of_mem _ (List.mem_append_left _ (List.mem_of_getElem? (i := 7) rfl)))) (fun _ h9 => h9) rfl (by decide +kernel) rfl rfl (Nat.le_of_ble_eq_true rfl) dX12_takeOffice_132 (fun H locs hP hD hS => ?_)
                          have hP : va_P (dC, dI) vwCl (wd_3c5bdecc h0 v0 r0 v1 v2 v3 v4 r1 r2 r3 r4 r5 r6 r7 v5 v6 r8 r9 h1 h2 v7 h3 h4 v7 1 h5 r10 v10 v11 r11 v12 v13 r12 0 w15 r13 v16 v17 r14 r15 r16 r17 r18 r19 0 r20 r21 r22 0 h1 g0 f20 h2 g1 f21 h3 g2 fn8 h4 g3 fn30 h5 g4 fn90) H := hP
                          have hD : va_D A (wd_3c5bdecc h0 v0 r0 v1 v2 v3 v4 r1 r2 r3 r4 r5 r6 r7 v5 v6 r8 r9 h1 h2 v7 h3 h4 v7 1 h5 r10 v10 v11 r11 v12 v13 r12 0 w15 r13 v16 v17 r14 r15 r16 r17 r18 r19 0 r20 r21 r22 0 h1 g0 f20 h2 g1 f21 h3 g2 fn8 h4 g3 fn30 h5 g4 fn90) := hD
                          refine lv_aload_n hx hb dX12_takeOffice_135 rfl (lv_at hl 1 rfl) ?_
                          refine va_get (D := (dC, dI)) (ci := 12) (v := .int v7) (C := RX12) (T := TX12) (N := 48) hx hb hts (fun _ h => List.mem_cons_of_mem _ (List.mem_append_right _ h)) hown hK hP 0 rfl rfl 22 (by decide) (hts (.fieldLink RX12 266 "LeftArgumentsModel" "toldMany" "I") (List.mem_cons_of_mem _ (List.mem_append_left _ (List.mem_of_getElem? (i := 2) rfl)))) (fun _ h9 => h9) rfl dX12_takeOffice_136 ?_
                          subst hQ
                          have hP9 := hP.sub (ws' := (wd_3c5bdecc h0 v0 r0 v1 v2 v3 v4 r1 r2 r3 r4 r5 r6 r7 v5 v6 r8 r9 h1 h2 v7 h3 h4 v7 1 h5 r10 v10 v11 r11 v12 v13 r12 0 w15 r13 v16 v17 r14 r15 r16 r17 r18 r19 0 r20 r21 r22 0 h1 g0 f20 h2 g1 f21 h3 g2 fn8 h4 g3 fn30 h5 g4 fn90)) [0, 1, 2, 3, 4, 5] rfl
                          have hD9 := hD.sub (ws' := (wd_3c5bdecc h0 v0 r0 v1 v2 v3 v4 r1 r2 r3 r4 r5 r6 r7 v5 v6 r8 r9 h1 h2 v7 h3 h4 v7 1 h5 r10 v10 v11 r11 v12 v13 r12 0 w15 r13 v16 v17 r14 r15 r16 r17 r18 r19 0 r20 r21 r22 0 h1 g0 f20 h2 g1 f21 h3 g2 fn8 h4 g3 fn30 h5 g4 fn90)) [0, 1, 2, 3, 4, 5] (by decide) rfl
                          have hK9 := hK.sub (tys' := []) [] rfl
                          exact W.iret (v := v7) hx hb hr (fun t ht hW => ⟨⟨v7, v7, rfl, rfl, ⟨v7, fn8, fn30, fn90, i_v7a, i_v7b, ia_fn8, ia_fn90, by first | omega | decide, by first | omega | decide, by exact hRR.1.1, by exact hBG, by first | rfl | omega, by rw [ht]; exact hP9, va_K.moved hW.alike hK9, hD9⟩⟩, hS.F ht⟩) hS.2.2 dX12_takeOffice_139
                        · skip
                          have fc88 : ¬ (v7.toInt ≤ x83.toInt) := fun h9 => c88 (Int32.le_iff_toInt_le.mpr h9)
                          have r1c88 := Int32.toInt_lt x83
                          have r2c88 := Int32.toInt_lt v7
                          have r3c88 := Int32.le_toInt x83
                          have r4c88 := Int32.le_toInt v7
                          refine lv_aload_n hx hb dX12_takeOffice_96 rfl (lv_at hl 1 rfl) ?_
                          refine lv_iload_n hx hb dX12_takeOffice_97 rfl (lv_at hl 0 rfl) ?_
                          have hPc := hP.sub (ws' := (wd_8dccebc0 h0 v0 r0 v1 v2 v3 v4 r1 r2 r3 r4 r5 r6 r7 v5 v6 r8 r9 h1 h2 v7 h3 h4 v7 1 h5 r10 v10 v11 r11 v12 v13 r12 v14 w15 r13 v16 v17 r14 r15 r16 r17 r18 r19 v18 r20 r21 r22 v19 h4 g3 fn30 h5 g4 fn84)) [0, 4, 5] rfl
                          have hDc := hD.sub (ws' := (wd_8dccebc0 h0 v0 r0 v1 v2 v3 v4 r1 r2 r3 r4 r5 r6 r7 v5 v6 r8 r9 h1 h2 v7 h3 h4 v7 1 h5 r10 v10 v11 r11 v12 v13 r12 v14 w15 r13 v16 v17 r14 r15 r16 r17 r18 r19 v18 r20 r21 r22 v19 h4 g3 fn30 h5 g4 fn84)) [0, 4, 5] (by decide) rfl
                          have hKc := hK.sub (tys' := [(g3, .int), (g4, .int)]) [3, 4] rfl
                          have hFc := va_free (wc := (wd_8dccebc0 h0 v0 r0 v1 v2 v3 v4 r1 r2 r3 r4 r5 r6 r7 v5 v6 r8 r9 h1 h2 v7 h3 h4 v7 1 h5 r10 v10 v11 r11 v12 v13 r12 v14 w15 r13 v16 v17 r14 r15 r16 r17 r18 r19 v18 r20 r21 r22 v19 h4 g3 fn30 h5 g4 fn84)) hD hS hA [0, 4, 5] rfl
                          refine va_callv (va_runV (As := [.int x83]) (rest := []) ⟨hx, hb, hml, hown, hts⟩ (k_X12_layBag l dC dI h0 h4 h5 v0 r0 v1 v2 v3 v4 r1 r2 r3 r4 r5 r6 r7 v5 v6 r8 r9 h1 h2 v7 h3 v7 1 r10 v10 v11 r11 v12 v13 r12 v14 w15 r13 v16 v17 r14 r15 r16 r17 r18 r19 v18 r20 r21 r22 v19 g3 fn30 g4 fn84 x83 ⟨i_v1a, i_v1b⟩ ⟨i_v5a, i_v5b⟩ ⟨i_v6a, i_v6b⟩ ⟨i_v7a, i_v7b⟩ ⟨i_v7a, i_v7b⟩ ⟨by decide, by decide⟩ ⟨i_v10a, i_v10b⟩ ⟨i_v14a, i_v14b⟩ ⟨i_v18a, i_v18b⟩ ⟨i_v19a, i_v19b⟩ ⟨qa_x83, by first | omega | decide⟩ ia_fn84 (by refine hBG _ ?_ ?_ <;> omega) H.size) (cwV 1 hts g_X12_takeOffice_0 rfl rfl rfl (by decide +kernel) ⟨Nat.le_of_ble_eq_true rfl, Nat.le_of_ble_eq_true rfl⟩) (pv_PV12 hPc hKc hDc (q0 := 0) rfl) rfl rfl hl.1 rfl (lv_room (Nat.le_of_ble_eq_true rfl)) dX12_takeOffice_98 ⟨Nat.le_of_ble_eq_true rfl, Nat.le_of_ble_eq_true rfl⟩) hS (fun q _ h => hFc q h) hFc (fun u t H1 locs ht hvm hwra91 hB hz1 hk1 hS => ?_)
                          obtain ⟨fn92, ia_fn92, hP1, hK1, hD1⟩ := hB
                          rw [ht] at hP1
                          obtain ⟨hP2, hD2⟩ := va_join (wr := (wd_e8b37253 h1 g0 f20 h2 g1 f21 h3 g2 fn8)) (w1 := (wd_8dccebc0 h0 v0 r0 v1 v2 v3 v4 r1 r2 r3 r4 r5 r6 r7 v5 v6 r8 r9 h1 h2 v7 h3 h4 v7 1 h5 r10 v10 v11 r11 v12 v13 r12 v14 w15 r13 v16 v17 r14 r15 r16 r17 r18 r19 v18 r20 r21 r22 v19 h4 g3 fn30 h5 g4 fn92)) hP hD [0, 4, 5] [1, 2, 3] rfl rfl (by decide) (by decide) hk1 hFc hP1 hD1
                          clear hP hD hPc hDc hKc hFc hP1 hK1 hD1 hk1 hz1
                          generalize H1 = H at hP2 hS ⊢
                          have hP := hP2.sub (ws' := (wd_3c5bdecc h0 v0 r0 v1 v2 v3 v4 r1 r2 r3 r4 r5 r6 r7 v5 v6 r8 r9 h1 h2 v7 h3 h4 v7 1 h5 r10 v10 v11 r11 v12 v13 r12 v14 w15 r13 v16 v17 r14 r15 r16 r17 r18 r19 v18 r20 r21 r22 v19 h1 g0 f20 h2 g1 f21 h3 g2 fn8 h4 g3 fn30 h5 g4 fn92)) [3, 0, 1, 2, 4, 5] rfl
                          have hD := hD2.sub (ws' := (wd_3c5bdecc h0 v0 r0 v1 v2 v3 v4 r1 r2 r3 r4 r5 r6 r7 v5 v6 r8 r9 h1 h2 v7 h3 h4 v7 1 h5 r10 v10 v11 r11 v12 v13 r12 v14 w15 r13 v16 v17 r14 r15 r16 r17 r18 r19 v18 r20 r21 r22 v19 h1 g0 f20 h2 g1 f21 h3 g2 fn8 h4 g3 fn30 h5 g4 fn92)) [3, 0, 1, 2, 4, 5] (by decide) rfl
                          clear hP2 hD2
                          obtain ⟨t93, et93⟩ : ∃ y : Int32, y = x83 + 1 := ⟨_, rfl⟩
                          have gt93 : t93.toInt = x83.toInt + (1) := pv_add (a := x83.toInt) (b := (1)) et93 rfl (by decide) (by omega) (by omega)
                          refine lv_iinc (v := t93) (lv' := [(1, .int t93), (0, .ref h0)]) hx hb dX12_takeOffice_101 hl (k := 0) rfl (by rw [et93]; rfl) (by decide) rfl (fun ls hl => ?_)
                          refine lv_goto (tgt := 88) hx hb dX12_takeOffice_104 (by decide) ?_
                          exact ih_hL87 t93 fn92 H locs ls (by first | omega | decide) (by first | omega | decide) ia_fn92 (by first | omega | (simp only [Int.toNat] at *; omega)) hP hD hS (lv_sub hl [0, 1] rfl)
                    exact hL87 _ 0 fn66 H locs ls (by decide) (by decide) ia_fn66 (Nat.lt_succ_self _) hP hD hS (lv_sub hl [0, 1] rfl)
                  · skip
                    have fc70 : ¬ (247 ≤ x65.toInt) := fun h9 => c70 (Int32.le_iff_toInt_le.mpr h9)
                    refine lv_aload_n hx hb dX12_takeOffice_73 rfl (lv_at hl 1 rfl) ?_
                    refine va_get (D := (dC, dI)) (ci := 12) (v := .ref h5) (C := RX12) (T := TX12) (N := 48) hx hb hts (fun _ h => List.mem_cons_of_mem _ (List.mem_append_right _ h)) hown hK hP 0 rfl rfl 24 (by decide) (hts (.fieldLink RX12 52 "LeftArgumentsModel" "now" "[I") (List.mem_cons_of_mem _ (List.mem_append_left _ (List.mem_of_getElem? (i := 3) rfl)))) (fun _ h9 => h9) rfl dX12_takeOffice_74 ?_
                    refine lv_iload_n hx hb dX12_takeOffice_77 rfl (lv_at hl 0 rfl) ?_
                    refine lv_iconst (v := 0) hx hb dX12_takeOffice_78 (by decide) ?_
                    refine va_iast hx hb hK hP hD hS 5 4 rfl rfl (vp_in_iff.mpr ⟨by omega, by omega⟩) dX12_takeOffice_79 (fun H locs hP hD hS => ?_)
                    obtain ⟨fn94, efn94⟩ : ∃ g : Nat → Int32, g = upd fn66 (Int32.toNatClampNeg x65) 0 := ⟨_, rfl⟩
                    rw [← efn94] at hP hD
                    have ia_fn94 : pm_ANY fn94 := trivial
                    have hP : va_P (dC, dI) vwCl (wd_3c5bdecc h0 v0 r0 v1 v2 v3 v4 r1 r2 r3 r4 r5 r6 r7 v5 v6 r8 r9 h1 h2 v7 h3 h4 v7 1 h5 r10 v10 v11 r11 v12 v13 r12 v14 w15 r13 v16 v17 r14 r15 r16 r17 r18 r19 v18 r20 r21 r22 v19 h1 g0 f20 h2 g1 f21 h3 g2 fn8 h4 g3 fn30 h5 g4 fn94) H := hP
                    have hD : va_D A (wd_3c5bdecc h0 v0 r0 v1 v2 v3 v4 r1 r2 r3 r4 r5 r6 r7 v5 v6 r8 r9 h1 h2 v7 h3 h4 v7 1 h5 r10 v10 v11 r11 v12 v13 r12 v14 w15 r13 v16 v17 r14 r15 r16 r17 r18 r19 v18 r20 r21 r22 v19 h1 g0 f20 h2 g1 f21 h3 g2 fn8 h4 g3 fn30 h5 g4 fn94) := hD
                    obtain ⟨t95, et95⟩ : ∃ y : Int32, y = x65 + 1 := ⟨_, rfl⟩
                    have gt95 : t95.toInt = x65.toInt + (1) := pv_add (a := x65.toInt) (b := (1)) et95 rfl (by decide) (by omega) (by omega)
                    refine lv_iinc (v := t95) (lv' := [(1, .int t95), (0, .ref h0)]) hx hb dX12_takeOffice_80 hl (k := 0) rfl (by rw [et95]; rfl) (by decide) rfl (fun ls hl => ?_)
                    refine lv_goto (tgt := 66) hx hb dX12_takeOffice_83 (by decide) ?_
                    exact ih_hL69 t95 fn94 H locs ls (by first | omega | decide) (by first | omega | decide) ia_fn94 (by first | exact pm_zr.zero (by decide) | (apply pm_zr.step <;> first | assumption | omega)) (by first | omega | (simp only [Int.toNat] at *; omega)) hP hD hS (lv_sub hl [0, 1] rfl)
              exact hL69 _ 0 f24 H locs ls (by decide) (by decide) trivial (by first | exact pm_zr.zero (by decide) | (apply pm_zr.step <;> first | assumption | omega)) (Nat.lt_succ_self _) hP hD hS (lv_sub hl [0, 1] rfl)
            · skip
              have fc34 : ¬ (40 ≤ x29.toInt) := fun h9 => c34 (Int32.le_iff_toInt_le.mpr h9)
              refine lv_aload_n hx hb dX12_takeOffice_46 rfl (lv_at hl 1 rfl) ?_
              refine va_get (D := (dC, dI)) (ci := 12) (v := .ref h4) (C := RX12) (T := TX12) (N := 48) hx hb hts (fun _ h => List.mem_cons_of_mem _ (List.mem_append_right _ h)) hown hK hP 0 rfl rfl 21 (by decide) (hts (.fieldLink RX12 49 "LeftArgumentsModel" "bag" "[I") (List.mem_cons_of_mem _ (List.mem_append_left _ (List.mem_of_getElem? (i := 9) rfl)))) (fun _ h9 => h9) rfl dX12_takeOffice_47 ?_
              refine lv_iload_n hx hb dX12_takeOffice_50 rfl (lv_at hl 0 rfl) ?_
              refine lv_aload_n hx hb dX12_takeOffice_51 rfl (lv_at hl 1 rfl) ?_
              refine va_get (D := (dC, dI)) (ci := 12) (v := .ref h2) (C := RX12) (T := TX12) (N := 48) hx hb hts (fun _ h => List.mem_cons_of_mem _ (List.mem_append_right _ h)) hown hK hP 0 rfl rfl 18 (by decide) (hts (.fieldLink RX12 43 "LeftArgumentsModel" "readBag" "[I") (List.mem_cons_of_mem _ (List.mem_append_left _ (List.mem_of_getElem? (i := 18) rfl)))) (fun _ h9 => h9) rfl dX12_takeOffice_52 ?_
              refine lv_iload_n hx hb dX12_takeOffice_55 rfl (lv_at hl 0 rfl) ?_
              refine va_iald hx hb hK hP 2 1 rfl rfl (vp_in_iff.mpr ⟨by omega, by omega⟩) dX12_takeOffice_56 ?_
              refine lv_topi (fun t96 et96 => ?_)
              refine va_iast hx hb hK hP hD hS 4 3 rfl rfl (vp_in_iff.mpr ⟨by omega, by omega⟩) dX12_takeOffice_57 (fun H locs hP hD hS => ?_)
              obtain ⟨fn97, efn97⟩ : ∃ g : Nat → Int32, g = upd fn30 (Int32.toNatClampNeg x29) t96 := ⟨_, rfl⟩
              rw [← efn97] at hP hD
              have hP : va_P (dC, dI) vwCl (wd_3c5bdecc h0 v0 r0 v1 v2 v3 v4 r1 r2 r3 r4 r5 r6 r7 v5 v6 r8 r9 h1 h2 v7 h3 h4 v7 1 h5 r10 v10 v11 r11 v12 v13 r12 v14 w15 r13 v16 v17 r14 r15 r16 r17 r18 r19 v18 r20 r21 r22 v19 h1 g0 f20 h2 g1 f21 h3 g2 fn8 h4 g3 fn97 h5 g4 f24) H := hP
              have hD : va_D A (wd_3c5bdecc h0 v0 r0 v1 v2 v3 v4 r1 r2 r3 r4 r5 r6 r7 v5 v6 r8 r9 h1 h2 v7 h3 h4 v7 1 h5 r10 v10 v11 r11 v12 v13 r12 v14 w15 r13 v16 v17 r14 r15 r16 r17 r18 r19 v18 r20 r21 r22 v19 h1 g0 f20 h2 g1 f21 h3 g2 fn8 h4 g3 fn97 h5 g4 f24) := hD
              obtain ⟨t98, et98⟩ : ∃ y : Int32, y = x29 + 1 := ⟨_, rfl⟩
              have gt98 : t98.toInt = x29.toInt + (1) := pv_add (a := x29.toInt) (b := (1)) et98 rfl (by decide) (by omega) (by omega)
              refine lv_iinc (v := t98) (lv' := [(1, .int t98), (0, .ref h0)]) hx hb dX12_takeOffice_58 hl (k := 0) rfl (by rw [et98]; rfl) (by decide) rfl (fun ls hl => ?_)
              refine lv_goto (tgt := 40) hx hb dX12_takeOffice_61 (by decide) ?_
              exact ih_hL33 t98 fn97 H locs ls (by first | omega | decide) (by first | omega | decide) (by first | exact pm_cp.zero (by decide) | (apply pm_cp.step <;> first | assumption | omega)) (by first | omega | (simp only [Int.toNat] at *; omega)) hP hD hS (lv_sub hl [0, 1] rfl)
        exact hL33 _ 0 f23 H locs ls (by decide) (by decide) (by first | exact pm_cp.zero (by decide) | (apply pm_cp.step <;> first | assumption | omega)) (Nat.lt_succ_self _) hP hD hS (lv_sub hl [0, 1] rfl)
      · skip
        have fc12 : ¬ (4 ≤ x7.toInt) := fun h9 => c12 (Int32.le_iff_toInt_le.mpr h9)
        refine lv_aload_n hx hb dX12_takeOffice_20 rfl (lv_at hl 1 rfl) ?_
        refine va_get (D := (dC, dI)) (ci := 12) (v := .ref h3) (C := RX12) (T := TX12) (N := 48) hx hb hts (fun _ h => List.mem_cons_of_mem _ (List.mem_append_right _ h)) hown hK hP 0 rfl rfl 20 (by decide) (hts (.fieldLink RX12 46 "LeftArgumentsModel" "rule" "[I") (List.mem_cons_of_mem _ (List.mem_append_left _ (List.mem_of_getElem? (i := 4) rfl)))) (fun _ h9 => h9) rfl dX12_takeOffice_21 ?_
        refine lv_iload_n hx hb dX12_takeOffice_24 rfl (lv_at hl 0 rfl) ?_
        refine lv_aload_n hx hb dX12_takeOffice_25 rfl (lv_at hl 1 rfl) ?_
        refine va_get (D := (dC, dI)) (ci := 12) (v := .ref h1) (C := RX12) (T := TX12) (N := 48) hx hb hts (fun _ h => List.mem_cons_of_mem _ (List.mem_append_right _ h)) hown hK hP 0 rfl rfl 17 (by decide) (hts (.fieldLink RX12 40 "LeftArgumentsModel" "readRule" "[I") (List.mem_cons_of_mem _ (List.mem_append_left _ (List.mem_of_getElem? (i := 19) rfl)))) (fun _ h9 => h9) rfl dX12_takeOffice_26 ?_
        refine lv_iload_n hx hb dX12_takeOffice_29 rfl (lv_at hl 0 rfl) ?_
        refine va_iald hx hb hK hP 1 0 rfl rfl (vp_in_iff.mpr ⟨by omega, by omega⟩) dX12_takeOffice_30 ?_
        refine lv_topi (fun t99 et99 => ?_)
        refine va_iast hx hb hK hP hD hS 3 2 rfl rfl (vp_in_iff.mpr ⟨by omega, by omega⟩) dX12_takeOffice_31 (fun H locs hP hD hS => ?_)
        obtain ⟨fn100, efn100⟩ : ∃ g : Nat → Int32, g = upd fn8 (Int32.toNatClampNeg x7) t99 := ⟨_, rfl⟩
        rw [← efn100] at hP hD
        have ia_fn100 : pm_ANY fn100 := trivial
        have hP : va_P (dC, dI) vwCl (wd_3c5bdecc h0 v0 r0 v1 v2 v3 v4 r1 r2 r3 r4 r5 r6 r7 v5 v6 r8 r9 h1 h2 v7 h3 h4 v7 1 h5 r10 v10 v11 r11 v12 v13 r12 v14 w15 r13 v16 v17 r14 r15 r16 r17 r18 r19 v18 r20 r21 r22 v19 h1 g0 f20 h2 g1 f21 h3 g2 fn100 h4 g3 f23 h5 g4 f24) H := hP
        have hD : va_D A (wd_3c5bdecc h0 v0 r0 v1 v2 v3 v4 r1 r2 r3 r4 r5 r6 r7 v5 v6 r8 r9 h1 h2 v7 h3 h4 v7 1 h5 r10 v10 v11 r11 v12 v13 r12 v14 w15 r13 v16 v17 r14 r15 r16 r17 r18 r19 v18 r20 r21 r22 v19 h1 g0 f20 h2 g1 f21 h3 g2 fn100 h4 g3 f23 h5 g4 f24) := hD
        obtain ⟨t101, et101⟩ : ∃ y : Int32, y = x7 + 1 := ⟨_, rfl⟩
        have gt101 : t101.toInt = x7.toInt + (1) := pv_add (a := x7.toInt) (b := (1)) et101 rfl (by decide) (by omega) (by omega)
        refine lv_iinc (v := t101) (lv' := [(1, .int t101), (0, .ref h0)]) hx hb dX12_takeOffice_32 hl (k := 0) rfl (by rw [et101]; rfl) (by decide) rfl (fun ls hl => ?_)
        refine lv_goto (tgt := 15) hx hb dX12_takeOffice_35 (by decide) ?_
        exact ih_hL11 t101 fn100 H locs ls (by first | omega | decide) (by first | omega | decide) ia_fn100 (by first | exact pm_cp.zero (by decide) | (apply pm_cp.step <;> first | assumption | omega)) (by first | omega | (simp only [Int.toNat] at *; omega)) hP hD hS (lv_sub hl [0, 1] rfl)
  exact hL11 _ 0 f22 H locs ls (by decide) (by decide) trivial (by first | exact pm_cp.zero (by decide) | (apply pm_cp.step <;> first | assumption | omega)) (Nat.lt_succ_self _) hP hD hS (lv_sub hl [0, 1] rfl)
def q_X12_in_18 : List Cond := .code yX12_in cX12_in 3 (some .boolean) :: (([] : List Cond))
set_option maxHeartbeats 4000000 in
set_option maxRecDepth 100000 in
theorem k_X12_in_18 (l : Launch) (dC : Nat → ClassId) (dI : Nat → Nat → Nat) (v0 : Int32) (v1 : Int32) (sz : Nat) : Met l yX12_in q_X12_in_18 ({ frames := 0, cells := 0, slots := 0, locals := 0 }) (va_Pc [.int v0, .int (-1), .int v1] (fun U => U.heap.size = sz ∧ va_P (dC, dI) vwCl [] U.heap ∧ va_K (dC, dI) vwCl [] U ∧ va_D (fun _ => True) [])) (va_Qi (fun (r : Int32) (r9 : Int32) => r9 = r) (fun (r : Int32) (t : State) => ((0 ≤ r.toInt) ∧ (r.toInt ≤ 1) ∧ ((r.toInt = 1 → (-1) ≤ v0.toInt)) ∧ ((r.toInt = 1 → v0.toInt ≤ v1.toInt)) ∧ (r.toInt = 0 → ¬ ((-1) ≤ v0.toInt ∧ v0.toInt ≤ v1.toInt)) ∧ va_P (dC, dI) vwCl [] t.heap ∧ va_K (dC, dI) vwCl [] t ∧ va_D (va_A [] sz) [])) (va_A [] sz)) 0 0 (va_A [] sz) := by
  refine Met.ofW (cc := cX12_in) (maxL := 3) (ret := (some .boolean)) (by decide) rfl ?_
  intro p e s m args below meth c s₁ B hml hv
  obtain ⟨rfl, hsz, hP, hK, hD0⟩ := hv
  have hx := B.exec
  have hb := B.bytes
  have hr := B.returns
  have hts := atoms_spec (ws := q_X12_in_18) B.pre
  have hown : s.vm.findClass RX12 = some m.cls := findClass_of_methodNamed B.named
  have hlocks := B.notSynchronized
  subst hsz
  have hD := hD0.self (sz := s.heap.size)
  generalize hAe : va_A [] s.heap.size = A at hD ⊢
  have hA : ∀ q : Nat, s.heap.size ≤ q → A q := fun q h => by rw [← hAe]; exact Or.inr h
  have hS : va_S A s.heap s.heap [] := va_S.rf
  generalize hQ : (MQ below _ _ s 0 0 A) = Q
  have hl := lv_entry ([.int v0, .int (-1), .int v1]) (n := 3) (Nat.le_of_ble_eq_true rfl)
  rw [lg_entry_eq]
  generalize (lg_sl ([.int v0, .int (-1), .int v1]) ++ List.replicate (3 - (lg_sl ([.int v0, .int (-1), .int v1])).length) Slot.unset).toArray = ls at hl ⊢
  have hl : lv_has ls 3 [(0, .int v0), (1, .int (-1)), (2, .int v1)] := hl
  obtain ⟨H, hH⟩ : ∃ H : Heap, H = s.heap := ⟨_, rfl⟩
  obtain ⟨locs, hlocs⟩ : ∃ y : List Loc, y = [] := ⟨_, rfl⟩
  have hS : va_S A s.heap H locs := by rw [hH, hlocs]; exact va_S.rf
  have hP : va_P (dC, dI) vwCl [] H := by rw [hH]; exact hP
  rw [← hH, ← hlocs]
  refine lv_iload_n hx hb dX12_in_0 rfl (lv_at hl 0 rfl) ?_
  refine lv_iload_n hx hb dX12_in_1 rfl (lv_at hl 1 rfl) ?_
  refine lv_icmp_lt (tgt := 14) hx hb dX12_in_2 (by decide) (fun c1 => ?_) (fun c1 => ?_)
  · skip
    have fc1 : v0.toInt < (-1) := Int32.lt_iff_toInt_lt.mp c1
    refine lv_iconst (v := 0) hx hb dX12_in_14 (by decide) ?_
    subst hQ
    have hP9 := hP.sub (ws' := []) [] rfl
    have hD9 := hD.sub (ws' := []) [] (by decide) rfl
    have hK9 := hK.sub (tys' := []) [] rfl
    exact W.zret (v := 0) hx hb hr rfl (fun t ht hW => ⟨⟨0, 0, rfl, rfl, ⟨by first | omega | decide, by first | omega | decide, fun h9 => absurd h9 (by decide), fun h9 => absurd h9 (by decide), fun _ => by omega, by rw [ht]; exact hP9, va_K.moved hW.alike hK9, hD9⟩⟩, hS.F ht⟩) hS.2.2 dX12_in_15
  · skip
    have fc1 : ¬ (v0.toInt < (-1)) := fun h9 => c1 (Int32.lt_iff_toInt_lt.mpr h9)
    refine lv_iload_n hx hb dX12_in_5 rfl (lv_at hl 0 rfl) ?_
    refine lv_iload_n hx hb dX12_in_6 rfl (lv_at hl 2 rfl) ?_
    refine lv_icmp_gt (tgt := 14) hx hb dX12_in_7 (by decide) (fun c2 => ?_) (fun c2 => ?_)
    · skip
      have fc2 : v1.toInt < v0.toInt := Int32.lt_iff_toInt_lt.mp c2
      have r1c2 := Int32.toInt_lt v0
      have r2c2 := Int32.toInt_lt v1
      have r3c2 := Int32.le_toInt v0
      have r4c2 := Int32.le_toInt v1
      refine lv_iconst (v := 0) hx hb dX12_in_14 (by decide) ?_
      subst hQ
      have hP9 := hP.sub (ws' := []) [] rfl
      have hD9 := hD.sub (ws' := []) [] (by decide) rfl
      have hK9 := hK.sub (tys' := []) [] rfl
      exact W.zret (v := 0) hx hb hr rfl (fun t ht hW => ⟨⟨0, 0, rfl, rfl, ⟨by first | omega | decide, by first | omega | decide, fun h9 => absurd h9 (by decide), fun h9 => absurd h9 (by decide), fun _ => by omega, by rw [ht]; exact hP9, va_K.moved hW.alike hK9, hD9⟩⟩, hS.F ht⟩) hS.2.2 dX12_in_15
    · skip
      have fc2 : ¬ (v1.toInt < v0.toInt) := fun h9 => c2 (Int32.lt_iff_toInt_lt.mpr h9)
      have r1c2 := Int32.toInt_lt v0
      have r2c2 := Int32.toInt_lt v1
      have r3c2 := Int32.le_toInt v0
      have r4c2 := Int32.le_toInt v1
      refine lv_iconst (v := 1) hx hb dX12_in_10 (by decide) ?_
      refine lv_goto (tgt := 15) hx hb dX12_in_11 (by decide) ?_
      subst hQ
      have hP9 := hP.sub (ws' := []) [] rfl
      have hD9 := hD.sub (ws' := []) [] (by decide) rfl
      have hK9 := hK.sub (tys' := []) [] rfl
      exact W.zret (v := 1) hx hb hr rfl (fun t ht hW => ⟨⟨1, 1, rfl, rfl, ⟨by first | omega | decide, by first | omega | decide, fun _ => by omega, fun _ => by omega, fun h9 => absurd h9 (by decide), by rw [ht]; exact hP9, va_K.moved hW.alike hK9, hD9⟩⟩, hS.F ht⟩) hS.2.2 dX12_in_15
def q_X12_law : List Cond := .code yX12_law cX12_law 2 (some .boolean) :: (([.fieldLink RX12 284 "LeftArgumentsModel" "laws" "I", .code yX12_in cX12_in 3 (some .boolean), .initialized RX12, .static yX12_in, .methodLink RX12 217 yX12_in, .fieldLink RX12 58 "LeftArgumentsModel" "holding" "I"] : List Cond) ++ wsX120)
set_option maxRecDepth 20000 in
theorem g_X12_law_0 : GoodIn q_X12_law (va_wsS RX12 217 yX12_in q_X12_in_18) := goodIn_app (goodIn_r _ [5, 4, 3] rfl (by decide +kernel)) (goodIn_r (.code yX12_in cX12_in 3 (some .boolean) :: []) [2] rfl (by decide +kernel))
set_option maxHeartbeats 4000000 in
set_option maxRecDepth 100000 in
theorem k_X12_law (l : Launch) (dC : Nat → ClassId) (dI : Nat → Nat → Nat) (h0 : Nat) (v0 : Int32) (r0 : Nat) (v1 : Int32) (v2 : Int32) (v3 : Int32) (v4 : Int32) (r1 : Nat) (r2 : Nat) (r3 : Nat) (r4 : Nat) (r5 : Nat) (r6 : Nat) (r7 : Nat) (v5 : Int32) (v6 : Int32) (r8 : Nat) (r9 : Nat) (r10 : Nat) (r11 : Nat) (v7 : Int32) (r12 : Nat) (r13 : Nat) (v8 : Int32) (v9 : Int32) (r14 : Nat) (r15 : Nat) (v10 : Int32) (v11 : Int32) (r16 : Nat) (v12 : Int32) (v13 : Int32) (r17 : Nat) (v14 : Int32) (w15 : Int64) (r18 : Nat) (v16 : Int32) (v17 : Int32) (r19 : Nat) (r20 : Nat) (r21 : Nat) (r22 : Nat) (r23 : Nat) (r24 : Nat) (v18 : Int32) (r25 : Nat) (r26 : Nat) (r27 : Nat) (v19 : Int32) (v20 : Int32) (i_v1 : 0 ≤ v1.toInt ∧ v1.toInt ≤ 240) (i_v5 : 0 ≤ v5.toInt ∧ v5.toInt ≤ 4) (i_v6 : 0 ≤ v6.toInt ∧ v6.toInt ≤ 4) (i_v7 : 0 ≤ v7.toInt ∧ v7.toInt ≤ 8) (i_v8 : 0 ≤ v8.toInt ∧ v8.toInt ≤ 8) (i_v9 : 0 ≤ v9.toInt ∧ v9.toInt ≤ 1) (i_v10 : -1 ≤ v10.toInt ∧ v10.toInt ≤ 3) (i_v14 : 0 ≤ v14.toInt ∧ v14.toInt ≤ 40) (i_v18 : 0 ≤ v18.toInt ∧ v18.toInt ≤ 10) (i_v19 : 0 ≤ v19.toInt ∧ v19.toInt ≤ 1) (pp0 : v10.toInt < v5.toInt) (sz : Nat) : Met l yX12_law q_X12_law ({ frames := 1, cells := 0, slots := 0, locals := 22 }) (va_Pc [.ref h0, .int v20] (fun U => U.heap.size = sz ∧ va_P (dC, dI) vwCl (wd_171f232f h0 v0 r0 v1 v2 v3 v4 r1 r2 r3 r4 r5 r6 r7 v5 v6 r8 r9 r10 r11 v7 r12 r13 v8 v9 r14 r15 v10 v11 r16 v12 v13 r17 v14 w15 r18 v16 v17 r19 r20 r21 r22 r23 r24 v18 r25 r26 r27 v19) U.heap ∧ va_K (dC, dI) vwCl [] U ∧ va_D (fun _ => True) (wd_171f232f h0 v0 r0 v1 v2 v3 v4 r1 r2 r3 r4 r5 r6 r7 v5 v6 r8 r9 r10 r11 v7 r12 r13 v8 v9 r14 r15 v10 v11 r16 v12 v13 r17 v14 w15 r18 v16 v17 r19 r20 r21 r22 r23 r24 v18 r25 r26 r27 v19))) (va_Qi (fun (r : Int32) (r9 : Int32) => r9 = r) (fun (r : Int32) (t : State) => (∃ (o_h0_26 : Int32), -1 ≤ o_h0_26.toInt ∧ o_h0_26.toInt ≤ 3 ∧ (0 ≤ r.toInt) ∧ (r.toInt ≤ 1) ∧ (o_h0_26.toInt < v5.toInt) ∧ ((r.toInt = 1 ∧ -1 ≤ v20.toInt ∧ v20.toInt < v5.toInt) ∨ (r.toInt = 0 ∧ ¬ (-1 ≤ v20.toInt ∧ v20.toInt < v5.toInt))) ∧ va_P (dC, dI) vwCl (wd_171f232f h0 v0 r0 v1 v2 v3 v4 r1 r2 r3 r4 r5 r6 r7 v5 v6 r8 r9 r10 r11 v7 r12 r13 v8 v9 r14 r15 o_h0_26 v11 r16 v12 v13 r17 v14 w15 r18 v16 v17 r19 r20 r21 r22 r23 r24 v18 r25 r26 r27 v19) t.heap ∧ va_K (dC, dI) vwCl [] t ∧ va_D (va_A (wd_171f232f h0 v0 r0 v1 v2 v3 v4 r1 r2 r3 r4 r5 r6 r7 v5 v6 r8 r9 r10 r11 v7 r12 r13 v8 v9 r14 r15 v10 v11 r16 v12 v13 r17 v14 w15 r18 v16 v17 r19 r20 r21 r22 r23 r24 v18 r25 r26 r27 v19) sz) (wd_171f232f h0 v0 r0 v1 v2 v3 v4 r1 r2 r3 r4 r5 r6 r7 v5 v6 r8 r9 r10 r11 v7 r12 r13 v8 v9 r14 r15 o_h0_26 v11 r16 v12 v13 r17 v14 w15 r18 v16 v17 r19 r20 r21 r22 r23 r24 v18 r25 r26 r27 v19))) (va_A (wd_171f232f h0 v0 r0 v1 v2 v3 v4 r1 r2 r3 r4 r5 r6 r7 v5 v6 r8 r9 r10 r11 v7 r12 r13 v8 v9 r14 r15 v10 v11 r16 v12 v13 r17 v14 w15 r18 v16 v17 r19 r20 r21 r22 r23 r24 v18 r25 r26 r27 v19) sz)) 0 0 (va_A (wd_171f232f h0 v0 r0 v1 v2 v3 v4 r1 r2 r3 r4 r5 r6 r7 v5 v6 r8 r9 r10 r11 v7 r12 r13 v8 v9 r14 r15 v10 v11 r16 v12 v13 r17 v14 w15 r18 v16 v17 r19 r20 r21 r22 r23 r24 v18 r25 r26 r27 v19) sz) := by
  refine Met.ofW (cc := cX12_law) (maxL := 2) (ret := (some .boolean)) (by decide) rfl ?_
  intro p e s m args below meth c s₁ B hml hv
  obtain ⟨i_v1a, i_v1b⟩ := i_v1
  obtain ⟨i_v5a, i_v5b⟩ := i_v5
  obtain ⟨i_v6a, i_v6b⟩ := i_v6
  obtain ⟨i_v7a, i_v7b⟩ := i_v7
  obtain ⟨i_v8a, i_v8b⟩ := i_v8
  obtain ⟨i_v9a, i_v9b⟩ := i_v9
  obtain ⟨i_v10a, i_v10b⟩ := i_v10
  obtain ⟨i_v14a, i_v14b⟩ := i_v14
  obtain ⟨i_v18a, i_v18b⟩ := i_v18
  obtain ⟨i_v19a, i_v19b⟩ := i_v19
  obtain ⟨rfl, hsz, hP, hK, hD0⟩ := hv
  have hx := B.exec
  have hb := B.bytes
  have hr := B.returns
  have hts := atoms_spec (ws := q_X12_law) B.pre
  have hown : s.vm.findClass RX12 = some m.cls := findClass_of_methodNamed B.named
  have hlocks := B.notSynchronized
  subst hsz
  have hD := hD0.self (sz := s.heap.size)
  generalize hAe : va_A (wd_171f232f h0 v0 r0 v1 v2 v3 v4 r1 r2 r3 r4 r5 r6 r7 v5 v6 r8 r9 r10 r11 v7 r12 r13 v8 v9 r14 r15 v10 v11 r16 v12 v13 r17 v14 w15 r18 v16 v17 r19 r20 r21 r22 r23 r24 v18 r25 r26 r27 v19) s.heap.size = A at hD ⊢
  have hA : ∀ q : Nat, s.heap.size ≤ q → A q := fun q h => by rw [← hAe]; exact Or.inr h
  have hS : va_S A s.heap s.heap [] := va_S.rf
  generalize hQ : (MQ below _ _ s 0 0 A) = Q
  have hl := lv_entry ([.ref h0, .int v20]) (n := 2) (Nat.le_of_ble_eq_true rfl)
  rw [lg_entry_eq]
  generalize (lg_sl ([.ref h0, .int v20]) ++ List.replicate (2 - (lg_sl ([.ref h0, .int v20])).length) Slot.unset).toArray = ls at hl ⊢
  have hl : lv_has ls 2 [(0, .ref h0), (1, .int v20)] := hl
  obtain ⟨H, hH⟩ : ∃ H : Heap, H = s.heap := ⟨_, rfl⟩
  obtain ⟨locs, hlocs⟩ : ∃ y : List Loc, y = [] := ⟨_, rfl⟩
  have hS : va_S A s.heap H locs := by rw [hH, hlocs]; exact va_S.rf
  have hP : va_P (dC, dI) vwCl (wd_171f232f h0 v0 r0 v1 v2 v3 v4 r1 r2 r3 r4 r5 r6 r7 v5 v6 r8 r9 r10 r11 v7 r12 r13 v8 v9 r14 r15 v10 v11 r16 v12 v13 r17 v14 w15 r18 v16 v17 r19 r20 r21 r22 r23 r24 v18 r25 r26 r27 v19) H := by rw [hH]; exact hP
  rw [← hH, ← hlocs]
  refine lv_iload_n hx hb dX12_law_0 rfl (lv_at hl 1 rfl) ?_
  refine lv_iconst (v := (-1)) hx hb dX12_law_1 (by decide) ?_
  refine lv_aload_n hx hb dX12_law_2 rfl (lv_at hl 0 rfl) ?_
  refine va_get (D := (dC, dI)) (ci := 12) (v := .int v5) (C := RX12) (T := TX12) (N := 48) hx hb hts (fun _ h => List.mem_cons_of_mem _ (List.mem_append_right _ h)) hown hK hP 0 rfl rfl 13 (by decide) (hts (.fieldLink RX12 284 "LeftArgumentsModel" "laws" "I") (List.mem_cons_of_mem _ (List.mem_append_left _ (List.mem_of_getElem? (i := 0) rfl)))) (fun _ h9 => h9) rfl dX12_law_3 ?_
  refine lv_iconst (v := 1) hx hb dX12_law_6 (by decide) ?_
  refine lv_isub hx hb dX12_law_7 ?_
  refine lv_topi (fun t1 et1 => ?_)
  have gt1 : t1.toInt = v5.toInt - 1 := pv_sub (a := v5.toInt) (b := 1) et1 rfl (by decide) (by omega) (by omega)
  have hPc := hP.sub (ws' := []) [] rfl
  have hDc := hD.sub (ws' := []) [] (by decide) rfl
  have hKc := hK.sub (tys' := []) [] rfl
  have hFc := va_free (wc := []) hD hS hA [] rfl
  refine va_calli (va_runS (As := [.int v20, .int (-1), .int t1]) (rest := []) ⟨hx, hb, hml, hown, hts⟩ (k_X12_in_18 l dC dI v20 t1  H.size) (va_cwS 3 hts g_X12_law_0 rfl rfl rfl (by decide +kernel) ⟨Nat.le_of_ble_eq_true rfl, Nat.le_of_ble_eq_true rfl⟩) (pv_PS hPc hKc hDc) rfl rfl hl.1 rfl (lv_room (Nat.le_of_ble_eq_true rfl)) dX12_law_8 ⟨Nat.le_of_ble_eq_true rfl, Nat.le_of_ble_eq_true rfl⟩) hS (fun q _ h => hFc q h) hFc (fun ra2 u t H1 locs ht hvm hwra2 hB hz1 hk1 hS => ?_)
  try rw [hwra2] at hB
  obtain ⟨pt0_ra2, pt1_ra2, pt2_ra2, pt3_ra2, pt4_ra2, hP1, hK1, hD1⟩ := hB
  rw [ht] at hP1
  obtain ⟨hP2, hD2⟩ := va_join (wr := (wd_171f232f h0 v0 r0 v1 v2 v3 v4 r1 r2 r3 r4 r5 r6 r7 v5 v6 r8 r9 r10 r11 v7 r12 r13 v8 v9 r14 r15 v10 v11 r16 v12 v13 r17 v14 w15 r18 v16 v17 r19 r20 r21 r22 r23 r24 v18 r25 r26 r27 v19)) (w1 := []) hP hD [] [0] rfl rfl (by decide) (by decide) hk1 hFc hP1 hD1
  clear hP hD hPc hDc hKc hFc hP1 hK1 hD1 hk1 hz1
  generalize H1 = H at hP2 hS ⊢
  have hP : va_P (dC, dI) vwCl (wd_171f232f h0 v0 r0 v1 v2 v3 v4 r1 r2 r3 r4 r5 r6 r7 v5 v6 r8 r9 r10 r11 v7 r12 r13 v8 v9 r14 r15 v10 v11 r16 v12 v13 r17 v14 w15 r18 v16 v17 r19 r20 r21 r22 r23 r24 v18 r25 r26 r27 v19) H := hP2
  have hD : va_D A (wd_171f232f h0 v0 r0 v1 v2 v3 v4 r1 r2 r3 r4 r5 r6 r7 v5 v6 r8 r9 r10 r11 v7 r12 r13 v8 v9 r14 r15 v10 v11 r16 v12 v13 r17 v14 w15 r18 v16 v17 r19 r20 r21 r22 r23 r24 v18 r25 r26 r27 v19) := hD2
  clear hP2 hD2
  refine lv_if_ne (tgt := 16) hx hb dX12_law_11 (by decide) (fun c3 => ?_) (fun c3 => ?_)
  · skip
    have fc3 : ¬ (ra2.toInt = 0) := fun h9 => c3 (Int32.toInt_inj.mp h9)
    refine lv_aload_n hx hb dX12_law_16 rfl (lv_at hl 0 rfl) ?_
    refine lv_iload_n hx hb dX12_law_17 rfl (lv_at hl 1 rfl) ?_
    refine va_put (D := (dC, dI)) (ci := 12) (v := .int v20) (ty := .int) (C := RX12) (T := TX12) (N := 48) hx hb hts (fun _ h => List.mem_cons_of_mem _ (List.mem_append_right _ h)) tyX12 tyX12_ok nmX12 hown hK hP hD hS 0 rfl rfl 26 (by decide) (hts (.fieldLink RX12 58 "LeftArgumentsModel" "holding" "I") (List.mem_cons_of_mem _ (List.mem_append_left _ (List.mem_of_getElem? (i := 5) rfl)))) (fun _ h9 => h9) rfl (by decide +kernel) rfl rfl (Nat.le_of_ble_eq_true rfl) dX12_law_18 (fun H locs hP hD hS => ?_)
    have hP : va_P (dC, dI) vwCl (wd_171f232f h0 v0 r0 v1 v2 v3 v4 r1 r2 r3 r4 r5 r6 r7 v5 v6 r8 r9 r10 r11 v7 r12 r13 v8 v9 r14 r15 v20 v11 r16 v12 v13 r17 v14 w15 r18 v16 v17 r19 r20 r21 r22 r23 r24 v18 r25 r26 r27 v19) H := hP
    have hD : va_D A (wd_171f232f h0 v0 r0 v1 v2 v3 v4 r1 r2 r3 r4 r5 r6 r7 v5 v6 r8 r9 r10 r11 v7 r12 r13 v8 v9 r14 r15 v20 v11 r16 v12 v13 r17 v14 w15 r18 v16 v17 r19 r20 r21 r22 r23 r24 v18 r25 r26 r27 v19) := hD
    refine lv_iconst (v := 1) hx hb dX12_law_21 (by decide) ?_
    subst hQ
    have hP9 := hP.sub (ws' := (wd_171f232f h0 v0 r0 v1 v2 v3 v4 r1 r2 r3 r4 r5 r6 r7 v5 v6 r8 r9 r10 r11 v7 r12 r13 v8 v9 r14 r15 v20 v11 r16 v12 v13 r17 v14 w15 r18 v16 v17 r19 r20 r21 r22 r23 r24 v18 r25 r26 r27 v19)) [0] rfl
    have hD9 := hD.sub (ws' := (wd_171f232f h0 v0 r0 v1 v2 v3 v4 r1 r2 r3 r4 r5 r6 r7 v5 v6 r8 r9 r10 r11 v7 r12 r13 v8 v9 r14 r15 v20 v11 r16 v12 v13 r17 v14 w15 r18 v16 v17 r19 r20 r21 r22 r23 r24 v18 r25 r26 r27 v19)) [0] (by decide) rfl
    have hK9 := hK.sub (tys' := []) [] rfl
    exact W.zret (v := 1) hx hb hr rfl (fun t ht hW => ⟨⟨1, 1, rfl, rfl, ⟨v20, by first | omega | decide, by first | omega | decide, by first | omega | decide, by first | omega | decide, by omega, by first | assumption | exact Or.inl ⟨by decide, by omega, by omega⟩ | exact Or.inr ⟨by decide, by omega⟩, by rw [ht]; exact hP9, va_K.moved hW.alike hK9, hD9⟩⟩, hS.F ht⟩) hS.2.2 dX12_law_22
  · skip
    have fc3 : ra2.toInt = 0 := congrArg Int32.toInt c3
    refine lv_iconst (v := 0) hx hb dX12_law_14 (by decide) ?_
    subst hQ
    have hP9 := hP.sub (ws' := (wd_171f232f h0 v0 r0 v1 v2 v3 v4 r1 r2 r3 r4 r5 r6 r7 v5 v6 r8 r9 r10 r11 v7 r12 r13 v8 v9 r14 r15 v10 v11 r16 v12 v13 r17 v14 w15 r18 v16 v17 r19 r20 r21 r22 r23 r24 v18 r25 r26 r27 v19)) [0] rfl
    have hD9 := hD.sub (ws' := (wd_171f232f h0 v0 r0 v1 v2 v3 v4 r1 r2 r3 r4 r5 r6 r7 v5 v6 r8 r9 r10 r11 v7 r12 r13 v8 v9 r14 r15 v10 v11 r16 v12 v13 r17 v14 w15 r18 v16 v17 r19 r20 r21 r22 r23 r24 v18 r25 r26 r27 v19)) [0] (by decide) rfl
    have hK9 := hK.sub (tys' := []) [] rfl
    exact W.zret (v := 0) hx hb hr rfl (fun t ht hW => ⟨⟨0, 0, rfl, rfl, ⟨v10, i_v10a, i_v10b, by first | omega | decide, by first | omega | decide, by omega, by first | assumption | exact Or.inl ⟨by decide, by omega, by omega⟩ | exact Or.inr ⟨by decide, by omega⟩, by rw [ht]; exact hP9, va_K.moved hW.alike hK9, hD9⟩⟩, hS.F ht⟩) hS.2.2 dX12_law_15
def q_X12_opens_2 : List Cond := .code yX12_opens cX12_opens 1 none :: (([.fieldLink RX12 125 "LeftArgumentsModel" "deep" "I", .fieldLink RX12 112 "LeftArgumentsModel" "at" "I"] : List Cond) ++ wsX120)
set_option maxHeartbeats 4000000 in
set_option maxRecDepth 100000 in
theorem k_X12_opens_2 (l : Launch) (dC : Nat → ClassId) (dI : Nat → Nat → Nat) (h0 : Nat) (v0 : Int32) (r0 : Nat) (v1 : Int32) (v2 : Int32) (r1 : Nat) (r2 : Nat) (r3 : Nat) (r4 : Nat) (r5 : Nat) (r6 : Nat) (r7 : Nat) (v3 : Int32) (v4 : Int32) (r8 : Nat) (r9 : Nat) (r10 : Nat) (r11 : Nat) (v5 : Int32) (r12 : Nat) (r13 : Nat) (v6 : Int32) (v7 : Int32) (r14 : Nat) (r15 : Nat) (v8 : Int32) (v9 : Int32) (r16 : Nat) (v10 : Int32) (v11 : Int32) (r17 : Nat) (v12 : Int32) (w13 : Int64) (r18 : Nat) (v14 : Int32) (v15 : Int32) (r19 : Nat) (r20 : Nat) (r21 : Nat) (r22 : Nat) (r23 : Nat) (r24 : Nat) (v16 : Int32) (r25 : Nat) (r26 : Nat) (r27 : Nat) (v17 : Int32) (i_v1 : 0 ≤ v1.toInt ∧ v1.toInt ≤ 240) (i_v2 : 0 ≤ v2.toInt ∧ v2.toInt ≤ 239) (i_v3 : 0 ≤ v3.toInt ∧ v3.toInt ≤ 4) (i_v4 : 0 ≤ v4.toInt ∧ v4.toInt ≤ 4) (i_v5 : 0 ≤ v5.toInt ∧ v5.toInt ≤ 8) (i_v6 : 0 ≤ v6.toInt ∧ v6.toInt ≤ 8) (i_v7 : 0 ≤ v7.toInt ∧ v7.toInt ≤ 1) (i_v8 : -1 ≤ v8.toInt ∧ v8.toInt ≤ 3) (i_v12 : 0 ≤ v12.toInt ∧ v12.toInt ≤ 40) (i_v16 : 0 ≤ v16.toInt ∧ v16.toInt ≤ 10) (i_v17 : 0 ≤ v17.toInt ∧ v17.toInt ≤ 1) (sz : Nat) : Met l yX12_opens q_X12_opens_2 ({ frames := 0, cells := 0, slots := 0, locals := 0 }) (va_Pc [.ref h0] (fun U => U.heap.size = sz ∧ va_P (dC, dI) vwCl (wd_171f232f h0 v0 r0 v1 v2 (-1) 4 r1 r2 r3 r4 r5 r6 r7 v3 v4 r8 r9 r10 r11 v5 r12 r13 v6 v7 r14 r15 v8 v9 r16 v10 v11 r17 v12 w13 r18 v14 v15 r19 r20 r21 r22 r23 r24 v16 r25 r26 r27 v17) U.heap ∧ va_K (dC, dI) vwCl [] U ∧ va_D (fun _ => True) (wd_171f232f h0 v0 r0 v1 v2 (-1) 4 r1 r2 r3 r4 r5 r6 r7 v3 v4 r8 r9 r10 r11 v5 r12 r13 v6 v7 r14 r15 v8 v9 r16 v10 v11 r17 v12 w13 r18 v14 v15 r19 r20 r21 r22 r23 r24 v16 r25 r26 r27 v17))) (va_Qv (fun (_ : Unit) => True) (fun (_ : Unit) (t : State) => (∃ (o_h0_3 : Int32), 1 ≤ o_h0_3.toInt ∧ o_h0_3.toInt ≤ 240 ∧ (o_h0_3.toInt = v2.toInt + 1) ∧ va_P (dC, dI) vwCl (wd_171f232f h0 v0 r0 v1 o_h0_3 (-1) 5 r1 r2 r3 r4 r5 r6 r7 v3 v4 r8 r9 r10 r11 v5 r12 r13 v6 v7 r14 r15 v8 v9 r16 v10 v11 r17 v12 w13 r18 v14 v15 r19 r20 r21 r22 r23 r24 v16 r25 r26 r27 v17) t.heap ∧ va_K (dC, dI) vwCl [] t ∧ va_D (va_A (wd_171f232f h0 v0 r0 v1 v2 (-1) 4 r1 r2 r3 r4 r5 r6 r7 v3 v4 r8 r9 r10 r11 v5 r12 r13 v6 v7 r14 r15 v8 v9 r16 v10 v11 r17 v12 w13 r18 v14 v15 r19 r20 r21 r22 r23 r24 v16 r25 r26 r27 v17) sz) (wd_171f232f h0 v0 r0 v1 o_h0_3 (-1) 5 r1 r2 r3 r4 r5 r6 r7 v3 v4 r8 r9 r10 r11 v5 r12 r13 v6 v7 r14 r15 v8 v9 r16 v10 v11 r17 v12 w13 r18 v14 v15 r19 r20 r21 r22 r23 r24 v16 r25 r26 r27 v17))) (va_A (wd_171f232f h0 v0 r0 v1 v2 (-1) 4 r1 r2 r3 r4 r5 r6 r7 v3 v4 r8 r9 r10 r11 v5 r12 r13 v6 v7 r14 r15 v8 v9 r16 v10 v11 r17 v12 w13 r18 v14 v15 r19 r20 r21 r22 r23 r24 v16 r25 r26 r27 v17) sz)) 0 0 (va_A (wd_171f232f h0 v0 r0 v1 v2 (-1) 4 r1 r2 r3 r4 r5 r6 r7 v3 v4 r8 r9 r10 r11 v5 r12 r13 v6 v7 r14 r15 v8 v9 r16 v10 v11 r17 v12 w13 r18 v14 v15 r19 r20 r21 r22 r23 r24 v16 r25 r26 r27 v17) sz) := by
  refine Met.ofW (cc := cX12_opens) (maxL := 1) (ret := none) (by decide) rfl ?_
  intro p e s m args below meth c s₁ B hml hv
  obtain ⟨i_v1a, i_v1b⟩ := i_v1
  obtain ⟨i_v2a, i_v2b⟩ := i_v2
  obtain ⟨i_v3a, i_v3b⟩ := i_v3
  obtain ⟨i_v4a, i_v4b⟩ := i_v4
  obtain ⟨i_v5a, i_v5b⟩ := i_v5
  obtain ⟨i_v6a, i_v6b⟩ := i_v6
  obtain ⟨i_v7a, i_v7b⟩ := i_v7
  obtain ⟨i_v8a, i_v8b⟩ := i_v8
  obtain ⟨i_v12a, i_v12b⟩ := i_v12
  obtain ⟨i_v16a, i_v16b⟩ := i_v16
  obtain ⟨i_v17a, i_v17b⟩ := i_v17
  obtain ⟨rfl, hsz, hP, hK, hD0⟩ := hv
  have hx := B.exec
  have hb := B.bytes
  have hr := B.returns
  have hts := atoms_spec (ws := q_X12_opens_2) B.pre
  have hown : s.vm.findClass RX12 = some m.cls := findClass_of_methodNamed B.named
  have hlocks := B.notSynchronized
  subst hsz
  have hD := hD0.self (sz := s.heap.size)
  generalize hAe : va_A (wd_171f232f h0 v0 r0 v1 v2 (-1) 4 r1 r2 r3 r4 r5 r6 r7 v3 v4 r8 r9 r10 r11 v5 r12 r13 v6 v7 r14 r15 v8 v9 r16 v10 v11 r17 v12 w13 r18 v14 v15 r19 r20 r21 r22 r23 r24 v16 r25 r26 r27 v17) s.heap.size = A at hD ⊢
  have hA : ∀ q : Nat, s.heap.size ≤ q → A q := fun q h => by rw [← hAe]; exact Or.inr h
  have hS : va_S A s.heap s.heap [] := va_S.rf
  generalize hQ : (MQ below _ _ s 0 0 A) = Q
  have hl := lv_entry ([.ref h0]) (n := 1) (Nat.le_of_ble_eq_true rfl)
  rw [lg_entry_eq]
  generalize (lg_sl ([.ref h0]) ++ List.replicate (1 - (lg_sl ([.ref h0])).length) Slot.unset).toArray = ls at hl ⊢
  have hl : lv_has ls 1 [(0, .ref h0)] := hl
  obtain ⟨H, hH⟩ : ∃ H : Heap, H = s.heap := ⟨_, rfl⟩
  obtain ⟨locs, hlocs⟩ : ∃ y : List Loc, y = [] := ⟨_, rfl⟩
  have hS : va_S A s.heap H locs := by rw [hH, hlocs]; exact va_S.rf
  have hP : va_P (dC, dI) vwCl (wd_171f232f h0 v0 r0 v1 v2 (-1) 4 r1 r2 r3 r4 r5 r6 r7 v3 v4 r8 r9 r10 r11 v5 r12 r13 v6 v7 r14 r15 v8 v9 r16 v10 v11 r17 v12 w13 r18 v14 v15 r19 r20 r21 r22 r23 r24 v16 r25 r26 r27 v17) H := by rw [hH]; exact hP
  rw [← hH, ← hlocs]
  refine lv_aload_n hx hb dX12_opens_0 rfl (lv_at hl 0 rfl) ?_
  refine va_get (D := (dC, dI)) (ci := 12) (v := .int 4) (C := RX12) (T := TX12) (N := 48) hx hb hts (fun _ h => List.mem_cons_of_mem _ (List.mem_append_right _ h)) hown hK hP 0 rfl rfl 5 (by decide) (hts (.fieldLink RX12 125 "LeftArgumentsModel" "deep" "I") (List.mem_cons_of_mem _ (List.mem_append_left _ (List.mem_of_getElem? (i := 0) rfl)))) (fun _ h9 => h9) rfl dX12_opens_1 ?_
  refine lv_bipush (v := 6) hx hb dX12_opens_4 (by decide) ?_
  refine lv_icmp_ne (tgt := 13) hx hb dX12_opens_6 (by decide) (fun _ => ?_) (fun c => absurd c (by decide))
  refine lv_aload_n hx hb dX12_opens_13 rfl (lv_at hl 0 rfl) ?_
  refine lv_dup hx hb dX12_opens_14 rfl ?_
  refine va_get (D := (dC, dI)) (ci := 12) (v := .int 4) (C := RX12) (T := TX12) (N := 48) hx hb hts (fun _ h => List.mem_cons_of_mem _ (List.mem_append_right _ h)) hown hK hP 0 rfl rfl 5 (by decide) (hts (.fieldLink RX12 125 "LeftArgumentsModel" "deep" "I") (List.mem_cons_of_mem _ (List.mem_append_left _ (List.mem_of_getElem? (i := 0) rfl)))) (fun _ h9 => h9) rfl dX12_opens_15 ?_
  refine lv_iconst (v := 1) hx hb dX12_opens_18 (by decide) ?_
  refine lv_iadd hx hb dX12_opens_19 ?_
  refine lv_topi (fun tv1 etv1 => ?_)
  obtain rfl : tv1 = (5 : Int32) := etv1.trans (by first | rfl | decide)
  refine va_put (D := (dC, dI)) (ci := 12) (v := .int 5) (ty := .int) (C := RX12) (T := TX12) (N := 48) hx hb hts (fun _ h => List.mem_cons_of_mem _ (List.mem_append_right _ h)) tyX12 tyX12_ok nmX12 hown hK hP hD hS 0 rfl rfl 5 (by decide) (hts (.fieldLink RX12 125 "LeftArgumentsModel" "deep" "I") (List.mem_cons_of_mem _ (List.mem_append_left _ (List.mem_of_getElem? (i := 0) rfl)))) (fun _ h9 => h9) rfl (by decide +kernel) rfl rfl (Nat.le_of_ble_eq_true rfl) dX12_opens_20 (fun H locs hP hD hS => ?_)
  have hP : va_P (dC, dI) vwCl (wd_171f232f h0 v0 r0 v1 v2 (-1) 5 r1 r2 r3 r4 r5 r6 r7 v3 v4 r8 r9 r10 r11 v5 r12 r13 v6 v7 r14 r15 v8 v9 r16 v10 v11 r17 v12 w13 r18 v14 v15 r19 r20 r21 r22 r23 r24 v16 r25 r26 r27 v17) H := hP
  have hD : va_D A (wd_171f232f h0 v0 r0 v1 v2 (-1) 5 r1 r2 r3 r4 r5 r6 r7 v3 v4 r8 r9 r10 r11 v5 r12 r13 v6 v7 r14 r15 v8 v9 r16 v10 v11 r17 v12 w13 r18 v14 v15 r19 r20 r21 r22 r23 r24 v16 r25 r26 r27 v17) := hD
  refine lv_aload_n hx hb dX12_opens_23 rfl (lv_at hl 0 rfl) ?_
  refine lv_dup hx hb dX12_opens_24 rfl ?_
  refine va_get (D := (dC, dI)) (ci := 12) (v := .int v2) (C := RX12) (T := TX12) (N := 48) hx hb hts (fun _ h => List.mem_cons_of_mem _ (List.mem_append_right _ h)) hown hK hP 0 rfl rfl 3 (by decide) (hts (.fieldLink RX12 112 "LeftArgumentsModel" "at" "I") (List.mem_cons_of_mem _ (List.mem_append_left _ (List.mem_of_getElem? (i := 1) rfl)))) (fun _ h9 => h9) rfl dX12_opens_25 ?_
  refine lv_iconst (v := 1) hx hb dX12_opens_28 (by decide) ?_
  refine lv_iadd hx hb dX12_opens_29 ?_
  refine lv_topi (fun t2 et2 => ?_)
  have gt2 : t2.toInt = v2.toInt + 1 := pv_add (a := v2.toInt) (b := 1) et2 rfl (by decide) (by omega) (by omega)
  refine va_put (D := (dC, dI)) (ci := 12) (v := .int t2) (ty := .int) (C := RX12) (T := TX12) (N := 48) hx hb hts (fun _ h => List.mem_cons_of_mem _ (List.mem_append_right _ h)) tyX12 tyX12_ok nmX12 hown hK hP hD hS 0 rfl rfl 3 (by decide) (hts (.fieldLink RX12 112 "LeftArgumentsModel" "at" "I") (List.mem_cons_of_mem _ (List.mem_append_left _ (List.mem_of_getElem? (i := 1) rfl)))) (fun _ h9 => h9) rfl (by decide +kernel) rfl rfl (Nat.le_of_ble_eq_true rfl) dX12_opens_30 (fun H locs hP hD hS => ?_)
  have hP : va_P (dC, dI) vwCl (wd_171f232f h0 v0 r0 v1 t2 (-1) 5 r1 r2 r3 r4 r5 r6 r7 v3 v4 r8 r9 r10 r11 v5 r12 r13 v6 v7 r14 r15 v8 v9 r16 v10 v11 r17 v12 w13 r18 v14 v15 r19 r20 r21 r22 r23 r24 v16 r25 r26 r27 v17) H := hP
  have hD : va_D A (wd_171f232f h0 v0 r0 v1 t2 (-1) 5 r1 r2 r3 r4 r5 r6 r7 v3 v4 r8 r9 r10 r11 v5 r12 r13 v6 v7 r14 r15 v8 v9 r16 v10 v11 r17 v12 w13 r18 v14 v15 r19 r20 r21 r22 r23 r24 v16 r25 r26 r27 v17) := hD
  subst hQ
  have hP9 := hP.sub (ws' := (wd_171f232f h0 v0 r0 v1 t2 (-1) 5 r1 r2 r3 r4 r5 r6 r7 v3 v4 r8 r9 r10 r11 v5 r12 r13 v6 v7 r14 r15 v8 v9 r16 v10 v11 r17 v12 w13 r18 v14 v15 r19 r20 r21 r22 r23 r24 v16 r25 r26 r27 v17)) [0] rfl
  have hD9 := hD.sub (ws' := (wd_171f232f h0 v0 r0 v1 t2 (-1) 5 r1 r2 r3 r4 r5 r6 r7 v3 v4 r8 r9 r10 r11 v5 r12 r13 v6 v7 r14 r15 v8 v9 r16 v10 v11 r17 v12 w13 r18 v14 v15 r19 r20 r21 r22 r23 r24 v16 r25 r26 r27 v17)) [0] (by decide) rfl
  have hK9 := hK.sub (tys' := []) [] rfl
  exact W.vret hx hb hr (fun t ht hW => ⟨⟨(), rfl, trivial, ⟨t2, by first | omega | decide, by first | omega | decide, by omega, by rw [ht]; exact hP9, va_K.moved hW.alike hK9, hD9⟩⟩, hS.F ht⟩) hS.2.2 dX12_opens_33
def q_X12_closes_4 : List Cond := .code yX12_closes cX12_closes 2 none :: (([.fieldLink RX12 119 "LeftArgumentsModel" "wrong" "I", .code yX12_look cX12_look 1 (some .int), .code yX12_here cX12_here 1 (some .int), .fieldLink RX12 112 "LeftArgumentsModel" "at" "I", .fieldLink RX12 109 "LeftArgumentsModel" "size" "I", .fieldLink RX12 9 "LeftArgumentsModel" "tape" "[I", .initialized RX12, .instanceMethod yX12_here, .selects RX12 yX12_here yX12_here, .methodLink RX12 115 yX12_here, .instanceMethod yX12_look, .selects RX12 yX12_look yX12_look, .methodLink RX12 131 yX12_look, .code yX12_bad cX12_bad 1 none, .instanceMethod yX12_bad, .selects RX12 yX12_bad yX12_bad, .methodLink RX12 128 yX12_bad, .fieldLink RX12 125 "LeftArgumentsModel" "deep" "I"] : List Cond) ++ wsX120)
set_option maxRecDepth 20000 in
theorem g_X12_closes_4_0 : GoodIn q_X12_closes_4 (wsV RX12 131 RX12 yX12_look q_X12_look) := goodIn_app (goodIn_r _ [13, 11, 12, 7] rfl (by decide +kernel)) (goodIn_ca (goodIn_r (.code yX12_look cX12_look 1 (some .int) :: [.code yX12_here cX12_here 1 (some .int), .fieldLink RX12 112 "LeftArgumentsModel" "at" "I", .fieldLink RX12 109 "LeftArgumentsModel" "size" "I", .fieldLink RX12 9 "LeftArgumentsModel" "tape" "[I", .initialized RX12, .instanceMethod yX12_here, .selects RX12 yX12_here yX12_here, .methodLink RX12 115 yX12_here]) [2, 3, 4, 5, 6, 7, 8, 9, 10] rfl (by decide +kernel)) (goodIn_sub (fun _ h => List.mem_cons_of_mem _ (List.mem_append_right _ h)) gwX12))
set_option maxRecDepth 20000 in
theorem g_X12_closes_4_1 : GoodIn q_X12_closes_4 (wsV RX12 128 RX12 yX12_bad q_X12_bad) := goodIn_app (goodIn_r _ [17, 15, 16, 7] rfl (by decide +kernel)) (goodIn_ca (goodIn_r (.code yX12_bad cX12_bad 1 none :: [.fieldLink RX12 119 "LeftArgumentsModel" "wrong" "I", .fieldLink RX12 112 "LeftArgumentsModel" "at" "I"]) [14, 1, 4] rfl (by decide +kernel)) (goodIn_sub (fun _ h => List.mem_cons_of_mem _ (List.mem_append_right _ h)) gwX12))
set_option maxHeartbeats 4000000 in
set_option maxRecDepth 100000 in
theorem k_X12_closes_4 (l : Launch) (dC : Nat → ClassId) (dI : Nat → Nat → Nat) (h0 : Nat) (h1 : Nat) (v0 : Int32) (v1 : Int32) (v2 : Int32) (r0 : Nat) (r1 : Nat) (r2 : Nat) (r3 : Nat) (r4 : Nat) (r5 : Nat) (r6 : Nat) (v3 : Int32) (v4 : Int32) (r7 : Nat) (r8 : Nat) (r9 : Nat) (r10 : Nat) (v5 : Int32) (r11 : Nat) (r12 : Nat) (v6 : Int32) (v7 : Int32) (r13 : Nat) (r14 : Nat) (v8 : Int32) (v9 : Int32) (r15 : Nat) (v10 : Int32) (v11 : Int32) (r16 : Nat) (v12 : Int32) (w13 : Int64) (r17 : Nat) (v14 : Int32) (v15 : Int32) (r18 : Nat) (r19 : Nat) (r20 : Nat) (r21 : Nat) (r22 : Nat) (r23 : Nat) (v16 : Int32) (r24 : Nat) (r25 : Nat) (r26 : Nat) (v17 : Int32) (g0 : ClassId) (f18 : Nat → Int32) (i_v1 : 0 ≤ v1.toInt ∧ v1.toInt ≤ 240) (i_v2 : 0 ≤ v2.toInt ∧ v2.toInt ≤ 240) (i_v3 : 0 ≤ v3.toInt ∧ v3.toInt ≤ 4) (i_v4 : 0 ≤ v4.toInt ∧ v4.toInt ≤ 4) (i_v5 : 0 ≤ v5.toInt ∧ v5.toInt ≤ 8) (i_v6 : 0 ≤ v6.toInt ∧ v6.toInt ≤ 8) (i_v7 : 0 ≤ v7.toInt ∧ v7.toInt ≤ 1) (i_v8 : -1 ≤ v8.toInt ∧ v8.toInt ≤ 3) (i_v12 : 0 ≤ v12.toInt ∧ v12.toInt ≤ 40) (i_v16 : 0 ≤ v16.toInt ∧ v16.toInt ≤ 10) (i_v17 : 0 ≤ v17.toInt ∧ v17.toInt ≤ 1) (ia_f18 : (∀ j, 0 ≤ (f18 j).toInt ∧ (f18 j).toInt ≤ 255)) (sz : Nat) : Met l yX12_closes q_X12_closes_4 ({ frames := 2, cells := 0, slots := 0, locals := 40 }) (va_Pc [.ref h0, .int 93] (fun U => U.heap.size = sz ∧ va_P (dC, dI) vwCl (wd_f4cd022e h0 v0 h1 v1 v2 (-1) 5 r0 r1 r2 r3 r4 r5 r6 v3 v4 r7 r8 r9 r10 v5 r11 r12 v6 v7 r13 r14 v8 v9 r15 v10 v11 r16 v12 w13 r17 v14 v15 r18 r19 r20 r21 r22 r23 v16 r24 r25 r26 v17 h1 g0 f18) U.heap ∧ va_K (dC, dI) vwCl [(g0, .int)] U ∧ va_D (fun _ => True) (wd_f4cd022e h0 v0 h1 v1 v2 (-1) 5 r0 r1 r2 r3 r4 r5 r6 v3 v4 r7 r8 r9 r10 v5 r11 r12 v6 v7 r13 r14 v8 v9 r15 v10 v11 r16 v12 w13 r17 v14 v15 r18 r19 r20 r21 r22 r23 v16 r24 r25 r26 v17 h1 g0 f18))) (va_Qv (fun (_ : Unit) => True) (fun (_ : Unit) (t : State) => (∃ (o_h0_3 : Int32), 1 ≤ o_h0_3.toInt ∧ o_h0_3.toInt ≤ 240 ∧ (v2.toInt + 1 ≤ o_h0_3.toInt) ∧ (pg_take f18 v1.toInt 93 v2.toInt = (true, o_h0_3.toInt)) ∧ va_P (dC, dI) vwCl (wd_f4cd022e h0 v0 h1 v1 o_h0_3 (-1) 4 r0 r1 r2 r3 r4 r5 r6 v3 v4 r7 r8 r9 r10 v5 r11 r12 v6 v7 r13 r14 v8 v9 r15 v10 v11 r16 v12 w13 r17 v14 v15 r18 r19 r20 r21 r22 r23 v16 r24 r25 r26 v17 h1 g0 f18) t.heap ∧ va_K (dC, dI) vwCl [] t ∧ va_D (va_A (wd_f4cd022e h0 v0 h1 v1 v2 (-1) 5 r0 r1 r2 r3 r4 r5 r6 v3 v4 r7 r8 r9 r10 v5 r11 r12 v6 v7 r13 r14 v8 v9 r15 v10 v11 r16 v12 w13 r17 v14 v15 r18 r19 r20 r21 r22 r23 v16 r24 r25 r26 v17 h1 g0 f18) sz) (wd_f4cd022e h0 v0 h1 v1 o_h0_3 (-1) 4 r0 r1 r2 r3 r4 r5 r6 v3 v4 r7 r8 r9 r10 v5 r11 r12 v6 v7 r13 r14 v8 v9 r15 v10 v11 r16 v12 w13 r17 v14 v15 r18 r19 r20 r21 r22 r23 v16 r24 r25 r26 v17 h1 g0 f18)) ∨ (∃ (o_h0_3 : Int32) (o_h0_4 : Int32), 1 ≤ o_h0_3.toInt ∧ o_h0_3.toInt ≤ 241 ∧ 0 ≤ o_h0_4.toInt ∧ o_h0_4.toInt ≤ 240 ∧ (v2.toInt + 1 ≤ o_h0_3.toInt) ∧ (pg_take f18 v1.toInt 93 v2.toInt = (false, o_h0_4.toInt)) ∧ va_P (dC, dI) vwCl (wd_f4cd022e h0 v0 h1 v1 o_h0_3 o_h0_4 4 r0 r1 r2 r3 r4 r5 r6 v3 v4 r7 r8 r9 r10 v5 r11 r12 v6 v7 r13 r14 v8 v9 r15 v10 v11 r16 v12 w13 r17 v14 v15 r18 r19 r20 r21 r22 r23 v16 r24 r25 r26 v17 h1 g0 f18) t.heap ∧ va_K (dC, dI) vwCl [] t ∧ va_D (va_A (wd_f4cd022e h0 v0 h1 v1 v2 (-1) 5 r0 r1 r2 r3 r4 r5 r6 v3 v4 r7 r8 r9 r10 v5 r11 r12 v6 v7 r13 r14 v8 v9 r15 v10 v11 r16 v12 w13 r17 v14 v15 r18 r19 r20 r21 r22 r23 v16 r24 r25 r26 v17 h1 g0 f18) sz) (wd_f4cd022e h0 v0 h1 v1 o_h0_3 o_h0_4 4 r0 r1 r2 r3 r4 r5 r6 v3 v4 r7 r8 r9 r10 v5 r11 r12 v6 v7 r13 r14 v8 v9 r15 v10 v11 r16 v12 w13 r17 v14 v15 r18 r19 r20 r21 r22 r23 v16 r24 r25 r26 v17 h1 g0 f18))) (va_A (wd_f4cd022e h0 v0 h1 v1 v2 (-1) 5 r0 r1 r2 r3 r4 r5 r6 v3 v4 r7 r8 r9 r10 v5 r11 r12 v6 v7 r13 r14 v8 v9 r15 v10 v11 r16 v12 w13 r17 v14 v15 r18 r19 r20 r21 r22 r23 v16 r24 r25 r26 v17 h1 g0 f18) sz)) 0 0 (va_A (wd_f4cd022e h0 v0 h1 v1 v2 (-1) 5 r0 r1 r2 r3 r4 r5 r6 v3 v4 r7 r8 r9 r10 v5 r11 r12 v6 v7 r13 r14 v8 v9 r15 v10 v11 r16 v12 w13 r17 v14 v15 r18 r19 r20 r21 r22 r23 v16 r24 r25 r26 v17 h1 g0 f18) sz) := by
  refine Met.ofW (cc := cX12_closes) (maxL := 2) (ret := none) (by decide) rfl ?_
  intro p e s m args below meth c s₁ B hml hv
  obtain ⟨i_v1a, i_v1b⟩ := i_v1
  obtain ⟨i_v2a, i_v2b⟩ := i_v2
  obtain ⟨i_v3a, i_v3b⟩ := i_v3
  obtain ⟨i_v4a, i_v4b⟩ := i_v4
  obtain ⟨i_v5a, i_v5b⟩ := i_v5
  obtain ⟨i_v6a, i_v6b⟩ := i_v6
  obtain ⟨i_v7a, i_v7b⟩ := i_v7
  obtain ⟨i_v8a, i_v8b⟩ := i_v8
  obtain ⟨i_v12a, i_v12b⟩ := i_v12
  obtain ⟨i_v16a, i_v16b⟩ := i_v16
  obtain ⟨i_v17a, i_v17b⟩ := i_v17
  obtain ⟨rfl, hsz, hP, hK, hD0⟩ := hv
  have hx := B.exec
  have hb := B.bytes
  have hr := B.returns
  have hts := atoms_spec (ws := q_X12_closes_4) B.pre
  have hown : s.vm.findClass RX12 = some m.cls := findClass_of_methodNamed B.named
  have hlocks := B.notSynchronized
  subst hsz
  have hD := hD0.self (sz := s.heap.size)
  generalize hAe : va_A (wd_f4cd022e h0 v0 h1 v1 v2 (-1) 5 r0 r1 r2 r3 r4 r5 r6 v3 v4 r7 r8 r9 r10 v5 r11 r12 v6 v7 r13 r14 v8 v9 r15 v10 v11 r16 v12 w13 r17 v14 v15 r18 r19 r20 r21 r22 r23 v16 r24 r25 r26 v17 h1 g0 f18) s.heap.size = A at hD ⊢
  have hA : ∀ q : Nat, s.heap.size ≤ q → A q := fun q h => by rw [← hAe]; exact Or.inr h
  have hS : va_S A s.heap s.heap [] := va_S.rf
  generalize hQ : (MQ below _ _ s 0 0 A) = Q
  have hl := lv_entry ([.ref h0, .int 93]) (n := 2) (Nat.le_of_ble_eq_true rfl)
  rw [lg_entry_eq]
  generalize (lg_sl ([.ref h0, .int 93]) ++ List.replicate (2 - (lg_sl ([.ref h0, .int 93])).length) Slot.unset).toArray = ls at hl ⊢
  have hl : lv_has ls 2 [(0, .ref h0), (1, .int 93)] := hl
  obtain ⟨H, hH⟩ : ∃ H : Heap, H = s.heap := ⟨_, rfl⟩
  obtain ⟨locs, hlocs⟩ : ∃ y : List Loc, y = [] := ⟨_, rfl⟩
  have hS : va_S A s.heap H locs := by rw [hH, hlocs]; exact va_S.rf
  have hP : va_P (dC, dI) vwCl (wd_f4cd022e h0 v0 h1 v1 v2 (-1) 5 r0 r1 r2 r3 r4 r5 r6 v3 v4 r7 r8 r9 r10 v5 r11 r12 v6 v7 r13 r14 v8 v9 r15 v10 v11 r16 v12 w13 r17 v14 v15 r18 r19 r20 r21 r22 r23 v16 r24 r25 r26 v17 h1 g0 f18) H := by rw [hH]; exact hP
  rw [← hH, ← hlocs]
  refine lv_aload_n hx hb dX12_closes_0 rfl (lv_at hl 0 rfl) ?_
  refine va_get (D := (dC, dI)) (ci := 12) (v := .int (-1)) (C := RX12) (T := TX12) (N := 48) hx hb hts (fun _ h => List.mem_cons_of_mem _ (List.mem_append_right _ h)) hown hK hP 0 rfl rfl 4 (by decide) (hts (.fieldLink RX12 119 "LeftArgumentsModel" "wrong" "I") (List.mem_cons_of_mem _ (List.mem_append_left _ (List.mem_of_getElem? (i := 0) rfl)))) (fun _ h9 => h9) rfl dX12_closes_1 ?_
  refine lv_iconst (v := (-1)) hx hb dX12_closes_4 (by decide) ?_
  refine lv_icmp_ne (tgt := 20) hx hb dX12_closes_5 (by decide) (fun c => absurd (by decide) c) (fun _ => ?_)
  refine lv_aload_n hx hb dX12_closes_8 rfl (lv_at hl 0 rfl) ?_
  have hPc := hP.sub (ws' := (wd_f4cd022e h0 v0 h1 v1 v2 (-1) 5 r0 r1 r2 r3 r4 r5 r6 v3 v4 r7 r8 r9 r10 v5 r11 r12 v6 v7 r13 r14 v8 v9 r15 v10 v11 r16 v12 w13 r17 v14 v15 r18 r19 r20 r21 r22 r23 v16 r24 r25 r26 v17 h1 g0 f18)) [0, 1] rfl
  have hDc := hD.sub (ws' := (wd_f4cd022e h0 v0 h1 v1 v2 (-1) 5 r0 r1 r2 r3 r4 r5 r6 v3 v4 r7 r8 r9 r10 v5 r11 r12 v6 v7 r13 r14 v8 v9 r15 v10 v11 r16 v12 w13 r17 v14 v15 r18 r19 r20 r21 r22 r23 v16 r24 r25 r26 v17 h1 g0 f18)) [0, 1] (by decide) rfl
  have hKc := hK.sub (tys' := [(g0, .int)]) [0] rfl
  have hFc := va_free (wc := (wd_f4cd022e h0 v0 h1 v1 v2 (-1) 5 r0 r1 r2 r3 r4 r5 r6 v3 v4 r7 r8 r9 r10 v5 r11 r12 v6 v7 r13 r14 v8 v9 r15 v10 v11 r16 v12 w13 r17 v14 v15 r18 r19 r20 r21 r22 r23 v16 r24 r25 r26 v17 h1 g0 f18)) hD hS hA [0, 1] rfl
  refine va_calli (va_runV (As := []) (rest := []) ⟨hx, hb, hml, hown, hts⟩ (k_X12_look l dC dI h0 h1 v0 v1 v2 ((-1)) 5 r0 r1 r2 r3 r4 r5 r6 v3 v4 r7 r8 r9 r10 v5 r11 r12 v6 v7 r13 r14 v8 v9 r15 v10 v11 r16 v12 w13 r17 v14 v15 r18 r19 r20 r21 r22 r23 v16 r24 r25 r26 v17 g0 f18 ⟨i_v1a, i_v1b⟩ ⟨i_v2a, i_v2b⟩ ⟨i_v3a, i_v3b⟩ ⟨i_v4a, i_v4b⟩ ⟨i_v5a, i_v5b⟩ ⟨i_v6a, i_v6b⟩ ⟨i_v7a, i_v7b⟩ ⟨i_v8a, i_v8b⟩ ⟨i_v12a, i_v12b⟩ ⟨i_v16a, i_v16b⟩ ⟨i_v17a, i_v17b⟩ ia_f18 H.size) (cwV 0 hts g_X12_closes_4_0 rfl rfl rfl (by decide +kernel) ⟨Nat.le_of_ble_eq_true rfl, Nat.le_of_ble_eq_true rfl⟩) (pv_PV12 hPc hKc hDc (q0 := 0) rfl) rfl rfl hl.1 rfl (lv_room (Nat.le_of_ble_eq_true rfl)) dX12_closes_9 ⟨Nat.le_of_ble_eq_true rfl, Nat.le_of_ble_eq_true rfl⟩) hS (fun q _ h => hFc q h) hFc (fun ra1 u t H1 locs ht hvm hwra1 hB hz1 hk1 hS => ?_)
  try rw [hwra1] at hB
  have hkra1_0 : (((-1) : Int32)).toInt = -1 := by decide
  have hkra1_1 : ((5 : Int32)).toInt = 5 := by decide
  rcases hB with hB | hB
  · skip
    obtain ⟨x2, oa_x2, ob_x2, pt0_ra1, pt1_ra1, pt2_ra1, pt3_ra1, pt4_ra1, pt5_ra1, pt6_ra1, hP1, hK1, hD1⟩ := hB
    rw [ht] at hP1
    obtain ⟨hP2, hD2⟩ := va_join (wr := []) (w1 := (wd_f4cd022e h0 v0 h1 v1 x2 (-1) 5 r0 r1 r2 r3 r4 r5 r6 v3 v4 r7 r8 r9 r10 v5 r11 r12 v6 v7 r13 r14 v8 v9 r15 v10 v11 r16 v12 w13 r17 v14 v15 r18 r19 r20 r21 r22 r23 v16 r24 r25 r26 v17 h1 g0 f18)) hP hD [0, 1] [] rfl rfl (by decide) (by decide) hk1 hFc hP1 hD1
    clear hP hD hPc hDc hKc hFc hP1 hK1 hD1 hk1 hz1
    generalize H1 = H at hP2 hS ⊢
    have hP : va_P (dC, dI) vwCl (wd_f4cd022e h0 v0 h1 v1 x2 (-1) 5 r0 r1 r2 r3 r4 r5 r6 v3 v4 r7 r8 r9 r10 v5 r11 r12 v6 v7 r13 r14 v8 v9 r15 v10 v11 r16 v12 w13 r17 v14 v15 r18 r19 r20 r21 r22 r23 v16 r24 r25 r26 v17 h1 g0 f18) H := hP2
    have hD : va_D A (wd_f4cd022e h0 v0 h1 v1 x2 (-1) 5 r0 r1 r2 r3 r4 r5 r6 v3 v4 r7 r8 r9 r10 v5 r11 r12 v6 v7 r13 r14 v8 v9 r15 v10 v11 r16 v12 w13 r17 v14 v15 r18 r19 r20 r21 r22 r23 v16 r24 r25 r26 v17 h1 g0 f18) := hD2
    clear hP2 hD2
    obtain rfl : ra1 = ((-1) : Int32) := pv_cs (by decide) pt0_ra1 pt1_ra1
    refine lv_iload_n hx hb dX12_closes_12 rfl (lv_at hl 1 rfl) ?_
    refine lv_icmp_eq (tgt := 20) hx hb dX12_closes_13 (by decide) (fun c => absurd c (by decide)) (fun _ => ?_)
    refine lv_aload_n hx hb dX12_closes_16 rfl (lv_at hl 0 rfl) ?_
    have hPc := hP.sub (ws' := (wd_171f232f h0 v0 h1 v1 x2 (-1) 5 r0 r1 r2 r3 r4 r5 r6 v3 v4 r7 r8 r9 r10 v5 r11 r12 v6 v7 r13 r14 v8 v9 r15 v10 v11 r16 v12 w13 r17 v14 v15 r18 r19 r20 r21 r22 r23 v16 r24 r25 r26 v17)) [0] rfl
    have hDc := hD.sub (ws' := (wd_171f232f h0 v0 h1 v1 x2 (-1) 5 r0 r1 r2 r3 r4 r5 r6 v3 v4 r7 r8 r9 r10 v5 r11 r12 v6 v7 r13 r14 v8 v9 r15 v10 v11 r16 v12 w13 r17 v14 v15 r18 r19 r20 r21 r22 r23 v16 r24 r25 r26 v17)) [0] (by decide) rfl
    have hKc := hK.sub (tys' := []) [] rfl
    have hFc := va_free (wc := (wd_171f232f h0 v0 h1 v1 x2 (-1) 5 r0 r1 r2 r3 r4 r5 r6 v3 v4 r7 r8 r9 r10 v5 r11 r12 v6 v7 r13 r14 v8 v9 r15 v10 v11 r16 v12 w13 r17 v14 v15 r18 r19 r20 r21 r22 r23 v16 r24 r25 r26 v17)) hD hS hA [0] rfl
    refine va_callv (va_runV (As := []) (rest := []) ⟨hx, hb, hml, hown, hts⟩ (k_X12_bad l dC dI h0 v0 h1 v1 x2 5 r0 r1 r2 r3 r4 r5 r6 v3 v4 r7 r8 r9 r10 v5 r11 r12 v6 v7 r13 r14 v8 v9 r15 v10 v11 r16 v12 w13 r17 v14 v15 r18 r19 r20 r21 r22 r23 v16 r24 r25 r26 v17 ⟨i_v1a, i_v1b⟩ ⟨oa_x2, ob_x2⟩ ⟨i_v3a, i_v3b⟩ ⟨i_v4a, i_v4b⟩ ⟨i_v5a, i_v5b⟩ ⟨i_v6a, i_v6b⟩ ⟨i_v7a, i_v7b⟩ ⟨i_v8a, i_v8b⟩ ⟨i_v12a, i_v12b⟩ ⟨i_v16a, i_v16b⟩ ⟨i_v17a, i_v17b⟩ H.size) (cwV 0 hts g_X12_closes_4_1 rfl rfl rfl (by decide +kernel) ⟨Nat.le_of_ble_eq_true rfl, Nat.le_of_ble_eq_true rfl⟩) (pv_PV12 hPc hKc hDc (q0 := 0) rfl) rfl rfl hl.1 rfl (lv_room (Nat.le_of_ble_eq_true rfl)) dX12_closes_17 ⟨Nat.le_of_ble_eq_true rfl, Nat.le_of_ble_eq_true rfl⟩) hS (fun q _ h => hFc q h) hFc (fun u t H1 locs ht hvm hwra3 hB hz1 hk1 hS => ?_)
    have hkra3_0 : ((5 : Int32)).toInt = 5 := by decide
    obtain ⟨x4, oa_x4, ob_x4, pt0_ra3, hP1, hK1, hD1⟩ := hB
    rw [ht] at hP1
    obtain ⟨hP2, hD2⟩ := va_join (wr := (wd_d0032b31 h1 g0 f18)) (w1 := (wd_171f232f h0 v0 h1 v1 x2 x4 5 r0 r1 r2 r3 r4 r5 r6 v3 v4 r7 r8 r9 r10 v5 r11 r12 v6 v7 r13 r14 v8 v9 r15 v10 v11 r16 v12 w13 r17 v14 v15 r18 r19 r20 r21 r22 r23 v16 r24 r25 r26 v17)) hP hD [0] [1] rfl rfl (by decide) (by decide) hk1 hFc hP1 hD1
    clear hP hD hPc hDc hKc hFc hP1 hK1 hD1 hk1 hz1
    generalize H1 = H at hP2 hS ⊢
    have hP := hP2.sub (ws' := (wd_f4cd022e h0 v0 h1 v1 x2 x4 5 r0 r1 r2 r3 r4 r5 r6 v3 v4 r7 r8 r9 r10 v5 r11 r12 v6 v7 r13 r14 v8 v9 r15 v10 v11 r16 v12 w13 r17 v14 v15 r18 r19 r20 r21 r22 r23 v16 r24 r25 r26 v17 h1 g0 f18)) [1, 0] rfl
    have hD := hD2.sub (ws' := (wd_f4cd022e h0 v0 h1 v1 x2 x4 5 r0 r1 r2 r3 r4 r5 r6 v3 v4 r7 r8 r9 r10 v5 r11 r12 v6 v7 r13 r14 v8 v9 r15 v10 v11 r16 v12 w13 r17 v14 v15 r18 r19 r20 r21 r22 r23 v16 r24 r25 r26 v17 h1 g0 f18)) [1, 0] (by decide) rfl
    clear hP2 hD2
    refine lv_aload_n hx hb dX12_closes_20 rfl (lv_at hl 0 rfl) ?_
    refine lv_dup hx hb dX12_closes_21 rfl ?_
    refine va_get (D := (dC, dI)) (ci := 12) (v := .int x2) (C := RX12) (T := TX12) (N := 48) hx hb hts (fun _ h => List.mem_cons_of_mem _ (List.mem_append_right _ h)) hown hK hP 0 rfl rfl 3 (by decide) (hts (.fieldLink RX12 112 "LeftArgumentsModel" "at" "I") (List.mem_cons_of_mem _ (List.mem_append_left _ (List.mem_of_getElem? (i := 3) rfl)))) (fun _ h9 => h9) rfl dX12_closes_22 ?_
    refine lv_iconst (v := 1) hx hb dX12_closes_25 (by decide) ?_
    refine lv_iadd hx hb dX12_closes_26 ?_
    refine lv_topi (fun t5 et5 => ?_)
    have gt5 : t5.toInt = x2.toInt + 1 := pv_add (a := x2.toInt) (b := 1) et5 rfl (by decide) (by omega) (by omega)
    refine va_put (D := (dC, dI)) (ci := 12) (v := .int t5) (ty := .int) (C := RX12) (T := TX12) (N := 48) hx hb hts (fun _ h => List.mem_cons_of_mem _ (List.mem_append_right _ h)) tyX12 tyX12_ok nmX12 hown hK hP hD hS 0 rfl rfl 3 (by decide) (hts (.fieldLink RX12 112 "LeftArgumentsModel" "at" "I") (List.mem_cons_of_mem _ (List.mem_append_left _ (List.mem_of_getElem? (i := 3) rfl)))) (fun _ h9 => h9) rfl (by decide +kernel) rfl rfl (Nat.le_of_ble_eq_true rfl) dX12_closes_27 (fun H locs hP hD hS => ?_)
    have hP : va_P (dC, dI) vwCl (wd_f4cd022e h0 v0 h1 v1 t5 x4 5 r0 r1 r2 r3 r4 r5 r6 v3 v4 r7 r8 r9 r10 v5 r11 r12 v6 v7 r13 r14 v8 v9 r15 v10 v11 r16 v12 w13 r17 v14 v15 r18 r19 r20 r21 r22 r23 v16 r24 r25 r26 v17 h1 g0 f18) H := hP
    have hD : va_D A (wd_f4cd022e h0 v0 h1 v1 t5 x4 5 r0 r1 r2 r3 r4 r5 r6 v3 v4 r7 r8 r9 r10 v5 r11 r12 v6 v7 r13 r14 v8 v9 r15 v10 v11 r16 v12 w13 r17 v14 v15 r18 r19 r20 r21 r22 r23 v16 r24 r25 r26 v17 h1 g0 f18) := hD
    refine lv_aload_n hx hb dX12_closes_30 rfl (lv_at hl 0 rfl) ?_
    refine lv_dup hx hb dX12_closes_31 rfl ?_
    refine va_get (D := (dC, dI)) (ci := 12) (v := .int 5) (C := RX12) (T := TX12) (N := 48) hx hb hts (fun _ h => List.mem_cons_of_mem _ (List.mem_append_right _ h)) hown hK hP 0 rfl rfl 5 (by decide) (hts (.fieldLink RX12 125 "LeftArgumentsModel" "deep" "I") (List.mem_cons_of_mem _ (List.mem_append_left _ (List.mem_of_getElem? (i := 17) rfl)))) (fun _ h9 => h9) rfl dX12_closes_32 ?_
    refine lv_iconst (v := 1) hx hb dX12_closes_35 (by decide) ?_
    refine lv_isub hx hb dX12_closes_36 ?_
    refine lv_topi (fun tv6 etv6 => ?_)
    obtain rfl : tv6 = (4 : Int32) := etv6.trans (by first | rfl | decide)
    refine va_put (D := (dC, dI)) (ci := 12) (v := .int 4) (ty := .int) (C := RX12) (T := TX12) (N := 48) hx hb hts (fun _ h => List.mem_cons_of_mem _ (List.mem_append_right _ h)) tyX12 tyX12_ok nmX12 hown hK hP hD hS 0 rfl rfl 5 (by decide) (hts (.fieldLink RX12 125 "LeftArgumentsModel" "deep" "I") (List.mem_cons_of_mem _ (List.mem_append_left _ (List.mem_of_getElem? (i := 17) rfl)))) (fun _ h9 => h9) rfl (by decide +kernel) rfl rfl (Nat.le_of_ble_eq_true rfl) dX12_closes_37 (fun H locs hP hD hS => ?_)
    have hP : va_P (dC, dI) vwCl (wd_f4cd022e h0 v0 h1 v1 t5 x4 4 r0 r1 r2 r3 r4 r5 r6 v3 v4 r7 r8 r9 r10 v5 r11 r12 v6 v7 r13 r14 v8 v9 r15 v10 v11 r16 v12 w13 r17 v14 v15 r18 r19 r20 r21 r22 r23 v16 r24 r25 r26 v17 h1 g0 f18) H := hP
    have hD : va_D A (wd_f4cd022e h0 v0 h1 v1 t5 x4 4 r0 r1 r2 r3 r4 r5 r6 v3 v4 r7 r8 r9 r10 v5 r11 r12 v6 v7 r13 r14 v8 v9 r15 v10 v11 r16 v12 w13 r17 v14 v15 r18 r19 r20 r21 r22 r23 v16 r24 r25 r26 v17 h1 g0 f18) := hD
    subst hQ
    have hP9 := hP.sub (ws' := (wd_f4cd022e h0 v0 h1 v1 t5 x4 4 r0 r1 r2 r3 r4 r5 r6 v3 v4 r7 r8 r9 r10 v5 r11 r12 v6 v7 r13 r14 v8 v9 r15 v10 v11 r16 v12 w13 r17 v14 v15 r18 r19 r20 r21 r22 r23 v16 r24 r25 r26 v17 h1 g0 f18)) [0, 1] rfl
    have hD9 := hD.sub (ws' := (wd_f4cd022e h0 v0 h1 v1 t5 x4 4 r0 r1 r2 r3 r4 r5 r6 v3 v4 r7 r8 r9 r10 v5 r11 r12 v6 v7 r13 r14 v8 v9 r15 v10 v11 r16 v12 w13 r17 v14 v15 r18 r19 r20 r21 r22 r23 v16 r24 r25 r26 v17 h1 g0 f18)) [0, 1] (by decide) rfl
    have hK9 := hK.sub (tys' := []) [] rfl
    exact W.vret hx hb hr (fun t ht hW => ⟨⟨(), rfl, trivial, Or.inr (⟨t5, x4, by first | omega | decide, by first | omega | decide, oa_x4, ob_x4, by omega, by first | (apply pg_take.ok <;> first | assumption | omega) | (apply pg_take.no <;> first | assumption | omega), by rw [ht]; exact hP9, va_K.moved hW.alike hK9, hD9⟩)⟩, hS.F ht⟩) hS.2.2 dX12_closes_40
  · skip
    obtain ⟨x7, oa_x7, ob_x7, pt0_ra1, pt1_ra1, pt2_ra1, pt3_ra1, pt4_ra1, pt5_ra1, pt6_ra1, pt7_ra1, hP1, hK1, hD1⟩ := hB
    rw [ht] at hP1
    obtain ⟨hP2, hD2⟩ := va_join (wr := []) (w1 := (wd_f4cd022e h0 v0 h1 v1 x7 (-1) 5 r0 r1 r2 r3 r4 r5 r6 v3 v4 r7 r8 r9 r10 v5 r11 r12 v6 v7 r13 r14 v8 v9 r15 v10 v11 r16 v12 w13 r17 v14 v15 r18 r19 r20 r21 r22 r23 v16 r24 r25 r26 v17 h1 g0 f18)) hP hD [0, 1] [] rfl rfl (by decide) (by decide) hk1 hFc hP1 hD1
    clear hP hD hPc hDc hKc hFc hP1 hK1 hD1 hk1 hz1
    generalize H1 = H at hP2 hS ⊢
    have hP : va_P (dC, dI) vwCl (wd_f4cd022e h0 v0 h1 v1 x7 (-1) 5 r0 r1 r2 r3 r4 r5 r6 v3 v4 r7 r8 r9 r10 v5 r11 r12 v6 v7 r13 r14 v8 v9 r15 v10 v11 r16 v12 w13 r17 v14 v15 r18 r19 r20 r21 r22 r23 v16 r24 r25 r26 v17 h1 g0 f18) H := hP2
    have hD : va_D A (wd_f4cd022e h0 v0 h1 v1 x7 (-1) 5 r0 r1 r2 r3 r4 r5 r6 v3 v4 r7 r8 r9 r10 v5 r11 r12 v6 v7 r13 r14 v8 v9 r15 v10 v11 r16 v12 w13 r17 v14 v15 r18 r19 r20 r21 r22 r23 v16 r24 r25 r26 v17 h1 g0 f18) := hD2
    clear hP2 hD2
    refine lv_iload_n hx hb dX12_closes_12 rfl (lv_at hl 1 rfl) ?_
    refine lv_icmp_eq (tgt := 20) hx hb dX12_closes_13 (by decide) (fun c8 => ?_) (fun c8 => ?_)
    · skip
      have fc8 : ra1.toInt = 93 := congrArg Int32.toInt c8
      refine lv_aload_n hx hb dX12_closes_20 rfl (lv_at hl 0 rfl) ?_
      refine lv_dup hx hb dX12_closes_21 rfl ?_
      refine va_get (D := (dC, dI)) (ci := 12) (v := .int x7) (C := RX12) (T := TX12) (N := 48) hx hb hts (fun _ h => List.mem_cons_of_mem _ (List.mem_append_right _ h)) hown hK hP 0 rfl rfl 3 (by decide) (hts (.fieldLink RX12 112 "LeftArgumentsModel" "at" "I") (List.mem_cons_of_mem _ (List.mem_append_left _ (List.mem_of_getElem? (i := 3) rfl)))) (fun _ h9 => h9) rfl dX12_closes_22 ?_
      refine lv_iconst (v := 1) hx hb dX12_closes_25 (by decide) ?_
      refine lv_iadd hx hb dX12_closes_26 ?_
      refine lv_topi (fun t9 et9 => ?_)
      have gt9 : t9.toInt = x7.toInt + 1 := pv_add (a := x7.toInt) (b := 1) et9 rfl (by decide) (by omega) (by omega)
      refine va_put (D := (dC, dI)) (ci := 12) (v := .int t9) (ty := .int) (C := RX12) (T := TX12) (N := 48) hx hb hts (fun _ h => List.mem_cons_of_mem _ (List.mem_append_right _ h)) tyX12 tyX12_ok nmX12 hown hK hP hD hS 0 rfl rfl 3 (by decide) (hts (.fieldLink RX12 112 "LeftArgumentsModel" "at" "I") (List.mem_cons_of_mem _ (List.mem_append_left _ (List.mem_of_getElem? (i := 3) rfl)))) (fun _ h9 => h9) rfl (by decide +kernel) rfl rfl (Nat.le_of_ble_eq_true rfl) dX12_closes_27 (fun H locs hP hD hS => ?_)
      have hP : va_P (dC, dI) vwCl (wd_f4cd022e h0 v0 h1 v1 t9 (-1) 5 r0 r1 r2 r3 r4 r5 r6 v3 v4 r7 r8 r9 r10 v5 r11 r12 v6 v7 r13 r14 v8 v9 r15 v10 v11 r16 v12 w13 r17 v14 v15 r18 r19 r20 r21 r22 r23 v16 r24 r25 r26 v17 h1 g0 f18) H := hP
      have hD : va_D A (wd_f4cd022e h0 v0 h1 v1 t9 (-1) 5 r0 r1 r2 r3 r4 r5 r6 v3 v4 r7 r8 r9 r10 v5 r11 r12 v6 v7 r13 r14 v8 v9 r15 v10 v11 r16 v12 w13 r17 v14 v15 r18 r19 r20 r21 r22 r23 v16 r24 r25 r26 v17 h1 g0 f18) := hD
      refine lv_aload_n hx hb dX12_closes_30 rfl (lv_at hl 0 rfl) ?_
      refine lv_dup hx hb dX12_closes_31 rfl ?_
      refine va_get (D := (dC, dI)) (ci := 12) (v := .int 5) (C := RX12) (T := TX12) (N := 48) hx hb hts (fun _ h => List.mem_cons_of_mem _ (List.mem_append_right _ h)) hown hK hP 0 rfl rfl 5 (by decide) (hts (.fieldLink RX12 125 "LeftArgumentsModel" "deep" "I") (List.mem_cons_of_mem _ (List.mem_append_left _ (List.mem_of_getElem? (i := 17) rfl)))) (fun _ h9 => h9) rfl dX12_closes_32 ?_
      refine lv_iconst (v := 1) hx hb dX12_closes_35 (by decide) ?_
      refine lv_isub hx hb dX12_closes_36 ?_
      refine lv_topi (fun tv10 etv10 => ?_)
      obtain rfl : tv10 = (4 : Int32) := etv10.trans (by first | rfl | decide)
      refine va_put (D := (dC, dI)) (ci := 12) (v := .int 4) (ty := .int) (C := RX12) (T := TX12) (N := 48) hx hb hts (fun _ h => List.mem_cons_of_mem _ (List.mem_append_right _ h)) tyX12 tyX12_ok nmX12 hown hK hP hD hS 0 rfl rfl 5 (by decide) (hts (.fieldLink RX12 125 "LeftArgumentsModel" "deep" "I") (List.mem_cons_of_mem _ (List.mem_append_left _ (List.mem_of_getElem? (i := 17) rfl)))) (fun _ h9 => h9) rfl (by decide +kernel) rfl rfl (Nat.le_of_ble_eq_true rfl) dX12_closes_37 (fun H locs hP hD hS => ?_)
      have hP : va_P (dC, dI) vwCl (wd_f4cd022e h0 v0 h1 v1 t9 (-1) 4 r0 r1 r2 r3 r4 r5 r6 v3 v4 r7 r8 r9 r10 v5 r11 r12 v6 v7 r13 r14 v8 v9 r15 v10 v11 r16 v12 w13 r17 v14 v15 r18 r19 r20 r21 r22 r23 v16 r24 r25 r26 v17 h1 g0 f18) H := hP
      have hD : va_D A (wd_f4cd022e h0 v0 h1 v1 t9 (-1) 4 r0 r1 r2 r3 r4 r5 r6 v3 v4 r7 r8 r9 r10 v5 r11 r12 v6 v7 r13 r14 v8 v9 r15 v10 v11 r16 v12 w13 r17 v14 v15 r18 r19 r20 r21 r22 r23 v16 r24 r25 r26 v17 h1 g0 f18) := hD
      subst hQ
      have hP9 := hP.sub (ws' := (wd_f4cd022e h0 v0 h1 v1 t9 (-1) 4 r0 r1 r2 r3 r4 r5 r6 v3 v4 r7 r8 r9 r10 v5 r11 r12 v6 v7 r13 r14 v8 v9 r15 v10 v11 r16 v12 w13 r17 v14 v15 r18 r19 r20 r21 r22 r23 v16 r24 r25 r26 v17 h1 g0 f18)) [0, 1] rfl
      have hD9 := hD.sub (ws' := (wd_f4cd022e h0 v0 h1 v1 t9 (-1) 4 r0 r1 r2 r3 r4 r5 r6 v3 v4 r7 r8 r9 r10 v5 r11 r12 v6 v7 r13 r14 v8 v9 r15 v10 v11 r16 v12 w13 r17 v14 v15 r18 r19 r20 r21 r22 r23 v16 r24 r25 r26 v17 h1 g0 f18)) [0, 1] (by decide) rfl
      have hK9 := hK.sub (tys' := []) [] rfl
      exact W.vret hx hb hr (fun t ht hW => ⟨⟨(), rfl, trivial, Or.inl ⟨t9, by first | omega | decide, by first | omega | decide, by omega, by first | (apply pg_take.ok <;> first | assumption | omega) | (apply pg_take.no <;> first | assumption | omega), by rw [ht]; exact hP9, va_K.moved hW.alike hK9, hD9⟩⟩, hS.F ht⟩) hS.2.2 dX12_closes_40
    · skip
      have fc8 : ¬ (ra1.toInt = 93) := fun h9 => c8 (Int32.toInt_inj.mp h9)
      refine lv_aload_n hx hb dX12_closes_16 rfl (lv_at hl 0 rfl) ?_
      have hPc := hP.sub (ws' := (wd_171f232f h0 v0 h1 v1 x7 (-1) 5 r0 r1 r2 r3 r4 r5 r6 v3 v4 r7 r8 r9 r10 v5 r11 r12 v6 v7 r13 r14 v8 v9 r15 v10 v11 r16 v12 w13 r17 v14 v15 r18 r19 r20 r21 r22 r23 v16 r24 r25 r26 v17)) [0] rfl
      have hDc := hD.sub (ws' := (wd_171f232f h0 v0 h1 v1 x7 (-1) 5 r0 r1 r2 r3 r4 r5 r6 v3 v4 r7 r8 r9 r10 v5 r11 r12 v6 v7 r13 r14 v8 v9 r15 v10 v11 r16 v12 w13 r17 v14 v15 r18 r19 r20 r21 r22 r23 v16 r24 r25 r26 v17)) [0] (by decide) rfl
      have hKc := hK.sub (tys' := []) [] rfl
      have hFc := va_free (wc := (wd_171f232f h0 v0 h1 v1 x7 (-1) 5 r0 r1 r2 r3 r4 r5 r6 v3 v4 r7 r8 r9 r10 v5 r11 r12 v6 v7 r13 r14 v8 v9 r15 v10 v11 r16 v12 w13 r17 v14 v15 r18 r19 r20 r21 r22 r23 v16 r24 r25 r26 v17)) hD hS hA [0] rfl
      refine va_callv (va_runV (As := []) (rest := []) ⟨hx, hb, hml, hown, hts⟩ (k_X12_bad l dC dI h0 v0 h1 v1 x7 5 r0 r1 r2 r3 r4 r5 r6 v3 v4 r7 r8 r9 r10 v5 r11 r12 v6 v7 r13 r14 v8 v9 r15 v10 v11 r16 v12 w13 r17 v14 v15 r18 r19 r20 r21 r22 r23 v16 r24 r25 r26 v17 ⟨i_v1a, i_v1b⟩ ⟨oa_x7, by first | omega | decide⟩ ⟨i_v3a, i_v3b⟩ ⟨i_v4a, i_v4b⟩ ⟨i_v5a, i_v5b⟩ ⟨i_v6a, i_v6b⟩ ⟨i_v7a, i_v7b⟩ ⟨i_v8a, i_v8b⟩ ⟨i_v12a, i_v12b⟩ ⟨i_v16a, i_v16b⟩ ⟨i_v17a, i_v17b⟩ H.size) (cwV 0 hts g_X12_closes_4_1 rfl rfl rfl (by decide +kernel) ⟨Nat.le_of_ble_eq_true rfl, Nat.le_of_ble_eq_true rfl⟩) (pv_PV12 hPc hKc hDc (q0 := 0) rfl) rfl rfl hl.1 rfl (lv_room (Nat.le_of_ble_eq_true rfl)) dX12_closes_17 ⟨Nat.le_of_ble_eq_true rfl, Nat.le_of_ble_eq_true rfl⟩) hS (fun q _ h => hFc q h) hFc (fun u t H1 locs ht hvm hwra11 hB hz1 hk1 hS => ?_)
      have hkra11_0 : ((5 : Int32)).toInt = 5 := by decide
      obtain ⟨x12, oa_x12, ob_x12, pt0_ra11, hP1, hK1, hD1⟩ := hB
      rw [ht] at hP1
      obtain ⟨hP2, hD2⟩ := va_join (wr := (wd_d0032b31 h1 g0 f18)) (w1 := (wd_171f232f h0 v0 h1 v1 x7 x12 5 r0 r1 r2 r3 r4 r5 r6 v3 v4 r7 r8 r9 r10 v5 r11 r12 v6 v7 r13 r14 v8 v9 r15 v10 v11 r16 v12 w13 r17 v14 v15 r18 r19 r20 r21 r22 r23 v16 r24 r25 r26 v17)) hP hD [0] [1] rfl rfl (by decide) (by decide) hk1 hFc hP1 hD1
      clear hP hD hPc hDc hKc hFc hP1 hK1 hD1 hk1 hz1
      generalize H1 = H at hP2 hS ⊢
      have hP := hP2.sub (ws' := (wd_f4cd022e h0 v0 h1 v1 x7 x12 5 r0 r1 r2 r3 r4 r5 r6 v3 v4 r7 r8 r9 r10 v5 r11 r12 v6 v7 r13 r14 v8 v9 r15 v10 v11 r16 v12 w13 r17 v14 v15 r18 r19 r20 r21 r22 r23 v16 r24 r25 r26 v17 h1 g0 f18)) [1, 0] rfl
      have hD := hD2.sub (ws' := (wd_f4cd022e h0 v0 h1 v1 x7 x12 5 r0 r1 r2 r3 r4 r5 r6 v3 v4 r7 r8 r9 r10 v5 r11 r12 v6 v7 r13 r14 v8 v9 r15 v10 v11 r16 v12 w13 r17 v14 v15 r18 r19 r20 r21 r22 r23 v16 r24 r25 r26 v17 h1 g0 f18)) [1, 0] (by decide) rfl
      clear hP2 hD2
      refine lv_aload_n hx hb dX12_closes_20 rfl (lv_at hl 0 rfl) ?_
      refine lv_dup hx hb dX12_closes_21 rfl ?_
      refine va_get (D := (dC, dI)) (ci := 12) (v := .int x7) (C := RX12) (T := TX12) (N := 48) hx hb hts (fun _ h => List.mem_cons_of_mem _ (List.mem_append_right _ h)) hown hK hP 0 rfl rfl 3 (by decide) (hts (.fieldLink RX12 112 "LeftArgumentsModel" "at" "I") (List.mem_cons_of_mem _ (List.mem_append_left _ (List.mem_of_getElem? (i := 3) rfl)))) (fun _ h9 => h9) rfl dX12_closes_22 ?_
      refine lv_iconst (v := 1) hx hb dX12_closes_25 (by decide) ?_
      refine lv_iadd hx hb dX12_closes_26 ?_
      refine lv_topi (fun t13 et13 => ?_)
      have gt13 : t13.toInt = x7.toInt + 1 := pv_add (a := x7.toInt) (b := 1) et13 rfl (by decide) (by omega) (by omega)
      refine va_put (D := (dC, dI)) (ci := 12) (v := .int t13) (ty := .int) (C := RX12) (T := TX12) (N := 48) hx hb hts (fun _ h => List.mem_cons_of_mem _ (List.mem_append_right _ h)) tyX12 tyX12_ok nmX12 hown hK hP hD hS 0 rfl rfl 3 (by decide) (hts (.fieldLink RX12 112 "LeftArgumentsModel" "at" "I") (List.mem_cons_of_mem _ (List.mem_append_left _ (List.mem_of_getElem? (i := 3) rfl)))) (fun _ h9 => h9) rfl (by decide +kernel) rfl rfl (Nat.le_of_ble_eq_true rfl) dX12_closes_27 (fun H locs hP hD hS => ?_)
      have hP : va_P (dC, dI) vwCl (wd_f4cd022e h0 v0 h1 v1 t13 x12 5 r0 r1 r2 r3 r4 r5 r6 v3 v4 r7 r8 r9 r10 v5 r11 r12 v6 v7 r13 r14 v8 v9 r15 v10 v11 r16 v12 w13 r17 v14 v15 r18 r19 r20 r21 r22 r23 v16 r24 r25 r26 v17 h1 g0 f18) H := hP
      have hD : va_D A (wd_f4cd022e h0 v0 h1 v1 t13 x12 5 r0 r1 r2 r3 r4 r5 r6 v3 v4 r7 r8 r9 r10 v5 r11 r12 v6 v7 r13 r14 v8 v9 r15 v10 v11 r16 v12 w13 r17 v14 v15 r18 r19 r20 r21 r22 r23 v16 r24 r25 r26 v17 h1 g0 f18) := hD
      refine lv_aload_n hx hb dX12_closes_30 rfl (lv_at hl 0 rfl) ?_
      refine lv_dup hx hb dX12_closes_31 rfl ?_
      refine va_get (D := (dC, dI)) (ci := 12) (v := .int 5) (C := RX12) (T := TX12) (N := 48) hx hb hts (fun _ h => List.mem_cons_of_mem _ (List.mem_append_right _ h)) hown hK hP 0 rfl rfl 5 (by decide) (hts (.fieldLink RX12 125 "LeftArgumentsModel" "deep" "I") (List.mem_cons_of_mem _ (List.mem_append_left _ (List.mem_of_getElem? (i := 17) rfl)))) (fun _ h9 => h9) rfl dX12_closes_32 ?_
      refine lv_iconst (v := 1) hx hb dX12_closes_35 (by decide) ?_
      refine lv_isub hx hb dX12_closes_36 ?_
      refine lv_topi (fun tv14 etv14 => ?_)
      obtain rfl : tv14 = (4 : Int32) := etv14.trans (by first | rfl | decide)
      refine va_put (D := (dC, dI)) (ci := 12) (v := .int 4) (ty := .int) (C := RX12) (T := TX12) (N := 48) hx hb hts (fun _ h => List.mem_cons_of_mem _ (List.mem_append_right _ h)) tyX12 tyX12_ok nmX12 hown hK hP hD hS 0 rfl rfl 5 (by decide) (hts (.fieldLink RX12 125 "LeftArgumentsModel" "deep" "I") (List.mem_cons_of_mem _ (List.mem_append_left _ (List.mem_of_getElem? (i := 17) rfl)))) (fun _ h9 => h9) rfl (by decide +kernel) rfl rfl (Nat.le_of_ble_eq_true rfl) dX12_closes_37 (fun H locs hP hD hS => ?_)
      have hP : va_P (dC, dI) vwCl (wd_f4cd022e h0 v0 h1 v1 t13 x12 4 r0 r1 r2 r3 r4 r5 r6 v3 v4 r7 r8 r9 r10 v5 r11 r12 v6 v7 r13 r14 v8 v9 r15 v10 v11 r16 v12 w13 r17 v14 v15 r18 r19 r20 r21 r22 r23 v16 r24 r25 r26 v17 h1 g0 f18) H := hP
      have hD : va_D A (wd_f4cd022e h0 v0 h1 v1 t13 x12 4 r0 r1 r2 r3 r4 r5 r6 v3 v4 r7 r8 r9 r10 v5 r11 r12 v6 v7 r13 r14 v8 v9 r15 v10 v11 r16 v12 w13 r17 v14 v15 r18 r19 r20 r21 r22 r23 v16 r24 r25 r26 v17 h1 g0 f18) := hD
      subst hQ
      have hP9 := hP.sub (ws' := (wd_f4cd022e h0 v0 h1 v1 t13 x12 4 r0 r1 r2 r3 r4 r5 r6 v3 v4 r7 r8 r9 r10 v5 r11 r12 v6 v7 r13 r14 v8 v9 r15 v10 v11 r16 v12 w13 r17 v14 v15 r18 r19 r20 r21 r22 r23 v16 r24 r25 r26 v17 h1 g0 f18)) [0, 1] rfl
      have hD9 := hD.sub (ws' := (wd_f4cd022e h0 v0 h1 v1 t13 x12 4 r0 r1 r2 r3 r4 r5 r6 v3 v4 r7 r8 r9 r10 v5 r11 r12 v6 v7 r13 r14 v8 v9 r15 v10 v11 r16 v12 w13 r17 v14 v15 r18 r19 r20 r21 r22 r23 v16 r24 r25 r26 v17 h1 g0 f18)) [0, 1] (by decide) rfl
      have hK9 := hK.sub (tys' := []) [] rfl
      exact W.vret hx hb hr (fun t ht hW => ⟨⟨(), rfl, trivial, Or.inr (⟨t13, x12, by first | omega | decide, by first | omega | decide, oa_x12, ob_x12, by omega, by first | (apply pg_take.ok <;> first | assumption | omega) | (apply pg_take.no <;> first | assumption | omega), by rw [ht]; exact hP9, va_K.moved hW.alike hK9, hD9⟩)⟩, hS.F ht⟩) hS.2.2 dX12_closes_40
def q_X12_atom_2 : List Cond := .code yX12_atom cX12_atom 2 none :: (([.code yX12_look cX12_look 1 (some .int), .code yX12_here cX12_here 1 (some .int), .fieldLink RX12 112 "LeftArgumentsModel" "at" "I", .fieldLink RX12 109 "LeftArgumentsModel" "size" "I", .fieldLink RX12 9 "LeftArgumentsModel" "tape" "[I", .initialized RX12, .instanceMethod yX12_here, .selects RX12 yX12_here yX12_here, .methodLink RX12 115 yX12_here, .instanceMethod yX12_look, .selects RX12 yX12_look yX12_look, .methodLink RX12 131 yX12_look, .code yX12_isDigit cX12_isDigit 1 (some .boolean), .static yX12_isDigit, .methodLink RX12 134 yX12_isDigit, .code yX12_letterOf cX12_letterOf 1 (some .int), .static yX12_letterOf, .methodLink RX12 145 yX12_letterOf, .code yX12_bad cX12_bad 1 none, .fieldLink RX12 119 "LeftArgumentsModel" "wrong" "I", .instanceMethod yX12_bad, .selects RX12 yX12_bad yX12_bad, .methodLink RX12 128 yX12_bad, .code yX12_opens cX12_opens 1 none, .fieldLink RX12 125 "LeftArgumentsModel" "deep" "I", .instanceMethod yX12_opens, .selects RX12 yX12_opens yX12_opens, .methodLink RX12 149 yX12_opens, .code yX12_sum cX12_sum 2 none, .code yX12_term cX12_term 2 none, .code yX12_atom cX12_atom 2 none, .code yX12_put cX12_put 3 none, .fieldLink RX12 13 "LeftArgumentsModel" "code" "[I", .fieldLink RX12 122 "LeftArgumentsModel" "text" "I", .fieldLink RX12 19 "LeftArgumentsModel" "codes" "[I", .fieldLink RX12 16 "LeftArgumentsModel" "value" "[I", .instanceMethod yX12_put, .selects RX12 yX12_put yX12_put, .methodLink RX12 141 yX12_put, .code yX12_plainNumber cX12_plainNumber 3 (some .int), .instanceMethod yX12_plainNumber, .selects RX12 yX12_plainNumber yX12_plainNumber, .methodLink RX12 138 yX12_plainNumber, .instanceMethod yX12_atom, .selects RX12 yX12_atom yX12_atom, .methodLink RX12 159 yX12_atom, .instanceMethod yX12_term, .selects RX12 yX12_term yX12_term, .methodLink RX12 162 yX12_term, .instanceMethod yX12_sum, .selects RX12 yX12_sum yX12_sum, .methodLink RX12 152 yX12_sum, .code yX12_closes cX12_closes 2 none, .instanceMethod yX12_closes, .selects RX12 yX12_closes yX12_closes, .methodLink RX12 155 yX12_closes] : List Cond) ++ wsX120)
set_option maxRecDepth 20000 in
theorem g_X12_atom_2_0 : GoodIn q_X12_atom_2 (wsV RX12 131 RX12 yX12_look q_X12_look) := goodIn_app (goodIn_r _ [12, 10, 11, 6] rfl (by decide +kernel)) (goodIn_ca (goodIn_r (.code yX12_look cX12_look 1 (some .int) :: [.code yX12_here cX12_here 1 (some .int), .fieldLink RX12 112 "LeftArgumentsModel" "at" "I", .fieldLink RX12 109 "LeftArgumentsModel" "size" "I", .fieldLink RX12 9 "LeftArgumentsModel" "tape" "[I", .initialized RX12, .instanceMethod yX12_here, .selects RX12 yX12_here yX12_here, .methodLink RX12 115 yX12_here]) [1, 2, 3, 4, 5, 6, 7, 8, 9] rfl (by decide +kernel)) (goodIn_sub (fun _ h => List.mem_cons_of_mem _ (List.mem_append_right _ h)) gwX12))
set_option maxRecDepth 20000 in
theorem g_X12_atom_2_1 : GoodIn q_X12_atom_2 (va_wsS RX12 134 yX12_isDigit q_X12_isDigit) := goodIn_app (goodIn_r _ [15, 14, 6] rfl (by decide +kernel)) (goodIn_r (.code yX12_isDigit cX12_isDigit 1 (some .boolean) :: []) [13] rfl (by decide +kernel))
set_option maxRecDepth 20000 in
theorem g_X12_atom_2_2 : GoodIn q_X12_atom_2 (va_wsS RX12 145 yX12_letterOf q_X12_letterOf) := goodIn_app (goodIn_r _ [18, 17, 6] rfl (by decide +kernel)) (goodIn_r (.code yX12_letterOf cX12_letterOf 1 (some .int) :: []) [16] rfl (by decide +kernel))
set_option maxRecDepth 20000 in
theorem g_X12_atom_2_3 : GoodIn q_X12_atom_2 (wsV RX12 128 RX12 yX12_bad q_X12_bad) := goodIn_app (goodIn_r _ [23, 21, 22, 6] rfl (by decide +kernel)) (goodIn_ca (goodIn_r (.code yX12_bad cX12_bad 1 none :: [.fieldLink RX12 119 "LeftArgumentsModel" "wrong" "I", .fieldLink RX12 112 "LeftArgumentsModel" "at" "I"]) [19, 20, 3] rfl (by decide +kernel)) (goodIn_sub (fun _ h => List.mem_cons_of_mem _ (List.mem_append_right _ h)) gwX12))
set_option maxRecDepth 20000 in
theorem g_X12_atom_2_7 : GoodIn q_X12_atom_2 (wsV RX12 149 RX12 yX12_opens q_X12_opens_2) := goodIn_app (goodIn_r _ [28, 26, 27, 6] rfl (by decide +kernel)) (goodIn_ca (goodIn_r (.code yX12_opens cX12_opens 1 none :: [.fieldLink RX12 125 "LeftArgumentsModel" "deep" "I", .fieldLink RX12 112 "LeftArgumentsModel" "at" "I"]) [24, 25, 3] rfl (by decide +kernel)) (goodIn_sub (fun _ h => List.mem_cons_of_mem _ (List.mem_append_right _ h)) gwX12))
set_option maxRecDepth 20000 in
theorem g_X12_atom_2_8 : GoodIn q_X12_atom_2 (wsV RX12 152 RX12 yX12_sum q_X12_sum_1) := goodIn_app (goodIn_r _ [52, 50, 51, 6] rfl (by decide +kernel)) (goodIn_ca (goodIn_r (.code yX12_sum cX12_sum 2 none :: [.code yX12_term cX12_term 2 none, .code yX12_atom cX12_atom 2 none, .code yX12_look cX12_look 1 (some .int), .code yX12_here cX12_here 1 (some .int), .fieldLink RX12 112 "LeftArgumentsModel" "at" "I", .fieldLink RX12 109 "LeftArgumentsModel" "size" "I", .fieldLink RX12 9 "LeftArgumentsModel" "tape" "[I", .initialized RX12, .instanceMethod yX12_here, .selects RX12 yX12_here yX12_here, .methodLink RX12 115 yX12_here, .instanceMethod yX12_look, .selects RX12 yX12_look yX12_look, .methodLink RX12 131 yX12_look, .code yX12_isDigit cX12_isDigit 1 (some .boolean), .static yX12_isDigit, .methodLink RX12 134 yX12_isDigit, .code yX12_letterOf cX12_letterOf 1 (some .int), .static yX12_letterOf, .methodLink RX12 145 yX12_letterOf, .code yX12_bad cX12_bad 1 none, .fieldLink RX12 119 "LeftArgumentsModel" "wrong" "I", .instanceMethod yX12_bad, .selects RX12 yX12_bad yX12_bad, .methodLink RX12 128 yX12_bad, .code yX12_opens cX12_opens 1 none, .fieldLink RX12 125 "LeftArgumentsModel" "deep" "I", .instanceMethod yX12_opens, .selects RX12 yX12_opens yX12_opens, .methodLink RX12 149 yX12_opens, .code yX12_sum cX12_sum 2 none, .code yX12_put cX12_put 3 none, .fieldLink RX12 13 "LeftArgumentsModel" "code" "[I", .fieldLink RX12 122 "LeftArgumentsModel" "text" "I", .fieldLink RX12 19 "LeftArgumentsModel" "codes" "[I", .fieldLink RX12 16 "LeftArgumentsModel" "value" "[I", .instanceMethod yX12_put, .selects RX12 yX12_put yX12_put, .methodLink RX12 141 yX12_put, .code yX12_plainNumber cX12_plainNumber 3 (some .int), .instanceMethod yX12_plainNumber, .selects RX12 yX12_plainNumber yX12_plainNumber, .methodLink RX12 138 yX12_plainNumber, .instanceMethod yX12_atom, .selects RX12 yX12_atom yX12_atom, .methodLink RX12 159 yX12_atom, .instanceMethod yX12_term, .selects RX12 yX12_term yX12_term, .methodLink RX12 162 yX12_term, .instanceMethod yX12_sum, .selects RX12 yX12_sum yX12_sum, .methodLink RX12 152 yX12_sum, .code yX12_closes cX12_closes 2 none, .instanceMethod yX12_closes, .selects RX12 yX12_closes yX12_closes, .methodLink RX12 155 yX12_closes]) [29, 30, 31, 1, 2, 3, 4, 5, 6, 7, 8, 9, 10, 11, 12, 13, 14, 15, 16, 17, 18, 19, 20, 21, 22, 23, 24, 25, 26, 27, 28, 29, 32, 33, 34, 35, 36, 37, 38, 39, 40, 41, 42, 43, 44, 45, 46, 47, 48, 49, 50, 51, 52, 53, 54, 55, 56] rfl (by decide +kernel)) (goodIn_sub (fun _ h => List.mem_cons_of_mem _ (List.mem_append_right _ h)) gwX12))
set_option maxRecDepth 20000 in
theorem g_X12_atom_2_9 : GoodIn q_X12_atom_2 (wsV RX12 155 RX12 yX12_closes q_X12_closes_4) := goodIn_app (goodIn_r _ [56, 54, 55, 6] rfl (by decide +kernel)) (goodIn_ca (goodIn_r (.code yX12_closes cX12_closes 2 none :: [.fieldLink RX12 119 "LeftArgumentsModel" "wrong" "I", .code yX12_look cX12_look 1 (some .int), .code yX12_here cX12_here 1 (some .int), .fieldLink RX12 112 "LeftArgumentsModel" "at" "I", .fieldLink RX12 109 "LeftArgumentsModel" "size" "I", .fieldLink RX12 9 "LeftArgumentsModel" "tape" "[I", .initialized RX12, .instanceMethod yX12_here, .selects RX12 yX12_here yX12_here, .methodLink RX12 115 yX12_here, .instanceMethod yX12_look, .selects RX12 yX12_look yX12_look, .methodLink RX12 131 yX12_look, .code yX12_bad cX12_bad 1 none, .instanceMethod yX12_bad, .selects RX12 yX12_bad yX12_bad, .methodLink RX12 128 yX12_bad, .fieldLink RX12 125 "LeftArgumentsModel" "deep" "I"]) [53, 20, 1, 2, 3, 4, 5, 6, 7, 8, 9, 10, 11, 12, 19, 21, 22, 23, 25] rfl (by decide +kernel)) (goodIn_sub (fun _ h => List.mem_cons_of_mem _ (List.mem_append_right _ h)) gwX12))
set_option maxRecDepth 20000 in
theorem g_X12_atom_2_10 : GoodIn q_X12_atom_2 (wsV RX12 155 RX12 yX12_closes q_X12_closes_1) := goodIn_app (goodIn_r _ [56, 54, 55, 6] rfl (by decide +kernel)) (goodIn_ca (goodIn_r (.code yX12_closes cX12_closes 2 none :: [.fieldLink RX12 119 "LeftArgumentsModel" "wrong" "I", .fieldLink RX12 112 "LeftArgumentsModel" "at" "I", .fieldLink RX12 125 "LeftArgumentsModel" "deep" "I"]) [53, 20, 3, 25] rfl (by decide +kernel)) (goodIn_sub (fun _ h => List.mem_cons_of_mem _ (List.mem_append_right _ h)) gwX12))
set_option maxRecDepth 20000 in
theorem g_X12_atom_2_12 : GoodIn q_X12_atom_2 (wsV RX12 141 RX12 yX12_put q_X12_put) := goodIn_app (goodIn_r _ [39, 37, 38, 6] rfl (by decide +kernel)) (goodIn_ca (goodIn_r (.code yX12_put cX12_put 3 none :: [.fieldLink RX12 13 "LeftArgumentsModel" "code" "[I", .fieldLink RX12 122 "LeftArgumentsModel" "text" "I", .fieldLink RX12 19 "LeftArgumentsModel" "codes" "[I", .fieldLink RX12 16 "LeftArgumentsModel" "value" "[I"]) [32, 33, 34, 35, 36] rfl (by decide +kernel)) (goodIn_sub (fun _ h => List.mem_cons_of_mem _ (List.mem_append_right _ h)) gwX12))
set_option maxRecDepth 20000 in
theorem g_X12_atom_2_13 : GoodIn q_X12_atom_2 (wsV RX12 138 RX12 yX12_plainNumber q_X12_plainNumber) := goodIn_app (goodIn_r _ [43, 41, 42, 6] rfl (by decide +kernel)) (goodIn_ca (goodIn_r (.code yX12_plainNumber cX12_plainNumber 3 (some .int) :: [.code yX12_here cX12_here 1 (some .int), .fieldLink RX12 112 "LeftArgumentsModel" "at" "I", .fieldLink RX12 109 "LeftArgumentsModel" "size" "I", .fieldLink RX12 9 "LeftArgumentsModel" "tape" "[I", .initialized RX12, .instanceMethod yX12_here, .selects RX12 yX12_here yX12_here, .methodLink RX12 115 yX12_here, .code yX12_isDigit cX12_isDigit 1 (some .boolean), .static yX12_isDigit, .methodLink RX12 134 yX12_isDigit, .code yX12_bad cX12_bad 1 none, .fieldLink RX12 119 "LeftArgumentsModel" "wrong" "I", .instanceMethod yX12_bad, .selects RX12 yX12_bad yX12_bad, .methodLink RX12 128 yX12_bad]) [40, 2, 3, 4, 5, 6, 7, 8, 9, 13, 14, 15, 19, 20, 21, 22, 23] rfl (by decide +kernel)) (goodIn_sub (fun _ h => List.mem_cons_of_mem _ (List.mem_append_right _ h)) gwX12))
set_option maxHeartbeats 4000000 in
set_option maxRecDepth 100000 in
theorem k_X12_atom_2 (l : Launch) (dC : Nat → ClassId) (dI : Nat → Nat → Nat) (h0 : Nat) (h1 : Nat) (h2 : Nat) (h3 : Nat) (h4 : Nat) (v0 : Int32) (v1 : Int32) (v2 : Int32) (r0 : Nat) (r1 : Nat) (r2 : Nat) (r3 : Nat) (v3 : Int32) (v4 : Int32) (r4 : Nat) (r5 : Nat) (r6 : Nat) (r7 : Nat) (v5 : Int32) (r8 : Nat) (r9 : Nat) (v6 : Int32) (v7 : Int32) (r10 : Nat) (r11 : Nat) (v8 : Int32) (v9 : Int32) (r12 : Nat) (v10 : Int32) (v11 : Int32) (r13 : Nat) (v12 : Int32) (w13 : Int64) (r14 : Nat) (v14 : Int32) (v15 : Int32) (r15 : Nat) (r16 : Nat) (r17 : Nat) (r18 : Nat) (r19 : Nat) (r20 : Nat) (v16 : Int32) (r21 : Nat) (r22 : Nat) (r23 : Nat) (v17 : Int32) (g0 : ClassId) (f18 : Nat → Int32) (g1 : ClassId) (f19 : Nat → Int32) (g2 : ClassId) (f20 : Nat → Int32) (g3 : ClassId) (f21 : Nat → Int32) (i_v1 : 0 ≤ v1.toInt ∧ v1.toInt ≤ 240) (i_v2 : 0 ≤ v2.toInt ∧ v2.toInt ≤ 240) (i_v3 : 0 ≤ v3.toInt ∧ v3.toInt ≤ 4) (i_v4 : 0 ≤ v4.toInt ∧ v4.toInt ≤ 4) (i_v5 : 0 ≤ v5.toInt ∧ v5.toInt ≤ 8) (i_v6 : 0 ≤ v6.toInt ∧ v6.toInt ≤ 8) (i_v7 : 0 ≤ v7.toInt ∧ v7.toInt ≤ 1) (i_v8 : -1 ≤ v8.toInt ∧ v8.toInt ≤ 3) (i_v12 : 0 ≤ v12.toInt ∧ v12.toInt ≤ 40) (i_v16 : 0 ≤ v16.toInt ∧ v16.toInt ≤ 10) (i_v17 : 0 ≤ v17.toInt ∧ v17.toInt ≤ 1) (ia_f18 : (∀ j, 0 ≤ (f18 j).toInt ∧ (f18 j).toInt ≤ 255)) (pp0 : 0 ≤ pm_x f21 v4 ∧ pm_x f21 v4 ≤ v2.toInt) (sz : Nat) : Met l yX12_atom q_X12_atom_2 ({ frames := 8, cells := 0, slots := 0, locals := 168 }) (va_Pc [.ref h0] (fun U => U.heap.size = sz ∧ va_P (dC, dI) vwCl (wd_d906eaf1 h0 v0 h1 v1 v2 (-1) 4 h2 h3 h4 r0 r1 r2 r3 v3 v4 r4 r5 r6 r7 v5 r8 r9 v6 v7 r10 r11 v8 v9 r12 v10 v11 r13 v12 w13 r14 v14 v15 r15 r16 r17 r18 r19 r20 v16 r21 r22 r23 v17 h1 g0 f18 h2 g1 f19 h3 g2 f20 h4 g3 f21) U.heap ∧ va_K (dC, dI) vwCl [(g0, .int), (g1, .int), (g2, .int), (g3, .int)] U ∧ va_D (fun _ => True) (wd_d906eaf1 h0 v0 h1 v1 v2 (-1) 4 h2 h3 h4 r0 r1 r2 r3 v3 v4 r4 r5 r6 r7 v5 r8 r9 v6 v7 r10 r11 v8 v9 r12 v10 v11 r13 v12 w13 r14 v14 v15 r15 r16 r17 r18 r19 r20 v16 r21 r22 r23 v17 h1 g0 f18 h2 g1 f19 h3 g2 f20 h4 g3 f21))) (va_Qv (fun (_ : Unit) => True) (fun (_ : Unit) (t : State) => (∃ (o_h0_3 : Int32) (o_h2 : Nat → Int32) (o_h3 : Nat → Int32) (o_h4 : Nat → Int32), 0 ≤ o_h0_3.toInt ∧ o_h0_3.toInt ≤ 240 ∧ (pm_x o_h4 v4 - pm_x f21 v4 ≤ o_h0_3.toInt - v2.toInt ∧ v2.toInt ≤ o_h0_3.toInt) ∧ (pm_R v4 0 1 5 f19 f20 f21 o_h2 o_h3 o_h4) ∧ (pg_atom f18 v1.toInt 2 v2.toInt = (true, o_h0_3.toInt)) ∧ va_P (dC, dI) vwCl (wd_d906eaf1 h0 v0 h1 v1 o_h0_3 (-1) 4 h2 h3 h4 r0 r1 r2 r3 v3 v4 r4 r5 r6 r7 v5 r8 r9 v6 v7 r10 r11 v8 v9 r12 v10 v11 r13 v12 w13 r14 v14 v15 r15 r16 r17 r18 r19 r20 v16 r21 r22 r23 v17 h1 g0 f18 h2 g1 o_h2 h3 g2 o_h3 h4 g3 o_h4) t.heap ∧ va_K (dC, dI) vwCl [] t ∧ va_D (va_A (wd_d906eaf1 h0 v0 h1 v1 v2 (-1) 4 h2 h3 h4 r0 r1 r2 r3 v3 v4 r4 r5 r6 r7 v5 r8 r9 v6 v7 r10 r11 v8 v9 r12 v10 v11 r13 v12 w13 r14 v14 v15 r15 r16 r17 r18 r19 r20 v16 r21 r22 r23 v17 h1 g0 f18 h2 g1 f19 h3 g2 f20 h4 g3 f21) sz) (wd_d906eaf1 h0 v0 h1 v1 o_h0_3 (-1) 4 h2 h3 h4 r0 r1 r2 r3 v3 v4 r4 r5 r6 r7 v5 r8 r9 v6 v7 r10 r11 v8 v9 r12 v10 v11 r13 v12 w13 r14 v14 v15 r15 r16 r17 r18 r19 r20 v16 r21 r22 r23 v17 h1 g0 f18 h2 g1 o_h2 h3 g2 o_h3 h4 g3 o_h4)) ∨ (∃ (o_h0_3 : Int32) (o_h0_4 : Int32) (o_h0_5 : Int32) (o_h2 : Nat → Int32) (o_h3 : Nat → Int32) (o_h4 : Nat → Int32), 0 ≤ o_h0_3.toInt ∧ o_h0_3.toInt ≤ 242 ∧ 0 ≤ o_h0_4.toInt ∧ o_h0_4.toInt ≤ 240 ∧ (pm_x o_h4 v4 - pm_x f21 v4 ≤ o_h0_3.toInt - v2.toInt ∧ v2.toInt ≤ o_h0_3.toInt) ∧ (pm_F v4 f19 f20 f21 o_h2 o_h3 o_h4) ∧ (pg_atom f18 v1.toInt 2 v2.toInt = (false, o_h0_4.toInt)) ∧ va_P (dC, dI) vwCl (wd_d906eaf1 h0 v0 h1 v1 o_h0_3 o_h0_4 o_h0_5 h2 h3 h4 r0 r1 r2 r3 v3 v4 r4 r5 r6 r7 v5 r8 r9 v6 v7 r10 r11 v8 v9 r12 v10 v11 r13 v12 w13 r14 v14 v15 r15 r16 r17 r18 r19 r20 v16 r21 r22 r23 v17 h1 g0 f18 h2 g1 o_h2 h3 g2 o_h3 h4 g3 o_h4) t.heap ∧ va_K (dC, dI) vwCl [] t ∧ va_D (va_A (wd_d906eaf1 h0 v0 h1 v1 v2 (-1) 4 h2 h3 h4 r0 r1 r2 r3 v3 v4 r4 r5 r6 r7 v5 r8 r9 v6 v7 r10 r11 v8 v9 r12 v10 v11 r13 v12 w13 r14 v14 v15 r15 r16 r17 r18 r19 r20 v16 r21 r22 r23 v17 h1 g0 f18 h2 g1 f19 h3 g2 f20 h4 g3 f21) sz) (wd_d906eaf1 h0 v0 h1 v1 o_h0_3 o_h0_4 o_h0_5 h2 h3 h4 r0 r1 r2 r3 v3 v4 r4 r5 r6 r7 v5 r8 r9 v6 v7 r10 r11 v8 v9 r12 v10 v11 r13 v12 w13 r14 v14 v15 r15 r16 r17 r18 r19 r20 v16 r21 r22 r23 v17 h1 g0 f18 h2 g1 o_h2 h3 g2 o_h3 h4 g3 o_h4))) (va_A (wd_d906eaf1 h0 v0 h1 v1 v2 (-1) 4 h2 h3 h4 r0 r1 r2 r3 v3 v4 r4 r5 r6 r7 v5 r8 r9 v6 v7 r10 r11 v8 v9 r12 v10 v11 r13 v12 w13 r14 v14 v15 r15 r16 r17 r18 r19 r20 v16 r21 r22 r23 v17 h1 g0 f18 h2 g1 f19 h3 g2 f20 h4 g3 f21) sz)) 0 0 (va_A (wd_d906eaf1 h0 v0 h1 v1 v2 (-1) 4 h2 h3 h4 r0 r1 r2 r3 v3 v4 r4 r5 r6 r7 v5 r8 r9 v6 v7 r10 r11 v8 v9 r12 v10 v11 r13 v12 w13 r14 v14 v15 r15 r16 r17 r18 r19 r20 v16 r21 r22 r23 v17 h1 g0 f18 h2 g1 f19 h3 g2 f20 h4 g3 f21) sz) := by
  refine Met.ofW (cc := cX12_atom) (maxL := 2) (ret := none) (by decide) rfl ?_
  intro p e s m args below meth c s₁ B hml hv
  obtain ⟨i_v1a, i_v1b⟩ := i_v1
  obtain ⟨i_v2a, i_v2b⟩ := i_v2
  obtain ⟨i_v3a, i_v3b⟩ := i_v3
  obtain ⟨i_v4a, i_v4b⟩ := i_v4
  obtain ⟨i_v5a, i_v5b⟩ := i_v5
  obtain ⟨i_v6a, i_v6b⟩ := i_v6
  obtain ⟨i_v7a, i_v7b⟩ := i_v7
  obtain ⟨i_v8a, i_v8b⟩ := i_v8
  obtain ⟨i_v12a, i_v12b⟩ := i_v12
  obtain ⟨i_v16a, i_v16b⟩ := i_v16
  obtain ⟨i_v17a, i_v17b⟩ := i_v17
  obtain ⟨rfl, hsz, hP, hK, hD0⟩ := hv
  have hx := B.exec
  have hb := B.bytes
  have hr := B.returns
  have hts := atoms_spec (ws := q_X12_atom_2) B.pre
  have hown : s.vm.findClass RX12 = some m.cls := findClass_of_methodNamed B.named
  have hlocks := B.notSynchronized
  subst hsz
  have hD := hD0.self (sz := s.heap.size)
  generalize hAe : va_A (wd_d906eaf1 h0 v0 h1 v1 v2 (-1) 4 h2 h3 h4 r0 r1 r2 r3 v3 v4 r4 r5 r6 r7 v5 r8 r9 v6 v7 r10 r11 v8 v9 r12 v10 v11 r13 v12 w13 r14 v14 v15 r15 r16 r17 r18 r19 r20 v16 r21 r22 r23 v17 h1 g0 f18 h2 g1 f19 h3 g2 f20 h4 g3 f21) s.heap.size = A at hD ⊢
  have hA : ∀ q : Nat, s.heap.size ≤ q → A q := fun q h => by rw [← hAe]; exact Or.inr h
  have hS : va_S A s.heap s.heap [] := va_S.rf
  generalize hQ : (MQ below _ _ s 0 0 A) = Q
  have hl := lv_entry ([.ref h0]) (n := 2) (Nat.le_of_ble_eq_true rfl)
  rw [lg_entry_eq]
  generalize (lg_sl ([.ref h0]) ++ List.replicate (2 - (lg_sl ([.ref h0])).length) Slot.unset).toArray = ls at hl ⊢
  have hl : lv_has ls 2 [(0, .ref h0)] := hl
  obtain ⟨H, hH⟩ : ∃ H : Heap, H = s.heap := ⟨_, rfl⟩
  obtain ⟨locs, hlocs⟩ : ∃ y : List Loc, y = [] := ⟨_, rfl⟩
  have hS : va_S A s.heap H locs := by rw [hH, hlocs]; exact va_S.rf
  have hP : va_P (dC, dI) vwCl (wd_d906eaf1 h0 v0 h1 v1 v2 (-1) 4 h2 h3 h4 r0 r1 r2 r3 v3 v4 r4 r5 r6 r7 v5 r8 r9 v6 v7 r10 r11 v8 v9 r12 v10 v11 r13 v12 w13 r14 v14 v15 r15 r16 r17 r18 r19 r20 v16 r21 r22 r23 v17 h1 g0 f18 h2 g1 f19 h3 g2 f20 h4 g3 f21) H := by rw [hH]; exact hP
  rw [← hH, ← hlocs]
  obtain ⟨px1, px2⟩ := pp0
  have hgR := pm_R.refl (L := 0) v4 f19 f20 f21 px1
  have hgF := hgR.1
  refine lv_aload_n hx hb dX12_atom_0 rfl (lv_at hl 0 rfl) ?_
  have hPc := hP.sub (ws' := (wd_f4cd022e h0 v0 h1 v1 v2 (-1) 4 h2 h3 h4 r0 r1 r2 r3 v3 v4 r4 r5 r6 r7 v5 r8 r9 v6 v7 r10 r11 v8 v9 r12 v10 v11 r13 v12 w13 r14 v14 v15 r15 r16 r17 r18 r19 r20 v16 r21 r22 r23 v17 h1 g0 f18)) [0, 1] rfl
  have hDc := hD.sub (ws' := (wd_f4cd022e h0 v0 h1 v1 v2 (-1) 4 h2 h3 h4 r0 r1 r2 r3 v3 v4 r4 r5 r6 r7 v5 r8 r9 v6 v7 r10 r11 v8 v9 r12 v10 v11 r13 v12 w13 r14 v14 v15 r15 r16 r17 r18 r19 r20 v16 r21 r22 r23 v17 h1 g0 f18)) [0, 1] (by decide) rfl
  have hKc := hK.sub (tys' := [(g0, .int)]) [0] rfl
  have hFc := va_free (wc := (wd_f4cd022e h0 v0 h1 v1 v2 (-1) 4 h2 h3 h4 r0 r1 r2 r3 v3 v4 r4 r5 r6 r7 v5 r8 r9 v6 v7 r10 r11 v8 v9 r12 v10 v11 r13 v12 w13 r14 v14 v15 r15 r16 r17 r18 r19 r20 v16 r21 r22 r23 v17 h1 g0 f18)) hD hS hA [0, 1] rfl
  refine va_calli (va_runV (As := []) (rest := []) ⟨hx, hb, hml, hown, hts⟩ (k_X12_look l dC dI h0 h1 v0 v1 v2 ((-1)) 4 h2 h3 h4 r0 r1 r2 r3 v3 v4 r4 r5 r6 r7 v5 r8 r9 v6 v7 r10 r11 v8 v9 r12 v10 v11 r13 v12 w13 r14 v14 v15 r15 r16 r17 r18 r19 r20 v16 r21 r22 r23 v17 g0 f18 ⟨i_v1a, i_v1b⟩ ⟨i_v2a, i_v2b⟩ ⟨i_v3a, i_v3b⟩ ⟨i_v4a, i_v4b⟩ ⟨i_v5a, i_v5b⟩ ⟨i_v6a, i_v6b⟩ ⟨i_v7a, i_v7b⟩ ⟨i_v8a, i_v8b⟩ ⟨i_v12a, i_v12b⟩ ⟨i_v16a, i_v16b⟩ ⟨i_v17a, i_v17b⟩ ia_f18 H.size) (cwV 0 hts g_X12_atom_2_0 rfl rfl rfl (by decide +kernel) ⟨Nat.le_of_ble_eq_true rfl, Nat.le_of_ble_eq_true rfl⟩) (pv_PV12 hPc hKc hDc (q0 := 0) rfl) rfl rfl hl.1 rfl (lv_room (Nat.le_of_ble_eq_true rfl)) dX12_atom_1 ⟨Nat.le_of_ble_eq_true rfl, Nat.le_of_ble_eq_true rfl⟩) hS (fun q _ h => hFc q h) hFc (fun ra1 u t H1 locs ht hvm hwra1 hB hz1 hk1 hS => ?_)
  try rw [hwra1] at hB
  have hkra1_0 : (((-1) : Int32)).toInt = -1 := by decide
  have hkra1_1 : ((4 : Int32)).toInt = 4 := by decide
  rcases hB with hB | hB
  · skip
    obtain ⟨x2, oa_x2, ob_x2, pt0_ra1, pt1_ra1, pt2_ra1, pt3_ra1, pt4_ra1, pt5_ra1, pt6_ra1, hP1, hK1, hD1⟩ := hB
    rw [ht] at hP1
    obtain ⟨hP2, hD2⟩ := va_join (wr := (wd_ad0642e8 h2 g1 f19 h3 g2 f20 h4 g3 f21)) (w1 := (wd_f4cd022e h0 v0 h1 v1 x2 (-1) 4 h2 h3 h4 r0 r1 r2 r3 v3 v4 r4 r5 r6 r7 v5 r8 r9 v6 v7 r10 r11 v8 v9 r12 v10 v11 r13 v12 w13 r14 v14 v15 r15 r16 r17 r18 r19 r20 v16 r21 r22 r23 v17 h1 g0 f18)) hP hD [0, 1] [2, 3, 4] rfl rfl (by decide) (by decide) hk1 hFc hP1 hD1
    clear hP hD hPc hDc hKc hFc hP1 hK1 hD1 hk1 hz1
    generalize H1 = H at hP2 hS ⊢
    have hP := hP2.sub (ws' := (wd_d906eaf1 h0 v0 h1 v1 x2 (-1) 4 h2 h3 h4 r0 r1 r2 r3 v3 v4 r4 r5 r6 r7 v5 r8 r9 v6 v7 r10 r11 v8 v9 r12 v10 v11 r13 v12 w13 r14 v14 v15 r15 r16 r17 r18 r19 r20 v16 r21 r22 r23 v17 h1 g0 f18 h2 g1 f19 h3 g2 f20 h4 g3 f21)) [3, 4, 0, 1, 2] rfl
    have hD := hD2.sub (ws' := (wd_d906eaf1 h0 v0 h1 v1 x2 (-1) 4 h2 h3 h4 r0 r1 r2 r3 v3 v4 r4 r5 r6 r7 v5 r8 r9 v6 v7 r10 r11 v8 v9 r12 v10 v11 r13 v12 w13 r14 v14 v15 r15 r16 r17 r18 r19 r20 v16 r21 r22 r23 v17 h1 g0 f18 h2 g1 f19 h3 g2 f20 h4 g3 f21)) [3, 4, 0, 1, 2] (by decide) rfl
    clear hP2 hD2
    obtain rfl : ra1 = ((-1) : Int32) := pv_cs (by decide) pt0_ra1 pt1_ra1
    refine lv_istore_n (lv' := [(1, .int (-1)), (0, .ref h0)]) hx hb dX12_atom_4 rfl hl (by decide) rfl (fun ls hl => ?_)
    refine lv_iload_n hx hb dX12_atom_5 rfl (lv_at hl 0 rfl) ?_
    have hPc := hP.sub (ws' := []) [] rfl
    have hDc := hD.sub (ws' := []) [] (by decide) rfl
    have hKc := hK.sub (tys' := []) [] rfl
    have hFc := va_free (wc := []) hD hS hA [] rfl
    refine va_calli (va_runS (As := [.int (-1)]) (rest := []) ⟨hx, hb, hml, hown, hts⟩ (k_X12_isDigit l dC dI ((-1))  H.size) (va_cwS 1 hts g_X12_atom_2_1 rfl rfl rfl (by decide +kernel) ⟨Nat.le_of_ble_eq_true rfl, Nat.le_of_ble_eq_true rfl⟩) (pv_PS hPc hKc hDc) rfl rfl hl.1 rfl (lv_room (Nat.le_of_ble_eq_true rfl)) dX12_atom_6 ⟨Nat.le_of_ble_eq_true rfl, Nat.le_of_ble_eq_true rfl⟩) hS (fun q _ h => hFc q h) hFc (fun ra3 u t H1 locs ht hvm hwra3 hB hz1 hk1 hS => ?_)
    try rw [hwra3] at hB
    have hkra3_0 : (((-1) : Int32)).toInt = -1 := by decide
    obtain ⟨pt0_ra3, pt1_ra3, pt2_ra3, pt3_ra3, pt4_ra3, hP1, hK1, hD1⟩ := hB
    rw [ht] at hP1
    obtain ⟨hP2, hD2⟩ := va_join (wr := (wd_d906eaf1 h0 v0 h1 v1 x2 (-1) 4 h2 h3 h4 r0 r1 r2 r3 v3 v4 r4 r5 r6 r7 v5 r8 r9 v6 v7 r10 r11 v8 v9 r12 v10 v11 r13 v12 w13 r14 v14 v15 r15 r16 r17 r18 r19 r20 v16 r21 r22 r23 v17 h1 g0 f18 h2 g1 f19 h3 g2 f20 h4 g3 f21)) (w1 := []) hP hD [] [0, 1, 2, 3, 4] rfl rfl (by decide) (by decide) hk1 hFc hP1 hD1
    clear hP hD hPc hDc hKc hFc hP1 hK1 hD1 hk1 hz1
    generalize H1 = H at hP2 hS ⊢
    have hP : va_P (dC, dI) vwCl (wd_d906eaf1 h0 v0 h1 v1 x2 (-1) 4 h2 h3 h4 r0 r1 r2 r3 v3 v4 r4 r5 r6 r7 v5 r8 r9 v6 v7 r10 r11 v8 v9 r12 v10 v11 r13 v12 w13 r14 v14 v15 r15 r16 r17 r18 r19 r20 v16 r21 r22 r23 v17 h1 g0 f18 h2 g1 f19 h3 g2 f20 h4 g3 f21) H := hP2
    have hD : va_D A (wd_d906eaf1 h0 v0 h1 v1 x2 (-1) 4 h2 h3 h4 r0 r1 r2 r3 v3 v4 r4 r5 r6 r7 v5 r8 r9 v6 v7 r10 r11 v8 v9 r12 v10 v11 r13 v12 w13 r14 v14 v15 r15 r16 r17 r18 r19 r20 v16 r21 r22 r23 v17 h1 g0 f18 h2 g1 f19 h3 g2 f20 h4 g3 f21) := hD2
    clear hP2 hD2
    refine lv_if_eq (tgt := 24) hx hb dX12_atom_9 (by decide) (fun c4 => ?_) (fun c4 => ?_)
    · skip
      have fc4 : ra3.toInt = 0 := congrArg Int32.toInt c4
      refine lv_iload_n hx hb dX12_atom_24 rfl (lv_at hl 0 rfl) ?_
      have hPc := hP.sub (ws' := []) [] rfl
      have hDc := hD.sub (ws' := []) [] (by decide) rfl
      have hKc := hK.sub (tys' := []) [] rfl
      have hFc := va_free (wc := []) hD hS hA [] rfl
      refine va_calli (va_runS (As := [.int (-1)]) (rest := []) ⟨hx, hb, hml, hown, hts⟩ (k_X12_letterOf l dC dI ((-1))  H.size) (va_cwS 1 hts g_X12_atom_2_2 rfl rfl rfl (by decide +kernel) ⟨Nat.le_of_ble_eq_true rfl, Nat.le_of_ble_eq_true rfl⟩) (pv_PS hPc hKc hDc) rfl rfl hl.1 rfl (lv_room (Nat.le_of_ble_eq_true rfl)) dX12_atom_25 ⟨Nat.le_of_ble_eq_true rfl, Nat.le_of_ble_eq_true rfl⟩) hS (fun q _ h => hFc q h) hFc (fun ra5 u t H1 locs ht hvm hwra5 hB hz1 hk1 hS => ?_)
      try rw [hwra5] at hB
      have hkra5_0 : (((-1) : Int32)).toInt = -1 := by decide
      obtain ⟨pt0_ra5, pt1_ra5, pt2_ra5, pt3_ra5, hP1, hK1, hD1⟩ := hB
      rw [ht] at hP1
      obtain ⟨hP2, hD2⟩ := va_join (wr := (wd_d906eaf1 h0 v0 h1 v1 x2 (-1) 4 h2 h3 h4 r0 r1 r2 r3 v3 v4 r4 r5 r6 r7 v5 r8 r9 v6 v7 r10 r11 v8 v9 r12 v10 v11 r13 v12 w13 r14 v14 v15 r15 r16 r17 r18 r19 r20 v16 r21 r22 r23 v17 h1 g0 f18 h2 g1 f19 h3 g2 f20 h4 g3 f21)) (w1 := []) hP hD [] [0, 1, 2, 3, 4] rfl rfl (by decide) (by decide) hk1 hFc hP1 hD1
      clear hP hD hPc hDc hKc hFc hP1 hK1 hD1 hk1 hz1
      generalize H1 = H at hP2 hS ⊢
      have hP : va_P (dC, dI) vwCl (wd_d906eaf1 h0 v0 h1 v1 x2 (-1) 4 h2 h3 h4 r0 r1 r2 r3 v3 v4 r4 r5 r6 r7 v5 r8 r9 v6 v7 r10 r11 v8 v9 r12 v10 v11 r13 v12 w13 r14 v14 v15 r15 r16 r17 r18 r19 r20 v16 r21 r22 r23 v17 h1 g0 f18 h2 g1 f19 h3 g2 f20 h4 g3 f21) H := hP2
      have hD : va_D A (wd_d906eaf1 h0 v0 h1 v1 x2 (-1) 4 h2 h3 h4 r0 r1 r2 r3 v3 v4 r4 r5 r6 r7 v5 r8 r9 v6 v7 r10 r11 v8 v9 r12 v10 v11 r13 v12 w13 r14 v14 v15 r15 r16 r17 r18 r19 r20 v16 r21 r22 r23 v17 h1 g0 f18 h2 g1 f19 h3 g2 f20 h4 g3 f21) := hD2
      clear hP2 hD2
      have hltra5 : pm_lt (pg_ch f18 v1.toInt x2.toInt) = ra5.toInt := by rw [show pg_ch f18 v1.toInt x2.toInt = (((-1) : Int32)).toInt by omega]; omega
      refine lv_iconst (v := (-1)) hx hb dX12_atom_28 (by decide) ?_
      refine lv_icmp_eq (tgt := 54) hx hb dX12_atom_29 (by decide) (fun c6 => ?_) (fun c6 => ?_)
      · skip
        have fc6 : ra5.toInt = (-1) := congrArg Int32.toInt c6
        refine lv_iload_n hx hb dX12_atom_54 rfl (lv_at hl 0 rfl) ?_
        refine lv_bipush (v := 91) hx hb dX12_atom_55 (by decide) ?_
        refine lv_icmp_ne (tgt := 85) hx hb dX12_atom_57 (by decide) (fun _ => ?_) (fun c => absurd c (by decide))
        refine lv_aload_n hx hb dX12_atom_85 rfl (lv_at hl 1 rfl) ?_
        have hPc := hP.sub (ws' := (wd_171f232f h0 v0 h1 v1 x2 (-1) 4 h2 h3 h4 r0 r1 r2 r3 v3 v4 r4 r5 r6 r7 v5 r8 r9 v6 v7 r10 r11 v8 v9 r12 v10 v11 r13 v12 w13 r14 v14 v15 r15 r16 r17 r18 r19 r20 v16 r21 r22 r23 v17)) [0] rfl
        have hDc := hD.sub (ws' := (wd_171f232f h0 v0 h1 v1 x2 (-1) 4 h2 h3 h4 r0 r1 r2 r3 v3 v4 r4 r5 r6 r7 v5 r8 r9 v6 v7 r10 r11 v8 v9 r12 v10 v11 r13 v12 w13 r14 v14 v15 r15 r16 r17 r18 r19 r20 v16 r21 r22 r23 v17)) [0] (by decide) rfl
        have hKc := hK.sub (tys' := []) [] rfl
        have hFc := va_free (wc := (wd_171f232f h0 v0 h1 v1 x2 (-1) 4 h2 h3 h4 r0 r1 r2 r3 v3 v4 r4 r5 r6 r7 v5 r8 r9 v6 v7 r10 r11 v8 v9 r12 v10 v11 r13 v12 w13 r14 v14 v15 r15 r16 r17 r18 r19 r20 v16 r21 r22 r23 v17)) hD hS hA [0] rfl
        refine va_callv (va_runV (As := []) (rest := []) ⟨hx, hb, hml, hown, hts⟩ (k_X12_bad l dC dI h0 v0 h1 v1 x2 4 h2 h3 h4 r0 r1 r2 r3 v3 v4 r4 r5 r6 r7 v5 r8 r9 v6 v7 r10 r11 v8 v9 r12 v10 v11 r13 v12 w13 r14 v14 v15 r15 r16 r17 r18 r19 r20 v16 r21 r22 r23 v17 ⟨i_v1a, i_v1b⟩ ⟨oa_x2, ob_x2⟩ ⟨i_v3a, i_v3b⟩ ⟨i_v4a, i_v4b⟩ ⟨i_v5a, i_v5b⟩ ⟨i_v6a, i_v6b⟩ ⟨i_v7a, i_v7b⟩ ⟨i_v8a, i_v8b⟩ ⟨i_v12a, i_v12b⟩ ⟨i_v16a, i_v16b⟩ ⟨i_v17a, i_v17b⟩ H.size) (cwV 0 hts g_X12_atom_2_3 rfl rfl rfl (by decide +kernel) ⟨Nat.le_of_ble_eq_true rfl, Nat.le_of_ble_eq_true rfl⟩) (pv_PV12 hPc hKc hDc (q0 := 0) rfl) rfl rfl hl.1 rfl (lv_room (Nat.le_of_ble_eq_true rfl)) dX12_atom_86 ⟨Nat.le_of_ble_eq_true rfl, Nat.le_of_ble_eq_true rfl⟩) hS (fun q _ h => hFc q h) hFc (fun u t H1 locs ht hvm hwra7 hB hz1 hk1 hS => ?_)
        have hkra7_0 : ((4 : Int32)).toInt = 4 := by decide
        obtain ⟨x8, oa_x8, ob_x8, pt0_ra7, hP1, hK1, hD1⟩ := hB
        rw [ht] at hP1
        obtain ⟨hP2, hD2⟩ := va_join (wr := (wd_bfe486e6 h1 g0 f18 h2 g1 f19 h3 g2 f20 h4 g3 f21)) (w1 := (wd_171f232f h0 v0 h1 v1 x2 x8 4 h2 h3 h4 r0 r1 r2 r3 v3 v4 r4 r5 r6 r7 v5 r8 r9 v6 v7 r10 r11 v8 v9 r12 v10 v11 r13 v12 w13 r14 v14 v15 r15 r16 r17 r18 r19 r20 v16 r21 r22 r23 v17)) hP hD [0] [1, 2, 3, 4] rfl rfl (by decide) (by decide) hk1 hFc hP1 hD1
        clear hP hD hPc hDc hKc hFc hP1 hK1 hD1 hk1 hz1
        generalize H1 = H at hP2 hS ⊢
        have hP := hP2.sub (ws' := (wd_d906eaf1 h0 v0 h1 v1 x2 x8 4 h2 h3 h4 r0 r1 r2 r3 v3 v4 r4 r5 r6 r7 v5 r8 r9 v6 v7 r10 r11 v8 v9 r12 v10 v11 r13 v12 w13 r14 v14 v15 r15 r16 r17 r18 r19 r20 v16 r21 r22 r23 v17 h1 g0 f18 h2 g1 f19 h3 g2 f20 h4 g3 f21)) [4, 0, 1, 2, 3] rfl
        have hD := hD2.sub (ws' := (wd_d906eaf1 h0 v0 h1 v1 x2 x8 4 h2 h3 h4 r0 r1 r2 r3 v3 v4 r4 r5 r6 r7 v5 r8 r9 v6 v7 r10 r11 v8 v9 r12 v10 v11 r13 v12 w13 r14 v14 v15 r15 r16 r17 r18 r19 r20 v16 r21 r22 r23 v17 h1 g0 f18 h2 g1 f19 h3 g2 f20 h4 g3 f21)) [4, 0, 1, 2, 3] (by decide) rfl
        clear hP2 hD2
        subst hQ
        have hP9 := hP.sub (ws' := (wd_d906eaf1 h0 v0 h1 v1 x2 x8 4 h2 h3 h4 r0 r1 r2 r3 v3 v4 r4 r5 r6 r7 v5 r8 r9 v6 v7 r10 r11 v8 v9 r12 v10 v11 r13 v12 w13 r14 v14 v15 r15 r16 r17 r18 r19 r20 v16 r21 r22 r23 v17 h1 g0 f18 h2 g1 f19 h3 g2 f20 h4 g3 f21)) [0, 1, 2, 3, 4] rfl
        have hD9 := hD.sub (ws' := (wd_d906eaf1 h0 v0 h1 v1 x2 x8 4 h2 h3 h4 r0 r1 r2 r3 v3 v4 r4 r5 r6 r7 v5 r8 r9 v6 v7 r10 r11 v8 v9 r12 v10 v11 r13 v12 w13 r14 v14 v15 r15 r16 r17 r18 r19 r20 v16 r21 r22 r23 v17 h1 g0 f18 h2 g1 f19 h3 g2 f20 h4 g3 f21)) [0, 1, 2, 3, 4] (by decide) rfl
        have hK9 := hK.sub (tys' := []) [] rfl
        exact W.vret hx hb hr (fun t ht hW => ⟨⟨(), rfl, trivial, Or.inr (⟨x2, x8, 4, f19, f20, f21, oa_x2, by first | omega | decide, oa_x8, ob_x8, by constructor <;> omega, by exact hgF, by show pg_atomF f18 v1.toInt true (pg_sum f18 v1.toInt 1) _ = _; first | (apply pg_atomF.num <;> first | assumption | omega) | (apply pg_atomF.par0 <;> first | assumption | omega) | (apply pg_atomF.par1 <;> first | assumption | omega) | (apply pg_atomF.deep <;> first | assumption | omega) | (apply pg_atomF.bad <;> first | assumption | omega), by rw [ht]; exact hP9, va_K.moved hW.alike hK9, hD9⟩)⟩, hS.F ht⟩) hS.2.2 dX12_atom_89
      · skip
        have fc6 : ¬ (ra5.toInt = (-1)) := fun h9 => c6 (Int32.toInt_inj.mp h9)
        exfalso; omega
    · skip
      have fc4 : ¬ (ra3.toInt = 0) := fun h9 => c4 (Int32.toInt_inj.mp h9)
      exfalso; omega
  · skip
    obtain ⟨x9, oa_x9, ob_x9, pt0_ra1, pt1_ra1, pt2_ra1, pt3_ra1, pt4_ra1, pt5_ra1, pt6_ra1, pt7_ra1, hP1, hK1, hD1⟩ := hB
    rw [ht] at hP1
    obtain ⟨hP2, hD2⟩ := va_join (wr := (wd_ad0642e8 h2 g1 f19 h3 g2 f20 h4 g3 f21)) (w1 := (wd_f4cd022e h0 v0 h1 v1 x9 (-1) 4 h2 h3 h4 r0 r1 r2 r3 v3 v4 r4 r5 r6 r7 v5 r8 r9 v6 v7 r10 r11 v8 v9 r12 v10 v11 r13 v12 w13 r14 v14 v15 r15 r16 r17 r18 r19 r20 v16 r21 r22 r23 v17 h1 g0 f18)) hP hD [0, 1] [2, 3, 4] rfl rfl (by decide) (by decide) hk1 hFc hP1 hD1
    clear hP hD hPc hDc hKc hFc hP1 hK1 hD1 hk1 hz1
    generalize H1 = H at hP2 hS ⊢
    have hP := hP2.sub (ws' := (wd_d906eaf1 h0 v0 h1 v1 x9 (-1) 4 h2 h3 h4 r0 r1 r2 r3 v3 v4 r4 r5 r6 r7 v5 r8 r9 v6 v7 r10 r11 v8 v9 r12 v10 v11 r13 v12 w13 r14 v14 v15 r15 r16 r17 r18 r19 r20 v16 r21 r22 r23 v17 h1 g0 f18 h2 g1 f19 h3 g2 f20 h4 g3 f21)) [3, 4, 0, 1, 2] rfl
    have hD := hD2.sub (ws' := (wd_d906eaf1 h0 v0 h1 v1 x9 (-1) 4 h2 h3 h4 r0 r1 r2 r3 v3 v4 r4 r5 r6 r7 v5 r8 r9 v6 v7 r10 r11 v8 v9 r12 v10 v11 r13 v12 w13 r14 v14 v15 r15 r16 r17 r18 r19 r20 v16 r21 r22 r23 v17 h1 g0 f18 h2 g1 f19 h3 g2 f20 h4 g3 f21)) [3, 4, 0, 1, 2] (by decide) rfl
    clear hP2 hD2
    refine lv_istore_n (lv' := [(1, .int ra1), (0, .ref h0)]) hx hb dX12_atom_4 rfl hl (by decide) rfl (fun ls hl => ?_)
    refine lv_iload_n hx hb dX12_atom_5 rfl (lv_at hl 0 rfl) ?_
    have hPc := hP.sub (ws' := []) [] rfl
    have hDc := hD.sub (ws' := []) [] (by decide) rfl
    have hKc := hK.sub (tys' := []) [] rfl
    have hFc := va_free (wc := []) hD hS hA [] rfl
    refine va_calli (va_runS (As := [.int ra1]) (rest := []) ⟨hx, hb, hml, hown, hts⟩ (k_X12_isDigit l dC dI ra1  H.size) (va_cwS 1 hts g_X12_atom_2_1 rfl rfl rfl (by decide +kernel) ⟨Nat.le_of_ble_eq_true rfl, Nat.le_of_ble_eq_true rfl⟩) (pv_PS hPc hKc hDc) rfl rfl hl.1 rfl (lv_room (Nat.le_of_ble_eq_true rfl)) dX12_atom_6 ⟨Nat.le_of_ble_eq_true rfl, Nat.le_of_ble_eq_true rfl⟩) hS (fun q _ h => hFc q h) hFc (fun ra10 u t H1 locs ht hvm hwra10 hB hz1 hk1 hS => ?_)
    try rw [hwra10] at hB
    obtain ⟨pt0_ra10, pt1_ra10, pt2_ra10, pt3_ra10, pt4_ra10, hP1, hK1, hD1⟩ := hB
    rw [ht] at hP1
    obtain ⟨hP2, hD2⟩ := va_join (wr := (wd_d906eaf1 h0 v0 h1 v1 x9 (-1) 4 h2 h3 h4 r0 r1 r2 r3 v3 v4 r4 r5 r6 r7 v5 r8 r9 v6 v7 r10 r11 v8 v9 r12 v10 v11 r13 v12 w13 r14 v14 v15 r15 r16 r17 r18 r19 r20 v16 r21 r22 r23 v17 h1 g0 f18 h2 g1 f19 h3 g2 f20 h4 g3 f21)) (w1 := []) hP hD [] [0, 1, 2, 3, 4] rfl rfl (by decide) (by decide) hk1 hFc hP1 hD1
    clear hP hD hPc hDc hKc hFc hP1 hK1 hD1 hk1 hz1
    generalize H1 = H at hP2 hS ⊢
    have hP : va_P (dC, dI) vwCl (wd_d906eaf1 h0 v0 h1 v1 x9 (-1) 4 h2 h3 h4 r0 r1 r2 r3 v3 v4 r4 r5 r6 r7 v5 r8 r9 v6 v7 r10 r11 v8 v9 r12 v10 v11 r13 v12 w13 r14 v14 v15 r15 r16 r17 r18 r19 r20 v16 r21 r22 r23 v17 h1 g0 f18 h2 g1 f19 h3 g2 f20 h4 g3 f21) H := hP2
    have hD : va_D A (wd_d906eaf1 h0 v0 h1 v1 x9 (-1) 4 h2 h3 h4 r0 r1 r2 r3 v3 v4 r4 r5 r6 r7 v5 r8 r9 v6 v7 r10 r11 v8 v9 r12 v10 v11 r13 v12 w13 r14 v14 v15 r15 r16 r17 r18 r19 r20 v16 r21 r22 r23 v17 h1 g0 f18 h2 g1 f19 h3 g2 f20 h4 g3 f21) := hD2
    clear hP2 hD2
    refine lv_if_eq (tgt := 24) hx hb dX12_atom_9 (by decide) (fun c11 => ?_) (fun c11 => ?_)
    · skip
      have fc11 : ra10.toInt = 0 := congrArg Int32.toInt c11
      refine lv_iload_n hx hb dX12_atom_24 rfl (lv_at hl 0 rfl) ?_
      have hPc := hP.sub (ws' := []) [] rfl
      have hDc := hD.sub (ws' := []) [] (by decide) rfl
      have hKc := hK.sub (tys' := []) [] rfl
      have hFc := va_free (wc := []) hD hS hA [] rfl
      refine va_calli (va_runS (As := [.int ra1]) (rest := []) ⟨hx, hb, hml, hown, hts⟩ (k_X12_letterOf l dC dI ra1  H.size) (va_cwS 1 hts g_X12_atom_2_2 rfl rfl rfl (by decide +kernel) ⟨Nat.le_of_ble_eq_true rfl, Nat.le_of_ble_eq_true rfl⟩) (pv_PS hPc hKc hDc) rfl rfl hl.1 rfl (lv_room (Nat.le_of_ble_eq_true rfl)) dX12_atom_25 ⟨Nat.le_of_ble_eq_true rfl, Nat.le_of_ble_eq_true rfl⟩) hS (fun q _ h => hFc q h) hFc (fun ra12 u t H1 locs ht hvm hwra12 hB hz1 hk1 hS => ?_)
      try rw [hwra12] at hB
      obtain ⟨pt0_ra12, pt1_ra12, pt2_ra12, pt3_ra12, hP1, hK1, hD1⟩ := hB
      rw [ht] at hP1
      obtain ⟨hP2, hD2⟩ := va_join (wr := (wd_d906eaf1 h0 v0 h1 v1 x9 (-1) 4 h2 h3 h4 r0 r1 r2 r3 v3 v4 r4 r5 r6 r7 v5 r8 r9 v6 v7 r10 r11 v8 v9 r12 v10 v11 r13 v12 w13 r14 v14 v15 r15 r16 r17 r18 r19 r20 v16 r21 r22 r23 v17 h1 g0 f18 h2 g1 f19 h3 g2 f20 h4 g3 f21)) (w1 := []) hP hD [] [0, 1, 2, 3, 4] rfl rfl (by decide) (by decide) hk1 hFc hP1 hD1
      clear hP hD hPc hDc hKc hFc hP1 hK1 hD1 hk1 hz1
      generalize H1 = H at hP2 hS ⊢
      have hP : va_P (dC, dI) vwCl (wd_d906eaf1 h0 v0 h1 v1 x9 (-1) 4 h2 h3 h4 r0 r1 r2 r3 v3 v4 r4 r5 r6 r7 v5 r8 r9 v6 v7 r10 r11 v8 v9 r12 v10 v11 r13 v12 w13 r14 v14 v15 r15 r16 r17 r18 r19 r20 v16 r21 r22 r23 v17 h1 g0 f18 h2 g1 f19 h3 g2 f20 h4 g3 f21) H := hP2
      have hD : va_D A (wd_d906eaf1 h0 v0 h1 v1 x9 (-1) 4 h2 h3 h4 r0 r1 r2 r3 v3 v4 r4 r5 r6 r7 v5 r8 r9 v6 v7 r10 r11 v8 v9 r12 v10 v11 r13 v12 w13 r14 v14 v15 r15 r16 r17 r18 r19 r20 v16 r21 r22 r23 v17 h1 g0 f18 h2 g1 f19 h3 g2 f20 h4 g3 f21) := hD2
      clear hP2 hD2
      have hltra12 : pm_lt (pg_ch f18 v1.toInt x9.toInt) = ra12.toInt := by rw [show pg_ch f18 v1.toInt x9.toInt = ra1.toInt by omega]; omega
      refine lv_iconst (v := (-1)) hx hb dX12_atom_28 (by decide) ?_
      refine lv_icmp_eq (tgt := 54) hx hb dX12_atom_29 (by decide) (fun c13 => ?_) (fun c13 => ?_)
      · skip
        have fc13 : ra12.toInt = (-1) := congrArg Int32.toInt c13
        refine lv_iload_n hx hb dX12_atom_54 rfl (lv_at hl 0 rfl) ?_
        refine lv_bipush (v := 91) hx hb dX12_atom_55 (by decide) ?_
        refine lv_icmp_ne (tgt := 85) hx hb dX12_atom_57 (by decide) (fun c14 => ?_) (fun c14 => ?_)
        · skip
          have fc14 : ¬ (ra1.toInt = 91) := fun h9 => c14 (Int32.toInt_inj.mp h9)
          refine lv_aload_n hx hb dX12_atom_85 rfl (lv_at hl 1 rfl) ?_
          have hPc := hP.sub (ws' := (wd_171f232f h0 v0 h1 v1 x9 (-1) 4 h2 h3 h4 r0 r1 r2 r3 v3 v4 r4 r5 r6 r7 v5 r8 r9 v6 v7 r10 r11 v8 v9 r12 v10 v11 r13 v12 w13 r14 v14 v15 r15 r16 r17 r18 r19 r20 v16 r21 r22 r23 v17)) [0] rfl
          have hDc := hD.sub (ws' := (wd_171f232f h0 v0 h1 v1 x9 (-1) 4 h2 h3 h4 r0 r1 r2 r3 v3 v4 r4 r5 r6 r7 v5 r8 r9 v6 v7 r10 r11 v8 v9 r12 v10 v11 r13 v12 w13 r14 v14 v15 r15 r16 r17 r18 r19 r20 v16 r21 r22 r23 v17)) [0] (by decide) rfl
          have hKc := hK.sub (tys' := []) [] rfl
          have hFc := va_free (wc := (wd_171f232f h0 v0 h1 v1 x9 (-1) 4 h2 h3 h4 r0 r1 r2 r3 v3 v4 r4 r5 r6 r7 v5 r8 r9 v6 v7 r10 r11 v8 v9 r12 v10 v11 r13 v12 w13 r14 v14 v15 r15 r16 r17 r18 r19 r20 v16 r21 r22 r23 v17)) hD hS hA [0] rfl
          refine va_callv (va_runV (As := []) (rest := []) ⟨hx, hb, hml, hown, hts⟩ (k_X12_bad l dC dI h0 v0 h1 v1 x9 4 h2 h3 h4 r0 r1 r2 r3 v3 v4 r4 r5 r6 r7 v5 r8 r9 v6 v7 r10 r11 v8 v9 r12 v10 v11 r13 v12 w13 r14 v14 v15 r15 r16 r17 r18 r19 r20 v16 r21 r22 r23 v17 ⟨i_v1a, i_v1b⟩ ⟨oa_x9, by first | omega | decide⟩ ⟨i_v3a, i_v3b⟩ ⟨i_v4a, i_v4b⟩ ⟨i_v5a, i_v5b⟩ ⟨i_v6a, i_v6b⟩ ⟨i_v7a, i_v7b⟩ ⟨i_v8a, i_v8b⟩ ⟨i_v12a, i_v12b⟩ ⟨i_v16a, i_v16b⟩ ⟨i_v17a, i_v17b⟩ H.size) (cwV 0 hts g_X12_atom_2_3 rfl rfl rfl (by decide +kernel) ⟨Nat.le_of_ble_eq_true rfl, Nat.le_of_ble_eq_true rfl⟩) (pv_PV12 hPc hKc hDc (q0 := 0) rfl) rfl rfl hl.1 rfl (lv_room (Nat.le_of_ble_eq_true rfl)) dX12_atom_86 ⟨Nat.le_of_ble_eq_true rfl, Nat.le_of_ble_eq_true rfl⟩) hS (fun q _ h => hFc q h) hFc (fun u t H1 locs ht hvm hwra15 hB hz1 hk1 hS => ?_)
          have hkra15_0 : ((4 : Int32)).toInt = 4 := by decide
          obtain ⟨x16, oa_x16, ob_x16, pt0_ra15, hP1, hK1, hD1⟩ := hB
          rw [ht] at hP1
          obtain ⟨hP2, hD2⟩ := va_join (wr := (wd_bfe486e6 h1 g0 f18 h2 g1 f19 h3 g2 f20 h4 g3 f21)) (w1 := (wd_171f232f h0 v0 h1 v1 x9 x16 4 h2 h3 h4 r0 r1 r2 r3 v3 v4 r4 r5 r6 r7 v5 r8 r9 v6 v7 r10 r11 v8 v9 r12 v10 v11 r13 v12 w13 r14 v14 v15 r15 r16 r17 r18 r19 r20 v16 r21 r22 r23 v17)) hP hD [0] [1, 2, 3, 4] rfl rfl (by decide) (by decide) hk1 hFc hP1 hD1
          clear hP hD hPc hDc hKc hFc hP1 hK1 hD1 hk1 hz1
          generalize H1 = H at hP2 hS ⊢
          have hP := hP2.sub (ws' := (wd_d906eaf1 h0 v0 h1 v1 x9 x16 4 h2 h3 h4 r0 r1 r2 r3 v3 v4 r4 r5 r6 r7 v5 r8 r9 v6 v7 r10 r11 v8 v9 r12 v10 v11 r13 v12 w13 r14 v14 v15 r15 r16 r17 r18 r19 r20 v16 r21 r22 r23 v17 h1 g0 f18 h2 g1 f19 h3 g2 f20 h4 g3 f21)) [4, 0, 1, 2, 3] rfl
          have hD := hD2.sub (ws' := (wd_d906eaf1 h0 v0 h1 v1 x9 x16 4 h2 h3 h4 r0 r1 r2 r3 v3 v4 r4 r5 r6 r7 v5 r8 r9 v6 v7 r10 r11 v8 v9 r12 v10 v11 r13 v12 w13 r14 v14 v15 r15 r16 r17 r18 r19 r20 v16 r21 r22 r23 v17 h1 g0 f18 h2 g1 f19 h3 g2 f20 h4 g3 f21)) [4, 0, 1, 2, 3] (by decide) rfl
          clear hP2 hD2
          subst hQ
          have hP9 := hP.sub (ws' := (wd_d906eaf1 h0 v0 h1 v1 x9 x16 4 h2 h3 h4 r0 r1 r2 r3 v3 v4 r4 r5 r6 r7 v5 r8 r9 v6 v7 r10 r11 v8 v9 r12 v10 v11 r13 v12 w13 r14 v14 v15 r15 r16 r17 r18 r19 r20 v16 r21 r22 r23 v17 h1 g0 f18 h2 g1 f19 h3 g2 f20 h4 g3 f21)) [0, 1, 2, 3, 4] rfl
          have hD9 := hD.sub (ws' := (wd_d906eaf1 h0 v0 h1 v1 x9 x16 4 h2 h3 h4 r0 r1 r2 r3 v3 v4 r4 r5 r6 r7 v5 r8 r9 v6 v7 r10 r11 v8 v9 r12 v10 v11 r13 v12 w13 r14 v14 v15 r15 r16 r17 r18 r19 r20 v16 r21 r22 r23 v17 h1 g0 f18 h2 g1 f19 h3 g2 f20 h4 g3 f21)) [0, 1, 2, 3, 4] (by decide) rfl
          have hK9 := hK.sub (tys' := []) [] rfl
          exact W.vret hx hb hr (fun t ht hW => ⟨⟨(), rfl, trivial, Or.inr (⟨x9, x16, 4, f19, f20, f21, oa_x9, by first | omega | decide, oa_x16, ob_x16, by constructor <;> omega, by exact hgF, by show pg_atomF f18 v1.toInt true (pg_sum f18 v1.toInt 1) _ = _; first | (apply pg_atomF.num <;> first | assumption | omega) | (apply pg_atomF.par0 <;> first | assumption | omega) | (apply pg_atomF.par1 <;> first | assumption | omega) | (apply pg_atomF.deep <;> first | assumption | omega) | (apply pg_atomF.bad <;> first | assumption | omega), by rw [ht]; exact hP9, va_K.moved hW.alike hK9, hD9⟩)⟩, hS.F ht⟩) hS.2.2 dX12_atom_89
        · skip
          have fc14 : ra1.toInt = 91 := congrArg Int32.toInt c14
          refine lv_aload_n hx hb dX12_atom_60 rfl (lv_at hl 1 rfl) ?_
          have hPc := hP.sub (ws' := (wd_171f232f h0 v0 h1 v1 x9 (-1) 4 h2 h3 h4 r0 r1 r2 r3 v3 v4 r4 r5 r6 r7 v5 r8 r9 v6 v7 r10 r11 v8 v9 r12 v10 v11 r13 v12 w13 r14 v14 v15 r15 r16 r17 r18 r19 r20 v16 r21 r22 r23 v17)) [0] rfl
          have hDc := hD.sub (ws' := (wd_171f232f h0 v0 h1 v1 x9 (-1) 4 h2 h3 h4 r0 r1 r2 r3 v3 v4 r4 r5 r6 r7 v5 r8 r9 v6 v7 r10 r11 v8 v9 r12 v10 v11 r13 v12 w13 r14 v14 v15 r15 r16 r17 r18 r19 r20 v16 r21 r22 r23 v17)) [0] (by decide) rfl
          have hKc := hK.sub (tys' := []) [] rfl
          have hFc := va_free (wc := (wd_171f232f h0 v0 h1 v1 x9 (-1) 4 h2 h3 h4 r0 r1 r2 r3 v3 v4 r4 r5 r6 r7 v5 r8 r9 v6 v7 r10 r11 v8 v9 r12 v10 v11 r13 v12 w13 r14 v14 v15 r15 r16 r17 r18 r19 r20 v16 r21 r22 r23 v17)) hD hS hA [0] rfl
          refine va_callv (va_runV (As := []) (rest := []) ⟨hx, hb, hml, hown, hts⟩ (k_X12_opens_2 l dC dI h0 v0 h1 v1 x9 h2 h3 h4 r0 r1 r2 r3 v3 v4 r4 r5 r6 r7 v5 r8 r9 v6 v7 r10 r11 v8 v9 r12 v10 v11 r13 v12 w13 r14 v14 v15 r15 r16 r17 r18 r19 r20 v16 r21 r22 r23 v17 ⟨i_v1a, i_v1b⟩ ⟨oa_x9, ob_x9⟩ ⟨i_v3a, i_v3b⟩ ⟨i_v4a, i_v4b⟩ ⟨i_v5a, i_v5b⟩ ⟨i_v6a, i_v6b⟩ ⟨i_v7a, i_v7b⟩ ⟨i_v8a, i_v8b⟩ ⟨i_v12a, i_v12b⟩ ⟨i_v16a, i_v16b⟩ ⟨i_v17a, i_v17b⟩ H.size) (cwV 0 hts g_X12_atom_2_7 rfl rfl rfl (by decide +kernel) ⟨Nat.le_of_ble_eq_true rfl, Nat.le_of_ble_eq_true rfl⟩) (pv_PV12 hPc hKc hDc (q0 := 0) rfl) rfl rfl hl.1 rfl (lv_room (Nat.le_of_ble_eq_true rfl)) dX12_atom_61 ⟨Nat.le_of_ble_eq_true rfl, Nat.le_of_ble_eq_true rfl⟩) hS (fun q _ h => hFc q h) hFc (fun u t H1 locs ht hvm hwra17 hB hz1 hk1 hS => ?_)
          obtain ⟨x18, oa_x18, ob_x18, pt0_ra17, hP1, hK1, hD1⟩ := hB
          rw [ht] at hP1
          obtain ⟨hP2, hD2⟩ := va_join (wr := (wd_bfe486e6 h1 g0 f18 h2 g1 f19 h3 g2 f20 h4 g3 f21)) (w1 := (wd_171f232f h0 v0 h1 v1 x18 (-1) 5 h2 h3 h4 r0 r1 r2 r3 v3 v4 r4 r5 r6 r7 v5 r8 r9 v6 v7 r10 r11 v8 v9 r12 v10 v11 r13 v12 w13 r14 v14 v15 r15 r16 r17 r18 r19 r20 v16 r21 r22 r23 v17)) hP hD [0] [1, 2, 3, 4] rfl rfl (by decide) (by decide) hk1 hFc hP1 hD1
          clear hP hD hPc hDc hKc hFc hP1 hK1 hD1 hk1 hz1
          generalize H1 = H at hP2 hS ⊢
          have hP := hP2.sub (ws' := (wd_d906eaf1 h0 v0 h1 v1 x18 (-1) 5 h2 h3 h4 r0 r1 r2 r3 v3 v4 r4 r5 r6 r7 v5 r8 r9 v6 v7 r10 r11 v8 v9 r12 v10 v11 r13 v12 w13 r14 v14 v15 r15 r16 r17 r18 r19 r20 v16 r21 r22 r23 v17 h1 g0 f18 h2 g1 f19 h3 g2 f20 h4 g3 f21)) [4, 0, 1, 2, 3] rfl
          have hD := hD2.sub (ws' := (wd_d906eaf1 h0 v0 h1 v1 x18 (-1) 5 h2 h3 h4 r0 r1 r2 r3 v3 v4 r4 r5 r6 r7 v5 r8 r9 v6 v7 r10 r11 v8 v9 r12 v10 v11 r13 v12 w13 r14 v14 v15 r15 r16 r17 r18 r19 r20 v16 r21 r22 r23 v17 h1 g0 f18 h2 g1 f19 h3 g2 f20 h4 g3 f21)) [4, 0, 1, 2, 3] (by decide) rfl
          clear hP2 hD2
          refine lv_aload_n hx hb dX12_atom_64 rfl (lv_at hl 1 rfl) ?_
          refine va_get (D := (dC, dI)) (ci := 12) (v := .int (-1)) (C := RX12) (T := TX12) (N := 48) hx hb hts (fun _ h => List.mem_cons_of_mem _ (List.mem_append_right _ h)) hown hK hP 0 rfl rfl 4 (by decide) (hts (.fieldLink RX12 119 "LeftArgumentsModel" "wrong" "I") (List.mem_cons_of_mem _ (List.mem_append_left _ (List.mem_of_getElem? (i := 19) rfl)))) (fun _ h9 => h9) rfl dX12_atom_65 ?_
          refine lv_iconst (v := (-1)) hx hb dX12_atom_68 (by decide) ?_
          refine lv_icmp_ne (tgt := 89) hx hb dX12_atom_69 (by decide) (fun c => absurd (by decide) c) (fun _ => ?_)
          refine lv_aload_n hx hb dX12_atom_72 rfl (lv_at hl 1 rfl) ?_
          have hPc := hP.sub (ws' := (wd_d906eaf1 h0 v0 h1 v1 x18 (-1) 5 h2 h3 h4 r0 r1 r2 r3 v3 v4 r4 r5 r6 r7 v5 r8 r9 v6 v7 r10 r11 v8 v9 r12 v10 v11 r13 v12 w13 r14 v14 v15 r15 r16 r17 r18 r19 r20 v16 r21 r22 r23 v17 h1 g0 f18 h2 g1 f19 h3 g2 f20 h4 g3 f21)) [0, 1, 2, 3, 4] rfl
          have hDc := hD.sub (ws' := (wd_d906eaf1 h0 v0 h1 v1 x18 (-1) 5 h2 h3 h4 r0 r1 r2 r3 v3 v4 r4 r5 r6 r7 v5 r8 r9 v6 v7 r10 r11 v8 v9 r12 v10 v11 r13 v12 w13 r14 v14 v15 r15 r16 r17 r18 r19 r20 v16 r21 r22 r23 v17 h1 g0 f18 h2 g1 f19 h3 g2 f20 h4 g3 f21)) [0, 1, 2, 3, 4] (by decide) rfl
          have hKc := hK.sub (tys' := [(g0, .int), (g1, .int), (g2, .int), (g3, .int)]) [0, 1, 2, 3] rfl
          have hFc := va_free (wc := (wd_d906eaf1 h0 v0 h1 v1 x18 (-1) 5 h2 h3 h4 r0 r1 r2 r3 v3 v4 r4 r5 r6 r7 v5 r8 r9 v6 v7 r10 r11 v8 v9 r12 v10 v11 r13 v12 w13 r14 v14 v15 r15 r16 r17 r18 r19 r20 v16 r21 r22 r23 v17 h1 g0 f18 h2 g1 f19 h3 g2 f20 h4 g3 f21)) hD hS hA [0, 1, 2, 3, 4] rfl
          refine va_callv (va_runV (As := []) (rest := []) ⟨hx, hb, hml, hown, hts⟩ (k_X12_sum_1 l dC dI h0 h1 h2 h3 h4 v0 v1 x18 r0 r1 r2 r3 v3 v4 r4 r5 r6 r7 v5 r8 r9 v6 v7 r10 r11 v8 v9 r12 v10 v11 r13 v12 w13 r14 v14 v15 r15 r16 r17 r18 r19 r20 v16 r21 r22 r23 v17 g0 f18 g1 f19 g2 f20 g3 f21 ⟨i_v1a, i_v1b⟩ ⟨by first | omega | decide, ob_x18⟩ ⟨i_v3a, i_v3b⟩ ⟨i_v4a, i_v4b⟩ ⟨i_v5a, i_v5b⟩ ⟨i_v6a, i_v6b⟩ ⟨i_v7a, i_v7b⟩ ⟨i_v8a, i_v8b⟩ ⟨i_v12a, i_v12b⟩ ⟨i_v16a, i_v16b⟩ ⟨i_v17a, i_v17b⟩ ia_f18 (by constructor <;> omega) H.size) (cwV 0 hts g_X12_atom_2_8 rfl rfl rfl (by decide +kernel) ⟨Nat.le_of_ble_eq_true rfl, Nat.le_of_ble_eq_true rfl⟩) (pv_PV12 hPc hKc hDc (q0 := 0) rfl) rfl rfl hl.1 rfl (lv_room (Nat.le_of_ble_eq_true rfl)) dX12_atom_73 ⟨Nat.le_of_ble_eq_true rfl, Nat.le_of_ble_eq_true rfl⟩) hS (fun q _ h => hFc q h) hFc (fun u t H1 locs ht hvm hwra19 hB hz1 hk1 hS => ?_)
          rcases hB with hB | hB
          · skip
            obtain ⟨x20, fn21, fn22, fn23, oa_x20, ob_x20, pt0_ra19, pt1_ra19, pt2_ra19, hP1, hK1, hD1⟩ := hB
            rw [ht] at hP1
            obtain ⟨hP2, hD2⟩ := va_join (wr := []) (w1 := (wd_d906eaf1 h0 v0 h1 v1 x20 (-1) 5 h2 h3 h4 r0 r1 r2 r3 v3 v4 r4 r5 r6 r7 v5 r8 r9 v6 v7 r10 r11 v8 v9 r12 v10 v11 r13 v12 w13 r14 v14 v15 r15 r16 r17 r18 r19 r20 v16 r21 r22 r23 v17 h1 g0 f18 h2 g1 fn21 h3 g2 fn22 h4 g3 fn23)) hP hD [0, 1, 2, 3, 4] [] rfl rfl (by decide) (by decide) hk1 hFc hP1 hD1
            clear hP hD hPc hDc hKc hFc hP1 hK1 hD1 hk1 hz1
            generalize H1 = H at hP2 hS ⊢
            have hP : va_P (dC, dI) vwCl (wd_d906eaf1 h0 v0 h1 v1 x20 (-1) 5 h2 h3 h4 r0 r1 r2 r3 v3 v4 r4 r5 r6 r7 v5 r8 r9 v6 v7 r10 r11 v8 v9 r12 v10 v11 r13 v12 w13 r14 v14 v15 r15 r16 r17 r18 r19 r20 v16 r21 r22 r23 v17 h1 g0 f18 h2 g1 fn21 h3 g2 fn22 h4 g3 fn23) H := hP2
            have hD : va_D A (wd_d906eaf1 h0 v0 h1 v1 x20 (-1) 5 h2 h3 h4 r0 r1 r2 r3 v3 v4 r4 r5 r6 r7 v5 r8 r9 v6 v7 r10 r11 v8 v9 r12 v10 v11 r13 v12 w13 r14 v14 v15 r15 r16 r17 r18 r19 r20 v16 r21 r22 r23 v17 h1 g0 f18 h2 g1 fn21 h3 g2 fn22 h4 g3 fn23) := hD2
            clear hP2 hD2
            have hgR := hgR.app (k' := 1) (D := 5) pt1_ra19 (by decide) (by decide) (by decide) (by decide)
            have hgF := hgR.1
            have hxl := hgF.1
            refine lv_aload_n hx hb dX12_atom_76 rfl (lv_at hl 1 rfl) ?_
            refine lv_bipush (v := 93) hx hb dX12_atom_77 (by decide) ?_
            have hPc := hP.sub (ws' := (wd_f4cd022e h0 v0 h1 v1 x20 (-1) 5 h2 h3 h4 r0 r1 r2 r3 v3 v4 r4 r5 r6 r7 v5 r8 r9 v6 v7 r10 r11 v8 v9 r12 v10 v11 r13 v12 w13 r14 v14 v15 r15 r16 r17 r18 r19 r20 v16 r21 r22 r23 v17 h1 g0 f18)) [0, 1] rfl
            have hDc := hD.sub (ws' := (wd_f4cd022e h0 v0 h1 v1 x20 (-1) 5 h2 h3 h4 r0 r1 r2 r3 v3 v4 r4 r5 r6 r7 v5 r8 r9 v6 v7 r10 r11 v8 v9 r12 v10 v11 r13 v12 w13 r14 v14 v15 r15 r16 r17 r18 r19 r20 v16 r21 r22 r23 v17 h1 g0 f18)) [0, 1] (by decide) rfl
            have hKc := hK.sub (tys' := [(g0, .int)]) [0] rfl
            have hFc := va_free (wc := (wd_f4cd022e h0 v0 h1 v1 x20 (-1) 5 h2 h3 h4 r0 r1 r2 r3 v3 v4 r4 r5 r6 r7 v5 r8 r9 v6 v7 r10 r11 v8 v9 r12 v10 v11 r13 v12 w13 r14 v14 v15 r15 r16 r17 r18 r19 r20 v16 r21 r22 r23 v17 h1 g0 f18)) hD hS hA [0, 1] rfl
            refine va_callv (va_runV (As := [.int 93]) (rest := []) ⟨hx, hb, hml, hown, hts⟩ (k_X12_closes_4 l dC dI h0 h1 v0 v1 x20 h2 h3 h4 r0 r1 r2 r3 v3 v4 r4 r5 r6 r7 v5 r8 r9 v6 v7 r10 r11 v8 v9 r12 v10 v11 r13 v12 w13 r14 v14 v15 r15 r16 r17 r18 r19 r20 v16 r21 r22 r23 v17 g0 f18 ⟨i_v1a, i_v1b⟩ ⟨oa_x20, ob_x20⟩ ⟨i_v3a, i_v3b⟩ ⟨i_v4a, i_v4b⟩ ⟨i_v5a, i_v5b⟩ ⟨i_v6a, i_v6b⟩ ⟨i_v7a, i_v7b⟩ ⟨i_v8a, i_v8b⟩ ⟨i_v12a, i_v12b⟩ ⟨i_v16a, i_v16b⟩ ⟨i_v17a, i_v17b⟩ ia_f18 H.size) (cwV 1 hts g_X12_atom_2_9 rfl rfl rfl (by decide +kernel) ⟨Nat.le_of_ble_eq_true rfl, Nat.le_of_ble_eq_true rfl⟩) (pv_PV12 hPc hKc hDc (q0 := 0) rfl) rfl rfl hl.1 rfl (lv_room (Nat.le_of_ble_eq_true rfl)) dX12_atom_79 ⟨Nat.le_of_ble_eq_true rfl, Nat.le_of_ble_eq_true rfl⟩) hS (fun q _ h => hFc q h) hFc (fun u t H1 locs ht hvm hwra24 hB hz1 hk1 hS => ?_)
            rcases hB with hB | hB
            · skip
              obtain ⟨x25, oa_x25, ob_x25, pt0_ra24, pt1_ra24, hP1, hK1, hD1⟩ := hB
              rw [ht] at hP1
              obtain ⟨hP2, hD2⟩ := va_join (wr := (wd_ad0642e8 h2 g1 fn21 h3 g2 fn22 h4 g3 fn23)) (w1 := (wd_f4cd022e h0 v0 h1 v1 x25 (-1) 4 h2 h3 h4 r0 r1 r2 r3 v3 v4 r4 r5 r6 r7 v5 r8 r9 v6 v7 r10 r11 v8 v9 r12 v10 v11 r13 v12 w13 r14 v14 v15 r15 r16 r17 r18 r19 r20 v16 r21 r22 r23 v17 h1 g0 f18)) hP hD [0, 1] [2, 3, 4] rfl rfl (by decide) (by decide) hk1 hFc hP1 hD1
              clear hP hD hPc hDc hKc hFc hP1 hK1 hD1 hk1 hz1
              generalize H1 = H at hP2 hS ⊢
              have hP := hP2.sub (ws' := (wd_d906eaf1 h0 v0 h1 v1 x25 (-1) 4 h2 h3 h4 r0 r1 r2 r3 v3 v4 r4 r5 r6 r7 v5 r8 r9 v6 v7 r10 r11 v8 v9 r12 v10 v11 r13 v12 w13 r14 v14 v15 r15 r16 r17 r18 r19 r20 v16 r21 r22 r23 v17 h1 g0 f18 h2 g1 fn21 h3 g2 fn22 h4 g3 fn23)) [3, 4, 0, 1, 2] rfl
              have hD := hD2.sub (ws' := (wd_d906eaf1 h0 v0 h1 v1 x25 (-1) 4 h2 h3 h4 r0 r1 r2 r3 v3 v4 r4 r5 r6 r7 v5 r8 r9 v6 v7 r10 r11 v8 v9 r12 v10 v11 r13 v12 w13 r14 v14 v15 r15 r16 r17 r18 r19 r20 v16 r21 r22 r23 v17 h1 g0 f18 h2 g1 fn21 h3 g2 fn22 h4 g3 fn23)) [3, 4, 0, 1, 2] (by decide) rfl
              clear hP2 hD2
              refine lv_goto (tgt := 89) hx hb dX12_atom_82 (by decide) ?_
              subst hQ
              have hP9 := hP.sub (ws' := (wd_d906eaf1 h0 v0 h1 v1 x25 (-1) 4 h2 h3 h4 r0 r1 r2 r3 v3 v4 r4 r5 r6 r7 v5 r8 r9 v6 v7 r10 r11 v8 v9 r12 v10 v11 r13 v12 w13 r14 v14 v15 r15 r16 r17 r18 r19 r20 v16 r21 r22 r23 v17 h1 g0 f18 h2 g1 fn21 h3 g2 fn22 h4 g3 fn23)) [0, 1, 2, 3, 4] rfl
              have hD9 := hD.sub (ws' := (wd_d906eaf1 h0 v0 h1 v1 x25 (-1) 4 h2 h3 h4 r0 r1 r2 r3 v3 v4 r4 r5 r6 r7 v5 r8 r9 v6 v7 r10 r11 v8 v9 r12 v10 v11 r13 v12 w13 r14 v14 v15 r15 r16 r17 r18 r19 r20 v16 r21 r22 r23 v17 h1 g0 f18 h2 g1 fn21 h3 g2 fn22 h4 g3 fn23)) [0, 1, 2, 3, 4] (by decide) rfl
              have hK9 := hK.sub (tys' := []) [] rfl
              exact W.vret hx hb hr (fun t ht hW => ⟨⟨(), rfl, trivial, Or.inl ⟨x25, fn21, fn22, fn23, by first | omega | decide, ob_x25, by constructor <;> omega, by exact hgR.mono (by decide), by show pg_atomF f18 v1.toInt true (pg_sum f18 v1.toInt 1) _ = _; first | (apply pg_atomF.num <;> first | assumption | omega) | (apply pg_atomF.lt <;> first | assumption | omega) | (apply pg_atomF.par1 <;> first | assumption | omega), by rw [ht]; exact hP9, va_K.moved hW.alike hK9, hD9⟩⟩, hS.F ht⟩) hS.2.2 dX12_atom_89
            · skip
              obtain ⟨x26, x27, oa_x26, ob_x26, oa_x27, ob_x27, pt0_ra24, pt1_ra24, hP1, hK1, hD1⟩ := hB
              rw [ht] at hP1
              obtain ⟨hP2, hD2⟩ := va_join (wr := (wd_ad0642e8 h2 g1 fn21 h3 g2 fn22 h4 g3 fn23)) (w1 := (wd_f4cd022e h0 v0 h1 v1 x26 x27 4 h2 h3 h4 r0 r1 r2 r3 v3 v4 r4 r5 r6 r7 v5 r8 r9 v6 v7 r10 r11 v8 v9 r12 v10 v11 r13 v12 w13 r14 v14 v15 r15 r16 r17 r18 r19 r20 v16 r21 r22 r23 v17 h1 g0 f18)) hP hD [0, 1] [2, 3, 4] rfl rfl (by decide) (by decide) hk1 hFc hP1 hD1
              clear hP hD hPc hDc hKc hFc hP1 hK1 hD1 hk1 hz1
              generalize H1 = H at hP2 hS ⊢
              have hP := hP2.sub (ws' := (wd_d906eaf1 h0 v0 h1 v1 x26 x27 4 h2 h3 h4 r0 r1 r2 r3 v3 v4 r4 r5 r6 r7 v5 r8 r9 v6 v7 r10 r11 v8 v9 r12 v10 v11 r13 v12 w13 r14 v14 v15 r15 r16 r17 r18 r19 r20 v16 r21 r22 r23 v17 h1 g0 f18 h2 g1 fn21 h3 g2 fn22 h4 g3 fn23)) [3, 4, 0, 1, 2] rfl
              have hD := hD2.sub (ws' := (wd_d906eaf1 h0 v0 h1 v1 x26 x27 4 h2 h3 h4 r0 r1 r2 r3 v3 v4 r4 r5 r6 r7 v5 r8 r9 v6 v7 r10 r11 v8 v9 r12 v10 v11 r13 v12 w13 r14 v14 v15 r15 r16 r17 r18 r19 r20 v16 r21 r22 r23 v17 h1 g0 f18 h2 g1 fn21 h3 g2 fn22 h4 g3 fn23)) [3, 4, 0, 1, 2] (by decide) rfl
              clear hP2 hD2
              refine lv_goto (tgt := 89) hx hb dX12_atom_82 (by decide) ?_
              subst hQ
              have hP9 := hP.sub (ws' := (wd_d906eaf1 h0 v0 h1 v1 x26 x27 4 h2 h3 h4 r0 r1 r2 r3 v3 v4 r4 r5 r6 r7 v5 r8 r9 v6 v7 r10 r11 v8 v9 r12 v10 v11 r13 v12 w13 r14 v14 v15 r15 r16 r17 r18 r19 r20 v16 r21 r22 r23 v17 h1 g0 f18 h2 g1 fn21 h3 g2 fn22 h4 g3 fn23)) [0, 1, 2, 3, 4] rfl
              have hD9 := hD.sub (ws' := (wd_d906eaf1 h0 v0 h1 v1 x26 x27 4 h2 h3 h4 r0 r1 r2 r3 v3 v4 r4 r5 r6 r7 v5 r8 r9 v6 v7 r10 r11 v8 v9 r12 v10 v11 r13 v12 w13 r14 v14 v15 r15 r16 r17 r18 r19 r20 v16 r21 r22 r23 v17 h1 g0 f18 h2 g1 fn21 h3 g2 fn22 h4 g3 fn23)) [0, 1, 2, 3, 4] (by decide) rfl
              have hK9 := hK.sub (tys' := []) [] rfl
              exact W.vret hx hb hr (fun t ht hW => ⟨⟨(), rfl, trivial, Or.inr (⟨x26, x27, 4, fn21, fn22, fn23, by first | omega | decide, by first | omega | decide, oa_x27, ob_x27, by constructor <;> omega, by exact hgF, by show pg_atomF f18 v1.toInt true (pg_sum f18 v1.toInt 1) _ = _; first | (apply pg_atomF.num <;> first | assumption | omega) | (apply pg_atomF.par0 <;> first | assumption | omega) | (apply pg_atomF.par1 <;> first | assumption | omega) | (apply pg_atomF.deep <;> first | assumption | omega) | (apply pg_atomF.bad <;> first | assumption | omega), by rw [ht]; exact hP9, va_K.moved hW.alike hK9, hD9⟩)⟩, hS.F ht⟩) hS.2.2 dX12_atom_89
          · skip
            obtain ⟨x28, x29, x30, fn31, fn32, fn33, oa_x28, ob_x28, oa_x29, ob_x29, pt0_ra19, pt1_ra19, pt2_ra19, hP1, hK1, hD1⟩ := hB
            rw [ht] at hP1
            obtain ⟨hP2, hD2⟩ := va_join (wr := []) (w1 := (wd_d906eaf1 h0 v0 h1 v1 x28 x29 x30 h2 h3 h4 r0 r1 r2 r3 v3 v4 r4 r5 r6 r7 v5 r8 r9 v6 v7 r10 r11 v8 v9 r12 v10 v11 r13 v12 w13 r14 v14 v15 r15 r16 r17 r18 r19 r20 v16 r21 r22 r23 v17 h1 g0 f18 h2 g1 fn31 h3 g2 fn32 h4 g3 fn33)) hP hD [0, 1, 2, 3, 4] [] rfl rfl (by decide) (by decide) hk1 hFc hP1 hD1
            clear hP hD hPc hDc hKc hFc hP1 hK1 hD1 hk1 hz1
            generalize H1 = H at hP2 hS ⊢
            have hP : va_P (dC, dI) vwCl (wd_d906eaf1 h0 v0 h1 v1 x28 x29 x30 h2 h3 h4 r0 r1 r2 r3 v3 v4 r4 r5 r6 r7 v5 r8 r9 v6 v7 r10 r11 v8 v9 r12 v10 v11 r13 v12 w13 r14 v14 v15 r15 r16 r17 r18 r19 r20 v16 r21 r22 r23 v17 h1 g0 f18 h2 g1 fn31 h3 g2 fn32 h4 g3 fn33) H := hP2
            have hD : va_D A (wd_d906eaf1 h0 v0 h1 v1 x28 x29 x30 h2 h3 h4 r0 r1 r2 r3 v3 v4 r4 r5 r6 r7 v5 r8 r9 v6 v7 r10 r11 v8 v9 r12 v10 v11 r13 v12 w13 r14 v14 v15 r15 r16 r17 r18 r19 r20 v16 r21 r22 r23 v17 h1 g0 f18 h2 g1 fn31 h3 g2 fn32 h4 g3 fn33) := hD2
            clear hP2 hD2
            have hgF := hgF.app pt1_ra19
            have hxl := hgF.1
            refine lv_aload_n hx hb dX12_atom_76 rfl (lv_at hl 1 rfl) ?_
            refine lv_bipush (v := 93) hx hb dX12_atom_77 (by decide) ?_
            have hPc := hP.sub (ws' := (wd_171f232f h0 v0 h1 v1 x28 x29 x30 h2 h3 h4 r0 r1 r2 r3 v3 v4 r4 r5 r6 r7 v5 r8 r9 v6 v7 r10 r11 v8 v9 r12 v10 v11 r13 v12 w13 r14 v14 v15 r15 r16 r17 r18 r19 r20 v16 r21 r22 r23 v17)) [0] rfl
            have hDc := hD.sub (ws' := (wd_171f232f h0 v0 h1 v1 x28 x29 x30 h2 h3 h4 r0 r1 r2 r3 v3 v4 r4 r5 r6 r7 v5 r8 r9 v6 v7 r10 r11 v8 v9 r12 v10 v11 r13 v12 w13 r14 v14 v15 r15 r16 r17 r18 r19 r20 v16 r21 r22 r23 v17)) [0] (by decide) rfl
            have hKc := hK.sub (tys' := []) [] rfl
            have hFc := va_free (wc := (wd_171f232f h0 v0 h1 v1 x28 x29 x30 h2 h3 h4 r0 r1 r2 r3 v3 v4 r4 r5 r6 r7 v5 r8 r9 v6 v7 r10 r11 v8 v9 r12 v10 v11 r13 v12 w13 r14 v14 v15 r15 r16 r17 r18 r19 r20 v16 r21 r22 r23 v17)) hD hS hA [0] rfl
            refine va_callv (va_runV (As := [.int 93]) (rest := []) ⟨hx, hb, hml, hown, hts⟩ (k_X12_closes_1 l dC dI h0 v0 h1 v1 x28 x29 x30 h2 h3 h4 r0 r1 r2 r3 v3 v4 r4 r5 r6 r7 v5 r8 r9 v6 v7 r10 r11 v8 v9 r12 v10 v11 r13 v12 w13 r14 v14 v15 r15 r16 r17 r18 r19 r20 v16 r21 r22 r23 v17 ⟨i_v1a, i_v1b⟩ ⟨oa_x28, by first | omega | decide⟩ ⟨oa_x29, by first | omega | decide⟩ ⟨i_v3a, i_v3b⟩ ⟨i_v4a, i_v4b⟩ ⟨i_v5a, i_v5b⟩ ⟨i_v6a, i_v6b⟩ ⟨i_v7a, i_v7b⟩ ⟨i_v8a, i_v8b⟩ ⟨i_v12a, i_v12b⟩ ⟨i_v16a, i_v16b⟩ ⟨i_v17a, i_v17b⟩ H.size) (cwV 1 hts g_X12_atom_2_10 rfl rfl rfl (by decide +kernel) ⟨Nat.le_of_ble_eq_true rfl, Nat.le_of_ble_eq_true rfl⟩) (pv_PV12 hPc hKc hDc (q0 := 0) rfl) rfl rfl hl.1 rfl (lv_room (Nat.le_of_ble_eq_true rfl)) dX12_atom_79 ⟨Nat.le_of_ble_eq_true rfl, Nat.le_of_ble_eq_true rfl⟩) hS (fun q _ h => hFc q h) hFc (fun u t H1 locs ht hvm hwra34 hB hz1 hk1 hS => ?_)
            obtain ⟨x35, x36, oa_x35, ob_x35, pt0_ra34, hP1, hK1, hD1⟩ := hB
            rw [ht] at hP1
            obtain ⟨hP2, hD2⟩ := va_join (wr := (wd_bfe486e6 h1 g0 f18 h2 g1 fn31 h3 g2 fn32 h4 g3 fn33)) (w1 := (wd_171f232f h0 v0 h1 v1 x35 x29 x36 h2 h3 h4 r0 r1 r2 r3 v3 v4 r4 r5 r6 r7 v5 r8 r9 v6 v7 r10 r11 v8 v9 r12 v10 v11 r13 v12 w13 r14 v14 v15 r15 r16 r17 r18 r19 r20 v16 r21 r22 r23 v17)) hP hD [0] [1, 2, 3, 4] rfl rfl (by decide) (by decide) hk1 hFc hP1 hD1
            clear hP hD hPc hDc hKc hFc hP1 hK1 hD1 hk1 hz1
            generalize H1 = H at hP2 hS ⊢
            have hP := hP2.sub (ws' := (wd_d906eaf1 h0 v0 h1 v1 x35 x29 x36 h2 h3 h4 r0 r1 r2 r3 v3 v4 r4 r5 r6 r7 v5 r8 r9 v6 v7 r10 r11 v8 v9 r12 v10 v11 r13 v12 w13 r14 v14 v15 r15 r16 r17 r18 r19 r20 v16 r21 r22 r23 v17 h1 g0 f18 h2 g1 fn31 h3 g2 fn32 h4 g3 fn33)) [4, 0, 1, 2, 3] rfl
            have hD := hD2.sub (ws' := (wd_d906eaf1 h0 v0 h1 v1 x35 x29 x36 h2 h3 h4 r0 r1 r2 r3 v3 v4 r4 r5 r6 r7 v5 r8 r9 v6 v7 r10 r11 v8 v9 r12 v10 v11 r13 v12 w13 r14 v14 v15 r15 r16 r17 r18 r19 r20 v16 r21 r22 r23 v17 h1 g0 f18 h2 g1 fn31 h3 g2 fn32 h4 g3 fn33)) [4, 0, 1, 2, 3] (by decide) rfl
            clear hP2 hD2
            refine lv_goto (tgt := 89) hx hb dX12_atom_82 (by decide) ?_
            subst hQ
            have hP9 := hP.sub (ws' := (wd_d906eaf1 h0 v0 h1 v1 x35 x29 x36 h2 h3 h4 r0 r1 r2 r3 v3 v4 r4 r5 r6 r7 v5 r8 r9 v6 v7 r10 r11 v8 v9 r12 v10 v11 r13 v12 w13 r14 v14 v15 r15 r16 r17 r18 r19 r20 v16 r21 r22 r23 v17 h1 g0 f18 h2 g1 fn31 h3 g2 fn32 h4 g3 fn33)) [0, 1, 2, 3, 4] rfl
            have hD9 := hD.sub (ws' := (wd_d906eaf1 h0 v0 h1 v1 x35 x29 x36 h2 h3 h4 r0 r1 r2 r3 v3 v4 r4 r5 r6 r7 v5 r8 r9 v6 v7 r10 r11 v8 v9 r12 v10 v11 r13 v12 w13 r14 v14 v15 r15 r16 r17 r18 r19 r20 v16 r21 r22 r23 v17 h1 g0 f18 h2 g1 fn31 h3 g2 fn32 h4 g3 fn33)) [0, 1, 2, 3, 4] (by decide) rfl
            have hK9 := hK.sub (tys' := []) [] rfl
            exact W.vret hx hb hr (fun t ht hW => ⟨⟨(), rfl, trivial, Or.inr (⟨x35, x29, x36, fn31, fn32, fn33, by first | omega | decide, by first | omega | decide, oa_x29, ob_x29, by constructor <;> omega, by exact hgF, by show pg_atomF f18 v1.toInt true (pg_sum f18 v1.toInt 1) _ = _; first | (apply pg_atomF.num <;> first | assumption | omega) | (apply pg_atomF.par0 <;> first | assumption | omega) | (apply pg_atomF.par1 <;> first | assumption | omega) | (apply pg_atomF.deep <;> first | assumption | omega) | (apply pg_atomF.bad <;> first | assumption | omega), by rw [ht]; exact hP9, va_K.moved hW.alike hK9, hD9⟩)⟩, hS.F ht⟩) hS.2.2 dX12_atom_89
      · skip
        have fc13 : ¬ (ra12.toInt = (-1)) := fun h9 => c13 (Int32.toInt_inj.mp h9)
        refine lv_aload_n hx hb dX12_atom_32 rfl (lv_at hl 1 rfl) ?_
        refine lv_dup hx hb dX12_atom_33 rfl ?_
        refine va_get (D := (dC, dI)) (ci := 12) (v := .int x9) (C := RX12) (T := TX12) (N := 48) hx hb hts (fun _ h => List.mem_cons_of_mem _ (List.mem_append_right _ h)) hown hK hP 0 rfl rfl 3 (by decide) (hts (.fieldLink RX12 112 "LeftArgumentsModel" "at" "I") (List.mem_cons_of_mem _ (List.mem_append_left _ (List.mem_of_getElem? (i := 2) rfl)))) (fun _ h9 => h9) rfl dX12_atom_34 ?_
        refine lv_iconst (v := 1) hx hb dX12_atom_37 (by decide) ?_
        refine lv_iadd hx hb dX12_atom_38 ?_
        refine lv_topi (fun t37 et37 => ?_)
        have gt37 : t37.toInt = x9.toInt + 1 := pv_add (a := x9.toInt) (b := 1) et37 rfl (by decide) (by omega) (by omega)
        refine va_put (D := (dC, dI)) (ci := 12) (v := .int t37) (ty := .int) (C := RX12) (T := TX12) (N := 48) hx hb hts (fun _ h => List.mem_cons_of_mem _ (List.mem_append_right _ h)) tyX12 tyX12_ok nmX12 hown hK hP hD hS 0 rfl rfl 3 (by decide) (hts (.fieldLink RX12 112 "LeftArgumentsModel" "at" "I") (List.mem_cons_of_mem _ (List.mem_append_left _ (List.mem_of_getElem? (i := 2) rfl)))) (fun _ h9 => h9) rfl (by decide +kernel) rfl rfl (Nat.le_of_ble_eq_true rfl) dX12_atom_39 (fun H locs hP hD hS => ?_)
        have hP : va_P (dC, dI) vwCl (wd_d906eaf1 h0 v0 h1 v1 t37 (-1) 4 h2 h3 h4 r0 r1 r2 r3 v3 v4 r4 r5 r6 r7 v5 r8 r9 v6 v7 r10 r11 v8 v9 r12 v10 v11 r13 v12 w13 r14 v14 v15 r15 r16 r17 r18 r19 r20 v16 r21 r22 r23 v17 h1 g0 f18 h2 g1 f19 h3 g2 f20 h4 g3 f21) H := hP
        have hD : va_D A (wd_d906eaf1 h0 v0 h1 v1 t37 (-1) 4 h2 h3 h4 r0 r1 r2 r3 v3 v4 r4 r5 r6 r7 v5 r8 r9 v6 v7 r10 r11 v8 v9 r12 v10 v11 r13 v12 w13 r14 v14 v15 r15 r16 r17 r18 r19 r20 v16 r21 r22 r23 v17 h1 g0 f18 h2 g1 f19 h3 g2 f20 h4 g3 f21) := hD
        refine lv_aload_n hx hb dX12_atom_42 rfl (lv_at hl 1 rfl) ?_
        refine lv_iconst (v := 1) hx hb dX12_atom_43 (by decide) ?_
        refine lv_iload_n hx hb dX12_atom_44 rfl (lv_at hl 0 rfl) ?_
        have hPc := hP.sub (ws' := []) [] rfl
        have hDc := hD.sub (ws' := []) [] (by decide) rfl
        have hKc := hK.sub (tys' := []) [] rfl
        have hFc := va_free (wc := []) hD hS hA [] rfl
        refine va_calli (va_runS (As := [.int ra1]) (rest := [.int 1, .ref h0]) ⟨hx, hb, hml, hown, hts⟩ (k_X12_letterOf l dC dI ra1  H.size) (va_cwS 1 hts g_X12_atom_2_2 rfl rfl rfl (by decide +kernel) ⟨Nat.le_of_ble_eq_true rfl, Nat.le_of_ble_eq_true rfl⟩) (pv_PS hPc hKc hDc) rfl rfl hl.1 rfl (lv_room (Nat.le_of_ble_eq_true rfl)) dX12_atom_45 ⟨Nat.le_of_ble_eq_true rfl, Nat.le_of_ble_eq_true rfl⟩) hS (fun q _ h => hFc q h) hFc (fun ra38 u t H1 locs ht hvm hwra38 hB hz1 hk1 hS => ?_)
        try rw [hwra38] at hB
        obtain ⟨pt0_ra38, pt1_ra38, pt2_ra38, pt3_ra38, hP1, hK1, hD1⟩ := hB
        rw [ht] at hP1
        obtain ⟨hP2, hD2⟩ := va_join (wr := (wd_d906eaf1 h0 v0 h1 v1 t37 (-1) 4 h2 h3 h4 r0 r1 r2 r3 v3 v4 r4 r5 r6 r7 v5 r8 r9 v6 v7 r10 r11 v8 v9 r12 v10 v11 r13 v12 w13 r14 v14 v15 r15 r16 r17 r18 r19 r20 v16 r21 r22 r23 v17 h1 g0 f18 h2 g1 f19 h3 g2 f20 h4 g3 f21)) (w1 := []) hP hD [] [0, 1, 2, 3, 4] rfl rfl (by decide) (by decide) hk1 hFc hP1 hD1
        clear hP hD hPc hDc hKc hFc hP1 hK1 hD1 hk1 hz1
        generalize H1 = H at hP2 hS ⊢
        have hP : va_P (dC, dI) vwCl (wd_d906eaf1 h0 v0 h1 v1 t37 (-1) 4 h2 h3 h4 r0 r1 r2 r3 v3 v4 r4 r5 r6 r7 v5 r8 r9 v6 v7 r10 r11 v8 v9 r12 v10 v11 r13 v12 w13 r14 v14 v15 r15 r16 r17 r18 r19 r20 v16 r21 r22 r23 v17 h1 g0 f18 h2 g1 f19 h3 g2 f20 h4 g3 f21) H := hP2
        have hD : va_D A (wd_d906eaf1 h0 v0 h1 v1 t37 (-1) 4 h2 h3 h4 r0 r1 r2 r3 v3 v4 r4 r5 r6 r7 v5 r8 r9 v6 v7 r10 r11 v8 v9 r12 v10 v11 r13 v12 w13 r14 v14 v15 r15 r16 r17 r18 r19 r20 v16 r21 r22 r23 v17 h1 g0 f18 h2 g1 f19 h3 g2 f20 h4 g3 f21) := hD2
        clear hP2 hD2
        have hPc := hP.sub (ws' := (wd_c62683a8 h0 v0 h1 v1 t37 (-1) 4 h2 h3 h4 r0 r1 r2 r3 v3 v4 r4 r5 r6 r7 v5 r8 r9 v6 v7 r10 r11 v8 v9 r12 v10 v11 r13 v12 w13 r14 v14 v15 r15 r16 r17 r18 r19 r20 v16 r21 r22 r23 v17 h2 g1 f19 h3 g2 f20 h4 g3 f21)) [0, 2, 3, 4] rfl
        have hDc := hD.sub (ws' := (wd_c62683a8 h0 v0 h1 v1 t37 (-1) 4 h2 h3 h4 r0 r1 r2 r3 v3 v4 r4 r5 r6 r7 v5 r8 r9 v6 v7 r10 r11 v8 v9 r12 v10 v11 r13 v12 w13 r14 v14 v15 r15 r16 r17 r18 r19 r20 v16 r21 r22 r23 v17 h2 g1 f19 h3 g2 f20 h4 g3 f21)) [0, 2, 3, 4] (by decide) rfl
        have hKc := hK.sub (tys' := [(g1, .int), (g2, .int), (g3, .int)]) [1, 2, 3] rfl
        have hFc := va_free (wc := (wd_c62683a8 h0 v0 h1 v1 t37 (-1) 4 h2 h3 h4 r0 r1 r2 r3 v3 v4 r4 r5 r6 r7 v5 r8 r9 v6 v7 r10 r11 v8 v9 r12 v10 v11 r13 v12 w13 r14 v14 v15 r15 r16 r17 r18 r19 r20 v16 r21 r22 r23 v17 h2 g1 f19 h3 g2 f20 h4 g3 f21)) hD hS hA [0, 2, 3, 4] rfl
        refine va_callv (va_runV (As := [.int 1, .int ra38]) (rest := []) ⟨hx, hb, hml, hown, hts⟩ (k_X12_put l dC dI h0 h2 h3 h4 v0 h1 v1 t37 ((-1)) 4 r0 r1 r2 r3 v3 v4 r4 r5 r6 r7 v5 r8 r9 v6 v7 r10 r11 v8 v9 r12 v10 v11 r13 v12 w13 r14 v14 v15 r15 r16 r17 r18 r19 r20 v16 r21 r22 r23 v17 g1 f19 g2 f20 g3 f21 1 ra38 ⟨i_v1a, i_v1b⟩ ⟨i_v3a, i_v3b⟩ ⟨i_v4a, i_v4b⟩ ⟨i_v5a, i_v5b⟩ ⟨i_v6a, i_v6b⟩ ⟨i_v7a, i_v7b⟩ ⟨i_v8a, i_v8b⟩ ⟨i_v12a, i_v12b⟩ ⟨i_v16a, i_v16b⟩ ⟨i_v17a, i_v17b⟩ (by constructor <;> omega) H.size) (cwV 2 hts g_X12_atom_2_12 rfl rfl rfl (by decide +kernel) ⟨Nat.le_of_ble_eq_true rfl, Nat.le_of_ble_eq_true rfl⟩) (pv_PV12 hPc hKc hDc (q0 := 0) rfl) rfl rfl hl.1 rfl (lv_room (Nat.le_of_ble_eq_true rfl)) dX12_atom_48 ⟨Nat.le_of_ble_eq_true rfl, Nat.le_of_ble_eq_true rfl⟩) hS (fun q _ h => hFc q h) hFc (fun u t H1 locs ht hvm hwra39 hB hz1 hk1 hS => ?_)
        have hkra39_0 : (((-1) : Int32)).toInt = -1 := by decide
        have hkra39_1 : ((1 : Int32)).toInt = 1 := by decide
        have hkra39_2 : ((4 : Int32)).toInt = 4 := by decide
        obtain ⟨fn40, fn41, fn42, pt0_ra39, hP1, hK1, hD1⟩ := hB
        rw [ht] at hP1
        obtain ⟨hP2, hD2⟩ := va_join (wr := (wd_d0032b31 h1 g0 f18)) (w1 := (wd_c62683a8 h0 v0 h1 v1 t37 (-1) 4 h2 h3 h4 r0 r1 r2 r3 v3 v4 r4 r5 r6 r7 v5 r8 r9 v6 v7 r10 r11 v8 v9 r12 v10 v11 r13 v12 w13 r14 v14 v15 r15 r16 r17 r18 r19 r20 v16 r21 r22 r23 v17 h2 g1 fn40 h3 g2 fn41 h4 g3 fn42)) hP hD [0, 2, 3, 4] [1] rfl rfl (by decide) (by decide) hk1 hFc hP1 hD1
        clear hP hD hPc hDc hKc hFc hP1 hK1 hD1 hk1 hz1
        generalize H1 = H at hP2 hS ⊢
        have hP := hP2.sub (ws' := (wd_d906eaf1 h0 v0 h1 v1 t37 (-1) 4 h2 h3 h4 r0 r1 r2 r3 v3 v4 r4 r5 r6 r7 v5 r8 r9 v6 v7 r10 r11 v8 v9 r12 v10 v11 r13 v12 w13 r14 v14 v15 r15 r16 r17 r18 r19 r20 v16 r21 r22 r23 v17 h1 g0 f18 h2 g1 fn40 h3 g2 fn41 h4 g3 fn42)) [1, 0, 2, 3, 4] rfl
        have hD := hD2.sub (ws' := (wd_d906eaf1 h0 v0 h1 v1 t37 (-1) 4 h2 h3 h4 r0 r1 r2 r3 v3 v4 r4 r5 r6 r7 v5 r8 r9 v6 v7 r10 r11 v8 v9 r12 v10 v11 r13 v12 w13 r14 v14 v15 r15 r16 r17 r18 r19 r20 v16 r21 r22 r23 v17 h1 g0 f18 h2 g1 fn40 h3 g2 fn41 h4 g3 fn42)) [1, 0, 2, 3, 4] (by decide) rfl
        clear hP2 hD2
        have hgR := hgR.let (k' := 1) (D := 1) pt0_ra39 (by decide) (by omega) (by omega) (by decide) (by decide) (by decide) (by decide)
        have hgF := hgR.1
        have hxl := hgF.1
        have hxs := pt0_ra39.step
        refine lv_goto (tgt := 89) hx hb dX12_atom_51 (by decide) ?_
        subst hQ
        have hP9 := hP.sub (ws' := (wd_d906eaf1 h0 v0 h1 v1 t37 (-1) 4 h2 h3 h4 r0 r1 r2 r3 v3 v4 r4 r5 r6 r7 v5 r8 r9 v6 v7 r10 r11 v8 v9 r12 v10 v11 r13 v12 w13 r14 v14 v15 r15 r16 r17 r18 r19 r20 v16 r21 r22 r23 v17 h1 g0 f18 h2 g1 fn40 h3 g2 fn41 h4 g3 fn42)) [0, 1, 2, 3, 4] rfl
        have hD9 := hD.sub (ws' := (wd_d906eaf1 h0 v0 h1 v1 t37 (-1) 4 h2 h3 h4 r0 r1 r2 r3 v3 v4 r4 r5 r6 r7 v5 r8 r9 v6 v7 r10 r11 v8 v9 r12 v10 v11 r13 v12 w13 r14 v14 v15 r15 r16 r17 r18 r19 r20 v16 r21 r22 r23 v17 h1 g0 f18 h2 g1 fn40 h3 g2 fn41 h4 g3 fn42)) [0, 1, 2, 3, 4] (by decide) rfl
        have hK9 := hK.sub (tys' := []) [] rfl
        exact W.vret hx hb hr (fun t ht hW => ⟨⟨(), rfl, trivial, Or.inl ⟨t37, fn40, fn41, fn42, by first | omega | decide, by first | omega | decide, by constructor <;> omega, by exact hgR.mono (by decide), by show pg_atomF f18 v1.toInt true (pg_sum f18 v1.toInt 1) _ = _; first | (apply pg_atomF.num <;> first | assumption | omega) | (apply pg_atomF.lt <;> first | assumption | omega) | (apply pg_atomF.par1 <;> first | assumption | omega), by rw [ht]; exact hP9, va_K.moved hW.alike hK9, hD9⟩⟩, hS.F ht⟩) hS.2.2 dX12_atom_89
    · skip
      have fc11 : ¬ (ra10.toInt = 0) := fun h9 => c11 (Int32.toInt_inj.mp h9)
      refine lv_aload_n hx hb dX12_atom_12 rfl (lv_at hl 1 rfl) ?_
      refine lv_iconst (v := 0) hx hb dX12_atom_13 (by decide) ?_
      refine lv_aload_n hx hb dX12_atom_14 rfl (lv_at hl 1 rfl) ?_
      have hPc := hP.sub (ws' := (wd_f4cd022e h0 v0 h1 v1 x9 (-1) 4 h2 h3 h4 r0 r1 r2 r3 v3 v4 r4 r5 r6 r7 v5 r8 r9 v6 v7 r10 r11 v8 v9 r12 v10 v11 r13 v12 w13 r14 v14 v15 r15 r16 r17 r18 r19 r20 v16 r21 r22 r23 v17 h1 g0 f18)) [0, 1] rfl
      have hDc := hD.sub (ws' := (wd_f4cd022e h0 v0 h1 v1 x9 (-1) 4 h2 h3 h4 r0 r1 r2 r3 v3 v4 r4 r5 r6 r7 v5 r8 r9 v6 v7 r10 r11 v8 v9 r12 v10 v11 r13 v12 w13 r14 v14 v15 r15 r16 r17 r18 r19 r20 v16 r21 r22 r23 v17 h1 g0 f18)) [0, 1] (by decide) rfl
      have hKc := hK.sub (tys' := [(g0, .int)]) [0] rfl
      have hFc := va_free (wc := (wd_f4cd022e h0 v0 h1 v1 x9 (-1) 4 h2 h3 h4 r0 r1 r2 r3 v3 v4 r4 r5 r6 r7 v5 r8 r9 v6 v7 r10 r11 v8 v9 r12 v10 v11 r13 v12 w13 r14 v14 v15 r15 r16 r17 r18 r19 r20 v16 r21 r22 r23 v17 h1 g0 f18)) hD hS hA [0, 1] rfl
      refine va_calli (va_runV (As := []) (rest := [.int 0, .ref h0]) ⟨hx, hb, hml, hown, hts⟩ (k_X12_plainNumber l dC dI h0 h1 v0 v1 x9 4 h2 h3 h4 r0 r1 r2 r3 v3 v4 r4 r5 r6 r7 v5 r8 r9 v6 v7 r10 r11 v8 v9 r12 v10 v11 r13 v12 w13 r14 v14 v15 r15 r16 r17 r18 r19 r20 v16 r21 r22 r23 v17 g0 f18 ⟨i_v1a, i_v1b⟩ ⟨oa_x9, by first | omega | decide⟩ ⟨i_v3a, i_v3b⟩ ⟨i_v4a, i_v4b⟩ ⟨i_v5a, i_v5b⟩ ⟨i_v6a, i_v6b⟩ ⟨i_v7a, i_v7b⟩ ⟨i_v8a, i_v8b⟩ ⟨i_v12a, i_v12b⟩ ⟨i_v16a, i_v16b⟩ ⟨i_v17a, i_v17b⟩ ia_f18 (by apply pm_dig.mk <;> omega) H.size) (cwV 0 hts g_X12_atom_2_13 rfl rfl rfl (by decide +kernel) ⟨Nat.le_of_ble_eq_true rfl, Nat.le_of_ble_eq_true rfl⟩) (pv_PV12 hPc hKc hDc (q0 := 0) rfl) rfl rfl hl.1 rfl (lv_room (Nat.le_of_ble_eq_true rfl)) dX12_atom_15 ⟨Nat.le_of_ble_eq_true rfl, Nat.le_of_ble_eq_true rfl⟩) hS (fun q _ h => hFc q h) hFc (fun ra43 u t H1 locs ht hvm hwra43 hB hz1 hk1 hS => ?_)
      try rw [hwra43] at hB
      have hkra43_0 : ((4 : Int32)).toInt = 4 := by decide
      rcases hB with hB | hB
      · skip
        obtain ⟨x44, oa_x44, ob_x44, pt0_ra43, pt1_ra43, pt2_ra43, pt3_ra43, hP1, hK1, hD1⟩ := hB
        rw [ht] at hP1
        obtain ⟨hP2, hD2⟩ := va_join (wr := (wd_ad0642e8 h2 g1 f19 h3 g2 f20 h4 g3 f21)) (w1 := (wd_f4cd022e h0 v0 h1 v1 x44 (-1) 4 h2 h3 h4 r0 r1 r2 r3 v3 v4 r4 r5 r6 r7 v5 r8 r9 v6 v7 r10 r11 v8 v9 r12 v10 v11 r13 v12 w13 r14 v14 v15 r15 r16 r17 r18 r19 r20 v16 r21 r22 r23 v17 h1 g0 f18)) hP hD [0, 1] [2, 3, 4] rfl rfl (by decide) (by decide) hk1 hFc hP1 hD1
        clear hP hD hPc hDc hKc hFc hP1 hK1 hD1 hk1 hz1
        generalize H1 = H at hP2 hS ⊢
        have hP := hP2.sub (ws' := (wd_d906eaf1 h0 v0 h1 v1 x44 (-1) 4 h2 h3 h4 r0 r1 r2 r3 v3 v4 r4 r5 r6 r7 v5 r8 r9 v6 v7 r10 r11 v8 v9 r12 v10 v11 r13 v12 w13 r14 v14 v15 r15 r16 r17 r18 r19 r20 v16 r21 r22 r23 v17 h1 g0 f18 h2 g1 f19 h3 g2 f20 h4 g3 f21)) [3, 4, 0, 1, 2] rfl
        have hD := hD2.sub (ws' := (wd_d906eaf1 h0 v0 h1 v1 x44 (-1) 4 h2 h3 h4 r0 r1 r2 r3 v3 v4 r4 r5 r6 r7 v5 r8 r9 v6 v7 r10 r11 v8 v9 r12 v10 v11 r13 v12 w13 r14 v14 v15 r15 r16 r17 r18 r19 r20 v16 r21 r22 r23 v17 h1 g0 f18 h2 g1 f19 h3 g2 f20 h4 g3 f21)) [3, 4, 0, 1, 2] (by decide) rfl
        clear hP2 hD2
        have hPc := hP.sub (ws' := (wd_c62683a8 h0 v0 h1 v1 x44 (-1) 4 h2 h3 h4 r0 r1 r2 r3 v3 v4 r4 r5 r6 r7 v5 r8 r9 v6 v7 r10 r11 v8 v9 r12 v10 v11 r13 v12 w13 r14 v14 v15 r15 r16 r17 r18 r19 r20 v16 r21 r22 r23 v17 h2 g1 f19 h3 g2 f20 h4 g3 f21)) [0, 2, 3, 4] rfl
        have hDc := hD.sub (ws' := (wd_c62683a8 h0 v0 h1 v1 x44 (-1) 4 h2 h3 h4 r0 r1 r2 r3 v3 v4 r4 r5 r6 r7 v5 r8 r9 v6 v7 r10 r11 v8 v9 r12 v10 v11 r13 v12 w13 r14 v14 v15 r15 r16 r17 r18 r19 r20 v16 r21 r22 r23 v17 h2 g1 f19 h3 g2 f20 h4 g3 f21)) [0, 2, 3, 4] (by decide) rfl
        have hKc := hK.sub (tys' := [(g1, .int), (g2, .int), (g3, .int)]) [1, 2, 3] rfl
        have hFc := va_free (wc := (wd_c62683a8 h0 v0 h1 v1 x44 (-1) 4 h2 h3 h4 r0 r1 r2 r3 v3 v4 r4 r5 r6 r7 v5 r8 r9 v6 v7 r10 r11 v8 v9 r12 v10 v11 r13 v12 w13 r14 v14 v15 r15 r16 r17 r18 r19 r20 v16 r21 r22 r23 v17 h2 g1 f19 h3 g2 f20 h4 g3 f21)) hD hS hA [0, 2, 3, 4] rfl
        refine va_callv (va_runV (As := [.int 0, .int ra43]) (rest := []) ⟨hx, hb, hml, hown, hts⟩ (k_X12_put l dC dI h0 h2 h3 h4 v0 h1 v1 x44 ((-1)) 4 r0 r1 r2 r3 v3 v4 r4 r5 r6 r7 v5 r8 r9 v6 v7 r10 r11 v8 v9 r12 v10 v11 r13 v12 w13 r14 v14 v15 r15 r16 r17 r18 r19 r20 v16 r21 r22 r23 v17 g1 f19 g2 f20 g3 f21 0 ra43 ⟨i_v1a, i_v1b⟩ ⟨i_v3a, i_v3b⟩ ⟨i_v4a, i_v4b⟩ ⟨i_v5a, i_v5b⟩ ⟨i_v6a, i_v6b⟩ ⟨i_v7a, i_v7b⟩ ⟨i_v8a, i_v8b⟩ ⟨i_v12a, i_v12b⟩ ⟨i_v16a, i_v16b⟩ ⟨i_v17a, i_v17b⟩ (by constructor <;> omega) H.size) (cwV 2 hts g_X12_atom_2_12 rfl rfl rfl (by decide +kernel) ⟨Nat.le_of_ble_eq_true rfl, Nat.le_of_ble_eq_true rfl⟩) (pv_PV12 hPc hKc hDc (q0 := 0) rfl) rfl rfl hl.1 rfl (lv_room (Nat.le_of_ble_eq_true rfl)) dX12_atom_18 ⟨Nat.le_of_ble_eq_true rfl, Nat.le_of_ble_eq_true rfl⟩) hS (fun q _ h => hFc q h) hFc (fun u t H1 locs ht hvm hwra45 hB hz1 hk1 hS => ?_)
        have hkra45_0 : (((-1) : Int32)).toInt = -1 := by decide
        have hkra45_1 : ((0 : Int32)).toInt = 0 := by decide
        have hkra45_2 : ((4 : Int32)).toInt = 4 := by decide
        obtain ⟨fn46, fn47, fn48, pt0_ra45, hP1, hK1, hD1⟩ := hB
        rw [ht] at hP1
        obtain ⟨hP2, hD2⟩ := va_join (wr := (wd_d0032b31 h1 g0 f18)) (w1 := (wd_c62683a8 h0 v0 h1 v1 x44 (-1) 4 h2 h3 h4 r0 r1 r2 r3 v3 v4 r4 r5 r6 r7 v5 r8 r9 v6 v7 r10 r11 v8 v9 r12 v10 v11 r13 v12 w13 r14 v14 v15 r15 r16 r17 r18 r19 r20 v16 r21 r22 r23 v17 h2 g1 fn46 h3 g2 fn47 h4 g3 fn48)) hP hD [0, 2, 3, 4] [1] rfl rfl (by decide) (by decide) hk1 hFc hP1 hD1
        clear hP hD hPc hDc hKc hFc hP1 hK1 hD1 hk1 hz1
        generalize H1 = H at hP2 hS ⊢
        have hP := hP2.sub (ws' := (wd_d906eaf1 h0 v0 h1 v1 x44 (-1) 4 h2 h3 h4 r0 r1 r2 r3 v3 v4 r4 r5 r6 r7 v5 r8 r9 v6 v7 r10 r11 v8 v9 r12 v10 v11 r13 v12 w13 r14 v14 v15 r15 r16 r17 r18 r19 r20 v16 r21 r22 r23 v17 h1 g0 f18 h2 g1 fn46 h3 g2 fn47 h4 g3 fn48)) [1, 0, 2, 3, 4] rfl
        have hD := hD2.sub (ws' := (wd_d906eaf1 h0 v0 h1 v1 x44 (-1) 4 h2 h3 h4 r0 r1 r2 r3 v3 v4 r4 r5 r6 r7 v5 r8 r9 v6 v7 r10 r11 v8 v9 r12 v10 v11 r13 v12 w13 r14 v14 v15 r15 r16 r17 r18 r19 r20 v16 r21 r22 r23 v17 h1 g0 f18 h2 g1 fn46 h3 g2 fn47 h4 g3 fn48)) [1, 0, 2, 3, 4] (by decide) rfl
        clear hP2 hD2
        have hgR := hgR.lit (k' := 1) (D := 1) pt0_ra45 (by decide) (by decide) (by decide) (by decide) (by decide)
        have hgF := hgR.1
        have hxl := hgF.1
        have hxs := pt0_ra45.step
        refine lv_goto (tgt := 89) hx hb dX12_atom_21 (by decide) ?_
        subst hQ
        have hP9 := hP.sub (ws' := (wd_d906eaf1 h0 v0 h1 v1 x44 (-1) 4 h2 h3 h4 r0 r1 r2 r3 v3 v4 r4 r5 r6 r7 v5 r8 r9 v6 v7 r10 r11 v8 v9 r12 v10 v11 r13 v12 w13 r14 v14 v15 r15 r16 r17 r18 r19 r20 v16 r21 r22 r23 v17 h1 g0 f18 h2 g1 fn46 h3 g2 fn47 h4 g3 fn48)) [0, 1, 2, 3, 4] rfl
        have hD9 := hD.sub (ws' := (wd_d906eaf1 h0 v0 h1 v1 x44 (-1) 4 h2 h3 h4 r0 r1 r2 r3 v3 v4 r4 r5 r6 r7 v5 r8 r9 v6 v7 r10 r11 v8 v9 r12 v10 v11 r13 v12 w13 r14 v14 v15 r15 r16 r17 r18 r19 r20 v16 r21 r22 r23 v17 h1 g0 f18 h2 g1 fn46 h3 g2 fn47 h4 g3 fn48)) [0, 1, 2, 3, 4] (by decide) rfl
        have hK9 := hK.sub (tys' := []) [] rfl
        exact W.vret hx hb hr (fun t ht hW => ⟨⟨(), rfl, trivial, Or.inl ⟨x44, fn46, fn47, fn48, oa_x44, ob_x44, by constructor <;> omega, by exact hgR.mono (by decide), by show pg_atomF f18 v1.toInt true (pg_sum f18 v1.toInt 1) _ = _; first | (apply pg_atomF.num <;> first | assumption | omega) | (apply pg_atomF.lt <;> first | assumption | omega) | (apply pg_atomF.par1 <;> first | assumption | omega), by rw [ht]; exact hP9, va_K.moved hW.alike hK9, hD9⟩⟩, hS.F ht⟩) hS.2.2 dX12_atom_89
      · skip
        obtain ⟨x49, x50, oa_x49, ob_x49, oa_x50, ob_x50, pt0_ra43, pt1_ra43, pt2_ra43, pt3_ra43, hP1, hK1, hD1⟩ := hB
        rw [ht] at hP1
        obtain ⟨hP2, hD2⟩ := va_join (wr := (wd_ad0642e8 h2 g1 f19 h3 g2 f20 h4 g3 f21)) (w1 := (wd_f4cd022e h0 v0 h1 v1 x49 x50 4 h2 h3 h4 r0 r1 r2 r3 v3 v4 r4 r5 r6 r7 v5 r8 r9 v6 v7 r10 r11 v8 v9 r12 v10 v11 r13 v12 w13 r14 v14 v15 r15 r16 r17 r18 r19 r20 v16 r21 r22 r23 v17 h1 g0 f18)) hP hD [0, 1] [2, 3, 4] rfl rfl (by decide) (by decide) hk1 hFc hP1 hD1
        clear hP hD hPc hDc hKc hFc hP1 hK1 hD1 hk1 hz1
        generalize H1 = H at hP2 hS ⊢
        have hP := hP2.sub (ws' := (wd_d906eaf1 h0 v0 h1 v1 x49 x50 4 h2 h3 h4 r0 r1 r2 r3 v3 v4 r4 r5 r6 r7 v5 r8 r9 v6 v7 r10 r11 v8 v9 r12 v10 v11 r13 v12 w13 r14 v14 v15 r15 r16 r17 r18 r19 r20 v16 r21 r22 r23 v17 h1 g0 f18 h2 g1 f19 h3 g2 f20 h4 g3 f21)) [3, 4, 0, 1, 2] rfl
        have hD := hD2.sub (ws' := (wd_d906eaf1 h0 v0 h1 v1 x49 x50 4 h2 h3 h4 r0 r1 r2 r3 v3 v4 r4 r5 r6 r7 v5 r8 r9 v6 v7 r10 r11 v8 v9 r12 v10 v11 r13 v12 w13 r14 v14 v15 r15 r16 r17 r18 r19 r20 v16 r21 r22 r23 v17 h1 g0 f18 h2 g1 f19 h3 g2 f20 h4 g3 f21)) [3, 4, 0, 1, 2] (by decide) rfl
        clear hP2 hD2
        have hPc := hP.sub (ws' := (wd_c62683a8 h0 v0 h1 v1 x49 x50 4 h2 h3 h4 r0 r1 r2 r3 v3 v4 r4 r5 r6 r7 v5 r8 r9 v6 v7 r10 r11 v8 v9 r12 v10 v11 r13 v12 w13 r14 v14 v15 r15 r16 r17 r18 r19 r20 v16 r21 r22 r23 v17 h2 g1 f19 h3 g2 f20 h4 g3 f21)) [0, 2, 3, 4] rfl
        have hDc := hD.sub (ws' := (wd_c62683a8 h0 v0 h1 v1 x49 x50 4 h2 h3 h4 r0 r1 r2 r3 v3 v4 r4 r5 r6 r7 v5 r8 r9 v6 v7 r10 r11 v8 v9 r12 v10 v11 r13 v12 w13 r14 v14 v15 r15 r16 r17 r18 r19 r20 v16 r21 r22 r23 v17 h2 g1 f19 h3 g2 f20 h4 g3 f21)) [0, 2, 3, 4] (by decide) rfl
        have hKc := hK.sub (tys' := [(g1, .int), (g2, .int), (g3, .int)]) [1, 2, 3] rfl
        have hFc := va_free (wc := (wd_c62683a8 h0 v0 h1 v1 x49 x50 4 h2 h3 h4 r0 r1 r2 r3 v3 v4 r4 r5 r6 r7 v5 r8 r9 v6 v7 r10 r11 v8 v9 r12 v10 v11 r13 v12 w13 r14 v14 v15 r15 r16 r17 r18 r19 r20 v16 r21 r22 r23 v17 h2 g1 f19 h3 g2 f20 h4 g3 f21)) hD hS hA [0, 2, 3, 4] rfl
        refine va_callv (va_runV (As := [.int 0, .int ra43]) (rest := []) ⟨hx, hb, hml, hown, hts⟩ (k_X12_put l dC dI h0 h2 h3 h4 v0 h1 v1 x49 x50 4 r0 r1 r2 r3 v3 v4 r4 r5 r6 r7 v5 r8 r9 v6 v7 r10 r11 v8 v9 r12 v10 v11 r13 v12 w13 r14 v14 v15 r15 r16 r17 r18 r19 r20 v16 r21 r22 r23 v17 g1 f19 g2 f20 g3 f21 0 ra43 ⟨i_v1a, i_v1b⟩ ⟨i_v3a, i_v3b⟩ ⟨i_v4a, i_v4b⟩ ⟨i_v5a, i_v5b⟩ ⟨i_v6a, i_v6b⟩ ⟨i_v7a, i_v7b⟩ ⟨i_v8a, i_v8b⟩ ⟨i_v12a, i_v12b⟩ ⟨i_v16a, i_v16b⟩ ⟨i_v17a, i_v17b⟩ (by constructor <;> omega) H.size) (cwV 2 hts g_X12_atom_2_12 rfl rfl rfl (by decide +kernel) ⟨Nat.le_of_ble_eq_true rfl, Nat.le_of_ble_eq_true rfl⟩) (pv_PV12 hPc hKc hDc (q0 := 0) rfl) rfl rfl hl.1 rfl (lv_room (Nat.le_of_ble_eq_true rfl)) dX12_atom_18 ⟨Nat.le_of_ble_eq_true rfl, Nat.le_of_ble_eq_true rfl⟩) hS (fun q _ h => hFc q h) hFc (fun u t H1 locs ht hvm hwra51 hB hz1 hk1 hS => ?_)
        have hkra51_0 : ((0 : Int32)).toInt = 0 := by decide
        have hkra51_1 : ((4 : Int32)).toInt = 4 := by decide
        obtain ⟨fn52, fn53, fn54, pt0_ra51, hP1, hK1, hD1⟩ := hB
        rw [ht] at hP1
        obtain ⟨hP2, hD2⟩ := va_join (wr := (wd_d0032b31 h1 g0 f18)) (w1 := (wd_c62683a8 h0 v0 h1 v1 x49 x50 4 h2 h3 h4 r0 r1 r2 r3 v3 v4 r4 r5 r6 r7 v5 r8 r9 v6 v7 r10 r11 v8 v9 r12 v10 v11 r13 v12 w13 r14 v14 v15 r15 r16 r17 r18 r19 r20 v16 r21 r22 r23 v17 h2 g1 fn52 h3 g2 fn53 h4 g3 fn54)) hP hD [0, 2, 3, 4] [1] rfl rfl (by decide) (by decide) hk1 hFc hP1 hD1
        clear hP hD hPc hDc hKc hFc hP1 hK1 hD1 hk1 hz1
        generalize H1 = H at hP2 hS ⊢
        have hP := hP2.sub (ws' := (wd_d906eaf1 h0 v0 h1 v1 x49 x50 4 h2 h3 h4 r0 r1 r2 r3 v3 v4 r4 r5 r6 r7 v5 r8 r9 v6 v7 r10 r11 v8 v9 r12 v10 v11 r13 v12 w13 r14 v14 v15 r15 r16 r17 r18 r19 r20 v16 r21 r22 r23 v17 h1 g0 f18 h2 g1 fn52 h3 g2 fn53 h4 g3 fn54)) [1, 0, 2, 3, 4] rfl
        have hD := hD2.sub (ws' := (wd_d906eaf1 h0 v0 h1 v1 x49 x50 4 h2 h3 h4 r0 r1 r2 r3 v3 v4 r4 r5 r6 r7 v5 r8 r9 v6 v7 r10 r11 v8 v9 r12 v10 v11 r13 v12 w13 r14 v14 v15 r15 r16 r17 r18 r19 r20 v16 r21 r22 r23 v17 h1 g0 f18 h2 g1 fn52 h3 g2 fn53 h4 g3 fn54)) [1, 0, 2, 3, 4] (by decide) rfl
        clear hP2 hD2
        have hgF := hgF.put pt0_ra51
        have hxl := hgF.1
        have hxs := pt0_ra51.step
        refine lv_goto (tgt := 89) hx hb dX12_atom_21 (by decide) ?_
        subst hQ
        have hP9 := hP.sub (ws' := (wd_d906eaf1 h0 v0 h1 v1 x49 x50 4 h2 h3 h4 r0 r1 r2 r3 v3 v4 r4 r5 r6 r7 v5 r8 r9 v6 v7 r10 r11 v8 v9 r12 v10 v11 r13 v12 w13 r14 v14 v15 r15 r16 r17 r18 r19 r20 v16 r21 r22 r23 v17 h1 g0 f18 h2 g1 fn52 h3 g2 fn53 h4 g3 fn54)) [0, 1, 2, 3, 4] rfl
        have hD9 := hD.sub (ws' := (wd_d906eaf1 h0 v0 h1 v1 x49 x50 4 h2 h3 h4 r0 r1 r2 r3 v3 v4 r4 r5 r6 r7 v5 r8 r9 v6 v7 r10 r11 v8 v9 r12 v10 v11 r13 v12 w13 r14 v14 v15 r15 r16 r17 r18 r19 r20 v16 r21 r22 r23 v17 h1 g0 f18 h2 g1 fn52 h3 g2 fn53 h4 g3 fn54)) [0, 1, 2, 3, 4] (by decide) rfl
        have hK9 := hK.sub (tys' := []) [] rfl
        exact W.vret hx hb hr (fun t ht hW => ⟨⟨(), rfl, trivial, Or.inr (⟨x49, x50, 4, fn52, fn53, fn54, oa_x49, by first | omega | decide, oa_x50, ob_x50, by constructor <;> omega, by exact hgF, by show pg_atomF f18 v1.toInt true (pg_sum f18 v1.toInt 1) _ = _; first | (apply pg_atomF.num <;> first | assumption | omega) | (apply pg_atomF.par0 <;> first | assumption | omega) | (apply pg_atomF.par1 <;> first | assumption | omega) | (apply pg_atomF.deep <;> first | assumption | omega) | (apply pg_atomF.bad <;> first | assumption | omega), by rw [ht]; exact hP9, va_K.moved hW.alike hK9, hD9⟩)⟩, hS.F ht⟩) hS.2.2 dX12_atom_89
def q_X12_term_2 : List Cond := .code yX12_term cX12_term 2 none :: (([.code yX12_atom cX12_atom 2 none, .code yX12_look cX12_look 1 (some .int), .code yX12_here cX12_here 1 (some .int), .fieldLink RX12 112 "LeftArgumentsModel" "at" "I", .fieldLink RX12 109 "LeftArgumentsModel" "size" "I", .fieldLink RX12 9 "LeftArgumentsModel" "tape" "[I", .initialized RX12, .instanceMethod yX12_here, .selects RX12 yX12_here yX12_here, .methodLink RX12 115 yX12_here, .instanceMethod yX12_look, .selects RX12 yX12_look yX12_look, .methodLink RX12 131 yX12_look, .code yX12_isDigit cX12_isDigit 1 (some .boolean), .static yX12_isDigit, .methodLink RX12 134 yX12_isDigit, .code yX12_letterOf cX12_letterOf 1 (some .int), .static yX12_letterOf, .methodLink RX12 145 yX12_letterOf, .code yX12_bad cX12_bad 1 none, .fieldLink RX12 119 "LeftArgumentsModel" "wrong" "I", .instanceMethod yX12_bad, .selects RX12 yX12_bad yX12_bad, .methodLink RX12 128 yX12_bad, .code yX12_opens cX12_opens 1 none, .fieldLink RX12 125 "LeftArgumentsModel" "deep" "I", .instanceMethod yX12_opens, .selects RX12 yX12_opens yX12_opens, .methodLink RX12 149 yX12_opens, .code yX12_sum cX12_sum 2 none, .code yX12_term cX12_term 2 none, .code yX12_put cX12_put 3 none, .fieldLink RX12 13 "LeftArgumentsModel" "code" "[I", .fieldLink RX12 122 "LeftArgumentsModel" "text" "I", .fieldLink RX12 19 "LeftArgumentsModel" "codes" "[I", .fieldLink RX12 16 "LeftArgumentsModel" "value" "[I", .instanceMethod yX12_put, .selects RX12 yX12_put yX12_put, .methodLink RX12 141 yX12_put, .code yX12_plainNumber cX12_plainNumber 3 (some .int), .instanceMethod yX12_plainNumber, .selects RX12 yX12_plainNumber yX12_plainNumber, .methodLink RX12 138 yX12_plainNumber, .instanceMethod yX12_atom, .selects RX12 yX12_atom yX12_atom, .methodLink RX12 159 yX12_atom, .instanceMethod yX12_term, .selects RX12 yX12_term yX12_term, .methodLink RX12 162 yX12_term, .instanceMethod yX12_sum, .selects RX12 yX12_sum yX12_sum, .methodLink RX12 152 yX12_sum, .code yX12_closes cX12_closes 2 none, .instanceMethod yX12_closes, .selects RX12 yX12_closes yX12_closes, .methodLink RX12 155 yX12_closes] : List Cond) ++ wsX120)
set_option maxRecDepth 20000 in
theorem g_X12_term_2_0 : GoodIn q_X12_term_2 (wsV RX12 159 RX12 yX12_atom q_X12_atom_2) := goodIn_app (goodIn_r _ [46, 44, 45, 7] rfl (by decide +kernel)) (goodIn_ca (goodIn_r (.code yX12_atom cX12_atom 2 none :: [.code yX12_look cX12_look 1 (some .int), .code yX12_here cX12_here 1 (some .int), .fieldLink RX12 112 "LeftArgumentsModel" "at" "I", .fieldLink RX12 109 "LeftArgumentsModel" "size" "I", .fieldLink RX12 9 "LeftArgumentsModel" "tape" "[I", .initialized RX12, .instanceMethod yX12_here, .selects RX12 yX12_here yX12_here, .methodLink RX12 115 yX12_here, .instanceMethod yX12_look, .selects RX12 yX12_look yX12_look, .methodLink RX12 131 yX12_look, .code yX12_isDigit cX12_isDigit 1 (some .boolean), .static yX12_isDigit, .methodLink RX12 134 yX12_isDigit, .code yX12_letterOf cX12_letterOf 1 (some .int), .static yX12_letterOf, .methodLink RX12 145 yX12_letterOf, .code yX12_bad cX12_bad 1 none, .fieldLink RX12 119 "LeftArgumentsModel" "wrong" "I", .instanceMethod yX12_bad, .selects RX12 yX12_bad yX12_bad, .methodLink RX12 128 yX12_bad, .code yX12_opens cX12_opens 1 none, .fieldLink RX12 125 "LeftArgumentsModel" "deep" "I", .instanceMethod yX12_opens, .selects RX12 yX12_opens yX12_opens, .methodLink RX12 149 yX12_opens, .code yX12_sum cX12_sum 2 none, .code yX12_term cX12_term 2 none, .code yX12_atom cX12_atom 2 none, .code yX12_put cX12_put 3 none, .fieldLink RX12 13 "LeftArgumentsModel" "code" "[I", .fieldLink RX12 122 "LeftArgumentsModel" "text" "I", .fieldLink RX12 19 "LeftArgumentsModel" "codes" "[I", .fieldLink RX12 16 "LeftArgumentsModel" "value" "[I", .instanceMethod yX12_put, .selects RX12 yX12_put yX12_put, .methodLink RX12 141 yX12_put, .code yX12_plainNumber cX12_plainNumber 3 (some .int), .instanceMethod yX12_plainNumber, .selects RX12 yX12_plainNumber yX12_plainNumber, .methodLink RX12 138 yX12_plainNumber, .instanceMethod yX12_atom, .selects RX12 yX12_atom yX12_atom, .methodLink RX12 159 yX12_atom, .instanceMethod yX12_term, .selects RX12 yX12_term yX12_term, .methodLink RX12 162 yX12_term, .instanceMethod yX12_sum, .selects RX12 yX12_sum yX12_sum, .methodLink RX12 152 yX12_sum, .code yX12_closes cX12_closes 2 none, .instanceMethod yX12_closes, .selects RX12 yX12_closes yX12_closes, .methodLink RX12 155 yX12_closes]) [1, 2, 3, 4, 5, 6, 7, 8, 9, 10, 11, 12, 13, 14, 15, 16, 17, 18, 19, 20, 21, 22, 23, 24, 25, 26, 27, 28, 29, 30, 31, 1, 32, 33, 34, 35, 36, 37, 38, 39, 40, 41, 42, 43, 44, 45, 46, 47, 48, 49, 50, 51, 52, 53, 54, 55, 56] rfl (by decide +kernel)) (goodIn_sub (fun _ h => List.mem_cons_of_mem _ (List.mem_append_right _ h)) gwX12))
set_option maxRecDepth 20000 in
theorem g_X12_term_2_1 : GoodIn q_X12_term_2 (wsV RX12 131 RX12 yX12_look q_X12_look) := goodIn_app (goodIn_r _ [13, 11, 12, 7] rfl (by decide +kernel)) (goodIn_ca (goodIn_r (.code yX12_look cX12_look 1 (some .int) :: [.code yX12_here cX12_here 1 (some .int), .fieldLink RX12 112 "LeftArgumentsModel" "at" "I", .fieldLink RX12 109 "LeftArgumentsModel" "size" "I", .fieldLink RX12 9 "LeftArgumentsModel" "tape" "[I", .initialized RX12, .instanceMethod yX12_here, .selects RX12 yX12_here yX12_here, .methodLink RX12 115 yX12_here]) [2, 3, 4, 5, 6, 7, 8, 9, 10] rfl (by decide +kernel)) (goodIn_sub (fun _ h => List.mem_cons_of_mem _ (List.mem_append_right _ h)) gwX12))
set_option maxRecDepth 20000 in
theorem g_X12_term_2_3 : GoodIn q_X12_term_2 (wsV RX12 141 RX12 yX12_put q_X12_put) := goodIn_app (goodIn_r _ [39, 37, 38, 7] rfl (by decide +kernel)) (goodIn_ca (goodIn_r (.code yX12_put cX12_put 3 none :: [.fieldLink RX12 13 "LeftArgumentsModel" "code" "[I", .fieldLink RX12 122 "LeftArgumentsModel" "text" "I", .fieldLink RX12 19 "LeftArgumentsModel" "codes" "[I", .fieldLink RX12 16 "LeftArgumentsModel" "value" "[I"]) [32, 33, 34, 35, 36] rfl (by decide +kernel)) (goodIn_sub (fun _ h => List.mem_cons_of_mem _ (List.mem_append_right _ h)) gwX12))
set_option maxHeartbeats 4000000 in
set_option maxRecDepth 100000 in
theorem k_X12_term_2 (l : Launch) (dC : Nat → ClassId) (dI : Nat → Nat → Nat) (h0 : Nat) (h1 : Nat) (h2 : Nat) (h3 : Nat) (h4 : Nat) (v0 : Int32) (v1 : Int32) (v2 : Int32) (r0 : Nat) (r1 : Nat) (r2 : Nat) (r3 : Nat) (v3 : Int32) (v4 : Int32) (r4 : Nat) (r5 : Nat) (r6 : Nat) (r7 : Nat) (v5 : Int32) (r8 : Nat) (r9 : Nat) (v6 : Int32) (v7 : Int32) (r10 : Nat) (r11 : Nat) (v8 : Int32) (v9 : Int32) (r12 : Nat) (v10 : Int32) (v11 : Int32) (r13 : Nat) (v12 : Int32) (w13 : Int64) (r14 : Nat) (v14 : Int32) (v15 : Int32) (r15 : Nat) (r16 : Nat) (r17 : Nat) (r18 : Nat) (r19 : Nat) (r20 : Nat) (v16 : Int32) (r21 : Nat) (r22 : Nat) (r23 : Nat) (v17 : Int32) (g0 : ClassId) (f18 : Nat → Int32) (g1 : ClassId) (f19 : Nat → Int32) (g2 : ClassId) (f20 : Nat → Int32) (g3 : ClassId) (f21 : Nat → Int32) (i_v1 : 0 ≤ v1.toInt ∧ v1.toInt ≤ 240) (i_v2 : 0 ≤ v2.toInt ∧ v2.toInt ≤ 240) (i_v3 : 0 ≤ v3.toInt ∧ v3.toInt ≤ 4) (i_v4 : 0 ≤ v4.toInt ∧ v4.toInt ≤ 4) (i_v5 : 0 ≤ v5.toInt ∧ v5.toInt ≤ 8) (i_v6 : 0 ≤ v6.toInt ∧ v6.toInt ≤ 8) (i_v7 : 0 ≤ v7.toInt ∧ v7.toInt ≤ 1) (i_v8 : -1 ≤ v8.toInt ∧ v8.toInt ≤ 3) (i_v12 : 0 ≤ v12.toInt ∧ v12.toInt ≤ 40) (i_v16 : 0 ≤ v16.toInt ∧ v16.toInt ≤ 10) (i_v17 : 0 ≤ v17.toInt ∧ v17.toInt ≤ 1) (ia_f18 : (∀ j, 0 ≤ (f18 j).toInt ∧ (f18 j).toInt ≤ 255)) (pp0 : 0 ≤ pm_x f21 v4 ∧ pm_x f21 v4 ≤ v2.toInt) (sz : Nat) : Met l yX12_term q_X12_term_2 ({ frames := 9, cells := 0, slots := 0, locals := 189 }) (va_Pc [.ref h0] (fun U => U.heap.size = sz ∧ va_P (dC, dI) vwCl (wd_d906eaf1 h0 v0 h1 v1 v2 (-1) 4 h2 h3 h4 r0 r1 r2 r3 v3 v4 r4 r5 r6 r7 v5 r8 r9 v6 v7 r10 r11 v8 v9 r12 v10 v11 r13 v12 w13 r14 v14 v15 r15 r16 r17 r18 r19 r20 v16 r21 r22 r23 v17 h1 g0 f18 h2 g1 f19 h3 g2 f20 h4 g3 f21) U.heap ∧ va_K (dC, dI) vwCl [(g0, .int), (g1, .int), (g2, .int), (g3, .int)] U ∧ va_D (fun _ => True) (wd_d906eaf1 h0 v0 h1 v1 v2 (-1) 4 h2 h3 h4 r0 r1 r2 r3 v3 v4 r4 r5 r6 r7 v5 r8 r9 v6 v7 r10 r11 v8 v9 r12 v10 v11 r13 v12 w13 r14 v14 v15 r15 r16 r17 r18 r19 r20 v16 r21 r22 r23 v17 h1 g0 f18 h2 g1 f19 h3 g2 f20 h4 g3 f21))) (va_Qv (fun (_ : Unit) => True) (fun (_ : Unit) (t : State) => (∃ (o_h0_3 : Int32) (o_h2 : Nat → Int32) (o_h3 : Nat → Int32) (o_h4 : Nat → Int32), 0 ≤ o_h0_3.toInt ∧ o_h0_3.toInt ≤ 240 ∧ (pm_x o_h4 v4 - pm_x f21 v4 ≤ o_h0_3.toInt - v2.toInt ∧ v2.toInt ≤ o_h0_3.toInt) ∧ (pm_R v4 0 1 6 f19 f20 f21 o_h2 o_h3 o_h4) ∧ (pg_term f18 v1.toInt 2 v2.toInt = (true, o_h0_3.toInt)) ∧ va_P (dC, dI) vwCl (wd_d906eaf1 h0 v0 h1 v1 o_h0_3 (-1) 4 h2 h3 h4 r0 r1 r2 r3 v3 v4 r4 r5 r6 r7 v5 r8 r9 v6 v7 r10 r11 v8 v9 r12 v10 v11 r13 v12 w13 r14 v14 v15 r15 r16 r17 r18 r19 r20 v16 r21 r22 r23 v17 h1 g0 f18 h2 g1 o_h2 h3 g2 o_h3 h4 g3 o_h4) t.heap ∧ va_K (dC, dI) vwCl [] t ∧ va_D (va_A (wd_d906eaf1 h0 v0 h1 v1 v2 (-1) 4 h2 h3 h4 r0 r1 r2 r3 v3 v4 r4 r5 r6 r7 v5 r8 r9 v6 v7 r10 r11 v8 v9 r12 v10 v11 r13 v12 w13 r14 v14 v15 r15 r16 r17 r18 r19 r20 v16 r21 r22 r23 v17 h1 g0 f18 h2 g1 f19 h3 g2 f20 h4 g3 f21) sz) (wd_d906eaf1 h0 v0 h1 v1 o_h0_3 (-1) 4 h2 h3 h4 r0 r1 r2 r3 v3 v4 r4 r5 r6 r7 v5 r8 r9 v6 v7 r10 r11 v8 v9 r12 v10 v11 r13 v12 w13 r14 v14 v15 r15 r16 r17 r18 r19 r20 v16 r21 r22 r23 v17 h1 g0 f18 h2 g1 o_h2 h3 g2 o_h3 h4 g3 o_h4)) ∨ (∃ (o_h0_3 : Int32) (o_h0_4 : Int32) (o_h0_5 : Int32) (o_h2 : Nat → Int32) (o_h3 : Nat → Int32) (o_h4 : Nat → Int32), 0 ≤ o_h0_3.toInt ∧ o_h0_3.toInt ≤ 242 ∧ 0 ≤ o_h0_4.toInt ∧ o_h0_4.toInt ≤ 240 ∧ (pm_x o_h4 v4 - pm_x f21 v4 ≤ o_h0_3.toInt - v2.toInt ∧ v2.toInt ≤ o_h0_3.toInt) ∧ (pm_F v4 f19 f20 f21 o_h2 o_h3 o_h4) ∧ (pg_term f18 v1.toInt 2 v2.toInt = (false, o_h0_4.toInt)) ∧ va_P (dC, dI) vwCl (wd_d906eaf1 h0 v0 h1 v1 o_h0_3 o_h0_4 o_h0_5 h2 h3 h4 r0 r1 r2 r3 v3 v4 r4 r5 r6 r7 v5 r8 r9 v6 v7 r10 r11 v8 v9 r12 v10 v11 r13 v12 w13 r14 v14 v15 r15 r16 r17 r18 r19 r20 v16 r21 r22 r23 v17 h1 g0 f18 h2 g1 o_h2 h3 g2 o_h3 h4 g3 o_h4) t.heap ∧ va_K (dC, dI) vwCl [] t ∧ va_D (va_A (wd_d906eaf1 h0 v0 h1 v1 v2 (-1) 4 h2 h3 h4 r0 r1 r2 r3 v3 v4 r4 r5 r6 r7 v5 r8 r9 v6 v7 r10 r11 v8 v9 r12 v10 v11 r13 v12 w13 r14 v14 v15 r15 r16 r17 r18 r19 r20 v16 r21 r22 r23 v17 h1 g0 f18 h2 g1 f19 h3 g2 f20 h4 g3 f21) sz) (wd_d906eaf1 h0 v0 h1 v1 o_h0_3 o_h0_4 o_h0_5 h2 h3 h4 r0 r1 r2 r3 v3 v4 r4 r5 r6 r7 v5 r8 r9 v6 v7 r10 r11 v8 v9 r12 v10 v11 r13 v12 w13 r14 v14 v15 r15 r16 r17 r18 r19 r20 v16 r21 r22 r23 v17 h1 g0 f18 h2 g1 o_h2 h3 g2 o_h3 h4 g3 o_h4))) (va_A (wd_d906eaf1 h0 v0 h1 v1 v2 (-1) 4 h2 h3 h4 r0 r1 r2 r3 v3 v4 r4 r5 r6 r7 v5 r8 r9 v6 v7 r10 r11 v8 v9 r12 v10 v11 r13 v12 w13 r14 v14 v15 r15 r16 r17 r18 r19 r20 v16 r21 r22 r23 v17 h1 g0 f18 h2 g1 f19 h3 g2 f20 h4 g3 f21) sz)) 0 0 (va_A (wd_d906eaf1 h0 v0 h1 v1 v2 (-1) 4 h2 h3 h4 r0 r1 r2 r3 v3 v4 r4 r5 r6 r7 v5 r8 r9 v6 v7 r10 r11 v8 v9 r12 v10 v11 r13 v12 w13 r14 v14 v15 r15 r16 r17 r18 r19 r20 v16 r21 r22 r23 v17 h1 g0 f18 h2 g1 f19 h3 g2 f20 h4 g3 f21) sz) := by
  refine Met.ofW (cc := cX12_term) (maxL := 2) (ret := none) (by decide) rfl ?_
  intro p e s m args below meth c s₁ B hml hv
  obtain ⟨i_v1a, i_v1b⟩ := i_v1
  obtain ⟨i_v2a, i_v2b⟩ := i_v2
  obtain ⟨i_v3a, i_v3b⟩ := i_v3
  obtain ⟨i_v4a, i_v4b⟩ := i_v4
  obtain ⟨i_v5a, i_v5b⟩ := i_v5
  obtain ⟨i_v6a, i_v6b⟩ := i_v6
  obtain ⟨i_v7a, i_v7b⟩ := i_v7
  obtain ⟨i_v8a, i_v8b⟩ := i_v8
  obtain ⟨i_v12a, i_v12b⟩ := i_v12
  obtain ⟨i_v16a, i_v16b⟩ := i_v16
  obtain ⟨i_v17a, i_v17b⟩ := i_v17
  obtain ⟨rfl, hsz, hP, hK, hD0⟩ := hv
  have hx := B.exec
  have hb := B.bytes
  have hr := B.returns
  have hts := atoms_spec (ws := q_X12_term_2) B.pre
  have hown : s.vm.findClass RX12 = some m.cls := findClass_of_methodNamed B.named
  have hlocks := B.notSynchronized
  subst hsz
  have hD := hD0.self (sz := s.heap.size)
  generalize hAe : va_A (wd_d906eaf1 h0 v0 h1 v1 v2 (-1) 4 h2 h3 h4 r0 r1 r2 r3 v3 v4 r4 r5 r6 r7 v5 r8 r9 v6 v7 r10 r11 v8 v9 r12 v10 v11 r13 v12 w13 r14 v14 v15 r15 r16 r17 r18 r19 r20 v16 r21 r22 r23 v17 h1 g0 f18 h2 g1 f19 h3 g2 f20 h4 g3 f21) s.heap.size = A at hD ⊢
  have hA : ∀ q : Nat, s.heap.size ≤ q → A q := fun q h => by rw [← hAe]; exact Or.inr h
  have hS : va_S A s.heap s.heap [] := va_S.rf
  generalize hQ : (MQ below _ _ s 0 0 A) = Q
  have hl := lv_entry ([.ref h0]) (n := 2) (Nat.le_of_ble_eq_true rfl)
  rw [lg_entry_eq]
  generalize (lg_sl ([.ref h0]) ++ List.replicate (2 - (lg_sl ([.ref h0])).length) Slot.unset).toArray = ls at hl ⊢
  have hl : lv_has ls 2 [(0, .ref h0)] := hl
  obtain ⟨H, hH⟩ : ∃ H : Heap, H = s.heap := ⟨_, rfl⟩
  obtain ⟨locs, hlocs⟩ : ∃ y : List Loc, y = [] := ⟨_, rfl⟩
  have hS : va_S A s.heap H locs := by rw [hH, hlocs]; exact va_S.rf
  have hP : va_P (dC, dI) vwCl (wd_d906eaf1 h0 v0 h1 v1 v2 (-1) 4 h2 h3 h4 r0 r1 r2 r3 v3 v4 r4 r5 r6 r7 v5 r8 r9 v6 v7 r10 r11 v8 v9 r12 v10 v11 r13 v12 w13 r14 v14 v15 r15 r16 r17 r18 r19 r20 v16 r21 r22 r23 v17 h1 g0 f18 h2 g1 f19 h3 g2 f20 h4 g3 f21) H := by rw [hH]; exact hP
  rw [← hH, ← hlocs]
  have px1 := pp0.1; have px2 := pp0.2
  have hgR := pm_R.refl (L := 0) v4 f19 f20 f21 px1
  have hgF := hgR.1
  refine lv_aload_n hx hb dX12_term_0 rfl (lv_at hl 0 rfl) ?_
  have hPc := hP.sub (ws' := (wd_d906eaf1 h0 v0 h1 v1 v2 (-1) 4 h2 h3 h4 r0 r1 r2 r3 v3 v4 r4 r5 r6 r7 v5 r8 r9 v6 v7 r10 r11 v8 v9 r12 v10 v11 r13 v12 w13 r14 v14 v15 r15 r16 r17 r18 r19 r20 v16 r21 r22 r23 v17 h1 g0 f18 h2 g1 f19 h3 g2 f20 h4 g3 f21)) [0, 1, 2, 3, 4] rfl
  have hDc := hD.sub (ws' := (wd_d906eaf1 h0 v0 h1 v1 v2 (-1) 4 h2 h3 h4 r0 r1 r2 r3 v3 v4 r4 r5 r6 r7 v5 r8 r9 v6 v7 r10 r11 v8 v9 r12 v10 v11 r13 v12 w13 r14 v14 v15 r15 r16 r17 r18 r19 r20 v16 r21 r22 r23 v17 h1 g0 f18 h2 g1 f19 h3 g2 f20 h4 g3 f21)) [0, 1, 2, 3, 4] (by decide) rfl
  have hKc := hK.sub (tys' := [(g0, .int), (g1, .int), (g2, .int), (g3, .int)]) [0, 1, 2, 3] rfl
  have hFc := va_free (wc := (wd_d906eaf1 h0 v0 h1 v1 v2 (-1) 4 h2 h3 h4 r0 r1 r2 r3 v3 v4 r4 r5 r6 r7 v5 r8 r9 v6 v7 r10 r11 v8 v9 r12 v10 v11 r13 v12 w13 r14 v14 v15 r15 r16 r17 r18 r19 r20 v16 r21 r22 r23 v17 h1 g0 f18 h2 g1 f19 h3 g2 f20 h4 g3 f21)) hD hS hA [0, 1, 2, 3, 4] rfl
  refine va_callv (va_runV (As := []) (rest := []) ⟨hx, hb, hml, hown, hts⟩ (k_X12_atom_2 l dC dI h0 h1 h2 h3 h4 v0 v1 v2 r0 r1 r2 r3 v3 v4 r4 r5 r6 r7 v5 r8 r9 v6 v7 r10 r11 v8 v9 r12 v10 v11 r13 v12 w13 r14 v14 v15 r15 r16 r17 r18 r19 r20 v16 r21 r22 r23 v17 g0 f18 g1 f19 g2 f20 g3 f21 ⟨i_v1a, i_v1b⟩ ⟨i_v2a, i_v2b⟩ ⟨i_v3a, i_v3b⟩ ⟨i_v4a, i_v4b⟩ ⟨i_v5a, i_v5b⟩ ⟨i_v6a, i_v6b⟩ ⟨i_v7a, i_v7b⟩ ⟨i_v8a, i_v8b⟩ ⟨i_v12a, i_v12b⟩ ⟨i_v16a, i_v16b⟩ ⟨i_v17a, i_v17b⟩ ia_f18 pp0 H.size) (cwV 0 hts g_X12_term_2_0 rfl rfl rfl (by decide +kernel) ⟨Nat.le_of_ble_eq_true rfl, Nat.le_of_ble_eq_true rfl⟩) (pv_PV12 hPc hKc hDc (q0 := 0) rfl) rfl rfl hl.1 rfl (lv_room (Nat.le_of_ble_eq_true rfl)) dX12_term_1 ⟨Nat.le_of_ble_eq_true rfl, Nat.le_of_ble_eq_true rfl⟩) hS (fun q _ h => hFc q h) hFc (fun u t H1 locs ht hvm hwra1 hB hz1 hk1 hS => ?_)
  rcases hB with hB | hB
  · skip
    obtain ⟨x2, fn3, fn4, fn5, oa_x2, ob_x2, pt0_ra1, pt1_ra1, pt2_ra1, hP1, hK1, hD1⟩ := hB
    rw [ht] at hP1
    obtain ⟨hP2, hD2⟩ := va_join (wr := []) (w1 := (wd_d906eaf1 h0 v0 h1 v1 x2 (-1) 4 h2 h3 h4 r0 r1 r2 r3 v3 v4 r4 r5 r6 r7 v5 r8 r9 v6 v7 r10 r11 v8 v9 r12 v10 v11 r13 v12 w13 r14 v14 v15 r15 r16 r17 r18 r19 r20 v16 r21 r22 r23 v17 h1 g0 f18 h2 g1 fn3 h3 g2 fn4 h4 g3 fn5)) hP hD [0, 1, 2, 3, 4] [] rfl rfl (by decide) (by decide) hk1 hFc hP1 hD1
    clear hP hD hPc hDc hKc hFc hP1 hK1 hD1 hk1 hz1
    generalize H1 = H at hP2 hS ⊢
    have hP : va_P (dC, dI) vwCl (wd_d906eaf1 h0 v0 h1 v1 x2 (-1) 4 h2 h3 h4 r0 r1 r2 r3 v3 v4 r4 r5 r6 r7 v5 r8 r9 v6 v7 r10 r11 v8 v9 r12 v10 v11 r13 v12 w13 r14 v14 v15 r15 r16 r17 r18 r19 r20 v16 r21 r22 r23 v17 h1 g0 f18 h2 g1 fn3 h3 g2 fn4 h4 g3 fn5) H := hP2
    have hD : va_D A (wd_d906eaf1 h0 v0 h1 v1 x2 (-1) 4 h2 h3 h4 r0 r1 r2 r3 v3 v4 r4 r5 r6 r7 v5 r8 r9 v6 v7 r10 r11 v8 v9 r12 v10 v11 r13 v12 w13 r14 v14 v15 r15 r16 r17 r18 r19 r20 v16 r21 r22 r23 v17 h1 g0 f18 h2 g1 fn3 h3 g2 fn4 h4 g3 fn5) := hD2
    clear hP2 hD2
    have hgR := hgR.app (k' := 1) (D := 5) pt1_ra1 (by decide) (by decide) (by decide) (by decide)
    have hgF := hgR.1
    have hxl := hgF.1
    refine lv_aload_n hx hb dX12_term_4 rfl (lv_at hl 0 rfl) ?_
    refine va_get (D := (dC, dI)) (ci := 12) (v := .int (-1)) (C := RX12) (T := TX12) (N := 48) hx hb hts (fun _ h => List.mem_cons_of_mem _ (List.mem_append_right _ h)) hown hK hP 0 rfl rfl 4 (by decide) (hts (.fieldLink RX12 119 "LeftArgumentsModel" "wrong" "I") (List.mem_cons_of_mem _ (List.mem_append_left _ (List.mem_of_getElem? (i := 20) rfl)))) (fun _ h9 => h9) rfl dX12_term_5 ?_
    refine lv_iconst (v := (-1)) hx hb dX12_term_8 (by decide) ?_
    refine lv_icmp_ne (tgt := 19) hx hb dX12_term_9 (by decide) (fun c => absurd (by decide) c) (fun _ => ?_)
    refine lv_aload_n hx hb dX12_term_12 rfl (lv_at hl 0 rfl) ?_
    have hPc := hP.sub (ws' := (wd_f4cd022e h0 v0 h1 v1 x2 (-1) 4 h2 h3 h4 r0 r1 r2 r3 v3 v4 r4 r5 r6 r7 v5 r8 r9 v6 v7 r10 r11 v8 v9 r12 v10 v11 r13 v12 w13 r14 v14 v15 r15 r16 r17 r18 r19 r20 v16 r21 r22 r23 v17 h1 g0 f18)) [0, 1] rfl
    have hDc := hD.sub (ws' := (wd_f4cd022e h0 v0 h1 v1 x2 (-1) 4 h2 h3 h4 r0 r1 r2 r3 v3 v4 r4 r5 r6 r7 v5 r8 r9 v6 v7 r10 r11 v8 v9 r12 v10 v11 r13 v12 w13 r14 v14 v15 r15 r16 r17 r18 r19 r20 v16 r21 r22 r23 v17 h1 g0 f18)) [0, 1] (by decide) rfl
    have hKc := hK.sub (tys' := [(g0, .int)]) [0] rfl
    have hFc := va_free (wc := (wd_f4cd022e h0 v0 h1 v1 x2 (-1) 4 h2 h3 h4 r0 r1 r2 r3 v3 v4 r4 r5 r6 r7 v5 r8 r9 v6 v7 r10 r11 v8 v9 r12 v10 v11 r13 v12 w13 r14 v14 v15 r15 r16 r17 r18 r19 r20 v16 r21 r22 r23 v17 h1 g0 f18)) hD hS hA [0, 1] rfl
    refine va_calli (va_runV (As := []) (rest := []) ⟨hx, hb, hml, hown, hts⟩ (k_X12_look l dC dI h0 h1 v0 v1 x2 ((-1)) 4 h2 h3 h4 r0 r1 r2 r3 v3 v4 r4 r5 r6 r7 v5 r8 r9 v6 v7 r10 r11 v8 v9 r12 v10 v11 r13 v12 w13 r14 v14 v15 r15 r16 r17 r18 r19 r20 v16 r21 r22 r23 v17 g0 f18 ⟨i_v1a, i_v1b⟩ ⟨oa_x2, ob_x2⟩ ⟨i_v3a, i_v3b⟩ ⟨i_v4a, i_v4b⟩ ⟨i_v5a, i_v5b⟩ ⟨i_v6a, i_v6b⟩ ⟨i_v7a, i_v7b⟩ ⟨i_v8a, i_v8b⟩ ⟨i_v12a, i_v12b⟩ ⟨i_v16a, i_v16b⟩ ⟨i_v17a, i_v17b⟩ ia_f18 H.size) (cwV 0 hts g_X12_term_2_1 rfl rfl rfl (by decide +kernel) ⟨Nat.le_of_ble_eq_true rfl, Nat.le_of_ble_eq_true rfl⟩) (pv_PV12 hPc hKc hDc (q0 := 0) rfl) rfl rfl hl.1 rfl (lv_room (Nat.le_of_ble_eq_true rfl)) dX12_term_13 ⟨Nat.le_of_ble_eq_true rfl, Nat.le_of_ble_eq_true rfl⟩) hS (fun q _ h => hFc q h) hFc (fun ra6 u t H1 locs ht hvm hwra6 hB hz1 hk1 hS => ?_)
    try rw [hwra6] at hB
    have hkra6_0 : (((-1) : Int32)).toInt = -1 := by decide
    have hkra6_1 : ((4 : Int32)).toInt = 4 := by decide
    rcases hB with hB | hB
    · skip
      obtain ⟨x7, oa_x7, ob_x7, pt0_ra6, pt1_ra6, pt2_ra6, pt3_ra6, pt4_ra6, pt5_ra6, pt6_ra6, hP1, hK1, hD1⟩ := hB
      rw [ht] at hP1
      obtain ⟨hP2, hD2⟩ := va_join (wr := (wd_ad0642e8 h2 g1 fn3 h3 g2 fn4 h4 g3 fn5)) (w1 := (wd_f4cd022e h0 v0 h1 v1 x7 (-1) 4 h2 h3 h4 r0 r1 r2 r3 v3 v4 r4 r5 r6 r7 v5 r8 r9 v6 v7 r10 r11 v8 v9 r12 v10 v11 r13 v12 w13 r14 v14 v15 r15 r16 r17 r18 r19 r20 v16 r21 r22 r23 v17 h1 g0 f18)) hP hD [0, 1] [2, 3, 4] rfl rfl (by decide) (by decide) hk1 hFc hP1 hD1
      clear hP hD hPc hDc hKc hFc hP1 hK1 hD1 hk1 hz1
      generalize H1 = H at hP2 hS ⊢
      have hP := hP2.sub (ws' := (wd_d906eaf1 h0 v0 h1 v1 x7 (-1) 4 h2 h3 h4 r0 r1 r2 r3 v3 v4 r4 r5 r6 r7 v5 r8 r9 v6 v7 r10 r11 v8 v9 r12 v10 v11 r13 v12 w13 r14 v14 v15 r15 r16 r17 r18 r19 r20 v16 r21 r22 r23 v17 h1 g0 f18 h2 g1 fn3 h3 g2 fn4 h4 g3 fn5)) [3, 4, 0, 1, 2] rfl
      have hD := hD2.sub (ws' := (wd_d906eaf1 h0 v0 h1 v1 x7 (-1) 4 h2 h3 h4 r0 r1 r2 r3 v3 v4 r4 r5 r6 r7 v5 r8 r9 v6 v7 r10 r11 v8 v9 r12 v10 v11 r13 v12 w13 r14 v14 v15 r15 r16 r17 r18 r19 r20 v16 r21 r22 r23 v17 h1 g0 f18 h2 g1 fn3 h3 g2 fn4 h4 g3 fn5)) [3, 4, 0, 1, 2] (by decide) rfl
      clear hP2 hD2
      obtain rfl : ra6 = ((-1) : Int32) := pv_cs (by decide) pt0_ra6 pt1_ra6
      refine lv_goto (tgt := 20) hx hb dX12_term_16 (by decide) ?_
      refine lv_istore_n (lv' := [(1, .int (-1)), (0, .ref h0)]) hx hb dX12_term_20 rfl hl (by decide) rfl (fun ls hl => ?_)
      refine lv_iload_n hx hb dX12_term_21 rfl (lv_at hl 0 rfl) ?_
      refine lv_bipush (v := 42) hx hb dX12_term_22 (by decide) ?_
      refine lv_icmp_eq (tgt := 33) hx hb dX12_term_24 (by decide) (fun c => absurd c (by decide)) (fun _ => ?_)
      refine lv_iload_n hx hb dX12_term_27 rfl (lv_at hl 0 rfl) ?_
      refine lv_bipush (v := 47) hx hb dX12_term_28 (by decide) ?_
      refine lv_icmp_ne (tgt := 83) hx hb dX12_term_30 (by decide) (fun _ => ?_) (fun c => absurd c (by decide))
      subst hQ
      have hP9 := hP.sub (ws' := (wd_d906eaf1 h0 v0 h1 v1 x7 (-1) 4 h2 h3 h4 r0 r1 r2 r3 v3 v4 r4 r5 r6 r7 v5 r8 r9 v6 v7 r10 r11 v8 v9 r12 v10 v11 r13 v12 w13 r14 v14 v15 r15 r16 r17 r18 r19 r20 v16 r21 r22 r23 v17 h1 g0 f18 h2 g1 fn3 h3 g2 fn4 h4 g3 fn5)) [0, 1, 2, 3, 4] rfl
      have hD9 := hD.sub (ws' := (wd_d906eaf1 h0 v0 h1 v1 x7 (-1) 4 h2 h3 h4 r0 r1 r2 r3 v3 v4 r4 r5 r6 r7 v5 r8 r9 v6 v7 r10 r11 v8 v9 r12 v10 v11 r13 v12 w13 r14 v14 v15 r15 r16 r17 r18 r19 r20 v16 r21 r22 r23 v17 h1 g0 f18 h2 g1 fn3 h3 g2 fn4 h4 g3 fn5)) [0, 1, 2, 3, 4] (by decide) rfl
      have hK9 := hK.sub (tys' := []) [] rfl
      exact W.vret hx hb hr (fun t ht hW => ⟨⟨(), rfl, trivial, Or.inl ⟨x7, fn3, fn4, fn5, oa_x7, ob_x7, by constructor <;> omega, by exact hgR.mono (by decide), by first | assumption | (apply pg_row.st <;> first | assumption | omega) | (apply pg_L.out <;> first | assumption | omega) | (apply pg_L.last <;> first | assumption | omega), by rw [ht]; exact hP9, va_K.moved hW.alike hK9, hD9⟩⟩, hS.F ht⟩) hS.2.2 dX12_term_83
    · skip
      obtain ⟨x8, oa_x8, ob_x8, pt0_ra6, pt1_ra6, pt2_ra6, pt3_ra6, pt4_ra6, pt5_ra6, pt6_ra6, pt7_ra6, hP1, hK1, hD1⟩ := hB
      rw [ht] at hP1
      obtain ⟨hP2, hD2⟩ := va_join (wr := (wd_ad0642e8 h2 g1 fn3 h3 g2 fn4 h4 g3 fn5)) (w1 := (wd_f4cd022e h0 v0 h1 v1 x8 (-1) 4 h2 h3 h4 r0 r1 r2 r3 v3 v4 r4 r5 r6 r7 v5 r8 r9 v6 v7 r10 r11 v8 v9 r12 v10 v11 r13 v12 w13 r14 v14 v15 r15 r16 r17 r18 r19 r20 v16 r21 r22 r23 v17 h1 g0 f18)) hP hD [0, 1] [2, 3, 4] rfl rfl (by decide) (by decide) hk1 hFc hP1 hD1
      clear hP hD hPc hDc hKc hFc hP1 hK1 hD1 hk1 hz1
      generalize H1 = H at hP2 hS ⊢
      have hP := hP2.sub (ws' := (wd_d906eaf1 h0 v0 h1 v1 x8 (-1) 4 h2 h3 h4 r0 r1 r2 r3 v3 v4 r4 r5 r6 r7 v5 r8 r9 v6 v7 r10 r11 v8 v9 r12 v10 v11 r13 v12 w13 r14 v14 v15 r15 r16 r17 r18 r19 r20 v16 r21 r22 r23 v17 h1 g0 f18 h2 g1 fn3 h3 g2 fn4 h4 g3 fn5)) [3, 4, 0, 1, 2] rfl
      have hD := hD2.sub (ws' := (wd_d906eaf1 h0 v0 h1 v1 x8 (-1) 4 h2 h3 h4 r0 r1 r2 r3 v3 v4 r4 r5 r6 r7 v5 r8 r9 v6 v7 r10 r11 v8 v9 r12 v10 v11 r13 v12 w13 r14 v14 v15 r15 r16 r17 r18 r19 r20 v16 r21 r22 r23 v17 h1 g0 f18 h2 g1 fn3 h3 g2 fn4 h4 g3 fn5)) [3, 4, 0, 1, 2] (by decide) rfl
      clear hP2 hD2
      refine lv_goto (tgt := 20) hx hb dX12_term_16 (by decide) ?_
      refine lv_istore_n (lv' := [(1, .int ra6), (0, .ref h0)]) hx hb dX12_term_20 rfl hl (by decide) rfl (fun ls hl => ?_)
      have hL19 : ∀ (n9 : Nat), ∀ (x9 : Int32) (x10 : Int32) (fn11 : Nat → Int32) (fn12 : Nat → Int32) (fn13 : Nat → Int32) (H : Heap) (locs : List Loc) (ls : Array Slot), 0 ≤ x9.toInt → x9.toInt ≤ 255 → 0 ≤ x10.toInt → x10.toInt ≤ 239 → (pm_x fn13 v4 - pm_x f21 v4 ≤ x10.toInt - v2.toInt ∧ v2.toInt ≤ x10.toInt) → (pm_R v4 0 1 6 f19 f20 f21 fn11 fn12 fn13) → (pg_L f18 v1.toInt 42 47 (pg_atom f18 v1.toInt 2) x10.toInt (pg_term f18 v1.toInt 2 v2.toInt)) → (x9.toInt = pg_ch f18 v1.toInt x10.toInt) → (¬ pg_ch f18 v1.toInt x10.toInt = 32) → (300 - x10.toInt).toNat < n9 → va_P (dC, dI) vwCl (wd_d906eaf1 h0 v0 h1 v1 x10 (-1) 4 h2 h3 h4 r0 r1 r2 r3 v3 v4 r4 r5 r6 r7 v5 r8 r9 v6 v7 r10 r11 v8 v9 r12 v10 v11 r13 v12 w13 r14 v14 v15 r15 r16 r17 r18 r19 r20 v16 r21 r22 r23 v17 h1 g0 f18 h2 g1 fn11 h3 g2 fn12 h4 g3 fn13) H → va_D A (wd_d906eaf1 h0 v0 h1 v1 x10 (-1) 4 h2 h3 h4 r0 r1 r2 r3 v3 v4 r4 r5 r6 r7 v5 r8 r9 v6 v7 r10 r11 v8 v9 r12 v10 v11 r13 v12 w13 r14 v14 v15 r15 r16 r17 r18 r19 r20 v16 r21 r22 r23 v17 h1 g0 f18 h2 g1 fn11 h3 g2 fn12 h4 g3 fn13) → va_S A s.heap H locs → lv_has ls 2 [(1, .int x9), (0, .ref h0)] → W p l e ({ frames := 9, cells := 0, slots := 0, locals := 189 }) s m ([.ref h0] : List Value).toArray below meth c H locs 0 0 Q (F0 m 21 ls []) := by
        intro n9
        induction n9 with
        | zero => intro x9 x10 fn11 fn12 fn13 H locs ls qa_x9 qb_x9 qa_x10 qb_x10 gh0_hL19 gh1_hL19 gh2_hL19 gh3_hL19 gh4_hL19 hm9 hP hD hS hl; exact absurd hm9 (Nat.not_lt_zero _)
        | succ n9 ih_hL19 =>
          intro x9 x10 fn11 fn12 fn13 H locs ls qa_x9 qb_x9 qa_x10 qb_x10 gh0_hL19 gh1_hL19 gh2_hL19 gh3_hL19 gh4_hL19 hm9 hP hD hS hl
          have hgR := gh1_hL19; have hgF := hgR.1; have hxl := hgF.1
          refine lv_iload_n hx hb dX12_term_21 rfl (lv_at hl 0 rfl) ?_
          refine lv_bipush (v := 42) hx hb dX12_term_22 (by decide) ?_
          refine lv_icmp_eq (tgt := 33) hx hb dX12_term_24 (by decide) (fun c20 => ?_) (fun c20 => ?_)
          · skip
            have fc20 : x9.toInt = 42 := congrArg Int32.toInt c20
            refine lv_aload_n hx hb dX12_term_33 rfl (lv_at hl 1 rfl) ?_
            refine lv_dup hx hb dX12_term_34 rfl ?_
            refine va_get (D := (dC, dI)) (ci := 12) (v := .int x10) (C := RX12) (T := TX12) (N := 48) hx hb hts (fun _ h => List.mem_cons_of_mem _ (List.mem_append_right _ h)) hown hK hP 0 rfl rfl 3 (by decide) (hts (.fieldLink RX12 112 "LeftArgumentsModel" "at" "I") (List.mem_cons_of_mem _ (List.mem_append_left _ (List.mem_of_getElem? (i := 3) rfl)))) (fun _ h9 => h9) rfl dX12_term_35 ?_
            refine lv_iconst (v := 1) hx hb dX12_term_38 (by decide) ?_
            refine lv_iadd hx hb dX12_term_39 ?_
            refine lv_topi (fun t21 et21 => ?_)
            have gt21 : t21.toInt = x10.toInt + 1 := pv_add (a := x10.toInt) (b := 1) et21 rfl (by decide) (by omega) (by omega)
            refine va_put (D := (dC, dI)) (ci := 12) (v := .int t21) (ty := .int) (C := RX12) (T := TX12) (N := 48) hx hb hts (fun _ h => List.mem_cons_of_mem _ (List.mem_append_right _ h)) tyX12 tyX12_ok nmX12 hown hK hP hD hS 0 rfl rfl 3 (by decide) (hts (.fieldLink RX12 112 "LeftArgumentsModel" "at" "I") (List.mem_cons_of_mem _ (List.mem_append_left _ (List.mem_of_getElem? (i := 3) rfl)))) (fun _ h9 => h9) rfl (by decide +kernel) rfl rfl (Nat.le_of_ble_eq_true rfl) dX12_term_40 (fun H locs hP hD hS => ?_)
            have hP : va_P (dC, dI) vwCl (wd_d906eaf1 h0 v0 h1 v1 t21 (-1) 4 h2 h3 h4 r0 r1 r2 r3 v3 v4 r4 r5 r6 r7 v5 r8 r9 v6 v7 r10 r11 v8 v9 r12 v10 v11 r13 v12 w13 r14 v14 v15 r15 r16 r17 r18 r19 r20 v16 r21 r22 r23 v17 h1 g0 f18 h2 g1 fn11 h3 g2 fn12 h4 g3 fn13) H := hP
            have hD : va_D A (wd_d906eaf1 h0 v0 h1 v1 t21 (-1) 4 h2 h3 h4 r0 r1 r2 r3 v3 v4 r4 r5 r6 r7 v5 r8 r9 v6 v7 r10 r11 v8 v9 r12 v10 v11 r13 v12 w13 r14 v14 v15 r15 r16 r17 r18 r19 r20 v16 r21 r22 r23 v17 h1 g0 f18 h2 g1 fn11 h3 g2 fn12 h4 g3 fn13) := hD
            refine lv_aload_n hx hb dX12_term_43 rfl (lv_at hl 1 rfl) ?_
            have hPc := hP.sub (ws' := (wd_d906eaf1 h0 v0 h1 v1 t21 (-1) 4 h2 h3 h4 r0 r1 r2 r3 v3 v4 r4 r5 r6 r7 v5 r8 r9 v6 v7 r10 r11 v8 v9 r12 v10 v11 r13 v12 w13 r14 v14 v15 r15 r16 r17 r18 r19 r20 v16 r21 r22 r23 v17 h1 g0 f18 h2 g1 fn11 h3 g2 fn12 h4 g3 fn13)) [0, 1, 2, 3, 4] rfl
            have hDc := hD.sub (ws' := (wd_d906eaf1 h0 v0 h1 v1 t21 (-1) 4 h2 h3 h4 r0 r1 r2 r3 v3 v4 r4 r5 r6 r7 v5 r8 r9 v6 v7 r10 r11 v8 v9 r12 v10 v11 r13 v12 w13 r14 v14 v15 r15 r16 r17 r18 r19 r20 v16 r21 r22 r23 v17 h1 g0 f18 h2 g1 fn11 h3 g2 fn12 h4 g3 fn13)) [0, 1, 2, 3, 4] (by decide) rfl
            have hKc := hK.sub (tys' := [(g0, .int), (g1, .int), (g2, .int), (g3, .int)]) [0, 1, 2, 3] rfl
            have hFc := va_free (wc := (wd_d906eaf1 h0 v0 h1 v1 t21 (-1) 4 h2 h3 h4 r0 r1 r2 r3 v3 v4 r4 r5 r6 r7 v5 r8 r9 v6 v7 r10 r11 v8 v9 r12 v10 v11 r13 v12 w13 r14 v14 v15 r15 r16 r17 r18 r19 r20 v16 r21 r22 r23 v17 h1 g0 f18 h2 g1 fn11 h3 g2 fn12 h4 g3 fn13)) hD hS hA [0, 1, 2, 3, 4] rfl
            refine va_callv (va_runV (As := []) (rest := []) ⟨hx, hb, hml, hown, hts⟩ (k_X12_atom_2 l dC dI h0 h1 h2 h3 h4 v0 v1 t21 r0 r1 r2 r3 v3 v4 r4 r5 r6 r7 v5 r8 r9 v6 v7 r10 r11 v8 v9 r12 v10 v11 r13 v12 w13 r14 v14 v15 r15 r16 r17 r18 r19 r20 v16 r21 r22 r23 v17 g0 f18 g1 fn11 g2 fn12 g3 fn13 ⟨i_v1a, i_v1b⟩ ⟨by first | omega | decide, by first | omega | decide⟩ ⟨i_v3a, i_v3b⟩ ⟨i_v4a, i_v4b⟩ ⟨i_v5a, i_v5b⟩ ⟨i_v6a, i_v6b⟩ ⟨i_v7a, i_v7b⟩ ⟨i_v8a, i_v8b⟩ ⟨i_v12a, i_v12b⟩ ⟨i_v16a, i_v16b⟩ ⟨i_v17a, i_v17b⟩ ia_f18 (by constructor <;> omega) H.size) (cwV 0 hts g_X12_term_2_0 rfl rfl rfl (by decide +kernel) ⟨Nat.le_of_ble_eq_true rfl, Nat.le_of_ble_eq_true rfl⟩) (pv_PV12 hPc hKc hDc (q0 := 0) rfl) rfl rfl hl.1 rfl (lv_room (Nat.le_of_ble_eq_true rfl)) dX12_term_44 ⟨Nat.le_of_ble_eq_true rfl, Nat.le_of_ble_eq_true rfl⟩) hS (fun q _ h => hFc q h) hFc (fun u t H1 locs ht hvm hwra22 hB hz1 hk1 hS => ?_)
            rcases hB with hB | hB
            · skip
              obtain ⟨x23, fn24, fn25, fn26, oa_x23, ob_x23, pt0_ra22, pt1_ra22, pt2_ra22, hP1, hK1, hD1⟩ := hB
              rw [ht] at hP1
              obtain ⟨hP2, hD2⟩ := va_join (wr := []) (w1 := (wd_d906eaf1 h0 v0 h1 v1 x23 (-1) 4 h2 h3 h4 r0 r1 r2 r3 v3 v4 r4 r5 r6 r7 v5 r8 r9 v6 v7 r10 r11 v8 v9 r12 v10 v11 r13 v12 w13 r14 v14 v15 r15 r16 r17 r18 r19 r20 v16 r21 r22 r23 v17 h1 g0 f18 h2 g1 fn24 h3 g2 fn25 h4 g3 fn26)) hP hD [0, 1, 2, 3, 4] [] rfl rfl (by decide) (by decide) hk1 hFc hP1 hD1
              clear hP hD hPc hDc hKc hFc hP1 hK1 hD1 hk1 hz1
              generalize H1 = H at hP2 hS ⊢
              have hP : va_P (dC, dI) vwCl (wd_d906eaf1 h0 v0 h1 v1 x23 (-1) 4 h2 h3 h4 r0 r1 r2 r3 v3 v4 r4 r5 r6 r7 v5 r8 r9 v6 v7 r10 r11 v8 v9 r12 v10 v11 r13 v12 w13 r14 v14 v15 r15 r16 r17 r18 r19 r20 v16 r21 r22 r23 v17 h1 g0 f18 h2 g1 fn24 h3 g2 fn25 h4 g3 fn26) H := hP2
              have hD : va_D A (wd_d906eaf1 h0 v0 h1 v1 x23 (-1) 4 h2 h3 h4 r0 r1 r2 r3 v3 v4 r4 r5 r6 r7 v5 r8 r9 v6 v7 r10 r11 v8 v9 r12 v10 v11 r13 v12 w13 r14 v14 v15 r15 r16 r17 r18 r19 r20 v16 r21 r22 r23 v17 h1 g0 f18 h2 g1 fn24 h3 g2 fn25 h4 g3 fn26) := hD2
              clear hP2 hD2
              have hgR := hgR.app (k' := 2) (D := 6) pt1_ra22 (by decide) (by decide) (by decide) (by decide)
              have hgF := hgR.1
              have hxl := hgF.1
              refine lv_aload_n hx hb dX12_term_47 rfl (lv_at hl 1 rfl) ?_
              refine lv_iload_n hx hb dX12_term_48 rfl (lv_at hl 0 rfl) ?_
              refine lv_bipush (v := 42) hx hb dX12_term_49 (by decide) ?_
              refine lv_icmp_ne (tgt := 58) hx hb dX12_term_51 (by decide) (fun c27 => by exfalso; have fc27 : ¬ (x9.toInt = 42) := fun h9 => c27 (Int32.toInt_inj.mp h9); omega) (fun _ => ?_)
              refine lv_iconst (v := 4) hx hb dX12_term_54 (by decide) ?_
              refine lv_goto (tgt := 59) hx hb dX12_term_55 (by decide) ?_
              refine lv_iconst (v := 0) hx hb dX12_term_59 (by decide) ?_
              have hPc := hP.sub (ws' := (wd_c62683a8 h0 v0 h1 v1 x23 (-1) 4 h2 h3 h4 r0 r1 r2 r3 v3 v4 r4 r5 r6 r7 v5 r8 r9 v6 v7 r10 r11 v8 v9 r12 v10 v11 r13 v12 w13 r14 v14 v15 r15 r16 r17 r18 r19 r20 v16 r21 r22 r23 v17 h2 g1 fn24 h3 g2 fn25 h4 g3 fn26)) [0, 2, 3, 4] rfl
              have hDc := hD.sub (ws' := (wd_c62683a8 h0 v0 h1 v1 x23 (-1) 4 h2 h3 h4 r0 r1 r2 r3 v3 v4 r4 r5 r6 r7 v5 r8 r9 v6 v7 r10 r11 v8 v9 r12 v10 v11 r13 v12 w13 r14 v14 v15 r15 r16 r17 r18 r19 r20 v16 r21 r22 r23 v17 h2 g1 fn24 h3 g2 fn25 h4 g3 fn26)) [0, 2, 3, 4] (by decide) rfl
              have hKc := hK.sub (tys' := [(g1, .int), (g2, .int), (g3, .int)]) [1, 2, 3] rfl
              have hFc := va_free (wc := (wd_c62683a8 h0 v0 h1 v1 x23 (-1) 4 h2 h3 h4 r0 r1 r2 r3 v3 v4 r4 r5 r6 r7 v5 r8 r9 v6 v7 r10 r11 v8 v9 r12 v10 v11 r13 v12 w13 r14 v14 v15 r15 r16 r17 r18 r19 r20 v16 r21 r22 r23 v17 h2 g1 fn24 h3 g2 fn25 h4 g3 fn26)) hD hS hA [0, 2, 3, 4] rfl
              refine va_callv (va_runV (As := [.int 4, .int 0]) (rest := []) ⟨hx, hb, hml, hown, hts⟩ (k_X12_put l dC dI h0 h2 h3 h4 v0 h1 v1 x23 ((-1)) 4 r0 r1 r2 r3 v3 v4 r4 r5 r6 r7 v5 r8 r9 v6 v7 r10 r11 v8 v9 r12 v10 v11 r13 v12 w13 r14 v14 v15 r15 r16 r17 r18 r19 r20 v16 r21 r22 r23 v17 g1 fn24 g2 fn25 g3 fn26 4 0 ⟨i_v1a, i_v1b⟩ ⟨i_v3a, i_v3b⟩ ⟨i_v4a, i_v4b⟩ ⟨i_v5a, i_v5b⟩ ⟨i_v6a, i_v6b⟩ ⟨i_v7a, i_v7b⟩ ⟨i_v8a, i_v8b⟩ ⟨i_v12a, i_v12b⟩ ⟨i_v16a, i_v16b⟩ ⟨i_v17a, i_v17b⟩ (by constructor <;> omega) H.size) (cwV 2 hts g_X12_term_2_3 rfl rfl rfl (by decide +kernel) ⟨Nat.le_of_ble_eq_true rfl, Nat.le_of_ble_eq_true rfl⟩) (pv_PV12 hPc hKc hDc (q0 := 0) rfl) rfl rfl hl.1 rfl (lv_room (Nat.le_of_ble_eq_true rfl)) dX12_term_60 ⟨Nat.le_of_ble_eq_true rfl, Nat.le_of_ble_eq_true rfl⟩) hS (fun q _ h => hFc q h) hFc (fun u t H1 locs ht hvm hwra28 hB hz1 hk1 hS => ?_)
              have hkra28_0 : (((-1) : Int32)).toInt = -1 := by decide
              have hkra28_1 : ((0 : Int32)).toInt = 0 := by decide
              have hkra28_2 : ((4 : Int32)).toInt = 4 := by decide
              obtain ⟨fn29, fn30, fn31, pt0_ra28, hP1, hK1, hD1⟩ := hB
              rw [ht] at hP1
              obtain ⟨hP2, hD2⟩ := va_join (wr := (wd_d0032b31 h1 g0 f18)) (w1 := (wd_c62683a8 h0 v0 h1 v1 x23 (-1) 4 h2 h3 h4 r0 r1 r2 r3 v3 v4 r4 r5 r6 r7 v5 r8 r9 v6 v7 r10 r11 v8 v9 r12 v10 v11 r13 v12 w13 r14 v14 v15 r15 r16 r17 r18 r19 r20 v16 r21 r22 r23 v17 h2 g1 fn29 h3 g2 fn30 h4 g3 fn31)) hP hD [0, 2, 3, 4] [1] rfl rfl (by decide) (by decide) hk1 hFc hP1 hD1
              clear hP hD hPc hDc hKc hFc hP1 hK1 hD1 hk1 hz1
              generalize H1 = H at hP2 hS ⊢
              have hP := hP2.sub (ws' := (wd_d906eaf1 h0 v0 h1 v1 x23 (-1) 4 h2 h3 h4 r0 r1 r2 r3 v3 v4 r4 r5 r6 r7 v5 r8 r9 v6 v7 r10 r11 v8 v9 r12 v10 v11 r13 v12 w13 r14 v14 v15 r15 r16 r17 r18 r19 r20 v16 r21 r22 r23 v17 h1 g0 f18 h2 g1 fn29 h3 g2 fn30 h4 g3 fn31)) [1, 0, 2, 3, 4] rfl
              have hD := hD2.sub (ws' := (wd_d906eaf1 h0 v0 h1 v1 x23 (-1) 4 h2 h3 h4 r0 r1 r2 r3 v3 v4 r4 r5 r6 r7 v5 r8 r9 v6 v7 r10 r11 v8 v9 r12 v10 v11 r13 v12 w13 r14 v14 v15 r15 r16 r17 r18 r19 r20 v16 r21 r22 r23 v17 h1 g0 f18 h2 g1 fn29 h3 g2 fn30 h4 g3 fn31)) [1, 0, 2, 3, 4] (by decide) rfl
              clear hP2 hD2
              have hgR := hgR.bin (k' := 1) (D := 6) pt0_ra28 (by decide) (by decide) (by decide) (by decide) (by decide)
              have hgF := hgR.1
              have hxl := hgF.1
              have hxs := pt0_ra28.step
              refine lv_aload_n hx hb dX12_term_63 rfl (lv_at hl 1 rfl) ?_
              refine va_get (D := (dC, dI)) (ci := 12) (v := .int (-1)) (C := RX12) (T := TX12) (N := 48) hx hb hts (fun _ h => List.mem_cons_of_mem _ (List.mem_append_right _ h)) hown hK hP 0 rfl rfl 4 (by decide) (hts (.fieldLink RX12 119 "LeftArgumentsModel" "wrong" "I") (List.mem_cons_of_mem _ (List.mem_append_left _ (List.mem_of_getElem? (i := 20) rfl)))) (fun _ h9 => h9) rfl dX12_term_64 ?_
              refine lv_iconst (v := (-1)) hx hb dX12_term_67 (by decide) ?_
              refine lv_icmp_ne (tgt := 78) hx hb dX12_term_68 (by decide) (fun c => absurd (by decide) c) (fun _ => ?_)
              refine lv_aload_n hx hb dX12_term_71 rfl (lv_at hl 1 rfl) ?_
              have hPc := hP.sub (ws' := (wd_f4cd022e h0 v0 h1 v1 x23 (-1) 4 h2 h3 h4 r0 r1 r2 r3 v3 v4 r4 r5 r6 r7 v5 r8 r9 v6 v7 r10 r11 v8 v9 r12 v10 v11 r13 v12 w13 r14 v14 v15 r15 r16 r17 r18 r19 r20 v16 r21 r22 r23 v17 h1 g0 f18)) [0, 1] rfl
              have hDc := hD.sub (ws' := (wd_f4cd022e h0 v0 h1 v1 x23 (-1) 4 h2 h3 h4 r0 r1 r2 r3 v3 v4 r4 r5 r6 r7 v5 r8 r9 v6 v7 r10 r11 v8 v9 r12 v10 v11 r13 v12 w13 r14 v14 v15 r15 r16 r17 r18 r19 r20 v16 r21 r22 r23 v17 h1 g0 f18)) [0, 1] (by decide) rfl
              have hKc := hK.sub (tys' := [(g0, .int)]) [0] rfl
              have hFc := va_free (wc := (wd_f4cd022e h0 v0 h1 v1 x23 (-1) 4 h2 h3 h4 r0 r1 r2 r3 v3 v4 r4 r5 r6 r7 v5 r8 r9 v6 v7 r10 r11 v8 v9 r12 v10 v11 r13 v12 w13 r14 v14 v15 r15 r16 r17 r18 r19 r20 v16 r21 r22 r23 v17 h1 g0 f18)) hD hS hA [0, 1] rfl
              refine va_calli (va_runV (As := []) (rest := []) ⟨hx, hb, hml, hown, hts⟩ (k_X12_look l dC dI h0 h1 v0 v1 x23 ((-1)) 4 h2 h3 h4 r0 r1 r2 r3 v3 v4 r4 r5 r6 r7 v5 r8 r9 v6 v7 r10 r11 v8 v9 r12 v10 v11 r13 v12 w13 r14 v14 v15 r15 r16 r17 r18 r19 r20 v16 r21 r22 r23 v17 g0 f18 ⟨i_v1a, i_v1b⟩ ⟨oa_x23, ob_x23⟩ ⟨i_v3a, i_v3b⟩ ⟨i_v4a, i_v4b⟩ ⟨i_v5a, i_v5b⟩ ⟨i_v6a, i_v6b⟩ ⟨i_v7a, i_v7b⟩ ⟨i_v8a, i_v8b⟩ ⟨i_v12a, i_v12b⟩ ⟨i_v16a, i_v16b⟩ ⟨i_v17a, i_v17b⟩ ia_f18 H.size) (cwV 0 hts g_X12_term_2_1 rfl rfl rfl (by decide +kernel) ⟨Nat.le_of_ble_eq_true rfl, Nat.le_of_ble_eq_true rfl⟩) (pv_PV12 hPc hKc hDc (q0 := 0) rfl) rfl rfl hl.1 rfl (lv_room (Nat.le_of_ble_eq_true rfl)) dX12_term_72 ⟨Nat.le_of_ble_eq_true rfl, Nat.le_of_ble_eq_true rfl⟩) hS (fun q _ h => hFc q h) hFc (fun ra32 u t H1 locs ht hvm hwra32 hB hz1 hk1 hS => ?_)
              try rw [hwra32] at hB
              have hkra32_0 : (((-1) : Int32)).toInt = -1 := by decide
              have hkra32_1 : ((4 : Int32)).toInt = 4 := by decide
              rcases hB with hB | hB
              · skip
                obtain ⟨x33, oa_x33, ob_x33, pt0_ra32, pt1_ra32, pt2_ra32, pt3_ra32, pt4_ra32, pt5_ra32, pt6_ra32, hP1, hK1, hD1⟩ := hB
                rw [ht] at hP1
                obtain ⟨hP2, hD2⟩ := va_join (wr := (wd_ad0642e8 h2 g1 fn29 h3 g2 fn30 h4 g3 fn31)) (w1 := (wd_f4cd022e h0 v0 h1 v1 x33 (-1) 4 h2 h3 h4 r0 r1 r2 r3 v3 v4 r4 r5 r6 r7 v5 r8 r9 v6 v7 r10 r11 v8 v9 r12 v10 v11 r13 v12 w13 r14 v14 v15 r15 r16 r17 r18 r19 r20 v16 r21 r22 r23 v17 h1 g0 f18)) hP hD [0, 1] [2, 3, 4] rfl rfl (by decide) (by decide) hk1 hFc hP1 hD1
                clear hP hD hPc hDc hKc hFc hP1 hK1 hD1 hk1 hz1
                generalize H1 = H at hP2 hS ⊢
                have hP := hP2.sub (ws' := (wd_d906eaf1 h0 v0 h1 v1 x33 (-1) 4 h2 h3 h4 r0 r1 r2 r3 v3 v4 r4 r5 r6 r7 v5 r8 r9 v6 v7 r10 r11 v8 v9 r12 v10 v11 r13 v12 w13 r14 v14 v15 r15 r16 r17 r18 r19 r20 v16 r21 r22 r23 v17 h1 g0 f18 h2 g1 fn29 h3 g2 fn30 h4 g3 fn31)) [3, 4, 0, 1, 2] rfl
                have hD := hD2.sub (ws' := (wd_d906eaf1 h0 v0 h1 v1 x33 (-1) 4 h2 h3 h4 r0 r1 r2 r3 v3 v4 r4 r5 r6 r7 v5 r8 r9 v6 v7 r10 r11 v8 v9 r12 v10 v11 r13 v12 w13 r14 v14 v15 r15 r16 r17 r18 r19 r20 v16 r21 r22 r23 v17 h1 g0 f18 h2 g1 fn29 h3 g2 fn30 h4 g3 fn31)) [3, 4, 0, 1, 2] (by decide) rfl
                clear hP2 hD2
                obtain rfl : ra32 = ((-1) : Int32) := pv_cs (by decide) pt0_ra32 pt1_ra32
                refine lv_goto (tgt := 79) hx hb dX12_term_75 (by decide) ?_
                refine lv_istore_n (lv' := [(1, .int (-1)), (0, .ref h0)]) hx hb dX12_term_79 rfl hl (by decide) rfl (fun ls hl => ?_)
                refine lv_goto (tgt := 21) hx hb dX12_term_80 (by decide) ?_
                refine lv_iload_n hx hb dX12_term_21 rfl (lv_at hl 0 rfl) ?_
                refine lv_bipush (v := 42) hx hb dX12_term_22 (by decide) ?_
                refine lv_icmp_eq (tgt := 33) hx hb dX12_term_24 (by decide) (fun c => absurd c (by decide)) (fun _ => ?_)
                refine lv_iload_n hx hb dX12_term_27 rfl (lv_at hl 0 rfl) ?_
                refine lv_bipush (v := 47) hx hb dX12_term_28 (by decide) ?_
                refine lv_icmp_ne (tgt := 83) hx hb dX12_term_30 (by decide) (fun _ => ?_) (fun c => absurd c (by decide))
                subst hQ
                have hP9 := hP.sub (ws' := (wd_d906eaf1 h0 v0 h1 v1 x33 (-1) 4 h2 h3 h4 r0 r1 r2 r3 v3 v4 r4 r5 r6 r7 v5 r8 r9 v6 v7 r10 r11 v8 v9 r12 v10 v11 r13 v12 w13 r14 v14 v15 r15 r16 r17 r18 r19 r20 v16 r21 r22 r23 v17 h1 g0 f18 h2 g1 fn29 h3 g2 fn30 h4 g3 fn31)) [0, 1, 2, 3, 4] rfl
                have hD9 := hD.sub (ws' := (wd_d906eaf1 h0 v0 h1 v1 x33 (-1) 4 h2 h3 h4 r0 r1 r2 r3 v3 v4 r4 r5 r6 r7 v5 r8 r9 v6 v7 r10 r11 v8 v9 r12 v10 v11 r13 v12 w13 r14 v14 v15 r15 r16 r17 r18 r19 r20 v16 r21 r22 r23 v17 h1 g0 f18 h2 g1 fn29 h3 g2 fn30 h4 g3 fn31)) [0, 1, 2, 3, 4] (by decide) rfl
                have hK9 := hK.sub (tys' := []) [] rfl
                exact W.vret hx hb hr (fun t ht hW => ⟨⟨(), rfl, trivial, Or.inl ⟨x33, fn29, fn30, fn31, oa_x33, ob_x33, by constructor <;> omega, by exact hgR.mono (by decide), by first | assumption | (apply pg_row.st <;> first | assumption | omega) | (apply pg_L.out <;> first | assumption | omega) | (apply pg_L.last <;> first | assumption | omega), by rw [ht]; exact hP9, va_K.moved hW.alike hK9, hD9⟩⟩, hS.F ht⟩) hS.2.2 dX12_term_83
              · skip
                obtain ⟨x34, oa_x34, ob_x34, pt0_ra32, pt1_ra32, pt2_ra32, pt3_ra32, pt4_ra32, pt5_ra32, pt6_ra32, pt7_ra32, hP1, hK1, hD1⟩ := hB
                rw [ht] at hP1
                obtain ⟨hP2, hD2⟩ := va_join (wr := (wd_ad0642e8 h2 g1 fn29 h3 g2 fn30 h4 g3 fn31)) (w1 := (wd_f4cd022e h0 v0 h1 v1 x34 (-1) 4 h2 h3 h4 r0 r1 r2 r3 v3 v4 r4 r5 r6 r7 v5 r8 r9 v6 v7 r10 r11 v8 v9 r12 v10 v11 r13 v12 w13 r14 v14 v15 r15 r16 r17 r18 r19 r20 v16 r21 r22 r23 v17 h1 g0 f18)) hP hD [0, 1] [2, 3, 4] rfl rfl (by decide) (by decide) hk1 hFc hP1 hD1
                clear hP hD hPc hDc hKc hFc hP1 hK1 hD1 hk1 hz1
                generalize H1 = H at hP2 hS ⊢
                have hP := hP2.sub (ws' := (wd_d906eaf1 h0 v0 h1 v1 x34 (-1) 4 h2 h3 h4 r0 r1 r2 r3 v3 v4 r4 r5 r6 r7 v5 r8 r9 v6 v7 r10 r11 v8 v9 r12 v10 v11 r13 v12 w13 r14 v14 v15 r15 r16 r17 r18 r19 r20 v16 r21 r22 r23 v17 h1 g0 f18 h2 g1 fn29 h3 g2 fn30 h4 g3 fn31)) [3, 4, 0, 1, 2] rfl
                have hD := hD2.sub (ws' := (wd_d906eaf1 h0 v0 h1 v1 x34 (-1) 4 h2 h3 h4 r0 r1 r2 r3 v3 v4 r4 r5 r6 r7 v5 r8 r9 v6 v7 r10 r11 v8 v9 r12 v10 v11 r13 v12 w13 r14 v14 v15 r15 r16 r17 r18 r19 r20 v16 r21 r22 r23 v17 h1 g0 f18 h2 g1 fn29 h3 g2 fn30 h4 g3 fn31)) [3, 4, 0, 1, 2] (by decide) rfl
                clear hP2 hD2
                refine lv_goto (tgt := 79) hx hb dX12_term_75 (by decide) ?_
                refine lv_istore_n (lv' := [(1, .int ra32), (0, .ref h0)]) hx hb dX12_term_79 rfl hl (by decide) rfl (fun ls hl => ?_)
                refine lv_goto (tgt := 21) hx hb dX12_term_80 (by decide) ?_
                exact ih_hL19 ra32 x34 fn29 fn30 fn31 H locs ls (by first | omega | decide) (by first | omega | decide) oa_x34 ob_x34 (by constructor <;> omega) (by exact hgR.mono (by decide)) (by first | assumption | (apply pg_row.ent <;> first | assumption | omega) | (apply pg_L.next <;> first | assumption | omega) | (apply pg_L.step <;> first | assumption | omega | (apply pg_tru.no <;> assumption) | (apply pg_tru.ok <;> assumption)) | exact pg_L.of (by omega) rfl) (by omega) (by omega) (by first | omega | (simp only [Int.toNat] at *; omega)) hP hD hS (lv_sub hl [0, 1] rfl)
            · skip
              obtain ⟨x35, x36, x37, fn38, fn39, fn40, oa_x35, ob_x35, oa_x36, ob_x36, pt0_ra22, pt1_ra22, pt2_ra22, hP1, hK1, hD1⟩ := hB
              rw [ht] at hP1
              obtain ⟨hP2, hD2⟩ := va_join (wr := []) (w1 := (wd_d906eaf1 h0 v0 h1 v1 x35 x36 x37 h2 h3 h4 r0 r1 r2 r3 v3 v4 r4 r5 r6 r7 v5 r8 r9 v6 v7 r10 r11 v8 v9 r12 v10 v11 r13 v12 w13 r14 v14 v15 r15 r16 r17 r18 r19 r20 v16 r21 r22 r23 v17 h1 g0 f18 h2 g1 fn38 h3 g2 fn39 h4 g3 fn40)) hP hD [0, 1, 2, 3, 4] [] rfl rfl (by decide) (by decide) hk1 hFc hP1 hD1
              clear hP hD hPc hDc hKc hFc hP1 hK1 hD1 hk1 hz1
              generalize H1 = H at hP2 hS ⊢
              have hP : va_P (dC, dI) vwCl (wd_d906eaf1 h0 v0 h1 v1 x35 x36 x37 h2 h3 h4 r0 r1 r2 r3 v3 v4 r4 r5 r6 r7 v5 r8 r9 v6 v7 r10 r11 v8 v9 r12 v10 v11 r13 v12 w13 r14 v14 v15 r15 r16 r17 r18 r19 r20 v16 r21 r22 r23 v17 h1 g0 f18 h2 g1 fn38 h3 g2 fn39 h4 g3 fn40) H := hP2
              have hD : va_D A (wd_d906eaf1 h0 v0 h1 v1 x35 x36 x37 h2 h3 h4 r0 r1 r2 r3 v3 v4 r4 r5 r6 r7 v5 r8 r9 v6 v7 r10 r11 v8 v9 r12 v10 v11 r13 v12 w13 r14 v14 v15 r15 r16 r17 r18 r19 r20 v16 r21 r22 r23 v17 h1 g0 f18 h2 g1 fn38 h3 g2 fn39 h4 g3 fn40) := hD2
              clear hP2 hD2
              have hgF := hgF.app pt1_ra22
              have hxl := hgF.1
              refine lv_aload_n hx hb dX12_term_47 rfl (lv_at hl 1 rfl) ?_
              refine lv_iload_n hx hb dX12_term_48 rfl (lv_at hl 0 rfl) ?_
              refine lv_bipush (v := 42) hx hb dX12_term_49 (by decide) ?_
              refine lv_icmp_ne (tgt := 58) hx hb dX12_term_51 (by decide) (fun c41 => by exfalso; have fc41 : ¬ (x9.toInt = 42) := fun h9 => c41 (Int32.toInt_inj.mp h9); omega) (fun _ => ?_)
              refine lv_iconst (v := 4) hx hb dX12_term_54 (by decide) ?_
              refine lv_goto (tgt := 59) hx hb dX12_term_55 (by decide) ?_
              refine lv_iconst (v := 0) hx hb dX12_term_59 (by decide) ?_
              have hPc := hP.sub (ws' := (wd_c62683a8 h0 v0 h1 v1 x35 x36 x37 h2 h3 h4 r0 r1 r2 r3 v3 v4 r4 r5 r6 r7 v5 r8 r9 v6 v7 r10 r11 v8 v9 r12 v10 v11 r13 v12 w13 r14 v14 v15 r15 r16 r17 r18 r19 r20 v16 r21 r22 r23 v17 h2 g1 fn38 h3 g2 fn39 h4 g3 fn40)) [0, 2, 3, 4] rfl
              have hDc := hD.sub (ws' := (wd_c62683a8 h0 v0 h1 v1 x35 x36 x37 h2 h3 h4 r0 r1 r2 r3 v3 v4 r4 r5 r6 r7 v5 r8 r9 v6 v7 r10 r11 v8 v9 r12 v10 v11 r13 v12 w13 r14 v14 v15 r15 r16 r17 r18 r19 r20 v16 r21 r22 r23 v17 h2 g1 fn38 h3 g2 fn39 h4 g3 fn40)) [0, 2, 3, 4] (by decide) rfl
              have hKc := hK.sub (tys' := [(g1, .int), (g2, .int), (g3, .int)]) [1, 2, 3] rfl
              have hFc := va_free (wc := (wd_c62683a8 h0 v0 h1 v1 x35 x36 x37 h2 h3 h4 r0 r1 r2 r3 v3 v4 r4 r5 r6 r7 v5 r8 r9 v6 v7 r10 r11 v8 v9 r12 v10 v11 r13 v12 w13 r14 v14 v15 r15 r16 r17 r18 r19 r20 v16 r21 r22 r23 v17 h2 g1 fn38 h3 g2 fn39 h4 g3 fn40)) hD hS hA [0, 2, 3, 4] rfl
              refine va_callv (va_runV (As := [.int 4, .int 0]) (rest := []) ⟨hx, hb, hml, hown, hts⟩ (k_X12_put l dC dI h0 h2 h3 h4 v0 h1 v1 x35 x36 x37 r0 r1 r2 r3 v3 v4 r4 r5 r6 r7 v5 r8 r9 v6 v7 r10 r11 v8 v9 r12 v10 v11 r13 v12 w13 r14 v14 v15 r15 r16 r17 r18 r19 r20 v16 r21 r22 r23 v17 g1 fn38 g2 fn39 g3 fn40 4 0 ⟨i_v1a, i_v1b⟩ ⟨i_v3a, i_v3b⟩ ⟨i_v4a, i_v4b⟩ ⟨i_v5a, i_v5b⟩ ⟨i_v6a, i_v6b⟩ ⟨i_v7a, i_v7b⟩ ⟨i_v8a, i_v8b⟩ ⟨i_v12a, i_v12b⟩ ⟨i_v16a, i_v16b⟩ ⟨i_v17a, i_v17b⟩ (by constructor <;> omega) H.size) (cwV 2 hts g_X12_term_2_3 rfl rfl rfl (by decide +kernel) ⟨Nat.le_of_ble_eq_true rfl, Nat.le_of_ble_eq_true rfl⟩) (pv_PV12 hPc hKc hDc (q0 := 0) rfl) rfl rfl hl.1 rfl (lv_room (Nat.le_of_ble_eq_true rfl)) dX12_term_60 ⟨Nat.le_of_ble_eq_true rfl, Nat.le_of_ble_eq_true rfl⟩) hS (fun q _ h => hFc q h) hFc (fun u t H1 locs ht hvm hwra42 hB hz1 hk1 hS => ?_)
              have hkra42_0 : ((0 : Int32)).toInt = 0 := by decide
              have hkra42_1 : ((4 : Int32)).toInt = 4 := by decide
              obtain ⟨fn43, fn44, fn45, pt0_ra42, hP1, hK1, hD1⟩ := hB
              rw [ht] at hP1
              obtain ⟨hP2, hD2⟩ := va_join (wr := (wd_d0032b31 h1 g0 f18)) (w1 := (wd_c62683a8 h0 v0 h1 v1 x35 x36 x37 h2 h3 h4 r0 r1 r2 r3 v3 v4 r4 r5 r6 r7 v5 r8 r9 v6 v7 r10 r11 v8 v9 r12 v10 v11 r13 v12 w13 r14 v14 v15 r15 r16 r17 r18 r19 r20 v16 r21 r22 r23 v17 h2 g1 fn43 h3 g2 fn44 h4 g3 fn45)) hP hD [0, 2, 3, 4] [1] rfl rfl (by decide) (by decide) hk1 hFc hP1 hD1
              clear hP hD hPc hDc hKc hFc hP1 hK1 hD1 hk1 hz1
              generalize H1 = H at hP2 hS ⊢
              have hP := hP2.sub (ws' := (wd_d906eaf1 h0 v0 h1 v1 x35 x36 x37 h2 h3 h4 r0 r1 r2 r3 v3 v4 r4 r5 r6 r7 v5 r8 r9 v6 v7 r10 r11 v8 v9 r12 v10 v11 r13 v12 w13 r14 v14 v15 r15 r16 r17 r18 r19 r20 v16 r21 r22 r23 v17 h1 g0 f18 h2 g1 fn43 h3 g2 fn44 h4 g3 fn45)) [1, 0, 2, 3, 4] rfl
              have hD := hD2.sub (ws' := (wd_d906eaf1 h0 v0 h1 v1 x35 x36 x37 h2 h3 h4 r0 r1 r2 r3 v3 v4 r4 r5 r6 r7 v5 r8 r9 v6 v7 r10 r11 v8 v9 r12 v10 v11 r13 v12 w13 r14 v14 v15 r15 r16 r17 r18 r19 r20 v16 r21 r22 r23 v17 h1 g0 f18 h2 g1 fn43 h3 g2 fn44 h4 g3 fn45)) [1, 0, 2, 3, 4] (by decide) rfl
              clear hP2 hD2
              have hgF := hgF.put pt0_ra42
              have hxl := hgF.1
              have hxs := pt0_ra42.step
              refine lv_aload_n hx hb dX12_term_63 rfl (lv_at hl 1 rfl) ?_
              refine va_get (D := (dC, dI)) (ci := 12) (v := .int x36) (C := RX12) (T := TX12) (N := 48) hx hb hts (fun _ h => List.mem_cons_of_mem _ (List.mem_append_right _ h)) hown hK hP 0 rfl rfl 4 (by decide) (hts (.fieldLink RX12 119 "LeftArgumentsModel" "wrong" "I") (List.mem_cons_of_mem _ (List.mem_append_left _ (List.mem_of_getElem? (i := 20) rfl)))) (fun _ h9 => h9) rfl dX12_term_64 ?_
              refine lv_iconst (v := (-1)) hx hb dX12_term_67 (by decide) ?_
              refine lv_icmp_ne (tgt := 78) hx hb dX12_term_68 (by decide) (fun _ => ?_) (fun c46 => by exfalso; have fc46 : x36.toInt = (-1) := congrArg Int32.toInt c46; omega)
              refine lv_iconst (v := (-1)) hx hb dX12_term_78 (by decide) ?_
              refine lv_istore_n (lv' := [(1, .int (-1)), (0, .ref h0)]) hx hb dX12_term_79 rfl hl (by decide) rfl (fun ls hl => ?_)
              refine lv_goto (tgt := 21) hx hb dX12_term_80 (by decide) ?_
              refine lv_iload_n hx hb dX12_term_21 rfl (lv_at hl 0 rfl) ?_
              refine lv_bipush (v := 42) hx hb dX12_term_22 (by decide) ?_
              refine lv_icmp_eq (tgt := 33) hx hb dX12_term_24 (by decide) (fun c => absurd c (by decide)) (fun _ => ?_)
              refine lv_iload_n hx hb dX12_term_27 rfl (lv_at hl 0 rfl) ?_
              refine lv_bipush (v := 47) hx hb dX12_term_28 (by decide) ?_
              refine lv_icmp_ne (tgt := 83) hx hb dX12_term_30 (by decide) (fun _ => ?_) (fun c => absurd c (by decide))
              subst hQ
              have hP9 := hP.sub (ws' := (wd_d906eaf1 h0 v0 h1 v1 x35 x36 x37 h2 h3 h4 r0 r1 r2 r3 v3 v4 r4 r5 r6 r7 v5 r8 r9 v6 v7 r10 r11 v8 v9 r12 v10 v11 r13 v12 w13 r14 v14 v15 r15 r16 r17 r18 r19 r20 v16 r21 r22 r23 v17 h1 g0 f18 h2 g1 fn43 h3 g2 fn44 h4 g3 fn45)) [0, 1, 2, 3, 4] rfl
              have hD9 := hD.sub (ws' := (wd_d906eaf1 h0 v0 h1 v1 x35 x36 x37 h2 h3 h4 r0 r1 r2 r3 v3 v4 r4 r5 r6 r7 v5 r8 r9 v6 v7 r10 r11 v8 v9 r12 v10 v11 r13 v12 w13 r14 v14 v15 r15 r16 r17 r18 r19 r20 v16 r21 r22 r23 v17 h1 g0 f18 h2 g1 fn43 h3 g2 fn44 h4 g3 fn45)) [0, 1, 2, 3, 4] (by decide) rfl
              have hK9 := hK.sub (tys' := []) [] rfl
              exact W.vret hx hb hr (fun t ht hW => ⟨⟨(), rfl, trivial, Or.inr (⟨x35, x36, x37, fn43, fn44, fn45, oa_x35, ob_x35, oa_x36, ob_x36, by constructor <;> omega, by exact hgF, by first | assumption | (apply pg_row.no <;> first | assumption | omega) | (apply pg_L.fail <;> first | assumption | omega), by rw [ht]; exact hP9, va_K.moved hW.alike hK9, hD9⟩)⟩, hS.F ht⟩) hS.2.2 dX12_term_83
          · skip
            have fc20 : ¬ (x9.toInt = 42) := fun h9 => c20 (Int32.toInt_inj.mp h9)
            refine lv_iload_n hx hb dX12_term_27 rfl (lv_at hl 0 rfl) ?_
            refine lv_bipush (v := 47) hx hb dX12_term_28 (by decide) ?_
            refine lv_icmp_ne (tgt := 83) hx hb dX12_term_30 (by decide) (fun c47 => ?_) (fun c47 => ?_)
            · skip
              have fc47 : ¬ (x9.toInt = 47) := fun h9 => c47 (Int32.toInt_inj.mp h9)
              subst hQ
              have hP9 := hP.sub (ws' := (wd_d906eaf1 h0 v0 h1 v1 x10 (-1) 4 h2 h3 h4 r0 r1 r2 r3 v3 v4 r4 r5 r6 r7 v5 r8 r9 v6 v7 r10 r11 v8 v9 r12 v10 v11 r13 v12 w13 r14 v14 v15 r15 r16 r17 r18 r19 r20 v16 r21 r22 r23 v17 h1 g0 f18 h2 g1 fn11 h3 g2 fn12 h4 g3 fn13)) [0, 1, 2, 3, 4] rfl
              have hD9 := hD.sub (ws' := (wd_d906eaf1 h0 v0 h1 v1 x10 (-1) 4 h2 h3 h4 r0 r1 r2 r3 v3 v4 r4 r5 r6 r7 v5 r8 r9 v6 v7 r10 r11 v8 v9 r12 v10 v11 r13 v12 w13 r14 v14 v15 r15 r16 r17 r18 r19 r20 v16 r21 r22 r23 v17 h1 g0 f18 h2 g1 fn11 h3 g2 fn12 h4 g3 fn13)) [0, 1, 2, 3, 4] (by decide) rfl
              have hK9 := hK.sub (tys' := []) [] rfl
              exact W.vret hx hb hr (fun t ht hW => ⟨⟨(), rfl, trivial, Or.inl ⟨x10, fn11, fn12, fn13, qa_x10, by first | omega | decide, by constructor <;> omega, by exact hgR.mono (by decide), by first | assumption | (apply pg_row.st <;> first | assumption | omega) | (apply pg_L.out <;> first | assumption | omega) | (apply pg_L.last <;> first | assumption | omega), by rw [ht]; exact hP9, va_K.moved hW.alike hK9, hD9⟩⟩, hS.F ht⟩) hS.2.2 dX12_term_83
            · skip
              have fc47 : x9.toInt = 47 := congrArg Int32.toInt c47
              refine lv_aload_n hx hb dX12_term_33 rfl (lv_at hl 1 rfl) ?_
              refine lv_dup hx hb dX12_term_34 rfl ?_
              refine va_get (D := (dC, dI)) (ci := 12) (v := .int x10) (C := RX12) (T := TX12) (N := 48) hx hb hts (fun _ h => List.mem_cons_of_mem _ (List.mem_append_right _ h)) hown hK hP 0 rfl rfl 3 (by decide) (hts (.fieldLink RX12 112 "LeftArgumentsModel" "at" "I") (List.mem_cons_of_mem _ (List.mem_append_left _ (List.mem_of_getElem? (i := 3) rfl)))) (fun _ h9 => h9) rfl dX12_term_35 ?_
              refine lv_iconst (v := 1) hx hb dX12_term_38 (by decide) ?_
              refine lv_iadd hx hb dX12_term_39 ?_
              refine lv_topi (fun t48 et48 => ?_)
              have gt48 : t48.toInt = x10.toInt + 1 := pv_add (a := x10.toInt) (b := 1) et48 rfl (by decide) (by omega) (by omega)
              refine va_put (D := (dC, dI)) (ci := 12) (v := .int t48) (ty := .int) (C := RX12) (T := TX12) (N := 48) hx hb hts (fun _ h => List.mem_cons_of_mem _ (List.mem_append_right _ h)) tyX12 tyX12_ok nmX12 hown hK hP hD hS 0 rfl rfl 3 (by decide) (hts (.fieldLink RX12 112 "LeftArgumentsModel" "at" "I") (List.mem_cons_of_mem _ (List.mem_append_left _ (List.mem_of_getElem? (i := 3) rfl)))) (fun _ h9 => h9) rfl (by decide +kernel) rfl rfl (Nat.le_of_ble_eq_true rfl) dX12_term_40 (fun H locs hP hD hS => ?_)
              have hP : va_P (dC, dI) vwCl (wd_d906eaf1 h0 v0 h1 v1 t48 (-1) 4 h2 h3 h4 r0 r1 r2 r3 v3 v4 r4 r5 r6 r7 v5 r8 r9 v6 v7 r10 r11 v8 v9 r12 v10 v11 r13 v12 w13 r14 v14 v15 r15 r16 r17 r18 r19 r20 v16 r21 r22 r23 v17 h1 g0 f18 h2 g1 fn11 h3 g2 fn12 h4 g3 fn13) H := hP
              have hD : va_D A (wd_d906eaf1 h0 v0 h1 v1 t48 (-1) 4 h2 h3 h4 r0 r1 r2 r3 v3 v4 r4 r5 r6 r7 v5 r8 r9 v6 v7 r10 r11 v8 v9 r12 v10 v11 r13 v12 w13 r14 v14 v15 r15 r16 r17 r18 r19 r20 v16 r21 r22 r23 v17 h1 g0 f18 h2 g1 fn11 h3 g2 fn12 h4 g3 fn13) := hD
              refine lv_aload_n hx hb dX12_term_43 rfl (lv_at hl 1 rfl) ?_
              have hPc := hP.sub (ws' := (wd_d906eaf1 h0 v0 h1 v1 t48 (-1) 4 h2 h3 h4 r0 r1 r2 r3 v3 v4 r4 r5 r6 r7 v5 r8 r9 v6 v7 r10 r11 v8 v9 r12 v10 v11 r13 v12 w13 r14 v14 v15 r15 r16 r17 r18 r19 r20 v16 r21 r22 r23 v17 h1 g0 f18 h2 g1 fn11 h3 g2 fn12 h4 g3 fn13)) [0, 1, 2, 3, 4] rfl
              have hDc := hD.sub (ws' := (wd_d906eaf1 h0 v0 h1 v1 t48 (-1) 4 h2 h3 h4 r0 r1 r2 r3 v3 v4 r4 r5 r6 r7 v5 r8 r9 v6 v7 r10 r11 v8 v9 r12 v10 v11 r13 v12 w13 r14 v14 v15 r15 r16 r17 r18 r19 r20 v16 r21 r22 r23 v17 h1 g0 f18 h2 g1 fn11 h3 g2 fn12 h4 g3 fn13)) [0, 1, 2, 3, 4] (by decide) rfl
              have hKc := hK.sub (tys' := [(g0, .int), (g1, .int), (g2, .int), (g3, .int)]) [0, 1, 2, 3] rfl
              have hFc := va_free (wc := (wd_d906eaf1 h0 v0 h1 v1 t48 (-1) 4 h2 h3 h4 r0 r1 r2 r3 v3 v4 r4 r5 r6 r7 v5 r8 r9 v6 v7 r10 r11 v8 v9 r12 v10 v11 r13 v12 w13 r14 v14 v15 r15 r16 r17 r18 r19 r20 v16 r21 r22 r23 v17 h1 g0 f18 h2 g1 fn11 h3 g2 fn12 h4 g3 fn13)) hD hS hA [0, 1, 2, 3, 4] rfl
              refine va_callv (va_runV (As := []) (rest := []) ⟨hx, hb, hml, hown, hts⟩ (k_X12_atom_2 l dC dI h0 h1 h2 h3 h4 v0 v1 t48 r0 r1 r2 r3 v3 v4 r4 r5 r6 r7 v5 r8 r9 v6 v7 r10 r11 v8 v9 r12 v10 v11 r13 v12 w13 r14 v14 v15 r15 r16 r17 r18 r19 r20 v16 r21 r22 r23 v17 g0 f18 g1 fn11 g2 fn12 g3 fn13 ⟨i_v1a, i_v1b⟩ ⟨by first | omega | decide, by first | omega | decide⟩ ⟨i_v3a, i_v3b⟩ ⟨i_v4a, i_v4b⟩ ⟨i_v5a, i_v5b⟩ ⟨i_v6a, i_v6b⟩ ⟨i_v7a, i_v7b⟩ ⟨i_v8a, i_v8b⟩ ⟨i_v12a, i_v12b⟩ ⟨i_v16a, i_v16b⟩ ⟨i_v17a, i_v17b⟩ ia_f18 (by constructor <;> omega) H.size) (cwV 0 hts g_X12_term_2_0 rfl rfl rfl (by decide +kernel) ⟨Nat.le_of_ble_eq_true rfl, Nat.le_of_ble_eq_true rfl⟩) (pv_PV12 hPc hKc hDc (q0 := 0) rfl) rfl rfl hl.1 rfl (lv_room (Nat.le_of_ble_eq_true rfl)) dX12_term_44 ⟨Nat.le_of_ble_eq_true rfl, Nat.le_of_ble_eq_true rfl⟩) hS (fun q _ h => hFc q h) hFc (fun u t H1 locs ht hvm hwra49 hB hz1 hk1 hS => ?_)
              rcases hB with hB | hB
              · skip
                obtain ⟨x50, fn51, fn52, fn53, oa_x50, ob_x50, pt0_ra49, pt1_ra49, pt2_ra49, hP1, hK1, hD1⟩ := hB
                rw [ht] at hP1
                obtain ⟨hP2, hD2⟩ := va_join (wr := []) (w1 := (wd_d906eaf1 h0 v0 h1 v1 x50 (-1) 4 h2 h3 h4 r0 r1 r2 r3 v3 v4 r4 r5 r6 r7 v5 r8 r9 v6 v7 r10 r11 v8 v9 r12 v10 v11 r13 v12 w13 r14 v14 v15 r15 r16 r17 r18 r19 r20 v16 r21 r22 r23 v17 h1 g0 f18 h2 g1 fn51 h3 g2 fn52 h4 g3 fn53)) hP hD [0, 1, 2, 3, 4] [] rfl rfl (by decide) (by decide) hk1 hFc hP1 hD1
                clear hP hD hPc hDc hKc hFc hP1 hK1 hD1 hk1 hz1
                generalize H1 = H at hP2 hS ⊢
                have hP : va_P (dC, dI) vwCl (wd_d906eaf1 h0 v0 h1 v1 x50 (-1) 4 h2 h3 h4 r0 r1 r2 r3 v3 v4 r4 r5 r6 r7 v5 r8 r9 v6 v7 r10 r11 v8 v9 r12 v10 v11 r13 v12 w13 r14 v14 v15 r15 r16 r17 r18 r19 r20 v16 r21 r22 r23 v17 h1 g0 f18 h2 g1 fn51 h3 g2 fn52 h4 g3 fn53) H := hP2
                have hD : va_D A (wd_d906eaf1 h0 v0 h1 v1 x50 (-1) 4 h2 h3 h4 r0 r1 r2 r3 v3 v4 r4 r5 r6 r7 v5 r8 r9 v6 v7 r10 r11 v8 v9 r12 v10 v11 r13 v12 w13 r14 v14 v15 r15 r16 r17 r18 r19 r20 v16 r21 r22 r23 v17 h1 g0 f18 h2 g1 fn51 h3 g2 fn52 h4 g3 fn53) := hD2
                clear hP2 hD2
                have hgR := hgR.app (k' := 2) (D := 6) pt1_ra49 (by decide) (by decide) (by decide) (by decide)
                have hgF := hgR.1
                have hxl := hgF.1
                refine lv_aload_n hx hb dX12_term_47 rfl (lv_at hl 1 rfl) ?_
                refine lv_iload_n hx hb dX12_term_48 rfl (lv_at hl 0 rfl) ?_
                refine lv_bipush (v := 42) hx hb dX12_term_49 (by decide) ?_
                refine lv_icmp_ne (tgt := 58) hx hb dX12_term_51 (by decide) (fun _ => ?_) (fun c54 => by exfalso; have fc54 : x9.toInt = 42 := congrArg Int32.toInt c54; omega)
                refine lv_iconst (v := 5) hx hb dX12_term_58 (by decide) ?_
                refine lv_iconst (v := 0) hx hb dX12_term_59 (by decide) ?_
                have hPc := hP.sub (ws' := (wd_c62683a8 h0 v0 h1 v1 x50 (-1) 4 h2 h3 h4 r0 r1 r2 r3 v3 v4 r4 r5 r6 r7 v5 r8 r9 v6 v7 r10 r11 v8 v9 r12 v10 v11 r13 v12 w13 r14 v14 v15 r15 r16 r17 r18 r19 r20 v16 r21 r22 r23 v17 h2 g1 fn51 h3 g2 fn52 h4 g3 fn53)) [0, 2, 3, 4] rfl
                have hDc := hD.sub (ws' := (wd_c62683a8 h0 v0 h1 v1 x50 (-1) 4 h2 h3 h4 r0 r1 r2 r3 v3 v4 r4 r5 r6 r7 v5 r8 r9 v6 v7 r10 r11 v8 v9 r12 v10 v11 r13 v12 w13 r14 v14 v15 r15 r16 r17 r18 r19 r20 v16 r21 r22 r23 v17 h2 g1 fn51 h3 g2 fn52 h4 g3 fn53)) [0, 2, 3, 4] (by decide) rfl
                have hKc := hK.sub (tys' := [(g1, .int), (g2, .int), (g3, .int)]) [1, 2, 3] rfl
                have hFc := va_free (wc := (wd_c62683a8 h0 v0 h1 v1 x50 (-1) 4 h2 h3 h4 r0 r1 r2 r3 v3 v4 r4 r5 r6 r7 v5 r8 r9 v6 v7 r10 r11 v8 v9 r12 v10 v11 r13 v12 w13 r14 v14 v15 r15 r16 r17 r18 r19 r20 v16 r21 r22 r23 v17 h2 g1 fn51 h3 g2 fn52 h4 g3 fn53)) hD hS hA [0, 2, 3, 4] rfl
                refine va_callv (va_runV (As := [.int 5, .int 0]) (rest := []) ⟨hx, hb, hml, hown, hts⟩ (k_X12_put l dC dI h0 h2 h3 h4 v0 h1 v1 x50 ((-1)) 4 r0 r1 r2 r3 v3 v4 r4 r5 r6 r7 v5 r8 r9 v6 v7 r10 r11 v8 v9 r12 v10 v11 r13 v12 w13 r14 v14 v15 r15 r16 r17 r18 r19 r20 v16 r21 r22 r23 v17 g1 fn51 g2 fn52 g3 fn53 5 0 ⟨i_v1a, i_v1b⟩ ⟨i_v3a, i_v3b⟩ ⟨i_v4a, i_v4b⟩ ⟨i_v5a, i_v5b⟩ ⟨i_v6a, i_v6b⟩ ⟨i_v7a, i_v7b⟩ ⟨i_v8a, i_v8b⟩ ⟨i_v12a, i_v12b⟩ ⟨i_v16a, i_v16b⟩ ⟨i_v17a, i_v17b⟩ (by constructor <;> omega) H.size) (cwV 2 hts g_X12_term_2_3 rfl rfl rfl (by decide +kernel) ⟨Nat.le_of_ble_eq_true rfl, Nat.le_of_ble_eq_true rfl⟩) (pv_PV12 hPc hKc hDc (q0 := 0) rfl) rfl rfl hl.1 rfl (lv_room (Nat.le_of_ble_eq_true rfl)) dX12_term_60 ⟨Nat.le_of_ble_eq_true rfl, Nat.le_of_ble_eq_true rfl⟩) hS (fun q _ h => hFc q h) hFc (fun u t H1 locs ht hvm hwra55 hB hz1 hk1 hS => ?_)
                have hkra55_0 : (((-1) : Int32)).toInt = -1 := by decide
                have hkra55_1 : ((0 : Int32)).toInt = 0 := by decide
                have hkra55_2 : ((4 : Int32)).toInt = 4 := by decide
                have hkra55_3 : ((5 : Int32)).toInt = 5 := by decide
                obtain ⟨fn56, fn57, fn58, pt0_ra55, hP1, hK1, hD1⟩ := hB
                rw [ht] at hP1
                obtain ⟨hP2, hD2⟩ := va_join (wr := (wd_d0032b31 h1 g0 f18)) (w1 := (wd_c62683a8 h0 v0 h1 v1 x50 (-1) 4 h2 h3 h4 r0 r1 r2 r3 v3 v4 r4 r5 r6 r7 v5 r8 r9 v6 v7 r10 r11 v8 v9 r12 v10 v11 r13 v12 w13 r14 v14 v15 r15 r16 r17 r18 r19 r20 v16 r21 r22 r23 v17 h2 g1 fn56 h3 g2 fn57 h4 g3 fn58)) hP hD [0, 2, 3, 4] [1] rfl rfl (by decide) (by decide) hk1 hFc hP1 hD1
                clear hP hD hPc hDc hKc hFc hP1 hK1 hD1 hk1 hz1
                generalize H1 = H at hP2 hS ⊢
                have hP := hP2.sub (ws' := (wd_d906eaf1 h0 v0 h1 v1 x50 (-1) 4 h2 h3 h4 r0 r1 r2 r3 v3 v4 r4 r5 r6 r7 v5 r8 r9 v6 v7 r10 r11 v8 v9 r12 v10 v11 r13 v12 w13 r14 v14 v15 r15 r16 r17 r18 r19 r20 v16 r21 r22 r23 v17 h1 g0 f18 h2 g1 fn56 h3 g2 fn57 h4 g3 fn58)) [1, 0, 2, 3, 4] rfl
                have hD := hD2.sub (ws' := (wd_d906eaf1 h0 v0 h1 v1 x50 (-1) 4 h2 h3 h4 r0 r1 r2 r3 v3 v4 r4 r5 r6 r7 v5 r8 r9 v6 v7 r10 r11 v8 v9 r12 v10 v11 r13 v12 w13 r14 v14 v15 r15 r16 r17 r18 r19 r20 v16 r21 r22 r23 v17 h1 g0 f18 h2 g1 fn56 h3 g2 fn57 h4 g3 fn58)) [1, 0, 2, 3, 4] (by decide) rfl
                clear hP2 hD2
                have hgR := hgR.bin (k' := 1) (D := 6) pt0_ra55 (by decide) (by decide) (by decide) (by decide) (by decide)
                have hgF := hgR.1
                have hxl := hgF.1
                have hxs := pt0_ra55.step
                refine lv_aload_n hx hb dX12_term_63 rfl (lv_at hl 1 rfl) ?_
                refine va_get (D := (dC, dI)) (ci := 12) (v := .int (-1)) (C := RX12) (T := TX12) (N := 48) hx hb hts (fun _ h => List.mem_cons_of_mem _ (List.mem_append_right _ h)) hown hK hP 0 rfl rfl 4 (by decide) (hts (.fieldLink RX12 119 "LeftArgumentsModel" "wrong" "I") (List.mem_cons_of_mem _ (List.mem_append_left _ (List.mem_of_getElem? (i := 20) rfl)))) (fun _ h9 => h9) rfl dX12_term_64 ?_
                refine lv_iconst (v := (-1)) hx hb dX12_term_67 (by decide) ?_
                refine lv_icmp_ne (tgt := 78) hx hb dX12_term_68 (by decide) (fun c => absurd (by decide) c) (fun _ => ?_)
                refine lv_aload_n hx hb dX12_term_71 rfl (lv_at hl 1 rfl) ?_
                have hPc := hP.sub (ws' := (wd_f4cd022e h0 v0 h1 v1 x50 (-1) 4 h2 h3 h4 r0 r1 r2 r3 v3 v4 r4 r5 r6 r7 v5 r8 r9 v6 v7 r10 r11 v8 v9 r12 v10 v11 r13 v12 w13 r14 v14 v15 r15 r16 r17 r18 r19 r20 v16 r21 r22 r23 v17 h1 g0 f18)) [0, 1] rfl
                have hDc := hD.sub (ws' := (wd_f4cd022e h0 v0 h1 v1 x50 (-1) 4 h2 h3 h4 r0 r1 r2 r3 v3 v4 r4 r5 r6 r7 v5 r8 r9 v6 v7 r10 r11 v8 v9 r12 v10 v11 r13 v12 w13 r14 v14 v15 r15 r16 r17 r18 r19 r20 v16 r21 r22 r23 v17 h1 g0 f18)) [0, 1] (by decide) rfl
                have hKc := hK.sub (tys' := [(g0, .int)]) [0] rfl
                have hFc := va_free (wc := (wd_f4cd022e h0 v0 h1 v1 x50 (-1) 4 h2 h3 h4 r0 r1 r2 r3 v3 v4 r4 r5 r6 r7 v5 r8 r9 v6 v7 r10 r11 v8 v9 r12 v10 v11 r13 v12 w13 r14 v14 v15 r15 r16 r17 r18 r19 r20 v16 r21 r22 r23 v17 h1 g0 f18)) hD hS hA [0, 1] rfl
                refine va_calli (va_runV (As := []) (rest := []) ⟨hx, hb, hml, hown, hts⟩ (k_X12_look l dC dI h0 h1 v0 v1 x50 ((-1)) 4 h2 h3 h4 r0 r1 r2 r3 v3 v4 r4 r5 r6 r7 v5 r8 r9 v6 v7 r10 r11 v8 v9 r12 v10 v11 r13 v12 w13 r14 v14 v15 r15 r16 r17 r18 r19 r20 v16 r21 r22 r23 v17 g0 f18 ⟨i_v1a, i_v1b⟩ ⟨oa_x50, ob_x50⟩ ⟨i_v3a, i_v3b⟩ ⟨i_v4a, i_v4b⟩ ⟨i_v5a, i_v5b⟩ ⟨i_v6a, i_v6b⟩ ⟨i_v7a, i_v7b⟩ ⟨i_v8a, i_v8b⟩ ⟨i_v12a, i_v12b⟩ ⟨i_v16a, i_v16b⟩ ⟨i_v17a, i_v17b⟩ ia_f18 H.size) (cwV 0 hts g_X12_term_2_1 rfl rfl rfl (by decide +kernel) ⟨Nat.le_of_ble_eq_true rfl, Nat.le_of_ble_eq_true rfl⟩) (pv_PV12 hPc hKc hDc (q0 := 0) rfl) rfl rfl hl.1 rfl (lv_room (Nat.le_of_ble_eq_true rfl)) dX12_term_72 ⟨Nat.le_of_ble_eq_true rfl, Nat.le_of_ble_eq_true rfl⟩) hS (fun q _ h => hFc q h) hFc (fun ra59 u t H1 locs ht hvm hwra59 hB hz1 hk1 hS => ?_)
                try rw [hwra59] at hB
                have hkra59_0 : (((-1) : Int32)).toInt = -1 := by decide
                have hkra59_1 : ((4 : Int32)).toInt = 4 := by decide
                rcases hB with hB | hB
                · skip
                  obtain ⟨x60, oa_x60, ob_x60, pt0_ra59, pt1_ra59, pt2_ra59, pt3_ra59, pt4_ra59, pt5_ra59, pt6_ra59, hP1, hK1, hD1⟩ := hB
                  rw [ht] at hP1
                  obtain ⟨hP2, hD2⟩ := va_join (wr := (wd_ad0642e8 h2 g1 fn56 h3 g2 fn57 h4 g3 fn58)) (w1 := (wd_f4cd022e h0 v0 h1 v1 x60 (-1) 4 h2 h3 h4 r0 r1 r2 r3 v3 v4 r4 r5 r6 r7 v5 r8 r9 v6 v7 r10 r11 v8 v9 r12 v10 v11 r13 v12 w13 r14 v14 v15 r15 r16 r17 r18 r19 r20 v16 r21 r22 r23 v17 h1 g0 f18)) hP hD [0, 1] [2, 3, 4] rfl rfl (by decide) (by decide) hk1 hFc hP1 hD1
                  clear hP hD hPc hDc hKc hFc hP1 hK1 hD1 hk1 hz1
                  generalize H1 = H at hP2 hS ⊢
                  have hP := hP2.sub (ws' := (wd_d906eaf1 h0 v0 h1 v1 x60 (-1) 4 h2 h3 h4 r0 r1 r2 r3 v3 v4 r4 r5 r6 r7 v5 r8 r9 v6 v7 r10 r11 v8 v9 r12 v10 v11 r13 v12 w13 r14 v14 v15 r15 r16 r17 r18 r19 r20 v16 r21 r22 r23 v17 h1 g0 f18 h2 g1 fn56 h3 g2 fn57 h4 g3 fn58)) [3, 4, 0, 1, 2] rfl
                  have hD := hD2.sub (ws' := (wd_d906eaf1 h0 v0 h1 v1 x60 (-1) 4 h2 h3 h4 r0 r1 r2 r3 v3 v4 r4 r5 r6 r7 v5 r8 r9 v6 v7 r10 r11 v8 v9 r12 v10 v11 r13 v12 w13 r14 v14 v15 r15 r16 r17 r18 r19 r20 v16 r21 r22 r23 v17 h1 g0 f18 h2 g1 fn56 h3 g2 fn57 h4 g3 fn58)) [3, 4, 0, 1, 2] (by decide) rfl
                  clear hP2 hD2
                  obtain rfl : ra59 = ((-1) : Int32) := pv_cs (by decide) pt0_ra59 pt1_ra59
                  refine lv_goto (tgt := 79) hx hb dX12_term_75 (by decide) ?_
                  refine lv_istore_n (lv' := [(1, .int (-1)), (0, .ref h0)]) hx hb dX12_term_79 rfl hl (by decide) rfl (fun ls hl => ?_)
                  refine lv_goto (tgt := 21) hx hb dX12_term_80 (by decide) ?_
                  refine lv_iload_n hx hb dX12_term_21 rfl (lv_at hl 0 rfl) ?_
                  refine lv_bipush (v := 42) hx hb dX12_term_22 (by decide) ?_
                  refine lv_icmp_eq (tgt := 33) hx hb dX12_term_24 (by decide) (fun c => absurd c (by decide)) (fun _ => ?_)
                  refine lv_iload_n hx hb dX12_term_27 rfl (lv_at hl 0 rfl) ?_
                  refine lv_bipush (v := 47) hx hb dX12_term_28 (by decide) ?_
                  refine lv_icmp_ne (tgt := 83) hx hb dX12_term_30 (by decide) (fun _ => ?_) (fun c => absurd c (by decide))
                  subst hQ
                  have hP9 := hP.sub (ws' := (wd_d906eaf1 h0 v0 h1 v1 x60 (-1) 4 h2 h3 h4 r0 r1 r2 r3 v3 v4 r4 r5 r6 r7 v5 r8 r9 v6 v7 r10 r11 v8 v9 r12 v10 v11 r13 v12 w13 r14 v14 v15 r15 r16 r17 r18 r19 r20 v16 r21 r22 r23 v17 h1 g0 f18 h2 g1 fn56 h3 g2 fn57 h4 g3 fn58)) [0, 1, 2, 3, 4] rfl
                  have hD9 := hD.sub (ws' := (wd_d906eaf1 h0 v0 h1 v1 x60 (-1) 4 h2 h3 h4 r0 r1 r2 r3 v3 v4 r4 r5 r6 r7 v5 r8 r9 v6 v7 r10 r11 v8 v9 r12 v10 v11 r13 v12 w13 r14 v14 v15 r15 r16 r17 r18 r19 r20 v16 r21 r22 r23 v17 h1 g0 f18 h2 g1 fn56 h3 g2 fn57 h4 g3 fn58)) [0, 1, 2, 3, 4] (by decide) rfl
                  have hK9 := hK.sub (tys' := []) [] rfl
                  exact W.vret hx hb hr (fun t ht hW => ⟨⟨(), rfl, trivial, Or.inl ⟨x60, fn56, fn57, fn58, oa_x60, ob_x60, by constructor <;> omega, by exact hgR.mono (by decide), by first | assumption | (apply pg_row.st <;> first | assumption | omega) | (apply pg_L.out <;> first | assumption | omega) | (apply pg_L.last <;> first | assumption | omega), by rw [ht]; exact hP9, va_K.moved hW.alike hK9, hD9⟩⟩, hS.F ht⟩) hS.2.2 dX12_term_83
                · skip
                  obtain ⟨x61, oa_x61, ob_x61, pt0_ra59, pt1_ra59, pt2_ra59, pt3_ra59, pt4_ra59, pt5_ra59, pt6_ra59, pt7_ra59, hP1, hK1, hD1⟩ := hB
                  rw [ht] at hP1
                  obtain ⟨hP2, hD2⟩ := va_join (wr := (wd_ad0642e8 h2 g1 fn56 h3 g2 fn57 h4 g3 fn58)) (w1 := (wd_f4cd022e h0 v0 h1 v1 x61 (-1) 4 h2 h3 h4 r0 r1 r2 r3 v3 v4 r4 r5 r6 r7 v5 r8 r9 v6 v7 r10 r11 v8 v9 r12 v10 v11 r13 v12 w13 r14 v14 v15 r15 r16 r17 r18 r19 r20 v16 r21 r22 r23 v17 h1 g0 f18)) hP hD [0, 1] [2, 3, 4] rfl rfl (by decide) (by decide) hk1 hFc hP1 hD1
                  clear hP hD hPc hDc hKc hFc hP1 hK1 hD1 hk1 hz1
                  generalize H1 = H at hP2 hS ⊢
                  have hP := hP2.sub (ws' := (wd_d906eaf1 h0 v0 h1 v1 x61 (-1) 4 h2 h3 h4 r0 r1 r2 r3 v3 v4 r4 r5 r6 r7 v5 r8 r9 v6 v7 r10 r11 v8 v9 r12 v10 v11 r13 v12 w13 r14 v14 v15 r15 r16 r17 r18 r19 r20 v16 r21 r22 r23 v17 h1 g0 f18 h2 g1 fn56 h3 g2 fn57 h4 g3 fn58)) [3, 4, 0, 1, 2] rfl
                  have hD := hD2.sub (ws' := (wd_d906eaf1 h0 v0 h1 v1 x61 (-1) 4 h2 h3 h4 r0 r1 r2 r3 v3 v4 r4 r5 r6 r7 v5 r8 r9 v6 v7 r10 r11 v8 v9 r12 v10 v11 r13 v12 w13 r14 v14 v15 r15 r16 r17 r18 r19 r20 v16 r21 r22 r23 v17 h1 g0 f18 h2 g1 fn56 h3 g2 fn57 h4 g3 fn58)) [3, 4, 0, 1, 2] (by decide) rfl
                  clear hP2 hD2
                  refine lv_goto (tgt := 79) hx hb dX12_term_75 (by decide) ?_
                  refine lv_istore_n (lv' := [(1, .int ra59), (0, .ref h0)]) hx hb dX12_term_79 rfl hl (by decide) rfl (fun ls hl => ?_)
                  refine lv_goto (tgt := 21) hx hb dX12_term_80 (by decide) ?_
                  exact ih_hL19 ra59 x61 fn56 fn57 fn58 H locs ls (by first | omega | decide) (by first | omega | decide) oa_x61 ob_x61 (by constructor <;> omega) (by exact hgR.mono (by decide)) (by first | assumption | (apply pg_row.ent <;> first | assumption | omega) | (apply pg_L.next <;> first | assumption | omega) | (apply pg_L.step <;> first | assumption | omega | (apply pg_tru.no <;> assumption) | (apply pg_tru.ok <;> assumption)) | exact pg_L.of (by omega) rfl) (by omega) (by omega) (by first | omega | (simp only [Int.toNat] at *; omega)) hP hD hS (lv_sub hl [0, 1] rfl)
              · skip
                obtain ⟨x62, x63, x64, fn65, fn66, fn67, oa_x62, ob_x62, oa_x63, ob_x63, pt0_ra49, pt1_ra49, pt2_ra49, hP1, hK1, hD1⟩ := hB
                rw [ht] at hP1
                obtain ⟨hP2, hD2⟩ := va_join (wr := []) (w1 := (wd_d906eaf1 h0 v0 h1 v1 x62 x63 x64 h2 h3 h4 r0 r1 r2 r3 v3 v4 r4 r5 r6 r7 v5 r8 r9 v6 v7 r10 r11 v8 v9 r12 v10 v11 r13 v12 w13 r14 v14 v15 r15 r16 r17 r18 r19 r20 v16 r21 r22 r23 v17 h1 g0 f18 h2 g1 fn65 h3 g2 fn66 h4 g3 fn67)) hP hD [0, 1, 2, 3, 4] [] rfl rfl (by decide) (by decide) hk1 hFc hP1 hD1
                clear hP hD hPc hDc hKc hFc hP1 hK1 hD1 hk1 hz1
                generalize H1 = H at hP2 hS ⊢
                have hP : va_P (dC, dI) vwCl (wd_d906eaf1 h0 v0 h1 v1 x62 x63 x64 h2 h3 h4 r0 r1 r2 r3 v3 v4 r4 r5 r6 r7 v5 r8 r9 v6 v7 r10 r11 v8 v9 r12 v10 v11 r13 v12 w13 r14 v14 v15 r15 r16 r17 r18 r19 r20 v16 r21 r22 r23 v17 h1 g0 f18 h2 g1 fn65 h3 g2 fn66 h4 g3 fn67) H := hP2
                have hD : va_D A (wd_d906eaf1 h0 v0 h1 v1 x62 x63 x64 h2 h3 h4 r0 r1 r2 r3 v3 v4 r4 r5 r6 r7 v5 r8 r9 v6 v7 r10 r11 v8 v9 r12 v10 v11 r13 v12 w13 r14 v14 v15 r15 r16 r17 r18 r19 r20 v16 r21 r22 r23 v17 h1 g0 f18 h2 g1 fn65 h3 g2 fn66 h4 g3 fn67) := hD2
                clear hP2 hD2
                have hgF := hgF.app pt1_ra49
                have hxl := hgF.1
                refine lv_aload_n hx hb dX12_term_47 rfl (lv_at hl 1 rfl) ?_
                refine lv_iload_n hx hb dX12_term_48 rfl (lv_at hl 0 rfl) ?_
                refine lv_bipush (v := 42) hx hb dX12_term_49 (by decide) ?_
                refine lv_icmp_ne (tgt := 58) hx hb dX12_term_51 (by decide) (fun _ => ?_) (fun c68 => by exfalso; have fc68 : x9.toInt = 42 := congrArg Int32.toInt c68; omega)
                refine lv_iconst (v := 5) hx hb dX12_term_58 (by decide) ?_
                refine lv_iconst (v := 0) hx hb dX12_term_59 (by decide) ?_
                have hPc := hP.sub (ws' := (wd_c62683a8 h0 v0 h1 v1 x62 x63 x64 h2 h3 h4 r0 r1 r2 r3 v3 v4 r4 r5 r6 r7 v5 r8 r9 v6 v7 r10 r11 v8 v9 r12 v10 v11 r13 v12 w13 r14 v14 v15 r15 r16 r17 r18 r19 r20 v16 r21 r22 r23 v17 h2 g1 fn65 h3 g2 fn66 h4 g3 fn67)) [0, 2, 3, 4] rfl
                have hDc := hD.sub (ws' := (wd_c62683a8 h0 v0 h1 v1 x62 x63 x64 h2 h3 h4 r0 r1 r2 r3 v3 v4 r4 r5 r6 r7 v5 r8 r9 v6 v7 r10 r11 v8 v9 r12 v10 v11 r13 v12 w13 r14 v14 v15 r15 r16 r17 r18 r19 r20 v16 r21 r22 r23 v17 h2 g1 fn65 h3 g2 fn66 h4 g3 fn67)) [0, 2, 3, 4] (by decide) rfl
                have hKc := hK.sub (tys' := [(g1, .int), (g2, .int), (g3, .int)]) [1, 2, 3] rfl
                have hFc := va_free (wc := (wd_c62683a8 h0 v0 h1 v1 x62 x63 x64 h2 h3 h4 r0 r1 r2 r3 v3 v4 r4 r5 r6 r7 v5 r8 r9 v6 v7 r10 r11 v8 v9 r12 v10 v11 r13 v12 w13 r14 v14 v15 r15 r16 r17 r18 r19 r20 v16 r21 r22 r23 v17 h2 g1 fn65 h3 g2 fn66 h4 g3 fn67)) hD hS hA [0, 2, 3, 4] rfl
                refine va_callv (va_runV (As := [.int 5, .int 0]) (rest := []) ⟨hx, hb, hml, hown, hts⟩ (k_X12_put l dC dI h0 h2 h3 h4 v0 h1 v1 x62 x63 x64 r0 r1 r2 r3 v3 v4 r4 r5 r6 r7 v5 r8 r9 v6 v7 r10 r11 v8 v9 r12 v10 v11 r13 v12 w13 r14 v14 v15 r15 r16 r17 r18 r19 r20 v16 r21 r22 r23 v17 g1 fn65 g2 fn66 g3 fn67 5 0 ⟨i_v1a, i_v1b⟩ ⟨i_v3a, i_v3b⟩ ⟨i_v4a, i_v4b⟩ ⟨i_v5a, i_v5b⟩ ⟨i_v6a, i_v6b⟩ ⟨i_v7a, i_v7b⟩ ⟨i_v8a, i_v8b⟩ ⟨i_v12a, i_v12b⟩ ⟨i_v16a, i_v16b⟩ ⟨i_v17a, i_v17b⟩ (by constructor <;> omega) H.size) (cwV 2 hts g_X12_term_2_3 rfl rfl rfl (by decide +kernel) ⟨Nat.le_of_ble_eq_true rfl, Nat.le_of_ble_eq_true rfl⟩) (pv_PV12 hPc hKc hDc (q0 := 0) rfl) rfl rfl hl.1 rfl (lv_room (Nat.le_of_ble_eq_true rfl)) dX12_term_60 ⟨Nat.le_of_ble_eq_true rfl, Nat.le_of_ble_eq_true rfl⟩) hS (fun q _ h => hFc q h) hFc (fun u t H1 locs ht hvm hwra69 hB hz1 hk1 hS => ?_)
                have hkra69_0 : ((0 : Int32)).toInt = 0 := by decide
                have hkra69_1 : ((5 : Int32)).toInt = 5 := by decide
                obtain ⟨fn70, fn71, fn72, pt0_ra69, hP1, hK1, hD1⟩ := hB
                rw [ht] at hP1
                obtain ⟨hP2, hD2⟩ := va_join (wr := (wd_d0032b31 h1 g0 f18)) (w1 := (wd_c62683a8 h0 v0 h1 v1 x62 x63 x64 h2 h3 h4 r0 r1 r2 r3 v3 v4 r4 r5 r6 r7 v5 r8 r9 v6 v7 r10 r11 v8 v9 r12 v10 v11 r13 v12 w13 r14 v14 v15 r15 r16 r17 r18 r19 r20 v16 r21 r22 r23 v17 h2 g1 fn70 h3 g2 fn71 h4 g3 fn72)) hP hD [0, 2, 3, 4] [1] rfl rfl (by decide) (by decide) hk1 hFc hP1 hD1
                clear hP hD hPc hDc hKc hFc hP1 hK1 hD1 hk1 hz1
                generalize H1 = H at hP2 hS ⊢
                have hP := hP2.sub (ws' := (wd_d906eaf1 h0 v0 h1 v1 x62 x63 x64 h2 h3 h4 r0 r1 r2 r3 v3 v4 r4 r5 r6 r7 v5 r8 r9 v6 v7 r10 r11 v8 v9 r12 v10 v11 r13 v12 w13 r14 v14 v15 r15 r16 r17 r18 r19 r20 v16 r21 r22 r23 v17 h1 g0 f18 h2 g1 fn70 h3 g2 fn71 h4 g3 fn72)) [1, 0, 2, 3, 4] rfl
                have hD := hD2.sub (ws' := (wd_d906eaf1 h0 v0 h1 v1 x62 x63 x64 h2 h3 h4 r0 r1 r2 r3 v3 v4 r4 r5 r6 r7 v5 r8 r9 v6 v7 r10 r11 v8 v9 r12 v10 v11 r13 v12 w13 r14 v14 v15 r15 r16 r17 r18 r19 r20 v16 r21 r22 r23 v17 h1 g0 f18 h2 g1 fn70 h3 g2 fn71 h4 g3 fn72)) [1, 0, 2, 3, 4] (by decide) rfl
                clear hP2 hD2
                have hgF := hgF.put pt0_ra69
                have hxl := hgF.1
                have hxs := pt0_ra69.step
                refine lv_aload_n hx hb dX12_term_63 rfl (lv_at hl 1 rfl) ?_
                refine va_get (D := (dC, dI)) (ci := 12) (v := .int x63) (C := RX12) (T := TX12) (N := 48) hx hb hts (fun _ h => List.mem_cons_of_mem _ (List.mem_append_right _ h)) hown hK hP 0 rfl rfl 4 (by decide) (hts (.fieldLink RX12 119 "LeftArgumentsModel" "wrong" "I") (List.mem_cons_of_mem _ (List.mem_append_left _ (List.mem_of_getElem? (i := 20) rfl)))) (fun _ h9 => h9) rfl dX12_term_64 ?_
                refine lv_iconst (v := (-1)) hx hb dX12_term_67 (by decide) ?_
                refine lv_icmp_ne (tgt := 78) hx hb dX12_term_68 (by decide) (fun _ => ?_) (fun c73 => by exfalso; have fc73 : x63.toInt = (-1) := congrArg Int32.toInt c73; omega)
                refine lv_iconst (v := (-1)) hx hb dX12_term_78 (by decide) ?_
                refine lv_istore_n (lv' := [(1, .int (-1)), (0, .ref h0)]) hx hb dX12_term_79 rfl hl (by decide) rfl (fun ls hl => ?_)
                refine lv_goto (tgt := 21) hx hb dX12_term_80 (by decide) ?_
                refine lv_iload_n hx hb dX12_term_21 rfl (lv_at hl 0 rfl) ?_
                refine lv_bipush (v := 42) hx hb dX12_term_22 (by decide) ?_
                refine lv_icmp_eq (tgt := 33) hx hb dX12_term_24 (by decide) (fun c => absurd c (by decide)) (fun _ => ?_)
                refine lv_iload_n hx hb dX12_term_27 rfl (lv_at hl 0 rfl) ?_
                refine lv_bipush (v := 47) hx hb dX12_term_28 (by decide) ?_
                refine lv_icmp_ne (tgt := 83) hx hb dX12_term_30 (by decide) (fun _ => ?_) (fun c => absurd c (by decide))
                subst hQ
                have hP9 := hP.sub (ws' := (wd_d906eaf1 h0 v0 h1 v1 x62 x63 x64 h2 h3 h4 r0 r1 r2 r3 v3 v4 r4 r5 r6 r7 v5 r8 r9 v6 v7 r10 r11 v8 v9 r12 v10 v11 r13 v12 w13 r14 v14 v15 r15 r16 r17 r18 r19 r20 v16 r21 r22 r23 v17 h1 g0 f18 h2 g1 fn70 h3 g2 fn71 h4 g3 fn72)) [0, 1, 2, 3, 4] rfl
                have hD9 := hD.sub (ws' := (wd_d906eaf1 h0 v0 h1 v1 x62 x63 x64 h2 h3 h4 r0 r1 r2 r3 v3 v4 r4 r5 r6 r7 v5 r8 r9 v6 v7 r10 r11 v8 v9 r12 v10 v11 r13 v12 w13 r14 v14 v15 r15 r16 r17 r18 r19 r20 v16 r21 r22 r23 v17 h1 g0 f18 h2 g1 fn70 h3 g2 fn71 h4 g3 fn72)) [0, 1, 2, 3, 4] (by decide) rfl
                have hK9 := hK.sub (tys' := []) [] rfl
                exact W.vret hx hb hr (fun t ht hW => ⟨⟨(), rfl, trivial, Or.inr (⟨x62, x63, x64, fn70, fn71, fn72, oa_x62, ob_x62, oa_x63, ob_x63, by constructor <;> omega, by exact hgF, by first | assumption | (apply pg_row.no <;> first | assumption | omega) | (apply pg_L.fail <;> first | assumption | omega), by rw [ht]; exact hP9, va_K.moved hW.alike hK9, hD9⟩)⟩, hS.F ht⟩) hS.2.2 dX12_term_83
      exact hL19 _ ra6 x8 fn3 fn4 fn5 H locs ls (by first | omega | decide) (by first | omega | decide) oa_x8 ob_x8 (by constructor <;> omega) (by exact hgR.mono (by decide)) (by first | assumption | (apply pg_row.ent <;> first | assumption | omega) | (apply pg_L.next <;> first | assumption | omega) | (apply pg_L.step <;> first | assumption | omega | (apply pg_tru.no <;> assumption) | (apply pg_tru.ok <;> assumption)) | exact pg_L.of (by omega) rfl) (by omega) (by omega) (Nat.lt_succ_self _) hP hD hS (lv_sub hl [0, 1] rfl)
  · skip
    obtain ⟨x74, x75, x76, fn77, fn78, fn79, oa_x74, ob_x74, oa_x75, ob_x75, pt0_ra1, pt1_ra1, pt2_ra1, hP1, hK1, hD1⟩ := hB
    rw [ht] at hP1
    obtain ⟨hP2, hD2⟩ := va_join (wr := []) (w1 := (wd_d906eaf1 h0 v0 h1 v1 x74 x75 x76 h2 h3 h4 r0 r1 r2 r3 v3 v4 r4 r5 r6 r7 v5 r8 r9 v6 v7 r10 r11 v8 v9 r12 v10 v11 r13 v12 w13 r14 v14 v15 r15 r16 r17 r18 r19 r20 v16 r21 r22 r23 v17 h1 g0 f18 h2 g1 fn77 h3 g2 fn78 h4 g3 fn79)) hP hD [0, 1, 2, 3, 4] [] rfl rfl (by decide) (by decide) hk1 hFc hP1 hD1
    clear hP hD hPc hDc hKc hFc hP1 hK1 hD1 hk1 hz1
    generalize H1 = H at hP2 hS ⊢
    have hP : va_P (dC, dI) vwCl (wd_d906eaf1 h0 v0 h1 v1 x74 x75 x76 h2 h3 h4 r0 r1 r2 r3 v3 v4 r4 r5 r6 r7 v5 r8 r9 v6 v7 r10 r11 v8 v9 r12 v10 v11 r13 v12 w13 r14 v14 v15 r15 r16 r17 r18 r19 r20 v16 r21 r22 r23 v17 h1 g0 f18 h2 g1 fn77 h3 g2 fn78 h4 g3 fn79) H := hP2
    have hD : va_D A (wd_d906eaf1 h0 v0 h1 v1 x74 x75 x76 h2 h3 h4 r0 r1 r2 r3 v3 v4 r4 r5 r6 r7 v5 r8 r9 v6 v7 r10 r11 v8 v9 r12 v10 v11 r13 v12 w13 r14 v14 v15 r15 r16 r17 r18 r19 r20 v16 r21 r22 r23 v17 h1 g0 f18 h2 g1 fn77 h3 g2 fn78 h4 g3 fn79) := hD2
    clear hP2 hD2
    have hgF := hgF.app pt1_ra1
    have hxl := hgF.1
    refine lv_aload_n hx hb dX12_term_4 rfl (lv_at hl 0 rfl) ?_
    refine va_get (D := (dC, dI)) (ci := 12) (v := .int x75) (C := RX12) (T := TX12) (N := 48) hx hb hts (fun _ h => List.mem_cons_of_mem _ (List.mem_append_right _ h)) hown hK hP 0 rfl rfl 4 (by decide) (hts (.fieldLink RX12 119 "LeftArgumentsModel" "wrong" "I") (List.mem_cons_of_mem _ (List.mem_append_left _ (List.mem_of_getElem? (i := 20) rfl)))) (fun _ h9 => h9) rfl dX12_term_5 ?_
    refine lv_iconst (v := (-1)) hx hb dX12_term_8 (by decide) ?_
    refine lv_icmp_ne (tgt := 19) hx hb dX12_term_9 (by decide) (fun _ => ?_) (fun c80 => by exfalso; have fc80 : x75.toInt = (-1) := congrArg Int32.toInt c80; omega)
    refine lv_iconst (v := (-1)) hx hb dX12_term_19 (by decide) ?_
    refine lv_istore_n (lv' := [(1, .int (-1)), (0, .ref h0)]) hx hb dX12_term_20 rfl hl (by decide) rfl (fun ls hl => ?_)
    refine lv_iload_n hx hb dX12_term_21 rfl (lv_at hl 0 rfl) ?_
    refine lv_bipush (v := 42) hx hb dX12_term_22 (by decide) ?_
    refine lv_icmp_eq (tgt := 33) hx hb dX12_term_24 (by decide) (fun c => absurd c (by decide)) (fun _ => ?_)
    refine lv_iload_n hx hb dX12_term_27 rfl (lv_at hl 0 rfl) ?_
    refine lv_bipush (v := 47) hx hb dX12_term_28 (by decide) ?_
    refine lv_icmp_ne (tgt := 83) hx hb dX12_term_30 (by decide) (fun _ => ?_) (fun c => absurd c (by decide))
    subst hQ
    have hP9 := hP.sub (ws' := (wd_d906eaf1 h0 v0 h1 v1 x74 x75 x76 h2 h3 h4 r0 r1 r2 r3 v3 v4 r4 r5 r6 r7 v5 r8 r9 v6 v7 r10 r11 v8 v9 r12 v10 v11 r13 v12 w13 r14 v14 v15 r15 r16 r17 r18 r19 r20 v16 r21 r22 r23 v17 h1 g0 f18 h2 g1 fn77 h3 g2 fn78 h4 g3 fn79)) [0, 1, 2, 3, 4] rfl
    have hD9 := hD.sub (ws' := (wd_d906eaf1 h0 v0 h1 v1 x74 x75 x76 h2 h3 h4 r0 r1 r2 r3 v3 v4 r4 r5 r6 r7 v5 r8 r9 v6 v7 r10 r11 v8 v9 r12 v10 v11 r13 v12 w13 r14 v14 v15 r15 r16 r17 r18 r19 r20 v16 r21 r22 r23 v17 h1 g0 f18 h2 g1 fn77 h3 g2 fn78 h4 g3 fn79)) [0, 1, 2, 3, 4] (by decide) rfl
    have hK9 := hK.sub (tys' := []) [] rfl
    exact W.vret hx hb hr (fun t ht hW => ⟨⟨(), rfl, trivial, Or.inr (⟨x74, x75, x76, fn77, fn78, fn79, oa_x74, ob_x74, oa_x75, ob_x75, by constructor <;> omega, by exact hgF, by first | assumption | (apply pg_row.no <;> first | assumption | omega) | (apply pg_L.fail <;> first | assumption | omega), by rw [ht]; exact hP9, va_K.moved hW.alike hK9, hD9⟩)⟩, hS.F ht⟩) hS.2.2 dX12_term_83
def q_X12_sum_2 : List Cond := .code yX12_sum cX12_sum 2 none :: (([.code yX12_term cX12_term 2 none, .code yX12_atom cX12_atom 2 none, .code yX12_look cX12_look 1 (some .int), .code yX12_here cX12_here 1 (some .int), .fieldLink RX12 112 "LeftArgumentsModel" "at" "I", .fieldLink RX12 109 "LeftArgumentsModel" "size" "I", .fieldLink RX12 9 "LeftArgumentsModel" "tape" "[I", .initialized RX12, .instanceMethod yX12_here, .selects RX12 yX12_here yX12_here, .methodLink RX12 115 yX12_here, .instanceMethod yX12_look, .selects RX12 yX12_look yX12_look, .methodLink RX12 131 yX12_look, .code yX12_isDigit cX12_isDigit 1 (some .boolean), .static yX12_isDigit, .methodLink RX12 134 yX12_isDigit, .code yX12_letterOf cX12_letterOf 1 (some .int), .static yX12_letterOf, .methodLink RX12 145 yX12_letterOf, .code yX12_bad cX12_bad 1 none, .fieldLink RX12 119 "LeftArgumentsModel" "wrong" "I", .instanceMethod yX12_bad, .selects RX12 yX12_bad yX12_bad, .methodLink RX12 128 yX12_bad, .code yX12_opens cX12_opens 1 none, .fieldLink RX12 125 "LeftArgumentsModel" "deep" "I", .instanceMethod yX12_opens, .selects RX12 yX12_opens yX12_opens, .methodLink RX12 149 yX12_opens, .code yX12_sum cX12_sum 2 none, .code yX12_put cX12_put 3 none, .fieldLink RX12 13 "LeftArgumentsModel" "code" "[I", .fieldLink RX12 122 "LeftArgumentsModel" "text" "I", .fieldLink RX12 19 "LeftArgumentsModel" "codes" "[I", .fieldLink RX12 16 "LeftArgumentsModel" "value" "[I", .instanceMethod yX12_put, .selects RX12 yX12_put yX12_put, .methodLink RX12 141 yX12_put, .code yX12_plainNumber cX12_plainNumber 3 (some .int), .instanceMethod yX12_plainNumber, .selects RX12 yX12_plainNumber yX12_plainNumber, .methodLink RX12 138 yX12_plainNumber, .instanceMethod yX12_atom, .selects RX12 yX12_atom yX12_atom, .methodLink RX12 159 yX12_atom, .instanceMethod yX12_term, .selects RX12 yX12_term yX12_term, .methodLink RX12 162 yX12_term, .instanceMethod yX12_sum, .selects RX12 yX12_sum yX12_sum, .methodLink RX12 152 yX12_sum, .code yX12_closes cX12_closes 2 none, .instanceMethod yX12_closes, .selects RX12 yX12_closes yX12_closes, .methodLink RX12 155 yX12_closes] : List Cond) ++ wsX120)
set_option maxRecDepth 20000 in
theorem g_X12_sum_2_0 : GoodIn q_X12_sum_2 (wsV RX12 162 RX12 yX12_term q_X12_term_2) := goodIn_app (goodIn_r _ [49, 47, 48, 8] rfl (by decide +kernel)) (goodIn_ca (goodIn_r (.code yX12_term cX12_term 2 none :: [.code yX12_atom cX12_atom 2 none, .code yX12_look cX12_look 1 (some .int), .code yX12_here cX12_here 1 (some .int), .fieldLink RX12 112 "LeftArgumentsModel" "at" "I", .fieldLink RX12 109 "LeftArgumentsModel" "size" "I", .fieldLink RX12 9 "LeftArgumentsModel" "tape" "[I", .initialized RX12, .instanceMethod yX12_here, .selects RX12 yX12_here yX12_here, .methodLink RX12 115 yX12_here, .instanceMethod yX12_look, .selects RX12 yX12_look yX12_look, .methodLink RX12 131 yX12_look, .code yX12_isDigit cX12_isDigit 1 (some .boolean), .static yX12_isDigit, .methodLink RX12 134 yX12_isDigit, .code yX12_letterOf cX12_letterOf 1 (some .int), .static yX12_letterOf, .methodLink RX12 145 yX12_letterOf, .code yX12_bad cX12_bad 1 none, .fieldLink RX12 119 "LeftArgumentsModel" "wrong" "I", .instanceMethod yX12_bad, .selects RX12 yX12_bad yX12_bad, .methodLink RX12 128 yX12_bad, .code yX12_opens cX12_opens 1 none, .fieldLink RX12 125 "LeftArgumentsModel" "deep" "I", .instanceMethod yX12_opens, .selects RX12 yX12_opens yX12_opens, .methodLink RX12 149 yX12_opens, .code yX12_sum cX12_sum 2 none, .code yX12_term cX12_term 2 none, .code yX12_put cX12_put 3 none, .fieldLink RX12 13 "LeftArgumentsModel" "code" "[I", .fieldLink RX12 122 "LeftArgumentsModel" "text" "I", .fieldLink RX12 19 "LeftArgumentsModel" "codes" "[I", .fieldLink RX12 16 "LeftArgumentsModel" "value" "[I", .instanceMethod yX12_put, .selects RX12 yX12_put yX12_put, .methodLink RX12 141 yX12_put, .code yX12_plainNumber cX12_plainNumber 3 (some .int), .instanceMethod yX12_plainNumber, .selects RX12 yX12_plainNumber yX12_plainNumber, .methodLink RX12 138 yX12_plainNumber, .instanceMethod yX12_atom, .selects RX12 yX12_atom yX12_atom, .methodLink RX12 159 yX12_atom, .instanceMethod yX12_term, .selects RX12 yX12_term yX12_term, .methodLink RX12 162 yX12_term, .instanceMethod yX12_sum, .selects RX12 yX12_sum yX12_sum, .methodLink RX12 152 yX12_sum, .code yX12_closes cX12_closes 2 none, .instanceMethod yX12_closes, .selects RX12 yX12_closes yX12_closes, .methodLink RX12 155 yX12_closes]) [1, 2, 3, 4, 5, 6, 7, 8, 9, 10, 11, 12, 13, 14, 15, 16, 17, 18, 19, 20, 21, 22, 23, 24, 25, 26, 27, 28, 29, 30, 31, 1, 32, 33, 34, 35, 36, 37, 38, 39, 40, 41, 42, 43, 44, 45, 46, 47, 48, 49, 50, 51, 52, 53, 54, 55, 56] rfl (by decide +kernel)) (goodIn_sub (fun _ h => List.mem_cons_of_mem _ (List.mem_append_right _ h)) gwX12))
set_option maxRecDepth 20000 in
theorem g_X12_sum_2_1 : GoodIn q_X12_sum_2 (wsV RX12 131 RX12 yX12_look q_X12_look) := goodIn_app (goodIn_r _ [14, 12, 13, 8] rfl (by decide +kernel)) (goodIn_ca (goodIn_r (.code yX12_look cX12_look 1 (some .int) :: [.code yX12_here cX12_here 1 (some .int), .fieldLink RX12 112 "LeftArgumentsModel" "at" "I", .fieldLink RX12 109 "LeftArgumentsModel" "size" "I", .fieldLink RX12 9 "LeftArgumentsModel" "tape" "[I", .initialized RX12, .instanceMethod yX12_here, .selects RX12 yX12_here yX12_here, .methodLink RX12 115 yX12_here]) [3, 4, 5, 6, 7, 8, 9, 10, 11] rfl (by decide +kernel)) (goodIn_sub (fun _ h => List.mem_cons_of_mem _ (List.mem_append_right _ h)) gwX12))
set_option maxRecDepth 20000 in
theorem g_X12_sum_2_3 : GoodIn q_X12_sum_2 (wsV RX12 141 RX12 yX12_put q_X12_put) := goodIn_app (goodIn_r _ [39, 37, 38, 8] rfl (by decide +kernel)) (goodIn_ca (goodIn_r (.code yX12_put cX12_put 3 none :: [.fieldLink RX12 13 "LeftArgumentsModel" "code" "[I", .fieldLink RX12 122 "LeftArgumentsModel" "text" "I", .fieldLink RX12 19 "LeftArgumentsModel" "codes" "[I", .fieldLink RX12 16 "LeftArgumentsModel" "value" "[I"]) [32, 33, 34, 35, 36] rfl (by decide +kernel)) (goodIn_sub (fun _ h => List.mem_cons_of_mem _ (List.mem_append_right _ h)) gwX12))
set_option maxHeartbeats 4000000 in
set_option maxRecDepth 100000 in
theorem k_X12_sum_2 (l : Launch) (dC : Nat → ClassId) (dI : Nat → Nat → Nat) (h0 : Nat) (h1 : Nat) (h2 : Nat) (h3 : Nat) (h4 : Nat) (v0 : Int32) (v1 : Int32) (v2 : Int32) (r0 : Nat) (r1 : Nat) (r2 : Nat) (r3 : Nat) (v3 : Int32) (v4 : Int32) (r4 : Nat) (r5 : Nat) (r6 : Nat) (r7 : Nat) (v5 : Int32) (r8 : Nat) (r9 : Nat) (v6 : Int32) (v7 : Int32) (r10 : Nat) (r11 : Nat) (v8 : Int32) (v9 : Int32) (r12 : Nat) (v10 : Int32) (v11 : Int32) (r13 : Nat) (v12 : Int32) (w13 : Int64) (r14 : Nat) (v14 : Int32) (v15 : Int32) (r15 : Nat) (r16 : Nat) (r17 : Nat) (r18 : Nat) (r19 : Nat) (r20 : Nat) (v16 : Int32) (r21 : Nat) (r22 : Nat) (r23 : Nat) (v17 : Int32) (g0 : ClassId) (f18 : Nat → Int32) (g1 : ClassId) (f19 : Nat → Int32) (g2 : ClassId) (f20 : Nat → Int32) (g3 : ClassId) (f21 : Nat → Int32) (i_v1 : 0 ≤ v1.toInt ∧ v1.toInt ≤ 240) (i_v2 : 0 ≤ v2.toInt ∧ v2.toInt ≤ 240) (i_v3 : 0 ≤ v3.toInt ∧ v3.toInt ≤ 4) (i_v4 : 0 ≤ v4.toInt ∧ v4.toInt ≤ 4) (i_v5 : 0 ≤ v5.toInt ∧ v5.toInt ≤ 8) (i_v6 : 0 ≤ v6.toInt ∧ v6.toInt ≤ 8) (i_v7 : 0 ≤ v7.toInt ∧ v7.toInt ≤ 1) (i_v8 : -1 ≤ v8.toInt ∧ v8.toInt ≤ 3) (i_v12 : 0 ≤ v12.toInt ∧ v12.toInt ≤ 40) (i_v16 : 0 ≤ v16.toInt ∧ v16.toInt ≤ 10) (i_v17 : 0 ≤ v17.toInt ∧ v17.toInt ≤ 1) (ia_f18 : (∀ j, 0 ≤ (f18 j).toInt ∧ (f18 j).toInt ≤ 255)) (pp0 : 0 ≤ pm_x f21 v4 ∧ pm_x f21 v4 ≤ v2.toInt) (sz : Nat) : Met l yX12_sum q_X12_sum_2 ({ frames := 10, cells := 0, slots := 0, locals := 210 }) (va_Pc [.ref h0] (fun U => U.heap.size = sz ∧ va_P (dC, dI) vwCl (wd_d906eaf1 h0 v0 h1 v1 v2 (-1) 4 h2 h3 h4 r0 r1 r2 r3 v3 v4 r4 r5 r6 r7 v5 r8 r9 v6 v7 r10 r11 v8 v9 r12 v10 v11 r13 v12 w13 r14 v14 v15 r15 r16 r17 r18 r19 r20 v16 r21 r22 r23 v17 h1 g0 f18 h2 g1 f19 h3 g2 f20 h4 g3 f21) U.heap ∧ va_K (dC, dI) vwCl [(g0, .int), (g1, .int), (g2, .int), (g3, .int)] U ∧ va_D (fun _ => True) (wd_d906eaf1 h0 v0 h1 v1 v2 (-1) 4 h2 h3 h4 r0 r1 r2 r3 v3 v4 r4 r5 r6 r7 v5 r8 r9 v6 v7 r10 r11 v8 v9 r12 v10 v11 r13 v12 w13 r14 v14 v15 r15 r16 r17 r18 r19 r20 v16 r21 r22 r23 v17 h1 g0 f18 h2 g1 f19 h3 g2 f20 h4 g3 f21))) (va_Qv (fun (_ : Unit) => True) (fun (_ : Unit) (t : State) => (∃ (o_h0_3 : Int32) (o_h2 : Nat → Int32) (o_h3 : Nat → Int32) (o_h4 : Nat → Int32), 0 ≤ o_h0_3.toInt ∧ o_h0_3.toInt ≤ 240 ∧ (pm_x o_h4 v4 - pm_x f21 v4 ≤ o_h0_3.toInt - v2.toInt ∧ v2.toInt ≤ o_h0_3.toInt) ∧ (pm_R v4 0 1 7 f19 f20 f21 o_h2 o_h3 o_h4) ∧ (pg_sum f18 v1.toInt 2 v2.toInt = (true, o_h0_3.toInt)) ∧ va_P (dC, dI) vwCl (wd_d906eaf1 h0 v0 h1 v1 o_h0_3 (-1) 4 h2 h3 h4 r0 r1 r2 r3 v3 v4 r4 r5 r6 r7 v5 r8 r9 v6 v7 r10 r11 v8 v9 r12 v10 v11 r13 v12 w13 r14 v14 v15 r15 r16 r17 r18 r19 r20 v16 r21 r22 r23 v17 h1 g0 f18 h2 g1 o_h2 h3 g2 o_h3 h4 g3 o_h4) t.heap ∧ va_K (dC, dI) vwCl [] t ∧ va_D (va_A (wd_d906eaf1 h0 v0 h1 v1 v2 (-1) 4 h2 h3 h4 r0 r1 r2 r3 v3 v4 r4 r5 r6 r7 v5 r8 r9 v6 v7 r10 r11 v8 v9 r12 v10 v11 r13 v12 w13 r14 v14 v15 r15 r16 r17 r18 r19 r20 v16 r21 r22 r23 v17 h1 g0 f18 h2 g1 f19 h3 g2 f20 h4 g3 f21) sz) (wd_d906eaf1 h0 v0 h1 v1 o_h0_3 (-1) 4 h2 h3 h4 r0 r1 r2 r3 v3 v4 r4 r5 r6 r7 v5 r8 r9 v6 v7 r10 r11 v8 v9 r12 v10 v11 r13 v12 w13 r14 v14 v15 r15 r16 r17 r18 r19 r20 v16 r21 r22 r23 v17 h1 g0 f18 h2 g1 o_h2 h3 g2 o_h3 h4 g3 o_h4)) ∨ (∃ (o_h0_3 : Int32) (o_h0_4 : Int32) (o_h0_5 : Int32) (o_h2 : Nat → Int32) (o_h3 : Nat → Int32) (o_h4 : Nat → Int32), 0 ≤ o_h0_3.toInt ∧ o_h0_3.toInt ≤ 242 ∧ 0 ≤ o_h0_4.toInt ∧ o_h0_4.toInt ≤ 240 ∧ (pm_x o_h4 v4 - pm_x f21 v4 ≤ o_h0_3.toInt - v2.toInt ∧ v2.toInt ≤ o_h0_3.toInt) ∧ (pm_F v4 f19 f20 f21 o_h2 o_h3 o_h4) ∧ (pg_sum f18 v1.toInt 2 v2.toInt = (false, o_h0_4.toInt)) ∧ va_P (dC, dI) vwCl (wd_d906eaf1 h0 v0 h1 v1 o_h0_3 o_h0_4 o_h0_5 h2 h3 h4 r0 r1 r2 r3 v3 v4 r4 r5 r6 r7 v5 r8 r9 v6 v7 r10 r11 v8 v9 r12 v10 v11 r13 v12 w13 r14 v14 v15 r15 r16 r17 r18 r19 r20 v16 r21 r22 r23 v17 h1 g0 f18 h2 g1 o_h2 h3 g2 o_h3 h4 g3 o_h4) t.heap ∧ va_K (dC, dI) vwCl [] t ∧ va_D (va_A (wd_d906eaf1 h0 v0 h1 v1 v2 (-1) 4 h2 h3 h4 r0 r1 r2 r3 v3 v4 r4 r5 r6 r7 v5 r8 r9 v6 v7 r10 r11 v8 v9 r12 v10 v11 r13 v12 w13 r14 v14 v15 r15 r16 r17 r18 r19 r20 v16 r21 r22 r23 v17 h1 g0 f18 h2 g1 f19 h3 g2 f20 h4 g3 f21) sz) (wd_d906eaf1 h0 v0 h1 v1 o_h0_3 o_h0_4 o_h0_5 h2 h3 h4 r0 r1 r2 r3 v3 v4 r4 r5 r6 r7 v5 r8 r9 v6 v7 r10 r11 v8 v9 r12 v10 v11 r13 v12 w13 r14 v14 v15 r15 r16 r17 r18 r19 r20 v16 r21 r22 r23 v17 h1 g0 f18 h2 g1 o_h2 h3 g2 o_h3 h4 g3 o_h4))) (va_A (wd_d906eaf1 h0 v0 h1 v1 v2 (-1) 4 h2 h3 h4 r0 r1 r2 r3 v3 v4 r4 r5 r6 r7 v5 r8 r9 v6 v7 r10 r11 v8 v9 r12 v10 v11 r13 v12 w13 r14 v14 v15 r15 r16 r17 r18 r19 r20 v16 r21 r22 r23 v17 h1 g0 f18 h2 g1 f19 h3 g2 f20 h4 g3 f21) sz)) 0 0 (va_A (wd_d906eaf1 h0 v0 h1 v1 v2 (-1) 4 h2 h3 h4 r0 r1 r2 r3 v3 v4 r4 r5 r6 r7 v5 r8 r9 v6 v7 r10 r11 v8 v9 r12 v10 v11 r13 v12 w13 r14 v14 v15 r15 r16 r17 r18 r19 r20 v16 r21 r22 r23 v17 h1 g0 f18 h2 g1 f19 h3 g2 f20 h4 g3 f21) sz) := by
  refine Met.ofW (cc := cX12_sum) (maxL := 2) (ret := none) (by decide) rfl ?_
  intro p e s m args below meth c s₁ B hml hv
  obtain ⟨i_v1a, i_v1b⟩ := i_v1
  obtain ⟨i_v2a, i_v2b⟩ := i_v2
  obtain ⟨i_v3a, i_v3b⟩ := i_v3
  obtain ⟨i_v4a, i_v4b⟩ := i_v4
  obtain ⟨i_v5a, i_v5b⟩ := i_v5
  obtain ⟨i_v6a, i_v6b⟩ := i_v6
  obtain ⟨i_v7a, i_v7b⟩ := i_v7
  obtain ⟨i_v8a, i_v8b⟩ := i_v8
  obtain ⟨i_v12a, i_v12b⟩ := i_v12
  obtain ⟨i_v16a, i_v16b⟩ := i_v16
  obtain ⟨i_v17a, i_v17b⟩ := i_v17
  obtain ⟨rfl, hsz, hP, hK, hD0⟩ := hv
  have hx := B.exec
  have hb := B.bytes
  have hr := B.returns
  have hts := atoms_spec (ws := q_X12_sum_2) B.pre
  have hown : s.vm.findClass RX12 = some m.cls := findClass_of_methodNamed B.named
  have hlocks := B.notSynchronized
  subst hsz
  have hD := hD0.self (sz := s.heap.size)
  generalize hAe : va_A (wd_d906eaf1 h0 v0 h1 v1 v2 (-1) 4 h2 h3 h4 r0 r1 r2 r3 v3 v4 r4 r5 r6 r7 v5 r8 r9 v6 v7 r10 r11 v8 v9 r12 v10 v11 r13 v12 w13 r14 v14 v15 r15 r16 r17 r18 r19 r20 v16 r21 r22 r23 v17 h1 g0 f18 h2 g1 f19 h3 g2 f20 h4 g3 f21) s.heap.size = A at hD ⊢
  have hA : ∀ q : Nat, s.heap.size ≤ q → A q := fun q h => by rw [← hAe]; exact Or.inr h
  have hS : va_S A s.heap s.heap [] := va_S.rf
  generalize hQ : (MQ below _ _ s 0 0 A) = Q
  have hl := lv_entry ([.ref h0]) (n := 2) (Nat.le_of_ble_eq_true rfl)
  rw [lg_entry_eq]
  generalize (lg_sl ([.ref h0]) ++ List.replicate (2 - (lg_sl ([.ref h0])).length) Slot.unset).toArray = ls at hl ⊢
  have hl : lv_has ls 2 [(0, .ref h0)] := hl
  obtain ⟨H, hH⟩ : ∃ H : Heap, H = s.heap := ⟨_, rfl⟩
  obtain ⟨locs, hlocs⟩ : ∃ y : List Loc, y = [] := ⟨_, rfl⟩
  have hS : va_S A s.heap H locs := by rw [hH, hlocs]; exact va_S.rf
  have hP : va_P (dC, dI) vwCl (wd_d906eaf1 h0 v0 h1 v1 v2 (-1) 4 h2 h3 h4 r0 r1 r2 r3 v3 v4 r4 r5 r6 r7 v5 r8 r9 v6 v7 r10 r11 v8 v9 r12 v10 v11 r13 v12 w13 r14 v14 v15 r15 r16 r17 r18 r19 r20 v16 r21 r22 r23 v17 h1 g0 f18 h2 g1 f19 h3 g2 f20 h4 g3 f21) H := by rw [hH]; exact hP
  rw [← hH, ← hlocs]
  have px1 := pp0.1; have px2 := pp0.2
  have hgR := pm_R.refl (L := 0) v4 f19 f20 f21 px1
  have hgF := hgR.1
  refine lv_aload_n hx hb dX12_sum_0 rfl (lv_at hl 0 rfl) ?_
  have hPc := hP.sub (ws' := (wd_d906eaf1 h0 v0 h1 v1 v2 (-1) 4 h2 h3 h4 r0 r1 r2 r3 v3 v4 r4 r5 r6 r7 v5 r8 r9 v6 v7 r10 r11 v8 v9 r12 v10 v11 r13 v12 w13 r14 v14 v15 r15 r16 r17 r18 r19 r20 v16 r21 r22 r23 v17 h1 g0 f18 h2 g1 f19 h3 g2 f20 h4 g3 f21)) [0, 1, 2, 3, 4] rfl
  have hDc := hD.sub (ws' := (wd_d906eaf1 h0 v0 h1 v1 v2 (-1) 4 h2 h3 h4 r0 r1 r2 r3 v3 v4 r4 r5 r6 r7 v5 r8 r9 v6 v7 r10 r11 v8 v9 r12 v10 v11 r13 v12 w13 r14 v14 v15 r15 r16 r17 r18 r19 r20 v16 r21 r22 r23 v17 h1 g0 f18 h2 g1 f19 h3 g2 f20 h4 g3 f21)) [0, 1, 2, 3, 4] (by decide) rfl
  have hKc := hK.sub (tys' := [(g0, .int), (g1, .int), (g2, .int), (g3, .int)]) [0, 1, 2, 3] rfl
  have hFc := va_free (wc := (wd_d906eaf1 h0 v0 h1 v1 v2 (-1) 4 h2 h3 h4 r0 r1 r2 r3 v3 v4 r4 r5 r6 r7 v5 r8 r9 v6 v7 r10 r11 v8 v9 r12 v10 v11 r13 v12 w13 r14 v14 v15 r15 r16 r17 r18 r19 r20 v16 r21 r22 r23 v17 h1 g0 f18 h2 g1 f19 h3 g2 f20 h4 g3 f21)) hD hS hA [0, 1, 2, 3, 4] rfl
  refine va_callv (va_runV (As := []) (rest := []) ⟨hx, hb, hml, hown, hts⟩ (k_X12_term_2 l dC dI h0 h1 h2 h3 h4 v0 v1 v2 r0 r1 r2 r3 v3 v4 r4 r5 r6 r7 v5 r8 r9 v6 v7 r10 r11 v8 v9 r12 v10 v11 r13 v12 w13 r14 v14 v15 r15 r16 r17 r18 r19 r20 v16 r21 r22 r23 v17 g0 f18 g1 f19 g2 f20 g3 f21 ⟨i_v1a, i_v1b⟩ ⟨i_v2a, i_v2b⟩ ⟨i_v3a, i_v3b⟩ ⟨i_v4a, i_v4b⟩ ⟨i_v5a, i_v5b⟩ ⟨i_v6a, i_v6b⟩ ⟨i_v7a, i_v7b⟩ ⟨i_v8a, i_v8b⟩ ⟨i_v12a, i_v12b⟩ ⟨i_v16a, i_v16b⟩ ⟨i_v17a, i_v17b⟩ ia_f18 pp0 H.size) (cwV 0 hts g_X12_sum_2_0 rfl rfl rfl (by decide +kernel) ⟨Nat.le_of_ble_eq_true rfl, Nat.le_of_ble_eq_true rfl⟩) (pv_PV12 hPc hKc hDc (q0 := 0) rfl) rfl rfl hl.1 rfl (lv_room (Nat.le_of_ble_eq_true rfl)) dX12_sum_1 ⟨Nat.le_of_ble_eq_true rfl, Nat.le_of_ble_eq_true rfl⟩) hS (fun q _ h => hFc q h) hFc (fun u t H1 locs ht hvm hwra1 hB hz1 hk1 hS => ?_)
  rcases hB with hB | hB
  · skip
    obtain ⟨x2, fn3, fn4, fn5, oa_x2, ob_x2, pt0_ra1, pt1_ra1, pt2_ra1, hP1, hK1, hD1⟩ := hB
    rw [ht] at hP1
    obtain ⟨hP2, hD2⟩ := va_join (wr := []) (w1 := (wd_d906eaf1 h0 v0 h1 v1 x2 (-1) 4 h2 h3 h4 r0 r1 r2 r3 v3 v4 r4 r5 r6 r7 v5 r8 r9 v6 v7 r10 r11 v8 v9 r12 v10 v11 r13 v12 w13 r14 v14 v15 r15 r16 r17 r18 r19 r20 v16 r21 r22 r23 v17 h1 g0 f18 h2 g1 fn3 h3 g2 fn4 h4 g3 fn5)) hP hD [0, 1, 2, 3, 4] [] rfl rfl (by decide) (by decide) hk1 hFc hP1 hD1
    clear hP hD hPc hDc hKc hFc hP1 hK1 hD1 hk1 hz1
    generalize H1 = H at hP2 hS ⊢
    have hP : va_P (dC, dI) vwCl (wd_d906eaf1 h0 v0 h1 v1 x2 (-1) 4 h2 h3 h4 r0 r1 r2 r3 v3 v4 r4 r5 r6 r7 v5 r8 r9 v6 v7 r10 r11 v8 v9 r12 v10 v11 r13 v12 w13 r14 v14 v15 r15 r16 r17 r18 r19 r20 v16 r21 r22 r23 v17 h1 g0 f18 h2 g1 fn3 h3 g2 fn4 h4 g3 fn5) H := hP2
    have hD : va_D A (wd_d906eaf1 h0 v0 h1 v1 x2 (-1) 4 h2 h3 h4 r0 r1 r2 r3 v3 v4 r4 r5 r6 r7 v5 r8 r9 v6 v7 r10 r11 v8 v9 r12 v10 v11 r13 v12 w13 r14 v14 v15 r15 r16 r17 r18 r19 r20 v16 r21 r22 r23 v17 h1 g0 f18 h2 g1 fn3 h3 g2 fn4 h4 g3 fn5) := hD2
    clear hP2 hD2
    have hgR := hgR.app (k' := 1) (D := 6) pt1_ra1 (by decide) (by decide) (by decide) (by decide)
    have hgF := hgR.1
    have hxl := hgF.1
    refine lv_aload_n hx hb dX12_sum_4 rfl (lv_at hl 0 rfl) ?_
    refine va_get (D := (dC, dI)) (ci := 12) (v := .int (-1)) (C := RX12) (T := TX12) (N := 48) hx hb hts (fun _ h => List.mem_cons_of_mem _ (List.mem_append_right _ h)) hown hK hP 0 rfl rfl 4 (by decide) (hts (.fieldLink RX12 119 "LeftArgumentsModel" "wrong" "I") (List.mem_cons_of_mem _ (List.mem_append_left _ (List.mem_of_getElem? (i := 21) rfl)))) (fun _ h9 => h9) rfl dX12_sum_5 ?_
    refine lv_iconst (v := (-1)) hx hb dX12_sum_8 (by decide) ?_
    refine lv_icmp_ne (tgt := 19) hx hb dX12_sum_9 (by decide) (fun c => absurd (by decide) c) (fun _ => ?_)
    refine lv_aload_n hx hb dX12_sum_12 rfl (lv_at hl 0 rfl) ?_
    have hPc := hP.sub (ws' := (wd_f4cd022e h0 v0 h1 v1 x2 (-1) 4 h2 h3 h4 r0 r1 r2 r3 v3 v4 r4 r5 r6 r7 v5 r8 r9 v6 v7 r10 r11 v8 v9 r12 v10 v11 r13 v12 w13 r14 v14 v15 r15 r16 r17 r18 r19 r20 v16 r21 r22 r23 v17 h1 g0 f18)) [0, 1] rfl
    have hDc := hD.sub (ws' := (wd_f4cd022e h0 v0 h1 v1 x2 (-1) 4 h2 h3 h4 r0 r1 r2 r3 v3 v4 r4 r5 r6 r7 v5 r8 r9 v6 v7 r10 r11 v8 v9 r12 v10 v11 r13 v12 w13 r14 v14 v15 r15 r16 r17 r18 r19 r20 v16 r21 r22 r23 v17 h1 g0 f18)) [0, 1] (by decide) rfl
    have hKc := hK.sub (tys' := [(g0, .int)]) [0] rfl
    have hFc := va_free (wc := (wd_f4cd022e h0 v0 h1 v1 x2 (-1) 4 h2 h3 h4 r0 r1 r2 r3 v3 v4 r4 r5 r6 r7 v5 r8 r9 v6 v7 r10 r11 v8 v9 r12 v10 v11 r13 v12 w13 r14 v14 v15 r15 r16 r17 r18 r19 r20 v16 r21 r22 r23 v17 h1 g0 f18)) hD hS hA [0, 1] rfl
    refine va_calli (va_runV (As := []) (rest := []) ⟨hx, hb, hml, hown, hts⟩ (k_X12_look l dC dI h0 h1 v0 v1 x2 ((-1)) 4 h2 h3 h4 r0 r1 r2 r3 v3 v4 r4 r5 r6 r7 v5 r8 r9 v6 v7 r10 r11 v8 v9 r12 v10 v11 r13 v12 w13 r14 v14 v15 r15 r16 r17 r18 r19 r20 v16 r21 r22 r23 v17 g0 f18 ⟨i_v1a, i_v1b⟩ ⟨oa_x2, ob_x2⟩ ⟨i_v3a, i_v3b⟩ ⟨i_v4a, i_v4b⟩ ⟨i_v5a, i_v5b⟩ ⟨i_v6a, i_v6b⟩ ⟨i_v7a, i_v7b⟩ ⟨i_v8a, i_v8b⟩ ⟨i_v12a, i_v12b⟩ ⟨i_v16a, i_v16b⟩ ⟨i_v17a, i_v17b⟩ ia_f18 H.size) (cwV 0 hts g_X12_sum_2_1 rfl rfl rfl (by decide +kernel) ⟨Nat.le_of_ble_eq_true rfl, Nat.le_of_ble_eq_true rfl⟩) (pv_PV12 hPc hKc hDc (q0 := 0) rfl) rfl rfl hl.1 rfl (lv_room (Nat.le_of_ble_eq_true rfl)) dX12_sum_13 ⟨Nat.le_of_ble_eq_true rfl, Nat.le_of_ble_eq_true rfl⟩) hS (fun q _ h => hFc q h) hFc (fun ra6 u t H1 locs ht hvm hwra6 hB hz1 hk1 hS => ?_)
    try rw [hwra6] at hB
    have hkra6_0 : (((-1) : Int32)).toInt = -1 := by decide
    have hkra6_1 : ((4 : Int32)).toInt = 4 := by decide
    rcases hB with hB | hB
    · skip
      obtain ⟨x7, oa_x7, ob_x7, pt0_ra6, pt1_ra6, pt2_ra6, pt3_ra6, pt4_ra6, pt5_ra6, pt6_ra6, hP1, hK1, hD1⟩ := hB
      rw [ht] at hP1
      obtain ⟨hP2, hD2⟩ := va_join (wr := (wd_ad0642e8 h2 g1 fn3 h3 g2 fn4 h4 g3 fn5)) (w1 := (wd_f4cd022e h0 v0 h1 v1 x7 (-1) 4 h2 h3 h4 r0 r1 r2 r3 v3 v4 r4 r5 r6 r7 v5 r8 r9 v6 v7 r10 r11 v8 v9 r12 v10 v11 r13 v12 w13 r14 v14 v15 r15 r16 r17 r18 r19 r20 v16 r21 r22 r23 v17 h1 g0 f18)) hP hD [0, 1] [2, 3, 4] rfl rfl (by decide) (by decide) hk1 hFc hP1 hD1
      clear hP hD hPc hDc hKc hFc hP1 hK1 hD1 hk1 hz1
      generalize H1 = H at hP2 hS ⊢
      have hP := hP2.sub (ws' := (wd_d906eaf1 h0 v0 h1 v1 x7 (-1) 4 h2 h3 h4 r0 r1 r2 r3 v3 v4 r4 r5 r6 r7 v5 r8 r9 v6 v7 r10 r11 v8 v9 r12 v10 v11 r13 v12 w13 r14 v14 v15 r15 r16 r17 r18 r19 r20 v16 r21 r22 r23 v17 h1 g0 f18 h2 g1 fn3 h3 g2 fn4 h4 g3 fn5)) [3, 4, 0, 1, 2] rfl
      have hD := hD2.sub (ws' := (wd_d906eaf1 h0 v0 h1 v1 x7 (-1) 4 h2 h3 h4 r0 r1 r2 r3 v3 v4 r4 r5 r6 r7 v5 r8 r9 v6 v7 r10 r11 v8 v9 r12 v10 v11 r13 v12 w13 r14 v14 v15 r15 r16 r17 r18 r19 r20 v16 r21 r22 r23 v17 h1 g0 f18 h2 g1 fn3 h3 g2 fn4 h4 g3 fn5)) [3, 4, 0, 1, 2] (by decide) rfl
      clear hP2 hD2
      obtain rfl : ra6 = ((-1) : Int32) := pv_cs (by decide) pt0_ra6 pt1_ra6
      refine lv_goto (tgt := 20) hx hb dX12_sum_16 (by decide) ?_
      refine lv_istore_n (lv' := [(1, .int (-1)), (0, .ref h0)]) hx hb dX12_sum_20 rfl hl (by decide) rfl (fun ls hl => ?_)
      refine lv_iload_n hx hb dX12_sum_21 rfl (lv_at hl 0 rfl) ?_
      refine lv_bipush (v := 43) hx hb dX12_sum_22 (by decide) ?_
      refine lv_icmp_eq (tgt := 33) hx hb dX12_sum_24 (by decide) (fun c => absurd c (by decide)) (fun _ => ?_)
      refine lv_iload_n hx hb dX12_sum_27 rfl (lv_at hl 0 rfl) ?_
      refine lv_bipush (v := 45) hx hb dX12_sum_28 (by decide) ?_
      refine lv_icmp_ne (tgt := 83) hx hb dX12_sum_30 (by decide) (fun _ => ?_) (fun c => absurd c (by decide))
      subst hQ
      have hP9 := hP.sub (ws' := (wd_d906eaf1 h0 v0 h1 v1 x7 (-1) 4 h2 h3 h4 r0 r1 r2 r3 v3 v4 r4 r5 r6 r7 v5 r8 r9 v6 v7 r10 r11 v8 v9 r12 v10 v11 r13 v12 w13 r14 v14 v15 r15 r16 r17 r18 r19 r20 v16 r21 r22 r23 v17 h1 g0 f18 h2 g1 fn3 h3 g2 fn4 h4 g3 fn5)) [0, 1, 2, 3, 4] rfl
      have hD9 := hD.sub (ws' := (wd_d906eaf1 h0 v0 h1 v1 x7 (-1) 4 h2 h3 h4 r0 r1 r2 r3 v3 v4 r4 r5 r6 r7 v5 r8 r9 v6 v7 r10 r11 v8 v9 r12 v10 v11 r13 v12 w13 r14 v14 v15 r15 r16 r17 r18 r19 r20 v16 r21 r22 r23 v17 h1 g0 f18 h2 g1 fn3 h3 g2 fn4 h4 g3 fn5)) [0, 1, 2, 3, 4] (by decide) rfl
      have hK9 := hK.sub (tys' := []) [] rfl
      exact W.vret hx hb hr (fun t ht hW => ⟨⟨(), rfl, trivial, Or.inl ⟨x7, fn3, fn4, fn5, oa_x7, ob_x7, by constructor <;> omega, by exact hgR.mono (by decide), by rw [pg_sum.eq]; first | assumption | (apply pg_row.st <;> first | assumption | omega) | (apply pg_L.out <;> first | assumption | omega) | (apply pg_L.last <;> first | assumption | omega), by rw [ht]; exact hP9, va_K.moved hW.alike hK9, hD9⟩⟩, hS.F ht⟩) hS.2.2 dX12_sum_83
    · skip
      obtain ⟨x8, oa_x8, ob_x8, pt0_ra6, pt1_ra6, pt2_ra6, pt3_ra6, pt4_ra6, pt5_ra6, pt6_ra6, pt7_ra6, hP1, hK1, hD1⟩ := hB
      rw [ht] at hP1
      obtain ⟨hP2, hD2⟩ := va_join (wr := (wd_ad0642e8 h2 g1 fn3 h3 g2 fn4 h4 g3 fn5)) (w1 := (wd_f4cd022e h0 v0 h1 v1 x8 (-1) 4 h2 h3 h4 r0 r1 r2 r3 v3 v4 r4 r5 r6 r7 v5 r8 r9 v6 v7 r10 r11 v8 v9 r12 v10 v11 r13 v12 w13 r14 v14 v15 r15 r16 r17 r18 r19 r20 v16 r21 r22 r23 v17 h1 g0 f18)) hP hD [0, 1] [2, 3, 4] rfl rfl (by decide) (by decide) hk1 hFc hP1 hD1
      clear hP hD hPc hDc hKc hFc hP1 hK1 hD1 hk1 hz1
      generalize H1 = H at hP2 hS ⊢
      have hP := hP2.sub (ws' := (wd_d906eaf1 h0 v0 h1 v1 x8 (-1) 4 h2 h3 h4 r0 r1 r2 r3 v3 v4 r4 r5 r6 r7 v5 r8 r9 v6 v7 r10 r11 v8 v9 r12 v10 v11 r13 v12 w13 r14 v14 v15 r15 r16 r17 r18 r19 r20 v16 r21 r22 r23 v17 h1 g0 f18 h2 g1 fn3 h3 g2 fn4 h4 g3 fn5)) [3, 4, 0, 1, 2] rfl
      have hD := hD2.sub (ws' := (wd_d906eaf1 h0 v0 h1 v1 x8 (-1) 4 h2 h3 h4 r0 r1 r2 r3 v3 v4 r4 r5 r6 r7 v5 r8 r9 v6 v7 r10 r11 v8 v9 r12 v10 v11 r13 v12 w13 r14 v14 v15 r15 r16 r17 r18 r19 r20 v16 r21 r22 r23 v17 h1 g0 f18 h2 g1 fn3 h3 g2 fn4 h4 g3 fn5)) [3, 4, 0, 1, 2] (by decide) rfl
      clear hP2 hD2
      refine lv_goto (tgt := 20) hx hb dX12_sum_16 (by decide) ?_
      refine lv_istore_n (lv' := [(1, .int ra6), (0, .ref h0)]) hx hb dX12_sum_20 rfl hl (by decide) rfl (fun ls hl => ?_)
      have hL19 : ∀ (n9 : Nat), ∀ (x9 : Int32) (x10 : Int32) (fn11 : Nat → Int32) (fn12 : Nat → Int32) (fn13 : Nat → Int32) (H : Heap) (locs : List Loc) (ls : Array Slot), 0 ≤ x9.toInt → x9.toInt ≤ 255 → 0 ≤ x10.toInt → x10.toInt ≤ 239 → (pm_x fn13 v4 - pm_x f21 v4 ≤ x10.toInt - v2.toInt ∧ v2.toInt ≤ x10.toInt) → (pm_R v4 0 1 7 f19 f20 f21 fn11 fn12 fn13) → (pg_L f18 v1.toInt 43 45 (pg_term f18 v1.toInt 2) x10.toInt (pg_row f18 v1.toInt 43 45 (pg_term f18 v1.toInt 2) v2.toInt)) → (x9.toInt = pg_ch f18 v1.toInt x10.toInt) → (¬ pg_ch f18 v1.toInt x10.toInt = 32) → (300 - x10.toInt).toNat < n9 → va_P (dC, dI) vwCl (wd_d906eaf1 h0 v0 h1 v1 x10 (-1) 4 h2 h3 h4 r0 r1 r2 r3 v3 v4 r4 r5 r6 r7 v5 r8 r9 v6 v7 r10 r11 v8 v9 r12 v10 v11 r13 v12 w13 r14 v14 v15 r15 r16 r17 r18 r19 r20 v16 r21 r22 r23 v17 h1 g0 f18 h2 g1 fn11 h3 g2 fn12 h4 g3 fn13) H → va_D A (wd_d906eaf1 h0 v0 h1 v1 x10 (-1) 4 h2 h3 h4 r0 r1 r2 r3 v3 v4 r4 r5 r6 r7 v5 r8 r9 v6 v7 r10 r11 v8 v9 r12 v10 v11 r13 v12 w13 r14 v14 v15 r15 r16 r17 r18 r19 r20 v16 r21 r22 r23 v17 h1 g0 f18 h2 g1 fn11 h3 g2 fn12 h4 g3 fn13) → va_S A s.heap H locs → lv_has ls 2 [(1, .int x9), (0, .ref h0)] → W p l e ({ frames := 10, cells := 0, slots := 0, locals := 210 }) s m ([.ref h0] : List Value).toArray below meth c H locs 0 0 Q (F0 m 21 ls []) := by
        intro n9
        induction n9 with
        | zero => intro x9 x10 fn11 fn12 fn13 H locs ls qa_x9 qb_x9 qa_x10 qb_x10 gh0_hL19 gh1_hL19 gh2_hL19 gh3_hL19 gh4_hL19 hm9 hP hD hS hl; exact absurd hm9 (Nat.not_lt_zero _)
        | succ n9 ih_hL19 =>
          intro x9 x10 fn11 fn12 fn13 H locs ls qa_x9 qb_x9 qa_x10 qb_x10 gh0_hL19 gh1_hL19 gh2_hL19 gh3_hL19 gh4_hL19 hm9 hP hD hS hl
          have hgR := gh1_hL19; have hgF := hgR.1; have hxl := hgF.1
          refine lv_iload_n hx hb dX12_sum_21 rfl (lv_at hl 0 rfl) ?_
          refine lv_bipush (v := 43) hx hb dX12_sum_22 (by decide) ?_
          refine lv_icmp_eq (tgt := 33) hx hb dX12_sum_24 (by decide) (fun c20 => ?_) (fun c20 => ?_)
          · skip
            have fc20 : x9.toInt = 43 := congrArg Int32.toInt c20
            refine lv_aload_n hx hb dX12_sum_33 rfl (lv_at hl 1 rfl) ?_
            refine lv_dup hx hb dX12_sum_34 rfl ?_
            refine va_get (D := (dC, dI)) (ci := 12) (v := .int x10) (C := RX12) (T := TX12) (N := 48) hx hb hts (fun _ h => List.mem_cons_of_mem _ (List.mem_append_right _ h)) hown hK hP 0 rfl rfl 3 (by decide) (hts (.fieldLink RX12 112 "LeftArgumentsModel" "at" "I") (List.mem_cons_of_mem _ (List.mem_append_left _ (List.mem_of_getElem? (i := 4) rfl)))) (fun _ h9 => h9) rfl dX12_sum_35 ?_
            refine lv_iconst (v := 1) hx hb dX12_sum_38 (by decide) ?_
            refine lv_iadd hx hb dX12_sum_39 ?_
            refine lv_topi (fun t21 et21 => ?_)
            have gt21 : t21.toInt = x10.toInt + 1 := pv_add (a := x10.toInt) (b := 1) et21 rfl (by decide) (by omega) (by omega)
            refine va_put (D := (dC, dI)) (ci := 12) (v := .int t21) (ty := .int) (C := RX12) (T := TX12) (N := 48) hx hb hts (fun _ h => List.mem_cons_of_mem _ (List.mem_append_right _ h)) tyX12 tyX12_ok nmX12 hown hK hP hD hS 0 rfl rfl 3 (by decide) (hts (.fieldLink RX12 112 "LeftArgumentsModel" "at" "I") (List.mem_cons_of_mem _ (List.mem_append_left _ (List.mem_of_getElem? (i := 4) rfl)))) (fun _ h9 => h9) rfl (by decide +kernel) rfl rfl (Nat.le_of_ble_eq_true rfl) dX12_sum_40 (fun H locs hP hD hS => ?_)
            have hP : va_P (dC, dI) vwCl (wd_d906eaf1 h0 v0 h1 v1 t21 (-1) 4 h2 h3 h4 r0 r1 r2 r3 v3 v4 r4 r5 r6 r7 v5 r8 r9 v6 v7 r10 r11 v8 v9 r12 v10 v11 r13 v12 w13 r14 v14 v15 r15 r16 r17 r18 r19 r20 v16 r21 r22 r23 v17 h1 g0 f18 h2 g1 fn11 h3 g2 fn12 h4 g3 fn13) H := hP
            have hD : va_D A (wd_d906eaf1 h0 v0 h1 v1 t21 (-1) 4 h2 h3 h4 r0 r1 r2 r3 v3 v4 r4 r5 r6 r7 v5 r8 r9 v6 v7 r10 r11 v8 v9 r12 v10 v11 r13 v12 w13 r14 v14 v15 r15 r16 r17 r18 r19 r20 v16 r21 r22 r23 v17 h1 g0 f18 h2 g1 fn11 h3 g2 fn12 h4 g3 fn13) := hD
            refine lv_aload_n hx hb dX12_sum_43 rfl (lv_at hl 1 rfl) ?_
            have hPc := hP.sub (ws' := (wd_d906eaf1 h0 v0 h1 v1 t21 (-1) 4 h2 h3 h4 r0 r1 r2 r3 v3 v4 r4 r5 r6 r7 v5 r8 r9 v6 v7 r10 r11 v8 v9 r12 v10 v11 r13 v12 w13 r14 v14 v15 r15 r16 r17 r18 r19 r20 v16 r21 r22 r23 v17 h1 g0 f18 h2 g1 fn11 h3 g2 fn12 h4 g3 fn13)) [0, 1, 2, 3, 4] rfl
            have hDc := hD.sub (ws' := (wd_d906eaf1 h0 v0 h1 v1 t21 (-1) 4 h2 h3 h4 r0 r1 r2 r3 v3 v4 r4 r5 r6 r7 v5 r8 r9 v6 v7 r10 r11 v8 v9 r12 v10 v11 r13 v12 w13 r14 v14 v15 r15 r16 r17 r18 r19 r20 v16 r21 r22 r23 v17 h1 g0 f18 h2 g1 fn11 h3 g2 fn12 h4 g3 fn13)) [0, 1, 2, 3, 4] (by decide) rfl
            have hKc := hK.sub (tys' := [(g0, .int), (g1, .int), (g2, .int), (g3, .int)]) [0, 1, 2, 3] rfl
            have hFc := va_free (wc := (wd_d906eaf1 h0 v0 h1 v1 t21 (-1) 4 h2 h3 h4 r0 r1 r2 r3 v3 v4 r4 r5 r6 r7 v5 r8 r9 v6 v7 r10 r11 v8 v9 r12 v10 v11 r13 v12 w13 r14 v14 v15 r15 r16 r17 r18 r19 r20 v16 r21 r22 r23 v17 h1 g0 f18 h2 g1 fn11 h3 g2 fn12 h4 g3 fn13)) hD hS hA [0, 1, 2, 3, 4] rfl
            refine va_callv (va_runV (As := []) (rest := []) ⟨hx, hb, hml, hown, hts⟩ (k_X12_term_2 l dC dI h0 h1 h2 h3 h4 v0 v1 t21 r0 r1 r2 r3 v3 v4 r4 r5 r6 r7 v5 r8 r9 v6 v7 r10 r11 v8 v9 r12 v10 v11 r13 v12 w13 r14 v14 v15 r15 r16 r17 r18 r19 r20 v16 r21 r22 r23 v17 g0 f18 g1 fn11 g2 fn12 g3 fn13 ⟨i_v1a, i_v1b⟩ ⟨by first | omega | decide, by first | omega | decide⟩ ⟨i_v3a, i_v3b⟩ ⟨i_v4a, i_v4b⟩ ⟨i_v5a, i_v5b⟩ ⟨i_v6a, i_v6b⟩ ⟨i_v7a, i_v7b⟩ ⟨i_v8a, i_v8b⟩ ⟨i_v12a, i_v12b⟩ ⟨i_v16a, i_v16b⟩ ⟨i_v17a, i_v17b⟩ ia_f18 (by constructor <;> omega) H.size) (cwV 0 hts g_X12_sum_2_0 rfl rfl rfl (by decide +kernel) ⟨Nat.le_of_ble_eq_true rfl, Nat.le_of_ble_eq_true rfl⟩) (pv_PV12 hPc hKc hDc (q0 := 0) rfl) rfl rfl hl.1 rfl (lv_room (Nat.le_of_ble_eq_true rfl)) dX12_sum_44 ⟨Nat.le_of_ble_eq_true rfl, Nat.le_of_ble_eq_true rfl⟩) hS (fun q _ h => hFc q h) hFc (fun u t H1 locs ht hvm hwra22 hB hz1 hk1 hS => ?_)
            rcases hB with hB | hB
            · skip
              obtain ⟨x23, fn24, fn25, fn26, oa_x23, ob_x23, pt0_ra22, pt1_ra22, pt2_ra22, hP1, hK1, hD1⟩ := hB
              rw [ht] at hP1
              obtain ⟨hP2, hD2⟩ := va_join (wr := []) (w1 := (wd_d906eaf1 h0 v0 h1 v1 x23 (-1) 4 h2 h3 h4 r0 r1 r2 r3 v3 v4 r4 r5 r6 r7 v5 r8 r9 v6 v7 r10 r11 v8 v9 r12 v10 v11 r13 v12 w13 r14 v14 v15 r15 r16 r17 r18 r19 r20 v16 r21 r22 r23 v17 h1 g0 f18 h2 g1 fn24 h3 g2 fn25 h4 g3 fn26)) hP hD [0, 1, 2, 3, 4] [] rfl rfl (by decide) (by decide) hk1 hFc hP1 hD1
              clear hP hD hPc hDc hKc hFc hP1 hK1 hD1 hk1 hz1
              generalize H1 = H at hP2 hS ⊢
              have hP : va_P (dC, dI) vwCl (wd_d906eaf1 h0 v0 h1 v1 x23 (-1) 4 h2 h3 h4 r0 r1 r2 r3 v3 v4 r4 r5 r6 r7 v5 r8 r9 v6 v7 r10 r11 v8 v9 r12 v10 v11 r13 v12 w13 r14 v14 v15 r15 r16 r17 r18 r19 r20 v16 r21 r22 r23 v17 h1 g0 f18 h2 g1 fn24 h3 g2 fn25 h4 g3 fn26) H := hP2
              have hD : va_D A (wd_d906eaf1 h0 v0 h1 v1 x23 (-1) 4 h2 h3 h4 r0 r1 r2 r3 v3 v4 r4 r5 r6 r7 v5 r8 r9 v6 v7 r10 r11 v8 v9 r12 v10 v11 r13 v12 w13 r14 v14 v15 r15 r16 r17 r18 r19 r20 v16 r21 r22 r23 v17 h1 g0 f18 h2 g1 fn24 h3 g2 fn25 h4 g3 fn26) := hD2
              clear hP2 hD2
              have hgR := hgR.app (k' := 2) (D := 7) pt1_ra22 (by decide) (by decide) (by decide) (by decide)
              have hgF := hgR.1
              have hxl := hgF.1
              refine lv_aload_n hx hb dX12_sum_47 rfl (lv_at hl 1 rfl) ?_
              refine lv_iload_n hx hb dX12_sum_48 rfl (lv_at hl 0 rfl) ?_
              refine lv_bipush (v := 43) hx hb dX12_sum_49 (by decide) ?_
              refine lv_icmp_ne (tgt := 58) hx hb dX12_sum_51 (by decide) (fun c27 => by exfalso; have fc27 : ¬ (x9.toInt = 43) := fun h9 => c27 (Int32.toInt_inj.mp h9); omega) (fun _ => ?_)
              refine lv_iconst (v := 2) hx hb dX12_sum_54 (by decide) ?_
              refine lv_goto (tgt := 59) hx hb dX12_sum_55 (by decide) ?_
              refine lv_iconst (v := 0) hx hb dX12_sum_59 (by decide) ?_
              have hPc := hP.sub (ws' := (wd_c62683a8 h0 v0 h1 v1 x23 (-1) 4 h2 h3 h4 r0 r1 r2 r3 v3 v4 r4 r5 r6 r7 v5 r8 r9 v6 v7 r10 r11 v8 v9 r12 v10 v11 r13 v12 w13 r14 v14 v15 r15 r16 r17 r18 r19 r20 v16 r21 r22 r23 v17 h2 g1 fn24 h3 g2 fn25 h4 g3 fn26)) [0, 2, 3, 4] rfl
              have hDc := hD.sub (ws' := (wd_c62683a8 h0 v0 h1 v1 x23 (-1) 4 h2 h3 h4 r0 r1 r2 r3 v3 v4 r4 r5 r6 r7 v5 r8 r9 v6 v7 r10 r11 v8 v9 r12 v10 v11 r13 v12 w13 r14 v14 v15 r15 r16 r17 r18 r19 r20 v16 r21 r22 r23 v17 h2 g1 fn24 h3 g2 fn25 h4 g3 fn26)) [0, 2, 3, 4] (by decide) rfl
              have hKc := hK.sub (tys' := [(g1, .int), (g2, .int), (g3, .int)]) [1, 2, 3] rfl
              have hFc := va_free (wc := (wd_c62683a8 h0 v0 h1 v1 x23 (-1) 4 h2 h3 h4 r0 r1 r2 r3 v3 v4 r4 r5 r6 r7 v5 r8 r9 v6 v7 r10 r11 v8 v9 r12 v10 v11 r13 v12 w13 r14 v14 v15 r15 r16 r17 r18 r19 r20 v16 r21 r22 r23 v17 h2 g1 fn24 h3 g2 fn25 h4 g3 fn26)) hD hS hA [0, 2, 3, 4] rfl
              refine va_callv (va_runV (As := [.int 2, .int 0]) (rest := []) ⟨hx, hb, hml, hown, hts⟩ (k_X12_put l dC dI h0 h2 h3 h4 v0 h1 v1 x23 ((-1)) 4 r0 r1 r2 r3 v3 v4 r4 r5 r6 r7 v5 r8 r9 v6 v7 r10 r11 v8 v9 r12 v10 v11 r13 v12 w13 r14 v14 v15 r15 r16 r17 r18 r19 r20 v16 r21 r22 r23 v17 g1 fn24 g2 fn25 g3 fn26 2 0 ⟨i_v1a, i_v1b⟩ ⟨i_v3a, i_v3b⟩ ⟨i_v4a, i_v4b⟩ ⟨i_v5a, i_v5b⟩ ⟨i_v6a, i_v6b⟩ ⟨i_v7a, i_v7b⟩ ⟨i_v8a, i_v8b⟩ ⟨i_v12a, i_v12b⟩ ⟨i_v16a, i_v16b⟩ ⟨i_v17a, i_v17b⟩ (by constructor <;> omega) H.size) (cwV 2 hts g_X12_sum_2_3 rfl rfl rfl (by decide +kernel) ⟨Nat.le_of_ble_eq_true rfl, Nat.le_of_ble_eq_true rfl⟩) (pv_PV12 hPc hKc hDc (q0 := 0) rfl) rfl rfl hl.1 rfl (lv_room (Nat.le_of_ble_eq_true rfl)) dX12_sum_60 ⟨Nat.le_of_ble_eq_true rfl, Nat.le_of_ble_eq_true rfl⟩) hS (fun q _ h => hFc q h) hFc (fun u t H1 locs ht hvm hwra28 hB hz1 hk1 hS => ?_)
              have hkra28_0 : (((-1) : Int32)).toInt = -1 := by decide
              have hkra28_1 : ((0 : Int32)).toInt = 0 := by decide
              have hkra28_2 : ((2 : Int32)).toInt = 2 := by decide
              have hkra28_3 : ((4 : Int32)).toInt = 4 := by decide
              obtain ⟨fn29, fn30, fn31, pt0_ra28, hP1, hK1, hD1⟩ := hB
              rw [ht] at hP1
              obtain ⟨hP2, hD2⟩ := va_join (wr := (wd_d0032b31 h1 g0 f18)) (w1 := (wd_c62683a8 h0 v0 h1 v1 x23 (-1) 4 h2 h3 h4 r0 r1 r2 r3 v3 v4 r4 r5 r6 r7 v5 r8 r9 v6 v7 r10 r11 v8 v9 r12 v10 v11 r13 v12 w13 r14 v14 v15 r15 r16 r17 r18 r19 r20 v16 r21 r22 r23 v17 h2 g1 fn29 h3 g2 fn30 h4 g3 fn31)) hP hD [0, 2, 3, 4] [1] rfl rfl (by decide) (by decide) hk1 hFc hP1 hD1
              clear hP hD hPc hDc hKc hFc hP1 hK1 hD1 hk1 hz1
              generalize H1 = H at hP2 hS ⊢
              have hP := hP2.sub (ws' := (wd_d906eaf1 h0 v0 h1 v1 x23 (-1) 4 h2 h3 h4 r0 r1 r2 r3 v3 v4 r4 r5 r6 r7 v5 r8 r9 v6 v7 r10 r11 v8 v9 r12 v10 v11 r13 v12 w13 r14 v14 v15 r15 r16 r17 r18 r19 r20 v16 r21 r22 r23 v17 h1 g0 f18 h2 g1 fn29 h3 g2 fn30 h4 g3 fn31)) [1, 0, 2, 3, 4] rfl
              have hD := hD2.sub (ws' := (wd_d906eaf1 h0 v0 h1 v1 x23 (-1) 4 h2 h3 h4 r0 r1 r2 r3 v3 v4 r4 r5 r6 r7 v5 r8 r9 v6 v7 r10 r11 v8 v9 r12 v10 v11 r13 v12 w13 r14 v14 v15 r15 r16 r17 r18 r19 r20 v16 r21 r22 r23 v17 h1 g0 f18 h2 g1 fn29 h3 g2 fn30 h4 g3 fn31)) [1, 0, 2, 3, 4] (by decide) rfl
              clear hP2 hD2
              have hgR := hgR.bin (k' := 1) (D := 7) pt0_ra28 (by decide) (by decide) (by decide) (by decide) (by decide)
              have hgF := hgR.1
              have hxl := hgF.1
              have hxs := pt0_ra28.step
              refine lv_aload_n hx hb dX12_sum_63 rfl (lv_at hl 1 rfl) ?_
              refine va_get (D := (dC, dI)) (ci := 12) (v := .int (-1)) (C := RX12) (T := TX12) (N := 48) hx hb hts (fun _ h => List.mem_cons_of_mem _ (List.mem_append_right _ h)) hown hK hP 0 rfl rfl 4 (by decide) (hts (.fieldLink RX12 119 "LeftArgumentsModel" "wrong" "I") (List.mem_cons_of_mem _ (List.mem_append_left _ (List.mem_of_getElem? (i := 21) rfl)))) (fun _ h9 => h9) rfl dX12_sum_64 ?_
              refine lv_iconst (v := (-1)) hx hb dX12_sum_67 (by decide) ?_
              refine lv_icmp_ne (tgt := 78) hx hb dX12_sum_68 (by decide) (fun c => absurd (by decide) c) (fun _ => ?_)
              refine lv_aload_n hx hb dX12_sum_71 rfl (lv_at hl 1 rfl) ?_
              have hPc := hP.sub (ws' := (wd_f4cd022e h0 v0 h1 v1 x23 (-1) 4 h2 h3 h4 r0 r1 r2 r3 v3 v4 r4 r5 r6 r7 v5 r8 r9 v6 v7 r10 r11 v8 v9 r12 v10 v11 r13 v12 w13 r14 v14 v15 r15 r16 r17 r18 r19 r20 v16 r21 r22 r23 v17 h1 g0 f18)) [0, 1] rfl
              have hDc := hD.sub (ws' := (wd_f4cd022e h0 v0 h1 v1 x23 (-1) 4 h2 h3 h4 r0 r1 r2 r3 v3 v4 r4 r5 r6 r7 v5 r8 r9 v6 v7 r10 r11 v8 v9 r12 v10 v11 r13 v12 w13 r14 v14 v15 r15 r16 r17 r18 r19 r20 v16 r21 r22 r23 v17 h1 g0 f18)) [0, 1] (by decide) rfl
              have hKc := hK.sub (tys' := [(g0, .int)]) [0] rfl
              have hFc := va_free (wc := (wd_f4cd022e h0 v0 h1 v1 x23 (-1) 4 h2 h3 h4 r0 r1 r2 r3 v3 v4 r4 r5 r6 r7 v5 r8 r9 v6 v7 r10 r11 v8 v9 r12 v10 v11 r13 v12 w13 r14 v14 v15 r15 r16 r17 r18 r19 r20 v16 r21 r22 r23 v17 h1 g0 f18)) hD hS hA [0, 1] rfl
              refine va_calli (va_runV (As := []) (rest := []) ⟨hx, hb, hml, hown, hts⟩ (k_X12_look l dC dI h0 h1 v0 v1 x23 ((-1)) 4 h2 h3 h4 r0 r1 r2 r3 v3 v4 r4 r5 r6 r7 v5 r8 r9 v6 v7 r10 r11 v8 v9 r12 v10 v11 r13 v12 w13 r14 v14 v15 r15 r16 r17 r18 r19 r20 v16 r21 r22 r23 v17 g0 f18 ⟨i_v1a, i_v1b⟩ ⟨oa_x23, ob_x23⟩ ⟨i_v3a, i_v3b⟩ ⟨i_v4a, i_v4b⟩ ⟨i_v5a, i_v5b⟩ ⟨i_v6a, i_v6b⟩ ⟨i_v7a, i_v7b⟩ ⟨i_v8a, i_v8b⟩ ⟨i_v12a, i_v12b⟩ ⟨i_v16a, i_v16b⟩ ⟨i_v17a, i_v17b⟩ ia_f18 H.size) (cwV 0 hts g_X12_sum_2_1 rfl rfl rfl (by decide +kernel) ⟨Nat.le_of_ble_eq_true rfl, Nat.le_of_ble_eq_true rfl⟩) (pv_PV12 hPc hKc hDc (q0 := 0) rfl) rfl rfl hl.1 rfl (lv_room (Nat.le_of_ble_eq_true rfl)) dX12_sum_72 ⟨Nat.le_of_ble_eq_true rfl, Nat.le_of_ble_eq_true rfl⟩) hS (fun q _ h => hFc q h) hFc (fun ra32 u t H1 locs ht hvm hwra32 hB hz1 hk1 hS => ?_)
              try rw [hwra32] at hB
              have hkra32_0 : (((-1) : Int32)).toInt = -1 := by decide
              have hkra32_1 : ((4 : Int32)).toInt = 4 := by decide
              rcases hB with hB | hB
              · skip
                obtain ⟨x33, oa_x33, ob_x33, pt0_ra32, pt1_ra32, pt2_ra32, pt3_ra32, pt4_ra32, pt5_ra32, pt6_ra32, hP1, hK1, hD1⟩ := hB
                rw [ht] at hP1
                obtain ⟨hP2, hD2⟩ := va_join (wr := (wd_ad0642e8 h2 g1 fn29 h3 g2 fn30 h4 g3 fn31)) (w1 := (wd_f4cd022e h0 v0 h1 v1 x33 (-1) 4 h2 h3 h4 r0 r1 r2 r3 v3 v4 r4 r5 r6 r7 v5 r8 r9 v6 v7 r10 r11 v8 v9 r12 v10 v11 r13 v12 w13 r14 v14 v15 r15 r16 r17 r18 r19 r20 v16 r21 r22 r23 v17 h1 g0 f18)) hP hD [0, 1] [2, 3, 4] rfl rfl (by decide) (by decide) hk1 hFc hP1 hD1
                clear hP hD hPc hDc hKc hFc hP1 hK1 hD1 hk1 hz1
                generalize H1 = H at hP2 hS ⊢
                have hP := hP2.sub (ws' := (wd_d906eaf1 h0 v0 h1 v1 x33 (-1) 4 h2 h3 h4 r0 r1 r2 r3 v3 v4 r4 r5 r6 r7 v5 r8 r9 v6 v7 r10 r11 v8 v9 r12 v10 v11 r13 v12 w13 r14 v14 v15 r15 r16 r17 r18 r19 r20 v16 r21 r22 r23 v17 h1 g0 f18 h2 g1 fn29 h3 g2 fn30 h4 g3 fn31)) [3, 4, 0, 1, 2] rfl
                have hD := hD2.sub (ws' := (wd_d906eaf1 h0 v0 h1 v1 x33 (-1) 4 h2 h3 h4 r0 r1 r2 r3 v3 v4 r4 r5 r6 r7 v5 r8 r9 v6 v7 r10 r11 v8 v9 r12 v10 v11 r13 v12 w13 r14 v14 v15 r15 r16 r17 r18 r19 r20 v16 r21 r22 r23 v17 h1 g0 f18 h2 g1 fn29 h3 g2 fn30 h4 g3 fn31)) [3, 4, 0, 1, 2] (by decide) rfl
                clear hP2 hD2
                obtain rfl : ra32 = ((-1) : Int32) := pv_cs (by decide) pt0_ra32 pt1_ra32
                refine lv_goto (tgt := 79) hx hb dX12_sum_75 (by decide) ?_
                refine lv_istore_n (lv' := [(1, .int (-1)), (0, .ref h0)]) hx hb dX12_sum_79 rfl hl (by decide) rfl (fun ls hl => ?_)
                refine lv_goto (tgt := 21) hx hb dX12_sum_80 (by decide) ?_
                refine lv_iload_n hx hb dX12_sum_21 rfl (lv_at hl 0 rfl) ?_
                refine lv_bipush (v := 43) hx hb dX12_sum_22 (by decide) ?_
                refine lv_icmp_eq (tgt := 33) hx hb dX12_sum_24 (by decide) (fun c => absurd c (by decide)) (fun _ => ?_)
                refine lv_iload_n hx hb dX12_sum_27 rfl (lv_at hl 0 rfl) ?_
                refine lv_bipush (v := 45) hx hb dX12_sum_28 (by decide) ?_
                refine lv_icmp_ne (tgt := 83) hx hb dX12_sum_30 (by decide) (fun _ => ?_) (fun c => absurd c (by decide))
                subst hQ
                have hP9 := hP.sub (ws' := (wd_d906eaf1 h0 v0 h1 v1 x33 (-1) 4 h2 h3 h4 r0 r1 r2 r3 v3 v4 r4 r5 r6 r7 v5 r8 r9 v6 v7 r10 r11 v8 v9 r12 v10 v11 r13 v12 w13 r14 v14 v15 r15 r16 r17 r18 r19 r20 v16 r21 r22 r23 v17 h1 g0 f18 h2 g1 fn29 h3 g2 fn30 h4 g3 fn31)) [0, 1, 2, 3, 4] rfl
                have hD9 := hD.sub (ws' := (wd_d906eaf1 h0 v0 h1 v1 x33 (-1) 4 h2 h3 h4 r0 r1 r2 r3 v3 v4 r4 r5 r6 r7 v5 r8 r9 v6 v7 r10 r11 v8 v9 r12 v10 v11 r13 v12 w13 r14 v14 v15 r15 r16 r17 r18 r19 r20 v16 r21 r22 r23 v17 h1 g0 f18 h2 g1 fn29 h3 g2 fn30 h4 g3 fn31)) [0, 1, 2, 3, 4] (by decide) rfl
                have hK9 := hK.sub (tys' := []) [] rfl
                exact W.vret hx hb hr (fun t ht hW => ⟨⟨(), rfl, trivial, Or.inl ⟨x33, fn29, fn30, fn31, oa_x33, ob_x33, by constructor <;> omega, by exact hgR.mono (by decide), by rw [pg_sum.eq]; first | assumption | (apply pg_row.st <;> first | assumption | omega) | (apply pg_L.out <;> first | assumption | omega) | (apply pg_L.last <;> first | assumption | omega), by rw [ht]; exact hP9, va_K.moved hW.alike hK9, hD9⟩⟩, hS.F ht⟩) hS.2.2 dX12_sum_83
              · skip
                obtain ⟨x34, oa_x34, ob_x34, pt0_ra32, pt1_ra32, pt2_ra32, pt3_ra32, pt4_ra32, pt5_ra32, pt6_ra32, pt7_ra32, hP1, hK1, hD1⟩ := hB
                rw [ht] at hP1
                obtain ⟨hP2, hD2⟩ := va_join (wr := (wd_ad0642e8 h2 g1 fn29 h3 g2 fn30 h4 g3 fn31)) (w1 := (wd_f4cd022e h0 v0 h1 v1 x34 (-1) 4 h2 h3 h4 r0 r1 r2 r3 v3 v4 r4 r5 r6 r7 v5 r8 r9 v6 v7 r10 r11 v8 v9 r12 v10 v11 r13 v12 w13 r14 v14 v15 r15 r16 r17 r18 r19 r20 v16 r21 r22 r23 v17 h1 g0 f18)) hP hD [0, 1] [2, 3, 4] rfl rfl (by decide) (by decide) hk1 hFc hP1 hD1
                clear hP hD hPc hDc hKc hFc hP1 hK1 hD1 hk1 hz1
                generalize H1 = H at hP2 hS ⊢
                have hP := hP2.sub (ws' := (wd_d906eaf1 h0 v0 h1 v1 x34 (-1) 4 h2 h3 h4 r0 r1 r2 r3 v3 v4 r4 r5 r6 r7 v5 r8 r9 v6 v7 r10 r11 v8 v9 r12 v10 v11 r13 v12 w13 r14 v14 v15 r15 r16 r17 r18 r19 r20 v16 r21 r22 r23 v17 h1 g0 f18 h2 g1 fn29 h3 g2 fn30 h4 g3 fn31)) [3, 4, 0, 1, 2] rfl
                have hD := hD2.sub (ws' := (wd_d906eaf1 h0 v0 h1 v1 x34 (-1) 4 h2 h3 h4 r0 r1 r2 r3 v3 v4 r4 r5 r6 r7 v5 r8 r9 v6 v7 r10 r11 v8 v9 r12 v10 v11 r13 v12 w13 r14 v14 v15 r15 r16 r17 r18 r19 r20 v16 r21 r22 r23 v17 h1 g0 f18 h2 g1 fn29 h3 g2 fn30 h4 g3 fn31)) [3, 4, 0, 1, 2] (by decide) rfl
                clear hP2 hD2
                refine lv_goto (tgt := 79) hx hb dX12_sum_75 (by decide) ?_
                refine lv_istore_n (lv' := [(1, .int ra32), (0, .ref h0)]) hx hb dX12_sum_79 rfl hl (by decide) rfl (fun ls hl => ?_)
                refine lv_goto (tgt := 21) hx hb dX12_sum_80 (by decide) ?_
                exact ih_hL19 ra32 x34 fn29 fn30 fn31 H locs ls (by first | omega | decide) (by first | omega | decide) oa_x34 ob_x34 (by constructor <;> omega) (by exact hgR.mono (by decide)) (by first | assumption | (apply pg_row.ent <;> first | assumption | omega) | (apply pg_L.next <;> first | assumption | omega) | (apply pg_L.step <;> first | assumption | omega | (apply pg_tru.no <;> assumption) | (apply pg_tru.ok <;> assumption)) | exact pg_L.of (by omega) rfl) (by omega) (by omega) (by first | omega | (simp only [Int.toNat] at *; omega)) hP hD hS (lv_sub hl [0, 1] rfl)
            · skip
              obtain ⟨x35, x36, x37, fn38, fn39, fn40, oa_x35, ob_x35, oa_x36, ob_x36, pt0_ra22, pt1_ra22, pt2_ra22, hP1, hK1, hD1⟩ := hB
              rw [ht] at hP1
              obtain ⟨hP2, hD2⟩ := va_join (wr := []) (w1 := (wd_d906eaf1 h0 v0 h1 v1 x35 x36 x37 h2 h3 h4 r0 r1 r2 r3 v3 v4 r4 r5 r6 r7 v5 r8 r9 v6 v7 r10 r11 v8 v9 r12 v10 v11 r13 v12 w13 r14 v14 v15 r15 r16 r17 r18 r19 r20 v16 r21 r22 r23 v17 h1 g0 f18 h2 g1 fn38 h3 g2 fn39 h4 g3 fn40)) hP hD [0, 1, 2, 3, 4] [] rfl rfl (by decide) (by decide) hk1 hFc hP1 hD1
              clear hP hD hPc hDc hKc hFc hP1 hK1 hD1 hk1 hz1
              generalize H1 = H at hP2 hS ⊢
              have hP : va_P (dC, dI) vwCl (wd_d906eaf1 h0 v0 h1 v1 x35 x36 x37 h2 h3 h4 r0 r1 r2 r3 v3 v4 r4 r5 r6 r7 v5 r8 r9 v6 v7 r10 r11 v8 v9 r12 v10 v11 r13 v12 w13 r14 v14 v15 r15 r16 r17 r18 r19 r20 v16 r21 r22 r23 v17 h1 g0 f18 h2 g1 fn38 h3 g2 fn39 h4 g3 fn40) H := hP2
              have hD : va_D A (wd_d906eaf1 h0 v0 h1 v1 x35 x36 x37 h2 h3 h4 r0 r1 r2 r3 v3 v4 r4 r5 r6 r7 v5 r8 r9 v6 v7 r10 r11 v8 v9 r12 v10 v11 r13 v12 w13 r14 v14 v15 r15 r16 r17 r18 r19 r20 v16 r21 r22 r23 v17 h1 g0 f18 h2 g1 fn38 h3 g2 fn39 h4 g3 fn40) := hD2
              clear hP2 hD2
              have hgF := hgF.app pt1_ra22
              have hxl := hgF.1
              refine lv_aload_n hx hb dX12_sum_47 rfl (lv_at hl 1 rfl) ?_
              refine lv_iload_n hx hb dX12_sum_48 rfl (lv_at hl 0 rfl) ?_
              refine lv_bipush (v := 43) hx hb dX12_sum_49 (by decide) ?_
              refine lv_icmp_ne (tgt := 58) hx hb dX12_sum_51 (by decide) (fun c41 => by exfalso; have fc41 : ¬ (x9.toInt = 43) := fun h9 => c41 (Int32.toInt_inj.mp h9); omega) (fun _ => ?_)
              refine lv_iconst (v := 2) hx hb dX12_sum_54 (by decide) ?_
              refine lv_goto (tgt := 59) hx hb dX12_sum_55 (by decide) ?_
              refine lv_iconst (v := 0) hx hb dX12_sum_59 (by decide) ?_
              have hPc := hP.sub (ws' := (wd_c62683a8 h0 v0 h1 v1 x35 x36 x37 h2 h3 h4 r0 r1 r2 r3 v3 v4 r4 r5 r6 r7 v5 r8 r9 v6 v7 r10 r11 v8 v9 r12 v10 v11 r13 v12 w13 r14 v14 v15 r15 r16 r17 r18 r19 r20 v16 r21 r22 r23 v17 h2 g1 fn38 h3 g2 fn39 h4 g3 fn40)) [0, 2, 3, 4] rfl
              have hDc := hD.sub (ws' := (wd_c62683a8 h0 v0 h1 v1 x35 x36 x37 h2 h3 h4 r0 r1 r2 r3 v3 v4 r4 r5 r6 r7 v5 r8 r9 v6 v7 r10 r11 v8 v9 r12 v10 v11 r13 v12 w13 r14 v14 v15 r15 r16 r17 r18 r19 r20 v16 r21 r22 r23 v17 h2 g1 fn38 h3 g2 fn39 h4 g3 fn40)) [0, 2, 3, 4] (by decide) rfl
              have hKc := hK.sub (tys' := [(g1, .int), (g2, .int), (g3, .int)]) [1, 2, 3] rfl
              have hFc := va_free (wc := (wd_c62683a8 h0 v0 h1 v1 x35 x36 x37 h2 h3 h4 r0 r1 r2 r3 v3 v4 r4 r5 r6 r7 v5 r8 r9 v6 v7 r10 r11 v8 v9 r12 v10 v11 r13 v12 w13 r14 v14 v15 r15 r16 r17 r18 r19 r20 v16 r21 r22 r23 v17 h2 g1 fn38 h3 g2 fn39 h4 g3 fn40)) hD hS hA [0, 2, 3, 4] rfl
              refine va_callv (va_runV (As := [.int 2, .int 0]) (rest := []) ⟨hx, hb, hml, hown, hts⟩ (k_X12_put l dC dI h0 h2 h3 h4 v0 h1 v1 x35 x36 x37 r0 r1 r2 r3 v3 v4 r4 r5 r6 r7 v5 r8 r9 v6 v7 r10 r11 v8 v9 r12 v10 v11 r13 v12 w13 r14 v14 v15 r15 r16 r17 r18 r19 r20 v16 r21 r22 r23 v17 g1 fn38 g2 fn39 g3 fn40 2 0 ⟨i_v1a, i_v1b⟩ ⟨i_v3a, i_v3b⟩ ⟨i_v4a, i_v4b⟩ ⟨i_v5a, i_v5b⟩ ⟨i_v6a, i_v6b⟩ ⟨i_v7a, i_v7b⟩ ⟨i_v8a, i_v8b⟩ ⟨i_v12a, i_v12b⟩ ⟨i_v16a, i_v16b⟩ ⟨i_v17a, i_v17b⟩ (by constructor <;> omega) H.size) (cwV 2 hts g_X12_sum_2_3 rfl rfl rfl (by decide +kernel) ⟨Nat.le_of_ble_eq_true rfl, Nat.le_of_ble_eq_true rfl⟩) (pv_PV12 hPc hKc hDc (q0 := 0) rfl) rfl rfl hl.1 rfl (lv_room (Nat.le_of_ble_eq_true rfl)) dX12_sum_60 ⟨Nat.le_of_ble_eq_true rfl, Nat.le_of_ble_eq_true rfl⟩) hS (fun q _ h => hFc q h) hFc (fun u t H1 locs ht hvm hwra42 hB hz1 hk1 hS => ?_)
              have hkra42_0 : ((0 : Int32)).toInt = 0 := by decide
              have hkra42_1 : ((2 : Int32)).toInt = 2 := by decide
              obtain ⟨fn43, fn44, fn45, pt0_ra42, hP1, hK1, hD1⟩ := hB
              rw [ht] at hP1
              obtain ⟨hP2, hD2⟩ := va_join (wr := (wd_d0032b31 h1 g0 f18)) (w1 := (wd_c62683a8 h0 v0 h1 v1 x35 x36 x37 h2 h3 h4 r0 r1 r2 r3 v3 v4 r4 r5 r6 r7 v5 r8 r9 v6 v7 r10 r11 v8 v9 r12 v10 v11 r13 v12 w13 r14 v14 v15 r15 r16 r17 r18 r19 r20 v16 r21 r22 r23 v17 h2 g1 fn43 h3 g2 fn44 h4 g3 fn45)) hP hD [0, 2, 3, 4] [1] rfl rfl (by decide) (by decide) hk1 hFc hP1 hD1
              clear hP hD hPc hDc hKc hFc hP1 hK1 hD1 hk1 hz1
              generalize H1 = H at hP2 hS ⊢
              have hP := hP2.sub (ws' := (wd_d906eaf1 h0 v0 h1 v1 x35 x36 x37 h2 h3 h4 r0 r1 r2 r3 v3 v4 r4 r5 r6 r7 v5 r8 r9 v6 v7 r10 r11 v8 v9 r12 v10 v11 r13 v12 w13 r14 v14 v15 r15 r16 r17 r18 r19 r20 v16 r21 r22 r23 v17 h1 g0 f18 h2 g1 fn43 h3 g2 fn44 h4 g3 fn45)) [1, 0, 2, 3, 4] rfl
              have hD := hD2.sub (ws' := (wd_d906eaf1 h0 v0 h1 v1 x35 x36 x37 h2 h3 h4 r0 r1 r2 r3 v3 v4 r4 r5 r6 r7 v5 r8 r9 v6 v7 r10 r11 v8 v9 r12 v10 v11 r13 v12 w13 r14 v14 v15 r15 r16 r17 r18 r19 r20 v16 r21 r22 r23 v17 h1 g0 f18 h2 g1 fn43 h3 g2 fn44 h4 g3 fn45)) [1, 0, 2, 3, 4] (by decide) rfl
              clear hP2 hD2
              have hgF := hgF.put pt0_ra42
              have hxl := hgF.1
              have hxs := pt0_ra42.step
              refine lv_aload_n hx hb dX12_sum_63 rfl (lv_at hl 1 rfl) ?_
              refine va_get (D := (dC, dI)) (ci := 12) (v := .int x36) (C := RX12) (T := TX12) (N := 48) hx hb hts (fun _ h => List.mem_cons_of_mem _ (List.mem_append_right _ h)) hown hK hP 0 rfl rfl 4 (by decide) (hts (.fieldLink RX12 119 "LeftArgumentsModel" "wrong" "I") (List.mem_cons_of_mem _ (List.mem_append_left _ (List.mem_of_getElem? (i := 21) rfl)))) (fun _ h9 => h9) rfl dX12_sum_64 ?_
              refine lv_iconst (v := (-1)) hx hb dX12_sum_67 (by decide) ?_
              refine lv_icmp_ne (tgt := 78) hx hb dX12_sum_68 (by decide) (fun _ => ?_) (fun c46 => by exfalso; have fc46 : x36.toInt = (-1) := congrArg Int32.toInt c46; omega)
              refine lv_iconst (v := (-1)) hx hb dX12_sum_78 (by decide) ?_
              refine lv_istore_n (lv' := [(1, .int (-1)), (0, .ref h0)]) hx hb dX12_sum_79 rfl hl (by decide) rfl (fun ls hl => ?_)
              refine lv_goto (tgt := 21) hx hb dX12_sum_80 (by decide) ?_
              refine lv_iload_n hx hb dX12_sum_21 rfl (lv_at hl 0 rfl) ?_
              refine lv_bipush (v := 43) hx hb dX12_sum_22 (by decide) ?_
              refine lv_icmp_eq (tgt := 33) hx hb dX12_sum_24 (by decide) (fun c => absurd c (by decide)) (fun _ => ?_)
              refine lv_iload_n hx hb dX12_sum_27 rfl (lv_at hl 0 rfl) ?_
              refine lv_bipush (v := 45) hx hb dX12_sum_28 (by decide) ?_
              refine lv_icmp_ne (tgt := 83) hx hb dX12_sum_30 (by decide) (fun _ => ?_) (fun c => absurd c (by decide))
              subst hQ
              have hP9 := hP.sub (ws' := (wd_d906eaf1 h0 v0 h1 v1 x35 x36 x37 h2 h3 h4 r0 r1 r2 r3 v3 v4 r4 r5 r6 r7 v5 r8 r9 v6 v7 r10 r11 v8 v9 r12 v10 v11 r13 v12 w13 r14 v14 v15 r15 r16 r17 r18 r19 r20 v16 r21 r22 r23 v17 h1 g0 f18 h2 g1 fn43 h3 g2 fn44 h4 g3 fn45)) [0, 1, 2, 3, 4] rfl
              have hD9 := hD.sub (ws' := (wd_d906eaf1 h0 v0 h1 v1 x35 x36 x37 h2 h3 h4 r0 r1 r2 r3 v3 v4 r4 r5 r6 r7 v5 r8 r9 v6 v7 r10 r11 v8 v9 r12 v10 v11 r13 v12 w13 r14 v14 v15 r15 r16 r17 r18 r19 r20 v16 r21 r22 r23 v17 h1 g0 f18 h2 g1 fn43 h3 g2 fn44 h4 g3 fn45)) [0, 1, 2, 3, 4] (by decide) rfl
              have hK9 := hK.sub (tys' := []) [] rfl
              exact W.vret hx hb hr (fun t ht hW => ⟨⟨(), rfl, trivial, Or.inr (⟨x35, x36, x37, fn43, fn44, fn45, oa_x35, ob_x35, oa_x36, ob_x36, by constructor <;> omega, by exact hgF, by rw [pg_sum.eq]; first | assumption | (apply pg_row.no <;> first | assumption | omega) | (apply pg_L.fail <;> first | assumption | omega), by rw [ht]; exact hP9, va_K.moved hW.alike hK9, hD9⟩)⟩, hS.F ht⟩) hS.2.2 dX12_sum_83
          · skip
            have fc20 : ¬ (x9.toInt = 43) := fun h9 => c20 (Int32.toInt_inj.mp h9)
            refine lv_iload_n hx hb dX12_sum_27 rfl (lv_at hl 0 rfl) ?_
            refine lv_bipush (v := 45) hx hb dX12_sum_28 (by decide) ?_
            refine lv_icmp_ne (tgt := 83) hx hb dX12_sum_30 (by decide) (fun c47 => ?_) (fun c47 => ?_)
            · skip
              have fc47 : ¬ (x9.toInt = 45) := fun h9 => c47 (Int32.toInt_inj.mp h9)
              subst hQ
              have hP9 := hP.sub (ws' := (wd_d906eaf1 h0 v0 h1 v1 x10 (-1) 4 h2 h3 h4 r0 r1 r2 r3 v3 v4 r4 r5 r6 r7 v5 r8 r9 v6 v7 r10 r11 v8 v9 r12 v10 v11 r13 v12 w13 r14 v14 v15 r15 r16 r17 r18 r19 r20 v16 r21 r22 r23 v17 h1 g0 f18 h2 g1 fn11 h3 g2 fn12 h4 g3 fn13)) [0, 1, 2, 3, 4] rfl
              have hD9 := hD.sub (ws' := (wd_d906eaf1 h0 v0 h1 v1 x10 (-1) 4 h2 h3 h4 r0 r1 r2 r3 v3 v4 r4 r5 r6 r7 v5 r8 r9 v6 v7 r10 r11 v8 v9 r12 v10 v11 r13 v12 w13 r14 v14 v15 r15 r16 r17 r18 r19 r20 v16 r21 r22 r23 v17 h1 g0 f18 h2 g1 fn11 h3 g2 fn12 h4 g3 fn13)) [0, 1, 2, 3, 4] (by decide) rfl
              have hK9 := hK.sub (tys' := []) [] rfl
              exact W.vret hx hb hr (fun t ht hW => ⟨⟨(), rfl, trivial, Or.inl ⟨x10, fn11, fn12, fn13, qa_x10, by first | omega | decide, by constructor <;> omega, by exact hgR.mono (by decide), by rw [pg_sum.eq]; first | assumption | (apply pg_row.st <;> first | assumption | omega) | (apply pg_L.out <;> first | assumption | omega) | (apply pg_L.last <;> first | assumption | omega), by rw [ht]; exact hP9, va_K.moved hW.alike hK9, hD9⟩⟩, hS.F ht⟩) hS.2.2 dX12_sum_83
            · skip
              have fc47 : x9.toInt = 45 := congrArg Int32.toInt c47
              refine lv_aload_n hx hb dX12_sum_33 rfl (lv_at hl 1 rfl) ?_
              refine lv_dup hx hb dX12_sum_34 rfl ?_
              refine va_get (D := (dC, dI)) (ci := 12) (v := .int x10) (C := RX12) (T := TX12) (N := 48) hx hb hts (fun _ h => List.mem_cons_of_mem _ (List.mem_append_right _ h)) hown hK hP 0 rfl rfl 3 (by decide) (hts (.fieldLink RX12 112 "LeftArgumentsModel" "at" "I") (List.mem_cons_of_mem _ (List.mem_append_left _ (List.mem_of_getElem? (i := 4) rfl)))) (fun _ h9 => h9) rfl dX12_sum_35 ?_
              refine lv_iconst (v := 1) hx hb dX12_sum_38 (by decide) ?_
              refine lv_iadd hx hb dX12_sum_39 ?_
              refine lv_topi (fun t48 et48 => ?_)
              have gt48 : t48.toInt = x10.toInt + 1 := pv_add (a := x10.toInt) (b := 1) et48 rfl (by decide) (by omega) (by omega)
              refine va_put (D := (dC, dI)) (ci := 12) (v := .int t48) (ty := .int) (C := RX12) (T := TX12) (N := 48) hx hb hts (fun _ h => List.mem_cons_of_mem _ (List.mem_append_right _ h)) tyX12 tyX12_ok nmX12 hown hK hP hD hS 0 rfl rfl 3 (by decide) (hts (.fieldLink RX12 112 "LeftArgumentsModel" "at" "I") (List.mem_cons_of_mem _ (List.mem_append_left _ (List.mem_of_getElem? (i := 4) rfl)))) (fun _ h9 => h9) rfl (by decide +kernel) rfl rfl (Nat.le_of_ble_eq_true rfl) dX12_sum_40 (fun H locs hP hD hS => ?_)
              have hP : va_P (dC, dI) vwCl (wd_d906eaf1 h0 v0 h1 v1 t48 (-1) 4 h2 h3 h4 r0 r1 r2 r3 v3 v4 r4 r5 r6 r7 v5 r8 r9 v6 v7 r10 r11 v8 v9 r12 v10 v11 r13 v12 w13 r14 v14 v15 r15 r16 r17 r18 r19 r20 v16 r21 r22 r23 v17 h1 g0 f18 h2 g1 fn11 h3 g2 fn12 h4 g3 fn13) H := hP
              have hD : va_D A (wd_d906eaf1 h0 v0 h1 v1 t48 (-1) 4 h2 h3 h4 r0 r1 r2 r3 v3 v4 r4 r5 r6 r7 v5 r8 r9 v6 v7 r10 r11 v8 v9 r12 v10 v11 r13 v12 w13 r14 v14 v15 r15 r16 r17 r18 r19 r20 v16 r21 r22 r23 v17 h1 g0 f18 h2 g1 fn11 h3 g2 fn12 h4 g3 fn13) := hD
              refine lv_aload_n hx hb dX12_sum_43 rfl (lv_at hl 1 rfl) ?_
              have hPc := hP.sub (ws' := (wd_d906eaf1 h0 v0 h1 v1 t48 (-1) 4 h2 h3 h4 r0 r1 r2 r3 v3 v4 r4 r5 r6 r7 v5 r8 r9 v6 v7 r10 r11 v8 v9 r12 v10 v11 r13 v12 w13 r14 v14 v15 r15 r16 r17 r18 r19 r20 v16 r21 r22 r23 v17 h1 g0 f18 h2 g1 fn11 h3 g2 fn12 h4 g3 fn13)) [0, 1, 2, 3, 4] rfl
              have hDc := hD.sub (ws' := (wd_d906eaf1 h0 v0 h1 v1 t48 (-1) 4 h2 h3 h4 r0 r1 r2 r3 v3 v4 r4 r5 r6 r7 v5 r8 r9 v6 v7 r10 r11 v8 v9 r12 v10 v11 r13 v12 w13 r14 v14 v15 r15 r16 r17 r18 r19 r20 v16 r21 r22 r23 v17 h1 g0 f18 h2 g1 fn11 h3 g2 fn12 h4 g3 fn13)) [0, 1, 2, 3, 4] (by decide) rfl
              have hKc := hK.sub (tys' := [(g0, .int), (g1, .int), (g2, .int), (g3, .int)]) [0, 1, 2, 3] rfl
              have hFc := va_free (wc := (wd_d906eaf1 h0 v0 h1 v1 t48 (-1) 4 h2 h3 h4 r0 r1 r2 r3 v3 v4 r4 r5 r6 r7 v5 r8 r9 v6 v7 r10 r11 v8 v9 r12 v10 v11 r13 v12 w13 r14 v14 v15 r15 r16 r17 r18 r19 r20 v16 r21 r22 r23 v17 h1 g0 f18 h2 g1 fn11 h3 g2 fn12 h4 g3 fn13)) hD hS hA [0, 1, 2, 3, 4] rfl
              refine va_callv (va_runV (As := []) (rest := []) ⟨hx, hb, hml, hown, hts⟩ (k_X12_term_2 l dC dI h0 h1 h2 h3 h4 v0 v1 t48 r0 r1 r2 r3 v3 v4 r4 r5 r6 r7 v5 r8 r9 v6 v7 r10 r11 v8 v9 r12 v10 v11 r13 v12 w13 r14 v14 v15 r15 r16 r17 r18 r19 r20 v16 r21 r22 r23 v17 g0 f18 g1 fn11 g2 fn12 g3 fn13 ⟨i_v1a, i_v1b⟩ ⟨by first | omega | decide, by first | omega | decide⟩ ⟨i_v3a, i_v3b⟩ ⟨i_v4a, i_v4b⟩ ⟨i_v5a, i_v5b⟩ ⟨i_v6a, i_v6b⟩ ⟨i_v7a, i_v7b⟩ ⟨i_v8a, i_v8b⟩ ⟨i_v12a, i_v12b⟩ ⟨i_v16a, i_v16b⟩ ⟨i_v17a, i_v17b⟩ ia_f18 (by constructor <;> omega) H.size) (cwV 0 hts g_X12_sum_2_0 rfl rfl rfl (by decide +kernel) ⟨Nat.le_of_ble_eq_true rfl, Nat.le_of_ble_eq_true rfl⟩) (pv_PV12 hPc hKc hDc (q0 := 0) rfl) rfl rfl hl.1 rfl (lv_room (Nat.le_of_ble_eq_true rfl)) dX12_sum_44 ⟨Nat.le_of_ble_eq_true rfl, Nat.le_of_ble_eq_true rfl⟩) hS (fun q _ h => hFc q h) hFc (fun u t H1 locs ht hvm hwra49 hB hz1 hk1 hS => ?_)
              rcases hB with hB | hB
              · skip
                obtain ⟨x50, fn51, fn52, fn53, oa_x50, ob_x50, pt0_ra49, pt1_ra49, pt2_ra49, hP1, hK1, hD1⟩ := hB
                rw [ht] at hP1
                obtain ⟨hP2, hD2⟩ := va_join (wr := []) (w1 := (wd_d906eaf1 h0 v0 h1 v1 x50 (-1) 4 h2 h3 h4 r0 r1 r2 r3 v3 v4 r4 r5 r6 r7 v5 r8 r9 v6 v7 r10 r11 v8 v9 r12 v10 v11 r13 v12 w13 r14 v14 v15 r15 r16 r17 r18 r19 r20 v16 r21 r22 r23 v17 h1 g0 f18 h2 g1 fn51 h3 g2 fn52 h4 g3 fn53)) hP hD [0, 1, 2, 3, 4] [] rfl rfl (by decide) (by decide) hk1 hFc hP1 hD1
                clear hP hD hPc hDc hKc hFc hP1 hK1 hD1 hk1 hz1
                generalize H1 = H at hP2 hS ⊢
                have hP : va_P (dC, dI) vwCl (wd_d906eaf1 h0 v0 h1 v1 x50 (-1) 4 h2 h3 h4 r0 r1 r2 r3 v3 v4 r4 r5 r6 r7 v5 r8 r9 v6 v7 r10 r11 v8 v9 r12 v10 v11 r13 v12 w13 r14 v14 v15 r15 r16 r17 r18 r19 r20 v16 r21 r22 r23 v17 h1 g0 f18 h2 g1 fn51 h3 g2 fn52 h4 g3 fn53) H := hP2
                have hD : va_D A (wd_d906eaf1 h0 v0 h1 v1 x50 (-1) 4 h2 h3 h4 r0 r1 r2 r3 v3 v4 r4 r5 r6 r7 v5 r8 r9 v6 v7 r10 r11 v8 v9 r12 v10 v11 r13 v12 w13 r14 v14 v15 r15 r16 r17 r18 r19 r20 v16 r21 r22 r23 v17 h1 g0 f18 h2 g1 fn51 h3 g2 fn52 h4 g3 fn53) := hD2
                clear hP2 hD2
                have hgR := hgR.app (k' := 2) (D := 7) pt1_ra49 (by decide) (by decide) (by decide) (by decide)
                have hgF := hgR.1
                have hxl := hgF.1
                refine lv_aload_n hx hb dX12_sum_47 rfl (lv_at hl 1 rfl) ?_
                refine lv_iload_n hx hb dX12_sum_48 rfl (lv_at hl 0 rfl) ?_
                refine lv_bipush (v := 43) hx hb dX12_sum_49 (by decide) ?_
                refine lv_icmp_ne (tgt := 58) hx hb dX12_sum_51 (by decide) (fun _ => ?_) (fun c54 => by exfalso; have fc54 : x9.toInt = 43 := congrArg Int32.toInt c54; omega)
                refine lv_iconst (v := 3) hx hb dX12_sum_58 (by decide) ?_
                refine lv_iconst (v := 0) hx hb dX12_sum_59 (by decide) ?_
                have hPc := hP.sub (ws' := (wd_c62683a8 h0 v0 h1 v1 x50 (-1) 4 h2 h3 h4 r0 r1 r2 r3 v3 v4 r4 r5 r6 r7 v5 r8 r9 v6 v7 r10 r11 v8 v9 r12 v10 v11 r13 v12 w13 r14 v14 v15 r15 r16 r17 r18 r19 r20 v16 r21 r22 r23 v17 h2 g1 fn51 h3 g2 fn52 h4 g3 fn53)) [0, 2, 3, 4] rfl
                have hDc := hD.sub (ws' := (wd_c62683a8 h0 v0 h1 v1 x50 (-1) 4 h2 h3 h4 r0 r1 r2 r3 v3 v4 r4 r5 r6 r7 v5 r8 r9 v6 v7 r10 r11 v8 v9 r12 v10 v11 r13 v12 w13 r14 v14 v15 r15 r16 r17 r18 r19 r20 v16 r21 r22 r23 v17 h2 g1 fn51 h3 g2 fn52 h4 g3 fn53)) [0, 2, 3, 4] (by decide) rfl
                have hKc := hK.sub (tys' := [(g1, .int), (g2, .int), (g3, .int)]) [1, 2, 3] rfl
                have hFc := va_free (wc := (wd_c62683a8 h0 v0 h1 v1 x50 (-1) 4 h2 h3 h4 r0 r1 r2 r3 v3 v4 r4 r5 r6 r7 v5 r8 r9 v6 v7 r10 r11 v8 v9 r12 v10 v11 r13 v12 w13 r14 v14 v15 r15 r16 r17 r18 r19 r20 v16 r21 r22 r23 v17 h2 g1 fn51 h3 g2 fn52 h4 g3 fn53)) hD hS hA [0, 2, 3, 4] rfl
                refine va_callv (va_runV (As := [.int 3, .int 0]) (rest := []) ⟨hx, hb, hml, hown, hts⟩ (k_X12_put l dC dI h0 h2 h3 h4 v0 h1 v1 x50 ((-1)) 4 r0 r1 r2 r3 v3 v4 r4 r5 r6 r7 v5 r8 r9 v6 v7 r10 r11 v8 v9 r12 v10 v11 r13 v12 w13 r14 v14 v15 r15 r16 r17 r18 r19 r20 v16 r21 r22 r23 v17 g1 fn51 g2 fn52 g3 fn53 3 0 ⟨i_v1a, i_v1b⟩ ⟨i_v3a, i_v3b⟩ ⟨i_v4a, i_v4b⟩ ⟨i_v5a, i_v5b⟩ ⟨i_v6a, i_v6b⟩ ⟨i_v7a, i_v7b⟩ ⟨i_v8a, i_v8b⟩ ⟨i_v12a, i_v12b⟩ ⟨i_v16a, i_v16b⟩ ⟨i_v17a, i_v17b⟩ (by constructor <;> omega) H.size) (cwV 2 hts g_X12_sum_2_3 rfl rfl rfl (by decide +kernel) ⟨Nat.le_of_ble_eq_true rfl, Nat.le_of_ble_eq_true rfl⟩) (pv_PV12 hPc hKc hDc (q0 := 0) rfl) rfl rfl hl.1 rfl (lv_room (Nat.le_of_ble_eq_true rfl)) dX12_sum_60 ⟨Nat.le_of_ble_eq_true rfl, Nat.le_of_ble_eq_true rfl⟩) hS (fun q _ h => hFc q h) hFc (fun u t H1 locs ht hvm hwra55 hB hz1 hk1 hS => ?_)
                have hkra55_0 : (((-1) : Int32)).toInt = -1 := by decide
                have hkra55_1 : ((0 : Int32)).toInt = 0 := by decide
                have hkra55_2 : ((3 : Int32)).toInt = 3 := by decide
                have hkra55_3 : ((4 : Int32)).toInt = 4 := by decide
                obtain ⟨fn56, fn57, fn58, pt0_ra55, hP1, hK1, hD1⟩ := hB
                rw [ht] at hP1
                obtain ⟨hP2, hD2⟩ := va_join (wr := (wd_d0032b31 h1 g0 f18)) (w1 := (wd_c62683a8 h0 v0 h1 v1 x50 (-1) 4 h2 h3 h4 r0 r1 r2 r3 v3 v4 r4 r5 r6 r7 v5 r8 r9 v6 v7 r10 r11 v8 v9 r12 v10 v11 r13 v12 w13 r14 v14 v15 r15 r16 r17 r18 r19 r20 v16 r21 r22 r23 v17 h2 g1 fn56 h3 g2 fn57 h4 g3 fn58)) hP hD [0, 2, 3, 4] [1] rfl rfl (by decide) (by decide) hk1 hFc hP1 hD1
                clear hP hD hPc hDc hKc hFc hP1 hK1 hD1 hk1 hz1
                generalize H1 = H at hP2 hS ⊢
                have hP := hP2.sub (ws' := (wd_d906eaf1 h0 v0 h1 v1 x50 (-1) 4 h2 h3 h4 r0 r1 r2 r3 v3 v4 r4 r5 r6 r7 v5 r8 r9 v6 v7 r10 r11 v8 v9 r12 v10 v11 r13 v12 w13 r14 v14 v15 r15 r16 r17 r18 r19 r20 v16 r21 r22 r23 v17 h1 g0 f18 h2 g1 fn56 h3 g2 fn57 h4 g3 fn58)) [1, 0, 2, 3, 4] rfl
                have hD := hD2.sub (ws' := (wd_d906eaf1 h0 v0 h1 v1 x50 (-1) 4 h2 h3 h4 r0 r1 r2 r3 v3 v4 r4 r5 r6 r7 v5 r8 r9 v6 v7 r10 r11 v8 v9 r12 v10 v11 r13 v12 w13 r14 v14 v15 r15 r16 r17 r18 r19 r20 v16 r21 r22 r23 v17 h1 g0 f18 h2 g1 fn56 h3 g2 fn57 h4 g3 fn58)) [1, 0, 2, 3, 4] (by decide) rfl
                clear hP2 hD2
                have hgR := hgR.bin (k' := 1) (D := 7) pt0_ra55 (by decide) (by decide) (by decide) (by decide) (by decide)
                have hgF := hgR.1
                have hxl := hgF.1
                have hxs := pt0_ra55.step
                refine lv_aload_n hx hb dX12_sum_63 rfl (lv_at hl 1 rfl) ?_
                refine va_get (D := (dC, dI)) (ci := 12) (v := .int (-1)) (C := RX12) (T := TX12) (N := 48) hx hb hts (fun _ h => List.mem_cons_of_mem _ (List.mem_append_right _ h)) hown hK hP 0 rfl rfl 4 (by decide) (hts (.fieldLink RX12 119 "LeftArgumentsModel" "wrong" "I") (List.mem_cons_of_mem _ (List.mem_append_left _ (List.mem_of_getElem? (i := 21) rfl)))) (fun _ h9 => h9) rfl dX12_sum_64 ?_
                refine lv_iconst (v := (-1)) hx hb dX12_sum_67 (by decide) ?_
                refine lv_icmp_ne (tgt := 78) hx hb dX12_sum_68 (by decide) (fun c => absurd (by decide) c) (fun _ => ?_)
                refine lv_aload_n hx hb dX12_sum_71 rfl (lv_at hl 1 rfl) ?_
                have hPc := hP.sub (ws' := (wd_f4cd022e h0 v0 h1 v1 x50 (-1) 4 h2 h3 h4 r0 r1 r2 r3 v3 v4 r4 r5 r6 r7 v5 r8 r9 v6 v7 r10 r11 v8 v9 r12 v10 v11 r13 v12 w13 r14 v14 v15 r15 r16 r17 r18 r19 r20 v16 r21 r22 r23 v17 h1 g0 f18)) [0, 1] rfl
                have hDc := hD.sub (ws' := (wd_f4cd022e h0 v0 h1 v1 x50 (-1) 4 h2 h3 h4 r0 r1 r2 r3 v3 v4 r4 r5 r6 r7 v5 r8 r9 v6 v7 r10 r11 v8 v9 r12 v10 v11 r13 v12 w13 r14 v14 v15 r15 r16 r17 r18 r19 r20 v16 r21 r22 r23 v17 h1 g0 f18)) [0, 1] (by decide) rfl
                have hKc := hK.sub (tys' := [(g0, .int)]) [0] rfl
                have hFc := va_free (wc := (wd_f4cd022e h0 v0 h1 v1 x50 (-1) 4 h2 h3 h4 r0 r1 r2 r3 v3 v4 r4 r5 r6 r7 v5 r8 r9 v6 v7 r10 r11 v8 v9 r12 v10 v11 r13 v12 w13 r14 v14 v15 r15 r16 r17 r18 r19 r20 v16 r21 r22 r23 v17 h1 g0 f18)) hD hS hA [0, 1] rfl
                refine va_calli (va_runV (As := []) (rest := []) ⟨hx, hb, hml, hown, hts⟩ (k_X12_look l dC dI h0 h1 v0 v1 x50 ((-1)) 4 h2 h3 h4 r0 r1 r2 r3 v3 v4 r4 r5 r6 r7 v5 r8 r9 v6 v7 r10 r11 v8 v9 r12 v10 v11 r13 v12 w13 r14 v14 v15 r15 r16 r17 r18 r19 r20 v16 r21 r22 r23 v17 g0 f18 ⟨i_v1a, i_v1b⟩ ⟨oa_x50, ob_x50⟩ ⟨i_v3a, i_v3b⟩ ⟨i_v4a, i_v4b⟩ ⟨i_v5a, i_v5b⟩ ⟨i_v6a, i_v6b⟩ ⟨i_v7a, i_v7b⟩ ⟨i_v8a, i_v8b⟩ ⟨i_v12a, i_v12b⟩ ⟨i_v16a, i_v16b⟩ ⟨i_v17a, i_v17b⟩ ia_f18 H.size) (cwV 0 hts g_X12_sum_2_1 rfl rfl rfl (by decide +kernel) ⟨Nat.le_of_ble_eq_true rfl, Nat.le_of_ble_eq_true rfl⟩) (pv_PV12 hPc hKc hDc (q0 := 0) rfl) rfl rfl hl.1 rfl (lv_room (Nat.le_of_ble_eq_true rfl)) dX12_sum_72 ⟨Nat.le_of_ble_eq_true rfl, Nat.le_of_ble_eq_true rfl⟩) hS (fun q _ h => hFc q h) hFc (fun ra59 u t H1 locs ht hvm hwra59 hB hz1 hk1 hS => ?_)
                try rw [hwra59] at hB
                have hkra59_0 : (((-1) : Int32)).toInt = -1 := by decide
                have hkra59_1 : ((4 : Int32)).toInt = 4 := by decide
                rcases hB with hB | hB
                · skip
                  obtain ⟨x60, oa_x60, ob_x60, pt0_ra59, pt1_ra59, pt2_ra59, pt3_ra59, pt4_ra59, pt5_ra59, pt6_ra59, hP1, hK1, hD1⟩ := hB
                  rw [ht] at hP1
                  obtain ⟨hP2, hD2⟩ := va_join (wr := (wd_ad0642e8 h2 g1 fn56 h3 g2 fn57 h4 g3 fn58)) (w1 := (wd_f4cd022e h0 v0 h1 v1 x60 (-1) 4 h2 h3 h4 r0 r1 r2 r3 v3 v4 r4 r5 r6 r7 v5 r8 r9 v6 v7 r10 r11 v8 v9 r12 v10 v11 r13 v12 w13 r14 v14 v15 r15 r16 r17 r18 r19 r20 v16 r21 r22 r23 v17 h1 g0 f18)) hP hD [0, 1] [2, 3, 4] rfl rfl (by decide) (by decide) hk1 hFc hP1 hD1
                  clear hP hD hPc hDc hKc hFc hP1 hK1 hD1 hk1 hz1
                  generalize H1 = H at hP2 hS ⊢
                  have hP := hP2.sub (ws' := (wd_d906eaf1 h0 v0 h1 v1 x60 (-1) 4 h2 h3 h4 r0 r1 r2 r3 v3 v4 r4 r5 r6 r7 v5 r8 r9 v6 v7 r10 r11 v8 v9 r12 v10 v11 r13 v12 w13 r14 v14 v15 r15 r16 r17 r18 r19 r20 v16 r21 r22 r23 v17 h1 g0 f18 h2 g1 fn56 h3 g2 fn57 h4 g3 fn58)) [3, 4, 0, 1, 2] rfl
                  have hD := hD2.sub (ws' := (wd_d906eaf1 h0 v0 h1 v1 x60 (-1) 4 h2 h3 h4 r0 r1 r2 r3 v3 v4 r4 r5 r6 r7 v5 r8 r9 v6 v7 r10 r11 v8 v9 r12 v10 v11 r13 v12 w13 r14 v14 v15 r15 r16 r17 r18 r19 r20 v16 r21 r22 r23 v17 h1 g0 f18 h2 g1 fn56 h3 g2 fn57 h4 g3 fn58)) [3, 4, 0, 1, 2] (by decide) rfl
                  clear hP2 hD2
                  obtain rfl : ra59 = ((-1) : Int32) := pv_cs (by decide) pt0_ra59 pt1_ra59
                  refine lv_goto (tgt := 79) hx hb dX12_sum_75 (by decide) ?_
                  refine lv_istore_n (lv' := [(1, .int (-1)), (0, .ref h0)]) hx hb dX12_sum_79 rfl hl (by decide) rfl (fun ls hl => ?_)
                  refine lv_goto (tgt := 21) hx hb dX12_sum_80 (by decide) ?_
                  refine lv_iload_n hx hb dX12_sum_21 rfl (lv_at hl 0 rfl) ?_
                  refine lv_bipush (v := 43) hx hb dX12_sum_22 (by decide) ?_
                  refine lv_icmp_eq (tgt := 33) hx hb dX12_sum_24 (by decide) (fun c => absurd c (by decide)) (fun _ => ?_)
                  refine lv_iload_n hx hb dX12_sum_27 rfl (lv_at hl 0 rfl) ?_
                  refine lv_bipush (v := 45) hx hb dX12_sum_28 (by decide) ?_
                  refine lv_icmp_ne (tgt := 83) hx hb dX12_sum_30 (by decide) (fun _ => ?_) (fun c => absurd c (by decide))
                  subst hQ
                  have hP9 := hP.sub (ws' := (wd_d906eaf1 h0 v0 h1 v1 x60 (-1) 4 h2 h3 h4 r0 r1 r2 r3 v3 v4 r4 r5 r6 r7 v5 r8 r9 v6 v7 r10 r11 v8 v9 r12 v10 v11 r13 v12 w13 r14 v14 v15 r15 r16 r17 r18 r19 r20 v16 r21 r22 r23 v17 h1 g0 f18 h2 g1 fn56 h3 g2 fn57 h4 g3 fn58)) [0, 1, 2, 3, 4] rfl
                  have hD9 := hD.sub (ws' := (wd_d906eaf1 h0 v0 h1 v1 x60 (-1) 4 h2 h3 h4 r0 r1 r2 r3 v3 v4 r4 r5 r6 r7 v5 r8 r9 v6 v7 r10 r11 v8 v9 r12 v10 v11 r13 v12 w13 r14 v14 v15 r15 r16 r17 r18 r19 r20 v16 r21 r22 r23 v17 h1 g0 f18 h2 g1 fn56 h3 g2 fn57 h4 g3 fn58)) [0, 1, 2, 3, 4] (by decide) rfl
                  have hK9 := hK.sub (tys' := []) [] rfl
                  exact W.vret hx hb hr (fun t ht hW => ⟨⟨(), rfl, trivial, Or.inl ⟨x60, fn56, fn57, fn58, oa_x60, ob_x60, by constructor <;> omega, by exact hgR.mono (by decide), by rw [pg_sum.eq]; first | assumption | (apply pg_row.st <;> first | assumption | omega) | (apply pg_L.out <;> first | assumption | omega) | (apply pg_L.last <;> first | assumption | omega), by rw [ht]; exact hP9, va_K.moved hW.alike hK9, hD9⟩⟩, hS.F ht⟩) hS.2.2 dX12_sum_83
                · skip
                  obtain ⟨x61, oa_x61, ob_x61, pt0_ra59, pt1_ra59, pt2_ra59, pt3_ra59, pt4_ra59, pt5_ra59, pt6_ra59, pt7_ra59, hP1, hK1, hD1⟩ := hB
                  rw [ht] at hP1
                  obtain ⟨hP2, hD2⟩ := va_join (wr := (wd_ad0642e8 h2 g1 fn56 h3 g2 fn57 h4 g3 fn58)) (w1 := (wd_f4cd022e h0 v0 h1 v1 x61 (-1) 4 h2 h3 h4 r0 r1 r2 r3 v3 v4 r4 r5 r6 r7 v5 r8 r9 v6 v7 r10 r11 v8 v9 r12 v10 v11 r13 v12 w13 r14 v14 v15 r15 r16 r17 r18 r19 r20 v16 r21 r22 r23 v17 h1 g0 f18)) hP hD [0, 1] [2, 3, 4] rfl rfl (by decide) (by decide) hk1 hFc hP1 hD1
                  clear hP hD hPc hDc hKc hFc hP1 hK1 hD1 hk1 hz1
                  generalize H1 = H at hP2 hS ⊢
                  have hP := hP2.sub (ws' := (wd_d906eaf1 h0 v0 h1 v1 x61 (-1) 4 h2 h3 h4 r0 r1 r2 r3 v3 v4 r4 r5 r6 r7 v5 r8 r9 v6 v7 r10 r11 v8 v9 r12 v10 v11 r13 v12 w13 r14 v14 v15 r15 r16 r17 r18 r19 r20 v16 r21 r22 r23 v17 h1 g0 f18 h2 g1 fn56 h3 g2 fn57 h4 g3 fn58)) [3, 4, 0, 1, 2] rfl
                  have hD := hD2.sub (ws' := (wd_d906eaf1 h0 v0 h1 v1 x61 (-1) 4 h2 h3 h4 r0 r1 r2 r3 v3 v4 r4 r5 r6 r7 v5 r8 r9 v6 v7 r10 r11 v8 v9 r12 v10 v11 r13 v12 w13 r14 v14 v15 r15 r16 r17 r18 r19 r20 v16 r21 r22 r23 v17 h1 g0 f18 h2 g1 fn56 h3 g2 fn57 h4 g3 fn58)) [3, 4, 0, 1, 2] (by decide) rfl
                  clear hP2 hD2
                  refine lv_goto (tgt := 79) hx hb dX12_sum_75 (by decide) ?_
                  refine lv_istore_n (lv' := [(1, .int ra59), (0, .ref h0)]) hx hb dX12_sum_79 rfl hl (by decide) rfl (fun ls hl => ?_)
                  refine lv_goto (tgt := 21) hx hb dX12_sum_80 (by decide) ?_
                  exact ih_hL19 ra59 x61 fn56 fn57 fn58 H locs ls (by first | omega | decide) (by first | omega | decide) oa_x61 ob_x61 (by constructor <;> omega) (by exact hgR.mono (by decide)) (by first | assumption | (apply pg_row.ent <;> first | assumption | omega) | (apply pg_L.next <;> first | assumption | omega) | (apply pg_L.step <;> first | assumption | omega | (apply pg_tru.no <;> assumption) | (apply pg_tru.ok <;> assumption)) | exact pg_L.of (by omega) rfl) (by omega) (by omega) (by first | omega | (simp only [Int.toNat] at *; omega)) hP hD hS (lv_sub hl [0, 1] rfl)
              · skip
                obtain ⟨x62, x63, x64, fn65, fn66, fn67, oa_x62, ob_x62, oa_x63, ob_x63, pt0_ra49, pt1_ra49, pt2_ra49, hP1, hK1, hD1⟩ := hB
                rw [ht] at hP1
                obtain ⟨hP2, hD2⟩ := va_join (wr := []) (w1 := (wd_d906eaf1 h0 v0 h1 v1 x62 x63 x64 h2 h3 h4 r0 r1 r2 r3 v3 v4 r4 r5 r6 r7 v5 r8 r9 v6 v7 r10 r11 v8 v9 r12 v10 v11 r13 v12 w13 r14 v14 v15 r15 r16 r17 r18 r19 r20 v16 r21 r22 r23 v17 h1 g0 f18 h2 g1 fn65 h3 g2 fn66 h4 g3 fn67)) hP hD [0, 1, 2, 3, 4] [] rfl rfl (by decide) (by decide) hk1 hFc hP1 hD1
                clear hP hD hPc hDc hKc hFc hP1 hK1 hD1 hk1 hz1
                generalize H1 = H at hP2 hS ⊢
                have hP : va_P (dC, dI) vwCl (wd_d906eaf1 h0 v0 h1 v1 x62 x63 x64 h2 h3 h4 r0 r1 r2 r3 v3 v4 r4 r5 r6 r7 v5 r8 r9 v6 v7 r10 r11 v8 v9 r12 v10 v11 r13 v12 w13 r14 v14 v15 r15 r16 r17 r18 r19 r20 v16 r21 r22 r23 v17 h1 g0 f18 h2 g1 fn65 h3 g2 fn66 h4 g3 fn67) H := hP2
                have hD : va_D A (wd_d906eaf1 h0 v0 h1 v1 x62 x63 x64 h2 h3 h4 r0 r1 r2 r3 v3 v4 r4 r5 r6 r7 v5 r8 r9 v6 v7 r10 r11 v8 v9 r12 v10 v11 r13 v12 w13 r14 v14 v15 r15 r16 r17 r18 r19 r20 v16 r21 r22 r23 v17 h1 g0 f18 h2 g1 fn65 h3 g2 fn66 h4 g3 fn67) := hD2
                clear hP2 hD2
                have hgF := hgF.app pt1_ra49
                have hxl := hgF.1
                refine lv_aload_n hx hb dX12_sum_47 rfl (lv_at hl 1 rfl) ?_
                refine lv_iload_n hx hb dX12_sum_48 rfl (lv_at hl 0 rfl) ?_
                refine lv_bipush (v := 43) hx hb dX12_sum_49 (by decide) ?_
                refine lv_icmp_ne (tgt := 58) hx hb dX12_sum_51 (by decide) (fun _ => ?_) (fun c68 => by exfalso; have fc68 : x9.toInt = 43 := congrArg Int32.toInt c68; omega)
                refine lv_iconst (v := 3) hx hb dX12_sum_58 (by decide) ?_
                refine lv_iconst (v := 0) hx hb dX12_sum_59 (by decide) ?_
                have hPc := hP.sub (ws' := (wd_c62683a8 h0 v0 h1 v1 x62 x63 x64 h2 h3 h4 r0 r1 r2 r3 v3 v4 r4 r5 r6 r7 v5 r8 r9 v6 v7 r10 r11 v8 v9 r12 v10 v11 r13 v12 w13 r14 v14 v15 r15 r16 r17 r18 r19 r20 v16 r21 r22 r23 v17 h2 g1 fn65 h3 g2 fn66 h4 g3 fn67)) [0, 2, 3, 4] rfl
                have hDc := hD.sub (ws' := (wd_c62683a8 h0 v0 h1 v1 x62 x63 x64 h2 h3 h4 r0 r1 r2 r3 v3 v4 r4 r5 r6 r7 v5 r8 r9 v6 v7 r10 r11 v8 v9 r12 v10 v11 r13 v12 w13 r14 v14 v15 r15 r16 r17 r18 r19 r20 v16 r21 r22 r23 v17 h2 g1 fn65 h3 g2 fn66 h4 g3 fn67)) [0, 2, 3, 4] (by decide) rfl
                have hKc := hK.sub (tys' := [(g1, .int), (g2, .int), (g3, .int)]) [1, 2, 3] rfl
                have hFc := va_free (wc := (wd_c62683a8 h0 v0 h1 v1 x62 x63 x64 h2 h3 h4 r0 r1 r2 r3 v3 v4 r4 r5 r6 r7 v5 r8 r9 v6 v7 r10 r11 v8 v9 r12 v10 v11 r13 v12 w13 r14 v14 v15 r15 r16 r17 r18 r19 r20 v16 r21 r22 r23 v17 h2 g1 fn65 h3 g2 fn66 h4 g3 fn67)) hD hS hA [0, 2, 3, 4] rfl
                refine va_callv (va_runV (As := [.int 3, .int 0]) (rest := []) ⟨hx, hb, hml, hown, hts⟩ (k_X12_put l dC dI h0 h2 h3 h4 v0 h1 v1 x62 x63 x64 r0 r1 r2 r3 v3 v4 r4 r5 r6 r7 v5 r8 r9 v6 v7 r10 r11 v8 v9 r12 v10 v11 r13 v12 w13 r14 v14 v15 r15 r16 r17 r18 r19 r20 v16 r21 r22 r23 v17 g1 fn65 g2 fn66 g3 fn67 3 0 ⟨i_v1a, i_v1b⟩ ⟨i_v3a, i_v3b⟩ ⟨i_v4a, i_v4b⟩ ⟨i_v5a, i_v5b⟩ ⟨i_v6a, i_v6b⟩ ⟨i_v7a, i_v7b⟩ ⟨i_v8a, i_v8b⟩ ⟨i_v12a, i_v12b⟩ ⟨i_v16a, i_v16b⟩ ⟨i_v17a, i_v17b⟩ (by constructor <;> omega) H.size) (cwV 2 hts g_X12_sum_2_3 rfl rfl rfl (by decide +kernel) ⟨Nat.le_of_ble_eq_true rfl, Nat.le_of_ble_eq_true rfl⟩) (pv_PV12 hPc hKc hDc (q0 := 0) rfl) rfl rfl hl.1 rfl (lv_room (Nat.le_of_ble_eq_true rfl)) dX12_sum_60 ⟨Nat.le_of_ble_eq_true rfl, Nat.le_of_ble_eq_true rfl⟩) hS (fun q _ h => hFc q h) hFc (fun u t H1 locs ht hvm hwra69 hB hz1 hk1 hS => ?_)
                have hkra69_0 : ((0 : Int32)).toInt = 0 := by decide
                have hkra69_1 : ((3 : Int32)).toInt = 3 := by decide
                obtain ⟨fn70, fn71, fn72, pt0_ra69, hP1, hK1, hD1⟩ := hB
                rw [ht] at hP1
                obtain ⟨hP2, hD2⟩ := va_join (wr := (wd_d0032b31 h1 g0 f18)) (w1 := (wd_c62683a8 h0 v0 h1 v1 x62 x63 x64 h2 h3 h4 r0 r1 r2 r3 v3 v4 r4 r5 r6 r7 v5 r8 r9 v6 v7 r10 r11 v8 v9 r12 v10 v11 r13 v12 w13 r14 v14 v15 r15 r16 r17 r18 r19 r20 v16 r21 r22 r23 v17 h2 g1 fn70 h3 g2 fn71 h4 g3 fn72)) hP hD [0, 2, 3, 4] [1] rfl rfl (by decide) (by decide) hk1 hFc hP1 hD1
                clear hP hD hPc hDc hKc hFc hP1 hK1 hD1 hk1 hz1
                generalize H1 = H at hP2 hS ⊢
                have hP := hP2.sub (ws' := (wd_d906eaf1 h0 v0 h1 v1 x62 x63 x64 h2 h3 h4 r0 r1 r2 r3 v3 v4 r4 r5 r6 r7 v5 r8 r9 v6 v7 r10 r11 v8 v9 r12 v10 v11 r13 v12 w13 r14 v14 v15 r15 r16 r17 r18 r19 r20 v16 r21 r22 r23 v17 h1 g0 f18 h2 g1 fn70 h3 g2 fn71 h4 g3 fn72)) [1, 0, 2, 3, 4] rfl
                have hD := hD2.sub (ws' := (wd_d906eaf1 h0 v0 h1 v1 x62 x63 x64 h2 h3 h4 r0 r1 r2 r3 v3 v4 r4 r5 r6 r7 v5 r8 r9 v6 v7 r10 r11 v8 v9 r12 v10 v11 r13 v12 w13 r14 v14 v15 r15 r16 r17 r18 r19 r20 v16 r21 r22 r23 v17 h1 g0 f18 h2 g1 fn70 h3 g2 fn71 h4 g3 fn72)) [1, 0, 2, 3, 4] (by decide) rfl
                clear hP2 hD2
                have hgF := hgF.put pt0_ra69
                have hxl := hgF.1
                have hxs := pt0_ra69.step
                refine lv_aload_n hx hb dX12_sum_63 rfl (lv_at hl 1 rfl) ?_
                refine va_get (D := (dC, dI)) (ci := 12) (v := .int x63) (C := RX12) (T := TX12) (N := 48) hx hb hts (fun _ h => List.mem_cons_of_mem _ (List.mem_append_right _ h)) hown hK hP 0 rfl rfl 4 (by decide) (hts (.fieldLink RX12 119 "LeftArgumentsModel" "wrong" "I") (List.mem_cons_of_mem _ (List.mem_append_left _ (List.mem_of_getElem? (i := 21) rfl)))) (fun _ h9 => h9) rfl dX12_sum_64 ?_
                refine lv_iconst (v := (-1)) hx hb dX12_sum_67 (by decide) ?_
                refine lv_icmp_ne (tgt := 78) hx hb dX12_sum_68 (by decide) (fun _ => ?_) (fun c73 => by exfalso; have fc73 : x63.toInt = (-1) := congrArg Int32.toInt c73; omega)
                refine lv_iconst (v := (-1)) hx hb dX12_sum_78 (by decide) ?_
                refine lv_istore_n (lv' := [(1, .int (-1)), (0, .ref h0)]) hx hb dX12_sum_79 rfl hl (by decide) rfl (fun ls hl => ?_)
                refine lv_goto (tgt := 21) hx hb dX12_sum_80 (by decide) ?_
                refine lv_iload_n hx hb dX12_sum_21 rfl (lv_at hl 0 rfl) ?_
                refine lv_bipush (v := 43) hx hb dX12_sum_22 (by decide) ?_
                refine lv_icmp_eq (tgt := 33) hx hb dX12_sum_24 (by decide) (fun c => absurd c (by decide)) (fun _ => ?_)
                refine lv_iload_n hx hb dX12_sum_27 rfl (lv_at hl 0 rfl) ?_
                refine lv_bipush (v := 45) hx hb dX12_sum_28 (by decide) ?_
                refine lv_icmp_ne (tgt := 83) hx hb dX12_sum_30 (by decide) (fun _ => ?_) (fun c => absurd c (by decide))
                subst hQ
                have hP9 := hP.sub (ws' := (wd_d906eaf1 h0 v0 h1 v1 x62 x63 x64 h2 h3 h4 r0 r1 r2 r3 v3 v4 r4 r5 r6 r7 v5 r8 r9 v6 v7 r10 r11 v8 v9 r12 v10 v11 r13 v12 w13 r14 v14 v15 r15 r16 r17 r18 r19 r20 v16 r21 r22 r23 v17 h1 g0 f18 h2 g1 fn70 h3 g2 fn71 h4 g3 fn72)) [0, 1, 2, 3, 4] rfl
                have hD9 := hD.sub (ws' := (wd_d906eaf1 h0 v0 h1 v1 x62 x63 x64 h2 h3 h4 r0 r1 r2 r3 v3 v4 r4 r5 r6 r7 v5 r8 r9 v6 v7 r10 r11 v8 v9 r12 v10 v11 r13 v12 w13 r14 v14 v15 r15 r16 r17 r18 r19 r20 v16 r21 r22 r23 v17 h1 g0 f18 h2 g1 fn70 h3 g2 fn71 h4 g3 fn72)) [0, 1, 2, 3, 4] (by decide) rfl
                have hK9 := hK.sub (tys' := []) [] rfl
                exact W.vret hx hb hr (fun t ht hW => ⟨⟨(), rfl, trivial, Or.inr (⟨x62, x63, x64, fn70, fn71, fn72, oa_x62, ob_x62, oa_x63, ob_x63, by constructor <;> omega, by exact hgF, by rw [pg_sum.eq]; first | assumption | (apply pg_row.no <;> first | assumption | omega) | (apply pg_L.fail <;> first | assumption | omega), by rw [ht]; exact hP9, va_K.moved hW.alike hK9, hD9⟩)⟩, hS.F ht⟩) hS.2.2 dX12_sum_83
      exact hL19 _ ra6 x8 fn3 fn4 fn5 H locs ls (by first | omega | decide) (by first | omega | decide) oa_x8 ob_x8 (by constructor <;> omega) (by exact hgR.mono (by decide)) (by first | assumption | (apply pg_row.ent <;> first | assumption | omega) | (apply pg_L.next <;> first | assumption | omega) | (apply pg_L.step <;> first | assumption | omega | (apply pg_tru.no <;> assumption) | (apply pg_tru.ok <;> assumption)) | exact pg_L.of (by omega) rfl) (by omega) (by omega) (Nat.lt_succ_self _) hP hD hS (lv_sub hl [0, 1] rfl)
  · skip
    obtain ⟨x74, x75, x76, fn77, fn78, fn79, oa_x74, ob_x74, oa_x75, ob_x75, pt0_ra1, pt1_ra1, pt2_ra1, hP1, hK1, hD1⟩ := hB
    rw [ht] at hP1
    obtain ⟨hP2, hD2⟩ := va_join (wr := []) (w1 := (wd_d906eaf1 h0 v0 h1 v1 x74 x75 x76 h2 h3 h4 r0 r1 r2 r3 v3 v4 r4 r5 r6 r7 v5 r8 r9 v6 v7 r10 r11 v8 v9 r12 v10 v11 r13 v12 w13 r14 v14 v15 r15 r16 r17 r18 r19 r20 v16 r21 r22 r23 v17 h1 g0 f18 h2 g1 fn77 h3 g2 fn78 h4 g3 fn79)) hP hD [0, 1, 2, 3, 4] [] rfl rfl (by decide) (by decide) hk1 hFc hP1 hD1
    clear hP hD hPc hDc hKc hFc hP1 hK1 hD1 hk1 hz1
    generalize H1 = H at hP2 hS ⊢
    have hP : va_P (dC, dI) vwCl (wd_d906eaf1 h0 v0 h1 v1 x74 x75 x76 h2 h3 h4 r0 r1 r2 r3 v3 v4 r4 r5 r6 r7 v5 r8 r9 v6 v7 r10 r11 v8 v9 r12 v10 v11 r13 v12 w13 r14 v14 v15 r15 r16 r17 r18 r19 r20 v16 r21 r22 r23 v17 h1 g0 f18 h2 g1 fn77 h3 g2 fn78 h4 g3 fn79) H := hP2
    have hD : va_D A (wd_d906eaf1 h0 v0 h1 v1 x74 x75 x76 h2 h3 h4 r0 r1 r2 r3 v3 v4 r4 r5 r6 r7 v5 r8 r9 v6 v7 r10 r11 v8 v9 r12 v10 v11 r13 v12 w13 r14 v14 v15 r15 r16 r17 r18 r19 r20 v16 r21 r22 r23 v17 h1 g0 f18 h2 g1 fn77 h3 g2 fn78 h4 g3 fn79) := hD2
    clear hP2 hD2
    have hgF := hgF.app pt1_ra1
    have hxl := hgF.1
    refine lv_aload_n hx hb dX12_sum_4 rfl (lv_at hl 0 rfl) ?_
    refine va_get (D := (dC, dI)) (ci := 12) (v := .int x75) (C := RX12) (T := TX12) (N := 48) hx hb hts (fun _ h => List.mem_cons_of_mem _ (List.mem_append_right _ h)) hown hK hP 0 rfl rfl 4 (by decide) (hts (.fieldLink RX12 119 "LeftArgumentsModel" "wrong" "I") (List.mem_cons_of_mem _ (List.mem_append_left _ (List.mem_of_getElem? (i := 21) rfl)))) (fun _ h9 => h9) rfl dX12_sum_5 ?_
    refine lv_iconst (v := (-1)) hx hb dX12_sum_8 (by decide) ?_
    refine lv_icmp_ne (tgt := 19) hx hb dX12_sum_9 (by decide) (fun _ => ?_) (fun c80 => by exfalso; have fc80 : x75.toInt = (-1) := congrArg Int32.toInt c80; omega)
    refine lv_iconst (v := (-1)) hx hb dX12_sum_19 (by decide) ?_
    refine lv_istore_n (lv' := [(1, .int (-1)), (0, .ref h0)]) hx hb dX12_sum_20 rfl hl (by decide) rfl (fun ls hl => ?_)
    refine lv_iload_n hx hb dX12_sum_21 rfl (lv_at hl 0 rfl) ?_
    refine lv_bipush (v := 43) hx hb dX12_sum_22 (by decide) ?_
    refine lv_icmp_eq (tgt := 33) hx hb dX12_sum_24 (by decide) (fun c => absurd c (by decide)) (fun _ => ?_)
    refine lv_iload_n hx hb dX12_sum_27 rfl (lv_at hl 0 rfl) ?_
    refine lv_bipush (v := 45) hx hb dX12_sum_28 (by decide) ?_
    refine lv_icmp_ne (tgt := 83) hx hb dX12_sum_30 (by decide) (fun _ => ?_) (fun c => absurd c (by decide))
    subst hQ
    have hP9 := hP.sub (ws' := (wd_d906eaf1 h0 v0 h1 v1 x74 x75 x76 h2 h3 h4 r0 r1 r2 r3 v3 v4 r4 r5 r6 r7 v5 r8 r9 v6 v7 r10 r11 v8 v9 r12 v10 v11 r13 v12 w13 r14 v14 v15 r15 r16 r17 r18 r19 r20 v16 r21 r22 r23 v17 h1 g0 f18 h2 g1 fn77 h3 g2 fn78 h4 g3 fn79)) [0, 1, 2, 3, 4] rfl
    have hD9 := hD.sub (ws' := (wd_d906eaf1 h0 v0 h1 v1 x74 x75 x76 h2 h3 h4 r0 r1 r2 r3 v3 v4 r4 r5 r6 r7 v5 r8 r9 v6 v7 r10 r11 v8 v9 r12 v10 v11 r13 v12 w13 r14 v14 v15 r15 r16 r17 r18 r19 r20 v16 r21 r22 r23 v17 h1 g0 f18 h2 g1 fn77 h3 g2 fn78 h4 g3 fn79)) [0, 1, 2, 3, 4] (by decide) rfl
    have hK9 := hK.sub (tys' := []) [] rfl
    exact W.vret hx hb hr (fun t ht hW => ⟨⟨(), rfl, trivial, Or.inr (⟨x74, x75, x76, fn77, fn78, fn79, oa_x74, ob_x74, oa_x75, ob_x75, by constructor <;> omega, by exact hgF, by rw [pg_sum.eq]; first | assumption | (apply pg_row.no <;> first | assumption | omega) | (apply pg_L.fail <;> first | assumption | omega), by rw [ht]; exact hP9, va_K.moved hW.alike hK9, hD9⟩)⟩, hS.F ht⟩) hS.2.2 dX12_sum_83
