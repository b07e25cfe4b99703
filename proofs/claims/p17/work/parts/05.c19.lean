abbrev wd_d5ef5423 (p0 : Nat) (p1 : Int32) (p2 : Nat) (p3 : Int32) (p4 : Int32) (p5 : Int32) (p6 : Int32) (p7 : Nat) (p8 : Nat) (p9 : Nat) (p10 : Nat) (p11 : Nat) (p12 : Nat) (p13 : Nat) (p14 : Int32) (p15 : Int32) (p16 : Nat) (p17 : Nat) (p18 : Nat) (p19 : Nat) (p20 : Int32) (p21 : Nat) (p22 : Nat) (p23 : Int32) (p24 : Int32) (p25 : Nat) (p26 : Nat) (p27 : Int32) (p28 : Int32) (p29 : Nat) (p30 : Int32) (p31 : Int32) (p32 : Nat) (p33 : Int32) (p34 : Int64) (p35 : Nat) (p36 : Int32) (p37 : Int32) (p38 : Nat) (p39 : Nat) (p40 : Nat) (p41 : Nat) (p42 : Nat) (p43 : Nat) (p44 : Int32) (p45 : Nat) (p46 : Nat) (p47 : Nat) (p48 : Int32) (p49 : Nat) (p50 : ClassId) (p51 : Nat → Int32) (p52 : Nat) (p53 : ClassId) (p54 : Nat → Int32) (p55 : Nat) (p56 : ClassId) (p57 : Nat → Int32) (p58 : Nat) (p59 : ClassId) (p60 : Nat → Int32) (p61 : Nat) (p62 : ClassId) (p63 : Nat → Int32) (p64 : Nat) (p65 : ClassId) (p66 : Nat → Int32) (p67 : Nat) (p68 : ClassId) (p69 : Nat → Int32) (p70 : Nat) (p71 : ClassId) (p72 : Nat → Int32) : va_W := [(p0, .inr (12, [.int p1, .ref p2, .int p3, .int p4, .int p5, .int p6, .ref p7, .ref p8, .ref p9, .ref p10, .ref p11, .ref p12, .ref p13, .int p14, .int p15, .ref p16, .ref p17, .ref p18, .ref p19, .int p20, .ref p21, .ref p22, .int p23, .int p24, .ref p25, .ref p26, .int p27, .int p28, .ref p29, .int p30, .int p31, .ref p32, .int p33, .long p34, .ref p35, .int p36, .int p37, .ref p38, .ref p39, .ref p40, .ref p41, .ref p42, .ref p43, .int p44, .ref p45, .ref p46, .ref p47, .int p48])), (p49, .inl (p50, 240, .inl p51)), (p52, .inl (p53, 2600, .inl p54)), (p55, .inl (p56, 2600, .inl p57)), (p58, .inl (p59, 5, .inl p60)), (p61, .inl (p62, 5, .inl p63)), (p64, .inl (p65, 700, .inl p66)), (p67, .inl (p68, 700, .inl p69)), (p70, .inl (p71, 700, .inl p72))]
abbrev wd_55284813 (p0 : Nat) (p1 : ClassId) (p2 : Nat → Int32) (p3 : Nat) (p4 : ClassId) (p5 : Nat → Int32) (p6 : Nat) (p7 : ClassId) (p8 : Nat → Int32) (p9 : Nat) (p10 : ClassId) (p11 : Nat → Int32) (p12 : Nat) (p13 : ClassId) (p14 : Nat → Int32) (p15 : Nat) (p16 : ClassId) (p17 : Nat → Int32) (p18 : Nat) (p19 : ClassId) (p20 : Nat → Int32) : va_W := [(p0, .inl (p1, 2600, .inl p2)), (p3, .inl (p4, 2600, .inl p5)), (p6, .inl (p7, 5, .inl p8)), (p9, .inl (p10, 5, .inl p11)), (p12, .inl (p13, 700, .inl p14)), (p15, .inl (p16, 700, .inl p17)), (p18, .inl (p19, 700, .inl p20))]
abbrev wd_f36c9d1b (p0 : Nat) (p1 : ClassId) (p2 : Nat → Int32) (p3 : Nat) (p4 : ClassId) (p5 : Nat → Int32) (p6 : Nat) (p7 : ClassId) (p8 : Nat → Int32) (p9 : Nat) (p10 : ClassId) (p11 : Nat → Int32) (p12 : Nat) (p13 : ClassId) (p14 : Nat → Int32) (p15 : Nat) (p16 : ClassId) (p17 : Nat → Int32) (p18 : Nat) (p19 : ClassId) (p20 : Nat → Int32) (p21 : Nat) (p22 : ClassId) (p23 : Nat → Int32) : va_W := [(p0, .inl (p1, 240, .inl p2)), (p3, .inl (p4, 2600, .inl p5)), (p6, .inl (p7, 2600, .inl p8)), (p9, .inl (p10, 5, .inl p11)), (p12, .inl (p13, 5, .inl p14)), (p15, .inl (p16, 700, .inl p17)), (p18, .inl (p19, 700, .inl p20)), (p21, .inl (p22, 700, .inl p23))]
abbrev wd_e8966f01 (p0 : Nat) (p1 : ClassId) (p2 : Nat → Int32) (p3 : Nat) (p4 : ClassId) (p5 : Nat → Int32) (p6 : Nat) (p7 : ClassId) (p8 : Nat → Int32) (p9 : Nat) (p10 : ClassId) (p11 : Nat → Int32) (p12 : Nat) (p13 : ClassId) (p14 : Nat → Int32) (p15 : Nat) (p16 : ClassId) (p17 : Nat → Int32) : va_W := [(p0, .inl (p1, 240, .inl p2)), (p3, .inl (p4, 2600, .inl p5)), (p6, .inl (p7, 2600, .inl p8)), (p9, .inl (p10, 700, .inl p11)), (p12, .inl (p13, 700, .inl p14)), (p15, .inl (p16, 700, .inl p17))]
abbrev wd_4d81ce87 (p0 : Nat) (p1 : Int32) (p2 : Nat) (p3 : Int32) (p4 : Int32) (p5 : Int32) (p6 : Int32) (p7 : Nat) (p8 : Nat) (p9 : Nat) (p10 : Nat) (p11 : Nat) (p12 : Nat) (p13 : Nat) (p14 : Int32) (p15 : Int32) (p16 : Nat) (p17 : Nat) (p18 : Nat) (p19 : Nat) (p20 : Int32) (p21 : Nat) (p22 : Nat) (p23 : Int32) (p24 : Int32) (p25 : Nat) (p26 : Nat) (p27 : Int32) (p28 : Int32) (p29 : Nat) (p30 : Int32) (p31 : Int32) (p32 : Nat) (p33 : Int32) (p34 : Int64) (p35 : Nat) (p36 : Int32) (p37 : Int32) (p38 : Nat) (p39 : Nat) (p40 : Nat) (p41 : Nat) (p42 : Nat) (p43 : Nat) (p44 : Int32) (p45 : Nat) (p46 : Nat) (p47 : Nat) (p48 : Int32) (p49 : Nat) (p50 : ClassId) (p51 : Nat → Int32) (p52 : Nat) (p53 : ClassId) (p54 : Nat → Int32) : va_W := [(p0, .inr (12, [.int p1, .ref p2, .int p3, .int p4, .int p5, .int p6, .ref p7, .ref p8, .ref p9, .ref p10, .ref p11, .ref p12, .ref p13, .int p14, .int p15, .ref p16, .ref p17, .ref p18, .ref p19, .int p20, .ref p21, .ref p22, .int p23, .int p24, .ref p25, .ref p26, .int p27, .int p28, .ref p29, .int p30, .int p31, .ref p32, .int p33, .long p34, .ref p35, .int p36, .int p37, .ref p38, .ref p39, .ref p40, .ref p41, .ref p42, .ref p43, .int p44, .ref p45, .ref p46, .ref p47, .int p48])), (p49, .inl (p50, 4, .inl p51)), (p52, .inl (p53, 40, .inl p54))]
def q_X12_clause : List Cond := .code yX12_clause cX12_clause 3 none :: (([.fieldLink RX12 122 "LeftArgumentsModel" "text" "I", .fieldLink RX12 22 "LeftArgumentsModel" "clauses" "[I", .fieldLink RX12 119 "LeftArgumentsModel" "wrong" "I", .code yX12_look cX12_look 1 (some .int), .code yX12_here cX12_here 1 (some .int), .fieldLink RX12 112 "LeftArgumentsModel" "at" "I", .fieldLink RX12 109 "LeftArgumentsModel" "size" "I", .fieldLink RX12 9 "LeftArgumentsModel" "tape" "[I", .initialized RX12, .instanceMethod yX12_here, .selects RX12 yX12_here yX12_here, .methodLink RX12 115 yX12_here, .instanceMethod yX12_look, .selects RX12 yX12_look yX12_look, .methodLink RX12 131 yX12_look, .code yX12_bad cX12_bad 1 none, .instanceMethod yX12_bad, .selects RX12 yX12_bad yX12_bad, .methodLink RX12 128 yX12_bad, .fieldLink RX12 25 "LeftArgumentsModel" "testFrom" "[I", .fieldLink RX12 19 "LeftArgumentsModel" "codes" "[I", .fieldLink RX12 28 "LeftArgumentsModel" "sumFrom" "[I", .fieldLink RX12 31 "LeftArgumentsModel" "sumTo" "[I", .code yX12_sum cX12_sum 2 none, .code yX12_term cX12_term 2 none, .code yX12_atom cX12_atom 2 none, .code yX12_isDigit cX12_isDigit 1 (some .boolean), .static yX12_isDigit, .methodLink RX12 134 yX12_isDigit, .code yX12_letterOf cX12_letterOf 1 (some .int), .static yX12_letterOf, .methodLink RX12 145 yX12_letterOf, .code yX12_opens cX12_opens 1 none, .fieldLink RX12 125 "LeftArgumentsModel" "deep" "I", .instanceMethod yX12_opens, .selects RX12 yX12_opens yX12_opens, .methodLink RX12 149 yX12_opens, .code yX12_put cX12_put 3 none, .fieldLink RX12 13 "LeftArgumentsModel" "code" "[I", .fieldLink RX12 16 "LeftArgumentsModel" "value" "[I", .instanceMethod yX12_put, .selects RX12 yX12_put yX12_put, .methodLink RX12 141 yX12_put, .code yX12_plainNumber cX12_plainNumber 3 (some .int), .instanceMethod yX12_plainNumber, .selects RX12 yX12_plainNumber yX12_plainNumber, .methodLink RX12 138 yX12_plainNumber, .instanceMethod yX12_atom, .selects RX12 yX12_atom yX12_atom, .methodLink RX12 159 yX12_atom, .instanceMethod yX12_term, .selects RX12 yX12_term yX12_term, .methodLink RX12 162 yX12_term, .instanceMethod yX12_sum, .selects RX12 yX12_sum yX12_sum, .methodLink RX12 152 yX12_sum, .code yX12_closes cX12_closes 2 none, .instanceMethod yX12_closes, .selects RX12 yX12_closes yX12_closes, .methodLink RX12 155 yX12_closes, .code yX12_isSign cX12_isSign 1 (some .boolean), .static yX12_isSign, .methodLink RX12 165 yX12_isSign, .code yX12_compare cX12_compare 2 none, .instanceMethod yX12_compare, .selects RX12 yX12_compare yX12_compare, .methodLink RX12 174 yX12_compare, .code yX12_goOnAnd cX12_goOnAnd 1 none, .code yX12_unit cX12_unit 2 none, .code yX12_condition cX12_condition 1 none, .instanceMethod yX12_unit, .selects RX12 yX12_unit yX12_unit, .methodLink RX12 168 yX12_unit, .instanceMethod yX12_goOnAnd, .selects RX12 yX12_goOnAnd yX12_goOnAnd, .methodLink RX12 177 yX12_goOnAnd, .code yX12_goOnOr cX12_goOnOr 1 none, .instanceMethod yX12_goOnOr, .selects RX12 yX12_goOnOr yX12_goOnOr, .methodLink RX12 180 yX12_goOnOr, .instanceMethod yX12_condition, .selects RX12 yX12_condition yX12_condition, .methodLink RX12 171 yX12_condition] : List Cond) ++ wsX120)
set_option maxRecDepth 20000 in
theorem g_X12_clause_0 : GoodIn q_X12_clause (wsV RX12 131 RX12 yX12_look q_X12_look) := goodIn_app (goodIn_r _ [15, 13, 14, 9] rfl (by decide +kernel)) (goodIn_ca (goodIn_r (.code yX12_look cX12_look 1 (some .int) :: [.code yX12_here cX12_here 1 (some .int), .fieldLink RX12 112 "LeftArgumentsModel" "at" "I", .fieldLink RX12 109 "LeftArgumentsModel" "size" "I", .fieldLink RX12 9 "LeftArgumentsModel" "tape" "[I", .initialized RX12, .instanceMethod yX12_here, .selects RX12 yX12_here yX12_here, .methodLink RX12 115 yX12_here]) [4, 5, 6, 7, 8, 9, 10, 11, 12] rfl (by decide +kernel)) (goodIn_sub (fun _ h => List.mem_cons_of_mem _ (List.mem_append_right _ h)) gwX12))
set_option maxRecDepth 20000 in
theorem g_X12_clause_1 : GoodIn q_X12_clause (wsV RX12 128 RX12 yX12_bad q_X12_bad) := goodIn_app (goodIn_r _ [19, 17, 18, 9] rfl (by decide +kernel)) (goodIn_ca (goodIn_r (.code yX12_bad cX12_bad 1 none :: [.fieldLink RX12 119 "LeftArgumentsModel" "wrong" "I", .fieldLink RX12 112 "LeftArgumentsModel" "at" "I"]) [16, 3, 6] rfl (by decide +kernel)) (goodIn_sub (fun _ h => List.mem_cons_of_mem _ (List.mem_append_right _ h)) gwX12))
set_option maxRecDepth 20000 in
theorem g_X12_clause_4 : GoodIn q_X12_clause (wsV RX12 152 RX12 yX12_sum q_X12_sum_6) := goodIn_app (goodIn_r _ [56, 54, 55, 9] rfl (by decide +kernel)) (goodIn_ca (goodIn_r (.code yX12_sum cX12_sum 2 none :: [.code yX12_term cX12_term 2 none, .code yX12_atom cX12_atom 2 none, .code yX12_look cX12_look 1 (some .int), .code yX12_here cX12_here 1 (some .int), .fieldLink RX12 112 "LeftArgumentsModel" "at" "I", .fieldLink RX12 109 "LeftArgumentsModel" "size" "I", .fieldLink RX12 9 "LeftArgumentsModel" "tape" "[I", .initialized RX12, .instanceMethod yX12_here, .selects RX12 yX12_here yX12_here, .methodLink RX12 115 yX12_here, .instanceMethod yX12_look, .selects RX12 yX12_look yX12_look, .methodLink RX12 131 yX12_look, .code yX12_isDigit cX12_isDigit 1 (some .boolean), .static yX12_isDigit, .methodLink RX12 134 yX12_isDigit, .code yX12_letterOf cX12_letterOf 1 (some .int), .static yX12_letterOf, .methodLink RX12 145 yX12_letterOf, .code yX12_bad cX12_bad 1 none, .fieldLink RX12 119 "LeftArgumentsModel" "wrong" "I", .instanceMethod yX12_bad, .selects RX12 yX12_bad yX12_bad, .methodLink RX12 128 yX12_bad, .code yX12_opens cX12_opens 1 none, .fieldLink RX12 125 "LeftArgumentsModel" "deep" "I", .instanceMethod yX12_opens, .selects RX12 yX12_opens yX12_opens, .methodLink RX12 149 yX12_opens, .code yX12_sum cX12_sum 2 none, .code yX12_put cX12_put 3 none, .fieldLink RX12 13 "LeftArgumentsModel" "code" "[I", .fieldLink RX12 122 "LeftArgumentsModel" "text" "I", .fieldLink RX12 19 "LeftArgumentsModel" "codes" "[I", .fieldLink RX12 16 "LeftArgumentsModel" "value" "[I", .instanceMethod yX12_put, .selects RX12 yX12_put yX12_put, .methodLink RX12 141 yX12_put, .code yX12_plainNumber cX12_plainNumber 3 (some .int), .instanceMethod yX12_plainNumber, .selects RX12 yX12_plainNumber yX12_plainNumber, .methodLink RX12 138 yX12_plainNumber, .instanceMethod yX12_atom, .selects RX12 yX12_atom yX12_atom, .methodLink RX12 159 yX12_atom, .instanceMethod yX12_term, .selects RX12 yX12_term yX12_term, .methodLink RX12 162 yX12_term, .instanceMethod yX12_sum, .selects RX12 yX12_sum yX12_sum, .methodLink RX12 152 yX12_sum, .code yX12_closes cX12_closes 2 none, .instanceMethod yX12_closes, .selects RX12 yX12_closes yX12_closes, .methodLink RX12 155 yX12_closes]) [24, 25, 26, 4, 5, 6, 7, 8, 9, 10, 11, 12, 13, 14, 15, 27, 28, 29, 30, 31, 32, 16, 3, 17, 18, 19, 33, 34, 35, 36, 37, 24, 38, 39, 1, 21, 40, 41, 42, 43, 44, 45, 46, 47, 48, 49, 50, 51, 52, 53, 54, 55, 56, 57, 58, 59, 60] rfl (by decide +kernel)) (goodIn_sub (fun _ h => List.mem_cons_of_mem _ (List.mem_append_right _ h)) gwX12))
set_option maxRecDepth 20000 in
theorem g_X12_clause_6 : GoodIn q_X12_clause (va_wsS RX12 165 yX12_isSign q_X12_isSign) := goodIn_app (goodIn_r _ [63, 62, 9] rfl (by decide +kernel)) (goodIn_r (.code yX12_isSign cX12_isSign 1 (some .boolean) :: []) [61] rfl (by decide +kernel))
set_option maxRecDepth 20000 in
theorem g_X12_clause_8 : GoodIn q_X12_clause (wsV RX12 174 RX12 yX12_compare q_X12_compare_6) := goodIn_app (goodIn_r _ [67, 65, 66, 9] rfl (by decide +kernel)) (goodIn_ca (goodIn_r (.code yX12_compare cX12_compare 2 none :: [.fieldLink RX12 119 "LeftArgumentsModel" "wrong" "I", .code yX12_look cX12_look 1 (some .int), .code yX12_here cX12_here 1 (some .int), .fieldLink RX12 112 "LeftArgumentsModel" "at" "I", .fieldLink RX12 109 "LeftArgumentsModel" "size" "I", .fieldLink RX12 9 "LeftArgumentsModel" "tape" "[I", .initialized RX12, .instanceMethod yX12_here, .selects RX12 yX12_here yX12_here, .methodLink RX12 115 yX12_here, .instanceMethod yX12_look, .selects RX12 yX12_look yX12_look, .methodLink RX12 131 yX12_look, .code yX12_isSign cX12_isSign 1 (some .boolean), .static yX12_isSign, .methodLink RX12 165 yX12_isSign, .code yX12_bad cX12_bad 1 none, .instanceMethod yX12_bad, .selects RX12 yX12_bad yX12_bad, .methodLink RX12 128 yX12_bad, .code yX12_sum cX12_sum 2 none, .code yX12_term cX12_term 2 none, .code yX12_atom cX12_atom 2 none, .code yX12_isDigit cX12_isDigit 1 (some .boolean), .static yX12_isDigit, .methodLink RX12 134 yX12_isDigit, .code yX12_letterOf cX12_letterOf 1 (some .int), .static yX12_letterOf, .methodLink RX12 145 yX12_letterOf, .code yX12_opens cX12_opens 1 none, .fieldLink RX12 125 "LeftArgumentsModel" "deep" "I", .instanceMethod yX12_opens, .selects RX12 yX12_opens yX12_opens, .methodLink RX12 149 yX12_opens, .code yX12_put cX12_put 3 none, .fieldLink RX12 13 "LeftArgumentsModel" "code" "[I", .fieldLink RX12 122 "LeftArgumentsModel" "text" "I", .fieldLink RX12 19 "LeftArgumentsModel" "codes" "[I", .fieldLink RX12 16 "LeftArgumentsModel" "value" "[I", .instanceMethod yX12_put, .selects RX12 yX12_put yX12_put, .methodLink RX12 141 yX12_put, .code yX12_plainNumber cX12_plainNumber 3 (some .int), .instanceMethod yX12_plainNumber, .selects RX12 yX12_plainNumber yX12_plainNumber, .methodLink RX12 138 yX12_plainNumber, .instanceMethod yX12_atom, .selects RX12 yX12_atom yX12_atom, .methodLink RX12 159 yX12_atom, .instanceMethod yX12_term, .selects RX12 yX12_term yX12_term, .methodLink RX12 162 yX12_term, .instanceMethod yX12_sum, .selects RX12 yX12_sum yX12_sum, .methodLink RX12 152 yX12_sum, .code yX12_closes cX12_closes 2 none, .instanceMethod yX12_closes, .selects RX12 yX12_closes yX12_closes, .methodLink RX12 155 yX12_closes]) [64, 3, 4, 5, 6, 7, 8, 9, 10, 11, 12, 13, 14, 15, 61, 62, 63, 16, 17, 18, 19, 24, 25, 26, 27, 28, 29, 30, 31, 32, 33, 34, 35, 36, 37, 38, 39, 1, 21, 40, 41, 42, 43, 44, 45, 46, 47, 48, 49, 50, 51, 52, 53, 54, 55, 56, 57, 58, 59, 60] rfl (by decide +kernel)) (goodIn_sub (fun _ h => List.mem_cons_of_mem _ (List.mem_append_right _ h)) gwX12))
set_option maxRecDepth 20000 in
theorem g_X12_clause_9 : GoodIn q_X12_clause (wsV RX12 177 RX12 yX12_goOnAnd q_X12_goOnAnd_7) := goodIn_app (goodIn_r _ [76, 74, 75, 9] rfl (by decide +kernel)) (goodIn_ca (goodIn_r (.code yX12_goOnAnd cX12_goOnAnd 1 none :: [.fieldLink RX12 119 "LeftArgumentsModel" "wrong" "I", .code yX12_look cX12_look 1 (some .int), .code yX12_here cX12_here 1 (some .int), .fieldLink RX12 112 "LeftArgumentsModel" "at" "I", .fieldLink RX12 109 "LeftArgumentsModel" "size" "I", .fieldLink RX12 9 "LeftArgumentsModel" "tape" "[I", .initialized RX12, .instanceMethod yX12_here, .selects RX12 yX12_here yX12_here, .methodLink RX12 115 yX12_here, .instanceMethod yX12_look, .selects RX12 yX12_look yX12_look, .methodLink RX12 131 yX12_look, .code yX12_unit cX12_unit 2 none, .code yX12_sum cX12_sum 2 none, .code yX12_term cX12_term 2 none, .code yX12_atom cX12_atom 2 none, .code yX12_isDigit cX12_isDigit 1 (some .boolean), .static yX12_isDigit, .methodLink RX12 134 yX12_isDigit, .code yX12_letterOf cX12_letterOf 1 (some .int), .static yX12_letterOf, .methodLink RX12 145 yX12_letterOf, .code yX12_bad cX12_bad 1 none, .instanceMethod yX12_bad, .selects RX12 yX12_bad yX12_bad, .methodLink RX12 128 yX12_bad, .code yX12_opens cX12_opens 1 none, .fieldLink RX12 125 "LeftArgumentsModel" "deep" "I", .instanceMethod yX12_opens, .selects RX12 yX12_opens yX12_opens, .methodLink RX12 149 yX12_opens, .code yX12_put cX12_put 3 none, .fieldLink RX12 13 "LeftArgumentsModel" "code" "[I", .fieldLink RX12 122 "LeftArgumentsModel" "text" "I", .fieldLink RX12 19 "LeftArgumentsModel" "codes" "[I", .fieldLink RX12 16 "LeftArgumentsModel" "value" "[I", .instanceMethod yX12_put, .selects RX12 yX12_put yX12_put, .methodLink RX12 141 yX12_put, .code yX12_plainNumber cX12_plainNumber 3 (some .int), .instanceMethod yX12_plainNumber, .selects RX12 yX12_plainNumber yX12_plainNumber, .methodLink RX12 138 yX12_plainNumber, .instanceMethod yX12_atom, .selects RX12 yX12_atom yX12_atom, .methodLink RX12 159 yX12_atom, .instanceMethod yX12_term, .selects RX12 yX12_term yX12_term, .methodLink RX12 162 yX12_term, .instanceMethod yX12_sum, .selects RX12 yX12_sum yX12_sum, .methodLink RX12 152 yX12_sum, .code yX12_closes cX12_closes 2 none, .instanceMethod yX12_closes, .selects RX12 yX12_closes yX12_closes, .methodLink RX12 155 yX12_closes, .code yX12_compare cX12_compare 2 none, .code yX12_isSign cX12_isSign 1 (some .boolean), .static yX12_isSign, .methodLink RX12 165 yX12_isSign, .instanceMethod yX12_compare, .selects RX12 yX12_compare yX12_compare, .methodLink RX12 174 yX12_compare, .code yX12_condition cX12_condition 1 none, .instanceMethod yX12_unit, .selects RX12 yX12_unit yX12_unit, .methodLink RX12 168 yX12_unit, .code yX12_goOnAnd cX12_goOnAnd 1 none, .instanceMethod yX12_goOnAnd, .selects RX12 yX12_goOnAnd yX12_goOnAnd, .methodLink RX12 177 yX12_goOnAnd, .code yX12_goOnOr cX12_goOnOr 1 none, .instanceMethod yX12_goOnOr, .selects RX12 yX12_goOnOr yX12_goOnOr, .methodLink RX12 180 yX12_goOnOr, .instanceMethod yX12_condition, .selects RX12 yX12_condition yX12_condition, .methodLink RX12 171 yX12_condition]) [68, 3, 4, 5, 6, 7, 8, 9, 10, 11, 12, 13, 14, 15, 69, 24, 25, 26, 27, 28, 29, 30, 31, 32, 16, 17, 18, 19, 33, 34, 35, 36, 37, 38, 39, 1, 21, 40, 41, 42, 43, 44, 45, 46, 47, 48, 49, 50, 51, 52, 53, 54, 55, 56, 57, 58, 59, 60, 64, 61, 62, 63, 65, 66, 67, 70, 71, 72, 73, 68, 74, 75, 76, 77, 78, 79, 80, 81, 82, 83] rfl (by decide +kernel)) (goodIn_sub (fun _ h => List.mem_cons_of_mem _ (List.mem_append_right _ h)) gwX12))
set_option maxRecDepth 20000 in
theorem g_X12_clause_10 : GoodIn q_X12_clause (wsV RX12 180 RX12 yX12_goOnOr q_X12_goOnOr_7) := goodIn_app (goodIn_r _ [80, 78, 79, 9] rfl (by decide +kernel)) (goodIn_ca (goodIn_r (.code yX12_goOnOr cX12_goOnOr 1 none :: [.fieldLink RX12 119 "LeftArgumentsModel" "wrong" "I", .code yX12_look cX12_look 1 (some .int), .code yX12_here cX12_here 1 (some .int), .fieldLink RX12 112 "LeftArgumentsModel" "at" "I", .fieldLink RX12 109 "LeftArgumentsModel" "size" "I", .fieldLink RX12 9 "LeftArgumentsModel" "tape" "[I", .initialized RX12, .instanceMethod yX12_here, .selects RX12 yX12_here yX12_here, .methodLink RX12 115 yX12_here, .instanceMethod yX12_look, .selects RX12 yX12_look yX12_look, .methodLink RX12 131 yX12_look, .code yX12_unit cX12_unit 2 none, .code yX12_sum cX12_sum 2 none, .code yX12_term cX12_term 2 none, .code yX12_atom cX12_atom 2 none, .code yX12_isDigit cX12_isDigit 1 (some .boolean), .static yX12_isDigit, .methodLink RX12 134 yX12_isDigit, .code yX12_letterOf cX12_letterOf 1 (some .int), .static yX12_letterOf, .methodLink RX12 145 yX12_letterOf, .code yX12_bad cX12_bad 1 none, .instanceMethod yX12_bad, .selects RX12 yX12_bad yX12_bad, .methodLink RX12 128 yX12_bad, .code yX12_opens cX12_opens 1 none, .fieldLink RX12 125 "LeftArgumentsModel" "deep" "I", .instanceMethod yX12_opens, .selects RX12 yX12_opens yX12_opens, .methodLink RX12 149 yX12_opens, .code yX12_put cX12_put 3 none, .fieldLink RX12 13 "LeftArgumentsModel" "code" "[I", .fieldLink RX12 122 "LeftArgumentsModel" "text" "I", .fieldLink RX12 19 "LeftArgumentsModel" "codes" "[I", .fieldLink RX12 16 "LeftArgumentsModel" "value" "[I", .instanceMethod yX12_put, .selects RX12 yX12_put yX12_put, .methodLink RX12 141 yX12_put, .code yX12_plainNumber cX12_plainNumber 3 (some .int), .instanceMethod yX12_plainNumber, .selects RX12 yX12_plainNumber yX12_plainNumber, .methodLink RX12 138 yX12_plainNumber, .instanceMethod yX12_atom, .selects RX12 yX12_atom yX12_atom, .methodLink RX12 159 yX12_atom, .instanceMethod yX12_term, .selects RX12 yX12_term yX12_term, .methodLink RX12 162 yX12_term, .instanceMethod yX12_sum, .selects RX12 yX12_sum yX12_sum, .methodLink RX12 152 yX12_sum, .code yX12_closes cX12_closes 2 none, .instanceMethod yX12_closes, .selects RX12 yX12_closes yX12_closes, .methodLink RX12 155 yX12_closes, .code yX12_compare cX12_compare 2 none, .code yX12_isSign cX12_isSign 1 (some .boolean), .static yX12_isSign, .methodLink RX12 165 yX12_isSign, .instanceMethod yX12_compare, .selects RX12 yX12_compare yX12_compare, .methodLink RX12 174 yX12_compare, .code yX12_condition cX12_condition 1 none, .instanceMethod yX12_unit, .selects RX12 yX12_unit yX12_unit, .methodLink RX12 168 yX12_unit, .code yX12_goOnAnd cX12_goOnAnd 1 none, .instanceMethod yX12_goOnAnd, .selects RX12 yX12_goOnAnd yX12_goOnAnd, .methodLink RX12 177 yX12_goOnAnd, .code yX12_goOnOr cX12_goOnOr 1 none, .instanceMethod yX12_goOnOr, .selects RX12 yX12_goOnOr yX12_goOnOr, .methodLink RX12 180 yX12_goOnOr, .instanceMethod yX12_condition, .selects RX12 yX12_condition yX12_condition, .methodLink RX12 171 yX12_condition]) [77, 3, 4, 5, 6, 7, 8, 9, 10, 11, 12, 13, 14, 15, 69, 24, 25, 26, 27, 28, 29, 30, 31, 32, 16, 17, 18, 19, 33, 34, 35, 36, 37, 38, 39, 1, 21, 40, 41, 42, 43, 44, 45, 46, 47, 48, 49, 50, 51, 52, 53, 54, 55, 56, 57, 58, 59, 60, 64, 61, 62, 63, 65, 66, 67, 70, 71, 72, 73, 68, 74, 75, 76, 77, 78, 79, 80, 81, 82, 83] rfl (by decide +kernel)) (goodIn_sub (fun _ h => List.mem_cons_of_mem _ (List.mem_append_right _ h)) gwX12))
set_option maxRecDepth 20000 in
theorem g_X12_clause_15 : GoodIn q_X12_clause (wsV RX12 180 RX12 yX12_goOnOr q_X12_goOnOr_1) := goodIn_app (goodIn_r _ [80, 78, 79, 9] rfl (by decide +kernel)) (goodIn_ca (goodIn_r (.code yX12_goOnOr cX12_goOnOr 1 none :: [.fieldLink RX12 119 "LeftArgumentsModel" "wrong" "I"]) [77, 3] rfl (by decide +kernel)) (goodIn_sub (fun _ h => List.mem_cons_of_mem _ (List.mem_append_right _ h)) gwX12))
set_option maxRecDepth 20000 in
theorem g_X12_clause_16 : GoodIn q_X12_clause (wsV RX12 177 RX12 yX12_goOnAnd q_X12_goOnAnd_1) := goodIn_app (goodIn_r _ [76, 74, 75, 9] rfl (by decide +kernel)) (goodIn_ca (goodIn_r (.code yX12_goOnAnd cX12_goOnAnd 1 none :: [.fieldLink RX12 119 "LeftArgumentsModel" "wrong" "I"]) [68, 3] rfl (by decide +kernel)) (goodIn_sub (fun _ h => List.mem_cons_of_mem _ (List.mem_append_right _ h)) gwX12))
set_option maxRecDepth 20000 in
theorem g_X12_clause_18 : GoodIn q_X12_clause (wsV RX12 171 RX12 yX12_condition q_X12_condition_6) := goodIn_app (goodIn_r _ [83, 81, 82, 9] rfl (by decide +kernel)) (goodIn_ca (goodIn_r (.code yX12_condition cX12_condition 1 none :: [.code yX12_unit cX12_unit 2 none, .code yX12_look cX12_look 1 (some .int), .code yX12_here cX12_here 1 (some .int), .fieldLink RX12 112 "LeftArgumentsModel" "at" "I", .fieldLink RX12 109 "LeftArgumentsModel" "size" "I", .fieldLink RX12 9 "LeftArgumentsModel" "tape" "[I", .initialized RX12, .instanceMethod yX12_here, .selects RX12 yX12_here yX12_here, .methodLink RX12 115 yX12_here, .instanceMethod yX12_look, .selects RX12 yX12_look yX12_look, .methodLink RX12 131 yX12_look, .code yX12_sum cX12_sum 2 none, .code yX12_term cX12_term 2 none, .code yX12_atom cX12_atom 2 none, .code yX12_isDigit cX12_isDigit 1 (some .boolean), .static yX12_isDigit, .methodLink RX12 134 yX12_isDigit, .code yX12_letterOf cX12_letterOf 1 (some .int), .static yX12_letterOf, .methodLink RX12 145 yX12_letterOf, .code yX12_bad cX12_bad 1 none, .fieldLink RX12 119 "LeftArgumentsModel" "wrong" "I", .instanceMethod yX12_bad, .selects RX12 yX12_bad yX12_bad, .methodLink RX12 128 yX12_bad, .code yX12_opens cX12_opens 1 none, .fieldLink RX12 125 "LeftArgumentsModel" "deep" "I", .instanceMethod yX12_opens, .selects RX12 yX12_opens yX12_opens, .methodLink RX12 149 yX12_opens, .code yX12_put cX12_put 3 none, .fieldLink RX12 13 "LeftArgumentsModel" "code" "[I", .fieldLink RX12 122 "LeftArgumentsModel" "text" "I", .fieldLink RX12 19 "LeftArgumentsModel" "codes" "[I", .fieldLink RX12 16 "LeftArgumentsModel" "value" "[I", .instanceMethod yX12_put, .selects RX12 yX12_put yX12_put, .methodLink RX12 141 yX12_put, .code yX12_plainNumber cX12_plainNumber 3 (some .int), .instanceMethod yX12_plainNumber, .selects RX12 yX12_plainNumber yX12_plainNumber, .methodLink RX12 138 yX12_plainNumber, .instanceMethod yX12_atom, .selects RX12 yX12_atom yX12_atom, .methodLink RX12 159 yX12_atom, .instanceMethod yX12_term, .selects RX12 yX12_term yX12_term, .methodLink RX12 162 yX12_term, .instanceMethod yX12_sum, .selects RX12 yX12_sum yX12_sum, .methodLink RX12 152 yX12_sum, .code yX12_closes cX12_closes 2 none, .instanceMethod yX12_closes, .selects RX12 yX12_closes yX12_closes, .methodLink RX12 155 yX12_closes, .code yX12_compare cX12_compare 2 none, .code yX12_isSign cX12_isSign 1 (some .boolean), .static yX12_isSign, .methodLink RX12 165 yX12_isSign, .instanceMethod yX12_compare, .selects RX12 yX12_compare yX12_compare, .methodLink RX12 174 yX12_compare, .code yX12_condition cX12_condition 1 none, .instanceMethod yX12_unit, .selects RX12 yX12_unit yX12_unit, .methodLink RX12 168 yX12_unit, .code yX12_goOnAnd cX12_goOnAnd 1 none, .instanceMethod yX12_goOnAnd, .selects RX12 yX12_goOnAnd yX12_goOnAnd, .methodLink RX12 177 yX12_goOnAnd, .code yX12_goOnOr cX12_goOnOr 1 none, .instanceMethod yX12_goOnOr, .selects RX12 yX12_goOnOr yX12_goOnOr, .methodLink RX12 180 yX12_goOnOr, .instanceMethod yX12_condition, .selects RX12 yX12_condition yX12_condition, .methodLink RX12 171 yX12_condition]) [70, 69, 4, 5, 6, 7, 8, 9, 10, 11, 12, 13, 14, 15, 24, 25, 26, 27, 28, 29, 30, 31, 32, 16, 3, 17, 18, 19, 33, 34, 35, 36, 37, 38, 39, 1, 21, 40, 41, 42, 43, 44, 45, 46, 47, 48, 49, 50, 51, 52, 53, 54, 55, 56, 57, 58, 59, 60, 64, 61, 62, 63, 65, 66, 67, 70, 71, 72, 73, 68, 74, 75, 76, 77, 78, 79, 80, 81, 82, 83] rfl (by decide +kernel)) (goodIn_sub (fun _ h => List.mem_cons_of_mem _ (List.mem_append_right _ h)) gwX12))
set_option maxHeartbeats 4000000 in
set_option maxRecDepth 100000 in
theorem k_X12_clause (l : Launch) (dC : Nat → ClassId) (dI : Nat → Nat → Nat) (h0 : Nat) (h1 : Nat) (h2 : Nat) (h3 : Nat) (h4 : Nat) (h5 : Nat) (h6 : Nat) (h7 : Nat) (h8 : Nat) (v0 : Int32) (v1 : Int32) (v2 : Int32) (v3 : Int32) (v4 : Int32) (r0 : Nat) (r1 : Nat) (r2 : Nat) (r3 : Nat) (v5 : Int32) (r4 : Nat) (r5 : Nat) (v6 : Int32) (v7 : Int32) (r6 : Nat) (r7 : Nat) (v8 : Int32) (v9 : Int32) (r8 : Nat) (v10 : Int32) (v11 : Int32) (r9 : Nat) (v12 : Int32) (w13 : Int64) (r10 : Nat) (v14 : Int32) (v15 : Int32) (r11 : Nat) (r12 : Nat) (r13 : Nat) (r14 : Nat) (r15 : Nat) (r16 : Nat) (v16 : Int32) (r17 : Nat) (r18 : Nat) (r19 : Nat) (v17 : Int32) (g0 : ClassId) (f18 : Nat → Int32) (g1 : ClassId) (f19 : Nat → Int32) (g2 : ClassId) (f20 : Nat → Int32) (g3 : ClassId) (f21 : Nat → Int32) (g4 : ClassId) (f22 : Nat → Int32) (g5 : ClassId) (f23 : Nat → Int32) (g6 : ClassId) (f24 : Nat → Int32) (g7 : ClassId) (f25 : Nat → Int32) (i_v1 : 0 ≤ v1.toInt ∧ v1.toInt ≤ 240) (i_v2 : 0 ≤ v2.toInt ∧ v2.toInt ≤ 240) (i_v3 : 0 ≤ v3.toInt ∧ v3.toInt ≤ 4) (i_v4 : 0 ≤ v4.toInt ∧ v4.toInt ≤ 4) (i_v5 : 0 ≤ v5.toInt ∧ v5.toInt ≤ 8) (i_v6 : 0 ≤ v6.toInt ∧ v6.toInt ≤ 8) (i_v7 : 0 ≤ v7.toInt ∧ v7.toInt ≤ 1) (i_v8 : -1 ≤ v8.toInt ∧ v8.toInt ≤ 3) (i_v12 : 0 ≤ v12.toInt ∧ v12.toInt ≤ 40) (i_v16 : 0 ≤ v16.toInt ∧ v16.toInt ≤ 10) (i_v17 : 0 ≤ v17.toInt ∧ v17.toInt ≤ 1) (ia_f18 : (∀ j, 0 ≤ (f18 j).toInt ∧ (f18 j).toInt ≤ 255)) (pp0 : 0 ≤ pm_x f21 v4 ∧ pm_x f21 v4 ≤ v2.toInt) (pp1 : 0 ≤ pm_x f22 v4 ∧ 2 * pm_x f22 v4 ≤ v2.toInt) (pp2 : pm_Rw v4 f19 f20 f21 f22 f23 f24 f25) (sz : Nat) : Met l yX12_clause q_X12_clause ({ frames := 34, cells := 0, slots := 0, locals := 693 }) (va_Pc [.ref h0] (fun U => U.heap.size = sz ∧ va_P (dC, dI) vwCl (wd_d5ef5423 h0 v0 h1 v1 v2 (-1) 0 h2 h3 h4 h5 h6 h7 h8 v3 v4 r0 r1 r2 r3 v5 r4 r5 v6 v7 r6 r7 v8 v9 r8 v10 v11 r9 v12 w13 r10 v14 v15 r11 r12 r13 r14 r15 r16 v16 r17 r18 r19 v17 h1 g0 f18 h2 g1 f19 h3 g2 f20 h4 g3 f21 h5 g4 f22 h6 g5 f23 h7 g6 f24 h8 g7 f25) U.heap ∧ va_K (dC, dI) vwCl [(g0, .int), (g1, .int), (g2, .int), (g3, .int), (g4, .int), (g5, .int), (g6, .int), (g7, .int)] U ∧ va_D (fun _ => True) (wd_d5ef5423 h0 v0 h1 v1 v2 (-1) 0 h2 h3 h4 h5 h6 h7 h8 v3 v4 r0 r1 r2 r3 v5 r4 r5 v6 v7 r6 r7 v8 v9 r8 v10 v11 r9 v12 w13 r10 v14 v15 r11 r12 r13 r14 r15 r16 v16 r17 r18 r19 v17 h1 g0 f18 h2 g1 f19 h3 g2 f20 h4 g3 f21 h5 g4 f22 h6 g5 f23 h7 g6 f24 h8 g7 f25))) (va_Qv (fun (_ : Unit) => True) (fun (_ : Unit) (t : State) => (∃ (o_h0_3 : Int32) (o_h2 : Nat → Int32) (o_h3 : Nat → Int32) (o_h4 : Nat → Int32) (o_h5 : Nat → Int32) (o_h6 : Nat → Int32) (o_h7 : Nat → Int32) (o_h8 : Nat → Int32), 0 ≤ o_h0_3.toInt ∧ o_h0_3.toInt ≤ 240 ∧ (pm_x o_h4 v4 - pm_x f21 v4 ≤ o_h0_3.toInt - v2.toInt ∧ v2.toInt + 2 ≤ o_h0_3.toInt ∧ pm_x f21 v4 ≤ pm_x o_h4 v4) ∧ (pm_x o_h5 v4 = pm_x f22 v4 + 1) ∧ (pm_Rw v4 o_h2 o_h3 o_h4 o_h5 o_h6 o_h7 o_h8) ∧ (pm_Oth v4 f19 f20 f22 f23 f24 f25 o_h2 o_h3 o_h5 o_h6 o_h7 o_h8) ∧ va_P (dC, dI) vwCl (wd_d5ef5423 h0 v0 h1 v1 o_h0_3 (-1) 0 h2 h3 h4 h5 h6 h7 h8 v3 v4 r0 r1 r2 r3 v5 r4 r5 v6 v7 r6 r7 v8 v9 r8 v10 v11 r9 v12 w13 r10 v14 v15 r11 r12 r13 r14 r15 r16 v16 r17 r18 r19 v17 h1 g0 f18 h2 g1 o_h2 h3 g2 o_h3 h4 g3 o_h4 h5 g4 o_h5 h6 g5 o_h6 h7 g6 o_h7 h8 g7 o_h8) t.heap ∧ va_K (dC, dI) vwCl [] t ∧ va_D (va_A (wd_d5ef5423 h0 v0 h1 v1 v2 (-1) 0 h2 h3 h4 h5 h6 h7 h8 v3 v4 r0 r1 r2 r3 v5 r4 r5 v6 v7 r6 r7 v8 v9 r8 v10 v11 r9 v12 w13 r10 v14 v15 r11 r12 r13 r14 r15 r16 v16 r17 r18 r19 v17 h1 g0 f18 h2 g1 f19 h3 g2 f20 h4 g3 f21 h5 g4 f22 h6 g5 f23 h7 g6 f24 h8 g7 f25) sz) (wd_d5ef5423 h0 v0 h1 v1 o_h0_3 (-1) 0 h2 h3 h4 h5 h6 h7 h8 v3 v4 r0 r1 r2 r3 v5 r4 r5 v6 v7 r6 r7 v8 v9 r8 v10 v11 r9 v12 w13 r10 v14 v15 r11 r12 r13 r14 r15 r16 v16 r17 r18 r19 v17 h1 g0 f18 h2 g1 o_h2 h3 g2 o_h3 h4 g3 o_h4 h5 g4 o_h5 h6 g5 o_h6 h7 g6 o_h7 h8 g7 o_h8)) ∨ (∃ (o_h0_3 : Int32) (o_h0_4 : Int32) (o_h0_5 : Int32) (o_h2 : Nat → Int32) (o_h3 : Nat → Int32) (o_h4 : Nat → Int32) (o_h5 : Nat → Int32) (o_h6 : Nat → Int32) (o_h7 : Nat → Int32) (o_h8 : Nat → Int32), 0 ≤ o_h0_3.toInt ∧ o_h0_3.toInt ≤ 246 ∧ 0 ≤ o_h0_4.toInt ∧ o_h0_4.toInt ≤ 240 ∧ (pm_Oth v4 f19 f20 f22 f23 f24 f25 o_h2 o_h3 o_h5 o_h6 o_h7 o_h8) ∧ va_P (dC, dI) vwCl (wd_d5ef5423 h0 v0 h1 v1 o_h0_3 o_h0_4 o_h0_5 h2 h3 h4 h5 h6 h7 h8 v3 v4 r0 r1 r2 r3 v5 r4 r5 v6 v7 r6 r7 v8 v9 r8 v10 v11 r9 v12 w13 r10 v14 v15 r11 r12 r13 r14 r15 r16 v16 r17 r18 r19 v17 h1 g0 f18 h2 g1 o_h2 h3 g2 o_h3 h4 g3 o_h4 h5 g4 o_h5 h6 g5 o_h6 h7 g6 o_h7 h8 g7 o_h8) t.heap ∧ va_K (dC, dI) vwCl [] t ∧ va_D (va_A (wd_d5ef5423 h0 v0 h1 v1 v2 (-1) 0 h2 h3 h4 h5 h6 h7 h8 v3 v4 r0 r1 r2 r3 v5 r4 r5 v6 v7 r6 r7 v8 v9 r8 v10 v11 r9 v12 w13 r10 v14 v15 r11 r12 r13 r14 r15 r16 v16 r17 r18 r19 v17 h1 g0 f18 h2 g1 f19 h3 g2 f20 h4 g3 f21 h5 g4 f22 h6 g5 f23 h7 g6 f24 h8 g7 f25) sz) (wd_d5ef5423 h0 v0 h1 v1 o_h0_3 o_h0_4 o_h0_5 h2 h3 h4 h5 h6 h7 h8 v3 v4 r0 r1 r2 r3 v5 r4 r5 v6 v7 r6 r7 v8 v9 r8 v10 v11 r9 v12 w13 r10 v14 v15 r11 r12 r13 r14 r15 r16 v16 r17 r18 r19 v17 h1 g0 f18 h2 g1 o_h2 h3 g2 o_h3 h4 g3 o_h4 h5 g4 o_h5 h6 g5 o_h6 h7 g6 o_h7 h8 g7 o_h8))) (va_A (wd_d5ef5423 h0 v0 h1 v1 v2 (-1) 0 h2 h3 h4 h5 h6 h7 h8 v3 v4 r0 r1 r2 r3 v5 r4 r5 v6 v7 r6 r7 v8 v9 r8 v10 v11 r9 v12 w13 r10 v14 v15 r11 r12 r13 r14 r15 r16 v16 r17 r18 r19 v17 h1 g0 f18 h2 g1 f19 h3 g2 f20 h4 g3 f21 h5 g4 f22 h6 g5 f23 h7 g6 f24 h8 g7 f25) sz)) 0 0 (va_A (wd_d5ef5423 h0 v0 h1 v1 v2 (-1) 0 h2 h3 h4 h5 h6 h7 h8 v3 v4 r0 r1 r2 r3 v5 r4 r5 v6 v7 r6 r7 v8 v9 r8 v10 v11 r9 v12 w13 r10 v14 v15 r11 r12 r13 r14 r15 r16 v16 r17 r18 r19 v17 h1 g0 f18 h2 g1 f19 h3 g2 f20 h4 g3 f21 h5 g4 f22 h6 g5 f23 h7 g6 f24 h8 g7 f25) sz) := by
  refine Met.ofW (cc := cX12_clause) (maxL := 3) (ret := none) (by decide) rfl ?_
  intro p e s m args below meth c s₁ B hml hv
  obtain ⟨i_v1a, i_v1b⟩ := i_v1
  obtain ⟨i_v2a, i_v2b⟩ := i_v2
  obtain ⟨i_v3a, i_v3b⟩ := i_v3
  obtain ⟨i_v4a, i_v4b⟩ := i_v4
  obtain ⟨i_v5a, i_v5b⟩ := i_v5
  obtain ⟨i_v6a, i_v6b⟩ := i_v6
  obtain ⟨i_v7a, i_v7b⟩ := i_v7
  obtain ⟨i_v8a, i_v8b⟩ := i_v8
  obtain ⟨i_v12a, i_v12b⟩ := i_v12
  obtain ⟨i_v16a, i_v16b⟩ := i_v16
  obtain ⟨i_v17a, i_v17b⟩ := i_v17
  obtain ⟨rfl, hsz, hP, hK, hD0⟩ := hv
  have hx := B.exec
  have hb := B.bytes
  have hr := B.returns
  have hts := atoms_spec (ws := q_X12_clause) B.pre
  have hown : s.vm.findClass RX12 = some m.cls := findClass_of_methodNamed B.named
  have hlocks := B.notSynchronized
  subst hsz
  have hD := hD0.self (sz := s.heap.size)
  generalize hAe : va_A (wd_d5ef5423 h0 v0 h1 v1 v2 (-1) 0 h2 h3 h4 h5 h6 h7 h8 v3 v4 r0 r1 r2 r3 v5 r4 r5 v6 v7 r6 r7 v8 v9 r8 v10 v11 r9 v12 w13 r10 v14 v15 r11 r12 r13 r14 r15 r16 v16 r17 r18 r19 v17 h1 g0 f18 h2 g1 f19 h3 g2 f20 h4 g3 f21 h5 g4 f22 h6 g5 f23 h7 g6 f24 h8 g7 f25) s.heap.size = A at hD ⊢
  have hA : ∀ q : Nat, s.heap.size ≤ q → A q := fun q h => by rw [← hAe]; exact Or.inr h
  have hS : va_S A s.heap s.heap [] := va_S.rf
  generalize hQ : (MQ below _ _ s 0 0 A) = Q
  have hl := lv_entry ([.ref h0]) (n := 3) (Nat.le_of_ble_eq_true rfl)
  rw [lg_entry_eq]
  generalize (lg_sl ([.ref h0]) ++ List.replicate (3 - (lg_sl ([.ref h0])).length) Slot.unset).toArray = ls at hl ⊢
  have hl : lv_has ls 3 [(0, .ref h0)] := hl
  obtain ⟨H, hH⟩ : ∃ H : Heap, H = s.heap := ⟨_, rfl⟩
  obtain ⟨locs, hlocs⟩ : ∃ y : List Loc, y = [] := ⟨_, rfl⟩
  have hS : va_S A s.heap H locs := by rw [hH, hlocs]; exact va_S.rf
  have hP : va_P (dC, dI) vwCl (wd_d5ef5423 h0 v0 h1 v1 v2 (-1) 0 h2 h3 h4 h5 h6 h7 h8 v3 v4 r0 r1 r2 r3 v5 r4 r5 v6 v7 r6 r7 v8 v9 r8 v10 v11 r9 v12 w13 r10 v14 v15 r11 r12 r13 r14 r15 r16 v16 r17 r18 r19 v17 h1 g0 f18 h2 g1 f19 h3 g2 f20 h4 g3 f21 h5 g4 f22 h6 g5 f23 h7 g6 f24 h8 g7 f25) H := by rw [hH]; exact hP
  rw [← hH, ← hlocs]
  obtain ⟨px1, px2⟩ := pp0; obtain ⟨pc1, pc2⟩ := pp1
  have hgR := pm_R.refl (L := 0) v4 f19 f20 f21 px1
  have hgF := hgR.1
  have ho1 : ∀ j : Nat, True → f23 j = f23 j := fun _ _ => rfl
  refine lv_sipush (v := 140) hx hb dX12_clause_0 (by decide) ?_
  refine lv_aload_n hx hb dX12_clause_3 rfl (lv_at hl 0 rfl) ?_
  refine va_get (D := (dC, dI)) (ci := 12) (v := .int v4) (C := RX12) (T := TX12) (N := 48) hx hb hts (fun _ h => List.mem_cons_of_mem _ (List.mem_append_right _ h)) hown hK hP 0 rfl rfl 14 (by decide) (hts (.fieldLink RX12 122 "LeftArgumentsModel" "text" "I") (List.mem_cons_of_mem _ (List.mem_append_left _ (List.mem_of_getElem? (i := 0) rfl)))) (fun _ h9 => h9) rfl dX12_clause_4 ?_
  refine lv_imul hx hb dX12_clause_7 ?_
  refine lv_topi (fun t1 et1 => ?_)
  have gt1 : t1.toInt = 140 * v4.toInt := pv_mul (a := 140) (b := v4.toInt) et1 (by decide) rfl (by omega) (by omega)
  refine lv_aload_n hx hb dX12_clause_8 rfl (lv_at hl 0 rfl) ?_
  refine va_get (D := (dC, dI)) (ci := 12) (v := .ref h5) (C := RX12) (T := TX12) (N := 48) hx hb hts (fun _ h => List.mem_cons_of_mem _ (List.mem_append_right _ h)) hown hK hP 0 rfl rfl 9 (by decide) (hts (.fieldLink RX12 22 "LeftArgumentsModel" "clauses" "[I") (List.mem_cons_of_mem _ (List.mem_append_left _ (List.mem_of_getElem? (i := 1) rfl)))) (fun _ h9 => h9) rfl dX12_clause_9 ?_
  refine lv_aload_n hx hb dX12_clause_12 rfl (lv_at hl 0 rfl) ?_
  refine va_get (D := (dC, dI)) (ci := 12) (v := .int v4) (C := RX12) (T := TX12) (N := 48) hx hb hts (fun _ h => List.mem_cons_of_mem _ (List.mem_append_right _ h)) hown hK hP 0 rfl rfl 14 (by decide) (hts (.fieldLink RX12 122 "LeftArgumentsModel" "text" "I") (List.mem_cons_of_mem _ (List.mem_append_left _ (List.mem_of_getElem? (i := 0) rfl)))) (fun _ h9 => h9) rfl dX12_clause_13 ?_
  refine va_iald hx hb hK hP 5 4 rfl rfl (vp_in_iff.mpr ⟨by omega, by omega⟩) dX12_clause_16 ?_
  refine lv_topi (fun t2 et2 => ?_)
  have hqt2 : t2.toInt = pm_x f22 v4 := by rw [et2]; rfl
  have gqt2 : 0 ≤ t2.toInt ∧ t2.toInt ≤ 120 := by constructor <;> omega
  refine lv_iadd hx hb dX12_clause_17 ?_
  refine lv_topi (fun t3 et3 => ?_)
  have gt3 : t3.toInt = t1.toInt + t2.toInt := pv_add (a := t1.toInt) (b := t2.toInt) et3 rfl rfl (by omega) (by omega)
  refine lv_istore_n (lv' := [(1, .int t3), (0, .ref h0)]) hx hb dX12_clause_18 rfl hl (by decide) rfl (fun ls hl => ?_)
  have ho1 : ∀ j : Nat, ¬ j = Int32.toNatClampNeg t3 → f23 j = f23 j := fun _ _ => rfl
  have ho2 : ∀ j : Nat, ¬ j = Int32.toNatClampNeg t3 → f24 j = f24 j := fun _ _ => rfl
  have ho3 : ∀ j : Nat, ¬ j = Int32.toNatClampNeg t3 → f25 j = f25 j := fun _ _ => rfl
  have ho4 : ∀ j : Nat, ¬ j = Int32.toNatClampNeg v4 → f22 j = f22 j := fun _ _ => rfl
  refine lv_aload_n hx hb dX12_clause_19 rfl (lv_at hl 1 rfl) ?_
  refine va_get (D := (dC, dI)) (ci := 12) (v := .int (-1)) (C := RX12) (T := TX12) (N := 48) hx hb hts (fun _ h => List.mem_cons_of_mem _ (List.mem_append_right _ h)) hown hK hP 0 rfl rfl 4 (by decide) (hts (.fieldLink RX12 119 "LeftArgumentsModel" "wrong" "I") (List.mem_cons_of_mem _ (List.mem_append_left _ (List.mem_of_getElem? (i := 2) rfl)))) (fun _ h9 => h9) rfl dX12_clause_20 ?_
  refine lv_iconst (v := (-1)) hx hb dX12_clause_23 (by decide) ?_
  refine lv_icmp_ne (tgt := 40) hx hb dX12_clause_24 (by decide) (fun c => absurd (by decide) c) (fun _ => ?_)
  refine lv_aload_n hx hb dX12_clause_27 rfl (lv_at hl 1 rfl) ?_
  have hPc := hP.sub (ws' := (wd_f4cd022e h0 v0 h1 v1 v2 (-1) 0 h2 h3 h4 h5 h6 h7 h8 v3 v4 r0 r1 r2 r3 v5 r4 r5 v6 v7 r6 r7 v8 v9 r8 v10 v11 r9 v12 w13 r10 v14 v15 r11 r12 r13 r14 r15 r16 v16 r17 r18 r19 v17 h1 g0 f18)) [0, 1] rfl
  have hDc := hD.sub (ws' := (wd_f4cd022e h0 v0 h1 v1 v2 (-1) 0 h2 h3 h4 h5 h6 h7 h8 v3 v4 r0 r1 r2 r3 v5 r4 r5 v6 v7 r6 r7 v8 v9 r8 v10 v11 r9 v12 w13 r10 v14 v15 r11 r12 r13 r14 r15 r16 v16 r17 r18 r19 v17 h1 g0 f18)) [0, 1] (by decide) rfl
  have hKc := hK.sub (tys' := [(g0, .int)]) [0] rfl
  have hFc := va_free (wc := (wd_f4cd022e h0 v0 h1 v1 v2 (-1) 0 h2 h3 h4 h5 h6 h7 h8 v3 v4 r0 r1 r2 r3 v5 r4 r5 v6 v7 r6 r7 v8 v9 r8 v10 v11 r9 v12 w13 r10 v14 v15 r11 r12 r13 r14 r15 r16 v16 r17 r18 r19 v17 h1 g0 f18)) hD hS hA [0, 1] rfl
  refine va_calli (va_runV (As := []) (rest := []) ⟨hx, hb, hml, hown, hts⟩ (k_X12_look l dC dI h0 h1 v0 v1 v2 ((-1)) 0 h2 h3 h4 h5 h6 h7 h8 v3 v4 r0 r1 r2 r3 v5 r4 r5 v6 v7 r6 r7 v8 v9 r8 v10 v11 r9 v12 w13 r10 v14 v15 r11 r12 r13 r14 r15 r16 v16 r17 r18 r19 v17 g0 f18 ⟨by first | omega | decide, by first | omega | decide⟩ ⟨by first | omega | decide, by first | omega | decide⟩ ⟨by first | omega | decide, by first | omega | decide⟩ ⟨by first | omega | decide, by first | omega | decide⟩ ⟨by first | omega | decide, by first | omega | decide⟩ ⟨by first | omega | decide, by first | omega | decide⟩ ⟨by first | omega | decide, by first | omega | decide⟩ ⟨by first | omega | decide, by first | omega | decide⟩ ⟨by first | omega | decide, by first | omega | decide⟩ ⟨by first | omega | decide, by first | omega | decide⟩ ⟨by first | omega | decide, by first | omega | decide⟩ ia_f18 H.size) (cwV 0 hts g_X12_clause_0 rfl rfl rfl (by decide +kernel) ⟨Nat.le_of_ble_eq_true rfl, Nat.le_of_ble_eq_true rfl⟩) ⟨fun a U g mk q => by obtain ⟨q0, q1, qP, qK, qD⟩ := q; exact ⟨q0, q1, qP, va_K.moved (u := U) (U := U.calling g mk a) (Vm.Alike.refl U.vm) qK, qD⟩, va_recv hKc hPc (ci := 12) (q0 := 0) rfl rfl, fun U hU hW => ⟨rfl, by rw [hU], by rw [hU]; exact hPc, va_K.moved hW.alike hKc, hDc.weaken (fun _ _ _ _ => trivial)⟩⟩ rfl rfl hl.1 rfl (lv_room (Nat.le_of_ble_eq_true rfl)) dX12_clause_28 ⟨Nat.le_of_ble_eq_true rfl, Nat.le_of_ble_eq_true rfl⟩) hS (fun q _ h => hFc q h) hFc (fun ra4 u t H1 locs ht hvm hwra4 hB hz1 hk1 hS => ?_)
  try rw [hwra4] at hB
  have hkra4_0 : (((-1) : Int32)).toInt = -1 := by decide
  have hkra4_1 : ((0 : Int32)).toInt = 0 := by decide
  rcases hB with hB | hB
  · skip
    obtain ⟨x5, oa_x5, ob_x5, pt0_ra4, pt1_ra4, pt2_ra4, pt3_ra4, hP1, hK1, hD1⟩ := hB
    rw [ht] at hP1
    obtain ⟨hP, hD⟩ := va_join (wr := (wd_55284813 h2 g1 f19 h3 g2 f20 h4 g3 f21 h5 g4 f22 h6 g5 f23 h7 g6 f24 h8 g7 f25)) (w1 := (wd_f4cd022e h0 v0 h1 v1 x5 (-1) 0 h2 h3 h4 h5 h6 h7 h8 v3 v4 r0 r1 r2 r3 v5 r4 r5 v6 v7 r6 r7 v8 v9 r8 v10 v11 r9 v12 w13 r10 v14 v15 r11 r12 r13 r14 r15 r16 v16 r17 r18 r19 v17 h1 g0 f18)) hP hD [0, 1] [2, 3, 4, 5, 6, 7, 8] rfl rfl (by decide) (by decide) hk1 hFc hP1 hD1
    generalize H1 = H at hP hS ⊢
    have hP := hP.sub (ws' := (wd_d5ef5423 h0 v0 h1 v1 x5 (-1) 0 h2 h3 h4 h5 h6 h7 h8 v3 v4 r0 r1 r2 r3 v5 r4 r5 v6 v7 r6 r7 v8 v9 r8 v10 v11 r9 v12 w13 r10 v14 v15 r11 r12 r13 r14 r15 r16 v16 r17 r18 r19 v17 h1 g0 f18 h2 g1 f19 h3 g2 f20 h4 g3 f21 h5 g4 f22 h6 g5 f23 h7 g6 f24 h8 g7 f25)) [7, 8, 0, 1, 2, 3, 4, 5, 6] rfl
    have hD := hD.sub (ws' := (wd_d5ef5423 h0 v0 h1 v1 x5 (-1) 0 h2 h3 h4 h5 h6 h7 h8 v3 v4 r0 r1 r2 r3 v5 r4 r5 v6 v7 r6 r7 v8 v9 r8 v10 v11 r9 v12 w13 r10 v14 v15 r11 r12 r13 r14 r15 r16 v16 r17 r18 r19 v17 h1 g0 f18 h2 g1 f19 h3 g2 f20 h4 g3 f21 h5 g4 f22 h6 g5 f23 h7 g6 f24 h8 g7 f25)) [7, 8, 0, 1, 2, 3, 4, 5, 6] (by decide) rfl
    have hP : va_P (dC, dI) vwCl (wd_d5ef5423 h0 v0 h1 v1 x5 (-1) 0 h2 h3 h4 h5 h6 h7 h8 v3 v4 r0 r1 r2 r3 v5 r4 r5 v6 v7 r6 r7 v8 v9 r8 v10 v11 r9 v12 w13 r10 v14 v15 r11 r12 r13 r14 r15 r16 v16 r17 r18 r19 v17 h1 g0 f18 h2 g1 f19 h3 g2 f20 h4 g3 f21 h5 g4 f22 h6 g5 f23 h7 g6 f24 h8 g7 f25) H := hP
    have hD : va_D A (wd_d5ef5423 h0 v0 h1 v1 x5 (-1) 0 h2 h3 h4 h5 h6 h7 h8 v3 v4 r0 r1 r2 r3 v5 r4 r5 v6 v7 r6 r7 v8 v9 r8 v10 v11 r9 v12 w13 r10 v14 v15 r11 r12 r13 r14 r15 r16 v16 r17 r18 r19 v17 h1 g0 f18 h2 g1 f19 h3 g2 f20 h4 g3 f21 h5 g4 f22 h6 g5 f23 h7 g6 f24 h8 g7 f25) := hD
    obtain rfl : ra4 = ((-1) : Int32) := Int32.toInt_inj.mp (by rw [show (((-1) : Int32)).toInt = -1 by decide]; omega)
    refine lv_bipush (v := 121) hx hb dX12_clause_31 (by decide) ?_
    refine lv_icmp_eq (tgt := 40) hx hb dX12_clause_33 (by decide) (fun c => absurd c (by decide)) (fun _ => ?_)
    refine lv_aload_n hx hb dX12_clause_36 rfl (lv_at hl 1 rfl) ?_
    have hPc := hP.sub (ws' := (wd_171f232f h0 v0 h1 v1 x5 (-1) 0 h2 h3 h4 h5 h6 h7 h8 v3 v4 r0 r1 r2 r3 v5 r4 r5 v6 v7 r6 r7 v8 v9 r8 v10 v11 r9 v12 w13 r10 v14 v15 r11 r12 r13 r14 r15 r16 v16 r17 r18 r19 v17)) [0] rfl
    have hDc := hD.sub (ws' := (wd_171f232f h0 v0 h1 v1 x5 (-1) 0 h2 h3 h4 h5 h6 h7 h8 v3 v4 r0 r1 r2 r3 v5 r4 r5 v6 v7 r6 r7 v8 v9 r8 v10 v11 r9 v12 w13 r10 v14 v15 r11 r12 r13 r14 r15 r16 v16 r17 r18 r19 v17)) [0] (by decide) rfl
    have hKc := hK.sub (tys' := []) [] rfl
    have hFc := va_free (wc := (wd_171f232f h0 v0 h1 v1 x5 (-1) 0 h2 h3 h4 h5 h6 h7 h8 v3 v4 r0 r1 r2 r3 v5 r4 r5 v6 v7 r6 r7 v8 v9 r8 v10 v11 r9 v12 w13 r10 v14 v15 r11 r12 r13 r14 r15 r16 v16 r17 r18 r19 v17)) hD hS hA [0] rfl
    refine va_callv (va_runV (As := []) (rest := []) ⟨hx, hb, hml, hown, hts⟩ (k_X12_bad l dC dI h0 v0 h1 v1 x5 0 h2 h3 h4 h5 h6 h7 h8 v3 v4 r0 r1 r2 r3 v5 r4 r5 v6 v7 r6 r7 v8 v9 r8 v10 v11 r9 v12 w13 r10 v14 v15 r11 r12 r13 r14 r15 r16 v16 r17 r18 r19 v17 ⟨by first | omega | decide, by first | omega | decide⟩ ⟨by first | omega | decide, by first | omega | decide⟩ ⟨by first | omega | decide, by first | omega | decide⟩ ⟨by first | omega | decide, by first | omega | decide⟩ ⟨by first | omega | decide, by first | omega | decide⟩ ⟨by first | omega | decide, by first | omega | decide⟩ ⟨by first | omega | decide, by first | omega | decide⟩ ⟨by first | omega | decide, by first | omega | decide⟩ ⟨by first | omega | decide, by first | omega | decide⟩ ⟨by first | omega | decide, by first | omega | decide⟩ ⟨by first | omega | decide, by first | omega | decide⟩ H.size) (cwV 0 hts g_X12_clause_1 rfl rfl rfl (by decide +kernel) ⟨Nat.le_of_ble_eq_true rfl, Nat.le_of_ble_eq_true rfl⟩) ⟨fun a U g mk q => by obtain ⟨q0, q1, qP, qK, qD⟩ := q; exact ⟨q0, q1, qP, va_K.moved (u := U) (U := U.calling g mk a) (Vm.Alike.refl U.vm) qK, qD⟩, va_recv hKc hPc (ci := 12) (q0 := 0) rfl rfl, fun U hU hW => ⟨rfl, by rw [hU], by rw [hU]; exact hPc, va_K.moved hW.alike hKc, hDc.weaken (fun _ _ _ _ => trivial)⟩⟩ rfl rfl hl.1 rfl (lv_room (Nat.le_of_ble_eq_true rfl)) dX12_clause_37 ⟨Nat.le_of_ble_eq_true rfl, Nat.le_of_ble_eq_true rfl⟩) hS (fun q _ h => hFc q h) hFc (fun u t H1 locs ht hvm hwra6 hB hz1 hk1 hS => ?_)
    obtain ⟨x7, oa_x7, ob_x7, hP1, hK1, hD1⟩ := hB
    rw [ht] at hP1
    obtain ⟨hP, hD⟩ := va_join (wr := (wd_f36c9d1b h1 g0 f18 h2 g1 f19 h3 g2 f20 h4 g3 f21 h5 g4 f22 h6 g5 f23 h7 g6 f24 h8 g7 f25)) (w1 := (wd_171f232f h0 v0 h1 v1 x5 x7 0 h2 h3 h4 h5 h6 h7 h8 v3 v4 r0 r1 r2 r3 v5 r4 r5 v6 v7 r6 r7 v8 v9 r8 v10 v11 r9 v12 w13 r10 v14 v15 r11 r12 r13 r14 r15 r16 v16 r17 r18 r19 v17)) hP hD [0] [1, 2, 3, 4, 5, 6, 7, 8] rfl rfl (by decide) (by decide) hk1 hFc hP1 hD1
    generalize H1 = H at hP hS ⊢
    have hP := hP.sub (ws' := (wd_d5ef5423 h0 v0 h1 v1 x5 x7 0 h2 h3 h4 h5 h6 h7 h8 v3 v4 r0 r1 r2 r3 v5 r4 r5 v6 v7 r6 r7 v8 v9 r8 v10 v11 r9 v12 w13 r10 v14 v15 r11 r12 r13 r14 r15 r16 v16 r17 r18 r19 v17 h1 g0 f18 h2 g1 f19 h3 g2 f20 h4 g3 f21 h5 g4 f22 h6 g5 f23 h7 g6 f24 h8 g7 f25)) [8, 0, 1, 2, 3, 4, 5, 6, 7] rfl
    have hD := hD.sub (ws' := (wd_d5ef5423 h0 v0 h1 v1 x5 x7 0 h2 h3 h4 h5 h6 h7 h8 v3 v4 r0 r1 r2 r3 v5 r4 r5 v6 v7 r6 r7 v8 v9 r8 v10 v11 r9 v12 w13 r10 v14 v15 r11 r12 r13 r14 r15 r16 v16 r17 r18 r19 v17 h1 g0 f18 h2 g1 f19 h3 g2 f20 h4 g3 f21 h5 g4 f22 h6 g5 f23 h7 g6 f24 h8 g7 f25)) [8, 0, 1, 2, 3, 4, 5, 6, 7] (by decide) rfl
    have hP : va_P (dC, dI) vwCl (wd_d5ef5423 h0 v0 h1 v1 x5 x7 0 h2 h3 h4 h5 h6 h7 h8 v3 v4 r0 r1 r2 r3 v5 r4 r5 v6 v7 r6 r7 v8 v9 r8 v10 v11 r9 v12 w13 r10 v14 v15 r11 r12 r13 r14 r15 r16 v16 r17 r18 r19 v17 h1 g0 f18 h2 g1 f19 h3 g2 f20 h4 g3 f21 h5 g4 f22 h6 g5 f23 h7 g6 f24 h8 g7 f25) H := hP
    have hD : va_D A (wd_d5ef5423 h0 v0 h1 v1 x5 x7 0 h2 h3 h4 h5 h6 h7 h8 v3 v4 r0 r1 r2 r3 v5 r4 r5 v6 v7 r6 r7 v8 v9 r8 v10 v11 r9 v12 w13 r10 v14 v15 r11 r12 r13 r14 r15 r16 v16 r17 r18 r19 v17 h1 g0 f18 h2 g1 f19 h3 g2 f20 h4 g3 f21 h5 g4 f22 h6 g5 f23 h7 g6 f24 h8 g7 f25) := hD
    refine lv_aload_n hx hb dX12_clause_40 rfl (lv_at hl 1 rfl) ?_
    refine lv_dup hx hb dX12_clause_41 rfl ?_
    refine va_get (D := (dC, dI)) (ci := 12) (v := .int x5) (C := RX12) (T := TX12) (N := 48) hx hb hts (fun _ h => List.mem_cons_of_mem _ (List.mem_append_right _ h)) hown hK hP 0 rfl rfl 3 (by decide) (hts (.fieldLink RX12 112 "LeftArgumentsModel" "at" "I") (List.mem_cons_of_mem _ (List.mem_append_left _ (List.mem_of_getElem? (i := 5) rfl)))) (fun _ h9 => h9) rfl dX12_clause_42 ?_
    refine lv_iconst (v := 1) hx hb dX12_clause_45 (by decide) ?_
    refine lv_iadd hx hb dX12_clause_46 ?_
    refine lv_topi (fun t8 et8 => ?_)
    have gt8 : t8.toInt = x5.toInt + 1 := pv_add (a := x5.toInt) (b := 1) et8 rfl (by decide) (by omega) (by omega)
    refine va_put (D := (dC, dI)) (ci := 12) (v := .int t8) (ty := .int) (C := RX12) (T := TX12) (N := 48) hx hb hts (fun _ h => List.mem_cons_of_mem _ (List.mem_append_right _ h)) tyX12 tyX12_ok nmX12 hown hK hP hD hS 0 rfl rfl 3 (by decide) (hts (.fieldLink RX12 112 "LeftArgumentsModel" "at" "I") (List.mem_cons_of_mem _ (List.mem_append_left _ (List.mem_of_getElem? (i := 5) rfl)))) (fun _ h9 => h9) rfl (by decide +kernel) rfl rfl (Nat.le_of_ble_eq_true rfl) dX12_clause_47 (fun H locs hP hD hS => ?_)
    have hP : va_P (dC, dI) vwCl (wd_d5ef5423 h0 v0 h1 v1 t8 x7 0 h2 h3 h4 h5 h6 h7 h8 v3 v4 r0 r1 r2 r3 v5 r4 r5 v6 v7 r6 r7 v8 v9 r8 v10 v11 r9 v12 w13 r10 v14 v15 r11 r12 r13 r14 r15 r16 v16 r17 r18 r19 v17 h1 g0 f18 h2 g1 f19 h3 g2 f20 h4 g3 f21 h5 g4 f22 h6 g5 f23 h7 g6 f24 h8 g7 f25) H := hP
    have hD : va_D A (wd_d5ef5423 h0 v0 h1 v1 t8 x7 0 h2 h3 h4 h5 h6 h7 h8 v3 v4 r0 r1 r2 r3 v5 r4 r5 v6 v7 r6 r7 v8 v9 r8 v10 v11 r9 v12 w13 r10 v14 v15 r11 r12 r13 r14 r15 r16 v16 r17 r18 r19 v17 h1 g0 f18 h2 g1 f19 h3 g2 f20 h4 g3 f21 h5 g4 f22 h6 g5 f23 h7 g6 f24 h8 g7 f25) := hD
    refine lv_aload_n hx hb dX12_clause_50 rfl (lv_at hl 1 rfl) ?_
    refine va_get (D := (dC, dI)) (ci := 12) (v := .int x7) (C := RX12) (T := TX12) (N := 48) hx hb hts (fun _ h => List.mem_cons_of_mem _ (List.mem_append_right _ h)) hown hK hP 0 rfl rfl 4 (by decide) (hts (.fieldLink RX12 119 "LeftArgumentsModel" "wrong" "I") (List.mem_cons_of_mem _ (List.mem_append_left _ (List.mem_of_getElem? (i := 2) rfl)))) (fun _ h9 => h9) rfl dX12_clause_51 ?_
    refine lv_iconst (v := (-1)) hx hb dX12_clause_54 (by decide) ?_
    refine lv_icmp_ne (tgt := 71) hx hb dX12_clause_55 (by decide) (fun _ => ?_) (fun c9 => by exfalso; have fc9 : x7.toInt = (-1) := congrArg Int32.toInt c9; omega)
    refine lv_aload_n hx hb dX12_clause_71 rfl (lv_at hl 1 rfl) ?_
    refine lv_dup hx hb dX12_clause_72 rfl ?_
    refine va_get (D := (dC, dI)) (ci := 12) (v := .int t8) (C := RX12) (T := TX12) (N := 48) hx hb hts (fun _ h => List.mem_cons_of_mem _ (List.mem_append_right _ h)) hown hK hP 0 rfl rfl 3 (by decide) (hts (.fieldLink RX12 112 "LeftArgumentsModel" "at" "I") (List.mem_cons_of_mem _ (List.mem_append_left _ (List.mem_of_getElem? (i := 5) rfl)))) (fun _ h9 => h9) rfl dX12_clause_73 ?_
    refine lv_iconst (v := 1) hx hb dX12_clause_76 (by decide) ?_
    refine lv_iadd hx hb dX12_clause_77 ?_
    refine lv_topi (fun t10 et10 => ?_)
    have gt10 : t10.toInt = t8.toInt + 1 := pv_add (a := t8.toInt) (b := 1) et10 rfl (by decide) (by omega) (by omega)
    refine va_put (D := (dC, dI)) (ci := 12) (v := .int t10) (ty := .int) (C := RX12) (T := TX12) (N := 48) hx hb hts (fun _ h => List.mem_cons_of_mem _ (List.mem_append_right _ h)) tyX12 tyX12_ok nmX12 hown hK hP hD hS 0 rfl rfl 3 (by decide) (hts (.fieldLink RX12 112 "LeftArgumentsModel" "at" "I") (List.mem_cons_of_mem _ (List.mem_append_left _ (List.mem_of_getElem? (i := 5) rfl)))) (fun _ h9 => h9) rfl (by decide +kernel) rfl rfl (Nat.le_of_ble_eq_true rfl) dX12_clause_78 (fun H locs hP hD hS => ?_)
    have hP : va_P (dC, dI) vwCl (wd_d5ef5423 h0 v0 h1 v1 t10 x7 0 h2 h3 h4 h5 h6 h7 h8 v3 v4 r0 r1 r2 r3 v5 r4 r5 v6 v7 r6 r7 v8 v9 r8 v10 v11 r9 v12 w13 r10 v14 v15 r11 r12 r13 r14 r15 r16 v16 r17 r18 r19 v17 h1 g0 f18 h2 g1 f19 h3 g2 f20 h4 g3 f21 h5 g4 f22 h6 g5 f23 h7 g6 f24 h8 g7 f25) H := hP
    have hD : va_D A (wd_d5ef5423 h0 v0 h1 v1 t10 x7 0 h2 h3 h4 h5 h6 h7 h8 v3 v4 r0 r1 r2 r3 v5 r4 r5 v6 v7 r6 r7 v8 v9 r8 v10 v11 r9 v12 w13 r10 v14 v15 r11 r12 r13 r14 r15 r16 v16 r17 r18 r19 v17 h1 g0 f18 h2 g1 f19 h3 g2 f20 h4 g3 f21 h5 g4 f22 h6 g5 f23 h7 g6 f24 h8 g7 f25) := hD
    refine lv_aload_n hx hb dX12_clause_81 rfl (lv_at hl 1 rfl) ?_
    refine va_get (D := (dC, dI)) (ci := 12) (v := .int x7) (C := RX12) (T := TX12) (N := 48) hx hb hts (fun _ h => List.mem_cons_of_mem _ (List.mem_append_right _ h)) hown hK hP 0 rfl rfl 4 (by decide) (hts (.fieldLink RX12 119 "LeftArgumentsModel" "wrong" "I") (List.mem_cons_of_mem _ (List.mem_append_left _ (List.mem_of_getElem? (i := 2) rfl)))) (fun _ h9 => h9) rfl dX12_clause_82 ?_
    refine lv_iconst (v := (-1)) hx hb dX12_clause_85 (by decide) ?_
    refine lv_icmp_eq (tgt := 90) hx hb dX12_clause_86 (by decide) (fun c11 => by exfalso; have fc11 : x7.toInt = (-1) := congrArg Int32.toInt c11; omega) (fun _ => ?_)
    subst hQ
    have hP9 := hP.sub (ws' := (wd_d5ef5423 h0 v0 h1 v1 t10 x7 0 h2 h3 h4 h5 h6 h7 h8 v3 v4 r0 r1 r2 r3 v5 r4 r5 v6 v7 r6 r7 v8 v9 r8 v10 v11 r9 v12 w13 r10 v14 v15 r11 r12 r13 r14 r15 r16 v16 r17 r18 r19 v17 h1 g0 f18 h2 g1 f19 h3 g2 f20 h4 g3 f21 h5 g4 f22 h6 g5 f23 h7 g6 f24 h8 g7 f25)) [0, 1, 2, 3, 4, 5, 6, 7, 8] rfl
    have hD9 := hD.sub (ws' := (wd_d5ef5423 h0 v0 h1 v1 t10 x7 0 h2 h3 h4 h5 h6 h7 h8 v3 v4 r0 r1 r2 r3 v5 r4 r5 v6 v7 r6 r7 v8 v9 r8 v10 v11 r9 v12 w13 r10 v14 v15 r11 r12 r13 r14 r15 r16 v16 r17 r18 r19 v17 h1 g0 f18 h2 g1 f19 h3 g2 f20 h4 g3 f21 h5 g4 f22 h6 g5 f23 h7 g6 f24 h8 g7 f25)) [0, 1, 2, 3, 4, 5, 6, 7, 8] (by decide) rfl
    have hK9 := hK.sub (tys' := []) [] rfl
    exact W.vret hx hb hr (fun t ht hW => ⟨⟨(), rfl, trivial, Or.inr (⟨t10, x7, 0, f19, f20, f21, f22, f23, f24, f25, by first | omega | decide, by first | omega | decide, by first | omega | decide, by first | omega | decide, by exact pm_Oth.mk hgF ho1 ho2 ho3 ho4 (by omega) (by omega) (by omega) (by omega), by rw [ht]; exact hP9, va_K.moved hW.alike hK9, hD9⟩)⟩, hS.F ht⟩) hS.2.2 dX12_clause_89
  · skip
    obtain ⟨x12, oa_x12, ob_x12, pt0_ra4, pt1_ra4, pt2_ra4, pt3_ra4, pt4_ra4, hP1, hK1, hD1⟩ := hB
    rw [ht] at hP1
    obtain ⟨hP, hD⟩ := va_join (wr := (wd_55284813 h2 g1 f19 h3 g2 f20 h4 g3 f21 h5 g4 f22 h6 g5 f23 h7 g6 f24 h8 g7 f25)) (w1 := (wd_f4cd022e h0 v0 h1 v1 x12 (-1) 0 h2 h3 h4 h5 h6 h7 h8 v3 v4 r0 r1 r2 r3 v5 r4 r5 v6 v7 r6 r7 v8 v9 r8 v10 v11 r9 v12 w13 r10 v14 v15 r11 r12 r13 r14 r15 r16 v16 r17 r18 r19 v17 h1 g0 f18)) hP hD [0, 1] [2, 3, 4, 5, 6, 7, 8] rfl rfl (by decide) (by decide) hk1 hFc hP1 hD1
    generalize H1 = H at hP hS ⊢
    have hP := hP.sub (ws' := (wd_d5ef5423 h0 v0 h1 v1 x12 (-1) 0 h2 h3 h4 h5 h6 h7 h8 v3 v4 r0 r1 r2 r3 v5 r4 r5 v6 v7 r6 r7 v8 v9 r8 v10 v11 r9 v12 w13 r10 v14 v15 r11 r12 r13 r14 r15 r16 v16 r17 r18 r19 v17 h1 g0 f18 h2 g1 f19 h3 g2 f20 h4 g3 f21 h5 g4 f22 h6 g5 f23 h7 g6 f24 h8 g7 f25)) [7, 8, 0, 1, 2, 3, 4, 5, 6] rfl
    have hD := hD.sub (ws' := (wd_d5ef5423 h0 v0 h1 v1 x12 (-1) 0 h2 h3 h4 h5 h6 h7 h8 v3 v4 r0 r1 r2 r3 v5 r4 r5 v6 v7 r6 r7 v8 v9 r8 v10 v11 r9 v12 w13 r10 v14 v15 r11 r12 r13 r14 r15 r16 v16 r17 r18 r19 v17 h1 g0 f18 h2 g1 f19 h3 g2 f20 h4 g3 f21 h5 g4 f22 h6 g5 f23 h7 g6 f24 h8 g7 f25)) [7, 8, 0, 1, 2, 3, 4, 5, 6] (by decide) rfl
    have hP : va_P (dC, dI) vwCl (wd_d5ef5423 h0 v0 h1 v1 x12 (-1) 0 h2 h3 h4 h5 h6 h7 h8 v3 v4 r0 r1 r2 r3 v5 r4 r5 v6 v7 r6 r7 v8 v9 r8 v10 v11 r9 v12 w13 r10 v14 v15 r11 r12 r13 r14 r15 r16 v16 r17 r18 r19 v17 h1 g0 f18 h2 g1 f19 h3 g2 f20 h4 g3 f21 h5 g4 f22 h6 g5 f23 h7 g6 f24 h8 g7 f25) H := hP
    have hD : va_D A (wd_d5ef5423 h0 v0 h1 v1 x12 (-1) 0 h2 h3 h4 h5 h6 h7 h8 v3 v4 r0 r1 r2 r3 v5 r4 r5 v6 v7 r6 r7 v8 v9 r8 v10 v11 r9 v12 w13 r10 v14 v15 r11 r12 r13 r14 r15 r16 v16 r17 r18 r19 v17 h1 g0 f18 h2 g1 f19 h3 g2 f20 h4 g3 f21 h5 g4 f22 h6 g5 f23 h7 g6 f24 h8 g7 f25) := hD
    refine lv_bipush (v := 121) hx hb dX12_clause_31 (by decide) ?_
    refine lv_icmp_eq (tgt := 40) hx hb dX12_clause_33 (by decide) (fun c13 => ?_) (fun c13 => ?_)
    · skip
      have fc13 : ra4.toInt = 121 := congrArg Int32.toInt c13
      refine lv_aload_n hx hb dX12_clause_40 rfl (lv_at hl 1 rfl) ?_
      refine lv_dup hx hb dX12_clause_41 rfl ?_
      refine va_get (D := (dC, dI)) (ci := 12) (v := .int x12) (C := RX12) (T := TX12) (N := 48) hx hb hts (fun _ h => List.mem_cons_of_mem _ (List.mem_append_right _ h)) hown hK hP 0 rfl rfl 3 (by decide) (hts (.fieldLink RX12 112 "LeftArgumentsModel" "at" "I") (List.mem_cons_of_mem _ (List.mem_append_left _ (List.mem_of_getElem? (i := 5) rfl)))) (fun _ h9 => h9) rfl dX12_clause_42 ?_
      refine lv_iconst (v := 1) hx hb dX12_clause_45 (by decide) ?_
      refine lv_iadd hx hb dX12_clause_46 ?_
      refine lv_topi (fun t14 et14 => ?_)
      have gt14 : t14.toInt = x12.toInt + 1 := pv_add (a := x12.toInt) (b := 1) et14 rfl (by decide) (by omega) (by omega)
      refine va_put (D := (dC, dI)) (ci := 12) (v := .int t14) (ty := .int) (C := RX12) (T := TX12) (N := 48) hx hb hts (fun _ h => List.mem_cons_of_mem _ (List.mem_append_right _ h)) tyX12 tyX12_ok nmX12 hown hK hP hD hS 0 rfl rfl 3 (by decide) (hts (.fieldLink RX12 112 "LeftArgumentsModel" "at" "I") (List.mem_cons_of_mem _ (List.mem_append_left _ (List.mem_of_getElem? (i := 5) rfl)))) (fun _ h9 => h9) rfl (by decide +kernel) rfl rfl (Nat.le_of_ble_eq_true rfl) dX12_clause_47 (fun H locs hP hD hS => ?_)
      have hP : va_P (dC, dI) vwCl (wd_d5ef5423 h0 v0 h1 v1 t14 (-1) 0 h2 h3 h4 h5 h6 h7 h8 v3 v4 r0 r1 r2 r3 v5 r4 r5 v6 v7 r6 r7 v8 v9 r8 v10 v11 r9 v12 w13 r10 v14 v15 r11 r12 r13 r14 r15 r16 v16 r17 r18 r19 v17 h1 g0 f18 h2 g1 f19 h3 g2 f20 h4 g3 f21 h5 g4 f22 h6 g5 f23 h7 g6 f24 h8 g7 f25) H := hP
      have hD : va_D A (wd_d5ef5423 h0 v0 h1 v1 t14 (-1) 0 h2 h3 h4 h5 h6 h7 h8 v3 v4 r0 r1 r2 r3 v5 r4 r5 v6 v7 r6 r7 v8 v9 r8 v10 v11 r9 v12 w13 r10 v14 v15 r11 r12 r13 r14 r15 r16 v16 r17 r18 r19 v17 h1 g0 f18 h2 g1 f19 h3 g2 f20 h4 g3 f21 h5 g4 f22 h6 g5 f23 h7 g6 f24 h8 g7 f25) := hD
      refine lv_aload_n hx hb dX12_clause_50 rfl (lv_at hl 1 rfl) ?_
      refine va_get (D := (dC, dI)) (ci := 12) (v := .int (-1)) (C := RX12) (T := TX12) (N := 48) hx hb hts (fun _ h => List.mem_cons_of_mem _ (List.mem_append_right _ h)) hown hK hP 0 rfl rfl 4 (by decide) (hts (.fieldLink RX12 119 "LeftArgumentsModel" "wrong" "I") (List.mem_cons_of_mem _ (List.mem_append_left _ (List.mem_of_getElem? (i := 2) rfl)))) (fun _ h9 => h9) rfl dX12_clause_51 ?_
      refine lv_iconst (v := (-1)) hx hb dX12_clause_54 (by decide) ?_
      refine lv_icmp_ne (tgt := 71) hx hb dX12_clause_55 (by decide) (fun c => absurd (by decide) c) (fun _ => ?_)
      refine lv_aload_n hx hb dX12_clause_58 rfl (lv_at hl 1 rfl) ?_
      have hPc := hP.sub (ws' := (wd_f4cd022e h0 v0 h1 v1 t14 (-1) 0 h2 h3 h4 h5 h6 h7 h8 v3 v4 r0 r1 r2 r3 v5 r4 r5 v6 v7 r6 r7 v8 v9 r8 v10 v11 r9 v12 w13 r10 v14 v15 r11 r12 r13 r14 r15 r16 v16 r17 r18 r19 v17 h1 g0 f18)) [0, 1] rfl
      have hDc := hD.sub (ws' := (wd_f4cd022e h0 v0 h1 v1 t14 (-1) 0 h2 h3 h4 h5 h6 h7 h8 v3 v4 r0 r1 r2 r3 v5 r4 r5 v6 v7 r6 r7 v8 v9 r8 v10 v11 r9 v12 w13 r10 v14 v15 r11 r12 r13 r14 r15 r16 v16 r17 r18 r19 v17 h1 g0 f18)) [0, 1] (by decide) rfl
      have hKc := hK.sub (tys' := [(g0, .int)]) [0] rfl
      have hFc := va_free (wc := (wd_f4cd022e h0 v0 h1 v1 t14 (-1) 0 h2 h3 h4 h5 h6 h7 h8 v3 v4 r0 r1 r2 r3 v5 r4 r5 v6 v7 r6 r7 v8 v9 r8 v10 v11 r9 v12 w13 r10 v14 v15 r11 r12 r13 r14 r15 r16 v16 r17 r18 r19 v17 h1 g0 f18)) hD hS hA [0, 1] rfl
      refine va_calli (va_runV (As := []) (rest := []) ⟨hx, hb, hml, hown, hts⟩ (k_X12_look l dC dI h0 h1 v0 v1 t14 ((-1)) 0 h2 h3 h4 h5 h6 h7 h8 v3 v4 r0 r1 r2 r3 v5 r4 r5 v6 v7 r6 r7 v8 v9 r8 v10 v11 r9 v12 w13 r10 v14 v15 r11 r12 r13 r14 r15 r16 v16 r17 r18 r19 v17 g0 f18 ⟨by first | omega | decide, by first | omega | decide⟩ ⟨by first | omega | decide, by first | omega | decide⟩ ⟨by first | omega | decide, by first | omega | decide⟩ ⟨by first | omega | decide, by first | omega | decide⟩ ⟨by first | omega | decide, by first | omega | decide⟩ ⟨by first | omega | decide, by first | omega | decide⟩ ⟨by first | omega | decide, by first | omega | decide⟩ ⟨by first | omega | decide, by first | omega | decide⟩ ⟨by first | omega | decide, by first | omega | decide⟩ ⟨by first | omega | decide, by first | omega | decide⟩ ⟨by first | omega | decide, by first | omega | decide⟩ ia_f18 H.size) (cwV 0 hts g_X12_clause_0 rfl rfl rfl (by decide +kernel) ⟨Nat.le_of_ble_eq_true rfl, Nat.le_of_ble_eq_true rfl⟩) ⟨fun a U g mk q => by obtain ⟨q0, q1, qP, qK, qD⟩ := q; exact ⟨q0, q1, qP, va_K.moved (u := U) (U := U.calling g mk a) (Vm.Alike.refl U.vm) qK, qD⟩, va_recv hKc hPc (ci := 12) (q0 := 0) rfl rfl, fun U hU hW => ⟨rfl, by rw [hU], by rw [hU]; exact hPc, va_K.moved hW.alike hKc, hDc.weaken (fun _ _ _ _ => trivial)⟩⟩ rfl rfl hl.1 rfl (lv_room (Nat.le_of_ble_eq_true rfl)) dX12_clause_59 ⟨Nat.le_of_ble_eq_true rfl, Nat.le_of_ble_eq_true rfl⟩) hS (fun q _ h => hFc q h) hFc (fun ra15 u t H1 locs ht hvm hwra15 hB hz1 hk1 hS => ?_)
      try rw [hwra15] at hB
      have hkra15_0 : (((-1) : Int32)).toInt = -1 := by decide
      have hkra15_1 : ((0 : Int32)).toInt = 0 := by decide
      rcases hB with hB | hB
      · skip
        obtain ⟨x16, oa_x16, ob_x16, pt0_ra15, pt1_ra15, pt2_ra15, pt3_ra15, hP1, hK1, hD1⟩ := hB
        rw [ht] at hP1
        obtain ⟨hP, hD⟩ := va_join (wr := (wd_55284813 h2 g1 f19 h3 g2 f20 h4 g3 f21 h5 g4 f22 h6 g5 f23 h7 g6 f24 h8 g7 f25)) (w1 := (wd_f4cd022e h0 v0 h1 v1 x16 (-1) 0 h2 h3 h4 h5 h6 h7 h8 v3 v4 r0 r1 r2 r3 v5 r4 r5 v6 v7 r6 r7 v8 v9 r8 v10 v11 r9 v12 w13 r10 v14 v15 r11 r12 r13 r14 r15 r16 v16 r17 r18 r19 v17 h1 g0 f18)) hP hD [0, 1] [2, 3, 4, 5, 6, 7, 8] rfl rfl (by decide) (by decide) hk1 hFc hP1 hD1
        generalize H1 = H at hP hS ⊢
        have hP := hP.sub (ws' := (wd_d5ef5423 h0 v0 h1 v1 x16 (-1) 0 h2 h3 h4 h5 h6 h7 h8 v3 v4 r0 r1 r2 r3 v5 r4 r5 v6 v7 r6 r7 v8 v9 r8 v10 v11 r9 v12 w13 r10 v14 v15 r11 r12 r13 r14 r15 r16 v16 r17 r18 r19 v17 h1 g0 f18 h2 g1 f19 h3 g2 f20 h4 g3 f21 h5 g4 f22 h6 g5 f23 h7 g6 f24 h8 g7 f25)) [7, 8, 0, 1, 2, 3, 4, 5, 6] rfl
        have hD := hD.sub (ws' := (wd_d5ef5423 h0 v0 h1 v1 x16 (-1) 0 h2 h3 h4 h5 h6 h7 h8 v3 v4 r0 r1 r2 r3 v5 r4 r5 v6 v7 r6 r7 v8 v9 r8 v10 v11 r9 v12 w13 r10 v14 v15 r11 r12 r13 r14 r15 r16 v16 r17 r18 r19 v17 h1 g0 f18 h2 g1 f19 h3 g2 f20 h4 g3 f21 h5 g4 f22 h6 g5 f23 h7 g6 f24 h8 g7 f25)) [7, 8, 0, 1, 2, 3, 4, 5, 6] (by decide) rfl
        have hP : va_P (dC, dI) vwCl (wd_d5ef5423 h0 v0 h1 v1 x16 (-1) 0 h2 h3 h4 h5 h6 h7 h8 v3 v4 r0 r1 r2 r3 v5 r4 r5 v6 v7 r6 r7 v8 v9 r8 v10 v11 r9 v12 w13 r10 v14 v15 r11 r12 r13 r14 r15 r16 v16 r17 r18 r19 v17 h1 g0 f18 h2 g1 f19 h3 g2 f20 h4 g3 f21 h5 g4 f22 h6 g5 f23 h7 g6 f24 h8 g7 f25) H := hP
        have hD : va_D A (wd_d5ef5423 h0 v0 h1 v1 x16 (-1) 0 h2 h3 h4 h5 h6 h7 h8 v3 v4 r0 r1 r2 r3 v5 r4 r5 v6 v7 r6 r7 v8 v9 r8 v10 v11 r9 v12 w13 r10 v14 v15 r11 r12 r13 r14 r15 r16 v16 r17 r18 r19 v17 h1 g0 f18 h2 g1 f19 h3 g2 f20 h4 g3 f21 h5 g4 f22 h6 g5 f23 h7 g6 f24 h8 g7 f25) := hD
        obtain rfl : ra15 = ((-1) : Int32) := Int32.toInt_inj.mp (by rw [show (((-1) : Int32)).toInt = -1 by decide]; omega)
        refine lv_bipush (v := 58) hx hb dX12_clause_62 (by decide) ?_
        refine lv_icmp_eq (tgt := 71) hx hb dX12_clause_64 (by decide) (fun c => absurd c (by decide)) (fun _ => ?_)
        refine lv_aload_n hx hb dX12_clause_67 rfl (lv_at hl 1 rfl) ?_
        have hPc := hP.sub (ws' := (wd_171f232f h0 v0 h1 v1 x16 (-1) 0 h2 h3 h4 h5 h6 h7 h8 v3 v4 r0 r1 r2 r3 v5 r4 r5 v6 v7 r6 r7 v8 v9 r8 v10 v11 r9 v12 w13 r10 v14 v15 r11 r12 r13 r14 r15 r16 v16 r17 r18 r19 v17)) [0] rfl
        have hDc := hD.sub (ws' := (wd_171f232f h0 v0 h1 v1 x16 (-1) 0 h2 h3 h4 h5 h6 h7 h8 v3 v4 r0 r1 r2 r3 v5 r4 r5 v6 v7 r6 r7 v8 v9 r8 v10 v11 r9 v12 w13 r10 v14 v15 r11 r12 r13 r14 r15 r16 v16 r17 r18 r19 v17)) [0] (by decide) rfl
        have hKc := hK.sub (tys' := []) [] rfl
        have hFc := va_free (wc := (wd_171f232f h0 v0 h1 v1 x16 (-1) 0 h2 h3 h4 h5 h6 h7 h8 v3 v4 r0 r1 r2 r3 v5 r4 r5 v6 v7 r6 r7 v8 v9 r8 v10 v11 r9 v12 w13 r10 v14 v15 r11 r12 r13 r14 r15 r16 v16 r17 r18 r19 v17)) hD hS hA [0] rfl
        refine va_callv (va_runV (As := []) (rest := []) ⟨hx, hb, hml, hown, hts⟩ (k_X12_bad l dC dI h0 v0 h1 v1 x16 0 h2 h3 h4 h5 h6 h7 h8 v3 v4 r0 r1 r2 r3 v5 r4 r5 v6 v7 r6 r7 v8 v9 r8 v10 v11 r9 v12 w13 r10 v14 v15 r11 r12 r13 r14 r15 r16 v16 r17 r18 r19 v17 ⟨by first | omega | decide, by first | omega | decide⟩ ⟨by first | omega | decide, by first | omega | decide⟩ ⟨by first | omega | decide, by first | omega | decide⟩ ⟨by first | omega | decide, by first | omega | decide⟩ ⟨by first | omega | decide, by first | omega | decide⟩ ⟨by first | omega | decide, by first | omega | decide⟩ ⟨by first | omega | decide, by first | omega | decide⟩ ⟨by first | omega | decide, by first | omega | decide⟩ ⟨by first | omega | decide, by first | omega | decide⟩ ⟨by first | omega | decide, by first | omega | decide⟩ ⟨by first | omega | decide, by first | omega | decide⟩ H.size) (cwV 0 hts g_X12_clause_1 rfl rfl rfl (by decide +kernel) ⟨Nat.le_of_ble_eq_true rfl, Nat.le_of_ble_eq_true rfl⟩) ⟨fun a U g mk q => by obtain ⟨q0, q1, qP, qK, qD⟩ := q; exact ⟨q0, q1, qP, va_K.moved (u := U) (U := U.calling g mk a) (Vm.Alike.refl U.vm) qK, qD⟩, va_recv hKc hPc (ci := 12) (q0 := 0) rfl rfl, fun U hU hW => ⟨rfl, by rw [hU], by rw [hU]; exact hPc, va_K.moved hW.alike hKc, hDc.weaken (fun _ _ _ _ => trivial)⟩⟩ rfl rfl hl.1 rfl (lv_room (Nat.le_of_ble_eq_true rfl)) dX12_clause_68 ⟨Nat.le_of_ble_eq_true rfl, Nat.le_of_ble_eq_true rfl⟩) hS (fun q _ h => hFc q h) hFc (fun u t H1 locs ht hvm hwra17 hB hz1 hk1 hS => ?_)
        obtain ⟨x18, oa_x18, ob_x18, hP1, hK1, hD1⟩ := hB
        rw [ht] at hP1
        obtain ⟨hP, hD⟩ := va_join (wr := (wd_f36c9d1b h1 g0 f18 h2 g1 f19 h3 g2 f20 h4 g3 f21 h5 g4 f22 h6 g5 f23 h7 g6 f24 h8 g7 f25)) (w1 := (wd_171f232f h0 v0 h1 v1 x16 x18 0 h2 h3 h4 h5 h6 h7 h8 v3 v4 r0 r1 r2 r3 v5 r4 r5 v6 v7 r6 r7 v8 v9 r8 v10 v11 r9 v12 w13 r10 v14 v15 r11 r12 r13 r14 r15 r16 v16 r17 r18 r19 v17)) hP hD [0] [1, 2, 3, 4, 5, 6, 7, 8] rfl rfl (by decide) (by decide) hk1 hFc hP1 hD1
        generalize H1 = H at hP hS ⊢
        have hP := hP.sub (ws' := (wd_d5ef5423 h0 v0 h1 v1 x16 x18 0 h2 h3 h4 h5 h6 h7 h8 v3 v4 r0 r1 r2 r3 v5 r4 r5 v6 v7 r6 r7 v8 v9 r8 v10 v11 r9 v12 w13 r10 v14 v15 r11 r12 r13 r14 r15 r16 v16 r17 r18 r19 v17 h1 g0 f18 h2 g1 f19 h3 g2 f20 h4 g3 f21 h5 g4 f22 h6 g5 f23 h7 g6 f24 h8 g7 f25)) [8, 0, 1, 2, 3, 4, 5, 6, 7] rfl
        have hD := hD.sub (ws' := (wd_d5ef5423 h0 v0 h1 v1 x16 x18 0 h2 h3 h4 h5 h6 h7 h8 v3 v4 r0 r1 r2 r3 v5 r4 r5 v6 v7 r6 r7 v8 v9 r8 v10 v11 r9 v12 w13 r10 v14 v15 r11 r12 r13 r14 r15 r16 v16 r17 r18 r19 v17 h1 g0 f18 h2 g1 f19 h3 g2 f20 h4 g3 f21 h5 g4 f22 h6 g5 f23 h7 g6 f24 h8 g7 f25)) [8, 0, 1, 2, 3, 4, 5, 6, 7] (by decide) rfl
        have hP : va_P (dC, dI) vwCl (wd_d5ef5423 h0 v0 h1 v1 x16 x18 0 h2 h3 h4 h5 h6 h7 h8 v3 v4 r0 r1 r2 r3 v5 r4 r5 v6 v7 r6 r7 v8 v9 r8 v10 v11 r9 v12 w13 r10 v14 v15 r11 r12 r13 r14 r15 r16 v16 r17 r18 r19 v17 h1 g0 f18 h2 g1 f19 h3 g2 f20 h4 g3 f21 h5 g4 f22 h6 g5 f23 h7 g6 f24 h8 g7 f25) H := hP
        have hD : va_D A (wd_d5ef5423 h0 v0 h1 v1 x16 x18 0 h2 h3 h4 h5 h6 h7 h8 v3 v4 r0 r1 r2 r3 v5 r4 r5 v6 v7 r6 r7 v8 v9 r8 v10 v11 r9 v12 w13 r10 v14 v15 r11 r12 r13 r14 r15 r16 v16 r17 r18 r19 v17 h1 g0 f18 h2 g1 f19 h3 g2 f20 h4 g3 f21 h5 g4 f22 h6 g5 f23 h7 g6 f24 h8 g7 f25) := hD
        refine lv_aload_n hx hb dX12_clause_71 rfl (lv_at hl 1 rfl) ?_
        refine lv_dup hx hb dX12_clause_72 rfl ?_
        refine va_get (D := (dC, dI)) (ci := 12) (v := .int x16) (C := RX12) (T := TX12) (N := 48) hx hb hts (fun _ h => List.mem_cons_of_mem _ (List.mem_append_right _ h)) hown hK hP 0 rfl rfl 3 (by decide) (hts (.fieldLink RX12 112 "LeftArgumentsModel" "at" "I") (List.mem_cons_of_mem _ (List.mem_append_left _ (List.mem_of_getElem? (i := 5) rfl)))) (fun _ h9 => h9) rfl dX12_clause_73 ?_
        refine lv_iconst (v := 1) hx hb dX12_clause_76 (by decide) ?_
        refine lv_iadd hx hb dX12_clause_77 ?_
        refine lv_topi (fun t19 et19 => ?_)
        have gt19 : t19.toInt = x16.toInt + 1 := pv_add (a := x16.toInt) (b := 1) et19 rfl (by decide) (by omega) (by omega)
        refine va_put (D := (dC, dI)) (ci := 12) (v := .int t19) (ty := .int) (C := RX12) (T := TX12) (N := 48) hx hb hts (fun _ h => List.mem_cons_of_mem _ (List.mem_append_right _ h)) tyX12 tyX12_ok nmX12 hown hK hP hD hS 0 rfl rfl 3 (by decide) (hts (.fieldLink RX12 112 "LeftArgumentsModel" "at" "I") (List.mem_cons_of_mem _ (List.mem_append_left _ (List.mem_of_getElem? (i := 5) rfl)))) (fun _ h9 => h9) rfl (by decide +kernel) rfl rfl (Nat.le_of_ble_eq_true rfl) dX12_clause_78 (fun H locs hP hD hS => ?_)
        have hP : va_P (dC, dI) vwCl (wd_d5ef5423 h0 v0 h1 v1 t19 x18 0 h2 h3 h4 h5 h6 h7 h8 v3 v4 r0 r1 r2 r3 v5 r4 r5 v6 v7 r6 r7 v8 v9 r8 v10 v11 r9 v12 w13 r10 v14 v15 r11 r12 r13 r14 r15 r16 v16 r17 r18 r19 v17 h1 g0 f18 h2 g1 f19 h3 g2 f20 h4 g3 f21 h5 g4 f22 h6 g5 f23 h7 g6 f24 h8 g7 f25) H := hP
        have hD : va_D A (wd_d5ef5423 h0 v0 h1 v1 t19 x18 0 h2 h3 h4 h5 h6 h7 h8 v3 v4 r0 r1 r2 r3 v5 r4 r5 v6 v7 r6 r7 v8 v9 r8 v10 v11 r9 v12 w13 r10 v14 v15 r11 r12 r13 r14 r15 r16 v16 r17 r18 r19 v17 h1 g0 f18 h2 g1 f19 h3 g2 f20 h4 g3 f21 h5 g4 f22 h6 g5 f23 h7 g6 f24 h8 g7 f25) := hD
        refine lv_aload_n hx hb dX12_clause_81 rfl (lv_at hl 1 rfl) ?_
        refine va_get (D := (dC, dI)) (ci := 12) (v := .int x18) (C := RX12) (T := TX12) (N := 48) hx hb hts (fun _ h => List.mem_cons_of_mem _ (List.mem_append_right _ h)) hown hK hP 0 rfl rfl 4 (by decide) (hts (.fieldLink RX12 119 "LeftArgumentsModel" "wrong" "I") (List.mem_cons_of_mem _ (List.mem_append_left _ (List.mem_of_getElem? (i := 2) rfl)))) (fun _ h9 => h9) rfl dX12_clause_82 ?_
        refine lv_iconst (v := (-1)) hx hb dX12_clause_85 (by decide) ?_
        refine lv_icmp_eq (tgt := 90) hx hb dX12_clause_86 (by decide) (fun c20 => by exfalso; have fc20 : x18.toInt = (-1) := congrArg Int32.toInt c20; omega) (fun _ => ?_)
        subst hQ
        have hP9 := hP.sub (ws' := (wd_d5ef5423 h0 v0 h1 v1 t19 x18 0 h2 h3 h4 h5 h6 h7 h8 v3 v4 r0 r1 r2 r3 v5 r4 r5 v6 v7 r6 r7 v8 v9 r8 v10 v11 r9 v12 w13 r10 v14 v15 r11 r12 r13 r14 r15 r16 v16 r17 r18 r19 v17 h1 g0 f18 h2 g1 f19 h3 g2 f20 h4 g3 f21 h5 g4 f22 h6 g5 f23 h7 g6 f24 h8 g7 f25)) [0, 1, 2, 3, 4, 5, 6, 7, 8] rfl
        have hD9 := hD.sub (ws' := (wd_d5ef5423 h0 v0 h1 v1 t19 x18 0 h2 h3 h4 h5 h6 h7 h8 v3 v4 r0 r1 r2 r3 v5 r4 r5 v6 v7 r6 r7 v8 v9 r8 v10 v11 r9 v12 w13 r10 v14 v15 r11 r12 r13 r14 r15 r16 v16 r17 r18 r19 v17 h1 g0 f18 h2 g1 f19 h3 g2 f20 h4 g3 f21 h5 g4 f22 h6 g5 f23 h7 g6 f24 h8 g7 f25)) [0, 1, 2, 3, 4, 5, 6, 7, 8] (by decide) rfl
        have hK9 := hK.sub (tys' := []) [] rfl
        exact W.vret hx hb hr (fun t ht hW => ⟨⟨(), rfl, trivial, Or.inr (⟨t19, x18, 0, f19, f20, f21, f22, f23, f24, f25, by first | omega | decide, by first | omega | decide, by first | omega | decide, by first | omega | decide, by exact pm_Oth.mk hgF ho1 ho2 ho3 ho4 (by omega) (by omega) (by omega) (by omega), by rw [ht]; exact hP9, va_K.moved hW.alike hK9, hD9⟩)⟩, hS.F ht⟩) hS.2.2 dX12_clause_89
      · skip
        obtain ⟨x21, oa_x21, ob_x21, pt0_ra15, pt1_ra15, pt2_ra15, pt3_ra15, pt4_ra15, hP1, hK1, hD1⟩ := hB
        rw [ht] at hP1
        obtain ⟨hP, hD⟩ := va_join (wr := (wd_55284813 h2 g1 f19 h3 g2 f20 h4 g3 f21 h5 g4 f22 h6 g5 f23 h7 g6 f24 h8 g7 f25)) (w1 := (wd_f4cd022e h0 v0 h1 v1 x21 (-1) 0 h2 h3 h4 h5 h6 h7 h8 v3 v4 r0 r1 r2 r3 v5 r4 r5 v6 v7 r6 r7 v8 v9 r8 v10 v11 r9 v12 w13 r10 v14 v15 r11 r12 r13 r14 r15 r16 v16 r17 r18 r19 v17 h1 g0 f18)) hP hD [0, 1] [2, 3, 4, 5, 6, 7, 8] rfl rfl (by decide) (by decide) hk1 hFc hP1 hD1
        generalize H1 = H at hP hS ⊢
        have hP := hP.sub (ws' := (wd_d5ef5423 h0 v0 h1 v1 x21 (-1) 0 h2 h3 h4 h5 h6 h7 h8 v3 v4 r0 r1 r2 r3 v5 r4 r5 v6 v7 r6 r7 v8 v9 r8 v10 v11 r9 v12 w13 r10 v14 v15 r11 r12 r13 r14 r15 r16 v16 r17 r18 r19 v17 h1 g0 f18 h2 g1 f19 h3 g2 f20 h4 g3 f21 h5 g4 f22 h6 g5 f23 h7 g6 f24 h8 g7 f25)) [7, 8, 0, 1, 2, 3, 4, 5, 6] rfl
        have hD := hD.sub (ws' := (wd_d5ef5423 h0 v0 h1 v1 x21 (-1) 0 h2 h3 h4 h5 h6 h7 h8 v3 v4 r0 r1 r2 r3 v5 r4 r5 v6 v7 r6 r7 v8 v9 r8 v10 v11 r9 v12 w13 r10 v14 v15 r11 r12 r13 r14 r15 r16 v16 r17 r18 r19 v17 h1 g0 f18 h2 g1 f19 h3 g2 f20 h4 g3 f21 h5 g4 f22 h6 g5 f23 h7 g6 f24 h8 g7 f25)) [7, 8, 0, 1, 2, 3, 4, 5, 6] (by decide) rfl
        have hP : va_P (dC, dI) vwCl (wd_d5ef5423 h0 v0 h1 v1 x21 (-1) 0 h2 h3 h4 h5 h6 h7 h8 v3 v4 r0 r1 r2 r3 v5 r4 r5 v6 v7 r6 r7 v8 v9 r8 v10 v11 r9 v12 w13 r10 v14 v15 r11 r12 r13 r14 r15 r16 v16 r17 r18 r19 v17 h1 g0 f18 h2 g1 f19 h3 g2 f20 h4 g3 f21 h5 g4 f22 h6 g5 f23 h7 g6 f24 h8 g7 f25) H := hP
        have hD : va_D A (wd_d5ef5423 h0 v0 h1 v1 x21 (-1) 0 h2 h3 h4 h5 h6 h7 h8 v3 v4 r0 r1 r2 r3 v5 r4 r5 v6 v7 r6 r7 v8 v9 r8 v10 v11 r9 v12 w13 r10 v14 v15 r11 r12 r13 r14 r15 r16 v16 r17 r18 r19 v17 h1 g0 f18 h2 g1 f19 h3 g2 f20 h4 g3 f21 h5 g4 f22 h6 g5 f23 h7 g6 f24 h8 g7 f25) := hD
        refine lv_bipush (v := 58) hx hb dX12_clause_62 (by decide) ?_
        refine lv_icmp_eq (tgt := 71) hx hb dX12_clause_64 (by decide) (fun c22 => ?_) (fun c22 => ?_)
        · skip
          have fc22 : ra15.toInt = 58 := congrArg Int32.toInt c22
          refine lv_aload_n hx hb dX12_clause_71 rfl (lv_at hl 1 rfl) ?_
          refine lv_dup hx hb dX12_clause_72 rfl ?_
          refine va_get (D := (dC, dI)) (ci := 12) (v := .int x21) (C := RX12) (T := TX12) (N := 48) hx hb hts (fun _ h => List.mem_cons_of_mem _ (List.mem_append_right _ h)) hown hK hP 0 rfl rfl 3 (by decide) (hts (.fieldLink RX12 112 "LeftArgumentsModel" "at" "I") (List.mem_cons_of_mem _ (List.mem_append_left _ (List.mem_of_getElem? (i := 5) rfl)))) (fun _ h9 => h9) rfl dX12_clause_73 ?_
          refine lv_iconst (v := 1) hx hb dX12_clause_76 (by decide) ?_
          refine lv_iadd hx hb dX12_clause_77 ?_
          refine lv_topi (fun t23 et23 => ?_)
          have gt23 : t23.toInt = x21.toInt + 1 := pv_add (a := x21.toInt) (b := 1) et23 rfl (by decide) (by omega) (by omega)
          refine va_put (D := (dC, dI)) (ci := 12) (v := .int t23) (ty := .int) (C := RX12) (T := TX12) (N := 48) hx hb hts (fun _ h => List.mem_cons_of_mem _ (List.mem_append_right _ h)) tyX12 tyX12_ok nmX12 hown hK hP hD hS 0 rfl rfl 3 (by decide) (hts (.fieldLink RX12 112 "LeftArgumentsModel" "at" "I") (List.mem_cons_of_mem _ (List.mem_append_left _ (List.mem_of_getElem? (i := 5) rfl)))) (fun _ h9 => h9) rfl (by decide +kernel) rfl rfl (Nat.le_of_ble_eq_true rfl) dX12_clause_78 (fun H locs hP hD hS => ?_)
          have hP : va_P (dC, dI) vwCl (wd_d5ef5423 h0 v0 h1 v1 t23 (-1) 0 h2 h3 h4 h5 h6 h7 h8 v3 v4 r0 r1 r2 r3 v5 r4 r5 v6 v7 r6 r7 v8 v9 r8 v10 v11 r9 v12 w13 r10 v14 v15 r11 r12 r13 r14 r15 r16 v16 r17 r18 r19 v17 h1 g0 f18 h2 g1 f19 h3 g2 f20 h4 g3 f21 h5 g4 f22 h6 g5 f23 h7 g6 f24 h8 g7 f25) H := hP
          have hD : va_D A (wd_d5ef5423 h0 v0 h1 v1 t23 (-1) 0 h2 h3 h4 h5 h6 h7 h8 v3 v4 r0 r1 r2 r3 v5 r4 r5 v6 v7 r6 r7 v8 v9 r8 v10 v11 r9 v12 w13 r10 v14 v15 r11 r12 r13 r14 r15 r16 v16 r17 r18 r19 v17 h1 g0 f18 h2 g1 f19 h3 g2 f20 h4 g3 f21 h5 g4 f22 h6 g5 f23 h7 g6 f24 h8 g7 f25) := hD
          refine lv_aload_n hx hb dX12_clause_81 rfl (lv_at hl 1 rfl) ?_
          refine va_get (D := (dC, dI)) (ci := 12) (v := .int (-1)) (C := RX12) (T := TX12) (N := 48) hx hb hts (fun _ h => List.mem_cons_of_mem _ (List.mem_append_right _ h)) hown hK hP 0 rfl rfl 4 (by decide) (hts (.fieldLink RX12 119 "LeftArgumentsModel" "wrong" "I") (List.mem_cons_of_mem _ (List.mem_append_left _ (List.mem_of_getElem? (i := 2) rfl)))) (fun _ h9 => h9) rfl dX12_clause_82 ?_
          refine lv_iconst (v := (-1)) hx hb dX12_clause_85 (by decide) ?_
          refine lv_icmp_eq (tgt := 90) hx hb dX12_clause_86 (by decide) (fun _ => ?_) (fun c => absurd (by decide) c)
          refine lv_aload_n hx hb dX12_clause_90 rfl (lv_at hl 1 rfl) ?_
          refine va_get (D := (dC, dI)) (ci := 12) (v := .ref h6) (C := RX12) (T := TX12) (N := 48) hx hb hts (fun _ h => List.mem_cons_of_mem _ (List.mem_append_right _ h)) hown hK hP 0 rfl rfl 10 (by decide) (hts (.fieldLink RX12 25 "LeftArgumentsModel" "testFrom" "[I") (List.mem_cons_of_mem _ (List.mem_append_left _ (List.mem_of_getElem? (i := 19) rfl)))) (fun _ h9 => h9) rfl dX12_clause_91 ?_
          refine lv_iload_n hx hb dX12_clause_94 rfl (lv_at hl 0 rfl) ?_
          refine lv_aload_n hx hb dX12_clause_95 rfl (lv_at hl 1 rfl) ?_
          refine va_get (D := (dC, dI)) (ci := 12) (v := .ref h4) (C := RX12) (T := TX12) (N := 48) hx hb hts (fun _ h => List.mem_cons_of_mem _ (List.mem_append_right _ h)) hown hK hP 0 rfl rfl 8 (by decide) (hts (.fieldLink RX12 19 "LeftArgumentsModel" "codes" "[I") (List.mem_cons_of_mem _ (List.mem_append_left _ (List.mem_of_getElem? (i := 20) rfl)))) (fun _ h9 => h9) rfl dX12_clause_96 ?_
          refine lv_aload_n hx hb dX12_clause_99 rfl (lv_at hl 1 rfl) ?_
          refine va_get (D := (dC, dI)) (ci := 12) (v := .int v4) (C := RX12) (T := TX12) (N := 48) hx hb hts (fun _ h => List.mem_cons_of_mem _ (List.mem_append_right _ h)) hown hK hP 0 rfl rfl 14 (by decide) (hts (.fieldLink RX12 122 "LeftArgumentsModel" "text" "I") (List.mem_cons_of_mem _ (List.mem_append_left _ (List.mem_of_getElem? (i := 0) rfl)))) (fun _ h9 => h9) rfl dX12_clause_100 ?_
          refine va_iald hx hb hK hP 4 3 rfl rfl (vp_in_iff.mpr ⟨by omega, by omega⟩) dX12_clause_103 ?_
          refine lv_topi (fun t24 et24 => ?_)
          have hqt24 : t24.toInt = pm_x f21 v4 := by rw [et24]; rfl
          have gqt24 : 0 ≤ t24.toInt ∧ t24.toInt ≤ 500 := by constructor <;> omega
          refine va_iast hx hb hK hP hD hS 6 5 rfl rfl (vp_in_iff.mpr ⟨by omega, by omega⟩) dX12_clause_104 (fun H locs hP hD hS => ?_)
          obtain ⟨fn25, efn25⟩ : ∃ g : Nat → Int32, g = upd f23 (Int32.toNatClampNeg t3) t24 := ⟨_, rfl⟩
          rw [← efn25] at hP hD
          have hP : va_P (dC, dI) vwCl (wd_d5ef5423 h0 v0 h1 v1 t23 (-1) 0 h2 h3 h4 h5 h6 h7 h8 v3 v4 r0 r1 r2 r3 v5 r4 r5 v6 v7 r6 r7 v8 v9 r8 v10 v11 r9 v12 w13 r10 v14 v15 r11 r12 r13 r14 r15 r16 v16 r17 r18 r19 v17 h1 g0 f18 h2 g1 f19 h3 g2 f20 h4 g3 f21 h5 g4 f22 h6 g5 fn25 h7 g6 f24 h8 g7 f25) H := hP
          have hD : va_D A (wd_d5ef5423 h0 v0 h1 v1 t23 (-1) 0 h2 h3 h4 h5 h6 h7 h8 v3 v4 r0 r1 r2 r3 v5 r4 r5 v6 v7 r6 r7 v8 v9 r8 v10 v11 r9 v12 w13 r10 v14 v15 r11 r12 r13 r14 r15 r16 v16 r17 r18 r19 v17 h1 g0 f18 h2 g1 f19 h3 g2 f20 h4 g3 f21 h5 g4 f22 h6 g5 fn25 h7 g6 f24 h8 g7 f25) := hD
          have hk1 : fn25 (Int32.toNatClampNeg t3) = t24 := by rw [efn25]; exact pk_us
          have ho1 : ∀ j : Nat, ¬ j = Int32.toNatClampNeg t3 → fn25 j = f23 j := fun j h9 => by rw [efn25, pk_un h9]; exact ho1 j h9
          have hJ27 : ∀ (x26 : Int32) (H : Heap) (locs : List Loc) (ls : Array Slot), 0 ≤ x26.toInt → x26.toInt ≤ 240 → t23.toInt ≤ x26.toInt → va_P (dC, dI) vwCl (wd_d5ef5423 h0 v0 h1 v1 x26 (-1) 0 h2 h3 h4 h5 h6 h7 h8 v3 v4 r0 r1 r2 r3 v5 r4 r5 v6 v7 r6 r7 v8 v9 r8 v10 v11 r9 v12 w13 r10 v14 v15 r11 r12 r13 r14 r15 r16 v16 r17 r18 r19 v17 h1 g0 f18 h2 g1 f19 h3 g2 f20 h4 g3 f21 h5 g4 f22 h6 g5 fn25 h7 g6 f24 h8 g7 f25) H → va_D A (wd_d5ef5423 h0 v0 h1 v1 x26 (-1) 0 h2 h3 h4 h5 h6 h7 h8 v3 v4 r0 r1 r2 r3 v5 r4 r5 v6 v7 r6 r7 v8 v9 r8 v10 v11 r9 v12 w13 r10 v14 v15 r11 r12 r13 r14 r15 r16 v16 r17 r18 r19 v17 h1 g0 f18 h2 g1 f19 h3 g2 f20 h4 g3 f21 h5 g4 f22 h6 g5 fn25 h7 g6 f24 h8 g7 f25) → va_S A s.heap H locs → lv_has ls 3 [(1, .int t3), (0, .ref h0)] → W p l e ({ frames := 34, cells := 0, slots := 0, locals := 693 }) s m ([.ref h0] : List Value).toArray below meth c H locs 0 0 Q (F0 m 128 ls [.int 0]) := by
            intro x26 H locs ls qa_x26 qb_x26 gh0_hJ27 hP hD hS hl
            refine lv_istore_n (lv' := [(2, .int 0), (1, .int t3), (0, .ref h0)]) hx hb dX12_clause_128 rfl hl (by decide) rfl (fun ls hl => ?_)
            have hJ29 : ∀ (x28 : Int32) (H : Heap) (locs : List Loc) (ls : Array Slot), 0 ≤ x28.toInt → x28.toInt ≤ 240 → pm_x fn32 v4 - pm_x f21 v4 ≤ x28.toInt - x26.toInt ∧ x26.toInt ≤ x28.toInt → pm_R v4 0 1 18 f19 f20 f21 fn30 fn31 fn32 → va_P (dC, dI) vwCl (wd_d5ef5423 h0 v0 h1 v1 x28 (-1) 0 h2 h3 h4 h5 h6 h7 h8 v3 v4 r0 r1 r2 r3 v5 r4 r5 v6 v7 r6 r7 v8 v9 r8 v10 v11 r9 v12 w13 r10 v14 v15 r11 r12 r13 r14 r15 r16 v16 r17 r18 r19 v17 h1 g0 f18 h2 g1 fn30 h3 g2 fn31 h4 g3 fn32 h5 g4 f22 h6 g5 fn25 h7 g6 f24 h8 g7 f25) H → va_D A (wd_d5ef5423 h0 v0 h1 v1 x28 (-1) 0 h2 h3 h4 h5 h6 h7 h8 v3 v4 r0 r1 r2 r3 v5 r4 r5 v6 v7 r6 r7 v8 v9 r8 v10 v11 r9 v12 w13 r10 v14 v15 r11 r12 r13 r14 r15 r16 v16 r17 r18 r19 v17 h1 g0 f18 h2 g1 fn30 h3 g2 fn31 h4 g3 fn32 h5 g4 f22 h6 g5 fn25 h7 g6 f24 h8 g7 f25) → va_S A s.heap H locs → lv_has ls 3 [(2, .int 0), (1, .int t3), (0, .ref h0)] → W p l e ({ frames := 34, cells := 0, slots := 0, locals := 693 }) s m ([.ref h0] : List Value).toArray below meth c H locs 0 0 Q (F0 m 184 ls []) := by
              intro x28 H locs ls qa_x28 qb_x28 gh0_hJ29 gh1_hJ29 hP hD hS hl
              have hgR := gh1_hJ29; have hgF := hgR.1; have hxl := hgF.1
              refine lv_aload_n hx hb dX12_clause_184 rfl (lv_at hl 2 rfl) ?_
              refine va_get (D := (dC, dI)) (ci := 12) (v := .ref h7) (C := RX12) (T := TX12) (N := 48) hx hb hts (fun _ h => List.mem_cons_of_mem _ (List.mem_append_right _ h)) hown hK hP 0 rfl rfl 11 (by decide) (hts (.fieldLink RX12 28 "LeftArgumentsModel" "sumFrom" "[I") (List.mem_cons_of_mem _ (List.mem_append_left _ (List.mem_of_getElem? (i := 21) rfl)))) (fun _ h9 => h9) rfl dX12_clause_185 ?_
              refine lv_iload_n hx hb dX12_clause_188 rfl (lv_at hl 1 rfl) ?_
              refine lv_aload_n hx hb dX12_clause_189 rfl (lv_at hl 2 rfl) ?_
              refine va_get (D := (dC, dI)) (ci := 12) (v := .ref h6) (C := RX12) (T := TX12) (N := 48) hx hb hts (fun _ h => List.mem_cons_of_mem _ (List.mem_append_right _ h)) hown hK hP 0 rfl rfl 10 (by decide) (hts (.fieldLink RX12 25 "LeftArgumentsModel" "testFrom" "[I") (List.mem_cons_of_mem _ (List.mem_append_left _ (List.mem_of_getElem? (i := 19) rfl)))) (fun _ h9 => h9) rfl dX12_clause_190 ?_
              refine lv_iload_n hx hb dX12_clause_193 rfl (lv_at hl 1 rfl) ?_
              refine va_iald hx hb hK hP 6 5 rfl rfl (vp_in_iff.mpr ⟨by omega, by omega⟩) dX12_clause_194 ?_
              refine lv_topi (fun t30 et30 => ?_)
              have hqt30 : t30.toInt = t24.toInt := by rw [et30, hk1]
              refine va_iast hx hb hK hP hD hS 7 6 rfl rfl (vp_in_iff.mpr ⟨by omega, by omega⟩) dX12_clause_195 (fun H locs hP hD hS => ?_)
              obtain ⟨fn31, efn31⟩ : ∃ g : Nat → Int32, g = upd f24 (Int32.toNatClampNeg t3) t30 := ⟨_, rfl⟩
              rw [← efn31] at hP hD
              have hP : va_P (dC, dI) vwCl (wd_d5ef5423 h0 v0 h1 v1 x28 (-1) 0 h2 h3 h4 h5 h6 h7 h8 v3 v4 r0 r1 r2 r3 v5 r4 r5 v6 v7 r6 r7 v8 v9 r8 v10 v11 r9 v12 w13 r10 v14 v15 r11 r12 r13 r14 r15 r16 v16 r17 r18 r19 v17 h1 g0 f18 h2 g1 fn30 h3 g2 fn31 h4 g3 fn32 h5 g4 f22 h6 g5 fn25 h7 g6 fn31 h8 g7 f25) H := hP
              have hD : va_D A (wd_d5ef5423 h0 v0 h1 v1 x28 (-1) 0 h2 h3 h4 h5 h6 h7 h8 v3 v4 r0 r1 r2 r3 v5 r4 r5 v6 v7 r6 r7 v8 v9 r8 v10 v11 r9 v12 w13 r10 v14 v15 r11 r12 r13 r14 r15 r16 v16 r17 r18 r19 v17 h1 g0 f18 h2 g1 fn30 h3 g2 fn31 h4 g3 fn32 h5 g4 f22 h6 g5 fn25 h7 g6 fn31 h8 g7 f25) := hD
              have hk2 : fn31 (Int32.toNatClampNeg t3) = t30 := by rw [efn31]; exact pk_us
              have ho2 : ∀ j : Nat, ¬ j = Int32.toNatClampNeg t3 → fn31 j = f24 j := fun j h9 => by rw [efn31, pk_un h9]; exact ho2 j h9
              refine lv_iload_n hx hb dX12_clause_196 rfl (lv_at hl 0 rfl) ?_
              refine lv_if_eq (tgt := 251) hx hb dX12_clause_197 (by decide) (fun _ => ?_) (fun c => absurd (by decide) c)
              refine lv_aload_n hx hb dX12_clause_251 rfl (lv_at hl 2 rfl) ?_
              refine va_get (D := (dC, dI)) (ci := 12) (v := .ref h8) (C := RX12) (T := TX12) (N := 48) hx hb hts (fun _ h => List.mem_cons_of_mem _ (List.mem_append_right _ h)) hown hK hP 0 rfl rfl 12 (by decide) (hts (.fieldLink RX12 31 "LeftArgumentsModel" "sumTo" "[I") (List.mem_cons_of_mem _ (List.mem_append_left _ (List.mem_of_getElem? (i := 22) rfl)))) (fun _ h9 => h9) rfl dX12_clause_252 ?_
              refine lv_iload_n hx hb dX12_clause_255 rfl (lv_at hl 1 rfl) ?_
              refine lv_aload_n hx hb dX12_clause_256 rfl (lv_at hl 2 rfl) ?_
              refine va_get (D := (dC, dI)) (ci := 12) (v := .ref h4) (C := RX12) (T := TX12) (N := 48) hx hb hts (fun _ h => List.mem_cons_of_mem _ (List.mem_append_right _ h)) hown hK hP 0 rfl rfl 8 (by decide) (hts (.fieldLink RX12 19 "LeftArgumentsModel" "codes" "[I") (List.mem_cons_of_mem _ (List.mem_append_left _ (List.mem_of_getElem? (i := 20) rfl)))) (fun _ h9 => h9) rfl dX12_clause_257 ?_
              refine lv_aload_n hx hb dX12_clause_260 rfl (lv_at hl 2 rfl) ?_
              refine va_get (D := (dC, dI)) (ci := 12) (v := .int v4) (C := RX12) (T := TX12) (N := 48) hx hb hts (fun _ h => List.mem_cons_of_mem _ (List.mem_append_right _ h)) hown hK hP 0 rfl rfl 14 (by decide) (hts (.fieldLink RX12 122 "LeftArgumentsModel" "text" "I") (List.mem_cons_of_mem _ (List.mem_append_left _ (List.mem_of_getElem? (i := 0) rfl)))) (fun _ h9 => h9) rfl dX12_clause_261 ?_
              refine va_iald hx hb hK hP 4 3 rfl rfl (vp_in_iff.mpr ⟨by omega, by omega⟩) dX12_clause_264 ?_
              refine lv_topi (fun t32 et32 => ?_)
              have hqt32 : t32.toInt = pm_x fn32 v4 := by rw [et32]; rfl
              have gqt32 : 0 ≤ t32.toInt ∧ t32.toInt ≤ 500 := by constructor <;> omega
              refine va_iast hx hb hK hP hD hS 8 7 rfl rfl (vp_in_iff.mpr ⟨by omega, by omega⟩) dX12_clause_265 (fun H locs hP hD hS => ?_)
              obtain ⟨fn33, efn33⟩ : ∃ g : Nat → Int32, g = upd f25 (Int32.toNatClampNeg t3) t32 := ⟨_, rfl⟩
              rw [← efn33] at hP hD
              have hP : va_P (dC, dI) vwCl (wd_d5ef5423 h0 v0 h1 v1 x28 (-1) 0 h2 h3 h4 h5 h6 h7 h8 v3 v4 r0 r1 r2 r3 v5 r4 r5 v6 v7 r6 r7 v8 v9 r8 v10 v11 r9 v12 w13 r10 v14 v15 r11 r12 r13 r14 r15 r16 v16 r17 r18 r19 v17 h1 g0 f18 h2 g1 fn30 h3 g2 fn31 h4 g3 fn32 h5 g4 f22 h6 g5 fn25 h7 g6 fn31 h8 g7 fn33) H := hP
              have hD : va_D A (wd_d5ef5423 h0 v0 h1 v1 x28 (-1) 0 h2 h3 h4 h5 h6 h7 h8 v3 v4 r0 r1 r2 r3 v5 r4 r5 v6 v7 r6 r7 v8 v9 r8 v10 v11 r9 v12 w13 r10 v14 v15 r11 r12 r13 r14 r15 r16 v16 r17 r18 r19 v17 h1 g0 f18 h2 g1 fn30 h3 g2 fn31 h4 g3 fn32 h5 g4 f22 h6 g5 fn25 h7 g6 fn31 h8 g7 fn33) := hD
              have hk3 : fn33 (Int32.toNatClampNeg t3) = t32 := by rw [efn33]; exact pk_us
              have ho3 : ∀ j : Nat, ¬ j = Int32.toNatClampNeg t3 → fn33 j = f25 j := fun j h9 => by rw [efn33, pk_un h9]; exact ho3 j h9
              refine lv_aload_n hx hb dX12_clause_266 rfl (lv_at hl 2 rfl) ?_
              refine va_get (D := (dC, dI)) (ci := 12) (v := .ref h5) (C := RX12) (T := TX12) (N := 48) hx hb hts (fun _ h => List.mem_cons_of_mem _ (List.mem_append_right _ h)) hown hK hP 0 rfl rfl 9 (by decide) (hts (.fieldLink RX12 22 "LeftArgumentsModel" "clauses" "[I") (List.mem_cons_of_mem _ (List.mem_append_left _ (List.mem_of_getElem? (i := 1) rfl)))) (fun _ h9 => h9) rfl dX12_clause_267 ?_
              refine lv_aload_n hx hb dX12_clause_270 rfl (lv_at hl 2 rfl) ?_
              refine va_get (D := (dC, dI)) (ci := 12) (v := .int v4) (C := RX12) (T := TX12) (N := 48) hx hb hts (fun _ h => List.mem_cons_of_mem _ (List.mem_append_right _ h)) hown hK hP 0 rfl rfl 14 (by decide) (hts (.fieldLink RX12 122 "LeftArgumentsModel" "text" "I") (List.mem_cons_of_mem _ (List.mem_append_left _ (List.mem_of_getElem? (i := 0) rfl)))) (fun _ h9 => h9) rfl dX12_clause_271 ?_
              refine lv_dup2_11 hx hb dX12_clause_274 rfl rfl ?_
              refine va_iald hx hb hK hP 5 4 rfl rfl (vp_in_iff.mpr ⟨by omega, by omega⟩) dX12_clause_275 ?_
              refine lv_topi (fun t34 et34 => ?_)
              have gmt34 : t34.toInt = t2.toInt := by rw [et34, et2]
              have hqt34 : t34.toInt = pm_x f22 v4 := by rw [et34]; rfl
              have gqt34 : 0 ≤ t34.toInt ∧ t34.toInt ≤ 120 := by constructor <;> omega
              refine lv_iconst (v := 1) hx hb dX12_clause_276 (by decide) ?_
              refine lv_iadd hx hb dX12_clause_277 ?_
              refine lv_topi (fun t35 et35 => ?_)
              have gt35 : t35.toInt = t34.toInt + 1 := pv_add (a := t34.toInt) (b := 1) et35 rfl (by decide) (by omega) (by omega)
              refine va_iast hx hb hK hP hD hS 5 4 rfl rfl (vp_in_iff.mpr ⟨by omega, by omega⟩) dX12_clause_278 (fun H locs hP hD hS => ?_)
              obtain ⟨fn36, efn36⟩ : ∃ g : Nat → Int32, g = upd f22 (Int32.toNatClampNeg v4) t35 := ⟨_, rfl⟩
              rw [← efn36] at hP hD
              have hP : va_P (dC, dI) vwCl (wd_d5ef5423 h0 v0 h1 v1 x28 (-1) 0 h2 h3 h4 h5 h6 h7 h8 v3 v4 r0 r1 r2 r3 v5 r4 r5 v6 v7 r6 r7 v8 v9 r8 v10 v11 r9 v12 w13 r10 v14 v15 r11 r12 r13 r14 r15 r16 v16 r17 r18 r19 v17 h1 g0 f18 h2 g1 fn30 h3 g2 fn31 h4 g3 fn32 h5 g4 fn36 h6 g5 fn25 h7 g6 fn31 h8 g7 fn33) H := hP
              have hD : va_D A (wd_d5ef5423 h0 v0 h1 v1 x28 (-1) 0 h2 h3 h4 h5 h6 h7 h8 v3 v4 r0 r1 r2 r3 v5 r4 r5 v6 v7 r6 r7 v8 v9 r8 v10 v11 r9 v12 w13 r10 v14 v15 r11 r12 r13 r14 r15 r16 v16 r17 r18 r19 v17 h1 g0 f18 h2 g1 fn30 h3 g2 fn31 h4 g3 fn32 h5 g4 fn36 h6 g5 fn25 h7 g6 fn31 h8 g7 fn33) := hD
              have ho4 : ∀ j : Nat, ¬ j = Int32.toNatClampNeg v4 → fn36 j = f22 j := fun j h9 => by rw [efn36, pk_un h9]
              have hk4 : pm_x fn36 v4 = pm_x f22 v4 + 1 := by rw [efn36]; show (upd _ _ _ _).toInt = _; rw [pk_us]; omega
              subst hQ
              have sg1 : pm_Seg fn30 fn31 v4 t24 t30 := pm_Seg.nil (by omega) (by omega) (by omega)
              have sg2 := hgR.seg (f := t30) (t := t32) (by omega) (by omega) (by decide) (by omega) (by omega)
              have hP9 := hP.sub (ws' := (wd_d5ef5423 h0 v0 h1 v1 x28 (-1) 0 h2 h3 h4 h5 h6 h7 h8 v3 v4 r0 r1 r2 r3 v5 r4 r5 v6 v7 r6 r7 v8 v9 r8 v10 v11 r9 v12 w13 r10 v14 v15 r11 r12 r13 r14 r15 r16 v16 r17 r18 r19 v17 h1 g0 f18 h2 g1 fn30 h3 g2 fn31 h4 g3 fn32 h5 g4 fn36 h6 g5 fn25 h7 g6 fn31 h8 g7 fn33)) [0, 1, 2, 3, 4, 5, 6, 7, 8] rfl
              have hD9 := hD.sub (ws' := (wd_d5ef5423 h0 v0 h1 v1 x28 (-1) 0 h2 h3 h4 h5 h6 h7 h8 v3 v4 r0 r1 r2 r3 v5 r4 r5 v6 v7 r6 r7 v8 v9 r8 v10 v11 r9 v12 w13 r10 v14 v15 r11 r12 r13 r14 r15 r16 v16 r17 r18 r19 v17 h1 g0 f18 h2 g1 fn30 h3 g2 fn31 h4 g3 fn32 h5 g4 fn36 h6 g5 fn25 h7 g6 fn31 h8 g7 fn33)) [0, 1, 2, 3, 4, 5, 6, 7, 8] (by decide) rfl
              have hK9 := hK.sub (tys' := []) [] rfl
              exact W.vret hx hb hr (fun t ht hW => ⟨⟨(), rfl, trivial, Or.inl ⟨x28, fn30, fn31, fn32, fn36, fn25, fn31, fn33, by first | omega | decide, by first | omega | decide, by refine ⟨?_, ?_, ?_⟩ <;> omega, by exact hk4, by exact pm_Rw.add pp2 hgF hk1 hk2 hk3 ho1 ho2 ho3 (by omega) (by omega) (by omega) hk4 sg1 sg2 (by omega), by exact pm_Oth.mk hgF ho1 ho2 ho3 ho4 (by omega) (by omega) (by omega) (by omega), by rw [ht]; exact hP9, va_K.moved hW.alike hK9, hD9⟩⟩, hS.F ht⟩) hS.2.2 dX12_clause_279
            have hJ43 : ∀ (x37 : Int32) (x38 : Int32) (x39 : Int32) (fn40 : Nat → Int32) (fn41 : Nat → Int32) (fn42 : Nat → Int32) (H : Heap) (locs : List Loc) (ls : Array Slot), 0 ≤ x37.toInt → x37.toInt ≤ 246 → 0 ≤ x38.toInt → x38.toInt ≤ 240 → pm_x fn42 v4 - pm_x f21 v4 ≤ x37.toInt - x26.toInt ∧ x26.toInt ≤ x37.toInt → pm_F v4 f19 f20 f21 fn40 fn41 fn42 → va_P (dC, dI) vwCl (wd_d5ef5423 h0 v0 h1 v1 x37 x38 x39 h2 h3 h4 h5 h6 h7 h8 v3 v4 r0 r1 r2 r3 v5 r4 r5 v6 v7 r6 r7 v8 v9 r8 v10 v11 r9 v12 w13 r10 v14 v15 r11 r12 r13 r14 r15 r16 v16 r17 r18 r19 v17 h1 g0 f18 h2 g1 fn40 h3 g2 fn41 h4 g3 fn42 h5 g4 f22 h6 g5 fn25 h7 g6 f24 h8 g7 f25) H → va_D A (wd_d5ef5423 h0 v0 h1 v1 x37 x38 x39 h2 h3 h4 h5 h6 h7 h8 v3 v4 r0 r1 r2 r3 v5 r4 r5 v6 v7 r6 r7 v8 v9 r8 v10 v11 r9 v12 w13 r10 v14 v15 r11 r12 r13 r14 r15 r16 v16 r17 r18 r19 v17 h1 g0 f18 h2 g1 fn40 h3 g2 fn41 h4 g3 fn42 h5 g4 f22 h6 g5 fn25 h7 g6 f24 h8 g7 f25) → va_S A s.heap H locs → lv_has ls 3 [(2, .int 1), (1, .int t3), (0, .ref h0)] → W p l e ({ frames := 34, cells := 0, slots := 0, locals := 693 }) s m ([.ref h0] : List Value).toArray below meth c H locs 0 0 Q (F0 m 184 ls []) := by
              intro x37 x38 x39 fn40 fn41 fn42 H locs ls qa_x37 qb_x37 qa_x38 qb_x38 gh0_hJ43 gh1_hJ43 hP hD hS hl
              have hgF := gh1_hJ43; have hxl := hgF.1
              refine lv_aload_n hx hb dX12_clause_184 rfl (lv_at hl 2 rfl) ?_
              refine va_get (D := (dC, dI)) (ci := 12) (v := .ref h7) (C := RX12) (T := TX12) (N := 48) hx hb hts (fun _ h => List.mem_cons_of_mem _ (List.mem_append_right _ h)) hown hK hP 0 rfl rfl 11 (by decide) (hts (.fieldLink RX12 28 "LeftArgumentsModel" "sumFrom" "[I") (List.mem_cons_of_mem _ (List.mem_append_left _ (List.mem_of_getElem? (i := 21) rfl)))) (fun _ h9 => h9) rfl dX12_clause_185 ?_
              refine lv_iload_n hx hb dX12_clause_188 rfl (lv_at hl 1 rfl) ?_
              refine lv_aload_n hx hb dX12_clause_189 rfl (lv_at hl 2 rfl) ?_
              refine va_get (D := (dC, dI)) (ci := 12) (v := .ref h6) (C := RX12) (T := TX12) (N := 48) hx hb hts (fun _ h => List.mem_cons_of_mem _ (List.mem_append_right _ h)) hown hK hP 0 rfl rfl 10 (by decide) (hts (.fieldLink RX12 25 "LeftArgumentsModel" "testFrom" "[I") (List.mem_cons_of_mem _ (List.mem_append_left _ (List.mem_of_getElem? (i := 19) rfl)))) (fun _ h9 => h9) rfl dX12_clause_190 ?_
              refine lv_iload_n hx hb dX12_clause_193 rfl (lv_at hl 1 rfl) ?_
              refine va_iald hx hb hK hP 6 5 rfl rfl (vp_in_iff.mpr ⟨by omega, by omega⟩) dX12_clause_194 ?_
              refine lv_topi (fun t44 et44 => ?_)
              have hqt44 : t44.toInt = t24.toInt := by rw [et44, hk1]
              refine va_iast hx hb hK hP hD hS 7 6 rfl rfl (vp_in_iff.mpr ⟨by omega, by omega⟩) dX12_clause_195 (fun H locs hP hD hS => ?_)
              obtain ⟨fn45, efn45⟩ : ∃ g : Nat → Int32, g = upd f24 (Int32.toNatClampNeg t3) t44 := ⟨_, rfl⟩
              rw [← efn45] at hP hD
              have hP : va_P (dC, dI) vwCl (wd_d5ef5423 h0 v0 h1 v1 x37 x38 x39 h2 h3 h4 h5 h6 h7 h8 v3 v4 r0 r1 r2 r3 v5 r4 r5 v6 v7 r6 r7 v8 v9 r8 v10 v11 r9 v12 w13 r10 v14 v15 r11 r12 r13 r14 r15 r16 v16 r17 r18 r19 v17 h1 g0 f18 h2 g1 fn40 h3 g2 fn41 h4 g3 fn42 h5 g4 f22 h6 g5 fn25 h7 g6 fn45 h8 g7 f25) H := hP
              have hD : va_D A (wd_d5ef5423 h0 v0 h1 v1 x37 x38 x39 h2 h3 h4 h5 h6 h7 h8 v3 v4 r0 r1 r2 r3 v5 r4 r5 v6 v7 r6 r7 v8 v9 r8 v10 v11 r9 v12 w13 r10 v14 v15 r11 r12 r13 r14 r15 r16 v16 r17 r18 r19 v17 h1 g0 f18 h2 g1 fn40 h3 g2 fn41 h4 g3 fn42 h5 g4 f22 h6 g5 fn25 h7 g6 fn45 h8 g7 f25) := hD
              have hk2 : fn45 (Int32.toNatClampNeg t3) = t44 := by rw [efn45]; exact pk_us
              have ho2 : ∀ j : Nat, ¬ j = Int32.toNatClampNeg t3 → fn45 j = f24 j := fun j h9 => by rw [efn45, pk_un h9]; exact ho2 j h9
              refine lv_iload_n hx hb dX12_clause_196 rfl (lv_at hl 0 rfl) ?_
              refine lv_if_eq (tgt := 251) hx hb dX12_clause_197 (by decide) (fun c => absurd c (by decide)) (fun _ => ?_)
              refine lv_aload_n hx hb dX12_clause_200 rfl (lv_at hl 2 rfl) ?_
              refine va_get (D := (dC, dI)) (ci := 12) (v := .int x38) (C := RX12) (T := TX12) (N := 48) hx hb hts (fun _ h => List.mem_cons_of_mem _ (List.mem_append_right _ h)) hown hK hP 0 rfl rfl 4 (by decide) (hts (.fieldLink RX12 119 "LeftArgumentsModel" "wrong" "I") (List.mem_cons_of_mem _ (List.mem_append_left _ (List.mem_of_getElem? (i := 2) rfl)))) (fun _ h9 => h9) rfl dX12_clause_201 ?_
              refine lv_iconst (v := (-1)) hx hb dX12_clause_204 (by decide) ?_
              refine lv_icmp_ne (tgt := 251) hx hb dX12_clause_205 (by decide) (fun _ => ?_) (fun c46 => by exfalso; have fc46 : x38.toInt = (-1) := congrArg Int32.toInt c46; omega)
              refine lv_aload_n hx hb dX12_clause_251 rfl (lv_at hl 2 rfl) ?_
              refine va_get (D := (dC, dI)) (ci := 12) (v := .ref h8) (C := RX12) (T := TX12) (N := 48) hx hb hts (fun _ h => List.mem_cons_of_mem _ (List.mem_append_right _ h)) hown hK hP 0 rfl rfl 12 (by decide) (hts (.fieldLink RX12 31 "LeftArgumentsModel" "sumTo" "[I") (List.mem_cons_of_mem _ (List.mem_append_left _ (List.mem_of_getElem? (i := 22) rfl)))) (fun _ h9 => h9) rfl dX12_clause_252 ?_
              refine lv_iload_n hx hb dX12_clause_255 rfl (lv_at hl 1 rfl) ?_
              refine lv_aload_n hx hb dX12_clause_256 rfl (lv_at hl 2 rfl) ?_
              refine va_get (D := (dC, dI)) (ci := 12) (v := .ref h4) (C := RX12) (T := TX12) (N := 48) hx hb hts (fun _ h => List.mem_cons_of_mem _ (List.mem_append_right _ h)) hown hK hP 0 rfl rfl 8 (by decide) (hts (.fieldLink RX12 19 "LeftArgumentsModel" "codes" "[I") (List.mem_cons_of_mem _ (List.mem_append_left _ (List.mem_of_getElem? (i := 20) rfl)))) (fun _ h9 => h9) rfl dX12_clause_257 ?_
              refine lv_aload_n hx hb dX12_clause_260 rfl (lv_at hl 2 rfl) ?_
              refine va_get (D := (dC, dI)) (ci := 12) (v := .int v4) (C := RX12) (T := TX12) (N := 48) hx hb hts (fun _ h => List.mem_cons_of_mem _ (List.mem_append_right _ h)) hown hK hP 0 rfl rfl 14 (by decide) (hts (.fieldLink RX12 122 "LeftArgumentsModel" "text" "I") (List.mem_cons_of_mem _ (List.mem_append_left _ (List.mem_of_getElem? (i := 0) rfl)))) (fun _ h9 => h9) rfl dX12_clause_261 ?_
              refine va_iald hx hb hK hP 4 3 rfl rfl (vp_in_iff.mpr ⟨by omega, by omega⟩) dX12_clause_264 ?_
              refine lv_topi (fun t47 et47 => ?_)
              have hqt47 : t47.toInt = pm_x fn42 v4 := by rw [et47]; rfl
              have gqt47 : 0 ≤ t47.toInt ∧ t47.toInt ≤ 500 := by constructor <;> omega
              refine va_iast hx hb hK hP hD hS 8 7 rfl rfl (vp_in_iff.mpr ⟨by omega, by omega⟩) dX12_clause_265 (fun H locs hP hD hS => ?_)
              obtain ⟨fn48, efn48⟩ : ∃ g : Nat → Int32, g = upd f25 (Int32.toNatClampNeg t3) t47 := ⟨_, rfl⟩
              rw [← efn48] at hP hD
              have hP : va_P (dC, dI) vwCl (wd_d5ef5423 h0 v0 h1 v1 x37 x38 x39 h2 h3 h4 h5 h6 h7 h8 v3 v4 r0 r1 r2 r3 v5 r4 r5 v6 v7 r6 r7 v8 v9 r8 v10 v11 r9 v12 w13 r10 v14 v15 r11 r12 r13 r14 r15 r16 v16 r17 r18 r19 v17 h1 g0 f18 h2 g1 fn40 h3 g2 fn41 h4 g3 fn42 h5 g4 f22 h6 g5 fn25 h7 g6 fn45 h8 g7 fn48) H := hP
              have hD : va_D A (wd_d5ef5423 h0 v0 h1 v1 x37 x38 x39 h2 h3 h4 h5 h6 h7 h8 v3 v4 r0 r1 r2 r3 v5 r4 r5 v6 v7 r6 r7 v8 v9 r8 v10 v11 r9 v12 w13 r10 v14 v15 r11 r12 r13 r14 r15 r16 v16 r17 r18 r19 v17 h1 g0 f18 h2 g1 fn40 h3 g2 fn41 h4 g3 fn42 h5 g4 f22 h6 g5 fn25 h7 g6 fn45 h8 g7 fn48) := hD
              have hk3 : fn48 (Int32.toNatClampNeg t3) = t47 := by rw [efn48]; exact pk_us
              have ho3 : ∀ j : Nat, ¬ j = Int32.toNatClampNeg t3 → fn48 j = f25 j := fun j h9 => by rw [efn48, pk_un h9]; exact ho3 j h9
              refine lv_aload_n hx hb dX12_clause_266 rfl (lv_at hl 2 rfl) ?_
              refine va_get (D := (dC, dI)) (ci := 12) (v := .ref h5) (C := RX12) (T := TX12) (N := 48) hx hb hts (fun _ h => List.mem_cons_of_mem _ (List.mem_append_right _ h)) hown hK hP 0 rfl rfl 9 (by decide) (hts (.fieldLink RX12 22 "LeftArgumentsModel" "clauses" "[I") (List.mem_cons_of_mem _ (List.mem_append_left _ (List.mem_of_getElem? (i := 1) rfl)))) (fun _ h9 => h9) rfl dX12_clause_267 ?_
              refine lv_aload_n hx hb dX12_clause_270 rfl (lv_at hl 2 rfl) ?_
              refine va_get (D := (dC, dI)) (ci := 12) (v := .int v4) (C := RX12) (T := TX12) (N := 48) hx hb hts (fun _ h => List.mem_cons_of_mem _ (List.mem_append_right _ h)) hown hK hP 0 rfl rfl 14 (by decide) (hts (.fieldLink RX12 122 "LeftArgumentsModel" "text" "I") (List.mem_cons_of_mem _ (List.mem_append_left _ (List.mem_of_getElem? (i := 0) rfl)))) (fun _ h9 => h9) rfl dX12_clause_271 ?_
              refine lv_dup2_11 hx hb dX12_clause_274 rfl rfl ?_
              refine va_iald hx hb hK hP 5 4 rfl rfl (vp_in_iff.mpr ⟨by omega, by omega⟩) dX12_clause_275 ?_
              refine lv_topi (fun t49 et49 => ?_)
              have gmt49 : t49.toInt = t2.toInt := by rw [et49, et2]
              have hqt49 : t49.toInt = pm_x f22 v4 := by rw [et49]; rfl
              have gqt49 : 0 ≤ t49.toInt ∧ t49.toInt ≤ 120 := by constructor <;> omega
              refine lv_iconst (v := 1) hx hb dX12_clause_276 (by decide) ?_
              refine lv_iadd hx hb dX12_clause_277 ?_
              refine lv_topi (fun t50 et50 => ?_)
              have gt50 : t50.toInt = t49.toInt + 1 := pv_add (a := t49.toInt) (b := 1) et50 rfl (by decide) (by omega) (by omega)
              refine va_iast hx hb hK hP hD hS 5 4 rfl rfl (vp_in_iff.mpr ⟨by omega, by omega⟩) dX12_clause_278 (fun H locs hP hD hS => ?_)
              obtain ⟨fn51, efn51⟩ : ∃ g : Nat → Int32, g = upd f22 (Int32.toNatClampNeg v4) t50 := ⟨_, rfl⟩
              rw [← efn51] at hP hD
              have hP : va_P (dC, dI) vwCl (wd_d5ef5423 h0 v0 h1 v1 x37 x38 x39 h2 h3 h4 h5 h6 h7 h8 v3 v4 r0 r1 r2 r3 v5 r4 r5 v6 v7 r6 r7 v8 v9 r8 v10 v11 r9 v12 w13 r10 v14 v15 r11 r12 r13 r14 r15 r16 v16 r17 r18 r19 v17 h1 g0 f18 h2 g1 fn40 h3 g2 fn41 h4 g3 fn42 h5 g4 fn51 h6 g5 fn25 h7 g6 fn45 h8 g7 fn48) H := hP
              have hD : va_D A (wd_d5ef5423 h0 v0 h1 v1 x37 x38 x39 h2 h3 h4 h5 h6 h7 h8 v3 v4 r0 r1 r2 r3 v5 r4 r5 v6 v7 r6 r7 v8 v9 r8 v10 v11 r9 v12 w13 r10 v14 v15 r11 r12 r13 r14 r15 r16 v16 r17 r18 r19 v17 h1 g0 f18 h2 g1 fn40 h3 g2 fn41 h4 g3 fn42 h5 g4 fn51 h6 g5 fn25 h7 g6 fn45 h8 g7 fn48) := hD
              have ho4 : ∀ j : Nat, ¬ j = Int32.toNatClampNeg v4 → fn51 j = f22 j := fun j h9 => by rw [efn51, pk_un h9]
              have hk4 : pm_x fn51 v4 = pm_x f22 v4 + 1 := by rw [efn51]; show (upd _ _ _ _).toInt = _; rw [pk_us]; omega
              subst hQ
              have hP9 := hP.sub (ws' := (wd_d5ef5423 h0 v0 h1 v1 x37 x38 x39 h2 h3 h4 h5 h6 h7 h8 v3 v4 r0 r1 r2 r3 v5 r4 r5 v6 v7 r6 r7 v8 v9 r8 v10 v11 r9 v12 w13 r10 v14 v15 r11 r12 r13 r14 r15 r16 v16 r17 r18 r19 v17 h1 g0 f18 h2 g1 fn40 h3 g2 fn41 h4 g3 fn42 h5 g4 fn51 h6 g5 fn25 h7 g6 fn45 h8 g7 fn48)) [0, 1, 2, 3, 4, 5, 6, 7, 8] rfl
              have hD9 := hD.sub (ws' := (wd_d5ef5423 h0 v0 h1 v1 x37 x38 x39 h2 h3 h4 h5 h6 h7 h8 v3 v4 r0 r1 r2 r3 v5 r4 r5 v6 v7 r6 r7 v8 v9 r8 v10 v11 r9 v12 w13 r10 v14 v15 r11 r12 r13 r14 r15 r16 v16 r17 r18 r19 v17 h1 g0 f18 h2 g1 fn40 h3 g2 fn41 h4 g3 fn42 h5 g4 fn51 h6 g5 fn25 h7 g6 fn45 h8 g7 fn48)) [0, 1, 2, 3, 4, 5, 6, 7, 8] (by decide) rfl
              have hK9 := hK.sub (tys' := []) [] rfl
              exact W.vret hx hb hr (fun t ht hW => ⟨⟨(), rfl, trivial, Or.inr (⟨x37, x38, x39, fn40, fn41, fn42, fn51, fn25, fn45, fn48, by first | omega | decide, by first | omega | decide, by first | omega | decide, by first | omega | decide, by exact pm_Oth.mk hgF ho1 ho2 ho3 ho4 (by omega) (by omega) (by omega) (by omega), by rw [ht]; exact hP9, va_K.moved hW.alike hK9, hD9⟩)⟩, hS.F ht⟩) hS.2.2 dX12_clause_279
            refine lv_iload_n hx hb dX12_clause_129 rfl (lv_at hl 0 rfl) ?_
            refine lv_if_eq (tgt := 140) hx hb dX12_clause_130 (by decide) (fun _ => ?_) (fun c => absurd (by decide) c)
            refine lv_aload_n hx hb dX12_clause_140 rfl (lv_at hl 2 rfl) ?_
            have hPc := hP.sub (ws' := (wd_d906eaf1 h0 v0 h1 v1 x26 (-1) 0 h2 h3 h4 h5 h6 h7 h8 v3 v4 r0 r1 r2 r3 v5 r4 r5 v6 v7 r6 r7 v8 v9 r8 v10 v11 r9 v12 w13 r10 v14 v15 r11 r12 r13 r14 r15 r16 v16 r17 r18 r19 v17 h1 g0 f18 h2 g1 f19 h3 g2 f20 h4 g3 f21)) [0, 1, 2, 3, 4] rfl
            have hDc := hD.sub (ws' := (wd_d906eaf1 h0 v0 h1 v1 x26 (-1) 0 h2 h3 h4 h5 h6 h7 h8 v3 v4 r0 r1 r2 r3 v5 r4 r5 v6 v7 r6 r7 v8 v9 r8 v10 v11 r9 v12 w13 r10 v14 v15 r11 r12 r13 r14 r15 r16 v16 r17 r18 r19 v17 h1 g0 f18 h2 g1 f19 h3 g2 f20 h4 g3 f21)) [0, 1, 2, 3, 4] (by decide) rfl
            have hKc := hK.sub (tys' := [(g0, .int), (g1, .int), (g2, .int), (g3, .int)]) [0, 1, 2, 3] rfl
            have hFc := va_free (wc := (wd_d906eaf1 h0 v0 h1 v1 x26 (-1) 0 h2 h3 h4 h5 h6 h7 h8 v3 v4 r0 r1 r2 r3 v5 r4 r5 v6 v7 r6 r7 v8 v9 r8 v10 v11 r9 v12 w13 r10 v14 v15 r11 r12 r13 r14 r15 r16 v16 r17 r18 r19 v17 h1 g0 f18 h2 g1 f19 h3 g2 f20 h4 g3 f21)) hD hS hA [0, 1, 2, 3, 4] rfl
            refine va_callv (va_runV (As := []) (rest := []) ⟨hx, hb, hml, hown, hts⟩ (k_X12_sum_6 l dC dI h0 h1 h2 h3 h4 v0 v1 x26 h5 h6 h7 h8 v3 v4 r0 r1 r2 r3 v5 r4 r5 v6 v7 r6 r7 v8 v9 r8 v10 v11 r9 v12 w13 r10 v14 v15 r11 r12 r13 r14 r15 r16 v16 r17 r18 r19 v17 g0 f18 g1 f19 g2 f20 g3 f21 ⟨by first | omega | decide, by first | omega | decide⟩ ⟨by first | omega | decide, by first | omega | decide⟩ ⟨by first | omega | decide, by first | omega | decide⟩ ⟨by first | omega | decide, by first | omega | decide⟩ ⟨by first | omega | decide, by first | omega | decide⟩ ⟨by first | omega | decide, by first | omega | decide⟩ ⟨by first | omega | decide, by first | omega | decide⟩ ⟨by first | omega | decide, by first | omega | decide⟩ ⟨by first | omega | decide, by first | omega | decide⟩ ⟨by first | omega | decide, by first | omega | decide⟩ ⟨by first | omega | decide, by first | omega | decide⟩ ia_f18 (by constructor <;> omega) H.size) (cwV 0 hts g_X12_clause_4 rfl rfl rfl (by decide +kernel) ⟨Nat.le_of_ble_eq_true rfl, Nat.le_of_ble_eq_true rfl⟩) ⟨fun a U g mk q => by obtain ⟨q0, q1, qP, qK, qD⟩ := q; exact ⟨q0, q1, qP, va_K.moved (u := U) (U := U.calling g mk a) (Vm.Alike.refl U.vm) qK, qD⟩, va_recv hKc hPc (ci := 12) (q0 := 0) rfl rfl, fun U hU hW => ⟨rfl, by rw [hU], by rw [hU]; exact hPc, va_K.moved hW.alike hKc, hDc.weaken (fun _ _ _ _ => trivial)⟩⟩ rfl rfl hl.1 rfl (lv_room (Nat.le_of_ble_eq_true rfl)) dX12_clause_141 ⟨Nat.le_of_ble_eq_true rfl, Nat.le_of_ble_eq_true rfl⟩) hS (fun q _ h => hFc q h) hFc (fun u t H1 locs ht hvm hwra52 hB hz1 hk1 hS => ?_)
            rcases hB with hB | hB
            · skip
              obtain ⟨x53, fn54, fn55, fn56, oa_x53, ob_x53, pt0_ra52, pt1_ra52, hP1, hK1, hD1⟩ := hB
              rw [ht] at hP1
              obtain ⟨hP, hD⟩ := va_join (wr := (wd_9ed5f2f7 h5 g4 f22 h6 g5 fn25 h7 g6 f24 h8 g7 f25)) (w1 := (wd_d906eaf1 h0 v0 h1 v1 x53 (-1) 0 h2 h3 h4 h5 h6 h7 h8 v3 v4 r0 r1 r2 r3 v5 r4 r5 v6 v7 r6 r7 v8 v9 r8 v10 v11 r9 v12 w13 r10 v14 v15 r11 r12 r13 r14 r15 r16 v16 r17 r18 r19 v17 h1 g0 f18 h2 g1 fn54 h3 g2 fn55 h4 g3 fn56)) hP hD [0, 1, 2, 3, 4] [5, 6, 7, 8] rfl rfl (by decide) (by decide) hk1 hFc hP1 hD1
              generalize H1 = H at hP hS ⊢
              have hP := hP.sub (ws' := (wd_d5ef5423 h0 v0 h1 v1 x53 (-1) 0 h2 h3 h4 h5 h6 h7 h8 v3 v4 r0 r1 r2 r3 v5 r4 r5 v6 v7 r6 r7 v8 v9 r8 v10 v11 r9 v12 w13 r10 v14 v15 r11 r12 r13 r14 r15 r16 v16 r17 r18 r19 v17 h1 g0 f18 h2 g1 fn54 h3 g2 fn55 h4 g3 fn56 h5 g4 f22 h6 g5 fn25 h7 g6 f24 h8 g7 f25)) [4, 5, 6, 7, 8, 0, 1, 2, 3] rfl
              have hD := hD.sub (ws' := (wd_d5ef5423 h0 v0 h1 v1 x53 (-1) 0 h2 h3 h4 h5 h6 h7 h8 v3 v4 r0 r1 r2 r3 v5 r4 r5 v6 v7 r6 r7 v8 v9 r8 v10 v11 r9 v12 w13 r10 v14 v15 r11 r12 r13 r14 r15 r16 v16 r17 r18 r19 v17 h1 g0 f18 h2 g1 fn54 h3 g2 fn55 h4 g3 fn56 h5 g4 f22 h6 g5 fn25 h7 g6 f24 h8 g7 f25)) [4, 5, 6, 7, 8, 0, 1, 2, 3] (by decide) rfl
              have hP : va_P (dC, dI) vwCl (wd_d5ef5423 h0 v0 h1 v1 x53 (-1) 0 h2 h3 h4 h5 h6 h7 h8 v3 v4 r0 r1 r2 r3 v5 r4 r5 v6 v7 r6 r7 v8 v9 r8 v10 v11 r9 v12 w13 r10 v14 v15 r11 r12 r13 r14 r15 r16 v16 r17 r18 r19 v17 h1 g0 f18 h2 g1 fn54 h3 g2 fn55 h4 g3 fn56 h5 g4 f22 h6 g5 fn25 h7 g6 f24 h8 g7 f25) H := hP
              have hD : va_D A (wd_d5ef5423 h0 v0 h1 v1 x53 (-1) 0 h2 h3 h4 h5 h6 h7 h8 v3 v4 r0 r1 r2 r3 v5 r4 r5 v6 v7 r6 r7 v8 v9 r8 v10 v11 r9 v12 w13 r10 v14 v15 r11 r12 r13 r14 r15 r16 v16 r17 r18 r19 v17 h1 g0 f18 h2 g1 fn54 h3 g2 fn55 h4 g3 fn56 h5 g4 f22 h6 g5 fn25 h7 g6 f24 h8 g7 f25) := hD
              have hgR := hgR.app (k' := 1) (D := 15) pt1_ra52 (by decide) (by decide) (by decide) (by decide)
              have hgF := hgR.1
              have hxl := hgF.1
              refine lv_aload_n hx hb dX12_clause_144 rfl (lv_at hl 2 rfl) ?_
              refine va_get (D := (dC, dI)) (ci := 12) (v := .int (-1)) (C := RX12) (T := TX12) (N := 48) hx hb hts (fun _ h => List.mem_cons_of_mem _ (List.mem_append_right _ h)) hown hK hP 0 rfl rfl 4 (by decide) (hts (.fieldLink RX12 119 "LeftArgumentsModel" "wrong" "I") (List.mem_cons_of_mem _ (List.mem_append_left _ (List.mem_of_getElem? (i := 2) rfl)))) (fun _ h9 => h9) rfl dX12_clause_145 ?_
              refine lv_iconst (v := (-1)) hx hb dX12_clause_148 (by decide) ?_
              refine lv_icmp_ne (tgt := 166) hx hb dX12_clause_149 (by decide) (fun c => absurd (by decide) c) (fun _ => ?_)
              refine lv_aload_n hx hb dX12_clause_152 rfl (lv_at hl 2 rfl) ?_
              have hPc := hP.sub (ws' := (wd_f4cd022e h0 v0 h1 v1 x53 (-1) 0 h2 h3 h4 h5 h6 h7 h8 v3 v4 r0 r1 r2 r3 v5 r4 r5 v6 v7 r6 r7 v8 v9 r8 v10 v11 r9 v12 w13 r10 v14 v15 r11 r12 r13 r14 r15 r16 v16 r17 r18 r19 v17 h1 g0 f18)) [0, 1] rfl
              have hDc := hD.sub (ws' := (wd_f4cd022e h0 v0 h1 v1 x53 (-1) 0 h2 h3 h4 h5 h6 h7 h8 v3 v4 r0 r1 r2 r3 v5 r4 r5 v6 v7 r6 r7 v8 v9 r8 v10 v11 r9 v12 w13 r10 v14 v15 r11 r12 r13 r14 r15 r16 v16 r17 r18 r19 v17 h1 g0 f18)) [0, 1] (by decide) rfl
              have hKc := hK.sub (tys' := [(g0, .int)]) [0] rfl
              have hFc := va_free (wc := (wd_f4cd022e h0 v0 h1 v1 x53 (-1) 0 h2 h3 h4 h5 h6 h7 h8 v3 v4 r0 r1 r2 r3 v5 r4 r5 v6 v7 r6 r7 v8 v9 r8 v10 v11 r9 v12 w13 r10 v14 v15 r11 r12 r13 r14 r15 r16 v16 r17 r18 r19 v17 h1 g0 f18)) hD hS hA [0, 1] rfl
              refine va_calli (va_runV (As := []) (rest := []) ⟨hx, hb, hml, hown, hts⟩ (k_X12_look l dC dI h0 h1 v0 v1 x53 ((-1)) 0 h2 h3 h4 h5 h6 h7 h8 v3 v4 r0 r1 r2 r3 v5 r4 r5 v6 v7 r6 r7 v8 v9 r8 v10 v11 r9 v12 w13 r10 v14 v15 r11 r12 r13 r14 r15 r16 v16 r17 r18 r19 v17 g0 f18 ⟨by first | omega | decide, by first | omega | decide⟩ ⟨by first | omega | decide, by first | omega | decide⟩ ⟨by first | omega | decide, by first | omega | decide⟩ ⟨by first | omega | decide, by first | omega | decide⟩ ⟨by first | omega | decide, by first | omega | decide⟩ ⟨by first | omega | decide, by first | omega | decide⟩ ⟨by first | omega | decide, by first | omega | decide⟩ ⟨by first | omega | decide, by first | omega | decide⟩ ⟨by first | omega | decide, by first | omega | decide⟩ ⟨by first | omega | decide, by first | omega | decide⟩ ⟨by first | omega | decide, by first | omega | decide⟩ ia_f18 H.size) (cwV 0 hts g_X12_clause_0 rfl rfl rfl (by decide +kernel) ⟨Nat.le_of_ble_eq_true rfl, Nat.le_of_ble_eq_true rfl⟩) ⟨fun a U g mk q => by obtain ⟨q0, q1, qP, qK, qD⟩ := q; exact ⟨q0, q1, qP, va_K.moved (u := U) (U := U.calling g mk a) (Vm.Alike.refl U.vm) qK, qD⟩, va_recv hKc hPc (ci := 12) (q0 := 0) rfl rfl, fun U hU hW => ⟨rfl, by rw [hU], by rw [hU]; exact hPc, va_K.moved hW.alike hKc, hDc.weaken (fun _ _ _ _ => trivial)⟩⟩ rfl rfl hl.1 rfl (lv_room (Nat.le_of_ble_eq_true rfl)) dX12_clause_153 ⟨Nat.le_of_ble_eq_true rfl, Nat.le_of_ble_eq_true rfl⟩) hS (fun q _ h => hFc q h) hFc (fun ra57 u t H1 locs ht hvm hwra57 hB hz1 hk1 hS => ?_)
              try rw [hwra57] at hB
              have hkra57_0 : (((-1) : Int32)).toInt = -1 := by decide
              have hkra57_1 : ((0 : Int32)).toInt = 0 := by decide
              rcases hB with hB | hB
              · skip
                obtain ⟨x58, oa_x58, ob_x58, pt0_ra57, pt1_ra57, pt2_ra57, pt3_ra57, hP1, hK1, hD1⟩ := hB
                rw [ht] at hP1
                obtain ⟨hP, hD⟩ := va_join (wr := (wd_55284813 h2 g1 fn54 h3 g2 fn55 h4 g3 fn56 h5 g4 f22 h6 g5 fn25 h7 g6 f24 h8 g7 f25)) (w1 := (wd_f4cd022e h0 v0 h1 v1 x58 (-1) 0 h2 h3 h4 h5 h6 h7 h8 v3 v4 r0 r1 r2 r3 v5 r4 r5 v6 v7 r6 r7 v8 v9 r8 v10 v11 r9 v12 w13 r10 v14 v15 r11 r12 r13 r14 r15 r16 v16 r17 r18 r19 v17 h1 g0 f18)) hP hD [0, 1] [2, 3, 4, 5, 6, 7, 8] rfl rfl (by decide) (by decide) hk1 hFc hP1 hD1
                generalize H1 = H at hP hS ⊢
                have hP := hP.sub (ws' := (wd_d5ef5423 h0 v0 h1 v1 x58 (-1) 0 h2 h3 h4 h5 h6 h7 h8 v3 v4 r0 r1 r2 r3 v5 r4 r5 v6 v7 r6 r7 v8 v9 r8 v10 v11 r9 v12 w13 r10 v14 v15 r11 r12 r13 r14 r15 r16 v16 r17 r18 r19 v17 h1 g0 f18 h2 g1 fn54 h3 g2 fn55 h4 g3 fn56 h5 g4 f22 h6 g5 fn25 h7 g6 f24 h8 g7 f25)) [7, 8, 0, 1, 2, 3, 4, 5, 6] rfl
                have hD := hD.sub (ws' := (wd_d5ef5423 h0 v0 h1 v1 x58 (-1) 0 h2 h3 h4 h5 h6 h7 h8 v3 v4 r0 r1 r2 r3 v5 r4 r5 v6 v7 r6 r7 v8 v9 r8 v10 v11 r9 v12 w13 r10 v14 v15 r11 r12 r13 r14 r15 r16 v16 r17 r18 r19 v17 h1 g0 f18 h2 g1 fn54 h3 g2 fn55 h4 g3 fn56 h5 g4 f22 h6 g5 fn25 h7 g6 f24 h8 g7 f25)) [7, 8, 0, 1, 2, 3, 4, 5, 6] (by decide) rfl
                have hP : va_P (dC, dI) vwCl (wd_d5ef5423 h0 v0 h1 v1 x58 (-1) 0 h2 h3 h4 h5 h6 h7 h8 v3 v4 r0 r1 r2 r3 v5 r4 r5 v6 v7 r6 r7 v8 v9 r8 v10 v11 r9 v12 w13 r10 v14 v15 r11 r12 r13 r14 r15 r16 v16 r17 r18 r19 v17 h1 g0 f18 h2 g1 fn54 h3 g2 fn55 h4 g3 fn56 h5 g4 f22 h6 g5 fn25 h7 g6 f24 h8 g7 f25) H := hP
                have hD : va_D A (wd_d5ef5423 h0 v0 h1 v1 x58 (-1) 0 h2 h3 h4 h5 h6 h7 h8 v3 v4 r0 r1 r2 r3 v5 r4 r5 v6 v7 r6 r7 v8 v9 r8 v10 v11 r9 v12 w13 r10 v14 v15 r11 r12 r13 r14 r15 r16 v16 r17 r18 r19 v17 h1 g0 f18 h2 g1 fn54 h3 g2 fn55 h4 g3 fn56 h5 g4 f22 h6 g5 fn25 h7 g6 f24 h8 g7 f25) := hD
                obtain rfl : ra57 = ((-1) : Int32) := Int32.toInt_inj.mp (by rw [show (((-1) : Int32)).toInt = -1 by decide]; omega)
                have hPc := hP.sub (ws' := []) [] rfl
                have hDc := hD.sub (ws' := []) [] (by decide) rfl
                have hKc := hK.sub (tys' := []) [] rfl
                have hFc := va_free (wc := []) hD hS hA [] rfl
                refine va_calli (va_runS (As := [.int (-1)]) (rest := []) ⟨hx, hb, hml, hown, hts⟩ (k_X12_isSign l dC dI ((-1))  H.size) (va_cwS 1 hts g_X12_clause_6 rfl rfl rfl (by decide +kernel) ⟨Nat.le_of_ble_eq_true rfl, Nat.le_of_ble_eq_true rfl⟩) ⟨fun a U g mk q => by obtain ⟨q0, q1, qP, qK, qD⟩ := q; exact ⟨q0, q1, qP, va_K.moved (u := U) (U := U.calling g mk a) (Vm.Alike.refl U.vm) qK, qD⟩, fun U hU hW => ⟨rfl, by rw [hU], by rw [hU]; exact hPc, va_K.moved hW.alike hKc, hDc.weaken (fun _ _ _ _ => trivial)⟩⟩ rfl rfl hl.1 rfl (lv_room (Nat.le_of_ble_eq_true rfl)) dX12_clause_156 ⟨Nat.le_of_ble_eq_true rfl, Nat.le_of_ble_eq_true rfl⟩) hS (fun q _ h => hFc q h) hFc (fun ra59 u t H1 locs ht hvm hwra59 hB hz1 hk1 hS => ?_)
                try rw [hwra59] at hB
                have hkra59_0 : (((-1) : Int32)).toInt = -1 := by decide
                obtain ⟨pt0_ra59, pt1_ra59, pt2_ra59, pt3_ra59, hP1, hK1, hD1⟩ := hB
                rw [ht] at hP1
                obtain ⟨hP, hD⟩ := va_join (wr := (wd_d5ef5423 h0 v0 h1 v1 x58 (-1) 0 h2 h3 h4 h5 h6 h7 h8 v3 v4 r0 r1 r2 r3 v5 r4 r5 v6 v7 r6 r7 v8 v9 r8 v10 v11 r9 v12 w13 r10 v14 v15 r11 r12 r13 r14 r15 r16 v16 r17 r18 r19 v17 h1 g0 f18 h2 g1 fn54 h3 g2 fn55 h4 g3 fn56 h5 g4 f22 h6 g5 fn25 h7 g6 f24 h8 g7 f25)) (w1 := []) hP hD [] [0, 1, 2, 3, 4, 5, 6, 7, 8] rfl rfl (by decide) (by decide) hk1 hFc hP1 hD1
                generalize H1 = H at hP hS ⊢
                have hP : va_P (dC, dI) vwCl (wd_d5ef5423 h0 v0 h1 v1 x58 (-1) 0 h2 h3 h4 h5 h6 h7 h8 v3 v4 r0 r1 r2 r3 v5 r4 r5 v6 v7 r6 r7 v8 v9 r8 v10 v11 r9 v12 w13 r10 v14 v15 r11 r12 r13 r14 r15 r16 v16 r17 r18 r19 v17 h1 g0 f18 h2 g1 fn54 h3 g2 fn55 h4 g3 fn56 h5 g4 f22 h6 g5 fn25 h7 g6 f24 h8 g7 f25) H := hP
                have hD : va_D A (wd_d5ef5423 h0 v0 h1 v1 x58 (-1) 0 h2 h3 h4 h5 h6 h7 h8 v3 v4 r0 r1 r2 r3 v5 r4 r5 v6 v7 r6 r7 v8 v9 r8 v10 v11 r9 v12 w13 r10 v14 v15 r11 r12 r13 r14 r15 r16 v16 r17 r18 r19 v17 h1 g0 f18 h2 g1 fn54 h3 g2 fn55 h4 g3 fn56 h5 g4 f22 h6 g5 fn25 h7 g6 f24 h8 g7 f25) := hD
                refine lv_if_eq (tgt := 166) hx hb dX12_clause_159 (by decide) (fun c60 => ?_) (fun c60 => ?_)
                · skip
                  have fc60 : ra59.toInt = 0 := congrArg Int32.toInt c60
                  refine lv_iconst (v := 0) hx hb dX12_clause_166 (by decide) ?_
                  refine lv_istore_n (lv' := [(2, .int 0), (1, .int t3), (0, .ref h0)]) hx hb dX12_clause_167 rfl hl (by decide) rfl (fun ls hl => ?_)
                  refine lv_iload_n hx hb dX12_clause_168 rfl (lv_at hl 0 rfl) ?_
                  refine lv_if_eq (tgt := 184) hx hb dX12_clause_169 (by decide) (fun _ => ?_) (fun c => absurd (by decide) c)
                  exact hJ29 x58 H locs ls (by first | omega | decide) (by first | omega | decide) (by constructor <;> omega) (by exact hgR.mono (by decide)) hP hD hS (lv_sub hl [0, 1, 2] rfl)
                · skip
                  have fc60 : ¬ (ra59.toInt = 0) := fun h9 => c60 (Int32.toInt_inj.mp h9)
                  exfalso; omega
              · skip
                obtain ⟨x61, oa_x61, ob_x61, pt0_ra57, pt1_ra57, pt2_ra57, pt3_ra57, pt4_ra57, hP1, hK1, hD1⟩ := hB
                rw [ht] at hP1
                obtain ⟨hP, hD⟩ := va_join (wr := (wd_55284813 h2 g1 fn54 h3 g2 fn55 h4 g3 fn56 h5 g4 f22 h6 g5 fn25 h7 g6 f24 h8 g7 f25)) (w1 := (wd_f4cd022e h0 v0 h1 v1 x61 (-1) 0 h2 h3 h4 h5 h6 h7 h8 v3 v4 r0 r1 r2 r3 v5 r4 r5 v6 v7 r6 r7 v8 v9 r8 v10 v11 r9 v12 w13 r10 v14 v15 r11 r12 r13 r14 r15 r16 v16 r17 r18 r19 v17 h1 g0 f18)) hP hD [0, 1] [2, 3, 4, 5, 6, 7, 8] rfl rfl (by decide) (by decide) hk1 hFc hP1 hD1
                generalize H1 = H at hP hS ⊢
                have hP := hP.sub (ws' := (wd_d5ef5423 h0 v0 h1 v1 x61 (-1) 0 h2 h3 h4 h5 h6 h7 h8 v3 v4 r0 r1 r2 r3 v5 r4 r5 v6 v7 r6 r7 v8 v9 r8 v10 v11 r9 v12 w13 r10 v14 v15 r11 r12 r13 r14 r15 r16 v16 r17 r18 r19 v17 h1 g0 f18 h2 g1 fn54 h3 g2 fn55 h4 g3 fn56 h5 g4 f22 h6 g5 fn25 h7 g6 f24 h8 g7 f25)) [7, 8, 0, 1, 2, 3, 4, 5, 6] rfl
                have hD := hD.sub (ws' := (wd_d5ef5423 h0 v0 h1 v1 x61 (-1) 0 h2 h3 h4 h5 h6 h7 h8 v3 v4 r0 r1 r2 r3 v5 r4 r5 v6 v7 r6 r7 v8 v9 r8 v10 v11 r9 v12 w13 r10 v14 v15 r11 r12 r13 r14 r15 r16 v16 r17 r18 r19 v17 h1 g0 f18 h2 g1 fn54 h3 g2 fn55 h4 g3 fn56 h5 g4 f22 h6 g5 fn25 h7 g6 f24 h8 g7 f25)) [7, 8, 0, 1, 2, 3, 4, 5, 6] (by decide) rfl
                have hP : va_P (dC, dI) vwCl (wd_d5ef5423 h0 v0 h1 v1 x61 (-1) 0 h2 h3 h4 h5 h6 h7 h8 v3 v4 r0 r1 r2 r3 v5 r4 r5 v6 v7 r6 r7 v8 v9 r8 v10 v11 r9 v12 w13 r10 v14 v15 r11 r12 r13 r14 r15 r16 v16 r17 r18 r19 v17 h1 g0 f18 h2 g1 fn54 h3 g2 fn55 h4 g3 fn56 h5 g4 f22 h6 g5 fn25 h7 g6 f24 h8 g7 f25) H := hP
                have hD : va_D A (wd_d5ef5423 h0 v0 h1 v1 x61 (-1) 0 h2 h3 h4 h5 h6 h7 h8 v3 v4 r0 r1 r2 r3 v5 r4 r5 v6 v7 r6 r7 v8 v9 r8 v10 v11 r9 v12 w13 r10 v14 v15 r11 r12 r13 r14 r15 r16 v16 r17 r18 r19 v17 h1 g0 f18 h2 g1 fn54 h3 g2 fn55 h4 g3 fn56 h5 g4 f22 h6 g5 fn25 h7 g6 f24 h8 g7 f25) := hD
                have hPc := hP.sub (ws' := []) [] rfl
                have hDc := hD.sub (ws' := []) [] (by decide) rfl
                have hKc := hK.sub (tys' := []) [] rfl
                have hFc := va_free (wc := []) hD hS hA [] rfl
                refine va_calli (va_runS (As := [.int ra57]) (rest := []) ⟨hx, hb, hml, hown, hts⟩ (k_X12_isSign l dC dI ra57  H.size) (va_cwS 1 hts g_X12_clause_6 rfl rfl rfl (by decide +kernel) ⟨Nat.le_of_ble_eq_true rfl, Nat.le_of_ble_eq_true rfl⟩) ⟨fun a U g mk q => by obtain ⟨q0, q1, qP, qK, qD⟩ := q; exact ⟨q0, q1, qP, va_K.moved (u := U) (U := U.calling g mk a) (Vm.Alike.refl U.vm) qK, qD⟩, fun U hU hW => ⟨rfl, by rw [hU], by rw [hU]; exact hPc, va_K.moved hW.alike hKc, hDc.weaken (fun _ _ _ _ => trivial)⟩⟩ rfl rfl hl.1 rfl (lv_room (Nat.le_of_ble_eq_true rfl)) dX12_clause_156 ⟨Nat.le_of_ble_eq_true rfl, Nat.le_of_ble_eq_true rfl⟩) hS (fun q _ h => hFc q h) hFc (fun ra62 u t H1 locs ht hvm hwra62 hB hz1 hk1 hS => ?_)
                try rw [hwra62] at hB
                obtain ⟨pt0_ra62, pt1_ra62, pt2_ra62, pt3_ra62, hP1, hK1, hD1⟩ := hB
                rw [ht] at hP1
                obtain ⟨hP, hD⟩ := va_join (wr := (wd_d5ef5423 h0 v0 h1 v1 x61 (-1) 0 h2 h3 h4 h5 h6 h7 h8 v3 v4 r0 r1 r2 r3 v5 r4 r5 v6 v7 r6 r7 v8 v9 r8 v10 v11 r9 v12 w13 r10 v14 v15 r11 r12 r13 r14 r15 r16 v16 r17 r18 r19 v17 h1 g0 f18 h2 g1 fn54 h3 g2 fn55 h4 g3 fn56 h5 g4 f22 h6 g5 fn25 h7 g6 f24 h8 g7 f25)) (w1 := []) hP hD [] [0, 1, 2, 3, 4, 5, 6, 7, 8] rfl rfl (by decide) (by decide) hk1 hFc hP1 hD1
                generalize H1 = H at hP hS ⊢
                have hP : va_P (dC, dI) vwCl (wd_d5ef5423 h0 v0 h1 v1 x61 (-1) 0 h2 h3 h4 h5 h6 h7 h8 v3 v4 r0 r1 r2 r3 v5 r4 r5 v6 v7 r6 r7 v8 v9 r8 v10 v11 r9 v12 w13 r10 v14 v15 r11 r12 r13 r14 r15 r16 v16 r17 r18 r19 v17 h1 g0 f18 h2 g1 fn54 h3 g2 fn55 h4 g3 fn56 h5 g4 f22 h6 g5 fn25 h7 g6 f24 h8 g7 f25) H := hP
                have hD : va_D A (wd_d5ef5423 h0 v0 h1 v1 x61 (-1) 0 h2 h3 h4 h5 h6 h7 h8 v3 v4 r0 r1 r2 r3 v5 r4 r5 v6 v7 r6 r7 v8 v9 r8 v10 v11 r9 v12 w13 r10 v14 v15 r11 r12 r13 r14 r15 r16 v16 r17 r18 r19 v17 h1 g0 f18 h2 g1 fn54 h3 g2 fn55 h4 g3 fn56 h5 g4 f22 h6 g5 fn25 h7 g6 f24 h8 g7 f25) := hD
                refine lv_if_eq (tgt := 166) hx hb dX12_clause_159 (by decide) (fun c63 => ?_) (fun c63 => ?_)
                · skip
                  have fc63 : ra62.toInt = 0 := congrArg Int32.toInt c63
                  refine lv_iconst (v := 0) hx hb dX12_clause_166 (by decide) ?_
                  refine lv_istore_n (lv' := [(2, .int 0), (1, .int t3), (0, .ref h0)]) hx hb dX12_clause_167 rfl hl (by decide) rfl (fun ls hl => ?_)
                  refine lv_iload_n hx hb dX12_clause_168 rfl (lv_at hl 0 rfl) ?_
                  refine lv_if_eq (tgt := 184) hx hb dX12_clause_169 (by decide) (fun _ => ?_) (fun c => absurd (by decide) c)
                  exact hJ29 x61 H locs ls (by first | omega | decide) (by first | omega | decide) (by constructor <;> omega) (by exact hgR.mono (by decide)) hP hD hS (lv_sub hl [0, 1, 2] rfl)
                · skip
                  have fc63 : ¬ (ra62.toInt = 0) := fun h9 => c63 (Int32.toInt_inj.mp h9)
                  refine lv_iconst (v := 1) hx hb dX12_clause_162 (by decide) ?_
                  refine lv_goto (tgt := 167) hx hb dX12_clause_163 (by decide) ?_
                  refine lv_istore_n (lv' := [(2, .int 1), (1, .int t3), (0, .ref h0)]) hx hb dX12_clause_167 rfl hl (by decide) rfl (fun ls hl => ?_)
                  refine lv_iload_n hx hb dX12_clause_168 rfl (lv_at hl 0 rfl) ?_
                  refine lv_if_eq (tgt := 184) hx hb dX12_clause_169 (by decide) (fun c => absurd c (by decide)) (fun _ => ?_)
                  refine lv_aload_n hx hb dX12_clause_172 rfl (lv_at hl 2 rfl) ?_
                  have hPc := hP.sub (ws' := (wd_d906eaf1 h0 v0 h1 v1 x61 (-1) 0 h2 h3 h4 h5 h6 h7 h8 v3 v4 r0 r1 r2 r3 v5 r4 r5 v6 v7 r6 r7 v8 v9 r8 v10 v11 r9 v12 w13 r10 v14 v15 r11 r12 r13 r14 r15 r16 v16 r17 r18 r19 v17 h1 g0 f18 h2 g1 fn54 h3 g2 fn55 h4 g3 fn56)) [0, 1, 2, 3, 4] rfl
                  have hDc := hD.sub (ws' := (wd_d906eaf1 h0 v0 h1 v1 x61 (-1) 0 h2 h3 h4 h5 h6 h7 h8 v3 v4 r0 r1 r2 r3 v5 r4 r5 v6 v7 r6 r7 v8 v9 r8 v10 v11 r9 v12 w13 r10 v14 v15 r11 r12 r13 r14 r15 r16 v16 r17 r18 r19 v17 h1 g0 f18 h2 g1 fn54 h3 g2 fn55 h4 g3 fn56)) [0, 1, 2, 3, 4] (by decide) rfl
                  have hKc := hK.sub (tys' := [(g0, .int), (g1, .int), (g2, .int), (g3, .int)]) [0, 1, 2, 3] rfl
                  have hFc := va_free (wc := (wd_d906eaf1 h0 v0 h1 v1 x61 (-1) 0 h2 h3 h4 h5 h6 h7 h8 v3 v4 r0 r1 r2 r3 v5 r4 r5 v6 v7 r6 r7 v8 v9 r8 v10 v11 r9 v12 w13 r10 v14 v15 r11 r12 r13 r14 r15 r16 v16 r17 r18 r19 v17 h1 g0 f18 h2 g1 fn54 h3 g2 fn55 h4 g3 fn56)) hD hS hA [0, 1, 2, 3, 4] rfl
                  refine va_callv (va_runV (As := []) (rest := []) ⟨hx, hb, hml, hown, hts⟩ (k_X12_compare_6 l dC dI h0 h1 h2 h3 h4 v0 v1 x61 h5 h6 h7 h8 v3 v4 r0 r1 r2 r3 v5 r4 r5 v6 v7 r6 r7 v8 v9 r8 v10 v11 r9 v12 w13 r10 v14 v15 r11 r12 r13 r14 r15 r16 v16 r17 r18 r19 v17 g0 f18 g1 fn54 g2 fn55 g3 fn56 ⟨by first | omega | decide, by first | omega | decide⟩ ⟨by first | omega | decide, by first | omega | decide⟩ ⟨by first | omega | decide, by first | omega | decide⟩ ⟨by first | omega | decide, by first | omega | decide⟩ ⟨by first | omega | decide, by first | omega | decide⟩ ⟨by first | omega | decide, by first | omega | decide⟩ ⟨by first | omega | decide, by first | omega | decide⟩ ⟨by first | omega | decide, by first | omega | decide⟩ ⟨by first | omega | decide, by first | omega | decide⟩ ⟨by first | omega | decide, by first | omega | decide⟩ ⟨by first | omega | decide, by first | omega | decide⟩ ia_f18 (by constructor <;> omega) H.size) (cwV 0 hts g_X12_clause_8 rfl rfl rfl (by decide +kernel) ⟨Nat.le_of_ble_eq_true rfl, Nat.le_of_ble_eq_true rfl⟩) ⟨fun a U g mk q => by obtain ⟨q0, q1, qP, qK, qD⟩ := q; exact ⟨q0, q1, qP, va_K.moved (u := U) (U := U.calling g mk a) (Vm.Alike.refl U.vm) qK, qD⟩, va_recv hKc hPc (ci := 12) (q0 := 0) rfl rfl, fun U hU hW => ⟨rfl, by rw [hU], by rw [hU]; exact hPc, va_K.moved hW.alike hKc, hDc.weaken (fun _ _ _ _ => trivial)⟩⟩ rfl rfl hl.1 rfl (lv_room (Nat.le_of_ble_eq_true rfl)) dX12_clause_173 ⟨Nat.le_of_ble_eq_true rfl, Nat.le_of_ble_eq_true rfl⟩) hS (fun q _ h => hFc q h) hFc (fun u t H1 locs ht hvm hwra64 hB hz1 hk1 hS => ?_)
                  rcases hB with hB | hB
                  · skip
                    obtain ⟨x65, fn66, fn67, fn68, oa_x65, ob_x65, pt0_ra64, pt1_ra64, hP1, hK1, hD1⟩ := hB
                    rw [ht] at hP1
                    obtain ⟨hP, hD⟩ := va_join (wr := (wd_9ed5f2f7 h5 g4 f22 h6 g5 fn25 h7 g6 f24 h8 g7 f25)) (w1 := (wd_d906eaf1 h0 v0 h1 v1 x65 (-1) 0 h2 h3 h4 h5 h6 h7 h8 v3 v4 r0 r1 r2 r3 v5 r4 r5 v6 v7 r6 r7 v8 v9 r8 v10 v11 r9 v12 w13 r10 v14 v15 r11 r12 r13 r14 r15 r16 v16 r17 r18 r19 v17 h1 g0 f18 h2 g1 fn66 h3 g2 fn67 h4 g3 fn68)) hP hD [0, 1, 2, 3, 4] [5, 6, 7, 8] rfl rfl (by decide) (by decide) hk1 hFc hP1 hD1
                    generalize H1 = H at hP hS ⊢
                    have hP := hP.sub (ws' := (wd_d5ef5423 h0 v0 h1 v1 x65 (-1) 0 h2 h3 h4 h5 h6 h7 h8 v3 v4 r0 r1 r2 r3 v5 r4 r5 v6 v7 r6 r7 v8 v9 r8 v10 v11 r9 v12 w13 r10 v14 v15 r11 r12 r13 r14 r15 r16 v16 r17 r18 r19 v17 h1 g0 f18 h2 g1 fn66 h3 g2 fn67 h4 g3 fn68 h5 g4 f22 h6 g5 fn25 h7 g6 f24 h8 g7 f25)) [4, 5, 6, 7, 8, 0, 1, 2, 3] rfl
                    have hD := hD.sub (ws' := (wd_d5ef5423 h0 v0 h1 v1 x65 (-1) 0 h2 h3 h4 h5 h6 h7 h8 v3 v4 r0 r1 r2 r3 v5 r4 r5 v6 v7 r6 r7 v8 v9 r8 v10 v11 r9 v12 w13 r10 v14 v15 r11 r12 r13 r14 r15 r16 v16 r17 r18 r19 v17 h1 g0 f18 h2 g1 fn66 h3 g2 fn67 h4 g3 fn68 h5 g4 f22 h6 g5 fn25 h7 g6 f24 h8 g7 f25)) [4, 5, 6, 7, 8, 0, 1, 2, 3] (by decide) rfl
                    have hP : va_P (dC, dI) vwCl (wd_d5ef5423 h0 v0 h1 v1 x65 (-1) 0 h2 h3 h4 h5 h6 h7 h8 v3 v4 r0 r1 r2 r3 v5 r4 r5 v6 v7 r6 r7 v8 v9 r8 v10 v11 r9 v12 w13 r10 v14 v15 r11 r12 r13 r14 r15 r16 v16 r17 r18 r19 v17 h1 g0 f18 h2 g1 fn66 h3 g2 fn67 h4 g3 fn68 h5 g4 f22 h6 g5 fn25 h7 g6 f24 h8 g7 f25) H := hP
                    have hD : va_D A (wd_d5ef5423 h0 v0 h1 v1 x65 (-1) 0 h2 h3 h4 h5 h6 h7 h8 v3 v4 r0 r1 r2 r3 v5 r4 r5 v6 v7 r6 r7 v8 v9 r8 v10 v11 r9 v12 w13 r10 v14 v15 r11 r12 r13 r14 r15 r16 v16 r17 r18 r19 v17 h1 g0 f18 h2 g1 fn66 h3 g2 fn67 h4 g3 fn68 h5 g4 f22 h6 g5 fn25 h7 g6 f24 h8 g7 f25) := hD
                    have hgR := hgR.app (k' := 1) (D := 16) pt1_ra64 (by decide) (by decide) (by decide) (by decide)
                    have hgF := hgR.1
                    have hxl := hgF.1
                    refine lv_aload_n hx hb dX12_clause_176 rfl (lv_at hl 2 rfl) ?_
                    have hPc := hP.sub (ws' := (wd_d906eaf1 h0 v0 h1 v1 x65 (-1) 0 h2 h3 h4 h5 h6 h7 h8 v3 v4 r0 r1 r2 r3 v5 r4 r5 v6 v7 r6 r7 v8 v9 r8 v10 v11 r9 v12 w13 r10 v14 v15 r11 r12 r13 r14 r15 r16 v16 r17 r18 r19 v17 h1 g0 f18 h2 g1 fn66 h3 g2 fn67 h4 g3 fn68)) [0, 1, 2, 3, 4] rfl
                    have hDc := hD.sub (ws' := (wd_d906eaf1 h0 v0 h1 v1 x65 (-1) 0 h2 h3 h4 h5 h6 h7 h8 v3 v4 r0 r1 r2 r3 v5 r4 r5 v6 v7 r6 r7 v8 v9 r8 v10 v11 r9 v12 w13 r10 v14 v15 r11 r12 r13 r14 r15 r16 v16 r17 r18 r19 v17 h1 g0 f18 h2 g1 fn66 h3 g2 fn67 h4 g3 fn68)) [0, 1, 2, 3, 4] (by decide) rfl
                    have hKc := hK.sub (tys' := [(g0, .int), (g1, .int), (g2, .int), (g3, .int)]) [0, 1, 2, 3] rfl
                    have hFc := va_free (wc := (wd_d906eaf1 h0 v0 h1 v1 x65 (-1) 0 h2 h3 h4 h5 h6 h7 h8 v3 v4 r0 r1 r2 r3 v5 r4 r5 v6 v7 r6 r7 v8 v9 r8 v10 v11 r9 v12 w13 r10 v14 v15 r11 r12 r13 r14 r15 r16 v16 r17 r18 r19 v17 h1 g0 f18 h2 g1 fn66 h3 g2 fn67 h4 g3 fn68)) hD hS hA [0, 1, 2, 3, 4] rfl
                    refine va_callv (va_runV (As := []) (rest := []) ⟨hx, hb, hml, hown, hts⟩ (k_X12_goOnAnd_7 l dC dI h0 h1 h2 h3 h4 v0 v1 x65 h5 h6 h7 h8 v3 v4 r0 r1 r2 r3 v5 r4 r5 v6 v7 r6 r7 v8 v9 r8 v10 v11 r9 v12 w13 r10 v14 v15 r11 r12 r13 r14 r15 r16 v16 r17 r18 r19 v17 g0 f18 g1 fn66 g2 fn67 g3 fn68 ⟨by first | omega | decide, by first | omega | decide⟩ ⟨by first | omega | decide, by first | omega | decide⟩ ⟨by first | omega | decide, by first | omega | decide⟩ ⟨by first | omega | decide, by first | omega | decide⟩ ⟨by first | omega | decide, by first | omega | decide⟩ ⟨by first | omega | decide, by first | omega | decide⟩ ⟨by first | omega | decide, by first | omega | decide⟩ ⟨by first | omega | decide, by first | omega | decide⟩ ⟨by first | omega | decide, by first | omega | decide⟩ ⟨by first | omega | decide, by first | omega | decide⟩ ⟨by first | omega | decide, by first | omega | decide⟩ ia_f18 (by constructor <;> omega) H.size) (cwV 0 hts g_X12_clause_9 rfl rfl rfl (by decide +kernel) ⟨Nat.le_of_ble_eq_true rfl, Nat.le_of_ble_eq_true rfl⟩) ⟨fun a U g mk q => by obtain ⟨q0, q1, qP, qK, qD⟩ := q; exact ⟨q0, q1, qP, va_K.moved (u := U) (U := U.calling g mk a) (Vm.Alike.refl U.vm) qK, qD⟩, va_recv hKc hPc (ci := 12) (q0 := 0) rfl rfl, fun U hU hW => ⟨rfl, by rw [hU], by rw [hU]; exact hPc, va_K.moved hW.alike hKc, hDc.weaken (fun _ _ _ _ => trivial)⟩⟩ rfl rfl hl.1 rfl (lv_room (Nat.le_of_ble_eq_true rfl)) dX12_clause_177 ⟨Nat.le_of_ble_eq_true rfl, Nat.le_of_ble_eq_true rfl⟩) hS (fun q _ h => hFc q h) hFc (fun u t H1 locs ht hvm hwra69 hB hz1 hk1 hS => ?_)
                    rcases hB with hB | hB
                    · skip
                      obtain ⟨x70, fn71, fn72, fn73, oa_x70, ob_x70, pt0_ra69, pt1_ra69, hP1, hK1, hD1⟩ := hB
                      rw [ht] at hP1
                      obtain ⟨hP, hD⟩ := va_join (wr := (wd_9ed5f2f7 h5 g4 f22 h6 g5 fn25 h7 g6 f24 h8 g7 f25)) (w1 := (wd_d906eaf1 h0 v0 h1 v1 x70 (-1) 0 h2 h3 h4 h5 h6 h7 h8 v3 v4 r0 r1 r2 r3 v5 r4 r5 v6 v7 r6 r7 v8 v9 r8 v10 v11 r9 v12 w13 r10 v14 v15 r11 r12 r13 r14 r15 r16 v16 r17 r18 r19 v17 h1 g0 f18 h2 g1 fn71 h3 g2 fn72 h4 g3 fn73)) hP hD [0, 1, 2, 3, 4] [5, 6, 7, 8] rfl rfl (by decide) (by decide) hk1 hFc hP1 hD1
                      generalize H1 = H at hP hS ⊢
                      have hP := hP.sub (ws' := (wd_d5ef5423 h0 v0 h1 v1 x70 (-1) 0 h2 h3 h4 h5 h6 h7 h8 v3 v4 r0 r1 r2 r3 v5 r4 r5 v6 v7 r6 r7 v8 v9 r8 v10 v11 r9 v12 w13 r10 v14 v15 r11 r12 r13 r14 r15 r16 v16 r17 r18 r19 v17 h1 g0 f18 h2 g1 fn71 h3 g2 fn72 h4 g3 fn73 h5 g4 f22 h6 g5 fn25 h7 g6 f24 h8 g7 f25)) [4, 5, 6, 7, 8, 0, 1, 2, 3] rfl
                      have hD := hD.sub (ws' := (wd_d5ef5423 h0 v0 h1 v1 x70 (-1) 0 h2 h3 h4 h5 h6 h7 h8 v3 v4 r0 r1 r2 r3 v5 r4 r5 v6 v7 r6 r7 v8 v9 r8 v10 v11 r9 v12 w13 r10 v14 v15 r11 r12 r13 r14 r15 r16 v16 r17 r18 r19 v17 h1 g0 f18 h2 g1 fn71 h3 g2 fn72 h4 g3 fn73 h5 g4 f22 h6 g5 fn25 h7 g6 f24 h8 g7 f25)) [4, 5, 6, 7, 8, 0, 1, 2, 3] (by decide) rfl
                      have hP : va_P (dC, dI) vwCl (wd_d5ef5423 h0 v0 h1 v1 x70 (-1) 0 h2 h3 h4 h5 h6 h7 h8 v3 v4 r0 r1 r2 r3 v5 r4 r5 v6 v7 r6 r7 v8 v9 r8 v10 v11 r9 v12 w13 r10 v14 v15 r11 r12 r13 r14 r15 r16 v16 r17 r18 r19 v17 h1 g0 f18 h2 g1 fn71 h3 g2 fn72 h4 g3 fn73 h5 g4 f22 h6 g5 fn25 h7 g6 f24 h8 g7 f25) H := hP
                      have hD : va_D A (wd_d5ef5423 h0 v0 h1 v1 x70 (-1) 0 h2 h3 h4 h5 h6 h7 h8 v3 v4 r0 r1 r2 r3 v5 r4 r5 v6 v7 r6 r7 v8 v9 r8 v10 v11 r9 v12 w13 r10 v14 v15 r11 r12 r13 r14 r15 r16 v16 r17 r18 r19 v17 h1 g0 f18 h2 g1 fn71 h3 g2 fn72 h4 g3 fn73 h5 g4 f22 h6 g5 fn25 h7 g6 f24 h8 g7 f25) := hD
                      have hgR := hgR.app (k' := 1) (D := 17) pt1_ra69 (by decide) (by decide) (by decide) (by decide)
                      have hgF := hgR.1
                      have hxl := hgF.1
                      refine lv_aload_n hx hb dX12_clause_180 rfl (lv_at hl 2 rfl) ?_
                      have hPc := hP.sub (ws' := (wd_d906eaf1 h0 v0 h1 v1 x70 (-1) 0 h2 h3 h4 h5 h6 h7 h8 v3 v4 r0 r1 r2 r3 v5 r4 r5 v6 v7 r6 r7 v8 v9 r8 v10 v11 r9 v12 w13 r10 v14 v15 r11 r12 r13 r14 r15 r16 v16 r17 r18 r19 v17 h1 g0 f18 h2 g1 fn71 h3 g2 fn72 h4 g3 fn73)) [0, 1, 2, 3, 4] rfl
                      have hDc := hD.sub (ws' := (wd_d906eaf1 h0 v0 h1 v1 x70 (-1) 0 h2 h3 h4 h5 h6 h7 h8 v3 v4 r0 r1 r2 r3 v5 r4 r5 v6 v7 r6 r7 v8 v9 r8 v10 v11 r9 v12 w13 r10 v14 v15 r11 r12 r13 r14 r15 r16 v16 r17 r18 r19 v17 h1 g0 f18 h2 g1 fn71 h3 g2 fn72 h4 g3 fn73)) [0, 1, 2, 3, 4] (by decide) rfl
                      have hKc := hK.sub (tys' := [(g0, .int), (g1, .int), (g2, .int), (g3, .int)]) [0, 1, 2, 3] rfl
                      have hFc := va_free (wc := (wd_d906eaf1 h0 v0 h1 v1 x70 (-1) 0 h2 h3 h4 h5 h6 h7 h8 v3 v4 r0 r1 r2 r3 v5 r4 r5 v6 v7 r6 r7 v8 v9 r8 v10 v11 r9 v12 w13 r10 v14 v15 r11 r12 r13 r14 r15 r16 v16 r17 r18 r19 v17 h1 g0 f18 h2 g1 fn71 h3 g2 fn72 h4 g3 fn73)) hD hS hA [0, 1, 2, 3, 4] rfl
                      refine va_callv (va_runV (As := []) (rest := []) ⟨hx, hb, hml, hown, hts⟩ (k_X12_goOnOr_7 l dC dI h0 h1 h2 h3 h4 v0 v1 x70 h5 h6 h7 h8 v3 v4 r0 r1 r2 r3 v5 r4 r5 v6 v7 r6 r7 v8 v9 r8 v10 v11 r9 v12 w13 r10 v14 v15 r11 r12 r13 r14 r15 r16 v16 r17 r18 r19 v17 g0 f18 g1 fn71 g2 fn72 g3 fn73 ⟨by first | omega | decide, by first | omega | decide⟩ ⟨by first | omega | decide, by first | omega | decide⟩ ⟨by first | omega | decide, by first | omega | decide⟩ ⟨by first | omega | decide, by first | omega | decide⟩ ⟨by first | omega | decide, by first | omega | decide⟩ ⟨by first | omega | decide, by first | omega | decide⟩ ⟨by first | omega | decide, by first | omega | decide⟩ ⟨by first | omega | decide, by first | omega | decide⟩ ⟨by first | omega | decide, by first | omega | decide⟩ ⟨by first | omega | decide, by first | omega | decide⟩ ⟨by first | omega | decide, by first | omega | decide⟩ ia_f18 (by constructor <;> omega) H.size) (cwV 0 hts g_X12_clause_10 rfl rfl rfl (by decide +kernel) ⟨Nat.le_of_ble_eq_true rfl, Nat.le_of_ble_eq_true rfl⟩) ⟨fun a U g mk q => by obtain ⟨q0, q1, qP, qK, qD⟩ := q; exact ⟨q0, q1, qP, va_K.moved (u := U) (U := U.calling g mk a) (Vm.Alike.refl U.vm) qK, qD⟩, va_recv hKc hPc (ci := 12) (q0 := 0) rfl rfl, fun U hU hW => ⟨rfl, by rw [hU], by rw [hU]; exact hPc, va_K.moved hW.alike hKc, hDc.weaken (fun _ _ _ _ => trivial)⟩⟩ rfl rfl hl.1 rfl (lv_room (Nat.le_of_ble_eq_true rfl)) dX12_clause_181 ⟨Nat.le_of_ble_eq_true rfl, Nat.le_of_ble_eq_true rfl⟩) hS (fun q _ h => hFc q h) hFc (fun u t H1 locs ht hvm hwra74 hB hz1 hk1 hS => ?_)
                      rcases hB with hB | hB
                      · skip
                        obtain ⟨x75, fn76, fn77, fn78, oa_x75, ob_x75, pt0_ra74, pt1_ra74, hP1, hK1, hD1⟩ := hB
                        rw [ht] at hP1
                        obtain ⟨hP, hD⟩ := va_join (wr := (wd_9ed5f2f7 h5 g4 f22 h6 g5 fn25 h7 g6 f24 h8 g7 f25)) (w1 := (wd_d906eaf1 h0 v0 h1 v1 x75 (-1) 0 h2 h3 h4 h5 h6 h7 h8 v3 v4 r0 r1 r2 r3 v5 r4 r5 v6 v7 r6 r7 v8 v9 r8 v10 v11 r9 v12 w13 r10 v14 v15 r11 r12 r13 r14 r15 r16 v16 r17 r18 r19 v17 h1 g0 f18 h2 g1 fn76 h3 g2 fn77 h4 g3 fn78)) hP hD [0, 1, 2, 3, 4] [5, 6, 7, 8] rfl rfl (by decide) (by decide) hk1 hFc hP1 hD1
                        generalize H1 = H at hP hS ⊢
                        have hP := hP.sub (ws' := (wd_d5ef5423 h0 v0 h1 v1 x75 (-1) 0 h2 h3 h4 h5 h6 h7 h8 v3 v4 r0 r1 r2 r3 v5 r4 r5 v6 v7 r6 r7 v8 v9 r8 v10 v11 r9 v12 w13 r10 v14 v15 r11 r12 r13 r14 r15 r16 v16 r17 r18 r19 v17 h1 g0 f18 h2 g1 fn76 h3 g2 fn77 h4 g3 fn78 h5 g4 f22 h6 g5 fn25 h7 g6 f24 h8 g7 f25)) [4, 5, 6, 7, 8, 0, 1, 2, 3] rfl
                        have hD := hD.sub (ws' := (wd_d5ef5423 h0 v0 h1 v1 x75 (-1) 0 h2 h3 h4 h5 h6 h7 h8 v3 v4 r0 r1 r2 r3 v5 r4 r5 v6 v7 r6 r7 v8 v9 r8 v10 v11 r9 v12 w13 r10 v14 v15 r11 r12 r13 r14 r15 r16 v16 r17 r18 r19 v17 h1 g0 f18 h2 g1 fn76 h3 g2 fn77 h4 g3 fn78 h5 g4 f22 h6 g5 fn25 h7 g6 f24 h8 g7 f25)) [4, 5, 6, 7, 8, 0, 1, 2, 3] (by decide) rfl
                        have hP : va_P (dC, dI) vwCl (wd_d5ef5423 h0 v0 h1 v1 x75 (-1) 0 h2 h3 h4 h5 h6 h7 h8 v3 v4 r0 r1 r2 r3 v5 r4 r5 v6 v7 r6 r7 v8 v9 r8 v10 v11 r9 v12 w13 r10 v14 v15 r11 r12 r13 r14 r15 r16 v16 r17 r18 r19 v17 h1 g0 f18 h2 g1 fn76 h3 g2 fn77 h4 g3 fn78 h5 g4 f22 h6 g5 fn25 h7 g6 f24 h8 g7 f25) H := hP
                        have hD : va_D A (wd_d5ef5423 h0 v0 h1 v1 x75 (-1) 0 h2 h3 h4 h5 h6 h7 h8 v3 v4 r0 r1 r2 r3 v5 r4 r5 v6 v7 r6 r7 v8 v9 r8 v10 v11 r9 v12 w13 r10 v14 v15 r11 r12 r13 r14 r15 r16 v16 r17 r18 r19 v17 h1 g0 f18 h2 g1 fn76 h3 g2 fn77 h4 g3 fn78 h5 g4 f22 h6 g5 fn25 h7 g6 f24 h8 g7 f25) := hD
                        have hgR := hgR.app (k' := 1) (D := 18) pt1_ra74 (by decide) (by decide) (by decide) (by decide)
                        have hgF := hgR.1
                        have hxl := hgF.1
                        refine lv_aload_n hx hb dX12_clause_184 rfl (lv_at hl 2 rfl) ?_
                        refine va_get (D := (dC, dI)) (ci := 12) (v := .ref h7) (C := RX12) (T := TX12) (N := 48) hx hb hts (fun _ h => List.mem_cons_of_mem _ (List.mem_append_right _ h)) hown hK hP 0 rfl rfl 11 (by decide) (hts (.fieldLink RX12 28 "LeftArgumentsModel" "sumFrom" "[I") (List.mem_cons_of_mem _ (List.mem_append_left _ (List.mem_of_getElem? (i := 21) rfl)))) (fun _ h9 => h9) rfl dX12_clause_185 ?_
                        refine lv_iload_n hx hb dX12_clause_188 rfl (lv_at hl 1 rfl) ?_
                        refine lv_aload_n hx hb dX12_clause_189 rfl (lv_at hl 2 rfl) ?_
                        refine va_get (D := (dC, dI)) (ci := 12) (v := .ref h6) (C := RX12) (T := TX12) (N := 48) hx hb hts (fun _ h => List.mem_cons_of_mem _ (List.mem_append_right _ h)) hown hK hP 0 rfl rfl 10 (by decide) (hts (.fieldLink RX12 25 "LeftArgumentsModel" "testFrom" "[I") (List.mem_cons_of_mem _ (List.mem_append_left _ (List.mem_of_getElem? (i := 19) rfl)))) (fun _ h9 => h9) rfl dX12_clause_190 ?_
                        refine lv_iload_n hx hb dX12_clause_193 rfl (lv_at hl 1 rfl) ?_
                        refine va_iald hx hb hK hP 6 5 rfl rfl (vp_in_iff.mpr ⟨by omega, by omega⟩) dX12_clause_194 ?_
                        refine lv_topi (fun t79 et79 => ?_)
                        have hqt79 : t79.toInt = t24.toInt := by rw [et79, hk1]
                        refine va_iast hx hb hK hP hD hS 7 6 rfl rfl (vp_in_iff.mpr ⟨by omega, by omega⟩) dX12_clause_195 (fun H locs hP hD hS => ?_)
                        obtain ⟨fn80, efn80⟩ : ∃ g : Nat → Int32, g = upd f24 (Int32.toNatClampNeg t3) t79 := ⟨_, rfl⟩
                        rw [← efn80] at hP hD
                        have hP : va_P (dC, dI) vwCl (wd_d5ef5423 h0 v0 h1 v1 x75 (-1) 0 h2 h3 h4 h5 h6 h7 h8 v3 v4 r0 r1 r2 r3 v5 r4 r5 v6 v7 r6 r7 v8 v9 r8 v10 v11 r9 v12 w13 r10 v14 v15 r11 r12 r13 r14 r15 r16 v16 r17 r18 r19 v17 h1 g0 f18 h2 g1 fn76 h3 g2 fn77 h4 g3 fn78 h5 g4 f22 h6 g5 fn25 h7 g6 fn80 h8 g7 f25) H := hP
                        have hD : va_D A (wd_d5ef5423 h0 v0 h1 v1 x75 (-1) 0 h2 h3 h4 h5 h6 h7 h8 v3 v4 r0 r1 r2 r3 v5 r4 r5 v6 v7 r6 r7 v8 v9 r8 v10 v11 r9 v12 w13 r10 v14 v15 r11 r12 r13 r14 r15 r16 v16 r17 r18 r19 v17 h1 g0 f18 h2 g1 fn76 h3 g2 fn77 h4 g3 fn78 h5 g4 f22 h6 g5 fn25 h7 g6 fn80 h8 g7 f25) := hD
                        have hk2 : fn80 (Int32.toNatClampNeg t3) = t79 := by rw [efn80]; exact pk_us
                        have ho2 : ∀ j : Nat, ¬ j = Int32.toNatClampNeg t3 → fn80 j = f24 j := fun j h9 => by rw [efn80, pk_un h9]; exact ho2 j h9
                        refine lv_iload_n hx hb dX12_clause_196 rfl (lv_at hl 0 rfl) ?_
                        refine lv_if_eq (tgt := 251) hx hb dX12_clause_197 (by decide) (fun c => absurd c (by decide)) (fun _ => ?_)
                        refine lv_aload_n hx hb dX12_clause_200 rfl (lv_at hl 2 rfl) ?_
                        refine va_get (D := (dC, dI)) (ci := 12) (v := .int (-1)) (C := RX12) (T := TX12) (N := 48) hx hb hts (fun _ h => List.mem_cons_of_mem _ (List.mem_append_right _ h)) hown hK hP 0 rfl rfl 4 (by decide) (hts (.fieldLink RX12 119 "LeftArgumentsModel" "wrong" "I") (List.mem_cons_of_mem _ (List.mem_append_left _ (List.mem_of_getElem? (i := 2) rfl)))) (fun _ h9 => h9) rfl dX12_clause_201 ?_
                        refine lv_iconst (v := (-1)) hx hb dX12_clause_204 (by decide) ?_
                        refine lv_icmp_ne (tgt := 251) hx hb dX12_clause_205 (by decide) (fun c => absurd (by decide) c) (fun _ => ?_)
                        refine lv_aload_n hx hb dX12_clause_208 rfl (lv_at hl 2 rfl) ?_
                        have hPc := hP.sub (ws' := (wd_f4cd022e h0 v0 h1 v1 x75 (-1) 0 h2 h3 h4 h5 h6 h7 h8 v3 v4 r0 r1 r2 r3 v5 r4 r5 v6 v7 r6 r7 v8 v9 r8 v10 v11 r9 v12 w13 r10 v14 v15 r11 r12 r13 r14 r15 r16 v16 r17 r18 r19 v17 h1 g0 f18)) [0, 1] rfl
                        have hDc := hD.sub (ws' := (wd_f4cd022e h0 v0 h1 v1 x75 (-1) 0 h2 h3 h4 h5 h6 h7 h8 v3 v4 r0 r1 r2 r3 v5 r4 r5 v6 v7 r6 r7 v8 v9 r8 v10 v11 r9 v12 w13 r10 v14 v15 r11 r12 r13 r14 r15 r16 v16 r17 r18 r19 v17 h1 g0 f18)) [0, 1] (by decide) rfl
                        have hKc := hK.sub (tys' := [(g0, .int)]) [0] rfl
                        have hFc := va_free (wc := (wd_f4cd022e h0 v0 h1 v1 x75 (-1) 0 h2 h3 h4 h5 h6 h7 h8 v3 v4 r0 r1 r2 r3 v5 r4 r5 v6 v7 r6 r7 v8 v9 r8 v10 v11 r9 v12 w13 r10 v14 v15 r11 r12 r13 r14 r15 r16 v16 r17 r18 r19 v17 h1 g0 f18)) hD hS hA [0, 1] rfl
                        refine va_calli (va_runV (As := []) (rest := []) ⟨hx, hb, hml, hown, hts⟩ (k_X12_look l dC dI h0 h1 v0 v1 x75 ((-1)) 0 h2 h3 h4 h5 h6 h7 h8 v3 v4 r0 r1 r2 r3 v5 r4 r5 v6 v7 r6 r7 v8 v9 r8 v10 v11 r9 v12 w13 r10 v14 v15 r11 r12 r13 r14 r15 r16 v16 r17 r18 r19 v17 g0 f18 ⟨by first | omega | decide, by first | omega | decide⟩ ⟨by first | omega | decide, by first | omega | decide⟩ ⟨by first | omega | decide, by first | omega | decide⟩ ⟨by first | omega | decide, by first | omega | decide⟩ ⟨by first | omega | decide, by first | omega | decide⟩ ⟨by first | omega | decide, by first | omega | decide⟩ ⟨by first | omega | decide, by first | omega | decide⟩ ⟨by first | omega | decide, by first | omega | decide⟩ ⟨by first | omega | decide, by first | omega | decide⟩ ⟨by first | omega | decide, by first | omega | decide⟩ ⟨by first | omega | decide, by first | omega | decide⟩ ia_f18 H.size) (cwV 0 hts g_X12_clause_0 rfl rfl rfl (by decide +kernel) ⟨Nat.le_of_ble_eq_true rfl, Nat.le_of_ble_eq_true rfl⟩) ⟨fun a U g mk q => by obtain ⟨q0, q1, qP, qK, qD⟩ := q; exact ⟨q0, q1, qP, va_K.moved (u := U) (U := U.calling g mk a) (Vm.Alike.refl U.vm) qK, qD⟩, va_recv hKc hPc (ci := 12) (q0 := 0) rfl rfl, fun U hU hW => ⟨rfl, by rw [hU], by rw [hU]; exact hPc, va_K.moved hW.alike hKc, hDc.weaken (fun _ _ _ _ => trivial)⟩⟩ rfl rfl hl.1 rfl (lv_room (Nat.le_of_ble_eq_true rfl)) dX12_clause_209 ⟨Nat.le_of_ble_eq_true rfl, Nat.le_of_ble_eq_true rfl⟩) hS (fun q _ h => hFc q h) hFc (fun ra81 u t H1 locs ht hvm hwra81 hB hz1 hk1 hS => ?_)
                        try rw [hwra81] at hB
                        have hkra81_0 : (((-1) : Int32)).toInt = -1 := by decide
                        have hkra81_1 : ((0 : Int32)).toInt = 0 := by decide
                        rcases hB with hB | hB
                        · skip
                          obtain ⟨x82, oa_x82, ob_x82, pt0_ra81, pt1_ra81, pt2_ra81, pt3_ra81, hP1, hK1, hD1⟩ := hB
                          rw [ht] at hP1
                          obtain ⟨hP, hD⟩ := va_join (wr := (wd_55284813 h2 g1 fn76 h3 g2 fn77 h4 g3 fn78 h5 g4 f22 h6 g5 fn25 h7 g6 fn80 h8 g7 f25)) (w1 := (wd_f4cd022e h0 v0 h1 v1 x82 (-1) 0 h2 h3 h4 h5 h6 h7 h8 v3 v4 r0 r1 r2 r3 v5 r4 r5 v6 v7 r6 r7 v8 v9 r8 v10 v11 r9 v12 w13 r10 v14 v15 r11 r12 r13 r14 r15 r16 v16 r17 r18 r19 v17 h1 g0 f18)) hP hD [0, 1] [2, 3, 4, 5, 6, 7, 8] rfl rfl (by decide) (by decide) hk1 hFc hP1 hD1
                          generalize H1 = H at hP hS ⊢
                          have hP := hP.sub (ws' := (wd_d5ef5423 h0 v0 h1 v1 x82 (-1) 0 h2 h3 h4 h5 h6 h7 h8 v3 v4 r0 r1 r2 r3 v5 r4 r5 v6 v7 r6 r7 v8 v9 r8 v10 v11 r9 v12 w13 r10 v14 v15 r11 r12 r13 r14 r15 r16 v16 r17 r18 r19 v17 h1 g0 f18 h2 g1 fn76 h3 g2 fn77 h4 g3 fn78 h5 g4 f22 h6 g5 fn25 h7 g6 fn80 h8 g7 f25)) [7, 8, 0, 1, 2, 3, 4, 5, 6] rfl
                          have hD := hD.sub (ws' := (wd_d5ef5423 h0 v0 h1 v1 x82 (-1) 0 h2 h3 h4 h5 h6 h7 h8 v3 v4 r0 r1 r2 r3 v5 r4 r5 v6 v7 r6 r7 v8 v9 r8 v10 v11 r9 v12 w13 r10 v14 v15 r11 r12 r13 r14 r15 r16 v16 r17 r18 r19 v17 h1 g0 f18 h2 g1 fn76 h3 g2 fn77 h4 g3 fn78 h5 g4 f22 h6 g5 fn25 h7 g6 fn80 h8 g7 f25)) [7, 8, 0, 1, 2, 3, 4, 5, 6] (by decide) rfl
                          have hP : va_P (dC, dI) vwCl (wd_d5ef5423 h0 v0 h1 v1 x82 (-1) 0 h2 h3 h4 h5 h6 h7 h8 v3 v4 r0 r1 r2 r3 v5 r4 r5 v6 v7 r6 r7 v8 v9 r8 v10 v11 r9 v12 w13 r10 v14 v15 r11 r12 r13 r14 r15 r16 v16 r17 r18 r19 v17 h1 g0 f18 h2 g1 fn76 h3 g2 fn77 h4 g3 fn78 h5 g4 f22 h6 g5 fn25 h7 g6 fn80 h8 g7 f25) H := hP
                          have hD : va_D A (wd_d5ef5423 h0 v0 h1 v1 x82 (-1) 0 h2 h3 h4 h5 h6 h7 h8 v3 v4 r0 r1 r2 r3 v5 r4 r5 v6 v7 r6 r7 v8 v9 r8 v10 v11 r9 v12 w13 r10 v14 v15 r11 r12 r13 r14 r15 r16 v16 r17 r18 r19 v17 h1 g0 f18 h2 g1 fn76 h3 g2 fn77 h4 g3 fn78 h5 g4 f22 h6 g5 fn25 h7 g6 fn80 h8 g7 f25) := hD
                          obtain rfl : ra81 = ((-1) : Int32) := Int32.toInt_inj.mp (by rw [show (((-1) : Int32)).toInt = -1 by decide]; omega)
                          refine lv_bipush (v := 63) hx hb dX12_clause_212 (by decide) ?_
                          refine lv_icmp_eq (tgt := 222) hx hb dX12_clause_214 (by decide) (fun c => absurd c (by decide)) (fun _ => ?_)
                          refine lv_aload_n hx hb dX12_clause_217 rfl (lv_at hl 2 rfl) ?_
                          have hPc := hP.sub (ws' := (wd_171f232f h0 v0 h1 v1 x82 (-1) 0 h2 h3 h4 h5 h6 h7 h8 v3 v4 r0 r1 r2 r3 v5 r4 r5 v6 v7 r6 r7 v8 v9 r8 v10 v11 r9 v12 w13 r10 v14 v15 r11 r12 r13 r14 r15 r16 v16 r17 r18 r19 v17)) [0] rfl
                          have hDc := hD.sub (ws' := (wd_171f232f h0 v0 h1 v1 x82 (-1) 0 h2 h3 h4 h5 h6 h7 h8 v3 v4 r0 r1 r2 r3 v5 r4 r5 v6 v7 r6 r7 v8 v9 r8 v10 v11 r9 v12 w13 r10 v14 v15 r11 r12 r13 r14 r15 r16 v16 r17 r18 r19 v17)) [0] (by decide) rfl
                          have hKc := hK.sub (tys' := []) [] rfl
                          have hFc := va_free (wc := (wd_171f232f h0 v0 h1 v1 x82 (-1) 0 h2 h3 h4 h5 h6 h7 h8 v3 v4 r0 r1 r2 r3 v5 r4 r5 v6 v7 r6 r7 v8 v9 r8 v10 v11 r9 v12 w13 r10 v14 v15 r11 r12 r13 r14 r15 r16 v16 r17 r18 r19 v17)) hD hS hA [0] rfl
                          refine va_callv (va_runV (As := []) (rest := []) ⟨hx, hb, hml, hown, hts⟩ (k_X12_bad l dC dI h0 v0 h1 v1 x82 0 h2 h3 h4 h5 h6 h7 h8 v3 v4 r0 r1 r2 r3 v5 r4 r5 v6 v7 r6 r7 v8 v9 r8 v10 v11 r9 v12 w13 r10 v14 v15 r11 r12 r13 r14 r15 r16 v16 r17 r18 r19 v17 ⟨by first | omega | decide, by first | omega | decide⟩ ⟨by first | omega | decide, by first | omega | decide⟩ ⟨by first | omega | decide, by first | omega | decide⟩ ⟨by first | omega | decide, by first | omega | decide⟩ ⟨by first | omega | decide, by first | omega | decide⟩ ⟨by first | omega | decide, by first | omega | decide⟩ ⟨by first | omega | decide, by first | omega | decide⟩ ⟨by first | omega | decide, by first | omega | decide⟩ ⟨by first | omega | decide, by first | omega | decide⟩ ⟨by first | omega | decide, by first | omega | decide⟩ ⟨by first | omega | decide, by first | omega | decide⟩ H.size) (cwV 0 hts g_X12_clause_1 rfl rfl rfl (by decide +kernel) ⟨Nat.le_of_ble_eq_true rfl, Nat.le_of_ble_eq_true rfl⟩) ⟨fun a U g mk q => by obtain ⟨q0, q1, qP, qK, qD⟩ := q; exact ⟨q0, q1, qP, va_K.moved (u := U) (U := U.calling g mk a) (Vm.Alike.refl U.vm) qK, qD⟩, va_recv hKc hPc (ci := 12) (q0 := 0) rfl rfl, fun U hU hW => ⟨rfl, by rw [hU], by rw [hU]; exact hPc, va_K.moved hW.alike hKc, hDc.weaken (fun _ _ _ _ => trivial)⟩⟩ rfl rfl hl.1 rfl (lv_room (Nat.le_of_ble_eq_true rfl)) dX12_clause_218 ⟨Nat.le_of_ble_eq_true rfl, Nat.le_of_ble_eq_true rfl⟩) hS (fun q _ h => hFc q h) hFc (fun u t H1 locs ht hvm hwra83 hB hz1 hk1 hS => ?_)
                          obtain ⟨x84, oa_x84, ob_x84, hP1, hK1, hD1⟩ := hB
                          rw [ht] at hP1
                          obtain ⟨hP, hD⟩ := va_join (wr := (wd_f36c9d1b h1 g0 f18 h2 g1 fn76 h3 g2 fn77 h4 g3 fn78 h5 g4 f22 h6 g5 fn25 h7 g6 fn80 h8 g7 f25)) (w1 := (wd_171f232f h0 v0 h1 v1 x82 x84 0 h2 h3 h4 h5 h6 h7 h8 v3 v4 r0 r1 r2 r3 v5 r4 r5 v6 v7 r6 r7 v8 v9 r8 v10 v11 r9 v12 w13 r10 v14 v15 r11 r12 r13 r14 r15 r16 v16 r17 r18 r19 v17)) hP hD [0] [1, 2, 3, 4, 5, 6, 7, 8] rfl rfl (by decide) (by decide) hk1 hFc hP1 hD1
                          generalize H1 = H at hP hS ⊢
                          have hP := hP.sub (ws' := (wd_d5ef5423 h0 v0 h1 v1 x82 x84 0 h2 h3 h4 h5 h6 h7 h8 v3 v4 r0 r1 r2 r3 v5 r4 r5 v6 v7 r6 r7 v8 v9 r8 v10 v11 r9 v12 w13 r10 v14 v15 r11 r12 r13 r14 r15 r16 v16 r17 r18 r19 v17 h1 g0 f18 h2 g1 fn76 h3 g2 fn77 h4 g3 fn78 h5 g4 f22 h6 g5 fn25 h7 g6 fn80 h8 g7 f25)) [8, 0, 1, 2, 3, 4, 5, 6, 7] rfl
                          have hD := hD.sub (ws' := (wd_d5ef5423 h0 v0 h1 v1 x82 x84 0 h2 h3 h4 h5 h6 h7 h8 v3 v4 r0 r1 r2 r3 v5 r4 r5 v6 v7 r6 r7 v8 v9 r8 v10 v11 r9 v12 w13 r10 v14 v15 r11 r12 r13 r14 r15 r16 v16 r17 r18 r19 v17 h1 g0 f18 h2 g1 fn76 h3 g2 fn77 h4 g3 fn78 h5 g4 f22 h6 g5 fn25 h7 g6 fn80 h8 g7 f25)) [8, 0, 1, 2, 3, 4, 5, 6, 7] (by decide) rfl
                          have hP : va_P (dC, dI) vwCl (wd_d5ef5423 h0 v0 h1 v1 x82 x84 0 h2 h3 h4 h5 h6 h7 h8 v3 v4 r0 r1 r2 r3 v5 r4 r5 v6 v7 r6 r7 v8 v9 r8 v10 v11 r9 v12 w13 r10 v14 v15 r11 r12 r13 r14 r15 r16 v16 r17 r18 r19 v17 h1 g0 f18 h2 g1 fn76 h3 g2 fn77 h4 g3 fn78 h5 g4 f22 h6 g5 fn25 h7 g6 fn80 h8 g7 f25) H := hP
                          have hD : va_D A (wd_d5ef5423 h0 v0 h1 v1 x82 x84 0 h2 h3 h4 h5 h6 h7 h8 v3 v4 r0 r1 r2 r3 v5 r4 r5 v6 v7 r6 r7 v8 v9 r8 v10 v11 r9 v12 w13 r10 v14 v15 r11 r12 r13 r14 r15 r16 v16 r17 r18 r19 v17 h1 g0 f18 h2 g1 fn76 h3 g2 fn77 h4 g3 fn78 h5 g4 f22 h6 g5 fn25 h7 g6 fn80 h8 g7 f25) := hD
                          subst hQ
                          have hP9 := hP.sub (ws' := (wd_d5ef5423 h0 v0 h1 v1 x82 x84 0 h2 h3 h4 h5 h6 h7 h8 v3 v4 r0 r1 r2 r3 v5 r4 r5 v6 v7 r6 r7 v8 v9 r8 v10 v11 r9 v12 w13 r10 v14 v15 r11 r12 r13 r14 r15 r16 v16 r17 r18 r19 v17 h1 g0 f18 h2 g1 fn76 h3 g2 fn77 h4 g3 fn78 h5 g4 f22 h6 g5 fn25 h7 g6 fn80 h8 g7 f25)) [0, 1, 2, 3, 4, 5, 6, 7, 8] rfl
                          have hD9 := hD.sub (ws' := (wd_d5ef5423 h0 v0 h1 v1 x82 x84 0 h2 h3 h4 h5 h6 h7 h8 v3 v4 r0 r1 r2 r3 v5 r4 r5 v6 v7 r6 r7 v8 v9 r8 v10 v11 r9 v12 w13 r10 v14 v15 r11 r12 r13 r14 r15 r16 v16 r17 r18 r19 v17 h1 g0 f18 h2 g1 fn76 h3 g2 fn77 h4 g3 fn78 h5 g4 f22 h6 g5 fn25 h7 g6 fn80 h8 g7 f25)) [0, 1, 2, 3, 4, 5, 6, 7, 8] (by decide) rfl
                          have hK9 := hK.sub (tys' := []) [] rfl
                          exact W.vret hx hb hr (fun t ht hW => ⟨⟨(), rfl, trivial, Or.inr (⟨x82, x84, 0, fn76, fn77, fn78, f22, fn25, fn80, f25, by first | omega | decide, by first | omega | decide, by first | omega | decide, by first | omega | decide, by exact pm_Oth.mk hgF ho1 ho2 ho3 ho4 (by omega) (by omega) (by omega) (by omega), by rw [ht]; exact hP9, va_K.moved hW.alike hK9, hD9⟩)⟩, hS.F ht⟩) hS.2.2 dX12_clause_221
                        · skip
                          obtain ⟨x85, oa_x85, ob_x85, pt0_ra81, pt1_ra81, pt2_ra81, pt3_ra81, pt4_ra81, hP1, hK1, hD1⟩ := hB
                          rw [ht] at hP1
                          obtain ⟨hP, hD⟩ := va_join (wr := (wd_55284813 h2 g1 fn76 h3 g2 fn77 h4 g3 fn78 h5 g4 f22 h6 g5 fn25 h7 g6 fn80 h8 g7 f25)) (w1 := (wd_f4cd022e h0 v0 h1 v1 x85 (-1) 0 h2 h3 h4 h5 h6 h7 h8 v3 v4 r0 r1 r2 r3 v5 r4 r5 v6 v7 r6 r7 v8 v9 r8 v10 v11 r9 v12 w13 r10 v14 v15 r11 r12 r13 r14 r15 r16 v16 r17 r18 r19 v17 h1 g0 f18)) hP hD [0, 1] [2, 3, 4, 5, 6, 7, 8] rfl rfl (by decide) (by decide) hk1 hFc hP1 hD1
                          generalize H1 = H at hP hS ⊢
                          have hP := hP.sub (ws' := (wd_d5ef5423 h0 v0 h1 v1 x85 (-1) 0 h2 h3 h4 h5 h6 h7 h8 v3 v4 r0 r1 r2 r3 v5 r4 r5 v6 v7 r6 r7 v8 v9 r8 v10 v11 r9 v12 w13 r10 v14 v15 r11 r12 r13 r14 r15 r16 v16 r17 r18 r19 v17 h1 g0 f18 h2 g1 fn76 h3 g2 fn77 h4 g3 fn78 h5 g4 f22 h6 g5 fn25 h7 g6 fn80 h8 g7 f25)) [7, 8, 0, 1, 2, 3, 4, 5, 6] rfl
                          have hD := hD.sub (ws' := (wd_d5ef5423 h0 v0 h1 v1 x85 (-1) 0 h2 h3 h4 h5 h6 h7 h8 v3 v4 r0 r1 r2 r3 v5 r4 r5 v6 v7 r6 r7 v8 v9 r8 v10 v11 r9 v12 w13 r10 v14 v15 r11 r12 r13 r14 r15 r16 v16 r17 r18 r19 v17 h1 g0 f18 h2 g1 fn76 h3 g2 fn77 h4 g3 fn78 h5 g4 f22 h6 g5 fn25 h7 g6 fn80 h8 g7 f25)) [7, 8, 0, 1, 2, 3, 4, 5, 6] (by decide) rfl
                          have hP : va_P (dC, dI) vwCl (wd_d5ef5423 h0 v0 h1 v1 x85 (-1) 0 h2 h3 h4 h5 h6 h7 h8 v3 v4 r0 r1 r2 r3 v5 r4 r5 v6 v7 r6 r7 v8 v9 r8 v10 v11 r9 v12 w13 r10 v14 v15 r11 r12 r13 r14 r15 r16 v16 r17 r18 r19 v17 h1 g0 f18 h2 g1 fn76 h3 g2 fn77 h4 g3 fn78 h5 g4 f22 h6 g5 fn25 h7 g6 fn80 h8 g7 f25) H := hP
                          have hD : va_D A (wd_d5ef5423 h0 v0 h1 v1 x85 (-1) 0 h2 h3 h4 h5 h6 h7 h8 v3 v4 r0 r1 r2 r3 v5 r4 r5 v6 v7 r6 r7 v8 v9 r8 v10 v11 r9 v12 w13 r10 v14 v15 r11 r12 r13 r14 r15 r16 v16 r17 r18 r19 v17 h1 g0 f18 h2 g1 fn76 h3 g2 fn77 h4 g3 fn78 h5 g4 f22 h6 g5 fn25 h7 g6 fn80 h8 g7 f25) := hD
                          refine lv_bipush (v := 63) hx hb dX12_clause_212 (by decide) ?_
                          refine lv_icmp_eq (tgt := 222) hx hb dX12_clause_214 (by decide) (fun c86 => ?_) (fun c86 => ?_)
                          · skip
                            have fc86 : ra81.toInt = 63 := congrArg Int32.toInt c86
                            refine lv_aload_n hx hb dX12_clause_222 rfl (lv_at hl 2 rfl) ?_
                            refine lv_dup hx hb dX12_clause_223 rfl ?_
                            refine va_get (D := (dC, dI)) (ci := 12) (v := .int x85) (C := RX12) (T := TX12) (N := 48) hx hb hts (fun _ h => List.mem_cons_of_mem _ (List.mem_append_right _ h)) hown hK hP 0 rfl rfl 3 (by decide) (hts (.fieldLink RX12 112 "LeftArgumentsModel" "at" "I") (List.mem_cons_of_mem _ (List.mem_append_left _ (List.mem_of_getElem? (i := 5) rfl)))) (fun _ h9 => h9) rfl dX12_clause_224 ?_
                            refine lv_iconst (v := 1) hx hb dX12_clause_227 (by decide) ?_
                            refine lv_iadd hx hb dX12_clause_228 ?_
                            refine lv_topi (fun t87 et87 => ?_)
                            have gt87 : t87.toInt = x85.toInt + 1 := pv_add (a := x85.toInt) (b := 1) et87 rfl (by decide) (by omega) (by omega)
                            refine va_put (D := (dC, dI)) (ci := 12) (v := .int t87) (ty := .int) (C := RX12) (T := TX12) (N := 48) hx hb hts (fun _ h => List.mem_cons_of_mem _ (List.mem_append_right _ h)) tyX12 tyX12_ok nmX12 hown hK hP hD hS 0 rfl rfl 3 (by decide) (hts (.fieldLink RX12 112 "LeftArgumentsModel" "at" "I") (List.mem_cons_of_mem _ (List.mem_append_left _ (List.mem_of_getElem? (i := 5) rfl)))) (fun _ h9 => h9) rfl (by decide +kernel) rfl rfl (Nat.le_of_ble_eq_true rfl) dX12_clause_229 (fun H locs hP hD hS => ?_)
                            have hP : va_P (dC, dI) vwCl (wd_d5ef5423 h0 v0 h1 v1 t87 (-1) 0 h2 h3 h4 h5 h6 h7 h8 v3 v4 r0 r1 r2 r3 v5 r4 r5 v6 v7 r6 r7 v8 v9 r8 v10 v11 r9 v12 w13 r10 v14 v15 r11 r12 r13 r14 r15 r16 v16 r17 r18 r19 v17 h1 g0 f18 h2 g1 fn76 h3 g2 fn77 h4 g3 fn78 h5 g4 f22 h6 g5 fn25 h7 g6 fn80 h8 g7 f25) H := hP
                            have hD : va_D A (wd_d5ef5423 h0 v0 h1 v1 t87 (-1) 0 h2 h3 h4 h5 h6 h7 h8 v3 v4 r0 r1 r2 r3 v5 r4 r5 v6 v7 r6 r7 v8 v9 r8 v10 v11 r9 v12 w13 r10 v14 v15 r11 r12 r13 r14 r15 r16 v16 r17 r18 r19 v17 h1 g0 f18 h2 g1 fn76 h3 g2 fn77 h4 g3 fn78 h5 g4 f22 h6 g5 fn25 h7 g6 fn80 h8 g7 f25) := hD
                            refine lv_aload_n hx hb dX12_clause_232 rfl (lv_at hl 2 rfl) ?_
                            refine va_get (D := (dC, dI)) (ci := 12) (v := .ref h7) (C := RX12) (T := TX12) (N := 48) hx hb hts (fun _ h => List.mem_cons_of_mem _ (List.mem_append_right _ h)) hown hK hP 0 rfl rfl 11 (by decide) (hts (.fieldLink RX12 28 "LeftArgumentsModel" "sumFrom" "[I") (List.mem_cons_of_mem _ (List.mem_append_left _ (List.mem_of_getElem? (i := 21) rfl)))) (fun _ h9 => h9) rfl dX12_clause_233 ?_
                            refine lv_iload_n hx hb dX12_clause_236 rfl (lv_at hl 1 rfl) ?_
                            refine lv_aload_n hx hb dX12_clause_237 rfl (lv_at hl 2 rfl) ?_
                            refine va_get (D := (dC, dI)) (ci := 12) (v := .ref h4) (C := RX12) (T := TX12) (N := 48) hx hb hts (fun _ h => List.mem_cons_of_mem _ (List.mem_append_right _ h)) hown hK hP 0 rfl rfl 8 (by decide) (hts (.fieldLink RX12 19 "LeftArgumentsModel" "codes" "[I") (List.mem_cons_of_mem _ (List.mem_append_left _ (List.mem_of_getElem? (i := 20) rfl)))) (fun _ h9 => h9) rfl dX12_clause_238 ?_
                            refine lv_aload_n hx hb dX12_clause_241 rfl (lv_at hl 2 rfl) ?_
                            refine va_get (D := (dC, dI)) (ci := 12) (v := .int v4) (C := RX12) (T := TX12) (N := 48) hx hb hts (fun _ h => List.mem_cons_of_mem _ (List.mem_append_right _ h)) hown hK hP 0 rfl rfl 14 (by decide) (hts (.fieldLink RX12 122 "LeftArgumentsModel" "text" "I") (List.mem_cons_of_mem _ (List.mem_append_left _ (List.mem_of_getElem? (i := 0) rfl)))) (fun _ h9 => h9) rfl dX12_clause_242 ?_
                            refine va_iald hx hb hK hP 4 3 rfl rfl (vp_in_iff.mpr ⟨by omega, by omega⟩) dX12_clause_245 ?_
                            refine lv_topi (fun t88 et88 => ?_)
                            have hqt88 : t88.toInt = pm_x fn78 v4 := by rw [et88]; rfl
                            have gqt88 : 0 ≤ t88.toInt ∧ t88.toInt ≤ 500 := by constructor <;> omega
                            refine va_iast hx hb hK hP hD hS 7 6 rfl rfl (vp_in_iff.mpr ⟨by omega, by omega⟩) dX12_clause_246 (fun H locs hP hD hS => ?_)
                            obtain ⟨fn89, efn89⟩ : ∃ g : Nat → Int32, g = upd fn80 (Int32.toNatClampNeg t3) t88 := ⟨_, rfl⟩
                            rw [← efn89] at hP hD
                            have hP : va_P (dC, dI) vwCl (wd_d5ef5423 h0 v0 h1 v1 t87 (-1) 0 h2 h3 h4 h5 h6 h7 h8 v3 v4 r0 r1 r2 r3 v5 r4 r5 v6 v7 r6 r7 v8 v9 r8 v10 v11 r9 v12 w13 r10 v14 v15 r11 r12 r13 r14 r15 r16 v16 r17 r18 r19 v17 h1 g0 f18 h2 g1 fn76 h3 g2 fn77 h4 g3 fn78 h5 g4 f22 h6 g5 fn25 h7 g6 fn89 h8 g7 f25) H := hP
                            have hD : va_D A (wd_d5ef5423 h0 v0 h1 v1 t87 (-1) 0 h2 h3 h4 h5 h6 h7 h8 v3 v4 r0 r1 r2 r3 v5 r4 r5 v6 v7 r6 r7 v8 v9 r8 v10 v11 r9 v12 w13 r10 v14 v15 r11 r12 r13 r14 r15 r16 v16 r17 r18 r19 v17 h1 g0 f18 h2 g1 fn76 h3 g2 fn77 h4 g3 fn78 h5 g4 f22 h6 g5 fn25 h7 g6 fn89 h8 g7 f25) := hD
                            have hk2 : fn89 (Int32.toNatClampNeg t3) = t88 := by rw [efn89]; exact pk_us
                            have ho2 : ∀ j : Nat, ¬ j = Int32.toNatClampNeg t3 → fn89 j = f24 j := fun j h9 => by rw [efn89, pk_un h9]; exact ho2 j h9
                            have hg1 := hgR; have hgE := hgF
                            have hgR := pm_R.refl (L := 0) v4 fn76 fn77 fn78 (by omega)
                            refine lv_aload_n hx hb dX12_clause_247 rfl (lv_at hl 2 rfl) ?_
                            have hPc := hP.sub (ws' := (wd_d906eaf1 h0 v0 h1 v1 t87 (-1) 0 h2 h3 h4 h5 h6 h7 h8 v3 v4 r0 r1 r2 r3 v5 r4 r5 v6 v7 r6 r7 v8 v9 r8 v10 v11 r9 v12 w13 r10 v14 v15 r11 r12 r13 r14 r15 r16 v16 r17 r18 r19 v17 h1 g0 f18 h2 g1 fn76 h3 g2 fn77 h4 g3 fn78)) [0, 1, 2, 3, 4] rfl
                            have hDc := hD.sub (ws' := (wd_d906eaf1 h0 v0 h1 v1 t87 (-1) 0 h2 h3 h4 h5 h6 h7 h8 v3 v4 r0 r1 r2 r3 v5 r4 r5 v6 v7 r6 r7 v8 v9 r8 v10 v11 r9 v12 w13 r10 v14 v15 r11 r12 r13 r14 r15 r16 v16 r17 r18 r19 v17 h1 g0 f18 h2 g1 fn76 h3 g2 fn77 h4 g3 fn78)) [0, 1, 2, 3, 4] (by decide) rfl
                            have hKc := hK.sub (tys' := [(g0, .int), (g1, .int), (g2, .int), (g3, .int)]) [0, 1, 2, 3] rfl
                            have hFc := va_free (wc := (wd_d906eaf1 h0 v0 h1 v1 t87 (-1) 0 h2 h3 h4 h5 h6 h7 h8 v3 v4 r0 r1 r2 r3 v5 r4 r5 v6 v7 r6 r7 v8 v9 r8 v10 v11 r9 v12 w13 r10 v14 v15 r11 r12 r13 r14 r15 r16 v16 r17 r18 r19 v17 h1 g0 f18 h2 g1 fn76 h3 g2 fn77 h4 g3 fn78)) hD hS hA [0, 1, 2, 3, 4] rfl
                            refine va_callv (va_runV (As := []) (rest := []) ⟨hx, hb, hml, hown, hts⟩ (k_X12_sum_6 l dC dI h0 h1 h2 h3 h4 v0 v1 t87 h5 h6 h7 h8 v3 v4 r0 r1 r2 r3 v5 r4 r5 v6 v7 r6 r7 v8 v9 r8 v10 v11 r9 v12 w13 r10 v14 v15 r11 r12 r13 r14 r15 r16 v16 r17 r18 r19 v17 g0 f18 g1 fn76 g2 fn77 g3 fn78 ⟨by first | omega | decide, by first | omega | decide⟩ ⟨by first | omega | decide, by first | omega | decide⟩ ⟨by first | omega | decide, by first | omega | decide⟩ ⟨by first | omega | decide, by first | omega | decide⟩ ⟨by first | omega | decide, by first | omega | decide⟩ ⟨by first | omega | decide, by first | omega | decide⟩ ⟨by first | omega | decide, by first | omega | decide⟩ ⟨by first | omega | decide, by first | omega | decide⟩ ⟨by first | omega | decide, by first | omega | decide⟩ ⟨by first | omega | decide, by first | omega | decide⟩ ⟨by first | omega | decide, by first | omega | decide⟩ ia_f18 (by constructor <;> omega) H.size) (cwV 0 hts g_X12_clause_4 rfl rfl rfl (by decide +kernel) ⟨Nat.le_of_ble_eq_true rfl, Nat.le_of_ble_eq_true rfl⟩) ⟨fun a U g mk q => by obtain ⟨q0, q1, qP, qK, qD⟩ := q; exact ⟨q0, q1, qP, va_K.moved (u := U) (U := U.calling g mk a) (Vm.Alike.refl U.vm) qK, qD⟩, va_recv hKc hPc (ci := 12) (q0 := 0) rfl rfl, fun U hU hW => ⟨rfl, by rw [hU], by rw [hU]; exact hPc, va_K.moved hW.alike hKc, hDc.weaken (fun _ _ _ _ => trivial)⟩⟩ rfl rfl hl.1 rfl (lv_room (Nat.le_of_ble_eq_true rfl)) dX12_clause_248 ⟨Nat.le_of_ble_eq_true rfl, Nat.le_of_ble_eq_true rfl⟩) hS (fun q _ h => hFc q h) hFc (fun u t H1 locs ht hvm hwra90 hB hz1 hk1 hS => ?_)
                            rcases hB with hB | hB
                            · skip
                              obtain ⟨x91, fn92, fn93, fn94, oa_x91, ob_x91, pt0_ra90, pt1_ra90, hP1, hK1, hD1⟩ := hB
                              rw [ht] at hP1
                              obtain ⟨hP, hD⟩ := va_join (wr := (wd_9ed5f2f7 h5 g4 f22 h6 g5 fn25 h7 g6 fn89 h8 g7 f25)) (w1 := (wd_d906eaf1 h0 v0 h1 v1 x91 (-1) 0 h2 h3 h4 h5 h6 h7 h8 v3 v4 r0 r1 r2 r3 v5 r4 r5 v6 v7 r6 r7 v8 v9 r8 v10 v11 r9 v12 w13 r10 v14 v15 r11 r12 r13 r14 r15 r16 v16 r17 r18 r19 v17 h1 g0 f18 h2 g1 fn92 h3 g2 fn93 h4 g3 fn94)) hP hD [0, 1, 2, 3, 4] [5, 6, 7, 8] rfl rfl (by decide) (by decide) hk1 hFc hP1 hD1
                              generalize H1 = H at hP hS ⊢
                              have hP := hP.sub (ws' := (wd_d5ef5423 h0 v0 h1 v1 x91 (-1) 0 h2 h3 h4 h5 h6 h7 h8 v3 v4 r0 r1 r2 r3 v5 r4 r5 v6 v7 r6 r7 v8 v9 r8 v10 v11 r9 v12 w13 r10 v14 v15 r11 r12 r13 r14 r15 r16 v16 r17 r18 r19 v17 h1 g0 f18 h2 g1 fn92 h3 g2 fn93 h4 g3 fn94 h5 g4 f22 h6 g5 fn25 h7 g6 fn89 h8 g7 f25)) [4, 5, 6, 7, 8, 0, 1, 2, 3] rfl
                              have hD := hD.sub (ws' := (wd_d5ef5423 h0 v0 h1 v1 x91 (-1) 0 h2 h3 h4 h5 h6 h7 h8 v3 v4 r0 r1 r2 r3 v5 r4 r5 v6 v7 r6 r7 v8 v9 r8 v10 v11 r9 v12 w13 r10 v14 v15 r11 r12 r13 r14 r15 r16 v16 r17 r18 r19 v17 h1 g0 f18 h2 g1 fn92 h3 g2 fn93 h4 g3 fn94 h5 g4 f22 h6 g5 fn25 h7 g6 fn89 h8 g7 f25)) [4, 5, 6, 7, 8, 0, 1, 2, 3] (by decide) rfl
                              have hP : va_P (dC, dI) vwCl (wd_d5ef5423 h0 v0 h1 v1 x91 (-1) 0 h2 h3 h4 h5 h6 h7 h8 v3 v4 r0 r1 r2 r3 v5 r4 r5 v6 v7 r6 r7 v8 v9 r8 v10 v11 r9 v12 w13 r10 v14 v15 r11 r12 r13 r14 r15 r16 v16 r17 r18 r19 v17 h1 g0 f18 h2 g1 fn92 h3 g2 fn93 h4 g3 fn94 h5 g4 f22 h6 g5 fn25 h7 g6 fn89 h8 g7 f25) H := hP
                              have hD : va_D A (wd_d5ef5423 h0 v0 h1 v1 x91 (-1) 0 h2 h3 h4 h5 h6 h7 h8 v3 v4 r0 r1 r2 r3 v5 r4 r5 v6 v7 r6 r7 v8 v9 r8 v10 v11 r9 v12 w13 r10 v14 v15 r11 r12 r13 r14 r15 r16 v16 r17 r18 r19 v17 h1 g0 f18 h2 g1 fn92 h3 g2 fn93 h4 g3 fn94 h5 g4 f22 h6 g5 fn25 h7 g6 fn89 h8 g7 f25) := hD
                              have hgR := hgR.app (k' := 1) (D := 15) pt1_ra90 (by decide) (by decide) (by decide) (by decide)
                              have hgF := hgR.1
                              have hxl := hgF.1
                              have hgF := hgE.app hgR.1; have hxl := hgF.1; have hxl2 := hgR.1.1
                              refine lv_aload_n hx hb dX12_clause_251 rfl (lv_at hl 2 rfl) ?_
                              refine va_get (D := (dC, dI)) (ci := 12) (v := .ref h8) (C := RX12) (T := TX12) (N := 48) hx hb hts (fun _ h => List.mem_cons_of_mem _ (List.mem_append_right _ h)) hown hK hP 0 rfl rfl 12 (by decide) (hts (.fieldLink RX12 31 "LeftArgumentsModel" "sumTo" "[I") (List.mem_cons_of_mem _ (List.mem_append_left _ (List.mem_of_getElem? (i := 22) rfl)))) (fun _ h9 => h9) rfl dX12_clause_252 ?_
                              refine lv_iload_n hx hb dX12_clause_255 rfl (lv_at hl 1 rfl) ?_
                              refine lv_aload_n hx hb dX12_clause_256 rfl (lv_at hl 2 rfl) ?_
                              refine va_get (D := (dC, dI)) (ci := 12) (v := .ref h4) (C := RX12) (T := TX12) (N := 48) hx hb hts (fun _ h => List.mem_cons_of_mem _ (List.mem_append_right _ h)) hown hK hP 0 rfl rfl 8 (by decide) (hts (.fieldLink RX12 19 "LeftArgumentsModel" "codes" "[I") (List.mem_cons_of_mem _ (List.mem_append_left _ (List.mem_of_getElem? (i := 20) rfl)))) (fun _ h9 => h9) rfl dX12_clause_257 ?_
                              refine lv_aload_n hx hb dX12_clause_260 rfl (lv_at hl 2 rfl) ?_
                              refine va_get (D := (dC, dI)) (ci := 12) (v := .int v4) (C := RX12) (T := TX12) (N := 48) hx hb hts (fun _ h => List.mem_cons_of_mem _ (List.mem_append_right _ h)) hown hK hP 0 rfl rfl 14 (by decide) (hts (.fieldLink RX12 122 "LeftArgumentsModel" "text" "I") (List.mem_cons_of_mem _ (List.mem_append_left _ (List.mem_of_getElem? (i := 0) rfl)))) (fun _ h9 => h9) rfl dX12_clause_261 ?_
                              refine va_iald hx hb hK hP 4 3 rfl rfl (vp_in_iff.mpr ⟨by omega, by omega⟩) dX12_clause_264 ?_
                              refine lv_topi (fun t95 et95 => ?_)
                              have hqt95 : t95.toInt = pm_x fn94 v4 := by rw [et95]; rfl
                              have gqt95 : 0 ≤ t95.toInt ∧ t95.toInt ≤ 500 := by constructor <;> omega
                              refine va_iast hx hb hK hP hD hS 8 7 rfl rfl (vp_in_iff.mpr ⟨by omega, by omega⟩) dX12_clause_265 (fun H locs hP hD hS => ?_)
                              obtain ⟨fn96, efn96⟩ : ∃ g : Nat → Int32, g = upd f25 (Int32.toNatClampNeg t3) t95 := ⟨_, rfl⟩
                              rw [← efn96] at hP hD
                              have hP : va_P (dC, dI) vwCl (wd_d5ef5423 h0 v0 h1 v1 x91 (-1) 0 h2 h3 h4 h5 h6 h7 h8 v3 v4 r0 r1 r2 r3 v5 r4 r5 v6 v7 r6 r7 v8 v9 r8 v10 v11 r9 v12 w13 r10 v14 v15 r11 r12 r13 r14 r15 r16 v16 r17 r18 r19 v17 h1 g0 f18 h2 g1 fn92 h3 g2 fn93 h4 g3 fn94 h5 g4 f22 h6 g5 fn25 h7 g6 fn89 h8 g7 fn96) H := hP
                              have hD : va_D A (wd_d5ef5423 h0 v0 h1 v1 x91 (-1) 0 h2 h3 h4 h5 h6 h7 h8 v3 v4 r0 r1 r2 r3 v5 r4 r5 v6 v7 r6 r7 v8 v9 r8 v10 v11 r9 v12 w13 r10 v14 v15 r11 r12 r13 r14 r15 r16 v16 r17 r18 r19 v17 h1 g0 f18 h2 g1 fn92 h3 g2 fn93 h4 g3 fn94 h5 g4 f22 h6 g5 fn25 h7 g6 fn89 h8 g7 fn96) := hD
                              have hk3 : fn96 (Int32.toNatClampNeg t3) = t95 := by rw [efn96]; exact pk_us
                              have ho3 : ∀ j : Nat, ¬ j = Int32.toNatClampNeg t3 → fn96 j = f25 j := fun j h9 => by rw [efn96, pk_un h9]; exact ho3 j h9
                              refine lv_aload_n hx hb dX12_clause_266 rfl (lv_at hl 2 rfl) ?_
                              refine va_get (D := (dC, dI)) (ci := 12) (v := .ref h5) (C := RX12) (T := TX12) (N := 48) hx hb hts (fun _ h => List.mem_cons_of_mem _ (List.mem_append_right _ h)) hown hK hP 0 rfl rfl 9 (by decide) (hts (.fieldLink RX12 22 "LeftArgumentsModel" "clauses" "[I") (List.mem_cons_of_mem _ (List.mem_append_left _ (List.mem_of_getElem? (i := 1) rfl)))) (fun _ h9 => h9) rfl dX12_clause_267 ?_
                              refine lv_aload_n hx hb dX12_clause_270 rfl (lv_at hl 2 rfl) ?_
                              refine va_get (D := (dC, dI)) (ci := 12) (v := .int v4) (C := RX12) (T := TX12) (N := 48) hx hb hts (fun _ h => List.mem_cons_of_mem _ (List.mem_append_right _ h)) hown hK hP 0 rfl rfl 14 (by decide) (hts (.fieldLink RX12 122 "LeftArgumentsModel" "text" "I") (List.mem_cons_of_mem _ (List.mem_append_left _ (List.mem_of_getElem? (i := 0) rfl)))) (fun _ h9 => h9) rfl dX12_clause_271 ?_
                              refine lv_dup2_11 hx hb dX12_clause_274 rfl rfl ?_
                              refine va_iald hx hb hK hP 5 4 rfl rfl (vp_in_iff.mpr ⟨by omega, by omega⟩) dX12_clause_275 ?_
                              refine lv_topi (fun t97 et97 => ?_)
                              have gmt97 : t97.toInt = t2.toInt := by rw [et97, et2]
                              have hqt97 : t97.toInt = pm_x f22 v4 := by rw [et97]; rfl
                              have gqt97 : 0 ≤ t97.toInt ∧ t97.toInt ≤ 120 := by constructor <;> omega
                              refine lv_iconst (v := 1) hx hb dX12_clause_276 (by decide) ?_
                              refine lv_iadd hx hb dX12_clause_277 ?_
                              refine lv_topi (fun t98 et98 => ?_)
                              have gt98 : t98.toInt = t97.toInt + 1 := pv_add (a := t97.toInt) (b := 1) et98 rfl (by decide) (by omega) (by omega)
                              refine va_iast hx hb hK hP hD hS 5 4 rfl rfl (vp_in_iff.mpr ⟨by omega, by omega⟩) dX12_clause_278 (fun H locs hP hD hS => ?_)
                              obtain ⟨fn99, efn99⟩ : ∃ g : Nat → Int32, g = upd f22 (Int32.toNatClampNeg v4) t98 := ⟨_, rfl⟩
                              rw [← efn99] at hP hD
                              have hP : va_P (dC, dI) vwCl (wd_d5ef5423 h0 v0 h1 v1 x91 (-1) 0 h2 h3 h4 h5 h6 h7 h8 v3 v4 r0 r1 r2 r3 v5 r4 r5 v6 v7 r6 r7 v8 v9 r8 v10 v11 r9 v12 w13 r10 v14 v15 r11 r12 r13 r14 r15 r16 v16 r17 r18 r19 v17 h1 g0 f18 h2 g1 fn92 h3 g2 fn93 h4 g3 fn94 h5 g4 fn99 h6 g5 fn25 h7 g6 fn89 h8 g7 fn96) H := hP
                              have hD : va_D A (wd_d5ef5423 h0 v0 h1 v1 x91 (-1) 0 h2 h3 h4 h5 h6 h7 h8 v3 v4 r0 r1 r2 r3 v5 r4 r5 v6 v7 r6 r7 v8 v9 r8 v10 v11 r9 v12 w13 r10 v14 v15 r11 r12 r13 r14 r15 r16 v16 r17 r18 r19 v17 h1 g0 f18 h2 g1 fn92 h3 g2 fn93 h4 g3 fn94 h5 g4 fn99 h6 g5 fn25 h7 g6 fn89 h8 g7 fn96) := hD
                              have ho4 : ∀ j : Nat, ¬ j = Int32.toNatClampNeg v4 → fn99 j = f22 j := fun j h9 => by rw [efn99, pk_un h9]
                              have hk4 : pm_x fn99 v4 = pm_x f22 v4 + 1 := by rw [efn99]; show (upd _ _ _ _).toInt = _; rw [pk_us]; omega
                              subst hQ
                              have sg1 := (hg1.seg (f := t24) (t := t88) (by omega) (by omega) (by decide) (by omega) (by omega)).fr hgR.1 (by omega) (by omega)
                              have sg2 := hgR.seg (f := t88) (t := t95) (by omega) (by omega) (by decide) (by omega) (by omega)
                              have hP9 := hP.sub (ws' := (wd_d5ef5423 h0 v0 h1 v1 x91 (-1) 0 h2 h3 h4 h5 h6 h7 h8 v3 v4 r0 r1 r2 r3 v5 r4 r5 v6 v7 r6 r7 v8 v9 r8 v10 v11 r9 v12 w13 r10 v14 v15 r11 r12 r13 r14 r15 r16 v16 r17 r18 r19 v17 h1 g0 f18 h2 g1 fn92 h3 g2 fn93 h4 g3 fn94 h5 g4 fn99 h6 g5 fn25 h7 g6 fn89 h8 g7 fn96)) [0, 1, 2, 3, 4, 5, 6, 7, 8] rfl
                              have hD9 := hD.sub (ws' := (wd_d5ef5423 h0 v0 h1 v1 x91 (-1) 0 h2 h3 h4 h5 h6 h7 h8 v3 v4 r0 r1 r2 r3 v5 r4 r5 v6 v7 r6 r7 v8 v9 r8 v10 v11 r9 v12 w13 r10 v14 v15 r11 r12 r13 r14 r15 r16 v16 r17 r18 r19 v17 h1 g0 f18 h2 g1 fn92 h3 g2 fn93 h4 g3 fn94 h5 g4 fn99 h6 g5 fn25 h7 g6 fn89 h8 g7 fn96)) [0, 1, 2, 3, 4, 5, 6, 7, 8] (by decide) rfl
                              have hK9 := hK.sub (tys' := []) [] rfl
                              exact W.vret hx hb hr (fun t ht hW => ⟨⟨(), rfl, trivial, Or.inl ⟨x91, fn92, fn93, fn94, fn99, fn25, fn89, fn96, by first | omega | decide, by first | omega | decide, by refine ⟨?_, ?_, ?_⟩ <;> omega, by exact hk4, by exact pm_Rw.add pp2 hgF hk1 hk2 hk3 ho1 ho2 ho3 (by omega) (by omega) (by omega) hk4 sg1 sg2 (by omega), by exact pm_Oth.mk hgF ho1 ho2 ho3 ho4 (by omega) (by omega) (by omega) (by omega), by rw [ht]; exact hP9, va_K.moved hW.alike hK9, hD9⟩⟩, hS.F ht⟩) hS.2.2 dX12_clause_279
                            · skip
                              obtain ⟨x100, x101, x102, fn103, fn104, fn105, oa_x100, ob_x100, oa_x101, ob_x101, pt0_ra90, pt1_ra90, hP1, hK1, hD1⟩ := hB
                              rw [ht] at hP1
                              obtain ⟨hP, hD⟩ := va_join (wr := (wd_9ed5f2f7 h5 g4 f22 h6 g5 fn25 h7 g6 fn89 h8 g7 f25)) (w1 := (wd_d906eaf1 h0 v0 h1 v1 x100 x101 x102 h2 h3 h4 h5 h6 h7 h8 v3 v4 r0 r1 r2 r3 v5 r4 r5 v6 v7 r6 r7 v8 v9 r8 v10 v11 r9 v12 w13 r10 v14 v15 r11 r12 r13 r14 r15 r16 v16 r17 r18 r19 v17 h1 g0 f18 h2 g1 fn103 h3 g2 fn104 h4 g3 fn105)) hP hD [0, 1, 2, 3, 4] [5, 6, 7, 8] rfl rfl (by decide) (by decide) hk1 hFc hP1 hD1
                              generalize H1 = H at hP hS ⊢
                              have hP := hP.sub (ws' := (wd_d5ef5423 h0 v0 h1 v1 x100 x101 x102 h2 h3 h4 h5 h6 h7 h8 v3 v4 r0 r1 r2 r3 v5 r4 r5 v6 v7 r6 r7 v8 v9 r8 v10 v11 r9 v12 w13 r10 v14 v15 r11 r12 r13 r14 r15 r16 v16 r17 r18 r19 v17 h1 g0 f18 h2 g1 fn103 h3 g2 fn104 h4 g3 fn105 h5 g4 f22 h6 g5 fn25 h7 g6 fn89 h8 g7 f25)) [4, 5, 6, 7, 8, 0, 1, 2, 3] rfl
                              have hD := hD.sub (ws' := (wd_d5ef5423 h0 v0 h1 v1 x100 x101 x102 h2 h3 h4 h5 h6 h7 h8 v3 v4 r0 r1 r2 r3 v5 r4 r5 v6 v7 r6 r7 v8 v9 r8 v10 v11 r9 v12 w13 r10 v14 v15 r11 r12 r13 r14 r15 r16 v16 r17 r18 r19 v17 h1 g0 f18 h2 g1 fn103 h3 g2 fn104 h4 g3 fn105 h5 g4 f22 h6 g5 fn25 h7 g6 fn89 h8 g7 f25)) [4, 5, 6, 7, 8, 0, 1, 2, 3] (by decide) rfl
                              have hP : va_P (dC, dI) vwCl (wd_d5ef5423 h0 v0 h1 v1 x100 x101 x102 h2 h3 h4 h5 h6 h7 h8 v3 v4 r0 r1 r2 r3 v5 r4 r5 v6 v7 r6 r7 v8 v9 r8 v10 v11 r9 v12 w13 r10 v14 v15 r11 r12 r13 r14 r15 r16 v16 r17 r18 r19 v17 h1 g0 f18 h2 g1 fn103 h3 g2 fn104 h4 g3 fn105 h5 g4 f22 h6 g5 fn25 h7 g6 fn89 h8 g7 f25) H := hP
                              have hD : va_D A (wd_d5ef5423 h0 v0 h1 v1 x100 x101 x102 h2 h3 h4 h5 h6 h7 h8 v3 v4 r0 r1 r2 r3 v5 r4 r5 v6 v7 r6 r7 v8 v9 r8 v10 v11 r9 v12 w13 r10 v14 v15 r11 r12 r13 r14 r15 r16 v16 r17 r18 r19 v17 h1 g0 f18 h2 g1 fn103 h3 g2 fn104 h4 g3 fn105 h5 g4 f22 h6 g5 fn25 h7 g6 fn89 h8 g7 f25) := hD
                              have hgF := hgF.app pt1_ra90
                              have hxl := hgF.1
                              refine lv_aload_n hx hb dX12_clause_251 rfl (lv_at hl 2 rfl) ?_
                              refine va_get (D := (dC, dI)) (ci := 12) (v := .ref h8) (C := RX12) (T := TX12) (N := 48) hx hb hts (fun _ h => List.mem_cons_of_mem _ (List.mem_append_right _ h)) hown hK hP 0 rfl rfl 12 (by decide) (hts (.fieldLink RX12 31 "LeftArgumentsModel" "sumTo" "[I") (List.mem_cons_of_mem _ (List.mem_append_left _ (List.mem_of_getElem? (i := 22) rfl)))) (fun _ h9 => h9) rfl dX12_clause_252 ?_
                              refine lv_iload_n hx hb dX12_clause_255 rfl (lv_at hl 1 rfl) ?_
                              refine lv_aload_n hx hb dX12_clause_256 rfl (lv_at hl 2 rfl) ?_
                              refine va_get (D := (dC, dI)) (ci := 12) (v := .ref h4) (C := RX12) (T := TX12) (N := 48) hx hb hts (fun _ h => List.mem_cons_of_mem _ (List.mem_append_right _ h)) hown hK hP 0 rfl rfl 8 (by decide) (hts (.fieldLink RX12 19 "LeftArgumentsModel" "codes" "[I") (List.mem_cons_of_mem _ (List.mem_append_left _ (List.mem_of_getElem? (i := 20) rfl)))) (fun _ h9 => h9) rfl dX12_clause_257 ?_
                              refine lv_aload_n hx hb dX12_clause_260 rfl (lv_at hl 2 rfl) ?_
                              refine va_get (D := (dC, dI)) (ci := 12) (v := .int v4) (C := RX12) (T := TX12) (N := 48) hx hb hts (fun _ h => List.mem_cons_of_mem _ (List.mem_append_right _ h)) hown hK hP 0 rfl rfl 14 (by decide) (hts (.fieldLink RX12 122 "LeftArgumentsModel" "text" "I") (List.mem_cons_of_mem _ (List.mem_append_left _ (List.mem_of_getElem? (i := 0) rfl)))) (fun _ h9 => h9) rfl dX12_clause_261 ?_
                              refine va_iald hx hb hK hP 4 3 rfl rfl (vp_in_iff.mpr ⟨by omega, by omega⟩) dX12_clause_264 ?_
                              refine lv_topi (fun t106 et106 => ?_)
                              have hqt106 : t106.toInt = pm_x fn105 v4 := by rw [et106]; rfl
                              have gqt106 : 0 ≤ t106.toInt ∧ t106.toInt ≤ 500 := by constructor <;> omega
                              refine va_iast hx hb hK hP hD hS 8 7 rfl rfl (vp_in_iff.mpr ⟨by omega, by omega⟩) dX12_clause_265 (fun H locs hP hD hS => ?_)
                              obtain ⟨fn107, efn107⟩ : ∃ g : Nat → Int32, g = upd f25 (Int32.toNatClampNeg t3) t106 := ⟨_, rfl⟩
                              rw [← efn107] at hP hD
                              have hP : va_P (dC, dI) vwCl (wd_d5ef5423 h0 v0 h1 v1 x100 x101 x102 h2 h3 h4 h5 h6 h7 h8 v3 v4 r0 r1 r2 r3 v5 r4 r5 v6 v7 r6 r7 v8 v9 r8 v10 v11 r9 v12 w13 r10 v14 v15 r11 r12 r13 r14 r15 r16 v16 r17 r18 r19 v17 h1 g0 f18 h2 g1 fn103 h3 g2 fn104 h4 g3 fn105 h5 g4 f22 h6 g5 fn25 h7 g6 fn89 h8 g7 fn107) H := hP
                              have hD : va_D A (wd_d5ef5423 h0 v0 h1 v1 x100 x101 x102 h2 h3 h4 h5 h6 h7 h8 v3 v4 r0 r1 r2 r3 v5 r4 r5 v6 v7 r6 r7 v8 v9 r8 v10 v11 r9 v12 w13 r10 v14 v15 r11 r12 r13 r14 r15 r16 v16 r17 r18 r19 v17 h1 g0 f18 h2 g1 fn103 h3 g2 fn104 h4 g3 fn105 h5 g4 f22 h6 g5 fn25 h7 g6 fn89 h8 g7 fn107) := hD
                              have hk3 : fn107 (Int32.toNatClampNeg t3) = t106 := by rw [efn107]; exact pk_us
                              have ho3 : ∀ j : Nat, ¬ j = Int32.toNatClampNeg t3 → fn107 j = f25 j := fun j h9 => by rw [efn107, pk_un h9]; exact ho3 j h9
                              refine lv_aload_n hx hb dX12_clause_266 rfl (lv_at hl 2 rfl) ?_
                              refine va_get (D := (dC, dI)) (ci := 12) (v := .ref h5) (C := RX12) (T := TX12) (N := 48) hx hb hts (fun _ h => List.mem_cons_of_mem _ (List.mem_append_right _ h)) hown hK hP 0 rfl rfl 9 (by decide) (hts (.fieldLink RX12 22 "LeftArgumentsModel" "clauses" "[I") (List.mem_cons_of_mem _ (List.mem_append_left _ (List.mem_of_getElem? (i := 1) rfl)))) (fun _ h9 => h9) rfl dX12_clause_267 ?_
                              refine lv_aload_n hx hb dX12_clause_270 rfl (lv_at hl 2 rfl) ?_
                              refine va_get (D := (dC, dI)) (ci := 12) (v := .int v4) (C := RX12) (T := TX12) (N := 48) hx hb hts (fun _ h => List.mem_cons_of_mem _ (List.mem_append_right _ h)) hown hK hP 0 rfl rfl 14 (by decide) (hts (.fieldLink RX12 122 "LeftArgumentsModel" "text" "I") (List.mem_cons_of_mem _ (List.mem_append_left _ (List.mem_of_getElem? (i := 0) rfl)))) (fun _ h9 => h9) rfl dX12_clause_271 ?_
                              refine lv_dup2_11 hx hb dX12_clause_274 rfl rfl ?_
                              refine va_iald hx hb hK hP 5 4 rfl rfl (vp_in_iff.mpr ⟨by omega, by omega⟩) dX12_clause_275 ?_
                              refine lv_topi (fun t108 et108 => ?_)
                              have gmt108 : t108.toInt = t2.toInt := by rw [et108, et2]
                              have hqt108 : t108.toInt = pm_x f22 v4 := by rw [et108]; rfl
                              have gqt108 : 0 ≤ t108.toInt ∧ t108.toInt ≤ 120 := by constructor <;> omega
                              refine lv_iconst (v := 1) hx hb dX12_clause_276 (by decide) ?_
                              refine lv_iadd hx hb dX12_clause_277 ?_
                              refine lv_topi (fun t109 et109 => ?_)
                              have gt109 : t109.toInt = t108.toInt + 1 := pv_add (a := t108.toInt) (b := 1) et109 rfl (by decide) (by omega) (by omega)
                              refine va_iast hx hb hK hP hD hS 5 4 rfl rfl (vp_in_iff.mpr ⟨by omega, by omega⟩) dX12_clause_278 (fun H locs hP hD hS => ?_)
                              obtain ⟨fn110, efn110⟩ : ∃ g : Nat → Int32, g = upd f22 (Int32.toNatClampNeg v4) t109 := ⟨_, rfl⟩
                              rw [← efn110] at hP hD
                              have hP : va_P (dC, dI) vwCl (wd_d5ef5423 h0 v0 h1 v1 x100 x101 x102 h2 h3 h4 h5 h6 h7 h8 v3 v4 r0 r1 r2 r3 v5 r4 r5 v6 v7 r6 r7 v8 v9 r8 v10 v11 r9 v12 w13 r10 v14 v15 r11 r12 r13 r14 r15 r16 v16 r17 r18 r19 v17 h1 g0 f18 h2 g1 fn103 h3 g2 fn104 h4 g3 fn105 h5 g4 fn110 h6 g5 fn25 h7 g6 fn89 h8 g7 fn107) H := hP
                              have hD : va_D A (wd_d5ef5423 h0 v0 h1 v1 x100 x101 x102 h2 h3 h4 h5 h6 h7 h8 v3 v4 r0 r1 r2 r3 v5 r4 r5 v6 v7 r6 r7 v8 v9 r8 v10 v11 r9 v12 w13 r10 v14 v15 r11 r12 r13 r14 r15 r16 v16 r17 r18 r19 v17 h1 g0 f18 h2 g1 fn103 h3 g2 fn104 h4 g3 fn105 h5 g4 fn110 h6 g5 fn25 h7 g6 fn89 h8 g7 fn107) := hD
                              have ho4 : ∀ j : Nat, ¬ j = Int32.toNatClampNeg v4 → fn110 j = f22 j := fun j h9 => by rw [efn110, pk_un h9]
                              have hk4 : pm_x fn110 v4 = pm_x f22 v4 + 1 := by rw [efn110]; show (upd _ _ _ _).toInt = _; rw [pk_us]; omega
                              subst hQ
                              have hP9 := hP.sub (ws' := (wd_d5ef5423 h0 v0 h1 v1 x100 x101 x102 h2 h3 h4 h5 h6 h7 h8 v3 v4 r0 r1 r2 r3 v5 r4 r5 v6 v7 r6 r7 v8 v9 r8 v10 v11 r9 v12 w13 r10 v14 v15 r11 r12 r13 r14 r15 r16 v16 r17 r18 r19 v17 h1 g0 f18 h2 g1 fn103 h3 g2 fn104 h4 g3 fn105 h5 g4 fn110 h6 g5 fn25 h7 g6 fn89 h8 g7 fn107)) [0, 1, 2, 3, 4, 5, 6, 7, 8] rfl
                              have hD9 := hD.sub (ws' := (wd_d5ef5423 h0 v0 h1 v1 x100 x101 x102 h2 h3 h4 h5 h6 h7 h8 v3 v4 r0 r1 r2 r3 v5 r4 r5 v6 v7 r6 r7 v8 v9 r8 v10 v11 r9 v12 w13 r10 v14 v15 r11 r12 r13 r14 r15 r16 v16 r17 r18 r19 v17 h1 g0 f18 h2 g1 fn103 h3 g2 fn104 h4 g3 fn105 h5 g4 fn110 h6 g5 fn25 h7 g6 fn89 h8 g7 fn107)) [0, 1, 2, 3, 4, 5, 6, 7, 8] (by decide) rfl
                              have hK9 := hK.sub (tys' := []) [] rfl
                              exact W.vret hx hb hr (fun t ht hW => ⟨⟨(), rfl, trivial, Or.inr (⟨x100, x101, x102, fn103, fn104, fn105, fn110, fn25, fn89, fn107, by first | omega | decide, by first | omega | decide, by first | omega | decide, by first | omega | decide, by exact pm_Oth.mk hgF ho1 ho2 ho3 ho4 (by omega) (by omega) (by omega) (by omega), by rw [ht]; exact hP9, va_K.moved hW.alike hK9, hD9⟩)⟩, hS.F ht⟩) hS.2.2 dX12_clause_279
                          · skip
                            have fc86 : ¬ (ra81.toInt = 63) := fun h9 => c86 (Int32.toInt_inj.mp h9)
                            refine lv_aload_n hx hb dX12_clause_217 rfl (lv_at hl 2 rfl) ?_
                            have hPc := hP.sub (ws' := (wd_171f232f h0 v0 h1 v1 x85 (-1) 0 h2 h3 h4 h5 h6 h7 h8 v3 v4 r0 r1 r2 r3 v5 r4 r5 v6 v7 r6 r7 v8 v9 r8 v10 v11 r9 v12 w13 r10 v14 v15 r11 r12 r13 r14 r15 r16 v16 r17 r18 r19 v17)) [0] rfl
                            have hDc := hD.sub (ws' := (wd_171f232f h0 v0 h1 v1 x85 (-1) 0 h2 h3 h4 h5 h6 h7 h8 v3 v4 r0 r1 r2 r3 v5 r4 r5 v6 v7 r6 r7 v8 v9 r8 v10 v11 r9 v12 w13 r10 v14 v15 r11 r12 r13 r14 r15 r16 v16 r17 r18 r19 v17)) [0] (by decide) rfl
                            have hKc := hK.sub (tys' := []) [] rfl
                            have hFc := va_free (wc := (wd_171f232f h0 v0 h1 v1 x85 (-1) 0 h2 h3 h4 h5 h6 h7 h8 v3 v4 r0 r1 r2 r3 v5 r4 r5 v6 v7 r6 r7 v8 v9 r8 v10 v11 r9 v12 w13 r10 v14 v15 r11 r12 r13 r14 r15 r16 v16 r17 r18 r19 v17)) hD hS hA [0] rfl
                            refine va_callv (va_runV (As := []) (rest := []) ⟨hx, hb, hml, hown, hts⟩ (k_X12_bad l dC dI h0 v0 h1 v1 x85 0 h2 h3 h4 h5 h6 h7 h8 v3 v4 r0 r1 r2 r3 v5 r4 r5 v6 v7 r6 r7 v8 v9 r8 v10 v11 r9 v12 w13 r10 v14 v15 r11 r12 r13 r14 r15 r16 v16 r17 r18 r19 v17 ⟨by first | omega | decide, by first | omega | decide⟩ ⟨by first | omega | decide, by first | omega | decide⟩ ⟨by first | omega | decide, by first | omega | decide⟩ ⟨by first | omega | decide, by first | omega | decide⟩ ⟨by first | omega | decide, by first | omega | decide⟩ ⟨by first | omega | decide, by first | omega | decide⟩ ⟨by first | omega | decide, by first | omega | decide⟩ ⟨by first | omega | decide, by first | omega | decide⟩ ⟨by first | omega | decide, by first | omega | decide⟩ ⟨by first | omega | decide, by first | omega | decide⟩ ⟨by first | omega | decide, by first | omega | decide⟩ H.size) (cwV 0 hts g_X12_clause_1 rfl rfl rfl (by decide +kernel) ⟨Nat.le_of_ble_eq_true rfl, Nat.le_of_ble_eq_true rfl⟩) ⟨fun a U g mk q => by obtain ⟨q0, q1, qP, qK, qD⟩ := q; exact ⟨q0, q1, qP, va_K.moved (u := U) (U := U.calling g mk a) (Vm.Alike.refl U.vm) qK, qD⟩, va_recv hKc hPc (ci := 12) (q0 := 0) rfl rfl, fun U hU hW => ⟨rfl, by rw [hU], by rw [hU]; exact hPc, va_K.moved hW.alike hKc, hDc.weaken (fun _ _ _ _ => trivial)⟩⟩ rfl rfl hl.1 rfl (lv_room (Nat.le_of_ble_eq_true rfl)) dX12_clause_218 ⟨Nat.le_of_ble_eq_true rfl, Nat.le_of_ble_eq_true rfl⟩) hS (fun q _ h => hFc q h) hFc (fun u t H1 locs ht hvm hwra111 hB hz1 hk1 hS => ?_)
                            obtain ⟨x112, oa_x112, ob_x112, hP1, hK1, hD1⟩ := hB
                            rw [ht] at hP1
                            obtain ⟨hP, hD⟩ := va_join (wr := (wd_f36c9d1b h1 g0 f18 h2 g1 fn76 h3 g2 fn77 h4 g3 fn78 h5 g4 f22 h6 g5 fn25 h7 g6 fn80 h8 g7 f25)) (w1 := (wd_171f232f h0 v0 h1 v1 x85 x112 0 h2 h3 h4 h5 h6 h7 h8 v3 v4 r0 r1 r2 r3 v5 r4 r5 v6 v7 r6 r7 v8 v9 r8 v10 v11 r9 v12 w13 r10 v14 v15 r11 r12 r13 r14 r15 r16 v16 r17 r18 r19 v17)) hP hD [0] [1, 2, 3, 4, 5, 6, 7, 8] rfl rfl (by decide) (by decide) hk1 hFc hP1 hD1
                            generalize H1 = H at hP hS ⊢
                            have hP := hP.sub (ws' := (wd_d5ef5423 h0 v0 h1 v1 x85 x112 0 h2 h3 h4 h5 h6 h7 h8 v3 v4 r0 r1 r2 r3 v5 r4 r5 v6 v7 r6 r7 v8 v9 r8 v10 v11 r9 v12 w13 r10 v14 v15 r11 r12 r13 r14 r15 r16 v16 r17 r18 r19 v17 h1 g0 f18 h2 g1 fn76 h3 g2 fn77 h4 g3 fn78 h5 g4 f22 h6 g5 fn25 h7 g6 fn80 h8 g7 f25)) [8, 0, 1, 2, 3, 4, 5, 6, 7] rfl
                            have hD := hD.sub (ws' := (wd_d5ef5423 h0 v0 h1 v1 x85 x112 0 h2 h3 h4 h5 h6 h7 h8 v3 v4 r0 r1 r2 r3 v5 r4 r5 v6 v7 r6 r7 v8 v9 r8 v10 v11 r9 v12 w13 r10 v14 v15 r11 r12 r13 r14 r15 r16 v16 r17 r18 r19 v17 h1 g0 f18 h2 g1 fn76 h3 g2 fn77 h4 g3 fn78 h5 g4 f22 h6 g5 fn25 h7 g6 fn80 h8 g7 f25)) [8, 0, 1, 2, 3, 4, 5, 6, 7] (by decide) rfl
                            have hP : va_P (dC, dI) vwCl (wd_d5ef5423 h0 v0 h1 v1 x85 x112 0 h2 h3 h4 h5 h6 h7 h8 v3 v4 r0 r1 r2 r3 v5 r4 r5 v6 v7 r6 r7 v8 v9 r8 v10 v11 r9 v12 w13 r10 v14 v15 r11 r12 r13 r14 r15 r16 v16 r17 r18 r19 v17 h1 g0 f18 h2 g1 fn76 h3 g2 fn77 h4 g3 fn78 h5 g4 f22 h6 g5 fn25 h7 g6 fn80 h8 g7 f25) H := hP
                            have hD : va_D A (wd_d5ef5423 h0 v0 h1 v1 x85 x112 0 h2 h3 h4 h5 h6 h7 h8 v3 v4 r0 r1 r2 r3 v5 r4 r5 v6 v7 r6 r7 v8 v9 r8 v10 v11 r9 v12 w13 r10 v14 v15 r11 r12 r13 r14 r15 r16 v16 r17 r18 r19 v17 h1 g0 f18 h2 g1 fn76 h3 g2 fn77 h4 g3 fn78 h5 g4 f22 h6 g5 fn25 h7 g6 fn80 h8 g7 f25) := hD
                            subst hQ
                            have hP9 := hP.sub (ws' := (wd_d5ef5423 h0 v0 h1 v1 x85 x112 0 h2 h3 h4 h5 h6 h7 h8 v3 v4 r0 r1 r2 r3 v5 r4 r5 v6 v7 r6 r7 v8 v9 r8 v10 v11 r9 v12 w13 r10 v14 v15 r11 r12 r13 r14 r15 r16 v16 r17 r18 r19 v17 h1 g0 f18 h2 g1 fn76 h3 g2 fn77 h4 g3 fn78 h5 g4 f22 h6 g5 fn25 h7 g6 fn80 h8 g7 f25)) [0, 1, 2, 3, 4, 5, 6, 7, 8] rfl
                            have hD9 := hD.sub (ws' := (wd_d5ef5423 h0 v0 h1 v1 x85 x112 0 h2 h3 h4 h5 h6 h7 h8 v3 v4 r0 r1 r2 r3 v5 r4 r5 v6 v7 r6 r7 v8 v9 r8 v10 v11 r9 v12 w13 r10 v14 v15 r11 r12 r13 r14 r15 r16 v16 r17 r18 r19 v17 h1 g0 f18 h2 g1 fn76 h3 g2 fn77 h4 g3 fn78 h5 g4 f22 h6 g5 fn25 h7 g6 fn80 h8 g7 f25)) [0, 1, 2, 3, 4, 5, 6, 7, 8] (by decide) rfl
                            have hK9 := hK.sub (tys' := []) [] rfl
                            exact W.vret hx hb hr (fun t ht hW => ⟨⟨(), rfl, trivial, Or.inr (⟨x85, x112, 0, fn76, fn77, fn78, f22, fn25, fn80, f25, by first | omega | decide, by first | omega | decide, by first | omega | decide, by first | omega | decide, by exact pm_Oth.mk hgF ho1 ho2 ho3 ho4 (by omega) (by omega) (by omega) (by omega), by rw [ht]; exact hP9, va_K.moved hW.alike hK9, hD9⟩)⟩, hS.F ht⟩) hS.2.2 dX12_clause_221
                      · skip
                        obtain ⟨x113, x114, x115, fn116, fn117, fn118, oa_x113, ob_x113, oa_x114, ob_x114, pt0_ra74, pt1_ra74, hP1, hK1, hD1⟩ := hB
                        rw [ht] at hP1
                        obtain ⟨hP, hD⟩ := va_join (wr := (wd_9ed5f2f7 h5 g4 f22 h6 g5 fn25 h7 g6 f24 h8 g7 f25)) (w1 := (wd_d906eaf1 h0 v0 h1 v1 x113 x114 x115 h2 h3 h4 h5 h6 h7 h8 v3 v4 r0 r1 r2 r3 v5 r4 r5 v6 v7 r6 r7 v8 v9 r8 v10 v11 r9 v12 w13 r10 v14 v15 r11 r12 r13 r14 r15 r16 v16 r17 r18 r19 v17 h1 g0 f18 h2 g1 fn116 h3 g2 fn117 h4 g3 fn118)) hP hD [0, 1, 2, 3, 4] [5, 6, 7, 8] rfl rfl (by decide) (by decide) hk1 hFc hP1 hD1
                        generalize H1 = H at hP hS ⊢
                        have hP := hP.sub (ws' := (wd_d5ef5423 h0 v0 h1 v1 x113 x114 x115 h2 h3 h4 h5 h6 h7 h8 v3 v4 r0 r1 r2 r3 v5 r4 r5 v6 v7 r6 r7 v8 v9 r8 v10 v11 r9 v12 w13 r10 v14 v15 r11 r12 r13 r14 r15 r16 v16 r17 r18 r19 v17 h1 g0 f18 h2 g1 fn116 h3 g2 fn117 h4 g3 fn118 h5 g4 f22 h6 g5 fn25 h7 g6 f24 h8 g7 f25)) [4, 5, 6, 7, 8, 0, 1, 2, 3] rfl
                        have hD := hD.sub (ws' := (wd_d5ef5423 h0 v0 h1 v1 x113 x114 x115 h2 h3 h4 h5 h6 h7 h8 v3 v4 r0 r1 r2 r3 v5 r4 r5 v6 v7 r6 r7 v8 v9 r8 v10 v11 r9 v12 w13 r10 v14 v15 r11 r12 r13 r14 r15 r16 v16 r17 r18 r19 v17 h1 g0 f18 h2 g1 fn116 h3 g2 fn117 h4 g3 fn118 h5 g4 f22 h6 g5 fn25 h7 g6 f24 h8 g7 f25)) [4, 5, 6, 7, 8, 0, 1, 2, 3] (by decide) rfl
                        have hP : va_P (dC, dI) vwCl (wd_d5ef5423 h0 v0 h1 v1 x113 x114 x115 h2 h3 h4 h5 h6 h7 h8 v3 v4 r0 r1 r2 r3 v5 r4 r5 v6 v7 r6 r7 v8 v9 r8 v10 v11 r9 v12 w13 r10 v14 v15 r11 r12 r13 r14 r15 r16 v16 r17 r18 r19 v17 h1 g0 f18 h2 g1 fn116 h3 g2 fn117 h4 g3 fn118 h5 g4 f22 h6 g5 fn25 h7 g6 f24 h8 g7 f25) H := hP
                        have hD : va_D A (wd_d5ef5423 h0 v0 h1 v1 x113 x114 x115 h2 h3 h4 h5 h6 h7 h8 v3 v4 r0 r1 r2 r3 v5 r4 r5 v6 v7 r6 r7 v8 v9 r8 v10 v11 r9 v12 w13 r10 v14 v15 r11 r12 r13 r14 r15 r16 v16 r17 r18 r19 v17 h1 g0 f18 h2 g1 fn116 h3 g2 fn117 h4 g3 fn118 h5 g4 f22 h6 g5 fn25 h7 g6 f24 h8 g7 f25) := hD
                        have hgF := hgF.app pt1_ra74
                        have hxl := hgF.1
                        exact hJ43 x113 x114 x115 fn116 fn117 fn118 H locs ls (by first | omega | decide) (by first | omega | decide) (by first | omega | decide) (by first | omega | decide) (by constructor <;> omega) (by exact hgF) hP hD hS (lv_sub hl [0, 1, 2] rfl)
                    · skip
                      obtain ⟨x119, x120, x121, fn122, fn123, fn124, oa_x119, ob_x119, oa_x120, ob_x120, pt0_ra69, pt1_ra69, hP1, hK1, hD1⟩ := hB
                      rw [ht] at hP1
                      obtain ⟨hP, hD⟩ := va_join (wr := (wd_9ed5f2f7 h5 g4 f22 h6 g5 fn25 h7 g6 f24 h8 g7 f25)) (w1 := (wd_d906eaf1 h0 v0 h1 v1 x119 x120 x121 h2 h3 h4 h5 h6 h7 h8 v3 v4 r0 r1 r2 r3 v5 r4 r5 v6 v7 r6 r7 v8 v9 r8 v10 v11 r9 v12 w13 r10 v14 v15 r11 r12 r13 r14 r15 r16 v16 r17 r18 r19 v17 h1 g0 f18 h2 g1 fn122 h3 g2 fn123 h4 g3 fn124)) hP hD [0, 1, 2, 3, 4] [5, 6, 7, 8] rfl rfl (by decide) (by decide) hk1 hFc hP1 hD1
                      generalize H1 = H at hP hS ⊢
                      have hP := hP.sub (ws' := (wd_d5ef5423 h0 v0 h1 v1 x119 x120 x121 h2 h3 h4 h5 h6 h7 h8 v3 v4 r0 r1 r2 r3 v5 r4 r5 v6 v7 r6 r7 v8 v9 r8 v10 v11 r9 v12 w13 r10 v14 v15 r11 r12 r13 r14 r15 r16 v16 r17 r18 r19 v17 h1 g0 f18 h2 g1 fn122 h3 g2 fn123 h4 g3 fn124 h5 g4 f22 h6 g5 fn25 h7 g6 f24 h8 g7 f25)) [4, 5, 6, 7, 8, 0, 1, 2, 3] rfl
                      have hD := hD.sub (ws' := (wd_d5ef5423 h0 v0 h1 v1 x119 x120 x121 h2 h3 h4 h5 h6 h7 h8 v3 v4 r0 r1 r2 r3 v5 r4 r5 v6 v7 r6 r7 v8 v9 r8 v10 v11 r9 v12 w13 r10 v14 v15 r11 r12 r13 r14 r15 r16 v16 r17 r18 r19 v17 h1 g0 f18 h2 g1 fn122 h3 g2 fn123 h4 g3 fn124 h5 g4 f22 h6 g5 fn25 h7 g6 f24 h8 g7 f25)) [4, 5, 6, 7, 8, 0, 1, 2, 3] (by decide) rfl
                      have hP : va_P (dC, dI) vwCl (wd_d5ef5423 h0 v0 h1 v1 x119 x120 x121 h2 h3 h4 h5 h6 h7 h8 v3 v4 r0 r1 r2 r3 v5 r4 r5 v6 v7 r6 r7 v8 v9 r8 v10 v11 r9 v12 w13 r10 v14 v15 r11 r12 r13 r14 r15 r16 v16 r17 r18 r19 v17 h1 g0 f18 h2 g1 fn122 h3 g2 fn123 h4 g3 fn124 h5 g4 f22 h6 g5 fn25 h7 g6 f24 h8 g7 f25) H := hP
                      have hD : va_D A (wd_d5ef5423 h0 v0 h1 v1 x119 x120 x121 h2 h3 h4 h5 h6 h7 h8 v3 v4 r0 r1 r2 r3 v5 r4 r5 v6 v7 r6 r7 v8 v9 r8 v10 v11 r9 v12 w13 r10 v14 v15 r11 r12 r13 r14 r15 r16 v16 r17 r18 r19 v17 h1 g0 f18 h2 g1 fn122 h3 g2 fn123 h4 g3 fn124 h5 g4 f22 h6 g5 fn25 h7 g6 f24 h8 g7 f25) := hD
                      have hgF := hgF.app pt1_ra69
                      have hxl := hgF.1
                      refine lv_aload_n hx hb dX12_clause_180 rfl (lv_at hl 2 rfl) ?_
                      have hPc := hP.sub (ws' := (wd_171f232f h0 v0 h1 v1 x119 x120 x121 h2 h3 h4 h5 h6 h7 h8 v3 v4 r0 r1 r2 r3 v5 r4 r5 v6 v7 r6 r7 v8 v9 r8 v10 v11 r9 v12 w13 r10 v14 v15 r11 r12 r13 r14 r15 r16 v16 r17 r18 r19 v17)) [0] rfl
                      have hDc := hD.sub (ws' := (wd_171f232f h0 v0 h1 v1 x119 x120 x121 h2 h3 h4 h5 h6 h7 h8 v3 v4 r0 r1 r2 r3 v5 r4 r5 v6 v7 r6 r7 v8 v9 r8 v10 v11 r9 v12 w13 r10 v14 v15 r11 r12 r13 r14 r15 r16 v16 r17 r18 r19 v17)) [0] (by decide) rfl
                      have hKc := hK.sub (tys' := []) [] rfl
                      have hFc := va_free (wc := (wd_171f232f h0 v0 h1 v1 x119 x120 x121 h2 h3 h4 h5 h6 h7 h8 v3 v4 r0 r1 r2 r3 v5 r4 r5 v6 v7 r6 r7 v8 v9 r8 v10 v11 r9 v12 w13 r10 v14 v15 r11 r12 r13 r14 r15 r16 v16 r17 r18 r19 v17)) hD hS hA [0] rfl
                      refine va_callv (va_runV (As := []) (rest := []) ⟨hx, hb, hml, hown, hts⟩ (k_X12_goOnOr_1 l dC dI h0 v0 h1 v1 x119 x120 x121 h2 h3 h4 h5 h6 h7 h8 v3 v4 r0 r1 r2 r3 v5 r4 r5 v6 v7 r6 r7 v8 v9 r8 v10 v11 r9 v12 w13 r10 v14 v15 r11 r12 r13 r14 r15 r16 v16 r17 r18 r19 v17 ⟨by first | omega | decide, by first | omega | decide⟩ ⟨by first | omega | decide, by first | omega | decide⟩ ⟨by first | omega | decide, by first | omega | decide⟩ ⟨by first | omega | decide, by first | omega | decide⟩ ⟨by first | omega | decide, by first | omega | decide⟩ ⟨by first | omega | decide, by first | omega | decide⟩ ⟨by first | omega | decide, by first | omega | decide⟩ ⟨by first | omega | decide, by first | omega | decide⟩ ⟨by first | omega | decide, by first | omega | decide⟩ ⟨by first | omega | decide, by first | omega | decide⟩ ⟨by first | omega | decide, by first | omega | decide⟩ H.size) (cwV 0 hts g_X12_clause_15 rfl rfl rfl (by decide +kernel) ⟨Nat.le_of_ble_eq_true rfl, Nat.le_of_ble_eq_true rfl⟩) ⟨fun a U g mk q => by obtain ⟨q0, q1, qP, qK, qD⟩ := q; exact ⟨q0, q1, qP, va_K.moved (u := U) (U := U.calling g mk a) (Vm.Alike.refl U.vm) qK, qD⟩, va_recv hKc hPc (ci := 12) (q0 := 0) rfl rfl, fun U hU hW => ⟨rfl, by rw [hU], by rw [hU]; exact hPc, va_K.moved hW.alike hKc, hDc.weaken (fun _ _ _ _ => trivial)⟩⟩ rfl rfl hl.1 rfl (lv_room (Nat.le_of_ble_eq_true rfl)) dX12_clause_181 ⟨Nat.le_of_ble_eq_true rfl, Nat.le_of_ble_eq_true rfl⟩) hS (fun q _ h => hFc q h) hFc (fun u t H1 locs ht hvm hwra125 hB hz1 hk1 hS => ?_)
                      obtain ⟨hP1, hK1, hD1⟩ := hB
                      rw [ht] at hP1
                      obtain ⟨hP, hD⟩ := va_join (wr := (wd_f36c9d1b h1 g0 f18 h2 g1 fn122 h3 g2 fn123 h4 g3 fn124 h5 g4 f22 h6 g5 fn25 h7 g6 f24 h8 g7 f25)) (w1 := (wd_171f232f h0 v0 h1 v1 x119 x120 x121 h2 h3 h4 h5 h6 h7 h8 v3 v4 r0 r1 r2 r3 v5 r4 r5 v6 v7 r6 r7 v8 v9 r8 v10 v11 r9 v12 w13 r10 v14 v15 r11 r12 r13 r14 r15 r16 v16 r17 r18 r19 v17)) hP hD [0] [1, 2, 3, 4, 5, 6, 7, 8] rfl rfl (by decide) (by decide) hk1 hFc hP1 hD1
                      generalize H1 = H at hP hS ⊢
                      have hP := hP.sub (ws' := (wd_d5ef5423 h0 v0 h1 v1 x119 x120 x121 h2 h3 h4 h5 h6 h7 h8 v3 v4 r0 r1 r2 r3 v5 r4 r5 v6 v7 r6 r7 v8 v9 r8 v10 v11 r9 v12 w13 r10 v14 v15 r11 r12 r13 r14 r15 r16 v16 r17 r18 r19 v17 h1 g0 f18 h2 g1 fn122 h3 g2 fn123 h4 g3 fn124 h5 g4 f22 h6 g5 fn25 h7 g6 f24 h8 g7 f25)) [8, 0, 1, 2, 3, 4, 5, 6, 7] rfl
                      have hD := hD.sub (ws' := (wd_d5ef5423 h0 v0 h1 v1 x119 x120 x121 h2 h3 h4 h5 h6 h7 h8 v3 v4 r0 r1 r2 r3 v5 r4 r5 v6 v7 r6 r7 v8 v9 r8 v10 v11 r9 v12 w13 r10 v14 v15 r11 r12 r13 r14 r15 r16 v16 r17 r18 r19 v17 h1 g0 f18 h2 g1 fn122 h3 g2 fn123 h4 g3 fn124 h5 g4 f22 h6 g5 fn25 h7 g6 f24 h8 g7 f25)) [8, 0, 1, 2, 3, 4, 5, 6, 7] (by decide) rfl
                      have hP : va_P (dC, dI) vwCl (wd_d5ef5423 h0 v0 h1 v1 x119 x120 x121 h2 h3 h4 h5 h6 h7 h8 v3 v4 r0 r1 r2 r3 v5 r4 r5 v6 v7 r6 r7 v8 v9 r8 v10 v11 r9 v12 w13 r10 v14 v15 r11 r12 r13 r14 r15 r16 v16 r17 r18 r19 v17 h1 g0 f18 h2 g1 fn122 h3 g2 fn123 h4 g3 fn124 h5 g4 f22 h6 g5 fn25 h7 g6 f24 h8 g7 f25) H := hP
                      have hD : va_D A (wd_d5ef5423 h0 v0 h1 v1 x119 x120 x121 h2 h3 h4 h5 h6 h7 h8 v3 v4 r0 r1 r2 r3 v5 r4 r5 v6 v7 r6 r7 v8 v9 r8 v10 v11 r9 v12 w13 r10 v14 v15 r11 r12 r13 r14 r15 r16 v16 r17 r18 r19 v17 h1 g0 f18 h2 g1 fn122 h3 g2 fn123 h4 g3 fn124 h5 g4 f22 h6 g5 fn25 h7 g6 f24 h8 g7 f25) := hD
                      exact hJ43 x119 x120 x121 fn122 fn123 fn124 H locs ls (by first | omega | decide) (by first | omega | decide) (by first | omega | decide) (by first | omega | decide) (by constructor <;> omega) (by exact hgF) hP hD hS (lv_sub hl [0, 1, 2] rfl)
                  · skip
                    obtain ⟨x126, x127, x128, fn129, fn130, fn131, oa_x126, ob_x126, oa_x127, ob_x127, pt0_ra64, pt1_ra64, hP1, hK1, hD1⟩ := hB
                    rw [ht] at hP1
                    obtain ⟨hP, hD⟩ := va_join (wr := (wd_9ed5f2f7 h5 g4 f22 h6 g5 fn25 h7 g6 f24 h8 g7 f25)) (w1 := (wd_d906eaf1 h0 v0 h1 v1 x126 x127 x128 h2 h3 h4 h5 h6 h7 h8 v3 v4 r0 r1 r2 r3 v5 r4 r5 v6 v7 r6 r7 v8 v9 r8 v10 v11 r9 v12 w13 r10 v14 v15 r11 r12 r13 r14 r15 r16 v16 r17 r18 r19 v17 h1 g0 f18 h2 g1 fn129 h3 g2 fn130 h4 g3 fn131)) hP hD [0, 1, 2, 3, 4] [5, 6, 7, 8] rfl rfl (by decide) (by decide) hk1 hFc hP1 hD1
                    generalize H1 = H at hP hS ⊢
                    have hP := hP.sub (ws' := (wd_d5ef5423 h0 v0 h1 v1 x126 x127 x128 h2 h3 h4 h5 h6 h7 h8 v3 v4 r0 r1 r2 r3 v5 r4 r5 v6 v7 r6 r7 v8 v9 r8 v10 v11 r9 v12 w13 r10 v14 v15 r11 r12 r13 r14 r15 r16 v16 r17 r18 r19 v17 h1 g0 f18 h2 g1 fn129 h3 g2 fn130 h4 g3 fn131 h5 g4 f22 h6 g5 fn25 h7 g6 f24 h8 g7 f25)) [4, 5, 6, 7, 8, 0, 1, 2, 3] rfl
                    have hD := hD.sub (ws' := (wd_d5ef5423 h0 v0 h1 v1 x126 x127 x128 h2 h3 h4 h5 h6 h7 h8 v3 v4 r0 r1 r2 r3 v5 r4 r5 v6 v7 r6 r7 v8 v9 r8 v10 v11 r9 v12 w13 r10 v14 v15 r11 r12 r13 r14 r15 r16 v16 r17 r18 r19 v17 h1 g0 f18 h2 g1 fn129 h3 g2 fn130 h4 g3 fn131 h5 g4 f22 h6 g5 fn25 h7 g6 f24 h8 g7 f25)) [4, 5, 6, 7, 8, 0, 1, 2, 3] (by decide) rfl
                    have hP : va_P (dC, dI) vwCl (wd_d5ef5423 h0 v0 h1 v1 x126 x127 x128 h2 h3 h4 h5 h6 h7 h8 v3 v4 r0 r1 r2 r3 v5 r4 r5 v6 v7 r6 r7 v8 v9 r8 v10 v11 r9 v12 w13 r10 v14 v15 r11 r12 r13 r14 r15 r16 v16 r17 r18 r19 v17 h1 g0 f18 h2 g1 fn129 h3 g2 fn130 h4 g3 fn131 h5 g4 f22 h6 g5 fn25 h7 g6 f24 h8 g7 f25) H := hP
                    have hD : va_D A (wd_d5ef5423 h0 v0 h1 v1 x126 x127 x128 h2 h3 h4 h5 h6 h7 h8 v3 v4 r0 r1 r2 r3 v5 r4 r5 v6 v7 r6 r7 v8 v9 r8 v10 v11 r9 v12 w13 r10 v14 v15 r11 r12 r13 r14 r15 r16 v16 r17 r18 r19 v17 h1 g0 f18 h2 g1 fn129 h3 g2 fn130 h4 g3 fn131 h5 g4 f22 h6 g5 fn25 h7 g6 f24 h8 g7 f25) := hD
                    have hgF := hgF.app pt1_ra64
                    have hxl := hgF.1
                    refine lv_aload_n hx hb dX12_clause_176 rfl (lv_at hl 2 rfl) ?_
                    have hPc := hP.sub (ws' := (wd_171f232f h0 v0 h1 v1 x126 x127 x128 h2 h3 h4 h5 h6 h7 h8 v3 v4 r0 r1 r2 r3 v5 r4 r5 v6 v7 r6 r7 v8 v9 r8 v10 v11 r9 v12 w13 r10 v14 v15 r11 r12 r13 r14 r15 r16 v16 r17 r18 r19 v17)) [0] rfl
                    have hDc := hD.sub (ws' := (wd_171f232f h0 v0 h1 v1 x126 x127 x128 h2 h3 h4 h5 h6 h7 h8 v3 v4 r0 r1 r2 r3 v5 r4 r5 v6 v7 r6 r7 v8 v9 r8 v10 v11 r9 v12 w13 r10 v14 v15 r11 r12 r13 r14 r15 r16 v16 r17 r18 r19 v17)) [0] (by decide) rfl
                    have hKc := hK.sub (tys' := []) [] rfl
                    have hFc := va_free (wc := (wd_171f232f h0 v0 h1 v1 x126 x127 x128 h2 h3 h4 h5 h6 h7 h8 v3 v4 r0 r1 r2 r3 v5 r4 r5 v6 v7 r6 r7 v8 v9 r8 v10 v11 r9 v12 w13 r10 v14 v15 r11 r12 r13 r14 r15 r16 v16 r17 r18 r19 v17)) hD hS hA [0] rfl
                    refine va_callv (va_runV (As := []) (rest := []) ⟨hx, hb, hml, hown, hts⟩ (k_X12_goOnAnd_1 l dC dI h0 v0 h1 v1 x126 x127 x128 h2 h3 h4 h5 h6 h7 h8 v3 v4 r0 r1 r2 r3 v5 r4 r5 v6 v7 r6 r7 v8 v9 r8 v10 v11 r9 v12 w13 r10 v14 v15 r11 r12 r13 r14 r15 r16 v16 r17 r18 r19 v17 ⟨by first | omega | decide, by first | omega | decide⟩ ⟨by first | omega | decide, by first | omega | decide⟩ ⟨by first | omega | decide, by first | omega | decide⟩ ⟨by first | omega | decide, by first | omega | decide⟩ ⟨by first | omega | decide, by first | omega | decide⟩ ⟨by first | omega | decide, by first | omega | decide⟩ ⟨by first | omega | decide, by first | omega | decide⟩ ⟨by first | omega | decide, by first | omega | decide⟩ ⟨by first | omega | decide, by first | omega | decide⟩ ⟨by first | omega | decide, by first | omega | decide⟩ ⟨by first | omega | decide, by first | omega | decide⟩ H.size) (cwV 0 hts g_X12_clause_16 rfl rfl rfl (by decide +kernel) ⟨Nat.le_of_ble_eq_true rfl, Nat.le_of_ble_eq_true rfl⟩) ⟨fun a U g mk q => by obtain ⟨q0, q1, qP, qK, qD⟩ := q; exact ⟨q0, q1, qP, va_K.moved (u := U) (U := U.calling g mk a) (Vm.Alike.refl U.vm) qK, qD⟩, va_recv hKc hPc (ci := 12) (q0 := 0) rfl rfl, fun U hU hW => ⟨rfl, by rw [hU], by rw [hU]; exact hPc, va_K.moved hW.alike hKc, hDc.weaken (fun _ _ _ _ => trivial)⟩⟩ rfl rfl hl.1 rfl (lv_room (Nat.le_of_ble_eq_true rfl)) dX12_clause_177 ⟨Nat.le_of_ble_eq_true rfl, Nat.le_of_ble_eq_true rfl⟩) hS (fun q _ h => hFc q h) hFc (fun u t H1 locs ht hvm hwra132 hB hz1 hk1 hS => ?_)
                    obtain ⟨hP1, hK1, hD1⟩ := hB
                    rw [ht] at hP1
                    obtain ⟨hP, hD⟩ := va_join (wr := (wd_f36c9d1b h1 g0 f18 h2 g1 fn129 h3 g2 fn130 h4 g3 fn131 h5 g4 f22 h6 g5 fn25 h7 g6 f24 h8 g7 f25)) (w1 := (wd_171f232f h0 v0 h1 v1 x126 x127 x128 h2 h3 h4 h5 h6 h7 h8 v3 v4 r0 r1 r2 r3 v5 r4 r5 v6 v7 r6 r7 v8 v9 r8 v10 v11 r9 v12 w13 r10 v14 v15 r11 r12 r13 r14 r15 r16 v16 r17 r18 r19 v17)) hP hD [0] [1, 2, 3, 4, 5, 6, 7, 8] rfl rfl (by decide) (by decide) hk1 hFc hP1 hD1
                    generalize H1 = H at hP hS ⊢
                    have hP := hP.sub (ws' := (wd_d5ef5423 h0 v0 h1 v1 x126 x127 x128 h2 h3 h4 h5 h6 h7 h8 v3 v4 r0 r1 r2 r3 v5 r4 r5 v6 v7 r6 r7 v8 v9 r8 v10 v11 r9 v12 w13 r10 v14 v15 r11 r12 r13 r14 r15 r16 v16 r17 r18 r19 v17 h1 g0 f18 h2 g1 fn129 h3 g2 fn130 h4 g3 fn131 h5 g4 f22 h6 g5 fn25 h7 g6 f24 h8 g7 f25)) [8, 0, 1, 2, 3, 4, 5, 6, 7] rfl
                    have hD := hD.sub (ws' := (wd_d5ef5423 h0 v0 h1 v1 x126 x127 x128 h2 h3 h4 h5 h6 h7 h8 v3 v4 r0 r1 r2 r3 v5 r4 r5 v6 v7 r6 r7 v8 v9 r8 v10 v11 r9 v12 w13 r10 v14 v15 r11 r12 r13 r14 r15 r16 v16 r17 r18 r19 v17 h1 g0 f18 h2 g1 fn129 h3 g2 fn130 h4 g3 fn131 h5 g4 f22 h6 g5 fn25 h7 g6 f24 h8 g7 f25)) [8, 0, 1, 2, 3, 4, 5, 6, 7] (by decide) rfl
                    have hP : va_P (dC, dI) vwCl (wd_d5ef5423 h0 v0 h1 v1 x126 x127 x128 h2 h3 h4 h5 h6 h7 h8 v3 v4 r0 r1 r2 r3 v5 r4 r5 v6 v7 r6 r7 v8 v9 r8 v10 v11 r9 v12 w13 r10 v14 v15 r11 r12 r13 r14 r15 r16 v16 r17 r18 r19 v17 h1 g0 f18 h2 g1 fn129 h3 g2 fn130 h4 g3 fn131 h5 g4 f22 h6 g5 fn25 h7 g6 f24 h8 g7 f25) H := hP
                    have hD : va_D A (wd_d5ef5423 h0 v0 h1 v1 x126 x127 x128 h2 h3 h4 h5 h6 h7 h8 v3 v4 r0 r1 r2 r3 v5 r4 r5 v6 v7 r6 r7 v8 v9 r8 v10 v11 r9 v12 w13 r10 v14 v15 r11 r12 r13 r14 r15 r16 v16 r17 r18 r19 v17 h1 g0 f18 h2 g1 fn129 h3 g2 fn130 h4 g3 fn131 h5 g4 f22 h6 g5 fn25 h7 g6 f24 h8 g7 f25) := hD
                    refine lv_aload_n hx hb dX12_clause_180 rfl (lv_at hl 2 rfl) ?_
                    have hPc := hP.sub (ws' := (wd_171f232f h0 v0 h1 v1 x126 x127 x128 h2 h3 h4 h5 h6 h7 h8 v3 v4 r0 r1 r2 r3 v5 r4 r5 v6 v7 r6 r7 v8 v9 r8 v10 v11 r9 v12 w13 r10 v14 v15 r11 r12 r13 r14 r15 r16 v16 r17 r18 r19 v17)) [0] rfl
                    have hDc := hD.sub (ws' := (wd_171f232f h0 v0 h1 v1 x126 x127 x128 h2 h3 h4 h5 h6 h7 h8 v3 v4 r0 r1 r2 r3 v5 r4 r5 v6 v7 r6 r7 v8 v9 r8 v10 v11 r9 v12 w13 r10 v14 v15 r11 r12 r13 r14 r15 r16 v16 r17 r18 r19 v17)) [0] (by decide) rfl
                    have hKc := hK.sub (tys' := []) [] rfl
                    have hFc := va_free (wc := (wd_171f232f h0 v0 h1 v1 x126 x127 x128 h2 h3 h4 h5 h6 h7 h8 v3 v4 r0 r1 r2 r3 v5 r4 r5 v6 v7 r6 r7 v8 v9 r8 v10 v11 r9 v12 w13 r10 v14 v15 r11 r12 r13 r14 r15 r16 v16 r17 r18 r19 v17)) hD hS hA [0] rfl
                    refine va_callv (va_runV (As := []) (rest := []) ⟨hx, hb, hml, hown, hts⟩ (k_X12_goOnOr_1 l dC dI h0 v0 h1 v1 x126 x127 x128 h2 h3 h4 h5 h6 h7 h8 v3 v4 r0 r1 r2 r3 v5 r4 r5 v6 v7 r6 r7 v8 v9 r8 v10 v11 r9 v12 w13 r10 v14 v15 r11 r12 r13 r14 r15 r16 v16 r17 r18 r19 v17 ⟨by first | omega | decide, by first | omega | decide⟩ ⟨by first | omega | decide, by first | omega | decide⟩ ⟨by first | omega | decide, by first | omega | decide⟩ ⟨by first | omega | decide, by first | omega | decide⟩ ⟨by first | omega | decide, by first | omega | decide⟩ ⟨by first | omega | decide, by first | omega | decide⟩ ⟨by first | omega | decide, by first | omega | decide⟩ ⟨by first | omega | decide, by first | omega | decide⟩ ⟨by first | omega | decide, by first | omega | decide⟩ ⟨by first | omega | decide, by first | omega | decide⟩ ⟨by first | omega | decide, by first | omega | decide⟩ H.size) (cwV 0 hts g_X12_clause_15 rfl rfl rfl (by decide +kernel) ⟨Nat.le_of_ble_eq_true rfl, Nat.le_of_ble_eq_true rfl⟩) ⟨fun a U g mk q => by obtain ⟨q0, q1, qP, qK, qD⟩ := q; exact ⟨q0, q1, qP, va_K.moved (u := U) (U := U.calling g mk a) (Vm.Alike.refl U.vm) qK, qD⟩, va_recv hKc hPc (ci := 12) (q0 := 0) rfl rfl, fun U hU hW => ⟨rfl, by rw [hU], by rw [hU]; exact hPc, va_K.moved hW.alike hKc, hDc.weaken (fun _ _ _ _ => trivial)⟩⟩ rfl rfl hl.1 rfl (lv_room (Nat.le_of_ble_eq_true rfl)) dX12_clause_181 ⟨Nat.le_of_ble_eq_true rfl, Nat.le_of_ble_eq_true rfl⟩) hS (fun q _ h => hFc q h) hFc (fun u t H1 locs ht hvm hwra133 hB hz1 hk1 hS => ?_)
                    obtain ⟨hP1, hK1, hD1⟩ := hB
                    rw [ht] at hP1
                    obtain ⟨hP, hD⟩ := va_join (wr := (wd_f36c9d1b h1 g0 f18 h2 g1 fn129 h3 g2 fn130 h4 g3 fn131 h5 g4 f22 h6 g5 fn25 h7 g6 f24 h8 g7 f25)) (w1 := (wd_171f232f h0 v0 h1 v1 x126 x127 x128 h2 h3 h4 h5 h6 h7 h8 v3 v4 r0 r1 r2 r3 v5 r4 r5 v6 v7 r6 r7 v8 v9 r8 v10 v11 r9 v12 w13 r10 v14 v15 r11 r12 r13 r14 r15 r16 v16 r17 r18 r19 v17)) hP hD [0] [1, 2, 3, 4, 5, 6, 7, 8] rfl rfl (by decide) (by decide) hk1 hFc hP1 hD1
                    generalize H1 = H at hP hS ⊢
                    have hP := hP.sub (ws' := (wd_d5ef5423 h0 v0 h1 v1 x126 x127 x128 h2 h3 h4 h5 h6 h7 h8 v3 v4 r0 r1 r2 r3 v5 r4 r5 v6 v7 r6 r7 v8 v9 r8 v10 v11 r9 v12 w13 r10 v14 v15 r11 r12 r13 r14 r15 r16 v16 r17 r18 r19 v17 h1 g0 f18 h2 g1 fn129 h3 g2 fn130 h4 g3 fn131 h5 g4 f22 h6 g5 fn25 h7 g6 f24 h8 g7 f25)) [8, 0, 1, 2, 3, 4, 5, 6, 7] rfl
                    have hD := hD.sub (ws' := (wd_d5ef5423 h0 v0 h1 v1 x126 x127 x128 h2 h3 h4 h5 h6 h7 h8 v3 v4 r0 r1 r2 r3 v5 r4 r5 v6 v7 r6 r7 v8 v9 r8 v10 v11 r9 v12 w13 r10 v14 v15 r11 r12 r13 r14 r15 r16 v16 r17 r18 r19 v17 h1 g0 f18 h2 g1 fn129 h3 g2 fn130 h4 g3 fn131 h5 g4 f22 h6 g5 fn25 h7 g6 f24 h8 g7 f25)) [8, 0, 1, 2, 3, 4, 5, 6, 7] (by decide) rfl
                    have hP : va_P (dC, dI) vwCl (wd_d5ef5423 h0 v0 h1 v1 x126 x127 x128 h2 h3 h4 h5 h6 h7 h8 v3 v4 r0 r1 r2 r3 v5 r4 r5 v6 v7 r6 r7 v8 v9 r8 v10 v11 r9 v12 w13 r10 v14 v15 r11 r12 r13 r14 r15 r16 v16 r17 r18 r19 v17 h1 g0 f18 h2 g1 fn129 h3 g2 fn130 h4 g3 fn131 h5 g4 f22 h6 g5 fn25 h7 g6 f24 h8 g7 f25) H := hP
                    have hD : va_D A (wd_d5ef5423 h0 v0 h1 v1 x126 x127 x128 h2 h3 h4 h5 h6 h7 h8 v3 v4 r0 r1 r2 r3 v5 r4 r5 v6 v7 r6 r7 v8 v9 r8 v10 v11 r9 v12 w13 r10 v14 v15 r11 r12 r13 r14 r15 r16 v16 r17 r18 r19 v17 h1 g0 f18 h2 g1 fn129 h3 g2 fn130 h4 g3 fn131 h5 g4 f22 h6 g5 fn25 h7 g6 f24 h8 g7 f25) := hD
                    exact hJ43 x126 x127 x128 fn129 fn130 fn131 H locs ls (by first | omega | decide) (by first | omega | decide) (by first | omega | decide) (by first | omega | decide) (by constructor <;> omega) (by exact hgF) hP hD hS (lv_sub hl [0, 1, 2] rfl)
            · skip
              obtain ⟨x134, x135, x136, fn137, fn138, fn139, oa_x134, ob_x134, oa_x135, ob_x135, pt0_ra52, pt1_ra52, hP1, hK1, hD1⟩ := hB
              rw [ht] at hP1
              obtain ⟨hP, hD⟩ := va_join (wr := (wd_9ed5f2f7 h5 g4 f22 h6 g5 fn25 h7 g6 f24 h8 g7 f25)) (w1 := (wd_d906eaf1 h0 v0 h1 v1 x134 x135 x136 h2 h3 h4 h5 h6 h7 h8 v3 v4 r0 r1 r2 r3 v5 r4 r5 v6 v7 r6 r7 v8 v9 r8 v10 v11 r9 v12 w13 r10 v14 v15 r11 r12 r13 r14 r15 r16 v16 r17 r18 r19 v17 h1 g0 f18 h2 g1 fn137 h3 g2 fn138 h4 g3 fn139)) hP hD [0, 1, 2, 3, 4] [5, 6, 7, 8] rfl rfl (by decide) (by decide) hk1 hFc hP1 hD1
              generalize H1 = H at hP hS ⊢
              have hP := hP.sub (ws' := (wd_d5ef5423 h0 v0 h1 v1 x134 x135 x136 h2 h3 h4 h5 h6 h7 h8 v3 v4 r0 r1 r2 r3 v5 r4 r5 v6 v7 r6 r7 v8 v9 r8 v10 v11 r9 v12 w13 r10 v14 v15 r11 r12 r13 r14 r15 r16 v16 r17 r18 r19 v17 h1 g0 f18 h2 g1 fn137 h3 g2 fn138 h4 g3 fn139 h5 g4 f22 h6 g5 fn25 h7 g6 f24 h8 g7 f25)) [4, 5, 6, 7, 8, 0, 1, 2, 3] rfl
              have hD := hD.sub (ws' := (wd_d5ef5423 h0 v0 h1 v1 x134 x135 x136 h2 h3 h4 h5 h6 h7 h8 v3 v4 r0 r1 r2 r3 v5 r4 r5 v6 v7 r6 r7 v8 v9 r8 v10 v11 r9 v12 w13 r10 v14 v15 r11 r12 r13 r14 r15 r16 v16 r17 r18 r19 v17 h1 g0 f18 h2 g1 fn137 h3 g2 fn138 h4 g3 fn139 h5 g4 f22 h6 g5 fn25 h7 g6 f24 h8 g7 f25)) [4, 5, 6, 7, 8, 0, 1, 2, 3] (by decide) rfl
              have hP : va_P (dC, dI) vwCl (wd_d5ef5423 h0 v0 h1 v1 x134 x135 x136 h2 h3 h4 h5 h6 h7 h8 v3 v4 r0 r1 r2 r3 v5 r4 r5 v6 v7 r6 r7 v8 v9 r8 v10 v11 r9 v12 w13 r10 v14 v15 r11 r12 r13 r14 r15 r16 v16 r17 r18 r19 v17 h1 g0 f18 h2 g1 fn137 h3 g2 fn138 h4 g3 fn139 h5 g4 f22 h6 g5 fn25 h7 g6 f24 h8 g7 f25) H := hP
              have hD : va_D A (wd_d5ef5423 h0 v0 h1 v1 x134 x135 x136 h2 h3 h4 h5 h6 h7 h8 v3 v4 r0 r1 r2 r3 v5 r4 r5 v6 v7 r6 r7 v8 v9 r8 v10 v11 r9 v12 w13 r10 v14 v15 r11 r12 r13 r14 r15 r16 v16 r17 r18 r19 v17 h1 g0 f18 h2 g1 fn137 h3 g2 fn138 h4 g3 fn139 h5 g4 f22 h6 g5 fn25 h7 g6 f24 h8 g7 f25) := hD
              have hgF := hgF.app pt1_ra52
              have hxl := hgF.1
              refine lv_aload_n hx hb dX12_clause_144 rfl (lv_at hl 2 rfl) ?_
              refine va_get (D := (dC, dI)) (ci := 12) (v := .int x135) (C := RX12) (T := TX12) (N := 48) hx hb hts (fun _ h => List.mem_cons_of_mem _ (List.mem_append_right _ h)) hown hK hP 0 rfl rfl 4 (by decide) (hts (.fieldLink RX12 119 "LeftArgumentsModel" "wrong" "I") (List.mem_cons_of_mem _ (List.mem_append_left _ (List.mem_of_getElem? (i := 2) rfl)))) (fun _ h9 => h9) rfl dX12_clause_145 ?_
              refine lv_iconst (v := (-1)) hx hb dX12_clause_148 (by decide) ?_
              refine lv_icmp_ne (tgt := 166) hx hb dX12_clause_149 (by decide) (fun _ => ?_) (fun c140 => by exfalso; have fc140 : x135.toInt = (-1) := congrArg Int32.toInt c140; omega)
              refine lv_iconst (v := 0) hx hb dX12_clause_166 (by decide) ?_
              refine lv_istore_n (lv' := [(2, .int 0), (1, .int t3), (0, .ref h0)]) hx hb dX12_clause_167 rfl hl (by decide) rfl (fun ls hl => ?_)
              refine lv_iload_n hx hb dX12_clause_168 rfl (lv_at hl 0 rfl) ?_
              refine lv_if_eq (tgt := 184) hx hb dX12_clause_169 (by decide) (fun _ => ?_) (fun c => absurd (by decide) c)
              refine lv_aload_n hx hb dX12_clause_184 rfl (lv_at hl 2 rfl) ?_
              refine va_get (D := (dC, dI)) (ci := 12) (v := .ref h7) (C := RX12) (T := TX12) (N := 48) hx hb hts (fun _ h => List.mem_cons_of_mem _ (List.mem_append_right _ h)) hown hK hP 0 rfl rfl 11 (by decide) (hts (.fieldLink RX12 28 "LeftArgumentsModel" "sumFrom" "[I") (List.mem_cons_of_mem _ (List.mem_append_left _ (List.mem_of_getElem? (i := 21) rfl)))) (fun _ h9 => h9) rfl dX12_clause_185 ?_
              refine lv_iload_n hx hb dX12_clause_188 rfl (lv_at hl 1 rfl) ?_
              refine lv_aload_n hx hb dX12_clause_189 rfl (lv_at hl 2 rfl) ?_
              refine va_get (D := (dC, dI)) (ci := 12) (v := .ref h6) (C := RX12) (T := TX12) (N := 48) hx hb hts (fun _ h => List.mem_cons_of_mem _ (List.mem_append_right _ h)) hown hK hP 0 rfl rfl 10 (by decide) (hts (.fieldLink RX12 25 "LeftArgumentsModel" "testFrom" "[I") (List.mem_cons_of_mem _ (List.mem_append_left _ (List.mem_of_getElem? (i := 19) rfl)))) (fun _ h9 => h9) rfl dX12_clause_190 ?_
              refine lv_iload_n hx hb dX12_clause_193 rfl (lv_at hl 1 rfl) ?_
              refine va_iald hx hb hK hP 6 5 rfl rfl (vp_in_iff.mpr ⟨by omega, by omega⟩) dX12_clause_194 ?_
              refine lv_topi (fun t141 et141 => ?_)
              have hqt141 : t141.toInt = t24.toInt := by rw [et141, hk1]
              refine va_iast hx hb hK hP hD hS 7 6 rfl rfl (vp_in_iff.mpr ⟨by omega, by omega⟩) dX12_clause_195 (fun H locs hP hD hS => ?_)
              obtain ⟨fn142, efn142⟩ : ∃ g : Nat → Int32, g = upd f24 (Int32.toNatClampNeg t3) t141 := ⟨_, rfl⟩
              rw [← efn142] at hP hD
              have hP : va_P (dC, dI) vwCl (wd_d5ef5423 h0 v0 h1 v1 x134 x135 x136 h2 h3 h4 h5 h6 h7 h8 v3 v4 r0 r1 r2 r3 v5 r4 r5 v6 v7 r6 r7 v8 v9 r8 v10 v11 r9 v12 w13 r10 v14 v15 r11 r12 r13 r14 r15 r16 v16 r17 r18 r19 v17 h1 g0 f18 h2 g1 fn137 h3 g2 fn138 h4 g3 fn139 h5 g4 f22 h6 g5 fn25 h7 g6 fn142 h8 g7 f25) H := hP
              have hD : va_D A (wd_d5ef5423 h0 v0 h1 v1 x134 x135 x136 h2 h3 h4 h5 h6 h7 h8 v3 v4 r0 r1 r2 r3 v5 r4 r5 v6 v7 r6 r7 v8 v9 r8 v10 v11 r9 v12 w13 r10 v14 v15 r11 r12 r13 r14 r15 r16 v16 r17 r18 r19 v17 h1 g0 f18 h2 g1 fn137 h3 g2 fn138 h4 g3 fn139 h5 g4 f22 h6 g5 fn25 h7 g6 fn142 h8 g7 f25) := hD
              have hk2 : fn142 (Int32.toNatClampNeg t3) = t141 := by rw [efn142]; exact pk_us
              have ho2 : ∀ j : Nat, ¬ j = Int32.toNatClampNeg t3 → fn142 j = f24 j := fun j h9 => by rw [efn142, pk_un h9]; exact ho2 j h9
              refine lv_iload_n hx hb dX12_clause_196 rfl (lv_at hl 0 rfl) ?_
              refine lv_if_eq (tgt := 251) hx hb dX12_clause_197 (by decide) (fun _ => ?_) (fun c => absurd (by decide) c)
              refine lv_aload_n hx hb dX12_clause_251 rfl (lv_at hl 2 rfl) ?_
              refine va_get (D := (dC, dI)) (ci := 12) (v := .ref h8) (C := RX12) (T := TX12) (N := 48) hx hb hts (fun _ h => List.mem_cons_of_mem _ (List.mem_append_right _ h)) hown hK hP 0 rfl rfl 12 (by decide) (hts (.fieldLink RX12 31 "LeftArgumentsModel" "sumTo" "[I") (List.mem_cons_of_mem _ (List.mem_append_left _ (List.mem_of_getElem? (i := 22) rfl)))) (fun _ h9 => h9) rfl dX12_clause_252 ?_
              refine lv_iload_n hx hb dX12_clause_255 rfl (lv_at hl 1 rfl) ?_
              refine lv_aload_n hx hb dX12_clause_256 rfl (lv_at hl 2 rfl) ?_
              refine va_get (D := (dC, dI)) (ci := 12) (v := .ref h4) (C := RX12) (T := TX12) (N := 48) hx hb hts (fun _ h => List.mem_cons_of_mem _ (List.mem_append_right _ h)) hown hK hP 0 rfl rfl 8 (by decide) (hts (.fieldLink RX12 19 "LeftArgumentsModel" "codes" "[I") (List.mem_cons_of_mem _ (List.mem_append_left _ (List.mem_of_getElem? (i := 20) rfl)))) (fun _ h9 => h9) rfl dX12_clause_257 ?_
              refine lv_aload_n hx hb dX12_clause_260 rfl (lv_at hl 2 rfl) ?_
              refine va_get (D := (dC, dI)) (ci := 12) (v := .int v4) (C := RX12) (T := TX12) (N := 48) hx hb hts (fun _ h => List.mem_cons_of_mem _ (List.mem_append_right _ h)) hown hK hP 0 rfl rfl 14 (by decide) (hts (.fieldLink RX12 122 "LeftArgumentsModel" "text" "I") (List.mem_cons_of_mem _ (List.mem_append_left _ (List.mem_of_getElem? (i := 0) rfl)))) (fun _ h9 => h9) rfl dX12_clause_261 ?_
              refine va_iald hx hb hK hP 4 3 rfl rfl (vp_in_iff.mpr ⟨by omega, by omega⟩) dX12_clause_264 ?_
              refine lv_topi (fun t143 et143 => ?_)
              have hqt143 : t143.toInt = pm_x fn139 v4 := by rw [et143]; rfl
              have gqt143 : 0 ≤ t143.toInt ∧ t143.toInt ≤ 500 := by constructor <;> omega
              refine va_iast hx hb hK hP hD hS 8 7 rfl rfl (vp_in_iff.mpr ⟨by omega, by omega⟩) dX12_clause_265 (fun H locs hP hD hS => ?_)
              obtain ⟨fn144, efn144⟩ : ∃ g : Nat → Int32, g = upd f25 (Int32.toNatClampNeg t3) t143 := ⟨_, rfl⟩
              rw [← efn144] at hP hD
              have hP : va_P (dC, dI) vwCl (wd_d5ef5423 h0 v0 h1 v1 x134 x135 x136 h2 h3 h4 h5 h6 h7 h8 v3 v4 r0 r1 r2 r3 v5 r4 r5 v6 v7 r6 r7 v8 v9 r8 v10 v11 r9 v12 w13 r10 v14 v15 r11 r12 r13 r14 r15 r16 v16 r17 r18 r19 v17 h1 g0 f18 h2 g1 fn137 h3 g2 fn138 h4 g3 fn139 h5 g4 f22 h6 g5 fn25 h7 g6 fn142 h8 g7 fn144) H := hP
              have hD : va_D A (wd_d5ef5423 h0 v0 h1 v1 x134 x135 x136 h2 h3 h4 h5 h6 h7 h8 v3 v4 r0 r1 r2 r3 v5 r4 r5 v6 v7 r6 r7 v8 v9 r8 v10 v11 r9 v12 w13 r10 v14 v15 r11 r12 r13 r14 r15 r16 v16 r17 r18 r19 v17 h1 g0 f18 h2 g1 fn137 h3 g2 fn138 h4 g3 fn139 h5 g4 f22 h6 g5 fn25 h7 g6 fn142 h8 g7 fn144) := hD
              have hk3 : fn144 (Int32.toNatClampNeg t3) = t143 := by rw [efn144]; exact pk_us
              have ho3 : ∀ j : Nat, ¬ j = Int32.toNatClampNeg t3 → fn144 j = f25 j := fun j h9 => by rw [efn144, pk_un h9]; exact ho3 j h9
              refine lv_aload_n hx hb dX12_clause_266 rfl (lv_at hl 2 rfl) ?_
              refine va_get (D := (dC, dI)) (ci := 12) (v := .ref h5) (C := RX12) (T := TX12) (N := 48) hx hb hts (fun _ h => List.mem_cons_of_mem _ (List.mem_append_right _ h)) hown hK hP 0 rfl rfl 9 (by decide) (hts (.fieldLink RX12 22 "LeftArgumentsModel" "clauses" "[I") (List.mem_cons_of_mem _ (List.mem_append_left _ (List.mem_of_getElem? (i := 1) rfl)))) (fun _ h9 => h9) rfl dX12_clause_267 ?_
              refine lv_aload_n hx hb dX12_clause_270 rfl (lv_at hl 2 rfl) ?_
              refine va_get (D := (dC, dI)) (ci := 12) (v := .int v4) (C := RX12) (T := TX12) (N := 48) hx hb hts (fun _ h => List.mem_cons_of_mem _ (List.mem_append_right _ h)) hown hK hP 0 rfl rfl 14 (by decide) (hts (.fieldLink RX12 122 "LeftArgumentsModel" "text" "I") (List.mem_cons_of_mem _ (List.mem_append_left _ (List.mem_of_getElem? (i := 0) rfl)))) (fun _ h9 => h9) rfl dX12_clause_271 ?_
              refine lv_dup2_11 hx hb dX12_clause_274 rfl rfl ?_
              refine va_iald hx hb hK hP 5 4 rfl rfl (vp_in_iff.mpr ⟨by omega, by omega⟩) dX12_clause_275 ?_
              refine lv_topi (fun t145 et145 => ?_)
              have gmt145 : t145.toInt = t2.toInt := by rw [et145, et2]
              have hqt145 : t145.toInt = pm_x f22 v4 := by rw [et145]; rfl
              have gqt145 : 0 ≤ t145.toInt ∧ t145.toInt ≤ 120 := by constructor <;> omega
              refine lv_iconst (v := 1) hx hb dX12_clause_276 (by decide) ?_
              refine lv_iadd hx hb dX12_clause_277 ?_
              refine lv_topi (fun t146 et146 => ?_)
              have gt146 : t146.toInt = t145.toInt + 1 := pv_add (a := t145.toInt) (b := 1) et146 rfl (by decide) (by omega) (by omega)
              refine va_iast hx hb hK hP hD hS 5 4 rfl rfl (vp_in_iff.mpr ⟨by omega, by omega⟩) dX12_clause_278 (fun H locs hP hD hS => ?_)
              obtain ⟨fn147, efn147⟩ : ∃ g : Nat → Int32, g = upd f22 (Int32.toNatClampNeg v4) t146 := ⟨_, rfl⟩
              rw [← efn147] at hP hD
              have hP : va_P (dC, dI) vwCl (wd_d5ef5423 h0 v0 h1 v1 x134 x135 x136 h2 h3 h4 h5 h6 h7 h8 v3 v4 r0 r1 r2 r3 v5 r4 r5 v6 v7 r6 r7 v8 v9 r8 v10 v11 r9 v12 w13 r10 v14 v15 r11 r12 r13 r14 r15 r16 v16 r17 r18 r19 v17 h1 g0 f18 h2 g1 fn137 h3 g2 fn138 h4 g3 fn139 h5 g4 fn147 h6 g5 fn25 h7 g6 fn142 h8 g7 fn144) H := hP
              have hD : va_D A (wd_d5ef5423 h0 v0 h1 v1 x134 x135 x136 h2 h3 h4 h5 h6 h7 h8 v3 v4 r0 r1 r2 r3 v5 r4 r5 v6 v7 r6 r7 v8 v9 r8 v10 v11 r9 v12 w13 r10 v14 v15 r11 r12 r13 r14 r15 r16 v16 r17 r18 r19 v17 h1 g0 f18 h2 g1 fn137 h3 g2 fn138 h4 g3 fn139 h5 g4 fn147 h6 g5 fn25 h7 g6 fn142 h8 g7 fn144) := hD
              have ho4 : ∀ j : Nat, ¬ j = Int32.toNatClampNeg v4 → fn147 j = f22 j := fun j h9 => by rw [efn147, pk_un h9]
              have hk4 : pm_x fn147 v4 = pm_x f22 v4 + 1 := by rw [efn147]; show (upd _ _ _ _).toInt = _; rw [pk_us]; omega
              subst hQ
              have hP9 := hP.sub (ws' := (wd_d5ef5423 h0 v0 h1 v1 x134 x135 x136 h2 h3 h4 h5 h6 h7 h8 v3 v4 r0 r1 r2 r3 v5 r4 r5 v6 v7 r6 r7 v8 v9 r8 v10 v11 r9 v12 w13 r10 v14 v15 r11 r12 r13 r14 r15 r16 v16 r17 r18 r19 v17 h1 g0 f18 h2 g1 fn137 h3 g2 fn138 h4 g3 fn139 h5 g4 fn147 h6 g5 fn25 h7 g6 fn142 h8 g7 fn144)) [0, 1, 2, 3, 4, 5, 6, 7, 8] rfl
              have hD9 := hD.sub (ws' := (wd_d5ef5423 h0 v0 h1 v1 x134 x135 x136 h2 h3 h4 h5 h6 h7 h8 v3 v4 r0 r1 r2 r3 v5 r4 r5 v6 v7 r6 r7 v8 v9 r8 v10 v11 r9 v12 w13 r10 v14 v15 r11 r12 r13 r14 r15 r16 v16 r17 r18 r19 v17 h1 g0 f18 h2 g1 fn137 h3 g2 fn138 h4 g3 fn139 h5 g4 fn147 h6 g5 fn25 h7 g6 fn142 h8 g7 fn144)) [0, 1, 2, 3, 4, 5, 6, 7, 8] (by decide) rfl
              have hK9 := hK.sub (tys' := []) [] rfl
              exact W.vret hx hb hr (fun t ht hW => ⟨⟨(), rfl, trivial, Or.inr (⟨x134, x135, x136, fn137, fn138, fn139, fn147, fn25, fn142, fn144, by first | omega | decide, by first | omega | decide, by first | omega | decide, by first | omega | decide, by exact pm_Oth.mk hgF ho1 ho2 ho3 ho4 (by omega) (by omega) (by omega) (by omega), by rw [ht]; exact hP9, va_K.moved hW.alike hK9, hD9⟩)⟩, hS.F ht⟩) hS.2.2 dX12_clause_279
          have hJ149 : ∀ (x148 : Int32) (H : Heap) (locs : List Loc) (ls : Array Slot), 0 ≤ x148.toInt → x148.toInt ≤ 239 → t23.toInt ≤ x148.toInt → va_P (dC, dI) vwCl (wd_d5ef5423 h0 v0 h1 v1 x148 (-1) 0 h2 h3 h4 h5 h6 h7 h8 v3 v4 r0 r1 r2 r3 v5 r4 r5 v6 v7 r6 r7 v8 v9 r8 v10 v11 r9 v12 w13 r10 v14 v15 r11 r12 r13 r14 r15 r16 v16 r17 r18 r19 v17 h1 g0 f18 h2 g1 f19 h3 g2 f20 h4 g3 f21 h5 g4 f22 h6 g5 fn25 h7 g6 f24 h8 g7 f25) H → va_D A (wd_d5ef5423 h0 v0 h1 v1 x148 (-1) 0 h2 h3 h4 h5 h6 h7 h8 v3 v4 r0 r1 r2 r3 v5 r4 r5 v6 v7 r6 r7 v8 v9 r8 v10 v11 r9 v12 w13 r10 v14 v15 r11 r12 r13 r14 r15 r16 v16 r17 r18 r19 v17 h1 g0 f18 h2 g1 f19 h3 g2 f20 h4 g3 f21 h5 g4 f22 h6 g5 fn25 h7 g6 f24 h8 g7 f25) → va_S A s.heap H locs → lv_has ls 3 [(1, .int t3), (0, .ref h0)] → W p l e ({ frames := 34, cells := 0, slots := 0, locals := 693 }) s m ([.ref h0] : List Value).toArray below meth c H locs 0 0 Q (F0 m 128 ls [.int 1]) := by
            intro x148 H locs ls qa_x148 qb_x148 gh0_hJ149 hP hD hS hl
            refine lv_istore_n (lv' := [(2, .int 1), (1, .int t3), (0, .ref h0)]) hx hb dX12_clause_128 rfl hl (by decide) rfl (fun ls hl => ?_)
            refine lv_iload_n hx hb dX12_clause_129 rfl (lv_at hl 0 rfl) ?_
            refine lv_if_eq (tgt := 140) hx hb dX12_clause_130 (by decide) (fun c => absurd c (by decide)) (fun _ => ?_)
            refine lv_aload_n hx hb dX12_clause_133 rfl (lv_at hl 2 rfl) ?_
            have hPc := hP.sub (ws' := (wd_d906eaf1 h0 v0 h1 v1 x148 (-1) 0 h2 h3 h4 h5 h6 h7 h8 v3 v4 r0 r1 r2 r3 v5 r4 r5 v6 v7 r6 r7 v8 v9 r8 v10 v11 r9 v12 w13 r10 v14 v15 r11 r12 r13 r14 r15 r16 v16 r17 r18 r19 v17 h1 g0 f18 h2 g1 f19 h3 g2 f20 h4 g3 f21)) [0, 1, 2, 3, 4] rfl
            have hDc := hD.sub (ws' := (wd_d906eaf1 h0 v0 h1 v1 x148 (-1) 0 h2 h3 h4 h5 h6 h7 h8 v3 v4 r0 r1 r2 r3 v5 r4 r5 v6 v7 r6 r7 v8 v9 r8 v10 v11 r9 v12 w13 r10 v14 v15 r11 r12 r13 r14 r15 r16 v16 r17 r18 r19 v17 h1 g0 f18 h2 g1 f19 h3 g2 f20 h4 g3 f21)) [0, 1, 2, 3, 4] (by decide) rfl
            have hKc := hK.sub (tys' := [(g0, .int), (g1, .int), (g2, .int), (g3, .int)]) [0, 1, 2, 3] rfl
            have hFc := va_free (wc := (wd_d906eaf1 h0 v0 h1 v1 x148 (-1) 0 h2 h3 h4 h5 h6 h7 h8 v3 v4 r0 r1 r2 r3 v5 r4 r5 v6 v7 r6 r7 v8 v9 r8 v10 v11 r9 v12 w13 r10 v14 v15 r11 r12 r13 r14 r15 r16 v16 r17 r18 r19 v17 h1 g0 f18 h2 g1 f19 h3 g2 f20 h4 g3 f21)) hD hS hA [0, 1, 2, 3, 4] rfl
            refine va_callv (va_runV (As := []) (rest := []) ⟨hx, hb, hml, hown, hts⟩ (k_X12_condition_6 l dC dI h0 h1 h2 h3 h4 v0 v1 x148 h5 h6 h7 h8 v3 v4 r0 r1 r2 r3 v5 r4 r5 v6 v7 r6 r7 v8 v9 r8 v10 v11 r9 v12 w13 r10 v14 v15 r11 r12 r13 r14 r15 r16 v16 r17 r18 r19 v17 g0 f18 g1 f19 g2 f20 g3 f21 ⟨by first | omega | decide, by first | omega | decide⟩ ⟨by first | omega | decide, by first | omega | decide⟩ ⟨by first | omega | decide, by first | omega | decide⟩ ⟨by first | omega | decide, by first | omega | decide⟩ ⟨by first | omega | decide, by first | omega | decide⟩ ⟨by first | omega | decide, by first | omega | decide⟩ ⟨by first | omega | decide, by first | omega | decide⟩ ⟨by first | omega | decide, by first | omega | decide⟩ ⟨by first | omega | decide, by first | omega | decide⟩ ⟨by first | omega | decide, by first | omega | decide⟩ ⟨by first | omega | decide, by first | omega | decide⟩ ia_f18 (by constructor <;> omega) H.size) (cwV 0 hts g_X12_clause_18 rfl rfl rfl (by decide +kernel) ⟨Nat.le_of_ble_eq_true rfl, Nat.le_of_ble_eq_true rfl⟩) ⟨fun a U g mk q => by obtain ⟨q0, q1, qP, qK, qD⟩ := q; exact ⟨q0, q1, qP, va_K.moved (u := U) (U := U.calling g mk a) (Vm.Alike.refl U.vm) qK, qD⟩, va_recv hKc hPc (ci := 12) (q0 := 0) rfl rfl, fun U hU hW => ⟨rfl, by rw [hU], by rw [hU]; exact hPc, va_K.moved hW.alike hKc, hDc.weaken (fun _ _ _ _ => trivial)⟩⟩ rfl rfl hl.1 rfl (lv_room (Nat.le_of_ble_eq_true rfl)) dX12_clause_134 ⟨Nat.le_of_ble_eq_true rfl, Nat.le_of_ble_eq_true rfl⟩) hS (fun q _ h => hFc q h) hFc (fun u t H1 locs ht hvm hwra150 hB hz1 hk1 hS => ?_)
            rcases hB with hB | hB
            · skip
              obtain ⟨x151, fn152, fn153, fn154, oa_x151, ob_x151, pt0_ra150, pt1_ra150, hP1, hK1, hD1⟩ := hB
              rw [ht] at hP1
              obtain ⟨hP, hD⟩ := va_join (wr := (wd_9ed5f2f7 h5 g4 f22 h6 g5 fn25 h7 g6 f24 h8 g7 f25)) (w1 := (wd_d906eaf1 h0 v0 h1 v1 x151 (-1) 0 h2 h3 h4 h5 h6 h7 h8 v3 v4 r0 r1 r2 r3 v5 r4 r5 v6 v7 r6 r7 v8 v9 r8 v10 v11 r9 v12 w13 r10 v14 v15 r11 r12 r13 r14 r15 r16 v16 r17 r18 r19 v17 h1 g0 f18 h2 g1 fn152 h3 g2 fn153 h4 g3 fn154)) hP hD [0, 1, 2, 3, 4] [5, 6, 7, 8] rfl rfl (by decide) (by decide) hk1 hFc hP1 hD1
              generalize H1 = H at hP hS ⊢
              have hP := hP.sub (ws' := (wd_d5ef5423 h0 v0 h1 v1 x151 (-1) 0 h2 h3 h4 h5 h6 h7 h8 v3 v4 r0 r1 r2 r3 v5 r4 r5 v6 v7 r6 r7 v8 v9 r8 v10 v11 r9 v12 w13 r10 v14 v15 r11 r12 r13 r14 r15 r16 v16 r17 r18 r19 v17 h1 g0 f18 h2 g1 fn152 h3 g2 fn153 h4 g3 fn154 h5 g4 f22 h6 g5 fn25 h7 g6 f24 h8 g7 f25)) [4, 5, 6, 7, 8, 0, 1, 2, 3] rfl
              have hD := hD.sub (ws' := (wd_d5ef5423 h0 v0 h1 v1 x151 (-1) 0 h2 h3 h4 h5 h6 h7 h8 v3 v4 r0 r1 r2 r3 v5 r4 r5 v6 v7 r6 r7 v8 v9 r8 v10 v11 r9 v12 w13 r10 v14 v15 r11 r12 r13 r14 r15 r16 v16 r17 r18 r19 v17 h1 g0 f18 h2 g1 fn152 h3 g2 fn153 h4 g3 fn154 h5 g4 f22 h6 g5 fn25 h7 g6 f24 h8 g7 f25)) [4, 5, 6, 7, 8, 0, 1, 2, 3] (by decide) rfl
              have hP : va_P (dC, dI) vwCl (wd_d5ef5423 h0 v0 h1 v1 x151 (-1) 0 h2 h3 h4 h5 h6 h7 h8 v3 v4 r0 r1 r2 r3 v5 r4 r5 v6 v7 r6 r7 v8 v9 r8 v10 v11 r9 v12 w13 r10 v14 v15 r11 r12 r13 r14 r15 r16 v16 r17 r18 r19 v17 h1 g0 f18 h2 g1 fn152 h3 g2 fn153 h4 g3 fn154 h5 g4 f22 h6 g5 fn25 h7 g6 f24 h8 g7 f25) H := hP
              have hD : va_D A (wd_d5ef5423 h0 v0 h1 v1 x151 (-1) 0 h2 h3 h4 h5 h6 h7 h8 v3 v4 r0 r1 r2 r3 v5 r4 r5 v6 v7 r6 r7 v8 v9 r8 v10 v11 r9 v12 w13 r10 v14 v15 r11 r12 r13 r14 r15 r16 v16 r17 r18 r19 v17 h1 g0 f18 h2 g1 fn152 h3 g2 fn153 h4 g3 fn154 h5 g4 f22 h6 g5 fn25 h7 g6 f24 h8 g7 f25) := hD
              have hgR := hgR.app (k' := 1) (D := 18) pt1_ra150 (by decide) (by decide) (by decide) (by decide)
              have hgF := hgR.1
              have hxl := hgF.1
              refine lv_goto (tgt := 184) hx hb dX12_clause_137 (by decide) ?_
              refine lv_aload_n hx hb dX12_clause_184 rfl (lv_at hl 2 rfl) ?_
              refine va_get (D := (dC, dI)) (ci := 12) (v := .ref h7) (C := RX12) (T := TX12) (N := 48) hx hb hts (fun _ h => List.mem_cons_of_mem _ (List.mem_append_right _ h)) hown hK hP 0 rfl rfl 11 (by decide) (hts (.fieldLink RX12 28 "LeftArgumentsModel" "sumFrom" "[I") (List.mem_cons_of_mem _ (List.mem_append_left _ (List.mem_of_getElem? (i := 21) rfl)))) (fun _ h9 => h9) rfl dX12_clause_185 ?_
              refine lv_iload_n hx hb dX12_clause_188 rfl (lv_at hl 1 rfl) ?_
              refine lv_aload_n hx hb dX12_clause_189 rfl (lv_at hl 2 rfl) ?_
              refine va_get (D := (dC, dI)) (ci := 12) (v := .ref h6) (C := RX12) (T := TX12) (N := 48) hx hb hts (fun _ h => List.mem_cons_of_mem _ (List.mem_append_right _ h)) hown hK hP 0 rfl rfl 10 (by decide) (hts (.fieldLink RX12 25 "LeftArgumentsModel" "testFrom" "[I") (List.mem_cons_of_mem _ (List.mem_append_left _ (List.mem_of_getElem? (i := 19) rfl)))) (fun _ h9 => h9) rfl dX12_clause_190 ?_
              refine lv_iload_n hx hb dX12_clause_193 rfl (lv_at hl 1 rfl) ?_
              refine va_iald hx hb hK hP 6 5 rfl rfl (vp_in_iff.mpr ⟨by omega, by omega⟩) dX12_clause_194 ?_
              refine lv_topi (fun t155 et155 => ?_)
              have hqt155 : t155.toInt = t24.toInt := by rw [et155, hk1]
              refine va_iast hx hb hK hP hD hS 7 6 rfl rfl (vp_in_iff.mpr ⟨by omega, by omega⟩) dX12_clause_195 (fun H locs hP hD hS => ?_)
              obtain ⟨fn156, efn156⟩ : ∃ g : Nat → Int32, g = upd f24 (Int32.toNatClampNeg t3) t155 := ⟨_, rfl⟩
              rw [← efn156] at hP hD
              have hP : va_P (dC, dI) vwCl (wd_d5ef5423 h0 v0 h1 v1 x151 (-1) 0 h2 h3 h4 h5 h6 h7 h8 v3 v4 r0 r1 r2 r3 v5 r4 r5 v6 v7 r6 r7 v8 v9 r8 v10 v11 r9 v12 w13 r10 v14 v15 r11 r12 r13 r14 r15 r16 v16 r17 r18 r19 v17 h1 g0 f18 h2 g1 fn152 h3 g2 fn153 h4 g3 fn154 h5 g4 f22 h6 g5 fn25 h7 g6 fn156 h8 g7 f25) H := hP
              have hD : va_D A (wd_d5ef5423 h0 v0 h1 v1 x151 (-1) 0 h2 h3 h4 h5 h6 h7 h8 v3 v4 r0 r1 r2 r3 v5 r4 r5 v6 v7 r6 r7 v8 v9 r8 v10 v11 r9 v12 w13 r10 v14 v15 r11 r12 r13 r14 r15 r16 v16 r17 r18 r19 v17 h1 g0 f18 h2 g1 fn152 h3 g2 fn153 h4 g3 fn154 h5 g4 f22 h6 g5 fn25 h7 g6 fn156 h8 g7 f25) := hD
              have hk2 : fn156 (Int32.toNatClampNeg t3) = t155 := by rw [efn156]; exact pk_us
              have ho2 : ∀ j : Nat, ¬ j = Int32.toNatClampNeg t3 → fn156 j = f24 j := fun j h9 => by rw [efn156, pk_un h9]; exact ho2 j h9
              refine lv_iload_n hx hb dX12_clause_196 rfl (lv_at hl 0 rfl) ?_
              refine lv_if_eq (tgt := 251) hx hb dX12_clause_197 (by decide) (fun c => absurd c (by decide)) (fun _ => ?_)
              refine lv_aload_n hx hb dX12_clause_200 rfl (lv_at hl 2 rfl) ?_
              refine va_get (D := (dC, dI)) (ci := 12) (v := .int (-1)) (C := RX12) (T := TX12) (N := 48) hx hb hts (fun _ h => List.mem_cons_of_mem _ (List.mem_append_right _ h)) hown hK hP 0 rfl rfl 4 (by decide) (hts (.fieldLink RX12 119 "LeftArgumentsModel" "wrong" "I") (List.mem_cons_of_mem _ (List.mem_append_left _ (List.mem_of_getElem? (i := 2) rfl)))) (fun _ h9 => h9) rfl dX12_clause_201 ?_
              refine lv_iconst (v := (-1)) hx hb dX12_clause_204 (by decide) ?_
              refine lv_icmp_ne (tgt := 251) hx hb dX12_clause_205 (by decide) (fun c => absurd (by decide) c) (fun _ => ?_)
              refine lv_aload_n hx hb dX12_clause_208 rfl (lv_at hl 2 rfl) ?_
              have hPc := hP.sub (ws' := (wd_f4cd022e h0 v0 h1 v1 x151 (-1) 0 h2 h3 h4 h5 h6 h7 h8 v3 v4 r0 r1 r2 r3 v5 r4 r5 v6 v7 r6 r7 v8 v9 r8 v10 v11 r9 v12 w13 r10 v14 v15 r11 r12 r13 r14 r15 r16 v16 r17 r18 r19 v17 h1 g0 f18)) [0, 1] rfl
              have hDc := hD.sub (ws' := (wd_f4cd022e h0 v0 h1 v1 x151 (-1) 0 h2 h3 h4 h5 h6 h7 h8 v3 v4 r0 r1 r2 r3 v5 r4 r5 v6 v7 r6 r7 v8 v9 r8 v10 v11 r9 v12 w13 r10 v14 v15 r11 r12 r13 r14 r15 r16 v16 r17 r18 r19 v17 h1 g0 f18)) [0, 1] (by decide) rfl
              have hKc := hK.sub (tys' := [(g0, .int)]) [0] rfl
              have hFc := va_free (wc := (wd_f4cd022e h0 v0 h1 v1 x151 (-1) 0 h2 h3 h4 h5 h6 h7 h8 v3 v4 r0 r1 r2 r3 v5 r4 r5 v6 v7 r6 r7 v8 v9 r8 v10 v11 r9 v12 w13 r10 v14 v15 r11 r12 r13 r14 r15 r16 v16 r17 r18 r19 v17 h1 g0 f18)) hD hS hA [0, 1] rfl
              refine va_calli (va_runV (As := []) (rest := []) ⟨hx, hb, hml, hown, hts⟩ (k_X12_look l dC dI h0 h1 v0 v1 x151 ((-1)) 0 h2 h3 h4 h5 h6 h7 h8 v3 v4 r0 r1 r2 r3 v5 r4 r5 v6 v7 r6 r7 v8 v9 r8 v10 v11 r9 v12 w13 r10 v14 v15 r11 r12 r13 r14 r15 r16 v16 r17 r18 r19 v17 g0 f18 ⟨by first | omega | decide, by first | omega | decide⟩ ⟨by first | omega | decide, by first | omega | decide⟩ ⟨by first | omega | decide, by first | omega | decide⟩ ⟨by first | omega | decide, by first | omega | decide⟩ ⟨by first | omega | decide, by first | omega | decide⟩ ⟨by first | omega | decide, by first | omega | decide⟩ ⟨by first | omega | decide, by first | omega | decide⟩ ⟨by first | omega | decide, by first | omega | decide⟩ ⟨by first | omega | decide, by first | omega | decide⟩ ⟨by first | omega | decide, by first | omega | decide⟩ ⟨by first | omega | decide, by first | omega | decide⟩ ia_f18 H.size) (cwV 0 hts g_X12_clause_0 rfl rfl rfl (by decide +kernel) ⟨Nat.le_of_ble_eq_true rfl, Nat.le_of_ble_eq_true rfl⟩) ⟨fun a U g mk q => by obtain ⟨q0, q1, qP, qK, qD⟩ := q; exact ⟨q0, q1, qP, va_K.moved (u := U) (U := U.calling g mk a) (Vm.Alike.refl U.vm) qK, qD⟩, va_recv hKc hPc (ci := 12) (q0 := 0) rfl rfl, fun U hU hW => ⟨rfl, by rw [hU], by rw [hU]; exact hPc, va_K.moved hW.alike hKc, hDc.weaken (fun _ _ _ _ => trivial)⟩⟩ rfl rfl hl.1 rfl (lv_room (Nat.le_of_ble_eq_true rfl)) dX12_clause_209 ⟨Nat.le_of_ble_eq_true rfl, Nat.le_of_ble_eq_true rfl⟩) hS (fun q _ h => hFc q h) hFc (fun ra157 u t H1 locs ht hvm hwra157 hB hz1 hk1 hS => ?_)
              try rw [hwra157] at hB
              have hkra157_0 : (((-1) : Int32)).toInt = -1 := by decide
              have hkra157_1 : ((0 : Int32)).toInt = 0 := by decide
              rcases hB with hB | hB
              · skip
                obtain ⟨x158, oa_x158, ob_x158, pt0_ra157, pt1_ra157, pt2_ra157, pt3_ra157, hP1, hK1, hD1⟩ := hB
                rw [ht] at hP1
                obtain ⟨hP, hD⟩ := va_join (wr := (wd_55284813 h2 g1 fn152 h3 g2 fn153 h4 g3 fn154 h5 g4 f22 h6 g5 fn25 h7 g6 fn156 h8 g7 f25)) (w1 := (wd_f4cd022e h0 v0 h1 v1 x158 (-1) 0 h2 h3 h4 h5 h6 h7 h8 v3 v4 r0 r1 r2 r3 v5 r4 r5 v6 v7 r6 r7 v8 v9 r8 v10 v11 r9 v12 w13 r10 v14 v15 r11 r12 r13 r14 r15 r16 v16 r17 r18 r19 v17 h1 g0 f18)) hP hD [0, 1] [2, 3, 4, 5, 6, 7, 8] rfl rfl (by decide) (by decide) hk1 hFc hP1 hD1
                generalize H1 = H at hP hS ⊢
                have hP := hP.sub (ws' := (wd_d5ef5423 h0 v0 h1 v1 x158 (-1) 0 h2 h3 h4 h5 h6 h7 h8 v3 v4 r0 r1 r2 r3 v5 r4 r5 v6 v7 r6 r7 v8 v9 r8 v10 v11 r9 v12 w13 r10 v14 v15 r11 r12 r13 r14 r15 r16 v16 r17 r18 r19 v17 h1 g0 f18 h2 g1 fn152 h3 g2 fn153 h4 g3 fn154 h5 g4 f22 h6 g5 fn25 h7 g6 fn156 h8 g7 f25)) [7, 8, 0, 1, 2, 3, 4, 5, 6] rfl
                have hD := hD.sub (ws' := (wd_d5ef5423 h0 v0 h1 v1 x158 (-1) 0 h2 h3 h4 h5 h6 h7 h8 v3 v4 r0 r1 r2 r3 v5 r4 r5 v6 v7 r6 r7 v8 v9 r8 v10 v11 r9 v12 w13 r10 v14 v15 r11 r12 r13 r14 r15 r16 v16 r17 r18 r19 v17 h1 g0 f18 h2 g1 fn152 h3 g2 fn153 h4 g3 fn154 h5 g4 f22 h6 g5 fn25 h7 g6 fn156 h8 g7 f25)) [7, 8, 0, 1, 2, 3, 4, 5, 6] (by decide) rfl
                have hP : va_P (dC, dI) vwCl (wd_d5ef5423 h0 v0 h1 v1 x158 (-1) 0 h2 h3 h4 h5 h6 h7 h8 v3 v4 r0 r1 r2 r3 v5 r4 r5 v6 v7 r6 r7 v8 v9 r8 v10 v11 r9 v12 w13 r10 v14 v15 r11 r12 r13 r14 r15 r16 v16 r17 r18 r19 v17 h1 g0 f18 h2 g1 fn152 h3 g2 fn153 h4 g3 fn154 h5 g4 f22 h6 g5 fn25 h7 g6 fn156 h8 g7 f25) H := hP
                have hD : va_D A (wd_d5ef5423 h0 v0 h1 v1 x158 (-1) 0 h2 h3 h4 h5 h6 h7 h8 v3 v4 r0 r1 r2 r3 v5 r4 r5 v6 v7 r6 r7 v8 v9 r8 v10 v11 r9 v12 w13 r10 v14 v15 r11 r12 r13 r14 r15 r16 v16 r17 r18 r19 v17 h1 g0 f18 h2 g1 fn152 h3 g2 fn153 h4 g3 fn154 h5 g4 f22 h6 g5 fn25 h7 g6 fn156 h8 g7 f25) := hD
                obtain rfl : ra157 = ((-1) : Int32) := Int32.toInt_inj.mp (by rw [show (((-1) : Int32)).toInt = -1 by decide]; omega)
                refine lv_bipush (v := 63) hx hb dX12_clause_212 (by decide) ?_
                refine lv_icmp_eq (tgt := 222) hx hb dX12_clause_214 (by decide) (fun c => absurd c (by decide)) (fun _ => ?_)
                refine lv_aload_n hx hb dX12_clause_217 rfl (lv_at hl 2 rfl) ?_
                have hPc := hP.sub (ws' := (wd_171f232f h0 v0 h1 v1 x158 (-1) 0 h2 h3 h4 h5 h6 h7 h8 v3 v4 r0 r1 r2 r3 v5 r4 r5 v6 v7 r6 r7 v8 v9 r8 v10 v11 r9 v12 w13 r10 v14 v15 r11 r12 r13 r14 r15 r16 v16 r17 r18 r19 v17)) [0] rfl
                have hDc := hD.sub (ws' := (wd_171f232f h0 v0 h1 v1 x158 (-1) 0 h2 h3 h4 h5 h6 h7 h8 v3 v4 r0 r1 r2 r3 v5 r4 r5 v6 v7 r6 r7 v8 v9 r8 v10 v11 r9 v12 w13 r10 v14 v15 r11 r12 r13 r14 r15 r16 v16 r17 r18 r19 v17)) [0] (by decide) rfl
                have hKc := hK.sub (tys' := []) [] rfl
                have hFc := va_free (wc := (wd_171f232f h0 v0 h1 v1 x158 (-1) 0 h2 h3 h4 h5 h6 h7 h8 v3 v4 r0 r1 r2 r3 v5 r4 r5 v6 v7 r6 r7 v8 v9 r8 v10 v11 r9 v12 w13 r10 v14 v15 r11 r12 r13 r14 r15 r16 v16 r17 r18 r19 v17)) hD hS hA [0] rfl
                refine va_callv (va_runV (As := []) (rest := []) ⟨hx, hb, hml, hown, hts⟩ (k_X12_bad l dC dI h0 v0 h1 v1 x158 0 h2 h3 h4 h5 h6 h7 h8 v3 v4 r0 r1 r2 r3 v5 r4 r5 v6 v7 r6 r7 v8 v9 r8 v10 v11 r9 v12 w13 r10 v14 v15 r11 r12 r13 r14 r15 r16 v16 r17 r18 r19 v17 ⟨by first | omega | decide, by first | omega | decide⟩ ⟨by first | omega | decide, by first | omega | decide⟩ ⟨by first | omega | decide, by first | omega | decide⟩ ⟨by first | omega | decide, by first | omega | decide⟩ ⟨by first | omega | decide, by first | omega | decide⟩ ⟨by first | omega | decide, by first | omega | decide⟩ ⟨by first | omega | decide, by first | omega | decide⟩ ⟨by first | omega | decide, by first | omega | decide⟩ ⟨by first | omega | decide, by first | omega | decide⟩ ⟨by first | omega | decide, by first | omega | decide⟩ ⟨by first | omega | decide, by first | omega | decide⟩ H.size) (cwV 0 hts g_X12_clause_1 rfl rfl rfl (by decide +kernel) ⟨Nat.le_of_ble_eq_true rfl, Nat.le_of_ble_eq_true rfl⟩) ⟨fun a U g mk q => by obtain ⟨q0, q1, qP, qK, qD⟩ := q; exact ⟨q0, q1, qP, va_K.moved (u := U) (U := U.calling g mk a) (Vm.Alike.refl U.vm) qK, qD⟩, va_recv hKc hPc (ci := 12) (q0 := 0) rfl rfl, fun U hU hW => ⟨rfl, by rw [hU], by rw [hU]; exact hPc, va_K.moved hW.alike hKc, hDc.weaken (fun _ _ _ _ => trivial)⟩⟩ rfl rfl hl.1 rfl (lv_room (Nat.le_of_ble_eq_true rfl)) dX12_clause_218 ⟨Nat.le_of_ble_eq_true rfl, Nat.le_of_ble_eq_true rfl⟩) hS (fun q _ h => hFc q h) hFc (fun u t H1 locs ht hvm hwra159 hB hz1 hk1 hS => ?_)
                obtain ⟨x160, oa_x160, ob_x160, hP1, hK1, hD1⟩ := hB
                rw [ht] at hP1
                obtain ⟨hP, hD⟩ := va_join (wr := (wd_f36c9d1b h1 g0 f18 h2 g1 fn152 h3 g2 fn153 h4 g3 fn154 h5 g4 f22 h6 g5 fn25 h7 g6 fn156 h8 g7 f25)) (w1 := (wd_171f232f h0 v0 h1 v1 x158 x160 0 h2 h3 h4 h5 h6 h7 h8 v3 v4 r0 r1 r2 r3 v5 r4 r5 v6 v7 r6 r7 v8 v9 r8 v10 v11 r9 v12 w13 r10 v14 v15 r11 r12 r13 r14 r15 r16 v16 r17 r18 r19 v17)) hP hD [0] [1, 2, 3, 4, 5, 6, 7, 8] rfl rfl (by decide) (by decide) hk1 hFc hP1 hD1
                generalize H1 = H at hP hS ⊢
                have hP := hP.sub (ws' := (wd_d5ef5423 h0 v0 h1 v1 x158 x160 0 h2 h3 h4 h5 h6 h7 h8 v3 v4 r0 r1 r2 r3 v5 r4 r5 v6 v7 r6 r7 v8 v9 r8 v10 v11 r9 v12 w13 r10 v14 v15 r11 r12 r13 r14 r15 r16 v16 r17 r18 r19 v17 h1 g0 f18 h2 g1 fn152 h3 g2 fn153 h4 g3 fn154 h5 g4 f22 h6 g5 fn25 h7 g6 fn156 h8 g7 f25)) [8, 0, 1, 2, 3, 4, 5, 6, 7] rfl
                have hD := hD.sub (ws' := (wd_d5ef5423 h0 v0 h1 v1 x158 x160 0 h2 h3 h4 h5 h6 h7 h8 v3 v4 r0 r1 r2 r3 v5 r4 r5 v6 v7 r6 r7 v8 v9 r8 v10 v11 r9 v12 w13 r10 v14 v15 r11 r12 r13 r14 r15 r16 v16 r17 r18 r19 v17 h1 g0 f18 h2 g1 fn152 h3 g2 fn153 h4 g3 fn154 h5 g4 f22 h6 g5 fn25 h7 g6 fn156 h8 g7 f25)) [8, 0, 1, 2, 3, 4, 5, 6, 7] (by decide) rfl
                have hP : va_P (dC, dI) vwCl (wd_d5ef5423 h0 v0 h1 v1 x158 x160 0 h2 h3 h4 h5 h6 h7 h8 v3 v4 r0 r1 r2 r3 v5 r4 r5 v6 v7 r6 r7 v8 v9 r8 v10 v11 r9 v12 w13 r10 v14 v15 r11 r12 r13 r14 r15 r16 v16 r17 r18 r19 v17 h1 g0 f18 h2 g1 fn152 h3 g2 fn153 h4 g3 fn154 h5 g4 f22 h6 g5 fn25 h7 g6 fn156 h8 g7 f25) H := hP
                have hD : va_D A (wd_d5ef5423 h0 v0 h1 v1 x158 x160 0 h2 h3 h4 h5 h6 h7 h8 v3 v4 r0 r1 r2 r3 v5 r4 r5 v6 v7 r6 r7 v8 v9 r8 v10 v11 r9 v12 w13 r10 v14 v15 r11 r12 r13 r14 r15 r16 v16 r17 r18 r19 v17 h1 g0 f18 h2 g1 fn152 h3 g2 fn153 h4 g3 fn154 h5 g4 f22 h6 g5 fn25 h7 g6 fn156 h8 g7 f25) := hD
                subst hQ
                have hP9 := hP.sub (ws' := (wd_d5ef5423 h0 v0 h1 v1 x158 x160 0 h2 h3 h4 h5 h6 h7 h8 v3 v4 r0 r1 r2 r3 v5 r4 r5 v6 v7 r6 r7 v8 v9 r8 v10 v11 r9 v12 w13 r10 v14 v15 r11 r12 r13 r14 r15 r16 v16 r17 r18 r19 v17 h1 g0 f18 h2 g1 fn152 h3 g2 fn153 h4 g3 fn154 h5 g4 f22 h6 g5 fn25 h7 g6 fn156 h8 g7 f25)) [0, 1, 2, 3, 4, 5, 6, 7, 8] rfl
                have hD9 := hD.sub (ws' := (wd_d5ef5423 h0 v0 h1 v1 x158 x160 0 h2 h3 h4 h5 h6 h7 h8 v3 v4 r0 r1 r2 r3 v5 r4 r5 v6 v7 r6 r7 v8 v9 r8 v10 v11 r9 v12 w13 r10 v14 v15 r11 r12 r13 r14 r15 r16 v16 r17 r18 r19 v17 h1 g0 f18 h2 g1 fn152 h3 g2 fn153 h4 g3 fn154 h5 g4 f22 h6 g5 fn25 h7 g6 fn156 h8 g7 f25)) [0, 1, 2, 3, 4, 5, 6, 7, 8] (by decide) rfl
                have hK9 := hK.sub (tys' := []) [] rfl
                exact W.vret hx hb hr (fun t ht hW => ⟨⟨(), rfl, trivial, Or.inr (⟨x158, x160, 0, fn152, fn153, fn154, f22, fn25, fn156, f25, by first | omega | decide, by first | omega | decide, by first | omega | decide, by first | omega | decide, by exact pm_Oth.mk hgF ho1 ho2 ho3 ho4 (by omega) (by omega) (by omega) (by omega), by rw [ht]; exact hP9, va_K.moved hW.alike hK9, hD9⟩)⟩, hS.F ht⟩) hS.2.2 dX12_clause_221
              · skip
                obtain ⟨x161, oa_x161, ob_x161, pt0_ra157, pt1_ra157, pt2_ra157, pt3_ra157, pt4_ra157, hP1, hK1, hD1⟩ := hB
                rw [ht] at hP1
                obtain ⟨hP, hD⟩ := va_join (wr := (wd_55284813 h2 g1 fn152 h3 g2 fn153 h4 g3 fn154 h5 g4 f22 h6 g5 fn25 h7 g6 fn156 h8 g7 f25)) (w1 := (wd_f4cd022e h0 v0 h1 v1 x161 (-1) 0 h2 h3 h4 h5 h6 h7 h8 v3 v4 r0 r1 r2 r3 v5 r4 r5 v6 v7 r6 r7 v8 v9 r8 v10 v11 r9 v12 w13 r10 v14 v15 r11 r12 r13 r14 r15 r16 v16 r17 r18 r19 v17 h1 g0 f18)) hP hD [0, 1] [2, 3, 4, 5, 6, 7, 8] rfl rfl (by decide) (by decide) hk1 hFc hP1 hD1
                generalize H1 = H at hP hS ⊢
                have hP := hP.sub (ws' := (wd_d5ef5423 h0 v0 h1 v1 x161 (-1) 0 h2 h3 h4 h5 h6 h7 h8 v3 v4 r0 r1 r2 r3 v5 r4 r5 v6 v7 r6 r7 v8 v9 r8 v10 v11 r9 v12 w13 r10 v14 v15 r11 r12 r13 r14 r15 r16 v16 r17 r18 r19 v17 h1 g0 f18 h2 g1 fn152 h3 g2 fn153 h4 g3 fn154 h5 g4 f22 h6 g5 fn25 h7 g6 fn156 h8 g7 f25)) [7, 8, 0, 1, 2, 3, 4, 5, 6] rfl
                have hD := hD.sub (ws' := (wd_d5ef5423 h0 v0 h1 v1 x161 (-1) 0 h2 h3 h4 h5 h6 h7 h8 v3 v4 r0 r1 r2 r3 v5 r4 r5 v6 v7 r6 r7 v8 v9 r8 v10 v11 r9 v12 w13 r10 v14 v15 r11 r12 r13 r14 r15 r16 v16 r17 r18 r19 v17 h1 g0 f18 h2 g1 fn152 h3 g2 fn153 h4 g3 fn154 h5 g4 f22 h6 g5 fn25 h7 g6 fn156 h8 g7 f25)) [7, 8, 0, 1, 2, 3, 4, 5, 6] (by decide) rfl
                have hP : va_P (dC, dI) vwCl (wd_d5ef5423 h0 v0 h1 v1 x161 (-1) 0 h2 h3 h4 h5 h6 h7 h8 v3 v4 r0 r1 r2 r3 v5 r4 r5 v6 v7 r6 r7 v8 v9 r8 v10 v11 r9 v12 w13 r10 v14 v15 r11 r12 r13 r14 r15 r16 v16 r17 r18 r19 v17 h1 g0 f18 h2 g1 fn152 h3 g2 fn153 h4 g3 fn154 h5 g4 f22 h6 g5 fn25 h7 g6 fn156 h8 g7 f25) H := hP
                have hD : va_D A (wd_d5ef5423 h0 v0 h1 v1 x161 (-1) 0 h2 h3 h4 h5 h6 h7 h8 v3 v4 r0 r1 r2 r3 v5 r4 r5 v6 v7 r6 r7 v8 v9 r8 v10 v11 r9 v12 w13 r10 v14 v15 r11 r12 r13 r14 r15 r16 v16 r17 r18 r19 v17 h1 g0 f18 h2 g1 fn152 h3 g2 fn153 h4 g3 fn154 h5 g4 f22 h6 g5 fn25 h7 g6 fn156 h8 g7 f25) := hD
                refine lv_bipush (v := 63) hx hb dX12_clause_212 (by decide) ?_
                refine lv_icmp_eq (tgt := 222) hx hb dX12_clause_214 (by decide) (fun c162 => ?_) (fun c162 => ?_)
                · skip
                  have fc162 : ra157.toInt = 63 := congrArg Int32.toInt c162
                  refine lv_aload_n hx hb dX12_clause_222 rfl (lv_at hl 2 rfl) ?_
                  refine lv_dup hx hb dX12_clause_223 rfl ?_
                  refine va_get (D := (dC, dI)) (ci := 12) (v := .int x161) (C := RX12) (T := TX12) (N := 48) hx hb hts (fun _ h => List.mem_cons_of_mem _ (List.mem_append_right _ h)) hown hK hP 0 rfl rfl 3 (by decide) (hts (.fieldLink RX12 112 "LeftArgumentsModel" "at" "I") (List.mem_cons_of_mem _ (List.mem_append_left _ (List.mem_of_getElem? (i := 5) rfl)))) (fun _ h9 => h9) rfl dX12_clause_224 ?_
                  refine lv_iconst (v := 1) hx hb dX12_clause_227 (by decide) ?_
                  refine lv_iadd hx hb dX12_clause_228 ?_
                  refine lv_topi (fun t163 et163 => ?_)
                  have gt163 : t163.toInt = x161.toInt + 1 := pv_add (a := x161.toInt) (b := 1) et163 rfl (by decide) (by omega) (by omega)
                  refine va_put (D := (dC, dI)) (ci := 12) (v := .int t163) (ty := .int) (C := RX12) (T := TX12) (N := 48) hx hb hts (fun _ h => List.mem_cons_of_mem _ (List.mem_append_right _ h)) tyX12 tyX12_ok nmX12 hown hK hP hD hS 0 rfl rfl 3 (by decide) (hts (.fieldLink RX12 112 "LeftArgumentsModel" "at" "I") (List.mem_cons_of_mem _ (List.mem_append_left _ (List.mem_of_getElem? (i := 5) rfl)))) (fun _ h9 => h9) rfl (by decide +kernel) rfl rfl (Nat.le_of_ble_eq_true rfl) dX12_clause_229 (fun H locs hP hD hS => ?_)
                  have hP : va_P (dC, dI) vwCl (wd_d5ef5423 h0 v0 h1 v1 t163 (-1) 0 h2 h3 h4 h5 h6 h7 h8 v3 v4 r0 r1 r2 r3 v5 r4 r5 v6 v7 r6 r7 v8 v9 r8 v10 v11 r9 v12 w13 r10 v14 v15 r11 r12 r13 r14 r15 r16 v16 r17 r18 r19 v17 h1 g0 f18 h2 g1 fn152 h3 g2 fn153 h4 g3 fn154 h5 g4 f22 h6 g5 fn25 h7 g6 fn156 h8 g7 f25) H := hP
                  have hD : va_D A (wd_d5ef5423 h0 v0 h1 v1 t163 (-1) 0 h2 h3 h4 h5 h6 h7 h8 v3 v4 r0 r1 r2 r3 v5 r4 r5 v6 v7 r6 r7 v8 v9 r8 v10 v11 r9 v12 w13 r10 v14 v15 r11 r12 r13 r14 r15 r16 v16 r17 r18 r19 v17 h1 g0 f18 h2 g1 fn152 h3 g2 fn153 h4 g3 fn154 h5 g4 f22 h6 g5 fn25 h7 g6 fn156 h8 g7 f25) := hD
                  refine lv_aload_n hx hb dX12_clause_232 rfl (lv_at hl 2 rfl) ?_
                  refine va_get (D := (dC, dI)) (ci := 12) (v := .ref h7) (C := RX12) (T := TX12) (N := 48) hx hb hts (fun _ h => List.mem_cons_of_mem _ (List.mem_append_right _ h)) hown hK hP 0 rfl rfl 11 (by decide) (hts (.fieldLink RX12 28 "LeftArgumentsModel" "sumFrom" "[I") (List.mem_cons_of_mem _ (List.mem_append_left _ (List.mem_of_getElem? (i := 21) rfl)))) (fun _ h9 => h9) rfl dX12_clause_233 ?_
                  refine lv_iload_n hx hb dX12_clause_236 rfl (lv_at hl 1 rfl) ?_
                  refine lv_aload_n hx hb dX12_clause_237 rfl (lv_at hl 2 rfl) ?_
                  refine va_get (D := (dC, dI)) (ci := 12) (v := .ref h4) (C := RX12) (T := TX12) (N := 48) hx hb hts (fun _ h => List.mem_cons_of_mem _ (List.mem_append_right _ h)) hown hK hP 0 rfl rfl 8 (by decide) (hts (.fieldLink RX12 19 "LeftArgumentsModel" "codes" "[I") (List.mem_cons_of_mem _ (List.mem_append_left _ (List.mem_of_getElem? (i := 20) rfl)))) (fun _ h9 => h9) rfl dX12_clause_238 ?_
                  refine lv_aload_n hx hb dX12_clause_241 rfl (lv_at hl 2 rfl) ?_
                  refine va_get (D := (dC, dI)) (ci := 12) (v := .int v4) (C := RX12) (T := TX12) (N := 48) hx hb hts (fun _ h => List.mem_cons_of_mem _ (List.mem_append_right _ h)) hown hK hP 0 rfl rfl 14 (by decide) (hts (.fieldLink RX12 122 "LeftArgumentsModel" "text" "I") (List.mem_cons_of_mem _ (List.mem_append_left _ (List.mem_of_getElem? (i := 0) rfl)))) (fun _ h9 => h9) rfl dX12_clause_242 ?_
                  refine va_iald hx hb hK hP 4 3 rfl rfl (vp_in_iff.mpr ⟨by omega, by omega⟩) dX12_clause_245 ?_
                  refine lv_topi (fun t164 et164 => ?_)
                  have hqt164 : t164.toInt = pm_x fn154 v4 := by rw [et164]; rfl
                  have gqt164 : 0 ≤ t164.toInt ∧ t164.toInt ≤ 500 := by constructor <;> omega
                  refine va_iast hx hb hK hP hD hS 7 6 rfl rfl (vp_in_iff.mpr ⟨by omega, by omega⟩) dX12_clause_246 (fun H locs hP hD hS => ?_)
                  obtain ⟨fn165, efn165⟩ : ∃ g : Nat → Int32, g = upd fn156 (Int32.toNatClampNeg t3) t164 := ⟨_, rfl⟩
                  rw [← efn165] at hP hD
                  have hP : va_P (dC, dI) vwCl (wd_d5ef5423 h0 v0 h1 v1 t163 (-1) 0 h2 h3 h4 h5 h6 h7 h8 v3 v4 r0 r1 r2 r3 v5 r4 r5 v6 v7 r6 r7 v8 v9 r8 v10 v11 r9 v12 w13 r10 v14 v15 r11 r12 r13 r14 r15 r16 v16 r17 r18 r19 v17 h1 g0 f18 h2 g1 fn152 h3 g2 fn153 h4 g3 fn154 h5 g4 f22 h6 g5 fn25 h7 g6 fn165 h8 g7 f25) H := hP
                  have hD : va_D A (wd_d5ef5423 h0 v0 h1 v1 t163 (-1) 0 h2 h3 h4 h5 h6 h7 h8 v3 v4 r0 r1 r2 r3 v5 r4 r5 v6 v7 r6 r7 v8 v9 r8 v10 v11 r9 v12 w13 r10 v14 v15 r11 r12 r13 r14 r15 r16 v16 r17 r18 r19 v17 h1 g0 f18 h2 g1 fn152 h3 g2 fn153 h4 g3 fn154 h5 g4 f22 h6 g5 fn25 h7 g6 fn165 h8 g7 f25) := hD
                  have hk2 : fn165 (Int32.toNatClampNeg t3) = t164 := by rw [efn165]; exact pk_us
                  have ho2 : ∀ j : Nat, ¬ j = Int32.toNatClampNeg t3 → fn165 j = f24 j := fun j h9 => by rw [efn165, pk_un h9]; exact ho2 j h9
                  have hg1 := hgR; have hgE := hgF
                  have hgR := pm_R.refl (L := 0) v4 fn152 fn153 fn154 (by omega)
                  refine lv_aload_n hx hb dX12_clause_247 rfl (lv_at hl 2 rfl) ?_
                  have hPc := hP.sub (ws' := (wd_d906eaf1 h0 v0 h1 v1 t163 (-1) 0 h2 h3 h4 h5 h6 h7 h8 v3 v4 r0 r1 r2 r3 v5 r4 r5 v6 v7 r6 r7 v8 v9 r8 v10 v11 r9 v12 w13 r10 v14 v15 r11 r12 r13 r14 r15 r16 v16 r17 r18 r19 v17 h1 g0 f18 h2 g1 fn152 h3 g2 fn153 h4 g3 fn154)) [0, 1, 2, 3, 4] rfl
                  have hDc := hD.sub (ws' := (wd_d906eaf1 h0 v0 h1 v1 t163 (-1) 0 h2 h3 h4 h5 h6 h7 h8 v3 v4 r0 r1 r2 r3 v5 r4 r5 v6 v7 r6 r7 v8 v9 r8 v10 v11 r9 v12 w13 r10 v14 v15 r11 r12 r13 r14 r15 r16 v16 r17 r18 r19 v17 h1 g0 f18 h2 g1 fn152 h3 g2 fn153 h4 g3 fn154)) [0, 1, 2, 3, 4] (by decide) rfl
                  have hKc := hK.sub (tys' := [(g0, .int), (g1, .int), (g2, .int), (g3, .int)]) [0, 1, 2, 3] rfl
                  have hFc := va_free (wc := (wd_d906eaf1 h0 v0 h1 v1 t163 (-1) 0 h2 h3 h4 h5 h6 h7 h8 v3 v4 r0 r1 r2 r3 v5 r4 r5 v6 v7 r6 r7 v8 v9 r8 v10 v11 r9 v12 w13 r10 v14 v15 r11 r12 r13 r14 r15 r16 v16 r17 r18 r19 v17 h1 g0 f18 h2 g1 fn152 h3 g2 fn153 h4 g3 fn154)) hD hS hA [0, 1, 2, 3, 4] rfl
                  refine va_callv (va_runV (As := []) (rest := []) ⟨hx, hb, hml, hown, hts⟩ (k_X12_sum_6 l dC dI h0 h1 h2 h3 h4 v0 v1 t163 h5 h6 h7 h8 v3 v4 r0 r1 r2 r3 v5 r4 r5 v6 v7 r6 r7 v8 v9 r8 v10 v11 r9 v12 w13 r10 v14 v15 r11 r12 r13 r14 r15 r16 v16 r17 r18 r19 v17 g0 f18 g1 fn152 g2 fn153 g3 fn154 ⟨by first | omega | decide, by first | omega | decide⟩ ⟨by first | omega | decide, by first | omega | decide⟩ ⟨by first | omega | decide, by first | omega | decide⟩ ⟨by first | omega | decide, by first | omega | decide⟩ ⟨by first | omega | decide, by first | omega | decide⟩ ⟨by first | omega | decide, by first | omega | decide⟩ ⟨by first | omega | decide, by first | omega | decide⟩ ⟨by first | omega | decide, by first | omega | decide⟩ ⟨by first | omega | decide, by first | omega | decide⟩ ⟨by first | omega | decide, by first | omega | decide⟩ ⟨by first | omega | decide, by first | omega | decide⟩ ia_f18 (by constructor <;> omega) H.size) (cwV 0 hts g_X12_clause_4 rfl rfl rfl (by decide +kernel) ⟨Nat.le_of_ble_eq_true rfl, Nat.le_of_ble_eq_true rfl⟩) ⟨fun a U g mk q => by obtain ⟨q0, q1, qP, qK, qD⟩ := q; exact ⟨q0, q1, qP, va_K.moved (u := U) (U := U.calling g mk a) (Vm.Alike.refl U.vm) qK, qD⟩, va_recv hKc hPc (ci := 12) (q0 := 0) rfl rfl, fun U hU hW => ⟨rfl, by rw [hU], by rw [hU]; exact hPc, va_K.moved hW.alike hKc, hDc.weaken (fun _ _ _ _ => trivial)⟩⟩ rfl rfl hl.1 rfl (lv_room (Nat.le_of_ble_eq_true rfl)) dX12_clause_248 ⟨Nat.le_of_ble_eq_true rfl, Nat.le_of_ble_eq_true rfl⟩) hS (fun q _ h => hFc q h) hFc (fun u t H1 locs ht hvm hwra166 hB hz1 hk1 hS => ?_)
                  rcases hB with hB | hB
                  · skip
                    obtain ⟨x167, fn168, fn169, fn170, oa_x167, ob_x167, pt0_ra166, pt1_ra166, hP1, hK1, hD1⟩ := hB
                    rw [ht] at hP1
                    obtain ⟨hP, hD⟩ := va_join (wr := (wd_9ed5f2f7 h5 g4 f22 h6 g5 fn25 h7 g6 fn165 h8 g7 f25)) (w1 := (wd_d906eaf1 h0 v0 h1 v1 x167 (-1) 0 h2 h3 h4 h5 h6 h7 h8 v3 v4 r0 r1 r2 r3 v5 r4 r5 v6 v7 r6 r7 v8 v9 r8 v10 v11 r9 v12 w13 r10 v14 v15 r11 r12 r13 r14 r15 r16 v16 r17 r18 r19 v17 h1 g0 f18 h2 g1 fn168 h3 g2 fn169 h4 g3 fn170)) hP hD [0, 1, 2, 3, 4] [5, 6, 7, 8] rfl rfl (by decide) (by decide) hk1 hFc hP1 hD1
                    generalize H1 = H at hP hS ⊢
                    have hP := hP.sub (ws' := (wd_d5ef5423 h0 v0 h1 v1 x167 (-1) 0 h2 h3 h4 h5 h6 h7 h8 v3 v4 r0 r1 r2 r3 v5 r4 r5 v6 v7 r6 r7 v8 v9 r8 v10 v11 r9 v12 w13 r10 v14 v15 r11 r12 r13 r14 r15 r16 v16 r17 r18 r19 v17 h1 g0 f18 h2 g1 fn168 h3 g2 fn169 h4 g3 fn170 h5 g4 f22 h6 g5 fn25 h7 g6 fn165 h8 g7 f25)) [4, 5, 6, 7, 8, 0, 1, 2, 3] rfl
                    have hD := hD.sub (ws' := (wd_d5ef5423 h0 v0 h1 v1 x167 (-1) 0 h2 h3 h4 h5 h6 h7 h8 v3 v4 r0 r1 r2 r3 v5 r4 r5 v6 v7 r6 r7 v8 v9 r8 v10 v11 r9 v12 w13 r10 v14 v15 r11 r12 r13 r14 r15 r16 v16 r17 r18 r19 v17 h1 g0 f18 h2 g1 fn168 h3 g2 fn169 h4 g3 fn170 h5 g4 f22 h6 g5 fn25 h7 g6 fn165 h8 g7 f25)) [4, 5, 6, 7, 8, 0, 1, 2, 3] (by decide) rfl
                    have hP : va_P (dC, dI) vwCl (wd_d5ef5423 h0 v0 h1 v1 x167 (-1) 0 h2 h3 h4 h5 h6 h7 h8 v3 v4 r0 r1 r2 r3 v5 r4 r5 v6 v7 r6 r7 v8 v9 r8 v10 v11 r9 v12 w13 r10 v14 v15 r11 r12 r13 r14 r15 r16 v16 r17 r18 r19 v17 h1 g0 f18 h2 g1 fn168 h3 g2 fn169 h4 g3 fn170 h5 g4 f22 h6 g5 fn25 h7 g6 fn165 h8 g7 f25) H := hP
                    have hD : va_D A (wd_d5ef5423 h0 v0 h1 v1 x167 (-1) 0 h2 h3 h4 h5 h6 h7 h8 v3 v4 r0 r1 r2 r3 v5 r4 r5 v6 v7 r6 r7 v8 v9 r8 v10 v11 r9 v12 w13 r10 v14 v15 r11 r12 r13 r14 r15 r16 v16 r17 r18 r19 v17 h1 g0 f18 h2 g1 fn168 h3 g2 fn169 h4 g3 fn170 h5 g4 f22 h6 g5 fn25 h7 g6 fn165 h8 g7 f25) := hD
                    have hgR := hgR.app (k' := 1) (D := 15) pt1_ra166 (by decide) (by decide) (by decide) (by decide)
                    have hgF := hgR.1
                    have hxl := hgF.1
                    have hgF := hgE.app hgR.1; have hxl := hgF.1; have hxl2 := hgR.1.1
                    refine lv_aload_n hx hb dX12_clause_251 rfl (lv_at hl 2 rfl) ?_
                    refine va_get (D := (dC, dI)) (ci := 12) (v := .ref h8) (C := RX12) (T := TX12) (N := 48) hx hb hts (fun _ h => List.mem_cons_of_mem _ (List.mem_append_right _ h)) hown hK hP 0 rfl rfl 12 (by decide) (hts (.fieldLink RX12 31 "LeftArgumentsModel" "sumTo" "[I") (List.mem_cons_of_mem _ (List.mem_append_left _ (List.mem_of_getElem? (i := 22) rfl)))) (fun _ h9 => h9) rfl dX12_clause_252 ?_
                    refine lv_iload_n hx hb dX12_clause_255 rfl (lv_at hl 1 rfl) ?_
                    refine lv_aload_n hx hb dX12_clause_256 rfl (lv_at hl 2 rfl) ?_
                    refine va_get (D := (dC, dI)) (ci := 12) (v := .ref h4) (C := RX12) (T := TX12) (N := 48) hx hb hts (fun _ h => List.mem_cons_of_mem _ (List.mem_append_right _ h)) hown hK hP 0 rfl rfl 8 (by decide) (hts (.fieldLink RX12 19 "LeftArgumentsModel" "codes" "[I") (List.mem_cons_of_mem _ (List.mem_append_left _ (List.mem_of_getElem? (i := 20) rfl)))) (fun _ h9 => h9) rfl dX12_clause_257 ?_
                    refine lv_aload_n hx hb dX12_clause_260 rfl (lv_at hl 2 rfl) ?_
                    refine va_get (D := (dC, dI)) (ci := 12) (v := .int v4) (C := RX12) (T := TX12) (N := 48) hx hb hts (fun _ h => List.mem_cons_of_mem _ (List.mem_append_right _ h)) hown hK hP 0 rfl rfl 14 (by decide) (hts (.fieldLink RX12 122 "LeftArgumentsModel" "text" "I") (List.mem_cons_of_mem _ (List.mem_append_left _ (List.mem_of_getElem? (i := 0) rfl)))) (fun _ h9 => h9) rfl dX12_clause_261 ?_
                    refine va_iald hx hb hK hP 4 3 rfl rfl (vp_in_iff.mpr ⟨by omega, by omega⟩) dX12_clause_264 ?_
                    refine lv_topi (fun t171 et171 => ?_)
                    have hqt171 : t171.toInt = pm_x fn170 v4 := by rw [et171]; rfl
                    have gqt171 : 0 ≤ t171.toInt ∧ t171.toInt ≤ 500 := by constructor <;> omega
                    refine va_iast hx hb hK hP hD hS 8 7 rfl rfl (vp_in_iff.mpr ⟨by omega, by omega⟩) dX12_clause_265 (fun H locs hP hD hS => ?_)
                    obtain ⟨fn172, efn172⟩ : ∃ g : Nat → Int32, g = upd f25 (Int32.toNatClampNeg t3) t171 := ⟨_, rfl⟩
                    rw [← efn172] at hP hD
                    have hP : va_P (dC, dI) vwCl (wd_d5ef5423 h0 v0 h1 v1 x167 (-1) 0 h2 h3 h4 h5 h6 h7 h8 v3 v4 r0 r1 r2 r3 v5 r4 r5 v6 v7 r6 r7 v8 v9 r8 v10 v11 r9 v12 w13 r10 v14 v15 r11 r12 r13 r14 r15 r16 v16 r17 r18 r19 v17 h1 g0 f18 h2 g1 fn168 h3 g2 fn169 h4 g3 fn170 h5 g4 f22 h6 g5 fn25 h7 g6 fn165 h8 g7 fn172) H := hP
                    have hD : va_D A (wd_d5ef5423 h0 v0 h1 v1 x167 (-1) 0 h2 h3 h4 h5 h6 h7 h8 v3 v4 r0 r1 r2 r3 v5 r4 r5 v6 v7 r6 r7 v8 v9 r8 v10 v11 r9 v12 w13 r10 v14 v15 r11 r12 r13 r14 r15 r16 v16 r17 r18 r19 v17 h1 g0 f18 h2 g1 fn168 h3 g2 fn169 h4 g3 fn170 h5 g4 f22 h6 g5 fn25 h7 g6 fn165 h8 g7 fn172) := hD
                    have hk3 : fn172 (Int32.toNatClampNeg t3) = t171 := by rw [efn172]; exact pk_us
                    have ho3 : ∀ j : Nat, ¬ j = Int32.toNatClampNeg t3 → fn172 j = f25 j := fun j h9 => by rw [efn172, pk_un h9]; exact ho3 j h9
                    refine lv_aload_n hx hb dX12_clause_266 rfl (lv_at hl 2 rfl) ?_
                    refine va_get (D := (dC, dI)) (ci := 12) (v := .ref h5) (C := RX12) (T := TX12) (N := 48) hx hb hts (fun _ h => List.mem_cons_of_mem _ (List.mem_append_right _ h)) hown hK hP 0 rfl rfl 9 (by decide) (hts (.fieldLink RX12 22 "LeftArgumentsModel" "clauses" "[I") (List.mem_cons_of_mem _ (List.mem_append_left _ (List.mem_of_getElem? (i := 1) rfl)))) (fun _ h9 => h9) rfl dX12_clause_267 ?_
                    refine lv_aload_n hx hb dX12_clause_270 rfl (lv_at hl 2 rfl) ?_
                    refine va_get (D := (dC, dI)) (ci := 12) (v := .int v4) (C := RX12) (T := TX12) (N := 48) hx hb hts (fun _ h => List.mem_cons_of_mem _ (List.mem_append_right _ h)) hown hK hP 0 rfl rfl 14 (by decide) (hts (.fieldLink RX12 122 "LeftArgumentsModel" "text" "I") (List.mem_cons_of_mem _ (List.mem_append_left _ (List.mem_of_getElem? (i := 0) rfl)))) (fun _ h9 => h9) rfl dX12_clause_271 ?_
                    refine lv_dup2_11 hx hb dX12_clause_274 rfl rfl ?_
                    refine va_iald hx hb hK hP 5 4 rfl rfl (vp_in_iff.mpr ⟨by omega, by omega⟩) dX12_clause_275 ?_
                    refine lv_topi (fun t173 et173 => ?_)
                    have gmt173 : t173.toInt = t2.toInt := by rw [et173, et2]
                    have hqt173 : t173.toInt = pm_x f22 v4 := by rw [et173]; rfl
                    have gqt173 : 0 ≤ t173.toInt ∧ t173.toInt ≤ 120 := by constructor <;> omega
                    refine lv_iconst (v := 1) hx hb dX12_clause_276 (by decide) ?_
                    refine lv_iadd hx hb dX12_clause_277 ?_
                    refine lv_topi (fun t174 et174 => ?_)
                    have gt174 : t174.toInt = t173.toInt + 1 := pv_add (a := t173.toInt) (b := 1) et174 rfl (by decide) (by omega) (by omega)
                    refine va_iast hx hb hK hP hD hS 5 4 rfl rfl (vp_in_iff.mpr ⟨by omega, by omega⟩) dX12_clause_278 (fun H locs hP hD hS => ?_)
                    obtain ⟨fn175, efn175⟩ : ∃ g : Nat → Int32, g = upd f22 (Int32.toNatClampNeg v4) t174 := ⟨_, rfl⟩
                    rw [← efn175] at hP hD
                    have hP : va_P (dC, dI) vwCl (wd_d5ef5423 h0 v0 h1 v1 x167 (-1) 0 h2 h3 h4 h5 h6 h7 h8 v3 v4 r0 r1 r2 r3 v5 r4 r5 v6 v7 r6 r7 v8 v9 r8 v10 v11 r9 v12 w13 r10 v14 v15 r11 r12 r13 r14 r15 r16 v16 r17 r18 r19 v17 h1 g0 f18 h2 g1 fn168 h3 g2 fn169 h4 g3 fn170 h5 g4 fn175 h6 g5 fn25 h7 g6 fn165 h8 g7 fn172) H := hP
                    have hD : va_D A (wd_d5ef5423 h0 v0 h1 v1 x167 (-1) 0 h2 h3 h4 h5 h6 h7 h8 v3 v4 r0 r1 r2 r3 v5 r4 r5 v6 v7 r6 r7 v8 v9 r8 v10 v11 r9 v12 w13 r10 v14 v15 r11 r12 r13 r14 r15 r16 v16 r17 r18 r19 v17 h1 g0 f18 h2 g1 fn168 h3 g2 fn169 h4 g3 fn170 h5 g4 fn175 h6 g5 fn25 h7 g6 fn165 h8 g7 fn172) := hD
                    have ho4 : ∀ j : Nat, ¬ j = Int32.toNatClampNeg v4 → fn175 j = f22 j := fun j h9 => by rw [efn175, pk_un h9]
                    have hk4 : pm_x fn175 v4 = pm_x f22 v4 + 1 := by rw [efn175]; show (upd _ _ _ _).toInt = _; rw [pk_us]; omega
                    subst hQ
                    have sg1 := (hg1.seg (f := t24) (t := t164) (by omega) (by omega) (by decide) (by omega) (by omega)).fr hgR.1 (by omega) (by omega)
                    have sg2 := hgR.seg (f := t164) (t := t171) (by omega) (by omega) (by decide) (by omega) (by omega)
                    have hP9 := hP.sub (ws' := (wd_d5ef5423 h0 v0 h1 v1 x167 (-1) 0 h2 h3 h4 h5 h6 h7 h8 v3 v4 r0 r1 r2 r3 v5 r4 r5 v6 v7 r6 r7 v8 v9 r8 v10 v11 r9 v12 w13 r10 v14 v15 r11 r12 r13 r14 r15 r16 v16 r17 r18 r19 v17 h1 g0 f18 h2 g1 fn168 h3 g2 fn169 h4 g3 fn170 h5 g4 fn175 h6 g5 fn25 h7 g6 fn165 h8 g7 fn172)) [0, 1, 2, 3, 4, 5, 6, 7, 8] rfl
                    have hD9 := hD.sub (ws' := (wd_d5ef5423 h0 v0 h1 v1 x167 (-1) 0 h2 h3 h4 h5 h6 h7 h8 v3 v4 r0 r1 r2 r3 v5 r4 r5 v6 v7 r6 r7 v8 v9 r8 v10 v11 r9 v12 w13 r10 v14 v15 r11 r12 r13 r14 r15 r16 v16 r17 r18 r19 v17 h1 g0 f18 h2 g1 fn168 h3 g2 fn169 h4 g3 fn170 h5 g4 fn175 h6 g5 fn25 h7 g6 fn165 h8 g7 fn172)) [0, 1, 2, 3, 4, 5, 6, 7, 8] (by decide) rfl
                    have hK9 := hK.sub (tys' := []) [] rfl
                    exact W.vret hx hb hr (fun t ht hW => ⟨⟨(), rfl, trivial, Or.inl ⟨x167, fn168, fn169, fn170, fn175, fn25, fn165, fn172, by first | omega | decide, by first | omega | decide, by refine ⟨?_, ?_, ?_⟩ <;> omega, by exact hk4, by exact pm_Rw.add pp2 hgF hk1 hk2 hk3 ho1 ho2 ho3 (by omega) (by omega) (by omega) hk4 sg1 sg2 (by omega), by exact pm_Oth.mk hgF ho1 ho2 ho3 ho4 (by omega) (by omega) (by omega) (by omega), by rw [ht]; exact hP9, va_K.moved hW.alike hK9, hD9⟩⟩, hS.F ht⟩) hS.2.2 dX12_clause_279
                  · skip
                    obtain ⟨x176, x177, x178, fn179, fn180, fn181, oa_x176, ob_x176, oa_x177, ob_x177, pt0_ra166, pt1_ra166, hP1, hK1, hD1⟩ := hB
                    rw [ht] at hP1
                    obtain ⟨hP, hD⟩ := va_join (wr := (wd_9ed5f2f7 h5 g4 f22 h6 g5 fn25 h7 g6 fn165 h8 g7 f25)) (w1 := (wd_d906eaf1 h0 v0 h1 v1 x176 x177 x178 h2 h3 h4 h5 h6 h7 h8 v3 v4 r0 r1 r2 r3 v5 r4 r5 v6 v7 r6 r7 v8 v9 r8 v10 v11 r9 v12 w13 r10 v14 v15 r11 r12 r13 r14 r15 r16 v16 r17 r18 r19 v17 h1 g0 f18 h2 g1 fn179 h3 g2 fn180 h4 g3 fn181)) hP hD [0, 1, 2, 3, 4] [5, 6, 7, 8] rfl rfl (by decide) (by decide) hk1 hFc hP1 hD1
                    generalize H1 = H at hP hS ⊢
                    have hP := hP.sub (ws' := (wd_d5ef5423 h0 v0 h1 v1 x176 x177 x178 h2 h3 h4 h5 h6 h7 h8 v3 v4 r0 r1 r2 r3 v5 r4 r5 v6 v7 r6 r7 v8 v9 r8 v10 v11 r9 v12 w13 r10 v14 v15 r11 r12 r13 r14 r15 r16 v16 r17 r18 r19 v17 h1 g0 f18 h2 g1 fn179 h3 g2 fn180 h4 g3 fn181 h5 g4 f22 h6 g5 fn25 h7 g6 fn165 h8 g7 f25)) [4, 5, 6, 7, 8, 0, 1, 2, 3] rfl
                    have hD := hD.sub (ws' := (wd_d5ef5423 h0 v0 h1 v1 x176 x177 x178 h2 h3 h4 h5 h6 h7 h8 v3 v4 r0 r1 r2 r3 v5 r4 r5 v6 v7 r6 r7 v8 v9 r8 v10 v11 r9 v12 w13 r10 v14 v15 r11 r12 r13 r14 r15 r16 v16 r17 r18 r19 v17 h1 g0 f18 h2 g1 fn179 h3 g2 fn180 h4 g3 fn181 h5 g4 f22 h6 g5 fn25 h7 g6 fn165 h8 g7 f25)) [4, 5, 6, 7, 8, 0, 1, 2, 3] (by decide) rfl
                    have hP : va_P (dC, dI) vwCl (wd_d5ef5423 h0 v0 h1 v1 x176 x177 x178 h2 h3 h4 h5 h6 h7 h8 v3 v4 r0 r1 r2 r3 v5 r4 r5 v6 v7 r6 r7 v8 v9 r8 v10 v11 r9 v12 w13 r10 v14 v15 r11 r12 r13 r14 r15 r16 v16 r17 r18 r19 v17 h1 g0 f18 h2 g1 fn179 h3 g2 fn180 h4 g3 fn181 h5 g4 f22 h6 g5 fn25 h7 g6 fn165 h8 g7 f25) H := hP
                    have hD : va_D A (wd_d5ef5423 h0 v0 h1 v1 x176 x177 x178 h2 h3 h4 h5 h6 h7 h8 v3 v4 r0 r1 r2 r3 v5 r4 r5 v6 v7 r6 r7 v8 v9 r8 v10 v11 r9 v12 w13 r10 v14 v15 r11 r12 r13 r14 r15 r16 v16 r17 r18 r19 v17 h1 g0 f18 h2 g1 fn179 h3 g2 fn180 h4 g3 fn181 h5 g4 f22 h6 g5 fn25 h7 g6 fn165 h8 g7 f25) := hD
                    have hgF := hgF.app pt1_ra166
                    have hxl := hgF.1
                    refine lv_aload_n hx hb dX12_clause_251 rfl (lv_at hl 2 rfl) ?_
                    refine va_get (D := (dC, dI)) (ci := 12) (v := .ref h8) (C := RX12) (T := TX12) (N := 48) hx hb hts (fun _ h => List.mem_cons_of_mem _ (List.mem_append_right _ h)) hown hK hP 0 rfl rfl 12 (by decide) (hts (.fieldLink RX12 31 "LeftArgumentsModel" "sumTo" "[I") (List.mem_cons_of_mem _ (List.mem_append_left _ (List.mem_of_getElem? (i := 22) rfl)))) (fun _ h9 => h9) rfl dX12_clause_252 ?_
                    refine lv_iload_n hx hb dX12_clause_255 rfl (lv_at hl 1 rfl) ?_
                    refine lv_aload_n hx hb dX12_clause_256 rfl (lv_at hl 2 rfl) ?_
                    refine va_get (D := (dC, dI)) (ci := 12) (v := .ref h4) (C := RX12) (T := TX12) (N := 48) hx hb hts (fun _ h => List.mem_cons_of_mem _ (List.mem_append_right _ h)) hown hK hP 0 rfl rfl 8 (by decide) (hts (.fieldLink RX12 19 "LeftArgumentsModel" "codes" "[I") (List.mem_cons_of_mem _ (List.mem_append_left _ (List.mem_of_getElem? (i := 20) rfl)))) (fun _ h9 => h9) rfl dX12_clause_257 ?_
                    refine lv_aload_n hx hb dX12_clause_260 rfl (lv_at hl 2 rfl) ?_
                    refine va_get (D := (dC, dI)) (ci := 12) (v := .int v4) (C := RX12) (T := TX12) (N := 48) hx hb hts (fun _ h => List.mem_cons_of_mem _ (List.mem_append_right _ h)) hown hK hP 0 rfl rfl 14 (by decide) (hts (.fieldLink RX12 122 "LeftArgumentsModel" "text" "I") (List.mem_cons_of_mem _ (List.mem_append_left _ (List.mem_of_getElem? (i := 0) rfl)))) (fun _ h9 => h9) rfl dX12_clause_261 ?_
                    refine va_iald hx hb hK hP 4 3 rfl rfl (vp_in_iff.mpr ⟨by omega, by omega⟩) dX12_clause_264 ?_
                    refine lv_topi (fun t182 et182 => ?_)
                    have hqt182 : t182.toInt = pm_x fn181 v4 := by rw [et182]; rfl
                    have gqt182 : 0 ≤ t182.toInt ∧ t182.toInt ≤ 500 := by constructor <;> omega
                    refine va_iast hx hb hK hP hD hS 8 7 rfl rfl (vp_in_iff.mpr ⟨by omega, by omega⟩) dX12_clause_265 (fun H locs hP hD hS => ?_)
                    obtain ⟨fn183, efn183⟩ : ∃ g : Nat → Int32, g = upd f25 (Int32.toNatClampNeg t3) t182 := ⟨_, rfl⟩
                    rw [← efn183] at hP hD
                    have hP : va_P (dC, dI) vwCl (wd_d5ef5423 h0 v0 h1 v1 x176 x177 x178 h2 h3 h4 h5 h6 h7 h8 v3 v4 r0 r1 r2 r3 v5 r4 r5 v6 v7 r6 r7 v8 v9 r8 v10 v11 r9 v12 w13 r10 v14 v15 r11 r12 r13 r14 r15 r16 v16 r17 r18 r19 v17 h1 g0 f18 h2 g1 fn179 h3 g2 fn180 h4 g3 fn181 h5 g4 f22 h6 g5 fn25 h7 g6 fn165 h8 g7 fn183) H := hP
                    have hD : va_D A (wd_d5ef5423 h0 v0 h1 v1 x176 x177 x178 h2 h3 h4 h5 h6 h7 h8 v3 v4 r0 r1 r2 r3 v5 r4 r5 v6 v7 r6 r7 v8 v9 r8 v10 v11 r9 v12 w13 r10 v14 v15 r11 r12 r13 r14 r15 r16 v16 r17 r18 r19 v17 h1 g0 f18 h2 g1 fn179 h3 g2 fn180 h4 g3 fn181 h5 g4 f22 h6 g5 fn25 h7 g6 fn165 h8 g7 fn183) := hD
                    have hk3 : fn183 (Int32.toNatClampNeg t3) = t182 := by rw [efn183]; exact pk_us
                    have ho3 : ∀ j : Nat, ¬ j = Int32.toNatClampNeg t3 → fn183 j = f25 j := fun j h9 => by rw [efn183, pk_un h9]; exact ho3 j h9
                    refine lv_aload_n hx hb dX12_clause_266 rfl (lv_at hl 2 rfl) ?_
                    refine va_get (D := (dC, dI)) (ci := 12) (v := .ref h5) (C := RX12) (T := TX12) (N := 48) hx hb hts (fun _ h => List.mem_cons_of_mem _ (List.mem_append_right _ h)) hown hK hP 0 rfl rfl 9 (by decide) (hts (.fieldLink RX12 22 "LeftArgumentsModel" "clauses" "[I") (List.mem_cons_of_mem _ (List.mem_append_left _ (List.mem_of_getElem? (i := 1) rfl)))) (fun _ h9 => h9) rfl dX12_clause_267 ?_
                    refine lv_aload_n hx hb dX12_clause_270 rfl (lv_at hl 2 rfl) ?_
                    refine va_get (D := (dC, dI)) (ci := 12) (v := .int v4) (C := RX12) (T := TX12) (N := 48) hx hb hts (fun _ h => List.mem_cons_of_mem _ (List.mem_append_right _ h)) hown hK hP 0 rfl rfl 14 (by decide) (hts (.fieldLink RX12 122 "LeftArgumentsModel" "text" "I") (List.mem_cons_of_mem _ (List.mem_append_left _ (List.mem_of_getElem? (i := 0) rfl)))) (fun _ h9 => h9) rfl dX12_clause_271 ?_
                    refine lv_dup2_11 hx hb dX12_clause_274 rfl rfl ?_
                    refine va_iald hx hb hK hP 5 4 rfl rfl (vp_in_iff.mpr ⟨by omega, by omega⟩) dX12_clause_275 ?_
                    refine lv_topi (fun t184 et184 => ?_)
                    have gmt184 : t184.toInt = t2.toInt := by rw [et184, et2]
                    have hqt184 : t184.toInt = pm_x f22 v4 := by rw [et184]; rfl
                    have gqt184 : 0 ≤ t184.toInt ∧ t184.toInt ≤ 120 := by constructor <;> omega
                    refine lv_iconst (v := 1) hx hb dX12_clause_276 (by decide) ?_
                    refine lv_iadd hx hb dX12_clause_277 ?_
                    refine lv_topi (fun t185 et185 => ?_)
                    have gt185 : t185.toInt = t184.toInt + 1 := pv_add (a := t184.toInt) (b := 1) et185 rfl (by decide) (by omega) (by omega)
                    refine va_iast hx hb hK hP hD hS 5 4 rfl rfl (vp_in_iff.mpr ⟨by omega, by omega⟩) dX12_clause_278 (fun H locs hP hD hS => ?_)
                    obtain ⟨fn186, efn186⟩ : ∃ g : Nat → Int32, g = upd f22 (Int32.toNatClampNeg v4) t185 := ⟨_, rfl⟩
                    rw [← efn186] at hP hD
                    have hP : va_P (dC, dI) vwCl (wd_d5ef5423 h0 v0 h1 v1 x176 x177 x178 h2 h3 h4 h5 h6 h7 h8 v3 v4 r0 r1 r2 r3 v5 r4 r5 v6 v7 r6 r7 v8 v9 r8 v10 v11 r9 v12 w13 r10 v14 v15 r11 r12 r13 r14 r15 r16 v16 r17 r18 r19 v17 h1 g0 f18 h2 g1 fn179 h3 g2 fn180 h4 g3 fn181 h5 g4 fn186 h6 g5 fn25 h7 g6 fn165 h8 g7 fn183) H := hP
                    have hD : va_D A (wd_d5ef5423 h0 v0 h1 v1 x176 x177 x178 h2 h3 h4 h5 h6 h7 h8 v3 v4 r0 r1 r2 r3 v5 r4 r5 v6 v7 r6 r7 v8 v9 r8 v10 v11 r9 v12 w13 r10 v14 v15 r11 r12 r13 r14 r15 r16 v16 r17 r18 r19 v17 h1 g0 f18 h2 g1 fn179 h3 g2 fn180 h4 g3 fn181 h5 g4 fn186 h6 g5 fn25 h7 g6 fn165 h8 g7 fn183) := hD
                    have ho4 : ∀ j : Nat, ¬ j = Int32.toNatClampNeg v4 → fn186 j = f22 j := fun j h9 => by rw [efn186, pk_un h9]
                    have hk4 : pm_x fn186 v4 = pm_x f22 v4 + 1 := by rw [efn186]; show (upd _ _ _ _).toInt = _; rw [pk_us]; omega
                    subst hQ
                    have hP9 := hP.sub (ws' := (wd_d5ef5423 h0 v0 h1 v1 x176 x177 x178 h2 h3 h4 h5 h6 h7 h8 v3 v4 r0 r1 r2 r3 v5 r4 r5 v6 v7 r6 r7 v8 v9 r8 v10 v11 r9 v12 w13 r10 v14 v15 r11 r12 r13 r14 r15 r16 v16 r17 r18 r19 v17 h1 g0 f18 h2 g1 fn179 h3 g2 fn180 h4 g3 fn181 h5 g4 fn186 h6 g5 fn25 h7 g6 fn165 h8 g7 fn183)) [0, 1, 2, 3, 4, 5, 6, 7, 8] rfl
                    have hD9 := hD.sub (ws' := (wd_d5ef5423 h0 v0 h1 v1 x176 x177 x178 h2 h3 h4 h5 h6 h7 h8 v3 v4 r0 r1 r2 r3 v5 r4 r5 v6 v7 r6 r7 v8 v9 r8 v10 v11 r9 v12 w13 r10 v14 v15 r11 r12 r13 r14 r15 r16 v16 r17 r18 r19 v17 h1 g0 f18 h2 g1 fn179 h3 g2 fn180 h4 g3 fn181 h5 g4 fn186 h6 g5 fn25 h7 g6 fn165 h8 g7 fn183)) [0, 1, 2, 3, 4, 5, 6, 7, 8] (by decide) rfl
                    have hK9 := hK.sub (tys' := []) [] rfl
                    exact W.vret hx hb hr (fun t ht hW => ⟨⟨(), rfl, trivial, Or.inr (⟨x176, x177, x178, fn179, fn180, fn181, fn186, fn25, fn165, fn183, by first | omega | decide, by first | omega | decide, by first | omega | decide, by first | omega | decide, by exact pm_Oth.mk hgF ho1 ho2 ho3 ho4 (by omega) (by omega) (by omega) (by omega), by rw [ht]; exact hP9, va_K.moved hW.alike hK9, hD9⟩)⟩, hS.F ht⟩) hS.2.2 dX12_clause_279
                · skip
                  have fc162 : ¬ (ra157.toInt = 63) := fun h9 => c162 (Int32.toInt_inj.mp h9)
                  refine lv_aload_n hx hb dX12_clause_217 rfl (lv_at hl 2 rfl) ?_
                  have hPc := hP.sub (ws' := (wd_171f232f h0 v0 h1 v1 x161 (-1) 0 h2 h3 h4 h5 h6 h7 h8 v3 v4 r0 r1 r2 r3 v5 r4 r5 v6 v7 r6 r7 v8 v9 r8 v10 v11 r9 v12 w13 r10 v14 v15 r11 r12 r13 r14 r15 r16 v16 r17 r18 r19 v17)) [0] rfl
                  have hDc := hD.sub (ws' := (wd_171f232f h0 v0 h1 v1 x161 (-1) 0 h2 h3 h4 h5 h6 h7 h8 v3 v4 r0 r1 r2 r3 v5 r4 r5 v6 v7 r6 r7 v8 v9 r8 v10 v11 r9 v12 w13 r10 v14 v15 r11 r12 r13 r14 r15 r16 v16 r17 r18 r19 v17)) [0] (by decide) rfl
                  have hKc := hK.sub (tys' := []) [] rfl
                  have hFc := va_free (wc := (wd_171f232f h0 v0 h1 v1 x161 (-1) 0 h2 h3 h4 h5 h6 h7 h8 v3 v4 r0 r1 r2 r3 v5 r4 r5 v6 v7 r6 r7 v8 v9 r8 v10 v11 r9 v12 w13 r10 v14 v15 r11 r12 r13 r14 r15 r16 v16 r17 r18 r19 v17)) hD hS hA [0] rfl
                  refine va_callv (va_runV (As := []) (rest := []) ⟨hx, hb, hml, hown, hts⟩ (k_X12_bad l dC dI h0 v0 h1 v1 x161 0 h2 h3 h4 h5 h6 h7 h8 v3 v4 r0 r1 r2 r3 v5 r4 r5 v6 v7 r6 r7 v8 v9 r8 v10 v11 r9 v12 w13 r10 v14 v15 r11 r12 r13 r14 r15 r16 v16 r17 r18 r19 v17 ⟨by first | omega | decide, by first | omega | decide⟩ ⟨by first | omega | decide, by first | omega | decide⟩ ⟨by first | omega | decide, by first | omega | decide⟩ ⟨by first | omega | decide, by first | omega | decide⟩ ⟨by first | omega | decide, by first | omega | decide⟩ ⟨by first | omega | decide, by first | omega | decide⟩ ⟨by first | omega | decide, by first | omega | decide⟩ ⟨by first | omega | decide, by first | omega | decide⟩ ⟨by first | omega | decide, by first | omega | decide⟩ ⟨by first | omega | decide, by first | omega | decide⟩ ⟨by first | omega | decide, by first | omega | decide⟩ H.size) (cwV 0 hts g_X12_clause_1 rfl rfl rfl (by decide +kernel) ⟨Nat.le_of_ble_eq_true rfl, Nat.le_of_ble_eq_true rfl⟩) ⟨fun a U g mk q => by obtain ⟨q0, q1, qP, qK, qD⟩ := q; exact ⟨q0, q1, qP, va_K.moved (u := U) (U := U.calling g mk a) (Vm.Alike.refl U.vm) qK, qD⟩, va_recv hKc hPc (ci := 12) (q0 := 0) rfl rfl, fun U hU hW => ⟨rfl, by rw [hU], by rw [hU]; exact hPc, va_K.moved hW.alike hKc, hDc.weaken (fun _ _ _ _ => trivial)⟩⟩ rfl rfl hl.1 rfl (lv_room (Nat.le_of_ble_eq_true rfl)) dX12_clause_218 ⟨Nat.le_of_ble_eq_true rfl, Nat.le_of_ble_eq_true rfl⟩) hS (fun q _ h => hFc q h) hFc (fun u t H1 locs ht hvm hwra187 hB hz1 hk1 hS => ?_)
                  obtain ⟨x188, oa_x188, ob_x188, hP1, hK1, hD1⟩ := hB
                  rw [ht] at hP1
                  obtain ⟨hP, hD⟩ := va_join (wr := (wd_f36c9d1b h1 g0 f18 h2 g1 fn152 h3 g2 fn153 h4 g3 fn154 h5 g4 f22 h6 g5 fn25 h7 g6 fn156 h8 g7 f25)) (w1 := (wd_171f232f h0 v0 h1 v1 x161 x188 0 h2 h3 h4 h5 h6 h7 h8 v3 v4 r0 r1 r2 r3 v5 r4 r5 v6 v7 r6 r7 v8 v9 r8 v10 v11 r9 v12 w13 r10 v14 v15 r11 r12 r13 r14 r15 r16 v16 r17 r18 r19 v17)) hP hD [0] [1, 2, 3, 4, 5, 6, 7, 8] rfl rfl (by decide) (by decide) hk1 hFc hP1 hD1
                  generalize H1 = H at hP hS ⊢
                  have hP := hP.sub (ws' := (wd_d5ef5423 h0 v0 h1 v1 x161 x188 0 h2 h3 h4 h5 h6 h7 h8 v3 v4 r0 r1 r2 r3 v5 r4 r5 v6 v7 r6 r7 v8 v9 r8 v10 v11 r9 v12 w13 r10 v14 v15 r11 r12 r13 r14 r15 r16 v16 r17 r18 r19 v17 h1 g0 f18 h2 g1 fn152 h3 g2 fn153 h4 g3 fn154 h5 g4 f22 h6 g5 fn25 h7 g6 fn156 h8 g7 f25)) [8, 0, 1, 2, 3, 4, 5, 6, 7] rfl
                  have hD := hD.sub (ws' := (wd_d5ef5423 h0 v0 h1 v1 x161 x188 0 h2 h3 h4 h5 h6 h7 h8 v3 v4 r0 r1 r2 r3 v5 r4 r5 v6 v7 r6 r7 v8 v9 r8 v10 v11 r9 v12 w13 r10 v14 v15 r11 r12 r13 r14 r15 r16 v16 r17 r18 r19 v17 h1 g0 f18 h2 g1 fn152 h3 g2 fn153 h4 g3 fn154 h5 g4 f22 h6 g5 fn25 h7 g6 fn156 h8 g7 f25)) [8, 0, 1, 2, 3, 4, 5, 6, 7] (by decide) rfl
                  have hP : va_P (dC, dI) vwCl (wd_d5ef5423 h0 v0 h1 v1 x161 x188 0 h2 h3 h4 h5 h6 h7 h8 v3 v4 r0 r1 r2 r3 v5 r4 r5 v6 v7 r6 r7 v8 v9 r8 v10 v11 r9 v12 w13 r10 v14 v15 r11 r12 r13 r14 r15 r16 v16 r17 r18 r19 v17 h1 g0 f18 h2 g1 fn152 h3 g2 fn153 h4 g3 fn154 h5 g4 f22 h6 g5 fn25 h7 g6 fn156 h8 g7 f25) H := hP
                  have hD : va_D A (wd_d5ef5423 h0 v0 h1 v1 x161 x188 0 h2 h3 h4 h5 h6 h7 h8 v3 v4 r0 r1 r2 r3 v5 r4 r5 v6 v7 r6 r7 v8 v9 r8 v10 v11 r9 v12 w13 r10 v14 v15 r11 r12 r13 r14 r15 r16 v16 r17 r18 r19 v17 h1 g0 f18 h2 g1 fn152 h3 g2 fn153 h4 g3 fn154 h5 g4 f22 h6 g5 fn25 h7 g6 fn156 h8 g7 f25) := hD
                  subst hQ
                  have hP9 := hP.sub (ws' := (wd_d5ef5423 h0 v0 h1 v1 x161 x188 0 h2 h3 h4 h5 h6 h7 h8 v3 v4 r0 r1 r2 r3 v5 r4 r5 v6 v7 r6 r7 v8 v9 r8 v10 v11 r9 v12 w13 r10 v14 v15 r11 r12 r13 r14 r15 r16 v16 r17 r18 r19 v17 h1 g0 f18 h2 g1 fn152 h3 g2 fn153 h4 g3 fn154 h5 g4 f22 h6 g5 fn25 h7 g6 fn156 h8 g7 f25)) [0, 1, 2, 3, 4, 5, 6, 7, 8] rfl
                  have hD9 := hD.sub (ws' := (wd_d5ef5423 h0 v0 h1 v1 x161 x188 0 h2 h3 h4 h5 h6 h7 h8 v3 v4 r0 r1 r2 r3 v5 r4 r5 v6 v7 r6 r7 v8 v9 r8 v10 v11 r9 v12 w13 r10 v14 v15 r11 r12 r13 r14 r15 r16 v16 r17 r18 r19 v17 h1 g0 f18 h2 g1 fn152 h3 g2 fn153 h4 g3 fn154 h5 g4 f22 h6 g5 fn25 h7 g6 fn156 h8 g7 f25)) [0, 1, 2, 3, 4, 5, 6, 7, 8] (by decide) rfl
                  have hK9 := hK.sub (tys' := []) [] rfl
                  exact W.vret hx hb hr (fun t ht hW => ⟨⟨(), rfl, trivial, Or.inr (⟨x161, x188, 0, fn152, fn153, fn154, f22, fn25, fn156, f25, by first | omega | decide, by first | omega | decide, by first | omega | decide, by first | omega | decide, by exact pm_Oth.mk hgF ho1 ho2 ho3 ho4 (by omega) (by omega) (by omega) (by omega), by rw [ht]; exact hP9, va_K.moved hW.alike hK9, hD9⟩)⟩, hS.F ht⟩) hS.2.2 dX12_clause_221
            · skip
              obtain ⟨x189, x190, x191, fn192, fn193, fn194, oa_x189, ob_x189, oa_x190, ob_x190, pt0_ra150, pt1_ra150, hP1, hK1, hD1⟩ := hB
              rw [ht] at hP1
              obtain ⟨hP, hD⟩ := va_join (wr := (wd_9ed5f2f7 h5 g4 f22 h6 g5 fn25 h7 g6 f24 h8 g7 f25)) (w1 := (wd_d906eaf1 h0 v0 h1 v1 x189 x190 x191 h2 h3 h4 h5 h6 h7 h8 v3 v4 r0 r1 r2 r3 v5 r4 r5 v6 v7 r6 r7 v8 v9 r8 v10 v11 r9 v12 w13 r10 v14 v15 r11 r12 r13 r14 r15 r16 v16 r17 r18 r19 v17 h1 g0 f18 h2 g1 fn192 h3 g2 fn193 h4 g3 fn194)) hP hD [0, 1, 2, 3, 4] [5, 6, 7, 8] rfl rfl (by decide) (by decide) hk1 hFc hP1 hD1
              generalize H1 = H at hP hS ⊢
              have hP := hP.sub (ws' := (wd_d5ef5423 h0 v0 h1 v1 x189 x190 x191 h2 h3 h4 h5 h6 h7 h8 v3 v4 r0 r1 r2 r3 v5 r4 r5 v6 v7 r6 r7 v8 v9 r8 v10 v11 r9 v12 w13 r10 v14 v15 r11 r12 r13 r14 r15 r16 v16 r17 r18 r19 v17 h1 g0 f18 h2 g1 fn192 h3 g2 fn193 h4 g3 fn194 h5 g4 f22 h6 g5 fn25 h7 g6 f24 h8 g7 f25)) [4, 5, 6, 7, 8, 0, 1, 2, 3] rfl
              have hD := hD.sub (ws' := (wd_d5ef5423 h0 v0 h1 v1 x189 x190 x191 h2 h3 h4 h5 h6 h7 h8 v3 v4 r0 r1 r2 r3 v5 r4 r5 v6 v7 r6 r7 v8 v9 r8 v10 v11 r9 v12 w13 r10 v14 v15 r11 r12 r13 r14 r15 r16 v16 r17 r18 r19 v17 h1 g0 f18 h2 g1 fn192 h3 g2 fn193 h4 g3 fn194 h5 g4 f22 h6 g5 fn25 h7 g6 f24 h8 g7 f25)) [4, 5, 6, 7, 8, 0, 1, 2, 3] (by decide) rfl
              have hP : va_P (dC, dI) vwCl (wd_d5ef5423 h0 v0 h1 v1 x189 x190 x191 h2 h3 h4 h5 h6 h7 h8 v3 v4 r0 r1 r2 r3 v5 r4 r5 v6 v7 r6 r7 v8 v9 r8 v10 v11 r9 v12 w13 r10 v14 v15 r11 r12 r13 r14 r15 r16 v16 r17 r18 r19 v17 h1 g0 f18 h2 g1 fn192 h3 g2 fn193 h4 g3 fn194 h5 g4 f22 h6 g5 fn25 h7 g6 f24 h8 g7 f25) H := hP
              have hD : va_D A (wd_d5ef5423 h0 v0 h1 v1 x189 x190 x191 h2 h3 h4 h5 h6 h7 h8 v3 v4 r0 r1 r2 r3 v5 r4 r5 v6 v7 r6 r7 v8 v9 r8 v10 v11 r9 v12 w13 r10 v14 v15 r11 r12 r13 r14 r15 r16 v16 r17 r18 r19 v17 h1 g0 f18 h2 g1 fn192 h3 g2 fn193 h4 g3 fn194 h5 g4 f22 h6 g5 fn25 h7 g6 f24 h8 g7 f25) := hD
              have hgF := hgF.app pt1_ra150
              have hxl := hgF.1
              refine lv_goto (tgt := 184) hx hb dX12_clause_137 (by decide) ?_
              refine lv_aload_n hx hb dX12_clause_184 rfl (lv_at hl 2 rfl) ?_
              refine va_get (D := (dC, dI)) (ci := 12) (v := .ref h7) (C := RX12) (T := TX12) (N := 48) hx hb hts (fun _ h => List.mem_cons_of_mem _ (List.mem_append_right _ h)) hown hK hP 0 rfl rfl 11 (by decide) (hts (.fieldLink RX12 28 "LeftArgumentsModel" "sumFrom" "[I") (List.mem_cons_of_mem _ (List.mem_append_left _ (List.mem_of_getElem? (i := 21) rfl)))) (fun _ h9 => h9) rfl dX12_clause_185 ?_
              refine lv_iload_n hx hb dX12_clause_188 rfl (lv_at hl 1 rfl) ?_
              refine lv_aload_n hx hb dX12_clause_189 rfl (lv_at hl 2 rfl) ?_
              refine va_get (D := (dC, dI)) (ci := 12) (v := .ref h6) (C := RX12) (T := TX12) (N := 48) hx hb hts (fun _ h => List.mem_cons_of_mem _ (List.mem_append_right _ h)) hown hK hP 0 rfl rfl 10 (by decide) (hts (.fieldLink RX12 25 "LeftArgumentsModel" "testFrom" "[I") (List.mem_cons_of_mem _ (List.mem_append_left _ (List.mem_of_getElem? (i := 19) rfl)))) (fun _ h9 => h9) rfl dX12_clause_190 ?_
              refine lv_iload_n hx hb dX12_clause_193 rfl (lv_at hl 1 rfl) ?_
              refine va_iald hx hb hK hP 6 5 rfl rfl (vp_in_iff.mpr ⟨by omega, by omega⟩) dX12_clause_194 ?_
              refine lv_topi (fun t195 et195 => ?_)
              have hqt195 : t195.toInt = t24.toInt := by rw [et195, hk1]
              refine va_iast hx hb hK hP hD hS 7 6 rfl rfl (vp_in_iff.mpr ⟨by omega, by omega⟩) dX12_clause_195 (fun H locs hP hD hS => ?_)
              obtain ⟨fn196, efn196⟩ : ∃ g : Nat → Int32, g = upd f24 (Int32.toNatClampNeg t3) t195 := ⟨_, rfl⟩
              rw [← efn196] at hP hD
              have hP : va_P (dC, dI) vwCl (wd_d5ef5423 h0 v0 h1 v1 x189 x190 x191 h2 h3 h4 h5 h6 h7 h8 v3 v4 r0 r1 r2 r3 v5 r4 r5 v6 v7 r6 r7 v8 v9 r8 v10 v11 r9 v12 w13 r10 v14 v15 r11 r12 r13 r14 r15 r16 v16 r17 r18 r19 v17 h1 g0 f18 h2 g1 fn192 h3 g2 fn193 h4 g3 fn194 h5 g4 f22 h6 g5 fn25 h7 g6 fn196 h8 g7 f25) H := hP
              have hD : va_D A (wd_d5ef5423 h0 v0 h1 v1 x189 x190 x191 h2 h3 h4 h5 h6 h7 h8 v3 v4 r0 r1 r2 r3 v5 r4 r5 v6 v7 r6 r7 v8 v9 r8 v10 v11 r9 v12 w13 r10 v14 v15 r11 r12 r13 r14 r15 r16 v16 r17 r18 r19 v17 h1 g0 f18 h2 g1 fn192 h3 g2 fn193 h4 g3 fn194 h5 g4 f22 h6 g5 fn25 h7 g6 fn196 h8 g7 f25) := hD
              have hk2 : fn196 (Int32.toNatClampNeg t3) = t195 := by rw [efn196]; exact pk_us
              have ho2 : ∀ j : Nat, ¬ j = Int32.toNatClampNeg t3 → fn196 j = f24 j := fun j h9 => by rw [efn196, pk_un h9]; exact ho2 j h9
              refine lv_iload_n hx hb dX12_clause_196 rfl (lv_at hl 0 rfl) ?_
              refine lv_if_eq (tgt := 251) hx hb dX12_clause_197 (by decide) (fun c => absurd c (by decide)) (fun _ => ?_)
              refine lv_aload_n hx hb dX12_clause_200 rfl (lv_at hl 2 rfl) ?_
              refine va_get (D := (dC, dI)) (ci := 12) (v := .int x190) (C := RX12) (T := TX12) (N := 48) hx hb hts (fun _ h => List.mem_cons_of_mem _ (List.mem_append_right _ h)) hown hK hP 0 rfl rfl 4 (by decide) (hts (.fieldLink RX12 119 "LeftArgumentsModel" "wrong" "I") (List.mem_cons_of_mem _ (List.mem_append_left _ (List.mem_of_getElem? (i := 2) rfl)))) (fun _ h9 => h9) rfl dX12_clause_201 ?_
              refine lv_iconst (v := (-1)) hx hb dX12_clause_204 (by decide) ?_
              refine lv_icmp_ne (tgt := 251) hx hb dX12_clause_205 (by decide) (fun _ => ?_) (fun c197 => by exfalso; have fc197 : x190.toInt = (-1) := congrArg Int32.toInt c197; omega)
              refine lv_aload_n hx hb dX12_clause_251 rfl (lv_at hl 2 rfl) ?_
              refine va_get (D := (dC, dI)) (ci := 12) (v := .ref h8) (C := RX12) (T := TX12) (N := 48) hx hb hts (fun _ h => List.mem_cons_of_mem _ (List.mem_append_right _ h)) hown hK hP 0 rfl rfl 12 (by decide) (hts (.fieldLink RX12 31 "LeftArgumentsModel" "sumTo" "[I") (List.mem_cons_of_mem _ (List.mem_append_left _ (List.mem_of_getElem? (i := 22) rfl)))) (fun _ h9 => h9) rfl dX12_clause_252 ?_
              refine lv_iload_n hx hb dX12_clause_255 rfl (lv_at hl 1 rfl) ?_
              refine lv_aload_n hx hb dX12_clause_256 rfl (lv_at hl 2 rfl) ?_
              refine va_get (D := (dC, dI)) (ci := 12) (v := .ref h4) (C := RX12) (T := TX12) (N := 48) hx hb hts (fun _ h => List.mem_cons_of_mem _ (List.mem_append_right _ h)) hown hK hP 0 rfl rfl 8 (by decide) (hts (.fieldLink RX12 19 "LeftArgumentsModel" "codes" "[I") (List.mem_cons_of_mem _ (List.mem_append_left _ (List.mem_of_getElem? (i := 20) rfl)))) (fun _ h9 => h9) rfl dX12_clause_257 ?_
              refine lv_aload_n hx hb dX12_clause_260 rfl (lv_at hl 2 rfl) ?_
              refine va_get (D := (dC, dI)) (ci := 12) (v := .int v4) (C := RX12) (T := TX12) (N := 48) hx hb hts (fun _ h => List.mem_cons_of_mem _ (List.mem_append_right _ h)) hown hK hP 0 rfl rfl 14 (by decide) (hts (.fieldLink RX12 122 "LeftArgumentsModel" "text" "I") (List.mem_cons_of_mem _ (List.mem_append_left _ (List.mem_of_getElem? (i := 0) rfl)))) (fun _ h9 => h9) rfl dX12_clause_261 ?_
              refine va_iald hx hb hK hP 4 3 rfl rfl (vp_in_iff.mpr ⟨by omega, by omega⟩) dX12_clause_264 ?_
              refine lv_topi (fun t198 et198 => ?_)
              have hqt198 : t198.toInt = pm_x fn194 v4 := by rw [et198]; rfl
              have gqt198 : 0 ≤ t198.toInt ∧ t198.toInt ≤ 500 := by constructor <;> omega
              refine va_iast hx hb hK hP hD hS 8 7 rfl rfl (vp_in_iff.mpr ⟨by omega, by omega⟩) dX12_clause_265 (fun H locs hP hD hS => ?_)
              obtain ⟨fn199, efn199⟩ : ∃ g : Nat → Int32, g = upd f25 (Int32.toNatClampNeg t3) t198 := ⟨_, rfl⟩
              rw [← efn199] at hP hD
              have hP : va_P (dC, dI) vwCl (wd_d5ef5423 h0 v0 h1 v1 x189 x190 x191 h2 h3 h4 h5 h6 h7 h8 v3 v4 r0 r1 r2 r3 v5 r4 r5 v6 v7 r6 r7 v8 v9 r8 v10 v11 r9 v12 w13 r10 v14 v15 r11 r12 r13 r14 r15 r16 v16 r17 r18 r19 v17 h1 g0 f18 h2 g1 fn192 h3 g2 fn193 h4 g3 fn194 h5 g4 f22 h6 g5 fn25 h7 g6 fn196 h8 g7 fn199) H := hP
              have hD : va_D A (wd_d5ef5423 h0 v0 h1 v1 x189 x190 x191 h2 h3 h4 h5 h6 h7 h8 v3 v4 r0 r1 r2 r3 v5 r4 r5 v6 v7 r6 r7 v8 v9 r8 v10 v11 r9 v12 w13 r10 v14 v15 r11 r12 r13 r14 r15 r16 v16 r17 r18 r19 v17 h1 g0 f18 h2 g1 fn192 h3 g2 fn193 h4 g3 fn194 h5 g4 f22 h6 g5 fn25 h7 g6 fn196 h8 g7 fn199) := hD
              have hk3 : fn199 (Int32.toNatClampNeg t3) = t198 := by rw [efn199]; exact pk_us
              have ho3 : ∀ j : Nat, ¬ j = Int32.toNatClampNeg t3 → fn199 j = f25 j := fun j h9 => by rw [efn199, pk_un h9]; exact ho3 j h9
              refine lv_aload_n hx hb dX12_clause_266 rfl (lv_at hl 2 rfl) ?_
              refine va_get (D := (dC, dI)) (ci := 12) (v := .ref h5) (C := RX12) (T := TX12) (N := 48) hx hb hts (fun _ h => List.mem_cons_of_mem _ (List.mem_append_right _ h)) hown hK hP 0 rfl rfl 9 (by decide) (hts (.fieldLink RX12 22 "LeftArgumentsModel" "clauses" "[I") (List.mem_cons_of_mem _ (List.mem_append_left _ (List.mem_of_getElem? (i := 1) rfl)))) (fun _ h9 => h9) rfl dX12_clause_267 ?_
              refine lv_aload_n hx hb dX12_clause_270 rfl (lv_at hl 2 rfl) ?_
              refine va_get (D := (dC, dI)) (ci := 12) (v := .int v4) (C := RX12) (T := TX12) (N := 48) hx hb hts (fun _ h => List.mem_cons_of_mem _ (List.mem_append_right _ h)) hown hK hP 0 rfl rfl 14 (by decide) (hts (.fieldLink RX12 122 "LeftArgumentsModel" "text" "I") (List.mem_cons_of_mem _ (List.mem_append_left _ (List.mem_of_getElem? (i := 0) rfl)))) (fun _ h9 => h9) rfl dX12_clause_271 ?_
              refine lv_dup2_11 hx hb dX12_clause_274 rfl rfl ?_
              refine va_iald hx hb hK hP 5 4 rfl rfl (vp_in_iff.mpr ⟨by omega, by omega⟩) dX12_clause_275 ?_
              refine lv_topi (fun t200 et200 => ?_)
              have gmt200 : t200.toInt = t2.toInt := by rw [et200, et2]
              have hqt200 : t200.toInt = pm_x f22 v4 := by rw [et200]; rfl
              have gqt200 : 0 ≤ t200.toInt ∧ t200.toInt ≤ 120 := by constructor <;> omega
              refine lv_iconst (v := 1) hx hb dX12_clause_276 (by decide) ?_
              refine lv_iadd hx hb dX12_clause_277 ?_
              refine lv_topi (fun t201 et201 => ?_)
              have gt201 : t201.toInt = t200.toInt + 1 := pv_add (a := t200.toInt) (b := 1) et201 rfl (by decide) (by omega) (by omega)
              refine va_iast hx hb hK hP hD hS 5 4 rfl rfl (vp_in_iff.mpr ⟨by omega, by omega⟩) dX12_clause_278 (fun H locs hP hD hS => ?_)
              obtain ⟨fn202, efn202⟩ : ∃ g : Nat → Int32, g = upd f22 (Int32.toNatClampNeg v4) t201 := ⟨_, rfl⟩
              rw [← efn202] at hP hD
              have hP : va_P (dC, dI) vwCl (wd_d5ef5423 h0 v0 h1 v1 x189 x190 x191 h2 h3 h4 h5 h6 h7 h8 v3 v4 r0 r1 r2 r3 v5 r4 r5 v6 v7 r6 r7 v8 v9 r8 v10 v11 r9 v12 w13 r10 v14 v15 r11 r12 r13 r14 r15 r16 v16 r17 r18 r19 v17 h1 g0 f18 h2 g1 fn192 h3 g2 fn193 h4 g3 fn194 h5 g4 fn202 h6 g5 fn25 h7 g6 fn196 h8 g7 fn199) H := hP
              have hD : va_D A (wd_d5ef5423 h0 v0 h1 v1 x189 x190 x191 h2 h3 h4 h5 h6 h7 h8 v3 v4 r0 r1 r2 r3 v5 r4 r5 v6 v7 r6 r7 v8 v9 r8 v10 v11 r9 v12 w13 r10 v14 v15 r11 r12 r13 r14 r15 r16 v16 r17 r18 r19 v17 h1 g0 f18 h2 g1 fn192 h3 g2 fn193 h4 g3 fn194 h5 g4 fn202 h6 g5 fn25 h7 g6 fn196 h8 g7 fn199) := hD
              have ho4 : ∀ j : Nat, ¬ j = Int32.toNatClampNeg v4 → fn202 j = f22 j := fun j h9 => by rw [efn202, pk_un h9]
              have hk4 : pm_x fn202 v4 = pm_x f22 v4 + 1 := by rw [efn202]; show (upd _ _ _ _).toInt = _; rw [pk_us]; omega
              subst hQ
              have hP9 := hP.sub (ws' := (wd_d5ef5423 h0 v0 h1 v1 x189 x190 x191 h2 h3 h4 h5 h6 h7 h8 v3 v4 r0 r1 r2 r3 v5 r4 r5 v6 v7 r6 r7 v8 v9 r8 v10 v11 r9 v12 w13 r10 v14 v15 r11 r12 r13 r14 r15 r16 v16 r17 r18 r19 v17 h1 g0 f18 h2 g1 fn192 h3 g2 fn193 h4 g3 fn194 h5 g4 fn202 h6 g5 fn25 h7 g6 fn196 h8 g7 fn199)) [0, 1, 2, 3, 4, 5, 6, 7, 8] rfl
              have hD9 := hD.sub (ws' := (wd_d5ef5423 h0 v0 h1 v1 x189 x190 x191 h2 h3 h4 h5 h6 h7 h8 v3 v4 r0 r1 r2 r3 v5 r4 r5 v6 v7 r6 r7 v8 v9 r8 v10 v11 r9 v12 w13 r10 v14 v15 r11 r12 r13 r14 r15 r16 v16 r17 r18 r19 v17 h1 g0 f18 h2 g1 fn192 h3 g2 fn193 h4 g3 fn194 h5 g4 fn202 h6 g5 fn25 h7 g6 fn196 h8 g7 fn199)) [0, 1, 2, 3, 4, 5, 6, 7, 8] (by decide) rfl
              have hK9 := hK.sub (tys' := []) [] rfl
              exact W.vret hx hb hr (fun t ht hW => ⟨⟨(), rfl, trivial, Or.inr (⟨x189, x190, x191, fn192, fn193, fn194, fn202, fn25, fn196, fn199, by first | omega | decide, by first | omega | decide, by first | omega | decide, by first | omega | decide, by exact pm_Oth.mk hgF ho1 ho2 ho3 ho4 (by omega) (by omega) (by omega) (by omega), by rw [ht]; exact hP9, va_K.moved hW.alike hK9, hD9⟩)⟩, hS.F ht⟩) hS.2.2 dX12_clause_279
          refine lv_aload_n hx hb dX12_clause_105 rfl (lv_at hl 1 rfl) ?_
          have hPc := hP.sub (ws' := (wd_f4cd022e h0 v0 h1 v1 t23 (-1) 0 h2 h3 h4 h5 h6 h7 h8 v3 v4 r0 r1 r2 r3 v5 r4 r5 v6 v7 r6 r7 v8 v9 r8 v10 v11 r9 v12 w13 r10 v14 v15 r11 r12 r13 r14 r15 r16 v16 r17 r18 r19 v17 h1 g0 f18)) [0, 1] rfl
          have hDc := hD.sub (ws' := (wd_f4cd022e h0 v0 h1 v1 t23 (-1) 0 h2 h3 h4 h5 h6 h7 h8 v3 v4 r0 r1 r2 r3 v5 r4 r5 v6 v7 r6 r7 v8 v9 r8 v10 v11 r9 v12 w13 r10 v14 v15 r11 r12 r13 r14 r15 r16 v16 r17 r18 r19 v17 h1 g0 f18)) [0, 1] (by decide) rfl
          have hKc := hK.sub (tys' := [(g0, .int)]) [0] rfl
          have hFc := va_free (wc := (wd_f4cd022e h0 v0 h1 v1 t23 (-1) 0 h2 h3 h4 h5 h6 h7 h8 v3 v4 r0 r1 r2 r3 v5 r4 r5 v6 v7 r6 r7 v8 v9 r8 v10 v11 r9 v12 w13 r10 v14 v15 r11 r12 r13 r14 r15 r16 v16 r17 r18 r19 v17 h1 g0 f18)) hD hS hA [0, 1] rfl
          refine va_calli (va_runV (As := []) (rest := []) ⟨hx, hb, hml, hown, hts⟩ (k_X12_look l dC dI h0 h1 v0 v1 t23 ((-1)) 0 h2 h3 h4 h5 h6 h7 h8 v3 v4 r0 r1 r2 r3 v5 r4 r5 v6 v7 r6 r7 v8 v9 r8 v10 v11 r9 v12 w13 r10 v14 v15 r11 r12 r13 r14 r15 r16 v16 r17 r18 r19 v17 g0 f18 ⟨by first | omega | decide, by first | omega | decide⟩ ⟨by first | omega | decide, by first | omega | decide⟩ ⟨by first | omega | decide, by first | omega | decide⟩ ⟨by first | omega | decide, by first | omega | decide⟩ ⟨by first | omega | decide, by first | omega | decide⟩ ⟨by first | omega | decide, by first | omega | decide⟩ ⟨by first | omega | decide, by first | omega | decide⟩ ⟨by first | omega | decide, by first | omega | decide⟩ ⟨by first | omega | decide, by first | omega | decide⟩ ⟨by first | omega | decide, by first | omega | decide⟩ ⟨by first | omega | decide, by first | omega | decide⟩ ia_f18 H.size) (cwV 0 hts g_X12_clause_0 rfl rfl rfl (by decide +kernel) ⟨Nat.le_of_ble_eq_true rfl, Nat.le_of_ble_eq_true rfl⟩) ⟨fun a U g mk q => by obtain ⟨q0, q1, qP, qK, qD⟩ := q; exact ⟨q0, q1, qP, va_K.moved (u := U) (U := U.calling g mk a) (Vm.Alike.refl U.vm) qK, qD⟩, va_recv hKc hPc (ci := 12) (q0 := 0) rfl rfl, fun U hU hW => ⟨rfl, by rw [hU], by rw [hU]; exact hPc, va_K.moved hW.alike hKc, hDc.weaken (fun _ _ _ _ => trivial)⟩⟩ rfl rfl hl.1 rfl (lv_room (Nat.le_of_ble_eq_true rfl)) dX12_clause_106 ⟨Nat.le_of_ble_eq_true rfl, Nat.le_of_ble_eq_true rfl⟩) hS (fun q _ h => hFc q h) hFc (fun ra203 u t H1 locs ht hvm hwra203 hB hz1 hk1 hS => ?_)
          try rw [hwra203] at hB
          have hkra203_0 : (((-1) : Int32)).toInt = -1 := by decide
          have hkra203_1 : ((0 : Int32)).toInt = 0 := by decide
          rcases hB with hB | hB
          · skip
            obtain ⟨x204, oa_x204, ob_x204, pt0_ra203, pt1_ra203, pt2_ra203, pt3_ra203, hP1, hK1, hD1⟩ := hB
            rw [ht] at hP1
            obtain ⟨hP, hD⟩ := va_join (wr := (wd_55284813 h2 g1 f19 h3 g2 f20 h4 g3 f21 h5 g4 f22 h6 g5 fn25 h7 g6 f24 h8 g7 f25)) (w1 := (wd_f4cd022e h0 v0 h1 v1 x204 (-1) 0 h2 h3 h4 h5 h6 h7 h8 v3 v4 r0 r1 r2 r3 v5 r4 r5 v6 v7 r6 r7 v8 v9 r8 v10 v11 r9 v12 w13 r10 v14 v15 r11 r12 r13 r14 r15 r16 v16 r17 r18 r19 v17 h1 g0 f18)) hP hD [0, 1] [2, 3, 4, 5, 6, 7, 8] rfl rfl (by decide) (by decide) hk1 hFc hP1 hD1
            generalize H1 = H at hP hS ⊢
            have hP := hP.sub (ws' := (wd_d5ef5423 h0 v0 h1 v1 x204 (-1) 0 h2 h3 h4 h5 h6 h7 h8 v3 v4 r0 r1 r2 r3 v5 r4 r5 v6 v7 r6 r7 v8 v9 r8 v10 v11 r9 v12 w13 r10 v14 v15 r11 r12 r13 r14 r15 r16 v16 r17 r18 r19 v17 h1 g0 f18 h2 g1 f19 h3 g2 f20 h4 g3 f21 h5 g4 f22 h6 g5 fn25 h7 g6 f24 h8 g7 f25)) [7, 8, 0, 1, 2, 3, 4, 5, 6] rfl
            have hD := hD.sub (ws' := (wd_d5ef5423 h0 v0 h1 v1 x204 (-1) 0 h2 h3 h4 h5 h6 h7 h8 v3 v4 r0 r1 r2 r3 v5 r4 r5 v6 v7 r6 r7 v8 v9 r8 v10 v11 r9 v12 w13 r10 v14 v15 r11 r12 r13 r14 r15 r16 v16 r17 r18 r19 v17 h1 g0 f18 h2 g1 f19 h3 g2 f20 h4 g3 f21 h5 g4 f22 h6 g5 fn25 h7 g6 f24 h8 g7 f25)) [7, 8, 0, 1, 2, 3, 4, 5, 6] (by decide) rfl
            have hP : va_P (dC, dI) vwCl (wd_d5ef5423 h0 v0 h1 v1 x204 (-1) 0 h2 h3 h4 h5 h6 h7 h8 v3 v4 r0 r1 r2 r3 v5 r4 r5 v6 v7 r6 r7 v8 v9 r8 v10 v11 r9 v12 w13 r10 v14 v15 r11 r12 r13 r14 r15 r16 v16 r17 r18 r19 v17 h1 g0 f18 h2 g1 f19 h3 g2 f20 h4 g3 f21 h5 g4 f22 h6 g5 fn25 h7 g6 f24 h8 g7 f25) H := hP
            have hD : va_D A (wd_d5ef5423 h0 v0 h1 v1 x204 (-1) 0 h2 h3 h4 h5 h6 h7 h8 v3 v4 r0 r1 r2 r3 v5 r4 r5 v6 v7 r6 r7 v8 v9 r8 v10 v11 r9 v12 w13 r10 v14 v15 r11 r12 r13 r14 r15 r16 v16 r17 r18 r19 v17 h1 g0 f18 h2 g1 f19 h3 g2 f20 h4 g3 f21 h5 g4 f22 h6 g5 fn25 h7 g6 f24 h8 g7 f25) := hD
            obtain rfl : ra203 = ((-1) : Int32) := Int32.toInt_inj.mp (by rw [show (((-1) : Int32)).toInt = -1 by decide]; omega)
            refine lv_bipush (v := 33) hx hb dX12_clause_109 (by decide) ?_
            refine lv_icmp_eq (tgt := 123) hx hb dX12_clause_111 (by decide) (fun c => absurd c (by decide)) (fun _ => ?_)
            refine lv_aload_n hx hb dX12_clause_114 rfl (lv_at hl 1 rfl) ?_
            have hPc := hP.sub (ws' := (wd_f4cd022e h0 v0 h1 v1 x204 (-1) 0 h2 h3 h4 h5 h6 h7 h8 v3 v4 r0 r1 r2 r3 v5 r4 r5 v6 v7 r6 r7 v8 v9 r8 v10 v11 r9 v12 w13 r10 v14 v15 r11 r12 r13 r14 r15 r16 v16 r17 r18 r19 v17 h1 g0 f18)) [0, 1] rfl
            have hDc := hD.sub (ws' := (wd_f4cd022e h0 v0 h1 v1 x204 (-1) 0 h2 h3 h4 h5 h6 h7 h8 v3 v4 r0 r1 r2 r3 v5 r4 r5 v6 v7 r6 r7 v8 v9 r8 v10 v11 r9 v12 w13 r10 v14 v15 r11 r12 r13 r14 r15 r16 v16 r17 r18 r19 v17 h1 g0 f18)) [0, 1] (by decide) rfl
            have hKc := hK.sub (tys' := [(g0, .int)]) [0] rfl
            have hFc := va_free (wc := (wd_f4cd022e h0 v0 h1 v1 x204 (-1) 0 h2 h3 h4 h5 h6 h7 h8 v3 v4 r0 r1 r2 r3 v5 r4 r5 v6 v7 r6 r7 v8 v9 r8 v10 v11 r9 v12 w13 r10 v14 v15 r11 r12 r13 r14 r15 r16 v16 r17 r18 r19 v17 h1 g0 f18)) hD hS hA [0, 1] rfl
            refine va_calli (va_runV (As := []) (rest := []) ⟨hx, hb, hml, hown, hts⟩ (k_X12_look l dC dI h0 h1 v0 v1 x204 ((-1)) 0 h2 h3 h4 h5 h6 h7 h8 v3 v4 r0 r1 r2 r3 v5 r4 r5 v6 v7 r6 r7 v8 v9 r8 v10 v11 r9 v12 w13 r10 v14 v15 r11 r12 r13 r14 r15 r16 v16 r17 r18 r19 v17 g0 f18 ⟨by first | omega | decide, by first | omega | decide⟩ ⟨by first | omega | decide, by first | omega | decide⟩ ⟨by first | omega | decide, by first | omega | decide⟩ ⟨by first | omega | decide, by first | omega | decide⟩ ⟨by first | omega | decide, by first | omega | decide⟩ ⟨by first | omega | decide, by first | omega | decide⟩ ⟨by first | omega | decide, by first | omega | decide⟩ ⟨by first | omega | decide, by first | omega | decide⟩ ⟨by first | omega | decide, by first | omega | decide⟩ ⟨by first | omega | decide, by first | omega | decide⟩ ⟨by first | omega | decide, by first | omega | decide⟩ ia_f18 H.size) (cwV 0 hts g_X12_clause_0 rfl rfl rfl (by decide +kernel) ⟨Nat.le_of_ble_eq_true rfl, Nat.le_of_ble_eq_true rfl⟩) ⟨fun a U g mk q => by obtain ⟨q0, q1, qP, qK, qD⟩ := q; exact ⟨q0, q1, qP, va_K.moved (u := U) (U := U.calling g mk a) (Vm.Alike.refl U.vm) qK, qD⟩, va_recv hKc hPc (ci := 12) (q0 := 0) rfl rfl, fun U hU hW => ⟨rfl, by rw [hU], by rw [hU]; exact hPc, va_K.moved hW.alike hKc, hDc.weaken (fun _ _ _ _ => trivial)⟩⟩ rfl rfl hl.1 rfl (lv_room (Nat.le_of_ble_eq_true rfl)) dX12_clause_115 ⟨Nat.le_of_ble_eq_true rfl, Nat.le_of_ble_eq_true rfl⟩) hS (fun q _ h => hFc q h) hFc (fun ra205 u t H1 locs ht hvm hwra205 hB hz1 hk1 hS => ?_)
            try rw [hwra205] at hB
            have hkra205_0 : (((-1) : Int32)).toInt = -1 := by decide
            have hkra205_1 : ((0 : Int32)).toInt = 0 := by decide
            rcases hB with hB | hB
            · skip
              obtain ⟨x206, oa_x206, ob_x206, pt0_ra205, pt1_ra205, pt2_ra205, pt3_ra205, hP1, hK1, hD1⟩ := hB
              rw [ht] at hP1
              obtain ⟨hP, hD⟩ := va_join (wr := (wd_55284813 h2 g1 f19 h3 g2 f20 h4 g3 f21 h5 g4 f22 h6 g5 fn25 h7 g6 f24 h8 g7 f25)) (w1 := (wd_f4cd022e h0 v0 h1 v1 x206 (-1) 0 h2 h3 h4 h5 h6 h7 h8 v3 v4 r0 r1 r2 r3 v5 r4 r5 v6 v7 r6 r7 v8 v9 r8 v10 v11 r9 v12 w13 r10 v14 v15 r11 r12 r13 r14 r15 r16 v16 r17 r18 r19 v17 h1 g0 f18)) hP hD [0, 1] [2, 3, 4, 5, 6, 7, 8] rfl rfl (by decide) (by decide) hk1 hFc hP1 hD1
              generalize H1 = H at hP hS ⊢
              have hP := hP.sub (ws' := (wd_d5ef5423 h0 v0 h1 v1 x206 (-1) 0 h2 h3 h4 h5 h6 h7 h8 v3 v4 r0 r1 r2 r3 v5 r4 r5 v6 v7 r6 r7 v8 v9 r8 v10 v11 r9 v12 w13 r10 v14 v15 r11 r12 r13 r14 r15 r16 v16 r17 r18 r19 v17 h1 g0 f18 h2 g1 f19 h3 g2 f20 h4 g3 f21 h5 g4 f22 h6 g5 fn25 h7 g6 f24 h8 g7 f25)) [7, 8, 0, 1, 2, 3, 4, 5, 6] rfl
              have hD := hD.sub (ws' := (wd_d5ef5423 h0 v0 h1 v1 x206 (-1) 0 h2 h3 h4 h5 h6 h7 h8 v3 v4 r0 r1 r2 r3 v5 r4 r5 v6 v7 r6 r7 v8 v9 r8 v10 v11 r9 v12 w13 r10 v14 v15 r11 r12 r13 r14 r15 r16 v16 r17 r18 r19 v17 h1 g0 f18 h2 g1 f19 h3 g2 f20 h4 g3 f21 h5 g4 f22 h6 g5 fn25 h7 g6 f24 h8 g7 f25)) [7, 8, 0, 1, 2, 3, 4, 5, 6] (by decide) rfl
              have hP : va_P (dC, dI) vwCl (wd_d5ef5423 h0 v0 h1 v1 x206 (-1) 0 h2 h3 h4 h5 h6 h7 h8 v3 v4 r0 r1 r2 r3 v5 r4 r5 v6 v7 r6 r7 v8 v9 r8 v10 v11 r9 v12 w13 r10 v14 v15 r11 r12 r13 r14 r15 r16 v16 r17 r18 r19 v17 h1 g0 f18 h2 g1 f19 h3 g2 f20 h4 g3 f21 h5 g4 f22 h6 g5 fn25 h7 g6 f24 h8 g7 f25) H := hP
              have hD : va_D A (wd_d5ef5423 h0 v0 h1 v1 x206 (-1) 0 h2 h3 h4 h5 h6 h7 h8 v3 v4 r0 r1 r2 r3 v5 r4 r5 v6 v7 r6 r7 v8 v9 r8 v10 v11 r9 v12 w13 r10 v14 v15 r11 r12 r13 r14 r15 r16 v16 r17 r18 r19 v17 h1 g0 f18 h2 g1 f19 h3 g2 f20 h4 g3 f21 h5 g4 f22 h6 g5 fn25 h7 g6 f24 h8 g7 f25) := hD
              obtain rfl : ra205 = ((-1) : Int32) := Int32.toInt_inj.mp (by rw [show (((-1) : Int32)).toInt = -1 by decide]; omega)
              refine lv_bipush (v := 40) hx hb dX12_clause_118 (by decide) ?_
              refine lv_icmp_ne (tgt := 127) hx hb dX12_clause_120 (by decide) (fun _ => ?_) (fun c => absurd c (by decide))
              refine lv_iconst (v := 0) hx hb dX12_clause_127 (by decide) ?_
              exact hJ27 x206 H locs ls (by first | omega | decide) (by first | omega | decide) (by omega) hP hD hS (lv_sub hl [0, 1] rfl)
            · skip
              obtain ⟨x207, oa_x207, ob_x207, pt0_ra205, pt1_ra205, pt2_ra205, pt3_ra205, pt4_ra205, hP1, hK1, hD1⟩ := hB
              rw [ht] at hP1
              obtain ⟨hP, hD⟩ := va_join (wr := (wd_55284813 h2 g1 f19 h3 g2 f20 h4 g3 f21 h5 g4 f22 h6 g5 fn25 h7 g6 f24 h8 g7 f25)) (w1 := (wd_f4cd022e h0 v0 h1 v1 x207 (-1) 0 h2 h3 h4 h5 h6 h7 h8 v3 v4 r0 r1 r2 r3 v5 r4 r5 v6 v7 r6 r7 v8 v9 r8 v10 v11 r9 v12 w13 r10 v14 v15 r11 r12 r13 r14 r15 r16 v16 r17 r18 r19 v17 h1 g0 f18)) hP hD [0, 1] [2, 3, 4, 5, 6, 7, 8] rfl rfl (by decide) (by decide) hk1 hFc hP1 hD1
              generalize H1 = H at hP hS ⊢
              have hP := hP.sub (ws' := (wd_d5ef5423 h0 v0 h1 v1 x207 (-1) 0 h2 h3 h4 h5 h6 h7 h8 v3 v4 r0 r1 r2 r3 v5 r4 r5 v6 v7 r6 r7 v8 v9 r8 v10 v11 r9 v12 w13 r10 v14 v15 r11 r12 r13 r14 r15 r16 v16 r17 r18 r19 v17 h1 g0 f18 h2 g1 f19 h3 g2 f20 h4 g3 f21 h5 g4 f22 h6 g5 fn25 h7 g6 f24 h8 g7 f25)) [7, 8, 0, 1, 2, 3, 4, 5, 6] rfl
              have hD := hD.sub (ws' := (wd_d5ef5423 h0 v0 h1 v1 x207 (-1) 0 h2 h3 h4 h5 h6 h7 h8 v3 v4 r0 r1 r2 r3 v5 r4 r5 v6 v7 r6 r7 v8 v9 r8 v10 v11 r9 v12 w13 r10 v14 v15 r11 r12 r13 r14 r15 r16 v16 r17 r18 r19 v17 h1 g0 f18 h2 g1 f19 h3 g2 f20 h4 g3 f21 h5 g4 f22 h6 g5 fn25 h7 g6 f24 h8 g7 f25)) [7, 8, 0, 1, 2, 3, 4, 5, 6] (by decide) rfl
              have hP : va_P (dC, dI) vwCl (wd_d5ef5423 h0 v0 h1 v1 x207 (-1) 0 h2 h3 h4 h5 h6 h7 h8 v3 v4 r0 r1 r2 r3 v5 r4 r5 v6 v7 r6 r7 v8 v9 r8 v10 v11 r9 v12 w13 r10 v14 v15 r11 r12 r13 r14 r15 r16 v16 r17 r18 r19 v17 h1 g0 f18 h2 g1 f19 h3 g2 f20 h4 g3 f21 h5 g4 f22 h6 g5 fn25 h7 g6 f24 h8 g7 f25) H := hP
              have hD : va_D A (wd_d5ef5423 h0 v0 h1 v1 x207 (-1) 0 h2 h3 h4 h5 h6 h7 h8 v3 v4 r0 r1 r2 r3 v5 r4 r5 v6 v7 r6 r7 v8 v9 r8 v10 v11 r9 v12 w13 r10 v14 v15 r11 r12 r13 r14 r15 r16 v16 r17 r18 r19 v17 h1 g0 f18 h2 g1 f19 h3 g2 f20 h4 g3 f21 h5 g4 f22 h6 g5 fn25 h7 g6 f24 h8 g7 f25) := hD
              refine lv_bipush (v := 40) hx hb dX12_clause_118 (by decide) ?_
              refine lv_icmp_ne (tgt := 127) hx hb dX12_clause_120 (by decide) (fun c208 => ?_) (fun c208 => ?_)
              · skip
                have fc208 : ¬ (ra205.toInt = 40) := fun h9 => c208 (Int32.toInt_inj.mp h9)
                refine lv_iconst (v := 0) hx hb dX12_clause_127 (by decide) ?_
                exact hJ27 x207 H locs ls (by first | omega | decide) (by first | omega | decide) (by omega) hP hD hS (lv_sub hl [0, 1] rfl)
              · skip
                have fc208 : ra205.toInt = 40 := congrArg Int32.toInt c208
                refine lv_iconst (v := 1) hx hb dX12_clause_123 (by decide) ?_
                refine lv_goto (tgt := 128) hx hb dX12_clause_124 (by decide) ?_
                exact hJ149 x207 H locs ls (by first | omega | decide) (by first | omega | decide) (by omega) hP hD hS (lv_sub hl [0, 1] rfl)
          · skip
            obtain ⟨x209, oa_x209, ob_x209, pt0_ra203, pt1_ra203, pt2_ra203, pt3_ra203, pt4_ra203, hP1, hK1, hD1⟩ := hB
            rw [ht] at hP1
            obtain ⟨hP, hD⟩ := va_join (wr := (wd_55284813 h2 g1 f19 h3 g2 f20 h4 g3 f21 h5 g4 f22 h6 g5 fn25 h7 g6 f24 h8 g7 f25)) (w1 := (wd_f4cd022e h0 v0 h1 v1 x209 (-1) 0 h2 h3 h4 h5 h6 h7 h8 v3 v4 r0 r1 r2 r3 v5 r4 r5 v6 v7 r6 r7 v8 v9 r8 v10 v11 r9 v12 w13 r10 v14 v15 r11 r12 r13 r14 r15 r16 v16 r17 r18 r19 v17 h1 g0 f18)) hP hD [0, 1] [2, 3, 4, 5, 6, 7, 8] rfl rfl (by decide) (by decide) hk1 hFc hP1 hD1
            generalize H1 = H at hP hS ⊢
            have hP := hP.sub (ws' := (wd_d5ef5423 h0 v0 h1 v1 x209 (-1) 0 h2 h3 h4 h5 h6 h7 h8 v3 v4 r0 r1 r2 r3 v5 r4 r5 v6 v7 r6 r7 v8 v9 r8 v10 v11 r9 v12 w13 r10 v14 v15 r11 r12 r13 r14 r15 r16 v16 r17 r18 r19 v17 h1 g0 f18 h2 g1 f19 h3 g2 f20 h4 g3 f21 h5 g4 f22 h6 g5 fn25 h7 g6 f24 h8 g7 f25)) [7, 8, 0, 1, 2, 3, 4, 5, 6] rfl
            have hD := hD.sub (ws' := (wd_d5ef5423 h0 v0 h1 v1 x209 (-1) 0 h2 h3 h4 h5 h6 h7 h8 v3 v4 r0 r1 r2 r3 v5 r4 r5 v6 v7 r6 r7 v8 v9 r8 v10 v11 r9 v12 w13 r10 v14 v15 r11 r12 r13 r14 r15 r16 v16 r17 r18 r19 v17 h1 g0 f18 h2 g1 f19 h3 g2 f20 h4 g3 f21 h5 g4 f22 h6 g5 fn25 h7 g6 f24 h8 g7 f25)) [7, 8, 0, 1, 2, 3, 4, 5, 6] (by decide) rfl
            have hP : va_P (dC, dI) vwCl (wd_d5ef5423 h0 v0 h1 v1 x209 (-1) 0 h2 h3 h4 h5 h6 h7 h8 v3 v4 r0 r1 r2 r3 v5 r4 r5 v6 v7 r6 r7 v8 v9 r8 v10 v11 r9 v12 w13 r10 v14 v15 r11 r12 r13 r14 r15 r16 v16 r17 r18 r19 v17 h1 g0 f18 h2 g1 f19 h3 g2 f20 h4 g3 f21 h5 g4 f22 h6 g5 fn25 h7 g6 f24 h8 g7 f25) H := hP
            have hD : va_D A (wd_d5ef5423 h0 v0 h1 v1 x209 (-1) 0 h2 h3 h4 h5 h6 h7 h8 v3 v4 r0 r1 r2 r3 v5 r4 r5 v6 v7 r6 r7 v8 v9 r8 v10 v11 r9 v12 w13 r10 v14 v15 r11 r12 r13 r14 r15 r16 v16 r17 r18 r19 v17 h1 g0 f18 h2 g1 f19 h3 g2 f20 h4 g3 f21 h5 g4 f22 h6 g5 fn25 h7 g6 f24 h8 g7 f25) := hD
            refine lv_bipush (v := 33) hx hb dX12_clause_109 (by decide) ?_
            refine lv_icmp_eq (tgt := 123) hx hb dX12_clause_111 (by decide) (fun c210 => ?_) (fun c210 => ?_)
            · skip
              have fc210 : ra203.toInt = 33 := congrArg Int32.toInt c210
              refine lv_iconst (v := 1) hx hb dX12_clause_123 (by decide) ?_
              refine lv_goto (tgt := 128) hx hb dX12_clause_124 (by decide) ?_
              exact hJ149 x209 H locs ls (by first | omega | decide) (by first | omega | decide) (by omega) hP hD hS (lv_sub hl [0, 1] rfl)
            · skip
              have fc210 : ¬ (ra203.toInt = 33) := fun h9 => c210 (Int32.toInt_inj.mp h9)
              refine lv_aload_n hx hb dX12_clause_114 rfl (lv_at hl 1 rfl) ?_
              have hPc := hP.sub (ws' := (wd_f4cd022e h0 v0 h1 v1 x209 (-1) 0 h2 h3 h4 h5 h6 h7 h8 v3 v4 r0 r1 r2 r3 v5 r4 r5 v6 v7 r6 r7 v8 v9 r8 v10 v11 r9 v12 w13 r10 v14 v15 r11 r12 r13 r14 r15 r16 v16 r17 r18 r19 v17 h1 g0 f18)) [0, 1] rfl
              have hDc := hD.sub (ws' := (wd_f4cd022e h0 v0 h1 v1 x209 (-1) 0 h2 h3 h4 h5 h6 h7 h8 v3 v4 r0 r1 r2 r3 v5 r4 r5 v6 v7 r6 r7 v8 v9 r8 v10 v11 r9 v12 w13 r10 v14 v15 r11 r12 r13 r14 r15 r16 v16 r17 r18 r19 v17 h1 g0 f18)) [0, 1] (by decide) rfl
              have hKc := hK.sub (tys' := [(g0, .int)]) [0] rfl
              have hFc := va_free (wc := (wd_f4cd022e h0 v0 h1 v1 x209 (-1) 0 h2 h3 h4 h5 h6 h7 h8 v3 v4 r0 r1 r2 r3 v5 r4 r5 v6 v7 r6 r7 v8 v9 r8 v10 v11 r9 v12 w13 r10 v14 v15 r11 r12 r13 r14 r15 r16 v16 r17 r18 r19 v17 h1 g0 f18)) hD hS hA [0, 1] rfl
              refine va_calli (va_runV (As := []) (rest := []) ⟨hx, hb, hml, hown, hts⟩ (k_X12_look l dC dI h0 h1 v0 v1 x209 ((-1)) 0 h2 h3 h4 h5 h6 h7 h8 v3 v4 r0 r1 r2 r3 v5 r4 r5 v6 v7 r6 r7 v8 v9 r8 v10 v11 r9 v12 w13 r10 v14 v15 r11 r12 r13 r14 r15 r16 v16 r17 r18 r19 v17 g0 f18 ⟨by first | omega | decide, by first | omega | decide⟩ ⟨by first | omega | decide, by first | omega | decide⟩ ⟨by first | omega | decide, by first | omega | decide⟩ ⟨by first | omega | decide, by first | omega | decide⟩ ⟨by first | omega | decide, by first | omega | decide⟩ ⟨by first | omega | decide, by first | omega | decide⟩ ⟨by first | omega | decide, by first | omega | decide⟩ ⟨by first | omega | decide, by first | omega | decide⟩ ⟨by first | omega | decide, by first | omega | decide⟩ ⟨by first | omega | decide, by first | omega | decide⟩ ⟨by first | omega | decide, by first | omega | decide⟩ ia_f18 H.size) (cwV 0 hts g_X12_clause_0 rfl rfl rfl (by decide +kernel) ⟨Nat.le_of_ble_eq_true rfl, Nat.le_of_ble_eq_true rfl⟩) ⟨fun a U g mk q => by obtain ⟨q0, q1, qP, qK, qD⟩ := q; exact ⟨q0, q1, qP, va_K.moved (u := U) (U := U.calling g mk a) (Vm.Alike.refl U.vm) qK, qD⟩, va_recv hKc hPc (ci := 12) (q0 := 0) rfl rfl, fun U hU hW => ⟨rfl, by rw [hU], by rw [hU]; exact hPc, va_K.moved hW.alike hKc, hDc.weaken (fun _ _ _ _ => trivial)⟩⟩ rfl rfl hl.1 rfl (lv_room (Nat.le_of_ble_eq_true rfl)) dX12_clause_115 ⟨Nat.le_of_ble_eq_true rfl, Nat.le_of_ble_eq_true rfl⟩) hS (fun q _ h => hFc q h) hFc (fun ra211 u t H1 locs ht hvm hwra211 hB hz1 hk1 hS => ?_)
              try rw [hwra211] at hB
              have hkra211_0 : (((-1) : Int32)).toInt = -1 := by decide
              have hkra211_1 : ((0 : Int32)).toInt = 0 := by decide
              rcases hB with hB | hB
              · skip
                obtain ⟨x212, oa_x212, ob_x212, pt0_ra211, pt1_ra211, pt2_ra211, pt3_ra211, hP1, hK1, hD1⟩ := hB
                rw [ht] at hP1
                obtain ⟨hP, hD⟩ := va_join (wr := (wd_55284813 h2 g1 f19 h3 g2 f20 h4 g3 f21 h5 g4 f22 h6 g5 fn25 h7 g6 f24 h8 g7 f25)) (w1 := (wd_f4cd022e h0 v0 h1 v1 x212 (-1) 0 h2 h3 h4 h5 h6 h7 h8 v3 v4 r0 r1 r2 r3 v5 r4 r5 v6 v7 r6 r7 v8 v9 r8 v10 v11 r9 v12 w13 r10 v14 v15 r11 r12 r13 r14 r15 r16 v16 r17 r18 r19 v17 h1 g0 f18)) hP hD [0, 1] [2, 3, 4, 5, 6, 7, 8] rfl rfl (by decide) (by decide) hk1 hFc hP1 hD1
                generalize H1 = H at hP hS ⊢
                have hP := hP.sub (ws' := (wd_d5ef5423 h0 v0 h1 v1 x212 (-1) 0 h2 h3 h4 h5 h6 h7 h8 v3 v4 r0 r1 r2 r3 v5 r4 r5 v6 v7 r6 r7 v8 v9 r8 v10 v11 r9 v12 w13 r10 v14 v15 r11 r12 r13 r14 r15 r16 v16 r17 r18 r19 v17 h1 g0 f18 h2 g1 f19 h3 g2 f20 h4 g3 f21 h5 g4 f22 h6 g5 fn25 h7 g6 f24 h8 g7 f25)) [7, 8, 0, 1, 2, 3, 4, 5, 6] rfl
                have hD := hD.sub (ws' := (wd_d5ef5423 h0 v0 h1 v1 x212 (-1) 0 h2 h3 h4 h5 h6 h7 h8 v3 v4 r0 r1 r2 r3 v5 r4 r5 v6 v7 r6 r7 v8 v9 r8 v10 v11 r9 v12 w13 r10 v14 v15 r11 r12 r13 r14 r15 r16 v16 r17 r18 r19 v17 h1 g0 f18 h2 g1 f19 h3 g2 f20 h4 g3 f21 h5 g4 f22 h6 g5 fn25 h7 g6 f24 h8 g7 f25)) [7, 8, 0, 1, 2, 3, 4, 5, 6] (by decide) rfl
                have hP : va_P (dC, dI) vwCl (wd_d5ef5423 h0 v0 h1 v1 x212 (-1) 0 h2 h3 h4 h5 h6 h7 h8 v3 v4 r0 r1 r2 r3 v5 r4 r5 v6 v7 r6 r7 v8 v9 r8 v10 v11 r9 v12 w13 r10 v14 v15 r11 r12 r13 r14 r15 r16 v16 r17 r18 r19 v17 h1 g0 f18 h2 g1 f19 h3 g2 f20 h4 g3 f21 h5 g4 f22 h6 g5 fn25 h7 g6 f24 h8 g7 f25) H := hP
                have hD : va_D A (wd_d5ef5423 h0 v0 h1 v1 x212 (-1) 0 h2 h3 h4 h5 h6 h7 h8 v3 v4 r0 r1 r2 r3 v5 r4 r5 v6 v7 r6 r7 v8 v9 r8 v10 v11 r9 v12 w13 r10 v14 v15 r11 r12 r13 r14 r15 r16 v16 r17 r18 r19 v17 h1 g0 f18 h2 g1 f19 h3 g2 f20 h4 g3 f21 h5 g4 f22 h6 g5 fn25 h7 g6 f24 h8 g7 f25) := hD
                obtain rfl : ra211 = ((-1) : Int32) := Int32.toInt_inj.mp (by rw [show (((-1) : Int32)).toInt = -1 by decide]; omega)
                refine lv_bipush (v := 40) hx hb dX12_clause_118 (by decide) ?_
                refine lv_icmp_ne (tgt := 127) hx hb dX12_clause_120 (by decide) (fun _ => ?_) (fun c => absurd c (by decide))
                refine lv_iconst (v := 0) hx hb dX12_clause_127 (by decide) ?_
                exact hJ27 x212 H locs ls (by first | omega | decide) (by first | omega | decide) (by omega) hP hD hS (lv_sub hl [0, 1] rfl)
              · skip
                obtain ⟨x213, oa_x213, ob_x213, pt0_ra211, pt1_ra211, pt2_ra211, pt3_ra211, pt4_ra211, hP1, hK1, hD1⟩ := hB
                rw [ht] at hP1
                obtain ⟨hP, hD⟩ := va_join (wr := (wd_55284813 h2 g1 f19 h3 g2 f20 h4 g3 f21 h5 g4 f22 h6 g5 fn25 h7 g6 f24 h8 g7 f25)) (w1 := (wd_f4cd022e h0 v0 h1 v1 x213 (-1) 0 h2 h3 h4 h5 h6 h7 h8 v3 v4 r0 r1 r2 r3 v5 r4 r5 v6 v7 r6 r7 v8 v9 r8 v10 v11 r9 v12 w13 r10 v14 v15 r11 r12 r13 r14 r15 r16 v16 r17 r18 r19 v17 h1 g0 f18)) hP hD [0, 1] [2, 3, 4, 5, 6, 7, 8] rfl rfl (by decide) (by decide) hk1 hFc hP1 hD1
                generalize H1 = H at hP hS ⊢
                have hP := hP.sub (ws' := (wd_d5ef5423 h0 v0 h1 v1 x213 (-1) 0 h2 h3 h4 h5 h6 h7 h8 v3 v4 r0 r1 r2 r3 v5 r4 r5 v6 v7 r6 r7 v8 v9 r8 v10 v11 r9 v12 w13 r10 v14 v15 r11 r12 r13 r14 r15 r16 v16 r17 r18 r19 v17 h1 g0 f18 h2 g1 f19 h3 g2 f20 h4 g3 f21 h5 g4 f22 h6 g5 fn25 h7 g6 f24 h8 g7 f25)) [7, 8, 0, 1, 2, 3, 4, 5, 6] rfl
                have hD := hD.sub (ws' := (wd_d5ef5423 h0 v0 h1 v1 x213 (-1) 0 h2 h3 h4 h5 h6 h7 h8 v3 v4 r0 r1 r2 r3 v5 r4 r5 v6 v7 r6 r7 v8 v9 r8 v10 v11 r9 v12 w13 r10 v14 v15 r11 r12 r13 r14 r15 r16 v16 r17 r18 r19 v17 h1 g0 f18 h2 g1 f19 h3 g2 f20 h4 g3 f21 h5 g4 f22 h6 g5 fn25 h7 g6 f24 h8 g7 f25)) [7, 8, 0, 1, 2, 3, 4, 5, 6] (by decide) rfl
                have hP : va_P (dC, dI) vwCl (wd_d5ef5423 h0 v0 h1 v1 x213 (-1) 0 h2 h3 h4 h5 h6 h7 h8 v3 v4 r0 r1 r2 r3 v5 r4 r5 v6 v7 r6 r7 v8 v9 r8 v10 v11 r9 v12 w13 r10 v14 v15 r11 r12 r13 r14 r15 r16 v16 r17 r18 r19 v17 h1 g0 f18 h2 g1 f19 h3 g2 f20 h4 g3 f21 h5 g4 f22 h6 g5 fn25 h7 g6 f24 h8 g7 f25) H := hP
                have hD : va_D A (wd_d5ef5423 h0 v0 h1 v1 x213 (-1) 0 h2 h3 h4 h5 h6 h7 h8 v3 v4 r0 r1 r2 r3 v5 r4 r5 v6 v7 r6 r7 v8 v9 r8 v10 v11 r9 v12 w13 r10 v14 v15 r11 r12 r13 r14 r15 r16 v16 r17 r18 r19 v17 h1 g0 f18 h2 g1 f19 h3 g2 f20 h4 g3 f21 h5 g4 f22 h6 g5 fn25 h7 g6 f24 h8 g7 f25) := hD
                refine lv_bipush (v := 40) hx hb dX12_clause_118 (by decide) ?_
                refine lv_icmp_ne (tgt := 127) hx hb dX12_clause_120 (by decide) (fun c214 => ?_) (fun c214 => ?_)
                · skip
                  have fc214 : ¬ (ra211.toInt = 40) := fun h9 => c214 (Int32.toInt_inj.mp h9)
                  refine lv_iconst (v := 0) hx hb dX12_clause_127 (by decide) ?_
                  exact hJ27 x213 H locs ls (by first | omega | decide) (by first | omega | decide) (by omega) hP hD hS (lv_sub hl [0, 1] rfl)
                · skip
                  have fc214 : ra211.toInt = 40 := congrArg Int32.toInt c214
                  refine lv_iconst (v := 1) hx hb dX12_clause_123 (by decide) ?_
                  refine lv_goto (tgt := 128) hx hb dX12_clause_124 (by decide) ?_
                  exact hJ149 x213 H locs ls (by first | omega | decide) (by first | omega | decide) (by omega) hP hD hS (lv_sub hl [0, 1] rfl)
        · skip
          have fc22 : ¬ (ra15.toInt = 58) := fun h9 => c22 (Int32.toInt_inj.mp h9)
          refine lv_aload_n hx hb dX12_clause_67 rfl (lv_at hl 1 rfl) ?_
          have hPc := hP.sub (ws' := (wd_171f232f h0 v0 h1 v1 x21 (-1) 0 h2 h3 h4 h5 h6 h7 h8 v3 v4 r0 r1 r2 r3 v5 r4 r5 v6 v7 r6 r7 v8 v9 r8 v10 v11 r9 v12 w13 r10 v14 v15 r11 r12 r13 r14 r15 r16 v16 r17 r18 r19 v17)) [0] rfl
          have hDc := hD.sub (ws' := (wd_171f232f h0 v0 h1 v1 x21 (-1) 0 h2 h3 h4 h5 h6 h7 h8 v3 v4 r0 r1 r2 r3 v5 r4 r5 v6 v7 r6 r7 v8 v9 r8 v10 v11 r9 v12 w13 r10 v14 v15 r11 r12 r13 r14 r15 r16 v16 r17 r18 r19 v17)) [0] (by decide) rfl
          have hKc := hK.sub (tys' := []) [] rfl
          have hFc := va_free (wc := (wd_171f232f h0 v0 h1 v1 x21 (-1) 0 h2 h3 h4 h5 h6 h7 h8 v3 v4 r0 r1 r2 r3 v5 r4 r5 v6 v7 r6 r7 v8 v9 r8 v10 v11 r9 v12 w13 r10 v14 v15 r11 r12 r13 r14 r15 r16 v16 r17 r18 r19 v17)) hD hS hA [0] rfl
          refine va_callv (va_runV (As := []) (rest := []) ⟨hx, hb, hml, hown, hts⟩ (k_X12_bad l dC dI h0 v0 h1 v1 x21 0 h2 h3 h4 h5 h6 h7 h8 v3 v4 r0 r1 r2 r3 v5 r4 r5 v6 v7 r6 r7 v8 v9 r8 v10 v11 r9 v12 w13 r10 v14 v15 r11 r12 r13 r14 r15 r16 v16 r17 r18 r19 v17 ⟨by first | omega | decide, by first | omega | decide⟩ ⟨by first | omega | decide, by first | omega | decide⟩ ⟨by first | omega | decide, by first | omega | decide⟩ ⟨by first | omega | decide, by first | omega | decide⟩ ⟨by first | omega | decide, by first | omega | decide⟩ ⟨by first | omega | decide, by first | omega | decide⟩ ⟨by first | omega | decide, by first | omega | decide⟩ ⟨by first | omega | decide, by first | omega | decide⟩ ⟨by first | omega | decide, by first | omega | decide⟩ ⟨by first | omega | decide, by first | omega | decide⟩ ⟨by first | omega | decide, by first | omega | decide⟩ H.size) (cwV 0 hts g_X12_clause_1 rfl rfl rfl (by decide +kernel) ⟨Nat.le_of_ble_eq_true rfl, Nat.le_of_ble_eq_true rfl⟩) ⟨fun a U g mk q => by obtain ⟨q0, q1, qP, qK, qD⟩ := q; exact ⟨q0, q1, qP, va_K.moved (u := U) (U := U.calling g mk a) (Vm.Alike.refl U.vm) qK, qD⟩, va_recv hKc hPc (ci := 12) (q0 := 0) rfl rfl, fun U hU hW => ⟨rfl, by rw [hU], by rw [hU]; exact hPc, va_K.moved hW.alike hKc, hDc.weaken (fun _ _ _ _ => trivial)⟩⟩ rfl rfl hl.1 rfl (lv_room (Nat.le_of_ble_eq_true rfl)) dX12_clause_68 ⟨Nat.le_of_ble_eq_true rfl, Nat.le_of_ble_eq_true rfl⟩) hS (fun q _ h => hFc q h) hFc (fun u t H1 locs ht hvm hwra215 hB hz1 hk1 hS => ?_)
          obtain ⟨x216, oa_x216, ob_x216, hP1, hK1, hD1⟩ := hB
          rw [ht] at hP1
          obtain ⟨hP, hD⟩ := va_join (wr := (wd_f36c9d1b h1 g0 f18 h2 g1 f19 h3 g2 f20 h4 g3 f21 h5 g4 f22 h6 g5 f23 h7 g6 f24 h8 g7 f25)) (w1 := (wd_171f232f h0 v0 h1 v1 x21 x216 0 h2 h3 h4 h5 h6 h7 h8 v3 v4 r0 r1 r2 r3 v5 r4 r5 v6 v7 r6 r7 v8 v9 r8 v10 v11 r9 v12 w13 r10 v14 v15 r11 r12 r13 r14 r15 r16 v16 r17 r18 r19 v17)) hP hD [0] [1, 2, 3, 4, 5, 6, 7, 8] rfl rfl (by decide) (by decide) hk1 hFc hP1 hD1
          generalize H1 = H at hP hS ⊢
          have hP := hP.sub (ws' := (wd_d5ef5423 h0 v0 h1 v1 x21 x216 0 h2 h3 h4 h5 h6 h7 h8 v3 v4 r0 r1 r2 r3 v5 r4 r5 v6 v7 r6 r7 v8 v9 r8 v10 v11 r9 v12 w13 r10 v14 v15 r11 r12 r13 r14 r15 r16 v16 r17 r18 r19 v17 h1 g0 f18 h2 g1 f19 h3 g2 f20 h4 g3 f21 h5 g4 f22 h6 g5 f23 h7 g6 f24 h8 g7 f25)) [8, 0, 1, 2, 3, 4, 5, 6, 7] rfl
          have hD := hD.sub (ws' := (wd_d5ef5423 h0 v0 h1 v1 x21 x216 0 h2 h3 h4 h5 h6 h7 h8 v3 v4 r0 r1 r2 r3 v5 r4 r5 v6 v7 r6 r7 v8 v9 r8 v10 v11 r9 v12 w13 r10 v14 v15 r11 r12 r13 r14 r15 r16 v16 r17 r18 r19 v17 h1 g0 f18 h2 g1 f19 h3 g2 f20 h4 g3 f21 h5 g4 f22 h6 g5 f23 h7 g6 f24 h8 g7 f25)) [8, 0, 1, 2, 3, 4, 5, 6, 7] (by decide) rfl
          have hP : va_P (dC, dI) vwCl (wd_d5ef5423 h0 v0 h1 v1 x21 x216 0 h2 h3 h4 h5 h6 h7 h8 v3 v4 r0 r1 r2 r3 v5 r4 r5 v6 v7 r6 r7 v8 v9 r8 v10 v11 r9 v12 w13 r10 v14 v15 r11 r12 r13 r14 r15 r16 v16 r17 r18 r19 v17 h1 g0 f18 h2 g1 f19 h3 g2 f20 h4 g3 f21 h5 g4 f22 h6 g5 f23 h7 g6 f24 h8 g7 f25) H := hP
          have hD : va_D A (wd_d5ef5423 h0 v0 h1 v1 x21 x216 0 h2 h3 h4 h5 h6 h7 h8 v3 v4 r0 r1 r2 r3 v5 r4 r5 v6 v7 r6 r7 v8 v9 r8 v10 v11 r9 v12 w13 r10 v14 v15 r11 r12 r13 r14 r15 r16 v16 r17 r18 r19 v17 h1 g0 f18 h2 g1 f19 h3 g2 f20 h4 g3 f21 h5 g4 f22 h6 g5 f23 h7 g6 f24 h8 g7 f25) := hD
          refine lv_aload_n hx hb dX12_clause_71 rfl (lv_at hl 1 rfl) ?_
          refine lv_dup hx hb dX12_clause_72 rfl ?_
          refine va_get (D := (dC, dI)) (ci := 12) (v := .int x21) (C := RX12) (T := TX12) (N := 48) hx hb hts (fun _ h => List.mem_cons_of_mem _ (List.mem_append_right _ h)) hown hK hP 0 rfl rfl 3 (by decide) (hts (.fieldLink RX12 112 "LeftArgumentsModel" "at" "I") (List.mem_cons_of_mem _ (List.mem_append_left _ (List.mem_of_getElem? (i := 5) rfl)))) (fun _ h9 => h9) rfl dX12_clause_73 ?_
          refine lv_iconst (v := 1) hx hb dX12_clause_76 (by decide) ?_
          refine lv_iadd hx hb dX12_clause_77 ?_
          refine lv_topi (fun t217 et217 => ?_)
          have gt217 : t217.toInt = x21.toInt + 1 := pv_add (a := x21.toInt) (b := 1) et217 rfl (by decide) (by omega) (by omega)
          refine va_put (D := (dC, dI)) (ci := 12) (v := .int t217) (ty := .int) (C := RX12) (T := TX12) (N := 48) hx hb hts (fun _ h => List.mem_cons_of_mem _ (List.mem_append_right _ h)) tyX12 tyX12_ok nmX12 hown hK hP hD hS 0 rfl rfl 3 (by decide) (hts (.fieldLink RX12 112 "LeftArgumentsModel" "at" "I") (List.mem_cons_of_mem _ (List.mem_append_left _ (List.mem_of_getElem? (i := 5) rfl)))) (fun _ h9 => h9) rfl (by decide +kernel) rfl rfl (Nat.le_of_ble_eq_true rfl) dX12_clause_78 (fun H locs hP hD hS => ?_)
          have hP : va_P (dC, dI) vwCl (wd_d5ef5423 h0 v0 h1 v1 t217 x216 0 h2 h3 h4 h5 h6 h7 h8 v3 v4 r0 r1 r2 r3 v5 r4 r5 v6 v7 r6 r7 v8 v9 r8 v10 v11 r9 v12 w13 r10 v14 v15 r11 r12 r13 r14 r15 r16 v16 r17 r18 r19 v17 h1 g0 f18 h2 g1 f19 h3 g2 f20 h4 g3 f21 h5 g4 f22 h6 g5 f23 h7 g6 f24 h8 g7 f25) H := hP
          have hD : va_D A (wd_d5ef5423 h0 v0 h1 v1 t217 x216 0 h2 h3 h4 h5 h6 h7 h8 v3 v4 r0 r1 r2 r3 v5 r4 r5 v6 v7 r6 r7 v8 v9 r8 v10 v11 r9 v12 w13 r10 v14 v15 r11 r12 r13 r14 r15 r16 v16 r17 r18 r19 v17 h1 g0 f18 h2 g1 f19 h3 g2 f20 h4 g3 f21 h5 g4 f22 h6 g5 f23 h7 g6 f24 h8 g7 f25) := hD
          refine lv_aload_n hx hb dX12_clause_81 rfl (lv_at hl 1 rfl) ?_
          refine va_get (D := (dC, dI)) (ci := 12) (v := .int x216) (C := RX12) (T := TX12) (N := 48) hx hb hts (fun _ h => List.mem_cons_of_mem _ (List.mem_append_right _ h)) hown hK hP 0 rfl rfl 4 (by decide) (hts (.fieldLink RX12 119 "LeftArgumentsModel" "wrong" "I") (List.mem_cons_of_mem _ (List.mem_append_left _ (List.mem_of_getElem? (i := 2) rfl)))) (fun _ h9 => h9) rfl dX12_clause_82 ?_
          refine lv_iconst (v := (-1)) hx hb dX12_clause_85 (by decide) ?_
          refine lv_icmp_eq (tgt := 90) hx hb dX12_clause_86 (by decide) (fun c218 => by exfalso; have fc218 : x216.toInt = (-1) := congrArg Int32.toInt c218; omega) (fun _ => ?_)
          subst hQ
          have hP9 := hP.sub (ws' := (wd_d5ef5423 h0 v0 h1 v1 t217 x216 0 h2 h3 h4 h5 h6 h7 h8 v3 v4 r0 r1 r2 r3 v5 r4 r5 v6 v7 r6 r7 v8 v9 r8 v10 v11 r9 v12 w13 r10 v14 v15 r11 r12 r13 r14 r15 r16 v16 r17 r18 r19 v17 h1 g0 f18 h2 g1 f19 h3 g2 f20 h4 g3 f21 h5 g4 f22 h6 g5 f23 h7 g6 f24 h8 g7 f25)) [0, 1, 2, 3, 4, 5, 6, 7, 8] rfl
          have hD9 := hD.sub (ws' := (wd_d5ef5423 h0 v0 h1 v1 t217 x216 0 h2 h3 h4 h5 h6 h7 h8 v3 v4 r0 r1 r2 r3 v5 r4 r5 v6 v7 r6 r7 v8 v9 r8 v10 v11 r9 v12 w13 r10 v14 v15 r11 r12 r13 r14 r15 r16 v16 r17 r18 r19 v17 h1 g0 f18 h2 g1 f19 h3 g2 f20 h4 g3 f21 h5 g4 f22 h6 g5 f23 h7 g6 f24 h8 g7 f25)) [0, 1, 2, 3, 4, 5, 6, 7, 8] (by decide) rfl
          have hK9 := hK.sub (tys' := []) [] rfl
          exact W.vret hx hb hr (fun t ht hW => ⟨⟨(), rfl, trivial, Or.inr (⟨t217, x216, 0, f19, f20, f21, f22, f23, f24, f25, by first | omega | decide, by first | omega | decide, by first | omega | decide, by first | omega | decide, by exact pm_Oth.mk hgF ho1 ho2 ho3 ho4 (by omega) (by omega) (by omega) (by omega), by rw [ht]; exact hP9, va_K.moved hW.alike hK9, hD9⟩)⟩, hS.F ht⟩) hS.2.2 dX12_clause_89
    · skip
      have fc13 : ¬ (ra4.toInt = 121) := fun h9 => c13 (Int32.toInt_inj.mp h9)
      refine lv_aload_n hx hb dX12_clause_36 rfl (lv_at hl 1 rfl) ?_
      have hPc := hP.sub (ws' := (wd_171f232f h0 v0 h1 v1 x12 (-1) 0 h2 h3 h4 h5 h6 h7 h8 v3 v4 r0 r1 r2 r3 v5 r4 r5 v6 v7 r6 r7 v8 v9 r8 v10 v11 r9 v12 w13 r10 v14 v15 r11 r12 r13 r14 r15 r16 v16 r17 r18 r19 v17)) [0] rfl
      have hDc := hD.sub (ws' := (wd_171f232f h0 v0 h1 v1 x12 (-1) 0 h2 h3 h4 h5 h6 h7 h8 v3 v4 r0 r1 r2 r3 v5 r4 r5 v6 v7 r6 r7 v8 v9 r8 v10 v11 r9 v12 w13 r10 v14 v15 r11 r12 r13 r14 r15 r16 v16 r17 r18 r19 v17)) [0] (by decide) rfl
      have hKc := hK.sub (tys' := []) [] rfl
      have hFc := va_free (wc := (wd_171f232f h0 v0 h1 v1 x12 (-1) 0 h2 h3 h4 h5 h6 h7 h8 v3 v4 r0 r1 r2 r3 v5 r4 r5 v6 v7 r6 r7 v8 v9 r8 v10 v11 r9 v12 w13 r10 v14 v15 r11 r12 r13 r14 r15 r16 v16 r17 r18 r19 v17)) hD hS hA [0] rfl
      refine va_callv (va_runV (As := []) (rest := []) ⟨hx, hb, hml, hown, hts⟩ (k_X12_bad l dC dI h0 v0 h1 v1 x12 0 h2 h3 h4 h5 h6 h7 h8 v3 v4 r0 r1 r2 r3 v5 r4 r5 v6 v7 r6 r7 v8 v9 r8 v10 v11 r9 v12 w13 r10 v14 v15 r11 r12 r13 r14 r15 r16 v16 r17 r18 r19 v17 ⟨by first | omega | decide, by first | omega | decide⟩ ⟨by first | omega | decide, by first | omega | decide⟩ ⟨by first | omega | decide, by first | omega | decide⟩ ⟨by first | omega | decide, by first | omega | decide⟩ ⟨by first | omega | decide, by first | omega | decide⟩ ⟨by first | omega | decide, by first | omega | decide⟩ ⟨by first | omega | decide, by first | omega | decide⟩ ⟨by first | omega | decide, by first | omega | decide⟩ ⟨by first | omega | decide, by first | omega | decide⟩ ⟨by first | omega | decide, by first | omega | decide⟩ ⟨by first | omega | decide, by first | omega | decide⟩ H.size) (cwV 0 hts g_X12_clause_1 rfl rfl rfl (by decide +kernel) ⟨Nat.le_of_ble_eq_true rfl, Nat.le_of_ble_eq_true rfl⟩) ⟨fun a U g mk q => by obtain ⟨q0, q1, qP, qK, qD⟩ := q; exact ⟨q0, q1, qP, va_K.moved (u := U) (U := U.calling g mk a) (Vm.Alike.refl U.vm) qK, qD⟩, va_recv hKc hPc (ci := 12) (q0 := 0) rfl rfl, fun U hU hW => ⟨rfl, by rw [hU], by rw [hU]; exact hPc, va_K.moved hW.alike hKc, hDc.weaken (fun _ _ _ _ => trivial)⟩⟩ rfl rfl hl.1 rfl (lv_room (Nat.le_of_ble_eq_true rfl)) dX12_clause_37 ⟨Nat.le_of_ble_eq_true rfl, Nat.le_of_ble_eq_true rfl⟩) hS (fun q _ h => hFc q h) hFc (fun u t H1 locs ht hvm hwra219 hB hz1 hk1 hS => ?_)
      obtain ⟨x220, oa_x220, ob_x220, hP1, hK1, hD1⟩ := hB
      rw [ht] at hP1
      obtain ⟨hP, hD⟩ := va_join (wr := (wd_f36c9d1b h1 g0 f18 h2 g1 f19 h3 g2 f20 h4 g3 f21 h5 g4 f22 h6 g5 f23 h7 g6 f24 h8 g7 f25)) (w1 := (wd_171f232f h0 v0 h1 v1 x12 x220 0 h2 h3 h4 h5 h6 h7 h8 v3 v4 r0 r1 r2 r3 v5 r4 r5 v6 v7 r6 r7 v8 v9 r8 v10 v11 r9 v12 w13 r10 v14 v15 r11 r12 r13 r14 r15 r16 v16 r17 r18 r19 v17)) hP hD [0] [1, 2, 3, 4, 5, 6, 7, 8] rfl rfl (by decide) (by decide) hk1 hFc hP1 hD1
      generalize H1 = H at hP hS ⊢
      have hP := hP.sub (ws' := (wd_d5ef5423 h0 v0 h1 v1 x12 x220 0 h2 h3 h4 h5 h6 h7 h8 v3 v4 r0 r1 r2 r3 v5 r4 r5 v6 v7 r6 r7 v8 v9 r8 v10 v11 r9 v12 w13 r10 v14 v15 r11 r12 r13 r14 r15 r16 v16 r17 r18 r19 v17 h1 g0 f18 h2 g1 f19 h3 g2 f20 h4 g3 f21 h5 g4 f22 h6 g5 f23 h7 g6 f24 h8 g7 f25)) [8, 0, 1, 2, 3, 4, 5, 6, 7] rfl
      have hD := hD.sub (ws' := (wd_d5ef5423 h0 v0 h1 v1 x12 x220 0 h2 h3 h4 h5 h6 h7 h8 v3 v4 r0 r1 r2 r3 v5 r4 r5 v6 v7 r6 r7 v8 v9 r8 v10 v11 r9 v12 w13 r10 v14 v15 r11 r12 r13 r14 r15 r16 v16 r17 r18 r19 v17 h1 g0 f18 h2 g1 f19 h3 g2 f20 h4 g3 f21 h5 g4 f22 h6 g5 f23 h7 g6 f24 h8 g7 f25)) [8, 0, 1, 2, 3, 4, 5, 6, 7] (by decide) rfl
      have hP : va_P (dC, dI) vwCl (wd_d5ef5423 h0 v0 h1 v1 x12 x220 0 h2 h3 h4 h5 h6 h7 h8 v3 v4 r0 r1 r2 r3 v5 r4 r5 v6 v7 r6 r7 v8 v9 r8 v10 v11 r9 v12 w13 r10 v14 v15 r11 r12 r13 r14 r15 r16 v16 r17 r18 r19 v17 h1 g0 f18 h2 g1 f19 h3 g2 f20 h4 g3 f21 h5 g4 f22 h6 g5 f23 h7 g6 f24 h8 g7 f25) H := hP
      have hD : va_D A (wd_d5ef5423 h0 v0 h1 v1 x12 x220 0 h2 h3 h4 h5 h6 h7 h8 v3 v4 r0 r1 r2 r3 v5 r4 r5 v6 v7 r6 r7 v8 v9 r8 v10 v11 r9 v12 w13 r10 v14 v15 r11 r12 r13 r14 r15 r16 v16 r17 r18 r19 v17 h1 g0 f18 h2 g1 f19 h3 g2 f20 h4 g3 f21 h5 g4 f22 h6 g5 f23 h7 g6 f24 h8 g7 f25) := hD
      refine lv_aload_n hx hb dX12_clause_40 rfl (lv_at hl 1 rfl) ?_
      refine lv_dup hx hb dX12_clause_41 rfl ?_
      refine va_get (D := (dC, dI)) (ci := 12) (v := .int x12) (C := RX12) (T := TX12) (N := 48) hx hb hts (fun _ h => List.mem_cons_of_mem _ (List.mem_append_right _ h)) hown hK hP 0 rfl rfl 3 (by decide) (hts (.fieldLink RX12 112 "LeftArgumentsModel" "at" "I") (List.mem_cons_of_mem _ (List.mem_append_left _ (List.mem_of_getElem? (i := 5) rfl)))) (fun _ h9 => h9) rfl dX12_clause_42 ?_
      refine lv_iconst (v := 1) hx hb dX12_clause_45 (by decide) ?_
      refine lv_iadd hx hb dX12_clause_46 ?_
      refine lv_topi (fun t221 et221 => ?_)
      have gt221 : t221.toInt = x12.toInt + 1 := pv_add (a := x12.toInt) (b := 1) et221 rfl (by decide) (by omega) (by omega)
      refine va_put (D := (dC, dI)) (ci := 12) (v := .int t221) (ty := .int) (C := RX12) (T := TX12) (N := 48) hx hb hts (fun _ h => List.mem_cons_of_mem _ (List.mem_append_right _ h)) tyX12 tyX12_ok nmX12 hown hK hP hD hS 0 rfl rfl 3 (by decide) (hts (.fieldLink RX12 112 "LeftArgumentsModel" "at" "I") (List.mem_cons_of_mem _ (List.mem_append_left _ (List.mem_of_getElem? (i := 5) rfl)))) (fun _ h9 => h9) rfl (by decide +kernel) rfl rfl (Nat.le_of_ble_eq_true rfl) dX12_clause_47 (fun H locs hP hD hS => ?_)
      have hP : va_P (dC, dI) vwCl (wd_d5ef5423 h0 v0 h1 v1 t221 x220 0 h2 h3 h4 h5 h6 h7 h8 v3 v4 r0 r1 r2 r3 v5 r4 r5 v6 v7 r6 r7 v8 v9 r8 v10 v11 r9 v12 w13 r10 v14 v15 r11 r12 r13 r14 r15 r16 v16 r17 r18 r19 v17 h1 g0 f18 h2 g1 f19 h3 g2 f20 h4 g3 f21 h5 g4 f22 h6 g5 f23 h7 g6 f24 h8 g7 f25) H := hP
      have hD : va_D A (wd_d5ef5423 h0 v0 h1 v1 t221 x220 0 h2 h3 h4 h5 h6 h7 h8 v3 v4 r0 r1 r2 r3 v5 r4 r5 v6 v7 r6 r7 v8 v9 r8 v10 v11 r9 v12 w13 r10 v14 v15 r11 r12 r13 r14 r15 r16 v16 r17 r18 r19 v17 h1 g0 f18 h2 g1 f19 h3 g2 f20 h4 g3 f21 h5 g4 f22 h6 g5 f23 h7 g6 f24 h8 g7 f25) := hD
      refine lv_aload_n hx hb dX12_clause_50 rfl (lv_at hl 1 rfl) ?_
      refine va_get (D := (dC, dI)) (ci := 12) (v := .int x220) (C := RX12) (T := TX12) (N := 48) hx hb hts (fun _ h => List.mem_cons_of_mem _ (List.mem_append_right _ h)) hown hK hP 0 rfl rfl 4 (by decide) (hts (.fieldLink RX12 119 "LeftArgumentsModel" "wrong" "I") (List.mem_cons_of_mem _ (List.mem_append_left _ (List.mem_of_getElem? (i := 2) rfl)))) (fun _ h9 => h9) rfl dX12_clause_51 ?_
      refine lv_iconst (v := (-1)) hx hb dX12_clause_54 (by decide) ?_
      refine lv_icmp_ne (tgt := 71) hx hb dX12_clause_55 (by decide) (fun _ => ?_) (fun c222 => by exfalso; have fc222 : x220.toInt = (-1) := congrArg Int32.toInt c222; omega)
      refine lv_aload_n hx hb dX12_clause_71 rfl (lv_at hl 1 rfl) ?_
      refine lv_dup hx hb dX12_clause_72 rfl ?_
      refine va_get (D := (dC, dI)) (ci := 12) (v := .int t221) (C := RX12) (T := TX12) (N := 48) hx hb hts (fun _ h => List.mem_cons_of_mem _ (List.mem_append_right _ h)) hown hK hP 0 rfl rfl 3 (by decide) (hts (.fieldLink RX12 112 "LeftArgumentsModel" "at" "I") (List.mem_cons_of_mem _ (List.mem_append_left _ (List.mem_of_getElem? (i := 5) rfl)))) (fun _ h9 => h9) rfl dX12_clause_73 ?_
      refine lv_iconst (v := 1) hx hb dX12_clause_76 (by decide) ?_
      refine lv_iadd hx hb dX12_clause_77 ?_
      refine lv_topi (fun t223 et223 => ?_)
      have gt223 : t223.toInt = t221.toInt + 1 := pv_add (a := t221.toInt) (b := 1) et223 rfl (by decide) (by omega) (by omega)
      refine va_put (D := (dC, dI)) (ci := 12) (v := .int t223) (ty := .int) (C := RX12) (T := TX12) (N := 48) hx hb hts (fun _ h => List.mem_cons_of_mem _ (List.mem_append_right _ h)) tyX12 tyX12_ok nmX12 hown hK hP hD hS 0 rfl rfl 3 (by decide) (hts (.fieldLink RX12 112 "LeftArgumentsModel" "at" "I") (List.mem_cons_of_mem _ (List.mem_append_left _ (List.mem_of_getElem? (i := 5) rfl)))) (fun _ h9 => h9) rfl (by decide +kernel) rfl rfl (Nat.le_of_ble_eq_true rfl) dX12_clause_78 (fun H locs hP hD hS => ?_)
      have hP : va_P (dC, dI) vwCl (wd_d5ef5423 h0 v0 h1 v1 t223 x220 0 h2 h3 h4 h5 h6 h7 h8 v3 v4 r0 r1 r2 r3 v5 r4 r5 v6 v7 r6 r7 v8 v9 r8 v10 v11 r9 v12 w13 r10 v14 v15 r11 r12 r13 r14 r15 r16 v16 r17 r18 r19 v17 h1 g0 f18 h2 g1 f19 h3 g2 f20 h4 g3 f21 h5 g4 f22 h6 g5 f23 h7 g6 f24 h8 g7 f25) H := hP
      have hD : va_D A (wd_d5ef5423 h0 v0 h1 v1 t223 x220 0 h2 h3 h4 h5 h6 h7 h8 v3 v4 r0 r1 r2 r3 v5 r4 r5 v6 v7 r6 r7 v8 v9 r8 v10 v11 r9 v12 w13 r10 v14 v15 r11 r12 r13 r14 r15 r16 v16 r17 r18 r19 v17 h1 g0 f18 h2 g1 f19 h3 g2 f20 h4 g3 f21 h5 g4 f22 h6 g5 f23 h7 g6 f24 h8 g7 f25) := hD
      refine lv_aload_n hx hb dX12_clause_81 rfl (lv_at hl 1 rfl) ?_
      refine va_get (D := (dC, dI)) (ci := 12) (v := .int x220) (C := RX12) (T := TX12) (N := 48) hx hb hts (fun _ h => List.mem_cons_of_mem _ (List.mem_append_right _ h)) hown hK hP 0 rfl rfl 4 (by decide) (hts (.fieldLink RX12 119 "LeftArgumentsModel" "wrong" "I") (List.mem_cons_of_mem _ (List.mem_append_left _ (List.mem_of_getElem? (i := 2) rfl)))) (fun _ h9 => h9) rfl dX12_clause_82 ?_
      refine lv_iconst (v := (-1)) hx hb dX12_clause_85 (by decide) ?_
      refine lv_icmp_eq (tgt := 90) hx hb dX12_clause_86 (by decide) (fun c224 => by exfalso; have fc224 : x220.toInt = (-1) := congrArg Int32.toInt c224; omega) (fun _ => ?_)
      subst hQ
      have hP9 := hP.sub (ws' := (wd_d5ef5423 h0 v0 h1 v1 t223 x220 0 h2 h3 h4 h5 h6 h7 h8 v3 v4 r0 r1 r2 r3 v5 r4 r5 v6 v7 r6 r7 v8 v9 r8 v10 v11 r9 v12 w13 r10 v14 v15 r11 r12 r13 r14 r15 r16 v16 r17 r18 r19 v17 h1 g0 f18 h2 g1 f19 h3 g2 f20 h4 g3 f21 h5 g4 f22 h6 g5 f23 h7 g6 f24 h8 g7 f25)) [0, 1, 2, 3, 4, 5, 6, 7, 8] rfl
      have hD9 := hD.sub (ws' := (wd_d5ef5423 h0 v0 h1 v1 t223 x220 0 h2 h3 h4 h5 h6 h7 h8 v3 v4 r0 r1 r2 r3 v5 r4 r5 v6 v7 r6 r7 v8 v9 r8 v10 v11 r9 v12 w13 r10 v14 v15 r11 r12 r13 r14 r15 r16 v16 r17 r18 r19 v17 h1 g0 f18 h2 g1 f19 h3 g2 f20 h4 g3 f21 h5 g4 f22 h6 g5 f23 h7 g6 f24 h8 g7 f25)) [0, 1, 2, 3, 4, 5, 6, 7, 8] (by decide) rfl
      have hK9 := hK.sub (tys' := []) [] rfl
      exact W.vret hx hb hr (fun t ht hW => ⟨⟨(), rfl, trivial, Or.inr (⟨t223, x220, 0, f19, f20, f21, f22, f23, f24, f25, by first | omega | decide, by first | omega | decide, by first | omega | decide, by first | omega | decide, by exact pm_Oth.mk hgF ho1 ho2 ho3 ho4 (by omega) (by omega) (by omega) (by omega), by rw [ht]; exact hP9, va_K.moved hW.alike hK9, hD9⟩)⟩, hS.F ht⟩) hS.2.2 dX12_clause_89
def q_X12_atEnd : List Cond := .code yX12_atEnd cX12_atEnd 1 (some .int) :: (([.fieldLink RX12 119 "LeftArgumentsModel" "wrong" "I", .code yX12_look cX12_look 1 (some .int), .code yX12_here cX12_here 1 (some .int), .fieldLink RX12 112 "LeftArgumentsModel" "at" "I", .fieldLink RX12 109 "LeftArgumentsModel" "size" "I", .fieldLink RX12 9 "LeftArgumentsModel" "tape" "[I", .initialized RX12, .instanceMethod yX12_here, .selects RX12 yX12_here yX12_here, .methodLink RX12 115 yX12_here, .instanceMethod yX12_look, .selects RX12 yX12_look yX12_look, .methodLink RX12 131 yX12_look, .code yX12_bad cX12_bad 1 none, .instanceMethod yX12_bad, .selects RX12 yX12_bad yX12_bad, .methodLink RX12 128 yX12_bad] : List Cond) ++ wsX120)
set_option maxRecDepth 20000 in
theorem g_X12_atEnd_0 : GoodIn q_X12_atEnd (wsV RX12 131 RX12 yX12_look q_X12_look) := goodIn_app (goodIn_r _ [13, 11, 12, 7] rfl (by decide +kernel)) (goodIn_ca (goodIn_r (.code yX12_look cX12_look 1 (some .int) :: [.code yX12_here cX12_here 1 (some .int), .fieldLink RX12 112 "LeftArgumentsModel" "at" "I", .fieldLink RX12 109 "LeftArgumentsModel" "size" "I", .fieldLink RX12 9 "LeftArgumentsModel" "tape" "[I", .initialized RX12, .instanceMethod yX12_here, .selects RX12 yX12_here yX12_here, .methodLink RX12 115 yX12_here]) [2, 3, 4, 5, 6, 7, 8, 9, 10] rfl (by decide +kernel)) (goodIn_sub (fun _ h => List.mem_cons_of_mem _ (List.mem_append_right _ h)) gwX12))
set_option maxRecDepth 20000 in
theorem g_X12_atEnd_1 : GoodIn q_X12_atEnd (wsV RX12 128 RX12 yX12_bad q_X12_bad) := goodIn_app (goodIn_r _ [17, 15, 16, 7] rfl (by decide +kernel)) (goodIn_ca (goodIn_r (.code yX12_bad cX12_bad 1 none :: [.fieldLink RX12 119 "LeftArgumentsModel" "wrong" "I", .fieldLink RX12 112 "LeftArgumentsModel" "at" "I"]) [14, 1, 4] rfl (by decide +kernel)) (goodIn_sub (fun _ h => List.mem_cons_of_mem _ (List.mem_append_right _ h)) gwX12))
set_option maxHeartbeats 4000000 in
set_option maxRecDepth 100000 in
theorem k_X12_atEnd (l : Launch) (dC : Nat → ClassId) (dI : Nat → Nat → Nat) (h0 : Nat) (h1 : Nat) (v0 : Int32) (v1 : Int32) (v2 : Int32) (v3 : Int32) (r0 : Nat) (r1 : Nat) (r2 : Nat) (r3 : Nat) (r4 : Nat) (r5 : Nat) (r6 : Nat) (v4 : Int32) (v5 : Int32) (r7 : Nat) (r8 : Nat) (r9 : Nat) (r10 : Nat) (v6 : Int32) (r11 : Nat) (r12 : Nat) (v7 : Int32) (v8 : Int32) (r13 : Nat) (r14 : Nat) (v9 : Int32) (v10 : Int32) (r15 : Nat) (v11 : Int32) (v12 : Int32) (r16 : Nat) (v13 : Int32) (w14 : Int64) (r17 : Nat) (v15 : Int32) (v16 : Int32) (r18 : Nat) (r19 : Nat) (r20 : Nat) (r21 : Nat) (r22 : Nat) (r23 : Nat) (v17 : Int32) (r24 : Nat) (r25 : Nat) (r26 : Nat) (v18 : Int32) (g0 : ClassId) (f19 : Nat → Int32) (i_v1 : 0 ≤ v1.toInt ∧ v1.toInt ≤ 240) (i_v2 : 0 ≤ v2.toInt ∧ v2.toInt ≤ 240) (i_v4 : 0 ≤ v4.toInt ∧ v4.toInt ≤ 4) (i_v5 : 0 ≤ v5.toInt ∧ v5.toInt ≤ 4) (i_v6 : 0 ≤ v6.toInt ∧ v6.toInt ≤ 8) (i_v7 : 0 ≤ v7.toInt ∧ v7.toInt ≤ 8) (i_v8 : 0 ≤ v8.toInt ∧ v8.toInt ≤ 1) (i_v9 : -1 ≤ v9.toInt ∧ v9.toInt ≤ 3) (i_v13 : 0 ≤ v13.toInt ∧ v13.toInt ≤ 40) (i_v17 : 0 ≤ v17.toInt ∧ v17.toInt ≤ 10) (i_v18 : 0 ≤ v18.toInt ∧ v18.toInt ≤ 1) (ia_f19 : (∀ j, 0 ≤ (f19 j).toInt ∧ (f19 j).toInt ≤ 255)) (sz : Nat) : Met l yX12_atEnd q_X12_atEnd ({ frames := 2, cells := 0, slots := 0, locals := 40 }) (va_Pc [.ref h0] (fun U => U.heap.size = sz ∧ va_P (dC, dI) vwCl (wd_f4cd022e h0 v0 h1 v1 v2 (-1) v3 r0 r1 r2 r3 r4 r5 r6 v4 v5 r7 r8 r9 r10 v6 r11 r12 v7 v8 r13 r14 v9 v10 r15 v11 v12 r16 v13 w14 r17 v15 v16 r18 r19 r20 r21 r22 r23 v17 r24 r25 r26 v18 h1 g0 f19) U.heap ∧ va_K (dC, dI) vwCl [(g0, .int)] U ∧ va_D (fun _ => True) (wd_f4cd022e h0 v0 h1 v1 v2 (-1) v3 r0 r1 r2 r3 r4 r5 r6 v4 v5 r7 r8 r9 r10 v6 r11 r12 v7 v8 r13 r14 v9 v10 r15 v11 v12 r16 v13 w14 r17 v15 v16 r18 r19 r20 r21 r22 r23 v17 r24 r25 r26 v18 h1 g0 f19))) (va_Qi (fun (r : Int32) (r9 : Int32) => r9 = r) (fun (r : Int32) (t : State) => (∃ (o_h0_3 : Int32), 0 ≤ o_h0_3.toInt ∧ o_h0_3.toInt ≤ 240 ∧ (-1 ≤ r.toInt) ∧ (r.toInt ≤ -1) ∧ va_P (dC, dI) vwCl (wd_f4cd022e h0 v0 h1 v1 o_h0_3 (-1) v3 r0 r1 r2 r3 r4 r5 r6 v4 v5 r7 r8 r9 r10 v6 r11 r12 v7 v8 r13 r14 v9 v10 r15 v11 v12 r16 v13 w14 r17 v15 v16 r18 r19 r20 r21 r22 r23 v17 r24 r25 r26 v18 h1 g0 f19) t.heap ∧ va_K (dC, dI) vwCl [] t ∧ va_D (va_A (wd_f4cd022e h0 v0 h1 v1 v2 (-1) v3 r0 r1 r2 r3 r4 r5 r6 v4 v5 r7 r8 r9 r10 v6 r11 r12 v7 v8 r13 r14 v9 v10 r15 v11 v12 r16 v13 w14 r17 v15 v16 r18 r19 r20 r21 r22 r23 v17 r24 r25 r26 v18 h1 g0 f19) sz) (wd_f4cd022e h0 v0 h1 v1 o_h0_3 (-1) v3 r0 r1 r2 r3 r4 r5 r6 v4 v5 r7 r8 r9 r10 v6 r11 r12 v7 v8 r13 r14 v9 v10 r15 v11 v12 r16 v13 w14 r17 v15 v16 r18 r19 r20 r21 r22 r23 v17 r24 r25 r26 v18 h1 g0 f19)) ∨ (∃ (o_h0_3 : Int32) (o_h0_4 : Int32), 0 ≤ o_h0_3.toInt ∧ o_h0_3.toInt ≤ 239 ∧ 0 ≤ o_h0_4.toInt ∧ o_h0_4.toInt ≤ 240 ∧ (0 ≤ r.toInt) ∧ (r.toInt ≤ 240) ∧ va_P (dC, dI) vwCl (wd_f4cd022e h0 v0 h1 v1 o_h0_3 o_h0_4 v3 r0 r1 r2 r3 r4 r5 r6 v4 v5 r7 r8 r9 r10 v6 r11 r12 v7 v8 r13 r14 v9 v10 r15 v11 v12 r16 v13 w14 r17 v15 v16 r18 r19 r20 r21 r22 r23 v17 r24 r25 r26 v18 h1 g0 f19) t.heap ∧ va_K (dC, dI) vwCl [] t ∧ va_D (va_A (wd_f4cd022e h0 v0 h1 v1 v2 (-1) v3 r0 r1 r2 r3 r4 r5 r6 v4 v5 r7 r8 r9 r10 v6 r11 r12 v7 v8 r13 r14 v9 v10 r15 v11 v12 r16 v13 w14 r17 v15 v16 r18 r19 r20 r21 r22 r23 v17 r24 r25 r26 v18 h1 g0 f19) sz) (wd_f4cd022e h0 v0 h1 v1 o_h0_3 o_h0_4 v3 r0 r1 r2 r3 r4 r5 r6 v4 v5 r7 r8 r9 r10 v6 r11 r12 v7 v8 r13 r14 v9 v10 r15 v11 v12 r16 v13 w14 r17 v15 v16 r18 r19 r20 r21 r22 r23 v17 r24 r25 r26 v18 h1 g0 f19))) (va_A (wd_f4cd022e h0 v0 h1 v1 v2 (-1) v3 r0 r1 r2 r3 r4 r5 r6 v4 v5 r7 r8 r9 r10 v6 r11 r12 v7 v8 r13 r14 v9 v10 r15 v11 v12 r16 v13 w14 r17 v15 v16 r18 r19 r20 r21 r22 r23 v17 r24 r25 r26 v18 h1 g0 f19) sz)) 0 0 (va_A (wd_f4cd022e h0 v0 h1 v1 v2 (-1) v3 r0 r1 r2 r3 r4 r5 r6 v4 v5 r7 r8 r9 r10 v6 r11 r12 v7 v8 r13 r14 v9 v10 r15 v11 v12 r16 v13 w14 r17 v15 v16 r18 r19 r20 r21 r22 r23 v17 r24 r25 r26 v18 h1 g0 f19) sz) := by
  refine Met.ofW (cc := cX12_atEnd) (maxL := 1) (ret := (some .int)) (by decide) rfl ?_
  intro p e s m args below meth c s₁ B hml hv
  obtain ⟨i_v1a, i_v1b⟩ := i_v1
  obtain ⟨i_v2a, i_v2b⟩ := i_v2
  obtain ⟨i_v4a, i_v4b⟩ := i_v4
  obtain ⟨i_v5a, i_v5b⟩ := i_v5
  obtain ⟨i_v6a, i_v6b⟩ := i_v6
  obtain ⟨i_v7a, i_v7b⟩ := i_v7
  obtain ⟨i_v8a, i_v8b⟩ := i_v8
  obtain ⟨i_v9a, i_v9b⟩ := i_v9
  obtain ⟨i_v13a, i_v13b⟩ := i_v13
  obtain ⟨i_v17a, i_v17b⟩ := i_v17
  obtain ⟨i_v18a, i_v18b⟩ := i_v18
  obtain ⟨rfl, hsz, hP, hK, hD0⟩ := hv
  have hx := B.exec
  have hb := B.bytes
  have hr := B.returns
  have hts := atoms_spec (ws := q_X12_atEnd) B.pre
  have hown : s.vm.findClass RX12 = some m.cls := findClass_of_methodNamed B.named
  have hlocks := B.notSynchronized
  subst hsz
  have hD := hD0.self (sz := s.heap.size)
  generalize hAe : va_A (wd_f4cd022e h0 v0 h1 v1 v2 (-1) v3 r0 r1 r2 r3 r4 r5 r6 v4 v5 r7 r8 r9 r10 v6 r11 r12 v7 v8 r13 r14 v9 v10 r15 v11 v12 r16 v13 w14 r17 v15 v16 r18 r19 r20 r21 r22 r23 v17 r24 r25 r26 v18 h1 g0 f19) s.heap.size = A at hD ⊢
  have hA : ∀ q : Nat, s.heap.size ≤ q → A q := fun q h => by rw [← hAe]; exact Or.inr h
  have hS : va_S A s.heap s.heap [] := va_S.rf
  generalize hQ : (MQ below _ _ s 0 0 A) = Q
  have hl := lv_entry ([.ref h0]) (n := 1) (Nat.le_of_ble_eq_true rfl)
  rw [lg_entry_eq]
  generalize (lg_sl ([.ref h0]) ++ List.replicate (1 - (lg_sl ([.ref h0])).length) Slot.unset).toArray = ls at hl ⊢
  have hl : lv_has ls 1 [(0, .ref h0)] := hl
  obtain ⟨H, hH⟩ : ∃ H : Heap, H = s.heap := ⟨_, rfl⟩
  obtain ⟨locs, hlocs⟩ : ∃ y : List Loc, y = [] := ⟨_, rfl⟩
  have hS : va_S A s.heap H locs := by rw [hH, hlocs]; exact va_S.rf
  have hP : va_P (dC, dI) vwCl (wd_f4cd022e h0 v0 h1 v1 v2 (-1) v3 r0 r1 r2 r3 r4 r5 r6 v4 v5 r7 r8 r9 r10 v6 r11 r12 v7 v8 r13 r14 v9 v10 r15 v11 v12 r16 v13 w14 r17 v15 v16 r18 r19 r20 r21 r22 r23 v17 r24 r25 r26 v18 h1 g0 f19) H := by rw [hH]; exact hP
  rw [← hH, ← hlocs]
  refine lv_aload_n hx hb dX12_atEnd_0 rfl (lv_at hl 0 rfl) ?_
  refine va_get (D := (dC, dI)) (ci := 12) (v := .int (-1)) (C := RX12) (T := TX12) (N := 48) hx hb hts (fun _ h => List.mem_cons_of_mem _ (List.mem_append_right _ h)) hown hK hP 0 rfl rfl 4 (by decide) (hts (.fieldLink RX12 119 "LeftArgumentsModel" "wrong" "I") (List.mem_cons_of_mem _ (List.mem_append_left _ (List.mem_of_getElem? (i := 0) rfl)))) (fun _ h9 => h9) rfl dX12_atEnd_1 ?_
  refine lv_iconst (v := (-1)) hx hb dX12_atEnd_4 (by decide) ?_
  refine lv_icmp_ne (tgt := 20) hx hb dX12_atEnd_5 (by decide) (fun c => absurd (by decide) c) (fun _ => ?_)
  refine lv_aload_n hx hb dX12_atEnd_8 rfl (lv_at hl 0 rfl) ?_
  have hPc := hP.sub (ws' := (wd_f4cd022e h0 v0 h1 v1 v2 (-1) v3 r0 r1 r2 r3 r4 r5 r6 v4 v5 r7 r8 r9 r10 v6 r11 r12 v7 v8 r13 r14 v9 v10 r15 v11 v12 r16 v13 w14 r17 v15 v16 r18 r19 r20 r21 r22 r23 v17 r24 r25 r26 v18 h1 g0 f19)) [0, 1] rfl
  have hDc := hD.sub (ws' := (wd_f4cd022e h0 v0 h1 v1 v2 (-1) v3 r0 r1 r2 r3 r4 r5 r6 v4 v5 r7 r8 r9 r10 v6 r11 r12 v7 v8 r13 r14 v9 v10 r15 v11 v12 r16 v13 w14 r17 v15 v16 r18 r19 r20 r21 r22 r23 v17 r24 r25 r26 v18 h1 g0 f19)) [0, 1] (by decide) rfl
  have hKc := hK.sub (tys' := [(g0, .int)]) [0] rfl
  have hFc := va_free (wc := (wd_f4cd022e h0 v0 h1 v1 v2 (-1) v3 r0 r1 r2 r3 r4 r5 r6 v4 v5 r7 r8 r9 r10 v6 r11 r12 v7 v8 r13 r14 v9 v10 r15 v11 v12 r16 v13 w14 r17 v15 v16 r18 r19 r20 r21 r22 r23 v17 r24 r25 r26 v18 h1 g0 f19)) hD hS hA [0, 1] rfl
  refine va_calli (va_runV (As := []) (rest := []) ⟨hx, hb, hml, hown, hts⟩ (k_X12_look l dC dI h0 h1 v0 v1 v2 ((-1)) v3 r0 r1 r2 r3 r4 r5 r6 v4 v5 r7 r8 r9 r10 v6 r11 r12 v7 v8 r13 r14 v9 v10 r15 v11 v12 r16 v13 w14 r17 v15 v16 r18 r19 r20 r21 r22 r23 v17 r24 r25 r26 v18 g0 f19 ⟨by first | omega | decide, by first | omega | decide⟩ ⟨by first | omega | decide, by first | omega | decide⟩ ⟨by first | omega | decide, by first | omega | decide⟩ ⟨by first | omega | decide, by first | omega | decide⟩ ⟨by first | omega | decide, by first | omega | decide⟩ ⟨by first | omega | decide, by first | omega | decide⟩ ⟨by first | omega | decide, by first | omega | decide⟩ ⟨by first | omega | decide, by first | omega | decide⟩ ⟨by first | omega | decide, by first | omega | decide⟩ ⟨by first | omega | decide, by first | omega | decide⟩ ⟨by first | omega | decide, by first | omega | decide⟩ ia_f19 H.size) (cwV 0 hts g_X12_atEnd_0 rfl rfl rfl (by decide +kernel) ⟨Nat.le_of_ble_eq_true rfl, Nat.le_of_ble_eq_true rfl⟩) ⟨fun a U g mk q => by obtain ⟨q0, q1, qP, qK, qD⟩ := q; exact ⟨q0, q1, qP, va_K.moved (u := U) (U := U.calling g mk a) (Vm.Alike.refl U.vm) qK, qD⟩, va_recv hKc hPc (ci := 12) (q0 := 0) rfl rfl, fun U hU hW => ⟨rfl, by rw [hU], by rw [hU]; exact hPc, va_K.moved hW.alike hKc, hDc.weaken (fun _ _ _ _ => trivial)⟩⟩ rfl rfl hl.1 rfl (lv_room (Nat.le_of_ble_eq_true rfl)) dX12_atEnd_9 ⟨Nat.le_of_ble_eq_true rfl, Nat.le_of_ble_eq_true rfl⟩) hS (fun q _ h => hFc q h) hFc (fun ra1 u t H1 locs ht hvm hwra1 hB hz1 hk1 hS => ?_)
  try rw [hwra1] at hB
  have hkra1_0 : (((-1) : Int32)).toInt = -1 := by decide
  rcases hB with hB | hB
  · skip
    obtain ⟨x2, oa_x2, ob_x2, pt0_ra1, pt1_ra1, pt2_ra1, pt3_ra1, hP1, hK1, hD1⟩ := hB
    rw [ht] at hP1
    obtain ⟨hP, hD⟩ := va_join (wr := []) (w1 := (wd_f4cd022e h0 v0 h1 v1 x2 (-1) v3 r0 r1 r2 r3 r4 r5 r6 v4 v5 r7 r8 r9 r10 v6 r11 r12 v7 v8 r13 r14 v9 v10 r15 v11 v12 r16 v13 w14 r17 v15 v16 r18 r19 r20 r21 r22 r23 v17 r24 r25 r26 v18 h1 g0 f19)) hP hD [0, 1] [] rfl rfl (by decide) (by decide) hk1 hFc hP1 hD1
    generalize H1 = H at hP hS ⊢
    have hP : va_P (dC, dI) vwCl (wd_f4cd022e h0 v0 h1 v1 x2 (-1) v3 r0 r1 r2 r3 r4 r5 r6 v4 v5 r7 r8 r9 r10 v6 r11 r12 v7 v8 r13 r14 v9 v10 r15 v11 v12 r16 v13 w14 r17 v15 v16 r18 r19 r20 r21 r22 r23 v17 r24 r25 r26 v18 h1 g0 f19) H := hP
    have hD : va_D A (wd_f4cd022e h0 v0 h1 v1 x2 (-1) v3 r0 r1 r2 r3 r4 r5 r6 v4 v5 r7 r8 r9 r10 v6 r11 r12 v7 v8 r13 r14 v9 v10 r15 v11 v12 r16 v13 w14 r17 v15 v16 r18 r19 r20 r21 r22 r23 v17 r24 r25 r26 v18 h1 g0 f19) := hD
    obtain rfl : ra1 = ((-1) : Int32) := Int32.toInt_inj.mp (by rw [show (((-1) : Int32)).toInt = -1 by decide]; omega)
    refine lv_iconst (v := (-1)) hx hb dX12_atEnd_12 (by decide) ?_
    refine lv_icmp_eq (tgt := 20) hx hb dX12_atEnd_13 (by decide) (fun _ => ?_) (fun c => absurd (by decide) c)
    refine lv_aload_n hx hb dX12_atEnd_20 rfl (lv_at hl 0 rfl) ?_
    refine va_get (D := (dC, dI)) (ci := 12) (v := .int (-1)) (C := RX12) (T := TX12) (N := 48) hx hb hts (fun _ h => List.mem_cons_of_mem _ (List.mem_append_right _ h)) hown hK hP 0 rfl rfl 4 (by decide) (hts (.fieldLink RX12 119 "LeftArgumentsModel" "wrong" "I") (List.mem_cons_of_mem _ (List.mem_append_left _ (List.mem_of_getElem? (i := 0) rfl)))) (fun _ h9 => h9) rfl dX12_atEnd_21 ?_
    subst hQ
    have hP9 := hP.sub (ws' := (wd_f4cd022e h0 v0 h1 v1 x2 (-1) v3 r0 r1 r2 r3 r4 r5 r6 v4 v5 r7 r8 r9 r10 v6 r11 r12 v7 v8 r13 r14 v9 v10 r15 v11 v12 r16 v13 w14 r17 v15 v16 r18 r19 r20 r21 r22 r23 v17 r24 r25 r26 v18 h1 g0 f19)) [0, 1] rfl
    have hD9 := hD.sub (ws' := (wd_f4cd022e h0 v0 h1 v1 x2 (-1) v3 r0 r1 r2 r3 r4 r5 r6 v4 v5 r7 r8 r9 r10 v6 r11 r12 v7 v8 r13 r14 v9 v10 r15 v11 v12 r16 v13 w14 r17 v15 v16 r18 r19 r20 r21 r22 r23 v17 r24 r25 r26 v18 h1 g0 f19)) [0, 1] (by decide) rfl
    have hK9 := hK.sub (tys' := []) [] rfl
    exact W.iret (v := (-1)) hx hb hr (fun t ht hW => ⟨⟨(-1), (-1), rfl, rfl, Or.inl ⟨x2, by first | omega | decide, by first | omega | decide, by first | omega | decide, by first | omega | decide, by rw [ht]; exact hP9, va_K.moved hW.alike hK9, hD9⟩⟩, hS.F ht⟩) hS.2.2 dX12_atEnd_24
  · skip
    obtain ⟨x3, oa_x3, ob_x3, pt0_ra1, pt1_ra1, pt2_ra1, pt3_ra1, pt4_ra1, hP1, hK1, hD1⟩ := hB
    rw [ht] at hP1
    obtain ⟨hP, hD⟩ := va_join (wr := []) (w1 := (wd_f4cd022e h0 v0 h1 v1 x3 (-1) v3 r0 r1 r2 r3 r4 r5 r6 v4 v5 r7 r8 r9 r10 v6 r11 r12 v7 v8 r13 r14 v9 v10 r15 v11 v12 r16 v13 w14 r17 v15 v16 r18 r19 r20 r21 r22 r23 v17 r24 r25 r26 v18 h1 g0 f19)) hP hD [0, 1] [] rfl rfl (by decide) (by decide) hk1 hFc hP1 hD1
    generalize H1 = H at hP hS ⊢
    have hP : va_P (dC, dI) vwCl (wd_f4cd022e h0 v0 h1 v1 x3 (-1) v3 r0 r1 r2 r3 r4 r5 r6 v4 v5 r7 r8 r9 r10 v6 r11 r12 v7 v8 r13 r14 v9 v10 r15 v11 v12 r16 v13 w14 r17 v15 v16 r18 r19 r20 r21 r22 r23 v17 r24 r25 r26 v18 h1 g0 f19) H := hP
    have hD : va_D A (wd_f4cd022e h0 v0 h1 v1 x3 (-1) v3 r0 r1 r2 r3 r4 r5 r6 v4 v5 r7 r8 r9 r10 v6 r11 r12 v7 v8 r13 r14 v9 v10 r15 v11 v12 r16 v13 w14 r17 v15 v16 r18 r19 r20 r21 r22 r23 v17 r24 r25 r26 v18 h1 g0 f19) := hD
    refine lv_iconst (v := (-1)) hx hb dX12_atEnd_12 (by decide) ?_
    refine lv_icmp_eq (tgt := 20) hx hb dX12_atEnd_13 (by decide) (fun c4 => by exfalso; have fc4 : ra1.toInt = (-1) := congrArg Int32.toInt c4; omega) (fun _ => ?_)
    refine lv_aload_n hx hb dX12_atEnd_16 rfl (lv_at hl 0 rfl) ?_
    have hPc := hP.sub (ws' := (wd_171f232f h0 v0 h1 v1 x3 (-1) v3 r0 r1 r2 r3 r4 r5 r6 v4 v5 r7 r8 r9 r10 v6 r11 r12 v7 v8 r13 r14 v9 v10 r15 v11 v12 r16 v13 w14 r17 v15 v16 r18 r19 r20 r21 r22 r23 v17 r24 r25 r26 v18)) [0] rfl
    have hDc := hD.sub (ws' := (wd_171f232f h0 v0 h1 v1 x3 (-1) v3 r0 r1 r2 r3 r4 r5 r6 v4 v5 r7 r8 r9 r10 v6 r11 r12 v7 v8 r13 r14 v9 v10 r15 v11 v12 r16 v13 w14 r17 v15 v16 r18 r19 r20 r21 r22 r23 v17 r24 r25 r26 v18)) [0] (by decide) rfl
    have hKc := hK.sub (tys' := []) [] rfl
    have hFc := va_free (wc := (wd_171f232f h0 v0 h1 v1 x3 (-1) v3 r0 r1 r2 r3 r4 r5 r6 v4 v5 r7 r8 r9 r10 v6 r11 r12 v7 v8 r13 r14 v9 v10 r15 v11 v12 r16 v13 w14 r17 v15 v16 r18 r19 r20 r21 r22 r23 v17 r24 r25 r26 v18)) hD hS hA [0] rfl
    refine va_callv (va_runV (As := []) (rest := []) ⟨hx, hb, hml, hown, hts⟩ (k_X12_bad l dC dI h0 v0 h1 v1 x3 v3 r0 r1 r2 r3 r4 r5 r6 v4 v5 r7 r8 r9 r10 v6 r11 r12 v7 v8 r13 r14 v9 v10 r15 v11 v12 r16 v13 w14 r17 v15 v16 r18 r19 r20 r21 r22 r23 v17 r24 r25 r26 v18 ⟨by first | omega | decide, by first | omega | decide⟩ ⟨by first | omega | decide, by first | omega | decide⟩ ⟨by first | omega | decide, by first | omega | decide⟩ ⟨by first | omega | decide, by first | omega | decide⟩ ⟨by first | omega | decide, by first | omega | decide⟩ ⟨by first | omega | decide, by first | omega | decide⟩ ⟨by first | omega | decide, by first | omega | decide⟩ ⟨by first | omega | decide, by first | omega | decide⟩ ⟨by first | omega | decide, by first | omega | decide⟩ ⟨by first | omega | decide, by first | omega | decide⟩ ⟨by first | omega | decide, by first | omega | decide⟩ H.size) (cwV 0 hts g_X12_atEnd_1 rfl rfl rfl (by decide +kernel) ⟨Nat.le_of_ble_eq_true rfl, Nat.le_of_ble_eq_true rfl⟩) ⟨fun a U g mk q => by obtain ⟨q0, q1, qP, qK, qD⟩ := q; exact ⟨q0, q1, qP, va_K.moved (u := U) (U := U.calling g mk a) (Vm.Alike.refl U.vm) qK, qD⟩, va_recv hKc hPc (ci := 12) (q0 := 0) rfl rfl, fun U hU hW => ⟨rfl, by rw [hU], by rw [hU]; exact hPc, va_K.moved hW.alike hKc, hDc.weaken (fun _ _ _ _ => trivial)⟩⟩ rfl rfl hl.1 rfl (lv_room (Nat.le_of_ble_eq_true rfl)) dX12_atEnd_17 ⟨Nat.le_of_ble_eq_true rfl, Nat.le_of_ble_eq_true rfl⟩) hS (fun q _ h => hFc q h) hFc (fun u t H1 locs ht hvm hwra5 hB hz1 hk1 hS => ?_)
    obtain ⟨x6, oa_x6, ob_x6, hP1, hK1, hD1⟩ := hB
    rw [ht] at hP1
    obtain ⟨hP, hD⟩ := va_join (wr := (wd_d0032b31 h1 g0 f19)) (w1 := (wd_171f232f h0 v0 h1 v1 x3 x6 v3 r0 r1 r2 r3 r4 r5 r6 v4 v5 r7 r8 r9 r10 v6 r11 r12 v7 v8 r13 r14 v9 v10 r15 v11 v12 r16 v13 w14 r17 v15 v16 r18 r19 r20 r21 r22 r23 v17 r24 r25 r26 v18)) hP hD [0] [1] rfl rfl (by decide) (by decide) hk1 hFc hP1 hD1
    generalize H1 = H at hP hS ⊢
    have hP := hP.sub (ws' := (wd_f4cd022e h0 v0 h1 v1 x3 x6 v3 r0 r1 r2 r3 r4 r5 r6 v4 v5 r7 r8 r9 r10 v6 r11 r12 v7 v8 r13 r14 v9 v10 r15 v11 v12 r16 v13 w14 r17 v15 v16 r18 r19 r20 r21 r22 r23 v17 r24 r25 r26 v18 h1 g0 f19)) [1, 0] rfl
    have hD := hD.sub (ws' := (wd_f4cd022e h0 v0 h1 v1 x3 x6 v3 r0 r1 r2 r3 r4 r5 r6 v4 v5 r7 r8 r9 r10 v6 r11 r12 v7 v8 r13 r14 v9 v10 r15 v11 v12 r16 v13 w14 r17 v15 v16 r18 r19 r20 r21 r22 r23 v17 r24 r25 r26 v18 h1 g0 f19)) [1, 0] (by decide) rfl
    have hP : va_P (dC, dI) vwCl (wd_f4cd022e h0 v0 h1 v1 x3 x6 v3 r0 r1 r2 r3 r4 r5 r6 v4 v5 r7 r8 r9 r10 v6 r11 r12 v7 v8 r13 r14 v9 v10 r15 v11 v12 r16 v13 w14 r17 v15 v16 r18 r19 r20 r21 r22 r23 v17 r24 r25 r26 v18 h1 g0 f19) H := hP
    have hD : va_D A (wd_f4cd022e h0 v0 h1 v1 x3 x6 v3 r0 r1 r2 r3 r4 r5 r6 v4 v5 r7 r8 r9 r10 v6 r11 r12 v7 v8 r13 r14 v9 v10 r15 v11 v12 r16 v13 w14 r17 v15 v16 r18 r19 r20 r21 r22 r23 v17 r24 r25 r26 v18 h1 g0 f19) := hD
    refine lv_aload_n hx hb dX12_atEnd_20 rfl (lv_at hl 0 rfl) ?_
    refine va_get (D := (dC, dI)) (ci := 12) (v := .int x6) (C := RX12) (T := TX12) (N := 48) hx hb hts (fun _ h => List.mem_cons_of_mem _ (List.mem_append_right _ h)) hown hK hP 0 rfl rfl 4 (by decide) (hts (.fieldLink RX12 119 "LeftArgumentsModel" "wrong" "I") (List.mem_cons_of_mem _ (List.mem_append_left _ (List.mem_of_getElem? (i := 0) rfl)))) (fun _ h9 => h9) rfl dX12_atEnd_21 ?_
    subst hQ
    have hP9 := hP.sub (ws' := (wd_f4cd022e h0 v0 h1 v1 x3 x6 v3 r0 r1 r2 r3 r4 r5 r6 v4 v5 r7 r8 r9 r10 v6 r11 r12 v7 v8 r13 r14 v9 v10 r15 v11 v12 r16 v13 w14 r17 v15 v16 r18 r19 r20 r21 r22 r23 v17 r24 r25 r26 v18 h1 g0 f19)) [0, 1] rfl
    have hD9 := hD.sub (ws' := (wd_f4cd022e h0 v0 h1 v1 x3 x6 v3 r0 r1 r2 r3 r4 r5 r6 v4 v5 r7 r8 r9 r10 v6 r11 r12 v7 v8 r13 r14 v9 v10 r15 v11 v12 r16 v13 w14 r17 v15 v16 r18 r19 r20 r21 r22 r23 v17 r24 r25 r26 v18 h1 g0 f19)) [0, 1] (by decide) rfl
    have hK9 := hK.sub (tys' := []) [] rfl
    exact W.iret (v := x6) hx hb hr (fun t ht hW => ⟨⟨x6, x6, rfl, rfl, Or.inr (⟨x3, x6, by first | omega | decide, by first | omega | decide, by first | omega | decide, by first | omega | decide, by first | omega | decide, by first | omega | decide, by rw [ht]; exact hP9, va_K.moved hW.alike hK9, hD9⟩)⟩, hS.F ht⟩) hS.2.2 dX12_atEnd_24
def q_X12_atEnd_1 : List Cond := .code yX12_atEnd cX12_atEnd 1 (some .int) :: (([.fieldLink RX12 119 "LeftArgumentsModel" "wrong" "I"] : List Cond) ++ wsX120)
set_option maxHeartbeats 4000000 in
set_option maxRecDepth 100000 in
theorem k_X12_atEnd_1 (l : Launch) (dC : Nat → ClassId) (dI : Nat → Nat → Nat) (h0 : Nat) (v0 : Int32) (r0 : Nat) (v1 : Int32) (v2 : Int32) (v3 : Int32) (v4 : Int32) (r1 : Nat) (r2 : Nat) (r3 : Nat) (r4 : Nat) (r5 : Nat) (r6 : Nat) (r7 : Nat) (v5 : Int32) (v6 : Int32) (r8 : Nat) (r9 : Nat) (r10 : Nat) (r11 : Nat) (v7 : Int32) (r12 : Nat) (r13 : Nat) (v8 : Int32) (v9 : Int32) (r14 : Nat) (r15 : Nat) (v10 : Int32) (v11 : Int32) (r16 : Nat) (v12 : Int32) (v13 : Int32) (r17 : Nat) (v14 : Int32) (w15 : Int64) (r18 : Nat) (v16 : Int32) (v17 : Int32) (r19 : Nat) (r20 : Nat) (r21 : Nat) (r22 : Nat) (r23 : Nat) (r24 : Nat) (v18 : Int32) (r25 : Nat) (r26 : Nat) (r27 : Nat) (v19 : Int32) (i_v1 : 0 ≤ v1.toInt ∧ v1.toInt ≤ 240) (i_v3 : 0 ≤ v3.toInt ∧ v3.toInt ≤ 300) (i_v5 : 0 ≤ v5.toInt ∧ v5.toInt ≤ 4) (i_v6 : 0 ≤ v6.toInt ∧ v6.toInt ≤ 4) (i_v7 : 0 ≤ v7.toInt ∧ v7.toInt ≤ 8) (i_v8 : 0 ≤ v8.toInt ∧ v8.toInt ≤ 8) (i_v9 : 0 ≤ v9.toInt ∧ v9.toInt ≤ 1) (i_v10 : -1 ≤ v10.toInt ∧ v10.toInt ≤ 3) (i_v14 : 0 ≤ v14.toInt ∧ v14.toInt ≤ 40) (i_v18 : 0 ≤ v18.toInt ∧ v18.toInt ≤ 10) (i_v19 : 0 ≤ v19.toInt ∧ v19.toInt ≤ 1) (sz : Nat) : Met l yX12_atEnd q_X12_atEnd_1 ({ frames := 0, cells := 0, slots := 0, locals := 0 }) (va_Pc [.ref h0] (fun U => U.heap.size = sz ∧ va_P (dC, dI) vwCl (wd_171f232f h0 v0 r0 v1 v2 v3 v4 r1 r2 r3 r4 r5 r6 r7 v5 v6 r8 r9 r10 r11 v7 r12 r13 v8 v9 r14 r15 v10 v11 r16 v12 v13 r17 v14 w15 r18 v16 v17 r19 r20 r21 r22 r23 r24 v18 r25 r26 r27 v19) U.heap ∧ va_K (dC, dI) vwCl [] U ∧ va_D (fun _ => True) (wd_171f232f h0 v0 r0 v1 v2 v3 v4 r1 r2 r3 r4 r5 r6 r7 v5 v6 r8 r9 r10 r11 v7 r12 r13 v8 v9 r14 r15 v10 v11 r16 v12 v13 r17 v14 w15 r18 v16 v17 r19 r20 r21 r22 r23 r24 v18 r25 r26 r27 v19))) (va_Qi (fun (r : Int32) (r9 : Int32) => r9 = r) (fun (r : Int32) (t : State) => ((0 ≤ r.toInt) ∧ (r.toInt ≤ 300) ∧ va_P (dC, dI) vwCl (wd_171f232f h0 v0 r0 v1 v2 v3 v4 r1 r2 r3 r4 r5 r6 r7 v5 v6 r8 r9 r10 r11 v7 r12 r13 v8 v9 r14 r15 v10 v11 r16 v12 v13 r17 v14 w15 r18 v16 v17 r19 r20 r21 r22 r23 r24 v18 r25 r26 r27 v19) t.heap ∧ va_K (dC, dI) vwCl [] t ∧ va_D (va_A (wd_171f232f h0 v0 r0 v1 v2 v3 v4 r1 r2 r3 r4 r5 r6 r7 v5 v6 r8 r9 r10 r11 v7 r12 r13 v8 v9 r14 r15 v10 v11 r16 v12 v13 r17 v14 w15 r18 v16 v17 r19 r20 r21 r22 r23 r24 v18 r25 r26 r27 v19) sz) (wd_171f232f h0 v0 r0 v1 v2 v3 v4 r1 r2 r3 r4 r5 r6 r7 v5 v6 r8 r9 r10 r11 v7 r12 r13 v8 v9 r14 r15 v10 v11 r16 v12 v13 r17 v14 w15 r18 v16 v17 r19 r20 r21 r22 r23 r24 v18 r25 r26 r27 v19))) (va_A (wd_171f232f h0 v0 r0 v1 v2 v3 v4 r1 r2 r3 r4 r5 r6 r7 v5 v6 r8 r9 r10 r11 v7 r12 r13 v8 v9 r14 r15 v10 v11 r16 v12 v13 r17 v14 w15 r18 v16 v17 r19 r20 r21 r22 r23 r24 v18 r25 r26 r27 v19) sz)) 0 0 (va_A (wd_171f232f h0 v0 r0 v1 v2 v3 v4 r1 r2 r3 r4 r5 r6 r7 v5 v6 r8 r9 r10 r11 v7 r12 r13 v8 v9 r14 r15 v10 v11 r16 v12 v13 r17 v14 w15 r18 v16 v17 r19 r20 r21 r22 r23 r24 v18 r25 r26 r27 v19) sz) := by
  refine Met.ofW (cc := cX12_atEnd) (maxL := 1) (ret := (some .int)) (by decide) rfl ?_
  intro p e s m args below meth c s₁ B hml hv
  obtain ⟨i_v1a, i_v1b⟩ := i_v1
  obtain ⟨i_v3a, i_v3b⟩ := i_v3
  obtain ⟨i_v5a, i_v5b⟩ := i_v5
  obtain ⟨i_v6a, i_v6b⟩ := i_v6
  obtain ⟨i_v7a, i_v7b⟩ := i_v7
  obtain ⟨i_v8a, i_v8b⟩ := i_v8
  obtain ⟨i_v9a, i_v9b⟩ := i_v9
  obtain ⟨i_v10a, i_v10b⟩ := i_v10
  obtain ⟨i_v14a, i_v14b⟩ := i_v14
  obtain ⟨i_v18a, i_v18b⟩ := i_v18
  obtain ⟨i_v19a, i_v19b⟩ := i_v19
  obtain ⟨rfl, hsz, hP, hK, hD0⟩ := hv
  have hx := B.exec
  have hb := B.bytes
  have hr := B.returns
  have hts := atoms_spec (ws := q_X12_atEnd_1) B.pre
  have hown : s.vm.findClass RX12 = some m.cls := findClass_of_methodNamed B.named
  have hlocks := B.notSynchronized
  subst hsz
  have hD := hD0.self (sz := s.heap.size)
  generalize hAe : va_A (wd_171f232f h0 v0 r0 v1 v2 v3 v4 r1 r2 r3 r4 r5 r6 r7 v5 v6 r8 r9 r10 r11 v7 r12 r13 v8 v9 r14 r15 v10 v11 r16 v12 v13 r17 v14 w15 r18 v16 v17 r19 r20 r21 r22 r23 r24 v18 r25 r26 r27 v19) s.heap.size = A at hD ⊢
  have hA : ∀ q : Nat, s.heap.size ≤ q → A q := fun q h => by rw [← hAe]; exact Or.inr h
  have hS : va_S A s.heap s.heap [] := va_S.rf
  generalize hQ : (MQ below _ _ s 0 0 A) = Q
  have hl := lv_entry ([.ref h0]) (n := 1) (Nat.le_of_ble_eq_true rfl)
  rw [lg_entry_eq]
  generalize (lg_sl ([.ref h0]) ++ List.replicate (1 - (lg_sl ([.ref h0])).length) Slot.unset).toArray = ls at hl ⊢
  have hl : lv_has ls 1 [(0, .ref h0)] := hl
  obtain ⟨H, hH⟩ : ∃ H : Heap, H = s.heap := ⟨_, rfl⟩
  obtain ⟨locs, hlocs⟩ : ∃ y : List Loc, y = [] := ⟨_, rfl⟩
  have hS : va_S A s.heap H locs := by rw [hH, hlocs]; exact va_S.rf
  have hP : va_P (dC, dI) vwCl (wd_171f232f h0 v0 r0 v1 v2 v3 v4 r1 r2 r3 r4 r5 r6 r7 v5 v6 r8 r9 r10 r11 v7 r12 r13 v8 v9 r14 r15 v10 v11 r16 v12 v13 r17 v14 w15 r18 v16 v17 r19 r20 r21 r22 r23 r24 v18 r25 r26 r27 v19) H := by rw [hH]; exact hP
  rw [← hH, ← hlocs]
  refine lv_aload_n hx hb dX12_atEnd_0 rfl (lv_at hl 0 rfl) ?_
  refine va_get (D := (dC, dI)) (ci := 12) (v := .int v3) (C := RX12) (T := TX12) (N := 48) hx hb hts (fun _ h => List.mem_cons_of_mem _ (List.mem_append_right _ h)) hown hK hP 0 rfl rfl 4 (by decide) (hts (.fieldLink RX12 119 "LeftArgumentsModel" "wrong" "I") (List.mem_cons_of_mem _ (List.mem_append_left _ (List.mem_of_getElem? (i := 0) rfl)))) (fun _ h9 => h9) rfl dX12_atEnd_1 ?_
  refine lv_iconst (v := (-1)) hx hb dX12_atEnd_4 (by decide) ?_
  refine lv_icmp_ne (tgt := 20) hx hb dX12_atEnd_5 (by decide) (fun _ => ?_) (fun c1 => by exfalso; have fc1 : v3.toInt = (-1) := congrArg Int32.toInt c1; omega)
  refine lv_aload_n hx hb dX12_atEnd_20 rfl (lv_at hl 0 rfl) ?_
  refine va_get (D := (dC, dI)) (ci := 12) (v := .int v3) (C := RX12) (T := TX12) (N := 48) hx hb hts (fun _ h => List.mem_cons_of_mem _ (List.mem_append_right _ h)) hown hK hP 0 rfl rfl 4 (by decide) (hts (.fieldLink RX12 119 "LeftArgumentsModel" "wrong" "I") (List.mem_cons_of_mem _ (List.mem_append_left _ (List.mem_of_getElem? (i := 0) rfl)))) (fun _ h9 => h9) rfl dX12_atEnd_21 ?_
  subst hQ
  have hP9 := hP.sub (ws' := (wd_171f232f h0 v0 r0 v1 v2 v3 v4 r1 r2 r3 r4 r5 r6 r7 v5 v6 r8 r9 r10 r11 v7 r12 r13 v8 v9 r14 r15 v10 v11 r16 v12 v13 r17 v14 w15 r18 v16 v17 r19 r20 r21 r22 r23 r24 v18 r25 r26 r27 v19)) [0] rfl
  have hD9 := hD.sub (ws' := (wd_171f232f h0 v0 r0 v1 v2 v3 v4 r1 r2 r3 r4 r5 r6 r7 v5 v6 r8 r9 r10 r11 v7 r12 r13 v8 v9 r14 r15 v10 v11 r16 v12 v13 r17 v14 w15 r18 v16 v17 r19 r20 r21 r22 r23 r24 v18 r25 r26 r27 v19)) [0] (by decide) rfl
  have hK9 := hK.sub (tys' := []) [] rfl
  exact W.iret (v := v3) hx hb hr (fun t ht hW => ⟨⟨v3, v3, rfl, rfl, ⟨by first | omega | decide, by first | omega | decide, by rw [ht]; exact hP9, va_K.moved hW.alike hK9, hD9⟩⟩, hS.F ht⟩) hS.2.2 dX12_atEnd_24
def q_X12_readLaw : List Cond := .code yX12_readLaw cX12_readLaw 2 (some .int) :: (([.code yX12_open cX12_open 2 none, .fieldLink RX12 122 "LeftArgumentsModel" "text" "I", .fieldLink RX12 112 "LeftArgumentsModel" "at" "I", .fieldLink RX12 119 "LeftArgumentsModel" "wrong" "I", .fieldLink RX12 125 "LeftArgumentsModel" "deep" "I", .fieldLink RX12 19 "LeftArgumentsModel" "codes" "[I", .fieldLink RX12 22 "LeftArgumentsModel" "clauses" "[I", .initialized RX12, .instanceMethod yX12_open, .selects RX12 yX12_open yX12_open, .methodLink RX12 183 yX12_open, .code yX12_clause cX12_clause 3 none, .code yX12_look cX12_look 1 (some .int), .code yX12_here cX12_here 1 (some .int), .fieldLink RX12 109 "LeftArgumentsModel" "size" "I", .fieldLink RX12 9 "LeftArgumentsModel" "tape" "[I", .instanceMethod yX12_here, .selects RX12 yX12_here yX12_here, .methodLink RX12 115 yX12_here, .instanceMethod yX12_look, .selects RX12 yX12_look yX12_look, .methodLink RX12 131 yX12_look, .code yX12_bad cX12_bad 1 none, .instanceMethod yX12_bad, .selects RX12 yX12_bad yX12_bad, .methodLink RX12 128 yX12_bad, .fieldLink RX12 25 "LeftArgumentsModel" "testFrom" "[I", .fieldLink RX12 28 "LeftArgumentsModel" "sumFrom" "[I", .fieldLink RX12 31 "LeftArgumentsModel" "sumTo" "[I", .code yX12_sum cX12_sum 2 none, .code yX12_term cX12_term 2 none, .code yX12_atom cX12_atom 2 none, .code yX12_isDigit cX12_isDigit 1 (some .boolean), .static yX12_isDigit, .methodLink RX12 134 yX12_isDigit, .code yX12_letterOf cX12_letterOf 1 (some .int), .static yX12_letterOf, .methodLink RX12 145 yX12_letterOf, .code yX12_opens cX12_opens 1 none, .instanceMethod yX12_opens, .selects RX12 yX12_opens yX12_opens, .methodLink RX12 149 yX12_opens, .code yX12_put cX12_put 3 none, .fieldLink RX12 13 "LeftArgumentsModel" "code" "[I", .fieldLink RX12 16 "LeftArgumentsModel" "value" "[I", .instanceMethod yX12_put, .selects RX12 yX12_put yX12_put, .methodLink RX12 141 yX12_put, .code yX12_plainNumber cX12_plainNumber 3 (some .int), .instanceMethod yX12_plainNumber, .selects RX12 yX12_plainNumber yX12_plainNumber, .methodLink RX12 138 yX12_plainNumber, .instanceMethod yX12_atom, .selects RX12 yX12_atom yX12_atom, .methodLink RX12 159 yX12_atom, .instanceMethod yX12_term, .selects RX12 yX12_term yX12_term, .methodLink RX12 162 yX12_term, .instanceMethod yX12_sum, .selects RX12 yX12_sum yX12_sum, .methodLink RX12 152 yX12_sum, .code yX12_closes cX12_closes 2 none, .instanceMethod yX12_closes, .selects RX12 yX12_closes yX12_closes, .methodLink RX12 155 yX12_closes, .code yX12_isSign cX12_isSign 1 (some .boolean), .static yX12_isSign, .methodLink RX12 165 yX12_isSign, .code yX12_compare cX12_compare 2 none, .instanceMethod yX12_compare, .selects RX12 yX12_compare yX12_compare, .methodLink RX12 174 yX12_compare, .code yX12_goOnAnd cX12_goOnAnd 1 none, .code yX12_unit cX12_unit 2 none, .code yX12_condition cX12_condition 1 none, .instanceMethod yX12_unit, .selects RX12 yX12_unit yX12_unit, .methodLink RX12 168 yX12_unit, .instanceMethod yX12_goOnAnd, .selects RX12 yX12_goOnAnd yX12_goOnAnd, .methodLink RX12 177 yX12_goOnAnd, .code yX12_goOnOr cX12_goOnOr 1 none, .instanceMethod yX12_goOnOr, .selects RX12 yX12_goOnOr yX12_goOnOr, .methodLink RX12 180 yX12_goOnOr, .instanceMethod yX12_condition, .selects RX12 yX12_condition yX12_condition, .methodLink RX12 171 yX12_condition, .instanceMethod yX12_clause, .selects RX12 yX12_clause yX12_clause, .methodLink RX12 186 yX12_clause, .code yX12_atEnd cX12_atEnd 1 (some .int), .instanceMethod yX12_atEnd, .selects RX12 yX12_atEnd yX12_atEnd, .methodLink RX12 189 yX12_atEnd] : List Cond) ++ wsX120)
set_option maxRecDepth 20000 in
theorem g_X12_readLaw_0 : GoodIn q_X12_readLaw (wsV RX12 183 RX12 yX12_open q_X12_open) := goodIn_app (goodIn_r _ [11, 9, 10, 8] rfl (by decide +kernel)) (goodIn_ca (goodIn_r (.code yX12_open cX12_open 2 none :: [.fieldLink RX12 122 "LeftArgumentsModel" "text" "I", .fieldLink RX12 112 "LeftArgumentsModel" "at" "I", .fieldLink RX12 119 "LeftArgumentsModel" "wrong" "I", .fieldLink RX12 125 "LeftArgumentsModel" "deep" "I", .fieldLink RX12 19 "LeftArgumentsModel" "codes" "[I", .fieldLink RX12 22 "LeftArgumentsModel" "clauses" "[I"]) [1, 2, 3, 4, 5, 6, 7] rfl (by decide +kernel)) (goodIn_sub (fun _ h => List.mem_cons_of_mem _ (List.mem_append_right _ h)) gwX12))
set_option maxRecDepth 20000 in
theorem g_X12_readLaw_1 : GoodIn q_X12_readLaw (wsV RX12 186 RX12 yX12_clause q_X12_clause) := goodIn_app (goodIn_r _ [91, 89, 90, 8] rfl (by decide +kernel)) (goodIn_ca (goodIn_r (.code yX12_clause cX12_clause 3 none :: [.fieldLink RX12 122 "LeftArgumentsModel" "text" "I", .fieldLink RX12 22 "LeftArgumentsModel" "clauses" "[I", .fieldLink RX12 119 "LeftArgumentsModel" "wrong" "I", .code yX12_look cX12_look 1 (some .int), .code yX12_here cX12_here 1 (some .int), .fieldLink RX12 112 "LeftArgumentsModel" "at" "I", .fieldLink RX12 109 "LeftArgumentsModel" "size" "I", .fieldLink RX12 9 "LeftArgumentsModel" "tape" "[I", .initialized RX12, .instanceMethod yX12_here, .selects RX12 yX12_here yX12_here, .methodLink RX12 115 yX12_here, .instanceMethod yX12_look, .selects RX12 yX12_look yX12_look, .methodLink RX12 131 yX12_look, .code yX12_bad cX12_bad 1 none, .instanceMethod yX12_bad, .selects RX12 yX12_bad yX12_bad, .methodLink RX12 128 yX12_bad, .fieldLink RX12 25 "LeftArgumentsModel" "testFrom" "[I", .fieldLink RX12 19 "LeftArgumentsModel" "codes" "[I", .fieldLink RX12 28 "LeftArgumentsModel" "sumFrom" "[I", .fieldLink RX12 31 "LeftArgumentsModel" "sumTo" "[I", .code yX12_sum cX12_sum 2 none, .code yX12_term cX12_term 2 none, .code yX12_atom cX12_atom 2 none, .code yX12_isDigit cX12_isDigit 1 (some .boolean), .static yX12_isDigit, .methodLink RX12 134 yX12_isDigit, .code yX12_letterOf cX12_letterOf 1 (some .int), .static yX12_letterOf, .methodLink RX12 145 yX12_letterOf, .code yX12_opens cX12_opens 1 none, .fieldLink RX12 125 "LeftArgumentsModel" "deep" "I", .instanceMethod yX12_opens, .selects RX12 yX12_opens yX12_opens, .methodLink RX12 149 yX12_opens, .code yX12_put cX12_put 3 none, .fieldLink RX12 13 "LeftArgumentsModel" "code" "[I", .fieldLink RX12 16 "LeftArgumentsModel" "value" "[I", .instanceMethod yX12_put, .selects RX12 yX12_put yX12_put, .methodLink RX12 141 yX12_put, .code yX12_plainNumber cX12_plainNumber 3 (some .int), .instanceMethod yX12_plainNumber, .selects RX12 yX12_plainNumber yX12_plainNumber, .methodLink RX12 138 yX12_plainNumber, .instanceMethod yX12_atom, .selects RX12 yX12_atom yX12_atom, .methodLink RX12 159 yX12_atom, .instanceMethod yX12_term, .selects RX12 yX12_term yX12_term, .methodLink RX12 162 yX12_term, .instanceMethod yX12_sum, .selects RX12 yX12_sum yX12_sum, .methodLink RX12 152 yX12_sum, .code yX12_closes cX12_closes 2 none, .instanceMethod yX12_closes, .selects RX12 yX12_closes yX12_closes, .methodLink RX12 155 yX12_closes, .code yX12_isSign cX12_isSign 1 (some .boolean), .static yX12_isSign, .methodLink RX12 165 yX12_isSign, .code yX12_compare cX12_compare 2 none, .instanceMethod yX12_compare, .selects RX12 yX12_compare yX12_compare, .methodLink RX12 174 yX12_compare, .code yX12_goOnAnd cX12_goOnAnd 1 none, .code yX12_unit cX12_unit 2 none, .code yX12_condition cX12_condition 1 none, .instanceMethod yX12_unit, .selects RX12 yX12_unit yX12_unit, .methodLink RX12 168 yX12_unit, .instanceMethod yX12_goOnAnd, .selects RX12 yX12_goOnAnd yX12_goOnAnd, .methodLink RX12 177 yX12_goOnAnd, .code yX12_goOnOr cX12_goOnOr 1 none, .instanceMethod yX12_goOnOr, .selects RX12 yX12_goOnOr yX12_goOnOr, .methodLink RX12 180 yX12_goOnOr, .instanceMethod yX12_condition, .selects RX12 yX12_condition yX12_condition, .methodLink RX12 171 yX12_condition]) [12, 2, 7, 4, 13, 14, 3, 15, 16, 8, 17, 18, 19, 20, 21, 22, 23, 24, 25, 26, 27, 6, 28, 29, 30, 31, 32, 33, 34, 35, 36, 37, 38, 39, 5, 40, 41, 42, 43, 44, 45, 46, 47, 48, 49, 50, 51, 52, 53, 54, 55, 56, 57, 58, 59, 60, 61, 62, 63, 64, 65, 66, 67, 68, 69, 70, 71, 72, 73, 74, 75, 76, 77, 78, 79, 80, 81, 82, 83, 84, 85, 86, 87, 88] rfl (by decide +kernel)) (goodIn_sub (fun _ h => List.mem_cons_of_mem _ (List.mem_append_right _ h)) gwX12))
set_option maxRecDepth 20000 in
theorem g_X12_readLaw_2 : GoodIn q_X12_readLaw (wsV RX12 131 RX12 yX12_look q_X12_look) := goodIn_app (goodIn_r _ [22, 20, 21, 8] rfl (by decide +kernel)) (goodIn_ca (goodIn_r (.code yX12_look cX12_look 1 (some .int) :: [.code yX12_here cX12_here 1 (some .int), .fieldLink RX12 112 "LeftArgumentsModel" "at" "I", .fieldLink RX12 109 "LeftArgumentsModel" "size" "I", .fieldLink RX12 9 "LeftArgumentsModel" "tape" "[I", .initialized RX12, .instanceMethod yX12_here, .selects RX12 yX12_here yX12_here, .methodLink RX12 115 yX12_here]) [13, 14, 3, 15, 16, 8, 17, 18, 19] rfl (by decide +kernel)) (goodIn_sub (fun _ h => List.mem_cons_of_mem _ (List.mem_append_right _ h)) gwX12))
set_option maxRecDepth 20000 in
theorem g_X12_readLaw_3 : GoodIn q_X12_readLaw (wsV RX12 189 RX12 yX12_atEnd q_X12_atEnd) := goodIn_app (goodIn_r _ [95, 93, 94, 8] rfl (by decide +kernel)) (goodIn_ca (goodIn_r (.code yX12_atEnd cX12_atEnd 1 (some .int) :: [.fieldLink RX12 119 "LeftArgumentsModel" "wrong" "I", .code yX12_look cX12_look 1 (some .int), .code yX12_here cX12_here 1 (some .int), .fieldLink RX12 112 "LeftArgumentsModel" "at" "I", .fieldLink RX12 109 "LeftArgumentsModel" "size" "I", .fieldLink RX12 9 "LeftArgumentsModel" "tape" "[I", .initialized RX12, .instanceMethod yX12_here, .selects RX12 yX12_here yX12_here, .methodLink RX12 115 yX12_here, .instanceMethod yX12_look, .selects RX12 yX12_look yX12_look, .methodLink RX12 131 yX12_look, .code yX12_bad cX12_bad 1 none, .instanceMethod yX12_bad, .selects RX12 yX12_bad yX12_bad, .methodLink RX12 128 yX12_bad]) [92, 4, 13, 14, 3, 15, 16, 8, 17, 18, 19, 20, 21, 22, 23, 24, 25, 26] rfl (by decide +kernel)) (goodIn_sub (fun _ h => List.mem_cons_of_mem _ (List.mem_append_right _ h)) gwX12))
set_option maxRecDepth 20000 in
theorem g_X12_readLaw_6 : GoodIn q_X12_readLaw (wsV RX12 189 RX12 yX12_atEnd q_X12_atEnd_1) := goodIn_app (goodIn_r _ [95, 93, 94, 8] rfl (by decide +kernel)) (goodIn_ca (goodIn_r (.code yX12_atEnd cX12_atEnd 1 (some .int) :: [.fieldLink RX12 119 "LeftArgumentsModel" "wrong" "I"]) [92, 4] rfl (by decide +kernel)) (goodIn_sub (fun _ h => List.mem_cons_of_mem _ (List.mem_append_right _ h)) gwX12))
set_option maxHeartbeats 4000000 in
set_option maxRecDepth 100000 in
theorem k_X12_readLaw (l : Launch) (dC : Nat → ClassId) (dI : Nat → Nat → Nat) (h0 : Nat) (h1 : Nat) (h2 : Nat) (h3 : Nat) (h4 : Nat) (h5 : Nat) (h6 : Nat) (h7 : Nat) (h8 : Nat) (v0 : Int32) (v1 : Int32) (v2 : Int32) (v3 : Int32) (v4 : Int32) (v5 : Int32) (v6 : Int32) (r0 : Nat) (r1 : Nat) (r2 : Nat) (r3 : Nat) (v7 : Int32) (r4 : Nat) (r5 : Nat) (v8 : Int32) (v9 : Int32) (r6 : Nat) (r7 : Nat) (v10 : Int32) (v11 : Int32) (r8 : Nat) (v12 : Int32) (v13 : Int32) (r9 : Nat) (v14 : Int32) (w15 : Int64) (r10 : Nat) (v16 : Int32) (v17 : Int32) (r11 : Nat) (r12 : Nat) (r13 : Nat) (r14 : Nat) (r15 : Nat) (r16 : Nat) (v18 : Int32) (r17 : Nat) (r18 : Nat) (r19 : Nat) (v19 : Int32) (g0 : ClassId) (f20 : Nat → Int32) (g1 : ClassId) (f21 : Nat → Int32) (g2 : ClassId) (f22 : Nat → Int32) (g3 : ClassId) (f23 : Nat → Int32) (g4 : ClassId) (f24 : Nat → Int32) (g5 : ClassId) (f25 : Nat → Int32) (g6 : ClassId) (f26 : Nat → Int32) (g7 : ClassId) (f27 : Nat → Int32) (v28 : Int32) (i_v1 : 0 ≤ v1.toInt ∧ v1.toInt ≤ 240) (i_v5 : 0 ≤ v5.toInt ∧ v5.toInt ≤ 4) (i_v6 : 0 ≤ v6.toInt ∧ v6.toInt ≤ 4) (i_v7 : 0 ≤ v7.toInt ∧ v7.toInt ≤ 8) (i_v8 : 0 ≤ v8.toInt ∧ v8.toInt ≤ 8) (i_v9 : 0 ≤ v9.toInt ∧ v9.toInt ≤ 1) (i_v10 : -1 ≤ v10.toInt ∧ v10.toInt ≤ 3) (i_v14 : 0 ≤ v14.toInt ∧ v14.toInt ≤ 40) (i_v18 : 0 ≤ v18.toInt ∧ v18.toInt ≤ 10) (i_v19 : 0 ≤ v19.toInt ∧ v19.toInt ≤ 1) (i_v28 : 0 ≤ v28.toInt ∧ v28.toInt ≤ 4) (ia_f20 : (∀ j, 0 ≤ (f20 j).toInt ∧ (f20 j).toInt ≤ 255)) (sz : Nat) : Met l yX12_readLaw q_X12_readLaw ({ frames := 35, cells := 0, slots := 0, locals := 715 }) (va_Pc [.ref h0, .int v28] (fun U => U.heap.size = sz ∧ va_P (dC, dI) vwCl (wd_d5ef5423 h0 v0 h1 v1 v2 v3 v4 h2 h3 h4 h5 h6 h7 h8 v5 v6 r0 r1 r2 r3 v7 r4 r5 v8 v9 r6 r7 v10 v11 r8 v12 v13 r9 v14 w15 r10 v16 v17 r11 r12 r13 r14 r15 r16 v18 r17 r18 r19 v19 h1 g0 f20 h2 g1 f21 h3 g2 f22 h4 g3 f23 h5 g4 f24 h6 g5 f25 h7 g6 f26 h8 g7 f27) U.heap ∧ va_K (dC, dI) vwCl [(g0, .int), (g1, .int), (g2, .int), (g3, .int), (g4, .int), (g5, .int), (g6, .int), (g7, .int)] U ∧ va_D (fun _ => True) (wd_d5ef5423 h0 v0 h1 v1 v2 v3 v4 h2 h3 h4 h5 h6 h7 h8 v5 v6 r0 r1 r2 r3 v7 r4 r5 v8 v9 r6 r7 v10 v11 r8 v12 v13 r9 v14 w15 r10 v16 v17 r11 r12 r13 r14 r15 r16 v18 r17 r18 r19 v19 h1 g0 f20 h2 g1 f21 h3 g2 f22 h4 g3 f23 h5 g4 f24 h6 g5 f25 h7 g6 f26 h8 g7 f27))) (va_Qi (fun (r : Int32) (r9 : Int32) => r9 = r) (fun (r : Int32) (t : State) => (∃ (o_h0_3 : Int32) (o_h0_14 : Int32) (o_h2 : Nat → Int32) (o_h3 : Nat → Int32) (o_h4 : Nat → Int32) (o_h5 : Nat → Int32) (o_h6 : Nat → Int32) (o_h7 : Nat → Int32) (o_h8 : Nat → Int32), 0 ≤ o_h0_3.toInt ∧ o_h0_3.toInt ≤ 240 ∧ 0 ≤ o_h0_14.toInt ∧ o_h0_14.toInt ≤ 4 ∧ (-1 ≤ r.toInt) ∧ (r.toInt ≤ -1) ∧ (pm_Oth v28 f21 f22 f24 f25 f26 f27 o_h2 o_h3 o_h5 o_h6 o_h7 o_h8) ∧ (pm_Row v28 o_h2 o_h3 o_h5 o_h6 o_h7 o_h8) ∧ va_P (dC, dI) vwCl (wd_d5ef5423 h0 v0 h1 v1 o_h0_3 (-1) 0 h2 h3 h4 h5 h6 h7 h8 v5 o_h0_14 r0 r1 r2 r3 v7 r4 r5 v8 v9 r6 r7 v10 v11 r8 v12 v13 r9 v14 w15 r10 v16 v17 r11 r12 r13 r14 r15 r16 v18 r17 r18 r19 v19 h1 g0 f20 h2 g1 o_h2 h3 g2 o_h3 h4 g3 o_h4 h5 g4 o_h5 h6 g5 o_h6 h7 g6 o_h7 h8 g7 o_h8) t.heap ∧ va_K (dC, dI) vwCl [] t ∧ va_D (va_A (wd_d5ef5423 h0 v0 h1 v1 v2 v3 v4 h2 h3 h4 h5 h6 h7 h8 v5 v6 r0 r1 r2 r3 v7 r4 r5 v8 v9 r6 r7 v10 v11 r8 v12 v13 r9 v14 w15 r10 v16 v17 r11 r12 r13 r14 r15 r16 v18 r17 r18 r19 v19 h1 g0 f20 h2 g1 f21 h3 g2 f22 h4 g3 f23 h5 g4 f24 h6 g5 f25 h7 g6 f26 h8 g7 f27) sz) (wd_d5ef5423 h0 v0 h1 v1 o_h0_3 (-1) 0 h2 h3 h4 h5 h6 h7 h8 v5 o_h0_14 r0 r1 r2 r3 v7 r4 r5 v8 v9 r6 r7 v10 v11 r8 v12 v13 r9 v14 w15 r10 v16 v17 r11 r12 r13 r14 r15 r16 v18 r17 r18 r19 v19 h1 g0 f20 h2 g1 o_h2 h3 g2 o_h3 h4 g3 o_h4 h5 g4 o_h5 h6 g5 o_h6 h7 g6 o_h7 h8 g7 o_h8)) ∨ (∃ (o_h0_3 : Int32) (o_h0_4 : Int32) (o_h0_5 : Int32) (o_h0_14 : Int32) (o_h2 : Nat → Int32) (o_h3 : Nat → Int32) (o_h4 : Nat → Int32) (o_h5 : Nat → Int32) (o_h6 : Nat → Int32) (o_h7 : Nat → Int32) (o_h8 : Nat → Int32), 0 ≤ o_h0_3.toInt ∧ o_h0_3.toInt ≤ 246 ∧ 0 ≤ o_h0_4.toInt ∧ o_h0_4.toInt ≤ 240 ∧ 0 ≤ o_h0_14.toInt ∧ o_h0_14.toInt ≤ 4 ∧ (0 ≤ r.toInt) ∧ (r.toInt ≤ 300) ∧ (pm_Oth v28 f21 f22 f24 f25 f26 f27 o_h2 o_h3 o_h5 o_h6 o_h7 o_h8) ∧ va_P (dC, dI) vwCl (wd_d5ef5423 h0 v0 h1 v1 o_h0_3 o_h0_4 o_h0_5 h2 h3 h4 h5 h6 h7 h8 v5 o_h0_14 r0 r1 r2 r3 v7 r4 r5 v8 v9 r6 r7 v10 v11 r8 v12 v13 r9 v14 w15 r10 v16 v17 r11 r12 r13 r14 r15 r16 v18 r17 r18 r19 v19 h1 g0 f20 h2 g1 o_h2 h3 g2 o_h3 h4 g3 o_h4 h5 g4 o_h5 h6 g5 o_h6 h7 g6 o_h7 h8 g7 o_h8) t.heap ∧ va_K (dC, dI) vwCl [] t ∧ va_D (va_A (wd_d5ef5423 h0 v0 h1 v1 v2 v3 v4 h2 h3 h4 h5 h6 h7 h8 v5 v6 r0 r1 r2 r3 v7 r4 r5 v8 v9 r6 r7 v10 v11 r8 v12 v13 r9 v14 w15 r10 v16 v17 r11 r12 r13 r14 r15 r16 v18 r17 r18 r19 v19 h1 g0 f20 h2 g1 f21 h3 g2 f22 h4 g3 f23 h5 g4 f24 h6 g5 f25 h7 g6 f26 h8 g7 f27) sz) (wd_d5ef5423 h0 v0 h1 v1 o_h0_3 o_h0_4 o_h0_5 h2 h3 h4 h5 h6 h7 h8 v5 o_h0_14 r0 r1 r2 r3 v7 r4 r5 v8 v9 r6 r7 v10 v11 r8 v12 v13 r9 v14 w15 r10 v16 v17 r11 r12 r13 r14 r15 r16 v18 r17 r18 r19 v19 h1 g0 f20 h2 g1 o_h2 h3 g2 o_h3 h4 g3 o_h4 h5 g4 o_h5 h6 g5 o_h6 h7 g6 o_h7 h8 g7 o_h8))) (va_A (wd_d5ef5423 h0 v0 h1 v1 v2 v3 v4 h2 h3 h4 h5 h6 h7 h8 v5 v6 r0 r1 r2 r3 v7 r4 r5 v8 v9 r6 r7 v10 v11 r8 v12 v13 r9 v14 w15 r10 v16 v17 r11 r12 r13 r14 r15 r16 v18 r17 r18 r19 v19 h1 g0 f20 h2 g1 f21 h3 g2 f22 h4 g3 f23 h5 g4 f24 h6 g5 f25 h7 g6 f26 h8 g7 f27) sz)) 0 0 (va_A (wd_d5ef5423 h0 v0 h1 v1 v2 v3 v4 h2 h3 h4 h5 h6 h7 h8 v5 v6 r0 r1 r2 r3 v7 r4 r5 v8 v9 r6 r7 v10 v11 r8 v12 v13 r9 v14 w15 r10 v16 v17 r11 r12 r13 r14 r15 r16 v18 r17 r18 r19 v19 h1 g0 f20 h2 g1 f21 h3 g2 f22 h4 g3 f23 h5 g4 f24 h6 g5 f25 h7 g6 f26 h8 g7 f27) sz) := by
  refine Met.ofW (cc := cX12_readLaw) (maxL := 2) (ret := (some .int)) (by decide) rfl ?_
  intro p e s m args below meth c s₁ B hml hv
  obtain ⟨i_v1a, i_v1b⟩ := i_v1
  obtain ⟨i_v5a, i_v5b⟩ := i_v5
  obtain ⟨i_v6a, i_v6b⟩ := i_v6
  obtain ⟨i_v7a, i_v7b⟩ := i_v7
  obtain ⟨i_v8a, i_v8b⟩ := i_v8
  obtain ⟨i_v9a, i_v9b⟩ := i_v9
  obtain ⟨i_v10a, i_v10b⟩ := i_v10
  obtain ⟨i_v14a, i_v14b⟩ := i_v14
  obtain ⟨i_v18a, i_v18b⟩ := i_v18
  obtain ⟨i_v19a, i_v19b⟩ := i_v19
  obtain ⟨i_v28a, i_v28b⟩ := i_v28
  obtain ⟨rfl, hsz, hP, hK, hD0⟩ := hv
  have hx := B.exec
  have hb := B.bytes
  have hr := B.returns
  have hts := atoms_spec (ws := q_X12_readLaw) B.pre
  have hown : s.vm.findClass RX12 = some m.cls := findClass_of_methodNamed B.named
  have hlocks := B.notSynchronized
  subst hsz
  have hD := hD0.self (sz := s.heap.size)
  generalize hAe : va_A (wd_d5ef5423 h0 v0 h1 v1 v2 v3 v4 h2 h3 h4 h5 h6 h7 h8 v5 v6 r0 r1 r2 r3 v7 r4 r5 v8 v9 r6 r7 v10 v11 r8 v12 v13 r9 v14 w15 r10 v16 v17 r11 r12 r13 r14 r15 r16 v18 r17 r18 r19 v19 h1 g0 f20 h2 g1 f21 h3 g2 f22 h4 g3 f23 h5 g4 f24 h6 g5 f25 h7 g6 f26 h8 g7 f27) s.heap.size = A at hD ⊢
  have hA : ∀ q : Nat, s.heap.size ≤ q → A q := fun q h => by rw [← hAe]; exact Or.inr h
  have hS : va_S A s.heap s.heap [] := va_S.rf
  generalize hQ : (MQ below _ _ s 0 0 A) = Q
  have hl := lv_entry ([.ref h0, .int v28]) (n := 2) (Nat.le_of_ble_eq_true rfl)
  rw [lg_entry_eq]
  generalize (lg_sl ([.ref h0, .int v28]) ++ List.replicate (2 - (lg_sl ([.ref h0, .int v28])).length) Slot.unset).toArray = ls at hl ⊢
  have hl : lv_has ls 2 [(0, .ref h0), (1, .int v28)] := hl
  obtain ⟨H, hH⟩ : ∃ H : Heap, H = s.heap := ⟨_, rfl⟩
  obtain ⟨locs, hlocs⟩ : ∃ y : List Loc, y = [] := ⟨_, rfl⟩
  have hS : va_S A s.heap H locs := by rw [hH, hlocs]; exact va_S.rf
  have hP : va_P (dC, dI) vwCl (wd_d5ef5423 h0 v0 h1 v1 v2 v3 v4 h2 h3 h4 h5 h6 h7 h8 v5 v6 r0 r1 r2 r3 v7 r4 r5 v8 v9 r6 r7 v10 v11 r8 v12 v13 r9 v14 w15 r10 v16 v17 r11 r12 r13 r14 r15 r16 v18 r17 r18 r19 v19 h1 g0 f20 h2 g1 f21 h3 g2 f22 h4 g3 f23 h5 g4 f24 h6 g5 f25 h7 g6 f26 h8 g7 f27) H := by rw [hH]; exact hP
  rw [← hH, ← hlocs]
  refine lv_aload_n hx hb dX12_readLaw_0 rfl (lv_at hl 0 rfl) ?_
  refine lv_iload_n hx hb dX12_readLaw_1 rfl (lv_at hl 1 rfl) ?_
  have hPc := hP.sub (ws' := (wd_27eca80b h0 v0 h1 v1 v2 v3 v4 h2 h3 h4 h5 h6 h7 h8 v5 v6 r0 r1 r2 r3 v7 r4 r5 v8 v9 r6 r7 v10 v11 r8 v12 v13 r9 v14 w15 r10 v16 v17 r11 r12 r13 r14 r15 r16 v18 r17 r18 r19 v19 h4 g3 f23 h5 g4 f24)) [0, 4, 5] rfl
  have hDc := hD.sub (ws' := (wd_27eca80b h0 v0 h1 v1 v2 v3 v4 h2 h3 h4 h5 h6 h7 h8 v5 v6 r0 r1 r2 r3 v7 r4 r5 v8 v9 r6 r7 v10 v11 r8 v12 v13 r9 v14 w15 r10 v16 v17 r11 r12 r13 r14 r15 r16 v18 r17 r18 r19 v19 h4 g3 f23 h5 g4 f24)) [0, 4, 5] (by decide) rfl
  have hKc := hK.sub (tys' := [(g3, .int), (g4, .int)]) [3, 4] rfl
  have hFc := va_free (wc := (wd_27eca80b h0 v0 h1 v1 v2 v3 v4 h2 h3 h4 h5 h6 h7 h8 v5 v6 r0 r1 r2 r3 v7 r4 r5 v8 v9 r6 r7 v10 v11 r8 v12 v13 r9 v14 w15 r10 v16 v17 r11 r12 r13 r14 r15 r16 v18 r17 r18 r19 v19 h4 g3 f23 h5 g4 f24)) hD hS hA [0, 4, 5] rfl
  refine va_callv (va_runV (As := [.int v28]) (rest := []) ⟨hx, hb, hml, hown, hts⟩ (k_X12_open l dC dI h0 h4 h5 v0 h1 v1 v2 v3 v4 h2 h3 h6 h7 h8 v5 v6 r0 r1 r2 r3 v7 r4 r5 v8 v9 r6 r7 v10 v11 r8 v12 v13 r9 v14 w15 r10 v16 v17 r11 r12 r13 r14 r15 r16 v18 r17 r18 r19 v19 g3 f23 g4 f24 v28 ⟨by first | omega | decide, by first | omega | decide⟩ ⟨by first | omega | decide, by first | omega | decide⟩ ⟨by first | omega | decide, by first | omega | decide⟩ ⟨by first | omega | decide, by first | omega | decide⟩ ⟨by first | omega | decide, by first | omega | decide⟩ ⟨by first | omega | decide, by first | omega | decide⟩ ⟨by first | omega | decide, by first | omega | decide⟩ ⟨by first | omega | decide, by first | omega | decide⟩ ⟨by first | omega | decide, by first | omega | decide⟩ ⟨by first | omega | decide, by first | omega | decide⟩ ⟨by first | omega | decide, by first | omega | decide⟩ H.size) (cwV 1 hts g_X12_readLaw_0 rfl rfl rfl (by decide +kernel) ⟨Nat.le_of_ble_eq_true rfl, Nat.le_of_ble_eq_true rfl⟩) ⟨fun a U g mk q => by obtain ⟨q0, q1, qP, qK, qD⟩ := q; exact ⟨q0, q1, qP, va_K.moved (u := U) (U := U.calling g mk a) (Vm.Alike.refl U.vm) qK, qD⟩, va_recv hKc hPc (ci := 12) (q0 := 0) rfl rfl, fun U hU hW => ⟨rfl, by rw [hU], by rw [hU]; exact hPc, va_K.moved hW.alike hKc, hDc.weaken (fun _ _ _ _ => trivial)⟩⟩ rfl rfl hl.1 rfl (lv_room (Nat.le_of_ble_eq_true rfl)) dX12_readLaw_2 ⟨Nat.le_of_ble_eq_true rfl, Nat.le_of_ble_eq_true rfl⟩) hS (fun q _ h => hFc q h) hFc (fun u t H1 locs ht hvm hwra1 hB hz1 hk1 hS => ?_)
  obtain ⟨x2, fn3, fn4, oa_x2, ob_x2, pt0_ra1, pt1_ra1, pt2_ra1, hP1, hK1, hD1⟩ := hB
  rw [ht] at hP1
  obtain ⟨hP, hD⟩ := va_join (wr := (wd_e8966f01 h1 g0 f20 h2 g1 f21 h3 g2 f22 h6 g5 f25 h7 g6 f26 h8 g7 f27)) (w1 := (wd_27eca80b h0 v0 h1 v1 0 (-1) 0 h2 h3 h4 h5 h6 h7 h8 v5 x2 r0 r1 r2 r3 v7 r4 r5 v8 v9 r6 r7 v10 v11 r8 v12 v13 r9 v14 w15 r10 v16 v17 r11 r12 r13 r14 r15 r16 v18 r17 r18 r19 v19 h4 g3 fn3 h5 g4 fn4)) hP hD [0, 4, 5] [1, 2, 3, 6, 7, 8] rfl rfl (by decide) (by decide) hk1 hFc hP1 hD1
  generalize H1 = H at hP hS ⊢
  have hP := hP.sub (ws' := (wd_d5ef5423 h0 v0 h1 v1 0 (-1) 0 h2 h3 h4 h5 h6 h7 h8 v5 x2 r0 r1 r2 r3 v7 r4 r5 v8 v9 r6 r7 v10 v11 r8 v12 v13 r9 v14 w15 r10 v16 v17 r11 r12 r13 r14 r15 r16 v18 r17 r18 r19 v19 h1 g0 f20 h2 g1 f21 h3 g2 f22 h4 g3 fn3 h5 g4 fn4 h6 g5 f25 h7 g6 f26 h8 g7 f27)) [6, 0, 1, 2, 7, 8, 3, 4, 5] rfl
  have hD := hD.sub (ws' := (wd_d5ef5423 h0 v0 h1 v1 0 (-1) 0 h2 h3 h4 h5 h6 h7 h8 v5 x2 r0 r1 r2 r3 v7 r4 r5 v8 v9 r6 r7 v10 v11 r8 v12 v13 r9 v14 w15 r10 v16 v17 r11 r12 r13 r14 r15 r16 v18 r17 r18 r19 v19 h1 g0 f20 h2 g1 f21 h3 g2 f22 h4 g3 fn3 h5 g4 fn4 h6 g5 f25 h7 g6 f26 h8 g7 f27)) [6, 0, 1, 2, 7, 8, 3, 4, 5] (by decide) rfl
  have hP : va_P (dC, dI) vwCl (wd_d5ef5423 h0 v0 h1 v1 0 (-1) 0 h2 h3 h4 h5 h6 h7 h8 v5 x2 r0 r1 r2 r3 v7 r4 r5 v8 v9 r6 r7 v10 v11 r8 v12 v13 r9 v14 w15 r10 v16 v17 r11 r12 r13 r14 r15 r16 v18 r17 r18 r19 v19 h1 g0 f20 h2 g1 f21 h3 g2 f22 h4 g3 fn3 h5 g4 fn4 h6 g5 f25 h7 g6 f26 h8 g7 f27) H := hP
  have hD : va_D A (wd_d5ef5423 h0 v0 h1 v1 0 (-1) 0 h2 h3 h4 h5 h6 h7 h8 v5 x2 r0 r1 r2 r3 v7 r4 r5 v8 v9 r6 r7 v10 v11 r8 v12 v13 r9 v14 w15 r10 v16 v17 r11 r12 r13 r14 r15 r16 v18 r17 r18 r19 v19 h1 g0 f20 h2 g1 f21 h3 g2 f22 h4 g3 fn3 h5 g4 fn4 h6 g5 f25 h7 g6 f26 h8 g7 f27) := hD
  have hz0 : ((0 : Int32)).toInt = 0 := by decide
  have hOt : pm_Oth x2 f21 f22 f24 f25 f26 f27 f21 f22 fn4 f25 f26 f27 := pm_Oth.cl pt2_ra1 (by omega)
  have hRw : pm_Rw x2 f21 f22 fn3 fn4 f25 f26 f27 := pm_Rw.zero pt1_ra1
  refine lv_aload_n hx hb dX12_readLaw_5 rfl (lv_at hl 0 rfl) ?_
  have hPc := hP.sub (ws' := (wd_d5ef5423 h0 v0 h1 v1 0 (-1) 0 h2 h3 h4 h5 h6 h7 h8 v5 x2 r0 r1 r2 r3 v7 r4 r5 v8 v9 r6 r7 v10 v11 r8 v12 v13 r9 v14 w15 r10 v16 v17 r11 r12 r13 r14 r15 r16 v18 r17 r18 r19 v19 h1 g0 f20 h2 g1 f21 h3 g2 f22 h4 g3 fn3 h5 g4 fn4 h6 g5 f25 h7 g6 f26 h8 g7 f27)) [0, 1, 2, 3, 4, 5, 6, 7, 8] rfl
  have hDc := hD.sub (ws' := (wd_d5ef5423 h0 v0 h1 v1 0 (-1) 0 h2 h3 h4 h5 h6 h7 h8 v5 x2 r0 r1 r2 r3 v7 r4 r5 v8 v9 r6 r7 v10 v11 r8 v12 v13 r9 v14 w15 r10 v16 v17 r11 r12 r13 r14 r15 r16 v18 r17 r18 r19 v19 h1 g0 f20 h2 g1 f21 h3 g2 f22 h4 g3 fn3 h5 g4 fn4 h6 g5 f25 h7 g6 f26 h8 g7 f27)) [0, 1, 2, 3, 4, 5, 6, 7, 8] (by decide) rfl
  have hKc := hK.sub (tys' := [(g0, .int), (g1, .int), (g2, .int), (g3, .int), (g4, .int), (g5, .int), (g6, .int), (g7, .int)]) [0, 1, 2, 3, 4, 5, 6, 7] rfl
  have hFc := va_free (wc := (wd_d5ef5423 h0 v0 h1 v1 0 (-1) 0 h2 h3 h4 h5 h6 h7 h8 v5 x2 r0 r1 r2 r3 v7 r4 r5 v8 v9 r6 r7 v10 v11 r8 v12 v13 r9 v14 w15 r10 v16 v17 r11 r12 r13 r14 r15 r16 v18 r17 r18 r19 v19 h1 g0 f20 h2 g1 f21 h3 g2 f22 h4 g3 fn3 h5 g4 fn4 h6 g5 f25 h7 g6 f26 h8 g7 f27)) hD hS hA [0, 1, 2, 3, 4, 5, 6, 7, 8] rfl
  refine va_callv (va_runV (As := []) (rest := []) ⟨hx, hb, hml, hown, hts⟩ (k_X12_clause l dC dI h0 h1 h2 h3 h4 h5 h6 h7 h8 v0 v1 0 v5 x2 r0 r1 r2 r3 v7 r4 r5 v8 v9 r6 r7 v10 v11 r8 v12 v13 r9 v14 w15 r10 v16 v17 r11 r12 r13 r14 r15 r16 v18 r17 r18 r19 v19 g0 f20 g1 f21 g2 f22 g3 fn3 g4 fn4 g5 f25 g6 f26 g7 f27 ⟨by first | omega | decide, by first | omega | decide⟩ ⟨by first | omega | decide, by first | omega | decide⟩ ⟨by first | omega | decide, by first | omega | decide⟩ ⟨by first | omega | decide, by first | omega | decide⟩ ⟨by first | omega | decide, by first | omega | decide⟩ ⟨by first | omega | decide, by first | omega | decide⟩ ⟨by first | omega | decide, by first | omega | decide⟩ ⟨by first | omega | decide, by first | omega | decide⟩ ⟨by first | omega | decide, by first | omega | decide⟩ ⟨by first | omega | decide, by first | omega | decide⟩ ⟨by first | omega | decide, by first | omega | decide⟩ ia_f20 (by first | (constructor <;> omega) | exact hRw) (by first | (constructor <;> omega) | exact hRw) (by first | (constructor <;> omega) | exact hRw) H.size) (cwV 0 hts g_X12_readLaw_1 rfl rfl rfl (by decide +kernel) ⟨Nat.le_of_ble_eq_true rfl, Nat.le_of_ble_eq_true rfl⟩) ⟨fun a U g mk q => by obtain ⟨q0, q1, qP, qK, qD⟩ := q; exact ⟨q0, q1, qP, va_K.moved (u := U) (U := U.calling g mk a) (Vm.Alike.refl U.vm) qK, qD⟩, va_recv hKc hPc (ci := 12) (q0 := 0) rfl rfl, fun U hU hW => ⟨rfl, by rw [hU], by rw [hU]; exact hPc, va_K.moved hW.alike hKc, hDc.weaken (fun _ _ _ _ => trivial)⟩⟩ rfl rfl hl.1 rfl (lv_room (Nat.le_of_ble_eq_true rfl)) dX12_readLaw_6 ⟨Nat.le_of_ble_eq_true rfl, Nat.le_of_ble_eq_true rfl⟩) hS (fun q _ h => hFc q h) hFc (fun u t H1 locs ht hvm hwra5 hB hz1 hk1 hS => ?_)
  have hkra5_0 : ((0 : Int32)).toInt = 0 := by decide
  rcases hB with hB | hB
  · skip
    obtain ⟨x6, fn7, fn8, fn9, fn10, fn11, fn12, fn13, oa_x6, ob_x6, pt0_ra5, pt1_ra5, pt2_ra5, pt3_ra5, hP1, hK1, hD1⟩ := hB
    rw [ht] at hP1
    obtain ⟨hP, hD⟩ := va_join (wr := []) (w1 := (wd_d5ef5423 h0 v0 h1 v1 x6 (-1) 0 h2 h3 h4 h5 h6 h7 h8 v5 x2 r0 r1 r2 r3 v7 r4 r5 v8 v9 r6 r7 v10 v11 r8 v12 v13 r9 v14 w15 r10 v16 v17 r11 r12 r13 r14 r15 r16 v18 r17 r18 r19 v19 h1 g0 f20 h2 g1 fn7 h3 g2 fn8 h4 g3 fn9 h5 g4 fn10 h6 g5 fn11 h7 g6 fn12 h8 g7 fn13)) hP hD [0, 1, 2, 3, 4, 5, 6, 7, 8] [] rfl rfl (by decide) (by decide) hk1 hFc hP1 hD1
    generalize H1 = H at hP hS ⊢
    have hP : va_P (dC, dI) vwCl (wd_d5ef5423 h0 v0 h1 v1 x6 (-1) 0 h2 h3 h4 h5 h6 h7 h8 v5 x2 r0 r1 r2 r3 v7 r4 r5 v8 v9 r6 r7 v10 v11 r8 v12 v13 r9 v14 w15 r10 v16 v17 r11 r12 r13 r14 r15 r16 v18 r17 r18 r19 v19 h1 g0 f20 h2 g1 fn7 h3 g2 fn8 h4 g3 fn9 h5 g4 fn10 h6 g5 fn11 h7 g6 fn12 h8 g7 fn13) H := hP
    have hD : va_D A (wd_d5ef5423 h0 v0 h1 v1 x6 (-1) 0 h2 h3 h4 h5 h6 h7 h8 v5 x2 r0 r1 r2 r3 v7 r4 r5 v8 v9 r6 r7 v10 v11 r8 v12 v13 r9 v14 w15 r10 v16 v17 r11 r12 r13 r14 r15 r16 v18 r17 r18 r19 v19 h1 g0 f20 h2 g1 fn7 h3 g2 fn8 h4 g3 fn9 h5 g4 fn10 h6 g5 fn11 h7 g6 fn12 h8 g7 fn13) := hD
    have hOt := hOt.app pt3_ra5
    have hRw := pt2_ra5
    have hL30 : ∀ (n9 : Nat), ∀ (x14 : Int32) (fn15 : Nat → Int32) (fn16 : Nat → Int32) (fn17 : Nat → Int32) (fn18 : Nat → Int32) (fn19 : Nat → Int32) (fn20 : Nat → Int32) (fn21 : Nat → Int32) (H : Heap) (locs : List Loc) (ls : Array Slot), 0 ≤ x14.toInt → x14.toInt ≤ 240 → 0 ≤ pm_x fn17 x2 ∧ pm_x fn17 x2 ≤ x14.toInt → 0 ≤ pm_x fn18 x2 ∧ 2 * pm_x fn18 x2 ≤ x14.toInt → pm_Rw x2 fn15 fn16 fn17 fn18 fn19 fn20 fn21 → pm_Oth x2 f21 f22 f24 f25 f26 f27 fn15 fn16 fn18 fn19 fn20 fn21 → (300 - x14.toInt).toNat < n9 → va_P (dC, dI) vwCl (wd_d5ef5423 h0 v0 h1 v1 x14 (-1) 0 h2 h3 h4 h5 h6 h7 h8 v5 x2 r0 r1 r2 r3 v7 r4 r5 v8 v9 r6 r7 v10 v11 r8 v12 v13 r9 v14 w15 r10 v16 v17 r11 r12 r13 r14 r15 r16 v18 r17 r18 r19 v19 h1 g0 f20 h2 g1 fn15 h3 g2 fn16 h4 g3 fn17 h5 g4 fn18 h6 g5 fn19 h7 g6 fn20 h8 g7 fn21) H → va_D A (wd_d5ef5423 h0 v0 h1 v1 x14 (-1) 0 h2 h3 h4 h5 h6 h7 h8 v5 x2 r0 r1 r2 r3 v7 r4 r5 v8 v9 r6 r7 v10 v11 r8 v12 v13 r9 v14 w15 r10 v16 v17 r11 r12 r13 r14 r15 r16 v18 r17 r18 r19 v19 h1 g0 f20 h2 g1 fn15 h3 g2 fn16 h4 g3 fn17 h5 g4 fn18 h6 g5 fn19 h7 g6 fn20 h8 g7 fn21) → va_S A s.heap H locs → lv_has ls 2 [(0, .ref h0), (1, .int v28)] → W p l e ({ frames := 35, cells := 0, slots := 0, locals := 715 }) s m ([.ref h0, .int v28] : List Value).toArray below meth c H locs 0 0 Q (F0 m 9 ls []) := by
      intro n9
      induction n9 with
      | zero => intro x14 fn15 fn16 fn17 fn18 fn19 fn20 fn21 H locs ls qa_x14 qb_x14 gh0_hL30 gh1_hL30 gh2_hL30 gh3_hL30 hm9 hP hD hS hl; exact absurd hm9 (Nat.not_lt_zero _)
      | succ n9 ih_hL30 =>
        intro x14 fn15 fn16 fn17 fn18 fn19 fn20 fn21 H locs ls qa_x14 qb_x14 gh0_hL30 gh1_hL30 gh2_hL30 gh3_hL30 hm9 hP hD hS hl
        have hRw := gh2_hL30; have hOt := gh3_hL30; obtain ⟨hra, hrb⟩ := gh0_hL30; obtain ⟨hrc, hrd⟩ := gh1_hL30
        refine lv_aload_n hx hb dX12_readLaw_9 rfl (lv_at hl 0 rfl) ?_
        refine va_get (D := (dC, dI)) (ci := 12) (v := .int (-1)) (C := RX12) (T := TX12) (N := 48) hx hb hts (fun _ h => List.mem_cons_of_mem _ (List.mem_append_right _ h)) hown hK hP 0 rfl rfl 4 (by decide) (hts (.fieldLink RX12 119 "LeftArgumentsModel" "wrong" "I") (List.mem_cons_of_mem _ (List.mem_append_left _ (List.mem_of_getElem? (i := 3) rfl)))) (fun _ h9 => h9) rfl dX12_readLaw_10 ?_
        refine lv_iconst (v := (-1)) hx hb dX12_readLaw_13 (by decide) ?_
        refine lv_icmp_ne (tgt := 43) hx hb dX12_readLaw_14 (by decide) (fun c => absurd (by decide) c) (fun _ => ?_)
        refine lv_aload_n hx hb dX12_readLaw_17 rfl (lv_at hl 0 rfl) ?_
        have hPc := hP.sub (ws' := (wd_f4cd022e h0 v0 h1 v1 x14 (-1) 0 h2 h3 h4 h5 h6 h7 h8 v5 x2 r0 r1 r2 r3 v7 r4 r5 v8 v9 r6 r7 v10 v11 r8 v12 v13 r9 v14 w15 r10 v16 v17 r11 r12 r13 r14 r15 r16 v18 r17 r18 r19 v19 h1 g0 f20)) [0, 1] rfl
        have hDc := hD.sub (ws' := (wd_f4cd022e h0 v0 h1 v1 x14 (-1) 0 h2 h3 h4 h5 h6 h7 h8 v5 x2 r0 r1 r2 r3 v7 r4 r5 v8 v9 r6 r7 v10 v11 r8 v12 v13 r9 v14 w15 r10 v16 v17 r11 r12 r13 r14 r15 r16 v18 r17 r18 r19 v19 h1 g0 f20)) [0, 1] (by decide) rfl
        have hKc := hK.sub (tys' := [(g0, .int)]) [0] rfl
        have hFc := va_free (wc := (wd_f4cd022e h0 v0 h1 v1 x14 (-1) 0 h2 h3 h4 h5 h6 h7 h8 v5 x2 r0 r1 r2 r3 v7 r4 r5 v8 v9 r6 r7 v10 v11 r8 v12 v13 r9 v14 w15 r10 v16 v17 r11 r12 r13 r14 r15 r16 v18 r17 r18 r19 v19 h1 g0 f20)) hD hS hA [0, 1] rfl
        refine va_calli (va_runV (As := []) (rest := []) ⟨hx, hb, hml, hown, hts⟩ (k_X12_look l dC dI h0 h1 v0 v1 x14 ((-1)) 0 h2 h3 h4 h5 h6 h7 h8 v5 x2 r0 r1 r2 r3 v7 r4 r5 v8 v9 r6 r7 v10 v11 r8 v12 v13 r9 v14 w15 r10 v16 v17 r11 r12 r13 r14 r15 r16 v18 r17 r18 r19 v19 g0 f20 ⟨by first | omega | decide, by first | omega | decide⟩ ⟨by first | omega | decide, by first | omega | decide⟩ ⟨by first | omega | decide, by first | omega | decide⟩ ⟨by first | omega | decide, by first | omega | decide⟩ ⟨by first | omega | decide, by first | omega | decide⟩ ⟨by first | omega | decide, by first | omega | decide⟩ ⟨by first | omega | decide, by first | omega | decide⟩ ⟨by first | omega | decide, by first | omega | decide⟩ ⟨by first | omega | decide, by first | omega | decide⟩ ⟨by first | omega | decide, by first | omega | decide⟩ ⟨by first | omega | decide, by first | omega | decide⟩ ia_f20 H.size) (cwV 0 hts g_X12_readLaw_2 rfl rfl rfl (by decide +kernel) ⟨Nat.le_of_ble_eq_true rfl, Nat.le_of_ble_eq_true rfl⟩) ⟨fun a U g mk q => by obtain ⟨q0, q1, qP, qK, qD⟩ := q; exact ⟨q0, q1, qP, va_K.moved (u := U) (U := U.calling g mk a) (Vm.Alike.refl U.vm) qK, qD⟩, va_recv hKc hPc (ci := 12) (q0 := 0) rfl rfl, fun U hU hW => ⟨rfl, by rw [hU], by rw [hU]; exact hPc, va_K.moved hW.alike hKc, hDc.weaken (fun _ _ _ _ => trivial)⟩⟩ rfl rfl hl.1 rfl (lv_room (Nat.le_of_ble_eq_true rfl)) dX12_readLaw_18 ⟨Nat.le_of_ble_eq_true rfl, Nat.le_of_ble_eq_true rfl⟩) hS (fun q _ h => hFc q h) hFc (fun ra31 u t H1 locs ht hvm hwra31 hB hz1 hk1 hS => ?_)
        try rw [hwra31] at hB
        have hkra31_0 : (((-1) : Int32)).toInt = -1 := by decide
        have hkra31_1 : ((0 : Int32)).toInt = 0 := by decide
        rcases hB with hB | hB
        · skip
          obtain ⟨x32, oa_x32, ob_x32, pt0_ra31, pt1_ra31, pt2_ra31, pt3_ra31, hP1, hK1, hD1⟩ := hB
          rw [ht] at hP1
          obtain ⟨hP, hD⟩ := va_join (wr := (wd_55284813 h2 g1 fn15 h3 g2 fn16 h4 g3 fn17 h5 g4 fn18 h6 g5 fn19 h7 g6 fn20 h8 g7 fn21)) (w1 := (wd_f4cd022e h0 v0 h1 v1 x32 (-1) 0 h2 h3 h4 h5 h6 h7 h8 v5 x2 r0 r1 r2 r3 v7 r4 r5 v8 v9 r6 r7 v10 v11 r8 v12 v13 r9 v14 w15 r10 v16 v17 r11 r12 r13 r14 r15 r16 v18 r17 r18 r19 v19 h1 g0 f20)) hP hD [0, 1] [2, 3, 4, 5, 6, 7, 8] rfl rfl (by decide) (by decide) hk1 hFc hP1 hD1
          generalize H1 = H at hP hS ⊢
          have hP := hP.sub (ws' := (wd_d5ef5423 h0 v0 h1 v1 x32 (-1) 0 h2 h3 h4 h5 h6 h7 h8 v5 x2 r0 r1 r2 r3 v7 r4 r5 v8 v9 r6 r7 v10 v11 r8 v12 v13 r9 v14 w15 r10 v16 v17 r11 r12 r13 r14 r15 r16 v18 r17 r18 r19 v19 h1 g0 f20 h2 g1 fn15 h3 g2 fn16 h4 g3 fn17 h5 g4 fn18 h6 g5 fn19 h7 g6 fn20 h8 g7 fn21)) [7, 8, 0, 1, 2, 3, 4, 5, 6] rfl
          have hD := hD.sub (ws' := (wd_d5ef5423 h0 v0 h1 v1 x32 (-1) 0 h2 h3 h4 h5 h6 h7 h8 v5 x2 r0 r1 r2 r3 v7 r4 r5 v8 v9 r6 r7 v10 v11 r8 v12 v13 r9 v14 w15 r10 v16 v17 r11 r12 r13 r14 r15 r16 v18 r17 r18 r19 v19 h1 g0 f20 h2 g1 fn15 h3 g2 fn16 h4 g3 fn17 h5 g4 fn18 h6 g5 fn19 h7 g6 fn20 h8 g7 fn21)) [7, 8, 0, 1, 2, 3, 4, 5, 6] (by decide) rfl
          have hP : va_P (dC, dI) vwCl (wd_d5ef5423 h0 v0 h1 v1 x32 (-1) 0 h2 h3 h4 h5 h6 h7 h8 v5 x2 r0 r1 r2 r3 v7 r4 r5 v8 v9 r6 r7 v10 v11 r8 v12 v13 r9 v14 w15 r10 v16 v17 r11 r12 r13 r14 r15 r16 v18 r17 r18 r19 v19 h1 g0 f20 h2 g1 fn15 h3 g2 fn16 h4 g3 fn17 h5 g4 fn18 h6 g5 fn19 h7 g6 fn20 h8 g7 fn21) H := hP
          have hD : va_D A (wd_d5ef5423 h0 v0 h1 v1 x32 (-1) 0 h2 h3 h4 h5 h6 h7 h8 v5 x2 r0 r1 r2 r3 v7 r4 r5 v8 v9 r6 r7 v10 v11 r8 v12 v13 r9 v14 w15 r10 v16 v17 r11 r12 r13 r14 r15 r16 v18 r17 r18 r19 v19 h1 g0 f20 h2 g1 fn15 h3 g2 fn16 h4 g3 fn17 h5 g4 fn18 h6 g5 fn19 h7 g6 fn20 h8 g7 fn21) := hD
          obtain rfl : ra31 = ((-1) : Int32) := Int32.toInt_inj.mp (by rw [show (((-1) : Int32)).toInt = -1 by decide]; omega)
          refine lv_bipush (v := 59) hx hb dX12_readLaw_21 (by decide) ?_
          refine lv_icmp_ne (tgt := 43) hx hb dX12_readLaw_23 (by decide) (fun _ => ?_) (fun c => absurd c (by decide))
          refine lv_aload_n hx hb dX12_readLaw_43 rfl (lv_at hl 0 rfl) ?_
          have hPc := hP.sub (ws' := (wd_f4cd022e h0 v0 h1 v1 x32 (-1) 0 h2 h3 h4 h5 h6 h7 h8 v5 x2 r0 r1 r2 r3 v7 r4 r5 v8 v9 r6 r7 v10 v11 r8 v12 v13 r9 v14 w15 r10 v16 v17 r11 r12 r13 r14 r15 r16 v18 r17 r18 r19 v19 h1 g0 f20)) [0, 1] rfl
          have hDc := hD.sub (ws' := (wd_f4cd022e h0 v0 h1 v1 x32 (-1) 0 h2 h3 h4 h5 h6 h7 h8 v5 x2 r0 r1 r2 r3 v7 r4 r5 v8 v9 r6 r7 v10 v11 r8 v12 v13 r9 v14 w15 r10 v16 v17 r11 r12 r13 r14 r15 r16 v18 r17 r18 r19 v19 h1 g0 f20)) [0, 1] (by decide) rfl
          have hKc := hK.sub (tys' := [(g0, .int)]) [0] rfl
          have hFc := va_free (wc := (wd_f4cd022e h0 v0 h1 v1 x32 (-1) 0 h2 h3 h4 h5 h6 h7 h8 v5 x2 r0 r1 r2 r3 v7 r4 r5 v8 v9 r6 r7 v10 v11 r8 v12 v13 r9 v14 w15 r10 v16 v17 r11 r12 r13 r14 r15 r16 v18 r17 r18 r19 v19 h1 g0 f20)) hD hS hA [0, 1] rfl
          refine va_calli (va_runV (As := []) (rest := []) ⟨hx, hb, hml, hown, hts⟩ (k_X12_atEnd l dC dI h0 h1 v0 v1 x32 0 h2 h3 h4 h5 h6 h7 h8 v5 x2 r0 r1 r2 r3 v7 r4 r5 v8 v9 r6 r7 v10 v11 r8 v12 v13 r9 v14 w15 r10 v16 v17 r11 r12 r13 r14 r15 r16 v18 r17 r18 r19 v19 g0 f20 ⟨by first | omega | decide, by first | omega | decide⟩ ⟨by first | omega | decide, by first | omega | decide⟩ ⟨by first | omega | decide, by first | omega | decide⟩ ⟨by first | omega | decide, by first | omega | decide⟩ ⟨by first | omega | decide, by first | omega | decide⟩ ⟨by first | omega | decide, by first | omega | decide⟩ ⟨by first | omega | decide, by first | omega | decide⟩ ⟨by first | omega | decide, by first | omega | decide⟩ ⟨by first | omega | decide, by first | omega | decide⟩ ⟨by first | omega | decide, by first | omega | decide⟩ ⟨by first | omega | decide, by first | omega | decide⟩ ia_f20 H.size) (cwV 0 hts g_X12_readLaw_3 rfl rfl rfl (by decide +kernel) ⟨Nat.le_of_ble_eq_true rfl, Nat.le_of_ble_eq_true rfl⟩) ⟨fun a U g mk q => by obtain ⟨q0, q1, qP, qK, qD⟩ := q; exact ⟨q0, q1, qP, va_K.moved (u := U) (U := U.calling g mk a) (Vm.Alike.refl U.vm) qK, qD⟩, va_recv hKc hPc (ci := 12) (q0 := 0) rfl rfl, fun U hU hW => ⟨rfl, by rw [hU], by rw [hU]; exact hPc, va_K.moved hW.alike hKc, hDc.weaken (fun _ _ _ _ => trivial)⟩⟩ rfl rfl hl.1 rfl (lv_room (Nat.le_of_ble_eq_true rfl)) dX12_readLaw_44 ⟨Nat.le_of_ble_eq_true rfl, Nat.le_of_ble_eq_true rfl⟩) hS (fun q _ h => hFc q h) hFc (fun ra33 u t H1 locs ht hvm hwra33 hB hz1 hk1 hS => ?_)
          try rw [hwra33] at hB
          have hkra33_0 : ((0 : Int32)).toInt = 0 := by decide
          rcases hB with hB | hB
          · skip
            obtain ⟨x34, oa_x34, ob_x34, pt0_ra33, pt1_ra33, hP1, hK1, hD1⟩ := hB
            rw [ht] at hP1
            obtain ⟨hP, hD⟩ := va_join (wr := (wd_55284813 h2 g1 fn15 h3 g2 fn16 h4 g3 fn17 h5 g4 fn18 h6 g5 fn19 h7 g6 fn20 h8 g7 fn21)) (w1 := (wd_f4cd022e h0 v0 h1 v1 x34 (-1) 0 h2 h3 h4 h5 h6 h7 h8 v5 x2 r0 r1 r2 r3 v7 r4 r5 v8 v9 r6 r7 v10 v11 r8 v12 v13 r9 v14 w15 r10 v16 v17 r11 r12 r13 r14 r15 r16 v18 r17 r18 r19 v19 h1 g0 f20)) hP hD [0, 1] [2, 3, 4, 5, 6, 7, 8] rfl rfl (by decide) (by decide) hk1 hFc hP1 hD1
            generalize H1 = H at hP hS ⊢
            have hP := hP.sub (ws' := (wd_d5ef5423 h0 v0 h1 v1 x34 (-1) 0 h2 h3 h4 h5 h6 h7 h8 v5 x2 r0 r1 r2 r3 v7 r4 r5 v8 v9 r6 r7 v10 v11 r8 v12 v13 r9 v14 w15 r10 v16 v17 r11 r12 r13 r14 r15 r16 v18 r17 r18 r19 v19 h1 g0 f20 h2 g1 fn15 h3 g2 fn16 h4 g3 fn17 h5 g4 fn18 h6 g5 fn19 h7 g6 fn20 h8 g7 fn21)) [7, 8, 0, 1, 2, 3, 4, 5, 6] rfl
            have hD := hD.sub (ws' := (wd_d5ef5423 h0 v0 h1 v1 x34 (-1) 0 h2 h3 h4 h5 h6 h7 h8 v5 x2 r0 r1 r2 r3 v7 r4 r5 v8 v9 r6 r7 v10 v11 r8 v12 v13 r9 v14 w15 r10 v16 v17 r11 r12 r13 r14 r15 r16 v18 r17 r18 r19 v19 h1 g0 f20 h2 g1 fn15 h3 g2 fn16 h4 g3 fn17 h5 g4 fn18 h6 g5 fn19 h7 g6 fn20 h8 g7 fn21)) [7, 8, 0, 1, 2, 3, 4, 5, 6] (by decide) rfl
            have hP : va_P (dC, dI) vwCl (wd_d5ef5423 h0 v0 h1 v1 x34 (-1) 0 h2 h3 h4 h5 h6 h7 h8 v5 x2 r0 r1 r2 r3 v7 r4 r5 v8 v9 r6 r7 v10 v11 r8 v12 v13 r9 v14 w15 r10 v16 v17 r11 r12 r13 r14 r15 r16 v18 r17 r18 r19 v19 h1 g0 f20 h2 g1 fn15 h3 g2 fn16 h4 g3 fn17 h5 g4 fn18 h6 g5 fn19 h7 g6 fn20 h8 g7 fn21) H := hP
            have hD : va_D A (wd_d5ef5423 h0 v0 h1 v1 x34 (-1) 0 h2 h3 h4 h5 h6 h7 h8 v5 x2 r0 r1 r2 r3 v7 r4 r5 v8 v9 r6 r7 v10 v11 r8 v12 v13 r9 v14 w15 r10 v16 v17 r11 r12 r13 r14 r15 r16 v18 r17 r18 r19 v19 h1 g0 f20 h2 g1 fn15 h3 g2 fn16 h4 g3 fn17 h5 g4 fn18 h6 g5 fn19 h7 g6 fn20 h8 g7 fn21) := hD
            obtain rfl : ra33 = ((-1) : Int32) := Int32.toInt_inj.mp (by rw [show (((-1) : Int32)).toInt = -1 by decide]; omega)
            subst hQ
            have hP9 := hP.sub (ws' := (wd_d5ef5423 h0 v0 h1 v1 x34 (-1) 0 h2 h3 h4 h5 h6 h7 h8 v5 x2 r0 r1 r2 r3 v7 r4 r5 v8 v9 r6 r7 v10 v11 r8 v12 v13 r9 v14 w15 r10 v16 v17 r11 r12 r13 r14 r15 r16 v18 r17 r18 r19 v19 h1 g0 f20 h2 g1 fn15 h3 g2 fn16 h4 g3 fn17 h5 g4 fn18 h6 g5 fn19 h7 g6 fn20 h8 g7 fn21)) [0, 1, 2, 3, 4, 5, 6, 7, 8] rfl
            have hD9 := hD.sub (ws' := (wd_d5ef5423 h0 v0 h1 v1 x34 (-1) 0 h2 h3 h4 h5 h6 h7 h8 v5 x2 r0 r1 r2 r3 v7 r4 r5 v8 v9 r6 r7 v10 v11 r8 v12 v13 r9 v14 w15 r10 v16 v17 r11 r12 r13 r14 r15 r16 v18 r17 r18 r19 v19 h1 g0 f20 h2 g1 fn15 h3 g2 fn16 h4 g3 fn17 h5 g4 fn18 h6 g5 fn19 h7 g6 fn20 h8 g7 fn21)) [0, 1, 2, 3, 4, 5, 6, 7, 8] (by decide) rfl
            have hK9 := hK.sub (tys' := []) [] rfl
            exact W.iret (v := (-1)) hx hb hr (fun t ht hW => ⟨⟨(-1), (-1), rfl, rfl, Or.inl ⟨x34, x2, fn15, fn16, fn17, fn18, fn19, fn20, fn21, by first | omega | decide, by first | omega | decide, by first | omega | decide, by first | omega | decide, by first | omega | decide, by first | omega | decide, by exact hOt, by exact hRw.row (by omega) (by omega) (by omega), by rw [ht]; exact hP9, va_K.moved hW.alike hK9, hD9⟩⟩, hS.F ht⟩) hS.2.2 dX12_readLaw_47
          · skip
            obtain ⟨x35, x36, oa_x35, ob_x35, oa_x36, ob_x36, pt0_ra33, pt1_ra33, hP1, hK1, hD1⟩ := hB
            rw [ht] at hP1
            obtain ⟨hP, hD⟩ := va_join (wr := (wd_55284813 h2 g1 fn15 h3 g2 fn16 h4 g3 fn17 h5 g4 fn18 h6 g5 fn19 h7 g6 fn20 h8 g7 fn21)) (w1 := (wd_f4cd022e h0 v0 h1 v1 x35 x36 0 h2 h3 h4 h5 h6 h7 h8 v5 x2 r0 r1 r2 r3 v7 r4 r5 v8 v9 r6 r7 v10 v11 r8 v12 v13 r9 v14 w15 r10 v16 v17 r11 r12 r13 r14 r15 r16 v18 r17 r18 r19 v19 h1 g0 f20)) hP hD [0, 1] [2, 3, 4, 5, 6, 7, 8] rfl rfl (by decide) (by decide) hk1 hFc hP1 hD1
            generalize H1 = H at hP hS ⊢
            have hP := hP.sub (ws' := (wd_d5ef5423 h0 v0 h1 v1 x35 x36 0 h2 h3 h4 h5 h6 h7 h8 v5 x2 r0 r1 r2 r3 v7 r4 r5 v8 v9 r6 r7 v10 v11 r8 v12 v13 r9 v14 w15 r10 v16 v17 r11 r12 r13 r14 r15 r16 v18 r17 r18 r19 v19 h1 g0 f20 h2 g1 fn15 h3 g2 fn16 h4 g3 fn17 h5 g4 fn18 h6 g5 fn19 h7 g6 fn20 h8 g7 fn21)) [7, 8, 0, 1, 2, 3, 4, 5, 6] rfl
            have hD := hD.sub (ws' := (wd_d5ef5423 h0 v0 h1 v1 x35 x36 0 h2 h3 h4 h5 h6 h7 h8 v5 x2 r0 r1 r2 r3 v7 r4 r5 v8 v9 r6 r7 v10 v11 r8 v12 v13 r9 v14 w15 r10 v16 v17 r11 r12 r13 r14 r15 r16 v18 r17 r18 r19 v19 h1 g0 f20 h2 g1 fn15 h3 g2 fn16 h4 g3 fn17 h5 g4 fn18 h6 g5 fn19 h7 g6 fn20 h8 g7 fn21)) [7, 8, 0, 1, 2, 3, 4, 5, 6] (by decide) rfl
            have hP : va_P (dC, dI) vwCl (wd_d5ef5423 h0 v0 h1 v1 x35 x36 0 h2 h3 h4 h5 h6 h7 h8 v5 x2 r0 r1 r2 r3 v7 r4 r5 v8 v9 r6 r7 v10 v11 r8 v12 v13 r9 v14 w15 r10 v16 v17 r11 r12 r13 r14 r15 r16 v18 r17 r18 r19 v19 h1 g0 f20 h2 g1 fn15 h3 g2 fn16 h4 g3 fn17 h5 g4 fn18 h6 g5 fn19 h7 g6 fn20 h8 g7 fn21) H := hP
            have hD : va_D A (wd_d5ef5423 h0 v0 h1 v1 x35 x36 0 h2 h3 h4 h5 h6 h7 h8 v5 x2 r0 r1 r2 r3 v7 r4 r5 v8 v9 r6 r7 v10 v11 r8 v12 v13 r9 v14 w15 r10 v16 v17 r11 r12 r13 r14 r15 r16 v18 r17 r18 r19 v19 h1 g0 f20 h2 g1 fn15 h3 g2 fn16 h4 g3 fn17 h5 g4 fn18 h6 g5 fn19 h7 g6 fn20 h8 g7 fn21) := hD
            subst hQ
            have hP9 := hP.sub (ws' := (wd_d5ef5423 h0 v0 h1 v1 x35 x36 0 h2 h3 h4 h5 h6 h7 h8 v5 x2 r0 r1 r2 r3 v7 r4 r5 v8 v9 r6 r7 v10 v11 r8 v12 v13 r9 v14 w15 r10 v16 v17 r11 r12 r13 r14 r15 r16 v18 r17 r18 r19 v19 h1 g0 f20 h2 g1 fn15 h3 g2 fn16 h4 g3 fn17 h5 g4 fn18 h6 g5 fn19 h7 g6 fn20 h8 g7 fn21)) [0, 1, 2, 3, 4, 5, 6, 7, 8] rfl
            have hD9 := hD.sub (ws' := (wd_d5ef5423 h0 v0 h1 v1 x35 x36 0 h2 h3 h4 h5 h6 h7 h8 v5 x2 r0 r1 r2 r3 v7 r4 r5 v8 v9 r6 r7 v10 v11 r8 v12 v13 r9 v14 w15 r10 v16 v17 r11 r12 r13 r14 r15 r16 v18 r17 r18 r19 v19 h1 g0 f20 h2 g1 fn15 h3 g2 fn16 h4 g3 fn17 h5 g4 fn18 h6 g5 fn19 h7 g6 fn20 h8 g7 fn21)) [0, 1, 2, 3, 4, 5, 6, 7, 8] (by decide) rfl
            have hK9 := hK.sub (tys' := []) [] rfl
            exact W.iret (v := ra33) hx hb hr (fun t ht hW => ⟨⟨ra33, ra33, rfl, rfl, Or.inr (⟨x35, x36, 0, x2, fn15, fn16, fn17, fn18, fn19, fn20, fn21, by first | omega | decide, by first | omega | decide, by first | omega | decide, by first | omega | decide, by first | omega | decide, by first | omega | decide, by first | omega | decide, by first | omega | decide, by exact hOt, by rw [ht]; exact hP9, va_K.moved hW.alike hK9, hD9⟩)⟩, hS.F ht⟩) hS.2.2 dX12_readLaw_47
        · skip
          obtain ⟨x37, oa_x37, ob_x37, pt0_ra31, pt1_ra31, pt2_ra31, pt3_ra31, pt4_ra31, hP1, hK1, hD1⟩ := hB
          rw [ht] at hP1
          obtain ⟨hP, hD⟩ := va_join (wr := (wd_55284813 h2 g1 fn15 h3 g2 fn16 h4 g3 fn17 h5 g4 fn18 h6 g5 fn19 h7 g6 fn20 h8 g7 fn21)) (w1 := (wd_f4cd022e h0 v0 h1 v1 x37 (-1) 0 h2 h3 h4 h5 h6 h7 h8 v5 x2 r0 r1 r2 r3 v7 r4 r5 v8 v9 r6 r7 v10 v11 r8 v12 v13 r9 v14 w15 r10 v16 v17 r11 r12 r13 r14 r15 r16 v18 r17 r18 r19 v19 h1 g0 f20)) hP hD [0, 1] [2, 3, 4, 5, 6, 7, 8] rfl rfl (by decide) (by decide) hk1 hFc hP1 hD1
          generalize H1 = H at hP hS ⊢
          have hP := hP.sub (ws' := (wd_d5ef5423 h0 v0 h1 v1 x37 (-1) 0 h2 h3 h4 h5 h6 h7 h8 v5 x2 r0 r1 r2 r3 v7 r4 r5 v8 v9 r6 r7 v10 v11 r8 v12 v13 r9 v14 w15 r10 v16 v17 r11 r12 r13 r14 r15 r16 v18 r17 r18 r19 v19 h1 g0 f20 h2 g1 fn15 h3 g2 fn16 h4 g3 fn17 h5 g4 fn18 h6 g5 fn19 h7 g6 fn20 h8 g7 fn21)) [7, 8, 0, 1, 2, 3, 4, 5, 6] rfl
          have hD := hD.sub (ws' := (wd_d5ef5423 h0 v0 h1 v1 x37 (-1) 0 h2 h3 h4 h5 h6 h7 h8 v5 x2 r0 r1 r2 r3 v7 r4 r5 v8 v9 r6 r7 v10 v11 r8 v12 v13 r9 v14 w15 r10 v16 v17 r11 r12 r13 r14 r15 r16 v18 r17 r18 r19 v19 h1 g0 f20 h2 g1 fn15 h3 g2 fn16 h4 g3 fn17 h5 g4 fn18 h6 g5 fn19 h7 g6 fn20 h8 g7 fn21)) [7, 8, 0, 1, 2, 3, 4, 5, 6] (by decide) rfl
          have hP : va_P (dC, dI) vwCl (wd_d5ef5423 h0 v0 h1 v1 x37 (-1) 0 h2 h3 h4 h5 h6 h7 h8 v5 x2 r0 r1 r2 r3 v7 r4 r5 v8 v9 r6 r7 v10 v11 r8 v12 v13 r9 v14 w15 r10 v16 v17 r11 r12 r13 r14 r15 r16 v18 r17 r18 r19 v19 h1 g0 f20 h2 g1 fn15 h3 g2 fn16 h4 g3 fn17 h5 g4 fn18 h6 g5 fn19 h7 g6 fn20 h8 g7 fn21) H := hP
          have hD : va_D A (wd_d5ef5423 h0 v0 h1 v1 x37 (-1) 0 h2 h3 h4 h5 h6 h7 h8 v5 x2 r0 r1 r2 r3 v7 r4 r5 v8 v9 r6 r7 v10 v11 r8 v12 v13 r9 v14 w15 r10 v16 v17 r11 r12 r13 r14 r15 r16 v18 r17 r18 r19 v19 h1 g0 f20 h2 g1 fn15 h3 g2 fn16 h4 g3 fn17 h5 g4 fn18 h6 g5 fn19 h7 g6 fn20 h8 g7 fn21) := hD
          refine lv_bipush (v := 59) hx hb dX12_readLaw_21 (by decide) ?_
          refine lv_icmp_ne (tgt := 43) hx hb dX12_readLaw_23 (by decide) (fun c38 => ?_) (fun c38 => ?_)
          · skip
            have fc38 : ¬ (ra31.toInt = 59) := fun h9 => c38 (Int32.toInt_inj.mp h9)
            refine lv_aload_n hx hb dX12_readLaw_43 rfl (lv_at hl 0 rfl) ?_
            have hPc := hP.sub (ws' := (wd_f4cd022e h0 v0 h1 v1 x37 (-1) 0 h2 h3 h4 h5 h6 h7 h8 v5 x2 r0 r1 r2 r3 v7 r4 r5 v8 v9 r6 r7 v10 v11 r8 v12 v13 r9 v14 w15 r10 v16 v17 r11 r12 r13 r14 r15 r16 v18 r17 r18 r19 v19 h1 g0 f20)) [0, 1] rfl
            have hDc := hD.sub (ws' := (wd_f4cd022e h0 v0 h1 v1 x37 (-1) 0 h2 h3 h4 h5 h6 h7 h8 v5 x2 r0 r1 r2 r3 v7 r4 r5 v8 v9 r6 r7 v10 v11 r8 v12 v13 r9 v14 w15 r10 v16 v17 r11 r12 r13 r14 r15 r16 v18 r17 r18 r19 v19 h1 g0 f20)) [0, 1] (by decide) rfl
            have hKc := hK.sub (tys' := [(g0, .int)]) [0] rfl
            have hFc := va_free (wc := (wd_f4cd022e h0 v0 h1 v1 x37 (-1) 0 h2 h3 h4 h5 h6 h7 h8 v5 x2 r0 r1 r2 r3 v7 r4 r5 v8 v9 r6 r7 v10 v11 r8 v12 v13 r9 v14 w15 r10 v16 v17 r11 r12 r13 r14 r15 r16 v18 r17 r18 r19 v19 h1 g0 f20)) hD hS hA [0, 1] rfl
            refine va_calli (va_runV (As := []) (rest := []) ⟨hx, hb, hml, hown, hts⟩ (k_X12_atEnd l dC dI h0 h1 v0 v1 x37 0 h2 h3 h4 h5 h6 h7 h8 v5 x2 r0 r1 r2 r3 v7 r4 r5 v8 v9 r6 r7 v10 v11 r8 v12 v13 r9 v14 w15 r10 v16 v17 r11 r12 r13 r14 r15 r16 v18 r17 r18 r19 v19 g0 f20 ⟨by first | omega | decide, by first | omega | decide⟩ ⟨by first | omega | decide, by first | omega | decide⟩ ⟨by first | omega | decide, by first | omega | decide⟩ ⟨by first | omega | decide, by first | omega | decide⟩ ⟨by first | omega | decide, by first | omega | decide⟩ ⟨by first | omega | decide, by first | omega | decide⟩ ⟨by first | omega | decide, by first | omega | decide⟩ ⟨by first | omega | decide, by first | omega | decide⟩ ⟨by first | omega | decide, by first | omega | decide⟩ ⟨by first | omega | decide, by first | omega | decide⟩ ⟨by first | omega | decide, by first | omega | decide⟩ ia_f20 H.size) (cwV 0 hts g_X12_readLaw_3 rfl rfl rfl (by decide +kernel) ⟨Nat.le_of_ble_eq_true rfl, Nat.le_of_ble_eq_true rfl⟩) ⟨fun a U g mk q => by obtain ⟨q0, q1, qP, qK, qD⟩ := q; exact ⟨q0, q1, qP, va_K.moved (u := U) (U := U.calling g mk a) (Vm.Alike.refl U.vm) qK, qD⟩, va_recv hKc hPc (ci := 12) (q0 := 0) rfl rfl, fun U hU hW => ⟨rfl, by rw [hU], by rw [hU]; exact hPc, va_K.moved hW.alike hKc, hDc.weaken (fun _ _ _ _ => trivial)⟩⟩ rfl rfl hl.1 rfl (lv_room (Nat.le_of_ble_eq_true rfl)) dX12_readLaw_44 ⟨Nat.le_of_ble_eq_true rfl, Nat.le_of_ble_eq_true rfl⟩) hS (fun q _ h => hFc q h) hFc (fun ra39 u t H1 locs ht hvm hwra39 hB hz1 hk1 hS => ?_)
            try rw [hwra39] at hB
            have hkra39_0 : ((0 : Int32)).toInt = 0 := by decide
            rcases hB with hB | hB
            · skip
              obtain ⟨x40, oa_x40, ob_x40, pt0_ra39, pt1_ra39, hP1, hK1, hD1⟩ := hB
              rw [ht] at hP1
              obtain ⟨hP, hD⟩ := va_join (wr := (wd_55284813 h2 g1 fn15 h3 g2 fn16 h4 g3 fn17 h5 g4 fn18 h6 g5 fn19 h7 g6 fn20 h8 g7 fn21)) (w1 := (wd_f4cd022e h0 v0 h1 v1 x40 (-1) 0 h2 h3 h4 h5 h6 h7 h8 v5 x2 r0 r1 r2 r3 v7 r4 r5 v8 v9 r6 r7 v10 v11 r8 v12 v13 r9 v14 w15 r10 v16 v17 r11 r12 r13 r14 r15 r16 v18 r17 r18 r19 v19 h1 g0 f20)) hP hD [0, 1] [2, 3, 4, 5, 6, 7, 8] rfl rfl (by decide) (by decide) hk1 hFc hP1 hD1
              generalize H1 = H at hP hS ⊢
              have hP := hP.sub (ws' := (wd_d5ef5423 h0 v0 h1 v1 x40 (-1) 0 h2 h3 h4 h5 h6 h7 h8 v5 x2 r0 r1 r2 r3 v7 r4 r5 v8 v9 r6 r7 v10 v11 r8 v12 v13 r9 v14 w15 r10 v16 v17 r11 r12 r13 r14 r15 r16 v18 r17 r18 r19 v19 h1 g0 f20 h2 g1 fn15 h3 g2 fn16 h4 g3 fn17 h5 g4 fn18 h6 g5 fn19 h7 g6 fn20 h8 g7 fn21)) [7, 8, 0, 1, 2, 3, 4, 5, 6] rfl
              have hD := hD.sub (ws' := (wd_d5ef5423 h0 v0 h1 v1 x40 (-1) 0 h2 h3 h4 h5 h6 h7 h8 v5 x2 r0 r1 r2 r3 v7 r4 r5 v8 v9 r6 r7 v10 v11 r8 v12 v13 r9 v14 w15 r10 v16 v17 r11 r12 r13 r14 r15 r16 v18 r17 r18 r19 v19 h1 g0 f20 h2 g1 fn15 h3 g2 fn16 h4 g3 fn17 h5 g4 fn18 h6 g5 fn19 h7 g6 fn20 h8 g7 fn21)) [7, 8, 0, 1, 2, 3, 4, 5, 6] (by decide) rfl
              have hP : va_P (dC, dI) vwCl (wd_d5ef5423 h0 v0 h1 v1 x40 (-1) 0 h2 h3 h4 h5 h6 h7 h8 v5 x2 r0 r1 r2 r3 v7 r4 r5 v8 v9 r6 r7 v10 v11 r8 v12 v13 r9 v14 w15 r10 v16 v17 r11 r12 r13 r14 r15 r16 v18 r17 r18 r19 v19 h1 g0 f20 h2 g1 fn15 h3 g2 fn16 h4 g3 fn17 h5 g4 fn18 h6 g5 fn19 h7 g6 fn20 h8 g7 fn21) H := hP
              have hD : va_D A (wd_d5ef5423 h0 v0 h1 v1 x40 (-1) 0 h2 h3 h4 h5 h6 h7 h8 v5 x2 r0 r1 r2 r3 v7 r4 r5 v8 v9 r6 r7 v10 v11 r8 v12 v13 r9 v14 w15 r10 v16 v17 r11 r12 r13 r14 r15 r16 v18 r17 r18 r19 v19 h1 g0 f20 h2 g1 fn15 h3 g2 fn16 h4 g3 fn17 h5 g4 fn18 h6 g5 fn19 h7 g6 fn20 h8 g7 fn21) := hD
              obtain rfl : ra39 = ((-1) : Int32) := Int32.toInt_inj.mp (by rw [show (((-1) : Int32)).toInt = -1 by decide]; omega)
              subst hQ
              have hP9 := hP.sub (ws' := (wd_d5ef5423 h0 v0 h1 v1 x40 (-1) 0 h2 h3 h4 h5 h6 h7 h8 v5 x2 r0 r1 r2 r3 v7 r4 r5 v8 v9 r6 r7 v10 v11 r8 v12 v13 r9 v14 w15 r10 v16 v17 r11 r12 r13 r14 r15 r16 v18 r17 r18 r19 v19 h1 g0 f20 h2 g1 fn15 h3 g2 fn16 h4 g3 fn17 h5 g4 fn18 h6 g5 fn19 h7 g6 fn20 h8 g7 fn21)) [0, 1, 2, 3, 4, 5, 6, 7, 8] rfl
              have hD9 := hD.sub (ws' := (wd_d5ef5423 h0 v0 h1 v1 x40 (-1) 0 h2 h3 h4 h5 h6 h7 h8 v5 x2 r0 r1 r2 r3 v7 r4 r5 v8 v9 r6 r7 v10 v11 r8 v12 v13 r9 v14 w15 r10 v16 v17 r11 r12 r13 r14 r15 r16 v18 r17 r18 r19 v19 h1 g0 f20 h2 g1 fn15 h3 g2 fn16 h4 g3 fn17 h5 g4 fn18 h6 g5 fn19 h7 g6 fn20 h8 g7 fn21)) [0, 1, 2, 3, 4, 5, 6, 7, 8] (by decide) rfl
              have hK9 := hK.sub (tys' := []) [] rfl
              exact W.iret (v := (-1)) hx hb hr (fun t ht hW => ⟨⟨(-1), (-1), rfl, rfl, Or.inl ⟨x40, x2, fn15, fn16, fn17, fn18, fn19, fn20, fn21, by first | omega | decide, by first | omega | decide, by first | omega | decide, by first | omega | decide, by first | omega | decide, by first | omega | decide, by exact hOt, by exact hRw.row (by omega) (by omega) (by omega), by rw [ht]; exact hP9, va_K.moved hW.alike hK9, hD9⟩⟩, hS.F ht⟩) hS.2.2 dX12_readLaw_47
            · skip
              obtain ⟨x41, x42, oa_x41, ob_x41, oa_x42, ob_x42, pt0_ra39, pt1_ra39, hP1, hK1, hD1⟩ := hB
              rw [ht] at hP1
              obtain ⟨hP, hD⟩ := va_join (wr := (wd_55284813 h2 g1 fn15 h3 g2 fn16 h4 g3 fn17 h5 g4 fn18 h6 g5 fn19 h7 g6 fn20 h8 g7 fn21)) (w1 := (wd_f4cd022e h0 v0 h1 v1 x41 x42 0 h2 h3 h4 h5 h6 h7 h8 v5 x2 r0 r1 r2 r3 v7 r4 r5 v8 v9 r6 r7 v10 v11 r8 v12 v13 r9 v14 w15 r10 v16 v17 r11 r12 r13 r14 r15 r16 v18 r17 r18 r19 v19 h1 g0 f20)) hP hD [0, 1] [2, 3, 4, 5, 6, 7, 8] rfl rfl (by decide) (by decide) hk1 hFc hP1 hD1
              generalize H1 = H at hP hS ⊢
              have hP := hP.sub (ws' := (wd_d5ef5423 h0 v0 h1 v1 x41 x42 0 h2 h3 h4 h5 h6 h7 h8 v5 x2 r0 r1 r2 r3 v7 r4 r5 v8 v9 r6 r7 v10 v11 r8 v12 v13 r9 v14 w15 r10 v16 v17 r11 r12 r13 r14 r15 r16 v18 r17 r18 r19 v19 h1 g0 f20 h2 g1 fn15 h3 g2 fn16 h4 g3 fn17 h5 g4 fn18 h6 g5 fn19 h7 g6 fn20 h8 g7 fn21)) [7, 8, 0, 1, 2, 3, 4, 5, 6] rfl
              have hD := hD.sub (ws' := (wd_d5ef5423 h0 v0 h1 v1 x41 x42 0 h2 h3 h4 h5 h6 h7 h8 v5 x2 r0 r1 r2 r3 v7 r4 r5 v8 v9 r6 r7 v10 v11 r8 v12 v13 r9 v14 w15 r10 v16 v17 r11 r12 r13 r14 r15 r16 v18 r17 r18 r19 v19 h1 g0 f20 h2 g1 fn15 h3 g2 fn16 h4 g3 fn17 h5 g4 fn18 h6 g5 fn19 h7 g6 fn20 h8 g7 fn21)) [7, 8, 0, 1, 2, 3, 4, 5, 6] (by decide) rfl
              have hP : va_P (dC, dI) vwCl (wd_d5ef5423 h0 v0 h1 v1 x41 x42 0 h2 h3 h4 h5 h6 h7 h8 v5 x2 r0 r1 r2 r3 v7 r4 r5 v8 v9 r6 r7 v10 v11 r8 v12 v13 r9 v14 w15 r10 v16 v17 r11 r12 r13 r14 r15 r16 v18 r17 r18 r19 v19 h1 g0 f20 h2 g1 fn15 h3 g2 fn16 h4 g3 fn17 h5 g4 fn18 h6 g5 fn19 h7 g6 fn20 h8 g7 fn21) H := hP
              have hD : va_D A (wd_d5ef5423 h0 v0 h1 v1 x41 x42 0 h2 h3 h4 h5 h6 h7 h8 v5 x2 r0 r1 r2 r3 v7 r4 r5 v8 v9 r6 r7 v10 v11 r8 v12 v13 r9 v14 w15 r10 v16 v17 r11 r12 r13 r14 r15 r16 v18 r17 r18 r19 v19 h1 g0 f20 h2 g1 fn15 h3 g2 fn16 h4 g3 fn17 h5 g4 fn18 h6 g5 fn19 h7 g6 fn20 h8 g7 fn21) := hD
              subst hQ
              have hP9 := hP.sub (ws' := (wd_d5ef5423 h0 v0 h1 v1 x41 x42 0 h2 h3 h4 h5 h6 h7 h8 v5 x2 r0 r1 r2 r3 v7 r4 r5 v8 v9 r6 r7 v10 v11 r8 v12 v13 r9 v14 w15 r10 v16 v17 r11 r12 r13 r14 r15 r16 v18 r17 r18 r19 v19 h1 g0 f20 h2 g1 fn15 h3 g2 fn16 h4 g3 fn17 h5 g4 fn18 h6 g5 fn19 h7 g6 fn20 h8 g7 fn21)) [0, 1, 2, 3, 4, 5, 6, 7, 8] rfl
              have hD9 := hD.sub (ws' := (wd_d5ef5423 h0 v0 h1 v1 x41 x42 0 h2 h3 h4 h5 h6 h7 h8 v5 x2 r0 r1 r2 r3 v7 r4 r5 v8 v9 r6 r7 v10 v11 r8 v12 v13 r9 v14 w15 r10 v16 v17 r11 r12 r13 r14 r15 r16 v18 r17 r18 r19 v19 h1 g0 f20 h2 g1 fn15 h3 g2 fn16 h4 g3 fn17 h5 g4 fn18 h6 g5 fn19 h7 g6 fn20 h8 g7 fn21)) [0, 1, 2, 3, 4, 5, 6, 7, 8] (by decide) rfl
              have hK9 := hK.sub (tys' := []) [] rfl
              exact W.iret (v := ra39) hx hb hr (fun t ht hW => ⟨⟨ra39, ra39, rfl, rfl, Or.inr (⟨x41, x42, 0, x2, fn15, fn16, fn17, fn18, fn19, fn20, fn21, by first | omega | decide, by first | omega | decide, by first | omega | decide, by first | omega | decide, by first | omega | decide, by first | omega | decide, by first | omega | decide, by first | omega | decide, by exact hOt, by rw [ht]; exact hP9, va_K.moved hW.alike hK9, hD9⟩)⟩, hS.F ht⟩) hS.2.2 dX12_readLaw_47
          · skip
            have fc38 : ra31.toInt = 59 := congrArg Int32.toInt c38
            refine lv_aload_n hx hb dX12_readLaw_26 rfl (lv_at hl 0 rfl) ?_
            refine lv_dup hx hb dX12_readLaw_27 rfl ?_
            refine va_get (D := (dC, dI)) (ci := 12) (v := .int x37) (C := RX12) (T := TX12) (N := 48) hx hb hts (fun _ h => List.mem_cons_of_mem _ (List.mem_append_right _ h)) hown hK hP 0 rfl rfl 3 (by decide) (hts (.fieldLink RX12 112 "LeftArgumentsModel" "at" "I") (List.mem_cons_of_mem _ (List.mem_append_left _ (List.mem_of_getElem? (i := 2) rfl)))) (fun _ h9 => h9) rfl dX12_readLaw_28 ?_
            refine lv_iconst (v := 1) hx hb dX12_readLaw_31 (by decide) ?_
            refine lv_iadd hx hb dX12_readLaw_32 ?_
            refine lv_topi (fun t43 et43 => ?_)
            have gt43 : t43.toInt = x37.toInt + 1 := pv_add (a := x37.toInt) (b := 1) et43 rfl (by decide) (by omega) (by omega)
            refine va_put (D := (dC, dI)) (ci := 12) (v := .int t43) (ty := .int) (C := RX12) (T := TX12) (N := 48) hx hb hts (fun _ h => List.mem_cons_of_mem _ (List.mem_append_right _ h)) tyX12 tyX12_ok nmX12 hown hK hP hD hS 0 rfl rfl 3 (by decide) (hts (.fieldLink RX12 112 "LeftArgumentsModel" "at" "I") (List.mem_cons_of_mem _ (List.mem_append_left _ (List.mem_of_getElem? (i := 2) rfl)))) (fun _ h9 => h9) rfl (by decide +kernel) rfl rfl (Nat.le_of_ble_eq_true rfl) dX12_readLaw_33 (fun H locs hP hD hS => ?_)
            have hP : va_P (dC, dI) vwCl (wd_d5ef5423 h0 v0 h1 v1 t43 (-1) 0 h2 h3 h4 h5 h6 h7 h8 v5 x2 r0 r1 r2 r3 v7 r4 r5 v8 v9 r6 r7 v10 v11 r8 v12 v13 r9 v14 w15 r10 v16 v17 r11 r12 r13 r14 r15 r16 v18 r17 r18 r19 v19 h1 g0 f20 h2 g1 fn15 h3 g2 fn16 h4 g3 fn17 h5 g4 fn18 h6 g5 fn19 h7 g6 fn20 h8 g7 fn21) H := hP
            have hD : va_D A (wd_d5ef5423 h0 v0 h1 v1 t43 (-1) 0 h2 h3 h4 h5 h6 h7 h8 v5 x2 r0 r1 r2 r3 v7 r4 r5 v8 v9 r6 r7 v10 v11 r8 v12 v13 r9 v14 w15 r10 v16 v17 r11 r12 r13 r14 r15 r16 v18 r17 r18 r19 v19 h1 g0 f20 h2 g1 fn15 h3 g2 fn16 h4 g3 fn17 h5 g4 fn18 h6 g5 fn19 h7 g6 fn20 h8 g7 fn21) := hD
            refine lv_aload_n hx hb dX12_readLaw_36 rfl (lv_at hl 0 rfl) ?_
            have hPc := hP.sub (ws' := (wd_d5ef5423 h0 v0 h1 v1 t43 (-1) 0 h2 h3 h4 h5 h6 h7 h8 v5 x2 r0 r1 r2 r3 v7 r4 r5 v8 v9 r6 r7 v10 v11 r8 v12 v13 r9 v14 w15 r10 v16 v17 r11 r12 r13 r14 r15 r16 v18 r17 r18 r19 v19 h1 g0 f20 h2 g1 fn15 h3 g2 fn16 h4 g3 fn17 h5 g4 fn18 h6 g5 fn19 h7 g6 fn20 h8 g7 fn21)) [0, 1, 2, 3, 4, 5, 6, 7, 8] rfl
            have hDc := hD.sub (ws' := (wd_d5ef5423 h0 v0 h1 v1 t43 (-1) 0 h2 h3 h4 h5 h6 h7 h8 v5 x2 r0 r1 r2 r3 v7 r4 r5 v8 v9 r6 r7 v10 v11 r8 v12 v13 r9 v14 w15 r10 v16 v17 r11 r12 r13 r14 r15 r16 v18 r17 r18 r19 v19 h1 g0 f20 h2 g1 fn15 h3 g2 fn16 h4 g3 fn17 h5 g4 fn18 h6 g5 fn19 h7 g6 fn20 h8 g7 fn21)) [0, 1, 2, 3, 4, 5, 6, 7, 8] (by decide) rfl
            have hKc := hK.sub (tys' := [(g0, .int), (g1, .int), (g2, .int), (g3, .int), (g4, .int), (g5, .int), (g6, .int), (g7, .int)]) [0, 1, 2, 3, 4, 5, 6, 7] rfl
            have hFc := va_free (wc := (wd_d5ef5423 h0 v0 h1 v1 t43 (-1) 0 h2 h3 h4 h5 h6 h7 h8 v5 x2 r0 r1 r2 r3 v7 r4 r5 v8 v9 r6 r7 v10 v11 r8 v12 v13 r9 v14 w15 r10 v16 v17 r11 r12 r13 r14 r15 r16 v18 r17 r18 r19 v19 h1 g0 f20 h2 g1 fn15 h3 g2 fn16 h4 g3 fn17 h5 g4 fn18 h6 g5 fn19 h7 g6 fn20 h8 g7 fn21)) hD hS hA [0, 1, 2, 3, 4, 5, 6, 7, 8] rfl
            refine va_callv (va_runV (As := []) (rest := []) ⟨hx, hb, hml, hown, hts⟩ (k_X12_clause l dC dI h0 h1 h2 h3 h4 h5 h6 h7 h8 v0 v1 t43 v5 x2 r0 r1 r2 r3 v7 r4 r5 v8 v9 r6 r7 v10 v11 r8 v12 v13 r9 v14 w15 r10 v16 v17 r11 r12 r13 r14 r15 r16 v18 r17 r18 r19 v19 g0 f20 g1 fn15 g2 fn16 g3 fn17 g4 fn18 g5 fn19 g6 fn20 g7 fn21 ⟨by first | omega | decide, by first | omega | decide⟩ ⟨by first | omega | decide, by first | omega | decide⟩ ⟨by first | omega | decide, by first | omega | decide⟩ ⟨by first | omega | decide, by first | omega | decide⟩ ⟨by first | omega | decide, by first | omega | decide⟩ ⟨by first | omega | decide, by first | omega | decide⟩ ⟨by first | omega | decide, by first | omega | decide⟩ ⟨by first | omega | decide, by first | omega | decide⟩ ⟨by first | omega | decide, by first | omega | decide⟩ ⟨by first | omega | decide, by first | omega | decide⟩ ⟨by first | omega | decide, by first | omega | decide⟩ ia_f20 (by first | (constructor <;> omega) | exact hRw) (by first | (constructor <;> omega) | exact hRw) (by first | (constructor <;> omega) | exact hRw) H.size) (cwV 0 hts g_X12_readLaw_1 rfl rfl rfl (by decide +kernel) ⟨Nat.le_of_ble_eq_true rfl, Nat.le_of_ble_eq_true rfl⟩) ⟨fun a U g mk q => by obtain ⟨q0, q1, qP, qK, qD⟩ := q; exact ⟨q0, q1, qP, va_K.moved (u := U) (U := U.calling g mk a) (Vm.Alike.refl U.vm) qK, qD⟩, va_recv hKc hPc (ci := 12) (q0 := 0) rfl rfl, fun U hU hW => ⟨rfl, by rw [hU], by rw [hU]; exact hPc, va_K.moved hW.alike hKc, hDc.weaken (fun _ _ _ _ => trivial)⟩⟩ rfl rfl hl.1 rfl (lv_room (Nat.le_of_ble_eq_true rfl)) dX12_readLaw_37 ⟨Nat.le_of_ble_eq_true rfl, Nat.le_of_ble_eq_true rfl⟩) hS (fun q _ h => hFc q h) hFc (fun u t H1 locs ht hvm hwra44 hB hz1 hk1 hS => ?_)
            rcases hB with hB | hB
            · skip
              obtain ⟨x45, fn46, fn47, fn48, fn49, fn50, fn51, fn52, oa_x45, ob_x45, pt0_ra44, pt1_ra44, pt2_ra44, pt3_ra44, hP1, hK1, hD1⟩ := hB
              rw [ht] at hP1
              obtain ⟨hP, hD⟩ := va_join (wr := []) (w1 := (wd_d5ef5423 h0 v0 h1 v1 x45 (-1) 0 h2 h3 h4 h5 h6 h7 h8 v5 x2 r0 r1 r2 r3 v7 r4 r5 v8 v9 r6 r7 v10 v11 r8 v12 v13 r9 v14 w15 r10 v16 v17 r11 r12 r13 r14 r15 r16 v18 r17 r18 r19 v19 h1 g0 f20 h2 g1 fn46 h3 g2 fn47 h4 g3 fn48 h5 g4 fn49 h6 g5 fn50 h7 g6 fn51 h8 g7 fn52)) hP hD [0, 1, 2, 3, 4, 5, 6, 7, 8] [] rfl rfl (by decide) (by decide) hk1 hFc hP1 hD1
              generalize H1 = H at hP hS ⊢
              have hP : va_P (dC, dI) vwCl (wd_d5ef5423 h0 v0 h1 v1 x45 (-1) 0 h2 h3 h4 h5 h6 h7 h8 v5 x2 r0 r1 r2 r3 v7 r4 r5 v8 v9 r6 r7 v10 v11 r8 v12 v13 r9 v14 w15 r10 v16 v17 r11 r12 r13 r14 r15 r16 v18 r17 r18 r19 v19 h1 g0 f20 h2 g1 fn46 h3 g2 fn47 h4 g3 fn48 h5 g4 fn49 h6 g5 fn50 h7 g6 fn51 h8 g7 fn52) H := hP
              have hD : va_D A (wd_d5ef5423 h0 v0 h1 v1 x45 (-1) 0 h2 h3 h4 h5 h6 h7 h8 v5 x2 r0 r1 r2 r3 v7 r4 r5 v8 v9 r6 r7 v10 v11 r8 v12 v13 r9 v14 w15 r10 v16 v17 r11 r12 r13 r14 r15 r16 v18 r17 r18 r19 v19 h1 g0 f20 h2 g1 fn46 h3 g2 fn47 h4 g3 fn48 h5 g4 fn49 h6 g5 fn50 h7 g6 fn51 h8 g7 fn52) := hD
              have hOt := hOt.app pt3_ra44
              have hRw := pt2_ra44
              refine lv_goto (tgt := 9) hx hb dX12_readLaw_40 (by decide) ?_
              exact ih_hL30 x45 fn46 fn47 fn48 fn49 fn50 fn51 fn52 H locs ls (by first | omega | decide) (by first | omega | decide) (by constructor <;> omega) (by constructor <;> omega) (by exact hRw) (by exact hOt) (by first | omega | (simp only [Int.toNat] at *; omega)) hP hD hS (lv_sub hl [0, 1] rfl)
            · skip
              obtain ⟨x53, x54, x55, fn56, fn57, fn58, fn59, fn60, fn61, fn62, oa_x53, ob_x53, oa_x54, ob_x54, pt0_ra44, hP1, hK1, hD1⟩ := hB
              rw [ht] at hP1
              obtain ⟨hP, hD⟩ := va_join (wr := []) (w1 := (wd_d5ef5423 h0 v0 h1 v1 x53 x54 x55 h2 h3 h4 h5 h6 h7 h8 v5 x2 r0 r1 r2 r3 v7 r4 r5 v8 v9 r6 r7 v10 v11 r8 v12 v13 r9 v14 w15 r10 v16 v17 r11 r12 r13 r14 r15 r16 v18 r17 r18 r19 v19 h1 g0 f20 h2 g1 fn56 h3 g2 fn57 h4 g3 fn58 h5 g4 fn59 h6 g5 fn60 h7 g6 fn61 h8 g7 fn62)) hP hD [0, 1, 2, 3, 4, 5, 6, 7, 8] [] rfl rfl (by decide) (by decide) hk1 hFc hP1 hD1
              generalize H1 = H at hP hS ⊢
              have hP : va_P (dC, dI) vwCl (wd_d5ef5423 h0 v0 h1 v1 x53 x54 x55 h2 h3 h4 h5 h6 h7 h8 v5 x2 r0 r1 r2 r3 v7 r4 r5 v8 v9 r6 r7 v10 v11 r8 v12 v13 r9 v14 w15 r10 v16 v17 r11 r12 r13 r14 r15 r16 v18 r17 r18 r19 v19 h1 g0 f20 h2 g1 fn56 h3 g2 fn57 h4 g3 fn58 h5 g4 fn59 h6 g5 fn60 h7 g6 fn61 h8 g7 fn62) H := hP
              have hD : va_D A (wd_d5ef5423 h0 v0 h1 v1 x53 x54 x55 h2 h3 h4 h5 h6 h7 h8 v5 x2 r0 r1 r2 r3 v7 r4 r5 v8 v9 r6 r7 v10 v11 r8 v12 v13 r9 v14 w15 r10 v16 v17 r11 r12 r13 r14 r15 r16 v18 r17 r18 r19 v19 h1 g0 f20 h2 g1 fn56 h3 g2 fn57 h4 g3 fn58 h5 g4 fn59 h6 g5 fn60 h7 g6 fn61 h8 g7 fn62) := hD
              have hOt := hOt.app pt0_ra44
              refine lv_goto (tgt := 9) hx hb dX12_readLaw_40 (by decide) ?_
              refine lv_aload_n hx hb dX12_readLaw_9 rfl (lv_at hl 0 rfl) ?_
              refine va_get (D := (dC, dI)) (ci := 12) (v := .int x54) (C := RX12) (T := TX12) (N := 48) hx hb hts (fun _ h => List.mem_cons_of_mem _ (List.mem_append_right _ h)) hown hK hP 0 rfl rfl 4 (by decide) (hts (.fieldLink RX12 119 "LeftArgumentsModel" "wrong" "I") (List.mem_cons_of_mem _ (List.mem_append_left _ (List.mem_of_getElem? (i := 3) rfl)))) (fun _ h9 => h9) rfl dX12_readLaw_10 ?_
              refine lv_iconst (v := (-1)) hx hb dX12_readLaw_13 (by decide) ?_
              refine lv_icmp_ne (tgt := 43) hx hb dX12_readLaw_14 (by decide) (fun _ => ?_) (fun c63 => by exfalso; have fc63 : x54.toInt = (-1) := congrArg Int32.toInt c63; omega)
              refine lv_aload_n hx hb dX12_readLaw_43 rfl (lv_at hl 0 rfl) ?_
              have hPc := hP.sub (ws' := (wd_171f232f h0 v0 h1 v1 x53 x54 x55 h2 h3 h4 h5 h6 h7 h8 v5 x2 r0 r1 r2 r3 v7 r4 r5 v8 v9 r6 r7 v10 v11 r8 v12 v13 r9 v14 w15 r10 v16 v17 r11 r12 r13 r14 r15 r16 v18 r17 r18 r19 v19)) [0] rfl
              have hDc := hD.sub (ws' := (wd_171f232f h0 v0 h1 v1 x53 x54 x55 h2 h3 h4 h5 h6 h7 h8 v5 x2 r0 r1 r2 r3 v7 r4 r5 v8 v9 r6 r7 v10 v11 r8 v12 v13 r9 v14 w15 r10 v16 v17 r11 r12 r13 r14 r15 r16 v18 r17 r18 r19 v19)) [0] (by decide) rfl
              have hKc := hK.sub (tys' := []) [] rfl
              have hFc := va_free (wc := (wd_171f232f h0 v0 h1 v1 x53 x54 x55 h2 h3 h4 h5 h6 h7 h8 v5 x2 r0 r1 r2 r3 v7 r4 r5 v8 v9 r6 r7 v10 v11 r8 v12 v13 r9 v14 w15 r10 v16 v17 r11 r12 r13 r14 r15 r16 v18 r17 r18 r19 v19)) hD hS hA [0] rfl
              refine va_calli (va_runV (As := []) (rest := []) ⟨hx, hb, hml, hown, hts⟩ (k_X12_atEnd_1 l dC dI h0 v0 h1 v1 x53 x54 x55 h2 h3 h4 h5 h6 h7 h8 v5 x2 r0 r1 r2 r3 v7 r4 r5 v8 v9 r6 r7 v10 v11 r8 v12 v13 r9 v14 w15 r10 v16 v17 r11 r12 r13 r14 r15 r16 v18 r17 r18 r19 v19 ⟨by first | omega | decide, by first | omega | decide⟩ ⟨by first | omega | decide, by first | omega | decide⟩ ⟨by first | omega | decide, by first | omega | decide⟩ ⟨by first | omega | decide, by first | omega | decide⟩ ⟨by first | omega | decide, by first | omega | decide⟩ ⟨by first | omega | decide, by first | omega | decide⟩ ⟨by first | omega | decide, by first | omega | decide⟩ ⟨by first | omega | decide, by first | omega | decide⟩ ⟨by first | omega | decide, by first | omega | decide⟩ ⟨by first | omega | decide, by first | omega | decide⟩ ⟨by first | omega | decide, by first | omega | decide⟩ H.size) (cwV 0 hts g_X12_readLaw_6 rfl rfl rfl (by decide +kernel) ⟨Nat.le_of_ble_eq_true rfl, Nat.le_of_ble_eq_true rfl⟩) ⟨fun a U g mk q => by obtain ⟨q0, q1, qP, qK, qD⟩ := q; exact ⟨q0, q1, qP, va_K.moved (u := U) (U := U.calling g mk a) (Vm.Alike.refl U.vm) qK, qD⟩, va_recv hKc hPc (ci := 12) (q0 := 0) rfl rfl, fun U hU hW => ⟨rfl, by rw [hU], by rw [hU]; exact hPc, va_K.moved hW.alike hKc, hDc.weaken (fun _ _ _ _ => trivial)⟩⟩ rfl rfl hl.1 rfl (lv_room (Nat.le_of_ble_eq_true rfl)) dX12_readLaw_44 ⟨Nat.le_of_ble_eq_true rfl, Nat.le_of_ble_eq_true rfl⟩) hS (fun q _ h => hFc q h) hFc (fun ra64 u t H1 locs ht hvm hwra64 hB hz1 hk1 hS => ?_)
              try rw [hwra64] at hB
              obtain ⟨pt0_ra64, pt1_ra64, hP1, hK1, hD1⟩ := hB
              rw [ht] at hP1
              obtain ⟨hP, hD⟩ := va_join (wr := (wd_f36c9d1b h1 g0 f20 h2 g1 fn56 h3 g2 fn57 h4 g3 fn58 h5 g4 fn59 h6 g5 fn60 h7 g6 fn61 h8 g7 fn62)) (w1 := (wd_171f232f h0 v0 h1 v1 x53 x54 x55 h2 h3 h4 h5 h6 h7 h8 v5 x2 r0 r1 r2 r3 v7 r4 r5 v8 v9 r6 r7 v10 v11 r8 v12 v13 r9 v14 w15 r10 v16 v17 r11 r12 r13 r14 r15 r16 v18 r17 r18 r19 v19)) hP hD [0] [1, 2, 3, 4, 5, 6, 7, 8] rfl rfl (by decide) (by decide) hk1 hFc hP1 hD1
              generalize H1 = H at hP hS ⊢
              have hP := hP.sub (ws' := (wd_d5ef5423 h0 v0 h1 v1 x53 x54 x55 h2 h3 h4 h5 h6 h7 h8 v5 x2 r0 r1 r2 r3 v7 r4 r5 v8 v9 r6 r7 v10 v11 r8 v12 v13 r9 v14 w15 r10 v16 v17 r11 r12 r13 r14 r15 r16 v18 r17 r18 r19 v19 h1 g0 f20 h2 g1 fn56 h3 g2 fn57 h4 g3 fn58 h5 g4 fn59 h6 g5 fn60 h7 g6 fn61 h8 g7 fn62)) [8, 0, 1, 2, 3, 4, 5, 6, 7] rfl
              have hD := hD.sub (ws' := (wd_d5ef5423 h0 v0 h1 v1 x53 x54 x55 h2 h3 h4 h5 h6 h7 h8 v5 x2 r0 r1 r2 r3 v7 r4 r5 v8 v9 r6 r7 v10 v11 r8 v12 v13 r9 v14 w15 r10 v16 v17 r11 r12 r13 r14 r15 r16 v18 r17 r18 r19 v19 h1 g0 f20 h2 g1 fn56 h3 g2 fn57 h4 g3 fn58 h5 g4 fn59 h6 g5 fn60 h7 g6 fn61 h8 g7 fn62)) [8, 0, 1, 2, 3, 4, 5, 6, 7] (by decide) rfl
              have hP : va_P (dC, dI) vwCl (wd_d5ef5423 h0 v0 h1 v1 x53 x54 x55 h2 h3 h4 h5 h6 h7 h8 v5 x2 r0 r1 r2 r3 v7 r4 r5 v8 v9 r6 r7 v10 v11 r8 v12 v13 r9 v14 w15 r10 v16 v17 r11 r12 r13 r14 r15 r16 v18 r17 r18 r19 v19 h1 g0 f20 h2 g1 fn56 h3 g2 fn57 h4 g3 fn58 h5 g4 fn59 h6 g5 fn60 h7 g6 fn61 h8 g7 fn62) H := hP
              have hD : va_D A (wd_d5ef5423 h0 v0 h1 v1 x53 x54 x55 h2 h3 h4 h5 h6 h7 h8 v5 x2 r0 r1 r2 r3 v7 r4 r5 v8 v9 r6 r7 v10 v11 r8 v12 v13 r9 v14 w15 r10 v16 v17 r11 r12 r13 r14 r15 r16 v18 r17 r18 r19 v19 h1 g0 f20 h2 g1 fn56 h3 g2 fn57 h4 g3 fn58 h5 g4 fn59 h6 g5 fn60 h7 g6 fn61 h8 g7 fn62) := hD
              subst hQ
              have hP9 := hP.sub (ws' := (wd_d5ef5423 h0 v0 h1 v1 x53 x54 x55 h2 h3 h4 h5 h6 h7 h8 v5 x2 r0 r1 r2 r3 v7 r4 r5 v8 v9 r6 r7 v10 v11 r8 v12 v13 r9 v14 w15 r10 v16 v17 r11 r12 r13 r14 r15 r16 v18 r17 r18 r19 v19 h1 g0 f20 h2 g1 fn56 h3 g2 fn57 h4 g3 fn58 h5 g4 fn59 h6 g5 fn60 h7 g6 fn61 h8 g7 fn62)) [0, 1, 2, 3, 4, 5, 6, 7, 8] rfl
              have hD9 := hD.sub (ws' := (wd_d5ef5423 h0 v0 h1 v1 x53 x54 x55 h2 h3 h4 h5 h6 h7 h8 v5 x2 r0 r1 r2 r3 v7 r4 r5 v8 v9 r6 r7 v10 v11 r8 v12 v13 r9 v14 w15 r10 v16 v17 r11 r12 r13 r14 r15 r16 v18 r17 r18 r19 v19 h1 g0 f20 h2 g1 fn56 h3 g2 fn57 h4 g3 fn58 h5 g4 fn59 h6 g5 fn60 h7 g6 fn61 h8 g7 fn62)) [0, 1, 2, 3, 4, 5, 6, 7, 8] (by decide) rfl
              have hK9 := hK.sub (tys' := []) [] rfl
              exact W.iret (v := ra64) hx hb hr (fun t ht hW => ⟨⟨ra64, ra64, rfl, rfl, Or.inr (⟨x53, x54, x55, x2, fn56, fn57, fn58, fn59, fn60, fn61, fn62, by first | omega | decide, by first | omega | decide, by first | omega | decide, by first | omega | decide, by first | omega | decide, by first | omega | decide, by first | omega | decide, by first | omega | decide, by exact hOt, by rw [ht]; exact hP9, va_K.moved hW.alike hK9, hD9⟩)⟩, hS.F ht⟩) hS.2.2 dX12_readLaw_47
    exact hL30 _ x6 fn7 fn8 fn9 fn10 fn11 fn12 fn13 H locs ls (by first | omega | decide) (by first | omega | decide) (by constructor <;> omega) (by constructor <;> omega) (by exact hRw) (by exact hOt) (Nat.lt_succ_self _) hP hD hS (lv_sub hl [0, 1] rfl)
  · skip
    obtain ⟨x65, x66, x67, fn68, fn69, fn70, fn71, fn72, fn73, fn74, oa_x65, ob_x65, oa_x66, ob_x66, pt0_ra5, hP1, hK1, hD1⟩ := hB
    rw [ht] at hP1
    obtain ⟨hP, hD⟩ := va_join (wr := []) (w1 := (wd_d5ef5423 h0 v0 h1 v1 x65 x66 x67 h2 h3 h4 h5 h6 h7 h8 v5 x2 r0 r1 r2 r3 v7 r4 r5 v8 v9 r6 r7 v10 v11 r8 v12 v13 r9 v14 w15 r10 v16 v17 r11 r12 r13 r14 r15 r16 v18 r17 r18 r19 v19 h1 g0 f20 h2 g1 fn68 h3 g2 fn69 h4 g3 fn70 h5 g4 fn71 h6 g5 fn72 h7 g6 fn73 h8 g7 fn74)) hP hD [0, 1, 2, 3, 4, 5, 6, 7, 8] [] rfl rfl (by decide) (by decide) hk1 hFc hP1 hD1
    generalize H1 = H at hP hS ⊢
    have hP : va_P (dC, dI) vwCl (wd_d5ef5423 h0 v0 h1 v1 x65 x66 x67 h2 h3 h4 h5 h6 h7 h8 v5 x2 r0 r1 r2 r3 v7 r4 r5 v8 v9 r6 r7 v10 v11 r8 v12 v13 r9 v14 w15 r10 v16 v17 r11 r12 r13 r14 r15 r16 v18 r17 r18 r19 v19 h1 g0 f20 h2 g1 fn68 h3 g2 fn69 h4 g3 fn70 h5 g4 fn71 h6 g5 fn72 h7 g6 fn73 h8 g7 fn74) H := hP
    have hD : va_D A (wd_d5ef5423 h0 v0 h1 v1 x65 x66 x67 h2 h3 h4 h5 h6 h7 h8 v5 x2 r0 r1 r2 r3 v7 r4 r5 v8 v9 r6 r7 v10 v11 r8 v12 v13 r9 v14 w15 r10 v16 v17 r11 r12 r13 r14 r15 r16 v18 r17 r18 r19 v19 h1 g0 f20 h2 g1 fn68 h3 g2 fn69 h4 g3 fn70 h5 g4 fn71 h6 g5 fn72 h7 g6 fn73 h8 g7 fn74) := hD
    have hOt := hOt.app pt0_ra5
    refine lv_aload_n hx hb dX12_readLaw_9 rfl (lv_at hl 0 rfl) ?_
    refine va_get (D := (dC, dI)) (ci := 12) (v := .int x66) (C := RX12) (T := TX12) (N := 48) hx hb hts (fun _ h => List.mem_cons_of_mem _ (List.mem_append_right _ h)) hown hK hP 0 rfl rfl 4 (by decide) (hts (.fieldLink RX12 119 "LeftArgumentsModel" "wrong" "I") (List.mem_cons_of_mem _ (List.mem_append_left _ (List.mem_of_getElem? (i := 3) rfl)))) (fun _ h9 => h9) rfl dX12_readLaw_10 ?_
    refine lv_iconst (v := (-1)) hx hb dX12_readLaw_13 (by decide) ?_
    refine lv_icmp_ne (tgt := 43) hx hb dX12_readLaw_14 (by decide) (fun _ => ?_) (fun c75 => by exfalso; have fc75 : x66.toInt = (-1) := congrArg Int32.toInt c75; omega)
    refine lv_aload_n hx hb dX12_readLaw_43 rfl (lv_at hl 0 rfl) ?_
    have hPc := hP.sub (ws' := (wd_171f232f h0 v0 h1 v1 x65 x66 x67 h2 h3 h4 h5 h6 h7 h8 v5 x2 r0 r1 r2 r3 v7 r4 r5 v8 v9 r6 r7 v10 v11 r8 v12 v13 r9 v14 w15 r10 v16 v17 r11 r12 r13 r14 r15 r16 v18 r17 r18 r19 v19)) [0] rfl
    have hDc := hD.sub (ws' := (wd_171f232f h0 v0 h1 v1 x65 x66 x67 h2 h3 h4 h5 h6 h7 h8 v5 x2 r0 r1 r2 r3 v7 r4 r5 v8 v9 r6 r7 v10 v11 r8 v12 v13 r9 v14 w15 r10 v16 v17 r11 r12 r13 r14 r15 r16 v18 r17 r18 r19 v19)) [0] (by decide) rfl
    have hKc := hK.sub (tys' := []) [] rfl
    have hFc := va_free (wc := (wd_171f232f h0 v0 h1 v1 x65 x66 x67 h2 h3 h4 h5 h6 h7 h8 v5 x2 r0 r1 r2 r3 v7 r4 r5 v8 v9 r6 r7 v10 v11 r8 v12 v13 r9 v14 w15 r10 v16 v17 r11 r12 r13 r14 r15 r16 v18 r17 r18 r19 v19)) hD hS hA [0] rfl
    refine va_calli (va_runV (As := []) (rest := []) ⟨hx, hb, hml, hown, hts⟩ (k_X12_atEnd_1 l dC dI h0 v0 h1 v1 x65 x66 x67 h2 h3 h4 h5 h6 h7 h8 v5 x2 r0 r1 r2 r3 v7 r4 r5 v8 v9 r6 r7 v10 v11 r8 v12 v13 r9 v14 w15 r10 v16 v17 r11 r12 r13 r14 r15 r16 v18 r17 r18 r19 v19 ⟨by first | omega | decide, by first | omega | decide⟩ ⟨by first | omega | decide, by first | omega | decide⟩ ⟨by first | omega | decide, by first | omega | decide⟩ ⟨by first | omega | decide, by first | omega | decide⟩ ⟨by first | omega | decide, by first | omega | decide⟩ ⟨by first | omega | decide, by first | omega | decide⟩ ⟨by first | omega | decide, by first | omega | decide⟩ ⟨by first | omega | decide, by first | omega | decide⟩ ⟨by first | omega | decide, by first | omega | decide⟩ ⟨by first | omega | decide, by first | omega | decide⟩ ⟨by first | omega | decide, by first | omega | decide⟩ H.size) (cwV 0 hts g_X12_readLaw_6 rfl rfl rfl (by decide +kernel) ⟨Nat.le_of_ble_eq_true rfl, Nat.le_of_ble_eq_true rfl⟩) ⟨fun a U g mk q => by obtain ⟨q0, q1, qP, qK, qD⟩ := q; exact ⟨q0, q1, qP, va_K.moved (u := U) (U := U.calling g mk a) (Vm.Alike.refl U.vm) qK, qD⟩, va_recv hKc hPc (ci := 12) (q0 := 0) rfl rfl, fun U hU hW => ⟨rfl, by rw [hU], by rw [hU]; exact hPc, va_K.moved hW.alike hKc, hDc.weaken (fun _ _ _ _ => trivial)⟩⟩ rfl rfl hl.1 rfl (lv_room (Nat.le_of_ble_eq_true rfl)) dX12_readLaw_44 ⟨Nat.le_of_ble_eq_true rfl, Nat.le_of_ble_eq_true rfl⟩) hS (fun q _ h => hFc q h) hFc (fun ra76 u t H1 locs ht hvm hwra76 hB hz1 hk1 hS => ?_)
    try rw [hwra76] at hB
    obtain ⟨pt0_ra76, pt1_ra76, hP1, hK1, hD1⟩ := hB
    rw [ht] at hP1
    obtain ⟨hP, hD⟩ := va_join (wr := (wd_f36c9d1b h1 g0 f20 h2 g1 fn68 h3 g2 fn69 h4 g3 fn70 h5 g4 fn71 h6 g5 fn72 h7 g6 fn73 h8 g7 fn74)) (w1 := (wd_171f232f h0 v0 h1 v1 x65 x66 x67 h2 h3 h4 h5 h6 h7 h8 v5 x2 r0 r1 r2 r3 v7 r4 r5 v8 v9 r6 r7 v10 v11 r8 v12 v13 r9 v14 w15 r10 v16 v17 r11 r12 r13 r14 r15 r16 v18 r17 r18 r19 v19)) hP hD [0] [1, 2, 3, 4, 5, 6, 7, 8] rfl rfl (by decide) (by decide) hk1 hFc hP1 hD1
    generalize H1 = H at hP hS ⊢
    have hP := hP.sub (ws' := (wd_d5ef5423 h0 v0 h1 v1 x65 x66 x67 h2 h3 h4 h5 h6 h7 h8 v5 x2 r0 r1 r2 r3 v7 r4 r5 v8 v9 r6 r7 v10 v11 r8 v12 v13 r9 v14 w15 r10 v16 v17 r11 r12 r13 r14 r15 r16 v18 r17 r18 r19 v19 h1 g0 f20 h2 g1 fn68 h3 g2 fn69 h4 g3 fn70 h5 g4 fn71 h6 g5 fn72 h7 g6 fn73 h8 g7 fn74)) [8, 0, 1, 2, 3, 4, 5, 6, 7] rfl
    have hD := hD.sub (ws' := (wd_d5ef5423 h0 v0 h1 v1 x65 x66 x67 h2 h3 h4 h5 h6 h7 h8 v5 x2 r0 r1 r2 r3 v7 r4 r5 v8 v9 r6 r7 v10 v11 r8 v12 v13 r9 v14 w15 r10 v16 v17 r11 r12 r13 r14 r15 r16 v18 r17 r18 r19 v19 h1 g0 f20 h2 g1 fn68 h3 g2 fn69 h4 g3 fn70 h5 g4 fn71 h6 g5 fn72 h7 g6 fn73 h8 g7 fn74)) [8, 0, 1, 2, 3, 4, 5, 6, 7] (by decide) rfl
    have hP : va_P (dC, dI) vwCl (wd_d5ef5423 h0 v0 h1 v1 x65 x66 x67 h2 h3 h4 h5 h6 h7 h8 v5 x2 r0 r1 r2 r3 v7 r4 r5 v8 v9 r6 r7 v10 v11 r8 v12 v13 r9 v14 w15 r10 v16 v17 r11 r12 r13 r14 r15 r16 v18 r17 r18 r19 v19 h1 g0 f20 h2 g1 fn68 h3 g2 fn69 h4 g3 fn70 h5 g4 fn71 h6 g5 fn72 h7 g6 fn73 h8 g7 fn74) H := hP
    have hD : va_D A (wd_d5ef5423 h0 v0 h1 v1 x65 x66 x67 h2 h3 h4 h5 h6 h7 h8 v5 x2 r0 r1 r2 r3 v7 r4 r5 v8 v9 r6 r7 v10 v11 r8 v12 v13 r9 v14 w15 r10 v16 v17 r11 r12 r13 r14 r15 r16 v18 r17 r18 r19 v19 h1 g0 f20 h2 g1 fn68 h3 g2 fn69 h4 g3 fn70 h5 g4 fn71 h6 g5 fn72 h7 g6 fn73 h8 g7 fn74) := hD
    subst hQ
    have hP9 := hP.sub (ws' := (wd_d5ef5423 h0 v0 h1 v1 x65 x66 x67 h2 h3 h4 h5 h6 h7 h8 v5 x2 r0 r1 r2 r3 v7 r4 r5 v8 v9 r6 r7 v10 v11 r8 v12 v13 r9 v14 w15 r10 v16 v17 r11 r12 r13 r14 r15 r16 v18 r17 r18 r19 v19 h1 g0 f20 h2 g1 fn68 h3 g2 fn69 h4 g3 fn70 h5 g4 fn71 h6 g5 fn72 h7 g6 fn73 h8 g7 fn74)) [0, 1, 2, 3, 4, 5, 6, 7, 8] rfl
    have hD9 := hD.sub (ws' := (wd_d5ef5423 h0 v0 h1 v1 x65 x66 x67 h2 h3 h4 h5 h6 h7 h8 v5 x2 r0 r1 r2 r3 v7 r4 r5 v8 v9 r6 r7 v10 v11 r8 v12 v13 r9 v14 w15 r10 v16 v17 r11 r12 r13 r14 r15 r16 v18 r17 r18 r19 v19 h1 g0 f20 h2 g1 fn68 h3 g2 fn69 h4 g3 fn70 h5 g4 fn71 h6 g5 fn72 h7 g6 fn73 h8 g7 fn74)) [0, 1, 2, 3, 4, 5, 6, 7, 8] (by decide) rfl
    have hK9 := hK.sub (tys' := []) [] rfl
    exact W.iret (v := ra76) hx hb hr (fun t ht hW => ⟨⟨ra76, ra76, rfl, rfl, Or.inr (⟨x65, x66, x67, x2, fn68, fn69, fn70, fn71, fn72, fn73, fn74, by first | omega | decide, by first | omega | decide, by first | omega | decide, by first | omega | decide, by first | omega | decide, by first | omega | decide, by first | omega | decide, by first | omega | decide, by exact hOt, by rw [ht]; exact hP9, va_K.moved hW.alike hK9, hD9⟩)⟩, hS.F ht⟩) hS.2.2 dX12_readLaw_47
def q_X12_isWhole : List Cond := .code yX12_isWhole cX12_isWhole 3 (some .boolean) :: (([.fieldLink RX12 241 "LeftArgumentsModel" "readBags" "I", .fieldLink RX12 43 "LeftArgumentsModel" "readBag" "[I", .fieldLink RX12 40 "LeftArgumentsModel" "readRule" "[I"] : List Cond) ++ wsX120)
set_option maxHeartbeats 4000000 in
set_option maxRecDepth 100000 in
theorem k_X12_isWhole (l : Launch) (dC : Nat → ClassId) (dI : Nat → Nat → Nat) (h0 : Nat) (h1 : Nat) (h2 : Nat) (v0 : Int32) (r0 : Nat) (v1 : Int32) (v2 : Int32) (v3 : Int32) (v4 : Int32) (r1 : Nat) (r2 : Nat) (r3 : Nat) (r4 : Nat) (r5 : Nat) (r6 : Nat) (r7 : Nat) (v5 : Int32) (v6 : Int32) (r8 : Nat) (r9 : Nat) (v7 : Int32) (r10 : Nat) (r11 : Nat) (v8 : Int32) (v9 : Int32) (r12 : Nat) (r13 : Nat) (v10 : Int32) (v11 : Int32) (r14 : Nat) (v12 : Int32) (v13 : Int32) (r15 : Nat) (v14 : Int32) (w15 : Int64) (r16 : Nat) (v16 : Int32) (v17 : Int32) (r17 : Nat) (r18 : Nat) (r19 : Nat) (r20 : Nat) (r21 : Nat) (r22 : Nat) (v18 : Int32) (r23 : Nat) (r24 : Nat) (r25 : Nat) (v19 : Int32) (g0 : ClassId) (f20 : Nat → Int32) (g1 : ClassId) (f21 : Nat → Int32) (i_v1 : 0 ≤ v1.toInt ∧ v1.toInt ≤ 240) (i_v5 : 0 ≤ v5.toInt ∧ v5.toInt ≤ 4) (i_v6 : 0 ≤ v6.toInt ∧ v6.toInt ≤ 4) (i_v7 : 0 ≤ v7.toInt ∧ v7.toInt ≤ 8) (i_v8 : 0 ≤ v8.toInt ∧ v8.toInt ≤ 8) (i_v9 : 0 ≤ v9.toInt ∧ v9.toInt ≤ 1) (i_v10 : -1 ≤ v10.toInt ∧ v10.toInt ≤ 3) (i_v14 : 0 ≤ v14.toInt ∧ v14.toInt ≤ 40) (i_v18 : 0 ≤ v18.toInt ∧ v18.toInt ≤ 10) (i_v19 : 0 ≤ v19.toInt ∧ v19.toInt ≤ 1) (sz : Nat) : Met l yX12_isWhole q_X12_isWhole ({ frames := 0, cells := 0, slots := 0, locals := 0 }) (va_Pc [.ref h0] (fun U => U.heap.size = sz ∧ va_P (dC, dI) vwCl (wd_4d81ce87 h0 v0 r0 v1 v2 v3 v4 r1 r2 r3 r4 r5 r6 r7 v5 v6 r8 r9 h1 h2 v7 r10 r11 v8 v9 r12 r13 v10 v11 r14 v12 v13 r15 v14 w15 r16 v16 v17 r17 r18 r19 r20 r21 r22 v18 r23 r24 r25 v19 h1 g0 f20 h2 g1 f21) U.heap ∧ va_K (dC, dI) vwCl [(g0, .int), (g1, .int)] U ∧ va_D (fun _ => True) (wd_4d81ce87 h0 v0 r0 v1 v2 v3 v4 r1 r2 r3 r4 r5 r6 r7 v5 v6 r8 r9 h1 h2 v7 r10 r11 v8 v9 r12 r13 v10 v11 r14 v12 v13 r15 v14 w15 r16 v16 v17 r17 r18 r19 r20 r21 r22 v18 r23 r24 r25 v19 h1 g0 f20 h2 g1 f21))) (va_Qi (fun (r : Int32) (r9 : Int32) => r9 = r) (fun (r : Int32) (t : State) => ((0 ≤ r.toInt) ∧ (r.toInt ≤ 1) ∧ va_P (dC, dI) vwCl (wd_4d81ce87 h0 v0 r0 v1 v2 v3 v4 r1 r2 r3 r4 r5 r6 r7 v5 v6 r8 r9 h1 h2 v7 r10 r11 v8 v9 r12 r13 v10 v11 r14 v12 v13 r15 v14 w15 r16 v16 v17 r17 r18 r19 r20 r21 r22 v18 r23 r24 r25 v19 h1 g0 f20 h2 g1 f21) t.heap ∧ va_K (dC, dI) vwCl [] t ∧ va_D (va_A (wd_4d81ce87 h0 v0 r0 v1 v2 v3 v4 r1 r2 r3 r4 r5 r6 r7 v5 v6 r8 r9 h1 h2 v7 r10 r11 v8 v9 r12 r13 v10 v11 r14 v12 v13 r15 v14 w15 r16 v16 v17 r17 r18 r19 r20 r21 r22 v18 r23 r24 r25 v19 h1 g0 f20 h2 g1 f21) sz) (wd_4d81ce87 h0 v0 r0 v1 v2 v3 v4 r1 r2 r3 r4 r5 r6 r7 v5 v6 r8 r9 h1 h2 v7 r10 r11 v8 v9 r12 r13 v10 v11 r14 v12 v13 r15 v14 w15 r16 v16 v17 r17 r18 r19 r20 r21 r22 v18 r23 r24 r25 v19 h1 g0 f20 h2 g1 f21))) (va_A (wd_4d81ce87 h0 v0 r0 v1 v2 v3 v4 r1 r2 r3 r4 r5 r6 r7 v5 v6 r8 r9 h1 h2 v7 r10 r11 v8 v9 r12 r13 v10 v11 r14 v12 v13 r15 v14 w15 r16 v16 v17 r17 r18 r19 r20 r21 r22 v18 r23 r24 r25 v19 h1 g0 f20 h2 g1 f21) sz)) 0 0 (va_A (wd_4d81ce87 h0 v0 r0 v1 v2 v3 v4 r1 r2 r3 r4 r5 r6 r7 v5 v6 r8 r9 h1 h2 v7 r10 r11 v8 v9 r12 r13 v10 v11 r14 v12 v13 r15 v14 w15 r16 v16 v17 r17 r18 r19 r20 r21 r22 v18 r23 r24 r25 v19 h1 g0 f20 h2 g1 f21) sz) := by
  refine Met.ofW (cc := cX12_isWhole) (maxL := 3) (ret := (some .boolean)) (by decide) rfl ?_
  intro p e s m args below meth c s₁ B hml hv
  obtain ⟨i_v1a, i_v1b⟩ := i_v1
  obtain ⟨i_v5a, i_v5b⟩ := i_v5
  obtain ⟨i_v6a, i_v6b⟩ := i_v6
  obtain ⟨i_v7a, i_v7b⟩ := i_v7
  obtain ⟨i_v8a, i_v8b⟩ := i_v8
  obtain ⟨i_v9a, i_v9b⟩ := i_v9
  obtain ⟨i_v10a, i_v10b⟩ := i_v10
  obtain ⟨i_v14a, i_v14b⟩ := i_v14
  obtain ⟨i_v18a, i_v18b⟩ := i_v18
  obtain ⟨i_v19a, i_v19b⟩ := i_v19
  obtain ⟨rfl, hsz, hP, hK, hD0⟩ := hv
  have hx := B.exec
  have hb := B.bytes
  have hr := B.returns
  have hts := atoms_spec (ws := q_X12_isWhole) B.pre
  have hown : s.vm.findClass RX12 = some m.cls := findClass_of_methodNamed B.named
  have hlocks := B.notSynchronized
  subst hsz
  have hD := hD0.self (sz := s.heap.size)
  generalize hAe : va_A (wd_4d81ce87 h0 v0 r0 v1 v2 v3 v4 r1 r2 r3 r4 r5 r6 r7 v5 v6 r8 r9 h1 h2 v7 r10 r11 v8 v9 r12 r13 v10 v11 r14 v12 v13 r15 v14 w15 r16 v16 v17 r17 r18 r19 r20 r21 r22 v18 r23 r24 r25 v19 h1 g0 f20 h2 g1 f21) s.heap.size = A at hD ⊢
  have hA : ∀ q : Nat, s.heap.size ≤ q → A q := fun q h => by rw [← hAe]; exact Or.inr h
  have hS : va_S A s.heap s.heap [] := va_S.rf
  generalize hQ : (MQ below _ _ s 0 0 A) = Q
  have hl := lv_entry ([.ref h0]) (n := 3) (Nat.le_of_ble_eq_true rfl)
  rw [lg_entry_eq]
  generalize (lg_sl ([.ref h0]) ++ List.replicate (3 - (lg_sl ([.ref h0])).length) Slot.unset).toArray = ls at hl ⊢
  have hl : lv_has ls 3 [(0, .ref h0)] := hl
  obtain ⟨H, hH⟩ : ∃ H : Heap, H = s.heap := ⟨_, rfl⟩
  obtain ⟨locs, hlocs⟩ : ∃ y : List Loc, y = [] := ⟨_, rfl⟩
  have hS : va_S A s.heap H locs := by rw [hH, hlocs]; exact va_S.rf
  have hP : va_P (dC, dI) vwCl (wd_4d81ce87 h0 v0 r0 v1 v2 v3 v4 r1 r2 r3 r4 r5 r6 r7 v5 v6 r8 r9 h1 h2 v7 r10 r11 v8 v9 r12 r13 v10 v11 r14 v12 v13 r15 v14 w15 r16 v16 v17 r17 r18 r19 r20 r21 r22 v18 r23 r24 r25 v19 h1 g0 f20 h2 g1 f21) H := by rw [hH]; exact hP
  rw [← hH, ← hlocs]
  refine lv_iconst (v := 1) hx hb dX12_isWhole_0 (by decide) ?_
  refine lv_istore_n (lv' := [(1, .int 1), (0, .ref h0)]) hx hb dX12_isWhole_1 rfl hl (by decide) rfl (fun ls hl => ?_)
  refine lv_iconst (v := 0) hx hb dX12_isWhole_2 (by decide) ?_
  refine lv_istore_n (lv' := [(2, .int 0), (1, .int 1), (0, .ref h0)]) hx hb dX12_isWhole_3 rfl hl (by decide) rfl (fun ls hl => ?_)
  have hL19 : ∀ (n9 : Nat), ∀ (x15 : Int32) (x16 : Int32) (H : Heap) (locs : List Loc) (ls : Array Slot), 0 ≤ x15.toInt → x15.toInt ≤ 8 → 0 ≤ x16.toInt → x16.toInt ≤ 1 → (8 - x15.toInt).toNat < n9 → va_P (dC, dI) vwCl (wd_4d81ce87 h0 v0 r0 v1 v2 v3 v4 r1 r2 r3 r4 r5 r6 r7 v5 v6 r8 r9 h1 h2 v7 r10 r11 v8 v9 r12 r13 v10 v11 r14 v12 v13 r15 v14 w15 r16 v16 v17 r17 r18 r19 r20 r21 r22 v18 r23 r24 r25 v19 h1 g0 f20 h2 g1 f21) H → va_D A (wd_4d81ce87 h0 v0 r0 v1 v2 v3 v4 r1 r2 r3 r4 r5 r6 r7 v5 v6 r8 r9 h1 h2 v7 r10 r11 v8 v9 r12 r13 v10 v11 r14 v12 v13 r15 v14 w15 r16 v16 v17 r17 r18 r19 r20 r21 r22 v18 r23 r24 r25 v19 h1 g0 f20 h2 g1 f21) → va_S A s.heap H locs → lv_has ls 3 [(2, .int x15), (1, .int x16), (0, .ref h0)] → W p l e ({ frames := 0, cells := 0, slots := 0, locals := 0 }) s m ([.ref h0] : List Value).toArray below meth c H locs 0 0 Q (F0 m 4 ls []) := by
    intro n9
    induction n9 with
    | zero => intro x15 x16 H locs ls qa_x15 qb_x15 qa_x16 qb_x16 hm9 hP hD hS hl; exact absurd hm9 (Nat.not_lt_zero _)
    | succ n9 ih_hL19 =>
      intro x15 x16 H locs ls qa_x15 qb_x15 qa_x16 qb_x16 hm9 hP hD hS hl
      refine lv_iload_n hx hb dX12_isWhole_4 rfl (lv_at hl 0 rfl) ?_
      refine lv_aload_n hx hb dX12_isWhole_5 rfl (lv_at hl 2 rfl) ?_
      refine va_get (D := (dC, dI)) (ci := 12) (v := .int v7) (C := RX12) (T := TX12) (N := 48) hx hb hts (fun _ h => List.mem_cons_of_mem _ (List.mem_append_right _ h)) hown hK hP 0 rfl rfl 19 (by decide) (hts (.fieldLink RX12 241 "LeftArgumentsModel" "readBags" "I") (List.mem_cons_of_mem _ (List.mem_append_left _ (List.mem_of_getElem? (i := 0) rfl)))) (fun _ h9 => h9) rfl dX12_isWhole_6 ?_
      refine lv_icmp_ge (tgt := 47) hx hb dX12_isWhole_9 (by decide) (fun c20 => ?_) (fun c20 => ?_)
      · skip
        have fc20 : v7.toInt ≤ x15.toInt := Int32.le_iff_toInt_le.mp c20
        have r1c20 := Int32.toInt_lt x15
        have r2c20 := Int32.toInt_lt v7
        have r3c20 := Int32.le_toInt x15
        have r4c20 := Int32.le_toInt v7
        refine lv_iload_n hx hb dX12_isWhole_47 rfl (lv_at hl 1 rfl) ?_
        subst hQ
        have hP9 := hP.sub (ws' := (wd_4d81ce87 h0 v0 r0 v1 v2 v3 v4 r1 r2 r3 r4 r5 r6 r7 v5 v6 r8 r9 h1 h2 v7 r10 r11 v8 v9 r12 r13 v10 v11 r14 v12 v13 r15 v14 w15 r16 v16 v17 r17 r18 r19 r20 r21 r22 v18 r23 r24 r25 v19 h1 g0 f20 h2 g1 f21)) [0, 1, 2] rfl
        have hD9 := hD.sub (ws' := (wd_4d81ce87 h0 v0 r0 v1 v2 v3 v4 r1 r2 r3 r4 r5 r6 r7 v5 v6 r8 r9 h1 h2 v7 r10 r11 v8 v9 r12 r13 v10 v11 r14 v12 v13 r15 v14 w15 r16 v16 v17 r17 r18 r19 r20 r21 r22 v18 r23 r24 r25 v19 h1 g0 f20 h2 g1 f21)) [0, 1, 2] (by decide) rfl
        have hK9 := hK.sub (tys' := []) [] rfl
        exact W.zret (v := x16) hx hb hr (pv_nz (by omega) (by omega)) (fun t ht hW => ⟨⟨x16, x16, rfl, rfl, ⟨by first | omega | decide, by first | omega | decide, by rw [ht]; exact hP9, va_K.moved hW.alike hK9, hD9⟩⟩, hS.F ht⟩) hS.2.2 dX12_isWhole_48
      · skip
        have fc20 : ¬ (v7.toInt ≤ x15.toInt) := fun h9 => c20 (Int32.le_iff_toInt_le.mpr h9)
        have r1c20 := Int32.toInt_lt x15
        have r2c20 := Int32.toInt_lt v7
        have r3c20 := Int32.le_toInt x15
        have r4c20 := Int32.le_toInt v7
        refine lv_iload_n hx hb dX12_isWhole_12 rfl (lv_at hl 1 rfl) ?_
        have hJ22 : ∀ (x21 : Int32) (H : Heap) (locs : List Loc) (ls : Array Slot), 0 ≤ x21.toInt → x21.toInt ≤ 1 → va_P (dC, dI) vwCl (wd_4d81ce87 h0 v0 r0 v1 v2 v3 v4 r1 r2 r3 r4 r5 r6 r7 v5 v6 r8 r9 h1 h2 v7 r10 r11 v8 v9 r12 r13 v10 v11 r14 v12 v13 r15 v14 w15 r16 v16 v17 r17 r18 r19 r20 r21 r22 v18 r23 r24 r25 v19 h1 g0 f20 h2 g1 f21) H → va_D A (wd_4d81ce87 h0 v0 r0 v1 v2 v3 v4 r1 r2 r3 r4 r5 r6 r7 v5 v6 r8 r9 h1 h2 v7 r10 r11 v8 v9 r12 r13 v10 v11 r14 v12 v13 r15 v14 w15 r16 v16 v17 r17 r18 r19 r20 r21 r22 v18 r23 r24 r25 v19 h1 g0 f20 h2 g1 f21) → va_S A s.heap H locs → lv_has ls 3 [(2, .int x15), (1, .int x16), (0, .ref h0)] → W p l e ({ frames := 0, cells := 0, slots := 0, locals := 0 }) s m ([.ref h0] : List Value).toArray below meth c H locs 0 0 Q (F0 m 40 ls [.int x21]) := by
          intro x21 H locs ls qa_x21 qb_x21 hP hD hS hl
          refine lv_istore_n (lv' := [(1, .int x21), (2, .int x15), (0, .ref h0)]) hx hb dX12_isWhole_40 rfl hl (by decide) rfl (fun ls hl => ?_)
          obtain ⟨t23, et23⟩ : ∃ y : Int32, y = x15 + 1 := ⟨_, rfl⟩
          have gt23 : t23.toInt = x15.toInt + (1) := pv_add (a := x15.toInt) (b := (1)) et23 rfl (by decide) (by omega) (by omega)
          refine lv_iinc (v := t23) (lv' := [(2, .int t23), (1, .int x21), (0, .ref h0)]) hx hb dX12_isWhole_41 hl (k := 1) rfl (by rw [et23]; rfl) (by decide) rfl (fun ls hl => ?_)
          refine lv_goto (tgt := 4) hx hb dX12_isWhole_44 (by decide) ?_
          exact ih_hL19 t23 x21 H locs ls (by first | omega | decide) (by first | omega | decide) (by first | omega | decide) (by first | omega | decide) (by first | omega | (simp only [Int.toNat] at *; omega)) hP hD hS (lv_sub hl [0, 1, 2] rfl)
        refine lv_if_eq (tgt := 39) hx hb dX12_isWhole_13 (by decide) (fun c24 => ?_) (fun c24 => ?_)
        · skip
          have fc24 : x16.toInt = 0 := congrArg Int32.toInt c24
          refine lv_iconst (v := 0) hx hb dX12_isWhole_39 (by decide) ?_
          exact hJ22 0 H locs ls (by first | omega | decide) (by first | omega | decide) hP hD hS (lv_sub hl [0, 1, 2] rfl)
        · skip
          have fc24 : ¬ (x16.toInt = 0) := fun h9 => c24 (Int32.toInt_inj.mp h9)
          refine lv_aload_n hx hb dX12_isWhole_16 rfl (lv_at hl 2 rfl) ?_
          refine va_get (D := (dC, dI)) (ci := 12) (v := .ref h2) (C := RX12) (T := TX12) (N := 48) hx hb hts (fun _ h => List.mem_cons_of_mem _ (List.mem_append_right _ h)) hown hK hP 0 rfl rfl 18 (by decide) (hts (.fieldLink RX12 43 "LeftArgumentsModel" "readBag" "[I") (List.mem_cons_of_mem _ (List.mem_append_left _ (List.mem_of_getElem? (i := 1) rfl)))) (fun _ h9 => h9) rfl dX12_isWhole_17 ?_
          refine lv_iconst (v := 5) hx hb dX12_isWhole_20 (by decide) ?_
          refine lv_iload_n hx hb dX12_isWhole_21 rfl (lv_at hl 0 rfl) ?_
          refine lv_imul hx hb dX12_isWhole_22 ?_
          refine lv_topi (fun t25 et25 => ?_)
          have gt25 : t25.toInt = 5 * x15.toInt := pv_mul (a := 5) (b := x15.toInt) et25 (by decide) rfl (by omega) (by omega)
          refine lv_iconst (v := 3) hx hb dX12_isWhole_23 (by decide) ?_
          refine lv_iadd hx hb dX12_isWhole_24 ?_
          refine lv_topi (fun t26 et26 => ?_)
          have gt26 : t26.toInt = t25.toInt + 3 := pv_add (a := t25.toInt) (b := 3) et26 rfl (by decide) (by omega) (by omega)
          refine va_iald hx hb hK hP 2 1 rfl rfl (vp_in_iff.mpr ⟨by omega, by omega⟩) dX12_isWhole_25 ?_
          refine lv_topi (fun t27 et27 => ?_)
          refine lv_aload_n hx hb dX12_isWhole_26 rfl (lv_at hl 2 rfl) ?_
          refine va_get (D := (dC, dI)) (ci := 12) (v := .ref h1) (C := RX12) (T := TX12) (N := 48) hx hb hts (fun _ h => List.mem_cons_of_mem _ (List.mem_append_right _ h)) hown hK hP 0 rfl rfl 17 (by decide) (hts (.fieldLink RX12 40 "LeftArgumentsModel" "readRule" "[I") (List.mem_cons_of_mem _ (List.mem_append_left _ (List.mem_of_getElem? (i := 2) rfl)))) (fun _ h9 => h9) rfl dX12_isWhole_27 ?_
          refine lv_iconst (v := 1) hx hb dX12_isWhole_30 (by decide) ?_
          refine va_iald hx hb hK hP 1 0 rfl rfl (pv_c (x := 1) (n := 4) (by decide)) dX12_isWhole_31 ?_
          refine lv_topi (fun t28 et28 => ?_)
          refine lv_icmp_ge (tgt := 39) hx hb dX12_isWhole_32 (by decide) (fun c29 => ?_) (fun c29 => ?_)
          · skip
            have fc29 : t28.toInt ≤ t27.toInt := Int32.le_iff_toInt_le.mp c29
            have r1c29 := Int32.toInt_lt t27
            have r2c29 := Int32.toInt_lt t28
            have r3c29 := Int32.le_toInt t27
            have r4c29 := Int32.le_toInt t28
            refine lv_iconst (v := 0) hx hb dX12_isWhole_39 (by decide) ?_
            exact hJ22 0 H locs ls (by first | omega | decide) (by first | omega | decide) hP hD hS (lv_sub hl [0, 1, 2] rfl)
          · skip
            have fc29 : ¬ (t28.toInt ≤ t27.toInt) := fun h9 => c29 (Int32.le_iff_toInt_le.mpr h9)
            have r1c29 := Int32.toInt_lt t27
            have r2c29 := Int32.toInt_lt t28
            have r3c29 := Int32.le_toInt t27
            have r4c29 := Int32.le_toInt t28
            refine lv_iconst (v := 1) hx hb dX12_isWhole_35 (by decide) ?_
            refine lv_goto (tgt := 40) hx hb dX12_isWhole_36 (by decide) ?_
            exact hJ22 1 H locs ls (by first | omega | decide) (by first | omega | decide) hP hD hS (lv_sub hl [0, 1, 2] rfl)
  exact hL19 _ 0 1 H locs ls (by first | omega | decide) (by first | omega | decide) (by first | omega | decide) (by first | omega | decide) (Nat.lt_succ_self _) hP hD hS (lv_sub hl [0, 1, 2] rfl)
def q_X12_usual : List Cond := .code yX12_usual cX12_usual 2 (some .int) :: (([] : List Cond))
set_option maxHeartbeats 4000000 in
set_option maxRecDepth 100000 in
theorem k_X12_usual (l : Launch) (dC : Nat → ClassId) (dI : Nat → Nat → Nat)  (sz : Nat) : Met l yX12_usual q_X12_usual ({ frames := 0, cells := 0, slots := 0, locals := 0 }) (va_Pc [.int 115, .int 0] (fun U => U.heap.size = sz ∧ va_P (dC, dI) vwCl [] U.heap ∧ va_K (dC, dI) vwCl [] U ∧ va_D (fun _ => True) [])) (va_Qi (fun (r : Int32) (r9 : Int32) => r9 = r) (fun (r : Int32) (t : State) => ((20 ≤ r.toInt) ∧ (r.toInt ≤ 20) ∧ va_P (dC, dI) vwCl [] t.heap ∧ va_K (dC, dI) vwCl [] t ∧ va_D (va_A [] sz) [])) (va_A [] sz)) 0 0 (va_A [] sz) := by
  refine Met.ofW (cc := cX12_usual) (maxL := 2) (ret := (some .int)) (by decide) rfl ?_
  intro p e s m args below meth c s₁ B hml hv
  obtain ⟨rfl, hsz, hP, hK, hD0⟩ := hv
  have hx := B.exec
  have hb := B.bytes
  have hr := B.returns
  have hts := atoms_spec (ws := q_X12_usual) B.pre
  have hown : s.vm.findClass RX12 = some m.cls := findClass_of_methodNamed B.named
  have hlocks := B.notSynchronized
  subst hsz
  have hD := hD0.self (sz := s.heap.size)
  generalize hAe : va_A [] s.heap.size = A at hD ⊢
  have hA : ∀ q : Nat, s.heap.size ≤ q → A q := fun q h => by rw [← hAe]; exact Or.inr h
  have hS : va_S A s.heap s.heap [] := va_S.rf
  generalize hQ : (MQ below _ _ s 0 0 A) = Q
  have hl := lv_entry ([.int 115, .int 0]) (n := 2) (Nat.le_of_ble_eq_true rfl)
  rw [lg_entry_eq]
  generalize (lg_sl ([.int 115, .int 0]) ++ List.replicate (2 - (lg_sl ([.int 115, .int 0])).length) Slot.unset).toArray = ls at hl ⊢
  have hl : lv_has ls 2 [(0, .int 115), (1, .int 0)] := hl
  obtain ⟨H, hH⟩ : ∃ H : Heap, H = s.heap := ⟨_, rfl⟩
  obtain ⟨locs, hlocs⟩ : ∃ y : List Loc, y = [] := ⟨_, rfl⟩
  have hS : va_S A s.heap H locs := by rw [hH, hlocs]; exact va_S.rf
  have hP : va_P (dC, dI) vwCl [] H := by rw [hH]; exact hP
  rw [← hH, ← hlocs]
  refine lv_iload_n hx hb dX12_usual_0 rfl (lv_at hl 0 rfl) ?_
  refine lv_bipush (v := 115) hx hb dX12_usual_1 (by decide) ?_
  refine lv_icmp_ne (tgt := 31) hx hb dX12_usual_3 (by decide) (fun c => absurd (by decide) c) (fun _ => ?_)
  refine lv_iload_n hx hb dX12_usual_6 rfl (lv_at hl 1 rfl) ?_
  refine lv_if_eq (tgt := 15) hx hb dX12_usual_7 (by decide) (fun _ => ?_) (fun c => absurd (by decide) c)
  refine lv_bipush (v := 20) hx hb dX12_usual_15 (by decide) ?_
  refine lv_goto (tgt := 30) hx hb dX12_usual_17 (by decide) ?_
  subst hQ
  have hP9 := hP.sub (ws' := []) [] rfl
  have hD9 := hD.sub (ws' := []) [] (by decide) rfl
  have hK9 := hK.sub (tys' := []) [] rfl
  exact W.iret (v := 20) hx hb hr (fun t ht hW => ⟨⟨20, 20, rfl, rfl, ⟨by first | omega | decide, by first | omega | decide, by rw [ht]; exact hP9, va_K.moved hW.alike hK9, hD9⟩⟩, hS.F ht⟩) hS.2.2 dX12_usual_30
def q_X12_usual_1 : List Cond := .code yX12_usual cX12_usual 2 (some .int) :: (([] : List Cond))
set_option maxHeartbeats 4000000 in
set_option maxRecDepth 100000 in
theorem k_X12_usual_1 (l : Launch) (dC : Nat → ClassId) (dI : Nat → Nat → Nat)  (sz : Nat) : Met l yX12_usual q_X12_usual_1 ({ frames := 0, cells := 0, slots := 0, locals := 0 }) (va_Pc [.int 115, .int 1] (fun U => U.heap.size = sz ∧ va_P (dC, dI) vwCl [] U.heap ∧ va_K (dC, dI) vwCl [] U ∧ va_D (fun _ => True) [])) (va_Qi (fun (r : Int32) (r9 : Int32) => r9 = r) (fun (r : Int32) (t : State) => ((3 ≤ r.toInt) ∧ (r.toInt ≤ 3) ∧ va_P (dC, dI) vwCl [] t.heap ∧ va_K (dC, dI) vwCl [] t ∧ va_D (va_A [] sz) [])) (va_A [] sz)) 0 0 (va_A [] sz) := by
  refine Met.ofW (cc := cX12_usual) (maxL := 2) (ret := (some .int)) (by decide) rfl ?_
  intro p e s m args below meth c s₁ B hml hv
  obtain ⟨rfl, hsz, hP, hK, hD0⟩ := hv
  have hx := B.exec
  have hb := B.bytes
  have hr := B.returns
  have hts := atoms_spec (ws := q_X12_usual_1) B.pre
  have hown : s.vm.findClass RX12 = some m.cls := findClass_of_methodNamed B.named
  have hlocks := B.notSynchronized
  subst hsz
  have hD := hD0.self (sz := s.heap.size)
  generalize hAe : va_A [] s.heap.size = A at hD ⊢
  have hA : ∀ q : Nat, s.heap.size ≤ q → A q := fun q h => by rw [← hAe]; exact Or.inr h
  have hS : va_S A s.heap s.heap [] := va_S.rf
  generalize hQ : (MQ below _ _ s 0 0 A) = Q
  have hl := lv_entry ([.int 115, .int 1]) (n := 2) (Nat.le_of_ble_eq_true rfl)
  rw [lg_entry_eq]
  generalize (lg_sl ([.int 115, .int 1]) ++ List.replicate (2 - (lg_sl ([.int 115, .int 1])).length) Slot.unset).toArray = ls at hl ⊢
  have hl : lv_has ls 2 [(0, .int 115), (1, .int 1)] := hl
  obtain ⟨H, hH⟩ : ∃ H : Heap, H = s.heap := ⟨_, rfl⟩
  obtain ⟨locs, hlocs⟩ : ∃ y : List Loc, y = [] := ⟨_, rfl⟩
  have hS : va_S A s.heap H locs := by rw [hH, hlocs]; exact va_S.rf
  have hP : va_P (dC, dI) vwCl [] H := by rw [hH]; exact hP
  rw [← hH, ← hlocs]
  refine lv_iload_n hx hb dX12_usual_0 rfl (lv_at hl 0 rfl) ?_
  refine lv_bipush (v := 115) hx hb dX12_usual_1 (by decide) ?_
  refine lv_icmp_ne (tgt := 31) hx hb dX12_usual_3 (by decide) (fun c => absurd (by decide) c) (fun _ => ?_)
  refine lv_iload_n hx hb dX12_usual_6 rfl (lv_at hl 1 rfl) ?_
  refine lv_if_eq (tgt := 15) hx hb dX12_usual_7 (by decide) (fun c => absurd c (by decide)) (fun _ => ?_)
  refine lv_iload_n hx hb dX12_usual_10 rfl (lv_at hl 1 rfl) ?_
  refine lv_iconst (v := 3) hx hb dX12_usual_11 (by decide) ?_
  refine lv_icmp_ne (tgt := 20) hx hb dX12_usual_12 (by decide) (fun _ => ?_) (fun c => absurd c (by decide))
  refine lv_iload_n hx hb dX12_usual_20 rfl (lv_at hl 1 rfl) ?_
  refine lv_iconst (v := 1) hx hb dX12_usual_21 (by decide) ?_
  refine lv_icmp_ne (tgt := 29) hx hb dX12_usual_22 (by decide) (fun c => absurd (by decide) c) (fun _ => ?_)
  refine lv_iconst (v := 3) hx hb dX12_usual_25 (by decide) ?_
  refine lv_goto (tgt := 30) hx hb dX12_usual_26 (by decide) ?_
  subst hQ
  have hP9 := hP.sub (ws' := []) [] rfl
  have hD9 := hD.sub (ws' := []) [] (by decide) rfl
  have hK9 := hK.sub (tys' := []) [] rfl
  exact W.iret (v := 3) hx hb hr (fun t ht hW => ⟨⟨3, 3, rfl, rfl, ⟨by first | omega | decide, by first | omega | decide, by rw [ht]; exact hP9, va_K.moved hW.alike hK9, hD9⟩⟩, hS.F ht⟩) hS.2.2 dX12_usual_30
def q_X12_usual_2 : List Cond := .code yX12_usual cX12_usual 2 (some .int) :: (([] : List Cond))
set_option maxHeartbeats 4000000 in
set_option maxRecDepth 100000 in
theorem k_X12_usual_2 (l : Launch) (dC : Nat → ClassId) (dI : Nat → Nat → Nat)  (sz : Nat) : Met l yX12_usual q_X12_usual_2 ({ frames := 0, cells := 0, slots := 0, locals := 0 }) (va_Pc [.int 115, .int 2] (fun U => U.heap.size = sz ∧ va_P (dC, dI) vwCl [] U.heap ∧ va_K (dC, dI) vwCl [] U ∧ va_D (fun _ => True) [])) (va_Qi (fun (r : Int32) (r9 : Int32) => r9 = r) (fun (r : Int32) (t : State) => ((4 ≤ r.toInt) ∧ (r.toInt ≤ 4) ∧ va_P (dC, dI) vwCl [] t.heap ∧ va_K (dC, dI) vwCl [] t ∧ va_D (va_A [] sz) [])) (va_A [] sz)) 0 0 (va_A [] sz) := by
  refine Met.ofW (cc := cX12_usual) (maxL := 2) (ret := (some .int)) (by decide) rfl ?_
  intro p e s m args below meth c s₁ B hml hv
  obtain ⟨rfl, hsz, hP, hK, hD0⟩ := hv
  have hx := B.exec
  have hb := B.bytes
  have hr := B.returns
  have hts := atoms_spec (ws := q_X12_usual_2) B.pre
  have hown : s.vm.findClass RX12 = some m.cls := findClass_of_methodNamed B.named
  have hlocks := B.notSynchronized
  subst hsz
  have hD := hD0.self (sz := s.heap.size)
  generalize hAe : va_A [] s.heap.size = A at hD ⊢
  have hA : ∀ q : Nat, s.heap.size ≤ q → A q := fun q h => by rw [← hAe]; exact Or.inr h
  have hS : va_S A s.heap s.heap [] := va_S.rf
  generalize hQ : (MQ below _ _ s 0 0 A) = Q
  have hl := lv_entry ([.int 115, .int 2]) (n := 2) (Nat.le_of_ble_eq_true rfl)
  rw [lg_entry_eq]
  generalize (lg_sl ([.int 115, .int 2]) ++ List.replicate (2 - (lg_sl ([.int 115, .int 2])).length) Slot.unset).toArray = ls at hl ⊢
  have hl : lv_has ls 2 [(0, .int 115), (1, .int 2)] := hl
  obtain ⟨H, hH⟩ : ∃ H : Heap, H = s.heap := ⟨_, rfl⟩
  obtain ⟨locs, hlocs⟩ : ∃ y : List Loc, y = [] := ⟨_, rfl⟩
  have hS : va_S A s.heap H locs := by rw [hH, hlocs]; exact va_S.rf
  have hP : va_P (dC, dI) vwCl [] H := by rw [hH]; exact hP
  rw [← hH, ← hlocs]
  refine lv_iload_n hx hb dX12_usual_0 rfl (lv_at hl 0 rfl) ?_
  refine lv_bipush (v := 115) hx hb dX12_usual_1 (by decide) ?_
  refine lv_icmp_ne (tgt := 31) hx hb dX12_usual_3 (by decide) (fun c => absurd (by decide) c) (fun _ => ?_)
  refine lv_iload_n hx hb dX12_usual_6 rfl (lv_at hl 1 rfl) ?_
  refine lv_if_eq (tgt := 15) hx hb dX12_usual_7 (by decide) (fun c => absurd c (by decide)) (fun _ => ?_)
  refine lv_iload_n hx hb dX12_usual_10 rfl (lv_at hl 1 rfl) ?_
  refine lv_iconst (v := 3) hx hb dX12_usual_11 (by decide) ?_
  refine lv_icmp_ne (tgt := 20) hx hb dX12_usual_12 (by decide) (fun _ => ?_) (fun c => absurd c (by decide))
  refine lv_iload_n hx hb dX12_usual_20 rfl (lv_at hl 1 rfl) ?_
  refine lv_iconst (v := 1) hx hb dX12_usual_21 (by decide) ?_
  refine lv_icmp_ne (tgt := 29) hx hb dX12_usual_22 (by decide) (fun _ => ?_) (fun c => absurd c (by decide))
  refine lv_iconst (v := 4) hx hb dX12_usual_29 (by decide) ?_
  subst hQ
  have hP9 := hP.sub (ws' := []) [] rfl
  have hD9 := hD.sub (ws' := []) [] (by decide) rfl
  have hK9 := hK.sub (tys' := []) [] rfl
  exact W.iret (v := 4) hx hb hr (fun t ht hW => ⟨⟨4, 4, rfl, rfl, ⟨by first | omega | decide, by first | omega | decide, by rw [ht]; exact hP9, va_K.moved hW.alike hK9, hD9⟩⟩, hS.F ht⟩) hS.2.2 dX12_usual_30
def q_X12_usual_3 : List Cond := .code yX12_usual cX12_usual 2 (some .int) :: (([] : List Cond))
set_option maxHeartbeats 4000000 in
set_option maxRecDepth 100000 in
theorem k_X12_usual_3 (l : Launch) (dC : Nat → ClassId) (dI : Nat → Nat → Nat)  (sz : Nat) : Met l yX12_usual q_X12_usual_3 ({ frames := 0, cells := 0, slots := 0, locals := 0 }) (va_Pc [.int 115, .int 3] (fun U => U.heap.size = sz ∧ va_P (dC, dI) vwCl [] U.heap ∧ va_K (dC, dI) vwCl [] U ∧ va_D (fun _ => True) [])) (va_Qi (fun (r : Int32) (r9 : Int32) => r9 = r) (fun (r : Int32) (t : State) => ((20 ≤ r.toInt) ∧ (r.toInt ≤ 20) ∧ va_P (dC, dI) vwCl [] t.heap ∧ va_K (dC, dI) vwCl [] t ∧ va_D (va_A [] sz) [])) (va_A [] sz)) 0 0 (va_A [] sz) := by
  refine Met.ofW (cc := cX12_usual) (maxL := 2) (ret := (some .int)) (by decide) rfl ?_
  intro p e s m args below meth c s₁ B hml hv
  obtain ⟨rfl, hsz, hP, hK, hD0⟩ := hv
  have hx := B.exec
  have hb := B.bytes
  have hr := B.returns
  have hts := atoms_spec (ws := q_X12_usual_3) B.pre
  have hown : s.vm.findClass RX12 = some m.cls := findClass_of_methodNamed B.named
  have hlocks := B.notSynchronized
  subst hsz
  have hD := hD0.self (sz := s.heap.size)
  generalize hAe : va_A [] s.heap.size = A at hD ⊢
  have hA : ∀ q : Nat, s.heap.size ≤ q → A q := fun q h => by rw [← hAe]; exact Or.inr h
  have hS : va_S A s.heap s.heap [] := va_S.rf
  generalize hQ : (MQ below _ _ s 0 0 A) = Q
  have hl := lv_entry ([.int 115, .int 3]) (n := 2) (Nat.le_of_ble_eq_true rfl)
  rw [lg_entry_eq]
  generalize (lg_sl ([.int 115, .int 3]) ++ List.replicate (2 - (lg_sl ([.int 115, .int 3])).length) Slot.unset).toArray = ls at hl ⊢
  have hl : lv_has ls 2 [(0, .int 115), (1, .int 3)] := hl
  obtain ⟨H, hH⟩ : ∃ H : Heap, H = s.heap := ⟨_, rfl⟩
  obtain ⟨locs, hlocs⟩ : ∃ y : List Loc, y = [] := ⟨_, rfl⟩
  have hS : va_S A s.heap H locs := by rw [hH, hlocs]; exact va_S.rf
  have hP : va_P (dC, dI) vwCl [] H := by rw [hH]; exact hP
  rw [← hH, ← hlocs]
  refine lv_iload_n hx hb dX12_usual_0 rfl (lv_at hl 0 rfl) ?_
  refine lv_bipush (v := 115) hx hb dX12_usual_1 (by decide) ?_
  refine lv_icmp_ne (tgt := 31) hx hb dX12_usual_3 (by decide) (fun c => absurd (by decide) c) (fun _ => ?_)
  refine lv_iload_n hx hb dX12_usual_6 rfl (lv_at hl 1 rfl) ?_
  refine lv_if_eq (tgt := 15) hx hb dX12_usual_7 (by decide) (fun c => absurd c (by decide)) (fun _ => ?_)
  refine lv_iload_n hx hb dX12_usual_10 rfl (lv_at hl 1 rfl) ?_
  refine lv_iconst (v := 3) hx hb dX12_usual_11 (by decide) ?_
  refine lv_icmp_ne (tgt := 20) hx hb dX12_usual_12 (by decide) (fun c => absurd (by decide) c) (fun _ => ?_)
  refine lv_bipush (v := 20) hx hb dX12_usual_15 (by decide) ?_
  refine lv_goto (tgt := 30) hx hb dX12_usual_17 (by decide) ?_
  subst hQ
  have hP9 := hP.sub (ws' := []) [] rfl
  have hD9 := hD.sub (ws' := []) [] (by decide) rfl
  have hK9 := hK.sub (tys' := []) [] rfl
  exact W.iret (v := 20) hx hb hr (fun t ht hW => ⟨⟨20, 20, rfl, rfl, ⟨by first | omega | decide, by first | omega | decide, by rw [ht]; exact hP9, va_K.moved hW.alike hK9, hD9⟩⟩, hS.F ht⟩) hS.2.2 dX12_usual_30
def q_X12_usual_4 : List Cond := .code yX12_usual cX12_usual 2 (some .int) :: (([] : List Cond))
set_option maxHeartbeats 4000000 in
set_option maxRecDepth 100000 in
theorem k_X12_usual_4 (l : Launch) (dC : Nat → ClassId) (dI : Nat → Nat → Nat)  (sz : Nat) : Met l yX12_usual q_X12_usual_4 ({ frames := 0, cells := 0, slots := 0, locals := 0 }) (va_Pc [.int 98, .int 0] (fun U => U.heap.size = sz ∧ va_P (dC, dI) vwCl [] U.heap ∧ va_K (dC, dI) vwCl [] U ∧ va_D (fun _ => True) [])) (va_Qi (fun (r : Int32) (r9 : Int32) => r9 = r) (fun (r : Int32) (t : State) => ((3 ≤ r.toInt) ∧ (r.toInt ≤ 3) ∧ va_P (dC, dI) vwCl [] t.heap ∧ va_K (dC, dI) vwCl [] t ∧ va_D (va_A [] sz) [])) (va_A [] sz)) 0 0 (va_A [] sz) := by
  refine Met.ofW (cc := cX12_usual) (maxL := 2) (ret := (some .int)) (by decide) rfl ?_
  intro p e s m args below meth c s₁ B hml hv
  obtain ⟨rfl, hsz, hP, hK, hD0⟩ := hv
  have hx := B.exec
  have hb := B.bytes
  have hr := B.returns
  have hts := atoms_spec (ws := q_X12_usual_4) B.pre
  have hown : s.vm.findClass RX12 = some m.cls := findClass_of_methodNamed B.named
  have hlocks := B.notSynchronized
  subst hsz
  have hD := hD0.self (sz := s.heap.size)
  generalize hAe : va_A [] s.heap.size = A at hD ⊢
  have hA : ∀ q : Nat, s.heap.size ≤ q → A q := fun q h => by rw [← hAe]; exact Or.inr h
  have hS : va_S A s.heap s.heap [] := va_S.rf
  generalize hQ : (MQ below _ _ s 0 0 A) = Q
  have hl := lv_entry ([.int 98, .int 0]) (n := 2) (Nat.le_of_ble_eq_true rfl)
  rw [lg_entry_eq]
  generalize (lg_sl ([.int 98, .int 0]) ++ List.replicate (2 - (lg_sl ([.int 98, .int 0])).length) Slot.unset).toArray = ls at hl ⊢
  have hl : lv_has ls 2 [(0, .int 98), (1, .int 0)] := hl
  obtain ⟨H, hH⟩ : ∃ H : Heap, H = s.heap := ⟨_, rfl⟩
  obtain ⟨locs, hlocs⟩ : ∃ y : List Loc, y = [] := ⟨_, rfl⟩
  have hS : va_S A s.heap H locs := by rw [hH, hlocs]; exact va_S.rf
  have hP : va_P (dC, dI) vwCl [] H := by rw [hH]; exact hP
  rw [← hH, ← hlocs]
  refine lv_iload_n hx hb dX12_usual_0 rfl (lv_at hl 0 rfl) ?_
  refine lv_bipush (v := 115) hx hb dX12_usual_1 (by decide) ?_
  refine lv_icmp_ne (tgt := 31) hx hb dX12_usual_3 (by decide) (fun _ => ?_) (fun c => absurd c (by decide))
  refine lv_iload_n hx hb dX12_usual_31 rfl (lv_at hl 1 rfl) ?_
  refine lv_if_eq (tgt := 40) hx hb dX12_usual_32 (by decide) (fun _ => ?_) (fun c => absurd (by decide) c)
  refine lv_iconst (v := 3) hx hb dX12_usual_40 (by decide) ?_
  refine lv_goto (tgt := 54) hx hb dX12_usual_41 (by decide) ?_
  subst hQ
  have hP9 := hP.sub (ws' := []) [] rfl
  have hD9 := hD.sub (ws' := []) [] (by decide) rfl
  have hK9 := hK.sub (tys' := []) [] rfl
  exact W.iret (v := 3) hx hb hr (fun t ht hW => ⟨⟨3, 3, rfl, rfl, ⟨by first | omega | decide, by first | omega | decide, by rw [ht]; exact hP9, va_K.moved hW.alike hK9, hD9⟩⟩, hS.F ht⟩) hS.2.2 dX12_usual_54
def q_X12_usual_5 : List Cond := .code yX12_usual cX12_usual 2 (some .int) :: (([] : List Cond))
set_option maxHeartbeats 4000000 in
set_option maxRecDepth 100000 in
theorem k_X12_usual_5 (l : Launch) (dC : Nat → ClassId) (dI : Nat → Nat → Nat)  (sz : Nat) : Met l yX12_usual q_X12_usual_5 ({ frames := 0, cells := 0, slots := 0, locals := 0 }) (va_Pc [.int 98, .int 1] (fun U => U.heap.size = sz ∧ va_P (dC, dI) vwCl [] U.heap ∧ va_K (dC, dI) vwCl [] U ∧ va_D (fun _ => True) [])) (va_Qi (fun (r : Int32) (r9 : Int32) => r9 = r) (fun (r : Int32) (t : State) => ((4 ≤ r.toInt) ∧ (r.toInt ≤ 4) ∧ va_P (dC, dI) vwCl [] t.heap ∧ va_K (dC, dI) vwCl [] t ∧ va_D (va_A [] sz) [])) (va_A [] sz)) 0 0 (va_A [] sz) := by
  refine Met.ofW (cc := cX12_usual) (maxL := 2) (ret := (some .int)) (by decide) rfl ?_
  intro p e s m args below meth c s₁ B hml hv
  obtain ⟨rfl, hsz, hP, hK, hD0⟩ := hv
  have hx := B.exec
  have hb := B.bytes
  have hr := B.returns
  have hts := atoms_spec (ws := q_X12_usual_5) B.pre
  have hown : s.vm.findClass RX12 = some m.cls := findClass_of_methodNamed B.named
  have hlocks := B.notSynchronized
  subst hsz
  have hD := hD0.self (sz := s.heap.size)
  generalize hAe : va_A [] s.heap.size = A at hD ⊢
  have hA : ∀ q : Nat, s.heap.size ≤ q → A q := fun q h => by rw [← hAe]; exact Or.inr h
  have hS : va_S A s.heap s.heap [] := va_S.rf
  generalize hQ : (MQ below _ _ s 0 0 A) = Q
  have hl := lv_entry ([.int 98, .int 1]) (n := 2) (Nat.le_of_ble_eq_true rfl)
  rw [lg_entry_eq]
  generalize (lg_sl ([.int 98, .int 1]) ++ List.replicate (2 - (lg_sl ([.int 98, .int 1])).length) Slot.unset).toArray = ls at hl ⊢
  have hl : lv_has ls 2 [(0, .int 98), (1, .int 1)] := hl
  obtain ⟨H, hH⟩ : ∃ H : Heap, H = s.heap := ⟨_, rfl⟩
  obtain ⟨locs, hlocs⟩ : ∃ y : List Loc, y = [] := ⟨_, rfl⟩
  have hS : va_S A s.heap H locs := by rw [hH, hlocs]; exact va_S.rf
  have hP : va_P (dC, dI) vwCl [] H := by rw [hH]; exact hP
  rw [← hH, ← hlocs]
  refine lv_iload_n hx hb dX12_usual_0 rfl (lv_at hl 0 rfl) ?_
  refine lv_bipush (v := 115) hx hb dX12_usual_1 (by decide) ?_
  refine lv_icmp_ne (tgt := 31) hx hb dX12_usual_3 (by decide) (fun _ => ?_) (fun c => absurd c (by decide))
  refine lv_iload_n hx hb dX12_usual_31 rfl (lv_at hl 1 rfl) ?_
  refine lv_if_eq (tgt := 40) hx hb dX12_usual_32 (by decide) (fun c => absurd c (by decide)) (fun _ => ?_)
  refine lv_iload_n hx hb dX12_usual_35 rfl (lv_at hl 1 rfl) ?_
  refine lv_iconst (v := 2) hx hb dX12_usual_36 (by decide) ?_
  refine lv_icmp_ne (tgt := 44) hx hb dX12_usual_37 (by decide) (fun _ => ?_) (fun c => absurd c (by decide))
  refine lv_iload_n hx hb dX12_usual_44 rfl (lv_at hl 1 rfl) ?_
  refine lv_iconst (v := 1) hx hb dX12_usual_45 (by decide) ?_
  refine lv_icmp_ne (tgt := 53) hx hb dX12_usual_46 (by decide) (fun c => absurd (by decide) c) (fun _ => ?_)
  refine lv_iconst (v := 4) hx hb dX12_usual_49 (by decide) ?_
  refine lv_goto (tgt := 54) hx hb dX12_usual_50 (by decide) ?_
  subst hQ
  have hP9 := hP.sub (ws' := []) [] rfl
  have hD9 := hD.sub (ws' := []) [] (by decide) rfl
  have hK9 := hK.sub (tys' := []) [] rfl
  exact W.iret (v := 4) hx hb hr (fun t ht hW => ⟨⟨4, 4, rfl, rfl, ⟨by first | omega | decide, by first | omega | decide, by rw [ht]; exact hP9, va_K.moved hW.alike hK9, hD9⟩⟩, hS.F ht⟩) hS.2.2 dX12_usual_54
def q_X12_usual_6 : List Cond := .code yX12_usual cX12_usual 2 (some .int) :: (([] : List Cond))
set_option maxHeartbeats 4000000 in
set_option maxRecDepth 100000 in
theorem k_X12_usual_6 (l : Launch) (dC : Nat → ClassId) (dI : Nat → Nat → Nat)  (sz : Nat) : Met l yX12_usual q_X12_usual_6 ({ frames := 0, cells := 0, slots := 0, locals := 0 }) (va_Pc [.int 98, .int 2] (fun U => U.heap.size = sz ∧ va_P (dC, dI) vwCl [] U.heap ∧ va_K (dC, dI) vwCl [] U ∧ va_D (fun _ => True) [])) (va_Qi (fun (r : Int32) (r9 : Int32) => r9 = r) (fun (r : Int32) (t : State) => ((3 ≤ r.toInt) ∧ (r.toInt ≤ 3) ∧ va_P (dC, dI) vwCl [] t.heap ∧ va_K (dC, dI) vwCl [] t ∧ va_D (va_A [] sz) [])) (va_A [] sz)) 0 0 (va_A [] sz) := by
  refine Met.ofW (cc := cX12_usual) (maxL := 2) (ret := (some .int)) (by decide) rfl ?_
  intro p e s m args below meth c s₁ B hml hv
  obtain ⟨rfl, hsz, hP, hK, hD0⟩ := hv
  have hx := B.exec
  have hb := B.bytes
  have hr := B.returns
  have hts := atoms_spec (ws := q_X12_usual_6) B.pre
  have hown : s.vm.findClass RX12 = some m.cls := findClass_of_methodNamed B.named
  have hlocks := B.notSynchronized
  subst hsz
  have hD := hD0.self (sz := s.heap.size)
  generalize hAe : va_A [] s.heap.size = A at hD ⊢
  have hA : ∀ q : Nat, s.heap.size ≤ q → A q := fun q h => by rw [← hAe]; exact Or.inr h
  have hS : va_S A s.heap s.heap [] := va_S.rf
  generalize hQ : (MQ below _ _ s 0 0 A) = Q
  have hl := lv_entry ([.int 98, .int 2]) (n := 2) (Nat.le_of_ble_eq_true rfl)
  rw [lg_entry_eq]
  generalize (lg_sl ([.int 98, .int 2]) ++ List.replicate (2 - (lg_sl ([.int 98, .int 2])).length) Slot.unset).toArray = ls at hl ⊢
  have hl : lv_has ls 2 [(0, .int 98), (1, .int 2)] := hl
  obtain ⟨H, hH⟩ : ∃ H : Heap, H = s.heap := ⟨_, rfl⟩
  obtain ⟨locs, hlocs⟩ : ∃ y : List Loc, y = [] := ⟨_, rfl⟩
  have hS : va_S A s.heap H locs := by rw [hH, hlocs]; exact va_S.rf
  have hP : va_P (dC, dI) vwCl [] H := by rw [hH]; exact hP
  rw [← hH, ← hlocs]
  refine lv_iload_n hx hb dX12_usual_0 rfl (lv_at hl 0 rfl) ?_
  refine lv_bipush (v := 115) hx hb dX12_usual_1 (by decide) ?_
  refine lv_icmp_ne (tgt := 31) hx hb dX12_usual_3 (by decide) (fun _ => ?_) (fun c => absurd c (by decide))
  refine lv_iload_n hx hb dX12_usual_31 rfl (lv_at hl 1 rfl) ?_
  refine lv_if_eq (tgt := 40) hx hb dX12_usual_32 (by decide) (fun c => absurd c (by decide)) (fun _ => ?_)
  refine lv_iload_n hx hb dX12_usual_35 rfl (lv_at hl 1 rfl) ?_
  refine lv_iconst (v := 2) hx hb dX12_usual_36 (by decide) ?_
  refine lv_icmp_ne (tgt := 44) hx hb dX12_usual_37 (by decide) (fun c => absurd (by decide) c) (fun _ => ?_)
  refine lv_iconst (v := 3) hx hb dX12_usual_40 (by decide) ?_
  refine lv_goto (tgt := 54) hx hb dX12_usual_41 (by decide) ?_
  subst hQ
  have hP9 := hP.sub (ws' := []) [] rfl
  have hD9 := hD.sub (ws' := []) [] (by decide) rfl
  have hK9 := hK.sub (tys' := []) [] rfl
  exact W.iret (v := 3) hx hb hr (fun t ht hW => ⟨⟨3, 3, rfl, rfl, ⟨by first | omega | decide, by first | omega | decide, by rw [ht]; exact hP9, va_K.moved hW.alike hK9, hD9⟩⟩, hS.F ht⟩) hS.2.2 dX12_usual_54
def q_X12_usual_7 : List Cond := .code yX12_usual cX12_usual 2 (some .int) :: (([] : List Cond))
set_option maxHeartbeats 4000000 in
set_option maxRecDepth 100000 in
theorem k_X12_usual_7 (l : Launch) (dC : Nat → ClassId) (dI : Nat → Nat → Nat)  (sz : Nat) : Met l yX12_usual q_X12_usual_7 ({ frames := 0, cells := 0, slots := 0, locals := 0 }) (va_Pc [.int 98, .int 3] (fun U => U.heap.size = sz ∧ va_P (dC, dI) vwCl [] U.heap ∧ va_K (dC, dI) vwCl [] U ∧ va_D (fun _ => True) [])) (va_Qi (fun (r : Int32) (r9 : Int32) => r9 = r) (fun (r : Int32) (t : State) => ((0 ≤ r.toInt) ∧ (r.toInt ≤ 0) ∧ va_P (dC, dI) vwCl [] t.heap ∧ va_K (dC, dI) vwCl [] t ∧ va_D (va_A [] sz) [])) (va_A [] sz)) 0 0 (va_A [] sz) := by
  refine Met.ofW (cc := cX12_usual) (maxL := 2) (ret := (some .int)) (by decide) rfl ?_
  intro p e s m args below meth c s₁ B hml hv
  obtain ⟨rfl, hsz, hP, hK, hD0⟩ := hv
  have hx := B.exec
  have hb := B.bytes
  have hr := B.returns
  have hts := atoms_spec (ws := q_X12_usual_7) B.pre
  have hown : s.vm.findClass RX12 = some m.cls := findClass_of_methodNamed B.named
  have hlocks := B.notSynchronized
  subst hsz
  have hD := hD0.self (sz := s.heap.size)
  generalize hAe : va_A [] s.heap.size = A at hD ⊢
  have hA : ∀ q : Nat, s.heap.size ≤ q → A q := fun q h => by rw [← hAe]; exact Or.inr h
  have hS : va_S A s.heap s.heap [] := va_S.rf
  generalize hQ : (MQ below _ _ s 0 0 A) = Q
  have hl := lv_entry ([.int 98, .int 3]) (n := 2) (Nat.le_of_ble_eq_true rfl)
  rw [lg_entry_eq]
  generalize (lg_sl ([.int 98, .int 3]) ++ List.replicate (2 - (lg_sl ([.int 98, .int 3])).length) Slot.unset).toArray = ls at hl ⊢
  have hl : lv_has ls 2 [(0, .int 98), (1, .int 3)] := hl
  obtain ⟨H, hH⟩ : ∃ H : Heap, H = s.heap := ⟨_, rfl⟩
  obtain ⟨locs, hlocs⟩ : ∃ y : List Loc, y = [] := ⟨_, rfl⟩
  have hS : va_S A s.heap H locs := by rw [hH, hlocs]; exact va_S.rf
  have hP : va_P (dC, dI) vwCl [] H := by rw [hH]; exact hP
  rw [← hH, ← hlocs]
  refine lv_iload_n hx hb dX12_usual_0 rfl (lv_at hl 0 rfl) ?_
  refine lv_bipush (v := 115) hx hb dX12_usual_1 (by decide) ?_
  refine lv_icmp_ne (tgt := 31) hx hb dX12_usual_3 (by decide) (fun _ => ?_) (fun c => absurd c (by decide))
  refine lv_iload_n hx hb dX12_usual_31 rfl (lv_at hl 1 rfl) ?_
  refine lv_if_eq (tgt := 40) hx hb dX12_usual_32 (by decide) (fun c => absurd c (by decide)) (fun _ => ?_)
  refine lv_iload_n hx hb dX12_usual_35 rfl (lv_at hl 1 rfl) ?_
  refine lv_iconst (v := 2) hx hb dX12_usual_36 (by decide) ?_
  refine lv_icmp_ne (tgt := 44) hx hb dX12_usual_37 (by decide) (fun _ => ?_) (fun c => absurd c (by decide))
  refine lv_iload_n hx hb dX12_usual_44 rfl (lv_at hl 1 rfl) ?_
  refine lv_iconst (v := 1) hx hb dX12_usual_45 (by decide) ?_
  refine lv_icmp_ne (tgt := 53) hx hb dX12_usual_46 (by decide) (fun _ => ?_) (fun c => absurd c (by decide))
  refine lv_iconst (v := 0) hx hb dX12_usual_53 (by decide) ?_
  subst hQ
  have hP9 := hP.sub (ws' := []) [] rfl
  have hD9 := hD.sub (ws' := []) [] (by decide) rfl
  have hK9 := hK.sub (tys' := []) [] rfl
  exact W.iret (v := 0) hx hb hr (fun t ht hW => ⟨⟨0, 0, rfl, rfl, ⟨by first | omega | decide, by first | omega | decide, by rw [ht]; exact hP9, va_K.moved hW.alike hK9, hD9⟩⟩, hS.F ht⟩) hS.2.2 dX12_usual_54
def q_X12_usual_8 : List Cond := .code yX12_usual cX12_usual 2 (some .int) :: (([] : List Cond))
set_option maxHeartbeats 4000000 in
set_option maxRecDepth 100000 in
theorem k_X12_usual_8 (l : Launch) (dC : Nat → ClassId) (dI : Nat → Nat → Nat)  (sz : Nat) : Met l yX12_usual q_X12_usual_8 ({ frames := 0, cells := 0, slots := 0, locals := 0 }) (va_Pc [.int 98, .int 4] (fun U => U.heap.size = sz ∧ va_P (dC, dI) vwCl [] U.heap ∧ va_K (dC, dI) vwCl [] U ∧ va_D (fun _ => True) [])) (va_Qi (fun (r : Int32) (r9 : Int32) => r9 = r) (fun (r : Int32) (t : State) => ((0 ≤ r.toInt) ∧ (r.toInt ≤ 0) ∧ va_P (dC, dI) vwCl [] t.heap ∧ va_K (dC, dI) vwCl [] t ∧ va_D (va_A [] sz) [])) (va_A [] sz)) 0 0 (va_A [] sz) := by
  refine Met.ofW (cc := cX12_usual) (maxL := 2) (ret := (some .int)) (by decide) rfl ?_
  intro p e s m args below meth c s₁ B hml hv
  obtain ⟨rfl, hsz, hP, hK, hD0⟩ := hv
  have hx := B.exec
  have hb := B.bytes
  have hr := B.returns
  have hts := atoms_spec (ws := q_X12_usual_8) B.pre
  have hown : s.vm.findClass RX12 = some m.cls := findClass_of_methodNamed B.named
  have hlocks := B.notSynchronized
  subst hsz
  have hD := hD0.self (sz := s.heap.size)
  generalize hAe : va_A [] s.heap.size = A at hD ⊢
  have hA : ∀ q : Nat, s.heap.size ≤ q → A q := fun q h => by rw [← hAe]; exact Or.inr h
  have hS : va_S A s.heap s.heap [] := va_S.rf
  generalize hQ : (MQ below _ _ s 0 0 A) = Q
  have hl := lv_entry ([.int 98, .int 4]) (n := 2) (Nat.le_of_ble_eq_true rfl)
  rw [lg_entry_eq]
  generalize (lg_sl ([.int 98, .int 4]) ++ List.replicate (2 - (lg_sl ([.int 98, .int 4])).length) Slot.unset).toArray = ls at hl ⊢
  have hl : lv_has ls 2 [(0, .int 98), (1, .int 4)] := hl
  obtain ⟨H, hH⟩ : ∃ H : Heap, H = s.heap := ⟨_, rfl⟩
  obtain ⟨locs, hlocs⟩ : ∃ y : List Loc, y = [] := ⟨_, rfl⟩
  have hS : va_S A s.heap H locs := by rw [hH, hlocs]; exact va_S.rf
  have hP : va_P (dC, dI) vwCl [] H := by rw [hH]; exact hP
  rw [← hH, ← hlocs]
  refine lv_iload_n hx hb dX12_usual_0 rfl (lv_at hl 0 rfl) ?_
  refine lv_bipush (v := 115) hx hb dX12_usual_1 (by decide) ?_
  refine lv_icmp_ne (tgt := 31) hx hb dX12_usual_3 (by decide) (fun _ => ?_) (fun c => absurd c (by decide))
  refine lv_iload_n hx hb dX12_usual_31 rfl (lv_at hl 1 rfl) ?_
  refine lv_if_eq (tgt := 40) hx hb dX12_usual_32 (by decide) (fun c => absurd c (by decide)) (fun _ => ?_)
  refine lv_iload_n hx hb dX12_usual_35 rfl (lv_at hl 1 rfl) ?_
  refine lv_iconst (v := 2) hx hb dX12_usual_36 (by decide) ?_
  refine lv_icmp_ne (tgt := 44) hx hb dX12_usual_37 (by decide) (fun _ => ?_) (fun c => absurd c (by decide))
  refine lv_iload_n hx hb dX12_usual_44 rfl (lv_at hl 1 rfl) ?_
  refine lv_iconst (v := 1) hx hb dX12_usual_45 (by decide) ?_
  refine lv_icmp_ne (tgt := 53) hx hb dX12_usual_46 (by decide) (fun _ => ?_) (fun c => absurd c (by decide))
  refine lv_iconst (v := 0) hx hb dX12_usual_53 (by decide) ?_
  subst hQ
  have hP9 := hP.sub (ws' := []) [] rfl
  have hD9 := hD.sub (ws' := []) [] (by decide) rfl
  have hK9 := hK.sub (tys' := []) [] rfl
  exact W.iret (v := 0) hx hb hr (fun t ht hW => ⟨⟨0, 0, rfl, rfl, ⟨by first | omega | decide, by first | omega | decide, by rw [ht]; exact hP9, va_K.moved hW.alike hK9, hD9⟩⟩, hS.F ht⟩) hS.2.2 dX12_usual_54
def q_X12_itemOf : List Cond := .code yX12_itemOf cX12_itemOf 2 (some .int) :: (([] : List Cond))
set_option maxHeartbeats 4000000 in
set_option maxRecDepth 100000 in
theorem k_X12_itemOf (l : Launch) (dC : Nat → ClassId) (dI : Nat → Nat → Nat) (v0 : Int32) (sz : Nat) : Met l yX12_itemOf q_X12_itemOf ({ frames := 0, cells := 0, slots := 0, locals := 0 }) (va_Pc [.int 98, .int v0] (fun U => U.heap.size = sz ∧ va_P (dC, dI) vwCl [] U.heap ∧ va_K (dC, dI) vwCl [] U ∧ va_D (fun _ => True) [])) (va_Qi (fun (r : Int32) (r9 : Int32) => r9 = r) (fun (r : Int32) (t : State) => ((-1 ≤ r.toInt) ∧ (r.toInt ≤ 4) ∧ (¬ r.toInt = -1 → 97 ≤ v0.toInt ∧ v0.toInt ≤ 122) ∧ va_P (dC, dI) vwCl [] t.heap ∧ va_K (dC, dI) vwCl [] t ∧ va_D (va_A [] sz) [])) (va_A [] sz)) 0 0 (va_A [] sz) := by
  refine Met.ofW (cc := cX12_itemOf) (maxL := 2) (ret := (some .int)) (by decide) rfl ?_
  intro p e s m args below meth c s₁ B hml hv
  obtain ⟨rfl, hsz, hP, hK, hD0⟩ := hv
  have hx := B.exec
  have hb := B.bytes
  have hr := B.returns
  have hts := atoms_spec (ws := q_X12_itemOf) B.pre
  have hown : s.vm.findClass RX12 = some m.cls := findClass_of_methodNamed B.named
  have hlocks := B.notSynchronized
  subst hsz
  have hD := hD0.self (sz := s.heap.size)
  generalize hAe : va_A [] s.heap.size = A at hD ⊢
  have hA : ∀ q : Nat, s.heap.size ≤ q → A q := fun q h => by rw [← hAe]; exact Or.inr h
  have hS : va_S A s.heap s.heap [] := va_S.rf
  generalize hQ : (MQ below _ _ s 0 0 A) = Q
  have hl := lv_entry ([.int 98, .int v0]) (n := 2) (Nat.le_of_ble_eq_true rfl)
  rw [lg_entry_eq]
  generalize (lg_sl ([.int 98, .int v0]) ++ List.replicate (2 - (lg_sl ([.int 98, .int v0])).length) Slot.unset).toArray = ls at hl ⊢
  have hl : lv_has ls 2 [(0, .int 98), (1, .int v0)] := hl
  obtain ⟨H, hH⟩ : ∃ H : Heap, H = s.heap := ⟨_, rfl⟩
  obtain ⟨locs, hlocs⟩ : ∃ y : List Loc, y = [] := ⟨_, rfl⟩
  have hS : va_S A s.heap H locs := by rw [hH, hlocs]; exact va_S.rf
  have hP : va_P (dC, dI) vwCl [] H := by rw [hH]; exact hP
  rw [← hH, ← hlocs]
  refine lv_iload_n hx hb dX12_itemOf_0 rfl (lv_at hl 0 rfl) ?_
  refine lv_bipush (v := 115) hx hb dX12_itemOf_1 (by decide) ?_
  refine lv_icmp_ne (tgt := 48) hx hb dX12_itemOf_3 (by decide) (fun _ => ?_) (fun c => absurd c (by decide))
  refine lv_iload_n hx hb dX12_itemOf_48 rfl (lv_at hl 1 rfl) ?_
  refine lv_bipush (v := 122) hx hb dX12_itemOf_49 (by decide) ?_
  refine lv_icmp_ne (tgt := 58) hx hb dX12_itemOf_51 (by decide) (fun c1 => ?_) (fun c1 => ?_)
  · skip
    have fc1 : ¬ (v0.toInt = 122) := fun h9 => c1 (Int32.toInt_inj.mp h9)
    refine lv_iload_n hx hb dX12_itemOf_58 rfl (lv_at hl 1 rfl) ?_
    refine lv_bipush (v := 97) hx hb dX12_itemOf_59 (by decide) ?_
    refine lv_icmp_ne (tgt := 68) hx hb dX12_itemOf_61 (by decide) (fun c2 => ?_) (fun c2 => ?_)
    · skip
      have fc2 : ¬ (v0.toInt = 97) := fun h9 => c2 (Int32.toInt_inj.mp h9)
      refine lv_iload_n hx hb dX12_itemOf_68 rfl (lv_at hl 1 rfl) ?_
      refine lv_bipush (v := 99) hx hb dX12_itemOf_69 (by decide) ?_
      refine lv_icmp_ne (tgt := 78) hx hb dX12_itemOf_71 (by decide) (fun c3 => ?_) (fun c3 => ?_)
      · skip
        have fc3 : ¬ (v0.toInt = 99) := fun h9 => c3 (Int32.toInt_inj.mp h9)
        refine lv_iload_n hx hb dX12_itemOf_78 rfl (lv_at hl 1 rfl) ?_
        refine lv_bipush (v := 104) hx hb dX12_itemOf_79 (by decide) ?_
        refine lv_icmp_ne (tgt := 88) hx hb dX12_itemOf_81 (by decide) (fun c4 => ?_) (fun c4 => ?_)
        · skip
          have fc4 : ¬ (v0.toInt = 104) := fun h9 => c4 (Int32.toInt_inj.mp h9)
          refine lv_iload_n hx hb dX12_itemOf_88 rfl (lv_at hl 1 rfl) ?_
          refine lv_bipush (v := 108) hx hb dX12_itemOf_89 (by decide) ?_
          refine lv_icmp_ne (tgt := 98) hx hb dX12_itemOf_91 (by decide) (fun c5 => ?_) (fun c5 => ?_)
          · skip
            have fc5 : ¬ (v0.toInt = 108) := fun h9 => c5 (Int32.toInt_inj.mp h9)
            refine lv_iconst (v := (-1)) hx hb dX12_itemOf_98 (by decide) ?_
            subst hQ
            have hP9 := hP.sub (ws' := []) [] rfl
            have hD9 := hD.sub (ws' := []) [] (by decide) rfl
            have hK9 := hK.sub (tys' := []) [] rfl
            exact W.iret (v := (-1)) hx hb hr (fun t ht hW => ⟨⟨(-1), (-1), rfl, rfl, ⟨by first | omega | decide, by first | omega | decide, fun h9 => absurd (by decide) h9, by rw [ht]; exact hP9, va_K.moved hW.alike hK9, hD9⟩⟩, hS.F ht⟩) hS.2.2 dX12_itemOf_99
          · skip
            have fc5 : v0.toInt = 108 := congrArg Int32.toInt c5
            refine lv_iconst (v := 4) hx hb dX12_itemOf_94 (by decide) ?_
            refine lv_goto (tgt := 99) hx hb dX12_itemOf_95 (by decide) ?_
            subst hQ
            have hP9 := hP.sub (ws' := []) [] rfl
            have hD9 := hD.sub (ws' := []) [] (by decide) rfl
            have hK9 := hK.sub (tys' := []) [] rfl
            exact W.iret (v := 4) hx hb hr (fun t ht hW => ⟨⟨4, 4, rfl, rfl, ⟨by first | omega | decide, by first | omega | decide, fun _ => by constructor <;> omega, by rw [ht]; exact hP9, va_K.moved hW.alike hK9, hD9⟩⟩, hS.F ht⟩) hS.2.2 dX12_itemOf_99
        · skip
          have fc4 : v0.toInt = 104 := congrArg Int32.toInt c4
          refine lv_iconst (v := 3) hx hb dX12_itemOf_84 (by decide) ?_
          refine lv_goto (tgt := 99) hx hb dX12_itemOf_85 (by decide) ?_
          subst hQ
          have hP9 := hP.sub (ws' := []) [] rfl
          have hD9 := hD.sub (ws' := []) [] (by decide) rfl
          have hK9 := hK.sub (tys' := []) [] rfl
          exact W.iret (v := 3) hx hb hr (fun t ht hW => ⟨⟨3, 3, rfl, rfl, ⟨by first | omega | decide, by first | omega | decide, fun _ => by constructor <;> omega, by rw [ht]; exact hP9, va_K.moved hW.alike hK9, hD9⟩⟩, hS.F ht⟩) hS.2.2 dX12_itemOf_99
      · skip
        have fc3 : v0.toInt = 99 := congrArg Int32.toInt c3
        refine lv_iconst (v := 2) hx hb dX12_itemOf_74 (by decide) ?_
        refine lv_goto (tgt := 99) hx hb dX12_itemOf_75 (by decide) ?_
        subst hQ
        have hP9 := hP.sub (ws' := []) [] rfl
        have hD9 := hD.sub (ws' := []) [] (by decide) rfl
        have hK9 := hK.sub (tys' := []) [] rfl
        exact W.iret (v := 2) hx hb hr (fun t ht hW => ⟨⟨2, 2, rfl, rfl, ⟨by first | omega | decide, by first | omega | decide, fun _ => by constructor <;> omega, by rw [ht]; exact hP9, va_K.moved hW.alike hK9, hD9⟩⟩, hS.F ht⟩) hS.2.2 dX12_itemOf_99
    · skip
      have fc2 : v0.toInt = 97 := congrArg Int32.toInt c2
      refine lv_iconst (v := 1) hx hb dX12_itemOf_64 (by decide) ?_
      refine lv_goto (tgt := 99) hx hb dX12_itemOf_65 (by decide) ?_
      subst hQ
      have hP9 := hP.sub (ws' := []) [] rfl
      have hD9 := hD.sub (ws' := []) [] (by decide) rfl
      have hK9 := hK.sub (tys' := []) [] rfl
      exact W.iret (v := 1) hx hb hr (fun t ht hW => ⟨⟨1, 1, rfl, rfl, ⟨by first | omega | decide, by first | omega | decide, fun _ => by constructor <;> omega, by rw [ht]; exact hP9, va_K.moved hW.alike hK9, hD9⟩⟩, hS.F ht⟩) hS.2.2 dX12_itemOf_99
  · skip
    have fc1 : v0.toInt = 122 := congrArg Int32.toInt c1
    refine lv_iconst (v := 0) hx hb dX12_itemOf_54 (by decide) ?_
    refine lv_goto (tgt := 99) hx hb dX12_itemOf_55 (by decide) ?_
    subst hQ
    have hP9 := hP.sub (ws' := []) [] rfl
    have hD9 := hD.sub (ws' := []) [] (by decide) rfl
    have hK9 := hK.sub (tys' := []) [] rfl
    exact W.iret (v := 0) hx hb hr (fun t ht hW => ⟨⟨0, 0, rfl, rfl, ⟨by first | omega | decide, by first | omega | decide, fun _ => by constructor <;> omega, by rw [ht]; exact hP9, va_K.moved hW.alike hK9, hD9⟩⟩, hS.F ht⟩) hS.2.2 dX12_itemOf_99
def q_X12_lowest : List Cond := .code yX12_lowest cX12_lowest 2 (some .int) :: (([] : List Cond))
set_option maxHeartbeats 4000000 in
set_option maxRecDepth 100000 in
theorem k_X12_lowest (l : Launch) (dC : Nat → ClassId) (dI : Nat → Nat → Nat) (v0 : Int32) (i_v0 : 0 ≤ v0.toInt ∧ v0.toInt ≤ 4) (sz : Nat) : Met l yX12_lowest q_X12_lowest ({ frames := 0, cells := 0, slots := 0, locals := 0 }) (va_Pc [.int 98, .int v0] (fun U => U.heap.size = sz ∧ va_P (dC, dI) vwCl [] U.heap ∧ va_K (dC, dI) vwCl [] U ∧ va_D (fun _ => True) [])) (va_Qi (fun (r : Int32) (r9 : Int32) => r9 = r) (fun (r : Int32) (t : State) => ((0 ≤ r.toInt) ∧ (r.toInt ≤ 1) ∧ (r.toInt = pm_lob v0.toInt) ∧ va_P (dC, dI) vwCl [] t.heap ∧ va_K (dC, dI) vwCl [] t ∧ va_D (va_A [] sz) [])) (va_A [] sz)) 0 0 (va_A [] sz) := by
  refine Met.ofW (cc := cX12_lowest) (maxL := 2) (ret := (some .int)) (by decide) rfl ?_
  intro p e s m args below meth c s₁ B hml hv
  obtain ⟨i_v0a, i_v0b⟩ := i_v0
  obtain ⟨rfl, hsz, hP, hK, hD0⟩ := hv
  have hx := B.exec
  have hb := B.bytes
  have hr := B.returns
  have hts := atoms_spec (ws := q_X12_lowest) B.pre
  have hown : s.vm.findClass RX12 = some m.cls := findClass_of_methodNamed B.named
  have hlocks := B.notSynchronized
  subst hsz
  have hD := hD0.self (sz := s.heap.size)
  generalize hAe : va_A [] s.heap.size = A at hD ⊢
  have hA : ∀ q : Nat, s.heap.size ≤ q → A q := fun q h => by rw [← hAe]; exact Or.inr h
  have hS : va_S A s.heap s.heap [] := va_S.rf
  generalize hQ : (MQ below _ _ s 0 0 A) = Q
  have hl := lv_entry ([.int 98, .int v0]) (n := 2) (Nat.le_of_ble_eq_true rfl)
  rw [lg_entry_eq]
  generalize (lg_sl ([.int 98, .int v0]) ++ List.replicate (2 - (lg_sl ([.int 98, .int v0])).length) Slot.unset).toArray = ls at hl ⊢
  have hl : lv_has ls 2 [(0, .int 98), (1, .int v0)] := hl
  obtain ⟨H, hH⟩ : ∃ H : Heap, H = s.heap := ⟨_, rfl⟩
  obtain ⟨locs, hlocs⟩ : ∃ y : List Loc, y = [] := ⟨_, rfl⟩
  have hS : va_S A s.heap H locs := by rw [hH, hlocs]; exact va_S.rf
  have hP : va_P (dC, dI) vwCl [] H := by rw [hH]; exact hP
  rw [← hH, ← hlocs]
  refine lv_iload_n hx hb dX12_lowest_0 rfl (lv_at hl 0 rfl) ?_
  refine lv_bipush (v := 115) hx hb dX12_lowest_1 (by decide) ?_
  refine lv_icmp_ne (tgt := 23) hx hb dX12_lowest_3 (by decide) (fun _ => ?_) (fun c => absurd c (by decide))
  refine lv_iload_n hx hb dX12_lowest_23 rfl (lv_at hl 1 rfl) ?_
  refine lv_if_ne (tgt := 31) hx hb dX12_lowest_24 (by decide) (fun c1 => ?_) (fun c1 => ?_)
  · skip
    have fc1 : ¬ (v0.toInt = 0) := fun h9 => c1 (Int32.toInt_inj.mp h9)
    refine lv_iconst (v := 0) hx hb dX12_lowest_31 (by decide) ?_
    subst hQ
    have hP9 := hP.sub (ws' := []) [] rfl
    have hD9 := hD.sub (ws' := []) [] (by decide) rfl
    have hK9 := hK.sub (tys' := []) [] rfl
    exact W.iret (v := 0) hx hb hr (fun t ht hW => ⟨⟨0, 0, rfl, rfl, ⟨by first | omega | decide, by first | omega | decide, by unfold pm_lob; (repeat' split) <;> first | omega | decide, by rw [ht]; exact hP9, va_K.moved hW.alike hK9, hD9⟩⟩, hS.F ht⟩) hS.2.2 dX12_lowest_32
  · skip
    have fc1 : v0.toInt = 0 := congrArg Int32.toInt c1
    refine lv_iconst (v := 1) hx hb dX12_lowest_27 (by decide) ?_
    refine lv_goto (tgt := 32) hx hb dX12_lowest_28 (by decide) ?_
    subst hQ
    have hP9 := hP.sub (ws' := []) [] rfl
    have hD9 := hD.sub (ws' := []) [] (by decide) rfl
    have hK9 := hK.sub (tys' := []) [] rfl
    exact W.iret (v := 1) hx hb hr (fun t ht hW => ⟨⟨1, 1, rfl, rfl, ⟨by first | omega | decide, by first | omega | decide, by unfold pm_lob; (repeat' split) <;> first | omega | decide, by rw [ht]; exact hP9, va_K.moved hW.alike hK9, hD9⟩⟩, hS.F ht⟩) hS.2.2 dX12_lowest_32
def q_X12_highest : List Cond := .code yX12_highest cX12_highest 2 (some .int) :: (([] : List Cond))
set_option maxHeartbeats 4000000 in
set_option maxRecDepth 100000 in
theorem k_X12_highest (l : Launch) (dC : Nat → ClassId) (dI : Nat → Nat → Nat) (v0 : Int32) (i_v0 : 0 ≤ v0.toInt ∧ v0.toInt ≤ 4) (sz : Nat) : Met l yX12_highest q_X12_highest ({ frames := 0, cells := 0, slots := 0, locals := 0 }) (va_Pc [.int 98, .int v0] (fun U => U.heap.size = sz ∧ va_P (dC, dI) vwCl [] U.heap ∧ va_K (dC, dI) vwCl [] U ∧ va_D (fun _ => True) [])) (va_Qi (fun (r : Int32) (r9 : Int32) => r9 = r) (fun (r : Int32) (t : State) => ((1 ≤ r.toInt) ∧ (r.toInt ≤ 30) ∧ (r.toInt = pm_hib v0.toInt) ∧ va_P (dC, dI) vwCl [] t.heap ∧ va_K (dC, dI) vwCl [] t ∧ va_D (va_A [] sz) [])) (va_A [] sz)) 0 0 (va_A [] sz) := by
  refine Met.ofW (cc := cX12_highest) (maxL := 2) (ret := (some .int)) (by decide) rfl ?_
  intro p e s m args below meth c s₁ B hml hv
  obtain ⟨i_v0a, i_v0b⟩ := i_v0
  obtain ⟨rfl, hsz, hP, hK, hD0⟩ := hv
  have hx := B.exec
  have hb := B.bytes
  have hr := B.returns
  have hts := atoms_spec (ws := q_X12_highest) B.pre
  have hown : s.vm.findClass RX12 = some m.cls := findClass_of_methodNamed B.named
  have hlocks := B.notSynchronized
  subst hsz
  have hD := hD0.self (sz := s.heap.size)
  generalize hAe : va_A [] s.heap.size = A at hD ⊢
  have hA : ∀ q : Nat, s.heap.size ≤ q → A q := fun q h => by rw [← hAe]; exact Or.inr h
  have hS : va_S A s.heap s.heap [] := va_S.rf
  generalize hQ : (MQ below _ _ s 0 0 A) = Q
  have hl := lv_entry ([.int 98, .int v0]) (n := 2) (Nat.le_of_ble_eq_true rfl)
  rw [lg_entry_eq]
  generalize (lg_sl ([.int 98, .int v0]) ++ List.replicate (2 - (lg_sl ([.int 98, .int v0])).length) Slot.unset).toArray = ls at hl ⊢
  have hl : lv_has ls 2 [(0, .int 98), (1, .int v0)] := hl
  obtain ⟨H, hH⟩ : ∃ H : Heap, H = s.heap := ⟨_, rfl⟩
  obtain ⟨locs, hlocs⟩ : ∃ y : List Loc, y = [] := ⟨_, rfl⟩
  have hS : va_S A s.heap H locs := by rw [hH, hlocs]; exact va_S.rf
  have hP : va_P (dC, dI) vwCl [] H := by rw [hH]; exact hP
  rw [← hH, ← hlocs]
  refine lv_iload_n hx hb dX12_highest_0 rfl (lv_at hl 0 rfl) ?_
  refine lv_bipush (v := 115) hx hb dX12_highest_1 (by decide) ?_
  refine lv_icmp_ne (tgt := 37) hx hb dX12_highest_3 (by decide) (fun _ => ?_) (fun c => absurd c (by decide))
  refine lv_iload_n hx hb dX12_highest_37 rfl (lv_at hl 1 rfl) ?_
  refine lv_if_ne (tgt := 46) hx hb dX12_highest_38 (by decide) (fun c1 => ?_) (fun c1 => ?_)
  · skip
    have fc1 : ¬ (v0.toInt = 0) := fun h9 => c1 (Int32.toInt_inj.mp h9)
    refine lv_iload_n hx hb dX12_highest_46 rfl (lv_at hl 1 rfl) ?_
    refine lv_iconst (v := 3) hx hb dX12_highest_47 (by decide) ?_
    refine lv_icmp_ne (tgt := 55) hx hb dX12_highest_48 (by decide) (fun c2 => ?_) (fun c2 => ?_)
    · skip
      have fc2 : ¬ (v0.toInt = 3) := fun h9 => c2 (Int32.toInt_inj.mp h9)
      refine lv_iload_n hx hb dX12_highest_55 rfl (lv_at hl 1 rfl) ?_
      refine lv_iconst (v := 4) hx hb dX12_highest_56 (by decide) ?_
      refine lv_icmp_ne (tgt := 64) hx hb dX12_highest_57 (by decide) (fun c3 => ?_) (fun c3 => ?_)
      · skip
        have fc3 : ¬ (v0.toInt = 4) := fun h9 => c3 (Int32.toInt_inj.mp h9)
        refine lv_bipush (v := 9) hx hb dX12_highest_64 (by decide) ?_
        subst hQ
        have hP9 := hP.sub (ws' := []) [] rfl
        have hD9 := hD.sub (ws' := []) [] (by decide) rfl
        have hK9 := hK.sub (tys' := []) [] rfl
        exact W.iret (v := 9) hx hb hr (fun t ht hW => ⟨⟨9, 9, rfl, rfl, ⟨by first | omega | decide, by first | omega | decide, by unfold pm_hib; (repeat' split) <;> first | omega | decide, by rw [ht]; exact hP9, va_K.moved hW.alike hK9, hD9⟩⟩, hS.F ht⟩) hS.2.2 dX12_highest_66
      · skip
        have fc3 : v0.toInt = 4 := congrArg Int32.toInt c3
        refine lv_iconst (v := 1) hx hb dX12_highest_60 (by decide) ?_
        refine lv_goto (tgt := 66) hx hb dX12_highest_61 (by decide) ?_
        subst hQ
        have hP9 := hP.sub (ws' := []) [] rfl
        have hD9 := hD.sub (ws' := []) [] (by decide) rfl
        have hK9 := hK.sub (tys' := []) [] rfl
        exact W.iret (v := 1) hx hb hr (fun t ht hW => ⟨⟨1, 1, rfl, rfl, ⟨by first | omega | decide, by first | omega | decide, by unfold pm_hib; (repeat' split) <;> first | omega | decide, by rw [ht]; exact hP9, va_K.moved hW.alike hK9, hD9⟩⟩, hS.F ht⟩) hS.2.2 dX12_highest_66
    · skip
      have fc2 : v0.toInt = 3 := congrArg Int32.toInt c2
      refine lv_iconst (v := 4) hx hb dX12_highest_51 (by decide) ?_
      refine lv_goto (tgt := 66) hx hb dX12_highest_52 (by decide) ?_
      subst hQ
      have hP9 := hP.sub (ws' := []) [] rfl
      have hD9 := hD.sub (ws' := []) [] (by decide) rfl
      have hK9 := hK.sub (tys' := []) [] rfl
      exact W.iret (v := 4) hx hb hr (fun t ht hW => ⟨⟨4, 4, rfl, rfl, ⟨by first | omega | decide, by first | omega | decide, by unfold pm_hib; (repeat' split) <;> first | omega | decide, by rw [ht]; exact hP9, va_K.moved hW.alike hK9, hD9⟩⟩, hS.F ht⟩) hS.2.2 dX12_highest_66
  · skip
    have fc1 : v0.toInt = 0 := congrArg Int32.toInt c1
    refine lv_bipush (v := 30) hx hb dX12_highest_41 (by decide) ?_
    refine lv_goto (tgt := 66) hx hb dX12_highest_43 (by decide) ?_
    subst hQ
    have hP9 := hP.sub (ws' := []) [] rfl
    have hD9 := hD.sub (ws' := []) [] (by decide) rfl
    have hK9 := hK.sub (tys' := []) [] rfl
    exact W.iret (v := 30) hx hb hr (fun t ht hW => ⟨⟨30, 30, rfl, rfl, ⟨by first | omega | decide, by first | omega | decide, by unfold pm_hib; (repeat' split) <;> first | omega | decide, by rw [ht]; exact hP9, va_K.moved hW.alike hK9, hD9⟩⟩, hS.F ht⟩) hS.2.2 dX12_highest_66
