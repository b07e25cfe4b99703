abbrev wd_b9c2d44b (p0 : Nat) (p1 : Int32) (p2 : Nat) (p3 : Int32) (p4 : Int32) (p5 : Int32) (p6 : Int32) (p7 : Nat) (p8 : Nat) (p9 : Nat) (p10 : Nat) (p11 : Nat) (p12 : Nat) (p13 : Nat) (p14 : Int32) (p15 : Int32) (p16 : Nat) (p17 : Nat) (p18 : Nat) (p19 : Nat) (p20 : Int32) (p21 : Nat) (p22 : Nat) (p23 : Int32) (p24 : Int32) (p25 : Nat) (p26 : Nat) (p27 : Int32) (p28 : Int32) (p29 : Nat) (p30 : Int32) (p31 : Int32) (p32 : Nat) (p33 : Int32) (p34 : Int64) (p35 : Nat) (p36 : Int32) (p37 : Int32) (p38 : Nat) (p39 : Nat) (p40 : Nat) (p41 : Nat) (p42 : Nat) (p43 : Nat) (p44 : Int32) (p45 : Nat) (p46 : Nat) (p47 : Nat) (p48 : Int32) (p49 : Nat) (p50 : ClassId) (p51 : Nat → Int32) (p52 : Nat) (p53 : ClassId) (p54 : Nat → Int32) : va_W := [(p0, .inr (12, [.int p1, .ref p2, .int p3, .int p4, .int p5, .int p6, .ref p7, .ref p8, .ref p9, .ref p10, .ref p11, .ref p12, .ref p13, .int p14, .int p15, .ref p16, .ref p17, .ref p18, .ref p19, .int p20, .ref p21, .ref p22, .int p23, .int p24, .ref p25, .ref p26, .int p27, .int p28, .ref p29, .int p30, .int p31, .ref p32, .int p33, .long p34, .ref p35, .int p36, .int p37, .ref p38, .ref p39, .ref p40, .ref p41, .ref p42, .ref p43, .int p44, .ref p45, .ref p46, .ref p47, .int p48])), (p49, .inl (p50, 240, .inl p51)), (p52, .inl (p53, 40, .inl p54))]
abbrev wd_aad598ec (p0 : Nat) (p1 : ClassId) (p2 : Nat → Int32) : va_W := [(p0, .inl (p1, 40, .inl p2))]
abbrev wd_490cd7da (p0 : Nat) (p1 : Int32) (p2 : Nat) (p3 : Int32) (p4 : Int32) (p5 : Int32) (p6 : Int32) (p7 : Nat) (p8 : Nat) (p9 : Nat) (p10 : Nat) (p11 : Nat) (p12 : Nat) (p13 : Nat) (p14 : Int32) (p15 : Int32) (p16 : Nat) (p17 : Nat) (p18 : Nat) (p19 : Nat) (p20 : Int32) (p21 : Nat) (p22 : Nat) (p23 : Int32) (p24 : Int32) (p25 : Nat) (p26 : Nat) (p27 : Int32) (p28 : Int32) (p29 : Nat) (p30 : Int32) (p31 : Int32) (p32 : Nat) (p33 : Int32) (p34 : Int64) (p35 : Nat) (p36 : Int32) (p37 : Int32) (p38 : Nat) (p39 : Nat) (p40 : Nat) (p41 : Nat) (p42 : Nat) (p43 : Nat) (p44 : Int32) (p45 : Nat) (p46 : Nat) (p47 : Nat) (p48 : Int32) (p49 : Nat) (p50 : ClassId) (p51 : Nat → Int32) (p52 : Nat) (p53 : ClassId) (p54 : Nat → Int32) : va_W := [(p0, .inr (12, [.int p1, .ref p2, .int p3, .int p4, .int p5, .int p6, .ref p7, .ref p8, .ref p9, .ref p10, .ref p11, .ref p12, .ref p13, .int p14, .int p15, .ref p16, .ref p17, .ref p18, .ref p19, .int p20, .ref p21, .ref p22, .int p23, .int p24, .ref p25, .ref p26, .int p27, .int p28, .ref p29, .int p30, .int p31, .ref p32, .int p33, .long p34, .ref p35, .int p36, .int p37, .ref p38, .ref p39, .ref p40, .ref p41, .ref p42, .ref p43, .int p44, .ref p45, .ref p46, .ref p47, .int p48])), (p49, .inl (p50, 240, .inl p51)), (p52, .inl (p53, 4, .inl p54))]
abbrev wd_6f8f3203 (p0 : Nat) (p1 : ClassId) (p2 : Nat → Int32) : va_W := [(p0, .inl (p1, 4, .inl p2))]
abbrev wd_77d3d1bb (p0 : Nat) (p1 : Int32) (p2 : Nat) (p3 : Int32) (p4 : Int32) (p5 : Int32) (p6 : Int32) (p7 : Nat) (p8 : Nat) (p9 : Nat) (p10 : Nat) (p11 : Nat) (p12 : Nat) (p13 : Nat) (p14 : Int32) (p15 : Int32) (p16 : Nat) (p17 : Nat) (p18 : Nat) (p19 : Nat) (p20 : Int32) (p21 : Nat) (p22 : Nat) (p23 : Int32) (p24 : Int32) (p25 : Nat) (p26 : Nat) (p27 : Int32) (p28 : Int32) (p29 : Nat) (p30 : Int32) (p31 : Int32) (p32 : Nat) (p33 : Int32) (p34 : Int64) (p35 : Nat) (p36 : Int32) (p37 : Int32) (p38 : Nat) (p39 : Nat) (p40 : Nat) (p41 : Nat) (p42 : Nat) (p43 : Nat) (p44 : Int32) (p45 : Nat) (p46 : Nat) (p47 : Nat) (p48 : Int32) (p49 : Nat) (p50 : ClassId) (p51 : Nat → Int32) (p52 : Nat) (p53 : ClassId) (p54 : Nat → Int32) (p55 : Nat) (p56 : ClassId) (p57 : Nat → Int32) : va_W := [(p0, .inr (12, [.int p1, .ref p2, .int p3, .int p4, .int p5, .int p6, .ref p7, .ref p8, .ref p9, .ref p10, .ref p11, .ref p12, .ref p13, .int p14, .int p15, .ref p16, .ref p17, .ref p18, .ref p19, .int p20, .ref p21, .ref p22, .int p23, .int p24, .ref p25, .ref p26, .int p27, .int p28, .ref p29, .int p30, .int p31, .ref p32, .int p33, .long p34, .ref p35, .int p36, .int p37, .ref p38, .ref p39, .ref p40, .ref p41, .ref p42, .ref p43, .int p44, .ref p45, .ref p46, .ref p47, .int p48])), (p49, .inl (p50, 240, .inl p51)), (p52, .inl (p53, 4, .inl p54)), (p55, .inl (p56, 40, .inl p57))]
abbrev wd_5ef8c86c (p0 : Nat) (p1 : ClassId) (p2 : Nat → Int32) (p3 : Nat) (p4 : ClassId) (p5 : Nat → Int32) : va_W := [(p0, .inl (p1, 4, .inl p2)), (p3, .inl (p4, 40, .inl p5))]
abbrev wd_bcaf9cf2 (p0 : Nat) (p1 : ClassId) (p2 : Nat → Int32) (p3 : Nat) (p4 : ClassId) (p5 : Nat → Int32) (p6 : Nat) (p7 : ClassId) (p8 : Nat → Int32) : va_W := [(p0, .inl (p1, 240, .inl p2)), (p3, .inl (p4, 4, .inl p5)), (p6, .inl (p7, 40, .inl p8))]
abbrev wd_d0032b31 (p0 : Nat) (p1 : ClassId) (p2 : Nat → Int32) : va_W := [(p0, .inl (p1, 240, .inl p2))]
def q_X12_items : List Cond := .code yX12_items cX12_items 7 none :: (([.code yX12_usual cX12_usual 2 (some .int), .initialized RX12, .static yX12_usual, .methodLink RX12 221 yX12_usual, .code yX12_look cX12_look 1 (some .int), .code yX12_here cX12_here 1 (some .int), .fieldLink RX12 112 "LeftArgumentsModel" "at" "I", .fieldLink RX12 109 "LeftArgumentsModel" "size" "I", .fieldLink RX12 9 "LeftArgumentsModel" "tape" "[I", .instanceMethod yX12_here, .selects RX12 yX12_here yX12_here, .methodLink RX12 115 yX12_here, .instanceMethod yX12_look, .selects RX12 yX12_look yX12_look, .methodLink RX12 131 yX12_look, .code yX12_itemOf cX12_itemOf 2 (some .int), .static yX12_itemOf, .methodLink RX12 225 yX12_itemOf, .fieldLink RX12 119 "LeftArgumentsModel" "wrong" "I", .code yX12_has cX12_has 2 (some .boolean), .static yX12_has, .methodLink RX12 228 yX12_has, .code yX12_lowest cX12_lowest 2 (some .int), .static yX12_lowest, .methodLink RX12 232 yX12_lowest, .code yX12_highest cX12_highest 2 (some .int), .static yX12_highest, .methodLink RX12 235 yX12_highest, .code yX12_number cX12_number 4 (some .int), .code yX12_isDigit cX12_isDigit 1 (some .boolean), .static yX12_isDigit, .methodLink RX12 134 yX12_isDigit, .code yX12_bad cX12_bad 1 none, .instanceMethod yX12_bad, .selects RX12 yX12_bad yX12_bad, .methodLink RX12 128 yX12_bad, .code yX12_in cX12_in 3 (some .boolean), .static yX12_in, .methodLink RX12 217 yX12_in, .instanceMethod yX12_number, .selects RX12 yX12_number yX12_number, .methodLink RX12 238 yX12_number] : List Cond) ++ wsX120)
set_option maxRecDepth 20000 in
theorem g_X12_items_0 : GoodIn q_X12_items (va_wsS RX12 221 yX12_usual q_X12_usual_4) := goodIn_app (goodIn_r _ [4, 3, 2] rfl (by decide +kernel)) (goodIn_r (.code yX12_usual cX12_usual 2 (some .int) :: []) [1] rfl (by decide +kernel))
set_option maxRecDepth 20000 in
theorem g_X12_items_1 : GoodIn q_X12_items (va_wsS RX12 221 yX12_usual q_X12_usual_5) := goodIn_app (goodIn_r _ [4, 3, 2] rfl (by decide +kernel)) (goodIn_r (.code yX12_usual cX12_usual 2 (some .int) :: []) [1] rfl (by decide +kernel))
set_option maxRecDepth 20000 in
theorem g_X12_items_2 : GoodIn q_X12_items (va_wsS RX12 221 yX12_usual q_X12_usual_6) := goodIn_app (goodIn_r _ [4, 3, 2] rfl (by decide +kernel)) (goodIn_r (.code yX12_usual cX12_usual 2 (some .int) :: []) [1] rfl (by decide +kernel))
set_option maxRecDepth 20000 in
theorem g_X12_items_3 : GoodIn q_X12_items (va_wsS RX12 221 yX12_usual q_X12_usual_7) := goodIn_app (goodIn_r _ [4, 3, 2] rfl (by decide +kernel)) (goodIn_r (.code yX12_usual cX12_usual 2 (some .int) :: []) [1] rfl (by decide +kernel))
set_option maxRecDepth 20000 in
theorem g_X12_items_4 : GoodIn q_X12_items (va_wsS RX12 221 yX12_usual q_X12_usual_8) := goodIn_app (goodIn_r _ [4, 3, 2] rfl (by decide +kernel)) (goodIn_r (.code yX12_usual cX12_usual 2 (some .int) :: []) [1] rfl (by decide +kernel))
set_option maxRecDepth 20000 in
theorem g_X12_items_5 : GoodIn q_X12_items (wsV RX12 131 RX12 yX12_look q_X12_look) := goodIn_app (goodIn_r _ [15, 13, 14, 2] rfl (by decide +kernel)) (goodIn_ca (goodIn_r (.code yX12_look cX12_look 1 (some .int) :: [.code yX12_here cX12_here 1 (some .int), .fieldLink RX12 112 "LeftArgumentsModel" "at" "I", .fieldLink RX12 109 "LeftArgumentsModel" "size" "I", .fieldLink RX12 9 "LeftArgumentsModel" "tape" "[I", .initialized RX12, .instanceMethod yX12_here, .selects RX12 yX12_here yX12_here, .methodLink RX12 115 yX12_here]) [5, 6, 7, 8, 9, 2, 10, 11, 12] rfl (by decide +kernel)) (goodIn_sub (fun _ h => List.mem_cons_of_mem _ (List.mem_append_right _ h)) gwX12))
set_option maxRecDepth 20000 in
theorem g_X12_items_6 : GoodIn q_X12_items (va_wsS RX12 225 yX12_itemOf q_X12_itemOf) := goodIn_app (goodIn_r _ [18, 17, 2] rfl (by decide +kernel)) (goodIn_r (.code yX12_itemOf cX12_itemOf 2 (some .int) :: []) [16] rfl (by decide +kernel))
set_option maxRecDepth 20000 in
theorem g_X12_items_8 : GoodIn q_X12_items (va_wsS RX12 228 yX12_has q_X12_has) := goodIn_app (goodIn_r _ [22, 21, 2] rfl (by decide +kernel)) (goodIn_r (.code yX12_has cX12_has 2 (some .boolean) :: []) [20] rfl (by decide +kernel))
set_option maxRecDepth 20000 in
theorem g_X12_items_9 : GoodIn q_X12_items (va_wsS RX12 232 yX12_lowest q_X12_lowest) := goodIn_app (goodIn_r _ [25, 24, 2] rfl (by decide +kernel)) (goodIn_r (.code yX12_lowest cX12_lowest 2 (some .int) :: []) [23] rfl (by decide +kernel))
set_option maxRecDepth 20000 in
theorem g_X12_items_10 : GoodIn q_X12_items (va_wsS RX12 235 yX12_highest q_X12_highest) := goodIn_app (goodIn_r _ [28, 27, 2] rfl (by decide +kernel)) (goodIn_r (.code yX12_highest cX12_highest 2 (some .int) :: []) [26] rfl (by decide +kernel))
set_option maxRecDepth 20000 in
theorem g_X12_items_11 : GoodIn q_X12_items (wsV RX12 238 RX12 yX12_number q_X12_number) := goodIn_app (goodIn_r _ [42, 40, 41, 2] rfl (by decide +kernel)) (goodIn_ca (goodIn_r (.code yX12_number cX12_number 4 (some .int) :: [.code yX12_look cX12_look 1 (some .int), .code yX12_here cX12_here 1 (some .int), .fieldLink RX12 112 "LeftArgumentsModel" "at" "I", .fieldLink RX12 109 "LeftArgumentsModel" "size" "I", .fieldLink RX12 9 "LeftArgumentsModel" "tape" "[I", .initialized RX12, .instanceMethod yX12_here, .selects RX12 yX12_here yX12_here, .methodLink RX12 115 yX12_here, .instanceMethod yX12_look, .selects RX12 yX12_look yX12_look, .methodLink RX12 131 yX12_look, .code yX12_isDigit cX12_isDigit 1 (some .boolean), .static yX12_isDigit, .methodLink RX12 134 yX12_isDigit, .code yX12_bad cX12_bad 1 none, .fieldLink RX12 119 "LeftArgumentsModel" "wrong" "I", .instanceMethod yX12_bad, .selects RX12 yX12_bad yX12_bad, .methodLink RX12 128 yX12_bad, .code yX12_in cX12_in 3 (some .boolean), .static yX12_in, .methodLink RX12 217 yX12_in]) [29, 5, 6, 7, 8, 9, 2, 10, 11, 12, 13, 14, 15, 30, 31, 32, 33, 19, 34, 35, 36, 37, 38, 39] rfl (by decide +kernel)) (goodIn_sub (fun _ h => List.mem_cons_of_mem _ (List.mem_append_right _ h)) gwX12))
set_option maxHeartbeats 4000000 in
set_option maxRecDepth 100000 in
theorem k_X12_items (l : Launch) (dC : Nat → ClassId) (dI : Nat → Nat → Nat) (h0 : Nat) (h1 : Nat) (h2 : Nat) (v0 : Int32) (v1 : Int32) (v2 : Int32) (v3 : Int32) (r0 : Nat) (r1 : Nat) (r2 : Nat) (r3 : Nat) (r4 : Nat) (r5 : Nat) (r6 : Nat) (v4 : Int32) (v5 : Int32) (r7 : Nat) (r8 : Nat) (r9 : Nat) (v6 : Int32) (r10 : Nat) (r11 : Nat) (v7 : Int32) (v8 : Int32) (r12 : Nat) (r13 : Nat) (v9 : Int32) (v10 : Int32) (r14 : Nat) (v11 : Int32) (v12 : Int32) (r15 : Nat) (v13 : Int32) (w14 : Int64) (r16 : Nat) (v15 : Int32) (v16 : Int32) (r17 : Nat) (r18 : Nat) (r19 : Nat) (r20 : Nat) (r21 : Nat) (r22 : Nat) (v17 : Int32) (r23 : Nat) (r24 : Nat) (r25 : Nat) (v18 : Int32) (g0 : ClassId) (f19 : Nat → Int32) (g1 : ClassId) (f20 : Nat → Int32) (i_v1 : 0 ≤ v1.toInt ∧ v1.toInt ≤ 240) (i_v2 : 0 ≤ v2.toInt ∧ v2.toInt ≤ 240) (i_v4 : 0 ≤ v4.toInt ∧ v4.toInt ≤ 4) (i_v5 : 0 ≤ v5.toInt ∧ v5.toInt ≤ 4) (i_v6 : 0 ≤ v6.toInt ∧ v6.toInt ≤ 8) (i_v7 : 0 ≤ v7.toInt ∧ v7.toInt ≤ 8) (i_v8 : 0 ≤ v8.toInt ∧ v8.toInt ≤ 1) (i_v9 : -1 ≤ v9.toInt ∧ v9.toInt ≤ 3) (i_v13 : 0 ≤ v13.toInt ∧ v13.toInt ≤ 40) (i_v17 : 0 ≤ v17.toInt ∧ v17.toInt ≤ 10) (i_v18 : 0 ≤ v18.toInt ∧ v18.toInt ≤ 1) (ia_f19 : (∀ j, 0 ≤ (f19 j).toInt ∧ (f19 j).toInt ≤ 255)) (sz : Nat) : Met l yX12_items q_X12_items ({ frames := 3, cells := 0, slots := 0, locals := 63 }) (va_Pc [.ref h0, .int 98, .ref h2, .int 0, .int 5] (fun U => U.heap.size = sz ∧ va_P (dC, dI) vwCl (wd_b9c2d44b h0 v0 h1 v1 v2 (-1) v3 r0 r1 r2 r3 r4 r5 r6 v4 v5 r7 r8 r9 h2 v6 r10 r11 v7 v8 r12 r13 v9 v10 r14 v11 v12 r15 v13 w14 r16 v15 v16 r17 r18 r19 r20 r21 r22 v17 r23 r24 r25 v18 h1 g0 f19 h2 g1 f20) U.heap ∧ va_K (dC, dI) vwCl [(g0, .int), (g1, .int)] U ∧ va_D (fun _ => True) (wd_b9c2d44b h0 v0 h1 v1 v2 (-1) v3 r0 r1 r2 r3 r4 r5 r6 v4 v5 r7 r8 r9 h2 v6 r10 r11 v7 v8 r12 r13 v9 v10 r14 v11 v12 r15 v13 w14 r16 v15 v16 r17 r18 r19 r20 r21 r22 v17 r23 r24 r25 v18 h1 g0 f19 h2 g1 f20))) (va_Qv (fun (_ : Unit) => True) (fun (_ : Unit) (t : State) => (∃ (o_h0_3 : Int32) (o_h2 : Nat → Int32), 0 ≤ o_h0_3.toInt ∧ o_h0_3.toInt ≤ 240 ∧ (v2.toInt ≤ o_h0_3.toInt) ∧ (pm_bb 0 f20 o_h2) ∧ (pg_items f19 v1.toInt false 0 300 v2.toInt 0 (pg_us f20 0) = ((true, o_h0_3.toInt), o_h2)) ∧ va_P (dC, dI) vwCl (wd_b9c2d44b h0 v0 h1 v1 o_h0_3 (-1) v3 r0 r1 r2 r3 r4 r5 r6 v4 v5 r7 r8 r9 h2 v6 r10 r11 v7 v8 r12 r13 v9 v10 r14 v11 v12 r15 v13 w14 r16 v15 v16 r17 r18 r19 r20 r21 r22 v17 r23 r24 r25 v18 h1 g0 f19 h2 g1 o_h2) t.heap ∧ va_K (dC, dI) vwCl [] t ∧ va_D (va_A (wd_b9c2d44b h0 v0 h1 v1 v2 (-1) v3 r0 r1 r2 r3 r4 r5 r6 v4 v5 r7 r8 r9 h2 v6 r10 r11 v7 v8 r12 r13 v9 v10 r14 v11 v12 r15 v13 w14 r16 v15 v16 r17 r18 r19 r20 r21 r22 v17 r23 r24 r25 v18 h1 g0 f19 h2 g1 f20) sz) (wd_b9c2d44b h0 v0 h1 v1 o_h0_3 (-1) v3 r0 r1 r2 r3 r4 r5 r6 v4 v5 r7 r8 r9 h2 v6 r10 r11 v7 v8 r12 r13 v9 v10 r14 v11 v12 r15 v13 w14 r16 v15 v16 r17 r18 r19 r20 r21 r22 v17 r23 r24 r25 v18 h1 g0 f19 h2 g1 o_h2)) ∨ (∃ (o_h0_3 : Int32) (o_h0_4 : Int32) (o_h2 : Nat → Int32), 0 ≤ o_h0_3.toInt ∧ o_h0_3.toInt ≤ 240 ∧ 0 ≤ o_h0_4.toInt ∧ o_h0_4.toInt ≤ 240 ∧ (v2.toInt ≤ o_h0_3.toInt) ∧ ((pg_items f19 v1.toInt false 0 300 v2.toInt 0 (pg_us f20 0)).1 = (false, o_h0_4.toInt)) ∧ va_P (dC, dI) vwCl (wd_b9c2d44b h0 v0 h1 v1 o_h0_3 o_h0_4 v3 r0 r1 r2 r3 r4 r5 r6 v4 v5 r7 r8 r9 h2 v6 r10 r11 v7 v8 r12 r13 v9 v10 r14 v11 v12 r15 v13 w14 r16 v15 v16 r17 r18 r19 r20 r21 r22 v17 r23 r24 r25 v18 h1 g0 f19 h2 g1 o_h2) t.heap ∧ va_K (dC, dI) vwCl [] t ∧ va_D (va_A (wd_b9c2d44b h0 v0 h1 v1 v2 (-1) v3 r0 r1 r2 r3 r4 r5 r6 v4 v5 r7 r8 r9 h2 v6 r10 r11 v7 v8 r12 r13 v9 v10 r14 v11 v12 r15 v13 w14 r16 v15 v16 r17 r18 r19 r20 r21 r22 v17 r23 r24 r25 v18 h1 g0 f19 h2 g1 f20) sz) (wd_b9c2d44b h0 v0 h1 v1 o_h0_3 o_h0_4 v3 r0 r1 r2 r3 r4 r5 r6 v4 v5 r7 r8 r9 h2 v6 r10 r11 v7 v8 r12 r13 v9 v10 r14 v11 v12 r15 v13 w14 r16 v15 v16 r17 r18 r19 r20 r21 r22 v17 r23 r24 r25 v18 h1 g0 f19 h2 g1 o_h2))) (va_A (wd_b9c2d44b h0 v0 h1 v1 v2 (-1) v3 r0 r1 r2 r3 r4 r5 r6 v4 v5 r7 r8 r9 h2 v6 r10 r11 v7 v8 r12 r13 v9 v10 r14 v11 v12 r15 v13 w14 r16 v15 v16 r17 r18 r19 r20 r21 r22 v17 r23 r24 r25 v18 h1 g0 f19 h2 g1 f20) sz)) 0 0 (va_A (wd_b9c2d44b h0 v0 h1 v1 v2 (-1) v3 r0 r1 r2 r3 r4 r5 r6 v4 v5 r7 r8 r9 h2 v6 r10 r11 v7 v8 r12 r13 v9 v10 r14 v11 v12 r15 v13 w14 r16 v15 v16 r17 r18 r19 r20 r21 r22 v17 r23 r24 r25 v18 h1 g0 f19 h2 g1 f20) sz) := by
  refine Met.ofW (cc := cX12_items) (maxL := 7) (ret := none) (by decide) rfl ?_
  intro p e s m args below meth c s₁ B hml hv
  obtain ⟨i_v1a, i_v1b⟩ := i_v1
  obtain ⟨i_v2a, i_v2b⟩ := i_v2
  obtain ⟨i_v4a, i_v4b⟩ := i_v4
  obtain ⟨i_v5a, i_v5b⟩ := i_v5
  obtain ⟨i_v6a, i_v6b⟩ := i_v6
  obtain ⟨i_v7a, i_v7b⟩ := i_v7
  obtain ⟨i_v8a, i_v8b⟩ := i_v8
  obtain ⟨i_v9a, i_v9b⟩ := i_v9
  obtain ⟨i_v13a, i_v13b⟩ := i_v13
  obtain ⟨i_v17a, i_v17b⟩ := i_v17
  obtain ⟨i_v18a, i_v18b⟩ := i_v18
  obtain ⟨rfl, hsz, hP, hK, hD0⟩ := hv
  have hx := B.exec
  have hb := B.bytes
  have hr := B.returns
  have hts := atoms_spec (ws := q_X12_items) B.pre
  have hown : s.vm.findClass RX12 = some m.cls := findClass_of_methodNamed B.named
  have hlocks := B.notSynchronized
  subst hsz
  have hD := hD0.self (sz := s.heap.size)
  generalize hAe : va_A (wd_b9c2d44b h0 v0 h1 v1 v2 (-1) v3 r0 r1 r2 r3 r4 r5 r6 v4 v5 r7 r8 r9 h2 v6 r10 r11 v7 v8 r12 r13 v9 v10 r14 v11 v12 r15 v13 w14 r16 v15 v16 r17 r18 r19 r20 r21 r22 v17 r23 r24 r25 v18 h1 g0 f19 h2 g1 f20) s.heap.size = A at hD ⊢
  have hA : ∀ q : Nat, s.heap.size ≤ q → A q := fun q h => by rw [← hAe]; exact Or.inr h
  have hS : va_S A s.heap s.heap [] := va_S.rf
  generalize hQ : (MQ below _ _ s 0 0 A) = Q
  have hl := lv_entry ([.ref h0, .int 98, .ref h2, .int 0, .int 5]) (n := 7) (Nat.le_of_ble_eq_true rfl)
  rw [lg_entry_eq]
  generalize (lg_sl ([.ref h0, .int 98, .ref h2, .int 0, .int 5]) ++ List.replicate (7 - (lg_sl ([.ref h0, .int 98, .ref h2, .int 0, .int 5])).length) Slot.unset).toArray = ls at hl ⊢
  have hl : lv_has ls 7 [(0, .ref h0), (1, .int 98), (2, .ref h2), (3, .int 0), (4, .int 5)] := hl
  obtain ⟨H, hH⟩ : ∃ H : Heap, H = s.heap := ⟨_, rfl⟩
  obtain ⟨locs, hlocs⟩ : ∃ y : List Loc, y = [] := ⟨_, rfl⟩
  have hS : va_S A s.heap H locs := by rw [hH, hlocs]; exact va_S.rf
  have hP : va_P (dC, dI) vwCl (wd_b9c2d44b h0 v0 h1 v1 v2 (-1) v3 r0 r1 r2 r3 r4 r5 r6 v4 v5 r7 r8 r9 h2 v6 r10 r11 v7 v8 r12 r13 v9 v10 r14 v11 v12 r15 v13 w14 r16 v15 v16 r17 r18 r19 r20 r21 r22 v17 r23 r24 r25 v18 h1 g0 f19 h2 g1 f20) H := by rw [hH]; exact hP
  rw [← hH, ← hlocs]
  refine lv_iconst (v := 0) hx hb dX12_items_0 (by decide) ?_
  refine lv_istore (lv' := [(5, .int 0), (0, .ref h0), (1, .int 98), (2, .ref h2), (3, .int 0), (4, .int 5)]) hx hb dX12_items_1 hl (by decide) rfl (fun ls hl => ?_)
  refine lv_iload hx hb dX12_items_3 (lv_at hl 0 rfl) ?_
  refine lv_iload hx hb dX12_items_5 (lv_at hl 5 rfl) ?_
  refine lv_icmp_ge (tgt := 28) hx hb dX12_items_7 (by decide) (fun c => absurd c (by decide)) (fun _ => ?_)
  refine lv_aload_n hx hb dX12_items_10 rfl (lv_at hl 3 rfl) ?_
  refine lv_iload_n hx hb dX12_items_11 rfl (lv_at hl 4 rfl) ?_
  refine lv_iload hx hb dX12_items_12 (lv_at hl 0 rfl) ?_
  refine lv_iadd hx hb dX12_items_14 ?_
  refine lv_topi (fun tv1 etv1 => ?_)
  obtain rfl : tv1 = (0 : Int32) := etv1.trans (by first | rfl | decide)
  refine lv_iload_n hx hb dX12_items_15 rfl (lv_at hl 2 rfl) ?_
  refine lv_iload hx hb dX12_items_16 (lv_at hl 0 rfl) ?_
  have hPc := hP.sub (ws' := []) [] rfl
  have hDc := hD.sub (ws' := []) [] (by decide) rfl
  have hKc := hK.sub (tys' := []) [] rfl
  have hFc := va_free (wc := []) hD hS hA [] rfl
  refine va_calli (va_runS (As := [.int 98, .int 0]) (rest := [.int 0, .ref h2]) ⟨hx, hb, hml, hown, hts⟩ (k_X12_usual_4 l dC dI   H.size) (va_cwS 2 hts g_X12_items_0 rfl rfl rfl (by decide +kernel) ⟨Nat.le_of_ble_eq_true rfl, Nat.le_of_ble_eq_true rfl⟩) ⟨fun a U g mk q => by obtain ⟨q0, q1, qP, qK, qD⟩ := q; exact ⟨q0, q1, qP, va_K.moved (u := U) (U := U.calling g mk a) (Vm.Alike.refl U.vm) qK, qD⟩, fun U hU hW => ⟨rfl, by rw [hU], by rw [hU]; exact hPc, va_K.moved hW.alike hKc, hDc.weaken (fun _ _ _ _ => trivial)⟩⟩ rfl rfl hl.1 rfl (lv_room (Nat.le_of_ble_eq_true rfl)) dX12_items_18 ⟨Nat.le_of_ble_eq_true rfl, Nat.le_of_ble_eq_true rfl⟩) hS (fun q _ h => hFc q h) hFc (fun ra2 u t H1 locs ht hvm hwra2 hB hz1 hk1 hS => ?_)
  try rw [hwra2] at hB
  obtain ⟨pt0_ra2, pt1_ra2, hP1, hK1, hD1⟩ := hB
  rw [ht] at hP1
  obtain ⟨hP, hD⟩ := va_join (wr := (wd_b9c2d44b h0 v0 h1 v1 v2 (-1) v3 r0 r1 r2 r3 r4 r5 r6 v4 v5 r7 r8 r9 h2 v6 r10 r11 v7 v8 r12 r13 v9 v10 r14 v11 v12 r15 v13 w14 r16 v15 v16 r17 r18 r19 r20 r21 r22 v17 r23 r24 r25 v18 h1 g0 f19 h2 g1 f20)) (w1 := []) hP hD [] [0, 1, 2] rfl rfl (by decide) (by decide) hk1 hFc hP1 hD1
  generalize H1 = H at hP hS ⊢
  have hP : va_P (dC, dI) vwCl (wd_b9c2d44b h0 v0 h1 v1 v2 (-1) v3 r0 r1 r2 r3 r4 r5 r6 v4 v5 r7 r8 r9 h2 v6 r10 r11 v7 v8 r12 r13 v9 v10 r14 v11 v12 r15 v13 w14 r16 v15 v16 r17 r18 r19 r20 r21 r22 v17 r23 r24 r25 v18 h1 g0 f19 h2 g1 f20) H := hP
  have hD : va_D A (wd_b9c2d44b h0 v0 h1 v1 v2 (-1) v3 r0 r1 r2 r3 r4 r5 r6 v4 v5 r7 r8 r9 h2 v6 r10 r11 v7 v8 r12 r13 v9 v10 r14 v11 v12 r15 v13 w14 r16 v15 v16 r17 r18 r19 r20 r21 r22 v17 r23 r24 r25 v18 h1 g0 f19 h2 g1 f20) := hD
  obtain rfl : ra2 = (3 : Int32) := Int32.toInt_inj.mp (by rw [show ((3 : Int32)).toInt = 3 by decide]; omega)
  refine va_iast hx hb hK hP hD hS 2 1 rfl rfl (pv_c (x := 0) (n := 40) (by decide)) dX12_items_21 (fun H locs hP hD hS => ?_)
  obtain ⟨fn3, efn3⟩ : ∃ g : Nat → Int32, g = upd f20 (Int32.toNatClampNeg 0) 3 := ⟨_, rfl⟩
  rw [← efn3] at hP hD
  have hP : va_P (dC, dI) vwCl (wd_b9c2d44b h0 v0 h1 v1 v2 (-1) v3 r0 r1 r2 r3 r4 r5 r6 v4 v5 r7 r8 r9 h2 v6 r10 r11 v7 v8 r12 r13 v9 v10 r14 v11 v12 r15 v13 w14 r16 v15 v16 r17 r18 r19 r20 r21 r22 v17 r23 r24 r25 v18 h1 g0 f19 h2 g1 fn3) H := hP
  have hD : va_D A (wd_b9c2d44b h0 v0 h1 v1 v2 (-1) v3 r0 r1 r2 r3 r4 r5 r6 v4 v5 r7 r8 r9 h2 v6 r10 r11 v7 v8 r12 r13 v9 v10 r14 v11 v12 r15 v13 w14 r16 v15 v16 r17 r18 r19 r20 r21 r22 v17 r23 r24 r25 v18 h1 g0 f19 h2 g1 fn3) := hD
  refine lv_iinc (v := 1) (lv' := [(5, .int 1), (0, .ref h0), (1, .int 98), (2, .ref h2), (3, .int 0), (4, .int 5)]) hx hb dX12_items_22 hl (k := 0) rfl (by decide) (by decide) rfl (fun ls hl => ?_)
  refine lv_goto (tgt := 3) hx hb dX12_items_25 (by decide) ?_
  refine lv_iload hx hb dX12_items_3 (lv_at hl 0 rfl) ?_
  refine lv_iload hx hb dX12_items_5 (lv_at hl 5 rfl) ?_
  refine lv_icmp_ge (tgt := 28) hx hb dX12_items_7 (by decide) (fun c => absurd c (by decide)) (fun _ => ?_)
  refine lv_aload_n hx hb dX12_items_10 rfl (lv_at hl 3 rfl) ?_
  refine lv_iload_n hx hb dX12_items_11 rfl (lv_at hl 4 rfl) ?_
  refine lv_iload hx hb dX12_items_12 (lv_at hl 0 rfl) ?_
  refine lv_iadd hx hb dX12_items_14 ?_
  refine lv_topi (fun tv4 etv4 => ?_)
  obtain rfl : tv4 = (1 : Int32) := etv4.trans (by first | rfl | decide)
  refine lv_iload_n hx hb dX12_items_15 rfl (lv_at hl 2 rfl) ?_
  refine lv_iload hx hb dX12_items_16 (lv_at hl 0 rfl) ?_
  have hPc := hP.sub (ws' := []) [] rfl
  have hDc := hD.sub (ws' := []) [] (by decide) rfl
  have hKc := hK.sub (tys' := []) [] rfl
  have hFc := va_free (wc := []) hD hS hA [] rfl
  refine va_calli (va_runS (As := [.int 98, .int 1]) (rest := [.int 1, .ref h2]) ⟨hx, hb, hml, hown, hts⟩ (k_X12_usual_5 l dC dI   H.size) (va_cwS 2 hts g_X12_items_1 rfl rfl rfl (by decide +kernel) ⟨Nat.le_of_ble_eq_true rfl, Nat.le_of_ble_eq_true rfl⟩) ⟨fun a U g mk q => by obtain ⟨q0, q1, qP, qK, qD⟩ := q; exact ⟨q0, q1, qP, va_K.moved (u := U) (U := U.calling g mk a) (Vm.Alike.refl U.vm) qK, qD⟩, fun U hU hW => ⟨rfl, by rw [hU], by rw [hU]; exact hPc, va_K.moved hW.alike hKc, hDc.weaken (fun _ _ _ _ => trivial)⟩⟩ rfl rfl hl.1 rfl (lv_room (Nat.le_of_ble_eq_true rfl)) dX12_items_18 ⟨Nat.le_of_ble_eq_true rfl, Nat.le_of_ble_eq_true rfl⟩) hS (fun q _ h => hFc q h) hFc (fun ra5 u t H1 locs ht hvm hwra5 hB hz1 hk1 hS => ?_)
  try rw [hwra5] at hB
  obtain ⟨pt0_ra5, pt1_ra5, hP1, hK1, hD1⟩ := hB
  rw [ht] at hP1
  obtain ⟨hP, hD⟩ := va_join (wr := (wd_b9c2d44b h0 v0 h1 v1 v2 (-1) v3 r0 r1 r2 r3 r4 r5 r6 v4 v5 r7 r8 r9 h2 v6 r10 r11 v7 v8 r12 r13 v9 v10 r14 v11 v12 r15 v13 w14 r16 v15 v16 r17 r18 r19 r20 r21 r22 v17 r23 r24 r25 v18 h1 g0 f19 h2 g1 fn3)) (w1 := []) hP hD [] [0, 1, 2] rfl rfl (by decide) (by decide) hk1 hFc hP1 hD1
  generalize H1 = H at hP hS ⊢
  have hP : va_P (dC, dI) vwCl (wd_b9c2d44b h0 v0 h1 v1 v2 (-1) v3 r0 r1 r2 r3 r4 r5 r6 v4 v5 r7 r8 r9 h2 v6 r10 r11 v7 v8 r12 r13 v9 v10 r14 v11 v12 r15 v13 w14 r16 v15 v16 r17 r18 r19 r20 r21 r22 v17 r23 r24 r25 v18 h1 g0 f19 h2 g1 fn3) H := hP
  have hD : va_D A (wd_b9c2d44b h0 v0 h1 v1 v2 (-1) v3 r0 r1 r2 r3 r4 r5 r6 v4 v5 r7 r8 r9 h2 v6 r10 r11 v7 v8 r12 r13 v9 v10 r14 v11 v12 r15 v13 w14 r16 v15 v16 r17 r18 r19 r20 r21 r22 v17 r23 r24 r25 v18 h1 g0 f19 h2 g1 fn3) := hD
  obtain rfl : ra5 = (4 : Int32) := Int32.toInt_inj.mp (by rw [show ((4 : Int32)).toInt = 4 by decide]; omega)
  refine va_iast hx hb hK hP hD hS 2 1 rfl rfl (pv_c (x := 1) (n := 40) (by decide)) dX12_items_21 (fun H locs hP hD hS => ?_)
  obtain ⟨fn6, efn6⟩ : ∃ g : Nat → Int32, g = upd fn3 (Int32.toNatClampNeg 1) 4 := ⟨_, rfl⟩
  rw [← efn6] at hP hD
  have hP : va_P (dC, dI) vwCl (wd_b9c2d44b h0 v0 h1 v1 v2 (-1) v3 r0 r1 r2 r3 r4 r5 r6 v4 v5 r7 r8 r9 h2 v6 r10 r11 v7 v8 r12 r13 v9 v10 r14 v11 v12 r15 v13 w14 r16 v15 v16 r17 r18 r19 r20 r21 r22 v17 r23 r24 r25 v18 h1 g0 f19 h2 g1 fn6) H := hP
  have hD : va_D A (wd_b9c2d44b h0 v0 h1 v1 v2 (-1) v3 r0 r1 r2 r3 r4 r5 r6 v4 v5 r7 r8 r9 h2 v6 r10 r11 v7 v8 r12 r13 v9 v10 r14 v11 v12 r15 v13 w14 r16 v15 v16 r17 r18 r19 r20 r21 r22 v17 r23 r24 r25 v18 h1 g0 f19 h2 g1 fn6) := hD
  refine lv_iinc (v := 2) (lv' := [(5, .int 2), (0, .ref h0), (1, .int 98), (2, .ref h2), (3, .int 0), (4, .int 5)]) hx hb dX12_items_22 hl (k := 0) rfl (by decide) (by decide) rfl (fun ls hl => ?_)
  refine lv_goto (tgt := 3) hx hb dX12_items_25 (by decide) ?_
  refine lv_iload hx hb dX12_items_3 (lv_at hl 0 rfl) ?_
  refine lv_iload hx hb dX12_items_5 (lv_at hl 5 rfl) ?_
  refine lv_icmp_ge (tgt := 28) hx hb dX12_items_7 (by decide) (fun c => absurd c (by decide)) (fun _ => ?_)
  refine lv_aload_n hx hb dX12_items_10 rfl (lv_at hl 3 rfl) ?_
  refine lv_iload_n hx hb dX12_items_11 rfl (lv_at hl 4 rfl) ?_
  refine lv_iload hx hb dX12_items_12 (lv_at hl 0 rfl) ?_
  refine lv_iadd hx hb dX12_items_14 ?_
  refine lv_topi (fun tv7 etv7 => ?_)
  obtain rfl : tv7 = (2 : Int32) := etv7.trans (by first | rfl | decide)
  refine lv_iload_n hx hb dX12_items_15 rfl (lv_at hl 2 rfl) ?_
  refine lv_iload hx hb dX12_items_16 (lv_at hl 0 rfl) ?_
  have hPc := hP.sub (ws' := []) [] rfl
  have hDc := hD.sub (ws' := []) [] (by decide) rfl
  have hKc := hK.sub (tys' := []) [] rfl
  have hFc := va_free (wc := []) hD hS hA [] rfl
  refine va_calli (va_runS (As := [.int 98, .int 2]) (rest := [.int 2, .ref h2]) ⟨hx, hb, hml, hown, hts⟩ (k_X12_usual_6 l dC dI   H.size) (va_cwS 2 hts g_X12_items_2 rfl rfl rfl (by decide +kernel) ⟨Nat.le_of_ble_eq_true rfl, Nat.le_of_ble_eq_true rfl⟩) ⟨fun a U g mk q => by obtain ⟨q0, q1, qP, qK, qD⟩ := q; exact ⟨q0, q1, qP, va_K.moved (u := U) (U := U.calling g mk a) (Vm.Alike.refl U.vm) qK, qD⟩, fun U hU hW => ⟨rfl, by rw [hU], by rw [hU]; exact hPc, va_K.moved hW.alike hKc, hDc.weaken (fun _ _ _ _ => trivial)⟩⟩ rfl rfl hl.1 rfl (lv_room (Nat.le_of_ble_eq_true rfl)) dX12_items_18 ⟨Nat.le_of_ble_eq_true rfl, Nat.le_of_ble_eq_true rfl⟩) hS (fun q _ h => hFc q h) hFc (fun ra8 u t H1 locs ht hvm hwra8 hB hz1 hk1 hS => ?_)
  try rw [hwra8] at hB
  obtain ⟨pt0_ra8, pt1_ra8, hP1, hK1, hD1⟩ := hB
  rw [ht] at hP1
  obtain ⟨hP, hD⟩ := va_join (wr := (wd_b9c2d44b h0 v0 h1 v1 v2 (-1) v3 r0 r1 r2 r3 r4 r5 r6 v4 v5 r7 r8 r9 h2 v6 r10 r11 v7 v8 r12 r13 v9 v10 r14 v11 v12 r15 v13 w14 r16 v15 v16 r17 r18 r19 r20 r21 r22 v17 r23 r24 r25 v18 h1 g0 f19 h2 g1 fn6)) (w1 := []) hP hD [] [0, 1, 2] rfl rfl (by decide) (by decide) hk1 hFc hP1 hD1
  generalize H1 = H at hP hS ⊢
  have hP : va_P (dC, dI) vwCl (wd_b9c2d44b h0 v0 h1 v1 v2 (-1) v3 r0 r1 r2 r3 r4 r5 r6 v4 v5 r7 r8 r9 h2 v6 r10 r11 v7 v8 r12 r13 v9 v10 r14 v11 v12 r15 v13 w14 r16 v15 v16 r17 r18 r19 r20 r21 r22 v17 r23 r24 r25 v18 h1 g0 f19 h2 g1 fn6) H := hP
  have hD : va_D A (wd_b9c2d44b h0 v0 h1 v1 v2 (-1) v3 r0 r1 r2 r3 r4 r5 r6 v4 v5 r7 r8 r9 h2 v6 r10 r11 v7 v8 r12 r13 v9 v10 r14 v11 v12 r15 v13 w14 r16 v15 v16 r17 r18 r19 r20 r21 r22 v17 r23 r24 r25 v18 h1 g0 f19 h2 g1 fn6) := hD
  obtain rfl : ra8 = (3 : Int32) := Int32.toInt_inj.mp (by rw [show ((3 : Int32)).toInt = 3 by decide]; omega)
  refine va_iast hx hb hK hP hD hS 2 1 rfl rfl (pv_c (x := 2) (n := 40) (by decide)) dX12_items_21 (fun H locs hP hD hS => ?_)
  obtain ⟨fn9, efn9⟩ : ∃ g : Nat → Int32, g = upd fn6 (Int32.toNatClampNeg 2) 3 := ⟨_, rfl⟩
  rw [← efn9] at hP hD
  have hP : va_P (dC, dI) vwCl (wd_b9c2d44b h0 v0 h1 v1 v2 (-1) v3 r0 r1 r2 r3 r4 r5 r6 v4 v5 r7 r8 r9 h2 v6 r10 r11 v7 v8 r12 r13 v9 v10 r14 v11 v12 r15 v13 w14 r16 v15 v16 r17 r18 r19 r20 r21 r22 v17 r23 r24 r25 v18 h1 g0 f19 h2 g1 fn9) H := hP
  have hD : va_D A (wd_b9c2d44b h0 v0 h1 v1 v2 (-1) v3 r0 r1 r2 r3 r4 r5 r6 v4 v5 r7 r8 r9 h2 v6 r10 r11 v7 v8 r12 r13 v9 v10 r14 v11 v12 r15 v13 w14 r16 v15 v16 r17 r18 r19 r20 r21 r22 v17 r23 r24 r25 v18 h1 g0 f19 h2 g1 fn9) := hD
  refine lv_iinc (v := 3) (lv' := [(5, .int 3), (0, .ref h0), (1, .int 98), (2, .ref h2), (3, .int 0), (4, .int 5)]) hx hb dX12_items_22 hl (k := 0) rfl (by decide) (by decide) rfl (fun ls hl => ?_)
  refine lv_goto (tgt := 3) hx hb dX12_items_25 (by decide) ?_
  refine lv_iload hx hb dX12_items_3 (lv_at hl 0 rfl) ?_
  refine lv_iload hx hb dX12_items_5 (lv_at hl 5 rfl) ?_
  refine lv_icmp_ge (tgt := 28) hx hb dX12_items_7 (by decide) (fun c => absurd c (by decide)) (fun _ => ?_)
  refine lv_aload_n hx hb dX12_items_10 rfl (lv_at hl 3 rfl) ?_
  refine lv_iload_n hx hb dX12_items_11 rfl (lv_at hl 4 rfl) ?_
  refine lv_iload hx hb dX12_items_12 (lv_at hl 0 rfl) ?_
  refine lv_iadd hx hb dX12_items_14 ?_
  refine lv_topi (fun tv10 etv10 => ?_)
  obtain rfl : tv10 = (3 : Int32) := etv10.trans (by first | rfl | decide)
  refine lv_iload_n hx hb dX12_items_15 rfl (lv_at hl 2 rfl) ?_
  refine lv_iload hx hb dX12_items_16 (lv_at hl 0 rfl) ?_
  have hPc := hP.sub (ws' := []) [] rfl
  have hDc := hD.sub (ws' := []) [] (by decide) rfl
  have hKc := hK.sub (tys' := []) [] rfl
  have hFc := va_free (wc := []) hD hS hA [] rfl
  refine va_calli (va_runS (As := [.int 98, .int 3]) (rest := [.int 3, .ref h2]) ⟨hx, hb, hml, hown, hts⟩ (k_X12_usual_7 l dC dI   H.size) (va_cwS 2 hts g_X12_items_3 rfl rfl rfl (by decide +kernel) ⟨Nat.le_of_ble_eq_true rfl, Nat.le_of_ble_eq_true rfl⟩) ⟨fun a U g mk q => by obtain ⟨q0, q1, qP, qK, qD⟩ := q; exact ⟨q0, q1, qP, va_K.moved (u := U) (U := U.calling g mk a) (Vm.Alike.refl U.vm) qK, qD⟩, fun U hU hW => ⟨rfl, by rw [hU], by rw [hU]; exact hPc, va_K.moved hW.alike hKc, hDc.weaken (fun _ _ _ _ => trivial)⟩⟩ rfl rfl hl.1 rfl (lv_room (Nat.le_of_ble_eq_true rfl)) dX12_items_18 ⟨Nat.le_of_ble_eq_true rfl, Nat.le_of_ble_eq_true rfl⟩) hS (fun q _ h => hFc q h) hFc (fun ra11 u t H1 locs ht hvm hwra11 hB hz1 hk1 hS => ?_)
  try rw [hwra11] at hB
  obtain ⟨pt0_ra11, pt1_ra11, hP1, hK1, hD1⟩ := hB
  rw [ht] at hP1
  obtain ⟨hP, hD⟩ := va_join (wr := (wd_b9c2d44b h0 v0 h1 v1 v2 (-1) v3 r0 r1 r2 r3 r4 r5 r6 v4 v5 r7 r8 r9 h2 v6 r10 r11 v7 v8 r12 r13 v9 v10 r14 v11 v12 r15 v13 w14 r16 v15 v16 r17 r18 r19 r20 r21 r22 v17 r23 r24 r25 v18 h1 g0 f19 h2 g1 fn9)) (w1 := []) hP hD [] [0, 1, 2] rfl rfl (by decide) (by decide) hk1 hFc hP1 hD1
  generalize H1 = H at hP hS ⊢
  have hP : va_P (dC, dI) vwCl (wd_b9c2d44b h0 v0 h1 v1 v2 (-1) v3 r0 r1 r2 r3 r4 r5 r6 v4 v5 r7 r8 r9 h2 v6 r10 r11 v7 v8 r12 r13 v9 v10 r14 v11 v12 r15 v13 w14 r16 v15 v16 r17 r18 r19 r20 r21 r22 v17 r23 r24 r25 v18 h1 g0 f19 h2 g1 fn9) H := hP
  have hD : va_D A (wd_b9c2d44b h0 v0 h1 v1 v2 (-1) v3 r0 r1 r2 r3 r4 r5 r6 v4 v5 r7 r8 r9 h2 v6 r10 r11 v7 v8 r12 r13 v9 v10 r14 v11 v12 r15 v13 w14 r16 v15 v16 r17 r18 r19 r20 r21 r22 v17 r23 r24 r25 v18 h1 g0 f19 h2 g1 fn9) := hD
  obtain rfl : ra11 = (0 : Int32) := Int32.toInt_inj.mp (by rw [show ((0 : Int32)).toInt = 0 by decide]; omega)
  refine va_iast hx hb hK hP hD hS 2 1 rfl rfl (pv_c (x := 3) (n := 40) (by decide)) dX12_items_21 (fun H locs hP hD hS => ?_)
  obtain ⟨fn12, efn12⟩ : ∃ g : Nat → Int32, g = upd fn9 (Int32.toNatClampNeg 3) 0 := ⟨_, rfl⟩
  rw [← efn12] at hP hD
  have hP : va_P (dC, dI) vwCl (wd_b9c2d44b h0 v0 h1 v1 v2 (-1) v3 r0 r1 r2 r3 r4 r5 r6 v4 v5 r7 r8 r9 h2 v6 r10 r11 v7 v8 r12 r13 v9 v10 r14 v11 v12 r15 v13 w14 r16 v15 v16 r17 r18 r19 r20 r21 r22 v17 r23 r24 r25 v18 h1 g0 f19 h2 g1 fn12) H := hP
  have hD : va_D A (wd_b9c2d44b h0 v0 h1 v1 v2 (-1) v3 r0 r1 r2 r3 r4 r5 r6 v4 v5 r7 r8 r9 h2 v6 r10 r11 v7 v8 r12 r13 v9 v10 r14 v11 v12 r15 v13 w14 r16 v15 v16 r17 r18 r19 r20 r21 r22 v17 r23 r24 r25 v18 h1 g0 f19 h2 g1 fn12) := hD
  refine lv_iinc (v := 4) (lv' := [(5, .int 4), (0, .ref h0), (1, .int 98), (2, .ref h2), (3, .int 0), (4, .int 5)]) hx hb dX12_items_22 hl (k := 0) rfl (by decide) (by decide) rfl (fun ls hl => ?_)
  refine lv_goto (tgt := 3) hx hb dX12_items_25 (by decide) ?_
  refine lv_iload hx hb dX12_items_3 (lv_at hl 0 rfl) ?_
  refine lv_iload hx hb dX12_items_5 (lv_at hl 5 rfl) ?_
  refine lv_icmp_ge (tgt := 28) hx hb dX12_items_7 (by decide) (fun c => absurd c (by decide)) (fun _ => ?_)
  refine lv_aload_n hx hb dX12_items_10 rfl (lv_at hl 3 rfl) ?_
  refine lv_iload_n hx hb dX12_items_11 rfl (lv_at hl 4 rfl) ?_
  refine lv_iload hx hb dX12_items_12 (lv_at hl 0 rfl) ?_
  refine lv_iadd hx hb dX12_items_14 ?_
  refine lv_topi (fun tv13 etv13 => ?_)
  obtain rfl : tv13 = (4 : Int32) := etv13.trans (by first | rfl | decide)
  refine lv_iload_n hx hb dX12_items_15 rfl (lv_at hl 2 rfl) ?_
  refine lv_iload hx hb dX12_items_16 (lv_at hl 0 rfl) ?_
  have hPc := hP.sub (ws' := []) [] rfl
  have hDc := hD.sub (ws' := []) [] (by decide) rfl
  have hKc := hK.sub (tys' := []) [] rfl
  have hFc := va_free (wc := []) hD hS hA [] rfl
  refine va_calli (va_runS (As := [.int 98, .int 4]) (rest := [.int 4, .ref h2]) ⟨hx, hb, hml, hown, hts⟩ (k_X12_usual_8 l dC dI   H.size) (va_cwS 2 hts g_X12_items_4 rfl rfl rfl (by decide +kernel) ⟨Nat.le_of_ble_eq_true rfl, Nat.le_of_ble_eq_true rfl⟩) ⟨fun a U g mk q => by obtain ⟨q0, q1, qP, qK, qD⟩ := q; exact ⟨q0, q1, qP, va_K.moved (u := U) (U := U.calling g mk a) (Vm.Alike.refl U.vm) qK, qD⟩, fun U hU hW => ⟨rfl, by rw [hU], by rw [hU]; exact hPc, va_K.moved hW.alike hKc, hDc.weaken (fun _ _ _ _ => trivial)⟩⟩ rfl rfl hl.1 rfl (lv_room (Nat.le_of_ble_eq_true rfl)) dX12_items_18 ⟨Nat.le_of_ble_eq_true rfl, Nat.le_of_ble_eq_true rfl⟩) hS (fun q _ h => hFc q h) hFc (fun ra14 u t H1 locs ht hvm hwra14 hB hz1 hk1 hS => ?_)
  try rw [hwra14] at hB
  obtain ⟨pt0_ra14, pt1_ra14, hP1, hK1, hD1⟩ := hB
  rw [ht] at hP1
  obtain ⟨hP, hD⟩ := va_join (wr := (wd_b9c2d44b h0 v0 h1 v1 v2 (-1) v3 r0 r1 r2 r3 r4 r5 r6 v4 v5 r7 r8 r9 h2 v6 r10 r11 v7 v8 r12 r13 v9 v10 r14 v11 v12 r15 v13 w14 r16 v15 v16 r17 r18 r19 r20 r21 r22 v17 r23 r24 r25 v18 h1 g0 f19 h2 g1 fn12)) (w1 := []) hP hD [] [0, 1, 2] rfl rfl (by decide) (by decide) hk1 hFc hP1 hD1
  generalize H1 = H at hP hS ⊢
  have hP : va_P (dC, dI) vwCl (wd_b9c2d44b h0 v0 h1 v1 v2 (-1) v3 r0 r1 r2 r3 r4 r5 r6 v4 v5 r7 r8 r9 h2 v6 r10 r11 v7 v8 r12 r13 v9 v10 r14 v11 v12 r15 v13 w14 r16 v15 v16 r17 r18 r19 r20 r21 r22 v17 r23 r24 r25 v18 h1 g0 f19 h2 g1 fn12) H := hP
  have hD : va_D A (wd_b9c2d44b h0 v0 h1 v1 v2 (-1) v3 r0 r1 r2 r3 r4 r5 r6 v4 v5 r7 r8 r9 h2 v6 r10 r11 v7 v8 r12 r13 v9 v10 r14 v11 v12 r15 v13 w14 r16 v15 v16 r17 r18 r19 r20 r21 r22 v17 r23 r24 r25 v18 h1 g0 f19 h2 g1 fn12) := hD
  obtain rfl : ra14 = (0 : Int32) := Int32.toInt_inj.mp (by rw [show ((0 : Int32)).toInt = 0 by decide]; omega)
  refine va_iast hx hb hK hP hD hS 2 1 rfl rfl (pv_c (x := 4) (n := 40) (by decide)) dX12_items_21 (fun H locs hP hD hS => ?_)
  obtain ⟨fn15, efn15⟩ : ∃ g : Nat → Int32, g = upd fn12 (Int32.toNatClampNeg 4) 0 := ⟨_, rfl⟩
  rw [← efn15] at hP hD
  have hP : va_P (dC, dI) vwCl (wd_b9c2d44b h0 v0 h1 v1 v2 (-1) v3 r0 r1 r2 r3 r4 r5 r6 v4 v5 r7 r8 r9 h2 v6 r10 r11 v7 v8 r12 r13 v9 v10 r14 v11 v12 r15 v13 w14 r16 v15 v16 r17 r18 r19 r20 r21 r22 v17 r23 r24 r25 v18 h1 g0 f19 h2 g1 fn15) H := hP
  have hD : va_D A (wd_b9c2d44b h0 v0 h1 v1 v2 (-1) v3 r0 r1 r2 r3 r4 r5 r6 v4 v5 r7 r8 r9 h2 v6 r10 r11 v7 v8 r12 r13 v9 v10 r14 v11 v12 r15 v13 w14 r16 v15 v16 r17 r18 r19 r20 r21 r22 v17 r23 r24 r25 v18 h1 g0 f19 h2 g1 fn15) := hD
  refine lv_iinc (v := 5) (lv' := [(5, .int 5), (0, .ref h0), (1, .int 98), (2, .ref h2), (3, .int 0), (4, .int 5)]) hx hb dX12_items_22 hl (k := 0) rfl (by decide) (by decide) rfl (fun ls hl => ?_)
  refine lv_goto (tgt := 3) hx hb dX12_items_25 (by decide) ?_
  refine lv_iload hx hb dX12_items_3 (lv_at hl 0 rfl) ?_
  refine lv_iload hx hb dX12_items_5 (lv_at hl 5 rfl) ?_
  refine lv_icmp_ge (tgt := 28) hx hb dX12_items_7 (by decide) (fun _ => ?_) (fun c => absurd (by decide) c)
  refine lv_iconst (v := 0) hx hb dX12_items_28 (by decide) ?_
  refine lv_istore (lv' := [(5, .int 0), (0, .ref h0), (1, .int 98), (2, .ref h2), (3, .int 0), (4, .int 5)]) hx hb dX12_items_29 hl (by decide) rfl (fun ls hl => ?_)
  refine lv_iload_n hx hb dX12_items_31 rfl (lv_at hl 2 rfl) ?_
  refine lv_aload_n hx hb dX12_items_32 rfl (lv_at hl 1 rfl) ?_
  have hPc := hP.sub (ws' := (wd_f4cd022e h0 v0 h1 v1 v2 (-1) v3 r0 r1 r2 r3 r4 r5 r6 v4 v5 r7 r8 r9 h2 v6 r10 r11 v7 v8 r12 r13 v9 v10 r14 v11 v12 r15 v13 w14 r16 v15 v16 r17 r18 r19 r20 r21 r22 v17 r23 r24 r25 v18 h1 g0 f19)) [0, 1] rfl
  have hDc := hD.sub (ws' := (wd_f4cd022e h0 v0 h1 v1 v2 (-1) v3 r0 r1 r2 r3 r4 r5 r6 v4 v5 r7 r8 r9 h2 v6 r10 r11 v7 v8 r12 r13 v9 v10 r14 v11 v12 r15 v13 w14 r16 v15 v16 r17 r18 r19 r20 r21 r22 v17 r23 r24 r25 v18 h1 g0 f19)) [0, 1] (by decide) rfl
  have hKc := hK.sub (tys' := [(g0, .int)]) [0] rfl
  have hFc := va_free (wc := (wd_f4cd022e h0 v0 h1 v1 v2 (-1) v3 r0 r1 r2 r3 r4 r5 r6 v4 v5 r7 r8 r9 h2 v6 r10 r11 v7 v8 r12 r13 v9 v10 r14 v11 v12 r15 v13 w14 r16 v15 v16 r17 r18 r19 r20 r21 r22 v17 r23 r24 r25 v18 h1 g0 f19)) hD hS hA [0, 1] rfl
  refine va_calli (va_runV (As := []) (rest := [.int 98]) ⟨hx, hb, hml, hown, hts⟩ (k_X12_look l dC dI h0 h1 v0 v1 v2 ((-1)) v3 r0 r1 r2 r3 r4 r5 r6 v4 v5 r7 r8 r9 h2 v6 r10 r11 v7 v8 r12 r13 v9 v10 r14 v11 v12 r15 v13 w14 r16 v15 v16 r17 r18 r19 r20 r21 r22 v17 r23 r24 r25 v18 g0 f19 ⟨by first | omega | decide, by first | omega | decide⟩ ⟨by first | omega | decide, by first | omega | decide⟩ ⟨by first | omega | decide, by first | omega | decide⟩ ⟨by first | omega | decide, by first | omega | decide⟩ ⟨by first | omega | decide, by first | omega | decide⟩ ⟨by first | omega | decide, by first | omega | decide⟩ ⟨by first | omega | decide, by first | omega | decide⟩ ⟨by first | omega | decide, by first | omega | decide⟩ ⟨by first | omega | decide, by first | omega | decide⟩ ⟨by first | omega | decide, by first | omega | decide⟩ ⟨by first | omega | decide, by first | omega | decide⟩ ia_f19 H.size) (cwV 0 hts g_X12_items_5 rfl rfl rfl (by decide +kernel) ⟨Nat.le_of_ble_eq_true rfl, Nat.le_of_ble_eq_true rfl⟩) ⟨fun a U g mk q => by obtain ⟨q0, q1, qP, qK, qD⟩ := q; exact ⟨q0, q1, qP, va_K.moved (u := U) (U := U.calling g mk a) (Vm.Alike.refl U.vm) qK, qD⟩, va_recv hKc hPc (ci := 12) (q0 := 0) rfl rfl, fun U hU hW => ⟨rfl, by rw [hU], by rw [hU]; exact hPc, va_K.moved hW.alike hKc, hDc.weaken (fun _ _ _ _ => trivial)⟩⟩ rfl rfl hl.1 rfl (lv_room (Nat.le_of_ble_eq_true rfl)) dX12_items_33 ⟨Nat.le_of_ble_eq_true rfl, Nat.le_of_ble_eq_true rfl⟩) hS (fun q _ h => hFc q h) hFc (fun ra16 u t H1 locs ht hvm hwra16 hB hz1 hk1 hS => ?_)
  try rw [hwra16] at hB
  have hkra16_0 : (((-1) : Int32)).toInt = -1 := by decide
  rcases hB with hB | hB
  · skip
    obtain ⟨x17, oa_x17, ob_x17, pt0_ra16, pt1_ra16, pt2_ra16, pt3_ra16, pt4_ra16, pt5_ra16, pt6_ra16, hP1, hK1, hD1⟩ := hB
    rw [ht] at hP1
    obtain ⟨hP, hD⟩ := va_join (wr := (wd_aad598ec h2 g1 fn15)) (w1 := (wd_f4cd022e h0 v0 h1 v1 x17 (-1) v3 r0 r1 r2 r3 r4 r5 r6 v4 v5 r7 r8 r9 h2 v6 r10 r11 v7 v8 r12 r13 v9 v10 r14 v11 v12 r15 v13 w14 r16 v15 v16 r17 r18 r19 r20 r21 r22 v17 r23 r24 r25 v18 h1 g0 f19)) hP hD [0, 1] [2] rfl rfl (by decide) (by decide) hk1 hFc hP1 hD1
    generalize H1 = H at hP hS ⊢
    have hP := hP.sub (ws' := (wd_b9c2d44b h0 v0 h1 v1 x17 (-1) v3 r0 r1 r2 r3 r4 r5 r6 v4 v5 r7 r8 r9 h2 v6 r10 r11 v7 v8 r12 r13 v9 v10 r14 v11 v12 r15 v13 w14 r16 v15 v16 r17 r18 r19 r20 r21 r22 v17 r23 r24 r25 v18 h1 g0 f19 h2 g1 fn15)) [1, 2, 0] rfl
    have hD := hD.sub (ws' := (wd_b9c2d44b h0 v0 h1 v1 x17 (-1) v3 r0 r1 r2 r3 r4 r5 r6 v4 v5 r7 r8 r9 h2 v6 r10 r11 v7 v8 r12 r13 v9 v10 r14 v11 v12 r15 v13 w14 r16 v15 v16 r17 r18 r19 r20 r21 r22 v17 r23 r24 r25 v18 h1 g0 f19 h2 g1 fn15)) [1, 2, 0] (by decide) rfl
    have hP : va_P (dC, dI) vwCl (wd_b9c2d44b h0 v0 h1 v1 x17 (-1) v3 r0 r1 r2 r3 r4 r5 r6 v4 v5 r7 r8 r9 h2 v6 r10 r11 v7 v8 r12 r13 v9 v10 r14 v11 v12 r15 v13 w14 r16 v15 v16 r17 r18 r19 r20 r21 r22 v17 r23 r24 r25 v18 h1 g0 f19 h2 g1 fn15) H := hP
    have hD : va_D A (wd_b9c2d44b h0 v0 h1 v1 x17 (-1) v3 r0 r1 r2 r3 r4 r5 r6 v4 v5 r7 r8 r9 h2 v6 r10 r11 v7 v8 r12 r13 v9 v10 r14 v11 v12 r15 v13 w14 r16 v15 v16 r17 r18 r19 r20 r21 r22 v17 r23 r24 r25 v18 h1 g0 f19 h2 g1 fn15) := hD
    obtain rfl : ra16 = ((-1) : Int32) := Int32.toInt_inj.mp (by rw [show (((-1) : Int32)).toInt = -1 by decide]; omega)
    have hPc := hP.sub (ws' := []) [] rfl
    have hDc := hD.sub (ws' := []) [] (by decide) rfl
    have hKc := hK.sub (tys' := []) [] rfl
    have hFc := va_free (wc := []) hD hS hA [] rfl
    refine va_calli (va_runS (As := [.int 98, .int (-1)]) (rest := []) ⟨hx, hb, hml, hown, hts⟩ (k_X12_itemOf l dC dI ((-1))  H.size) (va_cwS 2 hts g_X12_items_6 rfl rfl rfl (by decide +kernel) ⟨Nat.le_of_ble_eq_true rfl, Nat.le_of_ble_eq_true rfl⟩) ⟨fun a U g mk q => by obtain ⟨q0, q1, qP, qK, qD⟩ := q; exact ⟨q0, q1, qP, va_K.moved (u := U) (U := U.calling g mk a) (Vm.Alike.refl U.vm) qK, qD⟩, fun U hU hW => ⟨rfl, by rw [hU], by rw [hU]; exact hPc, va_K.moved hW.alike hKc, hDc.weaken (fun _ _ _ _ => trivial)⟩⟩ rfl rfl hl.1 rfl (lv_room (Nat.le_of_ble_eq_true rfl)) dX12_items_36 ⟨Nat.le_of_ble_eq_true rfl, Nat.le_of_ble_eq_true rfl⟩) hS (fun q _ h => hFc q h) hFc (fun ra18 u t H1 locs ht hvm hwra18 hB hz1 hk1 hS => ?_)
    try rw [hwra18] at hB
    have hkra18_0 : (((-1) : Int32)).toInt = -1 := by decide
    obtain ⟨pt0_ra18, pt1_ra18, pt2_ra18, pt3_ra18, hP1, hK1, hD1⟩ := hB
    rw [ht] at hP1
    obtain ⟨hP, hD⟩ := va_join (wr := (wd_b9c2d44b h0 v0 h1 v1 x17 (-1) v3 r0 r1 r2 r3 r4 r5 r6 v4 v5 r7 r8 r9 h2 v6 r10 r11 v7 v8 r12 r13 v9 v10 r14 v11 v12 r15 v13 w14 r16 v15 v16 r17 r18 r19 r20 r21 r22 v17 r23 r24 r25 v18 h1 g0 f19 h2 g1 fn15)) (w1 := []) hP hD [] [0, 1, 2] rfl rfl (by decide) (by decide) hk1 hFc hP1 hD1
    generalize H1 = H at hP hS ⊢
    have hP : va_P (dC, dI) vwCl (wd_b9c2d44b h0 v0 h1 v1 x17 (-1) v3 r0 r1 r2 r3 r4 r5 r6 v4 v5 r7 r8 r9 h2 v6 r10 r11 v7 v8 r12 r13 v9 v10 r14 v11 v12 r15 v13 w14 r16 v15 v16 r17 r18 r19 r20 r21 r22 v17 r23 r24 r25 v18 h1 g0 f19 h2 g1 fn15) H := hP
    have hD : va_D A (wd_b9c2d44b h0 v0 h1 v1 x17 (-1) v3 r0 r1 r2 r3 r4 r5 r6 v4 v5 r7 r8 r9 h2 v6 r10 r11 v7 v8 r12 r13 v9 v10 r14 v11 v12 r15 v13 w14 r16 v15 v16 r17 r18 r19 r20 r21 r22 v17 r23 r24 r25 v18 h1 g0 f19 h2 g1 fn15) := hD
    have hkra18 : ra18 = pg_it false (pg_ch f19 v1.toInt x17.toInt) := by rw [show pg_ch f19 v1.toInt x17.toInt = (-1) by omega]; exact pt3_ra18
    refine lv_istore (lv' := [(6, .int ra18), (5, .int 0), (0, .ref h0), (1, .int 98), (2, .ref h2), (3, .int 0), (4, .int 5)]) hx hb dX12_items_39 hl (by decide) rfl (fun ls hl => ?_)
    refine lv_aload_n hx hb dX12_items_41 rfl (lv_at hl 2 rfl) ?_
    refine va_get (D := (dC, dI)) (ci := 12) (v := .int (-1)) (C := RX12) (T := TX12) (N := 48) hx hb hts (fun _ h => List.mem_cons_of_mem _ (List.mem_append_right _ h)) hown hK hP 0 rfl rfl 4 (by decide) (hts (.fieldLink RX12 119 "LeftArgumentsModel" "wrong" "I") (List.mem_cons_of_mem _ (List.mem_append_left _ (List.mem_of_getElem? (i := 18) rfl)))) (fun _ h9 => h9) rfl dX12_items_42 ?_
    refine lv_iconst (v := (-1)) hx hb dX12_items_45 (by decide) ?_
    refine lv_icmp_ne (tgt := 131) hx hb dX12_items_46 (by decide) (fun c => absurd (by decide) c) (fun _ => ?_)
    refine lv_iload hx hb dX12_items_49 (lv_at hl 0 rfl) ?_
    refine lv_iconst (v := (-1)) hx hb dX12_items_51 (by decide) ?_
    refine lv_icmp_eq (tgt := 131) hx hb dX12_items_52 (by decide) (fun c19 => ?_) (fun c19 => ?_)
    · skip
      have fc19 : ra18.toInt = (-1) := congrArg Int32.toInt c19
      subst hQ
      have hP9 := hP.sub (ws' := (wd_b9c2d44b h0 v0 h1 v1 x17 (-1) v3 r0 r1 r2 r3 r4 r5 r6 v4 v5 r7 r8 r9 h2 v6 r10 r11 v7 v8 r12 r13 v9 v10 r14 v11 v12 r15 v13 w14 r16 v15 v16 r17 r18 r19 r20 r21 r22 v17 r23 r24 r25 v18 h1 g0 f19 h2 g1 fn15)) [0, 1, 2] rfl
      have hD9 := hD.sub (ws' := (wd_b9c2d44b h0 v0 h1 v1 x17 (-1) v3 r0 r1 r2 r3 r4 r5 r6 v4 v5 r7 r8 r9 h2 v6 r10 r11 v7 v8 r12 r13 v9 v10 r14 v11 v12 r15 v13 w14 r16 v15 v16 r17 r18 r19 r20 r21 r22 v17 r23 r24 r25 v18 h1 g0 f19 h2 g1 fn15)) [0, 1, 2] (by decide) rfl
      have hK9 := hK.sub (tys' := []) [] rfl
      exact W.vret hx hb hr (fun t ht hW => ⟨⟨(), rfl, trivial, Or.inl ⟨x17, fn15, by first | omega | decide, by first | omega | decide, by omega, by first | assumption | (apply pm_bb.init <;> first | assumption | omega | decide), by first | (apply pg_I.out <;> first | assumption | exact Or.inl (by assumption) | exact Or.inr (by assumption)) | (apply pg_items.e0 <;> first | assumption | omega | (apply pg_ur.mk <;> first | assumption | decide) | (apply pg_us.mk <;> first | assumption | omega | decide)) | (apply pg_I.last <;> first | assumption | omega | (show _ = pm_los _; assumption) | (show _ = pm_his _; assumption) | (show _ = pm_lob _; assumption) | (show _ = pm_hib _; assumption)), by rw [ht]; exact hP9, va_K.moved hW.alike hK9, hD9⟩⟩, hS.F ht⟩) hS.2.2 dX12_items_131
    · skip
      have fc19 : ¬ (ra18.toInt = (-1)) := fun h9 => c19 (Int32.toInt_inj.mp h9)
      exfalso; omega
  · skip
    obtain ⟨x20, oa_x20, ob_x20, pt0_ra16, pt1_ra16, pt2_ra16, pt3_ra16, pt4_ra16, pt5_ra16, pt6_ra16, pt7_ra16, hP1, hK1, hD1⟩ := hB
    rw [ht] at hP1
    obtain ⟨hP, hD⟩ := va_join (wr := (wd_aad598ec h2 g1 fn15)) (w1 := (wd_f4cd022e h0 v0 h1 v1 x20 (-1) v3 r0 r1 r2 r3 r4 r5 r6 v4 v5 r7 r8 r9 h2 v6 r10 r11 v7 v8 r12 r13 v9 v10 r14 v11 v12 r15 v13 w14 r16 v15 v16 r17 r18 r19 r20 r21 r22 v17 r23 r24 r25 v18 h1 g0 f19)) hP hD [0, 1] [2] rfl rfl (by decide) (by decide) hk1 hFc hP1 hD1
    generalize H1 = H at hP hS ⊢
    have hP := hP.sub (ws' := (wd_b9c2d44b h0 v0 h1 v1 x20 (-1) v3 r0 r1 r2 r3 r4 r5 r6 v4 v5 r7 r8 r9 h2 v6 r10 r11 v7 v8 r12 r13 v9 v10 r14 v11 v12 r15 v13 w14 r16 v15 v16 r17 r18 r19 r20 r21 r22 v17 r23 r24 r25 v18 h1 g0 f19 h2 g1 fn15)) [1, 2, 0] rfl
    have hD := hD.sub (ws' := (wd_b9c2d44b h0 v0 h1 v1 x20 (-1) v3 r0 r1 r2 r3 r4 r5 r6 v4 v5 r7 r8 r9 h2 v6 r10 r11 v7 v8 r12 r13 v9 v10 r14 v11 v12 r15 v13 w14 r16 v15 v16 r17 r18 r19 r20 r21 r22 v17 r23 r24 r25 v18 h1 g0 f19 h2 g1 fn15)) [1, 2, 0] (by decide) rfl
    have hP : va_P (dC, dI) vwCl (wd_b9c2d44b h0 v0 h1 v1 x20 (-1) v3 r0 r1 r2 r3 r4 r5 r6 v4 v5 r7 r8 r9 h2 v6 r10 r11 v7 v8 r12 r13 v9 v10 r14 v11 v12 r15 v13 w14 r16 v15 v16 r17 r18 r19 r20 r21 r22 v17 r23 r24 r25 v18 h1 g0 f19 h2 g1 fn15) H := hP
    have hD : va_D A (wd_b9c2d44b h0 v0 h1 v1 x20 (-1) v3 r0 r1 r2 r3 r4 r5 r6 v4 v5 r7 r8 r9 h2 v6 r10 r11 v7 v8 r12 r13 v9 v10 r14 v11 v12 r15 v13 w14 r16 v15 v16 r17 r18 r19 r20 r21 r22 v17 r23 r24 r25 v18 h1 g0 f19 h2 g1 fn15) := hD
    have hPc := hP.sub (ws' := []) [] rfl
    have hDc := hD.sub (ws' := []) [] (by decide) rfl
    have hKc := hK.sub (tys' := []) [] rfl
    have hFc := va_free (wc := []) hD hS hA [] rfl
    refine va_calli (va_runS (As := [.int 98, .int ra16]) (rest := []) ⟨hx, hb, hml, hown, hts⟩ (k_X12_itemOf l dC dI ra16  H.size) (va_cwS 2 hts g_X12_items_6 rfl rfl rfl (by decide +kernel) ⟨Nat.le_of_ble_eq_true rfl, Nat.le_of_ble_eq_true rfl⟩) ⟨fun a U g mk q => by obtain ⟨q0, q1, qP, qK, qD⟩ := q; exact ⟨q0, q1, qP, va_K.moved (u := U) (U := U.calling g mk a) (Vm.Alike.refl U.vm) qK, qD⟩, fun U hU hW => ⟨rfl, by rw [hU], by rw [hU]; exact hPc, va_K.moved hW.alike hKc, hDc.weaken (fun _ _ _ _ => trivial)⟩⟩ rfl rfl hl.1 rfl (lv_room (Nat.le_of_ble_eq_true rfl)) dX12_items_36 ⟨Nat.le_of_ble_eq_true rfl, Nat.le_of_ble_eq_true rfl⟩) hS (fun q _ h => hFc q h) hFc (fun ra21 u t H1 locs ht hvm hwra21 hB hz1 hk1 hS => ?_)
    try rw [hwra21] at hB
    obtain ⟨pt0_ra21, pt1_ra21, pt2_ra21, pt3_ra21, hP1, hK1, hD1⟩ := hB
    rw [ht] at hP1
    obtain ⟨hP, hD⟩ := va_join (wr := (wd_b9c2d44b h0 v0 h1 v1 x20 (-1) v3 r0 r1 r2 r3 r4 r5 r6 v4 v5 r7 r8 r9 h2 v6 r10 r11 v7 v8 r12 r13 v9 v10 r14 v11 v12 r15 v13 w14 r16 v15 v16 r17 r18 r19 r20 r21 r22 v17 r23 r24 r25 v18 h1 g0 f19 h2 g1 fn15)) (w1 := []) hP hD [] [0, 1, 2] rfl rfl (by decide) (by decide) hk1 hFc hP1 hD1
    generalize H1 = H at hP hS ⊢
    have hP : va_P (dC, dI) vwCl (wd_b9c2d44b h0 v0 h1 v1 x20 (-1) v3 r0 r1 r2 r3 r4 r5 r6 v4 v5 r7 r8 r9 h2 v6 r10 r11 v7 v8 r12 r13 v9 v10 r14 v11 v12 r15 v13 w14 r16 v15 v16 r17 r18 r19 r20 r21 r22 v17 r23 r24 r25 v18 h1 g0 f19 h2 g1 fn15) H := hP
    have hD : va_D A (wd_b9c2d44b h0 v0 h1 v1 x20 (-1) v3 r0 r1 r2 r3 r4 r5 r6 v4 v5 r7 r8 r9 h2 v6 r10 r11 v7 v8 r12 r13 v9 v10 r14 v11 v12 r15 v13 w14 r16 v15 v16 r17 r18 r19 r20 r21 r22 v17 r23 r24 r25 v18 h1 g0 f19 h2 g1 fn15) := hD
    have hkra21 : ra21 = pg_it false (pg_ch f19 v1.toInt x20.toInt) := by rw [show pg_ch f19 v1.toInt x20.toInt = ra16.toInt by omega]; exact pt3_ra21
    refine lv_istore (lv' := [(6, .int ra21), (5, .int 0), (0, .ref h0), (1, .int 98), (2, .ref h2), (3, .int 0), (4, .int 5)]) hx hb dX12_items_39 hl (by decide) rfl (fun ls hl => ?_)
    have hL30 : ∀ (n9 : Nat), ∀ (x22 : Int32) (x23 : Int32) (x24 : Int32) (fn25 : Nat → Int32) (H : Heap) (locs : List Loc) (ls : Array Slot), -1 ≤ x22.toInt → x22.toInt ≤ 4 → 0 ≤ x24.toInt → x24.toInt ≤ 240 → pm_bb 0 f20 fn25 → x22.toInt = -1 ∨ x24.toInt < v1.toInt → v2.toInt ≤ x24.toInt → pg_I f19 v1.toInt false 0 x24.toInt x23 fn25 (pg_items f19 v1.toInt false 0 300 v2.toInt 0 (pg_us f20 0)) → ¬ pg_ch f19 v1.toInt x24.toInt = 32 → x22 = pg_it false (pg_ch f19 v1.toInt x24.toInt) → (300 - x24.toInt).toNat < n9 → va_P (dC, dI) vwCl (wd_b9c2d44b h0 v0 h1 v1 x24 (-1) v3 r0 r1 r2 r3 r4 r5 r6 v4 v5 r7 r8 r9 h2 v6 r10 r11 v7 v8 r12 r13 v9 v10 r14 v11 v12 r15 v13 w14 r16 v15 v16 r17 r18 r19 r20 r21 r22 v17 r23 r24 r25 v18 h1 g0 f19 h2 g1 fn25) H → va_D A (wd_b9c2d44b h0 v0 h1 v1 x24 (-1) v3 r0 r1 r2 r3 r4 r5 r6 v4 v5 r7 r8 r9 h2 v6 r10 r11 v7 v8 r12 r13 v9 v10 r14 v11 v12 r15 v13 w14 r16 v15 v16 r17 r18 r19 r20 r21 r22 v17 r23 r24 r25 v18 h1 g0 f19 h2 g1 fn25) → va_S A s.heap H locs → lv_has ls 7 [(6, .int x22), (5, .int x23), (0, .ref h0), (1, .int 98), (2, .ref h2), (3, .int 0), (4, .int 5)] → W p l e ({ frames := 3, cells := 0, slots := 0, locals := 63 }) s m ([.ref h0, .int 98, .ref h2, .int 0, .int 5] : List Value).toArray below meth c H locs 0 0 Q (F0 m 41 ls []) := by
      intro n9
      induction n9 with
      | zero => intro x22 x23 x24 fn25 H locs ls qa_x22 qb_x22 qa_x24 qb_x24 gh0_hL30 gh1_hL30 gh2_hL30 gh3_hL30 gh4_hL30 gh5_hL30 hm9 hP hD hS hl; exact absurd hm9 (Nat.not_lt_zero _)
      | succ n9 ih_hL30 =>
        intro x22 x23 x24 fn25 H locs ls qa_x22 qb_x22 qa_x24 qb_x24 gh0_hL30 gh1_hL30 gh2_hL30 gh3_hL30 gh4_hL30 gh5_hL30 hm9 hP hD hS hl
        refine lv_aload_n hx hb dX12_items_41 rfl (lv_at hl 2 rfl) ?_
        refine va_get (D := (dC, dI)) (ci := 12) (v := .int (-1)) (C := RX12) (T := TX12) (N := 48) hx hb hts (fun _ h => List.mem_cons_of_mem _ (List.mem_append_right _ h)) hown hK hP 0 rfl rfl 4 (by decide) (hts (.fieldLink RX12 119 "LeftArgumentsModel" "wrong" "I") (List.mem_cons_of_mem _ (List.mem_append_left _ (List.mem_of_getElem? (i := 18) rfl)))) (fun _ h9 => h9) rfl dX12_items_42 ?_
        refine lv_iconst (v := (-1)) hx hb dX12_items_45 (by decide) ?_
        refine lv_icmp_ne (tgt := 131) hx hb dX12_items_46 (by decide) (fun c => absurd (by decide) c) (fun _ => ?_)
        refine lv_iload hx hb dX12_items_49 (lv_at hl 0 rfl) ?_
        refine lv_iconst (v := (-1)) hx hb dX12_items_51 (by decide) ?_
        refine lv_icmp_eq (tgt := 131) hx hb dX12_items_52 (by decide) (fun c31 => ?_) (fun c31 => ?_)
        · skip
          have fc31 : x22.toInt = (-1) := congrArg Int32.toInt c31
          subst hQ
          have hP9 := hP.sub (ws' := (wd_b9c2d44b h0 v0 h1 v1 x24 (-1) v3 r0 r1 r2 r3 r4 r5 r6 v4 v5 r7 r8 r9 h2 v6 r10 r11 v7 v8 r12 r13 v9 v10 r14 v11 v12 r15 v13 w14 r16 v15 v16 r17 r18 r19 r20 r21 r22 v17 r23 r24 r25 v18 h1 g0 f19 h2 g1 fn25)) [0, 1, 2] rfl
          have hD9 := hD.sub (ws' := (wd_b9c2d44b h0 v0 h1 v1 x24 (-1) v3 r0 r1 r2 r3 r4 r5 r6 v4 v5 r7 r8 r9 h2 v6 r10 r11 v7 v8 r12 r13 v9 v10 r14 v11 v12 r15 v13 w14 r16 v15 v16 r17 r18 r19 r20 r21 r22 v17 r23 r24 r25 v18 h1 g0 f19 h2 g1 fn25)) [0, 1, 2] (by decide) rfl
          have hK9 := hK.sub (tys' := []) [] rfl
          exact W.vret hx hb hr (fun t ht hW => ⟨⟨(), rfl, trivial, Or.inl ⟨x24, fn25, by first | omega | decide, by first | omega | decide, by omega, by first | assumption | (apply pm_bb.init <;> first | assumption | omega | decide), by first | (apply pg_I.out <;> first | assumption | exact Or.inl (by assumption) | exact Or.inr (by assumption)) | (apply pg_items.e0 <;> first | assumption | omega | (apply pg_ur.mk <;> first | assumption | decide) | (apply pg_us.mk <;> first | assumption | omega | decide)) | (apply pg_I.last <;> first | assumption | omega | (show _ = pm_los _; assumption) | (show _ = pm_his _; assumption) | (show _ = pm_lob _; assumption) | (show _ = pm_hib _; assumption)), by rw [ht]; exact hP9, va_K.moved hW.alike hK9, hD9⟩⟩, hS.F ht⟩) hS.2.2 dX12_items_131
        · skip
          have fc31 : ¬ (x22.toInt = (-1)) := fun h9 => c31 (Int32.toInt_inj.mp h9)
          refine lv_iload hx hb dX12_items_55 (lv_at hl 1 rfl) ?_
          refine lv_iload hx hb dX12_items_57 (lv_at hl 0 rfl) ?_
          have hPc := hP.sub (ws' := []) [] rfl
          have hDc := hD.sub (ws' := []) [] (by decide) rfl
          have hKc := hK.sub (tys' := []) [] rfl
          have hFc := va_free (wc := []) hD hS hA [] rfl
          refine va_calli (va_runS (As := [.int x23, .int x22]) (rest := []) ⟨hx, hb, hml, hown, hts⟩ (k_X12_has l dC dI x23 x22  H.size) (va_cwS 2 hts g_X12_items_8 rfl rfl rfl (by decide +kernel) ⟨Nat.le_of_ble_eq_true rfl, Nat.le_of_ble_eq_true rfl⟩) ⟨fun a U g mk q => by obtain ⟨q0, q1, qP, qK, qD⟩ := q; exact ⟨q0, q1, qP, va_K.moved (u := U) (U := U.calling g mk a) (Vm.Alike.refl U.vm) qK, qD⟩, fun U hU hW => ⟨rfl, by rw [hU], by rw [hU]; exact hPc, va_K.moved hW.alike hKc, hDc.weaken (fun _ _ _ _ => trivial)⟩⟩ rfl rfl hl.1 rfl (lv_room (Nat.le_of_ble_eq_true rfl)) dX12_items_59 ⟨Nat.le_of_ble_eq_true rfl, Nat.le_of_ble_eq_true rfl⟩) hS (fun q _ h => hFc q h) hFc (fun ra32 u t H1 locs ht hvm hwra32 hB hz1 hk1 hS => ?_)
          try rw [hwra32] at hB
          obtain ⟨pt0_ra32, pt1_ra32, pt2_ra32, pt3_ra32, hP1, hK1, hD1⟩ := hB
          rw [ht] at hP1
          obtain ⟨hP, hD⟩ := va_join (wr := (wd_b9c2d44b h0 v0 h1 v1 x24 (-1) v3 r0 r1 r2 r3 r4 r5 r6 v4 v5 r7 r8 r9 h2 v6 r10 r11 v7 v8 r12 r13 v9 v10 r14 v11 v12 r15 v13 w14 r16 v15 v16 r17 r18 r19 r20 r21 r22 v17 r23 r24 r25 v18 h1 g0 f19 h2 g1 fn25)) (w1 := []) hP hD [] [0, 1, 2] rfl rfl (by decide) (by decide) hk1 hFc hP1 hD1
          generalize H1 = H at hP hS ⊢
          have hP : va_P (dC, dI) vwCl (wd_b9c2d44b h0 v0 h1 v1 x24 (-1) v3 r0 r1 r2 r3 r4 r5 r6 v4 v5 r7 r8 r9 h2 v6 r10 r11 v7 v8 r12 r13 v9 v10 r14 v11 v12 r15 v13 w14 r16 v15 v16 r17 r18 r19 r20 r21 r22 v17 r23 r24 r25 v18 h1 g0 f19 h2 g1 fn25) H := hP
          have hD : va_D A (wd_b9c2d44b h0 v0 h1 v1 x24 (-1) v3 r0 r1 r2 r3 r4 r5 r6 v4 v5 r7 r8 r9 h2 v6 r10 r11 v7 v8 r12 r13 v9 v10 r14 v11 v12 r15 v13 w14 r16 v15 v16 r17 r18 r19 r20 r21 r22 v17 r23 r24 r25 v18 h1 g0 f19 h2 g1 fn25) := hD
          refine lv_if_ne (tgt := 131) hx hb dX12_items_62 (by decide) (fun c33 => ?_) (fun c33 => ?_)
          · skip
            have fc33 : ¬ (ra32.toInt = 0) := fun h9 => c33 (Int32.toInt_inj.mp h9)
            have q1pt2_ra32 := pt2_ra32 (by omega)
            subst hQ
            have hP9 := hP.sub (ws' := (wd_b9c2d44b h0 v0 h1 v1 x24 (-1) v3 r0 r1 r2 r3 r4 r5 r6 v4 v5 r7 r8 r9 h2 v6 r10 r11 v7 v8 r12 r13 v9 v10 r14 v11 v12 r15 v13 w14 r16 v15 v16 r17 r18 r19 r20 r21 r22 v17 r23 r24 r25 v18 h1 g0 f19 h2 g1 fn25)) [0, 1, 2] rfl
            have hD9 := hD.sub (ws' := (wd_b9c2d44b h0 v0 h1 v1 x24 (-1) v3 r0 r1 r2 r3 r4 r5 r6 v4 v5 r7 r8 r9 h2 v6 r10 r11 v7 v8 r12 r13 v9 v10 r14 v11 v12 r15 v13 w14 r16 v15 v16 r17 r18 r19 r20 r21 r22 v17 r23 r24 r25 v18 h1 g0 f19 h2 g1 fn25)) [0, 1, 2] (by decide) rfl
            have hK9 := hK.sub (tys' := []) [] rfl
            exact W.vret hx hb hr (fun t ht hW => ⟨⟨(), rfl, trivial, Or.inl ⟨x24, fn25, by first | omega | decide, by first | omega | decide, by omega, by first | assumption | (apply pm_bb.init <;> first | assumption | omega | decide), by first | (apply pg_I.out <;> first | assumption | exact Or.inl (by assumption) | exact Or.inr (by assumption)) | (apply pg_items.e0 <;> first | assumption | omega | (apply pg_ur.mk <;> first | assumption | decide) | (apply pg_us.mk <;> first | assumption | omega | decide)) | (apply pg_I.last <;> first | assumption | omega | (show _ = pm_los _; assumption) | (show _ = pm_his _; assumption) | (show _ = pm_lob _; assumption) | (show _ = pm_hib _; assumption)), by rw [ht]; exact hP9, va_K.moved hW.alike hK9, hD9⟩⟩, hS.F ht⟩) hS.2.2 dX12_items_131
          · skip
            have fc33 : ra32.toInt = 0 := congrArg Int32.toInt c33
            have q0pt3_ra32 := pt3_ra32 (by omega)
            refine lv_iload hx hb dX12_items_65 (lv_at hl 1 rfl) ?_
            refine lv_iconst (v := 1) hx hb dX12_items_67 (by decide) ?_
            refine lv_iload hx hb dX12_items_68 (lv_at hl 0 rfl) ?_
            refine lv_ishl hx hb dX12_items_70 ?_
            refine lv_topi (fun t34 et34 => ?_)
            refine lv_ior hx hb dX12_items_71 ?_
            refine lv_topi (fun t35 et35 => ?_)
            refine lv_istore (lv' := [(5, .int t35), (6, .int x22), (0, .ref h0), (1, .int 98), (2, .ref h2), (3, .int 0), (4, .int 5)]) hx hb dX12_items_72 hl (by decide) rfl (fun ls hl => ?_)
            have hax24 : x24.toInt ≤ 239 := by omega
            refine lv_aload_n hx hb dX12_items_74 rfl (lv_at hl 2 rfl) ?_
            refine lv_dup hx hb dX12_items_75 rfl ?_
            refine va_get (D := (dC, dI)) (ci := 12) (v := .int x24) (C := RX12) (T := TX12) (N := 48) hx hb hts (fun _ h => List.mem_cons_of_mem _ (List.mem_append_right _ h)) hown hK hP 0 rfl rfl 3 (by decide) (hts (.fieldLink RX12 112 "LeftArgumentsModel" "at" "I") (List.mem_cons_of_mem _ (List.mem_append_left _ (List.mem_of_getElem? (i := 6) rfl)))) (fun _ h9 => h9) rfl dX12_items_76 ?_
            refine lv_iconst (v := 1) hx hb dX12_items_79 (by decide) ?_
            refine lv_iadd hx hb dX12_items_80 ?_
            refine lv_topi (fun t36 et36 => ?_)
            have gt36 : t36.toInt = x24.toInt + 1 := pv_add (a := x24.toInt) (b := 1) et36 rfl (by decide) (by omega) (by omega)
            refine va_put (D := (dC, dI)) (ci := 12) (v := .int t36) (ty := .int) (C := RX12) (T := TX12) (N := 48) hx hb hts (fun _ h => List.mem_cons_of_mem _ (List.mem_append_right _ h)) tyX12 tyX12_ok nmX12 hown hK hP hD hS 0 rfl rfl 3 (by decide) (hts (.fieldLink RX12 112 "LeftArgumentsModel" "at" "I") (List.mem_cons_of_mem _ (List.mem_append_left _ (List.mem_of_getElem? (i := 6) rfl)))) (fun _ h9 => h9) rfl (by decide +kernel) rfl rfl (Nat.le_of_ble_eq_true rfl) dX12_items_81 (fun H locs hP hD hS => ?_)
            have hP : va_P (dC, dI) vwCl (wd_b9c2d44b h0 v0 h1 v1 t36 (-1) v3 r0 r1 r2 r3 r4 r5 r6 v4 v5 r7 r8 r9 h2 v6 r10 r11 v7 v8 r12 r13 v9 v10 r14 v11 v12 r15 v13 w14 r16 v15 v16 r17 r18 r19 r20 r21 r22 v17 r23 r24 r25 v18 h1 g0 f19 h2 g1 fn25) H := hP
            have hD : va_D A (wd_b9c2d44b h0 v0 h1 v1 t36 (-1) v3 r0 r1 r2 r3 r4 r5 r6 v4 v5 r7 r8 r9 h2 v6 r10 r11 v7 v8 r12 r13 v9 v10 r14 v11 v12 r15 v13 w14 r16 v15 v16 r17 r18 r19 r20 r21 r22 v17 r23 r24 r25 v18 h1 g0 f19 h2 g1 fn25) := hD
            refine lv_aload_n hx hb dX12_items_84 rfl (lv_at hl 4 rfl) ?_
            refine lv_iload_n hx hb dX12_items_85 rfl (lv_at hl 5 rfl) ?_
            refine lv_iload hx hb dX12_items_86 (lv_at hl 1 rfl) ?_
            refine lv_iadd hx hb dX12_items_88 ?_
            refine lv_topi (fun t37 et37 => ?_)
            have gt37 : t37.toInt = 0 + x22.toInt := pv_add (a := 0) (b := x22.toInt) et37 (by decide) rfl (by omega) (by omega)
            refine lv_aload_n hx hb dX12_items_89 rfl (lv_at hl 2 rfl) ?_
            refine lv_iload_n hx hb dX12_items_90 rfl (lv_at hl 3 rfl) ?_
            refine lv_iload hx hb dX12_items_91 (lv_at hl 1 rfl) ?_
            have hPc := hP.sub (ws' := []) [] rfl
            have hDc := hD.sub (ws' := []) [] (by decide) rfl
            have hKc := hK.sub (tys' := []) [] rfl
            have hFc := va_free (wc := []) hD hS hA [] rfl
            refine va_calli (va_runS (As := [.int 98, .int x22]) (rest := [.ref h0, .int t37, .ref h2]) ⟨hx, hb, hml, hown, hts⟩ (k_X12_lowest l dC dI x22 ⟨by first | omega | decide, by first | omega | decide⟩ H.size) (va_cwS 2 hts g_X12_items_9 rfl rfl rfl (by decide +kernel) ⟨Nat.le_of_ble_eq_true rfl, Nat.le_of_ble_eq_true rfl⟩) ⟨fun a U g mk q => by obtain ⟨q0, q1, qP, qK, qD⟩ := q; exact ⟨q0, q1, qP, va_K.moved (u := U) (U := U.calling g mk a) (Vm.Alike.refl U.vm) qK, qD⟩, fun U hU hW => ⟨rfl, by rw [hU], by rw [hU]; exact hPc, va_K.moved hW.alike hKc, hDc.weaken (fun _ _ _ _ => trivial)⟩⟩ rfl rfl hl.1 rfl (lv_room (Nat.le_of_ble_eq_true rfl)) dX12_items_93 ⟨Nat.le_of_ble_eq_true rfl, Nat.le_of_ble_eq_true rfl⟩) hS (fun q _ h => hFc q h) hFc (fun ra38 u t H1 locs ht hvm hwra38 hB hz1 hk1 hS => ?_)
            try rw [hwra38] at hB
            obtain ⟨pt0_ra38, pt1_ra38, pt2_ra38, hP1, hK1, hD1⟩ := hB
            rw [ht] at hP1
            obtain ⟨hP, hD⟩ := va_join (wr := (wd_b9c2d44b h0 v0 h1 v1 t36 (-1) v3 r0 r1 r2 r3 r4 r5 r6 v4 v5 r7 r8 r9 h2 v6 r10 r11 v7 v8 r12 r13 v9 v10 r14 v11 v12 r15 v13 w14 r16 v15 v16 r17 r18 r19 r20 r21 r22 v17 r23 r24 r25 v18 h1 g0 f19 h2 g1 fn25)) (w1 := []) hP hD [] [0, 1, 2] rfl rfl (by decide) (by decide) hk1 hFc hP1 hD1
            generalize H1 = H at hP hS ⊢
            have hP : va_P (dC, dI) vwCl (wd_b9c2d44b h0 v0 h1 v1 t36 (-1) v3 r0 r1 r2 r3 r4 r5 r6 v4 v5 r7 r8 r9 h2 v6 r10 r11 v7 v8 r12 r13 v9 v10 r14 v11 v12 r15 v13 w14 r16 v15 v16 r17 r18 r19 r20 r21 r22 v17 r23 r24 r25 v18 h1 g0 f19 h2 g1 fn25) H := hP
            have hD : va_D A (wd_b9c2d44b h0 v0 h1 v1 t36 (-1) v3 r0 r1 r2 r3 r4 r5 r6 v4 v5 r7 r8 r9 h2 v6 r10 r11 v7 v8 r12 r13 v9 v10 r14 v11 v12 r15 v13 w14 r16 v15 v16 r17 r18 r19 r20 r21 r22 v17 r23 r24 r25 v18 h1 g0 f19 h2 g1 fn25) := hD
            refine lv_iload_n hx hb dX12_items_96 rfl (lv_at hl 3 rfl) ?_
            refine lv_iload hx hb dX12_items_97 (lv_at hl 1 rfl) ?_
            have hPc := hP.sub (ws' := []) [] rfl
            have hDc := hD.sub (ws' := []) [] (by decide) rfl
            have hKc := hK.sub (tys' := []) [] rfl
            have hFc := va_free (wc := []) hD hS hA [] rfl
            refine va_calli (va_runS (As := [.int 98, .int x22]) (rest := [.int ra38, .ref h0, .int t37, .ref h2]) ⟨hx, hb, hml, hown, hts⟩ (k_X12_highest l dC dI x22 ⟨by first | omega | decide, by first | omega | decide⟩ H.size) (va_cwS 2 hts g_X12_items_10 rfl rfl rfl (by decide +kernel) ⟨Nat.le_of_ble_eq_true rfl, Nat.le_of_ble_eq_true rfl⟩) ⟨fun a U g mk q => by obtain ⟨q0, q1, qP, qK, qD⟩ := q; exact ⟨q0, q1, qP, va_K.moved (u := U) (U := U.calling g mk a) (Vm.Alike.refl U.vm) qK, qD⟩, fun U hU hW => ⟨rfl, by rw [hU], by rw [hU]; exact hPc, va_K.moved hW.alike hKc, hDc.weaken (fun _ _ _ _ => trivial)⟩⟩ rfl rfl hl.1 rfl (lv_room (Nat.le_of_ble_eq_true rfl)) dX12_items_99 ⟨Nat.le_of_ble_eq_true rfl, Nat.le_of_ble_eq_true rfl⟩) hS (fun q _ h => hFc q h) hFc (fun ra39 u t H1 locs ht hvm hwra39 hB hz1 hk1 hS => ?_)
            try rw [hwra39] at hB
            obtain ⟨pt0_ra39, pt1_ra39, pt2_ra39, hP1, hK1, hD1⟩ := hB
            rw [ht] at hP1
            obtain ⟨hP, hD⟩ := va_join (wr := (wd_b9c2d44b h0 v0 h1 v1 t36 (-1) v3 r0 r1 r2 r3 r4 r5 r6 v4 v5 r7 r8 r9 h2 v6 r10 r11 v7 v8 r12 r13 v9 v10 r14 v11 v12 r15 v13 w14 r16 v15 v16 r17 r18 r19 r20 r21 r22 v17 r23 r24 r25 v18 h1 g0 f19 h2 g1 fn25)) (w1 := []) hP hD [] [0, 1, 2] rfl rfl (by decide) (by decide) hk1 hFc hP1 hD1
            generalize H1 = H at hP hS ⊢
            have hP : va_P (dC, dI) vwCl (wd_b9c2d44b h0 v0 h1 v1 t36 (-1) v3 r0 r1 r2 r3 r4 r5 r6 v4 v5 r7 r8 r9 h2 v6 r10 r11 v7 v8 r12 r13 v9 v10 r14 v11 v12 r15 v13 w14 r16 v15 v16 r17 r18 r19 r20 r21 r22 v17 r23 r24 r25 v18 h1 g0 f19 h2 g1 fn25) H := hP
            have hD : va_D A (wd_b9c2d44b h0 v0 h1 v1 t36 (-1) v3 r0 r1 r2 r3 r4 r5 r6 v4 v5 r7 r8 r9 h2 v6 r10 r11 v7 v8 r12 r13 v9 v10 r14 v11 v12 r15 v13 w14 r16 v15 v16 r17 r18 r19 r20 r21 r22 v17 r23 r24 r25 v18 h1 g0 f19 h2 g1 fn25) := hD
            have hPc := hP.sub (ws' := (wd_f4cd022e h0 v0 h1 v1 t36 (-1) v3 r0 r1 r2 r3 r4 r5 r6 v4 v5 r7 r8 r9 h2 v6 r10 r11 v7 v8 r12 r13 v9 v10 r14 v11 v12 r15 v13 w14 r16 v15 v16 r17 r18 r19 r20 r21 r22 v17 r23 r24 r25 v18 h1 g0 f19)) [0, 1] rfl
            have hDc := hD.sub (ws' := (wd_f4cd022e h0 v0 h1 v1 t36 (-1) v3 r0 r1 r2 r3 r4 r5 r6 v4 v5 r7 r8 r9 h2 v6 r10 r11 v7 v8 r12 r13 v9 v10 r14 v11 v12 r15 v13 w14 r16 v15 v16 r17 r18 r19 r20 r21 r22 v17 r23 r24 r25 v18 h1 g0 f19)) [0, 1] (by decide) rfl
            have hKc := hK.sub (tys' := [(g0, .int)]) [0] rfl
            have hFc := va_free (wc := (wd_f4cd022e h0 v0 h1 v1 t36 (-1) v3 r0 r1 r2 r3 r4 r5 r6 v4 v5 r7 r8 r9 h2 v6 r10 r11 v7 v8 r12 r13 v9 v10 r14 v11 v12 r15 v13 w14 r16 v15 v16 r17 r18 r19 r20 r21 r22 v17 r23 r24 r25 v18 h1 g0 f19)) hD hS hA [0, 1] rfl
            refine va_calli (va_runV (As := [.int ra38, .int ra39]) (rest := [.int t37, .ref h2]) ⟨hx, hb, hml, hown, hts⟩ (k_X12_number l dC dI h0 h1 v0 v1 t36 v3 r0 r1 r2 r3 r4 r5 r6 v4 v5 r7 r8 r9 h2 v6 r10 r11 v7 v8 r12 r13 v9 v10 r14 v11 v12 r15 v13 w14 r16 v15 v16 r17 r18 r19 r20 r21 r22 v17 r23 r24 r25 v18 g0 f19 ra38 ra39 ⟨by first | omega | decide, by first | omega | decide⟩ ⟨by first | omega | decide, by first | omega | decide⟩ ⟨by first | omega | decide, by first | omega | decide⟩ ⟨by first | omega | decide, by first | omega | decide⟩ ⟨by first | omega | decide, by first | omega | decide⟩ ⟨by first | omega | decide, by first | omega | decide⟩ ⟨by first | omega | decide, by first | omega | decide⟩ ⟨by first | omega | decide, by first | omega | decide⟩ ⟨by first | omega | decide, by first | omega | decide⟩ ⟨by first | omega | decide, by first | omega | decide⟩ ⟨by first | omega | decide, by first | omega | decide⟩ ia_f19 H.size) (cwV 2 hts g_X12_items_11 rfl rfl rfl (by decide +kernel) ⟨Nat.le_of_ble_eq_true rfl, Nat.le_of_ble_eq_true rfl⟩) ⟨fun a U g mk q => by obtain ⟨q0, q1, qP, qK, qD⟩ := q; exact ⟨q0, q1, qP, va_K.moved (u := U) (U := U.calling g mk a) (Vm.Alike.refl U.vm) qK, qD⟩, va_recv hKc hPc (ci := 12) (q0 := 0) rfl rfl, fun U hU hW => ⟨rfl, by rw [hU], by rw [hU]; exact hPc, va_K.moved hW.alike hKc, hDc.weaken (fun _ _ _ _ => trivial)⟩⟩ rfl rfl hl.1 rfl (lv_room (Nat.le_of_ble_eq_true rfl)) dX12_items_102 ⟨Nat.le_of_ble_eq_true rfl, Nat.le_of_ble_eq_true rfl⟩) hS (fun q _ h => hFc q h) hFc (fun ra40 u t H1 locs ht hvm hwra40 hB hz1 hk1 hS => ?_)
            try rw [hwra40] at hB
            rcases hB with hB | hB
            · skip
              obtain ⟨x41, oa_x41, ob_x41, pt0_ra40, pt1_ra40, pt2_ra40, pt3_ra40, pt4_ra40, hP1, hK1, hD1⟩ := hB
              rw [ht] at hP1
              obtain ⟨hP, hD⟩ := va_join (wr := (wd_aad598ec h2 g1 fn25)) (w1 := (wd_f4cd022e h0 v0 h1 v1 x41 (-1) v3 r0 r1 r2 r3 r4 r5 r6 v4 v5 r7 r8 r9 h2 v6 r10 r11 v7 v8 r12 r13 v9 v10 r14 v11 v12 r15 v13 w14 r16 v15 v16 r17 r18 r19 r20 r21 r22 v17 r23 r24 r25 v18 h1 g0 f19)) hP hD [0, 1] [2] rfl rfl (by decide) (by decide) hk1 hFc hP1 hD1
              generalize H1 = H at hP hS ⊢
              have hP := hP.sub (ws' := (wd_b9c2d44b h0 v0 h1 v1 x41 (-1) v3 r0 r1 r2 r3 r4 r5 r6 v4 v5 r7 r8 r9 h2 v6 r10 r11 v7 v8 r12 r13 v9 v10 r14 v11 v12 r15 v13 w14 r16 v15 v16 r17 r18 r19 r20 r21 r22 v17 r23 r24 r25 v18 h1 g0 f19 h2 g1 fn25)) [1, 2, 0] rfl
              have hD := hD.sub (ws' := (wd_b9c2d44b h0 v0 h1 v1 x41 (-1) v3 r0 r1 r2 r3 r4 r5 r6 v4 v5 r7 r8 r9 h2 v6 r10 r11 v7 v8 r12 r13 v9 v10 r14 v11 v12 r15 v13 w14 r16 v15 v16 r17 r18 r19 r20 r21 r22 v17 r23 r24 r25 v18 h1 g0 f19 h2 g1 fn25)) [1, 2, 0] (by decide) rfl
              have hP : va_P (dC, dI) vwCl (wd_b9c2d44b h0 v0 h1 v1 x41 (-1) v3 r0 r1 r2 r3 r4 r5 r6 v4 v5 r7 r8 r9 h2 v6 r10 r11 v7 v8 r12 r13 v9 v10 r14 v11 v12 r15 v13 w14 r16 v15 v16 r17 r18 r19 r20 r21 r22 v17 r23 r24 r25 v18 h1 g0 f19 h2 g1 fn25) H := hP
              have hD : va_D A (wd_b9c2d44b h0 v0 h1 v1 x41 (-1) v3 r0 r1 r2 r3 r4 r5 r6 v4 v5 r7 r8 r9 h2 v6 r10 r11 v7 v8 r12 r13 v9 v10 r14 v11 v12 r15 v13 w14 r16 v15 v16 r17 r18 r19 r20 r21 r22 v17 r23 r24 r25 v18 h1 g0 f19 h2 g1 fn25) := hD
              refine va_iast hx hb hK hP hD hS 2 1 rfl rfl (vp_in_iff.mpr ⟨by omega, by omega⟩) dX12_items_105 (fun H locs hP hD hS => ?_)
              obtain ⟨fn42, efn42⟩ : ∃ g : Nat → Int32, g = upd fn25 (Int32.toNatClampNeg t37) ra40 := ⟨_, rfl⟩
              rw [← efn42] at hP hD
              have hP : va_P (dC, dI) vwCl (wd_b9c2d44b h0 v0 h1 v1 x41 (-1) v3 r0 r1 r2 r3 r4 r5 r6 v4 v5 r7 r8 r9 h2 v6 r10 r11 v7 v8 r12 r13 v9 v10 r14 v11 v12 r15 v13 w14 r16 v15 v16 r17 r18 r19 r20 r21 r22 v17 r23 r24 r25 v18 h1 g0 f19 h2 g1 fn42) H := hP
              have hD : va_D A (wd_b9c2d44b h0 v0 h1 v1 x41 (-1) v3 r0 r1 r2 r3 r4 r5 r6 v4 v5 r7 r8 r9 h2 v6 r10 r11 v7 v8 r12 r13 v9 v10 r14 v11 v12 r15 v13 w14 r16 v15 v16 r17 r18 r19 r20 r21 r22 v17 r23 r24 r25 v18 h1 g0 f19 h2 g1 fn42) := hD
              refine lv_aload_n hx hb dX12_items_106 rfl (lv_at hl 2 rfl) ?_
              refine va_get (D := (dC, dI)) (ci := 12) (v := .int (-1)) (C := RX12) (T := TX12) (N := 48) hx hb hts (fun _ h => List.mem_cons_of_mem _ (List.mem_append_right _ h)) hown hK hP 0 rfl rfl 4 (by decide) (hts (.fieldLink RX12 119 "LeftArgumentsModel" "wrong" "I") (List.mem_cons_of_mem _ (List.mem_append_left _ (List.mem_of_getElem? (i := 18) rfl)))) (fun _ h9 => h9) rfl dX12_items_107 ?_
              refine lv_iconst (v := (-1)) hx hb dX12_items_110 (by decide) ?_
              refine lv_icmp_ne (tgt := 125) hx hb dX12_items_111 (by decide) (fun c => absurd (by decide) c) (fun _ => ?_)
              refine lv_iload_n hx hb dX12_items_114 rfl (lv_at hl 3 rfl) ?_
              refine lv_aload_n hx hb dX12_items_115 rfl (lv_at hl 2 rfl) ?_
              have hPc := hP.sub (ws' := (wd_f4cd022e h0 v0 h1 v1 x41 (-1) v3 r0 r1 r2 r3 r4 r5 r6 v4 v5 r7 r8 r9 h2 v6 r10 r11 v7 v8 r12 r13 v9 v10 r14 v11 v12 r15 v13 w14 r16 v15 v16 r17 r18 r19 r20 r21 r22 v17 r23 r24 r25 v18 h1 g0 f19)) [0, 1] rfl
              have hDc := hD.sub (ws' := (wd_f4cd022e h0 v0 h1 v1 x41 (-1) v3 r0 r1 r2 r3 r4 r5 r6 v4 v5 r7 r8 r9 h2 v6 r10 r11 v7 v8 r12 r13 v9 v10 r14 v11 v12 r15 v13 w14 r16 v15 v16 r17 r18 r19 r20 r21 r22 v17 r23 r24 r25 v18 h1 g0 f19)) [0, 1] (by decide) rfl
              have hKc := hK.sub (tys' := [(g0, .int)]) [0] rfl
              have hFc := va_free (wc := (wd_f4cd022e h0 v0 h1 v1 x41 (-1) v3 r0 r1 r2 r3 r4 r5 r6 v4 v5 r7 r8 r9 h2 v6 r10 r11 v7 v8 r12 r13 v9 v10 r14 v11 v12 r15 v13 w14 r16 v15 v16 r17 r18 r19 r20 r21 r22 v17 r23 r24 r25 v18 h1 g0 f19)) hD hS hA [0, 1] rfl
              refine va_calli (va_runV (As := []) (rest := [.int 98]) ⟨hx, hb, hml, hown, hts⟩ (k_X12_look l dC dI h0 h1 v0 v1 x41 ((-1)) v3 r0 r1 r2 r3 r4 r5 r6 v4 v5 r7 r8 r9 h2 v6 r10 r11 v7 v8 r12 r13 v9 v10 r14 v11 v12 r15 v13 w14 r16 v15 v16 r17 r18 r19 r20 r21 r22 v17 r23 r24 r25 v18 g0 f19 ⟨by first | omega | decide, by first | omega | decide⟩ ⟨by first | omega | decide, by first | omega | decide⟩ ⟨by first | omega | decide, by first | omega | decide⟩ ⟨by first | omega | decide, by first | omega | decide⟩ ⟨by first | omega | decide, by first | omega | decide⟩ ⟨by first | omega | decide, by first | omega | decide⟩ ⟨by first | omega | decide, by first | omega | decide⟩ ⟨by first | omega | decide, by first | omega | decide⟩ ⟨by first | omega | decide, by first | omega | decide⟩ ⟨by first | omega | decide, by first | omega | decide⟩ ⟨by first | omega | decide, by first | omega | decide⟩ ia_f19 H.size) (cwV 0 hts g_X12_items_5 rfl rfl rfl (by decide +kernel) ⟨Nat.le_of_ble_eq_true rfl, Nat.le_of_ble_eq_true rfl⟩) ⟨fun a U g mk q => by obtain ⟨q0, q1, qP, qK, qD⟩ := q; exact ⟨q0, q1, qP, va_K.moved (u := U) (U := U.calling g mk a) (Vm.Alike.refl U.vm) qK, qD⟩, va_recv hKc hPc (ci := 12) (q0 := 0) rfl rfl, fun U hU hW => ⟨rfl, by rw [hU], by rw [hU]; exact hPc, va_K.moved hW.alike hKc, hDc.weaken (fun _ _ _ _ => trivial)⟩⟩ rfl rfl hl.1 rfl (lv_room (Nat.le_of_ble_eq_true rfl)) dX12_items_116 ⟨Nat.le_of_ble_eq_true rfl, Nat.le_of_ble_eq_true rfl⟩) hS (fun q _ h => hFc q h) hFc (fun ra43 u t H1 locs ht hvm hwra43 hB hz1 hk1 hS => ?_)
              try rw [hwra43] at hB
              have hkra43_0 : (((-1) : Int32)).toInt = -1 := by decide
              rcases hB with hB | hB
              · skip
                obtain ⟨x44, oa_x44, ob_x44, pt0_ra43, pt1_ra43, pt2_ra43, pt3_ra43, pt4_ra43, pt5_ra43, pt6_ra43, hP1, hK1, hD1⟩ := hB
                rw [ht] at hP1
                obtain ⟨hP, hD⟩ := va_join (wr := (wd_aad598ec h2 g1 fn42)) (w1 := (wd_f4cd022e h0 v0 h1 v1 x44 (-1) v3 r0 r1 r2 r3 r4 r5 r6 v4 v5 r7 r8 r9 h2 v6 r10 r11 v7 v8 r12 r13 v9 v10 r14 v11 v12 r15 v13 w14 r16 v15 v16 r17 r18 r19 r20 r21 r22 v17 r23 r24 r25 v18 h1 g0 f19)) hP hD [0, 1] [2] rfl rfl (by decide) (by decide) hk1 hFc hP1 hD1
                generalize H1 = H at hP hS ⊢
                have hP := hP.sub (ws' := (wd_b9c2d44b h0 v0 h1 v1 x44 (-1) v3 r0 r1 r2 r3 r4 r5 r6 v4 v5 r7 r8 r9 h2 v6 r10 r11 v7 v8 r12 r13 v9 v10 r14 v11 v12 r15 v13 w14 r16 v15 v16 r17 r18 r19 r20 r21 r22 v17 r23 r24 r25 v18 h1 g0 f19 h2 g1 fn42)) [1, 2, 0] rfl
                have hD := hD.sub (ws' := (wd_b9c2d44b h0 v0 h1 v1 x44 (-1) v3 r0 r1 r2 r3 r4 r5 r6 v4 v5 r7 r8 r9 h2 v6 r10 r11 v7 v8 r12 r13 v9 v10 r14 v11 v12 r15 v13 w14 r16 v15 v16 r17 r18 r19 r20 r21 r22 v17 r23 r24 r25 v18 h1 g0 f19 h2 g1 fn42)) [1, 2, 0] (by decide) rfl
                have hP : va_P (dC, dI) vwCl (wd_b9c2d44b h0 v0 h1 v1 x44 (-1) v3 r0 r1 r2 r3 r4 r5 r6 v4 v5 r7 r8 r9 h2 v6 r10 r11 v7 v8 r12 r13 v9 v10 r14 v11 v12 r15 v13 w14 r16 v15 v16 r17 r18 r19 r20 r21 r22 v17 r23 r24 r25 v18 h1 g0 f19 h2 g1 fn42) H := hP
                have hD : va_D A (wd_b9c2d44b h0 v0 h1 v1 x44 (-1) v3 r0 r1 r2 r3 r4 r5 r6 v4 v5 r7 r8 r9 h2 v6 r10 r11 v7 v8 r12 r13 v9 v10 r14 v11 v12 r15 v13 w14 r16 v15 v16 r17 r18 r19 r20 r21 r22 v17 r23 r24 r25 v18 h1 g0 f19 h2 g1 fn42) := hD
                obtain rfl : ra43 = ((-1) : Int32) := Int32.toInt_inj.mp (by rw [show (((-1) : Int32)).toInt = -1 by decide]; omega)
                have hPc := hP.sub (ws' := []) [] rfl
                have hDc := hD.sub (ws' := []) [] (by decide) rfl
                have hKc := hK.sub (tys' := []) [] rfl
                have hFc := va_free (wc := []) hD hS hA [] rfl
                refine va_calli (va_runS (As := [.int 98, .int (-1)]) (rest := []) ⟨hx, hb, hml, hown, hts⟩ (k_X12_itemOf l dC dI ((-1))  H.size) (va_cwS 2 hts g_X12_items_6 rfl rfl rfl (by decide +kernel) ⟨Nat.le_of_ble_eq_true rfl, Nat.le_of_ble_eq_true rfl⟩) ⟨fun a U g mk q => by obtain ⟨q0, q1, qP, qK, qD⟩ := q; exact ⟨q0, q1, qP, va_K.moved (u := U) (U := U.calling g mk a) (Vm.Alike.refl U.vm) qK, qD⟩, fun U hU hW => ⟨rfl, by rw [hU], by rw [hU]; exact hPc, va_K.moved hW.alike hKc, hDc.weaken (fun _ _ _ _ => trivial)⟩⟩ rfl rfl hl.1 rfl (lv_room (Nat.le_of_ble_eq_true rfl)) dX12_items_119 ⟨Nat.le_of_ble_eq_true rfl, Nat.le_of_ble_eq_true rfl⟩) hS (fun q _ h => hFc q h) hFc (fun ra45 u t H1 locs ht hvm hwra45 hB hz1 hk1 hS => ?_)
                try rw [hwra45] at hB
                have hkra45_0 : (((-1) : Int32)).toInt = -1 := by decide
                obtain ⟨pt0_ra45, pt1_ra45, pt2_ra45, pt3_ra45, hP1, hK1, hD1⟩ := hB
                rw [ht] at hP1
                obtain ⟨hP, hD⟩ := va_join (wr := (wd_b9c2d44b h0 v0 h1 v1 x44 (-1) v3 r0 r1 r2 r3 r4 r5 r6 v4 v5 r7 r8 r9 h2 v6 r10 r11 v7 v8 r12 r13 v9 v10 r14 v11 v12 r15 v13 w14 r16 v15 v16 r17 r18 r19 r20 r21 r22 v17 r23 r24 r25 v18 h1 g0 f19 h2 g1 fn42)) (w1 := []) hP hD [] [0, 1, 2] rfl rfl (by decide) (by decide) hk1 hFc hP1 hD1
                generalize H1 = H at hP hS ⊢
                have hP : va_P (dC, dI) vwCl (wd_b9c2d44b h0 v0 h1 v1 x44 (-1) v3 r0 r1 r2 r3 r4 r5 r6 v4 v5 r7 r8 r9 h2 v6 r10 r11 v7 v8 r12 r13 v9 v10 r14 v11 v12 r15 v13 w14 r16 v15 v16 r17 r18 r19 r20 r21 r22 v17 r23 r24 r25 v18 h1 g0 f19 h2 g1 fn42) H := hP
                have hD : va_D A (wd_b9c2d44b h0 v0 h1 v1 x44 (-1) v3 r0 r1 r2 r3 r4 r5 r6 v4 v5 r7 r8 r9 h2 v6 r10 r11 v7 v8 r12 r13 v9 v10 r14 v11 v12 r15 v13 w14 r16 v15 v16 r17 r18 r19 r20 r21 r22 v17 r23 r24 r25 v18 h1 g0 f19 h2 g1 fn42) := hD
                have hkra45 : ra45 = pg_it false (pg_ch f19 v1.toInt x44.toInt) := by rw [show pg_ch f19 v1.toInt x44.toInt = (-1) by omega]; exact pt3_ra45
                refine lv_goto (tgt := 126) hx hb dX12_items_122 (by decide) ?_
                refine lv_istore (lv' := [(6, .int ra45), (5, .int t35), (0, .ref h0), (1, .int 98), (2, .ref h2), (3, .int 0), (4, .int 5)]) hx hb dX12_items_126 hl (by decide) rfl (fun ls hl => ?_)
                refine lv_goto (tgt := 41) hx hb dX12_items_128 (by decide) ?_
                exact ih_hL30 ra45 t35 x44 fn42 H locs ls (by first | omega | decide) (by first | omega | decide) (by first | omega | decide) (by first | omega | decide) (by first | assumption | (apply pm_bb.step <;> first | assumption | omega) | (apply pm_bb.init <;> first | assumption | omega | decide)) (by omega) (by omega) (by first | assumption | (apply pg_I.ini <;> first | assumption | omega | (apply pg_ur.mk <;> first | assumption | decide) | (apply pg_us.mk <;> first | assumption | omega | decide)) | (apply pg_I.next <;> first | assumption | omega | (show _ = pm_los _; assumption) | (show _ = pm_his _; assumption) | (show _ = pm_lob _; assumption) | (show _ = pm_hib _; assumption))) (by assumption) (by assumption) (by first | omega | (simp only [Int.toNat] at *; omega)) hP hD hS (lv_sub hl [0, 1, 2, 3, 4, 5, 6] rfl)
              · skip
                obtain ⟨x46, oa_x46, ob_x46, pt0_ra43, pt1_ra43, pt2_ra43, pt3_ra43, pt4_ra43, pt5_ra43, pt6_ra43, pt7_ra43, hP1, hK1, hD1⟩ := hB
                rw [ht] at hP1
                obtain ⟨hP, hD⟩ := va_join (wr := (wd_aad598ec h2 g1 fn42)) (w1 := (wd_f4cd022e h0 v0 h1 v1 x46 (-1) v3 r0 r1 r2 r3 r4 r5 r6 v4 v5 r7 r8 r9 h2 v6 r10 r11 v7 v8 r12 r13 v9 v10 r14 v11 v12 r15 v13 w14 r16 v15 v16 r17 r18 r19 r20 r21 r22 v17 r23 r24 r25 v18 h1 g0 f19)) hP hD [0, 1] [2] rfl rfl (by decide) (by decide) hk1 hFc hP1 hD1
                generalize H1 = H at hP hS ⊢
                have hP := hP.sub (ws' := (wd_b9c2d44b h0 v0 h1 v1 x46 (-1) v3 r0 r1 r2 r3 r4 r5 r6 v4 v5 r7 r8 r9 h2 v6 r10 r11 v7 v8 r12 r13 v9 v10 r14 v11 v12 r15 v13 w14 r16 v15 v16 r17 r18 r19 r20 r21 r22 v17 r23 r24 r25 v18 h1 g0 f19 h2 g1 fn42)) [1, 2, 0] rfl
                have hD := hD.sub (ws' := (wd_b9c2d44b h0 v0 h1 v1 x46 (-1) v3 r0 r1 r2 r3 r4 r5 r6 v4 v5 r7 r8 r9 h2 v6 r10 r11 v7 v8 r12 r13 v9 v10 r14 v11 v12 r15 v13 w14 r16 v15 v16 r17 r18 r19 r20 r21 r22 v17 r23 r24 r25 v18 h1 g0 f19 h2 g1 fn42)) [1, 2, 0] (by decide) rfl
                have hP : va_P (dC, dI) vwCl (wd_b9c2d44b h0 v0 h1 v1 x46 (-1) v3 r0 r1 r2 r3 r4 r5 r6 v4 v5 r7 r8 r9 h2 v6 r10 r11 v7 v8 r12 r13 v9 v10 r14 v11 v12 r15 v13 w14 r16 v15 v16 r17 r18 r19 r20 r21 r22 v17 r23 r24 r25 v18 h1 g0 f19 h2 g1 fn42) H := hP
                have hD : va_D A (wd_b9c2d44b h0 v0 h1 v1 x46 (-1) v3 r0 r1 r2 r3 r4 r5 r6 v4 v5 r7 r8 r9 h2 v6 r10 r11 v7 v8 r12 r13 v9 v10 r14 v11 v12 r15 v13 w14 r16 v15 v16 r17 r18 r19 r20 r21 r22 v17 r23 r24 r25 v18 h1 g0 f19 h2 g1 fn42) := hD
                have hPc := hP.sub (ws' := []) [] rfl
                have hDc := hD.sub (ws' := []) [] (by decide) rfl
                have hKc := hK.sub (tys' := []) [] rfl
                have hFc := va_free (wc := []) hD hS hA [] rfl
                refine va_calli (va_runS (As := [.int 98, .int ra43]) (rest := []) ⟨hx, hb, hml, hown, hts⟩ (k_X12_itemOf l dC dI ra43  H.size) (va_cwS 2 hts g_X12_items_6 rfl rfl rfl (by decide +kernel) ⟨Nat.le_of_ble_eq_true rfl, Nat.le_of_ble_eq_true rfl⟩) ⟨fun a U g mk q => by obtain ⟨q0, q1, qP, qK, qD⟩ := q; exact ⟨q0, q1, qP, va_K.moved (u := U) (U := U.calling g mk a) (Vm.Alike.refl U.vm) qK, qD⟩, fun U hU hW => ⟨rfl, by rw [hU], by rw [hU]; exact hPc, va_K.moved hW.alike hKc, hDc.weaken (fun _ _ _ _ => trivial)⟩⟩ rfl rfl hl.1 rfl (lv_room (Nat.le_of_ble_eq_true rfl)) dX12_items_119 ⟨Nat.le_of_ble_eq_true rfl, Nat.le_of_ble_eq_true rfl⟩) hS (fun q _ h => hFc q h) hFc (fun ra47 u t H1 locs ht hvm hwra47 hB hz1 hk1 hS => ?_)
                try rw [hwra47] at hB
                obtain ⟨pt0_ra47, pt1_ra47, pt2_ra47, pt3_ra47, hP1, hK1, hD1⟩ := hB
                rw [ht] at hP1
                obtain ⟨hP, hD⟩ := va_join (wr := (wd_b9c2d44b h0 v0 h1 v1 x46 (-1) v3 r0 r1 r2 r3 r4 r5 r6 v4 v5 r7 r8 r9 h2 v6 r10 r11 v7 v8 r12 r13 v9 v10 r14 v11 v12 r15 v13 w14 r16 v15 v16 r17 r18 r19 r20 r21 r22 v17 r23 r24 r25 v18 h1 g0 f19 h2 g1 fn42)) (w1 := []) hP hD [] [0, 1, 2] rfl rfl (by decide) (by decide) hk1 hFc hP1 hD1
                generalize H1 = H at hP hS ⊢
                have hP : va_P (dC, dI) vwCl (wd_b9c2d44b h0 v0 h1 v1 x46 (-1) v3 r0 r1 r2 r3 r4 r5 r6 v4 v5 r7 r8 r9 h2 v6 r10 r11 v7 v8 r12 r13 v9 v10 r14 v11 v12 r15 v13 w14 r16 v15 v16 r17 r18 r19 r20 r21 r22 v17 r23 r24 r25 v18 h1 g0 f19 h2 g1 fn42) H := hP
                have hD : va_D A (wd_b9c2d44b h0 v0 h1 v1 x46 (-1) v3 r0 r1 r2 r3 r4 r5 r6 v4 v5 r7 r8 r9 h2 v6 r10 r11 v7 v8 r12 r13 v9 v10 r14 v11 v12 r15 v13 w14 r16 v15 v16 r17 r18 r19 r20 r21 r22 v17 r23 r24 r25 v18 h1 g0 f19 h2 g1 fn42) := hD
                have hkra47 : ra47 = pg_it false (pg_ch f19 v1.toInt x46.toInt) := by rw [show pg_ch f19 v1.toInt x46.toInt = ra43.toInt by omega]; exact pt3_ra47
                refine lv_goto (tgt := 126) hx hb dX12_items_122 (by decide) ?_
                refine lv_istore (lv' := [(6, .int ra47), (5, .int t35), (0, .ref h0), (1, .int 98), (2, .ref h2), (3, .int 0), (4, .int 5)]) hx hb dX12_items_126 hl (by decide) rfl (fun ls hl => ?_)
                refine lv_goto (tgt := 41) hx hb dX12_items_128 (by decide) ?_
                exact ih_hL30 ra47 t35 x46 fn42 H locs ls (by first | omega | decide) (by first | omega | decide) (by first | omega | decide) (by first | omega | decide) (by first | assumption | (apply pm_bb.step <;> first | assumption | omega) | (apply pm_bb.init <;> first | assumption | omega | decide)) (by omega) (by omega) (by first | assumption | (apply pg_I.ini <;> first | assumption | omega | (apply pg_ur.mk <;> first | assumption | decide) | (apply pg_us.mk <;> first | assumption | omega | decide)) | (apply pg_I.next <;> first | assumption | omega | (show _ = pm_los _; assumption) | (show _ = pm_his _; assumption) | (show _ = pm_lob _; assumption) | (show _ = pm_hib _; assumption))) (by assumption) (by assumption) (by first | omega | (simp only [Int.toNat] at *; omega)) hP hD hS (lv_sub hl [0, 1, 2, 3, 4, 5, 6] rfl)
            · skip
              obtain ⟨x48, x49, oa_x48, ob_x48, oa_x49, ob_x49, pt0_ra40, pt1_ra40, hP1, hK1, hD1⟩ := hB
              rw [ht] at hP1
              obtain ⟨hP, hD⟩ := va_join (wr := (wd_aad598ec h2 g1 fn25)) (w1 := (wd_f4cd022e h0 v0 h1 v1 x48 x49 v3 r0 r1 r2 r3 r4 r5 r6 v4 v5 r7 r8 r9 h2 v6 r10 r11 v7 v8 r12 r13 v9 v10 r14 v11 v12 r15 v13 w14 r16 v15 v16 r17 r18 r19 r20 r21 r22 v17 r23 r24 r25 v18 h1 g0 f19)) hP hD [0, 1] [2] rfl rfl (by decide) (by decide) hk1 hFc hP1 hD1
              generalize H1 = H at hP hS ⊢
              have hP := hP.sub (ws' := (wd_b9c2d44b h0 v0 h1 v1 x48 x49 v3 r0 r1 r2 r3 r4 r5 r6 v4 v5 r7 r8 r9 h2 v6 r10 r11 v7 v8 r12 r13 v9 v10 r14 v11 v12 r15 v13 w14 r16 v15 v16 r17 r18 r19 r20 r21 r22 v17 r23 r24 r25 v18 h1 g0 f19 h2 g1 fn25)) [1, 2, 0] rfl
              have hD := hD.sub (ws' := (wd_b9c2d44b h0 v0 h1 v1 x48 x49 v3 r0 r1 r2 r3 r4 r5 r6 v4 v5 r7 r8 r9 h2 v6 r10 r11 v7 v8 r12 r13 v9 v10 r14 v11 v12 r15 v13 w14 r16 v15 v16 r17 r18 r19 r20 r21 r22 v17 r23 r24 r25 v18 h1 g0 f19 h2 g1 fn25)) [1, 2, 0] (by decide) rfl
              have hP : va_P (dC, dI) vwCl (wd_b9c2d44b h0 v0 h1 v1 x48 x49 v3 r0 r1 r2 r3 r4 r5 r6 v4 v5 r7 r8 r9 h2 v6 r10 r11 v7 v8 r12 r13 v9 v10 r14 v11 v12 r15 v13 w14 r16 v15 v16 r17 r18 r19 r20 r21 r22 v17 r23 r24 r25 v18 h1 g0 f19 h2 g1 fn25) H := hP
              have hD : va_D A (wd_b9c2d44b h0 v0 h1 v1 x48 x49 v3 r0 r1 r2 r3 r4 r5 r6 v4 v5 r7 r8 r9 h2 v6 r10 r11 v7 v8 r12 r13 v9 v10 r14 v11 v12 r15 v13 w14 r16 v15 v16 r17 r18 r19 r20 r21 r22 v17 r23 r24 r25 v18 h1 g0 f19 h2 g1 fn25) := hD
              refine va_iast hx hb hK hP hD hS 2 1 rfl rfl (vp_in_iff.mpr ⟨by omega, by omega⟩) dX12_items_105 (fun H locs hP hD hS => ?_)
              obtain ⟨fn50, efn50⟩ : ∃ g : Nat → Int32, g = upd fn25 (Int32.toNatClampNeg t37) ra40 := ⟨_, rfl⟩
              rw [← efn50] at hP hD
              have hP : va_P (dC, dI) vwCl (wd_b9c2d44b h0 v0 h1 v1 x48 x49 v3 r0 r1 r2 r3 r4 r5 r6 v4 v5 r7 r8 r9 h2 v6 r10 r11 v7 v8 r12 r13 v9 v10 r14 v11 v12 r15 v13 w14 r16 v15 v16 r17 r18 r19 r20 r21 r22 v17 r23 r24 r25 v18 h1 g0 f19 h2 g1 fn50) H := hP
              have hD : va_D A (wd_b9c2d44b h0 v0 h1 v1 x48 x49 v3 r0 r1 r2 r3 r4 r5 r6 v4 v5 r7 r8 r9 h2 v6 r10 r11 v7 v8 r12 r13 v9 v10 r14 v11 v12 r15 v13 w14 r16 v15 v16 r17 r18 r19 r20 r21 r22 v17 r23 r24 r25 v18 h1 g0 f19 h2 g1 fn50) := hD
              refine lv_aload_n hx hb dX12_items_106 rfl (lv_at hl 2 rfl) ?_
              refine va_get (D := (dC, dI)) (ci := 12) (v := .int x49) (C := RX12) (T := TX12) (N := 48) hx hb hts (fun _ h => List.mem_cons_of_mem _ (List.mem_append_right _ h)) hown hK hP 0 rfl rfl 4 (by decide) (hts (.fieldLink RX12 119 "LeftArgumentsModel" "wrong" "I") (List.mem_cons_of_mem _ (List.mem_append_left _ (List.mem_of_getElem? (i := 18) rfl)))) (fun _ h9 => h9) rfl dX12_items_107 ?_
              refine lv_iconst (v := (-1)) hx hb dX12_items_110 (by decide) ?_
              refine lv_icmp_ne (tgt := 125) hx hb dX12_items_111 (by decide) (fun _ => ?_) (fun c51 => by exfalso; have fc51 : x49.toInt = (-1) := congrArg Int32.toInt c51; omega)
              refine lv_iconst (v := (-1)) hx hb dX12_items_125 (by decide) ?_
              refine lv_istore (lv' := [(6, .int (-1)), (5, .int t35), (0, .ref h0), (1, .int 98), (2, .ref h2), (3, .int 0), (4, .int 5)]) hx hb dX12_items_126 hl (by decide) rfl (fun ls hl => ?_)
              refine lv_goto (tgt := 41) hx hb dX12_items_128 (by decide) ?_
              refine lv_aload_n hx hb dX12_items_41 rfl (lv_at hl 2 rfl) ?_
              refine va_get (D := (dC, dI)) (ci := 12) (v := .int x49) (C := RX12) (T := TX12) (N := 48) hx hb hts (fun _ h => List.mem_cons_of_mem _ (List.mem_append_right _ h)) hown hK hP 0 rfl rfl 4 (by decide) (hts (.fieldLink RX12 119 "LeftArgumentsModel" "wrong" "I") (List.mem_cons_of_mem _ (List.mem_append_left _ (List.mem_of_getElem? (i := 18) rfl)))) (fun _ h9 => h9) rfl dX12_items_42 ?_
              refine lv_iconst (v := (-1)) hx hb dX12_items_45 (by decide) ?_
              refine lv_icmp_ne (tgt := 131) hx hb dX12_items_46 (by decide) (fun _ => ?_) (fun c52 => by exfalso; have fc52 : x49.toInt = (-1) := congrArg Int32.toInt c52; omega)
              subst hQ
              have hP9 := hP.sub (ws' := (wd_b9c2d44b h0 v0 h1 v1 x48 x49 v3 r0 r1 r2 r3 r4 r5 r6 v4 v5 r7 r8 r9 h2 v6 r10 r11 v7 v8 r12 r13 v9 v10 r14 v11 v12 r15 v13 w14 r16 v15 v16 r17 r18 r19 r20 r21 r22 v17 r23 r24 r25 v18 h1 g0 f19 h2 g1 fn50)) [0, 1, 2] rfl
              have hD9 := hD.sub (ws' := (wd_b9c2d44b h0 v0 h1 v1 x48 x49 v3 r0 r1 r2 r3 r4 r5 r6 v4 v5 r7 r8 r9 h2 v6 r10 r11 v7 v8 r12 r13 v9 v10 r14 v11 v12 r15 v13 w14 r16 v15 v16 r17 r18 r19 r20 r21 r22 v17 r23 r24 r25 v18 h1 g0 f19 h2 g1 fn50)) [0, 1, 2] (by decide) rfl
              have hK9 := hK.sub (tys' := []) [] rfl
              exact W.vret hx hb hr (fun t ht hW => ⟨⟨(), rfl, trivial, Or.inr (⟨x48, x49, fn50, by first | omega | decide, by first | omega | decide, by first | omega | decide, by first | omega | decide, by omega, by first | assumption | (apply pg_I.fail <;> first | assumption | omega | (show _ = pm_los _; assumption) | (show _ = pm_his _; assumption) | (show _ = pm_lob _; assumption) | (show _ = pm_hib _; assumption)), by rw [ht]; exact hP9, va_K.moved hW.alike hK9, hD9⟩)⟩, hS.F ht⟩) hS.2.2 dX12_items_131
    exact hL30 _ ra21 0 x20 fn15 H locs ls (by first | omega | decide) (by first | omega | decide) (by first | omega | decide) (by first | omega | decide) (by first | assumption | (apply pm_bb.step <;> first | assumption | omega) | (apply pm_bb.init <;> first | assumption | omega | decide)) (by omega) (by omega) (by first | assumption | (apply pg_I.ini <;> first | assumption | omega | (apply pg_ur.mk <;> first | assumption | decide) | (apply pg_us.mk <;> first | assumption | omega | decide)) | (apply pg_I.next <;> first | assumption | omega | (show _ = pm_los _; assumption) | (show _ = pm_his _; assumption) | (show _ = pm_lob _; assumption) | (show _ = pm_hib _; assumption))) (by assumption) (by assumption) (Nat.lt_succ_self _) hP hD hS (lv_sub hl [0, 1, 2, 3, 4, 5, 6] rfl)
def q_X12_items_1 : List Cond := .code yX12_items cX12_items 7 none :: (([.code yX12_usual cX12_usual 2 (some .int), .initialized RX12, .static yX12_usual, .methodLink RX12 221 yX12_usual, .code yX12_look cX12_look 1 (some .int), .code yX12_here cX12_here 1 (some .int), .fieldLink RX12 112 "LeftArgumentsModel" "at" "I", .fieldLink RX12 109 "LeftArgumentsModel" "size" "I", .fieldLink RX12 9 "LeftArgumentsModel" "tape" "[I", .instanceMethod yX12_here, .selects RX12 yX12_here yX12_here, .methodLink RX12 115 yX12_here, .instanceMethod yX12_look, .selects RX12 yX12_look yX12_look, .methodLink RX12 131 yX12_look, .code yX12_itemOf cX12_itemOf 2 (some .int), .static yX12_itemOf, .methodLink RX12 225 yX12_itemOf, .fieldLink RX12 119 "LeftArgumentsModel" "wrong" "I", .code yX12_has cX12_has 2 (some .boolean), .static yX12_has, .methodLink RX12 228 yX12_has, .code yX12_lowest cX12_lowest 2 (some .int), .static yX12_lowest, .methodLink RX12 232 yX12_lowest, .code yX12_highest cX12_highest 2 (some .int), .static yX12_highest, .methodLink RX12 235 yX12_highest, .code yX12_number cX12_number 4 (some .int), .code yX12_isDigit cX12_isDigit 1 (some .boolean), .static yX12_isDigit, .methodLink RX12 134 yX12_isDigit, .code yX12_bad cX12_bad 1 none, .instanceMethod yX12_bad, .selects RX12 yX12_bad yX12_bad, .methodLink RX12 128 yX12_bad, .code yX12_in cX12_in 3 (some .boolean), .static yX12_in, .methodLink RX12 217 yX12_in, .instanceMethod yX12_number, .selects RX12 yX12_number yX12_number, .methodLink RX12 238 yX12_number] : List Cond) ++ wsX120)
set_option maxRecDepth 20000 in
theorem g_X12_items_1_0 : GoodIn q_X12_items_1 (va_wsS RX12 221 yX12_usual q_X12_usual) := goodIn_app (goodIn_r _ [4, 3, 2] rfl (by decide +kernel)) (goodIn_r (.code yX12_usual cX12_usual 2 (some .int) :: []) [1] rfl (by decide +kernel))
set_option maxRecDepth 20000 in
theorem g_X12_items_1_1 : GoodIn q_X12_items_1 (va_wsS RX12 221 yX12_usual q_X12_usual_1) := goodIn_app (goodIn_r _ [4, 3, 2] rfl (by decide +kernel)) (goodIn_r (.code yX12_usual cX12_usual 2 (some .int) :: []) [1] rfl (by decide +kernel))
set_option maxRecDepth 20000 in
theorem g_X12_items_1_2 : GoodIn q_X12_items_1 (va_wsS RX12 221 yX12_usual q_X12_usual_2) := goodIn_app (goodIn_r _ [4, 3, 2] rfl (by decide +kernel)) (goodIn_r (.code yX12_usual cX12_usual 2 (some .int) :: []) [1] rfl (by decide +kernel))
set_option maxRecDepth 20000 in
theorem g_X12_items_1_3 : GoodIn q_X12_items_1 (va_wsS RX12 221 yX12_usual q_X12_usual_3) := goodIn_app (goodIn_r _ [4, 3, 2] rfl (by decide +kernel)) (goodIn_r (.code yX12_usual cX12_usual 2 (some .int) :: []) [1] rfl (by decide +kernel))
set_option maxRecDepth 20000 in
theorem g_X12_items_1_4 : GoodIn q_X12_items_1 (wsV RX12 131 RX12 yX12_look q_X12_look) := goodIn_app (goodIn_r _ [15, 13, 14, 2] rfl (by decide +kernel)) (goodIn_ca (goodIn_r (.code yX12_look cX12_look 1 (some .int) :: [.code yX12_here cX12_here 1 (some .int), .fieldLink RX12 112 "LeftArgumentsModel" "at" "I", .fieldLink RX12 109 "LeftArgumentsModel" "size" "I", .fieldLink RX12 9 "LeftArgumentsModel" "tape" "[I", .initialized RX12, .instanceMethod yX12_here, .selects RX12 yX12_here yX12_here, .methodLink RX12 115 yX12_here]) [5, 6, 7, 8, 9, 2, 10, 11, 12] rfl (by decide +kernel)) (goodIn_sub (fun _ h => List.mem_cons_of_mem _ (List.mem_append_right _ h)) gwX12))
set_option maxRecDepth 20000 in
theorem g_X12_items_1_5 : GoodIn q_X12_items_1 (va_wsS RX12 225 yX12_itemOf q_X12_itemOf_1) := goodIn_app (goodIn_r _ [18, 17, 2] rfl (by decide +kernel)) (goodIn_r (.code yX12_itemOf cX12_itemOf 2 (some .int) :: []) [16] rfl (by decide +kernel))
set_option maxRecDepth 20000 in
theorem g_X12_items_1_7 : GoodIn q_X12_items_1 (va_wsS RX12 228 yX12_has q_X12_has) := goodIn_app (goodIn_r _ [22, 21, 2] rfl (by decide +kernel)) (goodIn_r (.code yX12_has cX12_has 2 (some .boolean) :: []) [20] rfl (by decide +kernel))
set_option maxRecDepth 20000 in
theorem g_X12_items_1_8 : GoodIn q_X12_items_1 (va_wsS RX12 232 yX12_lowest q_X12_lowest_1) := goodIn_app (goodIn_r _ [25, 24, 2] rfl (by decide +kernel)) (goodIn_r (.code yX12_lowest cX12_lowest 2 (some .int) :: []) [23] rfl (by decide +kernel))
set_option maxRecDepth 20000 in
theorem g_X12_items_1_9 : GoodIn q_X12_items_1 (va_wsS RX12 235 yX12_highest q_X12_highest_1) := goodIn_app (goodIn_r _ [28, 27, 2] rfl (by decide +kernel)) (goodIn_r (.code yX12_highest cX12_highest 2 (some .int) :: []) [26] rfl (by decide +kernel))
set_option maxRecDepth 20000 in
theorem g_X12_items_1_10 : GoodIn q_X12_items_1 (wsV RX12 238 RX12 yX12_number q_X12_number) := goodIn_app (goodIn_r _ [42, 40, 41, 2] rfl (by decide +kernel)) (goodIn_ca (goodIn_r (.code yX12_number cX12_number 4 (some .int) :: [.code yX12_look cX12_look 1 (some .int), .code yX12_here cX12_here 1 (some .int), .fieldLink RX12 112 "LeftArgumentsModel" "at" "I", .fieldLink RX12 109 "LeftArgumentsModel" "size" "I", .fieldLink RX12 9 "LeftArgumentsModel" "tape" "[I", .initialized RX12, .instanceMethod yX12_here, .selects RX12 yX12_here yX12_here, .methodLink RX12 115 yX12_here, .instanceMethod yX12_look, .selects RX12 yX12_look yX12_look, .methodLink RX12 131 yX12_look, .code yX12_isDigit cX12_isDigit 1 (some .boolean), .static yX12_isDigit, .methodLink RX12 134 yX12_isDigit, .code yX12_bad cX12_bad 1 none, .fieldLink RX12 119 "LeftArgumentsModel" "wrong" "I", .instanceMethod yX12_bad, .selects RX12 yX12_bad yX12_bad, .methodLink RX12 128 yX12_bad, .code yX12_in cX12_in 3 (some .boolean), .static yX12_in, .methodLink RX12 217 yX12_in]) [29, 5, 6, 7, 8, 9, 2, 10, 11, 12, 13, 14, 15, 30, 31, 32, 33, 19, 34, 35, 36, 37, 38, 39] rfl (by decide +kernel)) (goodIn_sub (fun _ h => List.mem_cons_of_mem _ (List.mem_append_right _ h)) gwX12))
set_option maxHeartbeats 4000000 in
set_option maxRecDepth 100000 in
theorem k_X12_items_1 (l : Launch) (dC : Nat → ClassId) (dI : Nat → Nat → Nat) (h0 : Nat) (h1 : Nat) (h2 : Nat) (v0 : Int32) (v1 : Int32) (v2 : Int32) (v3 : Int32) (r0 : Nat) (r1 : Nat) (r2 : Nat) (r3 : Nat) (r4 : Nat) (r5 : Nat) (r6 : Nat) (v4 : Int32) (v5 : Int32) (r7 : Nat) (r8 : Nat) (r9 : Nat) (v6 : Int32) (r10 : Nat) (r11 : Nat) (v7 : Int32) (v8 : Int32) (r12 : Nat) (r13 : Nat) (v9 : Int32) (v10 : Int32) (r14 : Nat) (v11 : Int32) (v12 : Int32) (r15 : Nat) (v13 : Int32) (w14 : Int64) (r16 : Nat) (v15 : Int32) (v16 : Int32) (r17 : Nat) (r18 : Nat) (r19 : Nat) (r20 : Nat) (r21 : Nat) (r22 : Nat) (v17 : Int32) (r23 : Nat) (r24 : Nat) (r25 : Nat) (v18 : Int32) (g0 : ClassId) (f19 : Nat → Int32) (g1 : ClassId) (f20 : Nat → Int32) (i_v1 : 0 ≤ v1.toInt ∧ v1.toInt ≤ 240) (i_v2 : 0 ≤ v2.toInt ∧ v2.toInt ≤ 240) (i_v4 : 0 ≤ v4.toInt ∧ v4.toInt ≤ 4) (i_v5 : 0 ≤ v5.toInt ∧ v5.toInt ≤ 4) (i_v6 : 0 ≤ v6.toInt ∧ v6.toInt ≤ 8) (i_v7 : 0 ≤ v7.toInt ∧ v7.toInt ≤ 8) (i_v8 : 0 ≤ v8.toInt ∧ v8.toInt ≤ 1) (i_v9 : -1 ≤ v9.toInt ∧ v9.toInt ≤ 3) (i_v13 : 0 ≤ v13.toInt ∧ v13.toInt ≤ 40) (i_v17 : 0 ≤ v17.toInt ∧ v17.toInt ≤ 10) (i_v18 : 0 ≤ v18.toInt ∧ v18.toInt ≤ 1) (ia_f19 : (∀ j, 0 ≤ (f19 j).toInt ∧ (f19 j).toInt ≤ 255)) (sz : Nat) : Met l yX12_items q_X12_items_1 ({ frames := 3, cells := 0, slots := 0, locals := 63 }) (va_Pc [.ref h0, .int 115, .ref h2, .int 0, .int 4] (fun U => U.heap.size = sz ∧ va_P (dC, dI) vwCl (wd_490cd7da h0 v0 h1 v1 v2 (-1) v3 r0 r1 r2 r3 r4 r5 r6 v4 v5 r7 r8 h2 r9 v6 r10 r11 v7 v8 r12 r13 v9 v10 r14 v11 v12 r15 v13 w14 r16 v15 v16 r17 r18 r19 r20 r21 r22 v17 r23 r24 r25 v18 h1 g0 f19 h2 g1 f20) U.heap ∧ va_K (dC, dI) vwCl [(g0, .int), (g1, .int)] U ∧ va_D (fun _ => True) (wd_490cd7da h0 v0 h1 v1 v2 (-1) v3 r0 r1 r2 r3 r4 r5 r6 v4 v5 r7 r8 h2 r9 v6 r10 r11 v7 v8 r12 r13 v9 v10 r14 v11 v12 r15 v13 w14 r16 v15 v16 r17 r18 r19 r20 r21 r22 v17 r23 r24 r25 v18 h1 g0 f19 h2 g1 f20))) (va_Qv (fun (_ : Unit) => True) (fun (_ : Unit) (t : State) => (∃ (o_h0_3 : Int32) (o_h2 : Nat → Int32), 0 ≤ o_h0_3.toInt ∧ o_h0_3.toInt ≤ 240 ∧ (v2.toInt ≤ o_h0_3.toInt) ∧ (pm_RR o_h2) ∧ (pg_items f19 v1.toInt true 0 300 v2.toInt 0 (pg_ur f20) = ((true, o_h0_3.toInt), o_h2)) ∧ va_P (dC, dI) vwCl (wd_490cd7da h0 v0 h1 v1 o_h0_3 (-1) v3 r0 r1 r2 r3 r4 r5 r6 v4 v5 r7 r8 h2 r9 v6 r10 r11 v7 v8 r12 r13 v9 v10 r14 v11 v12 r15 v13 w14 r16 v15 v16 r17 r18 r19 r20 r21 r22 v17 r23 r24 r25 v18 h1 g0 f19 h2 g1 o_h2) t.heap ∧ va_K (dC, dI) vwCl [] t ∧ va_D (va_A (wd_490cd7da h0 v0 h1 v1 v2 (-1) v3 r0 r1 r2 r3 r4 r5 r6 v4 v5 r7 r8 h2 r9 v6 r10 r11 v7 v8 r12 r13 v9 v10 r14 v11 v12 r15 v13 w14 r16 v15 v16 r17 r18 r19 r20 r21 r22 v17 r23 r24 r25 v18 h1 g0 f19 h2 g1 f20) sz) (wd_490cd7da h0 v0 h1 v1 o_h0_3 (-1) v3 r0 r1 r2 r3 r4 r5 r6 v4 v5 r7 r8 h2 r9 v6 r10 r11 v7 v8 r12 r13 v9 v10 r14 v11 v12 r15 v13 w14 r16 v15 v16 r17 r18 r19 r20 r21 r22 v17 r23 r24 r25 v18 h1 g0 f19 h2 g1 o_h2)) ∨ (∃ (o_h0_3 : Int32) (o_h0_4 : Int32) (o_h2 : Nat → Int32), 0 ≤ o_h0_3.toInt ∧ o_h0_3.toInt ≤ 240 ∧ 0 ≤ o_h0_4.toInt ∧ o_h0_4.toInt ≤ 240 ∧ (v2.toInt ≤ o_h0_3.toInt) ∧ ((pg_items f19 v1.toInt true 0 300 v2.toInt 0 (pg_ur f20)).1 = (false, o_h0_4.toInt)) ∧ va_P (dC, dI) vwCl (wd_490cd7da h0 v0 h1 v1 o_h0_3 o_h0_4 v3 r0 r1 r2 r3 r4 r5 r6 v4 v5 r7 r8 h2 r9 v6 r10 r11 v7 v8 r12 r13 v9 v10 r14 v11 v12 r15 v13 w14 r16 v15 v16 r17 r18 r19 r20 r21 r22 v17 r23 r24 r25 v18 h1 g0 f19 h2 g1 o_h2) t.heap ∧ va_K (dC, dI) vwCl [] t ∧ va_D (va_A (wd_490cd7da h0 v0 h1 v1 v2 (-1) v3 r0 r1 r2 r3 r4 r5 r6 v4 v5 r7 r8 h2 r9 v6 r10 r11 v7 v8 r12 r13 v9 v10 r14 v11 v12 r15 v13 w14 r16 v15 v16 r17 r18 r19 r20 r21 r22 v17 r23 r24 r25 v18 h1 g0 f19 h2 g1 f20) sz) (wd_490cd7da h0 v0 h1 v1 o_h0_3 o_h0_4 v3 r0 r1 r2 r3 r4 r5 r6 v4 v5 r7 r8 h2 r9 v6 r10 r11 v7 v8 r12 r13 v9 v10 r14 v11 v12 r15 v13 w14 r16 v15 v16 r17 r18 r19 r20 r21 r22 v17 r23 r24 r25 v18 h1 g0 f19 h2 g1 o_h2))) (va_A (wd_490cd7da h0 v0 h1 v1 v2 (-1) v3 r0 r1 r2 r3 r4 r5 r6 v4 v5 r7 r8 h2 r9 v6 r10 r11 v7 v8 r12 r13 v9 v10 r14 v11 v12 r15 v13 w14 r16 v15 v16 r17 r18 r19 r20 r21 r22 v17 r23 r24 r25 v18 h1 g0 f19 h2 g1 f20) sz)) 0 0 (va_A (wd_490cd7da h0 v0 h1 v1 v2 (-1) v3 r0 r1 r2 r3 r4 r5 r6 v4 v5 r7 r8 h2 r9 v6 r10 r11 v7 v8 r12 r13 v9 v10 r14 v11 v12 r15 v13 w14 r16 v15 v16 r17 r18 r19 r20 r21 r22 v17 r23 r24 r25 v18 h1 g0 f19 h2 g1 f20) sz) := by
  refine Met.ofW (cc := cX12_items) (maxL := 7) (ret := none) (by decide) rfl ?_
  intro p e s m args below meth c s₁ B hml hv
  obtain ⟨i_v1a, i_v1b⟩ := i_v1
  obtain ⟨i_v2a, i_v2b⟩ := i_v2
  obtain ⟨i_v4a, i_v4b⟩ := i_v4
  obtain ⟨i_v5a, i_v5b⟩ := i_v5
  obtain ⟨i_v6a, i_v6b⟩ := i_v6
  obtain ⟨i_v7a, i_v7b⟩ := i_v7
  obtain ⟨i_v8a, i_v8b⟩ := i_v8
  obtain ⟨i_v9a, i_v9b⟩ := i_v9
  obtain ⟨i_v13a, i_v13b⟩ := i_v13
  obtain ⟨i_v17a, i_v17b⟩ := i_v17
  obtain ⟨i_v18a, i_v18b⟩ := i_v18
  obtain ⟨rfl, hsz, hP, hK, hD0⟩ := hv
  have hx := B.exec
  have hb := B.bytes
  have hr := B.returns
  have hts := atoms_spec (ws := q_X12_items_1) B.pre
  have hown : s.vm.findClass RX12 = some m.cls := findClass_of_methodNamed B.named
  have hlocks := B.notSynchronized
  subst hsz
  have hD := hD0.self (sz := s.heap.size)
  generalize hAe : va_A (wd_490cd7da h0 v0 h1 v1 v2 (-1) v3 r0 r1 r2 r3 r4 r5 r6 v4 v5 r7 r8 h2 r9 v6 r10 r11 v7 v8 r12 r13 v9 v10 r14 v11 v12 r15 v13 w14 r16 v15 v16 r17 r18 r19 r20 r21 r22 v17 r23 r24 r25 v18 h1 g0 f19 h2 g1 f20) s.heap.size = A at hD ⊢
  have hA : ∀ q : Nat, s.heap.size ≤ q → A q := fun q h => by rw [← hAe]; exact Or.inr h
  have hS : va_S A s.heap s.heap [] := va_S.rf
  generalize hQ : (MQ below _ _ s 0 0 A) = Q
  have hl := lv_entry ([.ref h0, .int 115, .ref h2, .int 0, .int 4]) (n := 7) (Nat.le_of_ble_eq_true rfl)
  rw [lg_entry_eq]
  generalize (lg_sl ([.ref h0, .int 115, .ref h2, .int 0, .int 4]) ++ List.replicate (7 - (lg_sl ([.ref h0, .int 115, .ref h2, .int 0, .int 4])).length) Slot.unset).toArray = ls at hl ⊢
  have hl : lv_has ls 7 [(0, .ref h0), (1, .int 115), (2, .ref h2), (3, .int 0), (4, .int 4)] := hl
  obtain ⟨H, hH⟩ : ∃ H : Heap, H = s.heap := ⟨_, rfl⟩
  obtain ⟨locs, hlocs⟩ : ∃ y : List Loc, y = [] := ⟨_, rfl⟩
  have hS : va_S A s.heap H locs := by rw [hH, hlocs]; exact va_S.rf
  have hP : va_P (dC, dI) vwCl (wd_490cd7da h0 v0 h1 v1 v2 (-1) v3 r0 r1 r2 r3 r4 r5 r6 v4 v5 r7 r8 h2 r9 v6 r10 r11 v7 v8 r12 r13 v9 v10 r14 v11 v12 r15 v13 w14 r16 v15 v16 r17 r18 r19 r20 r21 r22 v17 r23 r24 r25 v18 h1 g0 f19 h2 g1 f20) H := by rw [hH]; exact hP
  rw [← hH, ← hlocs]
  refine lv_iconst (v := 0) hx hb dX12_items_0 (by decide) ?_
  refine lv_istore (lv' := [(5, .int 0), (0, .ref h0), (1, .int 115), (2, .ref h2), (3, .int 0), (4, .int 4)]) hx hb dX12_items_1 hl (by decide) rfl (fun ls hl => ?_)
  refine lv_iload hx hb dX12_items_3 (lv_at hl 0 rfl) ?_
  refine lv_iload hx hb dX12_items_5 (lv_at hl 5 rfl) ?_
  refine lv_icmp_ge (tgt := 28) hx hb dX12_items_7 (by decide) (fun c => absurd c (by decide)) (fun _ => ?_)
  refine lv_aload_n hx hb dX12_items_10 rfl (lv_at hl 3 rfl) ?_
  refine lv_iload_n hx hb dX12_items_11 rfl (lv_at hl 4 rfl) ?_
  refine lv_iload hx hb dX12_items_12 (lv_at hl 0 rfl) ?_
  refine lv_iadd hx hb dX12_items_14 ?_
  refine lv_topi (fun tv1 etv1 => ?_)
  obtain rfl : tv1 = (0 : Int32) := etv1.trans (by first | rfl | decide)
  refine lv_iload_n hx hb dX12_items_15 rfl (lv_at hl 2 rfl) ?_
  refine lv_iload hx hb dX12_items_16 (lv_at hl 0 rfl) ?_
  have hPc := hP.sub (ws' := []) [] rfl
  have hDc := hD.sub (ws' := []) [] (by decide) rfl
  have hKc := hK.sub (tys' := []) [] rfl
  have hFc := va_free (wc := []) hD hS hA [] rfl
  refine va_calli (va_runS (As := [.int 115, .int 0]) (rest := [.int 0, .ref h2]) ⟨hx, hb, hml, hown, hts⟩ (k_X12_usual l dC dI   H.size) (va_cwS 2 hts g_X12_items_1_0 rfl rfl rfl (by decide +kernel) ⟨Nat.le_of_ble_eq_true rfl, Nat.le_of_ble_eq_true rfl⟩) ⟨fun a U g mk q => by obtain ⟨q0, q1, qP, qK, qD⟩ := q; exact ⟨q0, q1, qP, va_K.moved (u := U) (U := U.calling g mk a) (Vm.Alike.refl U.vm) qK, qD⟩, fun U hU hW => ⟨rfl, by rw [hU], by rw [hU]; exact hPc, va_K.moved hW.alike hKc, hDc.weaken (fun _ _ _ _ => trivial)⟩⟩ rfl rfl hl.1 rfl (lv_room (Nat.le_of_ble_eq_true rfl)) dX12_items_18 ⟨Nat.le_of_ble_eq_true rfl, Nat.le_of_ble_eq_true rfl⟩) hS (fun q _ h => hFc q h) hFc (fun ra2 u t H1 locs ht hvm hwra2 hB hz1 hk1 hS => ?_)
  try rw [hwra2] at hB
  obtain ⟨pt0_ra2, pt1_ra2, hP1, hK1, hD1⟩ := hB
  rw [ht] at hP1
  obtain ⟨hP, hD⟩ := va_join (wr := (wd_490cd7da h0 v0 h1 v1 v2 (-1) v3 r0 r1 r2 r3 r4 r5 r6 v4 v5 r7 r8 h2 r9 v6 r10 r11 v7 v8 r12 r13 v9 v10 r14 v11 v12 r15 v13 w14 r16 v15 v16 r17 r18 r19 r20 r21 r22 v17 r23 r24 r25 v18 h1 g0 f19 h2 g1 f20)) (w1 := []) hP hD [] [0, 1, 2] rfl rfl (by decide) (by decide) hk1 hFc hP1 hD1
  generalize H1 = H at hP hS ⊢
  have hP : va_P (dC, dI) vwCl (wd_490cd7da h0 v0 h1 v1 v2 (-1) v3 r0 r1 r2 r3 r4 r5 r6 v4 v5 r7 r8 h2 r9 v6 r10 r11 v7 v8 r12 r13 v9 v10 r14 v11 v12 r15 v13 w14 r16 v15 v16 r17 r18 r19 r20 r21 r22 v17 r23 r24 r25 v18 h1 g0 f19 h2 g1 f20) H := hP
  have hD : va_D A (wd_490cd7da h0 v0 h1 v1 v2 (-1) v3 r0 r1 r2 r3 r4 r5 r6 v4 v5 r7 r8 h2 r9 v6 r10 r11 v7 v8 r12 r13 v9 v10 r14 v11 v12 r15 v13 w14 r16 v15 v16 r17 r18 r19 r20 r21 r22 v17 r23 r24 r25 v18 h1 g0 f19 h2 g1 f20) := hD
  obtain rfl : ra2 = (20 : Int32) := Int32.toInt_inj.mp (by rw [show ((20 : Int32)).toInt = 20 by decide]; omega)
  refine va_iast hx hb hK hP hD hS 2 1 rfl rfl (pv_c (x := 0) (n := 4) (by decide)) dX12_items_21 (fun H locs hP hD hS => ?_)
  obtain ⟨fn3, efn3⟩ : ∃ g : Nat → Int32, g = upd f20 (Int32.toNatClampNeg 0) 20 := ⟨_, rfl⟩
  rw [← efn3] at hP hD
  have hP : va_P (dC, dI) vwCl (wd_490cd7da h0 v0 h1 v1 v2 (-1) v3 r0 r1 r2 r3 r4 r5 r6 v4 v5 r7 r8 h2 r9 v6 r10 r11 v7 v8 r12 r13 v9 v10 r14 v11 v12 r15 v13 w14 r16 v15 v16 r17 r18 r19 r20 r21 r22 v17 r23 r24 r25 v18 h1 g0 f19 h2 g1 fn3) H := hP
  have hD : va_D A (wd_490cd7da h0 v0 h1 v1 v2 (-1) v3 r0 r1 r2 r3 r4 r5 r6 v4 v5 r7 r8 h2 r9 v6 r10 r11 v7 v8 r12 r13 v9 v10 r14 v11 v12 r15 v13 w14 r16 v15 v16 r17 r18 r19 r20 r21 r22 v17 r23 r24 r25 v18 h1 g0 f19 h2 g1 fn3) := hD
  refine lv_iinc (v := 1) (lv' := [(5, .int 1), (0, .ref h0), (1, .int 115), (2, .ref h2), (3, .int 0), (4, .int 4)]) hx hb dX12_items_22 hl (k := 0) rfl (by decide) (by decide) rfl (fun ls hl => ?_)
  refine lv_goto (tgt := 3) hx hb dX12_items_25 (by decide) ?_
  refine lv_iload hx hb dX12_items_3 (lv_at hl 0 rfl) ?_
  refine lv_iload hx hb dX12_items_5 (lv_at hl 5 rfl) ?_
  refine lv_icmp_ge (tgt := 28) hx hb dX12_items_7 (by decide) (fun c => absurd c (by decide)) (fun _ => ?_)
  refine lv_aload_n hx hb dX12_items_10 rfl (lv_at hl 3 rfl) ?_
  refine lv_iload_n hx hb dX12_items_11 rfl (lv_at hl 4 rfl) ?_
  refine lv_iload hx hb dX12_items_12 (lv_at hl 0 rfl) ?_
  refine lv_iadd hx hb dX12_items_14 ?_
  refine lv_topi (fun tv4 etv4 => ?_)
  obtain rfl : tv4 = (1 : Int32) := etv4.trans (by first | rfl | decide)
  refine lv_iload_n hx hb dX12_items_15 rfl (lv_at hl 2 rfl) ?_
  refine lv_iload hx hb dX12_items_16 (lv_at hl 0 rfl) ?_
  have hPc := hP.sub (ws' := []) [] rfl
  have hDc := hD.sub (ws' := []) [] (by decide) rfl
  have hKc := hK.sub (tys' := []) [] rfl
  have hFc := va_free (wc := []) hD hS hA [] rfl
  refine va_calli (va_runS (As := [.int 115, .int 1]) (rest := [.int 1, .ref h2]) ⟨hx, hb, hml, hown, hts⟩ (k_X12_usual_1 l dC dI   H.size) (va_cwS 2 hts g_X12_items_1_1 rfl rfl rfl (by decide +kernel) ⟨Nat.le_of_ble_eq_true rfl, Nat.le_of_ble_eq_true rfl⟩) ⟨fun a U g mk q => by obtain ⟨q0, q1, qP, qK, qD⟩ := q; exact ⟨q0, q1, qP, va_K.moved (u := U) (U := U.calling g mk a) (Vm.Alike.refl U.vm) qK, qD⟩, fun U hU hW => ⟨rfl, by rw [hU], by rw [hU]; exact hPc, va_K.moved hW.alike hKc, hDc.weaken (fun _ _ _ _ => trivial)⟩⟩ rfl rfl hl.1 rfl (lv_room (Nat.le_of_ble_eq_true rfl)) dX12_items_18 ⟨Nat.le_of_ble_eq_true rfl, Nat.le_of_ble_eq_true rfl⟩) hS (fun q _ h => hFc q h) hFc (fun ra5 u t H1 locs ht hvm hwra5 hB hz1 hk1 hS => ?_)
  try rw [hwra5] at hB
  obtain ⟨pt0_ra5, pt1_ra5, hP1, hK1, hD1⟩ := hB
  rw [ht] at hP1
  obtain ⟨hP, hD⟩ := va_join (wr := (wd_490cd7da h0 v0 h1 v1 v2 (-1) v3 r0 r1 r2 r3 r4 r5 r6 v4 v5 r7 r8 h2 r9 v6 r10 r11 v7 v8 r12 r13 v9 v10 r14 v11 v12 r15 v13 w14 r16 v15 v16 r17 r18 r19 r20 r21 r22 v17 r23 r24 r25 v18 h1 g0 f19 h2 g1 fn3)) (w1 := []) hP hD [] [0, 1, 2] rfl rfl (by decide) (by decide) hk1 hFc hP1 hD1
  generalize H1 = H at hP hS ⊢
  have hP : va_P (dC, dI) vwCl (wd_490cd7da h0 v0 h1 v1 v2 (-1) v3 r0 r1 r2 r3 r4 r5 r6 v4 v5 r7 r8 h2 r9 v6 r10 r11 v7 v8 r12 r13 v9 v10 r14 v11 v12 r15 v13 w14 r16 v15 v16 r17 r18 r19 r20 r21 r22 v17 r23 r24 r25 v18 h1 g0 f19 h2 g1 fn3) H := hP
  have hD : va_D A (wd_490cd7da h0 v0 h1 v1 v2 (-1) v3 r0 r1 r2 r3 r4 r5 r6 v4 v5 r7 r8 h2 r9 v6 r10 r11 v7 v8 r12 r13 v9 v10 r14 v11 v12 r15 v13 w14 r16 v15 v16 r17 r18 r19 r20 r21 r22 v17 r23 r24 r25 v18 h1 g0 f19 h2 g1 fn3) := hD
  obtain rfl : ra5 = (3 : Int32) := Int32.toInt_inj.mp (by rw [show ((3 : Int32)).toInt = 3 by decide]; omega)
  refine va_iast hx hb hK hP hD hS 2 1 rfl rfl (pv_c (x := 1) (n := 4) (by decide)) dX12_items_21 (fun H locs hP hD hS => ?_)
  obtain ⟨fn6, efn6⟩ : ∃ g : Nat → Int32, g = upd fn3 (Int32.toNatClampNeg 1) 3 := ⟨_, rfl⟩
  rw [← efn6] at hP hD
  have hP : va_P (dC, dI) vwCl (wd_490cd7da h0 v0 h1 v1 v2 (-1) v3 r0 r1 r2 r3 r4 r5 r6 v4 v5 r7 r8 h2 r9 v6 r10 r11 v7 v8 r12 r13 v9 v10 r14 v11 v12 r15 v13 w14 r16 v15 v16 r17 r18 r19 r20 r21 r22 v17 r23 r24 r25 v18 h1 g0 f19 h2 g1 fn6) H := hP
  have hD : va_D A (wd_490cd7da h0 v0 h1 v1 v2 (-1) v3 r0 r1 r2 r3 r4 r5 r6 v4 v5 r7 r8 h2 r9 v6 r10 r11 v7 v8 r12 r13 v9 v10 r14 v11 v12 r15 v13 w14 r16 v15 v16 r17 r18 r19 r20 r21 r22 v17 r23 r24 r25 v18 h1 g0 f19 h2 g1 fn6) := hD
  refine lv_iinc (v := 2) (lv' := [(5, .int 2), (0, .ref h0), (1, .int 115), (2, .ref h2), (3, .int 0), (4, .int 4)]) hx hb dX12_items_22 hl (k := 0) rfl (by decide) (by decide) rfl (fun ls hl => ?_)
  refine lv_goto (tgt := 3) hx hb dX12_items_25 (by decide) ?_
  refine lv_iload hx hb dX12_items_3 (lv_at hl 0 rfl) ?_
  refine lv_iload hx hb dX12_items_5 (lv_at hl 5 rfl) ?_
  refine lv_icmp_ge (tgt := 28) hx hb dX12_items_7 (by decide) (fun c => absurd c (by decide)) (fun _ => ?_)
  refine lv_aload_n hx hb dX12_items_10 rfl (lv_at hl 3 rfl) ?_
  refine lv_iload_n hx hb dX12_items_11 rfl (lv_at hl 4 rfl) ?_
  refine lv_iload hx hb dX12_items_12 (lv_at hl 0 rfl) ?_
  refine lv_iadd hx hb dX12_items_14 ?_
  refine lv_topi (fun tv7 etv7 => ?_)
  obtain rfl : tv7 = (2 : Int32) := etv7.trans (by first | rfl | decide)
  refine lv_iload_n hx hb dX12_items_15 rfl (lv_at hl 2 rfl) ?_
  refine lv_iload hx hb dX12_items_16 (lv_at hl 0 rfl) ?_
  have hPc := hP.sub (ws' := []) [] rfl
  have hDc := hD.sub (ws' := []) [] (by decide) rfl
  have hKc := hK.sub (tys' := []) [] rfl
  have hFc := va_free (wc := []) hD hS hA [] rfl
  refine va_calli (va_runS (As := [.int 115, .int 2]) (rest := [.int 2, .ref h2]) ⟨hx, hb, hml, hown, hts⟩ (k_X12_usual_2 l dC dI   H.size) (va_cwS 2 hts g_X12_items_1_2 rfl rfl rfl (by decide +kernel) ⟨Nat.le_of_ble_eq_true rfl, Nat.le_of_ble_eq_true rfl⟩) ⟨fun a U g mk q => by obtain ⟨q0, q1, qP, qK, qD⟩ := q; exact ⟨q0, q1, qP, va_K.moved (u := U) (U := U.calling g mk a) (Vm.Alike.refl U.vm) qK, qD⟩, fun U hU hW => ⟨rfl, by rw [hU], by rw [hU]; exact hPc, va_K.moved hW.alike hKc, hDc.weaken (fun _ _ _ _ => trivial)⟩⟩ rfl rfl hl.1 rfl (lv_room (Nat.le_of_ble_eq_true rfl)) dX12_items_18 ⟨Nat.le_of_ble_eq_true rfl, Nat.le_of_ble_eq_true rfl⟩) hS (fun q _ h => hFc q h) hFc (fun ra8 u t H1 locs ht hvm hwra8 hB hz1 hk1 hS => ?_)
  try rw [hwra8] at hB
  obtain ⟨pt0_ra8, pt1_ra8, hP1, hK1, hD1⟩ := hB
  rw [ht] at hP1
  obtain ⟨hP, hD⟩ := va_join (wr := (wd_490cd7da h0 v0 h1 v1 v2 (-1) v3 r0 r1 r2 r3 r4 r5 r6 v4 v5 r7 r8 h2 r9 v6 r10 r11 v7 v8 r12 r13 v9 v10 r14 v11 v12 r15 v13 w14 r16 v15 v16 r17 r18 r19 r20 r21 r22 v17 r23 r24 r25 v18 h1 g0 f19 h2 g1 fn6)) (w1 := []) hP hD [] [0, 1, 2] rfl rfl (by decide) (by decide) hk1 hFc hP1 hD1
  generalize H1 = H at hP hS ⊢
  have hP : va_P (dC, dI) vwCl (wd_490cd7da h0 v0 h1 v1 v2 (-1) v3 r0 r1 r2 r3 r4 r5 r6 v4 v5 r7 r8 h2 r9 v6 r10 r11 v7 v8 r12 r13 v9 v10 r14 v11 v12 r15 v13 w14 r16 v15 v16 r17 r18 r19 r20 r21 r22 v17 r23 r24 r25 v18 h1 g0 f19 h2 g1 fn6) H := hP
  have hD : va_D A (wd_490cd7da h0 v0 h1 v1 v2 (-1) v3 r0 r1 r2 r3 r4 r5 r6 v4 v5 r7 r8 h2 r9 v6 r10 r11 v7 v8 r12 r13 v9 v10 r14 v11 v12 r15 v13 w14 r16 v15 v16 r17 r18 r19 r20 r21 r22 v17 r23 r24 r25 v18 h1 g0 f19 h2 g1 fn6) := hD
  obtain rfl : ra8 = (4 : Int32) := Int32.toInt_inj.mp (by rw [show ((4 : Int32)).toInt = 4 by decide]; omega)
  refine va_iast hx hb hK hP hD hS 2 1 rfl rfl (pv_c (x := 2) (n := 4) (by decide)) dX12_items_21 (fun H locs hP hD hS => ?_)
  obtain ⟨fn9, efn9⟩ : ∃ g : Nat → Int32, g = upd fn6 (Int32.toNatClampNeg 2) 4 := ⟨_, rfl⟩
  rw [← efn9] at hP hD
  have hP : va_P (dC, dI) vwCl (wd_490cd7da h0 v0 h1 v1 v2 (-1) v3 r0 r1 r2 r3 r4 r5 r6 v4 v5 r7 r8 h2 r9 v6 r10 r11 v7 v8 r12 r13 v9 v10 r14 v11 v12 r15 v13 w14 r16 v15 v16 r17 r18 r19 r20 r21 r22 v17 r23 r24 r25 v18 h1 g0 f19 h2 g1 fn9) H := hP
  have hD : va_D A (wd_490cd7da h0 v0 h1 v1 v2 (-1) v3 r0 r1 r2 r3 r4 r5 r6 v4 v5 r7 r8 h2 r9 v6 r10 r11 v7 v8 r12 r13 v9 v10 r14 v11 v12 r15 v13 w14 r16 v15 v16 r17 r18 r19 r20 r21 r22 v17 r23 r24 r25 v18 h1 g0 f19 h2 g1 fn9) := hD
  refine lv_iinc (v := 3) (lv' := [(5, .int 3), (0, .ref h0), (1, .int 115), (2, .ref h2), (3, .int 0), (4, .int 4)]) hx hb dX12_items_22 hl (k := 0) rfl (by decide) (by decide) rfl (fun ls hl => ?_)
  refine lv_goto (tgt := 3) hx hb dX12_items_25 (by decide) ?_
  refine lv_iload hx hb dX12_items_3 (lv_at hl 0 rfl) ?_
  refine lv_iload hx hb dX12_items_5 (lv_at hl 5 rfl) ?_
  refine lv_icmp_ge (tgt := 28) hx hb dX12_items_7 (by decide) (fun c => absurd c (by decide)) (fun _ => ?_)
  refine lv_aload_n hx hb dX12_items_10 rfl (lv_at hl 3 rfl) ?_
  refine lv_iload_n hx hb dX12_items_11 rfl (lv_at hl 4 rfl) ?_
  refine lv_iload hx hb dX12_items_12 (lv_at hl 0 rfl) ?_
  refine lv_iadd hx hb dX12_items_14 ?_
  refine lv_topi (fun tv10 etv10 => ?_)
  obtain rfl : tv10 = (3 : Int32) := etv10.trans (by first | rfl | decide)
  refine lv_iload_n hx hb dX12_items_15 rfl (lv_at hl 2 rfl) ?_
  refine lv_iload hx hb dX12_items_16 (lv_at hl 0 rfl) ?_
  have hPc := hP.sub (ws' := []) [] rfl
  have hDc := hD.sub (ws' := []) [] (by decide) rfl
  have hKc := hK.sub (tys' := []) [] rfl
  have hFc := va_free (wc := []) hD hS hA [] rfl
  refine va_calli (va_runS (As := [.int 115, .int 3]) (rest := [.int 3, .ref h2]) ⟨hx, hb, hml, hown, hts⟩ (k_X12_usual_3 l dC dI   H.size) (va_cwS 2 hts g_X12_items_1_3 rfl rfl rfl (by decide +kernel) ⟨Nat.le_of_ble_eq_true rfl, Nat.le_of_ble_eq_true rfl⟩) ⟨fun a U g mk q => by obtain ⟨q0, q1, qP, qK, qD⟩ := q; exact ⟨q0, q1, qP, va_K.moved (u := U) (U := U.calling g mk a) (Vm.Alike.refl U.vm) qK, qD⟩, fun U hU hW => ⟨rfl, by rw [hU], by rw [hU]; exact hPc, va_K.moved hW.alike hKc, hDc.weaken (fun _ _ _ _ => trivial)⟩⟩ rfl rfl hl.1 rfl (lv_room (Nat.le_of_ble_eq_true rfl)) dX12_items_18 ⟨Nat.le_of_ble_eq_true rfl, Nat.le_of_ble_eq_true rfl⟩) hS (fun q _ h => hFc q h) hFc (fun ra11 u t H1 locs ht hvm hwra11 hB hz1 hk1 hS => ?_)
  try rw [hwra11] at hB
  obtain ⟨pt0_ra11, pt1_ra11, hP1, hK1, hD1⟩ := hB
  rw [ht] at hP1
  obtain ⟨hP, hD⟩ := va_join (wr := (wd_490cd7da h0 v0 h1 v1 v2 (-1) v3 r0 r1 r2 r3 r4 r5 r6 v4 v5 r7 r8 h2 r9 v6 r10 r11 v7 v8 r12 r13 v9 v10 r14 v11 v12 r15 v13 w14 r16 v15 v16 r17 r18 r19 r20 r21 r22 v17 r23 r24 r25 v18 h1 g0 f19 h2 g1 fn9)) (w1 := []) hP hD [] [0, 1, 2] rfl rfl (by decide) (by decide) hk1 hFc hP1 hD1
  generalize H1 = H at hP hS ⊢
  have hP : va_P (dC, dI) vwCl (wd_490cd7da h0 v0 h1 v1 v2 (-1) v3 r0 r1 r2 r3 r4 r5 r6 v4 v5 r7 r8 h2 r9 v6 r10 r11 v7 v8 r12 r13 v9 v10 r14 v11 v12 r15 v13 w14 r16 v15 v16 r17 r18 r19 r20 r21 r22 v17 r23 r24 r25 v18 h1 g0 f19 h2 g1 fn9) H := hP
  have hD : va_D A (wd_490cd7da h0 v0 h1 v1 v2 (-1) v3 r0 r1 r2 r3 r4 r5 r6 v4 v5 r7 r8 h2 r9 v6 r10 r11 v7 v8 r12 r13 v9 v10 r14 v11 v12 r15 v13 w14 r16 v15 v16 r17 r18 r19 r20 r21 r22 v17 r23 r24 r25 v18 h1 g0 f19 h2 g1 fn9) := hD
  obtain rfl : ra11 = (20 : Int32) := Int32.toInt_inj.mp (by rw [show ((20 : Int32)).toInt = 20 by decide]; omega)
  refine va_iast hx hb hK hP hD hS 2 1 rfl rfl (pv_c (x := 3) (n := 4) (by decide)) dX12_items_21 (fun H locs hP hD hS => ?_)
  obtain ⟨fn12, efn12⟩ : ∃ g : Nat → Int32, g = upd fn9 (Int32.toNatClampNeg 3) 20 := ⟨_, rfl⟩
  rw [← efn12] at hP hD
  have hP : va_P (dC, dI) vwCl (wd_490cd7da h0 v0 h1 v1 v2 (-1) v3 r0 r1 r2 r3 r4 r5 r6 v4 v5 r7 r8 h2 r9 v6 r10 r11 v7 v8 r12 r13 v9 v10 r14 v11 v12 r15 v13 w14 r16 v15 v16 r17 r18 r19 r20 r21 r22 v17 r23 r24 r25 v18 h1 g0 f19 h2 g1 fn12) H := hP
  have hD : va_D A (wd_490cd7da h0 v0 h1 v1 v2 (-1) v3 r0 r1 r2 r3 r4 r5 r6 v4 v5 r7 r8 h2 r9 v6 r10 r11 v7 v8 r12 r13 v9 v10 r14 v11 v12 r15 v13 w14 r16 v15 v16 r17 r18 r19 r20 r21 r22 v17 r23 r24 r25 v18 h1 g0 f19 h2 g1 fn12) := hD
  refine lv_iinc (v := 4) (lv' := [(5, .int 4), (0, .ref h0), (1, .int 115), (2, .ref h2), (3, .int 0), (4, .int 4)]) hx hb dX12_items_22 hl (k := 0) rfl (by decide) (by decide) rfl (fun ls hl => ?_)
  refine lv_goto (tgt := 3) hx hb dX12_items_25 (by decide) ?_
  refine lv_iload hx hb dX12_items_3 (lv_at hl 0 rfl) ?_
  refine lv_iload hx hb dX12_items_5 (lv_at hl 5 rfl) ?_
  refine lv_icmp_ge (tgt := 28) hx hb dX12_items_7 (by decide) (fun _ => ?_) (fun c => absurd (by decide) c)
  refine lv_iconst (v := 0) hx hb dX12_items_28 (by decide) ?_
  refine lv_istore (lv' := [(5, .int 0), (0, .ref h0), (1, .int 115), (2, .ref h2), (3, .int 0), (4, .int 4)]) hx hb dX12_items_29 hl (by decide) rfl (fun ls hl => ?_)
  refine lv_iload_n hx hb dX12_items_31 rfl (lv_at hl 2 rfl) ?_
  refine lv_aload_n hx hb dX12_items_32 rfl (lv_at hl 1 rfl) ?_
  have hPc := hP.sub (ws' := (wd_f4cd022e h0 v0 h1 v1 v2 (-1) v3 r0 r1 r2 r3 r4 r5 r6 v4 v5 r7 r8 h2 r9 v6 r10 r11 v7 v8 r12 r13 v9 v10 r14 v11 v12 r15 v13 w14 r16 v15 v16 r17 r18 r19 r20 r21 r22 v17 r23 r24 r25 v18 h1 g0 f19)) [0, 1] rfl
  have hDc := hD.sub (ws' := (wd_f4cd022e h0 v0 h1 v1 v2 (-1) v3 r0 r1 r2 r3 r4 r5 r6 v4 v5 r7 r8 h2 r9 v6 r10 r11 v7 v8 r12 r13 v9 v10 r14 v11 v12 r15 v13 w14 r16 v15 v16 r17 r18 r19 r20 r21 r22 v17 r23 r24 r25 v18 h1 g0 f19)) [0, 1] (by decide) rfl
  have hKc := hK.sub (tys' := [(g0, .int)]) [0] rfl
  have hFc := va_free (wc := (wd_f4cd022e h0 v0 h1 v1 v2 (-1) v3 r0 r1 r2 r3 r4 r5 r6 v4 v5 r7 r8 h2 r9 v6 r10 r11 v7 v8 r12 r13 v9 v10 r14 v11 v12 r15 v13 w14 r16 v15 v16 r17 r18 r19 r20 r21 r22 v17 r23 r24 r25 v18 h1 g0 f19)) hD hS hA [0, 1] rfl
  refine va_calli (va_runV (As := []) (rest := [.int 115]) ⟨hx, hb, hml, hown, hts⟩ (k_X12_look l dC dI h0 h1 v0 v1 v2 ((-1)) v3 r0 r1 r2 r3 r4 r5 r6 v4 v5 r7 r8 h2 r9 v6 r10 r11 v7 v8 r12 r13 v9 v10 r14 v11 v12 r15 v13 w14 r16 v15 v16 r17 r18 r19 r20 r21 r22 v17 r23 r24 r25 v18 g0 f19 ⟨by first | omega | decide, by first | omega | decide⟩ ⟨by first | omega | decide, by first | omega | decide⟩ ⟨by first | omega | decide, by first | omega | decide⟩ ⟨by first | omega | decide, by first | omega | decide⟩ ⟨by first | omega | decide, by first | omega | decide⟩ ⟨by first | omega | decide, by first | omega | decide⟩ ⟨by first | omega | decide, by first | omega | decide⟩ ⟨by first | omega | decide, by first | omega | decide⟩ ⟨by first | omega | decide, by first | omega | decide⟩ ⟨by first | omega | decide, by first | omega | decide⟩ ⟨by first | omega | decide, by first | omega | decide⟩ ia_f19 H.size) (cwV 0 hts g_X12_items_1_4 rfl rfl rfl (by decide +kernel) ⟨Nat.le_of_ble_eq_true rfl, Nat.le_of_ble_eq_true rfl⟩) ⟨fun a U g mk q => by obtain ⟨q0, q1, qP, qK, qD⟩ := q; exact ⟨q0, q1, qP, va_K.moved (u := U) (U := U.calling g mk a) (Vm.Alike.refl U.vm) qK, qD⟩, va_recv hKc hPc (ci := 12) (q0 := 0) rfl rfl, fun U hU hW => ⟨rfl, by rw [hU], by rw [hU]; exact hPc, va_K.moved hW.alike hKc, hDc.weaken (fun _ _ _ _ => trivial)⟩⟩ rfl rfl hl.1 rfl (lv_room (Nat.le_of_ble_eq_true rfl)) dX12_items_33 ⟨Nat.le_of_ble_eq_true rfl, Nat.le_of_ble_eq_true rfl⟩) hS (fun q _ h => hFc q h) hFc (fun ra13 u t H1 locs ht hvm hwra13 hB hz1 hk1 hS => ?_)
  try rw [hwra13] at hB
  have hkra13_0 : (((-1) : Int32)).toInt = -1 := by decide
  rcases hB with hB | hB
  · skip
    obtain ⟨x14, oa_x14, ob_x14, pt0_ra13, pt1_ra13, pt2_ra13, pt3_ra13, pt4_ra13, pt5_ra13, pt6_ra13, hP1, hK1, hD1⟩ := hB
    rw [ht] at hP1
    obtain ⟨hP, hD⟩ := va_join (wr := (wd_6f8f3203 h2 g1 fn12)) (w1 := (wd_f4cd022e h0 v0 h1 v1 x14 (-1) v3 r0 r1 r2 r3 r4 r5 r6 v4 v5 r7 r8 h2 r9 v6 r10 r11 v7 v8 r12 r13 v9 v10 r14 v11 v12 r15 v13 w14 r16 v15 v16 r17 r18 r19 r20 r21 r22 v17 r23 r24 r25 v18 h1 g0 f19)) hP hD [0, 1] [2] rfl rfl (by decide) (by decide) hk1 hFc hP1 hD1
    generalize H1 = H at hP hS ⊢
    have hP := hP.sub (ws' := (wd_490cd7da h0 v0 h1 v1 x14 (-1) v3 r0 r1 r2 r3 r4 r5 r6 v4 v5 r7 r8 h2 r9 v6 r10 r11 v7 v8 r12 r13 v9 v10 r14 v11 v12 r15 v13 w14 r16 v15 v16 r17 r18 r19 r20 r21 r22 v17 r23 r24 r25 v18 h1 g0 f19 h2 g1 fn12)) [1, 2, 0] rfl
    have hD := hD.sub (ws' := (wd_490cd7da h0 v0 h1 v1 x14 (-1) v3 r0 r1 r2 r3 r4 r5 r6 v4 v5 r7 r8 h2 r9 v6 r10 r11 v7 v8 r12 r13 v9 v10 r14 v11 v12 r15 v13 w14 r16 v15 v16 r17 r18 r19 r20 r21 r22 v17 r23 r24 r25 v18 h1 g0 f19 h2 g1 fn12)) [1, 2, 0] (by decide) rfl
    have hP : va_P (dC, dI) vwCl (wd_490cd7da h0 v0 h1 v1 x14 (-1) v3 r0 r1 r2 r3 r4 r5 r6 v4 v5 r7 r8 h2 r9 v6 r10 r11 v7 v8 r12 r13 v9 v10 r14 v11 v12 r15 v13 w14 r16 v15 v16 r17 r18 r19 r20 r21 r22 v17 r23 r24 r25 v18 h1 g0 f19 h2 g1 fn12) H := hP
    have hD : va_D A (wd_490cd7da h0 v0 h1 v1 x14 (-1) v3 r0 r1 r2 r3 r4 r5 r6 v4 v5 r7 r8 h2 r9 v6 r10 r11 v7 v8 r12 r13 v9 v10 r14 v11 v12 r15 v13 w14 r16 v15 v16 r17 r18 r19 r20 r21 r22 v17 r23 r24 r25 v18 h1 g0 f19 h2 g1 fn12) := hD
    obtain rfl : ra13 = ((-1) : Int32) := Int32.toInt_inj.mp (by rw [show (((-1) : Int32)).toInt = -1 by decide]; omega)
    have hPc := hP.sub (ws' := []) [] rfl
    have hDc := hD.sub (ws' := []) [] (by decide) rfl
    have hKc := hK.sub (tys' := []) [] rfl
    have hFc := va_free (wc := []) hD hS hA [] rfl
    refine va_calli (va_runS (As := [.int 115, .int (-1)]) (rest := []) ⟨hx, hb, hml, hown, hts⟩ (k_X12_itemOf_1 l dC dI ((-1))  H.size) (va_cwS 2 hts g_X12_items_1_5 rfl rfl rfl (by decide +kernel) ⟨Nat.le_of_ble_eq_true rfl, Nat.le_of_ble_eq_true rfl⟩) ⟨fun a U g mk q => by obtain ⟨q0, q1, qP, qK, qD⟩ := q; exact ⟨q0, q1, qP, va_K.moved (u := U) (U := U.calling g mk a) (Vm.Alike.refl U.vm) qK, qD⟩, fun U hU hW => ⟨rfl, by rw [hU], by rw [hU]; exact hPc, va_K.moved hW.alike hKc, hDc.weaken (fun _ _ _ _ => trivial)⟩⟩ rfl rfl hl.1 rfl (lv_room (Nat.le_of_ble_eq_true rfl)) dX12_items_36 ⟨Nat.le_of_ble_eq_true rfl, Nat.le_of_ble_eq_true rfl⟩) hS (fun q _ h => hFc q h) hFc (fun ra15 u t H1 locs ht hvm hwra15 hB hz1 hk1 hS => ?_)
    try rw [hwra15] at hB
    have hkra15_0 : (((-1) : Int32)).toInt = -1 := by decide
    obtain ⟨pt0_ra15, pt1_ra15, pt2_ra15, pt3_ra15, hP1, hK1, hD1⟩ := hB
    rw [ht] at hP1
    obtain ⟨hP, hD⟩ := va_join (wr := (wd_490cd7da h0 v0 h1 v1 x14 (-1) v3 r0 r1 r2 r3 r4 r5 r6 v4 v5 r7 r8 h2 r9 v6 r10 r11 v7 v8 r12 r13 v9 v10 r14 v11 v12 r15 v13 w14 r16 v15 v16 r17 r18 r19 r20 r21 r22 v17 r23 r24 r25 v18 h1 g0 f19 h2 g1 fn12)) (w1 := []) hP hD [] [0, 1, 2] rfl rfl (by decide) (by decide) hk1 hFc hP1 hD1
    generalize H1 = H at hP hS ⊢
    have hP : va_P (dC, dI) vwCl (wd_490cd7da h0 v0 h1 v1 x14 (-1) v3 r0 r1 r2 r3 r4 r5 r6 v4 v5 r7 r8 h2 r9 v6 r10 r11 v7 v8 r12 r13 v9 v10 r14 v11 v12 r15 v13 w14 r16 v15 v16 r17 r18 r19 r20 r21 r22 v17 r23 r24 r25 v18 h1 g0 f19 h2 g1 fn12) H := hP
    have hD : va_D A (wd_490cd7da h0 v0 h1 v1 x14 (-1) v3 r0 r1 r2 r3 r4 r5 r6 v4 v5 r7 r8 h2 r9 v6 r10 r11 v7 v8 r12 r13 v9 v10 r14 v11 v12 r15 v13 w14 r16 v15 v16 r17 r18 r19 r20 r21 r22 v17 r23 r24 r25 v18 h1 g0 f19 h2 g1 fn12) := hD
    have hkra15 : ra15 = pg_it true (pg_ch f19 v1.toInt x14.toInt) := by rw [show pg_ch f19 v1.toInt x14.toInt = (-1) by omega]; exact pt3_ra15
    refine lv_istore (lv' := [(6, .int ra15), (5, .int 0), (0, .ref h0), (1, .int 115), (2, .ref h2), (3, .int 0), (4, .int 4)]) hx hb dX12_items_39 hl (by decide) rfl (fun ls hl => ?_)
    refine lv_aload_n hx hb dX12_items_41 rfl (lv_at hl 2 rfl) ?_
    refine va_get (D := (dC, dI)) (ci := 12) (v := .int (-1)) (C := RX12) (T := TX12) (N := 48) hx hb hts (fun _ h => List.mem_cons_of_mem _ (List.mem_append_right _ h)) hown hK hP 0 rfl rfl 4 (by decide) (hts (.fieldLink RX12 119 "LeftArgumentsModel" "wrong" "I") (List.mem_cons_of_mem _ (List.mem_append_left _ (List.mem_of_getElem? (i := 18) rfl)))) (fun _ h9 => h9) rfl dX12_items_42 ?_
    refine lv_iconst (v := (-1)) hx hb dX12_items_45 (by decide) ?_
    refine lv_icmp_ne (tgt := 131) hx hb dX12_items_46 (by decide) (fun c => absurd (by decide) c) (fun _ => ?_)
    refine lv_iload hx hb dX12_items_49 (lv_at hl 0 rfl) ?_
    refine lv_iconst (v := (-1)) hx hb dX12_items_51 (by decide) ?_
    refine lv_icmp_eq (tgt := 131) hx hb dX12_items_52 (by decide) (fun c16 => ?_) (fun c16 => ?_)
    · skip
      have fc16 : ra15.toInt = (-1) := congrArg Int32.toInt c16
      subst hQ
      have hP9 := hP.sub (ws' := (wd_490cd7da h0 v0 h1 v1 x14 (-1) v3 r0 r1 r2 r3 r4 r5 r6 v4 v5 r7 r8 h2 r9 v6 r10 r11 v7 v8 r12 r13 v9 v10 r14 v11 v12 r15 v13 w14 r16 v15 v16 r17 r18 r19 r20 r21 r22 v17 r23 r24 r25 v18 h1 g0 f19 h2 g1 fn12)) [0, 1, 2] rfl
      have hD9 := hD.sub (ws' := (wd_490cd7da h0 v0 h1 v1 x14 (-1) v3 r0 r1 r2 r3 r4 r5 r6 v4 v5 r7 r8 h2 r9 v6 r10 r11 v7 v8 r12 r13 v9 v10 r14 v11 v12 r15 v13 w14 r16 v15 v16 r17 r18 r19 r20 r21 r22 v17 r23 r24 r25 v18 h1 g0 f19 h2 g1 fn12)) [0, 1, 2] (by decide) rfl
      have hK9 := hK.sub (tys' := []) [] rfl
      exact W.vret hx hb hr (fun t ht hW => ⟨⟨(), rfl, trivial, Or.inl ⟨x14, fn12, by first | omega | decide, by first | omega | decide, by omega, by first | assumption | (apply pm_RR.init <;> first | assumption | decide), by first | (apply pg_I.out <;> first | assumption | exact Or.inl (by assumption) | exact Or.inr (by assumption)) | (apply pg_items.e0 <;> first | assumption | omega | (apply pg_ur.mk <;> first | assumption | decide) | (apply pg_us.mk <;> first | assumption | omega | decide)) | (apply pg_I.last <;> first | assumption | omega | (show _ = pm_los _; assumption) | (show _ = pm_his _; assumption) | (show _ = pm_lob _; assumption) | (show _ = pm_hib _; assumption)), by rw [ht]; exact hP9, va_K.moved hW.alike hK9, hD9⟩⟩, hS.F ht⟩) hS.2.2 dX12_items_131
    · skip
      have fc16 : ¬ (ra15.toInt = (-1)) := fun h9 => c16 (Int32.toInt_inj.mp h9)
      exfalso; omega
  · skip
    obtain ⟨x17, oa_x17, ob_x17, pt0_ra13, pt1_ra13, pt2_ra13, pt3_ra13, pt4_ra13, pt5_ra13, pt6_ra13, pt7_ra13, hP1, hK1, hD1⟩ := hB
    rw [ht] at hP1
    obtain ⟨hP, hD⟩ := va_join (wr := (wd_6f8f3203 h2 g1 fn12)) (w1 := (wd_f4cd022e h0 v0 h1 v1 x17 (-1) v3 r0 r1 r2 r3 r4 r5 r6 v4 v5 r7 r8 h2 r9 v6 r10 r11 v7 v8 r12 r13 v9 v10 r14 v11 v12 r15 v13 w14 r16 v15 v16 r17 r18 r19 r20 r21 r22 v17 r23 r24 r25 v18 h1 g0 f19)) hP hD [0, 1] [2] rfl rfl (by decide) (by decide) hk1 hFc hP1 hD1
    generalize H1 = H at hP hS ⊢
    have hP := hP.sub (ws' := (wd_490cd7da h0 v0 h1 v1 x17 (-1) v3 r0 r1 r2 r3 r4 r5 r6 v4 v5 r7 r8 h2 r9 v6 r10 r11 v7 v8 r12 r13 v9 v10 r14 v11 v12 r15 v13 w14 r16 v15 v16 r17 r18 r19 r20 r21 r22 v17 r23 r24 r25 v18 h1 g0 f19 h2 g1 fn12)) [1, 2, 0] rfl
    have hD := hD.sub (ws' := (wd_490cd7da h0 v0 h1 v1 x17 (-1) v3 r0 r1 r2 r3 r4 r5 r6 v4 v5 r7 r8 h2 r9 v6 r10 r11 v7 v8 r12 r13 v9 v10 r14 v11 v12 r15 v13 w14 r16 v15 v16 r17 r18 r19 r20 r21 r22 v17 r23 r24 r25 v18 h1 g0 f19 h2 g1 fn12)) [1, 2, 0] (by decide) rfl
    have hP : va_P (dC, dI) vwCl (wd_490cd7da h0 v0 h1 v1 x17 (-1) v3 r0 r1 r2 r3 r4 r5 r6 v4 v5 r7 r8 h2 r9 v6 r10 r11 v7 v8 r12 r13 v9 v10 r14 v11 v12 r15 v13 w14 r16 v15 v16 r17 r18 r19 r20 r21 r22 v17 r23 r24 r25 v18 h1 g0 f19 h2 g1 fn12) H := hP
    have hD : va_D A (wd_490cd7da h0 v0 h1 v1 x17 (-1) v3 r0 r1 r2 r3 r4 r5 r6 v4 v5 r7 r8 h2 r9 v6 r10 r11 v7 v8 r12 r13 v9 v10 r14 v11 v12 r15 v13 w14 r16 v15 v16 r17 r18 r19 r20 r21 r22 v17 r23 r24 r25 v18 h1 g0 f19 h2 g1 fn12) := hD
    have hPc := hP.sub (ws' := []) [] rfl
    have hDc := hD.sub (ws' := []) [] (by decide) rfl
    have hKc := hK.sub (tys' := []) [] rfl
    have hFc := va_free (wc := []) hD hS hA [] rfl
    refine va_calli (va_runS (As := [.int 115, .int ra13]) (rest := []) ⟨hx, hb, hml, hown, hts⟩ (k_X12_itemOf_1 l dC dI ra13  H.size) (va_cwS 2 hts g_X12_items_1_5 rfl rfl rfl (by decide +kernel) ⟨Nat.le_of_ble_eq_true rfl, Nat.le_of_ble_eq_true rfl⟩) ⟨fun a U g mk q => by obtain ⟨q0, q1, qP, qK, qD⟩ := q; exact ⟨q0, q1, qP, va_K.moved (u := U) (U := U.calling g mk a) (Vm.Alike.refl U.vm) qK, qD⟩, fun U hU hW => ⟨rfl, by rw [hU], by rw [hU]; exact hPc, va_K.moved hW.alike hKc, hDc.weaken (fun _ _ _ _ => trivial)⟩⟩ rfl rfl hl.1 rfl (lv_room (Nat.le_of_ble_eq_true rfl)) dX12_items_36 ⟨Nat.le_of_ble_eq_true rfl, Nat.le_of_ble_eq_true rfl⟩) hS (fun q _ h => hFc q h) hFc (fun ra18 u t H1 locs ht hvm hwra18 hB hz1 hk1 hS => ?_)
    try rw [hwra18] at hB
    obtain ⟨pt0_ra18, pt1_ra18, pt2_ra18, pt3_ra18, hP1, hK1, hD1⟩ := hB
    rw [ht] at hP1
    obtain ⟨hP, hD⟩ := va_join (wr := (wd_490cd7da h0 v0 h1 v1 x17 (-1) v3 r0 r1 r2 r3 r4 r5 r6 v4 v5 r7 r8 h2 r9 v6 r10 r11 v7 v8 r12 r13 v9 v10 r14 v11 v12 r15 v13 w14 r16 v15 v16 r17 r18 r19 r20 r21 r22 v17 r23 r24 r25 v18 h1 g0 f19 h2 g1 fn12)) (w1 := []) hP hD [] [0, 1, 2] rfl rfl (by decide) (by decide) hk1 hFc hP1 hD1
    generalize H1 = H at hP hS ⊢
    have hP : va_P (dC, dI) vwCl (wd_490cd7da h0 v0 h1 v1 x17 (-1) v3 r0 r1 r2 r3 r4 r5 r6 v4 v5 r7 r8 h2 r9 v6 r10 r11 v7 v8 r12 r13 v9 v10 r14 v11 v12 r15 v13 w14 r16 v15 v16 r17 r18 r19 r20 r21 r22 v17 r23 r24 r25 v18 h1 g0 f19 h2 g1 fn12) H := hP
    have hD : va_D A (wd_490cd7da h0 v0 h1 v1 x17 (-1) v3 r0 r1 r2 r3 r4 r5 r6 v4 v5 r7 r8 h2 r9 v6 r10 r11 v7 v8 r12 r13 v9 v10 r14 v11 v12 r15 v13 w14 r16 v15 v16 r17 r18 r19 r20 r21 r22 v17 r23 r24 r25 v18 h1 g0 f19 h2 g1 fn12) := hD
    have hkra18 : ra18 = pg_it true (pg_ch f19 v1.toInt x17.toInt) := by rw [show pg_ch f19 v1.toInt x17.toInt = ra13.toInt by omega]; exact pt3_ra18
    refine lv_istore (lv' := [(6, .int ra18), (5, .int 0), (0, .ref h0), (1, .int 115), (2, .ref h2), (3, .int 0), (4, .int 4)]) hx hb dX12_items_39 hl (by decide) rfl (fun ls hl => ?_)
    have hL27 : ∀ (n9 : Nat), ∀ (x19 : Int32) (x20 : Int32) (x21 : Int32) (fn22 : Nat → Int32) (H : Heap) (locs : List Loc) (ls : Array Slot), -1 ≤ x19.toInt → x19.toInt ≤ 3 → 0 ≤ x21.toInt → x21.toInt ≤ 240 → pm_RR fn22 → x19.toInt = -1 ∨ x21.toInt < v1.toInt → v2.toInt ≤ x21.toInt → pg_I f19 v1.toInt true 0 x21.toInt x20 fn22 (pg_items f19 v1.toInt true 0 300 v2.toInt 0 (pg_ur f20)) → ¬ pg_ch f19 v1.toInt x21.toInt = 32 → x19 = pg_it true (pg_ch f19 v1.toInt x21.toInt) → (300 - x21.toInt).toNat < n9 → va_P (dC, dI) vwCl (wd_490cd7da h0 v0 h1 v1 x21 (-1) v3 r0 r1 r2 r3 r4 r5 r6 v4 v5 r7 r8 h2 r9 v6 r10 r11 v7 v8 r12 r13 v9 v10 r14 v11 v12 r15 v13 w14 r16 v15 v16 r17 r18 r19 r20 r21 r22 v17 r23 r24 r25 v18 h1 g0 f19 h2 g1 fn22) H → va_D A (wd_490cd7da h0 v0 h1 v1 x21 (-1) v3 r0 r1 r2 r3 r4 r5 r6 v4 v5 r7 r8 h2 r9 v6 r10 r11 v7 v8 r12 r13 v9 v10 r14 v11 v12 r15 v13 w14 r16 v15 v16 r17 r18 r19 r20 r21 r22 v17 r23 r24 r25 v18 h1 g0 f19 h2 g1 fn22) → va_S A s.heap H locs → lv_has ls 7 [(6, .int x19), (5, .int x20), (0, .ref h0), (1, .int 115), (2, .ref h2), (3, .int 0), (4, .int 4)] → W p l e ({ frames := 3, cells := 0, slots := 0, locals := 63 }) s m ([.ref h0, .int 115, .ref h2, .int 0, .int 4] : List Value).toArray below meth c H locs 0 0 Q (F0 m 41 ls []) := by
      intro n9
      induction n9 with
      | zero => intro x19 x20 x21 fn22 H locs ls qa_x19 qb_x19 qa_x21 qb_x21 gh0_hL27 gh1_hL27 gh2_hL27 gh3_hL27 gh4_hL27 gh5_hL27 hm9 hP hD hS hl; exact absurd hm9 (Nat.not_lt_zero _)
      | succ n9 ih_hL27 =>
        intro x19 x20 x21 fn22 H locs ls qa_x19 qb_x19 qa_x21 qb_x21 gh0_hL27 gh1_hL27 gh2_hL27 gh3_hL27 gh4_hL27 gh5_hL27 hm9 hP hD hS hl
        refine lv_aload_n hx hb dX12_items_41 rfl (lv_at hl 2 rfl) ?_
        refine va_get (D := (dC, dI)) (ci := 12) (v := .int (-1)) (C := RX12) (T := TX12) (N := 48) hx hb hts (fun _ h => List.mem_cons_of_mem _ (List.mem_append_right _ h)) hown hK hP 0 rfl rfl 4 (by decide) (hts (.fieldLink RX12 119 "LeftArgumentsModel" "wrong" "I") (List.mem_cons_of_mem _ (List.mem_append_left _ (List.mem_of_getElem? (i := 18) rfl)))) (fun _ h9 => h9) rfl dX12_items_42 ?_
        refine lv_iconst (v := (-1)) hx hb dX12_items_45 (by decide) ?_
        refine lv_icmp_ne (tgt := 131) hx hb dX12_items_46 (by decide) (fun c => absurd (by decide) c) (fun _ => ?_)
        refine lv_iload hx hb dX12_items_49 (lv_at hl 0 rfl) ?_
        refine lv_iconst (v := (-1)) hx hb dX12_items_51 (by decide) ?_
        refine lv_icmp_eq (tgt := 131) hx hb dX12_items_52 (by decide) (fun c28 => ?_) (fun c28 => ?_)
        · skip
          have fc28 : x19.toInt = (-1) := congrArg Int32.toInt c28
          subst hQ
          have hP9 := hP.sub (ws' := (wd_490cd7da h0 v0 h1 v1 x21 (-1) v3 r0 r1 r2 r3 r4 r5 r6 v4 v5 r7 r8 h2 r9 v6 r10 r11 v7 v8 r12 r13 v9 v10 r14 v11 v12 r15 v13 w14 r16 v15 v16 r17 r18 r19 r20 r21 r22 v17 r23 r24 r25 v18 h1 g0 f19 h2 g1 fn22)) [0, 1, 2] rfl
          have hD9 := hD.sub (ws' := (wd_490cd7da h0 v0 h1 v1 x21 (-1) v3 r0 r1 r2 r3 r4 r5 r6 v4 v5 r7 r8 h2 r9 v6 r10 r11 v7 v8 r12 r13 v9 v10 r14 v11 v12 r15 v13 w14 r16 v15 v16 r17 r18 r19 r20 r21 r22 v17 r23 r24 r25 v18 h1 g0 f19 h2 g1 fn22)) [0, 1, 2] (by decide) rfl
          have hK9 := hK.sub (tys' := []) [] rfl
          exact W.vret hx hb hr (fun t ht hW => ⟨⟨(), rfl, trivial, Or.inl ⟨x21, fn22, by first | omega | decide, by first | omega | decide, by omega, by first | assumption | (apply pm_RR.init <;> first | assumption | decide), by first | (apply pg_I.out <;> first | assumption | exact Or.inl (by assumption) | exact Or.inr (by assumption)) | (apply pg_items.e0 <;> first | assumption | omega | (apply pg_ur.mk <;> first | assumption | decide) | (apply pg_us.mk <;> first | assumption | omega | decide)) | (apply pg_I.last <;> first | assumption | omega | (show _ = pm_los _; assumption) | (show _ = pm_his _; assumption) | (show _ = pm_lob _; assumption) | (show _ = pm_hib _; assumption)), by rw [ht]; exact hP9, va_K.moved hW.alike hK9, hD9⟩⟩, hS.F ht⟩) hS.2.2 dX12_items_131
        · skip
          have fc28 : ¬ (x19.toInt = (-1)) := fun h9 => c28 (Int32.toInt_inj.mp h9)
          refine lv_iload hx hb dX12_items_55 (lv_at hl 1 rfl) ?_
          refine lv_iload hx hb dX12_items_57 (lv_at hl 0 rfl) ?_
          have hPc := hP.sub (ws' := []) [] rfl
          have hDc := hD.sub (ws' := []) [] (by decide) rfl
          have hKc := hK.sub (tys' := []) [] rfl
          have hFc := va_free (wc := []) hD hS hA [] rfl
          refine va_calli (va_runS (As := [.int x20, .int x19]) (rest := []) ⟨hx, hb, hml, hown, hts⟩ (k_X12_has l dC dI x20 x19  H.size) (va_cwS 2 hts g_X12_items_1_7 rfl rfl rfl (by decide +kernel) ⟨Nat.le_of_ble_eq_true rfl, Nat.le_of_ble_eq_true rfl⟩) ⟨fun a U g mk q => by obtain ⟨q0, q1, qP, qK, qD⟩ := q; exact ⟨q0, q1, qP, va_K.moved (u := U) (U := U.calling g mk a) (Vm.Alike.refl U.vm) qK, qD⟩, fun U hU hW => ⟨rfl, by rw [hU], by rw [hU]; exact hPc, va_K.moved hW.alike hKc, hDc.weaken (fun _ _ _ _ => trivial)⟩⟩ rfl rfl hl.1 rfl (lv_room (Nat.le_of_ble_eq_true rfl)) dX12_items_59 ⟨Nat.le_of_ble_eq_true rfl, Nat.le_of_ble_eq_true rfl⟩) hS (fun q _ h => hFc q h) hFc (fun ra29 u t H1 locs ht hvm hwra29 hB hz1 hk1 hS => ?_)
          try rw [hwra29] at hB
          obtain ⟨pt0_ra29, pt1_ra29, pt2_ra29, pt3_ra29, hP1, hK1, hD1⟩ := hB
          rw [ht] at hP1
          obtain ⟨hP, hD⟩ := va_join (wr := (wd_490cd7da h0 v0 h1 v1 x21 (-1) v3 r0 r1 r2 r3 r4 r5 r6 v4 v5 r7 r8 h2 r9 v6 r10 r11 v7 v8 r12 r13 v9 v10 r14 v11 v12 r15 v13 w14 r16 v15 v16 r17 r18 r19 r20 r21 r22 v17 r23 r24 r25 v18 h1 g0 f19 h2 g1 fn22)) (w1 := []) hP hD [] [0, 1, 2] rfl rfl (by decide) (by decide) hk1 hFc hP1 hD1
          generalize H1 = H at hP hS ⊢
          have hP : va_P (dC, dI) vwCl (wd_490cd7da h0 v0 h1 v1 x21 (-1) v3 r0 r1 r2 r3 r4 r5 r6 v4 v5 r7 r8 h2 r9 v6 r10 r11 v7 v8 r12 r13 v9 v10 r14 v11 v12 r15 v13 w14 r16 v15 v16 r17 r18 r19 r20 r21 r22 v17 r23 r24 r25 v18 h1 g0 f19 h2 g1 fn22) H := hP
          have hD : va_D A (wd_490cd7da h0 v0 h1 v1 x21 (-1) v3 r0 r1 r2 r3 r4 r5 r6 v4 v5 r7 r8 h2 r9 v6 r10 r11 v7 v8 r12 r13 v9 v10 r14 v11 v12 r15 v13 w14 r16 v15 v16 r17 r18 r19 r20 r21 r22 v17 r23 r24 r25 v18 h1 g0 f19 h2 g1 fn22) := hD
          refine lv_if_ne (tgt := 131) hx hb dX12_items_62 (by decide) (fun c30 => ?_) (fun c30 => ?_)
          · skip
            have fc30 : ¬ (ra29.toInt = 0) := fun h9 => c30 (Int32.toInt_inj.mp h9)
            have q1pt2_ra29 := pt2_ra29 (by omega)
            subst hQ
            have hP9 := hP.sub (ws' := (wd_490cd7da h0 v0 h1 v1 x21 (-1) v3 r0 r1 r2 r3 r4 r5 r6 v4 v5 r7 r8 h2 r9 v6 r10 r11 v7 v8 r12 r13 v9 v10 r14 v11 v12 r15 v13 w14 r16 v15 v16 r17 r18 r19 r20 r21 r22 v17 r23 r24 r25 v18 h1 g0 f19 h2 g1 fn22)) [0, 1, 2] rfl
            have hD9 := hD.sub (ws' := (wd_490cd7da h0 v0 h1 v1 x21 (-1) v3 r0 r1 r2 r3 r4 r5 r6 v4 v5 r7 r8 h2 r9 v6 r10 r11 v7 v8 r12 r13 v9 v10 r14 v11 v12 r15 v13 w14 r16 v15 v16 r17 r18 r19 r20 r21 r22 v17 r23 r24 r25 v18 h1 g0 f19 h2 g1 fn22)) [0, 1, 2] (by decide) rfl
            have hK9 := hK.sub (tys' := []) [] rfl
            exact W.vret hx hb hr (fun t ht hW => ⟨⟨(), rfl, trivial, Or.inl ⟨x21, fn22, by first | omega | decide, by first | omega | decide, by omega, by first | assumption | (apply pm_RR.init <;> first | assumption | decide), by first | (apply pg_I.out <;> first | assumption | exact Or.inl (by assumption) | exact Or.inr (by assumption)) | (apply pg_items.e0 <;> first | assumption | omega | (apply pg_ur.mk <;> first | assumption | decide) | (apply pg_us.mk <;> first | assumption | omega | decide)) | (apply pg_I.last <;> first | assumption | omega | (show _ = pm_los _; assumption) | (show _ = pm_his _; assumption) | (show _ = pm_lob _; assumption) | (show _ = pm_hib _; assumption)), by rw [ht]; exact hP9, va_K.moved hW.alike hK9, hD9⟩⟩, hS.F ht⟩) hS.2.2 dX12_items_131
          · skip
            have fc30 : ra29.toInt = 0 := congrArg Int32.toInt c30
            have q0pt3_ra29 := pt3_ra29 (by omega)
            refine lv_iload hx hb dX12_items_65 (lv_at hl 1 rfl) ?_
            refine lv_iconst (v := 1) hx hb dX12_items_67 (by decide) ?_
            refine lv_iload hx hb dX12_items_68 (lv_at hl 0 rfl) ?_
            refine lv_ishl hx hb dX12_items_70 ?_
            refine lv_topi (fun t31 et31 => ?_)
            refine lv_ior hx hb dX12_items_71 ?_
            refine lv_topi (fun t32 et32 => ?_)
            refine lv_istore (lv' := [(5, .int t32), (6, .int x19), (0, .ref h0), (1, .int 115), (2, .ref h2), (3, .int 0), (4, .int 4)]) hx hb dX12_items_72 hl (by decide) rfl (fun ls hl => ?_)
            have hax21 : x21.toInt ≤ 239 := by omega
            refine lv_aload_n hx hb dX12_items_74 rfl (lv_at hl 2 rfl) ?_
            refine lv_dup hx hb dX12_items_75 rfl ?_
            refine va_get (D := (dC, dI)) (ci := 12) (v := .int x21) (C := RX12) (T := TX12) (N := 48) hx hb hts (fun _ h => List.mem_cons_of_mem _ (List.mem_append_right _ h)) hown hK hP 0 rfl rfl 3 (by decide) (hts (.fieldLink RX12 112 "LeftArgumentsModel" "at" "I") (List.mem_cons_of_mem _ (List.mem_append_left _ (List.mem_of_getElem? (i := 6) rfl)))) (fun _ h9 => h9) rfl dX12_items_76 ?_
            refine lv_iconst (v := 1) hx hb dX12_items_79 (by decide) ?_
            refine lv_iadd hx hb dX12_items_80 ?_
            refine lv_topi (fun t33 et33 => ?_)
            have gt33 : t33.toInt = x21.toInt + 1 := pv_add (a := x21.toInt) (b := 1) et33 rfl (by decide) (by omega) (by omega)
            refine va_put (D := (dC, dI)) (ci := 12) (v := .int t33) (ty := .int) (C := RX12) (T := TX12) (N := 48) hx hb hts (fun _ h => List.mem_cons_of_mem _ (List.mem_append_right _ h)) tyX12 tyX12_ok nmX12 hown hK hP hD hS 0 rfl rfl 3 (by decide) (hts (.fieldLink RX12 112 "LeftArgumentsModel" "at" "I") (List.mem_cons_of_mem _ (List.mem_append_left _ (List.mem_of_getElem? (i := 6) rfl)))) (fun _ h9 => h9) rfl (by decide +kernel) rfl rfl (Nat.le_of_ble_eq_true rfl) dX12_items_81 (fun H locs hP hD hS => ?_)
            have hP : va_P (dC, dI) vwCl (wd_490cd7da h0 v0 h1 v1 t33 (-1) v3 r0 r1 r2 r3 r4 r5 r6 v4 v5 r7 r8 h2 r9 v6 r10 r11 v7 v8 r12 r13 v9 v10 r14 v11 v12 r15 v13 w14 r16 v15 v16 r17 r18 r19 r20 r21 r22 v17 r23 r24 r25 v18 h1 g0 f19 h2 g1 fn22) H := hP
            have hD : va_D A (wd_490cd7da h0 v0 h1 v1 t33 (-1) v3 r0 r1 r2 r3 r4 r5 r6 v4 v5 r7 r8 h2 r9 v6 r10 r11 v7 v8 r12 r13 v9 v10 r14 v11 v12 r15 v13 w14 r16 v15 v16 r17 r18 r19 r20 r21 r22 v17 r23 r24 r25 v18 h1 g0 f19 h2 g1 fn22) := hD
            refine lv_aload_n hx hb dX12_items_84 rfl (lv_at hl 4 rfl) ?_
            refine lv_iload_n hx hb dX12_items_85 rfl (lv_at hl 5 rfl) ?_
            refine lv_iload hx hb dX12_items_86 (lv_at hl 1 rfl) ?_
            refine lv_iadd hx hb dX12_items_88 ?_
            refine lv_topi (fun t34 et34 => ?_)
            have gt34 : t34.toInt = 0 + x19.toInt := pv_add (a := 0) (b := x19.toInt) et34 (by decide) rfl (by omega) (by omega)
            refine lv_aload_n hx hb dX12_items_89 rfl (lv_at hl 2 rfl) ?_
            refine lv_iload_n hx hb dX12_items_90 rfl (lv_at hl 3 rfl) ?_
            refine lv_iload hx hb dX12_items_91 (lv_at hl 1 rfl) ?_
            have hPc := hP.sub (ws' := []) [] rfl
            have hDc := hD.sub (ws' := []) [] (by decide) rfl
            have hKc := hK.sub (tys' := []) [] rfl
            have hFc := va_free (wc := []) hD hS hA [] rfl
            refine va_calli (va_runS (As := [.int 115, .int x19]) (rest := [.ref h0, .int t34, .ref h2]) ⟨hx, hb, hml, hown, hts⟩ (k_X12_lowest_1 l dC dI x19 ⟨by first | omega | decide, by first | omega | decide⟩ H.size) (va_cwS 2 hts g_X12_items_1_8 rfl rfl rfl (by decide +kernel) ⟨Nat.le_of_ble_eq_true rfl, Nat.le_of_ble_eq_true rfl⟩) ⟨fun a U g mk q => by obtain ⟨q0, q1, qP, qK, qD⟩ := q; exact ⟨q0, q1, qP, va_K.moved (u := U) (U := U.calling g mk a) (Vm.Alike.refl U.vm) qK, qD⟩, fun U hU hW => ⟨rfl, by rw [hU], by rw [hU]; exact hPc, va_K.moved hW.alike hKc, hDc.weaken (fun _ _ _ _ => trivial)⟩⟩ rfl rfl hl.1 rfl (lv_room (Nat.le_of_ble_eq_true rfl)) dX12_items_93 ⟨Nat.le_of_ble_eq_true rfl, Nat.le_of_ble_eq_true rfl⟩) hS (fun q _ h => hFc q h) hFc (fun ra35 u t H1 locs ht hvm hwra35 hB hz1 hk1 hS => ?_)
            try rw [hwra35] at hB
            obtain ⟨pt0_ra35, pt1_ra35, pt2_ra35, hP1, hK1, hD1⟩ := hB
            rw [ht] at hP1
            obtain ⟨hP, hD⟩ := va_join (wr := (wd_490cd7da h0 v0 h1 v1 t33 (-1) v3 r0 r1 r2 r3 r4 r5 r6 v4 v5 r7 r8 h2 r9 v6 r10 r11 v7 v8 r12 r13 v9 v10 r14 v11 v12 r15 v13 w14 r16 v15 v16 r17 r18 r19 r20 r21 r22 v17 r23 r24 r25 v18 h1 g0 f19 h2 g1 fn22)) (w1 := []) hP hD [] [0, 1, 2] rfl rfl (by decide) (by decide) hk1 hFc hP1 hD1
            generalize H1 = H at hP hS ⊢
            have hP : va_P (dC, dI) vwCl (wd_490cd7da h0 v0 h1 v1 t33 (-1) v3 r0 r1 r2 r3 r4 r5 r6 v4 v5 r7 r8 h2 r9 v6 r10 r11 v7 v8 r12 r13 v9 v10 r14 v11 v12 r15 v13 w14 r16 v15 v16 r17 r18 r19 r20 r21 r22 v17 r23 r24 r25 v18 h1 g0 f19 h2 g1 fn22) H := hP
            have hD : va_D A (wd_490cd7da h0 v0 h1 v1 t33 (-1) v3 r0 r1 r2 r3 r4 r5 r6 v4 v5 r7 r8 h2 r9 v6 r10 r11 v7 v8 r12 r13 v9 v10 r14 v11 v12 r15 v13 w14 r16 v15 v16 r17 r18 r19 r20 r21 r22 v17 r23 r24 r25 v18 h1 g0 f19 h2 g1 fn22) := hD
            refine lv_iload_n hx hb dX12_items_96 rfl (lv_at hl 3 rfl) ?_
            refine lv_iload hx hb dX12_items_97 (lv_at hl 1 rfl) ?_
            have hPc := hP.sub (ws' := []) [] rfl
            have hDc := hD.sub (ws' := []) [] (by decide) rfl
            have hKc := hK.sub (tys' := []) [] rfl
            have hFc := va_free (wc := []) hD hS hA [] rfl
            refine va_calli (va_runS (As := [.int 115, .int x19]) (rest := [.int ra35, .ref h0, .int t34, .ref h2]) ⟨hx, hb, hml, hown, hts⟩ (k_X12_highest_1 l dC dI x19 ⟨by first | omega | decide, by first | omega | decide⟩ H.size) (va_cwS 2 hts g_X12_items_1_9 rfl rfl rfl (by decide +kernel) ⟨Nat.le_of_ble_eq_true rfl, Nat.le_of_ble_eq_true rfl⟩) ⟨fun a U g mk q => by obtain ⟨q0, q1, qP, qK, qD⟩ := q; exact ⟨q0, q1, qP, va_K.moved (u := U) (U := U.calling g mk a) (Vm.Alike.refl U.vm) qK, qD⟩, fun U hU hW => ⟨rfl, by rw [hU], by rw [hU]; exact hPc, va_K.moved hW.alike hKc, hDc.weaken (fun _ _ _ _ => trivial)⟩⟩ rfl rfl hl.1 rfl (lv_room (Nat.le_of_ble_eq_true rfl)) dX12_items_99 ⟨Nat.le_of_ble_eq_true rfl, Nat.le_of_ble_eq_true rfl⟩) hS (fun q _ h => hFc q h) hFc (fun ra36 u t H1 locs ht hvm hwra36 hB hz1 hk1 hS => ?_)
            try rw [hwra36] at hB
            obtain ⟨pt0_ra36, pt1_ra36, pt2_ra36, hP1, hK1, hD1⟩ := hB
            rw [ht] at hP1
            obtain ⟨hP, hD⟩ := va_join (wr := (wd_490cd7da h0 v0 h1 v1 t33 (-1) v3 r0 r1 r2 r3 r4 r5 r6 v4 v5 r7 r8 h2 r9 v6 r10 r11 v7 v8 r12 r13 v9 v10 r14 v11 v12 r15 v13 w14 r16 v15 v16 r17 r18 r19 r20 r21 r22 v17 r23 r24 r25 v18 h1 g0 f19 h2 g1 fn22)) (w1 := []) hP hD [] [0, 1, 2] rfl rfl (by decide) (by decide) hk1 hFc hP1 hD1
            generalize H1 = H at hP hS ⊢
            have hP : va_P (dC, dI) vwCl (wd_490cd7da h0 v0 h1 v1 t33 (-1) v3 r0 r1 r2 r3 r4 r5 r6 v4 v5 r7 r8 h2 r9 v6 r10 r11 v7 v8 r12 r13 v9 v10 r14 v11 v12 r15 v13 w14 r16 v15 v16 r17 r18 r19 r20 r21 r22 v17 r23 r24 r25 v18 h1 g0 f19 h2 g1 fn22) H := hP
            have hD : va_D A (wd_490cd7da h0 v0 h1 v1 t33 (-1) v3 r0 r1 r2 r3 r4 r5 r6 v4 v5 r7 r8 h2 r9 v6 r10 r11 v7 v8 r12 r13 v9 v10 r14 v11 v12 r15 v13 w14 r16 v15 v16 r17 r18 r19 r20 r21 r22 v17 r23 r24 r25 v18 h1 g0 f19 h2 g1 fn22) := hD
            have hPc := hP.sub (ws' := (wd_f4cd022e h0 v0 h1 v1 t33 (-1) v3 r0 r1 r2 r3 r4 r5 r6 v4 v5 r7 r8 h2 r9 v6 r10 r11 v7 v8 r12 r13 v9 v10 r14 v11 v12 r15 v13 w14 r16 v15 v16 r17 r18 r19 r20 r21 r22 v17 r23 r24 r25 v18 h1 g0 f19)) [0, 1] rfl
            have hDc := hD.sub (ws' := (wd_f4cd022e h0 v0 h1 v1 t33 (-1) v3 r0 r1 r2 r3 r4 r5 r6 v4 v5 r7 r8 h2 r9 v6 r10 r11 v7 v8 r12 r13 v9 v10 r14 v11 v12 r15 v13 w14 r16 v15 v16 r17 r18 r19 r20 r21 r22 v17 r23 r24 r25 v18 h1 g0 f19)) [0, 1] (by decide) rfl
            have hKc := hK.sub (tys' := [(g0, .int)]) [0] rfl
            have hFc := va_free (wc := (wd_f4cd022e h0 v0 h1 v1 t33 (-1) v3 r0 r1 r2 r3 r4 r5 r6 v4 v5 r7 r8 h2 r9 v6 r10 r11 v7 v8 r12 r13 v9 v10 r14 v11 v12 r15 v13 w14 r16 v15 v16 r17 r18 r19 r20 r21 r22 v17 r23 r24 r25 v18 h1 g0 f19)) hD hS hA [0, 1] rfl
            refine va_calli (va_runV (As := [.int ra35, .int ra36]) (rest := [.int t34, .ref h2]) ⟨hx, hb, hml, hown, hts⟩ (k_X12_number l dC dI h0 h1 v0 v1 t33 v3 r0 r1 r2 r3 r4 r5 r6 v4 v5 r7 r8 h2 r9 v6 r10 r11 v7 v8 r12 r13 v9 v10 r14 v11 v12 r15 v13 w14 r16 v15 v16 r17 r18 r19 r20 r21 r22 v17 r23 r24 r25 v18 g0 f19 ra35 ra36 ⟨by first | omega | decide, by first | omega | decide⟩ ⟨by first | omega | decide, by first | omega | decide⟩ ⟨by first | omega | decide, by first | omega | decide⟩ ⟨by first | omega | decide, by first | omega | decide⟩ ⟨by first | omega | decide, by first | omega | decide⟩ ⟨by first | omega | decide, by first | omega | decide⟩ ⟨by first | omega | decide, by first | omega | decide⟩ ⟨by first | omega | decide, by first | omega | decide⟩ ⟨by first | omega | decide, by first | omega | decide⟩ ⟨by first | omega | decide, by first | omega | decide⟩ ⟨by first | omega | decide, by first | omega | decide⟩ ia_f19 H.size) (cwV 2 hts g_X12_items_1_10 rfl rfl rfl (by decide +kernel) ⟨Nat.le_of_ble_eq_true rfl, Nat.le_of_ble_eq_true rfl⟩) ⟨fun a U g mk q => by obtain ⟨q0, q1, qP, qK, qD⟩ := q; exact ⟨q0, q1, qP, va_K.moved (u := U) (U := U.calling g mk a) (Vm.Alike.refl U.vm) qK, qD⟩, va_recv hKc hPc (ci := 12) (q0 := 0) rfl rfl, fun U hU hW => ⟨rfl, by rw [hU], by rw [hU]; exact hPc, va_K.moved hW.alike hKc, hDc.weaken (fun _ _ _ _ => trivial)⟩⟩ rfl rfl hl.1 rfl (lv_room (Nat.le_of_ble_eq_true rfl)) dX12_items_102 ⟨Nat.le_of_ble_eq_true rfl, Nat.le_of_ble_eq_true rfl⟩) hS (fun q _ h => hFc q h) hFc (fun ra37 u t H1 locs ht hvm hwra37 hB hz1 hk1 hS => ?_)
            try rw [hwra37] at hB
            rcases hB with hB | hB
            · skip
              obtain ⟨x38, oa_x38, ob_x38, pt0_ra37, pt1_ra37, pt2_ra37, pt3_ra37, pt4_ra37, hP1, hK1, hD1⟩ := hB
              rw [ht] at hP1
              obtain ⟨hP, hD⟩ := va_join (wr := (wd_6f8f3203 h2 g1 fn22)) (w1 := (wd_f4cd022e h0 v0 h1 v1 x38 (-1) v3 r0 r1 r2 r3 r4 r5 r6 v4 v5 r7 r8 h2 r9 v6 r10 r11 v7 v8 r12 r13 v9 v10 r14 v11 v12 r15 v13 w14 r16 v15 v16 r17 r18 r19 r20 r21 r22 v17 r23 r24 r25 v18 h1 g0 f19)) hP hD [0, 1] [2] rfl rfl (by decide) (by decide) hk1 hFc hP1 hD1
              generalize H1 = H at hP hS ⊢
              have hP := hP.sub (ws' := (wd_490cd7da h0 v0 h1 v1 x38 (-1) v3 r0 r1 r2 r3 r4 r5 r6 v4 v5 r7 r8 h2 r9 v6 r10 r11 v7 v8 r12 r13 v9 v10 r14 v11 v12 r15 v13 w14 r16 v15 v16 r17 r18 r19 r20 r21 r22 v17 r23 r24 r25 v18 h1 g0 f19 h2 g1 fn22)) [1, 2, 0] rfl
              have hD := hD.sub (ws' := (wd_490cd7da h0 v0 h1 v1 x38 (-1) v3 r0 r1 r2 r3 r4 r5 r6 v4 v5 r7 r8 h2 r9 v6 r10 r11 v7 v8 r12 r13 v9 v10 r14 v11 v12 r15 v13 w14 r16 v15 v16 r17 r18 r19 r20 r21 r22 v17 r23 r24 r25 v18 h1 g0 f19 h2 g1 fn22)) [1, 2, 0] (by decide) rfl
              have hP : va_P (dC, dI) vwCl (wd_490cd7da h0 v0 h1 v1 x38 (-1) v3 r0 r1 r2 r3 r4 r5 r6 v4 v5 r7 r8 h2 r9 v6 r10 r11 v7 v8 r12 r13 v9 v10 r14 v11 v12 r15 v13 w14 r16 v15 v16 r17 r18 r19 r20 r21 r22 v17 r23 r24 r25 v18 h1 g0 f19 h2 g1 fn22) H := hP
              have hD : va_D A (wd_490cd7da h0 v0 h1 v1 x38 (-1) v3 r0 r1 r2 r3 r4 r5 r6 v4 v5 r7 r8 h2 r9 v6 r10 r11 v7 v8 r12 r13 v9 v10 r14 v11 v12 r15 v13 w14 r16 v15 v16 r17 r18 r19 r20 r21 r22 v17 r23 r24 r25 v18 h1 g0 f19 h2 g1 fn22) := hD
              refine va_iast hx hb hK hP hD hS 2 1 rfl rfl (vp_in_iff.mpr ⟨by omega, by omega⟩) dX12_items_105 (fun H locs hP hD hS => ?_)
              obtain ⟨fn39, efn39⟩ : ∃ g : Nat → Int32, g = upd fn22 (Int32.toNatClampNeg t34) ra37 := ⟨_, rfl⟩
              rw [← efn39] at hP hD
              have hP : va_P (dC, dI) vwCl (wd_490cd7da h0 v0 h1 v1 x38 (-1) v3 r0 r1 r2 r3 r4 r5 r6 v4 v5 r7 r8 h2 r9 v6 r10 r11 v7 v8 r12 r13 v9 v10 r14 v11 v12 r15 v13 w14 r16 v15 v16 r17 r18 r19 r20 r21 r22 v17 r23 r24 r25 v18 h1 g0 f19 h2 g1 fn39) H := hP
              have hD : va_D A (wd_490cd7da h0 v0 h1 v1 x38 (-1) v3 r0 r1 r2 r3 r4 r5 r6 v4 v5 r7 r8 h2 r9 v6 r10 r11 v7 v8 r12 r13 v9 v10 r14 v11 v12 r15 v13 w14 r16 v15 v16 r17 r18 r19 r20 r21 r22 v17 r23 r24 r25 v18 h1 g0 f19 h2 g1 fn39) := hD
              refine lv_aload_n hx hb dX12_items_106 rfl (lv_at hl 2 rfl) ?_
              refine va_get (D := (dC, dI)) (ci := 12) (v := .int (-1)) (C := RX12) (T := TX12) (N := 48) hx hb hts (fun _ h => List.mem_cons_of_mem _ (List.mem_append_right _ h)) hown hK hP 0 rfl rfl 4 (by decide) (hts (.fieldLink RX12 119 "LeftArgumentsModel" "wrong" "I") (List.mem_cons_of_mem _ (List.mem_append_left _ (List.mem_of_getElem? (i := 18) rfl)))) (fun _ h9 => h9) rfl dX12_items_107 ?_
              refine lv_iconst (v := (-1)) hx hb dX12_items_110 (by decide) ?_
              refine lv_icmp_ne (tgt := 125) hx hb dX12_items_111 (by decide) (fun c => absurd (by decide) c) (fun _ => ?_)
              refine lv_iload_n hx hb dX12_items_114 rfl (lv_at hl 3 rfl) ?_
              refine lv_aload_n hx hb dX12_items_115 rfl (lv_at hl 2 rfl) ?_
              have hPc := hP.sub (ws' := (wd_f4cd022e h0 v0 h1 v1 x38 (-1) v3 r0 r1 r2 r3 r4 r5 r6 v4 v5 r7 r8 h2 r9 v6 r10 r11 v7 v8 r12 r13 v9 v10 r14 v11 v12 r15 v13 w14 r16 v15 v16 r17 r18 r19 r20 r21 r22 v17 r23 r24 r25 v18 h1 g0 f19)) [0, 1] rfl
              have hDc := hD.sub (ws' := (wd_f4cd022e h0 v0 h1 v1 x38 (-1) v3 r0 r1 r2 r3 r4 r5 r6 v4 v5 r7 r8 h2 r9 v6 r10 r11 v7 v8 r12 r13 v9 v10 r14 v11 v12 r15 v13 w14 r16 v15 v16 r17 r18 r19 r20 r21 r22 v17 r23 r24 r25 v18 h1 g0 f19)) [0, 1] (by decide) rfl
              have hKc := hK.sub (tys' := [(g0, .int)]) [0] rfl
              have hFc := va_free (wc := (wd_f4cd022e h0 v0 h1 v1 x38 (-1) v3 r0 r1 r2 r3 r4 r5 r6 v4 v5 r7 r8 h2 r9 v6 r10 r11 v7 v8 r12 r13 v9 v10 r14 v11 v12 r15 v13 w14 r16 v15 v16 r17 r18 r19 r20 r21 r22 v17 r23 r24 r25 v18 h1 g0 f19)) hD hS hA [0, 1] rfl
              refine va_calli (va_runV (As := []) (rest := [.int 115]) ⟨hx, hb, hml, hown, hts⟩ (k_X12_look l dC dI h0 h1 v0 v1 x38 ((-1)) v3 r0 r1 r2 r3 r4 r5 r6 v4 v5 r7 r8 h2 r9 v6 r10 r11 v7 v8 r12 r13 v9 v10 r14 v11 v12 r15 v13 w14 r16 v15 v16 r17 r18 r19 r20 r21 r22 v17 r23 r24 r25 v18 g0 f19 ⟨by first | omega | decide, by first | omega | decide⟩ ⟨by first | omega | decide, by first | omega | decide⟩ ⟨by first | omega | decide, by first | omega | decide⟩ ⟨by first | omega | decide, by first | omega | decide⟩ ⟨by first | omega | decide, by first | omega | decide⟩ ⟨by first | omega | decide, by first | omega | decide⟩ ⟨by first | omega | decide, by first | omega | decide⟩ ⟨by first | omega | decide, by first | omega | decide⟩ ⟨by first | omega | decide, by first | omega | decide⟩ ⟨by first | omega | decide, by first | omega | decide⟩ ⟨by first | omega | decide, by first | omega | decide⟩ ia_f19 H.size) (cwV 0 hts g_X12_items_1_4 rfl rfl rfl (by decide +kernel) ⟨Nat.le_of_ble_eq_true rfl, Nat.le_of_ble_eq_true rfl⟩) ⟨fun a U g mk q => by obtain ⟨q0, q1, qP, qK, qD⟩ := q; exact ⟨q0, q1, qP, va_K.moved (u := U) (U := U.calling g mk a) (Vm.Alike.refl U.vm) qK, qD⟩, va_recv hKc hPc (ci := 12) (q0 := 0) rfl rfl, fun U hU hW => ⟨rfl, by rw [hU], by rw [hU]; exact hPc, va_K.moved hW.alike hKc, hDc.weaken (fun _ _ _ _ => trivial)⟩⟩ rfl rfl hl.1 rfl (lv_room (Nat.le_of_ble_eq_true rfl)) dX12_items_116 ⟨Nat.le_of_ble_eq_true rfl, Nat.le_of_ble_eq_true rfl⟩) hS (fun q _ h => hFc q h) hFc (fun ra40 u t H1 locs ht hvm hwra40 hB hz1 hk1 hS => ?_)
              try rw [hwra40] at hB
              have hkra40_0 : (((-1) : Int32)).toInt = -1 := by decide
              rcases hB with hB | hB
              · skip
                obtain ⟨x41, oa_x41, ob_x41, pt0_ra40, pt1_ra40, pt2_ra40, pt3_ra40, pt4_ra40, pt5_ra40, pt6_ra40, hP1, hK1, hD1⟩ := hB
                rw [ht] at hP1
                obtain ⟨hP, hD⟩ := va_join (wr := (wd_6f8f3203 h2 g1 fn39)) (w1 := (wd_f4cd022e h0 v0 h1 v1 x41 (-1) v3 r0 r1 r2 r3 r4 r5 r6 v4 v5 r7 r8 h2 r9 v6 r10 r11 v7 v8 r12 r13 v9 v10 r14 v11 v12 r15 v13 w14 r16 v15 v16 r17 r18 r19 r20 r21 r22 v17 r23 r24 r25 v18 h1 g0 f19)) hP hD [0, 1] [2] rfl rfl (by decide) (by decide) hk1 hFc hP1 hD1
                generalize H1 = H at hP hS ⊢
                have hP := hP.sub (ws' := (wd_490cd7da h0 v0 h1 v1 x41 (-1) v3 r0 r1 r2 r3 r4 r5 r6 v4 v5 r7 r8 h2 r9 v6 r10 r11 v7 v8 r12 r13 v9 v10 r14 v11 v12 r15 v13 w14 r16 v15 v16 r17 r18 r19 r20 r21 r22 v17 r23 r24 r25 v18 h1 g0 f19 h2 g1 fn39)) [1, 2, 0] rfl
                have hD := hD.sub (ws' := (wd_490cd7da h0 v0 h1 v1 x41 (-1) v3 r0 r1 r2 r3 r4 r5 r6 v4 v5 r7 r8 h2 r9 v6 r10 r11 v7 v8 r12 r13 v9 v10 r14 v11 v12 r15 v13 w14 r16 v15 v16 r17 r18 r19 r20 r21 r22 v17 r23 r24 r25 v18 h1 g0 f19 h2 g1 fn39)) [1, 2, 0] (by decide) rfl
                have hP : va_P (dC, dI) vwCl (wd_490cd7da h0 v0 h1 v1 x41 (-1) v3 r0 r1 r2 r3 r4 r5 r6 v4 v5 r7 r8 h2 r9 v6 r10 r11 v7 v8 r12 r13 v9 v10 r14 v11 v12 r15 v13 w14 r16 v15 v16 r17 r18 r19 r20 r21 r22 v17 r23 r24 r25 v18 h1 g0 f19 h2 g1 fn39) H := hP
                have hD : va_D A (wd_490cd7da h0 v0 h1 v1 x41 (-1) v3 r0 r1 r2 r3 r4 r5 r6 v4 v5 r7 r8 h2 r9 v6 r10 r11 v7 v8 r12 r13 v9 v10 r14 v11 v12 r15 v13 w14 r16 v15 v16 r17 r18 r19 r20 r21 r22 v17 r23 r24 r25 v18 h1 g0 f19 h2 g1 fn39) := hD
                obtain rfl : ra40 = ((-1) : Int32) := Int32.toInt_inj.mp (by rw [show (((-1) : Int32)).toInt = -1 by decide]; omega)
                have hPc := hP.sub (ws' := []) [] rfl
                have hDc := hD.sub (ws' := []) [] (by decide) rfl
                have hKc := hK.sub (tys' := []) [] rfl
                have hFc := va_free (wc := []) hD hS hA [] rfl
                refine va_calli (va_runS (As := [.int 115, .int (-1)]) (rest := []) ⟨hx, hb, hml, hown, hts⟩ (k_X12_itemOf_1 l dC dI ((-1))  H.size) (va_cwS 2 hts g_X12_items_1_5 rfl rfl rfl (by decide +kernel) ⟨Nat.le_of_ble_eq_true rfl, Nat.le_of_ble_eq_true rfl⟩) ⟨fun a U g mk q => by obtain ⟨q0, q1, qP, qK, qD⟩ := q; exact ⟨q0, q1, qP, va_K.moved (u := U) (U := U.calling g mk a) (Vm.Alike.refl U.vm) qK, qD⟩, fun U hU hW => ⟨rfl, by rw [hU], by rw [hU]; exact hPc, va_K.moved hW.alike hKc, hDc.weaken (fun _ _ _ _ => trivial)⟩⟩ rfl rfl hl.1 rfl (lv_room (Nat.le_of_ble_eq_true rfl)) dX12_items_119 ⟨Nat.le_of_ble_eq_true rfl, Nat.le_of_ble_eq_true rfl⟩) hS (fun q _ h => hFc q h) hFc (fun ra42 u t H1 locs ht hvm hwra42 hB hz1 hk1 hS => ?_)
                try rw [hwra42] at hB
                have hkra42_0 : (((-1) : Int32)).toInt = -1 := by decide
                obtain ⟨pt0_ra42, pt1_ra42, pt2_ra42, pt3_ra42, hP1, hK1, hD1⟩ := hB
                rw [ht] at hP1
                obtain ⟨hP, hD⟩ := va_join (wr := (wd_490cd7da h0 v0 h1 v1 x41 (-1) v3 r0 r1 r2 r3 r4 r5 r6 v4 v5 r7 r8 h2 r9 v6 r10 r11 v7 v8 r12 r13 v9 v10 r14 v11 v12 r15 v13 w14 r16 v15 v16 r17 r18 r19 r20 r21 r22 v17 r23 r24 r25 v18 h1 g0 f19 h2 g1 fn39)) (w1 := []) hP hD [] [0, 1, 2] rfl rfl (by decide) (by decide) hk1 hFc hP1 hD1
                generalize H1 = H at hP hS ⊢
                have hP : va_P (dC, dI) vwCl (wd_490cd7da h0 v0 h1 v1 x41 (-1) v3 r0 r1 r2 r3 r4 r5 r6 v4 v5 r7 r8 h2 r9 v6 r10 r11 v7 v8 r12 r13 v9 v10 r14 v11 v12 r15 v13 w14 r16 v15 v16 r17 r18 r19 r20 r21 r22 v17 r23 r24 r25 v18 h1 g0 f19 h2 g1 fn39) H := hP
                have hD : va_D A (wd_490cd7da h0 v0 h1 v1 x41 (-1) v3 r0 r1 r2 r3 r4 r5 r6 v4 v5 r7 r8 h2 r9 v6 r10 r11 v7 v8 r12 r13 v9 v10 r14 v11 v12 r15 v13 w14 r16 v15 v16 r17 r18 r19 r20 r21 r22 v17 r23 r24 r25 v18 h1 g0 f19 h2 g1 fn39) := hD
                have hkra42 : ra42 = pg_it true (pg_ch f19 v1.toInt x41.toInt) := by rw [show pg_ch f19 v1.toInt x41.toInt = (-1) by omega]; exact pt3_ra42
                refine lv_goto (tgt := 126) hx hb dX12_items_122 (by decide) ?_
                refine lv_istore (lv' := [(6, .int ra42), (5, .int t32), (0, .ref h0), (1, .int 115), (2, .ref h2), (3, .int 0), (4, .int 4)]) hx hb dX12_items_126 hl (by decide) rfl (fun ls hl => ?_)
                refine lv_goto (tgt := 41) hx hb dX12_items_128 (by decide) ?_
                exact ih_hL27 ra42 t32 x41 fn39 H locs ls (by first | omega | decide) (by first | omega | decide) (by first | omega | decide) (by first | omega | decide) (by first | assumption | (apply pm_RR.step <;> first | assumption | omega) | (apply pm_RR.init <;> first | assumption | decide)) (by omega) (by omega) (by first | assumption | (apply pg_I.ini <;> first | assumption | omega | (apply pg_ur.mk <;> first | assumption | decide) | (apply pg_us.mk <;> first | assumption | omega | decide)) | (apply pg_I.next <;> first | assumption | omega | (show _ = pm_los _; assumption) | (show _ = pm_his _; assumption) | (show _ = pm_lob _; assumption) | (show _ = pm_hib _; assumption))) (by assumption) (by assumption) (by first | omega | (simp only [Int.toNat] at *; omega)) hP hD hS (lv_sub hl [0, 1, 2, 3, 4, 5, 6] rfl)
              · skip
                obtain ⟨x43, oa_x43, ob_x43, pt0_ra40, pt1_ra40, pt2_ra40, pt3_ra40, pt4_ra40, pt5_ra40, pt6_ra40, pt7_ra40, hP1, hK1, hD1⟩ := hB
                rw [ht] at hP1
                obtain ⟨hP, hD⟩ := va_join (wr := (wd_6f8f3203 h2 g1 fn39)) (w1 := (wd_f4cd022e h0 v0 h1 v1 x43 (-1) v3 r0 r1 r2 r3 r4 r5 r6 v4 v5 r7 r8 h2 r9 v6 r10 r11 v7 v8 r12 r13 v9 v10 r14 v11 v12 r15 v13 w14 r16 v15 v16 r17 r18 r19 r20 r21 r22 v17 r23 r24 r25 v18 h1 g0 f19)) hP hD [0, 1] [2] rfl rfl (by decide) (by decide) hk1 hFc hP1 hD1
                generalize H1 = H at hP hS ⊢
                have hP := hP.sub (ws' := (wd_490cd7da h0 v0 h1 v1 x43 (-1) v3 r0 r1 r2 r3 r4 r5 r6 v4 v5 r7 r8 h2 r9 v6 r10 r11 v7 v8 r12 r13 v9 v10 r14 v11 v12 r15 v13 w14 r16 v15 v16 r17 r18 r19 r20 r21 r22 v17 r23 r24 r25 v18 h1 g0 f19 h2 g1 fn39)) [1, 2, 0] rfl
                have hD := hD.sub (ws' := (wd_490cd7da h0 v0 h1 v1 x43 (-1) v3 r0 r1 r2 r3 r4 r5 r6 v4 v5 r7 r8 h2 r9 v6 r10 r11 v7 v8 r12 r13 v9 v10 r14 v11 v12 r15 v13 w14 r16 v15 v16 r17 r18 r19 r20 r21 r22 v17 r23 r24 r25 v18 h1 g0 f19 h2 g1 fn39)) [1, 2, 0] (by decide) rfl
                have hP : va_P (dC, dI) vwCl (wd_490cd7da h0 v0 h1 v1 x43 (-1) v3 r0 r1 r2 r3 r4 r5 r6 v4 v5 r7 r8 h2 r9 v6 r10 r11 v7 v8 r12 r13 v9 v10 r14 v11 v12 r15 v13 w14 r16 v15 v16 r17 r18 r19 r20 r21 r22 v17 r23 r24 r25 v18 h1 g0 f19 h2 g1 fn39) H := hP
                have hD : va_D A (wd_490cd7da h0 v0 h1 v1 x43 (-1) v3 r0 r1 r2 r3 r4 r5 r6 v4 v5 r7 r8 h2 r9 v6 r10 r11 v7 v8 r12 r13 v9 v10 r14 v11 v12 r15 v13 w14 r16 v15 v16 r17 r18 r19 r20 r21 r22 v17 r23 r24 r25 v18 h1 g0 f19 h2 g1 fn39) := hD
                have hPc := hP.sub (ws' := []) [] rfl
                have hDc := hD.sub (ws' := []) [] (by decide) rfl
                have hKc := hK.sub (tys' := []) [] rfl
                have hFc := va_free (wc := []) hD hS hA [] rfl
                refine va_calli (va_runS (As := [.int 115, .int ra40]) (rest := []) ⟨hx, hb, hml, hown, hts⟩ (k_X12_itemOf_1 l dC dI ra40  H.size) (va_cwS 2 hts g_X12_items_1_5 rfl rfl rfl (by decide +kernel) ⟨Nat.le_of_ble_eq_true rfl, Nat.le_of_ble_eq_true rfl⟩) ⟨fun a U g mk q => by obtain ⟨q0, q1, qP, qK, qD⟩ := q; exact ⟨q0, q1, qP, va_K.moved (u := U) (U := U.calling g mk a) (Vm.Alike.refl U.vm) qK, qD⟩, fun U hU hW => ⟨rfl, by rw [hU], by rw [hU]; exact hPc, va_K.moved hW.alike hKc, hDc.weaken (fun _ _ _ _ => trivial)⟩⟩ rfl rfl hl.1 rfl (lv_room (Nat.le_of_ble_eq_true rfl)) dX12_items_119 ⟨Nat.le_of_ble_eq_true rfl, Nat.le_of_ble_eq_true rfl⟩) hS (fun q _ h => hFc q h) hFc (fun ra44 u t H1 locs ht hvm hwra44 hB hz1 hk1 hS => ?_)
                try rw [hwra44] at hB
                obtain ⟨pt0_ra44, pt1_ra44, pt2_ra44, pt3_ra44, hP1, hK1, hD1⟩ := hB
                rw [ht] at hP1
                obtain ⟨hP, hD⟩ := va_join (wr := (wd_490cd7da h0 v0 h1 v1 x43 (-1) v3 r0 r1 r2 r3 r4 r5 r6 v4 v5 r7 r8 h2 r9 v6 r10 r11 v7 v8 r12 r13 v9 v10 r14 v11 v12 r15 v13 w14 r16 v15 v16 r17 r18 r19 r20 r21 r22 v17 r23 r24 r25 v18 h1 g0 f19 h2 g1 fn39)) (w1 := []) hP hD [] [0, 1, 2] rfl rfl (by decide) (by decide) hk1 hFc hP1 hD1
                generalize H1 = H at hP hS ⊢
                have hP : va_P (dC, dI) vwCl (wd_490cd7da h0 v0 h1 v1 x43 (-1) v3 r0 r1 r2 r3 r4 r5 r6 v4 v5 r7 r8 h2 r9 v6 r10 r11 v7 v8 r12 r13 v9 v10 r14 v11 v12 r15 v13 w14 r16 v15 v16 r17 r18 r19 r20 r21 r22 v17 r23 r24 r25 v18 h1 g0 f19 h2 g1 fn39) H := hP
                have hD : va_D A (wd_490cd7da h0 v0 h1 v1 x43 (-1) v3 r0 r1 r2 r3 r4 r5 r6 v4 v5 r7 r8 h2 r9 v6 r10 r11 v7 v8 r12 r13 v9 v10 r14 v11 v12 r15 v13 w14 r16 v15 v16 r17 r18 r19 r20 r21 r22 v17 r23 r24 r25 v18 h1 g0 f19 h2 g1 fn39) := hD
                have hkra44 : ra44 = pg_it true (pg_ch f19 v1.toInt x43.toInt) := by rw [show pg_ch f19 v1.toInt x43.toInt = ra40.toInt by omega]; exact pt3_ra44
                refine lv_goto (tgt := 126) hx hb dX12_items_122 (by decide) ?_
                refine lv_istore (lv' := [(6, .int ra44), (5, .int t32), (0, .ref h0), (1, .int 115), (2, .ref h2), (3, .int 0), (4, .int 4)]) hx hb dX12_items_126 hl (by decide) rfl (fun ls hl => ?_)
                refine lv_goto (tgt := 41) hx hb dX12_items_128 (by decide) ?_
                exact ih_hL27 ra44 t32 x43 fn39 H locs ls (by first | omega | decide) (by first | omega | decide) (by first | omega | decide) (by first | omega | decide) (by first | assumption | (apply pm_RR.step <;> first | assumption | omega) | (apply pm_RR.init <;> first | assumption | decide)) (by omega) (by omega) (by first | assumption | (apply pg_I.ini <;> first | assumption | omega | (apply pg_ur.mk <;> first | assumption | decide) | (apply pg_us.mk <;> first | assumption | omega | decide)) | (apply pg_I.next <;> first | assumption | omega | (show _ = pm_los _; assumption) | (show _ = pm_his _; assumption) | (show _ = pm_lob _; assumption) | (show _ = pm_hib _; assumption))) (by assumption) (by assumption) (by first | omega | (simp only [Int.toNat] at *; omega)) hP hD hS (lv_sub hl [0, 1, 2, 3, 4, 5, 6] rfl)
            · skip
              obtain ⟨x45, x46, oa_x45, ob_x45, oa_x46, ob_x46, pt0_ra37, pt1_ra37, hP1, hK1, hD1⟩ := hB
              rw [ht] at hP1
              obtain ⟨hP, hD⟩ := va_join (wr := (wd_6f8f3203 h2 g1 fn22)) (w1 := (wd_f4cd022e h0 v0 h1 v1 x45 x46 v3 r0 r1 r2 r3 r4 r5 r6 v4 v5 r7 r8 h2 r9 v6 r10 r11 v7 v8 r12 r13 v9 v10 r14 v11 v12 r15 v13 w14 r16 v15 v16 r17 r18 r19 r20 r21 r22 v17 r23 r24 r25 v18 h1 g0 f19)) hP hD [0, 1] [2] rfl rfl (by decide) (by decide) hk1 hFc hP1 hD1
              generalize H1 = H at hP hS ⊢
              have hP := hP.sub (ws' := (wd_490cd7da h0 v0 h1 v1 x45 x46 v3 r0 r1 r2 r3 r4 r5 r6 v4 v5 r7 r8 h2 r9 v6 r10 r11 v7 v8 r12 r13 v9 v10 r14 v11 v12 r15 v13 w14 r16 v15 v16 r17 r18 r19 r20 r21 r22 v17 r23 r24 r25 v18 h1 g0 f19 h2 g1 fn22)) [1, 2, 0] rfl
              have hD := hD.sub (ws' := (wd_490cd7da h0 v0 h1 v1 x45 x46 v3 r0 r1 r2 r3 r4 r5 r6 v4 v5 r7 r8 h2 r9 v6 r10 r11 v7 v8 r12 r13 v9 v10 r14 v11 v12 r15 v13 w14 r16 v15 v16 r17 r18 r19 r20 r21 r22 v17 r23 r24 r25 v18 h1 g0 f19 h2 g1 fn22)) [1, 2, 0] (by decide) rfl
              have hP : va_P (dC, dI) vwCl (wd_490cd7da h0 v0 h1 v1 x45 x46 v3 r0 r1 r2 r3 r4 r5 r6 v4 v5 r7 r8 h2 r9 v6 r10 r11 v7 v8 r12 r13 v9 v10 r14 v11 v12 r15 v13 w14 r16 v15 v16 r17 r18 r19 r20 r21 r22 v17 r23 r24 r25 v18 h1 g0 f19 h2 g1 fn22) H := hP
              have hD : va_D A (wd_490cd7da h0 v0 h1 v1 x45 x46 v3 r0 r1 r2 r3 r4 r5 r6 v4 v5 r7 r8 h2 r9 v6 r10 r11 v7 v8 r12 r13 v9 v10 r14 v11 v12 r15 v13 w14 r16 v15 v16 r17 r18 r19 r20 r21 r22 v17 r23 r24 r25 v18 h1 g0 f19 h2 g1 fn22) := hD
              refine va_iast hx hb hK hP hD hS 2 1 rfl rfl (vp_in_iff.mpr ⟨by omega, by omega⟩) dX12_items_105 (fun H locs hP hD hS => ?_)
              obtain ⟨fn47, efn47⟩ : ∃ g : Nat → Int32, g = upd fn22 (Int32.toNatClampNeg t34) ra37 := ⟨_, rfl⟩
              rw [← efn47] at hP hD
              have hP : va_P (dC, dI) vwCl (wd_490cd7da h0 v0 h1 v1 x45 x46 v3 r0 r1 r2 r3 r4 r5 r6 v4 v5 r7 r8 h2 r9 v6 r10 r11 v7 v8 r12 r13 v9 v10 r14 v11 v12 r15 v13 w14 r16 v15 v16 r17 r18 r19 r20 r21 r22 v17 r23 r24 r25 v18 h1 g0 f19 h2 g1 fn47) H := hP
              have hD : va_D A (wd_490cd7da h0 v0 h1 v1 x45 x46 v3 r0 r1 r2 r3 r4 r5 r6 v4 v5 r7 r8 h2 r9 v6 r10 r11 v7 v8 r12 r13 v9 v10 r14 v11 v12 r15 v13 w14 r16 v15 v16 r17 r18 r19 r20 r21 r22 v17 r23 r24 r25 v18 h1 g0 f19 h2 g1 fn47) := hD
              refine lv_aload_n hx hb dX12_items_106 rfl (lv_at hl 2 rfl) ?_
              refine va_get (D := (dC, dI)) (ci := 12) (v := .int x46) (C := RX12) (T := TX12) (N := 48) hx hb hts (fun _ h => List.mem_cons_of_mem _ (List.mem_append_right _ h)) hown hK hP 0 rfl rfl 4 (by decide) (hts (.fieldLink RX12 119 "LeftArgumentsModel" "wrong" "I") (List.mem_cons_of_mem _ (List.mem_append_left _ (List.mem_of_getElem? (i := 18) rfl)))) (fun _ h9 => h9) rfl dX12_items_107 ?_
              refine lv_iconst (v := (-1)) hx hb dX12_items_110 (by decide) ?_
              refine lv_icmp_ne (tgt := 125) hx hb dX12_items_111 (by decide) (fun _ => ?_) (fun c48 => by exfalso; have fc48 : x46.toInt = (-1) := congrArg Int32.toInt c48; omega)
              refine lv_iconst (v := (-1)) hx hb dX12_items_125 (by decide) ?_
              refine lv_istore (lv' := [(6, .int (-1)), (5, .int t32), (0, .ref h0), (1, .int 115), (2, .ref h2), (3, .int 0), (4, .int 4)]) hx hb dX12_items_126 hl (by decide) rfl (fun ls hl => ?_)
              refine lv_goto (tgt := 41) hx hb dX12_items_128 (by decide) ?_
              refine lv_aload_n hx hb dX12_items_41 rfl (lv_at hl 2 rfl) ?_
              refine va_get (D := (dC, dI)) (ci := 12) (v := .int x46) (C := RX12) (T := TX12) (N := 48) hx hb hts (fun _ h => List.mem_cons_of_mem _ (List.mem_append_right _ h)) hown hK hP 0 rfl rfl 4 (by decide) (hts (.fieldLink RX12 119 "LeftArgumentsModel" "wrong" "I") (List.mem_cons_of_mem _ (List.mem_append_left _ (List.mem_of_getElem? (i := 18) rfl)))) (fun _ h9 => h9) rfl dX12_items_42 ?_
              refine lv_iconst (v := (-1)) hx hb dX12_items_45 (by decide) ?_
              refine lv_icmp_ne (tgt := 131) hx hb dX12_items_46 (by decide) (fun _ => ?_) (fun c49 => by exfalso; have fc49 : x46.toInt = (-1) := congrArg Int32.toInt c49; omega)
              subst hQ
              have hP9 := hP.sub (ws' := (wd_490cd7da h0 v0 h1 v1 x45 x46 v3 r0 r1 r2 r3 r4 r5 r6 v4 v5 r7 r8 h2 r9 v6 r10 r11 v7 v8 r12 r13 v9 v10 r14 v11 v12 r15 v13 w14 r16 v15 v16 r17 r18 r19 r20 r21 r22 v17 r23 r24 r25 v18 h1 g0 f19 h2 g1 fn47)) [0, 1, 2] rfl
              have hD9 := hD.sub (ws' := (wd_490cd7da h0 v0 h1 v1 x45 x46 v3 r0 r1 r2 r3 r4 r5 r6 v4 v5 r7 r8 h2 r9 v6 r10 r11 v7 v8 r12 r13 v9 v10 r14 v11 v12 r15 v13 w14 r16 v15 v16 r17 r18 r19 r20 r21 r22 v17 r23 r24 r25 v18 h1 g0 f19 h2 g1 fn47)) [0, 1, 2] (by decide) rfl
              have hK9 := hK.sub (tys' := []) [] rfl
              exact W.vret hx hb hr (fun t ht hW => ⟨⟨(), rfl, trivial, Or.inr (⟨x45, x46, fn47, by first | omega | decide, by first | omega | decide, by first | omega | decide, by first | omega | decide, by omega, by first | assumption | (apply pg_I.fail <;> first | assumption | omega | (show _ = pm_los _; assumption) | (show _ = pm_his _; assumption) | (show _ = pm_lob _; assumption) | (show _ = pm_hib _; assumption)), by rw [ht]; exact hP9, va_K.moved hW.alike hK9, hD9⟩)⟩, hS.F ht⟩) hS.2.2 dX12_items_131
    exact hL27 _ ra18 0 x17 fn12 H locs ls (by first | omega | decide) (by first | omega | decide) (by first | omega | decide) (by first | omega | decide) (by first | assumption | (apply pm_RR.step <;> first | assumption | omega) | (apply pm_RR.init <;> first | assumption | decide)) (by omega) (by omega) (by first | assumption | (apply pg_I.ini <;> first | assumption | omega | (apply pg_ur.mk <;> first | assumption | decide) | (apply pg_us.mk <;> first | assumption | omega | decide)) | (apply pg_I.next <;> first | assumption | omega | (show _ = pm_los _; assumption) | (show _ = pm_his _; assumption) | (show _ = pm_lob _; assumption) | (show _ = pm_hib _; assumption))) (by assumption) (by assumption) (Nat.lt_succ_self _) hP hD hS (lv_sub hl [0, 1, 2, 3, 4, 5, 6] rfl)
def q_X12_items_2 : List Cond := .code yX12_items cX12_items 7 none :: (([.code yX12_usual cX12_usual 2 (some .int), .initialized RX12, .static yX12_usual, .methodLink RX12 221 yX12_usual, .code yX12_look cX12_look 1 (some .int), .code yX12_here cX12_here 1 (some .int), .fieldLink RX12 112 "LeftArgumentsModel" "at" "I", .fieldLink RX12 109 "LeftArgumentsModel" "size" "I", .fieldLink RX12 9 "LeftArgumentsModel" "tape" "[I", .instanceMethod yX12_here, .selects RX12 yX12_here yX12_here, .methodLink RX12 115 yX12_here, .instanceMethod yX12_look, .selects RX12 yX12_look yX12_look, .methodLink RX12 131 yX12_look, .code yX12_itemOf cX12_itemOf 2 (some .int), .static yX12_itemOf, .methodLink RX12 225 yX12_itemOf, .fieldLink RX12 119 "LeftArgumentsModel" "wrong" "I", .code yX12_has cX12_has 2 (some .boolean), .static yX12_has, .methodLink RX12 228 yX12_has, .code yX12_lowest cX12_lowest 2 (some .int), .static yX12_lowest, .methodLink RX12 232 yX12_lowest, .code yX12_highest cX12_highest 2 (some .int), .static yX12_highest, .methodLink RX12 235 yX12_highest, .code yX12_number cX12_number 4 (some .int), .code yX12_isDigit cX12_isDigit 1 (some .boolean), .static yX12_isDigit, .methodLink RX12 134 yX12_isDigit, .code yX12_bad cX12_bad 1 none, .instanceMethod yX12_bad, .selects RX12 yX12_bad yX12_bad, .methodLink RX12 128 yX12_bad, .code yX12_in cX12_in 3 (some .boolean), .static yX12_in, .methodLink RX12 217 yX12_in, .instanceMethod yX12_number, .selects RX12 yX12_number yX12_number, .methodLink RX12 238 yX12_number] : List Cond) ++ wsX120)
set_option maxRecDepth 20000 in
theorem g_X12_items_2_0 : GoodIn q_X12_items_2 (va_wsS RX12 221 yX12_usual q_X12_usual_4) := goodIn_app (goodIn_r _ [4, 3, 2] rfl (by decide +kernel)) (goodIn_r (.code yX12_usual cX12_usual 2 (some .int) :: []) [1] rfl (by decide +kernel))
set_option maxRecDepth 20000 in
theorem g_X12_items_2_1 : GoodIn q_X12_items_2 (va_wsS RX12 221 yX12_usual q_X12_usual_5) := goodIn_app (goodIn_r _ [4, 3, 2] rfl (by decide +kernel)) (goodIn_r (.code yX12_usual cX12_usual 2 (some .int) :: []) [1] rfl (by decide +kernel))
set_option maxRecDepth 20000 in
theorem g_X12_items_2_2 : GoodIn q_X12_items_2 (va_wsS RX12 221 yX12_usual q_X12_usual_6) := goodIn_app (goodIn_r _ [4, 3, 2] rfl (by decide +kernel)) (goodIn_r (.code yX12_usual cX12_usual 2 (some .int) :: []) [1] rfl (by decide +kernel))
set_option maxRecDepth 20000 in
theorem g_X12_items_2_3 : GoodIn q_X12_items_2 (va_wsS RX12 221 yX12_usual q_X12_usual_7) := goodIn_app (goodIn_r _ [4, 3, 2] rfl (by decide +kernel)) (goodIn_r (.code yX12_usual cX12_usual 2 (some .int) :: []) [1] rfl (by decide +kernel))
set_option maxRecDepth 20000 in
theorem g_X12_items_2_4 : GoodIn q_X12_items_2 (va_wsS RX12 221 yX12_usual q_X12_usual_8) := goodIn_app (goodIn_r _ [4, 3, 2] rfl (by decide +kernel)) (goodIn_r (.code yX12_usual cX12_usual 2 (some .int) :: []) [1] rfl (by decide +kernel))
set_option maxRecDepth 20000 in
theorem g_X12_items_2_5 : GoodIn q_X12_items_2 (wsV RX12 131 RX12 yX12_look q_X12_look) := goodIn_app (goodIn_r _ [15, 13, 14, 2] rfl (by decide +kernel)) (goodIn_ca (goodIn_r (.code yX12_look cX12_look 1 (some .int) :: [.code yX12_here cX12_here 1 (some .int), .fieldLink RX12 112 "LeftArgumentsModel" "at" "I", .fieldLink RX12 109 "LeftArgumentsModel" "size" "I", .fieldLink RX12 9 "LeftArgumentsModel" "tape" "[I", .initialized RX12, .instanceMethod yX12_here, .selects RX12 yX12_here yX12_here, .methodLink RX12 115 yX12_here]) [5, 6, 7, 8, 9, 2, 10, 11, 12] rfl (by decide +kernel)) (goodIn_sub (fun _ h => List.mem_cons_of_mem _ (List.mem_append_right _ h)) gwX12))
set_option maxRecDepth 20000 in
theorem g_X12_items_2_6 : GoodIn q_X12_items_2 (va_wsS RX12 225 yX12_itemOf q_X12_itemOf) := goodIn_app (goodIn_r _ [18, 17, 2] rfl (by decide +kernel)) (goodIn_r (.code yX12_itemOf cX12_itemOf 2 (some .int) :: []) [16] rfl (by decide +kernel))
set_option maxRecDepth 20000 in
theorem g_X12_items_2_8 : GoodIn q_X12_items_2 (va_wsS RX12 228 yX12_has q_X12_has) := goodIn_app (goodIn_r _ [22, 21, 2] rfl (by decide +kernel)) (goodIn_r (.code yX12_has cX12_has 2 (some .boolean) :: []) [20] rfl (by decide +kernel))
set_option maxRecDepth 20000 in
theorem g_X12_items_2_9 : GoodIn q_X12_items_2 (va_wsS RX12 232 yX12_lowest q_X12_lowest) := goodIn_app (goodIn_r _ [25, 24, 2] rfl (by decide +kernel)) (goodIn_r (.code yX12_lowest cX12_lowest 2 (some .int) :: []) [23] rfl (by decide +kernel))
set_option maxRecDepth 20000 in
theorem g_X12_items_2_10 : GoodIn q_X12_items_2 (va_wsS RX12 235 yX12_highest q_X12_highest) := goodIn_app (goodIn_r _ [28, 27, 2] rfl (by decide +kernel)) (goodIn_r (.code yX12_highest cX12_highest 2 (some .int) :: []) [26] rfl (by decide +kernel))
set_option maxRecDepth 20000 in
theorem g_X12_items_2_11 : GoodIn q_X12_items_2 (wsV RX12 238 RX12 yX12_number q_X12_number) := goodIn_app (goodIn_r _ [42, 40, 41, 2] rfl (by decide +kernel)) (goodIn_ca (goodIn_r (.code yX12_number cX12_number 4 (some .int) :: [.code yX12_look cX12_look 1 (some .int), .code yX12_here cX12_here 1 (some .int), .fieldLink RX12 112 "LeftArgumentsModel" "at" "I", .fieldLink RX12 109 "LeftArgumentsModel" "size" "I", .fieldLink RX12 9 "LeftArgumentsModel" "tape" "[I", .initialized RX12, .instanceMethod yX12_here, .selects RX12 yX12_here yX12_here, .methodLink RX12 115 yX12_here, .instanceMethod yX12_look, .selects RX12 yX12_look yX12_look, .methodLink RX12 131 yX12_look, .code yX12_isDigit cX12_isDigit 1 (some .boolean), .static yX12_isDigit, .methodLink RX12 134 yX12_isDigit, .code yX12_bad cX12_bad 1 none, .fieldLink RX12 119 "LeftArgumentsModel" "wrong" "I", .instanceMethod yX12_bad, .selects RX12 yX12_bad yX12_bad, .methodLink RX12 128 yX12_bad, .code yX12_in cX12_in 3 (some .boolean), .static yX12_in, .methodLink RX12 217 yX12_in]) [29, 5, 6, 7, 8, 9, 2, 10, 11, 12, 13, 14, 15, 30, 31, 32, 33, 19, 34, 35, 36, 37, 38, 39] rfl (by decide +kernel)) (goodIn_sub (fun _ h => List.mem_cons_of_mem _ (List.mem_append_right _ h)) gwX12))
set_option maxHeartbeats 4000000 in
set_option maxRecDepth 100000 in
theorem k_X12_items_2 (l : Launch) (dC : Nat → ClassId) (dI : Nat → Nat → Nat) (h0 : Nat) (h1 : Nat) (h2 : Nat) (v0 : Int32) (v1 : Int32) (v2 : Int32) (v3 : Int32) (r0 : Nat) (r1 : Nat) (r2 : Nat) (r3 : Nat) (r4 : Nat) (r5 : Nat) (r6 : Nat) (v4 : Int32) (v5 : Int32) (r7 : Nat) (r8 : Nat) (r9 : Nat) (v6 : Int32) (r10 : Nat) (r11 : Nat) (v7 : Int32) (v8 : Int32) (r12 : Nat) (r13 : Nat) (v9 : Int32) (v10 : Int32) (r14 : Nat) (v11 : Int32) (v12 : Int32) (r15 : Nat) (v13 : Int32) (w14 : Int64) (r16 : Nat) (v15 : Int32) (v16 : Int32) (r17 : Nat) (r18 : Nat) (r19 : Nat) (r20 : Nat) (r21 : Nat) (r22 : Nat) (v17 : Int32) (r23 : Nat) (r24 : Nat) (r25 : Nat) (v18 : Int32) (g0 : ClassId) (f19 : Nat → Int32) (g1 : ClassId) (f20 : Nat → Int32) (v21 : Int32) (i_v1 : 0 ≤ v1.toInt ∧ v1.toInt ≤ 240) (i_v2 : 0 ≤ v2.toInt ∧ v2.toInt ≤ 240) (i_v4 : 0 ≤ v4.toInt ∧ v4.toInt ≤ 4) (i_v5 : 0 ≤ v5.toInt ∧ v5.toInt ≤ 4) (i_v6 : 0 ≤ v6.toInt ∧ v6.toInt ≤ 8) (i_v7 : 0 ≤ v7.toInt ∧ v7.toInt ≤ 8) (i_v8 : 0 ≤ v8.toInt ∧ v8.toInt ≤ 1) (i_v9 : -1 ≤ v9.toInt ∧ v9.toInt ≤ 3) (i_v13 : 0 ≤ v13.toInt ∧ v13.toInt ≤ 40) (i_v17 : 0 ≤ v17.toInt ∧ v17.toInt ≤ 10) (i_v18 : 0 ≤ v18.toInt ∧ v18.toInt ≤ 1) (i_v21 : 0 ≤ v21.toInt ∧ v21.toInt ≤ 35) (ia_f19 : (∀ j, 0 ≤ (f19 j).toInt ∧ (f19 j).toInt ≤ 255)) (sz : Nat) : Met l yX12_items q_X12_items_2 ({ frames := 3, cells := 0, slots := 0, locals := 63 }) (va_Pc [.ref h0, .int 98, .ref h2, .int v21, .int 5] (fun U => U.heap.size = sz ∧ va_P (dC, dI) vwCl (wd_b9c2d44b h0 v0 h1 v1 v2 (-1) v3 r0 r1 r2 r3 r4 r5 r6 v4 v5 r7 r8 r9 h2 v6 r10 r11 v7 v8 r12 r13 v9 v10 r14 v11 v12 r15 v13 w14 r16 v15 v16 r17 r18 r19 r20 r21 r22 v17 r23 r24 r25 v18 h1 g0 f19 h2 g1 f20) U.heap ∧ va_K (dC, dI) vwCl [(g0, .int), (g1, .int)] U ∧ va_D (fun _ => True) (wd_b9c2d44b h0 v0 h1 v1 v2 (-1) v3 r0 r1 r2 r3 r4 r5 r6 v4 v5 r7 r8 r9 h2 v6 r10 r11 v7 v8 r12 r13 v9 v10 r14 v11 v12 r15 v13 w14 r16 v15 v16 r17 r18 r19 r20 r21 r22 v17 r23 r24 r25 v18 h1 g0 f19 h2 g1 f20))) (va_Qv (fun (_ : Unit) => True) (fun (_ : Unit) (t : State) => (∃ (o_h0_3 : Int32) (o_h2 : Nat → Int32), 0 ≤ o_h0_3.toInt ∧ o_h0_3.toInt ≤ 240 ∧ (v2.toInt ≤ o_h0_3.toInt) ∧ (pm_bb v21 f20 o_h2) ∧ (pg_items f19 v1.toInt false v21.toInt 300 v2.toInt 0 (pg_us f20 v21.toInt) = ((true, o_h0_3.toInt), o_h2)) ∧ va_P (dC, dI) vwCl (wd_b9c2d44b h0 v0 h1 v1 o_h0_3 (-1) v3 r0 r1 r2 r3 r4 r5 r6 v4 v5 r7 r8 r9 h2 v6 r10 r11 v7 v8 r12 r13 v9 v10 r14 v11 v12 r15 v13 w14 r16 v15 v16 r17 r18 r19 r20 r21 r22 v17 r23 r24 r25 v18 h1 g0 f19 h2 g1 o_h2) t.heap ∧ va_K (dC, dI) vwCl [] t ∧ va_D (va_A (wd_b9c2d44b h0 v0 h1 v1 v2 (-1) v3 r0 r1 r2 r3 r4 r5 r6 v4 v5 r7 r8 r9 h2 v6 r10 r11 v7 v8 r12 r13 v9 v10 r14 v11 v12 r15 v13 w14 r16 v15 v16 r17 r18 r19 r20 r21 r22 v17 r23 r24 r25 v18 h1 g0 f19 h2 g1 f20) sz) (wd_b9c2d44b h0 v0 h1 v1 o_h0_3 (-1) v3 r0 r1 r2 r3 r4 r5 r6 v4 v5 r7 r8 r9 h2 v6 r10 r11 v7 v8 r12 r13 v9 v10 r14 v11 v12 r15 v13 w14 r16 v15 v16 r17 r18 r19 r20 r21 r22 v17 r23 r24 r25 v18 h1 g0 f19 h2 g1 o_h2)) ∨ (∃ (o_h0_3 : Int32) (o_h0_4 : Int32) (o_h2 : Nat → Int32), 0 ≤ o_h0_3.toInt ∧ o_h0_3.toInt ≤ 240 ∧ 0 ≤ o_h0_4.toInt ∧ o_h0_4.toInt ≤ 240 ∧ (v2.toInt ≤ o_h0_3.toInt) ∧ ((pg_items f19 v1.toInt false v21.toInt 300 v2.toInt 0 (pg_us f20 v21.toInt)).1 = (false, o_h0_4.toInt)) ∧ va_P (dC, dI) vwCl (wd_b9c2d44b h0 v0 h1 v1 o_h0_3 o_h0_4 v3 r0 r1 r2 r3 r4 r5 r6 v4 v5 r7 r8 r9 h2 v6 r10 r11 v7 v8 r12 r13 v9 v10 r14 v11 v12 r15 v13 w14 r16 v15 v16 r17 r18 r19 r20 r21 r22 v17 r23 r24 r25 v18 h1 g0 f19 h2 g1 o_h2) t.heap ∧ va_K (dC, dI) vwCl [] t ∧ va_D (va_A (wd_b9c2d44b h0 v0 h1 v1 v2 (-1) v3 r0 r1 r2 r3 r4 r5 r6 v4 v5 r7 r8 r9 h2 v6 r10 r11 v7 v8 r12 r13 v9 v10 r14 v11 v12 r15 v13 w14 r16 v15 v16 r17 r18 r19 r20 r21 r22 v17 r23 r24 r25 v18 h1 g0 f19 h2 g1 f20) sz) (wd_b9c2d44b h0 v0 h1 v1 o_h0_3 o_h0_4 v3 r0 r1 r2 r3 r4 r5 r6 v4 v5 r7 r8 r9 h2 v6 r10 r11 v7 v8 r12 r13 v9 v10 r14 v11 v12 r15 v13 w14 r16 v15 v16 r17 r18 r19 r20 r21 r22 v17 r23 r24 r25 v18 h1 g0 f19 h2 g1 o_h2))) (va_A (wd_b9c2d44b h0 v0 h1 v1 v2 (-1) v3 r0 r1 r2 r3 r4 r5 r6 v4 v5 r7 r8 r9 h2 v6 r10 r11 v7 v8 r12 r13 v9 v10 r14 v11 v12 r15 v13 w14 r16 v15 v16 r17 r18 r19 r20 r21 r22 v17 r23 r24 r25 v18 h1 g0 f19 h2 g1 f20) sz)) 0 0 (va_A (wd_b9c2d44b h0 v0 h1 v1 v2 (-1) v3 r0 r1 r2 r3 r4 r5 r6 v4 v5 r7 r8 r9 h2 v6 r10 r11 v7 v8 r12 r13 v9 v10 r14 v11 v12 r15 v13 w14 r16 v15 v16 r17 r18 r19 r20 r21 r22 v17 r23 r24 r25 v18 h1 g0 f19 h2 g1 f20) sz) := by
  refine Met.ofW (cc := cX12_items) (maxL := 7) (ret := none) (by decide) rfl ?_
  intro p e s m args below meth c s₁ B hml hv
  obtain ⟨i_v1a, i_v1b⟩ := i_v1
  obtain ⟨i_v2a, i_v2b⟩ := i_v2
  obtain ⟨i_v4a, i_v4b⟩ := i_v4
  obtain ⟨i_v5a, i_v5b⟩ := i_v5
  obtain ⟨i_v6a, i_v6b⟩ := i_v6
  obtain ⟨i_v7a, i_v7b⟩ := i_v7
  obtain ⟨i_v8a, i_v8b⟩ := i_v8
  obtain ⟨i_v9a, i_v9b⟩ := i_v9
  obtain ⟨i_v13a, i_v13b⟩ := i_v13
  obtain ⟨i_v17a, i_v17b⟩ := i_v17
  obtain ⟨i_v18a, i_v18b⟩ := i_v18
  obtain ⟨i_v21a, i_v21b⟩ := i_v21
  obtain ⟨rfl, hsz, hP, hK, hD0⟩ := hv
  have hx := B.exec
  have hb := B.bytes
  have hr := B.returns
  have hts := atoms_spec (ws := q_X12_items_2) B.pre
  have hown : s.vm.findClass RX12 = some m.cls := findClass_of_methodNamed B.named
  have hlocks := B.notSynchronized
  subst hsz
  have hD := hD0.self (sz := s.heap.size)
  generalize hAe : va_A (wd_b9c2d44b h0 v0 h1 v1 v2 (-1) v3 r0 r1 r2 r3 r4 r5 r6 v4 v5 r7 r8 r9 h2 v6 r10 r11 v7 v8 r12 r13 v9 v10 r14 v11 v12 r15 v13 w14 r16 v15 v16 r17 r18 r19 r20 r21 r22 v17 r23 r24 r25 v18 h1 g0 f19 h2 g1 f20) s.heap.size = A at hD ⊢
  have hA : ∀ q : Nat, s.heap.size ≤ q → A q := fun q h => by rw [← hAe]; exact Or.inr h
  have hS : va_S A s.heap s.heap [] := va_S.rf
  generalize hQ : (MQ below _ _ s 0 0 A) = Q
  have hl := lv_entry ([.ref h0, .int 98, .ref h2, .int v21, .int 5]) (n := 7) (Nat.le_of_ble_eq_true rfl)
  rw [lg_entry_eq]
  generalize (lg_sl ([.ref h0, .int 98, .ref h2, .int v21, .int 5]) ++ List.replicate (7 - (lg_sl ([.ref h0, .int 98, .ref h2, .int v21, .int 5])).length) Slot.unset).toArray = ls at hl ⊢
  have hl : lv_has ls 7 [(0, .ref h0), (1, .int 98), (2, .ref h2), (3, .int v21), (4, .int 5)] := hl
  obtain ⟨H, hH⟩ : ∃ H : Heap, H = s.heap := ⟨_, rfl⟩
  obtain ⟨locs, hlocs⟩ : ∃ y : List Loc, y = [] := ⟨_, rfl⟩
  have hS : va_S A s.heap H locs := by rw [hH, hlocs]; exact va_S.rf
  have hP : va_P (dC, dI) vwCl (wd_b9c2d44b h0 v0 h1 v1 v2 (-1) v3 r0 r1 r2 r3 r4 r5 r6 v4 v5 r7 r8 r9 h2 v6 r10 r11 v7 v8 r12 r13 v9 v10 r14 v11 v12 r15 v13 w14 r16 v15 v16 r17 r18 r19 r20 r21 r22 v17 r23 r24 r25 v18 h1 g0 f19 h2 g1 f20) H := by rw [hH]; exact hP
  rw [← hH, ← hlocs]
  refine lv_iconst (v := 0) hx hb dX12_items_0 (by decide) ?_
  refine lv_istore (lv' := [(5, .int 0), (0, .ref h0), (1, .int 98), (2, .ref h2), (3, .int v21), (4, .int 5)]) hx hb dX12_items_1 hl (by decide) rfl (fun ls hl => ?_)
  refine lv_iload hx hb dX12_items_3 (lv_at hl 0 rfl) ?_
  refine lv_iload hx hb dX12_items_5 (lv_at hl 5 rfl) ?_
  refine lv_icmp_ge (tgt := 28) hx hb dX12_items_7 (by decide) (fun c => absurd c (by decide)) (fun _ => ?_)
  refine lv_aload_n hx hb dX12_items_10 rfl (lv_at hl 3 rfl) ?_
  refine lv_iload_n hx hb dX12_items_11 rfl (lv_at hl 4 rfl) ?_
  refine lv_iload hx hb dX12_items_12 (lv_at hl 0 rfl) ?_
  refine lv_iadd hx hb dX12_items_14 ?_
  refine lv_topi (fun t1 et1 => ?_)
  have gt1 : t1.toInt = v21.toInt + 0 := pv_add (a := v21.toInt) (b := 0) et1 rfl (by decide) (by omega) (by omega)
  refine lv_iload_n hx hb dX12_items_15 rfl (lv_at hl 2 rfl) ?_
  refine lv_iload hx hb dX12_items_16 (lv_at hl 0 rfl) ?_
  have hPc := hP.sub (ws' := []) [] rfl
  have hDc := hD.sub (ws' := []) [] (by decide) rfl
  have hKc := hK.sub (tys' := []) [] rfl
  have hFc := va_free (wc := []) hD hS hA [] rfl
  refine va_calli (va_runS (As := [.int 98, .int 0]) (rest := [.int t1, .ref h2]) ⟨hx, hb, hml, hown, hts⟩ (k_X12_usual_4 l dC dI   H.size) (va_cwS 2 hts g_X12_items_2_0 rfl rfl rfl (by decide +kernel) ⟨Nat.le_of_ble_eq_true rfl, Nat.le_of_ble_eq_true rfl⟩) ⟨fun a U g mk q => by obtain ⟨q0, q1, qP, qK, qD⟩ := q; exact ⟨q0, q1, qP, va_K.moved (u := U) (U := U.calling g mk a) (Vm.Alike.refl U.vm) qK, qD⟩, fun U hU hW => ⟨rfl, by rw [hU], by rw [hU]; exact hPc, va_K.moved hW.alike hKc, hDc.weaken (fun _ _ _ _ => trivial)⟩⟩ rfl rfl hl.1 rfl (lv_room (Nat.le_of_ble_eq_true rfl)) dX12_items_18 ⟨Nat.le_of_ble_eq_true rfl, Nat.le_of_ble_eq_true rfl⟩) hS (fun q _ h => hFc q h) hFc (fun ra2 u t H1 locs ht hvm hwra2 hB hz1 hk1 hS => ?_)
  try rw [hwra2] at hB
  obtain ⟨pt0_ra2, pt1_ra2, hP1, hK1, hD1⟩ := hB
  rw [ht] at hP1
  obtain ⟨hP, hD⟩ := va_join (wr := (wd_b9c2d44b h0 v0 h1 v1 v2 (-1) v3 r0 r1 r2 r3 r4 r5 r6 v4 v5 r7 r8 r9 h2 v6 r10 r11 v7 v8 r12 r13 v9 v10 r14 v11 v12 r15 v13 w14 r16 v15 v16 r17 r18 r19 r20 r21 r22 v17 r23 r24 r25 v18 h1 g0 f19 h2 g1 f20)) (w1 := []) hP hD [] [0, 1, 2] rfl rfl (by decide) (by decide) hk1 hFc hP1 hD1
  generalize H1 = H at hP hS ⊢
  have hP : va_P (dC, dI) vwCl (wd_b9c2d44b h0 v0 h1 v1 v2 (-1) v3 r0 r1 r2 r3 r4 r5 r6 v4 v5 r7 r8 r9 h2 v6 r10 r11 v7 v8 r12 r13 v9 v10 r14 v11 v12 r15 v13 w14 r16 v15 v16 r17 r18 r19 r20 r21 r22 v17 r23 r24 r25 v18 h1 g0 f19 h2 g1 f20) H := hP
  have hD : va_D A (wd_b9c2d44b h0 v0 h1 v1 v2 (-1) v3 r0 r1 r2 r3 r4 r5 r6 v4 v5 r7 r8 r9 h2 v6 r10 r11 v7 v8 r12 r13 v9 v10 r14 v11 v12 r15 v13 w14 r16 v15 v16 r17 r18 r19 r20 r21 r22 v17 r23 r24 r25 v18 h1 g0 f19 h2 g1 f20) := hD
  obtain rfl : ra2 = (3 : Int32) := Int32.toInt_inj.mp (by rw [show ((3 : Int32)).toInt = 3 by decide]; omega)
  refine va_iast hx hb hK hP hD hS 2 1 rfl rfl (vp_in_iff.mpr ⟨by omega, by omega⟩) dX12_items_21 (fun H locs hP hD hS => ?_)
  obtain ⟨fn3, efn3⟩ : ∃ g : Nat → Int32, g = upd f20 (Int32.toNatClampNeg t1) 3 := ⟨_, rfl⟩
  rw [← efn3] at hP hD
  have hP : va_P (dC, dI) vwCl (wd_b9c2d44b h0 v0 h1 v1 v2 (-1) v3 r0 r1 r2 r3 r4 r5 r6 v4 v5 r7 r8 r9 h2 v6 r10 r11 v7 v8 r12 r13 v9 v10 r14 v11 v12 r15 v13 w14 r16 v15 v16 r17 r18 r19 r20 r21 r22 v17 r23 r24 r25 v18 h1 g0 f19 h2 g1 fn3) H := hP
  have hD : va_D A (wd_b9c2d44b h0 v0 h1 v1 v2 (-1) v3 r0 r1 r2 r3 r4 r5 r6 v4 v5 r7 r8 r9 h2 v6 r10 r11 v7 v8 r12 r13 v9 v10 r14 v11 v12 r15 v13 w14 r16 v15 v16 r17 r18 r19 r20 r21 r22 v17 r23 r24 r25 v18 h1 g0 f19 h2 g1 fn3) := hD
  refine lv_iinc (v := 1) (lv' := [(5, .int 1), (0, .ref h0), (1, .int 98), (2, .ref h2), (3, .int v21), (4, .int 5)]) hx hb dX12_items_22 hl (k := 0) rfl (by decide) (by decide) rfl (fun ls hl => ?_)
  refine lv_goto (tgt := 3) hx hb dX12_items_25 (by decide) ?_
  refine lv_iload hx hb dX12_items_3 (lv_at hl 0 rfl) ?_
  refine lv_iload hx hb dX12_items_5 (lv_at hl 5 rfl) ?_
  refine lv_icmp_ge (tgt := 28) hx hb dX12_items_7 (by decide) (fun c => absurd c (by decide)) (fun _ => ?_)
  refine lv_aload_n hx hb dX12_items_10 rfl (lv_at hl 3 rfl) ?_
  refine lv_iload_n hx hb dX12_items_11 rfl (lv_at hl 4 rfl) ?_
  refine lv_iload hx hb dX12_items_12 (lv_at hl 0 rfl) ?_
  refine lv_iadd hx hb dX12_items_14 ?_
  refine lv_topi (fun t4 et4 => ?_)
  have gt4 : t4.toInt = v21.toInt + 1 := pv_add (a := v21.toInt) (b := 1) et4 rfl (by decide) (by omega) (by omega)
  refine lv_iload_n hx hb dX12_items_15 rfl (lv_at hl 2 rfl) ?_
  refine lv_iload hx hb dX12_items_16 (lv_at hl 0 rfl) ?_
  have hPc := hP.sub (ws' := []) [] rfl
  have hDc := hD.sub (ws' := []) [] (by decide) rfl
  have hKc := hK.sub (tys' := []) [] rfl
  have hFc := va_free (wc := []) hD hS hA [] rfl
  refine va_calli (va_runS (As := [.int 98, .int 1]) (rest := [.int t4, .ref h2]) ⟨hx, hb, hml, hown, hts⟩ (k_X12_usual_5 l dC dI   H.size) (va_cwS 2 hts g_X12_items_2_1 rfl rfl rfl (by decide +kernel) ⟨Nat.le_of_ble_eq_true rfl, Nat.le_of_ble_eq_true rfl⟩) ⟨fun a U g mk q => by obtain ⟨q0, q1, qP, qK, qD⟩ := q; exact ⟨q0, q1, qP, va_K.moved (u := U) (U := U.calling g mk a) (Vm.Alike.refl U.vm) qK, qD⟩, fun U hU hW => ⟨rfl, by rw [hU], by rw [hU]; exact hPc, va_K.moved hW.alike hKc, hDc.weaken (fun _ _ _ _ => trivial)⟩⟩ rfl rfl hl.1 rfl (lv_room (Nat.le_of_ble_eq_true rfl)) dX12_items_18 ⟨Nat.le_of_ble_eq_true rfl, Nat.le_of_ble_eq_true rfl⟩) hS (fun q _ h => hFc q h) hFc (fun ra5 u t H1 locs ht hvm hwra5 hB hz1 hk1 hS => ?_)
  try rw [hwra5] at hB
  obtain ⟨pt0_ra5, pt1_ra5, hP1, hK1, hD1⟩ := hB
  rw [ht] at hP1
  obtain ⟨hP, hD⟩ := va_join (wr := (wd_b9c2d44b h0 v0 h1 v1 v2 (-1) v3 r0 r1 r2 r3 r4 r5 r6 v4 v5 r7 r8 r9 h2 v6 r10 r11 v7 v8 r12 r13 v9 v10 r14 v11 v12 r15 v13 w14 r16 v15 v16 r17 r18 r19 r20 r21 r22 v17 r23 r24 r25 v18 h1 g0 f19 h2 g1 fn3)) (w1 := []) hP hD [] [0, 1, 2] rfl rfl (by decide) (by decide) hk1 hFc hP1 hD1
  generalize H1 = H at hP hS ⊢
  have hP : va_P (dC, dI) vwCl (wd_b9c2d44b h0 v0 h1 v1 v2 (-1) v3 r0 r1 r2 r3 r4 r5 r6 v4 v5 r7 r8 r9 h2 v6 r10 r11 v7 v8 r12 r13 v9 v10 r14 v11 v12 r15 v13 w14 r16 v15 v16 r17 r18 r19 r20 r21 r22 v17 r23 r24 r25 v18 h1 g0 f19 h2 g1 fn3) H := hP
  have hD : va_D A (wd_b9c2d44b h0 v0 h1 v1 v2 (-1) v3 r0 r1 r2 r3 r4 r5 r6 v4 v5 r7 r8 r9 h2 v6 r10 r11 v7 v8 r12 r13 v9 v10 r14 v11 v12 r15 v13 w14 r16 v15 v16 r17 r18 r19 r20 r21 r22 v17 r23 r24 r25 v18 h1 g0 f19 h2 g1 fn3) := hD
  obtain rfl : ra5 = (4 : Int32) := Int32.toInt_inj.mp (by rw [show ((4 : Int32)).toInt = 4 by decide]; omega)
  refine va_iast hx hb hK hP hD hS 2 1 rfl rfl (vp_in_iff.mpr ⟨by omega, by omega⟩) dX12_items_21 (fun H locs hP hD hS => ?_)
  obtain ⟨fn6, efn6⟩ : ∃ g : Nat → Int32, g = upd fn3 (Int32.toNatClampNeg t4) 4 := ⟨_, rfl⟩
  rw [← efn6] at hP hD
  have hP : va_P (dC, dI) vwCl (wd_b9c2d44b h0 v0 h1 v1 v2 (-1) v3 r0 r1 r2 r3 r4 r5 r6 v4 v5 r7 r8 r9 h2 v6 r10 r11 v7 v8 r12 r13 v9 v10 r14 v11 v12 r15 v13 w14 r16 v15 v16 r17 r18 r19 r20 r21 r22 v17 r23 r24 r25 v18 h1 g0 f19 h2 g1 fn6) H := hP
  have hD : va_D A (wd_b9c2d44b h0 v0 h1 v1 v2 (-1) v3 r0 r1 r2 r3 r4 r5 r6 v4 v5 r7 r8 r9 h2 v6 r10 r11 v7 v8 r12 r13 v9 v10 r14 v11 v12 r15 v13 w14 r16 v15 v16 r17 r18 r19 r20 r21 r22 v17 r23 r24 r25 v18 h1 g0 f19 h2 g1 fn6) := hD
  refine lv_iinc (v := 2) (lv' := [(5, .int 2), (0, .ref h0), (1, .int 98), (2, .ref h2), (3, .int v21), (4, .int 5)]) hx hb dX12_items_22 hl (k := 0) rfl (by decide) (by decide) rfl (fun ls hl => ?_)
  refine lv_goto (tgt := 3) hx hb dX12_items_25 (by decide) ?_
  refine lv_iload hx hb dX12_items_3 (lv_at hl 0 rfl) ?_
  refine lv_iload hx hb dX12_items_5 (lv_at hl 5 rfl) ?_
  refine lv_icmp_ge (tgt := 28) hx hb dX12_items_7 (by decide) (fun c => absurd c (by decide)) (fun _ => ?_)
  refine lv_aload_n hx hb dX12_items_10 rfl (lv_at hl 3 rfl) ?_
  refine lv_iload_n hx hb dX12_items_11 rfl (lv_at hl 4 rfl) ?_
  refine lv_iload hx hb dX12_items_12 (lv_at hl 0 rfl) ?_
  refine lv_iadd hx hb dX12_items_14 ?_
  refine lv_topi (fun t7 et7 => ?_)
  have gt7 : t7.toInt = v21.toInt + 2 := pv_add (a := v21.toInt) (b := 2) et7 rfl (by decide) (by omega) (by omega)
  refine lv_iload_n hx hb dX12_items_15 rfl (lv_at hl 2 rfl) ?_
  refine lv_iload hx hb dX12_items_16 (lv_at hl 0 rfl) ?_
  have hPc := hP.sub (ws' := []) [] rfl
  have hDc := hD.sub (ws' := []) [] (by decide) rfl
  have hKc := hK.sub (tys' := []) [] rfl
  have hFc := va_free (wc := []) hD hS hA [] rfl
  refine va_calli (va_runS (As := [.int 98, .int 2]) (rest := [.int t7, .ref h2]) ⟨hx, hb, hml, hown, hts⟩ (k_X12_usual_6 l dC dI   H.size) (va_cwS 2 hts g_X12_items_2_2 rfl rfl rfl (by decide +kernel) ⟨Nat.le_of_ble_eq_true rfl, Nat.le_of_ble_eq_true rfl⟩) ⟨fun a U g mk q => by obtain ⟨q0, q1, qP, qK, qD⟩ := q; exact ⟨q0, q1, qP, va_K.moved (u := U) (U := U.calling g mk a) (Vm.Alike.refl U.vm) qK, qD⟩, fun U hU hW => ⟨rfl, by rw [hU], by rw [hU]; exact hPc, va_K.moved hW.alike hKc, hDc.weaken (fun _ _ _ _ => trivial)⟩⟩ rfl rfl hl.1 rfl (lv_room (Nat.le_of_ble_eq_true rfl)) dX12_items_18 ⟨Nat.le_of_ble_eq_true rfl, Nat.le_of_ble_eq_true rfl⟩) hS (fun q _ h => hFc q h) hFc (fun ra8 u t H1 locs ht hvm hwra8 hB hz1 hk1 hS => ?_)
  try rw [hwra8] at hB
  obtain ⟨pt0_ra8, pt1_ra8, hP1, hK1, hD1⟩ := hB
  rw [ht] at hP1
  obtain ⟨hP, hD⟩ := va_join (wr := (wd_b9c2d44b h0 v0 h1 v1 v2 (-1) v3 r0 r1 r2 r3 r4 r5 r6 v4 v5 r7 r8 r9 h2 v6 r10 r11 v7 v8 r12 r13 v9 v10 r14 v11 v12 r15 v13 w14 r16 v15 v16 r17 r18 r19 r20 r21 r22 v17 r23 r24 r25 v18 h1 g0 f19 h2 g1 fn6)) (w1 := []) hP hD [] [0, 1, 2] rfl rfl (by decide) (by decide) hk1 hFc hP1 hD1
  generalize H1 = H at hP hS ⊢
  have hP : va_P (dC, dI) vwCl (wd_b9c2d44b h0 v0 h1 v1 v2 (-1) v3 r0 r1 r2 r3 r4 r5 r6 v4 v5 r7 r8 r9 h2 v6 r10 r11 v7 v8 r12 r13 v9 v10 r14 v11 v12 r15 v13 w14 r16 v15 v16 r17 r18 r19 r20 r21 r22 v17 r23 r24 r25 v18 h1 g0 f19 h2 g1 fn6) H := hP
  have hD : va_D A (wd_b9c2d44b h0 v0 h1 v1 v2 (-1) v3 r0 r1 r2 r3 r4 r5 r6 v4 v5 r7 r8 r9 h2 v6 r10 r11 v7 v8 r12 r13 v9 v10 r14 v11 v12 r15 v13 w14 r16 v15 v16 r17 r18 r19 r20 r21 r22 v17 r23 r24 r25 v18 h1 g0 f19 h2 g1 fn6) := hD
  obtain rfl : ra8 = (3 : Int32) := Int32.toInt_inj.mp (by rw [show ((3 : Int32)).toInt = 3 by decide]; omega)
  refine va_iast hx hb hK hP hD hS 2 1 rfl rfl (vp_in_iff.mpr ⟨by omega, by omega⟩) dX12_items_21 (fun H locs hP hD hS => ?_)
  obtain ⟨fn9, efn9⟩ : ∃ g : Nat → Int32, g = upd fn6 (Int32.toNatClampNeg t7) 3 := ⟨_, rfl⟩
  rw [← efn9] at hP hD
  have hP : va_P (dC, dI) vwCl (wd_b9c2d44b h0 v0 h1 v1 v2 (-1) v3 r0 r1 r2 r3 r4 r5 r6 v4 v5 r7 r8 r9 h2 v6 r10 r11 v7 v8 r12 r13 v9 v10 r14 v11 v12 r15 v13 w14 r16 v15 v16 r17 r18 r19 r20 r21 r22 v17 r23 r24 r25 v18 h1 g0 f19 h2 g1 fn9) H := hP
  have hD : va_D A (wd_b9c2d44b h0 v0 h1 v1 v2 (-1) v3 r0 r1 r2 r3 r4 r5 r6 v4 v5 r7 r8 r9 h2 v6 r10 r11 v7 v8 r12 r13 v9 v10 r14 v11 v12 r15 v13 w14 r16 v15 v16 r17 r18 r19 r20 r21 r22 v17 r23 r24 r25 v18 h1 g0 f19 h2 g1 fn9) := hD
  refine lv_iinc (v := 3) (lv' := [(5, .int 3), (0, .ref h0), (1, .int 98), (2, .ref h2), (3, .int v21), (4, .int 5)]) hx hb dX12_items_22 hl (k := 0) rfl (by decide) (by decide) rfl (fun ls hl => ?_)
  refine lv_goto (tgt := 3) hx hb dX12_items_25 (by decide) ?_
  refine lv_iload hx hb dX12_items_3 (lv_at hl 0 rfl) ?_
  refine lv_iload hx hb dX12_items_5 (lv_at hl 5 rfl) ?_
  refine lv_icmp_ge (tgt := 28) hx hb dX12_items_7 (by decide) (fun c => absurd c (by decide)) (fun _ => ?_)
  refine lv_aload_n hx hb dX12_items_10 rfl (lv_at hl 3 rfl) ?_
  refine lv_iload_n hx hb dX12_items_11 rfl (lv_at hl 4 rfl) ?_
  refine lv_iload hx hb dX12_items_12 (lv_at hl 0 rfl) ?_
  refine lv_iadd hx hb dX12_items_14 ?_
  refine lv_topi (fun t10 et10 => ?_)
  have gt10 : t10.toInt = v21.toInt + 3 := pv_add (a := v21.toInt) (b := 3) et10 rfl (by decide) (by omega) (by omega)
  refine lv_iload_n hx hb dX12_items_15 rfl (lv_at hl 2 rfl) ?_
  refine lv_iload hx hb dX12_items_16 (lv_at hl 0 rfl) ?_
  have hPc := hP.sub (ws' := []) [] rfl
  have hDc := hD.sub (ws' := []) [] (by decide) rfl
  have hKc := hK.sub (tys' := []) [] rfl
  have hFc := va_free (wc := []) hD hS hA [] rfl
  refine va_calli (va_runS (As := [.int 98, .int 3]) (rest := [.int t10, .ref h2]) ⟨hx, hb, hml, hown, hts⟩ (k_X12_usual_7 l dC dI   H.size) (va_cwS 2 hts g_X12_items_2_3 rfl rfl rfl (by decide +kernel) ⟨Nat.le_of_ble_eq_true rfl, Nat.le_of_ble_eq_true rfl⟩) ⟨fun a U g mk q => by obtain ⟨q0, q1, qP, qK, qD⟩ := q; exact ⟨q0, q1, qP, va_K.moved (u := U) (U := U.calling g mk a) (Vm.Alike.refl U.vm) qK, qD⟩, fun U hU hW => ⟨rfl, by rw [hU], by rw [hU]; exact hPc, va_K.moved hW.alike hKc, hDc.weaken (fun _ _ _ _ => trivial)⟩⟩ rfl rfl hl.1 rfl (lv_room (Nat.le_of_ble_eq_true rfl)) dX12_items_18 ⟨Nat.le_of_ble_eq_true rfl, Nat.le_of_ble_eq_true rfl⟩) hS (fun q _ h => hFc q h) hFc (fun ra11 u t H1 locs ht hvm hwra11 hB hz1 hk1 hS => ?_)
  try rw [hwra11] at hB
  obtain ⟨pt0_ra11, pt1_ra11, hP1, hK1, hD1⟩ := hB
  rw [ht] at hP1
  obtain ⟨hP, hD⟩ := va_join (wr := (wd_b9c2d44b h0 v0 h1 v1 v2 (-1) v3 r0 r1 r2 r3 r4 r5 r6 v4 v5 r7 r8 r9 h2 v6 r10 r11 v7 v8 r12 r13 v9 v10 r14 v11 v12 r15 v13 w14 r16 v15 v16 r17 r18 r19 r20 r21 r22 v17 r23 r24 r25 v18 h1 g0 f19 h2 g1 fn9)) (w1 := []) hP hD [] [0, 1, 2] rfl rfl (by decide) (by decide) hk1 hFc hP1 hD1
  generalize H1 = H at hP hS ⊢
  have hP : va_P (dC, dI) vwCl (wd_b9c2d44b h0 v0 h1 v1 v2 (-1) v3 r0 r1 r2 r3 r4 r5 r6 v4 v5 r7 r8 r9 h2 v6 r10 r11 v7 v8 r12 r13 v9 v10 r14 v11 v12 r15 v13 w14 r16 v15 v16 r17 r18 r19 r20 r21 r22 v17 r23 r24 r25 v18 h1 g0 f19 h2 g1 fn9) H := hP
  have hD : va_D A (wd_b9c2d44b h0 v0 h1 v1 v2 (-1) v3 r0 r1 r2 r3 r4 r5 r6 v4 v5 r7 r8 r9 h2 v6 r10 r11 v7 v8 r12 r13 v9 v10 r14 v11 v12 r15 v13 w14 r16 v15 v16 r17 r18 r19 r20 r21 r22 v17 r23 r24 r25 v18 h1 g0 f19 h2 g1 fn9) := hD
  obtain rfl : ra11 = (0 : Int32) := Int32.toInt_inj.mp (by rw [show ((0 : Int32)).toInt = 0 by decide]; omega)
  refine va_iast hx hb hK hP hD hS 2 1 rfl rfl (vp_in_iff.mpr ⟨by omega, by omega⟩) dX12_items_21 (fun H locs hP hD hS => ?_)
  obtain ⟨fn12, efn12⟩ : ∃ g : Nat → Int32, g = upd fn9 (Int32.toNatClampNeg t10) 0 := ⟨_, rfl⟩
  rw [← efn12] at hP hD
  have hP : va_P (dC, dI) vwCl (wd_b9c2d44b h0 v0 h1 v1 v2 (-1) v3 r0 r1 r2 r3 r4 r5 r6 v4 v5 r7 r8 r9 h2 v6 r10 r11 v7 v8 r12 r13 v9 v10 r14 v11 v12 r15 v13 w14 r16 v15 v16 r17 r18 r19 r20 r21 r22 v17 r23 r24 r25 v18 h1 g0 f19 h2 g1 fn12) H := hP
  have hD : va_D A (wd_b9c2d44b h0 v0 h1 v1 v2 (-1) v3 r0 r1 r2 r3 r4 r5 r6 v4 v5 r7 r8 r9 h2 v6 r10 r11 v7 v8 r12 r13 v9 v10 r14 v11 v12 r15 v13 w14 r16 v15 v16 r17 r18 r19 r20 r21 r22 v17 r23 r24 r25 v18 h1 g0 f19 h2 g1 fn12) := hD
  refine lv_iinc (v := 4) (lv' := [(5, .int 4), (0, .ref h0), (1, .int 98), (2, .ref h2), (3, .int v21), (4, .int 5)]) hx hb dX12_items_22 hl (k := 0) rfl (by decide) (by decide) rfl (fun ls hl => ?_)
  refine lv_goto (tgt := 3) hx hb dX12_items_25 (by decide) ?_
  refine lv_iload hx hb dX12_items_3 (lv_at hl 0 rfl) ?_
  refine lv_iload hx hb dX12_items_5 (lv_at hl 5 rfl) ?_
  refine lv_icmp_ge (tgt := 28) hx hb dX12_items_7 (by decide) (fun c => absurd c (by decide)) (fun _ => ?_)
  refine lv_aload_n hx hb dX12_items_10 rfl (lv_at hl 3 rfl) ?_
  refine lv_iload_n hx hb dX12_items_11 rfl (lv_at hl 4 rfl) ?_
  refine lv_iload hx hb dX12_items_12 (lv_at hl 0 rfl) ?_
  refine lv_iadd hx hb dX12_items_14 ?_
  refine lv_topi (fun t13 et13 => ?_)
  have gt13 : t13.toInt = v21.toInt + 4 := pv_add (a := v21.toInt) (b := 4) et13 rfl (by decide) (by omega) (by omega)
  refine lv_iload_n hx hb dX12_items_15 rfl (lv_at hl 2 rfl) ?_
  refine lv_iload hx hb dX12_items_16 (lv_at hl 0 rfl) ?_
  have hPc := hP.sub (ws' := []) [] rfl
  have hDc := hD.sub (ws' := []) [] (by decide) rfl
  have hKc := hK.sub (tys' := []) [] rfl
  have hFc := va_free (wc := []) hD hS hA [] rfl
  refine va_calli (va_runS (As := [.int 98, .int 4]) (rest := [.int t13, .ref h2]) ⟨hx, hb, hml, hown, hts⟩ (k_X12_usual_8 l dC dI   H.size) (va_cwS 2 hts g_X12_items_2_4 rfl rfl rfl (by decide +kernel) ⟨Nat.le_of_ble_eq_true rfl, Nat.le_of_ble_eq_true rfl⟩) ⟨fun a U g mk q => by obtain ⟨q0, q1, qP, qK, qD⟩ := q; exact ⟨q0, q1, qP, va_K.moved (u := U) (U := U.calling g mk a) (Vm.Alike.refl U.vm) qK, qD⟩, fun U hU hW => ⟨rfl, by rw [hU], by rw [hU]; exact hPc, va_K.moved hW.alike hKc, hDc.weaken (fun _ _ _ _ => trivial)⟩⟩ rfl rfl hl.1 rfl (lv_room (Nat.le_of_ble_eq_true rfl)) dX12_items_18 ⟨Nat.le_of_ble_eq_true rfl, Nat.le_of_ble_eq_true rfl⟩) hS (fun q _ h => hFc q h) hFc (fun ra14 u t H1 locs ht hvm hwra14 hB hz1 hk1 hS => ?_)
  try rw [hwra14] at hB
  obtain ⟨pt0_ra14, pt1_ra14, hP1, hK1, hD1⟩ := hB
  rw [ht] at hP1
  obtain ⟨hP, hD⟩ := va_join (wr := (wd_b9c2d44b h0 v0 h1 v1 v2 (-1) v3 r0 r1 r2 r3 r4 r5 r6 v4 v5 r7 r8 r9 h2 v6 r10 r11 v7 v8 r12 r13 v9 v10 r14 v11 v12 r15 v13 w14 r16 v15 v16 r17 r18 r19 r20 r21 r22 v17 r23 r24 r25 v18 h1 g0 f19 h2 g1 fn12)) (w1 := []) hP hD [] [0, 1, 2] rfl rfl (by decide) (by decide) hk1 hFc hP1 hD1
  generalize H1 = H at hP hS ⊢
  have hP : va_P (dC, dI) vwCl (wd_b9c2d44b h0 v0 h1 v1 v2 (-1) v3 r0 r1 r2 r3 r4 r5 r6 v4 v5 r7 r8 r9 h2 v6 r10 r11 v7 v8 r12 r13 v9 v10 r14 v11 v12 r15 v13 w14 r16 v15 v16 r17 r18 r19 r20 r21 r22 v17 r23 r24 r25 v18 h1 g0 f19 h2 g1 fn12) H := hP
  have hD : va_D A (wd_b9c2d44b h0 v0 h1 v1 v2 (-1) v3 r0 r1 r2 r3 r4 r5 r6 v4 v5 r7 r8 r9 h2 v6 r10 r11 v7 v8 r12 r13 v9 v10 r14 v11 v12 r15 v13 w14 r16 v15 v16 r17 r18 r19 r20 r21 r22 v17 r23 r24 r25 v18 h1 g0 f19 h2 g1 fn12) := hD
  obtain rfl : ra14 = (0 : Int32) := Int32.toInt_inj.mp (by rw [show ((0 : Int32)).toInt = 0 by decide]; omega)
  refine va_iast hx hb hK hP hD hS 2 1 rfl rfl (vp_in_iff.mpr ⟨by omega, by omega⟩) dX12_items_21 (fun H locs hP hD hS => ?_)
  obtain ⟨fn15, efn15⟩ : ∃ g : Nat → Int32, g = upd fn12 (Int32.toNatClampNeg t13) 0 := ⟨_, rfl⟩
  rw [← efn15] at hP hD
  have hP : va_P (dC, dI) vwCl (wd_b9c2d44b h0 v0 h1 v1 v2 (-1) v3 r0 r1 r2 r3 r4 r5 r6 v4 v5 r7 r8 r9 h2 v6 r10 r11 v7 v8 r12 r13 v9 v10 r14 v11 v12 r15 v13 w14 r16 v15 v16 r17 r18 r19 r20 r21 r22 v17 r23 r24 r25 v18 h1 g0 f19 h2 g1 fn15) H := hP
  have hD : va_D A (wd_b9c2d44b h0 v0 h1 v1 v2 (-1) v3 r0 r1 r2 r3 r4 r5 r6 v4 v5 r7 r8 r9 h2 v6 r10 r11 v7 v8 r12 r13 v9 v10 r14 v11 v12 r15 v13 w14 r16 v15 v16 r17 r18 r19 r20 r21 r22 v17 r23 r24 r25 v18 h1 g0 f19 h2 g1 fn15) := hD
  refine lv_iinc (v := 5) (lv' := [(5, .int 5), (0, .ref h0), (1, .int 98), (2, .ref h2), (3, .int v21), (4, .int 5)]) hx hb dX12_items_22 hl (k := 0) rfl (by decide) (by decide) rfl (fun ls hl => ?_)
  refine lv_goto (tgt := 3) hx hb dX12_items_25 (by decide) ?_
  refine lv_iload hx hb dX12_items_3 (lv_at hl 0 rfl) ?_
  refine lv_iload hx hb dX12_items_5 (lv_at hl 5 rfl) ?_
  refine lv_icmp_ge (tgt := 28) hx hb dX12_items_7 (by decide) (fun _ => ?_) (fun c => absurd (by decide) c)
  refine lv_iconst (v := 0) hx hb dX12_items_28 (by decide) ?_
  refine lv_istore (lv' := [(5, .int 0), (0, .ref h0), (1, .int 98), (2, .ref h2), (3, .int v21), (4, .int 5)]) hx hb dX12_items_29 hl (by decide) rfl (fun ls hl => ?_)
  refine lv_iload_n hx hb dX12_items_31 rfl (lv_at hl 2 rfl) ?_
  refine lv_aload_n hx hb dX12_items_32 rfl (lv_at hl 1 rfl) ?_
  have hPc := hP.sub (ws' := (wd_f4cd022e h0 v0 h1 v1 v2 (-1) v3 r0 r1 r2 r3 r4 r5 r6 v4 v5 r7 r8 r9 h2 v6 r10 r11 v7 v8 r12 r13 v9 v10 r14 v11 v12 r15 v13 w14 r16 v15 v16 r17 r18 r19 r20 r21 r22 v17 r23 r24 r25 v18 h1 g0 f19)) [0, 1] rfl
  have hDc := hD.sub (ws' := (wd_f4cd022e h0 v0 h1 v1 v2 (-1) v3 r0 r1 r2 r3 r4 r5 r6 v4 v5 r7 r8 r9 h2 v6 r10 r11 v7 v8 r12 r13 v9 v10 r14 v11 v12 r15 v13 w14 r16 v15 v16 r17 r18 r19 r20 r21 r22 v17 r23 r24 r25 v18 h1 g0 f19)) [0, 1] (by decide) rfl
  have hKc := hK.sub (tys' := [(g0, .int)]) [0] rfl
  have hFc := va_free (wc := (wd_f4cd022e h0 v0 h1 v1 v2 (-1) v3 r0 r1 r2 r3 r4 r5 r6 v4 v5 r7 r8 r9 h2 v6 r10 r11 v7 v8 r12 r13 v9 v10 r14 v11 v12 r15 v13 w14 r16 v15 v16 r17 r18 r19 r20 r21 r22 v17 r23 r24 r25 v18 h1 g0 f19)) hD hS hA [0, 1] rfl
  refine va_calli (va_runV (As := []) (rest := [.int 98]) ⟨hx, hb, hml, hown, hts⟩ (k_X12_look l dC dI h0 h1 v0 v1 v2 ((-1)) v3 r0 r1 r2 r3 r4 r5 r6 v4 v5 r7 r8 r9 h2 v6 r10 r11 v7 v8 r12 r13 v9 v10 r14 v11 v12 r15 v13 w14 r16 v15 v16 r17 r18 r19 r20 r21 r22 v17 r23 r24 r25 v18 g0 f19 ⟨by first | omega | decide, by first | omega | decide⟩ ⟨by first | omega | decide, by first | omega | decide⟩ ⟨by first | omega | decide, by first | omega | decide⟩ ⟨by first | omega | decide, by first | omega | decide⟩ ⟨by first | omega | decide, by first | omega | decide⟩ ⟨by first | omega | decide, by first | omega | decide⟩ ⟨by first | omega | decide, by first | omega | decide⟩ ⟨by first | omega | decide, by first | omega | decide⟩ ⟨by first | omega | decide, by first | omega | decide⟩ ⟨by first | omega | decide, by first | omega | decide⟩ ⟨by first | omega | decide, by first | omega | decide⟩ ia_f19 H.size) (cwV 0 hts g_X12_items_2_5 rfl rfl rfl (by decide +kernel) ⟨Nat.le_of_ble_eq_true rfl, Nat.le_of_ble_eq_true rfl⟩) ⟨fun a U g mk q => by obtain ⟨q0, q1, qP, qK, qD⟩ := q; exact ⟨q0, q1, qP, va_K.moved (u := U) (U := U.calling g mk a) (Vm.Alike.refl U.vm) qK, qD⟩, va_recv hKc hPc (ci := 12) (q0 := 0) rfl rfl, fun U hU hW => ⟨rfl, by rw [hU], by rw [hU]; exact hPc, va_K.moved hW.alike hKc, hDc.weaken (fun _ _ _ _ => trivial)⟩⟩ rfl rfl hl.1 rfl (lv_room (Nat.le_of_ble_eq_true rfl)) dX12_items_33 ⟨Nat.le_of_ble_eq_true rfl, Nat.le_of_ble_eq_true rfl⟩) hS (fun q _ h => hFc q h) hFc (fun ra16 u t H1 locs ht hvm hwra16 hB hz1 hk1 hS => ?_)
  try rw [hwra16] at hB
  have hkra16_0 : (((-1) : Int32)).toInt = -1 := by decide
  rcases hB with hB | hB
  · skip
    obtain ⟨x17, oa_x17, ob_x17, pt0_ra16, pt1_ra16, pt2_ra16, pt3_ra16, pt4_ra16, pt5_ra16, pt6_ra16, hP1, hK1, hD1⟩ := hB
    rw [ht] at hP1
    obtain ⟨hP, hD⟩ := va_join (wr := (wd_aad598ec h2 g1 fn15)) (w1 := (wd_f4cd022e h0 v0 h1 v1 x17 (-1) v3 r0 r1 r2 r3 r4 r5 r6 v4 v5 r7 r8 r9 h2 v6 r10 r11 v7 v8 r12 r13 v9 v10 r14 v11 v12 r15 v13 w14 r16 v15 v16 r17 r18 r19 r20 r21 r22 v17 r23 r24 r25 v18 h1 g0 f19)) hP hD [0, 1] [2] rfl rfl (by decide) (by decide) hk1 hFc hP1 hD1
    generalize H1 = H at hP hS ⊢
    have hP := hP.sub (ws' := (wd_b9c2d44b h0 v0 h1 v1 x17 (-1) v3 r0 r1 r2 r3 r4 r5 r6 v4 v5 r7 r8 r9 h2 v6 r10 r11 v7 v8 r12 r13 v9 v10 r14 v11 v12 r15 v13 w14 r16 v15 v16 r17 r18 r19 r20 r21 r22 v17 r23 r24 r25 v18 h1 g0 f19 h2 g1 fn15)) [1, 2, 0] rfl
    have hD := hD.sub (ws' := (wd_b9c2d44b h0 v0 h1 v1 x17 (-1) v3 r0 r1 r2 r3 r4 r5 r6 v4 v5 r7 r8 r9 h2 v6 r10 r11 v7 v8 r12 r13 v9 v10 r14 v11 v12 r15 v13 w14 r16 v15 v16 r17 r18 r19 r20 r21 r22 v17 r23 r24 r25 v18 h1 g0 f19 h2 g1 fn15)) [1, 2, 0] (by decide) rfl
    have hP : va_P (dC, dI) vwCl (wd_b9c2d44b h0 v0 h1 v1 x17 (-1) v3 r0 r1 r2 r3 r4 r5 r6 v4 v5 r7 r8 r9 h2 v6 r10 r11 v7 v8 r12 r13 v9 v10 r14 v11 v12 r15 v13 w14 r16 v15 v16 r17 r18 r19 r20 r21 r22 v17 r23 r24 r25 v18 h1 g0 f19 h2 g1 fn15) H := hP
    have hD : va_D A (wd_b9c2d44b h0 v0 h1 v1 x17 (-1) v3 r0 r1 r2 r3 r4 r5 r6 v4 v5 r7 r8 r9 h2 v6 r10 r11 v7 v8 r12 r13 v9 v10 r14 v11 v12 r15 v13 w14 r16 v15 v16 r17 r18 r19 r20 r21 r22 v17 r23 r24 r25 v18 h1 g0 f19 h2 g1 fn15) := hD
    obtain rfl : ra16 = ((-1) : Int32) := Int32.toInt_inj.mp (by rw [show (((-1) : Int32)).toInt = -1 by decide]; omega)
    have hPc := hP.sub (ws' := []) [] rfl
    have hDc := hD.sub (ws' := []) [] (by decide) rfl
    have hKc := hK.sub (tys' := []) [] rfl
    have hFc := va_free (wc := []) hD hS hA [] rfl
    refine va_calli (va_runS (As := [.int 98, .int (-1)]) (rest := []) ⟨hx, hb, hml, hown, hts⟩ (k_X12_itemOf l dC dI ((-1))  H.size) (va_cwS 2 hts g_X12_items_2_6 rfl rfl rfl (by decide +kernel) ⟨Nat.le_of_ble_eq_true rfl, Nat.le_of_ble_eq_true rfl⟩) ⟨fun a U g mk q => by obtain ⟨q0, q1, qP, qK, qD⟩ := q; exact ⟨q0, q1, qP, va_K.moved (u := U) (U := U.calling g mk a) (Vm.Alike.refl U.vm) qK, qD⟩, fun U hU hW => ⟨rfl, by rw [hU], by rw [hU]; exact hPc, va_K.moved hW.alike hKc, hDc.weaken (fun _ _ _ _ => trivial)⟩⟩ rfl rfl hl.1 rfl (lv_room (Nat.le_of_ble_eq_true rfl)) dX12_items_36 ⟨Nat.le_of_ble_eq_true rfl, Nat.le_of_ble_eq_true rfl⟩) hS (fun q _ h => hFc q h) hFc (fun ra18 u t H1 locs ht hvm hwra18 hB hz1 hk1 hS => ?_)
    try rw [hwra18] at hB
    have hkra18_0 : (((-1) : Int32)).toInt = -1 := by decide
    obtain ⟨pt0_ra18, pt1_ra18, pt2_ra18, pt3_ra18, hP1, hK1, hD1⟩ := hB
    rw [ht] at hP1
    obtain ⟨hP, hD⟩ := va_join (wr := (wd_b9c2d44b h0 v0 h1 v1 x17 (-1) v3 r0 r1 r2 r3 r4 r5 r6 v4 v5 r7 r8 r9 h2 v6 r10 r11 v7 v8 r12 r13 v9 v10 r14 v11 v12 r15 v13 w14 r16 v15 v16 r17 r18 r19 r20 r21 r22 v17 r23 r24 r25 v18 h1 g0 f19 h2 g1 fn15)) (w1 := []) hP hD [] [0, 1, 2] rfl rfl (by decide) (by decide) hk1 hFc hP1 hD1
    generalize H1 = H at hP hS ⊢
    have hP : va_P (dC, dI) vwCl (wd_b9c2d44b h0 v0 h1 v1 x17 (-1) v3 r0 r1 r2 r3 r4 r5 r6 v4 v5 r7 r8 r9 h2 v6 r10 r11 v7 v8 r12 r13 v9 v10 r14 v11 v12 r15 v13 w14 r16 v15 v16 r17 r18 r19 r20 r21 r22 v17 r23 r24 r25 v18 h1 g0 f19 h2 g1 fn15) H := hP
    have hD : va_D A (wd_b9c2d44b h0 v0 h1 v1 x17 (-1) v3 r0 r1 r2 r3 r4 r5 r6 v4 v5 r7 r8 r9 h2 v6 r10 r11 v7 v8 r12 r13 v9 v10 r14 v11 v12 r15 v13 w14 r16 v15 v16 r17 r18 r19 r20 r21 r22 v17 r23 r24 r25 v18 h1 g0 f19 h2 g1 fn15) := hD
    have hkra18 : ra18 = pg_it false (pg_ch f19 v1.toInt x17.toInt) := by rw [show pg_ch f19 v1.toInt x17.toInt = (-1) by omega]; exact pt3_ra18
    refine lv_istore (lv' := [(6, .int ra18), (5, .int 0), (0, .ref h0), (1, .int 98), (2, .ref h2), (3, .int v21), (4, .int 5)]) hx hb dX12_items_39 hl (by decide) rfl (fun ls hl => ?_)
    refine lv_aload_n hx hb dX12_items_41 rfl (lv_at hl 2 rfl) ?_
    refine va_get (D := (dC, dI)) (ci := 12) (v := .int (-1)) (C := RX12) (T := TX12) (N := 48) hx hb hts (fun _ h => List.mem_cons_of_mem _ (List.mem_append_right _ h)) hown hK hP 0 rfl rfl 4 (by decide) (hts (.fieldLink RX12 119 "LeftArgumentsModel" "wrong" "I") (List.mem_cons_of_mem _ (List.mem_append_left _ (List.mem_of_getElem? (i := 18) rfl)))) (fun _ h9 => h9) rfl dX12_items_42 ?_
    refine lv_iconst (v := (-1)) hx hb dX12_items_45 (by decide) ?_
    refine lv_icmp_ne (tgt := 131) hx hb dX12_items_46 (by decide) (fun c => absurd (by decide) c) (fun _ => ?_)
    refine lv_iload hx hb dX12_items_49 (lv_at hl 0 rfl) ?_
    refine lv_iconst (v := (-1)) hx hb dX12_items_51 (by decide) ?_
    refine lv_icmp_eq (tgt := 131) hx hb dX12_items_52 (by decide) (fun c19 => ?_) (fun c19 => ?_)
    · skip
      have fc19 : ra18.toInt = (-1) := congrArg Int32.toInt c19
      subst hQ
      have hP9 := hP.sub (ws' := (wd_b9c2d44b h0 v0 h1 v1 x17 (-1) v3 r0 r1 r2 r3 r4 r5 r6 v4 v5 r7 r8 r9 h2 v6 r10 r11 v7 v8 r12 r13 v9 v10 r14 v11 v12 r15 v13 w14 r16 v15 v16 r17 r18 r19 r20 r21 r22 v17 r23 r24 r25 v18 h1 g0 f19 h2 g1 fn15)) [0, 1, 2] rfl
      have hD9 := hD.sub (ws' := (wd_b9c2d44b h0 v0 h1 v1 x17 (-1) v3 r0 r1 r2 r3 r4 r5 r6 v4 v5 r7 r8 r9 h2 v6 r10 r11 v7 v8 r12 r13 v9 v10 r14 v11 v12 r15 v13 w14 r16 v15 v16 r17 r18 r19 r20 r21 r22 v17 r23 r24 r25 v18 h1 g0 f19 h2 g1 fn15)) [0, 1, 2] (by decide) rfl
      have hK9 := hK.sub (tys' := []) [] rfl
      exact W.vret hx hb hr (fun t ht hW => ⟨⟨(), rfl, trivial, Or.inl ⟨x17, fn15, by first | omega | decide, by first | omega | decide, by omega, by first | assumption | (apply pm_bb.init <;> first | assumption | omega | decide), by first | (apply pg_I.out <;> first | assumption | exact Or.inl (by assumption) | exact Or.inr (by assumption)) | (apply pg_items.e0 <;> first | assumption | omega | (apply pg_ur.mk <;> first | assumption | decide) | (apply pg_us.mk <;> first | assumption | omega | decide)) | (apply pg_I.last <;> first | assumption | omega | (show _ = pm_los _; assumption) | (show _ = pm_his _; assumption) | (show _ = pm_lob _; assumption) | (show _ = pm_hib _; assumption)), by rw [ht]; exact hP9, va_K.moved hW.alike hK9, hD9⟩⟩, hS.F ht⟩) hS.2.2 dX12_items_131
    · skip
      have fc19 : ¬ (ra18.toInt = (-1)) := fun h9 => c19 (Int32.toInt_inj.mp h9)
      exfalso; omega
  · skip
    obtain ⟨x20, oa_x20, ob_x20, pt0_ra16, pt1_ra16, pt2_ra16, pt3_ra16, pt4_ra16, pt5_ra16, pt6_ra16, pt7_ra16, hP1, hK1, hD1⟩ := hB
    rw [ht] at hP1
    obtain ⟨hP, hD⟩ := va_join (wr := (wd_aad598ec h2 g1 fn15)) (w1 := (wd_f4cd022e h0 v0 h1 v1 x20 (-1) v3 r0 r1 r2 r3 r4 r5 r6 v4 v5 r7 r8 r9 h2 v6 r10 r11 v7 v8 r12 r13 v9 v10 r14 v11 v12 r15 v13 w14 r16 v15 v16 r17 r18 r19 r20 r21 r22 v17 r23 r24 r25 v18 h1 g0 f19)) hP hD [0, 1] [2] rfl rfl (by decide) (by decide) hk1 hFc hP1 hD1
    generalize H1 = H at hP hS ⊢
    have hP := hP.sub (ws' := (wd_b9c2d44b h0 v0 h1 v1 x20 (-1) v3 r0 r1 r2 r3 r4 r5 r6 v4 v5 r7 r8 r9 h2 v6 r10 r11 v7 v8 r12 r13 v9 v10 r14 v11 v12 r15 v13 w14 r16 v15 v16 r17 r18 r19 r20 r21 r22 v17 r23 r24 r25 v18 h1 g0 f19 h2 g1 fn15)) [1, 2, 0] rfl
    have hD := hD.sub (ws' := (wd_b9c2d44b h0 v0 h1 v1 x20 (-1) v3 r0 r1 r2 r3 r4 r5 r6 v4 v5 r7 r8 r9 h2 v6 r10 r11 v7 v8 r12 r13 v9 v10 r14 v11 v12 r15 v13 w14 r16 v15 v16 r17 r18 r19 r20 r21 r22 v17 r23 r24 r25 v18 h1 g0 f19 h2 g1 fn15)) [1, 2, 0] (by decide) rfl
    have hP : va_P (dC, dI) vwCl (wd_b9c2d44b h0 v0 h1 v1 x20 (-1) v3 r0 r1 r2 r3 r4 r5 r6 v4 v5 r7 r8 r9 h2 v6 r10 r11 v7 v8 r12 r13 v9 v10 r14 v11 v12 r15 v13 w14 r16 v15 v16 r17 r18 r19 r20 r21 r22 v17 r23 r24 r25 v18 h1 g0 f19 h2 g1 fn15) H := hP
    have hD : va_D A (wd_b9c2d44b h0 v0 h1 v1 x20 (-1) v3 r0 r1 r2 r3 r4 r5 r6 v4 v5 r7 r8 r9 h2 v6 r10 r11 v7 v8 r12 r13 v9 v10 r14 v11 v12 r15 v13 w14 r16 v15 v16 r17 r18 r19 r20 r21 r22 v17 r23 r24 r25 v18 h1 g0 f19 h2 g1 fn15) := hD
    have hPc := hP.sub (ws' := []) [] rfl
    have hDc := hD.sub (ws' := []) [] (by decide) rfl
    have hKc := hK.sub (tys' := []) [] rfl
    have hFc := va_free (wc := []) hD hS hA [] rfl
    refine va_calli (va_runS (As := [.int 98, .int ra16]) (rest := []) ⟨hx, hb, hml, hown, hts⟩ (k_X12_itemOf l dC dI ra16  H.size) (va_cwS 2 hts g_X12_items_2_6 rfl rfl rfl (by decide +kernel) ⟨Nat.le_of_ble_eq_true rfl, Nat.le_of_ble_eq_true rfl⟩) ⟨fun a U g mk q => by obtain ⟨q0, q1, qP, qK, qD⟩ := q; exact ⟨q0, q1, qP, va_K.moved (u := U) (U := U.calling g mk a) (Vm.Alike.refl U.vm) qK, qD⟩, fun U hU hW => ⟨rfl, by rw [hU], by rw [hU]; exact hPc, va_K.moved hW.alike hKc, hDc.weaken (fun _ _ _ _ => trivial)⟩⟩ rfl rfl hl.1 rfl (lv_room (Nat.le_of_ble_eq_true rfl)) dX12_items_36 ⟨Nat.le_of_ble_eq_true rfl, Nat.le_of_ble_eq_true rfl⟩) hS (fun q _ h => hFc q h) hFc (fun ra21 u t H1 locs ht hvm hwra21 hB hz1 hk1 hS => ?_)
    try rw [hwra21] at hB
    obtain ⟨pt0_ra21, pt1_ra21, pt2_ra21, pt3_ra21, hP1, hK1, hD1⟩ := hB
    rw [ht] at hP1
    obtain ⟨hP, hD⟩ := va_join (wr := (wd_b9c2d44b h0 v0 h1 v1 x20 (-1) v3 r0 r1 r2 r3 r4 r5 r6 v4 v5 r7 r8 r9 h2 v6 r10 r11 v7 v8 r12 r13 v9 v10 r14 v11 v12 r15 v13 w14 r16 v15 v16 r17 r18 r19 r20 r21 r22 v17 r23 r24 r25 v18 h1 g0 f19 h2 g1 fn15)) (w1 := []) hP hD [] [0, 1, 2] rfl rfl (by decide) (by decide) hk1 hFc hP1 hD1
    generalize H1 = H at hP hS ⊢
    have hP : va_P (dC, dI) vwCl (wd_b9c2d44b h0 v0 h1 v1 x20 (-1) v3 r0 r1 r2 r3 r4 r5 r6 v4 v5 r7 r8 r9 h2 v6 r10 r11 v7 v8 r12 r13 v9 v10 r14 v11 v12 r15 v13 w14 r16 v15 v16 r17 r18 r19 r20 r21 r22 v17 r23 r24 r25 v18 h1 g0 f19 h2 g1 fn15) H := hP
    have hD : va_D A (wd_b9c2d44b h0 v0 h1 v1 x20 (-1) v3 r0 r1 r2 r3 r4 r5 r6 v4 v5 r7 r8 r9 h2 v6 r10 r11 v7 v8 r12 r13 v9 v10 r14 v11 v12 r15 v13 w14 r16 v15 v16 r17 r18 r19 r20 r21 r22 v17 r23 r24 r25 v18 h1 g0 f19 h2 g1 fn15) := hD
    have hkra21 : ra21 = pg_it false (pg_ch f19 v1.toInt x20.toInt) := by rw [show pg_ch f19 v1.toInt x20.toInt = ra16.toInt by omega]; exact pt3_ra21
    refine lv_istore (lv' := [(6, .int ra21), (5, .int 0), (0, .ref h0), (1, .int 98), (2, .ref h2), (3, .int v21), (4, .int 5)]) hx hb dX12_items_39 hl (by decide) rfl (fun ls hl => ?_)
    have hL30 : ∀ (n9 : Nat), ∀ (x22 : Int32) (x23 : Int32) (x24 : Int32) (fn25 : Nat → Int32) (H : Heap) (locs : List Loc) (ls : Array Slot), -1 ≤ x22.toInt → x22.toInt ≤ 4 → 0 ≤ x24.toInt → x24.toInt ≤ 240 → pm_bb v21 f20 fn25 → x22.toInt = -1 ∨ x24.toInt < v1.toInt → v2.toInt ≤ x24.toInt → pg_I f19 v1.toInt false v21.toInt x24.toInt x23 fn25 (pg_items f19 v1.toInt false v21.toInt 300 v2.toInt 0 (pg_us f20 v21.toInt)) → ¬ pg_ch f19 v1.toInt x24.toInt = 32 → x22 = pg_it false (pg_ch f19 v1.toInt x24.toInt) → (300 - x24.toInt).toNat < n9 → va_P (dC, dI) vwCl (wd_b9c2d44b h0 v0 h1 v1 x24 (-1) v3 r0 r1 r2 r3 r4 r5 r6 v4 v5 r7 r8 r9 h2 v6 r10 r11 v7 v8 r12 r13 v9 v10 r14 v11 v12 r15 v13 w14 r16 v15 v16 r17 r18 r19 r20 r21 r22 v17 r23 r24 r25 v18 h1 g0 f19 h2 g1 fn25) H → va_D A (wd_b9c2d44b h0 v0 h1 v1 x24 (-1) v3 r0 r1 r2 r3 r4 r5 r6 v4 v5 r7 r8 r9 h2 v6 r10 r11 v7 v8 r12 r13 v9 v10 r14 v11 v12 r15 v13 w14 r16 v15 v16 r17 r18 r19 r20 r21 r22 v17 r23 r24 r25 v18 h1 g0 f19 h2 g1 fn25) → va_S A s.heap H locs → lv_has ls 7 [(6, .int x22), (5, .int x23), (0, .ref h0), (1, .int 98), (2, .ref h2), (3, .int v21), (4, .int 5)] → W p l e ({ frames := 3, cells := 0, slots := 0, locals := 63 }) s m ([.ref h0, .int 98, .ref h2, .int v21, .int 5] : List Value).toArray below meth c H locs 0 0 Q (F0 m 41 ls []) := by
      intro n9
      induction n9 with
      | zero => intro x22 x23 x24 fn25 H locs ls qa_x22 qb_x22 qa_x24 qb_x24 gh0_hL30 gh1_hL30 gh2_hL30 gh3_hL30 gh4_hL30 gh5_hL30 hm9 hP hD hS hl; exact absurd hm9 (Nat.not_lt_zero _)
      | succ n9 ih_hL30 =>
        intro x22 x23 x24 fn25 H locs ls qa_x22 qb_x22 qa_x24 qb_x24 gh0_hL30 gh1_hL30 gh2_hL30 gh3_hL30 gh4_hL30 gh5_hL30 hm9 hP hD hS hl
        refine lv_aload_n hx hb dX12_items_41 rfl (lv_at hl 2 rfl) ?_
        refine va_get (D := (dC, dI)) (ci := 12) (v := .int (-1)) (C := RX12) (T := TX12) (N := 48) hx hb hts (fun _ h => List.mem_cons_of_mem _ (List.mem_append_right _ h)) hown hK hP 0 rfl rfl 4 (by decide) (hts (.fieldLink RX12 119 "LeftArgumentsModel" "wrong" "I") (List.mem_cons_of_mem _ (List.mem_append_left _ (List.mem_of_getElem? (i := 18) rfl)))) (fun _ h9 => h9) rfl dX12_items_42 ?_
        refine lv_iconst (v := (-1)) hx hb dX12_items_45 (by decide) ?_
        refine lv_icmp_ne (tgt := 131) hx hb dX12_items_46 (by decide) (fun c => absurd (by decide) c) (fun _ => ?_)
        refine lv_iload hx hb dX12_items_49 (lv_at hl 0 rfl) ?_
        refine lv_iconst (v := (-1)) hx hb dX12_items_51 (by decide) ?_
        refine lv_icmp_eq (tgt := 131) hx hb dX12_items_52 (by decide) (fun c31 => ?_) (fun c31 => ?_)
        · skip
          have fc31 : x22.toInt = (-1) := congrArg Int32.toInt c31
          subst hQ
          have hP9 := hP.sub (ws' := (wd_b9c2d44b h0 v0 h1 v1 x24 (-1) v3 r0 r1 r2 r3 r4 r5 r6 v4 v5 r7 r8 r9 h2 v6 r10 r11 v7 v8 r12 r13 v9 v10 r14 v11 v12 r15 v13 w14 r16 v15 v16 r17 r18 r19 r20 r21 r22 v17 r23 r24 r25 v18 h1 g0 f19 h2 g1 fn25)) [0, 1, 2] rfl
          have hD9 := hD.sub (ws' := (wd_b9c2d44b h0 v0 h1 v1 x24 (-1) v3 r0 r1 r2 r3 r4 r5 r6 v4 v5 r7 r8 r9 h2 v6 r10 r11 v7 v8 r12 r13 v9 v10 r14 v11 v12 r15 v13 w14 r16 v15 v16 r17 r18 r19 r20 r21 r22 v17 r23 r24 r25 v18 h1 g0 f19 h2 g1 fn25)) [0, 1, 2] (by decide) rfl
          have hK9 := hK.sub (tys' := []) [] rfl
          exact W.vret hx hb hr (fun t ht hW => ⟨⟨(), rfl, trivial, Or.inl ⟨x24, fn25, by first | omega | decide, by first | omega | decide, by omega, by first | assumption | (apply pm_bb.init <;> first | assumption | omega | decide), by first | (apply pg_I.out <;> first | assumption | exact Or.inl (by assumption) | exact Or.inr (by assumption)) | (apply pg_items.e0 <;> first | assumption | omega | (apply pg_ur.mk <;> first | assumption | decide) | (apply pg_us.mk <;> first | assumption | omega | decide)) | (apply pg_I.last <;> first | assumption | omega | (show _ = pm_los _; assumption) | (show _ = pm_his _; assumption) | (show _ = pm_lob _; assumption) | (show _ = pm_hib _; assumption)), by rw [ht]; exact hP9, va_K.moved hW.alike hK9, hD9⟩⟩, hS.F ht⟩) hS.2.2 dX12_items_131
        · skip
          have fc31 : ¬ (x22.toInt = (-1)) := fun h9 => c31 (Int32.toInt_inj.mp h9)
          refine lv_iload hx hb dX12_items_55 (lv_at hl 1 rfl) ?_
          refine lv_iload hx hb dX12_items_57 (lv_at hl 0 rfl) ?_
          have hPc := hP.sub (ws' := []) [] rfl
          have hDc := hD.sub (ws' := []) [] (by decide) rfl
          have hKc := hK.sub (tys' := []) [] rfl
          have hFc := va_free (wc := []) hD hS hA [] rfl
          refine va_calli (va_runS (As := [.int x23, .int x22]) (rest := []) ⟨hx, hb, hml, hown, hts⟩ (k_X12_has l dC dI x23 x22  H.size) (va_cwS 2 hts g_X12_items_2_8 rfl rfl rfl (by decide +kernel) ⟨Nat.le_of_ble_eq_true rfl, Nat.le_of_ble_eq_true rfl⟩) ⟨fun a U g mk q => by obtain ⟨q0, q1, qP, qK, qD⟩ := q; exact ⟨q0, q1, qP, va_K.moved (u := U) (U := U.calling g mk a) (Vm.Alike.refl U.vm) qK, qD⟩, fun U hU hW => ⟨rfl, by rw [hU], by rw [hU]; exact hPc, va_K.moved hW.alike hKc, hDc.weaken (fun _ _ _ _ => trivial)⟩⟩ rfl rfl hl.1 rfl (lv_room (Nat.le_of_ble_eq_true rfl)) dX12_items_59 ⟨Nat.le_of_ble_eq_true rfl, Nat.le_of_ble_eq_true rfl⟩) hS (fun q _ h => hFc q h) hFc (fun ra32 u t H1 locs ht hvm hwra32 hB hz1 hk1 hS => ?_)
          try rw [hwra32] at hB
          obtain ⟨pt0_ra32, pt1_ra32, pt2_ra32, pt3_ra32, hP1, hK1, hD1⟩ := hB
          rw [ht] at hP1
          obtain ⟨hP, hD⟩ := va_join (wr := (wd_b9c2d44b h0 v0 h1 v1 x24 (-1) v3 r0 r1 r2 r3 r4 r5 r6 v4 v5 r7 r8 r9 h2 v6 r10 r11 v7 v8 r12 r13 v9 v10 r14 v11 v12 r15 v13 w14 r16 v15 v16 r17 r18 r19 r20 r21 r22 v17 r23 r24 r25 v18 h1 g0 f19 h2 g1 fn25)) (w1 := []) hP hD [] [0, 1, 2] rfl rfl (by decide) (by decide) hk1 hFc hP1 hD1
          generalize H1 = H at hP hS ⊢
          have hP : va_P (dC, dI) vwCl (wd_b9c2d44b h0 v0 h1 v1 x24 (-1) v3 r0 r1 r2 r3 r4 r5 r6 v4 v5 r7 r8 r9 h2 v6 r10 r11 v7 v8 r12 r13 v9 v10 r14 v11 v12 r15 v13 w14 r16 v15 v16 r17 r18 r19 r20 r21 r22 v17 r23 r24 r25 v18 h1 g0 f19 h2 g1 fn25) H := hP
          have hD : va_D A (wd_b9c2d44b h0 v0 h1 v1 x24 (-1) v3 r0 r1 r2 r3 r4 r5 r6 v4 v5 r7 r8 r9 h2 v6 r10 r11 v7 v8 r12 r13 v9 v10 r14 v11 v12 r15 v13 w14 r16 v15 v16 r17 r18 r19 r20 r21 r22 v17 r23 r24 r25 v18 h1 g0 f19 h2 g1 fn25) := hD
          refine lv_if_ne (tgt := 131) hx hb dX12_items_62 (by decide) (fun c33 => ?_) (fun c33 => ?_)
          · skip
            have fc33 : ¬ (ra32.toInt = 0) := fun h9 => c33 (Int32.toInt_inj.mp h9)
            have q1pt2_ra32 := pt2_ra32 (by omega)
            subst hQ
            have hP9 := hP.sub (ws' := (wd_b9c2d44b h0 v0 h1 v1 x24 (-1) v3 r0 r1 r2 r3 r4 r5 r6 v4 v5 r7 r8 r9 h2 v6 r10 r11 v7 v8 r12 r13 v9 v10 r14 v11 v12 r15 v13 w14 r16 v15 v16 r17 r18 r19 r20 r21 r22 v17 r23 r24 r25 v18 h1 g0 f19 h2 g1 fn25)) [0, 1, 2] rfl
            have hD9 := hD.sub (ws' := (wd_b9c2d44b h0 v0 h1 v1 x24 (-1) v3 r0 r1 r2 r3 r4 r5 r6 v4 v5 r7 r8 r9 h2 v6 r10 r11 v7 v8 r12 r13 v9 v10 r14 v11 v12 r15 v13 w14 r16 v15 v16 r17 r18 r19 r20 r21 r22 v17 r23 r24 r25 v18 h1 g0 f19 h2 g1 fn25)) [0, 1, 2] (by decide) rfl
            have hK9 := hK.sub (tys' := []) [] rfl
            exact W.vret hx hb hr (fun t ht hW => ⟨⟨(), rfl, trivial, Or.inl ⟨x24, fn25, by first | omega | decide, by first | omega | decide, by omega, by first | assumption | (apply pm_bb.init <;> first | assumption | omega | decide), by first | (apply pg_I.out <;> first | assumption | exact Or.inl (by assumption) | exact Or.inr (by assumption)) | (apply pg_items.e0 <;> first | assumption | omega | (apply pg_ur.mk <;> first | assumption | decide) | (apply pg_us.mk <;> first | assumption | omega | decide)) | (apply pg_I.last <;> first | assumption | omega | (show _ = pm_los _; assumption) | (show _ = pm_his _; assumption) | (show _ = pm_lob _; assumption) | (show _ = pm_hib _; assumption)), by rw [ht]; exact hP9, va_K.moved hW.alike hK9, hD9⟩⟩, hS.F ht⟩) hS.2.2 dX12_items_131
          · skip
            have fc33 : ra32.toInt = 0 := congrArg Int32.toInt c33
            have q0pt3_ra32 := pt3_ra32 (by omega)
            refine lv_iload hx hb dX12_items_65 (lv_at hl 1 rfl) ?_
            refine lv_iconst (v := 1) hx hb dX12_items_67 (by decide) ?_
            refine lv_iload hx hb dX12_items_68 (lv_at hl 0 rfl) ?_
            refine lv_ishl hx hb dX12_items_70 ?_
            refine lv_topi (fun t34 et34 => ?_)
            refine lv_ior hx hb dX12_items_71 ?_
            refine lv_topi (fun t35 et35 => ?_)
            refine lv_istore (lv' := [(5, .int t35), (6, .int x22), (0, .ref h0), (1, .int 98), (2, .ref h2), (3, .int v21), (4, .int 5)]) hx hb dX12_items_72 hl (by decide) rfl (fun ls hl => ?_)
            have hax24 : x24.toInt ≤ 239 := by omega
            refine lv_aload_n hx hb dX12_items_74 rfl (lv_at hl 2 rfl) ?_
            refine lv_dup hx hb dX12_items_75 rfl ?_
            refine va_get (D := (dC, dI)) (ci := 12) (v := .int x24) (C := RX12) (T := TX12) (N := 48) hx hb hts (fun _ h => List.mem_cons_of_mem _ (List.mem_append_right _ h)) hown hK hP 0 rfl rfl 3 (by decide) (hts (.fieldLink RX12 112 "LeftArgumentsModel" "at" "I") (List.mem_cons_of_mem _ (List.mem_append_left _ (List.mem_of_getElem? (i := 6) rfl)))) (fun _ h9 => h9) rfl dX12_items_76 ?_
            refine lv_iconst (v := 1) hx hb dX12_items_79 (by decide) ?_
            refine lv_iadd hx hb dX12_items_80 ?_
            refine lv_topi (fun t36 et36 => ?_)
            have gt36 : t36.toInt = x24.toInt + 1 := pv_add (a := x24.toInt) (b := 1) et36 rfl (by decide) (by omega) (by omega)
            refine va_put (D := (dC, dI)) (ci := 12) (v := .int t36) (ty := .int) (C := RX12) (T := TX12) (N := 48) hx hb hts (fun _ h => List.mem_cons_of_mem _ (List.mem_append_right _ h)) tyX12 tyX12_ok nmX12 hown hK hP hD hS 0 rfl rfl 3 (by decide) (hts (.fieldLink RX12 112 "LeftArgumentsModel" "at" "I") (List.mem_cons_of_mem _ (List.mem_append_left _ (List.mem_of_getElem? (i := 6) rfl)))) (fun _ h9 => h9) rfl (by decide +kernel) rfl rfl (Nat.le_of_ble_eq_true rfl) dX12_items_81 (fun H locs hP hD hS => ?_)
            have hP : va_P (dC, dI) vwCl (wd_b9c2d44b h0 v0 h1 v1 t36 (-1) v3 r0 r1 r2 r3 r4 r5 r6 v4 v5 r7 r8 r9 h2 v6 r10 r11 v7 v8 r12 r13 v9 v10 r14 v11 v12 r15 v13 w14 r16 v15 v16 r17 r18 r19 r20 r21 r22 v17 r23 r24 r25 v18 h1 g0 f19 h2 g1 fn25) H := hP
            have hD : va_D A (wd_b9c2d44b h0 v0 h1 v1 t36 (-1) v3 r0 r1 r2 r3 r4 r5 r6 v4 v5 r7 r8 r9 h2 v6 r10 r11 v7 v8 r12 r13 v9 v10 r14 v11 v12 r15 v13 w14 r16 v15 v16 r17 r18 r19 r20 r21 r22 v17 r23 r24 r25 v18 h1 g0 f19 h2 g1 fn25) := hD
            refine lv_aload_n hx hb dX12_items_84 rfl (lv_at hl 4 rfl) ?_
            refine lv_iload_n hx hb dX12_items_85 rfl (lv_at hl 5 rfl) ?_
            refine lv_iload hx hb dX12_items_86 (lv_at hl 1 rfl) ?_
            refine lv_iadd hx hb dX12_items_88 ?_
            refine lv_topi (fun t37 et37 => ?_)
            have gt37 : t37.toInt = v21.toInt + x22.toInt := pv_add (a := v21.toInt) (b := x22.toInt) et37 rfl rfl (by omega) (by omega)
            refine lv_aload_n hx hb dX12_items_89 rfl (lv_at hl 2 rfl) ?_
            refine lv_iload_n hx hb dX12_items_90 rfl (lv_at hl 3 rfl) ?_
            refine lv_iload hx hb dX12_items_91 (lv_at hl 1 rfl) ?_
            have hPc := hP.sub (ws' := []) [] rfl
            have hDc := hD.sub (ws' := []) [] (by decide) rfl
            have hKc := hK.sub (tys' := []) [] rfl
            have hFc := va_free (wc := []) hD hS hA [] rfl
            refine va_calli (va_runS (As := [.int 98, .int x22]) (rest := [.ref h0, .int t37, .ref h2]) ⟨hx, hb, hml, hown, hts⟩ (k_X12_lowest l dC dI x22 ⟨by first | omega | decide, by first | omega | decide⟩ H.size) (va_cwS 2 hts g_X12_items_2_9 rfl rfl rfl (by decide +kernel) ⟨Nat.le_of_ble_eq_true rfl, Nat.le_of_ble_eq_true rfl⟩) ⟨fun a U g mk q => by obtain ⟨q0, q1, qP, qK, qD⟩ := q; exact ⟨q0, q1, qP, va_K.moved (u := U) (U := U.calling g mk a) (Vm.Alike.refl U.vm) qK, qD⟩, fun U hU hW => ⟨rfl, by rw [hU], by rw [hU]; exact hPc, va_K.moved hW.alike hKc, hDc.weaken (fun _ _ _ _ => trivial)⟩⟩ rfl rfl hl.1 rfl (lv_room (Nat.le_of_ble_eq_true rfl)) dX12_items_93 ⟨Nat.le_of_ble_eq_true rfl, Nat.le_of_ble_eq_true rfl⟩) hS (fun q _ h => hFc q h) hFc (fun ra38 u t H1 locs ht hvm hwra38 hB hz1 hk1 hS => ?_)
            try rw [hwra38] at hB
            obtain ⟨pt0_ra38, pt1_ra38, pt2_ra38, hP1, hK1, hD1⟩ := hB
            rw [ht] at hP1
            obtain ⟨hP, hD⟩ := va_join (wr := (wd_b9c2d44b h0 v0 h1 v1 t36 (-1) v3 r0 r1 r2 r3 r4 r5 r6 v4 v5 r7 r8 r9 h2 v6 r10 r11 v7 v8 r12 r13 v9 v10 r14 v11 v12 r15 v13 w14 r16 v15 v16 r17 r18 r19 r20 r21 r22 v17 r23 r24 r25 v18 h1 g0 f19 h2 g1 fn25)) (w1 := []) hP hD [] [0, 1, 2] rfl rfl (by decide) (by decide) hk1 hFc hP1 hD1
            generalize H1 = H at hP hS ⊢
            have hP : va_P (dC, dI) vwCl (wd_b9c2d44b h0 v0 h1 v1 t36 (-1) v3 r0 r1 r2 r3 r4 r5 r6 v4 v5 r7 r8 r9 h2 v6 r10 r11 v7 v8 r12 r13 v9 v10 r14 v11 v12 r15 v13 w14 r16 v15 v16 r17 r18 r19 r20 r21 r22 v17 r23 r24 r25 v18 h1 g0 f19 h2 g1 fn25) H := hP
            have hD : va_D A (wd_b9c2d44b h0 v0 h1 v1 t36 (-1) v3 r0 r1 r2 r3 r4 r5 r6 v4 v5 r7 r8 r9 h2 v6 r10 r11 v7 v8 r12 r13 v9 v10 r14 v11 v12 r15 v13 w14 r16 v15 v16 r17 r18 r19 r20 r21 r22 v17 r23 r24 r25 v18 h1 g0 f19 h2 g1 fn25) := hD
            refine lv_iload_n hx hb dX12_items_96 rfl (lv_at hl 3 rfl) ?_
            refine lv_iload hx hb dX12_items_97 (lv_at hl 1 rfl) ?_
            have hPc := hP.sub (ws' := []) [] rfl
            have hDc := hD.sub (ws' := []) [] (by decide) rfl
            have hKc := hK.sub (tys' := []) [] rfl
            have hFc := va_free (wc := []) hD hS hA [] rfl
            refine va_calli (va_runS (As := [.int 98, .int x22]) (rest := [.int ra38, .ref h0, .int t37, .ref h2]) ⟨hx, hb, hml, hown, hts⟩ (k_X12_highest l dC dI x22 ⟨by first | omega | decide, by first | omega | decide⟩ H.size) (va_cwS 2 hts g_X12_items_2_10 rfl rfl rfl (by decide +kernel) ⟨Nat.le_of_ble_eq_true rfl, Nat.le_of_ble_eq_true rfl⟩) ⟨fun a U g mk q => by obtain ⟨q0, q1, qP, qK, qD⟩ := q; exact ⟨q0, q1, qP, va_K.moved (u := U) (U := U.calling g mk a) (Vm.Alike.refl U.vm) qK, qD⟩, fun U hU hW => ⟨rfl, by rw [hU], by rw [hU]; exact hPc, va_K.moved hW.alike hKc, hDc.weaken (fun _ _ _ _ => trivial)⟩⟩ rfl rfl hl.1 rfl (lv_room (Nat.le_of_ble_eq_true rfl)) dX12_items_99 ⟨Nat.le_of_ble_eq_true rfl, Nat.le_of_ble_eq_true rfl⟩) hS (fun q _ h => hFc q h) hFc (fun ra39 u t H1 locs ht hvm hwra39 hB hz1 hk1 hS => ?_)
            try rw [hwra39] at hB
            obtain ⟨pt0_ra39, pt1_ra39, pt2_ra39, hP1, hK1, hD1⟩ := hB
            rw [ht] at hP1
            obtain ⟨hP, hD⟩ := va_join (wr := (wd_b9c2d44b h0 v0 h1 v1 t36 (-1) v3 r0 r1 r2 r3 r4 r5 r6 v4 v5 r7 r8 r9 h2 v6 r10 r11 v7 v8 r12 r13 v9 v10 r14 v11 v12 r15 v13 w14 r16 v15 v16 r17 r18 r19 r20 r21 r22 v17 r23 r24 r25 v18 h1 g0 f19 h2 g1 fn25)) (w1 := []) hP hD [] [0, 1, 2] rfl rfl (by decide) (by decide) hk1 hFc hP1 hD1
            generalize H1 = H at hP hS ⊢
            have hP : va_P (dC, dI) vwCl (wd_b9c2d44b h0 v0 h1 v1 t36 (-1) v3 r0 r1 r2 r3 r4 r5 r6 v4 v5 r7 r8 r9 h2 v6 r10 r11 v7 v8 r12 r13 v9 v10 r14 v11 v12 r15 v13 w14 r16 v15 v16 r17 r18 r19 r20 r21 r22 v17 r23 r24 r25 v18 h1 g0 f19 h2 g1 fn25) H := hP
            have hD : va_D A (wd_b9c2d44b h0 v0 h1 v1 t36 (-1) v3 r0 r1 r2 r3 r4 r5 r6 v4 v5 r7 r8 r9 h2 v6 r10 r11 v7 v8 r12 r13 v9 v10 r14 v11 v12 r15 v13 w14 r16 v15 v16 r17 r18 r19 r20 r21 r22 v17 r23 r24 r25 v18 h1 g0 f19 h2 g1 fn25) := hD
            have hPc := hP.sub (ws' := (wd_f4cd022e h0 v0 h1 v1 t36 (-1) v3 r0 r1 r2 r3 r4 r5 r6 v4 v5 r7 r8 r9 h2 v6 r10 r11 v7 v8 r12 r13 v9 v10 r14 v11 v12 r15 v13 w14 r16 v15 v16 r17 r18 r19 r20 r21 r22 v17 r23 r24 r25 v18 h1 g0 f19)) [0, 1] rfl
            have hDc := hD.sub (ws' := (wd_f4cd022e h0 v0 h1 v1 t36 (-1) v3 r0 r1 r2 r3 r4 r5 r6 v4 v5 r7 r8 r9 h2 v6 r10 r11 v7 v8 r12 r13 v9 v10 r14 v11 v12 r15 v13 w14 r16 v15 v16 r17 r18 r19 r20 r21 r22 v17 r23 r24 r25 v18 h1 g0 f19)) [0, 1] (by decide) rfl
            have hKc := hK.sub (tys' := [(g0, .int)]) [0] rfl
            have hFc := va_free (wc := (wd_f4cd022e h0 v0 h1 v1 t36 (-1) v3 r0 r1 r2 r3 r4 r5 r6 v4 v5 r7 r8 r9 h2 v6 r10 r11 v7 v8 r12 r13 v9 v10 r14 v11 v12 r15 v13 w14 r16 v15 v16 r17 r18 r19 r20 r21 r22 v17 r23 r24 r25 v18 h1 g0 f19)) hD hS hA [0, 1] rfl
            refine va_calli (va_runV (As := [.int ra38, .int ra39]) (rest := [.int t37, .ref h2]) ⟨hx, hb, hml, hown, hts⟩ (k_X12_number l dC dI h0 h1 v0 v1 t36 v3 r0 r1 r2 r3 r4 r5 r6 v4 v5 r7 r8 r9 h2 v6 r10 r11 v7 v8 r12 r13 v9 v10 r14 v11 v12 r15 v13 w14 r16 v15 v16 r17 r18 r19 r20 r21 r22 v17 r23 r24 r25 v18 g0 f19 ra38 ra39 ⟨by first | omega | decide, by first | omega | decide⟩ ⟨by first | omega | decide, by first | omega | decide⟩ ⟨by first | omega | decide, by first | omega | decide⟩ ⟨by first | omega | decide, by first | omega | decide⟩ ⟨by first | omega | decide, by first | omega | decide⟩ ⟨by first | omega | decide, by first | omega | decide⟩ ⟨by first | omega | decide, by first | omega | decide⟩ ⟨by first | omega | decide, by first | omega | decide⟩ ⟨by first | omega | decide, by first | omega | decide⟩ ⟨by first | omega | decide, by first | omega | decide⟩ ⟨by first | omega | decide, by first | omega | decide⟩ ia_f19 H.size) (cwV 2 hts g_X12_items_2_11 rfl rfl rfl (by decide +kernel) ⟨Nat.le_of_ble_eq_true rfl, Nat.le_of_ble_eq_true rfl⟩) ⟨fun a U g mk q => by obtain ⟨q0, q1, qP, qK, qD⟩ := q; exact ⟨q0, q1, qP, va_K.moved (u := U) (U := U.calling g mk a) (Vm.Alike.refl U.vm) qK, qD⟩, va_recv hKc hPc (ci := 12) (q0 := 0) rfl rfl, fun U hU hW => ⟨rfl, by rw [hU], by rw [hU]; exact hPc, va_K.moved hW.alike hKc, hDc.weaken (fun _ _ _ _ => trivial)⟩⟩ rfl rfl hl.1 rfl (lv_room (Nat.le_of_ble_eq_true rfl)) dX12_items_102 ⟨Nat.le_of_ble_eq_true rfl, Nat.le_of_ble_eq_true rfl⟩) hS (fun q _ h => hFc q h) hFc (fun ra40 u t H1 locs ht hvm hwra40 hB hz1 hk1 hS => ?_)
            try rw [hwra40] at hB
            rcases hB with hB | hB
            · skip
              obtain ⟨x41, oa_x41, ob_x41, pt0_ra40, pt1_ra40, pt2_ra40, pt3_ra40, pt4_ra40, hP1, hK1, hD1⟩ := hB
              rw [ht] at hP1
              obtain ⟨hP, hD⟩ := va_join (wr := (wd_aad598ec h2 g1 fn25)) (w1 := (wd_f4cd022e h0 v0 h1 v1 x41 (-1) v3 r0 r1 r2 r3 r4 r5 r6 v4 v5 r7 r8 r9 h2 v6 r10 r11 v7 v8 r12 r13 v9 v10 r14 v11 v12 r15 v13 w14 r16 v15 v16 r17 r18 r19 r20 r21 r22 v17 r23 r24 r25 v18 h1 g0 f19)) hP hD [0, 1] [2] rfl rfl (by decide) (by decide) hk1 hFc hP1 hD1
              generalize H1 = H at hP hS ⊢
              have hP := hP.sub (ws' := (wd_b9c2d44b h0 v0 h1 v1 x41 (-1) v3 r0 r1 r2 r3 r4 r5 r6 v4 v5 r7 r8 r9 h2 v6 r10 r11 v7 v8 r12 r13 v9 v10 r14 v11 v12 r15 v13 w14 r16 v15 v16 r17 r18 r19 r20 r21 r22 v17 r23 r24 r25 v18 h1 g0 f19 h2 g1 fn25)) [1, 2, 0] rfl
              have hD := hD.sub (ws' := (wd_b9c2d44b h0 v0 h1 v1 x41 (-1) v3 r0 r1 r2 r3 r4 r5 r6 v4 v5 r7 r8 r9 h2 v6 r10 r11 v7 v8 r12 r13 v9 v10 r14 v11 v12 r15 v13 w14 r16 v15 v16 r17 r18 r19 r20 r21 r22 v17 r23 r24 r25 v18 h1 g0 f19 h2 g1 fn25)) [1, 2, 0] (by decide) rfl
              have hP : va_P (dC, dI) vwCl (wd_b9c2d44b h0 v0 h1 v1 x41 (-1) v3 r0 r1 r2 r3 r4 r5 r6 v4 v5 r7 r8 r9 h2 v6 r10 r11 v7 v8 r12 r13 v9 v10 r14 v11 v12 r15 v13 w14 r16 v15 v16 r17 r18 r19 r20 r21 r22 v17 r23 r24 r25 v18 h1 g0 f19 h2 g1 fn25) H := hP
              have hD : va_D A (wd_b9c2d44b h0 v0 h1 v1 x41 (-1) v3 r0 r1 r2 r3 r4 r5 r6 v4 v5 r7 r8 r9 h2 v6 r10 r11 v7 v8 r12 r13 v9 v10 r14 v11 v12 r15 v13 w14 r16 v15 v16 r17 r18 r19 r20 r21 r22 v17 r23 r24 r25 v18 h1 g0 f19 h2 g1 fn25) := hD
              refine va_iast hx hb hK hP hD hS 2 1 rfl rfl (vp_in_iff.mpr ⟨by omega, by omega⟩) dX12_items_105 (fun H locs hP hD hS => ?_)
              obtain ⟨fn42, efn42⟩ : ∃ g : Nat → Int32, g = upd fn25 (Int32.toNatClampNeg t37) ra40 := ⟨_, rfl⟩
              rw [← efn42] at hP hD
              have hP : va_P (dC, dI) vwCl (wd_b9c2d44b h0 v0 h1 v1 x41 (-1) v3 r0 r1 r2 r3 r4 r5 r6 v4 v5 r7 r8 r9 h2 v6 r10 r11 v7 v8 r12 r13 v9 v10 r14 v11 v12 r15 v13 w14 r16 v15 v16 r17 r18 r19 r20 r21 r22 v17 r23 r24 r25 v18 h1 g0 f19 h2 g1 fn42) H := hP
              have hD : va_D A (wd_b9c2d44b h0 v0 h1 v1 x41 (-1) v3 r0 r1 r2 r3 r4 r5 r6 v4 v5 r7 r8 r9 h2 v6 r10 r11 v7 v8 r12 r13 v9 v10 r14 v11 v12 r15 v13 w14 r16 v15 v16 r17 r18 r19 r20 r21 r22 v17 r23 r24 r25 v18 h1 g0 f19 h2 g1 fn42) := hD
              refine lv_aload_n hx hb dX12_items_106 rfl (lv_at hl 2 rfl) ?_
              refine va_get (D := (dC, dI)) (ci := 12) (v := .int (-1)) (C := RX12) (T := TX12) (N := 48) hx hb hts (fun _ h => List.mem_cons_of_mem _ (List.mem_append_right _ h)) hown hK hP 0 rfl rfl 4 (by decide) (hts (.fieldLink RX12 119 "LeftArgumentsModel" "wrong" "I") (List.mem_cons_of_mem _ (List.mem_append_left _ (List.mem_of_getElem? (i := 18) rfl)))) (fun _ h9 => h9) rfl dX12_items_107 ?_
              refine lv_iconst (v := (-1)) hx hb dX12_items_110 (by decide) ?_
              refine lv_icmp_ne (tgt := 125) hx hb dX12_items_111 (by decide) (fun c => absurd (by decide) c) (fun _ => ?_)
              refine lv_iload_n hx hb dX12_items_114 rfl (lv_at hl 3 rfl) ?_
              refine lv_aload_n hx hb dX12_items_115 rfl (lv_at hl 2 rfl) ?_
              have hPc := hP.sub (ws' := (wd_f4cd022e h0 v0 h1 v1 x41 (-1) v3 r0 r1 r2 r3 r4 r5 r6 v4 v5 r7 r8 r9 h2 v6 r10 r11 v7 v8 r12 r13 v9 v10 r14 v11 v12 r15 v13 w14 r16 v15 v16 r17 r18 r19 r20 r21 r22 v17 r23 r24 r25 v18 h1 g0 f19)) [0, 1] rfl
              have hDc := hD.sub (ws' := (wd_f4cd022e h0 v0 h1 v1 x41 (-1) v3 r0 r1 r2 r3 r4 r5 r6 v4 v5 r7 r8 r9 h2 v6 r10 r11 v7 v8 r12 r13 v9 v10 r14 v11 v12 r15 v13 w14 r16 v15 v16 r17 r18 r19 r20 r21 r22 v17 r23 r24 r25 v18 h1 g0 f19)) [0, 1] (by decide) rfl
              have hKc := hK.sub (tys' := [(g0, .int)]) [0] rfl
              have hFc := va_free (wc := (wd_f4cd022e h0 v0 h1 v1 x41 (-1) v3 r0 r1 r2 r3 r4 r5 r6 v4 v5 r7 r8 r9 h2 v6 r10 r11 v7 v8 r12 r13 v9 v10 r14 v11 v12 r15 v13 w14 r16 v15 v16 r17 r18 r19 r20 r21 r22 v17 r23 r24 r25 v18 h1 g0 f19)) hD hS hA [0, 1] rfl
              refine va_calli (va_runV (As := []) (rest := [.int 98]) ⟨hx, hb, hml, hown, hts⟩ (k_X12_look l dC dI h0 h1 v0 v1 x41 ((-1)) v3 r0 r1 r2 r3 r4 r5 r6 v4 v5 r7 r8 r9 h2 v6 r10 r11 v7 v8 r12 r13 v9 v10 r14 v11 v12 r15 v13 w14 r16 v15 v16 r17 r18 r19 r20 r21 r22 v17 r23 r24 r25 v18 g0 f19 ⟨by first | omega | decide, by first | omega | decide⟩ ⟨by first | omega | decide, by first | omega | decide⟩ ⟨by first | omega | decide, by first | omega | decide⟩ ⟨by first | omega | decide, by first | omega | decide⟩ ⟨by first | omega | decide, by first | omega | decide⟩ ⟨by first | omega | decide, by first | omega | decide⟩ ⟨by first | omega | decide, by first | omega | decide⟩ ⟨by first | omega | decide, by first | omega | decide⟩ ⟨by first | omega | decide, by first | omega | decide⟩ ⟨by first | omega | decide, by first | omega | decide⟩ ⟨by first | omega | decide, by first | omega | decide⟩ ia_f19 H.size) (cwV 0 hts g_X12_items_2_5 rfl rfl rfl (by decide +kernel) ⟨Nat.le_of_ble_eq_true rfl, Nat.le_of_ble_eq_true rfl⟩) ⟨fun a U g mk q => by obtain ⟨q0, q1, qP, qK, qD⟩ := q; exact ⟨q0, q1, qP, va_K.moved (u := U) (U := U.calling g mk a) (Vm.Alike.refl U.vm) qK, qD⟩, va_recv hKc hPc (ci := 12) (q0 := 0) rfl rfl, fun U hU hW => ⟨rfl, by rw [hU], by rw [hU]; exact hPc, va_K.moved hW.alike hKc, hDc.weaken (fun _ _ _ _ => trivial)⟩⟩ rfl rfl hl.1 rfl (lv_room (Nat.le_of_ble_eq_true rfl)) dX12_items_116 ⟨Nat.le_of_ble_eq_true rfl, Nat.le_of_ble_eq_true rfl⟩) hS (fun q _ h => hFc q h) hFc (fun ra43 u t H1 locs ht hvm hwra43 hB hz1 hk1 hS => ?_)
              try rw [hwra43] at hB
              have hkra43_0 : (((-1) : Int32)).toInt = -1 := by decide
              rcases hB with hB | hB
              · skip
                obtain ⟨x44, oa_x44, ob_x44, pt0_ra43, pt1_ra43, pt2_ra43, pt3_ra43, pt4_ra43, pt5_ra43, pt6_ra43, hP1, hK1, hD1⟩ := hB
                rw [ht] at hP1
                obtain ⟨hP, hD⟩ := va_join (wr := (wd_aad598ec h2 g1 fn42)) (w1 := (wd_f4cd022e h0 v0 h1 v1 x44 (-1) v3 r0 r1 r2 r3 r4 r5 r6 v4 v5 r7 r8 r9 h2 v6 r10 r11 v7 v8 r12 r13 v9 v10 r14 v11 v12 r15 v13 w14 r16 v15 v16 r17 r18 r19 r20 r21 r22 v17 r23 r24 r25 v18 h1 g0 f19)) hP hD [0, 1] [2] rfl rfl (by decide) (by decide) hk1 hFc hP1 hD1
                generalize H1 = H at hP hS ⊢
                have hP := hP.sub (ws' := (wd_b9c2d44b h0 v0 h1 v1 x44 (-1) v3 r0 r1 r2 r3 r4 r5 r6 v4 v5 r7 r8 r9 h2 v6 r10 r11 v7 v8 r12 r13 v9 v10 r14 v11 v12 r15 v13 w14 r16 v15 v16 r17 r18 r19 r20 r21 r22 v17 r23 r24 r25 v18 h1 g0 f19 h2 g1 fn42)) [1, 2, 0] rfl
                have hD := hD.sub (ws' := (wd_b9c2d44b h0 v0 h1 v1 x44 (-1) v3 r0 r1 r2 r3 r4 r5 r6 v4 v5 r7 r8 r9 h2 v6 r10 r11 v7 v8 r12 r13 v9 v10 r14 v11 v12 r15 v13 w14 r16 v15 v16 r17 r18 r19 r20 r21 r22 v17 r23 r24 r25 v18 h1 g0 f19 h2 g1 fn42)) [1, 2, 0] (by decide) rfl
                have hP : va_P (dC, dI) vwCl (wd_b9c2d44b h0 v0 h1 v1 x44 (-1) v3 r0 r1 r2 r3 r4 r5 r6 v4 v5 r7 r8 r9 h2 v6 r10 r11 v7 v8 r12 r13 v9 v10 r14 v11 v12 r15 v13 w14 r16 v15 v16 r17 r18 r19 r20 r21 r22 v17 r23 r24 r25 v18 h1 g0 f19 h2 g1 fn42) H := hP
                have hD : va_D A (wd_b9c2d44b h0 v0 h1 v1 x44 (-1) v3 r0 r1 r2 r3 r4 r5 r6 v4 v5 r7 r8 r9 h2 v6 r10 r11 v7 v8 r12 r13 v9 v10 r14 v11 v12 r15 v13 w14 r16 v15 v16 r17 r18 r19 r20 r21 r22 v17 r23 r24 r25 v18 h1 g0 f19 h2 g1 fn42) := hD
                obtain rfl : ra43 = ((-1) : Int32) := Int32.toInt_inj.mp (by rw [show (((-1) : Int32)).toInt = -1 by decide]; omega)
                have hPc := hP.sub (ws' := []) [] rfl
                have hDc := hD.sub (ws' := []) [] (by decide) rfl
                have hKc := hK.sub (tys' := []) [] rfl
                have hFc := va_free (wc := []) hD hS hA [] rfl
                refine va_calli (va_runS (As := [.int 98, .int (-1)]) (rest := []) ⟨hx, hb, hml, hown, hts⟩ (k_X12_itemOf l dC dI ((-1))  H.size) (va_cwS 2 hts g_X12_items_2_6 rfl rfl rfl (by decide +kernel) ⟨Nat.le_of_ble_eq_true rfl, Nat.le_of_ble_eq_true rfl⟩) ⟨fun a U g mk q => by obtain ⟨q0, q1, qP, qK, qD⟩ := q; exact ⟨q0, q1, qP, va_K.moved (u := U) (U := U.calling g mk a) (Vm.Alike.refl U.vm) qK, qD⟩, fun U hU hW => ⟨rfl, by rw [hU], by rw [hU]; exact hPc, va_K.moved hW.alike hKc, hDc.weaken (fun _ _ _ _ => trivial)⟩⟩ rfl rfl hl.1 rfl (lv_room (Nat.le_of_ble_eq_true rfl)) dX12_items_119 ⟨Nat.le_of_ble_eq_true rfl, Nat.le_of_ble_eq_true rfl⟩) hS (fun q _ h => hFc q h) hFc (fun ra45 u t H1 locs ht hvm hwra45 hB hz1 hk1 hS => ?_)
                try rw [hwra45] at hB
                have hkra45_0 : (((-1) : Int32)).toInt = -1 := by decide
                obtain ⟨pt0_ra45, pt1_ra45, pt2_ra45, pt3_ra45, hP1, hK1, hD1⟩ := hB
                rw [ht] at hP1
                obtain ⟨hP, hD⟩ := va_join (wr := (wd_b9c2d44b h0 v0 h1 v1 x44 (-1) v3 r0 r1 r2 r3 r4 r5 r6 v4 v5 r7 r8 r9 h2 v6 r10 r11 v7 v8 r12 r13 v9 v10 r14 v11 v12 r15 v13 w14 r16 v15 v16 r17 r18 r19 r20 r21 r22 v17 r23 r24 r25 v18 h1 g0 f19 h2 g1 fn42)) (w1 := []) hP hD [] [0, 1, 2] rfl rfl (by decide) (by decide) hk1 hFc hP1 hD1
                generalize H1 = H at hP hS ⊢
                have hP : va_P (dC, dI) vwCl (wd_b9c2d44b h0 v0 h1 v1 x44 (-1) v3 r0 r1 r2 r3 r4 r5 r6 v4 v5 r7 r8 r9 h2 v6 r10 r11 v7 v8 r12 r13 v9 v10 r14 v11 v12 r15 v13 w14 r16 v15 v16 r17 r18 r19 r20 r21 r22 v17 r23 r24 r25 v18 h1 g0 f19 h2 g1 fn42) H := hP
                have hD : va_D A (wd_b9c2d44b h0 v0 h1 v1 x44 (-1) v3 r0 r1 r2 r3 r4 r5 r6 v4 v5 r7 r8 r9 h2 v6 r10 r11 v7 v8 r12 r13 v9 v10 r14 v11 v12 r15 v13 w14 r16 v15 v16 r17 r18 r19 r20 r21 r22 v17 r23 r24 r25 v18 h1 g0 f19 h2 g1 fn42) := hD
                have hkra45 : ra45 = pg_it false (pg_ch f19 v1.toInt x44.toInt) := by rw [show pg_ch f19 v1.toInt x44.toInt = (-1) by omega]; exact pt3_ra45
                refine lv_goto (tgt := 126) hx hb dX12_items_122 (by decide) ?_
                refine lv_istore (lv' := [(6, .int ra45), (5, .int t35), (0, .ref h0), (1, .int 98), (2, .ref h2), (3, .int v21), (4, .int 5)]) hx hb dX12_items_126 hl (by decide) rfl (fun ls hl => ?_)
                refine lv_goto (tgt := 41) hx hb dX12_items_128 (by decide) ?_
                exact ih_hL30 ra45 t35 x44 fn42 H locs ls (by first | omega | decide) (by first | omega | decide) (by first | omega | decide) (by first | omega | decide) (by first | assumption | (apply pm_bb.step <;> first | assumption | omega) | (apply pm_bb.init <;> first | assumption | omega | decide)) (by omega) (by omega) (by first | assumption | (apply pg_I.ini <;> first | assumption | omega | (apply pg_ur.mk <;> first | assumption | decide) | (apply pg_us.mk <;> first | assumption | omega | decide)) | (apply pg_I.next <;> first | assumption | omega | (show _ = pm_los _; assumption) | (show _ = pm_his _; assumption) | (show _ = pm_lob _; assumption) | (show _ = pm_hib _; assumption))) (by assumption) (by assumption) (by first | omega | (simp only [Int.toNat] at *; omega)) hP hD hS (lv_sub hl [0, 1, 2, 3, 4, 5, 6] rfl)
              · skip
                obtain ⟨x46, oa_x46, ob_x46, pt0_ra43, pt1_ra43, pt2_ra43, pt3_ra43, pt4_ra43, pt5_ra43, pt6_ra43, pt7_ra43, hP1, hK1, hD1⟩ := hB
                rw [ht] at hP1
                obtain ⟨hP, hD⟩ := va_join (wr := (wd_aad598ec h2 g1 fn42)) (w1 := (wd_f4cd022e h0 v0 h1 v1 x46 (-1) v3 r0 r1 r2 r3 r4 r5 r6 v4 v5 r7 r8 r9 h2 v6 r10 r11 v7 v8 r12 r13 v9 v10 r14 v11 v12 r15 v13 w14 r16 v15 v16 r17 r18 r19 r20 r21 r22 v17 r23 r24 r25 v18 h1 g0 f19)) hP hD [0, 1] [2] rfl rfl (by decide) (by decide) hk1 hFc hP1 hD1
                generalize H1 = H at hP hS ⊢
                have hP := hP.sub (ws' := (wd_b9c2d44b h0 v0 h1 v1 x46 (-1) v3 r0 r1 r2 r3 r4 r5 r6 v4 v5 r7 r8 r9 h2 v6 r10 r11 v7 v8 r12 r13 v9 v10 r14 v11 v12 r15 v13 w14 r16 v15 v16 r17 r18 r19 r20 r21 r22 v17 r23 r24 r25 v18 h1 g0 f19 h2 g1 fn42)) [1, 2, 0] rfl
                have hD := hD.sub (ws' := (wd_b9c2d44b h0 v0 h1 v1 x46 (-1) v3 r0 r1 r2 r3 r4 r5 r6 v4 v5 r7 r8 r9 h2 v6 r10 r11 v7 v8 r12 r13 v9 v10 r14 v11 v12 r15 v13 w14 r16 v15 v16 r17 r18 r19 r20 r21 r22 v17 r23 r24 r25 v18 h1 g0 f19 h2 g1 fn42)) [1, 2, 0] (by decide) rfl
                have hP : va_P (dC, dI) vwCl (wd_b9c2d44b h0 v0 h1 v1 x46 (-1) v3 r0 r1 r2 r3 r4 r5 r6 v4 v5 r7 r8 r9 h2 v6 r10 r11 v7 v8 r12 r13 v9 v10 r14 v11 v12 r15 v13 w14 r16 v15 v16 r17 r18 r19 r20 r21 r22 v17 r23 r24 r25 v18 h1 g0 f19 h2 g1 fn42) H := hP
                have hD : va_D A (wd_b9c2d44b h0 v0 h1 v1 x46 (-1) v3 r0 r1 r2 r3 r4 r5 r6 v4 v5 r7 r8 r9 h2 v6 r10 r11 v7 v8 r12 r13 v9 v10 r14 v11 v12 r15 v13 w14 r16 v15 v16 r17 r18 r19 r20 r21 r22 v17 r23 r24 r25 v18 h1 g0 f19 h2 g1 fn42) := hD
                have hPc := hP.sub (ws' := []) [] rfl
                have hDc := hD.sub (ws' := []) [] (by decide) rfl
                have hKc := hK.sub (tys' := []) [] rfl
                have hFc := va_free (wc := []) hD hS hA [] rfl
                refine va_calli (va_runS (As := [.int 98, .int ra43]) (rest := []) ⟨hx, hb, hml, hown, hts⟩ (k_X12_itemOf l dC dI ra43  H.size) (va_cwS 2 hts g_X12_items_2_6 rfl rfl rfl (by decide +kernel) ⟨Nat.le_of_ble_eq_true rfl, Nat.le_of_ble_eq_true rfl⟩) ⟨fun a U g mk q => by obtain ⟨q0, q1, qP, qK, qD⟩ := q; exact ⟨q0, q1, qP, va_K.moved (u := U) (U := U.calling g mk a) (Vm.Alike.refl U.vm) qK, qD⟩, fun U hU hW => ⟨rfl, by rw [hU], by rw [hU]; exact hPc, va_K.moved hW.alike hKc, hDc.weaken (fun _ _ _ _ => trivial)⟩⟩ rfl rfl hl.1 rfl (lv_room (Nat.le_of_ble_eq_true rfl)) dX12_items_119 ⟨Nat.le_of_ble_eq_true rfl, Nat.le_of_ble_eq_true rfl⟩) hS (fun q _ h => hFc q h) hFc (fun ra47 u t H1 locs ht hvm hwra47 hB hz1 hk1 hS => ?_)
                try rw [hwra47] at hB
                obtain ⟨pt0_ra47, pt1_ra47, pt2_ra47, pt3_ra47, hP1, hK1, hD1⟩ := hB
                rw [ht] at hP1
                obtain ⟨hP, hD⟩ := va_join (wr := (wd_b9c2d44b h0 v0 h1 v1 x46 (-1) v3 r0 r1 r2 r3 r4 r5 r6 v4 v5 r7 r8 r9 h2 v6 r10 r11 v7 v8 r12 r13 v9 v10 r14 v11 v12 r15 v13 w14 r16 v15 v16 r17 r18 r19 r20 r21 r22 v17 r23 r24 r25 v18 h1 g0 f19 h2 g1 fn42)) (w1 := []) hP hD [] [0, 1, 2] rfl rfl (by decide) (by decide) hk1 hFc hP1 hD1
                generalize H1 = H at hP hS ⊢
                have hP : va_P (dC, dI) vwCl (wd_b9c2d44b h0 v0 h1 v1 x46 (-1) v3 r0 r1 r2 r3 r4 r5 r6 v4 v5 r7 r8 r9 h2 v6 r10 r11 v7 v8 r12 r13 v9 v10 r14 v11 v12 r15 v13 w14 r16 v15 v16 r17 r18 r19 r20 r21 r22 v17 r23 r24 r25 v18 h1 g0 f19 h2 g1 fn42) H := hP
                have hD : va_D A (wd_b9c2d44b h0 v0 h1 v1 x46 (-1) v3 r0 r1 r2 r3 r4 r5 r6 v4 v5 r7 r8 r9 h2 v6 r10 r11 v7 v8 r12 r13 v9 v10 r14 v11 v12 r15 v13 w14 r16 v15 v16 r17 r18 r19 r20 r21 r22 v17 r23 r24 r25 v18 h1 g0 f19 h2 g1 fn42) := hD
                have hkra47 : ra47 = pg_it false (pg_ch f19 v1.toInt x46.toInt) := by rw [show pg_ch f19 v1.toInt x46.toInt = ra43.toInt by omega]; exact pt3_ra47
                refine lv_goto (tgt := 126) hx hb dX12_items_122 (by decide) ?_
                refine lv_istore (lv' := [(6, .int ra47), (5, .int t35), (0, .ref h0), (1, .int 98), (2, .ref h2), (3, .int v21), (4, .int 5)]) hx hb dX12_items_126 hl (by decide) rfl (fun ls hl => ?_)
                refine lv_goto (tgt := 41) hx hb dX12_items_128 (by decide) ?_
                exact ih_hL30 ra47 t35 x46 fn42 H locs ls (by first | omega | decide) (by first | omega | decide) (by first | omega | decide) (by first | omega | decide) (by first | assumption | (apply pm_bb.step <;> first | assumption | omega) | (apply pm_bb.init <;> first | assumption | omega | decide)) (by omega) (by omega) (by first | assumption | (apply pg_I.ini <;> first | assumption | omega | (apply pg_ur.mk <;> first | assumption | decide) | (apply pg_us.mk <;> first | assumption | omega | decide)) | (apply pg_I.next <;> first | assumption | omega | (show _ = pm_los _; assumption) | (show _ = pm_his _; assumption) | (show _ = pm_lob _; assumption) | (show _ = pm_hib _; assumption))) (by assumption) (by assumption) (by first | omega | (simp only [Int.toNat] at *; omega)) hP hD hS (lv_sub hl [0, 1, 2, 3, 4, 5, 6] rfl)
            · skip
              obtain ⟨x48, x49, oa_x48, ob_x48, oa_x49, ob_x49, pt0_ra40, pt1_ra40, hP1, hK1, hD1⟩ := hB
              rw [ht] at hP1
              obtain ⟨hP, hD⟩ := va_join (wr := (wd_aad598ec h2 g1 fn25)) (w1 := (wd_f4cd022e h0 v0 h1 v1 x48 x49 v3 r0 r1 r2 r3 r4 r5 r6 v4 v5 r7 r8 r9 h2 v6 r10 r11 v7 v8 r12 r13 v9 v10 r14 v11 v12 r15 v13 w14 r16 v15 v16 r17 r18 r19 r20 r21 r22 v17 r23 r24 r25 v18 h1 g0 f19)) hP hD [0, 1] [2] rfl rfl (by decide) (by decide) hk1 hFc hP1 hD1
              generalize H1 = H at hP hS ⊢
              have hP := hP.sub (ws' := (wd_b9c2d44b h0 v0 h1 v1 x48 x49 v3 r0 r1 r2 r3 r4 r5 r6 v4 v5 r7 r8 r9 h2 v6 r10 r11 v7 v8 r12 r13 v9 v10 r14 v11 v12 r15 v13 w14 r16 v15 v16 r17 r18 r19 r20 r21 r22 v17 r23 r24 r25 v18 h1 g0 f19 h2 g1 fn25)) [1, 2, 0] rfl
              have hD := hD.sub (ws' := (wd_b9c2d44b h0 v0 h1 v1 x48 x49 v3 r0 r1 r2 r3 r4 r5 r6 v4 v5 r7 r8 r9 h2 v6 r10 r11 v7 v8 r12 r13 v9 v10 r14 v11 v12 r15 v13 w14 r16 v15 v16 r17 r18 r19 r20 r21 r22 v17 r23 r24 r25 v18 h1 g0 f19 h2 g1 fn25)) [1, 2, 0] (by decide) rfl
              have hP : va_P (dC, dI) vwCl (wd_b9c2d44b h0 v0 h1 v1 x48 x49 v3 r0 r1 r2 r3 r4 r5 r6 v4 v5 r7 r8 r9 h2 v6 r10 r11 v7 v8 r12 r13 v9 v10 r14 v11 v12 r15 v13 w14 r16 v15 v16 r17 r18 r19 r20 r21 r22 v17 r23 r24 r25 v18 h1 g0 f19 h2 g1 fn25) H := hP
              have hD : va_D A (wd_b9c2d44b h0 v0 h1 v1 x48 x49 v3 r0 r1 r2 r3 r4 r5 r6 v4 v5 r7 r8 r9 h2 v6 r10 r11 v7 v8 r12 r13 v9 v10 r14 v11 v12 r15 v13 w14 r16 v15 v16 r17 r18 r19 r20 r21 r22 v17 r23 r24 r25 v18 h1 g0 f19 h2 g1 fn25) := hD
              refine va_iast hx hb hK hP hD hS 2 1 rfl rfl (vp_in_iff.mpr ⟨by omega, by omega⟩) dX12_items_105 (fun H locs hP hD hS => ?_)
              obtain ⟨fn50, efn50⟩ : ∃ g : Nat → Int32, g = upd fn25 (Int32.toNatClampNeg t37) ra40 := ⟨_, rfl⟩
              rw [← efn50] at hP hD
              have hP : va_P (dC, dI) vwCl (wd_b9c2d44b h0 v0 h1 v1 x48 x49 v3 r0 r1 r2 r3 r4 r5 r6 v4 v5 r7 r8 r9 h2 v6 r10 r11 v7 v8 r12 r13 v9 v10 r14 v11 v12 r15 v13 w14 r16 v15 v16 r17 r18 r19 r20 r21 r22 v17 r23 r24 r25 v18 h1 g0 f19 h2 g1 fn50) H := hP
              have hD : va_D A (wd_b9c2d44b h0 v0 h1 v1 x48 x49 v3 r0 r1 r2 r3 r4 r5 r6 v4 v5 r7 r8 r9 h2 v6 r10 r11 v7 v8 r12 r13 v9 v10 r14 v11 v12 r15 v13 w14 r16 v15 v16 r17 r18 r19 r20 r21 r22 v17 r23 r24 r25 v18 h1 g0 f19 h2 g1 fn50) := hD
              refine lv_aload_n hx hb dX12_items_106 rfl (lv_at hl 2 rfl) ?_
              refine va_get (D := (dC, dI)) (ci := 12) (v := .int x49) (C := RX12) (T := TX12) (N := 48) hx hb hts (fun _ h => List.mem_cons_of_mem _ (List.mem_append_right _ h)) hown hK hP 0 rfl rfl 4 (by decide) (hts (.fieldLink RX12 119 "LeftArgumentsModel" "wrong" "I") (List.mem_cons_of_mem _ (List.mem_append_left _ (List.mem_of_getElem? (i := 18) rfl)))) (fun _ h9 => h9) rfl dX12_items_107 ?_
              refine lv_iconst (v := (-1)) hx hb dX12_items_110 (by decide) ?_
              refine lv_icmp_ne (tgt := 125) hx hb dX12_items_111 (by decide) (fun _ => ?_) (fun c51 => by exfalso; have fc51 : x49.toInt = (-1) := congrArg Int32.toInt c51; omega)
              refine lv_iconst (v := (-1)) hx hb dX12_items_125 (by decide) ?_
              refine lv_istore (lv' := [(6, .int (-1)), (5, .int t35), (0, .ref h0), (1, .int 98), (2, .ref h2), (3, .int v21), (4, .int 5)]) hx hb dX12_items_126 hl (by decide) rfl (fun ls hl => ?_)
              refine lv_goto (tgt := 41) hx hb dX12_items_128 (by decide) ?_
              refine lv_aload_n hx hb dX12_items_41 rfl (lv_at hl 2 rfl) ?_
              refine va_get (D := (dC, dI)) (ci := 12) (v := .int x49) (C := RX12) (T := TX12) (N := 48) hx hb hts (fun _ h => List.mem_cons_of_mem _ (List.mem_append_right _ h)) hown hK hP 0 rfl rfl 4 (by decide) (hts (.fieldLink RX12 119 "LeftArgumentsModel" "wrong" "I") (List.mem_cons_of_mem _ (List.mem_append_left _ (List.mem_of_getElem? (i := 18) rfl)))) (fun _ h9 => h9) rfl dX12_items_42 ?_
              refine lv_iconst (v := (-1)) hx hb dX12_items_45 (by decide) ?_
              refine lv_icmp_ne (tgt := 131) hx hb dX12_items_46 (by decide) (fun _ => ?_) (fun c52 => by exfalso; have fc52 : x49.toInt = (-1) := congrArg Int32.toInt c52; omega)
              subst hQ
              have hP9 := hP.sub (ws' := (wd_b9c2d44b h0 v0 h1 v1 x48 x49 v3 r0 r1 r2 r3 r4 r5 r6 v4 v5 r7 r8 r9 h2 v6 r10 r11 v7 v8 r12 r13 v9 v10 r14 v11 v12 r15 v13 w14 r16 v15 v16 r17 r18 r19 r20 r21 r22 v17 r23 r24 r25 v18 h1 g0 f19 h2 g1 fn50)) [0, 1, 2] rfl
              have hD9 := hD.sub (ws' := (wd_b9c2d44b h0 v0 h1 v1 x48 x49 v3 r0 r1 r2 r3 r4 r5 r6 v4 v5 r7 r8 r9 h2 v6 r10 r11 v7 v8 r12 r13 v9 v10 r14 v11 v12 r15 v13 w14 r16 v15 v16 r17 r18 r19 r20 r21 r22 v17 r23 r24 r25 v18 h1 g0 f19 h2 g1 fn50)) [0, 1, 2] (by decide) rfl
              have hK9 := hK.sub (tys' := []) [] rfl
              exact W.vret hx hb hr (fun t ht hW => ⟨⟨(), rfl, trivial, Or.inr (⟨x48, x49, fn50, by first | omega | decide, by first | omega | decide, by first | omega | decide, by first | omega | decide, by omega, by first | assumption | (apply pg_I.fail <;> first | assumption | omega | (show _ = pm_los _; assumption) | (show _ = pm_his _; assumption) | (show _ = pm_lob _; assumption) | (show _ = pm_hib _; assumption)), by rw [ht]; exact hP9, va_K.moved hW.alike hK9, hD9⟩)⟩, hS.F ht⟩) hS.2.2 dX12_items_131
    exact hL30 _ ra21 0 x20 fn15 H locs ls (by first | omega | decide) (by first | omega | decide) (by first | omega | decide) (by first | omega | decide) (by first | assumption | (apply pm_bb.step <;> first | assumption | omega) | (apply pm_bb.init <;> first | assumption | omega | decide)) (by omega) (by omega) (by first | assumption | (apply pg_I.ini <;> first | assumption | omega | (apply pg_ur.mk <;> first | assumption | decide) | (apply pg_us.mk <;> first | assumption | omega | decide)) | (apply pg_I.next <;> first | assumption | omega | (show _ = pm_los _; assumption) | (show _ = pm_his _; assumption) | (show _ = pm_lob _; assumption) | (show _ = pm_hib _; assumption))) (by assumption) (by assumption) (Nat.lt_succ_self _) hP hD hS (lv_sub hl [0, 1, 2, 3, 4, 5, 6] rfl)
def q_X12_readOffice : List Cond := .code yX12_readOffice cX12_readOffice 4 (some .int) :: (([.fieldLink RX12 112 "LeftArgumentsModel" "at" "I", .fieldLink RX12 119 "LeftArgumentsModel" "wrong" "I", .fieldLink RX12 241 "LeftArgumentsModel" "readBags" "I", .fieldLink RX12 40 "LeftArgumentsModel" "readRule" "[I", .code yX12_usual cX12_usual 2 (some .int), .initialized RX12, .static yX12_usual, .methodLink RX12 221 yX12_usual, .code yX12_look cX12_look 1 (some .int), .code yX12_here cX12_here 1 (some .int), .fieldLink RX12 109 "LeftArgumentsModel" "size" "I", .fieldLink RX12 9 "LeftArgumentsModel" "tape" "[I", .instanceMethod yX12_here, .selects RX12 yX12_here yX12_here, .methodLink RX12 115 yX12_here, .instanceMethod yX12_look, .selects RX12 yX12_look yX12_look, .methodLink RX12 131 yX12_look, .code yX12_bad cX12_bad 1 none, .instanceMethod yX12_bad, .selects RX12 yX12_bad yX12_bad, .methodLink RX12 128 yX12_bad, .fieldLink RX12 43 "LeftArgumentsModel" "readBag" "[I", .code yX12_items cX12_items 7 none, .code yX12_itemOf cX12_itemOf 2 (some .int), .static yX12_itemOf, .methodLink RX12 225 yX12_itemOf, .code yX12_has cX12_has 2 (some .boolean), .static yX12_has, .methodLink RX12 228 yX12_has, .code yX12_lowest cX12_lowest 2 (some .int), .static yX12_lowest, .methodLink RX12 232 yX12_lowest, .code yX12_highest cX12_highest 2 (some .int), .static yX12_highest, .methodLink RX12 235 yX12_highest, .code yX12_number cX12_number 4 (some .int), .code yX12_isDigit cX12_isDigit 1 (some .boolean), .static yX12_isDigit, .methodLink RX12 134 yX12_isDigit, .code yX12_in cX12_in 3 (some .boolean), .static yX12_in, .methodLink RX12 217 yX12_in, .instanceMethod yX12_number, .selects RX12 yX12_number yX12_number, .methodLink RX12 238 yX12_number, .instanceMethod yX12_items, .selects RX12 yX12_items yX12_items, .methodLink RX12 244 yX12_items, .code yX12_isWhole cX12_isWhole 3 (some .boolean), .instanceMethod yX12_isWhole, .selects RX12 yX12_isWhole yX12_isWhole, .methodLink RX12 248 yX12_isWhole] : List Cond) ++ wsX120)
set_option maxRecDepth 20000 in
theorem g_X12_readOffice_0 : GoodIn q_X12_readOffice (va_wsS RX12 221 yX12_usual q_X12_usual) := goodIn_app (goodIn_r _ [8, 7, 6] rfl (by decide +kernel)) (goodIn_r (.code yX12_usual cX12_usual 2 (some .int) :: []) [5] rfl (by decide +kernel))
set_option maxRecDepth 20000 in
theorem g_X12_readOffice_1 : GoodIn q_X12_readOffice (va_wsS RX12 221 yX12_usual q_X12_usual_1) := goodIn_app (goodIn_r _ [8, 7, 6] rfl (by decide +kernel)) (goodIn_r (.code yX12_usual cX12_usual 2 (some .int) :: []) [5] rfl (by decide +kernel))
set_option maxRecDepth 20000 in
theorem g_X12_readOffice_2 : GoodIn q_X12_readOffice (va_wsS RX12 221 yX12_usual q_X12_usual_2) := goodIn_app (goodIn_r _ [8, 7, 6] rfl (by decide +kernel)) (goodIn_r (.code yX12_usual cX12_usual 2 (some .int) :: []) [5] rfl (by decide +kernel))
set_option maxRecDepth 20000 in
theorem g_X12_readOffice_3 : GoodIn q_X12_readOffice (va_wsS RX12 221 yX12_usual q_X12_usual_3) := goodIn_app (goodIn_r _ [8, 7, 6] rfl (by decide +kernel)) (goodIn_r (.code yX12_usual cX12_usual 2 (some .int) :: []) [5] rfl (by decide +kernel))
set_option maxRecDepth 20000 in
theorem g_X12_readOffice_4 : GoodIn q_X12_readOffice (wsV RX12 131 RX12 yX12_look q_X12_look) := goodIn_app (goodIn_r _ [18, 16, 17, 6] rfl (by decide +kernel)) (goodIn_ca (goodIn_r (.code yX12_look cX12_look 1 (some .int) :: [.code yX12_here cX12_here 1 (some .int), .fieldLink RX12 112 "LeftArgumentsModel" "at" "I", .fieldLink RX12 109 "LeftArgumentsModel" "size" "I", .fieldLink RX12 9 "LeftArgumentsModel" "tape" "[I", .initialized RX12, .instanceMethod yX12_here, .selects RX12 yX12_here yX12_here, .methodLink RX12 115 yX12_here]) [9, 10, 1, 11, 12, 6, 13, 14, 15] rfl (by decide +kernel)) (goodIn_sub (fun _ h => List.mem_cons_of_mem _ (List.mem_append_right _ h)) gwX12))
set_option maxRecDepth 20000 in
theorem g_X12_readOffice_5 : GoodIn q_X12_readOffice (wsV RX12 128 RX12 yX12_bad q_X12_bad) := goodIn_app (goodIn_r _ [22, 20, 21, 6] rfl (by decide +kernel)) (goodIn_ca (goodIn_r (.code yX12_bad cX12_bad 1 none :: [.fieldLink RX12 119 "LeftArgumentsModel" "wrong" "I", .fieldLink RX12 112 "LeftArgumentsModel" "at" "I"]) [19, 2, 1] rfl (by decide +kernel)) (goodIn_sub (fun _ h => List.mem_cons_of_mem _ (List.mem_append_right _ h)) gwX12))
set_option maxRecDepth 20000 in
theorem g_X12_readOffice_8 : GoodIn q_X12_readOffice (wsV RX12 244 RX12 yX12_items q_X12_items_2) := goodIn_app (goodIn_r _ [49, 47, 48, 6] rfl (by decide +kernel)) (goodIn_ca (goodIn_r (.code yX12_items cX12_items 7 none :: [.code yX12_usual cX12_usual 2 (some .int), .initialized RX12, .static yX12_usual, .methodLink RX12 221 yX12_usual, .code yX12_look cX12_look 1 (some .int), .code yX12_here cX12_here 1 (some .int), .fieldLink RX12 112 "LeftArgumentsModel" "at" "I", .fieldLink RX12 109 "LeftArgumentsModel" "size" "I", .fieldLink RX12 9 "LeftArgumentsModel" "tape" "[I", .instanceMethod yX12_here, .selects RX12 yX12_here yX12_here, .methodLink RX12 115 yX12_here, .instanceMethod yX12_look, .selects RX12 yX12_look yX12_look, .methodLink RX12 131 yX12_look, .code yX12_itemOf cX12_itemOf 2 (some .int), .static yX12_itemOf, .methodLink RX12 225 yX12_itemOf, .fieldLink RX12 119 "LeftArgumentsModel" "wrong" "I", .code yX12_has cX12_has 2 (some .boolean), .static yX12_has, .methodLink RX12 228 yX12_has, .code yX12_lowest cX12_lowest 2 (some .int), .static yX12_lowest, .methodLink RX12 232 yX12_lowest, .code yX12_highest cX12_highest 2 (some .int), .static yX12_highest, .methodLink RX12 235 yX12_highest, .code yX12_number cX12_number 4 (some .int), .code yX12_isDigit cX12_isDigit 1 (some .boolean), .static yX12_isDigit, .methodLink RX12 134 yX12_isDigit, .code yX12_bad cX12_bad 1 none, .instanceMethod yX12_bad, .selects RX12 yX12_bad yX12_bad, .methodLink RX12 128 yX12_bad, .code yX12_in cX12_in 3 (some .boolean), .static yX12_in, .methodLink RX12 217 yX12_in, .instanceMethod yX12_number, .selects RX12 yX12_number yX12_number, .methodLink RX12 238 yX12_number]) [24, 5, 6, 7, 8, 9, 10, 1, 11, 12, 13, 14, 15, 16, 17, 18, 25, 26, 27, 2, 28, 29, 30, 31, 32, 33, 34, 35, 36, 37, 38, 39, 40, 19, 20, 21, 22, 41, 42, 43, 44, 45, 46] rfl (by decide +kernel)) (goodIn_sub (fun _ h => List.mem_cons_of_mem _ (List.mem_append_right _ h)) gwX12))
set_option maxRecDepth 20000 in
theorem g_X12_readOffice_11 : GoodIn q_X12_readOffice (wsV RX12 248 RX12 yX12_isWhole q_X12_isWhole) := goodIn_app (goodIn_r _ [53, 51, 52, 6] rfl (by decide +kernel)) (goodIn_ca (goodIn_r (.code yX12_isWhole cX12_isWhole 3 (some .boolean) :: [.fieldLink RX12 241 "LeftArgumentsModel" "readBags" "I", .fieldLink RX12 43 "LeftArgumentsModel" "readBag" "[I", .fieldLink RX12 40 "LeftArgumentsModel" "readRule" "[I"]) [50, 3, 23, 4] rfl (by decide +kernel)) (goodIn_sub (fun _ h => List.mem_cons_of_mem _ (List.mem_append_right _ h)) gwX12))
set_option maxRecDepth 20000 in
theorem g_X12_readOffice_19 : GoodIn q_X12_readOffice (wsV RX12 244 RX12 yX12_items q_X12_items_1) := goodIn_app (goodIn_r _ [49, 47, 48, 6] rfl (by decide +kernel)) (goodIn_ca (goodIn_r (.code yX12_items cX12_items 7 none :: [.code yX12_usual cX12_usual 2 (some .int), .initialized RX12, .static yX12_usual, .methodLink RX12 221 yX12_usual, .code yX12_look cX12_look 1 (some .int), .code yX12_here cX12_here 1 (some .int), .fieldLink RX12 112 "LeftArgumentsModel" "at" "I", .fieldLink RX12 109 "LeftArgumentsModel" "size" "I", .fieldLink RX12 9 "LeftArgumentsModel" "tape" "[I", .instanceMethod yX12_here, .selects RX12 yX12_here yX12_here, .methodLink RX12 115 yX12_here, .instanceMethod yX12_look, .selects RX12 yX12_look yX12_look, .methodLink RX12 131 yX12_look, .code yX12_itemOf cX12_itemOf 2 (some .int), .static yX12_itemOf, .methodLink RX12 225 yX12_itemOf, .fieldLink RX12 119 "LeftArgumentsModel" "wrong" "I", .code yX12_has cX12_has 2 (some .boolean), .static yX12_has, .methodLink RX12 228 yX12_has, .code yX12_lowest cX12_lowest 2 (some .int), .static yX12_lowest, .methodLink RX12 232 yX12_lowest, .code yX12_highest cX12_highest 2 (some .int), .static yX12_highest, .methodLink RX12 235 yX12_highest, .code yX12_number cX12_number 4 (some .int), .code yX12_isDigit cX12_isDigit 1 (some .boolean), .static yX12_isDigit, .methodLink RX12 134 yX12_isDigit, .code yX12_bad cX12_bad 1 none, .instanceMethod yX12_bad, .selects RX12 yX12_bad yX12_bad, .methodLink RX12 128 yX12_bad, .code yX12_in cX12_in 3 (some .boolean), .static yX12_in, .methodLink RX12 217 yX12_in, .instanceMethod yX12_number, .selects RX12 yX12_number yX12_number, .methodLink RX12 238 yX12_number]) [24, 5, 6, 7, 8, 9, 10, 1, 11, 12, 13, 14, 15, 16, 17, 18, 25, 26, 27, 2, 28, 29, 30, 31, 32, 33, 34, 35, 36, 37, 38, 39, 40, 19, 20, 21, 22, 41, 42, 43, 44, 45, 46] rfl (by decide +kernel)) (goodIn_sub (fun _ h => List.mem_cons_of_mem _ (List.mem_append_right _ h)) gwX12))
set_option maxHeartbeats 4000000 in
set_option maxRecDepth 100000 in
theorem k_X12_readOffice (l : Launch) (dC : Nat → ClassId) (dI : Nat → Nat → Nat) (h0 : Nat) (h1 : Nat) (h2 : Nat) (h3 : Nat) (v0 : Int32) (v1 : Int32) (v2 : Int32) (v3 : Int32) (v4 : Int32) (r0 : Nat) (r1 : Nat) (r2 : Nat) (r3 : Nat) (r4 : Nat) (r5 : Nat) (r6 : Nat) (v5 : Int32) (v6 : Int32) (r7 : Nat) (r8 : Nat) (v7 : Int32) (r9 : Nat) (r10 : Nat) (v8 : Int32) (v9 : Int32) (r11 : Nat) (r12 : Nat) (v10 : Int32) (v11 : Int32) (r13 : Nat) (v12 : Int32) (v13 : Int32) (r14 : Nat) (v14 : Int32) (w15 : Int64) (r15 : Nat) (v16 : Int32) (v17 : Int32) (r16 : Nat) (r17 : Nat) (r18 : Nat) (r19 : Nat) (r20 : Nat) (r21 : Nat) (v18 : Int32) (r22 : Nat) (r23 : Nat) (r24 : Nat) (v19 : Int32) (g0 : ClassId) (f20 : Nat → Int32) (g1 : ClassId) (f21 : Nat → Int32) (g2 : ClassId) (f22 : Nat → Int32) (i_v1 : 0 ≤ v1.toInt ∧ v1.toInt ≤ 240) (i_v5 : 0 ≤ v5.toInt ∧ v5.toInt ≤ 4) (i_v6 : 0 ≤ v6.toInt ∧ v6.toInt ≤ 4) (i_v7 : 0 ≤ v7.toInt ∧ v7.toInt ≤ 8) (i_v8 : 0 ≤ v8.toInt ∧ v8.toInt ≤ 8) (i_v9 : 0 ≤ v9.toInt ∧ v9.toInt ≤ 1) (i_v10 : -1 ≤ v10.toInt ∧ v10.toInt ≤ 3) (i_v14 : 0 ≤ v14.toInt ∧ v14.toInt ≤ 40) (i_v18 : 0 ≤ v18.toInt ∧ v18.toInt ≤ 10) (i_v19 : 0 ≤ v19.toInt ∧ v19.toInt ≤ 1) (ia_f20 : (∀ j, 0 ≤ (f20 j).toInt ∧ (f20 j).toInt ≤ 255)) (sz : Nat) : Met l yX12_readOffice q_X12_readOffice ({ frames := 4, cells := 0, slots := 0, locals := 89 }) (va_Pc [.ref h0] (fun U => U.heap.size = sz ∧ va_P (dC, dI) vwCl (wd_77d3d1bb h0 v0 h1 v1 v2 v3 v4 r0 r1 r2 r3 r4 r5 r6 v5 v6 r7 r8 h2 h3 v7 r9 r10 v8 v9 r11 r12 v10 v11 r13 v12 v13 r14 v14 w15 r15 v16 v17 r16 r17 r18 r19 r20 r21 v18 r22 r23 r24 v19 h1 g0 f20 h2 g1 f21 h3 g2 f22) U.heap ∧ va_K (dC, dI) vwCl [(g0, .int), (g1, .int), (g2, .int)] U ∧ va_D (fun _ => True) (wd_77d3d1bb h0 v0 h1 v1 v2 v3 v4 r0 r1 r2 r3 r4 r5 r6 v5 v6 r7 r8 h2 h3 v7 r9 r10 v8 v9 r11 r12 v10 v11 r13 v12 v13 r14 v14 w15 r15 v16 v17 r16 r17 r18 r19 r20 r21 v18 r22 r23 r24 v19 h1 g0 f20 h2 g1 f21 h3 g2 f22))) (va_Qi (fun (r : Int32) (r9 : Int32) => r9 = r) (fun (r : Int32) (t : State) => (∃ (o_h0_3 : Int32) (o_h0_19 : Int32) (o_h2 : Nat → Int32) (o_h3 : Nat → Int32), 0 ≤ o_h0_3.toInt ∧ o_h0_3.toInt ≤ 240 ∧ 0 ≤ o_h0_19.toInt ∧ o_h0_19.toInt ≤ 8 ∧ (-1 ≤ r.toInt) ∧ (r.toInt ≤ -1) ∧ (pm_RR o_h2) ∧ (pm_BG o_h0_19 o_h3) ∧ (pg_office f20 v1.toInt = (-1, o_h0_19.toInt)) ∧ va_P (dC, dI) vwCl (wd_77d3d1bb h0 v0 h1 v1 o_h0_3 (-1) v4 r0 r1 r2 r3 r4 r5 r6 v5 v6 r7 r8 h2 h3 o_h0_19 r9 r10 v8 v9 r11 r12 v10 v11 r13 v12 v13 r14 v14 w15 r15 v16 v17 r16 r17 r18 r19 r20 r21 v18 r22 r23 r24 v19 h1 g0 f20 h2 g1 o_h2 h3 g2 o_h3) t.heap ∧ va_K (dC, dI) vwCl [] t ∧ va_D (va_A (wd_77d3d1bb h0 v0 h1 v1 v2 v3 v4 r0 r1 r2 r3 r4 r5 r6 v5 v6 r7 r8 h2 h3 v7 r9 r10 v8 v9 r11 r12 v10 v11 r13 v12 v13 r14 v14 w15 r15 v16 v17 r16 r17 r18 r19 r20 r21 v18 r22 r23 r24 v19 h1 g0 f20 h2 g1 f21 h3 g2 f22) sz) (wd_77d3d1bb h0 v0 h1 v1 o_h0_3 (-1) v4 r0 r1 r2 r3 r4 r5 r6 v5 v6 r7 r8 h2 h3 o_h0_19 r9 r10 v8 v9 r11 r12 v10 v11 r13 v12 v13 r14 v14 w15 r15 v16 v17 r16 r17 r18 r19 r20 r21 v18 r22 r23 r24 v19 h1 g0 f20 h2 g1 o_h2 h3 g2 o_h3)) ∨ (∃ (o_h0_3 : Int32) (o_h0_4 : Int32) (o_h0_19 : Int32) (o_h2 : Nat → Int32) (o_h3 : Nat → Int32), 0 ≤ o_h0_3.toInt ∧ o_h0_3.toInt ≤ 240 ∧ 0 ≤ o_h0_4.toInt ∧ o_h0_4.toInt ≤ 240 ∧ 0 ≤ o_h0_19.toInt ∧ o_h0_19.toInt ≤ 8 ∧ (0 ≤ r.toInt) ∧ (r.toInt ≤ 240) ∧ ((pg_office f20 v1.toInt).1 = r.toInt) ∧ (¬ r.toInt = -1) ∧ va_P (dC, dI) vwCl (wd_77d3d1bb h0 v0 h1 v1 o_h0_3 o_h0_4 v4 r0 r1 r2 r3 r4 r5 r6 v5 v6 r7 r8 h2 h3 o_h0_19 r9 r10 v8 v9 r11 r12 v10 v11 r13 v12 v13 r14 v14 w15 r15 v16 v17 r16 r17 r18 r19 r20 r21 v18 r22 r23 r24 v19 h1 g0 f20 h2 g1 o_h2 h3 g2 o_h3) t.heap ∧ va_K (dC, dI) vwCl [] t ∧ va_D (va_A (wd_77d3d1bb h0 v0 h1 v1 v2 v3 v4 r0 r1 r2 r3 r4 r5 r6 v5 v6 r7 r8 h2 h3 v7 r9 r10 v8 v9 r11 r12 v10 v11 r13 v12 v13 r14 v14 w15 r15 v16 v17 r16 r17 r18 r19 r20 r21 v18 r22 r23 r24 v19 h1 g0 f20 h2 g1 f21 h3 g2 f22) sz) (wd_77d3d1bb h0 v0 h1 v1 o_h0_3 o_h0_4 v4 r0 r1 r2 r3 r4 r5 r6 v5 v6 r7 r8 h2 h3 o_h0_19 r9 r10 v8 v9 r11 r12 v10 v11 r13 v12 v13 r14 v14 w15 r15 v16 v17 r16 r17 r18 r19 r20 r21 v18 r22 r23 r24 v19 h1 g0 f20 h2 g1 o_h2 h3 g2 o_h3))) (va_A (wd_77d3d1bb h0 v0 h1 v1 v2 v3 v4 r0 r1 r2 r3 r4 r5 r6 v5 v6 r7 r8 h2 h3 v7 r9 r10 v8 v9 r11 r12 v10 v11 r13 v12 v13 r14 v14 w15 r15 v16 v17 r16 r17 r18 r19 r20 r21 v18 r22 r23 r24 v19 h1 g0 f20 h2 g1 f21 h3 g2 f22) sz)) 0 0 (va_A (wd_77d3d1bb h0 v0 h1 v1 v2 v3 v4 r0 r1 r2 r3 r4 r5 r6 v5 v6 r7 r8 h2 h3 v7 r9 r10 v8 v9 r11 r12 v10 v11 r13 v12 v13 r14 v14 w15 r15 v16 v17 r16 r17 r18 r19 r20 r21 v18 r22 r23 r24 v19 h1 g0 f20 h2 g1 f21 h3 g2 f22) sz) := by
  refine Met.ofW (cc := cX12_readOffice) (maxL := 4) (ret := (some .int)) (by decide) rfl ?_
  intro p e s m args below meth c s₁ B hml hv
  obtain ⟨i_v1a, i_v1b⟩ := i_v1
  obtain ⟨i_v5a, i_v5b⟩ := i_v5
  obtain ⟨i_v6a, i_v6b⟩ := i_v6
  obtain ⟨i_v7a, i_v7b⟩ := i_v7
  obtain ⟨i_v8a, i_v8b⟩ := i_v8
  obtain ⟨i_v9a, i_v9b⟩ := i_v9
  obtain ⟨i_v10a, i_v10b⟩ := i_v10
  obtain ⟨i_v14a, i_v14b⟩ := i_v14
  obtain ⟨i_v18a, i_v18b⟩ := i_v18
  obtain ⟨i_v19a, i_v19b⟩ := i_v19
  obtain ⟨rfl, hsz, hP, hK, hD0⟩ := hv
  have hx := B.exec
  have hb := B.bytes
  have hr := B.returns
  have hts := atoms_spec (ws := q_X12_readOffice) B.pre
  have hown : s.vm.findClass RX12 = some m.cls := findClass_of_methodNamed B.named
  have hlocks := B.notSynchronized
  subst hsz
  have hD := hD0.self (sz := s.heap.size)
  generalize hAe : va_A (wd_77d3d1bb h0 v0 h1 v1 v2 v3 v4 r0 r1 r2 r3 r4 r5 r6 v5 v6 r7 r8 h2 h3 v7 r9 r10 v8 v9 r11 r12 v10 v11 r13 v12 v13 r14 v14 w15 r15 v16 v17 r16 r17 r18 r19 r20 r21 v18 r22 r23 r24 v19 h1 g0 f20 h2 g1 f21 h3 g2 f22) s.heap.size = A at hD ⊢
  have hA : ∀ q : Nat, s.heap.size ≤ q → A q := fun q h => by rw [← hAe]; exact Or.inr h
  have hS : va_S A s.heap s.heap [] := va_S.rf
  generalize hQ : (MQ below _ _ s 0 0 A) = Q
  have hl := lv_entry ([.ref h0]) (n := 4) (Nat.le_of_ble_eq_true rfl)
  rw [lg_entry_eq]
  generalize (lg_sl ([.ref h0]) ++ List.replicate (4 - (lg_sl ([.ref h0])).length) Slot.unset).toArray = ls at hl ⊢
  have hl : lv_has ls 4 [(0, .ref h0)] := hl
  obtain ⟨H, hH⟩ : ∃ H : Heap, H = s.heap := ⟨_, rfl⟩
  obtain ⟨locs, hlocs⟩ : ∃ y : List Loc, y = [] := ⟨_, rfl⟩
  have hS : va_S A s.heap H locs := by rw [hH, hlocs]; exact va_S.rf
  have hP : va_P (dC, dI) vwCl (wd_77d3d1bb h0 v0 h1 v1 v2 v3 v4 r0 r1 r2 r3 r4 r5 r6 v5 v6 r7 r8 h2 h3 v7 r9 r10 v8 v9 r11 r12 v10 v11 r13 v12 v13 r14 v14 w15 r15 v16 v17 r16 r17 r18 r19 r20 r21 v18 r22 r23 r24 v19 h1 g0 f20 h2 g1 f21 h3 g2 f22) H := by rw [hH]; exact hP
  rw [← hH, ← hlocs]
  refine lv_aload_n hx hb dX12_readOffice_0 rfl (lv_at hl 0 rfl) ?_
  refine lv_iconst (v := 0) hx hb dX12_readOffice_1 (by decide) ?_
  refine va_put (D := (dC, dI)) (ci := 12) (v := .int 0) (ty := .int) (C := RX12) (T := TX12) (N := 48) hx hb hts (fun _ h => List.mem_cons_of_mem _ (List.mem_append_right _ h)) tyX12 tyX12_ok nmX12 hown hK hP hD hS 0 rfl rfl 3 (by decide) (hts (.fieldLink RX12 112 "LeftArgumentsModel" "at" "I") (List.mem_cons_of_mem _ (List.mem_append_left _ (List.mem_of_getElem? (i := 0) rfl)))) (fun _ h9 => h9) rfl (by decide +kernel) rfl rfl (Nat.le_of_ble_eq_true rfl) dX12_readOffice_2 (fun H locs hP hD hS => ?_)
  have hP : va_P (dC, dI) vwCl (wd_77d3d1bb h0 v0 h1 v1 0 v3 v4 r0 r1 r2 r3 r4 r5 r6 v5 v6 r7 r8 h2 h3 v7 r9 r10 v8 v9 r11 r12 v10 v11 r13 v12 v13 r14 v14 w15 r15 v16 v17 r16 r17 r18 r19 r20 r21 v18 r22 r23 r24 v19 h1 g0 f20 h2 g1 f21 h3 g2 f22) H := hP
  have hD : va_D A (wd_77d3d1bb h0 v0 h1 v1 0 v3 v4 r0 r1 r2 r3 r4 r5 r6 v5 v6 r7 r8 h2 h3 v7 r9 r10 v8 v9 r11 r12 v10 v11 r13 v12 v13 r14 v14 w15 r15 v16 v17 r16 r17 r18 r19 r20 r21 v18 r22 r23 r24 v19 h1 g0 f20 h2 g1 f21 h3 g2 f22) := hD
  refine lv_aload_n hx hb dX12_readOffice_5 rfl (lv_at hl 0 rfl) ?_
  refine lv_iconst (v := (-1)) hx hb dX12_readOffice_6 (by decide) ?_
  refine va_put (D := (dC, dI)) (ci := 12) (v := .int (-1)) (ty := .int) (C := RX12) (T := TX12) (N := 48) hx hb hts (fun _ h => List.mem_cons_of_mem _ (List.mem_append_right _ h)) tyX12 tyX12_ok nmX12 hown hK hP hD hS 0 rfl rfl 4 (by decide) (hts (.fieldLink RX12 119 "LeftArgumentsModel" "wrong" "I") (List.mem_cons_of_mem _ (List.mem_append_left _ (List.mem_of_getElem? (i := 1) rfl)))) (fun _ h9 => h9) rfl (by decide +kernel) rfl rfl (Nat.le_of_ble_eq_true rfl) dX12_readOffice_7 (fun H locs hP hD hS => ?_)
  have hP : va_P (dC, dI) vwCl (wd_77d3d1bb h0 v0 h1 v1 0 (-1) v4 r0 r1 r2 r3 r4 r5 r6 v5 v6 r7 r8 h2 h3 v7 r9 r10 v8 v9 r11 r12 v10 v11 r13 v12 v13 r14 v14 w15 r15 v16 v17 r16 r17 r18 r19 r20 r21 v18 r22 r23 r24 v19 h1 g0 f20 h2 g1 f21 h3 g2 f22) H := hP
  have hD : va_D A (wd_77d3d1bb h0 v0 h1 v1 0 (-1) v4 r0 r1 r2 r3 r4 r5 r6 v5 v6 r7 r8 h2 h3 v7 r9 r10 v8 v9 r11 r12 v10 v11 r13 v12 v13 r14 v14 w15 r15 v16 v17 r16 r17 r18 r19 r20 r21 v18 r22 r23 r24 v19 h1 g0 f20 h2 g1 f21 h3 g2 f22) := hD
  refine lv_aload_n hx hb dX12_readOffice_10 rfl (lv_at hl 0 rfl) ?_
  refine lv_iconst (v := 0) hx hb dX12_readOffice_11 (by decide) ?_
  refine va_put (D := (dC, dI)) (ci := 12) (v := .int 0) (ty := .int) (C := RX12) (T := TX12) (N := 48) hx hb hts (fun _ h => List.mem_cons_of_mem _ (List.mem_append_right _ h)) tyX12 tyX12_ok nmX12 hown hK hP hD hS 0 rfl rfl 19 (by decide) (hts (.fieldLink RX12 241 "LeftArgumentsModel" "readBags" "I") (List.mem_cons_of_mem _ (List.mem_append_left _ (List.mem_of_getElem? (i := 2) rfl)))) (fun _ h9 => h9) rfl (by decide +kernel) rfl rfl (Nat.le_of_ble_eq_true rfl) dX12_readOffice_12 (fun H locs hP hD hS => ?_)
  have hP : va_P (dC, dI) vwCl (wd_77d3d1bb h0 v0 h1 v1 0 (-1) v4 r0 r1 r2 r3 r4 r5 r6 v5 v6 r7 r8 h2 h3 0 r9 r10 v8 v9 r11 r12 v10 v11 r13 v12 v13 r14 v14 w15 r15 v16 v17 r16 r17 r18 r19 r20 r21 v18 r22 r23 r24 v19 h1 g0 f20 h2 g1 f21 h3 g2 f22) H := hP
  have hD : va_D A (wd_77d3d1bb h0 v0 h1 v1 0 (-1) v4 r0 r1 r2 r3 r4 r5 r6 v5 v6 r7 r8 h2 h3 0 r9 r10 v8 v9 r11 r12 v10 v11 r13 v12 v13 r14 v14 w15 r15 v16 v17 r16 r17 r18 r19 r20 r21 v18 r22 r23 r24 v19 h1 g0 f20 h2 g1 f21 h3 g2 f22) := hD
  refine lv_iconst (v := 0) hx hb dX12_readOffice_15 (by decide) ?_
  refine lv_istore_n (lv' := [(1, .int 0), (0, .ref h0)]) hx hb dX12_readOffice_16 rfl hl (by decide) rfl (fun ls hl => ?_)
  refine lv_iconst (v := 0) hx hb dX12_readOffice_17 (by decide) ?_
  refine lv_istore_n (lv' := [(2, .int 0), (1, .int 0), (0, .ref h0)]) hx hb dX12_readOffice_18 rfl hl (by decide) rfl (fun ls hl => ?_)
  refine lv_iload_n hx hb dX12_readOffice_19 rfl (lv_at hl 0 rfl) ?_
  refine lv_iconst (v := 4) hx hb dX12_readOffice_20 (by decide) ?_
  refine lv_icmp_ge (tgt := 42) hx hb dX12_readOffice_21 (by decide) (fun c => absurd c (by decide)) (fun _ => ?_)
  refine lv_aload_n hx hb dX12_readOffice_24 rfl (lv_at hl 2 rfl) ?_
  refine va_get (D := (dC, dI)) (ci := 12) (v := .ref h2) (C := RX12) (T := TX12) (N := 48) hx hb hts (fun _ h => List.mem_cons_of_mem _ (List.mem_append_right _ h)) hown hK hP 0 rfl rfl 17 (by decide) (hts (.fieldLink RX12 40 "LeftArgumentsModel" "readRule" "[I") (List.mem_cons_of_mem _ (List.mem_append_left _ (List.mem_of_getElem? (i := 3) rfl)))) (fun _ h9 => h9) rfl dX12_readOffice_25 ?_
  refine lv_iload_n hx hb dX12_readOffice_28 rfl (lv_at hl 0 rfl) ?_
  refine lv_bipush (v := 115) hx hb dX12_readOffice_29 (by decide) ?_
  refine lv_iload_n hx hb dX12_readOffice_31 rfl (lv_at hl 0 rfl) ?_
  have hPc := hP.sub (ws' := []) [] rfl
  have hDc := hD.sub (ws' := []) [] (by decide) rfl
  have hKc := hK.sub (tys' := []) [] rfl
  have hFc := va_free (wc := []) hD hS hA [] rfl
  refine va_calli (va_runS (As := [.int 115, .int 0]) (rest := [.int 0, .ref h2]) ⟨hx, hb, hml, hown, hts⟩ (k_X12_usual l dC dI   H.size) (va_cwS 2 hts g_X12_readOffice_0 rfl rfl rfl (by decide +kernel) ⟨Nat.le_of_ble_eq_true rfl, Nat.le_of_ble_eq_true rfl⟩) ⟨fun a U g mk q => by obtain ⟨q0, q1, qP, qK, qD⟩ := q; exact ⟨q0, q1, qP, va_K.moved (u := U) (U := U.calling g mk a) (Vm.Alike.refl U.vm) qK, qD⟩, fun U hU hW => ⟨rfl, by rw [hU], by rw [hU]; exact hPc, va_K.moved hW.alike hKc, hDc.weaken (fun _ _ _ _ => trivial)⟩⟩ rfl rfl hl.1 rfl (lv_room (Nat.le_of_ble_eq_true rfl)) dX12_readOffice_32 ⟨Nat.le_of_ble_eq_true rfl, Nat.le_of_ble_eq_true rfl⟩) hS (fun q _ h => hFc q h) hFc (fun ra1 u t H1 locs ht hvm hwra1 hB hz1 hk1 hS => ?_)
  try rw [hwra1] at hB
  obtain ⟨pt0_ra1, pt1_ra1, hP1, hK1, hD1⟩ := hB
  rw [ht] at hP1
  obtain ⟨hP, hD⟩ := va_join (wr := (wd_77d3d1bb h0 v0 h1 v1 0 (-1) v4 r0 r1 r2 r3 r4 r5 r6 v5 v6 r7 r8 h2 h3 0 r9 r10 v8 v9 r11 r12 v10 v11 r13 v12 v13 r14 v14 w15 r15 v16 v17 r16 r17 r18 r19 r20 r21 v18 r22 r23 r24 v19 h1 g0 f20 h2 g1 f21 h3 g2 f22)) (w1 := []) hP hD [] [0, 1, 2, 3] rfl rfl (by decide) (by decide) hk1 hFc hP1 hD1
  generalize H1 = H at hP hS ⊢
  have hP : va_P (dC, dI) vwCl (wd_77d3d1bb h0 v0 h1 v1 0 (-1) v4 r0 r1 r2 r3 r4 r5 r6 v5 v6 r7 r8 h2 h3 0 r9 r10 v8 v9 r11 r12 v10 v11 r13 v12 v13 r14 v14 w15 r15 v16 v17 r16 r17 r18 r19 r20 r21 v18 r22 r23 r24 v19 h1 g0 f20 h2 g1 f21 h3 g2 f22) H := hP
  have hD : va_D A (wd_77d3d1bb h0 v0 h1 v1 0 (-1) v4 r0 r1 r2 r3 r4 r5 r6 v5 v6 r7 r8 h2 h3 0 r9 r10 v8 v9 r11 r12 v10 v11 r13 v12 v13 r14 v14 w15 r15 v16 v17 r16 r17 r18 r19 r20 r21 v18 r22 r23 r24 v19 h1 g0 f20 h2 g1 f21 h3 g2 f22) := hD
  obtain rfl : ra1 = (20 : Int32) := Int32.toInt_inj.mp (by rw [show ((20 : Int32)).toInt = 20 by decide]; omega)
  refine va_iast hx hb hK hP hD hS 2 1 rfl rfl (pv_c (x := 0) (n := 4) (by decide)) dX12_readOffice_35 (fun H locs hP hD hS => ?_)
  obtain ⟨fn2, efn2⟩ : ∃ g : Nat → Int32, g = upd f21 (Int32.toNatClampNeg 0) 20 := ⟨_, rfl⟩
  rw [← efn2] at hP hD
  have hP : va_P (dC, dI) vwCl (wd_77d3d1bb h0 v0 h1 v1 0 (-1) v4 r0 r1 r2 r3 r4 r5 r6 v5 v6 r7 r8 h2 h3 0 r9 r10 v8 v9 r11 r12 v10 v11 r13 v12 v13 r14 v14 w15 r15 v16 v17 r16 r17 r18 r19 r20 r21 v18 r22 r23 r24 v19 h1 g0 f20 h2 g1 fn2 h3 g2 f22) H := hP
  have hD : va_D A (wd_77d3d1bb h0 v0 h1 v1 0 (-1) v4 r0 r1 r2 r3 r4 r5 r6 v5 v6 r7 r8 h2 h3 0 r9 r10 v8 v9 r11 r12 v10 v11 r13 v12 v13 r14 v14 w15 r15 v16 v17 r16 r17 r18 r19 r20 r21 v18 r22 r23 r24 v19 h1 g0 f20 h2 g1 fn2 h3 g2 f22) := hD
  refine lv_iinc (v := 1) (lv' := [(2, .int 1), (1, .int 0), (0, .ref h0)]) hx hb dX12_readOffice_36 hl (k := 0) rfl (by decide) (by decide) rfl (fun ls hl => ?_)
  refine lv_goto (tgt := 19) hx hb dX12_readOffice_39 (by decide) ?_
  refine lv_iload_n hx hb dX12_readOffice_19 rfl (lv_at hl 0 rfl) ?_
  refine lv_iconst (v := 4) hx hb dX12_readOffice_20 (by decide) ?_
  refine lv_icmp_ge (tgt := 42) hx hb dX12_readOffice_21 (by decide) (fun c => absurd c (by decide)) (fun _ => ?_)
  refine lv_aload_n hx hb dX12_readOffice_24 rfl (lv_at hl 2 rfl) ?_
  refine va_get (D := (dC, dI)) (ci := 12) (v := .ref h2) (C := RX12) (T := TX12) (N := 48) hx hb hts (fun _ h => List.mem_cons_of_mem _ (List.mem_append_right _ h)) hown hK hP 0 rfl rfl 17 (by decide) (hts (.fieldLink RX12 40 "LeftArgumentsModel" "readRule" "[I") (List.mem_cons_of_mem _ (List.mem_append_left _ (List.mem_of_getElem? (i := 3) rfl)))) (fun _ h9 => h9) rfl dX12_readOffice_25 ?_
  refine lv_iload_n hx hb dX12_readOffice_28 rfl (lv_at hl 0 rfl) ?_
  refine lv_bipush (v := 115) hx hb dX12_readOffice_29 (by decide) ?_
  refine lv_iload_n hx hb dX12_readOffice_31 rfl (lv_at hl 0 rfl) ?_
  have hPc := hP.sub (ws' := []) [] rfl
  have hDc := hD.sub (ws' := []) [] (by decide) rfl
  have hKc := hK.sub (tys' := []) [] rfl
  have hFc := va_free (wc := []) hD hS hA [] rfl
  refine va_calli (va_runS (As := [.int 115, .int 1]) (rest := [.int 1, .ref h2]) ⟨hx, hb, hml, hown, hts⟩ (k_X12_usual_1 l dC dI   H.size) (va_cwS 2 hts g_X12_readOffice_1 rfl rfl rfl (by decide +kernel) ⟨Nat.le_of_ble_eq_true rfl, Nat.le_of_ble_eq_true rfl⟩) ⟨fun a U g mk q => by obtain ⟨q0, q1, qP, qK, qD⟩ := q; exact ⟨q0, q1, qP, va_K.moved (u := U) (U := U.calling g mk a) (Vm.Alike.refl U.vm) qK, qD⟩, fun U hU hW => ⟨rfl, by rw [hU], by rw [hU]; exact hPc, va_K.moved hW.alike hKc, hDc.weaken (fun _ _ _ _ => trivial)⟩⟩ rfl rfl hl.1 rfl (lv_room (Nat.le_of_ble_eq_true rfl)) dX12_readOffice_32 ⟨Nat.le_of_ble_eq_true rfl, Nat.le_of_ble_eq_true rfl⟩) hS (fun q _ h => hFc q h) hFc (fun ra3 u t H1 locs ht hvm hwra3 hB hz1 hk1 hS => ?_)
  try rw [hwra3] at hB
  obtain ⟨pt0_ra3, pt1_ra3, hP1, hK1, hD1⟩ := hB
  rw [ht] at hP1
  obtain ⟨hP, hD⟩ := va_join (wr := (wd_77d3d1bb h0 v0 h1 v1 0 (-1) v4 r0 r1 r2 r3 r4 r5 r6 v5 v6 r7 r8 h2 h3 0 r9 r10 v8 v9 r11 r12 v10 v11 r13 v12 v13 r14 v14 w15 r15 v16 v17 r16 r17 r18 r19 r20 r21 v18 r22 r23 r24 v19 h1 g0 f20 h2 g1 fn2 h3 g2 f22)) (w1 := []) hP hD [] [0, 1, 2, 3] rfl rfl (by decide) (by decide) hk1 hFc hP1 hD1
  generalize H1 = H at hP hS ⊢
  have hP : va_P (dC, dI) vwCl (wd_77d3d1bb h0 v0 h1 v1 0 (-1) v4 r0 r1 r2 r3 r4 r5 r6 v5 v6 r7 r8 h2 h3 0 r9 r10 v8 v9 r11 r12 v10 v11 r13 v12 v13 r14 v14 w15 r15 v16 v17 r16 r17 r18 r19 r20 r21 v18 r22 r23 r24 v19 h1 g0 f20 h2 g1 fn2 h3 g2 f22) H := hP
  have hD : va_D A (wd_77d3d1bb h0 v0 h1 v1 0 (-1) v4 r0 r1 r2 r3 r4 r5 r6 v5 v6 r7 r8 h2 h3 0 r9 r10 v8 v9 r11 r12 v10 v11 r13 v12 v13 r14 v14 w15 r15 v16 v17 r16 r17 r18 r19 r20 r21 v18 r22 r23 r24 v19 h1 g0 f20 h2 g1 fn2 h3 g2 f22) := hD
  obtain rfl : ra3 = (3 : Int32) := Int32.toInt_inj.mp (by rw [show ((3 : Int32)).toInt = 3 by decide]; omega)
  refine va_iast hx hb hK hP hD hS 2 1 rfl rfl (pv_c (x := 1) (n := 4) (by decide)) dX12_readOffice_35 (fun H locs hP hD hS => ?_)
  obtain ⟨fn4, efn4⟩ : ∃ g : Nat → Int32, g = upd fn2 (Int32.toNatClampNeg 1) 3 := ⟨_, rfl⟩
  rw [← efn4] at hP hD
  have hP : va_P (dC, dI) vwCl (wd_77d3d1bb h0 v0 h1 v1 0 (-1) v4 r0 r1 r2 r3 r4 r5 r6 v5 v6 r7 r8 h2 h3 0 r9 r10 v8 v9 r11 r12 v10 v11 r13 v12 v13 r14 v14 w15 r15 v16 v17 r16 r17 r18 r19 r20 r21 v18 r22 r23 r24 v19 h1 g0 f20 h2 g1 fn4 h3 g2 f22) H := hP
  have hD : va_D A (wd_77d3d1bb h0 v0 h1 v1 0 (-1) v4 r0 r1 r2 r3 r4 r5 r6 v5 v6 r7 r8 h2 h3 0 r9 r10 v8 v9 r11 r12 v10 v11 r13 v12 v13 r14 v14 w15 r15 v16 v17 r16 r17 r18 r19 r20 r21 v18 r22 r23 r24 v19 h1 g0 f20 h2 g1 fn4 h3 g2 f22) := hD
  refine lv_iinc (v := 2) (lv' := [(2, .int 2), (1, .int 0), (0, .ref h0)]) hx hb dX12_readOffice_36 hl (k := 0) rfl (by decide) (by decide) rfl (fun ls hl => ?_)
  refine lv_goto (tgt := 19) hx hb dX12_readOffice_39 (by decide) ?_
  refine lv_iload_n hx hb dX12_readOffice_19 rfl (lv_at hl 0 rfl) ?_
  refine lv_iconst (v := 4) hx hb dX12_readOffice_20 (by decide) ?_
  refine lv_icmp_ge (tgt := 42) hx hb dX12_readOffice_21 (by decide) (fun c => absurd c (by decide)) (fun _ => ?_)
  refine lv_aload_n hx hb dX12_readOffice_24 rfl (lv_at hl 2 rfl) ?_
  refine va_get (D := (dC, dI)) (ci := 12) (v := .ref h2) (C := RX12) (T := TX12) (N := 48) hx hb hts (fun _ h => List.mem_cons_of_mem _ (List.mem_append_right _ h)) hown hK hP 0 rfl rfl 17 (by decide) (hts (.fieldLink RX12 40 "LeftArgumentsModel" "readRule" "[I") (List.mem_cons_of_mem _ (List.mem_append_left _ (List.mem_of_getElem? (i := 3) rfl)))) (fun _ h9 => h9) rfl dX12_readOffice_25 ?_
  refine lv_iload_n hx hb dX12_readOffice_28 rfl (lv_at hl 0 rfl) ?_
  refine lv_bipush (v := 115) hx hb dX12_readOffice_29 (by decide) ?_
  refine lv_iload_n hx hb dX12_readOffice_31 rfl (lv_at hl 0 rfl) ?_
  have hPc := hP.sub (ws' := []) [] rfl
  have hDc := hD.sub (ws' := []) [] (by decide) rfl
  have hKc := hK.sub (tys' := []) [] rfl
  have hFc := va_free (wc := []) hD hS hA [] rfl
  refine va_calli (va_runS (As := [.int 115, .int 2]) (rest := [.int 2, .ref h2]) ⟨hx, hb, hml, hown, hts⟩ (k_X12_usual_2 l dC dI   H.size) (va_cwS 2 hts g_X12_readOffice_2 rfl rfl rfl (by decide +kernel) ⟨Nat.le_of_ble_eq_true rfl, Nat.le_of_ble_eq_true rfl⟩) ⟨fun a U g mk q => by obtain ⟨q0, q1, qP, qK, qD⟩ := q; exact ⟨q0, q1, qP, va_K.moved (u := U) (U := U.calling g mk a) (Vm.Alike.refl U.vm) qK, qD⟩, fun U hU hW => ⟨rfl, by rw [hU], by rw [hU]; exact hPc, va_K.moved hW.alike hKc, hDc.weaken (fun _ _ _ _ => trivial)⟩⟩ rfl rfl hl.1 rfl (lv_room (Nat.le_of_ble_eq_true rfl)) dX12_readOffice_32 ⟨Nat.le_of_ble_eq_true rfl, Nat.le_of_ble_eq_true rfl⟩) hS (fun q _ h => hFc q h) hFc (fun ra5 u t H1 locs ht hvm hwra5 hB hz1 hk1 hS => ?_)
  try rw [hwra5] at hB
  obtain ⟨pt0_ra5, pt1_ra5, hP1, hK1, hD1⟩ := hB
  rw [ht] at hP1
  obtain ⟨hP, hD⟩ := va_join (wr := (wd_77d3d1bb h0 v0 h1 v1 0 (-1) v4 r0 r1 r2 r3 r4 r5 r6 v5 v6 r7 r8 h2 h3 0 r9 r10 v8 v9 r11 r12 v10 v11 r13 v12 v13 r14 v14 w15 r15 v16 v17 r16 r17 r18 r19 r20 r21 v18 r22 r23 r24 v19 h1 g0 f20 h2 g1 fn4 h3 g2 f22)) (w1 := []) hP hD [] [0, 1, 2, 3] rfl rfl (by decide) (by decide) hk1 hFc hP1 hD1
  generalize H1 = H at hP hS ⊢
  have hP : va_P (dC, dI) vwCl (wd_77d3d1bb h0 v0 h1 v1 0 (-1) v4 r0 r1 r2 r3 r4 r5 r6 v5 v6 r7 r8 h2 h3 0 r9 r10 v8 v9 r11 r12 v10 v11 r13 v12 v13 r14 v14 w15 r15 v16 v17 r16 r17 r18 r19 r20 r21 v18 r22 r23 r24 v19 h1 g0 f20 h2 g1 fn4 h3 g2 f22) H := hP
  have hD : va_D A (wd_77d3d1bb h0 v0 h1 v1 0 (-1) v4 r0 r1 r2 r3 r4 r5 r6 v5 v6 r7 r8 h2 h3 0 r9 r10 v8 v9 r11 r12 v10 v11 r13 v12 v13 r14 v14 w15 r15 v16 v17 r16 r17 r18 r19 r20 r21 v18 r22 r23 r24 v19 h1 g0 f20 h2 g1 fn4 h3 g2 f22) := hD
  obtain rfl : ra5 = (4 : Int32) := Int32.toInt_inj.mp (by rw [show ((4 : Int32)).toInt = 4 by decide]; omega)
  refine va_iast hx hb hK hP hD hS 2 1 rfl rfl (pv_c (x := 2) (n := 4) (by decide)) dX12_readOffice_35 (fun H locs hP hD hS => ?_)
  obtain ⟨fn6, efn6⟩ : ∃ g : Nat → Int32, g = upd fn4 (Int32.toNatClampNeg 2) 4 := ⟨_, rfl⟩
  rw [← efn6] at hP hD
  have hP : va_P (dC, dI) vwCl (wd_77d3d1bb h0 v0 h1 v1 0 (-1) v4 r0 r1 r2 r3 r4 r5 r6 v5 v6 r7 r8 h2 h3 0 r9 r10 v8 v9 r11 r12 v10 v11 r13 v12 v13 r14 v14 w15 r15 v16 v17 r16 r17 r18 r19 r20 r21 v18 r22 r23 r24 v19 h1 g0 f20 h2 g1 fn6 h3 g2 f22) H := hP
  have hD : va_D A (wd_77d3d1bb h0 v0 h1 v1 0 (-1) v4 r0 r1 r2 r3 r4 r5 r6 v5 v6 r7 r8 h2 h3 0 r9 r10 v8 v9 r11 r12 v10 v11 r13 v12 v13 r14 v14 w15 r15 v16 v17 r16 r17 r18 r19 r20 r21 v18 r22 r23 r24 v19 h1 g0 f20 h2 g1 fn6 h3 g2 f22) := hD
  refine lv_iinc (v := 3) (lv' := [(2, .int 3), (1, .int 0), (0, .ref h0)]) hx hb dX12_readOffice_36 hl (k := 0) rfl (by decide) (by decide) rfl (fun ls hl => ?_)
  refine lv_goto (tgt := 19) hx hb dX12_readOffice_39 (by decide) ?_
  refine lv_iload_n hx hb dX12_readOffice_19 rfl (lv_at hl 0 rfl) ?_
  refine lv_iconst (v := 4) hx hb dX12_readOffice_20 (by decide) ?_
  refine lv_icmp_ge (tgt := 42) hx hb dX12_readOffice_21 (by decide) (fun c => absurd c (by decide)) (fun _ => ?_)
  refine lv_aload_n hx hb dX12_readOffice_24 rfl (lv_at hl 2 rfl) ?_
  refine va_get (D := (dC, dI)) (ci := 12) (v := .ref h2) (C := RX12) (T := TX12) (N := 48) hx hb hts (fun _ h => List.mem_cons_of_mem _ (List.mem_append_right _ h)) hown hK hP 0 rfl rfl 17 (by decide) (hts (.fieldLink RX12 40 "LeftArgumentsModel" "readRule" "[I") (List.mem_cons_of_mem _ (List.mem_append_left _ (List.mem_of_getElem? (i := 3) rfl)))) (fun _ h9 => h9) rfl dX12_readOffice_25 ?_
  refine lv_iload_n hx hb dX12_readOffice_28 rfl (lv_at hl 0 rfl) ?_
  refine lv_bipush (v := 115) hx hb dX12_readOffice_29 (by decide) ?_
  refine lv_iload_n hx hb dX12_readOffice_31 rfl (lv_at hl 0 rfl) ?_
  have hPc := hP.sub (ws' := []) [] rfl
  have hDc := hD.sub (ws' := []) [] (by decide) rfl
  have hKc := hK.sub (tys' := []) [] rfl
  have hFc := va_free (wc := []) hD hS hA [] rfl
  refine va_calli (va_runS (As := [.int 115, .int 3]) (rest := [.int 3, .ref h2]) ⟨hx, hb, hml, hown, hts⟩ (k_X12_usual_3 l dC dI   H.size) (va_cwS 2 hts g_X12_readOffice_3 rfl rfl rfl (by decide +kernel) ⟨Nat.le_of_ble_eq_true rfl, Nat.le_of_ble_eq_true rfl⟩) ⟨fun a U g mk q => by obtain ⟨q0, q1, qP, qK, qD⟩ := q; exact ⟨q0, q1, qP, va_K.moved (u := U) (U := U.calling g mk a) (Vm.Alike.refl U.vm) qK, qD⟩, fun U hU hW => ⟨rfl, by rw [hU], by rw [hU]; exact hPc, va_K.moved hW.alike hKc, hDc.weaken (fun _ _ _ _ => trivial)⟩⟩ rfl rfl hl.1 rfl (lv_room (Nat.le_of_ble_eq_true rfl)) dX12_readOffice_32 ⟨Nat.le_of_ble_eq_true rfl, Nat.le_of_ble_eq_true rfl⟩) hS (fun q _ h => hFc q h) hFc (fun ra7 u t H1 locs ht hvm hwra7 hB hz1 hk1 hS => ?_)
  try rw [hwra7] at hB
  obtain ⟨pt0_ra7, pt1_ra7, hP1, hK1, hD1⟩ := hB
  rw [ht] at hP1
  obtain ⟨hP, hD⟩ := va_join (wr := (wd_77d3d1bb h0 v0 h1 v1 0 (-1) v4 r0 r1 r2 r3 r4 r5 r6 v5 v6 r7 r8 h2 h3 0 r9 r10 v8 v9 r11 r12 v10 v11 r13 v12 v13 r14 v14 w15 r15 v16 v17 r16 r17 r18 r19 r20 r21 v18 r22 r23 r24 v19 h1 g0 f20 h2 g1 fn6 h3 g2 f22)) (w1 := []) hP hD [] [0, 1, 2, 3] rfl rfl (by decide) (by decide) hk1 hFc hP1 hD1
  generalize H1 = H at hP hS ⊢
  have hP : va_P (dC, dI) vwCl (wd_77d3d1bb h0 v0 h1 v1 0 (-1) v4 r0 r1 r2 r3 r4 r5 r6 v5 v6 r7 r8 h2 h3 0 r9 r10 v8 v9 r11 r12 v10 v11 r13 v12 v13 r14 v14 w15 r15 v16 v17 r16 r17 r18 r19 r20 r21 v18 r22 r23 r24 v19 h1 g0 f20 h2 g1 fn6 h3 g2 f22) H := hP
  have hD : va_D A (wd_77d3d1bb h0 v0 h1 v1 0 (-1) v4 r0 r1 r2 r3 r4 r5 r6 v5 v6 r7 r8 h2 h3 0 r9 r10 v8 v9 r11 r12 v10 v11 r13 v12 v13 r14 v14 w15 r15 v16 v17 r16 r17 r18 r19 r20 r21 v18 r22 r23 r24 v19 h1 g0 f20 h2 g1 fn6 h3 g2 f22) := hD
  obtain rfl : ra7 = (20 : Int32) := Int32.toInt_inj.mp (by rw [show ((20 : Int32)).toInt = 20 by decide]; omega)
  refine va_iast hx hb hK hP hD hS 2 1 rfl rfl (pv_c (x := 3) (n := 4) (by decide)) dX12_readOffice_35 (fun H locs hP hD hS => ?_)
  obtain ⟨fn8, efn8⟩ : ∃ g : Nat → Int32, g = upd fn6 (Int32.toNatClampNeg 3) 20 := ⟨_, rfl⟩
  rw [← efn8] at hP hD
  have hP : va_P (dC, dI) vwCl (wd_77d3d1bb h0 v0 h1 v1 0 (-1) v4 r0 r1 r2 r3 r4 r5 r6 v5 v6 r7 r8 h2 h3 0 r9 r10 v8 v9 r11 r12 v10 v11 r13 v12 v13 r14 v14 w15 r15 v16 v17 r16 r17 r18 r19 r20 r21 v18 r22 r23 r24 v19 h1 g0 f20 h2 g1 fn8 h3 g2 f22) H := hP
  have hD : va_D A (wd_77d3d1bb h0 v0 h1 v1 0 (-1) v4 r0 r1 r2 r3 r4 r5 r6 v5 v6 r7 r8 h2 h3 0 r9 r10 v8 v9 r11 r12 v10 v11 r13 v12 v13 r14 v14 w15 r15 v16 v17 r16 r17 r18 r19 r20 r21 v18 r22 r23 r24 v19 h1 g0 f20 h2 g1 fn8 h3 g2 f22) := hD
  refine lv_iinc (v := 4) (lv' := [(2, .int 4), (1, .int 0), (0, .ref h0)]) hx hb dX12_readOffice_36 hl (k := 0) rfl (by decide) (by decide) rfl (fun ls hl => ?_)
  refine lv_goto (tgt := 19) hx hb dX12_readOffice_39 (by decide) ?_
  refine lv_iload_n hx hb dX12_readOffice_19 rfl (lv_at hl 0 rfl) ?_
  refine lv_iconst (v := 4) hx hb dX12_readOffice_20 (by decide) ?_
  refine lv_icmp_ge (tgt := 42) hx hb dX12_readOffice_21 (by decide) (fun _ => ?_) (fun c => absurd (by decide) c)
  refine lv_iconst (v := 1) hx hb dX12_readOffice_42 (by decide) ?_
  refine lv_istore_n (lv' := [(2, .int 1), (1, .int 0), (0, .ref h0)]) hx hb dX12_readOffice_43 rfl hl (by decide) rfl (fun ls hl => ?_)
  have hL54 : ∀ (n9 : Nat), ∀ (x44 : Int32) (x45 : Int32) (x46 : Int32) (fn47 : Nat → Int32) (fn48 : Nat → Int32) (H : Heap) (locs : List Loc) (ls : Array Slot), 0 ≤ x44.toInt → x44.toInt ≤ 1 → 0 ≤ x45.toInt → x45.toInt ≤ 240 → 0 ≤ x46.toInt → x46.toInt ≤ 8 → pm_RR fn47 → pm_BG x46 fn48 → pg_O f20 v1.toInt x45.toInt x44.toInt x46.toInt fn47 fn48 (pg_of f20 v1.toInt 300 ((0 : Int32)).toInt 0 ((0 : Int32)).toInt (pg_ur f21) f22) → x45.toInt ≤ v1.toInt → (300 - x45.toInt).toNat < n9 → va_P (dC, dI) vwCl (wd_77d3d1bb h0 v0 h1 v1 x45 (-1) v4 r0 r1 r2 r3 r4 r5 r6 v5 v6 r7 r8 h2 h3 x46 r9 r10 v8 v9 r11 r12 v10 v11 r13 v12 v13 r14 v14 w15 r15 v16 v17 r16 r17 r18 r19 r20 r21 v18 r22 r23 r24 v19 h1 g0 f20 h2 g1 fn47 h3 g2 fn48) H → va_D A (wd_77d3d1bb h0 v0 h1 v1 x45 (-1) v4 r0 r1 r2 r3 r4 r5 r6 v5 v6 r7 r8 h2 h3 x46 r9 r10 v8 v9 r11 r12 v10 v11 r13 v12 v13 r14 v14 w15 r15 v16 v17 r16 r17 r18 r19 r20 r21 v18 r22 r23 r24 v19 h1 g0 f20 h2 g1 fn47 h3 g2 fn48) → va_S A s.heap H locs → lv_has ls 4 [(2, .int 1), (1, .int x44), (0, .ref h0)] → W p l e ({ frames := 4, cells := 0, slots := 0, locals := 89 }) s m ([.ref h0] : List Value).toArray below meth c H locs 0 0 Q (F0 m 44 ls []) := by
    intro n9
    induction n9 with
    | zero => intro x44 x45 x46 fn47 fn48 H locs ls qa_x44 qb_x44 qa_x45 qb_x45 qa_x46 qb_x46 gh0_hL54 gh1_hL54 gh2_hL54 gh3_hL54 hm9 hP hD hS hl; exact absurd hm9 (Nat.not_lt_zero _)
    | succ n9 ih_hL54 =>
      intro x44 x45 x46 fn47 fn48 H locs ls qa_x44 qb_x44 qa_x45 qb_x45 qa_x46 qb_x46 gh0_hL54 gh1_hL54 gh2_hL54 gh3_hL54 hm9 hP hD hS hl
      refine lv_iload_n hx hb dX12_readOffice_44 rfl (lv_at hl 0 rfl) ?_
      refine lv_if_eq (tgt := 199) hx hb dX12_readOffice_45 (by decide) (fun c => absurd c (by decide)) (fun _ => ?_)
      refine lv_aload_n hx hb dX12_readOffice_48 rfl (lv_at hl 2 rfl) ?_
      refine va_get (D := (dC, dI)) (ci := 12) (v := .int (-1)) (C := RX12) (T := TX12) (N := 48) hx hb hts (fun _ h => List.mem_cons_of_mem _ (List.mem_append_right _ h)) hown hK hP 0 rfl rfl 4 (by decide) (hts (.fieldLink RX12 119 "LeftArgumentsModel" "wrong" "I") (List.mem_cons_of_mem _ (List.mem_append_left _ (List.mem_of_getElem? (i := 1) rfl)))) (fun _ h9 => h9) rfl dX12_readOffice_49 ?_
      refine lv_iconst (v := (-1)) hx hb dX12_readOffice_52 (by decide) ?_
      refine lv_icmp_ne (tgt := 199) hx hb dX12_readOffice_53 (by decide) (fun c => absurd (by decide) c) (fun _ => ?_)
      refine lv_aload_n hx hb dX12_readOffice_56 rfl (lv_at hl 2 rfl) ?_
      have hPc := hP.sub (ws' := (wd_f4cd022e h0 v0 h1 v1 x45 (-1) v4 r0 r1 r2 r3 r4 r5 r6 v5 v6 r7 r8 h2 h3 x46 r9 r10 v8 v9 r11 r12 v10 v11 r13 v12 v13 r14 v14 w15 r15 v16 v17 r16 r17 r18 r19 r20 r21 v18 r22 r23 r24 v19 h1 g0 f20)) [0, 1] rfl
      have hDc := hD.sub (ws' := (wd_f4cd022e h0 v0 h1 v1 x45 (-1) v4 r0 r1 r2 r3 r4 r5 r6 v5 v6 r7 r8 h2 h3 x46 r9 r10 v8 v9 r11 r12 v10 v11 r13 v12 v13 r14 v14 w15 r15 v16 v17 r16 r17 r18 r19 r20 r21 v18 r22 r23 r24 v19 h1 g0 f20)) [0, 1] (by decide) rfl
      have hKc := hK.sub (tys' := [(g0, .int)]) [0] rfl
      have hFc := va_free (wc := (wd_f4cd022e h0 v0 h1 v1 x45 (-1) v4 r0 r1 r2 r3 r4 r5 r6 v5 v6 r7 r8 h2 h3 x46 r9 r10 v8 v9 r11 r12 v10 v11 r13 v12 v13 r14 v14 w15 r15 v16 v17 r16 r17 r18 r19 r20 r21 v18 r22 r23 r24 v19 h1 g0 f20)) hD hS hA [0, 1] rfl
      refine va_calli (va_runV (As := []) (rest := []) ⟨hx, hb, hml, hown, hts⟩ (k_X12_look l dC dI h0 h1 v0 v1 x45 ((-1)) v4 r0 r1 r2 r3 r4 r5 r6 v5 v6 r7 r8 h2 h3 x46 r9 r10 v8 v9 r11 r12 v10 v11 r13 v12 v13 r14 v14 w15 r15 v16 v17 r16 r17 r18 r19 r20 r21 v18 r22 r23 r24 v19 g0 f20 ⟨by first | omega | decide, by first | omega | decide⟩ ⟨by first | omega | decide, by first | omega | decide⟩ ⟨by first | omega | decide, by first | omega | decide⟩ ⟨by first | omega | decide, by first | omega | decide⟩ ⟨by first | omega | decide, by first | omega | decide⟩ ⟨by first | omega | decide, by first | omega | decide⟩ ⟨by first | omega | decide, by first | omega | decide⟩ ⟨by first | omega | decide, by first | omega | decide⟩ ⟨by first | omega | decide, by first | omega | decide⟩ ⟨by first | omega | decide, by first | omega | decide⟩ ⟨by first | omega | decide, by first | omega | decide⟩ ia_f20 H.size) (cwV 0 hts g_X12_readOffice_4 rfl rfl rfl (by decide +kernel) ⟨Nat.le_of_ble_eq_true rfl, Nat.le_of_ble_eq_true rfl⟩) ⟨fun a U g mk q => by obtain ⟨q0, q1, qP, qK, qD⟩ := q; exact ⟨q0, q1, qP, va_K.moved (u := U) (U := U.calling g mk a) (Vm.Alike.refl U.vm) qK, qD⟩, va_recv hKc hPc (ci := 12) (q0 := 0) rfl rfl, fun U hU hW => ⟨rfl, by rw [hU], by rw [hU]; exact hPc, va_K.moved hW.alike hKc, hDc.weaken (fun _ _ _ _ => trivial)⟩⟩ rfl rfl hl.1 rfl (lv_room (Nat.le_of_ble_eq_true rfl)) dX12_readOffice_57 ⟨Nat.le_of_ble_eq_true rfl, Nat.le_of_ble_eq_true rfl⟩) hS (fun q _ h => hFc q h) hFc (fun ra55 u t H1 locs ht hvm hwra55 hB hz1 hk1 hS => ?_)
      try rw [hwra55] at hB
      have hkra55_0 : (((-1) : Int32)).toInt = -1 := by decide
      rcases hB with hB | hB
      · skip
        obtain ⟨x56, oa_x56, ob_x56, pt0_ra55, pt1_ra55, pt2_ra55, pt3_ra55, pt4_ra55, pt5_ra55, pt6_ra55, hP1, hK1, hD1⟩ := hB
        rw [ht] at hP1
        obtain ⟨hP, hD⟩ := va_join (wr := (wd_5ef8c86c h2 g1 fn47 h3 g2 fn48)) (w1 := (wd_f4cd022e h0 v0 h1 v1 x56 (-1) v4 r0 r1 r2 r3 r4 r5 r6 v5 v6 r7 r8 h2 h3 x46 r9 r10 v8 v9 r11 r12 v10 v11 r13 v12 v13 r14 v14 w15 r15 v16 v17 r16 r17 r18 r19 r20 r21 v18 r22 r23 r24 v19 h1 g0 f20)) hP hD [0, 1] [2, 3] rfl rfl (by decide) (by decide) hk1 hFc hP1 hD1
        generalize H1 = H at hP hS ⊢
        have hP := hP.sub (ws' := (wd_77d3d1bb h0 v0 h1 v1 x56 (-1) v4 r0 r1 r2 r3 r4 r5 r6 v5 v6 r7 r8 h2 h3 x46 r9 r10 v8 v9 r11 r12 v10 v11 r13 v12 v13 r14 v14 w15 r15 v16 v17 r16 r17 r18 r19 r20 r21 v18 r22 r23 r24 v19 h1 g0 f20 h2 g1 fn47 h3 g2 fn48)) [2, 3, 0, 1] rfl
        have hD := hD.sub (ws' := (wd_77d3d1bb h0 v0 h1 v1 x56 (-1) v4 r0 r1 r2 r3 r4 r5 r6 v5 v6 r7 r8 h2 h3 x46 r9 r10 v8 v9 r11 r12 v10 v11 r13 v12 v13 r14 v14 w15 r15 v16 v17 r16 r17 r18 r19 r20 r21 v18 r22 r23 r24 v19 h1 g0 f20 h2 g1 fn47 h3 g2 fn48)) [2, 3, 0, 1] (by decide) rfl
        have hP : va_P (dC, dI) vwCl (wd_77d3d1bb h0 v0 h1 v1 x56 (-1) v4 r0 r1 r2 r3 r4 r5 r6 v5 v6 r7 r8 h2 h3 x46 r9 r10 v8 v9 r11 r12 v10 v11 r13 v12 v13 r14 v14 w15 r15 v16 v17 r16 r17 r18 r19 r20 r21 v18 r22 r23 r24 v19 h1 g0 f20 h2 g1 fn47 h3 g2 fn48) H := hP
        have hD : va_D A (wd_77d3d1bb h0 v0 h1 v1 x56 (-1) v4 r0 r1 r2 r3 r4 r5 r6 v5 v6 r7 r8 h2 h3 x46 r9 r10 v8 v9 r11 r12 v10 v11 r13 v12 v13 r14 v14 w15 r15 v16 v17 r16 r17 r18 r19 r20 r21 v18 r22 r23 r24 v19 h1 g0 f20 h2 g1 fn47 h3 g2 fn48) := hD
        obtain rfl : ra55 = ((-1) : Int32) := Int32.toInt_inj.mp (by rw [show (((-1) : Int32)).toInt = -1 by decide]; omega)
        refine lv_istore_n (lv' := [(3, .int (-1)), (2, .int 1), (1, .int x44), (0, .ref h0)]) hx hb dX12_readOffice_60 rfl hl (by decide) rfl (fun ls hl => ?_)
        refine lv_iload_n hx hb dX12_readOffice_61 rfl (lv_at hl 0 rfl) ?_
        refine lv_bipush (v := 115) hx hb dX12_readOffice_62 (by decide) ?_
        refine lv_icmp_ne (tgt := 97) hx hb dX12_readOffice_64 (by decide) (fun _ => ?_) (fun c => absurd c (by decide))
        refine lv_iload_n hx hb dX12_readOffice_97 rfl (lv_at hl 0 rfl) ?_
        refine lv_bipush (v := 98) hx hb dX12_readOffice_98 (by decide) ?_
        refine lv_icmp_ne (tgt := 151) hx hb dX12_readOffice_100 (by decide) (fun _ => ?_) (fun c => absurd c (by decide))
        refine lv_aload_n hx hb dX12_readOffice_151 rfl (lv_at hl 3 rfl) ?_
        have hPc := hP.sub (ws' := (wd_171f232f h0 v0 h1 v1 x56 (-1) v4 r0 r1 r2 r3 r4 r5 r6 v5 v6 r7 r8 h2 h3 x46 r9 r10 v8 v9 r11 r12 v10 v11 r13 v12 v13 r14 v14 w15 r15 v16 v17 r16 r17 r18 r19 r20 r21 v18 r22 r23 r24 v19)) [0] rfl
        have hDc := hD.sub (ws' := (wd_171f232f h0 v0 h1 v1 x56 (-1) v4 r0 r1 r2 r3 r4 r5 r6 v5 v6 r7 r8 h2 h3 x46 r9 r10 v8 v9 r11 r12 v10 v11 r13 v12 v13 r14 v14 w15 r15 v16 v17 r16 r17 r18 r19 r20 r21 v18 r22 r23 r24 v19)) [0] (by decide) rfl
        have hKc := hK.sub (tys' := []) [] rfl
        have hFc := va_free (wc := (wd_171f232f h0 v0 h1 v1 x56 (-1) v4 r0 r1 r2 r3 r4 r5 r6 v5 v6 r7 r8 h2 h3 x46 r9 r10 v8 v9 r11 r12 v10 v11 r13 v12 v13 r14 v14 w15 r15 v16 v17 r16 r17 r18 r19 r20 r21 v18 r22 r23 r24 v19)) hD hS hA [0] rfl
        refine va_callv (va_runV (As := []) (rest := []) ⟨hx, hb, hml, hown, hts⟩ (k_X12_bad l dC dI h0 v0 h1 v1 x56 v4 r0 r1 r2 r3 r4 r5 r6 v5 v6 r7 r8 h2 h3 x46 r9 r10 v8 v9 r11 r12 v10 v11 r13 v12 v13 r14 v14 w15 r15 v16 v17 r16 r17 r18 r19 r20 r21 v18 r22 r23 r24 v19 ⟨by first | omega | decide, by first | omega | decide⟩ ⟨by first | omega | decide, by first | omega | decide⟩ ⟨by first | omega | decide, by first | omega | decide⟩ ⟨by first | omega | decide, by first | omega | decide⟩ ⟨by first | omega | decide, by first | omega | decide⟩ ⟨by first | omega | decide, by first | omega | decide⟩ ⟨by first | omega | decide, by first | omega | decide⟩ ⟨by first | omega | decide, by first | omega | decide⟩ ⟨by first | omega | decide, by first | omega | decide⟩ ⟨by first | omega | decide, by first | omega | decide⟩ ⟨by first | omega | decide, by first | omega | decide⟩ H.size) (cwV 0 hts g_X12_readOffice_5 rfl rfl rfl (by decide +kernel) ⟨Nat.le_of_ble_eq_true rfl, Nat.le_of_ble_eq_true rfl⟩) ⟨fun a U g mk q => by obtain ⟨q0, q1, qP, qK, qD⟩ := q; exact ⟨q0, q1, qP, va_K.moved (u := U) (U := U.calling g mk a) (Vm.Alike.refl U.vm) qK, qD⟩, va_recv hKc hPc (ci := 12) (q0 := 0) rfl rfl, fun U hU hW => ⟨rfl, by rw [hU], by rw [hU]; exact hPc, va_K.moved hW.alike hKc, hDc.weaken (fun _ _ _ _ => trivial)⟩⟩ rfl rfl hl.1 rfl (lv_room (Nat.le_of_ble_eq_true rfl)) dX12_readOffice_152 ⟨Nat.le_of_ble_eq_true rfl, Nat.le_of_ble_eq_true rfl⟩) hS (fun q _ h => hFc q h) hFc (fun u t H1 locs ht hvm hwra57 hB hz1 hk1 hS => ?_)
        obtain ⟨x58, oa_x58, ob_x58, pt0_ra57, hP1, hK1, hD1⟩ := hB
        rw [ht] at hP1
        obtain ⟨hP, hD⟩ := va_join (wr := (wd_bcaf9cf2 h1 g0 f20 h2 g1 fn47 h3 g2 fn48)) (w1 := (wd_171f232f h0 v0 h1 v1 x56 x58 v4 r0 r1 r2 r3 r4 r5 r6 v5 v6 r7 r8 h2 h3 x46 r9 r10 v8 v9 r11 r12 v10 v11 r13 v12 v13 r14 v14 w15 r15 v16 v17 r16 r17 r18 r19 r20 r21 v18 r22 r23 r24 v19)) hP hD [0] [1, 2, 3] rfl rfl (by decide) (by decide) hk1 hFc hP1 hD1
        generalize H1 = H at hP hS ⊢
        have hP := hP.sub (ws' := (wd_77d3d1bb h0 v0 h1 v1 x56 x58 v4 r0 r1 r2 r3 r4 r5 r6 v5 v6 r7 r8 h2 h3 x46 r9 r10 v8 v9 r11 r12 v10 v11 r13 v12 v13 r14 v14 w15 r15 v16 v17 r16 r17 r18 r19 r20 r21 v18 r22 r23 r24 v19 h1 g0 f20 h2 g1 fn47 h3 g2 fn48)) [3, 0, 1, 2] rfl
        have hD := hD.sub (ws' := (wd_77d3d1bb h0 v0 h1 v1 x56 x58 v4 r0 r1 r2 r3 r4 r5 r6 v5 v6 r7 r8 h2 h3 x46 r9 r10 v8 v9 r11 r12 v10 v11 r13 v12 v13 r14 v14 w15 r15 v16 v17 r16 r17 r18 r19 r20 r21 v18 r22 r23 r24 v19 h1 g0 f20 h2 g1 fn47 h3 g2 fn48)) [3, 0, 1, 2] (by decide) rfl
        have hP : va_P (dC, dI) vwCl (wd_77d3d1bb h0 v0 h1 v1 x56 x58 v4 r0 r1 r2 r3 r4 r5 r6 v5 v6 r7 r8 h2 h3 x46 r9 r10 v8 v9 r11 r12 v10 v11 r13 v12 v13 r14 v14 w15 r15 v16 v17 r16 r17 r18 r19 r20 r21 v18 r22 r23 r24 v19 h1 g0 f20 h2 g1 fn47 h3 g2 fn48) H := hP
        have hD : va_D A (wd_77d3d1bb h0 v0 h1 v1 x56 x58 v4 r0 r1 r2 r3 r4 r5 r6 v5 v6 r7 r8 h2 h3 x46 r9 r10 v8 v9 r11 r12 v10 v11 r13 v12 v13 r14 v14 w15 r15 v16 v17 r16 r17 r18 r19 r20 r21 v18 r22 r23 r24 v19 h1 g0 f20 h2 g1 fn47 h3 g2 fn48) := hD
        refine lv_aload_n hx hb dX12_readOffice_155 rfl (lv_at hl 3 rfl) ?_
        refine va_get (D := (dC, dI)) (ci := 12) (v := .int x58) (C := RX12) (T := TX12) (N := 48) hx hb hts (fun _ h => List.mem_cons_of_mem _ (List.mem_append_right _ h)) hown hK hP 0 rfl rfl 4 (by decide) (hts (.fieldLink RX12 119 "LeftArgumentsModel" "wrong" "I") (List.mem_cons_of_mem _ (List.mem_append_left _ (List.mem_of_getElem? (i := 1) rfl)))) (fun _ h9 => h9) rfl dX12_readOffice_156 ?_
        refine lv_iconst (v := (-1)) hx hb dX12_readOffice_159 (by decide) ?_
        refine lv_icmp_ne (tgt := 176) hx hb dX12_readOffice_160 (by decide) (fun _ => ?_) (fun c59 => by exfalso; have fc59 : x58.toInt = (-1) := congrArg Int32.toInt c59; omega)
        refine lv_iconst (v := 0) hx hb dX12_readOffice_176 (by decide) ?_
        refine lv_istore_n (lv' := [(2, .int 0), (3, .int (-1)), (1, .int x44), (0, .ref h0)]) hx hb dX12_readOffice_177 rfl hl (by decide) rfl (fun ls hl => ?_)
        refine lv_aload_n hx hb dX12_readOffice_178 rfl (lv_at hl 3 rfl) ?_
        refine lv_dup hx hb dX12_readOffice_179 rfl ?_
        refine va_get (D := (dC, dI)) (ci := 12) (v := .int x56) (C := RX12) (T := TX12) (N := 48) hx hb hts (fun _ h => List.mem_cons_of_mem _ (List.mem_append_right _ h)) hown hK hP 0 rfl rfl 3 (by decide) (hts (.fieldLink RX12 112 "LeftArgumentsModel" "at" "I") (List.mem_cons_of_mem _ (List.mem_append_left _ (List.mem_of_getElem? (i := 0) rfl)))) (fun _ h9 => h9) rfl dX12_readOffice_180 ?_
        refine lv_iload_n hx hb dX12_readOffice_183 rfl (lv_at hl 0 rfl) ?_
        refine lv_if_eq (tgt := 191) hx hb dX12_readOffice_184 (by decide) (fun _ => ?_) (fun c => absurd (by decide) c)
        refine lv_iconst (v := 0) hx hb dX12_readOffice_191 (by decide) ?_
        refine lv_iadd hx hb dX12_readOffice_192 ?_
        refine lv_topi (fun t60 et60 => ?_)
        have gt60 : t60.toInt = x56.toInt + 0 := pv_add (a := x56.toInt) (b := 0) et60 rfl (by decide) (by omega) (by omega)
        refine va_put (D := (dC, dI)) (ci := 12) (v := .int t60) (ty := .int) (C := RX12) (T := TX12) (N := 48) hx hb hts (fun _ h => List.mem_cons_of_mem _ (List.mem_append_right _ h)) tyX12 tyX12_ok nmX12 hown hK hP hD hS 0 rfl rfl 3 (by decide) (hts (.fieldLink RX12 112 "LeftArgumentsModel" "at" "I") (List.mem_cons_of_mem _ (List.mem_append_left _ (List.mem_of_getElem? (i := 0) rfl)))) (fun _ h9 => h9) rfl (by decide +kernel) rfl rfl (Nat.le_of_ble_eq_true rfl) dX12_readOffice_193 (fun H locs hP hD hS => ?_)
        have hP : va_P (dC, dI) vwCl (wd_77d3d1bb h0 v0 h1 v1 t60 x58 v4 r0 r1 r2 r3 r4 r5 r6 v5 v6 r7 r8 h2 h3 x46 r9 r10 v8 v9 r11 r12 v10 v11 r13 v12 v13 r14 v14 w15 r15 v16 v17 r16 r17 r18 r19 r20 r21 v18 r22 r23 r24 v19 h1 g0 f20 h2 g1 fn47 h3 g2 fn48) H := hP
        have hD : va_D A (wd_77d3d1bb h0 v0 h1 v1 t60 x58 v4 r0 r1 r2 r3 r4 r5 r6 v5 v6 r7 r8 h2 h3 x46 r9 r10 v8 v9 r11 r12 v10 v11 r13 v12 v13 r14 v14 w15 r15 v16 v17 r16 r17 r18 r19 r20 r21 v18 r22 r23 r24 v19 h1 g0 f20 h2 g1 fn47 h3 g2 fn48) := hD
        refine lv_goto (tgt := 44) hx hb dX12_readOffice_196 (by decide) ?_
        refine lv_iload_n hx hb dX12_readOffice_44 rfl (lv_at hl 0 rfl) ?_
        refine lv_if_eq (tgt := 199) hx hb dX12_readOffice_45 (by decide) (fun _ => ?_) (fun c => absurd (by decide) c)
        refine lv_aload_n hx hb dX12_readOffice_199 rfl (lv_at hl 3 rfl) ?_
        refine va_get (D := (dC, dI)) (ci := 12) (v := .int x58) (C := RX12) (T := TX12) (N := 48) hx hb hts (fun _ h => List.mem_cons_of_mem _ (List.mem_append_right _ h)) hown hK hP 0 rfl rfl 4 (by decide) (hts (.fieldLink RX12 119 "LeftArgumentsModel" "wrong" "I") (List.mem_cons_of_mem _ (List.mem_append_left _ (List.mem_of_getElem? (i := 1) rfl)))) (fun _ h9 => h9) rfl dX12_readOffice_200 ?_
        refine lv_iconst (v := (-1)) hx hb dX12_readOffice_203 (by decide) ?_
        refine lv_icmp_ne (tgt := 226) hx hb dX12_readOffice_204 (by decide) (fun _ => ?_) (fun c61 => by exfalso; have fc61 : x58.toInt = (-1) := congrArg Int32.toInt c61; omega)
        refine lv_aload_n hx hb dX12_readOffice_226 rfl (lv_at hl 3 rfl) ?_
        refine va_get (D := (dC, dI)) (ci := 12) (v := .int x58) (C := RX12) (T := TX12) (N := 48) hx hb hts (fun _ h => List.mem_cons_of_mem _ (List.mem_append_right _ h)) hown hK hP 0 rfl rfl 4 (by decide) (hts (.fieldLink RX12 119 "LeftArgumentsModel" "wrong" "I") (List.mem_cons_of_mem _ (List.mem_append_left _ (List.mem_of_getElem? (i := 1) rfl)))) (fun _ h9 => h9) rfl dX12_readOffice_227 ?_
        subst hQ
        have hP9 := hP.sub (ws' := (wd_77d3d1bb h0 v0 h1 v1 t60 x58 v4 r0 r1 r2 r3 r4 r5 r6 v5 v6 r7 r8 h2 h3 x46 r9 r10 v8 v9 r11 r12 v10 v11 r13 v12 v13 r14 v14 w15 r15 v16 v17 r16 r17 r18 r19 r20 r21 v18 r22 r23 r24 v19 h1 g0 f20 h2 g1 fn47 h3 g2 fn48)) [0, 1, 2, 3] rfl
        have hD9 := hD.sub (ws' := (wd_77d3d1bb h0 v0 h1 v1 t60 x58 v4 r0 r1 r2 r3 r4 r5 r6 v5 v6 r7 r8 h2 h3 x46 r9 r10 v8 v9 r11 r12 v10 v11 r13 v12 v13 r14 v14 w15 r15 v16 v17 r16 r17 r18 r19 r20 r21 v18 r22 r23 r24 v19 h1 g0 f20 h2 g1 fn47 h3 g2 fn48)) [0, 1, 2, 3] (by decide) rfl
        have hK9 := hK.sub (tys' := []) [] rfl
        exact W.iret (v := x58) hx hb hr (fun t ht hW => ⟨⟨x58, x58, rfl, rfl, Or.inr (⟨t60, x58, x46, fn47, fn48, by first | omega | decide, by first | omega | decide, by first | omega | decide, by first | omega | decide, by first | omega | decide, by first | omega | decide, by first | omega | decide, by first | omega | decide, by first | (apply pg_office.b0 (R := f21) (B := f22) <;> first | assumption | omega | (apply pg_O.sf <;> first | assumption | omega) | (apply pg_O.bf <;> first | assumption | omega) | (apply pg_O.w <;> first | assumption | omega)) | (apply pg_office.b1 (R := f21) (B := f22) <;> first | assumption | omega | (apply pg_O.s0 <;> first | assumption | omega) | (apply pg_O.b0 <;> first | assumption | omega)) | (apply pg_office.b2 (R := f21) (B := f22) <;> first | assumption | omega | (apply pg_O.s0 <;> first | assumption | omega) | (apply pg_O.b0 <;> first | assumption | omega)), by omega, by rw [ht]; exact hP9, va_K.moved hW.alike hK9, hD9⟩)⟩, hS.F ht⟩) hS.2.2 dX12_readOffice_230
      · skip
        obtain ⟨x62, oa_x62, ob_x62, pt0_ra55, pt1_ra55, pt2_ra55, pt3_ra55, pt4_ra55, pt5_ra55, pt6_ra55, pt7_ra55, hP1, hK1, hD1⟩ := hB
        rw [ht] at hP1
        obtain ⟨hP, hD⟩ := va_join (wr := (wd_5ef8c86c h2 g1 fn47 h3 g2 fn48)) (w1 := (wd_f4cd022e h0 v0 h1 v1 x62 (-1) v4 r0 r1 r2 r3 r4 r5 r6 v5 v6 r7 r8 h2 h3 x46 r9 r10 v8 v9 r11 r12 v10 v11 r13 v12 v13 r14 v14 w15 r15 v16 v17 r16 r17 r18 r19 r20 r21 v18 r22 r23 r24 v19 h1 g0 f20)) hP hD [0, 1] [2, 3] rfl rfl (by decide) (by decide) hk1 hFc hP1 hD1
        generalize H1 = H at hP hS ⊢
        have hP := hP.sub (ws' := (wd_77d3d1bb h0 v0 h1 v1 x62 (-1) v4 r0 r1 r2 r3 r4 r5 r6 v5 v6 r7 r8 h2 h3 x46 r9 r10 v8 v9 r11 r12 v10 v11 r13 v12 v13 r14 v14 w15 r15 v16 v17 r16 r17 r18 r19 r20 r21 v18 r22 r23 r24 v19 h1 g0 f20 h2 g1 fn47 h3 g2 fn48)) [2, 3, 0, 1] rfl
        have hD := hD.sub (ws' := (wd_77d3d1bb h0 v0 h1 v1 x62 (-1) v4 r0 r1 r2 r3 r4 r5 r6 v5 v6 r7 r8 h2 h3 x46 r9 r10 v8 v9 r11 r12 v10 v11 r13 v12 v13 r14 v14 w15 r15 v16 v17 r16 r17 r18 r19 r20 r21 v18 r22 r23 r24 v19 h1 g0 f20 h2 g1 fn47 h3 g2 fn48)) [2, 3, 0, 1] (by decide) rfl
        have hP : va_P (dC, dI) vwCl (wd_77d3d1bb h0 v0 h1 v1 x62 (-1) v4 r0 r1 r2 r3 r4 r5 r6 v5 v6 r7 r8 h2 h3 x46 r9 r10 v8 v9 r11 r12 v10 v11 r13 v12 v13 r14 v14 w15 r15 v16 v17 r16 r17 r18 r19 r20 r21 v18 r22 r23 r24 v19 h1 g0 f20 h2 g1 fn47 h3 g2 fn48) H := hP
        have hD : va_D A (wd_77d3d1bb h0 v0 h1 v1 x62 (-1) v4 r0 r1 r2 r3 r4 r5 r6 v5 v6 r7 r8 h2 h3 x46 r9 r10 v8 v9 r11 r12 v10 v11 r13 v12 v13 r14 v14 w15 r15 v16 v17 r16 r17 r18 r19 r20 r21 v18 r22 r23 r24 v19 h1 g0 f20 h2 g1 fn47 h3 g2 fn48) := hD
        refine lv_istore_n (lv' := [(3, .int ra55), (2, .int 1), (1, .int x44), (0, .ref h0)]) hx hb dX12_readOffice_60 rfl hl (by decide) rfl (fun ls hl => ?_)
        refine lv_iload_n hx hb dX12_readOffice_61 rfl (lv_at hl 0 rfl) ?_
        refine lv_bipush (v := 115) hx hb dX12_readOffice_62 (by decide) ?_
        refine lv_icmp_ne (tgt := 97) hx hb dX12_readOffice_64 (by decide) (fun c63 => ?_) (fun c63 => ?_)
        · skip
          have fc63 : ¬ (ra55.toInt = 115) := fun h9 => c63 (Int32.toInt_inj.mp h9)
          refine lv_iload_n hx hb dX12_readOffice_97 rfl (lv_at hl 0 rfl) ?_
          refine lv_bipush (v := 98) hx hb dX12_readOffice_98 (by decide) ?_
          refine lv_icmp_ne (tgt := 151) hx hb dX12_readOffice_100 (by decide) (fun c64 => ?_) (fun c64 => ?_)
          · skip
            have fc64 : ¬ (ra55.toInt = 98) := fun h9 => c64 (Int32.toInt_inj.mp h9)
            refine lv_aload_n hx hb dX12_readOffice_151 rfl (lv_at hl 3 rfl) ?_
            have hPc := hP.sub (ws' := (wd_171f232f h0 v0 h1 v1 x62 (-1) v4 r0 r1 r2 r3 r4 r5 r6 v5 v6 r7 r8 h2 h3 x46 r9 r10 v8 v9 r11 r12 v10 v11 r13 v12 v13 r14 v14 w15 r15 v16 v17 r16 r17 r18 r19 r20 r21 v18 r22 r23 r24 v19)) [0] rfl
            have hDc := hD.sub (ws' := (wd_171f232f h0 v0 h1 v1 x62 (-1) v4 r0 r1 r2 r3 r4 r5 r6 v5 v6 r7 r8 h2 h3 x46 r9 r10 v8 v9 r11 r12 v10 v11 r13 v12 v13 r14 v14 w15 r15 v16 v17 r16 r17 r18 r19 r20 r21 v18 r22 r23 r24 v19)) [0] (by decide) rfl
            have hKc := hK.sub (tys' := []) [] rfl
            have hFc := va_free (wc := (wd_171f232f h0 v0 h1 v1 x62 (-1) v4 r0 r1 r2 r3 r4 r5 r6 v5 v6 r7 r8 h2 h3 x46 r9 r10 v8 v9 r11 r12 v10 v11 r13 v12 v13 r14 v14 w15 r15 v16 v17 r16 r17 r18 r19 r20 r21 v18 r22 r23 r24 v19)) hD hS hA [0] rfl
            refine va_callv (va_runV (As := []) (rest := []) ⟨hx, hb, hml, hown, hts⟩ (k_X12_bad l dC dI h0 v0 h1 v1 x62 v4 r0 r1 r2 r3 r4 r5 r6 v5 v6 r7 r8 h2 h3 x46 r9 r10 v8 v9 r11 r12 v10 v11 r13 v12 v13 r14 v14 w15 r15 v16 v17 r16 r17 r18 r19 r20 r21 v18 r22 r23 r24 v19 ⟨by first | omega | decide, by first | omega | decide⟩ ⟨by first | omega | decide, by first | omega | decide⟩ ⟨by first | omega | decide, by first | omega | decide⟩ ⟨by first | omega | decide, by first | omega | decide⟩ ⟨by first | omega | decide, by first | omega | decide⟩ ⟨by first | omega | decide, by first | omega | decide⟩ ⟨by first | omega | decide, by first | omega | decide⟩ ⟨by first | omega | decide, by first | omega | decide⟩ ⟨by first | omega | decide, by first | omega | decide⟩ ⟨by first | omega | decide, by first | omega | decide⟩ ⟨by first | omega | decide, by first | omega | decide⟩ H.size) (cwV 0 hts g_X12_readOffice_5 rfl rfl rfl (by decide +kernel) ⟨Nat.le_of_ble_eq_true rfl, Nat.le_of_ble_eq_true rfl⟩) ⟨fun a U g mk q => by obtain ⟨q0, q1, qP, qK, qD⟩ := q; exact ⟨q0, q1, qP, va_K.moved (u := U) (U := U.calling g mk a) (Vm.Alike.refl U.vm) qK, qD⟩, va_recv hKc hPc (ci := 12) (q0 := 0) rfl rfl, fun U hU hW => ⟨rfl, by rw [hU], by rw [hU]; exact hPc, va_K.moved hW.alike hKc, hDc.weaken (fun _ _ _ _ => trivial)⟩⟩ rfl rfl hl.1 rfl (lv_room (Nat.le_of_ble_eq_true rfl)) dX12_readOffice_152 ⟨Nat.le_of_ble_eq_true rfl, Nat.le_of_ble_eq_true rfl⟩) hS (fun q _ h => hFc q h) hFc (fun u t H1 locs ht hvm hwra65 hB hz1 hk1 hS => ?_)
            obtain ⟨x66, oa_x66, ob_x66, pt0_ra65, hP1, hK1, hD1⟩ := hB
            rw [ht] at hP1
            obtain ⟨hP, hD⟩ := va_join (wr := (wd_bcaf9cf2 h1 g0 f20 h2 g1 fn47 h3 g2 fn48)) (w1 := (wd_171f232f h0 v0 h1 v1 x62 x66 v4 r0 r1 r2 r3 r4 r5 r6 v5 v6 r7 r8 h2 h3 x46 r9 r10 v8 v9 r11 r12 v10 v11 r13 v12 v13 r14 v14 w15 r15 v16 v17 r16 r17 r18 r19 r20 r21 v18 r22 r23 r24 v19)) hP hD [0] [1, 2, 3] rfl rfl (by decide) (by decide) hk1 hFc hP1 hD1
            generalize H1 = H at hP hS ⊢
            have hP := hP.sub (ws' := (wd_77d3d1bb h0 v0 h1 v1 x62 x66 v4 r0 r1 r2 r3 r4 r5 r6 v5 v6 r7 r8 h2 h3 x46 r9 r10 v8 v9 r11 r12 v10 v11 r13 v12 v13 r14 v14 w15 r15 v16 v17 r16 r17 r18 r19 r20 r21 v18 r22 r23 r24 v19 h1 g0 f20 h2 g1 fn47 h3 g2 fn48)) [3, 0, 1, 2] rfl
            have hD := hD.sub (ws' := (wd_77d3d1bb h0 v0 h1 v1 x62 x66 v4 r0 r1 r2 r3 r4 r5 r6 v5 v6 r7 r8 h2 h3 x46 r9 r10 v8 v9 r11 r12 v10 v11 r13 v12 v13 r14 v14 w15 r15 v16 v17 r16 r17 r18 r19 r20 r21 v18 r22 r23 r24 v19 h1 g0 f20 h2 g1 fn47 h3 g2 fn48)) [3, 0, 1, 2] (by decide) rfl
            have hP : va_P (dC, dI) vwCl (wd_77d3d1bb h0 v0 h1 v1 x62 x66 v4 r0 r1 r2 r3 r4 r5 r6 v5 v6 r7 r8 h2 h3 x46 r9 r10 v8 v9 r11 r12 v10 v11 r13 v12 v13 r14 v14 w15 r15 v16 v17 r16 r17 r18 r19 r20 r21 v18 r22 r23 r24 v19 h1 g0 f20 h2 g1 fn47 h3 g2 fn48) H := hP
            have hD : va_D A (wd_77d3d1bb h0 v0 h1 v1 x62 x66 v4 r0 r1 r2 r3 r4 r5 r6 v5 v6 r7 r8 h2 h3 x46 r9 r10 v8 v9 r11 r12 v10 v11 r13 v12 v13 r14 v14 w15 r15 v16 v17 r16 r17 r18 r19 r20 r21 v18 r22 r23 r24 v19 h1 g0 f20 h2 g1 fn47 h3 g2 fn48) := hD
            refine lv_aload_n hx hb dX12_readOffice_155 rfl (lv_at hl 3 rfl) ?_
            refine va_get (D := (dC, dI)) (ci := 12) (v := .int x66) (C := RX12) (T := TX12) (N := 48) hx hb hts (fun _ h => List.mem_cons_of_mem _ (List.mem_append_right _ h)) hown hK hP 0 rfl rfl 4 (by decide) (hts (.fieldLink RX12 119 "LeftArgumentsModel" "wrong" "I") (List.mem_cons_of_mem _ (List.mem_append_left _ (List.mem_of_getElem? (i := 1) rfl)))) (fun _ h9 => h9) rfl dX12_readOffice_156 ?_
            refine lv_iconst (v := (-1)) hx hb dX12_readOffice_159 (by decide) ?_
            refine lv_icmp_ne (tgt := 176) hx hb dX12_readOffice_160 (by decide) (fun _ => ?_) (fun c67 => by exfalso; have fc67 : x66.toInt = (-1) := congrArg Int32.toInt c67; omega)
            refine lv_iconst (v := 0) hx hb dX12_readOffice_176 (by decide) ?_
            refine lv_istore_n (lv' := [(2, .int 0), (3, .int ra55), (1, .int x44), (0, .ref h0)]) hx hb dX12_readOffice_177 rfl hl (by decide) rfl (fun ls hl => ?_)
            refine lv_aload_n hx hb dX12_readOffice_178 rfl (lv_at hl 3 rfl) ?_
            refine lv_dup hx hb dX12_readOffice_179 rfl ?_
            refine va_get (D := (dC, dI)) (ci := 12) (v := .int x62) (C := RX12) (T := TX12) (N := 48) hx hb hts (fun _ h => List.mem_cons_of_mem _ (List.mem_append_right _ h)) hown hK hP 0 rfl rfl 3 (by decide) (hts (.fieldLink RX12 112 "LeftArgumentsModel" "at" "I") (List.mem_cons_of_mem _ (List.mem_append_left _ (List.mem_of_getElem? (i := 0) rfl)))) (fun _ h9 => h9) rfl dX12_readOffice_180 ?_
            refine lv_iload_n hx hb dX12_readOffice_183 rfl (lv_at hl 0 rfl) ?_
            refine lv_if_eq (tgt := 191) hx hb dX12_readOffice_184 (by decide) (fun _ => ?_) (fun c => absurd (by decide) c)
            refine lv_iconst (v := 0) hx hb dX12_readOffice_191 (by decide) ?_
            refine lv_iadd hx hb dX12_readOffice_192 ?_
            refine lv_topi (fun t68 et68 => ?_)
            have gt68 : t68.toInt = x62.toInt + 0 := pv_add (a := x62.toInt) (b := 0) et68 rfl (by decide) (by omega) (by omega)
            refine va_put (D := (dC, dI)) (ci := 12) (v := .int t68) (ty := .int) (C := RX12) (T := TX12) (N := 48) hx hb hts (fun _ h => List.mem_cons_of_mem _ (List.mem_append_right _ h)) tyX12 tyX12_ok nmX12 hown hK hP hD hS 0 rfl rfl 3 (by decide) (hts (.fieldLink RX12 112 "LeftArgumentsModel" "at" "I") (List.mem_cons_of_mem _ (List.mem_append_left _ (List.mem_of_getElem? (i := 0) rfl)))) (fun _ h9 => h9) rfl (by decide +kernel) rfl rfl (Nat.le_of_ble_eq_true rfl) dX12_readOffice_193 (fun H locs hP hD hS => ?_)
            have hP : va_P (dC, dI) vwCl (wd_77d3d1bb h0 v0 h1 v1 t68 x66 v4 r0 r1 r2 r3 r4 r5 r6 v5 v6 r7 r8 h2 h3 x46 r9 r10 v8 v9 r11 r12 v10 v11 r13 v12 v13 r14 v14 w15 r15 v16 v17 r16 r17 r18 r19 r20 r21 v18 r22 r23 r24 v19 h1 g0 f20 h2 g1 fn47 h3 g2 fn48) H := hP
            have hD : va_D A (wd_77d3d1bb h0 v0 h1 v1 t68 x66 v4 r0 r1 r2 r3 r4 r5 r6 v5 v6 r7 r8 h2 h3 x46 r9 r10 v8 v9 r11 r12 v10 v11 r13 v12 v13 r14 v14 w15 r15 v16 v17 r16 r17 r18 r19 r20 r21 v18 r22 r23 r24 v19 h1 g0 f20 h2 g1 fn47 h3 g2 fn48) := hD
            refine lv_goto (tgt := 44) hx hb dX12_readOffice_196 (by decide) ?_
            refine lv_iload_n hx hb dX12_readOffice_44 rfl (lv_at hl 0 rfl) ?_
            refine lv_if_eq (tgt := 199) hx hb dX12_readOffice_45 (by decide) (fun _ => ?_) (fun c => absurd (by decide) c)
            refine lv_aload_n hx hb dX12_readOffice_199 rfl (lv_at hl 3 rfl) ?_
            refine va_get (D := (dC, dI)) (ci := 12) (v := .int x66) (C := RX12) (T := TX12) (N := 48) hx hb hts (fun _ h => List.mem_cons_of_mem _ (List.mem_append_right _ h)) hown hK hP 0 rfl rfl 4 (by decide) (hts (.fieldLink RX12 119 "LeftArgumentsModel" "wrong" "I") (List.mem_cons_of_mem _ (List.mem_append_left _ (List.mem_of_getElem? (i := 1) rfl)))) (fun _ h9 => h9) rfl dX12_readOffice_200 ?_
            refine lv_iconst (v := (-1)) hx hb dX12_readOffice_203 (by decide) ?_
            refine lv_icmp_ne (tgt := 226) hx hb dX12_readOffice_204 (by decide) (fun _ => ?_) (fun c69 => by exfalso; have fc69 : x66.toInt = (-1) := congrArg Int32.toInt c69; omega)
            refine lv_aload_n hx hb dX12_readOffice_226 rfl (lv_at hl 3 rfl) ?_
            refine va_get (D := (dC, dI)) (ci := 12) (v := .int x66) (C := RX12) (T := TX12) (N := 48) hx hb hts (fun _ h => List.mem_cons_of_mem _ (List.mem_append_right _ h)) hown hK hP 0 rfl rfl 4 (by decide) (hts (.fieldLink RX12 119 "LeftArgumentsModel" "wrong" "I") (List.mem_cons_of_mem _ (List.mem_append_left _ (List.mem_of_getElem? (i := 1) rfl)))) (fun _ h9 => h9) rfl dX12_readOffice_227 ?_
            subst hQ
            have hP9 := hP.sub (ws' := (wd_77d3d1bb h0 v0 h1 v1 t68 x66 v4 r0 r1 r2 r3 r4 r5 r6 v5 v6 r7 r8 h2 h3 x46 r9 r10 v8 v9 r11 r12 v10 v11 r13 v12 v13 r14 v14 w15 r15 v16 v17 r16 r17 r18 r19 r20 r21 v18 r22 r23 r24 v19 h1 g0 f20 h2 g1 fn47 h3 g2 fn48)) [0, 1, 2, 3] rfl
            have hD9 := hD.sub (ws' := (wd_77d3d1bb h0 v0 h1 v1 t68 x66 v4 r0 r1 r2 r3 r4 r5 r6 v5 v6 r7 r8 h2 h3 x46 r9 r10 v8 v9 r11 r12 v10 v11 r13 v12 v13 r14 v14 w15 r15 v16 v17 r16 r17 r18 r19 r20 r21 v18 r22 r23 r24 v19 h1 g0 f20 h2 g1 fn47 h3 g2 fn48)) [0, 1, 2, 3] (by decide) rfl
            have hK9 := hK.sub (tys' := []) [] rfl
            exact W.iret (v := x66) hx hb hr (fun t ht hW => ⟨⟨x66, x66, rfl, rfl, Or.inr (⟨t68, x66, x46, fn47, fn48, by first | omega | decide, by first | omega | decide, by first | omega | decide, by first | omega | decide, by first | omega | decide, by first | omega | decide, by first | omega | decide, by first | omega | decide, by first | (apply pg_office.b0 (R := f21) (B := f22) <;> first | assumption | omega | (apply pg_O.sf <;> first | assumption | omega) | (apply pg_O.bf <;> first | assumption | omega) | (apply pg_O.w <;> first | assumption | omega)) | (apply pg_office.b1 (R := f21) (B := f22) <;> first | assumption | omega | (apply pg_O.s0 <;> first | assumption | omega) | (apply pg_O.b0 <;> first | assumption | omega)) | (apply pg_office.b2 (R := f21) (B := f22) <;> first | assumption | omega | (apply pg_O.s0 <;> first | assumption | omega) | (apply pg_O.b0 <;> first | assumption | omega)), by omega, by rw [ht]; exact hP9, va_K.moved hW.alike hK9, hD9⟩)⟩, hS.F ht⟩) hS.2.2 dX12_readOffice_230
          · skip
            have fc64 : ra55.toInt = 98 := congrArg Int32.toInt c64
            obtain rfl : ra55 = (98 : Int32) := Int32.toInt_inj.mp (by rw [show ((98 : Int32)).toInt = 98 by decide]; omega)
            refine lv_aload_n hx hb dX12_readOffice_103 rfl (lv_at hl 3 rfl) ?_
            refine va_get (D := (dC, dI)) (ci := 12) (v := .int x46) (C := RX12) (T := TX12) (N := 48) hx hb hts (fun _ h => List.mem_cons_of_mem _ (List.mem_append_right _ h)) hown hK hP 0 rfl rfl 19 (by decide) (hts (.fieldLink RX12 241 "LeftArgumentsModel" "readBags" "I") (List.mem_cons_of_mem _ (List.mem_append_left _ (List.mem_of_getElem? (i := 2) rfl)))) (fun _ h9 => h9) rfl dX12_readOffice_104 ?_
            refine lv_bipush (v := 8) hx hb dX12_readOffice_107 (by decide) ?_
            refine lv_icmp_ge (tgt := 151) hx hb dX12_readOffice_109 (by decide) (fun c70 => ?_) (fun c70 => ?_)
            · skip
              have fc70 : 8 ≤ x46.toInt := Int32.le_iff_toInt_le.mp c70
              refine lv_aload_n hx hb dX12_readOffice_151 rfl (lv_at hl 3 rfl) ?_
              have hPc := hP.sub (ws' := (wd_171f232f h0 v0 h1 v1 x62 (-1) v4 r0 r1 r2 r3 r4 r5 r6 v5 v6 r7 r8 h2 h3 x46 r9 r10 v8 v9 r11 r12 v10 v11 r13 v12 v13 r14 v14 w15 r15 v16 v17 r16 r17 r18 r19 r20 r21 v18 r22 r23 r24 v19)) [0] rfl
              have hDc := hD.sub (ws' := (wd_171f232f h0 v0 h1 v1 x62 (-1) v4 r0 r1 r2 r3 r4 r5 r6 v5 v6 r7 r8 h2 h3 x46 r9 r10 v8 v9 r11 r12 v10 v11 r13 v12 v13 r14 v14 w15 r15 v16 v17 r16 r17 r18 r19 r20 r21 v18 r22 r23 r24 v19)) [0] (by decide) rfl
              have hKc := hK.sub (tys' := []) [] rfl
              have hFc := va_free (wc := (wd_171f232f h0 v0 h1 v1 x62 (-1) v4 r0 r1 r2 r3 r4 r5 r6 v5 v6 r7 r8 h2 h3 x46 r9 r10 v8 v9 r11 r12 v10 v11 r13 v12 v13 r14 v14 w15 r15 v16 v17 r16 r17 r18 r19 r20 r21 v18 r22 r23 r24 v19)) hD hS hA [0] rfl
              refine va_callv (va_runV (As := []) (rest := []) ⟨hx, hb, hml, hown, hts⟩ (k_X12_bad l dC dI h0 v0 h1 v1 x62 v4 r0 r1 r2 r3 r4 r5 r6 v5 v6 r7 r8 h2 h3 x46 r9 r10 v8 v9 r11 r12 v10 v11 r13 v12 v13 r14 v14 w15 r15 v16 v17 r16 r17 r18 r19 r20 r21 v18 r22 r23 r24 v19 ⟨by first | omega | decide, by first | omega | decide⟩ ⟨by first | omega | decide, by first | omega | decide⟩ ⟨by first | omega | decide, by first | omega | decide⟩ ⟨by first | omega | decide, by first | omega | decide⟩ ⟨by first | omega | decide, by first | omega | decide⟩ ⟨by first | omega | decide, by first | omega | decide⟩ ⟨by first | omega | decide, by first | omega | decide⟩ ⟨by first | omega | decide, by first | omega | decide⟩ ⟨by first | omega | decide, by first | omega | decide⟩ ⟨by first | omega | decide, by first | omega | decide⟩ ⟨by first | omega | decide, by first | omega | decide⟩ H.size) (cwV 0 hts g_X12_readOffice_5 rfl rfl rfl (by decide +kernel) ⟨Nat.le_of_ble_eq_true rfl, Nat.le_of_ble_eq_true rfl⟩) ⟨fun a U g mk q => by obtain ⟨q0, q1, qP, qK, qD⟩ := q; exact ⟨q0, q1, qP, va_K.moved (u := U) (U := U.calling g mk a) (Vm.Alike.refl U.vm) qK, qD⟩, va_recv hKc hPc (ci := 12) (q0 := 0) rfl rfl, fun U hU hW => ⟨rfl, by rw [hU], by rw [hU]; exact hPc, va_K.moved hW.alike hKc, hDc.weaken (fun _ _ _ _ => trivial)⟩⟩ rfl rfl hl.1 rfl (lv_room (Nat.le_of_ble_eq_true rfl)) dX12_readOffice_152 ⟨Nat.le_of_ble_eq_true rfl, Nat.le_of_ble_eq_true rfl⟩) hS (fun q _ h => hFc q h) hFc (fun u t H1 locs ht hvm hwra71 hB hz1 hk1 hS => ?_)
              obtain ⟨x72, oa_x72, ob_x72, pt0_ra71, hP1, hK1, hD1⟩ := hB
              rw [ht] at hP1
              obtain ⟨hP, hD⟩ := va_join (wr := (wd_bcaf9cf2 h1 g0 f20 h2 g1 fn47 h3 g2 fn48)) (w1 := (wd_171f232f h0 v0 h1 v1 x62 x72 v4 r0 r1 r2 r3 r4 r5 r6 v5 v6 r7 r8 h2 h3 x46 r9 r10 v8 v9 r11 r12 v10 v11 r13 v12 v13 r14 v14 w15 r15 v16 v17 r16 r17 r18 r19 r20 r21 v18 r22 r23 r24 v19)) hP hD [0] [1, 2, 3] rfl rfl (by decide) (by decide) hk1 hFc hP1 hD1
              generalize H1 = H at hP hS ⊢
              have hP := hP.sub (ws' := (wd_77d3d1bb h0 v0 h1 v1 x62 x72 v4 r0 r1 r2 r3 r4 r5 r6 v5 v6 r7 r8 h2 h3 x46 r9 r10 v8 v9 r11 r12 v10 v11 r13 v12 v13 r14 v14 w15 r15 v16 v17 r16 r17 r18 r19 r20 r21 v18 r22 r23 r24 v19 h1 g0 f20 h2 g1 fn47 h3 g2 fn48)) [3, 0, 1, 2] rfl
              have hD := hD.sub (ws' := (wd_77d3d1bb h0 v0 h1 v1 x62 x72 v4 r0 r1 r2 r3 r4 r5 r6 v5 v6 r7 r8 h2 h3 x46 r9 r10 v8 v9 r11 r12 v10 v11 r13 v12 v13 r14 v14 w15 r15 v16 v17 r16 r17 r18 r19 r20 r21 v18 r22 r23 r24 v19 h1 g0 f20 h2 g1 fn47 h3 g2 fn48)) [3, 0, 1, 2] (by decide) rfl
              have hP : va_P (dC, dI) vwCl (wd_77d3d1bb h0 v0 h1 v1 x62 x72 v4 r0 r1 r2 r3 r4 r5 r6 v5 v6 r7 r8 h2 h3 x46 r9 r10 v8 v9 r11 r12 v10 v11 r13 v12 v13 r14 v14 w15 r15 v16 v17 r16 r17 r18 r19 r20 r21 v18 r22 r23 r24 v19 h1 g0 f20 h2 g1 fn47 h3 g2 fn48) H := hP
              have hD : va_D A (wd_77d3d1bb h0 v0 h1 v1 x62 x72 v4 r0 r1 r2 r3 r4 r5 r6 v5 v6 r7 r8 h2 h3 x46 r9 r10 v8 v9 r11 r12 v10 v11 r13 v12 v13 r14 v14 w15 r15 v16 v17 r16 r17 r18 r19 r20 r21 v18 r22 r23 r24 v19 h1 g0 f20 h2 g1 fn47 h3 g2 fn48) := hD
              refine lv_aload_n hx hb dX12_readOffice_155 rfl (lv_at hl 3 rfl) ?_
              refine va_get (D := (dC, dI)) (ci := 12) (v := .int x72) (C := RX12) (T := TX12) (N := 48) hx hb hts (fun _ h => List.mem_cons_of_mem _ (List.mem_append_right _ h)) hown hK hP 0 rfl rfl 4 (by decide) (hts (.fieldLink RX12 119 "LeftArgumentsModel" "wrong" "I") (List.mem_cons_of_mem _ (List.mem_append_left _ (List.mem_of_getElem? (i := 1) rfl)))) (fun _ h9 => h9) rfl dX12_readOffice_156 ?_
              refine lv_iconst (v := (-1)) hx hb dX12_readOffice_159 (by decide) ?_
              refine lv_icmp_ne (tgt := 176) hx hb dX12_readOffice_160 (by decide) (fun _ => ?_) (fun c73 => by exfalso; have fc73 : x72.toInt = (-1) := congrArg Int32.toInt c73; omega)
              refine lv_iconst (v := 0) hx hb dX12_readOffice_176 (by decide) ?_
              refine lv_istore_n (lv' := [(2, .int 0), (3, .int 98), (1, .int x44), (0, .ref h0)]) hx hb dX12_readOffice_177 rfl hl (by decide) rfl (fun ls hl => ?_)
              refine lv_aload_n hx hb dX12_readOffice_178 rfl (lv_at hl 3 rfl) ?_
              refine lv_dup hx hb dX12_readOffice_179 rfl ?_
              refine va_get (D := (dC, dI)) (ci := 12) (v := .int x62) (C := RX12) (T := TX12) (N := 48) hx hb hts (fun _ h => List.mem_cons_of_mem _ (List.mem_append_right _ h)) hown hK hP 0 rfl rfl 3 (by decide) (hts (.fieldLink RX12 112 "LeftArgumentsModel" "at" "I") (List.mem_cons_of_mem _ (List.mem_append_left _ (List.mem_of_getElem? (i := 0) rfl)))) (fun _ h9 => h9) rfl dX12_readOffice_180 ?_
              refine lv_iload_n hx hb dX12_readOffice_183 rfl (lv_at hl 0 rfl) ?_
              refine lv_if_eq (tgt := 191) hx hb dX12_readOffice_184 (by decide) (fun _ => ?_) (fun c => absurd (by decide) c)
              refine lv_iconst (v := 0) hx hb dX12_readOffice_191 (by decide) ?_
              refine lv_iadd hx hb dX12_readOffice_192 ?_
              refine lv_topi (fun t74 et74 => ?_)
              have gt74 : t74.toInt = x62.toInt + 0 := pv_add (a := x62.toInt) (b := 0) et74 rfl (by decide) (by omega) (by omega)
              refine va_put (D := (dC, dI)) (ci := 12) (v := .int t74) (ty := .int) (C := RX12) (T := TX12) (N := 48) hx hb hts (fun _ h => List.mem_cons_of_mem _ (List.mem_append_right _ h)) tyX12 tyX12_ok nmX12 hown hK hP hD hS 0 rfl rfl 3 (by decide) (hts (.fieldLink RX12 112 "LeftArgumentsModel" "at" "I") (List.mem_cons_of_mem _ (List.mem_append_left _ (List.mem_of_getElem? (i := 0) rfl)))) (fun _ h9 => h9) rfl (by decide +kernel) rfl rfl (Nat.le_of_ble_eq_true rfl) dX12_readOffice_193 (fun H locs hP hD hS => ?_)
              have hP : va_P (dC, dI) vwCl (wd_77d3d1bb h0 v0 h1 v1 t74 x72 v4 r0 r1 r2 r3 r4 r5 r6 v5 v6 r7 r8 h2 h3 x46 r9 r10 v8 v9 r11 r12 v10 v11 r13 v12 v13 r14 v14 w15 r15 v16 v17 r16 r17 r18 r19 r20 r21 v18 r22 r23 r24 v19 h1 g0 f20 h2 g1 fn47 h3 g2 fn48) H := hP
              have hD : va_D A (wd_77d3d1bb h0 v0 h1 v1 t74 x72 v4 r0 r1 r2 r3 r4 r5 r6 v5 v6 r7 r8 h2 h3 x46 r9 r10 v8 v9 r11 r12 v10 v11 r13 v12 v13 r14 v14 w15 r15 v16 v17 r16 r17 r18 r19 r20 r21 v18 r22 r23 r24 v19 h1 g0 f20 h2 g1 fn47 h3 g2 fn48) := hD
              refine lv_goto (tgt := 44) hx hb dX12_readOffice_196 (by decide) ?_
              refine lv_iload_n hx hb dX12_readOffice_44 rfl (lv_at hl 0 rfl) ?_
              refine lv_if_eq (tgt := 199) hx hb dX12_readOffice_45 (by decide) (fun _ => ?_) (fun c => absurd (by decide) c)
              refine lv_aload_n hx hb dX12_readOffice_199 rfl (lv_at hl 3 rfl) ?_
              refine va_get (D := (dC, dI)) (ci := 12) (v := .int x72) (C := RX12) (T := TX12) (N := 48) hx hb hts (fun _ h => List.mem_cons_of_mem _ (List.mem_append_right _ h)) hown hK hP 0 rfl rfl 4 (by decide) (hts (.fieldLink RX12 119 "LeftArgumentsModel" "wrong" "I") (List.mem_cons_of_mem _ (List.mem_append_left _ (List.mem_of_getElem? (i := 1) rfl)))) (fun _ h9 => h9) rfl dX12_readOffice_200 ?_
              refine lv_iconst (v := (-1)) hx hb dX12_readOffice_203 (by decide) ?_
              refine lv_icmp_ne (tgt := 226) hx hb dX12_readOffice_204 (by decide) (fun _ => ?_) (fun c75 => by exfalso; have fc75 : x72.toInt = (-1) := congrArg Int32.toInt c75; omega)
              refine lv_aload_n hx hb dX12_readOffice_226 rfl (lv_at hl 3 rfl) ?_
              refine va_get (D := (dC, dI)) (ci := 12) (v := .int x72) (C := RX12) (T := TX12) (N := 48) hx hb hts (fun _ h => List.mem_cons_of_mem _ (List.mem_append_right _ h)) hown hK hP 0 rfl rfl 4 (by decide) (hts (.fieldLink RX12 119 "LeftArgumentsModel" "wrong" "I") (List.mem_cons_of_mem _ (List.mem_append_left _ (List.mem_of_getElem? (i := 1) rfl)))) (fun _ h9 => h9) rfl dX12_readOffice_227 ?_
              subst hQ
              have hP9 := hP.sub (ws' := (wd_77d3d1bb h0 v0 h1 v1 t74 x72 v4 r0 r1 r2 r3 r4 r5 r6 v5 v6 r7 r8 h2 h3 x46 r9 r10 v8 v9 r11 r12 v10 v11 r13 v12 v13 r14 v14 w15 r15 v16 v17 r16 r17 r18 r19 r20 r21 v18 r22 r23 r24 v19 h1 g0 f20 h2 g1 fn47 h3 g2 fn48)) [0, 1, 2, 3] rfl
              have hD9 := hD.sub (ws' := (wd_77d3d1bb h0 v0 h1 v1 t74 x72 v4 r0 r1 r2 r3 r4 r5 r6 v5 v6 r7 r8 h2 h3 x46 r9 r10 v8 v9 r11 r12 v10 v11 r13 v12 v13 r14 v14 w15 r15 v16 v17 r16 r17 r18 r19 r20 r21 v18 r22 r23 r24 v19 h1 g0 f20 h2 g1 fn47 h3 g2 fn48)) [0, 1, 2, 3] (by decide) rfl
              have hK9 := hK.sub (tys' := []) [] rfl
              exact W.iret (v := x72) hx hb hr (fun t ht hW => ⟨⟨x72, x72, rfl, rfl, Or.inr (⟨t74, x72, x46, fn47, fn48, by first | omega | decide, by first | omega | decide, by first | omega | decide, by first | omega | decide, by first | omega | decide, by first | omega | decide, by first | omega | decide, by first | omega | decide, by first | (apply pg_office.b0 (R := f21) (B := f22) <;> first | assumption | omega | (apply pg_O.sf <;> first | assumption | omega) | (apply pg_O.bf <;> first | assumption | omega) | (apply pg_O.w <;> first | assumption | omega)) | (apply pg_office.b1 (R := f21) (B := f22) <;> first | assumption | omega | (apply pg_O.s0 <;> first | assumption | omega) | (apply pg_O.b0 <;> first | assumption | omega)) | (apply pg_office.b2 (R := f21) (B := f22) <;> first | assumption | omega | (apply pg_O.s0 <;> first | assumption | omega) | (apply pg_O.b0 <;> first | assumption | omega)), by omega, by rw [ht]; exact hP9, va_K.moved hW.alike hK9, hD9⟩)⟩, hS.F ht⟩) hS.2.2 dX12_readOffice_230
            · skip
              have fc70 : ¬ (8 ≤ x46.toInt) := fun h9 => c70 (Int32.le_iff_toInt_le.mpr h9)
              refine lv_aload_n hx hb dX12_readOffice_112 rfl (lv_at hl 3 rfl) ?_
              refine lv_dup hx hb dX12_readOffice_113 rfl ?_
              refine va_get (D := (dC, dI)) (ci := 12) (v := .int x62) (C := RX12) (T := TX12) (N := 48) hx hb hts (fun _ h => List.mem_cons_of_mem _ (List.mem_append_right _ h)) hown hK hP 0 rfl rfl 3 (by decide) (hts (.fieldLink RX12 112 "LeftArgumentsModel" "at" "I") (List.mem_cons_of_mem _ (List.mem_append_left _ (List.mem_of_getElem? (i := 0) rfl)))) (fun _ h9 => h9) rfl dX12_readOffice_114 ?_
              refine lv_iconst (v := 1) hx hb dX12_readOffice_117 (by decide) ?_
              refine lv_iadd hx hb dX12_readOffice_118 ?_
              refine lv_topi (fun t76 et76 => ?_)
              have gt76 : t76.toInt = x62.toInt + 1 := pv_add (a := x62.toInt) (b := 1) et76 rfl (by decide) (by omega) (by omega)
              refine va_put (D := (dC, dI)) (ci := 12) (v := .int t76) (ty := .int) (C := RX12) (T := TX12) (N := 48) hx hb hts (fun _ h => List.mem_cons_of_mem _ (List.mem_append_right _ h)) tyX12 tyX12_ok nmX12 hown hK hP hD hS 0 rfl rfl 3 (by decide) (hts (.fieldLink RX12 112 "LeftArgumentsModel" "at" "I") (List.mem_cons_of_mem _ (List.mem_append_left _ (List.mem_of_getElem? (i := 0) rfl)))) (fun _ h9 => h9) rfl (by decide +kernel) rfl rfl (Nat.le_of_ble_eq_true rfl) dX12_readOffice_119 (fun H locs hP hD hS => ?_)
              have hP : va_P (dC, dI) vwCl (wd_77d3d1bb h0 v0 h1 v1 t76 (-1) v4 r0 r1 r2 r3 r4 r5 r6 v5 v6 r7 r8 h2 h3 x46 r9 r10 v8 v9 r11 r12 v10 v11 r13 v12 v13 r14 v14 w15 r15 v16 v17 r16 r17 r18 r19 r20 r21 v18 r22 r23 r24 v19 h1 g0 f20 h2 g1 fn47 h3 g2 fn48) H := hP
              have hD : va_D A (wd_77d3d1bb h0 v0 h1 v1 t76 (-1) v4 r0 r1 r2 r3 r4 r5 r6 v5 v6 r7 r8 h2 h3 x46 r9 r10 v8 v9 r11 r12 v10 v11 r13 v12 v13 r14 v14 w15 r15 v16 v17 r16 r17 r18 r19 r20 r21 v18 r22 r23 r24 v19 h1 g0 f20 h2 g1 fn47 h3 g2 fn48) := hD
              refine lv_aload_n hx hb dX12_readOffice_122 rfl (lv_at hl 3 rfl) ?_
              refine lv_iload_n hx hb dX12_readOffice_123 rfl (lv_at hl 0 rfl) ?_
              refine lv_aload_n hx hb dX12_readOffice_124 rfl (lv_at hl 3 rfl) ?_
              refine va_get (D := (dC, dI)) (ci := 12) (v := .ref h3) (C := RX12) (T := TX12) (N := 48) hx hb hts (fun _ h => List.mem_cons_of_mem _ (List.mem_append_right _ h)) hown hK hP 0 rfl rfl 18 (by decide) (hts (.fieldLink RX12 43 "LeftArgumentsModel" "readBag" "[I") (List.mem_cons_of_mem _ (List.mem_append_left _ (List.mem_of_getElem? (i := 22) rfl)))) (fun _ h9 => h9) rfl dX12_readOffice_125 ?_
              refine lv_iconst (v := 5) hx hb dX12_readOffice_128 (by decide) ?_
              refine lv_aload_n hx hb dX12_readOffice_129 rfl (lv_at hl 3 rfl) ?_
              refine va_get (D := (dC, dI)) (ci := 12) (v := .int x46) (C := RX12) (T := TX12) (N := 48) hx hb hts (fun _ h => List.mem_cons_of_mem _ (List.mem_append_right _ h)) hown hK hP 0 rfl rfl 19 (by decide) (hts (.fieldLink RX12 241 "LeftArgumentsModel" "readBags" "I") (List.mem_cons_of_mem _ (List.mem_append_left _ (List.mem_of_getElem? (i := 2) rfl)))) (fun _ h9 => h9) rfl dX12_readOffice_130 ?_
              refine lv_imul hx hb dX12_readOffice_133 ?_
              refine lv_topi (fun t77 et77 => ?_)
              have gt77 : t77.toInt = 5 * x46.toInt := pv_mul (a := 5) (b := x46.toInt) et77 (by decide) rfl (by omega) (by omega)
              refine lv_iconst (v := 5) hx hb dX12_readOffice_134 (by decide) ?_
              have hPc := hP.sub (ws' := (wd_b9c2d44b h0 v0 h1 v1 t76 (-1) v4 r0 r1 r2 r3 r4 r5 r6 v5 v6 r7 r8 h2 h3 x46 r9 r10 v8 v9 r11 r12 v10 v11 r13 v12 v13 r14 v14 w15 r15 v16 v17 r16 r17 r18 r19 r20 r21 v18 r22 r23 r24 v19 h1 g0 f20 h3 g2 fn48)) [0, 1, 3] rfl
              have hDc := hD.sub (ws' := (wd_b9c2d44b h0 v0 h1 v1 t76 (-1) v4 r0 r1 r2 r3 r4 r5 r6 v5 v6 r7 r8 h2 h3 x46 r9 r10 v8 v9 r11 r12 v10 v11 r13 v12 v13 r14 v14 w15 r15 v16 v17 r16 r17 r18 r19 r20 r21 v18 r22 r23 r24 v19 h1 g0 f20 h3 g2 fn48)) [0, 1, 3] (by decide) rfl
              have hKc := hK.sub (tys' := [(g0, .int), (g2, .int)]) [0, 2] rfl
              have hFc := va_free (wc := (wd_b9c2d44b h0 v0 h1 v1 t76 (-1) v4 r0 r1 r2 r3 r4 r5 r6 v5 v6 r7 r8 h2 h3 x46 r9 r10 v8 v9 r11 r12 v10 v11 r13 v12 v13 r14 v14 w15 r15 v16 v17 r16 r17 r18 r19 r20 r21 v18 r22 r23 r24 v19 h1 g0 f20 h3 g2 fn48)) hD hS hA [0, 1, 3] rfl
              refine va_callv (va_runV (As := [.int 98, .ref h3, .int t77, .int 5]) (rest := []) ⟨hx, hb, hml, hown, hts⟩ (k_X12_items_2 l dC dI h0 h1 h3 v0 v1 t76 v4 r0 r1 r2 r3 r4 r5 r6 v5 v6 r7 r8 h2 x46 r9 r10 v8 v9 r11 r12 v10 v11 r13 v12 v13 r14 v14 w15 r15 v16 v17 r16 r17 r18 r19 r20 r21 v18 r22 r23 r24 v19 g0 f20 g2 fn48 t77 ⟨by first | omega | decide, by first | omega | decide⟩ ⟨by first | omega | decide, by first | omega | decide⟩ ⟨by first | omega | decide, by first | omega | decide⟩ ⟨by first | omega | decide, by first | omega | decide⟩ ⟨by first | omega | decide, by first | omega | decide⟩ ⟨by first | omega | decide, by first | omega | decide⟩ ⟨by first | omega | decide, by first | omega | decide⟩ ⟨by first | omega | decide, by first | omega | decide⟩ ⟨by first | omega | decide, by first | omega | decide⟩ ⟨by first | omega | decide, by first | omega | decide⟩ ⟨by first | omega | decide, by first | omega | decide⟩ ⟨by first | omega | decide, by first | omega | decide⟩ ia_f20 H.size) (cwV 4 hts g_X12_readOffice_8 rfl rfl rfl (by decide +kernel) ⟨Nat.le_of_ble_eq_true rfl, Nat.le_of_ble_eq_true rfl⟩) ⟨fun a U g mk q => by obtain ⟨q0, q1, qP, qK, qD⟩ := q; exact ⟨q0, q1, qP, va_K.moved (u := U) (U := U.calling g mk a) (Vm.Alike.refl U.vm) qK, qD⟩, va_recv hKc hPc (ci := 12) (q0 := 0) rfl rfl, fun U hU hW => ⟨rfl, by rw [hU], by rw [hU]; exact hPc, va_K.moved hW.alike hKc, hDc.weaken (fun _ _ _ _ => trivial)⟩⟩ rfl rfl hl.1 rfl (lv_room (Nat.le_of_ble_eq_true rfl)) dX12_readOffice_135 ⟨Nat.le_of_ble_eq_true rfl, Nat.le_of_ble_eq_true rfl⟩) hS (fun q _ h => hFc q h) hFc (fun u t H1 locs ht hvm hwra78 hB hz1 hk1 hS => ?_)
              rcases hB with hB | hB
              · skip
                obtain ⟨x79, fn80, oa_x79, ob_x79, pt0_ra78, pt1_ra78, pt2_ra78, hP1, hK1, hD1⟩ := hB
                rw [ht] at hP1
                obtain ⟨hP, hD⟩ := va_join (wr := (wd_6f8f3203 h2 g1 fn47)) (w1 := (wd_b9c2d44b h0 v0 h1 v1 x79 (-1) v4 r0 r1 r2 r3 r4 r5 r6 v5 v6 r7 r8 h2 h3 x46 r9 r10 v8 v9 r11 r12 v10 v11 r13 v12 v13 r14 v14 w15 r15 v16 v17 r16 r17 r18 r19 r20 r21 v18 r22 r23 r24 v19 h1 g0 f20 h3 g2 fn80)) hP hD [0, 1, 3] [2] rfl rfl (by decide) (by decide) hk1 hFc hP1 hD1
                generalize H1 = H at hP hS ⊢
                have hP := hP.sub (ws' := (wd_77d3d1bb h0 v0 h1 v1 x79 (-1) v4 r0 r1 r2 r3 r4 r5 r6 v5 v6 r7 r8 h2 h3 x46 r9 r10 v8 v9 r11 r12 v10 v11 r13 v12 v13 r14 v14 w15 r15 v16 v17 r16 r17 r18 r19 r20 r21 v18 r22 r23 r24 v19 h1 g0 f20 h2 g1 fn47 h3 g2 fn80)) [1, 2, 0, 3] rfl
                have hD := hD.sub (ws' := (wd_77d3d1bb h0 v0 h1 v1 x79 (-1) v4 r0 r1 r2 r3 r4 r5 r6 v5 v6 r7 r8 h2 h3 x46 r9 r10 v8 v9 r11 r12 v10 v11 r13 v12 v13 r14 v14 w15 r15 v16 v17 r16 r17 r18 r19 r20 r21 v18 r22 r23 r24 v19 h1 g0 f20 h2 g1 fn47 h3 g2 fn80)) [1, 2, 0, 3] (by decide) rfl
                have hP : va_P (dC, dI) vwCl (wd_77d3d1bb h0 v0 h1 v1 x79 (-1) v4 r0 r1 r2 r3 r4 r5 r6 v5 v6 r7 r8 h2 h3 x46 r9 r10 v8 v9 r11 r12 v10 v11 r13 v12 v13 r14 v14 w15 r15 v16 v17 r16 r17 r18 r19 r20 r21 v18 r22 r23 r24 v19 h1 g0 f20 h2 g1 fn47 h3 g2 fn80) H := hP
                have hD : va_D A (wd_77d3d1bb h0 v0 h1 v1 x79 (-1) v4 r0 r1 r2 r3 r4 r5 r6 v5 v6 r7 r8 h2 h3 x46 r9 r10 v8 v9 r11 r12 v10 v11 r13 v12 v13 r14 v14 w15 r15 v16 v17 r16 r17 r18 r19 r20 r21 v18 r22 r23 r24 v19 h1 g0 f20 h2 g1 fn47 h3 g2 fn80) := hD
                refine lv_aload_n hx hb dX12_readOffice_138 rfl (lv_at hl 3 rfl) ?_
                refine lv_dup hx hb dX12_readOffice_139 rfl ?_
                refine va_get (D := (dC, dI)) (ci := 12) (v := .int x46) (C := RX12) (T := TX12) (N := 48) hx hb hts (fun _ h => List.mem_cons_of_mem _ (List.mem_append_right _ h)) hown hK hP 0 rfl rfl 19 (by decide) (hts (.fieldLink RX12 241 "LeftArgumentsModel" "readBags" "I") (List.mem_cons_of_mem _ (List.mem_append_left _ (List.mem_of_getElem? (i := 2) rfl)))) (fun _ h9 => h9) rfl dX12_readOffice_140 ?_
                refine lv_iconst (v := 1) hx hb dX12_readOffice_143 (by decide) ?_
                refine lv_iadd hx hb dX12_readOffice_144 ?_
                refine lv_topi (fun t81 et81 => ?_)
                have gt81 : t81.toInt = x46.toInt + 1 := pv_add (a := x46.toInt) (b := 1) et81 rfl (by decide) (by omega) (by omega)
                refine va_put (D := (dC, dI)) (ci := 12) (v := .int t81) (ty := .int) (C := RX12) (T := TX12) (N := 48) hx hb hts (fun _ h => List.mem_cons_of_mem _ (List.mem_append_right _ h)) tyX12 tyX12_ok nmX12 hown hK hP hD hS 0 rfl rfl 19 (by decide) (hts (.fieldLink RX12 241 "LeftArgumentsModel" "readBags" "I") (List.mem_cons_of_mem _ (List.mem_append_left _ (List.mem_of_getElem? (i := 2) rfl)))) (fun _ h9 => h9) rfl (by decide +kernel) rfl rfl (Nat.le_of_ble_eq_true rfl) dX12_readOffice_145 (fun H locs hP hD hS => ?_)
                have hP : va_P (dC, dI) vwCl (wd_77d3d1bb h0 v0 h1 v1 x79 (-1) v4 r0 r1 r2 r3 r4 r5 r6 v5 v6 r7 r8 h2 h3 t81 r9 r10 v8 v9 r11 r12 v10 v11 r13 v12 v13 r14 v14 w15 r15 v16 v17 r16 r17 r18 r19 r20 r21 v18 r22 r23 r24 v19 h1 g0 f20 h2 g1 fn47 h3 g2 fn80) H := hP
                have hD : va_D A (wd_77d3d1bb h0 v0 h1 v1 x79 (-1) v4 r0 r1 r2 r3 r4 r5 r6 v5 v6 r7 r8 h2 h3 t81 r9 r10 v8 v9 r11 r12 v10 v11 r13 v12 v13 r14 v14 w15 r15 v16 v17 r16 r17 r18 r19 r20 r21 v18 r22 r23 r24 v19 h1 g0 f20 h2 g1 fn47 h3 g2 fn80) := hD
                refine lv_goto (tgt := 155) hx hb dX12_readOffice_148 (by decide) ?_
                refine lv_aload_n hx hb dX12_readOffice_155 rfl (lv_at hl 3 rfl) ?_
                refine va_get (D := (dC, dI)) (ci := 12) (v := .int (-1)) (C := RX12) (T := TX12) (N := 48) hx hb hts (fun _ h => List.mem_cons_of_mem _ (List.mem_append_right _ h)) hown hK hP 0 rfl rfl 4 (by decide) (hts (.fieldLink RX12 119 "LeftArgumentsModel" "wrong" "I") (List.mem_cons_of_mem _ (List.mem_append_left _ (List.mem_of_getElem? (i := 1) rfl)))) (fun _ h9 => h9) rfl dX12_readOffice_156 ?_
                refine lv_iconst (v := (-1)) hx hb dX12_readOffice_159 (by decide) ?_
                refine lv_icmp_ne (tgt := 176) hx hb dX12_readOffice_160 (by decide) (fun c => absurd (by decide) c) (fun _ => ?_)
                refine lv_aload_n hx hb dX12_readOffice_163 rfl (lv_at hl 3 rfl) ?_
                have hPc := hP.sub (ws' := (wd_f4cd022e h0 v0 h1 v1 x79 (-1) v4 r0 r1 r2 r3 r4 r5 r6 v5 v6 r7 r8 h2 h3 t81 r9 r10 v8 v9 r11 r12 v10 v11 r13 v12 v13 r14 v14 w15 r15 v16 v17 r16 r17 r18 r19 r20 r21 v18 r22 r23 r24 v19 h1 g0 f20)) [0, 1] rfl
                have hDc := hD.sub (ws' := (wd_f4cd022e h0 v0 h1 v1 x79 (-1) v4 r0 r1 r2 r3 r4 r5 r6 v5 v6 r7 r8 h2 h3 t81 r9 r10 v8 v9 r11 r12 v10 v11 r13 v12 v13 r14 v14 w15 r15 v16 v17 r16 r17 r18 r19 r20 r21 v18 r22 r23 r24 v19 h1 g0 f20)) [0, 1] (by decide) rfl
                have hKc := hK.sub (tys' := [(g0, .int)]) [0] rfl
                have hFc := va_free (wc := (wd_f4cd022e h0 v0 h1 v1 x79 (-1) v4 r0 r1 r2 r3 r4 r5 r6 v5 v6 r7 r8 h2 h3 t81 r9 r10 v8 v9 r11 r12 v10 v11 r13 v12 v13 r14 v14 w15 r15 v16 v17 r16 r17 r18 r19 r20 r21 v18 r22 r23 r24 v19 h1 g0 f20)) hD hS hA [0, 1] rfl
                refine va_calli (va_runV (As := []) (rest := []) ⟨hx, hb, hml, hown, hts⟩ (k_X12_look l dC dI h0 h1 v0 v1 x79 ((-1)) v4 r0 r1 r2 r3 r4 r5 r6 v5 v6 r7 r8 h2 h3 t81 r9 r10 v8 v9 r11 r12 v10 v11 r13 v12 v13 r14 v14 w15 r15 v16 v17 r16 r17 r18 r19 r20 r21 v18 r22 r23 r24 v19 g0 f20 ⟨by first | omega | decide, by first | omega | decide⟩ ⟨by first | omega | decide, by first | omega | decide⟩ ⟨by first | omega | decide, by first | omega | decide⟩ ⟨by first | omega | decide, by first | omega | decide⟩ ⟨by first | omega | decide, by first | omega | decide⟩ ⟨by first | omega | decide, by first | omega | decide⟩ ⟨by first | omega | decide, by first | omega | decide⟩ ⟨by first | omega | decide, by first | omega | decide⟩ ⟨by first | omega | decide, by first | omega | decide⟩ ⟨by first | omega | decide, by first | omega | decide⟩ ⟨by first | omega | decide, by first | omega | decide⟩ ia_f20 H.size) (cwV 0 hts g_X12_readOffice_4 rfl rfl rfl (by decide +kernel) ⟨Nat.le_of_ble_eq_true rfl, Nat.le_of_ble_eq_true rfl⟩) ⟨fun a U g mk q => by obtain ⟨q0, q1, qP, qK, qD⟩ := q; exact ⟨q0, q1, qP, va_K.moved (u := U) (U := U.calling g mk a) (Vm.Alike.refl U.vm) qK, qD⟩, va_recv hKc hPc (ci := 12) (q0 := 0) rfl rfl, fun U hU hW => ⟨rfl, by rw [hU], by rw [hU]; exact hPc, va_K.moved hW.alike hKc, hDc.weaken (fun _ _ _ _ => trivial)⟩⟩ rfl rfl hl.1 rfl (lv_room (Nat.le_of_ble_eq_true rfl)) dX12_readOffice_164 ⟨Nat.le_of_ble_eq_true rfl, Nat.le_of_ble_eq_true rfl⟩) hS (fun q _ h => hFc q h) hFc (fun ra82 u t H1 locs ht hvm hwra82 hB hz1 hk1 hS => ?_)
                try rw [hwra82] at hB
                have hkra82_0 : (((-1) : Int32)).toInt = -1 := by decide
                rcases hB with hB | hB
                · skip
                  obtain ⟨x83, oa_x83, ob_x83, pt0_ra82, pt1_ra82, pt2_ra82, pt3_ra82, pt4_ra82, pt5_ra82, pt6_ra82, hP1, hK1, hD1⟩ := hB
                  rw [ht] at hP1
                  obtain ⟨hP, hD⟩ := va_join (wr := (wd_5ef8c86c h2 g1 fn47 h3 g2 fn80)) (w1 := (wd_f4cd022e h0 v0 h1 v1 x83 (-1) v4 r0 r1 r2 r3 r4 r5 r6 v5 v6 r7 r8 h2 h3 t81 r9 r10 v8 v9 r11 r12 v10 v11 r13 v12 v13 r14 v14 w15 r15 v16 v17 r16 r17 r18 r19 r20 r21 v18 r22 r23 r24 v19 h1 g0 f20)) hP hD [0, 1] [2, 3] rfl rfl (by decide) (by decide) hk1 hFc hP1 hD1
                  generalize H1 = H at hP hS ⊢
                  have hP := hP.sub (ws' := (wd_77d3d1bb h0 v0 h1 v1 x83 (-1) v4 r0 r1 r2 r3 r4 r5 r6 v5 v6 r7 r8 h2 h3 t81 r9 r10 v8 v9 r11 r12 v10 v11 r13 v12 v13 r14 v14 w15 r15 v16 v17 r16 r17 r18 r19 r20 r21 v18 r22 r23 r24 v19 h1 g0 f20 h2 g1 fn47 h3 g2 fn80)) [2, 3, 0, 1] rfl
                  have hD := hD.sub (ws' := (wd_77d3d1bb h0 v0 h1 v1 x83 (-1) v4 r0 r1 r2 r3 r4 r5 r6 v5 v6 r7 r8 h2 h3 t81 r9 r10 v8 v9 r11 r12 v10 v11 r13 v12 v13 r14 v14 w15 r15 v16 v17 r16 r17 r18 r19 r20 r21 v18 r22 r23 r24 v19 h1 g0 f20 h2 g1 fn47 h3 g2 fn80)) [2, 3, 0, 1] (by decide) rfl
                  have hP : va_P (dC, dI) vwCl (wd_77d3d1bb h0 v0 h1 v1 x83 (-1) v4 r0 r1 r2 r3 r4 r5 r6 v5 v6 r7 r8 h2 h3 t81 r9 r10 v8 v9 r11 r12 v10 v11 r13 v12 v13 r14 v14 w15 r15 v16 v17 r16 r17 r18 r19 r20 r21 v18 r22 r23 r24 v19 h1 g0 f20 h2 g1 fn47 h3 g2 fn80) H := hP
                  have hD : va_D A (wd_77d3d1bb h0 v0 h1 v1 x83 (-1) v4 r0 r1 r2 r3 r4 r5 r6 v5 v6 r7 r8 h2 h3 t81 r9 r10 v8 v9 r11 r12 v10 v11 r13 v12 v13 r14 v14 w15 r15 v16 v17 r16 r17 r18 r19 r20 r21 v18 r22 r23 r24 v19 h1 g0 f20 h2 g1 fn47 h3 g2 fn80) := hD
                  obtain rfl : ra82 = ((-1) : Int32) := Int32.toInt_inj.mp (by rw [show (((-1) : Int32)).toInt = -1 by decide]; omega)
                  refine lv_bipush (v := 59) hx hb dX12_readOffice_167 (by decide) ?_
                  refine lv_icmp_ne (tgt := 176) hx hb dX12_readOffice_169 (by decide) (fun _ => ?_) (fun c => absurd c (by decide))
                  refine lv_iconst (v := 0) hx hb dX12_readOffice_176 (by decide) ?_
                  refine lv_istore_n (lv' := [(2, .int 0), (3, .int 98), (1, .int x44), (0, .ref h0)]) hx hb dX12_readOffice_177 rfl hl (by decide) rfl (fun ls hl => ?_)
                  refine lv_aload_n hx hb dX12_readOffice_178 rfl (lv_at hl 3 rfl) ?_
                  refine lv_dup hx hb dX12_readOffice_179 rfl ?_
                  refine va_get (D := (dC, dI)) (ci := 12) (v := .int x83) (C := RX12) (T := TX12) (N := 48) hx hb hts (fun _ h => List.mem_cons_of_mem _ (List.mem_append_right _ h)) hown hK hP 0 rfl rfl 3 (by decide) (hts (.fieldLink RX12 112 "LeftArgumentsModel" "at" "I") (List.mem_cons_of_mem _ (List.mem_append_left _ (List.mem_of_getElem? (i := 0) rfl)))) (fun _ h9 => h9) rfl dX12_readOffice_180 ?_
                  refine lv_iload_n hx hb dX12_readOffice_183 rfl (lv_at hl 0 rfl) ?_
                  refine lv_if_eq (tgt := 191) hx hb dX12_readOffice_184 (by decide) (fun _ => ?_) (fun c => absurd (by decide) c)
                  refine lv_iconst (v := 0) hx hb dX12_readOffice_191 (by decide) ?_
                  refine lv_iadd hx hb dX12_readOffice_192 ?_
                  refine lv_topi (fun t84 et84 => ?_)
                  have gt84 : t84.toInt = x83.toInt + 0 := pv_add (a := x83.toInt) (b := 0) et84 rfl (by decide) (by omega) (by omega)
                  refine va_put (D := (dC, dI)) (ci := 12) (v := .int t84) (ty := .int) (C := RX12) (T := TX12) (N := 48) hx hb hts (fun _ h => List.mem_cons_of_mem _ (List.mem_append_right _ h)) tyX12 tyX12_ok nmX12 hown hK hP hD hS 0 rfl rfl 3 (by decide) (hts (.fieldLink RX12 112 "LeftArgumentsModel" "at" "I") (List.mem_cons_of_mem _ (List.mem_append_left _ (List.mem_of_getElem? (i := 0) rfl)))) (fun _ h9 => h9) rfl (by decide +kernel) rfl rfl (Nat.le_of_ble_eq_true rfl) dX12_readOffice_193 (fun H locs hP hD hS => ?_)
                  have hP : va_P (dC, dI) vwCl (wd_77d3d1bb h0 v0 h1 v1 t84 (-1) v4 r0 r1 r2 r3 r4 r5 r6 v5 v6 r7 r8 h2 h3 t81 r9 r10 v8 v9 r11 r12 v10 v11 r13 v12 v13 r14 v14 w15 r15 v16 v17 r16 r17 r18 r19 r20 r21 v18 r22 r23 r24 v19 h1 g0 f20 h2 g1 fn47 h3 g2 fn80) H := hP
                  have hD : va_D A (wd_77d3d1bb h0 v0 h1 v1 t84 (-1) v4 r0 r1 r2 r3 r4 r5 r6 v5 v6 r7 r8 h2 h3 t81 r9 r10 v8 v9 r11 r12 v10 v11 r13 v12 v13 r14 v14 w15 r15 v16 v17 r16 r17 r18 r19 r20 r21 v18 r22 r23 r24 v19 h1 g0 f20 h2 g1 fn47 h3 g2 fn80) := hD
                  refine lv_goto (tgt := 44) hx hb dX12_readOffice_196 (by decide) ?_
                  refine lv_iload_n hx hb dX12_readOffice_44 rfl (lv_at hl 0 rfl) ?_
                  refine lv_if_eq (tgt := 199) hx hb dX12_readOffice_45 (by decide) (fun _ => ?_) (fun c => absurd (by decide) c)
                  refine lv_aload_n hx hb dX12_readOffice_199 rfl (lv_at hl 3 rfl) ?_
                  refine va_get (D := (dC, dI)) (ci := 12) (v := .int (-1)) (C := RX12) (T := TX12) (N := 48) hx hb hts (fun _ h => List.mem_cons_of_mem _ (List.mem_append_right _ h)) hown hK hP 0 rfl rfl 4 (by decide) (hts (.fieldLink RX12 119 "LeftArgumentsModel" "wrong" "I") (List.mem_cons_of_mem _ (List.mem_append_left _ (List.mem_of_getElem? (i := 1) rfl)))) (fun _ h9 => h9) rfl dX12_readOffice_200 ?_
                  refine lv_iconst (v := (-1)) hx hb dX12_readOffice_203 (by decide) ?_
                  refine lv_icmp_ne (tgt := 226) hx hb dX12_readOffice_204 (by decide) (fun c => absurd (by decide) c) (fun _ => ?_)
                  refine lv_aload_n hx hb dX12_readOffice_207 rfl (lv_at hl 3 rfl) ?_
                  have hPc := hP.sub (ws' := (wd_f4cd022e h0 v0 h1 v1 t84 (-1) v4 r0 r1 r2 r3 r4 r5 r6 v5 v6 r7 r8 h2 h3 t81 r9 r10 v8 v9 r11 r12 v10 v11 r13 v12 v13 r14 v14 w15 r15 v16 v17 r16 r17 r18 r19 r20 r21 v18 r22 r23 r24 v19 h1 g0 f20)) [0, 1] rfl
                  have hDc := hD.sub (ws' := (wd_f4cd022e h0 v0 h1 v1 t84 (-1) v4 r0 r1 r2 r3 r4 r5 r6 v5 v6 r7 r8 h2 h3 t81 r9 r10 v8 v9 r11 r12 v10 v11 r13 v12 v13 r14 v14 w15 r15 v16 v17 r16 r17 r18 r19 r20 r21 v18 r22 r23 r24 v19 h1 g0 f20)) [0, 1] (by decide) rfl
                  have hKc := hK.sub (tys' := [(g0, .int)]) [0] rfl
                  have hFc := va_free (wc := (wd_f4cd022e h0 v0 h1 v1 t84 (-1) v4 r0 r1 r2 r3 r4 r5 r6 v5 v6 r7 r8 h2 h3 t81 r9 r10 v8 v9 r11 r12 v10 v11 r13 v12 v13 r14 v14 w15 r15 v16 v17 r16 r17 r18 r19 r20 r21 v18 r22 r23 r24 v19 h1 g0 f20)) hD hS hA [0, 1] rfl
                  refine va_calli (va_runV (As := []) (rest := []) ⟨hx, hb, hml, hown, hts⟩ (k_X12_look l dC dI h0 h1 v0 v1 t84 ((-1)) v4 r0 r1 r2 r3 r4 r5 r6 v5 v6 r7 r8 h2 h3 t81 r9 r10 v8 v9 r11 r12 v10 v11 r13 v12 v13 r14 v14 w15 r15 v16 v17 r16 r17 r18 r19 r20 r21 v18 r22 r23 r24 v19 g0 f20 ⟨by first | omega | decide, by first | omega | decide⟩ ⟨by first | omega | decide, by first | omega | decide⟩ ⟨by first | omega | decide, by first | omega | decide⟩ ⟨by first | omega | decide, by first | omega | decide⟩ ⟨by first | omega | decide, by first | omega | decide⟩ ⟨by first | omega | decide, by first | omega | decide⟩ ⟨by first | omega | decide, by first | omega | decide⟩ ⟨by first | omega | decide, by first | omega | decide⟩ ⟨by first | omega | decide, by first | omega | decide⟩ ⟨by first | omega | decide, by first | omega | decide⟩ ⟨by first | omega | decide, by first | omega | decide⟩ ia_f20 H.size) (cwV 0 hts g_X12_readOffice_4 rfl rfl rfl (by decide +kernel) ⟨Nat.le_of_ble_eq_true rfl, Nat.le_of_ble_eq_true rfl⟩) ⟨fun a U g mk q => by obtain ⟨q0, q1, qP, qK, qD⟩ := q; exact ⟨q0, q1, qP, va_K.moved (u := U) (U := U.calling g mk a) (Vm.Alike.refl U.vm) qK, qD⟩, va_recv hKc hPc (ci := 12) (q0 := 0) rfl rfl, fun U hU hW => ⟨rfl, by rw [hU], by rw [hU]; exact hPc, va_K.moved hW.alike hKc, hDc.weaken (fun _ _ _ _ => trivial)⟩⟩ rfl rfl hl.1 rfl (lv_room (Nat.le_of_ble_eq_true rfl)) dX12_readOffice_208 ⟨Nat.le_of_ble_eq_true rfl, Nat.le_of_ble_eq_true rfl⟩) hS (fun q _ h => hFc q h) hFc (fun ra85 u t H1 locs ht hvm hwra85 hB hz1 hk1 hS => ?_)
                  try rw [hwra85] at hB
                  have hkra85_0 : (((-1) : Int32)).toInt = -1 := by decide
                  rcases hB with hB | hB
                  · skip
                    obtain ⟨x86, oa_x86, ob_x86, pt0_ra85, pt1_ra85, pt2_ra85, pt3_ra85, pt4_ra85, pt5_ra85, pt6_ra85, hP1, hK1, hD1⟩ := hB
                    rw [ht] at hP1
                    obtain ⟨hP, hD⟩ := va_join (wr := (wd_5ef8c86c h2 g1 fn47 h3 g2 fn80)) (w1 := (wd_f4cd022e h0 v0 h1 v1 x86 (-1) v4 r0 r1 r2 r3 r4 r5 r6 v5 v6 r7 r8 h2 h3 t81 r9 r10 v8 v9 r11 r12 v10 v11 r13 v12 v13 r14 v14 w15 r15 v16 v17 r16 r17 r18 r19 r20 r21 v18 r22 r23 r24 v19 h1 g0 f20)) hP hD [0, 1] [2, 3] rfl rfl (by decide) (by decide) hk1 hFc hP1 hD1
                    generalize H1 = H at hP hS ⊢
                    have hP := hP.sub (ws' := (wd_77d3d1bb h0 v0 h1 v1 x86 (-1) v4 r0 r1 r2 r3 r4 r5 r6 v5 v6 r7 r8 h2 h3 t81 r9 r10 v8 v9 r11 r12 v10 v11 r13 v12 v13 r14 v14 w15 r15 v16 v17 r16 r17 r18 r19 r20 r21 v18 r22 r23 r24 v19 h1 g0 f20 h2 g1 fn47 h3 g2 fn80)) [2, 3, 0, 1] rfl
                    have hD := hD.sub (ws' := (wd_77d3d1bb h0 v0 h1 v1 x86 (-1) v4 r0 r1 r2 r3 r4 r5 r6 v5 v6 r7 r8 h2 h3 t81 r9 r10 v8 v9 r11 r12 v10 v11 r13 v12 v13 r14 v14 w15 r15 v16 v17 r16 r17 r18 r19 r20 r21 v18 r22 r23 r24 v19 h1 g0 f20 h2 g1 fn47 h3 g2 fn80)) [2, 3, 0, 1] (by decide) rfl
                    have hP : va_P (dC, dI) vwCl (wd_77d3d1bb h0 v0 h1 v1 x86 (-1) v4 r0 r1 r2 r3 r4 r5 r6 v5 v6 r7 r8 h2 h3 t81 r9 r10 v8 v9 r11 r12 v10 v11 r13 v12 v13 r14 v14 w15 r15 v16 v17 r16 r17 r18 r19 r20 r21 v18 r22 r23 r24 v19 h1 g0 f20 h2 g1 fn47 h3 g2 fn80) H := hP
                    have hD : va_D A (wd_77d3d1bb h0 v0 h1 v1 x86 (-1) v4 r0 r1 r2 r3 r4 r5 r6 v5 v6 r7 r8 h2 h3 t81 r9 r10 v8 v9 r11 r12 v10 v11 r13 v12 v13 r14 v14 w15 r15 v16 v17 r16 r17 r18 r19 r20 r21 v18 r22 r23 r24 v19 h1 g0 f20 h2 g1 fn47 h3 g2 fn80) := hD
                    obtain rfl : ra85 = ((-1) : Int32) := Int32.toInt_inj.mp (by rw [show (((-1) : Int32)).toInt = -1 by decide]; omega)
                    refine lv_iconst (v := (-1)) hx hb dX12_readOffice_211 (by decide) ?_
                    refine lv_icmp_ne (tgt := 222) hx hb dX12_readOffice_212 (by decide) (fun c => absurd (by decide) c) (fun _ => ?_)
                    refine lv_aload_n hx hb dX12_readOffice_215 rfl (lv_at hl 3 rfl) ?_
                    have hPc := hP.sub (ws' := (wd_4d81ce87 h0 v0 h1 v1 x86 (-1) v4 r0 r1 r2 r3 r4 r5 r6 v5 v6 r7 r8 h2 h3 t81 r9 r10 v8 v9 r11 r12 v10 v11 r13 v12 v13 r14 v14 w15 r15 v16 v17 r16 r17 r18 r19 r20 r21 v18 r22 r23 r24 v19 h2 g1 fn47 h3 g2 fn80)) [0, 2, 3] rfl
                    have hDc := hD.sub (ws' := (wd_4d81ce87 h0 v0 h1 v1 x86 (-1) v4 r0 r1 r2 r3 r4 r5 r6 v5 v6 r7 r8 h2 h3 t81 r9 r10 v8 v9 r11 r12 v10 v11 r13 v12 v13 r14 v14 w15 r15 v16 v17 r16 r17 r18 r19 r20 r21 v18 r22 r23 r24 v19 h2 g1 fn47 h3 g2 fn80)) [0, 2, 3] (by decide) rfl
                    have hKc := hK.sub (tys' := [(g1, .int), (g2, .int)]) [1, 2] rfl
                    have hFc := va_free (wc := (wd_4d81ce87 h0 v0 h1 v1 x86 (-1) v4 r0 r1 r2 r3 r4 r5 r6 v5 v6 r7 r8 h2 h3 t81 r9 r10 v8 v9 r11 r12 v10 v11 r13 v12 v13 r14 v14 w15 r15 v16 v17 r16 r17 r18 r19 r20 r21 v18 r22 r23 r24 v19 h2 g1 fn47 h3 g2 fn80)) hD hS hA [0, 2, 3] rfl
                    refine va_calli (va_runV (As := []) (rest := []) ⟨hx, hb, hml, hown, hts⟩ (k_X12_isWhole l dC dI h0 h2 h3 v0 h1 v1 x86 ((-1)) v4 r0 r1 r2 r3 r4 r5 r6 v5 v6 r7 r8 t81 r9 r10 v8 v9 r11 r12 v10 v11 r13 v12 v13 r14 v14 w15 r15 v16 v17 r16 r17 r18 r19 r20 r21 v18 r22 r23 r24 v19 g1 fn47 g2 fn80 ⟨by first | omega | decide, by first | omega | decide⟩ ⟨by first | omega | decide, by first | omega | decide⟩ ⟨by first | omega | decide, by first | omega | decide⟩ ⟨by first | omega | decide, by first | omega | decide⟩ ⟨by first | omega | decide, by first | omega | decide⟩ ⟨by first | omega | decide, by first | omega | decide⟩ ⟨by first | omega | decide, by first | omega | decide⟩ ⟨by first | omega | decide, by first | omega | decide⟩ ⟨by first | omega | decide, by first | omega | decide⟩ ⟨by first | omega | decide, by first | omega | decide⟩ H.size) (cwV 0 hts g_X12_readOffice_11 rfl rfl rfl (by decide +kernel) ⟨Nat.le_of_ble_eq_true rfl, Nat.le_of_ble_eq_true rfl⟩) ⟨fun a U g mk q => by obtain ⟨q0, q1, qP, qK, qD⟩ := q; exact ⟨q0, q1, qP, va_K.moved (u := U) (U := U.calling g mk a) (Vm.Alike.refl U.vm) qK, qD⟩, va_recv hKc hPc (ci := 12) (q0 := 0) rfl rfl, fun U hU hW => ⟨rfl, by rw [hU], by rw [hU]; exact hPc, va_K.moved hW.alike hKc, hDc.weaken (fun _ _ _ _ => trivial)⟩⟩ rfl rfl hl.1 rfl (lv_room (Nat.le_of_ble_eq_true rfl)) dX12_readOffice_216 ⟨Nat.le_of_ble_eq_true rfl, Nat.le_of_ble_eq_true rfl⟩) hS (fun q _ h => hFc q h) hFc (fun ra87 u t H1 locs ht hvm hwra87 hB hz1 hk1 hS => ?_)
                    try rw [hwra87] at hB
                    have hkra87_0 : (((-1) : Int32)).toInt = -1 := by decide
                    obtain ⟨pt0_ra87, pt1_ra87, pt2_ra87, hP1, hK1, hD1⟩ := hB
                    rw [ht] at hP1
                    obtain ⟨hP, hD⟩ := va_join (wr := (wd_d0032b31 h1 g0 f20)) (w1 := (wd_4d81ce87 h0 v0 h1 v1 x86 (-1) v4 r0 r1 r2 r3 r4 r5 r6 v5 v6 r7 r8 h2 h3 t81 r9 r10 v8 v9 r11 r12 v10 v11 r13 v12 v13 r14 v14 w15 r15 v16 v17 r16 r17 r18 r19 r20 r21 v18 r22 r23 r24 v19 h2 g1 fn47 h3 g2 fn80)) hP hD [0, 2, 3] [1] rfl rfl (by decide) (by decide) hk1 hFc hP1 hD1
                    generalize H1 = H at hP hS ⊢
                    have hP := hP.sub (ws' := (wd_77d3d1bb h0 v0 h1 v1 x86 (-1) v4 r0 r1 r2 r3 r4 r5 r6 v5 v6 r7 r8 h2 h3 t81 r9 r10 v8 v9 r11 r12 v10 v11 r13 v12 v13 r14 v14 w15 r15 v16 v17 r16 r17 r18 r19 r20 r21 v18 r22 r23 r24 v19 h1 g0 f20 h2 g1 fn47 h3 g2 fn80)) [1, 0, 2, 3] rfl
                    have hD := hD.sub (ws' := (wd_77d3d1bb h0 v0 h1 v1 x86 (-1) v4 r0 r1 r2 r3 r4 r5 r6 v5 v6 r7 r8 h2 h3 t81 r9 r10 v8 v9 r11 r12 v10 v11 r13 v12 v13 r14 v14 w15 r15 v16 v17 r16 r17 r18 r19 r20 r21 v18 r22 r23 r24 v19 h1 g0 f20 h2 g1 fn47 h3 g2 fn80)) [1, 0, 2, 3] (by decide) rfl
                    have hP : va_P (dC, dI) vwCl (wd_77d3d1bb h0 v0 h1 v1 x86 (-1) v4 r0 r1 r2 r3 r4 r5 r6 v5 v6 r7 r8 h2 h3 t81 r9 r10 v8 v9 r11 r12 v10 v11 r13 v12 v13 r14 v14 w15 r15 v16 v17 r16 r17 r18 r19 r20 r21 v18 r22 r23 r24 v19 h1 g0 f20 h2 g1 fn47 h3 g2 fn80) H := hP
                    have hD : va_D A (wd_77d3d1bb h0 v0 h1 v1 x86 (-1) v4 r0 r1 r2 r3 r4 r5 r6 v5 v6 r7 r8 h2 h3 t81 r9 r10 v8 v9 r11 r12 v10 v11 r13 v12 v13 r14 v14 w15 r15 v16 v17 r16 r17 r18 r19 r20 r21 v18 r22 r23 r24 v19 h1 g0 f20 h2 g1 fn47 h3 g2 fn80) := hD
                    have hw1ra87 : ra87.toInt = 1 → pg_wh t81.toInt fn47 fn80 = true := fun h9 => by rcases pt2_ra87 with h8 | h8; exact h8.2; exfalso; omega
                    have hw0ra87 : ra87.toInt = 0 → pg_wh t81.toInt fn47 fn80 = false := fun h9 => by rcases pt2_ra87 with h8 | h8; exfalso; omega; exact h8.2
                    refine lv_if_ne (tgt := 226) hx hb dX12_readOffice_219 (by decide) (fun c88 => ?_) (fun c88 => ?_)
                    · skip
                      have fc88 : ¬ (ra87.toInt = 0) := fun h9 => c88 (Int32.toInt_inj.mp h9)
                      have q1hw1ra87 := hw1ra87 (by omega)
                      refine lv_aload_n hx hb dX12_readOffice_226 rfl (lv_at hl 3 rfl) ?_
                      refine va_get (D := (dC, dI)) (ci := 12) (v := .int (-1)) (C := RX12) (T := TX12) (N := 48) hx hb hts (fun _ h => List.mem_cons_of_mem _ (List.mem_append_right _ h)) hown hK hP 0 rfl rfl 4 (by decide) (hts (.fieldLink RX12 119 "LeftArgumentsModel" "wrong" "I") (List.mem_cons_of_mem _ (List.mem_append_left _ (List.mem_of_getElem? (i := 1) rfl)))) (fun _ h9 => h9) rfl dX12_readOffice_227 ?_
                      subst hQ
                      have hP9 := hP.sub (ws' := (wd_77d3d1bb h0 v0 h1 v1 x86 (-1) v4 r0 r1 r2 r3 r4 r5 r6 v5 v6 r7 r8 h2 h3 t81 r9 r10 v8 v9 r11 r12 v10 v11 r13 v12 v13 r14 v14 w15 r15 v16 v17 r16 r17 r18 r19 r20 r21 v18 r22 r23 r24 v19 h1 g0 f20 h2 g1 fn47 h3 g2 fn80)) [0, 1, 2, 3] rfl
                      have hD9 := hD.sub (ws' := (wd_77d3d1bb h0 v0 h1 v1 x86 (-1) v4 r0 r1 r2 r3 r4 r5 r6 v5 v6 r7 r8 h2 h3 t81 r9 r10 v8 v9 r11 r12 v10 v11 r13 v12 v13 r14 v14 w15 r15 v16 v17 r16 r17 r18 r19 r20 r21 v18 r22 r23 r24 v19 h1 g0 f20 h2 g1 fn47 h3 g2 fn80)) [0, 1, 2, 3] (by decide) rfl
                      have hK9 := hK.sub (tys' := []) [] rfl
                      exact W.iret (v := (-1)) hx hb hr (fun t ht hW => ⟨⟨(-1), (-1), rfl, rfl, Or.inl ⟨x86, t81, fn47, fn80, by first | omega | decide, by first | omega | decide, by first | omega | decide, by first | omega | decide, by first | omega | decide, by first | omega | decide, by assumption, by first | assumption | (apply pm_BG.add <;> first | assumption | omega), by apply pg_office.g2 (R := f21) (B := f22) <;> first | assumption | omega | (apply pg_O.s0 <;> first | assumption | omega) | (apply pg_O.b0 <;> first | assumption | omega), by rw [ht]; exact hP9, va_K.moved hW.alike hK9, hD9⟩⟩, hS.F ht⟩) hS.2.2 dX12_readOffice_230
                    · skip
                      have fc88 : ra87.toInt = 0 := congrArg Int32.toInt c88
                      have q0hw0ra87 := hw0ra87 (by omega)
                      refine lv_aload_n hx hb dX12_readOffice_222 rfl (lv_at hl 3 rfl) ?_
                      have hPc := hP.sub (ws' := (wd_171f232f h0 v0 h1 v1 x86 (-1) v4 r0 r1 r2 r3 r4 r5 r6 v5 v6 r7 r8 h2 h3 t81 r9 r10 v8 v9 r11 r12 v10 v11 r13 v12 v13 r14 v14 w15 r15 v16 v17 r16 r17 r18 r19 r20 r21 v18 r22 r23 r24 v19)) [0] rfl
                      have hDc := hD.sub (ws' := (wd_171f232f h0 v0 h1 v1 x86 (-1) v4 r0 r1 r2 r3 r4 r5 r6 v5 v6 r7 r8 h2 h3 t81 r9 r10 v8 v9 r11 r12 v10 v11 r13 v12 v13 r14 v14 w15 r15 v16 v17 r16 r17 r18 r19 r20 r21 v18 r22 r23 r24 v19)) [0] (by decide) rfl
                      have hKc := hK.sub (tys' := []) [] rfl
                      have hFc := va_free (wc := (wd_171f232f h0 v0 h1 v1 x86 (-1) v4 r0 r1 r2 r3 r4 r5 r6 v5 v6 r7 r8 h2 h3 t81 r9 r10 v8 v9 r11 r12 v10 v11 r13 v12 v13 r14 v14 w15 r15 v16 v17 r16 r17 r18 r19 r20 r21 v18 r22 r23 r24 v19)) hD hS hA [0] rfl
                      refine va_callv (va_runV (As := []) (rest := []) ⟨hx, hb, hml, hown, hts⟩ (k_X12_bad l dC dI h0 v0 h1 v1 x86 v4 r0 r1 r2 r3 r4 r5 r6 v5 v6 r7 r8 h2 h3 t81 r9 r10 v8 v9 r11 r12 v10 v11 r13 v12 v13 r14 v14 w15 r15 v16 v17 r16 r17 r18 r19 r20 r21 v18 r22 r23 r24 v19 ⟨by first | omega | decide, by first | omega | decide⟩ ⟨by first | omega | decide, by first | omega | decide⟩ ⟨by first | omega | decide, by first | omega | decide⟩ ⟨by first | omega | decide, by first | omega | decide⟩ ⟨by first | omega | decide, by first | omega | decide⟩ ⟨by first | omega | decide, by first | omega | decide⟩ ⟨by first | omega | decide, by first | omega | decide⟩ ⟨by first | omega | decide, by first | omega | decide⟩ ⟨by first | omega | decide, by first | omega | decide⟩ ⟨by first | omega | decide, by first | omega | decide⟩ ⟨by first | omega | decide, by first | omega | decide⟩ H.size) (cwV 0 hts g_X12_readOffice_5 rfl rfl rfl (by decide +kernel) ⟨Nat.le_of_ble_eq_true rfl, Nat.le_of_ble_eq_true rfl⟩) ⟨fun a U g mk q => by obtain ⟨q0, q1, qP, qK, qD⟩ := q; exact ⟨q0, q1, qP, va_K.moved (u := U) (U := U.calling g mk a) (Vm.Alike.refl U.vm) qK, qD⟩, va_recv hKc hPc (ci := 12) (q0 := 0) rfl rfl, fun U hU hW => ⟨rfl, by rw [hU], by rw [hU]; exact hPc, va_K.moved hW.alike hKc, hDc.weaken (fun _ _ _ _ => trivial)⟩⟩ rfl rfl hl.1 rfl (lv_room (Nat.le_of_ble_eq_true rfl)) dX12_readOffice_223 ⟨Nat.le_of_ble_eq_true rfl, Nat.le_of_ble_eq_true rfl⟩) hS (fun q _ h => hFc q h) hFc (fun u t H1 locs ht hvm hwra89 hB hz1 hk1 hS => ?_)
                      obtain ⟨x90, oa_x90, ob_x90, pt0_ra89, hP1, hK1, hD1⟩ := hB
                      rw [ht] at hP1
                      obtain ⟨hP, hD⟩ := va_join (wr := (wd_bcaf9cf2 h1 g0 f20 h2 g1 fn47 h3 g2 fn80)) (w1 := (wd_171f232f h0 v0 h1 v1 x86 x90 v4 r0 r1 r2 r3 r4 r5 r6 v5 v6 r7 r8 h2 h3 t81 r9 r10 v8 v9 r11 r12 v10 v11 r13 v12 v13 r14 v14 w15 r15 v16 v17 r16 r17 r18 r19 r20 r21 v18 r22 r23 r24 v19)) hP hD [0] [1, 2, 3] rfl rfl (by decide) (by decide) hk1 hFc hP1 hD1
                      generalize H1 = H at hP hS ⊢
                      have hP := hP.sub (ws' := (wd_77d3d1bb h0 v0 h1 v1 x86 x90 v4 r0 r1 r2 r3 r4 r5 r6 v5 v6 r7 r8 h2 h3 t81 r9 r10 v8 v9 r11 r12 v10 v11 r13 v12 v13 r14 v14 w15 r15 v16 v17 r16 r17 r18 r19 r20 r21 v18 r22 r23 r24 v19 h1 g0 f20 h2 g1 fn47 h3 g2 fn80)) [3, 0, 1, 2] rfl
                      have hD := hD.sub (ws' := (wd_77d3d1bb h0 v0 h1 v1 x86 x90 v4 r0 r1 r2 r3 r4 r5 r6 v5 v6 r7 r8 h2 h3 t81 r9 r10 v8 v9 r11 r12 v10 v11 r13 v12 v13 r14 v14 w15 r15 v16 v17 r16 r17 r18 r19 r20 r21 v18 r22 r23 r24 v19 h1 g0 f20 h2 g1 fn47 h3 g2 fn80)) [3, 0, 1, 2] (by decide) rfl
                      have hP : va_P (dC, dI) vwCl (wd_77d3d1bb h0 v0 h1 v1 x86 x90 v4 r0 r1 r2 r3 r4 r5 r6 v5 v6 r7 r8 h2 h3 t81 r9 r10 v8 v9 r11 r12 v10 v11 r13 v12 v13 r14 v14 w15 r15 v16 v17 r16 r17 r18 r19 r20 r21 v18 r22 r23 r24 v19 h1 g0 f20 h2 g1 fn47 h3 g2 fn80) H := hP
                      have hD : va_D A (wd_77d3d1bb h0 v0 h1 v1 x86 x90 v4 r0 r1 r2 r3 r4 r5 r6 v5 v6 r7 r8 h2 h3 t81 r9 r10 v8 v9 r11 r12 v10 v11 r13 v12 v13 r14 v14 w15 r15 v16 v17 r16 r17 r18 r19 r20 r21 v18 r22 r23 r24 v19 h1 g0 f20 h2 g1 fn47 h3 g2 fn80) := hD
                      refine lv_aload_n hx hb dX12_readOffice_226 rfl (lv_at hl 3 rfl) ?_
                      refine va_get (D := (dC, dI)) (ci := 12) (v := .int x90) (C := RX12) (T := TX12) (N := 48) hx hb hts (fun _ h => List.mem_cons_of_mem _ (List.mem_append_right _ h)) hown hK hP 0 rfl rfl 4 (by decide) (hts (.fieldLink RX12 119 "LeftArgumentsModel" "wrong" "I") (List.mem_cons_of_mem _ (List.mem_append_left _ (List.mem_of_getElem? (i := 1) rfl)))) (fun _ h9 => h9) rfl dX12_readOffice_227 ?_
                      subst hQ
                      have hP9 := hP.sub (ws' := (wd_77d3d1bb h0 v0 h1 v1 x86 x90 v4 r0 r1 r2 r3 r4 r5 r6 v5 v6 r7 r8 h2 h3 t81 r9 r10 v8 v9 r11 r12 v10 v11 r13 v12 v13 r14 v14 w15 r15 v16 v17 r16 r17 r18 r19 r20 r21 v18 r22 r23 r24 v19 h1 g0 f20 h2 g1 fn47 h3 g2 fn80)) [0, 1, 2, 3] rfl
                      have hD9 := hD.sub (ws' := (wd_77d3d1bb h0 v0 h1 v1 x86 x90 v4 r0 r1 r2 r3 r4 r5 r6 v5 v6 r7 r8 h2 h3 t81 r9 r10 v8 v9 r11 r12 v10 v11 r13 v12 v13 r14 v14 w15 r15 v16 v17 r16 r17 r18 r19 r20 r21 v18 r22 r23 r24 v19 h1 g0 f20 h2 g1 fn47 h3 g2 fn80)) [0, 1, 2, 3] (by decide) rfl
                      have hK9 := hK.sub (tys' := []) [] rfl
                      exact W.iret (v := x90) hx hb hr (fun t ht hW => ⟨⟨x90, x90, rfl, rfl, Or.inr (⟨x86, x90, t81, fn47, fn80, by first | omega | decide, by first | omega | decide, by first | omega | decide, by first | omega | decide, by first | omega | decide, by first | omega | decide, by first | omega | decide, by first | omega | decide, by first | (apply pg_office.b0 (R := f21) (B := f22) <;> first | assumption | omega | (apply pg_O.sf <;> first | assumption | omega) | (apply pg_O.bf <;> first | assumption | omega) | (apply pg_O.w <;> first | assumption | omega)) | (apply pg_office.b1 (R := f21) (B := f22) <;> first | assumption | omega | (apply pg_O.s0 <;> first | assumption | omega) | (apply pg_O.b0 <;> first | assumption | omega)) | (apply pg_office.b2 (R := f21) (B := f22) <;> first | assumption | omega | (apply pg_O.s0 <;> first | assumption | omega) | (apply pg_O.b0 <;> first | assumption | omega)), by omega, by rw [ht]; exact hP9, va_K.moved hW.alike hK9, hD9⟩)⟩, hS.F ht⟩) hS.2.2 dX12_readOffice_230
                  · skip
                    obtain ⟨x91, oa_x91, ob_x91, pt0_ra85, pt1_ra85, pt2_ra85, pt3_ra85, pt4_ra85, pt5_ra85, pt6_ra85, pt7_ra85, hP1, hK1, hD1⟩ := hB
                    rw [ht] at hP1
                    obtain ⟨hP, hD⟩ := va_join (wr := (wd_5ef8c86c h2 g1 fn47 h3 g2 fn80)) (w1 := (wd_f4cd022e h0 v0 h1 v1 x91 (-1) v4 r0 r1 r2 r3 r4 r5 r6 v5 v6 r7 r8 h2 h3 t81 r9 r10 v8 v9 r11 r12 v10 v11 r13 v12 v13 r14 v14 w15 r15 v16 v17 r16 r17 r18 r19 r20 r21 v18 r22 r23 r24 v19 h1 g0 f20)) hP hD [0, 1] [2, 3] rfl rfl (by decide) (by decide) hk1 hFc hP1 hD1
                    generalize H1 = H at hP hS ⊢
                    have hP := hP.sub (ws' := (wd_77d3d1bb h0 v0 h1 v1 x91 (-1) v4 r0 r1 r2 r3 r4 r5 r6 v5 v6 r7 r8 h2 h3 t81 r9 r10 v8 v9 r11 r12 v10 v11 r13 v12 v13 r14 v14 w15 r15 v16 v17 r16 r17 r18 r19 r20 r21 v18 r22 r23 r24 v19 h1 g0 f20 h2 g1 fn47 h3 g2 fn80)) [2, 3, 0, 1] rfl
                    have hD := hD.sub (ws' := (wd_77d3d1bb h0 v0 h1 v1 x91 (-1) v4 r0 r1 r2 r3 r4 r5 r6 v5 v6 r7 r8 h2 h3 t81 r9 r10 v8 v9 r11 r12 v10 v11 r13 v12 v13 r14 v14 w15 r15 v16 v17 r16 r17 r18 r19 r20 r21 v18 r22 r23 r24 v19 h1 g0 f20 h2 g1 fn47 h3 g2 fn80)) [2, 3, 0, 1] (by decide) rfl
                    have hP : va_P (dC, dI) vwCl (wd_77d3d1bb h0 v0 h1 v1 x91 (-1) v4 r0 r1 r2 r3 r4 r5 r6 v5 v6 r7 r8 h2 h3 t81 r9 r10 v8 v9 r11 r12 v10 v11 r13 v12 v13 r14 v14 w15 r15 v16 v17 r16 r17 r18 r19 r20 r21 v18 r22 r23 r24 v19 h1 g0 f20 h2 g1 fn47 h3 g2 fn80) H := hP
                    have hD : va_D A (wd_77d3d1bb h0 v0 h1 v1 x91 (-1) v4 r0 r1 r2 r3 r4 r5 r6 v5 v6 r7 r8 h2 h3 t81 r9 r10 v8 v9 r11 r12 v10 v11 r13 v12 v13 r14 v14 w15 r15 v16 v17 r16 r17 r18 r19 r20 r21 v18 r22 r23 r24 v19 h1 g0 f20 h2 g1 fn47 h3 g2 fn80) := hD
                    refine lv_iconst (v := (-1)) hx hb dX12_readOffice_211 (by decide) ?_
                    refine lv_icmp_ne (tgt := 222) hx hb dX12_readOffice_212 (by decide) (fun _ => ?_) (fun c92 => by exfalso; have fc92 : ra85.toInt = (-1) := congrArg Int32.toInt c92; omega)
                    refine lv_aload_n hx hb dX12_readOffice_222 rfl (lv_at hl 3 rfl) ?_
                    have hPc := hP.sub (ws' := (wd_171f232f h0 v0 h1 v1 x91 (-1) v4 r0 r1 r2 r3 r4 r5 r6 v5 v6 r7 r8 h2 h3 t81 r9 r10 v8 v9 r11 r12 v10 v11 r13 v12 v13 r14 v14 w15 r15 v16 v17 r16 r17 r18 r19 r20 r21 v18 r22 r23 r24 v19)) [0] rfl
                    have hDc := hD.sub (ws' := (wd_171f232f h0 v0 h1 v1 x91 (-1) v4 r0 r1 r2 r3 r4 r5 r6 v5 v6 r7 r8 h2 h3 t81 r9 r10 v8 v9 r11 r12 v10 v11 r13 v12 v13 r14 v14 w15 r15 v16 v17 r16 r17 r18 r19 r20 r21 v18 r22 r23 r24 v19)) [0] (by decide) rfl
                    have hKc := hK.sub (tys' := []) [] rfl
                    have hFc := va_free (wc := (wd_171f232f h0 v0 h1 v1 x91 (-1) v4 r0 r1 r2 r3 r4 r5 r6 v5 v6 r7 r8 h2 h3 t81 r9 r10 v8 v9 r11 r12 v10 v11 r13 v12 v13 r14 v14 w15 r15 v16 v17 r16 r17 r18 r19 r20 r21 v18 r22 r23 r24 v19)) hD hS hA [0] rfl
                    refine va_callv (va_runV (As := []) (rest := []) ⟨hx, hb, hml, hown, hts⟩ (k_X12_bad l dC dI h0 v0 h1 v1 x91 v4 r0 r1 r2 r3 r4 r5 r6 v5 v6 r7 r8 h2 h3 t81 r9 r10 v8 v9 r11 r12 v10 v11 r13 v12 v13 r14 v14 w15 r15 v16 v17 r16 r17 r18 r19 r20 r21 v18 r22 r23 r24 v19 ⟨by first | omega | decide, by first | omega | decide⟩ ⟨by first | omega | decide, by first | omega | decide⟩ ⟨by first | omega | decide, by first | omega | decide⟩ ⟨by first | omega | decide, by first | omega | decide⟩ ⟨by first | omega | decide, by first | omega | decide⟩ ⟨by first | omega | decide, by first | omega | decide⟩ ⟨by first | omega | decide, by first | omega | decide⟩ ⟨by first | omega | decide, by first | omega | decide⟩ ⟨by first | omega | decide, by first | omega | decide⟩ ⟨by first | omega | decide, by first | omega | decide⟩ ⟨by first | omega | decide, by first | omega | decide⟩ H.size) (cwV 0 hts g_X12_readOffice_5 rfl rfl rfl (by decide +kernel) ⟨Nat.le_of_ble_eq_true rfl, Nat.le_of_ble_eq_true rfl⟩) ⟨fun a U g mk q => by obtain ⟨q0, q1, qP, qK, qD⟩ := q; exact ⟨q0, q1, qP, va_K.moved (u := U) (U := U.calling g mk a) (Vm.Alike.refl U.vm) qK, qD⟩, va_recv hKc hPc (ci := 12) (q0 := 0) rfl rfl, fun U hU hW => ⟨rfl, by rw [hU], by rw [hU]; exact hPc, va_K.moved hW.alike hKc, hDc.weaken (fun _ _ _ _ => trivial)⟩⟩ rfl rfl hl.1 rfl (lv_room (Nat.le_of_ble_eq_true rfl)) dX12_readOffice_223 ⟨Nat.le_of_ble_eq_true rfl, Nat.le_of_ble_eq_true rfl⟩) hS (fun q _ h => hFc q h) hFc (fun u t H1 locs ht hvm hwra93 hB hz1 hk1 hS => ?_)
                    obtain ⟨x94, oa_x94, ob_x94, pt0_ra93, hP1, hK1, hD1⟩ := hB
                    rw [ht] at hP1
                    obtain ⟨hP, hD⟩ := va_join (wr := (wd_bcaf9cf2 h1 g0 f20 h2 g1 fn47 h3 g2 fn80)) (w1 := (wd_171f232f h0 v0 h1 v1 x91 x94 v4 r0 r1 r2 r3 r4 r5 r6 v5 v6 r7 r8 h2 h3 t81 r9 r10 v8 v9 r11 r12 v10 v11 r13 v12 v13 r14 v14 w15 r15 v16 v17 r16 r17 r18 r19 r20 r21 v18 r22 r23 r24 v19)) hP hD [0] [1, 2, 3] rfl rfl (by decide) (by decide) hk1 hFc hP1 hD1
                    generalize H1 = H at hP hS ⊢
                    have hP := hP.sub (ws' := (wd_77d3d1bb h0 v0 h1 v1 x91 x94 v4 r0 r1 r2 r3 r4 r5 r6 v5 v6 r7 r8 h2 h3 t81 r9 r10 v8 v9 r11 r12 v10 v11 r13 v12 v13 r14 v14 w15 r15 v16 v17 r16 r17 r18 r19 r20 r21 v18 r22 r23 r24 v19 h1 g0 f20 h2 g1 fn47 h3 g2 fn80)) [3, 0, 1, 2] rfl
                    have hD := hD.sub (ws' := (wd_77d3d1bb h0 v0 h1 v1 x91 x94 v4 r0 r1 r2 r3 r4 r5 r6 v5 v6 r7 r8 h2 h3 t81 r9 r10 v8 v9 r11 r12 v10 v11 r13 v12 v13 r14 v14 w15 r15 v16 v17 r16 r17 r18 r19 r20 r21 v18 r22 r23 r24 v19 h1 g0 f20 h2 g1 fn47 h3 g2 fn80)) [3, 0, 1, 2] (by decide) rfl
                    have hP : va_P (dC, dI) vwCl (wd_77d3d1bb h0 v0 h1 v1 x91 x94 v4 r0 r1 r2 r3 r4 r5 r6 v5 v6 r7 r8 h2 h3 t81 r9 r10 v8 v9 r11 r12 v10 v11 r13 v12 v13 r14 v14 w15 r15 v16 v17 r16 r17 r18 r19 r20 r21 v18 r22 r23 r24 v19 h1 g0 f20 h2 g1 fn47 h3 g2 fn80) H := hP
                    have hD : va_D A (wd_77d3d1bb h0 v0 h1 v1 x91 x94 v4 r0 r1 r2 r3 r4 r5 r6 v5 v6 r7 r8 h2 h3 t81 r9 r10 v8 v9 r11 r12 v10 v11 r13 v12 v13 r14 v14 w15 r15 v16 v17 r16 r17 r18 r19 r20 r21 v18 r22 r23 r24 v19 h1 g0 f20 h2 g1 fn47 h3 g2 fn80) := hD
                    refine lv_aload_n hx hb dX12_readOffice_226 rfl (lv_at hl 3 rfl) ?_
                    refine va_get (D := (dC, dI)) (ci := 12) (v := .int x94) (C := RX12) (T := TX12) (N := 48) hx hb hts (fun _ h => List.mem_cons_of_mem _ (List.mem_append_right _ h)) hown hK hP 0 rfl rfl 4 (by decide) (hts (.fieldLink RX12 119 "LeftArgumentsModel" "wrong" "I") (List.mem_cons_of_mem _ (List.mem_append_left _ (List.mem_of_getElem? (i := 1) rfl)))) (fun _ h9 => h9) rfl dX12_readOffice_227 ?_
                    subst hQ
                    have hP9 := hP.sub (ws' := (wd_77d3d1bb h0 v0 h1 v1 x91 x94 v4 r0 r1 r2 r3 r4 r5 r6 v5 v6 r7 r8 h2 h3 t81 r9 r10 v8 v9 r11 r12 v10 v11 r13 v12 v13 r14 v14 w15 r15 v16 v17 r16 r17 r18 r19 r20 r21 v18 r22 r23 r24 v19 h1 g0 f20 h2 g1 fn47 h3 g2 fn80)) [0, 1, 2, 3] rfl
                    have hD9 := hD.sub (ws' := (wd_77d3d1bb h0 v0 h1 v1 x91 x94 v4 r0 r1 r2 r3 r4 r5 r6 v5 v6 r7 r8 h2 h3 t81 r9 r10 v8 v9 r11 r12 v10 v11 r13 v12 v13 r14 v14 w15 r15 v16 v17 r16 r17 r18 r19 r20 r21 v18 r22 r23 r24 v19 h1 g0 f20 h2 g1 fn47 h3 g2 fn80)) [0, 1, 2, 3] (by decide) rfl
                    have hK9 := hK.sub (tys' := []) [] rfl
                    exact W.iret (v := x94) hx hb hr (fun t ht hW => ⟨⟨x94, x94, rfl, rfl, Or.inr (⟨x91, x94, t81, fn47, fn80, by first | omega | decide, by first | omega | decide, by first | omega | decide, by first | omega | decide, by first | omega | decide, by first | omega | decide, by first | omega | decide, by first | omega | decide, by first | (apply pg_office.b0 (R := f21) (B := f22) <;> first | assumption | omega | (apply pg_O.sf <;> first | assumption | omega) | (apply pg_O.bf <;> first | assumption | omega) | (apply pg_O.w <;> first | assumption | omega)) | (apply pg_office.b1 (R := f21) (B := f22) <;> first | assumption | omega | (apply pg_O.s0 <;> first | assumption | omega) | (apply pg_O.b0 <;> first | assumption | omega)) | (apply pg_office.b2 (R := f21) (B := f22) <;> first | assumption | omega | (apply pg_O.s0 <;> first | assumption | omega) | (apply pg_O.b0 <;> first | assumption | omega)), by omega, by rw [ht]; exact hP9, va_K.moved hW.alike hK9, hD9⟩)⟩, hS.F ht⟩) hS.2.2 dX12_readOffice_230
                · skip
                  obtain ⟨x95, oa_x95, ob_x95, pt0_ra82, pt1_ra82, pt2_ra82, pt3_ra82, pt4_ra82, pt5_ra82, pt6_ra82, pt7_ra82, hP1, hK1, hD1⟩ := hB
                  rw [ht] at hP1
                  obtain ⟨hP, hD⟩ := va_join (wr := (wd_5ef8c86c h2 g1 fn47 h3 g2 fn80)) (w1 := (wd_f4cd022e h0 v0 h1 v1 x95 (-1) v4 r0 r1 r2 r3 r4 r5 r6 v5 v6 r7 r8 h2 h3 t81 r9 r10 v8 v9 r11 r12 v10 v11 r13 v12 v13 r14 v14 w15 r15 v16 v17 r16 r17 r18 r19 r20 r21 v18 r22 r23 r24 v19 h1 g0 f20)) hP hD [0, 1] [2, 3] rfl rfl (by decide) (by decide) hk1 hFc hP1 hD1
                  generalize H1 = H at hP hS ⊢
                  have hP := hP.sub (ws' := (wd_77d3d1bb h0 v0 h1 v1 x95 (-1) v4 r0 r1 r2 r3 r4 r5 r6 v5 v6 r7 r8 h2 h3 t81 r9 r10 v8 v9 r11 r12 v10 v11 r13 v12 v13 r14 v14 w15 r15 v16 v17 r16 r17 r18 r19 r20 r21 v18 r22 r23 r24 v19 h1 g0 f20 h2 g1 fn47 h3 g2 fn80)) [2, 3, 0, 1] rfl
                  have hD := hD.sub (ws' := (wd_77d3d1bb h0 v0 h1 v1 x95 (-1) v4 r0 r1 r2 r3 r4 r5 r6 v5 v6 r7 r8 h2 h3 t81 r9 r10 v8 v9 r11 r12 v10 v11 r13 v12 v13 r14 v14 w15 r15 v16 v17 r16 r17 r18 r19 r20 r21 v18 r22 r23 r24 v19 h1 g0 f20 h2 g1 fn47 h3 g2 fn80)) [2, 3, 0, 1] (by decide) rfl
                  have hP : va_P (dC, dI) vwCl (wd_77d3d1bb h0 v0 h1 v1 x95 (-1) v4 r0 r1 r2 r3 r4 r5 r6 v5 v6 r7 r8 h2 h3 t81 r9 r10 v8 v9 r11 r12 v10 v11 r13 v12 v13 r14 v14 w15 r15 v16 v17 r16 r17 r18 r19 r20 r21 v18 r22 r23 r24 v19 h1 g0 f20 h2 g1 fn47 h3 g2 fn80) H := hP
                  have hD : va_D A (wd_77d3d1bb h0 v0 h1 v1 x95 (-1) v4 r0 r1 r2 r3 r4 r5 r6 v5 v6 r7 r8 h2 h3 t81 r9 r10 v8 v9 r11 r12 v10 v11 r13 v12 v13 r14 v14 w15 r15 v16 v17 r16 r17 r18 r19 r20 r21 v18 r22 r23 r24 v19 h1 g0 f20 h2 g1 fn47 h3 g2 fn80) := hD
                  refine lv_bipush (v := 59) hx hb dX12_readOffice_167 (by decide) ?_
                  refine lv_icmp_ne (tgt := 176) hx hb dX12_readOffice_169 (by decide) (fun c96 => ?_) (fun c96 => ?_)
                  · skip
                    have fc96 : ¬ (ra82.toInt = 59) := fun h9 => c96 (Int32.toInt_inj.mp h9)
                    refine lv_iconst (v := 0) hx hb dX12_readOffice_176 (by decide) ?_
                    refine lv_istore_n (lv' := [(2, .int 0), (3, .int 98), (1, .int x44), (0, .ref h0)]) hx hb dX12_readOffice_177 rfl hl (by decide) rfl (fun ls hl => ?_)
                    refine lv_aload_n hx hb dX12_readOffice_178 rfl (lv_at hl 3 rfl) ?_
                    refine lv_dup hx hb dX12_readOffice_179 rfl ?_
                    refine va_get (D := (dC, dI)) (ci := 12) (v := .int x95) (C := RX12) (T := TX12) (N := 48) hx hb hts (fun _ h => List.mem_cons_of_mem _ (List.mem_append_right _ h)) hown hK hP 0 rfl rfl 3 (by decide) (hts (.fieldLink RX12 112 "LeftArgumentsModel" "at" "I") (List.mem_cons_of_mem _ (List.mem_append_left _ (List.mem_of_getElem? (i := 0) rfl)))) (fun _ h9 => h9) rfl dX12_readOffice_180 ?_
                    refine lv_iload_n hx hb dX12_readOffice_183 rfl (lv_at hl 0 rfl) ?_
                    refine lv_if_eq (tgt := 191) hx hb dX12_readOffice_184 (by decide) (fun _ => ?_) (fun c => absurd (by decide) c)
                    refine lv_iconst (v := 0) hx hb dX12_readOffice_191 (by decide) ?_
                    refine lv_iadd hx hb dX12_readOffice_192 ?_
                    refine lv_topi (fun t97 et97 => ?_)
                    have gt97 : t97.toInt = x95.toInt + 0 := pv_add (a := x95.toInt) (b := 0) et97 rfl (by decide) (by omega) (by omega)
                    refine va_put (D := (dC, dI)) (ci := 12) (v := .int t97) (ty := .int) (C := RX12) (T := TX12) (N := 48) hx hb hts (fun _ h => List.mem_cons_of_mem _ (List.mem_append_right _ h)) tyX12 tyX12_ok nmX12 hown hK hP hD hS 0 rfl rfl 3 (by decide) (hts (.fieldLink RX12 112 "LeftArgumentsModel" "at" "I") (List.mem_cons_of_mem _ (List.mem_append_left _ (List.mem_of_getElem? (i := 0) rfl)))) (fun _ h9 => h9) rfl (by decide +kernel) rfl rfl (Nat.le_of_ble_eq_true rfl) dX12_readOffice_193 (fun H locs hP hD hS => ?_)
                    have hP : va_P (dC, dI) vwCl (wd_77d3d1bb h0 v0 h1 v1 t97 (-1) v4 r0 r1 r2 r3 r4 r5 r6 v5 v6 r7 r8 h2 h3 t81 r9 r10 v8 v9 r11 r12 v10 v11 r13 v12 v13 r14 v14 w15 r15 v16 v17 r16 r17 r18 r19 r20 r21 v18 r22 r23 r24 v19 h1 g0 f20 h2 g1 fn47 h3 g2 fn80) H := hP
                    have hD : va_D A (wd_77d3d1bb h0 v0 h1 v1 t97 (-1) v4 r0 r1 r2 r3 r4 r5 r6 v5 v6 r7 r8 h2 h3 t81 r9 r10 v8 v9 r11 r12 v10 v11 r13 v12 v13 r14 v14 w15 r15 v16 v17 r16 r17 r18 r19 r20 r21 v18 r22 r23 r24 v19 h1 g0 f20 h2 g1 fn47 h3 g2 fn80) := hD
                    refine lv_goto (tgt := 44) hx hb dX12_readOffice_196 (by decide) ?_
                    refine lv_iload_n hx hb dX12_readOffice_44 rfl (lv_at hl 0 rfl) ?_
                    refine lv_if_eq (tgt := 199) hx hb dX12_readOffice_45 (by decide) (fun _ => ?_) (fun c => absurd (by decide) c)
                    refine lv_aload_n hx hb dX12_readOffice_199 rfl (lv_at hl 3 rfl) ?_
                    refine va_get (D := (dC, dI)) (ci := 12) (v := .int (-1)) (C := RX12) (T := TX12) (N := 48) hx hb hts (fun _ h => List.mem_cons_of_mem _ (List.mem_append_right _ h)) hown hK hP 0 rfl rfl 4 (by decide) (hts (.fieldLink RX12 119 "LeftArgumentsModel" "wrong" "I") (List.mem_cons_of_mem _ (List.mem_append_left _ (List.mem_of_getElem? (i := 1) rfl)))) (fun _ h9 => h9) rfl dX12_readOffice_200 ?_
                    refine lv_iconst (v := (-1)) hx hb dX12_readOffice_203 (by decide) ?_
                    refine lv_icmp_ne (tgt := 226) hx hb dX12_readOffice_204 (by decide) (fun c => absurd (by decide) c) (fun _ => ?_)
                    refine lv_aload_n hx hb dX12_readOffice_207 rfl (lv_at hl 3 rfl) ?_
                    have hPc := hP.sub (ws' := (wd_f4cd022e h0 v0 h1 v1 t97 (-1) v4 r0 r1 r2 r3 r4 r5 r6 v5 v6 r7 r8 h2 h3 t81 r9 r10 v8 v9 r11 r12 v10 v11 r13 v12 v13 r14 v14 w15 r15 v16 v17 r16 r17 r18 r19 r20 r21 v18 r22 r23 r24 v19 h1 g0 f20)) [0, 1] rfl
                    have hDc := hD.sub (ws' := (wd_f4cd022e h0 v0 h1 v1 t97 (-1) v4 r0 r1 r2 r3 r4 r5 r6 v5 v6 r7 r8 h2 h3 t81 r9 r10 v8 v9 r11 r12 v10 v11 r13 v12 v13 r14 v14 w15 r15 v16 v17 r16 r17 r18 r19 r20 r21 v18 r22 r23 r24 v19 h1 g0 f20)) [0, 1] (by decide) rfl
                    have hKc := hK.sub (tys' := [(g0, .int)]) [0] rfl
                    have hFc := va_free (wc := (wd_f4cd022e h0 v0 h1 v1 t97 (-1) v4 r0 r1 r2 r3 r4 r5 r6 v5 v6 r7 r8 h2 h3 t81 r9 r10 v8 v9 r11 r12 v10 v11 r13 v12 v13 r14 v14 w15 r15 v16 v17 r16 r17 r18 r19 r20 r21 v18 r22 r23 r24 v19 h1 g0 f20)) hD hS hA [0, 1] rfl
                    refine va_calli (va_runV (As := []) (rest := []) ⟨hx, hb, hml, hown, hts⟩ (k_X12_look l dC dI h0 h1 v0 v1 t97 ((-1)) v4 r0 r1 r2 r3 r4 r5 r6 v5 v6 r7 r8 h2 h3 t81 r9 r10 v8 v9 r11 r12 v10 v11 r13 v12 v13 r14 v14 w15 r15 v16 v17 r16 r17 r18 r19 r20 r21 v18 r22 r23 r24 v19 g0 f20 ⟨by first | omega | decide, by first | omega | decide⟩ ⟨by first | omega | decide, by first | omega | decide⟩ ⟨by first | omega | decide, by first | omega | decide⟩ ⟨by first | omega | decide, by first | omega | decide⟩ ⟨by first | omega | decide, by first | omega | decide⟩ ⟨by first | omega | decide, by first | omega | decide⟩ ⟨by first | omega | decide, by first | omega | decide⟩ ⟨by first | omega | decide, by first | omega | decide⟩ ⟨by first | omega | decide, by first | omega | decide⟩ ⟨by first | omega | decide, by first | omega | decide⟩ ⟨by first | omega | decide, by first | omega | decide⟩ ia_f20 H.size) (cwV 0 hts g_X12_readOffice_4 rfl rfl rfl (by decide +kernel) ⟨Nat.le_of_ble_eq_true rfl, Nat.le_of_ble_eq_true rfl⟩) ⟨fun a U g mk q => by obtain ⟨q0, q1, qP, qK, qD⟩ := q; exact ⟨q0, q1, qP, va_K.moved (u := U) (U := U.calling g mk a) (Vm.Alike.refl U.vm) qK, qD⟩, va_recv hKc hPc (ci := 12) (q0 := 0) rfl rfl, fun U hU hW => ⟨rfl, by rw [hU], by rw [hU]; exact hPc, va_K.moved hW.alike hKc, hDc.weaken (fun _ _ _ _ => trivial)⟩⟩ rfl rfl hl.1 rfl (lv_room (Nat.le_of_ble_eq_true rfl)) dX12_readOffice_208 ⟨Nat.le_of_ble_eq_true rfl, Nat.le_of_ble_eq_true rfl⟩) hS (fun q _ h => hFc q h) hFc (fun ra98 u t H1 locs ht hvm hwra98 hB hz1 hk1 hS => ?_)
                    try rw [hwra98] at hB
                    have hkra98_0 : (((-1) : Int32)).toInt = -1 := by decide
                    rcases hB with hB | hB
                    · skip
                      obtain ⟨x99, oa_x99, ob_x99, pt0_ra98, pt1_ra98, pt2_ra98, pt3_ra98, pt4_ra98, pt5_ra98, pt6_ra98, hP1, hK1, hD1⟩ := hB
                      rw [ht] at hP1
                      obtain ⟨hP, hD⟩ := va_join (wr := (wd_5ef8c86c h2 g1 fn47 h3 g2 fn80)) (w1 := (wd_f4cd022e h0 v0 h1 v1 x99 (-1) v4 r0 r1 r2 r3 r4 r5 r6 v5 v6 r7 r8 h2 h3 t81 r9 r10 v8 v9 r11 r12 v10 v11 r13 v12 v13 r14 v14 w15 r15 v16 v17 r16 r17 r18 r19 r20 r21 v18 r22 r23 r24 v19 h1 g0 f20)) hP hD [0, 1] [2, 3] rfl rfl (by decide) (by decide) hk1 hFc hP1 hD1
                      generalize H1 = H at hP hS ⊢
                      have hP := hP.sub (ws' := (wd_77d3d1bb h0 v0 h1 v1 x99 (-1) v4 r0 r1 r2 r3 r4 r5 r6 v5 v6 r7 r8 h2 h3 t81 r9 r10 v8 v9 r11 r12 v10 v11 r13 v12 v13 r14 v14 w15 r15 v16 v17 r16 r17 r18 r19 r20 r21 v18 r22 r23 r24 v19 h1 g0 f20 h2 g1 fn47 h3 g2 fn80)) [2, 3, 0, 1] rfl
                      have hD := hD.sub (ws' := (wd_77d3d1bb h0 v0 h1 v1 x99 (-1) v4 r0 r1 r2 r3 r4 r5 r6 v5 v6 r7 r8 h2 h3 t81 r9 r10 v8 v9 r11 r12 v10 v11 r13 v12 v13 r14 v14 w15 r15 v16 v17 r16 r17 r18 r19 r20 r21 v18 r22 r23 r24 v19 h1 g0 f20 h2 g1 fn47 h3 g2 fn80)) [2, 3, 0, 1] (by decide) rfl
                      have hP : va_P (dC, dI) vwCl (wd_77d3d1bb h0 v0 h1 v1 x99 (-1) v4 r0 r1 r2 r3 r4 r5 r6 v5 v6 r7 r8 h2 h3 t81 r9 r10 v8 v9 r11 r12 v10 v11 r13 v12 v13 r14 v14 w15 r15 v16 v17 r16 r17 r18 r19 r20 r21 v18 r22 r23 r24 v19 h1 g0 f20 h2 g1 fn47 h3 g2 fn80) H := hP
                      have hD : va_D A (wd_77d3d1bb h0 v0 h1 v1 x99 (-1) v4 r0 r1 r2 r3 r4 r5 r6 v5 v6 r7 r8 h2 h3 t81 r9 r10 v8 v9 r11 r12 v10 v11 r13 v12 v13 r14 v14 w15 r15 v16 v17 r16 r17 r18 r19 r20 r21 v18 r22 r23 r24 v19 h1 g0 f20 h2 g1 fn47 h3 g2 fn80) := hD
                      obtain rfl : ra98 = ((-1) : Int32) := Int32.toInt_inj.mp (by rw [show (((-1) : Int32)).toInt = -1 by decide]; omega)
                      refine lv_iconst (v := (-1)) hx hb dX12_readOffice_211 (by decide) ?_
                      refine lv_icmp_ne (tgt := 222) hx hb dX12_readOffice_212 (by decide) (fun c => absurd (by decide) c) (fun _ => ?_)
                      refine lv_aload_n hx hb dX12_readOffice_215 rfl (lv_at hl 3 rfl) ?_
                      have hPc := hP.sub (ws' := (wd_4d81ce87 h0 v0 h1 v1 x99 (-1) v4 r0 r1 r2 r3 r4 r5 r6 v5 v6 r7 r8 h2 h3 t81 r9 r10 v8 v9 r11 r12 v10 v11 r13 v12 v13 r14 v14 w15 r15 v16 v17 r16 r17 r18 r19 r20 r21 v18 r22 r23 r24 v19 h2 g1 fn47 h3 g2 fn80)) [0, 2, 3] rfl
                      have hDc := hD.sub (ws' := (wd_4d81ce87 h0 v0 h1 v1 x99 (-1) v4 r0 r1 r2 r3 r4 r5 r6 v5 v6 r7 r8 h2 h3 t81 r9 r10 v8 v9 r11 r12 v10 v11 r13 v12 v13 r14 v14 w15 r15 v16 v17 r16 r17 r18 r19 r20 r21 v18 r22 r23 r24 v19 h2 g1 fn47 h3 g2 fn80)) [0, 2, 3] (by decide) rfl
                      have hKc := hK.sub (tys' := [(g1, .int), (g2, .int)]) [1, 2] rfl
                      have hFc := va_free (wc := (wd_4d81ce87 h0 v0 h1 v1 x99 (-1) v4 r0 r1 r2 r3 r4 r5 r6 v5 v6 r7 r8 h2 h3 t81 r9 r10 v8 v9 r11 r12 v10 v11 r13 v12 v13 r14 v14 w15 r15 v16 v17 r16 r17 r18 r19 r20 r21 v18 r22 r23 r24 v19 h2 g1 fn47 h3 g2 fn80)) hD hS hA [0, 2, 3] rfl
                      refine va_calli (va_runV (As := []) (rest := []) ⟨hx, hb, hml, hown, hts⟩ (k_X12_isWhole l dC dI h0 h2 h3 v0 h1 v1 x99 ((-1)) v4 r0 r1 r2 r3 r4 r5 r6 v5 v6 r7 r8 t81 r9 r10 v8 v9 r11 r12 v10 v11 r13 v12 v13 r14 v14 w15 r15 v16 v17 r16 r17 r18 r19 r20 r21 v18 r22 r23 r24 v19 g1 fn47 g2 fn80 ⟨by first | omega | decide, by first | omega | decide⟩ ⟨by first | omega | decide, by first | omega | decide⟩ ⟨by first | omega | decide, by first | omega | decide⟩ ⟨by first | omega | decide, by first | omega | decide⟩ ⟨by first | omega | decide, by first | omega | decide⟩ ⟨by first | omega | decide, by first | omega | decide⟩ ⟨by first | omega | decide, by first | omega | decide⟩ ⟨by first | omega | decide, by first | omega | decide⟩ ⟨by first | omega | decide, by first | omega | decide⟩ ⟨by first | omega | decide, by first | omega | decide⟩ H.size) (cwV 0 hts g_X12_readOffice_11 rfl rfl rfl (by decide +kernel) ⟨Nat.le_of_ble_eq_true rfl, Nat.le_of_ble_eq_true rfl⟩) ⟨fun a U g mk q => by obtain ⟨q0, q1, qP, qK, qD⟩ := q; exact ⟨q0, q1, qP, va_K.moved (u := U) (U := U.calling g mk a) (Vm.Alike.refl U.vm) qK, qD⟩, va_recv hKc hPc (ci := 12) (q0 := 0) rfl rfl, fun U hU hW => ⟨rfl, by rw [hU], by rw [hU]; exact hPc, va_K.moved hW.alike hKc, hDc.weaken (fun _ _ _ _ => trivial)⟩⟩ rfl rfl hl.1 rfl (lv_room (Nat.le_of_ble_eq_true rfl)) dX12_readOffice_216 ⟨Nat.le_of_ble_eq_true rfl, Nat.le_of_ble_eq_true rfl⟩) hS (fun q _ h => hFc q h) hFc (fun ra100 u t H1 locs ht hvm hwra100 hB hz1 hk1 hS => ?_)
                      try rw [hwra100] at hB
                      have hkra100_0 : (((-1) : Int32)).toInt = -1 := by decide
                      obtain ⟨pt0_ra100, pt1_ra100, pt2_ra100, hP1, hK1, hD1⟩ := hB
                      rw [ht] at hP1
                      obtain ⟨hP, hD⟩ := va_join (wr := (wd_d0032b31 h1 g0 f20)) (w1 := (wd_4d81ce87 h0 v0 h1 v1 x99 (-1) v4 r0 r1 r2 r3 r4 r5 r6 v5 v6 r7 r8 h2 h3 t81 r9 r10 v8 v9 r11 r12 v10 v11 r13 v12 v13 r14 v14 w15 r15 v16 v17 r16 r17 r18 r19 r20 r21 v18 r22 r23 r24 v19 h2 g1 fn47 h3 g2 fn80)) hP hD [0, 2, 3] [1] rfl rfl (by decide) (by decide) hk1 hFc hP1 hD1
                      generalize H1 = H at hP hS ⊢
                      have hP := hP.sub (ws' := (wd_77d3d1bb h0 v0 h1 v1 x99 (-1) v4 r0 r1 r2 r3 r4 r5 r6 v5 v6 r7 r8 h2 h3 t81 r9 r10 v8 v9 r11 r12 v10 v11 r13 v12 v13 r14 v14 w15 r15 v16 v17 r16 r17 r18 r19 r20 r21 v18 r22 r23 r24 v19 h1 g0 f20 h2 g1 fn47 h3 g2 fn80)) [1, 0, 2, 3] rfl
                      have hD := hD.sub (ws' := (wd_77d3d1bb h0 v0 h1 v1 x99 (-1) v4 r0 r1 r2 r3 r4 r5 r6 v5 v6 r7 r8 h2 h3 t81 r9 r10 v8 v9 r11 r12 v10 v11 r13 v12 v13 r14 v14 w15 r15 v16 v17 r16 r17 r18 r19 r20 r21 v18 r22 r23 r24 v19 h1 g0 f20 h2 g1 fn47 h3 g2 fn80)) [1, 0, 2, 3] (by decide) rfl
                      have hP : va_P (dC, dI) vwCl (wd_77d3d1bb h0 v0 h1 v1 x99 (-1) v4 r0 r1 r2 r3 r4 r5 r6 v5 v6 r7 r8 h2 h3 t81 r9 r10 v8 v9 r11 r12 v10 v11 r13 v12 v13 r14 v14 w15 r15 v16 v17 r16 r17 r18 r19 r20 r21 v18 r22 r23 r24 v19 h1 g0 f20 h2 g1 fn47 h3 g2 fn80) H := hP
                      have hD : va_D A (wd_77d3d1bb h0 v0 h1 v1 x99 (-1) v4 r0 r1 r2 r3 r4 r5 r6 v5 v6 r7 r8 h2 h3 t81 r9 r10 v8 v9 r11 r12 v10 v11 r13 v12 v13 r14 v14 w15 r15 v16 v17 r16 r17 r18 r19 r20 r21 v18 r22 r23 r24 v19 h1 g0 f20 h2 g1 fn47 h3 g2 fn80) := hD
                      have hw1ra100 : ra100.toInt = 1 → pg_wh t81.toInt fn47 fn80 = true := fun h9 => by rcases pt2_ra100 with h8 | h8; exact h8.2; exfalso; omega
                      have hw0ra100 : ra100.toInt = 0 → pg_wh t81.toInt fn47 fn80 = false := fun h9 => by rcases pt2_ra100 with h8 | h8; exfalso; omega; exact h8.2
                      refine lv_if_ne (tgt := 226) hx hb dX12_readOffice_219 (by decide) (fun c101 => ?_) (fun c101 => ?_)
                      · skip
                        have fc101 : ¬ (ra100.toInt = 0) := fun h9 => c101 (Int32.toInt_inj.mp h9)
                        have q1hw1ra100 := hw1ra100 (by omega)
                        refine lv_aload_n hx hb dX12_readOffice_226 rfl (lv_at hl 3 rfl) ?_
                        refine va_get (D := (dC, dI)) (ci := 12) (v := .int (-1)) (C := RX12) (T := TX12) (N := 48) hx hb hts (fun _ h => List.mem_cons_of_mem _ (List.mem_append_right _ h)) hown hK hP 0 rfl rfl 4 (by decide) (hts (.fieldLink RX12 119 "LeftArgumentsModel" "wrong" "I") (List.mem_cons_of_mem _ (List.mem_append_left _ (List.mem_of_getElem? (i := 1) rfl)))) (fun _ h9 => h9) rfl dX12_readOffice_227 ?_
                        subst hQ
                        have hP9 := hP.sub (ws' := (wd_77d3d1bb h0 v0 h1 v1 x99 (-1) v4 r0 r1 r2 r3 r4 r5 r6 v5 v6 r7 r8 h2 h3 t81 r9 r10 v8 v9 r11 r12 v10 v11 r13 v12 v13 r14 v14 w15 r15 v16 v17 r16 r17 r18 r19 r20 r21 v18 r22 r23 r24 v19 h1 g0 f20 h2 g1 fn47 h3 g2 fn80)) [0, 1, 2, 3] rfl
                        have hD9 := hD.sub (ws' := (wd_77d3d1bb h0 v0 h1 v1 x99 (-1) v4 r0 r1 r2 r3 r4 r5 r6 v5 v6 r7 r8 h2 h3 t81 r9 r10 v8 v9 r11 r12 v10 v11 r13 v12 v13 r14 v14 w15 r15 v16 v17 r16 r17 r18 r19 r20 r21 v18 r22 r23 r24 v19 h1 g0 f20 h2 g1 fn47 h3 g2 fn80)) [0, 1, 2, 3] (by decide) rfl
                        have hK9 := hK.sub (tys' := []) [] rfl
                        exact W.iret (v := (-1)) hx hb hr (fun t ht hW => ⟨⟨(-1), (-1), rfl, rfl, Or.inl ⟨x99, t81, fn47, fn80, by first | omega | decide, by first | omega | decide, by first | omega | decide, by first | omega | decide, by first | omega | decide, by first | omega | decide, by assumption, by first | assumption | (apply pm_BG.add <;> first | assumption | omega), by apply pg_office.g2 (R := f21) (B := f22) <;> first | assumption | omega | (apply pg_O.s0 <;> first | assumption | omega) | (apply pg_O.b0 <;> first | assumption | omega), by rw [ht]; exact hP9, va_K.moved hW.alike hK9, hD9⟩⟩, hS.F ht⟩) hS.2.2 dX12_readOffice_230
                      · skip
                        have fc101 : ra100.toInt = 0 := congrArg Int32.toInt c101
                        have q0hw0ra100 := hw0ra100 (by omega)
                        refine lv_aload_n hx hb dX12_readOffice_222 rfl (lv_at hl 3 rfl) ?_
                        have hPc := hP.sub (ws' := (wd_171f232f h0 v0 h1 v1 x99 (-1) v4 r0 r1 r2 r3 r4 r5 r6 v5 v6 r7 r8 h2 h3 t81 r9 r10 v8 v9 r11 r12 v10 v11 r13 v12 v13 r14 v14 w15 r15 v16 v17 r16 r17 r18 r19 r20 r21 v18 r22 r23 r24 v19)) [0] rfl
                        have hDc := hD.sub (ws' := (wd_171f232f h0 v0 h1 v1 x99 (-1) v4 r0 r1 r2 r3 r4 r5 r6 v5 v6 r7 r8 h2 h3 t81 r9 r10 v8 v9 r11 r12 v10 v11 r13 v12 v13 r14 v14 w15 r15 v16 v17 r16 r17 r18 r19 r20 r21 v18 r22 r23 r24 v19)) [0] (by decide) rfl
                        have hKc := hK.sub (tys' := []) [] rfl
                        have hFc := va_free (wc := (wd_171f232f h0 v0 h1 v1 x99 (-1) v4 r0 r1 r2 r3 r4 r5 r6 v5 v6 r7 r8 h2 h3 t81 r9 r10 v8 v9 r11 r12 v10 v11 r13 v12 v13 r14 v14 w15 r15 v16 v17 r16 r17 r18 r19 r20 r21 v18 r22 r23 r24 v19)) hD hS hA [0] rfl
                        refine va_callv (va_runV (As := []) (rest := []) ⟨hx, hb, hml, hown, hts⟩ (k_X12_bad l dC dI h0 v0 h1 v1 x99 v4 r0 r1 r2 r3 r4 r5 r6 v5 v6 r7 r8 h2 h3 t81 r9 r10 v8 v9 r11 r12 v10 v11 r13 v12 v13 r14 v14 w15 r15 v16 v17 r16 r17 r18 r19 r20 r21 v18 r22 r23 r24 v19 ⟨by first | omega | decide, by first | omega | decide⟩ ⟨by first | omega | decide, by first | omega | decide⟩ ⟨by first | omega | decide, by first | omega | decide⟩ ⟨by first | omega | decide, by first | omega | decide⟩ ⟨by first | omega | decide, by first | omega | decide⟩ ⟨by first | omega | decide, by first | omega | decide⟩ ⟨by first | omega | decide, by first | omega | decide⟩ ⟨by first | omega | decide, by first | omega | decide⟩ ⟨by first | omega | decide, by first | omega | decide⟩ ⟨by first | omega | decide, by first | omega | decide⟩ ⟨by first | omega | decide, by first | omega | decide⟩ H.size) (cwV 0 hts g_X12_readOffice_5 rfl rfl rfl (by decide +kernel) ⟨Nat.le_of_ble_eq_true rfl, Nat.le_of_ble_eq_true rfl⟩) ⟨fun a U g mk q => by obtain ⟨q0, q1, qP, qK, qD⟩ := q; exact ⟨q0, q1, qP, va_K.moved (u := U) (U := U.calling g mk a) (Vm.Alike.refl U.vm) qK, qD⟩, va_recv hKc hPc (ci := 12) (q0 := 0) rfl rfl, fun U hU hW => ⟨rfl, by rw [hU], by rw [hU]; exact hPc, va_K.moved hW.alike hKc, hDc.weaken (fun _ _ _ _ => trivial)⟩⟩ rfl rfl hl.1 rfl (lv_room (Nat.le_of_ble_eq_true rfl)) dX12_readOffice_223 ⟨Nat.le_of_ble_eq_true rfl, Nat.le_of_ble_eq_true rfl⟩) hS (fun q _ h => hFc q h) hFc (fun u t H1 locs ht hvm hwra102 hB hz1 hk1 hS => ?_)
                        obtain ⟨x103, oa_x103, ob_x103, pt0_ra102, hP1, hK1, hD1⟩ := hB
                        rw [ht] at hP1
                        obtain ⟨hP, hD⟩ := va_join (wr := (wd_bcaf9cf2 h1 g0 f20 h2 g1 fn47 h3 g2 fn80)) (w1 := (wd_171f232f h0 v0 h1 v1 x99 x103 v4 r0 r1 r2 r3 r4 r5 r6 v5 v6 r7 r8 h2 h3 t81 r9 r10 v8 v9 r11 r12 v10 v11 r13 v12 v13 r14 v14 w15 r15 v16 v17 r16 r17 r18 r19 r20 r21 v18 r22 r23 r24 v19)) hP hD [0] [1, 2, 3] rfl rfl (by decide) (by decide) hk1 hFc hP1 hD1
                        generalize H1 = H at hP hS ⊢
                        have hP := hP.sub (ws' := (wd_77d3d1bb h0 v0 h1 v1 x99 x103 v4 r0 r1 r2 r3 r4 r5 r6 v5 v6 r7 r8 h2 h3 t81 r9 r10 v8 v9 r11 r12 v10 v11 r13 v12 v13 r14 v14 w15 r15 v16 v17 r16 r17 r18 r19 r20 r21 v18 r22 r23 r24 v19 h1 g0 f20 h2 g1 fn47 h3 g2 fn80)) [3, 0, 1, 2] rfl
                        have hD := hD.sub (ws' := (wd_77d3d1bb h0 v0 h1 v1 x99 x103 v4 r0 r1 r2 r3 r4 r5 r6 v5 v6 r7 r8 h2 h3 t81 r9 r10 v8 v9 r11 r12 v10 v11 r13 v12 v13 r14 v14 w15 r15 v16 v17 r16 r17 r18 r19 r20 r21 v18 r22 r23 r24 v19 h1 g0 f20 h2 g1 fn47 h3 g2 fn80)) [3, 0, 1, 2] (by decide) rfl
                        have hP : va_P (dC, dI) vwCl (wd_77d3d1bb h0 v0 h1 v1 x99 x103 v4 r0 r1 r2 r3 r4 r5 r6 v5 v6 r7 r8 h2 h3 t81 r9 r10 v8 v9 r11 r12 v10 v11 r13 v12 v13 r14 v14 w15 r15 v16 v17 r16 r17 r18 r19 r20 r21 v18 r22 r23 r24 v19 h1 g0 f20 h2 g1 fn47 h3 g2 fn80) H := hP
                        have hD : va_D A (wd_77d3d1bb h0 v0 h1 v1 x99 x103 v4 r0 r1 r2 r3 r4 r5 r6 v5 v6 r7 r8 h2 h3 t81 r9 r10 v8 v9 r11 r12 v10 v11 r13 v12 v13 r14 v14 w15 r15 v16 v17 r16 r17 r18 r19 r20 r21 v18 r22 r23 r24 v19 h1 g0 f20 h2 g1 fn47 h3 g2 fn80) := hD
                        refine lv_aload_n hx hb dX12_readOffice_226 rfl (lv_at hl 3 rfl) ?_
                        refine va_get (D := (dC, dI)) (ci := 12) (v := .int x103) (C := RX12) (T := TX12) (N := 48) hx hb hts (fun _ h => List.mem_cons_of_mem _ (List.mem_append_right _ h)) hown hK hP 0 rfl rfl 4 (by decide) (hts (.fieldLink RX12 119 "LeftArgumentsModel" "wrong" "I") (List.mem_cons_of_mem _ (List.mem_append_left _ (List.mem_of_getElem? (i := 1) rfl)))) (fun _ h9 => h9) rfl dX12_readOffice_227 ?_
                        subst hQ
                        have hP9 := hP.sub (ws' := (wd_77d3d1bb h0 v0 h1 v1 x99 x103 v4 r0 r1 r2 r3 r4 r5 r6 v5 v6 r7 r8 h2 h3 t81 r9 r10 v8 v9 r11 r12 v10 v11 r13 v12 v13 r14 v14 w15 r15 v16 v17 r16 r17 r18 r19 r20 r21 v18 r22 r23 r24 v19 h1 g0 f20 h2 g1 fn47 h3 g2 fn80)) [0, 1, 2, 3] rfl
                        have hD9 := hD.sub (ws' := (wd_77d3d1bb h0 v0 h1 v1 x99 x103 v4 r0 r1 r2 r3 r4 r5 r6 v5 v6 r7 r8 h2 h3 t81 r9 r10 v8 v9 r11 r12 v10 v11 r13 v12 v13 r14 v14 w15 r15 v16 v17 r16 r17 r18 r19 r20 r21 v18 r22 r23 r24 v19 h1 g0 f20 h2 g1 fn47 h3 g2 fn80)) [0, 1, 2, 3] (by decide) rfl
                        have hK9 := hK.sub (tys' := []) [] rfl
                        exact W.iret (v := x103) hx hb hr (fun t ht hW => ⟨⟨x103, x103, rfl, rfl, Or.inr (⟨x99, x103, t81, fn47, fn80, by first | omega | decide, by first | omega | decide, by first | omega | decide, by first | omega | decide, by first | omega | decide, by first | omega | decide, by first | omega | decide, by first | omega | decide, by first | (apply pg_office.b0 (R := f21) (B := f22) <;> first | assumption | omega | (apply pg_O.sf <;> first | assumption | omega) | (apply pg_O.bf <;> first | assumption | omega) | (apply pg_O.w <;> first | assumption | omega)) | (apply pg_office.b1 (R := f21) (B := f22) <;> first | assumption | omega | (apply pg_O.s0 <;> first | assumption | omega) | (apply pg_O.b0 <;> first | assumption | omega)) | (apply pg_office.b2 (R := f21) (B := f22) <;> first | assumption | omega | (apply pg_O.s0 <;> first | assumption | omega) | (apply pg_O.b0 <;> first | assumption | omega)), by omega, by rw [ht]; exact hP9, va_K.moved hW.alike hK9, hD9⟩)⟩, hS.F ht⟩) hS.2.2 dX12_readOffice_230
                    · skip
                      obtain ⟨x104, oa_x104, ob_x104, pt0_ra98, pt1_ra98, pt2_ra98, pt3_ra98, pt4_ra98, pt5_ra98, pt6_ra98, pt7_ra98, hP1, hK1, hD1⟩ := hB
                      rw [ht] at hP1
                      obtain ⟨hP, hD⟩ := va_join (wr := (wd_5ef8c86c h2 g1 fn47 h3 g2 fn80)) (w1 := (wd_f4cd022e h0 v0 h1 v1 x104 (-1) v4 r0 r1 r2 r3 r4 r5 r6 v5 v6 r7 r8 h2 h3 t81 r9 r10 v8 v9 r11 r12 v10 v11 r13 v12 v13 r14 v14 w15 r15 v16 v17 r16 r17 r18 r19 r20 r21 v18 r22 r23 r24 v19 h1 g0 f20)) hP hD [0, 1] [2, 3] rfl rfl (by decide) (by decide) hk1 hFc hP1 hD1
                      generalize H1 = H at hP hS ⊢
                      have hP := hP.sub (ws' := (wd_77d3d1bb h0 v0 h1 v1 x104 (-1) v4 r0 r1 r2 r3 r4 r5 r6 v5 v6 r7 r8 h2 h3 t81 r9 r10 v8 v9 r11 r12 v10 v11 r13 v12 v13 r14 v14 w15 r15 v16 v17 r16 r17 r18 r19 r20 r21 v18 r22 r23 r24 v19 h1 g0 f20 h2 g1 fn47 h3 g2 fn80)) [2, 3, 0, 1] rfl
                      have hD := hD.sub (ws' := (wd_77d3d1bb h0 v0 h1 v1 x104 (-1) v4 r0 r1 r2 r3 r4 r5 r6 v5 v6 r7 r8 h2 h3 t81 r9 r10 v8 v9 r11 r12 v10 v11 r13 v12 v13 r14 v14 w15 r15 v16 v17 r16 r17 r18 r19 r20 r21 v18 r22 r23 r24 v19 h1 g0 f20 h2 g1 fn47 h3 g2 fn80)) [2, 3, 0, 1] (by decide) rfl
                      have hP : va_P (dC, dI) vwCl (wd_77d3d1bb h0 v0 h1 v1 x104 (-1) v4 r0 r1 r2 r3 r4 r5 r6 v5 v6 r7 r8 h2 h3 t81 r9 r10 v8 v9 r11 r12 v10 v11 r13 v12 v13 r14 v14 w15 r15 v16 v17 r16 r17 r18 r19 r20 r21 v18 r22 r23 r24 v19 h1 g0 f20 h2 g1 fn47 h3 g2 fn80) H := hP
                      have hD : va_D A (wd_77d3d1bb h0 v0 h1 v1 x104 (-1) v4 r0 r1 r2 r3 r4 r5 r6 v5 v6 r7 r8 h2 h3 t81 r9 r10 v8 v9 r11 r12 v10 v11 r13 v12 v13 r14 v14 w15 r15 v16 v17 r16 r17 r18 r19 r20 r21 v18 r22 r23 r24 v19 h1 g0 f20 h2 g1 fn47 h3 g2 fn80) := hD
                      refine lv_iconst (v := (-1)) hx hb dX12_readOffice_211 (by decide) ?_
                      refine lv_icmp_ne (tgt := 222) hx hb dX12_readOffice_212 (by decide) (fun _ => ?_) (fun c105 => by exfalso; have fc105 : ra98.toInt = (-1) := congrArg Int32.toInt c105; omega)
                      refine lv_aload_n hx hb dX12_readOffice_222 rfl (lv_at hl 3 rfl) ?_
                      have hPc := hP.sub (ws' := (wd_171f232f h0 v0 h1 v1 x104 (-1) v4 r0 r1 r2 r3 r4 r5 r6 v5 v6 r7 r8 h2 h3 t81 r9 r10 v8 v9 r11 r12 v10 v11 r13 v12 v13 r14 v14 w15 r15 v16 v17 r16 r17 r18 r19 r20 r21 v18 r22 r23 r24 v19)) [0] rfl
                      have hDc := hD.sub (ws' := (wd_171f232f h0 v0 h1 v1 x104 (-1) v4 r0 r1 r2 r3 r4 r5 r6 v5 v6 r7 r8 h2 h3 t81 r9 r10 v8 v9 r11 r12 v10 v11 r13 v12 v13 r14 v14 w15 r15 v16 v17 r16 r17 r18 r19 r20 r21 v18 r22 r23 r24 v19)) [0] (by decide) rfl
                      have hKc := hK.sub (tys' := []) [] rfl
                      have hFc := va_free (wc := (wd_171f232f h0 v0 h1 v1 x104 (-1) v4 r0 r1 r2 r3 r4 r5 r6 v5 v6 r7 r8 h2 h3 t81 r9 r10 v8 v9 r11 r12 v10 v11 r13 v12 v13 r14 v14 w15 r15 v16 v17 r16 r17 r18 r19 r20 r21 v18 r22 r23 r24 v19)) hD hS hA [0] rfl
                      refine va_callv (va_runV (As := []) (rest := []) ⟨hx, hb, hml, hown, hts⟩ (k_X12_bad l dC dI h0 v0 h1 v1 x104 v4 r0 r1 r2 r3 r4 r5 r6 v5 v6 r7 r8 h2 h3 t81 r9 r10 v8 v9 r11 r12 v10 v11 r13 v12 v13 r14 v14 w15 r15 v16 v17 r16 r17 r18 r19 r20 r21 v18 r22 r23 r24 v19 ⟨by first | omega | decide, by first | omega | decide⟩ ⟨by first | omega | decide, by first | omega | decide⟩ ⟨by first | omega | decide, by first | omega | decide⟩ ⟨by first | omega | decide, by first | omega | decide⟩ ⟨by first | omega | decide, by first | omega | decide⟩ ⟨by first | omega | decide, by first | omega | decide⟩ ⟨by first | omega | decide, by first | omega | decide⟩ ⟨by first | omega | decide, by first | omega | decide⟩ ⟨by first | omega | decide, by first | omega | decide⟩ ⟨by first | omega | decide, by first | omega | decide⟩ ⟨by first | omega | decide, by first | omega | decide⟩ H.size) (cwV 0 hts g_X12_readOffice_5 rfl rfl rfl (by decide +kernel) ⟨Nat.le_of_ble_eq_true rfl, Nat.le_of_ble_eq_true rfl⟩) ⟨fun a U g mk q => by obtain ⟨q0, q1, qP, qK, qD⟩ := q; exact ⟨q0, q1, qP, va_K.moved (u := U) (U := U.calling g mk a) (Vm.Alike.refl U.vm) qK, qD⟩, va_recv hKc hPc (ci := 12) (q0 := 0) rfl rfl, fun U hU hW => ⟨rfl, by rw [hU], by rw [hU]; exact hPc, va_K.moved hW.alike hKc, hDc.weaken (fun _ _ _ _ => trivial)⟩⟩ rfl rfl hl.1 rfl (lv_room (Nat.le_of_ble_eq_true rfl)) dX12_readOffice_223 ⟨Nat.le_of_ble_eq_true rfl, Nat.le_of_ble_eq_true rfl⟩) hS (fun q _ h => hFc q h) hFc (fun u t H1 locs ht hvm hwra106 hB hz1 hk1 hS => ?_)
                      obtain ⟨x107, oa_x107, ob_x107, pt0_ra106, hP1, hK1, hD1⟩ := hB
                      rw [ht] at hP1
                      obtain ⟨hP, hD⟩ := va_join (wr := (wd_bcaf9cf2 h1 g0 f20 h2 g1 fn47 h3 g2 fn80)) (w1 := (wd_171f232f h0 v0 h1 v1 x104 x107 v4 r0 r1 r2 r3 r4 r5 r6 v5 v6 r7 r8 h2 h3 t81 r9 r10 v8 v9 r11 r12 v10 v11 r13 v12 v13 r14 v14 w15 r15 v16 v17 r16 r17 r18 r19 r20 r21 v18 r22 r23 r24 v19)) hP hD [0] [1, 2, 3] rfl rfl (by decide) (by decide) hk1 hFc hP1 hD1
                      generalize H1 = H at hP hS ⊢
                      have hP := hP.sub (ws' := (wd_77d3d1bb h0 v0 h1 v1 x104 x107 v4 r0 r1 r2 r3 r4 r5 r6 v5 v6 r7 r8 h2 h3 t81 r9 r10 v8 v9 r11 r12 v10 v11 r13 v12 v13 r14 v14 w15 r15 v16 v17 r16 r17 r18 r19 r20 r21 v18 r22 r23 r24 v19 h1 g0 f20 h2 g1 fn47 h3 g2 fn80)) [3, 0, 1, 2] rfl
                      have hD := hD.sub (ws' := (wd_77d3d1bb h0 v0 h1 v1 x104 x107 v4 r0 r1 r2 r3 r4 r5 r6 v5 v6 r7 r8 h2 h3 t81 r9 r10 v8 v9 r11 r12 v10 v11 r13 v12 v13 r14 v14 w15 r15 v16 v17 r16 r17 r18 r19 r20 r21 v18 r22 r23 r24 v19 h1 g0 f20 h2 g1 fn47 h3 g2 fn80)) [3, 0, 1, 2] (by decide) rfl
                      have hP : va_P (dC, dI) vwCl (wd_77d3d1bb h0 v0 h1 v1 x104 x107 v4 r0 r1 r2 r3 r4 r5 r6 v5 v6 r7 r8 h2 h3 t81 r9 r10 v8 v9 r11 r12 v10 v11 r13 v12 v13 r14 v14 w15 r15 v16 v17 r16 r17 r18 r19 r20 r21 v18 r22 r23 r24 v19 h1 g0 f20 h2 g1 fn47 h3 g2 fn80) H := hP
                      have hD : va_D A (wd_77d3d1bb h0 v0 h1 v1 x104 x107 v4 r0 r1 r2 r3 r4 r5 r6 v5 v6 r7 r8 h2 h3 t81 r9 r10 v8 v9 r11 r12 v10 v11 r13 v12 v13 r14 v14 w15 r15 v16 v17 r16 r17 r18 r19 r20 r21 v18 r22 r23 r24 v19 h1 g0 f20 h2 g1 fn47 h3 g2 fn80) := hD
                      refine lv_aload_n hx hb dX12_readOffice_226 rfl (lv_at hl 3 rfl) ?_
                      refine va_get (D := (dC, dI)) (ci := 12) (v := .int x107) (C := RX12) (T := TX12) (N := 48) hx hb hts (fun _ h => List.mem_cons_of_mem _ (List.mem_append_right _ h)) hown hK hP 0 rfl rfl 4 (by decide) (hts (.fieldLink RX12 119 "LeftArgumentsModel" "wrong" "I") (List.mem_cons_of_mem _ (List.mem_append_left _ (List.mem_of_getElem? (i := 1) rfl)))) (fun _ h9 => h9) rfl dX12_readOffice_227 ?_
                      subst hQ
                      have hP9 := hP.sub (ws' := (wd_77d3d1bb h0 v0 h1 v1 x104 x107 v4 r0 r1 r2 r3 r4 r5 r6 v5 v6 r7 r8 h2 h3 t81 r9 r10 v8 v9 r11 r12 v10 v11 r13 v12 v13 r14 v14 w15 r15 v16 v17 r16 r17 r18 r19 r20 r21 v18 r22 r23 r24 v19 h1 g0 f20 h2 g1 fn47 h3 g2 fn80)) [0, 1, 2, 3] rfl
                      have hD9 := hD.sub (ws' := (wd_77d3d1bb h0 v0 h1 v1 x104 x107 v4 r0 r1 r2 r3 r4 r5 r6 v5 v6 r7 r8 h2 h3 t81 r9 r10 v8 v9 r11 r12 v10 v11 r13 v12 v13 r14 v14 w15 r15 v16 v17 r16 r17 r18 r19 r20 r21 v18 r22 r23 r24 v19 h1 g0 f20 h2 g1 fn47 h3 g2 fn80)) [0, 1, 2, 3] (by decide) rfl
                      have hK9 := hK.sub (tys' := []) [] rfl
                      exact W.iret (v := x107) hx hb hr (fun t ht hW => ⟨⟨x107, x107, rfl, rfl, Or.inr (⟨x104, x107, t81, fn47, fn80, by first | omega | decide, by first | omega | decide, by first | omega | decide, by first | omega | decide, by first | omega | decide, by first | omega | decide, by first | omega | decide, by first | omega | decide, by first | (apply pg_office.b0 (R := f21) (B := f22) <;> first | assumption | omega | (apply pg_O.sf <;> first | assumption | omega) | (apply pg_O.bf <;> first | assumption | omega) | (apply pg_O.w <;> first | assumption | omega)) | (apply pg_office.b1 (R := f21) (B := f22) <;> first | assumption | omega | (apply pg_O.s0 <;> first | assumption | omega) | (apply pg_O.b0 <;> first | assumption | omega)) | (apply pg_office.b2 (R := f21) (B := f22) <;> first | assumption | omega | (apply pg_O.s0 <;> first | assumption | omega) | (apply pg_O.b0 <;> first | assumption | omega)), by omega, by rw [ht]; exact hP9, va_K.moved hW.alike hK9, hD9⟩)⟩, hS.F ht⟩) hS.2.2 dX12_readOffice_230
                  · skip
                    have fc96 : ra82.toInt = 59 := congrArg Int32.toInt c96
                    refine lv_iconst (v := 1) hx hb dX12_readOffice_172 (by decide) ?_
                    refine lv_goto (tgt := 177) hx hb dX12_readOffice_173 (by decide) ?_
                    refine lv_istore_n (lv' := [(2, .int 1), (3, .int 98), (1, .int x44), (0, .ref h0)]) hx hb dX12_readOffice_177 rfl hl (by decide) rfl (fun ls hl => ?_)
                    refine lv_aload_n hx hb dX12_readOffice_178 rfl (lv_at hl 3 rfl) ?_
                    refine lv_dup hx hb dX12_readOffice_179 rfl ?_
                    refine va_get (D := (dC, dI)) (ci := 12) (v := .int x95) (C := RX12) (T := TX12) (N := 48) hx hb hts (fun _ h => List.mem_cons_of_mem _ (List.mem_append_right _ h)) hown hK hP 0 rfl rfl 3 (by decide) (hts (.fieldLink RX12 112 "LeftArgumentsModel" "at" "I") (List.mem_cons_of_mem _ (List.mem_append_left _ (List.mem_of_getElem? (i := 0) rfl)))) (fun _ h9 => h9) rfl dX12_readOffice_180 ?_
                    refine lv_iload_n hx hb dX12_readOffice_183 rfl (lv_at hl 0 rfl) ?_
                    refine lv_if_eq (tgt := 191) hx hb dX12_readOffice_184 (by decide) (fun c => absurd c (by decide)) (fun _ => ?_)
                    refine lv_iconst (v := 1) hx hb dX12_readOffice_187 (by decide) ?_
                    refine lv_goto (tgt := 192) hx hb dX12_readOffice_188 (by decide) ?_
                    refine lv_iadd hx hb dX12_readOffice_192 ?_
                    refine lv_topi (fun t108 et108 => ?_)
                    have gt108 : t108.toInt = x95.toInt + 1 := pv_add (a := x95.toInt) (b := 1) et108 rfl (by decide) (by omega) (by omega)
                    refine va_put (D := (dC, dI)) (ci := 12) (v := .int t108) (ty := .int) (C := RX12) (T := TX12) (N := 48) hx hb hts (fun _ h => List.mem_cons_of_mem _ (List.mem_append_right _ h)) tyX12 tyX12_ok nmX12 hown hK hP hD hS 0 rfl rfl 3 (by decide) (hts (.fieldLink RX12 112 "LeftArgumentsModel" "at" "I") (List.mem_cons_of_mem _ (List.mem_append_left _ (List.mem_of_getElem? (i := 0) rfl)))) (fun _ h9 => h9) rfl (by decide +kernel) rfl rfl (Nat.le_of_ble_eq_true rfl) dX12_readOffice_193 (fun H locs hP hD hS => ?_)
                    have hP : va_P (dC, dI) vwCl (wd_77d3d1bb h0 v0 h1 v1 t108 (-1) v4 r0 r1 r2 r3 r4 r5 r6 v5 v6 r7 r8 h2 h3 t81 r9 r10 v8 v9 r11 r12 v10 v11 r13 v12 v13 r14 v14 w15 r15 v16 v17 r16 r17 r18 r19 r20 r21 v18 r22 r23 r24 v19 h1 g0 f20 h2 g1 fn47 h3 g2 fn80) H := hP
                    have hD : va_D A (wd_77d3d1bb h0 v0 h1 v1 t108 (-1) v4 r0 r1 r2 r3 r4 r5 r6 v5 v6 r7 r8 h2 h3 t81 r9 r10 v8 v9 r11 r12 v10 v11 r13 v12 v13 r14 v14 w15 r15 v16 v17 r16 r17 r18 r19 r20 r21 v18 r22 r23 r24 v19 h1 g0 f20 h2 g1 fn47 h3 g2 fn80) := hD
                    refine lv_goto (tgt := 44) hx hb dX12_readOffice_196 (by decide) ?_
                    exact ih_hL54 x44 t108 t81 fn47 fn80 H locs ls (by first | omega | decide) (by first | omega | decide) (by first | omega | decide) (by first | omega | decide) (by first | omega | decide) (by first | omega | decide) (by first | assumption | (apply pm_RR.init <;> first | assumption | decide)) (by first | assumption | exact pm_BG.zero (by decide) | (apply pm_BG.add <;> first | assumption | omega)) (by first | assumption | (apply pg_O.ini <;> first | assumption | omega | decide | (apply pg_ur.mk <;> first | assumption | decide)) | (apply pg_O.s1 <;> first | assumption | omega) | (apply pg_O.b1 <;> first | assumption | omega)) (by first | omega | ((have h09 : ((0 : Int32)).toInt = 0 := by decide); omega)) (by first | omega | (simp only [Int.toNat] at *; omega)) hP hD hS (lv_sub hl [0, 2, 3] rfl)
              · skip
                obtain ⟨x109, x110, fn111, oa_x109, ob_x109, oa_x110, ob_x110, pt0_ra78, pt1_ra78, hP1, hK1, hD1⟩ := hB
                rw [ht] at hP1
                obtain ⟨hP, hD⟩ := va_join (wr := (wd_6f8f3203 h2 g1 fn47)) (w1 := (wd_b9c2d44b h0 v0 h1 v1 x109 x110 v4 r0 r1 r2 r3 r4 r5 r6 v5 v6 r7 r8 h2 h3 x46 r9 r10 v8 v9 r11 r12 v10 v11 r13 v12 v13 r14 v14 w15 r15 v16 v17 r16 r17 r18 r19 r20 r21 v18 r22 r23 r24 v19 h1 g0 f20 h3 g2 fn111)) hP hD [0, 1, 3] [2] rfl rfl (by decide) (by decide) hk1 hFc hP1 hD1
                generalize H1 = H at hP hS ⊢
                have hP := hP.sub (ws' := (wd_77d3d1bb h0 v0 h1 v1 x109 x110 v4 r0 r1 r2 r3 r4 r5 r6 v5 v6 r7 r8 h2 h3 x46 r9 r10 v8 v9 r11 r12 v10 v11 r13 v12 v13 r14 v14 w15 r15 v16 v17 r16 r17 r18 r19 r20 r21 v18 r22 r23 r24 v19 h1 g0 f20 h2 g1 fn47 h3 g2 fn111)) [1, 2, 0, 3] rfl
                have hD := hD.sub (ws' := (wd_77d3d1bb h0 v0 h1 v1 x109 x110 v4 r0 r1 r2 r3 r4 r5 r6 v5 v6 r7 r8 h2 h3 x46 r9 r10 v8 v9 r11 r12 v10 v11 r13 v12 v13 r14 v14 w15 r15 v16 v17 r16 r17 r18 r19 r20 r21 v18 r22 r23 r24 v19 h1 g0 f20 h2 g1 fn47 h3 g2 fn111)) [1, 2, 0, 3] (by decide) rfl
                have hP : va_P (dC, dI) vwCl (wd_77d3d1bb h0 v0 h1 v1 x109 x110 v4 r0 r1 r2 r3 r4 r5 r6 v5 v6 r7 r8 h2 h3 x46 r9 r10 v8 v9 r11 r12 v10 v11 r13 v12 v13 r14 v14 w15 r15 v16 v17 r16 r17 r18 r19 r20 r21 v18 r22 r23 r24 v19 h1 g0 f20 h2 g1 fn47 h3 g2 fn111) H := hP
                have hD : va_D A (wd_77d3d1bb h0 v0 h1 v1 x109 x110 v4 r0 r1 r2 r3 r4 r5 r6 v5 v6 r7 r8 h2 h3 x46 r9 r10 v8 v9 r11 r12 v10 v11 r13 v12 v13 r14 v14 w15 r15 v16 v17 r16 r17 r18 r19 r20 r21 v18 r22 r23 r24 v19 h1 g0 f20 h2 g1 fn47 h3 g2 fn111) := hD
                refine lv_aload_n hx hb dX12_readOffice_138 rfl (lv_at hl 3 rfl) ?_
                refine lv_dup hx hb dX12_readOffice_139 rfl ?_
                refine va_get (D := (dC, dI)) (ci := 12) (v := .int x46) (C := RX12) (T := TX12) (N := 48) hx hb hts (fun _ h => List.mem_cons_of_mem _ (List.mem_append_right _ h)) hown hK hP 0 rfl rfl 19 (by decide) (hts (.fieldLink RX12 241 "LeftArgumentsModel" "readBags" "I") (List.mem_cons_of_mem _ (List.mem_append_left _ (List.mem_of_getElem? (i := 2) rfl)))) (fun _ h9 => h9) rfl dX12_readOffice_140 ?_
                refine lv_iconst (v := 1) hx hb dX12_readOffice_143 (by decide) ?_
                refine lv_iadd hx hb dX12_readOffice_144 ?_
                refine lv_topi (fun t112 et112 => ?_)
                have gt112 : t112.toInt = x46.toInt + 1 := pv_add (a := x46.toInt) (b := 1) et112 rfl (by decide) (by omega) (by omega)
                refine va_put (D := (dC, dI)) (ci := 12) (v := .int t112) (ty := .int) (C := RX12) (T := TX12) (N := 48) hx hb hts (fun _ h => List.mem_cons_of_mem _ (List.mem_append_right _ h)) tyX12 tyX12_ok nmX12 hown hK hP hD hS 0 rfl rfl 19 (by decide) (hts (.fieldLink RX12 241 "LeftArgumentsModel" "readBags" "I") (List.mem_cons_of_mem _ (List.mem_append_left _ (List.mem_of_getElem? (i := 2) rfl)))) (fun _ h9 => h9) rfl (by decide +kernel) rfl rfl (Nat.le_of_ble_eq_true rfl) dX12_readOffice_145 (fun H locs hP hD hS => ?_)
                have hP : va_P (dC, dI) vwCl (wd_77d3d1bb h0 v0 h1 v1 x109 x110 v4 r0 r1 r2 r3 r4 r5 r6 v5 v6 r7 r8 h2 h3 t112 r9 r10 v8 v9 r11 r12 v10 v11 r13 v12 v13 r14 v14 w15 r15 v16 v17 r16 r17 r18 r19 r20 r21 v18 r22 r23 r24 v19 h1 g0 f20 h2 g1 fn47 h3 g2 fn111) H := hP
                have hD : va_D A (wd_77d3d1bb h0 v0 h1 v1 x109 x110 v4 r0 r1 r2 r3 r4 r5 r6 v5 v6 r7 r8 h2 h3 t112 r9 r10 v8 v9 r11 r12 v10 v11 r13 v12 v13 r14 v14 w15 r15 v16 v17 r16 r17 r18 r19 r20 r21 v18 r22 r23 r24 v19 h1 g0 f20 h2 g1 fn47 h3 g2 fn111) := hD
                refine lv_goto (tgt := 155) hx hb dX12_readOffice_148 (by decide) ?_
                refine lv_aload_n hx hb dX12_readOffice_155 rfl (lv_at hl 3 rfl) ?_
                refine va_get (D := (dC, dI)) (ci := 12) (v := .int x110) (C := RX12) (T := TX12) (N := 48) hx hb hts (fun _ h => List.mem_cons_of_mem _ (List.mem_append_right _ h)) hown hK hP 0 rfl rfl 4 (by decide) (hts (.fieldLink RX12 119 "LeftArgumentsModel" "wrong" "I") (List.mem_cons_of_mem _ (List.mem_append_left _ (List.mem_of_getElem? (i := 1) rfl)))) (fun _ h9 => h9) rfl dX12_readOffice_156 ?_
                refine lv_iconst (v := (-1)) hx hb dX12_readOffice_159 (by decide) ?_
                refine lv_icmp_ne (tgt := 176) hx hb dX12_readOffice_160 (by decide) (fun _ => ?_) (fun c113 => by exfalso; have fc113 : x110.toInt = (-1) := congrArg Int32.toInt c113; omega)
                refine lv_iconst (v := 0) hx hb dX12_readOffice_176 (by decide) ?_
                refine lv_istore_n (lv' := [(2, .int 0), (3, .int 98), (1, .int x44), (0, .ref h0)]) hx hb dX12_readOffice_177 rfl hl (by decide) rfl (fun ls hl => ?_)
                refine lv_aload_n hx hb dX12_readOffice_178 rfl (lv_at hl 3 rfl) ?_
                refine lv_dup hx hb dX12_readOffice_179 rfl ?_
                refine va_get (D := (dC, dI)) (ci := 12) (v := .int x109) (C := RX12) (T := TX12) (N := 48) hx hb hts (fun _ h => List.mem_cons_of_mem _ (List.mem_append_right _ h)) hown hK hP 0 rfl rfl 3 (by decide) (hts (.fieldLink RX12 112 "LeftArgumentsModel" "at" "I") (List.mem_cons_of_mem _ (List.mem_append_left _ (List.mem_of_getElem? (i := 0) rfl)))) (fun _ h9 => h9) rfl dX12_readOffice_180 ?_
                refine lv_iload_n hx hb dX12_readOffice_183 rfl (lv_at hl 0 rfl) ?_
                refine lv_if_eq (tgt := 191) hx hb dX12_readOffice_184 (by decide) (fun _ => ?_) (fun c => absurd (by decide) c)
                refine lv_iconst (v := 0) hx hb dX12_readOffice_191 (by decide) ?_
                refine lv_iadd hx hb dX12_readOffice_192 ?_
                refine lv_topi (fun t114 et114 => ?_)
                have gt114 : t114.toInt = x109.toInt + 0 := pv_add (a := x109.toInt) (b := 0) et114 rfl (by decide) (by omega) (by omega)
                refine va_put (D := (dC, dI)) (ci := 12) (v := .int t114) (ty := .int) (C := RX12) (T := TX12) (N := 48) hx hb hts (fun _ h => List.mem_cons_of_mem _ (List.mem_append_right _ h)) tyX12 tyX12_ok nmX12 hown hK hP hD hS 0 rfl rfl 3 (by decide) (hts (.fieldLink RX12 112 "LeftArgumentsModel" "at" "I") (List.mem_cons_of_mem _ (List.mem_append_left _ (List.mem_of_getElem? (i := 0) rfl)))) (fun _ h9 => h9) rfl (by decide +kernel) rfl rfl (Nat.le_of_ble_eq_true rfl) dX12_readOffice_193 (fun H locs hP hD hS => ?_)
                have hP : va_P (dC, dI) vwCl (wd_77d3d1bb h0 v0 h1 v1 t114 x110 v4 r0 r1 r2 r3 r4 r5 r6 v5 v6 r7 r8 h2 h3 t112 r9 r10 v8 v9 r11 r12 v10 v11 r13 v12 v13 r14 v14 w15 r15 v16 v17 r16 r17 r18 r19 r20 r21 v18 r22 r23 r24 v19 h1 g0 f20 h2 g1 fn47 h3 g2 fn111) H := hP
                have hD : va_D A (wd_77d3d1bb h0 v0 h1 v1 t114 x110 v4 r0 r1 r2 r3 r4 r5 r6 v5 v6 r7 r8 h2 h3 t112 r9 r10 v8 v9 r11 r12 v10 v11 r13 v12 v13 r14 v14 w15 r15 v16 v17 r16 r17 r18 r19 r20 r21 v18 r22 r23 r24 v19 h1 g0 f20 h2 g1 fn47 h3 g2 fn111) := hD
                refine lv_goto (tgt := 44) hx hb dX12_readOffice_196 (by decide) ?_
                refine lv_iload_n hx hb dX12_readOffice_44 rfl (lv_at hl 0 rfl) ?_
                refine lv_if_eq (tgt := 199) hx hb dX12_readOffice_45 (by decide) (fun _ => ?_) (fun c => absurd (by decide) c)
                refine lv_aload_n hx hb dX12_readOffice_199 rfl (lv_at hl 3 rfl) ?_
                refine va_get (D := (dC, dI)) (ci := 12) (v := .int x110) (C := RX12) (T := TX12) (N := 48) hx hb hts (fun _ h => List.mem_cons_of_mem _ (List.mem_append_right _ h)) hown hK hP 0 rfl rfl 4 (by decide) (hts (.fieldLink RX12 119 "LeftArgumentsModel" "wrong" "I") (List.mem_cons_of_mem _ (List.mem_append_left _ (List.mem_of_getElem? (i := 1) rfl)))) (fun _ h9 => h9) rfl dX12_readOffice_200 ?_
                refine lv_iconst (v := (-1)) hx hb dX12_readOffice_203 (by decide) ?_
                refine lv_icmp_ne (tgt := 226) hx hb dX12_readOffice_204 (by decide) (fun _ => ?_) (fun c115 => by exfalso; have fc115 : x110.toInt = (-1) := congrArg Int32.toInt c115; omega)
                refine lv_aload_n hx hb dX12_readOffice_226 rfl (lv_at hl 3 rfl) ?_
                refine va_get (D := (dC, dI)) (ci := 12) (v := .int x110) (C := RX12) (T := TX12) (N := 48) hx hb hts (fun _ h => List.mem_cons_of_mem _ (List.mem_append_right _ h)) hown hK hP 0 rfl rfl 4 (by decide) (hts (.fieldLink RX12 119 "LeftArgumentsModel" "wrong" "I") (List.mem_cons_of_mem _ (List.mem_append_left _ (List.mem_of_getElem? (i := 1) rfl)))) (fun _ h9 => h9) rfl dX12_readOffice_227 ?_
                subst hQ
                have hP9 := hP.sub (ws' := (wd_77d3d1bb h0 v0 h1 v1 t114 x110 v4 r0 r1 r2 r3 r4 r5 r6 v5 v6 r7 r8 h2 h3 t112 r9 r10 v8 v9 r11 r12 v10 v11 r13 v12 v13 r14 v14 w15 r15 v16 v17 r16 r17 r18 r19 r20 r21 v18 r22 r23 r24 v19 h1 g0 f20 h2 g1 fn47 h3 g2 fn111)) [0, 1, 2, 3] rfl
                have hD9 := hD.sub (ws' := (wd_77d3d1bb h0 v0 h1 v1 t114 x110 v4 r0 r1 r2 r3 r4 r5 r6 v5 v6 r7 r8 h2 h3 t112 r9 r10 v8 v9 r11 r12 v10 v11 r13 v12 v13 r14 v14 w15 r15 v16 v17 r16 r17 r18 r19 r20 r21 v18 r22 r23 r24 v19 h1 g0 f20 h2 g1 fn47 h3 g2 fn111)) [0, 1, 2, 3] (by decide) rfl
                have hK9 := hK.sub (tys' := []) [] rfl
                exact W.iret (v := x110) hx hb hr (fun t ht hW => ⟨⟨x110, x110, rfl, rfl, Or.inr (⟨t114, x110, t112, fn47, fn111, by first | omega | decide, by first | omega | decide, by first | omega | decide, by first | omega | decide, by first | omega | decide, by first | omega | decide, by first | omega | decide, by first | omega | decide, by first | (apply pg_office.b0 (R := f21) (B := f22) <;> first | assumption | omega | (apply pg_O.sf <;> first | assumption | omega) | (apply pg_O.bf <;> first | assumption | omega) | (apply pg_O.w <;> first | assumption | omega)) | (apply pg_office.b1 (R := f21) (B := f22) <;> first | assumption | omega | (apply pg_O.s0 <;> first | assumption | omega) | (apply pg_O.b0 <;> first | assumption | omega)) | (apply pg_office.b2 (R := f21) (B := f22) <;> first | assumption | omega | (apply pg_O.s0 <;> first | assumption | omega) | (apply pg_O.b0 <;> first | assumption | omega)), by omega, by rw [ht]; exact hP9, va_K.moved hW.alike hK9, hD9⟩)⟩, hS.F ht⟩) hS.2.2 dX12_readOffice_230
        · skip
          have fc63 : ra55.toInt = 115 := congrArg Int32.toInt c63
          obtain rfl : ra55 = (115 : Int32) := Int32.toInt_inj.mp (by rw [show ((115 : Int32)).toInt = 115 by decide]; omega)
          refine lv_iload_n hx hb dX12_readOffice_67 rfl (lv_at hl 2 rfl) ?_
          refine lv_if_ne (tgt := 97) hx hb dX12_readOffice_68 (by decide) (fun c116 => ?_) (fun c116 => ?_)
          · skip
            have fc116 : ¬ (x44.toInt = 0) := fun h9 => c116 (Int32.toInt_inj.mp h9)
            refine lv_iload_n hx hb dX12_readOffice_97 rfl (lv_at hl 0 rfl) ?_
            refine lv_bipush (v := 98) hx hb dX12_readOffice_98 (by decide) ?_
            refine lv_icmp_ne (tgt := 151) hx hb dX12_readOffice_100 (by decide) (fun _ => ?_) (fun c => absurd c (by decide))
            refine lv_aload_n hx hb dX12_readOffice_151 rfl (lv_at hl 3 rfl) ?_
            have hPc := hP.sub (ws' := (wd_171f232f h0 v0 h1 v1 x62 (-1) v4 r0 r1 r2 r3 r4 r5 r6 v5 v6 r7 r8 h2 h3 x46 r9 r10 v8 v9 r11 r12 v10 v11 r13 v12 v13 r14 v14 w15 r15 v16 v17 r16 r17 r18 r19 r20 r21 v18 r22 r23 r24 v19)) [0] rfl
            have hDc := hD.sub (ws' := (wd_171f232f h0 v0 h1 v1 x62 (-1) v4 r0 r1 r2 r3 r4 r5 r6 v5 v6 r7 r8 h2 h3 x46 r9 r10 v8 v9 r11 r12 v10 v11 r13 v12 v13 r14 v14 w15 r15 v16 v17 r16 r17 r18 r19 r20 r21 v18 r22 r23 r24 v19)) [0] (by decide) rfl
            have hKc := hK.sub (tys' := []) [] rfl
            have hFc := va_free (wc := (wd_171f232f h0 v0 h1 v1 x62 (-1) v4 r0 r1 r2 r3 r4 r5 r6 v5 v6 r7 r8 h2 h3 x46 r9 r10 v8 v9 r11 r12 v10 v11 r13 v12 v13 r14 v14 w15 r15 v16 v17 r16 r17 r18 r19 r20 r21 v18 r22 r23 r24 v19)) hD hS hA [0] rfl
            refine va_callv (va_runV (As := []) (rest := []) ⟨hx, hb, hml, hown, hts⟩ (k_X12_bad l dC dI h0 v0 h1 v1 x62 v4 r0 r1 r2 r3 r4 r5 r6 v5 v6 r7 r8 h2 h3 x46 r9 r10 v8 v9 r11 r12 v10 v11 r13 v12 v13 r14 v14 w15 r15 v16 v17 r16 r17 r18 r19 r20 r21 v18 r22 r23 r24 v19 ⟨by first | omega | decide, by first | omega | decide⟩ ⟨by first | omega | decide, by first | omega | decide⟩ ⟨by first | omega | decide, by first | omega | decide⟩ ⟨by first | omega | decide, by first | omega | decide⟩ ⟨by first | omega | decide, by first | omega | decide⟩ ⟨by first | omega | decide, by first | omega | decide⟩ ⟨by first | omega | decide, by first | omega | decide⟩ ⟨by first | omega | decide, by first | omega | decide⟩ ⟨by first | omega | decide, by first | omega | decide⟩ ⟨by first | omega | decide, by first | omega | decide⟩ ⟨by first | omega | decide, by first | omega | decide⟩ H.size) (cwV 0 hts g_X12_readOffice_5 rfl rfl rfl (by decide +kernel) ⟨Nat.le_of_ble_eq_true rfl, Nat.le_of_ble_eq_true rfl⟩) ⟨fun a U g mk q => by obtain ⟨q0, q1, qP, qK, qD⟩ := q; exact ⟨q0, q1, qP, va_K.moved (u := U) (U := U.calling g mk a) (Vm.Alike.refl U.vm) qK, qD⟩, va_recv hKc hPc (ci := 12) (q0 := 0) rfl rfl, fun U hU hW => ⟨rfl, by rw [hU], by rw [hU]; exact hPc, va_K.moved hW.alike hKc, hDc.weaken (fun _ _ _ _ => trivial)⟩⟩ rfl rfl hl.1 rfl (lv_room (Nat.le_of_ble_eq_true rfl)) dX12_readOffice_152 ⟨Nat.le_of_ble_eq_true rfl, Nat.le_of_ble_eq_true rfl⟩) hS (fun q _ h => hFc q h) hFc (fun u t H1 locs ht hvm hwra117 hB hz1 hk1 hS => ?_)
            obtain ⟨x118, oa_x118, ob_x118, pt0_ra117, hP1, hK1, hD1⟩ := hB
            rw [ht] at hP1
            obtain ⟨hP, hD⟩ := va_join (wr := (wd_bcaf9cf2 h1 g0 f20 h2 g1 fn47 h3 g2 fn48)) (w1 := (wd_171f232f h0 v0 h1 v1 x62 x118 v4 r0 r1 r2 r3 r4 r5 r6 v5 v6 r7 r8 h2 h3 x46 r9 r10 v8 v9 r11 r12 v10 v11 r13 v12 v13 r14 v14 w15 r15 v16 v17 r16 r17 r18 r19 r20 r21 v18 r22 r23 r24 v19)) hP hD [0] [1, 2, 3] rfl rfl (by decide) (by decide) hk1 hFc hP1 hD1
            generalize H1 = H at hP hS ⊢
            have hP := hP.sub (ws' := (wd_77d3d1bb h0 v0 h1 v1 x62 x118 v4 r0 r1 r2 r3 r4 r5 r6 v5 v6 r7 r8 h2 h3 x46 r9 r10 v8 v9 r11 r12 v10 v11 r13 v12 v13 r14 v14 w15 r15 v16 v17 r16 r17 r18 r19 r20 r21 v18 r22 r23 r24 v19 h1 g0 f20 h2 g1 fn47 h3 g2 fn48)) [3, 0, 1, 2] rfl
            have hD := hD.sub (ws' := (wd_77d3d1bb h0 v0 h1 v1 x62 x118 v4 r0 r1 r2 r3 r4 r5 r6 v5 v6 r7 r8 h2 h3 x46 r9 r10 v8 v9 r11 r12 v10 v11 r13 v12 v13 r14 v14 w15 r15 v16 v17 r16 r17 r18 r19 r20 r21 v18 r22 r23 r24 v19 h1 g0 f20 h2 g1 fn47 h3 g2 fn48)) [3, 0, 1, 2] (by decide) rfl
            have hP : va_P (dC, dI) vwCl (wd_77d3d1bb h0 v0 h1 v1 x62 x118 v4 r0 r1 r2 r3 r4 r5 r6 v5 v6 r7 r8 h2 h3 x46 r9 r10 v8 v9 r11 r12 v10 v11 r13 v12 v13 r14 v14 w15 r15 v16 v17 r16 r17 r18 r19 r20 r21 v18 r22 r23 r24 v19 h1 g0 f20 h2 g1 fn47 h3 g2 fn48) H := hP
            have hD : va_D A (wd_77d3d1bb h0 v0 h1 v1 x62 x118 v4 r0 r1 r2 r3 r4 r5 r6 v5 v6 r7 r8 h2 h3 x46 r9 r10 v8 v9 r11 r12 v10 v11 r13 v12 v13 r14 v14 w15 r15 v16 v17 r16 r17 r18 r19 r20 r21 v18 r22 r23 r24 v19 h1 g0 f20 h2 g1 fn47 h3 g2 fn48) := hD
            refine lv_aload_n hx hb dX12_readOffice_155 rfl (lv_at hl 3 rfl) ?_
            refine va_get (D := (dC, dI)) (ci := 12) (v := .int x118) (C := RX12) (T := TX12) (N := 48) hx hb hts (fun _ h => List.mem_cons_of_mem _ (List.mem_append_right _ h)) hown hK hP 0 rfl rfl 4 (by decide) (hts (.fieldLink RX12 119 "LeftArgumentsModel" "wrong" "I") (List.mem_cons_of_mem _ (List.mem_append_left _ (List.mem_of_getElem? (i := 1) rfl)))) (fun _ h9 => h9) rfl dX12_readOffice_156 ?_
            refine lv_iconst (v := (-1)) hx hb dX12_readOffice_159 (by decide) ?_
            refine lv_icmp_ne (tgt := 176) hx hb dX12_readOffice_160 (by decide) (fun _ => ?_) (fun c119 => by exfalso; have fc119 : x118.toInt = (-1) := congrArg Int32.toInt c119; omega)
            refine lv_iconst (v := 0) hx hb dX12_readOffice_176 (by decide) ?_
            refine lv_istore_n (lv' := [(2, .int 0), (3, .int 115), (1, .int x44), (0, .ref h0)]) hx hb dX12_readOffice_177 rfl hl (by decide) rfl (fun ls hl => ?_)
            refine lv_aload_n hx hb dX12_readOffice_178 rfl (lv_at hl 3 rfl) ?_
            refine lv_dup hx hb dX12_readOffice_179 rfl ?_
            refine va_get (D := (dC, dI)) (ci := 12) (v := .int x62) (C := RX12) (T := TX12) (N := 48) hx hb hts (fun _ h => List.mem_cons_of_mem _ (List.mem_append_right _ h)) hown hK hP 0 rfl rfl 3 (by decide) (hts (.fieldLink RX12 112 "LeftArgumentsModel" "at" "I") (List.mem_cons_of_mem _ (List.mem_append_left _ (List.mem_of_getElem? (i := 0) rfl)))) (fun _ h9 => h9) rfl dX12_readOffice_180 ?_
            refine lv_iload_n hx hb dX12_readOffice_183 rfl (lv_at hl 0 rfl) ?_
            refine lv_if_eq (tgt := 191) hx hb dX12_readOffice_184 (by decide) (fun _ => ?_) (fun c => absurd (by decide) c)
            refine lv_iconst (v := 0) hx hb dX12_readOffice_191 (by decide) ?_
            refine lv_iadd hx hb dX12_readOffice_192 ?_
            refine lv_topi (fun t120 et120 => ?_)
            have gt120 : t120.toInt = x62.toInt + 0 := pv_add (a := x62.toInt) (b := 0) et120 rfl (by decide) (by omega) (by omega)
            refine va_put (D := (dC, dI)) (ci := 12) (v := .int t120) (ty := .int) (C := RX12) (T := TX12) (N := 48) hx hb hts (fun _ h => List.mem_cons_of_mem _ (List.mem_append_right _ h)) tyX12 tyX12_ok nmX12 hown hK hP hD hS 0 rfl rfl 3 (by decide) (hts (.fieldLink RX12 112 "LeftArgumentsModel" "at" "I") (List.mem_cons_of_mem _ (List.mem_append_left _ (List.mem_of_getElem? (i := 0) rfl)))) (fun _ h9 => h9) rfl (by decide +kernel) rfl rfl (Nat.le_of_ble_eq_true rfl) dX12_readOffice_193 (fun H locs hP hD hS => ?_)
            have hP : va_P (dC, dI) vwCl (wd_77d3d1bb h0 v0 h1 v1 t120 x118 v4 r0 r1 r2 r3 r4 r5 r6 v5 v6 r7 r8 h2 h3 x46 r9 r10 v8 v9 r11 r12 v10 v11 r13 v12 v13 r14 v14 w15 r15 v16 v17 r16 r17 r18 r19 r20 r21 v18 r22 r23 r24 v19 h1 g0 f20 h2 g1 fn47 h3 g2 fn48) H := hP
            have hD : va_D A (wd_77d3d1bb h0 v0 h1 v1 t120 x118 v4 r0 r1 r2 r3 r4 r5 r6 v5 v6 r7 r8 h2 h3 x46 r9 r10 v8 v9 r11 r12 v10 v11 r13 v12 v13 r14 v14 w15 r15 v16 v17 r16 r17 r18 r19 r20 r21 v18 r22 r23 r24 v19 h1 g0 f20 h2 g1 fn47 h3 g2 fn48) := hD
            refine lv_goto (tgt := 44) hx hb dX12_readOffice_196 (by decide) ?_
            refine lv_iload_n hx hb dX12_readOffice_44 rfl (lv_at hl 0 rfl) ?_
            refine lv_if_eq (tgt := 199) hx hb dX12_readOffice_45 (by decide) (fun _ => ?_) (fun c => absurd (by decide) c)
            refine lv_aload_n hx hb dX12_readOffice_199 rfl (lv_at hl 3 rfl) ?_
            refine va_get (D := (dC, dI)) (ci := 12) (v := .int x118) (C := RX12) (T := TX12) (N := 48) hx hb hts (fun _ h => List.mem_cons_of_mem _ (List.mem_append_right _ h)) hown hK hP 0 rfl rfl 4 (by decide) (hts (.fieldLink RX12 119 "LeftArgumentsModel" "wrong" "I") (List.mem_cons_of_mem _ (List.mem_append_left _ (List.mem_of_getElem? (i := 1) rfl)))) (fun _ h9 => h9) rfl dX12_readOffice_200 ?_
            refine lv_iconst (v := (-1)) hx hb dX12_readOffice_203 (by decide) ?_
            refine lv_icmp_ne (tgt := 226) hx hb dX12_readOffice_204 (by decide) (fun _ => ?_) (fun c121 => by exfalso; have fc121 : x118.toInt = (-1) := congrArg Int32.toInt c121; omega)
            refine lv_aload_n hx hb dX12_readOffice_226 rfl (lv_at hl 3 rfl) ?_
            refine va_get (D := (dC, dI)) (ci := 12) (v := .int x118) (C := RX12) (T := TX12) (N := 48) hx hb hts (fun _ h => List.mem_cons_of_mem _ (List.mem_append_right _ h)) hown hK hP 0 rfl rfl 4 (by decide) (hts (.fieldLink RX12 119 "LeftArgumentsModel" "wrong" "I") (List.mem_cons_of_mem _ (List.mem_append_left _ (List.mem_of_getElem? (i := 1) rfl)))) (fun _ h9 => h9) rfl dX12_readOffice_227 ?_
            subst hQ
            have hP9 := hP.sub (ws' := (wd_77d3d1bb h0 v0 h1 v1 t120 x118 v4 r0 r1 r2 r3 r4 r5 r6 v5 v6 r7 r8 h2 h3 x46 r9 r10 v8 v9 r11 r12 v10 v11 r13 v12 v13 r14 v14 w15 r15 v16 v17 r16 r17 r18 r19 r20 r21 v18 r22 r23 r24 v19 h1 g0 f20 h2 g1 fn47 h3 g2 fn48)) [0, 1, 2, 3] rfl
            have hD9 := hD.sub (ws' := (wd_77d3d1bb h0 v0 h1 v1 t120 x118 v4 r0 r1 r2 r3 r4 r5 r6 v5 v6 r7 r8 h2 h3 x46 r9 r10 v8 v9 r11 r12 v10 v11 r13 v12 v13 r14 v14 w15 r15 v16 v17 r16 r17 r18 r19 r20 r21 v18 r22 r23 r24 v19 h1 g0 f20 h2 g1 fn47 h3 g2 fn48)) [0, 1, 2, 3] (by decide) rfl
            have hK9 := hK.sub (tys' := []) [] rfl
            exact W.iret (v := x118) hx hb hr (fun t ht hW => ⟨⟨x118, x118, rfl, rfl, Or.inr (⟨t120, x118, x46, fn47, fn48, by first | omega | decide, by first | omega | decide, by first | omega | decide, by first | omega | decide, by first | omega | decide, by first | omega | decide, by first | omega | decide, by first | omega | decide, by first | (apply pg_office.b0 (R := f21) (B := f22) <;> first | assumption | omega | (apply pg_O.sf <;> first | assumption | omega) | (apply pg_O.bf <;> first | assumption | omega) | (apply pg_O.w <;> first | assumption | omega)) | (apply pg_office.b1 (R := f21) (B := f22) <;> first | assumption | omega | (apply pg_O.s0 <;> first | assumption | omega) | (apply pg_O.b0 <;> first | assumption | omega)) | (apply pg_office.b2 (R := f21) (B := f22) <;> first | assumption | omega | (apply pg_O.s0 <;> first | assumption | omega) | (apply pg_O.b0 <;> first | assumption | omega)), by omega, by rw [ht]; exact hP9, va_K.moved hW.alike hK9, hD9⟩)⟩, hS.F ht⟩) hS.2.2 dX12_readOffice_230
          · skip
            have fc116 : x44.toInt = 0 := congrArg Int32.toInt c116
            refine lv_iconst (v := 1) hx hb dX12_readOffice_71 (by decide) ?_
            refine lv_istore_n (lv' := [(1, .int 1), (3, .int 115), (2, .int 1), (0, .ref h0)]) hx hb dX12_readOffice_72 rfl hl (by decide) rfl (fun ls hl => ?_)
            refine lv_aload_n hx hb dX12_readOffice_73 rfl (lv_at hl 3 rfl) ?_
            refine lv_dup hx hb dX12_readOffice_74 rfl ?_
            refine va_get (D := (dC, dI)) (ci := 12) (v := .int x62) (C := RX12) (T := TX12) (N := 48) hx hb hts (fun _ h => List.mem_cons_of_mem _ (List.mem_append_right _ h)) hown hK hP 0 rfl rfl 3 (by decide) (hts (.fieldLink RX12 112 "LeftArgumentsModel" "at" "I") (List.mem_cons_of_mem _ (List.mem_append_left _ (List.mem_of_getElem? (i := 0) rfl)))) (fun _ h9 => h9) rfl dX12_readOffice_75 ?_
            refine lv_iconst (v := 1) hx hb dX12_readOffice_78 (by decide) ?_
            refine lv_iadd hx hb dX12_readOffice_79 ?_
            refine lv_topi (fun t122 et122 => ?_)
            have gt122 : t122.toInt = x62.toInt + 1 := pv_add (a := x62.toInt) (b := 1) et122 rfl (by decide) (by omega) (by omega)
            refine va_put (D := (dC, dI)) (ci := 12) (v := .int t122) (ty := .int) (C := RX12) (T := TX12) (N := 48) hx hb hts (fun _ h => List.mem_cons_of_mem _ (List.mem_append_right _ h)) tyX12 tyX12_ok nmX12 hown hK hP hD hS 0 rfl rfl 3 (by decide) (hts (.fieldLink RX12 112 "LeftArgumentsModel" "at" "I") (List.mem_cons_of_mem _ (List.mem_append_left _ (List.mem_of_getElem? (i := 0) rfl)))) (fun _ h9 => h9) rfl (by decide +kernel) rfl rfl (Nat.le_of_ble_eq_true rfl) dX12_readOffice_80 (fun H locs hP hD hS => ?_)
            have hP : va_P (dC, dI) vwCl (wd_77d3d1bb h0 v0 h1 v1 t122 (-1) v4 r0 r1 r2 r3 r4 r5 r6 v5 v6 r7 r8 h2 h3 x46 r9 r10 v8 v9 r11 r12 v10 v11 r13 v12 v13 r14 v14 w15 r15 v16 v17 r16 r17 r18 r19 r20 r21 v18 r22 r23 r24 v19 h1 g0 f20 h2 g1 fn47 h3 g2 fn48) H := hP
            have hD : va_D A (wd_77d3d1bb h0 v0 h1 v1 t122 (-1) v4 r0 r1 r2 r3 r4 r5 r6 v5 v6 r7 r8 h2 h3 x46 r9 r10 v8 v9 r11 r12 v10 v11 r13 v12 v13 r14 v14 w15 r15 v16 v17 r16 r17 r18 r19 r20 r21 v18 r22 r23 r24 v19 h1 g0 f20 h2 g1 fn47 h3 g2 fn48) := hD
            refine lv_aload_n hx hb dX12_readOffice_83 rfl (lv_at hl 3 rfl) ?_
            refine lv_iload_n hx hb dX12_readOffice_84 rfl (lv_at hl 1 rfl) ?_
            refine lv_aload_n hx hb dX12_readOffice_85 rfl (lv_at hl 3 rfl) ?_
            refine va_get (D := (dC, dI)) (ci := 12) (v := .ref h2) (C := RX12) (T := TX12) (N := 48) hx hb hts (fun _ h => List.mem_cons_of_mem _ (List.mem_append_right _ h)) hown hK hP 0 rfl rfl 17 (by decide) (hts (.fieldLink RX12 40 "LeftArgumentsModel" "readRule" "[I") (List.mem_cons_of_mem _ (List.mem_append_left _ (List.mem_of_getElem? (i := 3) rfl)))) (fun _ h9 => h9) rfl dX12_readOffice_86 ?_
            refine lv_iconst (v := 0) hx hb dX12_readOffice_89 (by decide) ?_
            refine lv_iconst (v := 4) hx hb dX12_readOffice_90 (by decide) ?_
            have hPc := hP.sub (ws' := (wd_490cd7da h0 v0 h1 v1 t122 (-1) v4 r0 r1 r2 r3 r4 r5 r6 v5 v6 r7 r8 h2 h3 x46 r9 r10 v8 v9 r11 r12 v10 v11 r13 v12 v13 r14 v14 w15 r15 v16 v17 r16 r17 r18 r19 r20 r21 v18 r22 r23 r24 v19 h1 g0 f20 h2 g1 fn47)) [0, 1, 2] rfl
            have hDc := hD.sub (ws' := (wd_490cd7da h0 v0 h1 v1 t122 (-1) v4 r0 r1 r2 r3 r4 r5 r6 v5 v6 r7 r8 h2 h3 x46 r9 r10 v8 v9 r11 r12 v10 v11 r13 v12 v13 r14 v14 w15 r15 v16 v17 r16 r17 r18 r19 r20 r21 v18 r22 r23 r24 v19 h1 g0 f20 h2 g1 fn47)) [0, 1, 2] (by decide) rfl
            have hKc := hK.sub (tys' := [(g0, .int), (g1, .int)]) [0, 1] rfl
            have hFc := va_free (wc := (wd_490cd7da h0 v0 h1 v1 t122 (-1) v4 r0 r1 r2 r3 r4 r5 r6 v5 v6 r7 r8 h2 h3 x46 r9 r10 v8 v9 r11 r12 v10 v11 r13 v12 v13 r14 v14 w15 r15 v16 v17 r16 r17 r18 r19 r20 r21 v18 r22 r23 r24 v19 h1 g0 f20 h2 g1 fn47)) hD hS hA [0, 1, 2] rfl
            refine va_callv (va_runV (As := [.int 115, .ref h2, .int 0, .int 4]) (rest := []) ⟨hx, hb, hml, hown, hts⟩ (k_X12_items_1 l dC dI h0 h1 h2 v0 v1 t122 v4 r0 r1 r2 r3 r4 r5 r6 v5 v6 r7 r8 h3 x46 r9 r10 v8 v9 r11 r12 v10 v11 r13 v12 v13 r14 v14 w15 r15 v16 v17 r16 r17 r18 r19 r20 r21 v18 r22 r23 r24 v19 g0 f20 g1 fn47 ⟨by first | omega | decide, by first | omega | decide⟩ ⟨by first | omega | decide, by first | omega | decide⟩ ⟨by first | omega | decide, by first | omega | decide⟩ ⟨by first | omega | decide, by first | omega | decide⟩ ⟨by first | omega | decide, by first | omega | decide⟩ ⟨by first | omega | decide, by first | omega | decide⟩ ⟨by first | omega | decide, by first | omega | decide⟩ ⟨by first | omega | decide, by first | omega | decide⟩ ⟨by first | omega | decide, by first | omega | decide⟩ ⟨by first | omega | decide, by first | omega | decide⟩ ⟨by first | omega | decide, by first | omega | decide⟩ ia_f20 H.size) (cwV 4 hts g_X12_readOffice_19 rfl rfl rfl (by decide +kernel) ⟨Nat.le_of_ble_eq_true rfl, Nat.le_of_ble_eq_true rfl⟩) ⟨fun a U g mk q => by obtain ⟨q0, q1, qP, qK, qD⟩ := q; exact ⟨q0, q1, qP, va_K.moved (u := U) (U := U.calling g mk a) (Vm.Alike.refl U.vm) qK, qD⟩, va_recv hKc hPc (ci := 12) (q0 := 0) rfl rfl, fun U hU hW => ⟨rfl, by rw [hU], by rw [hU]; exact hPc, va_K.moved hW.alike hKc, hDc.weaken (fun _ _ _ _ => trivial)⟩⟩ rfl rfl hl.1 rfl (lv_room (Nat.le_of_ble_eq_true rfl)) dX12_readOffice_91 ⟨Nat.le_of_ble_eq_true rfl, Nat.le_of_ble_eq_true rfl⟩) hS (fun q _ h => hFc q h) hFc (fun u t H1 locs ht hvm hwra123 hB hz1 hk1 hS => ?_)
            rcases hB with hB | hB
            · skip
              obtain ⟨x124, fn125, oa_x124, ob_x124, pt0_ra123, pt1_ra123, pt2_ra123, hP1, hK1, hD1⟩ := hB
              rw [ht] at hP1
              obtain ⟨hP, hD⟩ := va_join (wr := (wd_aad598ec h3 g2 fn48)) (w1 := (wd_490cd7da h0 v0 h1 v1 x124 (-1) v4 r0 r1 r2 r3 r4 r5 r6 v5 v6 r7 r8 h2 h3 x46 r9 r10 v8 v9 r11 r12 v10 v11 r13 v12 v13 r14 v14 w15 r15 v16 v17 r16 r17 r18 r19 r20 r21 v18 r22 r23 r24 v19 h1 g0 f20 h2 g1 fn125)) hP hD [0, 1, 2] [3] rfl rfl (by decide) (by decide) hk1 hFc hP1 hD1
              generalize H1 = H at hP hS ⊢
              have hP := hP.sub (ws' := (wd_77d3d1bb h0 v0 h1 v1 x124 (-1) v4 r0 r1 r2 r3 r4 r5 r6 v5 v6 r7 r8 h2 h3 x46 r9 r10 v8 v9 r11 r12 v10 v11 r13 v12 v13 r14 v14 w15 r15 v16 v17 r16 r17 r18 r19 r20 r21 v18 r22 r23 r24 v19 h1 g0 f20 h2 g1 fn125 h3 g2 fn48)) [1, 2, 3, 0] rfl
              have hD := hD.sub (ws' := (wd_77d3d1bb h0 v0 h1 v1 x124 (-1) v4 r0 r1 r2 r3 r4 r5 r6 v5 v6 r7 r8 h2 h3 x46 r9 r10 v8 v9 r11 r12 v10 v11 r13 v12 v13 r14 v14 w15 r15 v16 v17 r16 r17 r18 r19 r20 r21 v18 r22 r23 r24 v19 h1 g0 f20 h2 g1 fn125 h3 g2 fn48)) [1, 2, 3, 0] (by decide) rfl
              have hP : va_P (dC, dI) vwCl (wd_77d3d1bb h0 v0 h1 v1 x124 (-1) v4 r0 r1 r2 r3 r4 r5 r6 v5 v6 r7 r8 h2 h3 x46 r9 r10 v8 v9 r11 r12 v10 v11 r13 v12 v13 r14 v14 w15 r15 v16 v17 r16 r17 r18 r19 r20 r21 v18 r22 r23 r24 v19 h1 g0 f20 h2 g1 fn125 h3 g2 fn48) H := hP
              have hD : va_D A (wd_77d3d1bb h0 v0 h1 v1 x124 (-1) v4 r0 r1 r2 r3 r4 r5 r6 v5 v6 r7 r8 h2 h3 x46 r9 r10 v8 v9 r11 r12 v10 v11 r13 v12 v13 r14 v14 w15 r15 v16 v17 r16 r17 r18 r19 r20 r21 v18 r22 r23 r24 v19 h1 g0 f20 h2 g1 fn125 h3 g2 fn48) := hD
              refine lv_goto (tgt := 155) hx hb dX12_readOffice_94 (by decide) ?_
              refine lv_aload_n hx hb dX12_readOffice_155 rfl (lv_at hl 3 rfl) ?_
              refine va_get (D := (dC, dI)) (ci := 12) (v := .int (-1)) (C := RX12) (T := TX12) (N := 48) hx hb hts (fun _ h => List.mem_cons_of_mem _ (List.mem_append_right _ h)) hown hK hP 0 rfl rfl 4 (by decide) (hts (.fieldLink RX12 119 "LeftArgumentsModel" "wrong" "I") (List.mem_cons_of_mem _ (List.mem_append_left _ (List.mem_of_getElem? (i := 1) rfl)))) (fun _ h9 => h9) rfl dX12_readOffice_156 ?_
              refine lv_iconst (v := (-1)) hx hb dX12_readOffice_159 (by decide) ?_
              refine lv_icmp_ne (tgt := 176) hx hb dX12_readOffice_160 (by decide) (fun c => absurd (by decide) c) (fun _ => ?_)
              refine lv_aload_n hx hb dX12_readOffice_163 rfl (lv_at hl 3 rfl) ?_
              have hPc := hP.sub (ws' := (wd_f4cd022e h0 v0 h1 v1 x124 (-1) v4 r0 r1 r2 r3 r4 r5 r6 v5 v6 r7 r8 h2 h3 x46 r9 r10 v8 v9 r11 r12 v10 v11 r13 v12 v13 r14 v14 w15 r15 v16 v17 r16 r17 r18 r19 r20 r21 v18 r22 r23 r24 v19 h1 g0 f20)) [0, 1] rfl
              have hDc := hD.sub (ws' := (wd_f4cd022e h0 v0 h1 v1 x124 (-1) v4 r0 r1 r2 r3 r4 r5 r6 v5 v6 r7 r8 h2 h3 x46 r9 r10 v8 v9 r11 r12 v10 v11 r13 v12 v13 r14 v14 w15 r15 v16 v17 r16 r17 r18 r19 r20 r21 v18 r22 r23 r24 v19 h1 g0 f20)) [0, 1] (by decide) rfl
              have hKc := hK.sub (tys' := [(g0, .int)]) [0] rfl
              have hFc := va_free (wc := (wd_f4cd022e h0 v0 h1 v1 x124 (-1) v4 r0 r1 r2 r3 r4 r5 r6 v5 v6 r7 r8 h2 h3 x46 r9 r10 v8 v9 r11 r12 v10 v11 r13 v12 v13 r14 v14 w15 r15 v16 v17 r16 r17 r18 r19 r20 r21 v18 r22 r23 r24 v19 h1 g0 f20)) hD hS hA [0, 1] rfl
              refine va_calli (va_runV (As := []) (rest := []) ⟨hx, hb, hml, hown, hts⟩ (k_X12_look l dC dI h0 h1 v0 v1 x124 ((-1)) v4 r0 r1 r2 r3 r4 r5 r6 v5 v6 r7 r8 h2 h3 x46 r9 r10 v8 v9 r11 r12 v10 v11 r13 v12 v13 r14 v14 w15 r15 v16 v17 r16 r17 r18 r19 r20 r21 v18 r22 r23 r24 v19 g0 f20 ⟨by first | omega | decide, by first | omega | decide⟩ ⟨by first | omega | decide, by first | omega | decide⟩ ⟨by first | omega | decide, by first | omega | decide⟩ ⟨by first | omega | decide, by first | omega | decide⟩ ⟨by first | omega | decide, by first | omega | decide⟩ ⟨by first | omega | decide, by first | omega | decide⟩ ⟨by first | omega | decide, by first | omega | decide⟩ ⟨by first | omega | decide, by first | omega | decide⟩ ⟨by first | omega | decide, by first | omega | decide⟩ ⟨by first | omega | decide, by first | omega | decide⟩ ⟨by first | omega | decide, by first | omega | decide⟩ ia_f20 H.size) (cwV 0 hts g_X12_readOffice_4 rfl rfl rfl (by decide +kernel) ⟨Nat.le_of_ble_eq_true rfl, Nat.le_of_ble_eq_true rfl⟩) ⟨fun a U g mk q => by obtain ⟨q0, q1, qP, qK, qD⟩ := q; exact ⟨q0, q1, qP, va_K.moved (u := U) (U := U.calling g mk a) (Vm.Alike.refl U.vm) qK, qD⟩, va_recv hKc hPc (ci := 12) (q0 := 0) rfl rfl, fun U hU hW => ⟨rfl, by rw [hU], by rw [hU]; exact hPc, va_K.moved hW.alike hKc, hDc.weaken (fun _ _ _ _ => trivial)⟩⟩ rfl rfl hl.1 rfl (lv_room (Nat.le_of_ble_eq_true rfl)) dX12_readOffice_164 ⟨Nat.le_of_ble_eq_true rfl, Nat.le_of_ble_eq_true rfl⟩) hS (fun q _ h => hFc q h) hFc (fun ra126 u t H1 locs ht hvm hwra126 hB hz1 hk1 hS => ?_)
              try rw [hwra126] at hB
              have hkra126_0 : (((-1) : Int32)).toInt = -1 := by decide
              rcases hB with hB | hB
              · skip
                obtain ⟨x127, oa_x127, ob_x127, pt0_ra126, pt1_ra126, pt2_ra126, pt3_ra126, pt4_ra126, pt5_ra126, pt6_ra126, hP1, hK1, hD1⟩ := hB
                rw [ht] at hP1
                obtain ⟨hP, hD⟩ := va_join (wr := (wd_5ef8c86c h2 g1 fn125 h3 g2 fn48)) (w1 := (wd_f4cd022e h0 v0 h1 v1 x127 (-1) v4 r0 r1 r2 r3 r4 r5 r6 v5 v6 r7 r8 h2 h3 x46 r9 r10 v8 v9 r11 r12 v10 v11 r13 v12 v13 r14 v14 w15 r15 v16 v17 r16 r17 r18 r19 r20 r21 v18 r22 r23 r24 v19 h1 g0 f20)) hP hD [0, 1] [2, 3] rfl rfl (by decide) (by decide) hk1 hFc hP1 hD1
                generalize H1 = H at hP hS ⊢
                have hP := hP.sub (ws' := (wd_77d3d1bb h0 v0 h1 v1 x127 (-1) v4 r0 r1 r2 r3 r4 r5 r6 v5 v6 r7 r8 h2 h3 x46 r9 r10 v8 v9 r11 r12 v10 v11 r13 v12 v13 r14 v14 w15 r15 v16 v17 r16 r17 r18 r19 r20 r21 v18 r22 r23 r24 v19 h1 g0 f20 h2 g1 fn125 h3 g2 fn48)) [2, 3, 0, 1] rfl
                have hD := hD.sub (ws' := (wd_77d3d1bb h0 v0 h1 v1 x127 (-1) v4 r0 r1 r2 r3 r4 r5 r6 v5 v6 r7 r8 h2 h3 x46 r9 r10 v8 v9 r11 r12 v10 v11 r13 v12 v13 r14 v14 w15 r15 v16 v17 r16 r17 r18 r19 r20 r21 v18 r22 r23 r24 v19 h1 g0 f20 h2 g1 fn125 h3 g2 fn48)) [2, 3, 0, 1] (by decide) rfl
                have hP : va_P (dC, dI) vwCl (wd_77d3d1bb h0 v0 h1 v1 x127 (-1) v4 r0 r1 r2 r3 r4 r5 r6 v5 v6 r7 r8 h2 h3 x46 r9 r10 v8 v9 r11 r12 v10 v11 r13 v12 v13 r14 v14 w15 r15 v16 v17 r16 r17 r18 r19 r20 r21 v18 r22 r23 r24 v19 h1 g0 f20 h2 g1 fn125 h3 g2 fn48) H := hP
                have hD : va_D A (wd_77d3d1bb h0 v0 h1 v1 x127 (-1) v4 r0 r1 r2 r3 r4 r5 r6 v5 v6 r7 r8 h2 h3 x46 r9 r10 v8 v9 r11 r12 v10 v11 r13 v12 v13 r14 v14 w15 r15 v16 v17 r16 r17 r18 r19 r20 r21 v18 r22 r23 r24 v19 h1 g0 f20 h2 g1 fn125 h3 g2 fn48) := hD
                obtain rfl : ra126 = ((-1) : Int32) := Int32.toInt_inj.mp (by rw [show (((-1) : Int32)).toInt = -1 by decide]; omega)
                refine lv_bipush (v := 59) hx hb dX12_readOffice_167 (by decide) ?_
                refine lv_icmp_ne (tgt := 176) hx hb dX12_readOffice_169 (by decide) (fun _ => ?_) (fun c => absurd c (by decide))
                refine lv_iconst (v := 0) hx hb dX12_readOffice_176 (by decide) ?_
                refine lv_istore_n (lv' := [(2, .int 0), (1, .int 1), (3, .int 115), (0, .ref h0)]) hx hb dX12_readOffice_177 rfl hl (by decide) rfl (fun ls hl => ?_)
                refine lv_aload_n hx hb dX12_readOffice_178 rfl (lv_at hl 3 rfl) ?_
                refine lv_dup hx hb dX12_readOffice_179 rfl ?_
                refine va_get (D := (dC, dI)) (ci := 12) (v := .int x127) (C := RX12) (T := TX12) (N := 48) hx hb hts (fun _ h => List.mem_cons_of_mem _ (List.mem_append_right _ h)) hown hK hP 0 rfl rfl 3 (by decide) (hts (.fieldLink RX12 112 "LeftArgumentsModel" "at" "I") (List.mem_cons_of_mem _ (List.mem_append_left _ (List.mem_of_getElem? (i := 0) rfl)))) (fun _ h9 => h9) rfl dX12_readOffice_180 ?_
                refine lv_iload_n hx hb dX12_readOffice_183 rfl (lv_at hl 0 rfl) ?_
                refine lv_if_eq (tgt := 191) hx hb dX12_readOffice_184 (by decide) (fun _ => ?_) (fun c => absurd (by decide) c)
                refine lv_iconst (v := 0) hx hb dX12_readOffice_191 (by decide) ?_
                refine lv_iadd hx hb dX12_readOffice_192 ?_
                refine lv_topi (fun t128 et128 => ?_)
                have gt128 : t128.toInt = x127.toInt + 0 := pv_add (a := x127.toInt) (b := 0) et128 rfl (by decide) (by omega) (by omega)
                refine va_put (D := (dC, dI)) (ci := 12) (v := .int t128) (ty := .int) (C := RX12) (T := TX12) (N := 48) hx hb hts (fun _ h => List.mem_cons_of_mem _ (List.mem_append_right _ h)) tyX12 tyX12_ok nmX12 hown hK hP hD hS 0 rfl rfl 3 (by decide) (hts (.fieldLink RX12 112 "LeftArgumentsModel" "at" "I") (List.mem_cons_of_mem _ (List.mem_append_left _ (List.mem_of_getElem? (i := 0) rfl)))) (fun _ h9 => h9) rfl (by decide +kernel) rfl rfl (Nat.le_of_ble_eq_true rfl) dX12_readOffice_193 (fun H locs hP hD hS => ?_)
                have hP : va_P (dC, dI) vwCl (wd_77d3d1bb h0 v0 h1 v1 t128 (-1) v4 r0 r1 r2 r3 r4 r5 r6 v5 v6 r7 r8 h2 h3 x46 r9 r10 v8 v9 r11 r12 v10 v11 r13 v12 v13 r14 v14 w15 r15 v16 v17 r16 r17 r18 r19 r20 r21 v18 r22 r23 r24 v19 h1 g0 f20 h2 g1 fn125 h3 g2 fn48) H := hP
                have hD : va_D A (wd_77d3d1bb h0 v0 h1 v1 t128 (-1) v4 r0 r1 r2 r3 r4 r5 r6 v5 v6 r7 r8 h2 h3 x46 r9 r10 v8 v9 r11 r12 v10 v11 r13 v12 v13 r14 v14 w15 r15 v16 v17 r16 r17 r18 r19 r20 r21 v18 r22 r23 r24 v19 h1 g0 f20 h2 g1 fn125 h3 g2 fn48) := hD
                refine lv_goto (tgt := 44) hx hb dX12_readOffice_196 (by decide) ?_
                refine lv_iload_n hx hb dX12_readOffice_44 rfl (lv_at hl 0 rfl) ?_
                refine lv_if_eq (tgt := 199) hx hb dX12_readOffice_45 (by decide) (fun _ => ?_) (fun c => absurd (by decide) c)
                refine lv_aload_n hx hb dX12_readOffice_199 rfl (lv_at hl 3 rfl) ?_
                refine va_get (D := (dC, dI)) (ci := 12) (v := .int (-1)) (C := RX12) (T := TX12) (N := 48) hx hb hts (fun _ h => List.mem_cons_of_mem _ (List.mem_append_right _ h)) hown hK hP 0 rfl rfl 4 (by decide) (hts (.fieldLink RX12 119 "LeftArgumentsModel" "wrong" "I") (List.mem_cons_of_mem _ (List.mem_append_left _ (List.mem_of_getElem? (i := 1) rfl)))) (fun _ h9 => h9) rfl dX12_readOffice_200 ?_
                refine lv_iconst (v := (-1)) hx hb dX12_readOffice_203 (by decide) ?_
                refine lv_icmp_ne (tgt := 226) hx hb dX12_readOffice_204 (by decide) (fun c => absurd (by decide) c) (fun _ => ?_)
                refine lv_aload_n hx hb dX12_readOffice_207 rfl (lv_at hl 3 rfl) ?_
                have hPc := hP.sub (ws' := (wd_f4cd022e h0 v0 h1 v1 t128 (-1) v4 r0 r1 r2 r3 r4 r5 r6 v5 v6 r7 r8 h2 h3 x46 r9 r10 v8 v9 r11 r12 v10 v11 r13 v12 v13 r14 v14 w15 r15 v16 v17 r16 r17 r18 r19 r20 r21 v18 r22 r23 r24 v19 h1 g0 f20)) [0, 1] rfl
                have hDc := hD.sub (ws' := (wd_f4cd022e h0 v0 h1 v1 t128 (-1) v4 r0 r1 r2 r3 r4 r5 r6 v5 v6 r7 r8 h2 h3 x46 r9 r10 v8 v9 r11 r12 v10 v11 r13 v12 v13 r14 v14 w15 r15 v16 v17 r16 r17 r18 r19 r20 r21 v18 r22 r23 r24 v19 h1 g0 f20)) [0, 1] (by decide) rfl
                have hKc := hK.sub (tys' := [(g0, .int)]) [0] rfl
                have hFc := va_free (wc := (wd_f4cd022e h0 v0 h1 v1 t128 (-1) v4 r0 r1 r2 r3 r4 r5 r6 v5 v6 r7 r8 h2 h3 x46 r9 r10 v8 v9 r11 r12 v10 v11 r13 v12 v13 r14 v14 w15 r15 v16 v17 r16 r17 r18 r19 r20 r21 v18 r22 r23 r24 v19 h1 g0 f20)) hD hS hA [0, 1] rfl
                refine va_calli (va_runV (As := []) (rest := []) ⟨hx, hb, hml, hown, hts⟩ (k_X12_look l dC dI h0 h1 v0 v1 t128 ((-1)) v4 r0 r1 r2 r3 r4 r5 r6 v5 v6 r7 r8 h2 h3 x46 r9 r10 v8 v9 r11 r12 v10 v11 r13 v12 v13 r14 v14 w15 r15 v16 v17 r16 r17 r18 r19 r20 r21 v18 r22 r23 r24 v19 g0 f20 ⟨by first | omega | decide, by first | omega | decide⟩ ⟨by first | omega | decide, by first | omega | decide⟩ ⟨by first | omega | decide, by first | omega | decide⟩ ⟨by first | omega | decide, by first | omega | decide⟩ ⟨by first | omega | decide, by first | omega | decide⟩ ⟨by first | omega | decide, by first | omega | decide⟩ ⟨by first | omega | decide, by first | omega | decide⟩ ⟨by first | omega | decide, by first | omega | decide⟩ ⟨by first | omega | decide, by first | omega | decide⟩ ⟨by first | omega | decide, by first | omega | decide⟩ ⟨by first | omega | decide, by first | omega | decide⟩ ia_f20 H.size) (cwV 0 hts g_X12_readOffice_4 rfl rfl rfl (by decide +kernel) ⟨Nat.le_of_ble_eq_true rfl, Nat.le_of_ble_eq_true rfl⟩) ⟨fun a U g mk q => by obtain ⟨q0, q1, qP, qK, qD⟩ := q; exact ⟨q0, q1, qP, va_K.moved (u := U) (U := U.calling g mk a) (Vm.Alike.refl U.vm) qK, qD⟩, va_recv hKc hPc (ci := 12) (q0 := 0) rfl rfl, fun U hU hW => ⟨rfl, by rw [hU], by rw [hU]; exact hPc, va_K.moved hW.alike hKc, hDc.weaken (fun _ _ _ _ => trivial)⟩⟩ rfl rfl hl.1 rfl (lv_room (Nat.le_of_ble_eq_true rfl)) dX12_readOffice_208 ⟨Nat.le_of_ble_eq_true rfl, Nat.le_of_ble_eq_true rfl⟩) hS (fun q _ h => hFc q h) hFc (fun ra129 u t H1 locs ht hvm hwra129 hB hz1 hk1 hS => ?_)
                try rw [hwra129] at hB
                have hkra129_0 : (((-1) : Int32)).toInt = -1 := by decide
                rcases hB with hB | hB
                · skip
                  obtain ⟨x130, oa_x130, ob_x130, pt0_ra129, pt1_ra129, pt2_ra129, pt3_ra129, pt4_ra129, pt5_ra129, pt6_ra129, hP1, hK1, hD1⟩ := hB
                  rw [ht] at hP1
                  obtain ⟨hP, hD⟩ := va_join (wr := (wd_5ef8c86c h2 g1 fn125 h3 g2 fn48)) (w1 := (wd_f4cd022e h0 v0 h1 v1 x130 (-1) v4 r0 r1 r2 r3 r4 r5 r6 v5 v6 r7 r8 h2 h3 x46 r9 r10 v8 v9 r11 r12 v10 v11 r13 v12 v13 r14 v14 w15 r15 v16 v17 r16 r17 r18 r19 r20 r21 v18 r22 r23 r24 v19 h1 g0 f20)) hP hD [0, 1] [2, 3] rfl rfl (by decide) (by decide) hk1 hFc hP1 hD1
                  generalize H1 = H at hP hS ⊢
                  have hP := hP.sub (ws' := (wd_77d3d1bb h0 v0 h1 v1 x130 (-1) v4 r0 r1 r2 r3 r4 r5 r6 v5 v6 r7 r8 h2 h3 x46 r9 r10 v8 v9 r11 r12 v10 v11 r13 v12 v13 r14 v14 w15 r15 v16 v17 r16 r17 r18 r19 r20 r21 v18 r22 r23 r24 v19 h1 g0 f20 h2 g1 fn125 h3 g2 fn48)) [2, 3, 0, 1] rfl
                  have hD := hD.sub (ws' := (wd_77d3d1bb h0 v0 h1 v1 x130 (-1) v4 r0 r1 r2 r3 r4 r5 r6 v5 v6 r7 r8 h2 h3 x46 r9 r10 v8 v9 r11 r12 v10 v11 r13 v12 v13 r14 v14 w15 r15 v16 v17 r16 r17 r18 r19 r20 r21 v18 r22 r23 r24 v19 h1 g0 f20 h2 g1 fn125 h3 g2 fn48)) [2, 3, 0, 1] (by decide) rfl
                  have hP : va_P (dC, dI) vwCl (wd_77d3d1bb h0 v0 h1 v1 x130 (-1) v4 r0 r1 r2 r3 r4 r5 r6 v5 v6 r7 r8 h2 h3 x46 r9 r10 v8 v9 r11 r12 v10 v11 r13 v12 v13 r14 v14 w15 r15 v16 v17 r16 r17 r18 r19 r20 r21 v18 r22 r23 r24 v19 h1 g0 f20 h2 g1 fn125 h3 g2 fn48) H := hP
                  have hD : va_D A (wd_77d3d1bb h0 v0 h1 v1 x130 (-1) v4 r0 r1 r2 r3 r4 r5 r6 v5 v6 r7 r8 h2 h3 x46 r9 r10 v8 v9 r11 r12 v10 v11 r13 v12 v13 r14 v14 w15 r15 v16 v17 r16 r17 r18 r19 r20 r21 v18 r22 r23 r24 v19 h1 g0 f20 h2 g1 fn125 h3 g2 fn48) := hD
                  obtain rfl : ra129 = ((-1) : Int32) := Int32.toInt_inj.mp (by rw [show (((-1) : Int32)).toInt = -1 by decide]; omega)
                  refine lv_iconst (v := (-1)) hx hb dX12_readOffice_211 (by decide) ?_
                  refine lv_icmp_ne (tgt := 222) hx hb dX12_readOffice_212 (by decide) (fun c => absurd (by decide) c) (fun _ => ?_)
                  refine lv_aload_n hx hb dX12_readOffice_215 rfl (lv_at hl 3 rfl) ?_
                  have hPc := hP.sub (ws' := (wd_4d81ce87 h0 v0 h1 v1 x130 (-1) v4 r0 r1 r2 r3 r4 r5 r6 v5 v6 r7 r8 h2 h3 x46 r9 r10 v8 v9 r11 r12 v10 v11 r13 v12 v13 r14 v14 w15 r15 v16 v17 r16 r17 r18 r19 r20 r21 v18 r22 r23 r24 v19 h2 g1 fn125 h3 g2 fn48)) [0, 2, 3] rfl
                  have hDc := hD.sub (ws' := (wd_4d81ce87 h0 v0 h1 v1 x130 (-1) v4 r0 r1 r2 r3 r4 r5 r6 v5 v6 r7 r8 h2 h3 x46 r9 r10 v8 v9 r11 r12 v10 v11 r13 v12 v13 r14 v14 w15 r15 v16 v17 r16 r17 r18 r19 r20 r21 v18 r22 r23 r24 v19 h2 g1 fn125 h3 g2 fn48)) [0, 2, 3] (by decide) rfl
                  have hKc := hK.sub (tys' := [(g1, .int), (g2, .int)]) [1, 2] rfl
                  have hFc := va_free (wc := (wd_4d81ce87 h0 v0 h1 v1 x130 (-1) v4 r0 r1 r2 r3 r4 r5 r6 v5 v6 r7 r8 h2 h3 x46 r9 r10 v8 v9 r11 r12 v10 v11 r13 v12 v13 r14 v14 w15 r15 v16 v17 r16 r17 r18 r19 r20 r21 v18 r22 r23 r24 v19 h2 g1 fn125 h3 g2 fn48)) hD hS hA [0, 2, 3] rfl
                  refine va_calli (va_runV (As := []) (rest := []) ⟨hx, hb, hml, hown, hts⟩ (k_X12_isWhole l dC dI h0 h2 h3 v0 h1 v1 x130 ((-1)) v4 r0 r1 r2 r3 r4 r5 r6 v5 v6 r7 r8 x46 r9 r10 v8 v9 r11 r12 v10 v11 r13 v12 v13 r14 v14 w15 r15 v16 v17 r16 r17 r18 r19 r20 r21 v18 r22 r23 r24 v19 g1 fn125 g2 fn48 ⟨by first | omega | decide, by first | omega | decide⟩ ⟨by first | omega | decide, by first | omega | decide⟩ ⟨by first | omega | decide, by first | omega | decide⟩ ⟨by first | omega | decide, by first | omega | decide⟩ ⟨by first | omega | decide, by first | omega | decide⟩ ⟨by first | omega | decide, by first | omega | decide⟩ ⟨by first | omega | decide, by first | omega | decide⟩ ⟨by first | omega | decide, by first | omega | decide⟩ ⟨by first | omega | decide, by first | omega | decide⟩ ⟨by first | omega | decide, by first | omega | decide⟩ H.size) (cwV 0 hts g_X12_readOffice_11 rfl rfl rfl (by decide +kernel) ⟨Nat.le_of_ble_eq_true rfl, Nat.le_of_ble_eq_true rfl⟩) ⟨fun a U g mk q => by obtain ⟨q0, q1, qP, qK, qD⟩ := q; exact ⟨q0, q1, qP, va_K.moved (u := U) (U := U.calling g mk a) (Vm.Alike.refl U.vm) qK, qD⟩, va_recv hKc hPc (ci := 12) (q0 := 0) rfl rfl, fun U hU hW => ⟨rfl, by rw [hU], by rw [hU]; exact hPc, va_K.moved hW.alike hKc, hDc.weaken (fun _ _ _ _ => trivial)⟩⟩ rfl rfl hl.1 rfl (lv_room (Nat.le_of_ble_eq_true rfl)) dX12_readOffice_216 ⟨Nat.le_of_ble_eq_true rfl, Nat.le_of_ble_eq_true rfl⟩) hS (fun q _ h => hFc q h) hFc (fun ra131 u t H1 locs ht hvm hwra131 hB hz1 hk1 hS => ?_)
                  try rw [hwra131] at hB
                  have hkra131_0 : (((-1) : Int32)).toInt = -1 := by decide
                  obtain ⟨pt0_ra131, pt1_ra131, pt2_ra131, hP1, hK1, hD1⟩ := hB
                  rw [ht] at hP1
                  obtain ⟨hP, hD⟩ := va_join (wr := (wd_d0032b31 h1 g0 f20)) (w1 := (wd_4d81ce87 h0 v0 h1 v1 x130 (-1) v4 r0 r1 r2 r3 r4 r5 r6 v5 v6 r7 r8 h2 h3 x46 r9 r10 v8 v9 r11 r12 v10 v11 r13 v12 v13 r14 v14 w15 r15 v16 v17 r16 r17 r18 r19 r20 r21 v18 r22 r23 r24 v19 h2 g1 fn125 h3 g2 fn48)) hP hD [0, 2, 3] [1] rfl rfl (by decide) (by decide) hk1 hFc hP1 hD1
                  generalize H1 = H at hP hS ⊢
                  have hP := hP.sub (ws' := (wd_77d3d1bb h0 v0 h1 v1 x130 (-1) v4 r0 r1 r2 r3 r4 r5 r6 v5 v6 r7 r8 h2 h3 x46 r9 r10 v8 v9 r11 r12 v10 v11 r13 v12 v13 r14 v14 w15 r15 v16 v17 r16 r17 r18 r19 r20 r21 v18 r22 r23 r24 v19 h1 g0 f20 h2 g1 fn125 h3 g2 fn48)) [1, 0, 2, 3] rfl
                  have hD := hD.sub (ws' := (wd_77d3d1bb h0 v0 h1 v1 x130 (-1) v4 r0 r1 r2 r3 r4 r5 r6 v5 v6 r7 r8 h2 h3 x46 r9 r10 v8 v9 r11 r12 v10 v11 r13 v12 v13 r14 v14 w15 r15 v16 v17 r16 r17 r18 r19 r20 r21 v18 r22 r23 r24 v19 h1 g0 f20 h2 g1 fn125 h3 g2 fn48)) [1, 0, 2, 3] (by decide) rfl
                  have hP : va_P (dC, dI) vwCl (wd_77d3d1bb h0 v0 h1 v1 x130 (-1) v4 r0 r1 r2 r3 r4 r5 r6 v5 v6 r7 r8 h2 h3 x46 r9 r10 v8 v9 r11 r12 v10 v11 r13 v12 v13 r14 v14 w15 r15 v16 v17 r16 r17 r18 r19 r20 r21 v18 r22 r23 r24 v19 h1 g0 f20 h2 g1 fn125 h3 g2 fn48) H := hP
                  have hD : va_D A (wd_77d3d1bb h0 v0 h1 v1 x130 (-1) v4 r0 r1 r2 r3 r4 r5 r6 v5 v6 r7 r8 h2 h3 x46 r9 r10 v8 v9 r11 r12 v10 v11 r13 v12 v13 r14 v14 w15 r15 v16 v17 r16 r17 r18 r19 r20 r21 v18 r22 r23 r24 v19 h1 g0 f20 h2 g1 fn125 h3 g2 fn48) := hD
                  have hw1ra131 : ra131.toInt = 1 → pg_wh x46.toInt fn125 fn48 = true := fun h9 => by rcases pt2_ra131 with h8 | h8; exact h8.2; exfalso; omega
                  have hw0ra131 : ra131.toInt = 0 → pg_wh x46.toInt fn125 fn48 = false := fun h9 => by rcases pt2_ra131 with h8 | h8; exfalso; omega; exact h8.2
                  refine lv_if_ne (tgt := 226) hx hb dX12_readOffice_219 (by decide) (fun c132 => ?_) (fun c132 => ?_)
                  · skip
                    have fc132 : ¬ (ra131.toInt = 0) := fun h9 => c132 (Int32.toInt_inj.mp h9)
                    have q1hw1ra131 := hw1ra131 (by omega)
                    refine lv_aload_n hx hb dX12_readOffice_226 rfl (lv_at hl 3 rfl) ?_
                    refine va_get (D := (dC, dI)) (ci := 12) (v := .int (-1)) (C := RX12) (T := TX12) (N := 48) hx hb hts (fun _ h => List.mem_cons_of_mem _ (List.mem_append_right _ h)) hown hK hP 0 rfl rfl 4 (by decide) (hts (.fieldLink RX12 119 "LeftArgumentsModel" "wrong" "I") (List.mem_cons_of_mem _ (List.mem_append_left _ (List.mem_of_getElem? (i := 1) rfl)))) (fun _ h9 => h9) rfl dX12_readOffice_227 ?_
                    subst hQ
                    have hP9 := hP.sub (ws' := (wd_77d3d1bb h0 v0 h1 v1 x130 (-1) v4 r0 r1 r2 r3 r4 r5 r6 v5 v6 r7 r8 h2 h3 x46 r9 r10 v8 v9 r11 r12 v10 v11 r13 v12 v13 r14 v14 w15 r15 v16 v17 r16 r17 r18 r19 r20 r21 v18 r22 r23 r24 v19 h1 g0 f20 h2 g1 fn125 h3 g2 fn48)) [0, 1, 2, 3] rfl
                    have hD9 := hD.sub (ws' := (wd_77d3d1bb h0 v0 h1 v1 x130 (-1) v4 r0 r1 r2 r3 r4 r5 r6 v5 v6 r7 r8 h2 h3 x46 r9 r10 v8 v9 r11 r12 v10 v11 r13 v12 v13 r14 v14 w15 r15 v16 v17 r16 r17 r18 r19 r20 r21 v18 r22 r23 r24 v19 h1 g0 f20 h2 g1 fn125 h3 g2 fn48)) [0, 1, 2, 3] (by decide) rfl
                    have hK9 := hK.sub (tys' := []) [] rfl
                    exact W.iret (v := (-1)) hx hb hr (fun t ht hW => ⟨⟨(-1), (-1), rfl, rfl, Or.inl ⟨x130, x46, fn125, fn48, by first | omega | decide, by first | omega | decide, by first | omega | decide, by first | omega | decide, by first | omega | decide, by first | omega | decide, by assumption, by first | assumption | (apply pm_BG.add <;> first | assumption | omega), by apply pg_office.g2 (R := f21) (B := f22) <;> first | assumption | omega | (apply pg_O.s0 <;> first | assumption | omega) | (apply pg_O.b0 <;> first | assumption | omega), by rw [ht]; exact hP9, va_K.moved hW.alike hK9, hD9⟩⟩, hS.F ht⟩) hS.2.2 dX12_readOffice_230
                  · skip
                    have fc132 : ra131.toInt = 0 := congrArg Int32.toInt c132
                    have q0hw0ra131 := hw0ra131 (by omega)
                    refine lv_aload_n hx hb dX12_readOffice_222 rfl (lv_at hl 3 rfl) ?_
                    have hPc := hP.sub (ws' := (wd_171f232f h0 v0 h1 v1 x130 (-1) v4 r0 r1 r2 r3 r4 r5 r6 v5 v6 r7 r8 h2 h3 x46 r9 r10 v8 v9 r11 r12 v10 v11 r13 v12 v13 r14 v14 w15 r15 v16 v17 r16 r17 r18 r19 r20 r21 v18 r22 r23 r24 v19)) [0] rfl
                    have hDc := hD.sub (ws' := (wd_171f232f h0 v0 h1 v1 x130 (-1) v4 r0 r1 r2 r3 r4 r5 r6 v5 v6 r7 r8 h2 h3 x46 r9 r10 v8 v9 r11 r12 v10 v11 r13 v12 v13 r14 v14 w15 r15 v16 v17 r16 r17 r18 r19 r20 r21 v18 r22 r23 r24 v19)) [0] (by decide) rfl
                    have hKc := hK.sub (tys' := []) [] rfl
                    have hFc := va_free (wc := (wd_171f232f h0 v0 h1 v1 x130 (-1) v4 r0 r1 r2 r3 r4 r5 r6 v5 v6 r7 r8 h2 h3 x46 r9 r10 v8 v9 r11 r12 v10 v11 r13 v12 v13 r14 v14 w15 r15 v16 v17 r16 r17 r18 r19 r20 r21 v18 r22 r23 r24 v19)) hD hS hA [0] rfl
                    refine va_callv (va_runV (As := []) (rest := []) ⟨hx, hb, hml, hown, hts⟩ (k_X12_bad l dC dI h0 v0 h1 v1 x130 v4 r0 r1 r2 r3 r4 r5 r6 v5 v6 r7 r8 h2 h3 x46 r9 r10 v8 v9 r11 r12 v10 v11 r13 v12 v13 r14 v14 w15 r15 v16 v17 r16 r17 r18 r19 r20 r21 v18 r22 r23 r24 v19 ⟨by first | omega | decide, by first | omega | decide⟩ ⟨by first | omega | decide, by first | omega | decide⟩ ⟨by first | omega | decide, by first | omega | decide⟩ ⟨by first | omega | decide, by first | omega | decide⟩ ⟨by first | omega | decide, by first | omega | decide⟩ ⟨by first | omega | decide, by first | omega | decide⟩ ⟨by first | omega | decide, by first | omega | decide⟩ ⟨by first | omega | decide, by first | omega | decide⟩ ⟨by first | omega | decide, by first | omega | decide⟩ ⟨by first | omega | decide, by first | omega | decide⟩ ⟨by first | omega | decide, by first | omega | decide⟩ H.size) (cwV 0 hts g_X12_readOffice_5 rfl rfl rfl (by decide +kernel) ⟨Nat.le_of_ble_eq_true rfl, Nat.le_of_ble_eq_true rfl⟩) ⟨fun a U g mk q => by obtain ⟨q0, q1, qP, qK, qD⟩ := q; exact ⟨q0, q1, qP, va_K.moved (u := U) (U := U.calling g mk a) (Vm.Alike.refl U.vm) qK, qD⟩, va_recv hKc hPc (ci := 12) (q0 := 0) rfl rfl, fun U hU hW => ⟨rfl, by rw [hU], by rw [hU]; exact hPc, va_K.moved hW.alike hKc, hDc.weaken (fun _ _ _ _ => trivial)⟩⟩ rfl rfl hl.1 rfl (lv_room (Nat.le_of_ble_eq_true rfl)) dX12_readOffice_223 ⟨Nat.le_of_ble_eq_true rfl, Nat.le_of_ble_eq_true rfl⟩) hS (fun q _ h => hFc q h) hFc (fun u t H1 locs ht hvm hwra133 hB hz1 hk1 hS => ?_)
                    obtain ⟨x134, oa_x134, ob_x134, pt0_ra133, hP1, hK1, hD1⟩ := hB
                    rw [ht] at hP1
                    obtain ⟨hP, hD⟩ := va_join (wr := (wd_bcaf9cf2 h1 g0 f20 h2 g1 fn125 h3 g2 fn48)) (w1 := (wd_171f232f h0 v0 h1 v1 x130 x134 v4 r0 r1 r2 r3 r4 r5 r6 v5 v6 r7 r8 h2 h3 x46 r9 r10 v8 v9 r11 r12 v10 v11 r13 v12 v13 r14 v14 w15 r15 v16 v17 r16 r17 r18 r19 r20 r21 v18 r22 r23 r24 v19)) hP hD [0] [1, 2, 3] rfl rfl (by decide) (by decide) hk1 hFc hP1 hD1
                    generalize H1 = H at hP hS ⊢
                    have hP := hP.sub (ws' := (wd_77d3d1bb h0 v0 h1 v1 x130 x134 v4 r0 r1 r2 r3 r4 r5 r6 v5 v6 r7 r8 h2 h3 x46 r9 r10 v8 v9 r11 r12 v10 v11 r13 v12 v13 r14 v14 w15 r15 v16 v17 r16 r17 r18 r19 r20 r21 v18 r22 r23 r24 v19 h1 g0 f20 h2 g1 fn125 h3 g2 fn48)) [3, 0, 1, 2] rfl
                    have hD := hD.sub (ws' := (wd_77d3d1bb h0 v0 h1 v1 x130 x134 v4 r0 r1 r2 r3 r4 r5 r6 v5 v6 r7 r8 h2 h3 x46 r9 r10 v8 v9 r11 r12 v10 v11 r13 v12 v13 r14 v14 w15 r15 v16 v17 r16 r17 r18 r19 r20 r21 v18 r22 r23 r24 v19 h1 g0 f20 h2 g1 fn125 h3 g2 fn48)) [3, 0, 1, 2] (by decide) rfl
                    have hP : va_P (dC, dI) vwCl (wd_77d3d1bb h0 v0 h1 v1 x130 x134 v4 r0 r1 r2 r3 r4 r5 r6 v5 v6 r7 r8 h2 h3 x46 r9 r10 v8 v9 r11 r12 v10 v11 r13 v12 v13 r14 v14 w15 r15 v16 v17 r16 r17 r18 r19 r20 r21 v18 r22 r23 r24 v19 h1 g0 f20 h2 g1 fn125 h3 g2 fn48) H := hP
                    have hD : va_D A (wd_77d3d1bb h0 v0 h1 v1 x130 x134 v4 r0 r1 r2 r3 r4 r5 r6 v5 v6 r7 r8 h2 h3 x46 r9 r10 v8 v9 r11 r12 v10 v11 r13 v12 v13 r14 v14 w15 r15 v16 v17 r16 r17 r18 r19 r20 r21 v18 r22 r23 r24 v19 h1 g0 f20 h2 g1 fn125 h3 g2 fn48) := hD
                    refine lv_aload_n hx hb dX12_readOffice_226 rfl (lv_at hl 3 rfl) ?_
                    refine va_get (D := (dC, dI)) (ci := 12) (v := .int x134) (C := RX12) (T := TX12) (N := 48) hx hb hts (fun _ h => List.mem_cons_of_mem _ (List.mem_append_right _ h)) hown hK hP 0 rfl rfl 4 (by decide) (hts (.fieldLink RX12 119 "LeftArgumentsModel" "wrong" "I") (List.mem_cons_of_mem _ (List.mem_append_left _ (List.mem_of_getElem? (i := 1) rfl)))) (fun _ h9 => h9) rfl dX12_readOffice_227 ?_
                    subst hQ
                    have hP9 := hP.sub (ws' := (wd_77d3d1bb h0 v0 h1 v1 x130 x134 v4 r0 r1 r2 r3 r4 r5 r6 v5 v6 r7 r8 h2 h3 x46 r9 r10 v8 v9 r11 r12 v10 v11 r13 v12 v13 r14 v14 w15 r15 v16 v17 r16 r17 r18 r19 r20 r21 v18 r22 r23 r24 v19 h1 g0 f20 h2 g1 fn125 h3 g2 fn48)) [0, 1, 2, 3] rfl
                    have hD9 := hD.sub (ws' := (wd_77d3d1bb h0 v0 h1 v1 x130 x134 v4 r0 r1 r2 r3 r4 r5 r6 v5 v6 r7 r8 h2 h3 x46 r9 r10 v8 v9 r11 r12 v10 v11 r13 v12 v13 r14 v14 w15 r15 v16 v17 r16 r17 r18 r19 r20 r21 v18 r22 r23 r24 v19 h1 g0 f20 h2 g1 fn125 h3 g2 fn48)) [0, 1, 2, 3] (by decide) rfl
                    have hK9 := hK.sub (tys' := []) [] rfl
                    exact W.iret (v := x134) hx hb hr (fun t ht hW => ⟨⟨x134, x134, rfl, rfl, Or.inr (⟨x130, x134, x46, fn125, fn48, by first | omega | decide, by first | omega | decide, by first | omega | decide, by first | omega | decide, by first | omega | decide, by first | omega | decide, by first | omega | decide, by first | omega | decide, by first | (apply pg_office.b0 (R := f21) (B := f22) <;> first | assumption | omega | (apply pg_O.sf <;> first | assumption | omega) | (apply pg_O.bf <;> first | assumption | omega) | (apply pg_O.w <;> first | assumption | omega)) | (apply pg_office.b1 (R := f21) (B := f22) <;> first | assumption | omega | (apply pg_O.s0 <;> first | assumption | omega) | (apply pg_O.b0 <;> first | assumption | omega)) | (apply pg_office.b2 (R := f21) (B := f22) <;> first | assumption | omega | (apply pg_O.s0 <;> first | assumption | omega) | (apply pg_O.b0 <;> first | assumption | omega)), by omega, by rw [ht]; exact hP9, va_K.moved hW.alike hK9, hD9⟩)⟩, hS.F ht⟩) hS.2.2 dX12_readOffice_230
                · skip
                  obtain ⟨x135, oa_x135, ob_x135, pt0_ra129, pt1_ra129, pt2_ra129, pt3_ra129, pt4_ra129, pt5_ra129, pt6_ra129, pt7_ra129, hP1, hK1, hD1⟩ := hB
                  rw [ht] at hP1
                  obtain ⟨hP, hD⟩ := va_join (wr := (wd_5ef8c86c h2 g1 fn125 h3 g2 fn48)) (w1 := (wd_f4cd022e h0 v0 h1 v1 x135 (-1) v4 r0 r1 r2 r3 r4 r5 r6 v5 v6 r7 r8 h2 h3 x46 r9 r10 v8 v9 r11 r12 v10 v11 r13 v12 v13 r14 v14 w15 r15 v16 v17 r16 r17 r18 r19 r20 r21 v18 r22 r23 r24 v19 h1 g0 f20)) hP hD [0, 1] [2, 3] rfl rfl (by decide) (by decide) hk1 hFc hP1 hD1
                  generalize H1 = H at hP hS ⊢
                  have hP := hP.sub (ws' := (wd_77d3d1bb h0 v0 h1 v1 x135 (-1) v4 r0 r1 r2 r3 r4 r5 r6 v5 v6 r7 r8 h2 h3 x46 r9 r10 v8 v9 r11 r12 v10 v11 r13 v12 v13 r14 v14 w15 r15 v16 v17 r16 r17 r18 r19 r20 r21 v18 r22 r23 r24 v19 h1 g0 f20 h2 g1 fn125 h3 g2 fn48)) [2, 3, 0, 1] rfl
                  have hD := hD.sub (ws' := (wd_77d3d1bb h0 v0 h1 v1 x135 (-1) v4 r0 r1 r2 r3 r4 r5 r6 v5 v6 r7 r8 h2 h3 x46 r9 r10 v8 v9 r11 r12 v10 v11 r13 v12 v13 r14 v14 w15 r15 v16 v17 r16 r17 r18 r19 r20 r21 v18 r22 r23 r24 v19 h1 g0 f20 h2 g1 fn125 h3 g2 fn48)) [2, 3, 0, 1] (by decide) rfl
                  have hP : va_P (dC, dI) vwCl (wd_77d3d1bb h0 v0 h1 v1 x135 (-1) v4 r0 r1 r2 r3 r4 r5 r6 v5 v6 r7 r8 h2 h3 x46 r9 r10 v8 v9 r11 r12 v10 v11 r13 v12 v13 r14 v14 w15 r15 v16 v17 r16 r17 r18 r19 r20 r21 v18 r22 r23 r24 v19 h1 g0 f20 h2 g1 fn125 h3 g2 fn48) H := hP
                  have hD : va_D A (wd_77d3d1bb h0 v0 h1 v1 x135 (-1) v4 r0 r1 r2 r3 r4 r5 r6 v5 v6 r7 r8 h2 h3 x46 r9 r10 v8 v9 r11 r12 v10 v11 r13 v12 v13 r14 v14 w15 r15 v16 v17 r16 r17 r18 r19 r20 r21 v18 r22 r23 r24 v19 h1 g0 f20 h2 g1 fn125 h3 g2 fn48) := hD
                  refine lv_iconst (v := (-1)) hx hb dX12_readOffice_211 (by decide) ?_
                  refine lv_icmp_ne (tgt := 222) hx hb dX12_readOffice_212 (by decide) (fun _ => ?_) (fun c136 => by exfalso; have fc136 : ra129.toInt = (-1) := congrArg Int32.toInt c136; omega)
                  refine lv_aload_n hx hb dX12_readOffice_222 rfl (lv_at hl 3 rfl) ?_
                  have hPc := hP.sub (ws' := (wd_171f232f h0 v0 h1 v1 x135 (-1) v4 r0 r1 r2 r3 r4 r5 r6 v5 v6 r7 r8 h2 h3 x46 r9 r10 v8 v9 r11 r12 v10 v11 r13 v12 v13 r14 v14 w15 r15 v16 v17 r16 r17 r18 r19 r20 r21 v18 r22 r23 r24 v19)) [0] rfl
                  have hDc := hD.sub (ws' := (wd_171f232f h0 v0 h1 v1 x135 (-1) v4 r0 r1 r2 r3 r4 r5 r6 v5 v6 r7 r8 h2 h3 x46 r9 r10 v8 v9 r11 r12 v10 v11 r13 v12 v13 r14 v14 w15 r15 v16 v17 r16 r17 r18 r19 r20 r21 v18 r22 r23 r24 v19)) [0] (by decide) rfl
                  have hKc := hK.sub (tys' := []) [] rfl
                  have hFc := va_free (wc := (wd_171f232f h0 v0 h1 v1 x135 (-1) v4 r0 r1 r2 r3 r4 r5 r6 v5 v6 r7 r8 h2 h3 x46 r9 r10 v8 v9 r11 r12 v10 v11 r13 v12 v13 r14 v14 w15 r15 v16 v17 r16 r17 r18 r19 r20 r21 v18 r22 r23 r24 v19)) hD hS hA [0] rfl
                  refine va_callv (va_runV (As := []) (rest := []) ⟨hx, hb, hml, hown, hts⟩ (k_X12_bad l dC dI h0 v0 h1 v1 x135 v4 r0 r1 r2 r3 r4 r5 r6 v5 v6 r7 r8 h2 h3 x46 r9 r10 v8 v9 r11 r12 v10 v11 r13 v12 v13 r14 v14 w15 r15 v16 v17 r16 r17 r18 r19 r20 r21 v18 r22 r23 r24 v19 ⟨by first | omega | decide, by first | omega | decide⟩ ⟨by first | omega | decide, by first | omega | decide⟩ ⟨by first | omega | decide, by first | omega | decide⟩ ⟨by first | omega | decide, by first | omega | decide⟩ ⟨by first | omega | decide, by first | omega | decide⟩ ⟨by first | omega | decide, by first | omega | decide⟩ ⟨by first | omega | decide, by first | omega | decide⟩ ⟨by first | omega | decide, by first | omega | decide⟩ ⟨by first | omega | decide, by first | omega | decide⟩ ⟨by first | omega | decide, by first | omega | decide⟩ ⟨by first | omega | decide, by first | omega | decide⟩ H.size) (cwV 0 hts g_X12_readOffice_5 rfl rfl rfl (by decide +kernel) ⟨Nat.le_of_ble_eq_true rfl, Nat.le_of_ble_eq_true rfl⟩) ⟨fun a U g mk q => by obtain ⟨q0, q1, qP, qK, qD⟩ := q; exact ⟨q0, q1, qP, va_K.moved (u := U) (U := U.calling g mk a) (Vm.Alike.refl U.vm) qK, qD⟩, va_recv hKc hPc (ci := 12) (q0 := 0) rfl rfl, fun U hU hW => ⟨rfl, by rw [hU], by rw [hU]; exact hPc, va_K.moved hW.alike hKc, hDc.weaken (fun _ _ _ _ => trivial)⟩⟩ rfl rfl hl.1 rfl (lv_room (Nat.le_of_ble_eq_true rfl)) dX12_readOffice_223 ⟨Nat.le_of_ble_eq_true rfl, Nat.le_of_ble_eq_true rfl⟩) hS (fun q _ h => hFc q h) hFc (fun u t H1 locs ht hvm hwra137 hB hz1 hk1 hS => ?_)
                  obtain ⟨x138, oa_x138, ob_x138, pt0_ra137, hP1, hK1, hD1⟩ := hB
                  rw [ht] at hP1
                  obtain ⟨hP, hD⟩ := va_join (wr := (wd_bcaf9cf2 h1 g0 f20 h2 g1 fn125 h3 g2 fn48)) (w1 := (wd_171f232f h0 v0 h1 v1 x135 x138 v4 r0 r1 r2 r3 r4 r5 r6 v5 v6 r7 r8 h2 h3 x46 r9 r10 v8 v9 r11 r12 v10 v11 r13 v12 v13 r14 v14 w15 r15 v16 v17 r16 r17 r18 r19 r20 r21 v18 r22 r23 r24 v19)) hP hD [0] [1, 2, 3] rfl rfl (by decide) (by decide) hk1 hFc hP1 hD1
                  generalize H1 = H at hP hS ⊢
                  have hP := hP.sub (ws' := (wd_77d3d1bb h0 v0 h1 v1 x135 x138 v4 r0 r1 r2 r3 r4 r5 r6 v5 v6 r7 r8 h2 h3 x46 r9 r10 v8 v9 r11 r12 v10 v11 r13 v12 v13 r14 v14 w15 r15 v16 v17 r16 r17 r18 r19 r20 r21 v18 r22 r23 r24 v19 h1 g0 f20 h2 g1 fn125 h3 g2 fn48)) [3, 0, 1, 2] rfl
                  have hD := hD.sub (ws' := (wd_77d3d1bb h0 v0 h1 v1 x135 x138 v4 r0 r1 r2 r3 r4 r5 r6 v5 v6 r7 r8 h2 h3 x46 r9 r10 v8 v9 r11 r12 v10 v11 r13 v12 v13 r14 v14 w15 r15 v16 v17 r16 r17 r18 r19 r20 r21 v18 r22 r23 r24 v19 h1 g0 f20 h2 g1 fn125 h3 g2 fn48)) [3, 0, 1, 2] (by decide) rfl
                  have hP : va_P (dC, dI) vwCl (wd_77d3d1bb h0 v0 h1 v1 x135 x138 v4 r0 r1 r2 r3 r4 r5 r6 v5 v6 r7 r8 h2 h3 x46 r9 r10 v8 v9 r11 r12 v10 v11 r13 v12 v13 r14 v14 w15 r15 v16 v17 r16 r17 r18 r19 r20 r21 v18 r22 r23 r24 v19 h1 g0 f20 h2 g1 fn125 h3 g2 fn48) H := hP
                  have hD : va_D A (wd_77d3d1bb h0 v0 h1 v1 x135 x138 v4 r0 r1 r2 r3 r4 r5 r6 v5 v6 r7 r8 h2 h3 x46 r9 r10 v8 v9 r11 r12 v10 v11 r13 v12 v13 r14 v14 w15 r15 v16 v17 r16 r17 r18 r19 r20 r21 v18 r22 r23 r24 v19 h1 g0 f20 h2 g1 fn125 h3 g2 fn48) := hD
                  refine lv_aload_n hx hb dX12_readOffice_226 rfl (lv_at hl 3 rfl) ?_
                  refine va_get (D := (dC, dI)) (ci := 12) (v := .int x138) (C := RX12) (T := TX12) (N := 48) hx hb hts (fun _ h => List.mem_cons_of_mem _ (List.mem_append_right _ h)) hown hK hP 0 rfl rfl 4 (by decide) (hts (.fieldLink RX12 119 "LeftArgumentsModel" "wrong" "I") (List.mem_cons_of_mem _ (List.mem_append_left _ (List.mem_of_getElem? (i := 1) rfl)))) (fun _ h9 => h9) rfl dX12_readOffice_227 ?_
                  subst hQ
                  have hP9 := hP.sub (ws' := (wd_77d3d1bb h0 v0 h1 v1 x135 x138 v4 r0 r1 r2 r3 r4 r5 r6 v5 v6 r7 r8 h2 h3 x46 r9 r10 v8 v9 r11 r12 v10 v11 r13 v12 v13 r14 v14 w15 r15 v16 v17 r16 r17 r18 r19 r20 r21 v18 r22 r23 r24 v19 h1 g0 f20 h2 g1 fn125 h3 g2 fn48)) [0, 1, 2, 3] rfl
                  have hD9 := hD.sub (ws' := (wd_77d3d1bb h0 v0 h1 v1 x135 x138 v4 r0 r1 r2 r3 r4 r5 r6 v5 v6 r7 r8 h2 h3 x46 r9 r10 v8 v9 r11 r12 v10 v11 r13 v12 v13 r14 v14 w15 r15 v16 v17 r16 r17 r18 r19 r20 r21 v18 r22 r23 r24 v19 h1 g0 f20 h2 g1 fn125 h3 g2 fn48)) [0, 1, 2, 3] (by decide) rfl
                  have hK9 := hK.sub (tys' := []) [] rfl
                  exact W.iret (v := x138) hx hb hr (fun t ht hW => ⟨⟨x138, x138, rfl, rfl, Or.inr (⟨x135, x138, x46, fn125, fn48, by first | omega | decide, by first | omega | decide, by first | omega | decide, by first | omega | decide, by first | omega | decide, by first | omega | decide, by first | omega | decide, by first | omega | decide, by first | (apply pg_office.b0 (R := f21) (B := f22) <;> first | assumption | omega | (apply pg_O.sf <;> first | assumption | omega) | (apply pg_O.bf <;> first | assumption | omega) | (apply pg_O.w <;> first | assumption | omega)) | (apply pg_office.b1 (R := f21) (B := f22) <;> first | assumption | omega | (apply pg_O.s0 <;> first | assumption | omega) | (apply pg_O.b0 <;> first | assumption | omega)) | (apply pg_office.b2 (R := f21) (B := f22) <;> first | assumption | omega | (apply pg_O.s0 <;> first | assumption | omega) | (apply pg_O.b0 <;> first | assumption | omega)), by omega, by rw [ht]; exact hP9, va_K.moved hW.alike hK9, hD9⟩)⟩, hS.F ht⟩) hS.2.2 dX12_readOffice_230
              · skip
                obtain ⟨x139, oa_x139, ob_x139, pt0_ra126, pt1_ra126, pt2_ra126, pt3_ra126, pt4_ra126, pt5_ra126, pt6_ra126, pt7_ra126, hP1, hK1, hD1⟩ := hB
                rw [ht] at hP1
                obtain ⟨hP, hD⟩ := va_join (wr := (wd_5ef8c86c h2 g1 fn125 h3 g2 fn48)) (w1 := (wd_f4cd022e h0 v0 h1 v1 x139 (-1) v4 r0 r1 r2 r3 r4 r5 r6 v5 v6 r7 r8 h2 h3 x46 r9 r10 v8 v9 r11 r12 v10 v11 r13 v12 v13 r14 v14 w15 r15 v16 v17 r16 r17 r18 r19 r20 r21 v18 r22 r23 r24 v19 h1 g0 f20)) hP hD [0, 1] [2, 3] rfl rfl (by decide) (by decide) hk1 hFc hP1 hD1
                generalize H1 = H at hP hS ⊢
                have hP := hP.sub (ws' := (wd_77d3d1bb h0 v0 h1 v1 x139 (-1) v4 r0 r1 r2 r3 r4 r5 r6 v5 v6 r7 r8 h2 h3 x46 r9 r10 v8 v9 r11 r12 v10 v11 r13 v12 v13 r14 v14 w15 r15 v16 v17 r16 r17 r18 r19 r20 r21 v18 r22 r23 r24 v19 h1 g0 f20 h2 g1 fn125 h3 g2 fn48)) [2, 3, 0, 1] rfl
                have hD := hD.sub (ws' := (wd_77d3d1bb h0 v0 h1 v1 x139 (-1) v4 r0 r1 r2 r3 r4 r5 r6 v5 v6 r7 r8 h2 h3 x46 r9 r10 v8 v9 r11 r12 v10 v11 r13 v12 v13 r14 v14 w15 r15 v16 v17 r16 r17 r18 r19 r20 r21 v18 r22 r23 r24 v19 h1 g0 f20 h2 g1 fn125 h3 g2 fn48)) [2, 3, 0, 1] (by decide) rfl
                have hP : va_P (dC, dI) vwCl (wd_77d3d1bb h0 v0 h1 v1 x139 (-1) v4 r0 r1 r2 r3 r4 r5 r6 v5 v6 r7 r8 h2 h3 x46 r9 r10 v8 v9 r11 r12 v10 v11 r13 v12 v13 r14 v14 w15 r15 v16 v17 r16 r17 r18 r19 r20 r21 v18 r22 r23 r24 v19 h1 g0 f20 h2 g1 fn125 h3 g2 fn48) H := hP
                have hD : va_D A (wd_77d3d1bb h0 v0 h1 v1 x139 (-1) v4 r0 r1 r2 r3 r4 r5 r6 v5 v6 r7 r8 h2 h3 x46 r9 r10 v8 v9 r11 r12 v10 v11 r13 v12 v13 r14 v14 w15 r15 v16 v17 r16 r17 r18 r19 r20 r21 v18 r22 r23 r24 v19 h1 g0 f20 h2 g1 fn125 h3 g2 fn48) := hD
                refine lv_bipush (v := 59) hx hb dX12_readOffice_167 (by decide) ?_
                refine lv_icmp_ne (tgt := 176) hx hb dX12_readOffice_169 (by decide) (fun c140 => ?_) (fun c140 => ?_)
                · skip
                  have fc140 : ¬ (ra126.toInt = 59) := fun h9 => c140 (Int32.toInt_inj.mp h9)
                  refine lv_iconst (v := 0) hx hb dX12_readOffice_176 (by decide) ?_
                  refine lv_istore_n (lv' := [(2, .int 0), (1, .int 1), (3, .int 115), (0, .ref h0)]) hx hb dX12_readOffice_177 rfl hl (by decide) rfl (fun ls hl => ?_)
                  refine lv_aload_n hx hb dX12_readOffice_178 rfl (lv_at hl 3 rfl) ?_
                  refine lv_dup hx hb dX12_readOffice_179 rfl ?_
                  refine va_get (D := (dC, dI)) (ci := 12) (v := .int x139) (C := RX12) (T := TX12) (N := 48) hx hb hts (fun _ h => List.mem_cons_of_mem _ (List.mem_append_right _ h)) hown hK hP 0 rfl rfl 3 (by decide) (hts (.fieldLink RX12 112 "LeftArgumentsModel" "at" "I") (List.mem_cons_of_mem _ (List.mem_append_left _ (List.mem_of_getElem? (i := 0) rfl)))) (fun _ h9 => h9) rfl dX12_readOffice_180 ?_
                  refine lv_iload_n hx hb dX12_readOffice_183 rfl (lv_at hl 0 rfl) ?_
                  refine lv_if_eq (tgt := 191) hx hb dX12_readOffice_184 (by decide) (fun _ => ?_) (fun c => absurd (by decide) c)
                  refine lv_iconst (v := 0) hx hb dX12_readOffice_191 (by decide) ?_
                  refine lv_iadd hx hb dX12_readOffice_192 ?_
                  refine lv_topi (fun t141 et141 => ?_)
                  have gt141 : t141.toInt = x139.toInt + 0 := pv_add (a := x139.toInt) (b := 0) et141 rfl (by decide) (by omega) (by omega)
                  refine va_put (D := (dC, dI)) (ci := 12) (v := .int t141) (ty := .int) (C := RX12) (T := TX12) (N := 48) hx hb hts (fun _ h => List.mem_cons_of_mem _ (List.mem_append_right _ h)) tyX12 tyX12_ok nmX12 hown hK hP hD hS 0 rfl rfl 3 (by decide) (hts (.fieldLink RX12 112 "LeftArgumentsModel" "at" "I") (List.mem_cons_of_mem _ (List.mem_append_left _ (List.mem_of_getElem? (i := 0) rfl)))) (fun _ h9 => h9) rfl (by decide +kernel) rfl rfl (Nat.le_of_ble_eq_true rfl) dX12_readOffice_193 (fun H locs hP hD hS => ?_)
                  have hP : va_P (dC, dI) vwCl (wd_77d3d1bb h0 v0 h1 v1 t141 (-1) v4 r0 r1 r2 r3 r4 r5 r6 v5 v6 r7 r8 h2 h3 x46 r9 r10 v8 v9 r11 r12 v10 v11 r13 v12 v13 r14 v14 w15 r15 v16 v17 r16 r17 r18 r19 r20 r21 v18 r22 r23 r24 v19 h1 g0 f20 h2 g1 fn125 h3 g2 fn48) H := hP
                  have hD : va_D A (wd_77d3d1bb h0 v0 h1 v1 t141 (-1) v4 r0 r1 r2 r3 r4 r5 r6 v5 v6 r7 r8 h2 h3 x46 r9 r10 v8 v9 r11 r12 v10 v11 r13 v12 v13 r14 v14 w15 r15 v16 v17 r16 r17 r18 r19 r20 r21 v18 r22 r23 r24 v19 h1 g0 f20 h2 g1 fn125 h3 g2 fn48) := hD
                  refine lv_goto (tgt := 44) hx hb dX12_readOffice_196 (by decide) ?_
                  refine lv_iload_n hx hb dX12_readOffice_44 rfl (lv_at hl 0 rfl) ?_
                  refine lv_if_eq (tgt := 199) hx hb dX12_readOffice_45 (by decide) (fun _ => ?_) (fun c => absurd (by decide) c)
                  refine lv_aload_n hx hb dX12_readOffice_199 rfl (lv_at hl 3 rfl) ?_
                  refine va_get (D := (dC, dI)) (ci := 12) (v := .int (-1)) (C := RX12) (T := TX12) (N := 48) hx hb hts (fun _ h => List.mem_cons_of_mem _ (List.mem_append_right _ h)) hown hK hP 0 rfl rfl 4 (by decide) (hts (.fieldLink RX12 119 "LeftArgumentsModel" "wrong" "I") (List.mem_cons_of_mem _ (List.mem_append_left _ (List.mem_of_getElem? (i := 1) rfl)))) (fun _ h9 => h9) rfl dX12_readOffice_200 ?_
                  refine lv_iconst (v := (-1)) hx hb dX12_readOffice_203 (by decide) ?_
                  refine lv_icmp_ne (tgt := 226) hx hb dX12_readOffice_204 (by decide) (fun c => absurd (by decide) c) (fun _ => ?_)
                  refine lv_aload_n hx hb dX12_readOffice_207 rfl (lv_at hl 3 rfl) ?_
                  have hPc := hP.sub (ws' := (wd_f4cd022e h0 v0 h1 v1 t141 (-1) v4 r0 r1 r2 r3 r4 r5 r6 v5 v6 r7 r8 h2 h3 x46 r9 r10 v8 v9 r11 r12 v10 v11 r13 v12 v13 r14 v14 w15 r15 v16 v17 r16 r17 r18 r19 r20 r21 v18 r22 r23 r24 v19 h1 g0 f20)) [0, 1] rfl
                  have hDc := hD.sub (ws' := (wd_f4cd022e h0 v0 h1 v1 t141 (-1) v4 r0 r1 r2 r3 r4 r5 r6 v5 v6 r7 r8 h2 h3 x46 r9 r10 v8 v9 r11 r12 v10 v11 r13 v12 v13 r14 v14 w15 r15 v16 v17 r16 r17 r18 r19 r20 r21 v18 r22 r23 r24 v19 h1 g0 f20)) [0, 1] (by decide) rfl
                  have hKc := hK.sub (tys' := [(g0, .int)]) [0] rfl
                  have hFc := va_free (wc := (wd_f4cd022e h0 v0 h1 v1 t141 (-1) v4 r0 r1 r2 r3 r4 r5 r6 v5 v6 r7 r8 h2 h3 x46 r9 r10 v8 v9 r11 r12 v10 v11 r13 v12 v13 r14 v14 w15 r15 v16 v17 r16 r17 r18 r19 r20 r21 v18 r22 r23 r24 v19 h1 g0 f20)) hD hS hA [0, 1] rfl
                  refine va_calli (va_runV (As := []) (rest := []) ⟨hx, hb, hml, hown, hts⟩ (k_X12_look l dC dI h0 h1 v0 v1 t141 ((-1)) v4 r0 r1 r2 r3 r4 r5 r6 v5 v6 r7 r8 h2 h3 x46 r9 r10 v8 v9 r11 r12 v10 v11 r13 v12 v13 r14 v14 w15 r15 v16 v17 r16 r17 r18 r19 r20 r21 v18 r22 r23 r24 v19 g0 f20 ⟨by first | omega | decide, by first | omega | decide⟩ ⟨by first | omega | decide, by first | omega | decide⟩ ⟨by first | omega | decide, by first | omega | decide⟩ ⟨by first | omega | decide, by first | omega | decide⟩ ⟨by first | omega | decide, by first | omega | decide⟩ ⟨by first | omega | decide, by first | omega | decide⟩ ⟨by first | omega | decide, by first | omega | decide⟩ ⟨by first | omega | decide, by first | omega | decide⟩ ⟨by first | omega | decide, by first | omega | decide⟩ ⟨by first | omega | decide, by first | omega | decide⟩ ⟨by first | omega | decide, by first | omega | decide⟩ ia_f20 H.size) (cwV 0 hts g_X12_readOffice_4 rfl rfl rfl (by decide +kernel) ⟨Nat.le_of_ble_eq_true rfl, Nat.le_of_ble_eq_true rfl⟩) ⟨fun a U g mk q => by obtain ⟨q0, q1, qP, qK, qD⟩ := q; exact ⟨q0, q1, qP, va_K.moved (u := U) (U := U.calling g mk a) (Vm.Alike.refl U.vm) qK, qD⟩, va_recv hKc hPc (ci := 12) (q0 := 0) rfl rfl, fun U hU hW => ⟨rfl, by rw [hU], by rw [hU]; exact hPc, va_K.moved hW.alike hKc, hDc.weaken (fun _ _ _ _ => trivial)⟩⟩ rfl rfl hl.1 rfl (lv_room (Nat.le_of_ble_eq_true rfl)) dX12_readOffice_208 ⟨Nat.le_of_ble_eq_true rfl, Nat.le_of_ble_eq_true rfl⟩) hS (fun q _ h => hFc q h) hFc (fun ra142 u t H1 locs ht hvm hwra142 hB hz1 hk1 hS => ?_)
                  try rw [hwra142] at hB
                  have hkra142_0 : (((-1) : Int32)).toInt = -1 := by decide
                  rcases hB with hB | hB
                  · skip
                    obtain ⟨x143, oa_x143, ob_x143, pt0_ra142, pt1_ra142, pt2_ra142, pt3_ra142, pt4_ra142, pt5_ra142, pt6_ra142, hP1, hK1, hD1⟩ := hB
                    rw [ht] at hP1
                    obtain ⟨hP, hD⟩ := va_join (wr := (wd_5ef8c86c h2 g1 fn125 h3 g2 fn48)) (w1 := (wd_f4cd022e h0 v0 h1 v1 x143 (-1) v4 r0 r1 r2 r3 r4 r5 r6 v5 v6 r7 r8 h2 h3 x46 r9 r10 v8 v9 r11 r12 v10 v11 r13 v12 v13 r14 v14 w15 r15 v16 v17 r16 r17 r18 r19 r20 r21 v18 r22 r23 r24 v19 h1 g0 f20)) hP hD [0, 1] [2, 3] rfl rfl (by decide) (by decide) hk1 hFc hP1 hD1
                    generalize H1 = H at hP hS ⊢
                    have hP := hP.sub (ws' := (wd_77d3d1bb h0 v0 h1 v1 x143 (-1) v4 r0 r1 r2 r3 r4 r5 r6 v5 v6 r7 r8 h2 h3 x46 r9 r10 v8 v9 r11 r12 v10 v11 r13 v12 v13 r14 v14 w15 r15 v16 v17 r16 r17 r18 r19 r20 r21 v18 r22 r23 r24 v19 h1 g0 f20 h2 g1 fn125 h3 g2 fn48)) [2, 3, 0, 1] rfl
                    have hD := hD.sub (ws' := (wd_77d3d1bb h0 v0 h1 v1 x143 (-1) v4 r0 r1 r2 r3 r4 r5 r6 v5 v6 r7 r8 h2 h3 x46 r9 r10 v8 v9 r11 r12 v10 v11 r13 v12 v13 r14 v14 w15 r15 v16 v17 r16 r17 r18 r19 r20 r21 v18 r22 r23 r24 v19 h1 g0 f20 h2 g1 fn125 h3 g2 fn48)) [2, 3, 0, 1] (by decide) rfl
                    have hP : va_P (dC, dI) vwCl (wd_77d3d1bb h0 v0 h1 v1 x143 (-1) v4 r0 r1 r2 r3 r4 r5 r6 v5 v6 r7 r8 h2 h3 x46 r9 r10 v8 v9 r11 r12 v10 v11 r13 v12 v13 r14 v14 w15 r15 v16 v17 r16 r17 r18 r19 r20 r21 v18 r22 r23 r24 v19 h1 g0 f20 h2 g1 fn125 h3 g2 fn48) H := hP
                    have hD : va_D A (wd_77d3d1bb h0 v0 h1 v1 x143 (-1) v4 r0 r1 r2 r3 r4 r5 r6 v5 v6 r7 r8 h2 h3 x46 r9 r10 v8 v9 r11 r12 v10 v11 r13 v12 v13 r14 v14 w15 r15 v16 v17 r16 r17 r18 r19 r20 r21 v18 r22 r23 r24 v19 h1 g0 f20 h2 g1 fn125 h3 g2 fn48) := hD
                    obtain rfl : ra142 = ((-1) : Int32) := Int32.toInt_inj.mp (by rw [show (((-1) : Int32)).toInt = -1 by decide]; omega)
                    refine lv_iconst (v := (-1)) hx hb dX12_readOffice_211 (by decide) ?_
                    refine lv_icmp_ne (tgt := 222) hx hb dX12_readOffice_212 (by decide) (fun c => absurd (by decide) c) (fun _ => ?_)
                    refine lv_aload_n hx hb dX12_readOffice_215 rfl (lv_at hl 3 rfl) ?_
                    have hPc := hP.sub (ws' := (wd_4d81ce87 h0 v0 h1 v1 x143 (-1) v4 r0 r1 r2 r3 r4 r5 r6 v5 v6 r7 r8 h2 h3 x46 r9 r10 v8 v9 r11 r12 v10 v11 r13 v12 v13 r14 v14 w15 r15 v16 v17 r16 r17 r18 r19 r20 r21 v18 r22 r23 r24 v19 h2 g1 fn125 h3 g2 fn48)) [0, 2, 3] rfl
                    have hDc := hD.sub (ws' := (wd_4d81ce87 h0 v0 h1 v1 x143 (-1) v4 r0 r1 r2 r3 r4 r5 r6 v5 v6 r7 r8 h2 h3 x46 r9 r10 v8 v9 r11 r12 v10 v11 r13 v12 v13 r14 v14 w15 r15 v16 v17 r16 r17 r18 r19 r20 r21 v18 r22 r23 r24 v19 h2 g1 fn125 h3 g2 fn48)) [0, 2, 3] (by decide) rfl
                    have hKc := hK.sub (tys' := [(g1, .int), (g2, .int)]) [1, 2] rfl
                    have hFc := va_free (wc := (wd_4d81ce87 h0 v0 h1 v1 x143 (-1) v4 r0 r1 r2 r3 r4 r5 r6 v5 v6 r7 r8 h2 h3 x46 r9 r10 v8 v9 r11 r12 v10 v11 r13 v12 v13 r14 v14 w15 r15 v16 v17 r16 r17 r18 r19 r20 r21 v18 r22 r23 r24 v19 h2 g1 fn125 h3 g2 fn48)) hD hS hA [0, 2, 3] rfl
                    refine va_calli (va_runV (As := []) (rest := []) ⟨hx, hb, hml, hown, hts⟩ (k_X12_isWhole l dC dI h0 h2 h3 v0 h1 v1 x143 ((-1)) v4 r0 r1 r2 r3 r4 r5 r6 v5 v6 r7 r8 x46 r9 r10 v8 v9 r11 r12 v10 v11 r13 v12 v13 r14 v14 w15 r15 v16 v17 r16 r17 r18 r19 r20 r21 v18 r22 r23 r24 v19 g1 fn125 g2 fn48 ⟨by first | omega | decide, by first | omega | decide⟩ ⟨by first | omega | decide, by first | omega | decide⟩ ⟨by first | omega | decide, by first | omega | decide⟩ ⟨by first | omega | decide, by first | omega | decide⟩ ⟨by first | omega | decide, by first | omega | decide⟩ ⟨by first | omega | decide, by first | omega | decide⟩ ⟨by first | omega | decide, by first | omega | decide⟩ ⟨by first | omega | decide, by first | omega | decide⟩ ⟨by first | omega | decide, by first | omega | decide⟩ ⟨by first | omega | decide, by first | omega | decide⟩ H.size) (cwV 0 hts g_X12_readOffice_11 rfl rfl rfl (by decide +kernel) ⟨Nat.le_of_ble_eq_true rfl, Nat.le_of_ble_eq_true rfl⟩) ⟨fun a U g mk q => by obtain ⟨q0, q1, qP, qK, qD⟩ := q; exact ⟨q0, q1, qP, va_K.moved (u := U) (U := U.calling g mk a) (Vm.Alike.refl U.vm) qK, qD⟩, va_recv hKc hPc (ci := 12) (q0 := 0) rfl rfl, fun U hU hW => ⟨rfl, by rw [hU], by rw [hU]; exact hPc, va_K.moved hW.alike hKc, hDc.weaken (fun _ _ _ _ => trivial)⟩⟩ rfl rfl hl.1 rfl (lv_room (Nat.le_of_ble_eq_true rfl)) dX12_readOffice_216 ⟨Nat.le_of_ble_eq_true rfl, Nat.le_of_ble_eq_true rfl⟩) hS (fun q _ h => hFc q h) hFc (fun ra144 u t H1 locs ht hvm hwra144 hB hz1 hk1 hS => ?_)
                    try rw [hwra144] at hB
                    have hkra144_0 : (((-1) : Int32)).toInt = -1 := by decide
                    obtain ⟨pt0_ra144, pt1_ra144, pt2_ra144, hP1, hK1, hD1⟩ := hB
                    rw [ht] at hP1
                    obtain ⟨hP, hD⟩ := va_join (wr := (wd_d0032b31 h1 g0 f20)) (w1 := (wd_4d81ce87 h0 v0 h1 v1 x143 (-1) v4 r0 r1 r2 r3 r4 r5 r6 v5 v6 r7 r8 h2 h3 x46 r9 r10 v8 v9 r11 r12 v10 v11 r13 v12 v13 r14 v14 w15 r15 v16 v17 r16 r17 r18 r19 r20 r21 v18 r22 r23 r24 v19 h2 g1 fn125 h3 g2 fn48)) hP hD [0, 2, 3] [1] rfl rfl (by decide) (by decide) hk1 hFc hP1 hD1
                    generalize H1 = H at hP hS ⊢
                    have hP := hP.sub (ws' := (wd_77d3d1bb h0 v0 h1 v1 x143 (-1) v4 r0 r1 r2 r3 r4 r5 r6 v5 v6 r7 r8 h2 h3 x46 r9 r10 v8 v9 r11 r12 v10 v11 r13 v12 v13 r14 v14 w15 r15 v16 v17 r16 r17 r18 r19 r20 r21 v18 r22 r23 r24 v19 h1 g0 f20 h2 g1 fn125 h3 g2 fn48)) [1, 0, 2, 3] rfl
                    have hD := hD.sub (ws' := (wd_77d3d1bb h0 v0 h1 v1 x143 (-1) v4 r0 r1 r2 r3 r4 r5 r6 v5 v6 r7 r8 h2 h3 x46 r9 r10 v8 v9 r11 r12 v10 v11 r13 v12 v13 r14 v14 w15 r15 v16 v17 r16 r17 r18 r19 r20 r21 v18 r22 r23 r24 v19 h1 g0 f20 h2 g1 fn125 h3 g2 fn48)) [1, 0, 2, 3] (by decide) rfl
                    have hP : va_P (dC, dI) vwCl (wd_77d3d1bb h0 v0 h1 v1 x143 (-1) v4 r0 r1 r2 r3 r4 r5 r6 v5 v6 r7 r8 h2 h3 x46 r9 r10 v8 v9 r11 r12 v10 v11 r13 v12 v13 r14 v14 w15 r15 v16 v17 r16 r17 r18 r19 r20 r21 v18 r22 r23 r24 v19 h1 g0 f20 h2 g1 fn125 h3 g2 fn48) H := hP
                    have hD : va_D A (wd_77d3d1bb h0 v0 h1 v1 x143 (-1) v4 r0 r1 r2 r3 r4 r5 r6 v5 v6 r7 r8 h2 h3 x46 r9 r10 v8 v9 r11 r12 v10 v11 r13 v12 v13 r14 v14 w15 r15 v16 v17 r16 r17 r18 r19 r20 r21 v18 r22 r23 r24 v19 h1 g0 f20 h2 g1 fn125 h3 g2 fn48) := hD
                    have hw1ra144 : ra144.toInt = 1 → pg_wh x46.toInt fn125 fn48 = true := fun h9 => by rcases pt2_ra144 with h8 | h8; exact h8.2; exfalso; omega
                    have hw0ra144 : ra144.toInt = 0 → pg_wh x46.toInt fn125 fn48 = false := fun h9 => by rcases pt2_ra144 with h8 | h8; exfalso; omega; exact h8.2
                    refine lv_if_ne (tgt := 226) hx hb dX12_readOffice_219 (by decide) (fun c145 => ?_) (fun c145 => ?_)
                    · skip
                      have fc145 : ¬ (ra144.toInt = 0) := fun h9 => c145 (Int32.toInt_inj.mp h9)
                      have q1hw1ra144 := hw1ra144 (by omega)
                      refine lv_aload_n hx hb dX12_readOffice_226 rfl (lv_at hl 3 rfl) ?_
                      refine va_get (D := (dC, dI)) (ci := 12) (v := .int (-1)) (C := RX12) (T := TX12) (N := 48) hx hb hts (fun _ h => List.mem_cons_of_mem _ (List.mem_append_right _ h)) hown hK hP 0 rfl rfl 4 (by decide) (hts (.fieldLink RX12 119 "LeftArgumentsModel" "wrong" "I") (List.mem_cons_of_mem _ (List.mem_append_left _ (List.mem_of_getElem? (i := 1) rfl)))) (fun _ h9 => h9) rfl dX12_readOffice_227 ?_
                      subst hQ
                      have hP9 := hP.sub (ws' := (wd_77d3d1bb h0 v0 h1 v1 x143 (-1) v4 r0 r1 r2 r3 r4 r5 r6 v5 v6 r7 r8 h2 h3 x46 r9 r10 v8 v9 r11 r12 v10 v11 r13 v12 v13 r14 v14 w15 r15 v16 v17 r16 r17 r18 r19 r20 r21 v18 r22 r23 r24 v19 h1 g0 f20 h2 g1 fn125 h3 g2 fn48)) [0, 1, 2, 3] rfl
                      have hD9 := hD.sub (ws' := (wd_77d3d1bb h0 v0 h1 v1 x143 (-1) v4 r0 r1 r2 r3 r4 r5 r6 v5 v6 r7 r8 h2 h3 x46 r9 r10 v8 v9 r11 r12 v10 v11 r13 v12 v13 r14 v14 w15 r15 v16 v17 r16 r17 r18 r19 r20 r21 v18 r22 r23 r24 v19 h1 g0 f20 h2 g1 fn125 h3 g2 fn48)) [0, 1, 2, 3] (by decide) rfl
                      have hK9 := hK.sub (tys' := []) [] rfl
                      exact W.iret (v := (-1)) hx hb hr (fun t ht hW => ⟨⟨(-1), (-1), rfl, rfl, Or.inl ⟨x143, x46, fn125, fn48, by first | omega | decide, by first | omega | decide, by first | omega | decide, by first | omega | decide, by first | omega | decide, by first | omega | decide, by assumption, by first | assumption | (apply pm_BG.add <;> first | assumption | omega), by apply pg_office.g2 (R := f21) (B := f22) <;> first | assumption | omega | (apply pg_O.s0 <;> first | assumption | omega) | (apply pg_O.b0 <;> first | assumption | omega), by rw [ht]; exact hP9, va_K.moved hW.alike hK9, hD9⟩⟩, hS.F ht⟩) hS.2.2 dX12_readOffice_230
                    · skip
                      have fc145 : ra144.toInt = 0 := congrArg Int32.toInt c145
                      have q0hw0ra144 := hw0ra144 (by omega)
                      refine lv_aload_n hx hb dX12_readOffice_222 rfl (lv_at hl 3 rfl) ?_
                      have hPc := hP.sub (ws' := (wd_171f232f h0 v0 h1 v1 x143 (-1) v4 r0 r1 r2 r3 r4 r5 r6 v5 v6 r7 r8 h2 h3 x46 r9 r10 v8 v9 r11 r12 v10 v11 r13 v12 v13 r14 v14 w15 r15 v16 v17 r16 r17 r18 r19 r20 r21 v18 r22 r23 r24 v19)) [0] rfl
                      have hDc := hD.sub (ws' := (wd_171f232f h0 v0 h1 v1 x143 (-1) v4 r0 r1 r2 r3 r4 r5 r6 v5 v6 r7 r8 h2 h3 x46 r9 r10 v8 v9 r11 r12 v10 v11 r13 v12 v13 r14 v14 w15 r15 v16 v17 r16 r17 r18 r19 r20 r21 v18 r22 r23 r24 v19)) [0] (by decide) rfl
                      have hKc := hK.sub (tys' := []) [] rfl
                      have hFc := va_free (wc := (wd_171f232f h0 v0 h1 v1 x143 (-1) v4 r0 r1 r2 r3 r4 r5 r6 v5 v6 r7 r8 h2 h3 x46 r9 r10 v8 v9 r11 r12 v10 v11 r13 v12 v13 r14 v14 w15 r15 v16 v17 r16 r17 r18 r19 r20 r21 v18 r22 r23 r24 v19)) hD hS hA [0] rfl
                      refine va_callv (va_runV (As := []) (rest := []) ⟨hx, hb, hml, hown, hts⟩ (k_X12_bad l dC dI h0 v0 h1 v1 x143 v4 r0 r1 r2 r3 r4 r5 r6 v5 v6 r7 r8 h2 h3 x46 r9 r10 v8 v9 r11 r12 v10 v11 r13 v12 v13 r14 v14 w15 r15 v16 v17 r16 r17 r18 r19 r20 r21 v18 r22 r23 r24 v19 ⟨by first | omega | decide, by first | omega | decide⟩ ⟨by first | omega | decide, by first | omega | decide⟩ ⟨by first | omega | decide, by first | omega | decide⟩ ⟨by first | omega | decide, by first | omega | decide⟩ ⟨by first | omega | decide, by first | omega | decide⟩ ⟨by first | omega | decide, by first | omega | decide⟩ ⟨by first | omega | decide, by first | omega | decide⟩ ⟨by first | omega | decide, by first | omega | decide⟩ ⟨by first | omega | decide, by first | omega | decide⟩ ⟨by first | omega | decide, by first | omega | decide⟩ ⟨by first | omega | decide, by first | omega | decide⟩ H.size) (cwV 0 hts g_X12_readOffice_5 rfl rfl rfl (by decide +kernel) ⟨Nat.le_of_ble_eq_true rfl, Nat.le_of_ble_eq_true rfl⟩) ⟨fun a U g mk q => by obtain ⟨q0, q1, qP, qK, qD⟩ := q; exact ⟨q0, q1, qP, va_K.moved (u := U) (U := U.calling g mk a) (Vm.Alike.refl U.vm) qK, qD⟩, va_recv hKc hPc (ci := 12) (q0 := 0) rfl rfl, fun U hU hW => ⟨rfl, by rw [hU], by rw [hU]; exact hPc, va_K.moved hW.alike hKc, hDc.weaken (fun _ _ _ _ => trivial)⟩⟩ rfl rfl hl.1 rfl (lv_room (Nat.le_of_ble_eq_true rfl)) dX12_readOffice_223 ⟨Nat.le_of_ble_eq_true rfl, Nat.le_of_ble_eq_true rfl⟩) hS (fun q _ h => hFc q h) hFc (fun u t H1 locs ht hvm hwra146 hB hz1 hk1 hS => ?_)
                      obtain ⟨x147, oa_x147, ob_x147, pt0_ra146, hP1, hK1, hD1⟩ := hB
                      rw [ht] at hP1
                      obtain ⟨hP, hD⟩ := va_join (wr := (wd_bcaf9cf2 h1 g0 f20 h2 g1 fn125 h3 g2 fn48)) (w1 := (wd_171f232f h0 v0 h1 v1 x143 x147 v4 r0 r1 r2 r3 r4 r5 r6 v5 v6 r7 r8 h2 h3 x46 r9 r10 v8 v9 r11 r12 v10 v11 r13 v12 v13 r14 v14 w15 r15 v16 v17 r16 r17 r18 r19 r20 r21 v18 r22 r23 r24 v19)) hP hD [0] [1, 2, 3] rfl rfl (by decide) (by decide) hk1 hFc hP1 hD1
                      generalize H1 = H at hP hS ⊢
                      have hP := hP.sub (ws' := (wd_77d3d1bb h0 v0 h1 v1 x143 x147 v4 r0 r1 r2 r3 r4 r5 r6 v5 v6 r7 r8 h2 h3 x46 r9 r10 v8 v9 r11 r12 v10 v11 r13 v12 v13 r14 v14 w15 r15 v16 v17 r16 r17 r18 r19 r20 r21 v18 r22 r23 r24 v19 h1 g0 f20 h2 g1 fn125 h3 g2 fn48)) [3, 0, 1, 2] rfl
                      have hD := hD.sub (ws' := (wd_77d3d1bb h0 v0 h1 v1 x143 x147 v4 r0 r1 r2 r3 r4 r5 r6 v5 v6 r7 r8 h2 h3 x46 r9 r10 v8 v9 r11 r12 v10 v11 r13 v12 v13 r14 v14 w15 r15 v16 v17 r16 r17 r18 r19 r20 r21 v18 r22 r23 r24 v19 h1 g0 f20 h2 g1 fn125 h3 g2 fn48)) [3, 0, 1, 2] (by decide) rfl
                      have hP : va_P (dC, dI) vwCl (wd_77d3d1bb h0 v0 h1 v1 x143 x147 v4 r0 r1 r2 r3 r4 r5 r6 v5 v6 r7 r8 h2 h3 x46 r9 r10 v8 v9 r11 r12 v10 v11 r13 v12 v13 r14 v14 w15 r15 v16 v17 r16 r17 r18 r19 r20 r21 v18 r22 r23 r24 v19 h1 g0 f20 h2 g1 fn125 h3 g2 fn48) H := hP
                      have hD : va_D A (wd_77d3d1bb h0 v0 h1 v1 x143 x147 v4 r0 r1 r2 r3 r4 r5 r6 v5 v6 r7 r8 h2 h3 x46 r9 r10 v8 v9 r11 r12 v10 v11 r13 v12 v13 r14 v14 w15 r15 v16 v17 r16 r17 r18 r19 r20 r21 v18 r22 r23 r24 v19 h1 g0 f20 h2 g1 fn125 h3 g2 fn48) := hD
                      refine lv_aload_n hx hb dX12_readOffice_226 rfl (lv_at hl 3 rfl) ?_
                      refine va_get (D := (dC, dI)) (ci := 12) (v := .int x147) (C := RX12) (T := TX12) (N := 48) hx hb hts (fun _ h => List.mem_cons_of_mem _ (List.mem_append_right _ h)) hown hK hP 0 rfl rfl 4 (by decide) (hts (.fieldLink RX12 119 "LeftArgumentsModel" "wrong" "I") (List.mem_cons_of_mem _ (List.mem_append_left _ (List.mem_of_getElem? (i := 1) rfl)))) (fun _ h9 => h9) rfl dX12_readOffice_227 ?_
                      subst hQ
                      have hP9 := hP.sub (ws' := (wd_77d3d1bb h0 v0 h1 v1 x143 x147 v4 r0 r1 r2 r3 r4 r5 r6 v5 v6 r7 r8 h2 h3 x46 r9 r10 v8 v9 r11 r12 v10 v11 r13 v12 v13 r14 v14 w15 r15 v16 v17 r16 r17 r18 r19 r20 r21 v18 r22 r23 r24 v19 h1 g0 f20 h2 g1 fn125 h3 g2 fn48)) [0, 1, 2, 3] rfl
                      have hD9 := hD.sub (ws' := (wd_77d3d1bb h0 v0 h1 v1 x143 x147 v4 r0 r1 r2 r3 r4 r5 r6 v5 v6 r7 r8 h2 h3 x46 r9 r10 v8 v9 r11 r12 v10 v11 r13 v12 v13 r14 v14 w15 r15 v16 v17 r16 r17 r18 r19 r20 r21 v18 r22 r23 r24 v19 h1 g0 f20 h2 g1 fn125 h3 g2 fn48)) [0, 1, 2, 3] (by decide) rfl
                      have hK9 := hK.sub (tys' := []) [] rfl
                      exact W.iret (v := x147) hx hb hr (fun t ht hW => ⟨⟨x147, x147, rfl, rfl, Or.inr (⟨x143, x147, x46, fn125, fn48, by first | omega | decide, by first | omega | decide, by first | omega | decide, by first | omega | decide, by first | omega | decide, by first | omega | decide, by first | omega | decide, by first | omega | decide, by first | (apply pg_office.b0 (R := f21) (B := f22) <;> first | assumption | omega | (apply pg_O.sf <;> first | assumption | omega) | (apply pg_O.bf <;> first | assumption | omega) | (apply pg_O.w <;> first | assumption | omega)) | (apply pg_office.b1 (R := f21) (B := f22) <;> first | assumption | omega | (apply pg_O.s0 <;> first | assumption | omega) | (apply pg_O.b0 <;> first | assumption | omega)) | (apply pg_office.b2 (R := f21) (B := f22) <;> first | assumption | omega | (apply pg_O.s0 <;> first | assumption | omega) | (apply pg_O.b0 <;> first | assumption | omega)), by omega, by rw [ht]; exact hP9, va_K.moved hW.alike hK9, hD9⟩)⟩, hS.F ht⟩) hS.2.2 dX12_readOffice_230
                  · skip
                    obtain ⟨x148, oa_x148, ob_x148, pt0_ra142, pt1_ra142, pt2_ra142, pt3_ra142, pt4_ra142, pt5_ra142, pt6_ra142, pt7_ra142, hP1, hK1, hD1⟩ := hB
                    rw [ht] at hP1
                    obtain ⟨hP, hD⟩ := va_join (wr := (wd_5ef8c86c h2 g1 fn125 h3 g2 fn48)) (w1 := (wd_f4cd022e h0 v0 h1 v1 x148 (-1) v4 r0 r1 r2 r3 r4 r5 r6 v5 v6 r7 r8 h2 h3 x46 r9 r10 v8 v9 r11 r12 v10 v11 r13 v12 v13 r14 v14 w15 r15 v16 v17 r16 r17 r18 r19 r20 r21 v18 r22 r23 r24 v19 h1 g0 f20)) hP hD [0, 1] [2, 3] rfl rfl (by decide) (by decide) hk1 hFc hP1 hD1
                    generalize H1 = H at hP hS ⊢
                    have hP := hP.sub (ws' := (wd_77d3d1bb h0 v0 h1 v1 x148 (-1) v4 r0 r1 r2 r3 r4 r5 r6 v5 v6 r7 r8 h2 h3 x46 r9 r10 v8 v9 r11 r12 v10 v11 r13 v12 v13 r14 v14 w15 r15 v16 v17 r16 r17 r18 r19 r20 r21 v18 r22 r23 r24 v19 h1 g0 f20 h2 g1 fn125 h3 g2 fn48)) [2, 3, 0, 1] rfl
                    have hD := hD.sub (ws' := (wd_77d3d1bb h0 v0 h1 v1 x148 (-1) v4 r0 r1 r2 r3 r4 r5 r6 v5 v6 r7 r8 h2 h3 x46 r9 r10 v8 v9 r11 r12 v10 v11 r13 v12 v13 r14 v14 w15 r15 v16 v17 r16 r17 r18 r19 r20 r21 v18 r22 r23 r24 v19 h1 g0 f20 h2 g1 fn125 h3 g2 fn48)) [2, 3, 0, 1] (by decide) rfl
                    have hP : va_P (dC, dI) vwCl (wd_77d3d1bb h0 v0 h1 v1 x148 (-1) v4 r0 r1 r2 r3 r4 r5 r6 v5 v6 r7 r8 h2 h3 x46 r9 r10 v8 v9 r11 r12 v10 v11 r13 v12 v13 r14 v14 w15 r15 v16 v17 r16 r17 r18 r19 r20 r21 v18 r22 r23 r24 v19 h1 g0 f20 h2 g1 fn125 h3 g2 fn48) H := hP
                    have hD : va_D A (wd_77d3d1bb h0 v0 h1 v1 x148 (-1) v4 r0 r1 r2 r3 r4 r5 r6 v5 v6 r7 r8 h2 h3 x46 r9 r10 v8 v9 r11 r12 v10 v11 r13 v12 v13 r14 v14 w15 r15 v16 v17 r16 r17 r18 r19 r20 r21 v18 r22 r23 r24 v19 h1 g0 f20 h2 g1 fn125 h3 g2 fn48) := hD
                    refine lv_iconst (v := (-1)) hx hb dX12_readOffice_211 (by decide) ?_
                    refine lv_icmp_ne (tgt := 222) hx hb dX12_readOffice_212 (by decide) (fun _ => ?_) (fun c149 => by exfalso; have fc149 : ra142.toInt = (-1) := congrArg Int32.toInt c149; omega)
                    refine lv_aload_n hx hb dX12_readOffice_222 rfl (lv_at hl 3 rfl) ?_
                    have hPc := hP.sub (ws' := (wd_171f232f h0 v0 h1 v1 x148 (-1) v4 r0 r1 r2 r3 r4 r5 r6 v5 v6 r7 r8 h2 h3 x46 r9 r10 v8 v9 r11 r12 v10 v11 r13 v12 v13 r14 v14 w15 r15 v16 v17 r16 r17 r18 r19 r20 r21 v18 r22 r23 r24 v19)) [0] rfl
                    have hDc := hD.sub (ws' := (wd_171f232f h0 v0 h1 v1 x148 (-1) v4 r0 r1 r2 r3 r4 r5 r6 v5 v6 r7 r8 h2 h3 x46 r9 r10 v8 v9 r11 r12 v10 v11 r13 v12 v13 r14 v14 w15 r15 v16 v17 r16 r17 r18 r19 r20 r21 v18 r22 r23 r24 v19)) [0] (by decide) rfl
                    have hKc := hK.sub (tys' := []) [] rfl
                    have hFc := va_free (wc := (wd_171f232f h0 v0 h1 v1 x148 (-1) v4 r0 r1 r2 r3 r4 r5 r6 v5 v6 r7 r8 h2 h3 x46 r9 r10 v8 v9 r11 r12 v10 v11 r13 v12 v13 r14 v14 w15 r15 v16 v17 r16 r17 r18 r19 r20 r21 v18 r22 r23 r24 v19)) hD hS hA [0] rfl
                    refine va_callv (va_runV (As := []) (rest := []) ⟨hx, hb, hml, hown, hts⟩ (k_X12_bad l dC dI h0 v0 h1 v1 x148 v4 r0 r1 r2 r3 r4 r5 r6 v5 v6 r7 r8 h2 h3 x46 r9 r10 v8 v9 r11 r12 v10 v11 r13 v12 v13 r14 v14 w15 r15 v16 v17 r16 r17 r18 r19 r20 r21 v18 r22 r23 r24 v19 ⟨by first | omega | decide, by first | omega | decide⟩ ⟨by first | omega | decide, by first | omega | decide⟩ ⟨by first | omega | decide, by first | omega | decide⟩ ⟨by first | omega | decide, by first | omega | decide⟩ ⟨by first | omega | decide, by first | omega | decide⟩ ⟨by first | omega | decide, by first | omega | decide⟩ ⟨by first | omega | decide, by first | omega | decide⟩ ⟨by first | omega | decide, by first | omega | decide⟩ ⟨by first | omega | decide, by first | omega | decide⟩ ⟨by first | omega | decide, by first | omega | decide⟩ ⟨by first | omega | decide, by first | omega | decide⟩ H.size) (cwV 0 hts g_X12_readOffice_5 rfl rfl rfl (by decide +kernel) ⟨Nat.le_of_ble_eq_true rfl, Nat.le_of_ble_eq_true rfl⟩) ⟨fun a U g mk q => by obtain ⟨q0, q1, qP, qK, qD⟩ := q; exact ⟨q0, q1, qP, va_K.moved (u := U) (U := U.calling g mk a) (Vm.Alike.refl U.vm) qK, qD⟩, va_recv hKc hPc (ci := 12) (q0 := 0) rfl rfl, fun U hU hW => ⟨rfl, by rw [hU], by rw [hU]; exact hPc, va_K.moved hW.alike hKc, hDc.weaken (fun _ _ _ _ => trivial)⟩⟩ rfl rfl hl.1 rfl (lv_room (Nat.le_of_ble_eq_true rfl)) dX12_readOffice_223 ⟨Nat.le_of_ble_eq_true rfl, Nat.le_of_ble_eq_true rfl⟩) hS (fun q _ h => hFc q h) hFc (fun u t H1 locs ht hvm hwra150 hB hz1 hk1 hS => ?_)
                    obtain ⟨x151, oa_x151, ob_x151, pt0_ra150, hP1, hK1, hD1⟩ := hB
                    rw [ht] at hP1
                    obtain ⟨hP, hD⟩ := va_join (wr := (wd_bcaf9cf2 h1 g0 f20 h2 g1 fn125 h3 g2 fn48)) (w1 := (wd_171f232f h0 v0 h1 v1 x148 x151 v4 r0 r1 r2 r3 r4 r5 r6 v5 v6 r7 r8 h2 h3 x46 r9 r10 v8 v9 r11 r12 v10 v11 r13 v12 v13 r14 v14 w15 r15 v16 v17 r16 r17 r18 r19 r20 r21 v18 r22 r23 r24 v19)) hP hD [0] [1, 2, 3] rfl rfl (by decide) (by decide) hk1 hFc hP1 hD1
                    generalize H1 = H at hP hS ⊢
                    have hP := hP.sub (ws' := (wd_77d3d1bb h0 v0 h1 v1 x148 x151 v4 r0 r1 r2 r3 r4 r5 r6 v5 v6 r7 r8 h2 h3 x46 r9 r10 v8 v9 r11 r12 v10 v11 r13 v12 v13 r14 v14 w15 r15 v16 v17 r16 r17 r18 r19 r20 r21 v18 r22 r23 r24 v19 h1 g0 f20 h2 g1 fn125 h3 g2 fn48)) [3, 0, 1, 2] rfl
                    have hD := hD.sub (ws' := (wd_77d3d1bb h0 v0 h1 v1 x148 x151 v4 r0 r1 r2 r3 r4 r5 r6 v5 v6 r7 r8 h2 h3 x46 r9 r10 v8 v9 r11 r12 v10 v11 r13 v12 v13 r14 v14 w15 r15 v16 v17 r16 r17 r18 r19 r20 r21 v18 r22 r23 r24 v19 h1 g0 f20 h2 g1 fn125 h3 g2 fn48)) [3, 0, 1, 2] (by decide) rfl
                    have hP : va_P (dC, dI) vwCl (wd_77d3d1bb h0 v0 h1 v1 x148 x151 v4 r0 r1 r2 r3 r4 r5 r6 v5 v6 r7 r8 h2 h3 x46 r9 r10 v8 v9 r11 r12 v10 v11 r13 v12 v13 r14 v14 w15 r15 v16 v17 r16 r17 r18 r19 r20 r21 v18 r22 r23 r24 v19 h1 g0 f20 h2 g1 fn125 h3 g2 fn48) H := hP
                    have hD : va_D A (wd_77d3d1bb h0 v0 h1 v1 x148 x151 v4 r0 r1 r2 r3 r4 r5 r6 v5 v6 r7 r8 h2 h3 x46 r9 r10 v8 v9 r11 r12 v10 v11 r13 v12 v13 r14 v14 w15 r15 v16 v17 r16 r17 r18 r19 r20 r21 v18 r22 r23 r24 v19 h1 g0 f20 h2 g1 fn125 h3 g2 fn48) := hD
                    refine lv_aload_n hx hb dX12_readOffice_226 rfl (lv_at hl 3 rfl) ?_
                    refine va_get (D := (dC, dI)) (ci := 12) (v := .int x151) (C := RX12) (T := TX12) (N := 48) hx hb hts (fun _ h => List.mem_cons_of_mem _ (List.mem_append_right _ h)) hown hK hP 0 rfl rfl 4 (by decide) (hts (.fieldLink RX12 119 "LeftArgumentsModel" "wrong" "I") (List.mem_cons_of_mem _ (List.mem_append_left _ (List.mem_of_getElem? (i := 1) rfl)))) (fun _ h9 => h9) rfl dX12_readOffice_227 ?_
                    subst hQ
                    have hP9 := hP.sub (ws' := (wd_77d3d1bb h0 v0 h1 v1 x148 x151 v4 r0 r1 r2 r3 r4 r5 r6 v5 v6 r7 r8 h2 h3 x46 r9 r10 v8 v9 r11 r12 v10 v11 r13 v12 v13 r14 v14 w15 r15 v16 v17 r16 r17 r18 r19 r20 r21 v18 r22 r23 r24 v19 h1 g0 f20 h2 g1 fn125 h3 g2 fn48)) [0, 1, 2, 3] rfl
                    have hD9 := hD.sub (ws' := (wd_77d3d1bb h0 v0 h1 v1 x148 x151 v4 r0 r1 r2 r3 r4 r5 r6 v5 v6 r7 r8 h2 h3 x46 r9 r10 v8 v9 r11 r12 v10 v11 r13 v12 v13 r14 v14 w15 r15 v16 v17 r16 r17 r18 r19 r20 r21 v18 r22 r23 r24 v19 h1 g0 f20 h2 g1 fn125 h3 g2 fn48)) [0, 1, 2, 3] (by decide) rfl
                    have hK9 := hK.sub (tys' := []) [] rfl
                    exact W.iret (v := x151) hx hb hr (fun t ht hW => ⟨⟨x151, x151, rfl, rfl, Or.inr (⟨x148, x151, x46, fn125, fn48, by first | omega | decide, by first | omega | decide, by first | omega | decide, by first | omega | decide, by first | omega | decide, by first | omega | decide, by first | omega | decide, by first | omega | decide, by first | (apply pg_office.b0 (R := f21) (B := f22) <;> first | assumption | omega | (apply pg_O.sf <;> first | assumption | omega) | (apply pg_O.bf <;> first | assumption | omega) | (apply pg_O.w <;> first | assumption | omega)) | (apply pg_office.b1 (R := f21) (B := f22) <;> first | assumption | omega | (apply pg_O.s0 <;> first | assumption | omega) | (apply pg_O.b0 <;> first | assumption | omega)) | (apply pg_office.b2 (R := f21) (B := f22) <;> first | assumption | omega | (apply pg_O.s0 <;> first | assumption | omega) | (apply pg_O.b0 <;> first | assumption | omega)), by omega, by rw [ht]; exact hP9, va_K.moved hW.alike hK9, hD9⟩)⟩, hS.F ht⟩) hS.2.2 dX12_readOffice_230
                · skip
                  have fc140 : ra126.toInt = 59 := congrArg Int32.toInt c140
                  refine lv_iconst (v := 1) hx hb dX12_readOffice_172 (by decide) ?_
                  refine lv_goto (tgt := 177) hx hb dX12_readOffice_173 (by decide) ?_
                  refine lv_istore_n (lv' := [(2, .int 1), (1, .int 1), (3, .int 115), (0, .ref h0)]) hx hb dX12_readOffice_177 rfl hl (by decide) rfl (fun ls hl => ?_)
                  refine lv_aload_n hx hb dX12_readOffice_178 rfl (lv_at hl 3 rfl) ?_
                  refine lv_dup hx hb dX12_readOffice_179 rfl ?_
                  refine va_get (D := (dC, dI)) (ci := 12) (v := .int x139) (C := RX12) (T := TX12) (N := 48) hx hb hts (fun _ h => List.mem_cons_of_mem _ (List.mem_append_right _ h)) hown hK hP 0 rfl rfl 3 (by decide) (hts (.fieldLink RX12 112 "LeftArgumentsModel" "at" "I") (List.mem_cons_of_mem _ (List.mem_append_left _ (List.mem_of_getElem? (i := 0) rfl)))) (fun _ h9 => h9) rfl dX12_readOffice_180 ?_
                  refine lv_iload_n hx hb dX12_readOffice_183 rfl (lv_at hl 0 rfl) ?_
                  refine lv_if_eq (tgt := 191) hx hb dX12_readOffice_184 (by decide) (fun c => absurd c (by decide)) (fun _ => ?_)
                  refine lv_iconst (v := 1) hx hb dX12_readOffice_187 (by decide) ?_
                  refine lv_goto (tgt := 192) hx hb dX12_readOffice_188 (by decide) ?_
                  refine lv_iadd hx hb dX12_readOffice_192 ?_
                  refine lv_topi (fun t152 et152 => ?_)
                  have gt152 : t152.toInt = x139.toInt + 1 := pv_add (a := x139.toInt) (b := 1) et152 rfl (by decide) (by omega) (by omega)
                  refine va_put (D := (dC, dI)) (ci := 12) (v := .int t152) (ty := .int) (C := RX12) (T := TX12) (N := 48) hx hb hts (fun _ h => List.mem_cons_of_mem _ (List.mem_append_right _ h)) tyX12 tyX12_ok nmX12 hown hK hP hD hS 0 rfl rfl 3 (by decide) (hts (.fieldLink RX12 112 "LeftArgumentsModel" "at" "I") (List.mem_cons_of_mem _ (List.mem_append_left _ (List.mem_of_getElem? (i := 0) rfl)))) (fun _ h9 => h9) rfl (by decide +kernel) rfl rfl (Nat.le_of_ble_eq_true rfl) dX12_readOffice_193 (fun H locs hP hD hS => ?_)
                  have hP : va_P (dC, dI) vwCl (wd_77d3d1bb h0 v0 h1 v1 t152 (-1) v4 r0 r1 r2 r3 r4 r5 r6 v5 v6 r7 r8 h2 h3 x46 r9 r10 v8 v9 r11 r12 v10 v11 r13 v12 v13 r14 v14 w15 r15 v16 v17 r16 r17 r18 r19 r20 r21 v18 r22 r23 r24 v19 h1 g0 f20 h2 g1 fn125 h3 g2 fn48) H := hP
                  have hD : va_D A (wd_77d3d1bb h0 v0 h1 v1 t152 (-1) v4 r0 r1 r2 r3 r4 r5 r6 v5 v6 r7 r8 h2 h3 x46 r9 r10 v8 v9 r11 r12 v10 v11 r13 v12 v13 r14 v14 w15 r15 v16 v17 r16 r17 r18 r19 r20 r21 v18 r22 r23 r24 v19 h1 g0 f20 h2 g1 fn125 h3 g2 fn48) := hD
                  refine lv_goto (tgt := 44) hx hb dX12_readOffice_196 (by decide) ?_
                  exact ih_hL54 1 t152 x46 fn125 fn48 H locs ls (by first | omega | decide) (by first | omega | decide) (by first | omega | decide) (by first | omega | decide) (by first | omega | decide) (by first | omega | decide) (by first | assumption | (apply pm_RR.init <;> first | assumption | decide)) (by first | assumption | exact pm_BG.zero (by decide) | (apply pm_BG.add <;> first | assumption | omega)) (by first | assumption | (apply pg_O.ini <;> first | assumption | omega | decide | (apply pg_ur.mk <;> first | assumption | decide)) | (apply pg_O.s1 <;> first | assumption | omega) | (apply pg_O.b1 <;> first | assumption | omega)) (by first | omega | ((have h09 : ((0 : Int32)).toInt = 0 := by decide); omega)) (by first | omega | (simp only [Int.toNat] at *; omega)) hP hD hS (lv_sub hl [0, 1, 3] rfl)
            · skip
              obtain ⟨x153, x154, fn155, oa_x153, ob_x153, oa_x154, ob_x154, pt0_ra123, pt1_ra123, hP1, hK1, hD1⟩ := hB
              rw [ht] at hP1
              obtain ⟨hP, hD⟩ := va_join (wr := (wd_aad598ec h3 g2 fn48)) (w1 := (wd_490cd7da h0 v0 h1 v1 x153 x154 v4 r0 r1 r2 r3 r4 r5 r6 v5 v6 r7 r8 h2 h3 x46 r9 r10 v8 v9 r11 r12 v10 v11 r13 v12 v13 r14 v14 w15 r15 v16 v17 r16 r17 r18 r19 r20 r21 v18 r22 r23 r24 v19 h1 g0 f20 h2 g1 fn155)) hP hD [0, 1, 2] [3] rfl rfl (by decide) (by decide) hk1 hFc hP1 hD1
              generalize H1 = H at hP hS ⊢
              have hP := hP.sub (ws' := (wd_77d3d1bb h0 v0 h1 v1 x153 x154 v4 r0 r1 r2 r3 r4 r5 r6 v5 v6 r7 r8 h2 h3 x46 r9 r10 v8 v9 r11 r12 v10 v11 r13 v12 v13 r14 v14 w15 r15 v16 v17 r16 r17 r18 r19 r20 r21 v18 r22 r23 r24 v19 h1 g0 f20 h2 g1 fn155 h3 g2 fn48)) [1, 2, 3, 0] rfl
              have hD := hD.sub (ws' := (wd_77d3d1bb h0 v0 h1 v1 x153 x154 v4 r0 r1 r2 r3 r4 r5 r6 v5 v6 r7 r8 h2 h3 x46 r9 r10 v8 v9 r11 r12 v10 v11 r13 v12 v13 r14 v14 w15 r15 v16 v17 r16 r17 r18 r19 r20 r21 v18 r22 r23 r24 v19 h1 g0 f20 h2 g1 fn155 h3 g2 fn48)) [1, 2, 3, 0] (by decide) rfl
              have hP : va_P (dC, dI) vwCl (wd_77d3d1bb h0 v0 h1 v1 x153 x154 v4 r0 r1 r2 r3 r4 r5 r6 v5 v6 r7 r8 h2 h3 x46 r9 r10 v8 v9 r11 r12 v10 v11 r13 v12 v13 r14 v14 w15 r15 v16 v17 r16 r17 r18 r19 r20 r21 v18 r22 r23 r24 v19 h1 g0 f20 h2 g1 fn155 h3 g2 fn48) H := hP
              have hD : va_D A (wd_77d3d1bb h0 v0 h1 v1 x153 x154 v4 r0 r1 r2 r3 r4 r5 r6 v5 v6 r7 r8 h2 h3 x46 r9 r10 v8 v9 r11 r12 v10 v11 r13 v12 v13 r14 v14 w15 r15 v16 v17 r16 r17 r18 r19 r20 r21 v18 r22 r23 r24 v19 h1 g0 f20 h2 g1 fn155 h3 g2 fn48) := hD
              refine lv_goto (tgt := 155) hx hb dX12_readOffice_94 (by decide) ?_
              refine lv_aload_n hx hb dX12_readOffice_155 rfl (lv_at hl 3 rfl) ?_
              refine va_get (D := (dC, dI)) (ci := 12) (v := .int x154) (C := RX12) (T := TX12) (N := 48) hx hb hts (fun _ h => List.mem_cons_of_mem _ (List.mem_append_right _ h)) hown hK hP 0 rfl rfl 4 (by decide) (hts (.fieldLink RX12 119 "LeftArgumentsModel" "wrong" "I") (List.mem_cons_of_mem _ (List.mem_append_left _ (List.mem_of_getElem? (i := 1) rfl)))) (fun _ h9 => h9) rfl dX12_readOffice_156 ?_
              refine lv_iconst (v := (-1)) hx hb dX12_readOffice_159 (by decide) ?_
              refine lv_icmp_ne (tgt := 176) hx hb dX12_readOffice_160 (by decide) (fun _ => ?_) (fun c156 => by exfalso; have fc156 : x154.toInt = (-1) := congrArg Int32.toInt c156; omega)
              refine lv_iconst (v := 0) hx hb dX12_readOffice_176 (by decide) ?_
              refine lv_istore_n (lv' := [(2, .int 0), (1, .int 1), (3, .int 115), (0, .ref h0)]) hx hb dX12_readOffice_177 rfl hl (by decide) rfl (fun ls hl => ?_)
              refine lv_aload_n hx hb dX12_readOffice_178 rfl (lv_at hl 3 rfl) ?_
              refine lv_dup hx hb dX12_readOffice_179 rfl ?_
              refine va_get (D := (dC, dI)) (ci := 12) (v := .int x153) (C := RX12) (T := TX12) (N := 48) hx hb hts (fun _ h => List.mem_cons_of_mem _ (List.mem_append_right _ h)) hown hK hP 0 rfl rfl 3 (by decide) (hts (.fieldLink RX12 112 "LeftArgumentsModel" "at" "I") (List.mem_cons_of_mem _ (List.mem_append_left _ (List.mem_of_getElem? (i := 0) rfl)))) (fun _ h9 => h9) rfl dX12_readOffice_180 ?_
              refine lv_iload_n hx hb dX12_readOffice_183 rfl (lv_at hl 0 rfl) ?_
              refine lv_if_eq (tgt := 191) hx hb dX12_readOffice_184 (by decide) (fun _ => ?_) (fun c => absurd (by decide) c)
              refine lv_iconst (v := 0) hx hb dX12_readOffice_191 (by decide) ?_
              refine lv_iadd hx hb dX12_readOffice_192 ?_
              refine lv_topi (fun t157 et157 => ?_)
              have gt157 : t157.toInt = x153.toInt + 0 := pv_add (a := x153.toInt) (b := 0) et157 rfl (by decide) (by omega) (by omega)
              refine va_put (D := (dC, dI)) (ci := 12) (v := .int t157) (ty := .int) (C := RX12) (T := TX12) (N := 48) hx hb hts (fun _ h => List.mem_cons_of_mem _ (List.mem_append_right _ h)) tyX12 tyX12_ok nmX12 hown hK hP hD hS 0 rfl rfl 3 (by decide) (hts (.fieldLink RX12 112 "LeftArgumentsModel" "at" "I") (List.mem_cons_of_mem _ (List.mem_append_left _ (List.mem_of_getElem? (i := 0) rfl)))) (fun _ h9 => h9) rfl (by decide +kernel) rfl rfl (Nat.le_of_ble_eq_true rfl) dX12_readOffice_193 (fun H locs hP hD hS => ?_)
              have hP : va_P (dC, dI) vwCl (wd_77d3d1bb h0 v0 h1 v1 t157 x154 v4 r0 r1 r2 r3 r4 r5 r6 v5 v6 r7 r8 h2 h3 x46 r9 r10 v8 v9 r11 r12 v10 v11 r13 v12 v13 r14 v14 w15 r15 v16 v17 r16 r17 r18 r19 r20 r21 v18 r22 r23 r24 v19 h1 g0 f20 h2 g1 fn155 h3 g2 fn48) H := hP
              have hD : va_D A (wd_77d3d1bb h0 v0 h1 v1 t157 x154 v4 r0 r1 r2 r3 r4 r5 r6 v5 v6 r7 r8 h2 h3 x46 r9 r10 v8 v9 r11 r12 v10 v11 r13 v12 v13 r14 v14 w15 r15 v16 v17 r16 r17 r18 r19 r20 r21 v18 r22 r23 r24 v19 h1 g0 f20 h2 g1 fn155 h3 g2 fn48) := hD
              refine lv_goto (tgt := 44) hx hb dX12_readOffice_196 (by decide) ?_
              refine lv_iload_n hx hb dX12_readOffice_44 rfl (lv_at hl 0 rfl) ?_
              refine lv_if_eq (tgt := 199) hx hb dX12_readOffice_45 (by decide) (fun _ => ?_) (fun c => absurd (by decide) c)
              refine lv_aload_n hx hb dX12_readOffice_199 rfl (lv_at hl 3 rfl) ?_
              refine va_get (D := (dC, dI)) (ci := 12) (v := .int x154) (C := RX12) (T := TX12) (N := 48) hx hb hts (fun _ h => List.mem_cons_of_mem _ (List.mem_append_right _ h)) hown hK hP 0 rfl rfl 4 (by decide) (hts (.fieldLink RX12 119 "LeftArgumentsModel" "wrong" "I") (List.mem_cons_of_mem _ (List.mem_append_left _ (List.mem_of_getElem? (i := 1) rfl)))) (fun _ h9 => h9) rfl dX12_readOffice_200 ?_
              refine lv_iconst (v := (-1)) hx hb dX12_readOffice_203 (by decide) ?_
              refine lv_icmp_ne (tgt := 226) hx hb dX12_readOffice_204 (by decide) (fun _ => ?_) (fun c158 => by exfalso; have fc158 : x154.toInt = (-1) := congrArg Int32.toInt c158; omega)
              refine lv_aload_n hx hb dX12_readOffice_226 rfl (lv_at hl 3 rfl) ?_
              refine va_get (D := (dC, dI)) (ci := 12) (v := .int x154) (C := RX12) (T := TX12) (N := 48) hx hb hts (fun _ h => List.mem_cons_of_mem _ (List.mem_append_right _ h)) hown hK hP 0 rfl rfl 4 (by decide) (hts (.fieldLink RX12 119 "LeftArgumentsModel" "wrong" "I") (List.mem_cons_of_mem _ (List.mem_append_left _ (List.mem_of_getElem? (i := 1) rfl)))) (fun _ h9 => h9) rfl dX12_readOffice_227 ?_
              subst hQ
              have hP9 := hP.sub (ws' := (wd_77d3d1bb h0 v0 h1 v1 t157 x154 v4 r0 r1 r2 r3 r4 r5 r6 v5 v6 r7 r8 h2 h3 x46 r9 r10 v8 v9 r11 r12 v10 v11 r13 v12 v13 r14 v14 w15 r15 v16 v17 r16 r17 r18 r19 r20 r21 v18 r22 r23 r24 v19 h1 g0 f20 h2 g1 fn155 h3 g2 fn48)) [0, 1, 2, 3] rfl
              have hD9 := hD.sub (ws' := (wd_77d3d1bb h0 v0 h1 v1 t157 x154 v4 r0 r1 r2 r3 r4 r5 r6 v5 v6 r7 r8 h2 h3 x46 r9 r10 v8 v9 r11 r12 v10 v11 r13 v12 v13 r14 v14 w15 r15 v16 v17 r16 r17 r18 r19 r20 r21 v18 r22 r23 r24 v19 h1 g0 f20 h2 g1 fn155 h3 g2 fn48)) [0, 1, 2, 3] (by decide) rfl
              have hK9 := hK.sub (tys' := []) [] rfl
              exact W.iret (v := x154) hx hb hr (fun t ht hW => ⟨⟨x154, x154, rfl, rfl, Or.inr (⟨t157, x154, x46, fn155, fn48, by first | omega | decide, by first | omega | decide, by first | omega | decide, by first | omega | decide, by first | omega | decide, by first | omega | decide, by first | omega | decide, by first | omega | decide, by first | (apply pg_office.b0 (R := f21) (B := f22) <;> first | assumption | omega | (apply pg_O.sf <;> first | assumption | omega) | (apply pg_O.bf <;> first | assumption | omega) | (apply pg_O.w <;> first | assumption | omega)) | (apply pg_office.b1 (R := f21) (B := f22) <;> first | assumption | omega | (apply pg_O.s0 <;> first | assumption | omega) | (apply pg_O.b0 <;> first | assumption | omega)) | (apply pg_office.b2 (R := f21) (B := f22) <;> first | assumption | omega | (apply pg_O.s0 <;> first | assumption | omega) | (apply pg_O.b0 <;> first | assumption | omega)), by omega, by rw [ht]; exact hP9, va_K.moved hW.alike hK9, hD9⟩)⟩, hS.F ht⟩) hS.2.2 dX12_readOffice_230
  exact hL54 _ 0 0 0 fn8 f22 H locs ls (by first | omega | decide) (by first | omega | decide) (by first | omega | decide) (by first | omega | decide) (by first | omega | decide) (by first | omega | decide) (by first | assumption | (apply pm_RR.init <;> first | assumption | decide)) (by first | assumption | exact pm_BG.zero (by decide) | (apply pm_BG.add <;> first | assumption | omega)) (by first | assumption | (apply pg_O.ini <;> first | assumption | omega | decide | (apply pg_ur.mk <;> first | assumption | decide)) | (apply pg_O.s1 <;> first | assumption | omega) | (apply pg_O.b1 <;> first | assumption | omega)) (by first | omega | ((have h09 : ((0 : Int32)).toInt = 0 := by decide); omega)) (Nat.lt_succ_self _) hP hD hS (lv_sub hl [0, 1, 2] rfl)
