abbrev wd_92f861b2 (p0 : Nat) (p1 : ClassId) (p2 : Nat → Int32) : va_W := [(p0, .inl (p1, 247, .inl p2))]
abbrev wd_ce5ea0ab (p0 : Nat) (p1 : Int32) (p2 : Nat) (p3 : Int32) (p4 : Int32) (p5 : Int32) (p6 : Int32) (p7 : Nat) (p8 : Nat) (p9 : Nat) (p10 : Nat) (p11 : Nat) (p12 : Nat) (p13 : Nat) (p14 : Int32) (p15 : Int32) (p16 : Nat) (p17 : Nat) (p18 : Nat) (p19 : Nat) (p20 : Int32) (p21 : Nat) (p22 : Nat) (p23 : Int32) (p24 : Int32) (p25 : Nat) (p26 : Nat) (p27 : Int32) (p28 : Int32) (p29 : Nat) (p30 : Int32) (p31 : Int32) (p32 : Nat) (p33 : Int32) (p34 : Int64) (p35 : Nat) (p36 : Int32) (p37 : Int32) (p38 : Nat) (p39 : Nat) (p40 : Nat) (p41 : Nat) (p42 : Nat) (p43 : Nat) (p44 : Int32) (p45 : Nat) (p46 : Nat) (p47 : Nat) (p48 : Int32) (p49 : Nat) (p50 : ClassId) (p51 : Nat → Int32) (p52 : Nat) (p53 : ClassId) (p54 : Nat → Int32) (p55 : Nat) (p56 : ClassId) (p57 : Nat → Int32) (p58 : Nat) (p59 : ClassId) (p60 : Nat → Int32) : va_W := [(p0, .inr (12, [.int p1, .ref p2, .int p3, .int p4, .int p5, .int p6, .ref p7, .ref p8, .ref p9, .ref p10, .ref p11, .ref p12, .ref p13, .int p14, .int p15, .ref p16, .ref p17, .ref p18, .ref p19, .int p20, .ref p21, .ref p22, .int p23, .int p24, .ref p25, .ref p26, .int p27, .int p28, .ref p29, .int p30, .int p31, .ref p32, .int p33, .long p34, .ref p35, .int p36, .int p37, .ref p38, .ref p39, .ref p40, .ref p41, .ref p42, .ref p43, .int p44, .ref p45, .ref p46, .ref p47, .int p48])), (p49, .inl (p50, 2600, .inl p51)), (p52, .inl (p53, 2600, .inl p54)), (p55, .inl (p56, 6, .inl p57)), (p58, .inl (p59, 80, .inl p60))]
abbrev wd_8705ae5b (p0 : Nat) (p1 : Int32) (p2 : Nat) (p3 : Int32) (p4 : Int32) (p5 : Int32) (p6 : Int32) (p7 : Nat) (p8 : Nat) (p9 : Nat) (p10 : Nat) (p11 : Nat) (p12 : Nat) (p13 : Nat) (p14 : Int32) (p15 : Int32) (p16 : Nat) (p17 : Nat) (p18 : Nat) (p19 : Nat) (p20 : Int32) (p21 : Nat) (p22 : Nat) (p23 : Int32) (p24 : Int32) (p25 : Nat) (p26 : Nat) (p27 : Int32) (p28 : Int32) (p29 : Nat) (p30 : Int32) (p31 : Int32) (p32 : Nat) (p33 : Int32) (p34 : Int64) (p35 : Nat) (p36 : Int32) (p37 : Int32) (p38 : Nat) (p39 : Nat) (p40 : Nat) (p41 : Nat) (p42 : Nat) (p43 : Nat) (p44 : Int32) (p45 : Nat) (p46 : Nat) (p47 : Nat) (p48 : Int32) (p49 : Nat) (p50 : ClassId) (p51 : Nat → Int32) (p52 : Nat) (p53 : ClassId) (p54 : Nat → Int32) (p55 : Nat) (p56 : ClassId) (p57 : Nat → Int32) (p58 : Nat) (p59 : ClassId) (p60 : Nat → Int32) (p61 : Nat) (p62 : ClassId) (p63 : Nat → Int32) (p64 : Nat) (p65 : ClassId) (p66 : Nat → Int32) (p67 : Nat) (p68 : ClassId) (p69 : Nat → Int32) (p70 : Nat) (p71 : ClassId) (p72 : Nat → Int32) : va_W := [(p0, .inr (12, [.int p1, .ref p2, .int p3, .int p4, .int p5, .int p6, .ref p7, .ref p8, .ref p9, .ref p10, .ref p11, .ref p12, .ref p13, .int p14, .int p15, .ref p16, .ref p17, .ref p18, .ref p19, .int p20, .ref p21, .ref p22, .int p23, .int p24, .ref p25, .ref p26, .int p27, .int p28, .ref p29, .int p30, .int p31, .ref p32, .int p33, .long p34, .ref p35, .int p36, .int p37, .ref p38, .ref p39, .ref p40, .ref p41, .ref p42, .ref p43, .int p44, .ref p45, .ref p46, .ref p47, .int p48])), (p49, .inl (p50, 2600, .inl p51)), (p52, .inl (p53, 2600, .inl p54)), (p55, .inl (p56, 5, .inl p57)), (p58, .inl (p59, 700, .inl p60)), (p61, .inl (p62, 700, .inl p63)), (p64, .inl (p65, 700, .inl p66)), (p67, .inl (p68, 6, .inl p69)), (p70, .inl (p71, 80, .inl p72))]
abbrev wd_9ed5f2f7 (p0 : Nat) (p1 : ClassId) (p2 : Nat → Int32) (p3 : Nat) (p4 : ClassId) (p5 : Nat → Int32) (p6 : Nat) (p7 : ClassId) (p8 : Nat → Int32) (p9 : Nat) (p10 : ClassId) (p11 : Nat → Int32) : va_W := [(p0, .inl (p1, 5, .inl p2)), (p3, .inl (p4, 700, .inl p5)), (p6, .inl (p7, 700, .inl p8)), (p9, .inl (p10, 700, .inl p11))]
abbrev wd_c0e4689d (p0 : Nat) (p1 : Int32) (p2 : Nat) (p3 : Int32) (p4 : Int32) (p5 : Int32) (p6 : Int32) (p7 : Nat) (p8 : Nat) (p9 : Nat) (p10 : Nat) (p11 : Nat) (p12 : Nat) (p13 : Nat) (p14 : Int32) (p15 : Int32) (p16 : Nat) (p17 : Nat) (p18 : Nat) (p19 : Nat) (p20 : Int32) (p21 : Nat) (p22 : Nat) (p23 : Int32) (p24 : Int32) (p25 : Nat) (p26 : Nat) (p27 : Int32) (p28 : Int32) (p29 : Nat) (p30 : Int32) (p31 : Int32) (p32 : Nat) (p33 : Int32) (p34 : Int64) (p35 : Nat) (p36 : Int32) (p37 : Int32) (p38 : Nat) (p39 : Nat) (p40 : Nat) (p41 : Nat) (p42 : Nat) (p43 : Nat) (p44 : Int32) (p45 : Nat) (p46 : Nat) (p47 : Nat) (p48 : Int32) (p49 : Nat) (p50 : ClassId) (p51 : Nat → Int32) (p52 : Nat) (p53 : ClassId) (p54 : Nat → Int32) (p55 : Nat) (p56 : ClassId) (p57 : Nat → Int32) (p58 : Nat) (p59 : ClassId) (p60 : Nat → Int32) (p61 : Nat) (p62 : ClassId) (p63 : Nat → Int32) (p64 : Nat) (p65 : ClassId) (p66 : Nat → Int32) (p67 : Nat) (p68 : ClassId) (p69 : Nat → Int32) (p70 : Nat) (p71 : ClassId) (p72 : Nat → Int32) (p73 : Nat) (p74 : ClassId) (p75 : Nat → Int32) : va_W := [(p0, .inr (12, [.int p1, .ref p2, .int p3, .int p4, .int p5, .int p6, .ref p7, .ref p8, .ref p9, .ref p10, .ref p11, .ref p12, .ref p13, .int p14, .int p15, .ref p16, .ref p17, .ref p18, .ref p19, .int p20, .ref p21, .ref p22, .int p23, .int p24, .ref p25, .ref p26, .int p27, .int p28, .ref p29, .int p30, .int p31, .ref p32, .int p33, .long p34, .ref p35, .int p36, .int p37, .ref p38, .ref p39, .ref p40, .ref p41, .ref p42, .ref p43, .int p44, .ref p45, .ref p46, .ref p47, .int p48])), (p49, .inl (p50, 2600, .inl p51)), (p52, .inl (p53, 2600, .inl p54)), (p55, .inl (p56, 5, .inl p57)), (p58, .inl (p59, 700, .inl p60)), (p61, .inl (p62, 700, .inl p63)), (p64, .inl (p65, 700, .inl p66)), (p67, .inl (p68, 6, .inl p69)), (p70, .inl (p71, 80, .inl p72)), (p73, .inl (p74, 247, .inl p75))]
abbrev wd_a0bd977d (p0 : Nat) (p1 : ClassId) (p2 : Nat → Int32) (p3 : Nat) (p4 : ClassId) (p5 : Nat → Int32) (p6 : Nat) (p7 : ClassId) (p8 : Nat → Int32) (p9 : Nat) (p10 : ClassId) (p11 : Nat → Int32) (p12 : Nat) (p13 : ClassId) (p14 : Nat → Int32) (p15 : Nat) (p16 : ClassId) (p17 : Nat → Int32) (p18 : Nat) (p19 : ClassId) (p20 : Nat → Int32) (p21 : Nat) (p22 : ClassId) (p23 : Nat → Int32) : va_W := [(p0, .inl (p1, 2600, .inl p2)), (p3, .inl (p4, 2600, .inl p5)), (p6, .inl (p7, 5, .inl p8)), (p9, .inl (p10, 700, .inl p11)), (p12, .inl (p13, 700, .inl p14)), (p15, .inl (p16, 700, .inl p17)), (p18, .inl (p19, 6, .inl p20)), (p21, .inl (p22, 80, .inl p23))]
abbrev wd_12a42595 (p0 : Nat) (p1 : Int32) (p2 : Nat) (p3 : Int32) (p4 : Int32) (p5 : Int32) (p6 : Int32) (p7 : Nat) (p8 : Nat) (p9 : Nat) (p10 : Nat) (p11 : Nat) (p12 : Nat) (p13 : Nat) (p14 : Int32) (p15 : Int32) (p16 : Nat) (p17 : Nat) (p18 : Nat) (p19 : Nat) (p20 : Int32) (p21 : Nat) (p22 : Nat) (p23 : Int32) (p24 : Int32) (p25 : Nat) (p26 : Nat) (p27 : Int32) (p28 : Int32) (p29 : Nat) (p30 : Int32) (p31 : Int32) (p32 : Nat) (p33 : Int32) (p34 : Int64) (p35 : Nat) (p36 : Int32) (p37 : Int32) (p38 : Nat) (p39 : Nat) (p40 : Nat) (p41 : Nat) (p42 : Nat) (p43 : Nat) (p44 : Int32) (p45 : Nat) (p46 : Nat) (p47 : Nat) (p48 : Int32) (p49 : Nat) (p50 : ClassId) (p51 : Nat → Int32) (p52 : Nat) (p53 : ClassId) (p54 : Nat → Int32) (p55 : Nat) (p56 : ClassId) (p57 : Nat → Int32) (p58 : Nat) (p59 : ClassId) (p60 : Nat → Int32) (p61 : Nat) (p62 : ClassId) (p63 : Nat → Int32) (p64 : Nat) (p65 : ClassId) (p66 : Nat → Int32) (p67 : Nat) (p68 : ClassId) (p69 : Nat → Int32) (p70 : Nat) (p71 : ClassId) (p72 : Nat → Int32) (p73 : Nat) (p74 : ClassId) (p75 : Nat → Int32) (p76 : Nat) (p77 : ClassId) (p78 : Nat → Int32) : va_W := [(p0, .inr (12, [.int p1, .ref p2, .int p3, .int p4, .int p5, .int p6, .ref p7, .ref p8, .ref p9, .ref p10, .ref p11, .ref p12, .ref p13, .int p14, .int p15, .ref p16, .ref p17, .ref p18, .ref p19, .int p20, .ref p21, .ref p22, .int p23, .int p24, .ref p25, .ref p26, .int p27, .int p28, .ref p29, .int p30, .int p31, .ref p32, .int p33, .long p34, .ref p35, .int p36, .int p37, .ref p38, .ref p39, .ref p40, .ref p41, .ref p42, .ref p43, .int p44, .ref p45, .ref p46, .ref p47, .int p48])), (p49, .inl (p50, 2600, .inl p51)), (p52, .inl (p53, 2600, .inl p54)), (p55, .inl (p56, 5, .inl p57)), (p58, .inl (p59, 700, .inl p60)), (p61, .inl (p62, 700, .inl p63)), (p64, .inl (p65, 700, .inl p66)), (p67, .inl (p68, 6, .inl p69)), (p70, .inl (p71, 80, .inl p72)), (p73, .inl (p74, 247, .inl p75)), (p76, .inl (p77, 8, .inl p78))]
abbrev wd_f49777bc (p0 : Nat) (p1 : ClassId) (p2 : Nat → Int32) (p3 : Nat) (p4 : ClassId) (p5 : Nat → Int32) (p6 : Nat) (p7 : ClassId) (p8 : Nat → Int32) (p9 : Nat) (p10 : ClassId) (p11 : Nat → Int32) (p12 : Nat) (p13 : ClassId) (p14 : Nat → Int32) (p15 : Nat) (p16 : ClassId) (p17 : Nat → Int32) (p18 : Nat) (p19 : ClassId) (p20 : Nat → Int32) (p21 : Nat) (p22 : ClassId) (p23 : Nat → Int32) (p24 : Nat) (p25 : ClassId) (p26 : Nat → Int32) : va_W := [(p0, .inl (p1, 2600, .inl p2)), (p3, .inl (p4, 2600, .inl p5)), (p6, .inl (p7, 5, .inl p8)), (p9, .inl (p10, 700, .inl p11)), (p12, .inl (p13, 700, .inl p14)), (p15, .inl (p16, 700, .inl p17)), (p18, .inl (p19, 6, .inl p20)), (p21, .inl (p22, 80, .inl p23)), (p24, .inl (p25, 8, .inl p26))]
abbrev wd_063f09b6 (p0 : Nat) (p1 : ClassId) (p2 : Nat → Int32) : va_W := [(p0, .inl (p1, 8, .inl p2))]
abbrev wd_935d8763 (p0 : Nat) (p1 : Int32) (p2 : Nat) (p3 : Int32) (p4 : Int32) (p5 : Int32) (p6 : Int32) (p7 : Nat) (p8 : Nat) (p9 : Nat) (p10 : Nat) (p11 : Nat) (p12 : Nat) (p13 : Nat) (p14 : Int32) (p15 : Int32) (p16 : Nat) (p17 : Nat) (p18 : Nat) (p19 : Nat) (p20 : Int32) (p21 : Nat) (p22 : Nat) (p23 : Int32) (p24 : Int32) (p25 : Nat) (p26 : Nat) (p27 : Int32) (p28 : Int32) (p29 : Nat) (p30 : Int32) (p31 : Int32) (p32 : Nat) (p33 : Int32) (p34 : Int64) (p35 : Nat) (p36 : Int32) (p37 : Int32) (p38 : Nat) (p39 : Nat) (p40 : Nat) (p41 : Nat) (p42 : Nat) (p43 : Nat) (p44 : Int32) (p45 : Nat) (p46 : Nat) (p47 : Nat) (p48 : Int32) (p49 : Nat) (p50 : ClassId) (p51 : Nat → Int32) (p52 : Nat) (p53 : ClassId) (p54 : Nat → Int32) (p55 : Nat) (p56 : ClassId) (p57 : Nat → Int32) (p58 : Nat) (p59 : ClassId) (p60 : Nat → Int32) (p61 : Nat) (p62 : ClassId) (p63 : Nat → Int32) (p64 : Nat) (p65 : ClassId) (p66 : Nat → Int32) (p67 : Nat) (p68 : ClassId) (p69 : Nat → Int32) (p70 : Nat) (p71 : ClassId) (p72 : Nat → Int32) (p73 : Nat) (p74 : ClassId) (p75 : Nat → Int32) (p76 : Nat) (p77 : ClassId) (p78 : Nat → Int32) (p79 : Nat) (p80 : ClassId) (p81 : Nat → Int32) : va_W := [(p0, .inr (12, [.int p1, .ref p2, .int p3, .int p4, .int p5, .int p6, .ref p7, .ref p8, .ref p9, .ref p10, .ref p11, .ref p12, .ref p13, .int p14, .int p15, .ref p16, .ref p17, .ref p18, .ref p19, .int p20, .ref p21, .ref p22, .int p23, .int p24, .ref p25, .ref p26, .int p27, .int p28, .ref p29, .int p30, .int p31, .ref p32, .int p33, .long p34, .ref p35, .int p36, .int p37, .ref p38, .ref p39, .ref p40, .ref p41, .ref p42, .ref p43, .int p44, .ref p45, .ref p46, .ref p47, .int p48])), (p49, .inl (p50, 2600, .inl p51)), (p52, .inl (p53, 2600, .inl p54)), (p55, .inl (p56, 5, .inl p57)), (p58, .inl (p59, 700, .inl p60)), (p61, .inl (p62, 700, .inl p63)), (p64, .inl (p65, 700, .inl p66)), (p67, .inl (p68, 6, .inl p69)), (p70, .inl (p71, 80, .inl p72)), (p73, .inl (p74, 4, .inl p75)), (p76, .inl (p77, 247, .inl p78)), (p79, .inl (p80, 8, .inl p81))]
abbrev wd_4dc6964c (p0 : Nat) (p1 : ClassId) (p2 : Nat → Int32) (p3 : Nat) (p4 : ClassId) (p5 : Nat → Int32) (p6 : Nat) (p7 : ClassId) (p8 : Nat → Int32) (p9 : Nat) (p10 : ClassId) (p11 : Nat → Int32) (p12 : Nat) (p13 : ClassId) (p14 : Nat → Int32) (p15 : Nat) (p16 : ClassId) (p17 : Nat → Int32) (p18 : Nat) (p19 : ClassId) (p20 : Nat → Int32) (p21 : Nat) (p22 : ClassId) (p23 : Nat → Int32) (p24 : Nat) (p25 : ClassId) (p26 : Nat → Int32) (p27 : Nat) (p28 : ClassId) (p29 : Nat → Int32) : va_W := [(p0, .inl (p1, 2600, .inl p2)), (p3, .inl (p4, 2600, .inl p5)), (p6, .inl (p7, 5, .inl p8)), (p9, .inl (p10, 700, .inl p11)), (p12, .inl (p13, 700, .inl p14)), (p15, .inl (p16, 700, .inl p17)), (p18, .inl (p19, 6, .inl p20)), (p21, .inl (p22, 80, .inl p23)), (p24, .inl (p25, 4, .inl p26)), (p27, .inl (p28, 8, .inl p29))]
def q_X12_doRoar : List Cond := .code yX12_doRoar cX12_doRoar 4 (some .boolean) :: (([.code yX12_has cX12_has 2 (some .boolean), .initialized RX12, .static yX12_has, .methodLink RX12 228 yX12_has, .code yX12_setsOff cX12_setsOff 3 (some .boolean), .code yX12_of cX12_of 3 (some .int), .fieldLink RX12 52 "LeftArgumentsModel" "now" "[I", .instanceMethod yX12_of, .selects RX12 yX12_of yX12_of, .methodLink RX12 287 yX12_of, .methodLink RX12 411 Lib.Math.abs.name, .static Lib.Math.abs.name, .initialized "java/lang/Math", .code Lib.Math.abs.name Lib.Math.abs.code 1 (some .int), .code yX12_stubbornOf cX12_stubbornOf 2 (some .int), .instanceMethod yX12_stubbornOf, .selects RX12 yX12_stubbornOf yX12_stubbornOf, .methodLink RX12 414 yX12_stubbornOf, .instanceMethod yX12_setsOff, .selects RX12 yX12_setsOff yX12_setsOff, .methodLink RX12 401 yX12_setsOff] : List Cond) ++ wsX120)
set_option maxRecDepth 20000 in
theorem g_X12_doRoar_0 : GoodIn q_X12_doRoar (va_wsS RX12 228 yX12_has q_X12_has) := goodIn_app (goodIn_r _ [4, 3, 2] rfl (by decide +kernel)) (goodIn_r (.code yX12_has cX12_has 2 (some .boolean) :: []) [1] rfl (by decide +kernel))
set_option maxRecDepth 20000 in
theorem g_X12_doRoar_2 : GoodIn q_X12_doRoar (wsV RX12 401 RX12 yX12_setsOff q_X12_setsOff) := goodIn_app (goodIn_r _ [21, 19, 20, 2] rfl (by decide +kernel)) (goodIn_ca (goodIn_r (.code yX12_setsOff cX12_setsOff 3 (some .boolean) :: [.code yX12_of cX12_of 3 (some .int), .fieldLink RX12 52 "LeftArgumentsModel" "now" "[I", .initialized RX12, .instanceMethod yX12_of, .selects RX12 yX12_of yX12_of, .methodLink RX12 287 yX12_of, .methodLink RX12 411 Lib.Math.abs.name, .static Lib.Math.abs.name, .initialized "java/lang/Math", .code Lib.Math.abs.name Lib.Math.abs.code 1 (some .int), .code yX12_stubbornOf cX12_stubbornOf 2 (some .int), .instanceMethod yX12_stubbornOf, .selects RX12 yX12_stubbornOf yX12_stubbornOf, .methodLink RX12 414 yX12_stubbornOf]) [5, 6, 7, 2, 8, 9, 10, 11, 12, 13, 14, 15, 16, 17, 18] rfl (by decide +kernel)) (goodIn_sub (fun _ h => List.mem_cons_of_mem _ (List.mem_append_right _ h)) gwX12))
set_option maxHeartbeats 4000000 in
set_option maxRecDepth 100000 in
theorem k_X12_doRoar (l : Launch) (dC : Nat → ClassId) (dI : Nat → Nat → Nat) (h0 : Nat) (h1 : Nat) (v0 : Int32) (r0 : Nat) (v1 : Int32) (v2 : Int32) (v3 : Int32) (v4 : Int32) (r1 : Nat) (r2 : Nat) (r3 : Nat) (r4 : Nat) (r5 : Nat) (r6 : Nat) (r7 : Nat) (v5 : Int32) (v6 : Int32) (r8 : Nat) (r9 : Nat) (r10 : Nat) (r11 : Nat) (v7 : Int32) (r12 : Nat) (r13 : Nat) (v8 : Int32) (v9 : Int32) (r14 : Nat) (v10 : Int32) (v11 : Int32) (r15 : Nat) (v12 : Int32) (v13 : Int32) (r16 : Nat) (v14 : Int32) (w15 : Int64) (r17 : Nat) (v16 : Int32) (v17 : Int32) (r18 : Nat) (r19 : Nat) (r20 : Nat) (r21 : Nat) (r22 : Nat) (r23 : Nat) (v18 : Int32) (r24 : Nat) (r25 : Nat) (r26 : Nat) (v19 : Int32) (g0 : ClassId) (f20 : Nat → Int32) (v21 : Int32) (i_v1 : 0 ≤ v1.toInt ∧ v1.toInt ≤ 240) (i_v5 : 0 ≤ v5.toInt ∧ v5.toInt ≤ 4) (i_v6 : 0 ≤ v6.toInt ∧ v6.toInt ≤ 4) (i_v7 : 0 ≤ v7.toInt ∧ v7.toInt ≤ 8) (i_v8 : 0 ≤ v8.toInt ∧ v8.toInt ≤ 8) (i_v9 : 0 ≤ v9.toInt ∧ v9.toInt ≤ 1) (i_v10 : -1 ≤ v10.toInt ∧ v10.toInt ≤ 3) (i_v14 : 0 ≤ v14.toInt ∧ v14.toInt ≤ 40) (i_v18 : 0 ≤ v18.toInt ∧ v18.toInt ≤ 10) (i_v19 : 0 ≤ v19.toInt ∧ v19.toInt ≤ 1) (ia_f20 : (pm_NW f20)) (sz : Nat) : Met l yX12_doRoar q_X12_doRoar ({ frames := 3, cells := 0, slots := 0, locals := 65 }) (va_Pc [.ref h0, .int v21] (fun U => U.heap.size = sz ∧ va_P (dC, dI) vwCl (wd_5013416a h0 v0 r0 v1 v2 v3 v4 r1 r2 r3 r4 r5 r6 r7 v5 v6 r8 r9 r10 r11 v7 r12 r13 v8 v9 h1 r14 v10 v11 r15 v12 v13 r16 v14 w15 r17 v16 v17 r18 r19 r20 r21 r22 r23 v18 r24 r25 r26 v19 h1 g0 f20) U.heap ∧ va_K (dC, dI) vwCl [(g0, .int)] U ∧ va_D (fun _ => True) (wd_5013416a h0 v0 r0 v1 v2 v3 v4 r1 r2 r3 r4 r5 r6 r7 v5 v6 r8 r9 r10 r11 v7 r12 r13 v8 v9 h1 r14 v10 v11 r15 v12 v13 r16 v14 w15 r17 v16 v17 r18 r19 r20 r21 r22 r23 v18 r24 r25 r26 v19 h1 g0 f20))) (va_Qi (fun (r : Int32) (r9 : Int32) => r9 = r) (fun (r : Int32) (t : State) => ((0 ≤ r.toInt) ∧ (r.toInt ≤ 1) ∧ va_P (dC, dI) vwCl (wd_5013416a h0 v0 r0 v1 v2 v3 v4 r1 r2 r3 r4 r5 r6 r7 v5 v6 r8 r9 r10 r11 v7 r12 r13 v8 v9 h1 r14 v10 v11 r15 v12 v13 r16 v14 w15 r17 v16 v17 r18 r19 r20 r21 r22 r23 v18 r24 r25 r26 v19 h1 g0 f20) t.heap ∧ va_K (dC, dI) vwCl [] t ∧ va_D (va_A (wd_5013416a h0 v0 r0 v1 v2 v3 v4 r1 r2 r3 r4 r5 r6 r7 v5 v6 r8 r9 r10 r11 v7 r12 r13 v8 v9 h1 r14 v10 v11 r15 v12 v13 r16 v14 w15 r17 v16 v17 r18 r19 r20 r21 r22 r23 v18 r24 r25 r26 v19 h1 g0 f20) sz) (wd_5013416a h0 v0 r0 v1 v2 v3 v4 r1 r2 r3 r4 r5 r6 r7 v5 v6 r8 r9 r10 r11 v7 r12 r13 v8 v9 h1 r14 v10 v11 r15 v12 v13 r16 v14 w15 r17 v16 v17 r18 r19 r20 r21 r22 r23 v18 r24 r25 r26 v19 h1 g0 f20))) (va_A (wd_5013416a h0 v0 r0 v1 v2 v3 v4 r1 r2 r3 r4 r5 r6 r7 v5 v6 r8 r9 r10 r11 v7 r12 r13 v8 v9 h1 r14 v10 v11 r15 v12 v13 r16 v14 w15 r17 v16 v17 r18 r19 r20 r21 r22 r23 v18 r24 r25 r26 v19 h1 g0 f20) sz)) 0 0 (va_A (wd_5013416a h0 v0 r0 v1 v2 v3 v4 r1 r2 r3 r4 r5 r6 r7 v5 v6 r8 r9 r10 r11 v7 r12 r13 v8 v9 h1 r14 v10 v11 r15 v12 v13 r16 v14 w15 r17 v16 v17 r18 r19 r20 r21 r22 r23 v18 r24 r25 r26 v19 h1 g0 f20) sz) := by
  refine Met.ofW (cc := cX12_doRoar) (maxL := 4) (ret := (some .boolean)) (by decide) rfl ?_
  intro p e s m args below meth c s₁ B hml hv
  obtain ⟨i_v1a, i_v1b⟩ := i_v1
  obtain ⟨i_v5a, i_v5b⟩ := i_v5
  obtain ⟨i_v6a, i_v6b⟩ := i_v6
  obtain ⟨i_v7a, i_v7b⟩ := i_v7
  obtain ⟨i_v8a, i_v8b⟩ := i_v8
  obtain ⟨i_v9a, i_v9b⟩ := i_v9
  obtain ⟨i_v10a, i_v10b⟩ := i_v10
  obtain ⟨i_v14a, i_v14b⟩ := i_v14
  obtain ⟨i_v18a, i_v18b⟩ := i_v18
  obtain ⟨i_v19a, i_v19b⟩ := i_v19
  obtain ⟨rfl, hsz, hP, hK, hD0⟩ := hv
  have hx := B.exec
  have hb := B.bytes
  have hr := B.returns
  have hts := atoms_spec (ws := q_X12_doRoar) B.pre
  have hown : s.vm.findClass RX12 = some m.cls := findClass_of_methodNamed B.named
  have hlocks := B.notSynchronized
  subst hsz
  have hD := hD0.self (sz := s.heap.size)
  generalize hAe : va_A (wd_5013416a h0 v0 r0 v1 v2 v3 v4 r1 r2 r3 r4 r5 r6 r7 v5 v6 r8 r9 r10 r11 v7 r12 r13 v8 v9 h1 r14 v10 v11 r15 v12 v13 r16 v14 w15 r17 v16 v17 r18 r19 r20 r21 r22 r23 v18 r24 r25 r26 v19 h1 g0 f20) s.heap.size = A at hD ⊢
  have hA : ∀ q : Nat, s.heap.size ≤ q → A q := fun q h => by rw [← hAe]; exact Or.inr h
  have hS : va_S A s.heap s.heap [] := va_S.rf
  generalize hQ : (MQ below _ _ s 0 0 A) = Q
  have hl := lv_entry ([.ref h0, .int v21]) (n := 4) (Nat.le_of_ble_eq_true rfl)
  rw [lg_entry_eq]
  generalize (lg_sl ([.ref h0, .int v21]) ++ List.replicate (4 - (lg_sl ([.ref h0, .int v21])).length) Slot.unset).toArray = ls at hl ⊢
  have hl : lv_has ls 4 [(0, .ref h0), (1, .int v21)] := hl
  obtain ⟨H, hH⟩ : ∃ H : Heap, H = s.heap := ⟨_, rfl⟩
  obtain ⟨locs, hlocs⟩ : ∃ y : List Loc, y = [] := ⟨_, rfl⟩
  have hS : va_S A s.heap H locs := by rw [hH, hlocs]; exact va_S.rf
  have hP : va_P (dC, dI) vwCl (wd_5013416a h0 v0 r0 v1 v2 v3 v4 r1 r2 r3 r4 r5 r6 r7 v5 v6 r8 r9 r10 r11 v7 r12 r13 v8 v9 h1 r14 v10 v11 r15 v12 v13 r16 v14 w15 r17 v16 v17 r18 r19 r20 r21 r22 r23 v18 r24 r25 r26 v19 h1 g0 f20) H := by rw [hH]; exact hP
  rw [← hH, ← hlocs]
  refine lv_iconst (v := 0) hx hb dX12_doRoar_0 (by decide) ?_
  refine lv_istore_n (lv' := [(2, .int 0), (0, .ref h0), (1, .int v21)]) hx hb dX12_doRoar_1 rfl hl (by decide) rfl (fun ls hl => ?_)
  have hL6 : ∀ (n9 : Nat), ∀ (x4 : Int32) (H : Heap) (locs : List Loc) (ls : Array Slot), 0 ≤ x4.toInt → x4.toInt ≤ 8 → (8 - x4.toInt).toNat < n9 → va_P (dC, dI) vwCl (wd_5013416a h0 v0 r0 v1 v2 v3 v4 r1 r2 r3 r4 r5 r6 r7 v5 v6 r8 r9 r10 r11 v7 r12 r13 v8 v9 h1 r14 v10 v11 r15 v12 v13 r16 v14 w15 r17 v16 v17 r18 r19 r20 r21 r22 r23 v18 r24 r25 r26 v19 h1 g0 f20) H → va_D A (wd_5013416a h0 v0 r0 v1 v2 v3 v4 r1 r2 r3 r4 r5 r6 r7 v5 v6 r8 r9 r10 r11 v7 r12 r13 v8 v9 h1 r14 v10 v11 r15 v12 v13 r16 v14 w15 r17 v16 v17 r18 r19 r20 r21 r22 r23 v18 r24 r25 r26 v19 h1 g0 f20) → va_S A s.heap H locs → lv_has ls 4 [(2, .int x4), (0, .ref h0), (1, .int v21)] → W p l e ({ frames := 3, cells := 0, slots := 0, locals := 65 }) s m ([.ref h0, .int v21] : List Value).toArray below meth c H locs 0 0 Q (F0 m 2 ls []) := by
    intro n9
    induction n9 with
    | zero => intro x4 H locs ls qa_x4 qb_x4 hm9 hP hD hS hl; exact absurd hm9 (Nat.not_lt_zero _)
    | succ n9 ih_hL6 =>
      intro x4 H locs ls qa_x4 qb_x4 hm9 hP hD hS hl
      refine lv_iload_n hx hb dX12_doRoar_2 rfl (lv_at hl 0 rfl) ?_
      refine lv_bipush (v := 8) hx hb dX12_doRoar_3 (by decide) ?_
      refine lv_icmp_ge (tgt := 54) hx hb dX12_doRoar_5 (by decide) (fun c7 => ?_) (fun c7 => ?_)
      · skip
        have fc7 : 8 ≤ x4.toInt := Int32.le_iff_toInt_le.mp c7
        refine lv_iconst (v := 1) hx hb dX12_doRoar_54 (by decide) ?_
        subst hQ
        have hP9 := hP.sub (ws' := (wd_5013416a h0 v0 r0 v1 v2 v3 v4 r1 r2 r3 r4 r5 r6 r7 v5 v6 r8 r9 r10 r11 v7 r12 r13 v8 v9 h1 r14 v10 v11 r15 v12 v13 r16 v14 w15 r17 v16 v17 r18 r19 r20 r21 r22 r23 v18 r24 r25 r26 v19 h1 g0 f20)) [0, 1] rfl
        have hD9 := hD.sub (ws' := (wd_5013416a h0 v0 r0 v1 v2 v3 v4 r1 r2 r3 r4 r5 r6 r7 v5 v6 r8 r9 r10 r11 v7 r12 r13 v8 v9 h1 r14 v10 v11 r15 v12 v13 r16 v14 w15 r17 v16 v17 r18 r19 r20 r21 r22 r23 v18 r24 r25 r26 v19 h1 g0 f20)) [0, 1] (by decide) rfl
        have hK9 := hK.sub (tys' := []) [] rfl
        exact W.zret (v := 1) hx hb hr rfl (fun t ht hW => ⟨⟨1, 1, rfl, rfl, ⟨by first | omega | decide, by first | omega | decide, by rw [ht]; exact hP9, va_K.moved hW.alike hK9, hD9⟩⟩, hS.F ht⟩) hS.2.2 dX12_doRoar_55
      · skip
        have fc7 : ¬ (8 ≤ x4.toInt) := fun h9 => c7 (Int32.le_iff_toInt_le.mpr h9)
        refine lv_iconst (v := 0) hx hb dX12_doRoar_8 (by decide) ?_
        refine lv_istore_n (lv' := [(3, .int 0), (2, .int x4), (0, .ref h0), (1, .int v21)]) hx hb dX12_doRoar_9 rfl hl (by decide) rfl (fun ls hl => ?_)
        have hL12 : ∀ (n9 : Nat), ∀ (x10 : Int32) (H : Heap) (locs : List Loc) (ls : Array Slot), 0 ≤ x10.toInt → x10.toInt ≤ 7 → (7 - x10.toInt).toNat < n9 → va_P (dC, dI) vwCl (wd_5013416a h0 v0 r0 v1 v2 v3 v4 r1 r2 r3 r4 r5 r6 r7 v5 v6 r8 r9 r10 r11 v7 r12 r13 v8 v9 h1 r14 v10 v11 r15 v12 v13 r16 v14 w15 r17 v16 v17 r18 r19 r20 r21 r22 r23 v18 r24 r25 r26 v19 h1 g0 f20) H → va_D A (wd_5013416a h0 v0 r0 v1 v2 v3 v4 r1 r2 r3 r4 r5 r6 r7 v5 v6 r8 r9 r10 r11 v7 r12 r13 v8 v9 h1 r14 v10 v11 r15 v12 v13 r16 v14 w15 r17 v16 v17 r18 r19 r20 r21 r22 r23 v18 r24 r25 r26 v19 h1 g0 f20) → va_S A s.heap H locs → lv_has ls 4 [(3, .int x10), (2, .int x4), (0, .ref h0), (1, .int v21)] → W p l e ({ frames := 3, cells := 0, slots := 0, locals := 65 }) s m ([.ref h0, .int v21] : List Value).toArray below meth c H locs 0 0 Q (F0 m 10 ls []) := by
          intro n9
          induction n9 with
          | zero => intro x10 H locs ls qa_x10 qb_x10 hm9 hP hD hS hl; exact absurd hm9 (Nat.not_lt_zero _)
          | succ n9 ih_hL12 =>
            intro x10 H locs ls qa_x10 qb_x10 hm9 hP hD hS hl
            refine lv_iload_n hx hb dX12_doRoar_10 rfl (lv_at hl 0 rfl) ?_
            refine lv_iload_n hx hb dX12_doRoar_11 rfl (lv_at hl 1 rfl) ?_
            refine lv_icmp_ge (tgt := 48) hx hb dX12_doRoar_12 (by decide) (fun c13 => ?_) (fun c13 => ?_)
            · skip
              have fc13 : x4.toInt ≤ x10.toInt := Int32.le_iff_toInt_le.mp c13
              have r1c13 := Int32.toInt_lt x10
              have r2c13 := Int32.toInt_lt x4
              have r3c13 := Int32.le_toInt x10
              have r4c13 := Int32.le_toInt x4
              obtain ⟨t14, et14⟩ : ∃ y : Int32, y = x4 + 1 := ⟨_, rfl⟩
              have gt14 : t14.toInt = x4.toInt + (1) := pv_add (a := x4.toInt) (b := (1)) et14 rfl (by decide) (by omega) (by omega)
              refine lv_iinc (v := t14) (lv' := [(2, .int t14), (3, .int x10), (0, .ref h0), (1, .int v21)]) hx hb dX12_doRoar_48 hl (k := 1) rfl (by rw [et14]; rfl) (by decide) rfl (fun ls hl => ?_)
              refine lv_goto (tgt := 2) hx hb dX12_doRoar_51 (by decide) ?_
              exact ih_hL6 t14 H locs ls (by first | omega | decide) (by first | omega | decide) (by first | omega | (simp only [Int.toNat] at *; omega)) hP hD hS (lv_sub hl [0, 2, 3] rfl)
            · skip
              have fc13 : ¬ (x4.toInt ≤ x10.toInt) := fun h9 => c13 (Int32.le_iff_toInt_le.mpr h9)
              have r1c13 := Int32.toInt_lt x10
              have r2c13 := Int32.toInt_lt x4
              have r3c13 := Int32.le_toInt x10
              have r4c13 := Int32.le_toInt x4
              refine lv_iload_n hx hb dX12_doRoar_15 rfl (lv_at hl 3 rfl) ?_
              refine lv_iload_n hx hb dX12_doRoar_16 rfl (lv_at hl 1 rfl) ?_
              have hPc := hP.sub (ws' := []) [] rfl
              have hDc := hD.sub (ws' := []) [] (by decide) rfl
              have hKc := hK.sub (tys' := []) [] rfl
              have hFc := va_free (wc := []) hD hS hA [] rfl
              refine va_calli (va_runS (As := [.int v21, .int x4]) (rest := []) ⟨hx, hb, hml, hown, hts⟩ (k_X12_has l dC dI v21 x4  H.size) (va_cwS 2 hts g_X12_doRoar_0 rfl rfl rfl (by decide +kernel) ⟨Nat.le_of_ble_eq_true rfl, Nat.le_of_ble_eq_true rfl⟩) (pv_PS hPc hKc hDc) rfl rfl hl.1 rfl (lv_room (Nat.le_of_ble_eq_true rfl)) dX12_doRoar_17 ⟨Nat.le_of_ble_eq_true rfl, Nat.le_of_ble_eq_true rfl⟩) hS (fun q _ h => hFc q h) hFc (fun ra15 u t H1 locs ht hvm hwra15 hB hz1 hk1 hS => ?_)
              try rw [hwra15] at hB
              obtain ⟨pt0_ra15, pt1_ra15, pt2_ra15, pt3_ra15, hP1, hK1, hD1⟩ := hB
              rw [ht] at hP1
              obtain ⟨hP2, hD2⟩ := va_join (wr := (wd_5013416a h0 v0 r0 v1 v2 v3 v4 r1 r2 r3 r4 r5 r6 r7 v5 v6 r8 r9 r10 r11 v7 r12 r13 v8 v9 h1 r14 v10 v11 r15 v12 v13 r16 v14 w15 r17 v16 v17 r18 r19 r20 r21 r22 r23 v18 r24 r25 r26 v19 h1 g0 f20)) (w1 := []) hP hD [] [0, 1] rfl rfl (by decide) (by decide) hk1 hFc hP1 hD1
              clear hP hD hPc hDc hKc hFc hP1 hK1 hD1 hk1 hz1
              generalize H1 = H at hP2 hS ⊢
              have hP : va_P (dC, dI) vwCl (wd_5013416a h0 v0 r0 v1 v2 v3 v4 r1 r2 r3 r4 r5 r6 r7 v5 v6 r8 r9 r10 r11 v7 r12 r13 v8 v9 h1 r14 v10 v11 r15 v12 v13 r16 v14 w15 r17 v16 v17 r18 r19 r20 r21 r22 r23 v18 r24 r25 r26 v19 h1 g0 f20) H := hP2
              have hD : va_D A (wd_5013416a h0 v0 r0 v1 v2 v3 v4 r1 r2 r3 r4 r5 r6 r7 v5 v6 r8 r9 r10 r11 v7 r12 r13 v8 v9 h1 r14 v10 v11 r15 v12 v13 r16 v14 w15 r17 v16 v17 r18 r19 r20 r21 r22 r23 v18 r24 r25 r26 v19 h1 g0 f20) := hD2
              clear hP2 hD2
              refine lv_if_eq (tgt := 42) hx hb dX12_doRoar_20 (by decide) (fun c16 => ?_) (fun c16 => ?_)
              · skip
                have fc16 : ra15.toInt = 0 := congrArg Int32.toInt c16
                have q0pt3_ra15 := pt3_ra15 (by omega)
                obtain ⟨t17, et17⟩ : ∃ y : Int32, y = x10 + 1 := ⟨_, rfl⟩
                have gt17 : t17.toInt = x10.toInt + (1) := pv_add (a := x10.toInt) (b := (1)) et17 rfl (by decide) (by omega) (by omega)
                refine lv_iinc (v := t17) (lv' := [(3, .int t17), (2, .int x4), (0, .ref h0), (1, .int v21)]) hx hb dX12_doRoar_42 hl (k := 0) rfl (by rw [et17]; rfl) (by decide) rfl (fun ls hl => ?_)
                refine lv_goto (tgt := 10) hx hb dX12_doRoar_45 (by decide) ?_
                exact ih_hL12 t17 H locs ls (by first | omega | decide) (by first | omega | decide) (by first | omega | (simp only [Int.toNat] at *; omega)) hP hD hS (lv_sub hl [0, 1, 2, 3] rfl)
              · skip
                have fc16 : ¬ (ra15.toInt = 0) := fun h9 => c16 (Int32.toInt_inj.mp h9)
                have q1pt2_ra15 := pt2_ra15 (by omega)
                refine lv_iload_n hx hb dX12_doRoar_23 rfl (lv_at hl 3 rfl) ?_
                refine lv_iload_n hx hb dX12_doRoar_24 rfl (lv_at hl 0 rfl) ?_
                have hPc := hP.sub (ws' := []) [] rfl
                have hDc := hD.sub (ws' := []) [] (by decide) rfl
                have hKc := hK.sub (tys' := []) [] rfl
                have hFc := va_free (wc := []) hD hS hA [] rfl
                refine va_calli (va_runS (As := [.int v21, .int x10]) (rest := []) ⟨hx, hb, hml, hown, hts⟩ (k_X12_has l dC dI v21 x10  H.size) (va_cwS 2 hts g_X12_doRoar_0 rfl rfl rfl (by decide +kernel) ⟨Nat.le_of_ble_eq_true rfl, Nat.le_of_ble_eq_true rfl⟩) (pv_PS hPc hKc hDc) rfl rfl hl.1 rfl (lv_room (Nat.le_of_ble_eq_true rfl)) dX12_doRoar_25 ⟨Nat.le_of_ble_eq_true rfl, Nat.le_of_ble_eq_true rfl⟩) hS (fun q _ h => hFc q h) hFc (fun ra18 u t H1 locs ht hvm hwra18 hB hz1 hk1 hS => ?_)
                try rw [hwra18] at hB
                obtain ⟨pt0_ra18, pt1_ra18, pt2_ra18, pt3_ra18, hP1, hK1, hD1⟩ := hB
                rw [ht] at hP1
                obtain ⟨hP2, hD2⟩ := va_join (wr := (wd_5013416a h0 v0 r0 v1 v2 v3 v4 r1 r2 r3 r4 r5 r6 r7 v5 v6 r8 r9 r10 r11 v7 r12 r13 v8 v9 h1 r14 v10 v11 r15 v12 v13 r16 v14 w15 r17 v16 v17 r18 r19 r20 r21 r22 r23 v18 r24 r25 r26 v19 h1 g0 f20)) (w1 := []) hP hD [] [0, 1] rfl rfl (by decide) (by decide) hk1 hFc hP1 hD1
                clear hP hD hPc hDc hKc hFc hP1 hK1 hD1 hk1 hz1
                generalize H1 = H at hP2 hS ⊢
                have hP : va_P (dC, dI) vwCl (wd_5013416a h0 v0 r0 v1 v2 v3 v4 r1 r2 r3 r4 r5 r6 r7 v5 v6 r8 r9 r10 r11 v7 r12 r13 v8 v9 h1 r14 v10 v11 r15 v12 v13 r16 v14 w15 r17 v16 v17 r18 r19 r20 r21 r22 r23 v18 r24 r25 r26 v19 h1 g0 f20) H := hP2
                have hD : va_D A (wd_5013416a h0 v0 r0 v1 v2 v3 v4 r1 r2 r3 r4 r5 r6 r7 v5 v6 r8 r9 r10 r11 v7 r12 r13 v8 v9 h1 r14 v10 v11 r15 v12 v13 r16 v14 w15 r17 v16 v17 r18 r19 r20 r21 r22 r23 v18 r24 r25 r26 v19 h1 g0 f20) := hD2
                clear hP2 hD2
                refine lv_if_eq (tgt := 42) hx hb dX12_doRoar_28 (by decide) (fun c19 => ?_) (fun c19 => ?_)
                · skip
                  have fc19 : ra18.toInt = 0 := congrArg Int32.toInt c19
                  have q0pt3_ra18 := pt3_ra18 (by omega)
                  obtain ⟨t20, et20⟩ : ∃ y : Int32, y = x10 + 1 := ⟨_, rfl⟩
                  have gt20 : t20.toInt = x10.toInt + (1) := pv_add (a := x10.toInt) (b := (1)) et20 rfl (by decide) (by omega) (by omega)
                  refine lv_iinc (v := t20) (lv' := [(3, .int t20), (2, .int x4), (0, .ref h0), (1, .int v21)]) hx hb dX12_doRoar_42 hl (k := 0) rfl (by rw [et20]; rfl) (by decide) rfl (fun ls hl => ?_)
                  refine lv_goto (tgt := 10) hx hb dX12_doRoar_45 (by decide) ?_
                  exact ih_hL12 t20 H locs ls (by first | omega | decide) (by first | omega | decide) (by first | omega | (simp only [Int.toNat] at *; omega)) hP hD hS (lv_sub hl [0, 1, 2, 3] rfl)
                · skip
                  have fc19 : ¬ (ra18.toInt = 0) := fun h9 => c19 (Int32.toInt_inj.mp h9)
                  have q1pt2_ra18 := pt2_ra18 (by omega)
                  refine lv_aload_n hx hb dX12_doRoar_31 rfl (lv_at hl 2 rfl) ?_
                  refine lv_iload_n hx hb dX12_doRoar_32 rfl (lv_at hl 1 rfl) ?_
                  refine lv_iload_n hx hb dX12_doRoar_33 rfl (lv_at hl 0 rfl) ?_
                  have hPc := hP.sub (ws' := (wd_5013416a h0 v0 r0 v1 v2 v3 v4 r1 r2 r3 r4 r5 r6 r7 v5 v6 r8 r9 r10 r11 v7 r12 r13 v8 v9 h1 r14 v10 v11 r15 v12 v13 r16 v14 w15 r17 v16 v17 r18 r19 r20 r21 r22 r23 v18 r24 r25 r26 v19 h1 g0 f20)) [0, 1] rfl
                  have hDc := hD.sub (ws' := (wd_5013416a h0 v0 r0 v1 v2 v3 v4 r1 r2 r3 r4 r5 r6 r7 v5 v6 r8 r9 r10 r11 v7 r12 r13 v8 v9 h1 r14 v10 v11 r15 v12 v13 r16 v14 w15 r17 v16 v17 r18 r19 r20 r21 r22 r23 v18 r24 r25 r26 v19 h1 g0 f20)) [0, 1] (by decide) rfl
                  have hKc := hK.sub (tys' := [(g0, .int)]) [0] rfl
                  have hFc := va_free (wc := (wd_5013416a h0 v0 r0 v1 v2 v3 v4 r1 r2 r3 r4 r5 r6 r7 v5 v6 r8 r9 r10 r11 v7 r12 r13 v8 v9 h1 r14 v10 v11 r15 v12 v13 r16 v14 w15 r17 v16 v17 r18 r19 r20 r21 r22 r23 v18 r24 r25 r26 v19 h1 g0 f20)) hD hS hA [0, 1] rfl
                  refine va_calli (va_runV (As := [.int x4, .int x10]) (rest := []) ⟨hx, hb, hml, hown, hts⟩ (k_X12_setsOff l dC dI h0 h1 v0 r0 v1 v2 v3 v4 r1 r2 r3 r4 r5 r6 r7 v5 v6 r8 r9 r10 r11 v7 r12 r13 v8 v9 r14 v10 v11 r15 v12 v13 r16 v14 w15 r17 v16 v17 r18 r19 r20 r21 r22 r23 v18 r24 r25 r26 v19 g0 f20 x4 x10 ⟨i_v1a, i_v1b⟩ ⟨i_v5a, i_v5b⟩ ⟨i_v6a, i_v6b⟩ ⟨i_v7a, i_v7b⟩ ⟨i_v8a, i_v8b⟩ ⟨i_v9a, i_v9b⟩ ⟨i_v10a, i_v10b⟩ ⟨i_v14a, i_v14b⟩ ⟨i_v18a, i_v18b⟩ ⟨i_v19a, i_v19b⟩ ⟨qa_x4, by first | omega | decide⟩ ⟨qa_x10, qb_x10⟩ ia_f20 H.size) (cwV 2 hts g_X12_doRoar_2 rfl rfl rfl (by decide +kernel) ⟨Nat.le_of_ble_eq_true rfl, Nat.le_of_ble_eq_true rfl⟩) (pv_PV12 hPc hKc hDc (q0 := 0) rfl) rfl rfl hl.1 rfl (lv_room (Nat.le_of_ble_eq_true rfl)) dX12_doRoar_34 ⟨Nat.le_of_ble_eq_true rfl, Nat.le_of_ble_eq_true rfl⟩) hS (fun q _ h => hFc q h) hFc (fun ra21 u t H1 locs ht hvm hwra21 hB hz1 hk1 hS => ?_)
                  try rw [hwra21] at hB
                  obtain ⟨pt0_ra21, pt1_ra21, hP1, hK1, hD1⟩ := hB
                  rw [ht] at hP1
                  obtain ⟨hP2, hD2⟩ := va_join (wr := []) (w1 := (wd_5013416a h0 v0 r0 v1 v2 v3 v4 r1 r2 r3 r4 r5 r6 r7 v5 v6 r8 r9 r10 r11 v7 r12 r13 v8 v9 h1 r14 v10 v11 r15 v12 v13 r16 v14 w15 r17 v16 v17 r18 r19 r20 r21 r22 r23 v18 r24 r25 r26 v19 h1 g0 f20)) hP hD [0, 1] [] rfl rfl (by decide) (by decide) hk1 hFc hP1 hD1
                  clear hP hD hPc hDc hKc hFc hP1 hK1 hD1 hk1 hz1
                  generalize H1 = H at hP2 hS ⊢
                  have hP : va_P (dC, dI) vwCl (wd_5013416a h0 v0 r0 v1 v2 v3 v4 r1 r2 r3 r4 r5 r6 r7 v5 v6 r8 r9 r10 r11 v7 r12 r13 v8 v9 h1 r14 v10 v11 r15 v12 v13 r16 v14 w15 r17 v16 v17 r18 r19 r20 r21 r22 r23 v18 r24 r25 r26 v19 h1 g0 f20) H := hP2
                  have hD : va_D A (wd_5013416a h0 v0 r0 v1 v2 v3 v4 r1 r2 r3 r4 r5 r6 r7 v5 v6 r8 r9 r10 r11 v7 r12 r13 v8 v9 h1 r14 v10 v11 r15 v12 v13 r16 v14 w15 r17 v16 v17 r18 r19 r20 r21 r22 r23 v18 r24 r25 r26 v19 h1 g0 f20) := hD2
                  clear hP2 hD2
                  refine lv_if_ne (tgt := 42) hx hb dX12_doRoar_37 (by decide) (fun c22 => ?_) (fun c22 => ?_)
                  · skip
                    have fc22 : ¬ (ra21.toInt = 0) := fun h9 => c22 (Int32.toInt_inj.mp h9)
                    obtain ⟨t23, et23⟩ : ∃ y : Int32, y = x10 + 1 := ⟨_, rfl⟩
                    have gt23 : t23.toInt = x10.toInt + (1) := pv_add (a := x10.toInt) (b := (1)) et23 rfl (by decide) (by omega) (by omega)
                    refine lv_iinc (v := t23) (lv' := [(3, .int t23), (2, .int x4), (0, .ref h0), (1, .int v21)]) hx hb dX12_doRoar_42 hl (k := 0) rfl (by rw [et23]; rfl) (by decide) rfl (fun ls hl => ?_)
                    refine lv_goto (tgt := 10) hx hb dX12_doRoar_45 (by decide) ?_
                    exact ih_hL12 t23 H locs ls (by first | omega | decide) (by first | omega | decide) (by first | omega | (simp only [Int.toNat] at *; omega)) hP hD hS (lv_sub hl [0, 1, 2, 3] rfl)
                  · skip
                    have fc22 : ra21.toInt = 0 := congrArg Int32.toInt c22
                    refine lv_iconst (v := 0) hx hb dX12_doRoar_40 (by decide) ?_
                    subst hQ
                    have hP9 := hP.sub (ws' := (wd_5013416a h0 v0 r0 v1 v2 v3 v4 r1 r2 r3 r4 r5 r6 r7 v5 v6 r8 r9 r10 r11 v7 r12 r13 v8 v9 h1 r14 v10 v11 r15 v12 v13 r16 v14 w15 r17 v16 v17 r18 r19 r20 r21 r22 r23 v18 r24 r25 r26 v19 h1 g0 f20)) [0, 1] rfl
                    have hD9 := hD.sub (ws' := (wd_5013416a h0 v0 r0 v1 v2 v3 v4 r1 r2 r3 r4 r5 r6 r7 v5 v6 r8 r9 r10 r11 v7 r12 r13 v8 v9 h1 r14 v10 v11 r15 v12 v13 r16 v14 w15 r17 v16 v17 r18 r19 r20 r21 r22 r23 v18 r24 r25 r26 v19 h1 g0 f20)) [0, 1] (by decide) rfl
                    have hK9 := hK.sub (tys' := []) [] rfl
                    exact W.zret (v := 0) hx hb hr rfl (fun t ht hW => ⟨⟨0, 0, rfl, rfl, ⟨by first | omega | decide, by first | omega | decide, by rw [ht]; exact hP9, va_K.moved hW.alike hK9, hD9⟩⟩, hS.F ht⟩) hS.2.2 dX12_doRoar_41
        exact hL12 _ 0 H locs ls (by decide) (by decide) (Nat.lt_succ_self _) hP hD hS (lv_sub hl [0, 1, 2, 3] rfl)
  exact hL6 _ 0 H locs ls (by decide) (by decide) (Nat.lt_succ_self _) hP hD hS (lv_sub hl [0, 1, 2] rfl)
def q_X12_roar : List Cond := .code yX12_roar cX12_roar 3 (some .int) :: (([.fieldLink RX12 262 "LeftArgumentsModel" "isOffice" "Z", .code yX12_bagOnes cX12_bagOnes 3 (some .int), .code yX12_isThere cX12_isThere 2 (some .boolean), .code yX12_in cX12_in 3 (some .boolean), .initialized RX12, .static yX12_in, .methodLink RX12 217 yX12_in, .code yX12_of cX12_of 3 (some .int), .fieldLink RX12 52 "LeftArgumentsModel" "now" "[I", .instanceMethod yX12_of, .selects RX12 yX12_of yX12_of, .methodLink RX12 287 yX12_of, .instanceMethod yX12_isThere, .selects RX12 yX12_isThere yX12_isThere, .methodLink RX12 290 yX12_isThere, .instanceMethod yX12_bagOnes, .selects RX12 yX12_bagOnes yX12_bagOnes, .methodLink RX12 404 yX12_bagOnes, .code yJ6_bitCount_0f7a4 cJ6_bitCount_0f7a4 1 (some .int), .constant RJ6 265 (1431655765), .constant RJ6 266 (858993459), .constant RJ6 267 (252645135), .initialized RJ6, .static yJ6_bitCount_0f7a4, .methodLink RX12 417 yJ6_bitCount_0f7a4, .code yX12_doRoar cX12_doRoar 4 (some .boolean), .code yX12_has cX12_has 2 (some .boolean), .static yX12_has, .methodLink RX12 228 yX12_has, .code yX12_setsOff cX12_setsOff 3 (some .boolean), .methodLink RX12 411 Lib.Math.abs.name, .static Lib.Math.abs.name, .initialized "java/lang/Math", .code Lib.Math.abs.name Lib.Math.abs.code 1 (some .int), .code yX12_stubbornOf cX12_stubbornOf 2 (some .int), .instanceMethod yX12_stubbornOf, .selects RX12 yX12_stubbornOf yX12_stubbornOf, .methodLink RX12 414 yX12_stubbornOf, .instanceMethod yX12_setsOff, .selects RX12 yX12_setsOff yX12_setsOff, .methodLink RX12 401 yX12_setsOff, .instanceMethod yX12_doRoar, .selects RX12 yX12_doRoar yX12_doRoar, .methodLink RX12 422 yX12_doRoar] : List Cond) ++ wsX120)
set_option maxRecDepth 20000 in
theorem g_X12_roar_0 : GoodIn q_X12_roar (wsV RX12 404 RX12 yX12_bagOnes q_X12_bagOnes) := goodIn_app (goodIn_r _ [18, 16, 17, 5] rfl (by decide +kernel)) (goodIn_ca (goodIn_r (.code yX12_bagOnes cX12_bagOnes 3 (some .int) :: [.code yX12_isThere cX12_isThere 2 (some .boolean), .code yX12_in cX12_in 3 (some .boolean), .initialized RX12, .static yX12_in, .methodLink RX12 217 yX12_in, .code yX12_of cX12_of 3 (some .int), .fieldLink RX12 52 "LeftArgumentsModel" "now" "[I", .instanceMethod yX12_of, .selects RX12 yX12_of yX12_of, .methodLink RX12 287 yX12_of, .instanceMethod yX12_isThere, .selects RX12 yX12_isThere yX12_isThere, .methodLink RX12 290 yX12_isThere]) [2, 3, 4, 5, 6, 7, 8, 9, 10, 11, 12, 13, 14, 15] rfl (by decide +kernel)) (goodIn_sub (fun _ h => List.mem_cons_of_mem _ (List.mem_append_right _ h)) gwX12))
set_option maxRecDepth 20000 in
theorem g_X12_roar_1 : GoodIn q_X12_roar (va_wsS RX12 417 yJ6_bitCount_0f7a4 q_J6_bitCount_0f7a4) := goodIn_app (goodIn_r _ [25, 24, 23] rfl (by decide +kernel)) (goodIn_r (.code yJ6_bitCount_0f7a4 cJ6_bitCount_0f7a4 1 (some .int) :: [.constant RJ6 265 (1431655765), .constant RJ6 266 (858993459), .constant RJ6 267 (252645135)]) [19, 20, 21, 22] rfl (by decide +kernel))
set_option maxRecDepth 20000 in
theorem g_X12_roar_3 : GoodIn q_X12_roar (wsV RX12 422 RX12 yX12_doRoar q_X12_doRoar) := goodIn_app (goodIn_r _ [44, 42, 43, 5] rfl (by decide +kernel)) (goodIn_ca (goodIn_r (.code yX12_doRoar cX12_doRoar 4 (some .boolean) :: [.code yX12_has cX12_has 2 (some .boolean), .initialized RX12, .static yX12_has, .methodLink RX12 228 yX12_has, .code yX12_setsOff cX12_setsOff 3 (some .boolean), .code yX12_of cX12_of 3 (some .int), .fieldLink RX12 52 "LeftArgumentsModel" "now" "[I", .instanceMethod yX12_of, .selects RX12 yX12_of yX12_of, .methodLink RX12 287 yX12_of, .methodLink RX12 411 Lib.Math.abs.name, .static Lib.Math.abs.name, .initialized "java/lang/Math", .code Lib.Math.abs.name Lib.Math.abs.code 1 (some .int), .code yX12_stubbornOf cX12_stubbornOf 2 (some .int), .instanceMethod yX12_stubbornOf, .selects RX12 yX12_stubbornOf yX12_stubbornOf, .methodLink RX12 414 yX12_stubbornOf, .instanceMethod yX12_setsOff, .selects RX12 yX12_setsOff yX12_setsOff, .methodLink RX12 401 yX12_setsOff]) [26, 27, 5, 28, 29, 30, 8, 9, 10, 11, 12, 31, 32, 33, 34, 35, 36, 37, 38, 39, 40, 41] rfl (by decide +kernel)) (goodIn_sub (fun _ h => List.mem_cons_of_mem _ (List.mem_append_right _ h)) gwX12))
set_option maxHeartbeats 4000000 in
set_option maxRecDepth 100000 in
theorem k_X12_roar (l : Launch) (dC : Nat → ClassId) (dI : Nat → Nat → Nat) (h0 : Nat) (h1 : Nat) (v0 : Int32) (r0 : Nat) (v1 : Int32) (v2 : Int32) (v3 : Int32) (v4 : Int32) (r1 : Nat) (r2 : Nat) (r3 : Nat) (r4 : Nat) (r5 : Nat) (r6 : Nat) (r7 : Nat) (v5 : Int32) (v6 : Int32) (r8 : Nat) (r9 : Nat) (r10 : Nat) (r11 : Nat) (v7 : Int32) (r12 : Nat) (r13 : Nat) (v8 : Int32) (v9 : Int32) (r14 : Nat) (v10 : Int32) (v11 : Int32) (r15 : Nat) (v12 : Int32) (v13 : Int32) (r16 : Nat) (v14 : Int32) (w15 : Int64) (r17 : Nat) (v16 : Int32) (v17 : Int32) (r18 : Nat) (r19 : Nat) (r20 : Nat) (r21 : Nat) (r22 : Nat) (r23 : Nat) (v18 : Int32) (r24 : Nat) (r25 : Nat) (r26 : Nat) (v19 : Int32) (g0 : ClassId) (f20 : Nat → Int32) (i_v1 : 0 ≤ v1.toInt ∧ v1.toInt ≤ 240) (i_v5 : 0 ≤ v5.toInt ∧ v5.toInt ≤ 4) (i_v6 : 0 ≤ v6.toInt ∧ v6.toInt ≤ 4) (i_v7 : 0 ≤ v7.toInt ∧ v7.toInt ≤ 8) (i_v8 : 0 ≤ v8.toInt ∧ v8.toInt ≤ 8) (i_v9 : 0 ≤ v9.toInt ∧ v9.toInt ≤ 1) (i_v10 : -1 ≤ v10.toInt ∧ v10.toInt ≤ 3) (i_v14 : 0 ≤ v14.toInt ∧ v14.toInt ≤ 40) (i_v18 : 0 ≤ v18.toInt ∧ v18.toInt ≤ 10) (i_v19 : 0 ≤ v19.toInt ∧ v19.toInt ≤ 1) (ia_f20 : (pm_NW f20)) (sz : Nat) : Met l yX12_roar q_X12_roar ({ frames := 4, cells := 0, slots := 0, locals := 88 }) (va_Pc [.ref h0] (fun U => U.heap.size = sz ∧ va_P (dC, dI) vwCl (wd_5013416a h0 v0 r0 v1 v2 v3 v4 r1 r2 r3 r4 r5 r6 r7 v5 v6 r8 r9 r10 r11 v7 r12 r13 v8 v9 h1 r14 v10 v11 r15 v12 v13 r16 v14 w15 r17 v16 v17 r18 r19 r20 r21 r22 r23 v18 r24 r25 r26 v19 h1 g0 f20) U.heap ∧ va_K (dC, dI) vwCl [(g0, .int)] U ∧ va_D (fun _ => True) (wd_5013416a h0 v0 r0 v1 v2 v3 v4 r1 r2 r3 r4 r5 r6 r7 v5 v6 r8 r9 r10 r11 v7 r12 r13 v8 v9 h1 r14 v10 v11 r15 v12 v13 r16 v14 w15 r17 v16 v17 r18 r19 r20 r21 r22 r23 v18 r24 r25 r26 v19 h1 g0 f20))) (va_Qi (fun (r : Int32) (r9 : Int32) => r9 = r) (fun (r : Int32) (t : State) => ((-1 ≤ r.toInt) ∧ (r.toInt ≤ 255) ∧ va_P (dC, dI) vwCl (wd_5013416a h0 v0 r0 v1 v2 v3 v4 r1 r2 r3 r4 r5 r6 r7 v5 v6 r8 r9 r10 r11 v7 r12 r13 v8 v9 h1 r14 v10 v11 r15 v12 v13 r16 v14 w15 r17 v16 v17 r18 r19 r20 r21 r22 r23 v18 r24 r25 r26 v19 h1 g0 f20) t.heap ∧ va_K (dC, dI) vwCl [] t ∧ va_D (va_A (wd_5013416a h0 v0 r0 v1 v2 v3 v4 r1 r2 r3 r4 r5 r6 r7 v5 v6 r8 r9 r10 r11 v7 r12 r13 v8 v9 h1 r14 v10 v11 r15 v12 v13 r16 v14 w15 r17 v16 v17 r18 r19 r20 r21 r22 r23 v18 r24 r25 r26 v19 h1 g0 f20) sz) (wd_5013416a h0 v0 r0 v1 v2 v3 v4 r1 r2 r3 r4 r5 r6 r7 v5 v6 r8 r9 r10 r11 v7 r12 r13 v8 v9 h1 r14 v10 v11 r15 v12 v13 r16 v14 w15 r17 v16 v17 r18 r19 r20 r21 r22 r23 v18 r24 r25 r26 v19 h1 g0 f20))) (va_A (wd_5013416a h0 v0 r0 v1 v2 v3 v4 r1 r2 r3 r4 r5 r6 r7 v5 v6 r8 r9 r10 r11 v7 r12 r13 v8 v9 h1 r14 v10 v11 r15 v12 v13 r16 v14 w15 r17 v16 v17 r18 r19 r20 r21 r22 r23 v18 r24 r25 r26 v19 h1 g0 f20) sz)) 0 0 (va_A (wd_5013416a h0 v0 r0 v1 v2 v3 v4 r1 r2 r3 r4 r5 r6 r7 v5 v6 r8 r9 r10 r11 v7 r12 r13 v8 v9 h1 r14 v10 v11 r15 v12 v13 r16 v14 w15 r17 v16 v17 r18 r19 r20 r21 r22 r23 v18 r24 r25 r26 v19 h1 g0 f20) sz) := by
  refine Met.ofW (cc := cX12_roar) (maxL := 3) (ret := (some .int)) (by decide) rfl ?_
  intro p e s m args below meth c s₁ B hml hv
  obtain ⟨i_v1a, i_v1b⟩ := i_v1
  obtain ⟨i_v5a, i_v5b⟩ := i_v5
  obtain ⟨i_v6a, i_v6b⟩ := i_v6
  obtain ⟨i_v7a, i_v7b⟩ := i_v7
  obtain ⟨i_v8a, i_v8b⟩ := i_v8
  obtain ⟨i_v9a, i_v9b⟩ := i_v9
  obtain ⟨i_v10a, i_v10b⟩ := i_v10
  obtain ⟨i_v14a, i_v14b⟩ := i_v14
  obtain ⟨i_v18a, i_v18b⟩ := i_v18
  obtain ⟨i_v19a, i_v19b⟩ := i_v19
  obtain ⟨rfl, hsz, hP, hK, hD0⟩ := hv
  have hx := B.exec
  have hb := B.bytes
  have hr := B.returns
  have hts := atoms_spec (ws := q_X12_roar) B.pre
  have hown : s.vm.findClass RX12 = some m.cls := findClass_of_methodNamed B.named
  have hlocks := B.notSynchronized
  subst hsz
  have hD := hD0.self (sz := s.heap.size)
  generalize hAe : va_A (wd_5013416a h0 v0 r0 v1 v2 v3 v4 r1 r2 r3 r4 r5 r6 r7 v5 v6 r8 r9 r10 r11 v7 r12 r13 v8 v9 h1 r14 v10 v11 r15 v12 v13 r16 v14 w15 r17 v16 v17 r18 r19 r20 r21 r22 r23 v18 r24 r25 r26 v19 h1 g0 f20) s.heap.size = A at hD ⊢
  have hA : ∀ q : Nat, s.heap.size ≤ q → A q := fun q h => by rw [← hAe]; exact Or.inr h
  have hS : va_S A s.heap s.heap [] := va_S.rf
  generalize hQ : (MQ below _ _ s 0 0 A) = Q
  have hl := lv_entry ([.ref h0]) (n := 3) (Nat.le_of_ble_eq_true rfl)
  rw [lg_entry_eq]
  generalize (lg_sl ([.ref h0]) ++ List.replicate (3 - (lg_sl ([.ref h0])).length) Slot.unset).toArray = ls at hl ⊢
  have hl : lv_has ls 3 [(0, .ref h0)] := hl
  obtain ⟨H, hH⟩ : ∃ H : Heap, H = s.heap := ⟨_, rfl⟩
  obtain ⟨locs, hlocs⟩ : ∃ y : List Loc, y = [] := ⟨_, rfl⟩
  have hS : va_S A s.heap H locs := by rw [hH, hlocs]; exact va_S.rf
  have hP : va_P (dC, dI) vwCl (wd_5013416a h0 v0 r0 v1 v2 v3 v4 r1 r2 r3 r4 r5 r6 r7 v5 v6 r8 r9 r10 r11 v7 r12 r13 v8 v9 h1 r14 v10 v11 r15 v12 v13 r16 v14 w15 r17 v16 v17 r18 r19 r20 r21 r22 r23 v18 r24 r25 r26 v19 h1 g0 f20) H := by rw [hH]; exact hP
  rw [← hH, ← hlocs]
  refine lv_aload_n hx hb dX12_roar_0 rfl (lv_at hl 0 rfl) ?_
  refine va_get (D := (dC, dI)) (ci := 12) (v := .int v9) (C := RX12) (T := TX12) (N := 48) hx hb hts (fun _ h => List.mem_cons_of_mem _ (List.mem_append_right _ h)) hown hK hP 0 rfl rfl 23 (by decide) (hts (.fieldLink RX12 262 "LeftArgumentsModel" "isOffice" "Z") (List.mem_cons_of_mem _ (List.mem_append_left _ (List.mem_of_getElem? (i := 0) rfl)))) (fun _ h9 => h9) rfl dX12_roar_1 ?_
  refine lv_if_ne (tgt := 9) hx hb dX12_roar_4 (by decide) (fun c1 => ?_) (fun c1 => ?_)
  · skip
    have fc1 : ¬ (v9.toInt = 0) := fun h9 => c1 (Int32.toInt_inj.mp h9)
    refine lv_iconst (v := 0) hx hb dX12_roar_9 (by decide) ?_
    refine lv_istore_n (lv' := [(1, .int 0), (0, .ref h0)]) hx hb dX12_roar_10 rfl hl (by decide) rfl (fun ls hl => ?_)
    refine lv_iconst (v := 1) hx hb dX12_roar_11 (by decide) ?_
    refine lv_istore_n (lv' := [(2, .int 1), (1, .int 0), (0, .ref h0)]) hx hb dX12_roar_12 rfl hl (by decide) rfl (fun ls hl => ?_)
    have hL22 : ∀ (n9 : Nat), ∀ (x18 : Int32) (x19 : Int32) (H : Heap) (locs : List Loc) (ls : Array Slot), 1 ≤ x18.toInt → x18.toInt ≤ 256 → 0 ≤ x19.toInt → x19.toInt ≤ 255 → (256 - x18.toInt).toNat < n9 → va_P (dC, dI) vwCl (wd_5013416a h0 v0 r0 v1 v2 v3 v4 r1 r2 r3 r4 r5 r6 r7 v5 v6 r8 r9 r10 r11 v7 r12 r13 v8 v9 h1 r14 v10 v11 r15 v12 v13 r16 v14 w15 r17 v16 v17 r18 r19 r20 r21 r22 r23 v18 r24 r25 r26 v19 h1 g0 f20) H → va_D A (wd_5013416a h0 v0 r0 v1 v2 v3 v4 r1 r2 r3 r4 r5 r6 r7 v5 v6 r8 r9 r10 r11 v7 r12 r13 v8 v9 h1 r14 v10 v11 r15 v12 v13 r16 v14 w15 r17 v16 v17 r18 r19 r20 r21 r22 r23 v18 r24 r25 r26 v19 h1 g0 f20) → va_S A s.heap H locs → lv_has ls 3 [(2, .int x18), (1, .int x19), (0, .ref h0)] → W p l e ({ frames := 4, cells := 0, slots := 0, locals := 88 }) s m ([.ref h0] : List Value).toArray below meth c H locs 0 0 Q (F0 m 13 ls []) := by
      intro n9
      induction n9 with
      | zero => intro x18 x19 H locs ls qa_x18 qb_x18 qa_x19 qb_x19 hm9 hP hD hS hl; exact absurd hm9 (Nat.not_lt_zero _)
      | succ n9 ih_hL22 =>
        intro x18 x19 H locs ls qa_x18 qb_x18 qa_x19 qb_x19 hm9 hP hD hS hl
        refine lv_iload_n hx hb dX12_roar_13 rfl (lv_at hl 0 rfl) ?_
        refine lv_sipush (v := 256) hx hb dX12_roar_14 (by decide) ?_
        refine lv_icmp_ge (tgt := 62) hx hb dX12_roar_17 (by decide) (fun c23 => ?_) (fun c23 => ?_)
        · skip
          have fc23 : 256 ≤ x18.toInt := Int32.le_iff_toInt_le.mp c23
          refine lv_iload_n hx hb dX12_roar_62 rfl (lv_at hl 1 rfl) ?_
          subst hQ
          have hP9 := hP.sub (ws' := (wd_5013416a h0 v0 r0 v1 v2 v3 v4 r1 r2 r3 r4 r5 r6 r7 v5 v6 r8 r9 r10 r11 v7 r12 r13 v8 v9 h1 r14 v10 v11 r15 v12 v13 r16 v14 w15 r17 v16 v17 r18 r19 r20 r21 r22 r23 v18 r24 r25 r26 v19 h1 g0 f20)) [0, 1] rfl
          have hD9 := hD.sub (ws' := (wd_5013416a h0 v0 r0 v1 v2 v3 v4 r1 r2 r3 r4 r5 r6 r7 v5 v6 r8 r9 r10 r11 v7 r12 r13 v8 v9 h1 r14 v10 v11 r15 v12 v13 r16 v14 w15 r17 v16 v17 r18 r19 r20 r21 r22 r23 v18 r24 r25 r26 v19 h1 g0 f20)) [0, 1] (by decide) rfl
          have hK9 := hK.sub (tys' := []) [] rfl
          exact W.iret (v := x19) hx hb hr (fun t ht hW => ⟨⟨x19, x19, rfl, rfl, ⟨by first | omega | decide, by first | omega | decide, by rw [ht]; exact hP9, va_K.moved hW.alike hK9, hD9⟩⟩, hS.F ht⟩) hS.2.2 dX12_roar_63
        · skip
          have fc23 : ¬ (256 ≤ x18.toInt) := fun h9 => c23 (Int32.le_iff_toInt_le.mpr h9)
          refine lv_iload_n hx hb dX12_roar_20 rfl (lv_at hl 0 rfl) ?_
          refine lv_aload_n hx hb dX12_roar_21 rfl (lv_at hl 2 rfl) ?_
          have hPc := hP.sub (ws' := (wd_5013416a h0 v0 r0 v1 v2 v3 v4 r1 r2 r3 r4 r5 r6 r7 v5 v6 r8 r9 r10 r11 v7 r12 r13 v8 v9 h1 r14 v10 v11 r15 v12 v13 r16 v14 w15 r17 v16 v17 r18 r19 r20 r21 r22 r23 v18 r24 r25 r26 v19 h1 g0 f20)) [0, 1] rfl
          have hDc := hD.sub (ws' := (wd_5013416a h0 v0 r0 v1 v2 v3 v4 r1 r2 r3 r4 r5 r6 r7 v5 v6 r8 r9 r10 r11 v7 r12 r13 v8 v9 h1 r14 v10 v11 r15 v12 v13 r16 v14 w15 r17 v16 v17 r18 r19 r20 r21 r22 r23 v18 r24 r25 r26 v19 h1 g0 f20)) [0, 1] (by decide) rfl
          have hKc := hK.sub (tys' := [(g0, .int)]) [0] rfl
          have hFc := va_free (wc := (wd_5013416a h0 v0 r0 v1 v2 v3 v4 r1 r2 r3 r4 r5 r6 r7 v5 v6 r8 r9 r10 r11 v7 r12 r13 v8 v9 h1 r14 v10 v11 r15 v12 v13 r16 v14 w15 r17 v16 v17 r18 r19 r20 r21 r22 r23 v18 r24 r25 r26 v19 h1 g0 f20)) hD hS hA [0, 1] rfl
          refine va_calli (va_runV (As := []) (rest := [.int x18]) ⟨hx, hb, hml, hown, hts⟩ (k_X12_bagOnes l dC dI h0 h1 v0 r0 v1 v2 v3 v4 r1 r2 r3 r4 r5 r6 r7 v5 v6 r8 r9 r10 r11 v7 r12 r13 v8 v9 r14 v10 v11 r15 v12 v13 r16 v14 w15 r17 v16 v17 r18 r19 r20 r21 r22 r23 v18 r24 r25 r26 v19 g0 f20 ⟨i_v1a, i_v1b⟩ ⟨i_v5a, i_v5b⟩ ⟨i_v6a, i_v6b⟩ ⟨i_v7a, i_v7b⟩ ⟨i_v8a, i_v8b⟩ ⟨i_v9a, i_v9b⟩ ⟨i_v10a, i_v10b⟩ ⟨i_v14a, i_v14b⟩ ⟨i_v18a, i_v18b⟩ ⟨i_v19a, i_v19b⟩ ia_f20 H.size) (cwV 0 hts g_X12_roar_0 rfl rfl rfl (by decide +kernel) ⟨Nat.le_of_ble_eq_true rfl, Nat.le_of_ble_eq_true rfl⟩) (pv_PV12 hPc hKc hDc (q0 := 0) rfl) rfl rfl hl.1 rfl (lv_room (Nat.le_of_ble_eq_true rfl)) dX12_roar_22 ⟨Nat.le_of_ble_eq_true rfl, Nat.le_of_ble_eq_true rfl⟩) hS (fun q _ h => hFc q h) hFc (fun ra24 u t H1 locs ht hvm hwra24 hB hz1 hk1 hS => ?_)
          try rw [hwra24] at hB
          obtain ⟨hP1, hK1, hD1⟩ := hB
          rw [ht] at hP1
          obtain ⟨hP2, hD2⟩ := va_join (wr := []) (w1 := (wd_5013416a h0 v0 r0 v1 v2 v3 v4 r1 r2 r3 r4 r5 r6 r7 v5 v6 r8 r9 r10 r11 v7 r12 r13 v8 v9 h1 r14 v10 v11 r15 v12 v13 r16 v14 w15 r17 v16 v17 r18 r19 r20 r21 r22 r23 v18 r24 r25 r26 v19 h1 g0 f20)) hP hD [0, 1] [] rfl rfl (by decide) (by decide) hk1 hFc hP1 hD1
          clear hP hD hPc hDc hKc hFc hP1 hK1 hD1 hk1 hz1
          generalize H1 = H at hP2 hS ⊢
          have hP : va_P (dC, dI) vwCl (wd_5013416a h0 v0 r0 v1 v2 v3 v4 r1 r2 r3 r4 r5 r6 r7 v5 v6 r8 r9 r10 r11 v7 r12 r13 v8 v9 h1 r14 v10 v11 r15 v12 v13 r16 v14 w15 r17 v16 v17 r18 r19 r20 r21 r22 r23 v18 r24 r25 r26 v19 h1 g0 f20) H := hP2
          have hD : va_D A (wd_5013416a h0 v0 r0 v1 v2 v3 v4 r1 r2 r3 r4 r5 r6 r7 v5 v6 r8 r9 r10 r11 v7 r12 r13 v8 v9 h1 r14 v10 v11 r15 v12 v13 r16 v14 w15 r17 v16 v17 r18 r19 r20 r21 r22 r23 v18 r24 r25 r26 v19 h1 g0 f20) := hD2
          clear hP2 hD2
          refine lv_iconst (v := (-1)) hx hb dX12_roar_25 (by decide) ?_
          refine lv_ixor hx hb dX12_roar_26 ?_
          refine lv_topi (fun t25 et25 => ?_)
          refine lv_iand hx hb dX12_roar_27 ?_
          refine lv_topi (fun t26 et26 => ?_)
          have hJ28 : ∀ (x27 : Int32) (H : Heap) (locs : List Loc) (ls : Array Slot), 0 ≤ x27.toInt → x27.toInt ≤ 255 → va_P (dC, dI) vwCl (wd_5013416a h0 v0 r0 v1 v2 v3 v4 r1 r2 r3 r4 r5 r6 r7 v5 v6 r8 r9 r10 r11 v7 r12 r13 v8 v9 h1 r14 v10 v11 r15 v12 v13 r16 v14 w15 r17 v16 v17 r18 r19 r20 r21 r22 r23 v18 r24 r25 r26 v19 h1 g0 f20) H → va_D A (wd_5013416a h0 v0 r0 v1 v2 v3 v4 r1 r2 r3 r4 r5 r6 r7 v5 v6 r8 r9 r10 r11 v7 r12 r13 v8 v9 h1 r14 v10 v11 r15 v12 v13 r16 v14 w15 r17 v16 v17 r18 r19 r20 r21 r22 r23 v18 r24 r25 r26 v19 h1 g0 f20) → va_S A s.heap H locs → lv_has ls 3 [(2, .int x18), (1, .int x19), (0, .ref h0)] → W p l e ({ frames := 4, cells := 0, slots := 0, locals := 88 }) s m ([.ref h0] : List Value).toArray below meth c H locs 0 0 Q (F0 m 55 ls [.int x27]) := by
            intro x27 H locs ls qa_x27 qb_x27 hP hD hS hl
            refine lv_istore_n (lv' := [(1, .int x27), (2, .int x18), (0, .ref h0)]) hx hb dX12_roar_55 rfl hl (by decide) rfl (fun ls hl => ?_)
            obtain ⟨t29, et29⟩ : ∃ y : Int32, y = x18 + 1 := ⟨_, rfl⟩
            have gt29 : t29.toInt = x18.toInt + (1) := pv_add (a := x18.toInt) (b := (1)) et29 rfl (by decide) (by omega) (by omega)
            refine lv_iinc (v := t29) (lv' := [(2, .int t29), (1, .int x27), (0, .ref h0)]) hx hb dX12_roar_56 hl (k := 1) rfl (by rw [et29]; rfl) (by decide) rfl (fun ls hl => ?_)
            refine lv_goto (tgt := 13) hx hb dX12_roar_59 (by decide) ?_
            exact ih_hL22 t29 x27 H locs ls (by first | omega | decide) (by first | omega | decide) qa_x27 qb_x27 (by first | omega | (simp only [Int.toNat] at *; omega)) hP hD hS (lv_sub hl [0, 1, 2] rfl)
          refine lv_if_ne (tgt := 54) hx hb dX12_roar_28 (by decide) (fun c30 => ?_) (fun c30 => ?_)
          · skip
            have fc30 : ¬ (t26.toInt = 0) := fun h9 => c30 (Int32.toInt_inj.mp h9)
            refine lv_iload_n hx hb dX12_roar_54 rfl (lv_at hl 1 rfl) ?_
            exact hJ28 x19 H locs ls qa_x19 qb_x19 hP hD hS (lv_sub hl [0, 1, 2] rfl)
          · skip
            have fc30 : t26.toInt = 0 := congrArg Int32.toInt c30
            refine lv_iload_n hx hb dX12_roar_31 rfl (lv_at hl 0 rfl) ?_
            have hPc := hP.sub (ws' := []) [] rfl
            have hDc := hD.sub (ws' := []) [] (by decide) rfl
            have hKc := hK.sub (tys' := []) [] rfl
            have hFc := va_free (wc := []) hD hS hA [] rfl
            refine va_calli (va_runS (As := [.int x18]) (rest := []) ⟨hx, hb, hml, hown, hts⟩ (k_J6_bitCount_0f7a4 l dC dI x18  H.size) (va_cwS 1 hts g_X12_roar_1 rfl rfl rfl (by decide +kernel) ⟨Nat.le_of_ble_eq_true rfl, Nat.le_of_ble_eq_true rfl⟩) (pv_PS hPc hKc hDc) rfl rfl hl.1 rfl (lv_room (Nat.le_of_ble_eq_true rfl)) dX12_roar_32 ⟨Nat.le_of_ble_eq_true rfl, Nat.le_of_ble_eq_true rfl⟩) hS (fun q _ h => hFc q h) hFc (fun ra31 u t H1 locs ht hvm hwra31 hB hz1 hk1 hS => ?_)
            obtain ⟨hP1, hK1, hD1⟩ := hB
            rw [ht] at hP1
            obtain ⟨hP2, hD2⟩ := va_join (wr := (wd_5013416a h0 v0 r0 v1 v2 v3 v4 r1 r2 r3 r4 r5 r6 r7 v5 v6 r8 r9 r10 r11 v7 r12 r13 v8 v9 h1 r14 v10 v11 r15 v12 v13 r16 v14 w15 r17 v16 v17 r18 r19 r20 r21 r22 r23 v18 r24 r25 r26 v19 h1 g0 f20)) (w1 := []) hP hD [] [0, 1] rfl rfl (by decide) (by decide) hk1 hFc hP1 hD1
            clear hP hD hPc hDc hKc hFc hP1 hK1 hD1 hk1 hz1
            generalize H1 = H at hP2 hS ⊢
            have hP : va_P (dC, dI) vwCl (wd_5013416a h0 v0 r0 v1 v2 v3 v4 r1 r2 r3 r4 r5 r6 r7 v5 v6 r8 r9 r10 r11 v7 r12 r13 v8 v9 h1 r14 v10 v11 r15 v12 v13 r16 v14 w15 r17 v16 v17 r18 r19 r20 r21 r22 r23 v18 r24 r25 r26 v19 h1 g0 f20) H := hP2
            have hD : va_D A (wd_5013416a h0 v0 r0 v1 v2 v3 v4 r1 r2 r3 r4 r5 r6 r7 v5 v6 r8 r9 r10 r11 v7 r12 r13 v8 v9 h1 r14 v10 v11 r15 v12 v13 r16 v14 w15 r17 v16 v17 r18 r19 r20 r21 r22 r23 v18 r24 r25 r26 v19 h1 g0 f20) := hD2
            clear hP2 hD2
            obtain ⟨wa_ra31, wb_ra31⟩ := hwra31
            have wa_ra31 : 0 ≤ ra31.toInt := wa_ra31
            have wb_ra31 : ra31.toInt ≤ 63 := wb_ra31
            refine lv_iload_n hx hb dX12_roar_35 rfl (lv_at hl 1 rfl) ?_
            have hPc := hP.sub (ws' := []) [] rfl
            have hDc := hD.sub (ws' := []) [] (by decide) rfl
            have hKc := hK.sub (tys' := []) [] rfl
            have hFc := va_free (wc := []) hD hS hA [] rfl
            refine va_calli (va_runS (As := [.int x19]) (rest := [.int ra31]) ⟨hx, hb, hml, hown, hts⟩ (k_J6_bitCount_0f7a4 l dC dI x19  H.size) (va_cwS 1 hts g_X12_roar_1 rfl rfl rfl (by decide +kernel) ⟨Nat.le_of_ble_eq_true rfl, Nat.le_of_ble_eq_true rfl⟩) (pv_PS hPc hKc hDc) rfl rfl hl.1 rfl (lv_room (Nat.le_of_ble_eq_true rfl)) dX12_roar_36 ⟨Nat.le_of_ble_eq_true rfl, Nat.le_of_ble_eq_true rfl⟩) hS (fun q _ h => hFc q h) hFc (fun ra32 u t H1 locs ht hvm hwra32 hB hz1 hk1 hS => ?_)
            obtain ⟨hP1, hK1, hD1⟩ := hB
            rw [ht] at hP1
            obtain ⟨hP2, hD2⟩ := va_join (wr := (wd_5013416a h0 v0 r0 v1 v2 v3 v4 r1 r2 r3 r4 r5 r6 r7 v5 v6 r8 r9 r10 r11 v7 r12 r13 v8 v9 h1 r14 v10 v11 r15 v12 v13 r16 v14 w15 r17 v16 v17 r18 r19 r20 r21 r22 r23 v18 r24 r25 r26 v19 h1 g0 f20)) (w1 := []) hP hD [] [0, 1] rfl rfl (by decide) (by decide) hk1 hFc hP1 hD1
            clear hP hD hPc hDc hKc hFc hP1 hK1 hD1 hk1 hz1
            generalize H1 = H at hP2 hS ⊢
            have hP : va_P (dC, dI) vwCl (wd_5013416a h0 v0 r0 v1 v2 v3 v4 r1 r2 r3 r4 r5 r6 r7 v5 v6 r8 r9 r10 r11 v7 r12 r13 v8 v9 h1 r14 v10 v11 r15 v12 v13 r16 v14 w15 r17 v16 v17 r18 r19 r20 r21 r22 r23 v18 r24 r25 r26 v19 h1 g0 f20) H := hP2
            have hD : va_D A (wd_5013416a h0 v0 r0 v1 v2 v3 v4 r1 r2 r3 r4 r5 r6 r7 v5 v6 r8 r9 r10 r11 v7 r12 r13 v8 v9 h1 r14 v10 v11 r15 v12 v13 r16 v14 w15 r17 v16 v17 r18 r19 r20 r21 r22 r23 v18 r24 r25 r26 v19 h1 g0 f20) := hD2
            clear hP2 hD2
            obtain ⟨wa_ra32, wb_ra32⟩ := hwra32
            have wa_ra32 : 0 ≤ ra32.toInt := wa_ra32
            have wb_ra32 : ra32.toInt ≤ 63 := wb_ra32
            refine lv_icmp_le (tgt := 54) hx hb dX12_roar_39 (by decide) (fun c33 => ?_) (fun c33 => ?_)
            · skip
              have fc33 : ra31.toInt ≤ ra32.toInt := Int32.le_iff_toInt_le.mp c33
              have r1c33 := Int32.toInt_lt ra31
              have r2c33 := Int32.toInt_lt ra32
              have r3c33 := Int32.le_toInt ra31
              have r4c33 := Int32.le_toInt ra32
              refine lv_iload_n hx hb dX12_roar_54 rfl (lv_at hl 1 rfl) ?_
              exact hJ28 x19 H locs ls qa_x19 qb_x19 hP hD hS (lv_sub hl [0, 1, 2] rfl)
            · skip
              have fc33 : ¬ (ra31.toInt ≤ ra32.toInt) := fun h9 => c33 (Int32.le_iff_toInt_le.mpr h9)
              have r1c33 := Int32.toInt_lt ra31
              have r2c33 := Int32.toInt_lt ra32
              have r3c33 := Int32.le_toInt ra31
              have r4c33 := Int32.le_toInt ra32
              refine lv_aload_n hx hb dX12_roar_42 rfl (lv_at hl 2 rfl) ?_
              refine lv_iload_n hx hb dX12_roar_43 rfl (lv_at hl 0 rfl) ?_
              have hPc := hP.sub (ws' := (wd_5013416a h0 v0 r0 v1 v2 v3 v4 r1 r2 r3 r4 r5 r6 r7 v5 v6 r8 r9 r10 r11 v7 r12 r13 v8 v9 h1 r14 v10 v11 r15 v12 v13 r16 v14 w15 r17 v16 v17 r18 r19 r20 r21 r22 r23 v18 r24 r25 r26 v19 h1 g0 f20)) [0, 1] rfl
              have hDc := hD.sub (ws' := (wd_5013416a h0 v0 r0 v1 v2 v3 v4 r1 r2 r3 r4 r5 r6 r7 v5 v6 r8 r9 r10 r11 v7 r12 r13 v8 v9 h1 r14 v10 v11 r15 v12 v13 r16 v14 w15 r17 v16 v17 r18 r19 r20 r21 r22 r23 v18 r24 r25 r26 v19 h1 g0 f20)) [0, 1] (by decide) rfl
              have hKc := hK.sub (tys' := [(g0, .int)]) [0] rfl
              have hFc := va_free (wc := (wd_5013416a h0 v0 r0 v1 v2 v3 v4 r1 r2 r3 r4 r5 r6 r7 v5 v6 r8 r9 r10 r11 v7 r12 r13 v8 v9 h1 r14 v10 v11 r15 v12 v13 r16 v14 w15 r17 v16 v17 r18 r19 r20 r21 r22 r23 v18 r24 r25 r26 v19 h1 g0 f20)) hD hS hA [0, 1] rfl
              refine va_calli (va_runV (As := [.int x18]) (rest := []) ⟨hx, hb, hml, hown, hts⟩ (k_X12_doRoar l dC dI h0 h1 v0 r0 v1 v2 v3 v4 r1 r2 r3 r4 r5 r6 r7 v5 v6 r8 r9 r10 r11 v7 r12 r13 v8 v9 r14 v10 v11 r15 v12 v13 r16 v14 w15 r17 v16 v17 r18 r19 r20 r21 r22 r23 v18 r24 r25 r26 v19 g0 f20 x18 ⟨i_v1a, i_v1b⟩ ⟨i_v5a, i_v5b⟩ ⟨i_v6a, i_v6b⟩ ⟨i_v7a, i_v7b⟩ ⟨i_v8a, i_v8b⟩ ⟨i_v9a, i_v9b⟩ ⟨i_v10a, i_v10b⟩ ⟨i_v14a, i_v14b⟩ ⟨i_v18a, i_v18b⟩ ⟨i_v19a, i_v19b⟩ ia_f20 H.size) (cwV 1 hts g_X12_roar_3 rfl rfl rfl (by decide +kernel) ⟨Nat.le_of_ble_eq_true rfl, Nat.le_of_ble_eq_true rfl⟩) (pv_PV12 hPc hKc hDc (q0 := 0) rfl) rfl rfl hl.1 rfl (lv_room (Nat.le_of_ble_eq_true rfl)) dX12_roar_44 ⟨Nat.le_of_ble_eq_true rfl, Nat.le_of_ble_eq_true rfl⟩) hS (fun q _ h => hFc q h) hFc (fun ra34 u t H1 locs ht hvm hwra34 hB hz1 hk1 hS => ?_)
              try rw [hwra34] at hB
              obtain ⟨pt0_ra34, pt1_ra34, hP1, hK1, hD1⟩ := hB
              rw [ht] at hP1
              obtain ⟨hP2, hD2⟩ := va_join (wr := []) (w1 := (wd_5013416a h0 v0 r0 v1 v2 v3 v4 r1 r2 r3 r4 r5 r6 r7 v5 v6 r8 r9 r10 r11 v7 r12 r13 v8 v9 h1 r14 v10 v11 r15 v12 v13 r16 v14 w15 r17 v16 v17 r18 r19 r20 r21 r22 r23 v18 r24 r25 r26 v19 h1 g0 f20)) hP hD [0, 1] [] rfl rfl (by decide) (by decide) hk1 hFc hP1 hD1
              clear hP hD hPc hDc hKc hFc hP1 hK1 hD1 hk1 hz1
              generalize H1 = H at hP2 hS ⊢
              have hP : va_P (dC, dI) vwCl (wd_5013416a h0 v0 r0 v1 v2 v3 v4 r1 r2 r3 r4 r5 r6 r7 v5 v6 r8 r9 r10 r11 v7 r12 r13 v8 v9 h1 r14 v10 v11 r15 v12 v13 r16 v14 w15 r17 v16 v17 r18 r19 r20 r21 r22 r23 v18 r24 r25 r26 v19 h1 g0 f20) H := hP2
              have hD : va_D A (wd_5013416a h0 v0 r0 v1 v2 v3 v4 r1 r2 r3 r4 r5 r6 r7 v5 v6 r8 r9 r10 r11 v7 r12 r13 v8 v9 h1 r14 v10 v11 r15 v12 v13 r16 v14 w15 r17 v16 v17 r18 r19 r20 r21 r22 r23 v18 r24 r25 r26 v19 h1 g0 f20) := hD2
              clear hP2 hD2
              refine lv_if_eq (tgt := 54) hx hb dX12_roar_47 (by decide) (fun c35 => ?_) (fun c35 => ?_)
              · skip
                have fc35 : ra34.toInt = 0 := congrArg Int32.toInt c35
                refine lv_iload_n hx hb dX12_roar_54 rfl (lv_at hl 1 rfl) ?_
                exact hJ28 x19 H locs ls qa_x19 qb_x19 hP hD hS (lv_sub hl [0, 1, 2] rfl)
              · skip
                have fc35 : ¬ (ra34.toInt = 0) := fun h9 => c35 (Int32.toInt_inj.mp h9)
                refine lv_iload_n hx hb dX12_roar_50 rfl (lv_at hl 0 rfl) ?_
                refine lv_goto (tgt := 55) hx hb dX12_roar_51 (by decide) ?_
                exact hJ28 x18 H locs ls (by first | omega | decide) (by first | omega | decide) hP hD hS (lv_sub hl [0, 1, 2] rfl)
    exact hL22 _ 1 0 H locs ls (by decide) (by decide) (by decide) (by decide) (Nat.lt_succ_self _) hP hD hS (lv_sub hl [0, 1, 2] rfl)
  · skip
    have fc1 : v9.toInt = 0 := congrArg Int32.toInt c1
    refine lv_iconst (v := (-1)) hx hb dX12_roar_7 (by decide) ?_
    subst hQ
    have hP9 := hP.sub (ws' := (wd_5013416a h0 v0 r0 v1 v2 v3 v4 r1 r2 r3 r4 r5 r6 r7 v5 v6 r8 r9 r10 r11 v7 r12 r13 v8 v9 h1 r14 v10 v11 r15 v12 v13 r16 v14 w15 r17 v16 v17 r18 r19 r20 r21 r22 r23 v18 r24 r25 r26 v19 h1 g0 f20)) [0, 1] rfl
    have hD9 := hD.sub (ws' := (wd_5013416a h0 v0 r0 v1 v2 v3 v4 r1 r2 r3 r4 r5 r6 r7 v5 v6 r8 r9 r10 r11 v7 r12 r13 v8 v9 h1 r14 v10 v11 r15 v12 v13 r16 v14 w15 r17 v16 v17 r18 r19 r20 r21 r22 r23 v18 r24 r25 r26 v19 h1 g0 f20)) [0, 1] (by decide) rfl
    have hK9 := hK.sub (tys' := []) [] rfl
    exact W.iret (v := (-1)) hx hb hr (fun t ht hW => ⟨⟨(-1), (-1), rfl, rfl, ⟨by first | omega | decide, by first | omega | decide, by rw [ht]; exact hP9, va_K.moved hW.alike hK9, hD9⟩⟩, hS.F ht⟩) hS.2.2 dX12_roar_8
def q_X12_of_5 : List Cond := .code yX12_of cX12_of 3 (some .int) :: (([.fieldLink RX12 52 "LeftArgumentsModel" "now" "[I"] : List Cond) ++ wsX120)
set_option maxHeartbeats 4000000 in
set_option maxRecDepth 100000 in
theorem k_X12_of_5 (l : Launch) (dC : Nat → ClassId) (dI : Nat → Nat → Nat) (h0 : Nat) (h1 : Nat) (v0 : Int32) (r0 : Nat) (v1 : Int32) (v2 : Int32) (v3 : Int32) (v4 : Int32) (r1 : Nat) (r2 : Nat) (r3 : Nat) (r4 : Nat) (r5 : Nat) (r6 : Nat) (r7 : Nat) (v5 : Int32) (v6 : Int32) (r8 : Nat) (r9 : Nat) (r10 : Nat) (r11 : Nat) (v7 : Int32) (r12 : Nat) (r13 : Nat) (v8 : Int32) (v9 : Int32) (r14 : Nat) (v10 : Int32) (v11 : Int32) (r15 : Nat) (v12 : Int32) (v13 : Int32) (r16 : Nat) (v14 : Int32) (w15 : Int64) (r17 : Nat) (v16 : Int32) (v17 : Int32) (r18 : Nat) (r19 : Nat) (r20 : Nat) (r21 : Nat) (r22 : Nat) (r23 : Nat) (v18 : Int32) (r24 : Nat) (r25 : Nat) (r26 : Nat) (v19 : Int32) (g0 : ClassId) (f20 : Nat → Int32) (v21 : Int32) (i_v1 : 0 ≤ v1.toInt ∧ v1.toInt ≤ 240) (i_v5 : 0 ≤ v5.toInt ∧ v5.toInt ≤ 4) (i_v6 : 0 ≤ v6.toInt ∧ v6.toInt ≤ 4) (i_v7 : 0 ≤ v7.toInt ∧ v7.toInt ≤ 8) (i_v8 : 0 ≤ v8.toInt ∧ v8.toInt ≤ 8) (i_v9 : 0 ≤ v9.toInt ∧ v9.toInt ≤ 1) (i_v10 : -1 ≤ v10.toInt ∧ v10.toInt ≤ 3) (i_v14 : 0 ≤ v14.toInt ∧ v14.toInt ≤ 40) (i_v18 : 0 ≤ v18.toInt ∧ v18.toInt ≤ 10) (i_v19 : 0 ≤ v19.toInt ∧ v19.toInt ≤ 1) (i_v21 : 0 ≤ v21.toInt ∧ v21.toInt ≤ 7) (ia_f20 : (pm_NW0 f20)) (sz : Nat) : Met l yX12_of q_X12_of_5 ({ frames := 0, cells := 0, slots := 0, locals := 0 }) (va_Pc [.ref h0, .int v21, .int 5] (fun U => U.heap.size = sz ∧ va_P (dC, dI) vwCl (wd_5013416a h0 v0 r0 v1 v2 v3 v4 r1 r2 r3 r4 r5 r6 r7 v5 v6 r8 r9 r10 r11 v7 r12 r13 v8 v9 h1 r14 v10 v11 r15 v12 v13 r16 v14 w15 r17 v16 v17 r18 r19 r20 r21 r22 r23 v18 r24 r25 r26 v19 h1 g0 f20) U.heap ∧ va_K (dC, dI) vwCl [(g0, .int)] U ∧ va_D (fun _ => True) (wd_5013416a h0 v0 r0 v1 v2 v3 v4 r1 r2 r3 r4 r5 r6 r7 v5 v6 r8 r9 r10 r11 v7 r12 r13 v8 v9 h1 r14 v10 v11 r15 v12 v13 r16 v14 w15 r17 v16 v17 r18 r19 r20 r21 r22 r23 v18 r24 r25 r26 v19 h1 g0 f20))) (va_Qi (fun (r : Int32) (r9 : Int32) => r9 = r) (fun (r : Int32) (t : State) => ((r = f20 (pm_I v21 5)) ∧ va_P (dC, dI) vwCl (wd_5013416a h0 v0 r0 v1 v2 v3 v4 r1 r2 r3 r4 r5 r6 r7 v5 v6 r8 r9 r10 r11 v7 r12 r13 v8 v9 h1 r14 v10 v11 r15 v12 v13 r16 v14 w15 r17 v16 v17 r18 r19 r20 r21 r22 r23 v18 r24 r25 r26 v19 h1 g0 f20) t.heap ∧ va_K (dC, dI) vwCl [] t ∧ va_D (va_A (wd_5013416a h0 v0 r0 v1 v2 v3 v4 r1 r2 r3 r4 r5 r6 r7 v5 v6 r8 r9 r10 r11 v7 r12 r13 v8 v9 h1 r14 v10 v11 r15 v12 v13 r16 v14 w15 r17 v16 v17 r18 r19 r20 r21 r22 r23 v18 r24 r25 r26 v19 h1 g0 f20) sz) (wd_5013416a h0 v0 r0 v1 v2 v3 v4 r1 r2 r3 r4 r5 r6 r7 v5 v6 r8 r9 r10 r11 v7 r12 r13 v8 v9 h1 r14 v10 v11 r15 v12 v13 r16 v14 w15 r17 v16 v17 r18 r19 r20 r21 r22 r23 v18 r24 r25 r26 v19 h1 g0 f20))) (va_A (wd_5013416a h0 v0 r0 v1 v2 v3 v4 r1 r2 r3 r4 r5 r6 r7 v5 v6 r8 r9 r10 r11 v7 r12 r13 v8 v9 h1 r14 v10 v11 r15 v12 v13 r16 v14 w15 r17 v16 v17 r18 r19 r20 r21 r22 r23 v18 r24 r25 r26 v19 h1 g0 f20) sz)) 0 0 (va_A (wd_5013416a h0 v0 r0 v1 v2 v3 v4 r1 r2 r3 r4 r5 r6 r7 v5 v6 r8 r9 r10 r11 v7 r12 r13 v8 v9 h1 r14 v10 v11 r15 v12 v13 r16 v14 w15 r17 v16 v17 r18 r19 r20 r21 r22 r23 v18 r24 r25 r26 v19 h1 g0 f20) sz) := by
  refine Met.ofW (cc := cX12_of) (maxL := 3) (ret := (some .int)) (by decide) rfl ?_
  intro p e s m args below meth c s₁ B hml hv
  obtain ⟨i_v1a, i_v1b⟩ := i_v1
  obtain ⟨i_v5a, i_v5b⟩ := i_v5
  obtain ⟨i_v6a, i_v6b⟩ := i_v6
  obtain ⟨i_v7a, i_v7b⟩ := i_v7
  obtain ⟨i_v8a, i_v8b⟩ := i_v8
  obtain ⟨i_v9a, i_v9b⟩ := i_v9
  obtain ⟨i_v10a, i_v10b⟩ := i_v10
  obtain ⟨i_v14a, i_v14b⟩ := i_v14
  obtain ⟨i_v18a, i_v18b⟩ := i_v18
  obtain ⟨i_v19a, i_v19b⟩ := i_v19
  obtain ⟨i_v21a, i_v21b⟩ := i_v21
  obtain ⟨rfl, hsz, hP, hK, hD0⟩ := hv
  have hx := B.exec
  have hb := B.bytes
  have hr := B.returns
  have hts := atoms_spec (ws := q_X12_of_5) B.pre
  have hown : s.vm.findClass RX12 = some m.cls := findClass_of_methodNamed B.named
  have hlocks := B.notSynchronized
  subst hsz
  have hD := hD0.self (sz := s.heap.size)
  generalize hAe : va_A (wd_5013416a h0 v0 r0 v1 v2 v3 v4 r1 r2 r3 r4 r5 r6 r7 v5 v6 r8 r9 r10 r11 v7 r12 r13 v8 v9 h1 r14 v10 v11 r15 v12 v13 r16 v14 w15 r17 v16 v17 r18 r19 r20 r21 r22 r23 v18 r24 r25 r26 v19 h1 g0 f20) s.heap.size = A at hD ⊢
  have hA : ∀ q : Nat, s.heap.size ≤ q → A q := fun q h => by rw [← hAe]; exact Or.inr h
  have hS : va_S A s.heap s.heap [] := va_S.rf
  generalize hQ : (MQ below _ _ s 0 0 A) = Q
  have hl := lv_entry ([.ref h0, .int v21, .int 5]) (n := 3) (Nat.le_of_ble_eq_true rfl)
  rw [lg_entry_eq]
  generalize (lg_sl ([.ref h0, .int v21, .int 5]) ++ List.replicate (3 - (lg_sl ([.ref h0, .int v21, .int 5])).length) Slot.unset).toArray = ls at hl ⊢
  have hl : lv_has ls 3 [(0, .ref h0), (1, .int v21), (2, .int 5)] := hl
  obtain ⟨H, hH⟩ : ∃ H : Heap, H = s.heap := ⟨_, rfl⟩
  obtain ⟨locs, hlocs⟩ : ∃ y : List Loc, y = [] := ⟨_, rfl⟩
  have hS : va_S A s.heap H locs := by rw [hH, hlocs]; exact va_S.rf
  have hP : va_P (dC, dI) vwCl (wd_5013416a h0 v0 r0 v1 v2 v3 v4 r1 r2 r3 r4 r5 r6 r7 v5 v6 r8 r9 r10 r11 v7 r12 r13 v8 v9 h1 r14 v10 v11 r15 v12 v13 r16 v14 w15 r17 v16 v17 r18 r19 r20 r21 r22 r23 v18 r24 r25 r26 v19 h1 g0 f20) H := by rw [hH]; exact hP
  rw [← hH, ← hlocs]
  refine lv_aload_n hx hb dX12_of_0 rfl (lv_at hl 0 rfl) ?_
  refine va_get (D := (dC, dI)) (ci := 12) (v := .ref h1) (C := RX12) (T := TX12) (N := 48) hx hb hts (fun _ h => List.mem_cons_of_mem _ (List.mem_append_right _ h)) hown hK hP 0 rfl rfl 24 (by decide) (hts (.fieldLink RX12 52 "LeftArgumentsModel" "now" "[I") (List.mem_cons_of_mem _ (List.mem_append_left _ (List.mem_of_getElem? (i := 0) rfl)))) (fun _ h9 => h9) rfl dX12_of_1 ?_
  refine lv_bipush (v := 8) hx hb dX12_of_4 (by decide) ?_
  refine lv_iload_n hx hb dX12_of_6 rfl (lv_at hl 1 rfl) ?_
  refine lv_imul hx hb dX12_of_7 ?_
  refine lv_topi (fun t1 et1 => ?_)
  have gt1 : t1.toInt = 8 * v21.toInt := pv_mul (a := 8) (b := v21.toInt) et1 (by decide) rfl (by omega) (by omega)
  refine lv_iload_n hx hb dX12_of_8 rfl (lv_at hl 2 rfl) ?_
  refine lv_iadd hx hb dX12_of_9 ?_
  refine lv_topi (fun t2 et2 => ?_)
  have gt2 : t2.toInt = t1.toInt + 5 := pv_add (a := t1.toInt) (b := 5) et2 rfl (by decide) (by omega) (by omega)
  refine va_iald hx hb hK hP 1 0 rfl rfl (vp_in_iff.mpr ⟨by omega, by omega⟩) dX12_of_10 ?_
  refine lv_topi (fun t3 et3 => ?_)
  subst hQ
  have hP9 := hP.sub (ws' := (wd_5013416a h0 v0 r0 v1 v2 v3 v4 r1 r2 r3 r4 r5 r6 r7 v5 v6 r8 r9 r10 r11 v7 r12 r13 v8 v9 h1 r14 v10 v11 r15 v12 v13 r16 v14 w15 r17 v16 v17 r18 r19 r20 r21 r22 r23 v18 r24 r25 r26 v19 h1 g0 f20)) [0, 1] rfl
  have hD9 := hD.sub (ws' := (wd_5013416a h0 v0 r0 v1 v2 v3 v4 r1 r2 r3 r4 r5 r6 r7 v5 v6 r8 r9 r10 r11 v7 r12 r13 v8 v9 h1 r14 v10 v11 r15 v12 v13 r16 v14 w15 r17 v16 v17 r18 r19 r20 r21 r22 r23 v18 r24 r25 r26 v19 h1 g0 f20)) [0, 1] (by decide) rfl
  have hK9 := hK.sub (tys' := []) [] rfl
  exact W.iret (v := t3) hx hb hr (fun t ht hW => ⟨⟨t3, t3, rfl, rfl, ⟨by subst_vars; rfl, by rw [ht]; exact hP9, va_K.moved hW.alike hK9, hD9⟩⟩, hS.F ht⟩) hS.2.2 dX12_of_11
def q_X12_ripeOnes : List Cond := .code yX12_ripeOnes cX12_ripeOnes 3 (some .int) :: (([.code yX12_isThere cX12_isThere 2 (some .boolean), .code yX12_in cX12_in 3 (some .boolean), .initialized RX12, .static yX12_in, .methodLink RX12 217 yX12_in, .code yX12_of cX12_of 3 (some .int), .fieldLink RX12 52 "LeftArgumentsModel" "now" "[I", .instanceMethod yX12_of, .selects RX12 yX12_of yX12_of, .methodLink RX12 287 yX12_of, .instanceMethod yX12_isThere, .selects RX12 yX12_isThere yX12_isThere, .methodLink RX12 290 yX12_isThere] : List Cond) ++ wsX120)
set_option maxRecDepth 20000 in
theorem g_X12_ripeOnes_0 : GoodIn q_X12_ripeOnes (wsV RX12 290 RX12 yX12_isThere q_X12_isThere) := goodIn_app (goodIn_r _ [13, 11, 12, 3] rfl (by decide +kernel)) (goodIn_ca (goodIn_r (.code yX12_isThere cX12_isThere 2 (some .boolean) :: [.code yX12_in cX12_in 3 (some .boolean), .initialized RX12, .static yX12_in, .methodLink RX12 217 yX12_in, .code yX12_of cX12_of 3 (some .int), .fieldLink RX12 52 "LeftArgumentsModel" "now" "[I", .instanceMethod yX12_of, .selects RX12 yX12_of yX12_of, .methodLink RX12 287 yX12_of]) [1, 2, 3, 4, 5, 6, 7, 8, 9, 10] rfl (by decide +kernel)) (goodIn_sub (fun _ h => List.mem_cons_of_mem _ (List.mem_append_right _ h)) gwX12))
set_option maxRecDepth 20000 in
theorem g_X12_ripeOnes_1 : GoodIn q_X12_ripeOnes (wsV RX12 287 RX12 yX12_of q_X12_of_5) := goodIn_app (goodIn_r _ [10, 8, 9, 3] rfl (by decide +kernel)) (goodIn_ca (goodIn_r (.code yX12_of cX12_of 3 (some .int) :: [.fieldLink RX12 52 "LeftArgumentsModel" "now" "[I"]) [6, 7] rfl (by decide +kernel)) (goodIn_sub (fun _ h => List.mem_cons_of_mem _ (List.mem_append_right _ h)) gwX12))
set_option maxHeartbeats 4000000 in
set_option maxRecDepth 100000 in
theorem k_X12_ripeOnes (l : Launch) (dC : Nat → ClassId) (dI : Nat → Nat → Nat) (h0 : Nat) (h1 : Nat) (v0 : Int32) (r0 : Nat) (v1 : Int32) (v2 : Int32) (v3 : Int32) (v4 : Int32) (r1 : Nat) (r2 : Nat) (r3 : Nat) (r4 : Nat) (r5 : Nat) (r6 : Nat) (r7 : Nat) (v5 : Int32) (v6 : Int32) (r8 : Nat) (r9 : Nat) (r10 : Nat) (r11 : Nat) (v7 : Int32) (r12 : Nat) (r13 : Nat) (v8 : Int32) (v9 : Int32) (r14 : Nat) (v10 : Int32) (v11 : Int32) (r15 : Nat) (v12 : Int32) (v13 : Int32) (r16 : Nat) (v14 : Int32) (w15 : Int64) (r17 : Nat) (v16 : Int32) (v17 : Int32) (r18 : Nat) (r19 : Nat) (r20 : Nat) (r21 : Nat) (r22 : Nat) (r23 : Nat) (v18 : Int32) (r24 : Nat) (r25 : Nat) (r26 : Nat) (v19 : Int32) (g0 : ClassId) (f20 : Nat → Int32) (i_v1 : 0 ≤ v1.toInt ∧ v1.toInt ≤ 240) (i_v5 : 0 ≤ v5.toInt ∧ v5.toInt ≤ 4) (i_v6 : 0 ≤ v6.toInt ∧ v6.toInt ≤ 4) (i_v7 : 0 ≤ v7.toInt ∧ v7.toInt ≤ 8) (i_v8 : 0 ≤ v8.toInt ∧ v8.toInt ≤ 8) (i_v9 : 0 ≤ v9.toInt ∧ v9.toInt ≤ 1) (i_v10 : -1 ≤ v10.toInt ∧ v10.toInt ≤ 3) (i_v14 : 0 ≤ v14.toInt ∧ v14.toInt ≤ 40) (i_v18 : 0 ≤ v18.toInt ∧ v18.toInt ≤ 10) (i_v19 : 0 ≤ v19.toInt ∧ v19.toInt ≤ 1) (ia_f20 : (pm_NW f20)) (sz : Nat) : Met l yX12_ripeOnes q_X12_ripeOnes ({ frames := 2, cells := 0, slots := 0, locals := 43 }) (va_Pc [.ref h0] (fun U => U.heap.size = sz ∧ va_P (dC, dI) vwCl (wd_5013416a h0 v0 r0 v1 v2 v3 v4 r1 r2 r3 r4 r5 r6 r7 v5 v6 r8 r9 r10 r11 v7 r12 r13 v8 v9 h1 r14 v10 v11 r15 v12 v13 r16 v14 w15 r17 v16 v17 r18 r19 r20 r21 r22 r23 v18 r24 r25 r26 v19 h1 g0 f20) U.heap ∧ va_K (dC, dI) vwCl [(g0, .int)] U ∧ va_D (fun _ => True) (wd_5013416a h0 v0 r0 v1 v2 v3 v4 r1 r2 r3 r4 r5 r6 r7 v5 v6 r8 r9 r10 r11 v7 r12 r13 v8 v9 h1 r14 v10 v11 r15 v12 v13 r16 v14 w15 r17 v16 v17 r18 r19 r20 r21 r22 r23 v18 r24 r25 r26 v19 h1 g0 f20))) (va_Qi (fun (r : Int32) (r9 : Int32) => r9 = r) (fun (r : Int32) (t : State) => (va_P (dC, dI) vwCl (wd_5013416a h0 v0 r0 v1 v2 v3 v4 r1 r2 r3 r4 r5 r6 r7 v5 v6 r8 r9 r10 r11 v7 r12 r13 v8 v9 h1 r14 v10 v11 r15 v12 v13 r16 v14 w15 r17 v16 v17 r18 r19 r20 r21 r22 r23 v18 r24 r25 r26 v19 h1 g0 f20) t.heap ∧ va_K (dC, dI) vwCl [] t ∧ va_D (va_A (wd_5013416a h0 v0 r0 v1 v2 v3 v4 r1 r2 r3 r4 r5 r6 r7 v5 v6 r8 r9 r10 r11 v7 r12 r13 v8 v9 h1 r14 v10 v11 r15 v12 v13 r16 v14 w15 r17 v16 v17 r18 r19 r20 r21 r22 r23 v18 r24 r25 r26 v19 h1 g0 f20) sz) (wd_5013416a h0 v0 r0 v1 v2 v3 v4 r1 r2 r3 r4 r5 r6 r7 v5 v6 r8 r9 r10 r11 v7 r12 r13 v8 v9 h1 r14 v10 v11 r15 v12 v13 r16 v14 w15 r17 v16 v17 r18 r19 r20 r21 r22 r23 v18 r24 r25 r26 v19 h1 g0 f20))) (va_A (wd_5013416a h0 v0 r0 v1 v2 v3 v4 r1 r2 r3 r4 r5 r6 r7 v5 v6 r8 r9 r10 r11 v7 r12 r13 v8 v9 h1 r14 v10 v11 r15 v12 v13 r16 v14 w15 r17 v16 v17 r18 r19 r20 r21 r22 r23 v18 r24 r25 r26 v19 h1 g0 f20) sz)) 0 0 (va_A (wd_5013416a h0 v0 r0 v1 v2 v3 v4 r1 r2 r3 r4 r5 r6 r7 v5 v6 r8 r9 r10 r11 v7 r12 r13 v8 v9 h1 r14 v10 v11 r15 v12 v13 r16 v14 w15 r17 v16 v17 r18 r19 r20 r21 r22 r23 v18 r24 r25 r26 v19 h1 g0 f20) sz) := by
  refine Met.ofW (cc := cX12_ripeOnes) (maxL := 3) (ret := (some .int)) (by decide) rfl ?_
  intro p e s m args below meth c s₁ B hml hv
  obtain ⟨i_v1a, i_v1b⟩ := i_v1
  obtain ⟨i_v5a, i_v5b⟩ := i_v5
  obtain ⟨i_v6a, i_v6b⟩ := i_v6
  obtain ⟨i_v7a, i_v7b⟩ := i_v7
  obtain ⟨i_v8a, i_v8b⟩ := i_v8
  obtain ⟨i_v9a, i_v9b⟩ := i_v9
  obtain ⟨i_v10a, i_v10b⟩ := i_v10
  obtain ⟨i_v14a, i_v14b⟩ := i_v14
  obtain ⟨i_v18a, i_v18b⟩ := i_v18
  obtain ⟨i_v19a, i_v19b⟩ := i_v19
  obtain ⟨rfl, hsz, hP, hK, hD0⟩ := hv
  have hx := B.exec
  have hb := B.bytes
  have hr := B.returns
  have hts := atoms_spec (ws := q_X12_ripeOnes) B.pre
  have hown : s.vm.findClass RX12 = some m.cls := findClass_of_methodNamed B.named
  have hlocks := B.notSynchronized
  subst hsz
  have hD := hD0.self (sz := s.heap.size)
  generalize hAe : va_A (wd_5013416a h0 v0 r0 v1 v2 v3 v4 r1 r2 r3 r4 r5 r6 r7 v5 v6 r8 r9 r10 r11 v7 r12 r13 v8 v9 h1 r14 v10 v11 r15 v12 v13 r16 v14 w15 r17 v16 v17 r18 r19 r20 r21 r22 r23 v18 r24 r25 r26 v19 h1 g0 f20) s.heap.size = A at hD ⊢
  have hA : ∀ q : Nat, s.heap.size ≤ q → A q := fun q h => by rw [← hAe]; exact Or.inr h
  have hS : va_S A s.heap s.heap [] := va_S.rf
  generalize hQ : (MQ below _ _ s 0 0 A) = Q
  have hl := lv_entry ([.ref h0]) (n := 3) (Nat.le_of_ble_eq_true rfl)
  rw [lg_entry_eq]
  generalize (lg_sl ([.ref h0]) ++ List.replicate (3 - (lg_sl ([.ref h0])).length) Slot.unset).toArray = ls at hl ⊢
  have hl : lv_has ls 3 [(0, .ref h0)] := hl
  obtain ⟨H, hH⟩ : ∃ H : Heap, H = s.heap := ⟨_, rfl⟩
  obtain ⟨locs, hlocs⟩ : ∃ y : List Loc, y = [] := ⟨_, rfl⟩
  have hS : va_S A s.heap H locs := by rw [hH, hlocs]; exact va_S.rf
  have hP : va_P (dC, dI) vwCl (wd_5013416a h0 v0 r0 v1 v2 v3 v4 r1 r2 r3 r4 r5 r6 r7 v5 v6 r8 r9 r10 r11 v7 r12 r13 v8 v9 h1 r14 v10 v11 r15 v12 v13 r16 v14 w15 r17 v16 v17 r18 r19 r20 r21 r22 r23 v18 r24 r25 r26 v19 h1 g0 f20) H := by rw [hH]; exact hP
  rw [← hH, ← hlocs]
  refine lv_iconst (v := 0) hx hb dX12_ripeOnes_0 (by decide) ?_
  refine lv_istore_n (lv' := [(1, .int 0), (0, .ref h0)]) hx hb dX12_ripeOnes_1 rfl hl (by decide) rfl (fun ls hl => ?_)
  refine lv_iconst (v := 0) hx hb dX12_ripeOnes_2 (by decide) ?_
  refine lv_istore_n (lv' := [(2, .int 0), (1, .int 0), (0, .ref h0)]) hx hb dX12_ripeOnes_3 rfl hl (by decide) rfl (fun ls hl => ?_)
  have hL17 : ∀ (n9 : Nat), ∀ (x13 : Int32) (x14 : Int32) (H : Heap) (locs : List Loc) (ls : Array Slot), 0 ≤ x13.toInt → x13.toInt ≤ 8 → (8 - x13.toInt).toNat < n9 → va_P (dC, dI) vwCl (wd_5013416a h0 v0 r0 v1 v2 v3 v4 r1 r2 r3 r4 r5 r6 r7 v5 v6 r8 r9 r10 r11 v7 r12 r13 v8 v9 h1 r14 v10 v11 r15 v12 v13 r16 v14 w15 r17 v16 v17 r18 r19 r20 r21 r22 r23 v18 r24 r25 r26 v19 h1 g0 f20) H → va_D A (wd_5013416a h0 v0 r0 v1 v2 v3 v4 r1 r2 r3 r4 r5 r6 r7 v5 v6 r8 r9 r10 r11 v7 r12 r13 v8 v9 h1 r14 v10 v11 r15 v12 v13 r16 v14 w15 r17 v16 v17 r18 r19 r20 r21 r22 r23 v18 r24 r25 r26 v19 h1 g0 f20) → va_S A s.heap H locs → lv_has ls 3 [(2, .int x13), (1, .int x14), (0, .ref h0)] → W p l e ({ frames := 2, cells := 0, slots := 0, locals := 43 }) s m ([.ref h0] : List Value).toArray below meth c H locs 0 0 Q (F0 m 4 ls []) := by
    intro n9
    induction n9 with
    | zero => intro x13 x14 H locs ls qa_x13 qb_x13 hm9 hP hD hS hl; exact absurd hm9 (Nat.not_lt_zero _)
    | succ n9 ih_hL17 =>
      intro x13 x14 H locs ls qa_x13 qb_x13 hm9 hP hD hS hl
      refine lv_iload_n hx hb dX12_ripeOnes_4 rfl (lv_at hl 0 rfl) ?_
      refine lv_bipush (v := 8) hx hb dX12_ripeOnes_5 (by decide) ?_
      refine lv_icmp_ge (tgt := 45) hx hb dX12_ripeOnes_7 (by decide) (fun c18 => ?_) (fun c18 => ?_)
      · skip
        have fc18 : 8 ≤ x13.toInt := Int32.le_iff_toInt_le.mp c18
        refine lv_iload_n hx hb dX12_ripeOnes_45 rfl (lv_at hl 1 rfl) ?_
        subst hQ
        have hP9 := hP.sub (ws' := (wd_5013416a h0 v0 r0 v1 v2 v3 v4 r1 r2 r3 r4 r5 r6 r7 v5 v6 r8 r9 r10 r11 v7 r12 r13 v8 v9 h1 r14 v10 v11 r15 v12 v13 r16 v14 w15 r17 v16 v17 r18 r19 r20 r21 r22 r23 v18 r24 r25 r26 v19 h1 g0 f20)) [0, 1] rfl
        have hD9 := hD.sub (ws' := (wd_5013416a h0 v0 r0 v1 v2 v3 v4 r1 r2 r3 r4 r5 r6 r7 v5 v6 r8 r9 r10 r11 v7 r12 r13 v8 v9 h1 r14 v10 v11 r15 v12 v13 r16 v14 w15 r17 v16 v17 r18 r19 r20 r21 r22 r23 v18 r24 r25 r26 v19 h1 g0 f20)) [0, 1] (by decide) rfl
        have hK9 := hK.sub (tys' := []) [] rfl
        exact W.iret (v := x14) hx hb hr (fun t ht hW => ⟨⟨x14, x14, rfl, rfl, ⟨by rw [ht]; exact hP9, va_K.moved hW.alike hK9, hD9⟩⟩, hS.F ht⟩) hS.2.2 dX12_ripeOnes_46
      · skip
        have fc18 : ¬ (8 ≤ x13.toInt) := fun h9 => c18 (Int32.le_iff_toInt_le.mpr h9)
        refine lv_iload_n hx hb dX12_ripeOnes_10 rfl (lv_at hl 1 rfl) ?_
        refine lv_aload_n hx hb dX12_ripeOnes_11 rfl (lv_at hl 2 rfl) ?_
        refine lv_iload_n hx hb dX12_ripeOnes_12 rfl (lv_at hl 0 rfl) ?_
        have hPc := hP.sub (ws' := (wd_5013416a h0 v0 r0 v1 v2 v3 v4 r1 r2 r3 r4 r5 r6 r7 v5 v6 r8 r9 r10 r11 v7 r12 r13 v8 v9 h1 r14 v10 v11 r15 v12 v13 r16 v14 w15 r17 v16 v17 r18 r19 r20 r21 r22 r23 v18 r24 r25 r26 v19 h1 g0 f20)) [0, 1] rfl
        have hDc := hD.sub (ws' := (wd_5013416a h0 v0 r0 v1 v2 v3 v4 r1 r2 r3 r4 r5 r6 r7 v5 v6 r8 r9 r10 r11 v7 r12 r13 v8 v9 h1 r14 v10 v11 r15 v12 v13 r16 v14 w15 r17 v16 v17 r18 r19 r20 r21 r22 r23 v18 r24 r25 r26 v19 h1 g0 f20)) [0, 1] (by decide) rfl
        have hKc := hK.sub (tys' := [(g0, .int)]) [0] rfl
        have hFc := va_free (wc := (wd_5013416a h0 v0 r0 v1 v2 v3 v4 r1 r2 r3 r4 r5 r6 r7 v5 v6 r8 r9 r10 r11 v7 r12 r13 v8 v9 h1 r14 v10 v11 r15 v12 v13 r16 v14 w15 r17 v16 v17 r18 r19 r20 r21 r22 r23 v18 r24 r25 r26 v19 h1 g0 f20)) hD hS hA [0, 1] rfl
        refine va_calli (va_runV (As := [.int x13]) (rest := [.int x14]) ⟨hx, hb, hml, hown, hts⟩ (k_X12_isThere l dC dI h0 h1 v0 r0 v1 v2 v3 v4 r1 r2 r3 r4 r5 r6 r7 v5 v6 r8 r9 r10 r11 v7 r12 r13 v8 v9 r14 v10 v11 r15 v12 v13 r16 v14 w15 r17 v16 v17 r18 r19 r20 r21 r22 r23 v18 r24 r25 r26 v19 g0 f20 x13 ⟨i_v1a, i_v1b⟩ ⟨i_v5a, i_v5b⟩ ⟨i_v6a, i_v6b⟩ ⟨i_v7a, i_v7b⟩ ⟨i_v8a, i_v8b⟩ ⟨i_v9a, i_v9b⟩ ⟨i_v10a, i_v10b⟩ ⟨i_v14a, i_v14b⟩ ⟨i_v18a, i_v18b⟩ ⟨i_v19a, i_v19b⟩ ia_f20.1 H.size) (cwV 1 hts g_X12_ripeOnes_0 rfl rfl rfl (by decide +kernel) ⟨Nat.le_of_ble_eq_true rfl, Nat.le_of_ble_eq_true rfl⟩) (pv_PV12 hPc hKc hDc (q0 := 0) rfl) rfl rfl hl.1 rfl (lv_room (Nat.le_of_ble_eq_true rfl)) dX12_ripeOnes_13 ⟨Nat.le_of_ble_eq_true rfl, Nat.le_of_ble_eq_true rfl⟩) hS (fun q _ h => hFc q h) hFc (fun ra19 u t H1 locs ht hvm hwra19 hB hz1 hk1 hS => ?_)
        try rw [hwra19] at hB
        obtain ⟨pt0_ra19, pt1_ra19, pt2_ra19, pt3_ra19, pt4_ra19, pt5_ra19, hP1, hK1, hD1⟩ := hB
        rw [ht] at hP1
        obtain ⟨hP2, hD2⟩ := va_join (wr := []) (w1 := (wd_5013416a h0 v0 r0 v1 v2 v3 v4 r1 r2 r3 r4 r5 r6 r7 v5 v6 r8 r9 r10 r11 v7 r12 r13 v8 v9 h1 r14 v10 v11 r15 v12 v13 r16 v14 w15 r17 v16 v17 r18 r19 r20 r21 r22 r23 v18 r24 r25 r26 v19 h1 g0 f20)) hP hD [0, 1] [] rfl rfl (by decide) (by decide) hk1 hFc hP1 hD1
        clear hP hD hPc hDc hKc hFc hP1 hK1 hD1 hk1 hz1
        generalize H1 = H at hP2 hS ⊢
        have hP : va_P (dC, dI) vwCl (wd_5013416a h0 v0 r0 v1 v2 v3 v4 r1 r2 r3 r4 r5 r6 r7 v5 v6 r8 r9 r10 r11 v7 r12 r13 v8 v9 h1 r14 v10 v11 r15 v12 v13 r16 v14 w15 r17 v16 v17 r18 r19 r20 r21 r22 r23 v18 r24 r25 r26 v19 h1 g0 f20) H := hP2
        have hD : va_D A (wd_5013416a h0 v0 r0 v1 v2 v3 v4 r1 r2 r3 r4 r5 r6 r7 v5 v6 r8 r9 r10 r11 v7 r12 r13 v8 v9 h1 r14 v10 v11 r15 v12 v13 r16 v14 w15 r17 v16 v17 r18 r19 r20 r21 r22 r23 v18 r24 r25 r26 v19 h1 g0 f20) := hD2
        clear hP2 hD2
        have wra19 : ra19.toInt = 0 → ¬ f20 (pm_I x13 7) = 1 := fun h9 => pt5_ra19 h9 (by omega) (by omega)
        have hJ21 : ∀ (x20 : Int32) (H : Heap) (locs : List Loc) (ls : Array Slot), va_P (dC, dI) vwCl (wd_5013416a h0 v0 r0 v1 v2 v3 v4 r1 r2 r3 r4 r5 r6 r7 v5 v6 r8 r9 r10 r11 v7 r12 r13 v8 v9 h1 r14 v10 v11 r15 v12 v13 r16 v14 w15 r17 v16 v17 r18 r19 r20 r21 r22 r23 v18 r24 r25 r26 v19 h1 g0 f20) H → va_D A (wd_5013416a h0 v0 r0 v1 v2 v3 v4 r1 r2 r3 r4 r5 r6 r7 v5 v6 r8 r9 r10 r11 v7 r12 r13 v8 v9 h1 r14 v10 v11 r15 v12 v13 r16 v14 w15 r17 v16 v17 r18 r19 r20 r21 r22 r23 v18 r24 r25 r26 v19 h1 g0 f20) → va_S A s.heap H locs → lv_has ls 3 [(2, .int x13), (1, .int x14), (0, .ref h0)] → W p l e ({ frames := 2, cells := 0, slots := 0, locals := 43 }) s m ([.ref h0] : List Value).toArray below meth c H locs 0 0 Q (F0 m 37 ls [.int x20, .int x14]) := by
          intro x20 H locs ls hP hD hS hl
          refine lv_ior hx hb dX12_ripeOnes_37 ?_
          refine lv_topi (fun t22 et22 => ?_)
          refine lv_istore_n (lv' := [(1, .int t22), (2, .int x13), (0, .ref h0)]) hx hb dX12_ripeOnes_38 rfl hl (by decide) rfl (fun ls hl => ?_)
          obtain ⟨t23, et23⟩ : ∃ y : Int32, y = x13 + 1 := ⟨_, rfl⟩
          have gt23 : t23.toInt = x13.toInt + (1) := pv_add (a := x13.toInt) (b := (1)) et23 rfl (by decide) (by omega) (by omega)
          refine lv_iinc (v := t23) (lv' := [(2, .int t23), (1, .int t22), (0, .ref h0)]) hx hb dX12_ripeOnes_39 hl (k := 1) rfl (by rw [et23]; rfl) (by decide) rfl (fun ls hl => ?_)
          refine lv_goto (tgt := 4) hx hb dX12_ripeOnes_42 (by decide) ?_
          exact ih_hL17 t23 t22 H locs ls (by first | omega | decide) (by first | omega | decide) (by first | omega | (simp only [Int.toNat] at *; omega)) hP hD hS (lv_sub hl [0, 1, 2] rfl)
        refine lv_if_eq (tgt := 36) hx hb dX12_ripeOnes_16 (by decide) (fun c24 => ?_) (fun c24 => ?_)
        · skip
          have fc24 : ra19.toInt = 0 := congrArg Int32.toInt c24
          have q0wra19 := wra19 (by omega)
          refine lv_iconst (v := 0) hx hb dX12_ripeOnes_36 (by decide) ?_
          exact hJ21 0 H locs ls hP hD hS (lv_sub hl [0, 1, 2] rfl)
        · skip
          have fc24 : ¬ (ra19.toInt = 0) := fun h9 => c24 (Int32.toInt_inj.mp h9)
          have q1pt4_ra19 := pt4_ra19 (by omega)
          refine lv_aload_n hx hb dX12_ripeOnes_19 rfl (lv_at hl 2 rfl) ?_
          refine lv_iload_n hx hb dX12_ripeOnes_20 rfl (lv_at hl 0 rfl) ?_
          refine lv_iconst (v := 5) hx hb dX12_ripeOnes_21 (by decide) ?_
          have hPc := hP.sub (ws' := (wd_5013416a h0 v0 r0 v1 v2 v3 v4 r1 r2 r3 r4 r5 r6 r7 v5 v6 r8 r9 r10 r11 v7 r12 r13 v8 v9 h1 r14 v10 v11 r15 v12 v13 r16 v14 w15 r17 v16 v17 r18 r19 r20 r21 r22 r23 v18 r24 r25 r26 v19 h1 g0 f20)) [0, 1] rfl
          have hDc := hD.sub (ws' := (wd_5013416a h0 v0 r0 v1 v2 v3 v4 r1 r2 r3 r4 r5 r6 r7 v5 v6 r8 r9 r10 r11 v7 r12 r13 v8 v9 h1 r14 v10 v11 r15 v12 v13 r16 v14 w15 r17 v16 v17 r18 r19 r20 r21 r22 r23 v18 r24 r25 r26 v19 h1 g0 f20)) [0, 1] (by decide) rfl
          have hKc := hK.sub (tys' := [(g0, .int)]) [0] rfl
          have hFc := va_free (wc := (wd_5013416a h0 v0 r0 v1 v2 v3 v4 r1 r2 r3 r4 r5 r6 r7 v5 v6 r8 r9 r10 r11 v7 r12 r13 v8 v9 h1 r14 v10 v11 r15 v12 v13 r16 v14 w15 r17 v16 v17 r18 r19 r20 r21 r22 r23 v18 r24 r25 r26 v19 h1 g0 f20)) hD hS hA [0, 1] rfl
          refine va_calli (va_runV (As := [.int x13, .int 5]) (rest := [.int x14]) ⟨hx, hb, hml, hown, hts⟩ (k_X12_of_5 l dC dI h0 h1 v0 r0 v1 v2 v3 v4 r1 r2 r3 r4 r5 r6 r7 v5 v6 r8 r9 r10 r11 v7 r12 r13 v8 v9 r14 v10 v11 r15 v12 v13 r16 v14 w15 r17 v16 v17 r18 r19 r20 r21 r22 r23 v18 r24 r25 r26 v19 g0 f20 x13 ⟨i_v1a, i_v1b⟩ ⟨i_v5a, i_v5b⟩ ⟨i_v6a, i_v6b⟩ ⟨i_v7a, i_v7b⟩ ⟨i_v8a, i_v8b⟩ ⟨i_v9a, i_v9b⟩ ⟨i_v10a, i_v10b⟩ ⟨i_v14a, i_v14b⟩ ⟨i_v18a, i_v18b⟩ ⟨i_v19a, i_v19b⟩ ⟨qa_x13, by first | omega | decide⟩ ia_f20.1 H.size) (cwV 2 hts g_X12_ripeOnes_1 rfl rfl rfl (by decide +kernel) ⟨Nat.le_of_ble_eq_true rfl, Nat.le_of_ble_eq_true rfl⟩) (pv_PV12 hPc hKc hDc (q0 := 0) rfl) rfl rfl hl.1 rfl (lv_room (Nat.le_of_ble_eq_true rfl)) dX12_ripeOnes_22 ⟨Nat.le_of_ble_eq_true rfl, Nat.le_of_ble_eq_true rfl⟩) hS (fun q _ h => hFc q h) hFc (fun ra25 u t H1 locs ht hvm hwra25 hB hz1 hk1 hS => ?_)
          try rw [hwra25] at hB
          obtain ⟨pt0_ra25, hP1, hK1, hD1⟩ := hB
          rw [ht] at hP1
          obtain ⟨hP2, hD2⟩ := va_join (wr := []) (w1 := (wd_5013416a h0 v0 r0 v1 v2 v3 v4 r1 r2 r3 r4 r5 r6 r7 v5 v6 r8 r9 r10 r11 v7 r12 r13 v8 v9 h1 r14 v10 v11 r15 v12 v13 r16 v14 w15 r17 v16 v17 r18 r19 r20 r21 r22 r23 v18 r24 r25 r26 v19 h1 g0 f20)) hP hD [0, 1] [] rfl rfl (by decide) (by decide) hk1 hFc hP1 hD1
          clear hP hD hPc hDc hKc hFc hP1 hK1 hD1 hk1 hz1
          generalize H1 = H at hP2 hS ⊢
          have hP : va_P (dC, dI) vwCl (wd_5013416a h0 v0 r0 v1 v2 v3 v4 r1 r2 r3 r4 r5 r6 r7 v5 v6 r8 r9 r10 r11 v7 r12 r13 v8 v9 h1 r14 v10 v11 r15 v12 v13 r16 v14 w15 r17 v16 v17 r18 r19 r20 r21 r22 r23 v18 r24 r25 r26 v19 h1 g0 f20) H := hP2
          have hD : va_D A (wd_5013416a h0 v0 r0 v1 v2 v3 v4 r1 r2 r3 r4 r5 r6 r7 v5 v6 r8 r9 r10 r11 v7 r12 r13 v8 v9 h1 r14 v10 v11 r15 v12 v13 r16 v14 w15 r17 v16 v17 r18 r19 r20 r21 r22 r23 v18 r24 r25 r26 v19 h1 g0 f20) := hD2
          clear hP2 hD2
          refine lv_bipush (v := 7) hx hb dX12_ripeOnes_25 (by decide) ?_
          refine lv_icmp_lt (tgt := 36) hx hb dX12_ripeOnes_27 (by decide) (fun c26 => ?_) (fun c26 => ?_)
          · skip
            have fc26 : ra25.toInt < 7 := Int32.lt_iff_toInt_lt.mp c26
            refine lv_iconst (v := 0) hx hb dX12_ripeOnes_36 (by decide) ?_
            exact hJ21 0 H locs ls hP hD hS (lv_sub hl [0, 1, 2] rfl)
          · skip
            have fc26 : ¬ (ra25.toInt < 7) := fun h9 => c26 (Int32.lt_iff_toInt_lt.mpr h9)
            refine lv_iconst (v := 1) hx hb dX12_ripeOnes_30 (by decide) ?_
            refine lv_iload_n hx hb dX12_ripeOnes_31 rfl (lv_at hl 0 rfl) ?_
            refine lv_ishl hx hb dX12_ripeOnes_32 ?_
            refine lv_topi (fun t27 et27 => ?_)
            refine lv_goto (tgt := 37) hx hb dX12_ripeOnes_33 (by decide) ?_
            exact hJ21 t27 H locs ls hP hD hS (lv_sub hl [0, 1, 2] rfl)
  exact hL17 _ 0 0 H locs ls (by decide) (by decide) (Nat.lt_succ_self _) hP hD hS (lv_sub hl [0, 1, 2] rfl)
def q_X12_sizeOf : List Cond := .code yX12_sizeOf cX12_sizeOf 4 (some .int) :: (([.code yX12_has cX12_has 2 (some .boolean), .initialized RX12, .static yX12_has, .methodLink RX12 228 yX12_has, .code yX12_of cX12_of 3 (some .int), .fieldLink RX12 52 "LeftArgumentsModel" "now" "[I", .instanceMethod yX12_of, .selects RX12 yX12_of yX12_of, .methodLink RX12 287 yX12_of] : List Cond) ++ wsX120)
set_option maxRecDepth 20000 in
theorem g_X12_sizeOf_0 : GoodIn q_X12_sizeOf (va_wsS RX12 228 yX12_has q_X12_has) := goodIn_app (goodIn_r _ [4, 3, 2] rfl (by decide +kernel)) (goodIn_r (.code yX12_has cX12_has 2 (some .boolean) :: []) [1] rfl (by decide +kernel))
set_option maxRecDepth 20000 in
theorem g_X12_sizeOf_1 : GoodIn q_X12_sizeOf (wsV RX12 287 RX12 yX12_of q_X12_of_3) := goodIn_app (goodIn_r _ [9, 7, 8, 2] rfl (by decide +kernel)) (goodIn_ca (goodIn_r (.code yX12_of cX12_of 3 (some .int) :: [.fieldLink RX12 52 "LeftArgumentsModel" "now" "[I"]) [5, 6] rfl (by decide +kernel)) (goodIn_sub (fun _ h => List.mem_cons_of_mem _ (List.mem_append_right _ h)) gwX12))
set_option maxHeartbeats 4000000 in
set_option maxRecDepth 100000 in
theorem k_X12_sizeOf (l : Launch) (dC : Nat → ClassId) (dI : Nat → Nat → Nat) (h0 : Nat) (h1 : Nat) (v0 : Int32) (r0 : Nat) (v1 : Int32) (v2 : Int32) (v3 : Int32) (v4 : Int32) (r1 : Nat) (r2 : Nat) (r3 : Nat) (r4 : Nat) (r5 : Nat) (r6 : Nat) (r7 : Nat) (v5 : Int32) (v6 : Int32) (r8 : Nat) (r9 : Nat) (r10 : Nat) (r11 : Nat) (v7 : Int32) (r12 : Nat) (r13 : Nat) (v8 : Int32) (v9 : Int32) (r14 : Nat) (v10 : Int32) (v11 : Int32) (r15 : Nat) (v12 : Int32) (v13 : Int32) (r16 : Nat) (v14 : Int32) (w15 : Int64) (r17 : Nat) (v16 : Int32) (v17 : Int32) (r18 : Nat) (r19 : Nat) (r20 : Nat) (r21 : Nat) (r22 : Nat) (r23 : Nat) (v18 : Int32) (r24 : Nat) (r25 : Nat) (r26 : Nat) (v19 : Int32) (g0 : ClassId) (f20 : Nat → Int32) (v21 : Int32) (i_v1 : 0 ≤ v1.toInt ∧ v1.toInt ≤ 240) (i_v5 : 0 ≤ v5.toInt ∧ v5.toInt ≤ 4) (i_v6 : 0 ≤ v6.toInt ∧ v6.toInt ≤ 4) (i_v7 : 0 ≤ v7.toInt ∧ v7.toInt ≤ 8) (i_v8 : 0 ≤ v8.toInt ∧ v8.toInt ≤ 8) (i_v9 : 0 ≤ v9.toInt ∧ v9.toInt ≤ 1) (i_v10 : -1 ≤ v10.toInt ∧ v10.toInt ≤ 3) (i_v14 : 0 ≤ v14.toInt ∧ v14.toInt ≤ 40) (i_v18 : 0 ≤ v18.toInt ∧ v18.toInt ≤ 10) (i_v19 : 0 ≤ v19.toInt ∧ v19.toInt ≤ 1) (ia_f20 : (pm_NW f20)) (sz : Nat) : Met l yX12_sizeOf q_X12_sizeOf ({ frames := 1, cells := 0, slots := 0, locals := 22 }) (va_Pc [.ref h0, .int v21] (fun U => U.heap.size = sz ∧ va_P (dC, dI) vwCl (wd_5013416a h0 v0 r0 v1 v2 v3 v4 r1 r2 r3 r4 r5 r6 r7 v5 v6 r8 r9 r10 r11 v7 r12 r13 v8 v9 h1 r14 v10 v11 r15 v12 v13 r16 v14 w15 r17 v16 v17 r18 r19 r20 r21 r22 r23 v18 r24 r25 r26 v19 h1 g0 f20) U.heap ∧ va_K (dC, dI) vwCl [(g0, .int)] U ∧ va_D (fun _ => True) (wd_5013416a h0 v0 r0 v1 v2 v3 v4 r1 r2 r3 r4 r5 r6 r7 v5 v6 r8 r9 r10 r11 v7 r12 r13 v8 v9 h1 r14 v10 v11 r15 v12 v13 r16 v14 w15 r17 v16 v17 r18 r19 r20 r21 r22 r23 v18 r24 r25 r26 v19 h1 g0 f20))) (va_Qi (fun (r : Int32) (r9 : Int32) => r9 = r) (fun (r : Int32) (t : State) => (va_P (dC, dI) vwCl (wd_5013416a h0 v0 r0 v1 v2 v3 v4 r1 r2 r3 r4 r5 r6 r7 v5 v6 r8 r9 r10 r11 v7 r12 r13 v8 v9 h1 r14 v10 v11 r15 v12 v13 r16 v14 w15 r17 v16 v17 r18 r19 r20 r21 r22 r23 v18 r24 r25 r26 v19 h1 g0 f20) t.heap ∧ va_K (dC, dI) vwCl [] t ∧ va_D (va_A (wd_5013416a h0 v0 r0 v1 v2 v3 v4 r1 r2 r3 r4 r5 r6 r7 v5 v6 r8 r9 r10 r11 v7 r12 r13 v8 v9 h1 r14 v10 v11 r15 v12 v13 r16 v14 w15 r17 v16 v17 r18 r19 r20 r21 r22 r23 v18 r24 r25 r26 v19 h1 g0 f20) sz) (wd_5013416a h0 v0 r0 v1 v2 v3 v4 r1 r2 r3 r4 r5 r6 r7 v5 v6 r8 r9 r10 r11 v7 r12 r13 v8 v9 h1 r14 v10 v11 r15 v12 v13 r16 v14 w15 r17 v16 v17 r18 r19 r20 r21 r22 r23 v18 r24 r25 r26 v19 h1 g0 f20))) (va_A (wd_5013416a h0 v0 r0 v1 v2 v3 v4 r1 r2 r3 r4 r5 r6 r7 v5 v6 r8 r9 r10 r11 v7 r12 r13 v8 v9 h1 r14 v10 v11 r15 v12 v13 r16 v14 w15 r17 v16 v17 r18 r19 r20 r21 r22 r23 v18 r24 r25 r26 v19 h1 g0 f20) sz)) 0 0 (va_A (wd_5013416a h0 v0 r0 v1 v2 v3 v4 r1 r2 r3 r4 r5 r6 r7 v5 v6 r8 r9 r10 r11 v7 r12 r13 v8 v9 h1 r14 v10 v11 r15 v12 v13 r16 v14 w15 r17 v16 v17 r18 r19 r20 r21 r22 r23 v18 r24 r25 r26 v19 h1 g0 f20) sz) := by
  refine Met.ofW (cc := cX12_sizeOf) (maxL := 4) (ret := (some .int)) (by decide) rfl ?_
  intro p e s m args below meth c s₁ B hml hv
  obtain ⟨i_v1a, i_v1b⟩ := i_v1
  obtain ⟨i_v5a, i_v5b⟩ := i_v5
  obtain ⟨i_v6a, i_v6b⟩ := i_v6
  obtain ⟨i_v7a, i_v7b⟩ := i_v7
  obtain ⟨i_v8a, i_v8b⟩ := i_v8
  obtain ⟨i_v9a, i_v9b⟩ := i_v9
  obtain ⟨i_v10a, i_v10b⟩ := i_v10
  obtain ⟨i_v14a, i_v14b⟩ := i_v14
  obtain ⟨i_v18a, i_v18b⟩ := i_v18
  obtain ⟨i_v19a, i_v19b⟩ := i_v19
  obtain ⟨rfl, hsz, hP, hK, hD0⟩ := hv
  have hx := B.exec
  have hb := B.bytes
  have hr := B.returns
  have hts := atoms_spec (ws := q_X12_sizeOf) B.pre
  have hown : s.vm.findClass RX12 = some m.cls := findClass_of_methodNamed B.named
  have hlocks := B.notSynchronized
  subst hsz
  have hD := hD0.self (sz := s.heap.size)
  generalize hAe : va_A (wd_5013416a h0 v0 r0 v1 v2 v3 v4 r1 r2 r3 r4 r5 r6 r7 v5 v6 r8 r9 r10 r11 v7 r12 r13 v8 v9 h1 r14 v10 v11 r15 v12 v13 r16 v14 w15 r17 v16 v17 r18 r19 r20 r21 r22 r23 v18 r24 r25 r26 v19 h1 g0 f20) s.heap.size = A at hD ⊢
  have hA : ∀ q : Nat, s.heap.size ≤ q → A q := fun q h => by rw [← hAe]; exact Or.inr h
  have hS : va_S A s.heap s.heap [] := va_S.rf
  generalize hQ : (MQ below _ _ s 0 0 A) = Q
  have hl := lv_entry ([.ref h0, .int v21]) (n := 4) (Nat.le_of_ble_eq_true rfl)
  rw [lg_entry_eq]
  generalize (lg_sl ([.ref h0, .int v21]) ++ List.replicate (4 - (lg_sl ([.ref h0, .int v21])).length) Slot.unset).toArray = ls at hl ⊢
  have hl : lv_has ls 4 [(0, .ref h0), (1, .int v21)] := hl
  obtain ⟨H, hH⟩ : ∃ H : Heap, H = s.heap := ⟨_, rfl⟩
  obtain ⟨locs, hlocs⟩ : ∃ y : List Loc, y = [] := ⟨_, rfl⟩
  have hS : va_S A s.heap H locs := by rw [hH, hlocs]; exact va_S.rf
  have hP : va_P (dC, dI) vwCl (wd_5013416a h0 v0 r0 v1 v2 v3 v4 r1 r2 r3 r4 r5 r6 r7 v5 v6 r8 r9 r10 r11 v7 r12 r13 v8 v9 h1 r14 v10 v11 r15 v12 v13 r16 v14 w15 r17 v16 v17 r18 r19 r20 r21 r22 r23 v18 r24 r25 r26 v19 h1 g0 f20) H := by rw [hH]; exact hP
  rw [← hH, ← hlocs]
  refine lv_iconst (v := 0) hx hb dX12_sizeOf_0 (by decide) ?_
  refine lv_istore_n (lv' := [(2, .int 0), (0, .ref h0), (1, .int v21)]) hx hb dX12_sizeOf_1 rfl hl (by decide) rfl (fun ls hl => ?_)
  refine lv_iconst (v := 0) hx hb dX12_sizeOf_2 (by decide) ?_
  refine lv_istore_n (lv' := [(3, .int 0), (2, .int 0), (0, .ref h0), (1, .int v21)]) hx hb dX12_sizeOf_3 rfl hl (by decide) rfl (fun ls hl => ?_)
  have hL11 : ∀ (n9 : Nat), ∀ (x7 : Int32) (x8 : Int32) (H : Heap) (locs : List Loc) (ls : Array Slot), 0 ≤ x7.toInt → x7.toInt ≤ 8 → (8 - x7.toInt).toNat < n9 → va_P (dC, dI) vwCl (wd_5013416a h0 v0 r0 v1 v2 v3 v4 r1 r2 r3 r4 r5 r6 r7 v5 v6 r8 r9 r10 r11 v7 r12 r13 v8 v9 h1 r14 v10 v11 r15 v12 v13 r16 v14 w15 r17 v16 v17 r18 r19 r20 r21 r22 r23 v18 r24 r25 r26 v19 h1 g0 f20) H → va_D A (wd_5013416a h0 v0 r0 v1 v2 v3 v4 r1 r2 r3 r4 r5 r6 r7 v5 v6 r8 r9 r10 r11 v7 r12 r13 v8 v9 h1 r14 v10 v11 r15 v12 v13 r16 v14 w15 r17 v16 v17 r18 r19 r20 r21 r22 r23 v18 r24 r25 r26 v19 h1 g0 f20) → va_S A s.heap H locs → lv_has ls 4 [(3, .int x7), (2, .int x8), (0, .ref h0), (1, .int v21)] → W p l e ({ frames := 1, cells := 0, slots := 0, locals := 22 }) s m ([.ref h0, .int v21] : List Value).toArray below meth c H locs 0 0 Q (F0 m 4 ls []) := by
    intro n9
    induction n9 with
    | zero => intro x7 x8 H locs ls qa_x7 qb_x7 hm9 hP hD hS hl; exact absurd hm9 (Nat.not_lt_zero _)
    | succ n9 ih_hL11 =>
      intro x7 x8 H locs ls qa_x7 qb_x7 hm9 hP hD hS hl
      refine lv_iload_n hx hb dX12_sizeOf_4 rfl (lv_at hl 0 rfl) ?_
      refine lv_bipush (v := 8) hx hb dX12_sizeOf_5 (by decide) ?_
      refine lv_icmp_ge (tgt := 37) hx hb dX12_sizeOf_7 (by decide) (fun c12 => ?_) (fun c12 => ?_)
      · skip
        have fc12 : 8 ≤ x7.toInt := Int32.le_iff_toInt_le.mp c12
        refine lv_iload_n hx hb dX12_sizeOf_37 rfl (lv_at hl 1 rfl) ?_
        subst hQ
        have hP9 := hP.sub (ws' := (wd_5013416a h0 v0 r0 v1 v2 v3 v4 r1 r2 r3 r4 r5 r6 r7 v5 v6 r8 r9 r10 r11 v7 r12 r13 v8 v9 h1 r14 v10 v11 r15 v12 v13 r16 v14 w15 r17 v16 v17 r18 r19 r20 r21 r22 r23 v18 r24 r25 r26 v19 h1 g0 f20)) [0, 1] rfl
        have hD9 := hD.sub (ws' := (wd_5013416a h0 v0 r0 v1 v2 v3 v4 r1 r2 r3 r4 r5 r6 r7 v5 v6 r8 r9 r10 r11 v7 r12 r13 v8 v9 h1 r14 v10 v11 r15 v12 v13 r16 v14 w15 r17 v16 v17 r18 r19 r20 r21 r22 r23 v18 r24 r25 r26 v19 h1 g0 f20)) [0, 1] (by decide) rfl
        have hK9 := hK.sub (tys' := []) [] rfl
        exact W.iret (v := x8) hx hb hr (fun t ht hW => ⟨⟨x8, x8, rfl, rfl, ⟨by rw [ht]; exact hP9, va_K.moved hW.alike hK9, hD9⟩⟩, hS.F ht⟩) hS.2.2 dX12_sizeOf_38
      · skip
        have fc12 : ¬ (8 ≤ x7.toInt) := fun h9 => c12 (Int32.le_iff_toInt_le.mpr h9)
        refine lv_iload_n hx hb dX12_sizeOf_10 rfl (lv_at hl 1 rfl) ?_
        refine lv_iload_n hx hb dX12_sizeOf_11 rfl (lv_at hl 3 rfl) ?_
        refine lv_iload_n hx hb dX12_sizeOf_12 rfl (lv_at hl 0 rfl) ?_
        have hPc := hP.sub (ws' := []) [] rfl
        have hDc := hD.sub (ws' := []) [] (by decide) rfl
        have hKc := hK.sub (tys' := []) [] rfl
        have hFc := va_free (wc := []) hD hS hA [] rfl
        refine va_calli (va_runS (As := [.int v21, .int x7]) (rest := [.int x8]) ⟨hx, hb, hml, hown, hts⟩ (k_X12_has l dC dI v21 x7  H.size) (va_cwS 2 hts g_X12_sizeOf_0 rfl rfl rfl (by decide +kernel) ⟨Nat.le_of_ble_eq_true rfl, Nat.le_of_ble_eq_true rfl⟩) (pv_PS hPc hKc hDc) rfl rfl hl.1 rfl (lv_room (Nat.le_of_ble_eq_true rfl)) dX12_sizeOf_13 ⟨Nat.le_of_ble_eq_true rfl, Nat.le_of_ble_eq_true rfl⟩) hS (fun q _ h => hFc q h) hFc (fun ra13 u t H1 locs ht hvm hwra13 hB hz1 hk1 hS => ?_)
        try rw [hwra13] at hB
        obtain ⟨pt0_ra13, pt1_ra13, pt2_ra13, pt3_ra13, hP1, hK1, hD1⟩ := hB
        rw [ht] at hP1
        obtain ⟨hP2, hD2⟩ := va_join (wr := (wd_5013416a h0 v0 r0 v1 v2 v3 v4 r1 r2 r3 r4 r5 r6 r7 v5 v6 r8 r9 r10 r11 v7 r12 r13 v8 v9 h1 r14 v10 v11 r15 v12 v13 r16 v14 w15 r17 v16 v17 r18 r19 r20 r21 r22 r23 v18 r24 r25 r26 v19 h1 g0 f20)) (w1 := []) hP hD [] [0, 1] rfl rfl (by decide) (by decide) hk1 hFc hP1 hD1
        clear hP hD hPc hDc hKc hFc hP1 hK1 hD1 hk1 hz1
        generalize H1 = H at hP2 hS ⊢
        have hP : va_P (dC, dI) vwCl (wd_5013416a h0 v0 r0 v1 v2 v3 v4 r1 r2 r3 r4 r5 r6 r7 v5 v6 r8 r9 r10 r11 v7 r12 r13 v8 v9 h1 r14 v10 v11 r15 v12 v13 r16 v14 w15 r17 v16 v17 r18 r19 r20 r21 r22 r23 v18 r24 r25 r26 v19 h1 g0 f20) H := hP2
        have hD : va_D A (wd_5013416a h0 v0 r0 v1 v2 v3 v4 r1 r2 r3 r4 r5 r6 r7 v5 v6 r8 r9 r10 r11 v7 r12 r13 v8 v9 h1 r14 v10 v11 r15 v12 v13 r16 v14 w15 r17 v16 v17 r18 r19 r20 r21 r22 r23 v18 r24 r25 r26 v19 h1 g0 f20) := hD2
        clear hP2 hD2
        have hJ15 : ∀ (x14 : Int32) (H : Heap) (locs : List Loc) (ls : Array Slot), 0 ≤ x14.toInt → x14.toInt ≤ 99 → va_P (dC, dI) vwCl (wd_5013416a h0 v0 r0 v1 v2 v3 v4 r1 r2 r3 r4 r5 r6 r7 v5 v6 r8 r9 r10 r11 v7 r12 r13 v8 v9 h1 r14 v10 v11 r15 v12 v13 r16 v14 w15 r17 v16 v17 r18 r19 r20 r21 r22 r23 v18 r24 r25 r26 v19 h1 g0 f20) H → va_D A (wd_5013416a h0 v0 r0 v1 v2 v3 v4 r1 r2 r3 r4 r5 r6 r7 v5 v6 r8 r9 r10 r11 v7 r12 r13 v8 v9 h1 r14 v10 v11 r15 v12 v13 r16 v14 w15 r17 v16 v17 r18 r19 r20 r21 r22 r23 v18 r24 r25 r26 v19 h1 g0 f20) → va_S A s.heap H locs → lv_has ls 4 [(3, .int x7), (2, .int x8), (0, .ref h0), (1, .int v21)] → W p l e ({ frames := 1, cells := 0, slots := 0, locals := 22 }) s m ([.ref h0, .int v21] : List Value).toArray below meth c H locs 0 0 Q (F0 m 29 ls [.int x14, .int x8]) := by
          intro x14 H locs ls qa_x14 qb_x14 hP hD hS hl
          refine lv_iadd hx hb dX12_sizeOf_29 ?_
          refine lv_topi (fun t16 et16 => ?_)
          refine lv_istore_n (lv' := [(2, .int t16), (3, .int x7), (0, .ref h0), (1, .int v21)]) hx hb dX12_sizeOf_30 rfl hl (by decide) rfl (fun ls hl => ?_)
          obtain ⟨t17, et17⟩ : ∃ y : Int32, y = x7 + 1 := ⟨_, rfl⟩
          have gt17 : t17.toInt = x7.toInt + (1) := pv_add (a := x7.toInt) (b := (1)) et17 rfl (by decide) (by omega) (by omega)
          refine lv_iinc (v := t17) (lv' := [(3, .int t17), (2, .int t16), (0, .ref h0), (1, .int v21)]) hx hb dX12_sizeOf_31 hl (k := 1) rfl (by rw [et17]; rfl) (by decide) rfl (fun ls hl => ?_)
          refine lv_goto (tgt := 4) hx hb dX12_sizeOf_34 (by decide) ?_
          exact ih_hL11 t17 t16 H locs ls (by first | omega | decide) (by first | omega | decide) (by first | omega | (simp only [Int.toNat] at *; omega)) hP hD hS (lv_sub hl [0, 1, 2, 3] rfl)
        refine lv_if_eq (tgt := 28) hx hb dX12_sizeOf_16 (by decide) (fun c18 => ?_) (fun c18 => ?_)
        · skip
          have fc18 : ra13.toInt = 0 := congrArg Int32.toInt c18
          have q0pt3_ra13 := pt3_ra13 (by omega)
          refine lv_iconst (v := 0) hx hb dX12_sizeOf_28 (by decide) ?_
          exact hJ15 0 H locs ls (by decide) (by decide) hP hD hS (lv_sub hl [0, 1, 2, 3] rfl)
        · skip
          have fc18 : ¬ (ra13.toInt = 0) := fun h9 => c18 (Int32.toInt_inj.mp h9)
          have q1pt2_ra13 := pt2_ra13 (by omega)
          refine lv_aload_n hx hb dX12_sizeOf_19 rfl (lv_at hl 2 rfl) ?_
          refine lv_iload_n hx hb dX12_sizeOf_20 rfl (lv_at hl 0 rfl) ?_
          refine lv_iconst (v := 0) hx hb dX12_sizeOf_21 (by decide) ?_
          have hPc := hP.sub (ws' := (wd_5013416a h0 v0 r0 v1 v2 v3 v4 r1 r2 r3 r4 r5 r6 r7 v5 v6 r8 r9 r10 r11 v7 r12 r13 v8 v9 h1 r14 v10 v11 r15 v12 v13 r16 v14 w15 r17 v16 v17 r18 r19 r20 r21 r22 r23 v18 r24 r25 r26 v19 h1 g0 f20)) [0, 1] rfl
          have hDc := hD.sub (ws' := (wd_5013416a h0 v0 r0 v1 v2 v3 v4 r1 r2 r3 r4 r5 r6 r7 v5 v6 r8 r9 r10 r11 v7 r12 r13 v8 v9 h1 r14 v10 v11 r15 v12 v13 r16 v14 w15 r17 v16 v17 r18 r19 r20 r21 r22 r23 v18 r24 r25 r26 v19 h1 g0 f20)) [0, 1] (by decide) rfl
          have hKc := hK.sub (tys' := [(g0, .int)]) [0] rfl
          have hFc := va_free (wc := (wd_5013416a h0 v0 r0 v1 v2 v3 v4 r1 r2 r3 r4 r5 r6 r7 v5 v6 r8 r9 r10 r11 v7 r12 r13 v8 v9 h1 r14 v10 v11 r15 v12 v13 r16 v14 w15 r17 v16 v17 r18 r19 r20 r21 r22 r23 v18 r24 r25 r26 v19 h1 g0 f20)) hD hS hA [0, 1] rfl
          refine va_calli (va_runV (As := [.int x7, .int 0]) (rest := [.int x8]) ⟨hx, hb, hml, hown, hts⟩ (k_X12_of_3 l dC dI h0 h1 v0 r0 v1 v2 v3 v4 r1 r2 r3 r4 r5 r6 r7 v5 v6 r8 r9 r10 r11 v7 r12 r13 v8 v9 r14 v10 v11 r15 v12 v13 r16 v14 w15 r17 v16 v17 r18 r19 r20 r21 r22 r23 v18 r24 r25 r26 v19 g0 f20 x7 ⟨i_v1a, i_v1b⟩ ⟨i_v5a, i_v5b⟩ ⟨i_v6a, i_v6b⟩ ⟨i_v7a, i_v7b⟩ ⟨i_v8a, i_v8b⟩ ⟨i_v9a, i_v9b⟩ ⟨i_v10a, i_v10b⟩ ⟨i_v14a, i_v14b⟩ ⟨i_v18a, i_v18b⟩ ⟨i_v19a, i_v19b⟩ ⟨qa_x7, by first | omega | decide⟩ ia_f20.1 H.size) (cwV 2 hts g_X12_sizeOf_1 rfl rfl rfl (by decide +kernel) ⟨Nat.le_of_ble_eq_true rfl, Nat.le_of_ble_eq_true rfl⟩) (pv_PV12 hPc hKc hDc (q0 := 0) rfl) rfl rfl hl.1 rfl (lv_room (Nat.le_of_ble_eq_true rfl)) dX12_sizeOf_22 ⟨Nat.le_of_ble_eq_true rfl, Nat.le_of_ble_eq_true rfl⟩) hS (fun q _ h => hFc q h) hFc (fun ra19 u t H1 locs ht hvm hwra19 hB hz1 hk1 hS => ?_)
          try rw [hwra19] at hB
          obtain ⟨pt0_ra19, pt1_ra19, pt2_ra19, hP1, hK1, hD1⟩ := hB
          rw [ht] at hP1
          obtain ⟨hP2, hD2⟩ := va_join (wr := []) (w1 := (wd_5013416a h0 v0 r0 v1 v2 v3 v4 r1 r2 r3 r4 r5 r6 r7 v5 v6 r8 r9 r10 r11 v7 r12 r13 v8 v9 h1 r14 v10 v11 r15 v12 v13 r16 v14 w15 r17 v16 v17 r18 r19 r20 r21 r22 r23 v18 r24 r25 r26 v19 h1 g0 f20)) hP hD [0, 1] [] rfl rfl (by decide) (by decide) hk1 hFc hP1 hD1
          clear hP hD hPc hDc hKc hFc hP1 hK1 hD1 hk1 hz1
          generalize H1 = H at hP2 hS ⊢
          have hP : va_P (dC, dI) vwCl (wd_5013416a h0 v0 r0 v1 v2 v3 v4 r1 r2 r3 r4 r5 r6 r7 v5 v6 r8 r9 r10 r11 v7 r12 r13 v8 v9 h1 r14 v10 v11 r15 v12 v13 r16 v14 w15 r17 v16 v17 r18 r19 r20 r21 r22 r23 v18 r24 r25 r26 v19 h1 g0 f20) H := hP2
          have hD : va_D A (wd_5013416a h0 v0 r0 v1 v2 v3 v4 r1 r2 r3 r4 r5 r6 r7 v5 v6 r8 r9 r10 r11 v7 r12 r13 v8 v9 h1 r14 v10 v11 r15 v12 v13 r16 v14 w15 r17 v16 v17 r18 r19 r20 r21 r22 r23 v18 r24 r25 r26 v19 h1 g0 f20) := hD2
          clear hP2 hD2
          refine lv_goto (tgt := 29) hx hb dX12_sizeOf_25 (by decide) ?_
          exact hJ15 ra19 H locs ls (by first | omega | decide) (by first | omega | decide) hP hD hS (lv_sub hl [0, 1, 2, 3] rfl)
  exact hL11 _ 0 0 H locs ls (by decide) (by decide) (Nat.lt_succ_self _) hP hD hS (lv_sub hl [0, 1, 2, 3] rfl)
def q_X12_in_5 : List Cond := .code yX12_in cX12_in 3 (some .boolean) :: (([] : List Cond))
set_option maxHeartbeats 4000000 in
set_option maxRecDepth 100000 in
theorem k_X12_in_5 (l : Launch) (dC : Nat → ClassId) (dI : Nat → Nat → Nat) (v0 : Int32) (sz : Nat) : Met l yX12_in q_X12_in_5 ({ frames := 0, cells := 0, slots := 0, locals := 0 }) (va_Pc [.int v0, .int 1, .int 400] (fun U => U.heap.size = sz ∧ va_P (dC, dI) vwCl [] U.heap ∧ va_K (dC, dI) vwCl [] U ∧ va_D (fun _ => True) [])) (va_Qi (fun (r : Int32) (r9 : Int32) => r9 = r) (fun (r : Int32) (t : State) => ((0 ≤ r.toInt) ∧ (r.toInt ≤ 1) ∧ ((r.toInt = 1 → 1 ≤ v0.toInt)) ∧ ((r.toInt = 1 → v0.toInt ≤ 400)) ∧ (r.toInt = 0 → ¬ (1 ≤ v0.toInt ∧ v0.toInt ≤ 400)) ∧ va_P (dC, dI) vwCl [] t.heap ∧ va_K (dC, dI) vwCl [] t ∧ va_D (va_A [] sz) [])) (va_A [] sz)) 0 0 (va_A [] sz) := by
  refine Met.ofW (cc := cX12_in) (maxL := 3) (ret := (some .boolean)) (by decide) rfl ?_
  intro p e s m args below meth c s₁ B hml hv
  obtain ⟨rfl, hsz, hP, hK, hD0⟩ := hv
  have hx := B.exec
  have hb := B.bytes
  have hr := B.returns
  have hts := atoms_spec (ws := q_X12_in_5) B.pre
  have hown : s.vm.findClass RX12 = some m.cls := findClass_of_methodNamed B.named
  have hlocks := B.notSynchronized
  subst hsz
  have hD := hD0.self (sz := s.heap.size)
  generalize hAe : va_A [] s.heap.size = A at hD ⊢
  have hA : ∀ q : Nat, s.heap.size ≤ q → A q := fun q h => by rw [← hAe]; exact Or.inr h
  have hS : va_S A s.heap s.heap [] := va_S.rf
  generalize hQ : (MQ below _ _ s 0 0 A) = Q
  have hl := lv_entry ([.int v0, .int 1, .int 400]) (n := 3) (Nat.le_of_ble_eq_true rfl)
  rw [lg_entry_eq]
  generalize (lg_sl ([.int v0, .int 1, .int 400]) ++ List.replicate (3 - (lg_sl ([.int v0, .int 1, .int 400])).length) Slot.unset).toArray = ls at hl ⊢
  have hl : lv_has ls 3 [(0, .int v0), (1, .int 1), (2, .int 400)] := hl
  obtain ⟨H, hH⟩ : ∃ H : Heap, H = s.heap := ⟨_, rfl⟩
  obtain ⟨locs, hlocs⟩ : ∃ y : List Loc, y = [] := ⟨_, rfl⟩
  have hS : va_S A s.heap H locs := by rw [hH, hlocs]; exact va_S.rf
  have hP : va_P (dC, dI) vwCl [] H := by rw [hH]; exact hP
  rw [← hH, ← hlocs]
  refine lv_iload_n hx hb dX12_in_0 rfl (lv_at hl 0 rfl) ?_
  refine lv_iload_n hx hb dX12_in_1 rfl (lv_at hl 1 rfl) ?_
  refine lv_icmp_lt (tgt := 14) hx hb dX12_in_2 (by decide) (fun c1 => ?_) (fun c1 => ?_)
  · skip
    have fc1 : v0.toInt < 1 := Int32.lt_iff_toInt_lt.mp c1
    refine lv_iconst (v := 0) hx hb dX12_in_14 (by decide) ?_
    subst hQ
    have hP9 := hP.sub (ws' := []) [] rfl
    have hD9 := hD.sub (ws' := []) [] (by decide) rfl
    have hK9 := hK.sub (tys' := []) [] rfl
    exact W.zret (v := 0) hx hb hr rfl (fun t ht hW => ⟨⟨0, 0, rfl, rfl, ⟨by first | omega | decide, by first | omega | decide, fun h9 => absurd h9 (by decide), fun h9 => absurd h9 (by decide), fun _ => by omega, by rw [ht]; exact hP9, va_K.moved hW.alike hK9, hD9⟩⟩, hS.F ht⟩) hS.2.2 dX12_in_15
  · skip
    have fc1 : ¬ (v0.toInt < 1) := fun h9 => c1 (Int32.lt_iff_toInt_lt.mpr h9)
    refine lv_iload_n hx hb dX12_in_5 rfl (lv_at hl 0 rfl) ?_
    refine lv_iload_n hx hb dX12_in_6 rfl (lv_at hl 2 rfl) ?_
    refine lv_icmp_gt (tgt := 14) hx hb dX12_in_7 (by decide) (fun c2 => ?_) (fun c2 => ?_)
    · skip
      have fc2 : 400 < v0.toInt := Int32.lt_iff_toInt_lt.mp c2
      refine lv_iconst (v := 0) hx hb dX12_in_14 (by decide) ?_
      subst hQ
      have hP9 := hP.sub (ws' := []) [] rfl
      have hD9 := hD.sub (ws' := []) [] (by decide) rfl
      have hK9 := hK.sub (tys' := []) [] rfl
      exact W.zret (v := 0) hx hb hr rfl (fun t ht hW => ⟨⟨0, 0, rfl, rfl, ⟨by first | omega | decide, by first | omega | decide, fun h9 => absurd h9 (by decide), fun h9 => absurd h9 (by decide), fun _ => by omega, by rw [ht]; exact hP9, va_K.moved hW.alike hK9, hD9⟩⟩, hS.F ht⟩) hS.2.2 dX12_in_15
    · skip
      have fc2 : ¬ (400 < v0.toInt) := fun h9 => c2 (Int32.lt_iff_toInt_lt.mpr h9)
      refine lv_iconst (v := 1) hx hb dX12_in_10 (by decide) ?_
      refine lv_goto (tgt := 15) hx hb dX12_in_11 (by decide) ?_
      subst hQ
      have hP9 := hP.sub (ws' := []) [] rfl
      have hD9 := hD.sub (ws' := []) [] (by decide) rfl
      have hK9 := hK.sub (tys' := []) [] rfl
      exact W.zret (v := 1) hx hb hr rfl (fun t ht hW => ⟨⟨1, 1, rfl, rfl, ⟨by first | omega | decide, by first | omega | decide, fun _ => by omega, fun _ => by omega, fun h9 => absurd h9 (by decide), by rw [ht]; exact hP9, va_K.moved hW.alike hK9, hD9⟩⟩, hS.F ht⟩) hS.2.2 dX12_in_15
def q_X12_sale : List Cond := .code yX12_sale cX12_sale 5 (some .int) :: (([.fieldLink RX12 262 "LeftArgumentsModel" "isOffice" "Z", .code yX12_in cX12_in 3 (some .boolean), .initialized RX12, .static yX12_in, .methodLink RX12 217 yX12_in, .code yX12_ripeOnes cX12_ripeOnes 3 (some .int), .code yX12_isThere cX12_isThere 2 (some .boolean), .code yX12_of cX12_of 3 (some .int), .fieldLink RX12 52 "LeftArgumentsModel" "now" "[I", .instanceMethod yX12_of, .selects RX12 yX12_of yX12_of, .methodLink RX12 287 yX12_of, .instanceMethod yX12_isThere, .selects RX12 yX12_isThere yX12_isThere, .methodLink RX12 290 yX12_isThere, .instanceMethod yX12_ripeOnes, .selects RX12 yX12_ripeOnes yX12_ripeOnes, .methodLink RX12 434 yX12_ripeOnes, .code yJ6_bitCount_0f7a4 cJ6_bitCount_0f7a4 1 (some .int), .constant RJ6 265 (1431655765), .constant RJ6 266 (858993459), .constant RJ6 267 (252645135), .initialized RJ6, .static yJ6_bitCount_0f7a4, .methodLink RX12 417 yJ6_bitCount_0f7a4, .code yX12_sizeOf cX12_sizeOf 4 (some .int), .code yX12_has cX12_has 2 (some .boolean), .static yX12_has, .methodLink RX12 228 yX12_has, .instanceMethod yX12_sizeOf, .selects RX12 yX12_sizeOf yX12_sizeOf, .methodLink RX12 437 yX12_sizeOf] : List Cond) ++ wsX120)
set_option maxRecDepth 20000 in
theorem g_X12_sale_0 : GoodIn q_X12_sale (va_wsS RX12 217 yX12_in q_X12_in_5) := goodIn_app (goodIn_r _ [5, 4, 3] rfl (by decide +kernel)) (goodIn_r (.code yX12_in cX12_in 3 (some .boolean) :: []) [2] rfl (by decide +kernel))
set_option maxRecDepth 20000 in
theorem g_X12_sale_1 : GoodIn q_X12_sale (wsV RX12 434 RX12 yX12_ripeOnes q_X12_ripeOnes) := goodIn_app (goodIn_r _ [18, 16, 17, 3] rfl (by decide +kernel)) (goodIn_ca (goodIn_r (.code yX12_ripeOnes cX12_ripeOnes 3 (some .int) :: [.code yX12_isThere cX12_isThere 2 (some .boolean), .code yX12_in cX12_in 3 (some .boolean), .initialized RX12, .static yX12_in, .methodLink RX12 217 yX12_in, .code yX12_of cX12_of 3 (some .int), .fieldLink RX12 52 "LeftArgumentsModel" "now" "[I", .instanceMethod yX12_of, .selects RX12 yX12_of yX12_of, .methodLink RX12 287 yX12_of, .instanceMethod yX12_isThere, .selects RX12 yX12_isThere yX12_isThere, .methodLink RX12 290 yX12_isThere]) [6, 7, 2, 3, 4, 5, 8, 9, 10, 11, 12, 13, 14, 15] rfl (by decide +kernel)) (goodIn_sub (fun _ h => List.mem_cons_of_mem _ (List.mem_append_right _ h)) gwX12))
set_option maxRecDepth 20000 in
theorem g_X12_sale_2 : GoodIn q_X12_sale (va_wsS RX12 417 yJ6_bitCount_0f7a4 q_J6_bitCount_0f7a4) := goodIn_app (goodIn_r _ [25, 24, 23] rfl (by decide +kernel)) (goodIn_r (.code yJ6_bitCount_0f7a4 cJ6_bitCount_0f7a4 1 (some .int) :: [.constant RJ6 265 (1431655765), .constant RJ6 266 (858993459), .constant RJ6 267 (252645135)]) [19, 20, 21, 22] rfl (by decide +kernel))
set_option maxRecDepth 20000 in
theorem g_X12_sale_4 : GoodIn q_X12_sale (wsV RX12 437 RX12 yX12_sizeOf q_X12_sizeOf) := goodIn_app (goodIn_r _ [32, 30, 31, 3] rfl (by decide +kernel)) (goodIn_ca (goodIn_r (.code yX12_sizeOf cX12_sizeOf 4 (some .int) :: [.code yX12_has cX12_has 2 (some .boolean), .initialized RX12, .static yX12_has, .methodLink RX12 228 yX12_has, .code yX12_of cX12_of 3 (some .int), .fieldLink RX12 52 "LeftArgumentsModel" "now" "[I", .instanceMethod yX12_of, .selects RX12 yX12_of yX12_of, .methodLink RX12 287 yX12_of]) [26, 27, 3, 28, 29, 8, 9, 10, 11, 12] rfl (by decide +kernel)) (goodIn_sub (fun _ h => List.mem_cons_of_mem _ (List.mem_append_right _ h)) gwX12))
set_option maxHeartbeats 4000000 in
set_option maxRecDepth 100000 in
theorem k_X12_sale (l : Launch) (dC : Nat → ClassId) (dI : Nat → Nat → Nat) (h0 : Nat) (h1 : Nat) (v0 : Int32) (r0 : Nat) (v1 : Int32) (v2 : Int32) (v3 : Int32) (v4 : Int32) (r1 : Nat) (r2 : Nat) (r3 : Nat) (r4 : Nat) (r5 : Nat) (r6 : Nat) (r7 : Nat) (v5 : Int32) (v6 : Int32) (r8 : Nat) (r9 : Nat) (r10 : Nat) (r11 : Nat) (v7 : Int32) (r12 : Nat) (r13 : Nat) (v8 : Int32) (v9 : Int32) (r14 : Nat) (v10 : Int32) (v11 : Int32) (r15 : Nat) (v12 : Int32) (v13 : Int32) (r16 : Nat) (v14 : Int32) (w15 : Int64) (r17 : Nat) (v16 : Int32) (v17 : Int32) (r18 : Nat) (r19 : Nat) (r20 : Nat) (r21 : Nat) (r22 : Nat) (r23 : Nat) (v18 : Int32) (r24 : Nat) (r25 : Nat) (r26 : Nat) (v19 : Int32) (g0 : ClassId) (f20 : Nat → Int32) (v21 : Int32) (i_v1 : 0 ≤ v1.toInt ∧ v1.toInt ≤ 240) (i_v5 : 0 ≤ v5.toInt ∧ v5.toInt ≤ 4) (i_v6 : 0 ≤ v6.toInt ∧ v6.toInt ≤ 4) (i_v7 : 0 ≤ v7.toInt ∧ v7.toInt ≤ 8) (i_v8 : 0 ≤ v8.toInt ∧ v8.toInt ≤ 8) (i_v9 : 0 ≤ v9.toInt ∧ v9.toInt ≤ 1) (i_v10 : -1 ≤ v10.toInt ∧ v10.toInt ≤ 3) (i_v14 : 0 ≤ v14.toInt ∧ v14.toInt ≤ 40) (i_v18 : 0 ≤ v18.toInt ∧ v18.toInt ≤ 10) (i_v19 : 0 ≤ v19.toInt ∧ v19.toInt ≤ 1) (ia_f20 : (pm_NW f20)) (sz : Nat) : Met l yX12_sale q_X12_sale ({ frames := 3, cells := 0, slots := 0, locals := 65 }) (va_Pc [.ref h0, .int v21] (fun U => U.heap.size = sz ∧ va_P (dC, dI) vwCl (wd_5013416a h0 v0 r0 v1 v2 v3 v4 r1 r2 r3 r4 r5 r6 r7 v5 v6 r8 r9 r10 r11 v7 r12 r13 v8 v9 h1 r14 v10 v11 r15 v12 v13 r16 v14 w15 r17 v16 v17 r18 r19 r20 r21 r22 r23 v18 r24 r25 r26 v19 h1 g0 f20) U.heap ∧ va_K (dC, dI) vwCl [(g0, .int)] U ∧ va_D (fun _ => True) (wd_5013416a h0 v0 r0 v1 v2 v3 v4 r1 r2 r3 r4 r5 r6 r7 v5 v6 r8 r9 r10 r11 v7 r12 r13 v8 v9 h1 r14 v10 v11 r15 v12 v13 r16 v14 w15 r17 v16 v17 r18 r19 r20 r21 r22 r23 v18 r24 r25 r26 v19 h1 g0 f20))) (va_Qi (fun (r : Int32) (r9 : Int32) => r9 = r) (fun (r : Int32) (t : State) => ((-1 ≤ r.toInt) ∧ (r.toInt ≤ 255) ∧ va_P (dC, dI) vwCl (wd_5013416a h0 v0 r0 v1 v2 v3 v4 r1 r2 r3 r4 r5 r6 r7 v5 v6 r8 r9 r10 r11 v7 r12 r13 v8 v9 h1 r14 v10 v11 r15 v12 v13 r16 v14 w15 r17 v16 v17 r18 r19 r20 r21 r22 r23 v18 r24 r25 r26 v19 h1 g0 f20) t.heap ∧ va_K (dC, dI) vwCl [] t ∧ va_D (va_A (wd_5013416a h0 v0 r0 v1 v2 v3 v4 r1 r2 r3 r4 r5 r6 r7 v5 v6 r8 r9 r10 r11 v7 r12 r13 v8 v9 h1 r14 v10 v11 r15 v12 v13 r16 v14 w15 r17 v16 v17 r18 r19 r20 r21 r22 r23 v18 r24 r25 r26 v19 h1 g0 f20) sz) (wd_5013416a h0 v0 r0 v1 v2 v3 v4 r1 r2 r3 r4 r5 r6 r7 v5 v6 r8 r9 r10 r11 v7 r12 r13 v8 v9 h1 r14 v10 v11 r15 v12 v13 r16 v14 w15 r17 v16 v17 r18 r19 r20 r21 r22 r23 v18 r24 r25 r26 v19 h1 g0 f20))) (va_A (wd_5013416a h0 v0 r0 v1 v2 v3 v4 r1 r2 r3 r4 r5 r6 r7 v5 v6 r8 r9 r10 r11 v7 r12 r13 v8 v9 h1 r14 v10 v11 r15 v12 v13 r16 v14 w15 r17 v16 v17 r18 r19 r20 r21 r22 r23 v18 r24 r25 r26 v19 h1 g0 f20) sz)) 0 0 (va_A (wd_5013416a h0 v0 r0 v1 v2 v3 v4 r1 r2 r3 r4 r5 r6 r7 v5 v6 r8 r9 r10 r11 v7 r12 r13 v8 v9 h1 r14 v10 v11 r15 v12 v13 r16 v14 w15 r17 v16 v17 r18 r19 r20 r21 r22 r23 v18 r24 r25 r26 v19 h1 g0 f20) sz) := by
  refine Met.ofW (cc := cX12_sale) (maxL := 5) (ret := (some .int)) (by decide) rfl ?_
  intro p e s m args below meth c s₁ B hml hv
  obtain ⟨i_v1a, i_v1b⟩ := i_v1
  obtain ⟨i_v5a, i_v5b⟩ := i_v5
  obtain ⟨i_v6a, i_v6b⟩ := i_v6
  obtain ⟨i_v7a, i_v7b⟩ := i_v7
  obtain ⟨i_v8a, i_v8b⟩ := i_v8
  obtain ⟨i_v9a, i_v9b⟩ := i_v9
  obtain ⟨i_v10a, i_v10b⟩ := i_v10
  obtain ⟨i_v14a, i_v14b⟩ := i_v14
  obtain ⟨i_v18a, i_v18b⟩ := i_v18
  obtain ⟨i_v19a, i_v19b⟩ := i_v19
  obtain ⟨rfl, hsz, hP, hK, hD0⟩ := hv
  have hx := B.exec
  have hb := B.bytes
  have hr := B.returns
  have hts := atoms_spec (ws := q_X12_sale) B.pre
  have hown : s.vm.findClass RX12 = some m.cls := findClass_of_methodNamed B.named
  have hlocks := B.notSynchronized
  subst hsz
  have hD := hD0.self (sz := s.heap.size)
  generalize hAe : va_A (wd_5013416a h0 v0 r0 v1 v2 v3 v4 r1 r2 r3 r4 r5 r6 r7 v5 v6 r8 r9 r10 r11 v7 r12 r13 v8 v9 h1 r14 v10 v11 r15 v12 v13 r16 v14 w15 r17 v16 v17 r18 r19 r20 r21 r22 r23 v18 r24 r25 r26 v19 h1 g0 f20) s.heap.size = A at hD ⊢
  have hA : ∀ q : Nat, s.heap.size ≤ q → A q := fun q h => by rw [← hAe]; exact Or.inr h
  have hS : va_S A s.heap s.heap [] := va_S.rf
  generalize hQ : (MQ below _ _ s 0 0 A) = Q
  have hl := lv_entry ([.ref h0, .int v21]) (n := 5) (Nat.le_of_ble_eq_true rfl)
  rw [lg_entry_eq]
  generalize (lg_sl ([.ref h0, .int v21]) ++ List.replicate (5 - (lg_sl ([.ref h0, .int v21])).length) Slot.unset).toArray = ls at hl ⊢
  have hl : lv_has ls 5 [(0, .ref h0), (1, .int v21)] := hl
  obtain ⟨H, hH⟩ : ∃ H : Heap, H = s.heap := ⟨_, rfl⟩
  obtain ⟨locs, hlocs⟩ : ∃ y : List Loc, y = [] := ⟨_, rfl⟩
  have hS : va_S A s.heap H locs := by rw [hH, hlocs]; exact va_S.rf
  have hP : va_P (dC, dI) vwCl (wd_5013416a h0 v0 r0 v1 v2 v3 v4 r1 r2 r3 r4 r5 r6 r7 v5 v6 r8 r9 r10 r11 v7 r12 r13 v8 v9 h1 r14 v10 v11 r15 v12 v13 r16 v14 w15 r17 v16 v17 r18 r19 r20 r21 r22 r23 v18 r24 r25 r26 v19 h1 g0 f20) H := by rw [hH]; exact hP
  rw [← hH, ← hlocs]
  refine lv_aload_n hx hb dX12_sale_0 rfl (lv_at hl 0 rfl) ?_
  refine va_get (D := (dC, dI)) (ci := 12) (v := .int v9) (C := RX12) (T := TX12) (N := 48) hx hb hts (fun _ h => List.mem_cons_of_mem _ (List.mem_append_right _ h)) hown hK hP 0 rfl rfl 23 (by decide) (hts (.fieldLink RX12 262 "LeftArgumentsModel" "isOffice" "Z") (List.mem_cons_of_mem _ (List.mem_append_left _ (List.mem_of_getElem? (i := 0) rfl)))) (fun _ h9 => h9) rfl dX12_sale_1 ?_
  refine lv_if_eq (tgt := 18) hx hb dX12_sale_4 (by decide) (fun c1 => ?_) (fun c1 => ?_)
  · skip
    have fc1 : v9.toInt = 0 := congrArg Int32.toInt c1
    refine lv_iconst (v := (-1)) hx hb dX12_sale_18 (by decide) ?_
    subst hQ
    have hP9 := hP.sub (ws' := (wd_5013416a h0 v0 r0 v1 v2 v3 v4 r1 r2 r3 r4 r5 r6 r7 v5 v6 r8 r9 r10 r11 v7 r12 r13 v8 v9 h1 r14 v10 v11 r15 v12 v13 r16 v14 w15 r17 v16 v17 r18 r19 r20 r21 r22 r23 v18 r24 r25 r26 v19 h1 g0 f20)) [0, 1] rfl
    have hD9 := hD.sub (ws' := (wd_5013416a h0 v0 r0 v1 v2 v3 v4 r1 r2 r3 r4 r5 r6 r7 v5 v6 r8 r9 r10 r11 v7 r12 r13 v8 v9 h1 r14 v10 v11 r15 v12 v13 r16 v14 w15 r17 v16 v17 r18 r19 r20 r21 r22 r23 v18 r24 r25 r26 v19 h1 g0 f20)) [0, 1] (by decide) rfl
    have hK9 := hK.sub (tys' := []) [] rfl
    exact W.iret (v := (-1)) hx hb hr (fun t ht hW => ⟨⟨(-1), (-1), rfl, rfl, ⟨by first | omega | decide, by first | omega | decide, by rw [ht]; exact hP9, va_K.moved hW.alike hK9, hD9⟩⟩, hS.F ht⟩) hS.2.2 dX12_sale_19
  · skip
    have fc1 : ¬ (v9.toInt = 0) := fun h9 => c1 (Int32.toInt_inj.mp h9)
    refine lv_iload_n hx hb dX12_sale_7 rfl (lv_at hl 1 rfl) ?_
    refine lv_iconst (v := 1) hx hb dX12_sale_8 (by decide) ?_
    refine lv_sipush (v := 400) hx hb dX12_sale_9 (by decide) ?_
    have hPc := hP.sub (ws' := []) [] rfl
    have hDc := hD.sub (ws' := []) [] (by decide) rfl
    have hKc := hK.sub (tys' := []) [] rfl
    have hFc := va_free (wc := []) hD hS hA [] rfl
    refine va_calli (va_runS (As := [.int v21, .int 1, .int 400]) (rest := []) ⟨hx, hb, hml, hown, hts⟩ (k_X12_in_5 l dC dI v21  H.size) (va_cwS 3 hts g_X12_sale_0 rfl rfl rfl (by decide +kernel) ⟨Nat.le_of_ble_eq_true rfl, Nat.le_of_ble_eq_true rfl⟩) (pv_PS hPc hKc hDc) rfl rfl hl.1 rfl (lv_room (Nat.le_of_ble_eq_true rfl)) dX12_sale_12 ⟨Nat.le_of_ble_eq_true rfl, Nat.le_of_ble_eq_true rfl⟩) hS (fun q _ h => hFc q h) hFc (fun ra2 u t H1 locs ht hvm hwra2 hB hz1 hk1 hS => ?_)
    try rw [hwra2] at hB
    obtain ⟨pt0_ra2, pt1_ra2, pt2_ra2, pt3_ra2, pt4_ra2, hP1, hK1, hD1⟩ := hB
    rw [ht] at hP1
    obtain ⟨hP2, hD2⟩ := va_join (wr := (wd_5013416a h0 v0 r0 v1 v2 v3 v4 r1 r2 r3 r4 r5 r6 r7 v5 v6 r8 r9 r10 r11 v7 r12 r13 v8 v9 h1 r14 v10 v11 r15 v12 v13 r16 v14 w15 r17 v16 v17 r18 r19 r20 r21 r22 r23 v18 r24 r25 r26 v19 h1 g0 f20)) (w1 := []) hP hD [] [0, 1] rfl rfl (by decide) (by decide) hk1 hFc hP1 hD1
    clear hP hD hPc hDc hKc hFc hP1 hK1 hD1 hk1 hz1
    generalize H1 = H at hP2 hS ⊢
    have hP : va_P (dC, dI) vwCl (wd_5013416a h0 v0 r0 v1 v2 v3 v4 r1 r2 r3 r4 r5 r6 r7 v5 v6 r8 r9 r10 r11 v7 r12 r13 v8 v9 h1 r14 v10 v11 r15 v12 v13 r16 v14 w15 r17 v16 v17 r18 r19 r20 r21 r22 r23 v18 r24 r25 r26 v19 h1 g0 f20) H := hP2
    have hD : va_D A (wd_5013416a h0 v0 r0 v1 v2 v3 v4 r1 r2 r3 r4 r5 r6 r7 v5 v6 r8 r9 r10 r11 v7 r12 r13 v8 v9 h1 r14 v10 v11 r15 v12 v13 r16 v14 w15 r17 v16 v17 r18 r19 r20 r21 r22 r23 v18 r24 r25 r26 v19 h1 g0 f20) := hD2
    clear hP2 hD2
    refine lv_if_ne (tgt := 20) hx hb dX12_sale_15 (by decide) (fun c3 => ?_) (fun c3 => ?_)
    · skip
      have fc3 : ¬ (ra2.toInt = 0) := fun h9 => c3 (Int32.toInt_inj.mp h9)
      refine lv_iconst (v := (-1)) hx hb dX12_sale_20 (by decide) ?_
      refine lv_istore_n (lv' := [(2, .int (-1)), (0, .ref h0), (1, .int v21)]) hx hb dX12_sale_21 rfl hl (by decide) rfl (fun ls hl => ?_)
      refine lv_iconst (v := 1) hx hb dX12_sale_22 (by decide) ?_
      refine lv_istore_n (lv' := [(3, .int 1), (2, .int (-1)), (0, .ref h0), (1, .int v21)]) hx hb dX12_sale_23 rfl hl (by decide) rfl (fun ls hl => ?_)
      have hL24 : ∀ (n9 : Nat), ∀ (x20 : Int32) (x21 : Int32) (H : Heap) (locs : List Loc) (ls : Array Slot), 1 ≤ x20.toInt → x20.toInt ≤ 256 → -1 ≤ x21.toInt → x21.toInt ≤ 255 → (256 - x20.toInt).toNat < n9 → va_P (dC, dI) vwCl (wd_5013416a h0 v0 r0 v1 v2 v3 v4 r1 r2 r3 r4 r5 r6 r7 v5 v6 r8 r9 r10 r11 v7 r12 r13 v8 v9 h1 r14 v10 v11 r15 v12 v13 r16 v14 w15 r17 v16 v17 r18 r19 r20 r21 r22 r23 v18 r24 r25 r26 v19 h1 g0 f20) H → va_D A (wd_5013416a h0 v0 r0 v1 v2 v3 v4 r1 r2 r3 r4 r5 r6 r7 v5 v6 r8 r9 r10 r11 v7 r12 r13 v8 v9 h1 r14 v10 v11 r15 v12 v13 r16 v14 w15 r17 v16 v17 r18 r19 r20 r21 r22 r23 v18 r24 r25 r26 v19 h1 g0 f20) → va_S A s.heap H locs → lv_has ls 5 [(3, .int x20), (2, .int x21), (0, .ref h0), (1, .int v21)] → W p l e ({ frames := 3, cells := 0, slots := 0, locals := 65 }) s m ([.ref h0, .int v21] : List Value).toArray below meth c H locs 0 0 Q (F0 m 24 ls []) := by
        intro n9
        induction n9 with
        | zero => intro x20 x21 H locs ls qa_x20 qb_x20 qa_x21 qb_x21 hm9 hP hD hS hl; exact absurd hm9 (Nat.not_lt_zero _)
        | succ n9 ih_hL24 =>
          intro x20 x21 H locs ls qa_x20 qb_x20 qa_x21 qb_x21 hm9 hP hD hS hl
          refine lv_iload_n hx hb dX12_sale_24 rfl (lv_at hl 0 rfl) ?_
          refine lv_sipush (v := 256) hx hb dX12_sale_25 (by decide) ?_
          refine lv_icmp_ge (tgt := 91) hx hb dX12_sale_28 (by decide) (fun c25 => ?_) (fun c25 => ?_)
          · skip
            have fc25 : 256 ≤ x20.toInt := Int32.le_iff_toInt_le.mp c25
            refine lv_iload_n hx hb dX12_sale_91 rfl (lv_at hl 1 rfl) ?_
            subst hQ
            have hP9 := hP.sub (ws' := (wd_5013416a h0 v0 r0 v1 v2 v3 v4 r1 r2 r3 r4 r5 r6 r7 v5 v6 r8 r9 r10 r11 v7 r12 r13 v8 v9 h1 r14 v10 v11 r15 v12 v13 r16 v14 w15 r17 v16 v17 r18 r19 r20 r21 r22 r23 v18 r24 r25 r26 v19 h1 g0 f20)) [0, 1] rfl
            have hD9 := hD.sub (ws' := (wd_5013416a h0 v0 r0 v1 v2 v3 v4 r1 r2 r3 r4 r5 r6 r7 v5 v6 r8 r9 r10 r11 v7 r12 r13 v8 v9 h1 r14 v10 v11 r15 v12 v13 r16 v14 w15 r17 v16 v17 r18 r19 r20 r21 r22 r23 v18 r24 r25 r26 v19 h1 g0 f20)) [0, 1] (by decide) rfl
            have hK9 := hK.sub (tys' := []) [] rfl
            exact W.iret (v := x21) hx hb hr (fun t ht hW => ⟨⟨x21, x21, rfl, rfl, ⟨by first | omega | decide, by first | omega | decide, by rw [ht]; exact hP9, va_K.moved hW.alike hK9, hD9⟩⟩, hS.F ht⟩) hS.2.2 dX12_sale_92
          · skip
            have fc25 : ¬ (256 ≤ x20.toInt) := fun h9 => c25 (Int32.le_iff_toInt_le.mpr h9)
            refine lv_iload_n hx hb dX12_sale_31 rfl (lv_at hl 0 rfl) ?_
            refine lv_aload_n hx hb dX12_sale_32 rfl (lv_at hl 2 rfl) ?_
            have hPc := hP.sub (ws' := (wd_5013416a h0 v0 r0 v1 v2 v3 v4 r1 r2 r3 r4 r5 r6 r7 v5 v6 r8 r9 r10 r11 v7 r12 r13 v8 v9 h1 r14 v10 v11 r15 v12 v13 r16 v14 w15 r17 v16 v17 r18 r19 r20 r21 r22 r23 v18 r24 r25 r26 v19 h1 g0 f20)) [0, 1] rfl
            have hDc := hD.sub (ws' := (wd_5013416a h0 v0 r0 v1 v2 v3 v4 r1 r2 r3 r4 r5 r6 r7 v5 v6 r8 r9 r10 r11 v7 r12 r13 v8 v9 h1 r14 v10 v11 r15 v12 v13 r16 v14 w15 r17 v16 v17 r18 r19 r20 r21 r22 r23 v18 r24 r25 r26 v19 h1 g0 f20)) [0, 1] (by decide) rfl
            have hKc := hK.sub (tys' := [(g0, .int)]) [0] rfl
            have hFc := va_free (wc := (wd_5013416a h0 v0 r0 v1 v2 v3 v4 r1 r2 r3 r4 r5 r6 r7 v5 v6 r8 r9 r10 r11 v7 r12 r13 v8 v9 h1 r14 v10 v11 r15 v12 v13 r16 v14 w15 r17 v16 v17 r18 r19 r20 r21 r22 r23 v18 r24 r25 r26 v19 h1 g0 f20)) hD hS hA [0, 1] rfl
            refine va_calli (va_runV (As := []) (rest := [.int x20]) ⟨hx, hb, hml, hown, hts⟩ (k_X12_ripeOnes l dC dI h0 h1 v0 r0 v1 v2 v3 v4 r1 r2 r3 r4 r5 r6 r7 v5 v6 r8 r9 r10 r11 v7 r12 r13 v8 v9 r14 v10 v11 r15 v12 v13 r16 v14 w15 r17 v16 v17 r18 r19 r20 r21 r22 r23 v18 r24 r25 r26 v19 g0 f20 ⟨i_v1a, i_v1b⟩ ⟨i_v5a, i_v5b⟩ ⟨i_v6a, i_v6b⟩ ⟨i_v7a, i_v7b⟩ ⟨i_v8a, i_v8b⟩ ⟨i_v9a, i_v9b⟩ ⟨i_v10a, i_v10b⟩ ⟨i_v14a, i_v14b⟩ ⟨i_v18a, i_v18b⟩ ⟨i_v19a, i_v19b⟩ ia_f20 H.size) (cwV 0 hts g_X12_sale_1 rfl rfl rfl (by decide +kernel) ⟨Nat.le_of_ble_eq_true rfl, Nat.le_of_ble_eq_true rfl⟩) (pv_PV12 hPc hKc hDc (q0 := 0) rfl) rfl rfl hl.1 rfl (lv_room (Nat.le_of_ble_eq_true rfl)) dX12_sale_33 ⟨Nat.le_of_ble_eq_true rfl, Nat.le_of_ble_eq_true rfl⟩) hS (fun q _ h => hFc q h) hFc (fun ra26 u t H1 locs ht hvm hwra26 hB hz1 hk1 hS => ?_)
            try rw [hwra26] at hB
            obtain ⟨hP1, hK1, hD1⟩ := hB
            rw [ht] at hP1
            obtain ⟨hP2, hD2⟩ := va_join (wr := []) (w1 := (wd_5013416a h0 v0 r0 v1 v2 v3 v4 r1 r2 r3 r4 r5 r6 r7 v5 v6 r8 r9 r10 r11 v7 r12 r13 v8 v9 h1 r14 v10 v11 r15 v12 v13 r16 v14 w15 r17 v16 v17 r18 r19 r20 r21 r22 r23 v18 r24 r25 r26 v19 h1 g0 f20)) hP hD [0, 1] [] rfl rfl (by decide) (by decide) hk1 hFc hP1 hD1
            clear hP hD hPc hDc hKc hFc hP1 hK1 hD1 hk1 hz1
            generalize H1 = H at hP2 hS ⊢
            have hP : va_P (dC, dI) vwCl (wd_5013416a h0 v0 r0 v1 v2 v3 v4 r1 r2 r3 r4 r5 r6 r7 v5 v6 r8 r9 r10 r11 v7 r12 r13 v8 v9 h1 r14 v10 v11 r15 v12 v13 r16 v14 w15 r17 v16 v17 r18 r19 r20 r21 r22 r23 v18 r24 r25 r26 v19 h1 g0 f20) H := hP2
            have hD : va_D A (wd_5013416a h0 v0 r0 v1 v2 v3 v4 r1 r2 r3 r4 r5 r6 r7 v5 v6 r8 r9 r10 r11 v7 r12 r13 v8 v9 h1 r14 v10 v11 r15 v12 v13 r16 v14 w15 r17 v16 v17 r18 r19 r20 r21 r22 r23 v18 r24 r25 r26 v19 h1 g0 f20) := hD2
            clear hP2 hD2
            refine lv_iconst (v := (-1)) hx hb dX12_sale_36 (by decide) ?_
            refine lv_ixor hx hb dX12_sale_37 ?_
            refine lv_topi (fun t27 et27 => ?_)
            refine lv_iand hx hb dX12_sale_38 ?_
            refine lv_topi (fun t28 et28 => ?_)
            have hJ30 : ∀ (x29 : Int32) (H : Heap) (locs : List Loc) (ls : Array Slot), 0 ≤ x29.toInt → x29.toInt ≤ 1 → va_P (dC, dI) vwCl (wd_5013416a h0 v0 r0 v1 v2 v3 v4 r1 r2 r3 r4 r5 r6 r7 v5 v6 r8 r9 r10 r11 v7 r12 r13 v8 v9 h1 r14 v10 v11 r15 v12 v13 r16 v14 w15 r17 v16 v17 r18 r19 r20 r21 r22 r23 v18 r24 r25 r26 v19 h1 g0 f20) H → va_D A (wd_5013416a h0 v0 r0 v1 v2 v3 v4 r1 r2 r3 r4 r5 r6 r7 v5 v6 r8 r9 r10 r11 v7 r12 r13 v8 v9 h1 r14 v10 v11 r15 v12 v13 r16 v14 w15 r17 v16 v17 r18 r19 r20 r21 r22 r23 v18 r24 r25 r26 v19 h1 g0 f20) → va_S A s.heap H locs → lv_has ls 5 [(3, .int x20), (2, .int x21), (0, .ref h0), (1, .int v21)] → W p l e ({ frames := 3, cells := 0, slots := 0, locals := 65 }) s m ([.ref h0, .int v21] : List Value).toArray below meth c H locs 0 0 Q (F0 m 56 ls [.int x29]) := by
              intro x29 H locs ls qa_x29 qb_x29 hP hD hS hl
              refine lv_istore (lv' := [(4, .int x29), (3, .int x20), (2, .int x21), (0, .ref h0), (1, .int v21)]) hx hb dX12_sale_56 hl (by decide) rfl (fun ls hl => ?_)
              refine lv_iload hx hb dX12_sale_58 (lv_at hl 0 rfl) ?_
              have hJ32 : ∀ (x31 : Int32) (H : Heap) (locs : List Loc) (ls : Array Slot), -1 ≤ x31.toInt → x31.toInt ≤ 255 → va_P (dC, dI) vwCl (wd_5013416a h0 v0 r0 v1 v2 v3 v4 r1 r2 r3 r4 r5 r6 r7 v5 v6 r8 r9 r10 r11 v7 r12 r13 v8 v9 h1 r14 v10 v11 r15 v12 v13 r16 v14 w15 r17 v16 v17 r18 r19 r20 r21 r22 r23 v18 r24 r25 r26 v19 h1 g0 f20) H → va_D A (wd_5013416a h0 v0 r0 v1 v2 v3 v4 r1 r2 r3 r4 r5 r6 r7 v5 v6 r8 r9 r10 r11 v7 r12 r13 v8 v9 h1 r14 v10 v11 r15 v12 v13 r16 v14 w15 r17 v16 v17 r18 r19 r20 r21 r22 r23 v18 r24 r25 r26 v19 h1 g0 f20) → va_S A s.heap H locs → lv_has ls 5 [(4, .int x29), (3, .int x20), (2, .int x21), (0, .ref h0), (1, .int v21)] → W p l e ({ frames := 3, cells := 0, slots := 0, locals := 65 }) s m ([.ref h0, .int v21] : List Value).toArray below meth c H locs 0 0 Q (F0 m 84 ls [.int x31]) := by
                intro x31 H locs ls qa_x31 qb_x31 hP hD hS hl
                refine lv_istore_n (lv' := [(2, .int x31), (4, .int x29), (3, .int x20), (0, .ref h0), (1, .int v21)]) hx hb dX12_sale_84 rfl hl (by decide) rfl (fun ls hl => ?_)
                obtain ⟨t33, et33⟩ : ∃ y : Int32, y = x20 + 1 := ⟨_, rfl⟩
                have gt33 : t33.toInt = x20.toInt + (1) := pv_add (a := x20.toInt) (b := (1)) et33 rfl (by decide) (by omega) (by omega)
                refine lv_iinc (v := t33) (lv' := [(3, .int t33), (2, .int x31), (4, .int x29), (0, .ref h0), (1, .int v21)]) hx hb dX12_sale_85 hl (k := 2) rfl (by rw [et33]; rfl) (by decide) rfl (fun ls hl => ?_)
                refine lv_goto (tgt := 24) hx hb dX12_sale_88 (by decide) ?_
                exact ih_hL24 t33 x31 H locs ls (by first | omega | decide) (by first | omega | decide) qa_x31 qb_x31 (by first | omega | (simp only [Int.toNat] at *; omega)) hP hD hS (lv_sub hl [0, 1, 3, 4] rfl)
              refine lv_if_eq (tgt := 83) hx hb dX12_sale_60 (by decide) (fun c34 => ?_) (fun c34 => ?_)
              · skip
                have fc34 : x29.toInt = 0 := congrArg Int32.toInt c34
                refine lv_iload_n hx hb dX12_sale_83 rfl (lv_at hl 2 rfl) ?_
                exact hJ32 x21 H locs ls qa_x21 qb_x21 hP hD hS (lv_sub hl [0, 1, 2, 3, 4] rfl)
              · skip
                have fc34 : ¬ (x29.toInt = 0) := fun h9 => c34 (Int32.toInt_inj.mp h9)
                refine lv_iload_n hx hb dX12_sale_63 rfl (lv_at hl 2 rfl) ?_
                refine lv_iconst (v := (-1)) hx hb dX12_sale_64 (by decide) ?_
                refine lv_icmp_eq (tgt := 79) hx hb dX12_sale_65 (by decide) (fun c35 => ?_) (fun c35 => ?_)
                · skip
                  have fc35 : x21.toInt = (-1) := congrArg Int32.toInt c35
                  refine lv_iload_n hx hb dX12_sale_79 rfl (lv_at hl 1 rfl) ?_
                  refine lv_goto (tgt := 84) hx hb dX12_sale_80 (by decide) ?_
                  exact hJ32 x20 H locs ls (by first | omega | decide) (by first | omega | decide) hP hD hS (lv_sub hl [0, 1, 2, 3, 4] rfl)
                · skip
                  have fc35 : ¬ (x21.toInt = (-1)) := fun h9 => c35 (Int32.toInt_inj.mp h9)
                  refine lv_iload_n hx hb dX12_sale_68 rfl (lv_at hl 1 rfl) ?_
                  have hPc := hP.sub (ws' := []) [] rfl
                  have hDc := hD.sub (ws' := []) [] (by decide) rfl
                  have hKc := hK.sub (tys' := []) [] rfl
                  have hFc := va_free (wc := []) hD hS hA [] rfl
                  refine va_calli (va_runS (As := [.int x20]) (rest := []) ⟨hx, hb, hml, hown, hts⟩ (k_J6_bitCount_0f7a4 l dC dI x20  H.size) (va_cwS 1 hts g_X12_sale_2 rfl rfl rfl (by decide +kernel) ⟨Nat.le_of_ble_eq_true rfl, Nat.le_of_ble_eq_true rfl⟩) (pv_PS hPc hKc hDc) rfl rfl hl.1 rfl (lv_room (Nat.le_of_ble_eq_true rfl)) dX12_sale_69 ⟨Nat.le_of_ble_eq_true rfl, Nat.le_of_ble_eq_true rfl⟩) hS (fun q _ h => hFc q h) hFc (fun ra36 u t H1 locs ht hvm hwra36 hB hz1 hk1 hS => ?_)
                  obtain ⟨hP1, hK1, hD1⟩ := hB
                  rw [ht] at hP1
                  obtain ⟨hP2, hD2⟩ := va_join (wr := (wd_5013416a h0 v0 r0 v1 v2 v3 v4 r1 r2 r3 r4 r5 r6 r7 v5 v6 r8 r9 r10 r11 v7 r12 r13 v8 v9 h1 r14 v10 v11 r15 v12 v13 r16 v14 w15 r17 v16 v17 r18 r19 r20 r21 r22 r23 v18 r24 r25 r26 v19 h1 g0 f20)) (w1 := []) hP hD [] [0, 1] rfl rfl (by decide) (by decide) hk1 hFc hP1 hD1
                  clear hP hD hPc hDc hKc hFc hP1 hK1 hD1 hk1 hz1
                  generalize H1 = H at hP2 hS ⊢
                  have hP : va_P (dC, dI) vwCl (wd_5013416a h0 v0 r0 v1 v2 v3 v4 r1 r2 r3 r4 r5 r6 r7 v5 v6 r8 r9 r10 r11 v7 r12 r13 v8 v9 h1 r14 v10 v11 r15 v12 v13 r16 v14 w15 r17 v16 v17 r18 r19 r20 r21 r22 r23 v18 r24 r25 r26 v19 h1 g0 f20) H := hP2
                  have hD : va_D A (wd_5013416a h0 v0 r0 v1 v2 v3 v4 r1 r2 r3 r4 r5 r6 r7 v5 v6 r8 r9 r10 r11 v7 r12 r13 v8 v9 h1 r14 v10 v11 r15 v12 v13 r16 v14 w15 r17 v16 v17 r18 r19 r20 r21 r22 r23 v18 r24 r25 r26 v19 h1 g0 f20) := hD2
                  clear hP2 hD2
                  obtain ⟨wa_ra36, wb_ra36⟩ := hwra36
                  have wa_ra36 : 0 ≤ ra36.toInt := wa_ra36
                  have wb_ra36 : ra36.toInt ≤ 63 := wb_ra36
                  refine lv_iload_n hx hb dX12_sale_72 rfl (lv_at hl 2 rfl) ?_
                  have hPc := hP.sub (ws' := []) [] rfl
                  have hDc := hD.sub (ws' := []) [] (by decide) rfl
                  have hKc := hK.sub (tys' := []) [] rfl
                  have hFc := va_free (wc := []) hD hS hA [] rfl
                  refine va_calli (va_runS (As := [.int x21]) (rest := [.int ra36]) ⟨hx, hb, hml, hown, hts⟩ (k_J6_bitCount_0f7a4 l dC dI x21  H.size) (va_cwS 1 hts g_X12_sale_2 rfl rfl rfl (by decide +kernel) ⟨Nat.le_of_ble_eq_true rfl, Nat.le_of_ble_eq_true rfl⟩) (pv_PS hPc hKc hDc) rfl rfl hl.1 rfl (lv_room (Nat.le_of_ble_eq_true rfl)) dX12_sale_73 ⟨Nat.le_of_ble_eq_true rfl, Nat.le_of_ble_eq_true rfl⟩) hS (fun q _ h => hFc q h) hFc (fun ra37 u t H1 locs ht hvm hwra37 hB hz1 hk1 hS => ?_)
                  obtain ⟨hP1, hK1, hD1⟩ := hB
                  rw [ht] at hP1
                  obtain ⟨hP2, hD2⟩ := va_join (wr := (wd_5013416a h0 v0 r0 v1 v2 v3 v4 r1 r2 r3 r4 r5 r6 r7 v5 v6 r8 r9 r10 r11 v7 r12 r13 v8 v9 h1 r14 v10 v11 r15 v12 v13 r16 v14 w15 r17 v16 v17 r18 r19 r20 r21 r22 r23 v18 r24 r25 r26 v19 h1 g0 f20)) (w1 := []) hP hD [] [0, 1] rfl rfl (by decide) (by decide) hk1 hFc hP1 hD1
                  clear hP hD hPc hDc hKc hFc hP1 hK1 hD1 hk1 hz1
                  generalize H1 = H at hP2 hS ⊢
                  have hP : va_P (dC, dI) vwCl (wd_5013416a h0 v0 r0 v1 v2 v3 v4 r1 r2 r3 r4 r5 r6 r7 v5 v6 r8 r9 r10 r11 v7 r12 r13 v8 v9 h1 r14 v10 v11 r15 v12 v13 r16 v14 w15 r17 v16 v17 r18 r19 r20 r21 r22 r23 v18 r24 r25 r26 v19 h1 g0 f20) H := hP2
                  have hD : va_D A (wd_5013416a h0 v0 r0 v1 v2 v3 v4 r1 r2 r3 r4 r5 r6 r7 v5 v6 r8 r9 r10 r11 v7 r12 r13 v8 v9 h1 r14 v10 v11 r15 v12 v13 r16 v14 w15 r17 v16 v17 r18 r19 r20 r21 r22 r23 v18 r24 r25 r26 v19 h1 g0 f20) := hD2
                  clear hP2 hD2
                  obtain ⟨wa_ra37, wb_ra37⟩ := hwra37
                  have wa_ra37 : 0 ≤ ra37.toInt := wa_ra37
                  have wb_ra37 : ra37.toInt ≤ 63 := wb_ra37
                  refine lv_icmp_ge (tgt := 83) hx hb dX12_sale_76 (by decide) (fun c38 => ?_) (fun c38 => ?_)
                  · skip
                    have fc38 : ra37.toInt ≤ ra36.toInt := Int32.le_iff_toInt_le.mp c38
                    have r1c38 := Int32.toInt_lt ra36
                    have r2c38 := Int32.toInt_lt ra37
                    have r3c38 := Int32.le_toInt ra36
                    have r4c38 := Int32.le_toInt ra37
                    refine lv_iload_n hx hb dX12_sale_83 rfl (lv_at hl 2 rfl) ?_
                    exact hJ32 x21 H locs ls qa_x21 qb_x21 hP hD hS (lv_sub hl [0, 1, 2, 3, 4] rfl)
                  · skip
                    have fc38 : ¬ (ra37.toInt ≤ ra36.toInt) := fun h9 => c38 (Int32.le_iff_toInt_le.mpr h9)
                    have r1c38 := Int32.toInt_lt ra36
                    have r2c38 := Int32.toInt_lt ra37
                    have r3c38 := Int32.le_toInt ra36
                    have r4c38 := Int32.le_toInt ra37
                    refine lv_iload_n hx hb dX12_sale_79 rfl (lv_at hl 1 rfl) ?_
                    refine lv_goto (tgt := 84) hx hb dX12_sale_80 (by decide) ?_
                    exact hJ32 x20 H locs ls (by first | omega | decide) (by first | omega | decide) hP hD hS (lv_sub hl [0, 1, 2, 3, 4] rfl)
            refine lv_if_ne (tgt := 55) hx hb dX12_sale_39 (by decide) (fun c39 => ?_) (fun c39 => ?_)
            · skip
              have fc39 : ¬ (t28.toInt = 0) := fun h9 => c39 (Int32.toInt_inj.mp h9)
              refine lv_iconst (v := 0) hx hb dX12_sale_55 (by decide) ?_
              exact hJ30 0 H locs ls (by decide) (by decide) hP hD hS (lv_sub hl [0, 1, 2, 3] rfl)
            · skip
              have fc39 : t28.toInt = 0 := congrArg Int32.toInt c39
              refine lv_aload_n hx hb dX12_sale_42 rfl (lv_at hl 2 rfl) ?_
              refine lv_iload_n hx hb dX12_sale_43 rfl (lv_at hl 0 rfl) ?_
              have hPc := hP.sub (ws' := (wd_5013416a h0 v0 r0 v1 v2 v3 v4 r1 r2 r3 r4 r5 r6 r7 v5 v6 r8 r9 r10 r11 v7 r12 r13 v8 v9 h1 r14 v10 v11 r15 v12 v13 r16 v14 w15 r17 v16 v17 r18 r19 r20 r21 r22 r23 v18 r24 r25 r26 v19 h1 g0 f20)) [0, 1] rfl
              have hDc := hD.sub (ws' := (wd_5013416a h0 v0 r0 v1 v2 v3 v4 r1 r2 r3 r4 r5 r6 r7 v5 v6 r8 r9 r10 r11 v7 r12 r13 v8 v9 h1 r14 v10 v11 r15 v12 v13 r16 v14 w15 r17 v16 v17 r18 r19 r20 r21 r22 r23 v18 r24 r25 r26 v19 h1 g0 f20)) [0, 1] (by decide) rfl
              have hKc := hK.sub (tys' := [(g0, .int)]) [0] rfl
              have hFc := va_free (wc := (wd_5013416a h0 v0 r0 v1 v2 v3 v4 r1 r2 r3 r4 r5 r6 r7 v5 v6 r8 r9 r10 r11 v7 r12 r13 v8 v9 h1 r14 v10 v11 r15 v12 v13 r16 v14 w15 r17 v16 v17 r18 r19 r20 r21 r22 r23 v18 r24 r25 r26 v19 h1 g0 f20)) hD hS hA [0, 1] rfl
              refine va_calli (va_runV (As := [.int x20]) (rest := []) ⟨hx, hb, hml, hown, hts⟩ (k_X12_sizeOf l dC dI h0 h1 v0 r0 v1 v2 v3 v4 r1 r2 r3 r4 r5 r6 r7 v5 v6 r8 r9 r10 r11 v7 r12 r13 v8 v9 r14 v10 v11 r15 v12 v13 r16 v14 w15 r17 v16 v17 r18 r19 r20 r21 r22 r23 v18 r24 r25 r26 v19 g0 f20 x20 ⟨i_v1a, i_v1b⟩ ⟨i_v5a, i_v5b⟩ ⟨i_v6a, i_v6b⟩ ⟨i_v7a, i_v7b⟩ ⟨i_v8a, i_v8b⟩ ⟨i_v9a, i_v9b⟩ ⟨i_v10a, i_v10b⟩ ⟨i_v14a, i_v14b⟩ ⟨i_v18a, i_v18b⟩ ⟨i_v19a, i_v19b⟩ ia_f20 H.size) (cwV 1 hts g_X12_sale_4 rfl rfl rfl (by decide +kernel) ⟨Nat.le_of_ble_eq_true rfl, Nat.le_of_ble_eq_true rfl⟩) (pv_PV12 hPc hKc hDc (q0 := 0) rfl) rfl rfl hl.1 rfl (lv_room (Nat.le_of_ble_eq_true rfl)) dX12_sale_44 ⟨Nat.le_of_ble_eq_true rfl, Nat.le_of_ble_eq_true rfl⟩) hS (fun q _ h => hFc q h) hFc (fun ra40 u t H1 locs ht hvm hwra40 hB hz1 hk1 hS => ?_)
              try rw [hwra40] at hB
              obtain ⟨hP1, hK1, hD1⟩ := hB
              rw [ht] at hP1
              obtain ⟨hP2, hD2⟩ := va_join (wr := []) (w1 := (wd_5013416a h0 v0 r0 v1 v2 v3 v4 r1 r2 r3 r4 r5 r6 r7 v5 v6 r8 r9 r10 r11 v7 r12 r13 v8 v9 h1 r14 v10 v11 r15 v12 v13 r16 v14 w15 r17 v16 v17 r18 r19 r20 r21 r22 r23 v18 r24 r25 r26 v19 h1 g0 f20)) hP hD [0, 1] [] rfl rfl (by decide) (by decide) hk1 hFc hP1 hD1
              clear hP hD hPc hDc hKc hFc hP1 hK1 hD1 hk1 hz1
              generalize H1 = H at hP2 hS ⊢
              have hP : va_P (dC, dI) vwCl (wd_5013416a h0 v0 r0 v1 v2 v3 v4 r1 r2 r3 r4 r5 r6 r7 v5 v6 r8 r9 r10 r11 v7 r12 r13 v8 v9 h1 r14 v10 v11 r15 v12 v13 r16 v14 w15 r17 v16 v17 r18 r19 r20 r21 r22 r23 v18 r24 r25 r26 v19 h1 g0 f20) H := hP2
              have hD : va_D A (wd_5013416a h0 v0 r0 v1 v2 v3 v4 r1 r2 r3 r4 r5 r6 r7 v5 v6 r8 r9 r10 r11 v7 r12 r13 v8 v9 h1 r14 v10 v11 r15 v12 v13 r16 v14 w15 r17 v16 v17 r18 r19 r20 r21 r22 r23 v18 r24 r25 r26 v19 h1 g0 f20) := hD2
              clear hP2 hD2
              refine lv_iload_n hx hb dX12_sale_47 rfl (lv_at hl 3 rfl) ?_
              refine lv_icmp_lt (tgt := 55) hx hb dX12_sale_48 (by decide) (fun c41 => ?_) (fun c41 => ?_)
              · skip
                have fc41 : ra40.toInt < v21.toInt := Int32.lt_iff_toInt_lt.mp c41
                have r1c41 := Int32.toInt_lt ra40
                have r2c41 := Int32.toInt_lt v21
                have r3c41 := Int32.le_toInt ra40
                have r4c41 := Int32.le_toInt v21
                refine lv_iconst (v := 0) hx hb dX12_sale_55 (by decide) ?_
                exact hJ30 0 H locs ls (by decide) (by decide) hP hD hS (lv_sub hl [0, 1, 2, 3] rfl)
              · skip
                have fc41 : ¬ (ra40.toInt < v21.toInt) := fun h9 => c41 (Int32.lt_iff_toInt_lt.mpr h9)
                have r1c41 := Int32.toInt_lt ra40
                have r2c41 := Int32.toInt_lt v21
                have r3c41 := Int32.le_toInt ra40
                have r4c41 := Int32.le_toInt v21
                refine lv_iconst (v := 1) hx hb dX12_sale_51 (by decide) ?_
                refine lv_goto (tgt := 56) hx hb dX12_sale_52 (by decide) ?_
                exact hJ30 1 H locs ls (by decide) (by decide) hP hD hS (lv_sub hl [0, 1, 2, 3] rfl)
      exact hL24 _ 1 ((-1)) H locs ls (by decide) (by decide) (by decide) (by decide) (Nat.lt_succ_self _) hP hD hS (lv_sub hl [0, 1, 2, 3] rfl)
    · skip
      have fc3 : ra2.toInt = 0 := congrArg Int32.toInt c3
      refine lv_iconst (v := (-1)) hx hb dX12_sale_18 (by decide) ?_
      subst hQ
      have hP9 := hP.sub (ws' := (wd_5013416a h0 v0 r0 v1 v2 v3 v4 r1 r2 r3 r4 r5 r6 r7 v5 v6 r8 r9 r10 r11 v7 r12 r13 v8 v9 h1 r14 v10 v11 r15 v12 v13 r16 v14 w15 r17 v16 v17 r18 r19 r20 r21 r22 r23 v18 r24 r25 r26 v19 h1 g0 f20)) [0, 1] rfl
      have hD9 := hD.sub (ws' := (wd_5013416a h0 v0 r0 v1 v2 v3 v4 r1 r2 r3 r4 r5 r6 r7 v5 v6 r8 r9 r10 r11 v7 r12 r13 v8 v9 h1 r14 v10 v11 r15 v12 v13 r16 v14 w15 r17 v16 v17 r18 r19 r20 r21 r22 r23 v18 r24 r25 r26 v19 h1 g0 f20)) [0, 1] (by decide) rfl
      have hK9 := hK.sub (tys' := []) [] rfl
      exact W.iret (v := (-1)) hx hb hr (fun t ht hW => ⟨⟨(-1), (-1), rfl, rfl, ⟨by first | omega | decide, by first | omega | decide, by rw [ht]; exact hP9, va_K.moved hW.alike hK9, hD9⟩⟩, hS.F ht⟩) hS.2.2 dX12_sale_19
def q_X12_due : List Cond := .code yX12_due cX12_due 3 (some .int) :: (([.code yX12_isThere cX12_isThere 2 (some .boolean), .code yX12_in cX12_in 3 (some .boolean), .initialized RX12, .static yX12_in, .methodLink RX12 217 yX12_in, .code yX12_of cX12_of 3 (some .int), .fieldLink RX12 52 "LeftArgumentsModel" "now" "[I", .instanceMethod yX12_of, .selects RX12 yX12_of yX12_of, .methodLink RX12 287 yX12_of, .instanceMethod yX12_isThere, .selects RX12 yX12_isThere yX12_isThere, .methodLink RX12 290 yX12_isThere, .fieldLink RX12 46 "LeftArgumentsModel" "rule" "[I"] : List Cond) ++ wsX120)
set_option maxRecDepth 20000 in
theorem g_X12_due_0 : GoodIn q_X12_due (wsV RX12 290 RX12 yX12_isThere q_X12_isThere) := goodIn_app (goodIn_r _ [13, 11, 12, 3] rfl (by decide +kernel)) (goodIn_ca (goodIn_r (.code yX12_isThere cX12_isThere 2 (some .boolean) :: [.code yX12_in cX12_in 3 (some .boolean), .initialized RX12, .static yX12_in, .methodLink RX12 217 yX12_in, .code yX12_of cX12_of 3 (some .int), .fieldLink RX12 52 "LeftArgumentsModel" "now" "[I", .instanceMethod yX12_of, .selects RX12 yX12_of yX12_of, .methodLink RX12 287 yX12_of]) [1, 2, 3, 4, 5, 6, 7, 8, 9, 10] rfl (by decide +kernel)) (goodIn_sub (fun _ h => List.mem_cons_of_mem _ (List.mem_append_right _ h)) gwX12))
set_option maxRecDepth 20000 in
theorem g_X12_due_1 : GoodIn q_X12_due (wsV RX12 287 RX12 yX12_of q_X12_of_5) := goodIn_app (goodIn_r _ [10, 8, 9, 3] rfl (by decide +kernel)) (goodIn_ca (goodIn_r (.code yX12_of cX12_of 3 (some .int) :: [.fieldLink RX12 52 "LeftArgumentsModel" "now" "[I"]) [6, 7] rfl (by decide +kernel)) (goodIn_sub (fun _ h => List.mem_cons_of_mem _ (List.mem_append_right _ h)) gwX12))
set_option maxHeartbeats 4000000 in
set_option maxRecDepth 100000 in
theorem k_X12_due (l : Launch) (dC : Nat → ClassId) (dI : Nat → Nat → Nat) (h0 : Nat) (h1 : Nat) (h2 : Nat) (v0 : Int32) (r0 : Nat) (v1 : Int32) (v2 : Int32) (v3 : Int32) (v4 : Int32) (r1 : Nat) (r2 : Nat) (r3 : Nat) (r4 : Nat) (r5 : Nat) (r6 : Nat) (r7 : Nat) (v5 : Int32) (v6 : Int32) (r8 : Nat) (r9 : Nat) (r10 : Nat) (r11 : Nat) (v7 : Int32) (r12 : Nat) (v8 : Int32) (v9 : Int32) (r13 : Nat) (v10 : Int32) (v11 : Int32) (r14 : Nat) (v12 : Int32) (v13 : Int32) (r15 : Nat) (v14 : Int32) (w15 : Int64) (r16 : Nat) (v16 : Int32) (v17 : Int32) (r17 : Nat) (r18 : Nat) (r19 : Nat) (r20 : Nat) (r21 : Nat) (r22 : Nat) (v18 : Int32) (r23 : Nat) (r24 : Nat) (r25 : Nat) (v19 : Int32) (g0 : ClassId) (f20 : Nat → Int32) (g1 : ClassId) (f21 : Nat → Int32) (i_v1 : 0 ≤ v1.toInt ∧ v1.toInt ≤ 240) (i_v5 : 0 ≤ v5.toInt ∧ v5.toInt ≤ 4) (i_v6 : 0 ≤ v6.toInt ∧ v6.toInt ≤ 4) (i_v7 : 0 ≤ v7.toInt ∧ v7.toInt ≤ 8) (i_v8 : 0 ≤ v8.toInt ∧ v8.toInt ≤ 8) (i_v9 : 0 ≤ v9.toInt ∧ v9.toInt ≤ 1) (i_v10 : -1 ≤ v10.toInt ∧ v10.toInt ≤ 3) (i_v14 : 0 ≤ v14.toInt ∧ v14.toInt ≤ 40) (i_v18 : 0 ≤ v18.toInt ∧ v18.toInt ≤ 10) (i_v19 : 0 ≤ v19.toInt ∧ v19.toInt ≤ 1) (ia_f20 : (pm_RU f20)) (ia_f21 : (pm_NW f21)) (sz : Nat) : Met l yX12_due q_X12_due ({ frames := 2, cells := 0, slots := 0, locals := 43 }) (va_Pc [.ref h0] (fun U => U.heap.size = sz ∧ va_P (dC, dI) vwCl (wd_78675856 h0 v0 r0 v1 v2 v3 v4 r1 r2 r3 r4 r5 r6 r7 v5 v6 r8 r9 r10 r11 v7 h1 r12 v8 v9 h2 r13 v10 v11 r14 v12 v13 r15 v14 w15 r16 v16 v17 r17 r18 r19 r20 r21 r22 v18 r23 r24 r25 v19 h1 g0 f20 h2 g1 f21) U.heap ∧ va_K (dC, dI) vwCl [(g0, .int), (g1, .int)] U ∧ va_D (fun _ => True) (wd_78675856 h0 v0 r0 v1 v2 v3 v4 r1 r2 r3 r4 r5 r6 r7 v5 v6 r8 r9 r10 r11 v7 h1 r12 v8 v9 h2 r13 v10 v11 r14 v12 v13 r15 v14 w15 r16 v16 v17 r17 r18 r19 r20 r21 r22 v18 r23 r24 r25 v19 h1 g0 f20 h2 g1 f21))) (va_Qi (fun (r : Int32) (r9 : Int32) => r9 = r) (fun (r : Int32) (t : State) => (va_P (dC, dI) vwCl (wd_78675856 h0 v0 r0 v1 v2 v3 v4 r1 r2 r3 r4 r5 r6 r7 v5 v6 r8 r9 r10 r11 v7 h1 r12 v8 v9 h2 r13 v10 v11 r14 v12 v13 r15 v14 w15 r16 v16 v17 r17 r18 r19 r20 r21 r22 v18 r23 r24 r25 v19 h1 g0 f20 h2 g1 f21) t.heap ∧ va_K (dC, dI) vwCl [] t ∧ va_D (va_A (wd_78675856 h0 v0 r0 v1 v2 v3 v4 r1 r2 r3 r4 r5 r6 r7 v5 v6 r8 r9 r10 r11 v7 h1 r12 v8 v9 h2 r13 v10 v11 r14 v12 v13 r15 v14 w15 r16 v16 v17 r17 r18 r19 r20 r21 r22 v18 r23 r24 r25 v19 h1 g0 f20 h2 g1 f21) sz) (wd_78675856 h0 v0 r0 v1 v2 v3 v4 r1 r2 r3 r4 r5 r6 r7 v5 v6 r8 r9 r10 r11 v7 h1 r12 v8 v9 h2 r13 v10 v11 r14 v12 v13 r15 v14 w15 r16 v16 v17 r17 r18 r19 r20 r21 r22 v18 r23 r24 r25 v19 h1 g0 f20 h2 g1 f21))) (va_A (wd_78675856 h0 v0 r0 v1 v2 v3 v4 r1 r2 r3 r4 r5 r6 r7 v5 v6 r8 r9 r10 r11 v7 h1 r12 v8 v9 h2 r13 v10 v11 r14 v12 v13 r15 v14 w15 r16 v16 v17 r17 r18 r19 r20 r21 r22 v18 r23 r24 r25 v19 h1 g0 f20 h2 g1 f21) sz)) 0 0 (va_A (wd_78675856 h0 v0 r0 v1 v2 v3 v4 r1 r2 r3 r4 r5 r6 r7 v5 v6 r8 r9 r10 r11 v7 h1 r12 v8 v9 h2 r13 v10 v11 r14 v12 v13 r15 v14 w15 r16 v16 v17 r17 r18 r19 r20 r21 r22 v18 r23 r24 r25 v19 h1 g0 f20 h2 g1 f21) sz) := by
  refine Met.ofW (cc := cX12_due) (maxL := 3) (ret := (some .int)) (by decide) rfl ?_
  intro p e s m args below meth c s₁ B hml hv
  obtain ⟨i_v1a, i_v1b⟩ := i_v1
  obtain ⟨i_v5a, i_v5b⟩ := i_v5
  obtain ⟨i_v6a, i_v6b⟩ := i_v6
  obtain ⟨i_v7a, i_v7b⟩ := i_v7
  obtain ⟨i_v8a, i_v8b⟩ := i_v8
  obtain ⟨i_v9a, i_v9b⟩ := i_v9
  obtain ⟨i_v10a, i_v10b⟩ := i_v10
  obtain ⟨i_v14a, i_v14b⟩ := i_v14
  obtain ⟨i_v18a, i_v18b⟩ := i_v18
  obtain ⟨i_v19a, i_v19b⟩ := i_v19
  obtain ⟨rfl, hsz, hP, hK, hD0⟩ := hv
  have hx := B.exec
  have hb := B.bytes
  have hr := B.returns
  have hts := atoms_spec (ws := q_X12_due) B.pre
  have hown : s.vm.findClass RX12 = some m.cls := findClass_of_methodNamed B.named
  have hlocks := B.notSynchronized
  subst hsz
  have hD := hD0.self (sz := s.heap.size)
  generalize hAe : va_A (wd_78675856 h0 v0 r0 v1 v2 v3 v4 r1 r2 r3 r4 r5 r6 r7 v5 v6 r8 r9 r10 r11 v7 h1 r12 v8 v9 h2 r13 v10 v11 r14 v12 v13 r15 v14 w15 r16 v16 v17 r17 r18 r19 r20 r21 r22 v18 r23 r24 r25 v19 h1 g0 f20 h2 g1 f21) s.heap.size = A at hD ⊢
  have hA : ∀ q : Nat, s.heap.size ≤ q → A q := fun q h => by rw [← hAe]; exact Or.inr h
  have hS : va_S A s.heap s.heap [] := va_S.rf
  generalize hQ : (MQ below _ _ s 0 0 A) = Q
  have hl := lv_entry ([.ref h0]) (n := 3) (Nat.le_of_ble_eq_true rfl)
  rw [lg_entry_eq]
  generalize (lg_sl ([.ref h0]) ++ List.replicate (3 - (lg_sl ([.ref h0])).length) Slot.unset).toArray = ls at hl ⊢
  have hl : lv_has ls 3 [(0, .ref h0)] := hl
  obtain ⟨H, hH⟩ : ∃ H : Heap, H = s.heap := ⟨_, rfl⟩
  obtain ⟨locs, hlocs⟩ : ∃ y : List Loc, y = [] := ⟨_, rfl⟩
  have hS : va_S A s.heap H locs := by rw [hH, hlocs]; exact va_S.rf
  have hP : va_P (dC, dI) vwCl (wd_78675856 h0 v0 r0 v1 v2 v3 v4 r1 r2 r3 r4 r5 r6 r7 v5 v6 r8 r9 r10 r11 v7 h1 r12 v8 v9 h2 r13 v10 v11 r14 v12 v13 r15 v14 w15 r16 v16 v17 r17 r18 r19 r20 r21 r22 v18 r23 r24 r25 v19 h1 g0 f20 h2 g1 f21) H := by rw [hH]; exact hP
  rw [← hH, ← hlocs]
  refine lv_iconst (v := 0) hx hb dX12_due_0 (by decide) ?_
  refine lv_istore_n (lv' := [(1, .int 0), (0, .ref h0)]) hx hb dX12_due_1 rfl hl (by decide) rfl (fun ls hl => ?_)
  refine lv_iconst (v := 0) hx hb dX12_due_2 (by decide) ?_
  refine lv_istore_n (lv' := [(2, .int 0), (1, .int 0), (0, .ref h0)]) hx hb dX12_due_3 rfl hl (by decide) rfl (fun ls hl => ?_)
  have hL19 : ∀ (n9 : Nat), ∀ (x15 : Int32) (x16 : Int32) (H : Heap) (locs : List Loc) (ls : Array Slot), 0 ≤ x15.toInt → x15.toInt ≤ 8 → (8 - x15.toInt).toNat < n9 → va_P (dC, dI) vwCl (wd_78675856 h0 v0 r0 v1 v2 v3 v4 r1 r2 r3 r4 r5 r6 r7 v5 v6 r8 r9 r10 r11 v7 h1 r12 v8 v9 h2 r13 v10 v11 r14 v12 v13 r15 v14 w15 r16 v16 v17 r17 r18 r19 r20 r21 r22 v18 r23 r24 r25 v19 h1 g0 f20 h2 g1 f21) H → va_D A (wd_78675856 h0 v0 r0 v1 v2 v3 v4 r1 r2 r3 r4 r5 r6 r7 v5 v6 r8 r9 r10 r11 v7 h1 r12 v8 v9 h2 r13 v10 v11 r14 v12 v13 r15 v14 w15 r16 v16 v17 r17 r18 r19 r20 r21 r22 v18 r23 r24 r25 v19 h1 g0 f20 h2 g1 f21) → va_S A s.heap H locs → lv_has ls 3 [(2, .int x15), (1, .int x16), (0, .ref h0)] → W p l e ({ frames := 2, cells := 0, slots := 0, locals := 43 }) s m ([.ref h0] : List Value).toArray below meth c H locs 0 0 Q (F0 m 4 ls []) := by
    intro n9
    induction n9 with
    | zero => intro x15 x16 H locs ls qa_x15 qb_x15 hm9 hP hD hS hl; exact absurd hm9 (Nat.not_lt_zero _)
    | succ n9 ih_hL19 =>
      intro x15 x16 H locs ls qa_x15 qb_x15 hm9 hP hD hS hl
      refine lv_iload_n hx hb dX12_due_4 rfl (lv_at hl 0 rfl) ?_
      refine lv_bipush (v := 8) hx hb dX12_due_5 (by decide) ?_
      refine lv_icmp_ge (tgt := 44) hx hb dX12_due_7 (by decide) (fun c20 => ?_) (fun c20 => ?_)
      · skip
        have fc20 : 8 ≤ x15.toInt := Int32.le_iff_toInt_le.mp c20
        refine lv_iload_n hx hb dX12_due_44 rfl (lv_at hl 1 rfl) ?_
        subst hQ
        have hP9 := hP.sub (ws' := (wd_78675856 h0 v0 r0 v1 v2 v3 v4 r1 r2 r3 r4 r5 r6 r7 v5 v6 r8 r9 r10 r11 v7 h1 r12 v8 v9 h2 r13 v10 v11 r14 v12 v13 r15 v14 w15 r16 v16 v17 r17 r18 r19 r20 r21 r22 v18 r23 r24 r25 v19 h1 g0 f20 h2 g1 f21)) [0, 1, 2] rfl
        have hD9 := hD.sub (ws' := (wd_78675856 h0 v0 r0 v1 v2 v3 v4 r1 r2 r3 r4 r5 r6 r7 v5 v6 r8 r9 r10 r11 v7 h1 r12 v8 v9 h2 r13 v10 v11 r14 v12 v13 r15 v14 w15 r16 v16 v17 r17 r18 r19 r20 r21 r22 v18 r23 r24 r25 v19 h1 g0 f20 h2 g1 f21)) [0, 1, 2] (by decide) rfl
        have hK9 := hK.sub (tys' := []) [] rfl
        exact W.iret (v := x16) hx hb hr (fun t ht hW => ⟨⟨x16, x16, rfl, rfl, ⟨by rw [ht]; exact hP9, va_K.moved hW.alike hK9, hD9⟩⟩, hS.F ht⟩) hS.2.2 dX12_due_45
      · skip
        have fc20 : ¬ (8 ≤ x15.toInt) := fun h9 => c20 (Int32.le_iff_toInt_le.mpr h9)
        refine lv_iload_n hx hb dX12_due_10 rfl (lv_at hl 1 rfl) ?_
        refine lv_aload_n hx hb dX12_due_11 rfl (lv_at hl 2 rfl) ?_
        refine lv_iload_n hx hb dX12_due_12 rfl (lv_at hl 0 rfl) ?_
        have hPc := hP.sub (ws' := (wd_5013416a h0 v0 r0 v1 v2 v3 v4 r1 r2 r3 r4 r5 r6 r7 v5 v6 r8 r9 r10 r11 v7 h1 r12 v8 v9 h2 r13 v10 v11 r14 v12 v13 r15 v14 w15 r16 v16 v17 r17 r18 r19 r20 r21 r22 v18 r23 r24 r25 v19 h2 g1 f21)) [0, 2] rfl
        have hDc := hD.sub (ws' := (wd_5013416a h0 v0 r0 v1 v2 v3 v4 r1 r2 r3 r4 r5 r6 r7 v5 v6 r8 r9 r10 r11 v7 h1 r12 v8 v9 h2 r13 v10 v11 r14 v12 v13 r15 v14 w15 r16 v16 v17 r17 r18 r19 r20 r21 r22 v18 r23 r24 r25 v19 h2 g1 f21)) [0, 2] (by decide) rfl
        have hKc := hK.sub (tys' := [(g1, .int)]) [1] rfl
        have hFc := va_free (wc := (wd_5013416a h0 v0 r0 v1 v2 v3 v4 r1 r2 r3 r4 r5 r6 r7 v5 v6 r8 r9 r10 r11 v7 h1 r12 v8 v9 h2 r13 v10 v11 r14 v12 v13 r15 v14 w15 r16 v16 v17 r17 r18 r19 r20 r21 r22 v18 r23 r24 r25 v19 h2 g1 f21)) hD hS hA [0, 2] rfl
        refine va_calli (va_runV (As := [.int x15]) (rest := [.int x16]) ⟨hx, hb, hml, hown, hts⟩ (k_X12_isThere l dC dI h0 h2 v0 r0 v1 v2 v3 v4 r1 r2 r3 r4 r5 r6 r7 v5 v6 r8 r9 r10 r11 v7 h1 r12 v8 v9 r13 v10 v11 r14 v12 v13 r15 v14 w15 r16 v16 v17 r17 r18 r19 r20 r21 r22 v18 r23 r24 r25 v19 g1 f21 x15 ⟨i_v1a, i_v1b⟩ ⟨i_v5a, i_v5b⟩ ⟨i_v6a, i_v6b⟩ ⟨i_v7a, i_v7b⟩ ⟨i_v8a, i_v8b⟩ ⟨i_v9a, i_v9b⟩ ⟨i_v10a, i_v10b⟩ ⟨i_v14a, i_v14b⟩ ⟨i_v18a, i_v18b⟩ ⟨i_v19a, i_v19b⟩ ia_f21.1 H.size) (cwV 1 hts g_X12_due_0 rfl rfl rfl (by decide +kernel) ⟨Nat.le_of_ble_eq_true rfl, Nat.le_of_ble_eq_true rfl⟩) (pv_PV12 hPc hKc hDc (q0 := 0) rfl) rfl rfl hl.1 rfl (lv_room (Nat.le_of_ble_eq_true rfl)) dX12_due_13 ⟨Nat.le_of_ble_eq_true rfl, Nat.le_of_ble_eq_true rfl⟩) hS (fun q _ h => hFc q h) hFc (fun ra21 u t H1 locs ht hvm hwra21 hB hz1 hk1 hS => ?_)
        try rw [hwra21] at hB
        obtain ⟨pt0_ra21, pt1_ra21, pt2_ra21, pt3_ra21, pt4_ra21, pt5_ra21, hP1, hK1, hD1⟩ := hB
        rw [ht] at hP1
        obtain ⟨hP2, hD2⟩ := va_join (wr := (wd_6f8f3203 h1 g0 f20)) (w1 := (wd_5013416a h0 v0 r0 v1 v2 v3 v4 r1 r2 r3 r4 r5 r6 r7 v5 v6 r8 r9 r10 r11 v7 h1 r12 v8 v9 h2 r13 v10 v11 r14 v12 v13 r15 v14 w15 r16 v16 v17 r17 r18 r19 r20 r21 r22 v18 r23 r24 r25 v19 h2 g1 f21)) hP hD [0, 2] [1] rfl rfl (by decide) (by decide) hk1 hFc hP1 hD1
        clear hP hD hPc hDc hKc hFc hP1 hK1 hD1 hk1 hz1
        generalize H1 = H at hP2 hS ⊢
        have hP := hP2.sub (ws' := (wd_78675856 h0 v0 r0 v1 v2 v3 v4 r1 r2 r3 r4 r5 r6 r7 v5 v6 r8 r9 r10 r11 v7 h1 r12 v8 v9 h2 r13 v10 v11 r14 v12 v13 r15 v14 w15 r16 v16 v17 r17 r18 r19 r20 r21 r22 v18 r23 r24 r25 v19 h1 g0 f20 h2 g1 f21)) [1, 0, 2] rfl
        have hD := hD2.sub (ws' := (wd_78675856 h0 v0 r0 v1 v2 v3 v4 r1 r2 r3 r4 r5 r6 r7 v5 v6 r8 r9 r10 r11 v7 h1 r12 v8 v9 h2 r13 v10 v11 r14 v12 v13 r15 v14 w15 r16 v16 v17 r17 r18 r19 r20 r21 r22 v18 r23 r24 r25 v19 h1 g0 f20 h2 g1 f21)) [1, 0, 2] (by decide) rfl
        clear hP2 hD2
        have wra21 : ra21.toInt = 0 → ¬ f21 (pm_I x15 7) = 1 := fun h9 => pt5_ra21 h9 (by omega) (by omega)
        have hJ23 : ∀ (x22 : Int32) (H : Heap) (locs : List Loc) (ls : Array Slot), va_P (dC, dI) vwCl (wd_78675856 h0 v0 r0 v1 v2 v3 v4 r1 r2 r3 r4 r5 r6 r7 v5 v6 r8 r9 r10 r11 v7 h1 r12 v8 v9 h2 r13 v10 v11 r14 v12 v13 r15 v14 w15 r16 v16 v17 r17 r18 r19 r20 r21 r22 v18 r23 r24 r25 v19 h1 g0 f20 h2 g1 f21) H → va_D A (wd_78675856 h0 v0 r0 v1 v2 v3 v4 r1 r2 r3 r4 r5 r6 r7 v5 v6 r8 r9 r10 r11 v7 h1 r12 v8 v9 h2 r13 v10 v11 r14 v12 v13 r15 v14 w15 r16 v16 v17 r17 r18 r19 r20 r21 r22 v18 r23 r24 r25 v19 h1 g0 f20 h2 g1 f21) → va_S A s.heap H locs → lv_has ls 3 [(2, .int x15), (1, .int x16), (0, .ref h0)] → W p l e ({ frames := 2, cells := 0, slots := 0, locals := 43 }) s m ([.ref h0] : List Value).toArray below meth c H locs 0 0 Q (F0 m 36 ls [.int x22, .int x16]) := by
          intro x22 H locs ls hP hD hS hl
          refine lv_iadd hx hb dX12_due_36 ?_
          refine lv_topi (fun t24 et24 => ?_)
          refine lv_istore_n (lv' := [(1, .int t24), (2, .int x15), (0, .ref h0)]) hx hb dX12_due_37 rfl hl (by decide) rfl (fun ls hl => ?_)
          obtain ⟨t25, et25⟩ : ∃ y : Int32, y = x15 + 1 := ⟨_, rfl⟩
          have gt25 : t25.toInt = x15.toInt + (1) := pv_add (a := x15.toInt) (b := (1)) et25 rfl (by decide) (by omega) (by omega)
          refine lv_iinc (v := t25) (lv' := [(2, .int t25), (1, .int t24), (0, .ref h0)]) hx hb dX12_due_38 hl (k := 1) rfl (by rw [et25]; rfl) (by decide) rfl (fun ls hl => ?_)
          refine lv_goto (tgt := 4) hx hb dX12_due_41 (by decide) ?_
          exact ih_hL19 t25 t24 H locs ls (by first | omega | decide) (by first | omega | decide) (by first | omega | (simp only [Int.toNat] at *; omega)) hP hD hS (lv_sub hl [0, 1, 2] rfl)
        refine lv_if_eq (tgt := 35) hx hb dX12_due_16 (by decide) (fun c26 => ?_) (fun c26 => ?_)
        · skip
          have fc26 : ra21.toInt = 0 := congrArg Int32.toInt c26
          have q0wra21 := wra21 (by omega)
          refine lv_iconst (v := 0) hx hb dX12_due_35 (by decide) ?_
          exact hJ23 0 H locs ls hP hD hS (lv_sub hl [0, 1, 2] rfl)
        · skip
          have fc26 : ¬ (ra21.toInt = 0) := fun h9 => c26 (Int32.toInt_inj.mp h9)
          have q1pt4_ra21 := pt4_ra21 (by omega)
          refine lv_aload_n hx hb dX12_due_19 rfl (lv_at hl 2 rfl) ?_
          refine va_get (D := (dC, dI)) (ci := 12) (v := .ref h1) (C := RX12) (T := TX12) (N := 48) hx hb hts (fun _ h => List.mem_cons_of_mem _ (List.mem_append_right _ h)) hown hK hP 0 rfl rfl 20 (by decide) (hts (.fieldLink RX12 46 "LeftArgumentsModel" "rule" "[I") (List.mem_cons_of_mem _ (List.mem_append_left _ (List.mem_of_getElem? (i := 13) rfl)))) (fun _ h9 => h9) rfl dX12_due_20 ?_
          refine lv_iconst (v := 2) hx hb dX12_due_23 (by decide) ?_
          refine va_iald hx hb hK hP 1 0 rfl rfl (pv_c (x := 2) (n := 4) (by decide)) dX12_due_24 ?_
          refine lv_topi (fun t27 et27 => ?_)
          refine lv_aload_n hx hb dX12_due_25 rfl (lv_at hl 2 rfl) ?_
          refine lv_iload_n hx hb dX12_due_26 rfl (lv_at hl 0 rfl) ?_
          refine lv_iconst (v := 5) hx hb dX12_due_27 (by decide) ?_
          have hPc := hP.sub (ws' := (wd_5013416a h0 v0 r0 v1 v2 v3 v4 r1 r2 r3 r4 r5 r6 r7 v5 v6 r8 r9 r10 r11 v7 h1 r12 v8 v9 h2 r13 v10 v11 r14 v12 v13 r15 v14 w15 r16 v16 v17 r17 r18 r19 r20 r21 r22 v18 r23 r24 r25 v19 h2 g1 f21)) [0, 2] rfl
          have hDc := hD.sub (ws' := (wd_5013416a h0 v0 r0 v1 v2 v3 v4 r1 r2 r3 r4 r5 r6 r7 v5 v6 r8 r9 r10 r11 v7 h1 r12 v8 v9 h2 r13 v10 v11 r14 v12 v13 r15 v14 w15 r16 v16 v17 r17 r18 r19 r20 r21 r22 v18 r23 r24 r25 v19 h2 g1 f21)) [0, 2] (by decide) rfl
          have hKc := hK.sub (tys' := [(g1, .int)]) [1] rfl
          have hFc := va_free (wc := (wd_5013416a h0 v0 r0 v1 v2 v3 v4 r1 r2 r3 r4 r5 r6 r7 v5 v6 r8 r9 r10 r11 v7 h1 r12 v8 v9 h2 r13 v10 v11 r14 v12 v13 r15 v14 w15 r16 v16 v17 r17 r18 r19 r20 r21 r22 v18 r23 r24 r25 v19 h2 g1 f21)) hD hS hA [0, 2] rfl
          refine va_calli (va_runV (As := [.int x15, .int 5]) (rest := [.int t27, .int x16]) ⟨hx, hb, hml, hown, hts⟩ (k_X12_of_5 l dC dI h0 h2 v0 r0 v1 v2 v3 v4 r1 r2 r3 r4 r5 r6 r7 v5 v6 r8 r9 r10 r11 v7 h1 r12 v8 v9 r13 v10 v11 r14 v12 v13 r15 v14 w15 r16 v16 v17 r17 r18 r19 r20 r21 r22 v18 r23 r24 r25 v19 g1 f21 x15 ⟨i_v1a, i_v1b⟩ ⟨i_v5a, i_v5b⟩ ⟨i_v6a, i_v6b⟩ ⟨i_v7a, i_v7b⟩ ⟨i_v8a, i_v8b⟩ ⟨i_v9a, i_v9b⟩ ⟨i_v10a, i_v10b⟩ ⟨i_v14a, i_v14b⟩ ⟨i_v18a, i_v18b⟩ ⟨i_v19a, i_v19b⟩ ⟨qa_x15, by first | omega | decide⟩ ia_f21.1 H.size) (cwV 2 hts g_X12_due_1 rfl rfl rfl (by decide +kernel) ⟨Nat.le_of_ble_eq_true rfl, Nat.le_of_ble_eq_true rfl⟩) (pv_PV12 hPc hKc hDc (q0 := 0) rfl) rfl rfl hl.1 rfl (lv_room (Nat.le_of_ble_eq_true rfl)) dX12_due_28 ⟨Nat.le_of_ble_eq_true rfl, Nat.le_of_ble_eq_true rfl⟩) hS (fun q _ h => hFc q h) hFc (fun ra28 u t H1 locs ht hvm hwra28 hB hz1 hk1 hS => ?_)
          try rw [hwra28] at hB
          obtain ⟨pt0_ra28, hP1, hK1, hD1⟩ := hB
          rw [ht] at hP1
          obtain ⟨hP2, hD2⟩ := va_join (wr := (wd_6f8f3203 h1 g0 f20)) (w1 := (wd_5013416a h0 v0 r0 v1 v2 v3 v4 r1 r2 r3 r4 r5 r6 r7 v5 v6 r8 r9 r10 r11 v7 h1 r12 v8 v9 h2 r13 v10 v11 r14 v12 v13 r15 v14 w15 r16 v16 v17 r17 r18 r19 r20 r21 r22 v18 r23 r24 r25 v19 h2 g1 f21)) hP hD [0, 2] [1] rfl rfl (by decide) (by decide) hk1 hFc hP1 hD1
          clear hP hD hPc hDc hKc hFc hP1 hK1 hD1 hk1 hz1
          generalize H1 = H at hP2 hS ⊢
          have hP := hP2.sub (ws' := (wd_78675856 h0 v0 r0 v1 v2 v3 v4 r1 r2 r3 r4 r5 r6 r7 v5 v6 r8 r9 r10 r11 v7 h1 r12 v8 v9 h2 r13 v10 v11 r14 v12 v13 r15 v14 w15 r16 v16 v17 r17 r18 r19 r20 r21 r22 v18 r23 r24 r25 v19 h1 g0 f20 h2 g1 f21)) [1, 0, 2] rfl
          have hD := hD2.sub (ws' := (wd_78675856 h0 v0 r0 v1 v2 v3 v4 r1 r2 r3 r4 r5 r6 r7 v5 v6 r8 r9 r10 r11 v7 h1 r12 v8 v9 h2 r13 v10 v11 r14 v12 v13 r15 v14 w15 r16 v16 v17 r17 r18 r19 r20 r21 r22 v18 r23 r24 r25 v19 h1 g0 f20 h2 g1 f21)) [1, 0, 2] (by decide) rfl
          clear hP2 hD2
          refine lv_imul hx hb dX12_due_31 ?_
          refine lv_topi (fun t29 et29 => ?_)
          refine lv_goto (tgt := 36) hx hb dX12_due_32 (by decide) ?_
          exact hJ23 t29 H locs ls hP hD hS (lv_sub hl [0, 1, 2] rfl)
  exact hL19 _ 0 0 H locs ls (by decide) (by decide) (Nat.lt_succ_self _) hP hD hS (lv_sub hl [0, 1, 2] rfl)
def q_X12_roomLeft : List Cond := .code yX12_roomLeft cX12_roomLeft 3 (some .int) :: (([.fieldLink RX12 46 "LeftArgumentsModel" "rule" "[I", .code yX12_loadOf cX12_loadOf 4 (some .int), .code yX12_isThere cX12_isThere 2 (some .boolean), .code yX12_in cX12_in 3 (some .boolean), .initialized RX12, .static yX12_in, .methodLink RX12 217 yX12_in, .code yX12_of cX12_of 3 (some .int), .fieldLink RX12 52 "LeftArgumentsModel" "now" "[I", .instanceMethod yX12_of, .selects RX12 yX12_of yX12_of, .methodLink RX12 287 yX12_of, .instanceMethod yX12_isThere, .selects RX12 yX12_isThere yX12_isThere, .methodLink RX12 290 yX12_isThere, .instanceMethod yX12_loadOf, .selects RX12 yX12_loadOf yX12_loadOf, .methodLink RX12 312 yX12_loadOf, .methodLink RX12 301 Lib.Math.max.name, .static Lib.Math.max.name, .initialized "java/lang/Math", .code Lib.Math.max.name Lib.Math.max.code 2 (some .int)] : List Cond) ++ wsX120)
set_option maxRecDepth 20000 in
theorem g_X12_roomLeft_0 : GoodIn q_X12_roomLeft (wsV RX12 312 RX12 yX12_loadOf q_X12_loadOf) := goodIn_app (goodIn_r _ [18, 16, 17, 5] rfl (by decide +kernel)) (goodIn_ca (goodIn_r (.code yX12_loadOf cX12_loadOf 4 (some .int) :: [.code yX12_isThere cX12_isThere 2 (some .boolean), .code yX12_in cX12_in 3 (some .boolean), .initialized RX12, .static yX12_in, .methodLink RX12 217 yX12_in, .code yX12_of cX12_of 3 (some .int), .fieldLink RX12 52 "LeftArgumentsModel" "now" "[I", .instanceMethod yX12_of, .selects RX12 yX12_of yX12_of, .methodLink RX12 287 yX12_of, .instanceMethod yX12_isThere, .selects RX12 yX12_isThere yX12_isThere, .methodLink RX12 290 yX12_isThere]) [2, 3, 4, 5, 6, 7, 8, 9, 10, 11, 12, 13, 14, 15] rfl (by decide +kernel)) (goodIn_sub (fun _ h => List.mem_cons_of_mem _ (List.mem_append_right _ h)) gwX12))
set_option maxHeartbeats 4000000 in
set_option maxRecDepth 100000 in
theorem k_X12_roomLeft (l : Launch) (dC : Nat → ClassId) (dI : Nat → Nat → Nat) (h0 : Nat) (h1 : Nat) (h2 : Nat) (v0 : Int32) (r0 : Nat) (v1 : Int32) (v2 : Int32) (v3 : Int32) (v4 : Int32) (r1 : Nat) (r2 : Nat) (r3 : Nat) (r4 : Nat) (r5 : Nat) (r6 : Nat) (r7 : Nat) (v5 : Int32) (v6 : Int32) (r8 : Nat) (r9 : Nat) (r10 : Nat) (r11 : Nat) (v7 : Int32) (r12 : Nat) (v8 : Int32) (v9 : Int32) (r13 : Nat) (v10 : Int32) (v11 : Int32) (r14 : Nat) (v12 : Int32) (v13 : Int32) (r15 : Nat) (v14 : Int32) (w15 : Int64) (r16 : Nat) (v16 : Int32) (v17 : Int32) (r17 : Nat) (r18 : Nat) (r19 : Nat) (r20 : Nat) (r21 : Nat) (r22 : Nat) (v18 : Int32) (r23 : Nat) (r24 : Nat) (r25 : Nat) (v19 : Int32) (g0 : ClassId) (f20 : Nat → Int32) (g1 : ClassId) (f21 : Nat → Int32) (i_v1 : 0 ≤ v1.toInt ∧ v1.toInt ≤ 240) (i_v5 : 0 ≤ v5.toInt ∧ v5.toInt ≤ 4) (i_v6 : 0 ≤ v6.toInt ∧ v6.toInt ≤ 4) (i_v7 : 0 ≤ v7.toInt ∧ v7.toInt ≤ 8) (i_v8 : 0 ≤ v8.toInt ∧ v8.toInt ≤ 8) (i_v9 : 0 ≤ v9.toInt ∧ v9.toInt ≤ 1) (i_v10 : -1 ≤ v10.toInt ∧ v10.toInt ≤ 3) (i_v14 : 0 ≤ v14.toInt ∧ v14.toInt ≤ 40) (i_v18 : 0 ≤ v18.toInt ∧ v18.toInt ≤ 10) (i_v19 : 0 ≤ v19.toInt ∧ v19.toInt ≤ 1) (ia_f20 : (pm_RU f20)) (ia_f21 : (pm_NW f21)) (sz : Nat) : Met l yX12_roomLeft q_X12_roomLeft ({ frames := 3, cells := 0, slots := 0, locals := 66 }) (va_Pc [.ref h0] (fun U => U.heap.size = sz ∧ va_P (dC, dI) vwCl (wd_78675856 h0 v0 r0 v1 v2 v3 v4 r1 r2 r3 r4 r5 r6 r7 v5 v6 r8 r9 r10 r11 v7 h1 r12 v8 v9 h2 r13 v10 v11 r14 v12 v13 r15 v14 w15 r16 v16 v17 r17 r18 r19 r20 r21 r22 v18 r23 r24 r25 v19 h1 g0 f20 h2 g1 f21) U.heap ∧ va_K (dC, dI) vwCl [(g0, .int), (g1, .int)] U ∧ va_D (fun _ => True) (wd_78675856 h0 v0 r0 v1 v2 v3 v4 r1 r2 r3 r4 r5 r6 r7 v5 v6 r8 r9 r10 r11 v7 h1 r12 v8 v9 h2 r13 v10 v11 r14 v12 v13 r15 v14 w15 r16 v16 v17 r17 r18 r19 r20 r21 r22 v18 r23 r24 r25 v19 h1 g0 f20 h2 g1 f21))) (va_Qi (fun (r : Int32) (r9 : Int32) => r9 = r) (fun (r : Int32) (t : State) => (va_P (dC, dI) vwCl (wd_78675856 h0 v0 r0 v1 v2 v3 v4 r1 r2 r3 r4 r5 r6 r7 v5 v6 r8 r9 r10 r11 v7 h1 r12 v8 v9 h2 r13 v10 v11 r14 v12 v13 r15 v14 w15 r16 v16 v17 r17 r18 r19 r20 r21 r22 v18 r23 r24 r25 v19 h1 g0 f20 h2 g1 f21) t.heap ∧ va_K (dC, dI) vwCl [] t ∧ va_D (va_A (wd_78675856 h0 v0 r0 v1 v2 v3 v4 r1 r2 r3 r4 r5 r6 r7 v5 v6 r8 r9 r10 r11 v7 h1 r12 v8 v9 h2 r13 v10 v11 r14 v12 v13 r15 v14 w15 r16 v16 v17 r17 r18 r19 r20 r21 r22 v18 r23 r24 r25 v19 h1 g0 f20 h2 g1 f21) sz) (wd_78675856 h0 v0 r0 v1 v2 v3 v4 r1 r2 r3 r4 r5 r6 r7 v5 v6 r8 r9 r10 r11 v7 h1 r12 v8 v9 h2 r13 v10 v11 r14 v12 v13 r15 v14 w15 r16 v16 v17 r17 r18 r19 r20 r21 r22 v18 r23 r24 r25 v19 h1 g0 f20 h2 g1 f21))) (va_A (wd_78675856 h0 v0 r0 v1 v2 v3 v4 r1 r2 r3 r4 r5 r6 r7 v5 v6 r8 r9 r10 r11 v7 h1 r12 v8 v9 h2 r13 v10 v11 r14 v12 v13 r15 v14 w15 r16 v16 v17 r17 r18 r19 r20 r21 r22 v18 r23 r24 r25 v19 h1 g0 f20 h2 g1 f21) sz)) 0 0 (va_A (wd_78675856 h0 v0 r0 v1 v2 v3 v4 r1 r2 r3 r4 r5 r6 r7 v5 v6 r8 r9 r10 r11 v7 h1 r12 v8 v9 h2 r13 v10 v11 r14 v12 v13 r15 v14 w15 r16 v16 v17 r17 r18 r19 r20 r21 r22 v18 r23 r24 r25 v19 h1 g0 f20 h2 g1 f21) sz) := by
  refine Met.ofW (cc := cX12_roomLeft) (maxL := 3) (ret := (some .int)) (by decide) rfl ?_
  intro p e s m args below meth c s₁ B hml hv
  obtain ⟨i_v1a, i_v1b⟩ := i_v1
  obtain ⟨i_v5a, i_v5b⟩ := i_v5
  obtain ⟨i_v6a, i_v6b⟩ := i_v6
  obtain ⟨i_v7a, i_v7b⟩ := i_v7
  obtain ⟨i_v8a, i_v8b⟩ := i_v8
  obtain ⟨i_v9a, i_v9b⟩ := i_v9
  obtain ⟨i_v10a, i_v10b⟩ := i_v10
  obtain ⟨i_v14a, i_v14b⟩ := i_v14
  obtain ⟨i_v18a, i_v18b⟩ := i_v18
  obtain ⟨i_v19a, i_v19b⟩ := i_v19
  obtain ⟨rfl, hsz, hP, hK, hD0⟩ := hv
  have hx := B.exec
  have hb := B.bytes
  have hr := B.returns
  have hts := atoms_spec (ws := q_X12_roomLeft) B.pre
  have hown : s.vm.findClass RX12 = some m.cls := findClass_of_methodNamed B.named
  have hlocks := B.notSynchronized
  subst hsz
  have hD := hD0.self (sz := s.heap.size)
  generalize hAe : va_A (wd_78675856 h0 v0 r0 v1 v2 v3 v4 r1 r2 r3 r4 r5 r6 r7 v5 v6 r8 r9 r10 r11 v7 h1 r12 v8 v9 h2 r13 v10 v11 r14 v12 v13 r15 v14 w15 r16 v16 v17 r17 r18 r19 r20 r21 r22 v18 r23 r24 r25 v19 h1 g0 f20 h2 g1 f21) s.heap.size = A at hD ⊢
  have hA : ∀ q : Nat, s.heap.size ≤ q → A q := fun q h => by rw [← hAe]; exact Or.inr h
  have hS : va_S A s.heap s.heap [] := va_S.rf
  generalize hQ : (MQ below _ _ s 0 0 A) = Q
  have hl := lv_entry ([.ref h0]) (n := 3) (Nat.le_of_ble_eq_true rfl)
  rw [lg_entry_eq]
  generalize (lg_sl ([.ref h0]) ++ List.replicate (3 - (lg_sl ([.ref h0])).length) Slot.unset).toArray = ls at hl ⊢
  have hl : lv_has ls 3 [(0, .ref h0)] := hl
  obtain ⟨H, hH⟩ : ∃ H : Heap, H = s.heap := ⟨_, rfl⟩
  obtain ⟨locs, hlocs⟩ : ∃ y : List Loc, y = [] := ⟨_, rfl⟩
  have hS : va_S A s.heap H locs := by rw [hH, hlocs]; exact va_S.rf
  have hP : va_P (dC, dI) vwCl (wd_78675856 h0 v0 r0 v1 v2 v3 v4 r1 r2 r3 r4 r5 r6 r7 v5 v6 r8 r9 r10 r11 v7 h1 r12 v8 v9 h2 r13 v10 v11 r14 v12 v13 r15 v14 w15 r16 v16 v17 r17 r18 r19 r20 r21 r22 v18 r23 r24 r25 v19 h1 g0 f20 h2 g1 f21) H := by rw [hH]; exact hP
  rw [← hH, ← hlocs]
  refine lv_iconst (v := 0) hx hb dX12_roomLeft_0 (by decide) ?_
  refine lv_istore_n (lv' := [(1, .int 0), (0, .ref h0)]) hx hb dX12_roomLeft_1 rfl hl (by decide) rfl (fun ls hl => ?_)
  refine lv_iconst (v := 0) hx hb dX12_roomLeft_2 (by decide) ?_
  refine lv_istore_n (lv' := [(2, .int 0), (1, .int 0), (0, .ref h0)]) hx hb dX12_roomLeft_3 rfl hl (by decide) rfl (fun ls hl => ?_)
  have hL9 : ∀ (n9 : Nat), ∀ (x5 : Int32) (x6 : Int32) (H : Heap) (locs : List Loc) (ls : Array Slot), 0 ≤ x5.toInt → x5.toInt ≤ 5 → (5 - x5.toInt).toNat < n9 → va_P (dC, dI) vwCl (wd_78675856 h0 v0 r0 v1 v2 v3 v4 r1 r2 r3 r4 r5 r6 r7 v5 v6 r8 r9 r10 r11 v7 h1 r12 v8 v9 h2 r13 v10 v11 r14 v12 v13 r15 v14 w15 r16 v16 v17 r17 r18 r19 r20 r21 r22 v18 r23 r24 r25 v19 h1 g0 f20 h2 g1 f21) H → va_D A (wd_78675856 h0 v0 r0 v1 v2 v3 v4 r1 r2 r3 r4 r5 r6 r7 v5 v6 r8 r9 r10 r11 v7 h1 r12 v8 v9 h2 r13 v10 v11 r14 v12 v13 r15 v14 w15 r16 v16 v17 r17 r18 r19 r20 r21 r22 v18 r23 r24 r25 v19 h1 g0 f20 h2 g1 f21) → va_S A s.heap H locs → lv_has ls 3 [(2, .int x5), (1, .int x6), (0, .ref h0)] → W p l e ({ frames := 3, cells := 0, slots := 0, locals := 66 }) s m ([.ref h0] : List Value).toArray below meth c H locs 0 0 Q (F0 m 4 ls []) := by
    intro n9
    induction n9 with
    | zero => intro x5 x6 H locs ls qa_x5 qb_x5 hm9 hP hD hS hl; exact absurd hm9 (Nat.not_lt_zero _)
    | succ n9 ih_hL9 =>
      intro x5 x6 H locs ls qa_x5 qb_x5 hm9 hP hD hS hl
      refine lv_iload_n hx hb dX12_roomLeft_4 rfl (lv_at hl 0 rfl) ?_
      refine lv_aload_n hx hb dX12_roomLeft_5 rfl (lv_at hl 2 rfl) ?_
      refine va_get (D := (dC, dI)) (ci := 12) (v := .ref h1) (C := RX12) (T := TX12) (N := 48) hx hb hts (fun _ h => List.mem_cons_of_mem _ (List.mem_append_right _ h)) hown hK hP 0 rfl rfl 20 (by decide) (hts (.fieldLink RX12 46 "LeftArgumentsModel" "rule" "[I") (List.mem_cons_of_mem _ (List.mem_append_left _ (List.mem_of_getElem? (i := 0) rfl)))) (fun _ h9 => h9) rfl dX12_roomLeft_6 ?_
      refine lv_iconst (v := 1) hx hb dX12_roomLeft_9 (by decide) ?_
      refine va_iald hx hb hK hP 1 0 rfl rfl (pv_c (x := 1) (n := 4) (by decide)) dX12_roomLeft_10 ?_
      refine lv_topi (fun t10 et10 => ?_)
      have gat10 : 0 ≤ t10.toInt ∧ t10.toInt ≤ 5 := by rw [et10]; exact ia_f20.1
      refine lv_icmp_ge (tgt := 39) hx hb dX12_roomLeft_11 (by decide) (fun c11 => ?_) (fun c11 => ?_)
      · skip
        have fc11 : t10.toInt ≤ x5.toInt := Int32.le_iff_toInt_le.mp c11
        have r1c11 := Int32.toInt_lt x5
        have r2c11 := Int32.toInt_lt t10
        have r3c11 := Int32.le_toInt x5
        have r4c11 := Int32.le_toInt t10
        refine lv_iload_n hx hb dX12_roomLeft_39 rfl (lv_at hl 1 rfl) ?_
        subst hQ
        have hP9 := hP.sub (ws' := (wd_78675856 h0 v0 r0 v1 v2 v3 v4 r1 r2 r3 r4 r5 r6 r7 v5 v6 r8 r9 r10 r11 v7 h1 r12 v8 v9 h2 r13 v10 v11 r14 v12 v13 r15 v14 w15 r16 v16 v17 r17 r18 r19 r20 r21 r22 v18 r23 r24 r25 v19 h1 g0 f20 h2 g1 f21)) [0, 1, 2] rfl
        have hD9 := hD.sub (ws' := (wd_78675856 h0 v0 r0 v1 v2 v3 v4 r1 r2 r3 r4 r5 r6 r7 v5 v6 r8 r9 r10 r11 v7 h1 r12 v8 v9 h2 r13 v10 v11 r14 v12 v13 r15 v14 w15 r16 v16 v17 r17 r18 r19 r20 r21 r22 v18 r23 r24 r25 v19 h1 g0 f20 h2 g1 f21)) [0, 1, 2] (by decide) rfl
        have hK9 := hK.sub (tys' := []) [] rfl
        exact W.iret (v := x6) hx hb hr (fun t ht hW => ⟨⟨x6, x6, rfl, rfl, ⟨by rw [ht]; exact hP9, va_K.moved hW.alike hK9, hD9⟩⟩, hS.F ht⟩) hS.2.2 dX12_roomLeft_40
      · skip
        have fc11 : ¬ (t10.toInt ≤ x5.toInt) := fun h9 => c11 (Int32.le_iff_toInt_le.mpr h9)
        have r1c11 := Int32.toInt_lt x5
        have r2c11 := Int32.toInt_lt t10
        have r3c11 := Int32.le_toInt x5
        have r4c11 := Int32.le_toInt t10
        refine lv_iload_n hx hb dX12_roomLeft_14 rfl (lv_at hl 1 rfl) ?_
        refine lv_iconst (v := 0) hx hb dX12_roomLeft_15 (by decide) ?_
        refine lv_aload_n hx hb dX12_roomLeft_16 rfl (lv_at hl 2 rfl) ?_
        refine va_get (D := (dC, dI)) (ci := 12) (v := .ref h1) (C := RX12) (T := TX12) (N := 48) hx hb hts (fun _ h => List.mem_cons_of_mem _ (List.mem_append_right _ h)) hown hK hP 0 rfl rfl 20 (by decide) (hts (.fieldLink RX12 46 "LeftArgumentsModel" "rule" "[I") (List.mem_cons_of_mem _ (List.mem_append_left _ (List.mem_of_getElem? (i := 0) rfl)))) (fun _ h9 => h9) rfl dX12_roomLeft_17 ?_
        refine lv_iconst (v := 0) hx hb dX12_roomLeft_20 (by decide) ?_
        refine va_iald hx hb hK hP 1 0 rfl rfl (pv_c (x := 0) (n := 4) (by decide)) dX12_roomLeft_21 ?_
        refine lv_topi (fun t12 et12 => ?_)
        have gat12 : 0 ≤ t12.toInt := by rw [et12]; exact ia_f20.2
        refine lv_aload_n hx hb dX12_roomLeft_22 rfl (lv_at hl 2 rfl) ?_
        refine lv_iload_n hx hb dX12_roomLeft_23 rfl (lv_at hl 0 rfl) ?_
        have hPc := hP.sub (ws' := (wd_5013416a h0 v0 r0 v1 v2 v3 v4 r1 r2 r3 r4 r5 r6 r7 v5 v6 r8 r9 r10 r11 v7 h1 r12 v8 v9 h2 r13 v10 v11 r14 v12 v13 r15 v14 w15 r16 v16 v17 r17 r18 r19 r20 r21 r22 v18 r23 r24 r25 v19 h2 g1 f21)) [0, 2] rfl
        have hDc := hD.sub (ws' := (wd_5013416a h0 v0 r0 v1 v2 v3 v4 r1 r2 r3 r4 r5 r6 r7 v5 v6 r8 r9 r10 r11 v7 h1 r12 v8 v9 h2 r13 v10 v11 r14 v12 v13 r15 v14 w15 r16 v16 v17 r17 r18 r19 r20 r21 r22 v18 r23 r24 r25 v19 h2 g1 f21)) [0, 2] (by decide) rfl
        have hKc := hK.sub (tys' := [(g1, .int)]) [1] rfl
        have hFc := va_free (wc := (wd_5013416a h0 v0 r0 v1 v2 v3 v4 r1 r2 r3 r4 r5 r6 r7 v5 v6 r8 r9 r10 r11 v7 h1 r12 v8 v9 h2 r13 v10 v11 r14 v12 v13 r15 v14 w15 r16 v16 v17 r17 r18 r19 r20 r21 r22 v18 r23 r24 r25 v19 h2 g1 f21)) hD hS hA [0, 2] rfl
        refine va_calli (va_runV (As := [.int x5]) (rest := [.int t12, .int 0, .int x6]) ⟨hx, hb, hml, hown, hts⟩ (k_X12_loadOf l dC dI h0 h2 v0 r0 v1 v2 v3 v4 r1 r2 r3 r4 r5 r6 r7 v5 v6 r8 r9 r10 r11 v7 h1 r12 v8 v9 r13 v10 v11 r14 v12 v13 r15 v14 w15 r16 v16 v17 r17 r18 r19 r20 r21 r22 v18 r23 r24 r25 v19 g1 f21 x5 ⟨i_v1a, i_v1b⟩ ⟨i_v5a, i_v5b⟩ ⟨i_v6a, i_v6b⟩ ⟨i_v7a, i_v7b⟩ ⟨i_v8a, i_v8b⟩ ⟨i_v9a, i_v9b⟩ ⟨i_v10a, i_v10b⟩ ⟨i_v14a, i_v14b⟩ ⟨i_v18a, i_v18b⟩ ⟨i_v19a, i_v19b⟩ ia_f21 H.size) (cwV 1 hts g_X12_roomLeft_0 rfl rfl rfl (by decide +kernel) ⟨Nat.le_of_ble_eq_true rfl, Nat.le_of_ble_eq_true rfl⟩) (pv_PV12 hPc hKc hDc (q0 := 0) rfl) rfl rfl hl.1 rfl (lv_room (Nat.le_of_ble_eq_true rfl)) dX12_roomLeft_24 ⟨Nat.le_of_ble_eq_true rfl, Nat.le_of_ble_eq_true rfl⟩) hS (fun q _ h => hFc q h) hFc (fun ra13 u t H1 locs ht hvm hwra13 hB hz1 hk1 hS => ?_)
        try rw [hwra13] at hB
        obtain ⟨pt0_ra13, hP1, hK1, hD1⟩ := hB
        rw [ht] at hP1
        obtain ⟨hP2, hD2⟩ := va_join (wr := (wd_6f8f3203 h1 g0 f20)) (w1 := (wd_5013416a h0 v0 r0 v1 v2 v3 v4 r1 r2 r3 r4 r5 r6 r7 v5 v6 r8 r9 r10 r11 v7 h1 r12 v8 v9 h2 r13 v10 v11 r14 v12 v13 r15 v14 w15 r16 v16 v17 r17 r18 r19 r20 r21 r22 v18 r23 r24 r25 v19 h2 g1 f21)) hP hD [0, 2] [1] rfl rfl (by decide) (by decide) hk1 hFc hP1 hD1
        clear hP hD hPc hDc hKc hFc hP1 hK1 hD1 hk1 hz1
        generalize H1 = H at hP2 hS ⊢
        have hP := hP2.sub (ws' := (wd_78675856 h0 v0 r0 v1 v2 v3 v4 r1 r2 r3 r4 r5 r6 r7 v5 v6 r8 r9 r10 r11 v7 h1 r12 v8 v9 h2 r13 v10 v11 r14 v12 v13 r15 v14 w15 r16 v16 v17 r17 r18 r19 r20 r21 r22 v18 r23 r24 r25 v19 h1 g0 f20 h2 g1 f21)) [1, 0, 2] rfl
        have hD := hD2.sub (ws' := (wd_78675856 h0 v0 r0 v1 v2 v3 v4 r1 r2 r3 r4 r5 r6 r7 v5 v6 r8 r9 r10 r11 v7 h1 r12 v8 v9 h2 r13 v10 v11 r14 v12 v13 r15 v14 w15 r16 v16 v17 r17 r18 r19 r20 r21 r22 v18 r23 r24 r25 v19 h1 g0 f20 h2 g1 f21)) [1, 0, 2] (by decide) rfl
        clear hP2 hD2
        refine lv_isub hx hb dX12_roomLeft_27 ?_
        refine lv_topi (fun t14 et14 => ?_)
        refine va_mmax hx hb (by rw [hml]; exact hl.1.symm) hown (hts (.methodLink RX12 301 Lib.Math.max.name) (List.mem_cons_of_mem _ (List.mem_append_left _ (List.mem_of_getElem? (i := 18) rfl)))) (hts (.static Lib.Math.max.name) (List.mem_cons_of_mem _ (List.mem_append_left _ (List.mem_of_getElem? (i := 19) rfl)))) (hts (.initialized "java/lang/Math") (List.mem_cons_of_mem _ (List.mem_append_left _ (List.mem_of_getElem? (i := 20) rfl)))) (hts (.code Lib.Math.max.name Lib.Math.max.code 2 (some .int)) (List.mem_cons_of_mem _ (List.mem_append_left _ (List.mem_of_getElem? (i := 21) rfl)))) (Nat.le_of_ble_eq_true rfl) (Nat.le_of_ble_eq_true rfl) (Nat.le_of_ble_eq_true rfl) (Nat.le_of_ble_eq_true rfl) dX12_roomLeft_28 ?_
        refine lv_topi (fun t15 et15 => ?_)
        obtain ⟨gat15, gbt15, gct15⟩ := pv_max (a := 0) (b := t14.toInt) et15 (by decide) rfl
        refine lv_iadd hx hb dX12_roomLeft_31 ?_
        refine lv_topi (fun t16 et16 => ?_)
        refine lv_istore_n (lv' := [(1, .int t16), (2, .int x5), (0, .ref h0)]) hx hb dX12_roomLeft_32 rfl hl (by decide) rfl (fun ls hl => ?_)
        obtain ⟨t17, et17⟩ : ∃ y : Int32, y = x5 + 1 := ⟨_, rfl⟩
        have gt17 : t17.toInt = x5.toInt + (1) := pv_add (a := x5.toInt) (b := (1)) et17 rfl (by decide) (by omega) (by omega)
        refine lv_iinc (v := t17) (lv' := [(2, .int t17), (1, .int t16), (0, .ref h0)]) hx hb dX12_roomLeft_33 hl (k := 1) rfl (by rw [et17]; rfl) (by decide) rfl (fun ls hl => ?_)
        refine lv_goto (tgt := 4) hx hb dX12_roomLeft_36 (by decide) ?_
        exact ih_hL9 t17 t16 H locs ls (by first | omega | decide) (by first | omega | decide) (by first | omega | (simp only [Int.toNat] at *; omega)) hP hD hS (lv_sub hl [0, 1, 2] rfl)
  exact hL9 _ 0 0 H locs ls (by decide) (by decide) (Nat.lt_succ_self _) hP hD hS (lv_sub hl [0, 1, 2] rfl)
def q_X12_fullest : List Cond := .code yX12_fullest cX12_fullest 3 (some .int) :: (([.fieldLink RX12 46 "LeftArgumentsModel" "rule" "[I", .code yX12_loadOf cX12_loadOf 4 (some .int), .code yX12_isThere cX12_isThere 2 (some .boolean), .code yX12_in cX12_in 3 (some .boolean), .initialized RX12, .static yX12_in, .methodLink RX12 217 yX12_in, .code yX12_of cX12_of 3 (some .int), .fieldLink RX12 52 "LeftArgumentsModel" "now" "[I", .instanceMethod yX12_of, .selects RX12 yX12_of yX12_of, .methodLink RX12 287 yX12_of, .instanceMethod yX12_isThere, .selects RX12 yX12_isThere yX12_isThere, .methodLink RX12 290 yX12_isThere, .instanceMethod yX12_loadOf, .selects RX12 yX12_loadOf yX12_loadOf, .methodLink RX12 312 yX12_loadOf] : List Cond) ++ wsX120)
set_option maxRecDepth 20000 in
theorem g_X12_fullest_0 : GoodIn q_X12_fullest (wsV RX12 312 RX12 yX12_loadOf q_X12_loadOf) := goodIn_app (goodIn_r _ [18, 16, 17, 5] rfl (by decide +kernel)) (goodIn_ca (goodIn_r (.code yX12_loadOf cX12_loadOf 4 (some .int) :: [.code yX12_isThere cX12_isThere 2 (some .boolean), .code yX12_in cX12_in 3 (some .boolean), .initialized RX12, .static yX12_in, .methodLink RX12 217 yX12_in, .code yX12_of cX12_of 3 (some .int), .fieldLink RX12 52 "LeftArgumentsModel" "now" "[I", .instanceMethod yX12_of, .selects RX12 yX12_of yX12_of, .methodLink RX12 287 yX12_of, .instanceMethod yX12_isThere, .selects RX12 yX12_isThere yX12_isThere, .methodLink RX12 290 yX12_isThere]) [2, 3, 4, 5, 6, 7, 8, 9, 10, 11, 12, 13, 14, 15] rfl (by decide +kernel)) (goodIn_sub (fun _ h => List.mem_cons_of_mem _ (List.mem_append_right _ h)) gwX12))
set_option maxHeartbeats 4000000 in
set_option maxRecDepth 100000 in
theorem k_X12_fullest (l : Launch) (dC : Nat → ClassId) (dI : Nat → Nat → Nat) (h0 : Nat) (h1 : Nat) (h2 : Nat) (v0 : Int32) (r0 : Nat) (v1 : Int32) (v2 : Int32) (v3 : Int32) (v4 : Int32) (r1 : Nat) (r2 : Nat) (r3 : Nat) (r4 : Nat) (r5 : Nat) (r6 : Nat) (r7 : Nat) (v5 : Int32) (v6 : Int32) (r8 : Nat) (r9 : Nat) (r10 : Nat) (r11 : Nat) (v7 : Int32) (r12 : Nat) (v8 : Int32) (v9 : Int32) (r13 : Nat) (v10 : Int32) (v11 : Int32) (r14 : Nat) (v12 : Int32) (v13 : Int32) (r15 : Nat) (v14 : Int32) (w15 : Int64) (r16 : Nat) (v16 : Int32) (v17 : Int32) (r17 : Nat) (r18 : Nat) (r19 : Nat) (r20 : Nat) (r21 : Nat) (r22 : Nat) (v18 : Int32) (r23 : Nat) (r24 : Nat) (r25 : Nat) (v19 : Int32) (g0 : ClassId) (f20 : Nat → Int32) (g1 : ClassId) (f21 : Nat → Int32) (i_v1 : 0 ≤ v1.toInt ∧ v1.toInt ≤ 240) (i_v5 : 0 ≤ v5.toInt ∧ v5.toInt ≤ 4) (i_v6 : 0 ≤ v6.toInt ∧ v6.toInt ≤ 4) (i_v7 : 0 ≤ v7.toInt ∧ v7.toInt ≤ 8) (i_v8 : 0 ≤ v8.toInt ∧ v8.toInt ≤ 8) (i_v9 : 0 ≤ v9.toInt ∧ v9.toInt ≤ 1) (i_v10 : -1 ≤ v10.toInt ∧ v10.toInt ≤ 3) (i_v14 : 0 ≤ v14.toInt ∧ v14.toInt ≤ 40) (i_v18 : 0 ≤ v18.toInt ∧ v18.toInt ≤ 10) (i_v19 : 0 ≤ v19.toInt ∧ v19.toInt ≤ 1) (ia_f20 : (pm_RU f20)) (ia_f21 : (pm_NW f21)) (sz : Nat) : Met l yX12_fullest q_X12_fullest ({ frames := 3, cells := 0, slots := 0, locals := 66 }) (va_Pc [.ref h0] (fun U => U.heap.size = sz ∧ va_P (dC, dI) vwCl (wd_78675856 h0 v0 r0 v1 v2 v3 v4 r1 r2 r3 r4 r5 r6 r7 v5 v6 r8 r9 r10 r11 v7 h1 r12 v8 v9 h2 r13 v10 v11 r14 v12 v13 r15 v14 w15 r16 v16 v17 r17 r18 r19 r20 r21 r22 v18 r23 r24 r25 v19 h1 g0 f20 h2 g1 f21) U.heap ∧ va_K (dC, dI) vwCl [(g0, .int), (g1, .int)] U ∧ va_D (fun _ => True) (wd_78675856 h0 v0 r0 v1 v2 v3 v4 r1 r2 r3 r4 r5 r6 r7 v5 v6 r8 r9 r10 r11 v7 h1 r12 v8 v9 h2 r13 v10 v11 r14 v12 v13 r15 v14 w15 r16 v16 v17 r17 r18 r19 r20 r21 r22 v18 r23 r24 r25 v19 h1 g0 f20 h2 g1 f21))) (va_Qi (fun (r : Int32) (r9 : Int32) => r9 = r) (fun (r : Int32) (t : State) => ((0 ≤ r.toInt) ∧ (r.toInt ≤ 7) ∧ va_P (dC, dI) vwCl (wd_78675856 h0 v0 r0 v1 v2 v3 v4 r1 r2 r3 r4 r5 r6 r7 v5 v6 r8 r9 r10 r11 v7 h1 r12 v8 v9 h2 r13 v10 v11 r14 v12 v13 r15 v14 w15 r16 v16 v17 r17 r18 r19 r20 r21 r22 v18 r23 r24 r25 v19 h1 g0 f20 h2 g1 f21) t.heap ∧ va_K (dC, dI) vwCl [] t ∧ va_D (va_A (wd_78675856 h0 v0 r0 v1 v2 v3 v4 r1 r2 r3 r4 r5 r6 r7 v5 v6 r8 r9 r10 r11 v7 h1 r12 v8 v9 h2 r13 v10 v11 r14 v12 v13 r15 v14 w15 r16 v16 v17 r17 r18 r19 r20 r21 r22 v18 r23 r24 r25 v19 h1 g0 f20 h2 g1 f21) sz) (wd_78675856 h0 v0 r0 v1 v2 v3 v4 r1 r2 r3 r4 r5 r6 r7 v5 v6 r8 r9 r10 r11 v7 h1 r12 v8 v9 h2 r13 v10 v11 r14 v12 v13 r15 v14 w15 r16 v16 v17 r17 r18 r19 r20 r21 r22 v18 r23 r24 r25 v19 h1 g0 f20 h2 g1 f21))) (va_A (wd_78675856 h0 v0 r0 v1 v2 v3 v4 r1 r2 r3 r4 r5 r6 r7 v5 v6 r8 r9 r10 r11 v7 h1 r12 v8 v9 h2 r13 v10 v11 r14 v12 v13 r15 v14 w15 r16 v16 v17 r17 r18 r19 r20 r21 r22 v18 r23 r24 r25 v19 h1 g0 f20 h2 g1 f21) sz)) 0 0 (va_A (wd_78675856 h0 v0 r0 v1 v2 v3 v4 r1 r2 r3 r4 r5 r6 r7 v5 v6 r8 r9 r10 r11 v7 h1 r12 v8 v9 h2 r13 v10 v11 r14 v12 v13 r15 v14 w15 r16 v16 v17 r17 r18 r19 r20 r21 r22 v18 r23 r24 r25 v19 h1 g0 f20 h2 g1 f21) sz) := by
  refine Met.ofW (cc := cX12_fullest) (maxL := 3) (ret := (some .int)) (by decide) rfl ?_
  intro p e s m args below meth c s₁ B hml hv
  obtain ⟨i_v1a, i_v1b⟩ := i_v1
  obtain ⟨i_v5a, i_v5b⟩ := i_v5
  obtain ⟨i_v6a, i_v6b⟩ := i_v6
  obtain ⟨i_v7a, i_v7b⟩ := i_v7
  obtain ⟨i_v8a, i_v8b⟩ := i_v8
  obtain ⟨i_v9a, i_v9b⟩ := i_v9
  obtain ⟨i_v10a, i_v10b⟩ := i_v10
  obtain ⟨i_v14a, i_v14b⟩ := i_v14
  obtain ⟨i_v18a, i_v18b⟩ := i_v18
  obtain ⟨i_v19a, i_v19b⟩ := i_v19
  obtain ⟨rfl, hsz, hP, hK, hD0⟩ := hv
  have hx := B.exec
  have hb := B.bytes
  have hr := B.returns
  have hts := atoms_spec (ws := q_X12_fullest) B.pre
  have hown : s.vm.findClass RX12 = some m.cls := findClass_of_methodNamed B.named
  have hlocks := B.notSynchronized
  subst hsz
  have hD := hD0.self (sz := s.heap.size)
  generalize hAe : va_A (wd_78675856 h0 v0 r0 v1 v2 v3 v4 r1 r2 r3 r4 r5 r6 r7 v5 v6 r8 r9 r10 r11 v7 h1 r12 v8 v9 h2 r13 v10 v11 r14 v12 v13 r15 v14 w15 r16 v16 v17 r17 r18 r19 r20 r21 r22 v18 r23 r24 r25 v19 h1 g0 f20 h2 g1 f21) s.heap.size = A at hD ⊢
  have hA : ∀ q : Nat, s.heap.size ≤ q → A q := fun q h => by rw [← hAe]; exact Or.inr h
  have hS : va_S A s.heap s.heap [] := va_S.rf
  generalize hQ : (MQ below _ _ s 0 0 A) = Q
  have hl := lv_entry ([.ref h0]) (n := 3) (Nat.le_of_ble_eq_true rfl)
  rw [lg_entry_eq]
  generalize (lg_sl ([.ref h0]) ++ List.replicate (3 - (lg_sl ([.ref h0])).length) Slot.unset).toArray = ls at hl ⊢
  have hl : lv_has ls 3 [(0, .ref h0)] := hl
  obtain ⟨H, hH⟩ : ∃ H : Heap, H = s.heap := ⟨_, rfl⟩
  obtain ⟨locs, hlocs⟩ : ∃ y : List Loc, y = [] := ⟨_, rfl⟩
  have hS : va_S A s.heap H locs := by rw [hH, hlocs]; exact va_S.rf
  have hP : va_P (dC, dI) vwCl (wd_78675856 h0 v0 r0 v1 v2 v3 v4 r1 r2 r3 r4 r5 r6 r7 v5 v6 r8 r9 r10 r11 v7 h1 r12 v8 v9 h2 r13 v10 v11 r14 v12 v13 r15 v14 w15 r16 v16 v17 r17 r18 r19 r20 r21 r22 v18 r23 r24 r25 v19 h1 g0 f20 h2 g1 f21) H := by rw [hH]; exact hP
  rw [← hH, ← hlocs]
  refine lv_iconst (v := 0) hx hb dX12_fullest_0 (by decide) ?_
  refine lv_istore_n (lv' := [(1, .int 0), (0, .ref h0)]) hx hb dX12_fullest_1 rfl hl (by decide) rfl (fun ls hl => ?_)
  refine lv_iconst (v := 1) hx hb dX12_fullest_2 (by decide) ?_
  refine lv_istore_n (lv' := [(2, .int 1), (1, .int 0), (0, .ref h0)]) hx hb dX12_fullest_3 rfl hl (by decide) rfl (fun ls hl => ?_)
  have hL9 : ∀ (n9 : Nat), ∀ (x5 : Int32) (x6 : Int32) (H : Heap) (locs : List Loc) (ls : Array Slot), 1 ≤ x5.toInt → x5.toInt ≤ 5 → 0 ≤ x6.toInt → x6.toInt ≤ 7 → (5 - x5.toInt).toNat < n9 → va_P (dC, dI) vwCl (wd_78675856 h0 v0 r0 v1 v2 v3 v4 r1 r2 r3 r4 r5 r6 r7 v5 v6 r8 r9 r10 r11 v7 h1 r12 v8 v9 h2 r13 v10 v11 r14 v12 v13 r15 v14 w15 r16 v16 v17 r17 r18 r19 r20 r21 r22 v18 r23 r24 r25 v19 h1 g0 f20 h2 g1 f21) H → va_D A (wd_78675856 h0 v0 r0 v1 v2 v3 v4 r1 r2 r3 r4 r5 r6 r7 v5 v6 r8 r9 r10 r11 v7 h1 r12 v8 v9 h2 r13 v10 v11 r14 v12 v13 r15 v14 w15 r16 v16 v17 r17 r18 r19 r20 r21 r22 v18 r23 r24 r25 v19 h1 g0 f20 h2 g1 f21) → va_S A s.heap H locs → lv_has ls 3 [(2, .int x5), (1, .int x6), (0, .ref h0)] → W p l e ({ frames := 3, cells := 0, slots := 0, locals := 66 }) s m ([.ref h0] : List Value).toArray below meth c H locs 0 0 Q (F0 m 4 ls []) := by
    intro n9
    induction n9 with
    | zero => intro x5 x6 H locs ls qa_x5 qb_x5 qa_x6 qb_x6 hm9 hP hD hS hl; exact absurd hm9 (Nat.not_lt_zero _)
    | succ n9 ih_hL9 =>
      intro x5 x6 H locs ls qa_x5 qb_x5 qa_x6 qb_x6 hm9 hP hD hS hl
      refine lv_iload_n hx hb dX12_fullest_4 rfl (lv_at hl 0 rfl) ?_
      refine lv_aload_n hx hb dX12_fullest_5 rfl (lv_at hl 2 rfl) ?_
      refine va_get (D := (dC, dI)) (ci := 12) (v := .ref h1) (C := RX12) (T := TX12) (N := 48) hx hb hts (fun _ h => List.mem_cons_of_mem _ (List.mem_append_right _ h)) hown hK hP 0 rfl rfl 20 (by decide) (hts (.fieldLink RX12 46 "LeftArgumentsModel" "rule" "[I") (List.mem_cons_of_mem _ (List.mem_append_left _ (List.mem_of_getElem? (i := 0) rfl)))) (fun _ h9 => h9) rfl dX12_fullest_6 ?_
      refine lv_iconst (v := 1) hx hb dX12_fullest_9 (by decide) ?_
      refine va_iald hx hb hK hP 1 0 rfl rfl (pv_c (x := 1) (n := 4) (by decide)) dX12_fullest_10 ?_
      refine lv_topi (fun t10 et10 => ?_)
      have gat10 : 0 ≤ t10.toInt ∧ t10.toInt ≤ 5 := by rw [et10]; exact ia_f20.1
      refine lv_icmp_ge (tgt := 39) hx hb dX12_fullest_11 (by decide) (fun c11 => ?_) (fun c11 => ?_)
      · skip
        have fc11 : t10.toInt ≤ x5.toInt := Int32.le_iff_toInt_le.mp c11
        have r1c11 := Int32.toInt_lt x5
        have r2c11 := Int32.toInt_lt t10
        have r3c11 := Int32.le_toInt x5
        have r4c11 := Int32.le_toInt t10
        refine lv_iload_n hx hb dX12_fullest_39 rfl (lv_at hl 1 rfl) ?_
        subst hQ
        have hP9 := hP.sub (ws' := (wd_78675856 h0 v0 r0 v1 v2 v3 v4 r1 r2 r3 r4 r5 r6 r7 v5 v6 r8 r9 r10 r11 v7 h1 r12 v8 v9 h2 r13 v10 v11 r14 v12 v13 r15 v14 w15 r16 v16 v17 r17 r18 r19 r20 r21 r22 v18 r23 r24 r25 v19 h1 g0 f20 h2 g1 f21)) [0, 1, 2] rfl
        have hD9 := hD.sub (ws' := (wd_78675856 h0 v0 r0 v1 v2 v3 v4 r1 r2 r3 r4 r5 r6 r7 v5 v6 r8 r9 r10 r11 v7 h1 r12 v8 v9 h2 r13 v10 v11 r14 v12 v13 r15 v14 w15 r16 v16 v17 r17 r18 r19 r20 r21 r22 v18 r23 r24 r25 v19 h1 g0 f20 h2 g1 f21)) [0, 1, 2] (by decide) rfl
        have hK9 := hK.sub (tys' := []) [] rfl
        exact W.iret (v := x6) hx hb hr (fun t ht hW => ⟨⟨x6, x6, rfl, rfl, ⟨by first | omega | decide, by first | omega | decide, by rw [ht]; exact hP9, va_K.moved hW.alike hK9, hD9⟩⟩, hS.F ht⟩) hS.2.2 dX12_fullest_40
      · skip
        have fc11 : ¬ (t10.toInt ≤ x5.toInt) := fun h9 => c11 (Int32.le_iff_toInt_le.mpr h9)
        have r1c11 := Int32.toInt_lt x5
        have r2c11 := Int32.toInt_lt t10
        have r3c11 := Int32.le_toInt x5
        have r4c11 := Int32.le_toInt t10
        refine lv_aload_n hx hb dX12_fullest_14 rfl (lv_at hl 2 rfl) ?_
        refine lv_iload_n hx hb dX12_fullest_15 rfl (lv_at hl 0 rfl) ?_
        have hPc := hP.sub (ws' := (wd_5013416a h0 v0 r0 v1 v2 v3 v4 r1 r2 r3 r4 r5 r6 r7 v5 v6 r8 r9 r10 r11 v7 h1 r12 v8 v9 h2 r13 v10 v11 r14 v12 v13 r15 v14 w15 r16 v16 v17 r17 r18 r19 r20 r21 r22 v18 r23 r24 r25 v19 h2 g1 f21)) [0, 2] rfl
        have hDc := hD.sub (ws' := (wd_5013416a h0 v0 r0 v1 v2 v3 v4 r1 r2 r3 r4 r5 r6 r7 v5 v6 r8 r9 r10 r11 v7 h1 r12 v8 v9 h2 r13 v10 v11 r14 v12 v13 r15 v14 w15 r16 v16 v17 r17 r18 r19 r20 r21 r22 v18 r23 r24 r25 v19 h2 g1 f21)) [0, 2] (by decide) rfl
        have hKc := hK.sub (tys' := [(g1, .int)]) [1] rfl
        have hFc := va_free (wc := (wd_5013416a h0 v0 r0 v1 v2 v3 v4 r1 r2 r3 r4 r5 r6 r7 v5 v6 r8 r9 r10 r11 v7 h1 r12 v8 v9 h2 r13 v10 v11 r14 v12 v13 r15 v14 w15 r16 v16 v17 r17 r18 r19 r20 r21 r22 v18 r23 r24 r25 v19 h2 g1 f21)) hD hS hA [0, 2] rfl
        refine va_calli (va_runV (As := [.int x5]) (rest := []) ⟨hx, hb, hml, hown, hts⟩ (k_X12_loadOf l dC dI h0 h2 v0 r0 v1 v2 v3 v4 r1 r2 r3 r4 r5 r6 r7 v5 v6 r8 r9 r10 r11 v7 h1 r12 v8 v9 r13 v10 v11 r14 v12 v13 r15 v14 w15 r16 v16 v17 r17 r18 r19 r20 r21 r22 v18 r23 r24 r25 v19 g1 f21 x5 ⟨i_v1a, i_v1b⟩ ⟨i_v5a, i_v5b⟩ ⟨i_v6a, i_v6b⟩ ⟨i_v7a, i_v7b⟩ ⟨i_v8a, i_v8b⟩ ⟨i_v9a, i_v9b⟩ ⟨i_v10a, i_v10b⟩ ⟨i_v14a, i_v14b⟩ ⟨i_v18a, i_v18b⟩ ⟨i_v19a, i_v19b⟩ ia_f21 H.size) (cwV 1 hts g_X12_fullest_0 rfl rfl rfl (by decide +kernel) ⟨Nat.le_of_ble_eq_true rfl, Nat.le_of_ble_eq_true rfl⟩) (pv_PV12 hPc hKc hDc (q0 := 0) rfl) rfl rfl hl.1 rfl (lv_room (Nat.le_of_ble_eq_true rfl)) dX12_fullest_16 ⟨Nat.le_of_ble_eq_true rfl, Nat.le_of_ble_eq_true rfl⟩) hS (fun q _ h => hFc q h) hFc (fun ra12 u t H1 locs ht hvm hwra12 hB hz1 hk1 hS => ?_)
        try rw [hwra12] at hB
        obtain ⟨pt0_ra12, hP1, hK1, hD1⟩ := hB
        rw [ht] at hP1
        obtain ⟨hP2, hD2⟩ := va_join (wr := (wd_6f8f3203 h1 g0 f20)) (w1 := (wd_5013416a h0 v0 r0 v1 v2 v3 v4 r1 r2 r3 r4 r5 r6 r7 v5 v6 r8 r9 r10 r11 v7 h1 r12 v8 v9 h2 r13 v10 v11 r14 v12 v13 r15 v14 w15 r16 v16 v17 r17 r18 r19 r20 r21 r22 v18 r23 r24 r25 v19 h2 g1 f21)) hP hD [0, 2] [1] rfl rfl (by decide) (by decide) hk1 hFc hP1 hD1
        clear hP hD hPc hDc hKc hFc hP1 hK1 hD1 hk1 hz1
        generalize H1 = H at hP2 hS ⊢
        have hP := hP2.sub (ws' := (wd_78675856 h0 v0 r0 v1 v2 v3 v4 r1 r2 r3 r4 r5 r6 r7 v5 v6 r8 r9 r10 r11 v7 h1 r12 v8 v9 h2 r13 v10 v11 r14 v12 v13 r15 v14 w15 r16 v16 v17 r17 r18 r19 r20 r21 r22 v18 r23 r24 r25 v19 h1 g0 f20 h2 g1 f21)) [1, 0, 2] rfl
        have hD := hD2.sub (ws' := (wd_78675856 h0 v0 r0 v1 v2 v3 v4 r1 r2 r3 r4 r5 r6 r7 v5 v6 r8 r9 r10 r11 v7 h1 r12 v8 v9 h2 r13 v10 v11 r14 v12 v13 r15 v14 w15 r16 v16 v17 r17 r18 r19 r20 r21 r22 v18 r23 r24 r25 v19 h1 g0 f20 h2 g1 f21)) [1, 0, 2] (by decide) rfl
        clear hP2 hD2
        refine lv_aload_n hx hb dX12_fullest_19 rfl (lv_at hl 2 rfl) ?_
        refine lv_iload_n hx hb dX12_fullest_20 rfl (lv_at hl 1 rfl) ?_
        have hPc := hP.sub (ws' := (wd_5013416a h0 v0 r0 v1 v2 v3 v4 r1 r2 r3 r4 r5 r6 r7 v5 v6 r8 r9 r10 r11 v7 h1 r12 v8 v9 h2 r13 v10 v11 r14 v12 v13 r15 v14 w15 r16 v16 v17 r17 r18 r19 r20 r21 r22 v18 r23 r24 r25 v19 h2 g1 f21)) [0, 2] rfl
        have hDc := hD.sub (ws' := (wd_5013416a h0 v0 r0 v1 v2 v3 v4 r1 r2 r3 r4 r5 r6 r7 v5 v6 r8 r9 r10 r11 v7 h1 r12 v8 v9 h2 r13 v10 v11 r14 v12 v13 r15 v14 w15 r16 v16 v17 r17 r18 r19 r20 r21 r22 v18 r23 r24 r25 v19 h2 g1 f21)) [0, 2] (by decide) rfl
        have hKc := hK.sub (tys' := [(g1, .int)]) [1] rfl
        have hFc := va_free (wc := (wd_5013416a h0 v0 r0 v1 v2 v3 v4 r1 r2 r3 r4 r5 r6 r7 v5 v6 r8 r9 r10 r11 v7 h1 r12 v8 v9 h2 r13 v10 v11 r14 v12 v13 r15 v14 w15 r16 v16 v17 r17 r18 r19 r20 r21 r22 v18 r23 r24 r25 v19 h2 g1 f21)) hD hS hA [0, 2] rfl
        refine va_calli (va_runV (As := [.int x6]) (rest := [.int ra12]) ⟨hx, hb, hml, hown, hts⟩ (k_X12_loadOf l dC dI h0 h2 v0 r0 v1 v2 v3 v4 r1 r2 r3 r4 r5 r6 r7 v5 v6 r8 r9 r10 r11 v7 h1 r12 v8 v9 r13 v10 v11 r14 v12 v13 r15 v14 w15 r16 v16 v17 r17 r18 r19 r20 r21 r22 v18 r23 r24 r25 v19 g1 f21 x6 ⟨i_v1a, i_v1b⟩ ⟨i_v5a, i_v5b⟩ ⟨i_v6a, i_v6b⟩ ⟨i_v7a, i_v7b⟩ ⟨i_v8a, i_v8b⟩ ⟨i_v9a, i_v9b⟩ ⟨i_v10a, i_v10b⟩ ⟨i_v14a, i_v14b⟩ ⟨i_v18a, i_v18b⟩ ⟨i_v19a, i_v19b⟩ ia_f21 H.size) (cwV 1 hts g_X12_fullest_0 rfl rfl rfl (by decide +kernel) ⟨Nat.le_of_ble_eq_true rfl, Nat.le_of_ble_eq_true rfl⟩) (pv_PV12 hPc hKc hDc (q0 := 0) rfl) rfl rfl hl.1 rfl (lv_room (Nat.le_of_ble_eq_true rfl)) dX12_fullest_21 ⟨Nat.le_of_ble_eq_true rfl, Nat.le_of_ble_eq_true rfl⟩) hS (fun q _ h => hFc q h) hFc (fun ra13 u t H1 locs ht hvm hwra13 hB hz1 hk1 hS => ?_)
        try rw [hwra13] at hB
        obtain ⟨pt0_ra13, hP1, hK1, hD1⟩ := hB
        rw [ht] at hP1
        obtain ⟨hP2, hD2⟩ := va_join (wr := (wd_6f8f3203 h1 g0 f20)) (w1 := (wd_5013416a h0 v0 r0 v1 v2 v3 v4 r1 r2 r3 r4 r5 r6 r7 v5 v6 r8 r9 r10 r11 v7 h1 r12 v8 v9 h2 r13 v10 v11 r14 v12 v13 r15 v14 w15 r16 v16 v17 r17 r18 r19 r20 r21 r22 v18 r23 r24 r25 v19 h2 g1 f21)) hP hD [0, 2] [1] rfl rfl (by decide) (by decide) hk1 hFc hP1 hD1
        clear hP hD hPc hDc hKc hFc hP1 hK1 hD1 hk1 hz1
        generalize H1 = H at hP2 hS ⊢
        have hP := hP2.sub (ws' := (wd_78675856 h0 v0 r0 v1 v2 v3 v4 r1 r2 r3 r4 r5 r6 r7 v5 v6 r8 r9 r10 r11 v7 h1 r12 v8 v9 h2 r13 v10 v11 r14 v12 v13 r15 v14 w15 r16 v16 v17 r17 r18 r19 r20 r21 r22 v18 r23 r24 r25 v19 h1 g0 f20 h2 g1 f21)) [1, 0, 2] rfl
        have hD := hD2.sub (ws' := (wd_78675856 h0 v0 r0 v1 v2 v3 v4 r1 r2 r3 r4 r5 r6 r7 v5 v6 r8 r9 r10 r11 v7 h1 r12 v8 v9 h2 r13 v10 v11 r14 v12 v13 r15 v14 w15 r16 v16 v17 r17 r18 r19 r20 r21 r22 v18 r23 r24 r25 v19 h1 g0 f20 h2 g1 f21)) [1, 0, 2] (by decide) rfl
        clear hP2 hD2
        have hJ15 : ∀ (x14 : Int32) (H : Heap) (locs : List Loc) (ls : Array Slot), 0 ≤ x14.toInt → x14.toInt ≤ 7 → va_P (dC, dI) vwCl (wd_78675856 h0 v0 r0 v1 v2 v3 v4 r1 r2 r3 r4 r5 r6 r7 v5 v6 r8 r9 r10 r11 v7 h1 r12 v8 v9 h2 r13 v10 v11 r14 v12 v13 r15 v14 w15 r16 v16 v17 r17 r18 r19 r20 r21 r22 v18 r23 r24 r25 v19 h1 g0 f20 h2 g1 f21) H → va_D A (wd_78675856 h0 v0 r0 v1 v2 v3 v4 r1 r2 r3 r4 r5 r6 r7 v5 v6 r8 r9 r10 r11 v7 h1 r12 v8 v9 h2 r13 v10 v11 r14 v12 v13 r15 v14 w15 r16 v16 v17 r17 r18 r19 r20 r21 r22 v18 r23 r24 r25 v19 h1 g0 f20 h2 g1 f21) → va_S A s.heap H locs → lv_has ls 3 [(2, .int x5), (1, .int x6), (0, .ref h0)] → W p l e ({ frames := 3, cells := 0, slots := 0, locals := 66 }) s m ([.ref h0] : List Value).toArray below meth c H locs 0 0 Q (F0 m 32 ls [.int x14]) := by
          intro x14 H locs ls qa_x14 qb_x14 hP hD hS hl
          refine lv_istore_n (lv' := [(1, .int x14), (2, .int x5), (0, .ref h0)]) hx hb dX12_fullest_32 rfl hl (by decide) rfl (fun ls hl => ?_)
          obtain ⟨t16, et16⟩ : ∃ y : Int32, y = x5 + 1 := ⟨_, rfl⟩
          have gt16 : t16.toInt = x5.toInt + (1) := pv_add (a := x5.toInt) (b := (1)) et16 rfl (by decide) (by omega) (by omega)
          refine lv_iinc (v := t16) (lv' := [(2, .int t16), (1, .int x14), (0, .ref h0)]) hx hb dX12_fullest_33 hl (k := 1) rfl (by rw [et16]; rfl) (by decide) rfl (fun ls hl => ?_)
          refine lv_goto (tgt := 4) hx hb dX12_fullest_36 (by decide) ?_
          exact ih_hL9 t16 x14 H locs ls (by first | omega | decide) (by first | omega | decide) qa_x14 qb_x14 (by first | omega | (simp only [Int.toNat] at *; omega)) hP hD hS (lv_sub hl [0, 1, 2] rfl)
        refine lv_icmp_le (tgt := 31) hx hb dX12_fullest_24 (by decide) (fun c17 => ?_) (fun c17 => ?_)
        · skip
          have fc17 : ra12.toInt ≤ ra13.toInt := Int32.le_iff_toInt_le.mp c17
          have r1c17 := Int32.toInt_lt ra12
          have r2c17 := Int32.toInt_lt ra13
          have r3c17 := Int32.le_toInt ra12
          have r4c17 := Int32.le_toInt ra13
          refine lv_iload_n hx hb dX12_fullest_31 rfl (lv_at hl 1 rfl) ?_
          exact hJ15 x6 H locs ls qa_x6 qb_x6 hP hD hS (lv_sub hl [0, 1, 2] rfl)
        · skip
          have fc17 : ¬ (ra12.toInt ≤ ra13.toInt) := fun h9 => c17 (Int32.le_iff_toInt_le.mpr h9)
          have r1c17 := Int32.toInt_lt ra12
          have r2c17 := Int32.toInt_lt ra13
          have r3c17 := Int32.le_toInt ra12
          have r4c17 := Int32.le_toInt ra13
          refine lv_iload_n hx hb dX12_fullest_27 rfl (lv_at hl 0 rfl) ?_
          refine lv_goto (tgt := 32) hx hb dX12_fullest_28 (by decide) ?_
          exact hJ15 x5 H locs ls (by first | omega | decide) (by first | omega | decide) hP hD hS (lv_sub hl [0, 1, 2] rfl)
  exact hL9 _ 1 0 H locs ls (by decide) (by decide) (by decide) (by decide) (Nat.lt_succ_self _) hP hD hS (lv_sub hl [0, 1, 2] rfl)
def q_X12_in_6 : List Cond := .code yX12_in cX12_in 3 (some .boolean) :: (([] : List Cond))
set_option maxHeartbeats 4000000 in
set_option maxRecDepth 100000 in
theorem k_X12_in_6 (l : Launch) (dC : Nat → ClassId) (dI : Nat → Nat → Nat) (v0 : Int32) (sz : Nat) : Met l yX12_in q_X12_in_6 ({ frames := 0, cells := 0, slots := 0, locals := 0 }) (va_Pc [.int v0, .int 1, .int 60] (fun U => U.heap.size = sz ∧ va_P (dC, dI) vwCl [] U.heap ∧ va_K (dC, dI) vwCl [] U ∧ va_D (fun _ => True) [])) (va_Qi (fun (r : Int32) (r9 : Int32) => r9 = r) (fun (r : Int32) (t : State) => ((0 ≤ r.toInt) ∧ (r.toInt ≤ 1) ∧ ((r.toInt = 1 → 1 ≤ v0.toInt)) ∧ ((r.toInt = 1 → v0.toInt ≤ 60)) ∧ (r.toInt = 0 → ¬ (1 ≤ v0.toInt ∧ v0.toInt ≤ 60)) ∧ va_P (dC, dI) vwCl [] t.heap ∧ va_K (dC, dI) vwCl [] t ∧ va_D (va_A [] sz) [])) (va_A [] sz)) 0 0 (va_A [] sz) := by
  refine Met.ofW (cc := cX12_in) (maxL := 3) (ret := (some .boolean)) (by decide) rfl ?_
  intro p e s m args below meth c s₁ B hml hv
  obtain ⟨rfl, hsz, hP, hK, hD0⟩ := hv
  have hx := B.exec
  have hb := B.bytes
  have hr := B.returns
  have hts := atoms_spec (ws := q_X12_in_6) B.pre
  have hown : s.vm.findClass RX12 = some m.cls := findClass_of_methodNamed B.named
  have hlocks := B.notSynchronized
  subst hsz
  have hD := hD0.self (sz := s.heap.size)
  generalize hAe : va_A [] s.heap.size = A at hD ⊢
  have hA : ∀ q : Nat, s.heap.size ≤ q → A q := fun q h => by rw [← hAe]; exact Or.inr h
  have hS : va_S A s.heap s.heap [] := va_S.rf
  generalize hQ : (MQ below _ _ s 0 0 A) = Q
  have hl := lv_entry ([.int v0, .int 1, .int 60]) (n := 3) (Nat.le_of_ble_eq_true rfl)
  rw [lg_entry_eq]
  generalize (lg_sl ([.int v0, .int 1, .int 60]) ++ List.replicate (3 - (lg_sl ([.int v0, .int 1, .int 60])).length) Slot.unset).toArray = ls at hl ⊢
  have hl : lv_has ls 3 [(0, .int v0), (1, .int 1), (2, .int 60)] := hl
  obtain ⟨H, hH⟩ : ∃ H : Heap, H = s.heap := ⟨_, rfl⟩
  obtain ⟨locs, hlocs⟩ : ∃ y : List Loc, y = [] := ⟨_, rfl⟩
  have hS : va_S A s.heap H locs := by rw [hH, hlocs]; exact va_S.rf
  have hP : va_P (dC, dI) vwCl [] H := by rw [hH]; exact hP
  rw [← hH, ← hlocs]
  refine lv_iload_n hx hb dX12_in_0 rfl (lv_at hl 0 rfl) ?_
  refine lv_iload_n hx hb dX12_in_1 rfl (lv_at hl 1 rfl) ?_
  refine lv_icmp_lt (tgt := 14) hx hb dX12_in_2 (by decide) (fun c1 => ?_) (fun c1 => ?_)
  · skip
    have fc1 : v0.toInt < 1 := Int32.lt_iff_toInt_lt.mp c1
    refine lv_iconst (v := 0) hx hb dX12_in_14 (by decide) ?_
    subst hQ
    have hP9 := hP.sub (ws' := []) [] rfl
    have hD9 := hD.sub (ws' := []) [] (by decide) rfl
    have hK9 := hK.sub (tys' := []) [] rfl
    exact W.zret (v := 0) hx hb hr rfl (fun t ht hW => ⟨⟨0, 0, rfl, rfl, ⟨by first | omega | decide, by first | omega | decide, fun h9 => absurd h9 (by decide), fun h9 => absurd h9 (by decide), fun _ => by omega, by rw [ht]; exact hP9, va_K.moved hW.alike hK9, hD9⟩⟩, hS.F ht⟩) hS.2.2 dX12_in_15
  · skip
    have fc1 : ¬ (v0.toInt < 1) := fun h9 => c1 (Int32.lt_iff_toInt_lt.mpr h9)
    refine lv_iload_n hx hb dX12_in_5 rfl (lv_at hl 0 rfl) ?_
    refine lv_iload_n hx hb dX12_in_6 rfl (lv_at hl 2 rfl) ?_
    refine lv_icmp_gt (tgt := 14) hx hb dX12_in_7 (by decide) (fun c2 => ?_) (fun c2 => ?_)
    · skip
      have fc2 : 60 < v0.toInt := Int32.lt_iff_toInt_lt.mp c2
      refine lv_iconst (v := 0) hx hb dX12_in_14 (by decide) ?_
      subst hQ
      have hP9 := hP.sub (ws' := []) [] rfl
      have hD9 := hD.sub (ws' := []) [] (by decide) rfl
      have hK9 := hK.sub (tys' := []) [] rfl
      exact W.zret (v := 0) hx hb hr rfl (fun t ht hW => ⟨⟨0, 0, rfl, rfl, ⟨by first | omega | decide, by first | omega | decide, fun h9 => absurd h9 (by decide), fun h9 => absurd h9 (by decide), fun _ => by omega, by rw [ht]; exact hP9, va_K.moved hW.alike hK9, hD9⟩⟩, hS.F ht⟩) hS.2.2 dX12_in_15
    · skip
      have fc2 : ¬ (60 < v0.toInt) := fun h9 => c2 (Int32.lt_iff_toInt_lt.mpr h9)
      refine lv_iconst (v := 1) hx hb dX12_in_10 (by decide) ?_
      refine lv_goto (tgt := 15) hx hb dX12_in_11 (by decide) ?_
      subst hQ
      have hP9 := hP.sub (ws' := []) [] rfl
      have hD9 := hD.sub (ws' := []) [] (by decide) rfl
      have hK9 := hK.sub (tys' := []) [] rfl
      exact W.zret (v := 1) hx hb hr rfl (fun t ht hW => ⟨⟨1, 1, rfl, rfl, ⟨by first | omega | decide, by first | omega | decide, fun _ => by omega, fun _ => by omega, fun h9 => absurd h9 (by decide), by rw [ht]; exact hP9, va_K.moved hW.alike hK9, hD9⟩⟩, hS.F ht⟩) hS.2.2 dX12_in_15
def q_X12_areDays : List Cond := .code yX12_areDays cX12_areDays 2 (some .boolean) :: (([.code yX12_in cX12_in 3 (some .boolean), .initialized RX12, .static yX12_in, .methodLink RX12 217 yX12_in, .fieldLink RX12 52 "LeftArgumentsModel" "now" "[I"] : List Cond) ++ wsX120)
set_option maxRecDepth 20000 in
theorem g_X12_areDays_0 : GoodIn q_X12_areDays (va_wsS RX12 217 yX12_in q_X12_in_6) := goodIn_app (goodIn_r _ [4, 3, 2] rfl (by decide +kernel)) (goodIn_r (.code yX12_in cX12_in 3 (some .boolean) :: []) [1] rfl (by decide +kernel))
set_option maxHeartbeats 4000000 in
set_option maxRecDepth 100000 in
theorem k_X12_areDays (l : Launch) (dC : Nat → ClassId) (dI : Nat → Nat → Nat) (h0 : Nat) (h1 : Nat) (v0 : Int32) (r0 : Nat) (v1 : Int32) (v2 : Int32) (v3 : Int32) (v4 : Int32) (r1 : Nat) (r2 : Nat) (r3 : Nat) (r4 : Nat) (r5 : Nat) (r6 : Nat) (r7 : Nat) (v5 : Int32) (v6 : Int32) (r8 : Nat) (r9 : Nat) (r10 : Nat) (r11 : Nat) (v7 : Int32) (r12 : Nat) (r13 : Nat) (v8 : Int32) (v9 : Int32) (r14 : Nat) (v10 : Int32) (v11 : Int32) (r15 : Nat) (v12 : Int32) (v13 : Int32) (r16 : Nat) (v14 : Int32) (w15 : Int64) (r17 : Nat) (v16 : Int32) (v17 : Int32) (r18 : Nat) (r19 : Nat) (r20 : Nat) (r21 : Nat) (r22 : Nat) (r23 : Nat) (v18 : Int32) (r24 : Nat) (r25 : Nat) (r26 : Nat) (v19 : Int32) (g0 : ClassId) (f20 : Nat → Int32) (v21 : Int32) (i_v1 : 0 ≤ v1.toInt ∧ v1.toInt ≤ 240) (i_v5 : 0 ≤ v5.toInt ∧ v5.toInt ≤ 4) (i_v6 : 0 ≤ v6.toInt ∧ v6.toInt ≤ 4) (i_v7 : 0 ≤ v7.toInt ∧ v7.toInt ≤ 8) (i_v8 : 0 ≤ v8.toInt ∧ v8.toInt ≤ 8) (i_v9 : 0 ≤ v9.toInt ∧ v9.toInt ≤ 1) (i_v10 : -1 ≤ v10.toInt ∧ v10.toInt ≤ 3) (i_v14 : 0 ≤ v14.toInt ∧ v14.toInt ≤ 40) (i_v18 : 0 ≤ v18.toInt ∧ v18.toInt ≤ 10) (i_v19 : 0 ≤ v19.toInt ∧ v19.toInt ≤ 1) (ia_f20 : (pm_NW f20)) (sz : Nat) : Met l yX12_areDays q_X12_areDays ({ frames := 1, cells := 0, slots := 0, locals := 22 }) (va_Pc [.ref h0, .int v21] (fun U => U.heap.size = sz ∧ va_P (dC, dI) vwCl (wd_5013416a h0 v0 r0 v1 v2 v3 v4 r1 r2 r3 r4 r5 r6 r7 v5 v6 r8 r9 r10 r11 v7 r12 r13 v8 v9 h1 r14 v10 v11 r15 v12 v13 r16 v14 w15 r17 v16 v17 r18 r19 r20 r21 r22 r23 v18 r24 r25 r26 v19 h1 g0 f20) U.heap ∧ va_K (dC, dI) vwCl [(g0, .int)] U ∧ va_D (fun _ => True) (wd_5013416a h0 v0 r0 v1 v2 v3 v4 r1 r2 r3 r4 r5 r6 r7 v5 v6 r8 r9 r10 r11 v7 r12 r13 v8 v9 h1 r14 v10 v11 r15 v12 v13 r16 v14 w15 r17 v16 v17 r18 r19 r20 r21 r22 r23 v18 r24 r25 r26 v19 h1 g0 f20))) (va_Qi (fun (r : Int32) (r9 : Int32) => r9 = r) (fun (r : Int32) (t : State) => ((0 ≤ r.toInt) ∧ (r.toInt ≤ 1) ∧ va_P (dC, dI) vwCl (wd_5013416a h0 v0 r0 v1 v2 v3 v4 r1 r2 r3 r4 r5 r6 r7 v5 v6 r8 r9 r10 r11 v7 r12 r13 v8 v9 h1 r14 v10 v11 r15 v12 v13 r16 v14 w15 r17 v16 v17 r18 r19 r20 r21 r22 r23 v18 r24 r25 r26 v19 h1 g0 f20) t.heap ∧ va_K (dC, dI) vwCl [] t ∧ va_D (va_A (wd_5013416a h0 v0 r0 v1 v2 v3 v4 r1 r2 r3 r4 r5 r6 r7 v5 v6 r8 r9 r10 r11 v7 r12 r13 v8 v9 h1 r14 v10 v11 r15 v12 v13 r16 v14 w15 r17 v16 v17 r18 r19 r20 r21 r22 r23 v18 r24 r25 r26 v19 h1 g0 f20) sz) (wd_5013416a h0 v0 r0 v1 v2 v3 v4 r1 r2 r3 r4 r5 r6 r7 v5 v6 r8 r9 r10 r11 v7 r12 r13 v8 v9 h1 r14 v10 v11 r15 v12 v13 r16 v14 w15 r17 v16 v17 r18 r19 r20 r21 r22 r23 v18 r24 r25 r26 v19 h1 g0 f20))) (va_A (wd_5013416a h0 v0 r0 v1 v2 v3 v4 r1 r2 r3 r4 r5 r6 r7 v5 v6 r8 r9 r10 r11 v7 r12 r13 v8 v9 h1 r14 v10 v11 r15 v12 v13 r16 v14 w15 r17 v16 v17 r18 r19 r20 r21 r22 r23 v18 r24 r25 r26 v19 h1 g0 f20) sz)) 0 0 (va_A (wd_5013416a h0 v0 r0 v1 v2 v3 v4 r1 r2 r3 r4 r5 r6 r7 v5 v6 r8 r9 r10 r11 v7 r12 r13 v8 v9 h1 r14 v10 v11 r15 v12 v13 r16 v14 w15 r17 v16 v17 r18 r19 r20 r21 r22 r23 v18 r24 r25 r26 v19 h1 g0 f20) sz) := by
  refine Met.ofW (cc := cX12_areDays) (maxL := 2) (ret := (some .boolean)) (by decide) rfl ?_
  intro p e s m args below meth c s₁ B hml hv
  obtain ⟨i_v1a, i_v1b⟩ := i_v1
  obtain ⟨i_v5a, i_v5b⟩ := i_v5
  obtain ⟨i_v6a, i_v6b⟩ := i_v6
  obtain ⟨i_v7a, i_v7b⟩ := i_v7
  obtain ⟨i_v8a, i_v8b⟩ := i_v8
  obtain ⟨i_v9a, i_v9b⟩ := i_v9
  obtain ⟨i_v10a, i_v10b⟩ := i_v10
  obtain ⟨i_v14a, i_v14b⟩ := i_v14
  obtain ⟨i_v18a, i_v18b⟩ := i_v18
  obtain ⟨i_v19a, i_v19b⟩ := i_v19
  obtain ⟨rfl, hsz, hP, hK, hD0⟩ := hv
  have hx := B.exec
  have hb := B.bytes
  have hr := B.returns
  have hts := atoms_spec (ws := q_X12_areDays) B.pre
  have hown : s.vm.findClass RX12 = some m.cls := findClass_of_methodNamed B.named
  have hlocks := B.notSynchronized
  subst hsz
  have hD := hD0.self (sz := s.heap.size)
  generalize hAe : va_A (wd_5013416a h0 v0 r0 v1 v2 v3 v4 r1 r2 r3 r4 r5 r6 r7 v5 v6 r8 r9 r10 r11 v7 r12 r13 v8 v9 h1 r14 v10 v11 r15 v12 v13 r16 v14 w15 r17 v16 v17 r18 r19 r20 r21 r22 r23 v18 r24 r25 r26 v19 h1 g0 f20) s.heap.size = A at hD ⊢
  have hA : ∀ q : Nat, s.heap.size ≤ q → A q := fun q h => by rw [← hAe]; exact Or.inr h
  have hS : va_S A s.heap s.heap [] := va_S.rf
  generalize hQ : (MQ below _ _ s 0 0 A) = Q
  have hl := lv_entry ([.ref h0, .int v21]) (n := 2) (Nat.le_of_ble_eq_true rfl)
  rw [lg_entry_eq]
  generalize (lg_sl ([.ref h0, .int v21]) ++ List.replicate (2 - (lg_sl ([.ref h0, .int v21])).length) Slot.unset).toArray = ls at hl ⊢
  have hl : lv_has ls 2 [(0, .ref h0), (1, .int v21)] := hl
  obtain ⟨H, hH⟩ : ∃ H : Heap, H = s.heap := ⟨_, rfl⟩
  obtain ⟨locs, hlocs⟩ : ∃ y : List Loc, y = [] := ⟨_, rfl⟩
  have hS : va_S A s.heap H locs := by rw [hH, hlocs]; exact va_S.rf
  have hP : va_P (dC, dI) vwCl (wd_5013416a h0 v0 r0 v1 v2 v3 v4 r1 r2 r3 r4 r5 r6 r7 v5 v6 r8 r9 r10 r11 v7 r12 r13 v8 v9 h1 r14 v10 v11 r15 v12 v13 r16 v14 w15 r17 v16 v17 r18 r19 r20 r21 r22 r23 v18 r24 r25 r26 v19 h1 g0 f20) H := by rw [hH]; exact hP
  rw [← hH, ← hlocs]
  refine lv_iload_n hx hb dX12_areDays_0 rfl (lv_at hl 1 rfl) ?_
  refine lv_iconst (v := 1) hx hb dX12_areDays_1 (by decide) ?_
  refine lv_bipush (v := 60) hx hb dX12_areDays_2 (by decide) ?_
  have hPc := hP.sub (ws' := []) [] rfl
  have hDc := hD.sub (ws' := []) [] (by decide) rfl
  have hKc := hK.sub (tys' := []) [] rfl
  have hFc := va_free (wc := []) hD hS hA [] rfl
  refine va_calli (va_runS (As := [.int v21, .int 1, .int 60]) (rest := []) ⟨hx, hb, hml, hown, hts⟩ (k_X12_in_6 l dC dI v21  H.size) (va_cwS 3 hts g_X12_areDays_0 rfl rfl rfl (by decide +kernel) ⟨Nat.le_of_ble_eq_true rfl, Nat.le_of_ble_eq_true rfl⟩) (pv_PS hPc hKc hDc) rfl rfl hl.1 rfl (lv_room (Nat.le_of_ble_eq_true rfl)) dX12_areDays_4 ⟨Nat.le_of_ble_eq_true rfl, Nat.le_of_ble_eq_true rfl⟩) hS (fun q _ h => hFc q h) hFc (fun ra1 u t H1 locs ht hvm hwra1 hB hz1 hk1 hS => ?_)
  try rw [hwra1] at hB
  obtain ⟨pt0_ra1, pt1_ra1, pt2_ra1, pt3_ra1, pt4_ra1, hP1, hK1, hD1⟩ := hB
  rw [ht] at hP1
  obtain ⟨hP2, hD2⟩ := va_join (wr := (wd_5013416a h0 v0 r0 v1 v2 v3 v4 r1 r2 r3 r4 r5 r6 r7 v5 v6 r8 r9 r10 r11 v7 r12 r13 v8 v9 h1 r14 v10 v11 r15 v12 v13 r16 v14 w15 r17 v16 v17 r18 r19 r20 r21 r22 r23 v18 r24 r25 r26 v19 h1 g0 f20)) (w1 := []) hP hD [] [0, 1] rfl rfl (by decide) (by decide) hk1 hFc hP1 hD1
  clear hP hD hPc hDc hKc hFc hP1 hK1 hD1 hk1 hz1
  generalize H1 = H at hP2 hS ⊢
  have hP : va_P (dC, dI) vwCl (wd_5013416a h0 v0 r0 v1 v2 v3 v4 r1 r2 r3 r4 r5 r6 r7 v5 v6 r8 r9 r10 r11 v7 r12 r13 v8 v9 h1 r14 v10 v11 r15 v12 v13 r16 v14 w15 r17 v16 v17 r18 r19 r20 r21 r22 r23 v18 r24 r25 r26 v19 h1 g0 f20) H := hP2
  have hD : va_D A (wd_5013416a h0 v0 r0 v1 v2 v3 v4 r1 r2 r3 r4 r5 r6 r7 v5 v6 r8 r9 r10 r11 v7 r12 r13 v8 v9 h1 r14 v10 v11 r15 v12 v13 r16 v14 w15 r17 v16 v17 r18 r19 r20 r21 r22 r23 v18 r24 r25 r26 v19 h1 g0 f20) := hD2
  clear hP2 hD2
  have hJ3 : ∀ (x2 : Int32) (H : Heap) (locs : List Loc) (ls : Array Slot), 0 ≤ x2.toInt → x2.toInt ≤ 1 → va_P (dC, dI) vwCl (wd_5013416a h0 v0 r0 v1 v2 v3 v4 r1 r2 r3 r4 r5 r6 r7 v5 v6 r8 r9 r10 r11 v7 r12 r13 v8 v9 h1 r14 v10 v11 r15 v12 v13 r16 v14 w15 r17 v16 v17 r18 r19 r20 r21 r22 r23 v18 r24 r25 r26 v19 h1 g0 f20) H → va_D A (wd_5013416a h0 v0 r0 v1 v2 v3 v4 r1 r2 r3 r4 r5 r6 r7 v5 v6 r8 r9 r10 r11 v7 r12 r13 v8 v9 h1 r14 v10 v11 r15 v12 v13 r16 v14 w15 r17 v16 v17 r18 r19 r20 r21 r22 r23 v18 r24 r25 r26 v19 h1 g0 f20) → va_S A s.heap H locs → lv_has ls 2 [(0, .ref h0), (1, .int v21)] → W p l e ({ frames := 1, cells := 0, slots := 0, locals := 22 }) s m ([.ref h0, .int v21] : List Value).toArray below meth c H locs 0 0 Q (F0 m 30 ls [.int x2]) := by
    intro x2 H locs ls qa_x2 qb_x2 hP hD hS hl
    subst hQ
    have hP9 := hP.sub (ws' := (wd_5013416a h0 v0 r0 v1 v2 v3 v4 r1 r2 r3 r4 r5 r6 r7 v5 v6 r8 r9 r10 r11 v7 r12 r13 v8 v9 h1 r14 v10 v11 r15 v12 v13 r16 v14 w15 r17 v16 v17 r18 r19 r20 r21 r22 r23 v18 r24 r25 r26 v19 h1 g0 f20)) [0, 1] rfl
    have hD9 := hD.sub (ws' := (wd_5013416a h0 v0 r0 v1 v2 v3 v4 r1 r2 r3 r4 r5 r6 r7 v5 v6 r8 r9 r10 r11 v7 r12 r13 v8 v9 h1 r14 v10 v11 r15 v12 v13 r16 v14 w15 r17 v16 v17 r18 r19 r20 r21 r22 r23 v18 r24 r25 r26 v19 h1 g0 f20)) [0, 1] (by decide) rfl
    have hK9 := hK.sub (tys' := []) [] rfl
    exact W.zret (v := x2) hx hb hr (pv_nz (by omega) (by omega)) (fun t ht hW => ⟨⟨x2, x2, rfl, rfl, ⟨by first | omega | decide, by first | omega | decide, by rw [ht]; exact hP9, va_K.moved hW.alike hK9, hD9⟩⟩, hS.F ht⟩) hS.2.2 dX12_areDays_30
  refine lv_if_eq (tgt := 29) hx hb dX12_areDays_7 (by decide) (fun c4 => ?_) (fun c4 => ?_)
  · skip
    have fc4 : ra1.toInt = 0 := congrArg Int32.toInt c4
    refine lv_iconst (v := 0) hx hb dX12_areDays_29 (by decide) ?_
    exact hJ3 0 H locs ls (by decide) (by decide) hP hD hS (lv_sub hl [0, 1] rfl)
  · skip
    have fc4 : ¬ (ra1.toInt = 0) := fun h9 => c4 (Int32.toInt_inj.mp h9)
    refine lv_aload_n hx hb dX12_areDays_10 rfl (lv_at hl 0 rfl) ?_
    refine va_get (D := (dC, dI)) (ci := 12) (v := .ref h1) (C := RX12) (T := TX12) (N := 48) hx hb hts (fun _ h => List.mem_cons_of_mem _ (List.mem_append_right _ h)) hown hK hP 0 rfl rfl 24 (by decide) (hts (.fieldLink RX12 52 "LeftArgumentsModel" "now" "[I") (List.mem_cons_of_mem _ (List.mem_append_left _ (List.mem_of_getElem? (i := 4) rfl)))) (fun _ h9 => h9) rfl dX12_areDays_11 ?_
    refine lv_bipush (v := 65) hx hb dX12_areDays_14 (by decide) ?_
    refine va_iald hx hb hK hP 1 0 rfl rfl (pv_c (x := 65) (n := 247) (by decide)) dX12_areDays_16 ?_
    refine lv_topi (fun t5 et5 => ?_)
    have mmt5 : f20 (Int32.toNatClampNeg 65) = t5 := et5.symm
    refine lv_iload_n hx hb dX12_areDays_17 rfl (lv_at hl 1 rfl) ?_
    refine lv_iadd hx hb dX12_areDays_18 ?_
    refine lv_topi (fun t6 et6 => ?_)
    refine lv_sipush (v := 999) hx hb dX12_areDays_19 (by decide) ?_
    refine lv_icmp_gt (tgt := 29) hx hb dX12_areDays_22 (by decide) (fun c7 => ?_) (fun c7 => ?_)
    · skip
      have fc7 : 999 < t6.toInt := Int32.lt_iff_toInt_lt.mp c7
      refine lv_iconst (v := 0) hx hb dX12_areDays_29 (by decide) ?_
      exact hJ3 0 H locs ls (by decide) (by decide) hP hD hS (lv_sub hl [0, 1] rfl)
    · skip
      have fc7 : ¬ (999 < t6.toInt) := fun h9 => c7 (Int32.lt_iff_toInt_lt.mpr h9)
      refine lv_iconst (v := 1) hx hb dX12_areDays_25 (by decide) ?_
      refine lv_goto (tgt := 30) hx hb dX12_areDays_26 (by decide) ?_
      exact hJ3 1 H locs ls (by decide) (by decide) hP hD hS (lv_sub hl [0, 1] rfl)
def q_X12_does : List Cond := .code yX12_does cX12_does 3 (some .boolean) :: (([.code yX12_loadOf cX12_loadOf 4 (some .int), .code yX12_isThere cX12_isThere 2 (some .boolean), .code yX12_in cX12_in 3 (some .boolean), .initialized RX12, .static yX12_in, .methodLink RX12 217 yX12_in, .code yX12_of cX12_of 3 (some .int), .fieldLink RX12 52 "LeftArgumentsModel" "now" "[I", .instanceMethod yX12_of, .selects RX12 yX12_of yX12_of, .methodLink RX12 287 yX12_of, .instanceMethod yX12_isThere, .selects RX12 yX12_isThere yX12_isThere, .methodLink RX12 290 yX12_isThere, .instanceMethod yX12_loadOf, .selects RX12 yX12_loadOf yX12_loadOf, .methodLink RX12 312 yX12_loadOf, .fieldLink RX12 46 "LeftArgumentsModel" "rule" "[I"] : List Cond) ++ wsX120)
set_option maxRecDepth 20000 in
theorem g_X12_does_0 : GoodIn q_X12_does (wsV RX12 312 RX12 yX12_loadOf q_X12_loadOf) := goodIn_app (goodIn_r _ [17, 15, 16, 4] rfl (by decide +kernel)) (goodIn_ca (goodIn_r (.code yX12_loadOf cX12_loadOf 4 (some .int) :: [.code yX12_isThere cX12_isThere 2 (some .boolean), .code yX12_in cX12_in 3 (some .boolean), .initialized RX12, .static yX12_in, .methodLink RX12 217 yX12_in, .code yX12_of cX12_of 3 (some .int), .fieldLink RX12 52 "LeftArgumentsModel" "now" "[I", .instanceMethod yX12_of, .selects RX12 yX12_of yX12_of, .methodLink RX12 287 yX12_of, .instanceMethod yX12_isThere, .selects RX12 yX12_isThere yX12_isThere, .methodLink RX12 290 yX12_isThere]) [1, 2, 3, 4, 5, 6, 7, 8, 9, 10, 11, 12, 13, 14] rfl (by decide +kernel)) (goodIn_sub (fun _ h => List.mem_cons_of_mem _ (List.mem_append_right _ h)) gwX12))
set_option maxHeartbeats 4000000 in
set_option maxRecDepth 100000 in
theorem k_X12_does (l : Launch) (dC : Nat → ClassId) (dI : Nat → Nat → Nat) (h0 : Nat) (h1 : Nat) (h2 : Nat) (v0 : Int32) (r0 : Nat) (v1 : Int32) (v2 : Int32) (v3 : Int32) (v4 : Int32) (r1 : Nat) (r2 : Nat) (r3 : Nat) (r4 : Nat) (r5 : Nat) (r6 : Nat) (r7 : Nat) (v5 : Int32) (v6 : Int32) (r8 : Nat) (r9 : Nat) (r10 : Nat) (r11 : Nat) (v7 : Int32) (r12 : Nat) (v8 : Int32) (v9 : Int32) (r13 : Nat) (v10 : Int32) (v11 : Int32) (r14 : Nat) (v12 : Int32) (v13 : Int32) (r15 : Nat) (v14 : Int32) (w15 : Int64) (r16 : Nat) (v16 : Int32) (v17 : Int32) (r17 : Nat) (r18 : Nat) (r19 : Nat) (r20 : Nat) (r21 : Nat) (r22 : Nat) (v18 : Int32) (r23 : Nat) (r24 : Nat) (r25 : Nat) (v19 : Int32) (g0 : ClassId) (f20 : Nat → Int32) (g1 : ClassId) (f21 : Nat → Int32) (v22 : Int32) (v23 : Int32) (i_v1 : 0 ≤ v1.toInt ∧ v1.toInt ≤ 240) (i_v5 : 0 ≤ v5.toInt ∧ v5.toInt ≤ 4) (i_v6 : 0 ≤ v6.toInt ∧ v6.toInt ≤ 4) (i_v7 : 0 ≤ v7.toInt ∧ v7.toInt ≤ 8) (i_v8 : 0 ≤ v8.toInt ∧ v8.toInt ≤ 8) (i_v9 : 0 ≤ v9.toInt ∧ v9.toInt ≤ 1) (i_v10 : -1 ≤ v10.toInt ∧ v10.toInt ≤ 3) (i_v14 : 0 ≤ v14.toInt ∧ v14.toInt ≤ 40) (i_v18 : 0 ≤ v18.toInt ∧ v18.toInt ≤ 10) (i_v19 : 0 ≤ v19.toInt ∧ v19.toInt ≤ 1) (ia_f20 : (pm_RU f20)) (ia_f21 : (pm_NW f21)) (sz : Nat) : Met l yX12_does q_X12_does ({ frames := 3, cells := 0, slots := 0, locals := 66 }) (va_Pc [.ref h0, .int v22, .int v23] (fun U => U.heap.size = sz ∧ va_P (dC, dI) vwCl (wd_78675856 h0 v0 r0 v1 v2 v3 v4 r1 r2 r3 r4 r5 r6 r7 v5 v6 r8 r9 r10 r11 v7 h1 r12 v8 v9 h2 r13 v10 v11 r14 v12 v13 r15 v14 w15 r16 v16 v17 r17 r18 r19 r20 r21 r22 v18 r23 r24 r25 v19 h1 g0 f20 h2 g1 f21) U.heap ∧ va_K (dC, dI) vwCl [(g0, .int), (g1, .int)] U ∧ va_D (fun _ => True) (wd_78675856 h0 v0 r0 v1 v2 v3 v4 r1 r2 r3 r4 r5 r6 r7 v5 v6 r8 r9 r10 r11 v7 h1 r12 v8 v9 h2 r13 v10 v11 r14 v12 v13 r15 v14 w15 r16 v16 v17 r17 r18 r19 r20 r21 r22 v18 r23 r24 r25 v19 h1 g0 f20 h2 g1 f21))) (va_Qi (fun (r : Int32) (r9 : Int32) => r9 = r) (fun (r : Int32) (t : State) => ((0 ≤ r.toInt) ∧ (r.toInt ≤ 1) ∧ va_P (dC, dI) vwCl (wd_78675856 h0 v0 r0 v1 v2 v3 v4 r1 r2 r3 r4 r5 r6 r7 v5 v6 r8 r9 r10 r11 v7 h1 r12 v8 v9 h2 r13 v10 v11 r14 v12 v13 r15 v14 w15 r16 v16 v17 r17 r18 r19 r20 r21 r22 v18 r23 r24 r25 v19 h1 g0 f20 h2 g1 f21) t.heap ∧ va_K (dC, dI) vwCl [] t ∧ va_D (va_A (wd_78675856 h0 v0 r0 v1 v2 v3 v4 r1 r2 r3 r4 r5 r6 r7 v5 v6 r8 r9 r10 r11 v7 h1 r12 v8 v9 h2 r13 v10 v11 r14 v12 v13 r15 v14 w15 r16 v16 v17 r17 r18 r19 r20 r21 r22 v18 r23 r24 r25 v19 h1 g0 f20 h2 g1 f21) sz) (wd_78675856 h0 v0 r0 v1 v2 v3 v4 r1 r2 r3 r4 r5 r6 r7 v5 v6 r8 r9 r10 r11 v7 h1 r12 v8 v9 h2 r13 v10 v11 r14 v12 v13 r15 v14 w15 r16 v16 v17 r17 r18 r19 r20 r21 r22 v18 r23 r24 r25 v19 h1 g0 f20 h2 g1 f21))) (va_A (wd_78675856 h0 v0 r0 v1 v2 v3 v4 r1 r2 r3 r4 r5 r6 r7 v5 v6 r8 r9 r10 r11 v7 h1 r12 v8 v9 h2 r13 v10 v11 r14 v12 v13 r15 v14 w15 r16 v16 v17 r17 r18 r19 r20 r21 r22 v18 r23 r24 r25 v19 h1 g0 f20 h2 g1 f21) sz)) 0 0 (va_A (wd_78675856 h0 v0 r0 v1 v2 v3 v4 r1 r2 r3 r4 r5 r6 r7 v5 v6 r8 r9 r10 r11 v7 h1 r12 v8 v9 h2 r13 v10 v11 r14 v12 v13 r15 v14 w15 r16 v16 v17 r17 r18 r19 r20 r21 r22 v18 r23 r24 r25 v19 h1 g0 f20 h2 g1 f21) sz) := by
  refine Met.ofW (cc := cX12_does) (maxL := 3) (ret := (some .boolean)) (by decide) rfl ?_
  intro p e s m args below meth c s₁ B hml hv
  obtain ⟨i_v1a, i_v1b⟩ := i_v1
  obtain ⟨i_v5a, i_v5b⟩ := i_v5
  obtain ⟨i_v6a, i_v6b⟩ := i_v6
  obtain ⟨i_v7a, i_v7b⟩ := i_v7
  obtain ⟨i_v8a, i_v8b⟩ := i_v8
  obtain ⟨i_v9a, i_v9b⟩ := i_v9
  obtain ⟨i_v10a, i_v10b⟩ := i_v10
  obtain ⟨i_v14a, i_v14b⟩ := i_v14
  obtain ⟨i_v18a, i_v18b⟩ := i_v18
  obtain ⟨i_v19a, i_v19b⟩ := i_v19
  obtain ⟨rfl, hsz, hP, hK, hD0⟩ := hv
  have hx := B.exec
  have hb := B.bytes
  have hr := B.returns
  have hts := atoms_spec (ws := q_X12_does) B.pre
  have hown : s.vm.findClass RX12 = some m.cls := findClass_of_methodNamed B.named
  have hlocks := B.notSynchronized
  subst hsz
  have hD := hD0.self (sz := s.heap.size)
  generalize hAe : va_A (wd_78675856 h0 v0 r0 v1 v2 v3 v4 r1 r2 r3 r4 r5 r6 r7 v5 v6 r8 r9 r10 r11 v7 h1 r12 v8 v9 h2 r13 v10 v11 r14 v12 v13 r15 v14 w15 r16 v16 v17 r17 r18 r19 r20 r21 r22 v18 r23 r24 r25 v19 h1 g0 f20 h2 g1 f21) s.heap.size = A at hD ⊢
  have hA : ∀ q : Nat, s.heap.size ≤ q → A q := fun q h => by rw [← hAe]; exact Or.inr h
  have hS : va_S A s.heap s.heap [] := va_S.rf
  generalize hQ : (MQ below _ _ s 0 0 A) = Q
  have hl := lv_entry ([.ref h0, .int v22, .int v23]) (n := 3) (Nat.le_of_ble_eq_true rfl)
  rw [lg_entry_eq]
  generalize (lg_sl ([.ref h0, .int v22, .int v23]) ++ List.replicate (3 - (lg_sl ([.ref h0, .int v22, .int v23])).length) Slot.unset).toArray = ls at hl ⊢
  have hl : lv_has ls 3 [(0, .ref h0), (1, .int v22), (2, .int v23)] := hl
  obtain ⟨H, hH⟩ : ∃ H : Heap, H = s.heap := ⟨_, rfl⟩
  obtain ⟨locs, hlocs⟩ : ∃ y : List Loc, y = [] := ⟨_, rfl⟩
  have hS : va_S A s.heap H locs := by rw [hH, hlocs]; exact va_S.rf
  have hP : va_P (dC, dI) vwCl (wd_78675856 h0 v0 r0 v1 v2 v3 v4 r1 r2 r3 r4 r5 r6 r7 v5 v6 r8 r9 r10 r11 v7 h1 r12 v8 v9 h2 r13 v10 v11 r14 v12 v13 r15 v14 w15 r16 v16 v17 r17 r18 r19 r20 r21 r22 v18 r23 r24 r25 v19 h1 g0 f20 h2 g1 f21) H := by rw [hH]; exact hP
  rw [← hH, ← hlocs]
  refine lv_aload_n hx hb dX12_does_0 rfl (lv_at hl 0 rfl) ?_
  refine lv_iload_n hx hb dX12_does_1 rfl (lv_at hl 1 rfl) ?_
  have hPc := hP.sub (ws' := (wd_5013416a h0 v0 r0 v1 v2 v3 v4 r1 r2 r3 r4 r5 r6 r7 v5 v6 r8 r9 r10 r11 v7 h1 r12 v8 v9 h2 r13 v10 v11 r14 v12 v13 r15 v14 w15 r16 v16 v17 r17 r18 r19 r20 r21 r22 v18 r23 r24 r25 v19 h2 g1 f21)) [0, 2] rfl
  have hDc := hD.sub (ws' := (wd_5013416a h0 v0 r0 v1 v2 v3 v4 r1 r2 r3 r4 r5 r6 r7 v5 v6 r8 r9 r10 r11 v7 h1 r12 v8 v9 h2 r13 v10 v11 r14 v12 v13 r15 v14 w15 r16 v16 v17 r17 r18 r19 r20 r21 r22 v18 r23 r24 r25 v19 h2 g1 f21)) [0, 2] (by decide) rfl
  have hKc := hK.sub (tys' := [(g1, .int)]) [1] rfl
  have hFc := va_free (wc := (wd_5013416a h0 v0 r0 v1 v2 v3 v4 r1 r2 r3 r4 r5 r6 r7 v5 v6 r8 r9 r10 r11 v7 h1 r12 v8 v9 h2 r13 v10 v11 r14 v12 v13 r15 v14 w15 r16 v16 v17 r17 r18 r19 r20 r21 r22 v18 r23 r24 r25 v19 h2 g1 f21)) hD hS hA [0, 2] rfl
  refine va_calli (va_runV (As := [.int v22]) (rest := []) ⟨hx, hb, hml, hown, hts⟩ (k_X12_loadOf l dC dI h0 h2 v0 r0 v1 v2 v3 v4 r1 r2 r3 r4 r5 r6 r7 v5 v6 r8 r9 r10 r11 v7 h1 r12 v8 v9 r13 v10 v11 r14 v12 v13 r15 v14 w15 r16 v16 v17 r17 r18 r19 r20 r21 r22 v18 r23 r24 r25 v19 g1 f21 v22 ⟨i_v1a, i_v1b⟩ ⟨i_v5a, i_v5b⟩ ⟨i_v6a, i_v6b⟩ ⟨i_v7a, i_v7b⟩ ⟨i_v8a, i_v8b⟩ ⟨i_v9a, i_v9b⟩ ⟨i_v10a, i_v10b⟩ ⟨i_v14a, i_v14b⟩ ⟨i_v18a, i_v18b⟩ ⟨i_v19a, i_v19b⟩ ia_f21 H.size) (cwV 1 hts g_X12_does_0 rfl rfl rfl (by decide +kernel) ⟨Nat.le_of_ble_eq_true rfl, Nat.le_of_ble_eq_true rfl⟩) (pv_PV12 hPc hKc hDc (q0 := 0) rfl) rfl rfl hl.1 rfl (lv_room (Nat.le_of_ble_eq_true rfl)) dX12_does_2 ⟨Nat.le_of_ble_eq_true rfl, Nat.le_of_ble_eq_true rfl⟩) hS (fun q _ h => hFc q h) hFc (fun ra1 u t H1 locs ht hvm hwra1 hB hz1 hk1 hS => ?_)
  try rw [hwra1] at hB
  obtain ⟨pt0_ra1, hP1, hK1, hD1⟩ := hB
  rw [ht] at hP1
  obtain ⟨hP2, hD2⟩ := va_join (wr := (wd_6f8f3203 h1 g0 f20)) (w1 := (wd_5013416a h0 v0 r0 v1 v2 v3 v4 r1 r2 r3 r4 r5 r6 r7 v5 v6 r8 r9 r10 r11 v7 h1 r12 v8 v9 h2 r13 v10 v11 r14 v12 v13 r15 v14 w15 r16 v16 v17 r17 r18 r19 r20 r21 r22 v18 r23 r24 r25 v19 h2 g1 f21)) hP hD [0, 2] [1] rfl rfl (by decide) (by decide) hk1 hFc hP1 hD1
  clear hP hD hPc hDc hKc hFc hP1 hK1 hD1 hk1 hz1
  generalize H1 = H at hP2 hS ⊢
  have hP := hP2.sub (ws' := (wd_78675856 h0 v0 r0 v1 v2 v3 v4 r1 r2 r3 r4 r5 r6 r7 v5 v6 r8 r9 r10 r11 v7 h1 r12 v8 v9 h2 r13 v10 v11 r14 v12 v13 r15 v14 w15 r16 v16 v17 r17 r18 r19 r20 r21 r22 v18 r23 r24 r25 v19 h1 g0 f20 h2 g1 f21)) [1, 0, 2] rfl
  have hD := hD2.sub (ws' := (wd_78675856 h0 v0 r0 v1 v2 v3 v4 r1 r2 r3 r4 r5 r6 r7 v5 v6 r8 r9 r10 r11 v7 h1 r12 v8 v9 h2 r13 v10 v11 r14 v12 v13 r15 v14 w15 r16 v16 v17 r17 r18 r19 r20 r21 r22 v18 r23 r24 r25 v19 h1 g0 f20 h2 g1 f21)) [1, 0, 2] (by decide) rfl
  clear hP2 hD2
  refine lv_iload_n hx hb dX12_does_5 rfl (lv_at hl 2 rfl) ?_
  refine lv_iadd hx hb dX12_does_6 ?_
  refine lv_topi (fun t2 et2 => ?_)
  refine lv_aload_n hx hb dX12_does_7 rfl (lv_at hl 0 rfl) ?_
  refine va_get (D := (dC, dI)) (ci := 12) (v := .ref h1) (C := RX12) (T := TX12) (N := 48) hx hb hts (fun _ h => List.mem_cons_of_mem _ (List.mem_append_right _ h)) hown hK hP 0 rfl rfl 20 (by decide) (hts (.fieldLink RX12 46 "LeftArgumentsModel" "rule" "[I") (List.mem_cons_of_mem _ (List.mem_append_left _ (List.mem_of_getElem? (i := 17) rfl)))) (fun _ h9 => h9) rfl dX12_does_8 ?_
  refine lv_iconst (v := 0) hx hb dX12_does_11 (by decide) ?_
  refine va_iald hx hb hK hP 1 0 rfl rfl (pv_c (x := 0) (n := 4) (by decide)) dX12_does_12 ?_
  refine lv_topi (fun t3 et3 => ?_)
  have gat3 : 0 ≤ t3.toInt := by rw [et3]; exact ia_f20.2
  have hJ5 : ∀ (x4 : Int32) (H : Heap) (locs : List Loc) (ls : Array Slot), 0 ≤ x4.toInt → x4.toInt ≤ 1 → va_P (dC, dI) vwCl (wd_78675856 h0 v0 r0 v1 v2 v3 v4 r1 r2 r3 r4 r5 r6 r7 v5 v6 r8 r9 r10 r11 v7 h1 r12 v8 v9 h2 r13 v10 v11 r14 v12 v13 r15 v14 w15 r16 v16 v17 r17 r18 r19 r20 r21 r22 v18 r23 r24 r25 v19 h1 g0 f20 h2 g1 f21) H → va_D A (wd_78675856 h0 v0 r0 v1 v2 v3 v4 r1 r2 r3 r4 r5 r6 r7 v5 v6 r8 r9 r10 r11 v7 h1 r12 v8 v9 h2 r13 v10 v11 r14 v12 v13 r15 v14 w15 r16 v16 v17 r17 r18 r19 r20 r21 r22 v18 r23 r24 r25 v19 h1 g0 f20 h2 g1 f21) → va_S A s.heap H locs → lv_has ls 3 [(0, .ref h0), (1, .int v22), (2, .int v23)] → W p l e ({ frames := 3, cells := 0, slots := 0, locals := 66 }) s m ([.ref h0, .int v22, .int v23] : List Value).toArray below meth c H locs 0 0 Q (F0 m 21 ls [.int x4]) := by
    intro x4 H locs ls qa_x4 qb_x4 hP hD hS hl
    subst hQ
    have hP9 := hP.sub (ws' := (wd_78675856 h0 v0 r0 v1 v2 v3 v4 r1 r2 r3 r4 r5 r6 r7 v5 v6 r8 r9 r10 r11 v7 h1 r12 v8 v9 h2 r13 v10 v11 r14 v12 v13 r15 v14 w15 r16 v16 v17 r17 r18 r19 r20 r21 r22 v18 r23 r24 r25 v19 h1 g0 f20 h2 g1 f21)) [0, 1, 2] rfl
    have hD9 := hD.sub (ws' := (wd_78675856 h0 v0 r0 v1 v2 v3 v4 r1 r2 r3 r4 r5 r6 r7 v5 v6 r8 r9 r10 r11 v7 h1 r12 v8 v9 h2 r13 v10 v11 r14 v12 v13 r15 v14 w15 r16 v16 v17 r17 r18 r19 r20 r21 r22 v18 r23 r24 r25 v19 h1 g0 f20 h2 g1 f21)) [0, 1, 2] (by decide) rfl
    have hK9 := hK.sub (tys' := []) [] rfl
    exact W.zret (v := x4) hx hb hr (pv_nz (by omega) (by omega)) (fun t ht hW => ⟨⟨x4, x4, rfl, rfl, ⟨by first | omega | decide, by first | omega | decide, by rw [ht]; exact hP9, va_K.moved hW.alike hK9, hD9⟩⟩, hS.F ht⟩) hS.2.2 dX12_does_21
  refine lv_icmp_gt (tgt := 20) hx hb dX12_does_13 (by decide) (fun c6 => ?_) (fun c6 => ?_)
  · skip
    have fc6 : t3.toInt < t2.toInt := Int32.lt_iff_toInt_lt.mp c6
    have r1c6 := Int32.toInt_lt t2
    have r2c6 := Int32.toInt_lt t3
    have r3c6 := Int32.le_toInt t2
    have r4c6 := Int32.le_toInt t3
    refine lv_iconst (v := 0) hx hb dX12_does_20 (by decide) ?_
    exact hJ5 0 H locs ls (by decide) (by decide) hP hD hS (lv_sub hl [0, 1, 2] rfl)
  · skip
    have fc6 : ¬ (t3.toInt < t2.toInt) := fun h9 => c6 (Int32.lt_iff_toInt_lt.mpr h9)
    have r1c6 := Int32.toInt_lt t2
    have r2c6 := Int32.toInt_lt t3
    have r3c6 := Int32.le_toInt t2
    have r4c6 := Int32.le_toInt t3
    refine lv_iconst (v := 1) hx hb dX12_does_16 (by decide) ?_
    refine lv_goto (tgt := 21) hx hb dX12_does_17 (by decide) ?_
    exact hJ5 1 H locs ls (by decide) (by decide) hP hD hS (lv_sub hl [0, 1, 2] rfl)
def q_X12_load : List Cond := .code yX12_load cX12_load 2 (some .int) :: (([.fieldLink RX12 262 "LeftArgumentsModel" "isOffice" "Z", .code yX12_isShelf cX12_isShelf 2 (some .boolean), .fieldLink RX12 46 "LeftArgumentsModel" "rule" "[I", .code yX12_in cX12_in 3 (some .boolean), .initialized RX12, .static yX12_in, .methodLink RX12 217 yX12_in, .instanceMethod yX12_isShelf, .selects RX12 yX12_isShelf yX12_isShelf, .methodLink RX12 333 yX12_isShelf, .code yX12_loadOf cX12_loadOf 4 (some .int), .code yX12_isThere cX12_isThere 2 (some .boolean), .code yX12_of cX12_of 3 (some .int), .fieldLink RX12 52 "LeftArgumentsModel" "now" "[I", .instanceMethod yX12_of, .selects RX12 yX12_of yX12_of, .methodLink RX12 287 yX12_of, .instanceMethod yX12_isThere, .selects RX12 yX12_isThere yX12_isThere, .methodLink RX12 290 yX12_isThere, .instanceMethod yX12_loadOf, .selects RX12 yX12_loadOf yX12_loadOf, .methodLink RX12 312 yX12_loadOf] : List Cond) ++ wsX120)
set_option maxRecDepth 20000 in
theorem g_X12_load_0 : GoodIn q_X12_load (wsV RX12 333 RX12 yX12_isShelf q_X12_isShelf) := goodIn_app (goodIn_r _ [10, 8, 9, 5] rfl (by decide +kernel)) (goodIn_ca (goodIn_r (.code yX12_isShelf cX12_isShelf 2 (some .boolean) :: [.fieldLink RX12 46 "LeftArgumentsModel" "rule" "[I", .code yX12_in cX12_in 3 (some .boolean), .initialized RX12, .static yX12_in, .methodLink RX12 217 yX12_in]) [2, 3, 4, 5, 6, 7] rfl (by decide +kernel)) (goodIn_sub (fun _ h => List.mem_cons_of_mem _ (List.mem_append_right _ h)) gwX12))
set_option maxRecDepth 20000 in
theorem g_X12_load_1 : GoodIn q_X12_load (wsV RX12 312 RX12 yX12_loadOf q_X12_loadOf) := goodIn_app (goodIn_r _ [23, 21, 22, 5] rfl (by decide +kernel)) (goodIn_ca (goodIn_r (.code yX12_loadOf cX12_loadOf 4 (some .int) :: [.code yX12_isThere cX12_isThere 2 (some .boolean), .code yX12_in cX12_in 3 (some .boolean), .initialized RX12, .static yX12_in, .methodLink RX12 217 yX12_in, .code yX12_of cX12_of 3 (some .int), .fieldLink RX12 52 "LeftArgumentsModel" "now" "[I", .instanceMethod yX12_of, .selects RX12 yX12_of yX12_of, .methodLink RX12 287 yX12_of, .instanceMethod yX12_isThere, .selects RX12 yX12_isThere yX12_isThere, .methodLink RX12 290 yX12_isThere]) [11, 12, 4, 5, 6, 7, 13, 14, 15, 16, 17, 18, 19, 20] rfl (by decide +kernel)) (goodIn_sub (fun _ h => List.mem_cons_of_mem _ (List.mem_append_right _ h)) gwX12))
set_option maxHeartbeats 4000000 in
set_option maxRecDepth 100000 in
theorem k_X12_load (l : Launch) (dC : Nat → ClassId) (dI : Nat → Nat → Nat) (h0 : Nat) (h1 : Nat) (h2 : Nat) (v0 : Int32) (r0 : Nat) (v1 : Int32) (v2 : Int32) (v3 : Int32) (v4 : Int32) (r1 : Nat) (r2 : Nat) (r3 : Nat) (r4 : Nat) (r5 : Nat) (r6 : Nat) (r7 : Nat) (v5 : Int32) (v6 : Int32) (r8 : Nat) (r9 : Nat) (r10 : Nat) (r11 : Nat) (v7 : Int32) (r12 : Nat) (v8 : Int32) (v9 : Int32) (r13 : Nat) (v10 : Int32) (v11 : Int32) (r14 : Nat) (v12 : Int32) (v13 : Int32) (r15 : Nat) (v14 : Int32) (w15 : Int64) (r16 : Nat) (v16 : Int32) (v17 : Int32) (r17 : Nat) (r18 : Nat) (r19 : Nat) (r20 : Nat) (r21 : Nat) (r22 : Nat) (v18 : Int32) (r23 : Nat) (r24 : Nat) (r25 : Nat) (v19 : Int32) (g0 : ClassId) (f20 : Nat → Int32) (g1 : ClassId) (f21 : Nat → Int32) (v22 : Int32) (i_v1 : 0 ≤ v1.toInt ∧ v1.toInt ≤ 240) (i_v5 : 0 ≤ v5.toInt ∧ v5.toInt ≤ 4) (i_v6 : 0 ≤ v6.toInt ∧ v6.toInt ≤ 4) (i_v7 : 0 ≤ v7.toInt ∧ v7.toInt ≤ 8) (i_v8 : 0 ≤ v8.toInt ∧ v8.toInt ≤ 8) (i_v9 : 0 ≤ v9.toInt ∧ v9.toInt ≤ 1) (i_v10 : -1 ≤ v10.toInt ∧ v10.toInt ≤ 3) (i_v14 : 0 ≤ v14.toInt ∧ v14.toInt ≤ 40) (i_v18 : 0 ≤ v18.toInt ∧ v18.toInt ≤ 10) (i_v19 : 0 ≤ v19.toInt ∧ v19.toInt ≤ 1) (ia_f20 : (pm_RU f20)) (ia_f21 : (pm_NW f21)) (sz : Nat) : Met l yX12_load q_X12_load ({ frames := 3, cells := 0, slots := 0, locals := 66 }) (va_Pc [.ref h0, .int v22] (fun U => U.heap.size = sz ∧ va_P (dC, dI) vwCl (wd_78675856 h0 v0 r0 v1 v2 v3 v4 r1 r2 r3 r4 r5 r6 r7 v5 v6 r8 r9 r10 r11 v7 h1 r12 v8 v9 h2 r13 v10 v11 r14 v12 v13 r15 v14 w15 r16 v16 v17 r17 r18 r19 r20 r21 r22 v18 r23 r24 r25 v19 h1 g0 f20 h2 g1 f21) U.heap ∧ va_K (dC, dI) vwCl [(g0, .int), (g1, .int)] U ∧ va_D (fun _ => True) (wd_78675856 h0 v0 r0 v1 v2 v3 v4 r1 r2 r3 r4 r5 r6 r7 v5 v6 r8 r9 r10 r11 v7 h1 r12 v8 v9 h2 r13 v10 v11 r14 v12 v13 r15 v14 w15 r16 v16 v17 r17 r18 r19 r20 r21 r22 v18 r23 r24 r25 v19 h1 g0 f20 h2 g1 f21))) (va_Qi (fun (r : Int32) (r9 : Int32) => r9 = r) (fun (r : Int32) (t : State) => (va_P (dC, dI) vwCl (wd_78675856 h0 v0 r0 v1 v2 v3 v4 r1 r2 r3 r4 r5 r6 r7 v5 v6 r8 r9 r10 r11 v7 h1 r12 v8 v9 h2 r13 v10 v11 r14 v12 v13 r15 v14 w15 r16 v16 v17 r17 r18 r19 r20 r21 r22 v18 r23 r24 r25 v19 h1 g0 f20 h2 g1 f21) t.heap ∧ va_K (dC, dI) vwCl [] t ∧ va_D (va_A (wd_78675856 h0 v0 r0 v1 v2 v3 v4 r1 r2 r3 r4 r5 r6 r7 v5 v6 r8 r9 r10 r11 v7 h1 r12 v8 v9 h2 r13 v10 v11 r14 v12 v13 r15 v14 w15 r16 v16 v17 r17 r18 r19 r20 r21 r22 v18 r23 r24 r25 v19 h1 g0 f20 h2 g1 f21) sz) (wd_78675856 h0 v0 r0 v1 v2 v3 v4 r1 r2 r3 r4 r5 r6 r7 v5 v6 r8 r9 r10 r11 v7 h1 r12 v8 v9 h2 r13 v10 v11 r14 v12 v13 r15 v14 w15 r16 v16 v17 r17 r18 r19 r20 r21 r22 v18 r23 r24 r25 v19 h1 g0 f20 h2 g1 f21))) (va_A (wd_78675856 h0 v0 r0 v1 v2 v3 v4 r1 r2 r3 r4 r5 r6 r7 v5 v6 r8 r9 r10 r11 v7 h1 r12 v8 v9 h2 r13 v10 v11 r14 v12 v13 r15 v14 w15 r16 v16 v17 r17 r18 r19 r20 r21 r22 v18 r23 r24 r25 v19 h1 g0 f20 h2 g1 f21) sz)) 0 0 (va_A (wd_78675856 h0 v0 r0 v1 v2 v3 v4 r1 r2 r3 r4 r5 r6 r7 v5 v6 r8 r9 r10 r11 v7 h1 r12 v8 v9 h2 r13 v10 v11 r14 v12 v13 r15 v14 w15 r16 v16 v17 r17 r18 r19 r20 r21 r22 v18 r23 r24 r25 v19 h1 g0 f20 h2 g1 f21) sz) := by
  refine Met.ofW (cc := cX12_load) (maxL := 2) (ret := (some .int)) (by decide) rfl ?_
  intro p e s m args below meth c s₁ B hml hv
  obtain ⟨i_v1a, i_v1b⟩ := i_v1
  obtain ⟨i_v5a, i_v5b⟩ := i_v5
  obtain ⟨i_v6a, i_v6b⟩ := i_v6
  obtain ⟨i_v7a, i_v7b⟩ := i_v7
  obtain ⟨i_v8a, i_v8b⟩ := i_v8
  obtain ⟨i_v9a, i_v9b⟩ := i_v9
  obtain ⟨i_v10a, i_v10b⟩ := i_v10
  obtain ⟨i_v14a, i_v14b⟩ := i_v14
  obtain ⟨i_v18a, i_v18b⟩ := i_v18
  obtain ⟨i_v19a, i_v19b⟩ := i_v19
  obtain ⟨rfl, hsz, hP, hK, hD0⟩ := hv
  have hx := B.exec
  have hb := B.bytes
  have hr := B.returns
  have hts := atoms_spec (ws := q_X12_load) B.pre
  have hown : s.vm.findClass RX12 = some m.cls := findClass_of_methodNamed B.named
  have hlocks := B.notSynchronized
  subst hsz
  have hD := hD0.self (sz := s.heap.size)
  generalize hAe : va_A (wd_78675856 h0 v0 r0 v1 v2 v3 v4 r1 r2 r3 r4 r5 r6 r7 v5 v6 r8 r9 r10 r11 v7 h1 r12 v8 v9 h2 r13 v10 v11 r14 v12 v13 r15 v14 w15 r16 v16 v17 r17 r18 r19 r20 r21 r22 v18 r23 r24 r25 v19 h1 g0 f20 h2 g1 f21) s.heap.size = A at hD ⊢
  have hA : ∀ q : Nat, s.heap.size ≤ q → A q := fun q h => by rw [← hAe]; exact Or.inr h
  have hS : va_S A s.heap s.heap [] := va_S.rf
  generalize hQ : (MQ below _ _ s 0 0 A) = Q
  have hl := lv_entry ([.ref h0, .int v22]) (n := 2) (Nat.le_of_ble_eq_true rfl)
  rw [lg_entry_eq]
  generalize (lg_sl ([.ref h0, .int v22]) ++ List.replicate (2 - (lg_sl ([.ref h0, .int v22])).length) Slot.unset).toArray = ls at hl ⊢
  have hl : lv_has ls 2 [(0, .ref h0), (1, .int v22)] := hl
  obtain ⟨H, hH⟩ : ∃ H : Heap, H = s.heap := ⟨_, rfl⟩
  obtain ⟨locs, hlocs⟩ : ∃ y : List Loc, y = [] := ⟨_, rfl⟩
  have hS : va_S A s.heap H locs := by rw [hH, hlocs]; exact va_S.rf
  have hP : va_P (dC, dI) vwCl (wd_78675856 h0 v0 r0 v1 v2 v3 v4 r1 r2 r3 r4 r5 r6 r7 v5 v6 r8 r9 r10 r11 v7 h1 r12 v8 v9 h2 r13 v10 v11 r14 v12 v13 r15 v14 w15 r16 v16 v17 r17 r18 r19 r20 r21 r22 v18 r23 r24 r25 v19 h1 g0 f20 h2 g1 f21) H := by rw [hH]; exact hP
  rw [← hH, ← hlocs]
  refine lv_aload_n hx hb dX12_load_0 rfl (lv_at hl 0 rfl) ?_
  refine va_get (D := (dC, dI)) (ci := 12) (v := .int v9) (C := RX12) (T := TX12) (N := 48) hx hb hts (fun _ h => List.mem_cons_of_mem _ (List.mem_append_right _ h)) hown hK hP 0 rfl rfl 23 (by decide) (hts (.fieldLink RX12 262 "LeftArgumentsModel" "isOffice" "Z") (List.mem_cons_of_mem _ (List.mem_append_left _ (List.mem_of_getElem? (i := 0) rfl)))) (fun _ h9 => h9) rfl dX12_load_1 ?_
  have hJ2 : ∀ (x1 : Int32) (H : Heap) (locs : List Loc) (ls : Array Slot), va_P (dC, dI) vwCl (wd_78675856 h0 v0 r0 v1 v2 v3 v4 r1 r2 r3 r4 r5 r6 r7 v5 v6 r8 r9 r10 r11 v7 h1 r12 v8 v9 h2 r13 v10 v11 r14 v12 v13 r15 v14 w15 r16 v16 v17 r17 r18 r19 r20 r21 r22 v18 r23 r24 r25 v19 h1 g0 f20 h2 g1 f21) H → va_D A (wd_78675856 h0 v0 r0 v1 v2 v3 v4 r1 r2 r3 r4 r5 r6 r7 v5 v6 r8 r9 r10 r11 v7 h1 r12 v8 v9 h2 r13 v10 v11 r14 v12 v13 r15 v14 w15 r16 v16 v17 r17 r18 r19 r20 r21 r22 v18 r23 r24 r25 v19 h1 g0 f20 h2 g1 f21) → va_S A s.heap H locs → lv_has ls 2 [(0, .ref h0), (1, .int v22)] → W p l e ({ frames := 3, cells := 0, slots := 0, locals := 66 }) s m ([.ref h0, .int v22] : List Value).toArray below meth c H locs 0 0 Q (F0 m 30 ls [.int x1]) := by
    intro x1 H locs ls hP hD hS hl
    subst hQ
    have hP9 := hP.sub (ws' := (wd_78675856 h0 v0 r0 v1 v2 v3 v4 r1 r2 r3 r4 r5 r6 r7 v5 v6 r8 r9 r10 r11 v7 h1 r12 v8 v9 h2 r13 v10 v11 r14 v12 v13 r15 v14 w15 r16 v16 v17 r17 r18 r19 r20 r21 r22 v18 r23 r24 r25 v19 h1 g0 f20 h2 g1 f21)) [0, 1, 2] rfl
    have hD9 := hD.sub (ws' := (wd_78675856 h0 v0 r0 v1 v2 v3 v4 r1 r2 r3 r4 r5 r6 r7 v5 v6 r8 r9 r10 r11 v7 h1 r12 v8 v9 h2 r13 v10 v11 r14 v12 v13 r15 v14 w15 r16 v16 v17 r17 r18 r19 r20 r21 r22 v18 r23 r24 r25 v19 h1 g0 f20 h2 g1 f21)) [0, 1, 2] (by decide) rfl
    have hK9 := hK.sub (tys' := []) [] rfl
    exact W.iret (v := x1) hx hb hr (fun t ht hW => ⟨⟨x1, x1, rfl, rfl, ⟨by rw [ht]; exact hP9, va_K.moved hW.alike hK9, hD9⟩⟩, hS.F ht⟩) hS.2.2 dX12_load_30
  refine lv_if_eq (tgt := 29) hx hb dX12_load_4 (by decide) (fun c3 => ?_) (fun c3 => ?_)
  · skip
    have fc3 : v9.toInt = 0 := congrArg Int32.toInt c3
    refine lv_iconst (v := (-1)) hx hb dX12_load_29 (by decide) ?_
    exact hJ2 ((-1)) H locs ls hP hD hS (lv_sub hl [0, 1] rfl)
  · skip
    have fc3 : ¬ (v9.toInt = 0) := fun h9 => c3 (Int32.toInt_inj.mp h9)
    refine lv_aload_n hx hb dX12_load_7 rfl (lv_at hl 0 rfl) ?_
    refine lv_iload_n hx hb dX12_load_8 rfl (lv_at hl 1 rfl) ?_
    have hPc := hP.sub (ws' := (wd_50966390 h0 v0 r0 v1 v2 v3 v4 r1 r2 r3 r4 r5 r6 r7 v5 v6 r8 r9 r10 r11 v7 h1 r12 v8 v9 h2 r13 v10 v11 r14 v12 v13 r15 v14 w15 r16 v16 v17 r17 r18 r19 r20 r21 r22 v18 r23 r24 r25 v19 h1 g0 f20)) [0, 1] rfl
    have hDc := hD.sub (ws' := (wd_50966390 h0 v0 r0 v1 v2 v3 v4 r1 r2 r3 r4 r5 r6 r7 v5 v6 r8 r9 r10 r11 v7 h1 r12 v8 v9 h2 r13 v10 v11 r14 v12 v13 r15 v14 w15 r16 v16 v17 r17 r18 r19 r20 r21 r22 v18 r23 r24 r25 v19 h1 g0 f20)) [0, 1] (by decide) rfl
    have hKc := hK.sub (tys' := [(g0, .int)]) [0] rfl
    have hFc := va_free (wc := (wd_50966390 h0 v0 r0 v1 v2 v3 v4 r1 r2 r3 r4 r5 r6 r7 v5 v6 r8 r9 r10 r11 v7 h1 r12 v8 v9 h2 r13 v10 v11 r14 v12 v13 r15 v14 w15 r16 v16 v17 r17 r18 r19 r20 r21 r22 v18 r23 r24 r25 v19 h1 g0 f20)) hD hS hA [0, 1] rfl
    refine va_calli (va_runV (As := [.int v22]) (rest := []) ⟨hx, hb, hml, hown, hts⟩ (k_X12_isShelf l dC dI h0 h1 v0 r0 v1 v2 v3 v4 r1 r2 r3 r4 r5 r6 r7 v5 v6 r8 r9 r10 r11 v7 r12 v8 v9 h2 r13 v10 v11 r14 v12 v13 r15 v14 w15 r16 v16 v17 r17 r18 r19 r20 r21 r22 v18 r23 r24 r25 v19 g0 f20 v22 ⟨i_v1a, i_v1b⟩ ⟨i_v5a, i_v5b⟩ ⟨i_v6a, i_v6b⟩ ⟨i_v7a, i_v7b⟩ ⟨i_v8a, i_v8b⟩ ⟨i_v9a, i_v9b⟩ ⟨i_v10a, i_v10b⟩ ⟨i_v14a, i_v14b⟩ ⟨i_v18a, i_v18b⟩ ⟨i_v19a, i_v19b⟩ ia_f20 H.size) (cwV 1 hts g_X12_load_0 rfl rfl rfl (by decide +kernel) ⟨Nat.le_of_ble_eq_true rfl, Nat.le_of_ble_eq_true rfl⟩) (pv_PV12 hPc hKc hDc (q0 := 0) rfl) rfl rfl hl.1 rfl (lv_room (Nat.le_of_ble_eq_true rfl)) dX12_load_9 ⟨Nat.le_of_ble_eq_true rfl, Nat.le_of_ble_eq_true rfl⟩) hS (fun q _ h => hFc q h) hFc (fun ra4 u t H1 locs ht hvm hwra4 hB hz1 hk1 hS => ?_)
    try rw [hwra4] at hB
    obtain ⟨pt0_ra4, pt1_ra4, hP1, hK1, hD1⟩ := hB
    rw [ht] at hP1
    obtain ⟨hP2, hD2⟩ := va_join (wr := (wd_92f861b2 h2 g1 f21)) (w1 := (wd_50966390 h0 v0 r0 v1 v2 v3 v4 r1 r2 r3 r4 r5 r6 r7 v5 v6 r8 r9 r10 r11 v7 h1 r12 v8 v9 h2 r13 v10 v11 r14 v12 v13 r15 v14 w15 r16 v16 v17 r17 r18 r19 r20 r21 r22 v18 r23 r24 r25 v19 h1 g0 f20)) hP hD [0, 1] [2] rfl rfl (by decide) (by decide) hk1 hFc hP1 hD1
    clear hP hD hPc hDc hKc hFc hP1 hK1 hD1 hk1 hz1
    generalize H1 = H at hP2 hS ⊢
    have hP := hP2.sub (ws' := (wd_78675856 h0 v0 r0 v1 v2 v3 v4 r1 r2 r3 r4 r5 r6 r7 v5 v6 r8 r9 r10 r11 v7 h1 r12 v8 v9 h2 r13 v10 v11 r14 v12 v13 r15 v14 w15 r16 v16 v17 r17 r18 r19 r20 r21 r22 v18 r23 r24 r25 v19 h1 g0 f20 h2 g1 f21)) [1, 2, 0] rfl
    have hD := hD2.sub (ws' := (wd_78675856 h0 v0 r0 v1 v2 v3 v4 r1 r2 r3 r4 r5 r6 r7 v5 v6 r8 r9 r10 r11 v7 h1 r12 v8 v9 h2 r13 v10 v11 r14 v12 v13 r15 v14 w15 r16 v16 v17 r17 r18 r19 r20 r21 r22 v18 r23 r24 r25 v19 h1 g0 f20 h2 g1 f21)) [1, 2, 0] (by decide) rfl
    clear hP2 hD2
    refine lv_if_ne (tgt := 21) hx hb dX12_load_12 (by decide) (fun c5 => ?_) (fun c5 => ?_)
    · skip
      have fc5 : ¬ (ra4.toInt = 0) := fun h9 => c5 (Int32.toInt_inj.mp h9)
      refine lv_aload_n hx hb dX12_load_21 rfl (lv_at hl 0 rfl) ?_
      refine lv_iload_n hx hb dX12_load_22 rfl (lv_at hl 1 rfl) ?_
      have hPc := hP.sub (ws' := (wd_5013416a h0 v0 r0 v1 v2 v3 v4 r1 r2 r3 r4 r5 r6 r7 v5 v6 r8 r9 r10 r11 v7 h1 r12 v8 v9 h2 r13 v10 v11 r14 v12 v13 r15 v14 w15 r16 v16 v17 r17 r18 r19 r20 r21 r22 v18 r23 r24 r25 v19 h2 g1 f21)) [0, 2] rfl
      have hDc := hD.sub (ws' := (wd_5013416a h0 v0 r0 v1 v2 v3 v4 r1 r2 r3 r4 r5 r6 r7 v5 v6 r8 r9 r10 r11 v7 h1 r12 v8 v9 h2 r13 v10 v11 r14 v12 v13 r15 v14 w15 r16 v16 v17 r17 r18 r19 r20 r21 r22 v18 r23 r24 r25 v19 h2 g1 f21)) [0, 2] (by decide) rfl
      have hKc := hK.sub (tys' := [(g1, .int)]) [1] rfl
      have hFc := va_free (wc := (wd_5013416a h0 v0 r0 v1 v2 v3 v4 r1 r2 r3 r4 r5 r6 r7 v5 v6 r8 r9 r10 r11 v7 h1 r12 v8 v9 h2 r13 v10 v11 r14 v12 v13 r15 v14 w15 r16 v16 v17 r17 r18 r19 r20 r21 r22 v18 r23 r24 r25 v19 h2 g1 f21)) hD hS hA [0, 2] rfl
      refine va_calli (va_runV (As := [.int v22]) (rest := []) ⟨hx, hb, hml, hown, hts⟩ (k_X12_loadOf l dC dI h0 h2 v0 r0 v1 v2 v3 v4 r1 r2 r3 r4 r5 r6 r7 v5 v6 r8 r9 r10 r11 v7 h1 r12 v8 v9 r13 v10 v11 r14 v12 v13 r15 v14 w15 r16 v16 v17 r17 r18 r19 r20 r21 r22 v18 r23 r24 r25 v19 g1 f21 v22 ⟨i_v1a, i_v1b⟩ ⟨i_v5a, i_v5b⟩ ⟨i_v6a, i_v6b⟩ ⟨i_v7a, i_v7b⟩ ⟨i_v8a, i_v8b⟩ ⟨i_v9a, i_v9b⟩ ⟨i_v10a, i_v10b⟩ ⟨i_v14a, i_v14b⟩ ⟨i_v18a, i_v18b⟩ ⟨i_v19a, i_v19b⟩ ia_f21 H.size) (cwV 1 hts g_X12_load_1 rfl rfl rfl (by decide +kernel) ⟨Nat.le_of_ble_eq_true rfl, Nat.le_of_ble_eq_true rfl⟩) (pv_PV12 hPc hKc hDc (q0 := 0) rfl) rfl rfl hl.1 rfl (lv_room (Nat.le_of_ble_eq_true rfl)) dX12_load_23 ⟨Nat.le_of_ble_eq_true rfl, Nat.le_of_ble_eq_true rfl⟩) hS (fun q _ h => hFc q h) hFc (fun ra6 u t H1 locs ht hvm hwra6 hB hz1 hk1 hS => ?_)
      try rw [hwra6] at hB
      obtain ⟨pt0_ra6, hP1, hK1, hD1⟩ := hB
      rw [ht] at hP1
      obtain ⟨hP2, hD2⟩ := va_join (wr := (wd_6f8f3203 h1 g0 f20)) (w1 := (wd_5013416a h0 v0 r0 v1 v2 v3 v4 r1 r2 r3 r4 r5 r6 r7 v5 v6 r8 r9 r10 r11 v7 h1 r12 v8 v9 h2 r13 v10 v11 r14 v12 v13 r15 v14 w15 r16 v16 v17 r17 r18 r19 r20 r21 r22 v18 r23 r24 r25 v19 h2 g1 f21)) hP hD [0, 2] [1] rfl rfl (by decide) (by decide) hk1 hFc hP1 hD1
      clear hP hD hPc hDc hKc hFc hP1 hK1 hD1 hk1 hz1
      generalize H1 = H at hP2 hS ⊢
      have hP := hP2.sub (ws' := (wd_78675856 h0 v0 r0 v1 v2 v3 v4 r1 r2 r3 r4 r5 r6 r7 v5 v6 r8 r9 r10 r11 v7 h1 r12 v8 v9 h2 r13 v10 v11 r14 v12 v13 r15 v14 w15 r16 v16 v17 r17 r18 r19 r20 r21 r22 v18 r23 r24 r25 v19 h1 g0 f20 h2 g1 f21)) [1, 0, 2] rfl
      have hD := hD2.sub (ws' := (wd_78675856 h0 v0 r0 v1 v2 v3 v4 r1 r2 r3 r4 r5 r6 r7 v5 v6 r8 r9 r10 r11 v7 h1 r12 v8 v9 h2 r13 v10 v11 r14 v12 v13 r15 v14 w15 r16 v16 v17 r17 r18 r19 r20 r21 r22 v18 r23 r24 r25 v19 h1 g0 f20 h2 g1 f21)) [1, 0, 2] (by decide) rfl
      clear hP2 hD2
      refine lv_goto (tgt := 30) hx hb dX12_load_26 (by decide) ?_
      exact hJ2 ra6 H locs ls hP hD hS (lv_sub hl [0, 1] rfl)
    · skip
      have fc5 : ra4.toInt = 0 := congrArg Int32.toInt c5
      refine lv_iload_n hx hb dX12_load_15 rfl (lv_at hl 1 rfl) ?_
      refine lv_bipush (v := 9) hx hb dX12_load_16 (by decide) ?_
      refine lv_icmp_ne (tgt := 29) hx hb dX12_load_18 (by decide) (fun c7 => ?_) (fun c7 => ?_)
      · skip
        have fc7 : ¬ (v22.toInt = 9) := fun h9 => c7 (Int32.toInt_inj.mp h9)
        refine lv_iconst (v := (-1)) hx hb dX12_load_29 (by decide) ?_
        exact hJ2 ((-1)) H locs ls hP hD hS (lv_sub hl [0, 1] rfl)
      · skip
        have fc7 : v22.toInt = 9 := congrArg Int32.toInt c7
        refine lv_aload_n hx hb dX12_load_21 rfl (lv_at hl 0 rfl) ?_
        refine lv_iload_n hx hb dX12_load_22 rfl (lv_at hl 1 rfl) ?_
        have hPc := hP.sub (ws' := (wd_5013416a h0 v0 r0 v1 v2 v3 v4 r1 r2 r3 r4 r5 r6 r7 v5 v6 r8 r9 r10 r11 v7 h1 r12 v8 v9 h2 r13 v10 v11 r14 v12 v13 r15 v14 w15 r16 v16 v17 r17 r18 r19 r20 r21 r22 v18 r23 r24 r25 v19 h2 g1 f21)) [0, 2] rfl
        have hDc := hD.sub (ws' := (wd_5013416a h0 v0 r0 v1 v2 v3 v4 r1 r2 r3 r4 r5 r6 r7 v5 v6 r8 r9 r10 r11 v7 h1 r12 v8 v9 h2 r13 v10 v11 r14 v12 v13 r15 v14 w15 r16 v16 v17 r17 r18 r19 r20 r21 r22 v18 r23 r24 r25 v19 h2 g1 f21)) [0, 2] (by decide) rfl
        have hKc := hK.sub (tys' := [(g1, .int)]) [1] rfl
        have hFc := va_free (wc := (wd_5013416a h0 v0 r0 v1 v2 v3 v4 r1 r2 r3 r4 r5 r6 r7 v5 v6 r8 r9 r10 r11 v7 h1 r12 v8 v9 h2 r13 v10 v11 r14 v12 v13 r15 v14 w15 r16 v16 v17 r17 r18 r19 r20 r21 r22 v18 r23 r24 r25 v19 h2 g1 f21)) hD hS hA [0, 2] rfl
        refine va_calli (va_runV (As := [.int v22]) (rest := []) ⟨hx, hb, hml, hown, hts⟩ (k_X12_loadOf l dC dI h0 h2 v0 r0 v1 v2 v3 v4 r1 r2 r3 r4 r5 r6 r7 v5 v6 r8 r9 r10 r11 v7 h1 r12 v8 v9 r13 v10 v11 r14 v12 v13 r15 v14 w15 r16 v16 v17 r17 r18 r19 r20 r21 r22 v18 r23 r24 r25 v19 g1 f21 v22 ⟨i_v1a, i_v1b⟩ ⟨i_v5a, i_v5b⟩ ⟨i_v6a, i_v6b⟩ ⟨i_v7a, i_v7b⟩ ⟨i_v8a, i_v8b⟩ ⟨i_v9a, i_v9b⟩ ⟨i_v10a, i_v10b⟩ ⟨i_v14a, i_v14b⟩ ⟨i_v18a, i_v18b⟩ ⟨i_v19a, i_v19b⟩ ia_f21 H.size) (cwV 1 hts g_X12_load_1 rfl rfl rfl (by decide +kernel) ⟨Nat.le_of_ble_eq_true rfl, Nat.le_of_ble_eq_true rfl⟩) (pv_PV12 hPc hKc hDc (q0 := 0) rfl) rfl rfl hl.1 rfl (lv_room (Nat.le_of_ble_eq_true rfl)) dX12_load_23 ⟨Nat.le_of_ble_eq_true rfl, Nat.le_of_ble_eq_true rfl⟩) hS (fun q _ h => hFc q h) hFc (fun ra8 u t H1 locs ht hvm hwra8 hB hz1 hk1 hS => ?_)
        try rw [hwra8] at hB
        obtain ⟨pt0_ra8, hP1, hK1, hD1⟩ := hB
        rw [ht] at hP1
        obtain ⟨hP2, hD2⟩ := va_join (wr := (wd_6f8f3203 h1 g0 f20)) (w1 := (wd_5013416a h0 v0 r0 v1 v2 v3 v4 r1 r2 r3 r4 r5 r6 r7 v5 v6 r8 r9 r10 r11 v7 h1 r12 v8 v9 h2 r13 v10 v11 r14 v12 v13 r15 v14 w15 r16 v16 v17 r17 r18 r19 r20 r21 r22 v18 r23 r24 r25 v19 h2 g1 f21)) hP hD [0, 2] [1] rfl rfl (by decide) (by decide) hk1 hFc hP1 hD1
        clear hP hD hPc hDc hKc hFc hP1 hK1 hD1 hk1 hz1
        generalize H1 = H at hP2 hS ⊢
        have hP := hP2.sub (ws' := (wd_78675856 h0 v0 r0 v1 v2 v3 v4 r1 r2 r3 r4 r5 r6 r7 v5 v6 r8 r9 r10 r11 v7 h1 r12 v8 v9 h2 r13 v10 v11 r14 v12 v13 r15 v14 w15 r16 v16 v17 r17 r18 r19 r20 r21 r22 v18 r23 r24 r25 v19 h1 g0 f20 h2 g1 f21)) [1, 0, 2] rfl
        have hD := hD2.sub (ws' := (wd_78675856 h0 v0 r0 v1 v2 v3 v4 r1 r2 r3 r4 r5 r6 r7 v5 v6 r8 r9 r10 r11 v7 h1 r12 v8 v9 h2 r13 v10 v11 r14 v12 v13 r15 v14 w15 r16 v16 v17 r17 r18 r19 r20 r21 r22 v18 r23 r24 r25 v19 h1 g0 f20 h2 g1 f21)) [1, 0, 2] (by decide) rfl
        clear hP2 hD2
        refine lv_goto (tgt := 30) hx hb dX12_load_26 (by decide) ?_
        exact hJ2 ra8 H locs ls hP hD hS (lv_sub hl [0, 1] rfl)
def q_X12_in_7 : List Cond := .code yX12_in cX12_in 3 (some .boolean) :: (([] : List Cond))
set_option maxHeartbeats 4000000 in
set_option maxRecDepth 100000 in
theorem k_X12_in_7 (l : Launch) (dC : Nat → ClassId) (dI : Nat → Nat → Nat) (v0 : Int32) (sz : Nat) : Met l yX12_in q_X12_in_7 ({ frames := 0, cells := 0, slots := 0, locals := 0 }) (va_Pc [.int v0, .int 0, .int 3] (fun U => U.heap.size = sz ∧ va_P (dC, dI) vwCl [] U.heap ∧ va_K (dC, dI) vwCl [] U ∧ va_D (fun _ => True) [])) (va_Qi (fun (r : Int32) (r9 : Int32) => r9 = r) (fun (r : Int32) (t : State) => ((0 ≤ r.toInt) ∧ (r.toInt ≤ 1) ∧ ((r.toInt = 1 → 0 ≤ v0.toInt)) ∧ ((r.toInt = 1 → v0.toInt ≤ 3)) ∧ (r.toInt = 0 → ¬ (0 ≤ v0.toInt ∧ v0.toInt ≤ 3)) ∧ va_P (dC, dI) vwCl [] t.heap ∧ va_K (dC, dI) vwCl [] t ∧ va_D (va_A [] sz) [])) (va_A [] sz)) 0 0 (va_A [] sz) := by
  refine Met.ofW (cc := cX12_in) (maxL := 3) (ret := (some .boolean)) (by decide) rfl ?_
  intro p e s m args below meth c s₁ B hml hv
  obtain ⟨rfl, hsz, hP, hK, hD0⟩ := hv
  have hx := B.exec
  have hb := B.bytes
  have hr := B.returns
  have hts := atoms_spec (ws := q_X12_in_7) B.pre
  have hown : s.vm.findClass RX12 = some m.cls := findClass_of_methodNamed B.named
  have hlocks := B.notSynchronized
  subst hsz
  have hD := hD0.self (sz := s.heap.size)
  generalize hAe : va_A [] s.heap.size = A at hD ⊢
  have hA : ∀ q : Nat, s.heap.size ≤ q → A q := fun q h => by rw [← hAe]; exact Or.inr h
  have hS : va_S A s.heap s.heap [] := va_S.rf
  generalize hQ : (MQ below _ _ s 0 0 A) = Q
  have hl := lv_entry ([.int v0, .int 0, .int 3]) (n := 3) (Nat.le_of_ble_eq_true rfl)
  rw [lg_entry_eq]
  generalize (lg_sl ([.int v0, .int 0, .int 3]) ++ List.replicate (3 - (lg_sl ([.int v0, .int 0, .int 3])).length) Slot.unset).toArray = ls at hl ⊢
  have hl : lv_has ls 3 [(0, .int v0), (1, .int 0), (2, .int 3)] := hl
  obtain ⟨H, hH⟩ : ∃ H : Heap, H = s.heap := ⟨_, rfl⟩
  obtain ⟨locs, hlocs⟩ : ∃ y : List Loc, y = [] := ⟨_, rfl⟩
  have hS : va_S A s.heap H locs := by rw [hH, hlocs]; exact va_S.rf
  have hP : va_P (dC, dI) vwCl [] H := by rw [hH]; exact hP
  rw [← hH, ← hlocs]
  refine lv_iload_n hx hb dX12_in_0 rfl (lv_at hl 0 rfl) ?_
  refine lv_iload_n hx hb dX12_in_1 rfl (lv_at hl 1 rfl) ?_
  refine lv_icmp_lt (tgt := 14) hx hb dX12_in_2 (by decide) (fun c1 => ?_) (fun c1 => ?_)
  · skip
    have fc1 : v0.toInt < 0 := Int32.lt_iff_toInt_lt.mp c1
    refine lv_iconst (v := 0) hx hb dX12_in_14 (by decide) ?_
    subst hQ
    have hP9 := hP.sub (ws' := []) [] rfl
    have hD9 := hD.sub (ws' := []) [] (by decide) rfl
    have hK9 := hK.sub (tys' := []) [] rfl
    exact W.zret (v := 0) hx hb hr rfl (fun t ht hW => ⟨⟨0, 0, rfl, rfl, ⟨by first | omega | decide, by first | omega | decide, fun h9 => absurd h9 (by decide), fun h9 => absurd h9 (by decide), fun _ => by omega, by rw [ht]; exact hP9, va_K.moved hW.alike hK9, hD9⟩⟩, hS.F ht⟩) hS.2.2 dX12_in_15
  · skip
    have fc1 : ¬ (v0.toInt < 0) := fun h9 => c1 (Int32.lt_iff_toInt_lt.mpr h9)
    refine lv_iload_n hx hb dX12_in_5 rfl (lv_at hl 0 rfl) ?_
    refine lv_iload_n hx hb dX12_in_6 rfl (lv_at hl 2 rfl) ?_
    refine lv_icmp_gt (tgt := 14) hx hb dX12_in_7 (by decide) (fun c2 => ?_) (fun c2 => ?_)
    · skip
      have fc2 : 3 < v0.toInt := Int32.lt_iff_toInt_lt.mp c2
      refine lv_iconst (v := 0) hx hb dX12_in_14 (by decide) ?_
      subst hQ
      have hP9 := hP.sub (ws' := []) [] rfl
      have hD9 := hD.sub (ws' := []) [] (by decide) rfl
      have hK9 := hK.sub (tys' := []) [] rfl
      exact W.zret (v := 0) hx hb hr rfl (fun t ht hW => ⟨⟨0, 0, rfl, rfl, ⟨by first | omega | decide, by first | omega | decide, fun h9 => absurd h9 (by decide), fun h9 => absurd h9 (by decide), fun _ => by omega, by rw [ht]; exact hP9, va_K.moved hW.alike hK9, hD9⟩⟩, hS.F ht⟩) hS.2.2 dX12_in_15
    · skip
      have fc2 : ¬ (3 < v0.toInt) := fun h9 => c2 (Int32.lt_iff_toInt_lt.mpr h9)
      refine lv_iconst (v := 1) hx hb dX12_in_10 (by decide) ?_
      refine lv_goto (tgt := 15) hx hb dX12_in_11 (by decide) ?_
      subst hQ
      have hP9 := hP.sub (ws' := []) [] rfl
      have hD9 := hD.sub (ws' := []) [] (by decide) rfl
      have hK9 := hK.sub (tys' := []) [] rfl
      exact W.zret (v := 1) hx hb hr rfl (fun t ht hW => ⟨⟨1, 1, rfl, rfl, ⟨by first | omega | decide, by first | omega | decide, fun _ => by omega, fun _ => by omega, fun h9 => absurd h9 (by decide), by rw [ht]; exact hP9, va_K.moved hW.alike hK9, hD9⟩⟩, hS.F ht⟩) hS.2.2 dX12_in_15
def q_X12_rule : List Cond := .code yX12_rule cX12_rule 2 (some .int) :: (([.fieldLink RX12 262 "LeftArgumentsModel" "isOffice" "Z", .code yX12_in cX12_in 3 (some .boolean), .initialized RX12, .static yX12_in, .methodLink RX12 217 yX12_in, .fieldLink RX12 46 "LeftArgumentsModel" "rule" "[I", .fieldLink RX12 52 "LeftArgumentsModel" "now" "[I"] : List Cond) ++ wsX120)
set_option maxRecDepth 20000 in
theorem g_X12_rule_0 : GoodIn q_X12_rule (va_wsS RX12 217 yX12_in q_X12_in_7) := goodIn_app (goodIn_r _ [5, 4, 3] rfl (by decide +kernel)) (goodIn_r (.code yX12_in cX12_in 3 (some .boolean) :: []) [2] rfl (by decide +kernel))
set_option maxHeartbeats 4000000 in
set_option maxRecDepth 100000 in
theorem k_X12_rule (l : Launch) (dC : Nat → ClassId) (dI : Nat → Nat → Nat) (h0 : Nat) (h1 : Nat) (h2 : Nat) (v0 : Int32) (r0 : Nat) (v1 : Int32) (v2 : Int32) (v3 : Int32) (v4 : Int32) (r1 : Nat) (r2 : Nat) (r3 : Nat) (r4 : Nat) (r5 : Nat) (r6 : Nat) (r7 : Nat) (v5 : Int32) (v6 : Int32) (r8 : Nat) (r9 : Nat) (r10 : Nat) (r11 : Nat) (v7 : Int32) (r12 : Nat) (v8 : Int32) (v9 : Int32) (r13 : Nat) (v10 : Int32) (v11 : Int32) (r14 : Nat) (v12 : Int32) (v13 : Int32) (r15 : Nat) (v14 : Int32) (w15 : Int64) (r16 : Nat) (v16 : Int32) (v17 : Int32) (r17 : Nat) (r18 : Nat) (r19 : Nat) (r20 : Nat) (r21 : Nat) (r22 : Nat) (v18 : Int32) (r23 : Nat) (r24 : Nat) (r25 : Nat) (v19 : Int32) (g0 : ClassId) (f20 : Nat → Int32) (g1 : ClassId) (f21 : Nat → Int32) (v22 : Int32) (i_v1 : 0 ≤ v1.toInt ∧ v1.toInt ≤ 240) (i_v5 : 0 ≤ v5.toInt ∧ v5.toInt ≤ 4) (i_v6 : 0 ≤ v6.toInt ∧ v6.toInt ≤ 4) (i_v7 : 0 ≤ v7.toInt ∧ v7.toInt ≤ 8) (i_v8 : 0 ≤ v8.toInt ∧ v8.toInt ≤ 8) (i_v9 : 0 ≤ v9.toInt ∧ v9.toInt ≤ 1) (i_v10 : -1 ≤ v10.toInt ∧ v10.toInt ≤ 3) (i_v14 : 0 ≤ v14.toInt ∧ v14.toInt ≤ 40) (i_v18 : 0 ≤ v18.toInt ∧ v18.toInt ≤ 10) (i_v19 : 0 ≤ v19.toInt ∧ v19.toInt ≤ 1) (ia_f20 : (pm_RU f20)) (ia_f21 : (pm_NW f21)) (sz : Nat) : Met l yX12_rule q_X12_rule ({ frames := 1, cells := 0, slots := 0, locals := 22 }) (va_Pc [.ref h0, .int v22] (fun U => U.heap.size = sz ∧ va_P (dC, dI) vwCl (wd_78675856 h0 v0 r0 v1 v2 v3 v4 r1 r2 r3 r4 r5 r6 r7 v5 v6 r8 r9 r10 r11 v7 h1 r12 v8 v9 h2 r13 v10 v11 r14 v12 v13 r15 v14 w15 r16 v16 v17 r17 r18 r19 r20 r21 r22 v18 r23 r24 r25 v19 h1 g0 f20 h2 g1 f21) U.heap ∧ va_K (dC, dI) vwCl [(g0, .int), (g1, .int)] U ∧ va_D (fun _ => True) (wd_78675856 h0 v0 r0 v1 v2 v3 v4 r1 r2 r3 r4 r5 r6 r7 v5 v6 r8 r9 r10 r11 v7 h1 r12 v8 v9 h2 r13 v10 v11 r14 v12 v13 r15 v14 w15 r16 v16 v17 r17 r18 r19 r20 r21 r22 v18 r23 r24 r25 v19 h1 g0 f20 h2 g1 f21))) (va_Qi (fun (r : Int32) (r9 : Int32) => r9 = r) (fun (r : Int32) (t : State) => (va_P (dC, dI) vwCl (wd_78675856 h0 v0 r0 v1 v2 v3 v4 r1 r2 r3 r4 r5 r6 r7 v5 v6 r8 r9 r10 r11 v7 h1 r12 v8 v9 h2 r13 v10 v11 r14 v12 v13 r15 v14 w15 r16 v16 v17 r17 r18 r19 r20 r21 r22 v18 r23 r24 r25 v19 h1 g0 f20 h2 g1 f21) t.heap ∧ va_K (dC, dI) vwCl [] t ∧ va_D (va_A (wd_78675856 h0 v0 r0 v1 v2 v3 v4 r1 r2 r3 r4 r5 r6 r7 v5 v6 r8 r9 r10 r11 v7 h1 r12 v8 v9 h2 r13 v10 v11 r14 v12 v13 r15 v14 w15 r16 v16 v17 r17 r18 r19 r20 r21 r22 v18 r23 r24 r25 v19 h1 g0 f20 h2 g1 f21) sz) (wd_78675856 h0 v0 r0 v1 v2 v3 v4 r1 r2 r3 r4 r5 r6 r7 v5 v6 r8 r9 r10 r11 v7 h1 r12 v8 v9 h2 r13 v10 v11 r14 v12 v13 r15 v14 w15 r16 v16 v17 r17 r18 r19 r20 r21 r22 v18 r23 r24 r25 v19 h1 g0 f20 h2 g1 f21))) (va_A (wd_78675856 h0 v0 r0 v1 v2 v3 v4 r1 r2 r3 r4 r5 r6 r7 v5 v6 r8 r9 r10 r11 v7 h1 r12 v8 v9 h2 r13 v10 v11 r14 v12 v13 r15 v14 w15 r16 v16 v17 r17 r18 r19 r20 r21 r22 v18 r23 r24 r25 v19 h1 g0 f20 h2 g1 f21) sz)) 0 0 (va_A (wd_78675856 h0 v0 r0 v1 v2 v3 v4 r1 r2 r3 r4 r5 r6 r7 v5 v6 r8 r9 r10 r11 v7 h1 r12 v8 v9 h2 r13 v10 v11 r14 v12 v13 r15 v14 w15 r16 v16 v17 r17 r18 r19 r20 r21 r22 v18 r23 r24 r25 v19 h1 g0 f20 h2 g1 f21) sz) := by
  refine Met.ofW (cc := cX12_rule) (maxL := 2) (ret := (some .int)) (by decide) rfl ?_
  intro p e s m args below meth c s₁ B hml hv
  obtain ⟨i_v1a, i_v1b⟩ := i_v1
  obtain ⟨i_v5a, i_v5b⟩ := i_v5
  obtain ⟨i_v6a, i_v6b⟩ := i_v6
  obtain ⟨i_v7a, i_v7b⟩ := i_v7
  obtain ⟨i_v8a, i_v8b⟩ := i_v8
  obtain ⟨i_v9a, i_v9b⟩ := i_v9
  obtain ⟨i_v10a, i_v10b⟩ := i_v10
  obtain ⟨i_v14a, i_v14b⟩ := i_v14
  obtain ⟨i_v18a, i_v18b⟩ := i_v18
  obtain ⟨i_v19a, i_v19b⟩ := i_v19
  obtain ⟨rfl, hsz, hP, hK, hD0⟩ := hv
  have hx := B.exec
  have hb := B.bytes
  have hr := B.returns
  have hts := atoms_spec (ws := q_X12_rule) B.pre
  have hown : s.vm.findClass RX12 = some m.cls := findClass_of_methodNamed B.named
  have hlocks := B.notSynchronized
  subst hsz
  have hD := hD0.self (sz := s.heap.size)
  generalize hAe : va_A (wd_78675856 h0 v0 r0 v1 v2 v3 v4 r1 r2 r3 r4 r5 r6 r7 v5 v6 r8 r9 r10 r11 v7 h1 r12 v8 v9 h2 r13 v10 v11 r14 v12 v13 r15 v14 w15 r16 v16 v17 r17 r18 r19 r20 r21 r22 v18 r23 r24 r25 v19 h1 g0 f20 h2 g1 f21) s.heap.size = A at hD ⊢
  have hA : ∀ q : Nat, s.heap.size ≤ q → A q := fun q h => by rw [← hAe]; exact Or.inr h
  have hS : va_S A s.heap s.heap [] := va_S.rf
  generalize hQ : (MQ below _ _ s 0 0 A) = Q
  have hl := lv_entry ([.ref h0, .int v22]) (n := 2) (Nat.le_of_ble_eq_true rfl)
  rw [lg_entry_eq]
  generalize (lg_sl ([.ref h0, .int v22]) ++ List.replicate (2 - (lg_sl ([.ref h0, .int v22])).length) Slot.unset).toArray = ls at hl ⊢
  have hl : lv_has ls 2 [(0, .ref h0), (1, .int v22)] := hl
  obtain ⟨H, hH⟩ : ∃ H : Heap, H = s.heap := ⟨_, rfl⟩
  obtain ⟨locs, hlocs⟩ : ∃ y : List Loc, y = [] := ⟨_, rfl⟩
  have hS : va_S A s.heap H locs := by rw [hH, hlocs]; exact va_S.rf
  have hP : va_P (dC, dI) vwCl (wd_78675856 h0 v0 r0 v1 v2 v3 v4 r1 r2 r3 r4 r5 r6 r7 v5 v6 r8 r9 r10 r11 v7 h1 r12 v8 v9 h2 r13 v10 v11 r14 v12 v13 r15 v14 w15 r16 v16 v17 r17 r18 r19 r20 r21 r22 v18 r23 r24 r25 v19 h1 g0 f20 h2 g1 f21) H := by rw [hH]; exact hP
  rw [← hH, ← hlocs]
  refine lv_aload_n hx hb dX12_rule_0 rfl (lv_at hl 0 rfl) ?_
  refine va_get (D := (dC, dI)) (ci := 12) (v := .int v9) (C := RX12) (T := TX12) (N := 48) hx hb hts (fun _ h => List.mem_cons_of_mem _ (List.mem_append_right _ h)) hown hK hP 0 rfl rfl 23 (by decide) (hts (.fieldLink RX12 262 "LeftArgumentsModel" "isOffice" "Z") (List.mem_cons_of_mem _ (List.mem_append_left _ (List.mem_of_getElem? (i := 0) rfl)))) (fun _ h9 => h9) rfl dX12_rule_1 ?_
  refine lv_if_eq (tgt := 16) hx hb dX12_rule_4 (by decide) (fun c1 => ?_) (fun c1 => ?_)
  · skip
    have fc1 : v9.toInt = 0 := congrArg Int32.toInt c1
    refine lv_iconst (v := (-1)) hx hb dX12_rule_16 (by decide) ?_
    refine lv_goto (tgt := 41) hx hb dX12_rule_17 (by decide) ?_
    subst hQ
    have hP9 := hP.sub (ws' := (wd_78675856 h0 v0 r0 v1 v2 v3 v4 r1 r2 r3 r4 r5 r6 r7 v5 v6 r8 r9 r10 r11 v7 h1 r12 v8 v9 h2 r13 v10 v11 r14 v12 v13 r15 v14 w15 r16 v16 v17 r17 r18 r19 r20 r21 r22 v18 r23 r24 r25 v19 h1 g0 f20 h2 g1 f21)) [0, 1, 2] rfl
    have hD9 := hD.sub (ws' := (wd_78675856 h0 v0 r0 v1 v2 v3 v4 r1 r2 r3 r4 r5 r6 r7 v5 v6 r8 r9 r10 r11 v7 h1 r12 v8 v9 h2 r13 v10 v11 r14 v12 v13 r15 v14 w15 r16 v16 v17 r17 r18 r19 r20 r21 r22 v18 r23 r24 r25 v19 h1 g0 f20 h2 g1 f21)) [0, 1, 2] (by decide) rfl
    have hK9 := hK.sub (tys' := []) [] rfl
    exact W.iret (v := (-1)) hx hb hr (fun t ht hW => ⟨⟨(-1), (-1), rfl, rfl, ⟨by rw [ht]; exact hP9, va_K.moved hW.alike hK9, hD9⟩⟩, hS.F ht⟩) hS.2.2 dX12_rule_41
  · skip
    have fc1 : ¬ (v9.toInt = 0) := fun h9 => c1 (Int32.toInt_inj.mp h9)
    refine lv_iload_n hx hb dX12_rule_7 rfl (lv_at hl 1 rfl) ?_
    refine lv_iconst (v := 0) hx hb dX12_rule_8 (by decide) ?_
    refine lv_iconst (v := 3) hx hb dX12_rule_9 (by decide) ?_
    have hPc := hP.sub (ws' := []) [] rfl
    have hDc := hD.sub (ws' := []) [] (by decide) rfl
    have hKc := hK.sub (tys' := []) [] rfl
    have hFc := va_free (wc := []) hD hS hA [] rfl
    refine va_calli (va_runS (As := [.int v22, .int 0, .int 3]) (rest := []) ⟨hx, hb, hml, hown, hts⟩ (k_X12_in_7 l dC dI v22  H.size) (va_cwS 3 hts g_X12_rule_0 rfl rfl rfl (by decide +kernel) ⟨Nat.le_of_ble_eq_true rfl, Nat.le_of_ble_eq_true rfl⟩) (pv_PS hPc hKc hDc) rfl rfl hl.1 rfl (lv_room (Nat.le_of_ble_eq_true rfl)) dX12_rule_10 ⟨Nat.le_of_ble_eq_true rfl, Nat.le_of_ble_eq_true rfl⟩) hS (fun q _ h => hFc q h) hFc (fun ra2 u t H1 locs ht hvm hwra2 hB hz1 hk1 hS => ?_)
    try rw [hwra2] at hB
    obtain ⟨pt0_ra2, pt1_ra2, pt2_ra2, pt3_ra2, pt4_ra2, hP1, hK1, hD1⟩ := hB
    rw [ht] at hP1
    obtain ⟨hP2, hD2⟩ := va_join (wr := (wd_78675856 h0 v0 r0 v1 v2 v3 v4 r1 r2 r3 r4 r5 r6 r7 v5 v6 r8 r9 r10 r11 v7 h1 r12 v8 v9 h2 r13 v10 v11 r14 v12 v13 r15 v14 w15 r16 v16 v17 r17 r18 r19 r20 r21 r22 v18 r23 r24 r25 v19 h1 g0 f20 h2 g1 f21)) (w1 := []) hP hD [] [0, 1, 2] rfl rfl (by decide) (by decide) hk1 hFc hP1 hD1
    clear hP hD hPc hDc hKc hFc hP1 hK1 hD1 hk1 hz1
    generalize H1 = H at hP2 hS ⊢
    have hP : va_P (dC, dI) vwCl (wd_78675856 h0 v0 r0 v1 v2 v3 v4 r1 r2 r3 r4 r5 r6 r7 v5 v6 r8 r9 r10 r11 v7 h1 r12 v8 v9 h2 r13 v10 v11 r14 v12 v13 r15 v14 w15 r16 v16 v17 r17 r18 r19 r20 r21 r22 v18 r23 r24 r25 v19 h1 g0 f20 h2 g1 f21) H := hP2
    have hD : va_D A (wd_78675856 h0 v0 r0 v1 v2 v3 v4 r1 r2 r3 r4 r5 r6 r7 v5 v6 r8 r9 r10 r11 v7 h1 r12 v8 v9 h2 r13 v10 v11 r14 v12 v13 r15 v14 w15 r16 v16 v17 r17 r18 r19 r20 r21 r22 v18 r23 r24 r25 v19 h1 g0 f20 h2 g1 f21) := hD2
    clear hP2 hD2
    refine lv_if_ne (tgt := 20) hx hb dX12_rule_13 (by decide) (fun c3 => ?_) (fun c3 => ?_)
    · skip
      have fc3 : ¬ (ra2.toInt = 0) := fun h9 => c3 (Int32.toInt_inj.mp h9)
      refine lv_iload_n hx hb dX12_rule_20 rfl (lv_at hl 1 rfl) ?_
      refine lv_iconst (v := 3) hx hb dX12_rule_21 (by decide) ?_
      refine lv_icmp_ne (tgt := 35) hx hb dX12_rule_22 (by decide) (fun c4 => ?_) (fun c4 => ?_)
      · skip
        have fc4 : ¬ (v22.toInt = 3) := fun h9 => c4 (Int32.toInt_inj.mp h9)
        refine lv_aload_n hx hb dX12_rule_35 rfl (lv_at hl 0 rfl) ?_
        refine va_get (D := (dC, dI)) (ci := 12) (v := .ref h1) (C := RX12) (T := TX12) (N := 48) hx hb hts (fun _ h => List.mem_cons_of_mem _ (List.mem_append_right _ h)) hown hK hP 0 rfl rfl 20 (by decide) (hts (.fieldLink RX12 46 "LeftArgumentsModel" "rule" "[I") (List.mem_cons_of_mem _ (List.mem_append_left _ (List.mem_of_getElem? (i := 5) rfl)))) (fun _ h9 => h9) rfl dX12_rule_36 ?_
        refine lv_iload_n hx hb dX12_rule_39 rfl (lv_at hl 1 rfl) ?_
        refine va_iald hx hb hK hP 1 0 rfl rfl (vp_in_iff.mpr ⟨by omega, by omega⟩) dX12_rule_40 ?_
        refine lv_topi (fun t5 et5 => ?_)
        subst hQ
        have hP9 := hP.sub (ws' := (wd_78675856 h0 v0 r0 v1 v2 v3 v4 r1 r2 r3 r4 r5 r6 r7 v5 v6 r8 r9 r10 r11 v7 h1 r12 v8 v9 h2 r13 v10 v11 r14 v12 v13 r15 v14 w15 r16 v16 v17 r17 r18 r19 r20 r21 r22 v18 r23 r24 r25 v19 h1 g0 f20 h2 g1 f21)) [0, 1, 2] rfl
        have hD9 := hD.sub (ws' := (wd_78675856 h0 v0 r0 v1 v2 v3 v4 r1 r2 r3 r4 r5 r6 r7 v5 v6 r8 r9 r10 r11 v7 h1 r12 v8 v9 h2 r13 v10 v11 r14 v12 v13 r15 v14 w15 r16 v16 v17 r17 r18 r19 r20 r21 r22 v18 r23 r24 r25 v19 h1 g0 f20 h2 g1 f21)) [0, 1, 2] (by decide) rfl
        have hK9 := hK.sub (tys' := []) [] rfl
        exact W.iret (v := t5) hx hb hr (fun t ht hW => ⟨⟨t5, t5, rfl, rfl, ⟨by rw [ht]; exact hP9, va_K.moved hW.alike hK9, hD9⟩⟩, hS.F ht⟩) hS.2.2 dX12_rule_41
      · skip
        have fc4 : v22.toInt = 3 := congrArg Int32.toInt c4
        refine lv_aload_n hx hb dX12_rule_25 rfl (lv_at hl 0 rfl) ?_
        refine va_get (D := (dC, dI)) (ci := 12) (v := .ref h2) (C := RX12) (T := TX12) (N := 48) hx hb hts (fun _ h => List.mem_cons_of_mem _ (List.mem_append_right _ h)) hown hK hP 0 rfl rfl 24 (by decide) (hts (.fieldLink RX12 52 "LeftArgumentsModel" "now" "[I") (List.mem_cons_of_mem _ (List.mem_append_left _ (List.mem_of_getElem? (i := 6) rfl)))) (fun _ h9 => h9) rfl dX12_rule_26 ?_
        refine lv_bipush (v := 64) hx hb dX12_rule_29 (by decide) ?_
        refine va_iald hx hb hK hP 2 1 rfl rfl (pv_c (x := 64) (n := 247) (by decide)) dX12_rule_31 ?_
        refine lv_topi (fun t6 et6 => ?_)
        have mmt6 : f21 (Int32.toNatClampNeg 64) = t6 := et6.symm
        refine lv_goto (tgt := 41) hx hb dX12_rule_32 (by decide) ?_
        subst hQ
        have hP9 := hP.sub (ws' := (wd_78675856 h0 v0 r0 v1 v2 v3 v4 r1 r2 r3 r4 r5 r6 r7 v5 v6 r8 r9 r10 r11 v7 h1 r12 v8 v9 h2 r13 v10 v11 r14 v12 v13 r15 v14 w15 r16 v16 v17 r17 r18 r19 r20 r21 r22 v18 r23 r24 r25 v19 h1 g0 f20 h2 g1 f21)) [0, 1, 2] rfl
        have hD9 := hD.sub (ws' := (wd_78675856 h0 v0 r0 v1 v2 v3 v4 r1 r2 r3 r4 r5 r6 r7 v5 v6 r8 r9 r10 r11 v7 h1 r12 v8 v9 h2 r13 v10 v11 r14 v12 v13 r15 v14 w15 r16 v16 v17 r17 r18 r19 r20 r21 r22 v18 r23 r24 r25 v19 h1 g0 f20 h2 g1 f21)) [0, 1, 2] (by decide) rfl
        have hK9 := hK.sub (tys' := []) [] rfl
        exact W.iret (v := t6) hx hb hr (fun t ht hW => ⟨⟨t6, t6, rfl, rfl, ⟨by rw [ht]; exact hP9, va_K.moved hW.alike hK9, hD9⟩⟩, hS.F ht⟩) hS.2.2 dX12_rule_41
    · skip
      have fc3 : ra2.toInt = 0 := congrArg Int32.toInt c3
      refine lv_iconst (v := (-1)) hx hb dX12_rule_16 (by decide) ?_
      refine lv_goto (tgt := 41) hx hb dX12_rule_17 (by decide) ?_
      subst hQ
      have hP9 := hP.sub (ws' := (wd_78675856 h0 v0 r0 v1 v2 v3 v4 r1 r2 r3 r4 r5 r6 r7 v5 v6 r8 r9 r10 r11 v7 h1 r12 v8 v9 h2 r13 v10 v11 r14 v12 v13 r15 v14 w15 r16 v16 v17 r17 r18 r19 r20 r21 r22 v18 r23 r24 r25 v19 h1 g0 f20 h2 g1 f21)) [0, 1, 2] rfl
      have hD9 := hD.sub (ws' := (wd_78675856 h0 v0 r0 v1 v2 v3 v4 r1 r2 r3 r4 r5 r6 r7 v5 v6 r8 r9 r10 r11 v7 h1 r12 v8 v9 h2 r13 v10 v11 r14 v12 v13 r15 v14 w15 r16 v16 v17 r17 r18 r19 r20 r21 r22 v18 r23 r24 r25 v19 h1 g0 f20 h2 g1 f21)) [0, 1, 2] (by decide) rfl
      have hK9 := hK.sub (tys' := []) [] rfl
      exact W.iret (v := (-1)) hx hb hr (fun t ht hW => ⟨⟨(-1), (-1), rfl, rfl, ⟨by rw [ht]; exact hP9, va_K.moved hW.alike hK9, hD9⟩⟩, hS.F ht⟩) hS.2.2 dX12_rule_41
def q_X12_in_8 : List Cond := .code yX12_in cX12_in 3 (some .boolean) :: (([] : List Cond))
set_option maxHeartbeats 4000000 in
set_option maxRecDepth 100000 in
theorem k_X12_in_8 (l : Launch) (dC : Nat → ClassId) (dI : Nat → Nat → Nat) (v0 : Int32) (sz : Nat) : Met l yX12_in q_X12_in_8 ({ frames := 0, cells := 0, slots := 0, locals := 0 }) (va_Pc [.int v0, .int 0, .int 999] (fun U => U.heap.size = sz ∧ va_P (dC, dI) vwCl [] U.heap ∧ va_K (dC, dI) vwCl [] U ∧ va_D (fun _ => True) [])) (va_Qi (fun (r : Int32) (r9 : Int32) => r9 = r) (fun (r : Int32) (t : State) => ((0 ≤ r.toInt) ∧ (r.toInt ≤ 1) ∧ ((r.toInt = 1 → 0 ≤ v0.toInt)) ∧ ((r.toInt = 1 → v0.toInt ≤ 999)) ∧ (r.toInt = 0 → ¬ (0 ≤ v0.toInt ∧ v0.toInt ≤ 999)) ∧ va_P (dC, dI) vwCl [] t.heap ∧ va_K (dC, dI) vwCl [] t ∧ va_D (va_A [] sz) [])) (va_A [] sz)) 0 0 (va_A [] sz) := by
  refine Met.ofW (cc := cX12_in) (maxL := 3) (ret := (some .boolean)) (by decide) rfl ?_
  intro p e s m args below meth c s₁ B hml hv
  obtain ⟨rfl, hsz, hP, hK, hD0⟩ := hv
  have hx := B.exec
  have hb := B.bytes
  have hr := B.returns
  have hts := atoms_spec (ws := q_X12_in_8) B.pre
  have hown : s.vm.findClass RX12 = some m.cls := findClass_of_methodNamed B.named
  have hlocks := B.notSynchronized
  subst hsz
  have hD := hD0.self (sz := s.heap.size)
  generalize hAe : va_A [] s.heap.size = A at hD ⊢
  have hA : ∀ q : Nat, s.heap.size ≤ q → A q := fun q h => by rw [← hAe]; exact Or.inr h
  have hS : va_S A s.heap s.heap [] := va_S.rf
  generalize hQ : (MQ below _ _ s 0 0 A) = Q
  have hl := lv_entry ([.int v0, .int 0, .int 999]) (n := 3) (Nat.le_of_ble_eq_true rfl)
  rw [lg_entry_eq]
  generalize (lg_sl ([.int v0, .int 0, .int 999]) ++ List.replicate (3 - (lg_sl ([.int v0, .int 0, .int 999])).length) Slot.unset).toArray = ls at hl ⊢
  have hl : lv_has ls 3 [(0, .int v0), (1, .int 0), (2, .int 999)] := hl
  obtain ⟨H, hH⟩ : ∃ H : Heap, H = s.heap := ⟨_, rfl⟩
  obtain ⟨locs, hlocs⟩ : ∃ y : List Loc, y = [] := ⟨_, rfl⟩
  have hS : va_S A s.heap H locs := by rw [hH, hlocs]; exact va_S.rf
  have hP : va_P (dC, dI) vwCl [] H := by rw [hH]; exact hP
  rw [← hH, ← hlocs]
  refine lv_iload_n hx hb dX12_in_0 rfl (lv_at hl 0 rfl) ?_
  refine lv_iload_n hx hb dX12_in_1 rfl (lv_at hl 1 rfl) ?_
  refine lv_icmp_lt (tgt := 14) hx hb dX12_in_2 (by decide) (fun c1 => ?_) (fun c1 => ?_)
  · skip
    have fc1 : v0.toInt < 0 := Int32.lt_iff_toInt_lt.mp c1
    refine lv_iconst (v := 0) hx hb dX12_in_14 (by decide) ?_
    subst hQ
    have hP9 := hP.sub (ws' := []) [] rfl
    have hD9 := hD.sub (ws' := []) [] (by decide) rfl
    have hK9 := hK.sub (tys' := []) [] rfl
    exact W.zret (v := 0) hx hb hr rfl (fun t ht hW => ⟨⟨0, 0, rfl, rfl, ⟨by first | omega | decide, by first | omega | decide, fun h9 => absurd h9 (by decide), fun h9 => absurd h9 (by decide), fun _ => by omega, by rw [ht]; exact hP9, va_K.moved hW.alike hK9, hD9⟩⟩, hS.F ht⟩) hS.2.2 dX12_in_15
  · skip
    have fc1 : ¬ (v0.toInt < 0) := fun h9 => c1 (Int32.lt_iff_toInt_lt.mpr h9)
    refine lv_iload_n hx hb dX12_in_5 rfl (lv_at hl 0 rfl) ?_
    refine lv_iload_n hx hb dX12_in_6 rfl (lv_at hl 2 rfl) ?_
    refine lv_icmp_gt (tgt := 14) hx hb dX12_in_7 (by decide) (fun c2 => ?_) (fun c2 => ?_)
    · skip
      have fc2 : 999 < v0.toInt := Int32.lt_iff_toInt_lt.mp c2
      refine lv_iconst (v := 0) hx hb dX12_in_14 (by decide) ?_
      subst hQ
      have hP9 := hP.sub (ws' := []) [] rfl
      have hD9 := hD.sub (ws' := []) [] (by decide) rfl
      have hK9 := hK.sub (tys' := []) [] rfl
      exact W.zret (v := 0) hx hb hr rfl (fun t ht hW => ⟨⟨0, 0, rfl, rfl, ⟨by first | omega | decide, by first | omega | decide, fun h9 => absurd h9 (by decide), fun h9 => absurd h9 (by decide), fun _ => by omega, by rw [ht]; exact hP9, va_K.moved hW.alike hK9, hD9⟩⟩, hS.F ht⟩) hS.2.2 dX12_in_15
    · skip
      have fc2 : ¬ (999 < v0.toInt) := fun h9 => c2 (Int32.lt_iff_toInt_lt.mpr h9)
      refine lv_iconst (v := 1) hx hb dX12_in_10 (by decide) ?_
      refine lv_goto (tgt := 15) hx hb dX12_in_11 (by decide) ?_
      subst hQ
      have hP9 := hP.sub (ws' := []) [] rfl
      have hD9 := hD.sub (ws' := []) [] (by decide) rfl
      have hK9 := hK.sub (tys' := []) [] rfl
      exact W.zret (v := 1) hx hb hr rfl (fun t ht hW => ⟨⟨1, 1, rfl, rfl, ⟨by first | omega | decide, by first | omega | decide, fun _ => by omega, fun _ => by omega, fun h9 => absurd h9 (by decide), by rw [ht]; exact hP9, va_K.moved hW.alike hK9, hD9⟩⟩, hS.F ht⟩) hS.2.2 dX12_in_15
def q_X12_shares : List Cond := .code yX12_shares cX12_shares 3 (some .int) :: (([.code yX12_isThere cX12_isThere 2 (some .boolean), .code yX12_in cX12_in 3 (some .boolean), .initialized RX12, .static yX12_in, .methodLink RX12 217 yX12_in, .code yX12_of cX12_of 3 (some .int), .fieldLink RX12 52 "LeftArgumentsModel" "now" "[I", .instanceMethod yX12_of, .selects RX12 yX12_of yX12_of, .methodLink RX12 287 yX12_of, .instanceMethod yX12_isThere, .selects RX12 yX12_isThere yX12_isThere, .methodLink RX12 290 yX12_isThere, .code yX12_sizeAll cX12_sizeAll 3 (some .int), .instanceMethod yX12_sizeAll, .selects RX12 yX12_sizeAll yX12_sizeAll, .methodLink RX12 330 yX12_sizeAll] : List Cond) ++ wsX120)
set_option maxRecDepth 20000 in
theorem g_X12_shares_0 : GoodIn q_X12_shares (wsV RX12 290 RX12 yX12_isThere q_X12_isThere) := goodIn_app (goodIn_r _ [13, 11, 12, 3] rfl (by decide +kernel)) (goodIn_ca (goodIn_r (.code yX12_isThere cX12_isThere 2 (some .boolean) :: [.code yX12_in cX12_in 3 (some .boolean), .initialized RX12, .static yX12_in, .methodLink RX12 217 yX12_in, .code yX12_of cX12_of 3 (some .int), .fieldLink RX12 52 "LeftArgumentsModel" "now" "[I", .instanceMethod yX12_of, .selects RX12 yX12_of yX12_of, .methodLink RX12 287 yX12_of]) [1, 2, 3, 4, 5, 6, 7, 8, 9, 10] rfl (by decide +kernel)) (goodIn_sub (fun _ h => List.mem_cons_of_mem _ (List.mem_append_right _ h)) gwX12))
set_option maxRecDepth 20000 in
theorem g_X12_shares_1 : GoodIn q_X12_shares (va_wsS RX12 217 yX12_in q_X12_in_8) := goodIn_app (goodIn_r _ [5, 4, 3] rfl (by decide +kernel)) (goodIn_r (.code yX12_in cX12_in 3 (some .boolean) :: []) [2] rfl (by decide +kernel))
set_option maxRecDepth 20000 in
theorem g_X12_shares_2 : GoodIn q_X12_shares (wsV RX12 287 RX12 yX12_of q_X12_of_3) := goodIn_app (goodIn_r _ [10, 8, 9, 3] rfl (by decide +kernel)) (goodIn_ca (goodIn_r (.code yX12_of cX12_of 3 (some .int) :: [.fieldLink RX12 52 "LeftArgumentsModel" "now" "[I"]) [6, 7] rfl (by decide +kernel)) (goodIn_sub (fun _ h => List.mem_cons_of_mem _ (List.mem_append_right _ h)) gwX12))
set_option maxRecDepth 20000 in
theorem g_X12_shares_3 : GoodIn q_X12_shares (wsV RX12 330 RX12 yX12_sizeAll q_X12_sizeAll) := goodIn_app (goodIn_r _ [17, 15, 16, 3] rfl (by decide +kernel)) (goodIn_ca (goodIn_r (.code yX12_sizeAll cX12_sizeAll 3 (some .int) :: [.code yX12_isThere cX12_isThere 2 (some .boolean), .code yX12_in cX12_in 3 (some .boolean), .initialized RX12, .static yX12_in, .methodLink RX12 217 yX12_in, .code yX12_of cX12_of 3 (some .int), .fieldLink RX12 52 "LeftArgumentsModel" "now" "[I", .instanceMethod yX12_of, .selects RX12 yX12_of yX12_of, .methodLink RX12 287 yX12_of, .instanceMethod yX12_isThere, .selects RX12 yX12_isThere yX12_isThere, .methodLink RX12 290 yX12_isThere]) [14, 1, 2, 3, 4, 5, 6, 7, 8, 9, 10, 11, 12, 13] rfl (by decide +kernel)) (goodIn_sub (fun _ h => List.mem_cons_of_mem _ (List.mem_append_right _ h)) gwX12))
set_option maxHeartbeats 4000000 in
set_option maxRecDepth 100000 in
theorem k_X12_shares (l : Launch) (dC : Nat → ClassId) (dI : Nat → Nat → Nat) (h0 : Nat) (h1 : Nat) (v0 : Int32) (r0 : Nat) (v1 : Int32) (v2 : Int32) (v3 : Int32) (v4 : Int32) (r1 : Nat) (r2 : Nat) (r3 : Nat) (r4 : Nat) (r5 : Nat) (r6 : Nat) (r7 : Nat) (v5 : Int32) (v6 : Int32) (r8 : Nat) (r9 : Nat) (r10 : Nat) (r11 : Nat) (v7 : Int32) (r12 : Nat) (r13 : Nat) (v8 : Int32) (v9 : Int32) (r14 : Nat) (v10 : Int32) (v11 : Int32) (r15 : Nat) (v12 : Int32) (v13 : Int32) (r16 : Nat) (v14 : Int32) (w15 : Int64) (r17 : Nat) (v16 : Int32) (v17 : Int32) (r18 : Nat) (r19 : Nat) (r20 : Nat) (r21 : Nat) (r22 : Nat) (r23 : Nat) (v18 : Int32) (r24 : Nat) (r25 : Nat) (r26 : Nat) (v19 : Int32) (g0 : ClassId) (f20 : Nat → Int32) (v21 : Int32) (v22 : Int32) (i_v1 : 0 ≤ v1.toInt ∧ v1.toInt ≤ 240) (i_v5 : 0 ≤ v5.toInt ∧ v5.toInt ≤ 4) (i_v6 : 0 ≤ v6.toInt ∧ v6.toInt ≤ 4) (i_v7 : 0 ≤ v7.toInt ∧ v7.toInt ≤ 8) (i_v8 : 0 ≤ v8.toInt ∧ v8.toInt ≤ 8) (i_v9 : 0 ≤ v9.toInt ∧ v9.toInt ≤ 1) (i_v10 : -1 ≤ v10.toInt ∧ v10.toInt ≤ 3) (i_v14 : 0 ≤ v14.toInt ∧ v14.toInt ≤ 40) (i_v18 : 0 ≤ v18.toInt ∧ v18.toInt ≤ 10) (i_v19 : 0 ≤ v19.toInt ∧ v19.toInt ≤ 1) (ia_f20 : (pm_NW f20)) (sz : Nat) : Met l yX12_shares q_X12_shares ({ frames := 3, cells := 0, slots := 0, locals := 65 }) (va_Pc [.ref h0, .int v21, .int v22] (fun U => U.heap.size = sz ∧ va_P (dC, dI) vwCl (wd_5013416a h0 v0 r0 v1 v2 v3 v4 r1 r2 r3 r4 r5 r6 r7 v5 v6 r8 r9 r10 r11 v7 r12 r13 v8 v9 h1 r14 v10 v11 r15 v12 v13 r16 v14 w15 r17 v16 v17 r18 r19 r20 r21 r22 r23 v18 r24 r25 r26 v19 h1 g0 f20) U.heap ∧ va_K (dC, dI) vwCl [(g0, .int)] U ∧ va_D (fun _ => True) (wd_5013416a h0 v0 r0 v1 v2 v3 v4 r1 r2 r3 r4 r5 r6 r7 v5 v6 r8 r9 r10 r11 v7 r12 r13 v8 v9 h1 r14 v10 v11 r15 v12 v13 r16 v14 w15 r17 v16 v17 r18 r19 r20 r21 r22 r23 v18 r24 r25 r26 v19 h1 g0 f20))) (va_Qi (fun (r : Int32) (r9 : Int32) => r9 = r) (fun (r : Int32) (t : State) => (va_P (dC, dI) vwCl (wd_5013416a h0 v0 r0 v1 v2 v3 v4 r1 r2 r3 r4 r5 r6 r7 v5 v6 r8 r9 r10 r11 v7 r12 r13 v8 v9 h1 r14 v10 v11 r15 v12 v13 r16 v14 w15 r17 v16 v17 r18 r19 r20 r21 r22 r23 v18 r24 r25 r26 v19 h1 g0 f20) t.heap ∧ va_K (dC, dI) vwCl [] t ∧ va_D (va_A (wd_5013416a h0 v0 r0 v1 v2 v3 v4 r1 r2 r3 r4 r5 r6 r7 v5 v6 r8 r9 r10 r11 v7 r12 r13 v8 v9 h1 r14 v10 v11 r15 v12 v13 r16 v14 w15 r17 v16 v17 r18 r19 r20 r21 r22 r23 v18 r24 r25 r26 v19 h1 g0 f20) sz) (wd_5013416a h0 v0 r0 v1 v2 v3 v4 r1 r2 r3 r4 r5 r6 r7 v5 v6 r8 r9 r10 r11 v7 r12 r13 v8 v9 h1 r14 v10 v11 r15 v12 v13 r16 v14 w15 r17 v16 v17 r18 r19 r20 r21 r22 r23 v18 r24 r25 r26 v19 h1 g0 f20))) (va_A (wd_5013416a h0 v0 r0 v1 v2 v3 v4 r1 r2 r3 r4 r5 r6 r7 v5 v6 r8 r9 r10 r11 v7 r12 r13 v8 v9 h1 r14 v10 v11 r15 v12 v13 r16 v14 w15 r17 v16 v17 r18 r19 r20 r21 r22 r23 v18 r24 r25 r26 v19 h1 g0 f20) sz)) 0 0 (va_A (wd_5013416a h0 v0 r0 v1 v2 v3 v4 r1 r2 r3 r4 r5 r6 r7 v5 v6 r8 r9 r10 r11 v7 r12 r13 v8 v9 h1 r14 v10 v11 r15 v12 v13 r16 v14 w15 r17 v16 v17 r18 r19 r20 r21 r22 r23 v18 r24 r25 r26 v19 h1 g0 f20) sz) := by
  refine Met.ofW (cc := cX12_shares) (maxL := 3) (ret := (some .int)) (by decide) rfl ?_
  intro p e s m args below meth c s₁ B hml hv
  obtain ⟨i_v1a, i_v1b⟩ := i_v1
  obtain ⟨i_v5a, i_v5b⟩ := i_v5
  obtain ⟨i_v6a, i_v6b⟩ := i_v6
  obtain ⟨i_v7a, i_v7b⟩ := i_v7
  obtain ⟨i_v8a, i_v8b⟩ := i_v8
  obtain ⟨i_v9a, i_v9b⟩ := i_v9
  obtain ⟨i_v10a, i_v10b⟩ := i_v10
  obtain ⟨i_v14a, i_v14b⟩ := i_v14
  obtain ⟨i_v18a, i_v18b⟩ := i_v18
  obtain ⟨i_v19a, i_v19b⟩ := i_v19
  obtain ⟨rfl, hsz, hP, hK, hD0⟩ := hv
  have hx := B.exec
  have hb := B.bytes
  have hr := B.returns
  have hts := atoms_spec (ws := q_X12_shares) B.pre
  have hown : s.vm.findClass RX12 = some m.cls := findClass_of_methodNamed B.named
  have hlocks := B.notSynchronized
  subst hsz
  have hD := hD0.self (sz := s.heap.size)
  generalize hAe : va_A (wd_5013416a h0 v0 r0 v1 v2 v3 v4 r1 r2 r3 r4 r5 r6 r7 v5 v6 r8 r9 r10 r11 v7 r12 r13 v8 v9 h1 r14 v10 v11 r15 v12 v13 r16 v14 w15 r17 v16 v17 r18 r19 r20 r21 r22 r23 v18 r24 r25 r26 v19 h1 g0 f20) s.heap.size = A at hD ⊢
  have hA : ∀ q : Nat, s.heap.size ≤ q → A q := fun q h => by rw [← hAe]; exact Or.inr h
  have hS : va_S A s.heap s.heap [] := va_S.rf
  generalize hQ : (MQ below _ _ s 0 0 A) = Q
  have hl := lv_entry ([.ref h0, .int v21, .int v22]) (n := 3) (Nat.le_of_ble_eq_true rfl)
  rw [lg_entry_eq]
  generalize (lg_sl ([.ref h0, .int v21, .int v22]) ++ List.replicate (3 - (lg_sl ([.ref h0, .int v21, .int v22])).length) Slot.unset).toArray = ls at hl ⊢
  have hl : lv_has ls 3 [(0, .ref h0), (1, .int v21), (2, .int v22)] := hl
  obtain ⟨H, hH⟩ : ∃ H : Heap, H = s.heap := ⟨_, rfl⟩
  obtain ⟨locs, hlocs⟩ : ∃ y : List Loc, y = [] := ⟨_, rfl⟩
  have hS : va_S A s.heap H locs := by rw [hH, hlocs]; exact va_S.rf
  have hP : va_P (dC, dI) vwCl (wd_5013416a h0 v0 r0 v1 v2 v3 v4 r1 r2 r3 r4 r5 r6 r7 v5 v6 r8 r9 r10 r11 v7 r12 r13 v8 v9 h1 r14 v10 v11 r15 v12 v13 r16 v14 w15 r17 v16 v17 r18 r19 r20 r21 r22 r23 v18 r24 r25 r26 v19 h1 g0 f20) H := by rw [hH]; exact hP
  rw [← hH, ← hlocs]
  refine lv_aload_n hx hb dX12_shares_0 rfl (lv_at hl 0 rfl) ?_
  refine lv_iload_n hx hb dX12_shares_1 rfl (lv_at hl 1 rfl) ?_
  have hPc := hP.sub (ws' := (wd_5013416a h0 v0 r0 v1 v2 v3 v4 r1 r2 r3 r4 r5 r6 r7 v5 v6 r8 r9 r10 r11 v7 r12 r13 v8 v9 h1 r14 v10 v11 r15 v12 v13 r16 v14 w15 r17 v16 v17 r18 r19 r20 r21 r22 r23 v18 r24 r25 r26 v19 h1 g0 f20)) [0, 1] rfl
  have hDc := hD.sub (ws' := (wd_5013416a h0 v0 r0 v1 v2 v3 v4 r1 r2 r3 r4 r5 r6 r7 v5 v6 r8 r9 r10 r11 v7 r12 r13 v8 v9 h1 r14 v10 v11 r15 v12 v13 r16 v14 w15 r17 v16 v17 r18 r19 r20 r21 r22 r23 v18 r24 r25 r26 v19 h1 g0 f20)) [0, 1] (by decide) rfl
  have hKc := hK.sub (tys' := [(g0, .int)]) [0] rfl
  have hFc := va_free (wc := (wd_5013416a h0 v0 r0 v1 v2 v3 v4 r1 r2 r3 r4 r5 r6 r7 v5 v6 r8 r9 r10 r11 v7 r12 r13 v8 v9 h1 r14 v10 v11 r15 v12 v13 r16 v14 w15 r17 v16 v17 r18 r19 r20 r21 r22 r23 v18 r24 r25 r26 v19 h1 g0 f20)) hD hS hA [0, 1] rfl
  refine va_calli (va_runV (As := [.int v21]) (rest := []) ⟨hx, hb, hml, hown, hts⟩ (k_X12_isThere l dC dI h0 h1 v0 r0 v1 v2 v3 v4 r1 r2 r3 r4 r5 r6 r7 v5 v6 r8 r9 r10 r11 v7 r12 r13 v8 v9 r14 v10 v11 r15 v12 v13 r16 v14 w15 r17 v16 v17 r18 r19 r20 r21 r22 r23 v18 r24 r25 r26 v19 g0 f20 v21 ⟨i_v1a, i_v1b⟩ ⟨i_v5a, i_v5b⟩ ⟨i_v6a, i_v6b⟩ ⟨i_v7a, i_v7b⟩ ⟨i_v8a, i_v8b⟩ ⟨i_v9a, i_v9b⟩ ⟨i_v10a, i_v10b⟩ ⟨i_v14a, i_v14b⟩ ⟨i_v18a, i_v18b⟩ ⟨i_v19a, i_v19b⟩ ia_f20.1 H.size) (cwV 1 hts g_X12_shares_0 rfl rfl rfl (by decide +kernel) ⟨Nat.le_of_ble_eq_true rfl, Nat.le_of_ble_eq_true rfl⟩) (pv_PV12 hPc hKc hDc (q0 := 0) rfl) rfl rfl hl.1 rfl (lv_room (Nat.le_of_ble_eq_true rfl)) dX12_shares_2 ⟨Nat.le_of_ble_eq_true rfl, Nat.le_of_ble_eq_true rfl⟩) hS (fun q _ h => hFc q h) hFc (fun ra1 u t H1 locs ht hvm hwra1 hB hz1 hk1 hS => ?_)
  try rw [hwra1] at hB
  obtain ⟨pt0_ra1, pt1_ra1, pt2_ra1, pt3_ra1, pt4_ra1, pt5_ra1, hP1, hK1, hD1⟩ := hB
  rw [ht] at hP1
  obtain ⟨hP2, hD2⟩ := va_join (wr := []) (w1 := (wd_5013416a h0 v0 r0 v1 v2 v3 v4 r1 r2 r3 r4 r5 r6 r7 v5 v6 r8 r9 r10 r11 v7 r12 r13 v8 v9 h1 r14 v10 v11 r15 v12 v13 r16 v14 w15 r17 v16 v17 r18 r19 r20 r21 r22 r23 v18 r24 r25 r26 v19 h1 g0 f20)) hP hD [0, 1] [] rfl rfl (by decide) (by decide) hk1 hFc hP1 hD1
  clear hP hD hPc hDc hKc hFc hP1 hK1 hD1 hk1 hz1
  generalize H1 = H at hP2 hS ⊢
  have hP : va_P (dC, dI) vwCl (wd_5013416a h0 v0 r0 v1 v2 v3 v4 r1 r2 r3 r4 r5 r6 r7 v5 v6 r8 r9 r10 r11 v7 r12 r13 v8 v9 h1 r14 v10 v11 r15 v12 v13 r16 v14 w15 r17 v16 v17 r18 r19 r20 r21 r22 r23 v18 r24 r25 r26 v19 h1 g0 f20) H := hP2
  have hD : va_D A (wd_5013416a h0 v0 r0 v1 v2 v3 v4 r1 r2 r3 r4 r5 r6 r7 v5 v6 r8 r9 r10 r11 v7 r12 r13 v8 v9 h1 r14 v10 v11 r15 v12 v13 r16 v14 w15 r17 v16 v17 r18 r19 r20 r21 r22 r23 v18 r24 r25 r26 v19 h1 g0 f20) := hD2
  clear hP2 hD2
  refine lv_if_eq (tgt := 35) hx hb dX12_shares_5 (by decide) (fun c2 => ?_) (fun c2 => ?_)
  · skip
    have fc2 : ra1.toInt = 0 := congrArg Int32.toInt c2
    refine lv_iconst (v := (-1)) hx hb dX12_shares_35 (by decide) ?_
    subst hQ
    have hP9 := hP.sub (ws' := (wd_5013416a h0 v0 r0 v1 v2 v3 v4 r1 r2 r3 r4 r5 r6 r7 v5 v6 r8 r9 r10 r11 v7 r12 r13 v8 v9 h1 r14 v10 v11 r15 v12 v13 r16 v14 w15 r17 v16 v17 r18 r19 r20 r21 r22 r23 v18 r24 r25 r26 v19 h1 g0 f20)) [0, 1] rfl
    have hD9 := hD.sub (ws' := (wd_5013416a h0 v0 r0 v1 v2 v3 v4 r1 r2 r3 r4 r5 r6 r7 v5 v6 r8 r9 r10 r11 v7 r12 r13 v8 v9 h1 r14 v10 v11 r15 v12 v13 r16 v14 w15 r17 v16 v17 r18 r19 r20 r21 r22 r23 v18 r24 r25 r26 v19 h1 g0 f20)) [0, 1] (by decide) rfl
    have hK9 := hK.sub (tys' := []) [] rfl
    exact W.iret (v := (-1)) hx hb hr (fun t ht hW => ⟨⟨(-1), (-1), rfl, rfl, ⟨by rw [ht]; exact hP9, va_K.moved hW.alike hK9, hD9⟩⟩, hS.F ht⟩) hS.2.2 dX12_shares_36
  · skip
    have fc2 : ¬ (ra1.toInt = 0) := fun h9 => c2 (Int32.toInt_inj.mp h9)
    have q1pt4_ra1 := pt4_ra1 (by omega)
    refine lv_iload_n hx hb dX12_shares_8 rfl (lv_at hl 2 rfl) ?_
    refine lv_iconst (v := 0) hx hb dX12_shares_9 (by decide) ?_
    refine lv_sipush (v := 999) hx hb dX12_shares_10 (by decide) ?_
    have hPc := hP.sub (ws' := []) [] rfl
    have hDc := hD.sub (ws' := []) [] (by decide) rfl
    have hKc := hK.sub (tys' := []) [] rfl
    have hFc := va_free (wc := []) hD hS hA [] rfl
    refine va_calli (va_runS (As := [.int v22, .int 0, .int 999]) (rest := []) ⟨hx, hb, hml, hown, hts⟩ (k_X12_in_8 l dC dI v22  H.size) (va_cwS 3 hts g_X12_shares_1 rfl rfl rfl (by decide +kernel) ⟨Nat.le_of_ble_eq_true rfl, Nat.le_of_ble_eq_true rfl⟩) (pv_PS hPc hKc hDc) rfl rfl hl.1 rfl (lv_room (Nat.le_of_ble_eq_true rfl)) dX12_shares_13 ⟨Nat.le_of_ble_eq_true rfl, Nat.le_of_ble_eq_true rfl⟩) hS (fun q _ h => hFc q h) hFc (fun ra3 u t H1 locs ht hvm hwra3 hB hz1 hk1 hS => ?_)
    try rw [hwra3] at hB
    obtain ⟨pt0_ra3, pt1_ra3, pt2_ra3, pt3_ra3, pt4_ra3, hP1, hK1, hD1⟩ := hB
    rw [ht] at hP1
    obtain ⟨hP2, hD2⟩ := va_join (wr := (wd_5013416a h0 v0 r0 v1 v2 v3 v4 r1 r2 r3 r4 r5 r6 r7 v5 v6 r8 r9 r10 r11 v7 r12 r13 v8 v9 h1 r14 v10 v11 r15 v12 v13 r16 v14 w15 r17 v16 v17 r18 r19 r20 r21 r22 r23 v18 r24 r25 r26 v19 h1 g0 f20)) (w1 := []) hP hD [] [0, 1] rfl rfl (by decide) (by decide) hk1 hFc hP1 hD1
    clear hP hD hPc hDc hKc hFc hP1 hK1 hD1 hk1 hz1
    generalize H1 = H at hP2 hS ⊢
    have hP : va_P (dC, dI) vwCl (wd_5013416a h0 v0 r0 v1 v2 v3 v4 r1 r2 r3 r4 r5 r6 r7 v5 v6 r8 r9 r10 r11 v7 r12 r13 v8 v9 h1 r14 v10 v11 r15 v12 v13 r16 v14 w15 r17 v16 v17 r18 r19 r20 r21 r22 r23 v18 r24 r25 r26 v19 h1 g0 f20) H := hP2
    have hD : va_D A (wd_5013416a h0 v0 r0 v1 v2 v3 v4 r1 r2 r3 r4 r5 r6 r7 v5 v6 r8 r9 r10 r11 v7 r12 r13 v8 v9 h1 r14 v10 v11 r15 v12 v13 r16 v14 w15 r17 v16 v17 r18 r19 r20 r21 r22 r23 v18 r24 r25 r26 v19 h1 g0 f20) := hD2
    clear hP2 hD2
    refine lv_if_eq (tgt := 35) hx hb dX12_shares_16 (by decide) (fun c4 => ?_) (fun c4 => ?_)
    · skip
      have fc4 : ra3.toInt = 0 := congrArg Int32.toInt c4
      refine lv_iconst (v := (-1)) hx hb dX12_shares_35 (by decide) ?_
      subst hQ
      have hP9 := hP.sub (ws' := (wd_5013416a h0 v0 r0 v1 v2 v3 v4 r1 r2 r3 r4 r5 r6 r7 v5 v6 r8 r9 r10 r11 v7 r12 r13 v8 v9 h1 r14 v10 v11 r15 v12 v13 r16 v14 w15 r17 v16 v17 r18 r19 r20 r21 r22 r23 v18 r24 r25 r26 v19 h1 g0 f20)) [0, 1] rfl
      have hD9 := hD.sub (ws' := (wd_5013416a h0 v0 r0 v1 v2 v3 v4 r1 r2 r3 r4 r5 r6 r7 v5 v6 r8 r9 r10 r11 v7 r12 r13 v8 v9 h1 r14 v10 v11 r15 v12 v13 r16 v14 w15 r17 v16 v17 r18 r19 r20 r21 r22 r23 v18 r24 r25 r26 v19 h1 g0 f20)) [0, 1] (by decide) rfl
      have hK9 := hK.sub (tys' := []) [] rfl
      exact W.iret (v := (-1)) hx hb hr (fun t ht hW => ⟨⟨(-1), (-1), rfl, rfl, ⟨by rw [ht]; exact hP9, va_K.moved hW.alike hK9, hD9⟩⟩, hS.F ht⟩) hS.2.2 dX12_shares_36
    · skip
      have fc4 : ¬ (ra3.toInt = 0) := fun h9 => c4 (Int32.toInt_inj.mp h9)
      refine lv_iload_n hx hb dX12_shares_19 rfl (lv_at hl 2 rfl) ?_
      refine lv_aload_n hx hb dX12_shares_20 rfl (lv_at hl 0 rfl) ?_
      refine lv_iload_n hx hb dX12_shares_21 rfl (lv_at hl 1 rfl) ?_
      refine lv_iconst (v := 0) hx hb dX12_shares_22 (by decide) ?_
      have hPc := hP.sub (ws' := (wd_5013416a h0 v0 r0 v1 v2 v3 v4 r1 r2 r3 r4 r5 r6 r7 v5 v6 r8 r9 r10 r11 v7 r12 r13 v8 v9 h1 r14 v10 v11 r15 v12 v13 r16 v14 w15 r17 v16 v17 r18 r19 r20 r21 r22 r23 v18 r24 r25 r26 v19 h1 g0 f20)) [0, 1] rfl
      have hDc := hD.sub (ws' := (wd_5013416a h0 v0 r0 v1 v2 v3 v4 r1 r2 r3 r4 r5 r6 r7 v5 v6 r8 r9 r10 r11 v7 r12 r13 v8 v9 h1 r14 v10 v11 r15 v12 v13 r16 v14 w15 r17 v16 v17 r18 r19 r20 r21 r22 r23 v18 r24 r25 r26 v19 h1 g0 f20)) [0, 1] (by decide) rfl
      have hKc := hK.sub (tys' := [(g0, .int)]) [0] rfl
      have hFc := va_free (wc := (wd_5013416a h0 v0 r0 v1 v2 v3 v4 r1 r2 r3 r4 r5 r6 r7 v5 v6 r8 r9 r10 r11 v7 r12 r13 v8 v9 h1 r14 v10 v11 r15 v12 v13 r16 v14 w15 r17 v16 v17 r18 r19 r20 r21 r22 r23 v18 r24 r25 r26 v19 h1 g0 f20)) hD hS hA [0, 1] rfl
      refine va_calli (va_runV (As := [.int v21, .int 0]) (rest := [.int v22]) ⟨hx, hb, hml, hown, hts⟩ (k_X12_of_3 l dC dI h0 h1 v0 r0 v1 v2 v3 v4 r1 r2 r3 r4 r5 r6 r7 v5 v6 r8 r9 r10 r11 v7 r12 r13 v8 v9 r14 v10 v11 r15 v12 v13 r16 v14 w15 r17 v16 v17 r18 r19 r20 r21 r22 r23 v18 r24 r25 r26 v19 g0 f20 v21 ⟨i_v1a, i_v1b⟩ ⟨i_v5a, i_v5b⟩ ⟨i_v6a, i_v6b⟩ ⟨i_v7a, i_v7b⟩ ⟨i_v8a, i_v8b⟩ ⟨i_v9a, i_v9b⟩ ⟨i_v10a, i_v10b⟩ ⟨i_v14a, i_v14b⟩ ⟨i_v18a, i_v18b⟩ ⟨i_v19a, i_v19b⟩ ⟨by first | omega | decide, by first | omega | decide⟩ ia_f20.1 H.size) (cwV 2 hts g_X12_shares_2 rfl rfl rfl (by decide +kernel) ⟨Nat.le_of_ble_eq_true rfl, Nat.le_of_ble_eq_true rfl⟩) (pv_PV12 hPc hKc hDc (q0 := 0) rfl) rfl rfl hl.1 rfl (lv_room (Nat.le_of_ble_eq_true rfl)) dX12_shares_23 ⟨Nat.le_of_ble_eq_true rfl, Nat.le_of_ble_eq_true rfl⟩) hS (fun q _ h => hFc q h) hFc (fun ra5 u t H1 locs ht hvm hwra5 hB hz1 hk1 hS => ?_)
      try rw [hwra5] at hB
      obtain ⟨pt0_ra5, pt1_ra5, pt2_ra5, hP1, hK1, hD1⟩ := hB
      rw [ht] at hP1
      obtain ⟨hP2, hD2⟩ := va_join (wr := []) (w1 := (wd_5013416a h0 v0 r0 v1 v2 v3 v4 r1 r2 r3 r4 r5 r6 r7 v5 v6 r8 r9 r10 r11 v7 r12 r13 v8 v9 h1 r14 v10 v11 r15 v12 v13 r16 v14 w15 r17 v16 v17 r18 r19 r20 r21 r22 r23 v18 r24 r25 r26 v19 h1 g0 f20)) hP hD [0, 1] [] rfl rfl (by decide) (by decide) hk1 hFc hP1 hD1
      clear hP hD hPc hDc hKc hFc hP1 hK1 hD1 hk1 hz1
      generalize H1 = H at hP2 hS ⊢
      have hP : va_P (dC, dI) vwCl (wd_5013416a h0 v0 r0 v1 v2 v3 v4 r1 r2 r3 r4 r5 r6 r7 v5 v6 r8 r9 r10 r11 v7 r12 r13 v8 v9 h1 r14 v10 v11 r15 v12 v13 r16 v14 w15 r17 v16 v17 r18 r19 r20 r21 r22 r23 v18 r24 r25 r26 v19 h1 g0 f20) H := hP2
      have hD : va_D A (wd_5013416a h0 v0 r0 v1 v2 v3 v4 r1 r2 r3 r4 r5 r6 r7 v5 v6 r8 r9 r10 r11 v7 r12 r13 v8 v9 h1 r14 v10 v11 r15 v12 v13 r16 v14 w15 r17 v16 v17 r18 r19 r20 r21 r22 r23 v18 r24 r25 r26 v19 h1 g0 f20) := hD2
      clear hP2 hD2
      refine lv_imul hx hb dX12_shares_26 ?_
      refine lv_topi (fun t6 et6 => ?_)
      refine lv_aload_n hx hb dX12_shares_27 rfl (lv_at hl 0 rfl) ?_
      have hPc := hP.sub (ws' := (wd_5013416a h0 v0 r0 v1 v2 v3 v4 r1 r2 r3 r4 r5 r6 r7 v5 v6 r8 r9 r10 r11 v7 r12 r13 v8 v9 h1 r14 v10 v11 r15 v12 v13 r16 v14 w15 r17 v16 v17 r18 r19 r20 r21 r22 r23 v18 r24 r25 r26 v19 h1 g0 f20)) [0, 1] rfl
      have hDc := hD.sub (ws' := (wd_5013416a h0 v0 r0 v1 v2 v3 v4 r1 r2 r3 r4 r5 r6 r7 v5 v6 r8 r9 r10 r11 v7 r12 r13 v8 v9 h1 r14 v10 v11 r15 v12 v13 r16 v14 w15 r17 v16 v17 r18 r19 r20 r21 r22 r23 v18 r24 r25 r26 v19 h1 g0 f20)) [0, 1] (by decide) rfl
      have hKc := hK.sub (tys' := [(g0, .int)]) [0] rfl
      have hFc := va_free (wc := (wd_5013416a h0 v0 r0 v1 v2 v3 v4 r1 r2 r3 r4 r5 r6 r7 v5 v6 r8 r9 r10 r11 v7 r12 r13 v8 v9 h1 r14 v10 v11 r15 v12 v13 r16 v14 w15 r17 v16 v17 r18 r19 r20 r21 r22 r23 v18 r24 r25 r26 v19 h1 g0 f20)) hD hS hA [0, 1] rfl
      refine va_calli (va_runV (As := []) (rest := [.int t6]) ⟨hx, hb, hml, hown, hts⟩ (k_X12_sizeAll l dC dI h0 h1 v0 r0 v1 v2 v3 v4 r1 r2 r3 r4 r5 r6 r7 v5 v6 r8 r9 r10 r11 v7 r12 r13 v8 v9 r14 v10 v11 r15 v12 v13 r16 v14 w15 r17 v16 v17 r18 r19 r20 r21 r22 r23 v18 r24 r25 r26 v19 g0 f20 ⟨i_v1a, i_v1b⟩ ⟨i_v5a, i_v5b⟩ ⟨i_v6a, i_v6b⟩ ⟨i_v7a, i_v7b⟩ ⟨i_v8a, i_v8b⟩ ⟨i_v9a, i_v9b⟩ ⟨i_v10a, i_v10b⟩ ⟨i_v14a, i_v14b⟩ ⟨i_v18a, i_v18b⟩ ⟨i_v19a, i_v19b⟩ ia_f20 H.size) (cwV 0 hts g_X12_shares_3 rfl rfl rfl (by decide +kernel) ⟨Nat.le_of_ble_eq_true rfl, Nat.le_of_ble_eq_true rfl⟩) (pv_PV12 hPc hKc hDc (q0 := 0) rfl) rfl rfl hl.1 rfl (lv_room (Nat.le_of_ble_eq_true rfl)) dX12_shares_28 ⟨Nat.le_of_ble_eq_true rfl, Nat.le_of_ble_eq_true rfl⟩) hS (fun q _ h => hFc q h) hFc (fun ra7 u t H1 locs ht hvm hwra7 hB hz1 hk1 hS => ?_)
      try rw [hwra7] at hB
      obtain ⟨pt0_ra7, pt1_ra7, pt2_ra7, hP1, hK1, hD1⟩ := hB
      rw [ht] at hP1
      obtain ⟨hP2, hD2⟩ := va_join (wr := []) (w1 := (wd_5013416a h0 v0 r0 v1 v2 v3 v4 r1 r2 r3 r4 r5 r6 r7 v5 v6 r8 r9 r10 r11 v7 r12 r13 v8 v9 h1 r14 v10 v11 r15 v12 v13 r16 v14 w15 r17 v16 v17 r18 r19 r20 r21 r22 r23 v18 r24 r25 r26 v19 h1 g0 f20)) hP hD [0, 1] [] rfl rfl (by decide) (by decide) hk1 hFc hP1 hD1
      clear hP hD hPc hDc hKc hFc hP1 hK1 hD1 hk1 hz1
      generalize H1 = H at hP2 hS ⊢
      have hP : va_P (dC, dI) vwCl (wd_5013416a h0 v0 r0 v1 v2 v3 v4 r1 r2 r3 r4 r5 r6 r7 v5 v6 r8 r9 r10 r11 v7 r12 r13 v8 v9 h1 r14 v10 v11 r15 v12 v13 r16 v14 w15 r17 v16 v17 r18 r19 r20 r21 r22 r23 v18 r24 r25 r26 v19 h1 g0 f20) H := hP2
      have hD : va_D A (wd_5013416a h0 v0 r0 v1 v2 v3 v4 r1 r2 r3 r4 r5 r6 r7 v5 v6 r8 r9 r10 r11 v7 r12 r13 v8 v9 h1 r14 v10 v11 r15 v12 v13 r16 v14 w15 r17 v16 v17 r18 r19 r20 r21 r22 r23 v18 r24 r25 r26 v19 h1 g0 f20) := hD2
      clear hP2 hD2
      have hpra7 : 1 ≤ ra7.toInt := pm_SA.pos pt2_ra7 (Nat.le_refl _) (b := v21) (by omega) (by omega) ia_f20 (by assumption)
      refine lv_idiv hx hb dX12_shares_31 (fun h9 => by have h8 : ra7.toInt = 0 := congrArg Int32.toInt h9; omega) ?_
      refine lv_topi (fun t8 et8 => ?_)
      refine lv_goto (tgt := 36) hx hb dX12_shares_32 (by decide) ?_
      subst hQ
      have hP9 := hP.sub (ws' := (wd_5013416a h0 v0 r0 v1 v2 v3 v4 r1 r2 r3 r4 r5 r6 r7 v5 v6 r8 r9 r10 r11 v7 r12 r13 v8 v9 h1 r14 v10 v11 r15 v12 v13 r16 v14 w15 r17 v16 v17 r18 r19 r20 r21 r22 r23 v18 r24 r25 r26 v19 h1 g0 f20)) [0, 1] rfl
      have hD9 := hD.sub (ws' := (wd_5013416a h0 v0 r0 v1 v2 v3 v4 r1 r2 r3 r4 r5 r6 r7 v5 v6 r8 r9 r10 r11 v7 r12 r13 v8 v9 h1 r14 v10 v11 r15 v12 v13 r16 v14 w15 r17 v16 v17 r18 r19 r20 r21 r22 r23 v18 r24 r25 r26 v19 h1 g0 f20)) [0, 1] (by decide) rfl
      have hK9 := hK.sub (tys' := []) [] rfl
      exact W.iret (v := t8) hx hb hr (fun t ht hW => ⟨⟨t8, t8, rfl, rfl, ⟨by rw [ht]; exact hP9, va_K.moved hW.alike hK9, hD9⟩⟩, hS.F ht⟩) hS.2.2 dX12_shares_36
def q_X12_in_9 : List Cond := .code yX12_in cX12_in 3 (some .boolean) :: (([] : List Cond))
set_option maxHeartbeats 4000000 in
set_option maxRecDepth 100000 in
theorem k_X12_in_9 (l : Launch) (dC : Nat → ClassId) (dI : Nat → Nat → Nat) (v0 : Int32) (sz : Nat) : Met l yX12_in q_X12_in_9 ({ frames := 0, cells := 0, slots := 0, locals := 0 }) (va_Pc [.int v0, .int 0, .int 2] (fun U => U.heap.size = sz ∧ va_P (dC, dI) vwCl [] U.heap ∧ va_K (dC, dI) vwCl [] U ∧ va_D (fun _ => True) [])) (va_Qi (fun (r : Int32) (r9 : Int32) => r9 = r) (fun (r : Int32) (t : State) => ((0 ≤ r.toInt) ∧ (r.toInt ≤ 1) ∧ ((r.toInt = 1 → 0 ≤ v0.toInt)) ∧ ((r.toInt = 1 → v0.toInt ≤ 2)) ∧ (r.toInt = 0 → ¬ (0 ≤ v0.toInt ∧ v0.toInt ≤ 2)) ∧ va_P (dC, dI) vwCl [] t.heap ∧ va_K (dC, dI) vwCl [] t ∧ va_D (va_A [] sz) [])) (va_A [] sz)) 0 0 (va_A [] sz) := by
  refine Met.ofW (cc := cX12_in) (maxL := 3) (ret := (some .boolean)) (by decide) rfl ?_
  intro p e s m args below meth c s₁ B hml hv
  obtain ⟨rfl, hsz, hP, hK, hD0⟩ := hv
  have hx := B.exec
  have hb := B.bytes
  have hr := B.returns
  have hts := atoms_spec (ws := q_X12_in_9) B.pre
  have hown : s.vm.findClass RX12 = some m.cls := findClass_of_methodNamed B.named
  have hlocks := B.notSynchronized
  subst hsz
  have hD := hD0.self (sz := s.heap.size)
  generalize hAe : va_A [] s.heap.size = A at hD ⊢
  have hA : ∀ q : Nat, s.heap.size ≤ q → A q := fun q h => by rw [← hAe]; exact Or.inr h
  have hS : va_S A s.heap s.heap [] := va_S.rf
  generalize hQ : (MQ below _ _ s 0 0 A) = Q
  have hl := lv_entry ([.int v0, .int 0, .int 2]) (n := 3) (Nat.le_of_ble_eq_true rfl)
  rw [lg_entry_eq]
  generalize (lg_sl ([.int v0, .int 0, .int 2]) ++ List.replicate (3 - (lg_sl ([.int v0, .int 0, .int 2])).length) Slot.unset).toArray = ls at hl ⊢
  have hl : lv_has ls 3 [(0, .int v0), (1, .int 0), (2, .int 2)] := hl
  obtain ⟨H, hH⟩ : ∃ H : Heap, H = s.heap := ⟨_, rfl⟩
  obtain ⟨locs, hlocs⟩ : ∃ y : List Loc, y = [] := ⟨_, rfl⟩
  have hS : va_S A s.heap H locs := by rw [hH, hlocs]; exact va_S.rf
  have hP : va_P (dC, dI) vwCl [] H := by rw [hH]; exact hP
  rw [← hH, ← hlocs]
  refine lv_iload_n hx hb dX12_in_0 rfl (lv_at hl 0 rfl) ?_
  refine lv_iload_n hx hb dX12_in_1 rfl (lv_at hl 1 rfl) ?_
  refine lv_icmp_lt (tgt := 14) hx hb dX12_in_2 (by decide) (fun c1 => ?_) (fun c1 => ?_)
  · skip
    have fc1 : v0.toInt < 0 := Int32.lt_iff_toInt_lt.mp c1
    refine lv_iconst (v := 0) hx hb dX12_in_14 (by decide) ?_
    subst hQ
    have hP9 := hP.sub (ws' := []) [] rfl
    have hD9 := hD.sub (ws' := []) [] (by decide) rfl
    have hK9 := hK.sub (tys' := []) [] rfl
    exact W.zret (v := 0) hx hb hr rfl (fun t ht hW => ⟨⟨0, 0, rfl, rfl, ⟨by first | omega | decide, by first | omega | decide, fun h9 => absurd h9 (by decide), fun h9 => absurd h9 (by decide), fun _ => by omega, by rw [ht]; exact hP9, va_K.moved hW.alike hK9, hD9⟩⟩, hS.F ht⟩) hS.2.2 dX12_in_15
  · skip
    have fc1 : ¬ (v0.toInt < 0) := fun h9 => c1 (Int32.lt_iff_toInt_lt.mpr h9)
    refine lv_iload_n hx hb dX12_in_5 rfl (lv_at hl 0 rfl) ?_
    refine lv_iload_n hx hb dX12_in_6 rfl (lv_at hl 2 rfl) ?_
    refine lv_icmp_gt (tgt := 14) hx hb dX12_in_7 (by decide) (fun c2 => ?_) (fun c2 => ?_)
    · skip
      have fc2 : 2 < v0.toInt := Int32.lt_iff_toInt_lt.mp c2
      refine lv_iconst (v := 0) hx hb dX12_in_14 (by decide) ?_
      subst hQ
      have hP9 := hP.sub (ws' := []) [] rfl
      have hD9 := hD.sub (ws' := []) [] (by decide) rfl
      have hK9 := hK.sub (tys' := []) [] rfl
      exact W.zret (v := 0) hx hb hr rfl (fun t ht hW => ⟨⟨0, 0, rfl, rfl, ⟨by first | omega | decide, by first | omega | decide, fun h9 => absurd h9 (by decide), fun h9 => absurd h9 (by decide), fun _ => by omega, by rw [ht]; exact hP9, va_K.moved hW.alike hK9, hD9⟩⟩, hS.F ht⟩) hS.2.2 dX12_in_15
    · skip
      have fc2 : ¬ (2 < v0.toInt) := fun h9 => c2 (Int32.lt_iff_toInt_lt.mpr h9)
      refine lv_iconst (v := 1) hx hb dX12_in_10 (by decide) ?_
      refine lv_goto (tgt := 15) hx hb dX12_in_11 (by decide) ?_
      subst hQ
      have hP9 := hP.sub (ws' := []) [] rfl
      have hD9 := hD.sub (ws' := []) [] (by decide) rfl
      have hK9 := hK.sub (tys' := []) [] rfl
      exact W.zret (v := 1) hx hb hr rfl (fun t ht hW => ⟨⟨1, 1, rfl, rfl, ⟨by first | omega | decide, by first | omega | decide, fun _ => by omega, fun _ => by omega, fun h9 => absurd h9 (by decide), by rw [ht]; exact hP9, va_K.moved hW.alike hK9, hD9⟩⟩, hS.F ht⟩) hS.2.2 dX12_in_15
def q_X12_log : List Cond := .code yX12_log cX12_log 3 (some .int) :: (([.fieldLink RX12 52 "LeftArgumentsModel" "now" "[I", .code yX12_in cX12_in 3 (some .boolean), .initialized RX12, .static yX12_in, .methodLink RX12 217 yX12_in] : List Cond) ++ wsX120)
set_option maxRecDepth 20000 in
theorem g_X12_log_0 : GoodIn q_X12_log (va_wsS RX12 217 yX12_in q_X12_in_1) := goodIn_app (goodIn_r _ [5, 4, 3] rfl (by decide +kernel)) (goodIn_r (.code yX12_in cX12_in 3 (some .boolean) :: []) [2] rfl (by decide +kernel))
set_option maxRecDepth 20000 in
theorem g_X12_log_1 : GoodIn q_X12_log (va_wsS RX12 217 yX12_in q_X12_in_9) := goodIn_app (goodIn_r _ [5, 4, 3] rfl (by decide +kernel)) (goodIn_r (.code yX12_in cX12_in 3 (some .boolean) :: []) [2] rfl (by decide +kernel))
set_option maxHeartbeats 4000000 in
set_option maxRecDepth 100000 in
theorem k_X12_log (l : Launch) (dC : Nat → ClassId) (dI : Nat → Nat → Nat) (h0 : Nat) (h1 : Nat) (v0 : Int32) (r0 : Nat) (v1 : Int32) (v2 : Int32) (v3 : Int32) (v4 : Int32) (r1 : Nat) (r2 : Nat) (r3 : Nat) (r4 : Nat) (r5 : Nat) (r6 : Nat) (r7 : Nat) (v5 : Int32) (v6 : Int32) (r8 : Nat) (r9 : Nat) (r10 : Nat) (r11 : Nat) (v7 : Int32) (r12 : Nat) (r13 : Nat) (v8 : Int32) (v9 : Int32) (r14 : Nat) (v10 : Int32) (v11 : Int32) (r15 : Nat) (v12 : Int32) (v13 : Int32) (r16 : Nat) (v14 : Int32) (w15 : Int64) (r17 : Nat) (v16 : Int32) (v17 : Int32) (r18 : Nat) (r19 : Nat) (r20 : Nat) (r21 : Nat) (r22 : Nat) (r23 : Nat) (v18 : Int32) (r24 : Nat) (r25 : Nat) (r26 : Nat) (v19 : Int32) (g0 : ClassId) (f20 : Nat → Int32) (v21 : Int32) (v22 : Int32) (i_v1 : 0 ≤ v1.toInt ∧ v1.toInt ≤ 240) (i_v5 : 0 ≤ v5.toInt ∧ v5.toInt ≤ 4) (i_v6 : 0 ≤ v6.toInt ∧ v6.toInt ≤ 4) (i_v7 : 0 ≤ v7.toInt ∧ v7.toInt ≤ 8) (i_v8 : 0 ≤ v8.toInt ∧ v8.toInt ≤ 8) (i_v9 : 0 ≤ v9.toInt ∧ v9.toInt ≤ 1) (i_v10 : -1 ≤ v10.toInt ∧ v10.toInt ≤ 3) (i_v14 : 0 ≤ v14.toInt ∧ v14.toInt ≤ 40) (i_v18 : 0 ≤ v18.toInt ∧ v18.toInt ≤ 10) (i_v19 : 0 ≤ v19.toInt ∧ v19.toInt ≤ 1) (ia_f20 : (pm_NW f20)) (sz : Nat) : Met l yX12_log q_X12_log ({ frames := 1, cells := 0, slots := 0, locals := 22 }) (va_Pc [.ref h0, .int v21, .int v22] (fun U => U.heap.size = sz ∧ va_P (dC, dI) vwCl (wd_5013416a h0 v0 r0 v1 v2 v3 v4 r1 r2 r3 r4 r5 r6 r7 v5 v6 r8 r9 r10 r11 v7 r12 r13 v8 v9 h1 r14 v10 v11 r15 v12 v13 r16 v14 w15 r17 v16 v17 r18 r19 r20 r21 r22 r23 v18 r24 r25 r26 v19 h1 g0 f20) U.heap ∧ va_K (dC, dI) vwCl [(g0, .int)] U ∧ va_D (fun _ => True) (wd_5013416a h0 v0 r0 v1 v2 v3 v4 r1 r2 r3 r4 r5 r6 r7 v5 v6 r8 r9 r10 r11 v7 r12 r13 v8 v9 h1 r14 v10 v11 r15 v12 v13 r16 v14 w15 r17 v16 v17 r18 r19 r20 r21 r22 r23 v18 r24 r25 r26 v19 h1 g0 f20))) (va_Qi (fun (r : Int32) (r9 : Int32) => r9 = r) (fun (r : Int32) (t : State) => (va_P (dC, dI) vwCl (wd_5013416a h0 v0 r0 v1 v2 v3 v4 r1 r2 r3 r4 r5 r6 r7 v5 v6 r8 r9 r10 r11 v7 r12 r13 v8 v9 h1 r14 v10 v11 r15 v12 v13 r16 v14 w15 r17 v16 v17 r18 r19 r20 r21 r22 r23 v18 r24 r25 r26 v19 h1 g0 f20) t.heap ∧ va_K (dC, dI) vwCl [] t ∧ va_D (va_A (wd_5013416a h0 v0 r0 v1 v2 v3 v4 r1 r2 r3 r4 r5 r6 r7 v5 v6 r8 r9 r10 r11 v7 r12 r13 v8 v9 h1 r14 v10 v11 r15 v12 v13 r16 v14 w15 r17 v16 v17 r18 r19 r20 r21 r22 r23 v18 r24 r25 r26 v19 h1 g0 f20) sz) (wd_5013416a h0 v0 r0 v1 v2 v3 v4 r1 r2 r3 r4 r5 r6 r7 v5 v6 r8 r9 r10 r11 v7 r12 r13 v8 v9 h1 r14 v10 v11 r15 v12 v13 r16 v14 w15 r17 v16 v17 r18 r19 r20 r21 r22 r23 v18 r24 r25 r26 v19 h1 g0 f20))) (va_A (wd_5013416a h0 v0 r0 v1 v2 v3 v4 r1 r2 r3 r4 r5 r6 r7 v5 v6 r8 r9 r10 r11 v7 r12 r13 v8 v9 h1 r14 v10 v11 r15 v12 v13 r16 v14 w15 r17 v16 v17 r18 r19 r20 r21 r22 r23 v18 r24 r25 r26 v19 h1 g0 f20) sz)) 0 0 (va_A (wd_5013416a h0 v0 r0 v1 v2 v3 v4 r1 r2 r3 r4 r5 r6 r7 v5 v6 r8 r9 r10 r11 v7 r12 r13 v8 v9 h1 r14 v10 v11 r15 v12 v13 r16 v14 w15 r17 v16 v17 r18 r19 r20 r21 r22 r23 v18 r24 r25 r26 v19 h1 g0 f20) sz) := by
  refine Met.ofW (cc := cX12_log) (maxL := 3) (ret := (some .int)) (by decide) rfl ?_
  intro p e s m args below meth c s₁ B hml hv
  obtain ⟨i_v1a, i_v1b⟩ := i_v1
  obtain ⟨i_v5a, i_v5b⟩ := i_v5
  obtain ⟨i_v6a, i_v6b⟩ := i_v6
  obtain ⟨i_v7a, i_v7b⟩ := i_v7
  obtain ⟨i_v8a, i_v8b⟩ := i_v8
  obtain ⟨i_v9a, i_v9b⟩ := i_v9
  obtain ⟨i_v10a, i_v10b⟩ := i_v10
  obtain ⟨i_v14a, i_v14b⟩ := i_v14
  obtain ⟨i_v18a, i_v18b⟩ := i_v18
  obtain ⟨i_v19a, i_v19b⟩ := i_v19
  obtain ⟨rfl, hsz, hP, hK, hD0⟩ := hv
  have hx := B.exec
  have hb := B.bytes
  have hr := B.returns
  have hts := atoms_spec (ws := q_X12_log) B.pre
  have hown : s.vm.findClass RX12 = some m.cls := findClass_of_methodNamed B.named
  have hlocks := B.notSynchronized
  subst hsz
  have hD := hD0.self (sz := s.heap.size)
  generalize hAe : va_A (wd_5013416a h0 v0 r0 v1 v2 v3 v4 r1 r2 r3 r4 r5 r6 r7 v5 v6 r8 r9 r10 r11 v7 r12 r13 v8 v9 h1 r14 v10 v11 r15 v12 v13 r16 v14 w15 r17 v16 v17 r18 r19 r20 r21 r22 r23 v18 r24 r25 r26 v19 h1 g0 f20) s.heap.size = A at hD ⊢
  have hA : ∀ q : Nat, s.heap.size ≤ q → A q := fun q h => by rw [← hAe]; exact Or.inr h
  have hS : va_S A s.heap s.heap [] := va_S.rf
  generalize hQ : (MQ below _ _ s 0 0 A) = Q
  have hl := lv_entry ([.ref h0, .int v21, .int v22]) (n := 3) (Nat.le_of_ble_eq_true rfl)
  rw [lg_entry_eq]
  generalize (lg_sl ([.ref h0, .int v21, .int v22]) ++ List.replicate (3 - (lg_sl ([.ref h0, .int v21, .int v22])).length) Slot.unset).toArray = ls at hl ⊢
  have hl : lv_has ls 3 [(0, .ref h0), (1, .int v21), (2, .int v22)] := hl
  obtain ⟨H, hH⟩ : ∃ H : Heap, H = s.heap := ⟨_, rfl⟩
  obtain ⟨locs, hlocs⟩ : ∃ y : List Loc, y = [] := ⟨_, rfl⟩
  have hS : va_S A s.heap H locs := by rw [hH, hlocs]; exact va_S.rf
  have hP : va_P (dC, dI) vwCl (wd_5013416a h0 v0 r0 v1 v2 v3 v4 r1 r2 r3 r4 r5 r6 r7 v5 v6 r8 r9 r10 r11 v7 r12 r13 v8 v9 h1 r14 v10 v11 r15 v12 v13 r16 v14 w15 r17 v16 v17 r18 r19 r20 r21 r22 r23 v18 r24 r25 r26 v19 h1 g0 f20) H := by rw [hH]; exact hP
  rw [← hH, ← hlocs]
  refine lv_iload_n hx hb dX12_log_0 rfl (lv_at hl 1 rfl) ?_
  refine lv_iconst (v := 0) hx hb dX12_log_1 (by decide) ?_
  refine lv_aload_n hx hb dX12_log_2 rfl (lv_at hl 0 rfl) ?_
  refine va_get (D := (dC, dI)) (ci := 12) (v := .ref h1) (C := RX12) (T := TX12) (N := 48) hx hb hts (fun _ h => List.mem_cons_of_mem _ (List.mem_append_right _ h)) hown hK hP 0 rfl rfl 24 (by decide) (hts (.fieldLink RX12 52 "LeftArgumentsModel" "now" "[I") (List.mem_cons_of_mem _ (List.mem_append_left _ (List.mem_of_getElem? (i := 0) rfl)))) (fun _ h9 => h9) rfl dX12_log_3 ?_
  refine lv_bipush (v := 66) hx hb dX12_log_6 (by decide) ?_
  refine va_iald hx hb hK hP 1 0 rfl rfl (pv_c (x := 66) (n := 247) (by decide)) dX12_log_8 ?_
  refine lv_topi (fun t1 et1 => ?_)
  have gat1 : 0 ≤ t1.toInt ∧ t1.toInt ≤ 60 := by rw [et1]; exact (ia_f20.1).lg (by decide)
  have mmt1 : f20 (Int32.toNatClampNeg 66) = t1 := et1.symm
  refine lv_iconst (v := 1) hx hb dX12_log_9 (by decide) ?_
  refine lv_isub hx hb dX12_log_10 ?_
  refine lv_topi (fun t2 et2 => ?_)
  have gt2 : t2.toInt = t1.toInt - 1 := pv_sub (a := t1.toInt) (b := 1) et2 rfl (by decide) (by omega) (by omega)
  have hPc := hP.sub (ws' := []) [] rfl
  have hDc := hD.sub (ws' := []) [] (by decide) rfl
  have hKc := hK.sub (tys' := []) [] rfl
  have hFc := va_free (wc := []) hD hS hA [] rfl
  refine va_calli (va_runS (As := [.int v21, .int 0, .int t2]) (rest := []) ⟨hx, hb, hml, hown, hts⟩ (k_X12_in_1 l dC dI v21 t2  H.size) (va_cwS 3 hts g_X12_log_0 rfl rfl rfl (by decide +kernel) ⟨Nat.le_of_ble_eq_true rfl, Nat.le_of_ble_eq_true rfl⟩) (pv_PS hPc hKc hDc) rfl rfl hl.1 rfl (lv_room (Nat.le_of_ble_eq_true rfl)) dX12_log_11 ⟨Nat.le_of_ble_eq_true rfl, Nat.le_of_ble_eq_true rfl⟩) hS (fun q _ h => hFc q h) hFc (fun ra3 u t H1 locs ht hvm hwra3 hB hz1 hk1 hS => ?_)
  try rw [hwra3] at hB
  obtain ⟨pt0_ra3, pt1_ra3, pt2_ra3, pt3_ra3, pt4_ra3, hP1, hK1, hD1⟩ := hB
  rw [ht] at hP1
  obtain ⟨hP2, hD2⟩ := va_join (wr := (wd_5013416a h0 v0 r0 v1 v2 v3 v4 r1 r2 r3 r4 r5 r6 r7 v5 v6 r8 r9 r10 r11 v7 r12 r13 v8 v9 h1 r14 v10 v11 r15 v12 v13 r16 v14 w15 r17 v16 v17 r18 r19 r20 r21 r22 r23 v18 r24 r25 r26 v19 h1 g0 f20)) (w1 := []) hP hD [] [0, 1] rfl rfl (by decide) (by decide) hk1 hFc hP1 hD1
  clear hP hD hPc hDc hKc hFc hP1 hK1 hD1 hk1 hz1
  generalize H1 = H at hP2 hS ⊢
  have hP : va_P (dC, dI) vwCl (wd_5013416a h0 v0 r0 v1 v2 v3 v4 r1 r2 r3 r4 r5 r6 r7 v5 v6 r8 r9 r10 r11 v7 r12 r13 v8 v9 h1 r14 v10 v11 r15 v12 v13 r16 v14 w15 r17 v16 v17 r18 r19 r20 r21 r22 r23 v18 r24 r25 r26 v19 h1 g0 f20) H := hP2
  have hD : va_D A (wd_5013416a h0 v0 r0 v1 v2 v3 v4 r1 r2 r3 r4 r5 r6 r7 v5 v6 r8 r9 r10 r11 v7 r12 r13 v8 v9 h1 r14 v10 v11 r15 v12 v13 r16 v14 w15 r17 v16 v17 r18 r19 r20 r21 r22 r23 v18 r24 r25 r26 v19 h1 g0 f20) := hD2
  clear hP2 hD2
  refine lv_if_eq (tgt := 52) hx hb dX12_log_14 (by decide) (fun c4 => ?_) (fun c4 => ?_)
  · skip
    have fc4 : ra3.toInt = 0 := congrArg Int32.toInt c4
    refine lv_iconst (v := (-1)) hx hb dX12_log_52 (by decide) ?_
    subst hQ
    have hP9 := hP.sub (ws' := (wd_5013416a h0 v0 r0 v1 v2 v3 v4 r1 r2 r3 r4 r5 r6 r7 v5 v6 r8 r9 r10 r11 v7 r12 r13 v8 v9 h1 r14 v10 v11 r15 v12 v13 r16 v14 w15 r17 v16 v17 r18 r19 r20 r21 r22 r23 v18 r24 r25 r26 v19 h1 g0 f20)) [0, 1] rfl
    have hD9 := hD.sub (ws' := (wd_5013416a h0 v0 r0 v1 v2 v3 v4 r1 r2 r3 r4 r5 r6 r7 v5 v6 r8 r9 r10 r11 v7 r12 r13 v8 v9 h1 r14 v10 v11 r15 v12 v13 r16 v14 w15 r17 v16 v17 r18 r19 r20 r21 r22 r23 v18 r24 r25 r26 v19 h1 g0 f20)) [0, 1] (by decide) rfl
    have hK9 := hK.sub (tys' := []) [] rfl
    exact W.iret (v := (-1)) hx hb hr (fun t ht hW => ⟨⟨(-1), (-1), rfl, rfl, ⟨by rw [ht]; exact hP9, va_K.moved hW.alike hK9, hD9⟩⟩, hS.F ht⟩) hS.2.2 dX12_log_53
  · skip
    have fc4 : ¬ (ra3.toInt = 0) := fun h9 => c4 (Int32.toInt_inj.mp h9)
    refine lv_iload_n hx hb dX12_log_17 rfl (lv_at hl 2 rfl) ?_
    refine lv_iconst (v := 0) hx hb dX12_log_18 (by decide) ?_
    refine lv_iconst (v := 2) hx hb dX12_log_19 (by decide) ?_
    have hPc := hP.sub (ws' := []) [] rfl
    have hDc := hD.sub (ws' := []) [] (by decide) rfl
    have hKc := hK.sub (tys' := []) [] rfl
    have hFc := va_free (wc := []) hD hS hA [] rfl
    refine va_calli (va_runS (As := [.int v22, .int 0, .int 2]) (rest := []) ⟨hx, hb, hml, hown, hts⟩ (k_X12_in_9 l dC dI v22  H.size) (va_cwS 3 hts g_X12_log_1 rfl rfl rfl (by decide +kernel) ⟨Nat.le_of_ble_eq_true rfl, Nat.le_of_ble_eq_true rfl⟩) (pv_PS hPc hKc hDc) rfl rfl hl.1 rfl (lv_room (Nat.le_of_ble_eq_true rfl)) dX12_log_20 ⟨Nat.le_of_ble_eq_true rfl, Nat.le_of_ble_eq_true rfl⟩) hS (fun q _ h => hFc q h) hFc (fun ra5 u t H1 locs ht hvm hwra5 hB hz1 hk1 hS => ?_)
    try rw [hwra5] at hB
    obtain ⟨pt0_ra5, pt1_ra5, pt2_ra5, pt3_ra5, pt4_ra5, hP1, hK1, hD1⟩ := hB
    rw [ht] at hP1
    obtain ⟨hP2, hD2⟩ := va_join (wr := (wd_5013416a h0 v0 r0 v1 v2 v3 v4 r1 r2 r3 r4 r5 r6 r7 v5 v6 r8 r9 r10 r11 v7 r12 r13 v8 v9 h1 r14 v10 v11 r15 v12 v13 r16 v14 w15 r17 v16 v17 r18 r19 r20 r21 r22 r23 v18 r24 r25 r26 v19 h1 g0 f20)) (w1 := []) hP hD [] [0, 1] rfl rfl (by decide) (by decide) hk1 hFc hP1 hD1
    clear hP hD hPc hDc hKc hFc hP1 hK1 hD1 hk1 hz1
    generalize H1 = H at hP2 hS ⊢
    have hP : va_P (dC, dI) vwCl (wd_5013416a h0 v0 r0 v1 v2 v3 v4 r1 r2 r3 r4 r5 r6 r7 v5 v6 r8 r9 r10 r11 v7 r12 r13 v8 v9 h1 r14 v10 v11 r15 v12 v13 r16 v14 w15 r17 v16 v17 r18 r19 r20 r21 r22 r23 v18 r24 r25 r26 v19 h1 g0 f20) H := hP2
    have hD : va_D A (wd_5013416a h0 v0 r0 v1 v2 v3 v4 r1 r2 r3 r4 r5 r6 r7 v5 v6 r8 r9 r10 r11 v7 r12 r13 v8 v9 h1 r14 v10 v11 r15 v12 v13 r16 v14 w15 r17 v16 v17 r18 r19 r20 r21 r22 r23 v18 r24 r25 r26 v19 h1 g0 f20) := hD2
    clear hP2 hD2
    refine lv_if_eq (tgt := 52) hx hb dX12_log_23 (by decide) (fun c6 => ?_) (fun c6 => ?_)
    · skip
      have fc6 : ra5.toInt = 0 := congrArg Int32.toInt c6
      refine lv_iconst (v := (-1)) hx hb dX12_log_52 (by decide) ?_
      subst hQ
      have hP9 := hP.sub (ws' := (wd_5013416a h0 v0 r0 v1 v2 v3 v4 r1 r2 r3 r4 r5 r6 r7 v5 v6 r8 r9 r10 r11 v7 r12 r13 v8 v9 h1 r14 v10 v11 r15 v12 v13 r16 v14 w15 r17 v16 v17 r18 r19 r20 r21 r22 r23 v18 r24 r25 r26 v19 h1 g0 f20)) [0, 1] rfl
      have hD9 := hD.sub (ws' := (wd_5013416a h0 v0 r0 v1 v2 v3 v4 r1 r2 r3 r4 r5 r6 r7 v5 v6 r8 r9 r10 r11 v7 r12 r13 v8 v9 h1 r14 v10 v11 r15 v12 v13 r16 v14 w15 r17 v16 v17 r18 r19 r20 r21 r22 r23 v18 r24 r25 r26 v19 h1 g0 f20)) [0, 1] (by decide) rfl
      have hK9 := hK.sub (tys' := []) [] rfl
      exact W.iret (v := (-1)) hx hb hr (fun t ht hW => ⟨⟨(-1), (-1), rfl, rfl, ⟨by rw [ht]; exact hP9, va_K.moved hW.alike hK9, hD9⟩⟩, hS.F ht⟩) hS.2.2 dX12_log_53
    · skip
      have fc6 : ¬ (ra5.toInt = 0) := fun h9 => c6 (Int32.toInt_inj.mp h9)
      refine lv_aload_n hx hb dX12_log_26 rfl (lv_at hl 0 rfl) ?_
      refine va_get (D := (dC, dI)) (ci := 12) (v := .ref h1) (C := RX12) (T := TX12) (N := 48) hx hb hts (fun _ h => List.mem_cons_of_mem _ (List.mem_append_right _ h)) hown hK hP 0 rfl rfl 24 (by decide) (hts (.fieldLink RX12 52 "LeftArgumentsModel" "now" "[I") (List.mem_cons_of_mem _ (List.mem_append_left _ (List.mem_of_getElem? (i := 0) rfl)))) (fun _ h9 => h9) rfl dX12_log_27 ?_
      refine lv_bipush (v := 67) hx hb dX12_log_30 (by decide) ?_
      refine lv_iconst (v := 3) hx hb dX12_log_32 (by decide) ?_
      refine lv_aload_n hx hb dX12_log_33 rfl (lv_at hl 0 rfl) ?_
      refine va_get (D := (dC, dI)) (ci := 12) (v := .ref h1) (C := RX12) (T := TX12) (N := 48) hx hb hts (fun _ h => List.mem_cons_of_mem _ (List.mem_append_right _ h)) hown hK hP 0 rfl rfl 24 (by decide) (hts (.fieldLink RX12 52 "LeftArgumentsModel" "now" "[I") (List.mem_cons_of_mem _ (List.mem_append_left _ (List.mem_of_getElem? (i := 0) rfl)))) (fun _ h9 => h9) rfl dX12_log_34 ?_
      refine lv_bipush (v := 66) hx hb dX12_log_37 (by decide) ?_
      refine va_iald hx hb hK hP 1 0 rfl rfl (pv_c (x := 66) (n := 247) (by decide)) dX12_log_39 ?_
      refine lv_topi (fun t7 et7 => ?_)
      have gat7 : 0 ≤ t7.toInt ∧ t7.toInt ≤ 60 := by rw [et7]; exact (ia_f20.1).lg (by decide)
      have gmt7 : t7.toInt = t1.toInt := by rw [et7, mmt1]
      refine lv_iconst (v := 1) hx hb dX12_log_40 (by decide) ?_
      refine lv_isub hx hb dX12_log_41 ?_
      refine lv_topi (fun t8 et8 => ?_)
      have gt8 : t8.toInt = t7.toInt - 1 := pv_sub (a := t7.toInt) (b := 1) et8 rfl (by decide) (by omega) (by omega)
      refine lv_iload_n hx hb dX12_log_42 rfl (lv_at hl 1 rfl) ?_
      refine lv_isub hx hb dX12_log_43 ?_
      refine lv_topi (fun t9 et9 => ?_)
      have gt9 : t9.toInt = t8.toInt - v21.toInt := pv_sub (a := t8.toInt) (b := v21.toInt) et9 rfl rfl (by omega) (by omega)
      refine lv_imul hx hb dX12_log_44 ?_
      refine lv_topi (fun t10 et10 => ?_)
      have gt10 : t10.toInt = 3 * t9.toInt := pv_mul (a := 3) (b := t9.toInt) et10 (by decide) rfl (by omega) (by omega)
      refine lv_iadd hx hb dX12_log_45 ?_
      refine lv_topi (fun t11 et11 => ?_)
      have gt11 : t11.toInt = 67 + t10.toInt := pv_add (a := 67) (b := t10.toInt) et11 (by decide) rfl (by omega) (by omega)
      refine lv_iload_n hx hb dX12_log_46 rfl (lv_at hl 2 rfl) ?_
      refine lv_iadd hx hb dX12_log_47 ?_
      refine lv_topi (fun t12 et12 => ?_)
      have gt12 : t12.toInt = t11.toInt + v22.toInt := pv_add (a := t11.toInt) (b := v22.toInt) et12 rfl rfl (by omega) (by omega)
      refine va_iald hx hb hK hP 1 0 rfl rfl (vp_in_iff.mpr ⟨by omega, by omega⟩) dX12_log_48 ?_
      refine lv_topi (fun t13 et13 => ?_)
      refine lv_goto (tgt := 53) hx hb dX12_log_49 (by decide) ?_
      subst hQ
      have hP9 := hP.sub (ws' := (wd_5013416a h0 v0 r0 v1 v2 v3 v4 r1 r2 r3 r4 r5 r6 r7 v5 v6 r8 r9 r10 r11 v7 r12 r13 v8 v9 h1 r14 v10 v11 r15 v12 v13 r16 v14 w15 r17 v16 v17 r18 r19 r20 r21 r22 r23 v18 r24 r25 r26 v19 h1 g0 f20)) [0, 1] rfl
      have hD9 := hD.sub (ws' := (wd_5013416a h0 v0 r0 v1 v2 v3 v4 r1 r2 r3 r4 r5 r6 r7 v5 v6 r8 r9 r10 r11 v7 r12 r13 v8 v9 h1 r14 v10 v11 r15 v12 v13 r16 v14 w15 r17 v16 v17 r18 r19 r20 r21 r22 r23 v18 r24 r25 r26 v19 h1 g0 f20)) [0, 1] (by decide) rfl
      have hK9 := hK.sub (tys' := []) [] rfl
      exact W.iret (v := t13) hx hb hr (fun t ht hW => ⟨⟨t13, t13, rfl, rfl, ⟨by rw [ht]; exact hP9, va_K.moved hW.alike hK9, hD9⟩⟩, hS.F ht⟩) hS.2.2 dX12_log_53
def q_X12_workOut : List Cond := .code yX12_workOut cX12_workOut 6 (some .int) :: (([.fieldLink RX12 37 "LeftArgumentsModel" "stack" "[I", .fieldLink RX12 13 "LeftArgumentsModel" "code" "[I", .fieldLink RX12 16 "LeftArgumentsModel" "value" "[I", .code yX12_worked cX12_worked 5 (some .int), .code yX12_bounded cX12_bounded 2 (some .int), .constantLong RX12 192 (-1000000), .constantLong RX12 194 (1000000), .methodLink RX12 196 Lib.MathLoose.min_long.x, .static Lib.MathLoose.min_long.x, .initialized "java/lang/Math", .code Lib.MathLoose.min_long.x Lib.MathLoose.min_long.code 4 (some .long), .methodLink RX12 202 Lib.MathLoose.max_long.x, .static Lib.MathLoose.max_long.x, .code Lib.MathLoose.max_long.x Lib.MathLoose.max_long.code 4 (some .long), .initialized RX12, .static yX12_bounded, .methodLink RX12 205 yX12_bounded, .static yX12_worked, .methodLink RX12 209 yX12_worked, .fieldLink RX12 34 "LeftArgumentsModel" "letters" "[I"] : List Cond) ++ wsX120)
set_option maxRecDepth 20000 in
theorem g_X12_workOut_0 : GoodIn q_X12_workOut (va_wsS RX12 209 yX12_worked q_X12_worked) := goodIn_app (goodIn_r _ [19, 18, 15] rfl (by decide +kernel)) (goodIn_r (.code yX12_worked cX12_worked 5 (some .int) :: [.code yX12_bounded cX12_bounded 2 (some .int), .constantLong RX12 192 (-1000000), .constantLong RX12 194 (1000000), .methodLink RX12 196 Lib.MathLoose.min_long.x, .static Lib.MathLoose.min_long.x, .initialized "java/lang/Math", .code Lib.MathLoose.min_long.x Lib.MathLoose.min_long.code 4 (some .long), .methodLink RX12 202 Lib.MathLoose.max_long.x, .static Lib.MathLoose.max_long.x, .code Lib.MathLoose.max_long.x Lib.MathLoose.max_long.code 4 (some .long), .initialized RX12, .static yX12_bounded, .methodLink RX12 205 yX12_bounded]) [4, 5, 6, 7, 8, 9, 10, 11, 12, 13, 14, 15, 16, 17] rfl (by decide +kernel))
set_option maxHeartbeats 4000000 in
set_option maxRecDepth 100000 in
theorem k_X12_workOut (l : Launch) (dC : Nat → ClassId) (dI : Nat → Nat → Nat) (h0 : Nat) (h1 : Nat) (h2 : Nat) (h3 : Nat) (h4 : Nat) (v0 : Int32) (r0 : Nat) (v1 : Int32) (v2 : Int32) (v3 : Int32) (v4 : Int32) (r1 : Nat) (r2 : Nat) (r3 : Nat) (r4 : Nat) (r5 : Nat) (v5 : Int32) (v6 : Int32) (r6 : Nat) (r7 : Nat) (v7 : Int32) (r8 : Nat) (r9 : Nat) (v8 : Int32) (v9 : Int32) (r10 : Nat) (r11 : Nat) (v10 : Int32) (v11 : Int32) (r12 : Nat) (v12 : Int32) (v13 : Int32) (r13 : Nat) (v14 : Int32) (w15 : Int64) (r14 : Nat) (v16 : Int32) (v17 : Int32) (r15 : Nat) (r16 : Nat) (r17 : Nat) (r18 : Nat) (r19 : Nat) (r20 : Nat) (v18 : Int32) (r21 : Nat) (r22 : Nat) (r23 : Nat) (v19 : Int32) (g0 : ClassId) (f20 : Nat → Int32) (g1 : ClassId) (f21 : Nat → Int32) (g2 : ClassId) (f22 : Nat → Int32) (g3 : ClassId) (f23 : Nat → Int32) (v24 : Int32) (v25 : Int32) (v26 : Int32) (i_v1 : 0 ≤ v1.toInt ∧ v1.toInt ≤ 240) (i_v5 : 0 ≤ v5.toInt ∧ v5.toInt ≤ 4) (i_v6 : 0 ≤ v6.toInt ∧ v6.toInt ≤ 4) (i_v7 : 0 ≤ v7.toInt ∧ v7.toInt ≤ 8) (i_v8 : 0 ≤ v8.toInt ∧ v8.toInt ≤ 8) (i_v9 : 0 ≤ v9.toInt ∧ v9.toInt ≤ 1) (i_v10 : -1 ≤ v10.toInt ∧ v10.toInt ≤ 3) (i_v14 : 0 ≤ v14.toInt ∧ v14.toInt ≤ 40) (i_v18 : 0 ≤ v18.toInt ∧ v18.toInt ≤ 10) (i_v19 : 0 ≤ v19.toInt ∧ v19.toInt ≤ 1) (i_v24 : 0 ≤ v24.toInt ∧ v24.toInt ≤ 4) (i_v25 : 0 ≤ v25.toInt ∧ v25.toInt ≤ 519) (i_v26 : 0 ≤ v26.toInt ∧ v26.toInt ≤ 519) (pp0 : pm_Seg f20 f21 v24 v25 v26) (sz : Nat) : Met l yX12_workOut q_X12_workOut ({ frames := 3, cells := 0, slots := 0, locals := 62 }) (va_Pc [.ref h0, .int v24, .int v25, .int v26] (fun U => U.heap.size = sz ∧ va_P (dC, dI) vwCl (wd_ce5ea0ab h0 v0 r0 v1 v2 v3 v4 h1 h2 r1 r2 r3 r4 r5 v5 v6 h3 h4 r6 r7 v7 r8 r9 v8 v9 r10 r11 v10 v11 r12 v12 v13 r13 v14 w15 r14 v16 v17 r15 r16 r17 r18 r19 r20 v18 r21 r22 r23 v19 h1 g0 f20 h2 g1 f21 h3 g2 f22 h4 g3 f23) U.heap ∧ va_K (dC, dI) vwCl [(g0, .int), (g1, .int), (g2, .int), (g3, .int)] U ∧ va_D (fun _ => True) (wd_ce5ea0ab h0 v0 r0 v1 v2 v3 v4 h1 h2 r1 r2 r3 r4 r5 v5 v6 h3 h4 r6 r7 v7 r8 r9 v8 v9 r10 r11 v10 v11 r12 v12 v13 r13 v14 w15 r14 v16 v17 r15 r16 r17 r18 r19 r20 v18 r21 r22 r23 v19 h1 g0 f20 h2 g1 f21 h3 g2 f22 h4 g3 f23))) (va_Qi (fun (r : Int32) (r9 : Int32) => r9 = r) (fun (r : Int32) (t : State) => (∃ (o_h4 : Nat → Int32), va_P (dC, dI) vwCl (wd_ce5ea0ab h0 v0 r0 v1 v2 v3 v4 h1 h2 r1 r2 r3 r4 r5 v5 v6 h3 h4 r6 r7 v7 r8 r9 v8 v9 r10 r11 v10 v11 r12 v12 v13 r13 v14 w15 r14 v16 v17 r15 r16 r17 r18 r19 r20 v18 r21 r22 r23 v19 h1 g0 f20 h2 g1 f21 h3 g2 f22 h4 g3 o_h4) t.heap ∧ va_K (dC, dI) vwCl [] t ∧ va_D (va_A (wd_ce5ea0ab h0 v0 r0 v1 v2 v3 v4 h1 h2 r1 r2 r3 r4 r5 v5 v6 h3 h4 r6 r7 v7 r8 r9 v8 v9 r10 r11 v10 v11 r12 v12 v13 r13 v14 w15 r14 v16 v17 r15 r16 r17 r18 r19 r20 v18 r21 r22 r23 v19 h1 g0 f20 h2 g1 f21 h3 g2 f22 h4 g3 f23) sz) (wd_ce5ea0ab h0 v0 r0 v1 v2 v3 v4 h1 h2 r1 r2 r3 r4 r5 v5 v6 h3 h4 r6 r7 v7 r8 r9 v8 v9 r10 r11 v10 v11 r12 v12 v13 r13 v14 w15 r14 v16 v17 r15 r16 r17 r18 r19 r20 v18 r21 r22 r23 v19 h1 g0 f20 h2 g1 f21 h3 g2 f22 h4 g3 o_h4))) (va_A (wd_ce5ea0ab h0 v0 r0 v1 v2 v3 v4 h1 h2 r1 r2 r3 r4 r5 v5 v6 h3 h4 r6 r7 v7 r8 r9 v8 v9 r10 r11 v10 v11 r12 v12 v13 r13 v14 w15 r14 v16 v17 r15 r16 r17 r18 r19 r20 v18 r21 r22 r23 v19 h1 g0 f20 h2 g1 f21 h3 g2 f22 h4 g3 f23) sz)) 0 0 (va_A (wd_ce5ea0ab h0 v0 r0 v1 v2 v3 v4 h1 h2 r1 r2 r3 r4 r5 v5 v6 h3 h4 r6 r7 v7 r8 r9 v8 v9 r10 r11 v10 v11 r12 v12 v13 r13 v14 w15 r14 v16 v17 r15 r16 r17 r18 r19 r20 v18 r21 r22 r23 v19 h1 g0 f20 h2 g1 f21 h3 g2 f22 h4 g3 f23) sz) := by
  refine Met.ofW (cc := cX12_workOut) (maxL := 6) (ret := (some .int)) (by decide) rfl ?_
  intro p e s m args below meth c s₁ B hml hv
  obtain ⟨i_v1a, i_v1b⟩ := i_v1
  obtain ⟨i_v5a, i_v5b⟩ := i_v5
  obtain ⟨i_v6a, i_v6b⟩ := i_v6
  obtain ⟨i_v7a, i_v7b⟩ := i_v7
  obtain ⟨i_v8a, i_v8b⟩ := i_v8
  obtain ⟨i_v9a, i_v9b⟩ := i_v9
  obtain ⟨i_v10a, i_v10b⟩ := i_v10
  obtain ⟨i_v14a, i_v14b⟩ := i_v14
  obtain ⟨i_v18a, i_v18b⟩ := i_v18
  obtain ⟨i_v19a, i_v19b⟩ := i_v19
  obtain ⟨i_v24a, i_v24b⟩ := i_v24
  obtain ⟨i_v25a, i_v25b⟩ := i_v25
  obtain ⟨i_v26a, i_v26b⟩ := i_v26
  obtain ⟨rfl, hsz, hP, hK, hD0⟩ := hv
  have hx := B.exec
  have hb := B.bytes
  have hr := B.returns
  have hts := atoms_spec (ws := q_X12_workOut) B.pre
  have hown : s.vm.findClass RX12 = some m.cls := findClass_of_methodNamed B.named
  have hlocks := B.notSynchronized
  subst hsz
  have hD := hD0.self (sz := s.heap.size)
  generalize hAe : va_A (wd_ce5ea0ab h0 v0 r0 v1 v2 v3 v4 h1 h2 r1 r2 r3 r4 r5 v5 v6 h3 h4 r6 r7 v7 r8 r9 v8 v9 r10 r11 v10 v11 r12 v12 v13 r13 v14 w15 r14 v16 v17 r15 r16 r17 r18 r19 r20 v18 r21 r22 r23 v19 h1 g0 f20 h2 g1 f21 h3 g2 f22 h4 g3 f23) s.heap.size = A at hD ⊢
  have hA : ∀ q : Nat, s.heap.size ≤ q → A q := fun q h => by rw [← hAe]; exact Or.inr h
  have hS : va_S A s.heap s.heap [] := va_S.rf
  generalize hQ : (MQ below _ _ s 0 0 A) = Q
  have hl := lv_entry ([.ref h0, .int v24, .int v25, .int v26]) (n := 6) (Nat.le_of_ble_eq_true rfl)
  rw [lg_entry_eq]
  generalize (lg_sl ([.ref h0, .int v24, .int v25, .int v26]) ++ List.replicate (6 - (lg_sl ([.ref h0, .int v24, .int v25, .int v26])).length) Slot.unset).toArray = ls at hl ⊢
  have hl : lv_has ls 6 [(0, .ref h0), (1, .int v24), (2, .int v25), (3, .int v26)] := hl
  obtain ⟨H, hH⟩ : ∃ H : Heap, H = s.heap := ⟨_, rfl⟩
  obtain ⟨locs, hlocs⟩ : ∃ y : List Loc, y = [] := ⟨_, rfl⟩
  have hS : va_S A s.heap H locs := by rw [hH, hlocs]; exact va_S.rf
  have hP : va_P (dC, dI) vwCl (wd_ce5ea0ab h0 v0 r0 v1 v2 v3 v4 h1 h2 r1 r2 r3 r4 r5 v5 v6 h3 h4 r6 r7 v7 r8 r9 v8 v9 r10 r11 v10 v11 r12 v12 v13 r13 v14 w15 r14 v16 v17 r15 r16 r17 r18 r19 r20 v18 r21 r22 r23 v19 h1 g0 f20 h2 g1 f21 h3 g2 f22 h4 g3 f23) H := by rw [hH]; exact hP
  rw [← hH, ← hlocs]
  refine lv_iconst (v := 0) hx hb dX12_workOut_0 (by decide) ?_
  refine lv_istore (lv' := [(4, .int 0), (0, .ref h0), (1, .int v24), (2, .int v25), (3, .int v26)]) hx hb dX12_workOut_1 hl (by decide) rfl (fun ls hl => ?_)
  refine lv_sipush (v := 520) hx hb dX12_workOut_3 (by decide) ?_
  refine lv_iload_n hx hb dX12_workOut_6 rfl (lv_at hl 2 rfl) ?_
  refine lv_imul hx hb dX12_workOut_7 ?_
  refine lv_topi (fun t1 et1 => ?_)
  have gt1 : t1.toInt = 520 * v24.toInt := pv_mul (a := 520) (b := v24.toInt) et1 (by decide) rfl (by omega) (by omega)
  refine lv_iload_n hx hb dX12_workOut_8 rfl (lv_at hl 3 rfl) ?_
  refine lv_iadd hx hb dX12_workOut_9 ?_
  refine lv_topi (fun t2 et2 => ?_)
  have gt2 : t2.toInt = t1.toInt + v25.toInt := pv_add (a := t1.toInt) (b := v25.toInt) et2 rfl rfl (by omega) (by omega)
  refine lv_istore (lv' := [(5, .int t2), (4, .int 0), (0, .ref h0), (1, .int v24), (2, .int v25), (3, .int v26)]) hx hb dX12_workOut_10 hl (by decide) rfl (fun ls hl => ?_)
  have hL9 : ∀ (n9 : Nat), ∀ (x3 : Int32) (x4 : Int32) (fn5 : Nat → Int32) (H : Heap) (locs : List Loc) (ls : Array Slot), 0 ≤ x3.toInt → x3.toInt ≤ 2599 → 0 ≤ x4.toInt → x4.toInt ≤ 80 → ((0 ≤ x4.toInt ∧ x4.toInt ≤ 80 ∧ x3.toInt ≤ 520 * v24.toInt + v26.toInt ∧ ∃ z, pm_Run f20 f21 x3.toInt.toNat (520 * v24.toInt + v26.toInt - x3.toInt).toNat x4.toInt z)) → (2599 - x3.toInt).toNat < n9 → va_P (dC, dI) vwCl (wd_ce5ea0ab h0 v0 r0 v1 v2 v3 v4 h1 h2 r1 r2 r3 r4 r5 v5 v6 h3 h4 r6 r7 v7 r8 r9 v8 v9 r10 r11 v10 v11 r12 v12 v13 r13 v14 w15 r14 v16 v17 r15 r16 r17 r18 r19 r20 v18 r21 r22 r23 v19 h1 g0 f20 h2 g1 f21 h3 g2 f22 h4 g3 fn5) H → va_D A (wd_ce5ea0ab h0 v0 r0 v1 v2 v3 v4 h1 h2 r1 r2 r3 r4 r5 v5 v6 h3 h4 r6 r7 v7 r8 r9 v8 v9 r10 r11 v10 v11 r12 v12 v13 r13 v14 w15 r14 v16 v17 r15 r16 r17 r18 r19 r20 v18 r21 r22 r23 v19 h1 g0 f20 h2 g1 f21 h3 g2 f22 h4 g3 fn5) → va_S A s.heap H locs → lv_has ls 6 [(5, .int x3), (4, .int x4), (0, .ref h0), (1, .int v24), (2, .int v25), (3, .int v26)] → W p l e ({ frames := 3, cells := 0, slots := 0, locals := 62 }) s m ([.ref h0, .int v24, .int v25, .int v26] : List Value).toArray below meth c H locs 0 0 Q (F0 m 12 ls []) := by
    intro n9
    induction n9 with
    | zero => intro x3 x4 fn5 H locs ls qa_x3 qb_x3 qa_x4 qb_x4 gh0_hL9 hm9 hP hD hS hl; exact absurd hm9 (Nat.not_lt_zero _)
    | succ n9 ih_hL9 =>
      intro x3 x4 fn5 H locs ls qa_x3 qb_x3 qa_x4 qb_x4 gh0_hL9 hm9 hP hD hS hl
      obtain ⟨hg1, hg2, hg3, zz, hrun⟩ := gh0_hL9
      refine lv_iload hx hb dX12_workOut_12 (lv_at hl 0 rfl) ?_
      refine lv_sipush (v := 520) hx hb dX12_workOut_14 (by decide) ?_
      refine lv_iload_n hx hb dX12_workOut_17 rfl (lv_at hl 3 rfl) ?_
      refine lv_imul hx hb dX12_workOut_18 ?_
      refine lv_topi (fun t10 et10 => ?_)
      have gt10 : t10.toInt = 520 * v24.toInt := pv_mul (a := 520) (b := v24.toInt) et10 (by decide) rfl (by omega) (by omega)
      refine lv_iload_n hx hb dX12_workOut_19 rfl (lv_at hl 5 rfl) ?_
      refine lv_iadd hx hb dX12_workOut_20 ?_
      refine lv_topi (fun t11 et11 => ?_)
      have gt11 : t11.toInt = t10.toInt + v26.toInt := pv_add (a := t10.toInt) (b := v26.toInt) et11 rfl rfl (by omega) (by omega)
      refine lv_icmp_ge (tgt := 171) hx hb dX12_workOut_21 (by decide) (fun c12 => ?_) (fun c12 => ?_)
      · skip
        have fc12 : t11.toInt ≤ x3.toInt := Int32.le_iff_toInt_le.mp c12
        have r1c12 := Int32.toInt_lt x3
        have r2c12 := Int32.toInt_lt t11
        have r3c12 := Int32.le_toInt x3
        have r4c12 := Int32.le_toInt t11
        refine lv_aload_n hx hb dX12_workOut_171 rfl (lv_at hl 2 rfl) ?_
        refine va_get (D := (dC, dI)) (ci := 12) (v := .ref h4) (C := RX12) (T := TX12) (N := 48) hx hb hts (fun _ h => List.mem_cons_of_mem _ (List.mem_append_right _ h)) hown hK hP 0 rfl rfl 16 (by decide) (hts (.fieldLink RX12 37 "LeftArgumentsModel" "stack" "[I") (List.mem_cons_of_mem _ (List.mem_append_left _ (List.mem_of_getElem? (i := 0) rfl)))) (fun _ h9 => h9) rfl dX12_workOut_172 ?_
        refine lv_iconst (v := 0) hx hb dX12_workOut_175 (by decide) ?_
        refine va_iald hx hb hK hP 4 3 rfl rfl (pv_c (x := 0) (n := 80) (by decide)) dX12_workOut_176 ?_
        refine lv_topi (fun t13 et13 => ?_)
        have glt13 : t13.toInt = (fn5 (Int32.toNatClampNeg 0)).toInt := by rw [et13]
        subst hQ
        have hP9 := hP.sub (ws' := (wd_ce5ea0ab h0 v0 r0 v1 v2 v3 v4 h1 h2 r1 r2 r3 r4 r5 v5 v6 h3 h4 r6 r7 v7 r8 r9 v8 v9 r10 r11 v10 v11 r12 v12 v13 r13 v14 w15 r14 v16 v17 r15 r16 r17 r18 r19 r20 v18 r21 r22 r23 v19 h1 g0 f20 h2 g1 f21 h3 g2 f22 h4 g3 fn5)) [0, 1, 2, 3, 4] rfl
        have hD9 := hD.sub (ws' := (wd_ce5ea0ab h0 v0 r0 v1 v2 v3 v4 h1 h2 r1 r2 r3 r4 r5 v5 v6 h3 h4 r6 r7 v7 r8 r9 v8 v9 r10 r11 v10 v11 r12 v12 v13 r13 v14 w15 r14 v16 v17 r15 r16 r17 r18 r19 r20 v18 r21 r22 r23 v19 h1 g0 f20 h2 g1 f21 h3 g2 f22 h4 g3 fn5)) [0, 1, 2, 3, 4] (by decide) rfl
        have hK9 := hK.sub (tys' := []) [] rfl
        exact W.iret (v := t13) hx hb hr (fun t ht hW => ⟨⟨t13, t13, rfl, rfl, ⟨fn5, by rw [ht]; exact hP9, va_K.moved hW.alike hK9, hD9⟩⟩, hS.F ht⟩) hS.2.2 dX12_workOut_177
      · skip
        have fc12 : ¬ (t11.toInt ≤ x3.toInt) := fun h9 => c12 (Int32.le_iff_toInt_le.mpr h9)
        have r1c12 := Int32.toInt_lt x3
        have r2c12 := Int32.toInt_lt t11
        have r3c12 := Int32.le_toInt x3
        have r4c12 := Int32.le_toInt t11
        refine lv_aload_n hx hb dX12_workOut_24 rfl (lv_at hl 2 rfl) ?_
        obtain ⟨uz, hst, hnext⟩ := pm_Run.head (i := x3) hrun (by omega) (by omega)
        have hst := hst.rows
        refine va_get (D := (dC, dI)) (ci := 12) (v := .ref h1) (C := RX12) (T := TX12) (N := 48) hx hb hts (fun _ h => List.mem_cons_of_mem _ (List.mem_append_right _ h)) hown hK hP 0 rfl rfl 6 (by decide) (hts (.fieldLink RX12 13 "LeftArgumentsModel" "code" "[I") (List.mem_cons_of_mem _ (List.mem_append_left _ (List.mem_of_getElem? (i := 1) rfl)))) (fun _ h9 => h9) rfl dX12_workOut_25 ?_
        refine lv_iload hx hb dX12_workOut_28 (lv_at hl 0 rfl) ?_
        refine va_iald hx hb hK hP 1 0 rfl rfl (vp_in_iff.mpr ⟨by omega, by omega⟩) dX12_workOut_30 ?_
        refine lv_topi (fun t14 et14 => ?_)
        have glt14 : t14.toInt = (f20 (Int32.toNatClampNeg x3)).toInt := by rw [et14]
        refine lv_if_eq (tgt := 45) hx hb dX12_workOut_31 (by decide) (fun c15 => ?_) (fun c15 => ?_)
        · skip
          have fc15 : t14.toInt = 0 := congrArg Int32.toInt c15
          refine lv_aload_n hx hb dX12_workOut_45 rfl (lv_at hl 2 rfl) ?_
          have gwx4 : 0 ≤ x4.toInt ∧ x4.toInt ≤ 79 := by constructor <;> omega
          refine va_get (D := (dC, dI)) (ci := 12) (v := .ref h4) (C := RX12) (T := TX12) (N := 48) hx hb hts (fun _ h => List.mem_cons_of_mem _ (List.mem_append_right _ h)) hown hK hP 0 rfl rfl 16 (by decide) (hts (.fieldLink RX12 37 "LeftArgumentsModel" "stack" "[I") (List.mem_cons_of_mem _ (List.mem_append_left _ (List.mem_of_getElem? (i := 0) rfl)))) (fun _ h9 => h9) rfl dX12_workOut_46 ?_
          refine lv_iload hx hb dX12_workOut_49 (lv_at hl 1 rfl) ?_
          refine lv_aload_n hx hb dX12_workOut_51 rfl (lv_at hl 2 rfl) ?_
          refine va_get (D := (dC, dI)) (ci := 12) (v := .ref h1) (C := RX12) (T := TX12) (N := 48) hx hb hts (fun _ h => List.mem_cons_of_mem _ (List.mem_append_right _ h)) hown hK hP 0 rfl rfl 6 (by decide) (hts (.fieldLink RX12 13 "LeftArgumentsModel" "code" "[I") (List.mem_cons_of_mem _ (List.mem_append_left _ (List.mem_of_getElem? (i := 1) rfl)))) (fun _ h9 => h9) rfl dX12_workOut_52 ?_
          refine lv_iload hx hb dX12_workOut_55 (lv_at hl 0 rfl) ?_
          refine va_iald hx hb hK hP 1 0 rfl rfl (vp_in_iff.mpr ⟨by omega, by omega⟩) dX12_workOut_57 ?_
          refine lv_topi (fun t16 et16 => ?_)
          have glt16 : t16.toInt = (f20 (Int32.toNatClampNeg x3)).toInt := by rw [et16]
          have gmt16 : t16.toInt = t14.toInt := by rw [et16, et14]
          refine lv_if_ne (tgt := 71) hx hb dX12_workOut_58 (by decide) (fun c17 => by exfalso; have fc17 : ¬ (t16.toInt = 0) := fun h9 => c17 (Int32.toInt_inj.mp h9); omega) (fun _ => ?_)
          refine lv_aload_n hx hb dX12_workOut_61 rfl (lv_at hl 2 rfl) ?_
          refine va_get (D := (dC, dI)) (ci := 12) (v := .ref h2) (C := RX12) (T := TX12) (N := 48) hx hb hts (fun _ h => List.mem_cons_of_mem _ (List.mem_append_right _ h)) hown hK hP 0 rfl rfl 7 (by decide) (hts (.fieldLink RX12 16 "LeftArgumentsModel" "value" "[I") (List.mem_cons_of_mem _ (List.mem_append_left _ (List.mem_of_getElem? (i := 2) rfl)))) (fun _ h9 => h9) rfl dX12_workOut_62 ?_
          refine lv_iload hx hb dX12_workOut_65 (lv_at hl 0 rfl) ?_
          refine va_iald hx hb hK hP 2 1 rfl rfl (vp_in_iff.mpr ⟨by omega, by omega⟩) dX12_workOut_67 ?_
          refine lv_topi (fun t18 et18 => ?_)
          have glt18 : t18.toInt = (f21 (Int32.toNatClampNeg x3)).toInt := by rw [et18]
          refine lv_goto (tgt := 83) hx hb dX12_workOut_68 (by decide) ?_
          refine va_iast hx hb hK hP hD hS 4 3 rfl rfl (vp_in_iff.mpr ⟨by omega, by omega⟩) dX12_workOut_83 (fun H locs hP hD hS => ?_)
          obtain ⟨fn19, efn19⟩ : ∃ g : Nat → Int32, g = upd fn5 (Int32.toNatClampNeg x4) t18 := ⟨_, rfl⟩
          rw [← efn19] at hP hD
          have hP : va_P (dC, dI) vwCl (wd_ce5ea0ab h0 v0 r0 v1 v2 v3 v4 h1 h2 r1 r2 r3 r4 r5 v5 v6 h3 h4 r6 r7 v7 r8 r9 v8 v9 r10 r11 v10 v11 r12 v12 v13 r13 v14 w15 r14 v16 v17 r15 r16 r17 r18 r19 r20 v18 r21 r22 r23 v19 h1 g0 f20 h2 g1 f21 h3 g2 f22 h4 g3 fn19) H := hP
          have hD : va_D A (wd_ce5ea0ab h0 v0 r0 v1 v2 v3 v4 h1 h2 r1 r2 r3 r4 r5 v5 v6 h3 h4 r6 r7 v7 r8 r9 v8 v9 r10 r11 v10 v11 r12 v12 v13 r13 v14 w15 r14 v16 v17 r15 r16 r17 r18 r19 r20 v18 r21 r22 r23 v19 h1 g0 f20 h2 g1 f21 h3 g2 f22 h4 g3 fn19) := hD
          obtain ⟨t20, et20⟩ : ∃ y : Int32, y = x4 + 1 := ⟨_, rfl⟩
          have gt20 : t20.toInt = x4.toInt + (1) := pv_add (a := x4.toInt) (b := (1)) et20 rfl (by decide) (by omega) (by omega)
          refine lv_iinc (v := t20) (lv' := [(4, .int t20), (5, .int x3), (0, .ref h0), (1, .int v24), (2, .int v25), (3, .int v26)]) hx hb dX12_workOut_84 hl (k := 1) rfl (by rw [et20]; rfl) (by decide) rfl (fun ls hl => ?_)
          refine lv_goto (tgt := 165) hx hb dX12_workOut_87 (by decide) ?_
          obtain ⟨t21, et21⟩ : ∃ y : Int32, y = x3 + 1 := ⟨_, rfl⟩
          have gt21 : t21.toInt = x3.toInt + (1) := pv_add (a := x3.toInt) (b := (1)) et21 rfl (by decide) (by omega) (by omega)
          refine lv_iinc (v := t21) (lv' := [(5, .int t21), (4, .int t20), (0, .ref h0), (1, .int v24), (2, .int v25), (3, .int v26)]) hx hb dX12_workOut_165 hl (k := 1) rfl (by rw [et21]; rfl) (by decide) rfl (fun ls hl => ?_)
          refine lv_goto (tgt := 12) hx hb dX12_workOut_168 (by decide) ?_
          exact ih_hL9 t21 t20 fn19 H locs ls (by first | omega | decide) (by first | omega | decide) (by first | omega | decide) (by first | omega | decide) (by first | exact pm_Seg.start pp0 (by decide) (by omega) (by omega) (by omega) | exact ⟨by omega, by omega, by omega, _, pm_Run.cast (by assumption) (by omega) (by omega) (by omega)⟩) (by first | omega | (simp only [Int.toNat] at *; omega)) hP hD hS (lv_sub hl [0, 1, 2, 3, 4, 5] rfl)
        · skip
          have fc15 : ¬ (t14.toInt = 0) := fun h9 => c15 (Int32.toInt_inj.mp h9)
          refine lv_aload_n hx hb dX12_workOut_34 rfl (lv_at hl 2 rfl) ?_
          refine va_get (D := (dC, dI)) (ci := 12) (v := .ref h1) (C := RX12) (T := TX12) (N := 48) hx hb hts (fun _ h => List.mem_cons_of_mem _ (List.mem_append_right _ h)) hown hK hP 0 rfl rfl 6 (by decide) (hts (.fieldLink RX12 13 "LeftArgumentsModel" "code" "[I") (List.mem_cons_of_mem _ (List.mem_append_left _ (List.mem_of_getElem? (i := 1) rfl)))) (fun _ h9 => h9) rfl dX12_workOut_35 ?_
          refine lv_iload hx hb dX12_workOut_38 (lv_at hl 0 rfl) ?_
          refine va_iald hx hb hK hP 1 0 rfl rfl (vp_in_iff.mpr ⟨by omega, by omega⟩) dX12_workOut_40 ?_
          refine lv_topi (fun t22 et22 => ?_)
          have glt22 : t22.toInt = (f20 (Int32.toNatClampNeg x3)).toInt := by rw [et22]
          have gmt22 : t22.toInt = t14.toInt := by rw [et22, et14]
          refine lv_iconst (v := 1) hx hb dX12_workOut_41 (by decide) ?_
          refine lv_icmp_ne (tgt := 90) hx hb dX12_workOut_42 (by decide) (fun c23 => ?_) (fun c23 => ?_)
          · skip
            have fc23 : ¬ (t22.toInt = 1) := fun h9 => c23 (Int32.toInt_inj.mp h9)
            refine lv_aload_n hx hb dX12_workOut_90 rfl (lv_at hl 2 rfl) ?_
            refine va_get (D := (dC, dI)) (ci := 12) (v := .ref h1) (C := RX12) (T := TX12) (N := 48) hx hb hts (fun _ h => List.mem_cons_of_mem _ (List.mem_append_right _ h)) hown hK hP 0 rfl rfl 6 (by decide) (hts (.fieldLink RX12 13 "LeftArgumentsModel" "code" "[I") (List.mem_cons_of_mem _ (List.mem_append_left _ (List.mem_of_getElem? (i := 1) rfl)))) (fun _ h9 => h9) rfl dX12_workOut_91 ?_
            refine lv_iload hx hb dX12_workOut_94 (lv_at hl 0 rfl) ?_
            refine va_iald hx hb hK hP 1 0 rfl rfl (vp_in_iff.mpr ⟨by omega, by omega⟩) dX12_workOut_96 ?_
            refine lv_topi (fun t24 et24 => ?_)
            have glt24 : t24.toInt = (f20 (Int32.toNatClampNeg x3)).toInt := by rw [et24]
            have gmt24 : t24.toInt = t14.toInt := by rw [et24, et14]
            refine lv_bipush (v := 9) hx hb dX12_workOut_97 (by decide) ?_
            refine lv_icmp_ne (tgt := 125) hx hb dX12_workOut_99 (by decide) (fun c25 => ?_) (fun c25 => ?_)
            · skip
              have fc25 : ¬ (t24.toInt = 9) := fun h9 => c25 (Int32.toInt_inj.mp h9)
              have gwx4 : 2 ≤ x4.toInt ∧ x4.toInt ≤ 80 := by constructor <;> omega
              obtain ⟨t26, et26⟩ : ∃ y : Int32, y = x4 + (-1) := ⟨_, rfl⟩
              have gt26 : t26.toInt = x4.toInt + (-1) := pv_add (a := x4.toInt) (b := (-1)) et26 rfl (by decide) (by omega) (by omega)
              refine lv_iinc (v := t26) (lv' := [(4, .int t26), (5, .int x3), (0, .ref h0), (1, .int v24), (2, .int v25), (3, .int v26)]) hx hb dX12_workOut_125 hl (k := 1) rfl (by rw [et26]; rfl) (by decide) rfl (fun ls hl => ?_)
              refine lv_aload_n hx hb dX12_workOut_128 rfl (lv_at hl 2 rfl) ?_
              refine va_get (D := (dC, dI)) (ci := 12) (v := .ref h4) (C := RX12) (T := TX12) (N := 48) hx hb hts (fun _ h => List.mem_cons_of_mem _ (List.mem_append_right _ h)) hown hK hP 0 rfl rfl 16 (by decide) (hts (.fieldLink RX12 37 "LeftArgumentsModel" "stack" "[I") (List.mem_cons_of_mem _ (List.mem_append_left _ (List.mem_of_getElem? (i := 0) rfl)))) (fun _ h9 => h9) rfl dX12_workOut_129 ?_
              refine lv_iload hx hb dX12_workOut_132 (lv_at hl 0 rfl) ?_
              refine lv_iconst (v := 1) hx hb dX12_workOut_134 (by decide) ?_
              refine lv_isub hx hb dX12_workOut_135 ?_
              refine lv_topi (fun t27 et27 => ?_)
              have gt27 : t27.toInt = t26.toInt - 1 := pv_sub (a := t26.toInt) (b := 1) et27 rfl (by decide) (by omega) (by omega)
              refine lv_aload_n hx hb dX12_workOut_136 rfl (lv_at hl 2 rfl) ?_
              refine va_get (D := (dC, dI)) (ci := 12) (v := .ref h1) (C := RX12) (T := TX12) (N := 48) hx hb hts (fun _ h => List.mem_cons_of_mem _ (List.mem_append_right _ h)) hown hK hP 0 rfl rfl 6 (by decide) (hts (.fieldLink RX12 13 "LeftArgumentsModel" "code" "[I") (List.mem_cons_of_mem _ (List.mem_append_left _ (List.mem_of_getElem? (i := 1) rfl)))) (fun _ h9 => h9) rfl dX12_workOut_137 ?_
              refine lv_iload hx hb dX12_workOut_140 (lv_at hl 1 rfl) ?_
              refine va_iald hx hb hK hP 1 0 rfl rfl (vp_in_iff.mpr ⟨by omega, by omega⟩) dX12_workOut_142 ?_
              refine lv_topi (fun t28 et28 => ?_)
              have glt28 : t28.toInt = (f20 (Int32.toNatClampNeg x3)).toInt := by rw [et28]
              have gmt28 : t28.toInt = t14.toInt := by rw [et28, et14]
              refine lv_aload_n hx hb dX12_workOut_143 rfl (lv_at hl 2 rfl) ?_
              refine va_get (D := (dC, dI)) (ci := 12) (v := .ref h4) (C := RX12) (T := TX12) (N := 48) hx hb hts (fun _ h => List.mem_cons_of_mem _ (List.mem_append_right _ h)) hown hK hP 0 rfl rfl 16 (by decide) (hts (.fieldLink RX12 37 "LeftArgumentsModel" "stack" "[I") (List.mem_cons_of_mem _ (List.mem_append_left _ (List.mem_of_getElem? (i := 0) rfl)))) (fun _ h9 => h9) rfl dX12_workOut_144 ?_
              refine lv_iload hx hb dX12_workOut_147 (lv_at hl 0 rfl) ?_
              refine lv_iconst (v := 1) hx hb dX12_workOut_149 (by decide) ?_
              refine lv_isub hx hb dX12_workOut_150 ?_
              refine lv_topi (fun t29 et29 => ?_)
              have gt29 : t29.toInt = t26.toInt - 1 := pv_sub (a := t26.toInt) (b := 1) et29 rfl (by decide) (by omega) (by omega)
              refine va_iald hx hb hK hP 4 3 rfl rfl (vp_in_iff.mpr ⟨by omega, by omega⟩) dX12_workOut_151 ?_
              refine lv_topi (fun t30 et30 => ?_)
              have glt30 : t30.toInt = (fn5 (Int32.toNatClampNeg t29)).toInt := by rw [et30]
              obtain ⟨y31, ey31⟩ : ∃ z : Int64, z = (t30 : Int32).toInt64 := ⟨_, rfl⟩
              refine lv_i2l (v := y31) hx hb dX12_workOut_152 (by rw [ey31]) ?_
              refine lv_aload_n hx hb dX12_workOut_153 rfl (lv_at hl 2 rfl) ?_
              refine va_get (D := (dC, dI)) (ci := 12) (v := .ref h4) (C := RX12) (T := TX12) (N := 48) hx hb hts (fun _ h => List.mem_cons_of_mem _ (List.mem_append_right _ h)) hown hK hP 0 rfl rfl 16 (by decide) (hts (.fieldLink RX12 37 "LeftArgumentsModel" "stack" "[I") (List.mem_cons_of_mem _ (List.mem_append_left _ (List.mem_of_getElem? (i := 0) rfl)))) (fun _ h9 => h9) rfl dX12_workOut_154 ?_
              refine lv_iload hx hb dX12_workOut_157 (lv_at hl 0 rfl) ?_
              refine va_iald hx hb hK hP 4 3 rfl rfl (vp_in_iff.mpr ⟨by omega, by omega⟩) dX12_workOut_159 ?_
              refine lv_topi (fun t32 et32 => ?_)
              have glt32 : t32.toInt = (fn5 (Int32.toNatClampNeg t26)).toInt := by rw [et32]
              obtain ⟨y33, ey33⟩ : ∃ z : Int64, z = (t32 : Int32).toInt64 := ⟨_, rfl⟩
              refine lv_i2l (v := y33) hx hb dX12_workOut_160 (by rw [ey33]) ?_
              have hPc := hP.sub (ws' := []) [] rfl
              have hDc := hD.sub (ws' := []) [] (by decide) rfl
              have hKc := hK.sub (tys' := []) [] rfl
              have hFc := va_free (wc := []) hD hS hA [] rfl
              refine va_calli (va_runS (As := [.int t28, .long y31, .long y33]) (rest := [.int t27, .ref h4]) ⟨hx, hb, hml, hown, hts⟩ (k_X12_worked l dC dI t28 y31 y33  H.size) (va_cwS 3 hts g_X12_workOut_0 rfl rfl rfl (by decide +kernel) ⟨Nat.le_of_ble_eq_true rfl, Nat.le_of_ble_eq_true rfl⟩) (pv_PS hPc hKc hDc) rfl rfl hl.1 rfl (lv_room (Nat.le_of_ble_eq_true rfl)) dX12_workOut_161 ⟨Nat.le_of_ble_eq_true rfl, Nat.le_of_ble_eq_true rfl⟩) hS (fun q _ h => hFc q h) hFc (fun ra34 u t H1 locs ht hvm hwra34 hB hz1 hk1 hS => ?_)
              try rw [hwra34] at hB
              obtain ⟨hP1, hK1, hD1⟩ := hB
              rw [ht] at hP1
              obtain ⟨hP2, hD2⟩ := va_join (wr := (wd_ce5ea0ab h0 v0 r0 v1 v2 v3 v4 h1 h2 r1 r2 r3 r4 r5 v5 v6 h3 h4 r6 r7 v7 r8 r9 v8 v9 r10 r11 v10 v11 r12 v12 v13 r13 v14 w15 r14 v16 v17 r15 r16 r17 r18 r19 r20 v18 r21 r22 r23 v19 h1 g0 f20 h2 g1 f21 h3 g2 f22 h4 g3 fn5)) (w1 := []) hP hD [] [0, 1, 2, 3, 4] rfl rfl (by decide) (by decide) hk1 hFc hP1 hD1
              clear hP hD hPc hDc hKc hFc hP1 hK1 hD1 hk1 hz1
              generalize H1 = H at hP2 hS ⊢
              have hP : va_P (dC, dI) vwCl (wd_ce5ea0ab h0 v0 r0 v1 v2 v3 v4 h1 h2 r1 r2 r3 r4 r5 v5 v6 h3 h4 r6 r7 v7 r8 r9 v8 v9 r10 r11 v10 v11 r12 v12 v13 r13 v14 w15 r14 v16 v17 r15 r16 r17 r18 r19 r20 v18 r21 r22 r23 v19 h1 g0 f20 h2 g1 f21 h3 g2 f22 h4 g3 fn5) H := hP2
              have hD : va_D A (wd_ce5ea0ab h0 v0 r0 v1 v2 v3 v4 h1 h2 r1 r2 r3 r4 r5 v5 v6 h3 h4 r6 r7 v7 r8 r9 v8 v9 r10 r11 v10 v11 r12 v12 v13 r13 v14 w15 r14 v16 v17 r15 r16 r17 r18 r19 r20 v18 r21 r22 r23 v19 h1 g0 f20 h2 g1 f21 h3 g2 f22 h4 g3 fn5) := hD2
              clear hP2 hD2
              refine va_iast hx hb hK hP hD hS 4 3 rfl rfl (vp_in_iff.mpr ⟨by omega, by omega⟩) dX12_workOut_164 (fun H locs hP hD hS => ?_)
              obtain ⟨fn35, efn35⟩ : ∃ g : Nat → Int32, g = upd fn5 (Int32.toNatClampNeg t27) ra34 := ⟨_, rfl⟩
              rw [← efn35] at hP hD
              have hP : va_P (dC, dI) vwCl (wd_ce5ea0ab h0 v0 r0 v1 v2 v3 v4 h1 h2 r1 r2 r3 r4 r5 v5 v6 h3 h4 r6 r7 v7 r8 r9 v8 v9 r10 r11 v10 v11 r12 v12 v13 r13 v14 w15 r14 v16 v17 r15 r16 r17 r18 r19 r20 v18 r21 r22 r23 v19 h1 g0 f20 h2 g1 f21 h3 g2 f22 h4 g3 fn35) H := hP
              have hD : va_D A (wd_ce5ea0ab h0 v0 r0 v1 v2 v3 v4 h1 h2 r1 r2 r3 r4 r5 v5 v6 h3 h4 r6 r7 v7 r8 r9 v8 v9 r10 r11 v10 v11 r12 v12 v13 r13 v14 w15 r14 v16 v17 r15 r16 r17 r18 r19 r20 v18 r21 r22 r23 v19 h1 g0 f20 h2 g1 f21 h3 g2 f22 h4 g3 fn35) := hD
              obtain ⟨t36, et36⟩ : ∃ y : Int32, y = x3 + 1 := ⟨_, rfl⟩
              have gt36 : t36.toInt = x3.toInt + (1) := pv_add (a := x3.toInt) (b := (1)) et36 rfl (by decide) (by omega) (by omega)
              refine lv_iinc (v := t36) (lv' := [(5, .int t36), (4, .int t26), (0, .ref h0), (1, .int v24), (2, .int v25), (3, .int v26)]) hx hb dX12_workOut_165 hl (k := 1) rfl (by rw [et36]; rfl) (by decide) rfl (fun ls hl => ?_)
              refine lv_goto (tgt := 12) hx hb dX12_workOut_168 (by decide) ?_
              exact ih_hL9 t36 t26 fn35 H locs ls (by first | omega | decide) (by first | omega | decide) (by first | omega | decide) (by first | omega | decide) (by first | exact pm_Seg.start pp0 (by decide) (by omega) (by omega) (by omega) | exact ⟨by omega, by omega, by omega, _, pm_Run.cast (by assumption) (by omega) (by omega) (by omega)⟩) (by first | omega | (simp only [Int.toNat] at *; omega)) hP hD hS (lv_sub hl [0, 1, 2, 3, 4, 5] rfl)
            · skip
              have fc25 : t24.toInt = 9 := congrArg Int32.toInt c25
              refine lv_aload_n hx hb dX12_workOut_102 rfl (lv_at hl 2 rfl) ?_
              have gwx4 : 1 ≤ x4.toInt ∧ x4.toInt ≤ 80 := by constructor <;> omega
              refine va_get (D := (dC, dI)) (ci := 12) (v := .ref h4) (C := RX12) (T := TX12) (N := 48) hx hb hts (fun _ h => List.mem_cons_of_mem _ (List.mem_append_right _ h)) hown hK hP 0 rfl rfl 16 (by decide) (hts (.fieldLink RX12 37 "LeftArgumentsModel" "stack" "[I") (List.mem_cons_of_mem _ (List.mem_append_left _ (List.mem_of_getElem? (i := 0) rfl)))) (fun _ h9 => h9) rfl dX12_workOut_103 ?_
              refine lv_iload hx hb dX12_workOut_106 (lv_at hl 1 rfl) ?_
              refine lv_iconst (v := 1) hx hb dX12_workOut_108 (by decide) ?_
              refine lv_isub hx hb dX12_workOut_109 ?_
              refine lv_topi (fun t37 et37 => ?_)
              have gt37 : t37.toInt = x4.toInt - 1 := pv_sub (a := x4.toInt) (b := 1) et37 rfl (by decide) (by omega) (by omega)
              refine lv_iconst (v := 1) hx hb dX12_workOut_110 (by decide) ?_
              refine lv_aload_n hx hb dX12_workOut_111 rfl (lv_at hl 2 rfl) ?_
              refine va_get (D := (dC, dI)) (ci := 12) (v := .ref h4) (C := RX12) (T := TX12) (N := 48) hx hb hts (fun _ h => List.mem_cons_of_mem _ (List.mem_append_right _ h)) hown hK hP 0 rfl rfl 16 (by decide) (hts (.fieldLink RX12 37 "LeftArgumentsModel" "stack" "[I") (List.mem_cons_of_mem _ (List.mem_append_left _ (List.mem_of_getElem? (i := 0) rfl)))) (fun _ h9 => h9) rfl dX12_workOut_112 ?_
              refine lv_iload hx hb dX12_workOut_115 (lv_at hl 1 rfl) ?_
              refine lv_iconst (v := 1) hx hb dX12_workOut_117 (by decide) ?_
              refine lv_isub hx hb dX12_workOut_118 ?_
              refine lv_topi (fun t38 et38 => ?_)
              have gt38 : t38.toInt = x4.toInt - 1 := pv_sub (a := x4.toInt) (b := 1) et38 rfl (by decide) (by omega) (by omega)
              refine va_iald hx hb hK hP 4 3 rfl rfl (vp_in_iff.mpr ⟨by omega, by omega⟩) dX12_workOut_119 ?_
              refine lv_topi (fun t39 et39 => ?_)
              have glt39 : t39.toInt = (fn5 (Int32.toNatClampNeg t38)).toInt := by rw [et39]
              refine lv_isub hx hb dX12_workOut_120 ?_
              refine lv_topi (fun t40 et40 => ?_)
              refine va_iast hx hb hK hP hD hS 4 3 rfl rfl (vp_in_iff.mpr ⟨by omega, by omega⟩) dX12_workOut_121 (fun H locs hP hD hS => ?_)
              obtain ⟨fn41, efn41⟩ : ∃ g : Nat → Int32, g = upd fn5 (Int32.toNatClampNeg t37) t40 := ⟨_, rfl⟩
              rw [← efn41] at hP hD
              have hP : va_P (dC, dI) vwCl (wd_ce5ea0ab h0 v0 r0 v1 v2 v3 v4 h1 h2 r1 r2 r3 r4 r5 v5 v6 h3 h4 r6 r7 v7 r8 r9 v8 v9 r10 r11 v10 v11 r12 v12 v13 r13 v14 w15 r14 v16 v17 r15 r16 r17 r18 r19 r20 v18 r21 r22 r23 v19 h1 g0 f20 h2 g1 f21 h3 g2 f22 h4 g3 fn41) H := hP
              have hD : va_D A (wd_ce5ea0ab h0 v0 r0 v1 v2 v3 v4 h1 h2 r1 r2 r3 r4 r5 v5 v6 h3 h4 r6 r7 v7 r8 r9 v8 v9 r10 r11 v10 v11 r12 v12 v13 r13 v14 w15 r14 v16 v17 r15 r16 r17 r18 r19 r20 v18 r21 r22 r23 v19 h1 g0 f20 h2 g1 f21 h3 g2 f22 h4 g3 fn41) := hD
              refine lv_goto (tgt := 165) hx hb dX12_workOut_122 (by decide) ?_
              obtain ⟨t42, et42⟩ : ∃ y : Int32, y = x3 + 1 := ⟨_, rfl⟩
              have gt42 : t42.toInt = x3.toInt + (1) := pv_add (a := x3.toInt) (b := (1)) et42 rfl (by decide) (by omega) (by omega)
              refine lv_iinc (v := t42) (lv' := [(5, .int t42), (4, .int x4), (0, .ref h0), (1, .int v24), (2, .int v25), (3, .int v26)]) hx hb dX12_workOut_165 hl (k := 0) rfl (by rw [et42]; rfl) (by decide) rfl (fun ls hl => ?_)
              refine lv_goto (tgt := 12) hx hb dX12_workOut_168 (by decide) ?_
              exact ih_hL9 t42 x4 fn41 H locs ls (by first | omega | decide) (by first | omega | decide) qa_x4 qb_x4 (by first | exact pm_Seg.start pp0 (by decide) (by omega) (by omega) (by omega) | exact ⟨by omega, by omega, by omega, _, pm_Run.cast (by assumption) (by omega) (by omega) (by omega)⟩) (by first | omega | (simp only [Int.toNat] at *; omega)) hP hD hS (lv_sub hl [0, 1, 2, 3, 4, 5] rfl)
          · skip
            have fc23 : t22.toInt = 1 := congrArg Int32.toInt c23
            refine lv_aload_n hx hb dX12_workOut_45 rfl (lv_at hl 2 rfl) ?_
            have gwx4 : 0 ≤ x4.toInt ∧ x4.toInt ≤ 79 := by constructor <;> omega
            refine va_get (D := (dC, dI)) (ci := 12) (v := .ref h4) (C := RX12) (T := TX12) (N := 48) hx hb hts (fun _ h => List.mem_cons_of_mem _ (List.mem_append_right _ h)) hown hK hP 0 rfl rfl 16 (by decide) (hts (.fieldLink RX12 37 "LeftArgumentsModel" "stack" "[I") (List.mem_cons_of_mem _ (List.mem_append_left _ (List.mem_of_getElem? (i := 0) rfl)))) (fun _ h9 => h9) rfl dX12_workOut_46 ?_
            refine lv_iload hx hb dX12_workOut_49 (lv_at hl 1 rfl) ?_
            refine lv_aload_n hx hb dX12_workOut_51 rfl (lv_at hl 2 rfl) ?_
            refine va_get (D := (dC, dI)) (ci := 12) (v := .ref h1) (C := RX12) (T := TX12) (N := 48) hx hb hts (fun _ h => List.mem_cons_of_mem _ (List.mem_append_right _ h)) hown hK hP 0 rfl rfl 6 (by decide) (hts (.fieldLink RX12 13 "LeftArgumentsModel" "code" "[I") (List.mem_cons_of_mem _ (List.mem_append_left _ (List.mem_of_getElem? (i := 1) rfl)))) (fun _ h9 => h9) rfl dX12_workOut_52 ?_
            refine lv_iload hx hb dX12_workOut_55 (lv_at hl 0 rfl) ?_
            refine va_iald hx hb hK hP 1 0 rfl rfl (vp_in_iff.mpr ⟨by omega, by omega⟩) dX12_workOut_57 ?_
            refine lv_topi (fun t43 et43 => ?_)
            have glt43 : t43.toInt = (f20 (Int32.toNatClampNeg x3)).toInt := by rw [et43]
            have gmt43 : t43.toInt = t14.toInt := by rw [et43, et14]
            refine lv_if_ne (tgt := 71) hx hb dX12_workOut_58 (by decide) (fun c44 => ?_) (fun c44 => ?_)
            · skip
              have fc44 : ¬ (t43.toInt = 0) := fun h9 => c44 (Int32.toInt_inj.mp h9)
              refine lv_aload_n hx hb dX12_workOut_71 rfl (lv_at hl 2 rfl) ?_
              refine va_get (D := (dC, dI)) (ci := 12) (v := .ref h3) (C := RX12) (T := TX12) (N := 48) hx hb hts (fun _ h => List.mem_cons_of_mem _ (List.mem_append_right _ h)) hown hK hP 0 rfl rfl 15 (by decide) (hts (.fieldLink RX12 34 "LeftArgumentsModel" "letters" "[I") (List.mem_cons_of_mem _ (List.mem_append_left _ (List.mem_of_getElem? (i := 19) rfl)))) (fun _ h9 => h9) rfl dX12_workOut_72 ?_
              refine lv_aload_n hx hb dX12_workOut_75 rfl (lv_at hl 2 rfl) ?_
              refine va_get (D := (dC, dI)) (ci := 12) (v := .ref h2) (C := RX12) (T := TX12) (N := 48) hx hb hts (fun _ h => List.mem_cons_of_mem _ (List.mem_append_right _ h)) hown hK hP 0 rfl rfl 7 (by decide) (hts (.fieldLink RX12 16 "LeftArgumentsModel" "value" "[I") (List.mem_cons_of_mem _ (List.mem_append_left _ (List.mem_of_getElem? (i := 2) rfl)))) (fun _ h9 => h9) rfl dX12_workOut_76 ?_
              refine lv_iload hx hb dX12_workOut_79 (lv_at hl 0 rfl) ?_
              refine va_iald hx hb hK hP 2 1 rfl rfl (vp_in_iff.mpr ⟨by omega, by omega⟩) dX12_workOut_81 ?_
              refine lv_topi (fun t45 et45 => ?_)
              have glt45 : t45.toInt = (f21 (Int32.toNatClampNeg x3)).toInt := by rw [et45]
              have gat45 : 0 ≤ t45.toInt ∧ t45.toInt ≤ 5 := by rw [et45]; constructor <;> omega
              refine va_iald hx hb hK hP 3 2 rfl rfl (vp_in_iff.mpr ⟨by omega, by omega⟩) dX12_workOut_82 ?_
              refine lv_topi (fun t46 et46 => ?_)
              have glt46 : t46.toInt = (f22 (Int32.toNatClampNeg t45)).toInt := by rw [et46]
              refine va_iast hx hb hK hP hD hS 4 3 rfl rfl (vp_in_iff.mpr ⟨by omega, by omega⟩) dX12_workOut_83 (fun H locs hP hD hS => ?_)
              obtain ⟨fn47, efn47⟩ : ∃ g : Nat → Int32, g = upd fn5 (Int32.toNatClampNeg x4) t46 := ⟨_, rfl⟩
              rw [← efn47] at hP hD
              have hP : va_P (dC, dI) vwCl (wd_ce5ea0ab h0 v0 r0 v1 v2 v3 v4 h1 h2 r1 r2 r3 r4 r5 v5 v6 h3 h4 r6 r7 v7 r8 r9 v8 v9 r10 r11 v10 v11 r12 v12 v13 r13 v14 w15 r14 v16 v17 r15 r16 r17 r18 r19 r20 v18 r21 r22 r23 v19 h1 g0 f20 h2 g1 f21 h3 g2 f22 h4 g3 fn47) H := hP
              have hD : va_D A (wd_ce5ea0ab h0 v0 r0 v1 v2 v3 v4 h1 h2 r1 r2 r3 r4 r5 v5 v6 h3 h4 r6 r7 v7 r8 r9 v8 v9 r10 r11 v10 v11 r12 v12 v13 r13 v14 w15 r14 v16 v17 r15 r16 r17 r18 r19 r20 v18 r21 r22 r23 v19 h1 g0 f20 h2 g1 f21 h3 g2 f22 h4 g3 fn47) := hD
              obtain ⟨t48, et48⟩ : ∃ y : Int32, y = x4 + 1 := ⟨_, rfl⟩
              have gt48 : t48.toInt = x4.toInt + (1) := pv_add (a := x4.toInt) (b := (1)) et48 rfl (by decide) (by omega) (by omega)
              refine lv_iinc (v := t48) (lv' := [(4, .int t48), (5, .int x3), (0, .ref h0), (1, .int v24), (2, .int v25), (3, .int v26)]) hx hb dX12_workOut_84 hl (k := 1) rfl (by rw [et48]; rfl) (by decide) rfl (fun ls hl => ?_)
              refine lv_goto (tgt := 165) hx hb dX12_workOut_87 (by decide) ?_
              obtain ⟨t49, et49⟩ : ∃ y : Int32, y = x3 + 1 := ⟨_, rfl⟩
              have gt49 : t49.toInt = x3.toInt + (1) := pv_add (a := x3.toInt) (b := (1)) et49 rfl (by decide) (by omega) (by omega)
              refine lv_iinc (v := t49) (lv' := [(5, .int t49), (4, .int t48), (0, .ref h0), (1, .int v24), (2, .int v25), (3, .int v26)]) hx hb dX12_workOut_165 hl (k := 1) rfl (by rw [et49]; rfl) (by decide) rfl (fun ls hl => ?_)
              refine lv_goto (tgt := 12) hx hb dX12_workOut_168 (by decide) ?_
              exact ih_hL9 t49 t48 fn47 H locs ls (by first | omega | decide) (by first | omega | decide) (by first | omega | decide) (by first | omega | decide) (by first | exact pm_Seg.start pp0 (by decide) (by omega) (by omega) (by omega) | exact ⟨by omega, by omega, by omega, _, pm_Run.cast (by assumption) (by omega) (by omega) (by omega)⟩) (by first | omega | (simp only [Int.toNat] at *; omega)) hP hD hS (lv_sub hl [0, 1, 2, 3, 4, 5] rfl)
            · skip
              have fc44 : t43.toInt = 0 := congrArg Int32.toInt c44
              refine lv_aload_n hx hb dX12_workOut_61 rfl (lv_at hl 2 rfl) ?_
              refine va_get (D := (dC, dI)) (ci := 12) (v := .ref h2) (C := RX12) (T := TX12) (N := 48) hx hb hts (fun _ h => List.mem_cons_of_mem _ (List.mem_append_right _ h)) hown hK hP 0 rfl rfl 7 (by decide) (hts (.fieldLink RX12 16 "LeftArgumentsModel" "value" "[I") (List.mem_cons_of_mem _ (List.mem_append_left _ (List.mem_of_getElem? (i := 2) rfl)))) (fun _ h9 => h9) rfl dX12_workOut_62 ?_
              refine lv_iload hx hb dX12_workOut_65 (lv_at hl 0 rfl) ?_
              refine va_iald hx hb hK hP 2 1 rfl rfl (vp_in_iff.mpr ⟨by omega, by omega⟩) dX12_workOut_67 ?_
              refine lv_topi (fun t50 et50 => ?_)
              have glt50 : t50.toInt = (f21 (Int32.toNatClampNeg x3)).toInt := by rw [et50]
              refine lv_goto (tgt := 83) hx hb dX12_workOut_68 (by decide) ?_
              refine va_iast hx hb hK hP hD hS 4 3 rfl rfl (vp_in_iff.mpr ⟨by omega, by omega⟩) dX12_workOut_83 (fun H locs hP hD hS => ?_)
              obtain ⟨fn51, efn51⟩ : ∃ g : Nat → Int32, g = upd fn5 (Int32.toNatClampNeg x4) t50 := ⟨_, rfl⟩
              rw [← efn51] at hP hD
              have hP : va_P (dC, dI) vwCl (wd_ce5ea0ab h0 v0 r0 v1 v2 v3 v4 h1 h2 r1 r2 r3 r4 r5 v5 v6 h3 h4 r6 r7 v7 r8 r9 v8 v9 r10 r11 v10 v11 r12 v12 v13 r13 v14 w15 r14 v16 v17 r15 r16 r17 r18 r19 r20 v18 r21 r22 r23 v19 h1 g0 f20 h2 g1 f21 h3 g2 f22 h4 g3 fn51) H := hP
              have hD : va_D A (wd_ce5ea0ab h0 v0 r0 v1 v2 v3 v4 h1 h2 r1 r2 r3 r4 r5 v5 v6 h3 h4 r6 r7 v7 r8 r9 v8 v9 r10 r11 v10 v11 r12 v12 v13 r13 v14 w15 r14 v16 v17 r15 r16 r17 r18 r19 r20 v18 r21 r22 r23 v19 h1 g0 f20 h2 g1 f21 h3 g2 f22 h4 g3 fn51) := hD
              obtain ⟨t52, et52⟩ : ∃ y : Int32, y = x4 + 1 := ⟨_, rfl⟩
              have gt52 : t52.toInt = x4.toInt + (1) := pv_add (a := x4.toInt) (b := (1)) et52 rfl (by decide) (by omega) (by omega)
              refine lv_iinc (v := t52) (lv' := [(4, .int t52), (5, .int x3), (0, .ref h0), (1, .int v24), (2, .int v25), (3, .int v26)]) hx hb dX12_workOut_84 hl (k := 1) rfl (by rw [et52]; rfl) (by decide) rfl (fun ls hl => ?_)
              refine lv_goto (tgt := 165) hx hb dX12_workOut_87 (by decide) ?_
              obtain ⟨t53, et53⟩ : ∃ y : Int32, y = x3 + 1 := ⟨_, rfl⟩
              have gt53 : t53.toInt = x3.toInt + (1) := pv_add (a := x3.toInt) (b := (1)) et53 rfl (by decide) (by omega) (by omega)
              refine lv_iinc (v := t53) (lv' := [(5, .int t53), (4, .int t52), (0, .ref h0), (1, .int v24), (2, .int v25), (3, .int v26)]) hx hb dX12_workOut_165 hl (k := 1) rfl (by rw [et53]; rfl) (by decide) rfl (fun ls hl => ?_)
              refine lv_goto (tgt := 12) hx hb dX12_workOut_168 (by decide) ?_
              exact ih_hL9 t53 t52 fn51 H locs ls (by first | omega | decide) (by first | omega | decide) (by first | omega | decide) (by first | omega | decide) (by first | exact pm_Seg.start pp0 (by decide) (by omega) (by omega) (by omega) | exact ⟨by omega, by omega, by omega, _, pm_Run.cast (by assumption) (by omega) (by omega) (by omega)⟩) (by first | omega | (simp only [Int.toNat] at *; omega)) hP hD hS (lv_sub hl [0, 1, 2, 3, 4, 5] rfl)
  exact hL9 _ t2 0 f23 H locs ls (by first | omega | decide) (by first | omega | decide) (by decide) (by decide) (by first | exact pm_Seg.start pp0 (by decide) (by omega) (by omega) (by omega) | exact ⟨by omega, by omega, by omega, _, pm_Run.cast (by assumption) (by omega) (by omega) (by omega)⟩) (Nat.lt_succ_self _) hP hD hS (lv_sub hl [0, 1, 2, 3, 4, 5] rfl)
def q_X12_worthOf : List Cond := .code yX12_worthOf cX12_worthOf 3 (some .int) :: (([.fieldLink RX12 22 "LeftArgumentsModel" "clauses" "[I", .fieldLink RX12 25 "LeftArgumentsModel" "testFrom" "[I", .fieldLink RX12 28 "LeftArgumentsModel" "sumFrom" "[I", .fieldLink RX12 31 "LeftArgumentsModel" "sumTo" "[I", .code yX12_workOut cX12_workOut 6 (some .int), .fieldLink RX12 37 "LeftArgumentsModel" "stack" "[I", .fieldLink RX12 13 "LeftArgumentsModel" "code" "[I", .fieldLink RX12 16 "LeftArgumentsModel" "value" "[I", .code yX12_worked cX12_worked 5 (some .int), .code yX12_bounded cX12_bounded 2 (some .int), .constantLong RX12 192 (-1000000), .constantLong RX12 194 (1000000), .methodLink RX12 196 Lib.MathLoose.min_long.x, .static Lib.MathLoose.min_long.x, .initialized "java/lang/Math", .code Lib.MathLoose.min_long.x Lib.MathLoose.min_long.code 4 (some .long), .methodLink RX12 202 Lib.MathLoose.max_long.x, .static Lib.MathLoose.max_long.x, .code Lib.MathLoose.max_long.x Lib.MathLoose.max_long.code 4 (some .long), .initialized RX12, .static yX12_bounded, .methodLink RX12 205 yX12_bounded, .static yX12_worked, .methodLink RX12 209 yX12_worked, .fieldLink RX12 34 "LeftArgumentsModel" "letters" "[I", .instanceMethod yX12_workOut, .selects RX12 yX12_workOut yX12_workOut, .methodLink RX12 213 yX12_workOut] : List Cond) ++ wsX120)
set_option maxRecDepth 20000 in
theorem g_X12_worthOf_0 : GoodIn q_X12_worthOf (wsV RX12 213 RX12 yX12_workOut q_X12_workOut) := goodIn_app (goodIn_r _ [28, 26, 27, 20] rfl (by decide +kernel)) (goodIn_ca (goodIn_r (.code yX12_workOut cX12_workOut 6 (some .int) :: [.fieldLink RX12 37 "LeftArgumentsModel" "stack" "[I", .fieldLink RX12 13 "LeftArgumentsModel" "code" "[I", .fieldLink RX12 16 "LeftArgumentsModel" "value" "[I", .code yX12_worked cX12_worked 5 (some .int), .code yX12_bounded cX12_bounded 2 (some .int), .constantLong RX12 192 (-1000000), .constantLong RX12 194 (1000000), .methodLink RX12 196 Lib.MathLoose.min_long.x, .static Lib.MathLoose.min_long.x, .initialized "java/lang/Math", .code Lib.MathLoose.min_long.x Lib.MathLoose.min_long.code 4 (some .long), .methodLink RX12 202 Lib.MathLoose.max_long.x, .static Lib.MathLoose.max_long.x, .code Lib.MathLoose.max_long.x Lib.MathLoose.max_long.code 4 (some .long), .initialized RX12, .static yX12_bounded, .methodLink RX12 205 yX12_bounded, .static yX12_worked, .methodLink RX12 209 yX12_worked, .fieldLink RX12 34 "LeftArgumentsModel" "letters" "[I"]) [5, 6, 7, 8, 9, 10, 11, 12, 13, 14, 15, 16, 17, 18, 19, 20, 21, 22, 23, 24, 25] rfl (by decide +kernel)) (goodIn_sub (fun _ h => List.mem_cons_of_mem _ (List.mem_append_right _ h)) gwX12))
set_option maxHeartbeats 4000000 in
set_option maxRecDepth 100000 in
theorem k_X12_worthOf (l : Launch) (dC : Nat → ClassId) (dI : Nat → Nat → Nat) (h0 : Nat) (h1 : Nat) (h2 : Nat) (h3 : Nat) (h4 : Nat) (h5 : Nat) (h6 : Nat) (h7 : Nat) (h8 : Nat) (v0 : Int32) (r0 : Nat) (v1 : Int32) (v2 : Int32) (v3 : Int32) (v4 : Int32) (r1 : Nat) (v5 : Int32) (v6 : Int32) (r2 : Nat) (r3 : Nat) (v7 : Int32) (r4 : Nat) (r5 : Nat) (v8 : Int32) (v9 : Int32) (r6 : Nat) (r7 : Nat) (v10 : Int32) (v11 : Int32) (r8 : Nat) (v12 : Int32) (v13 : Int32) (r9 : Nat) (v14 : Int32) (w15 : Int64) (r10 : Nat) (v16 : Int32) (v17 : Int32) (r11 : Nat) (r12 : Nat) (r13 : Nat) (r14 : Nat) (r15 : Nat) (r16 : Nat) (v18 : Int32) (r17 : Nat) (r18 : Nat) (r19 : Nat) (v19 : Int32) (g0 : ClassId) (f20 : Nat → Int32) (g1 : ClassId) (f21 : Nat → Int32) (g2 : ClassId) (f22 : Nat → Int32) (g3 : ClassId) (f23 : Nat → Int32) (g4 : ClassId) (f24 : Nat → Int32) (g5 : ClassId) (f25 : Nat → Int32) (g6 : ClassId) (f26 : Nat → Int32) (g7 : ClassId) (f27 : Nat → Int32) (v28 : Int32) (i_v1 : 0 ≤ v1.toInt ∧ v1.toInt ≤ 240) (i_v5 : 0 ≤ v5.toInt ∧ v5.toInt ≤ 4) (i_v6 : 0 ≤ v6.toInt ∧ v6.toInt ≤ 4) (i_v7 : 0 ≤ v7.toInt ∧ v7.toInt ≤ 8) (i_v8 : 0 ≤ v8.toInt ∧ v8.toInt ≤ 8) (i_v9 : 0 ≤ v9.toInt ∧ v9.toInt ≤ 1) (i_v10 : -1 ≤ v10.toInt ∧ v10.toInt ≤ 3) (i_v14 : 0 ≤ v14.toInt ∧ v14.toInt ≤ 40) (i_v18 : 0 ≤ v18.toInt ∧ v18.toInt ≤ 10) (i_v19 : 0 ≤ v19.toInt ∧ v19.toInt ≤ 1) (i_v28 : 0 ≤ v28.toInt ∧ v28.toInt ≤ 3) (pp0 : pm_Row v28 f20 f21 f22 f23 f24 f25) (sz : Nat) : Met l yX12_worthOf q_X12_worthOf ({ frames := 4, cells := 0, slots := 0, locals := 87 }) (va_Pc [.ref h0, .int v28] (fun U => U.heap.size = sz ∧ va_P (dC, dI) vwCl (wd_8705ae5b h0 v0 r0 v1 v2 v3 v4 h1 h2 r1 h3 h4 h5 h6 v5 v6 h7 h8 r2 r3 v7 r4 r5 v8 v9 r6 r7 v10 v11 r8 v12 v13 r9 v14 w15 r10 v16 v17 r11 r12 r13 r14 r15 r16 v18 r17 r18 r19 v19 h1 g0 f20 h2 g1 f21 h3 g2 f22 h4 g3 f23 h5 g4 f24 h6 g5 f25 h7 g6 f26 h8 g7 f27) U.heap ∧ va_K (dC, dI) vwCl [(g0, .int), (g1, .int), (g2, .int), (g3, .int), (g4, .int), (g5, .int), (g6, .int), (g7, .int)] U ∧ va_D (fun _ => True) (wd_8705ae5b h0 v0 r0 v1 v2 v3 v4 h1 h2 r1 h3 h4 h5 h6 v5 v6 h7 h8 r2 r3 v7 r4 r5 v8 v9 r6 r7 v10 v11 r8 v12 v13 r9 v14 w15 r10 v16 v17 r11 r12 r13 r14 r15 r16 v18 r17 r18 r19 v19 h1 g0 f20 h2 g1 f21 h3 g2 f22 h4 g3 f23 h5 g4 f24 h6 g5 f25 h7 g6 f26 h8 g7 f27))) (va_Qi (fun (r : Int32) (r9 : Int32) => r9 = r) (fun (r : Int32) (t : State) => (∃ (o_h8 : Nat → Int32), va_P (dC, dI) vwCl (wd_8705ae5b h0 v0 r0 v1 v2 v3 v4 h1 h2 r1 h3 h4 h5 h6 v5 v6 h7 h8 r2 r3 v7 r4 r5 v8 v9 r6 r7 v10 v11 r8 v12 v13 r9 v14 w15 r10 v16 v17 r11 r12 r13 r14 r15 r16 v18 r17 r18 r19 v19 h1 g0 f20 h2 g1 f21 h3 g2 f22 h4 g3 f23 h5 g4 f24 h6 g5 f25 h7 g6 f26 h8 g7 o_h8) t.heap ∧ va_K (dC, dI) vwCl [] t ∧ va_D (va_A (wd_8705ae5b h0 v0 r0 v1 v2 v3 v4 h1 h2 r1 h3 h4 h5 h6 v5 v6 h7 h8 r2 r3 v7 r4 r5 v8 v9 r6 r7 v10 v11 r8 v12 v13 r9 v14 w15 r10 v16 v17 r11 r12 r13 r14 r15 r16 v18 r17 r18 r19 v19 h1 g0 f20 h2 g1 f21 h3 g2 f22 h4 g3 f23 h5 g4 f24 h6 g5 f25 h7 g6 f26 h8 g7 f27) sz) (wd_8705ae5b h0 v0 r0 v1 v2 v3 v4 h1 h2 r1 h3 h4 h5 h6 v5 v6 h7 h8 r2 r3 v7 r4 r5 v8 v9 r6 r7 v10 v11 r8 v12 v13 r9 v14 w15 r10 v16 v17 r11 r12 r13 r14 r15 r16 v18 r17 r18 r19 v19 h1 g0 f20 h2 g1 f21 h3 g2 f22 h4 g3 f23 h5 g4 f24 h6 g5 f25 h7 g6 f26 h8 g7 o_h8))) (va_A (wd_8705ae5b h0 v0 r0 v1 v2 v3 v4 h1 h2 r1 h3 h4 h5 h6 v5 v6 h7 h8 r2 r3 v7 r4 r5 v8 v9 r6 r7 v10 v11 r8 v12 v13 r9 v14 w15 r10 v16 v17 r11 r12 r13 r14 r15 r16 v18 r17 r18 r19 v19 h1 g0 f20 h2 g1 f21 h3 g2 f22 h4 g3 f23 h5 g4 f24 h6 g5 f25 h7 g6 f26 h8 g7 f27) sz)) 0 0 (va_A (wd_8705ae5b h0 v0 r0 v1 v2 v3 v4 h1 h2 r1 h3 h4 h5 h6 v5 v6 h7 h8 r2 r3 v7 r4 r5 v8 v9 r6 r7 v10 v11 r8 v12 v13 r9 v14 w15 r10 v16 v17 r11 r12 r13 r14 r15 r16 v18 r17 r18 r19 v19 h1 g0 f20 h2 g1 f21 h3 g2 f22 h4 g3 f23 h5 g4 f24 h6 g5 f25 h7 g6 f26 h8 g7 f27) sz) := by
  refine Met.ofW (cc := cX12_worthOf) (maxL := 3) (ret := (some .int)) (by decide) rfl ?_
  intro p e s m args below meth c s₁ B hml hv
  obtain ⟨i_v1a, i_v1b⟩ := i_v1
  obtain ⟨i_v5a, i_v5b⟩ := i_v5
  obtain ⟨i_v6a, i_v6b⟩ := i_v6
  obtain ⟨i_v7a, i_v7b⟩ := i_v7
  obtain ⟨i_v8a, i_v8b⟩ := i_v8
  obtain ⟨i_v9a, i_v9b⟩ := i_v9
  obtain ⟨i_v10a, i_v10b⟩ := i_v10
  obtain ⟨i_v14a, i_v14b⟩ := i_v14
  obtain ⟨i_v18a, i_v18b⟩ := i_v18
  obtain ⟨i_v19a, i_v19b⟩ := i_v19
  obtain ⟨i_v28a, i_v28b⟩ := i_v28
  obtain ⟨rfl, hsz, hP, hK, hD0⟩ := hv
  have hx := B.exec
  have hb := B.bytes
  have hr := B.returns
  have hts := atoms_spec (ws := q_X12_worthOf) B.pre
  have hown : s.vm.findClass RX12 = some m.cls := findClass_of_methodNamed B.named
  have hlocks := B.notSynchronized
  subst hsz
  have hD := hD0.self (sz := s.heap.size)
  generalize hAe : va_A (wd_8705ae5b h0 v0 r0 v1 v2 v3 v4 h1 h2 r1 h3 h4 h5 h6 v5 v6 h7 h8 r2 r3 v7 r4 r5 v8 v9 r6 r7 v10 v11 r8 v12 v13 r9 v14 w15 r10 v16 v17 r11 r12 r13 r14 r15 r16 v18 r17 r18 r19 v19 h1 g0 f20 h2 g1 f21 h3 g2 f22 h4 g3 f23 h5 g4 f24 h6 g5 f25 h7 g6 f26 h8 g7 f27) s.heap.size = A at hD ⊢
  have hA : ∀ q : Nat, s.heap.size ≤ q → A q := fun q h => by rw [← hAe]; exact Or.inr h
  have hS : va_S A s.heap s.heap [] := va_S.rf
  generalize hQ : (MQ below _ _ s 0 0 A) = Q
  have hl := lv_entry ([.ref h0, .int v28]) (n := 3) (Nat.le_of_ble_eq_true rfl)
  rw [lg_entry_eq]
  generalize (lg_sl ([.ref h0, .int v28]) ++ List.replicate (3 - (lg_sl ([.ref h0, .int v28])).length) Slot.unset).toArray = ls at hl ⊢
  have hl : lv_has ls 3 [(0, .ref h0), (1, .int v28)] := hl
  obtain ⟨H, hH⟩ : ∃ H : Heap, H = s.heap := ⟨_, rfl⟩
  obtain ⟨locs, hlocs⟩ : ∃ y : List Loc, y = [] := ⟨_, rfl⟩
  have hS : va_S A s.heap H locs := by rw [hH, hlocs]; exact va_S.rf
  have hP : va_P (dC, dI) vwCl (wd_8705ae5b h0 v0 r0 v1 v2 v3 v4 h1 h2 r1 h3 h4 h5 h6 v5 v6 h7 h8 r2 r3 v7 r4 r5 v8 v9 r6 r7 v10 v11 r8 v12 v13 r9 v14 w15 r10 v16 v17 r11 r12 r13 r14 r15 r16 v18 r17 r18 r19 v19 h1 g0 f20 h2 g1 f21 h3 g2 f22 h4 g3 f23 h5 g4 f24 h6 g5 f25 h7 g6 f26 h8 g7 f27) H := by rw [hH]; exact hP
  rw [← hH, ← hlocs]
  refine lv_sipush (v := 140) hx hb dX12_worthOf_0 (by decide) ?_
  refine lv_iload_n hx hb dX12_worthOf_3 rfl (lv_at hl 1 rfl) ?_
  refine lv_imul hx hb dX12_worthOf_4 ?_
  refine lv_topi (fun t1 et1 => ?_)
  have gt1 : t1.toInt = 140 * v28.toInt := pv_mul (a := 140) (b := v28.toInt) et1 (by decide) rfl (by omega) (by omega)
  refine lv_istore_n (lv' := [(2, .int t1), (0, .ref h0), (1, .int v28)]) hx hb dX12_worthOf_5 rfl hl (by decide) rfl (fun ls hl => ?_)
  have hL6 : ∀ (n9 : Nat), ∀ (x2 : Int32) (fn3 : Nat → Int32) (H : Heap) (locs : List Loc) (ls : Array Slot), 0 ≤ x2.toInt → x2.toInt ≤ 699 → (140 * v28.toInt ≤ x2.toInt ∧ x2.toInt ≤ 140 * v28.toInt + 139) → (559 - x2.toInt).toNat < n9 → va_P (dC, dI) vwCl (wd_8705ae5b h0 v0 r0 v1 v2 v3 v4 h1 h2 r1 h3 h4 h5 h6 v5 v6 h7 h8 r2 r3 v7 r4 r5 v8 v9 r6 r7 v10 v11 r8 v12 v13 r9 v14 w15 r10 v16 v17 r11 r12 r13 r14 r15 r16 v18 r17 r18 r19 v19 h1 g0 f20 h2 g1 f21 h3 g2 f22 h4 g3 f23 h5 g4 f24 h6 g5 f25 h7 g6 f26 h8 g7 fn3) H → va_D A (wd_8705ae5b h0 v0 r0 v1 v2 v3 v4 h1 h2 r1 h3 h4 h5 h6 v5 v6 h7 h8 r2 r3 v7 r4 r5 v8 v9 r6 r7 v10 v11 r8 v12 v13 r9 v14 w15 r10 v16 v17 r11 r12 r13 r14 r15 r16 v18 r17 r18 r19 v19 h1 g0 f20 h2 g1 f21 h3 g2 f22 h4 g3 f23 h5 g4 f24 h6 g5 f25 h7 g6 f26 h8 g7 fn3) → va_S A s.heap H locs → lv_has ls 3 [(2, .int x2), (0, .ref h0), (1, .int v28)] → W p l e ({ frames := 4, cells := 0, slots := 0, locals := 87 }) s m ([.ref h0, .int v28] : List Value).toArray below meth c H locs 0 0 Q (F0 m 6 ls []) := by
    intro n9
    induction n9 with
    | zero => intro x2 fn3 H locs ls qa_x2 qb_x2 gh0_hL6 hm9 hP hD hS hl; exact absurd hm9 (Nat.not_lt_zero _)
    | succ n9 ih_hL6 =>
      intro x2 fn3 H locs ls qa_x2 qb_x2 gh0_hL6 hm9 hP hD hS hl
      refine lv_iload_n hx hb dX12_worthOf_6 rfl (lv_at hl 0 rfl) ?_
      refine lv_sipush (v := 140) hx hb dX12_worthOf_7 (by decide) ?_
      refine lv_iload_n hx hb dX12_worthOf_10 rfl (lv_at hl 2 rfl) ?_
      refine lv_imul hx hb dX12_worthOf_11 ?_
      refine lv_topi (fun t7 et7 => ?_)
      have gt7 : t7.toInt = 140 * v28.toInt := pv_mul (a := 140) (b := v28.toInt) et7 (by decide) rfl (by omega) (by omega)
      refine lv_aload_n hx hb dX12_worthOf_12 rfl (lv_at hl 1 rfl) ?_
      refine va_get (D := (dC, dI)) (ci := 12) (v := .ref h3) (C := RX12) (T := TX12) (N := 48) hx hb hts (fun _ h => List.mem_cons_of_mem _ (List.mem_append_right _ h)) hown hK hP 0 rfl rfl 9 (by decide) (hts (.fieldLink RX12 22 "LeftArgumentsModel" "clauses" "[I") (List.mem_cons_of_mem _ (List.mem_append_left _ (List.mem_of_getElem? (i := 0) rfl)))) (fun _ h9 => h9) rfl dX12_worthOf_13 ?_
      refine lv_iload_n hx hb dX12_worthOf_16 rfl (lv_at hl 2 rfl) ?_
      refine va_iald hx hb hK hP 3 2 rfl rfl (vp_in_iff.mpr ⟨by omega, by omega⟩) dX12_worthOf_17 ?_
      refine lv_topi (fun t8 et8 => ?_)
      have gat8 : 0 ≤ t8.toInt ∧ t8.toInt ≤ 139 := by rw [et8]; exact pp0.many (by omega) (by omega)
      refine lv_iadd hx hb dX12_worthOf_18 ?_
      refine lv_topi (fun t9 et9 => ?_)
      have gt9 : t9.toInt = t7.toInt + t8.toInt := pv_add (a := t7.toInt) (b := t8.toInt) et9 rfl rfl (by omega) (by omega)
      refine lv_icmp_ge (tgt := 81) hx hb dX12_worthOf_19 (by decide) (fun c10 => ?_) (fun c10 => ?_)
      · skip
        have fc10 : t9.toInt ≤ x2.toInt := Int32.le_iff_toInt_le.mp c10
        have r1c10 := Int32.toInt_lt x2
        have r2c10 := Int32.toInt_lt t9
        have r3c10 := Int32.le_toInt x2
        have r4c10 := Int32.le_toInt t9
        refine lv_iconst (v := 0) hx hb dX12_worthOf_81 (by decide) ?_
        subst hQ
        have hP9 := hP.sub (ws' := (wd_8705ae5b h0 v0 r0 v1 v2 v3 v4 h1 h2 r1 h3 h4 h5 h6 v5 v6 h7 h8 r2 r3 v7 r4 r5 v8 v9 r6 r7 v10 v11 r8 v12 v13 r9 v14 w15 r10 v16 v17 r11 r12 r13 r14 r15 r16 v18 r17 r18 r19 v19 h1 g0 f20 h2 g1 f21 h3 g2 f22 h4 g3 f23 h5 g4 f24 h6 g5 f25 h7 g6 f26 h8 g7 fn3)) [0, 1, 2, 3, 4, 5, 6, 7, 8] rfl
        have hD9 := hD.sub (ws' := (wd_8705ae5b h0 v0 r0 v1 v2 v3 v4 h1 h2 r1 h3 h4 h5 h6 v5 v6 h7 h8 r2 r3 v7 r4 r5 v8 v9 r6 r7 v10 v11 r8 v12 v13 r9 v14 w15 r10 v16 v17 r11 r12 r13 r14 r15 r16 v18 r17 r18 r19 v19 h1 g0 f20 h2 g1 f21 h3 g2 f22 h4 g3 f23 h5 g4 f24 h6 g5 f25 h7 g6 f26 h8 g7 fn3)) [0, 1, 2, 3, 4, 5, 6, 7, 8] (by decide) rfl
        have hK9 := hK.sub (tys' := []) [] rfl
        exact W.iret (v := 0) hx hb hr (fun t ht hW => ⟨⟨0, 0, rfl, rfl, ⟨fn3, by rw [ht]; exact hP9, va_K.moved hW.alike hK9, hD9⟩⟩, hS.F ht⟩) hS.2.2 dX12_worthOf_82
      · skip
        have fc10 : ¬ (t9.toInt ≤ x2.toInt) := fun h9 => c10 (Int32.le_iff_toInt_le.mpr h9)
        have r1c10 := Int32.toInt_lt x2
        have r2c10 := Int32.toInt_lt t9
        have r3c10 := Int32.le_toInt x2
        have r4c10 := Int32.le_toInt t9
        refine lv_aload_n hx hb dX12_worthOf_22 rfl (lv_at hl 1 rfl) ?_
        refine va_get (D := (dC, dI)) (ci := 12) (v := .ref h4) (C := RX12) (T := TX12) (N := 48) hx hb hts (fun _ h => List.mem_cons_of_mem _ (List.mem_append_right _ h)) hown hK hP 0 rfl rfl 10 (by decide) (hts (.fieldLink RX12 25 "LeftArgumentsModel" "testFrom" "[I") (List.mem_cons_of_mem _ (List.mem_append_left _ (List.mem_of_getElem? (i := 1) rfl)))) (fun _ h9 => h9) rfl dX12_worthOf_23 ?_
        refine lv_iload_n hx hb dX12_worthOf_26 rfl (lv_at hl 0 rfl) ?_
        refine va_iald hx hb hK hP 4 3 rfl rfl (vp_in_iff.mpr ⟨by omega, by omega⟩) dX12_worthOf_27 ?_
        refine lv_topi (fun t11 et11 => ?_)
        have gat11 : 0 ≤ t11.toInt ∧ t11.toInt ≤ 519 := by rw [et11]; first | exact pm_Row.tf pp0 (by assumption) (by omega) (by omega) (by omega) | exact pm_Row.sf pp0 (by assumption) (by omega) (by omega) (by omega) | exact pm_Row.st pp0 (by assumption) (by omega) (by omega) (by omega)
        refine lv_aload_n hx hb dX12_worthOf_28 rfl (lv_at hl 1 rfl) ?_
        refine va_get (D := (dC, dI)) (ci := 12) (v := .ref h5) (C := RX12) (T := TX12) (N := 48) hx hb hts (fun _ h => List.mem_cons_of_mem _ (List.mem_append_right _ h)) hown hK hP 0 rfl rfl 11 (by decide) (hts (.fieldLink RX12 28 "LeftArgumentsModel" "sumFrom" "[I") (List.mem_cons_of_mem _ (List.mem_append_left _ (List.mem_of_getElem? (i := 2) rfl)))) (fun _ h9 => h9) rfl dX12_worthOf_29 ?_
        refine lv_iload_n hx hb dX12_worthOf_32 rfl (lv_at hl 0 rfl) ?_
        refine va_iald hx hb hK hP 5 4 rfl rfl (vp_in_iff.mpr ⟨by omega, by omega⟩) dX12_worthOf_33 ?_
        refine lv_topi (fun t12 et12 => ?_)
        have gat12 : 0 ≤ t12.toInt ∧ t12.toInt ≤ 519 := by rw [et12]; first | exact pm_Row.tf pp0 (by assumption) (by omega) (by omega) (by omega) | exact pm_Row.sf pp0 (by assumption) (by omega) (by omega) (by omega) | exact pm_Row.st pp0 (by assumption) (by omega) (by omega) (by omega)
        refine lv_icmp_eq (tgt := 57) hx hb dX12_worthOf_34 (by decide) (fun c13 => ?_) (fun c13 => ?_)
        · skip
          have fc13 : t11.toInt = t12.toInt := congrArg Int32.toInt c13
          have r1c13 := Int32.toInt_lt t11
          have r2c13 := Int32.toInt_lt t12
          have r3c13 := Int32.le_toInt t11
          have r4c13 := Int32.le_toInt t12
          refine lv_aload_n hx hb dX12_worthOf_57 rfl (lv_at hl 1 rfl) ?_
          refine lv_iload_n hx hb dX12_worthOf_58 rfl (lv_at hl 2 rfl) ?_
          refine lv_aload_n hx hb dX12_worthOf_59 rfl (lv_at hl 1 rfl) ?_
          refine va_get (D := (dC, dI)) (ci := 12) (v := .ref h5) (C := RX12) (T := TX12) (N := 48) hx hb hts (fun _ h => List.mem_cons_of_mem _ (List.mem_append_right _ h)) hown hK hP 0 rfl rfl 11 (by decide) (hts (.fieldLink RX12 28 "LeftArgumentsModel" "sumFrom" "[I") (List.mem_cons_of_mem _ (List.mem_append_left _ (List.mem_of_getElem? (i := 2) rfl)))) (fun _ h9 => h9) rfl dX12_worthOf_60 ?_
          refine lv_iload_n hx hb dX12_worthOf_63 rfl (lv_at hl 0 rfl) ?_
          refine va_iald hx hb hK hP 5 4 rfl rfl (vp_in_iff.mpr ⟨by omega, by omega⟩) dX12_worthOf_64 ?_
          refine lv_topi (fun t14 et14 => ?_)
          have gmt14 : t14.toInt = t12.toInt := by rw [et14, et12]
          have gat14 : 0 ≤ t14.toInt ∧ t14.toInt ≤ 519 := by rw [et14]; first | exact pm_Row.tf pp0 (by assumption) (by omega) (by omega) (by omega) | exact pm_Row.sf pp0 (by assumption) (by omega) (by omega) (by omega) | exact pm_Row.st pp0 (by assumption) (by omega) (by omega) (by omega)
          refine lv_aload_n hx hb dX12_worthOf_65 rfl (lv_at hl 1 rfl) ?_
          refine va_get (D := (dC, dI)) (ci := 12) (v := .ref h6) (C := RX12) (T := TX12) (N := 48) hx hb hts (fun _ h => List.mem_cons_of_mem _ (List.mem_append_right _ h)) hown hK hP 0 rfl rfl 12 (by decide) (hts (.fieldLink RX12 31 "LeftArgumentsModel" "sumTo" "[I") (List.mem_cons_of_mem _ (List.mem_append_left _ (List.mem_of_getElem? (i := 3) rfl)))) (fun _ h9 => h9) rfl dX12_worthOf_66 ?_
          refine lv_iload_n hx hb dX12_worthOf_69 rfl (lv_at hl 0 rfl) ?_
          refine va_iald hx hb hK hP 6 5 rfl rfl (vp_in_iff.mpr ⟨by omega, by omega⟩) dX12_worthOf_70 ?_
          refine lv_topi (fun t15 et15 => ?_)
          have gat15 : 0 ≤ t15.toInt ∧ t15.toInt ≤ 519 := by rw [et15]; first | exact pm_Row.tf pp0 (by assumption) (by omega) (by omega) (by omega) | exact pm_Row.sf pp0 (by assumption) (by omega) (by omega) (by omega) | exact pm_Row.st pp0 (by assumption) (by omega) (by omega) (by omega)
          have hPc := hP.sub (ws' := (wd_ce5ea0ab h0 v0 r0 v1 v2 v3 v4 h1 h2 r1 h3 h4 h5 h6 v5 v6 h7 h8 r2 r3 v7 r4 r5 v8 v9 r6 r7 v10 v11 r8 v12 v13 r9 v14 w15 r10 v16 v17 r11 r12 r13 r14 r15 r16 v18 r17 r18 r19 v19 h1 g0 f20 h2 g1 f21 h7 g6 f26 h8 g7 fn3)) [0, 1, 2, 7, 8] rfl
          have hDc := hD.sub (ws' := (wd_ce5ea0ab h0 v0 r0 v1 v2 v3 v4 h1 h2 r1 h3 h4 h5 h6 v5 v6 h7 h8 r2 r3 v7 r4 r5 v8 v9 r6 r7 v10 v11 r8 v12 v13 r9 v14 w15 r10 v16 v17 r11 r12 r13 r14 r15 r16 v18 r17 r18 r19 v19 h1 g0 f20 h2 g1 f21 h7 g6 f26 h8 g7 fn3)) [0, 1, 2, 7, 8] (by decide) rfl
          have hKc := hK.sub (tys' := [(g0, .int), (g1, .int), (g6, .int), (g7, .int)]) [0, 1, 6, 7] rfl
          have hFc := va_free (wc := (wd_ce5ea0ab h0 v0 r0 v1 v2 v3 v4 h1 h2 r1 h3 h4 h5 h6 v5 v6 h7 h8 r2 r3 v7 r4 r5 v8 v9 r6 r7 v10 v11 r8 v12 v13 r9 v14 w15 r10 v16 v17 r11 r12 r13 r14 r15 r16 v18 r17 r18 r19 v19 h1 g0 f20 h2 g1 f21 h7 g6 f26 h8 g7 fn3)) hD hS hA [0, 1, 2, 7, 8] rfl
          refine va_calli (va_runV (As := [.int v28, .int t14, .int t15]) (rest := []) ⟨hx, hb, hml, hown, hts⟩ (k_X12_workOut l dC dI h0 h1 h2 h7 h8 v0 r0 v1 v2 v3 v4 r1 h3 h4 h5 h6 v5 v6 r2 r3 v7 r4 r5 v8 v9 r6 r7 v10 v11 r8 v12 v13 r9 v14 w15 r10 v16 v17 r11 r12 r13 r14 r15 r16 v18 r17 r18 r19 v19 g0 f20 g1 f21 g6 f26 g7 fn3 v28 t14 t15 ⟨i_v1a, i_v1b⟩ ⟨i_v5a, i_v5b⟩ ⟨i_v6a, i_v6b⟩ ⟨i_v7a, i_v7b⟩ ⟨i_v8a, i_v8b⟩ ⟨i_v9a, i_v9b⟩ ⟨i_v10a, i_v10b⟩ ⟨i_v14a, i_v14b⟩ ⟨i_v18a, i_v18b⟩ ⟨i_v19a, i_v19b⟩ ⟨i_v28a, by first | omega | decide⟩ ⟨by first | omega | decide, by first | omega | decide⟩ ⟨by first | omega | decide, by first | omega | decide⟩ (by first | exact pm_Row.tests pp0 (by assumption) (by assumption) (by assumption) (by omega) (by omega) | exact pm_Row.sums pp0 (by assumption) (by assumption) (by assumption) (by omega) (by omega)) H.size) (cwV 3 hts g_X12_worthOf_0 rfl rfl rfl (by decide +kernel) ⟨Nat.le_of_ble_eq_true rfl, Nat.le_of_ble_eq_true rfl⟩) (pv_PV12 hPc hKc hDc (q0 := 0) rfl) rfl rfl hl.1 rfl (lv_room (Nat.le_of_ble_eq_true rfl)) dX12_worthOf_71 ⟨Nat.le_of_ble_eq_true rfl, Nat.le_of_ble_eq_true rfl⟩) hS (fun q _ h => hFc q h) hFc (fun ra16 u t H1 locs ht hvm hwra16 hB hz1 hk1 hS => ?_)
          try rw [hwra16] at hB
          obtain ⟨fn17, hP1, hK1, hD1⟩ := hB
          rw [ht] at hP1
          obtain ⟨hP2, hD2⟩ := va_join (wr := (wd_9ed5f2f7 h3 g2 f22 h4 g3 f23 h5 g4 f24 h6 g5 f25)) (w1 := (wd_ce5ea0ab h0 v0 r0 v1 v2 v3 v4 h1 h2 r1 h3 h4 h5 h6 v5 v6 h7 h8 r2 r3 v7 r4 r5 v8 v9 r6 r7 v10 v11 r8 v12 v13 r9 v14 w15 r10 v16 v17 r11 r12 r13 r14 r15 r16 v18 r17 r18 r19 v19 h1 g0 f20 h2 g1 f21 h7 g6 f26 h8 g7 fn17)) hP hD [0, 1, 2, 7, 8] [3, 4, 5, 6] rfl rfl (by decide) (by decide) hk1 hFc hP1 hD1
          clear hP hD hPc hDc hKc hFc hP1 hK1 hD1 hk1 hz1
          generalize H1 = H at hP2 hS ⊢
          have hP := hP2.sub (ws' := (wd_8705ae5b h0 v0 r0 v1 v2 v3 v4 h1 h2 r1 h3 h4 h5 h6 v5 v6 h7 h8 r2 r3 v7 r4 r5 v8 v9 r6 r7 v10 v11 r8 v12 v13 r9 v14 w15 r10 v16 v17 r11 r12 r13 r14 r15 r16 v18 r17 r18 r19 v19 h1 g0 f20 h2 g1 f21 h3 g2 f22 h4 g3 f23 h5 g4 f24 h6 g5 f25 h7 g6 f26 h8 g7 fn17)) [4, 5, 6, 0, 1, 2, 3, 7, 8] rfl
          have hD := hD2.sub (ws' := (wd_8705ae5b h0 v0 r0 v1 v2 v3 v4 h1 h2 r1 h3 h4 h5 h6 v5 v6 h7 h8 r2 r3 v7 r4 r5 v8 v9 r6 r7 v10 v11 r8 v12 v13 r9 v14 w15 r10 v16 v17 r11 r12 r13 r14 r15 r16 v18 r17 r18 r19 v19 h1 g0 f20 h2 g1 f21 h3 g2 f22 h4 g3 f23 h5 g4 f24 h6 g5 f25 h7 g6 f26 h8 g7 fn17)) [4, 5, 6, 0, 1, 2, 3, 7, 8] (by decide) rfl
          clear hP2 hD2
          subst hQ
          have hP9 := hP.sub (ws' := (wd_8705ae5b h0 v0 r0 v1 v2 v3 v4 h1 h2 r1 h3 h4 h5 h6 v5 v6 h7 h8 r2 r3 v7 r4 r5 v8 v9 r6 r7 v10 v11 r8 v12 v13 r9 v14 w15 r10 v16 v17 r11 r12 r13 r14 r15 r16 v18 r17 r18 r19 v19 h1 g0 f20 h2 g1 f21 h3 g2 f22 h4 g3 f23 h5 g4 f24 h6 g5 f25 h7 g6 f26 h8 g7 fn17)) [0, 1, 2, 3, 4, 5, 6, 7, 8] rfl
          have hD9 := hD.sub (ws' := (wd_8705ae5b h0 v0 r0 v1 v2 v3 v4 h1 h2 r1 h3 h4 h5 h6 v5 v6 h7 h8 r2 r3 v7 r4 r5 v8 v9 r6 r7 v10 v11 r8 v12 v13 r9 v14 w15 r10 v16 v17 r11 r12 r13 r14 r15 r16 v18 r17 r18 r19 v19 h1 g0 f20 h2 g1 f21 h3 g2 f22 h4 g3 f23 h5 g4 f24 h6 g5 f25 h7 g6 f26 h8 g7 fn17)) [0, 1, 2, 3, 4, 5, 6, 7, 8] (by decide) rfl
          have hK9 := hK.sub (tys' := []) [] rfl
          exact W.iret (v := ra16) hx hb hr (fun t ht hW => ⟨⟨ra16, ra16, rfl, rfl, ⟨fn17, by rw [ht]; exact hP9, va_K.moved hW.alike hK9, hD9⟩⟩, hS.F ht⟩) hS.2.2 dX12_worthOf_74
        · skip
          have fc13 : ¬ (t11.toInt = t12.toInt) := fun h9 => c13 (Int32.toInt_inj.mp h9)
          have r1c13 := Int32.toInt_lt t11
          have r2c13 := Int32.toInt_lt t12
          have r3c13 := Int32.le_toInt t11
          have r4c13 := Int32.le_toInt t12
          refine lv_aload_n hx hb dX12_worthOf_37 rfl (lv_at hl 1 rfl) ?_
          refine lv_iload_n hx hb dX12_worthOf_38 rfl (lv_at hl 2 rfl) ?_
          refine lv_aload_n hx hb dX12_worthOf_39 rfl (lv_at hl 1 rfl) ?_
          refine va_get (D := (dC, dI)) (ci := 12) (v := .ref h4) (C := RX12) (T := TX12) (N := 48) hx hb hts (fun _ h => List.mem_cons_of_mem _ (List.mem_append_right _ h)) hown hK hP 0 rfl rfl 10 (by decide) (hts (.fieldLink RX12 25 "LeftArgumentsModel" "testFrom" "[I") (List.mem_cons_of_mem _ (List.mem_append_left _ (List.mem_of_getElem? (i := 1) rfl)))) (fun _ h9 => h9) rfl dX12_worthOf_40 ?_
          refine lv_iload_n hx hb dX12_worthOf_43 rfl (lv_at hl 0 rfl) ?_
          refine va_iald hx hb hK hP 4 3 rfl rfl (vp_in_iff.mpr ⟨by omega, by omega⟩) dX12_worthOf_44 ?_
          refine lv_topi (fun t18 et18 => ?_)
          have gmt18 : t18.toInt = t11.toInt := by rw [et18, et11]
          have gat18 : 0 ≤ t18.toInt ∧ t18.toInt ≤ 519 := by rw [et18]; first | exact pm_Row.tf pp0 (by assumption) (by omega) (by omega) (by omega) | exact pm_Row.sf pp0 (by assumption) (by omega) (by omega) (by omega) | exact pm_Row.st pp0 (by assumption) (by omega) (by omega) (by omega)
          refine lv_aload_n hx hb dX12_worthOf_45 rfl (lv_at hl 1 rfl) ?_
          refine va_get (D := (dC, dI)) (ci := 12) (v := .ref h5) (C := RX12) (T := TX12) (N := 48) hx hb hts (fun _ h => List.mem_cons_of_mem _ (List.mem_append_right _ h)) hown hK hP 0 rfl rfl 11 (by decide) (hts (.fieldLink RX12 28 "LeftArgumentsModel" "sumFrom" "[I") (List.mem_cons_of_mem _ (List.mem_append_left _ (List.mem_of_getElem? (i := 2) rfl)))) (fun _ h9 => h9) rfl dX12_worthOf_46 ?_
          refine lv_iload_n hx hb dX12_worthOf_49 rfl (lv_at hl 0 rfl) ?_
          refine va_iald hx hb hK hP 5 4 rfl rfl (vp_in_iff.mpr ⟨by omega, by omega⟩) dX12_worthOf_50 ?_
          refine lv_topi (fun t19 et19 => ?_)
          have gmt19 : t19.toInt = t12.toInt := by rw [et19, et12]
          have gat19 : 0 ≤ t19.toInt ∧ t19.toInt ≤ 519 := by rw [et19]; first | exact pm_Row.tf pp0 (by assumption) (by omega) (by omega) (by omega) | exact pm_Row.sf pp0 (by assumption) (by omega) (by omega) (by omega) | exact pm_Row.st pp0 (by assumption) (by omega) (by omega) (by omega)
          have hPc := hP.sub (ws' := (wd_ce5ea0ab h0 v0 r0 v1 v2 v3 v4 h1 h2 r1 h3 h4 h5 h6 v5 v6 h7 h8 r2 r3 v7 r4 r5 v8 v9 r6 r7 v10 v11 r8 v12 v13 r9 v14 w15 r10 v16 v17 r11 r12 r13 r14 r15 r16 v18 r17 r18 r19 v19 h1 g0 f20 h2 g1 f21 h7 g6 f26 h8 g7 fn3)) [0, 1, 2, 7, 8] rfl
          have hDc := hD.sub (ws' := (wd_ce5ea0ab h0 v0 r0 v1 v2 v3 v4 h1 h2 r1 h3 h4 h5 h6 v5 v6 h7 h8 r2 r3 v7 r4 r5 v8 v9 r6 r7 v10 v11 r8 v12 v13 r9 v14 w15 r10 v16 v17 r11 r12 r13 r14 r15 r16 v18 r17 r18 r19 v19 h1 g0 f20 h2 g1 f21 h7 g6 f26 h8 g7 fn3)) [0, 1, 2, 7, 8] (by decide) rfl
          have hKc := hK.sub (tys' := [(g0, .int), (g1, .int), (g6, .int), (g7, .int)]) [0, 1, 6, 7] rfl
          have hFc := va_free (wc := (wd_ce5ea0ab h0 v0 r0 v1 v2 v3 v4 h1 h2 r1 h3 h4 h5 h6 v5 v6 h7 h8 r2 r3 v7 r4 r5 v8 v9 r6 r7 v10 v11 r8 v12 v13 r9 v14 w15 r10 v16 v17 r11 r12 r13 r14 r15 r16 v18 r17 r18 r19 v19 h1 g0 f20 h2 g1 f21 h7 g6 f26 h8 g7 fn3)) hD hS hA [0, 1, 2, 7, 8] rfl
          refine va_calli (va_runV (As := [.int v28, .int t18, .int t19]) (rest := []) ⟨hx, hb, hml, hown, hts⟩ (k_X12_workOut l dC dI h0 h1 h2 h7 h8 v0 r0 v1 v2 v3 v4 r1 h3 h4 h5 h6 v5 v6 r2 r3 v7 r4 r5 v8 v9 r6 r7 v10 v11 r8 v12 v13 r9 v14 w15 r10 v16 v17 r11 r12 r13 r14 r15 r16 v18 r17 r18 r19 v19 g0 f20 g1 f21 g6 f26 g7 fn3 v28 t18 t19 ⟨i_v1a, i_v1b⟩ ⟨i_v5a, i_v5b⟩ ⟨i_v6a, i_v6b⟩ ⟨i_v7a, i_v7b⟩ ⟨i_v8a, i_v8b⟩ ⟨i_v9a, i_v9b⟩ ⟨i_v10a, i_v10b⟩ ⟨i_v14a, i_v14b⟩ ⟨i_v18a, i_v18b⟩ ⟨i_v19a, i_v19b⟩ ⟨i_v28a, by first | omega | decide⟩ ⟨by first | omega | decide, by first | omega | decide⟩ ⟨by first | omega | decide, by first | omega | decide⟩ (by first | exact pm_Row.tests pp0 (by assumption) (by assumption) (by assumption) (by omega) (by omega) | exact pm_Row.sums pp0 (by assumption) (by assumption) (by assumption) (by omega) (by omega)) H.size) (cwV 3 hts g_X12_worthOf_0 rfl rfl rfl (by decide +kernel) ⟨Nat.le_of_ble_eq_true rfl, Nat.le_of_ble_eq_true rfl⟩) (pv_PV12 hPc hKc hDc (q0 := 0) rfl) rfl rfl hl.1 rfl (lv_room (Nat.le_of_ble_eq_true rfl)) dX12_worthOf_51 ⟨Nat.le_of_ble_eq_true rfl, Nat.le_of_ble_eq_true rfl⟩) hS (fun q _ h => hFc q h) hFc (fun ra20 u t H1 locs ht hvm hwra20 hB hz1 hk1 hS => ?_)
          try rw [hwra20] at hB
          obtain ⟨fn21, hP1, hK1, hD1⟩ := hB
          rw [ht] at hP1
          obtain ⟨hP2, hD2⟩ := va_join (wr := (wd_9ed5f2f7 h3 g2 f22 h4 g3 f23 h5 g4 f24 h6 g5 f25)) (w1 := (wd_ce5ea0ab h0 v0 r0 v1 v2 v3 v4 h1 h2 r1 h3 h4 h5 h6 v5 v6 h7 h8 r2 r3 v7 r4 r5 v8 v9 r6 r7 v10 v11 r8 v12 v13 r9 v14 w15 r10 v16 v17 r11 r12 r13 r14 r15 r16 v18 r17 r18 r19 v19 h1 g0 f20 h2 g1 f21 h7 g6 f26 h8 g7 fn21)) hP hD [0, 1, 2, 7, 8] [3, 4, 5, 6] rfl rfl (by decide) (by decide) hk1 hFc hP1 hD1
          clear hP hD hPc hDc hKc hFc hP1 hK1 hD1 hk1 hz1
          generalize H1 = H at hP2 hS ⊢
          have hP := hP2.sub (ws' := (wd_8705ae5b h0 v0 r0 v1 v2 v3 v4 h1 h2 r1 h3 h4 h5 h6 v5 v6 h7 h8 r2 r3 v7 r4 r5 v8 v9 r6 r7 v10 v11 r8 v12 v13 r9 v14 w15 r10 v16 v17 r11 r12 r13 r14 r15 r16 v18 r17 r18 r19 v19 h1 g0 f20 h2 g1 f21 h3 g2 f22 h4 g3 f23 h5 g4 f24 h6 g5 f25 h7 g6 f26 h8 g7 fn21)) [4, 5, 6, 0, 1, 2, 3, 7, 8] rfl
          have hD := hD2.sub (ws' := (wd_8705ae5b h0 v0 r0 v1 v2 v3 v4 h1 h2 r1 h3 h4 h5 h6 v5 v6 h7 h8 r2 r3 v7 r4 r5 v8 v9 r6 r7 v10 v11 r8 v12 v13 r9 v14 w15 r10 v16 v17 r11 r12 r13 r14 r15 r16 v18 r17 r18 r19 v19 h1 g0 f20 h2 g1 f21 h3 g2 f22 h4 g3 f23 h5 g4 f24 h6 g5 f25 h7 g6 f26 h8 g7 fn21)) [4, 5, 6, 0, 1, 2, 3, 7, 8] (by decide) rfl
          clear hP2 hD2
          refine lv_if_eq (tgt := 75) hx hb dX12_worthOf_54 (by decide) (fun c22 => ?_) (fun c22 => ?_)
          · skip
            have fc22 : ra20.toInt = 0 := congrArg Int32.toInt c22
            obtain ⟨t23, et23⟩ : ∃ y : Int32, y = x2 + 1 := ⟨_, rfl⟩
            have gt23 : t23.toInt = x2.toInt + (1) := pv_add (a := x2.toInt) (b := (1)) et23 rfl (by decide) (by omega) (by omega)
            refine lv_iinc (v := t23) (lv' := [(2, .int t23), (0, .ref h0), (1, .int v28)]) hx hb dX12_worthOf_75 hl (k := 0) rfl (by rw [et23]; rfl) (by decide) rfl (fun ls hl => ?_)
            refine lv_goto (tgt := 6) hx hb dX12_worthOf_78 (by decide) ?_
            exact ih_hL6 t23 fn21 H locs ls (by first | omega | decide) (by first | omega | decide) (by constructor <;> omega) (by first | omega | (simp only [Int.toNat] at *; omega)) hP hD hS (lv_sub hl [0, 1, 2] rfl)
          · skip
            have fc22 : ¬ (ra20.toInt = 0) := fun h9 => c22 (Int32.toInt_inj.mp h9)
            refine lv_aload_n hx hb dX12_worthOf_57 rfl (lv_at hl 1 rfl) ?_
            refine lv_iload_n hx hb dX12_worthOf_58 rfl (lv_at hl 2 rfl) ?_
            refine lv_aload_n hx hb dX12_worthOf_59 rfl (lv_at hl 1 rfl) ?_
            refine va_get (D := (dC, dI)) (ci := 12) (v := .ref h5) (C := RX12) (T := TX12) (N := 48) hx hb hts (fun _ h => List.mem_cons_of_mem _ (List.mem_append_right _ h)) hown hK hP 0 rfl rfl 11 (by decide) (hts (.fieldLink RX12 28 "LeftArgumentsModel" "sumFrom" "[I") (List.mem_cons_of_mem _ (List.mem_append_left _ (List.mem_of_getElem? (i := 2) rfl)))) (fun _ h9 => h9) rfl dX12_worthOf_60 ?_
            refine lv_iload_n hx hb dX12_worthOf_63 rfl (lv_at hl 0 rfl) ?_
            refine va_iald hx hb hK hP 5 4 rfl rfl (vp_in_iff.mpr ⟨by omega, by omega⟩) dX12_worthOf_64 ?_
            refine lv_topi (fun t24 et24 => ?_)
            have gmt24 : t24.toInt = t12.toInt := by rw [et24, et12]
            have gat24 : 0 ≤ t24.toInt ∧ t24.toInt ≤ 519 := by rw [et24]; first | exact pm_Row.tf pp0 (by assumption) (by omega) (by omega) (by omega) | exact pm_Row.sf pp0 (by assumption) (by omega) (by omega) (by omega) | exact pm_Row.st pp0 (by assumption) (by omega) (by omega) (by omega)
            refine lv_aload_n hx hb dX12_worthOf_65 rfl (lv_at hl 1 rfl) ?_
            refine va_get (D := (dC, dI)) (ci := 12) (v := .ref h6) (C := RX12) (T := TX12) (N := 48) hx hb hts (fun _ h => List.mem_cons_of_mem _ (List.mem_append_right _ h)) hown hK hP 0 rfl rfl 12 (by decide) (hts (.fieldLink RX12 31 "LeftArgumentsModel" "sumTo" "[I") (List.mem_cons_of_mem _ (List.mem_append_left _ (List.mem_of_getElem? (i := 3) rfl)))) (fun _ h9 => h9) rfl dX12_worthOf_66 ?_
            refine lv_iload_n hx hb dX12_worthOf_69 rfl (lv_at hl 0 rfl) ?_
            refine va_iald hx hb hK hP 6 5 rfl rfl (vp_in_iff.mpr ⟨by omega, by omega⟩) dX12_worthOf_70 ?_
            refine lv_topi (fun t25 et25 => ?_)
            have gat25 : 0 ≤ t25.toInt ∧ t25.toInt ≤ 519 := by rw [et25]; first | exact pm_Row.tf pp0 (by assumption) (by omega) (by omega) (by omega) | exact pm_Row.sf pp0 (by assumption) (by omega) (by omega) (by omega) | exact pm_Row.st pp0 (by assumption) (by omega) (by omega) (by omega)
            have hPc := hP.sub (ws' := (wd_ce5ea0ab h0 v0 r0 v1 v2 v3 v4 h1 h2 r1 h3 h4 h5 h6 v5 v6 h7 h8 r2 r3 v7 r4 r5 v8 v9 r6 r7 v10 v11 r8 v12 v13 r9 v14 w15 r10 v16 v17 r11 r12 r13 r14 r15 r16 v18 r17 r18 r19 v19 h1 g0 f20 h2 g1 f21 h7 g6 f26 h8 g7 fn21)) [0, 1, 2, 7, 8] rfl
            have hDc := hD.sub (ws' := (wd_ce5ea0ab h0 v0 r0 v1 v2 v3 v4 h1 h2 r1 h3 h4 h5 h6 v5 v6 h7 h8 r2 r3 v7 r4 r5 v8 v9 r6 r7 v10 v11 r8 v12 v13 r9 v14 w15 r10 v16 v17 r11 r12 r13 r14 r15 r16 v18 r17 r18 r19 v19 h1 g0 f20 h2 g1 f21 h7 g6 f26 h8 g7 fn21)) [0, 1, 2, 7, 8] (by decide) rfl
            have hKc := hK.sub (tys' := [(g0, .int), (g1, .int), (g6, .int), (g7, .int)]) [0, 1, 6, 7] rfl
            have hFc := va_free (wc := (wd_ce5ea0ab h0 v0 r0 v1 v2 v3 v4 h1 h2 r1 h3 h4 h5 h6 v5 v6 h7 h8 r2 r3 v7 r4 r5 v8 v9 r6 r7 v10 v11 r8 v12 v13 r9 v14 w15 r10 v16 v17 r11 r12 r13 r14 r15 r16 v18 r17 r18 r19 v19 h1 g0 f20 h2 g1 f21 h7 g6 f26 h8 g7 fn21)) hD hS hA [0, 1, 2, 7, 8] rfl
            refine va_calli (va_runV (As := [.int v28, .int t24, .int t25]) (rest := []) ⟨hx, hb, hml, hown, hts⟩ (k_X12_workOut l dC dI h0 h1 h2 h7 h8 v0 r0 v1 v2 v3 v4 r1 h3 h4 h5 h6 v5 v6 r2 r3 v7 r4 r5 v8 v9 r6 r7 v10 v11 r8 v12 v13 r9 v14 w15 r10 v16 v17 r11 r12 r13 r14 r15 r16 v18 r17 r18 r19 v19 g0 f20 g1 f21 g6 f26 g7 fn21 v28 t24 t25 ⟨i_v1a, i_v1b⟩ ⟨i_v5a, i_v5b⟩ ⟨i_v6a, i_v6b⟩ ⟨i_v7a, i_v7b⟩ ⟨i_v8a, i_v8b⟩ ⟨i_v9a, i_v9b⟩ ⟨i_v10a, i_v10b⟩ ⟨i_v14a, i_v14b⟩ ⟨i_v18a, i_v18b⟩ ⟨i_v19a, i_v19b⟩ ⟨i_v28a, by first | omega | decide⟩ ⟨by first | omega | decide, by first | omega | decide⟩ ⟨by first | omega | decide, by first | omega | decide⟩ (by first | exact pm_Row.tests pp0 (by assumption) (by assumption) (by assumption) (by omega) (by omega) | exact pm_Row.sums pp0 (by assumption) (by assumption) (by assumption) (by omega) (by omega)) H.size) (cwV 3 hts g_X12_worthOf_0 rfl rfl rfl (by decide +kernel) ⟨Nat.le_of_ble_eq_true rfl, Nat.le_of_ble_eq_true rfl⟩) (pv_PV12 hPc hKc hDc (q0 := 0) rfl) rfl rfl hl.1 rfl (lv_room (Nat.le_of_ble_eq_true rfl)) dX12_worthOf_71 ⟨Nat.le_of_ble_eq_true rfl, Nat.le_of_ble_eq_true rfl⟩) hS (fun q _ h => hFc q h) hFc (fun ra26 u t H1 locs ht hvm hwra26 hB hz1 hk1 hS => ?_)
            try rw [hwra26] at hB
            obtain ⟨fn27, hP1, hK1, hD1⟩ := hB
            rw [ht] at hP1
            obtain ⟨hP2, hD2⟩ := va_join (wr := (wd_9ed5f2f7 h3 g2 f22 h4 g3 f23 h5 g4 f24 h6 g5 f25)) (w1 := (wd_ce5ea0ab h0 v0 r0 v1 v2 v3 v4 h1 h2 r1 h3 h4 h5 h6 v5 v6 h7 h8 r2 r3 v7 r4 r5 v8 v9 r6 r7 v10 v11 r8 v12 v13 r9 v14 w15 r10 v16 v17 r11 r12 r13 r14 r15 r16 v18 r17 r18 r19 v19 h1 g0 f20 h2 g1 f21 h7 g6 f26 h8 g7 fn27)) hP hD [0, 1, 2, 7, 8] [3, 4, 5, 6] rfl rfl (by decide) (by decide) hk1 hFc hP1 hD1
            clear hP hD hPc hDc hKc hFc hP1 hK1 hD1 hk1 hz1
            generalize H1 = H at hP2 hS ⊢
            have hP := hP2.sub (ws' := (wd_8705ae5b h0 v0 r0 v1 v2 v3 v4 h1 h2 r1 h3 h4 h5 h6 v5 v6 h7 h8 r2 r3 v7 r4 r5 v8 v9 r6 r7 v10 v11 r8 v12 v13 r9 v14 w15 r10 v16 v17 r11 r12 r13 r14 r15 r16 v18 r17 r18 r19 v19 h1 g0 f20 h2 g1 f21 h3 g2 f22 h4 g3 f23 h5 g4 f24 h6 g5 f25 h7 g6 f26 h8 g7 fn27)) [4, 5, 6, 0, 1, 2, 3, 7, 8] rfl
            have hD := hD2.sub (ws' := (wd_8705ae5b h0 v0 r0 v1 v2 v3 v4 h1 h2 r1 h3 h4 h5 h6 v5 v6 h7 h8 r2 r3 v7 r4 r5 v8 v9 r6 r7 v10 v11 r8 v12 v13 r9 v14 w15 r10 v16 v17 r11 r12 r13 r14 r15 r16 v18 r17 r18 r19 v19 h1 g0 f20 h2 g1 f21 h3 g2 f22 h4 g3 f23 h5 g4 f24 h6 g5 f25 h7 g6 f26 h8 g7 fn27)) [4, 5, 6, 0, 1, 2, 3, 7, 8] (by decide) rfl
            clear hP2 hD2
            subst hQ
            have hP9 := hP.sub (ws' := (wd_8705ae5b h0 v0 r0 v1 v2 v3 v4 h1 h2 r1 h3 h4 h5 h6 v5 v6 h7 h8 r2 r3 v7 r4 r5 v8 v9 r6 r7 v10 v11 r8 v12 v13 r9 v14 w15 r10 v16 v17 r11 r12 r13 r14 r15 r16 v18 r17 r18 r19 v19 h1 g0 f20 h2 g1 f21 h3 g2 f22 h4 g3 f23 h5 g4 f24 h6 g5 f25 h7 g6 f26 h8 g7 fn27)) [0, 1, 2, 3, 4, 5, 6, 7, 8] rfl
            have hD9 := hD.sub (ws' := (wd_8705ae5b h0 v0 r0 v1 v2 v3 v4 h1 h2 r1 h3 h4 h5 h6 v5 v6 h7 h8 r2 r3 v7 r4 r5 v8 v9 r6 r7 v10 v11 r8 v12 v13 r9 v14 w15 r10 v16 v17 r11 r12 r13 r14 r15 r16 v18 r17 r18 r19 v19 h1 g0 f20 h2 g1 f21 h3 g2 f22 h4 g3 f23 h5 g4 f24 h6 g5 f25 h7 g6 f26 h8 g7 fn27)) [0, 1, 2, 3, 4, 5, 6, 7, 8] (by decide) rfl
            have hK9 := hK.sub (tys' := []) [] rfl
            exact W.iret (v := ra26) hx hb hr (fun t ht hW => ⟨⟨ra26, ra26, rfl, rfl, ⟨fn27, by rw [ht]; exact hP9, va_K.moved hW.alike hK9, hD9⟩⟩, hS.F ht⟩) hS.2.2 dX12_worthOf_74
  exact hL6 _ t1 f27 H locs ls (by first | omega | decide) (by first | omega | decide) (by constructor <;> omega) (Nat.lt_succ_self _) hP hD hS (lv_sub hl [0, 1, 2] rfl)
def q_X12_of_6 : List Cond := .code yX12_of cX12_of 3 (some .int) :: (([.fieldLink RX12 52 "LeftArgumentsModel" "now" "[I"] : List Cond) ++ wsX120)
set_option maxHeartbeats 4000000 in
set_option maxRecDepth 100000 in
theorem k_X12_of_6 (l : Launch) (dC : Nat → ClassId) (dI : Nat → Nat → Nat) (h0 : Nat) (h1 : Nat) (v0 : Int32) (r0 : Nat) (v1 : Int32) (v2 : Int32) (v3 : Int32) (v4 : Int32) (r1 : Nat) (r2 : Nat) (r3 : Nat) (r4 : Nat) (r5 : Nat) (r6 : Nat) (r7 : Nat) (v5 : Int32) (v6 : Int32) (r8 : Nat) (r9 : Nat) (r10 : Nat) (r11 : Nat) (v7 : Int32) (r12 : Nat) (r13 : Nat) (v8 : Int32) (v9 : Int32) (r14 : Nat) (v10 : Int32) (v11 : Int32) (r15 : Nat) (v12 : Int32) (v13 : Int32) (r16 : Nat) (v14 : Int32) (w15 : Int64) (r17 : Nat) (v16 : Int32) (v17 : Int32) (r18 : Nat) (r19 : Nat) (r20 : Nat) (r21 : Nat) (r22 : Nat) (r23 : Nat) (v18 : Int32) (r24 : Nat) (r25 : Nat) (r26 : Nat) (v19 : Int32) (g0 : ClassId) (f20 : Nat → Int32) (v21 : Int32) (i_v1 : 0 ≤ v1.toInt ∧ v1.toInt ≤ 240) (i_v5 : 0 ≤ v5.toInt ∧ v5.toInt ≤ 4) (i_v6 : 0 ≤ v6.toInt ∧ v6.toInt ≤ 4) (i_v7 : 0 ≤ v7.toInt ∧ v7.toInt ≤ 8) (i_v8 : 0 ≤ v8.toInt ∧ v8.toInt ≤ 8) (i_v9 : 0 ≤ v9.toInt ∧ v9.toInt ≤ 1) (i_v10 : -1 ≤ v10.toInt ∧ v10.toInt ≤ 3) (i_v14 : 0 ≤ v14.toInt ∧ v14.toInt ≤ 40) (i_v18 : 0 ≤ v18.toInt ∧ v18.toInt ≤ 10) (i_v19 : 0 ≤ v19.toInt ∧ v19.toInt ≤ 1) (i_v21 : 0 ≤ v21.toInt ∧ v21.toInt ≤ 7) (ia_f20 : (pm_NW0 f20)) (sz : Nat) : Met l yX12_of q_X12_of_6 ({ frames := 0, cells := 0, slots := 0, locals := 0 }) (va_Pc [.ref h0, .int v21, .int 4] (fun U => U.heap.size = sz ∧ va_P (dC, dI) vwCl (wd_5013416a h0 v0 r0 v1 v2 v3 v4 r1 r2 r3 r4 r5 r6 r7 v5 v6 r8 r9 r10 r11 v7 r12 r13 v8 v9 h1 r14 v10 v11 r15 v12 v13 r16 v14 w15 r17 v16 v17 r18 r19 r20 r21 r22 r23 v18 r24 r25 r26 v19 h1 g0 f20) U.heap ∧ va_K (dC, dI) vwCl [(g0, .int)] U ∧ va_D (fun _ => True) (wd_5013416a h0 v0 r0 v1 v2 v3 v4 r1 r2 r3 r4 r5 r6 r7 v5 v6 r8 r9 r10 r11 v7 r12 r13 v8 v9 h1 r14 v10 v11 r15 v12 v13 r16 v14 w15 r17 v16 v17 r18 r19 r20 r21 r22 r23 v18 r24 r25 r26 v19 h1 g0 f20))) (va_Qi (fun (r : Int32) (r9 : Int32) => r9 = r) (fun (r : Int32) (t : State) => ((0 ≤ r.toInt) ∧ (r.toInt ≤ 1) ∧ (r = f20 (pm_I v21 4)) ∧ va_P (dC, dI) vwCl (wd_5013416a h0 v0 r0 v1 v2 v3 v4 r1 r2 r3 r4 r5 r6 r7 v5 v6 r8 r9 r10 r11 v7 r12 r13 v8 v9 h1 r14 v10 v11 r15 v12 v13 r16 v14 w15 r17 v16 v17 r18 r19 r20 r21 r22 r23 v18 r24 r25 r26 v19 h1 g0 f20) t.heap ∧ va_K (dC, dI) vwCl [] t ∧ va_D (va_A (wd_5013416a h0 v0 r0 v1 v2 v3 v4 r1 r2 r3 r4 r5 r6 r7 v5 v6 r8 r9 r10 r11 v7 r12 r13 v8 v9 h1 r14 v10 v11 r15 v12 v13 r16 v14 w15 r17 v16 v17 r18 r19 r20 r21 r22 r23 v18 r24 r25 r26 v19 h1 g0 f20) sz) (wd_5013416a h0 v0 r0 v1 v2 v3 v4 r1 r2 r3 r4 r5 r6 r7 v5 v6 r8 r9 r10 r11 v7 r12 r13 v8 v9 h1 r14 v10 v11 r15 v12 v13 r16 v14 w15 r17 v16 v17 r18 r19 r20 r21 r22 r23 v18 r24 r25 r26 v19 h1 g0 f20))) (va_A (wd_5013416a h0 v0 r0 v1 v2 v3 v4 r1 r2 r3 r4 r5 r6 r7 v5 v6 r8 r9 r10 r11 v7 r12 r13 v8 v9 h1 r14 v10 v11 r15 v12 v13 r16 v14 w15 r17 v16 v17 r18 r19 r20 r21 r22 r23 v18 r24 r25 r26 v19 h1 g0 f20) sz)) 0 0 (va_A (wd_5013416a h0 v0 r0 v1 v2 v3 v4 r1 r2 r3 r4 r5 r6 r7 v5 v6 r8 r9 r10 r11 v7 r12 r13 v8 v9 h1 r14 v10 v11 r15 v12 v13 r16 v14 w15 r17 v16 v17 r18 r19 r20 r21 r22 r23 v18 r24 r25 r26 v19 h1 g0 f20) sz) := by
  refine Met.ofW (cc := cX12_of) (maxL := 3) (ret := (some .int)) (by decide) rfl ?_
  intro p e s m args below meth c s₁ B hml hv
  obtain ⟨i_v1a, i_v1b⟩ := i_v1
  obtain ⟨i_v5a, i_v5b⟩ := i_v5
  obtain ⟨i_v6a, i_v6b⟩ := i_v6
  obtain ⟨i_v7a, i_v7b⟩ := i_v7
  obtain ⟨i_v8a, i_v8b⟩ := i_v8
  obtain ⟨i_v9a, i_v9b⟩ := i_v9
  obtain ⟨i_v10a, i_v10b⟩ := i_v10
  obtain ⟨i_v14a, i_v14b⟩ := i_v14
  obtain ⟨i_v18a, i_v18b⟩ := i_v18
  obtain ⟨i_v19a, i_v19b⟩ := i_v19
  obtain ⟨i_v21a, i_v21b⟩ := i_v21
  obtain ⟨rfl, hsz, hP, hK, hD0⟩ := hv
  have hx := B.exec
  have hb := B.bytes
  have hr := B.returns
  have hts := atoms_spec (ws := q_X12_of_6) B.pre
  have hown : s.vm.findClass RX12 = some m.cls := findClass_of_methodNamed B.named
  have hlocks := B.notSynchronized
  subst hsz
  have hD := hD0.self (sz := s.heap.size)
  generalize hAe : va_A (wd_5013416a h0 v0 r0 v1 v2 v3 v4 r1 r2 r3 r4 r5 r6 r7 v5 v6 r8 r9 r10 r11 v7 r12 r13 v8 v9 h1 r14 v10 v11 r15 v12 v13 r16 v14 w15 r17 v16 v17 r18 r19 r20 r21 r22 r23 v18 r24 r25 r26 v19 h1 g0 f20) s.heap.size = A at hD ⊢
  have hA : ∀ q : Nat, s.heap.size ≤ q → A q := fun q h => by rw [← hAe]; exact Or.inr h
  have hS : va_S A s.heap s.heap [] := va_S.rf
  generalize hQ : (MQ below _ _ s 0 0 A) = Q
  have hl := lv_entry ([.ref h0, .int v21, .int 4]) (n := 3) (Nat.le_of_ble_eq_true rfl)
  rw [lg_entry_eq]
  generalize (lg_sl ([.ref h0, .int v21, .int 4]) ++ List.replicate (3 - (lg_sl ([.ref h0, .int v21, .int 4])).length) Slot.unset).toArray = ls at hl ⊢
  have hl : lv_has ls 3 [(0, .ref h0), (1, .int v21), (2, .int 4)] := hl
  obtain ⟨H, hH⟩ : ∃ H : Heap, H = s.heap := ⟨_, rfl⟩
  obtain ⟨locs, hlocs⟩ : ∃ y : List Loc, y = [] := ⟨_, rfl⟩
  have hS : va_S A s.heap H locs := by rw [hH, hlocs]; exact va_S.rf
  have hP : va_P (dC, dI) vwCl (wd_5013416a h0 v0 r0 v1 v2 v3 v4 r1 r2 r3 r4 r5 r6 r7 v5 v6 r8 r9 r10 r11 v7 r12 r13 v8 v9 h1 r14 v10 v11 r15 v12 v13 r16 v14 w15 r17 v16 v17 r18 r19 r20 r21 r22 r23 v18 r24 r25 r26 v19 h1 g0 f20) H := by rw [hH]; exact hP
  rw [← hH, ← hlocs]
  refine lv_aload_n hx hb dX12_of_0 rfl (lv_at hl 0 rfl) ?_
  refine va_get (D := (dC, dI)) (ci := 12) (v := .ref h1) (C := RX12) (T := TX12) (N := 48) hx hb hts (fun _ h => List.mem_cons_of_mem _ (List.mem_append_right _ h)) hown hK hP 0 rfl rfl 24 (by decide) (hts (.fieldLink RX12 52 "LeftArgumentsModel" "now" "[I") (List.mem_cons_of_mem _ (List.mem_append_left _ (List.mem_of_getElem? (i := 0) rfl)))) (fun _ h9 => h9) rfl dX12_of_1 ?_
  refine lv_bipush (v := 8) hx hb dX12_of_4 (by decide) ?_
  refine lv_iload_n hx hb dX12_of_6 rfl (lv_at hl 1 rfl) ?_
  refine lv_imul hx hb dX12_of_7 ?_
  refine lv_topi (fun t1 et1 => ?_)
  have gt1 : t1.toInt = 8 * v21.toInt := pv_mul (a := 8) (b := v21.toInt) et1 (by decide) rfl (by omega) (by omega)
  refine lv_iload_n hx hb dX12_of_8 rfl (lv_at hl 2 rfl) ?_
  refine lv_iadd hx hb dX12_of_9 ?_
  refine lv_topi (fun t2 et2 => ?_)
  have gt2 : t2.toInt = t1.toInt + 4 := pv_add (a := t1.toInt) (b := 4) et2 rfl (by decide) (by omega) (by omega)
  refine va_iald hx hb hK hP 1 0 rfl rfl (vp_in_iff.mpr ⟨by omega, by omega⟩) dX12_of_10 ?_
  refine lv_topi (fun t3 et3 => ?_)
  have gat3 : 0 ≤ t3.toInt ∧ t3.toInt ≤ 1 := by rw [et3]; exact (ia_f20).la (b := v21.toInt) (by omega) (by omega) (by omega)
  subst hQ
  have hP9 := hP.sub (ws' := (wd_5013416a h0 v0 r0 v1 v2 v3 v4 r1 r2 r3 r4 r5 r6 r7 v5 v6 r8 r9 r10 r11 v7 r12 r13 v8 v9 h1 r14 v10 v11 r15 v12 v13 r16 v14 w15 r17 v16 v17 r18 r19 r20 r21 r22 r23 v18 r24 r25 r26 v19 h1 g0 f20)) [0, 1] rfl
  have hD9 := hD.sub (ws' := (wd_5013416a h0 v0 r0 v1 v2 v3 v4 r1 r2 r3 r4 r5 r6 r7 v5 v6 r8 r9 r10 r11 v7 r12 r13 v8 v9 h1 r14 v10 v11 r15 v12 v13 r16 v14 w15 r17 v16 v17 r18 r19 r20 r21 r22 r23 v18 r24 r25 r26 v19 h1 g0 f20)) [0, 1] (by decide) rfl
  have hK9 := hK.sub (tys' := []) [] rfl
  exact W.iret (v := t3) hx hb hr (fun t ht hW => ⟨⟨t3, t3, rfl, rfl, ⟨by first | omega | decide, by first | omega | decide, by subst_vars; rfl, by rw [ht]; exact hP9, va_K.moved hW.alike hK9, hD9⟩⟩, hS.F ht⟩) hS.2.2 dX12_of_11
def q_X12_of_7 : List Cond := .code yX12_of cX12_of 3 (some .int) :: (([.fieldLink RX12 52 "LeftArgumentsModel" "now" "[I"] : List Cond) ++ wsX120)
set_option maxHeartbeats 4000000 in
set_option maxRecDepth 100000 in
theorem k_X12_of_7 (l : Launch) (dC : Nat → ClassId) (dI : Nat → Nat → Nat) (h0 : Nat) (h1 : Nat) (v0 : Int32) (r0 : Nat) (v1 : Int32) (v2 : Int32) (v3 : Int32) (v4 : Int32) (r1 : Nat) (r2 : Nat) (r3 : Nat) (r4 : Nat) (r5 : Nat) (r6 : Nat) (r7 : Nat) (v5 : Int32) (v6 : Int32) (r8 : Nat) (r9 : Nat) (r10 : Nat) (r11 : Nat) (v7 : Int32) (r12 : Nat) (r13 : Nat) (v8 : Int32) (v9 : Int32) (r14 : Nat) (v10 : Int32) (v11 : Int32) (r15 : Nat) (v12 : Int32) (v13 : Int32) (r16 : Nat) (v14 : Int32) (w15 : Int64) (r17 : Nat) (v16 : Int32) (v17 : Int32) (r18 : Nat) (r19 : Nat) (r20 : Nat) (r21 : Nat) (r22 : Nat) (r23 : Nat) (v18 : Int32) (r24 : Nat) (r25 : Nat) (r26 : Nat) (v19 : Int32) (g0 : ClassId) (f20 : Nat → Int32) (v21 : Int32) (v22 : Int32) (i_v1 : 0 ≤ v1.toInt ∧ v1.toInt ≤ 240) (i_v5 : 0 ≤ v5.toInt ∧ v5.toInt ≤ 4) (i_v6 : 0 ≤ v6.toInt ∧ v6.toInt ≤ 4) (i_v7 : 0 ≤ v7.toInt ∧ v7.toInt ≤ 8) (i_v8 : 0 ≤ v8.toInt ∧ v8.toInt ≤ 8) (i_v9 : 0 ≤ v9.toInt ∧ v9.toInt ≤ 1) (i_v10 : -1 ≤ v10.toInt ∧ v10.toInt ≤ 3) (i_v14 : 0 ≤ v14.toInt ∧ v14.toInt ≤ 40) (i_v18 : 0 ≤ v18.toInt ∧ v18.toInt ≤ 10) (i_v19 : 0 ≤ v19.toInt ∧ v19.toInt ≤ 1) (i_v21 : 0 ≤ v21.toInt ∧ v21.toInt ≤ 7) (i_v22 : 0 ≤ v22.toInt ∧ v22.toInt ≤ 7) (ia_f20 : (pm_NW0 f20)) (sz : Nat) : Met l yX12_of q_X12_of_7 ({ frames := 0, cells := 0, slots := 0, locals := 0 }) (va_Pc [.ref h0, .int v21, .int v22] (fun U => U.heap.size = sz ∧ va_P (dC, dI) vwCl (wd_5013416a h0 v0 r0 v1 v2 v3 v4 r1 r2 r3 r4 r5 r6 r7 v5 v6 r8 r9 r10 r11 v7 r12 r13 v8 v9 h1 r14 v10 v11 r15 v12 v13 r16 v14 w15 r17 v16 v17 r18 r19 r20 r21 r22 r23 v18 r24 r25 r26 v19 h1 g0 f20) U.heap ∧ va_K (dC, dI) vwCl [(g0, .int)] U ∧ va_D (fun _ => True) (wd_5013416a h0 v0 r0 v1 v2 v3 v4 r1 r2 r3 r4 r5 r6 r7 v5 v6 r8 r9 r10 r11 v7 r12 r13 v8 v9 h1 r14 v10 v11 r15 v12 v13 r16 v14 w15 r17 v16 v17 r18 r19 r20 r21 r22 r23 v18 r24 r25 r26 v19 h1 g0 f20))) (va_Qi (fun (r : Int32) (r9 : Int32) => r9 = r) (fun (r : Int32) (t : State) => ((r = f20 (pm_I v21 v22)) ∧ va_P (dC, dI) vwCl (wd_5013416a h0 v0 r0 v1 v2 v3 v4 r1 r2 r3 r4 r5 r6 r7 v5 v6 r8 r9 r10 r11 v7 r12 r13 v8 v9 h1 r14 v10 v11 r15 v12 v13 r16 v14 w15 r17 v16 v17 r18 r19 r20 r21 r22 r23 v18 r24 r25 r26 v19 h1 g0 f20) t.heap ∧ va_K (dC, dI) vwCl [] t ∧ va_D (va_A (wd_5013416a h0 v0 r0 v1 v2 v3 v4 r1 r2 r3 r4 r5 r6 r7 v5 v6 r8 r9 r10 r11 v7 r12 r13 v8 v9 h1 r14 v10 v11 r15 v12 v13 r16 v14 w15 r17 v16 v17 r18 r19 r20 r21 r22 r23 v18 r24 r25 r26 v19 h1 g0 f20) sz) (wd_5013416a h0 v0 r0 v1 v2 v3 v4 r1 r2 r3 r4 r5 r6 r7 v5 v6 r8 r9 r10 r11 v7 r12 r13 v8 v9 h1 r14 v10 v11 r15 v12 v13 r16 v14 w15 r17 v16 v17 r18 r19 r20 r21 r22 r23 v18 r24 r25 r26 v19 h1 g0 f20))) (va_A (wd_5013416a h0 v0 r0 v1 v2 v3 v4 r1 r2 r3 r4 r5 r6 r7 v5 v6 r8 r9 r10 r11 v7 r12 r13 v8 v9 h1 r14 v10 v11 r15 v12 v13 r16 v14 w15 r17 v16 v17 r18 r19 r20 r21 r22 r23 v18 r24 r25 r26 v19 h1 g0 f20) sz)) 0 0 (va_A (wd_5013416a h0 v0 r0 v1 v2 v3 v4 r1 r2 r3 r4 r5 r6 r7 v5 v6 r8 r9 r10 r11 v7 r12 r13 v8 v9 h1 r14 v10 v11 r15 v12 v13 r16 v14 w15 r17 v16 v17 r18 r19 r20 r21 r22 r23 v18 r24 r25 r26 v19 h1 g0 f20) sz) := by
  refine Met.ofW (cc := cX12_of) (maxL := 3) (ret := (some .int)) (by decide) rfl ?_
  intro p e s m args below meth c s₁ B hml hv
  obtain ⟨i_v1a, i_v1b⟩ := i_v1
  obtain ⟨i_v5a, i_v5b⟩ := i_v5
  obtain ⟨i_v6a, i_v6b⟩ := i_v6
  obtain ⟨i_v7a, i_v7b⟩ := i_v7
  obtain ⟨i_v8a, i_v8b⟩ := i_v8
  obtain ⟨i_v9a, i_v9b⟩ := i_v9
  obtain ⟨i_v10a, i_v10b⟩ := i_v10
  obtain ⟨i_v14a, i_v14b⟩ := i_v14
  obtain ⟨i_v18a, i_v18b⟩ := i_v18
  obtain ⟨i_v19a, i_v19b⟩ := i_v19
  obtain ⟨i_v21a, i_v21b⟩ := i_v21
  obtain ⟨i_v22a, i_v22b⟩ := i_v22
  obtain ⟨rfl, hsz, hP, hK, hD0⟩ := hv
  have hx := B.exec
  have hb := B.bytes
  have hr := B.returns
  have hts := atoms_spec (ws := q_X12_of_7) B.pre
  have hown : s.vm.findClass RX12 = some m.cls := findClass_of_methodNamed B.named
  have hlocks := B.notSynchronized
  subst hsz
  have hD := hD0.self (sz := s.heap.size)
  generalize hAe : va_A (wd_5013416a h0 v0 r0 v1 v2 v3 v4 r1 r2 r3 r4 r5 r6 r7 v5 v6 r8 r9 r10 r11 v7 r12 r13 v8 v9 h1 r14 v10 v11 r15 v12 v13 r16 v14 w15 r17 v16 v17 r18 r19 r20 r21 r22 r23 v18 r24 r25 r26 v19 h1 g0 f20) s.heap.size = A at hD ⊢
  have hA : ∀ q : Nat, s.heap.size ≤ q → A q := fun q h => by rw [← hAe]; exact Or.inr h
  have hS : va_S A s.heap s.heap [] := va_S.rf
  generalize hQ : (MQ below _ _ s 0 0 A) = Q
  have hl := lv_entry ([.ref h0, .int v21, .int v22]) (n := 3) (Nat.le_of_ble_eq_true rfl)
  rw [lg_entry_eq]
  generalize (lg_sl ([.ref h0, .int v21, .int v22]) ++ List.replicate (3 - (lg_sl ([.ref h0, .int v21, .int v22])).length) Slot.unset).toArray = ls at hl ⊢
  have hl : lv_has ls 3 [(0, .ref h0), (1, .int v21), (2, .int v22)] := hl
  obtain ⟨H, hH⟩ : ∃ H : Heap, H = s.heap := ⟨_, rfl⟩
  obtain ⟨locs, hlocs⟩ : ∃ y : List Loc, y = [] := ⟨_, rfl⟩
  have hS : va_S A s.heap H locs := by rw [hH, hlocs]; exact va_S.rf
  have hP : va_P (dC, dI) vwCl (wd_5013416a h0 v0 r0 v1 v2 v3 v4 r1 r2 r3 r4 r5 r6 r7 v5 v6 r8 r9 r10 r11 v7 r12 r13 v8 v9 h1 r14 v10 v11 r15 v12 v13 r16 v14 w15 r17 v16 v17 r18 r19 r20 r21 r22 r23 v18 r24 r25 r26 v19 h1 g0 f20) H := by rw [hH]; exact hP
  rw [← hH, ← hlocs]
  refine lv_aload_n hx hb dX12_of_0 rfl (lv_at hl 0 rfl) ?_
  refine va_get (D := (dC, dI)) (ci := 12) (v := .ref h1) (C := RX12) (T := TX12) (N := 48) hx hb hts (fun _ h => List.mem_cons_of_mem _ (List.mem_append_right _ h)) hown hK hP 0 rfl rfl 24 (by decide) (hts (.fieldLink RX12 52 "LeftArgumentsModel" "now" "[I") (List.mem_cons_of_mem _ (List.mem_append_left _ (List.mem_of_getElem? (i := 0) rfl)))) (fun _ h9 => h9) rfl dX12_of_1 ?_
  refine lv_bipush (v := 8) hx hb dX12_of_4 (by decide) ?_
  refine lv_iload_n hx hb dX12_of_6 rfl (lv_at hl 1 rfl) ?_
  refine lv_imul hx hb dX12_of_7 ?_
  refine lv_topi (fun t1 et1 => ?_)
  have gt1 : t1.toInt = 8 * v21.toInt := pv_mul (a := 8) (b := v21.toInt) et1 (by decide) rfl (by omega) (by omega)
  refine lv_iload_n hx hb dX12_of_8 rfl (lv_at hl 2 rfl) ?_
  refine lv_iadd hx hb dX12_of_9 ?_
  refine lv_topi (fun t2 et2 => ?_)
  have gt2 : t2.toInt = t1.toInt + v22.toInt := pv_add (a := t1.toInt) (b := v22.toInt) et2 rfl rfl (by omega) (by omega)
  refine va_iald hx hb hK hP 1 0 rfl rfl (vp_in_iff.mpr ⟨by omega, by omega⟩) dX12_of_10 ?_
  refine lv_topi (fun t3 et3 => ?_)
  subst hQ
  have hP9 := hP.sub (ws' := (wd_5013416a h0 v0 r0 v1 v2 v3 v4 r1 r2 r3 r4 r5 r6 r7 v5 v6 r8 r9 r10 r11 v7 r12 r13 v8 v9 h1 r14 v10 v11 r15 v12 v13 r16 v14 w15 r17 v16 v17 r18 r19 r20 r21 r22 r23 v18 r24 r25 r26 v19 h1 g0 f20)) [0, 1] rfl
  have hD9 := hD.sub (ws' := (wd_5013416a h0 v0 r0 v1 v2 v3 v4 r1 r2 r3 r4 r5 r6 r7 v5 v6 r8 r9 r10 r11 v7 r12 r13 v8 v9 h1 r14 v10 v11 r15 v12 v13 r16 v14 w15 r17 v16 v17 r18 r19 r20 r21 r22 r23 v18 r24 r25 r26 v19 h1 g0 f20)) [0, 1] (by decide) rfl
  have hK9 := hK.sub (tys' := []) [] rfl
  exact W.iret (v := t3) hx hb hr (fun t ht hW => ⟨⟨t3, t3, rfl, rfl, ⟨by subst_vars; rfl, by rw [ht]; exact hP9, va_K.moved hW.alike hK9, hD9⟩⟩, hS.F ht⟩) hS.2.2 dX12_of_11
def q_X12_growthOf : List Cond := .code yX12_growthOf cX12_growthOf 4 (some .int) :: (([.code yX12_of cX12_of 3 (some .int), .fieldLink RX12 52 "LeftArgumentsModel" "now" "[I", .initialized RX12, .instanceMethod yX12_of, .selects RX12 yX12_of yX12_of, .methodLink RX12 287 yX12_of, .code yX12_withOf cX12_withOf 4 (some .int), .code yX12_isThere cX12_isThere 2 (some .boolean), .code yX12_in cX12_in 3 (some .boolean), .static yX12_in, .methodLink RX12 217 yX12_in, .instanceMethod yX12_isThere, .selects RX12 yX12_isThere yX12_isThere, .methodLink RX12 290 yX12_isThere, .instanceMethod yX12_withOf, .selects RX12 yX12_withOf yX12_withOf, .methodLink RX12 293 yX12_withOf, .fieldLink RX12 58 "LeftArgumentsModel" "holding" "I", .methodLink RX12 299 Lib.Math.min.name, .static Lib.Math.min.name, .initialized "java/lang/Math", .code Lib.Math.min.name Lib.Math.min.code 2 (some .int), .methodLink RX12 301 Lib.Math.max.name, .static Lib.Math.max.name, .code Lib.Math.max.name Lib.Math.max.code 2 (some .int), .fieldLink RX12 34 "LeftArgumentsModel" "letters" "[I", .code yX12_worthOf cX12_worthOf 3 (some .int), .fieldLink RX12 22 "LeftArgumentsModel" "clauses" "[I", .fieldLink RX12 25 "LeftArgumentsModel" "testFrom" "[I", .fieldLink RX12 28 "LeftArgumentsModel" "sumFrom" "[I", .fieldLink RX12 31 "LeftArgumentsModel" "sumTo" "[I", .code yX12_workOut cX12_workOut 6 (some .int), .fieldLink RX12 37 "LeftArgumentsModel" "stack" "[I", .fieldLink RX12 13 "LeftArgumentsModel" "code" "[I", .fieldLink RX12 16 "LeftArgumentsModel" "value" "[I", .code yX12_worked cX12_worked 5 (some .int), .code yX12_bounded cX12_bounded 2 (some .int), .constantLong RX12 192 (-1000000), .constantLong RX12 194 (1000000), .methodLink RX12 196 Lib.MathLoose.min_long.x, .static Lib.MathLoose.min_long.x, .code Lib.MathLoose.min_long.x Lib.MathLoose.min_long.code 4 (some .long), .methodLink RX12 202 Lib.MathLoose.max_long.x, .static Lib.MathLoose.max_long.x, .code Lib.MathLoose.max_long.x Lib.MathLoose.max_long.code 4 (some .long), .static yX12_bounded, .methodLink RX12 205 yX12_bounded, .static yX12_worked, .methodLink RX12 209 yX12_worked, .instanceMethod yX12_workOut, .selects RX12 yX12_workOut yX12_workOut, .methodLink RX12 213 yX12_workOut, .instanceMethod yX12_worthOf, .selects RX12 yX12_worthOf yX12_worthOf, .methodLink RX12 296 yX12_worthOf] : List Cond) ++ wsX120)
set_option maxRecDepth 20000 in
theorem g_X12_growthOf_0 : GoodIn q_X12_growthOf (wsV RX12 287 RX12 yX12_of q_X12_of_6) := goodIn_app (goodIn_r _ [6, 4, 5, 3] rfl (by decide +kernel)) (goodIn_ca (goodIn_r (.code yX12_of cX12_of 3 (some .int) :: [.fieldLink RX12 52 "LeftArgumentsModel" "now" "[I"]) [1, 2] rfl (by decide +kernel)) (goodIn_sub (fun _ h => List.mem_cons_of_mem _ (List.mem_append_right _ h)) gwX12))
set_option maxRecDepth 20000 in
theorem g_X12_growthOf_1 : GoodIn q_X12_growthOf (wsV RX12 287 RX12 yX12_of q_X12_of_7) := goodIn_app (goodIn_r _ [6, 4, 5, 3] rfl (by decide +kernel)) (goodIn_ca (goodIn_r (.code yX12_of cX12_of 3 (some .int) :: [.fieldLink RX12 52 "LeftArgumentsModel" "now" "[I"]) [1, 2] rfl (by decide +kernel)) (goodIn_sub (fun _ h => List.mem_cons_of_mem _ (List.mem_append_right _ h)) gwX12))
set_option maxRecDepth 20000 in
theorem g_X12_growthOf_2 : GoodIn q_X12_growthOf (wsV RX12 293 RX12 yX12_withOf q_X12_withOf) := goodIn_app (goodIn_r _ [17, 15, 16, 3] rfl (by decide +kernel)) (goodIn_ca (goodIn_r (.code yX12_withOf cX12_withOf 4 (some .int) :: [.code yX12_isThere cX12_isThere 2 (some .boolean), .code yX12_in cX12_in 3 (some .boolean), .initialized RX12, .static yX12_in, .methodLink RX12 217 yX12_in, .code yX12_of cX12_of 3 (some .int), .fieldLink RX12 52 "LeftArgumentsModel" "now" "[I", .instanceMethod yX12_of, .selects RX12 yX12_of yX12_of, .methodLink RX12 287 yX12_of, .instanceMethod yX12_isThere, .selects RX12 yX12_isThere yX12_isThere, .methodLink RX12 290 yX12_isThere]) [7, 8, 9, 3, 10, 11, 1, 2, 4, 5, 6, 12, 13, 14] rfl (by decide +kernel)) (goodIn_sub (fun _ h => List.mem_cons_of_mem _ (List.mem_append_right _ h)) gwX12))
set_option maxRecDepth 20000 in
theorem g_X12_growthOf_3 : GoodIn q_X12_growthOf (wsV RX12 287 RX12 yX12_of q_X12_of_3) := goodIn_app (goodIn_r _ [6, 4, 5, 3] rfl (by decide +kernel)) (goodIn_ca (goodIn_r (.code yX12_of cX12_of 3 (some .int) :: [.fieldLink RX12 52 "LeftArgumentsModel" "now" "[I"]) [1, 2] rfl (by decide +kernel)) (goodIn_sub (fun _ h => List.mem_cons_of_mem _ (List.mem_append_right _ h)) gwX12))
set_option maxRecDepth 20000 in
theorem g_X12_growthOf_7 : GoodIn q_X12_growthOf (wsV RX12 287 RX12 yX12_of q_X12_of_5) := goodIn_app (goodIn_r _ [6, 4, 5, 3] rfl (by decide +kernel)) (goodIn_ca (goodIn_r (.code yX12_of cX12_of 3 (some .int) :: [.fieldLink RX12 52 "LeftArgumentsModel" "now" "[I"]) [1, 2] rfl (by decide +kernel)) (goodIn_sub (fun _ h => List.mem_cons_of_mem _ (List.mem_append_right _ h)) gwX12))
set_option maxRecDepth 20000 in
theorem g_X12_growthOf_8 : GoodIn q_X12_growthOf (wsV RX12 296 RX12 yX12_worthOf q_X12_worthOf) := goodIn_app (goodIn_r _ [55, 53, 54, 3] rfl (by decide +kernel)) (goodIn_ca (goodIn_r (.code yX12_worthOf cX12_worthOf 3 (some .int) :: [.fieldLink RX12 22 "LeftArgumentsModel" "clauses" "[I", .fieldLink RX12 25 "LeftArgumentsModel" "testFrom" "[I", .fieldLink RX12 28 "LeftArgumentsModel" "sumFrom" "[I", .fieldLink RX12 31 "LeftArgumentsModel" "sumTo" "[I", .code yX12_workOut cX12_workOut 6 (some .int), .fieldLink RX12 37 "LeftArgumentsModel" "stack" "[I", .fieldLink RX12 13 "LeftArgumentsModel" "code" "[I", .fieldLink RX12 16 "LeftArgumentsModel" "value" "[I", .code yX12_worked cX12_worked 5 (some .int), .code yX12_bounded cX12_bounded 2 (some .int), .constantLong RX12 192 (-1000000), .constantLong RX12 194 (1000000), .methodLink RX12 196 Lib.MathLoose.min_long.x, .static Lib.MathLoose.min_long.x, .initialized "java/lang/Math", .code Lib.MathLoose.min_long.x Lib.MathLoose.min_long.code 4 (some .long), .methodLink RX12 202 Lib.MathLoose.max_long.x, .static Lib.MathLoose.max_long.x, .code Lib.MathLoose.max_long.x Lib.MathLoose.max_long.code 4 (some .long), .initialized RX12, .static yX12_bounded, .methodLink RX12 205 yX12_bounded, .static yX12_worked, .methodLink RX12 209 yX12_worked, .fieldLink RX12 34 "LeftArgumentsModel" "letters" "[I", .instanceMethod yX12_workOut, .selects RX12 yX12_workOut yX12_workOut, .methodLink RX12 213 yX12_workOut]) [27, 28, 29, 30, 31, 32, 33, 34, 35, 36, 37, 38, 39, 40, 41, 21, 42, 43, 44, 45, 3, 46, 47, 48, 49, 26, 50, 51, 52] rfl (by decide +kernel)) (goodIn_sub (fun _ h => List.mem_cons_of_mem _ (List.mem_append_right _ h)) gwX12))
set_option maxHeartbeats 4000000 in
set_option maxRecDepth 100000 in
theorem k_X12_growthOf (l : Launch) (dC : Nat → ClassId) (dI : Nat → Nat → Nat) (h0 : Nat) (h1 : Nat) (h2 : Nat) (h3 : Nat) (h4 : Nat) (h5 : Nat) (h6 : Nat) (h7 : Nat) (h8 : Nat) (h9 : Nat) (v0 : Int32) (r0 : Nat) (v1 : Int32) (v2 : Int32) (v3 : Int32) (v4 : Int32) (r1 : Nat) (v5 : Int32) (v6 : Int32) (r2 : Nat) (r3 : Nat) (v7 : Int32) (r4 : Nat) (r5 : Nat) (v8 : Int32) (v9 : Int32) (r6 : Nat) (v10 : Int32) (v11 : Int32) (r7 : Nat) (v12 : Int32) (v13 : Int32) (r8 : Nat) (v14 : Int32) (w15 : Int64) (r9 : Nat) (v16 : Int32) (v17 : Int32) (r10 : Nat) (r11 : Nat) (r12 : Nat) (r13 : Nat) (r14 : Nat) (r15 : Nat) (v18 : Int32) (r16 : Nat) (r17 : Nat) (r18 : Nat) (v19 : Int32) (g0 : ClassId) (f20 : Nat → Int32) (g1 : ClassId) (f21 : Nat → Int32) (g2 : ClassId) (f22 : Nat → Int32) (g3 : ClassId) (f23 : Nat → Int32) (g4 : ClassId) (f24 : Nat → Int32) (g5 : ClassId) (f25 : Nat → Int32) (g6 : ClassId) (f26 : Nat → Int32) (g7 : ClassId) (f27 : Nat → Int32) (g8 : ClassId) (f28 : Nat → Int32) (v29 : Int32) (i_v1 : 0 ≤ v1.toInt ∧ v1.toInt ≤ 240) (i_v5 : 0 ≤ v5.toInt ∧ v5.toInt ≤ 4) (i_v6 : 0 ≤ v6.toInt ∧ v6.toInt ≤ 4) (i_v7 : 0 ≤ v7.toInt ∧ v7.toInt ≤ 8) (i_v8 : 0 ≤ v8.toInt ∧ v8.toInt ≤ 8) (i_v9 : 0 ≤ v9.toInt ∧ v9.toInt ≤ 1) (i_v10 : -1 ≤ v10.toInt ∧ v10.toInt ≤ 3) (i_v14 : 0 ≤ v14.toInt ∧ v14.toInt ≤ 40) (i_v18 : 0 ≤ v18.toInt ∧ v18.toInt ≤ 10) (i_v19 : 0 ≤ v19.toInt ∧ v19.toInt ≤ 1) (i_v29 : 0 ≤ v29.toInt ∧ v29.toInt ≤ 7) (ia_f28 : (pm_NW0 f28)) (pp0 : pm_Held v10 f20 f21 f22 f23 f24 f25) (sz : Nat) : Met l yX12_growthOf q_X12_growthOf ({ frames := 5, cells := 0, slots := 0, locals := 109 }) (va_Pc [.ref h0, .int v29] (fun U => U.heap.size = sz ∧ va_P (dC, dI) vwCl (wd_c0e4689d h0 v0 r0 v1 v2 v3 v4 h1 h2 r1 h3 h4 h5 h6 v5 v6 h7 h8 r2 r3 v7 r4 r5 v8 v9 h9 r6 v10 v11 r7 v12 v13 r8 v14 w15 r9 v16 v17 r10 r11 r12 r13 r14 r15 v18 r16 r17 r18 v19 h1 g0 f20 h2 g1 f21 h3 g2 f22 h4 g3 f23 h5 g4 f24 h6 g5 f25 h7 g6 f26 h8 g7 f27 h9 g8 f28) U.heap ∧ va_K (dC, dI) vwCl [(g0, .int), (g1, .int), (g2, .int), (g3, .int), (g4, .int), (g5, .int), (g6, .int), (g7, .int), (g8, .int)] U ∧ va_D (fun _ => True) (wd_c0e4689d h0 v0 r0 v1 v2 v3 v4 h1 h2 r1 h3 h4 h5 h6 v5 v6 h7 h8 r2 r3 v7 r4 r5 v8 v9 h9 r6 v10 v11 r7 v12 v13 r8 v14 w15 r9 v16 v17 r10 r11 r12 r13 r14 r15 v18 r16 r17 r18 v19 h1 g0 f20 h2 g1 f21 h3 g2 f22 h4 g3 f23 h5 g4 f24 h6 g5 f25 h7 g6 f26 h8 g7 f27 h9 g8 f28))) (va_Qi (fun (r : Int32) (r9 : Int32) => r9 = r) (fun (r : Int32) (t : State) => (∃ (o_h7 : Nat → Int32) (o_h8 : Nat → Int32), (-9 ≤ r.toInt) ∧ (r.toInt ≤ 9) ∧ va_P (dC, dI) vwCl (wd_c0e4689d h0 v0 r0 v1 v2 v3 v4 h1 h2 r1 h3 h4 h5 h6 v5 v6 h7 h8 r2 r3 v7 r4 r5 v8 v9 h9 r6 v10 v11 r7 v12 v13 r8 v14 w15 r9 v16 v17 r10 r11 r12 r13 r14 r15 v18 r16 r17 r18 v19 h1 g0 f20 h2 g1 f21 h3 g2 f22 h4 g3 f23 h5 g4 f24 h6 g5 f25 h7 g6 o_h7 h8 g7 o_h8 h9 g8 f28) t.heap ∧ va_K (dC, dI) vwCl [] t ∧ va_D (va_A (wd_c0e4689d h0 v0 r0 v1 v2 v3 v4 h1 h2 r1 h3 h4 h5 h6 v5 v6 h7 h8 r2 r3 v7 r4 r5 v8 v9 h9 r6 v10 v11 r7 v12 v13 r8 v14 w15 r9 v16 v17 r10 r11 r12 r13 r14 r15 v18 r16 r17 r18 v19 h1 g0 f20 h2 g1 f21 h3 g2 f22 h4 g3 f23 h5 g4 f24 h6 g5 f25 h7 g6 f26 h8 g7 f27 h9 g8 f28) sz) (wd_c0e4689d h0 v0 r0 v1 v2 v3 v4 h1 h2 r1 h3 h4 h5 h6 v5 v6 h7 h8 r2 r3 v7 r4 r5 v8 v9 h9 r6 v10 v11 r7 v12 v13 r8 v14 w15 r9 v16 v17 r10 r11 r12 r13 r14 r15 v18 r16 r17 r18 v19 h1 g0 f20 h2 g1 f21 h3 g2 f22 h4 g3 f23 h5 g4 f24 h6 g5 f25 h7 g6 o_h7 h8 g7 o_h8 h9 g8 f28))) (va_A (wd_c0e4689d h0 v0 r0 v1 v2 v3 v4 h1 h2 r1 h3 h4 h5 h6 v5 v6 h7 h8 r2 r3 v7 r4 r5 v8 v9 h9 r6 v10 v11 r7 v12 v13 r8 v14 w15 r9 v16 v17 r10 r11 r12 r13 r14 r15 v18 r16 r17 r18 v19 h1 g0 f20 h2 g1 f21 h3 g2 f22 h4 g3 f23 h5 g4 f24 h6 g5 f25 h7 g6 f26 h8 g7 f27 h9 g8 f28) sz)) 0 0 (va_A (wd_c0e4689d h0 v0 r0 v1 v2 v3 v4 h1 h2 r1 h3 h4 h5 h6 v5 v6 h7 h8 r2 r3 v7 r4 r5 v8 v9 h9 r6 v10 v11 r7 v12 v13 r8 v14 w15 r9 v16 v17 r10 r11 r12 r13 r14 r15 v18 r16 r17 r18 v19 h1 g0 f20 h2 g1 f21 h3 g2 f22 h4 g3 f23 h5 g4 f24 h6 g5 f25 h7 g6 f26 h8 g7 f27 h9 g8 f28) sz) := by
  refine Met.ofW (cc := cX12_growthOf) (maxL := 4) (ret := (some .int)) (by decide) rfl ?_
  intro p e s m args below meth c s₁ B hml hv
  obtain ⟨i_v1a, i_v1b⟩ := i_v1
  obtain ⟨i_v5a, i_v5b⟩ := i_v5
  obtain ⟨i_v6a, i_v6b⟩ := i_v6
  obtain ⟨i_v7a, i_v7b⟩ := i_v7
  obtain ⟨i_v8a, i_v8b⟩ := i_v8
  obtain ⟨i_v9a, i_v9b⟩ := i_v9
  obtain ⟨i_v10a, i_v10b⟩ := i_v10
  obtain ⟨i_v14a, i_v14b⟩ := i_v14
  obtain ⟨i_v18a, i_v18b⟩ := i_v18
  obtain ⟨i_v19a, i_v19b⟩ := i_v19
  obtain ⟨i_v29a, i_v29b⟩ := i_v29
  obtain ⟨rfl, hsz, hP, hK, hD0⟩ := hv
  have hx := B.exec
  have hb := B.bytes
  have hr := B.returns
  have hts := atoms_spec (ws := q_X12_growthOf) B.pre
  have hown : s.vm.findClass RX12 = some m.cls := findClass_of_methodNamed B.named
  have hlocks := B.notSynchronized
  subst hsz
  have hD := hD0.self (sz := s.heap.size)
  generalize hAe : va_A (wd_c0e4689d h0 v0 r0 v1 v2 v3 v4 h1 h2 r1 h3 h4 h5 h6 v5 v6 h7 h8 r2 r3 v7 r4 r5 v8 v9 h9 r6 v10 v11 r7 v12 v13 r8 v14 w15 r9 v16 v17 r10 r11 r12 r13 r14 r15 v18 r16 r17 r18 v19 h1 g0 f20 h2 g1 f21 h3 g2 f22 h4 g3 f23 h5 g4 f24 h6 g5 f25 h7 g6 f26 h8 g7 f27 h9 g8 f28) s.heap.size = A at hD ⊢
  have hA : ∀ q : Nat, s.heap.size ≤ q → A q := fun q h => by rw [← hAe]; exact Or.inr h
  have hS : va_S A s.heap s.heap [] := va_S.rf
  generalize hQ : (MQ below _ _ s 0 0 A) = Q
  have hl := lv_entry ([.ref h0, .int v29]) (n := 4) (Nat.le_of_ble_eq_true rfl)
  rw [lg_entry_eq]
  generalize (lg_sl ([.ref h0, .int v29]) ++ List.replicate (4 - (lg_sl ([.ref h0, .int v29])).length) Slot.unset).toArray = ls at hl ⊢
  have hl : lv_has ls 4 [(0, .ref h0), (1, .int v29)] := hl
  obtain ⟨H, hH⟩ : ∃ H : Heap, H = s.heap := ⟨_, rfl⟩
  obtain ⟨locs, hlocs⟩ : ∃ y : List Loc, y = [] := ⟨_, rfl⟩
  have hS : va_S A s.heap H locs := by rw [hH, hlocs]; exact va_S.rf
  have hP : va_P (dC, dI) vwCl (wd_c0e4689d h0 v0 r0 v1 v2 v3 v4 h1 h2 r1 h3 h4 h5 h6 v5 v6 h7 h8 r2 r3 v7 r4 r5 v8 v9 h9 r6 v10 v11 r7 v12 v13 r8 v14 w15 r9 v16 v17 r10 r11 r12 r13 r14 r15 v18 r16 r17 r18 v19 h1 g0 f20 h2 g1 f21 h3 g2 f22 h4 g3 f23 h5 g4 f24 h6 g5 f25 h7 g6 f26 h8 g7 f27 h9 g8 f28) H := by rw [hH]; exact hP
  rw [← hH, ← hlocs]
  refine lv_iconst (v := 1) hx hb dX12_growthOf_0 (by decide) ?_
  refine lv_aload_n hx hb dX12_growthOf_1 rfl (lv_at hl 0 rfl) ?_
  refine lv_iload_n hx hb dX12_growthOf_2 rfl (lv_at hl 1 rfl) ?_
  refine lv_iconst (v := 4) hx hb dX12_growthOf_3 (by decide) ?_
  have hPc := hP.sub (ws' := (wd_5013416a h0 v0 r0 v1 v2 v3 v4 h1 h2 r1 h3 h4 h5 h6 v5 v6 h7 h8 r2 r3 v7 r4 r5 v8 v9 h9 r6 v10 v11 r7 v12 v13 r8 v14 w15 r9 v16 v17 r10 r11 r12 r13 r14 r15 v18 r16 r17 r18 v19 h9 g8 f28)) [0, 9] rfl
  have hDc := hD.sub (ws' := (wd_5013416a h0 v0 r0 v1 v2 v3 v4 h1 h2 r1 h3 h4 h5 h6 v5 v6 h7 h8 r2 r3 v7 r4 r5 v8 v9 h9 r6 v10 v11 r7 v12 v13 r8 v14 w15 r9 v16 v17 r10 r11 r12 r13 r14 r15 v18 r16 r17 r18 v19 h9 g8 f28)) [0, 9] (by decide) rfl
  have hKc := hK.sub (tys' := [(g8, .int)]) [8] rfl
  have hFc := va_free (wc := (wd_5013416a h0 v0 r0 v1 v2 v3 v4 h1 h2 r1 h3 h4 h5 h6 v5 v6 h7 h8 r2 r3 v7 r4 r5 v8 v9 h9 r6 v10 v11 r7 v12 v13 r8 v14 w15 r9 v16 v17 r10 r11 r12 r13 r14 r15 v18 r16 r17 r18 v19 h9 g8 f28)) hD hS hA [0, 9] rfl
  refine va_calli (va_runV (As := [.int v29, .int 4]) (rest := [.int 1]) ⟨hx, hb, hml, hown, hts⟩ (k_X12_of_6 l dC dI h0 h9 v0 r0 v1 v2 v3 v4 h1 h2 r1 h3 h4 h5 h6 v5 v6 h7 h8 r2 r3 v7 r4 r5 v8 v9 r6 v10 v11 r7 v12 v13 r8 v14 w15 r9 v16 v17 r10 r11 r12 r13 r14 r15 v18 r16 r17 r18 v19 g8 f28 v29 ⟨i_v1a, i_v1b⟩ ⟨i_v5a, i_v5b⟩ ⟨i_v6a, i_v6b⟩ ⟨i_v7a, i_v7b⟩ ⟨i_v8a, i_v8b⟩ ⟨i_v9a, i_v9b⟩ ⟨i_v10a, i_v10b⟩ ⟨i_v14a, i_v14b⟩ ⟨i_v18a, i_v18b⟩ ⟨i_v19a, i_v19b⟩ ⟨i_v29a, i_v29b⟩ ia_f28 H.size) (cwV 2 hts g_X12_growthOf_0 rfl rfl rfl (by decide +kernel) ⟨Nat.le_of_ble_eq_true rfl, Nat.le_of_ble_eq_true rfl⟩) (pv_PV12 hPc hKc hDc (q0 := 0) rfl) rfl rfl hl.1 rfl (lv_room (Nat.le_of_ble_eq_true rfl)) dX12_growthOf_4 ⟨Nat.le_of_ble_eq_true rfl, Nat.le_of_ble_eq_true rfl⟩) hS (fun q _ h => hFc q h) hFc (fun ra1 u t H1 locs ht hvm hwra1 hB hz1 hk1 hS => ?_)
  try rw [hwra1] at hB
  obtain ⟨pt0_ra1, pt1_ra1, pt2_ra1, hP1, hK1, hD1⟩ := hB
  rw [ht] at hP1
  obtain ⟨hP2, hD2⟩ := va_join (wr := (wd_a0bd977d h1 g0 f20 h2 g1 f21 h3 g2 f22 h4 g3 f23 h5 g4 f24 h6 g5 f25 h7 g6 f26 h8 g7 f27)) (w1 := (wd_5013416a h0 v0 r0 v1 v2 v3 v4 h1 h2 r1 h3 h4 h5 h6 v5 v6 h7 h8 r2 r3 v7 r4 r5 v8 v9 h9 r6 v10 v11 r7 v12 v13 r8 v14 w15 r9 v16 v17 r10 r11 r12 r13 r14 r15 v18 r16 r17 r18 v19 h9 g8 f28)) hP hD [0, 9] [1, 2, 3, 4, 5, 6, 7, 8] rfl rfl (by decide) (by decide) hk1 hFc hP1 hD1
  clear hP hD hPc hDc hKc hFc hP1 hK1 hD1 hk1 hz1
  generalize H1 = H at hP2 hS ⊢
  have hP := hP2.sub (ws' := (wd_c0e4689d h0 v0 r0 v1 v2 v3 v4 h1 h2 r1 h3 h4 h5 h6 v5 v6 h7 h8 r2 r3 v7 r4 r5 v8 v9 h9 r6 v10 v11 r7 v12 v13 r8 v14 w15 r9 v16 v17 r10 r11 r12 r13 r14 r15 v18 r16 r17 r18 v19 h1 g0 f20 h2 g1 f21 h3 g2 f22 h4 g3 f23 h5 g4 f24 h6 g5 f25 h7 g6 f26 h8 g7 f27 h9 g8 f28)) [8, 0, 1, 2, 3, 4, 5, 6, 7, 9] rfl
  have hD := hD2.sub (ws' := (wd_c0e4689d h0 v0 r0 v1 v2 v3 v4 h1 h2 r1 h3 h4 h5 h6 v5 v6 h7 h8 r2 r3 v7 r4 r5 v8 v9 h9 r6 v10 v11 r7 v12 v13 r8 v14 w15 r9 v16 v17 r10 r11 r12 r13 r14 r15 v18 r16 r17 r18 v19 h1 g0 f20 h2 g1 f21 h3 g2 f22 h4 g3 f23 h5 g4 f24 h6 g5 f25 h7 g6 f26 h8 g7 f27 h9 g8 f28)) [8, 0, 1, 2, 3, 4, 5, 6, 7, 9] (by decide +kernel) rfl
  clear hP2 hD2
  refine lv_isub hx hb dX12_growthOf_7 ?_
  refine lv_topi (fun t2 et2 => ?_)
  have gt2 : t2.toInt = 1 - ra1.toInt := pv_sub (a := 1) (b := ra1.toInt) et2 (by decide) rfl (by omega) (by omega)
  refine lv_istore_n (lv' := [(2, .int t2), (0, .ref h0), (1, .int v29)]) hx hb dX12_growthOf_8 rfl hl (by decide) rfl (fun ls hl => ?_)
  refine lv_aload_n hx hb dX12_growthOf_9 rfl (lv_at hl 1 rfl) ?_
  refine lv_iload_n hx hb dX12_growthOf_10 rfl (lv_at hl 2 rfl) ?_
  refine lv_iconst (v := 1) hx hb dX12_growthOf_11 (by decide) ?_
  refine lv_iload_n hx hb dX12_growthOf_12 rfl (lv_at hl 0 rfl) ?_
  refine lv_iadd hx hb dX12_growthOf_13 ?_
  refine lv_topi (fun t3 et3 => ?_)
  have gt3 : t3.toInt = 1 + t2.toInt := pv_add (a := 1) (b := t2.toInt) et3 (by decide) rfl (by omega) (by omega)
  have hPc := hP.sub (ws' := (wd_5013416a h0 v0 r0 v1 v2 v3 v4 h1 h2 r1 h3 h4 h5 h6 v5 v6 h7 h8 r2 r3 v7 r4 r5 v8 v9 h9 r6 v10 v11 r7 v12 v13 r8 v14 w15 r9 v16 v17 r10 r11 r12 r13 r14 r15 v18 r16 r17 r18 v19 h9 g8 f28)) [0, 9] rfl
  have hDc := hD.sub (ws' := (wd_5013416a h0 v0 r0 v1 v2 v3 v4 h1 h2 r1 h3 h4 h5 h6 v5 v6 h7 h8 r2 r3 v7 r4 r5 v8 v9 h9 r6 v10 v11 r7 v12 v13 r8 v14 w15 r9 v16 v17 r10 r11 r12 r13 r14 r15 v18 r16 r17 r18 v19 h9 g8 f28)) [0, 9] (by decide) rfl
  have hKc := hK.sub (tys' := [(g8, .int)]) [8] rfl
  have hFc := va_free (wc := (wd_5013416a h0 v0 r0 v1 v2 v3 v4 h1 h2 r1 h3 h4 h5 h6 v5 v6 h7 h8 r2 r3 v7 r4 r5 v8 v9 h9 r6 v10 v11 r7 v12 v13 r8 v14 w15 r9 v16 v17 r10 r11 r12 r13 r14 r15 v18 r16 r17 r18 v19 h9 g8 f28)) hD hS hA [0, 9] rfl
  refine va_calli (va_runV (As := [.int v29, .int t3]) (rest := []) ⟨hx, hb, hml, hown, hts⟩ (k_X12_of_7 l dC dI h0 h9 v0 r0 v1 v2 v3 v4 h1 h2 r1 h3 h4 h5 h6 v5 v6 h7 h8 r2 r3 v7 r4 r5 v8 v9 r6 v10 v11 r7 v12 v13 r8 v14 w15 r9 v16 v17 r10 r11 r12 r13 r14 r15 v18 r16 r17 r18 v19 g8 f28 v29 t3 ⟨i_v1a, i_v1b⟩ ⟨i_v5a, i_v5b⟩ ⟨i_v6a, i_v6b⟩ ⟨i_v7a, i_v7b⟩ ⟨i_v8a, i_v8b⟩ ⟨i_v9a, i_v9b⟩ ⟨i_v10a, i_v10b⟩ ⟨i_v14a, i_v14b⟩ ⟨i_v18a, i_v18b⟩ ⟨i_v19a, i_v19b⟩ ⟨i_v29a, i_v29b⟩ ⟨by first | omega | decide, by first | omega | decide⟩ ia_f28 H.size) (cwV 2 hts g_X12_growthOf_1 rfl rfl rfl (by decide +kernel) ⟨Nat.le_of_ble_eq_true rfl, Nat.le_of_ble_eq_true rfl⟩) (pv_PV12 hPc hKc hDc (q0 := 0) rfl) rfl rfl hl.1 rfl (lv_room (Nat.le_of_ble_eq_true rfl)) dX12_growthOf_14 ⟨Nat.le_of_ble_eq_true rfl, Nat.le_of_ble_eq_true rfl⟩) hS (fun q _ h => hFc q h) hFc (fun ra4 u t H1 locs ht hvm hwra4 hB hz1 hk1 hS => ?_)
  try rw [hwra4] at hB
  obtain ⟨pt0_ra4, hP1, hK1, hD1⟩ := hB
  rw [ht] at hP1
  obtain ⟨hP2, hD2⟩ := va_join (wr := (wd_a0bd977d h1 g0 f20 h2 g1 f21 h3 g2 f22 h4 g3 f23 h5 g4 f24 h6 g5 f25 h7 g6 f26 h8 g7 f27)) (w1 := (wd_5013416a h0 v0 r0 v1 v2 v3 v4 h1 h2 r1 h3 h4 h5 h6 v5 v6 h7 h8 r2 r3 v7 r4 r5 v8 v9 h9 r6 v10 v11 r7 v12 v13 r8 v14 w15 r9 v16 v17 r10 r11 r12 r13 r14 r15 v18 r16 r17 r18 v19 h9 g8 f28)) hP hD [0, 9] [1, 2, 3, 4, 5, 6, 7, 8] rfl rfl (by decide) (by decide) hk1 hFc hP1 hD1
  clear hP hD hPc hDc hKc hFc hP1 hK1 hD1 hk1 hz1
  generalize H1 = H at hP2 hS ⊢
  have hP := hP2.sub (ws' := (wd_c0e4689d h0 v0 r0 v1 v2 v3 v4 h1 h2 r1 h3 h4 h5 h6 v5 v6 h7 h8 r2 r3 v7 r4 r5 v8 v9 h9 r6 v10 v11 r7 v12 v13 r8 v14 w15 r9 v16 v17 r10 r11 r12 r13 r14 r15 v18 r16 r17 r18 v19 h1 g0 f20 h2 g1 f21 h3 g2 f22 h4 g3 f23 h5 g4 f24 h6 g5 f25 h7 g6 f26 h8 g7 f27 h9 g8 f28)) [8, 0, 1, 2, 3, 4, 5, 6, 7, 9] rfl
  have hD := hD2.sub (ws' := (wd_c0e4689d h0 v0 r0 v1 v2 v3 v4 h1 h2 r1 h3 h4 h5 h6 v5 v6 h7 h8 r2 r3 v7 r4 r5 v8 v9 h9 r6 v10 v11 r7 v12 v13 r8 v14 w15 r9 v16 v17 r10 r11 r12 r13 r14 r15 v18 r16 r17 r18 v19 h1 g0 f20 h2 g1 f21 h3 g2 f22 h4 g3 f23 h5 g4 f24 h6 g5 f25 h7 g6 f26 h8 g7 f27 h9 g8 f28)) [8, 0, 1, 2, 3, 4, 5, 6, 7, 9] (by decide +kernel) rfl
  clear hP2 hD2
  refine lv_iconst (v := 2) hx hb dX12_growthOf_17 (by decide) ?_
  refine lv_idiv hx hb dX12_growthOf_18 (by decide) ?_
  refine lv_topi (fun t5 et5 => ?_)
  obtain ⟨gat5, gbt5⟩ := pv_dv2 et5 (by decide)
  refine lv_aload_n hx hb dX12_growthOf_19 rfl (lv_at hl 1 rfl) ?_
  refine lv_iload_n hx hb dX12_growthOf_20 rfl (lv_at hl 2 rfl) ?_
  have hPc := hP.sub (ws' := (wd_5013416a h0 v0 r0 v1 v2 v3 v4 h1 h2 r1 h3 h4 h5 h6 v5 v6 h7 h8 r2 r3 v7 r4 r5 v8 v9 h9 r6 v10 v11 r7 v12 v13 r8 v14 w15 r9 v16 v17 r10 r11 r12 r13 r14 r15 v18 r16 r17 r18 v19 h9 g8 f28)) [0, 9] rfl
  have hDc := hD.sub (ws' := (wd_5013416a h0 v0 r0 v1 v2 v3 v4 h1 h2 r1 h3 h4 h5 h6 v5 v6 h7 h8 r2 r3 v7 r4 r5 v8 v9 h9 r6 v10 v11 r7 v12 v13 r8 v14 w15 r9 v16 v17 r10 r11 r12 r13 r14 r15 v18 r16 r17 r18 v19 h9 g8 f28)) [0, 9] (by decide) rfl
  have hKc := hK.sub (tys' := [(g8, .int)]) [8] rfl
  have hFc := va_free (wc := (wd_5013416a h0 v0 r0 v1 v2 v3 v4 h1 h2 r1 h3 h4 h5 h6 v5 v6 h7 h8 r2 r3 v7 r4 r5 v8 v9 h9 r6 v10 v11 r7 v12 v13 r8 v14 w15 r9 v16 v17 r10 r11 r12 r13 r14 r15 v18 r16 r17 r18 v19 h9 g8 f28)) hD hS hA [0, 9] rfl
  refine va_calli (va_runV (As := [.int v29]) (rest := [.int t5]) ⟨hx, hb, hml, hown, hts⟩ (k_X12_withOf l dC dI h0 h9 v0 r0 v1 v2 v3 v4 h1 h2 r1 h3 h4 h5 h6 v5 v6 h7 h8 r2 r3 v7 r4 r5 v8 v9 r6 v10 v11 r7 v12 v13 r8 v14 w15 r9 v16 v17 r10 r11 r12 r13 r14 r15 v18 r16 r17 r18 v19 g8 f28 v29 ⟨i_v1a, i_v1b⟩ ⟨i_v5a, i_v5b⟩ ⟨i_v6a, i_v6b⟩ ⟨i_v7a, i_v7b⟩ ⟨i_v8a, i_v8b⟩ ⟨i_v9a, i_v9b⟩ ⟨i_v10a, i_v10b⟩ ⟨i_v14a, i_v14b⟩ ⟨i_v18a, i_v18b⟩ ⟨i_v19a, i_v19b⟩ ⟨i_v29a, i_v29b⟩ ia_f28 H.size) (cwV 1 hts g_X12_growthOf_2 rfl rfl rfl (by decide +kernel) ⟨Nat.le_of_ble_eq_true rfl, Nat.le_of_ble_eq_true rfl⟩) (pv_PV12 hPc hKc hDc (q0 := 0) rfl) rfl rfl hl.1 rfl (lv_room (Nat.le_of_ble_eq_true rfl)) dX12_growthOf_21 ⟨Nat.le_of_ble_eq_true rfl, Nat.le_of_ble_eq_true rfl⟩) hS (fun q _ h => hFc q h) hFc (fun ra6 u t H1 locs ht hvm hwra6 hB hz1 hk1 hS => ?_)
  try rw [hwra6] at hB
  obtain ⟨hP1, hK1, hD1⟩ := hB
  rw [ht] at hP1
  obtain ⟨hP2, hD2⟩ := va_join (wr := (wd_a0bd977d h1 g0 f20 h2 g1 f21 h3 g2 f22 h4 g3 f23 h5 g4 f24 h6 g5 f25 h7 g6 f26 h8 g7 f27)) (w1 := (wd_5013416a h0 v0 r0 v1 v2 v3 v4 h1 h2 r1 h3 h4 h5 h6 v5 v6 h7 h8 r2 r3 v7 r4 r5 v8 v9 h9 r6 v10 v11 r7 v12 v13 r8 v14 w15 r9 v16 v17 r10 r11 r12 r13 r14 r15 v18 r16 r17 r18 v19 h9 g8 f28)) hP hD [0, 9] [1, 2, 3, 4, 5, 6, 7, 8] rfl rfl (by decide) (by decide) hk1 hFc hP1 hD1
  clear hP hD hPc hDc hKc hFc hP1 hK1 hD1 hk1 hz1
  generalize H1 = H at hP2 hS ⊢
  have hP := hP2.sub (ws' := (wd_c0e4689d h0 v0 r0 v1 v2 v3 v4 h1 h2 r1 h3 h4 h5 h6 v5 v6 h7 h8 r2 r3 v7 r4 r5 v8 v9 h9 r6 v10 v11 r7 v12 v13 r8 v14 w15 r9 v16 v17 r10 r11 r12 r13 r14 r15 v18 r16 r17 r18 v19 h1 g0 f20 h2 g1 f21 h3 g2 f22 h4 g3 f23 h5 g4 f24 h6 g5 f25 h7 g6 f26 h8 g7 f27 h9 g8 f28)) [8, 0, 1, 2, 3, 4, 5, 6, 7, 9] rfl
  have hD := hD2.sub (ws' := (wd_c0e4689d h0 v0 r0 v1 v2 v3 v4 h1 h2 r1 h3 h4 h5 h6 v5 v6 h7 h8 r2 r3 v7 r4 r5 v8 v9 h9 r6 v10 v11 r7 v12 v13 r8 v14 w15 r9 v16 v17 r10 r11 r12 r13 r14 r15 v18 r16 r17 r18 v19 h1 g0 f20 h2 g1 f21 h3 g2 f22 h4 g3 f23 h5 g4 f24 h6 g5 f25 h7 g6 f26 h8 g7 f27 h9 g8 f28)) [8, 0, 1, 2, 3, 4, 5, 6, 7, 9] (by decide +kernel) rfl
  clear hP2 hD2
  refine lv_iadd hx hb dX12_growthOf_24 ?_
  refine lv_topi (fun t7 et7 => ?_)
  refine lv_iconst (v := 1) hx hb dX12_growthOf_25 (by decide) ?_
  refine lv_isub hx hb dX12_growthOf_26 ?_
  refine lv_topi (fun t8 et8 => ?_)
  refine lv_istore_n (lv' := [(3, .int t8), (2, .int t2), (0, .ref h0), (1, .int v29)]) hx hb dX12_growthOf_27 rfl hl (by decide) rfl (fun ls hl => ?_)
  refine lv_aload_n hx hb dX12_growthOf_28 rfl (lv_at hl 2 rfl) ?_
  refine va_get (D := (dC, dI)) (ci := 12) (v := .int v10) (C := RX12) (T := TX12) (N := 48) hx hb hts (fun _ h => List.mem_cons_of_mem _ (List.mem_append_right _ h)) hown hK hP 0 rfl rfl 26 (by decide) (hts (.fieldLink RX12 58 "LeftArgumentsModel" "holding" "I") (List.mem_cons_of_mem _ (List.mem_append_left _ (List.mem_of_getElem? (i := 17) rfl)))) (fun _ h9 => h9) rfl dX12_growthOf_29 ?_
  refine lv_iconst (v := (-1)) hx hb dX12_growthOf_32 (by decide) ?_
  have hJ12 : ∀ (x9 : Int32) (fn10 : Nat → Int32) (fn11 : Nat → Int32) (H : Heap) (locs : List Loc) (ls : Array Slot), va_P (dC, dI) vwCl (wd_c0e4689d h0 v0 r0 v1 v2 v3 v4 h1 h2 r1 h3 h4 h5 h6 v5 v6 h7 h8 r2 r3 v7 r4 r5 v8 v9 h9 r6 v10 v11 r7 v12 v13 r8 v14 w15 r9 v16 v17 r10 r11 r12 r13 r14 r15 v18 r16 r17 r18 v19 h1 g0 f20 h2 g1 f21 h3 g2 f22 h4 g3 f23 h5 g4 f24 h6 g5 f25 h7 g6 fn10 h8 g7 fn11 h9 g8 f28) H → va_D A (wd_c0e4689d h0 v0 r0 v1 v2 v3 v4 h1 h2 r1 h3 h4 h5 h6 v5 v6 h7 h8 r2 r3 v7 r4 r5 v8 v9 h9 r6 v10 v11 r7 v12 v13 r8 v14 w15 r9 v16 v17 r10 r11 r12 r13 r14 r15 v18 r16 r17 r18 v19 h1 g0 f20 h2 g1 f21 h3 g2 f22 h4 g3 f23 h5 g4 f24 h6 g5 f25 h7 g6 fn10 h8 g7 fn11 h9 g8 f28) → va_S A s.heap H locs → lv_has ls 4 [(3, .int x9), (2, .int t2), (0, .ref h0), (1, .int v29)] → W p l e ({ frames := 5, cells := 0, slots := 0, locals := 109 }) s m ([.ref h0, .int v29] : List Value).toArray below meth c H locs 0 0 Q (F0 m 124 ls []) := by
    intro x9 fn10 fn11 H locs ls hP hD hS hl
    refine lv_bipush (v := (-9)) hx hb dX12_growthOf_124 (by decide) ?_
    refine lv_bipush (v := 9) hx hb dX12_growthOf_126 (by decide) ?_
    refine lv_iload_n hx hb dX12_growthOf_128 rfl (lv_at hl 0 rfl) ?_
    refine va_mmin hx hb (by rw [hml]; exact hl.1.symm) hown (hts (.methodLink RX12 299 Lib.Math.min.name) (List.mem_cons_of_mem _ (List.mem_append_left _ (List.mem_of_getElem? (i := 18) rfl)))) (hts (.static Lib.Math.min.name) (List.mem_cons_of_mem _ (List.mem_append_left _ (List.mem_of_getElem? (i := 19) rfl)))) (hts (.initialized "java/lang/Math") (List.mem_cons_of_mem _ (List.mem_append_left _ (List.mem_of_getElem? (i := 20) rfl)))) (hts (.code Lib.Math.min.name Lib.Math.min.code 2 (some .int)) (List.mem_cons_of_mem _ (List.mem_append_left _ (List.mem_of_getElem? (i := 21) rfl)))) (Nat.le_of_ble_eq_true rfl) (Nat.le_of_ble_eq_true rfl) (Nat.le_of_ble_eq_true rfl) (Nat.le_of_ble_eq_true rfl) dX12_growthOf_129 ?_
    refine lv_topi (fun t13 et13 => ?_)
    obtain ⟨gat13, gbt13, gct13⟩ := pv_min (a := 9) (b := x9.toInt) et13 (by decide) rfl
    refine va_mmax hx hb (by rw [hml]; exact hl.1.symm) hown (hts (.methodLink RX12 301 Lib.Math.max.name) (List.mem_cons_of_mem _ (List.mem_append_left _ (List.mem_of_getElem? (i := 22) rfl)))) (hts (.static Lib.Math.max.name) (List.mem_cons_of_mem _ (List.mem_append_left _ (List.mem_of_getElem? (i := 23) rfl)))) (hts (.initialized "java/lang/Math") (List.mem_cons_of_mem _ (List.mem_append_left _ (List.mem_of_getElem? (i := 20) rfl)))) (hts (.code Lib.Math.max.name Lib.Math.max.code 2 (some .int)) (List.mem_cons_of_mem _ (List.mem_append_left _ (List.mem_of_getElem? (i := 24) rfl)))) (Nat.le_of_ble_eq_true rfl) (Nat.le_of_ble_eq_true rfl) (Nat.le_of_ble_eq_true rfl) (Nat.le_of_ble_eq_true rfl) dX12_growthOf_132 ?_
    refine lv_topi (fun t14 et14 => ?_)
    obtain ⟨gat14, gbt14, gct14⟩ := pv_max (a := (-9)) (b := t13.toInt) et14 (by decide) rfl
    subst hQ
    have hP9 := hP.sub (ws' := (wd_c0e4689d h0 v0 r0 v1 v2 v3 v4 h1 h2 r1 h3 h4 h5 h6 v5 v6 h7 h8 r2 r3 v7 r4 r5 v8 v9 h9 r6 v10 v11 r7 v12 v13 r8 v14 w15 r9 v16 v17 r10 r11 r12 r13 r14 r15 v18 r16 r17 r18 v19 h1 g0 f20 h2 g1 f21 h3 g2 f22 h4 g3 f23 h5 g4 f24 h6 g5 f25 h7 g6 fn10 h8 g7 fn11 h9 g8 f28)) [0, 1, 2, 3, 4, 5, 6, 7, 8, 9] rfl
    have hD9 := hD.sub (ws' := (wd_c0e4689d h0 v0 r0 v1 v2 v3 v4 h1 h2 r1 h3 h4 h5 h6 v5 v6 h7 h8 r2 r3 v7 r4 r5 v8 v9 h9 r6 v10 v11 r7 v12 v13 r8 v14 w15 r9 v16 v17 r10 r11 r12 r13 r14 r15 v18 r16 r17 r18 v19 h1 g0 f20 h2 g1 f21 h3 g2 f22 h4 g3 f23 h5 g4 f24 h6 g5 f25 h7 g6 fn10 h8 g7 fn11 h9 g8 f28)) [0, 1, 2, 3, 4, 5, 6, 7, 8, 9] (by decide +kernel) rfl
    have hK9 := hK.sub (tys' := []) [] rfl
    exact W.iret (v := t14) hx hb hr (fun t ht hW => ⟨⟨t14, t14, rfl, rfl, ⟨fn10, fn11, by first | omega | decide, by first | omega | decide, by rw [ht]; exact hP9, va_K.moved hW.alike hK9, hD9⟩⟩, hS.F ht⟩) hS.2.2 dX12_growthOf_135
  refine lv_icmp_eq (tgt := 124) hx hb dX12_growthOf_33 (by decide) (fun c15 => ?_) (fun c15 => ?_)
  · skip
    have fc15 : v10.toInt = (-1) := congrArg Int32.toInt c15
    exact hJ12 t8 f26 f27 H locs ls hP hD hS (lv_sub hl [0, 1, 2, 3] rfl)
  · skip
    have fc15 : ¬ (v10.toInt = (-1)) := fun h9 => c15 (Int32.toInt_inj.mp h9)
    refine lv_aload_n hx hb dX12_growthOf_36 rfl (lv_at hl 2 rfl) ?_
    refine va_get (D := (dC, dI)) (ci := 12) (v := .ref h7) (C := RX12) (T := TX12) (N := 48) hx hb hts (fun _ h => List.mem_cons_of_mem _ (List.mem_append_right _ h)) hown hK hP 0 rfl rfl 15 (by decide) (hts (.fieldLink RX12 34 "LeftArgumentsModel" "letters" "[I") (List.mem_cons_of_mem _ (List.mem_append_left _ (List.mem_of_getElem? (i := 25) rfl)))) (fun _ h9 => h9) rfl dX12_growthOf_37 ?_
    refine lv_iconst (v := 0) hx hb dX12_growthOf_40 (by decide) ?_
    refine lv_aload_n hx hb dX12_growthOf_41 rfl (lv_at hl 2 rfl) ?_
    refine lv_iload_n hx hb dX12_growthOf_42 rfl (lv_at hl 3 rfl) ?_
    refine lv_iconst (v := 0) hx hb dX12_growthOf_43 (by decide) ?_
    have hPc := hP.sub (ws' := (wd_5013416a h0 v0 r0 v1 v2 v3 v4 h1 h2 r1 h3 h4 h5 h6 v5 v6 h7 h8 r2 r3 v7 r4 r5 v8 v9 h9 r6 v10 v11 r7 v12 v13 r8 v14 w15 r9 v16 v17 r10 r11 r12 r13 r14 r15 v18 r16 r17 r18 v19 h9 g8 f28)) [0, 9] rfl
    have hDc := hD.sub (ws' := (wd_5013416a h0 v0 r0 v1 v2 v3 v4 h1 h2 r1 h3 h4 h5 h6 v5 v6 h7 h8 r2 r3 v7 r4 r5 v8 v9 h9 r6 v10 v11 r7 v12 v13 r8 v14 w15 r9 v16 v17 r10 r11 r12 r13 r14 r15 v18 r16 r17 r18 v19 h9 g8 f28)) [0, 9] (by decide) rfl
    have hKc := hK.sub (tys' := [(g8, .int)]) [8] rfl
    have hFc := va_free (wc := (wd_5013416a h0 v0 r0 v1 v2 v3 v4 h1 h2 r1 h3 h4 h5 h6 v5 v6 h7 h8 r2 r3 v7 r4 r5 v8 v9 h9 r6 v10 v11 r7 v12 v13 r8 v14 w15 r9 v16 v17 r10 r11 r12 r13 r14 r15 v18 r16 r17 r18 v19 h9 g8 f28)) hD hS hA [0, 9] rfl
    refine va_calli (va_runV (As := [.int v29, .int 0]) (rest := [.int 0, .ref h7]) ⟨hx, hb, hml, hown, hts⟩ (k_X12_of_3 l dC dI h0 h9 v0 r0 v1 v2 v3 v4 h1 h2 r1 h3 h4 h5 h6 v5 v6 h7 h8 r2 r3 v7 r4 r5 v8 v9 r6 v10 v11 r7 v12 v13 r8 v14 w15 r9 v16 v17 r10 r11 r12 r13 r14 r15 v18 r16 r17 r18 v19 g8 f28 v29 ⟨i_v1a, i_v1b⟩ ⟨i_v5a, i_v5b⟩ ⟨i_v6a, i_v6b⟩ ⟨i_v7a, i_v7b⟩ ⟨i_v8a, i_v8b⟩ ⟨i_v9a, i_v9b⟩ ⟨i_v10a, i_v10b⟩ ⟨i_v14a, i_v14b⟩ ⟨i_v18a, i_v18b⟩ ⟨i_v19a, i_v19b⟩ ⟨i_v29a, i_v29b⟩ ia_f28 H.size) (cwV 2 hts g_X12_growthOf_3 rfl rfl rfl (by decide +kernel) ⟨Nat.le_of_ble_eq_true rfl, Nat.le_of_ble_eq_true rfl⟩) (pv_PV12 hPc hKc hDc (q0 := 0) rfl) rfl rfl hl.1 rfl (lv_room (Nat.le_of_ble_eq_true rfl)) dX12_growthOf_44 ⟨Nat.le_of_ble_eq_true rfl, Nat.le_of_ble_eq_true rfl⟩) hS (fun q _ h => hFc q h) hFc (fun ra16 u t H1 locs ht hvm hwra16 hB hz1 hk1 hS => ?_)
    try rw [hwra16] at hB
    obtain ⟨pt0_ra16, pt1_ra16, pt2_ra16, hP1, hK1, hD1⟩ := hB
    rw [ht] at hP1
    obtain ⟨hP2, hD2⟩ := va_join (wr := (wd_a0bd977d h1 g0 f20 h2 g1 f21 h3 g2 f22 h4 g3 f23 h5 g4 f24 h6 g5 f25 h7 g6 f26 h8 g7 f27)) (w1 := (wd_5013416a h0 v0 r0 v1 v2 v3 v4 h1 h2 r1 h3 h4 h5 h6 v5 v6 h7 h8 r2 r3 v7 r4 r5 v8 v9 h9 r6 v10 v11 r7 v12 v13 r8 v14 w15 r9 v16 v17 r10 r11 r12 r13 r14 r15 v18 r16 r17 r18 v19 h9 g8 f28)) hP hD [0, 9] [1, 2, 3, 4, 5, 6, 7, 8] rfl rfl (by decide) (by decide) hk1 hFc hP1 hD1
    clear hP hD hPc hDc hKc hFc hP1 hK1 hD1 hk1 hz1
    generalize H1 = H at hP2 hS ⊢
    have hP := hP2.sub (ws' := (wd_c0e4689d h0 v0 r0 v1 v2 v3 v4 h1 h2 r1 h3 h4 h5 h6 v5 v6 h7 h8 r2 r3 v7 r4 r5 v8 v9 h9 r6 v10 v11 r7 v12 v13 r8 v14 w15 r9 v16 v17 r10 r11 r12 r13 r14 r15 v18 r16 r17 r18 v19 h1 g0 f20 h2 g1 f21 h3 g2 f22 h4 g3 f23 h5 g4 f24 h6 g5 f25 h7 g6 f26 h8 g7 f27 h9 g8 f28)) [8, 0, 1, 2, 3, 4, 5, 6, 7, 9] rfl
    have hD := hD2.sub (ws' := (wd_c0e4689d h0 v0 r0 v1 v2 v3 v4 h1 h2 r1 h3 h4 h5 h6 v5 v6 h7 h8 r2 r3 v7 r4 r5 v8 v9 h9 r6 v10 v11 r7 v12 v13 r8 v14 w15 r9 v16 v17 r10 r11 r12 r13 r14 r15 v18 r16 r17 r18 v19 h1 g0 f20 h2 g1 f21 h3 g2 f22 h4 g3 f23 h5 g4 f24 h6 g5 f25 h7 g6 f26 h8 g7 f27 h9 g8 f28)) [8, 0, 1, 2, 3, 4, 5, 6, 7, 9] (by decide +kernel) rfl
    clear hP2 hD2
    refine va_iast hx hb hK hP hD hS 7 6 rfl rfl (pv_c (x := 0) (n := 6) (by decide)) dX12_growthOf_47 (fun H locs hP hD hS => ?_)
    obtain ⟨fn17, efn17⟩ : ∃ g : Nat → Int32, g = upd f26 (Int32.toNatClampNeg 0) ra16 := ⟨_, rfl⟩
    rw [← efn17] at hP hD
    have hP : va_P (dC, dI) vwCl (wd_c0e4689d h0 v0 r0 v1 v2 v3 v4 h1 h2 r1 h3 h4 h5 h6 v5 v6 h7 h8 r2 r3 v7 r4 r5 v8 v9 h9 r6 v10 v11 r7 v12 v13 r8 v14 w15 r9 v16 v17 r10 r11 r12 r13 r14 r15 v18 r16 r17 r18 v19 h1 g0 f20 h2 g1 f21 h3 g2 f22 h4 g3 f23 h5 g4 f24 h6 g5 f25 h7 g6 fn17 h8 g7 f27 h9 g8 f28) H := hP
    have hD : va_D A (wd_c0e4689d h0 v0 r0 v1 v2 v3 v4 h1 h2 r1 h3 h4 h5 h6 v5 v6 h7 h8 r2 r3 v7 r4 r5 v8 v9 h9 r6 v10 v11 r7 v12 v13 r8 v14 w15 r9 v16 v17 r10 r11 r12 r13 r14 r15 v18 r16 r17 r18 v19 h1 g0 f20 h2 g1 f21 h3 g2 f22 h4 g3 f23 h5 g4 f24 h6 g5 f25 h7 g6 fn17 h8 g7 f27 h9 g8 f28) := hD
    refine lv_aload_n hx hb dX12_growthOf_48 rfl (lv_at hl 2 rfl) ?_
    refine va_get (D := (dC, dI)) (ci := 12) (v := .ref h7) (C := RX12) (T := TX12) (N := 48) hx hb hts (fun _ h => List.mem_cons_of_mem _ (List.mem_append_right _ h)) hown hK hP 0 rfl rfl 15 (by decide) (hts (.fieldLink RX12 34 "LeftArgumentsModel" "letters" "[I") (List.mem_cons_of_mem _ (List.mem_append_left _ (List.mem_of_getElem? (i := 25) rfl)))) (fun _ h9 => h9) rfl dX12_growthOf_49 ?_
    refine lv_iconst (v := 1) hx hb dX12_growthOf_52 (by decide) ?_
    refine lv_aload_n hx hb dX12_growthOf_53 rfl (lv_at hl 2 rfl) ?_
    refine lv_iload_n hx hb dX12_growthOf_54 rfl (lv_at hl 3 rfl) ?_
    refine lv_iconst (v := 1) hx hb dX12_growthOf_55 (by decide) ?_
    refine lv_iload_n hx hb dX12_growthOf_56 rfl (lv_at hl 1 rfl) ?_
    refine lv_iadd hx hb dX12_growthOf_57 ?_
    refine lv_topi (fun t18 et18 => ?_)
    have gt18 : t18.toInt = 1 + t2.toInt := pv_add (a := 1) (b := t2.toInt) et18 (by decide) rfl (by omega) (by omega)
    have hPc := hP.sub (ws' := (wd_5013416a h0 v0 r0 v1 v2 v3 v4 h1 h2 r1 h3 h4 h5 h6 v5 v6 h7 h8 r2 r3 v7 r4 r5 v8 v9 h9 r6 v10 v11 r7 v12 v13 r8 v14 w15 r9 v16 v17 r10 r11 r12 r13 r14 r15 v18 r16 r17 r18 v19 h9 g8 f28)) [0, 9] rfl
    have hDc := hD.sub (ws' := (wd_5013416a h0 v0 r0 v1 v2 v3 v4 h1 h2 r1 h3 h4 h5 h6 v5 v6 h7 h8 r2 r3 v7 r4 r5 v8 v9 h9 r6 v10 v11 r7 v12 v13 r8 v14 w15 r9 v16 v17 r10 r11 r12 r13 r14 r15 v18 r16 r17 r18 v19 h9 g8 f28)) [0, 9] (by decide) rfl
    have hKc := hK.sub (tys' := [(g8, .int)]) [8] rfl
    have hFc := va_free (wc := (wd_5013416a h0 v0 r0 v1 v2 v3 v4 h1 h2 r1 h3 h4 h5 h6 v5 v6 h7 h8 r2 r3 v7 r4 r5 v8 v9 h9 r6 v10 v11 r7 v12 v13 r8 v14 w15 r9 v16 v17 r10 r11 r12 r13 r14 r15 v18 r16 r17 r18 v19 h9 g8 f28)) hD hS hA [0, 9] rfl
    refine va_calli (va_runV (As := [.int v29, .int t18]) (rest := [.int 1, .ref h7]) ⟨hx, hb, hml, hown, hts⟩ (k_X12_of_7 l dC dI h0 h9 v0 r0 v1 v2 v3 v4 h1 h2 r1 h3 h4 h5 h6 v5 v6 h7 h8 r2 r3 v7 r4 r5 v8 v9 r6 v10 v11 r7 v12 v13 r8 v14 w15 r9 v16 v17 r10 r11 r12 r13 r14 r15 v18 r16 r17 r18 v19 g8 f28 v29 t18 ⟨i_v1a, i_v1b⟩ ⟨i_v5a, i_v5b⟩ ⟨i_v6a, i_v6b⟩ ⟨i_v7a, i_v7b⟩ ⟨i_v8a, i_v8b⟩ ⟨i_v9a, i_v9b⟩ ⟨i_v10a, i_v10b⟩ ⟨i_v14a, i_v14b⟩ ⟨i_v18a, i_v18b⟩ ⟨i_v19a, i_v19b⟩ ⟨i_v29a, i_v29b⟩ ⟨by first | omega | decide, by first | omega | decide⟩ ia_f28 H.size) (cwV 2 hts g_X12_growthOf_1 rfl rfl rfl (by decide +kernel) ⟨Nat.le_of_ble_eq_true rfl, Nat.le_of_ble_eq_true rfl⟩) (pv_PV12 hPc hKc hDc (q0 := 0) rfl) rfl rfl hl.1 rfl (lv_room (Nat.le_of_ble_eq_true rfl)) dX12_growthOf_58 ⟨Nat.le_of_ble_eq_true rfl, Nat.le_of_ble_eq_true rfl⟩) hS (fun q _ h => hFc q h) hFc (fun ra19 u t H1 locs ht hvm hwra19 hB hz1 hk1 hS => ?_)
    try rw [hwra19] at hB
    obtain ⟨pt0_ra19, hP1, hK1, hD1⟩ := hB
    rw [ht] at hP1
    obtain ⟨hP2, hD2⟩ := va_join (wr := (wd_a0bd977d h1 g0 f20 h2 g1 f21 h3 g2 f22 h4 g3 f23 h5 g4 f24 h6 g5 f25 h7 g6 fn17 h8 g7 f27)) (w1 := (wd_5013416a h0 v0 r0 v1 v2 v3 v4 h1 h2 r1 h3 h4 h5 h6 v5 v6 h7 h8 r2 r3 v7 r4 r5 v8 v9 h9 r6 v10 v11 r7 v12 v13 r8 v14 w15 r9 v16 v17 r10 r11 r12 r13 r14 r15 v18 r16 r17 r18 v19 h9 g8 f28)) hP hD [0, 9] [1, 2, 3, 4, 5, 6, 7, 8] rfl rfl (by decide) (by decide) hk1 hFc hP1 hD1
    clear hP hD hPc hDc hKc hFc hP1 hK1 hD1 hk1 hz1
    generalize H1 = H at hP2 hS ⊢
    have hP := hP2.sub (ws' := (wd_c0e4689d h0 v0 r0 v1 v2 v3 v4 h1 h2 r1 h3 h4 h5 h6 v5 v6 h7 h8 r2 r3 v7 r4 r5 v8 v9 h9 r6 v10 v11 r7 v12 v13 r8 v14 w15 r9 v16 v17 r10 r11 r12 r13 r14 r15 v18 r16 r17 r18 v19 h1 g0 f20 h2 g1 f21 h3 g2 f22 h4 g3 f23 h5 g4 f24 h6 g5 f25 h7 g6 fn17 h8 g7 f27 h9 g8 f28)) [8, 0, 1, 2, 3, 4, 5, 6, 7, 9] rfl
    have hD := hD2.sub (ws' := (wd_c0e4689d h0 v0 r0 v1 v2 v3 v4 h1 h2 r1 h3 h4 h5 h6 v5 v6 h7 h8 r2 r3 v7 r4 r5 v8 v9 h9 r6 v10 v11 r7 v12 v13 r8 v14 w15 r9 v16 v17 r10 r11 r12 r13 r14 r15 v18 r16 r17 r18 v19 h1 g0 f20 h2 g1 f21 h3 g2 f22 h4 g3 f23 h5 g4 f24 h6 g5 f25 h7 g6 fn17 h8 g7 f27 h9 g8 f28)) [8, 0, 1, 2, 3, 4, 5, 6, 7, 9] (by decide +kernel) rfl
    clear hP2 hD2
    refine va_iast hx hb hK hP hD hS 7 6 rfl rfl (pv_c (x := 1) (n := 6) (by decide)) dX12_growthOf_61 (fun H locs hP hD hS => ?_)
    obtain ⟨fn20, efn20⟩ : ∃ g : Nat → Int32, g = upd fn17 (Int32.toNatClampNeg 1) ra19 := ⟨_, rfl⟩
    rw [← efn20] at hP hD
    have hP : va_P (dC, dI) vwCl (wd_c0e4689d h0 v0 r0 v1 v2 v3 v4 h1 h2 r1 h3 h4 h5 h6 v5 v6 h7 h8 r2 r3 v7 r4 r5 v8 v9 h9 r6 v10 v11 r7 v12 v13 r8 v14 w15 r9 v16 v17 r10 r11 r12 r13 r14 r15 v18 r16 r17 r18 v19 h1 g0 f20 h2 g1 f21 h3 g2 f22 h4 g3 f23 h5 g4 f24 h6 g5 f25 h7 g6 fn20 h8 g7 f27 h9 g8 f28) H := hP
    have hD : va_D A (wd_c0e4689d h0 v0 r0 v1 v2 v3 v4 h1 h2 r1 h3 h4 h5 h6 v5 v6 h7 h8 r2 r3 v7 r4 r5 v8 v9 h9 r6 v10 v11 r7 v12 v13 r8 v14 w15 r9 v16 v17 r10 r11 r12 r13 r14 r15 v18 r16 r17 r18 v19 h1 g0 f20 h2 g1 f21 h3 g2 f22 h4 g3 f23 h5 g4 f24 h6 g5 f25 h7 g6 fn20 h8 g7 f27 h9 g8 f28) := hD
    refine lv_aload_n hx hb dX12_growthOf_62 rfl (lv_at hl 2 rfl) ?_
    refine va_get (D := (dC, dI)) (ci := 12) (v := .ref h7) (C := RX12) (T := TX12) (N := 48) hx hb hts (fun _ h => List.mem_cons_of_mem _ (List.mem_append_right _ h)) hown hK hP 0 rfl rfl 15 (by decide) (hts (.fieldLink RX12 34 "LeftArgumentsModel" "letters" "[I") (List.mem_cons_of_mem _ (List.mem_append_left _ (List.mem_of_getElem? (i := 25) rfl)))) (fun _ h9 => h9) rfl dX12_growthOf_63 ?_
    refine lv_iconst (v := 2) hx hb dX12_growthOf_66 (by decide) ?_
    refine lv_aload_n hx hb dX12_growthOf_67 rfl (lv_at hl 2 rfl) ?_
    refine lv_iload_n hx hb dX12_growthOf_68 rfl (lv_at hl 3 rfl) ?_
    refine lv_iconst (v := 2) hx hb dX12_growthOf_69 (by decide) ?_
    refine lv_iload_n hx hb dX12_growthOf_70 rfl (lv_at hl 1 rfl) ?_
    refine lv_isub hx hb dX12_growthOf_71 ?_
    refine lv_topi (fun t21 et21 => ?_)
    have gt21 : t21.toInt = 2 - t2.toInt := pv_sub (a := 2) (b := t2.toInt) et21 (by decide) rfl (by omega) (by omega)
    have hPc := hP.sub (ws' := (wd_5013416a h0 v0 r0 v1 v2 v3 v4 h1 h2 r1 h3 h4 h5 h6 v5 v6 h7 h8 r2 r3 v7 r4 r5 v8 v9 h9 r6 v10 v11 r7 v12 v13 r8 v14 w15 r9 v16 v17 r10 r11 r12 r13 r14 r15 v18 r16 r17 r18 v19 h9 g8 f28)) [0, 9] rfl
    have hDc := hD.sub (ws' := (wd_5013416a h0 v0 r0 v1 v2 v3 v4 h1 h2 r1 h3 h4 h5 h6 v5 v6 h7 h8 r2 r3 v7 r4 r5 v8 v9 h9 r6 v10 v11 r7 v12 v13 r8 v14 w15 r9 v16 v17 r10 r11 r12 r13 r14 r15 v18 r16 r17 r18 v19 h9 g8 f28)) [0, 9] (by decide) rfl
    have hKc := hK.sub (tys' := [(g8, .int)]) [8] rfl
    have hFc := va_free (wc := (wd_5013416a h0 v0 r0 v1 v2 v3 v4 h1 h2 r1 h3 h4 h5 h6 v5 v6 h7 h8 r2 r3 v7 r4 r5 v8 v9 h9 r6 v10 v11 r7 v12 v13 r8 v14 w15 r9 v16 v17 r10 r11 r12 r13 r14 r15 v18 r16 r17 r18 v19 h9 g8 f28)) hD hS hA [0, 9] rfl
    refine va_calli (va_runV (As := [.int v29, .int t21]) (rest := [.int 2, .ref h7]) ⟨hx, hb, hml, hown, hts⟩ (k_X12_of_7 l dC dI h0 h9 v0 r0 v1 v2 v3 v4 h1 h2 r1 h3 h4 h5 h6 v5 v6 h7 h8 r2 r3 v7 r4 r5 v8 v9 r6 v10 v11 r7 v12 v13 r8 v14 w15 r9 v16 v17 r10 r11 r12 r13 r14 r15 v18 r16 r17 r18 v19 g8 f28 v29 t21 ⟨i_v1a, i_v1b⟩ ⟨i_v5a, i_v5b⟩ ⟨i_v6a, i_v6b⟩ ⟨i_v7a, i_v7b⟩ ⟨i_v8a, i_v8b⟩ ⟨i_v9a, i_v9b⟩ ⟨i_v10a, i_v10b⟩ ⟨i_v14a, i_v14b⟩ ⟨i_v18a, i_v18b⟩ ⟨i_v19a, i_v19b⟩ ⟨i_v29a, i_v29b⟩ ⟨by first | omega | decide, by first | omega | decide⟩ ia_f28 H.size) (cwV 2 hts g_X12_growthOf_1 rfl rfl rfl (by decide +kernel) ⟨Nat.le_of_ble_eq_true rfl, Nat.le_of_ble_eq_true rfl⟩) (pv_PV12 hPc hKc hDc (q0 := 0) rfl) rfl rfl hl.1 rfl (lv_room (Nat.le_of_ble_eq_true rfl)) dX12_growthOf_72 ⟨Nat.le_of_ble_eq_true rfl, Nat.le_of_ble_eq_true rfl⟩) hS (fun q _ h => hFc q h) hFc (fun ra22 u t H1 locs ht hvm hwra22 hB hz1 hk1 hS => ?_)
    try rw [hwra22] at hB
    obtain ⟨pt0_ra22, hP1, hK1, hD1⟩ := hB
    rw [ht] at hP1
    obtain ⟨hP2, hD2⟩ := va_join (wr := (wd_a0bd977d h1 g0 f20 h2 g1 f21 h3 g2 f22 h4 g3 f23 h5 g4 f24 h6 g5 f25 h7 g6 fn20 h8 g7 f27)) (w1 := (wd_5013416a h0 v0 r0 v1 v2 v3 v4 h1 h2 r1 h3 h4 h5 h6 v5 v6 h7 h8 r2 r3 v7 r4 r5 v8 v9 h9 r6 v10 v11 r7 v12 v13 r8 v14 w15 r9 v16 v17 r10 r11 r12 r13 r14 r15 v18 r16 r17 r18 v19 h9 g8 f28)) hP hD [0, 9] [1, 2, 3, 4, 5, 6, 7, 8] rfl rfl (by decide) (by decide) hk1 hFc hP1 hD1
    clear hP hD hPc hDc hKc hFc hP1 hK1 hD1 hk1 hz1
    generalize H1 = H at hP2 hS ⊢
    have hP := hP2.sub (ws' := (wd_c0e4689d h0 v0 r0 v1 v2 v3 v4 h1 h2 r1 h3 h4 h5 h6 v5 v6 h7 h8 r2 r3 v7 r4 r5 v8 v9 h9 r6 v10 v11 r7 v12 v13 r8 v14 w15 r9 v16 v17 r10 r11 r12 r13 r14 r15 v18 r16 r17 r18 v19 h1 g0 f20 h2 g1 f21 h3 g2 f22 h4 g3 f23 h5 g4 f24 h6 g5 f25 h7 g6 fn20 h8 g7 f27 h9 g8 f28)) [8, 0, 1, 2, 3, 4, 5, 6, 7, 9] rfl
    have hD := hD2.sub (ws' := (wd_c0e4689d h0 v0 r0 v1 v2 v3 v4 h1 h2 r1 h3 h4 h5 h6 v5 v6 h7 h8 r2 r3 v7 r4 r5 v8 v9 h9 r6 v10 v11 r7 v12 v13 r8 v14 w15 r9 v16 v17 r10 r11 r12 r13 r14 r15 v18 r16 r17 r18 v19 h1 g0 f20 h2 g1 f21 h3 g2 f22 h4 g3 f23 h5 g4 f24 h6 g5 f25 h7 g6 fn20 h8 g7 f27 h9 g8 f28)) [8, 0, 1, 2, 3, 4, 5, 6, 7, 9] (by decide +kernel) rfl
    clear hP2 hD2
    refine va_iast hx hb hK hP hD hS 7 6 rfl rfl (pv_c (x := 2) (n := 6) (by decide)) dX12_growthOf_75 (fun H locs hP hD hS => ?_)
    obtain ⟨fn23, efn23⟩ : ∃ g : Nat → Int32, g = upd fn20 (Int32.toNatClampNeg 2) ra22 := ⟨_, rfl⟩
    rw [← efn23] at hP hD
    have hP : va_P (dC, dI) vwCl (wd_c0e4689d h0 v0 r0 v1 v2 v3 v4 h1 h2 r1 h3 h4 h5 h6 v5 v6 h7 h8 r2 r3 v7 r4 r5 v8 v9 h9 r6 v10 v11 r7 v12 v13 r8 v14 w15 r9 v16 v17 r10 r11 r12 r13 r14 r15 v18 r16 r17 r18 v19 h1 g0 f20 h2 g1 f21 h3 g2 f22 h4 g3 f23 h5 g4 f24 h6 g5 f25 h7 g6 fn23 h8 g7 f27 h9 g8 f28) H := hP
    have hD : va_D A (wd_c0e4689d h0 v0 r0 v1 v2 v3 v4 h1 h2 r1 h3 h4 h5 h6 v5 v6 h7 h8 r2 r3 v7 r4 r5 v8 v9 h9 r6 v10 v11 r7 v12 v13 r8 v14 w15 r9 v16 v17 r10 r11 r12 r13 r14 r15 v18 r16 r17 r18 v19 h1 g0 f20 h2 g1 f21 h3 g2 f22 h4 g3 f23 h5 g4 f24 h6 g5 f25 h7 g6 fn23 h8 g7 f27 h9 g8 f28) := hD
    refine lv_aload_n hx hb dX12_growthOf_76 rfl (lv_at hl 2 rfl) ?_
    refine va_get (D := (dC, dI)) (ci := 12) (v := .ref h7) (C := RX12) (T := TX12) (N := 48) hx hb hts (fun _ h => List.mem_cons_of_mem _ (List.mem_append_right _ h)) hown hK hP 0 rfl rfl 15 (by decide) (hts (.fieldLink RX12 34 "LeftArgumentsModel" "letters" "[I") (List.mem_cons_of_mem _ (List.mem_append_left _ (List.mem_of_getElem? (i := 25) rfl)))) (fun _ h9 => h9) rfl dX12_growthOf_77 ?_
    refine lv_iconst (v := 3) hx hb dX12_growthOf_80 (by decide) ?_
    refine lv_aload_n hx hb dX12_growthOf_81 rfl (lv_at hl 2 rfl) ?_
    refine lv_iload_n hx hb dX12_growthOf_82 rfl (lv_at hl 3 rfl) ?_
    have hPc := hP.sub (ws' := (wd_5013416a h0 v0 r0 v1 v2 v3 v4 h1 h2 r1 h3 h4 h5 h6 v5 v6 h7 h8 r2 r3 v7 r4 r5 v8 v9 h9 r6 v10 v11 r7 v12 v13 r8 v14 w15 r9 v16 v17 r10 r11 r12 r13 r14 r15 v18 r16 r17 r18 v19 h9 g8 f28)) [0, 9] rfl
    have hDc := hD.sub (ws' := (wd_5013416a h0 v0 r0 v1 v2 v3 v4 h1 h2 r1 h3 h4 h5 h6 v5 v6 h7 h8 r2 r3 v7 r4 r5 v8 v9 h9 r6 v10 v11 r7 v12 v13 r8 v14 w15 r9 v16 v17 r10 r11 r12 r13 r14 r15 v18 r16 r17 r18 v19 h9 g8 f28)) [0, 9] (by decide) rfl
    have hKc := hK.sub (tys' := [(g8, .int)]) [8] rfl
    have hFc := va_free (wc := (wd_5013416a h0 v0 r0 v1 v2 v3 v4 h1 h2 r1 h3 h4 h5 h6 v5 v6 h7 h8 r2 r3 v7 r4 r5 v8 v9 h9 r6 v10 v11 r7 v12 v13 r8 v14 w15 r9 v16 v17 r10 r11 r12 r13 r14 r15 v18 r16 r17 r18 v19 h9 g8 f28)) hD hS hA [0, 9] rfl
    refine va_calli (va_runV (As := [.int v29]) (rest := [.int 3, .ref h7]) ⟨hx, hb, hml, hown, hts⟩ (k_X12_withOf l dC dI h0 h9 v0 r0 v1 v2 v3 v4 h1 h2 r1 h3 h4 h5 h6 v5 v6 h7 h8 r2 r3 v7 r4 r5 v8 v9 r6 v10 v11 r7 v12 v13 r8 v14 w15 r9 v16 v17 r10 r11 r12 r13 r14 r15 v18 r16 r17 r18 v19 g8 f28 v29 ⟨i_v1a, i_v1b⟩ ⟨i_v5a, i_v5b⟩ ⟨i_v6a, i_v6b⟩ ⟨i_v7a, i_v7b⟩ ⟨i_v8a, i_v8b⟩ ⟨i_v9a, i_v9b⟩ ⟨i_v10a, i_v10b⟩ ⟨i_v14a, i_v14b⟩ ⟨i_v18a, i_v18b⟩ ⟨i_v19a, i_v19b⟩ ⟨i_v29a, i_v29b⟩ ia_f28 H.size) (cwV 1 hts g_X12_growthOf_2 rfl rfl rfl (by decide +kernel) ⟨Nat.le_of_ble_eq_true rfl, Nat.le_of_ble_eq_true rfl⟩) (pv_PV12 hPc hKc hDc (q0 := 0) rfl) rfl rfl hl.1 rfl (lv_room (Nat.le_of_ble_eq_true rfl)) dX12_growthOf_83 ⟨Nat.le_of_ble_eq_true rfl, Nat.le_of_ble_eq_true rfl⟩) hS (fun q _ h => hFc q h) hFc (fun ra24 u t H1 locs ht hvm hwra24 hB hz1 hk1 hS => ?_)
    try rw [hwra24] at hB
    obtain ⟨hP1, hK1, hD1⟩ := hB
    rw [ht] at hP1
    obtain ⟨hP2, hD2⟩ := va_join (wr := (wd_a0bd977d h1 g0 f20 h2 g1 f21 h3 g2 f22 h4 g3 f23 h5 g4 f24 h6 g5 f25 h7 g6 fn23 h8 g7 f27)) (w1 := (wd_5013416a h0 v0 r0 v1 v2 v3 v4 h1 h2 r1 h3 h4 h5 h6 v5 v6 h7 h8 r2 r3 v7 r4 r5 v8 v9 h9 r6 v10 v11 r7 v12 v13 r8 v14 w15 r9 v16 v17 r10 r11 r12 r13 r14 r15 v18 r16 r17 r18 v19 h9 g8 f28)) hP hD [0, 9] [1, 2, 3, 4, 5, 6, 7, 8] rfl rfl (by decide) (by decide) hk1 hFc hP1 hD1
    clear hP hD hPc hDc hKc hFc hP1 hK1 hD1 hk1 hz1
    generalize H1 = H at hP2 hS ⊢
    have hP := hP2.sub (ws' := (wd_c0e4689d h0 v0 r0 v1 v2 v3 v4 h1 h2 r1 h3 h4 h5 h6 v5 v6 h7 h8 r2 r3 v7 r4 r5 v8 v9 h9 r6 v10 v11 r7 v12 v13 r8 v14 w15 r9 v16 v17 r10 r11 r12 r13 r14 r15 v18 r16 r17 r18 v19 h1 g0 f20 h2 g1 f21 h3 g2 f22 h4 g3 f23 h5 g4 f24 h6 g5 f25 h7 g6 fn23 h8 g7 f27 h9 g8 f28)) [8, 0, 1, 2, 3, 4, 5, 6, 7, 9] rfl
    have hD := hD2.sub (ws' := (wd_c0e4689d h0 v0 r0 v1 v2 v3 v4 h1 h2 r1 h3 h4 h5 h6 v5 v6 h7 h8 r2 r3 v7 r4 r5 v8 v9 h9 r6 v10 v11 r7 v12 v13 r8 v14 w15 r9 v16 v17 r10 r11 r12 r13 r14 r15 v18 r16 r17 r18 v19 h1 g0 f20 h2 g1 f21 h3 g2 f22 h4 g3 f23 h5 g4 f24 h6 g5 f25 h7 g6 fn23 h8 g7 f27 h9 g8 f28)) [8, 0, 1, 2, 3, 4, 5, 6, 7, 9] (by decide +kernel) rfl
    clear hP2 hD2
    refine va_iast hx hb hK hP hD hS 7 6 rfl rfl (pv_c (x := 3) (n := 6) (by decide)) dX12_growthOf_86 (fun H locs hP hD hS => ?_)
    obtain ⟨fn25, efn25⟩ : ∃ g : Nat → Int32, g = upd fn23 (Int32.toNatClampNeg 3) ra24 := ⟨_, rfl⟩
    rw [← efn25] at hP hD
    have hP : va_P (dC, dI) vwCl (wd_c0e4689d h0 v0 r0 v1 v2 v3 v4 h1 h2 r1 h3 h4 h5 h6 v5 v6 h7 h8 r2 r3 v7 r4 r5 v8 v9 h9 r6 v10 v11 r7 v12 v13 r8 v14 w15 r9 v16 v17 r10 r11 r12 r13 r14 r15 v18 r16 r17 r18 v19 h1 g0 f20 h2 g1 f21 h3 g2 f22 h4 g3 f23 h5 g4 f24 h6 g5 f25 h7 g6 fn25 h8 g7 f27 h9 g8 f28) H := hP
    have hD : va_D A (wd_c0e4689d h0 v0 r0 v1 v2 v3 v4 h1 h2 r1 h3 h4 h5 h6 v5 v6 h7 h8 r2 r3 v7 r4 r5 v8 v9 h9 r6 v10 v11 r7 v12 v13 r8 v14 w15 r9 v16 v17 r10 r11 r12 r13 r14 r15 v18 r16 r17 r18 v19 h1 g0 f20 h2 g1 f21 h3 g2 f22 h4 g3 f23 h5 g4 f24 h6 g5 f25 h7 g6 fn25 h8 g7 f27 h9 g8 f28) := hD
    refine lv_aload_n hx hb dX12_growthOf_87 rfl (lv_at hl 2 rfl) ?_
    refine va_get (D := (dC, dI)) (ci := 12) (v := .ref h7) (C := RX12) (T := TX12) (N := 48) hx hb hts (fun _ h => List.mem_cons_of_mem _ (List.mem_append_right _ h)) hown hK hP 0 rfl rfl 15 (by decide) (hts (.fieldLink RX12 34 "LeftArgumentsModel" "letters" "[I") (List.mem_cons_of_mem _ (List.mem_append_left _ (List.mem_of_getElem? (i := 25) rfl)))) (fun _ h9 => h9) rfl dX12_growthOf_88 ?_
    refine lv_iconst (v := 4) hx hb dX12_growthOf_91 (by decide) ?_
    refine lv_aload_n hx hb dX12_growthOf_92 rfl (lv_at hl 2 rfl) ?_
    refine lv_iload_n hx hb dX12_growthOf_93 rfl (lv_at hl 3 rfl) ?_
    refine lv_iconst (v := 5) hx hb dX12_growthOf_94 (by decide) ?_
    have hPc := hP.sub (ws' := (wd_5013416a h0 v0 r0 v1 v2 v3 v4 h1 h2 r1 h3 h4 h5 h6 v5 v6 h7 h8 r2 r3 v7 r4 r5 v8 v9 h9 r6 v10 v11 r7 v12 v13 r8 v14 w15 r9 v16 v17 r10 r11 r12 r13 r14 r15 v18 r16 r17 r18 v19 h9 g8 f28)) [0, 9] rfl
    have hDc := hD.sub (ws' := (wd_5013416a h0 v0 r0 v1 v2 v3 v4 h1 h2 r1 h3 h4 h5 h6 v5 v6 h7 h8 r2 r3 v7 r4 r5 v8 v9 h9 r6 v10 v11 r7 v12 v13 r8 v14 w15 r9 v16 v17 r10 r11 r12 r13 r14 r15 v18 r16 r17 r18 v19 h9 g8 f28)) [0, 9] (by decide) rfl
    have hKc := hK.sub (tys' := [(g8, .int)]) [8] rfl
    have hFc := va_free (wc := (wd_5013416a h0 v0 r0 v1 v2 v3 v4 h1 h2 r1 h3 h4 h5 h6 v5 v6 h7 h8 r2 r3 v7 r4 r5 v8 v9 h9 r6 v10 v11 r7 v12 v13 r8 v14 w15 r9 v16 v17 r10 r11 r12 r13 r14 r15 v18 r16 r17 r18 v19 h9 g8 f28)) hD hS hA [0, 9] rfl
    refine va_calli (va_runV (As := [.int v29, .int 5]) (rest := [.int 4, .ref h7]) ⟨hx, hb, hml, hown, hts⟩ (k_X12_of_5 l dC dI h0 h9 v0 r0 v1 v2 v3 v4 h1 h2 r1 h3 h4 h5 h6 v5 v6 h7 h8 r2 r3 v7 r4 r5 v8 v9 r6 v10 v11 r7 v12 v13 r8 v14 w15 r9 v16 v17 r10 r11 r12 r13 r14 r15 v18 r16 r17 r18 v19 g8 f28 v29 ⟨i_v1a, i_v1b⟩ ⟨i_v5a, i_v5b⟩ ⟨i_v6a, i_v6b⟩ ⟨i_v7a, i_v7b⟩ ⟨i_v8a, i_v8b⟩ ⟨i_v9a, i_v9b⟩ ⟨i_v10a, i_v10b⟩ ⟨i_v14a, i_v14b⟩ ⟨i_v18a, i_v18b⟩ ⟨i_v19a, i_v19b⟩ ⟨i_v29a, i_v29b⟩ ia_f28 H.size) (cwV 2 hts g_X12_growthOf_7 rfl rfl rfl (by decide +kernel) ⟨Nat.le_of_ble_eq_true rfl, Nat.le_of_ble_eq_true rfl⟩) (pv_PV12 hPc hKc hDc (q0 := 0) rfl) rfl rfl hl.1 rfl (lv_room (Nat.le_of_ble_eq_true rfl)) dX12_growthOf_95 ⟨Nat.le_of_ble_eq_true rfl, Nat.le_of_ble_eq_true rfl⟩) hS (fun q _ h => hFc q h) hFc (fun ra26 u t H1 locs ht hvm hwra26 hB hz1 hk1 hS => ?_)
    try rw [hwra26] at hB
    obtain ⟨pt0_ra26, hP1, hK1, hD1⟩ := hB
    rw [ht] at hP1
    obtain ⟨hP2, hD2⟩ := va_join (wr := (wd_a0bd977d h1 g0 f20 h2 g1 f21 h3 g2 f22 h4 g3 f23 h5 g4 f24 h6 g5 f25 h7 g6 fn25 h8 g7 f27)) (w1 := (wd_5013416a h0 v0 r0 v1 v2 v3 v4 h1 h2 r1 h3 h4 h5 h6 v5 v6 h7 h8 r2 r3 v7 r4 r5 v8 v9 h9 r6 v10 v11 r7 v12 v13 r8 v14 w15 r9 v16 v17 r10 r11 r12 r13 r14 r15 v18 r16 r17 r18 v19 h9 g8 f28)) hP hD [0, 9] [1, 2, 3, 4, 5, 6, 7, 8] rfl rfl (by decide) (by decide) hk1 hFc hP1 hD1
    clear hP hD hPc hDc hKc hFc hP1 hK1 hD1 hk1 hz1
    generalize H1 = H at hP2 hS ⊢
    have hP := hP2.sub (ws' := (wd_c0e4689d h0 v0 r0 v1 v2 v3 v4 h1 h2 r1 h3 h4 h5 h6 v5 v6 h7 h8 r2 r3 v7 r4 r5 v8 v9 h9 r6 v10 v11 r7 v12 v13 r8 v14 w15 r9 v16 v17 r10 r11 r12 r13 r14 r15 v18 r16 r17 r18 v19 h1 g0 f20 h2 g1 f21 h3 g2 f22 h4 g3 f23 h5 g4 f24 h6 g5 f25 h7 g6 fn25 h8 g7 f27 h9 g8 f28)) [8, 0, 1, 2, 3, 4, 5, 6, 7, 9] rfl
    have hD := hD2.sub (ws' := (wd_c0e4689d h0 v0 r0 v1 v2 v3 v4 h1 h2 r1 h3 h4 h5 h6 v5 v6 h7 h8 r2 r3 v7 r4 r5 v8 v9 h9 r6 v10 v11 r7 v12 v13 r8 v14 w15 r9 v16 v17 r10 r11 r12 r13 r14 r15 v18 r16 r17 r18 v19 h1 g0 f20 h2 g1 f21 h3 g2 f22 h4 g3 f23 h5 g4 f24 h6 g5 f25 h7 g6 fn25 h8 g7 f27 h9 g8 f28)) [8, 0, 1, 2, 3, 4, 5, 6, 7, 9] (by decide +kernel) rfl
    clear hP2 hD2
    refine va_iast hx hb hK hP hD hS 7 6 rfl rfl (pv_c (x := 4) (n := 6) (by decide)) dX12_growthOf_98 (fun H locs hP hD hS => ?_)
    obtain ⟨fn27, efn27⟩ : ∃ g : Nat → Int32, g = upd fn25 (Int32.toNatClampNeg 4) ra26 := ⟨_, rfl⟩
    rw [← efn27] at hP hD
    have hP : va_P (dC, dI) vwCl (wd_c0e4689d h0 v0 r0 v1 v2 v3 v4 h1 h2 r1 h3 h4 h5 h6 v5 v6 h7 h8 r2 r3 v7 r4 r5 v8 v9 h9 r6 v10 v11 r7 v12 v13 r8 v14 w15 r9 v16 v17 r10 r11 r12 r13 r14 r15 v18 r16 r17 r18 v19 h1 g0 f20 h2 g1 f21 h3 g2 f22 h4 g3 f23 h5 g4 f24 h6 g5 f25 h7 g6 fn27 h8 g7 f27 h9 g8 f28) H := hP
    have hD : va_D A (wd_c0e4689d h0 v0 r0 v1 v2 v3 v4 h1 h2 r1 h3 h4 h5 h6 v5 v6 h7 h8 r2 r3 v7 r4 r5 v8 v9 h9 r6 v10 v11 r7 v12 v13 r8 v14 w15 r9 v16 v17 r10 r11 r12 r13 r14 r15 v18 r16 r17 r18 v19 h1 g0 f20 h2 g1 f21 h3 g2 f22 h4 g3 f23 h5 g4 f24 h6 g5 f25 h7 g6 fn27 h8 g7 f27 h9 g8 f28) := hD
    refine lv_aload_n hx hb dX12_growthOf_99 rfl (lv_at hl 2 rfl) ?_
    refine va_get (D := (dC, dI)) (ci := 12) (v := .ref h7) (C := RX12) (T := TX12) (N := 48) hx hb hts (fun _ h => List.mem_cons_of_mem _ (List.mem_append_right _ h)) hown hK hP 0 rfl rfl 15 (by decide) (hts (.fieldLink RX12 34 "LeftArgumentsModel" "letters" "[I") (List.mem_cons_of_mem _ (List.mem_append_left _ (List.mem_of_getElem? (i := 25) rfl)))) (fun _ h9 => h9) rfl dX12_growthOf_100 ?_
    refine lv_iconst (v := 5) hx hb dX12_growthOf_103 (by decide) ?_
    refine lv_aload_n hx hb dX12_growthOf_104 rfl (lv_at hl 2 rfl) ?_
    refine va_get (D := (dC, dI)) (ci := 12) (v := .ref h9) (C := RX12) (T := TX12) (N := 48) hx hb hts (fun _ h => List.mem_cons_of_mem _ (List.mem_append_right _ h)) hown hK hP 0 rfl rfl 24 (by decide) (hts (.fieldLink RX12 52 "LeftArgumentsModel" "now" "[I") (List.mem_cons_of_mem _ (List.mem_append_left _ (List.mem_of_getElem? (i := 1) rfl)))) (fun _ h9 => h9) rfl dX12_growthOf_105 ?_
    refine lv_bipush (v := 65) hx hb dX12_growthOf_108 (by decide) ?_
    refine va_iald hx hb hK hP 9 8 rfl rfl (pv_c (x := 65) (n := 247) (by decide)) dX12_growthOf_110 ?_
    refine lv_topi (fun t28 et28 => ?_)
    have mmt28 : f28 (Int32.toNatClampNeg 65) = t28 := et28.symm
    refine lv_bipush (v := 100) hx hb dX12_growthOf_111 (by decide) ?_
    refine lv_irem hx hb dX12_growthOf_113 (by decide) ?_
    refine lv_topi (fun t29 et29 => ?_)
    obtain ⟨gat29, gbt29, gct29, gdt29⟩ := pv_rm100 et29 (by decide)
    refine va_iast hx hb hK hP hD hS 7 6 rfl rfl (pv_c (x := 5) (n := 6) (by decide)) dX12_growthOf_114 (fun H locs hP hD hS => ?_)
    obtain ⟨fn30, efn30⟩ : ∃ g : Nat → Int32, g = upd fn27 (Int32.toNatClampNeg 5) t29 := ⟨_, rfl⟩
    rw [← efn30] at hP hD
    have hP : va_P (dC, dI) vwCl (wd_c0e4689d h0 v0 r0 v1 v2 v3 v4 h1 h2 r1 h3 h4 h5 h6 v5 v6 h7 h8 r2 r3 v7 r4 r5 v8 v9 h9 r6 v10 v11 r7 v12 v13 r8 v14 w15 r9 v16 v17 r10 r11 r12 r13 r14 r15 v18 r16 r17 r18 v19 h1 g0 f20 h2 g1 f21 h3 g2 f22 h4 g3 f23 h5 g4 f24 h6 g5 f25 h7 g6 fn30 h8 g7 f27 h9 g8 f28) H := hP
    have hD : va_D A (wd_c0e4689d h0 v0 r0 v1 v2 v3 v4 h1 h2 r1 h3 h4 h5 h6 v5 v6 h7 h8 r2 r3 v7 r4 r5 v8 v9 h9 r6 v10 v11 r7 v12 v13 r8 v14 w15 r9 v16 v17 r10 r11 r12 r13 r14 r15 v18 r16 r17 r18 v19 h1 g0 f20 h2 g1 f21 h3 g2 f22 h4 g3 f23 h5 g4 f24 h6 g5 f25 h7 g6 fn30 h8 g7 f27 h9 g8 f28) := hD
    refine lv_aload_n hx hb dX12_growthOf_115 rfl (lv_at hl 2 rfl) ?_
    refine lv_aload_n hx hb dX12_growthOf_116 rfl (lv_at hl 2 rfl) ?_
    refine va_get (D := (dC, dI)) (ci := 12) (v := .int v10) (C := RX12) (T := TX12) (N := 48) hx hb hts (fun _ h => List.mem_cons_of_mem _ (List.mem_append_right _ h)) hown hK hP 0 rfl rfl 26 (by decide) (hts (.fieldLink RX12 58 "LeftArgumentsModel" "holding" "I") (List.mem_cons_of_mem _ (List.mem_append_left _ (List.mem_of_getElem? (i := 17) rfl)))) (fun _ h9 => h9) rfl dX12_growthOf_117 ?_
    have hPc := hP.sub (ws' := (wd_8705ae5b h0 v0 r0 v1 v2 v3 v4 h1 h2 r1 h3 h4 h5 h6 v5 v6 h7 h8 r2 r3 v7 r4 r5 v8 v9 h9 r6 v10 v11 r7 v12 v13 r8 v14 w15 r9 v16 v17 r10 r11 r12 r13 r14 r15 v18 r16 r17 r18 v19 h1 g0 f20 h2 g1 f21 h3 g2 f22 h4 g3 f23 h5 g4 f24 h6 g5 f25 h7 g6 fn30 h8 g7 f27)) [0, 1, 2, 3, 4, 5, 6, 7, 8] rfl
    have hDc := hD.sub (ws' := (wd_8705ae5b h0 v0 r0 v1 v2 v3 v4 h1 h2 r1 h3 h4 h5 h6 v5 v6 h7 h8 r2 r3 v7 r4 r5 v8 v9 h9 r6 v10 v11 r7 v12 v13 r8 v14 w15 r9 v16 v17 r10 r11 r12 r13 r14 r15 v18 r16 r17 r18 v19 h1 g0 f20 h2 g1 f21 h3 g2 f22 h4 g3 f23 h5 g4 f24 h6 g5 f25 h7 g6 fn30 h8 g7 f27)) [0, 1, 2, 3, 4, 5, 6, 7, 8] (by decide) rfl
    have hKc := hK.sub (tys' := [(g0, .int), (g1, .int), (g2, .int), (g3, .int), (g4, .int), (g5, .int), (g6, .int), (g7, .int)]) [0, 1, 2, 3, 4, 5, 6, 7] rfl
    have hFc := va_free (wc := (wd_8705ae5b h0 v0 r0 v1 v2 v3 v4 h1 h2 r1 h3 h4 h5 h6 v5 v6 h7 h8 r2 r3 v7 r4 r5 v8 v9 h9 r6 v10 v11 r7 v12 v13 r8 v14 w15 r9 v16 v17 r10 r11 r12 r13 r14 r15 v18 r16 r17 r18 v19 h1 g0 f20 h2 g1 f21 h3 g2 f22 h4 g3 f23 h5 g4 f24 h6 g5 f25 h7 g6 fn30 h8 g7 f27)) hD hS hA [0, 1, 2, 3, 4, 5, 6, 7, 8] rfl
    refine va_calli (va_runV (As := [.int v10]) (rest := []) ⟨hx, hb, hml, hown, hts⟩ (k_X12_worthOf l dC dI h0 h1 h2 h3 h4 h5 h6 h7 h8 v0 r0 v1 v2 v3 v4 r1 v5 v6 r2 r3 v7 r4 r5 v8 v9 h9 r6 v10 v11 r7 v12 v13 r8 v14 w15 r9 v16 v17 r10 r11 r12 r13 r14 r15 v18 r16 r17 r18 v19 g0 f20 g1 f21 g2 f22 g3 f23 g4 f24 g5 f25 g6 fn30 g7 f27 v10 ⟨i_v1a, i_v1b⟩ ⟨i_v5a, i_v5b⟩ ⟨i_v6a, i_v6b⟩ ⟨i_v7a, i_v7b⟩ ⟨i_v8a, i_v8b⟩ ⟨i_v9a, i_v9b⟩ ⟨i_v10a, i_v10b⟩ ⟨i_v14a, i_v14b⟩ ⟨i_v18a, i_v18b⟩ ⟨i_v19a, i_v19b⟩ ⟨by first | omega | decide, i_v10b⟩ (by exact pm_Held.row (by assumption) (by omega)) H.size) (cwV 1 hts g_X12_growthOf_8 rfl rfl rfl (by decide +kernel) ⟨Nat.le_of_ble_eq_true rfl, Nat.le_of_ble_eq_true rfl⟩) (pv_PV12 hPc hKc hDc (q0 := 0) rfl) rfl rfl hl.1 rfl (lv_room (Nat.le_of_ble_eq_true rfl)) dX12_growthOf_120 ⟨Nat.le_of_ble_eq_true rfl, Nat.le_of_ble_eq_true rfl⟩) hS (fun q _ h => hFc q h) hFc (fun ra31 u t H1 locs ht hvm hwra31 hB hz1 hk1 hS => ?_)
    try rw [hwra31] at hB
    obtain ⟨fn32, hP1, hK1, hD1⟩ := hB
    rw [ht] at hP1
    obtain ⟨hP2, hD2⟩ := va_join (wr := (wd_92f861b2 h9 g8 f28)) (w1 := (wd_8705ae5b h0 v0 r0 v1 v2 v3 v4 h1 h2 r1 h3 h4 h5 h6 v5 v6 h7 h8 r2 r3 v7 r4 r5 v8 v9 h9 r6 v10 v11 r7 v12 v13 r8 v14 w15 r9 v16 v17 r10 r11 r12 r13 r14 r15 v18 r16 r17 r18 v19 h1 g0 f20 h2 g1 f21 h3 g2 f22 h4 g3 f23 h5 g4 f24 h6 g5 f25 h7 g6 fn30 h8 g7 fn32)) hP hD [0, 1, 2, 3, 4, 5, 6, 7, 8] [9] rfl rfl (by decide) (by decide) hk1 hFc hP1 hD1
    clear hP hD hPc hDc hKc hFc hP1 hK1 hD1 hk1 hz1
    generalize H1 = H at hP2 hS ⊢
    have hP := hP2.sub (ws' := (wd_c0e4689d h0 v0 r0 v1 v2 v3 v4 h1 h2 r1 h3 h4 h5 h6 v5 v6 h7 h8 r2 r3 v7 r4 r5 v8 v9 h9 r6 v10 v11 r7 v12 v13 r8 v14 w15 r9 v16 v17 r10 r11 r12 r13 r14 r15 v18 r16 r17 r18 v19 h1 g0 f20 h2 g1 f21 h3 g2 f22 h4 g3 f23 h5 g4 f24 h6 g5 f25 h7 g6 fn30 h8 g7 fn32 h9 g8 f28)) [1, 2, 3, 4, 5, 6, 7, 8, 9, 0] rfl
    have hD := hD2.sub (ws' := (wd_c0e4689d h0 v0 r0 v1 v2 v3 v4 h1 h2 r1 h3 h4 h5 h6 v5 v6 h7 h8 r2 r3 v7 r4 r5 v8 v9 h9 r6 v10 v11 r7 v12 v13 r8 v14 w15 r9 v16 v17 r10 r11 r12 r13 r14 r15 v18 r16 r17 r18 v19 h1 g0 f20 h2 g1 f21 h3 g2 f22 h4 g3 f23 h5 g4 f24 h6 g5 f25 h7 g6 fn30 h8 g7 fn32 h9 g8 f28)) [1, 2, 3, 4, 5, 6, 7, 8, 9, 0] (by decide +kernel) rfl
    clear hP2 hD2
    refine lv_istore_n (lv' := [(3, .int ra31), (2, .int t2), (0, .ref h0), (1, .int v29)]) hx hb dX12_growthOf_123 rfl hl (by decide) rfl (fun ls hl => ?_)
    exact hJ12 ra31 fn30 fn32 H locs ls hP hD hS (lv_sub hl [0, 1, 2, 3] rfl)
def q_X12_of_8 : List Cond := .code yX12_of cX12_of 3 (some .int) :: (([.fieldLink RX12 52 "LeftArgumentsModel" "now" "[I"] : List Cond) ++ wsX120)
set_option maxHeartbeats 4000000 in
set_option maxRecDepth 100000 in
theorem k_X12_of_8 (l : Launch) (dC : Nat → ClassId) (dI : Nat → Nat → Nat) (h0 : Nat) (h1 : Nat) (v0 : Int32) (r0 : Nat) (v1 : Int32) (v2 : Int32) (v3 : Int32) (v4 : Int32) (r1 : Nat) (r2 : Nat) (r3 : Nat) (r4 : Nat) (r5 : Nat) (r6 : Nat) (r7 : Nat) (v5 : Int32) (v6 : Int32) (r8 : Nat) (r9 : Nat) (r10 : Nat) (r11 : Nat) (v7 : Int32) (r12 : Nat) (r13 : Nat) (v8 : Int32) (v9 : Int32) (r14 : Nat) (v10 : Int32) (v11 : Int32) (r15 : Nat) (v12 : Int32) (v13 : Int32) (r16 : Nat) (v14 : Int32) (w15 : Int64) (r17 : Nat) (v16 : Int32) (v17 : Int32) (r18 : Nat) (r19 : Nat) (r20 : Nat) (r21 : Nat) (r22 : Nat) (r23 : Nat) (v18 : Int32) (r24 : Nat) (r25 : Nat) (r26 : Nat) (v19 : Int32) (g0 : ClassId) (f20 : Nat → Int32) (v21 : Int32) (i_v1 : 0 ≤ v1.toInt ∧ v1.toInt ≤ 240) (i_v5 : 0 ≤ v5.toInt ∧ v5.toInt ≤ 4) (i_v6 : 0 ≤ v6.toInt ∧ v6.toInt ≤ 4) (i_v7 : 0 ≤ v7.toInt ∧ v7.toInt ≤ 8) (i_v8 : 0 ≤ v8.toInt ∧ v8.toInt ≤ 8) (i_v9 : 0 ≤ v9.toInt ∧ v9.toInt ≤ 1) (i_v10 : -1 ≤ v10.toInt ∧ v10.toInt ≤ 3) (i_v14 : 0 ≤ v14.toInt ∧ v14.toInt ≤ 40) (i_v18 : 0 ≤ v18.toInt ∧ v18.toInt ≤ 10) (i_v19 : 0 ≤ v19.toInt ∧ v19.toInt ≤ 1) (i_v21 : 0 ≤ v21.toInt ∧ v21.toInt ≤ 7) (ia_f20 : (pm_NW0 f20)) (sz : Nat) : Met l yX12_of q_X12_of_8 ({ frames := 0, cells := 0, slots := 0, locals := 0 }) (va_Pc [.ref h0, .int v21, .int 6] (fun U => U.heap.size = sz ∧ va_P (dC, dI) vwCl (wd_5013416a h0 v0 r0 v1 v2 v3 v4 r1 r2 r3 r4 r5 r6 r7 v5 v6 r8 r9 r10 r11 v7 r12 r13 v8 v9 h1 r14 v10 v11 r15 v12 v13 r16 v14 w15 r17 v16 v17 r18 r19 r20 r21 r22 r23 v18 r24 r25 r26 v19 h1 g0 f20) U.heap ∧ va_K (dC, dI) vwCl [(g0, .int)] U ∧ va_D (fun _ => True) (wd_5013416a h0 v0 r0 v1 v2 v3 v4 r1 r2 r3 r4 r5 r6 r7 v5 v6 r8 r9 r10 r11 v7 r12 r13 v8 v9 h1 r14 v10 v11 r15 v12 v13 r16 v14 w15 r17 v16 v17 r18 r19 r20 r21 r22 r23 v18 r24 r25 r26 v19 h1 g0 f20))) (va_Qi (fun (r : Int32) (r9 : Int32) => r9 = r) (fun (r : Int32) (t : State) => ((r = f20 (pm_I v21 6)) ∧ va_P (dC, dI) vwCl (wd_5013416a h0 v0 r0 v1 v2 v3 v4 r1 r2 r3 r4 r5 r6 r7 v5 v6 r8 r9 r10 r11 v7 r12 r13 v8 v9 h1 r14 v10 v11 r15 v12 v13 r16 v14 w15 r17 v16 v17 r18 r19 r20 r21 r22 r23 v18 r24 r25 r26 v19 h1 g0 f20) t.heap ∧ va_K (dC, dI) vwCl [] t ∧ va_D (va_A (wd_5013416a h0 v0 r0 v1 v2 v3 v4 r1 r2 r3 r4 r5 r6 r7 v5 v6 r8 r9 r10 r11 v7 r12 r13 v8 v9 h1 r14 v10 v11 r15 v12 v13 r16 v14 w15 r17 v16 v17 r18 r19 r20 r21 r22 r23 v18 r24 r25 r26 v19 h1 g0 f20) sz) (wd_5013416a h0 v0 r0 v1 v2 v3 v4 r1 r2 r3 r4 r5 r6 r7 v5 v6 r8 r9 r10 r11 v7 r12 r13 v8 v9 h1 r14 v10 v11 r15 v12 v13 r16 v14 w15 r17 v16 v17 r18 r19 r20 r21 r22 r23 v18 r24 r25 r26 v19 h1 g0 f20))) (va_A (wd_5013416a h0 v0 r0 v1 v2 v3 v4 r1 r2 r3 r4 r5 r6 r7 v5 v6 r8 r9 r10 r11 v7 r12 r13 v8 v9 h1 r14 v10 v11 r15 v12 v13 r16 v14 w15 r17 v16 v17 r18 r19 r20 r21 r22 r23 v18 r24 r25 r26 v19 h1 g0 f20) sz)) 0 0 (va_A (wd_5013416a h0 v0 r0 v1 v2 v3 v4 r1 r2 r3 r4 r5 r6 r7 v5 v6 r8 r9 r10 r11 v7 r12 r13 v8 v9 h1 r14 v10 v11 r15 v12 v13 r16 v14 w15 r17 v16 v17 r18 r19 r20 r21 r22 r23 v18 r24 r25 r26 v19 h1 g0 f20) sz) := by
  refine Met.ofW (cc := cX12_of) (maxL := 3) (ret := (some .int)) (by decide) rfl ?_
  intro p e s m args below meth c s₁ B hml hv
  obtain ⟨i_v1a, i_v1b⟩ := i_v1
  obtain ⟨i_v5a, i_v5b⟩ := i_v5
  obtain ⟨i_v6a, i_v6b⟩ := i_v6
  obtain ⟨i_v7a, i_v7b⟩ := i_v7
  obtain ⟨i_v8a, i_v8b⟩ := i_v8
  obtain ⟨i_v9a, i_v9b⟩ := i_v9
  obtain ⟨i_v10a, i_v10b⟩ := i_v10
  obtain ⟨i_v14a, i_v14b⟩ := i_v14
  obtain ⟨i_v18a, i_v18b⟩ := i_v18
  obtain ⟨i_v19a, i_v19b⟩ := i_v19
  obtain ⟨i_v21a, i_v21b⟩ := i_v21
  obtain ⟨rfl, hsz, hP, hK, hD0⟩ := hv
  have hx := B.exec
  have hb := B.bytes
  have hr := B.returns
  have hts := atoms_spec (ws := q_X12_of_8) B.pre
  have hown : s.vm.findClass RX12 = some m.cls := findClass_of_methodNamed B.named
  have hlocks := B.notSynchronized
  subst hsz
  have hD := hD0.self (sz := s.heap.size)
  generalize hAe : va_A (wd_5013416a h0 v0 r0 v1 v2 v3 v4 r1 r2 r3 r4 r5 r6 r7 v5 v6 r8 r9 r10 r11 v7 r12 r13 v8 v9 h1 r14 v10 v11 r15 v12 v13 r16 v14 w15 r17 v16 v17 r18 r19 r20 r21 r22 r23 v18 r24 r25 r26 v19 h1 g0 f20) s.heap.size = A at hD ⊢
  have hA : ∀ q : Nat, s.heap.size ≤ q → A q := fun q h => by rw [← hAe]; exact Or.inr h
  have hS : va_S A s.heap s.heap [] := va_S.rf
  generalize hQ : (MQ below _ _ s 0 0 A) = Q
  have hl := lv_entry ([.ref h0, .int v21, .int 6]) (n := 3) (Nat.le_of_ble_eq_true rfl)
  rw [lg_entry_eq]
  generalize (lg_sl ([.ref h0, .int v21, .int 6]) ++ List.replicate (3 - (lg_sl ([.ref h0, .int v21, .int 6])).length) Slot.unset).toArray = ls at hl ⊢
  have hl : lv_has ls 3 [(0, .ref h0), (1, .int v21), (2, .int 6)] := hl
  obtain ⟨H, hH⟩ : ∃ H : Heap, H = s.heap := ⟨_, rfl⟩
  obtain ⟨locs, hlocs⟩ : ∃ y : List Loc, y = [] := ⟨_, rfl⟩
  have hS : va_S A s.heap H locs := by rw [hH, hlocs]; exact va_S.rf
  have hP : va_P (dC, dI) vwCl (wd_5013416a h0 v0 r0 v1 v2 v3 v4 r1 r2 r3 r4 r5 r6 r7 v5 v6 r8 r9 r10 r11 v7 r12 r13 v8 v9 h1 r14 v10 v11 r15 v12 v13 r16 v14 w15 r17 v16 v17 r18 r19 r20 r21 r22 r23 v18 r24 r25 r26 v19 h1 g0 f20) H := by rw [hH]; exact hP
  rw [← hH, ← hlocs]
  refine lv_aload_n hx hb dX12_of_0 rfl (lv_at hl 0 rfl) ?_
  refine va_get (D := (dC, dI)) (ci := 12) (v := .ref h1) (C := RX12) (T := TX12) (N := 48) hx hb hts (fun _ h => List.mem_cons_of_mem _ (List.mem_append_right _ h)) hown hK hP 0 rfl rfl 24 (by decide) (hts (.fieldLink RX12 52 "LeftArgumentsModel" "now" "[I") (List.mem_cons_of_mem _ (List.mem_append_left _ (List.mem_of_getElem? (i := 0) rfl)))) (fun _ h9 => h9) rfl dX12_of_1 ?_
  refine lv_bipush (v := 8) hx hb dX12_of_4 (by decide) ?_
  refine lv_iload_n hx hb dX12_of_6 rfl (lv_at hl 1 rfl) ?_
  refine lv_imul hx hb dX12_of_7 ?_
  refine lv_topi (fun t1 et1 => ?_)
  have gt1 : t1.toInt = 8 * v21.toInt := pv_mul (a := 8) (b := v21.toInt) et1 (by decide) rfl (by omega) (by omega)
  refine lv_iload_n hx hb dX12_of_8 rfl (lv_at hl 2 rfl) ?_
  refine lv_iadd hx hb dX12_of_9 ?_
  refine lv_topi (fun t2 et2 => ?_)
  have gt2 : t2.toInt = t1.toInt + 6 := pv_add (a := t1.toInt) (b := 6) et2 rfl (by decide) (by omega) (by omega)
  refine va_iald hx hb hK hP 1 0 rfl rfl (vp_in_iff.mpr ⟨by omega, by omega⟩) dX12_of_10 ?_
  refine lv_topi (fun t3 et3 => ?_)
  subst hQ
  have hP9 := hP.sub (ws' := (wd_5013416a h0 v0 r0 v1 v2 v3 v4 r1 r2 r3 r4 r5 r6 r7 v5 v6 r8 r9 r10 r11 v7 r12 r13 v8 v9 h1 r14 v10 v11 r15 v12 v13 r16 v14 w15 r17 v16 v17 r18 r19 r20 r21 r22 r23 v18 r24 r25 r26 v19 h1 g0 f20)) [0, 1] rfl
  have hD9 := hD.sub (ws' := (wd_5013416a h0 v0 r0 v1 v2 v3 v4 r1 r2 r3 r4 r5 r6 r7 v5 v6 r8 r9 r10 r11 v7 r12 r13 v8 v9 h1 r14 v10 v11 r15 v12 v13 r16 v14 w15 r17 v16 v17 r18 r19 r20 r21 r22 r23 v18 r24 r25 r26 v19 h1 g0 f20)) [0, 1] (by decide) rfl
  have hK9 := hK.sub (tys' := []) [] rfl
  exact W.iret (v := t3) hx hb hr (fun t ht hW => ⟨⟨t3, t3, rfl, rfl, ⟨by subst_vars; rfl, by rw [ht]; exact hP9, va_K.moved hW.alike hK9, hD9⟩⟩, hS.F ht⟩) hS.2.2 dX12_of_11
def q_X12_set_2 : List Cond := .code yX12_set cX12_set 4 none :: (([.fieldLink RX12 52 "LeftArgumentsModel" "now" "[I"] : List Cond) ++ wsX120)
set_option maxHeartbeats 4000000 in
set_option maxRecDepth 100000 in
theorem k_X12_set_2 (l : Launch) (dC : Nat → ClassId) (dI : Nat → Nat → Nat) (h0 : Nat) (h1 : Nat) (v0 : Int32) (r0 : Nat) (v1 : Int32) (v2 : Int32) (v3 : Int32) (v4 : Int32) (r1 : Nat) (r2 : Nat) (r3 : Nat) (r4 : Nat) (r5 : Nat) (r6 : Nat) (r7 : Nat) (v5 : Int32) (v6 : Int32) (r8 : Nat) (r9 : Nat) (r10 : Nat) (r11 : Nat) (v7 : Int32) (r12 : Nat) (r13 : Nat) (v8 : Int32) (v9 : Int32) (r14 : Nat) (v10 : Int32) (v11 : Int32) (r15 : Nat) (v12 : Int32) (v13 : Int32) (r16 : Nat) (v14 : Int32) (w15 : Int64) (r17 : Nat) (v16 : Int32) (v17 : Int32) (r18 : Nat) (r19 : Nat) (r20 : Nat) (r21 : Nat) (r22 : Nat) (r23 : Nat) (v18 : Int32) (r24 : Nat) (r25 : Nat) (r26 : Nat) (v19 : Int32) (g0 : ClassId) (f20 : Nat → Int32) (v21 : Int32) (v22 : Int32) (i_v1 : 0 ≤ v1.toInt ∧ v1.toInt ≤ 240) (i_v5 : 0 ≤ v5.toInt ∧ v5.toInt ≤ 4) (i_v6 : 0 ≤ v6.toInt ∧ v6.toInt ≤ 4) (i_v7 : 0 ≤ v7.toInt ∧ v7.toInt ≤ 8) (i_v8 : 0 ≤ v8.toInt ∧ v8.toInt ≤ 8) (i_v9 : 0 ≤ v9.toInt ∧ v9.toInt ≤ 1) (i_v10 : -1 ≤ v10.toInt ∧ v10.toInt ≤ 3) (i_v14 : 0 ≤ v14.toInt ∧ v14.toInt ≤ 40) (i_v18 : 0 ≤ v18.toInt ∧ v18.toInt ≤ 10) (i_v19 : 0 ≤ v19.toInt ∧ v19.toInt ≤ 1) (i_v21 : 0 ≤ v21.toInt ∧ v21.toInt ≤ 7) (ia_f20 : (pm_ANY f20)) (sz : Nat) : Met l yX12_set q_X12_set_2 ({ frames := 0, cells := 0, slots := 0, locals := 0 }) (va_Pc [.ref h0, .int v21, .int 0, .int v22] (fun U => U.heap.size = sz ∧ va_P (dC, dI) vwCl (wd_5013416a h0 v0 r0 v1 v2 v3 v4 r1 r2 r3 r4 r5 r6 r7 v5 v6 r8 r9 r10 r11 v7 r12 r13 v8 v9 h1 r14 v10 v11 r15 v12 v13 r16 v14 w15 r17 v16 v17 r18 r19 r20 r21 r22 r23 v18 r24 r25 r26 v19 h1 g0 f20) U.heap ∧ va_K (dC, dI) vwCl [(g0, .int)] U ∧ va_D (fun _ => True) (wd_5013416a h0 v0 r0 v1 v2 v3 v4 r1 r2 r3 r4 r5 r6 r7 v5 v6 r8 r9 r10 r11 v7 r12 r13 v8 v9 h1 r14 v10 v11 r15 v12 v13 r16 v14 w15 r17 v16 v17 r18 r19 r20 r21 r22 r23 v18 r24 r25 r26 v19 h1 g0 f20))) (va_Qv (fun (_ : Unit) => True) (fun (_ : Unit) (t : State) => (va_P (dC, dI) vwCl (wd_5013416a h0 v0 r0 v1 v2 v3 v4 r1 r2 r3 r4 r5 r6 r7 v5 v6 r8 r9 r10 r11 v7 r12 r13 v8 v9 h1 r14 v10 v11 r15 v12 v13 r16 v14 w15 r17 v16 v17 r18 r19 r20 r21 r22 r23 v18 r24 r25 r26 v19 h1 g0 (upd f20 (pm_I v21 0) v22)) t.heap ∧ va_K (dC, dI) vwCl [] t ∧ va_D (va_A (wd_5013416a h0 v0 r0 v1 v2 v3 v4 r1 r2 r3 r4 r5 r6 r7 v5 v6 r8 r9 r10 r11 v7 r12 r13 v8 v9 h1 r14 v10 v11 r15 v12 v13 r16 v14 w15 r17 v16 v17 r18 r19 r20 r21 r22 r23 v18 r24 r25 r26 v19 h1 g0 f20) sz) (wd_5013416a h0 v0 r0 v1 v2 v3 v4 r1 r2 r3 r4 r5 r6 r7 v5 v6 r8 r9 r10 r11 v7 r12 r13 v8 v9 h1 r14 v10 v11 r15 v12 v13 r16 v14 w15 r17 v16 v17 r18 r19 r20 r21 r22 r23 v18 r24 r25 r26 v19 h1 g0 (upd f20 (pm_I v21 0) v22)))) (va_A (wd_5013416a h0 v0 r0 v1 v2 v3 v4 r1 r2 r3 r4 r5 r6 r7 v5 v6 r8 r9 r10 r11 v7 r12 r13 v8 v9 h1 r14 v10 v11 r15 v12 v13 r16 v14 w15 r17 v16 v17 r18 r19 r20 r21 r22 r23 v18 r24 r25 r26 v19 h1 g0 f20) sz)) 0 0 (va_A (wd_5013416a h0 v0 r0 v1 v2 v3 v4 r1 r2 r3 r4 r5 r6 r7 v5 v6 r8 r9 r10 r11 v7 r12 r13 v8 v9 h1 r14 v10 v11 r15 v12 v13 r16 v14 w15 r17 v16 v17 r18 r19 r20 r21 r22 r23 v18 r24 r25 r26 v19 h1 g0 f20) sz) := by
  refine Met.ofW (cc := cX12_set) (maxL := 4) (ret := none) (by decide) rfl ?_
  intro p e s m args below meth c s₁ B hml hv
  obtain ⟨i_v1a, i_v1b⟩ := i_v1
  obtain ⟨i_v5a, i_v5b⟩ := i_v5
  obtain ⟨i_v6a, i_v6b⟩ := i_v6
  obtain ⟨i_v7a, i_v7b⟩ := i_v7
  obtain ⟨i_v8a, i_v8b⟩ := i_v8
  obtain ⟨i_v9a, i_v9b⟩ := i_v9
  obtain ⟨i_v10a, i_v10b⟩ := i_v10
  obtain ⟨i_v14a, i_v14b⟩ := i_v14
  obtain ⟨i_v18a, i_v18b⟩ := i_v18
  obtain ⟨i_v19a, i_v19b⟩ := i_v19
  obtain ⟨i_v21a, i_v21b⟩ := i_v21
  obtain ⟨rfl, hsz, hP, hK, hD0⟩ := hv
  have hx := B.exec
  have hb := B.bytes
  have hr := B.returns
  have hts := atoms_spec (ws := q_X12_set_2) B.pre
  have hown : s.vm.findClass RX12 = some m.cls := findClass_of_methodNamed B.named
  have hlocks := B.notSynchronized
  subst hsz
  have hD := hD0.self (sz := s.heap.size)
  generalize hAe : va_A (wd_5013416a h0 v0 r0 v1 v2 v3 v4 r1 r2 r3 r4 r5 r6 r7 v5 v6 r8 r9 r10 r11 v7 r12 r13 v8 v9 h1 r14 v10 v11 r15 v12 v13 r16 v14 w15 r17 v16 v17 r18 r19 r20 r21 r22 r23 v18 r24 r25 r26 v19 h1 g0 f20) s.heap.size = A at hD ⊢
  have hA : ∀ q : Nat, s.heap.size ≤ q → A q := fun q h => by rw [← hAe]; exact Or.inr h
  have hS : va_S A s.heap s.heap [] := va_S.rf
  generalize hQ : (MQ below _ _ s 0 0 A) = Q
  have hl := lv_entry ([.ref h0, .int v21, .int 0, .int v22]) (n := 4) (Nat.le_of_ble_eq_true rfl)
  rw [lg_entry_eq]
  generalize (lg_sl ([.ref h0, .int v21, .int 0, .int v22]) ++ List.replicate (4 - (lg_sl ([.ref h0, .int v21, .int 0, .int v22])).length) Slot.unset).toArray = ls at hl ⊢
  have hl : lv_has ls 4 [(0, .ref h0), (1, .int v21), (2, .int 0), (3, .int v22)] := hl
  obtain ⟨H, hH⟩ : ∃ H : Heap, H = s.heap := ⟨_, rfl⟩
  obtain ⟨locs, hlocs⟩ : ∃ y : List Loc, y = [] := ⟨_, rfl⟩
  have hS : va_S A s.heap H locs := by rw [hH, hlocs]; exact va_S.rf
  have hP : va_P (dC, dI) vwCl (wd_5013416a h0 v0 r0 v1 v2 v3 v4 r1 r2 r3 r4 r5 r6 r7 v5 v6 r8 r9 r10 r11 v7 r12 r13 v8 v9 h1 r14 v10 v11 r15 v12 v13 r16 v14 w15 r17 v16 v17 r18 r19 r20 r21 r22 r23 v18 r24 r25 r26 v19 h1 g0 f20) H := by rw [hH]; exact hP
  rw [← hH, ← hlocs]
  refine lv_aload_n hx hb dX12_set_0 rfl (lv_at hl 0 rfl) ?_
  refine va_get (D := (dC, dI)) (ci := 12) (v := .ref h1) (C := RX12) (T := TX12) (N := 48) hx hb hts (fun _ h => List.mem_cons_of_mem _ (List.mem_append_right _ h)) hown hK hP 0 rfl rfl 24 (by decide) (hts (.fieldLink RX12 52 "LeftArgumentsModel" "now" "[I") (List.mem_cons_of_mem _ (List.mem_append_left _ (List.mem_of_getElem? (i := 0) rfl)))) (fun _ h9 => h9) rfl dX12_set_1 ?_
  refine lv_bipush (v := 8) hx hb dX12_set_4 (by decide) ?_
  refine lv_iload_n hx hb dX12_set_6 rfl (lv_at hl 1 rfl) ?_
  refine lv_imul hx hb dX12_set_7 ?_
  refine lv_topi (fun t1 et1 => ?_)
  have gt1 : t1.toInt = 8 * v21.toInt := pv_mul (a := 8) (b := v21.toInt) et1 (by decide) rfl (by omega) (by omega)
  refine lv_iload_n hx hb dX12_set_8 rfl (lv_at hl 2 rfl) ?_
  refine lv_iadd hx hb dX12_set_9 ?_
  refine lv_topi (fun t2 et2 => ?_)
  have gt2 : t2.toInt = t1.toInt + 0 := pv_add (a := t1.toInt) (b := 0) et2 rfl (by decide) (by omega) (by omega)
  refine lv_iload_n hx hb dX12_set_10 rfl (lv_at hl 3 rfl) ?_
  refine va_iast hx hb hK hP hD hS 1 0 rfl rfl (vp_in_iff.mpr ⟨by omega, by omega⟩) dX12_set_11 (fun H locs hP hD hS => ?_)
  obtain ⟨fn3, efn3⟩ : ∃ g : Nat → Int32, g = upd f20 (Int32.toNatClampNeg t2) v22 := ⟨_, rfl⟩
  rw [← efn3] at hP hD
  have ia_fn3 : pm_ANY fn3 := trivial
  have hP : va_P (dC, dI) vwCl (wd_5013416a h0 v0 r0 v1 v2 v3 v4 r1 r2 r3 r4 r5 r6 r7 v5 v6 r8 r9 r10 r11 v7 r12 r13 v8 v9 h1 r14 v10 v11 r15 v12 v13 r16 v14 w15 r17 v16 v17 r18 r19 r20 r21 r22 r23 v18 r24 r25 r26 v19 h1 g0 fn3) H := hP
  have hD : va_D A (wd_5013416a h0 v0 r0 v1 v2 v3 v4 r1 r2 r3 r4 r5 r6 r7 v5 v6 r8 r9 r10 r11 v7 r12 r13 v8 v9 h1 r14 v10 v11 r15 v12 v13 r16 v14 w15 r17 v16 v17 r18 r19 r20 r21 r22 r23 v18 r24 r25 r26 v19 h1 g0 fn3) := hD
  subst hQ
  have e9 : fn3 = (upd f20 (pm_I v21 0) v22) := by subst_vars; rfl
  rw [e9] at hP hD
  have hP9 := hP.sub (ws' := (wd_5013416a h0 v0 r0 v1 v2 v3 v4 r1 r2 r3 r4 r5 r6 r7 v5 v6 r8 r9 r10 r11 v7 r12 r13 v8 v9 h1 r14 v10 v11 r15 v12 v13 r16 v14 w15 r17 v16 v17 r18 r19 r20 r21 r22 r23 v18 r24 r25 r26 v19 h1 g0 (upd f20 (pm_I v21 0) v22))) [0, 1] rfl
  have hD9 := hD.sub (ws' := (wd_5013416a h0 v0 r0 v1 v2 v3 v4 r1 r2 r3 r4 r5 r6 r7 v5 v6 r8 r9 r10 r11 v7 r12 r13 v8 v9 h1 r14 v10 v11 r15 v12 v13 r16 v14 w15 r17 v16 v17 r18 r19 r20 r21 r22 r23 v18 r24 r25 r26 v19 h1 g0 (upd f20 (pm_I v21 0) v22))) [0, 1] (by decide) rfl
  have hK9 := hK.sub (tys' := []) [] rfl
  exact W.vret hx hb hr (fun t ht hW => ⟨⟨(), rfl, trivial, ⟨by rw [ht]; exact hP9, va_K.moved hW.alike hK9, hD9⟩⟩, hS.F ht⟩) hS.2.2 dX12_set_12
def q_X12_set_3 : List Cond := .code yX12_set cX12_set 4 none :: (([.fieldLink RX12 52 "LeftArgumentsModel" "now" "[I"] : List Cond) ++ wsX120)
set_option maxHeartbeats 4000000 in
set_option maxRecDepth 100000 in
theorem k_X12_set_3 (l : Launch) (dC : Nat → ClassId) (dI : Nat → Nat → Nat) (h0 : Nat) (h1 : Nat) (v0 : Int32) (r0 : Nat) (v1 : Int32) (v2 : Int32) (v3 : Int32) (v4 : Int32) (r1 : Nat) (r2 : Nat) (r3 : Nat) (r4 : Nat) (r5 : Nat) (r6 : Nat) (r7 : Nat) (v5 : Int32) (v6 : Int32) (r8 : Nat) (r9 : Nat) (r10 : Nat) (r11 : Nat) (v7 : Int32) (r12 : Nat) (r13 : Nat) (v8 : Int32) (v9 : Int32) (r14 : Nat) (v10 : Int32) (v11 : Int32) (r15 : Nat) (v12 : Int32) (v13 : Int32) (r16 : Nat) (v14 : Int32) (w15 : Int64) (r17 : Nat) (v16 : Int32) (v17 : Int32) (r18 : Nat) (r19 : Nat) (r20 : Nat) (r21 : Nat) (r22 : Nat) (r23 : Nat) (v18 : Int32) (r24 : Nat) (r25 : Nat) (r26 : Nat) (v19 : Int32) (g0 : ClassId) (f20 : Nat → Int32) (v21 : Int32) (v22 : Int32) (i_v1 : 0 ≤ v1.toInt ∧ v1.toInt ≤ 240) (i_v5 : 0 ≤ v5.toInt ∧ v5.toInt ≤ 4) (i_v6 : 0 ≤ v6.toInt ∧ v6.toInt ≤ 4) (i_v7 : 0 ≤ v7.toInt ∧ v7.toInt ≤ 8) (i_v8 : 0 ≤ v8.toInt ∧ v8.toInt ≤ 8) (i_v9 : 0 ≤ v9.toInt ∧ v9.toInt ≤ 1) (i_v10 : -1 ≤ v10.toInt ∧ v10.toInt ≤ 3) (i_v14 : 0 ≤ v14.toInt ∧ v14.toInt ≤ 40) (i_v18 : 0 ≤ v18.toInt ∧ v18.toInt ≤ 10) (i_v19 : 0 ≤ v19.toInt ∧ v19.toInt ≤ 1) (i_v21 : 0 ≤ v21.toInt ∧ v21.toInt ≤ 7) (ia_f20 : (pm_ANY f20)) (sz : Nat) : Met l yX12_set q_X12_set_3 ({ frames := 0, cells := 0, slots := 0, locals := 0 }) (va_Pc [.ref h0, .int v21, .int 4, .int v22] (fun U => U.heap.size = sz ∧ va_P (dC, dI) vwCl (wd_5013416a h0 v0 r0 v1 v2 v3 v4 r1 r2 r3 r4 r5 r6 r7 v5 v6 r8 r9 r10 r11 v7 r12 r13 v8 v9 h1 r14 v10 v11 r15 v12 v13 r16 v14 w15 r17 v16 v17 r18 r19 r20 r21 r22 r23 v18 r24 r25 r26 v19 h1 g0 f20) U.heap ∧ va_K (dC, dI) vwCl [(g0, .int)] U ∧ va_D (fun _ => True) (wd_5013416a h0 v0 r0 v1 v2 v3 v4 r1 r2 r3 r4 r5 r6 r7 v5 v6 r8 r9 r10 r11 v7 r12 r13 v8 v9 h1 r14 v10 v11 r15 v12 v13 r16 v14 w15 r17 v16 v17 r18 r19 r20 r21 r22 r23 v18 r24 r25 r26 v19 h1 g0 f20))) (va_Qv (fun (_ : Unit) => True) (fun (_ : Unit) (t : State) => (va_P (dC, dI) vwCl (wd_5013416a h0 v0 r0 v1 v2 v3 v4 r1 r2 r3 r4 r5 r6 r7 v5 v6 r8 r9 r10 r11 v7 r12 r13 v8 v9 h1 r14 v10 v11 r15 v12 v13 r16 v14 w15 r17 v16 v17 r18 r19 r20 r21 r22 r23 v18 r24 r25 r26 v19 h1 g0 (upd f20 (pm_I v21 4) v22)) t.heap ∧ va_K (dC, dI) vwCl [] t ∧ va_D (va_A (wd_5013416a h0 v0 r0 v1 v2 v3 v4 r1 r2 r3 r4 r5 r6 r7 v5 v6 r8 r9 r10 r11 v7 r12 r13 v8 v9 h1 r14 v10 v11 r15 v12 v13 r16 v14 w15 r17 v16 v17 r18 r19 r20 r21 r22 r23 v18 r24 r25 r26 v19 h1 g0 f20) sz) (wd_5013416a h0 v0 r0 v1 v2 v3 v4 r1 r2 r3 r4 r5 r6 r7 v5 v6 r8 r9 r10 r11 v7 r12 r13 v8 v9 h1 r14 v10 v11 r15 v12 v13 r16 v14 w15 r17 v16 v17 r18 r19 r20 r21 r22 r23 v18 r24 r25 r26 v19 h1 g0 (upd f20 (pm_I v21 4) v22)))) (va_A (wd_5013416a h0 v0 r0 v1 v2 v3 v4 r1 r2 r3 r4 r5 r6 r7 v5 v6 r8 r9 r10 r11 v7 r12 r13 v8 v9 h1 r14 v10 v11 r15 v12 v13 r16 v14 w15 r17 v16 v17 r18 r19 r20 r21 r22 r23 v18 r24 r25 r26 v19 h1 g0 f20) sz)) 0 0 (va_A (wd_5013416a h0 v0 r0 v1 v2 v3 v4 r1 r2 r3 r4 r5 r6 r7 v5 v6 r8 r9 r10 r11 v7 r12 r13 v8 v9 h1 r14 v10 v11 r15 v12 v13 r16 v14 w15 r17 v16 v17 r18 r19 r20 r21 r22 r23 v18 r24 r25 r26 v19 h1 g0 f20) sz) := by
  refine Met.ofW (cc := cX12_set) (maxL := 4) (ret := none) (by decide) rfl ?_
  intro p e s m args below meth c s₁ B hml hv
  obtain ⟨i_v1a, i_v1b⟩ := i_v1
  obtain ⟨i_v5a, i_v5b⟩ := i_v5
  obtain ⟨i_v6a, i_v6b⟩ := i_v6
  obtain ⟨i_v7a, i_v7b⟩ := i_v7
  obtain ⟨i_v8a, i_v8b⟩ := i_v8
  obtain ⟨i_v9a, i_v9b⟩ := i_v9
  obtain ⟨i_v10a, i_v10b⟩ := i_v10
  obtain ⟨i_v14a, i_v14b⟩ := i_v14
  obtain ⟨i_v18a, i_v18b⟩ := i_v18
  obtain ⟨i_v19a, i_v19b⟩ := i_v19
  obtain ⟨i_v21a, i_v21b⟩ := i_v21
  obtain ⟨rfl, hsz, hP, hK, hD0⟩ := hv
  have hx := B.exec
  have hb := B.bytes
  have hr := B.returns
  have hts := atoms_spec (ws := q_X12_set_3) B.pre
  have hown : s.vm.findClass RX12 = some m.cls := findClass_of_methodNamed B.named
  have hlocks := B.notSynchronized
  subst hsz
  have hD := hD0.self (sz := s.heap.size)
  generalize hAe : va_A (wd_5013416a h0 v0 r0 v1 v2 v3 v4 r1 r2 r3 r4 r5 r6 r7 v5 v6 r8 r9 r10 r11 v7 r12 r13 v8 v9 h1 r14 v10 v11 r15 v12 v13 r16 v14 w15 r17 v16 v17 r18 r19 r20 r21 r22 r23 v18 r24 r25 r26 v19 h1 g0 f20) s.heap.size = A at hD ⊢
  have hA : ∀ q : Nat, s.heap.size ≤ q → A q := fun q h => by rw [← hAe]; exact Or.inr h
  have hS : va_S A s.heap s.heap [] := va_S.rf
  generalize hQ : (MQ below _ _ s 0 0 A) = Q
  have hl := lv_entry ([.ref h0, .int v21, .int 4, .int v22]) (n := 4) (Nat.le_of_ble_eq_true rfl)
  rw [lg_entry_eq]
  generalize (lg_sl ([.ref h0, .int v21, .int 4, .int v22]) ++ List.replicate (4 - (lg_sl ([.ref h0, .int v21, .int 4, .int v22])).length) Slot.unset).toArray = ls at hl ⊢
  have hl : lv_has ls 4 [(0, .ref h0), (1, .int v21), (2, .int 4), (3, .int v22)] := hl
  obtain ⟨H, hH⟩ : ∃ H : Heap, H = s.heap := ⟨_, rfl⟩
  obtain ⟨locs, hlocs⟩ : ∃ y : List Loc, y = [] := ⟨_, rfl⟩
  have hS : va_S A s.heap H locs := by rw [hH, hlocs]; exact va_S.rf
  have hP : va_P (dC, dI) vwCl (wd_5013416a h0 v0 r0 v1 v2 v3 v4 r1 r2 r3 r4 r5 r6 r7 v5 v6 r8 r9 r10 r11 v7 r12 r13 v8 v9 h1 r14 v10 v11 r15 v12 v13 r16 v14 w15 r17 v16 v17 r18 r19 r20 r21 r22 r23 v18 r24 r25 r26 v19 h1 g0 f20) H := by rw [hH]; exact hP
  rw [← hH, ← hlocs]
  refine lv_aload_n hx hb dX12_set_0 rfl (lv_at hl 0 rfl) ?_
  refine va_get (D := (dC, dI)) (ci := 12) (v := .ref h1) (C := RX12) (T := TX12) (N := 48) hx hb hts (fun _ h => List.mem_cons_of_mem _ (List.mem_append_right _ h)) hown hK hP 0 rfl rfl 24 (by decide) (hts (.fieldLink RX12 52 "LeftArgumentsModel" "now" "[I") (List.mem_cons_of_mem _ (List.mem_append_left _ (List.mem_of_getElem? (i := 0) rfl)))) (fun _ h9 => h9) rfl dX12_set_1 ?_
  refine lv_bipush (v := 8) hx hb dX12_set_4 (by decide) ?_
  refine lv_iload_n hx hb dX12_set_6 rfl (lv_at hl 1 rfl) ?_
  refine lv_imul hx hb dX12_set_7 ?_
  refine lv_topi (fun t1 et1 => ?_)
  have gt1 : t1.toInt = 8 * v21.toInt := pv_mul (a := 8) (b := v21.toInt) et1 (by decide) rfl (by omega) (by omega)
  refine lv_iload_n hx hb dX12_set_8 rfl (lv_at hl 2 rfl) ?_
  refine lv_iadd hx hb dX12_set_9 ?_
  refine lv_topi (fun t2 et2 => ?_)
  have gt2 : t2.toInt = t1.toInt + 4 := pv_add (a := t1.toInt) (b := 4) et2 rfl (by decide) (by omega) (by omega)
  refine lv_iload_n hx hb dX12_set_10 rfl (lv_at hl 3 rfl) ?_
  refine va_iast hx hb hK hP hD hS 1 0 rfl rfl (vp_in_iff.mpr ⟨by omega, by omega⟩) dX12_set_11 (fun H locs hP hD hS => ?_)
  obtain ⟨fn3, efn3⟩ : ∃ g : Nat → Int32, g = upd f20 (Int32.toNatClampNeg t2) v22 := ⟨_, rfl⟩
  rw [← efn3] at hP hD
  have ia_fn3 : pm_ANY fn3 := trivial
  have hP : va_P (dC, dI) vwCl (wd_5013416a h0 v0 r0 v1 v2 v3 v4 r1 r2 r3 r4 r5 r6 r7 v5 v6 r8 r9 r10 r11 v7 r12 r13 v8 v9 h1 r14 v10 v11 r15 v12 v13 r16 v14 w15 r17 v16 v17 r18 r19 r20 r21 r22 r23 v18 r24 r25 r26 v19 h1 g0 fn3) H := hP
  have hD : va_D A (wd_5013416a h0 v0 r0 v1 v2 v3 v4 r1 r2 r3 r4 r5 r6 r7 v5 v6 r8 r9 r10 r11 v7 r12 r13 v8 v9 h1 r14 v10 v11 r15 v12 v13 r16 v14 w15 r17 v16 v17 r18 r19 r20 r21 r22 r23 v18 r24 r25 r26 v19 h1 g0 fn3) := hD
  subst hQ
  have e9 : fn3 = (upd f20 (pm_I v21 4) v22) := by subst_vars; rfl
  rw [e9] at hP hD
  have hP9 := hP.sub (ws' := (wd_5013416a h0 v0 r0 v1 v2 v3 v4 r1 r2 r3 r4 r5 r6 r7 v5 v6 r8 r9 r10 r11 v7 r12 r13 v8 v9 h1 r14 v10 v11 r15 v12 v13 r16 v14 w15 r17 v16 v17 r18 r19 r20 r21 r22 r23 v18 r24 r25 r26 v19 h1 g0 (upd f20 (pm_I v21 4) v22))) [0, 1] rfl
  have hD9 := hD.sub (ws' := (wd_5013416a h0 v0 r0 v1 v2 v3 v4 r1 r2 r3 r4 r5 r6 r7 v5 v6 r8 r9 r10 r11 v7 r12 r13 v8 v9 h1 r14 v10 v11 r15 v12 v13 r16 v14 w15 r17 v16 v17 r18 r19 r20 r21 r22 r23 v18 r24 r25 r26 v19 h1 g0 (upd f20 (pm_I v21 4) v22))) [0, 1] (by decide) rfl
  have hK9 := hK.sub (tys' := []) [] rfl
  exact W.vret hx hb hr (fun t ht hW => ⟨⟨(), rfl, trivial, ⟨by rw [ht]; exact hP9, va_K.moved hW.alike hK9, hD9⟩⟩, hS.F ht⟩) hS.2.2 dX12_set_12
def q_X12_growAll : List Cond := .code yX12_growAll cX12_growAll 2 none :: (([.code yX12_isThere cX12_isThere 2 (some .boolean), .code yX12_in cX12_in 3 (some .boolean), .initialized RX12, .static yX12_in, .methodLink RX12 217 yX12_in, .code yX12_of cX12_of 3 (some .int), .fieldLink RX12 52 "LeftArgumentsModel" "now" "[I", .instanceMethod yX12_of, .selects RX12 yX12_of yX12_of, .methodLink RX12 287 yX12_of, .instanceMethod yX12_isThere, .selects RX12 yX12_isThere yX12_isThere, .methodLink RX12 290 yX12_isThere, .fieldLink RX12 65 "LeftArgumentsModel" "grows" "[I", .methodLink RX12 299 Lib.Math.min.name, .static Lib.Math.min.name, .initialized "java/lang/Math", .code Lib.Math.min.name Lib.Math.min.code 2 (some .int), .methodLink RX12 301 Lib.Math.max.name, .static Lib.Math.max.name, .code Lib.Math.max.name Lib.Math.max.code 2 (some .int), .code yX12_set cX12_set 4 none, .instanceMethod yX12_set, .selects RX12 yX12_set yX12_set, .methodLink RX12 258 yX12_set, .code yX12_growthOf cX12_growthOf 4 (some .int), .code yX12_withOf cX12_withOf 4 (some .int), .instanceMethod yX12_withOf, .selects RX12 yX12_withOf yX12_withOf, .methodLink RX12 293 yX12_withOf, .fieldLink RX12 58 "LeftArgumentsModel" "holding" "I", .fieldLink RX12 34 "LeftArgumentsModel" "letters" "[I", .code yX12_worthOf cX12_worthOf 3 (some .int), .fieldLink RX12 22 "LeftArgumentsModel" "clauses" "[I", .fieldLink RX12 25 "LeftArgumentsModel" "testFrom" "[I", .fieldLink RX12 28 "LeftArgumentsModel" "sumFrom" "[I", .fieldLink RX12 31 "LeftArgumentsModel" "sumTo" "[I", .code yX12_workOut cX12_workOut 6 (some .int), .fieldLink RX12 37 "LeftArgumentsModel" "stack" "[I", .fieldLink RX12 13 "LeftArgumentsModel" "code" "[I", .fieldLink RX12 16 "LeftArgumentsModel" "value" "[I", .code yX12_worked cX12_worked 5 (some .int), .code yX12_bounded cX12_bounded 2 (some .int), .constantLong RX12 192 (-1000000), .constantLong RX12 194 (1000000), .methodLink RX12 196 Lib.MathLoose.min_long.x, .static Lib.MathLoose.min_long.x, .code Lib.MathLoose.min_long.x Lib.MathLoose.min_long.code 4 (some .long), .methodLink RX12 202 Lib.MathLoose.max_long.x, .static Lib.MathLoose.max_long.x, .code Lib.MathLoose.max_long.x Lib.MathLoose.max_long.code 4 (some .long), .static yX12_bounded, .methodLink RX12 205 yX12_bounded, .static yX12_worked, .methodLink RX12 209 yX12_worked, .instanceMethod yX12_workOut, .selects RX12 yX12_workOut yX12_workOut, .methodLink RX12 213 yX12_workOut, .instanceMethod yX12_worthOf, .selects RX12 yX12_worthOf yX12_worthOf, .methodLink RX12 296 yX12_worthOf, .instanceMethod yX12_growthOf, .selects RX12 yX12_growthOf yX12_growthOf, .methodLink RX12 303 yX12_growthOf] : List Cond) ++ wsX120)
set_option maxRecDepth 20000 in
theorem g_X12_growAll_0 : GoodIn q_X12_growAll (wsV RX12 290 RX12 yX12_isThere q_X12_isThere) := goodIn_app (goodIn_r _ [13, 11, 12, 3] rfl (by decide +kernel)) (goodIn_ca (goodIn_r (.code yX12_isThere cX12_isThere 2 (some .boolean) :: [.code yX12_in cX12_in 3 (some .boolean), .initialized RX12, .static yX12_in, .methodLink RX12 217 yX12_in, .code yX12_of cX12_of 3 (some .int), .fieldLink RX12 52 "LeftArgumentsModel" "now" "[I", .instanceMethod yX12_of, .selects RX12 yX12_of yX12_of, .methodLink RX12 287 yX12_of]) [1, 2, 3, 4, 5, 6, 7, 8, 9, 10] rfl (by decide +kernel)) (goodIn_sub (fun _ h => List.mem_cons_of_mem _ (List.mem_append_right _ h)) gwX12))
set_option maxRecDepth 20000 in
theorem g_X12_growAll_1 : GoodIn q_X12_growAll (wsV RX12 287 RX12 yX12_of q_X12_of_8) := goodIn_app (goodIn_r _ [10, 8, 9, 3] rfl (by decide +kernel)) (goodIn_ca (goodIn_r (.code yX12_of cX12_of 3 (some .int) :: [.fieldLink RX12 52 "LeftArgumentsModel" "now" "[I"]) [6, 7] rfl (by decide +kernel)) (goodIn_sub (fun _ h => List.mem_cons_of_mem _ (List.mem_append_right _ h)) gwX12))
set_option maxRecDepth 20000 in
theorem g_X12_growAll_2 : GoodIn q_X12_growAll (wsV RX12 287 RX12 yX12_of q_X12_of_3) := goodIn_app (goodIn_r _ [10, 8, 9, 3] rfl (by decide +kernel)) (goodIn_ca (goodIn_r (.code yX12_of cX12_of 3 (some .int) :: [.fieldLink RX12 52 "LeftArgumentsModel" "now" "[I"]) [6, 7] rfl (by decide +kernel)) (goodIn_sub (fun _ h => List.mem_cons_of_mem _ (List.mem_append_right _ h)) gwX12))
set_option maxRecDepth 20000 in
theorem g_X12_growAll_3 : GoodIn q_X12_growAll (wsV RX12 258 RX12 yX12_set q_X12_set_2) := goodIn_app (goodIn_r _ [25, 23, 24, 3] rfl (by decide +kernel)) (goodIn_ca (goodIn_r (.code yX12_set cX12_set 4 none :: [.fieldLink RX12 52 "LeftArgumentsModel" "now" "[I"]) [22, 7] rfl (by decide +kernel)) (goodIn_sub (fun _ h => List.mem_cons_of_mem _ (List.mem_append_right _ h)) gwX12))
set_option maxRecDepth 20000 in
theorem g_X12_growAll_4 : GoodIn q_X12_growAll (wsV RX12 287 RX12 yX12_of q_X12_of_6) := goodIn_app (goodIn_r _ [10, 8, 9, 3] rfl (by decide +kernel)) (goodIn_ca (goodIn_r (.code yX12_of cX12_of 3 (some .int) :: [.fieldLink RX12 52 "LeftArgumentsModel" "now" "[I"]) [6, 7] rfl (by decide +kernel)) (goodIn_sub (fun _ h => List.mem_cons_of_mem _ (List.mem_append_right _ h)) gwX12))
set_option maxRecDepth 20000 in
theorem g_X12_growAll_5 : GoodIn q_X12_growAll (wsV RX12 258 RX12 yX12_set q_X12_set_3) := goodIn_app (goodIn_r _ [25, 23, 24, 3] rfl (by decide +kernel)) (goodIn_ca (goodIn_r (.code yX12_set cX12_set 4 none :: [.fieldLink RX12 52 "LeftArgumentsModel" "now" "[I"]) [22, 7] rfl (by decide +kernel)) (goodIn_sub (fun _ h => List.mem_cons_of_mem _ (List.mem_append_right _ h)) gwX12))
set_option maxRecDepth 20000 in
theorem g_X12_growAll_8 : GoodIn q_X12_growAll (wsV RX12 303 RX12 yX12_growthOf q_X12_growthOf) := goodIn_app (goodIn_r _ [64, 62, 63, 3] rfl (by decide +kernel)) (goodIn_ca (goodIn_r (.code yX12_growthOf cX12_growthOf 4 (some .int) :: [.code yX12_of cX12_of 3 (some .int), .fieldLink RX12 52 "LeftArgumentsModel" "now" "[I", .initialized RX12, .instanceMethod yX12_of, .selects RX12 yX12_of yX12_of, .methodLink RX12 287 yX12_of, .code yX12_withOf cX12_withOf 4 (some .int), .code yX12_isThere cX12_isThere 2 (some .boolean), .code yX12_in cX12_in 3 (some .boolean), .static yX12_in, .methodLink RX12 217 yX12_in, .instanceMethod yX12_isThere, .selects RX12 yX12_isThere yX12_isThere, .methodLink RX12 290 yX12_isThere, .instanceMethod yX12_withOf, .selects RX12 yX12_withOf yX12_withOf, .methodLink RX12 293 yX12_withOf, .fieldLink RX12 58 "LeftArgumentsModel" "holding" "I", .methodLink RX12 299 Lib.Math.min.name, .static Lib.Math.min.name, .initialized "java/lang/Math", .code Lib.Math.min.name Lib.Math.min.code 2 (some .int), .methodLink RX12 301 Lib.Math.max.name, .static Lib.Math.max.name, .code Lib.Math.max.name Lib.Math.max.code 2 (some .int), .fieldLink RX12 34 "LeftArgumentsModel" "letters" "[I", .code yX12_worthOf cX12_worthOf 3 (some .int), .fieldLink RX12 22 "LeftArgumentsModel" "clauses" "[I", .fieldLink RX12 25 "LeftArgumentsModel" "testFrom" "[I", .fieldLink RX12 28 "LeftArgumentsModel" "sumFrom" "[I", .fieldLink RX12 31 "LeftArgumentsModel" "sumTo" "[I", .code yX12_workOut cX12_workOut 6 (some .int), .fieldLink RX12 37 "LeftArgumentsModel" "stack" "[I", .fieldLink RX12 13 "LeftArgumentsModel" "code" "[I", .fieldLink RX12 16 "LeftArgumentsModel" "value" "[I", .code yX12_worked cX12_worked 5 (some .int), .code yX12_bounded cX12_bounded 2 (some .int), .constantLong RX12 192 (-1000000), .constantLong RX12 194 (1000000), .methodLink RX12 196 Lib.MathLoose.min_long.x, .static Lib.MathLoose.min_long.x, .code Lib.MathLoose.min_long.x Lib.MathLoose.min_long.code 4 (some .long), .methodLink RX12 202 Lib.MathLoose.max_long.x, .static Lib.MathLoose.max_long.x, .code Lib.MathLoose.max_long.x Lib.MathLoose.max_long.code 4 (some .long), .static yX12_bounded, .methodLink RX12 205 yX12_bounded, .static yX12_worked, .methodLink RX12 209 yX12_worked, .instanceMethod yX12_workOut, .selects RX12 yX12_workOut yX12_workOut, .methodLink RX12 213 yX12_workOut, .instanceMethod yX12_worthOf, .selects RX12 yX12_worthOf yX12_worthOf, .methodLink RX12 296 yX12_worthOf]) [26, 6, 7, 3, 8, 9, 10, 27, 1, 2, 4, 5, 11, 12, 13, 28, 29, 30, 31, 15, 16, 17, 18, 19, 20, 21, 32, 33, 34, 35, 36, 37, 38, 39, 40, 41, 42, 43, 44, 45, 46, 47, 48, 49, 50, 51, 52, 53, 54, 55, 56, 57, 58, 59, 60, 61] rfl (by decide +kernel)) (goodIn_sub (fun _ h => List.mem_cons_of_mem _ (List.mem_append_right _ h)) gwX12))
set_option maxHeartbeats 4000000 in
set_option maxRecDepth 100000 in
theorem k_X12_growAll (l : Launch) (dC : Nat → ClassId) (dI : Nat → Nat → Nat) (h0 : Nat) (h1 : Nat) (h2 : Nat) (h3 : Nat) (h4 : Nat) (h5 : Nat) (h6 : Nat) (h7 : Nat) (h8 : Nat) (h9 : Nat) (h10 : Nat) (v0 : Int32) (r0 : Nat) (v1 : Int32) (v2 : Int32) (v3 : Int32) (v4 : Int32) (r1 : Nat) (v5 : Int32) (v6 : Int32) (r2 : Nat) (r3 : Nat) (v7 : Int32) (r4 : Nat) (r5 : Nat) (v8 : Int32) (v9 : Int32) (r6 : Nat) (v10 : Int32) (v11 : Int32) (v12 : Int32) (v13 : Int32) (r7 : Nat) (v14 : Int32) (w15 : Int64) (r8 : Nat) (v16 : Int32) (v17 : Int32) (r9 : Nat) (r10 : Nat) (r11 : Nat) (r12 : Nat) (r13 : Nat) (r14 : Nat) (v18 : Int32) (r15 : Nat) (r16 : Nat) (r17 : Nat) (v19 : Int32) (g0 : ClassId) (f20 : Nat → Int32) (g1 : ClassId) (f21 : Nat → Int32) (g2 : ClassId) (f22 : Nat → Int32) (g3 : ClassId) (f23 : Nat → Int32) (g4 : ClassId) (f24 : Nat → Int32) (g5 : ClassId) (f25 : Nat → Int32) (g6 : ClassId) (f26 : Nat → Int32) (g7 : ClassId) (f27 : Nat → Int32) (g8 : ClassId) (f28 : Nat → Int32) (g9 : ClassId) (f29 : Nat → Int32) (i_v1 : 0 ≤ v1.toInt ∧ v1.toInt ≤ 240) (i_v5 : 0 ≤ v5.toInt ∧ v5.toInt ≤ 4) (i_v6 : 0 ≤ v6.toInt ∧ v6.toInt ≤ 4) (i_v7 : 0 ≤ v7.toInt ∧ v7.toInt ≤ 8) (i_v8 : 0 ≤ v8.toInt ∧ v8.toInt ≤ 8) (i_v9 : 0 ≤ v9.toInt ∧ v9.toInt ≤ 1) (i_v10 : -1 ≤ v10.toInt ∧ v10.toInt ≤ 3) (i_v14 : 0 ≤ v14.toInt ∧ v14.toInt ≤ 40) (i_v18 : 0 ≤ v18.toInt ∧ v18.toInt ≤ 10) (i_v19 : 0 ≤ v19.toInt ∧ v19.toInt ≤ 1) (ia_f28 : (pm_NW0 f28)) (pp0 : pm_Held v10 f20 f21 f22 f23 f24 f25) (sz : Nat) : Met l yX12_growAll q_X12_growAll ({ frames := 6, cells := 0, slots := 0, locals := 132 }) (va_Pc [.ref h0] (fun U => U.heap.size = sz ∧ va_P (dC, dI) vwCl (wd_12a42595 h0 v0 r0 v1 v2 v3 v4 h1 h2 r1 h3 h4 h5 h6 v5 v6 h7 h8 r2 r3 v7 r4 r5 v8 v9 h9 r6 v10 v11 h10 v12 v13 r7 v14 w15 r8 v16 v17 r9 r10 r11 r12 r13 r14 v18 r15 r16 r17 v19 h1 g0 f20 h2 g1 f21 h3 g2 f22 h4 g3 f23 h5 g4 f24 h6 g5 f25 h7 g6 f26 h8 g7 f27 h9 g8 f28 h10 g9 f29) U.heap ∧ va_K (dC, dI) vwCl [(g0, .int), (g1, .int), (g2, .int), (g3, .int), (g4, .int), (g5, .int), (g6, .int), (g7, .int), (g8, .int), (g9, .int)] U ∧ va_D (fun _ => True) (wd_12a42595 h0 v0 r0 v1 v2 v3 v4 h1 h2 r1 h3 h4 h5 h6 v5 v6 h7 h8 r2 r3 v7 r4 r5 v8 v9 h9 r6 v10 v11 h10 v12 v13 r7 v14 w15 r8 v16 v17 r9 r10 r11 r12 r13 r14 v18 r15 r16 r17 v19 h1 g0 f20 h2 g1 f21 h3 g2 f22 h4 g3 f23 h5 g4 f24 h6 g5 f25 h7 g6 f26 h8 g7 f27 h9 g8 f28 h10 g9 f29))) (va_Qv (fun (_ : Unit) => True) (fun (_ : Unit) (t : State) => (∃ (o_h7 : Nat → Int32) (o_h8 : Nat → Int32) (o_h9 : Nat → Int32) (o_h10 : Nat → Int32), (pm_NW0 o_h9) ∧ va_P (dC, dI) vwCl (wd_12a42595 h0 v0 r0 v1 v2 v3 v4 h1 h2 r1 h3 h4 h5 h6 v5 v6 h7 h8 r2 r3 v7 r4 r5 v8 v9 h9 r6 v10 v11 h10 v12 v13 r7 v14 w15 r8 v16 v17 r9 r10 r11 r12 r13 r14 v18 r15 r16 r17 v19 h1 g0 f20 h2 g1 f21 h3 g2 f22 h4 g3 f23 h5 g4 f24 h6 g5 f25 h7 g6 o_h7 h8 g7 o_h8 h9 g8 o_h9 h10 g9 o_h10) t.heap ∧ va_K (dC, dI) vwCl [] t ∧ va_D (va_A (wd_12a42595 h0 v0 r0 v1 v2 v3 v4 h1 h2 r1 h3 h4 h5 h6 v5 v6 h7 h8 r2 r3 v7 r4 r5 v8 v9 h9 r6 v10 v11 h10 v12 v13 r7 v14 w15 r8 v16 v17 r9 r10 r11 r12 r13 r14 v18 r15 r16 r17 v19 h1 g0 f20 h2 g1 f21 h3 g2 f22 h4 g3 f23 h5 g4 f24 h6 g5 f25 h7 g6 f26 h8 g7 f27 h9 g8 f28 h10 g9 f29) sz) (wd_12a42595 h0 v0 r0 v1 v2 v3 v4 h1 h2 r1 h3 h4 h5 h6 v5 v6 h7 h8 r2 r3 v7 r4 r5 v8 v9 h9 r6 v10 v11 h10 v12 v13 r7 v14 w15 r8 v16 v17 r9 r10 r11 r12 r13 r14 v18 r15 r16 r17 v19 h1 g0 f20 h2 g1 f21 h3 g2 f22 h4 g3 f23 h5 g4 f24 h6 g5 f25 h7 g6 o_h7 h8 g7 o_h8 h9 g8 o_h9 h10 g9 o_h10))) (va_A (wd_12a42595 h0 v0 r0 v1 v2 v3 v4 h1 h2 r1 h3 h4 h5 h6 v5 v6 h7 h8 r2 r3 v7 r4 r5 v8 v9 h9 r6 v10 v11 h10 v12 v13 r7 v14 w15 r8 v16 v17 r9 r10 r11 r12 r13 r14 v18 r15 r16 r17 v19 h1 g0 f20 h2 g1 f21 h3 g2 f22 h4 g3 f23 h5 g4 f24 h6 g5 f25 h7 g6 f26 h8 g7 f27 h9 g8 f28 h10 g9 f29) sz)) 0 0 (va_A (wd_12a42595 h0 v0 r0 v1 v2 v3 v4 h1 h2 r1 h3 h4 h5 h6 v5 v6 h7 h8 r2 r3 v7 r4 r5 v8 v9 h9 r6 v10 v11 h10 v12 v13 r7 v14 w15 r8 v16 v17 r9 r10 r11 r12 r13 r14 v18 r15 r16 r17 v19 h1 g0 f20 h2 g1 f21 h3 g2 f22 h4 g3 f23 h5 g4 f24 h6 g5 f25 h7 g6 f26 h8 g7 f27 h9 g8 f28 h10 g9 f29) sz) := by
  refine Met.ofW (cc := cX12_growAll) (maxL := 2) (ret := none) (by decide) rfl ?_
  intro p e s m args below meth c s₁ B hml hv
  obtain ⟨i_v1a, i_v1b⟩ := i_v1
  obtain ⟨i_v5a, i_v5b⟩ := i_v5
  obtain ⟨i_v6a, i_v6b⟩ := i_v6
  obtain ⟨i_v7a, i_v7b⟩ := i_v7
  obtain ⟨i_v8a, i_v8b⟩ := i_v8
  obtain ⟨i_v9a, i_v9b⟩ := i_v9
  obtain ⟨i_v10a, i_v10b⟩ := i_v10
  obtain ⟨i_v14a, i_v14b⟩ := i_v14
  obtain ⟨i_v18a, i_v18b⟩ := i_v18
  obtain ⟨i_v19a, i_v19b⟩ := i_v19
  obtain ⟨rfl, hsz, hP, hK, hD0⟩ := hv
  have hx := B.exec
  have hb := B.bytes
  have hr := B.returns
  have hts := atoms_spec (ws := q_X12_growAll) B.pre
  have hown : s.vm.findClass RX12 = some m.cls := findClass_of_methodNamed B.named
  have hlocks := B.notSynchronized
  subst hsz
  have hD := hD0.self (sz := s.heap.size)
  generalize hAe : va_A (wd_12a42595 h0 v0 r0 v1 v2 v3 v4 h1 h2 r1 h3 h4 h5 h6 v5 v6 h7 h8 r2 r3 v7 r4 r5 v8 v9 h9 r6 v10 v11 h10 v12 v13 r7 v14 w15 r8 v16 v17 r9 r10 r11 r12 r13 r14 v18 r15 r16 r17 v19 h1 g0 f20 h2 g1 f21 h3 g2 f22 h4 g3 f23 h5 g4 f24 h6 g5 f25 h7 g6 f26 h8 g7 f27 h9 g8 f28 h10 g9 f29) s.heap.size = A at hD ⊢
  have hA : ∀ q : Nat, s.heap.size ≤ q → A q := fun q h => by rw [← hAe]; exact Or.inr h
  have hS : va_S A s.heap s.heap [] := va_S.rf
  generalize hQ : (MQ below _ _ s 0 0 A) = Q
  have hl := lv_entry ([.ref h0]) (n := 2) (Nat.le_of_ble_eq_true rfl)
  rw [lg_entry_eq]
  generalize (lg_sl ([.ref h0]) ++ List.replicate (2 - (lg_sl ([.ref h0])).length) Slot.unset).toArray = ls at hl ⊢
  have hl : lv_has ls 2 [(0, .ref h0)] := hl
  obtain ⟨H, hH⟩ : ∃ H : Heap, H = s.heap := ⟨_, rfl⟩
  obtain ⟨locs, hlocs⟩ : ∃ y : List Loc, y = [] := ⟨_, rfl⟩
  have hS : va_S A s.heap H locs := by rw [hH, hlocs]; exact va_S.rf
  have hP : va_P (dC, dI) vwCl (wd_12a42595 h0 v0 r0 v1 v2 v3 v4 h1 h2 r1 h3 h4 h5 h6 v5 v6 h7 h8 r2 r3 v7 r4 r5 v8 v9 h9 r6 v10 v11 h10 v12 v13 r7 v14 w15 r8 v16 v17 r9 r10 r11 r12 r13 r14 v18 r15 r16 r17 v19 h1 g0 f20 h2 g1 f21 h3 g2 f22 h4 g3 f23 h5 g4 f24 h6 g5 f25 h7 g6 f26 h8 g7 f27 h9 g8 f28 h10 g9 f29) H := by rw [hH]; exact hP
  rw [← hH, ← hlocs]
  refine lv_iconst (v := 0) hx hb dX12_growAll_0 (by decide) ?_
  refine lv_istore_n (lv' := [(1, .int 0), (0, .ref h0)]) hx hb dX12_growAll_1 rfl hl (by decide) rfl (fun ls hl => ?_)
  have hL37 : ∀ (n9 : Nat), ∀ (x29 : Int32) (fn30 : Nat → Int32) (fn31 : Nat → Int32) (fn32 : Nat → Int32) (H : Heap) (locs : List Loc) (ls : Array Slot), 0 ≤ x29.toInt → x29.toInt ≤ 8 → (8 - x29.toInt).toNat < n9 → va_P (dC, dI) vwCl (wd_12a42595 h0 v0 r0 v1 v2 v3 v4 h1 h2 r1 h3 h4 h5 h6 v5 v6 h7 h8 r2 r3 v7 r4 r5 v8 v9 h9 r6 v10 v11 h10 v12 v13 r7 v14 w15 r8 v16 v17 r9 r10 r11 r12 r13 r14 v18 r15 r16 r17 v19 h1 g0 f20 h2 g1 f21 h3 g2 f22 h4 g3 f23 h5 g4 f24 h6 g5 f25 h7 g6 fn30 h8 g7 fn31 h9 g8 f28 h10 g9 fn32) H → va_D A (wd_12a42595 h0 v0 r0 v1 v2 v3 v4 h1 h2 r1 h3 h4 h5 h6 v5 v6 h7 h8 r2 r3 v7 r4 r5 v8 v9 h9 r6 v10 v11 h10 v12 v13 r7 v14 w15 r8 v16 v17 r9 r10 r11 r12 r13 r14 v18 r15 r16 r17 v19 h1 g0 f20 h2 g1 f21 h3 g2 f22 h4 g3 f23 h5 g4 f24 h6 g5 f25 h7 g6 fn30 h8 g7 fn31 h9 g8 f28 h10 g9 fn32) → va_S A s.heap H locs → lv_has ls 2 [(1, .int x29), (0, .ref h0)] → W p l e ({ frames := 6, cells := 0, slots := 0, locals := 132 }) s m ([.ref h0] : List Value).toArray below meth c H locs 0 0 Q (F0 m 2 ls []) := by
    intro n9
    induction n9 with
    | zero => intro x29 fn30 fn31 fn32 H locs ls qa_x29 qb_x29 hm9 hP hD hS hl; exact absurd hm9 (Nat.not_lt_zero _)
    | succ n9 ih_hL37 =>
      intro x29 fn30 fn31 fn32 H locs ls qa_x29 qb_x29 hm9 hP hD hS hl
      refine lv_iload_n hx hb dX12_growAll_2 rfl (lv_at hl 0 rfl) ?_
      refine lv_bipush (v := 8) hx hb dX12_growAll_3 (by decide) ?_
      refine lv_icmp_ge (tgt := 47) hx hb dX12_growAll_5 (by decide) (fun c38 => ?_) (fun c38 => ?_)
      · skip
        have fc38 : 8 ≤ x29.toInt := Int32.le_iff_toInt_le.mp c38
        refine lv_iconst (v := 0) hx hb dX12_growAll_47 (by decide) ?_
        refine lv_istore_n (lv' := [(1, .int 0), (0, .ref h0)]) hx hb dX12_growAll_48 rfl hl (by decide) rfl (fun ls hl => ?_)
        have hL57 : ∀ (n9 : Nat), ∀ (x53 : Int32) (fn54 : Nat → Int32) (H : Heap) (locs : List Loc) (ls : Array Slot), 0 ≤ x53.toInt → x53.toInt ≤ 8 → (pm_NW0 fn54) → (8 - x53.toInt).toNat < n9 → va_P (dC, dI) vwCl (wd_12a42595 h0 v0 r0 v1 v2 v3 v4 h1 h2 r1 h3 h4 h5 h6 v5 v6 h7 h8 r2 r3 v7 r4 r5 v8 v9 h9 r6 v10 v11 h10 v12 v13 r7 v14 w15 r8 v16 v17 r9 r10 r11 r12 r13 r14 v18 r15 r16 r17 v19 h1 g0 f20 h2 g1 f21 h3 g2 f22 h4 g3 f23 h5 g4 f24 h6 g5 f25 h7 g6 fn30 h8 g7 fn31 h9 g8 fn54 h10 g9 fn32) H → va_D A (wd_12a42595 h0 v0 r0 v1 v2 v3 v4 h1 h2 r1 h3 h4 h5 h6 v5 v6 h7 h8 r2 r3 v7 r4 r5 v8 v9 h9 r6 v10 v11 h10 v12 v13 r7 v14 w15 r8 v16 v17 r9 r10 r11 r12 r13 r14 v18 r15 r16 r17 v19 h1 g0 f20 h2 g1 f21 h3 g2 f22 h4 g3 f23 h5 g4 f24 h6 g5 f25 h7 g6 fn30 h8 g7 fn31 h9 g8 fn54 h10 g9 fn32) → va_S A s.heap H locs → lv_has ls 2 [(1, .int x53), (0, .ref h0)] → W p l e ({ frames := 6, cells := 0, slots := 0, locals := 132 }) s m ([.ref h0] : List Value).toArray below meth c H locs 0 0 Q (F0 m 49 ls []) := by
          intro n9
          induction n9 with
          | zero => intro x53 fn54 H locs ls qa_x53 qb_x53 ia_fn54 hm9 hP hD hS hl; exact absurd hm9 (Nat.not_lt_zero _)
          | succ n9 ih_hL57 =>
            intro x53 fn54 H locs ls qa_x53 qb_x53 ia_fn54 hm9 hP hD hS hl
            refine lv_iload_n hx hb dX12_growAll_49 rfl (lv_at hl 0 rfl) ?_
            refine lv_bipush (v := 8) hx hb dX12_growAll_50 (by decide) ?_
            refine lv_icmp_ge (tgt := 121) hx hb dX12_growAll_52 (by decide) (fun c58 => ?_) (fun c58 => ?_)
            · skip
              have fc58 : 8 ≤ x53.toInt := Int32.le_iff_toInt_le.mp c58
              subst hQ
              have hP9 := hP.sub (ws' := (wd_12a42595 h0 v0 r0 v1 v2 v3 v4 h1 h2 r1 h3 h4 h5 h6 v5 v6 h7 h8 r2 r3 v7 r4 r5 v8 v9 h9 r6 v10 v11 h10 v12 v13 r7 v14 w15 r8 v16 v17 r9 r10 r11 r12 r13 r14 v18 r15 r16 r17 v19 h1 g0 f20 h2 g1 f21 h3 g2 f22 h4 g3 f23 h5 g4 f24 h6 g5 f25 h7 g6 fn30 h8 g7 fn31 h9 g8 fn54 h10 g9 fn32)) [0, 1, 2, 3, 4, 5, 6, 7, 8, 9, 10] rfl
              have hD9 := hD.sub (ws' := (wd_12a42595 h0 v0 r0 v1 v2 v3 v4 h1 h2 r1 h3 h4 h5 h6 v5 v6 h7 h8 r2 r3 v7 r4 r5 v8 v9 h9 r6 v10 v11 h10 v12 v13 r7 v14 w15 r8 v16 v17 r9 r10 r11 r12 r13 r14 v18 r15 r16 r17 v19 h1 g0 f20 h2 g1 f21 h3 g2 f22 h4 g3 f23 h5 g4 f24 h6 g5 f25 h7 g6 fn30 h8 g7 fn31 h9 g8 fn54 h10 g9 fn32)) [0, 1, 2, 3, 4, 5, 6, 7, 8, 9, 10] (by decide +kernel) rfl
              have hK9 := hK.sub (tys' := []) [] rfl
              exact W.vret hx hb hr (fun t ht hW => ⟨⟨(), rfl, trivial, ⟨fn30, fn31, fn54, fn32, ia_fn54, by rw [ht]; exact hP9, va_K.moved hW.alike hK9, hD9⟩⟩, hS.F ht⟩) hS.2.2 dX12_growAll_121
            · skip
              have fc58 : ¬ (8 ≤ x53.toInt) := fun h9 => c58 (Int32.le_iff_toInt_le.mpr h9)
              refine lv_aload_n hx hb dX12_growAll_55 rfl (lv_at hl 1 rfl) ?_
              refine lv_iload_n hx hb dX12_growAll_56 rfl (lv_at hl 0 rfl) ?_
              have hPc := hP.sub (ws' := (wd_5013416a h0 v0 r0 v1 v2 v3 v4 h1 h2 r1 h3 h4 h5 h6 v5 v6 h7 h8 r2 r3 v7 r4 r5 v8 v9 h9 r6 v10 v11 h10 v12 v13 r7 v14 w15 r8 v16 v17 r9 r10 r11 r12 r13 r14 v18 r15 r16 r17 v19 h9 g8 fn54)) [0, 9] rfl
              have hDc := hD.sub (ws' := (wd_5013416a h0 v0 r0 v1 v2 v3 v4 h1 h2 r1 h3 h4 h5 h6 v5 v6 h7 h8 r2 r3 v7 r4 r5 v8 v9 h9 r6 v10 v11 h10 v12 v13 r7 v14 w15 r8 v16 v17 r9 r10 r11 r12 r13 r14 v18 r15 r16 r17 v19 h9 g8 fn54)) [0, 9] (by decide) rfl
              have hKc := hK.sub (tys' := [(g8, .int)]) [8] rfl
              have hFc := va_free (wc := (wd_5013416a h0 v0 r0 v1 v2 v3 v4 h1 h2 r1 h3 h4 h5 h6 v5 v6 h7 h8 r2 r3 v7 r4 r5 v8 v9 h9 r6 v10 v11 h10 v12 v13 r7 v14 w15 r8 v16 v17 r9 r10 r11 r12 r13 r14 v18 r15 r16 r17 v19 h9 g8 fn54)) hD hS hA [0, 9] rfl
              refine va_calli (va_runV (As := [.int x53]) (rest := []) ⟨hx, hb, hml, hown, hts⟩ (k_X12_isThere l dC dI h0 h9 v0 r0 v1 v2 v3 v4 h1 h2 r1 h3 h4 h5 h6 v5 v6 h7 h8 r2 r3 v7 r4 r5 v8 v9 r6 v10 v11 h10 v12 v13 r7 v14 w15 r8 v16 v17 r9 r10 r11 r12 r13 r14 v18 r15 r16 r17 v19 g8 fn54 x53 ⟨i_v1a, i_v1b⟩ ⟨i_v5a, i_v5b⟩ ⟨i_v6a, i_v6b⟩ ⟨i_v7a, i_v7b⟩ ⟨i_v8a, i_v8b⟩ ⟨i_v9a, i_v9b⟩ ⟨i_v10a, i_v10b⟩ ⟨i_v14a, i_v14b⟩ ⟨i_v18a, i_v18b⟩ ⟨i_v19a, i_v19b⟩ ia_fn54 H.size) (cwV 1 hts g_X12_growAll_0 rfl rfl rfl (by decide +kernel) ⟨Nat.le_of_ble_eq_true rfl, Nat.le_of_ble_eq_true rfl⟩) (pv_PV12 hPc hKc hDc (q0 := 0) rfl) rfl rfl hl.1 rfl (lv_room (Nat.le_of_ble_eq_true rfl)) dX12_growAll_57 ⟨Nat.le_of_ble_eq_true rfl, Nat.le_of_ble_eq_true rfl⟩) hS (fun q _ h => hFc q h) hFc (fun ra59 u t H1 locs ht hvm hwra59 hB hz1 hk1 hS => ?_)
              try rw [hwra59] at hB
              obtain ⟨pt0_ra59, pt1_ra59, pt2_ra59, pt3_ra59, pt4_ra59, pt5_ra59, hP1, hK1, hD1⟩ := hB
              rw [ht] at hP1
              obtain ⟨hP2, hD2⟩ := va_join (wr := (wd_f49777bc h1 g0 f20 h2 g1 f21 h3 g2 f22 h4 g3 f23 h5 g4 f24 h6 g5 f25 h7 g6 fn30 h8 g7 fn31 h10 g9 fn32)) (w1 := (wd_5013416a h0 v0 r0 v1 v2 v3 v4 h1 h2 r1 h3 h4 h5 h6 v5 v6 h7 h8 r2 r3 v7 r4 r5 v8 v9 h9 r6 v10 v11 h10 v12 v13 r7 v14 w15 r8 v16 v17 r9 r10 r11 r12 r13 r14 v18 r15 r16 r17 v19 h9 g8 fn54)) hP hD [0, 9] [1, 2, 3, 4, 5, 6, 7, 8, 10] rfl rfl (by decide) (by decide) hk1 hFc hP1 hD1
              clear hP hD hPc hDc hKc hFc hP1 hK1 hD1 hk1 hz1
              generalize H1 = H at hP2 hS ⊢
              have hP := hP2.sub (ws' := (wd_12a42595 h0 v0 r0 v1 v2 v3 v4 h1 h2 r1 h3 h4 h5 h6 v5 v6 h7 h8 r2 r3 v7 r4 r5 v8 v9 h9 r6 v10 v11 h10 v12 v13 r7 v14 w15 r8 v16 v17 r9 r10 r11 r12 r13 r14 v18 r15 r16 r17 v19 h1 g0 f20 h2 g1 f21 h3 g2 f22 h4 g3 f23 h5 g4 f24 h6 g5 f25 h7 g6 fn30 h8 g7 fn31 h9 g8 fn54 h10 g9 fn32)) [9, 0, 1, 2, 3, 4, 5, 6, 7, 10, 8] rfl
              have hD := hD2.sub (ws' := (wd_12a42595 h0 v0 r0 v1 v2 v3 v4 h1 h2 r1 h3 h4 h5 h6 v5 v6 h7 h8 r2 r3 v7 r4 r5 v8 v9 h9 r6 v10 v11 h10 v12 v13 r7 v14 w15 r8 v16 v17 r9 r10 r11 r12 r13 r14 v18 r15 r16 r17 v19 h1 g0 f20 h2 g1 f21 h3 g2 f22 h4 g3 f23 h5 g4 f24 h6 g5 f25 h7 g6 fn30 h8 g7 fn31 h9 g8 fn54 h10 g9 fn32)) [9, 0, 1, 2, 3, 4, 5, 6, 7, 10, 8] (by decide +kernel) rfl
              clear hP2 hD2
              have wra59 : ra59.toInt = 0 → ¬ fn54 (pm_I x53 7) = 1 := fun h9 => pt5_ra59 h9 (by omega) (by omega)
              have hJ61 : ∀ (fn60 : Nat → Int32) (H : Heap) (locs : List Loc) (ls : Array Slot), (pm_NW0 fn60) → va_P (dC, dI) vwCl (wd_12a42595 h0 v0 r0 v1 v2 v3 v4 h1 h2 r1 h3 h4 h5 h6 v5 v6 h7 h8 r2 r3 v7 r4 r5 v8 v9 h9 r6 v10 v11 h10 v12 v13 r7 v14 w15 r8 v16 v17 r9 r10 r11 r12 r13 r14 v18 r15 r16 r17 v19 h1 g0 f20 h2 g1 f21 h3 g2 f22 h4 g3 f23 h5 g4 f24 h6 g5 f25 h7 g6 fn30 h8 g7 fn31 h9 g8 fn60 h10 g9 fn32) H → va_D A (wd_12a42595 h0 v0 r0 v1 v2 v3 v4 h1 h2 r1 h3 h4 h5 h6 v5 v6 h7 h8 r2 r3 v7 r4 r5 v8 v9 h9 r6 v10 v11 h10 v12 v13 r7 v14 w15 r8 v16 v17 r9 r10 r11 r12 r13 r14 v18 r15 r16 r17 v19 h1 g0 f20 h2 g1 f21 h3 g2 f22 h4 g3 f23 h5 g4 f24 h6 g5 f25 h7 g6 fn30 h8 g7 fn31 h9 g8 fn60 h10 g9 fn32) → va_S A s.heap H locs → lv_has ls 2 [(1, .int x53), (0, .ref h0)] → W p l e ({ frames := 6, cells := 0, slots := 0, locals := 132 }) s m ([.ref h0] : List Value).toArray below meth c H locs 0 0 Q (F0 m 115 ls []) := by
                intro fn60 H locs ls ia_fn60 hP hD hS hl
                obtain ⟨t62, et62⟩ : ∃ y : Int32, y = x53 + 1 := ⟨_, rfl⟩
                have gt62 : t62.toInt = x53.toInt + (1) := pv_add (a := x53.toInt) (b := (1)) et62 rfl (by decide) (by omega) (by omega)
                refine lv_iinc (v := t62) (lv' := [(1, .int t62), (0, .ref h0)]) hx hb dX12_growAll_115 hl (k := 0) rfl (by rw [et62]; rfl) (by decide) rfl (fun ls hl => ?_)
                refine lv_goto (tgt := 49) hx hb dX12_growAll_118 (by decide) ?_
                exact ih_hL57 t62 fn60 H locs ls (by first | omega | decide) (by first | omega | decide) ia_fn60 (by first | omega | (simp only [Int.toNat] at *; omega)) hP hD hS (lv_sub hl [0, 1] rfl)
              refine lv_if_eq (tgt := 115) hx hb dX12_growAll_60 (by decide) (fun c63 => ?_) (fun c63 => ?_)
              · skip
                have fc63 : ra59.toInt = 0 := congrArg Int32.toInt c63
                have q0wra59 := wra59 (by omega)
                exact hJ61 fn54 H locs ls ia_fn54 hP hD hS (lv_sub hl [0, 1] rfl)
              · skip
                have fc63 : ¬ (ra59.toInt = 0) := fun h9 => c63 (Int32.toInt_inj.mp h9)
                have q1pt4_ra59 := pt4_ra59 (by omega)
                refine lv_aload_n hx hb dX12_growAll_63 rfl (lv_at hl 1 rfl) ?_
                refine lv_iload_n hx hb dX12_growAll_64 rfl (lv_at hl 0 rfl) ?_
                refine lv_bipush (v := 6) hx hb dX12_growAll_65 (by decide) ?_
                have hPc := hP.sub (ws' := (wd_5013416a h0 v0 r0 v1 v2 v3 v4 h1 h2 r1 h3 h4 h5 h6 v5 v6 h7 h8 r2 r3 v7 r4 r5 v8 v9 h9 r6 v10 v11 h10 v12 v13 r7 v14 w15 r8 v16 v17 r9 r10 r11 r12 r13 r14 v18 r15 r16 r17 v19 h9 g8 fn54)) [0, 9] rfl
                have hDc := hD.sub (ws' := (wd_5013416a h0 v0 r0 v1 v2 v3 v4 h1 h2 r1 h3 h4 h5 h6 v5 v6 h7 h8 r2 r3 v7 r4 r5 v8 v9 h9 r6 v10 v11 h10 v12 v13 r7 v14 w15 r8 v16 v17 r9 r10 r11 r12 r13 r14 v18 r15 r16 r17 v19 h9 g8 fn54)) [0, 9] (by decide) rfl
                have hKc := hK.sub (tys' := [(g8, .int)]) [8] rfl
                have hFc := va_free (wc := (wd_5013416a h0 v0 r0 v1 v2 v3 v4 h1 h2 r1 h3 h4 h5 h6 v5 v6 h7 h8 r2 r3 v7 r4 r5 v8 v9 h9 r6 v10 v11 h10 v12 v13 r7 v14 w15 r8 v16 v17 r9 r10 r11 r12 r13 r14 v18 r15 r16 r17 v19 h9 g8 fn54)) hD hS hA [0, 9] rfl
                refine va_calli (va_runV (As := [.int x53, .int 6]) (rest := []) ⟨hx, hb, hml, hown, hts⟩ (k_X12_of_8 l dC dI h0 h9 v0 r0 v1 v2 v3 v4 h1 h2 r1 h3 h4 h5 h6 v5 v6 h7 h8 r2 r3 v7 r4 r5 v8 v9 r6 v10 v11 h10 v12 v13 r7 v14 w15 r8 v16 v17 r9 r10 r11 r12 r13 r14 v18 r15 r16 r17 v19 g8 fn54 x53 ⟨i_v1a, i_v1b⟩ ⟨i_v5a, i_v5b⟩ ⟨i_v6a, i_v6b⟩ ⟨i_v7a, i_v7b⟩ ⟨i_v8a, i_v8b⟩ ⟨i_v9a, i_v9b⟩ ⟨i_v10a, i_v10b⟩ ⟨i_v14a, i_v14b⟩ ⟨i_v18a, i_v18b⟩ ⟨i_v19a, i_v19b⟩ ⟨qa_x53, by first | omega | decide⟩ ia_fn54 H.size) (cwV 2 hts g_X12_growAll_1 rfl rfl rfl (by decide +kernel) ⟨Nat.le_of_ble_eq_true rfl, Nat.le_of_ble_eq_true rfl⟩) (pv_PV12 hPc hKc hDc (q0 := 0) rfl) rfl rfl hl.1 rfl (lv_room (Nat.le_of_ble_eq_true rfl)) dX12_growAll_67 ⟨Nat.le_of_ble_eq_true rfl, Nat.le_of_ble_eq_true rfl⟩) hS (fun q _ h => hFc q h) hFc (fun ra64 u t H1 locs ht hvm hwra64 hB hz1 hk1 hS => ?_)
                try rw [hwra64] at hB
                obtain ⟨pt0_ra64, hP1, hK1, hD1⟩ := hB
                rw [ht] at hP1
                obtain ⟨hP2, hD2⟩ := va_join (wr := (wd_f49777bc h1 g0 f20 h2 g1 f21 h3 g2 f22 h4 g3 f23 h5 g4 f24 h6 g5 f25 h7 g6 fn30 h8 g7 fn31 h10 g9 fn32)) (w1 := (wd_5013416a h0 v0 r0 v1 v2 v3 v4 h1 h2 r1 h3 h4 h5 h6 v5 v6 h7 h8 r2 r3 v7 r4 r5 v8 v9 h9 r6 v10 v11 h10 v12 v13 r7 v14 w15 r8 v16 v17 r9 r10 r11 r12 r13 r14 v18 r15 r16 r17 v19 h9 g8 fn54)) hP hD [0, 9] [1, 2, 3, 4, 5, 6, 7, 8, 10] rfl rfl (by decide) (by decide) hk1 hFc hP1 hD1
                clear hP hD hPc hDc hKc hFc hP1 hK1 hD1 hk1 hz1
                generalize H1 = H at hP2 hS ⊢
                have hP := hP2.sub (ws' := (wd_12a42595 h0 v0 r0 v1 v2 v3 v4 h1 h2 r1 h3 h4 h5 h6 v5 v6 h7 h8 r2 r3 v7 r4 r5 v8 v9 h9 r6 v10 v11 h10 v12 v13 r7 v14 w15 r8 v16 v17 r9 r10 r11 r12 r13 r14 v18 r15 r16 r17 v19 h1 g0 f20 h2 g1 f21 h3 g2 f22 h4 g3 f23 h5 g4 f24 h6 g5 f25 h7 g6 fn30 h8 g7 fn31 h9 g8 fn54 h10 g9 fn32)) [9, 0, 1, 2, 3, 4, 5, 6, 7, 10, 8] rfl
                have hD := hD2.sub (ws' := (wd_12a42595 h0 v0 r0 v1 v2 v3 v4 h1 h2 r1 h3 h4 h5 h6 v5 v6 h7 h8 r2 r3 v7 r4 r5 v8 v9 h9 r6 v10 v11 h10 v12 v13 r7 v14 w15 r8 v16 v17 r9 r10 r11 r12 r13 r14 v18 r15 r16 r17 v19 h1 g0 f20 h2 g1 f21 h3 g2 f22 h4 g3 f23 h5 g4 f24 h6 g5 f25 h7 g6 fn30 h8 g7 fn31 h9 g8 fn54 h10 g9 fn32)) [9, 0, 1, 2, 3, 4, 5, 6, 7, 10, 8] (by decide +kernel) rfl
                clear hP2 hD2
                refine lv_if_ne (tgt := 115) hx hb dX12_growAll_70 (by decide) (fun c65 => ?_) (fun c65 => ?_)
                · skip
                  have fc65 : ¬ (ra64.toInt = 0) := fun h9 => c65 (Int32.toInt_inj.mp h9)
                  exact hJ61 fn54 H locs ls ia_fn54 hP hD hS (lv_sub hl [0, 1] rfl)
                · skip
                  have fc65 : ra64.toInt = 0 := congrArg Int32.toInt c65
                  refine lv_aload_n hx hb dX12_growAll_73 rfl (lv_at hl 1 rfl) ?_
                  refine lv_iload_n hx hb dX12_growAll_74 rfl (lv_at hl 0 rfl) ?_
                  refine lv_iconst (v := 0) hx hb dX12_growAll_75 (by decide) ?_
                  refine lv_iconst (v := 0) hx hb dX12_growAll_76 (by decide) ?_
                  refine lv_bipush (v := 99) hx hb dX12_growAll_77 (by decide) ?_
                  refine lv_aload_n hx hb dX12_growAll_79 rfl (lv_at hl 1 rfl) ?_
                  refine lv_iload_n hx hb dX12_growAll_80 rfl (lv_at hl 0 rfl) ?_
                  refine lv_iconst (v := 0) hx hb dX12_growAll_81 (by decide) ?_
                  have hPc := hP.sub (ws' := (wd_5013416a h0 v0 r0 v1 v2 v3 v4 h1 h2 r1 h3 h4 h5 h6 v5 v6 h7 h8 r2 r3 v7 r4 r5 v8 v9 h9 r6 v10 v11 h10 v12 v13 r7 v14 w15 r8 v16 v17 r9 r10 r11 r12 r13 r14 v18 r15 r16 r17 v19 h9 g8 fn54)) [0, 9] rfl
                  have hDc := hD.sub (ws' := (wd_5013416a h0 v0 r0 v1 v2 v3 v4 h1 h2 r1 h3 h4 h5 h6 v5 v6 h7 h8 r2 r3 v7 r4 r5 v8 v9 h9 r6 v10 v11 h10 v12 v13 r7 v14 w15 r8 v16 v17 r9 r10 r11 r12 r13 r14 v18 r15 r16 r17 v19 h9 g8 fn54)) [0, 9] (by decide) rfl
                  have hKc := hK.sub (tys' := [(g8, .int)]) [8] rfl
                  have hFc := va_free (wc := (wd_5013416a h0 v0 r0 v1 v2 v3 v4 h1 h2 r1 h3 h4 h5 h6 v5 v6 h7 h8 r2 r3 v7 r4 r5 v8 v9 h9 r6 v10 v11 h10 v12 v13 r7 v14 w15 r8 v16 v17 r9 r10 r11 r12 r13 r14 v18 r15 r16 r17 v19 h9 g8 fn54)) hD hS hA [0, 9] rfl
                  refine va_calli (va_runV (As := [.int x53, .int 0]) (rest := [.int 99, .int 0, .int 0, .int x53, .ref h0]) ⟨hx, hb, hml, hown, hts⟩ (k_X12_of_3 l dC dI h0 h9 v0 r0 v1 v2 v3 v4 h1 h2 r1 h3 h4 h5 h6 v5 v6 h7 h8 r2 r3 v7 r4 r5 v8 v9 r6 v10 v11 h10 v12 v13 r7 v14 w15 r8 v16 v17 r9 r10 r11 r12 r13 r14 v18 r15 r16 r17 v19 g8 fn54 x53 ⟨i_v1a, i_v1b⟩ ⟨i_v5a, i_v5b⟩ ⟨i_v6a, i_v6b⟩ ⟨i_v7a, i_v7b⟩ ⟨i_v8a, i_v8b⟩ ⟨i_v9a, i_v9b⟩ ⟨i_v10a, i_v10b⟩ ⟨i_v14a, i_v14b⟩ ⟨i_v18a, i_v18b⟩ ⟨i_v19a, i_v19b⟩ ⟨qa_x53, by first | omega | decide⟩ ia_fn54 H.size) (cwV 2 hts g_X12_growAll_2 rfl rfl rfl (by decide +kernel) ⟨Nat.le_of_ble_eq_true rfl, Nat.le_of_ble_eq_true rfl⟩) (pv_PV12 hPc hKc hDc (q0 := 0) rfl) rfl rfl hl.1 rfl (lv_room (Nat.le_of_ble_eq_true rfl)) dX12_growAll_82 ⟨Nat.le_of_ble_eq_true rfl, Nat.le_of_ble_eq_true rfl⟩) hS (fun q _ h => hFc q h) hFc (fun ra66 u t H1 locs ht hvm hwra66 hB hz1 hk1 hS => ?_)
                  try rw [hwra66] at hB
                  obtain ⟨pt0_ra66, pt1_ra66, pt2_ra66, hP1, hK1, hD1⟩ := hB
                  rw [ht] at hP1
                  obtain ⟨hP2, hD2⟩ := va_join (wr := (wd_f49777bc h1 g0 f20 h2 g1 f21 h3 g2 f22 h4 g3 f23 h5 g4 f24 h6 g5 f25 h7 g6 fn30 h8 g7 fn31 h10 g9 fn32)) (w1 := (wd_5013416a h0 v0 r0 v1 v2 v3 v4 h1 h2 r1 h3 h4 h5 h6 v5 v6 h7 h8 r2 r3 v7 r4 r5 v8 v9 h9 r6 v10 v11 h10 v12 v13 r7 v14 w15 r8 v16 v17 r9 r10 r11 r12 r13 r14 v18 r15 r16 r17 v19 h9 g8 fn54)) hP hD [0, 9] [1, 2, 3, 4, 5, 6, 7, 8, 10] rfl rfl (by decide) (by decide) hk1 hFc hP1 hD1
                  clear hP hD hPc hDc hKc hFc hP1 hK1 hD1 hk1 hz1
                  generalize H1 = H at hP2 hS ⊢
                  have hP := hP2.sub (ws' := (wd_12a42595 h0 v0 r0 v1 v2 v3 v4 h1 h2 r1 h3 h4 h5 h6 v5 v6 h7 h8 r2 r3 v7 r4 r5 v8 v9 h9 r6 v10 v11 h10 v12 v13 r7 v14 w15 r8 v16 v17 r9 r10 r11 r12 r13 r14 v18 r15 r16 r17 v19 h1 g0 f20 h2 g1 f21 h3 g2 f22 h4 g3 f23 h5 g4 f24 h6 g5 f25 h7 g6 fn30 h8 g7 fn31 h9 g8 fn54 h10 g9 fn32)) [9, 0, 1, 2, 3, 4, 5, 6, 7, 10, 8] rfl
                  have hD := hD2.sub (ws' := (wd_12a42595 h0 v0 r0 v1 v2 v3 v4 h1 h2 r1 h3 h4 h5 h6 v5 v6 h7 h8 r2 r3 v7 r4 r5 v8 v9 h9 r6 v10 v11 h10 v12 v13 r7 v14 w15 r8 v16 v17 r9 r10 r11 r12 r13 r14 v18 r15 r16 r17 v19 h1 g0 f20 h2 g1 f21 h3 g2 f22 h4 g3 f23 h5 g4 f24 h6 g5 f25 h7 g6 fn30 h8 g7 fn31 h9 g8 fn54 h10 g9 fn32)) [9, 0, 1, 2, 3, 4, 5, 6, 7, 10, 8] (by decide +kernel) rfl
                  clear hP2 hD2
                  refine lv_aload_n hx hb dX12_growAll_85 rfl (lv_at hl 1 rfl) ?_
                  refine va_get (D := (dC, dI)) (ci := 12) (v := .ref h10) (C := RX12) (T := TX12) (N := 48) hx hb hts (fun _ h => List.mem_cons_of_mem _ (List.mem_append_right _ h)) hown hK hP 0 rfl rfl 28 (by decide) (hts (.fieldLink RX12 65 "LeftArgumentsModel" "grows" "[I") (List.mem_cons_of_mem _ (List.mem_append_left _ (List.mem_of_getElem? (i := 13) rfl)))) (fun _ h9 => h9) rfl dX12_growAll_86 ?_
                  refine lv_iload_n hx hb dX12_growAll_89 rfl (lv_at hl 0 rfl) ?_
                  refine va_iald hx hb hK hP 10 9 rfl rfl (vp_in_iff.mpr ⟨by omega, by omega⟩) dX12_growAll_90 ?_
                  refine lv_topi (fun t67 et67 => ?_)
                  refine lv_iadd hx hb dX12_growAll_91 ?_
                  refine lv_topi (fun t68 et68 => ?_)
                  refine va_mmin hx hb (by rw [hml]; exact hl.1.symm) hown (hts (.methodLink RX12 299 Lib.Math.min.name) (List.mem_cons_of_mem _ (List.mem_append_left _ (List.mem_of_getElem? (i := 14) rfl)))) (hts (.static Lib.Math.min.name) (List.mem_cons_of_mem _ (List.mem_append_left _ (List.mem_of_getElem? (i := 15) rfl)))) (hts (.initialized "java/lang/Math") (List.mem_cons_of_mem _ (List.mem_append_left _ (List.mem_of_getElem? (i := 16) rfl)))) (hts (.code Lib.Math.min.name Lib.Math.min.code 2 (some .int)) (List.mem_cons_of_mem _ (List.mem_append_left _ (List.mem_of_getElem? (i := 17) rfl)))) (Nat.le_of_ble_eq_true rfl) (Nat.le_of_ble_eq_true rfl) (Nat.le_of_ble_eq_true rfl) (Nat.le_of_ble_eq_true rfl) dX12_growAll_92 ?_
                  refine lv_topi (fun t69 et69 => ?_)
                  obtain ⟨gat69, gbt69, gct69⟩ := pv_min (a := 99) (b := t68.toInt) et69 (by decide) rfl
                  refine va_mmax hx hb (by rw [hml]; exact hl.1.symm) hown (hts (.methodLink RX12 301 Lib.Math.max.name) (List.mem_cons_of_mem _ (List.mem_append_left _ (List.mem_of_getElem? (i := 18) rfl)))) (hts (.static Lib.Math.max.name) (List.mem_cons_of_mem _ (List.mem_append_left _ (List.mem_of_getElem? (i := 19) rfl)))) (hts (.initialized "java/lang/Math") (List.mem_cons_of_mem _ (List.mem_append_left _ (List.mem_of_getElem? (i := 16) rfl)))) (hts (.code Lib.Math.max.name Lib.Math.max.code 2 (some .int)) (List.mem_cons_of_mem _ (List.mem_append_left _ (List.mem_of_getElem? (i := 20) rfl)))) (Nat.le_of_ble_eq_true rfl) (Nat.le_of_ble_eq_true rfl) (Nat.le_of_ble_eq_true rfl) (Nat.le_of_ble_eq_true rfl) dX12_growAll_95 ?_
                  refine lv_topi (fun t70 et70 => ?_)
                  obtain ⟨gat70, gbt70, gct70⟩ := pv_max (a := 0) (b := t69.toInt) et70 (by decide) rfl
                  have hPc := hP.sub (ws' := (wd_5013416a h0 v0 r0 v1 v2 v3 v4 h1 h2 r1 h3 h4 h5 h6 v5 v6 h7 h8 r2 r3 v7 r4 r5 v8 v9 h9 r6 v10 v11 h10 v12 v13 r7 v14 w15 r8 v16 v17 r9 r10 r11 r12 r13 r14 v18 r15 r16 r17 v19 h9 g8 fn54)) [0, 9] rfl
                  have hDc := hD.sub (ws' := (wd_5013416a h0 v0 r0 v1 v2 v3 v4 h1 h2 r1 h3 h4 h5 h6 v5 v6 h7 h8 r2 r3 v7 r4 r5 v8 v9 h9 r6 v10 v11 h10 v12 v13 r7 v14 w15 r8 v16 v17 r9 r10 r11 r12 r13 r14 v18 r15 r16 r17 v19 h9 g8 fn54)) [0, 9] (by decide) rfl
                  have hKc := hK.sub (tys' := [(g8, .int)]) [8] rfl
                  have hFc := va_free (wc := (wd_5013416a h0 v0 r0 v1 v2 v3 v4 h1 h2 r1 h3 h4 h5 h6 v5 v6 h7 h8 r2 r3 v7 r4 r5 v8 v9 h9 r6 v10 v11 h10 v12 v13 r7 v14 w15 r8 v16 v17 r9 r10 r11 r12 r13 r14 v18 r15 r16 r17 v19 h9 g8 fn54)) hD hS hA [0, 9] rfl
                  refine va_callv (va_runV (As := [.int x53, .int 0, .int t70]) (rest := []) ⟨hx, hb, hml, hown, hts⟩ (k_X12_set_2 l dC dI h0 h9 v0 r0 v1 v2 v3 v4 h1 h2 r1 h3 h4 h5 h6 v5 v6 h7 h8 r2 r3 v7 r4 r5 v8 v9 r6 v10 v11 h10 v12 v13 r7 v14 w15 r8 v16 v17 r9 r10 r11 r12 r13 r14 v18 r15 r16 r17 v19 g8 fn54 x53 t70 ⟨i_v1a, i_v1b⟩ ⟨i_v5a, i_v5b⟩ ⟨i_v6a, i_v6b⟩ ⟨i_v7a, i_v7b⟩ ⟨i_v8a, i_v8b⟩ ⟨i_v9a, i_v9b⟩ ⟨i_v10a, i_v10b⟩ ⟨i_v14a, i_v14b⟩ ⟨i_v18a, i_v18b⟩ ⟨i_v19a, i_v19b⟩ ⟨qa_x53, by first | omega | decide⟩ trivial H.size) (cwV 3 hts g_X12_growAll_3 rfl rfl rfl (by decide +kernel) ⟨Nat.le_of_ble_eq_true rfl, Nat.le_of_ble_eq_true rfl⟩) (pv_PV12 hPc hKc hDc (q0 := 0) rfl) rfl rfl hl.1 rfl (lv_room (Nat.le_of_ble_eq_true rfl)) dX12_growAll_98 ⟨Nat.le_of_ble_eq_true rfl, Nat.le_of_ble_eq_true rfl⟩) hS (fun q _ h => hFc q h) hFc (fun u t H1 locs ht hvm hwra71 hB hz1 hk1 hS => ?_)
                  obtain ⟨hP1, hK1, hD1⟩ := hB
                  rw [ht] at hP1
                  obtain ⟨hP2, hD2⟩ := va_join (wr := (wd_f49777bc h1 g0 f20 h2 g1 f21 h3 g2 f22 h4 g3 f23 h5 g4 f24 h6 g5 f25 h7 g6 fn30 h8 g7 fn31 h10 g9 fn32)) (w1 := (wd_5013416a h0 v0 r0 v1 v2 v3 v4 h1 h2 r1 h3 h4 h5 h6 v5 v6 h7 h8 r2 r3 v7 r4 r5 v8 v9 h9 r6 v10 v11 h10 v12 v13 r7 v14 w15 r8 v16 v17 r9 r10 r11 r12 r13 r14 v18 r15 r16 r17 v19 h9 g8 (upd fn54 (pm_I x53 0) t70))) hP hD [0, 9] [1, 2, 3, 4, 5, 6, 7, 8, 10] rfl rfl (by decide) (by decide) hk1 hFc hP1 hD1
                  clear hP hD hPc hDc hKc hFc hP1 hK1 hD1 hk1 hz1
                  generalize H1 = H at hP2 hS ⊢
                  have hP := hP2.sub (ws' := (wd_12a42595 h0 v0 r0 v1 v2 v3 v4 h1 h2 r1 h3 h4 h5 h6 v5 v6 h7 h8 r2 r3 v7 r4 r5 v8 v9 h9 r6 v10 v11 h10 v12 v13 r7 v14 w15 r8 v16 v17 r9 r10 r11 r12 r13 r14 v18 r15 r16 r17 v19 h1 g0 f20 h2 g1 f21 h3 g2 f22 h4 g3 f23 h5 g4 f24 h6 g5 f25 h7 g6 fn30 h8 g7 fn31 h9 g8 (upd fn54 (pm_I x53 0) t70) h10 g9 fn32)) [9, 0, 1, 2, 3, 4, 5, 6, 7, 10, 8] rfl
                  have hD := hD2.sub (ws' := (wd_12a42595 h0 v0 r0 v1 v2 v3 v4 h1 h2 r1 h3 h4 h5 h6 v5 v6 h7 h8 r2 r3 v7 r4 r5 v8 v9 h9 r6 v10 v11 h10 v12 v13 r7 v14 w15 r8 v16 v17 r9 r10 r11 r12 r13 r14 v18 r15 r16 r17 v19 h1 g0 f20 h2 g1 f21 h3 g2 f22 h4 g3 f23 h5 g4 f24 h6 g5 f25 h7 g6 fn30 h8 g7 fn31 h9 g8 (upd fn54 (pm_I x53 0) t70) h10 g9 fn32)) [9, 0, 1, 2, 3, 4, 5, 6, 7, 10, 8] (by decide +kernel) rfl
                  clear hP2 hD2
                  obtain ⟨t72, et72⟩ : ∃ y : Int32, y = 8 * x53 + 0 := ⟨_, rfl⟩
                  have gt72 : t72.toInt = 8 * x53.toInt + 0 := pm_i8 et72 rfl (by decide) (by omega) (by omega) (by omega) (by omega)
                  obtain ⟨fn74, efn74⟩ : ∃ g : Nat → Int32, g = upd fn54 (Int32.toNatClampNeg t72) t70 := ⟨_, rfl⟩
                  have e9 : (upd fn54 (pm_I x53 0) t70) = fn74 := by rw [efn74, et72]; rfl
                  rw [e9] at hP hD
                  have ia_fn74 : pm_NW0 fn74 := by rw [efn74]; exact pm_NW0.st (ia_fn54) (z := t72.toInt) (y := t70.toInt) rfl rfl (by omega) (fun b9 h8 h9 => ⟨fun _ => ⟨by omega, by omega⟩, fun _ => ⟨by omega, by omega⟩⟩) (fun _ => ⟨by omega, by omega⟩)
                  have hP : va_P (dC, dI) vwCl (wd_12a42595 h0 v0 r0 v1 v2 v3 v4 h1 h2 r1 h3 h4 h5 h6 v5 v6 h7 h8 r2 r3 v7 r4 r5 v8 v9 h9 r6 v10 v11 h10 v12 v13 r7 v14 w15 r8 v16 v17 r9 r10 r11 r12 r13 r14 v18 r15 r16 r17 v19 h1 g0 f20 h2 g1 f21 h3 g2 f22 h4 g3 f23 h5 g4 f24 h6 g5 f25 h7 g6 fn30 h8 g7 fn31 h9 g8 fn74 h10 g9 fn32) H := hP
                  have hD : va_D A (wd_12a42595 h0 v0 r0 v1 v2 v3 v4 h1 h2 r1 h3 h4 h5 h6 v5 v6 h7 h8 r2 r3 v7 r4 r5 v8 v9 h9 r6 v10 v11 h10 v12 v13 r7 v14 w15 r8 v16 v17 r9 r10 r11 r12 r13 r14 v18 r15 r16 r17 v19 h1 g0 f20 h2 g1 f21 h3 g2 f22 h4 g3 f23 h5 g4 f24 h6 g5 f25 h7 g6 fn30 h8 g7 fn31 h9 g8 fn74 h10 g9 fn32) := hD
                  refine lv_aload_n hx hb dX12_growAll_101 rfl (lv_at hl 1 rfl) ?_
                  refine lv_iload_n hx hb dX12_growAll_102 rfl (lv_at hl 0 rfl) ?_
                  refine lv_iconst (v := 4) hx hb dX12_growAll_103 (by decide) ?_
                  refine lv_iconst (v := 1) hx hb dX12_growAll_104 (by decide) ?_
                  refine lv_aload_n hx hb dX12_growAll_105 rfl (lv_at hl 1 rfl) ?_
                  refine lv_iload_n hx hb dX12_growAll_106 rfl (lv_at hl 0 rfl) ?_
                  refine lv_iconst (v := 4) hx hb dX12_growAll_107 (by decide) ?_
                  have hPc := hP.sub (ws' := (wd_5013416a h0 v0 r0 v1 v2 v3 v4 h1 h2 r1 h3 h4 h5 h6 v5 v6 h7 h8 r2 r3 v7 r4 r5 v8 v9 h9 r6 v10 v11 h10 v12 v13 r7 v14 w15 r8 v16 v17 r9 r10 r11 r12 r13 r14 v18 r15 r16 r17 v19 h9 g8 fn74)) [0, 9] rfl
                  have hDc := hD.sub (ws' := (wd_5013416a h0 v0 r0 v1 v2 v3 v4 h1 h2 r1 h3 h4 h5 h6 v5 v6 h7 h8 r2 r3 v7 r4 r5 v8 v9 h9 r6 v10 v11 h10 v12 v13 r7 v14 w15 r8 v16 v17 r9 r10 r11 r12 r13 r14 v18 r15 r16 r17 v19 h9 g8 fn74)) [0, 9] (by decide) rfl
                  have hKc := hK.sub (tys' := [(g8, .int)]) [8] rfl
                  have hFc := va_free (wc := (wd_5013416a h0 v0 r0 v1 v2 v3 v4 h1 h2 r1 h3 h4 h5 h6 v5 v6 h7 h8 r2 r3 v7 r4 r5 v8 v9 h9 r6 v10 v11 h10 v12 v13 r7 v14 w15 r8 v16 v17 r9 r10 r11 r12 r13 r14 v18 r15 r16 r17 v19 h9 g8 fn74)) hD hS hA [0, 9] rfl
                  refine va_calli (va_runV (As := [.int x53, .int 4]) (rest := [.int 1, .int 4, .int x53, .ref h0]) ⟨hx, hb, hml, hown, hts⟩ (k_X12_of_6 l dC dI h0 h9 v0 r0 v1 v2 v3 v4 h1 h2 r1 h3 h4 h5 h6 v5 v6 h7 h8 r2 r3 v7 r4 r5 v8 v9 r6 v10 v11 h10 v12 v13 r7 v14 w15 r8 v16 v17 r9 r10 r11 r12 r13 r14 v18 r15 r16 r17 v19 g8 fn74 x53 ⟨i_v1a, i_v1b⟩ ⟨i_v5a, i_v5b⟩ ⟨i_v6a, i_v6b⟩ ⟨i_v7a, i_v7b⟩ ⟨i_v8a, i_v8b⟩ ⟨i_v9a, i_v9b⟩ ⟨i_v10a, i_v10b⟩ ⟨i_v14a, i_v14b⟩ ⟨i_v18a, i_v18b⟩ ⟨i_v19a, i_v19b⟩ ⟨qa_x53, by first | omega | decide⟩ ia_fn74 H.size) (cwV 2 hts g_X12_growAll_4 rfl rfl rfl (by decide +kernel) ⟨Nat.le_of_ble_eq_true rfl, Nat.le_of_ble_eq_true rfl⟩) (pv_PV12 hPc hKc hDc (q0 := 0) rfl) rfl rfl hl.1 rfl (lv_room (Nat.le_of_ble_eq_true rfl)) dX12_growAll_108 ⟨Nat.le_of_ble_eq_true rfl, Nat.le_of_ble_eq_true rfl⟩) hS (fun q _ h => hFc q h) hFc (fun ra75 u t H1 locs ht hvm hwra75 hB hz1 hk1 hS => ?_)
                  try rw [hwra75] at hB
                  obtain ⟨pt0_ra75, pt1_ra75, pt2_ra75, hP1, hK1, hD1⟩ := hB
                  rw [ht] at hP1
                  obtain ⟨hP2, hD2⟩ := va_join (wr := (wd_f49777bc h1 g0 f20 h2 g1 f21 h3 g2 f22 h4 g3 f23 h5 g4 f24 h6 g5 f25 h7 g6 fn30 h8 g7 fn31 h10 g9 fn32)) (w1 := (wd_5013416a h0 v0 r0 v1 v2 v3 v4 h1 h2 r1 h3 h4 h5 h6 v5 v6 h7 h8 r2 r3 v7 r4 r5 v8 v9 h9 r6 v10 v11 h10 v12 v13 r7 v14 w15 r8 v16 v17 r9 r10 r11 r12 r13 r14 v18 r15 r16 r17 v19 h9 g8 fn74)) hP hD [0, 9] [1, 2, 3, 4, 5, 6, 7, 8, 10] rfl rfl (by decide) (by decide) hk1 hFc hP1 hD1
                  clear hP hD hPc hDc hKc hFc hP1 hK1 hD1 hk1 hz1
                  generalize H1 = H at hP2 hS ⊢
                  have hP := hP2.sub (ws' := (wd_12a42595 h0 v0 r0 v1 v2 v3 v4 h1 h2 r1 h3 h4 h5 h6 v5 v6 h7 h8 r2 r3 v7 r4 r5 v8 v9 h9 r6 v10 v11 h10 v12 v13 r7 v14 w15 r8 v16 v17 r9 r10 r11 r12 r13 r14 v18 r15 r16 r17 v19 h1 g0 f20 h2 g1 f21 h3 g2 f22 h4 g3 f23 h5 g4 f24 h6 g5 f25 h7 g6 fn30 h8 g7 fn31 h9 g8 fn74 h10 g9 fn32)) [9, 0, 1, 2, 3, 4, 5, 6, 7, 10, 8] rfl
                  have hD := hD2.sub (ws' := (wd_12a42595 h0 v0 r0 v1 v2 v3 v4 h1 h2 r1 h3 h4 h5 h6 v5 v6 h7 h8 r2 r3 v7 r4 r5 v8 v9 h9 r6 v10 v11 h10 v12 v13 r7 v14 w15 r8 v16 v17 r9 r10 r11 r12 r13 r14 v18 r15 r16 r17 v19 h1 g0 f20 h2 g1 f21 h3 g2 f22 h4 g3 f23 h5 g4 f24 h6 g5 f25 h7 g6 fn30 h8 g7 fn31 h9 g8 fn74 h10 g9 fn32)) [9, 0, 1, 2, 3, 4, 5, 6, 7, 10, 8] (by decide +kernel) rfl
                  clear hP2 hD2
                  refine lv_isub hx hb dX12_growAll_111 ?_
                  refine lv_topi (fun t76 et76 => ?_)
                  have gt76 : t76.toInt = 1 - ra75.toInt := pv_sub (a := 1) (b := ra75.toInt) et76 (by decide) rfl (by omega) (by omega)
                  have hPc := hP.sub (ws' := (wd_5013416a h0 v0 r0 v1 v2 v3 v4 h1 h2 r1 h3 h4 h5 h6 v5 v6 h7 h8 r2 r3 v7 r4 r5 v8 v9 h9 r6 v10 v11 h10 v12 v13 r7 v14 w15 r8 v16 v17 r9 r10 r11 r12 r13 r14 v18 r15 r16 r17 v19 h9 g8 fn74)) [0, 9] rfl
                  have hDc := hD.sub (ws' := (wd_5013416a h0 v0 r0 v1 v2 v3 v4 h1 h2 r1 h3 h4 h5 h6 v5 v6 h7 h8 r2 r3 v7 r4 r5 v8 v9 h9 r6 v10 v11 h10 v12 v13 r7 v14 w15 r8 v16 v17 r9 r10 r11 r12 r13 r14 v18 r15 r16 r17 v19 h9 g8 fn74)) [0, 9] (by decide) rfl
                  have hKc := hK.sub (tys' := [(g8, .int)]) [8] rfl
                  have hFc := va_free (wc := (wd_5013416a h0 v0 r0 v1 v2 v3 v4 h1 h2 r1 h3 h4 h5 h6 v5 v6 h7 h8 r2 r3 v7 r4 r5 v8 v9 h9 r6 v10 v11 h10 v12 v13 r7 v14 w15 r8 v16 v17 r9 r10 r11 r12 r13 r14 v18 r15 r16 r17 v19 h9 g8 fn74)) hD hS hA [0, 9] rfl
                  refine va_callv (va_runV (As := [.int x53, .int 4, .int t76]) (rest := []) ⟨hx, hb, hml, hown, hts⟩ (k_X12_set_3 l dC dI h0 h9 v0 r0 v1 v2 v3 v4 h1 h2 r1 h3 h4 h5 h6 v5 v6 h7 h8 r2 r3 v7 r4 r5 v8 v9 r6 v10 v11 h10 v12 v13 r7 v14 w15 r8 v16 v17 r9 r10 r11 r12 r13 r14 v18 r15 r16 r17 v19 g8 fn74 x53 t76 ⟨i_v1a, i_v1b⟩ ⟨i_v5a, i_v5b⟩ ⟨i_v6a, i_v6b⟩ ⟨i_v7a, i_v7b⟩ ⟨i_v8a, i_v8b⟩ ⟨i_v9a, i_v9b⟩ ⟨i_v10a, i_v10b⟩ ⟨i_v14a, i_v14b⟩ ⟨i_v18a, i_v18b⟩ ⟨i_v19a, i_v19b⟩ ⟨qa_x53, by first | omega | decide⟩ trivial H.size) (cwV 3 hts g_X12_growAll_5 rfl rfl rfl (by decide +kernel) ⟨Nat.le_of_ble_eq_true rfl, Nat.le_of_ble_eq_true rfl⟩) (pv_PV12 hPc hKc hDc (q0 := 0) rfl) rfl rfl hl.1 rfl (lv_room (Nat.le_of_ble_eq_true rfl)) dX12_growAll_112 ⟨Nat.le_of_ble_eq_true rfl, Nat.le_of_ble_eq_true rfl⟩) hS (fun q _ h => hFc q h) hFc (fun u t H1 locs ht hvm hwra77 hB hz1 hk1 hS => ?_)
                  obtain ⟨hP1, hK1, hD1⟩ := hB
                  rw [ht] at hP1
                  obtain ⟨hP2, hD2⟩ := va_join (wr := (wd_f49777bc h1 g0 f20 h2 g1 f21 h3 g2 f22 h4 g3 f23 h5 g4 f24 h6 g5 f25 h7 g6 fn30 h8 g7 fn31 h10 g9 fn32)) (w1 := (wd_5013416a h0 v0 r0 v1 v2 v3 v4 h1 h2 r1 h3 h4 h5 h6 v5 v6 h7 h8 r2 r3 v7 r4 r5 v8 v9 h9 r6 v10 v11 h10 v12 v13 r7 v14 w15 r8 v16 v17 r9 r10 r11 r12 r13 r14 v18 r15 r16 r17 v19 h9 g8 (upd fn74 (pm_I x53 4) t76))) hP hD [0, 9] [1, 2, 3, 4, 5, 6, 7, 8, 10] rfl rfl (by decide) (by decide) hk1 hFc hP1 hD1
                  clear hP hD hPc hDc hKc hFc hP1 hK1 hD1 hk1 hz1
                  generalize H1 = H at hP2 hS ⊢
                  have hP := hP2.sub (ws' := (wd_12a42595 h0 v0 r0 v1 v2 v3 v4 h1 h2 r1 h3 h4 h5 h6 v5 v6 h7 h8 r2 r3 v7 r4 r5 v8 v9 h9 r6 v10 v11 h10 v12 v13 r7 v14 w15 r8 v16 v17 r9 r10 r11 r12 r13 r14 v18 r15 r16 r17 v19 h1 g0 f20 h2 g1 f21 h3 g2 f22 h4 g3 f23 h5 g4 f24 h6 g5 f25 h7 g6 fn30 h8 g7 fn31 h9 g8 (upd fn74 (pm_I x53 4) t76) h10 g9 fn32)) [9, 0, 1, 2, 3, 4, 5, 6, 7, 10, 8] rfl
                  have hD := hD2.sub (ws' := (wd_12a42595 h0 v0 r0 v1 v2 v3 v4 h1 h2 r1 h3 h4 h5 h6 v5 v6 h7 h8 r2 r3 v7 r4 r5 v8 v9 h9 r6 v10 v11 h10 v12 v13 r7 v14 w15 r8 v16 v17 r9 r10 r11 r12 r13 r14 v18 r15 r16 r17 v19 h1 g0 f20 h2 g1 f21 h3 g2 f22 h4 g3 f23 h5 g4 f24 h6 g5 f25 h7 g6 fn30 h8 g7 fn31 h9 g8 (upd fn74 (pm_I x53 4) t76) h10 g9 fn32)) [9, 0, 1, 2, 3, 4, 5, 6, 7, 10, 8] (by decide +kernel) rfl
                  clear hP2 hD2
                  obtain ⟨t78, et78⟩ : ∃ y : Int32, y = 8 * x53 + 4 := ⟨_, rfl⟩
                  have gt78 : t78.toInt = 8 * x53.toInt + 4 := pm_i8 et78 rfl (by decide) (by omega) (by omega) (by omega) (by omega)
                  obtain ⟨fn80, efn80⟩ : ∃ g : Nat → Int32, g = upd fn74 (Int32.toNatClampNeg t78) t76 := ⟨_, rfl⟩
                  have e9 : (upd fn74 (pm_I x53 4) t76) = fn80 := by rw [efn80, et78]; rfl
                  rw [e9] at hP hD
                  have ia_fn80 : pm_NW0 fn80 := by rw [efn80]; exact pm_NW0.st (ia_fn74) (z := t78.toInt) (y := t76.toInt) rfl rfl (by omega) (fun b9 h8 h9 => ⟨fun _ => ⟨by omega, by omega⟩, fun _ => ⟨by omega, by omega⟩⟩) (fun _ => ⟨by omega, by omega⟩)
                  have hP : va_P (dC, dI) vwCl (wd_12a42595 h0 v0 r0 v1 v2 v3 v4 h1 h2 r1 h3 h4 h5 h6 v5 v6 h7 h8 r2 r3 v7 r4 r5 v8 v9 h9 r6 v10 v11 h10 v12 v13 r7 v14 w15 r8 v16 v17 r9 r10 r11 r12 r13 r14 v18 r15 r16 r17 v19 h1 g0 f20 h2 g1 f21 h3 g2 f22 h4 g3 f23 h5 g4 f24 h6 g5 f25 h7 g6 fn30 h8 g7 fn31 h9 g8 fn80 h10 g9 fn32) H := hP
                  have hD : va_D A (wd_12a42595 h0 v0 r0 v1 v2 v3 v4 h1 h2 r1 h3 h4 h5 h6 v5 v6 h7 h8 r2 r3 v7 r4 r5 v8 v9 h9 r6 v10 v11 h10 v12 v13 r7 v14 w15 r8 v16 v17 r9 r10 r11 r12 r13 r14 v18 r15 r16 r17 v19 h1 g0 f20 h2 g1 f21 h3 g2 f22 h4 g3 f23 h5 g4 f24 h6 g5 f25 h7 g6 fn30 h8 g7 fn31 h9 g8 fn80 h10 g9 fn32) := hD
                  exact hJ61 fn80 H locs ls ia_fn80 hP hD hS (lv_sub hl [0, 1] rfl)
        exact hL57 _ 0 f28 H locs ls (by decide) (by decide) ia_f28 (Nat.lt_succ_self _) hP hD hS (lv_sub hl [0, 1] rfl)
      · skip
        have fc38 : ¬ (8 ≤ x29.toInt) := fun h9 => c38 (Int32.le_iff_toInt_le.mpr h9)
        refine lv_aload_n hx hb dX12_growAll_8 rfl (lv_at hl 1 rfl) ?_
        refine va_get (D := (dC, dI)) (ci := 12) (v := .ref h10) (C := RX12) (T := TX12) (N := 48) hx hb hts (fun _ h => List.mem_cons_of_mem _ (List.mem_append_right _ h)) hown hK hP 0 rfl rfl 28 (by decide) (hts (.fieldLink RX12 65 "LeftArgumentsModel" "grows" "[I") (List.mem_cons_of_mem _ (List.mem_append_left _ (List.mem_of_getElem? (i := 13) rfl)))) (fun _ h9 => h9) rfl dX12_growAll_9 ?_
        refine lv_iload_n hx hb dX12_growAll_12 rfl (lv_at hl 0 rfl) ?_
        refine lv_aload_n hx hb dX12_growAll_13 rfl (lv_at hl 1 rfl) ?_
        refine lv_iload_n hx hb dX12_growAll_14 rfl (lv_at hl 0 rfl) ?_
        have hPc := hP.sub (ws' := (wd_5013416a h0 v0 r0 v1 v2 v3 v4 h1 h2 r1 h3 h4 h5 h6 v5 v6 h7 h8 r2 r3 v7 r4 r5 v8 v9 h9 r6 v10 v11 h10 v12 v13 r7 v14 w15 r8 v16 v17 r9 r10 r11 r12 r13 r14 v18 r15 r16 r17 v19 h9 g8 f28)) [0, 9] rfl
        have hDc := hD.sub (ws' := (wd_5013416a h0 v0 r0 v1 v2 v3 v4 h1 h2 r1 h3 h4 h5 h6 v5 v6 h7 h8 r2 r3 v7 r4 r5 v8 v9 h9 r6 v10 v11 h10 v12 v13 r7 v14 w15 r8 v16 v17 r9 r10 r11 r12 r13 r14 v18 r15 r16 r17 v19 h9 g8 f28)) [0, 9] (by decide) rfl
        have hKc := hK.sub (tys' := [(g8, .int)]) [8] rfl
        have hFc := va_free (wc := (wd_5013416a h0 v0 r0 v1 v2 v3 v4 h1 h2 r1 h3 h4 h5 h6 v5 v6 h7 h8 r2 r3 v7 r4 r5 v8 v9 h9 r6 v10 v11 h10 v12 v13 r7 v14 w15 r8 v16 v17 r9 r10 r11 r12 r13 r14 v18 r15 r16 r17 v19 h9 g8 f28)) hD hS hA [0, 9] rfl
        refine va_calli (va_runV (As := [.int x29]) (rest := [.int x29, .ref h10]) ⟨hx, hb, hml, hown, hts⟩ (k_X12_isThere l dC dI h0 h9 v0 r0 v1 v2 v3 v4 h1 h2 r1 h3 h4 h5 h6 v5 v6 h7 h8 r2 r3 v7 r4 r5 v8 v9 r6 v10 v11 h10 v12 v13 r7 v14 w15 r8 v16 v17 r9 r10 r11 r12 r13 r14 v18 r15 r16 r17 v19 g8 f28 x29 ⟨i_v1a, i_v1b⟩ ⟨i_v5a, i_v5b⟩ ⟨i_v6a, i_v6b⟩ ⟨i_v7a, i_v7b⟩ ⟨i_v8a, i_v8b⟩ ⟨i_v9a, i_v9b⟩ ⟨i_v10a, i_v10b⟩ ⟨i_v14a, i_v14b⟩ ⟨i_v18a, i_v18b⟩ ⟨i_v19a, i_v19b⟩ ia_f28 H.size) (cwV 1 hts g_X12_growAll_0 rfl rfl rfl (by decide +kernel) ⟨Nat.le_of_ble_eq_true rfl, Nat.le_of_ble_eq_true rfl⟩) (pv_PV12 hPc hKc hDc (q0 := 0) rfl) rfl rfl hl.1 rfl (lv_room (Nat.le_of_ble_eq_true rfl)) dX12_growAll_15 ⟨Nat.le_of_ble_eq_true rfl, Nat.le_of_ble_eq_true rfl⟩) hS (fun q _ h => hFc q h) hFc (fun ra81 u t H1 locs ht hvm hwra81 hB hz1 hk1 hS => ?_)
        try rw [hwra81] at hB
        obtain ⟨pt0_ra81, pt1_ra81, pt2_ra81, pt3_ra81, pt4_ra81, pt5_ra81, hP1, hK1, hD1⟩ := hB
        rw [ht] at hP1
        obtain ⟨hP2, hD2⟩ := va_join (wr := (wd_f49777bc h1 g0 f20 h2 g1 f21 h3 g2 f22 h4 g3 f23 h5 g4 f24 h6 g5 f25 h7 g6 fn30 h8 g7 fn31 h10 g9 fn32)) (w1 := (wd_5013416a h0 v0 r0 v1 v2 v3 v4 h1 h2 r1 h3 h4 h5 h6 v5 v6 h7 h8 r2 r3 v7 r4 r5 v8 v9 h9 r6 v10 v11 h10 v12 v13 r7 v14 w15 r8 v16 v17 r9 r10 r11 r12 r13 r14 v18 r15 r16 r17 v19 h9 g8 f28)) hP hD [0, 9] [1, 2, 3, 4, 5, 6, 7, 8, 10] rfl rfl (by decide) (by decide) hk1 hFc hP1 hD1
        clear hP hD hPc hDc hKc hFc hP1 hK1 hD1 hk1 hz1
        generalize H1 = H at hP2 hS ⊢
        have hP := hP2.sub (ws' := (wd_12a42595 h0 v0 r0 v1 v2 v3 v4 h1 h2 r1 h3 h4 h5 h6 v5 v6 h7 h8 r2 r3 v7 r4 r5 v8 v9 h9 r6 v10 v11 h10 v12 v13 r7 v14 w15 r8 v16 v17 r9 r10 r11 r12 r13 r14 v18 r15 r16 r17 v19 h1 g0 f20 h2 g1 f21 h3 g2 f22 h4 g3 f23 h5 g4 f24 h6 g5 f25 h7 g6 fn30 h8 g7 fn31 h9 g8 f28 h10 g9 fn32)) [9, 0, 1, 2, 3, 4, 5, 6, 7, 10, 8] rfl
        have hD := hD2.sub (ws' := (wd_12a42595 h0 v0 r0 v1 v2 v3 v4 h1 h2 r1 h3 h4 h5 h6 v5 v6 h7 h8 r2 r3 v7 r4 r5 v8 v9 h9 r6 v10 v11 h10 v12 v13 r7 v14 w15 r8 v16 v17 r9 r10 r11 r12 r13 r14 v18 r15 r16 r17 v19 h1 g0 f20 h2 g1 f21 h3 g2 f22 h4 g3 f23 h5 g4 f24 h6 g5 f25 h7 g6 fn30 h8 g7 fn31 h9 g8 f28 h10 g9 fn32)) [9, 0, 1, 2, 3, 4, 5, 6, 7, 10, 8] (by decide +kernel) rfl
        clear hP2 hD2
        have wra81 : ra81.toInt = 0 → ¬ f28 (pm_I x29 7) = 1 := fun h9 => pt5_ra81 h9 (by omega) (by omega)
        have hJ85 : ∀ (x82 : Int32) (fn83 : Nat → Int32) (fn84 : Nat → Int32) (H : Heap) (locs : List Loc) (ls : Array Slot), -9 ≤ x82.toInt → x82.toInt ≤ 9 → va_P (dC, dI) vwCl (wd_12a42595 h0 v0 r0 v1 v2 v3 v4 h1 h2 r1 h3 h4 h5 h6 v5 v6 h7 h8 r2 r3 v7 r4 r5 v8 v9 h9 r6 v10 v11 h10 v12 v13 r7 v14 w15 r8 v16 v17 r9 r10 r11 r12 r13 r14 v18 r15 r16 r17 v19 h1 g0 f20 h2 g1 f21 h3 g2 f22 h4 g3 f23 h5 g4 f24 h6 g5 f25 h7 g6 fn83 h8 g7 fn84 h9 g8 f28 h10 g9 fn32) H → va_D A (wd_12a42595 h0 v0 r0 v1 v2 v3 v4 h1 h2 r1 h3 h4 h5 h6 v5 v6 h7 h8 r2 r3 v7 r4 r5 v8 v9 h9 r6 v10 v11 h10 v12 v13 r7 v14 w15 r8 v16 v17 r9 r10 r11 r12 r13 r14 v18 r15 r16 r17 v19 h1 g0 f20 h2 g1 f21 h3 g2 f22 h4 g3 f23 h5 g4 f24 h6 g5 f25 h7 g6 fn83 h8 g7 fn84 h9 g8 f28 h10 g9 fn32) → va_S A s.heap H locs → lv_has ls 2 [(1, .int x29), (0, .ref h0)] → W p l e ({ frames := 6, cells := 0, slots := 0, locals := 132 }) s m ([.ref h0] : List Value).toArray below meth c H locs 0 0 Q (F0 m 40 ls [.int x82, .int x29, .ref h10]) := by
          intro x82 fn83 fn84 H locs ls qa_x82 qb_x82 hP hD hS hl
          refine va_iast hx hb hK hP hD hS 10 9 rfl rfl (vp_in_iff.mpr ⟨by omega, by omega⟩) dX12_growAll_40 (fun H locs hP hD hS => ?_)
          obtain ⟨fn86, efn86⟩ : ∃ g : Nat → Int32, g = upd fn32 (Int32.toNatClampNeg x29) x82 := ⟨_, rfl⟩
          rw [← efn86] at hP hD
          have hP : va_P (dC, dI) vwCl (wd_12a42595 h0 v0 r0 v1 v2 v3 v4 h1 h2 r1 h3 h4 h5 h6 v5 v6 h7 h8 r2 r3 v7 r4 r5 v8 v9 h9 r6 v10 v11 h10 v12 v13 r7 v14 w15 r8 v16 v17 r9 r10 r11 r12 r13 r14 v18 r15 r16 r17 v19 h1 g0 f20 h2 g1 f21 h3 g2 f22 h4 g3 f23 h5 g4 f24 h6 g5 f25 h7 g6 fn83 h8 g7 fn84 h9 g8 f28 h10 g9 fn86) H := hP
          have hD : va_D A (wd_12a42595 h0 v0 r0 v1 v2 v3 v4 h1 h2 r1 h3 h4 h5 h6 v5 v6 h7 h8 r2 r3 v7 r4 r5 v8 v9 h9 r6 v10 v11 h10 v12 v13 r7 v14 w15 r8 v16 v17 r9 r10 r11 r12 r13 r14 v18 r15 r16 r17 v19 h1 g0 f20 h2 g1 f21 h3 g2 f22 h4 g3 f23 h5 g4 f24 h6 g5 f25 h7 g6 fn83 h8 g7 fn84 h9 g8 f28 h10 g9 fn86) := hD
          obtain ⟨t87, et87⟩ : ∃ y : Int32, y = x29 + 1 := ⟨_, rfl⟩
          have gt87 : t87.toInt = x29.toInt + (1) := pv_add (a := x29.toInt) (b := (1)) et87 rfl (by decide) (by omega) (by omega)
          refine lv_iinc (v := t87) (lv' := [(1, .int t87), (0, .ref h0)]) hx hb dX12_growAll_41 hl (k := 0) rfl (by rw [et87]; rfl) (by decide) rfl (fun ls hl => ?_)
          refine lv_goto (tgt := 2) hx hb dX12_growAll_44 (by decide) ?_
          exact ih_hL37 t87 fn83 fn84 fn86 H locs ls (by first | omega | decide) (by first | omega | decide) (by first | omega | (simp only [Int.toNat] at *; omega)) hP hD hS (lv_sub hl [0, 1] rfl)
        refine lv_if_eq (tgt := 39) hx hb dX12_growAll_18 (by decide) (fun c88 => ?_) (fun c88 => ?_)
        · skip
          have fc88 : ra81.toInt = 0 := congrArg Int32.toInt c88
          have q0wra81 := wra81 (by omega)
          refine lv_iconst (v := 0) hx hb dX12_growAll_39 (by decide) ?_
          exact hJ85 0 fn30 fn31 H locs ls (by decide) (by decide) hP hD hS (lv_sub hl [0, 1] rfl)
        · skip
          have fc88 : ¬ (ra81.toInt = 0) := fun h9 => c88 (Int32.toInt_inj.mp h9)
          have q1pt4_ra81 := pt4_ra81 (by omega)
          refine lv_aload_n hx hb dX12_growAll_21 rfl (lv_at hl 1 rfl) ?_
          refine lv_iload_n hx hb dX12_growAll_22 rfl (lv_at hl 0 rfl) ?_
          refine lv_bipush (v := 6) hx hb dX12_growAll_23 (by decide) ?_
          have hPc := hP.sub (ws' := (wd_5013416a h0 v0 r0 v1 v2 v3 v4 h1 h2 r1 h3 h4 h5 h6 v5 v6 h7 h8 r2 r3 v7 r4 r5 v8 v9 h9 r6 v10 v11 h10 v12 v13 r7 v14 w15 r8 v16 v17 r9 r10 r11 r12 r13 r14 v18 r15 r16 r17 v19 h9 g8 f28)) [0, 9] rfl
          have hDc := hD.sub (ws' := (wd_5013416a h0 v0 r0 v1 v2 v3 v4 h1 h2 r1 h3 h4 h5 h6 v5 v6 h7 h8 r2 r3 v7 r4 r5 v8 v9 h9 r6 v10 v11 h10 v12 v13 r7 v14 w15 r8 v16 v17 r9 r10 r11 r12 r13 r14 v18 r15 r16 r17 v19 h9 g8 f28)) [0, 9] (by decide) rfl
          have hKc := hK.sub (tys' := [(g8, .int)]) [8] rfl
          have hFc := va_free (wc := (wd_5013416a h0 v0 r0 v1 v2 v3 v4 h1 h2 r1 h3 h4 h5 h6 v5 v6 h7 h8 r2 r3 v7 r4 r5 v8 v9 h9 r6 v10 v11 h10 v12 v13 r7 v14 w15 r8 v16 v17 r9 r10 r11 r12 r13 r14 v18 r15 r16 r17 v19 h9 g8 f28)) hD hS hA [0, 9] rfl
          refine va_calli (va_runV (As := [.int x29, .int 6]) (rest := [.int x29, .ref h10]) ⟨hx, hb, hml, hown, hts⟩ (k_X12_of_8 l dC dI h0 h9 v0 r0 v1 v2 v3 v4 h1 h2 r1 h3 h4 h5 h6 v5 v6 h7 h8 r2 r3 v7 r4 r5 v8 v9 r6 v10 v11 h10 v12 v13 r7 v14 w15 r8 v16 v17 r9 r10 r11 r12 r13 r14 v18 r15 r16 r17 v19 g8 f28 x29 ⟨i_v1a, i_v1b⟩ ⟨i_v5a, i_v5b⟩ ⟨i_v6a, i_v6b⟩ ⟨i_v7a, i_v7b⟩ ⟨i_v8a, i_v8b⟩ ⟨i_v9a, i_v9b⟩ ⟨i_v10a, i_v10b⟩ ⟨i_v14a, i_v14b⟩ ⟨i_v18a, i_v18b⟩ ⟨i_v19a, i_v19b⟩ ⟨qa_x29, by first | omega | decide⟩ ia_f28 H.size) (cwV 2 hts g_X12_growAll_1 rfl rfl rfl (by decide +kernel) ⟨Nat.le_of_ble_eq_true rfl, Nat.le_of_ble_eq_true rfl⟩) (pv_PV12 hPc hKc hDc (q0 := 0) rfl) rfl rfl hl.1 rfl (lv_room (Nat.le_of_ble_eq_true rfl)) dX12_growAll_25 ⟨Nat.le_of_ble_eq_true rfl, Nat.le_of_ble_eq_true rfl⟩) hS (fun q _ h => hFc q h) hFc (fun ra89 u t H1 locs ht hvm hwra89 hB hz1 hk1 hS => ?_)
          try rw [hwra89] at hB
          obtain ⟨pt0_ra89, hP1, hK1, hD1⟩ := hB
          rw [ht] at hP1
          obtain ⟨hP2, hD2⟩ := va_join (wr := (wd_f49777bc h1 g0 f20 h2 g1 f21 h3 g2 f22 h4 g3 f23 h5 g4 f24 h6 g5 f25 h7 g6 fn30 h8 g7 fn31 h10 g9 fn32)) (w1 := (wd_5013416a h0 v0 r0 v1 v2 v3 v4 h1 h2 r1 h3 h4 h5 h6 v5 v6 h7 h8 r2 r3 v7 r4 r5 v8 v9 h9 r6 v10 v11 h10 v12 v13 r7 v14 w15 r8 v16 v17 r9 r10 r11 r12 r13 r14 v18 r15 r16 r17 v19 h9 g8 f28)) hP hD [0, 9] [1, 2, 3, 4, 5, 6, 7, 8, 10] rfl rfl (by decide) (by decide) hk1 hFc hP1 hD1
          clear hP hD hPc hDc hKc hFc hP1 hK1 hD1 hk1 hz1
          generalize H1 = H at hP2 hS ⊢
          have hP := hP2.sub (ws' := (wd_12a42595 h0 v0 r0 v1 v2 v3 v4 h1 h2 r1 h3 h4 h5 h6 v5 v6 h7 h8 r2 r3 v7 r4 r5 v8 v9 h9 r6 v10 v11 h10 v12 v13 r7 v14 w15 r8 v16 v17 r9 r10 r11 r12 r13 r14 v18 r15 r16 r17 v19 h1 g0 f20 h2 g1 f21 h3 g2 f22 h4 g3 f23 h5 g4 f24 h6 g5 f25 h7 g6 fn30 h8 g7 fn31 h9 g8 f28 h10 g9 fn32)) [9, 0, 1, 2, 3, 4, 5, 6, 7, 10, 8] rfl
          have hD := hD2.sub (ws' := (wd_12a42595 h0 v0 r0 v1 v2 v3 v4 h1 h2 r1 h3 h4 h5 h6 v5 v6 h7 h8 r2 r3 v7 r4 r5 v8 v9 h9 r6 v10 v11 h10 v12 v13 r7 v14 w15 r8 v16 v17 r9 r10 r11 r12 r13 r14 v18 r15 r16 r17 v19 h1 g0 f20 h2 g1 f21 h3 g2 f22 h4 g3 f23 h5 g4 f24 h6 g5 f25 h7 g6 fn30 h8 g7 fn31 h9 g8 f28 h10 g9 fn32)) [9, 0, 1, 2, 3, 4, 5, 6, 7, 10, 8] (by decide +kernel) rfl
          clear hP2 hD2
          refine lv_if_ne (tgt := 39) hx hb dX12_growAll_28 (by decide) (fun c90 => ?_) (fun c90 => ?_)
          · skip
            have fc90 : ¬ (ra89.toInt = 0) := fun h9 => c90 (Int32.toInt_inj.mp h9)
            refine lv_iconst (v := 0) hx hb dX12_growAll_39 (by decide) ?_
            exact hJ85 0 fn30 fn31 H locs ls (by decide) (by decide) hP hD hS (lv_sub hl [0, 1] rfl)
          · skip
            have fc90 : ra89.toInt = 0 := congrArg Int32.toInt c90
            refine lv_aload_n hx hb dX12_growAll_31 rfl (lv_at hl 1 rfl) ?_
            refine lv_iload_n hx hb dX12_growAll_32 rfl (lv_at hl 0 rfl) ?_
            have hPc := hP.sub (ws' := (wd_c0e4689d h0 v0 r0 v1 v2 v3 v4 h1 h2 r1 h3 h4 h5 h6 v5 v6 h7 h8 r2 r3 v7 r4 r5 v8 v9 h9 r6 v10 v11 h10 v12 v13 r7 v14 w15 r8 v16 v17 r9 r10 r11 r12 r13 r14 v18 r15 r16 r17 v19 h1 g0 f20 h2 g1 f21 h3 g2 f22 h4 g3 f23 h5 g4 f24 h6 g5 f25 h7 g6 fn30 h8 g7 fn31 h9 g8 f28)) [0, 1, 2, 3, 4, 5, 6, 7, 8, 9] rfl
            have hDc := hD.sub (ws' := (wd_c0e4689d h0 v0 r0 v1 v2 v3 v4 h1 h2 r1 h3 h4 h5 h6 v5 v6 h7 h8 r2 r3 v7 r4 r5 v8 v9 h9 r6 v10 v11 h10 v12 v13 r7 v14 w15 r8 v16 v17 r9 r10 r11 r12 r13 r14 v18 r15 r16 r17 v19 h1 g0 f20 h2 g1 f21 h3 g2 f22 h4 g3 f23 h5 g4 f24 h6 g5 f25 h7 g6 fn30 h8 g7 fn31 h9 g8 f28)) [0, 1, 2, 3, 4, 5, 6, 7, 8, 9] (by decide +kernel) rfl
            have hKc := hK.sub (tys' := [(g0, .int), (g1, .int), (g2, .int), (g3, .int), (g4, .int), (g5, .int), (g6, .int), (g7, .int), (g8, .int)]) [0, 1, 2, 3, 4, 5, 6, 7, 8] rfl
            have hFc := va_free (wc := (wd_c0e4689d h0 v0 r0 v1 v2 v3 v4 h1 h2 r1 h3 h4 h5 h6 v5 v6 h7 h8 r2 r3 v7 r4 r5 v8 v9 h9 r6 v10 v11 h10 v12 v13 r7 v14 w15 r8 v16 v17 r9 r10 r11 r12 r13 r14 v18 r15 r16 r17 v19 h1 g0 f20 h2 g1 f21 h3 g2 f22 h4 g3 f23 h5 g4 f24 h6 g5 f25 h7 g6 fn30 h8 g7 fn31 h9 g8 f28)) hD hS hA [0, 1, 2, 3, 4, 5, 6, 7, 8, 9] rfl
            refine va_calli (va_runV (As := [.int x29]) (rest := [.int x29, .ref h10]) ⟨hx, hb, hml, hown, hts⟩ (k_X12_growthOf l dC dI h0 h1 h2 h3 h4 h5 h6 h7 h8 h9 v0 r0 v1 v2 v3 v4 r1 v5 v6 r2 r3 v7 r4 r5 v8 v9 r6 v10 v11 h10 v12 v13 r7 v14 w15 r8 v16 v17 r9 r10 r11 r12 r13 r14 v18 r15 r16 r17 v19 g0 f20 g1 f21 g2 f22 g3 f23 g4 f24 g5 f25 g6 fn30 g7 fn31 g8 f28 x29 ⟨i_v1a, i_v1b⟩ ⟨i_v5a, i_v5b⟩ ⟨i_v6a, i_v6b⟩ ⟨i_v7a, i_v7b⟩ ⟨i_v8a, i_v8b⟩ ⟨i_v9a, i_v9b⟩ ⟨i_v10a, i_v10b⟩ ⟨i_v14a, i_v14b⟩ ⟨i_v18a, i_v18b⟩ ⟨i_v19a, i_v19b⟩ ⟨qa_x29, by first | omega | decide⟩ ia_f28 pp0 H.size) (cwV 1 hts g_X12_growAll_8 rfl rfl rfl (by decide +kernel) ⟨Nat.le_of_ble_eq_true rfl, Nat.le_of_ble_eq_true rfl⟩) (pv_PV12 hPc hKc hDc (q0 := 0) rfl) rfl rfl hl.1 rfl (lv_room (Nat.le_of_ble_eq_true rfl)) dX12_growAll_33 ⟨Nat.le_of_ble_eq_true rfl, Nat.le_of_ble_eq_true rfl⟩) hS (fun q _ h => hFc q h) hFc (fun ra91 u t H1 locs ht hvm hwra91 hB hz1 hk1 hS => ?_)
            try rw [hwra91] at hB
            obtain ⟨fn92, fn93, pt0_ra91, pt1_ra91, hP1, hK1, hD1⟩ := hB
            rw [ht] at hP1
            obtain ⟨hP2, hD2⟩ := va_join (wr := (wd_063f09b6 h10 g9 fn32)) (w1 := (wd_c0e4689d h0 v0 r0 v1 v2 v3 v4 h1 h2 r1 h3 h4 h5 h6 v5 v6 h7 h8 r2 r3 v7 r4 r5 v8 v9 h9 r6 v10 v11 h10 v12 v13 r7 v14 w15 r8 v16 v17 r9 r10 r11 r12 r13 r14 v18 r15 r16 r17 v19 h1 g0 f20 h2 g1 f21 h3 g2 f22 h4 g3 f23 h5 g4 f24 h6 g5 f25 h7 g6 fn92 h8 g7 fn93 h9 g8 f28)) hP hD [0, 1, 2, 3, 4, 5, 6, 7, 8, 9] [10] rfl rfl (by decide) (by decide) hk1 hFc hP1 hD1
            clear hP hD hPc hDc hKc hFc hP1 hK1 hD1 hk1 hz1
            generalize H1 = H at hP2 hS ⊢
            have hP := hP2.sub (ws' := (wd_12a42595 h0 v0 r0 v1 v2 v3 v4 h1 h2 r1 h3 h4 h5 h6 v5 v6 h7 h8 r2 r3 v7 r4 r5 v8 v9 h9 r6 v10 v11 h10 v12 v13 r7 v14 w15 r8 v16 v17 r9 r10 r11 r12 r13 r14 v18 r15 r16 r17 v19 h1 g0 f20 h2 g1 f21 h3 g2 f22 h4 g3 f23 h5 g4 f24 h6 g5 f25 h7 g6 fn92 h8 g7 fn93 h9 g8 f28 h10 g9 fn32)) [1, 2, 3, 4, 5, 6, 7, 8, 9, 10, 0] rfl
            have hD := hD2.sub (ws' := (wd_12a42595 h0 v0 r0 v1 v2 v3 v4 h1 h2 r1 h3 h4 h5 h6 v5 v6 h7 h8 r2 r3 v7 r4 r5 v8 v9 h9 r6 v10 v11 h10 v12 v13 r7 v14 w15 r8 v16 v17 r9 r10 r11 r12 r13 r14 v18 r15 r16 r17 v19 h1 g0 f20 h2 g1 f21 h3 g2 f22 h4 g3 f23 h5 g4 f24 h6 g5 f25 h7 g6 fn92 h8 g7 fn93 h9 g8 f28 h10 g9 fn32)) [1, 2, 3, 4, 5, 6, 7, 8, 9, 10, 0] (by decide +kernel) rfl
            clear hP2 hD2
            refine lv_goto (tgt := 40) hx hb dX12_growAll_36 (by decide) ?_
            exact hJ85 ra91 fn92 fn93 H locs ls (by first | omega | decide) (by first | omega | decide) hP hD hS (lv_sub hl [0, 1] rfl)
  exact hL37 _ 0 f26 f27 f29 H locs ls (by decide) (by decide) (Nat.lt_succ_self _) hP hD hS (lv_sub hl [0, 1] rfl)
def q_X12_set_4 : List Cond := .code yX12_set cX12_set 4 none :: (([.fieldLink RX12 52 "LeftArgumentsModel" "now" "[I"] : List Cond) ++ wsX120)
set_option maxHeartbeats 4000000 in
set_option maxRecDepth 100000 in
theorem k_X12_set_4 (l : Launch) (dC : Nat → ClassId) (dI : Nat → Nat → Nat) (h0 : Nat) (h1 : Nat) (v0 : Int32) (r0 : Nat) (v1 : Int32) (v2 : Int32) (v3 : Int32) (v4 : Int32) (r1 : Nat) (r2 : Nat) (r3 : Nat) (r4 : Nat) (r5 : Nat) (r6 : Nat) (r7 : Nat) (v5 : Int32) (v6 : Int32) (r8 : Nat) (r9 : Nat) (r10 : Nat) (r11 : Nat) (v7 : Int32) (r12 : Nat) (r13 : Nat) (v8 : Int32) (v9 : Int32) (r14 : Nat) (v10 : Int32) (v11 : Int32) (r15 : Nat) (v12 : Int32) (v13 : Int32) (r16 : Nat) (v14 : Int32) (w15 : Int64) (r17 : Nat) (v16 : Int32) (v17 : Int32) (r18 : Nat) (r19 : Nat) (r20 : Nat) (r21 : Nat) (r22 : Nat) (r23 : Nat) (v18 : Int32) (r24 : Nat) (r25 : Nat) (r26 : Nat) (v19 : Int32) (g0 : ClassId) (f20 : Nat → Int32) (v21 : Int32) (v22 : Int32) (i_v1 : 0 ≤ v1.toInt ∧ v1.toInt ≤ 240) (i_v5 : 0 ≤ v5.toInt ∧ v5.toInt ≤ 4) (i_v6 : 0 ≤ v6.toInt ∧ v6.toInt ≤ 4) (i_v7 : 0 ≤ v7.toInt ∧ v7.toInt ≤ 8) (i_v8 : 0 ≤ v8.toInt ∧ v8.toInt ≤ 8) (i_v9 : 0 ≤ v9.toInt ∧ v9.toInt ≤ 1) (i_v10 : -1 ≤ v10.toInt ∧ v10.toInt ≤ 3) (i_v14 : 0 ≤ v14.toInt ∧ v14.toInt ≤ 40) (i_v18 : 0 ≤ v18.toInt ∧ v18.toInt ≤ 10) (i_v19 : 0 ≤ v19.toInt ∧ v19.toInt ≤ 1) (i_v21 : 0 ≤ v21.toInt ∧ v21.toInt ≤ 7) (ia_f20 : (pm_ANY f20)) (sz : Nat) : Met l yX12_set q_X12_set_4 ({ frames := 0, cells := 0, slots := 0, locals := 0 }) (va_Pc [.ref h0, .int v21, .int 6, .int v22] (fun U => U.heap.size = sz ∧ va_P (dC, dI) vwCl (wd_5013416a h0 v0 r0 v1 v2 v3 v4 r1 r2 r3 r4 r5 r6 r7 v5 v6 r8 r9 r10 r11 v7 r12 r13 v8 v9 h1 r14 v10 v11 r15 v12 v13 r16 v14 w15 r17 v16 v17 r18 r19 r20 r21 r22 r23 v18 r24 r25 r26 v19 h1 g0 f20) U.heap ∧ va_K (dC, dI) vwCl [(g0, .int)] U ∧ va_D (fun _ => True) (wd_5013416a h0 v0 r0 v1 v2 v3 v4 r1 r2 r3 r4 r5 r6 r7 v5 v6 r8 r9 r10 r11 v7 r12 r13 v8 v9 h1 r14 v10 v11 r15 v12 v13 r16 v14 w15 r17 v16 v17 r18 r19 r20 r21 r22 r23 v18 r24 r25 r26 v19 h1 g0 f20))) (va_Qv (fun (_ : Unit) => True) (fun (_ : Unit) (t : State) => (va_P (dC, dI) vwCl (wd_5013416a h0 v0 r0 v1 v2 v3 v4 r1 r2 r3 r4 r5 r6 r7 v5 v6 r8 r9 r10 r11 v7 r12 r13 v8 v9 h1 r14 v10 v11 r15 v12 v13 r16 v14 w15 r17 v16 v17 r18 r19 r20 r21 r22 r23 v18 r24 r25 r26 v19 h1 g0 (upd f20 (pm_I v21 6) v22)) t.heap ∧ va_K (dC, dI) vwCl [] t ∧ va_D (va_A (wd_5013416a h0 v0 r0 v1 v2 v3 v4 r1 r2 r3 r4 r5 r6 r7 v5 v6 r8 r9 r10 r11 v7 r12 r13 v8 v9 h1 r14 v10 v11 r15 v12 v13 r16 v14 w15 r17 v16 v17 r18 r19 r20 r21 r22 r23 v18 r24 r25 r26 v19 h1 g0 f20) sz) (wd_5013416a h0 v0 r0 v1 v2 v3 v4 r1 r2 r3 r4 r5 r6 r7 v5 v6 r8 r9 r10 r11 v7 r12 r13 v8 v9 h1 r14 v10 v11 r15 v12 v13 r16 v14 w15 r17 v16 v17 r18 r19 r20 r21 r22 r23 v18 r24 r25 r26 v19 h1 g0 (upd f20 (pm_I v21 6) v22)))) (va_A (wd_5013416a h0 v0 r0 v1 v2 v3 v4 r1 r2 r3 r4 r5 r6 r7 v5 v6 r8 r9 r10 r11 v7 r12 r13 v8 v9 h1 r14 v10 v11 r15 v12 v13 r16 v14 w15 r17 v16 v17 r18 r19 r20 r21 r22 r23 v18 r24 r25 r26 v19 h1 g0 f20) sz)) 0 0 (va_A (wd_5013416a h0 v0 r0 v1 v2 v3 v4 r1 r2 r3 r4 r5 r6 r7 v5 v6 r8 r9 r10 r11 v7 r12 r13 v8 v9 h1 r14 v10 v11 r15 v12 v13 r16 v14 w15 r17 v16 v17 r18 r19 r20 r21 r22 r23 v18 r24 r25 r26 v19 h1 g0 f20) sz) := by
  refine Met.ofW (cc := cX12_set) (maxL := 4) (ret := none) (by decide) rfl ?_
  intro p e s m args below meth c s₁ B hml hv
  obtain ⟨i_v1a, i_v1b⟩ := i_v1
  obtain ⟨i_v5a, i_v5b⟩ := i_v5
  obtain ⟨i_v6a, i_v6b⟩ := i_v6
  obtain ⟨i_v7a, i_v7b⟩ := i_v7
  obtain ⟨i_v8a, i_v8b⟩ := i_v8
  obtain ⟨i_v9a, i_v9b⟩ := i_v9
  obtain ⟨i_v10a, i_v10b⟩ := i_v10
  obtain ⟨i_v14a, i_v14b⟩ := i_v14
  obtain ⟨i_v18a, i_v18b⟩ := i_v18
  obtain ⟨i_v19a, i_v19b⟩ := i_v19
  obtain ⟨i_v21a, i_v21b⟩ := i_v21
  obtain ⟨rfl, hsz, hP, hK, hD0⟩ := hv
  have hx := B.exec
  have hb := B.bytes
  have hr := B.returns
  have hts := atoms_spec (ws := q_X12_set_4) B.pre
  have hown : s.vm.findClass RX12 = some m.cls := findClass_of_methodNamed B.named
  have hlocks := B.notSynchronized
  subst hsz
  have hD := hD0.self (sz := s.heap.size)
  generalize hAe : va_A (wd_5013416a h0 v0 r0 v1 v2 v3 v4 r1 r2 r3 r4 r5 r6 r7 v5 v6 r8 r9 r10 r11 v7 r12 r13 v8 v9 h1 r14 v10 v11 r15 v12 v13 r16 v14 w15 r17 v16 v17 r18 r19 r20 r21 r22 r23 v18 r24 r25 r26 v19 h1 g0 f20) s.heap.size = A at hD ⊢
  have hA : ∀ q : Nat, s.heap.size ≤ q → A q := fun q h => by rw [← hAe]; exact Or.inr h
  have hS : va_S A s.heap s.heap [] := va_S.rf
  generalize hQ : (MQ below _ _ s 0 0 A) = Q
  have hl := lv_entry ([.ref h0, .int v21, .int 6, .int v22]) (n := 4) (Nat.le_of_ble_eq_true rfl)
  rw [lg_entry_eq]
  generalize (lg_sl ([.ref h0, .int v21, .int 6, .int v22]) ++ List.replicate (4 - (lg_sl ([.ref h0, .int v21, .int 6, .int v22])).length) Slot.unset).toArray = ls at hl ⊢
  have hl : lv_has ls 4 [(0, .ref h0), (1, .int v21), (2, .int 6), (3, .int v22)] := hl
  obtain ⟨H, hH⟩ : ∃ H : Heap, H = s.heap := ⟨_, rfl⟩
  obtain ⟨locs, hlocs⟩ : ∃ y : List Loc, y = [] := ⟨_, rfl⟩
  have hS : va_S A s.heap H locs := by rw [hH, hlocs]; exact va_S.rf
  have hP : va_P (dC, dI) vwCl (wd_5013416a h0 v0 r0 v1 v2 v3 v4 r1 r2 r3 r4 r5 r6 r7 v5 v6 r8 r9 r10 r11 v7 r12 r13 v8 v9 h1 r14 v10 v11 r15 v12 v13 r16 v14 w15 r17 v16 v17 r18 r19 r20 r21 r22 r23 v18 r24 r25 r26 v19 h1 g0 f20) H := by rw [hH]; exact hP
  rw [← hH, ← hlocs]
  refine lv_aload_n hx hb dX12_set_0 rfl (lv_at hl 0 rfl) ?_
  refine va_get (D := (dC, dI)) (ci := 12) (v := .ref h1) (C := RX12) (T := TX12) (N := 48) hx hb hts (fun _ h => List.mem_cons_of_mem _ (List.mem_append_right _ h)) hown hK hP 0 rfl rfl 24 (by decide) (hts (.fieldLink RX12 52 "LeftArgumentsModel" "now" "[I") (List.mem_cons_of_mem _ (List.mem_append_left _ (List.mem_of_getElem? (i := 0) rfl)))) (fun _ h9 => h9) rfl dX12_set_1 ?_
  refine lv_bipush (v := 8) hx hb dX12_set_4 (by decide) ?_
  refine lv_iload_n hx hb dX12_set_6 rfl (lv_at hl 1 rfl) ?_
  refine lv_imul hx hb dX12_set_7 ?_
  refine lv_topi (fun t1 et1 => ?_)
  have gt1 : t1.toInt = 8 * v21.toInt := pv_mul (a := 8) (b := v21.toInt) et1 (by decide) rfl (by omega) (by omega)
  refine lv_iload_n hx hb dX12_set_8 rfl (lv_at hl 2 rfl) ?_
  refine lv_iadd hx hb dX12_set_9 ?_
  refine lv_topi (fun t2 et2 => ?_)
  have gt2 : t2.toInt = t1.toInt + 6 := pv_add (a := t1.toInt) (b := 6) et2 rfl (by decide) (by omega) (by omega)
  refine lv_iload_n hx hb dX12_set_10 rfl (lv_at hl 3 rfl) ?_
  refine va_iast hx hb hK hP hD hS 1 0 rfl rfl (vp_in_iff.mpr ⟨by omega, by omega⟩) dX12_set_11 (fun H locs hP hD hS => ?_)
  obtain ⟨fn3, efn3⟩ : ∃ g : Nat → Int32, g = upd f20 (Int32.toNatClampNeg t2) v22 := ⟨_, rfl⟩
  rw [← efn3] at hP hD
  have ia_fn3 : pm_ANY fn3 := trivial
  have hP : va_P (dC, dI) vwCl (wd_5013416a h0 v0 r0 v1 v2 v3 v4 r1 r2 r3 r4 r5 r6 r7 v5 v6 r8 r9 r10 r11 v7 r12 r13 v8 v9 h1 r14 v10 v11 r15 v12 v13 r16 v14 w15 r17 v16 v17 r18 r19 r20 r21 r22 r23 v18 r24 r25 r26 v19 h1 g0 fn3) H := hP
  have hD : va_D A (wd_5013416a h0 v0 r0 v1 v2 v3 v4 r1 r2 r3 r4 r5 r6 r7 v5 v6 r8 r9 r10 r11 v7 r12 r13 v8 v9 h1 r14 v10 v11 r15 v12 v13 r16 v14 w15 r17 v16 v17 r18 r19 r20 r21 r22 r23 v18 r24 r25 r26 v19 h1 g0 fn3) := hD
  subst hQ
  have e9 : fn3 = (upd f20 (pm_I v21 6) v22) := by subst_vars; rfl
  rw [e9] at hP hD
  have hP9 := hP.sub (ws' := (wd_5013416a h0 v0 r0 v1 v2 v3 v4 r1 r2 r3 r4 r5 r6 r7 v5 v6 r8 r9 r10 r11 v7 r12 r13 v8 v9 h1 r14 v10 v11 r15 v12 v13 r16 v14 w15 r17 v16 v17 r18 r19 r20 r21 r22 r23 v18 r24 r25 r26 v19 h1 g0 (upd f20 (pm_I v21 6) v22))) [0, 1] rfl
  have hD9 := hD.sub (ws' := (wd_5013416a h0 v0 r0 v1 v2 v3 v4 r1 r2 r3 r4 r5 r6 r7 v5 v6 r8 r9 r10 r11 v7 r12 r13 v8 v9 h1 r14 v10 v11 r15 v12 v13 r16 v14 w15 r17 v16 v17 r18 r19 r20 r21 r22 r23 v18 r24 r25 r26 v19 h1 g0 (upd f20 (pm_I v21 6) v22))) [0, 1] (by decide) rfl
  have hK9 := hK.sub (tys' := []) [] rfl
  exact W.vret hx hb hr (fun t ht hW => ⟨⟨(), rfl, trivial, ⟨by rw [ht]; exact hP9, va_K.moved hW.alike hK9, hD9⟩⟩, hS.F ht⟩) hS.2.2 dX12_set_12
def q_X12_set_5 : List Cond := .code yX12_set cX12_set 4 none :: (([.fieldLink RX12 52 "LeftArgumentsModel" "now" "[I"] : List Cond) ++ wsX120)
set_option maxHeartbeats 4000000 in
set_option maxRecDepth 100000 in
theorem k_X12_set_5 (l : Launch) (dC : Nat → ClassId) (dI : Nat → Nat → Nat) (h0 : Nat) (h1 : Nat) (v0 : Int32) (r0 : Nat) (v1 : Int32) (v2 : Int32) (v3 : Int32) (v4 : Int32) (r1 : Nat) (r2 : Nat) (r3 : Nat) (r4 : Nat) (r5 : Nat) (r6 : Nat) (r7 : Nat) (v5 : Int32) (v6 : Int32) (r8 : Nat) (r9 : Nat) (r10 : Nat) (r11 : Nat) (v7 : Int32) (r12 : Nat) (r13 : Nat) (v8 : Int32) (v9 : Int32) (r14 : Nat) (v10 : Int32) (v11 : Int32) (r15 : Nat) (v12 : Int32) (v13 : Int32) (r16 : Nat) (v14 : Int32) (w15 : Int64) (r17 : Nat) (v16 : Int32) (v17 : Int32) (r18 : Nat) (r19 : Nat) (r20 : Nat) (r21 : Nat) (r22 : Nat) (r23 : Nat) (v18 : Int32) (r24 : Nat) (r25 : Nat) (r26 : Nat) (v19 : Int32) (g0 : ClassId) (f20 : Nat → Int32) (v21 : Int32) (v22 : Int32) (i_v1 : 0 ≤ v1.toInt ∧ v1.toInt ≤ 240) (i_v5 : 0 ≤ v5.toInt ∧ v5.toInt ≤ 4) (i_v6 : 0 ≤ v6.toInt ∧ v6.toInt ≤ 4) (i_v7 : 0 ≤ v7.toInt ∧ v7.toInt ≤ 8) (i_v8 : 0 ≤ v8.toInt ∧ v8.toInt ≤ 8) (i_v9 : 0 ≤ v9.toInt ∧ v9.toInt ≤ 1) (i_v10 : -1 ≤ v10.toInt ∧ v10.toInt ≤ 3) (i_v14 : 0 ≤ v14.toInt ∧ v14.toInt ≤ 40) (i_v18 : 0 ≤ v18.toInt ∧ v18.toInt ≤ 10) (i_v19 : 0 ≤ v19.toInt ∧ v19.toInt ≤ 1) (i_v21 : 0 ≤ v21.toInt ∧ v21.toInt ≤ 7) (ia_f20 : (pm_ANY f20)) (sz : Nat) : Met l yX12_set q_X12_set_5 ({ frames := 0, cells := 0, slots := 0, locals := 0 }) (va_Pc [.ref h0, .int v21, .int 5, .int v22] (fun U => U.heap.size = sz ∧ va_P (dC, dI) vwCl (wd_5013416a h0 v0 r0 v1 v2 v3 v4 r1 r2 r3 r4 r5 r6 r7 v5 v6 r8 r9 r10 r11 v7 r12 r13 v8 v9 h1 r14 v10 v11 r15 v12 v13 r16 v14 w15 r17 v16 v17 r18 r19 r20 r21 r22 r23 v18 r24 r25 r26 v19 h1 g0 f20) U.heap ∧ va_K (dC, dI) vwCl [(g0, .int)] U ∧ va_D (fun _ => True) (wd_5013416a h0 v0 r0 v1 v2 v3 v4 r1 r2 r3 r4 r5 r6 r7 v5 v6 r8 r9 r10 r11 v7 r12 r13 v8 v9 h1 r14 v10 v11 r15 v12 v13 r16 v14 w15 r17 v16 v17 r18 r19 r20 r21 r22 r23 v18 r24 r25 r26 v19 h1 g0 f20))) (va_Qv (fun (_ : Unit) => True) (fun (_ : Unit) (t : State) => (va_P (dC, dI) vwCl (wd_5013416a h0 v0 r0 v1 v2 v3 v4 r1 r2 r3 r4 r5 r6 r7 v5 v6 r8 r9 r10 r11 v7 r12 r13 v8 v9 h1 r14 v10 v11 r15 v12 v13 r16 v14 w15 r17 v16 v17 r18 r19 r20 r21 r22 r23 v18 r24 r25 r26 v19 h1 g0 (upd f20 (pm_I v21 5) v22)) t.heap ∧ va_K (dC, dI) vwCl [] t ∧ va_D (va_A (wd_5013416a h0 v0 r0 v1 v2 v3 v4 r1 r2 r3 r4 r5 r6 r7 v5 v6 r8 r9 r10 r11 v7 r12 r13 v8 v9 h1 r14 v10 v11 r15 v12 v13 r16 v14 w15 r17 v16 v17 r18 r19 r20 r21 r22 r23 v18 r24 r25 r26 v19 h1 g0 f20) sz) (wd_5013416a h0 v0 r0 v1 v2 v3 v4 r1 r2 r3 r4 r5 r6 r7 v5 v6 r8 r9 r10 r11 v7 r12 r13 v8 v9 h1 r14 v10 v11 r15 v12 v13 r16 v14 w15 r17 v16 v17 r18 r19 r20 r21 r22 r23 v18 r24 r25 r26 v19 h1 g0 (upd f20 (pm_I v21 5) v22)))) (va_A (wd_5013416a h0 v0 r0 v1 v2 v3 v4 r1 r2 r3 r4 r5 r6 r7 v5 v6 r8 r9 r10 r11 v7 r12 r13 v8 v9 h1 r14 v10 v11 r15 v12 v13 r16 v14 w15 r17 v16 v17 r18 r19 r20 r21 r22 r23 v18 r24 r25 r26 v19 h1 g0 f20) sz)) 0 0 (va_A (wd_5013416a h0 v0 r0 v1 v2 v3 v4 r1 r2 r3 r4 r5 r6 r7 v5 v6 r8 r9 r10 r11 v7 r12 r13 v8 v9 h1 r14 v10 v11 r15 v12 v13 r16 v14 w15 r17 v16 v17 r18 r19 r20 r21 r22 r23 v18 r24 r25 r26 v19 h1 g0 f20) sz) := by
  refine Met.ofW (cc := cX12_set) (maxL := 4) (ret := none) (by decide) rfl ?_
  intro p e s m args below meth c s₁ B hml hv
  obtain ⟨i_v1a, i_v1b⟩ := i_v1
  obtain ⟨i_v5a, i_v5b⟩ := i_v5
  obtain ⟨i_v6a, i_v6b⟩ := i_v6
  obtain ⟨i_v7a, i_v7b⟩ := i_v7
  obtain ⟨i_v8a, i_v8b⟩ := i_v8
  obtain ⟨i_v9a, i_v9b⟩ := i_v9
  obtain ⟨i_v10a, i_v10b⟩ := i_v10
  obtain ⟨i_v14a, i_v14b⟩ := i_v14
  obtain ⟨i_v18a, i_v18b⟩ := i_v18
  obtain ⟨i_v19a, i_v19b⟩ := i_v19
  obtain ⟨i_v21a, i_v21b⟩ := i_v21
  obtain ⟨rfl, hsz, hP, hK, hD0⟩ := hv
  have hx := B.exec
  have hb := B.bytes
  have hr := B.returns
  have hts := atoms_spec (ws := q_X12_set_5) B.pre
  have hown : s.vm.findClass RX12 = some m.cls := findClass_of_methodNamed B.named
  have hlocks := B.notSynchronized
  subst hsz
  have hD := hD0.self (sz := s.heap.size)
  generalize hAe : va_A (wd_5013416a h0 v0 r0 v1 v2 v3 v4 r1 r2 r3 r4 r5 r6 r7 v5 v6 r8 r9 r10 r11 v7 r12 r13 v8 v9 h1 r14 v10 v11 r15 v12 v13 r16 v14 w15 r17 v16 v17 r18 r19 r20 r21 r22 r23 v18 r24 r25 r26 v19 h1 g0 f20) s.heap.size = A at hD ⊢
  have hA : ∀ q : Nat, s.heap.size ≤ q → A q := fun q h => by rw [← hAe]; exact Or.inr h
  have hS : va_S A s.heap s.heap [] := va_S.rf
  generalize hQ : (MQ below _ _ s 0 0 A) = Q
  have hl := lv_entry ([.ref h0, .int v21, .int 5, .int v22]) (n := 4) (Nat.le_of_ble_eq_true rfl)
  rw [lg_entry_eq]
  generalize (lg_sl ([.ref h0, .int v21, .int 5, .int v22]) ++ List.replicate (4 - (lg_sl ([.ref h0, .int v21, .int 5, .int v22])).length) Slot.unset).toArray = ls at hl ⊢
  have hl : lv_has ls 4 [(0, .ref h0), (1, .int v21), (2, .int 5), (3, .int v22)] := hl
  obtain ⟨H, hH⟩ : ∃ H : Heap, H = s.heap := ⟨_, rfl⟩
  obtain ⟨locs, hlocs⟩ : ∃ y : List Loc, y = [] := ⟨_, rfl⟩
  have hS : va_S A s.heap H locs := by rw [hH, hlocs]; exact va_S.rf
  have hP : va_P (dC, dI) vwCl (wd_5013416a h0 v0 r0 v1 v2 v3 v4 r1 r2 r3 r4 r5 r6 r7 v5 v6 r8 r9 r10 r11 v7 r12 r13 v8 v9 h1 r14 v10 v11 r15 v12 v13 r16 v14 w15 r17 v16 v17 r18 r19 r20 r21 r22 r23 v18 r24 r25 r26 v19 h1 g0 f20) H := by rw [hH]; exact hP
  rw [← hH, ← hlocs]
  refine lv_aload_n hx hb dX12_set_0 rfl (lv_at hl 0 rfl) ?_
  refine va_get (D := (dC, dI)) (ci := 12) (v := .ref h1) (C := RX12) (T := TX12) (N := 48) hx hb hts (fun _ h => List.mem_cons_of_mem _ (List.mem_append_right _ h)) hown hK hP 0 rfl rfl 24 (by decide) (hts (.fieldLink RX12 52 "LeftArgumentsModel" "now" "[I") (List.mem_cons_of_mem _ (List.mem_append_left _ (List.mem_of_getElem? (i := 0) rfl)))) (fun _ h9 => h9) rfl dX12_set_1 ?_
  refine lv_bipush (v := 8) hx hb dX12_set_4 (by decide) ?_
  refine lv_iload_n hx hb dX12_set_6 rfl (lv_at hl 1 rfl) ?_
  refine lv_imul hx hb dX12_set_7 ?_
  refine lv_topi (fun t1 et1 => ?_)
  have gt1 : t1.toInt = 8 * v21.toInt := pv_mul (a := 8) (b := v21.toInt) et1 (by decide) rfl (by omega) (by omega)
  refine lv_iload_n hx hb dX12_set_8 rfl (lv_at hl 2 rfl) ?_
  refine lv_iadd hx hb dX12_set_9 ?_
  refine lv_topi (fun t2 et2 => ?_)
  have gt2 : t2.toInt = t1.toInt + 5 := pv_add (a := t1.toInt) (b := 5) et2 rfl (by decide) (by omega) (by omega)
  refine lv_iload_n hx hb dX12_set_10 rfl (lv_at hl 3 rfl) ?_
  refine va_iast hx hb hK hP hD hS 1 0 rfl rfl (vp_in_iff.mpr ⟨by omega, by omega⟩) dX12_set_11 (fun H locs hP hD hS => ?_)
  obtain ⟨fn3, efn3⟩ : ∃ g : Nat → Int32, g = upd f20 (Int32.toNatClampNeg t2) v22 := ⟨_, rfl⟩
  rw [← efn3] at hP hD
  have ia_fn3 : pm_ANY fn3 := trivial
  have hP : va_P (dC, dI) vwCl (wd_5013416a h0 v0 r0 v1 v2 v3 v4 r1 r2 r3 r4 r5 r6 r7 v5 v6 r8 r9 r10 r11 v7 r12 r13 v8 v9 h1 r14 v10 v11 r15 v12 v13 r16 v14 w15 r17 v16 v17 r18 r19 r20 r21 r22 r23 v18 r24 r25 r26 v19 h1 g0 fn3) H := hP
  have hD : va_D A (wd_5013416a h0 v0 r0 v1 v2 v3 v4 r1 r2 r3 r4 r5 r6 r7 v5 v6 r8 r9 r10 r11 v7 r12 r13 v8 v9 h1 r14 v10 v11 r15 v12 v13 r16 v14 w15 r17 v16 v17 r18 r19 r20 r21 r22 r23 v18 r24 r25 r26 v19 h1 g0 fn3) := hD
  subst hQ
  have e9 : fn3 = (upd f20 (pm_I v21 5) v22) := by subst_vars; rfl
  rw [e9] at hP hD
  have hP9 := hP.sub (ws' := (wd_5013416a h0 v0 r0 v1 v2 v3 v4 r1 r2 r3 r4 r5 r6 r7 v5 v6 r8 r9 r10 r11 v7 r12 r13 v8 v9 h1 r14 v10 v11 r15 v12 v13 r16 v14 w15 r17 v16 v17 r18 r19 r20 r21 r22 r23 v18 r24 r25 r26 v19 h1 g0 (upd f20 (pm_I v21 5) v22))) [0, 1] rfl
  have hD9 := hD.sub (ws' := (wd_5013416a h0 v0 r0 v1 v2 v3 v4 r1 r2 r3 r4 r5 r6 r7 v5 v6 r8 r9 r10 r11 v7 r12 r13 v8 v9 h1 r14 v10 v11 r15 v12 v13 r16 v14 w15 r17 v16 v17 r18 r19 r20 r21 r22 r23 v18 r24 r25 r26 v19 h1 g0 (upd f20 (pm_I v21 5) v22))) [0, 1] (by decide) rfl
  have hK9 := hK.sub (tys' := []) [] rfl
  exact W.vret hx hb hr (fun t ht hW => ⟨⟨(), rfl, trivial, ⟨by rw [ht]; exact hP9, va_K.moved hW.alike hK9, hD9⟩⟩, hS.F ht⟩) hS.2.2 dX12_set_12
def q_X12_live : List Cond := .code yX12_live cX12_live 2 none :: (([.code yX12_growAll cX12_growAll 2 none, .code yX12_isThere cX12_isThere 2 (some .boolean), .code yX12_in cX12_in 3 (some .boolean), .initialized RX12, .static yX12_in, .methodLink RX12 217 yX12_in, .code yX12_of cX12_of 3 (some .int), .fieldLink RX12 52 "LeftArgumentsModel" "now" "[I", .instanceMethod yX12_of, .selects RX12 yX12_of yX12_of, .methodLink RX12 287 yX12_of, .instanceMethod yX12_isThere, .selects RX12 yX12_isThere yX12_isThere, .methodLink RX12 290 yX12_isThere, .fieldLink RX12 65 "LeftArgumentsModel" "grows" "[I", .methodLink RX12 299 Lib.Math.min.name, .static Lib.Math.min.name, .initialized "java/lang/Math", .code Lib.Math.min.name Lib.Math.min.code 2 (some .int), .methodLink RX12 301 Lib.Math.max.name, .static Lib.Math.max.name, .code Lib.Math.max.name Lib.Math.max.code 2 (some .int), .code yX12_set cX12_set 4 none, .instanceMethod yX12_set, .selects RX12 yX12_set yX12_set, .methodLink RX12 258 yX12_set, .code yX12_growthOf cX12_growthOf 4 (some .int), .code yX12_withOf cX12_withOf 4 (some .int), .instanceMethod yX12_withOf, .selects RX12 yX12_withOf yX12_withOf, .methodLink RX12 293 yX12_withOf, .fieldLink RX12 58 "LeftArgumentsModel" "holding" "I", .fieldLink RX12 34 "LeftArgumentsModel" "letters" "[I", .code yX12_worthOf cX12_worthOf 3 (some .int), .fieldLink RX12 22 "LeftArgumentsModel" "clauses" "[I", .fieldLink RX12 25 "LeftArgumentsModel" "testFrom" "[I", .fieldLink RX12 28 "LeftArgumentsModel" "sumFrom" "[I", .fieldLink RX12 31 "LeftArgumentsModel" "sumTo" "[I", .code yX12_workOut cX12_workOut 6 (some .int), .fieldLink RX12 37 "LeftArgumentsModel" "stack" "[I", .fieldLink RX12 13 "LeftArgumentsModel" "code" "[I", .fieldLink RX12 16 "LeftArgumentsModel" "value" "[I", .code yX12_worked cX12_worked 5 (some .int), .code yX12_bounded cX12_bounded 2 (some .int), .constantLong RX12 192 (-1000000), .constantLong RX12 194 (1000000), .methodLink RX12 196 Lib.MathLoose.min_long.x, .static Lib.MathLoose.min_long.x, .code Lib.MathLoose.min_long.x Lib.MathLoose.min_long.code 4 (some .long), .methodLink RX12 202 Lib.MathLoose.max_long.x, .static Lib.MathLoose.max_long.x, .code Lib.MathLoose.max_long.x Lib.MathLoose.max_long.code 4 (some .long), .static yX12_bounded, .methodLink RX12 205 yX12_bounded, .static yX12_worked, .methodLink RX12 209 yX12_worked, .instanceMethod yX12_workOut, .selects RX12 yX12_workOut yX12_workOut, .methodLink RX12 213 yX12_workOut, .instanceMethod yX12_worthOf, .selects RX12 yX12_worthOf yX12_worthOf, .methodLink RX12 296 yX12_worthOf, .instanceMethod yX12_growthOf, .selects RX12 yX12_growthOf yX12_growthOf, .methodLink RX12 303 yX12_growthOf, .instanceMethod yX12_growAll, .selects RX12 yX12_growAll yX12_growAll, .methodLink RX12 318 yX12_growAll, .code yX12_endAll cX12_endAll 2 none, .fieldLink RX12 306 "LeftArgumentsModel" "ended" "I", .instanceMethod yX12_endAll, .selects RX12 yX12_endAll yX12_endAll, .methodLink RX12 321 yX12_endAll, .code yX12_dropAll cX12_dropAll 3 none, .fieldLink RX12 309 "LeftArgumentsModel" "fell" "I", .fieldLink RX12 46 "LeftArgumentsModel" "rule" "[I", .code yX12_loadOf cX12_loadOf 4 (some .int), .instanceMethod yX12_loadOf, .selects RX12 yX12_loadOf yX12_loadOf, .methodLink RX12 312 yX12_loadOf, .code yX12_largestOn cX12_largestOn 4 (some .int), .instanceMethod yX12_largestOn, .selects RX12 yX12_largestOn yX12_largestOn, .methodLink RX12 315 yX12_largestOn, .instanceMethod yX12_dropAll, .selects RX12 yX12_dropAll yX12_dropAll, .methodLink RX12 324 yX12_dropAll] : List Cond) ++ wsX120)
set_option maxRecDepth 20000 in
theorem g_X12_live_0 : GoodIn q_X12_live (wsV RX12 318 RX12 yX12_growAll q_X12_growAll) := goodIn_app (goodIn_r _ [68, 66, 67, 4] rfl (by decide +kernel)) (goodIn_ca (goodIn_r (.code yX12_growAll cX12_growAll 2 none :: [.code yX12_isThere cX12_isThere 2 (some .boolean), .code yX12_in cX12_in 3 (some .boolean), .initialized RX12, .static yX12_in, .methodLink RX12 217 yX12_in, .code yX12_of cX12_of 3 (some .int), .fieldLink RX12 52 "LeftArgumentsModel" "now" "[I", .instanceMethod yX12_of, .selects RX12 yX12_of yX12_of, .methodLink RX12 287 yX12_of, .instanceMethod yX12_isThere, .selects RX12 yX12_isThere yX12_isThere, .methodLink RX12 290 yX12_isThere, .fieldLink RX12 65 "LeftArgumentsModel" "grows" "[I", .methodLink RX12 299 Lib.Math.min.name, .static Lib.Math.min.name, .initialized "java/lang/Math", .code Lib.Math.min.name Lib.Math.min.code 2 (some .int), .methodLink RX12 301 Lib.Math.max.name, .static Lib.Math.max.name, .code Lib.Math.max.name Lib.Math.max.code 2 (some .int), .code yX12_set cX12_set 4 none, .instanceMethod yX12_set, .selects RX12 yX12_set yX12_set, .methodLink RX12 258 yX12_set, .code yX12_growthOf cX12_growthOf 4 (some .int), .code yX12_withOf cX12_withOf 4 (some .int), .instanceMethod yX12_withOf, .selects RX12 yX12_withOf yX12_withOf, .methodLink RX12 293 yX12_withOf, .fieldLink RX12 58 "LeftArgumentsModel" "holding" "I", .fieldLink RX12 34 "LeftArgumentsModel" "letters" "[I", .code yX12_worthOf cX12_worthOf 3 (some .int), .fieldLink RX12 22 "LeftArgumentsModel" "clauses" "[I", .fieldLink RX12 25 "LeftArgumentsModel" "testFrom" "[I", .fieldLink RX12 28 "LeftArgumentsModel" "sumFrom" "[I", .fieldLink RX12 31 "LeftArgumentsModel" "sumTo" "[I", .code yX12_workOut cX12_workOut 6 (some .int), .fieldLink RX12 37 "LeftArgumentsModel" "stack" "[I", .fieldLink RX12 13 "LeftArgumentsModel" "code" "[I", .fieldLink RX12 16 "LeftArgumentsModel" "value" "[I", .code yX12_worked cX12_worked 5 (some .int), .code yX12_bounded cX12_bounded 2 (some .int), .constantLong RX12 192 (-1000000), .constantLong RX12 194 (1000000), .methodLink RX12 196 Lib.MathLoose.min_long.x, .static Lib.MathLoose.min_long.x, .code Lib.MathLoose.min_long.x Lib.MathLoose.min_long.code 4 (some .long), .methodLink RX12 202 Lib.MathLoose.max_long.x, .static Lib.MathLoose.max_long.x, .code Lib.MathLoose.max_long.x Lib.MathLoose.max_long.code 4 (some .long), .static yX12_bounded, .methodLink RX12 205 yX12_bounded, .static yX12_worked, .methodLink RX12 209 yX12_worked, .instanceMethod yX12_workOut, .selects RX12 yX12_workOut yX12_workOut, .methodLink RX12 213 yX12_workOut, .instanceMethod yX12_worthOf, .selects RX12 yX12_worthOf yX12_worthOf, .methodLink RX12 296 yX12_worthOf, .instanceMethod yX12_growthOf, .selects RX12 yX12_growthOf yX12_growthOf, .methodLink RX12 303 yX12_growthOf]) [1, 2, 3, 4, 5, 6, 7, 8, 9, 10, 11, 12, 13, 14, 15, 16, 17, 18, 19, 20, 21, 22, 23, 24, 25, 26, 27, 28, 29, 30, 31, 32, 33, 34, 35, 36, 37, 38, 39, 40, 41, 42, 43, 44, 45, 46, 47, 48, 49, 50, 51, 52, 53, 54, 55, 56, 57, 58, 59, 60, 61, 62, 63, 64, 65] rfl (by decide +kernel)) (goodIn_sub (fun _ h => List.mem_cons_of_mem _ (List.mem_append_right _ h)) gwX12))
set_option maxRecDepth 20000 in
theorem g_X12_live_1 : GoodIn q_X12_live (wsV RX12 321 RX12 yX12_endAll q_X12_endAll) := goodIn_app (goodIn_r _ [73, 71, 72, 4] rfl (by decide +kernel)) (goodIn_ca (goodIn_r (.code yX12_endAll cX12_endAll 2 none :: [.fieldLink RX12 306 "LeftArgumentsModel" "ended" "I", .code yX12_isThere cX12_isThere 2 (some .boolean), .code yX12_in cX12_in 3 (some .boolean), .initialized RX12, .static yX12_in, .methodLink RX12 217 yX12_in, .code yX12_of cX12_of 3 (some .int), .fieldLink RX12 52 "LeftArgumentsModel" "now" "[I", .instanceMethod yX12_of, .selects RX12 yX12_of yX12_of, .methodLink RX12 287 yX12_of, .instanceMethod yX12_isThere, .selects RX12 yX12_isThere yX12_isThere, .methodLink RX12 290 yX12_isThere, .code yX12_set cX12_set 4 none, .instanceMethod yX12_set, .selects RX12 yX12_set yX12_set, .methodLink RX12 258 yX12_set]) [69, 70, 2, 3, 4, 5, 6, 7, 8, 9, 10, 11, 12, 13, 14, 23, 24, 25, 26] rfl (by decide +kernel)) (goodIn_sub (fun _ h => List.mem_cons_of_mem _ (List.mem_append_right _ h)) gwX12))
set_option maxRecDepth 20000 in
theorem g_X12_live_2 : GoodIn q_X12_live (wsV RX12 324 RX12 yX12_dropAll q_X12_dropAll) := goodIn_app (goodIn_r _ [87, 85, 86, 4] rfl (by decide +kernel)) (goodIn_ca (goodIn_r (.code yX12_dropAll cX12_dropAll 3 none :: [.fieldLink RX12 309 "LeftArgumentsModel" "fell" "I", .fieldLink RX12 46 "LeftArgumentsModel" "rule" "[I", .code yX12_loadOf cX12_loadOf 4 (some .int), .code yX12_isThere cX12_isThere 2 (some .boolean), .code yX12_in cX12_in 3 (some .boolean), .initialized RX12, .static yX12_in, .methodLink RX12 217 yX12_in, .code yX12_of cX12_of 3 (some .int), .fieldLink RX12 52 "LeftArgumentsModel" "now" "[I", .instanceMethod yX12_of, .selects RX12 yX12_of yX12_of, .methodLink RX12 287 yX12_of, .instanceMethod yX12_isThere, .selects RX12 yX12_isThere yX12_isThere, .methodLink RX12 290 yX12_isThere, .instanceMethod yX12_loadOf, .selects RX12 yX12_loadOf yX12_loadOf, .methodLink RX12 312 yX12_loadOf, .code yX12_largestOn cX12_largestOn 4 (some .int), .instanceMethod yX12_largestOn, .selects RX12 yX12_largestOn yX12_largestOn, .methodLink RX12 315 yX12_largestOn, .code yX12_set cX12_set 4 none, .instanceMethod yX12_set, .selects RX12 yX12_set yX12_set, .methodLink RX12 258 yX12_set]) [74, 75, 76, 77, 2, 3, 4, 5, 6, 7, 8, 9, 10, 11, 12, 13, 14, 78, 79, 80, 81, 82, 83, 84, 23, 24, 25, 26] rfl (by decide +kernel)) (goodIn_sub (fun _ h => List.mem_cons_of_mem _ (List.mem_append_right _ h)) gwX12))
set_option maxRecDepth 20000 in
theorem g_X12_live_3 : GoodIn q_X12_live (wsV RX12 258 RX12 yX12_set q_X12_set_4) := goodIn_app (goodIn_r _ [26, 24, 25, 4] rfl (by decide +kernel)) (goodIn_ca (goodIn_r (.code yX12_set cX12_set 4 none :: [.fieldLink RX12 52 "LeftArgumentsModel" "now" "[I"]) [23, 8] rfl (by decide +kernel)) (goodIn_sub (fun _ h => List.mem_cons_of_mem _ (List.mem_append_right _ h)) gwX12))
set_option maxRecDepth 20000 in
theorem g_X12_live_4 : GoodIn q_X12_live (wsV RX12 287 RX12 yX12_of q_X12_of_5) := goodIn_app (goodIn_r _ [11, 9, 10, 4] rfl (by decide +kernel)) (goodIn_ca (goodIn_r (.code yX12_of cX12_of 3 (some .int) :: [.fieldLink RX12 52 "LeftArgumentsModel" "now" "[I"]) [7, 8] rfl (by decide +kernel)) (goodIn_sub (fun _ h => List.mem_cons_of_mem _ (List.mem_append_right _ h)) gwX12))
set_option maxRecDepth 20000 in
theorem g_X12_live_5 : GoodIn q_X12_live (wsV RX12 258 RX12 yX12_set q_X12_set_5) := goodIn_app (goodIn_r _ [26, 24, 25, 4] rfl (by decide +kernel)) (goodIn_ca (goodIn_r (.code yX12_set cX12_set 4 none :: [.fieldLink RX12 52 "LeftArgumentsModel" "now" "[I"]) [23, 8] rfl (by decide +kernel)) (goodIn_sub (fun _ h => List.mem_cons_of_mem _ (List.mem_append_right _ h)) gwX12))
set_option maxHeartbeats 4000000 in
set_option maxRecDepth 100000 in
theorem k_X12_live (l : Launch) (dC : Nat → ClassId) (dI : Nat → Nat → Nat) (h0 : Nat) (h1 : Nat) (h2 : Nat) (h3 : Nat) (h4 : Nat) (h5 : Nat) (h6 : Nat) (h7 : Nat) (h8 : Nat) (h9 : Nat) (h10 : Nat) (h11 : Nat) (v0 : Int32) (r0 : Nat) (v1 : Int32) (v2 : Int32) (v3 : Int32) (v4 : Int32) (r1 : Nat) (v5 : Int32) (v6 : Int32) (r2 : Nat) (r3 : Nat) (v7 : Int32) (r4 : Nat) (v8 : Int32) (v9 : Int32) (r5 : Nat) (v10 : Int32) (v11 : Int32) (v12 : Int32) (v13 : Int32) (r6 : Nat) (v14 : Int32) (w15 : Int64) (r7 : Nat) (v16 : Int32) (v17 : Int32) (r8 : Nat) (r9 : Nat) (r10 : Nat) (r11 : Nat) (r12 : Nat) (r13 : Nat) (v18 : Int32) (r14 : Nat) (r15 : Nat) (r16 : Nat) (v19 : Int32) (g0 : ClassId) (f20 : Nat → Int32) (g1 : ClassId) (f21 : Nat → Int32) (g2 : ClassId) (f22 : Nat → Int32) (g3 : ClassId) (f23 : Nat → Int32) (g4 : ClassId) (f24 : Nat → Int32) (g5 : ClassId) (f25 : Nat → Int32) (g6 : ClassId) (f26 : Nat → Int32) (g7 : ClassId) (f27 : Nat → Int32) (g8 : ClassId) (f28 : Nat → Int32) (g9 : ClassId) (f29 : Nat → Int32) (g10 : ClassId) (f30 : Nat → Int32) (i_v1 : 0 ≤ v1.toInt ∧ v1.toInt ≤ 240) (i_v5 : 0 ≤ v5.toInt ∧ v5.toInt ≤ 4) (i_v6 : 0 ≤ v6.toInt ∧ v6.toInt ≤ 4) (i_v7 : 0 ≤ v7.toInt ∧ v7.toInt ≤ 8) (i_v8 : 0 ≤ v8.toInt ∧ v8.toInt ≤ 8) (i_v9 : 0 ≤ v9.toInt ∧ v9.toInt ≤ 1) (i_v10 : -1 ≤ v10.toInt ∧ v10.toInt ≤ 3) (i_v14 : 0 ≤ v14.toInt ∧ v14.toInt ≤ 40) (i_v18 : 0 ≤ v18.toInt ∧ v18.toInt ≤ 10) (i_v19 : 0 ≤ v19.toInt ∧ v19.toInt ≤ 1) (ia_f28 : (pm_RU f28)) (ia_f29 : (pm_NW0 f29)) (pp0 : pm_Held v10 f20 f21 f22 f23 f24 f25) (sz : Nat) : Met l yX12_live q_X12_live ({ frames := 7, cells := 0, slots := 0, locals := 153 }) (va_Pc [.ref h0] (fun U => U.heap.size = sz ∧ va_P (dC, dI) vwCl (wd_935d8763 h0 v0 r0 v1 v2 v3 v4 h1 h2 r1 h3 h4 h5 h6 v5 v6 h7 h8 r2 r3 v7 h9 r4 v8 v9 h10 r5 v10 v11 h11 v12 v13 r6 v14 w15 r7 v16 v17 r8 r9 r10 r11 r12 r13 v18 r14 r15 r16 v19 h1 g0 f20 h2 g1 f21 h3 g2 f22 h4 g3 f23 h5 g4 f24 h6 g5 f25 h7 g6 f26 h8 g7 f27 h9 g8 f28 h10 g9 f29 h11 g10 f30) U.heap ∧ va_K (dC, dI) vwCl [(g0, .int), (g1, .int), (g2, .int), (g3, .int), (g4, .int), (g5, .int), (g6, .int), (g7, .int), (g8, .int), (g9, .int), (g10, .int)] U ∧ va_D (fun _ => True) (wd_935d8763 h0 v0 r0 v1 v2 v3 v4 h1 h2 r1 h3 h4 h5 h6 v5 v6 h7 h8 r2 r3 v7 h9 r4 v8 v9 h10 r5 v10 v11 h11 v12 v13 r6 v14 w15 r7 v16 v17 r8 r9 r10 r11 r12 r13 v18 r14 r15 r16 v19 h1 g0 f20 h2 g1 f21 h3 g2 f22 h4 g3 f23 h5 g4 f24 h6 g5 f25 h7 g6 f26 h8 g7 f27 h9 g8 f28 h10 g9 f29 h11 g10 f30))) (va_Qv (fun (_ : Unit) => True) (fun (_ : Unit) (t : State) => (∃ (o_h0_29 : Int32) (o_h0_30 : Int32) (o_h7 : Nat → Int32) (o_h8 : Nat → Int32) (o_h10 : Nat → Int32) (o_h11 : Nat → Int32), (pm_NW o_h10) ∧ va_P (dC, dI) vwCl (wd_935d8763 h0 v0 r0 v1 v2 v3 v4 h1 h2 r1 h3 h4 h5 h6 v5 v6 h7 h8 r2 r3 v7 h9 r4 v8 v9 h10 r5 v10 v11 h11 o_h0_29 o_h0_30 r6 v14 w15 r7 v16 v17 r8 r9 r10 r11 r12 r13 v18 r14 r15 r16 v19 h1 g0 f20 h2 g1 f21 h3 g2 f22 h4 g3 f23 h5 g4 f24 h6 g5 f25 h7 g6 o_h7 h8 g7 o_h8 h9 g8 f28 h10 g9 o_h10 h11 g10 o_h11) t.heap ∧ va_K (dC, dI) vwCl [] t ∧ va_D (va_A (wd_935d8763 h0 v0 r0 v1 v2 v3 v4 h1 h2 r1 h3 h4 h5 h6 v5 v6 h7 h8 r2 r3 v7 h9 r4 v8 v9 h10 r5 v10 v11 h11 v12 v13 r6 v14 w15 r7 v16 v17 r8 r9 r10 r11 r12 r13 v18 r14 r15 r16 v19 h1 g0 f20 h2 g1 f21 h3 g2 f22 h4 g3 f23 h5 g4 f24 h6 g5 f25 h7 g6 f26 h8 g7 f27 h9 g8 f28 h10 g9 f29 h11 g10 f30) sz) (wd_935d8763 h0 v0 r0 v1 v2 v3 v4 h1 h2 r1 h3 h4 h5 h6 v5 v6 h7 h8 r2 r3 v7 h9 r4 v8 v9 h10 r5 v10 v11 h11 o_h0_29 o_h0_30 r6 v14 w15 r7 v16 v17 r8 r9 r10 r11 r12 r13 v18 r14 r15 r16 v19 h1 g0 f20 h2 g1 f21 h3 g2 f22 h4 g3 f23 h5 g4 f24 h6 g5 f25 h7 g6 o_h7 h8 g7 o_h8 h9 g8 f28 h10 g9 o_h10 h11 g10 o_h11))) (va_A (wd_935d8763 h0 v0 r0 v1 v2 v3 v4 h1 h2 r1 h3 h4 h5 h6 v5 v6 h7 h8 r2 r3 v7 h9 r4 v8 v9 h10 r5 v10 v11 h11 v12 v13 r6 v14 w15 r7 v16 v17 r8 r9 r10 r11 r12 r13 v18 r14 r15 r16 v19 h1 g0 f20 h2 g1 f21 h3 g2 f22 h4 g3 f23 h5 g4 f24 h6 g5 f25 h7 g6 f26 h8 g7 f27 h9 g8 f28 h10 g9 f29 h11 g10 f30) sz)) 0 0 (va_A (wd_935d8763 h0 v0 r0 v1 v2 v3 v4 h1 h2 r1 h3 h4 h5 h6 v5 v6 h7 h8 r2 r3 v7 h9 r4 v8 v9 h10 r5 v10 v11 h11 v12 v13 r6 v14 w15 r7 v16 v17 r8 r9 r10 r11 r12 r13 v18 r14 r15 r16 v19 h1 g0 f20 h2 g1 f21 h3 g2 f22 h4 g3 f23 h5 g4 f24 h6 g5 f25 h7 g6 f26 h8 g7 f27 h9 g8 f28 h10 g9 f29 h11 g10 f30) sz) := by
  refine Met.ofW (cc := cX12_live) (maxL := 2) (ret := none) (by decide) rfl ?_
  intro p e s m args below meth c s₁ B hml hv
  obtain ⟨i_v1a, i_v1b⟩ := i_v1
  obtain ⟨i_v5a, i_v5b⟩ := i_v5
  obtain ⟨i_v6a, i_v6b⟩ := i_v6
  obtain ⟨i_v7a, i_v7b⟩ := i_v7
  obtain ⟨i_v8a, i_v8b⟩ := i_v8
  obtain ⟨i_v9a, i_v9b⟩ := i_v9
  obtain ⟨i_v10a, i_v10b⟩ := i_v10
  obtain ⟨i_v14a, i_v14b⟩ := i_v14
  obtain ⟨i_v18a, i_v18b⟩ := i_v18
  obtain ⟨i_v19a, i_v19b⟩ := i_v19
  obtain ⟨rfl, hsz, hP, hK, hD0⟩ := hv
  have hx := B.exec
  have hb := B.bytes
  have hr := B.returns
  have hts := atoms_spec (ws := q_X12_live) B.pre
  have hown : s.vm.findClass RX12 = some m.cls := findClass_of_methodNamed B.named
  have hlocks := B.notSynchronized
  subst hsz
  have hD := hD0.self (sz := s.heap.size)
  generalize hAe : va_A (wd_935d8763 h0 v0 r0 v1 v2 v3 v4 h1 h2 r1 h3 h4 h5 h6 v5 v6 h7 h8 r2 r3 v7 h9 r4 v8 v9 h10 r5 v10 v11 h11 v12 v13 r6 v14 w15 r7 v16 v17 r8 r9 r10 r11 r12 r13 v18 r14 r15 r16 v19 h1 g0 f20 h2 g1 f21 h3 g2 f22 h4 g3 f23 h5 g4 f24 h6 g5 f25 h7 g6 f26 h8 g7 f27 h9 g8 f28 h10 g9 f29 h11 g10 f30) s.heap.size = A at hD ⊢
  have hA : ∀ q : Nat, s.heap.size ≤ q → A q := fun q h => by rw [← hAe]; exact Or.inr h
  have hS : va_S A s.heap s.heap [] := va_S.rf
  generalize hQ : (MQ below _ _ s 0 0 A) = Q
  have hl := lv_entry ([.ref h0]) (n := 2) (Nat.le_of_ble_eq_true rfl)
  rw [lg_entry_eq]
  generalize (lg_sl ([.ref h0]) ++ List.replicate (2 - (lg_sl ([.ref h0])).length) Slot.unset).toArray = ls at hl ⊢
  have hl : lv_has ls 2 [(0, .ref h0)] := hl
  obtain ⟨H, hH⟩ : ∃ H : Heap, H = s.heap := ⟨_, rfl⟩
  obtain ⟨locs, hlocs⟩ : ∃ y : List Loc, y = [] := ⟨_, rfl⟩
  have hS : va_S A s.heap H locs := by rw [hH, hlocs]; exact va_S.rf
  have hP : va_P (dC, dI) vwCl (wd_935d8763 h0 v0 r0 v1 v2 v3 v4 h1 h2 r1 h3 h4 h5 h6 v5 v6 h7 h8 r2 r3 v7 h9 r4 v8 v9 h10 r5 v10 v11 h11 v12 v13 r6 v14 w15 r7 v16 v17 r8 r9 r10 r11 r12 r13 v18 r14 r15 r16 v19 h1 g0 f20 h2 g1 f21 h3 g2 f22 h4 g3 f23 h5 g4 f24 h6 g5 f25 h7 g6 f26 h8 g7 f27 h9 g8 f28 h10 g9 f29 h11 g10 f30) H := by rw [hH]; exact hP
  rw [← hH, ← hlocs]
  refine lv_aload_n hx hb dX12_live_0 rfl (lv_at hl 0 rfl) ?_
  have hPc := hP.sub (ws' := (wd_12a42595 h0 v0 r0 v1 v2 v3 v4 h1 h2 r1 h3 h4 h5 h6 v5 v6 h7 h8 r2 r3 v7 h9 r4 v8 v9 h10 r5 v10 v11 h11 v12 v13 r6 v14 w15 r7 v16 v17 r8 r9 r10 r11 r12 r13 v18 r14 r15 r16 v19 h1 g0 f20 h2 g1 f21 h3 g2 f22 h4 g3 f23 h5 g4 f24 h6 g5 f25 h7 g6 f26 h8 g7 f27 h10 g9 f29 h11 g10 f30)) [0, 1, 2, 3, 4, 5, 6, 7, 8, 10, 11] rfl
  have hDc := hD.sub (ws' := (wd_12a42595 h0 v0 r0 v1 v2 v3 v4 h1 h2 r1 h3 h4 h5 h6 v5 v6 h7 h8 r2 r3 v7 h9 r4 v8 v9 h10 r5 v10 v11 h11 v12 v13 r6 v14 w15 r7 v16 v17 r8 r9 r10 r11 r12 r13 v18 r14 r15 r16 v19 h1 g0 f20 h2 g1 f21 h3 g2 f22 h4 g3 f23 h5 g4 f24 h6 g5 f25 h7 g6 f26 h8 g7 f27 h10 g9 f29 h11 g10 f30)) [0, 1, 2, 3, 4, 5, 6, 7, 8, 10, 11] (by decide +kernel) rfl
  have hKc := hK.sub (tys' := [(g0, .int), (g1, .int), (g2, .int), (g3, .int), (g4, .int), (g5, .int), (g6, .int), (g7, .int), (g9, .int), (g10, .int)]) [0, 1, 2, 3, 4, 5, 6, 7, 9, 10] rfl
  have hFc := va_free (wc := (wd_12a42595 h0 v0 r0 v1 v2 v3 v4 h1 h2 r1 h3 h4 h5 h6 v5 v6 h7 h8 r2 r3 v7 h9 r4 v8 v9 h10 r5 v10 v11 h11 v12 v13 r6 v14 w15 r7 v16 v17 r8 r9 r10 r11 r12 r13 v18 r14 r15 r16 v19 h1 g0 f20 h2 g1 f21 h3 g2 f22 h4 g3 f23 h5 g4 f24 h6 g5 f25 h7 g6 f26 h8 g7 f27 h10 g9 f29 h11 g10 f30)) hD hS hA [0, 1, 2, 3, 4, 5, 6, 7, 8, 10, 11] rfl
  refine va_callv (va_runV (As := []) (rest := []) ⟨hx, hb, hml, hown, hts⟩ (k_X12_growAll l dC dI h0 h1 h2 h3 h4 h5 h6 h7 h8 h10 h11 v0 r0 v1 v2 v3 v4 r1 v5 v6 r2 r3 v7 h9 r4 v8 v9 r5 v10 v11 v12 v13 r6 v14 w15 r7 v16 v17 r8 r9 r10 r11 r12 r13 v18 r14 r15 r16 v19 g0 f20 g1 f21 g2 f22 g3 f23 g4 f24 g5 f25 g6 f26 g7 f27 g9 f29 g10 f30 ⟨i_v1a, i_v1b⟩ ⟨i_v5a, i_v5b⟩ ⟨i_v6a, i_v6b⟩ ⟨i_v7a, i_v7b⟩ ⟨i_v8a, i_v8b⟩ ⟨i_v9a, i_v9b⟩ ⟨i_v10a, i_v10b⟩ ⟨i_v14a, i_v14b⟩ ⟨i_v18a, i_v18b⟩ ⟨i_v19a, i_v19b⟩ ia_f29 pp0 H.size) (cwV 0 hts g_X12_live_0 rfl rfl rfl (by decide +kernel) ⟨Nat.le_of_ble_eq_true rfl, Nat.le_of_ble_eq_true rfl⟩) (pv_PV12 hPc hKc hDc (q0 := 0) rfl) rfl rfl hl.1 rfl (lv_room (Nat.le_of_ble_eq_true rfl)) dX12_live_1 ⟨Nat.le_of_ble_eq_true rfl, Nat.le_of_ble_eq_true rfl⟩) hS (fun q _ h => hFc q h) hFc (fun u t H1 locs ht hvm hwra1 hB hz1 hk1 hS => ?_)
  obtain ⟨fn2, fn3, fn4, fn5, ia_fn4, hP1, hK1, hD1⟩ := hB
  rw [ht] at hP1
  obtain ⟨hP2, hD2⟩ := va_join (wr := (wd_6f8f3203 h9 g8 f28)) (w1 := (wd_12a42595 h0 v0 r0 v1 v2 v3 v4 h1 h2 r1 h3 h4 h5 h6 v5 v6 h7 h8 r2 r3 v7 h9 r4 v8 v9 h10 r5 v10 v11 h11 v12 v13 r6 v14 w15 r7 v16 v17 r8 r9 r10 r11 r12 r13 v18 r14 r15 r16 v19 h1 g0 f20 h2 g1 f21 h3 g2 f22 h4 g3 f23 h5 g4 f24 h6 g5 f25 h7 g6 fn2 h8 g7 fn3 h10 g9 fn4 h11 g10 fn5)) hP hD [0, 1, 2, 3, 4, 5, 6, 7, 8, 10, 11] [9] rfl rfl (by decide +kernel) (by decide +kernel) hk1 hFc hP1 hD1
  clear hP hD hPc hDc hKc hFc hP1 hK1 hD1 hk1 hz1
  generalize H1 = H at hP2 hS ⊢
  have hP := hP2.sub (ws' := (wd_935d8763 h0 v0 r0 v1 v2 v3 v4 h1 h2 r1 h3 h4 h5 h6 v5 v6 h7 h8 r2 r3 v7 h9 r4 v8 v9 h10 r5 v10 v11 h11 v12 v13 r6 v14 w15 r7 v16 v17 r8 r9 r10 r11 r12 r13 v18 r14 r15 r16 v19 h1 g0 f20 h2 g1 f21 h3 g2 f22 h4 g3 f23 h5 g4 f24 h6 g5 f25 h7 g6 fn2 h8 g7 fn3 h9 g8 f28 h10 g9 fn4 h11 g10 fn5)) [1, 2, 3, 4, 5, 6, 7, 8, 9, 0, 10, 11] rfl
  have hD := hD2.sub (ws' := (wd_935d8763 h0 v0 r0 v1 v2 v3 v4 h1 h2 r1 h3 h4 h5 h6 v5 v6 h7 h8 r2 r3 v7 h9 r4 v8 v9 h10 r5 v10 v11 h11 v12 v13 r6 v14 w15 r7 v16 v17 r8 r9 r10 r11 r12 r13 v18 r14 r15 r16 v19 h1 g0 f20 h2 g1 f21 h3 g2 f22 h4 g3 f23 h5 g4 f24 h6 g5 f25 h7 g6 fn2 h8 g7 fn3 h9 g8 f28 h10 g9 fn4 h11 g10 fn5)) [1, 2, 3, 4, 5, 6, 7, 8, 9, 0, 10, 11] (by decide +kernel) rfl
  clear hP2 hD2
  refine lv_aload_n hx hb dX12_live_4 rfl (lv_at hl 0 rfl) ?_
  have hPc := hP.sub (ws' := (wd_5013416a h0 v0 r0 v1 v2 v3 v4 h1 h2 r1 h3 h4 h5 h6 v5 v6 h7 h8 r2 r3 v7 h9 r4 v8 v9 h10 r5 v10 v11 h11 v12 v13 r6 v14 w15 r7 v16 v17 r8 r9 r10 r11 r12 r13 v18 r14 r15 r16 v19 h10 g9 fn4)) [0, 10] rfl
  have hDc := hD.sub (ws' := (wd_5013416a h0 v0 r0 v1 v2 v3 v4 h1 h2 r1 h3 h4 h5 h6 v5 v6 h7 h8 r2 r3 v7 h9 r4 v8 v9 h10 r5 v10 v11 h11 v12 v13 r6 v14 w15 r7 v16 v17 r8 r9 r10 r11 r12 r13 v18 r14 r15 r16 v19 h10 g9 fn4)) [0, 10] (by decide) rfl
  have hKc := hK.sub (tys' := [(g9, .int)]) [9] rfl
  have hFc := va_free (wc := (wd_5013416a h0 v0 r0 v1 v2 v3 v4 h1 h2 r1 h3 h4 h5 h6 v5 v6 h7 h8 r2 r3 v7 h9 r4 v8 v9 h10 r5 v10 v11 h11 v12 v13 r6 v14 w15 r7 v16 v17 r8 r9 r10 r11 r12 r13 v18 r14 r15 r16 v19 h10 g9 fn4)) hD hS hA [0, 10] rfl
  refine va_callv (va_runV (As := []) (rest := []) ⟨hx, hb, hml, hown, hts⟩ (k_X12_endAll l dC dI h0 h10 v0 r0 v1 v2 v3 v4 h1 h2 r1 h3 h4 h5 h6 v5 v6 h7 h8 r2 r3 v7 h9 r4 v8 v9 r5 v10 v11 h11 v12 v13 r6 v14 w15 r7 v16 v17 r8 r9 r10 r11 r12 r13 v18 r14 r15 r16 v19 g9 fn4 ⟨i_v1a, i_v1b⟩ ⟨i_v5a, i_v5b⟩ ⟨i_v6a, i_v6b⟩ ⟨i_v7a, i_v7b⟩ ⟨i_v8a, i_v8b⟩ ⟨i_v9a, i_v9b⟩ ⟨i_v10a, i_v10b⟩ ⟨i_v14a, i_v14b⟩ ⟨i_v18a, i_v18b⟩ ⟨i_v19a, i_v19b⟩ ia_fn4 H.size) (cwV 0 hts g_X12_live_1 rfl rfl rfl (by decide +kernel) ⟨Nat.le_of_ble_eq_true rfl, Nat.le_of_ble_eq_true rfl⟩) (pv_PV12 hPc hKc hDc (q0 := 0) rfl) rfl rfl hl.1 rfl (lv_room (Nat.le_of_ble_eq_true rfl)) dX12_live_5 ⟨Nat.le_of_ble_eq_true rfl, Nat.le_of_ble_eq_true rfl⟩) hS (fun q _ h => hFc q h) hFc (fun u t H1 locs ht hvm hwra6 hB hz1 hk1 hS => ?_)
  obtain ⟨x7, fn8, ia_fn8, hP1, hK1, hD1⟩ := hB
  rw [ht] at hP1
  obtain ⟨hP2, hD2⟩ := va_join (wr := (wd_4dc6964c h1 g0 f20 h2 g1 f21 h3 g2 f22 h4 g3 f23 h5 g4 f24 h6 g5 f25 h7 g6 fn2 h8 g7 fn3 h9 g8 f28 h11 g10 fn5)) (w1 := (wd_5013416a h0 v0 r0 v1 v2 v3 v4 h1 h2 r1 h3 h4 h5 h6 v5 v6 h7 h8 r2 r3 v7 h9 r4 v8 v9 h10 r5 v10 v11 h11 v12 x7 r6 v14 w15 r7 v16 v17 r8 r9 r10 r11 r12 r13 v18 r14 r15 r16 v19 h10 g9 fn8)) hP hD [0, 10] [1, 2, 3, 4, 5, 6, 7, 8, 9, 11] rfl rfl (by decide +kernel) (by decide +kernel) hk1 hFc hP1 hD1
  clear hP hD hPc hDc hKc hFc hP1 hK1 hD1 hk1 hz1
  generalize H1 = H at hP2 hS ⊢
  have hP := hP2.sub (ws' := (wd_935d8763 h0 v0 r0 v1 v2 v3 v4 h1 h2 r1 h3 h4 h5 h6 v5 v6 h7 h8 r2 r3 v7 h9 r4 v8 v9 h10 r5 v10 v11 h11 v12 x7 r6 v14 w15 r7 v16 v17 r8 r9 r10 r11 r12 r13 v18 r14 r15 r16 v19 h1 g0 f20 h2 g1 f21 h3 g2 f22 h4 g3 f23 h5 g4 f24 h6 g5 f25 h7 g6 fn2 h8 g7 fn3 h9 g8 f28 h10 g9 fn8 h11 g10 fn5)) [10, 0, 1, 2, 3, 4, 5, 6, 7, 8, 11, 9] rfl
  have hD := hD2.sub (ws' := (wd_935d8763 h0 v0 r0 v1 v2 v3 v4 h1 h2 r1 h3 h4 h5 h6 v5 v6 h7 h8 r2 r3 v7 h9 r4 v8 v9 h10 r5 v10 v11 h11 v12 x7 r6 v14 w15 r7 v16 v17 r8 r9 r10 r11 r12 r13 v18 r14 r15 r16 v19 h1 g0 f20 h2 g1 f21 h3 g2 f22 h4 g3 f23 h5 g4 f24 h6 g5 f25 h7 g6 fn2 h8 g7 fn3 h9 g8 f28 h10 g9 fn8 h11 g10 fn5)) [10, 0, 1, 2, 3, 4, 5, 6, 7, 8, 11, 9] (by decide +kernel) rfl
  clear hP2 hD2
  refine lv_aload_n hx hb dX12_live_8 rfl (lv_at hl 0 rfl) ?_
  have hPc := hP.sub (ws' := (wd_78675856 h0 v0 r0 v1 v2 v3 v4 h1 h2 r1 h3 h4 h5 h6 v5 v6 h7 h8 r2 r3 v7 h9 r4 v8 v9 h10 r5 v10 v11 h11 v12 x7 r6 v14 w15 r7 v16 v17 r8 r9 r10 r11 r12 r13 v18 r14 r15 r16 v19 h9 g8 f28 h10 g9 fn8)) [0, 9, 10] rfl
  have hDc := hD.sub (ws' := (wd_78675856 h0 v0 r0 v1 v2 v3 v4 h1 h2 r1 h3 h4 h5 h6 v5 v6 h7 h8 r2 r3 v7 h9 r4 v8 v9 h10 r5 v10 v11 h11 v12 x7 r6 v14 w15 r7 v16 v17 r8 r9 r10 r11 r12 r13 v18 r14 r15 r16 v19 h9 g8 f28 h10 g9 fn8)) [0, 9, 10] (by decide) rfl
  have hKc := hK.sub (tys' := [(g8, .int), (g9, .int)]) [8, 9] rfl
  have hFc := va_free (wc := (wd_78675856 h0 v0 r0 v1 v2 v3 v4 h1 h2 r1 h3 h4 h5 h6 v5 v6 h7 h8 r2 r3 v7 h9 r4 v8 v9 h10 r5 v10 v11 h11 v12 x7 r6 v14 w15 r7 v16 v17 r8 r9 r10 r11 r12 r13 v18 r14 r15 r16 v19 h9 g8 f28 h10 g9 fn8)) hD hS hA [0, 9, 10] rfl
  refine va_callv (va_runV (As := []) (rest := []) ⟨hx, hb, hml, hown, hts⟩ (k_X12_dropAll l dC dI h0 h9 h10 v0 r0 v1 v2 v3 v4 h1 h2 r1 h3 h4 h5 h6 v5 v6 h7 h8 r2 r3 v7 r4 v8 v9 r5 v10 v11 h11 v12 x7 r6 v14 w15 r7 v16 v17 r8 r9 r10 r11 r12 r13 v18 r14 r15 r16 v19 g8 f28 g9 fn8 ⟨i_v1a, i_v1b⟩ ⟨i_v5a, i_v5b⟩ ⟨i_v6a, i_v6b⟩ ⟨i_v7a, i_v7b⟩ ⟨i_v8a, i_v8b⟩ ⟨i_v9a, i_v9b⟩ ⟨i_v10a, i_v10b⟩ ⟨i_v14a, i_v14b⟩ ⟨i_v18a, i_v18b⟩ ⟨i_v19a, i_v19b⟩ ia_f28 ia_fn8 H.size) (cwV 0 hts g_X12_live_2 rfl rfl rfl (by decide +kernel) ⟨Nat.le_of_ble_eq_true rfl, Nat.le_of_ble_eq_true rfl⟩) (pv_PV12 hPc hKc hDc (q0 := 0) rfl) rfl rfl hl.1 rfl (lv_room (Nat.le_of_ble_eq_true rfl)) dX12_live_9 ⟨Nat.le_of_ble_eq_true rfl, Nat.le_of_ble_eq_true rfl⟩) hS (fun q _ h => hFc q h) hFc (fun u t H1 locs ht hvm hwra9 hB hz1 hk1 hS => ?_)
  obtain ⟨x10, fn11, ia_fn11, hP1, hK1, hD1⟩ := hB
  rw [ht] at hP1
  obtain ⟨hP2, hD2⟩ := va_join (wr := (wd_f49777bc h1 g0 f20 h2 g1 f21 h3 g2 f22 h4 g3 f23 h5 g4 f24 h6 g5 f25 h7 g6 fn2 h8 g7 fn3 h11 g10 fn5)) (w1 := (wd_78675856 h0 v0 r0 v1 v2 v3 v4 h1 h2 r1 h3 h4 h5 h6 v5 v6 h7 h8 r2 r3 v7 h9 r4 v8 v9 h10 r5 v10 v11 h11 x10 x7 r6 v14 w15 r7 v16 v17 r8 r9 r10 r11 r12 r13 v18 r14 r15 r16 v19 h9 g8 f28 h10 g9 fn11)) hP hD [0, 9, 10] [1, 2, 3, 4, 5, 6, 7, 8, 11] rfl rfl (by decide +kernel) (by decide +kernel) hk1 hFc hP1 hD1
  clear hP hD hPc hDc hKc hFc hP1 hK1 hD1 hk1 hz1
  generalize H1 = H at hP2 hS ⊢
  have hP := hP2.sub (ws' := (wd_935d8763 h0 v0 r0 v1 v2 v3 v4 h1 h2 r1 h3 h4 h5 h6 v5 v6 h7 h8 r2 r3 v7 h9 r4 v8 v9 h10 r5 v10 v11 h11 x10 x7 r6 v14 w15 r7 v16 v17 r8 r9 r10 r11 r12 r13 v18 r14 r15 r16 v19 h1 g0 f20 h2 g1 f21 h3 g2 f22 h4 g3 f23 h5 g4 f24 h6 g5 f25 h7 g6 fn2 h8 g7 fn3 h9 g8 f28 h10 g9 fn11 h11 g10 fn5)) [9, 0, 1, 2, 3, 4, 5, 6, 7, 10, 11, 8] rfl
  have hD := hD2.sub (ws' := (wd_935d8763 h0 v0 r0 v1 v2 v3 v4 h1 h2 r1 h3 h4 h5 h6 v5 v6 h7 h8 r2 r3 v7 h9 r4 v8 v9 h10 r5 v10 v11 h11 x10 x7 r6 v14 w15 r7 v16 v17 r8 r9 r10 r11 r12 r13 v18 r14 r15 r16 v19 h1 g0 f20 h2 g1 f21 h3 g2 f22 h4 g3 f23 h5 g4 f24 h6 g5 f25 h7 g6 fn2 h8 g7 fn3 h9 g8 f28 h10 g9 fn11 h11 g10 fn5)) [9, 0, 1, 2, 3, 4, 5, 6, 7, 10, 11, 8] (by decide +kernel) rfl
  clear hP2 hD2
  refine lv_iconst (v := 0) hx hb dX12_live_12 (by decide) ?_
  refine lv_istore_n (lv' := [(1, .int 0), (0, .ref h0)]) hx hb dX12_live_13 rfl hl (by decide) rfl (fun ls hl => ?_)
  have hL28 : ∀ (n9 : Nat), ∀ (x24 : Int32) (fn25 : Nat → Int32) (H : Heap) (locs : List Loc) (ls : Array Slot), 0 ≤ x24.toInt → x24.toInt ≤ 8 → (pm_NW fn25) → (8 - x24.toInt).toNat < n9 → va_P (dC, dI) vwCl (wd_935d8763 h0 v0 r0 v1 v2 v3 v4 h1 h2 r1 h3 h4 h5 h6 v5 v6 h7 h8 r2 r3 v7 h9 r4 v8 v9 h10 r5 v10 v11 h11 x10 x7 r6 v14 w15 r7 v16 v17 r8 r9 r10 r11 r12 r13 v18 r14 r15 r16 v19 h1 g0 f20 h2 g1 f21 h3 g2 f22 h4 g3 f23 h5 g4 f24 h6 g5 f25 h7 g6 fn2 h8 g7 fn3 h9 g8 f28 h10 g9 fn25 h11 g10 fn5) H → va_D A (wd_935d8763 h0 v0 r0 v1 v2 v3 v4 h1 h2 r1 h3 h4 h5 h6 v5 v6 h7 h8 r2 r3 v7 h9 r4 v8 v9 h10 r5 v10 v11 h11 x10 x7 r6 v14 w15 r7 v16 v17 r8 r9 r10 r11 r12 r13 v18 r14 r15 r16 v19 h1 g0 f20 h2 g1 f21 h3 g2 f22 h4 g3 f23 h5 g4 f24 h6 g5 f25 h7 g6 fn2 h8 g7 fn3 h9 g8 f28 h10 g9 fn25 h11 g10 fn5) → va_S A s.heap H locs → lv_has ls 2 [(1, .int x24), (0, .ref h0)] → W p l e ({ frames := 7, cells := 0, slots := 0, locals := 153 }) s m ([.ref h0] : List Value).toArray below meth c H locs 0 0 Q (F0 m 14 ls []) := by
    intro n9
    induction n9 with
    | zero => intro x24 fn25 H locs ls qa_x24 qb_x24 ia_fn25 hm9 hP hD hS hl; exact absurd hm9 (Nat.not_lt_zero _)
    | succ n9 ih_hL28 =>
      intro x24 fn25 H locs ls qa_x24 qb_x24 ia_fn25 hm9 hP hD hS hl
      refine lv_iload_n hx hb dX12_live_14 rfl (lv_at hl 0 rfl) ?_
      refine lv_bipush (v := 8) hx hb dX12_live_15 (by decide) ?_
      refine lv_icmp_ge (tgt := 53) hx hb dX12_live_17 (by decide) (fun c29 => ?_) (fun c29 => ?_)
      · skip
        have fc29 : 8 ≤ x24.toInt := Int32.le_iff_toInt_le.mp c29
        refine lv_aload_n hx hb dX12_live_53 rfl (lv_at hl 1 rfl) ?_
        refine va_get (D := (dC, dI)) (ci := 12) (v := .ref h10) (C := RX12) (T := TX12) (N := 48) hx hb hts (fun _ h => List.mem_cons_of_mem _ (List.mem_append_right _ h)) hown hK hP 0 rfl rfl 24 (by decide) (hts (.fieldLink RX12 52 "LeftArgumentsModel" "now" "[I") (List.mem_cons_of_mem _ (List.mem_append_left _ (List.mem_of_getElem? (i := 7) rfl)))) (fun _ h9 => h9) rfl dX12_live_54 ?_
        refine lv_bipush (v := 65) hx hb dX12_live_57 (by decide) ?_
        refine lv_dup2_11 hx hb dX12_live_59 rfl rfl ?_
        refine va_iald hx hb hK hP 10 9 rfl rfl (pv_c (x := 65) (n := 247) (by decide)) dX12_live_60 ?_
        refine lv_topi (fun t30 et30 => ?_)
        have mmt30 : fn25 (Int32.toNatClampNeg 65) = t30 := et30.symm
        refine lv_iconst (v := 1) hx hb dX12_live_61 (by decide) ?_
        refine lv_iadd hx hb dX12_live_62 ?_
        refine lv_topi (fun t31 et31 => ?_)
        refine va_iast hx hb hK hP hD hS 10 9 rfl rfl (pv_c (x := 65) (n := 247) (by decide)) dX12_live_63 (fun H locs hP hD hS => ?_)
        obtain ⟨fn32, efn32⟩ : ∃ g : Nat → Int32, g = upd fn25 (Int32.toNatClampNeg 65) t31 := ⟨_, rfl⟩
        rw [← efn32] at hP hD
        have ia_fn32 : pm_NW fn32 := by rw [efn32]; exact pm_NW.st ia_fn25 (z := 65) (y := t31.toInt) (by decide) rfl (by omega) (fun b9 h8 h9 => ⟨fun _ => ⟨by omega, by omega⟩, fun _ => ⟨by omega, by omega⟩⟩) (fun _ => ⟨by omega, by omega⟩) (fun b9 h8 h9 => ⟨fun _ => by omega, fun _ => by omega⟩)
        have mmfn32_65 : fn32 (Int32.toNatClampNeg 65) = t31 := by rw [efn32]; exact pk_us
        have hP : va_P (dC, dI) vwCl (wd_935d8763 h0 v0 r0 v1 v2 v3 v4 h1 h2 r1 h3 h4 h5 h6 v5 v6 h7 h8 r2 r3 v7 h9 r4 v8 v9 h10 r5 v10 v11 h11 x10 x7 r6 v14 w15 r7 v16 v17 r8 r9 r10 r11 r12 r13 v18 r14 r15 r16 v19 h1 g0 f20 h2 g1 f21 h3 g2 f22 h4 g3 f23 h5 g4 f24 h6 g5 f25 h7 g6 fn2 h8 g7 fn3 h9 g8 f28 h10 g9 fn32 h11 g10 fn5) H := hP
        have hD : va_D A (wd_935d8763 h0 v0 r0 v1 v2 v3 v4 h1 h2 r1 h3 h4 h5 h6 v5 v6 h7 h8 r2 r3 v7 h9 r4 v8 v9 h10 r5 v10 v11 h11 x10 x7 r6 v14 w15 r7 v16 v17 r8 r9 r10 r11 r12 r13 v18 r14 r15 r16 v19 h1 g0 f20 h2 g1 f21 h3 g2 f22 h4 g3 f23 h5 g4 f24 h6 g5 f25 h7 g6 fn2 h8 g7 fn3 h9 g8 f28 h10 g9 fn32 h11 g10 fn5) := hD
        subst hQ
        have hP9 := hP.sub (ws' := (wd_935d8763 h0 v0 r0 v1 v2 v3 v4 h1 h2 r1 h3 h4 h5 h6 v5 v6 h7 h8 r2 r3 v7 h9 r4 v8 v9 h10 r5 v10 v11 h11 x10 x7 r6 v14 w15 r7 v16 v17 r8 r9 r10 r11 r12 r13 v18 r14 r15 r16 v19 h1 g0 f20 h2 g1 f21 h3 g2 f22 h4 g3 f23 h5 g4 f24 h6 g5 f25 h7 g6 fn2 h8 g7 fn3 h9 g8 f28 h10 g9 fn32 h11 g10 fn5)) [0, 1, 2, 3, 4, 5, 6, 7, 8, 9, 10, 11] rfl
        have hD9 := hD.sub (ws' := (wd_935d8763 h0 v0 r0 v1 v2 v3 v4 h1 h2 r1 h3 h4 h5 h6 v5 v6 h7 h8 r2 r3 v7 h9 r4 v8 v9 h10 r5 v10 v11 h11 x10 x7 r6 v14 w15 r7 v16 v17 r8 r9 r10 r11 r12 r13 v18 r14 r15 r16 v19 h1 g0 f20 h2 g1 f21 h3 g2 f22 h4 g3 f23 h5 g4 f24 h6 g5 f25 h7 g6 fn2 h8 g7 fn3 h9 g8 f28 h10 g9 fn32 h11 g10 fn5)) [0, 1, 2, 3, 4, 5, 6, 7, 8, 9, 10, 11] (by decide +kernel) rfl
        have hK9 := hK.sub (tys' := []) [] rfl
        exact W.vret hx hb hr (fun t ht hW => ⟨⟨(), rfl, trivial, ⟨x10, x7, fn2, fn3, fn32, fn5, ia_fn32, by rw [ht]; exact hP9, va_K.moved hW.alike hK9, hD9⟩⟩, hS.F ht⟩) hS.2.2 dX12_live_64
      · skip
        have fc29 : ¬ (8 ≤ x24.toInt) := fun h9 => c29 (Int32.le_iff_toInt_le.mpr h9)
        refine lv_aload_n hx hb dX12_live_20 rfl (lv_at hl 1 rfl) ?_
        refine lv_iload_n hx hb dX12_live_21 rfl (lv_at hl 0 rfl) ?_
        refine lv_bipush (v := 6) hx hb dX12_live_22 (by decide) ?_
        refine lv_iconst (v := 0) hx hb dX12_live_24 (by decide) ?_
        have hPc := hP.sub (ws' := (wd_5013416a h0 v0 r0 v1 v2 v3 v4 h1 h2 r1 h3 h4 h5 h6 v5 v6 h7 h8 r2 r3 v7 h9 r4 v8 v9 h10 r5 v10 v11 h11 x10 x7 r6 v14 w15 r7 v16 v17 r8 r9 r10 r11 r12 r13 v18 r14 r15 r16 v19 h10 g9 fn25)) [0, 10] rfl
        have hDc := hD.sub (ws' := (wd_5013416a h0 v0 r0 v1 v2 v3 v4 h1 h2 r1 h3 h4 h5 h6 v5 v6 h7 h8 r2 r3 v7 h9 r4 v8 v9 h10 r5 v10 v11 h11 x10 x7 r6 v14 w15 r7 v16 v17 r8 r9 r10 r11 r12 r13 v18 r14 r15 r16 v19 h10 g9 fn25)) [0, 10] (by decide) rfl
        have hKc := hK.sub (tys' := [(g9, .int)]) [9] rfl
        have hFc := va_free (wc := (wd_5013416a h0 v0 r0 v1 v2 v3 v4 h1 h2 r1 h3 h4 h5 h6 v5 v6 h7 h8 r2 r3 v7 h9 r4 v8 v9 h10 r5 v10 v11 h11 x10 x7 r6 v14 w15 r7 v16 v17 r8 r9 r10 r11 r12 r13 v18 r14 r15 r16 v19 h10 g9 fn25)) hD hS hA [0, 10] rfl
        refine va_callv (va_runV (As := [.int x24, .int 6, .int 0]) (rest := []) ⟨hx, hb, hml, hown, hts⟩ (k_X12_set_4 l dC dI h0 h10 v0 r0 v1 v2 v3 v4 h1 h2 r1 h3 h4 h5 h6 v5 v6 h7 h8 r2 r3 v7 h9 r4 v8 v9 r5 v10 v11 h11 x10 x7 r6 v14 w15 r7 v16 v17 r8 r9 r10 r11 r12 r13 v18 r14 r15 r16 v19 g9 fn25 x24 0 ⟨i_v1a, i_v1b⟩ ⟨i_v5a, i_v5b⟩ ⟨i_v6a, i_v6b⟩ ⟨i_v7a, i_v7b⟩ ⟨i_v8a, i_v8b⟩ ⟨i_v9a, i_v9b⟩ ⟨i_v10a, i_v10b⟩ ⟨i_v14a, i_v14b⟩ ⟨i_v18a, i_v18b⟩ ⟨i_v19a, i_v19b⟩ ⟨qa_x24, by first | omega | decide⟩ trivial H.size) (cwV 3 hts g_X12_live_3 rfl rfl rfl (by decide +kernel) ⟨Nat.le_of_ble_eq_true rfl, Nat.le_of_ble_eq_true rfl⟩) (pv_PV12 hPc hKc hDc (q0 := 0) rfl) rfl rfl hl.1 rfl (lv_room (Nat.le_of_ble_eq_true rfl)) dX12_live_25 ⟨Nat.le_of_ble_eq_true rfl, Nat.le_of_ble_eq_true rfl⟩) hS (fun q _ h => hFc q h) hFc (fun u t H1 locs ht hvm hwra33 hB hz1 hk1 hS => ?_)
        obtain ⟨hP1, hK1, hD1⟩ := hB
        rw [ht] at hP1
        obtain ⟨hP2, hD2⟩ := va_join (wr := (wd_4dc6964c h1 g0 f20 h2 g1 f21 h3 g2 f22 h4 g3 f23 h5 g4 f24 h6 g5 f25 h7 g6 fn2 h8 g7 fn3 h9 g8 f28 h11 g10 fn5)) (w1 := (wd_5013416a h0 v0 r0 v1 v2 v3 v4 h1 h2 r1 h3 h4 h5 h6 v5 v6 h7 h8 r2 r3 v7 h9 r4 v8 v9 h10 r5 v10 v11 h11 x10 x7 r6 v14 w15 r7 v16 v17 r8 r9 r10 r11 r12 r13 v18 r14 r15 r16 v19 h10 g9 (upd fn25 (pm_I x24 6) 0))) hP hD [0, 10] [1, 2, 3, 4, 5, 6, 7, 8, 9, 11] rfl rfl (by decide +kernel) (by decide +kernel) hk1 hFc hP1 hD1
        clear hP hD hPc hDc hKc hFc hP1 hK1 hD1 hk1 hz1
        generalize H1 = H at hP2 hS ⊢
        have hP := hP2.sub (ws' := (wd_935d8763 h0 v0 r0 v1 v2 v3 v4 h1 h2 r1 h3 h4 h5 h6 v5 v6 h7 h8 r2 r3 v7 h9 r4 v8 v9 h10 r5 v10 v11 h11 x10 x7 r6 v14 w15 r7 v16 v17 r8 r9 r10 r11 r12 r13 v18 r14 r15 r16 v19 h1 g0 f20 h2 g1 f21 h3 g2 f22 h4 g3 f23 h5 g4 f24 h6 g5 f25 h7 g6 fn2 h8 g7 fn3 h9 g8 f28 h10 g9 (upd fn25 (pm_I x24 6) 0) h11 g10 fn5)) [10, 0, 1, 2, 3, 4, 5, 6, 7, 8, 11, 9] rfl
        have hD := hD2.sub (ws' := (wd_935d8763 h0 v0 r0 v1 v2 v3 v4 h1 h2 r1 h3 h4 h5 h6 v5 v6 h7 h8 r2 r3 v7 h9 r4 v8 v9 h10 r5 v10 v11 h11 x10 x7 r6 v14 w15 r7 v16 v17 r8 r9 r10 r11 r12 r13 v18 r14 r15 r16 v19 h1 g0 f20 h2 g1 f21 h3 g2 f22 h4 g3 f23 h5 g4 f24 h6 g5 f25 h7 g6 fn2 h8 g7 fn3 h9 g8 f28 h10 g9 (upd fn25 (pm_I x24 6) 0) h11 g10 fn5)) [10, 0, 1, 2, 3, 4, 5, 6, 7, 8, 11, 9] (by decide +kernel) rfl
        clear hP2 hD2
        obtain ⟨t34, et34⟩ : ∃ y : Int32, y = 8 * x24 + 6 := ⟨_, rfl⟩
        have gt34 : t34.toInt = 8 * x24.toInt + 6 := pm_i8 et34 rfl (by decide) (by omega) (by omega) (by omega) (by omega)
        obtain ⟨fn36, efn36⟩ : ∃ g : Nat → Int32, g = upd fn25 (Int32.toNatClampNeg t34) 0 := ⟨_, rfl⟩
        have e9 : (upd fn25 (pm_I x24 6) 0) = fn36 := by rw [efn36, et34]; rfl
        rw [e9] at hP hD
        have ia_fn36 : pm_NW fn36 := by rw [efn36]; exact pm_NW.st ia_fn25 (z := t34.toInt) (y := 0) rfl (by decide) (by omega) (fun b9 h8 h9 => ⟨fun _ => ⟨by omega, by omega⟩, fun _ => ⟨by omega, by omega⟩⟩) (fun _ => ⟨by omega, by omega⟩) (fun b9 h8 h9 => ⟨fun _ => by omega, fun _ => by omega⟩)
        have hP : va_P (dC, dI) vwCl (wd_935d8763 h0 v0 r0 v1 v2 v3 v4 h1 h2 r1 h3 h4 h5 h6 v5 v6 h7 h8 r2 r3 v7 h9 r4 v8 v9 h10 r5 v10 v11 h11 x10 x7 r6 v14 w15 r7 v16 v17 r8 r9 r10 r11 r12 r13 v18 r14 r15 r16 v19 h1 g0 f20 h2 g1 f21 h3 g2 f22 h4 g3 f23 h5 g4 f24 h6 g5 f25 h7 g6 fn2 h8 g7 fn3 h9 g8 f28 h10 g9 fn36 h11 g10 fn5) H := hP
        have hD : va_D A (wd_935d8763 h0 v0 r0 v1 v2 v3 v4 h1 h2 r1 h3 h4 h5 h6 v5 v6 h7 h8 r2 r3 v7 h9 r4 v8 v9 h10 r5 v10 v11 h11 x10 x7 r6 v14 w15 r7 v16 v17 r8 r9 r10 r11 r12 r13 v18 r14 r15 r16 v19 h1 g0 f20 h2 g1 f21 h3 g2 f22 h4 g3 f23 h5 g4 f24 h6 g5 f25 h7 g6 fn2 h8 g7 fn3 h9 g8 f28 h10 g9 fn36 h11 g10 fn5) := hD
        refine lv_aload_n hx hb dX12_live_28 rfl (lv_at hl 1 rfl) ?_
        refine lv_iload_n hx hb dX12_live_29 rfl (lv_at hl 0 rfl) ?_
        refine lv_iconst (v := 5) hx hb dX12_live_30 (by decide) ?_
        refine lv_bipush (v := 99) hx hb dX12_live_31 (by decide) ?_
        refine lv_aload_n hx hb dX12_live_33 rfl (lv_at hl 1 rfl) ?_
        refine lv_iload_n hx hb dX12_live_34 rfl (lv_at hl 0 rfl) ?_
        refine lv_iconst (v := 5) hx hb dX12_live_35 (by decide) ?_
        have hPc := hP.sub (ws' := (wd_5013416a h0 v0 r0 v1 v2 v3 v4 h1 h2 r1 h3 h4 h5 h6 v5 v6 h7 h8 r2 r3 v7 h9 r4 v8 v9 h10 r5 v10 v11 h11 x10 x7 r6 v14 w15 r7 v16 v17 r8 r9 r10 r11 r12 r13 v18 r14 r15 r16 v19 h10 g9 fn36)) [0, 10] rfl
        have hDc := hD.sub (ws' := (wd_5013416a h0 v0 r0 v1 v2 v3 v4 h1 h2 r1 h3 h4 h5 h6 v5 v6 h7 h8 r2 r3 v7 h9 r4 v8 v9 h10 r5 v10 v11 h11 x10 x7 r6 v14 w15 r7 v16 v17 r8 r9 r10 r11 r12 r13 v18 r14 r15 r16 v19 h10 g9 fn36)) [0, 10] (by decide) rfl
        have hKc := hK.sub (tys' := [(g9, .int)]) [9] rfl
        have hFc := va_free (wc := (wd_5013416a h0 v0 r0 v1 v2 v3 v4 h1 h2 r1 h3 h4 h5 h6 v5 v6 h7 h8 r2 r3 v7 h9 r4 v8 v9 h10 r5 v10 v11 h11 x10 x7 r6 v14 w15 r7 v16 v17 r8 r9 r10 r11 r12 r13 v18 r14 r15 r16 v19 h10 g9 fn36)) hD hS hA [0, 10] rfl
        refine va_calli (va_runV (As := [.int x24, .int 5]) (rest := [.int 99, .int 5, .int x24, .ref h0]) ⟨hx, hb, hml, hown, hts⟩ (k_X12_of_5 l dC dI h0 h10 v0 r0 v1 v2 v3 v4 h1 h2 r1 h3 h4 h5 h6 v5 v6 h7 h8 r2 r3 v7 h9 r4 v8 v9 r5 v10 v11 h11 x10 x7 r6 v14 w15 r7 v16 v17 r8 r9 r10 r11 r12 r13 v18 r14 r15 r16 v19 g9 fn36 x24 ⟨i_v1a, i_v1b⟩ ⟨i_v5a, i_v5b⟩ ⟨i_v6a, i_v6b⟩ ⟨i_v7a, i_v7b⟩ ⟨i_v8a, i_v8b⟩ ⟨i_v9a, i_v9b⟩ ⟨i_v10a, i_v10b⟩ ⟨i_v14a, i_v14b⟩ ⟨i_v18a, i_v18b⟩ ⟨i_v19a, i_v19b⟩ ⟨qa_x24, by first | omega | decide⟩ ia_fn36.1 H.size) (cwV 2 hts g_X12_live_4 rfl rfl rfl (by decide +kernel) ⟨Nat.le_of_ble_eq_true rfl, Nat.le_of_ble_eq_true rfl⟩) (pv_PV12 hPc hKc hDc (q0 := 0) rfl) rfl rfl hl.1 rfl (lv_room (Nat.le_of_ble_eq_true rfl)) dX12_live_36 ⟨Nat.le_of_ble_eq_true rfl, Nat.le_of_ble_eq_true rfl⟩) hS (fun q _ h => hFc q h) hFc (fun ra37 u t H1 locs ht hvm hwra37 hB hz1 hk1 hS => ?_)
        try rw [hwra37] at hB
        obtain ⟨pt0_ra37, hP1, hK1, hD1⟩ := hB
        rw [ht] at hP1
        obtain ⟨hP2, hD2⟩ := va_join (wr := (wd_4dc6964c h1 g0 f20 h2 g1 f21 h3 g2 f22 h4 g3 f23 h5 g4 f24 h6 g5 f25 h7 g6 fn2 h8 g7 fn3 h9 g8 f28 h11 g10 fn5)) (w1 := (wd_5013416a h0 v0 r0 v1 v2 v3 v4 h1 h2 r1 h3 h4 h5 h6 v5 v6 h7 h8 r2 r3 v7 h9 r4 v8 v9 h10 r5 v10 v11 h11 x10 x7 r6 v14 w15 r7 v16 v17 r8 r9 r10 r11 r12 r13 v18 r14 r15 r16 v19 h10 g9 fn36)) hP hD [0, 10] [1, 2, 3, 4, 5, 6, 7, 8, 9, 11] rfl rfl (by decide +kernel) (by decide +kernel) hk1 hFc hP1 hD1
        clear hP hD hPc hDc hKc hFc hP1 hK1 hD1 hk1 hz1
        generalize H1 = H at hP2 hS ⊢
        have hP := hP2.sub (ws' := (wd_935d8763 h0 v0 r0 v1 v2 v3 v4 h1 h2 r1 h3 h4 h5 h6 v5 v6 h7 h8 r2 r3 v7 h9 r4 v8 v9 h10 r5 v10 v11 h11 x10 x7 r6 v14 w15 r7 v16 v17 r8 r9 r10 r11 r12 r13 v18 r14 r15 r16 v19 h1 g0 f20 h2 g1 f21 h3 g2 f22 h4 g3 f23 h5 g4 f24 h6 g5 f25 h7 g6 fn2 h8 g7 fn3 h9 g8 f28 h10 g9 fn36 h11 g10 fn5)) [10, 0, 1, 2, 3, 4, 5, 6, 7, 8, 11, 9] rfl
        have hD := hD2.sub (ws' := (wd_935d8763 h0 v0 r0 v1 v2 v3 v4 h1 h2 r1 h3 h4 h5 h6 v5 v6 h7 h8 r2 r3 v7 h9 r4 v8 v9 h10 r5 v10 v11 h11 x10 x7 r6 v14 w15 r7 v16 v17 r8 r9 r10 r11 r12 r13 v18 r14 r15 r16 v19 h1 g0 f20 h2 g1 f21 h3 g2 f22 h4 g3 f23 h5 g4 f24 h6 g5 f25 h7 g6 fn2 h8 g7 fn3 h9 g8 f28 h10 g9 fn36 h11 g10 fn5)) [10, 0, 1, 2, 3, 4, 5, 6, 7, 8, 11, 9] (by decide +kernel) rfl
        clear hP2 hD2
        refine lv_iconst (v := 1) hx hb dX12_live_39 (by decide) ?_
        refine lv_iadd hx hb dX12_live_40 ?_
        refine lv_topi (fun t38 et38 => ?_)
        refine va_mmin hx hb (by rw [hml]; exact hl.1.symm) hown (hts (.methodLink RX12 299 Lib.Math.min.name) (List.mem_cons_of_mem _ (List.mem_append_left _ (List.mem_of_getElem? (i := 15) rfl)))) (hts (.static Lib.Math.min.name) (List.mem_cons_of_mem _ (List.mem_append_left _ (List.mem_of_getElem? (i := 16) rfl)))) (hts (.initialized "java/lang/Math") (List.mem_cons_of_mem _ (List.mem_append_left _ (List.mem_of_getElem? (i := 17) rfl)))) (hts (.code Lib.Math.min.name Lib.Math.min.code 2 (some .int)) (List.mem_cons_of_mem _ (List.mem_append_left _ (List.mem_of_getElem? (i := 18) rfl)))) (Nat.le_of_ble_eq_true rfl) (Nat.le_of_ble_eq_true rfl) (Nat.le_of_ble_eq_true rfl) (Nat.le_of_ble_eq_true rfl) dX12_live_41 ?_
        refine lv_topi (fun t39 et39 => ?_)
        obtain ⟨gat39, gbt39, gct39⟩ := pv_min (a := 99) (b := t38.toInt) et39 (by decide) rfl
        have hPc := hP.sub (ws' := (wd_5013416a h0 v0 r0 v1 v2 v3 v4 h1 h2 r1 h3 h4 h5 h6 v5 v6 h7 h8 r2 r3 v7 h9 r4 v8 v9 h10 r5 v10 v11 h11 x10 x7 r6 v14 w15 r7 v16 v17 r8 r9 r10 r11 r12 r13 v18 r14 r15 r16 v19 h10 g9 fn36)) [0, 10] rfl
        have hDc := hD.sub (ws' := (wd_5013416a h0 v0 r0 v1 v2 v3 v4 h1 h2 r1 h3 h4 h5 h6 v5 v6 h7 h8 r2 r3 v7 h9 r4 v8 v9 h10 r5 v10 v11 h11 x10 x7 r6 v14 w15 r7 v16 v17 r8 r9 r10 r11 r12 r13 v18 r14 r15 r16 v19 h10 g9 fn36)) [0, 10] (by decide) rfl
        have hKc := hK.sub (tys' := [(g9, .int)]) [9] rfl
        have hFc := va_free (wc := (wd_5013416a h0 v0 r0 v1 v2 v3 v4 h1 h2 r1 h3 h4 h5 h6 v5 v6 h7 h8 r2 r3 v7 h9 r4 v8 v9 h10 r5 v10 v11 h11 x10 x7 r6 v14 w15 r7 v16 v17 r8 r9 r10 r11 r12 r13 v18 r14 r15 r16 v19 h10 g9 fn36)) hD hS hA [0, 10] rfl
        refine va_callv (va_runV (As := [.int x24, .int 5, .int t39]) (rest := []) ⟨hx, hb, hml, hown, hts⟩ (k_X12_set_5 l dC dI h0 h10 v0 r0 v1 v2 v3 v4 h1 h2 r1 h3 h4 h5 h6 v5 v6 h7 h8 r2 r3 v7 h9 r4 v8 v9 r5 v10 v11 h11 x10 x7 r6 v14 w15 r7 v16 v17 r8 r9 r10 r11 r12 r13 v18 r14 r15 r16 v19 g9 fn36 x24 t39 ⟨i_v1a, i_v1b⟩ ⟨i_v5a, i_v5b⟩ ⟨i_v6a, i_v6b⟩ ⟨i_v7a, i_v7b⟩ ⟨i_v8a, i_v8b⟩ ⟨i_v9a, i_v9b⟩ ⟨i_v10a, i_v10b⟩ ⟨i_v14a, i_v14b⟩ ⟨i_v18a, i_v18b⟩ ⟨i_v19a, i_v19b⟩ ⟨qa_x24, by first | omega | decide⟩ trivial H.size) (cwV 3 hts g_X12_live_5 rfl rfl rfl (by decide +kernel) ⟨Nat.le_of_ble_eq_true rfl, Nat.le_of_ble_eq_true rfl⟩) (pv_PV12 hPc hKc hDc (q0 := 0) rfl) rfl rfl hl.1 rfl (lv_room (Nat.le_of_ble_eq_true rfl)) dX12_live_44 ⟨Nat.le_of_ble_eq_true rfl, Nat.le_of_ble_eq_true rfl⟩) hS (fun q _ h => hFc q h) hFc (fun u t H1 locs ht hvm hwra40 hB hz1 hk1 hS => ?_)
        obtain ⟨hP1, hK1, hD1⟩ := hB
        rw [ht] at hP1
        obtain ⟨hP2, hD2⟩ := va_join (wr := (wd_4dc6964c h1 g0 f20 h2 g1 f21 h3 g2 f22 h4 g3 f23 h5 g4 f24 h6 g5 f25 h7 g6 fn2 h8 g7 fn3 h9 g8 f28 h11 g10 fn5)) (w1 := (wd_5013416a h0 v0 r0 v1 v2 v3 v4 h1 h2 r1 h3 h4 h5 h6 v5 v6 h7 h8 r2 r3 v7 h9 r4 v8 v9 h10 r5 v10 v11 h11 x10 x7 r6 v14 w15 r7 v16 v17 r8 r9 r10 r11 r12 r13 v18 r14 r15 r16 v19 h10 g9 (upd fn36 (pm_I x24 5) t39))) hP hD [0, 10] [1, 2, 3, 4, 5, 6, 7, 8, 9, 11] rfl rfl (by decide +kernel) (by decide +kernel) hk1 hFc hP1 hD1
        clear hP hD hPc hDc hKc hFc hP1 hK1 hD1 hk1 hz1
        generalize H1 = H at hP2 hS ⊢
        have hP := hP2.sub (ws' := (wd_935d8763 h0 v0 r0 v1 v2 v3 v4 h1 h2 r1 h3 h4 h5 h6 v5 v6 h7 h8 r2 r3 v7 h9 r4 v8 v9 h10 r5 v10 v11 h11 x10 x7 r6 v14 w15 r7 v16 v17 r8 r9 r10 r11 r12 r13 v18 r14 r15 r16 v19 h1 g0 f20 h2 g1 f21 h3 g2 f22 h4 g3 f23 h5 g4 f24 h6 g5 f25 h7 g6 fn2 h8 g7 fn3 h9 g8 f28 h10 g9 (upd fn36 (pm_I x24 5) t39) h11 g10 fn5)) [10, 0, 1, 2, 3, 4, 5, 6, 7, 8, 11, 9] rfl
        have hD := hD2.sub (ws' := (wd_935d8763 h0 v0 r0 v1 v2 v3 v4 h1 h2 r1 h3 h4 h5 h6 v5 v6 h7 h8 r2 r3 v7 h9 r4 v8 v9 h10 r5 v10 v11 h11 x10 x7 r6 v14 w15 r7 v16 v17 r8 r9 r10 r11 r12 r13 v18 r14 r15 r16 v19 h1 g0 f20 h2 g1 f21 h3 g2 f22 h4 g3 f23 h5 g4 f24 h6 g5 f25 h7 g6 fn2 h8 g7 fn3 h9 g8 f28 h10 g9 (upd fn36 (pm_I x24 5) t39) h11 g10 fn5)) [10, 0, 1, 2, 3, 4, 5, 6, 7, 8, 11, 9] (by decide +kernel) rfl
        clear hP2 hD2
        obtain ⟨t41, et41⟩ : ∃ y : Int32, y = 8 * x24 + 5 := ⟨_, rfl⟩
        have gt41 : t41.toInt = 8 * x24.toInt + 5 := pm_i8 et41 rfl (by decide) (by omega) (by omega) (by omega) (by omega)
        obtain ⟨fn43, efn43⟩ : ∃ g : Nat → Int32, g = upd fn36 (Int32.toNatClampNeg t41) t39 := ⟨_, rfl⟩
        have e9 : (upd fn36 (pm_I x24 5) t39) = fn43 := by rw [efn43, et41]; rfl
        rw [e9] at hP hD
        have ia_fn43 : pm_NW fn43 := by rw [efn43]; exact pm_NW.st ia_fn36 (z := t41.toInt) (y := t39.toInt) rfl rfl (by omega) (fun b9 h8 h9 => ⟨fun _ => ⟨by omega, by omega⟩, fun _ => ⟨by omega, by omega⟩⟩) (fun _ => ⟨by omega, by omega⟩) (fun b9 h8 h9 => ⟨fun _ => by omega, fun _ => by omega⟩)
        have hP : va_P (dC, dI) vwCl (wd_935d8763 h0 v0 r0 v1 v2 v3 v4 h1 h2 r1 h3 h4 h5 h6 v5 v6 h7 h8 r2 r3 v7 h9 r4 v8 v9 h10 r5 v10 v11 h11 x10 x7 r6 v14 w15 r7 v16 v17 r8 r9 r10 r11 r12 r13 v18 r14 r15 r16 v19 h1 g0 f20 h2 g1 f21 h3 g2 f22 h4 g3 f23 h5 g4 f24 h6 g5 f25 h7 g6 fn2 h8 g7 fn3 h9 g8 f28 h10 g9 fn43 h11 g10 fn5) H := hP
        have hD : va_D A (wd_935d8763 h0 v0 r0 v1 v2 v3 v4 h1 h2 r1 h3 h4 h5 h6 v5 v6 h7 h8 r2 r3 v7 h9 r4 v8 v9 h10 r5 v10 v11 h11 x10 x7 r6 v14 w15 r7 v16 v17 r8 r9 r10 r11 r12 r13 v18 r14 r15 r16 v19 h1 g0 f20 h2 g1 f21 h3 g2 f22 h4 g3 f23 h5 g4 f24 h6 g5 f25 h7 g6 fn2 h8 g7 fn3 h9 g8 f28 h10 g9 fn43 h11 g10 fn5) := hD
        obtain ⟨t44, et44⟩ : ∃ y : Int32, y = x24 + 1 := ⟨_, rfl⟩
        have gt44 : t44.toInt = x24.toInt + (1) := pv_add (a := x24.toInt) (b := (1)) et44 rfl (by decide) (by omega) (by omega)
        refine lv_iinc (v := t44) (lv' := [(1, .int t44), (0, .ref h0)]) hx hb dX12_live_47 hl (k := 0) rfl (by rw [et44]; rfl) (by decide) rfl (fun ls hl => ?_)
        refine lv_goto (tgt := 14) hx hb dX12_live_50 (by decide) ?_
        exact ih_hL28 t44 fn43 H locs ls (by first | omega | decide) (by first | omega | decide) ia_fn43 (by first | omega | (simp only [Int.toNat] at *; omega)) hP hD hS (lv_sub hl [0, 1] rfl)
  exact hL28 _ 0 fn11 H locs ls (by decide) (by decide) ia_fn11 (Nat.lt_succ_self _) hP hD hS (lv_sub hl [0, 1] rfl)
