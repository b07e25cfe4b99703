abbrev wd_33cd10d9 (p0 : Nat) (p1 : Int32) (p2 : Nat) (p3 : Int32) (p4 : Int32) (p5 : Int32) (p6 : Int32) (p7 : Nat) (p8 : Nat) (p9 : Nat) (p10 : Nat) (p11 : Nat) (p12 : Nat) (p13 : Nat) (p14 : Int32) (p15 : Int32) (p16 : Nat) (p17 : Nat) (p18 : Nat) (p19 : Nat) (p20 : Int32) (p21 : Nat) (p22 : Nat) (p23 : Int32) (p24 : Int32) (p25 : Nat) (p26 : Nat) (p27 : Int32) (p28 : Int32) (p29 : Nat) (p30 : Int32) (p31 : Int32) (p32 : Nat) (p33 : Int32) (p34 : Int64) (p35 : Nat) (p36 : Int32) (p37 : Int32) (p38 : Nat) (p39 : Nat) (p40 : Nat) (p41 : Nat) (p42 : Nat) (p43 : Nat) (p44 : Int32) (p45 : Nat) (p46 : Nat) (p47 : Nat) (p48 : Int32) (p49 : Nat) (p50 : ClassId) (p51 : Nat → Int32) (p52 : Nat) (p53 : ClassId) (p54 : Nat → Int32) (p55 : Nat) (p56 : ClassId) (p57 : Nat → Int32) (p58 : Nat) (p59 : ClassId) (p60 : Nat → Int32) (p61 : Nat) (p62 : ClassId) (p63 : Nat → Int32) (p64 : Nat) (p65 : ClassId) (p66 : Nat → Int32) (p67 : Nat) (p68 : ClassId) (p69 : Nat → Int32) (p70 : Nat) (p71 : ClassId) (p72 : Nat → Int32) (p73 : Nat) (p74 : ClassId) (p75 : Nat → Int32) (p76 : Nat) (p77 : ClassId) (p78 : Nat → Int32) (p79 : Nat) (p80 : ClassId) (p81 : Nat → Int32) (p82 : Nat) (p83 : ClassId) (p84 : Nat → Int32) (p85 : Nat) (p86 : ClassId) (p87 : Nat → Int32) : va_W := [(p0, .inr (12, [.int p1, .ref p2, .int p3, .int p4, .int p5, .int p6, .ref p7, .ref p8, .ref p9, .ref p10, .ref p11, .ref p12, .ref p13, .int p14, .int p15, .ref p16, .ref p17, .ref p18, .ref p19, .int p20, .ref p21, .ref p22, .int p23, .int p24, .ref p25, .ref p26, .int p27, .int p28, .ref p29, .int p30, .int p31, .ref p32, .int p33, .long p34, .ref p35, .int p36, .int p37, .ref p38, .ref p39, .ref p40, .ref p41, .ref p42, .ref p43, .int p44, .ref p45, .ref p46, .ref p47, .int p48])), (p49, .inl (p50, 2600, .inl p51)), (p52, .inl (p53, 2600, .inl p54)), (p55, .inl (p56, 5, .inl p57)), (p58, .inl (p59, 700, .inl p60)), (p61, .inl (p62, 700, .inl p63)), (p64, .inl (p65, 700, .inl p66)), (p67, .inl (p68, 6, .inl p69)), (p70, .inl (p71, 80, .inl p72)), (p73, .inl (p74, 4, .inl p75)), (p76, .inl (p77, 247, .inl p78)), (p79, .inl (p80, 5, .inl p81)), (p82, .inl (p83, 8, .inl p84)), (p85, .inl (p86, 9880, .inl p87))]
abbrev wd_cb47b79a (p0 : Nat) (p1 : ClassId) (p2 : Nat → Int32) (p3 : Nat) (p4 : ClassId) (p5 : Nat → Int32) (p6 : Nat) (p7 : ClassId) (p8 : Nat → Int32) (p9 : Nat) (p10 : ClassId) (p11 : Nat → Int32) (p12 : Nat) (p13 : ClassId) (p14 : Nat → Int32) (p15 : Nat) (p16 : ClassId) (p17 : Nat → Int32) (p18 : Nat) (p19 : ClassId) (p20 : Nat → Int32) (p21 : Nat) (p22 : ClassId) (p23 : Nat → Int32) (p24 : Nat) (p25 : ClassId) (p26 : Nat → Int32) (p27 : Nat) (p28 : ClassId) (p29 : Nat → Int32) (p30 : Nat) (p31 : ClassId) (p32 : Nat → Int32) (p33 : Nat) (p34 : ClassId) (p35 : Nat → Int32) : va_W := [(p0, .inl (p1, 2600, .inl p2)), (p3, .inl (p4, 2600, .inl p5)), (p6, .inl (p7, 5, .inl p8)), (p9, .inl (p10, 700, .inl p11)), (p12, .inl (p13, 700, .inl p14)), (p15, .inl (p16, 700, .inl p17)), (p18, .inl (p19, 6, .inl p20)), (p21, .inl (p22, 80, .inl p23)), (p24, .inl (p25, 4, .inl p26)), (p27, .inl (p28, 5, .inl p29)), (p30, .inl (p31, 8, .inl p32)), (p33, .inl (p34, 9880, .inl p35))]
abbrev wd_afd61da2 (p0 : Nat) (p1 : ClassId) (p2 : Nat → Int32) (p3 : Nat) (p4 : ClassId) (p5 : Nat → Int32) (p6 : Nat) (p7 : ClassId) (p8 : Nat → Int32) (p9 : Nat) (p10 : ClassId) (p11 : Nat → Int32) (p12 : Nat) (p13 : ClassId) (p14 : Nat → Int32) (p15 : Nat) (p16 : ClassId) (p17 : Nat → Int32) (p18 : Nat) (p19 : ClassId) (p20 : Nat → Int32) (p21 : Nat) (p22 : ClassId) (p23 : Nat → Int32) (p24 : Nat) (p25 : ClassId) (p26 : Nat → Int32) (p27 : Nat) (p28 : ClassId) (p29 : Nat → Int32) (p30 : Nat) (p31 : ClassId) (p32 : Nat → Int32) (p33 : Nat) (p34 : ClassId) (p35 : Nat → Int32) (p36 : Nat) (p37 : ClassId) (p38 : Nat → Int32) : va_W := [(p0, .inl (p1, 2600, .inl p2)), (p3, .inl (p4, 2600, .inl p5)), (p6, .inl (p7, 5, .inl p8)), (p9, .inl (p10, 700, .inl p11)), (p12, .inl (p13, 700, .inl p14)), (p15, .inl (p16, 700, .inl p17)), (p18, .inl (p19, 6, .inl p20)), (p21, .inl (p22, 80, .inl p23)), (p24, .inl (p25, 4, .inl p26)), (p27, .inl (p28, 247, .inl p29)), (p30, .inl (p31, 5, .inl p32)), (p33, .inl (p34, 8, .inl p35)), (p36, .inl (p37, 9880, .inl p38))]
abbrev wd_f5781dfa (p0 : Nat) (p1 : ClassId) (p2 : Nat → Int32) (p3 : Nat) (p4 : ClassId) (p5 : Nat → Int32) (p6 : Nat) (p7 : ClassId) (p8 : Nat → Int32) (p9 : Nat) (p10 : ClassId) (p11 : Nat → Int32) (p12 : Nat) (p13 : ClassId) (p14 : Nat → Int32) (p15 : Nat) (p16 : ClassId) (p17 : Nat → Int32) (p18 : Nat) (p19 : ClassId) (p20 : Nat → Int32) (p21 : Nat) (p22 : ClassId) (p23 : Nat → Int32) (p24 : Nat) (p25 : ClassId) (p26 : Nat → Int32) (p27 : Nat) (p28 : ClassId) (p29 : Nat → Int32) (p30 : Nat) (p31 : ClassId) (p32 : Nat → Int32) : va_W := [(p0, .inl (p1, 2600, .inl p2)), (p3, .inl (p4, 2600, .inl p5)), (p6, .inl (p7, 5, .inl p8)), (p9, .inl (p10, 700, .inl p11)), (p12, .inl (p13, 700, .inl p14)), (p15, .inl (p16, 700, .inl p17)), (p18, .inl (p19, 6, .inl p20)), (p21, .inl (p22, 80, .inl p23)), (p24, .inl (p25, 4, .inl p26)), (p27, .inl (p28, 5, .inl p29)), (p30, .inl (p31, 8, .inl p32))]
abbrev wd_114cde00 (p0 : Nat) (p1 : ClassId) (p2 : Nat → Int32) (p3 : Nat) (p4 : ClassId) (p5 : Nat → Int32) (p6 : Nat) (p7 : ClassId) (p8 : Nat → Int32) (p9 : Nat) (p10 : ClassId) (p11 : Nat → Int32) (p12 : Nat) (p13 : ClassId) (p14 : Nat → Int32) (p15 : Nat) (p16 : ClassId) (p17 : Nat → Int32) (p18 : Nat) (p19 : ClassId) (p20 : Nat → Int32) (p21 : Nat) (p22 : ClassId) (p23 : Nat → Int32) (p24 : Nat) (p25 : ClassId) (p26 : Nat → Int32) (p27 : Nat) (p28 : ClassId) (p29 : Nat → Int32) (p30 : Nat) (p31 : ClassId) (p32 : Nat → Int32) (p33 : Nat) (p34 : ClassId) (p35 : Nat → Int32) : va_W := [(p0, .inl (p1, 2600, .inl p2)), (p3, .inl (p4, 2600, .inl p5)), (p6, .inl (p7, 5, .inl p8)), (p9, .inl (p10, 700, .inl p11)), (p12, .inl (p13, 700, .inl p14)), (p15, .inl (p16, 700, .inl p17)), (p18, .inl (p19, 6, .inl p20)), (p21, .inl (p22, 80, .inl p23)), (p24, .inl (p25, 4, .inl p26)), (p27, .inl (p28, 247, .inl p29)), (p30, .inl (p31, 8, .inl p32)), (p33, .inl (p34, 9880, .inl p35))]
abbrev wd_a6050d9e (p0 : Nat) (p1 : ClassId) (p2 : Nat → Int32) (p3 : Nat) (p4 : ClassId) (p5 : Nat → Int32) : va_W := [(p0, .inl (p1, 4, .inl p2)), (p3, .inl (p4, 247, .inl p5))]
abbrev wd_210a5a56 (p0 : Nat) (p1 : Int32) (p2 : Nat) (p3 : Int32) (p4 : Int32) (p5 : Int32) (p6 : Int32) (p7 : Nat) (p8 : Nat) (p9 : Nat) (p10 : Nat) (p11 : Nat) (p12 : Nat) (p13 : Nat) (p14 : Int32) (p15 : Int32) (p16 : Nat) (p17 : Nat) (p18 : Nat) (p19 : Nat) (p20 : Int32) (p21 : Nat) (p22 : Nat) (p23 : Int32) (p24 : Int32) (p25 : Nat) (p26 : Nat) (p27 : Int32) (p28 : Int32) (p29 : Nat) (p30 : Int32) (p31 : Int32) (p32 : Nat) (p33 : Int32) (p34 : Int64) (p35 : Nat) (p36 : Int32) (p37 : Int32) (p38 : Nat) (p39 : Nat) (p40 : Nat) (p41 : Nat) (p42 : Nat) (p43 : Nat) (p44 : Int32) (p45 : Nat) (p46 : Nat) (p47 : Nat) (p48 : Int32) (p49 : Nat) (p50 : ClassId) (p51 : Nat → Int32) (p52 : Nat) (p53 : ClassId) (p54 : Nat → Int32) (p55 : Nat) (p56 : ClassId) (p57 : Nat → Int32) (p58 : Nat) (p59 : ClassId) (p60 : Nat → Int32) (p61 : Nat) (p62 : ClassId) (p63 : Nat → Int32) (p64 : Nat) (p65 : ClassId) (p66 : Nat → Int32) (p67 : Nat) (p68 : ClassId) (p69 : Nat → Int32) (p70 : Nat) (p71 : ClassId) (p72 : Nat → Int32) (p73 : Nat) (p74 : ClassId) (p75 : Nat → Int32) (p76 : Nat) (p77 : ClassId) (p78 : Nat → Int32) (p79 : Nat) (p80 : ClassId) (p81 : Nat → Int32) (p82 : Nat) (p83 : ClassId) (p84 : Nat → Int32) : va_W := [(p0, .inr (12, [.int p1, .ref p2, .int p3, .int p4, .int p5, .int p6, .ref p7, .ref p8, .ref p9, .ref p10, .ref p11, .ref p12, .ref p13, .int p14, .int p15, .ref p16, .ref p17, .ref p18, .ref p19, .int p20, .ref p21, .ref p22, .int p23, .int p24, .ref p25, .ref p26, .int p27, .int p28, .ref p29, .int p30, .int p31, .ref p32, .int p33, .long p34, .ref p35, .int p36, .int p37, .ref p38, .ref p39, .ref p40, .ref p41, .ref p42, .ref p43, .int p44, .ref p45, .ref p46, .ref p47, .int p48])), (p49, .inl (p50, 2600, .inl p51)), (p52, .inl (p53, 2600, .inl p54)), (p55, .inl (p56, 5, .inl p57)), (p58, .inl (p59, 700, .inl p60)), (p61, .inl (p62, 700, .inl p63)), (p64, .inl (p65, 700, .inl p66)), (p67, .inl (p68, 6, .inl p69)), (p70, .inl (p71, 80, .inl p72)), (p73, .inl (p74, 4, .inl p75)), (p76, .inl (p77, 247, .inl p78)), (p79, .inl (p80, 8, .inl p81)), (p82, .inl (p83, 9880, .inl p84))]
abbrev wd_69413148 (p0 : Nat) (p1 : ClassId) (p2 : Nat → Int32) (p3 : Nat) (p4 : ClassId) (p5 : Nat → Int32) (p6 : Nat) (p7 : ClassId) (p8 : Nat → Int32) (p9 : Nat) (p10 : ClassId) (p11 : Nat → Int32) (p12 : Nat) (p13 : ClassId) (p14 : Nat → Int32) (p15 : Nat) (p16 : ClassId) (p17 : Nat → Int32) (p18 : Nat) (p19 : ClassId) (p20 : Nat → Int32) (p21 : Nat) (p22 : ClassId) (p23 : Nat → Int32) (p24 : Nat) (p25 : ClassId) (p26 : Nat → Int32) (p27 : Nat) (p28 : ClassId) (p29 : Nat → Int32) (p30 : Nat) (p31 : ClassId) (p32 : Nat → Int32) : va_W := [(p0, .inl (p1, 2600, .inl p2)), (p3, .inl (p4, 2600, .inl p5)), (p6, .inl (p7, 5, .inl p8)), (p9, .inl (p10, 700, .inl p11)), (p12, .inl (p13, 700, .inl p14)), (p15, .inl (p16, 700, .inl p17)), (p18, .inl (p19, 6, .inl p20)), (p21, .inl (p22, 80, .inl p23)), (p24, .inl (p25, 4, .inl p26)), (p27, .inl (p28, 8, .inl p29)), (p30, .inl (p31, 9880, .inl p32))]
abbrev wd_4396b86f (p0 : Nat) (p1 : ClassId) (p2 : Nat → Int32) (p3 : Nat) (p4 : ClassId) (p5 : Nat → Int32) (p6 : Nat) (p7 : ClassId) (p8 : Nat → Int32) (p9 : Nat) (p10 : ClassId) (p11 : Nat → Int32) (p12 : Nat) (p13 : ClassId) (p14 : Nat → Int32) (p15 : Nat) (p16 : ClassId) (p17 : Nat → Int32) (p18 : Nat) (p19 : ClassId) (p20 : Nat → Int32) (p21 : Nat) (p22 : ClassId) (p23 : Nat → Int32) (p24 : Nat) (p25 : ClassId) (p26 : Nat → Int32) (p27 : Nat) (p28 : ClassId) (p29 : Nat → Int32) : va_W := [(p0, .inl (p1, 2600, .inl p2)), (p3, .inl (p4, 2600, .inl p5)), (p6, .inl (p7, 5, .inl p8)), (p9, .inl (p10, 700, .inl p11)), (p12, .inl (p13, 700, .inl p14)), (p15, .inl (p16, 700, .inl p17)), (p18, .inl (p19, 6, .inl p20)), (p21, .inl (p22, 80, .inl p23)), (p24, .inl (p25, 8, .inl p26)), (p27, .inl (p28, 9880, .inl p29))]
abbrev wd_534b6bea (p0 : Nat) (p1 : ClassId) (p2 : Nat → Int32) : va_W := [(p0, .inl (p1, 9880, .inl p2))]
abbrev wd_4e9dad6c (p0 : Nat) (p1 : Int32) (p2 : Nat) (p3 : Int32) (p4 : Int32) (p5 : Int32) (p6 : Int32) (p7 : Nat) (p8 : Nat) (p9 : Nat) (p10 : Nat) (p11 : Nat) (p12 : Nat) (p13 : Nat) (p14 : Int32) (p15 : Int32) (p16 : Nat) (p17 : Nat) (p18 : Nat) (p19 : Nat) (p20 : Int32) (p21 : Nat) (p22 : Nat) (p23 : Int32) (p24 : Int32) (p25 : Nat) (p26 : Nat) (p27 : Int32) (p28 : Int32) (p29 : Nat) (p30 : Int32) (p31 : Int32) (p32 : Nat) (p33 : Int32) (p34 : Int64) (p35 : Nat) (p36 : Int32) (p37 : Int32) (p38 : Nat) (p39 : Nat) (p40 : Nat) (p41 : Nat) (p42 : Nat) (p43 : Nat) (p44 : Int32) (p45 : Nat) (p46 : Nat) (p47 : Nat) (p48 : Int32) (p49 : Nat) (p50 : ClassId) (p51 : Nat → Int32) (p52 : Nat) (p53 : ClassId) (p54 : Nat → Int32) (p55 : Nat) (p56 : ClassId) (p57 : Nat → Int32) (p58 : Nat) (p59 : ClassId) (p60 : Nat → Int32) (p61 : Nat) (p62 : ClassId) (p63 : Nat → Int32) (p64 : Nat) (p65 : ClassId) (p66 : Nat → Int32) (p67 : Nat) (p68 : ClassId) (p69 : Nat → Int32) (p70 : Nat) (p71 : ClassId) (p72 : Nat → Int32) (p73 : Nat) (p74 : ClassId) (p75 : Nat → Int32) (p76 : Nat) (p77 : ClassId) (p78 : Nat → Int32) : va_W := [(p0, .inr (12, [.int p1, .ref p2, .int p3, .int p4, .int p5, .int p6, .ref p7, .ref p8, .ref p9, .ref p10, .ref p11, .ref p12, .ref p13, .int p14, .int p15, .ref p16, .ref p17, .ref p18, .ref p19, .int p20, .ref p21, .ref p22, .int p23, .int p24, .ref p25, .ref p26, .int p27, .int p28, .ref p29, .int p30, .int p31, .ref p32, .int p33, .long p34, .ref p35, .int p36, .int p37, .ref p38, .ref p39, .ref p40, .ref p41, .ref p42, .ref p43, .int p44, .ref p45, .ref p46, .ref p47, .int p48])), (p49, .inl (p50, 2600, .inl p51)), (p52, .inl (p53, 2600, .inl p54)), (p55, .inl (p56, 5, .inl p57)), (p58, .inl (p59, 700, .inl p60)), (p61, .inl (p62, 700, .inl p63)), (p64, .inl (p65, 700, .inl p66)), (p67, .inl (p68, 6, .inl p69)), (p70, .inl (p71, 80, .inl p72)), (p73, .inl (p74, 4, .inl p75)), (p76, .inl (p77, 247, .inl p78))]
abbrev wd_9a99d2a4 (p0 : Nat) (p1 : ClassId) (p2 : Nat → Int32) (p3 : Nat) (p4 : ClassId) (p5 : Nat → Int32) (p6 : Nat) (p7 : ClassId) (p8 : Nat → Int32) (p9 : Nat) (p10 : ClassId) (p11 : Nat → Int32) (p12 : Nat) (p13 : ClassId) (p14 : Nat → Int32) (p15 : Nat) (p16 : ClassId) (p17 : Nat → Int32) (p18 : Nat) (p19 : ClassId) (p20 : Nat → Int32) (p21 : Nat) (p22 : ClassId) (p23 : Nat → Int32) (p24 : Nat) (p25 : ClassId) (p26 : Nat → Int32) : va_W := [(p0, .inl (p1, 2600, .inl p2)), (p3, .inl (p4, 2600, .inl p5)), (p6, .inl (p7, 5, .inl p8)), (p9, .inl (p10, 700, .inl p11)), (p12, .inl (p13, 700, .inl p14)), (p15, .inl (p16, 700, .inl p17)), (p18, .inl (p19, 6, .inl p20)), (p21, .inl (p22, 80, .inl p23)), (p24, .inl (p25, 4, .inl p26))]
abbrev wd_cfaca2a5 (p0 : Nat) (p1 : Int32) (p2 : Nat) (p3 : Int32) (p4 : Int32) (p5 : Int32) (p6 : Int32) (p7 : Nat) (p8 : Nat) (p9 : Nat) (p10 : Nat) (p11 : Nat) (p12 : Nat) (p13 : Nat) (p14 : Int32) (p15 : Int32) (p16 : Nat) (p17 : Nat) (p18 : Nat) (p19 : Nat) (p20 : Int32) (p21 : Nat) (p22 : Nat) (p23 : Int32) (p24 : Int32) (p25 : Nat) (p26 : Nat) (p27 : Int32) (p28 : Int32) (p29 : Nat) (p30 : Int32) (p31 : Int32) (p32 : Nat) (p33 : Int32) (p34 : Int64) (p35 : Nat) (p36 : Int32) (p37 : Int32) (p38 : Nat) (p39 : Nat) (p40 : Nat) (p41 : Nat) (p42 : Nat) (p43 : Nat) (p44 : Int32) (p45 : Nat) (p46 : Nat) (p47 : Nat) (p48 : Int32) (p49 : Nat) (p50 : ClassId) (p51 : Nat → Int32) (p52 : Nat) (p53 : ClassId) (p54 : Nat → Int32) (p55 : Nat) (p56 : ClassId) (p57 : Nat → Int32) (p58 : Nat) (p59 : ClassId) (p60 : Nat → Int32) (p61 : Nat) (p62 : ClassId) (p63 : Nat → Int32) (p64 : Nat) (p65 : ClassId) (p66 : Nat → Int32) (p67 : Nat) (p68 : ClassId) (p69 : Nat → Int32) (p70 : Nat) (p71 : ClassId) (p72 : Nat → Int32) (p73 : Nat) (p74 : ClassId) (p75 : Nat → Int32) (p76 : Nat) (p77 : ClassId) (p78 : Nat → Int32) (p79 : Nat) (p80 : ClassId) (p81 : Nat → Int32) (p82 : Nat) (p83 : ClassId) (p84 : Nat → Int32) : va_W := [(p0, .inr (12, [.int p1, .ref p2, .int p3, .int p4, .int p5, .int p6, .ref p7, .ref p8, .ref p9, .ref p10, .ref p11, .ref p12, .ref p13, .int p14, .int p15, .ref p16, .ref p17, .ref p18, .ref p19, .int p20, .ref p21, .ref p22, .int p23, .int p24, .ref p25, .ref p26, .int p27, .int p28, .ref p29, .int p30, .int p31, .ref p32, .int p33, .long p34, .ref p35, .int p36, .int p37, .ref p38, .ref p39, .ref p40, .ref p41, .ref p42, .ref p43, .int p44, .ref p45, .ref p46, .ref p47, .int p48])), (p49, .inl (p50, 2600, .inl p51)), (p52, .inl (p53, 2600, .inl p54)), (p55, .inl (p56, 5, .inl p57)), (p58, .inl (p59, 700, .inl p60)), (p61, .inl (p62, 700, .inl p63)), (p64, .inl (p65, 700, .inl p66)), (p67, .inl (p68, 6, .inl p69)), (p70, .inl (p71, 80, .inl p72)), (p73, .inl (p74, 4, .inl p75)), (p76, .inl (p77, 247, .inl p78)), (p79, .inl (p80, 8, .inl p81)), (p82, .inl (p83, 528, .inl p84))]
abbrev wd_e8ff9da7 (p0 : Nat) (p1 : ClassId) (p2 : Nat → Int32) (p3 : Nat) (p4 : ClassId) (p5 : Nat → Int32) (p6 : Nat) (p7 : ClassId) (p8 : Nat → Int32) (p9 : Nat) (p10 : ClassId) (p11 : Nat → Int32) (p12 : Nat) (p13 : ClassId) (p14 : Nat → Int32) (p15 : Nat) (p16 : ClassId) (p17 : Nat → Int32) (p18 : Nat) (p19 : ClassId) (p20 : Nat → Int32) (p21 : Nat) (p22 : ClassId) (p23 : Nat → Int32) (p24 : Nat) (p25 : ClassId) (p26 : Nat → Int32) (p27 : Nat) (p28 : ClassId) (p29 : Nat → Int32) (p30 : Nat) (p31 : ClassId) (p32 : Nat → Int32) : va_W := [(p0, .inl (p1, 2600, .inl p2)), (p3, .inl (p4, 2600, .inl p5)), (p6, .inl (p7, 5, .inl p8)), (p9, .inl (p10, 700, .inl p11)), (p12, .inl (p13, 700, .inl p14)), (p15, .inl (p16, 700, .inl p17)), (p18, .inl (p19, 6, .inl p20)), (p21, .inl (p22, 80, .inl p23)), (p24, .inl (p25, 4, .inl p26)), (p27, .inl (p28, 8, .inl p29)), (p30, .inl (p31, 528, .inl p32))]
abbrev wd_811139ca (p0 : Nat) (p1 : ClassId) (p2 : Nat → Int32) : va_W := [(p0, .inl (p1, 528, .inl p2))]
def q_X12_leave : List Cond := .code yX12_leave cX12_leave 6 (some .int) :: (([.code yX12_in cX12_in 3 (some .boolean), .initialized RX12, .static yX12_in, .methodLink RX12 217 yX12_in, .fieldLink RX12 262 "LeftArgumentsModel" "isOffice" "Z", .code yX12_isRefused cX12_isRefused 2 (some .boolean), .fieldLink RX12 55 "LeftArgumentsModel" "refused" "[I", .instanceMethod yX12_isRefused, .selects RX12 yX12_isRefused yX12_isRefused, .methodLink RX12 339 yX12_isRefused, .code yX12_isShelf cX12_isShelf 2 (some .boolean), .fieldLink RX12 46 "LeftArgumentsModel" "rule" "[I", .instanceMethod yX12_isShelf, .selects RX12 yX12_isShelf yX12_isShelf, .methodLink RX12 333 yX12_isShelf, .code yX12_does cX12_does 3 (some .boolean), .code yX12_loadOf cX12_loadOf 4 (some .int), .code yX12_isThere cX12_isThere 2 (some .boolean), .code yX12_of cX12_of 3 (some .int), .fieldLink RX12 52 "LeftArgumentsModel" "now" "[I", .instanceMethod yX12_of, .selects RX12 yX12_of yX12_of, .methodLink RX12 287 yX12_of, .instanceMethod yX12_isThere, .selects RX12 yX12_isThere yX12_isThere, .methodLink RX12 290 yX12_isThere, .instanceMethod yX12_loadOf, .selects RX12 yX12_loadOf yX12_loadOf, .methodLink RX12 312 yX12_loadOf, .instanceMethod yX12_does, .selects RX12 yX12_does yX12_does, .methodLink RX12 351 yX12_does, .code yX12_freePlace cX12_freePlace 2 (some .int), .instanceMethod yX12_freePlace, .selects RX12 yX12_freePlace yX12_freePlace, .methodLink RX12 348 yX12_freePlace, .code yX12_keep cX12_keep 2 none, .fieldLink RX12 275 "LeftArgumentsModel" "acts" "I", .fieldLink RX12 68 "LeftArgumentsModel" "kept" "[I", .instanceMethod yX12_keep, .selects RX12 yX12_keep yX12_keep, .methodLink RX12 342 yX12_keep, .code yX12_leaveNow cX12_leaveNow 6 (some .int), .code yX12_set cX12_set 4 none, .instanceMethod yX12_set, .selects RX12 yX12_set yX12_set, .methodLink RX12 258 yX12_set, .instanceMethod yX12_leaveNow, .selects RX12 yX12_leaveNow yX12_leaveNow, .methodLink RX12 354 yX12_leaveNow] : List Cond) ++ wsX120)
set_option maxRecDepth 20000 in
theorem g_X12_leave_0 : GoodIn q_X12_leave (va_wsS RX12 217 yX12_in q_X12_in_11) := goodIn_app (goodIn_r _ [4, 3, 2] rfl (by decide +kernel)) (goodIn_r (.code yX12_in cX12_in 3 (some .boolean) :: []) [1] rfl (by decide +kernel))
set_option maxRecDepth 20000 in
theorem g_X12_leave_1 : GoodIn q_X12_leave (wsV RX12 339 RX12 yX12_isRefused q_X12_isRefused_4) := goodIn_app (goodIn_r _ [10, 8, 9, 2] rfl (by decide +kernel)) (goodIn_ca (goodIn_r (.code yX12_isRefused cX12_isRefused 2 (some .boolean) :: [.fieldLink RX12 55 "LeftArgumentsModel" "refused" "[I"]) [6, 7] rfl (by decide +kernel)) (goodIn_sub (fun _ h => List.mem_cons_of_mem _ (List.mem_append_right _ h)) gwX12))
set_option maxRecDepth 20000 in
theorem g_X12_leave_2 : GoodIn q_X12_leave (wsV RX12 339 RX12 yX12_isRefused q_X12_isRefused_1) := goodIn_app (goodIn_r _ [10, 8, 9, 2] rfl (by decide +kernel)) (goodIn_ca (goodIn_r (.code yX12_isRefused cX12_isRefused 2 (some .boolean) :: [.fieldLink RX12 55 "LeftArgumentsModel" "refused" "[I"]) [6, 7] rfl (by decide +kernel)) (goodIn_sub (fun _ h => List.mem_cons_of_mem _ (List.mem_append_right _ h)) gwX12))
set_option maxRecDepth 20000 in
theorem g_X12_leave_3 : GoodIn q_X12_leave (va_wsS RX12 217 yX12_in q_X12_in_2) := goodIn_app (goodIn_r _ [4, 3, 2] rfl (by decide +kernel)) (goodIn_r (.code yX12_in cX12_in 3 (some .boolean) :: []) [1] rfl (by decide +kernel))
set_option maxRecDepth 20000 in
theorem g_X12_leave_9 : GoodIn q_X12_leave (wsV RX12 333 RX12 yX12_isShelf q_X12_isShelf) := goodIn_app (goodIn_r _ [15, 13, 14, 2] rfl (by decide +kernel)) (goodIn_ca (goodIn_r (.code yX12_isShelf cX12_isShelf 2 (some .boolean) :: [.fieldLink RX12 46 "LeftArgumentsModel" "rule" "[I", .code yX12_in cX12_in 3 (some .boolean), .initialized RX12, .static yX12_in, .methodLink RX12 217 yX12_in]) [11, 12, 1, 2, 3, 4] rfl (by decide +kernel)) (goodIn_sub (fun _ h => List.mem_cons_of_mem _ (List.mem_append_right _ h)) gwX12))
set_option maxRecDepth 20000 in
theorem g_X12_leave_12 : GoodIn q_X12_leave (wsV RX12 351 RX12 yX12_does q_X12_does) := goodIn_app (goodIn_r _ [32, 30, 31, 2] rfl (by decide +kernel)) (goodIn_ca (goodIn_r (.code yX12_does cX12_does 3 (some .boolean) :: [.code yX12_loadOf cX12_loadOf 4 (some .int), .code yX12_isThere cX12_isThere 2 (some .boolean), .code yX12_in cX12_in 3 (some .boolean), .initialized RX12, .static yX12_in, .methodLink RX12 217 yX12_in, .code yX12_of cX12_of 3 (some .int), .fieldLink RX12 52 "LeftArgumentsModel" "now" "[I", .instanceMethod yX12_of, .selects RX12 yX12_of yX12_of, .methodLink RX12 287 yX12_of, .instanceMethod yX12_isThere, .selects RX12 yX12_isThere yX12_isThere, .methodLink RX12 290 yX12_isThere, .instanceMethod yX12_loadOf, .selects RX12 yX12_loadOf yX12_loadOf, .methodLink RX12 312 yX12_loadOf, .fieldLink RX12 46 "LeftArgumentsModel" "rule" "[I"]) [16, 17, 18, 1, 2, 3, 4, 19, 20, 21, 22, 23, 24, 25, 26, 27, 28, 29, 12] rfl (by decide +kernel)) (goodIn_sub (fun _ h => List.mem_cons_of_mem _ (List.mem_append_right _ h)) gwX12))
set_option maxRecDepth 20000 in
theorem g_X12_leave_13 : GoodIn q_X12_leave (wsV RX12 339 RX12 yX12_isRefused q_X12_isRefused_2) := goodIn_app (goodIn_r _ [10, 8, 9, 2] rfl (by decide +kernel)) (goodIn_ca (goodIn_r (.code yX12_isRefused cX12_isRefused 2 (some .boolean) :: [.fieldLink RX12 55 "LeftArgumentsModel" "refused" "[I"]) [6, 7] rfl (by decide +kernel)) (goodIn_sub (fun _ h => List.mem_cons_of_mem _ (List.mem_append_right _ h)) gwX12))
set_option maxRecDepth 20000 in
theorem g_X12_leave_14 : GoodIn q_X12_leave (wsV RX12 348 RX12 yX12_freePlace q_X12_freePlace) := goodIn_app (goodIn_r _ [36, 34, 35, 2] rfl (by decide +kernel)) (goodIn_ca (goodIn_r (.code yX12_freePlace cX12_freePlace 2 (some .int) :: [.code yX12_isThere cX12_isThere 2 (some .boolean), .code yX12_in cX12_in 3 (some .boolean), .initialized RX12, .static yX12_in, .methodLink RX12 217 yX12_in, .code yX12_of cX12_of 3 (some .int), .fieldLink RX12 52 "LeftArgumentsModel" "now" "[I", .instanceMethod yX12_of, .selects RX12 yX12_of yX12_of, .methodLink RX12 287 yX12_of, .instanceMethod yX12_isThere, .selects RX12 yX12_isThere yX12_isThere, .methodLink RX12 290 yX12_isThere]) [33, 18, 1, 2, 3, 4, 19, 20, 21, 22, 23, 24, 25, 26] rfl (by decide +kernel)) (goodIn_sub (fun _ h => List.mem_cons_of_mem _ (List.mem_append_right _ h)) gwX12))
set_option maxRecDepth 20000 in
theorem g_X12_leave_15 : GoodIn q_X12_leave (wsV RX12 339 RX12 yX12_isRefused q_X12_isRefused) := goodIn_app (goodIn_r _ [10, 8, 9, 2] rfl (by decide +kernel)) (goodIn_r (.code yX12_isRefused cX12_isRefused 2 (some .boolean) :: []) [6] rfl (by decide +kernel))
set_option maxRecDepth 20000 in
theorem g_X12_leave_16 : GoodIn q_X12_leave (wsV RX12 342 RX12 yX12_keep q_X12_keep) := goodIn_app (goodIn_r _ [42, 40, 41, 2] rfl (by decide +kernel)) (goodIn_ca (goodIn_r (.code yX12_keep cX12_keep 2 none :: [.fieldLink RX12 275 "LeftArgumentsModel" "acts" "I", .fieldLink RX12 68 "LeftArgumentsModel" "kept" "[I", .fieldLink RX12 52 "LeftArgumentsModel" "now" "[I"]) [37, 38, 39, 20] rfl (by decide +kernel)) (goodIn_sub (fun _ h => List.mem_cons_of_mem _ (List.mem_append_right _ h)) gwX12))
set_option maxRecDepth 20000 in
theorem g_X12_leave_17 : GoodIn q_X12_leave (wsV RX12 354 RX12 yX12_leaveNow q_X12_leaveNow) := goodIn_app (goodIn_r _ [50, 48, 49, 2] rfl (by decide +kernel)) (goodIn_ca (goodIn_r (.code yX12_leaveNow cX12_leaveNow 6 (some .int) :: [.code yX12_freePlace cX12_freePlace 2 (some .int), .code yX12_isThere cX12_isThere 2 (some .boolean), .code yX12_in cX12_in 3 (some .boolean), .initialized RX12, .static yX12_in, .methodLink RX12 217 yX12_in, .code yX12_of cX12_of 3 (some .int), .fieldLink RX12 52 "LeftArgumentsModel" "now" "[I", .instanceMethod yX12_of, .selects RX12 yX12_of yX12_of, .methodLink RX12 287 yX12_of, .instanceMethod yX12_isThere, .selects RX12 yX12_isThere yX12_isThere, .methodLink RX12 290 yX12_isThere, .instanceMethod yX12_freePlace, .selects RX12 yX12_freePlace yX12_freePlace, .methodLink RX12 348 yX12_freePlace, .code yX12_set cX12_set 4 none, .instanceMethod yX12_set, .selects RX12 yX12_set yX12_set, .methodLink RX12 258 yX12_set]) [43, 33, 18, 1, 2, 3, 4, 19, 20, 21, 22, 23, 24, 25, 26, 34, 35, 36, 44, 45, 46, 47] rfl (by decide +kernel)) (goodIn_sub (fun _ h => List.mem_cons_of_mem _ (List.mem_append_right _ h)) gwX12))
set_option maxHeartbeats 4000000 in
set_option maxRecDepth 100000 in
theorem k_X12_leave (l : Launch) (dC : Nat → ClassId) (dI : Nat → Nat → Nat) (h0 : Nat) (h1 : Nat) (h2 : Nat) (h3 : Nat) (h4 : Nat) (v0 : Int32) (r0 : Nat) (v1 : Int32) (v2 : Int32) (v3 : Int32) (v4 : Int32) (r1 : Nat) (r2 : Nat) (r3 : Nat) (r4 : Nat) (r5 : Nat) (r6 : Nat) (r7 : Nat) (v5 : Int32) (v6 : Int32) (r8 : Nat) (r9 : Nat) (r10 : Nat) (r11 : Nat) (v7 : Int32) (r12 : Nat) (v8 : Int32) (v9 : Int32) (v10 : Int32) (v11 : Int32) (r13 : Nat) (v12 : Int32) (v13 : Int32) (v14 : Int32) (w15 : Int64) (r14 : Nat) (v16 : Int32) (v17 : Int32) (r15 : Nat) (r16 : Nat) (r17 : Nat) (r18 : Nat) (r19 : Nat) (r20 : Nat) (v18 : Int32) (r21 : Nat) (r22 : Nat) (r23 : Nat) (v19 : Int32) (g0 : ClassId) (f20 : Nat → Int32) (g1 : ClassId) (f21 : Nat → Int32) (g2 : ClassId) (f22 : Nat → Int32) (g3 : ClassId) (f23 : Nat → Int32) (v24 : Int32) (v25 : Int32) (v26 : Int32) (v27 : Int32) (i_v1 : 0 ≤ v1.toInt ∧ v1.toInt ≤ 240) (i_v5 : 0 ≤ v5.toInt ∧ v5.toInt ≤ 4) (i_v6 : 0 ≤ v6.toInt ∧ v6.toInt ≤ 4) (i_v7 : 0 ≤ v7.toInt ∧ v7.toInt ≤ 8) (i_v8 : 0 ≤ v8.toInt ∧ v8.toInt ≤ 8) (i_v9 : 0 ≤ v9.toInt ∧ v9.toInt ≤ 1) (i_v10 : -1 ≤ v10.toInt ∧ v10.toInt ≤ 3) (i_v14 : 0 ≤ v14.toInt ∧ v14.toInt ≤ 40) (i_v18 : 0 ≤ v18.toInt ∧ v18.toInt ≤ 10) (i_v19 : 0 ≤ v19.toInt ∧ v19.toInt ≤ 1) (ia_f20 : (pm_RU f20)) (ia_f21 : (pm_NW f21)) (ia_f23 : (pm_KP f23)) (sz : Nat) : Met l yX12_leave q_X12_leave ({ frames := 4, cells := 0, slots := 0, locals := 89 }) (va_Pc [.ref h0, .int v24, .int v25, .int v26, .int v27] (fun U => U.heap.size = sz ∧ va_P (dC, dI) vwCl (wd_56d90344 h0 v0 r0 v1 v2 v3 v4 r1 r2 r3 r4 r5 r6 r7 v5 v6 r8 r9 r10 r11 v7 h1 r12 v8 v9 h2 h3 v10 v11 r13 v12 v13 h4 v14 w15 r14 v16 v17 r15 r16 r17 r18 r19 r20 v18 r21 r22 r23 v19 h1 g0 f20 h2 g1 f21 h3 g2 f22 h4 g3 f23) U.heap ∧ va_K (dC, dI) vwCl [(g0, .int), (g1, .int), (g2, .int), (g3, .int)] U ∧ va_D (fun _ => True) (wd_56d90344 h0 v0 r0 v1 v2 v3 v4 r1 r2 r3 r4 r5 r6 r7 v5 v6 r8 r9 r10 r11 v7 h1 r12 v8 v9 h2 h3 v10 v11 r13 v12 v13 h4 v14 w15 r14 v16 v17 r15 r16 r17 r18 r19 r20 v18 r21 r22 r23 v19 h1 g0 f20 h2 g1 f21 h3 g2 f22 h4 g3 f23))) (va_Qi (fun (r : Int32) (r9 : Int32) => r9 = r) (fun (r : Int32) (t : State) => (∃ (o_h0_32 : Int32) (o_h2 : Nat → Int32) (o_h3 : Nat → Int32) (o_h4 : Nat → Int32), 0 ≤ o_h0_32.toInt ∧ o_h0_32.toInt ≤ 40 ∧ (pm_NW o_h2) ∧ (pm_KP o_h4) ∧ (-1 ≤ r.toInt) ∧ (r.toInt ≤ 7) ∧ va_P (dC, dI) vwCl (wd_56d90344 h0 v0 r0 v1 v2 v3 v4 r1 r2 r3 r4 r5 r6 r7 v5 v6 r8 r9 r10 r11 v7 h1 r12 v8 v9 h2 h3 v10 v11 r13 v12 v13 h4 o_h0_32 w15 r14 v16 v17 r15 r16 r17 r18 r19 r20 v18 r21 r22 r23 v19 h1 g0 f20 h2 g1 o_h2 h3 g2 o_h3 h4 g3 o_h4) t.heap ∧ va_K (dC, dI) vwCl [] t ∧ va_D (va_A (wd_56d90344 h0 v0 r0 v1 v2 v3 v4 r1 r2 r3 r4 r5 r6 r7 v5 v6 r8 r9 r10 r11 v7 h1 r12 v8 v9 h2 h3 v10 v11 r13 v12 v13 h4 v14 w15 r14 v16 v17 r15 r16 r17 r18 r19 r20 v18 r21 r22 r23 v19 h1 g0 f20 h2 g1 f21 h3 g2 f22 h4 g3 f23) sz) (wd_56d90344 h0 v0 r0 v1 v2 v3 v4 r1 r2 r3 r4 r5 r6 r7 v5 v6 r8 r9 r10 r11 v7 h1 r12 v8 v9 h2 h3 v10 v11 r13 v12 v13 h4 o_h0_32 w15 r14 v16 v17 r15 r16 r17 r18 r19 r20 v18 r21 r22 r23 v19 h1 g0 f20 h2 g1 o_h2 h3 g2 o_h3 h4 g3 o_h4))) (va_A (wd_56d90344 h0 v0 r0 v1 v2 v3 v4 r1 r2 r3 r4 r5 r6 r7 v5 v6 r8 r9 r10 r11 v7 h1 r12 v8 v9 h2 h3 v10 v11 r13 v12 v13 h4 v14 w15 r14 v16 v17 r15 r16 r17 r18 r19 r20 v18 r21 r22 r23 v19 h1 g0 f20 h2 g1 f21 h3 g2 f22 h4 g3 f23) sz)) 0 0 (va_A (wd_56d90344 h0 v0 r0 v1 v2 v3 v4 r1 r2 r3 r4 r5 r6 r7 v5 v6 r8 r9 r10 r11 v7 h1 r12 v8 v9 h2 h3 v10 v11 r13 v12 v13 h4 v14 w15 r14 v16 v17 r15 r16 r17 r18 r19 r20 v18 r21 r22 r23 v19 h1 g0 f20 h2 g1 f21 h3 g2 f22 h4 g3 f23) sz) := by
  refine Met.ofW (cc := cX12_leave) (maxL := 6) (ret := (some .int)) (by decide) rfl ?_
  intro p e s m args below meth c s₁ B hml hv
  obtain ⟨i_v1a, i_v1b⟩ := i_v1
  obtain ⟨i_v5a, i_v5b⟩ := i_v5
  obtain ⟨i_v6a, i_v6b⟩ := i_v6
  obtain ⟨i_v7a, i_v7b⟩ := i_v7
  obtain ⟨i_v8a, i_v8b⟩ := i_v8
  obtain ⟨i_v9a, i_v9b⟩ := i_v9
  obtain ⟨i_v10a, i_v10b⟩ := i_v10
  obtain ⟨i_v14a, i_v14b⟩ := i_v14
  obtain ⟨i_v18a, i_v18b⟩ := i_v18
  obtain ⟨i_v19a, i_v19b⟩ := i_v19
  obtain ⟨rfl, hsz, hP, hK, hD0⟩ := hv
  have hx := B.exec
  have hb := B.bytes
  have hr := B.returns
  have hts := atoms_spec (ws := q_X12_leave) B.pre
  have hown : s.vm.findClass RX12 = some m.cls := findClass_of_methodNamed B.named
  have hlocks := B.notSynchronized
  subst hsz
  have hD := hD0.self (sz := s.heap.size)
  generalize hAe : va_A (wd_56d90344 h0 v0 r0 v1 v2 v3 v4 r1 r2 r3 r4 r5 r6 r7 v5 v6 r8 r9 r10 r11 v7 h1 r12 v8 v9 h2 h3 v10 v11 r13 v12 v13 h4 v14 w15 r14 v16 v17 r15 r16 r17 r18 r19 r20 v18 r21 r22 r23 v19 h1 g0 f20 h2 g1 f21 h3 g2 f22 h4 g3 f23) s.heap.size = A at hD ⊢
  have hA : ∀ q : Nat, s.heap.size ≤ q → A q := fun q h => by rw [← hAe]; exact Or.inr h
  have hS : va_S A s.heap s.heap [] := va_S.rf
  generalize hQ : (MQ below _ _ s 0 0 A) = Q
  have hl := lv_entry ([.ref h0, .int v24, .int v25, .int v26, .int v27]) (n := 6) (Nat.le_of_ble_eq_true rfl)
  rw [lg_entry_eq]
  generalize (lg_sl ([.ref h0, .int v24, .int v25, .int v26, .int v27]) ++ List.replicate (6 - (lg_sl ([.ref h0, .int v24, .int v25, .int v26, .int v27])).length) Slot.unset).toArray = ls at hl ⊢
  have hl : lv_has ls 6 [(0, .ref h0), (1, .int v24), (2, .int v25), (3, .int v26), (4, .int v27)] := hl
  obtain ⟨H, hH⟩ : ∃ H : Heap, H = s.heap := ⟨_, rfl⟩
  obtain ⟨locs, hlocs⟩ : ∃ y : List Loc, y = [] := ⟨_, rfl⟩
  have hS : va_S A s.heap H locs := by rw [hH, hlocs]; exact va_S.rf
  have hP : va_P (dC, dI) vwCl (wd_56d90344 h0 v0 r0 v1 v2 v3 v4 r1 r2 r3 r4 r5 r6 r7 v5 v6 r8 r9 r10 r11 v7 h1 r12 v8 v9 h2 h3 v10 v11 r13 v12 v13 h4 v14 w15 r14 v16 v17 r15 r16 r17 r18 r19 r20 v18 r21 r22 r23 v19 h1 g0 f20 h2 g1 f21 h3 g2 f22 h4 g3 f23) H := by rw [hH]; exact hP
  rw [← hH, ← hlocs]
  refine lv_iload_n hx hb dX12_leave_0 rfl (lv_at hl 1 rfl) ?_
  refine lv_iconst (v := 1) hx hb dX12_leave_1 (by decide) ?_
  refine lv_bipush (v := 30) hx hb dX12_leave_2 (by decide) ?_
  have hPc := hP.sub (ws' := []) [] rfl
  have hDc := hD.sub (ws' := []) [] (by decide) rfl
  have hKc := hK.sub (tys' := []) [] rfl
  have hFc := va_free (wc := []) hD hS hA [] rfl
  refine va_calli (va_runS (As := [.int v24, .int 1, .int 30]) (rest := []) ⟨hx, hb, hml, hown, hts⟩ (k_X12_in_11 l dC dI v24  H.size) (va_cwS 3 hts g_X12_leave_0 rfl rfl rfl (by decide +kernel) ⟨Nat.le_of_ble_eq_true rfl, Nat.le_of_ble_eq_true rfl⟩) (pv_PS hPc hKc hDc) rfl rfl hl.1 rfl (lv_room (Nat.le_of_ble_eq_true rfl)) dX12_leave_4 ⟨Nat.le_of_ble_eq_true rfl, Nat.le_of_ble_eq_true rfl⟩) hS (fun q _ h => hFc q h) hFc (fun ra1 u t H1 locs ht hvm hwra1 hB hz1 hk1 hS => ?_)
  try rw [hwra1] at hB
  obtain ⟨pt0_ra1, pt1_ra1, pt2_ra1, pt3_ra1, pt4_ra1, hP1, hK1, hD1⟩ := hB
  rw [ht] at hP1
  obtain ⟨hP2, hD2⟩ := va_join (wr := (wd_56d90344 h0 v0 r0 v1 v2 v3 v4 r1 r2 r3 r4 r5 r6 r7 v5 v6 r8 r9 r10 r11 v7 h1 r12 v8 v9 h2 h3 v10 v11 r13 v12 v13 h4 v14 w15 r14 v16 v17 r15 r16 r17 r18 r19 r20 v18 r21 r22 r23 v19 h1 g0 f20 h2 g1 f21 h3 g2 f22 h4 g3 f23)) (w1 := []) hP hD [] [0, 1, 2, 3, 4] rfl rfl (by decide) (by decide) hk1 hFc hP1 hD1
  clear hP hD hPc hDc hKc hFc hP1 hK1 hD1 hk1 hz1
  generalize H1 = H at hP2 hS ⊢
  have hP : va_P (dC, dI) vwCl (wd_56d90344 h0 v0 r0 v1 v2 v3 v4 r1 r2 r3 r4 r5 r6 r7 v5 v6 r8 r9 r10 r11 v7 h1 r12 v8 v9 h2 h3 v10 v11 r13 v12 v13 h4 v14 w15 r14 v16 v17 r15 r16 r17 r18 r19 r20 v18 r21 r22 r23 v19 h1 g0 f20 h2 g1 f21 h3 g2 f22 h4 g3 f23) H := hP2
  have hD : va_D A (wd_56d90344 h0 v0 r0 v1 v2 v3 v4 r1 r2 r3 r4 r5 r6 r7 v5 v6 r8 r9 r10 r11 v7 h1 r12 v8 v9 h2 h3 v10 v11 r13 v12 v13 h4 v14 w15 r14 v16 v17 r15 r16 r17 r18 r19 r20 v18 r21 r22 r23 v19 h1 g0 f20 h2 g1 f21 h3 g2 f22 h4 g3 f23) := hD2
  clear hP2 hD2
  refine lv_if_eq (tgt := 43) hx hb dX12_leave_7 (by decide) (fun c2 => ?_) (fun c2 => ?_)
  · skip
    have fc2 : ra1.toInt = 0 := congrArg Int32.toInt c2
    refine lv_iconst (v := 0) hx hb dX12_leave_43 (by decide) ?_
    refine lv_istore (lv' := [(5, .int 0), (0, .ref h0), (1, .int v24), (2, .int v25), (3, .int v26), (4, .int v27)]) hx hb dX12_leave_44 hl (by decide) rfl (fun ls hl => ?_)
    refine lv_aload_n hx hb dX12_leave_46 rfl (lv_at hl 1 rfl) ?_
    refine lv_aload_n hx hb dX12_leave_47 rfl (lv_at hl 1 rfl) ?_
    refine va_get (D := (dC, dI)) (ci := 12) (v := .int v9) (C := RX12) (T := TX12) (N := 48) hx hb hts (fun _ h => List.mem_cons_of_mem _ (List.mem_append_right _ h)) hown hK hP 0 rfl rfl 23 (by decide) (hts (.fieldLink RX12 262 "LeftArgumentsModel" "isOffice" "Z") (List.mem_cons_of_mem _ (List.mem_append_left _ (List.mem_of_getElem? (i := 4) rfl)))) (fun _ h9 => h9) rfl dX12_leave_48 ?_
    refine lv_if_ne (tgt := 58) hx hb dX12_leave_51 (by decide) (fun c3 => ?_) (fun c3 => ?_)
    · skip
      have fc3 : ¬ (v9.toInt = 0) := fun h9 => c3 (Int32.toInt_inj.mp h9)
      refine lv_iload hx hb dX12_leave_58 (lv_at hl 0 rfl) ?_
      refine lv_if_ne (tgt := 67) hx hb dX12_leave_60 (by decide) (fun c => absurd (by decide) c) (fun _ => ?_)
      refine lv_iconst (v := 1) hx hb dX12_leave_63 (by decide) ?_
      refine lv_goto (tgt := 90) hx hb dX12_leave_64 (by decide) ?_
      have hPc := hP.sub (ws' := (wd_5b5f7811 h0 v0 r0 v1 v2 v3 v4 r1 r2 r3 r4 r5 r6 r7 v5 v6 r8 r9 r10 r11 v7 h1 r12 v8 v9 h2 h3 v10 v11 r13 v12 v13 h4 v14 w15 r14 v16 v17 r15 r16 r17 r18 r19 r20 v18 r21 r22 r23 v19 h3 g2 f22)) [0, 3] rfl
      have hDc := hD.sub (ws' := (wd_5b5f7811 h0 v0 r0 v1 v2 v3 v4 r1 r2 r3 r4 r5 r6 r7 v5 v6 r8 r9 r10 r11 v7 h1 r12 v8 v9 h2 h3 v10 v11 r13 v12 v13 h4 v14 w15 r14 v16 v17 r15 r16 r17 r18 r19 r20 v18 r21 r22 r23 v19 h3 g2 f22)) [0, 3] (by decide) rfl
      have hKc := hK.sub (tys' := [(g2, .int)]) [2] rfl
      have hFc := va_free (wc := (wd_5b5f7811 h0 v0 r0 v1 v2 v3 v4 r1 r2 r3 r4 r5 r6 r7 v5 v6 r8 r9 r10 r11 v7 h1 r12 v8 v9 h2 h3 v10 v11 r13 v12 v13 h4 v14 w15 r14 v16 v17 r15 r16 r17 r18 r19 r20 v18 r21 r22 r23 v19 h3 g2 f22)) hD hS hA [0, 3] rfl
      refine va_calli (va_runV (As := [.int 1]) (rest := []) ⟨hx, hb, hml, hown, hts⟩ (k_X12_isRefused_4 l dC dI h0 h3 v0 r0 v1 v2 v3 v4 r1 r2 r3 r4 r5 r6 r7 v5 v6 r8 r9 r10 r11 v7 h1 r12 v8 v9 h2 v10 v11 r13 v12 v13 h4 v14 w15 r14 v16 v17 r15 r16 r17 r18 r19 r20 v18 r21 r22 r23 v19 g2 f22 ⟨i_v1a, i_v1b⟩ ⟨i_v5a, i_v5b⟩ ⟨i_v6a, i_v6b⟩ ⟨i_v7a, i_v7b⟩ ⟨i_v8a, i_v8b⟩ ⟨i_v9a, i_v9b⟩ ⟨i_v10a, i_v10b⟩ ⟨i_v14a, i_v14b⟩ ⟨i_v18a, i_v18b⟩ ⟨i_v19a, i_v19b⟩ H.size) (cwV 1 hts g_X12_leave_1 rfl rfl rfl (by decide +kernel) ⟨Nat.le_of_ble_eq_true rfl, Nat.le_of_ble_eq_true rfl⟩) (pv_PV12 hPc hKc hDc (q0 := 0) rfl) rfl rfl hl.1 rfl (lv_room (Nat.le_of_ble_eq_true rfl)) dX12_leave_90 ⟨Nat.le_of_ble_eq_true rfl, Nat.le_of_ble_eq_true rfl⟩) hS (fun q _ h => hFc q h) hFc (fun ra4 u t H1 locs ht hvm hwra4 hB hz1 hk1 hS => ?_)
      try rw [hwra4] at hB
      obtain ⟨fn5, pt0_ra4, pt1_ra4, hP1, hK1, hD1⟩ := hB
      rw [ht] at hP1
      obtain ⟨hP2, hD2⟩ := va_join (wr := (wd_4b0b152d h1 g0 f20 h2 g1 f21 h4 g3 f23)) (w1 := (wd_5b5f7811 h0 v0 r0 v1 v2 v3 v4 r1 r2 r3 r4 r5 r6 r7 v5 v6 r8 r9 r10 r11 v7 h1 r12 v8 v9 h2 h3 v10 v11 r13 v12 v13 h4 v14 w15 r14 v16 v17 r15 r16 r17 r18 r19 r20 v18 r21 r22 r23 v19 h3 g2 fn5)) hP hD [0, 3] [1, 2, 4] rfl rfl (by decide) (by decide) hk1 hFc hP1 hD1
      clear hP hD hPc hDc hKc hFc hP1 hK1 hD1 hk1 hz1
      generalize H1 = H at hP2 hS ⊢
      have hP := hP2.sub (ws' := (wd_56d90344 h0 v0 r0 v1 v2 v3 v4 r1 r2 r3 r4 r5 r6 r7 v5 v6 r8 r9 r10 r11 v7 h1 r12 v8 v9 h2 h3 v10 v11 r13 v12 v13 h4 v14 w15 r14 v16 v17 r15 r16 r17 r18 r19 r20 v18 r21 r22 r23 v19 h1 g0 f20 h2 g1 f21 h3 g2 fn5 h4 g3 f23)) [3, 0, 1, 4, 2] rfl
      have hD := hD2.sub (ws' := (wd_56d90344 h0 v0 r0 v1 v2 v3 v4 r1 r2 r3 r4 r5 r6 r7 v5 v6 r8 r9 r10 r11 v7 h1 r12 v8 v9 h2 h3 v10 v11 r13 v12 v13 h4 v14 w15 r14 v16 v17 r15 r16 r17 r18 r19 r20 v18 r21 r22 r23 v19 h1 g0 f20 h2 g1 f21 h3 g2 fn5 h4 g3 f23)) [3, 0, 1, 4, 2] (by decide) rfl
      clear hP2 hD2
      obtain rfl : ra4 = (1 : Int32) := pv_cs (by decide) pt0_ra4 pt1_ra4
      refine lv_if_eq (tgt := 98) hx hb dX12_leave_93 (by decide) (fun c => absurd c (by decide)) (fun _ => ?_)
      refine lv_iconst (v := (-1)) hx hb dX12_leave_96 (by decide) ?_
      subst hQ
      have hP9 := hP.sub (ws' := (wd_56d90344 h0 v0 r0 v1 v2 v3 v4 r1 r2 r3 r4 r5 r6 r7 v5 v6 r8 r9 r10 r11 v7 h1 r12 v8 v9 h2 h3 v10 v11 r13 v12 v13 h4 v14 w15 r14 v16 v17 r15 r16 r17 r18 r19 r20 v18 r21 r22 r23 v19 h1 g0 f20 h2 g1 f21 h3 g2 fn5 h4 g3 f23)) [0, 1, 2, 3, 4] rfl
      have hD9 := hD.sub (ws' := (wd_56d90344 h0 v0 r0 v1 v2 v3 v4 r1 r2 r3 r4 r5 r6 r7 v5 v6 r8 r9 r10 r11 v7 h1 r12 v8 v9 h2 h3 v10 v11 r13 v12 v13 h4 v14 w15 r14 v16 v17 r15 r16 r17 r18 r19 r20 v18 r21 r22 r23 v19 h1 g0 f20 h2 g1 f21 h3 g2 fn5 h4 g3 f23)) [0, 1, 2, 3, 4] (by decide) rfl
      have hK9 := hK.sub (tys' := []) [] rfl
      exact W.iret (v := (-1)) hx hb hr (fun t ht hW => ⟨⟨(-1), (-1), rfl, rfl, ⟨v14, f21, fn5, f23, i_v14a, i_v14b, ia_f21, ia_f23, by first | omega | decide, by first | omega | decide, by rw [ht]; exact hP9, va_K.moved hW.alike hK9, hD9⟩⟩, hS.F ht⟩) hS.2.2 dX12_leave_97
    · skip
      have fc3 : v9.toInt = 0 := congrArg Int32.toInt c3
      refine lv_iconst (v := 0) hx hb dX12_leave_54 (by decide) ?_
      refine lv_goto (tgt := 90) hx hb dX12_leave_55 (by decide) ?_
      have hPc := hP.sub (ws' := (wd_5b5f7811 h0 v0 r0 v1 v2 v3 v4 r1 r2 r3 r4 r5 r6 r7 v5 v6 r8 r9 r10 r11 v7 h1 r12 v8 v9 h2 h3 v10 v11 r13 v12 v13 h4 v14 w15 r14 v16 v17 r15 r16 r17 r18 r19 r20 v18 r21 r22 r23 v19 h3 g2 f22)) [0, 3] rfl
      have hDc := hD.sub (ws' := (wd_5b5f7811 h0 v0 r0 v1 v2 v3 v4 r1 r2 r3 r4 r5 r6 r7 v5 v6 r8 r9 r10 r11 v7 h1 r12 v8 v9 h2 h3 v10 v11 r13 v12 v13 h4 v14 w15 r14 v16 v17 r15 r16 r17 r18 r19 r20 v18 r21 r22 r23 v19 h3 g2 f22)) [0, 3] (by decide) rfl
      have hKc := hK.sub (tys' := [(g2, .int)]) [2] rfl
      have hFc := va_free (wc := (wd_5b5f7811 h0 v0 r0 v1 v2 v3 v4 r1 r2 r3 r4 r5 r6 r7 v5 v6 r8 r9 r10 r11 v7 h1 r12 v8 v9 h2 h3 v10 v11 r13 v12 v13 h4 v14 w15 r14 v16 v17 r15 r16 r17 r18 r19 r20 v18 r21 r22 r23 v19 h3 g2 f22)) hD hS hA [0, 3] rfl
      refine va_calli (va_runV (As := [.int 0]) (rest := []) ⟨hx, hb, hml, hown, hts⟩ (k_X12_isRefused_1 l dC dI h0 h3 v0 r0 v1 v2 v3 v4 r1 r2 r3 r4 r5 r6 r7 v5 v6 r8 r9 r10 r11 v7 h1 r12 v8 v9 h2 v10 v11 r13 v12 v13 h4 v14 w15 r14 v16 v17 r15 r16 r17 r18 r19 r20 v18 r21 r22 r23 v19 g2 f22 ⟨i_v1a, i_v1b⟩ ⟨i_v5a, i_v5b⟩ ⟨i_v6a, i_v6b⟩ ⟨i_v7a, i_v7b⟩ ⟨i_v8a, i_v8b⟩ ⟨i_v9a, i_v9b⟩ ⟨i_v10a, i_v10b⟩ ⟨i_v14a, i_v14b⟩ ⟨i_v18a, i_v18b⟩ ⟨i_v19a, i_v19b⟩ H.size) (cwV 1 hts g_X12_leave_2 rfl rfl rfl (by decide +kernel) ⟨Nat.le_of_ble_eq_true rfl, Nat.le_of_ble_eq_true rfl⟩) (pv_PV12 hPc hKc hDc (q0 := 0) rfl) rfl rfl hl.1 rfl (lv_room (Nat.le_of_ble_eq_true rfl)) dX12_leave_90 ⟨Nat.le_of_ble_eq_true rfl, Nat.le_of_ble_eq_true rfl⟩) hS (fun q _ h => hFc q h) hFc (fun ra6 u t H1 locs ht hvm hwra6 hB hz1 hk1 hS => ?_)
      try rw [hwra6] at hB
      obtain ⟨fn7, pt0_ra6, pt1_ra6, hP1, hK1, hD1⟩ := hB
      rw [ht] at hP1
      obtain ⟨hP2, hD2⟩ := va_join (wr := (wd_4b0b152d h1 g0 f20 h2 g1 f21 h4 g3 f23)) (w1 := (wd_5b5f7811 h0 v0 r0 v1 v2 v3 v4 r1 r2 r3 r4 r5 r6 r7 v5 v6 r8 r9 r10 r11 v7 h1 r12 v8 v9 h2 h3 v10 v11 r13 v12 v13 h4 v14 w15 r14 v16 v17 r15 r16 r17 r18 r19 r20 v18 r21 r22 r23 v19 h3 g2 fn7)) hP hD [0, 3] [1, 2, 4] rfl rfl (by decide) (by decide) hk1 hFc hP1 hD1
      clear hP hD hPc hDc hKc hFc hP1 hK1 hD1 hk1 hz1
      generalize H1 = H at hP2 hS ⊢
      have hP := hP2.sub (ws' := (wd_56d90344 h0 v0 r0 v1 v2 v3 v4 r1 r2 r3 r4 r5 r6 r7 v5 v6 r8 r9 r10 r11 v7 h1 r12 v8 v9 h2 h3 v10 v11 r13 v12 v13 h4 v14 w15 r14 v16 v17 r15 r16 r17 r18 r19 r20 v18 r21 r22 r23 v19 h1 g0 f20 h2 g1 f21 h3 g2 fn7 h4 g3 f23)) [3, 0, 1, 4, 2] rfl
      have hD := hD2.sub (ws' := (wd_56d90344 h0 v0 r0 v1 v2 v3 v4 r1 r2 r3 r4 r5 r6 r7 v5 v6 r8 r9 r10 r11 v7 h1 r12 v8 v9 h2 h3 v10 v11 r13 v12 v13 h4 v14 w15 r14 v16 v17 r15 r16 r17 r18 r19 r20 v18 r21 r22 r23 v19 h1 g0 f20 h2 g1 f21 h3 g2 fn7 h4 g3 f23)) [3, 0, 1, 4, 2] (by decide) rfl
      clear hP2 hD2
      obtain rfl : ra6 = (1 : Int32) := pv_cs (by decide) pt0_ra6 pt1_ra6
      refine lv_if_eq (tgt := 98) hx hb dX12_leave_93 (by decide) (fun c => absurd c (by decide)) (fun _ => ?_)
      refine lv_iconst (v := (-1)) hx hb dX12_leave_96 (by decide) ?_
      subst hQ
      have hP9 := hP.sub (ws' := (wd_56d90344 h0 v0 r0 v1 v2 v3 v4 r1 r2 r3 r4 r5 r6 r7 v5 v6 r8 r9 r10 r11 v7 h1 r12 v8 v9 h2 h3 v10 v11 r13 v12 v13 h4 v14 w15 r14 v16 v17 r15 r16 r17 r18 r19 r20 v18 r21 r22 r23 v19 h1 g0 f20 h2 g1 f21 h3 g2 fn7 h4 g3 f23)) [0, 1, 2, 3, 4] rfl
      have hD9 := hD.sub (ws' := (wd_56d90344 h0 v0 r0 v1 v2 v3 v4 r1 r2 r3 r4 r5 r6 r7 v5 v6 r8 r9 r10 r11 v7 h1 r12 v8 v9 h2 h3 v10 v11 r13 v12 v13 h4 v14 w15 r14 v16 v17 r15 r16 r17 r18 r19 r20 v18 r21 r22 r23 v19 h1 g0 f20 h2 g1 f21 h3 g2 fn7 h4 g3 f23)) [0, 1, 2, 3, 4] (by decide) rfl
      have hK9 := hK.sub (tys' := []) [] rfl
      exact W.iret (v := (-1)) hx hb hr (fun t ht hW => ⟨⟨(-1), (-1), rfl, rfl, ⟨v14, f21, fn7, f23, i_v14a, i_v14b, ia_f21, ia_f23, by first | omega | decide, by first | omega | decide, by rw [ht]; exact hP9, va_K.moved hW.alike hK9, hD9⟩⟩, hS.F ht⟩) hS.2.2 dX12_leave_97
  · skip
    have fc2 : ¬ (ra1.toInt = 0) := fun h9 => c2 (Int32.toInt_inj.mp h9)
    refine lv_iload_n hx hb dX12_leave_10 rfl (lv_at hl 2 rfl) ?_
    refine lv_iconst (v := 0) hx hb dX12_leave_11 (by decide) ?_
    refine lv_bipush (v := 9) hx hb dX12_leave_12 (by decide) ?_
    have hPc := hP.sub (ws' := []) [] rfl
    have hDc := hD.sub (ws' := []) [] (by decide) rfl
    have hKc := hK.sub (tys' := []) [] rfl
    have hFc := va_free (wc := []) hD hS hA [] rfl
    refine va_calli (va_runS (As := [.int v25, .int 0, .int 9]) (rest := []) ⟨hx, hb, hml, hown, hts⟩ (k_X12_in_2 l dC dI v25  H.size) (va_cwS 3 hts g_X12_leave_3 rfl rfl rfl (by decide +kernel) ⟨Nat.le_of_ble_eq_true rfl, Nat.le_of_ble_eq_true rfl⟩) (pv_PS hPc hKc hDc) rfl rfl hl.1 rfl (lv_room (Nat.le_of_ble_eq_true rfl)) dX12_leave_14 ⟨Nat.le_of_ble_eq_true rfl, Nat.le_of_ble_eq_true rfl⟩) hS (fun q _ h => hFc q h) hFc (fun ra8 u t H1 locs ht hvm hwra8 hB hz1 hk1 hS => ?_)
    try rw [hwra8] at hB
    obtain ⟨pt0_ra8, pt1_ra8, pt2_ra8, pt3_ra8, pt4_ra8, hP1, hK1, hD1⟩ := hB
    rw [ht] at hP1
    obtain ⟨hP2, hD2⟩ := va_join (wr := (wd_56d90344 h0 v0 r0 v1 v2 v3 v4 r1 r2 r3 r4 r5 r6 r7 v5 v6 r8 r9 r10 r11 v7 h1 r12 v8 v9 h2 h3 v10 v11 r13 v12 v13 h4 v14 w15 r14 v16 v17 r15 r16 r17 r18 r19 r20 v18 r21 r22 r23 v19 h1 g0 f20 h2 g1 f21 h3 g2 f22 h4 g3 f23)) (w1 := []) hP hD [] [0, 1, 2, 3, 4] rfl rfl (by decide) (by decide) hk1 hFc hP1 hD1
    clear hP hD hPc hDc hKc hFc hP1 hK1 hD1 hk1 hz1
    generalize H1 = H at hP2 hS ⊢
    have hP : va_P (dC, dI) vwCl (wd_56d90344 h0 v0 r0 v1 v2 v3 v4 r1 r2 r3 r4 r5 r6 r7 v5 v6 r8 r9 r10 r11 v7 h1 r12 v8 v9 h2 h3 v10 v11 r13 v12 v13 h4 v14 w15 r14 v16 v17 r15 r16 r17 r18 r19 r20 v18 r21 r22 r23 v19 h1 g0 f20 h2 g1 f21 h3 g2 f22 h4 g3 f23) H := hP2
    have hD : va_D A (wd_56d90344 h0 v0 r0 v1 v2 v3 v4 r1 r2 r3 r4 r5 r6 r7 v5 v6 r8 r9 r10 r11 v7 h1 r12 v8 v9 h2 h3 v10 v11 r13 v12 v13 h4 v14 w15 r14 v16 v17 r15 r16 r17 r18 r19 r20 v18 r21 r22 r23 v19 h1 g0 f20 h2 g1 f21 h3 g2 f22 h4 g3 f23) := hD2
    clear hP2 hD2
    refine lv_if_eq (tgt := 43) hx hb dX12_leave_17 (by decide) (fun c9 => ?_) (fun c9 => ?_)
    · skip
      have fc9 : ra8.toInt = 0 := congrArg Int32.toInt c9
      refine lv_iconst (v := 0) hx hb dX12_leave_43 (by decide) ?_
      refine lv_istore (lv' := [(5, .int 0), (0, .ref h0), (1, .int v24), (2, .int v25), (3, .int v26), (4, .int v27)]) hx hb dX12_leave_44 hl (by decide) rfl (fun ls hl => ?_)
      refine lv_aload_n hx hb dX12_leave_46 rfl (lv_at hl 1 rfl) ?_
      refine lv_aload_n hx hb dX12_leave_47 rfl (lv_at hl 1 rfl) ?_
      refine va_get (D := (dC, dI)) (ci := 12) (v := .int v9) (C := RX12) (T := TX12) (N := 48) hx hb hts (fun _ h => List.mem_cons_of_mem _ (List.mem_append_right _ h)) hown hK hP 0 rfl rfl 23 (by decide) (hts (.fieldLink RX12 262 "LeftArgumentsModel" "isOffice" "Z") (List.mem_cons_of_mem _ (List.mem_append_left _ (List.mem_of_getElem? (i := 4) rfl)))) (fun _ h9 => h9) rfl dX12_leave_48 ?_
      refine lv_if_ne (tgt := 58) hx hb dX12_leave_51 (by decide) (fun c10 => ?_) (fun c10 => ?_)
      · skip
        have fc10 : ¬ (v9.toInt = 0) := fun h9 => c10 (Int32.toInt_inj.mp h9)
        refine lv_iload hx hb dX12_leave_58 (lv_at hl 0 rfl) ?_
        refine lv_if_ne (tgt := 67) hx hb dX12_leave_60 (by decide) (fun c => absurd (by decide) c) (fun _ => ?_)
        refine lv_iconst (v := 1) hx hb dX12_leave_63 (by decide) ?_
        refine lv_goto (tgt := 90) hx hb dX12_leave_64 (by decide) ?_
        have hPc := hP.sub (ws' := (wd_5b5f7811 h0 v0 r0 v1 v2 v3 v4 r1 r2 r3 r4 r5 r6 r7 v5 v6 r8 r9 r10 r11 v7 h1 r12 v8 v9 h2 h3 v10 v11 r13 v12 v13 h4 v14 w15 r14 v16 v17 r15 r16 r17 r18 r19 r20 v18 r21 r22 r23 v19 h3 g2 f22)) [0, 3] rfl
        have hDc := hD.sub (ws' := (wd_5b5f7811 h0 v0 r0 v1 v2 v3 v4 r1 r2 r3 r4 r5 r6 r7 v5 v6 r8 r9 r10 r11 v7 h1 r12 v8 v9 h2 h3 v10 v11 r13 v12 v13 h4 v14 w15 r14 v16 v17 r15 r16 r17 r18 r19 r20 v18 r21 r22 r23 v19 h3 g2 f22)) [0, 3] (by decide) rfl
        have hKc := hK.sub (tys' := [(g2, .int)]) [2] rfl
        have hFc := va_free (wc := (wd_5b5f7811 h0 v0 r0 v1 v2 v3 v4 r1 r2 r3 r4 r5 r6 r7 v5 v6 r8 r9 r10 r11 v7 h1 r12 v8 v9 h2 h3 v10 v11 r13 v12 v13 h4 v14 w15 r14 v16 v17 r15 r16 r17 r18 r19 r20 v18 r21 r22 r23 v19 h3 g2 f22)) hD hS hA [0, 3] rfl
        refine va_calli (va_runV (As := [.int 1]) (rest := []) ⟨hx, hb, hml, hown, hts⟩ (k_X12_isRefused_4 l dC dI h0 h3 v0 r0 v1 v2 v3 v4 r1 r2 r3 r4 r5 r6 r7 v5 v6 r8 r9 r10 r11 v7 h1 r12 v8 v9 h2 v10 v11 r13 v12 v13 h4 v14 w15 r14 v16 v17 r15 r16 r17 r18 r19 r20 v18 r21 r22 r23 v19 g2 f22 ⟨i_v1a, i_v1b⟩ ⟨i_v5a, i_v5b⟩ ⟨i_v6a, i_v6b⟩ ⟨i_v7a, i_v7b⟩ ⟨i_v8a, i_v8b⟩ ⟨i_v9a, i_v9b⟩ ⟨i_v10a, i_v10b⟩ ⟨i_v14a, i_v14b⟩ ⟨i_v18a, i_v18b⟩ ⟨i_v19a, i_v19b⟩ H.size) (cwV 1 hts g_X12_leave_1 rfl rfl rfl (by decide +kernel) ⟨Nat.le_of_ble_eq_true rfl, Nat.le_of_ble_eq_true rfl⟩) (pv_PV12 hPc hKc hDc (q0 := 0) rfl) rfl rfl hl.1 rfl (lv_room (Nat.le_of_ble_eq_true rfl)) dX12_leave_90 ⟨Nat.le_of_ble_eq_true rfl, Nat.le_of_ble_eq_true rfl⟩) hS (fun q _ h => hFc q h) hFc (fun ra11 u t H1 locs ht hvm hwra11 hB hz1 hk1 hS => ?_)
        try rw [hwra11] at hB
        obtain ⟨fn12, pt0_ra11, pt1_ra11, hP1, hK1, hD1⟩ := hB
        rw [ht] at hP1
        obtain ⟨hP2, hD2⟩ := va_join (wr := (wd_4b0b152d h1 g0 f20 h2 g1 f21 h4 g3 f23)) (w1 := (wd_5b5f7811 h0 v0 r0 v1 v2 v3 v4 r1 r2 r3 r4 r5 r6 r7 v5 v6 r8 r9 r10 r11 v7 h1 r12 v8 v9 h2 h3 v10 v11 r13 v12 v13 h4 v14 w15 r14 v16 v17 r15 r16 r17 r18 r19 r20 v18 r21 r22 r23 v19 h3 g2 fn12)) hP hD [0, 3] [1, 2, 4] rfl rfl (by decide) (by decide) hk1 hFc hP1 hD1
        clear hP hD hPc hDc hKc hFc hP1 hK1 hD1 hk1 hz1
        generalize H1 = H at hP2 hS ⊢
        have hP := hP2.sub (ws' := (wd_56d90344 h0 v0 r0 v1 v2 v3 v4 r1 r2 r3 r4 r5 r6 r7 v5 v6 r8 r9 r10 r11 v7 h1 r12 v8 v9 h2 h3 v10 v11 r13 v12 v13 h4 v14 w15 r14 v16 v17 r15 r16 r17 r18 r19 r20 v18 r21 r22 r23 v19 h1 g0 f20 h2 g1 f21 h3 g2 fn12 h4 g3 f23)) [3, 0, 1, 4, 2] rfl
        have hD := hD2.sub (ws' := (wd_56d90344 h0 v0 r0 v1 v2 v3 v4 r1 r2 r3 r4 r5 r6 r7 v5 v6 r8 r9 r10 r11 v7 h1 r12 v8 v9 h2 h3 v10 v11 r13 v12 v13 h4 v14 w15 r14 v16 v17 r15 r16 r17 r18 r19 r20 v18 r21 r22 r23 v19 h1 g0 f20 h2 g1 f21 h3 g2 fn12 h4 g3 f23)) [3, 0, 1, 4, 2] (by decide) rfl
        clear hP2 hD2
        obtain rfl : ra11 = (1 : Int32) := pv_cs (by decide) pt0_ra11 pt1_ra11
        refine lv_if_eq (tgt := 98) hx hb dX12_leave_93 (by decide) (fun c => absurd c (by decide)) (fun _ => ?_)
        refine lv_iconst (v := (-1)) hx hb dX12_leave_96 (by decide) ?_
        subst hQ
        have hP9 := hP.sub (ws' := (wd_56d90344 h0 v0 r0 v1 v2 v3 v4 r1 r2 r3 r4 r5 r6 r7 v5 v6 r8 r9 r10 r11 v7 h1 r12 v8 v9 h2 h3 v10 v11 r13 v12 v13 h4 v14 w15 r14 v16 v17 r15 r16 r17 r18 r19 r20 v18 r21 r22 r23 v19 h1 g0 f20 h2 g1 f21 h3 g2 fn12 h4 g3 f23)) [0, 1, 2, 3, 4] rfl
        have hD9 := hD.sub (ws' := (wd_56d90344 h0 v0 r0 v1 v2 v3 v4 r1 r2 r3 r4 r5 r6 r7 v5 v6 r8 r9 r10 r11 v7 h1 r12 v8 v9 h2 h3 v10 v11 r13 v12 v13 h4 v14 w15 r14 v16 v17 r15 r16 r17 r18 r19 r20 v18 r21 r22 r23 v19 h1 g0 f20 h2 g1 f21 h3 g2 fn12 h4 g3 f23)) [0, 1, 2, 3, 4] (by decide) rfl
        have hK9 := hK.sub (tys' := []) [] rfl
        exact W.iret (v := (-1)) hx hb hr (fun t ht hW => ⟨⟨(-1), (-1), rfl, rfl, ⟨v14, f21, fn12, f23, i_v14a, i_v14b, ia_f21, ia_f23, by first | omega | decide, by first | omega | decide, by rw [ht]; exact hP9, va_K.moved hW.alike hK9, hD9⟩⟩, hS.F ht⟩) hS.2.2 dX12_leave_97
      · skip
        have fc10 : v9.toInt = 0 := congrArg Int32.toInt c10
        refine lv_iconst (v := 0) hx hb dX12_leave_54 (by decide) ?_
        refine lv_goto (tgt := 90) hx hb dX12_leave_55 (by decide) ?_
        have hPc := hP.sub (ws' := (wd_5b5f7811 h0 v0 r0 v1 v2 v3 v4 r1 r2 r3 r4 r5 r6 r7 v5 v6 r8 r9 r10 r11 v7 h1 r12 v8 v9 h2 h3 v10 v11 r13 v12 v13 h4 v14 w15 r14 v16 v17 r15 r16 r17 r18 r19 r20 v18 r21 r22 r23 v19 h3 g2 f22)) [0, 3] rfl
        have hDc := hD.sub (ws' := (wd_5b5f7811 h0 v0 r0 v1 v2 v3 v4 r1 r2 r3 r4 r5 r6 r7 v5 v6 r8 r9 r10 r11 v7 h1 r12 v8 v9 h2 h3 v10 v11 r13 v12 v13 h4 v14 w15 r14 v16 v17 r15 r16 r17 r18 r19 r20 v18 r21 r22 r23 v19 h3 g2 f22)) [0, 3] (by decide) rfl
        have hKc := hK.sub (tys' := [(g2, .int)]) [2] rfl
        have hFc := va_free (wc := (wd_5b5f7811 h0 v0 r0 v1 v2 v3 v4 r1 r2 r3 r4 r5 r6 r7 v5 v6 r8 r9 r10 r11 v7 h1 r12 v8 v9 h2 h3 v10 v11 r13 v12 v13 h4 v14 w15 r14 v16 v17 r15 r16 r17 r18 r19 r20 v18 r21 r22 r23 v19 h3 g2 f22)) hD hS hA [0, 3] rfl
        refine va_calli (va_runV (As := [.int 0]) (rest := []) ⟨hx, hb, hml, hown, hts⟩ (k_X12_isRefused_1 l dC dI h0 h3 v0 r0 v1 v2 v3 v4 r1 r2 r3 r4 r5 r6 r7 v5 v6 r8 r9 r10 r11 v7 h1 r12 v8 v9 h2 v10 v11 r13 v12 v13 h4 v14 w15 r14 v16 v17 r15 r16 r17 r18 r19 r20 v18 r21 r22 r23 v19 g2 f22 ⟨i_v1a, i_v1b⟩ ⟨i_v5a, i_v5b⟩ ⟨i_v6a, i_v6b⟩ ⟨i_v7a, i_v7b⟩ ⟨i_v8a, i_v8b⟩ ⟨i_v9a, i_v9b⟩ ⟨i_v10a, i_v10b⟩ ⟨i_v14a, i_v14b⟩ ⟨i_v18a, i_v18b⟩ ⟨i_v19a, i_v19b⟩ H.size) (cwV 1 hts g_X12_leave_2 rfl rfl rfl (by decide +kernel) ⟨Nat.le_of_ble_eq_true rfl, Nat.le_of_ble_eq_true rfl⟩) (pv_PV12 hPc hKc hDc (q0 := 0) rfl) rfl rfl hl.1 rfl (lv_room (Nat.le_of_ble_eq_true rfl)) dX12_leave_90 ⟨Nat.le_of_ble_eq_true rfl, Nat.le_of_ble_eq_true rfl⟩) hS (fun q _ h => hFc q h) hFc (fun ra13 u t H1 locs ht hvm hwra13 hB hz1 hk1 hS => ?_)
        try rw [hwra13] at hB
        obtain ⟨fn14, pt0_ra13, pt1_ra13, hP1, hK1, hD1⟩ := hB
        rw [ht] at hP1
        obtain ⟨hP2, hD2⟩ := va_join (wr := (wd_4b0b152d h1 g0 f20 h2 g1 f21 h4 g3 f23)) (w1 := (wd_5b5f7811 h0 v0 r0 v1 v2 v3 v4 r1 r2 r3 r4 r5 r6 r7 v5 v6 r8 r9 r10 r11 v7 h1 r12 v8 v9 h2 h3 v10 v11 r13 v12 v13 h4 v14 w15 r14 v16 v17 r15 r16 r17 r18 r19 r20 v18 r21 r22 r23 v19 h3 g2 fn14)) hP hD [0, 3] [1, 2, 4] rfl rfl (by decide) (by decide) hk1 hFc hP1 hD1
        clear hP hD hPc hDc hKc hFc hP1 hK1 hD1 hk1 hz1
        generalize H1 = H at hP2 hS ⊢
        have hP := hP2.sub (ws' := (wd_56d90344 h0 v0 r0 v1 v2 v3 v4 r1 r2 r3 r4 r5 r6 r7 v5 v6 r8 r9 r10 r11 v7 h1 r12 v8 v9 h2 h3 v10 v11 r13 v12 v13 h4 v14 w15 r14 v16 v17 r15 r16 r17 r18 r19 r20 v18 r21 r22 r23 v19 h1 g0 f20 h2 g1 f21 h3 g2 fn14 h4 g3 f23)) [3, 0, 1, 4, 2] rfl
        have hD := hD2.sub (ws' := (wd_56d90344 h0 v0 r0 v1 v2 v3 v4 r1 r2 r3 r4 r5 r6 r7 v5 v6 r8 r9 r10 r11 v7 h1 r12 v8 v9 h2 h3 v10 v11 r13 v12 v13 h4 v14 w15 r14 v16 v17 r15 r16 r17 r18 r19 r20 v18 r21 r22 r23 v19 h1 g0 f20 h2 g1 f21 h3 g2 fn14 h4 g3 f23)) [3, 0, 1, 4, 2] (by decide) rfl
        clear hP2 hD2
        obtain rfl : ra13 = (1 : Int32) := pv_cs (by decide) pt0_ra13 pt1_ra13
        refine lv_if_eq (tgt := 98) hx hb dX12_leave_93 (by decide) (fun c => absurd c (by decide)) (fun _ => ?_)
        refine lv_iconst (v := (-1)) hx hb dX12_leave_96 (by decide) ?_
        subst hQ
        have hP9 := hP.sub (ws' := (wd_56d90344 h0 v0 r0 v1 v2 v3 v4 r1 r2 r3 r4 r5 r6 r7 v5 v6 r8 r9 r10 r11 v7 h1 r12 v8 v9 h2 h3 v10 v11 r13 v12 v13 h4 v14 w15 r14 v16 v17 r15 r16 r17 r18 r19 r20 v18 r21 r22 r23 v19 h1 g0 f20 h2 g1 f21 h3 g2 fn14 h4 g3 f23)) [0, 1, 2, 3, 4] rfl
        have hD9 := hD.sub (ws' := (wd_56d90344 h0 v0 r0 v1 v2 v3 v4 r1 r2 r3 r4 r5 r6 r7 v5 v6 r8 r9 r10 r11 v7 h1 r12 v8 v9 h2 h3 v10 v11 r13 v12 v13 h4 v14 w15 r14 v16 v17 r15 r16 r17 r18 r19 r20 v18 r21 r22 r23 v19 h1 g0 f20 h2 g1 f21 h3 g2 fn14 h4 g3 f23)) [0, 1, 2, 3, 4] (by decide) rfl
        have hK9 := hK.sub (tys' := []) [] rfl
        exact W.iret (v := (-1)) hx hb hr (fun t ht hW => ⟨⟨(-1), (-1), rfl, rfl, ⟨v14, f21, fn14, f23, i_v14a, i_v14b, ia_f21, ia_f23, by first | omega | decide, by first | omega | decide, by rw [ht]; exact hP9, va_K.moved hW.alike hK9, hD9⟩⟩, hS.F ht⟩) hS.2.2 dX12_leave_97
    · skip
      have fc9 : ¬ (ra8.toInt = 0) := fun h9 => c9 (Int32.toInt_inj.mp h9)
      refine lv_iload_n hx hb dX12_leave_20 rfl (lv_at hl 3 rfl) ?_
      refine lv_iconst (v := 0) hx hb dX12_leave_21 (by decide) ?_
      refine lv_bipush (v := 9) hx hb dX12_leave_22 (by decide) ?_
      have hPc := hP.sub (ws' := []) [] rfl
      have hDc := hD.sub (ws' := []) [] (by decide) rfl
      have hKc := hK.sub (tys' := []) [] rfl
      have hFc := va_free (wc := []) hD hS hA [] rfl
      refine va_calli (va_runS (As := [.int v26, .int 0, .int 9]) (rest := []) ⟨hx, hb, hml, hown, hts⟩ (k_X12_in_2 l dC dI v26  H.size) (va_cwS 3 hts g_X12_leave_3 rfl rfl rfl (by decide +kernel) ⟨Nat.le_of_ble_eq_true rfl, Nat.le_of_ble_eq_true rfl⟩) (pv_PS hPc hKc hDc) rfl rfl hl.1 rfl (lv_room (Nat.le_of_ble_eq_true rfl)) dX12_leave_24 ⟨Nat.le_of_ble_eq_true rfl, Nat.le_of_ble_eq_true rfl⟩) hS (fun q _ h => hFc q h) hFc (fun ra15 u t H1 locs ht hvm hwra15 hB hz1 hk1 hS => ?_)
      try rw [hwra15] at hB
      obtain ⟨pt0_ra15, pt1_ra15, pt2_ra15, pt3_ra15, pt4_ra15, hP1, hK1, hD1⟩ := hB
      rw [ht] at hP1
      obtain ⟨hP2, hD2⟩ := va_join (wr := (wd_56d90344 h0 v0 r0 v1 v2 v3 v4 r1 r2 r3 r4 r5 r6 r7 v5 v6 r8 r9 r10 r11 v7 h1 r12 v8 v9 h2 h3 v10 v11 r13 v12 v13 h4 v14 w15 r14 v16 v17 r15 r16 r17 r18 r19 r20 v18 r21 r22 r23 v19 h1 g0 f20 h2 g1 f21 h3 g2 f22 h4 g3 f23)) (w1 := []) hP hD [] [0, 1, 2, 3, 4] rfl rfl (by decide) (by decide) hk1 hFc hP1 hD1
      clear hP hD hPc hDc hKc hFc hP1 hK1 hD1 hk1 hz1
      generalize H1 = H at hP2 hS ⊢
      have hP : va_P (dC, dI) vwCl (wd_56d90344 h0 v0 r0 v1 v2 v3 v4 r1 r2 r3 r4 r5 r6 r7 v5 v6 r8 r9 r10 r11 v7 h1 r12 v8 v9 h2 h3 v10 v11 r13 v12 v13 h4 v14 w15 r14 v16 v17 r15 r16 r17 r18 r19 r20 v18 r21 r22 r23 v19 h1 g0 f20 h2 g1 f21 h3 g2 f22 h4 g3 f23) H := hP2
      have hD : va_D A (wd_56d90344 h0 v0 r0 v1 v2 v3 v4 r1 r2 r3 r4 r5 r6 r7 v5 v6 r8 r9 r10 r11 v7 h1 r12 v8 v9 h2 h3 v10 v11 r13 v12 v13 h4 v14 w15 r14 v16 v17 r15 r16 r17 r18 r19 r20 v18 r21 r22 r23 v19 h1 g0 f20 h2 g1 f21 h3 g2 f22 h4 g3 f23) := hD2
      clear hP2 hD2
      refine lv_if_eq (tgt := 43) hx hb dX12_leave_27 (by decide) (fun c16 => ?_) (fun c16 => ?_)
      · skip
        have fc16 : ra15.toInt = 0 := congrArg Int32.toInt c16
        refine lv_iconst (v := 0) hx hb dX12_leave_43 (by decide) ?_
        refine lv_istore (lv' := [(5, .int 0), (0, .ref h0), (1, .int v24), (2, .int v25), (3, .int v26), (4, .int v27)]) hx hb dX12_leave_44 hl (by decide) rfl (fun ls hl => ?_)
        refine lv_aload_n hx hb dX12_leave_46 rfl (lv_at hl 1 rfl) ?_
        refine lv_aload_n hx hb dX12_leave_47 rfl (lv_at hl 1 rfl) ?_
        refine va_get (D := (dC, dI)) (ci := 12) (v := .int v9) (C := RX12) (T := TX12) (N := 48) hx hb hts (fun _ h => List.mem_cons_of_mem _ (List.mem_append_right _ h)) hown hK hP 0 rfl rfl 23 (by decide) (hts (.fieldLink RX12 262 "LeftArgumentsModel" "isOffice" "Z") (List.mem_cons_of_mem _ (List.mem_append_left _ (List.mem_of_getElem? (i := 4) rfl)))) (fun _ h9 => h9) rfl dX12_leave_48 ?_
        refine lv_if_ne (tgt := 58) hx hb dX12_leave_51 (by decide) (fun c17 => ?_) (fun c17 => ?_)
        · skip
          have fc17 : ¬ (v9.toInt = 0) := fun h9 => c17 (Int32.toInt_inj.mp h9)
          refine lv_iload hx hb dX12_leave_58 (lv_at hl 0 rfl) ?_
          refine lv_if_ne (tgt := 67) hx hb dX12_leave_60 (by decide) (fun c => absurd (by decide) c) (fun _ => ?_)
          refine lv_iconst (v := 1) hx hb dX12_leave_63 (by decide) ?_
          refine lv_goto (tgt := 90) hx hb dX12_leave_64 (by decide) ?_
          have hPc := hP.sub (ws' := (wd_5b5f7811 h0 v0 r0 v1 v2 v3 v4 r1 r2 r3 r4 r5 r6 r7 v5 v6 r8 r9 r10 r11 v7 h1 r12 v8 v9 h2 h3 v10 v11 r13 v12 v13 h4 v14 w15 r14 v16 v17 r15 r16 r17 r18 r19 r20 v18 r21 r22 r23 v19 h3 g2 f22)) [0, 3] rfl
          have hDc := hD.sub (ws' := (wd_5b5f7811 h0 v0 r0 v1 v2 v3 v4 r1 r2 r3 r4 r5 r6 r7 v5 v6 r8 r9 r10 r11 v7 h1 r12 v8 v9 h2 h3 v10 v11 r13 v12 v13 h4 v14 w15 r14 v16 v17 r15 r16 r17 r18 r19 r20 v18 r21 r22 r23 v19 h3 g2 f22)) [0, 3] (by decide) rfl
          have hKc := hK.sub (tys' := [(g2, .int)]) [2] rfl
          have hFc := va_free (wc := (wd_5b5f7811 h0 v0 r0 v1 v2 v3 v4 r1 r2 r3 r4 r5 r6 r7 v5 v6 r8 r9 r10 r11 v7 h1 r12 v8 v9 h2 h3 v10 v11 r13 v12 v13 h4 v14 w15 r14 v16 v17 r15 r16 r17 r18 r19 r20 v18 r21 r22 r23 v19 h3 g2 f22)) hD hS hA [0, 3] rfl
          refine va_calli (va_runV (As := [.int 1]) (rest := []) ⟨hx, hb, hml, hown, hts⟩ (k_X12_isRefused_4 l dC dI h0 h3 v0 r0 v1 v2 v3 v4 r1 r2 r3 r4 r5 r6 r7 v5 v6 r8 r9 r10 r11 v7 h1 r12 v8 v9 h2 v10 v11 r13 v12 v13 h4 v14 w15 r14 v16 v17 r15 r16 r17 r18 r19 r20 v18 r21 r22 r23 v19 g2 f22 ⟨i_v1a, i_v1b⟩ ⟨i_v5a, i_v5b⟩ ⟨i_v6a, i_v6b⟩ ⟨i_v7a, i_v7b⟩ ⟨i_v8a, i_v8b⟩ ⟨i_v9a, i_v9b⟩ ⟨i_v10a, i_v10b⟩ ⟨i_v14a, i_v14b⟩ ⟨i_v18a, i_v18b⟩ ⟨i_v19a, i_v19b⟩ H.size) (cwV 1 hts g_X12_leave_1 rfl rfl rfl (by decide +kernel) ⟨Nat.le_of_ble_eq_true rfl, Nat.le_of_ble_eq_true rfl⟩) (pv_PV12 hPc hKc hDc (q0 := 0) rfl) rfl rfl hl.1 rfl (lv_room (Nat.le_of_ble_eq_true rfl)) dX12_leave_90 ⟨Nat.le_of_ble_eq_true rfl, Nat.le_of_ble_eq_true rfl⟩) hS (fun q _ h => hFc q h) hFc (fun ra18 u t H1 locs ht hvm hwra18 hB hz1 hk1 hS => ?_)
          try rw [hwra18] at hB
          obtain ⟨fn19, pt0_ra18, pt1_ra18, hP1, hK1, hD1⟩ := hB
          rw [ht] at hP1
          obtain ⟨hP2, hD2⟩ := va_join (wr := (wd_4b0b152d h1 g0 f20 h2 g1 f21 h4 g3 f23)) (w1 := (wd_5b5f7811 h0 v0 r0 v1 v2 v3 v4 r1 r2 r3 r4 r5 r6 r7 v5 v6 r8 r9 r10 r11 v7 h1 r12 v8 v9 h2 h3 v10 v11 r13 v12 v13 h4 v14 w15 r14 v16 v17 r15 r16 r17 r18 r19 r20 v18 r21 r22 r23 v19 h3 g2 fn19)) hP hD [0, 3] [1, 2, 4] rfl rfl (by decide) (by decide) hk1 hFc hP1 hD1
          clear hP hD hPc hDc hKc hFc hP1 hK1 hD1 hk1 hz1
          generalize H1 = H at hP2 hS ⊢
          have hP := hP2.sub (ws' := (wd_56d90344 h0 v0 r0 v1 v2 v3 v4 r1 r2 r3 r4 r5 r6 r7 v5 v6 r8 r9 r10 r11 v7 h1 r12 v8 v9 h2 h3 v10 v11 r13 v12 v13 h4 v14 w15 r14 v16 v17 r15 r16 r17 r18 r19 r20 v18 r21 r22 r23 v19 h1 g0 f20 h2 g1 f21 h3 g2 fn19 h4 g3 f23)) [3, 0, 1, 4, 2] rfl
          have hD := hD2.sub (ws' := (wd_56d90344 h0 v0 r0 v1 v2 v3 v4 r1 r2 r3 r4 r5 r6 r7 v5 v6 r8 r9 r10 r11 v7 h1 r12 v8 v9 h2 h3 v10 v11 r13 v12 v13 h4 v14 w15 r14 v16 v17 r15 r16 r17 r18 r19 r20 v18 r21 r22 r23 v19 h1 g0 f20 h2 g1 f21 h3 g2 fn19 h4 g3 f23)) [3, 0, 1, 4, 2] (by decide) rfl
          clear hP2 hD2
          obtain rfl : ra18 = (1 : Int32) := pv_cs (by decide) pt0_ra18 pt1_ra18
          refine lv_if_eq (tgt := 98) hx hb dX12_leave_93 (by decide) (fun c => absurd c (by decide)) (fun _ => ?_)
          refine lv_iconst (v := (-1)) hx hb dX12_leave_96 (by decide) ?_
          subst hQ
          have hP9 := hP.sub (ws' := (wd_56d90344 h0 v0 r0 v1 v2 v3 v4 r1 r2 r3 r4 r5 r6 r7 v5 v6 r8 r9 r10 r11 v7 h1 r12 v8 v9 h2 h3 v10 v11 r13 v12 v13 h4 v14 w15 r14 v16 v17 r15 r16 r17 r18 r19 r20 v18 r21 r22 r23 v19 h1 g0 f20 h2 g1 f21 h3 g2 fn19 h4 g3 f23)) [0, 1, 2, 3, 4] rfl
          have hD9 := hD.sub (ws' := (wd_56d90344 h0 v0 r0 v1 v2 v3 v4 r1 r2 r3 r4 r5 r6 r7 v5 v6 r8 r9 r10 r11 v7 h1 r12 v8 v9 h2 h3 v10 v11 r13 v12 v13 h4 v14 w15 r14 v16 v17 r15 r16 r17 r18 r19 r20 v18 r21 r22 r23 v19 h1 g0 f20 h2 g1 f21 h3 g2 fn19 h4 g3 f23)) [0, 1, 2, 3, 4] (by decide) rfl
          have hK9 := hK.sub (tys' := []) [] rfl
          exact W.iret (v := (-1)) hx hb hr (fun t ht hW => ⟨⟨(-1), (-1), rfl, rfl, ⟨v14, f21, fn19, f23, i_v14a, i_v14b, ia_f21, ia_f23, by first | omega | decide, by first | omega | decide, by rw [ht]; exact hP9, va_K.moved hW.alike hK9, hD9⟩⟩, hS.F ht⟩) hS.2.2 dX12_leave_97
        · skip
          have fc17 : v9.toInt = 0 := congrArg Int32.toInt c17
          refine lv_iconst (v := 0) hx hb dX12_leave_54 (by decide) ?_
          refine lv_goto (tgt := 90) hx hb dX12_leave_55 (by decide) ?_
          have hPc := hP.sub (ws' := (wd_5b5f7811 h0 v0 r0 v1 v2 v3 v4 r1 r2 r3 r4 r5 r6 r7 v5 v6 r8 r9 r10 r11 v7 h1 r12 v8 v9 h2 h3 v10 v11 r13 v12 v13 h4 v14 w15 r14 v16 v17 r15 r16 r17 r18 r19 r20 v18 r21 r22 r23 v19 h3 g2 f22)) [0, 3] rfl
          have hDc := hD.sub (ws' := (wd_5b5f7811 h0 v0 r0 v1 v2 v3 v4 r1 r2 r3 r4 r5 r6 r7 v5 v6 r8 r9 r10 r11 v7 h1 r12 v8 v9 h2 h3 v10 v11 r13 v12 v13 h4 v14 w15 r14 v16 v17 r15 r16 r17 r18 r19 r20 v18 r21 r22 r23 v19 h3 g2 f22)) [0, 3] (by decide) rfl
          have hKc := hK.sub (tys' := [(g2, .int)]) [2] rfl
          have hFc := va_free (wc := (wd_5b5f7811 h0 v0 r0 v1 v2 v3 v4 r1 r2 r3 r4 r5 r6 r7 v5 v6 r8 r9 r10 r11 v7 h1 r12 v8 v9 h2 h3 v10 v11 r13 v12 v13 h4 v14 w15 r14 v16 v17 r15 r16 r17 r18 r19 r20 v18 r21 r22 r23 v19 h3 g2 f22)) hD hS hA [0, 3] rfl
          refine va_calli (va_runV (As := [.int 0]) (rest := []) ⟨hx, hb, hml, hown, hts⟩ (k_X12_isRefused_1 l dC dI h0 h3 v0 r0 v1 v2 v3 v4 r1 r2 r3 r4 r5 r6 r7 v5 v6 r8 r9 r10 r11 v7 h1 r12 v8 v9 h2 v10 v11 r13 v12 v13 h4 v14 w15 r14 v16 v17 r15 r16 r17 r18 r19 r20 v18 r21 r22 r23 v19 g2 f22 ⟨i_v1a, i_v1b⟩ ⟨i_v5a, i_v5b⟩ ⟨i_v6a, i_v6b⟩ ⟨i_v7a, i_v7b⟩ ⟨i_v8a, i_v8b⟩ ⟨i_v9a, i_v9b⟩ ⟨i_v10a, i_v10b⟩ ⟨i_v14a, i_v14b⟩ ⟨i_v18a, i_v18b⟩ ⟨i_v19a, i_v19b⟩ H.size) (cwV 1 hts g_X12_leave_2 rfl rfl rfl (by decide +kernel) ⟨Nat.le_of_ble_eq_true rfl, Nat.le_of_ble_eq_true rfl⟩) (pv_PV12 hPc hKc hDc (q0 := 0) rfl) rfl rfl hl.1 rfl (lv_room (Nat.le_of_ble_eq_true rfl)) dX12_leave_90 ⟨Nat.le_of_ble_eq_true rfl, Nat.le_of_ble_eq_true rfl⟩) hS (fun q _ h => hFc q h) hFc (fun ra20 u t H1 locs ht hvm hwra20 hB hz1 hk1 hS => ?_)
          try rw [hwra20] at hB
          obtain ⟨fn21, pt0_ra20, pt1_ra20, hP1, hK1, hD1⟩ := hB
          rw [ht] at hP1
          obtain ⟨hP2, hD2⟩ := va_join (wr := (wd_4b0b152d h1 g0 f20 h2 g1 f21 h4 g3 f23)) (w1 := (wd_5b5f7811 h0 v0 r0 v1 v2 v3 v4 r1 r2 r3 r4 r5 r6 r7 v5 v6 r8 r9 r10 r11 v7 h1 r12 v8 v9 h2 h3 v10 v11 r13 v12 v13 h4 v14 w15 r14 v16 v17 r15 r16 r17 r18 r19 r20 v18 r21 r22 r23 v19 h3 g2 fn21)) hP hD [0, 3] [1, 2, 4] rfl rfl (by decide) (by decide) hk1 hFc hP1 hD1
          clear hP hD hPc hDc hKc hFc hP1 hK1 hD1 hk1 hz1
          generalize H1 = H at hP2 hS ⊢
          have hP := hP2.sub (ws' := (wd_56d90344 h0 v0 r0 v1 v2 v3 v4 r1 r2 r3 r4 r5 r6 r7 v5 v6 r8 r9 r10 r11 v7 h1 r12 v8 v9 h2 h3 v10 v11 r13 v12 v13 h4 v14 w15 r14 v16 v17 r15 r16 r17 r18 r19 r20 v18 r21 r22 r23 v19 h1 g0 f20 h2 g1 f21 h3 g2 fn21 h4 g3 f23)) [3, 0, 1, 4, 2] rfl
          have hD := hD2.sub (ws' := (wd_56d90344 h0 v0 r0 v1 v2 v3 v4 r1 r2 r3 r4 r5 r6 r7 v5 v6 r8 r9 r10 r11 v7 h1 r12 v8 v9 h2 h3 v10 v11 r13 v12 v13 h4 v14 w15 r14 v16 v17 r15 r16 r17 r18 r19 r20 v18 r21 r22 r23 v19 h1 g0 f20 h2 g1 f21 h3 g2 fn21 h4 g3 f23)) [3, 0, 1, 4, 2] (by decide) rfl
          clear hP2 hD2
          obtain rfl : ra20 = (1 : Int32) := pv_cs (by decide) pt0_ra20 pt1_ra20
          refine lv_if_eq (tgt := 98) hx hb dX12_leave_93 (by decide) (fun c => absurd c (by decide)) (fun _ => ?_)
          refine lv_iconst (v := (-1)) hx hb dX12_leave_96 (by decide) ?_
          subst hQ
          have hP9 := hP.sub (ws' := (wd_56d90344 h0 v0 r0 v1 v2 v3 v4 r1 r2 r3 r4 r5 r6 r7 v5 v6 r8 r9 r10 r11 v7 h1 r12 v8 v9 h2 h3 v10 v11 r13 v12 v13 h4 v14 w15 r14 v16 v17 r15 r16 r17 r18 r19 r20 v18 r21 r22 r23 v19 h1 g0 f20 h2 g1 f21 h3 g2 fn21 h4 g3 f23)) [0, 1, 2, 3, 4] rfl
          have hD9 := hD.sub (ws' := (wd_56d90344 h0 v0 r0 v1 v2 v3 v4 r1 r2 r3 r4 r5 r6 r7 v5 v6 r8 r9 r10 r11 v7 h1 r12 v8 v9 h2 h3 v10 v11 r13 v12 v13 h4 v14 w15 r14 v16 v17 r15 r16 r17 r18 r19 r20 v18 r21 r22 r23 v19 h1 g0 f20 h2 g1 f21 h3 g2 fn21 h4 g3 f23)) [0, 1, 2, 3, 4] (by decide) rfl
          have hK9 := hK.sub (tys' := []) [] rfl
          exact W.iret (v := (-1)) hx hb hr (fun t ht hW => ⟨⟨(-1), (-1), rfl, rfl, ⟨v14, f21, fn21, f23, i_v14a, i_v14b, ia_f21, ia_f23, by first | omega | decide, by first | omega | decide, by rw [ht]; exact hP9, va_K.moved hW.alike hK9, hD9⟩⟩, hS.F ht⟩) hS.2.2 dX12_leave_97
      · skip
        have fc16 : ¬ (ra15.toInt = 0) := fun h9 => c16 (Int32.toInt_inj.mp h9)
        refine lv_aload_n hx hb dX12_leave_30 rfl (lv_at hl 0 rfl) ?_
        refine lv_iload hx hb dX12_leave_31 (lv_at hl 4 rfl) ?_
        have hPc := hP.sub (ws' := (wd_50966390 h0 v0 r0 v1 v2 v3 v4 r1 r2 r3 r4 r5 r6 r7 v5 v6 r8 r9 r10 r11 v7 h1 r12 v8 v9 h2 h3 v10 v11 r13 v12 v13 h4 v14 w15 r14 v16 v17 r15 r16 r17 r18 r19 r20 v18 r21 r22 r23 v19 h1 g0 f20)) [0, 1] rfl
        have hDc := hD.sub (ws' := (wd_50966390 h0 v0 r0 v1 v2 v3 v4 r1 r2 r3 r4 r5 r6 r7 v5 v6 r8 r9 r10 r11 v7 h1 r12 v8 v9 h2 h3 v10 v11 r13 v12 v13 h4 v14 w15 r14 v16 v17 r15 r16 r17 r18 r19 r20 v18 r21 r22 r23 v19 h1 g0 f20)) [0, 1] (by decide) rfl
        have hKc := hK.sub (tys' := [(g0, .int)]) [0] rfl
        have hFc := va_free (wc := (wd_50966390 h0 v0 r0 v1 v2 v3 v4 r1 r2 r3 r4 r5 r6 r7 v5 v6 r8 r9 r10 r11 v7 h1 r12 v8 v9 h2 h3 v10 v11 r13 v12 v13 h4 v14 w15 r14 v16 v17 r15 r16 r17 r18 r19 r20 v18 r21 r22 r23 v19 h1 g0 f20)) hD hS hA [0, 1] rfl
        refine va_calli (va_runV (As := [.int v27]) (rest := []) ⟨hx, hb, hml, hown, hts⟩ (k_X12_isShelf l dC dI h0 h1 v0 r0 v1 v2 v3 v4 r1 r2 r3 r4 r5 r6 r7 v5 v6 r8 r9 r10 r11 v7 r12 v8 v9 h2 h3 v10 v11 r13 v12 v13 h4 v14 w15 r14 v16 v17 r15 r16 r17 r18 r19 r20 v18 r21 r22 r23 v19 g0 f20 v27 ⟨i_v1a, i_v1b⟩ ⟨i_v5a, i_v5b⟩ ⟨i_v6a, i_v6b⟩ ⟨i_v7a, i_v7b⟩ ⟨i_v8a, i_v8b⟩ ⟨i_v9a, i_v9b⟩ ⟨i_v10a, i_v10b⟩ ⟨i_v14a, i_v14b⟩ ⟨i_v18a, i_v18b⟩ ⟨i_v19a, i_v19b⟩ ia_f20 H.size) (cwV 1 hts g_X12_leave_9 rfl rfl rfl (by decide +kernel) ⟨Nat.le_of_ble_eq_true rfl, Nat.le_of_ble_eq_true rfl⟩) (pv_PV12 hPc hKc hDc (q0 := 0) rfl) rfl rfl hl.1 rfl (lv_room (Nat.le_of_ble_eq_true rfl)) dX12_leave_33 ⟨Nat.le_of_ble_eq_true rfl, Nat.le_of_ble_eq_true rfl⟩) hS (fun q _ h => hFc q h) hFc (fun ra22 u t H1 locs ht hvm hwra22 hB hz1 hk1 hS => ?_)
        try rw [hwra22] at hB
        obtain ⟨pt0_ra22, pt1_ra22, hP1, hK1, hD1⟩ := hB
        rw [ht] at hP1
        obtain ⟨hP2, hD2⟩ := va_join (wr := (wd_9ef0db97 h2 g1 f21 h3 g2 f22 h4 g3 f23)) (w1 := (wd_50966390 h0 v0 r0 v1 v2 v3 v4 r1 r2 r3 r4 r5 r6 r7 v5 v6 r8 r9 r10 r11 v7 h1 r12 v8 v9 h2 h3 v10 v11 r13 v12 v13 h4 v14 w15 r14 v16 v17 r15 r16 r17 r18 r19 r20 v18 r21 r22 r23 v19 h1 g0 f20)) hP hD [0, 1] [2, 3, 4] rfl rfl (by decide) (by decide) hk1 hFc hP1 hD1
        clear hP hD hPc hDc hKc hFc hP1 hK1 hD1 hk1 hz1
        generalize H1 = H at hP2 hS ⊢
        have hP := hP2.sub (ws' := (wd_56d90344 h0 v0 r0 v1 v2 v3 v4 r1 r2 r3 r4 r5 r6 r7 v5 v6 r8 r9 r10 r11 v7 h1 r12 v8 v9 h2 h3 v10 v11 r13 v12 v13 h4 v14 w15 r14 v16 v17 r15 r16 r17 r18 r19 r20 v18 r21 r22 r23 v19 h1 g0 f20 h2 g1 f21 h3 g2 f22 h4 g3 f23)) [3, 4, 0, 1, 2] rfl
        have hD := hD2.sub (ws' := (wd_56d90344 h0 v0 r0 v1 v2 v3 v4 r1 r2 r3 r4 r5 r6 r7 v5 v6 r8 r9 r10 r11 v7 h1 r12 v8 v9 h2 h3 v10 v11 r13 v12 v13 h4 v14 w15 r14 v16 v17 r15 r16 r17 r18 r19 r20 v18 r21 r22 r23 v19 h1 g0 f20 h2 g1 f21 h3 g2 f22 h4 g3 f23)) [3, 4, 0, 1, 2] (by decide) rfl
        clear hP2 hD2
        refine lv_if_eq (tgt := 43) hx hb dX12_leave_36 (by decide) (fun c23 => ?_) (fun c23 => ?_)
        · skip
          have fc23 : ra22.toInt = 0 := congrArg Int32.toInt c23
          refine lv_iconst (v := 0) hx hb dX12_leave_43 (by decide) ?_
          refine lv_istore (lv' := [(5, .int 0), (0, .ref h0), (1, .int v24), (2, .int v25), (3, .int v26), (4, .int v27)]) hx hb dX12_leave_44 hl (by decide) rfl (fun ls hl => ?_)
          refine lv_aload_n hx hb dX12_leave_46 rfl (lv_at hl 1 rfl) ?_
          refine lv_aload_n hx hb dX12_leave_47 rfl (lv_at hl 1 rfl) ?_
          refine va_get (D := (dC, dI)) (ci := 12) (v := .int v9) (C := RX12) (T := TX12) (N := 48) hx hb hts (fun _ h => List.mem_cons_of_mem _ (List.mem_append_right _ h)) hown hK hP 0 rfl rfl 23 (by decide) (hts (.fieldLink RX12 262 "LeftArgumentsModel" "isOffice" "Z") (List.mem_cons_of_mem _ (List.mem_append_left _ (List.mem_of_getElem? (i := 4) rfl)))) (fun _ h9 => h9) rfl dX12_leave_48 ?_
          refine lv_if_ne (tgt := 58) hx hb dX12_leave_51 (by decide) (fun c24 => ?_) (fun c24 => ?_)
          · skip
            have fc24 : ¬ (v9.toInt = 0) := fun h9 => c24 (Int32.toInt_inj.mp h9)
            refine lv_iload hx hb dX12_leave_58 (lv_at hl 0 rfl) ?_
            refine lv_if_ne (tgt := 67) hx hb dX12_leave_60 (by decide) (fun c => absurd (by decide) c) (fun _ => ?_)
            refine lv_iconst (v := 1) hx hb dX12_leave_63 (by decide) ?_
            refine lv_goto (tgt := 90) hx hb dX12_leave_64 (by decide) ?_
            have hPc := hP.sub (ws' := (wd_5b5f7811 h0 v0 r0 v1 v2 v3 v4 r1 r2 r3 r4 r5 r6 r7 v5 v6 r8 r9 r10 r11 v7 h1 r12 v8 v9 h2 h3 v10 v11 r13 v12 v13 h4 v14 w15 r14 v16 v17 r15 r16 r17 r18 r19 r20 v18 r21 r22 r23 v19 h3 g2 f22)) [0, 3] rfl
            have hDc := hD.sub (ws' := (wd_5b5f7811 h0 v0 r0 v1 v2 v3 v4 r1 r2 r3 r4 r5 r6 r7 v5 v6 r8 r9 r10 r11 v7 h1 r12 v8 v9 h2 h3 v10 v11 r13 v12 v13 h4 v14 w15 r14 v16 v17 r15 r16 r17 r18 r19 r20 v18 r21 r22 r23 v19 h3 g2 f22)) [0, 3] (by decide) rfl
            have hKc := hK.sub (tys' := [(g2, .int)]) [2] rfl
            have hFc := va_free (wc := (wd_5b5f7811 h0 v0 r0 v1 v2 v3 v4 r1 r2 r3 r4 r5 r6 r7 v5 v6 r8 r9 r10 r11 v7 h1 r12 v8 v9 h2 h3 v10 v11 r13 v12 v13 h4 v14 w15 r14 v16 v17 r15 r16 r17 r18 r19 r20 v18 r21 r22 r23 v19 h3 g2 f22)) hD hS hA [0, 3] rfl
            refine va_calli (va_runV (As := [.int 1]) (rest := []) ⟨hx, hb, hml, hown, hts⟩ (k_X12_isRefused_4 l dC dI h0 h3 v0 r0 v1 v2 v3 v4 r1 r2 r3 r4 r5 r6 r7 v5 v6 r8 r9 r10 r11 v7 h1 r12 v8 v9 h2 v10 v11 r13 v12 v13 h4 v14 w15 r14 v16 v17 r15 r16 r17 r18 r19 r20 v18 r21 r22 r23 v19 g2 f22 ⟨i_v1a, i_v1b⟩ ⟨i_v5a, i_v5b⟩ ⟨i_v6a, i_v6b⟩ ⟨i_v7a, i_v7b⟩ ⟨i_v8a, i_v8b⟩ ⟨i_v9a, i_v9b⟩ ⟨i_v10a, i_v10b⟩ ⟨i_v14a, i_v14b⟩ ⟨i_v18a, i_v18b⟩ ⟨i_v19a, i_v19b⟩ H.size) (cwV 1 hts g_X12_leave_1 rfl rfl rfl (by decide +kernel) ⟨Nat.le_of_ble_eq_true rfl, Nat.le_of_ble_eq_true rfl⟩) (pv_PV12 hPc hKc hDc (q0 := 0) rfl) rfl rfl hl.1 rfl (lv_room (Nat.le_of_ble_eq_true rfl)) dX12_leave_90 ⟨Nat.le_of_ble_eq_true rfl, Nat.le_of_ble_eq_true rfl⟩) hS (fun q _ h => hFc q h) hFc (fun ra25 u t H1 locs ht hvm hwra25 hB hz1 hk1 hS => ?_)
            try rw [hwra25] at hB
            obtain ⟨fn26, pt0_ra25, pt1_ra25, hP1, hK1, hD1⟩ := hB
            rw [ht] at hP1
            obtain ⟨hP2, hD2⟩ := va_join (wr := (wd_4b0b152d h1 g0 f20 h2 g1 f21 h4 g3 f23)) (w1 := (wd_5b5f7811 h0 v0 r0 v1 v2 v3 v4 r1 r2 r3 r4 r5 r6 r7 v5 v6 r8 r9 r10 r11 v7 h1 r12 v8 v9 h2 h3 v10 v11 r13 v12 v13 h4 v14 w15 r14 v16 v17 r15 r16 r17 r18 r19 r20 v18 r21 r22 r23 v19 h3 g2 fn26)) hP hD [0, 3] [1, 2, 4] rfl rfl (by decide) (by decide) hk1 hFc hP1 hD1
            clear hP hD hPc hDc hKc hFc hP1 hK1 hD1 hk1 hz1
            generalize H1 = H at hP2 hS ⊢
            have hP := hP2.sub (ws' := (wd_56d90344 h0 v0 r0 v1 v2 v3 v4 r1 r2 r3 r4 r5 r6 r7 v5 v6 r8 r9 r10 r11 v7 h1 r12 v8 v9 h2 h3 v10 v11 r13 v12 v13 h4 v14 w15 r14 v16 v17 r15 r16 r17 r18 r19 r20 v18 r21 r22 r23 v19 h1 g0 f20 h2 g1 f21 h3 g2 fn26 h4 g3 f23)) [3, 0, 1, 4, 2] rfl
            have hD := hD2.sub (ws' := (wd_56d90344 h0 v0 r0 v1 v2 v3 v4 r1 r2 r3 r4 r5 r6 r7 v5 v6 r8 r9 r10 r11 v7 h1 r12 v8 v9 h2 h3 v10 v11 r13 v12 v13 h4 v14 w15 r14 v16 v17 r15 r16 r17 r18 r19 r20 v18 r21 r22 r23 v19 h1 g0 f20 h2 g1 f21 h3 g2 fn26 h4 g3 f23)) [3, 0, 1, 4, 2] (by decide) rfl
            clear hP2 hD2
            obtain rfl : ra25 = (1 : Int32) := pv_cs (by decide) pt0_ra25 pt1_ra25
            refine lv_if_eq (tgt := 98) hx hb dX12_leave_93 (by decide) (fun c => absurd c (by decide)) (fun _ => ?_)
            refine lv_iconst (v := (-1)) hx hb dX12_leave_96 (by decide) ?_
            subst hQ
            have hP9 := hP.sub (ws' := (wd_56d90344 h0 v0 r0 v1 v2 v3 v4 r1 r2 r3 r4 r5 r6 r7 v5 v6 r8 r9 r10 r11 v7 h1 r12 v8 v9 h2 h3 v10 v11 r13 v12 v13 h4 v14 w15 r14 v16 v17 r15 r16 r17 r18 r19 r20 v18 r21 r22 r23 v19 h1 g0 f20 h2 g1 f21 h3 g2 fn26 h4 g3 f23)) [0, 1, 2, 3, 4] rfl
            have hD9 := hD.sub (ws' := (wd_56d90344 h0 v0 r0 v1 v2 v3 v4 r1 r2 r3 r4 r5 r6 r7 v5 v6 r8 r9 r10 r11 v7 h1 r12 v8 v9 h2 h3 v10 v11 r13 v12 v13 h4 v14 w15 r14 v16 v17 r15 r16 r17 r18 r19 r20 v18 r21 r22 r23 v19 h1 g0 f20 h2 g1 f21 h3 g2 fn26 h4 g3 f23)) [0, 1, 2, 3, 4] (by decide) rfl
            have hK9 := hK.sub (tys' := []) [] rfl
            exact W.iret (v := (-1)) hx hb hr (fun t ht hW => ⟨⟨(-1), (-1), rfl, rfl, ⟨v14, f21, fn26, f23, i_v14a, i_v14b, ia_f21, ia_f23, by first | omega | decide, by first | omega | decide, by rw [ht]; exact hP9, va_K.moved hW.alike hK9, hD9⟩⟩, hS.F ht⟩) hS.2.2 dX12_leave_97
          · skip
            have fc24 : v9.toInt = 0 := congrArg Int32.toInt c24
            refine lv_iconst (v := 0) hx hb dX12_leave_54 (by decide) ?_
            refine lv_goto (tgt := 90) hx hb dX12_leave_55 (by decide) ?_
            have hPc := hP.sub (ws' := (wd_5b5f7811 h0 v0 r0 v1 v2 v3 v4 r1 r2 r3 r4 r5 r6 r7 v5 v6 r8 r9 r10 r11 v7 h1 r12 v8 v9 h2 h3 v10 v11 r13 v12 v13 h4 v14 w15 r14 v16 v17 r15 r16 r17 r18 r19 r20 v18 r21 r22 r23 v19 h3 g2 f22)) [0, 3] rfl
            have hDc := hD.sub (ws' := (wd_5b5f7811 h0 v0 r0 v1 v2 v3 v4 r1 r2 r3 r4 r5 r6 r7 v5 v6 r8 r9 r10 r11 v7 h1 r12 v8 v9 h2 h3 v10 v11 r13 v12 v13 h4 v14 w15 r14 v16 v17 r15 r16 r17 r18 r19 r20 v18 r21 r22 r23 v19 h3 g2 f22)) [0, 3] (by decide) rfl
            have hKc := hK.sub (tys' := [(g2, .int)]) [2] rfl
            have hFc := va_free (wc := (wd_5b5f7811 h0 v0 r0 v1 v2 v3 v4 r1 r2 r3 r4 r5 r6 r7 v5 v6 r8 r9 r10 r11 v7 h1 r12 v8 v9 h2 h3 v10 v11 r13 v12 v13 h4 v14 w15 r14 v16 v17 r15 r16 r17 r18 r19 r20 v18 r21 r22 r23 v19 h3 g2 f22)) hD hS hA [0, 3] rfl
            refine va_calli (va_runV (As := [.int 0]) (rest := []) ⟨hx, hb, hml, hown, hts⟩ (k_X12_isRefused_1 l dC dI h0 h3 v0 r0 v1 v2 v3 v4 r1 r2 r3 r4 r5 r6 r7 v5 v6 r8 r9 r10 r11 v7 h1 r12 v8 v9 h2 v10 v11 r13 v12 v13 h4 v14 w15 r14 v16 v17 r15 r16 r17 r18 r19 r20 v18 r21 r22 r23 v19 g2 f22 ⟨i_v1a, i_v1b⟩ ⟨i_v5a, i_v5b⟩ ⟨i_v6a, i_v6b⟩ ⟨i_v7a, i_v7b⟩ ⟨i_v8a, i_v8b⟩ ⟨i_v9a, i_v9b⟩ ⟨i_v10a, i_v10b⟩ ⟨i_v14a, i_v14b⟩ ⟨i_v18a, i_v18b⟩ ⟨i_v19a, i_v19b⟩ H.size) (cwV 1 hts g_X12_leave_2 rfl rfl rfl (by decide +kernel) ⟨Nat.le_of_ble_eq_true rfl, Nat.le_of_ble_eq_true rfl⟩) (pv_PV12 hPc hKc hDc (q0 := 0) rfl) rfl rfl hl.1 rfl (lv_room (Nat.le_of_ble_eq_true rfl)) dX12_leave_90 ⟨Nat.le_of_ble_eq_true rfl, Nat.le_of_ble_eq_true rfl⟩) hS (fun q _ h => hFc q h) hFc (fun ra27 u t H1 locs ht hvm hwra27 hB hz1 hk1 hS => ?_)
            try rw [hwra27] at hB
            obtain ⟨fn28, pt0_ra27, pt1_ra27, hP1, hK1, hD1⟩ := hB
            rw [ht] at hP1
            obtain ⟨hP2, hD2⟩ := va_join (wr := (wd_4b0b152d h1 g0 f20 h2 g1 f21 h4 g3 f23)) (w1 := (wd_5b5f7811 h0 v0 r0 v1 v2 v3 v4 r1 r2 r3 r4 r5 r6 r7 v5 v6 r8 r9 r10 r11 v7 h1 r12 v8 v9 h2 h3 v10 v11 r13 v12 v13 h4 v14 w15 r14 v16 v17 r15 r16 r17 r18 r19 r20 v18 r21 r22 r23 v19 h3 g2 fn28)) hP hD [0, 3] [1, 2, 4] rfl rfl (by decide) (by decide) hk1 hFc hP1 hD1
            clear hP hD hPc hDc hKc hFc hP1 hK1 hD1 hk1 hz1
            generalize H1 = H at hP2 hS ⊢
            have hP := hP2.sub (ws' := (wd_56d90344 h0 v0 r0 v1 v2 v3 v4 r1 r2 r3 r4 r5 r6 r7 v5 v6 r8 r9 r10 r11 v7 h1 r12 v8 v9 h2 h3 v10 v11 r13 v12 v13 h4 v14 w15 r14 v16 v17 r15 r16 r17 r18 r19 r20 v18 r21 r22 r23 v19 h1 g0 f20 h2 g1 f21 h3 g2 fn28 h4 g3 f23)) [3, 0, 1, 4, 2] rfl
            have hD := hD2.sub (ws' := (wd_56d90344 h0 v0 r0 v1 v2 v3 v4 r1 r2 r3 r4 r5 r6 r7 v5 v6 r8 r9 r10 r11 v7 h1 r12 v8 v9 h2 h3 v10 v11 r13 v12 v13 h4 v14 w15 r14 v16 v17 r15 r16 r17 r18 r19 r20 v18 r21 r22 r23 v19 h1 g0 f20 h2 g1 f21 h3 g2 fn28 h4 g3 f23)) [3, 0, 1, 4, 2] (by decide) rfl
            clear hP2 hD2
            obtain rfl : ra27 = (1 : Int32) := pv_cs (by decide) pt0_ra27 pt1_ra27
            refine lv_if_eq (tgt := 98) hx hb dX12_leave_93 (by decide) (fun c => absurd c (by decide)) (fun _ => ?_)
            refine lv_iconst (v := (-1)) hx hb dX12_leave_96 (by decide) ?_
            subst hQ
            have hP9 := hP.sub (ws' := (wd_56d90344 h0 v0 r0 v1 v2 v3 v4 r1 r2 r3 r4 r5 r6 r7 v5 v6 r8 r9 r10 r11 v7 h1 r12 v8 v9 h2 h3 v10 v11 r13 v12 v13 h4 v14 w15 r14 v16 v17 r15 r16 r17 r18 r19 r20 v18 r21 r22 r23 v19 h1 g0 f20 h2 g1 f21 h3 g2 fn28 h4 g3 f23)) [0, 1, 2, 3, 4] rfl
            have hD9 := hD.sub (ws' := (wd_56d90344 h0 v0 r0 v1 v2 v3 v4 r1 r2 r3 r4 r5 r6 r7 v5 v6 r8 r9 r10 r11 v7 h1 r12 v8 v9 h2 h3 v10 v11 r13 v12 v13 h4 v14 w15 r14 v16 v17 r15 r16 r17 r18 r19 r20 v18 r21 r22 r23 v19 h1 g0 f20 h2 g1 f21 h3 g2 fn28 h4 g3 f23)) [0, 1, 2, 3, 4] (by decide) rfl
            have hK9 := hK.sub (tys' := []) [] rfl
            exact W.iret (v := (-1)) hx hb hr (fun t ht hW => ⟨⟨(-1), (-1), rfl, rfl, ⟨v14, f21, fn28, f23, i_v14a, i_v14b, ia_f21, ia_f23, by first | omega | decide, by first | omega | decide, by rw [ht]; exact hP9, va_K.moved hW.alike hK9, hD9⟩⟩, hS.F ht⟩) hS.2.2 dX12_leave_97
        · skip
          have fc23 : ¬ (ra22.toInt = 0) := fun h9 => c23 (Int32.toInt_inj.mp h9)
          refine lv_iconst (v := 1) hx hb dX12_leave_39 (by decide) ?_
          refine lv_goto (tgt := 44) hx hb dX12_leave_40 (by decide) ?_
          refine lv_istore (lv' := [(5, .int 1), (0, .ref h0), (1, .int v24), (2, .int v25), (3, .int v26), (4, .int v27)]) hx hb dX12_leave_44 hl (by decide) rfl (fun ls hl => ?_)
          refine lv_aload_n hx hb dX12_leave_46 rfl (lv_at hl 1 rfl) ?_
          refine lv_aload_n hx hb dX12_leave_47 rfl (lv_at hl 1 rfl) ?_
          refine va_get (D := (dC, dI)) (ci := 12) (v := .int v9) (C := RX12) (T := TX12) (N := 48) hx hb hts (fun _ h => List.mem_cons_of_mem _ (List.mem_append_right _ h)) hown hK hP 0 rfl rfl 23 (by decide) (hts (.fieldLink RX12 262 "LeftArgumentsModel" "isOffice" "Z") (List.mem_cons_of_mem _ (List.mem_append_left _ (List.mem_of_getElem? (i := 4) rfl)))) (fun _ h9 => h9) rfl dX12_leave_48 ?_
          refine lv_if_ne (tgt := 58) hx hb dX12_leave_51 (by decide) (fun c29 => ?_) (fun c29 => ?_)
          · skip
            have fc29 : ¬ (v9.toInt = 0) := fun h9 => c29 (Int32.toInt_inj.mp h9)
            refine lv_iload hx hb dX12_leave_58 (lv_at hl 0 rfl) ?_
            refine lv_if_ne (tgt := 67) hx hb dX12_leave_60 (by decide) (fun _ => ?_) (fun c => absurd c (by decide))
            refine lv_aload_n hx hb dX12_leave_67 rfl (lv_at hl 1 rfl) ?_
            refine lv_iload hx hb dX12_leave_68 (lv_at hl 5 rfl) ?_
            refine lv_iload_n hx hb dX12_leave_70 rfl (lv_at hl 2 rfl) ?_
            have hPc := hP.sub (ws' := (wd_78675856 h0 v0 r0 v1 v2 v3 v4 r1 r2 r3 r4 r5 r6 r7 v5 v6 r8 r9 r10 r11 v7 h1 r12 v8 v9 h2 h3 v10 v11 r13 v12 v13 h4 v14 w15 r14 v16 v17 r15 r16 r17 r18 r19 r20 v18 r21 r22 r23 v19 h1 g0 f20 h2 g1 f21)) [0, 1, 2] rfl
            have hDc := hD.sub (ws' := (wd_78675856 h0 v0 r0 v1 v2 v3 v4 r1 r2 r3 r4 r5 r6 r7 v5 v6 r8 r9 r10 r11 v7 h1 r12 v8 v9 h2 h3 v10 v11 r13 v12 v13 h4 v14 w15 r14 v16 v17 r15 r16 r17 r18 r19 r20 v18 r21 r22 r23 v19 h1 g0 f20 h2 g1 f21)) [0, 1, 2] (by decide) rfl
            have hKc := hK.sub (tys' := [(g0, .int), (g1, .int)]) [0, 1] rfl
            have hFc := va_free (wc := (wd_78675856 h0 v0 r0 v1 v2 v3 v4 r1 r2 r3 r4 r5 r6 r7 v5 v6 r8 r9 r10 r11 v7 h1 r12 v8 v9 h2 h3 v10 v11 r13 v12 v13 h4 v14 w15 r14 v16 v17 r15 r16 r17 r18 r19 r20 v18 r21 r22 r23 v19 h1 g0 f20 h2 g1 f21)) hD hS hA [0, 1, 2] rfl
            refine va_calli (va_runV (As := [.int v27, .int v24]) (rest := [.ref h0]) ⟨hx, hb, hml, hown, hts⟩ (k_X12_does l dC dI h0 h1 h2 v0 r0 v1 v2 v3 v4 r1 r2 r3 r4 r5 r6 r7 v5 v6 r8 r9 r10 r11 v7 r12 v8 v9 h3 v10 v11 r13 v12 v13 h4 v14 w15 r14 v16 v17 r15 r16 r17 r18 r19 r20 v18 r21 r22 r23 v19 g0 f20 g1 f21 v27 v24 ⟨i_v1a, i_v1b⟩ ⟨i_v5a, i_v5b⟩ ⟨i_v6a, i_v6b⟩ ⟨i_v7a, i_v7b⟩ ⟨i_v8a, i_v8b⟩ ⟨i_v9a, i_v9b⟩ ⟨i_v10a, i_v10b⟩ ⟨i_v14a, i_v14b⟩ ⟨i_v18a, i_v18b⟩ ⟨i_v19a, i_v19b⟩ ia_f20 ia_f21 H.size) (cwV 2 hts g_X12_leave_12 rfl rfl rfl (by decide +kernel) ⟨Nat.le_of_ble_eq_true rfl, Nat.le_of_ble_eq_true rfl⟩) (pv_PV12 hPc hKc hDc (q0 := 0) rfl) rfl rfl hl.1 rfl (lv_room (Nat.le_of_ble_eq_true rfl)) dX12_leave_71 ⟨Nat.le_of_ble_eq_true rfl, Nat.le_of_ble_eq_true rfl⟩) hS (fun q _ h => hFc q h) hFc (fun ra30 u t H1 locs ht hvm hwra30 hB hz1 hk1 hS => ?_)
            try rw [hwra30] at hB
            obtain ⟨pt0_ra30, pt1_ra30, hP1, hK1, hD1⟩ := hB
            rw [ht] at hP1
            obtain ⟨hP2, hD2⟩ := va_join (wr := (wd_969f66a9 h3 g2 f22 h4 g3 f23)) (w1 := (wd_78675856 h0 v0 r0 v1 v2 v3 v4 r1 r2 r3 r4 r5 r6 r7 v5 v6 r8 r9 r10 r11 v7 h1 r12 v8 v9 h2 h3 v10 v11 r13 v12 v13 h4 v14 w15 r14 v16 v17 r15 r16 r17 r18 r19 r20 v18 r21 r22 r23 v19 h1 g0 f20 h2 g1 f21)) hP hD [0, 1, 2] [3, 4] rfl rfl (by decide) (by decide) hk1 hFc hP1 hD1
            clear hP hD hPc hDc hKc hFc hP1 hK1 hD1 hk1 hz1
            generalize H1 = H at hP2 hS ⊢
            have hP := hP2.sub (ws' := (wd_56d90344 h0 v0 r0 v1 v2 v3 v4 r1 r2 r3 r4 r5 r6 r7 v5 v6 r8 r9 r10 r11 v7 h1 r12 v8 v9 h2 h3 v10 v11 r13 v12 v13 h4 v14 w15 r14 v16 v17 r15 r16 r17 r18 r19 r20 v18 r21 r22 r23 v19 h1 g0 f20 h2 g1 f21 h3 g2 f22 h4 g3 f23)) [2, 3, 4, 0, 1] rfl
            have hD := hD2.sub (ws' := (wd_56d90344 h0 v0 r0 v1 v2 v3 v4 r1 r2 r3 r4 r5 r6 r7 v5 v6 r8 r9 r10 r11 v7 h1 r12 v8 v9 h2 h3 v10 v11 r13 v12 v13 h4 v14 w15 r14 v16 v17 r15 r16 r17 r18 r19 r20 v18 r21 r22 r23 v19 h1 g0 f20 h2 g1 f21 h3 g2 f22 h4 g3 f23)) [2, 3, 4, 0, 1] (by decide) rfl
            clear hP2 hD2
            refine lv_if_eq (tgt := 85) hx hb dX12_leave_74 (by decide) (fun c31 => ?_) (fun c31 => ?_)
            · skip
              have fc31 : ra30.toInt = 0 := congrArg Int32.toInt c31
              refine lv_iconst (v := 3) hx hb dX12_leave_85 (by decide) ?_
              refine lv_goto (tgt := 90) hx hb dX12_leave_86 (by decide) ?_
              have hPc := hP.sub (ws' := (wd_5b5f7811 h0 v0 r0 v1 v2 v3 v4 r1 r2 r3 r4 r5 r6 r7 v5 v6 r8 r9 r10 r11 v7 h1 r12 v8 v9 h2 h3 v10 v11 r13 v12 v13 h4 v14 w15 r14 v16 v17 r15 r16 r17 r18 r19 r20 v18 r21 r22 r23 v19 h3 g2 f22)) [0, 3] rfl
              have hDc := hD.sub (ws' := (wd_5b5f7811 h0 v0 r0 v1 v2 v3 v4 r1 r2 r3 r4 r5 r6 r7 v5 v6 r8 r9 r10 r11 v7 h1 r12 v8 v9 h2 h3 v10 v11 r13 v12 v13 h4 v14 w15 r14 v16 v17 r15 r16 r17 r18 r19 r20 v18 r21 r22 r23 v19 h3 g2 f22)) [0, 3] (by decide) rfl
              have hKc := hK.sub (tys' := [(g2, .int)]) [2] rfl
              have hFc := va_free (wc := (wd_5b5f7811 h0 v0 r0 v1 v2 v3 v4 r1 r2 r3 r4 r5 r6 r7 v5 v6 r8 r9 r10 r11 v7 h1 r12 v8 v9 h2 h3 v10 v11 r13 v12 v13 h4 v14 w15 r14 v16 v17 r15 r16 r17 r18 r19 r20 v18 r21 r22 r23 v19 h3 g2 f22)) hD hS hA [0, 3] rfl
              refine va_calli (va_runV (As := [.int 3]) (rest := []) ⟨hx, hb, hml, hown, hts⟩ (k_X12_isRefused_2 l dC dI h0 h3 v0 r0 v1 v2 v3 v4 r1 r2 r3 r4 r5 r6 r7 v5 v6 r8 r9 r10 r11 v7 h1 r12 v8 v9 h2 v10 v11 r13 v12 v13 h4 v14 w15 r14 v16 v17 r15 r16 r17 r18 r19 r20 v18 r21 r22 r23 v19 g2 f22 ⟨i_v1a, i_v1b⟩ ⟨i_v5a, i_v5b⟩ ⟨i_v6a, i_v6b⟩ ⟨i_v7a, i_v7b⟩ ⟨i_v8a, i_v8b⟩ ⟨i_v9a, i_v9b⟩ ⟨i_v10a, i_v10b⟩ ⟨i_v14a, i_v14b⟩ ⟨i_v18a, i_v18b⟩ ⟨i_v19a, i_v19b⟩ H.size) (cwV 1 hts g_X12_leave_13 rfl rfl rfl (by decide +kernel) ⟨Nat.le_of_ble_eq_true rfl, Nat.le_of_ble_eq_true rfl⟩) (pv_PV12 hPc hKc hDc (q0 := 0) rfl) rfl rfl hl.1 rfl (lv_room (Nat.le_of_ble_eq_true rfl)) dX12_leave_90 ⟨Nat.le_of_ble_eq_true rfl, Nat.le_of_ble_eq_true rfl⟩) hS (fun q _ h => hFc q h) hFc (fun ra32 u t H1 locs ht hvm hwra32 hB hz1 hk1 hS => ?_)
              try rw [hwra32] at hB
              obtain ⟨fn33, pt0_ra32, pt1_ra32, hP1, hK1, hD1⟩ := hB
              rw [ht] at hP1
              obtain ⟨hP2, hD2⟩ := va_join (wr := (wd_4b0b152d h1 g0 f20 h2 g1 f21 h4 g3 f23)) (w1 := (wd_5b5f7811 h0 v0 r0 v1 v2 v3 v4 r1 r2 r3 r4 r5 r6 r7 v5 v6 r8 r9 r10 r11 v7 h1 r12 v8 v9 h2 h3 v10 v11 r13 v12 v13 h4 v14 w15 r14 v16 v17 r15 r16 r17 r18 r19 r20 v18 r21 r22 r23 v19 h3 g2 fn33)) hP hD [0, 3] [1, 2, 4] rfl rfl (by decide) (by decide) hk1 hFc hP1 hD1
              clear hP hD hPc hDc hKc hFc hP1 hK1 hD1 hk1 hz1
              generalize H1 = H at hP2 hS ⊢
              have hP := hP2.sub (ws' := (wd_56d90344 h0 v0 r0 v1 v2 v3 v4 r1 r2 r3 r4 r5 r6 r7 v5 v6 r8 r9 r10 r11 v7 h1 r12 v8 v9 h2 h3 v10 v11 r13 v12 v13 h4 v14 w15 r14 v16 v17 r15 r16 r17 r18 r19 r20 v18 r21 r22 r23 v19 h1 g0 f20 h2 g1 f21 h3 g2 fn33 h4 g3 f23)) [3, 0, 1, 4, 2] rfl
              have hD := hD2.sub (ws' := (wd_56d90344 h0 v0 r0 v1 v2 v3 v4 r1 r2 r3 r4 r5 r6 r7 v5 v6 r8 r9 r10 r11 v7 h1 r12 v8 v9 h2 h3 v10 v11 r13 v12 v13 h4 v14 w15 r14 v16 v17 r15 r16 r17 r18 r19 r20 v18 r21 r22 r23 v19 h1 g0 f20 h2 g1 f21 h3 g2 fn33 h4 g3 f23)) [3, 0, 1, 4, 2] (by decide) rfl
              clear hP2 hD2
              obtain rfl : ra32 = (1 : Int32) := pv_cs (by decide) pt0_ra32 pt1_ra32
              refine lv_if_eq (tgt := 98) hx hb dX12_leave_93 (by decide) (fun c => absurd c (by decide)) (fun _ => ?_)
              refine lv_iconst (v := (-1)) hx hb dX12_leave_96 (by decide) ?_
              subst hQ
              have hP9 := hP.sub (ws' := (wd_56d90344 h0 v0 r0 v1 v2 v3 v4 r1 r2 r3 r4 r5 r6 r7 v5 v6 r8 r9 r10 r11 v7 h1 r12 v8 v9 h2 h3 v10 v11 r13 v12 v13 h4 v14 w15 r14 v16 v17 r15 r16 r17 r18 r19 r20 v18 r21 r22 r23 v19 h1 g0 f20 h2 g1 f21 h3 g2 fn33 h4 g3 f23)) [0, 1, 2, 3, 4] rfl
              have hD9 := hD.sub (ws' := (wd_56d90344 h0 v0 r0 v1 v2 v3 v4 r1 r2 r3 r4 r5 r6 r7 v5 v6 r8 r9 r10 r11 v7 h1 r12 v8 v9 h2 h3 v10 v11 r13 v12 v13 h4 v14 w15 r14 v16 v17 r15 r16 r17 r18 r19 r20 v18 r21 r22 r23 v19 h1 g0 f20 h2 g1 f21 h3 g2 fn33 h4 g3 f23)) [0, 1, 2, 3, 4] (by decide) rfl
              have hK9 := hK.sub (tys' := []) [] rfl
              exact W.iret (v := (-1)) hx hb hr (fun t ht hW => ⟨⟨(-1), (-1), rfl, rfl, ⟨v14, f21, fn33, f23, i_v14a, i_v14b, ia_f21, ia_f23, by first | omega | decide, by first | omega | decide, by rw [ht]; exact hP9, va_K.moved hW.alike hK9, hD9⟩⟩, hS.F ht⟩) hS.2.2 dX12_leave_97
            · skip
              have fc31 : ¬ (ra30.toInt = 0) := fun h9 => c31 (Int32.toInt_inj.mp h9)
              refine lv_aload_n hx hb dX12_leave_77 rfl (lv_at hl 1 rfl) ?_
              have hPc := hP.sub (ws' := (wd_5013416a h0 v0 r0 v1 v2 v3 v4 r1 r2 r3 r4 r5 r6 r7 v5 v6 r8 r9 r10 r11 v7 h1 r12 v8 v9 h2 h3 v10 v11 r13 v12 v13 h4 v14 w15 r14 v16 v17 r15 r16 r17 r18 r19 r20 v18 r21 r22 r23 v19 h2 g1 f21)) [0, 2] rfl
              have hDc := hD.sub (ws' := (wd_5013416a h0 v0 r0 v1 v2 v3 v4 r1 r2 r3 r4 r5 r6 r7 v5 v6 r8 r9 r10 r11 v7 h1 r12 v8 v9 h2 h3 v10 v11 r13 v12 v13 h4 v14 w15 r14 v16 v17 r15 r16 r17 r18 r19 r20 v18 r21 r22 r23 v19 h2 g1 f21)) [0, 2] (by decide) rfl
              have hKc := hK.sub (tys' := [(g1, .int)]) [1] rfl
              have hFc := va_free (wc := (wd_5013416a h0 v0 r0 v1 v2 v3 v4 r1 r2 r3 r4 r5 r6 r7 v5 v6 r8 r9 r10 r11 v7 h1 r12 v8 v9 h2 h3 v10 v11 r13 v12 v13 h4 v14 w15 r14 v16 v17 r15 r16 r17 r18 r19 r20 v18 r21 r22 r23 v19 h2 g1 f21)) hD hS hA [0, 2] rfl
              refine va_calli (va_runV (As := []) (rest := [.ref h0]) ⟨hx, hb, hml, hown, hts⟩ (k_X12_freePlace l dC dI h0 h2 v0 r0 v1 v2 v3 v4 r1 r2 r3 r4 r5 r6 r7 v5 v6 r8 r9 r10 r11 v7 h1 r12 v8 v9 h3 v10 v11 r13 v12 v13 h4 v14 w15 r14 v16 v17 r15 r16 r17 r18 r19 r20 v18 r21 r22 r23 v19 g1 f21 ⟨i_v1a, i_v1b⟩ ⟨i_v5a, i_v5b⟩ ⟨i_v6a, i_v6b⟩ ⟨i_v7a, i_v7b⟩ ⟨i_v8a, i_v8b⟩ ⟨i_v9a, i_v9b⟩ ⟨i_v10a, i_v10b⟩ ⟨i_v14a, i_v14b⟩ ⟨i_v18a, i_v18b⟩ ⟨i_v19a, i_v19b⟩ ia_f21 H.size) (cwV 0 hts g_X12_leave_14 rfl rfl rfl (by decide +kernel) ⟨Nat.le_of_ble_eq_true rfl, Nat.le_of_ble_eq_true rfl⟩) (pv_PV12 hPc hKc hDc (q0 := 0) rfl) rfl rfl hl.1 rfl (lv_room (Nat.le_of_ble_eq_true rfl)) dX12_leave_78 ⟨Nat.le_of_ble_eq_true rfl, Nat.le_of_ble_eq_true rfl⟩) hS (fun q _ h => hFc q h) hFc (fun ra34 u t H1 locs ht hvm hwra34 hB hz1 hk1 hS => ?_)
              try rw [hwra34] at hB
              obtain ⟨pt0_ra34, pt1_ra34, pt2_ra34, pt3_ra34, hP1, hK1, hD1⟩ := hB
              rw [ht] at hP1
              obtain ⟨hP2, hD2⟩ := va_join (wr := (wd_5cc14b98 h1 g0 f20 h3 g2 f22 h4 g3 f23)) (w1 := (wd_5013416a h0 v0 r0 v1 v2 v3 v4 r1 r2 r3 r4 r5 r6 r7 v5 v6 r8 r9 r10 r11 v7 h1 r12 v8 v9 h2 h3 v10 v11 r13 v12 v13 h4 v14 w15 r14 v16 v17 r15 r16 r17 r18 r19 r20 v18 r21 r22 r23 v19 h2 g1 f21)) hP hD [0, 2] [1, 3, 4] rfl rfl (by decide) (by decide) hk1 hFc hP1 hD1
              clear hP hD hPc hDc hKc hFc hP1 hK1 hD1 hk1 hz1
              generalize H1 = H at hP2 hS ⊢
              have hP := hP2.sub (ws' := (wd_56d90344 h0 v0 r0 v1 v2 v3 v4 r1 r2 r3 r4 r5 r6 r7 v5 v6 r8 r9 r10 r11 v7 h1 r12 v8 v9 h2 h3 v10 v11 r13 v12 v13 h4 v14 w15 r14 v16 v17 r15 r16 r17 r18 r19 r20 v18 r21 r22 r23 v19 h1 g0 f20 h2 g1 f21 h3 g2 f22 h4 g3 f23)) [3, 0, 4, 1, 2] rfl
              have hD := hD2.sub (ws' := (wd_56d90344 h0 v0 r0 v1 v2 v3 v4 r1 r2 r3 r4 r5 r6 r7 v5 v6 r8 r9 r10 r11 v7 h1 r12 v8 v9 h2 h3 v10 v11 r13 v12 v13 h4 v14 w15 r14 v16 v17 r15 r16 r17 r18 r19 r20 v18 r21 r22 r23 v19 h1 g0 f20 h2 g1 f21 h3 g2 f22 h4 g3 f23)) [3, 0, 4, 1, 2] (by decide) rfl
              clear hP2 hD2
              refine lv_iconst (v := (-1)) hx hb dX12_leave_81 (by decide) ?_
              refine lv_icmp_ne (tgt := 89) hx hb dX12_leave_82 (by decide) (fun c35 => ?_) (fun c35 => ?_)
              · skip
                have fc35 : ¬ (ra34.toInt = (-1)) := fun h9 => c35 (Int32.toInt_inj.mp h9)
                refine lv_iconst (v := (-1)) hx hb dX12_leave_89 (by decide) ?_
                have hPc := hP.sub (ws' := (wd_171f232f h0 v0 r0 v1 v2 v3 v4 r1 r2 r3 r4 r5 r6 r7 v5 v6 r8 r9 r10 r11 v7 h1 r12 v8 v9 h2 h3 v10 v11 r13 v12 v13 h4 v14 w15 r14 v16 v17 r15 r16 r17 r18 r19 r20 v18 r21 r22 r23 v19)) [0] rfl
                have hDc := hD.sub (ws' := (wd_171f232f h0 v0 r0 v1 v2 v3 v4 r1 r2 r3 r4 r5 r6 r7 v5 v6 r8 r9 r10 r11 v7 h1 r12 v8 v9 h2 h3 v10 v11 r13 v12 v13 h4 v14 w15 r14 v16 v17 r15 r16 r17 r18 r19 r20 v18 r21 r22 r23 v19)) [0] (by decide) rfl
                have hKc := hK.sub (tys' := []) [] rfl
                have hFc := va_free (wc := (wd_171f232f h0 v0 r0 v1 v2 v3 v4 r1 r2 r3 r4 r5 r6 r7 v5 v6 r8 r9 r10 r11 v7 h1 r12 v8 v9 h2 h3 v10 v11 r13 v12 v13 h4 v14 w15 r14 v16 v17 r15 r16 r17 r18 r19 r20 v18 r21 r22 r23 v19)) hD hS hA [0] rfl
                refine va_calli (va_runV (As := [.int (-1)]) (rest := []) ⟨hx, hb, hml, hown, hts⟩ (k_X12_isRefused l dC dI h0 v0 r0 v1 v2 v3 v4 r1 r2 r3 r4 r5 r6 r7 v5 v6 r8 r9 r10 r11 v7 h1 r12 v8 v9 h2 h3 v10 v11 r13 v12 v13 h4 v14 w15 r14 v16 v17 r15 r16 r17 r18 r19 r20 v18 r21 r22 r23 v19 ⟨i_v1a, i_v1b⟩ ⟨i_v5a, i_v5b⟩ ⟨i_v6a, i_v6b⟩ ⟨i_v7a, i_v7b⟩ ⟨i_v8a, i_v8b⟩ ⟨i_v9a, i_v9b⟩ ⟨i_v10a, i_v10b⟩ ⟨i_v14a, i_v14b⟩ ⟨i_v18a, i_v18b⟩ ⟨i_v19a, i_v19b⟩ H.size) (cwV 1 hts g_X12_leave_15 rfl rfl rfl (by decide +kernel) ⟨Nat.le_of_ble_eq_true rfl, Nat.le_of_ble_eq_true rfl⟩) (pv_PV12 hPc hKc hDc (q0 := 0) rfl) rfl rfl hl.1 rfl (lv_room (Nat.le_of_ble_eq_true rfl)) dX12_leave_90 ⟨Nat.le_of_ble_eq_true rfl, Nat.le_of_ble_eq_true rfl⟩) hS (fun q _ h => hFc q h) hFc (fun ra36 u t H1 locs ht hvm hwra36 hB hz1 hk1 hS => ?_)
                try rw [hwra36] at hB
                obtain ⟨pt0_ra36, pt1_ra36, hP1, hK1, hD1⟩ := hB
                rw [ht] at hP1
                obtain ⟨hP2, hD2⟩ := va_join (wr := (wd_3ac54ae4 h1 g0 f20 h2 g1 f21 h3 g2 f22 h4 g3 f23)) (w1 := (wd_171f232f h0 v0 r0 v1 v2 v3 v4 r1 r2 r3 r4 r5 r6 r7 v5 v6 r8 r9 r10 r11 v7 h1 r12 v8 v9 h2 h3 v10 v11 r13 v12 v13 h4 v14 w15 r14 v16 v17 r15 r16 r17 r18 r19 r20 v18 r21 r22 r23 v19)) hP hD [0] [1, 2, 3, 4] rfl rfl (by decide) (by decide) hk1 hFc hP1 hD1
                clear hP hD hPc hDc hKc hFc hP1 hK1 hD1 hk1 hz1
                generalize H1 = H at hP2 hS ⊢
                have hP := hP2.sub (ws' := (wd_56d90344 h0 v0 r0 v1 v2 v3 v4 r1 r2 r3 r4 r5 r6 r7 v5 v6 r8 r9 r10 r11 v7 h1 r12 v8 v9 h2 h3 v10 v11 r13 v12 v13 h4 v14 w15 r14 v16 v17 r15 r16 r17 r18 r19 r20 v18 r21 r22 r23 v19 h1 g0 f20 h2 g1 f21 h3 g2 f22 h4 g3 f23)) [4, 0, 1, 2, 3] rfl
                have hD := hD2.sub (ws' := (wd_56d90344 h0 v0 r0 v1 v2 v3 v4 r1 r2 r3 r4 r5 r6 r7 v5 v6 r8 r9 r10 r11 v7 h1 r12 v8 v9 h2 h3 v10 v11 r13 v12 v13 h4 v14 w15 r14 v16 v17 r15 r16 r17 r18 r19 r20 v18 r21 r22 r23 v19 h1 g0 f20 h2 g1 f21 h3 g2 f22 h4 g3 f23)) [4, 0, 1, 2, 3] (by decide) rfl
                clear hP2 hD2
                obtain rfl : ra36 = (0 : Int32) := pv_cs (by decide) pt0_ra36 pt1_ra36
                refine lv_if_eq (tgt := 98) hx hb dX12_leave_93 (by decide) (fun _ => ?_) (fun c => absurd (by decide) c)
                refine lv_aload_n hx hb dX12_leave_98 rfl (lv_at hl 1 rfl) ?_
                have hPc := hP.sub (ws' := (wd_baa7feb8 h0 v0 r0 v1 v2 v3 v4 r1 r2 r3 r4 r5 r6 r7 v5 v6 r8 r9 r10 r11 v7 h1 r12 v8 v9 h2 h3 v10 v11 r13 v12 v13 h4 v14 w15 r14 v16 v17 r15 r16 r17 r18 r19 r20 v18 r21 r22 r23 v19 h2 g1 f21 h4 g3 f23)) [0, 2, 4] rfl
                have hDc := hD.sub (ws' := (wd_baa7feb8 h0 v0 r0 v1 v2 v3 v4 r1 r2 r3 r4 r5 r6 r7 v5 v6 r8 r9 r10 r11 v7 h1 r12 v8 v9 h2 h3 v10 v11 r13 v12 v13 h4 v14 w15 r14 v16 v17 r15 r16 r17 r18 r19 r20 v18 r21 r22 r23 v19 h2 g1 f21 h4 g3 f23)) [0, 2, 4] (by decide) rfl
                have hKc := hK.sub (tys' := [(g1, .int), (g3, .int)]) [1, 3] rfl
                have hFc := va_free (wc := (wd_baa7feb8 h0 v0 r0 v1 v2 v3 v4 r1 r2 r3 r4 r5 r6 r7 v5 v6 r8 r9 r10 r11 v7 h1 r12 v8 v9 h2 h3 v10 v11 r13 v12 v13 h4 v14 w15 r14 v16 v17 r15 r16 r17 r18 r19 r20 v18 r21 r22 r23 v19 h2 g1 f21 h4 g3 f23)) hD hS hA [0, 2, 4] rfl
                refine va_callv (va_runV (As := []) (rest := []) ⟨hx, hb, hml, hown, hts⟩ (k_X12_keep l dC dI h0 h2 h4 v0 r0 v1 v2 v3 v4 r1 r2 r3 r4 r5 r6 r7 v5 v6 r8 r9 r10 r11 v7 h1 r12 v8 v9 h3 v10 v11 r13 v12 v13 v14 w15 r14 v16 v17 r15 r16 r17 r18 r19 r20 v18 r21 r22 r23 v19 g1 f21 g3 f23 ⟨i_v1a, i_v1b⟩ ⟨i_v5a, i_v5b⟩ ⟨i_v6a, i_v6b⟩ ⟨i_v7a, i_v7b⟩ ⟨i_v8a, i_v8b⟩ ⟨i_v9a, i_v9b⟩ ⟨i_v10a, i_v10b⟩ ⟨i_v14a, i_v14b⟩ ⟨i_v18a, i_v18b⟩ ⟨i_v19a, i_v19b⟩ ia_f21 ia_f23 H.size) (cwV 0 hts g_X12_leave_16 rfl rfl rfl (by decide +kernel) ⟨Nat.le_of_ble_eq_true rfl, Nat.le_of_ble_eq_true rfl⟩) (pv_PV12 hPc hKc hDc (q0 := 0) rfl) rfl rfl hl.1 rfl (lv_room (Nat.le_of_ble_eq_true rfl)) dX12_leave_99 ⟨Nat.le_of_ble_eq_true rfl, Nat.le_of_ble_eq_true rfl⟩) hS (fun q _ h => hFc q h) hFc (fun u t H1 locs ht hvm hwra37 hB hz1 hk1 hS => ?_)
                obtain ⟨x38, fn39, oa_x38, ob_x38, ia_fn39, hP1, hK1, hD1⟩ := hB
                rw [ht] at hP1
                obtain ⟨hP2, hD2⟩ := va_join (wr := (wd_2e233976 h1 g0 f20 h3 g2 f22)) (w1 := (wd_baa7feb8 h0 v0 r0 v1 v2 v3 v4 r1 r2 r3 r4 r5 r6 r7 v5 v6 r8 r9 r10 r11 v7 h1 r12 v8 v9 h2 h3 v10 v11 r13 v12 v13 h4 x38 w15 r14 v16 v17 r15 r16 r17 r18 r19 r20 v18 r21 r22 r23 v19 h2 g1 f21 h4 g3 fn39)) hP hD [0, 2, 4] [1, 3] rfl rfl (by decide) (by decide) hk1 hFc hP1 hD1
                clear hP hD hPc hDc hKc hFc hP1 hK1 hD1 hk1 hz1
                generalize H1 = H at hP2 hS ⊢
                have hP := hP2.sub (ws' := (wd_56d90344 h0 v0 r0 v1 v2 v3 v4 r1 r2 r3 r4 r5 r6 r7 v5 v6 r8 r9 r10 r11 v7 h1 r12 v8 v9 h2 h3 v10 v11 r13 v12 v13 h4 x38 w15 r14 v16 v17 r15 r16 r17 r18 r19 r20 v18 r21 r22 r23 v19 h1 g0 f20 h2 g1 f21 h3 g2 f22 h4 g3 fn39)) [2, 0, 3, 1, 4] rfl
                have hD := hD2.sub (ws' := (wd_56d90344 h0 v0 r0 v1 v2 v3 v4 r1 r2 r3 r4 r5 r6 r7 v5 v6 r8 r9 r10 r11 v7 h1 r12 v8 v9 h2 h3 v10 v11 r13 v12 v13 h4 x38 w15 r14 v16 v17 r15 r16 r17 r18 r19 r20 v18 r21 r22 r23 v19 h1 g0 f20 h2 g1 f21 h3 g2 f22 h4 g3 fn39)) [2, 0, 3, 1, 4] (by decide) rfl
                clear hP2 hD2
                refine lv_aload_n hx hb dX12_leave_102 rfl (lv_at hl 1 rfl) ?_
                refine lv_iload_n hx hb dX12_leave_103 rfl (lv_at hl 2 rfl) ?_
                refine lv_iload_n hx hb dX12_leave_104 rfl (lv_at hl 3 rfl) ?_
                refine lv_iload_n hx hb dX12_leave_105 rfl (lv_at hl 4 rfl) ?_
                refine lv_iload hx hb dX12_leave_106 (lv_at hl 5 rfl) ?_
                have hPc := hP.sub (ws' := (wd_5013416a h0 v0 r0 v1 v2 v3 v4 r1 r2 r3 r4 r5 r6 r7 v5 v6 r8 r9 r10 r11 v7 h1 r12 v8 v9 h2 h3 v10 v11 r13 v12 v13 h4 x38 w15 r14 v16 v17 r15 r16 r17 r18 r19 r20 v18 r21 r22 r23 v19 h2 g1 f21)) [0, 2] rfl
                have hDc := hD.sub (ws' := (wd_5013416a h0 v0 r0 v1 v2 v3 v4 r1 r2 r3 r4 r5 r6 r7 v5 v6 r8 r9 r10 r11 v7 h1 r12 v8 v9 h2 h3 v10 v11 r13 v12 v13 h4 x38 w15 r14 v16 v17 r15 r16 r17 r18 r19 r20 v18 r21 r22 r23 v19 h2 g1 f21)) [0, 2] (by decide) rfl
                have hKc := hK.sub (tys' := [(g1, .int)]) [1] rfl
                have hFc := va_free (wc := (wd_5013416a h0 v0 r0 v1 v2 v3 v4 r1 r2 r3 r4 r5 r6 r7 v5 v6 r8 r9 r10 r11 v7 h1 r12 v8 v9 h2 h3 v10 v11 r13 v12 v13 h4 x38 w15 r14 v16 v17 r15 r16 r17 r18 r19 r20 v18 r21 r22 r23 v19 h2 g1 f21)) hD hS hA [0, 2] rfl
                refine va_calli (va_runV (As := [.int v24, .int v25, .int v26, .int v27]) (rest := []) ⟨hx, hb, hml, hown, hts⟩ (k_X12_leaveNow l dC dI h0 h2 v0 r0 v1 v2 v3 v4 r1 r2 r3 r4 r5 r6 r7 v5 v6 r8 r9 r10 r11 v7 h1 r12 v8 v9 h3 v10 v11 r13 v12 v13 h4 x38 w15 r14 v16 v17 r15 r16 r17 r18 r19 r20 v18 r21 r22 r23 v19 g1 f21 v24 v25 v26 v27 ⟨i_v1a, i_v1b⟩ ⟨i_v5a, i_v5b⟩ ⟨i_v6a, i_v6b⟩ ⟨i_v7a, i_v7b⟩ ⟨i_v8a, i_v8b⟩ ⟨i_v9a, i_v9b⟩ ⟨i_v10a, i_v10b⟩ ⟨by first | omega | decide, ob_x38⟩ ⟨i_v18a, i_v18b⟩ ⟨i_v19a, i_v19b⟩ ⟨by first | omega | decide, by first | omega | decide⟩ ia_f21 (by exact (by assumption : _ → pm_free _) (by omega)) H.size) (cwV 4 hts g_X12_leave_17 rfl rfl rfl (by decide +kernel) ⟨Nat.le_of_ble_eq_true rfl, Nat.le_of_ble_eq_true rfl⟩) (pv_PV12 hPc hKc hDc (q0 := 0) rfl) rfl rfl hl.1 rfl (lv_room (Nat.le_of_ble_eq_true rfl)) dX12_leave_108 ⟨Nat.le_of_ble_eq_true rfl, Nat.le_of_ble_eq_true rfl⟩) hS (fun q _ h => hFc q h) hFc (fun ra40 u t H1 locs ht hvm hwra40 hB hz1 hk1 hS => ?_)
                try rw [hwra40] at hB
                obtain ⟨fn41, ia_fn41, pt0_ra40, pt1_ra40, hP1, hK1, hD1⟩ := hB
                rw [ht] at hP1
                obtain ⟨hP2, hD2⟩ := va_join (wr := (wd_5cc14b98 h1 g0 f20 h3 g2 f22 h4 g3 fn39)) (w1 := (wd_5013416a h0 v0 r0 v1 v2 v3 v4 r1 r2 r3 r4 r5 r6 r7 v5 v6 r8 r9 r10 r11 v7 h1 r12 v8 v9 h2 h3 v10 v11 r13 v12 v13 h4 x38 w15 r14 v16 v17 r15 r16 r17 r18 r19 r20 v18 r21 r22 r23 v19 h2 g1 fn41)) hP hD [0, 2] [1, 3, 4] rfl rfl (by decide) (by decide) hk1 hFc hP1 hD1
                clear hP hD hPc hDc hKc hFc hP1 hK1 hD1 hk1 hz1
                generalize H1 = H at hP2 hS ⊢
                have hP := hP2.sub (ws' := (wd_56d90344 h0 v0 r0 v1 v2 v3 v4 r1 r2 r3 r4 r5 r6 r7 v5 v6 r8 r9 r10 r11 v7 h1 r12 v8 v9 h2 h3 v10 v11 r13 v12 v13 h4 x38 w15 r14 v16 v17 r15 r16 r17 r18 r19 r20 v18 r21 r22 r23 v19 h1 g0 f20 h2 g1 fn41 h3 g2 f22 h4 g3 fn39)) [3, 0, 4, 1, 2] rfl
                have hD := hD2.sub (ws' := (wd_56d90344 h0 v0 r0 v1 v2 v3 v4 r1 r2 r3 r4 r5 r6 r7 v5 v6 r8 r9 r10 r11 v7 h1 r12 v8 v9 h2 h3 v10 v11 r13 v12 v13 h4 x38 w15 r14 v16 v17 r15 r16 r17 r18 r19 r20 v18 r21 r22 r23 v19 h1 g0 f20 h2 g1 fn41 h3 g2 f22 h4 g3 fn39)) [3, 0, 4, 1, 2] (by decide) rfl
                clear hP2 hD2
                subst hQ
                have hP9 := hP.sub (ws' := (wd_56d90344 h0 v0 r0 v1 v2 v3 v4 r1 r2 r3 r4 r5 r6 r7 v5 v6 r8 r9 r10 r11 v7 h1 r12 v8 v9 h2 h3 v10 v11 r13 v12 v13 h4 x38 w15 r14 v16 v17 r15 r16 r17 r18 r19 r20 v18 r21 r22 r23 v19 h1 g0 f20 h2 g1 fn41 h3 g2 f22 h4 g3 fn39)) [0, 1, 2, 3, 4] rfl
                have hD9 := hD.sub (ws' := (wd_56d90344 h0 v0 r0 v1 v2 v3 v4 r1 r2 r3 r4 r5 r6 r7 v5 v6 r8 r9 r10 r11 v7 h1 r12 v8 v9 h2 h3 v10 v11 r13 v12 v13 h4 x38 w15 r14 v16 v17 r15 r16 r17 r18 r19 r20 v18 r21 r22 r23 v19 h1 g0 f20 h2 g1 fn41 h3 g2 f22 h4 g3 fn39)) [0, 1, 2, 3, 4] (by decide) rfl
                have hK9 := hK.sub (tys' := []) [] rfl
                exact W.iret (v := ra40) hx hb hr (fun t ht hW => ⟨⟨ra40, ra40, rfl, rfl, ⟨x38, fn41, f22, fn39, by first | omega | decide, ob_x38, ia_fn41, ia_fn39, by first | omega | decide, by first | omega | decide, by rw [ht]; exact hP9, va_K.moved hW.alike hK9, hD9⟩⟩, hS.F ht⟩) hS.2.2 dX12_leave_111
              · skip
                have fc35 : ra34.toInt = (-1) := congrArg Int32.toInt c35
                refine lv_iconst (v := 3) hx hb dX12_leave_85 (by decide) ?_
                refine lv_goto (tgt := 90) hx hb dX12_leave_86 (by decide) ?_
                have hPc := hP.sub (ws' := (wd_5b5f7811 h0 v0 r0 v1 v2 v3 v4 r1 r2 r3 r4 r5 r6 r7 v5 v6 r8 r9 r10 r11 v7 h1 r12 v8 v9 h2 h3 v10 v11 r13 v12 v13 h4 v14 w15 r14 v16 v17 r15 r16 r17 r18 r19 r20 v18 r21 r22 r23 v19 h3 g2 f22)) [0, 3] rfl
                have hDc := hD.sub (ws' := (wd_5b5f7811 h0 v0 r0 v1 v2 v3 v4 r1 r2 r3 r4 r5 r6 r7 v5 v6 r8 r9 r10 r11 v7 h1 r12 v8 v9 h2 h3 v10 v11 r13 v12 v13 h4 v14 w15 r14 v16 v17 r15 r16 r17 r18 r19 r20 v18 r21 r22 r23 v19 h3 g2 f22)) [0, 3] (by decide) rfl
                have hKc := hK.sub (tys' := [(g2, .int)]) [2] rfl
                have hFc := va_free (wc := (wd_5b5f7811 h0 v0 r0 v1 v2 v3 v4 r1 r2 r3 r4 r5 r6 r7 v5 v6 r8 r9 r10 r11 v7 h1 r12 v8 v9 h2 h3 v10 v11 r13 v12 v13 h4 v14 w15 r14 v16 v17 r15 r16 r17 r18 r19 r20 v18 r21 r22 r23 v19 h3 g2 f22)) hD hS hA [0, 3] rfl
                refine va_calli (va_runV (As := [.int 3]) (rest := []) ⟨hx, hb, hml, hown, hts⟩ (k_X12_isRefused_2 l dC dI h0 h3 v0 r0 v1 v2 v3 v4 r1 r2 r3 r4 r5 r6 r7 v5 v6 r8 r9 r10 r11 v7 h1 r12 v8 v9 h2 v10 v11 r13 v12 v13 h4 v14 w15 r14 v16 v17 r15 r16 r17 r18 r19 r20 v18 r21 r22 r23 v19 g2 f22 ⟨i_v1a, i_v1b⟩ ⟨i_v5a, i_v5b⟩ ⟨i_v6a, i_v6b⟩ ⟨i_v7a, i_v7b⟩ ⟨i_v8a, i_v8b⟩ ⟨i_v9a, i_v9b⟩ ⟨i_v10a, i_v10b⟩ ⟨i_v14a, i_v14b⟩ ⟨i_v18a, i_v18b⟩ ⟨i_v19a, i_v19b⟩ H.size) (cwV 1 hts g_X12_leave_13 rfl rfl rfl (by decide +kernel) ⟨Nat.le_of_ble_eq_true rfl, Nat.le_of_ble_eq_true rfl⟩) (pv_PV12 hPc hKc hDc (q0 := 0) rfl) rfl rfl hl.1 rfl (lv_room (Nat.le_of_ble_eq_true rfl)) dX12_leave_90 ⟨Nat.le_of_ble_eq_true rfl, Nat.le_of_ble_eq_true rfl⟩) hS (fun q _ h => hFc q h) hFc (fun ra42 u t H1 locs ht hvm hwra42 hB hz1 hk1 hS => ?_)
                try rw [hwra42] at hB
                obtain ⟨fn43, pt0_ra42, pt1_ra42, hP1, hK1, hD1⟩ := hB
                rw [ht] at hP1
                obtain ⟨hP2, hD2⟩ := va_join (wr := (wd_4b0b152d h1 g0 f20 h2 g1 f21 h4 g3 f23)) (w1 := (wd_5b5f7811 h0 v0 r0 v1 v2 v3 v4 r1 r2 r3 r4 r5 r6 r7 v5 v6 r8 r9 r10 r11 v7 h1 r12 v8 v9 h2 h3 v10 v11 r13 v12 v13 h4 v14 w15 r14 v16 v17 r15 r16 r17 r18 r19 r20 v18 r21 r22 r23 v19 h3 g2 fn43)) hP hD [0, 3] [1, 2, 4] rfl rfl (by decide) (by decide) hk1 hFc hP1 hD1
                clear hP hD hPc hDc hKc hFc hP1 hK1 hD1 hk1 hz1
                generalize H1 = H at hP2 hS ⊢
                have hP := hP2.sub (ws' := (wd_56d90344 h0 v0 r0 v1 v2 v3 v4 r1 r2 r3 r4 r5 r6 r7 v5 v6 r8 r9 r10 r11 v7 h1 r12 v8 v9 h2 h3 v10 v11 r13 v12 v13 h4 v14 w15 r14 v16 v17 r15 r16 r17 r18 r19 r20 v18 r21 r22 r23 v19 h1 g0 f20 h2 g1 f21 h3 g2 fn43 h4 g3 f23)) [3, 0, 1, 4, 2] rfl
                have hD := hD2.sub (ws' := (wd_56d90344 h0 v0 r0 v1 v2 v3 v4 r1 r2 r3 r4 r5 r6 r7 v5 v6 r8 r9 r10 r11 v7 h1 r12 v8 v9 h2 h3 v10 v11 r13 v12 v13 h4 v14 w15 r14 v16 v17 r15 r16 r17 r18 r19 r20 v18 r21 r22 r23 v19 h1 g0 f20 h2 g1 f21 h3 g2 fn43 h4 g3 f23)) [3, 0, 1, 4, 2] (by decide) rfl
                clear hP2 hD2
                obtain rfl : ra42 = (1 : Int32) := pv_cs (by decide) pt0_ra42 pt1_ra42
                refine lv_if_eq (tgt := 98) hx hb dX12_leave_93 (by decide) (fun c => absurd c (by decide)) (fun _ => ?_)
                refine lv_iconst (v := (-1)) hx hb dX12_leave_96 (by decide) ?_
                subst hQ
                have hP9 := hP.sub (ws' := (wd_56d90344 h0 v0 r0 v1 v2 v3 v4 r1 r2 r3 r4 r5 r6 r7 v5 v6 r8 r9 r10 r11 v7 h1 r12 v8 v9 h2 h3 v10 v11 r13 v12 v13 h4 v14 w15 r14 v16 v17 r15 r16 r17 r18 r19 r20 v18 r21 r22 r23 v19 h1 g0 f20 h2 g1 f21 h3 g2 fn43 h4 g3 f23)) [0, 1, 2, 3, 4] rfl
                have hD9 := hD.sub (ws' := (wd_56d90344 h0 v0 r0 v1 v2 v3 v4 r1 r2 r3 r4 r5 r6 r7 v5 v6 r8 r9 r10 r11 v7 h1 r12 v8 v9 h2 h3 v10 v11 r13 v12 v13 h4 v14 w15 r14 v16 v17 r15 r16 r17 r18 r19 r20 v18 r21 r22 r23 v19 h1 g0 f20 h2 g1 f21 h3 g2 fn43 h4 g3 f23)) [0, 1, 2, 3, 4] (by decide) rfl
                have hK9 := hK.sub (tys' := []) [] rfl
                exact W.iret (v := (-1)) hx hb hr (fun t ht hW => ⟨⟨(-1), (-1), rfl, rfl, ⟨v14, f21, fn43, f23, i_v14a, i_v14b, ia_f21, ia_f23, by first | omega | decide, by first | omega | decide, by rw [ht]; exact hP9, va_K.moved hW.alike hK9, hD9⟩⟩, hS.F ht⟩) hS.2.2 dX12_leave_97
          · skip
            have fc29 : v9.toInt = 0 := congrArg Int32.toInt c29
            refine lv_iconst (v := 0) hx hb dX12_leave_54 (by decide) ?_
            refine lv_goto (tgt := 90) hx hb dX12_leave_55 (by decide) ?_
            have hPc := hP.sub (ws' := (wd_5b5f7811 h0 v0 r0 v1 v2 v3 v4 r1 r2 r3 r4 r5 r6 r7 v5 v6 r8 r9 r10 r11 v7 h1 r12 v8 v9 h2 h3 v10 v11 r13 v12 v13 h4 v14 w15 r14 v16 v17 r15 r16 r17 r18 r19 r20 v18 r21 r22 r23 v19 h3 g2 f22)) [0, 3] rfl
            have hDc := hD.sub (ws' := (wd_5b5f7811 h0 v0 r0 v1 v2 v3 v4 r1 r2 r3 r4 r5 r6 r7 v5 v6 r8 r9 r10 r11 v7 h1 r12 v8 v9 h2 h3 v10 v11 r13 v12 v13 h4 v14 w15 r14 v16 v17 r15 r16 r17 r18 r19 r20 v18 r21 r22 r23 v19 h3 g2 f22)) [0, 3] (by decide) rfl
            have hKc := hK.sub (tys' := [(g2, .int)]) [2] rfl
            have hFc := va_free (wc := (wd_5b5f7811 h0 v0 r0 v1 v2 v3 v4 r1 r2 r3 r4 r5 r6 r7 v5 v6 r8 r9 r10 r11 v7 h1 r12 v8 v9 h2 h3 v10 v11 r13 v12 v13 h4 v14 w15 r14 v16 v17 r15 r16 r17 r18 r19 r20 v18 r21 r22 r23 v19 h3 g2 f22)) hD hS hA [0, 3] rfl
            refine va_calli (va_runV (As := [.int 0]) (rest := []) ⟨hx, hb, hml, hown, hts⟩ (k_X12_isRefused_1 l dC dI h0 h3 v0 r0 v1 v2 v3 v4 r1 r2 r3 r4 r5 r6 r7 v5 v6 r8 r9 r10 r11 v7 h1 r12 v8 v9 h2 v10 v11 r13 v12 v13 h4 v14 w15 r14 v16 v17 r15 r16 r17 r18 r19 r20 v18 r21 r22 r23 v19 g2 f22 ⟨i_v1a, i_v1b⟩ ⟨i_v5a, i_v5b⟩ ⟨i_v6a, i_v6b⟩ ⟨i_v7a, i_v7b⟩ ⟨i_v8a, i_v8b⟩ ⟨i_v9a, i_v9b⟩ ⟨i_v10a, i_v10b⟩ ⟨i_v14a, i_v14b⟩ ⟨i_v18a, i_v18b⟩ ⟨i_v19a, i_v19b⟩ H.size) (cwV 1 hts g_X12_leave_2 rfl rfl rfl (by decide +kernel) ⟨Nat.le_of_ble_eq_true rfl, Nat.le_of_ble_eq_true rfl⟩) (pv_PV12 hPc hKc hDc (q0 := 0) rfl) rfl rfl hl.1 rfl (lv_room (Nat.le_of_ble_eq_true rfl)) dX12_leave_90 ⟨Nat.le_of_ble_eq_true rfl, Nat.le_of_ble_eq_true rfl⟩) hS (fun q _ h => hFc q h) hFc (fun ra44 u t H1 locs ht hvm hwra44 hB hz1 hk1 hS => ?_)
            try rw [hwra44] at hB
            obtain ⟨fn45, pt0_ra44, pt1_ra44, hP1, hK1, hD1⟩ := hB
            rw [ht] at hP1
            obtain ⟨hP2, hD2⟩ := va_join (wr := (wd_4b0b152d h1 g0 f20 h2 g1 f21 h4 g3 f23)) (w1 := (wd_5b5f7811 h0 v0 r0 v1 v2 v3 v4 r1 r2 r3 r4 r5 r6 r7 v5 v6 r8 r9 r10 r11 v7 h1 r12 v8 v9 h2 h3 v10 v11 r13 v12 v13 h4 v14 w15 r14 v16 v17 r15 r16 r17 r18 r19 r20 v18 r21 r22 r23 v19 h3 g2 fn45)) hP hD [0, 3] [1, 2, 4] rfl rfl (by decide) (by decide) hk1 hFc hP1 hD1
            clear hP hD hPc hDc hKc hFc hP1 hK1 hD1 hk1 hz1
            generalize H1 = H at hP2 hS ⊢
            have hP := hP2.sub (ws' := (wd_56d90344 h0 v0 r0 v1 v2 v3 v4 r1 r2 r3 r4 r5 r6 r7 v5 v6 r8 r9 r10 r11 v7 h1 r12 v8 v9 h2 h3 v10 v11 r13 v12 v13 h4 v14 w15 r14 v16 v17 r15 r16 r17 r18 r19 r20 v18 r21 r22 r23 v19 h1 g0 f20 h2 g1 f21 h3 g2 fn45 h4 g3 f23)) [3, 0, 1, 4, 2] rfl
            have hD := hD2.sub (ws' := (wd_56d90344 h0 v0 r0 v1 v2 v3 v4 r1 r2 r3 r4 r5 r6 r7 v5 v6 r8 r9 r10 r11 v7 h1 r12 v8 v9 h2 h3 v10 v11 r13 v12 v13 h4 v14 w15 r14 v16 v17 r15 r16 r17 r18 r19 r20 v18 r21 r22 r23 v19 h1 g0 f20 h2 g1 f21 h3 g2 fn45 h4 g3 f23)) [3, 0, 1, 4, 2] (by decide) rfl
            clear hP2 hD2
            obtain rfl : ra44 = (1 : Int32) := pv_cs (by decide) pt0_ra44 pt1_ra44
            refine lv_if_eq (tgt := 98) hx hb dX12_leave_93 (by decide) (fun c => absurd c (by decide)) (fun _ => ?_)
            refine lv_iconst (v := (-1)) hx hb dX12_leave_96 (by decide) ?_
            subst hQ
            have hP9 := hP.sub (ws' := (wd_56d90344 h0 v0 r0 v1 v2 v3 v4 r1 r2 r3 r4 r5 r6 r7 v5 v6 r8 r9 r10 r11 v7 h1 r12 v8 v9 h2 h3 v10 v11 r13 v12 v13 h4 v14 w15 r14 v16 v17 r15 r16 r17 r18 r19 r20 v18 r21 r22 r23 v19 h1 g0 f20 h2 g1 f21 h3 g2 fn45 h4 g3 f23)) [0, 1, 2, 3, 4] rfl
            have hD9 := hD.sub (ws' := (wd_56d90344 h0 v0 r0 v1 v2 v3 v4 r1 r2 r3 r4 r5 r6 r7 v5 v6 r8 r9 r10 r11 v7 h1 r12 v8 v9 h2 h3 v10 v11 r13 v12 v13 h4 v14 w15 r14 v16 v17 r15 r16 r17 r18 r19 r20 v18 r21 r22 r23 v19 h1 g0 f20 h2 g1 f21 h3 g2 fn45 h4 g3 f23)) [0, 1, 2, 3, 4] (by decide) rfl
            have hK9 := hK.sub (tys' := []) [] rfl
            exact W.iret (v := (-1)) hx hb hr (fun t ht hW => ⟨⟨(-1), (-1), rfl, rfl, ⟨v14, f21, fn45, f23, i_v14a, i_v14b, ia_f21, ia_f23, by first | omega | decide, by first | omega | decide, by rw [ht]; exact hP9, va_K.moved hW.alike hK9, hD9⟩⟩, hS.F ht⟩) hS.2.2 dX12_leave_97
def q_X12_isRefused_5 : List Cond := .code yX12_isRefused cX12_isRefused 2 (some .boolean) :: (([.fieldLink RX12 55 "LeftArgumentsModel" "refused" "[I"] : List Cond) ++ wsX120)
set_option maxHeartbeats 4000000 in
set_option maxRecDepth 100000 in
theorem k_X12_isRefused_5 (l : Launch) (dC : Nat → ClassId) (dI : Nat → Nat → Nat) (h0 : Nat) (h1 : Nat) (v0 : Int32) (r0 : Nat) (v1 : Int32) (v2 : Int32) (v3 : Int32) (v4 : Int32) (r1 : Nat) (r2 : Nat) (r3 : Nat) (r4 : Nat) (r5 : Nat) (r6 : Nat) (r7 : Nat) (v5 : Int32) (v6 : Int32) (r8 : Nat) (r9 : Nat) (r10 : Nat) (r11 : Nat) (v7 : Int32) (r12 : Nat) (r13 : Nat) (v8 : Int32) (v9 : Int32) (r14 : Nat) (v10 : Int32) (v11 : Int32) (r15 : Nat) (v12 : Int32) (v13 : Int32) (r16 : Nat) (v14 : Int32) (w15 : Int64) (r17 : Nat) (v16 : Int32) (v17 : Int32) (r18 : Nat) (r19 : Nat) (r20 : Nat) (r21 : Nat) (r22 : Nat) (r23 : Nat) (v18 : Int32) (r24 : Nat) (r25 : Nat) (r26 : Nat) (v19 : Int32) (g0 : ClassId) (f20 : Nat → Int32) (i_v1 : 0 ≤ v1.toInt ∧ v1.toInt ≤ 240) (i_v5 : 0 ≤ v5.toInt ∧ v5.toInt ≤ 4) (i_v6 : 0 ≤ v6.toInt ∧ v6.toInt ≤ 4) (i_v7 : 0 ≤ v7.toInt ∧ v7.toInt ≤ 8) (i_v8 : 0 ≤ v8.toInt ∧ v8.toInt ≤ 8) (i_v9 : 0 ≤ v9.toInt ∧ v9.toInt ≤ 1) (i_v10 : -1 ≤ v10.toInt ∧ v10.toInt ≤ 3) (i_v14 : 0 ≤ v14.toInt ∧ v14.toInt ≤ 40) (i_v18 : 0 ≤ v18.toInt ∧ v18.toInt ≤ 10) (i_v19 : 0 ≤ v19.toInt ∧ v19.toInt ≤ 1) (sz : Nat) : Met l yX12_isRefused q_X12_isRefused_5 ({ frames := 0, cells := 0, slots := 0, locals := 0 }) (va_Pc [.ref h0, .int 4] (fun U => U.heap.size = sz ∧ va_P (dC, dI) vwCl (wd_5b5f7811 h0 v0 r0 v1 v2 v3 v4 r1 r2 r3 r4 r5 r6 r7 v5 v6 r8 r9 r10 r11 v7 r12 r13 v8 v9 r14 h1 v10 v11 r15 v12 v13 r16 v14 w15 r17 v16 v17 r18 r19 r20 r21 r22 r23 v18 r24 r25 r26 v19 h1 g0 f20) U.heap ∧ va_K (dC, dI) vwCl [(g0, .int)] U ∧ va_D (fun _ => True) (wd_5b5f7811 h0 v0 r0 v1 v2 v3 v4 r1 r2 r3 r4 r5 r6 r7 v5 v6 r8 r9 r10 r11 v7 r12 r13 v8 v9 r14 h1 v10 v11 r15 v12 v13 r16 v14 w15 r17 v16 v17 r18 r19 r20 r21 r22 r23 v18 r24 r25 r26 v19 h1 g0 f20))) (va_Qi (fun (r : Int32) (r9 : Int32) => r9 = r) (fun (r : Int32) (t : State) => (∃ (o_h1 : Nat → Int32), (1 ≤ r.toInt) ∧ (r.toInt ≤ 1) ∧ va_P (dC, dI) vwCl (wd_5b5f7811 h0 v0 r0 v1 v2 v3 v4 r1 r2 r3 r4 r5 r6 r7 v5 v6 r8 r9 r10 r11 v7 r12 r13 v8 v9 r14 h1 v10 v11 r15 v12 v13 r16 v14 w15 r17 v16 v17 r18 r19 r20 r21 r22 r23 v18 r24 r25 r26 v19 h1 g0 o_h1) t.heap ∧ va_K (dC, dI) vwCl [] t ∧ va_D (va_A (wd_5b5f7811 h0 v0 r0 v1 v2 v3 v4 r1 r2 r3 r4 r5 r6 r7 v5 v6 r8 r9 r10 r11 v7 r12 r13 v8 v9 r14 h1 v10 v11 r15 v12 v13 r16 v14 w15 r17 v16 v17 r18 r19 r20 r21 r22 r23 v18 r24 r25 r26 v19 h1 g0 f20) sz) (wd_5b5f7811 h0 v0 r0 v1 v2 v3 v4 r1 r2 r3 r4 r5 r6 r7 v5 v6 r8 r9 r10 r11 v7 r12 r13 v8 v9 r14 h1 v10 v11 r15 v12 v13 r16 v14 w15 r17 v16 v17 r18 r19 r20 r21 r22 r23 v18 r24 r25 r26 v19 h1 g0 o_h1))) (va_A (wd_5b5f7811 h0 v0 r0 v1 v2 v3 v4 r1 r2 r3 r4 r5 r6 r7 v5 v6 r8 r9 r10 r11 v7 r12 r13 v8 v9 r14 h1 v10 v11 r15 v12 v13 r16 v14 w15 r17 v16 v17 r18 r19 r20 r21 r22 r23 v18 r24 r25 r26 v19 h1 g0 f20) sz)) 0 0 (va_A (wd_5b5f7811 h0 v0 r0 v1 v2 v3 v4 r1 r2 r3 r4 r5 r6 r7 v5 v6 r8 r9 r10 r11 v7 r12 r13 v8 v9 r14 h1 v10 v11 r15 v12 v13 r16 v14 w15 r17 v16 v17 r18 r19 r20 r21 r22 r23 v18 r24 r25 r26 v19 h1 g0 f20) sz) := by
  refine Met.ofW (cc := cX12_isRefused) (maxL := 2) (ret := (some .boolean)) (by decide) rfl ?_
  intro p e s m args below meth c s₁ B hml hv
  obtain ⟨i_v1a, i_v1b⟩ := i_v1
  obtain ⟨i_v5a, i_v5b⟩ := i_v5
  obtain ⟨i_v6a, i_v6b⟩ := i_v6
  obtain ⟨i_v7a, i_v7b⟩ := i_v7
  obtain ⟨i_v8a, i_v8b⟩ := i_v8
  obtain ⟨i_v9a, i_v9b⟩ := i_v9
  obtain ⟨i_v10a, i_v10b⟩ := i_v10
  obtain ⟨i_v14a, i_v14b⟩ := i_v14
  obtain ⟨i_v18a, i_v18b⟩ := i_v18
  obtain ⟨i_v19a, i_v19b⟩ := i_v19
  obtain ⟨rfl, hsz, hP, hK, hD0⟩ := hv
  have hx := B.exec
  have hb := B.bytes
  have hr := B.returns
  have hts := atoms_spec (ws := q_X12_isRefused_5) B.pre
  have hown : s.vm.findClass RX12 = some m.cls := findClass_of_methodNamed B.named
  have hlocks := B.notSynchronized
  subst hsz
  have hD := hD0.self (sz := s.heap.size)
  generalize hAe : va_A (wd_5b5f7811 h0 v0 r0 v1 v2 v3 v4 r1 r2 r3 r4 r5 r6 r7 v5 v6 r8 r9 r10 r11 v7 r12 r13 v8 v9 r14 h1 v10 v11 r15 v12 v13 r16 v14 w15 r17 v16 v17 r18 r19 r20 r21 r22 r23 v18 r24 r25 r26 v19 h1 g0 f20) s.heap.size = A at hD ⊢
  have hA : ∀ q : Nat, s.heap.size ≤ q → A q := fun q h => by rw [← hAe]; exact Or.inr h
  have hS : va_S A s.heap s.heap [] := va_S.rf
  generalize hQ : (MQ below _ _ s 0 0 A) = Q
  have hl := lv_entry ([.ref h0, .int 4]) (n := 2) (Nat.le_of_ble_eq_true rfl)
  rw [lg_entry_eq]
  generalize (lg_sl ([.ref h0, .int 4]) ++ List.replicate (2 - (lg_sl ([.ref h0, .int 4])).length) Slot.unset).toArray = ls at hl ⊢
  have hl : lv_has ls 2 [(0, .ref h0), (1, .int 4)] := hl
  obtain ⟨H, hH⟩ : ∃ H : Heap, H = s.heap := ⟨_, rfl⟩
  obtain ⟨locs, hlocs⟩ : ∃ y : List Loc, y = [] := ⟨_, rfl⟩
  have hS : va_S A s.heap H locs := by rw [hH, hlocs]; exact va_S.rf
  have hP : va_P (dC, dI) vwCl (wd_5b5f7811 h0 v0 r0 v1 v2 v3 v4 r1 r2 r3 r4 r5 r6 r7 v5 v6 r8 r9 r10 r11 v7 r12 r13 v8 v9 r14 h1 v10 v11 r15 v12 v13 r16 v14 w15 r17 v16 v17 r18 r19 r20 r21 r22 r23 v18 r24 r25 r26 v19 h1 g0 f20) H := by rw [hH]; exact hP
  rw [← hH, ← hlocs]
  refine lv_iload_n hx hb dX12_isRefused_0 rfl (lv_at hl 1 rfl) ?_
  refine lv_iconst (v := (-1)) hx hb dX12_isRefused_1 (by decide) ?_
  refine lv_icmp_eq (tgt := 15) hx hb dX12_isRefused_2 (by decide) (fun c => absurd c (by decide)) (fun _ => ?_)
  refine lv_aload_n hx hb dX12_isRefused_5 rfl (lv_at hl 0 rfl) ?_
  refine va_get (D := (dC, dI)) (ci := 12) (v := .ref h1) (C := RX12) (T := TX12) (N := 48) hx hb hts (fun _ h => List.mem_cons_of_mem _ (List.mem_append_right _ h)) hown hK hP 0 rfl rfl 25 (by decide) (hts (.fieldLink RX12 55 "LeftArgumentsModel" "refused" "[I") (List.mem_cons_of_mem _ (List.mem_append_left _ (List.mem_of_getElem? (i := 0) rfl)))) (fun _ h9 => h9) rfl dX12_isRefused_6 ?_
  refine lv_iload_n hx hb dX12_isRefused_9 rfl (lv_at hl 1 rfl) ?_
  refine lv_dup2_11 hx hb dX12_isRefused_10 rfl rfl ?_
  refine va_iald hx hb hK hP 1 0 rfl rfl (pv_c (x := 4) (n := 5) (by decide)) dX12_isRefused_11 ?_
  refine lv_topi (fun t1 et1 => ?_)
  refine lv_iconst (v := 1) hx hb dX12_isRefused_12 (by decide) ?_
  refine lv_iadd hx hb dX12_isRefused_13 ?_
  refine lv_topi (fun t2 et2 => ?_)
  refine va_iast hx hb hK hP hD hS 1 0 rfl rfl (pv_c (x := 4) (n := 5) (by decide)) dX12_isRefused_14 (fun H locs hP hD hS => ?_)
  obtain ⟨fn3, efn3⟩ : ∃ g : Nat → Int32, g = upd f20 (Int32.toNatClampNeg 4) t2 := ⟨_, rfl⟩
  rw [← efn3] at hP hD
  have hP : va_P (dC, dI) vwCl (wd_5b5f7811 h0 v0 r0 v1 v2 v3 v4 r1 r2 r3 r4 r5 r6 r7 v5 v6 r8 r9 r10 r11 v7 r12 r13 v8 v9 r14 h1 v10 v11 r15 v12 v13 r16 v14 w15 r17 v16 v17 r18 r19 r20 r21 r22 r23 v18 r24 r25 r26 v19 h1 g0 fn3) H := hP
  have hD : va_D A (wd_5b5f7811 h0 v0 r0 v1 v2 v3 v4 r1 r2 r3 r4 r5 r6 r7 v5 v6 r8 r9 r10 r11 v7 r12 r13 v8 v9 r14 h1 v10 v11 r15 v12 v13 r16 v14 w15 r17 v16 v17 r18 r19 r20 r21 r22 r23 v18 r24 r25 r26 v19 h1 g0 fn3) := hD
  refine lv_iload_n hx hb dX12_isRefused_15 rfl (lv_at hl 1 rfl) ?_
  refine lv_iconst (v := (-1)) hx hb dX12_isRefused_16 (by decide) ?_
  refine lv_icmp_eq (tgt := 24) hx hb dX12_isRefused_17 (by decide) (fun c => absurd c (by decide)) (fun _ => ?_)
  refine lv_iconst (v := 1) hx hb dX12_isRefused_20 (by decide) ?_
  refine lv_goto (tgt := 25) hx hb dX12_isRefused_21 (by decide) ?_
  subst hQ
  have hP9 := hP.sub (ws' := (wd_5b5f7811 h0 v0 r0 v1 v2 v3 v4 r1 r2 r3 r4 r5 r6 r7 v5 v6 r8 r9 r10 r11 v7 r12 r13 v8 v9 r14 h1 v10 v11 r15 v12 v13 r16 v14 w15 r17 v16 v17 r18 r19 r20 r21 r22 r23 v18 r24 r25 r26 v19 h1 g0 fn3)) [0, 1] rfl
  have hD9 := hD.sub (ws' := (wd_5b5f7811 h0 v0 r0 v1 v2 v3 v4 r1 r2 r3 r4 r5 r6 r7 v5 v6 r8 r9 r10 r11 v7 r12 r13 v8 v9 r14 h1 v10 v11 r15 v12 v13 r16 v14 w15 r17 v16 v17 r18 r19 r20 r21 r22 r23 v18 r24 r25 r26 v19 h1 g0 fn3)) [0, 1] (by decide) rfl
  have hK9 := hK.sub (tys' := []) [] rfl
  exact W.zret (v := 1) hx hb hr rfl (fun t ht hW => ⟨⟨1, 1, rfl, rfl, ⟨fn3, by first | omega | decide, by first | omega | decide, by rw [ht]; exact hP9, va_K.moved hW.alike hK9, hD9⟩⟩, hS.F ht⟩) hS.2.2 dX12_isRefused_25
def q_X12_days : List Cond := .code yX12_days cX12_days 3 (some .int) :: (([.fieldLink RX12 262 "LeftArgumentsModel" "isOffice" "Z", .code yX12_in cX12_in 3 (some .boolean), .initialized RX12, .static yX12_in, .methodLink RX12 217 yX12_in, .code yX12_areDays cX12_areDays 2 (some .boolean), .fieldLink RX12 52 "LeftArgumentsModel" "now" "[I", .instanceMethod yX12_areDays, .selects RX12 yX12_areDays yX12_areDays, .methodLink RX12 336 yX12_areDays, .code yX12_isRefused cX12_isRefused 2 (some .boolean), .instanceMethod yX12_isRefused, .selects RX12 yX12_isRefused yX12_isRefused, .methodLink RX12 339 yX12_isRefused, .code yX12_keep cX12_keep 2 none, .fieldLink RX12 275 "LeftArgumentsModel" "acts" "I", .fieldLink RX12 68 "LeftArgumentsModel" "kept" "[I", .instanceMethod yX12_keep, .selects RX12 yX12_keep yX12_keep, .methodLink RX12 342 yX12_keep, .code yX12_passDay cX12_passDay 2 none, .code yX12_live cX12_live 2 none, .code yX12_growAll cX12_growAll 2 none, .code yX12_isThere cX12_isThere 2 (some .boolean), .code yX12_of cX12_of 3 (some .int), .instanceMethod yX12_of, .selects RX12 yX12_of yX12_of, .methodLink RX12 287 yX12_of, .instanceMethod yX12_isThere, .selects RX12 yX12_isThere yX12_isThere, .methodLink RX12 290 yX12_isThere, .fieldLink RX12 65 "LeftArgumentsModel" "grows" "[I", .methodLink RX12 299 Lib.Math.min.name, .static Lib.Math.min.name, .initialized "java/lang/Math", .code Lib.Math.min.name Lib.Math.min.code 2 (some .int), .methodLink RX12 301 Lib.Math.max.name, .static Lib.Math.max.name, .code Lib.Math.max.name Lib.Math.max.code 2 (some .int), .code yX12_set cX12_set 4 none, .instanceMethod yX12_set, .selects RX12 yX12_set yX12_set, .methodLink RX12 258 yX12_set, .code yX12_growthOf cX12_growthOf 4 (some .int), .code yX12_withOf cX12_withOf 4 (some .int), .instanceMethod yX12_withOf, .selects RX12 yX12_withOf yX12_withOf, .methodLink RX12 293 yX12_withOf, .fieldLink RX12 58 "LeftArgumentsModel" "holding" "I", .fieldLink RX12 34 "LeftArgumentsModel" "letters" "[I", .code yX12_worthOf cX12_worthOf 3 (some .int), .fieldLink RX12 22 "LeftArgumentsModel" "clauses" "[I", .fieldLink RX12 25 "LeftArgumentsModel" "testFrom" "[I", .fieldLink RX12 28 "LeftArgumentsModel" "sumFrom" "[I", .fieldLink RX12 31 "LeftArgumentsModel" "sumTo" "[I", .code yX12_workOut cX12_workOut 6 (some .int), .fieldLink RX12 37 "LeftArgumentsModel" "stack" "[I", .fieldLink RX12 13 "LeftArgumentsModel" "code" "[I", .fieldLink RX12 16 "LeftArgumentsModel" "value" "[I", .code yX12_worked cX12_worked 5 (some .int), .code yX12_bounded cX12_bounded 2 (some .int), .constantLong RX12 192 (-1000000), .constantLong RX12 194 (1000000), .methodLink RX12 196 Lib.MathLoose.min_long.x, .static Lib.MathLoose.min_long.x, .code Lib.MathLoose.min_long.x Lib.MathLoose.min_long.code 4 (some .long), .methodLink RX12 202 Lib.MathLoose.max_long.x, .static Lib.MathLoose.max_long.x, .code Lib.MathLoose.max_long.x Lib.MathLoose.max_long.code 4 (some .long), .static yX12_bounded, .methodLink RX12 205 yX12_bounded, .static yX12_worked, .methodLink RX12 209 yX12_worked, .instanceMethod yX12_workOut, .selects RX12 yX12_workOut yX12_workOut, .methodLink RX12 213 yX12_workOut, .instanceMethod yX12_worthOf, .selects RX12 yX12_worthOf yX12_worthOf, .methodLink RX12 296 yX12_worthOf, .instanceMethod yX12_growthOf, .selects RX12 yX12_growthOf yX12_growthOf, .methodLink RX12 303 yX12_growthOf, .instanceMethod yX12_growAll, .selects RX12 yX12_growAll yX12_growAll, .methodLink RX12 318 yX12_growAll, .code yX12_endAll cX12_endAll 2 none, .fieldLink RX12 306 "LeftArgumentsModel" "ended" "I", .instanceMethod yX12_endAll, .selects RX12 yX12_endAll yX12_endAll, .methodLink RX12 321 yX12_endAll, .code yX12_dropAll cX12_dropAll 3 none, .fieldLink RX12 309 "LeftArgumentsModel" "fell" "I", .fieldLink RX12 46 "LeftArgumentsModel" "rule" "[I", .code yX12_loadOf cX12_loadOf 4 (some .int), .instanceMethod yX12_loadOf, .selects RX12 yX12_loadOf yX12_loadOf, .methodLink RX12 312 yX12_loadOf, .code yX12_largestOn cX12_largestOn 4 (some .int), .instanceMethod yX12_largestOn, .selects RX12 yX12_largestOn yX12_largestOn, .methodLink RX12 315 yX12_largestOn, .instanceMethod yX12_dropAll, .selects RX12 yX12_dropAll yX12_dropAll, .methodLink RX12 324 yX12_dropAll, .instanceMethod yX12_live, .selects RX12 yX12_live yX12_live, .methodLink RX12 327 yX12_live, .code yX12_sizeAll cX12_sizeAll 3 (some .int), .instanceMethod yX12_sizeAll, .selects RX12 yX12_sizeAll yX12_sizeAll, .methodLink RX12 330 yX12_sizeAll, .instanceMethod yX12_passDay, .selects RX12 yX12_passDay yX12_passDay, .methodLink RX12 345 yX12_passDay, .fieldLink RX12 55 "LeftArgumentsModel" "refused" "[I"] : List Cond) ++ wsX120)
set_option maxRecDepth 20000 in
theorem g_X12_days_0 : GoodIn q_X12_days (va_wsS RX12 217 yX12_in q_X12_in_6) := goodIn_app (goodIn_r _ [5, 4, 3] rfl (by decide +kernel)) (goodIn_r (.code yX12_in cX12_in 3 (some .boolean) :: []) [2] rfl (by decide +kernel))
set_option maxRecDepth 20000 in
theorem g_X12_days_1 : GoodIn q_X12_days (wsV RX12 336 RX12 yX12_areDays q_X12_areDays) := goodIn_app (goodIn_r _ [10, 8, 9, 3] rfl (by decide +kernel)) (goodIn_ca (goodIn_r (.code yX12_areDays cX12_areDays 2 (some .boolean) :: [.code yX12_in cX12_in 3 (some .boolean), .initialized RX12, .static yX12_in, .methodLink RX12 217 yX12_in, .fieldLink RX12 52 "LeftArgumentsModel" "now" "[I"]) [6, 2, 3, 4, 5, 7] rfl (by decide +kernel)) (goodIn_sub (fun _ h => List.mem_cons_of_mem _ (List.mem_append_right _ h)) gwX12))
set_option maxRecDepth 20000 in
theorem g_X12_days_2 : GoodIn q_X12_days (wsV RX12 339 RX12 yX12_isRefused q_X12_isRefused) := goodIn_app (goodIn_r _ [14, 12, 13, 3] rfl (by decide +kernel)) (goodIn_r (.code yX12_isRefused cX12_isRefused 2 (some .boolean) :: []) [11] rfl (by decide +kernel))
set_option maxRecDepth 20000 in
theorem g_X12_days_3 : GoodIn q_X12_days (wsV RX12 342 RX12 yX12_keep q_X12_keep) := goodIn_app (goodIn_r _ [20, 18, 19, 3] rfl (by decide +kernel)) (goodIn_ca (goodIn_r (.code yX12_keep cX12_keep 2 none :: [.fieldLink RX12 275 "LeftArgumentsModel" "acts" "I", .fieldLink RX12 68 "LeftArgumentsModel" "kept" "[I", .fieldLink RX12 52 "LeftArgumentsModel" "now" "[I"]) [15, 16, 17, 7] rfl (by decide +kernel)) (goodIn_sub (fun _ h => List.mem_cons_of_mem _ (List.mem_append_right _ h)) gwX12))
set_option maxRecDepth 20000 in
theorem g_X12_days_4 : GoodIn q_X12_days (wsV RX12 345 RX12 yX12_passDay q_X12_passDay) := goodIn_app (goodIn_r _ [114, 112, 113, 3] rfl (by decide +kernel)) (goodIn_ca (goodIn_r (.code yX12_passDay cX12_passDay 2 none :: [.code yX12_live cX12_live 2 none, .code yX12_growAll cX12_growAll 2 none, .code yX12_isThere cX12_isThere 2 (some .boolean), .code yX12_in cX12_in 3 (some .boolean), .initialized RX12, .static yX12_in, .methodLink RX12 217 yX12_in, .code yX12_of cX12_of 3 (some .int), .fieldLink RX12 52 "LeftArgumentsModel" "now" "[I", .instanceMethod yX12_of, .selects RX12 yX12_of yX12_of, .methodLink RX12 287 yX12_of, .instanceMethod yX12_isThere, .selects RX12 yX12_isThere yX12_isThere, .methodLink RX12 290 yX12_isThere, .fieldLink RX12 65 "LeftArgumentsModel" "grows" "[I", .methodLink RX12 299 Lib.Math.min.name, .static Lib.Math.min.name, .initialized "java/lang/Math", .code Lib.Math.min.name Lib.Math.min.code 2 (some .int), .methodLink RX12 301 Lib.Math.max.name, .static Lib.Math.max.name, .code Lib.Math.max.name Lib.Math.max.code 2 (some .int), .code yX12_set cX12_set 4 none, .instanceMethod yX12_set, .selects RX12 yX12_set yX12_set, .methodLink RX12 258 yX12_set, .code yX12_growthOf cX12_growthOf 4 (some .int), .code yX12_withOf cX12_withOf 4 (some .int), .instanceMethod yX12_withOf, .selects RX12 yX12_withOf yX12_withOf, .methodLink RX12 293 yX12_withOf, .fieldLink RX12 58 "LeftArgumentsModel" "holding" "I", .fieldLink RX12 34 "LeftArgumentsModel" "letters" "[I", .code yX12_worthOf cX12_worthOf 3 (some .int), .fieldLink RX12 22 "LeftArgumentsModel" "clauses" "[I", .fieldLink RX12 25 "LeftArgumentsModel" "testFrom" "[I", .fieldLink RX12 28 "LeftArgumentsModel" "sumFrom" "[I", .fieldLink RX12 31 "LeftArgumentsModel" "sumTo" "[I", .code yX12_workOut cX12_workOut 6 (some .int), .fieldLink RX12 37 "LeftArgumentsModel" "stack" "[I", .fieldLink RX12 13 "LeftArgumentsModel" "code" "[I", .fieldLink RX12 16 "LeftArgumentsModel" "value" "[I", .code yX12_worked cX12_worked 5 (some .int), .code yX12_bounded cX12_bounded 2 (some .int), .constantLong RX12 192 (-1000000), .constantLong RX12 194 (1000000), .methodLink RX12 196 Lib.MathLoose.min_long.x, .static Lib.MathLoose.min_long.x, .code Lib.MathLoose.min_long.x Lib.MathLoose.min_long.code 4 (some .long), .methodLink RX12 202 Lib.MathLoose.max_long.x, .static Lib.MathLoose.max_long.x, .code Lib.MathLoose.max_long.x Lib.MathLoose.max_long.code 4 (some .long), .static yX12_bounded, .methodLink RX12 205 yX12_bounded, .static yX12_worked, .methodLink RX12 209 yX12_worked, .instanceMethod yX12_workOut, .selects RX12 yX12_workOut yX12_workOut, .methodLink RX12 213 yX12_workOut, .instanceMethod yX12_worthOf, .selects RX12 yX12_worthOf yX12_worthOf, .methodLink RX12 296 yX12_worthOf, .instanceMethod yX12_growthOf, .selects RX12 yX12_growthOf yX12_growthOf, .methodLink RX12 303 yX12_growthOf, .instanceMethod yX12_growAll, .selects RX12 yX12_growAll yX12_growAll, .methodLink RX12 318 yX12_growAll, .code yX12_endAll cX12_endAll 2 none, .fieldLink RX12 306 "LeftArgumentsModel" "ended" "I", .instanceMethod yX12_endAll, .selects RX12 yX12_endAll yX12_endAll, .methodLink RX12 321 yX12_endAll, .code yX12_dropAll cX12_dropAll 3 none, .fieldLink RX12 309 "LeftArgumentsModel" "fell" "I", .fieldLink RX12 46 "LeftArgumentsModel" "rule" "[I", .code yX12_loadOf cX12_loadOf 4 (some .int), .instanceMethod yX12_loadOf, .selects RX12 yX12_loadOf yX12_loadOf, .methodLink RX12 312 yX12_loadOf, .code yX12_largestOn cX12_largestOn 4 (some .int), .instanceMethod yX12_largestOn, .selects RX12 yX12_largestOn yX12_largestOn, .methodLink RX12 315 yX12_largestOn, .instanceMethod yX12_dropAll, .selects RX12 yX12_dropAll yX12_dropAll, .methodLink RX12 324 yX12_dropAll, .instanceMethod yX12_live, .selects RX12 yX12_live yX12_live, .methodLink RX12 327 yX12_live, .code yX12_sizeAll cX12_sizeAll 3 (some .int), .instanceMethod yX12_sizeAll, .selects RX12 yX12_sizeAll yX12_sizeAll, .methodLink RX12 330 yX12_sizeAll]) [21, 22, 23, 24, 2, 3, 4, 5, 25, 7, 26, 27, 28, 29, 30, 31, 32, 33, 34, 35, 36, 37, 38, 39, 40, 41, 42, 43, 44, 45, 46, 47, 48, 49, 50, 51, 52, 53, 54, 55, 56, 57, 58, 59, 60, 61, 62, 63, 64, 65, 66, 67, 68, 69, 70, 71, 72, 73, 74, 75, 76, 77, 78, 79, 80, 81, 82, 83, 84, 85, 86, 87, 88, 89, 90, 91, 92, 93, 94, 95, 96, 97, 98, 99, 100, 101, 102, 103, 104, 105, 106, 107, 108, 109, 110, 111] rfl (by decide +kernel)) (goodIn_sub (fun _ h => List.mem_cons_of_mem _ (List.mem_append_right _ h)) gwX12))
set_option maxRecDepth 20000 in
theorem g_X12_days_5 : GoodIn q_X12_days (wsV RX12 339 RX12 yX12_isRefused q_X12_isRefused_5) := goodIn_app (goodIn_r _ [14, 12, 13, 3] rfl (by decide +kernel)) (goodIn_ca (goodIn_r (.code yX12_isRefused cX12_isRefused 2 (some .boolean) :: [.fieldLink RX12 55 "LeftArgumentsModel" "refused" "[I"]) [11, 115] rfl (by decide +kernel)) (goodIn_sub (fun _ h => List.mem_cons_of_mem _ (List.mem_append_right _ h)) gwX12))
set_option maxRecDepth 20000 in
theorem g_X12_days_6 : GoodIn q_X12_days (wsV RX12 339 RX12 yX12_isRefused q_X12_isRefused_4) := goodIn_app (goodIn_r _ [14, 12, 13, 3] rfl (by decide +kernel)) (goodIn_ca (goodIn_r (.code yX12_isRefused cX12_isRefused 2 (some .boolean) :: [.fieldLink RX12 55 "LeftArgumentsModel" "refused" "[I"]) [11, 115] rfl (by decide +kernel)) (goodIn_sub (fun _ h => List.mem_cons_of_mem _ (List.mem_append_right _ h)) gwX12))
set_option maxRecDepth 20000 in
theorem g_X12_days_7 : GoodIn q_X12_days (wsV RX12 339 RX12 yX12_isRefused q_X12_isRefused_1) := goodIn_app (goodIn_r _ [14, 12, 13, 3] rfl (by decide +kernel)) (goodIn_ca (goodIn_r (.code yX12_isRefused cX12_isRefused 2 (some .boolean) :: [.fieldLink RX12 55 "LeftArgumentsModel" "refused" "[I"]) [11, 115] rfl (by decide +kernel)) (goodIn_sub (fun _ h => List.mem_cons_of_mem _ (List.mem_append_right _ h)) gwX12))
set_option maxHeartbeats 4000000 in
set_option maxRecDepth 100000 in
theorem k_X12_days (l : Launch) (dC : Nat → ClassId) (dI : Nat → Nat → Nat) (h0 : Nat) (h1 : Nat) (h2 : Nat) (h3 : Nat) (h4 : Nat) (h5 : Nat) (h6 : Nat) (h7 : Nat) (h8 : Nat) (h9 : Nat) (h10 : Nat) (h11 : Nat) (h12 : Nat) (h13 : Nat) (v0 : Int32) (r0 : Nat) (v1 : Int32) (v2 : Int32) (v3 : Int32) (v4 : Int32) (r1 : Nat) (v5 : Int32) (v6 : Int32) (r2 : Nat) (r3 : Nat) (v7 : Int32) (r4 : Nat) (v8 : Int32) (v9 : Int32) (v10 : Int32) (v11 : Int32) (v12 : Int32) (v13 : Int32) (v14 : Int32) (w15 : Int64) (r5 : Nat) (v16 : Int32) (v17 : Int32) (r6 : Nat) (r7 : Nat) (r8 : Nat) (r9 : Nat) (r10 : Nat) (r11 : Nat) (v18 : Int32) (r12 : Nat) (r13 : Nat) (r14 : Nat) (v19 : Int32) (g0 : ClassId) (f20 : Nat → Int32) (g1 : ClassId) (f21 : Nat → Int32) (g2 : ClassId) (f22 : Nat → Int32) (g3 : ClassId) (f23 : Nat → Int32) (g4 : ClassId) (f24 : Nat → Int32) (g5 : ClassId) (f25 : Nat → Int32) (g6 : ClassId) (f26 : Nat → Int32) (g7 : ClassId) (f27 : Nat → Int32) (g8 : ClassId) (f28 : Nat → Int32) (g9 : ClassId) (f29 : Nat → Int32) (g10 : ClassId) (f30 : Nat → Int32) (g11 : ClassId) (f31 : Nat → Int32) (g12 : ClassId) (f32 : Nat → Int32) (v33 : Int32) (i_v1 : 0 ≤ v1.toInt ∧ v1.toInt ≤ 240) (i_v5 : 0 ≤ v5.toInt ∧ v5.toInt ≤ 4) (i_v6 : 0 ≤ v6.toInt ∧ v6.toInt ≤ 4) (i_v7 : 0 ≤ v7.toInt ∧ v7.toInt ≤ 8) (i_v8 : 0 ≤ v8.toInt ∧ v8.toInt ≤ 8) (i_v9 : 0 ≤ v9.toInt ∧ v9.toInt ≤ 1) (i_v10 : -1 ≤ v10.toInt ∧ v10.toInt ≤ 3) (i_v14 : 0 ≤ v14.toInt ∧ v14.toInt ≤ 40) (i_v18 : 0 ≤ v18.toInt ∧ v18.toInt ≤ 10) (i_v19 : 0 ≤ v19.toInt ∧ v19.toInt ≤ 1) (ia_f28 : (pm_RU f28)) (ia_f29 : (pm_NW f29)) (ia_f32 : (pm_KP f32)) (pp0 : pm_Held v10 f20 f21 f22 f23 f24 f25) (sz : Nat) : Met l yX12_days q_X12_days ({ frames := 9, cells := 0, slots := 0, locals := 195 }) (va_Pc [.ref h0, .int v33] (fun U => U.heap.size = sz ∧ va_P (dC, dI) vwCl (wd_33cd10d9 h0 v0 r0 v1 v2 v3 v4 h1 h2 r1 h3 h4 h5 h6 v5 v6 h7 h8 r2 r3 v7 h9 r4 v8 v9 h10 h11 v10 v11 h12 v12 v13 h13 v14 w15 r5 v16 v17 r6 r7 r8 r9 r10 r11 v18 r12 r13 r14 v19 h1 g0 f20 h2 g1 f21 h3 g2 f22 h4 g3 f23 h5 g4 f24 h6 g5 f25 h7 g6 f26 h8 g7 f27 h9 g8 f28 h10 g9 f29 h11 g10 f30 h12 g11 f31 h13 g12 f32) U.heap ∧ va_K (dC, dI) vwCl [(g0, .int), (g1, .int), (g2, .int), (g3, .int), (g4, .int), (g5, .int), (g6, .int), (g7, .int), (g8, .int), (g9, .int), (g10, .int), (g11, .int), (g12, .int)] U ∧ va_D (fun _ => True) (wd_33cd10d9 h0 v0 r0 v1 v2 v3 v4 h1 h2 r1 h3 h4 h5 h6 v5 v6 h7 h8 r2 r3 v7 h9 r4 v8 v9 h10 h11 v10 v11 h12 v12 v13 h13 v14 w15 r5 v16 v17 r6 r7 r8 r9 r10 r11 v18 r12 r13 r14 v19 h1 g0 f20 h2 g1 f21 h3 g2 f22 h4 g3 f23 h5 g4 f24 h6 g5 f25 h7 g6 f26 h8 g7 f27 h9 g8 f28 h10 g9 f29 h11 g10 f30 h12 g11 f31 h13 g12 f32))) (va_Qi (fun (r : Int32) (r9 : Int32) => r9 = r) (fun (r : Int32) (t : State) => (∃ (o_h0_29 : Int32) (o_h0_30 : Int32) (o_h0_32 : Int32) (o_h7 : Nat → Int32) (o_h8 : Nat → Int32) (o_h10 : Nat → Int32) (o_h11 : Nat → Int32) (o_h12 : Nat → Int32) (o_h13 : Nat → Int32), 0 ≤ o_h0_32.toInt ∧ o_h0_32.toInt ≤ 40 ∧ (pm_NW o_h10) ∧ (pm_KP o_h13) ∧ va_P (dC, dI) vwCl (wd_33cd10d9 h0 v0 r0 v1 v2 v3 v4 h1 h2 r1 h3 h4 h5 h6 v5 v6 h7 h8 r2 r3 v7 h9 r4 v8 v9 h10 h11 v10 v11 h12 o_h0_29 o_h0_30 h13 o_h0_32 w15 r5 v16 v17 r6 r7 r8 r9 r10 r11 v18 r12 r13 r14 v19 h1 g0 f20 h2 g1 f21 h3 g2 f22 h4 g3 f23 h5 g4 f24 h6 g5 f25 h7 g6 o_h7 h8 g7 o_h8 h9 g8 f28 h10 g9 o_h10 h11 g10 o_h11 h12 g11 o_h12 h13 g12 o_h13) t.heap ∧ va_K (dC, dI) vwCl [] t ∧ va_D (va_A (wd_33cd10d9 h0 v0 r0 v1 v2 v3 v4 h1 h2 r1 h3 h4 h5 h6 v5 v6 h7 h8 r2 r3 v7 h9 r4 v8 v9 h10 h11 v10 v11 h12 v12 v13 h13 v14 w15 r5 v16 v17 r6 r7 r8 r9 r10 r11 v18 r12 r13 r14 v19 h1 g0 f20 h2 g1 f21 h3 g2 f22 h4 g3 f23 h5 g4 f24 h6 g5 f25 h7 g6 f26 h8 g7 f27 h9 g8 f28 h10 g9 f29 h11 g10 f30 h12 g11 f31 h13 g12 f32) sz) (wd_33cd10d9 h0 v0 r0 v1 v2 v3 v4 h1 h2 r1 h3 h4 h5 h6 v5 v6 h7 h8 r2 r3 v7 h9 r4 v8 v9 h10 h11 v10 v11 h12 o_h0_29 o_h0_30 h13 o_h0_32 w15 r5 v16 v17 r6 r7 r8 r9 r10 r11 v18 r12 r13 r14 v19 h1 g0 f20 h2 g1 f21 h3 g2 f22 h4 g3 f23 h5 g4 f24 h6 g5 f25 h7 g6 o_h7 h8 g7 o_h8 h9 g8 f28 h10 g9 o_h10 h11 g10 o_h11 h12 g11 o_h12 h13 g12 o_h13))) (va_A (wd_33cd10d9 h0 v0 r0 v1 v2 v3 v4 h1 h2 r1 h3 h4 h5 h6 v5 v6 h7 h8 r2 r3 v7 h9 r4 v8 v9 h10 h11 v10 v11 h12 v12 v13 h13 v14 w15 r5 v16 v17 r6 r7 r8 r9 r10 r11 v18 r12 r13 r14 v19 h1 g0 f20 h2 g1 f21 h3 g2 f22 h4 g3 f23 h5 g4 f24 h6 g5 f25 h7 g6 f26 h8 g7 f27 h9 g8 f28 h10 g9 f29 h11 g10 f30 h12 g11 f31 h13 g12 f32) sz)) 0 0 (va_A (wd_33cd10d9 h0 v0 r0 v1 v2 v3 v4 h1 h2 r1 h3 h4 h5 h6 v5 v6 h7 h8 r2 r3 v7 h9 r4 v8 v9 h10 h11 v10 v11 h12 v12 v13 h13 v14 w15 r5 v16 v17 r6 r7 r8 r9 r10 r11 v18 r12 r13 r14 v19 h1 g0 f20 h2 g1 f21 h3 g2 f22 h4 g3 f23 h5 g4 f24 h6 g5 f25 h7 g6 f26 h8 g7 f27 h9 g8 f28 h10 g9 f29 h11 g10 f30 h12 g11 f31 h13 g12 f32) sz) := by
  refine Met.ofW (cc := cX12_days) (maxL := 3) (ret := (some .int)) (by decide) rfl ?_
  intro p e s m args below meth c s₁ B hml hv
  obtain ⟨i_v1a, i_v1b⟩ := i_v1
  obtain ⟨i_v5a, i_v5b⟩ := i_v5
  obtain ⟨i_v6a, i_v6b⟩ := i_v6
  obtain ⟨i_v7a, i_v7b⟩ := i_v7
  obtain ⟨i_v8a, i_v8b⟩ := i_v8
  obtain ⟨i_v9a, i_v9b⟩ := i_v9
  obtain ⟨i_v10a, i_v10b⟩ := i_v10
  obtain ⟨i_v14a, i_v14b⟩ := i_v14
  obtain ⟨i_v18a, i_v18b⟩ := i_v18
  obtain ⟨i_v19a, i_v19b⟩ := i_v19
  obtain ⟨rfl, hsz, hP, hK, hD0⟩ := hv
  have hx := B.exec
  have hb := B.bytes
  have hr := B.returns
  have hts := atoms_spec (ws := q_X12_days) B.pre
  have hown : s.vm.findClass RX12 = some m.cls := findClass_of_methodNamed B.named
  have hlocks := B.notSynchronized
  subst hsz
  have hD := hD0.self (sz := s.heap.size)
  generalize hAe : va_A (wd_33cd10d9 h0 v0 r0 v1 v2 v3 v4 h1 h2 r1 h3 h4 h5 h6 v5 v6 h7 h8 r2 r3 v7 h9 r4 v8 v9 h10 h11 v10 v11 h12 v12 v13 h13 v14 w15 r5 v16 v17 r6 r7 r8 r9 r10 r11 v18 r12 r13 r14 v19 h1 g0 f20 h2 g1 f21 h3 g2 f22 h4 g3 f23 h5 g4 f24 h6 g5 f25 h7 g6 f26 h8 g7 f27 h9 g8 f28 h10 g9 f29 h11 g10 f30 h12 g11 f31 h13 g12 f32) s.heap.size = A at hD ⊢
  have hA : ∀ q : Nat, s.heap.size ≤ q → A q := fun q h => by rw [← hAe]; exact Or.inr h
  have hS : va_S A s.heap s.heap [] := va_S.rf
  generalize hQ : (MQ below _ _ s 0 0 A) = Q
  have hl := lv_entry ([.ref h0, .int v33]) (n := 3) (Nat.le_of_ble_eq_true rfl)
  rw [lg_entry_eq]
  generalize (lg_sl ([.ref h0, .int v33]) ++ List.replicate (3 - (lg_sl ([.ref h0, .int v33])).length) Slot.unset).toArray = ls at hl ⊢
  have hl : lv_has ls 3 [(0, .ref h0), (1, .int v33)] := hl
  obtain ⟨H, hH⟩ : ∃ H : Heap, H = s.heap := ⟨_, rfl⟩
  obtain ⟨locs, hlocs⟩ : ∃ y : List Loc, y = [] := ⟨_, rfl⟩
  have hS : va_S A s.heap H locs := by rw [hH, hlocs]; exact va_S.rf
  have hP : va_P (dC, dI) vwCl (wd_33cd10d9 h0 v0 r0 v1 v2 v3 v4 h1 h2 r1 h3 h4 h5 h6 v5 v6 h7 h8 r2 r3 v7 h9 r4 v8 v9 h10 h11 v10 v11 h12 v12 v13 h13 v14 w15 r5 v16 v17 r6 r7 r8 r9 r10 r11 v18 r12 r13 r14 v19 h1 g0 f20 h2 g1 f21 h3 g2 f22 h4 g3 f23 h5 g4 f24 h6 g5 f25 h7 g6 f26 h8 g7 f27 h9 g8 f28 h10 g9 f29 h11 g10 f30 h12 g11 f31 h13 g12 f32) H := by rw [hH]; exact hP
  rw [← hH, ← hlocs]
  refine lv_aload_n hx hb dX12_days_0 rfl (lv_at hl 0 rfl) ?_
  refine lv_aload_n hx hb dX12_days_1 rfl (lv_at hl 0 rfl) ?_
  refine va_get (D := (dC, dI)) (ci := 12) (v := .int v9) (C := RX12) (T := TX12) (N := 48) hx hb hts (fun _ h => List.mem_cons_of_mem _ (List.mem_append_right _ h)) hown hK hP 0 rfl rfl 23 (by decide) (hts (.fieldLink RX12 262 "LeftArgumentsModel" "isOffice" "Z") (List.mem_cons_of_mem _ (List.mem_append_left _ (List.mem_of_getElem? (i := 0) rfl)))) (fun _ h9 => h9) rfl dX12_days_2 ?_
  refine lv_if_ne (tgt := 12) hx hb dX12_days_5 (by decide) (fun c1 => ?_) (fun c1 => ?_)
  · skip
    have fc1 : ¬ (v9.toInt = 0) := fun h9 => c1 (Int32.toInt_inj.mp h9)
    refine lv_iload_n hx hb dX12_days_12 rfl (lv_at hl 1 rfl) ?_
    refine lv_iconst (v := 1) hx hb dX12_days_13 (by decide) ?_
    refine lv_bipush (v := 60) hx hb dX12_days_14 (by decide) ?_
    have hPc := hP.sub (ws' := []) [] rfl
    have hDc := hD.sub (ws' := []) [] (by decide) rfl
    have hKc := hK.sub (tys' := []) [] rfl
    have hFc := va_free (wc := []) hD hS hA [] rfl
    refine va_calli (va_runS (As := [.int v33, .int 1, .int 60]) (rest := [.ref h0]) ⟨hx, hb, hml, hown, hts⟩ (k_X12_in_6 l dC dI v33  H.size) (va_cwS 3 hts g_X12_days_0 rfl rfl rfl (by decide +kernel) ⟨Nat.le_of_ble_eq_true rfl, Nat.le_of_ble_eq_true rfl⟩) (pv_PS hPc hKc hDc) rfl rfl hl.1 rfl (lv_room (Nat.le_of_ble_eq_true rfl)) dX12_days_16 ⟨Nat.le_of_ble_eq_true rfl, Nat.le_of_ble_eq_true rfl⟩) hS (fun q _ h => hFc q h) hFc (fun ra2 u t H1 locs ht hvm hwra2 hB hz1 hk1 hS => ?_)
    try rw [hwra2] at hB
    obtain ⟨pt0_ra2, pt1_ra2, pt2_ra2, pt3_ra2, pt4_ra2, hP1, hK1, hD1⟩ := hB
    rw [ht] at hP1
    obtain ⟨hP2, hD2⟩ := va_join (wr := (wd_33cd10d9 h0 v0 r0 v1 v2 v3 v4 h1 h2 r1 h3 h4 h5 h6 v5 v6 h7 h8 r2 r3 v7 h9 r4 v8 v9 h10 h11 v10 v11 h12 v12 v13 h13 v14 w15 r5 v16 v17 r6 r7 r8 r9 r10 r11 v18 r12 r13 r14 v19 h1 g0 f20 h2 g1 f21 h3 g2 f22 h4 g3 f23 h5 g4 f24 h6 g5 f25 h7 g6 f26 h8 g7 f27 h9 g8 f28 h10 g9 f29 h11 g10 f30 h12 g11 f31 h13 g12 f32)) (w1 := []) hP hD [] [0, 1, 2, 3, 4, 5, 6, 7, 8, 9, 10, 11, 12, 13] rfl rfl (by decide +kernel) (by decide +kernel) hk1 hFc hP1 hD1
    clear hP hD hPc hDc hKc hFc hP1 hK1 hD1 hk1 hz1
    generalize H1 = H at hP2 hS ⊢
    have hP : va_P (dC, dI) vwCl (wd_33cd10d9 h0 v0 r0 v1 v2 v3 v4 h1 h2 r1 h3 h4 h5 h6 v5 v6 h7 h8 r2 r3 v7 h9 r4 v8 v9 h10 h11 v10 v11 h12 v12 v13 h13 v14 w15 r5 v16 v17 r6 r7 r8 r9 r10 r11 v18 r12 r13 r14 v19 h1 g0 f20 h2 g1 f21 h3 g2 f22 h4 g3 f23 h5 g4 f24 h6 g5 f25 h7 g6 f26 h8 g7 f27 h9 g8 f28 h10 g9 f29 h11 g10 f30 h12 g11 f31 h13 g12 f32) H := hP2
    have hD : va_D A (wd_33cd10d9 h0 v0 r0 v1 v2 v3 v4 h1 h2 r1 h3 h4 h5 h6 v5 v6 h7 h8 r2 r3 v7 h9 r4 v8 v9 h10 h11 v10 v11 h12 v12 v13 h13 v14 w15 r5 v16 v17 r6 r7 r8 r9 r10 r11 v18 r12 r13 r14 v19 h1 g0 f20 h2 g1 f21 h3 g2 f22 h4 g3 f23 h5 g4 f24 h6 g5 f25 h7 g6 f26 h8 g7 f27 h9 g8 f28 h10 g9 f29 h11 g10 f30 h12 g11 f31 h13 g12 f32) := hD2
    clear hP2 hD2
    refine lv_if_ne (tgt := 26) hx hb dX12_days_19 (by decide) (fun c3 => ?_) (fun c3 => ?_)
    · skip
      have fc3 : ¬ (ra2.toInt = 0) := fun h9 => c3 (Int32.toInt_inj.mp h9)
      refine lv_aload_n hx hb dX12_days_26 rfl (lv_at hl 0 rfl) ?_
      refine lv_iload_n hx hb dX12_days_27 rfl (lv_at hl 1 rfl) ?_
      have hPc := hP.sub (ws' := (wd_5013416a h0 v0 r0 v1 v2 v3 v4 h1 h2 r1 h3 h4 h5 h6 v5 v6 h7 h8 r2 r3 v7 h9 r4 v8 v9 h10 h11 v10 v11 h12 v12 v13 h13 v14 w15 r5 v16 v17 r6 r7 r8 r9 r10 r11 v18 r12 r13 r14 v19 h10 g9 f29)) [0, 10] rfl
      have hDc := hD.sub (ws' := (wd_5013416a h0 v0 r0 v1 v2 v3 v4 h1 h2 r1 h3 h4 h5 h6 v5 v6 h7 h8 r2 r3 v7 h9 r4 v8 v9 h10 h11 v10 v11 h12 v12 v13 h13 v14 w15 r5 v16 v17 r6 r7 r8 r9 r10 r11 v18 r12 r13 r14 v19 h10 g9 f29)) [0, 10] (by decide) rfl
      have hKc := hK.sub (tys' := [(g9, .int)]) [9] rfl
      have hFc := va_free (wc := (wd_5013416a h0 v0 r0 v1 v2 v3 v4 h1 h2 r1 h3 h4 h5 h6 v5 v6 h7 h8 r2 r3 v7 h9 r4 v8 v9 h10 h11 v10 v11 h12 v12 v13 h13 v14 w15 r5 v16 v17 r6 r7 r8 r9 r10 r11 v18 r12 r13 r14 v19 h10 g9 f29)) hD hS hA [0, 10] rfl
      refine va_calli (va_runV (As := [.int v33]) (rest := [.ref h0]) ⟨hx, hb, hml, hown, hts⟩ (k_X12_areDays l dC dI h0 h10 v0 r0 v1 v2 v3 v4 h1 h2 r1 h3 h4 h5 h6 v5 v6 h7 h8 r2 r3 v7 h9 r4 v8 v9 h11 v10 v11 h12 v12 v13 h13 v14 w15 r5 v16 v17 r6 r7 r8 r9 r10 r11 v18 r12 r13 r14 v19 g9 f29 v33 ⟨i_v1a, i_v1b⟩ ⟨i_v5a, i_v5b⟩ ⟨i_v6a, i_v6b⟩ ⟨i_v7a, i_v7b⟩ ⟨i_v8a, i_v8b⟩ ⟨i_v9a, i_v9b⟩ ⟨i_v10a, i_v10b⟩ ⟨i_v14a, i_v14b⟩ ⟨i_v18a, i_v18b⟩ ⟨i_v19a, i_v19b⟩ ia_f29 H.size) (cwV 1 hts g_X12_days_1 rfl rfl rfl (by decide +kernel) ⟨Nat.le_of_ble_eq_true rfl, Nat.le_of_ble_eq_true rfl⟩) (pv_PV12 hPc hKc hDc (q0 := 0) rfl) rfl rfl hl.1 rfl (lv_room (Nat.le_of_ble_eq_true rfl)) dX12_days_28 ⟨Nat.le_of_ble_eq_true rfl, Nat.le_of_ble_eq_true rfl⟩) hS (fun q _ h => hFc q h) hFc (fun ra4 u t H1 locs ht hvm hwra4 hB hz1 hk1 hS => ?_)
      try rw [hwra4] at hB
      obtain ⟨pt0_ra4, pt1_ra4, hP1, hK1, hD1⟩ := hB
      rw [ht] at hP1
      obtain ⟨hP2, hD2⟩ := va_join (wr := (wd_cb47b79a h1 g0 f20 h2 g1 f21 h3 g2 f22 h4 g3 f23 h5 g4 f24 h6 g5 f25 h7 g6 f26 h8 g7 f27 h9 g8 f28 h11 g10 f30 h12 g11 f31 h13 g12 f32)) (w1 := (wd_5013416a h0 v0 r0 v1 v2 v3 v4 h1 h2 r1 h3 h4 h5 h6 v5 v6 h7 h8 r2 r3 v7 h9 r4 v8 v9 h10 h11 v10 v11 h12 v12 v13 h13 v14 w15 r5 v16 v17 r6 r7 r8 r9 r10 r11 v18 r12 r13 r14 v19 h10 g9 f29)) hP hD [0, 10] [1, 2, 3, 4, 5, 6, 7, 8, 9, 11, 12, 13] rfl rfl (by decide +kernel) (by decide +kernel) hk1 hFc hP1 hD1
      clear hP hD hPc hDc hKc hFc hP1 hK1 hD1 hk1 hz1
      generalize H1 = H at hP2 hS ⊢
      have hP := hP2.sub (ws' := (wd_33cd10d9 h0 v0 r0 v1 v2 v3 v4 h1 h2 r1 h3 h4 h5 h6 v5 v6 h7 h8 r2 r3 v7 h9 r4 v8 v9 h10 h11 v10 v11 h12 v12 v13 h13 v14 w15 r5 v16 v17 r6 r7 r8 r9 r10 r11 v18 r12 r13 r14 v19 h1 g0 f20 h2 g1 f21 h3 g2 f22 h4 g3 f23 h5 g4 f24 h6 g5 f25 h7 g6 f26 h8 g7 f27 h9 g8 f28 h10 g9 f29 h11 g10 f30 h12 g11 f31 h13 g12 f32)) [12, 0, 1, 2, 3, 4, 5, 6, 7, 8, 13, 9, 10, 11] rfl
      have hD := hD2.sub (ws' := (wd_33cd10d9 h0 v0 r0 v1 v2 v3 v4 h1 h2 r1 h3 h4 h5 h6 v5 v6 h7 h8 r2 r3 v7 h9 r4 v8 v9 h10 h11 v10 v11 h12 v12 v13 h13 v14 w15 r5 v16 v17 r6 r7 r8 r9 r10 r11 v18 r12 r13 r14 v19 h1 g0 f20 h2 g1 f21 h3 g2 f22 h4 g3 f23 h5 g4 f24 h6 g5 f25 h7 g6 f26 h8 g7 f27 h9 g8 f28 h10 g9 f29 h11 g10 f30 h12 g11 f31 h13 g12 f32)) [12, 0, 1, 2, 3, 4, 5, 6, 7, 8, 13, 9, 10, 11] (by decide +kernel) rfl
      clear hP2 hD2
      refine lv_if_ne (tgt := 38) hx hb dX12_days_31 (by decide) (fun c5 => ?_) (fun c5 => ?_)
      · skip
        have fc5 : ¬ (ra4.toInt = 0) := fun h9 => c5 (Int32.toInt_inj.mp h9)
        refine lv_iconst (v := (-1)) hx hb dX12_days_38 (by decide) ?_
        have hPc := hP.sub (ws' := (wd_171f232f h0 v0 r0 v1 v2 v3 v4 h1 h2 r1 h3 h4 h5 h6 v5 v6 h7 h8 r2 r3 v7 h9 r4 v8 v9 h10 h11 v10 v11 h12 v12 v13 h13 v14 w15 r5 v16 v17 r6 r7 r8 r9 r10 r11 v18 r12 r13 r14 v19)) [0] rfl
        have hDc := hD.sub (ws' := (wd_171f232f h0 v0 r0 v1 v2 v3 v4 h1 h2 r1 h3 h4 h5 h6 v5 v6 h7 h8 r2 r3 v7 h9 r4 v8 v9 h10 h11 v10 v11 h12 v12 v13 h13 v14 w15 r5 v16 v17 r6 r7 r8 r9 r10 r11 v18 r12 r13 r14 v19)) [0] (by decide) rfl
        have hKc := hK.sub (tys' := []) [] rfl
        have hFc := va_free (wc := (wd_171f232f h0 v0 r0 v1 v2 v3 v4 h1 h2 r1 h3 h4 h5 h6 v5 v6 h7 h8 r2 r3 v7 h9 r4 v8 v9 h10 h11 v10 v11 h12 v12 v13 h13 v14 w15 r5 v16 v17 r6 r7 r8 r9 r10 r11 v18 r12 r13 r14 v19)) hD hS hA [0] rfl
        refine va_calli (va_runV (As := [.int (-1)]) (rest := []) ⟨hx, hb, hml, hown, hts⟩ (k_X12_isRefused l dC dI h0 v0 r0 v1 v2 v3 v4 h1 h2 r1 h3 h4 h5 h6 v5 v6 h7 h8 r2 r3 v7 h9 r4 v8 v9 h10 h11 v10 v11 h12 v12 v13 h13 v14 w15 r5 v16 v17 r6 r7 r8 r9 r10 r11 v18 r12 r13 r14 v19 ⟨i_v1a, i_v1b⟩ ⟨i_v5a, i_v5b⟩ ⟨i_v6a, i_v6b⟩ ⟨i_v7a, i_v7b⟩ ⟨i_v8a, i_v8b⟩ ⟨i_v9a, i_v9b⟩ ⟨i_v10a, i_v10b⟩ ⟨i_v14a, i_v14b⟩ ⟨i_v18a, i_v18b⟩ ⟨i_v19a, i_v19b⟩ H.size) (cwV 1 hts g_X12_days_2 rfl rfl rfl (by decide +kernel) ⟨Nat.le_of_ble_eq_true rfl, Nat.le_of_ble_eq_true rfl⟩) (pv_PV12 hPc hKc hDc (q0 := 0) rfl) rfl rfl hl.1 rfl (lv_room (Nat.le_of_ble_eq_true rfl)) dX12_days_39 ⟨Nat.le_of_ble_eq_true rfl, Nat.le_of_ble_eq_true rfl⟩) hS (fun q _ h => hFc q h) hFc (fun ra6 u t H1 locs ht hvm hwra6 hB hz1 hk1 hS => ?_)
        try rw [hwra6] at hB
        obtain ⟨pt0_ra6, pt1_ra6, hP1, hK1, hD1⟩ := hB
        rw [ht] at hP1
        obtain ⟨hP2, hD2⟩ := va_join (wr := (wd_afd61da2 h1 g0 f20 h2 g1 f21 h3 g2 f22 h4 g3 f23 h5 g4 f24 h6 g5 f25 h7 g6 f26 h8 g7 f27 h9 g8 f28 h10 g9 f29 h11 g10 f30 h12 g11 f31 h13 g12 f32)) (w1 := (wd_171f232f h0 v0 r0 v1 v2 v3 v4 h1 h2 r1 h3 h4 h5 h6 v5 v6 h7 h8 r2 r3 v7 h9 r4 v8 v9 h10 h11 v10 v11 h12 v12 v13 h13 v14 w15 r5 v16 v17 r6 r7 r8 r9 r10 r11 v18 r12 r13 r14 v19)) hP hD [0] [1, 2, 3, 4, 5, 6, 7, 8, 9, 10, 11, 12, 13] rfl rfl (by decide +kernel) (by decide +kernel) hk1 hFc hP1 hD1
        clear hP hD hPc hDc hKc hFc hP1 hK1 hD1 hk1 hz1
        generalize H1 = H at hP2 hS ⊢
        have hP := hP2.sub (ws' := (wd_33cd10d9 h0 v0 r0 v1 v2 v3 v4 h1 h2 r1 h3 h4 h5 h6 v5 v6 h7 h8 r2 r3 v7 h9 r4 v8 v9 h10 h11 v10 v11 h12 v12 v13 h13 v14 w15 r5 v16 v17 r6 r7 r8 r9 r10 r11 v18 r12 r13 r14 v19 h1 g0 f20 h2 g1 f21 h3 g2 f22 h4 g3 f23 h5 g4 f24 h6 g5 f25 h7 g6 f26 h8 g7 f27 h9 g8 f28 h10 g9 f29 h11 g10 f30 h12 g11 f31 h13 g12 f32)) [13, 0, 1, 2, 3, 4, 5, 6, 7, 8, 9, 10, 11, 12] rfl
        have hD := hD2.sub (ws' := (wd_33cd10d9 h0 v0 r0 v1 v2 v3 v4 h1 h2 r1 h3 h4 h5 h6 v5 v6 h7 h8 r2 r3 v7 h9 r4 v8 v9 h10 h11 v10 v11 h12 v12 v13 h13 v14 w15 r5 v16 v17 r6 r7 r8 r9 r10 r11 v18 r12 r13 r14 v19 h1 g0 f20 h2 g1 f21 h3 g2 f22 h4 g3 f23 h5 g4 f24 h6 g5 f25 h7 g6 f26 h8 g7 f27 h9 g8 f28 h10 g9 f29 h11 g10 f30 h12 g11 f31 h13 g12 f32)) [13, 0, 1, 2, 3, 4, 5, 6, 7, 8, 9, 10, 11, 12] (by decide +kernel) rfl
        clear hP2 hD2
        obtain rfl : ra6 = (0 : Int32) := pv_cs (by decide) pt0_ra6 pt1_ra6
        refine lv_if_eq (tgt := 47) hx hb dX12_days_42 (by decide) (fun _ => ?_) (fun c => absurd (by decide) c)
        refine lv_iconst (v := 0) hx hb dX12_days_47 (by decide) ?_
        refine lv_istore_n (lv' := [(2, .int 0), (0, .ref h0), (1, .int v33)]) hx hb dX12_days_48 rfl hl (by decide) rfl (fun ls hl => ?_)
        have hL106 : ∀ (n9 : Nat), ∀ (x88 : Int32) (x89 : Int32) (x90 : Int32) (x91 : Int32) (fn92 : Nat → Int32) (fn93 : Nat → Int32) (fn94 : Nat → Int32) (fn95 : Nat → Int32) (fn96 : Nat → Int32) (H : Heap) (locs : List Loc) (ls : Array Slot), 0 ≤ x88.toInt → x88.toInt ≤ 60 → 0 ≤ x91.toInt → x91.toInt ≤ 40 → (pm_NW fn94) → (pm_KP fn96) → (60 - x88.toInt).toNat < n9 → va_P (dC, dI) vwCl (wd_33cd10d9 h0 v0 r0 v1 v2 v3 v4 h1 h2 r1 h3 h4 h5 h6 v5 v6 h7 h8 r2 r3 v7 h9 r4 v8 v9 h10 h11 v10 v11 h12 x89 x90 h13 x91 w15 r5 v16 v17 r6 r7 r8 r9 r10 r11 v18 r12 r13 r14 v19 h1 g0 f20 h2 g1 f21 h3 g2 f22 h4 g3 f23 h5 g4 f24 h6 g5 f25 h7 g6 fn92 h8 g7 fn93 h9 g8 f28 h10 g9 fn94 h11 g10 f30 h12 g11 fn95 h13 g12 fn96) H → va_D A (wd_33cd10d9 h0 v0 r0 v1 v2 v3 v4 h1 h2 r1 h3 h4 h5 h6 v5 v6 h7 h8 r2 r3 v7 h9 r4 v8 v9 h10 h11 v10 v11 h12 x89 x90 h13 x91 w15 r5 v16 v17 r6 r7 r8 r9 r10 r11 v18 r12 r13 r14 v19 h1 g0 f20 h2 g1 f21 h3 g2 f22 h4 g3 f23 h5 g4 f24 h6 g5 f25 h7 g6 fn92 h8 g7 fn93 h9 g8 f28 h10 g9 fn94 h11 g10 f30 h12 g11 fn95 h13 g12 fn96) → va_S A s.heap H locs → lv_has ls 3 [(2, .int x88), (0, .ref h0), (1, .int v33)] → W p l e ({ frames := 9, cells := 0, slots := 0, locals := 195 }) s m ([.ref h0, .int v33] : List Value).toArray below meth c H locs 0 0 Q (F0 m 49 ls []) := by
          intro n9
          induction n9 with
          | zero => intro x88 x89 x90 x91 fn92 fn93 fn94 fn95 fn96 H locs ls qa_x88 qb_x88 qa_x91 qb_x91 ia_fn94 ia_fn96 hm9 hP hD hS hl; exact absurd hm9 (Nat.not_lt_zero _)
          | succ n9 ih_hL106 =>
            intro x88 x89 x90 x91 fn92 fn93 fn94 fn95 fn96 H locs ls qa_x88 qb_x88 qa_x91 qb_x91 ia_fn94 ia_fn96 hm9 hP hD hS hl
            refine lv_iload_n hx hb dX12_days_49 rfl (lv_at hl 0 rfl) ?_
            refine lv_iload_n hx hb dX12_days_50 rfl (lv_at hl 2 rfl) ?_
            refine lv_icmp_ge (tgt := 68) hx hb dX12_days_51 (by decide) (fun c107 => ?_) (fun c107 => ?_)
            · skip
              have fc107 : v33.toInt ≤ x88.toInt := Int32.le_iff_toInt_le.mp c107
              have r1c107 := Int32.toInt_lt x88
              have r2c107 := Int32.toInt_lt v33
              have r3c107 := Int32.le_toInt x88
              have r4c107 := Int32.le_toInt v33
              refine lv_aload_n hx hb dX12_days_68 rfl (lv_at hl 1 rfl) ?_
              refine va_get (D := (dC, dI)) (ci := 12) (v := .ref h10) (C := RX12) (T := TX12) (N := 48) hx hb hts (fun _ h => List.mem_cons_of_mem _ (List.mem_append_right _ h)) hown hK hP 0 rfl rfl 24 (by decide) (hts (.fieldLink RX12 52 "LeftArgumentsModel" "now" "[I") (List.mem_cons_of_mem _ (List.mem_append_left _ (List.mem_of_getElem? (i := 6) rfl)))) (fun _ h9 => h9) rfl dX12_days_69 ?_
              refine lv_bipush (v := 65) hx hb dX12_days_72 (by decide) ?_
              refine va_iald hx hb hK hP 10 9 rfl rfl (pv_c (x := 65) (n := 247) (by decide)) dX12_days_74 ?_
              refine lv_topi (fun t108 et108 => ?_)
              have mmt108 : fn94 (Int32.toNatClampNeg 65) = t108 := et108.symm
              subst hQ
              have hP9 := hP.sub (ws' := (wd_33cd10d9 h0 v0 r0 v1 v2 v3 v4 h1 h2 r1 h3 h4 h5 h6 v5 v6 h7 h8 r2 r3 v7 h9 r4 v8 v9 h10 h11 v10 v11 h12 x89 x90 h13 x91 w15 r5 v16 v17 r6 r7 r8 r9 r10 r11 v18 r12 r13 r14 v19 h1 g0 f20 h2 g1 f21 h3 g2 f22 h4 g3 f23 h5 g4 f24 h6 g5 f25 h7 g6 fn92 h8 g7 fn93 h9 g8 f28 h10 g9 fn94 h11 g10 f30 h12 g11 fn95 h13 g12 fn96)) [0, 1, 2, 3, 4, 5, 6, 7, 8, 9, 10, 11, 12, 13] rfl
              have hD9 := hD.sub (ws' := (wd_33cd10d9 h0 v0 r0 v1 v2 v3 v4 h1 h2 r1 h3 h4 h5 h6 v5 v6 h7 h8 r2 r3 v7 h9 r4 v8 v9 h10 h11 v10 v11 h12 x89 x90 h13 x91 w15 r5 v16 v17 r6 r7 r8 r9 r10 r11 v18 r12 r13 r14 v19 h1 g0 f20 h2 g1 f21 h3 g2 f22 h4 g3 f23 h5 g4 f24 h6 g5 f25 h7 g6 fn92 h8 g7 fn93 h9 g8 f28 h10 g9 fn94 h11 g10 f30 h12 g11 fn95 h13 g12 fn96)) [0, 1, 2, 3, 4, 5, 6, 7, 8, 9, 10, 11, 12, 13] (by decide +kernel) rfl
              have hK9 := hK.sub (tys' := []) [] rfl
              exact W.iret (v := t108) hx hb hr (fun t ht hW => ⟨⟨t108, t108, rfl, rfl, ⟨x89, x90, x91, fn92, fn93, fn94, f30, fn95, fn96, qa_x91, qb_x91, ia_fn94, ia_fn96, by rw [ht]; exact hP9, va_K.moved hW.alike hK9, hD9⟩⟩, hS.F ht⟩) hS.2.2 dX12_days_75
            · skip
              have fc107 : ¬ (v33.toInt ≤ x88.toInt) := fun h9 => c107 (Int32.le_iff_toInt_le.mpr h9)
              have r1c107 := Int32.toInt_lt x88
              have r2c107 := Int32.toInt_lt v33
              have r3c107 := Int32.le_toInt x88
              have r4c107 := Int32.le_toInt v33
              refine lv_aload_n hx hb dX12_days_54 rfl (lv_at hl 1 rfl) ?_
              have hPc := hP.sub (ws' := (wd_baa7feb8 h0 v0 r0 v1 v2 v3 v4 h1 h2 r1 h3 h4 h5 h6 v5 v6 h7 h8 r2 r3 v7 h9 r4 v8 v9 h10 h11 v10 v11 h12 x89 x90 h13 x91 w15 r5 v16 v17 r6 r7 r8 r9 r10 r11 v18 r12 r13 r14 v19 h10 g9 fn94 h13 g12 fn96)) [0, 10, 13] rfl
              have hDc := hD.sub (ws' := (wd_baa7feb8 h0 v0 r0 v1 v2 v3 v4 h1 h2 r1 h3 h4 h5 h6 v5 v6 h7 h8 r2 r3 v7 h9 r4 v8 v9 h10 h11 v10 v11 h12 x89 x90 h13 x91 w15 r5 v16 v17 r6 r7 r8 r9 r10 r11 v18 r12 r13 r14 v19 h10 g9 fn94 h13 g12 fn96)) [0, 10, 13] (by decide) rfl
              have hKc := hK.sub (tys' := [(g9, .int), (g12, .int)]) [9, 12] rfl
              have hFc := va_free (wc := (wd_baa7feb8 h0 v0 r0 v1 v2 v3 v4 h1 h2 r1 h3 h4 h5 h6 v5 v6 h7 h8 r2 r3 v7 h9 r4 v8 v9 h10 h11 v10 v11 h12 x89 x90 h13 x91 w15 r5 v16 v17 r6 r7 r8 r9 r10 r11 v18 r12 r13 r14 v19 h10 g9 fn94 h13 g12 fn96)) hD hS hA [0, 10, 13] rfl
              refine va_callv (va_runV (As := []) (rest := []) ⟨hx, hb, hml, hown, hts⟩ (k_X12_keep l dC dI h0 h10 h13 v0 r0 v1 v2 v3 v4 h1 h2 r1 h3 h4 h5 h6 v5 v6 h7 h8 r2 r3 v7 h9 r4 v8 v9 h11 v10 v11 h12 x89 x90 x91 w15 r5 v16 v17 r6 r7 r8 r9 r10 r11 v18 r12 r13 r14 v19 g9 fn94 g12 fn96 ⟨i_v1a, i_v1b⟩ ⟨i_v5a, i_v5b⟩ ⟨i_v6a, i_v6b⟩ ⟨i_v7a, i_v7b⟩ ⟨i_v8a, i_v8b⟩ ⟨i_v9a, i_v9b⟩ ⟨i_v10a, i_v10b⟩ ⟨qa_x91, qb_x91⟩ ⟨i_v18a, i_v18b⟩ ⟨i_v19a, i_v19b⟩ ia_fn94 ia_fn96 H.size) (cwV 0 hts g_X12_days_3 rfl rfl rfl (by decide +kernel) ⟨Nat.le_of_ble_eq_true rfl, Nat.le_of_ble_eq_true rfl⟩) (pv_PV12 hPc hKc hDc (q0 := 0) rfl) rfl rfl hl.1 rfl (lv_room (Nat.le_of_ble_eq_true rfl)) dX12_days_55 ⟨Nat.le_of_ble_eq_true rfl, Nat.le_of_ble_eq_true rfl⟩) hS (fun q _ h => hFc q h) hFc (fun u t H1 locs ht hvm hwra109 hB hz1 hk1 hS => ?_)
              obtain ⟨x110, fn111, oa_x110, ob_x110, ia_fn111, hP1, hK1, hD1⟩ := hB
              rw [ht] at hP1
              obtain ⟨hP2, hD2⟩ := va_join (wr := (wd_f5781dfa h1 g0 f20 h2 g1 f21 h3 g2 f22 h4 g3 f23 h5 g4 f24 h6 g5 f25 h7 g6 fn92 h8 g7 fn93 h9 g8 f28 h11 g10 f30 h12 g11 fn95)) (w1 := (wd_baa7feb8 h0 v0 r0 v1 v2 v3 v4 h1 h2 r1 h3 h4 h5 h6 v5 v6 h7 h8 r2 r3 v7 h9 r4 v8 v9 h10 h11 v10 v11 h12 x89 x90 h13 x110 w15 r5 v16 v17 r6 r7 r8 r9 r10 r11 v18 r12 r13 r14 v19 h10 g9 fn94 h13 g12 fn111)) hP hD [0, 10, 13] [1, 2, 3, 4, 5, 6, 7, 8, 9, 11, 12] rfl rfl (by decide +kernel) (by decide +kernel) hk1 hFc hP1 hD1
              clear hP hD hPc hDc hKc hFc hP1 hK1 hD1 hk1 hz1
              generalize H1 = H at hP2 hS ⊢
              have hP := hP2.sub (ws' := (wd_33cd10d9 h0 v0 r0 v1 v2 v3 v4 h1 h2 r1 h3 h4 h5 h6 v5 v6 h7 h8 r2 r3 v7 h9 r4 v8 v9 h10 h11 v10 v11 h12 x89 x90 h13 x110 w15 r5 v16 v17 r6 r7 r8 r9 r10 r11 v18 r12 r13 r14 v19 h1 g0 f20 h2 g1 f21 h3 g2 f22 h4 g3 f23 h5 g4 f24 h6 g5 f25 h7 g6 fn92 h8 g7 fn93 h9 g8 f28 h10 g9 fn94 h11 g10 f30 h12 g11 fn95 h13 g12 fn111)) [11, 0, 1, 2, 3, 4, 5, 6, 7, 8, 12, 9, 10, 13] rfl
              have hD := hD2.sub (ws' := (wd_33cd10d9 h0 v0 r0 v1 v2 v3 v4 h1 h2 r1 h3 h4 h5 h6 v5 v6 h7 h8 r2 r3 v7 h9 r4 v8 v9 h10 h11 v10 v11 h12 x89 x90 h13 x110 w15 r5 v16 v17 r6 r7 r8 r9 r10 r11 v18 r12 r13 r14 v19 h1 g0 f20 h2 g1 f21 h3 g2 f22 h4 g3 f23 h5 g4 f24 h6 g5 f25 h7 g6 fn92 h8 g7 fn93 h9 g8 f28 h10 g9 fn94 h11 g10 f30 h12 g11 fn95 h13 g12 fn111)) [11, 0, 1, 2, 3, 4, 5, 6, 7, 8, 12, 9, 10, 13] (by decide +kernel) rfl
              clear hP2 hD2
              refine lv_aload_n hx hb dX12_days_58 rfl (lv_at hl 1 rfl) ?_
              have hPc := hP.sub (ws' := (wd_935d8763 h0 v0 r0 v1 v2 v3 v4 h1 h2 r1 h3 h4 h5 h6 v5 v6 h7 h8 r2 r3 v7 h9 r4 v8 v9 h10 h11 v10 v11 h12 x89 x90 h13 x110 w15 r5 v16 v17 r6 r7 r8 r9 r10 r11 v18 r12 r13 r14 v19 h1 g0 f20 h2 g1 f21 h3 g2 f22 h4 g3 f23 h5 g4 f24 h6 g5 f25 h7 g6 fn92 h8 g7 fn93 h9 g8 f28 h10 g9 fn94 h12 g11 fn95)) [0, 1, 2, 3, 4, 5, 6, 7, 8, 9, 10, 12] rfl
              have hDc := hD.sub (ws' := (wd_935d8763 h0 v0 r0 v1 v2 v3 v4 h1 h2 r1 h3 h4 h5 h6 v5 v6 h7 h8 r2 r3 v7 h9 r4 v8 v9 h10 h11 v10 v11 h12 x89 x90 h13 x110 w15 r5 v16 v17 r6 r7 r8 r9 r10 r11 v18 r12 r13 r14 v19 h1 g0 f20 h2 g1 f21 h3 g2 f22 h4 g3 f23 h5 g4 f24 h6 g5 f25 h7 g6 fn92 h8 g7 fn93 h9 g8 f28 h10 g9 fn94 h12 g11 fn95)) [0, 1, 2, 3, 4, 5, 6, 7, 8, 9, 10, 12] (by decide +kernel) rfl
              have hKc := hK.sub (tys' := [(g0, .int), (g1, .int), (g2, .int), (g3, .int), (g4, .int), (g5, .int), (g6, .int), (g7, .int), (g8, .int), (g9, .int), (g11, .int)]) [0, 1, 2, 3, 4, 5, 6, 7, 8, 9, 11] rfl
              have hFc := va_free (wc := (wd_935d8763 h0 v0 r0 v1 v2 v3 v4 h1 h2 r1 h3 h4 h5 h6 v5 v6 h7 h8 r2 r3 v7 h9 r4 v8 v9 h10 h11 v10 v11 h12 x89 x90 h13 x110 w15 r5 v16 v17 r6 r7 r8 r9 r10 r11 v18 r12 r13 r14 v19 h1 g0 f20 h2 g1 f21 h3 g2 f22 h4 g3 f23 h5 g4 f24 h6 g5 f25 h7 g6 fn92 h8 g7 fn93 h9 g8 f28 h10 g9 fn94 h12 g11 fn95)) hD hS hA [0, 1, 2, 3, 4, 5, 6, 7, 8, 9, 10, 12] rfl
              refine va_callv (va_runV (As := []) (rest := []) ⟨hx, hb, hml, hown, hts⟩ (k_X12_passDay l dC dI h0 h1 h2 h3 h4 h5 h6 h7 h8 h9 h10 h12 v0 r0 v1 v2 v3 v4 r1 v5 v6 r2 r3 v7 r4 v8 v9 h11 v10 v11 x89 x90 h13 x110 w15 r5 v16 v17 r6 r7 r8 r9 r10 r11 v18 r12 r13 r14 v19 g0 f20 g1 f21 g2 f22 g3 f23 g4 f24 g5 f25 g6 fn92 g7 fn93 g8 f28 g9 fn94 g11 fn95 ⟨i_v1a, i_v1b⟩ ⟨i_v5a, i_v5b⟩ ⟨i_v6a, i_v6b⟩ ⟨i_v7a, i_v7b⟩ ⟨i_v8a, i_v8b⟩ ⟨i_v9a, i_v9b⟩ ⟨i_v10a, i_v10b⟩ ⟨by first | omega | decide, ob_x110⟩ ⟨i_v18a, i_v18b⟩ ⟨i_v19a, i_v19b⟩ ia_f28 ia_fn94 pp0 H.size) (cwV 0 hts g_X12_days_4 rfl rfl rfl (by decide +kernel) ⟨Nat.le_of_ble_eq_true rfl, Nat.le_of_ble_eq_true rfl⟩) (pv_PV12 hPc hKc hDc (q0 := 0) rfl) rfl rfl hl.1 rfl (lv_room (Nat.le_of_ble_eq_true rfl)) dX12_days_59 ⟨Nat.le_of_ble_eq_true rfl, Nat.le_of_ble_eq_true rfl⟩) hS (fun q _ h => hFc q h) hFc (fun u t H1 locs ht hvm hwra112 hB hz1 hk1 hS => ?_)
              obtain ⟨x113, x114, fn115, fn116, fn117, fn118, ia_fn117, hP1, hK1, hD1⟩ := hB
              rw [ht] at hP1
              obtain ⟨hP2, hD2⟩ := va_join (wr := (wd_969f66a9 h11 g10 f30 h13 g12 fn111)) (w1 := (wd_935d8763 h0 v0 r0 v1 v2 v3 v4 h1 h2 r1 h3 h4 h5 h6 v5 v6 h7 h8 r2 r3 v7 h9 r4 v8 v9 h10 h11 v10 v11 h12 x113 x114 h13 x110 w15 r5 v16 v17 r6 r7 r8 r9 r10 r11 v18 r12 r13 r14 v19 h1 g0 f20 h2 g1 f21 h3 g2 f22 h4 g3 f23 h5 g4 f24 h6 g5 f25 h7 g6 fn115 h8 g7 fn116 h9 g8 f28 h10 g9 fn117 h12 g11 fn118)) hP hD [0, 1, 2, 3, 4, 5, 6, 7, 8, 9, 10, 12] [11, 13] rfl rfl (by decide +kernel) (by decide +kernel) hk1 hFc hP1 hD1
              clear hP hD hPc hDc hKc hFc hP1 hK1 hD1 hk1 hz1
              generalize H1 = H at hP2 hS ⊢
              have hP := hP2.sub (ws' := (wd_33cd10d9 h0 v0 r0 v1 v2 v3 v4 h1 h2 r1 h3 h4 h5 h6 v5 v6 h7 h8 r2 r3 v7 h9 r4 v8 v9 h10 h11 v10 v11 h12 x113 x114 h13 x110 w15 r5 v16 v17 r6 r7 r8 r9 r10 r11 v18 r12 r13 r14 v19 h1 g0 f20 h2 g1 f21 h3 g2 f22 h4 g3 f23 h5 g4 f24 h6 g5 f25 h7 g6 fn115 h8 g7 fn116 h9 g8 f28 h10 g9 fn117 h11 g10 f30 h12 g11 fn118 h13 g12 fn111)) [2, 3, 4, 5, 6, 7, 8, 9, 10, 11, 12, 0, 13, 1] rfl
              have hD := hD2.sub (ws' := (wd_33cd10d9 h0 v0 r0 v1 v2 v3 v4 h1 h2 r1 h3 h4 h5 h6 v5 v6 h7 h8 r2 r3 v7 h9 r4 v8 v9 h10 h11 v10 v11 h12 x113 x114 h13 x110 w15 r5 v16 v17 r6 r7 r8 r9 r10 r11 v18 r12 r13 r14 v19 h1 g0 f20 h2 g1 f21 h3 g2 f22 h4 g3 f23 h5 g4 f24 h6 g5 f25 h7 g6 fn115 h8 g7 fn116 h9 g8 f28 h10 g9 fn117 h11 g10 f30 h12 g11 fn118 h13 g12 fn111)) [2, 3, 4, 5, 6, 7, 8, 9, 10, 11, 12, 0, 13, 1] (by decide +kernel) rfl
              clear hP2 hD2
              obtain ⟨t119, et119⟩ : ∃ y : Int32, y = x88 + 1 := ⟨_, rfl⟩
              have gt119 : t119.toInt = x88.toInt + (1) := pv_add (a := x88.toInt) (b := (1)) et119 rfl (by decide) (by omega) (by omega)
              refine lv_iinc (v := t119) (lv' := [(2, .int t119), (0, .ref h0), (1, .int v33)]) hx hb dX12_days_62 hl (k := 0) rfl (by rw [et119]; rfl) (by decide) rfl (fun ls hl => ?_)
              refine lv_goto (tgt := 49) hx hb dX12_days_65 (by decide) ?_
              exact ih_hL106 t119 x113 x114 x110 fn115 fn116 fn117 fn118 fn111 H locs ls (by first | omega | decide) (by first | omega | decide) (by first | omega | decide) ob_x110 ia_fn117 ia_fn111 (by first | omega | (simp only [Int.toNat] at *; omega)) hP hD hS (lv_sub hl [0, 1, 2] rfl)
        exact hL106 _ 0 v12 v13 v14 f26 f27 f29 f31 f32 H locs ls (by decide) (by decide) i_v14a i_v14b ia_f29 ia_f32 (Nat.lt_succ_self _) hP hD hS (lv_sub hl [0, 1, 2] rfl)
      · skip
        have fc5 : ra4.toInt = 0 := congrArg Int32.toInt c5
        refine lv_iconst (v := 4) hx hb dX12_days_34 (by decide) ?_
        refine lv_goto (tgt := 39) hx hb dX12_days_35 (by decide) ?_
        have hPc := hP.sub (ws' := (wd_5b5f7811 h0 v0 r0 v1 v2 v3 v4 h1 h2 r1 h3 h4 h5 h6 v5 v6 h7 h8 r2 r3 v7 h9 r4 v8 v9 h10 h11 v10 v11 h12 v12 v13 h13 v14 w15 r5 v16 v17 r6 r7 r8 r9 r10 r11 v18 r12 r13 r14 v19 h11 g10 f30)) [0, 11] rfl
        have hDc := hD.sub (ws' := (wd_5b5f7811 h0 v0 r0 v1 v2 v3 v4 h1 h2 r1 h3 h4 h5 h6 v5 v6 h7 h8 r2 r3 v7 h9 r4 v8 v9 h10 h11 v10 v11 h12 v12 v13 h13 v14 w15 r5 v16 v17 r6 r7 r8 r9 r10 r11 v18 r12 r13 r14 v19 h11 g10 f30)) [0, 11] (by decide) rfl
        have hKc := hK.sub (tys' := [(g10, .int)]) [10] rfl
        have hFc := va_free (wc := (wd_5b5f7811 h0 v0 r0 v1 v2 v3 v4 h1 h2 r1 h3 h4 h5 h6 v5 v6 h7 h8 r2 r3 v7 h9 r4 v8 v9 h10 h11 v10 v11 h12 v12 v13 h13 v14 w15 r5 v16 v17 r6 r7 r8 r9 r10 r11 v18 r12 r13 r14 v19 h11 g10 f30)) hD hS hA [0, 11] rfl
        refine va_calli (va_runV (As := [.int 4]) (rest := []) ⟨hx, hb, hml, hown, hts⟩ (k_X12_isRefused_5 l dC dI h0 h11 v0 r0 v1 v2 v3 v4 h1 h2 r1 h3 h4 h5 h6 v5 v6 h7 h8 r2 r3 v7 h9 r4 v8 v9 h10 v10 v11 h12 v12 v13 h13 v14 w15 r5 v16 v17 r6 r7 r8 r9 r10 r11 v18 r12 r13 r14 v19 g10 f30 ⟨i_v1a, i_v1b⟩ ⟨i_v5a, i_v5b⟩ ⟨i_v6a, i_v6b⟩ ⟨i_v7a, i_v7b⟩ ⟨i_v8a, i_v8b⟩ ⟨i_v9a, i_v9b⟩ ⟨i_v10a, i_v10b⟩ ⟨i_v14a, i_v14b⟩ ⟨i_v18a, i_v18b⟩ ⟨i_v19a, i_v19b⟩ H.size) (cwV 1 hts g_X12_days_5 rfl rfl rfl (by decide +kernel) ⟨Nat.le_of_ble_eq_true rfl, Nat.le_of_ble_eq_true rfl⟩) (pv_PV12 hPc hKc hDc (q0 := 0) rfl) rfl rfl hl.1 rfl (lv_room (Nat.le_of_ble_eq_true rfl)) dX12_days_39 ⟨Nat.le_of_ble_eq_true rfl, Nat.le_of_ble_eq_true rfl⟩) hS (fun q _ h => hFc q h) hFc (fun ra120 u t H1 locs ht hvm hwra120 hB hz1 hk1 hS => ?_)
        try rw [hwra120] at hB
        obtain ⟨fn121, pt0_ra120, pt1_ra120, hP1, hK1, hD1⟩ := hB
        rw [ht] at hP1
        obtain ⟨hP2, hD2⟩ := va_join (wr := (wd_114cde00 h1 g0 f20 h2 g1 f21 h3 g2 f22 h4 g3 f23 h5 g4 f24 h6 g5 f25 h7 g6 f26 h8 g7 f27 h9 g8 f28 h10 g9 f29 h12 g11 f31 h13 g12 f32)) (w1 := (wd_5b5f7811 h0 v0 r0 v1 v2 v3 v4 h1 h2 r1 h3 h4 h5 h6 v5 v6 h7 h8 r2 r3 v7 h9 r4 v8 v9 h10 h11 v10 v11 h12 v12 v13 h13 v14 w15 r5 v16 v17 r6 r7 r8 r9 r10 r11 v18 r12 r13 r14 v19 h11 g10 fn121)) hP hD [0, 11] [1, 2, 3, 4, 5, 6, 7, 8, 9, 10, 12, 13] rfl rfl (by decide +kernel) (by decide +kernel) hk1 hFc hP1 hD1
        clear hP hD hPc hDc hKc hFc hP1 hK1 hD1 hk1 hz1
        generalize H1 = H at hP2 hS ⊢
        have hP := hP2.sub (ws' := (wd_33cd10d9 h0 v0 r0 v1 v2 v3 v4 h1 h2 r1 h3 h4 h5 h6 v5 v6 h7 h8 r2 r3 v7 h9 r4 v8 v9 h10 h11 v10 v11 h12 v12 v13 h13 v14 w15 r5 v16 v17 r6 r7 r8 r9 r10 r11 v18 r12 r13 r14 v19 h1 g0 f20 h2 g1 f21 h3 g2 f22 h4 g3 f23 h5 g4 f24 h6 g5 f25 h7 g6 f26 h8 g7 f27 h9 g8 f28 h10 g9 f29 h11 g10 fn121 h12 g11 f31 h13 g12 f32)) [12, 0, 1, 2, 3, 4, 5, 6, 7, 8, 9, 13, 10, 11] rfl
        have hD := hD2.sub (ws' := (wd_33cd10d9 h0 v0 r0 v1 v2 v3 v4 h1 h2 r1 h3 h4 h5 h6 v5 v6 h7 h8 r2 r3 v7 h9 r4 v8 v9 h10 h11 v10 v11 h12 v12 v13 h13 v14 w15 r5 v16 v17 r6 r7 r8 r9 r10 r11 v18 r12 r13 r14 v19 h1 g0 f20 h2 g1 f21 h3 g2 f22 h4 g3 f23 h5 g4 f24 h6 g5 f25 h7 g6 f26 h8 g7 f27 h9 g8 f28 h10 g9 f29 h11 g10 fn121 h12 g11 f31 h13 g12 f32)) [12, 0, 1, 2, 3, 4, 5, 6, 7, 8, 9, 13, 10, 11] (by decide +kernel) rfl
        clear hP2 hD2
        obtain rfl : ra120 = (1 : Int32) := pv_cs (by decide) pt0_ra120 pt1_ra120
        refine lv_if_eq (tgt := 47) hx hb dX12_days_42 (by decide) (fun c => absurd c (by decide)) (fun _ => ?_)
        refine lv_iconst (v := (-1)) hx hb dX12_days_45 (by decide) ?_
        subst hQ
        have hP9 := hP.sub (ws' := (wd_33cd10d9 h0 v0 r0 v1 v2 v3 v4 h1 h2 r1 h3 h4 h5 h6 v5 v6 h7 h8 r2 r3 v7 h9 r4 v8 v9 h10 h11 v10 v11 h12 v12 v13 h13 v14 w15 r5 v16 v17 r6 r7 r8 r9 r10 r11 v18 r12 r13 r14 v19 h1 g0 f20 h2 g1 f21 h3 g2 f22 h4 g3 f23 h5 g4 f24 h6 g5 f25 h7 g6 f26 h8 g7 f27 h9 g8 f28 h10 g9 f29 h11 g10 fn121 h12 g11 f31 h13 g12 f32)) [0, 1, 2, 3, 4, 5, 6, 7, 8, 9, 10, 11, 12, 13] rfl
        have hD9 := hD.sub (ws' := (wd_33cd10d9 h0 v0 r0 v1 v2 v3 v4 h1 h2 r1 h3 h4 h5 h6 v5 v6 h7 h8 r2 r3 v7 h9 r4 v8 v9 h10 h11 v10 v11 h12 v12 v13 h13 v14 w15 r5 v16 v17 r6 r7 r8 r9 r10 r11 v18 r12 r13 r14 v19 h1 g0 f20 h2 g1 f21 h3 g2 f22 h4 g3 f23 h5 g4 f24 h6 g5 f25 h7 g6 f26 h8 g7 f27 h9 g8 f28 h10 g9 f29 h11 g10 fn121 h12 g11 f31 h13 g12 f32)) [0, 1, 2, 3, 4, 5, 6, 7, 8, 9, 10, 11, 12, 13] (by decide +kernel) rfl
        have hK9 := hK.sub (tys' := []) [] rfl
        exact W.iret (v := (-1)) hx hb hr (fun t ht hW => ⟨⟨(-1), (-1), rfl, rfl, ⟨v12, v13, v14, f26, f27, f29, fn121, f31, f32, i_v14a, i_v14b, ia_f29, ia_f32, by rw [ht]; exact hP9, va_K.moved hW.alike hK9, hD9⟩⟩, hS.F ht⟩) hS.2.2 dX12_days_46
    · skip
      have fc3 : ra2.toInt = 0 := congrArg Int32.toInt c3
      refine lv_iconst (v := 1) hx hb dX12_days_22 (by decide) ?_
      refine lv_goto (tgt := 39) hx hb dX12_days_23 (by decide) ?_
      have hPc := hP.sub (ws' := (wd_5b5f7811 h0 v0 r0 v1 v2 v3 v4 h1 h2 r1 h3 h4 h5 h6 v5 v6 h7 h8 r2 r3 v7 h9 r4 v8 v9 h10 h11 v10 v11 h12 v12 v13 h13 v14 w15 r5 v16 v17 r6 r7 r8 r9 r10 r11 v18 r12 r13 r14 v19 h11 g10 f30)) [0, 11] rfl
      have hDc := hD.sub (ws' := (wd_5b5f7811 h0 v0 r0 v1 v2 v3 v4 h1 h2 r1 h3 h4 h5 h6 v5 v6 h7 h8 r2 r3 v7 h9 r4 v8 v9 h10 h11 v10 v11 h12 v12 v13 h13 v14 w15 r5 v16 v17 r6 r7 r8 r9 r10 r11 v18 r12 r13 r14 v19 h11 g10 f30)) [0, 11] (by decide) rfl
      have hKc := hK.sub (tys' := [(g10, .int)]) [10] rfl
      have hFc := va_free (wc := (wd_5b5f7811 h0 v0 r0 v1 v2 v3 v4 h1 h2 r1 h3 h4 h5 h6 v5 v6 h7 h8 r2 r3 v7 h9 r4 v8 v9 h10 h11 v10 v11 h12 v12 v13 h13 v14 w15 r5 v16 v17 r6 r7 r8 r9 r10 r11 v18 r12 r13 r14 v19 h11 g10 f30)) hD hS hA [0, 11] rfl
      refine va_calli (va_runV (As := [.int 1]) (rest := []) ⟨hx, hb, hml, hown, hts⟩ (k_X12_isRefused_4 l dC dI h0 h11 v0 r0 v1 v2 v3 v4 h1 h2 r1 h3 h4 h5 h6 v5 v6 h7 h8 r2 r3 v7 h9 r4 v8 v9 h10 v10 v11 h12 v12 v13 h13 v14 w15 r5 v16 v17 r6 r7 r8 r9 r10 r11 v18 r12 r13 r14 v19 g10 f30 ⟨i_v1a, i_v1b⟩ ⟨i_v5a, i_v5b⟩ ⟨i_v6a, i_v6b⟩ ⟨i_v7a, i_v7b⟩ ⟨i_v8a, i_v8b⟩ ⟨i_v9a, i_v9b⟩ ⟨i_v10a, i_v10b⟩ ⟨i_v14a, i_v14b⟩ ⟨i_v18a, i_v18b⟩ ⟨i_v19a, i_v19b⟩ H.size) (cwV 1 hts g_X12_days_6 rfl rfl rfl (by decide +kernel) ⟨Nat.le_of_ble_eq_true rfl, Nat.le_of_ble_eq_true rfl⟩) (pv_PV12 hPc hKc hDc (q0 := 0) rfl) rfl rfl hl.1 rfl (lv_room (Nat.le_of_ble_eq_true rfl)) dX12_days_39 ⟨Nat.le_of_ble_eq_true rfl, Nat.le_of_ble_eq_true rfl⟩) hS (fun q _ h => hFc q h) hFc (fun ra122 u t H1 locs ht hvm hwra122 hB hz1 hk1 hS => ?_)
      try rw [hwra122] at hB
      obtain ⟨fn123, pt0_ra122, pt1_ra122, hP1, hK1, hD1⟩ := hB
      rw [ht] at hP1
      obtain ⟨hP2, hD2⟩ := va_join (wr := (wd_114cde00 h1 g0 f20 h2 g1 f21 h3 g2 f22 h4 g3 f23 h5 g4 f24 h6 g5 f25 h7 g6 f26 h8 g7 f27 h9 g8 f28 h10 g9 f29 h12 g11 f31 h13 g12 f32)) (w1 := (wd_5b5f7811 h0 v0 r0 v1 v2 v3 v4 h1 h2 r1 h3 h4 h5 h6 v5 v6 h7 h8 r2 r3 v7 h9 r4 v8 v9 h10 h11 v10 v11 h12 v12 v13 h13 v14 w15 r5 v16 v17 r6 r7 r8 r9 r10 r11 v18 r12 r13 r14 v19 h11 g10 fn123)) hP hD [0, 11] [1, 2, 3, 4, 5, 6, 7, 8, 9, 10, 12, 13] rfl rfl (by decide +kernel) (by decide +kernel) hk1 hFc hP1 hD1
      clear hP hD hPc hDc hKc hFc hP1 hK1 hD1 hk1 hz1
      generalize H1 = H at hP2 hS ⊢
      have hP := hP2.sub (ws' := (wd_33cd10d9 h0 v0 r0 v1 v2 v3 v4 h1 h2 r1 h3 h4 h5 h6 v5 v6 h7 h8 r2 r3 v7 h9 r4 v8 v9 h10 h11 v10 v11 h12 v12 v13 h13 v14 w15 r5 v16 v17 r6 r7 r8 r9 r10 r11 v18 r12 r13 r14 v19 h1 g0 f20 h2 g1 f21 h3 g2 f22 h4 g3 f23 h5 g4 f24 h6 g5 f25 h7 g6 f26 h8 g7 f27 h9 g8 f28 h10 g9 f29 h11 g10 fn123 h12 g11 f31 h13 g12 f32)) [12, 0, 1, 2, 3, 4, 5, 6, 7, 8, 9, 13, 10, 11] rfl
      have hD := hD2.sub (ws' := (wd_33cd10d9 h0 v0 r0 v1 v2 v3 v4 h1 h2 r1 h3 h4 h5 h6 v5 v6 h7 h8 r2 r3 v7 h9 r4 v8 v9 h10 h11 v10 v11 h12 v12 v13 h13 v14 w15 r5 v16 v17 r6 r7 r8 r9 r10 r11 v18 r12 r13 r14 v19 h1 g0 f20 h2 g1 f21 h3 g2 f22 h4 g3 f23 h5 g4 f24 h6 g5 f25 h7 g6 f26 h8 g7 f27 h9 g8 f28 h10 g9 f29 h11 g10 fn123 h12 g11 f31 h13 g12 f32)) [12, 0, 1, 2, 3, 4, 5, 6, 7, 8, 9, 13, 10, 11] (by decide +kernel) rfl
      clear hP2 hD2
      obtain rfl : ra122 = (1 : Int32) := pv_cs (by decide) pt0_ra122 pt1_ra122
      refine lv_if_eq (tgt := 47) hx hb dX12_days_42 (by decide) (fun c => absurd c (by decide)) (fun _ => ?_)
      refine lv_iconst (v := (-1)) hx hb dX12_days_45 (by decide) ?_
      subst hQ
      have hP9 := hP.sub (ws' := (wd_33cd10d9 h0 v0 r0 v1 v2 v3 v4 h1 h2 r1 h3 h4 h5 h6 v5 v6 h7 h8 r2 r3 v7 h9 r4 v8 v9 h10 h11 v10 v11 h12 v12 v13 h13 v14 w15 r5 v16 v17 r6 r7 r8 r9 r10 r11 v18 r12 r13 r14 v19 h1 g0 f20 h2 g1 f21 h3 g2 f22 h4 g3 f23 h5 g4 f24 h6 g5 f25 h7 g6 f26 h8 g7 f27 h9 g8 f28 h10 g9 f29 h11 g10 fn123 h12 g11 f31 h13 g12 f32)) [0, 1, 2, 3, 4, 5, 6, 7, 8, 9, 10, 11, 12, 13] rfl
      have hD9 := hD.sub (ws' := (wd_33cd10d9 h0 v0 r0 v1 v2 v3 v4 h1 h2 r1 h3 h4 h5 h6 v5 v6 h7 h8 r2 r3 v7 h9 r4 v8 v9 h10 h11 v10 v11 h12 v12 v13 h13 v14 w15 r5 v16 v17 r6 r7 r8 r9 r10 r11 v18 r12 r13 r14 v19 h1 g0 f20 h2 g1 f21 h3 g2 f22 h4 g3 f23 h5 g4 f24 h6 g5 f25 h7 g6 f26 h8 g7 f27 h9 g8 f28 h10 g9 f29 h11 g10 fn123 h12 g11 f31 h13 g12 f32)) [0, 1, 2, 3, 4, 5, 6, 7, 8, 9, 10, 11, 12, 13] (by decide +kernel) rfl
      have hK9 := hK.sub (tys' := []) [] rfl
      exact W.iret (v := (-1)) hx hb hr (fun t ht hW => ⟨⟨(-1), (-1), rfl, rfl, ⟨v12, v13, v14, f26, f27, f29, fn123, f31, f32, i_v14a, i_v14b, ia_f29, ia_f32, by rw [ht]; exact hP9, va_K.moved hW.alike hK9, hD9⟩⟩, hS.F ht⟩) hS.2.2 dX12_days_46
  · skip
    have fc1 : v9.toInt = 0 := congrArg Int32.toInt c1
    refine lv_iconst (v := 0) hx hb dX12_days_8 (by decide) ?_
    refine lv_goto (tgt := 39) hx hb dX12_days_9 (by decide) ?_
    have hPc := hP.sub (ws' := (wd_5b5f7811 h0 v0 r0 v1 v2 v3 v4 h1 h2 r1 h3 h4 h5 h6 v5 v6 h7 h8 r2 r3 v7 h9 r4 v8 v9 h10 h11 v10 v11 h12 v12 v13 h13 v14 w15 r5 v16 v17 r6 r7 r8 r9 r10 r11 v18 r12 r13 r14 v19 h11 g10 f30)) [0, 11] rfl
    have hDc := hD.sub (ws' := (wd_5b5f7811 h0 v0 r0 v1 v2 v3 v4 h1 h2 r1 h3 h4 h5 h6 v5 v6 h7 h8 r2 r3 v7 h9 r4 v8 v9 h10 h11 v10 v11 h12 v12 v13 h13 v14 w15 r5 v16 v17 r6 r7 r8 r9 r10 r11 v18 r12 r13 r14 v19 h11 g10 f30)) [0, 11] (by decide) rfl
    have hKc := hK.sub (tys' := [(g10, .int)]) [10] rfl
    have hFc := va_free (wc := (wd_5b5f7811 h0 v0 r0 v1 v2 v3 v4 h1 h2 r1 h3 h4 h5 h6 v5 v6 h7 h8 r2 r3 v7 h9 r4 v8 v9 h10 h11 v10 v11 h12 v12 v13 h13 v14 w15 r5 v16 v17 r6 r7 r8 r9 r10 r11 v18 r12 r13 r14 v19 h11 g10 f30)) hD hS hA [0, 11] rfl
    refine va_calli (va_runV (As := [.int 0]) (rest := []) ⟨hx, hb, hml, hown, hts⟩ (k_X12_isRefused_1 l dC dI h0 h11 v0 r0 v1 v2 v3 v4 h1 h2 r1 h3 h4 h5 h6 v5 v6 h7 h8 r2 r3 v7 h9 r4 v8 v9 h10 v10 v11 h12 v12 v13 h13 v14 w15 r5 v16 v17 r6 r7 r8 r9 r10 r11 v18 r12 r13 r14 v19 g10 f30 ⟨i_v1a, i_v1b⟩ ⟨i_v5a, i_v5b⟩ ⟨i_v6a, i_v6b⟩ ⟨i_v7a, i_v7b⟩ ⟨i_v8a, i_v8b⟩ ⟨i_v9a, i_v9b⟩ ⟨i_v10a, i_v10b⟩ ⟨i_v14a, i_v14b⟩ ⟨i_v18a, i_v18b⟩ ⟨i_v19a, i_v19b⟩ H.size) (cwV 1 hts g_X12_days_7 rfl rfl rfl (by decide +kernel) ⟨Nat.le_of_ble_eq_true rfl, Nat.le_of_ble_eq_true rfl⟩) (pv_PV12 hPc hKc hDc (q0 := 0) rfl) rfl rfl hl.1 rfl (lv_room (Nat.le_of_ble_eq_true rfl)) dX12_days_39 ⟨Nat.le_of_ble_eq_true rfl, Nat.le_of_ble_eq_true rfl⟩) hS (fun q _ h => hFc q h) hFc (fun ra124 u t H1 locs ht hvm hwra124 hB hz1 hk1 hS => ?_)
    try rw [hwra124] at hB
    obtain ⟨fn125, pt0_ra124, pt1_ra124, hP1, hK1, hD1⟩ := hB
    rw [ht] at hP1
    obtain ⟨hP2, hD2⟩ := va_join (wr := (wd_114cde00 h1 g0 f20 h2 g1 f21 h3 g2 f22 h4 g3 f23 h5 g4 f24 h6 g5 f25 h7 g6 f26 h8 g7 f27 h9 g8 f28 h10 g9 f29 h12 g11 f31 h13 g12 f32)) (w1 := (wd_5b5f7811 h0 v0 r0 v1 v2 v3 v4 h1 h2 r1 h3 h4 h5 h6 v5 v6 h7 h8 r2 r3 v7 h9 r4 v8 v9 h10 h11 v10 v11 h12 v12 v13 h13 v14 w15 r5 v16 v17 r6 r7 r8 r9 r10 r11 v18 r12 r13 r14 v19 h11 g10 fn125)) hP hD [0, 11] [1, 2, 3, 4, 5, 6, 7, 8, 9, 10, 12, 13] rfl rfl (by decide +kernel) (by decide +kernel) hk1 hFc hP1 hD1
    clear hP hD hPc hDc hKc hFc hP1 hK1 hD1 hk1 hz1
    generalize H1 = H at hP2 hS ⊢
    have hP := hP2.sub (ws' := (wd_33cd10d9 h0 v0 r0 v1 v2 v3 v4 h1 h2 r1 h3 h4 h5 h6 v5 v6 h7 h8 r2 r3 v7 h9 r4 v8 v9 h10 h11 v10 v11 h12 v12 v13 h13 v14 w15 r5 v16 v17 r6 r7 r8 r9 r10 r11 v18 r12 r13 r14 v19 h1 g0 f20 h2 g1 f21 h3 g2 f22 h4 g3 f23 h5 g4 f24 h6 g5 f25 h7 g6 f26 h8 g7 f27 h9 g8 f28 h10 g9 f29 h11 g10 fn125 h12 g11 f31 h13 g12 f32)) [12, 0, 1, 2, 3, 4, 5, 6, 7, 8, 9, 13, 10, 11] rfl
    have hD := hD2.sub (ws' := (wd_33cd10d9 h0 v0 r0 v1 v2 v3 v4 h1 h2 r1 h3 h4 h5 h6 v5 v6 h7 h8 r2 r3 v7 h9 r4 v8 v9 h10 h11 v10 v11 h12 v12 v13 h13 v14 w15 r5 v16 v17 r6 r7 r8 r9 r10 r11 v18 r12 r13 r14 v19 h1 g0 f20 h2 g1 f21 h3 g2 f22 h4 g3 f23 h5 g4 f24 h6 g5 f25 h7 g6 f26 h8 g7 f27 h9 g8 f28 h10 g9 f29 h11 g10 fn125 h12 g11 f31 h13 g12 f32)) [12, 0, 1, 2, 3, 4, 5, 6, 7, 8, 9, 13, 10, 11] (by decide +kernel) rfl
    clear hP2 hD2
    obtain rfl : ra124 = (1 : Int32) := pv_cs (by decide) pt0_ra124 pt1_ra124
    refine lv_if_eq (tgt := 47) hx hb dX12_days_42 (by decide) (fun c => absurd c (by decide)) (fun _ => ?_)
    refine lv_iconst (v := (-1)) hx hb dX12_days_45 (by decide) ?_
    subst hQ
    have hP9 := hP.sub (ws' := (wd_33cd10d9 h0 v0 r0 v1 v2 v3 v4 h1 h2 r1 h3 h4 h5 h6 v5 v6 h7 h8 r2 r3 v7 h9 r4 v8 v9 h10 h11 v10 v11 h12 v12 v13 h13 v14 w15 r5 v16 v17 r6 r7 r8 r9 r10 r11 v18 r12 r13 r14 v19 h1 g0 f20 h2 g1 f21 h3 g2 f22 h4 g3 f23 h5 g4 f24 h6 g5 f25 h7 g6 f26 h8 g7 f27 h9 g8 f28 h10 g9 f29 h11 g10 fn125 h12 g11 f31 h13 g12 f32)) [0, 1, 2, 3, 4, 5, 6, 7, 8, 9, 10, 11, 12, 13] rfl
    have hD9 := hD.sub (ws' := (wd_33cd10d9 h0 v0 r0 v1 v2 v3 v4 h1 h2 r1 h3 h4 h5 h6 v5 v6 h7 h8 r2 r3 v7 h9 r4 v8 v9 h10 h11 v10 v11 h12 v12 v13 h13 v14 w15 r5 v16 v17 r6 r7 r8 r9 r10 r11 v18 r12 r13 r14 v19 h1 g0 f20 h2 g1 f21 h3 g2 f22 h4 g3 f23 h5 g4 f24 h6 g5 f25 h7 g6 f26 h8 g7 f27 h9 g8 f28 h10 g9 f29 h11 g10 fn125 h12 g11 f31 h13 g12 f32)) [0, 1, 2, 3, 4, 5, 6, 7, 8, 9, 10, 11, 12, 13] (by decide +kernel) rfl
    have hK9 := hK.sub (tys' := []) [] rfl
    exact W.iret (v := (-1)) hx hb hr (fun t ht hW => ⟨⟨(-1), (-1), rfl, rfl, ⟨v12, v13, v14, f26, f27, f29, fn125, f31, f32, i_v14a, i_v14b, ia_f29, ia_f32, by rw [ht]; exact hP9, va_K.moved hW.alike hK9, hD9⟩⟩, hS.F ht⟩) hS.2.2 dX12_days_46
def q_X12_draw : List Cond := .code yX12_draw cX12_draw 2 (some .int) :: (([.fieldLink RX12 361 "LeftArgumentsModel" "draws" "J", .constantLong RX12 365 (6364136223846793005), .constantLong RX12 367 (1442695040888963407)] : List Cond) ++ wsX120)
set_option maxHeartbeats 4000000 in
set_option maxRecDepth 100000 in
theorem k_X12_draw (l : Launch) (dC : Nat → ClassId) (dI : Nat → Nat → Nat) (h0 : Nat) (v0 : Int32) (r0 : Nat) (v1 : Int32) (v2 : Int32) (v3 : Int32) (v4 : Int32) (r1 : Nat) (r2 : Nat) (r3 : Nat) (r4 : Nat) (r5 : Nat) (r6 : Nat) (r7 : Nat) (v5 : Int32) (v6 : Int32) (r8 : Nat) (r9 : Nat) (r10 : Nat) (r11 : Nat) (v7 : Int32) (r12 : Nat) (r13 : Nat) (v8 : Int32) (v9 : Int32) (r14 : Nat) (r15 : Nat) (v10 : Int32) (v11 : Int32) (r16 : Nat) (v12 : Int32) (v13 : Int32) (r17 : Nat) (v14 : Int32) (w15 : Int64) (r18 : Nat) (v16 : Int32) (v17 : Int32) (r19 : Nat) (r20 : Nat) (r21 : Nat) (r22 : Nat) (r23 : Nat) (r24 : Nat) (v18 : Int32) (r25 : Nat) (r26 : Nat) (r27 : Nat) (v19 : Int32) (i_v1 : 0 ≤ v1.toInt ∧ v1.toInt ≤ 240) (i_v5 : 0 ≤ v5.toInt ∧ v5.toInt ≤ 4) (i_v6 : 0 ≤ v6.toInt ∧ v6.toInt ≤ 4) (i_v7 : 0 ≤ v7.toInt ∧ v7.toInt ≤ 8) (i_v8 : 0 ≤ v8.toInt ∧ v8.toInt ≤ 8) (i_v9 : 0 ≤ v9.toInt ∧ v9.toInt ≤ 1) (i_v10 : -1 ≤ v10.toInt ∧ v10.toInt ≤ 3) (i_v14 : 0 ≤ v14.toInt ∧ v14.toInt ≤ 40) (i_v18 : 0 ≤ v18.toInt ∧ v18.toInt ≤ 10) (i_v19 : 0 ≤ v19.toInt ∧ v19.toInt ≤ 1) (sz : Nat) : Met l yX12_draw q_X12_draw ({ frames := 0, cells := 0, slots := 0, locals := 0 }) (va_Pc [.ref h0, .int 10] (fun U => U.heap.size = sz ∧ va_P (dC, dI) vwCl (wd_171f232f h0 v0 r0 v1 v2 v3 v4 r1 r2 r3 r4 r5 r6 r7 v5 v6 r8 r9 r10 r11 v7 r12 r13 v8 v9 r14 r15 v10 v11 r16 v12 v13 r17 v14 w15 r18 v16 v17 r19 r20 r21 r22 r23 r24 v18 r25 r26 r27 v19) U.heap ∧ va_K (dC, dI) vwCl [] U ∧ va_D (fun _ => True) (wd_171f232f h0 v0 r0 v1 v2 v3 v4 r1 r2 r3 r4 r5 r6 r7 v5 v6 r8 r9 r10 r11 v7 r12 r13 v8 v9 r14 r15 v10 v11 r16 v12 v13 r17 v14 w15 r18 v16 v17 r19 r20 r21 r22 r23 r24 v18 r25 r26 r27 v19))) (va_Qi (fun (r : Int32) (r9 : Int32) => r9 = r) (fun (r : Int32) (t : State) => (∃ (o_h0_33 : Int64), (0 ≤ r.toInt) ∧ (r.toInt ≤ 9) ∧ va_P (dC, dI) vwCl (wd_171f232f h0 v0 r0 v1 v2 v3 v4 r1 r2 r3 r4 r5 r6 r7 v5 v6 r8 r9 r10 r11 v7 r12 r13 v8 v9 r14 r15 v10 v11 r16 v12 v13 r17 v14 o_h0_33 r18 v16 v17 r19 r20 r21 r22 r23 r24 v18 r25 r26 r27 v19) t.heap ∧ va_K (dC, dI) vwCl [] t ∧ va_D (va_A (wd_171f232f h0 v0 r0 v1 v2 v3 v4 r1 r2 r3 r4 r5 r6 r7 v5 v6 r8 r9 r10 r11 v7 r12 r13 v8 v9 r14 r15 v10 v11 r16 v12 v13 r17 v14 w15 r18 v16 v17 r19 r20 r21 r22 r23 r24 v18 r25 r26 r27 v19) sz) (wd_171f232f h0 v0 r0 v1 v2 v3 v4 r1 r2 r3 r4 r5 r6 r7 v5 v6 r8 r9 r10 r11 v7 r12 r13 v8 v9 r14 r15 v10 v11 r16 v12 v13 r17 v14 o_h0_33 r18 v16 v17 r19 r20 r21 r22 r23 r24 v18 r25 r26 r27 v19))) (va_A (wd_171f232f h0 v0 r0 v1 v2 v3 v4 r1 r2 r3 r4 r5 r6 r7 v5 v6 r8 r9 r10 r11 v7 r12 r13 v8 v9 r14 r15 v10 v11 r16 v12 v13 r17 v14 w15 r18 v16 v17 r19 r20 r21 r22 r23 r24 v18 r25 r26 r27 v19) sz)) 0 0 (va_A (wd_171f232f h0 v0 r0 v1 v2 v3 v4 r1 r2 r3 r4 r5 r6 r7 v5 v6 r8 r9 r10 r11 v7 r12 r13 v8 v9 r14 r15 v10 v11 r16 v12 v13 r17 v14 w15 r18 v16 v17 r19 r20 r21 r22 r23 r24 v18 r25 r26 r27 v19) sz) := by
  refine Met.ofW (cc := cX12_draw) (maxL := 2) (ret := (some .int)) (by decide) rfl ?_
  intro p e s m args below meth c s₁ B hml hv
  obtain ⟨i_v1a, i_v1b⟩ := i_v1
  obtain ⟨i_v5a, i_v5b⟩ := i_v5
  obtain ⟨i_v6a, i_v6b⟩ := i_v6
  obtain ⟨i_v7a, i_v7b⟩ := i_v7
  obtain ⟨i_v8a, i_v8b⟩ := i_v8
  obtain ⟨i_v9a, i_v9b⟩ := i_v9
  obtain ⟨i_v10a, i_v10b⟩ := i_v10
  obtain ⟨i_v14a, i_v14b⟩ := i_v14
  obtain ⟨i_v18a, i_v18b⟩ := i_v18
  obtain ⟨i_v19a, i_v19b⟩ := i_v19
  obtain ⟨rfl, hsz, hP, hK, hD0⟩ := hv
  have hx := B.exec
  have hb := B.bytes
  have hr := B.returns
  have hts := atoms_spec (ws := q_X12_draw) B.pre
  have hown : s.vm.findClass RX12 = some m.cls := findClass_of_methodNamed B.named
  have hlocks := B.notSynchronized
  subst hsz
  have hD := hD0.self (sz := s.heap.size)
  generalize hAe : va_A (wd_171f232f h0 v0 r0 v1 v2 v3 v4 r1 r2 r3 r4 r5 r6 r7 v5 v6 r8 r9 r10 r11 v7 r12 r13 v8 v9 r14 r15 v10 v11 r16 v12 v13 r17 v14 w15 r18 v16 v17 r19 r20 r21 r22 r23 r24 v18 r25 r26 r27 v19) s.heap.size = A at hD ⊢
  have hA : ∀ q : Nat, s.heap.size ≤ q → A q := fun q h => by rw [← hAe]; exact Or.inr h
  have hS : va_S A s.heap s.heap [] := va_S.rf
  generalize hQ : (MQ below _ _ s 0 0 A) = Q
  have hl := lv_entry ([.ref h0, .int 10]) (n := 2) (Nat.le_of_ble_eq_true rfl)
  rw [lg_entry_eq]
  generalize (lg_sl ([.ref h0, .int 10]) ++ List.replicate (2 - (lg_sl ([.ref h0, .int 10])).length) Slot.unset).toArray = ls at hl ⊢
  have hl : lv_has ls 2 [(0, .ref h0), (1, .int 10)] := hl
  obtain ⟨H, hH⟩ : ∃ H : Heap, H = s.heap := ⟨_, rfl⟩
  obtain ⟨locs, hlocs⟩ : ∃ y : List Loc, y = [] := ⟨_, rfl⟩
  have hS : va_S A s.heap H locs := by rw [hH, hlocs]; exact va_S.rf
  have hP : va_P (dC, dI) vwCl (wd_171f232f h0 v0 r0 v1 v2 v3 v4 r1 r2 r3 r4 r5 r6 r7 v5 v6 r8 r9 r10 r11 v7 r12 r13 v8 v9 r14 r15 v10 v11 r16 v12 v13 r17 v14 w15 r18 v16 v17 r19 r20 r21 r22 r23 r24 v18 r25 r26 r27 v19) H := by rw [hH]; exact hP
  rw [← hH, ← hlocs]
  refine lv_aload_n hx hb dX12_draw_0 rfl (lv_at hl 0 rfl) ?_
  refine lv_aload_n hx hb dX12_draw_1 rfl (lv_at hl 0 rfl) ?_
  refine va_get (D := (dC, dI)) (ci := 12) (v := .long w15) (C := RX12) (T := TX12) (N := 48) hx hb hts (fun _ h => List.mem_cons_of_mem _ (List.mem_append_right _ h)) hown hK hP 0 rfl rfl 33 (by decide) (hts (.fieldLink RX12 361 "LeftArgumentsModel" "draws" "J") (List.mem_cons_of_mem _ (List.mem_append_left _ (List.mem_of_getElem? (i := 0) rfl)))) (fun _ h9 => h9) rfl dX12_draw_2 ?_
  refine lv_ldc2 (v := 6364136223846793005) hx hb hown (hts (.constantLong RX12 365 (6364136223846793005)) (List.mem_cons_of_mem _ (List.mem_append_left _ (List.mem_of_getElem? (i := 1) rfl)))) dX12_draw_5 ?_
  refine lv_lmul hx hb dX12_draw_8 ?_
  refine lv_topl (fun y1 ey1 => ?_)
  refine lv_ldc2 (v := 1442695040888963407) hx hb hown (hts (.constantLong RX12 367 (1442695040888963407)) (List.mem_cons_of_mem _ (List.mem_append_left _ (List.mem_of_getElem? (i := 2) rfl)))) dX12_draw_9 ?_
  refine lv_ladd hx hb dX12_draw_12 ?_
  refine lv_topl (fun y2 ey2 => ?_)
  refine va_put (D := (dC, dI)) (ci := 12) (v := .long y2) (ty := .long) (C := RX12) (T := TX12) (N := 48) hx hb hts (fun _ h => List.mem_cons_of_mem _ (List.mem_append_right _ h)) tyX12 tyX12_ok nmX12 hown hK hP hD hS 0 rfl rfl 33 (by decide) (hts (.fieldLink RX12 361 "LeftArgumentsModel" "draws" "J") (List.mem_cons_of_mem _ (List.mem_append_left _ (List.mem_of_getElem? (i := 0) rfl)))) (fun _ h9 => h9) rfl (by decide +kernel) rfl rfl (Nat.le_of_ble_eq_true rfl) dX12_draw_13 (fun H locs hP hD hS => ?_)
  have hP : va_P (dC, dI) vwCl (wd_171f232f h0 v0 r0 v1 v2 v3 v4 r1 r2 r3 r4 r5 r6 r7 v5 v6 r8 r9 r10 r11 v7 r12 r13 v8 v9 r14 r15 v10 v11 r16 v12 v13 r17 v14 y2 r18 v16 v17 r19 r20 r21 r22 r23 r24 v18 r25 r26 r27 v19) H := hP
  have hD : va_D A (wd_171f232f h0 v0 r0 v1 v2 v3 v4 r1 r2 r3 r4 r5 r6 r7 v5 v6 r8 r9 r10 r11 v7 r12 r13 v8 v9 r14 r15 v10 v11 r16 v12 v13 r17 v14 y2 r18 v16 v17 r19 r20 r21 r22 r23 r24 v18 r25 r26 r27 v19) := hD
  refine lv_aload_n hx hb dX12_draw_16 rfl (lv_at hl 0 rfl) ?_
  refine va_get (D := (dC, dI)) (ci := 12) (v := .long y2) (C := RX12) (T := TX12) (N := 48) hx hb hts (fun _ h => List.mem_cons_of_mem _ (List.mem_append_right _ h)) hown hK hP 0 rfl rfl 33 (by decide) (hts (.fieldLink RX12 361 "LeftArgumentsModel" "draws" "J") (List.mem_cons_of_mem _ (List.mem_append_left _ (List.mem_of_getElem? (i := 0) rfl)))) (fun _ h9 => h9) rfl dX12_draw_17 ?_
  refine lv_bipush (v := 33) hx hb dX12_draw_20 (by decide) ?_
  obtain ⟨y3, ey3⟩ : ∃ z : Int64, z = ((y2 : Int64).toUInt64 >>> ((33 : Int32).toInt64.toUInt64 &&& Int64.toUInt64 63)).toInt64 := ⟨_, rfl⟩
  refine lv_lushr (v := y3) hx hb dX12_draw_22 (by rw [ey3]) ?_
  refine lv_iload_n hx hb dX12_draw_23 rfl (lv_at hl 1 rfl) ?_
  obtain ⟨y4, ey4⟩ : ∃ z : Int64, z = (10 : Int32).toInt64 := ⟨_, rfl⟩
  refine lv_i2l (v := y4) hx hb dX12_draw_24 (by rw [ey4]) ?_
  refine lv_lrem hx hb dX12_draw_25 (pv_i2l ey4 (by first | omega | decide)) ?_
  refine lv_topl (fun y5 ey5 => ?_)
  obtain ⟨t6, et6⟩ : ∃ z : Int32, z = (y5 : Int64).toInt32 := ⟨_, rfl⟩
  refine lv_l2i (v := t6) hx hb dX12_draw_26 (by rw [et6]) ?_
  have gdt6 : 0 ≤ t6.toInt ∧ t6.toInt < 10 := by apply pm_draw <;> first | assumption | rfl | omega | decide
  subst hQ
  have hP9 := hP.sub (ws' := (wd_171f232f h0 v0 r0 v1 v2 v3 v4 r1 r2 r3 r4 r5 r6 r7 v5 v6 r8 r9 r10 r11 v7 r12 r13 v8 v9 r14 r15 v10 v11 r16 v12 v13 r17 v14 y2 r18 v16 v17 r19 r20 r21 r22 r23 r24 v18 r25 r26 r27 v19)) [0] rfl
  have hD9 := hD.sub (ws' := (wd_171f232f h0 v0 r0 v1 v2 v3 v4 r1 r2 r3 r4 r5 r6 r7 v5 v6 r8 r9 r10 r11 v7 r12 r13 v8 v9 r14 r15 v10 v11 r16 v12 v13 r17 v14 y2 r18 v16 v17 r19 r20 r21 r22 r23 r24 v18 r25 r26 r27 v19)) [0] (by decide) rfl
  have hK9 := hK.sub (tys' := []) [] rfl
  exact W.iret (v := t6) hx hb hr (fun t ht hW => ⟨⟨t6, t6, rfl, rfl, ⟨y2, by first | omega | decide, by first | omega | decide, by rw [ht]; exact hP9, va_K.moved hW.alike hK9, hD9⟩⟩, hS.F ht⟩) hS.2.2 dX12_draw_27
def q_X12_draw_1 : List Cond := .code yX12_draw cX12_draw 2 (some .int) :: (([.fieldLink RX12 361 "LeftArgumentsModel" "draws" "J", .constantLong RX12 365 (6364136223846793005), .constantLong RX12 367 (1442695040888963407)] : List Cond) ++ wsX120)
set_option maxHeartbeats 4000000 in
set_option maxRecDepth 100000 in
theorem k_X12_draw_1 (l : Launch) (dC : Nat → ClassId) (dI : Nat → Nat → Nat) (h0 : Nat) (v0 : Int32) (r0 : Nat) (v1 : Int32) (v2 : Int32) (v3 : Int32) (v4 : Int32) (r1 : Nat) (r2 : Nat) (r3 : Nat) (r4 : Nat) (r5 : Nat) (r6 : Nat) (r7 : Nat) (v5 : Int32) (v6 : Int32) (r8 : Nat) (r9 : Nat) (r10 : Nat) (r11 : Nat) (v7 : Int32) (r12 : Nat) (r13 : Nat) (v8 : Int32) (v9 : Int32) (r14 : Nat) (r15 : Nat) (v10 : Int32) (v11 : Int32) (r16 : Nat) (v12 : Int32) (v13 : Int32) (r17 : Nat) (v14 : Int32) (w15 : Int64) (r18 : Nat) (v16 : Int32) (v17 : Int32) (r19 : Nat) (r20 : Nat) (r21 : Nat) (r22 : Nat) (r23 : Nat) (r24 : Nat) (v18 : Int32) (r25 : Nat) (r26 : Nat) (r27 : Nat) (v19 : Int32) (i_v1 : 0 ≤ v1.toInt ∧ v1.toInt ≤ 240) (i_v5 : 0 ≤ v5.toInt ∧ v5.toInt ≤ 4) (i_v6 : 0 ≤ v6.toInt ∧ v6.toInt ≤ 4) (i_v7 : 0 ≤ v7.toInt ∧ v7.toInt ≤ 8) (i_v8 : 0 ≤ v8.toInt ∧ v8.toInt ≤ 8) (i_v9 : 0 ≤ v9.toInt ∧ v9.toInt ≤ 1) (i_v10 : -1 ≤ v10.toInt ∧ v10.toInt ≤ 3) (i_v14 : 0 ≤ v14.toInt ∧ v14.toInt ≤ 40) (i_v18 : 0 ≤ v18.toInt ∧ v18.toInt ≤ 10) (i_v19 : 0 ≤ v19.toInt ∧ v19.toInt ≤ 1) (sz : Nat) : Met l yX12_draw q_X12_draw_1 ({ frames := 0, cells := 0, slots := 0, locals := 0 }) (va_Pc [.ref h0, .int 9] (fun U => U.heap.size = sz ∧ va_P (dC, dI) vwCl (wd_171f232f h0 v0 r0 v1 v2 v3 v4 r1 r2 r3 r4 r5 r6 r7 v5 v6 r8 r9 r10 r11 v7 r12 r13 v8 v9 r14 r15 v10 v11 r16 v12 v13 r17 v14 w15 r18 v16 v17 r19 r20 r21 r22 r23 r24 v18 r25 r26 r27 v19) U.heap ∧ va_K (dC, dI) vwCl [] U ∧ va_D (fun _ => True) (wd_171f232f h0 v0 r0 v1 v2 v3 v4 r1 r2 r3 r4 r5 r6 r7 v5 v6 r8 r9 r10 r11 v7 r12 r13 v8 v9 r14 r15 v10 v11 r16 v12 v13 r17 v14 w15 r18 v16 v17 r19 r20 r21 r22 r23 r24 v18 r25 r26 r27 v19))) (va_Qi (fun (r : Int32) (r9 : Int32) => r9 = r) (fun (r : Int32) (t : State) => (∃ (o_h0_33 : Int64), (0 ≤ r.toInt) ∧ (r.toInt ≤ 8) ∧ va_P (dC, dI) vwCl (wd_171f232f h0 v0 r0 v1 v2 v3 v4 r1 r2 r3 r4 r5 r6 r7 v5 v6 r8 r9 r10 r11 v7 r12 r13 v8 v9 r14 r15 v10 v11 r16 v12 v13 r17 v14 o_h0_33 r18 v16 v17 r19 r20 r21 r22 r23 r24 v18 r25 r26 r27 v19) t.heap ∧ va_K (dC, dI) vwCl [] t ∧ va_D (va_A (wd_171f232f h0 v0 r0 v1 v2 v3 v4 r1 r2 r3 r4 r5 r6 r7 v5 v6 r8 r9 r10 r11 v7 r12 r13 v8 v9 r14 r15 v10 v11 r16 v12 v13 r17 v14 w15 r18 v16 v17 r19 r20 r21 r22 r23 r24 v18 r25 r26 r27 v19) sz) (wd_171f232f h0 v0 r0 v1 v2 v3 v4 r1 r2 r3 r4 r5 r6 r7 v5 v6 r8 r9 r10 r11 v7 r12 r13 v8 v9 r14 r15 v10 v11 r16 v12 v13 r17 v14 o_h0_33 r18 v16 v17 r19 r20 r21 r22 r23 r24 v18 r25 r26 r27 v19))) (va_A (wd_171f232f h0 v0 r0 v1 v2 v3 v4 r1 r2 r3 r4 r5 r6 r7 v5 v6 r8 r9 r10 r11 v7 r12 r13 v8 v9 r14 r15 v10 v11 r16 v12 v13 r17 v14 w15 r18 v16 v17 r19 r20 r21 r22 r23 r24 v18 r25 r26 r27 v19) sz)) 0 0 (va_A (wd_171f232f h0 v0 r0 v1 v2 v3 v4 r1 r2 r3 r4 r5 r6 r7 v5 v6 r8 r9 r10 r11 v7 r12 r13 v8 v9 r14 r15 v10 v11 r16 v12 v13 r17 v14 w15 r18 v16 v17 r19 r20 r21 r22 r23 r24 v18 r25 r26 r27 v19) sz) := by
  refine Met.ofW (cc := cX12_draw) (maxL := 2) (ret := (some .int)) (by decide) rfl ?_
  intro p e s m args below meth c s₁ B hml hv
  obtain ⟨i_v1a, i_v1b⟩ := i_v1
  obtain ⟨i_v5a, i_v5b⟩ := i_v5
  obtain ⟨i_v6a, i_v6b⟩ := i_v6
  obtain ⟨i_v7a, i_v7b⟩ := i_v7
  obtain ⟨i_v8a, i_v8b⟩ := i_v8
  obtain ⟨i_v9a, i_v9b⟩ := i_v9
  obtain ⟨i_v10a, i_v10b⟩ := i_v10
  obtain ⟨i_v14a, i_v14b⟩ := i_v14
  obtain ⟨i_v18a, i_v18b⟩ := i_v18
  obtain ⟨i_v19a, i_v19b⟩ := i_v19
  obtain ⟨rfl, hsz, hP, hK, hD0⟩ := hv
  have hx := B.exec
  have hb := B.bytes
  have hr := B.returns
  have hts := atoms_spec (ws := q_X12_draw_1) B.pre
  have hown : s.vm.findClass RX12 = some m.cls := findClass_of_methodNamed B.named
  have hlocks := B.notSynchronized
  subst hsz
  have hD := hD0.self (sz := s.heap.size)
  generalize hAe : va_A (wd_171f232f h0 v0 r0 v1 v2 v3 v4 r1 r2 r3 r4 r5 r6 r7 v5 v6 r8 r9 r10 r11 v7 r12 r13 v8 v9 r14 r15 v10 v11 r16 v12 v13 r17 v14 w15 r18 v16 v17 r19 r20 r21 r22 r23 r24 v18 r25 r26 r27 v19) s.heap.size = A at hD ⊢
  have hA : ∀ q : Nat, s.heap.size ≤ q → A q := fun q h => by rw [← hAe]; exact Or.inr h
  have hS : va_S A s.heap s.heap [] := va_S.rf
  generalize hQ : (MQ below _ _ s 0 0 A) = Q
  have hl := lv_entry ([.ref h0, .int 9]) (n := 2) (Nat.le_of_ble_eq_true rfl)
  rw [lg_entry_eq]
  generalize (lg_sl ([.ref h0, .int 9]) ++ List.replicate (2 - (lg_sl ([.ref h0, .int 9])).length) Slot.unset).toArray = ls at hl ⊢
  have hl : lv_has ls 2 [(0, .ref h0), (1, .int 9)] := hl
  obtain ⟨H, hH⟩ : ∃ H : Heap, H = s.heap := ⟨_, rfl⟩
  obtain ⟨locs, hlocs⟩ : ∃ y : List Loc, y = [] := ⟨_, rfl⟩
  have hS : va_S A s.heap H locs := by rw [hH, hlocs]; exact va_S.rf
  have hP : va_P (dC, dI) vwCl (wd_171f232f h0 v0 r0 v1 v2 v3 v4 r1 r2 r3 r4 r5 r6 r7 v5 v6 r8 r9 r10 r11 v7 r12 r13 v8 v9 r14 r15 v10 v11 r16 v12 v13 r17 v14 w15 r18 v16 v17 r19 r20 r21 r22 r23 r24 v18 r25 r26 r27 v19) H := by rw [hH]; exact hP
  rw [← hH, ← hlocs]
  refine lv_aload_n hx hb dX12_draw_0 rfl (lv_at hl 0 rfl) ?_
  refine lv_aload_n hx hb dX12_draw_1 rfl (lv_at hl 0 rfl) ?_
  refine va_get (D := (dC, dI)) (ci := 12) (v := .long w15) (C := RX12) (T := TX12) (N := 48) hx hb hts (fun _ h => List.mem_cons_of_mem _ (List.mem_append_right _ h)) hown hK hP 0 rfl rfl 33 (by decide) (hts (.fieldLink RX12 361 "LeftArgumentsModel" "draws" "J") (List.mem_cons_of_mem _ (List.mem_append_left _ (List.mem_of_getElem? (i := 0) rfl)))) (fun _ h9 => h9) rfl dX12_draw_2 ?_
  refine lv_ldc2 (v := 6364136223846793005) hx hb hown (hts (.constantLong RX12 365 (6364136223846793005)) (List.mem_cons_of_mem _ (List.mem_append_left _ (List.mem_of_getElem? (i := 1) rfl)))) dX12_draw_5 ?_
  refine lv_lmul hx hb dX12_draw_8 ?_
  refine lv_topl (fun y1 ey1 => ?_)
  refine lv_ldc2 (v := 1442695040888963407) hx hb hown (hts (.constantLong RX12 367 (1442695040888963407)) (List.mem_cons_of_mem _ (List.mem_append_left _ (List.mem_of_getElem? (i := 2) rfl)))) dX12_draw_9 ?_
  refine lv_ladd hx hb dX12_draw_12 ?_
  refine lv_topl (fun y2 ey2 => ?_)
  refine va_put (D := (dC, dI)) (ci := 12) (v := .long y2) (ty := .long) (C := RX12) (T := TX12) (N := 48) hx hb hts (fun _ h => List.mem_cons_of_mem _ (List.mem_append_right _ h)) tyX12 tyX12_ok nmX12 hown hK hP hD hS 0 rfl rfl 33 (by decide) (hts (.fieldLink RX12 361 "LeftArgumentsModel" "draws" "J") (List.mem_cons_of_mem _ (List.mem_append_left _ (List.mem_of_getElem? (i := 0) rfl)))) (fun _ h9 => h9) rfl (by decide +kernel) rfl rfl (Nat.le_of_ble_eq_true rfl) dX12_draw_13 (fun H locs hP hD hS => ?_)
  have hP : va_P (dC, dI) vwCl (wd_171f232f h0 v0 r0 v1 v2 v3 v4 r1 r2 r3 r4 r5 r6 r7 v5 v6 r8 r9 r10 r11 v7 r12 r13 v8 v9 r14 r15 v10 v11 r16 v12 v13 r17 v14 y2 r18 v16 v17 r19 r20 r21 r22 r23 r24 v18 r25 r26 r27 v19) H := hP
  have hD : va_D A (wd_171f232f h0 v0 r0 v1 v2 v3 v4 r1 r2 r3 r4 r5 r6 r7 v5 v6 r8 r9 r10 r11 v7 r12 r13 v8 v9 r14 r15 v10 v11 r16 v12 v13 r17 v14 y2 r18 v16 v17 r19 r20 r21 r22 r23 r24 v18 r25 r26 r27 v19) := hD
  refine lv_aload_n hx hb dX12_draw_16 rfl (lv_at hl 0 rfl) ?_
  refine va_get (D := (dC, dI)) (ci := 12) (v := .long y2) (C := RX12) (T := TX12) (N := 48) hx hb hts (fun _ h => List.mem_cons_of_mem _ (List.mem_append_right _ h)) hown hK hP 0 rfl rfl 33 (by decide) (hts (.fieldLink RX12 361 "LeftArgumentsModel" "draws" "J") (List.mem_cons_of_mem _ (List.mem_append_left _ (List.mem_of_getElem? (i := 0) rfl)))) (fun _ h9 => h9) rfl dX12_draw_17 ?_
  refine lv_bipush (v := 33) hx hb dX12_draw_20 (by decide) ?_
  obtain ⟨y3, ey3⟩ : ∃ z : Int64, z = ((y2 : Int64).toUInt64 >>> ((33 : Int32).toInt64.toUInt64 &&& Int64.toUInt64 63)).toInt64 := ⟨_, rfl⟩
  refine lv_lushr (v := y3) hx hb dX12_draw_22 (by rw [ey3]) ?_
  refine lv_iload_n hx hb dX12_draw_23 rfl (lv_at hl 1 rfl) ?_
  obtain ⟨y4, ey4⟩ : ∃ z : Int64, z = (9 : Int32).toInt64 := ⟨_, rfl⟩
  refine lv_i2l (v := y4) hx hb dX12_draw_24 (by rw [ey4]) ?_
  refine lv_lrem hx hb dX12_draw_25 (pv_i2l ey4 (by first | omega | decide)) ?_
  refine lv_topl (fun y5 ey5 => ?_)
  obtain ⟨t6, et6⟩ : ∃ z : Int32, z = (y5 : Int64).toInt32 := ⟨_, rfl⟩
  refine lv_l2i (v := t6) hx hb dX12_draw_26 (by rw [et6]) ?_
  have gdt6 : 0 ≤ t6.toInt ∧ t6.toInt < 9 := by apply pm_draw <;> first | assumption | rfl | omega | decide
  subst hQ
  have hP9 := hP.sub (ws' := (wd_171f232f h0 v0 r0 v1 v2 v3 v4 r1 r2 r3 r4 r5 r6 r7 v5 v6 r8 r9 r10 r11 v7 r12 r13 v8 v9 r14 r15 v10 v11 r16 v12 v13 r17 v14 y2 r18 v16 v17 r19 r20 r21 r22 r23 r24 v18 r25 r26 r27 v19)) [0] rfl
  have hD9 := hD.sub (ws' := (wd_171f232f h0 v0 r0 v1 v2 v3 v4 r1 r2 r3 r4 r5 r6 r7 v5 v6 r8 r9 r10 r11 v7 r12 r13 v8 v9 r14 r15 v10 v11 r16 v12 v13 r17 v14 y2 r18 v16 v17 r19 r20 r21 r22 r23 r24 v18 r25 r26 r27 v19)) [0] (by decide) rfl
  have hK9 := hK.sub (tys' := []) [] rfl
  exact W.iret (v := t6) hx hb hr (fun t ht hW => ⟨⟨t6, t6, rfl, rfl, ⟨y2, by first | omega | decide, by first | omega | decide, by rw [ht]; exact hP9, va_K.moved hW.alike hK9, hD9⟩⟩, hS.F ht⟩) hS.2.2 dX12_draw_27
def q_X12_draw_2 : List Cond := .code yX12_draw cX12_draw 2 (some .int) :: (([.fieldLink RX12 361 "LeftArgumentsModel" "draws" "J", .constantLong RX12 365 (6364136223846793005), .constantLong RX12 367 (1442695040888963407)] : List Cond) ++ wsX120)
set_option maxHeartbeats 4000000 in
set_option maxRecDepth 100000 in
theorem k_X12_draw_2 (l : Launch) (dC : Nat → ClassId) (dI : Nat → Nat → Nat) (h0 : Nat) (v0 : Int32) (r0 : Nat) (v1 : Int32) (v2 : Int32) (v3 : Int32) (v4 : Int32) (r1 : Nat) (r2 : Nat) (r3 : Nat) (r4 : Nat) (r5 : Nat) (r6 : Nat) (r7 : Nat) (v5 : Int32) (v6 : Int32) (r8 : Nat) (r9 : Nat) (r10 : Nat) (r11 : Nat) (v7 : Int32) (r12 : Nat) (r13 : Nat) (v8 : Int32) (v9 : Int32) (r14 : Nat) (r15 : Nat) (v10 : Int32) (v11 : Int32) (r16 : Nat) (v12 : Int32) (v13 : Int32) (r17 : Nat) (v14 : Int32) (w15 : Int64) (r18 : Nat) (v16 : Int32) (v17 : Int32) (r19 : Nat) (r20 : Nat) (r21 : Nat) (r22 : Nat) (r23 : Nat) (r24 : Nat) (v18 : Int32) (r25 : Nat) (r26 : Nat) (r27 : Nat) (v19 : Int32) (v20 : Int32) (i_v1 : 0 ≤ v1.toInt ∧ v1.toInt ≤ 240) (i_v5 : 0 ≤ v5.toInt ∧ v5.toInt ≤ 4) (i_v6 : 0 ≤ v6.toInt ∧ v6.toInt ≤ 4) (i_v7 : 0 ≤ v7.toInt ∧ v7.toInt ≤ 8) (i_v8 : 0 ≤ v8.toInt ∧ v8.toInt ≤ 8) (i_v9 : 0 ≤ v9.toInt ∧ v9.toInt ≤ 1) (i_v10 : -1 ≤ v10.toInt ∧ v10.toInt ≤ 3) (i_v14 : 0 ≤ v14.toInt ∧ v14.toInt ≤ 40) (i_v18 : 0 ≤ v18.toInt ∧ v18.toInt ≤ 10) (i_v19 : 0 ≤ v19.toInt ∧ v19.toInt ≤ 1) (i_v20 : 1 ≤ v20.toInt ∧ v20.toInt ≤ 16) (sz : Nat) : Met l yX12_draw q_X12_draw_2 ({ frames := 0, cells := 0, slots := 0, locals := 0 }) (va_Pc [.ref h0, .int v20] (fun U => U.heap.size = sz ∧ va_P (dC, dI) vwCl (wd_171f232f h0 v0 r0 v1 v2 v3 v4 r1 r2 r3 r4 r5 r6 r7 v5 v6 r8 r9 r10 r11 v7 r12 r13 v8 v9 r14 r15 v10 v11 r16 v12 v13 r17 v14 w15 r18 v16 v17 r19 r20 r21 r22 r23 r24 v18 r25 r26 r27 v19) U.heap ∧ va_K (dC, dI) vwCl [] U ∧ va_D (fun _ => True) (wd_171f232f h0 v0 r0 v1 v2 v3 v4 r1 r2 r3 r4 r5 r6 r7 v5 v6 r8 r9 r10 r11 v7 r12 r13 v8 v9 r14 r15 v10 v11 r16 v12 v13 r17 v14 w15 r18 v16 v17 r19 r20 r21 r22 r23 r24 v18 r25 r26 r27 v19))) (va_Qi (fun (r : Int32) (r9 : Int32) => r9 = r) (fun (r : Int32) (t : State) => (∃ (o_h0_33 : Int64), (0 ≤ r.toInt) ∧ (r.toInt ≤ 15) ∧ va_P (dC, dI) vwCl (wd_171f232f h0 v0 r0 v1 v2 v3 v4 r1 r2 r3 r4 r5 r6 r7 v5 v6 r8 r9 r10 r11 v7 r12 r13 v8 v9 r14 r15 v10 v11 r16 v12 v13 r17 v14 o_h0_33 r18 v16 v17 r19 r20 r21 r22 r23 r24 v18 r25 r26 r27 v19) t.heap ∧ va_K (dC, dI) vwCl [] t ∧ va_D (va_A (wd_171f232f h0 v0 r0 v1 v2 v3 v4 r1 r2 r3 r4 r5 r6 r7 v5 v6 r8 r9 r10 r11 v7 r12 r13 v8 v9 r14 r15 v10 v11 r16 v12 v13 r17 v14 w15 r18 v16 v17 r19 r20 r21 r22 r23 r24 v18 r25 r26 r27 v19) sz) (wd_171f232f h0 v0 r0 v1 v2 v3 v4 r1 r2 r3 r4 r5 r6 r7 v5 v6 r8 r9 r10 r11 v7 r12 r13 v8 v9 r14 r15 v10 v11 r16 v12 v13 r17 v14 o_h0_33 r18 v16 v17 r19 r20 r21 r22 r23 r24 v18 r25 r26 r27 v19))) (va_A (wd_171f232f h0 v0 r0 v1 v2 v3 v4 r1 r2 r3 r4 r5 r6 r7 v5 v6 r8 r9 r10 r11 v7 r12 r13 v8 v9 r14 r15 v10 v11 r16 v12 v13 r17 v14 w15 r18 v16 v17 r19 r20 r21 r22 r23 r24 v18 r25 r26 r27 v19) sz)) 0 0 (va_A (wd_171f232f h0 v0 r0 v1 v2 v3 v4 r1 r2 r3 r4 r5 r6 r7 v5 v6 r8 r9 r10 r11 v7 r12 r13 v8 v9 r14 r15 v10 v11 r16 v12 v13 r17 v14 w15 r18 v16 v17 r19 r20 r21 r22 r23 r24 v18 r25 r26 r27 v19) sz) := by
  refine Met.ofW (cc := cX12_draw) (maxL := 2) (ret := (some .int)) (by decide) rfl ?_
  intro p e s m args below meth c s₁ B hml hv
  obtain ⟨i_v1a, i_v1b⟩ := i_v1
  obtain ⟨i_v5a, i_v5b⟩ := i_v5
  obtain ⟨i_v6a, i_v6b⟩ := i_v6
  obtain ⟨i_v7a, i_v7b⟩ := i_v7
  obtain ⟨i_v8a, i_v8b⟩ := i_v8
  obtain ⟨i_v9a, i_v9b⟩ := i_v9
  obtain ⟨i_v10a, i_v10b⟩ := i_v10
  obtain ⟨i_v14a, i_v14b⟩ := i_v14
  obtain ⟨i_v18a, i_v18b⟩ := i_v18
  obtain ⟨i_v19a, i_v19b⟩ := i_v19
  obtain ⟨i_v20a, i_v20b⟩ := i_v20
  obtain ⟨rfl, hsz, hP, hK, hD0⟩ := hv
  have hx := B.exec
  have hb := B.bytes
  have hr := B.returns
  have hts := atoms_spec (ws := q_X12_draw_2) B.pre
  have hown : s.vm.findClass RX12 = some m.cls := findClass_of_methodNamed B.named
  have hlocks := B.notSynchronized
  subst hsz
  have hD := hD0.self (sz := s.heap.size)
  generalize hAe : va_A (wd_171f232f h0 v0 r0 v1 v2 v3 v4 r1 r2 r3 r4 r5 r6 r7 v5 v6 r8 r9 r10 r11 v7 r12 r13 v8 v9 r14 r15 v10 v11 r16 v12 v13 r17 v14 w15 r18 v16 v17 r19 r20 r21 r22 r23 r24 v18 r25 r26 r27 v19) s.heap.size = A at hD ⊢
  have hA : ∀ q : Nat, s.heap.size ≤ q → A q := fun q h => by rw [← hAe]; exact Or.inr h
  have hS : va_S A s.heap s.heap [] := va_S.rf
  generalize hQ : (MQ below _ _ s 0 0 A) = Q
  have hl := lv_entry ([.ref h0, .int v20]) (n := 2) (Nat.le_of_ble_eq_true rfl)
  rw [lg_entry_eq]
  generalize (lg_sl ([.ref h0, .int v20]) ++ List.replicate (2 - (lg_sl ([.ref h0, .int v20])).length) Slot.unset).toArray = ls at hl ⊢
  have hl : lv_has ls 2 [(0, .ref h0), (1, .int v20)] := hl
  obtain ⟨H, hH⟩ : ∃ H : Heap, H = s.heap := ⟨_, rfl⟩
  obtain ⟨locs, hlocs⟩ : ∃ y : List Loc, y = [] := ⟨_, rfl⟩
  have hS : va_S A s.heap H locs := by rw [hH, hlocs]; exact va_S.rf
  have hP : va_P (dC, dI) vwCl (wd_171f232f h0 v0 r0 v1 v2 v3 v4 r1 r2 r3 r4 r5 r6 r7 v5 v6 r8 r9 r10 r11 v7 r12 r13 v8 v9 r14 r15 v10 v11 r16 v12 v13 r17 v14 w15 r18 v16 v17 r19 r20 r21 r22 r23 r24 v18 r25 r26 r27 v19) H := by rw [hH]; exact hP
  rw [← hH, ← hlocs]
  refine lv_aload_n hx hb dX12_draw_0 rfl (lv_at hl 0 rfl) ?_
  refine lv_aload_n hx hb dX12_draw_1 rfl (lv_at hl 0 rfl) ?_
  refine va_get (D := (dC, dI)) (ci := 12) (v := .long w15) (C := RX12) (T := TX12) (N := 48) hx hb hts (fun _ h => List.mem_cons_of_mem _ (List.mem_append_right _ h)) hown hK hP 0 rfl rfl 33 (by decide) (hts (.fieldLink RX12 361 "LeftArgumentsModel" "draws" "J") (List.mem_cons_of_mem _ (List.mem_append_left _ (List.mem_of_getElem? (i := 0) rfl)))) (fun _ h9 => h9) rfl dX12_draw_2 ?_
  refine lv_ldc2 (v := 6364136223846793005) hx hb hown (hts (.constantLong RX12 365 (6364136223846793005)) (List.mem_cons_of_mem _ (List.mem_append_left _ (List.mem_of_getElem? (i := 1) rfl)))) dX12_draw_5 ?_
  refine lv_lmul hx hb dX12_draw_8 ?_
  refine lv_topl (fun y1 ey1 => ?_)
  refine lv_ldc2 (v := 1442695040888963407) hx hb hown (hts (.constantLong RX12 367 (1442695040888963407)) (List.mem_cons_of_mem _ (List.mem_append_left _ (List.mem_of_getElem? (i := 2) rfl)))) dX12_draw_9 ?_
  refine lv_ladd hx hb dX12_draw_12 ?_
  refine lv_topl (fun y2 ey2 => ?_)
  refine va_put (D := (dC, dI)) (ci := 12) (v := .long y2) (ty := .long) (C := RX12) (T := TX12) (N := 48) hx hb hts (fun _ h => List.mem_cons_of_mem _ (List.mem_append_right _ h)) tyX12 tyX12_ok nmX12 hown hK hP hD hS 0 rfl rfl 33 (by decide) (hts (.fieldLink RX12 361 "LeftArgumentsModel" "draws" "J") (List.mem_cons_of_mem _ (List.mem_append_left _ (List.mem_of_getElem? (i := 0) rfl)))) (fun _ h9 => h9) rfl (by decide +kernel) rfl rfl (Nat.le_of_ble_eq_true rfl) dX12_draw_13 (fun H locs hP hD hS => ?_)
  have hP : va_P (dC, dI) vwCl (wd_171f232f h0 v0 r0 v1 v2 v3 v4 r1 r2 r3 r4 r5 r6 r7 v5 v6 r8 r9 r10 r11 v7 r12 r13 v8 v9 r14 r15 v10 v11 r16 v12 v13 r17 v14 y2 r18 v16 v17 r19 r20 r21 r22 r23 r24 v18 r25 r26 r27 v19) H := hP
  have hD : va_D A (wd_171f232f h0 v0 r0 v1 v2 v3 v4 r1 r2 r3 r4 r5 r6 r7 v5 v6 r8 r9 r10 r11 v7 r12 r13 v8 v9 r14 r15 v10 v11 r16 v12 v13 r17 v14 y2 r18 v16 v17 r19 r20 r21 r22 r23 r24 v18 r25 r26 r27 v19) := hD
  refine lv_aload_n hx hb dX12_draw_16 rfl (lv_at hl 0 rfl) ?_
  refine va_get (D := (dC, dI)) (ci := 12) (v := .long y2) (C := RX12) (T := TX12) (N := 48) hx hb hts (fun _ h => List.mem_cons_of_mem _ (List.mem_append_right _ h)) hown hK hP 0 rfl rfl 33 (by decide) (hts (.fieldLink RX12 361 "LeftArgumentsModel" "draws" "J") (List.mem_cons_of_mem _ (List.mem_append_left _ (List.mem_of_getElem? (i := 0) rfl)))) (fun _ h9 => h9) rfl dX12_draw_17 ?_
  refine lv_bipush (v := 33) hx hb dX12_draw_20 (by decide) ?_
  obtain ⟨y3, ey3⟩ : ∃ z : Int64, z = ((y2 : Int64).toUInt64 >>> ((33 : Int32).toInt64.toUInt64 &&& Int64.toUInt64 63)).toInt64 := ⟨_, rfl⟩
  refine lv_lushr (v := y3) hx hb dX12_draw_22 (by rw [ey3]) ?_
  refine lv_iload_n hx hb dX12_draw_23 rfl (lv_at hl 1 rfl) ?_
  obtain ⟨y4, ey4⟩ : ∃ z : Int64, z = (v20 : Int32).toInt64 := ⟨_, rfl⟩
  refine lv_i2l (v := y4) hx hb dX12_draw_24 (by rw [ey4]) ?_
  refine lv_lrem hx hb dX12_draw_25 (pv_i2l ey4 (by first | omega | decide)) ?_
  refine lv_topl (fun y5 ey5 => ?_)
  obtain ⟨t6, et6⟩ : ∃ z : Int32, z = (y5 : Int64).toInt32 := ⟨_, rfl⟩
  refine lv_l2i (v := t6) hx hb dX12_draw_26 (by rw [et6]) ?_
  have gdt6 : 0 ≤ t6.toInt ∧ t6.toInt < v20.toInt := by apply pm_draw <;> first | assumption | rfl | omega | decide
  subst hQ
  have hP9 := hP.sub (ws' := (wd_171f232f h0 v0 r0 v1 v2 v3 v4 r1 r2 r3 r4 r5 r6 r7 v5 v6 r8 r9 r10 r11 v7 r12 r13 v8 v9 r14 r15 v10 v11 r16 v12 v13 r17 v14 y2 r18 v16 v17 r19 r20 r21 r22 r23 r24 v18 r25 r26 r27 v19)) [0] rfl
  have hD9 := hD.sub (ws' := (wd_171f232f h0 v0 r0 v1 v2 v3 v4 r1 r2 r3 r4 r5 r6 r7 v5 v6 r8 r9 r10 r11 v7 r12 r13 v8 v9 r14 r15 v10 v11 r16 v12 v13 r17 v14 y2 r18 v16 v17 r19 r20 r21 r22 r23 r24 v18 r25 r26 r27 v19)) [0] (by decide) rfl
  have hK9 := hK.sub (tys' := []) [] rfl
  exact W.iret (v := t6) hx hb hr (fun t ht hW => ⟨⟨t6, t6, rfl, rfl, ⟨y2, by first | omega | decide, by first | omega | decide, by rw [ht]; exact hP9, va_K.moved hW.alike hK9, hD9⟩⟩, hS.F ht⟩) hS.2.2 dX12_draw_27
def q_X12_draw_3 : List Cond := .code yX12_draw cX12_draw 2 (some .int) :: (([.fieldLink RX12 361 "LeftArgumentsModel" "draws" "J", .constantLong RX12 365 (6364136223846793005), .constantLong RX12 367 (1442695040888963407)] : List Cond) ++ wsX120)
set_option maxHeartbeats 4000000 in
set_option maxRecDepth 100000 in
theorem k_X12_draw_3 (l : Launch) (dC : Nat → ClassId) (dI : Nat → Nat → Nat) (h0 : Nat) (v0 : Int32) (r0 : Nat) (v1 : Int32) (v2 : Int32) (v3 : Int32) (v4 : Int32) (r1 : Nat) (r2 : Nat) (r3 : Nat) (r4 : Nat) (r5 : Nat) (r6 : Nat) (r7 : Nat) (v5 : Int32) (v6 : Int32) (r8 : Nat) (r9 : Nat) (r10 : Nat) (r11 : Nat) (v7 : Int32) (r12 : Nat) (r13 : Nat) (v8 : Int32) (v9 : Int32) (r14 : Nat) (r15 : Nat) (v10 : Int32) (v11 : Int32) (r16 : Nat) (v12 : Int32) (v13 : Int32) (r17 : Nat) (v14 : Int32) (w15 : Int64) (r18 : Nat) (v16 : Int32) (v17 : Int32) (r19 : Nat) (r20 : Nat) (r21 : Nat) (r22 : Nat) (r23 : Nat) (r24 : Nat) (v18 : Int32) (r25 : Nat) (r26 : Nat) (r27 : Nat) (v19 : Int32) (i_v1 : 0 ≤ v1.toInt ∧ v1.toInt ≤ 240) (i_v5 : 0 ≤ v5.toInt ∧ v5.toInt ≤ 4) (i_v6 : 0 ≤ v6.toInt ∧ v6.toInt ≤ 4) (i_v7 : 0 ≤ v7.toInt ∧ v7.toInt ≤ 8) (i_v8 : 0 ≤ v8.toInt ∧ v8.toInt ≤ 8) (i_v9 : 0 ≤ v9.toInt ∧ v9.toInt ≤ 1) (i_v10 : -1 ≤ v10.toInt ∧ v10.toInt ≤ 3) (i_v14 : 0 ≤ v14.toInt ∧ v14.toInt ≤ 40) (i_v18 : 0 ≤ v18.toInt ∧ v18.toInt ≤ 10) (i_v19 : 0 ≤ v19.toInt ∧ v19.toInt ≤ 1) (sz : Nat) : Met l yX12_draw q_X12_draw_3 ({ frames := 0, cells := 0, slots := 0, locals := 0 }) (va_Pc [.ref h0, .int 16] (fun U => U.heap.size = sz ∧ va_P (dC, dI) vwCl (wd_171f232f h0 v0 r0 v1 v2 v3 v4 r1 r2 r3 r4 r5 r6 r7 v5 v6 r8 r9 r10 r11 v7 r12 r13 v8 v9 r14 r15 v10 v11 r16 v12 v13 r17 v14 w15 r18 v16 v17 r19 r20 r21 r22 r23 r24 v18 r25 r26 r27 v19) U.heap ∧ va_K (dC, dI) vwCl [] U ∧ va_D (fun _ => True) (wd_171f232f h0 v0 r0 v1 v2 v3 v4 r1 r2 r3 r4 r5 r6 r7 v5 v6 r8 r9 r10 r11 v7 r12 r13 v8 v9 r14 r15 v10 v11 r16 v12 v13 r17 v14 w15 r18 v16 v17 r19 r20 r21 r22 r23 r24 v18 r25 r26 r27 v19))) (va_Qi (fun (r : Int32) (r9 : Int32) => r9 = r) (fun (r : Int32) (t : State) => (∃ (o_h0_33 : Int64), (0 ≤ r.toInt) ∧ (r.toInt ≤ 15) ∧ va_P (dC, dI) vwCl (wd_171f232f h0 v0 r0 v1 v2 v3 v4 r1 r2 r3 r4 r5 r6 r7 v5 v6 r8 r9 r10 r11 v7 r12 r13 v8 v9 r14 r15 v10 v11 r16 v12 v13 r17 v14 o_h0_33 r18 v16 v17 r19 r20 r21 r22 r23 r24 v18 r25 r26 r27 v19) t.heap ∧ va_K (dC, dI) vwCl [] t ∧ va_D (va_A (wd_171f232f h0 v0 r0 v1 v2 v3 v4 r1 r2 r3 r4 r5 r6 r7 v5 v6 r8 r9 r10 r11 v7 r12 r13 v8 v9 r14 r15 v10 v11 r16 v12 v13 r17 v14 w15 r18 v16 v17 r19 r20 r21 r22 r23 r24 v18 r25 r26 r27 v19) sz) (wd_171f232f h0 v0 r0 v1 v2 v3 v4 r1 r2 r3 r4 r5 r6 r7 v5 v6 r8 r9 r10 r11 v7 r12 r13 v8 v9 r14 r15 v10 v11 r16 v12 v13 r17 v14 o_h0_33 r18 v16 v17 r19 r20 r21 r22 r23 r24 v18 r25 r26 r27 v19))) (va_A (wd_171f232f h0 v0 r0 v1 v2 v3 v4 r1 r2 r3 r4 r5 r6 r7 v5 v6 r8 r9 r10 r11 v7 r12 r13 v8 v9 r14 r15 v10 v11 r16 v12 v13 r17 v14 w15 r18 v16 v17 r19 r20 r21 r22 r23 r24 v18 r25 r26 r27 v19) sz)) 0 0 (va_A (wd_171f232f h0 v0 r0 v1 v2 v3 v4 r1 r2 r3 r4 r5 r6 r7 v5 v6 r8 r9 r10 r11 v7 r12 r13 v8 v9 r14 r15 v10 v11 r16 v12 v13 r17 v14 w15 r18 v16 v17 r19 r20 r21 r22 r23 r24 v18 r25 r26 r27 v19) sz) := by
  refine Met.ofW (cc := cX12_draw) (maxL := 2) (ret := (some .int)) (by decide) rfl ?_
  intro p e s m args below meth c s₁ B hml hv
  obtain ⟨i_v1a, i_v1b⟩ := i_v1
  obtain ⟨i_v5a, i_v5b⟩ := i_v5
  obtain ⟨i_v6a, i_v6b⟩ := i_v6
  obtain ⟨i_v7a, i_v7b⟩ := i_v7
  obtain ⟨i_v8a, i_v8b⟩ := i_v8
  obtain ⟨i_v9a, i_v9b⟩ := i_v9
  obtain ⟨i_v10a, i_v10b⟩ := i_v10
  obtain ⟨i_v14a, i_v14b⟩ := i_v14
  obtain ⟨i_v18a, i_v18b⟩ := i_v18
  obtain ⟨i_v19a, i_v19b⟩ := i_v19
  obtain ⟨rfl, hsz, hP, hK, hD0⟩ := hv
  have hx := B.exec
  have hb := B.bytes
  have hr := B.returns
  have hts := atoms_spec (ws := q_X12_draw_3) B.pre
  have hown : s.vm.findClass RX12 = some m.cls := findClass_of_methodNamed B.named
  have hlocks := B.notSynchronized
  subst hsz
  have hD := hD0.self (sz := s.heap.size)
  generalize hAe : va_A (wd_171f232f h0 v0 r0 v1 v2 v3 v4 r1 r2 r3 r4 r5 r6 r7 v5 v6 r8 r9 r10 r11 v7 r12 r13 v8 v9 r14 r15 v10 v11 r16 v12 v13 r17 v14 w15 r18 v16 v17 r19 r20 r21 r22 r23 r24 v18 r25 r26 r27 v19) s.heap.size = A at hD ⊢
  have hA : ∀ q : Nat, s.heap.size ≤ q → A q := fun q h => by rw [← hAe]; exact Or.inr h
  have hS : va_S A s.heap s.heap [] := va_S.rf
  generalize hQ : (MQ below _ _ s 0 0 A) = Q
  have hl := lv_entry ([.ref h0, .int 16]) (n := 2) (Nat.le_of_ble_eq_true rfl)
  rw [lg_entry_eq]
  generalize (lg_sl ([.ref h0, .int 16]) ++ List.replicate (2 - (lg_sl ([.ref h0, .int 16])).length) Slot.unset).toArray = ls at hl ⊢
  have hl : lv_has ls 2 [(0, .ref h0), (1, .int 16)] := hl
  obtain ⟨H, hH⟩ : ∃ H : Heap, H = s.heap := ⟨_, rfl⟩
  obtain ⟨locs, hlocs⟩ : ∃ y : List Loc, y = [] := ⟨_, rfl⟩
  have hS : va_S A s.heap H locs := by rw [hH, hlocs]; exact va_S.rf
  have hP : va_P (dC, dI) vwCl (wd_171f232f h0 v0 r0 v1 v2 v3 v4 r1 r2 r3 r4 r5 r6 r7 v5 v6 r8 r9 r10 r11 v7 r12 r13 v8 v9 r14 r15 v10 v11 r16 v12 v13 r17 v14 w15 r18 v16 v17 r19 r20 r21 r22 r23 r24 v18 r25 r26 r27 v19) H := by rw [hH]; exact hP
  rw [← hH, ← hlocs]
  refine lv_aload_n hx hb dX12_draw_0 rfl (lv_at hl 0 rfl) ?_
  refine lv_aload_n hx hb dX12_draw_1 rfl (lv_at hl 0 rfl) ?_
  refine va_get (D := (dC, dI)) (ci := 12) (v := .long w15) (C := RX12) (T := TX12) (N := 48) hx hb hts (fun _ h => List.mem_cons_of_mem _ (List.mem_append_right _ h)) hown hK hP 0 rfl rfl 33 (by decide) (hts (.fieldLink RX12 361 "LeftArgumentsModel" "draws" "J") (List.mem_cons_of_mem _ (List.mem_append_left _ (List.mem_of_getElem? (i := 0) rfl)))) (fun _ h9 => h9) rfl dX12_draw_2 ?_
  refine lv_ldc2 (v := 6364136223846793005) hx hb hown (hts (.constantLong RX12 365 (6364136223846793005)) (List.mem_cons_of_mem _ (List.mem_append_left _ (List.mem_of_getElem? (i := 1) rfl)))) dX12_draw_5 ?_
  refine lv_lmul hx hb dX12_draw_8 ?_
  refine lv_topl (fun y1 ey1 => ?_)
  refine lv_ldc2 (v := 1442695040888963407) hx hb hown (hts (.constantLong RX12 367 (1442695040888963407)) (List.mem_cons_of_mem _ (List.mem_append_left _ (List.mem_of_getElem? (i := 2) rfl)))) dX12_draw_9 ?_
  refine lv_ladd hx hb dX12_draw_12 ?_
  refine lv_topl (fun y2 ey2 => ?_)
  refine va_put (D := (dC, dI)) (ci := 12) (v := .long y2) (ty := .long) (C := RX12) (T := TX12) (N := 48) hx hb hts (fun _ h => List.mem_cons_of_mem _ (List.mem_append_right _ h)) tyX12 tyX12_ok nmX12 hown hK hP hD hS 0 rfl rfl 33 (by decide) (hts (.fieldLink RX12 361 "LeftArgumentsModel" "draws" "J") (List.mem_cons_of_mem _ (List.mem_append_left _ (List.mem_of_getElem? (i := 0) rfl)))) (fun _ h9 => h9) rfl (by decide +kernel) rfl rfl (Nat.le_of_ble_eq_true rfl) dX12_draw_13 (fun H locs hP hD hS => ?_)
  have hP : va_P (dC, dI) vwCl (wd_171f232f h0 v0 r0 v1 v2 v3 v4 r1 r2 r3 r4 r5 r6 r7 v5 v6 r8 r9 r10 r11 v7 r12 r13 v8 v9 r14 r15 v10 v11 r16 v12 v13 r17 v14 y2 r18 v16 v17 r19 r20 r21 r22 r23 r24 v18 r25 r26 r27 v19) H := hP
  have hD : va_D A (wd_171f232f h0 v0 r0 v1 v2 v3 v4 r1 r2 r3 r4 r5 r6 r7 v5 v6 r8 r9 r10 r11 v7 r12 r13 v8 v9 r14 r15 v10 v11 r16 v12 v13 r17 v14 y2 r18 v16 v17 r19 r20 r21 r22 r23 r24 v18 r25 r26 r27 v19) := hD
  refine lv_aload_n hx hb dX12_draw_16 rfl (lv_at hl 0 rfl) ?_
  refine va_get (D := (dC, dI)) (ci := 12) (v := .long y2) (C := RX12) (T := TX12) (N := 48) hx hb hts (fun _ h => List.mem_cons_of_mem _ (List.mem_append_right _ h)) hown hK hP 0 rfl rfl 33 (by decide) (hts (.fieldLink RX12 361 "LeftArgumentsModel" "draws" "J") (List.mem_cons_of_mem _ (List.mem_append_left _ (List.mem_of_getElem? (i := 0) rfl)))) (fun _ h9 => h9) rfl dX12_draw_17 ?_
  refine lv_bipush (v := 33) hx hb dX12_draw_20 (by decide) ?_
  obtain ⟨y3, ey3⟩ : ∃ z : Int64, z = ((y2 : Int64).toUInt64 >>> ((33 : Int32).toInt64.toUInt64 &&& Int64.toUInt64 63)).toInt64 := ⟨_, rfl⟩
  refine lv_lushr (v := y3) hx hb dX12_draw_22 (by rw [ey3]) ?_
  refine lv_iload_n hx hb dX12_draw_23 rfl (lv_at hl 1 rfl) ?_
  obtain ⟨y4, ey4⟩ : ∃ z : Int64, z = (16 : Int32).toInt64 := ⟨_, rfl⟩
  refine lv_i2l (v := y4) hx hb dX12_draw_24 (by rw [ey4]) ?_
  refine lv_lrem hx hb dX12_draw_25 (pv_i2l ey4 (by first | omega | decide)) ?_
  refine lv_topl (fun y5 ey5 => ?_)
  obtain ⟨t6, et6⟩ : ∃ z : Int32, z = (y5 : Int64).toInt32 := ⟨_, rfl⟩
  refine lv_l2i (v := t6) hx hb dX12_draw_26 (by rw [et6]) ?_
  have gdt6 : 0 ≤ t6.toInt ∧ t6.toInt < 16 := by apply pm_draw <;> first | assumption | rfl | omega | decide
  subst hQ
  have hP9 := hP.sub (ws' := (wd_171f232f h0 v0 r0 v1 v2 v3 v4 r1 r2 r3 r4 r5 r6 r7 v5 v6 r8 r9 r10 r11 v7 r12 r13 v8 v9 r14 r15 v10 v11 r16 v12 v13 r17 v14 y2 r18 v16 v17 r19 r20 r21 r22 r23 r24 v18 r25 r26 r27 v19)) [0] rfl
  have hD9 := hD.sub (ws' := (wd_171f232f h0 v0 r0 v1 v2 v3 v4 r1 r2 r3 r4 r5 r6 r7 v5 v6 r8 r9 r10 r11 v7 r12 r13 v8 v9 r14 r15 v10 v11 r16 v12 v13 r17 v14 y2 r18 v16 v17 r19 r20 r21 r22 r23 r24 v18 r25 r26 r27 v19)) [0] (by decide) rfl
  have hK9 := hK.sub (tys' := []) [] rfl
  exact W.iret (v := t6) hx hb hr (fun t ht hW => ⟨⟨t6, t6, rfl, rfl, ⟨y2, by first | omega | decide, by first | omega | decide, by rw [ht]; exact hP9, va_K.moved hW.alike hK9, hD9⟩⟩, hS.F ht⟩) hS.2.2 dX12_draw_27
def q_X12_drawDay : List Cond := .code yX12_drawDay cX12_drawDay 5 none :: (([.code yX12_draw cX12_draw 2 (some .int), .fieldLink RX12 361 "LeftArgumentsModel" "draws" "J", .constantLong RX12 365 (6364136223846793005), .constantLong RX12 367 (1442695040888963407), .initialized RX12, .instanceMethod yX12_draw, .selects RX12 yX12_draw yX12_draw, .methodLink RX12 369 yX12_draw, .fieldLink RX12 62 "LeftArgumentsModel" "training" "I", .code yX12_isThere cX12_isThere 2 (some .boolean), .code yX12_in cX12_in 3 (some .boolean), .static yX12_in, .methodLink RX12 217 yX12_in, .code yX12_of cX12_of 3 (some .int), .fieldLink RX12 52 "LeftArgumentsModel" "now" "[I", .instanceMethod yX12_of, .selects RX12 yX12_of yX12_of, .methodLink RX12 287 yX12_of, .instanceMethod yX12_isThere, .selects RX12 yX12_isThere yX12_isThere, .methodLink RX12 290 yX12_isThere, .code yX12_callNow cX12_callNow 3 (some .int), .fieldLink RX12 46 "LeftArgumentsModel" "rule" "[I", .methodLink RX12 299 Lib.Math.min.name, .static Lib.Math.min.name, .initialized "java/lang/Math", .code Lib.Math.min.name Lib.Math.min.code 2 (some .int), .code yX12_set cX12_set 4 none, .instanceMethod yX12_set, .selects RX12 yX12_set yX12_set, .methodLink RX12 258 yX12_set, .instanceMethod yX12_callNow, .selects RX12 yX12_callNow yX12_callNow, .methodLink RX12 358 yX12_callNow, .code yX12_does cX12_does 3 (some .boolean), .code yX12_loadOf cX12_loadOf 4 (some .int), .instanceMethod yX12_loadOf, .selects RX12 yX12_loadOf yX12_loadOf, .methodLink RX12 312 yX12_loadOf, .instanceMethod yX12_does, .selects RX12 yX12_does yX12_does, .methodLink RX12 351 yX12_does, .code yX12_freePlace cX12_freePlace 2 (some .int), .instanceMethod yX12_freePlace, .selects RX12 yX12_freePlace yX12_freePlace, .methodLink RX12 348 yX12_freePlace, .code yX12_leaveNow cX12_leaveNow 6 (some .int), .instanceMethod yX12_leaveNow, .selects RX12 yX12_leaveNow yX12_leaveNow, .methodLink RX12 354 yX12_leaveNow] : List Cond) ++ wsX120)
set_option maxRecDepth 20000 in
theorem g_X12_drawDay_0 : GoodIn q_X12_drawDay (wsV RX12 369 RX12 yX12_draw q_X12_draw) := goodIn_app (goodIn_r _ [8, 6, 7, 5] rfl (by decide +kernel)) (goodIn_ca (goodIn_r (.code yX12_draw cX12_draw 2 (some .int) :: [.fieldLink RX12 361 "LeftArgumentsModel" "draws" "J", .constantLong RX12 365 (6364136223846793005), .constantLong RX12 367 (1442695040888963407)]) [1, 2, 3, 4] rfl (by decide +kernel)) (goodIn_sub (fun _ h => List.mem_cons_of_mem _ (List.mem_append_right _ h)) gwX12))
set_option maxRecDepth 20000 in
theorem g_X12_drawDay_1 : GoodIn q_X12_drawDay (wsV RX12 369 RX12 yX12_draw q_X12_draw_3) := goodIn_app (goodIn_r _ [8, 6, 7, 5] rfl (by decide +kernel)) (goodIn_ca (goodIn_r (.code yX12_draw cX12_draw 2 (some .int) :: [.fieldLink RX12 361 "LeftArgumentsModel" "draws" "J", .constantLong RX12 365 (6364136223846793005), .constantLong RX12 367 (1442695040888963407)]) [1, 2, 3, 4] rfl (by decide +kernel)) (goodIn_sub (fun _ h => List.mem_cons_of_mem _ (List.mem_append_right _ h)) gwX12))
set_option maxRecDepth 20000 in
theorem g_X12_drawDay_2 : GoodIn q_X12_drawDay (wsV RX12 290 RX12 yX12_isThere q_X12_isThere) := goodIn_app (goodIn_r _ [21, 19, 20, 5] rfl (by decide +kernel)) (goodIn_ca (goodIn_r (.code yX12_isThere cX12_isThere 2 (some .boolean) :: [.code yX12_in cX12_in 3 (some .boolean), .initialized RX12, .static yX12_in, .methodLink RX12 217 yX12_in, .code yX12_of cX12_of 3 (some .int), .fieldLink RX12 52 "LeftArgumentsModel" "now" "[I", .instanceMethod yX12_of, .selects RX12 yX12_of yX12_of, .methodLink RX12 287 yX12_of]) [10, 11, 5, 12, 13, 14, 15, 16, 17, 18] rfl (by decide +kernel)) (goodIn_sub (fun _ h => List.mem_cons_of_mem _ (List.mem_append_right _ h)) gwX12))
set_option maxRecDepth 20000 in
theorem g_X12_drawDay_3 : GoodIn q_X12_drawDay (wsV RX12 358 RX12 yX12_callNow q_X12_callNow) := goodIn_app (goodIn_r _ [34, 32, 33, 5] rfl (by decide +kernel)) (goodIn_ca (goodIn_r (.code yX12_callNow cX12_callNow 3 (some .int) :: [.fieldLink RX12 46 "LeftArgumentsModel" "rule" "[I", .code yX12_of cX12_of 3 (some .int), .fieldLink RX12 52 "LeftArgumentsModel" "now" "[I", .initialized RX12, .instanceMethod yX12_of, .selects RX12 yX12_of yX12_of, .methodLink RX12 287 yX12_of, .methodLink RX12 299 Lib.Math.min.name, .static Lib.Math.min.name, .initialized "java/lang/Math", .code Lib.Math.min.name Lib.Math.min.code 2 (some .int), .code yX12_set cX12_set 4 none, .instanceMethod yX12_set, .selects RX12 yX12_set yX12_set, .methodLink RX12 258 yX12_set]) [22, 23, 14, 15, 5, 16, 17, 18, 24, 25, 26, 27, 28, 29, 30, 31] rfl (by decide +kernel)) (goodIn_sub (fun _ h => List.mem_cons_of_mem _ (List.mem_append_right _ h)) gwX12))
set_option maxRecDepth 20000 in
theorem g_X12_drawDay_4 : GoodIn q_X12_drawDay (wsV RX12 369 RX12 yX12_draw q_X12_draw_1) := goodIn_app (goodIn_r _ [8, 6, 7, 5] rfl (by decide +kernel)) (goodIn_ca (goodIn_r (.code yX12_draw cX12_draw 2 (some .int) :: [.fieldLink RX12 361 "LeftArgumentsModel" "draws" "J", .constantLong RX12 365 (6364136223846793005), .constantLong RX12 367 (1442695040888963407)]) [1, 2, 3, 4] rfl (by decide +kernel)) (goodIn_sub (fun _ h => List.mem_cons_of_mem _ (List.mem_append_right _ h)) gwX12))
set_option maxRecDepth 20000 in
theorem g_X12_drawDay_7 : GoodIn q_X12_drawDay (wsV RX12 369 RX12 yX12_draw q_X12_draw_2) := goodIn_app (goodIn_r _ [8, 6, 7, 5] rfl (by decide +kernel)) (goodIn_ca (goodIn_r (.code yX12_draw cX12_draw 2 (some .int) :: [.fieldLink RX12 361 "LeftArgumentsModel" "draws" "J", .constantLong RX12 365 (6364136223846793005), .constantLong RX12 367 (1442695040888963407)]) [1, 2, 3, 4] rfl (by decide +kernel)) (goodIn_sub (fun _ h => List.mem_cons_of_mem _ (List.mem_append_right _ h)) gwX12))
set_option maxRecDepth 20000 in
theorem g_X12_drawDay_8 : GoodIn q_X12_drawDay (wsV RX12 351 RX12 yX12_does q_X12_does) := goodIn_app (goodIn_r _ [42, 40, 41, 5] rfl (by decide +kernel)) (goodIn_ca (goodIn_r (.code yX12_does cX12_does 3 (some .boolean) :: [.code yX12_loadOf cX12_loadOf 4 (some .int), .code yX12_isThere cX12_isThere 2 (some .boolean), .code yX12_in cX12_in 3 (some .boolean), .initialized RX12, .static yX12_in, .methodLink RX12 217 yX12_in, .code yX12_of cX12_of 3 (some .int), .fieldLink RX12 52 "LeftArgumentsModel" "now" "[I", .instanceMethod yX12_of, .selects RX12 yX12_of yX12_of, .methodLink RX12 287 yX12_of, .instanceMethod yX12_isThere, .selects RX12 yX12_isThere yX12_isThere, .methodLink RX12 290 yX12_isThere, .instanceMethod yX12_loadOf, .selects RX12 yX12_loadOf yX12_loadOf, .methodLink RX12 312 yX12_loadOf, .fieldLink RX12 46 "LeftArgumentsModel" "rule" "[I"]) [35, 36, 10, 11, 5, 12, 13, 14, 15, 16, 17, 18, 19, 20, 21, 37, 38, 39, 23] rfl (by decide +kernel)) (goodIn_sub (fun _ h => List.mem_cons_of_mem _ (List.mem_append_right _ h)) gwX12))
set_option maxRecDepth 20000 in
theorem g_X12_drawDay_9 : GoodIn q_X12_drawDay (wsV RX12 348 RX12 yX12_freePlace q_X12_freePlace) := goodIn_app (goodIn_r _ [46, 44, 45, 5] rfl (by decide +kernel)) (goodIn_ca (goodIn_r (.code yX12_freePlace cX12_freePlace 2 (some .int) :: [.code yX12_isThere cX12_isThere 2 (some .boolean), .code yX12_in cX12_in 3 (some .boolean), .initialized RX12, .static yX12_in, .methodLink RX12 217 yX12_in, .code yX12_of cX12_of 3 (some .int), .fieldLink RX12 52 "LeftArgumentsModel" "now" "[I", .instanceMethod yX12_of, .selects RX12 yX12_of yX12_of, .methodLink RX12 287 yX12_of, .instanceMethod yX12_isThere, .selects RX12 yX12_isThere yX12_isThere, .methodLink RX12 290 yX12_isThere]) [43, 10, 11, 5, 12, 13, 14, 15, 16, 17, 18, 19, 20, 21] rfl (by decide +kernel)) (goodIn_sub (fun _ h => List.mem_cons_of_mem _ (List.mem_append_right _ h)) gwX12))
set_option maxRecDepth 20000 in
theorem g_X12_drawDay_10 : GoodIn q_X12_drawDay (wsV RX12 354 RX12 yX12_leaveNow q_X12_leaveNow) := goodIn_app (goodIn_r _ [50, 48, 49, 5] rfl (by decide +kernel)) (goodIn_ca (goodIn_r (.code yX12_leaveNow cX12_leaveNow 6 (some .int) :: [.code yX12_freePlace cX12_freePlace 2 (some .int), .code yX12_isThere cX12_isThere 2 (some .boolean), .code yX12_in cX12_in 3 (some .boolean), .initialized RX12, .static yX12_in, .methodLink RX12 217 yX12_in, .code yX12_of cX12_of 3 (some .int), .fieldLink RX12 52 "LeftArgumentsModel" "now" "[I", .instanceMethod yX12_of, .selects RX12 yX12_of yX12_of, .methodLink RX12 287 yX12_of, .instanceMethod yX12_isThere, .selects RX12 yX12_isThere yX12_isThere, .methodLink RX12 290 yX12_isThere, .instanceMethod yX12_freePlace, .selects RX12 yX12_freePlace yX12_freePlace, .methodLink RX12 348 yX12_freePlace, .code yX12_set cX12_set 4 none, .instanceMethod yX12_set, .selects RX12 yX12_set yX12_set, .methodLink RX12 258 yX12_set]) [47, 43, 10, 11, 5, 12, 13, 14, 15, 16, 17, 18, 19, 20, 21, 44, 45, 46, 28, 29, 30, 31] rfl (by decide +kernel)) (goodIn_sub (fun _ h => List.mem_cons_of_mem _ (List.mem_append_right _ h)) gwX12))
set_option maxHeartbeats 4000000 in
set_option maxRecDepth 100000 in
theorem k_X12_drawDay (l : Launch) (dC : Nat → ClassId) (dI : Nat → Nat → Nat) (h0 : Nat) (h1 : Nat) (h2 : Nat) (v0 : Int32) (r0 : Nat) (v1 : Int32) (v2 : Int32) (v3 : Int32) (v4 : Int32) (r1 : Nat) (r2 : Nat) (r3 : Nat) (r4 : Nat) (r5 : Nat) (r6 : Nat) (r7 : Nat) (v5 : Int32) (v6 : Int32) (r8 : Nat) (r9 : Nat) (r10 : Nat) (r11 : Nat) (v7 : Int32) (r12 : Nat) (v8 : Int32) (v9 : Int32) (r13 : Nat) (v10 : Int32) (v11 : Int32) (r14 : Nat) (v12 : Int32) (v13 : Int32) (r15 : Nat) (v14 : Int32) (w15 : Int64) (r16 : Nat) (v16 : Int32) (v17 : Int32) (r17 : Nat) (r18 : Nat) (r19 : Nat) (r20 : Nat) (r21 : Nat) (r22 : Nat) (v18 : Int32) (r23 : Nat) (r24 : Nat) (r25 : Nat) (v19 : Int32) (g0 : ClassId) (f20 : Nat → Int32) (g1 : ClassId) (f21 : Nat → Int32) (i_v1 : 0 ≤ v1.toInt ∧ v1.toInt ≤ 240) (i_v5 : 0 ≤ v5.toInt ∧ v5.toInt ≤ 4) (i_v6 : 0 ≤ v6.toInt ∧ v6.toInt ≤ 4) (i_v7 : 0 ≤ v7.toInt ∧ v7.toInt ≤ 8) (i_v8 : 0 ≤ v8.toInt ∧ v8.toInt ≤ 8) (i_v9 : 0 ≤ v9.toInt ∧ v9.toInt ≤ 1) (i_v10 : -1 ≤ v10.toInt ∧ v10.toInt ≤ 3) (i_v14 : 0 ≤ v14.toInt ∧ v14.toInt ≤ 40) (i_v18 : 0 ≤ v18.toInt ∧ v18.toInt ≤ 10) (i_v19 : 0 ≤ v19.toInt ∧ v19.toInt ≤ 1) (ia_f20 : (pm_RU f20)) (ia_f21 : (pm_NW f21)) (pp0 : 1 ≤ (f20 1).toInt) (sz : Nat) : Met l yX12_drawDay q_X12_drawDay ({ frames := 4, cells := 0, slots := 0, locals := 89 }) (va_Pc [.ref h0] (fun U => U.heap.size = sz ∧ va_P (dC, dI) vwCl (wd_78675856 h0 v0 r0 v1 v2 v3 v4 r1 r2 r3 r4 r5 r6 r7 v5 v6 r8 r9 r10 r11 v7 h1 r12 v8 v9 h2 r13 v10 v11 r14 v12 v13 r15 v14 w15 r16 v16 v17 r17 r18 r19 r20 r21 r22 v18 r23 r24 r25 v19 h1 g0 f20 h2 g1 f21) U.heap ∧ va_K (dC, dI) vwCl [(g0, .int), (g1, .int)] U ∧ va_D (fun _ => True) (wd_78675856 h0 v0 r0 v1 v2 v3 v4 r1 r2 r3 r4 r5 r6 r7 v5 v6 r8 r9 r10 r11 v7 h1 r12 v8 v9 h2 r13 v10 v11 r14 v12 v13 r15 v14 w15 r16 v16 v17 r17 r18 r19 r20 r21 r22 v18 r23 r24 r25 v19 h1 g0 f20 h2 g1 f21))) (va_Qv (fun (_ : Unit) => True) (fun (_ : Unit) (t : State) => (∃ (o_h0_33 : Int64) (o_h2 : Nat → Int32), (pm_NW o_h2) ∧ va_P (dC, dI) vwCl (wd_78675856 h0 v0 r0 v1 v2 v3 v4 r1 r2 r3 r4 r5 r6 r7 v5 v6 r8 r9 r10 r11 v7 h1 r12 v8 v9 h2 r13 v10 v11 r14 v12 v13 r15 v14 o_h0_33 r16 v16 v17 r17 r18 r19 r20 r21 r22 v18 r23 r24 r25 v19 h1 g0 f20 h2 g1 o_h2) t.heap ∧ va_K (dC, dI) vwCl [] t ∧ va_D (va_A (wd_78675856 h0 v0 r0 v1 v2 v3 v4 r1 r2 r3 r4 r5 r6 r7 v5 v6 r8 r9 r10 r11 v7 h1 r12 v8 v9 h2 r13 v10 v11 r14 v12 v13 r15 v14 w15 r16 v16 v17 r17 r18 r19 r20 r21 r22 v18 r23 r24 r25 v19 h1 g0 f20 h2 g1 f21) sz) (wd_78675856 h0 v0 r0 v1 v2 v3 v4 r1 r2 r3 r4 r5 r6 r7 v5 v6 r8 r9 r10 r11 v7 h1 r12 v8 v9 h2 r13 v10 v11 r14 v12 v13 r15 v14 o_h0_33 r16 v16 v17 r17 r18 r19 r20 r21 r22 v18 r23 r24 r25 v19 h1 g0 f20 h2 g1 o_h2))) (va_A (wd_78675856 h0 v0 r0 v1 v2 v3 v4 r1 r2 r3 r4 r5 r6 r7 v5 v6 r8 r9 r10 r11 v7 h1 r12 v8 v9 h2 r13 v10 v11 r14 v12 v13 r15 v14 w15 r16 v16 v17 r17 r18 r19 r20 r21 r22 v18 r23 r24 r25 v19 h1 g0 f20 h2 g1 f21) sz)) 0 0 (va_A (wd_78675856 h0 v0 r0 v1 v2 v3 v4 r1 r2 r3 r4 r5 r6 r7 v5 v6 r8 r9 r10 r11 v7 h1 r12 v8 v9 h2 r13 v10 v11 r14 v12 v13 r15 v14 w15 r16 v16 v17 r17 r18 r19 r20 r21 r22 v18 r23 r24 r25 v19 h1 g0 f20 h2 g1 f21) sz) := by
  refine Met.ofW (cc := cX12_drawDay) (maxL := 5) (ret := none) (by decide) rfl ?_
  intro p e s m args below meth c s₁ B hml hv
  obtain ⟨i_v1a, i_v1b⟩ := i_v1
  obtain ⟨i_v5a, i_v5b⟩ := i_v5
  obtain ⟨i_v6a, i_v6b⟩ := i_v6
  obtain ⟨i_v7a, i_v7b⟩ := i_v7
  obtain ⟨i_v8a, i_v8b⟩ := i_v8
  obtain ⟨i_v9a, i_v9b⟩ := i_v9
  obtain ⟨i_v10a, i_v10b⟩ := i_v10
  obtain ⟨i_v14a, i_v14b⟩ := i_v14
  obtain ⟨i_v18a, i_v18b⟩ := i_v18
  obtain ⟨i_v19a, i_v19b⟩ := i_v19
  obtain ⟨rfl, hsz, hP, hK, hD0⟩ := hv
  have hx := B.exec
  have hb := B.bytes
  have hr := B.returns
  have hts := atoms_spec (ws := q_X12_drawDay) B.pre
  have hown : s.vm.findClass RX12 = some m.cls := findClass_of_methodNamed B.named
  have hlocks := B.notSynchronized
  subst hsz
  have hD := hD0.self (sz := s.heap.size)
  generalize hAe : va_A (wd_78675856 h0 v0 r0 v1 v2 v3 v4 r1 r2 r3 r4 r5 r6 r7 v5 v6 r8 r9 r10 r11 v7 h1 r12 v8 v9 h2 r13 v10 v11 r14 v12 v13 r15 v14 w15 r16 v16 v17 r17 r18 r19 r20 r21 r22 v18 r23 r24 r25 v19 h1 g0 f20 h2 g1 f21) s.heap.size = A at hD ⊢
  have hA : ∀ q : Nat, s.heap.size ≤ q → A q := fun q h => by rw [← hAe]; exact Or.inr h
  have hS : va_S A s.heap s.heap [] := va_S.rf
  generalize hQ : (MQ below _ _ s 0 0 A) = Q
  have hl := lv_entry ([.ref h0]) (n := 5) (Nat.le_of_ble_eq_true rfl)
  rw [lg_entry_eq]
  generalize (lg_sl ([.ref h0]) ++ List.replicate (5 - (lg_sl ([.ref h0])).length) Slot.unset).toArray = ls at hl ⊢
  have hl : lv_has ls 5 [(0, .ref h0)] := hl
  obtain ⟨H, hH⟩ : ∃ H : Heap, H = s.heap := ⟨_, rfl⟩
  obtain ⟨locs, hlocs⟩ : ∃ y : List Loc, y = [] := ⟨_, rfl⟩
  have hS : va_S A s.heap H locs := by rw [hH, hlocs]; exact va_S.rf
  have hP : va_P (dC, dI) vwCl (wd_78675856 h0 v0 r0 v1 v2 v3 v4 r1 r2 r3 r4 r5 r6 r7 v5 v6 r8 r9 r10 r11 v7 h1 r12 v8 v9 h2 r13 v10 v11 r14 v12 v13 r15 v14 w15 r16 v16 v17 r17 r18 r19 r20 r21 r22 v18 r23 r24 r25 v19 h1 g0 f20 h2 g1 f21) H := by rw [hH]; exact hP
  rw [← hH, ← hlocs]
  refine lv_aload_n hx hb dX12_drawDay_0 rfl (lv_at hl 0 rfl) ?_
  refine lv_bipush (v := 10) hx hb dX12_drawDay_1 (by decide) ?_
  have hPc := hP.sub (ws' := (wd_171f232f h0 v0 r0 v1 v2 v3 v4 r1 r2 r3 r4 r5 r6 r7 v5 v6 r8 r9 r10 r11 v7 h1 r12 v8 v9 h2 r13 v10 v11 r14 v12 v13 r15 v14 w15 r16 v16 v17 r17 r18 r19 r20 r21 r22 v18 r23 r24 r25 v19)) [0] rfl
  have hDc := hD.sub (ws' := (wd_171f232f h0 v0 r0 v1 v2 v3 v4 r1 r2 r3 r4 r5 r6 r7 v5 v6 r8 r9 r10 r11 v7 h1 r12 v8 v9 h2 r13 v10 v11 r14 v12 v13 r15 v14 w15 r16 v16 v17 r17 r18 r19 r20 r21 r22 v18 r23 r24 r25 v19)) [0] (by decide) rfl
  have hKc := hK.sub (tys' := []) [] rfl
  have hFc := va_free (wc := (wd_171f232f h0 v0 r0 v1 v2 v3 v4 r1 r2 r3 r4 r5 r6 r7 v5 v6 r8 r9 r10 r11 v7 h1 r12 v8 v9 h2 r13 v10 v11 r14 v12 v13 r15 v14 w15 r16 v16 v17 r17 r18 r19 r20 r21 r22 v18 r23 r24 r25 v19)) hD hS hA [0] rfl
  refine va_calli (va_runV (As := [.int 10]) (rest := []) ⟨hx, hb, hml, hown, hts⟩ (k_X12_draw l dC dI h0 v0 r0 v1 v2 v3 v4 r1 r2 r3 r4 r5 r6 r7 v5 v6 r8 r9 r10 r11 v7 h1 r12 v8 v9 h2 r13 v10 v11 r14 v12 v13 r15 v14 w15 r16 v16 v17 r17 r18 r19 r20 r21 r22 v18 r23 r24 r25 v19 ⟨i_v1a, i_v1b⟩ ⟨i_v5a, i_v5b⟩ ⟨i_v6a, i_v6b⟩ ⟨i_v7a, i_v7b⟩ ⟨i_v8a, i_v8b⟩ ⟨i_v9a, i_v9b⟩ ⟨i_v10a, i_v10b⟩ ⟨i_v14a, i_v14b⟩ ⟨i_v18a, i_v18b⟩ ⟨i_v19a, i_v19b⟩ H.size) (cwV 1 hts g_X12_drawDay_0 rfl rfl rfl (by decide +kernel) ⟨Nat.le_of_ble_eq_true rfl, Nat.le_of_ble_eq_true rfl⟩) (pv_PV12 hPc hKc hDc (q0 := 0) rfl) rfl rfl hl.1 rfl (lv_room (Nat.le_of_ble_eq_true rfl)) dX12_drawDay_3 ⟨Nat.le_of_ble_eq_true rfl, Nat.le_of_ble_eq_true rfl⟩) hS (fun q _ h => hFc q h) hFc (fun ra1 u t H1 locs ht hvm hwra1 hB hz1 hk1 hS => ?_)
  try rw [hwra1] at hB
  obtain ⟨y2, pt0_ra1, pt1_ra1, hP1, hK1, hD1⟩ := hB
  rw [ht] at hP1
  obtain ⟨hP2, hD2⟩ := va_join (wr := (wd_a6050d9e h1 g0 f20 h2 g1 f21)) (w1 := (wd_171f232f h0 v0 r0 v1 v2 v3 v4 r1 r2 r3 r4 r5 r6 r7 v5 v6 r8 r9 r10 r11 v7 h1 r12 v8 v9 h2 r13 v10 v11 r14 v12 v13 r15 v14 y2 r16 v16 v17 r17 r18 r19 r20 r21 r22 v18 r23 r24 r25 v19)) hP hD [0] [1, 2] rfl rfl (by decide) (by decide) hk1 hFc hP1 hD1
  clear hP hD hPc hDc hKc hFc hP1 hK1 hD1 hk1 hz1
  generalize H1 = H at hP2 hS ⊢
  have hP := hP2.sub (ws' := (wd_78675856 h0 v0 r0 v1 v2 v3 v4 r1 r2 r3 r4 r5 r6 r7 v5 v6 r8 r9 r10 r11 v7 h1 r12 v8 v9 h2 r13 v10 v11 r14 v12 v13 r15 v14 y2 r16 v16 v17 r17 r18 r19 r20 r21 r22 v18 r23 r24 r25 v19 h1 g0 f20 h2 g1 f21)) [2, 0, 1] rfl
  have hD := hD2.sub (ws' := (wd_78675856 h0 v0 r0 v1 v2 v3 v4 r1 r2 r3 r4 r5 r6 r7 v5 v6 r8 r9 r10 r11 v7 h1 r12 v8 v9 h2 r13 v10 v11 r14 v12 v13 r15 v14 y2 r16 v16 v17 r17 r18 r19 r20 r21 r22 v18 r23 r24 r25 v19 h1 g0 f20 h2 g1 f21)) [2, 0, 1] (by decide) rfl
  clear hP2 hD2
  refine lv_aload_n hx hb dX12_drawDay_6 rfl (lv_at hl 0 rfl) ?_
  refine va_get (D := (dC, dI)) (ci := 12) (v := .int v11) (C := RX12) (T := TX12) (N := 48) hx hb hts (fun _ h => List.mem_cons_of_mem _ (List.mem_append_right _ h)) hown hK hP 0 rfl rfl 27 (by decide) (hts (.fieldLink RX12 62 "LeftArgumentsModel" "training" "I") (List.mem_cons_of_mem _ (List.mem_append_left _ (List.mem_of_getElem? (i := 8) rfl)))) (fun _ h9 => h9) rfl dX12_drawDay_7 ?_
  have hJ5 : ∀ (y3 : Int64) (fn4 : Nat → Int32) (H : Heap) (locs : List Loc) (ls : Array Slot), (pm_NW fn4) → va_P (dC, dI) vwCl (wd_78675856 h0 v0 r0 v1 v2 v3 v4 r1 r2 r3 r4 r5 r6 r7 v5 v6 r8 r9 r10 r11 v7 h1 r12 v8 v9 h2 r13 v10 v11 r14 v12 v13 r15 v14 y3 r16 v16 v17 r17 r18 r19 r20 r21 r22 v18 r23 r24 r25 v19 h1 g0 f20 h2 g1 fn4) H → va_D A (wd_78675856 h0 v0 r0 v1 v2 v3 v4 r1 r2 r3 r4 r5 r6 r7 v5 v6 r8 r9 r10 r11 v7 h1 r12 v8 v9 h2 r13 v10 v11 r14 v12 v13 r15 v14 y3 r16 v16 v17 r17 r18 r19 r20 r21 r22 v18 r23 r24 r25 v19 h1 g0 f20 h2 g1 fn4) → va_S A s.heap H locs → lv_has ls 5 [(0, .ref h0)] → W p l e ({ frames := 4, cells := 0, slots := 0, locals := 89 }) s m ([.ref h0] : List Value).toArray below meth c H locs 0 0 Q (F0 m 76 ls []) := by
    intro y3 fn4 H locs ls ia_fn4 hP hD hS hl
    refine lv_aload_n hx hb dX12_drawDay_76 rfl (lv_at hl 0 rfl) ?_
    refine lv_bipush (v := 16) hx hb dX12_drawDay_77 (by decide) ?_
    have hPc := hP.sub (ws' := (wd_171f232f h0 v0 r0 v1 v2 v3 v4 r1 r2 r3 r4 r5 r6 r7 v5 v6 r8 r9 r10 r11 v7 h1 r12 v8 v9 h2 r13 v10 v11 r14 v12 v13 r15 v14 y3 r16 v16 v17 r17 r18 r19 r20 r21 r22 v18 r23 r24 r25 v19)) [0] rfl
    have hDc := hD.sub (ws' := (wd_171f232f h0 v0 r0 v1 v2 v3 v4 r1 r2 r3 r4 r5 r6 r7 v5 v6 r8 r9 r10 r11 v7 h1 r12 v8 v9 h2 r13 v10 v11 r14 v12 v13 r15 v14 y3 r16 v16 v17 r17 r18 r19 r20 r21 r22 v18 r23 r24 r25 v19)) [0] (by decide) rfl
    have hKc := hK.sub (tys' := []) [] rfl
    have hFc := va_free (wc := (wd_171f232f h0 v0 r0 v1 v2 v3 v4 r1 r2 r3 r4 r5 r6 r7 v5 v6 r8 r9 r10 r11 v7 h1 r12 v8 v9 h2 r13 v10 v11 r14 v12 v13 r15 v14 y3 r16 v16 v17 r17 r18 r19 r20 r21 r22 v18 r23 r24 r25 v19)) hD hS hA [0] rfl
    refine va_calli (va_runV (As := [.int 16]) (rest := []) ⟨hx, hb, hml, hown, hts⟩ (k_X12_draw_3 l dC dI h0 v0 r0 v1 v2 v3 v4 r1 r2 r3 r4 r5 r6 r7 v5 v6 r8 r9 r10 r11 v7 h1 r12 v8 v9 h2 r13 v10 v11 r14 v12 v13 r15 v14 y3 r16 v16 v17 r17 r18 r19 r20 r21 r22 v18 r23 r24 r25 v19 ⟨i_v1a, i_v1b⟩ ⟨i_v5a, i_v5b⟩ ⟨i_v6a, i_v6b⟩ ⟨i_v7a, i_v7b⟩ ⟨i_v8a, i_v8b⟩ ⟨i_v9a, i_v9b⟩ ⟨i_v10a, i_v10b⟩ ⟨i_v14a, i_v14b⟩ ⟨i_v18a, i_v18b⟩ ⟨i_v19a, i_v19b⟩ H.size) (cwV 1 hts g_X12_drawDay_1 rfl rfl rfl (by decide +kernel) ⟨Nat.le_of_ble_eq_true rfl, Nat.le_of_ble_eq_true rfl⟩) (pv_PV12 hPc hKc hDc (q0 := 0) rfl) rfl rfl hl.1 rfl (lv_room (Nat.le_of_ble_eq_true rfl)) dX12_drawDay_79 ⟨Nat.le_of_ble_eq_true rfl, Nat.le_of_ble_eq_true rfl⟩) hS (fun q _ h => hFc q h) hFc (fun ra6 u t H1 locs ht hvm hwra6 hB hz1 hk1 hS => ?_)
    try rw [hwra6] at hB
    obtain ⟨y7, pt0_ra6, pt1_ra6, hP1, hK1, hD1⟩ := hB
    rw [ht] at hP1
    obtain ⟨hP2, hD2⟩ := va_join (wr := (wd_a6050d9e h1 g0 f20 h2 g1 fn4)) (w1 := (wd_171f232f h0 v0 r0 v1 v2 v3 v4 r1 r2 r3 r4 r5 r6 r7 v5 v6 r8 r9 r10 r11 v7 h1 r12 v8 v9 h2 r13 v10 v11 r14 v12 v13 r15 v14 y7 r16 v16 v17 r17 r18 r19 r20 r21 r22 v18 r23 r24 r25 v19)) hP hD [0] [1, 2] rfl rfl (by decide) (by decide) hk1 hFc hP1 hD1
    clear hP hD hPc hDc hKc hFc hP1 hK1 hD1 hk1 hz1
    generalize H1 = H at hP2 hS ⊢
    have hP := hP2.sub (ws' := (wd_78675856 h0 v0 r0 v1 v2 v3 v4 r1 r2 r3 r4 r5 r6 r7 v5 v6 r8 r9 r10 r11 v7 h1 r12 v8 v9 h2 r13 v10 v11 r14 v12 v13 r15 v14 y7 r16 v16 v17 r17 r18 r19 r20 r21 r22 v18 r23 r24 r25 v19 h1 g0 f20 h2 g1 fn4)) [2, 0, 1] rfl
    have hD := hD2.sub (ws' := (wd_78675856 h0 v0 r0 v1 v2 v3 v4 r1 r2 r3 r4 r5 r6 r7 v5 v6 r8 r9 r10 r11 v7 h1 r12 v8 v9 h2 r13 v10 v11 r14 v12 v13 r15 v14 y7 r16 v16 v17 r17 r18 r19 r20 r21 r22 v18 r23 r24 r25 v19 h1 g0 f20 h2 g1 fn4)) [2, 0, 1] (by decide) rfl
    clear hP2 hD2
    refine lv_istore_n (lv' := [(1, .int ra6), (0, .ref h0)]) hx hb dX12_drawDay_82 rfl hl (by decide) rfl (fun ls hl => ?_)
    refine lv_aload_n hx hb dX12_drawDay_83 rfl (lv_at hl 1 rfl) ?_
    refine lv_iload_n hx hb dX12_drawDay_84 rfl (lv_at hl 0 rfl) ?_
    have hPc := hP.sub (ws' := (wd_5013416a h0 v0 r0 v1 v2 v3 v4 r1 r2 r3 r4 r5 r6 r7 v5 v6 r8 r9 r10 r11 v7 h1 r12 v8 v9 h2 r13 v10 v11 r14 v12 v13 r15 v14 y7 r16 v16 v17 r17 r18 r19 r20 r21 r22 v18 r23 r24 r25 v19 h2 g1 fn4)) [0, 2] rfl
    have hDc := hD.sub (ws' := (wd_5013416a h0 v0 r0 v1 v2 v3 v4 r1 r2 r3 r4 r5 r6 r7 v5 v6 r8 r9 r10 r11 v7 h1 r12 v8 v9 h2 r13 v10 v11 r14 v12 v13 r15 v14 y7 r16 v16 v17 r17 r18 r19 r20 r21 r22 v18 r23 r24 r25 v19 h2 g1 fn4)) [0, 2] (by decide) rfl
    have hKc := hK.sub (tys' := [(g1, .int)]) [1] rfl
    have hFc := va_free (wc := (wd_5013416a h0 v0 r0 v1 v2 v3 v4 r1 r2 r3 r4 r5 r6 r7 v5 v6 r8 r9 r10 r11 v7 h1 r12 v8 v9 h2 r13 v10 v11 r14 v12 v13 r15 v14 y7 r16 v16 v17 r17 r18 r19 r20 r21 r22 v18 r23 r24 r25 v19 h2 g1 fn4)) hD hS hA [0, 2] rfl
    refine va_calli (va_runV (As := [.int ra6]) (rest := []) ⟨hx, hb, hml, hown, hts⟩ (k_X12_isThere l dC dI h0 h2 v0 r0 v1 v2 v3 v4 r1 r2 r3 r4 r5 r6 r7 v5 v6 r8 r9 r10 r11 v7 h1 r12 v8 v9 r13 v10 v11 r14 v12 v13 r15 v14 y7 r16 v16 v17 r17 r18 r19 r20 r21 r22 v18 r23 r24 r25 v19 g1 fn4 ra6 ⟨i_v1a, i_v1b⟩ ⟨i_v5a, i_v5b⟩ ⟨i_v6a, i_v6b⟩ ⟨i_v7a, i_v7b⟩ ⟨i_v8a, i_v8b⟩ ⟨i_v9a, i_v9b⟩ ⟨i_v10a, i_v10b⟩ ⟨i_v14a, i_v14b⟩ ⟨i_v18a, i_v18b⟩ ⟨i_v19a, i_v19b⟩ ia_fn4.1 H.size) (cwV 1 hts g_X12_drawDay_2 rfl rfl rfl (by decide +kernel) ⟨Nat.le_of_ble_eq_true rfl, Nat.le_of_ble_eq_true rfl⟩) (pv_PV12 hPc hKc hDc (q0 := 0) rfl) rfl rfl hl.1 rfl (lv_room (Nat.le_of_ble_eq_true rfl)) dX12_drawDay_85 ⟨Nat.le_of_ble_eq_true rfl, Nat.le_of_ble_eq_true rfl⟩) hS (fun q _ h => hFc q h) hFc (fun ra8 u t H1 locs ht hvm hwra8 hB hz1 hk1 hS => ?_)
    try rw [hwra8] at hB
    obtain ⟨pt0_ra8, pt1_ra8, pt2_ra8, pt3_ra8, pt4_ra8, pt5_ra8, hP1, hK1, hD1⟩ := hB
    rw [ht] at hP1
    obtain ⟨hP2, hD2⟩ := va_join (wr := (wd_6f8f3203 h1 g0 f20)) (w1 := (wd_5013416a h0 v0 r0 v1 v2 v3 v4 r1 r2 r3 r4 r5 r6 r7 v5 v6 r8 r9 r10 r11 v7 h1 r12 v8 v9 h2 r13 v10 v11 r14 v12 v13 r15 v14 y7 r16 v16 v17 r17 r18 r19 r20 r21 r22 v18 r23 r24 r25 v19 h2 g1 fn4)) hP hD [0, 2] [1] rfl rfl (by decide) (by decide) hk1 hFc hP1 hD1
    clear hP hD hPc hDc hKc hFc hP1 hK1 hD1 hk1 hz1
    generalize H1 = H at hP2 hS ⊢
    have hP := hP2.sub (ws' := (wd_78675856 h0 v0 r0 v1 v2 v3 v4 r1 r2 r3 r4 r5 r6 r7 v5 v6 r8 r9 r10 r11 v7 h1 r12 v8 v9 h2 r13 v10 v11 r14 v12 v13 r15 v14 y7 r16 v16 v17 r17 r18 r19 r20 r21 r22 v18 r23 r24 r25 v19 h1 g0 f20 h2 g1 fn4)) [1, 0, 2] rfl
    have hD := hD2.sub (ws' := (wd_78675856 h0 v0 r0 v1 v2 v3 v4 r1 r2 r3 r4 r5 r6 r7 v5 v6 r8 r9 r10 r11 v7 h1 r12 v8 v9 h2 r13 v10 v11 r14 v12 v13 r15 v14 y7 r16 v16 v17 r17 r18 r19 r20 r21 r22 v18 r23 r24 r25 v19 h1 g0 f20 h2 g1 fn4)) [1, 0, 2] (by decide) rfl
    clear hP2 hD2
    have hJ10 : ∀ (fn9 : Nat → Int32) (H : Heap) (locs : List Loc) (ls : Array Slot), (pm_NW fn9) → va_P (dC, dI) vwCl (wd_78675856 h0 v0 r0 v1 v2 v3 v4 r1 r2 r3 r4 r5 r6 r7 v5 v6 r8 r9 r10 r11 v7 h1 r12 v8 v9 h2 r13 v10 v11 r14 v12 v13 r15 v14 y7 r16 v16 v17 r17 r18 r19 r20 r21 r22 v18 r23 r24 r25 v19 h1 g0 f20 h2 g1 fn9) H → va_D A (wd_78675856 h0 v0 r0 v1 v2 v3 v4 r1 r2 r3 r4 r5 r6 r7 v5 v6 r8 r9 r10 r11 v7 h1 r12 v8 v9 h2 r13 v10 v11 r14 v12 v13 r15 v14 y7 r16 v16 v17 r17 r18 r19 r20 r21 r22 v18 r23 r24 r25 v19 h1 g0 f20 h2 g1 fn9) → va_S A s.heap H locs → lv_has ls 5 [(1, .int ra6), (0, .ref h0)] → W p l e ({ frames := 4, cells := 0, slots := 0, locals := 89 }) s m ([.ref h0] : List Value).toArray below meth c H locs 0 0 Q (F0 m 97 ls []) := by
      intro fn9 H locs ls ia_fn9 hP hD hS hl
      subst hQ
      have hP9 := hP.sub (ws' := (wd_78675856 h0 v0 r0 v1 v2 v3 v4 r1 r2 r3 r4 r5 r6 r7 v5 v6 r8 r9 r10 r11 v7 h1 r12 v8 v9 h2 r13 v10 v11 r14 v12 v13 r15 v14 y7 r16 v16 v17 r17 r18 r19 r20 r21 r22 v18 r23 r24 r25 v19 h1 g0 f20 h2 g1 fn9)) [0, 1, 2] rfl
      have hD9 := hD.sub (ws' := (wd_78675856 h0 v0 r0 v1 v2 v3 v4 r1 r2 r3 r4 r5 r6 r7 v5 v6 r8 r9 r10 r11 v7 h1 r12 v8 v9 h2 r13 v10 v11 r14 v12 v13 r15 v14 y7 r16 v16 v17 r17 r18 r19 r20 r21 r22 v18 r23 r24 r25 v19 h1 g0 f20 h2 g1 fn9)) [0, 1, 2] (by decide) rfl
      have hK9 := hK.sub (tys' := []) [] rfl
      exact W.vret hx hb hr (fun t ht hW => ⟨⟨(), rfl, trivial, ⟨y7, fn9, ia_fn9, by rw [ht]; exact hP9, va_K.moved hW.alike hK9, hD9⟩⟩, hS.F ht⟩) hS.2.2 dX12_drawDay_97
    refine lv_if_eq (tgt := 97) hx hb dX12_drawDay_88 (by decide) (fun c11 => ?_) (fun c11 => ?_)
    · skip
      have fc11 : ra8.toInt = 0 := congrArg Int32.toInt c11
      exact hJ10 fn4 H locs ls ia_fn4 hP hD hS (lv_sub hl [0, 1] rfl)
    · skip
      have fc11 : ¬ (ra8.toInt = 0) := fun h9 => c11 (Int32.toInt_inj.mp h9)
      have q1pt4_ra8 := pt4_ra8 (by omega)
      refine lv_aload_n hx hb dX12_drawDay_91 rfl (lv_at hl 1 rfl) ?_
      refine lv_iload_n hx hb dX12_drawDay_92 rfl (lv_at hl 0 rfl) ?_
      have hPc := hP.sub (ws' := (wd_78675856 h0 v0 r0 v1 v2 v3 v4 r1 r2 r3 r4 r5 r6 r7 v5 v6 r8 r9 r10 r11 v7 h1 r12 v8 v9 h2 r13 v10 v11 r14 v12 v13 r15 v14 y7 r16 v16 v17 r17 r18 r19 r20 r21 r22 v18 r23 r24 r25 v19 h1 g0 f20 h2 g1 fn4)) [0, 1, 2] rfl
      have hDc := hD.sub (ws' := (wd_78675856 h0 v0 r0 v1 v2 v3 v4 r1 r2 r3 r4 r5 r6 r7 v5 v6 r8 r9 r10 r11 v7 h1 r12 v8 v9 h2 r13 v10 v11 r14 v12 v13 r15 v14 y7 r16 v16 v17 r17 r18 r19 r20 r21 r22 v18 r23 r24 r25 v19 h1 g0 f20 h2 g1 fn4)) [0, 1, 2] (by decide) rfl
      have hKc := hK.sub (tys' := [(g0, .int), (g1, .int)]) [0, 1] rfl
      have hFc := va_free (wc := (wd_78675856 h0 v0 r0 v1 v2 v3 v4 r1 r2 r3 r4 r5 r6 r7 v5 v6 r8 r9 r10 r11 v7 h1 r12 v8 v9 h2 r13 v10 v11 r14 v12 v13 r15 v14 y7 r16 v16 v17 r17 r18 r19 r20 r21 r22 v18 r23 r24 r25 v19 h1 g0 f20 h2 g1 fn4)) hD hS hA [0, 1, 2] rfl
      refine va_calli (va_runV (As := [.int ra6]) (rest := []) ⟨hx, hb, hml, hown, hts⟩ (k_X12_callNow l dC dI h0 h1 h2 v0 r0 v1 v2 v3 v4 r1 r2 r3 r4 r5 r6 r7 v5 v6 r8 r9 r10 r11 v7 r12 v8 v9 r13 v10 v11 r14 v12 v13 r15 v14 y7 r16 v16 v17 r17 r18 r19 r20 r21 r22 v18 r23 r24 r25 v19 g0 f20 g1 fn4 ra6 ⟨i_v1a, i_v1b⟩ ⟨i_v5a, i_v5b⟩ ⟨i_v6a, i_v6b⟩ ⟨i_v7a, i_v7b⟩ ⟨i_v8a, i_v8b⟩ ⟨i_v9a, i_v9b⟩ ⟨i_v10a, i_v10b⟩ ⟨i_v14a, i_v14b⟩ ⟨i_v18a, i_v18b⟩ ⟨i_v19a, i_v19b⟩ ⟨by first | omega | decide, by first | omega | decide⟩ ia_f20 ia_fn4 H.size) (cwV 1 hts g_X12_drawDay_3 rfl rfl rfl (by decide +kernel) ⟨Nat.le_of_ble_eq_true rfl, Nat.le_of_ble_eq_true rfl⟩) (pv_PV12 hPc hKc hDc (q0 := 0) rfl) rfl rfl hl.1 rfl (lv_room (Nat.le_of_ble_eq_true rfl)) dX12_drawDay_93 ⟨Nat.le_of_ble_eq_true rfl, Nat.le_of_ble_eq_true rfl⟩) hS (fun q _ h => hFc q h) hFc (fun ra12 u t H1 locs ht hvm hwra12 hB hz1 hk1 hS => ?_)
      try rw [hwra12] at hB
      obtain ⟨fn13, ia_fn13, hP1, hK1, hD1⟩ := hB
      rw [ht] at hP1
      obtain ⟨hP2, hD2⟩ := va_join (wr := []) (w1 := (wd_78675856 h0 v0 r0 v1 v2 v3 v4 r1 r2 r3 r4 r5 r6 r7 v5 v6 r8 r9 r10 r11 v7 h1 r12 v8 v9 h2 r13 v10 v11 r14 v12 v13 r15 v14 y7 r16 v16 v17 r17 r18 r19 r20 r21 r22 v18 r23 r24 r25 v19 h1 g0 f20 h2 g1 fn13)) hP hD [0, 1, 2] [] rfl rfl (by decide) (by decide) hk1 hFc hP1 hD1
      clear hP hD hPc hDc hKc hFc hP1 hK1 hD1 hk1 hz1
      generalize H1 = H at hP2 hS ⊢
      have hP : va_P (dC, dI) vwCl (wd_78675856 h0 v0 r0 v1 v2 v3 v4 r1 r2 r3 r4 r5 r6 r7 v5 v6 r8 r9 r10 r11 v7 h1 r12 v8 v9 h2 r13 v10 v11 r14 v12 v13 r15 v14 y7 r16 v16 v17 r17 r18 r19 r20 r21 r22 v18 r23 r24 r25 v19 h1 g0 f20 h2 g1 fn13) H := hP2
      have hD : va_D A (wd_78675856 h0 v0 r0 v1 v2 v3 v4 r1 r2 r3 r4 r5 r6 r7 v5 v6 r8 r9 r10 r11 v7 h1 r12 v8 v9 h2 r13 v10 v11 r14 v12 v13 r15 v14 y7 r16 v16 v17 r17 r18 r19 r20 r21 r22 v18 r23 r24 r25 v19 h1 g0 f20 h2 g1 fn13) := hD2
      clear hP2 hD2
      refine lv_pop hx hb dX12_drawDay_96 rfl ?_
      exact hJ10 fn13 H locs ls ia_fn13 hP hD hS (lv_sub hl [0, 1] rfl)
  refine lv_icmp_ge (tgt := 76) hx hb dX12_drawDay_10 (by decide) (fun c14 => ?_) (fun c14 => ?_)
  · skip
    have fc14 : v11.toInt ≤ ra1.toInt := Int32.le_iff_toInt_le.mp c14
    have r1c14 := Int32.toInt_lt ra1
    have r2c14 := Int32.toInt_lt v11
    have r3c14 := Int32.le_toInt ra1
    have r4c14 := Int32.le_toInt v11
    exact hJ5 y2 f21 H locs ls ia_f21 hP hD hS (lv_sub hl [0] rfl)
  · skip
    have fc14 : ¬ (v11.toInt ≤ ra1.toInt) := fun h9 => c14 (Int32.le_iff_toInt_le.mpr h9)
    have r1c14 := Int32.toInt_lt ra1
    have r2c14 := Int32.toInt_lt v11
    have r3c14 := Int32.le_toInt ra1
    have r4c14 := Int32.le_toInt v11
    refine lv_aload_n hx hb dX12_drawDay_13 rfl (lv_at hl 0 rfl) ?_
    refine lv_bipush (v := 9) hx hb dX12_drawDay_14 (by decide) ?_
    have hPc := hP.sub (ws' := (wd_171f232f h0 v0 r0 v1 v2 v3 v4 r1 r2 r3 r4 r5 r6 r7 v5 v6 r8 r9 r10 r11 v7 h1 r12 v8 v9 h2 r13 v10 v11 r14 v12 v13 r15 v14 y2 r16 v16 v17 r17 r18 r19 r20 r21 r22 v18 r23 r24 r25 v19)) [0] rfl
    have hDc := hD.sub (ws' := (wd_171f232f h0 v0 r0 v1 v2 v3 v4 r1 r2 r3 r4 r5 r6 r7 v5 v6 r8 r9 r10 r11 v7 h1 r12 v8 v9 h2 r13 v10 v11 r14 v12 v13 r15 v14 y2 r16 v16 v17 r17 r18 r19 r20 r21 r22 v18 r23 r24 r25 v19)) [0] (by decide) rfl
    have hKc := hK.sub (tys' := []) [] rfl
    have hFc := va_free (wc := (wd_171f232f h0 v0 r0 v1 v2 v3 v4 r1 r2 r3 r4 r5 r6 r7 v5 v6 r8 r9 r10 r11 v7 h1 r12 v8 v9 h2 r13 v10 v11 r14 v12 v13 r15 v14 y2 r16 v16 v17 r17 r18 r19 r20 r21 r22 v18 r23 r24 r25 v19)) hD hS hA [0] rfl
    refine va_calli (va_runV (As := [.int 9]) (rest := []) ⟨hx, hb, hml, hown, hts⟩ (k_X12_draw_1 l dC dI h0 v0 r0 v1 v2 v3 v4 r1 r2 r3 r4 r5 r6 r7 v5 v6 r8 r9 r10 r11 v7 h1 r12 v8 v9 h2 r13 v10 v11 r14 v12 v13 r15 v14 y2 r16 v16 v17 r17 r18 r19 r20 r21 r22 v18 r23 r24 r25 v19 ⟨i_v1a, i_v1b⟩ ⟨i_v5a, i_v5b⟩ ⟨i_v6a, i_v6b⟩ ⟨i_v7a, i_v7b⟩ ⟨i_v8a, i_v8b⟩ ⟨i_v9a, i_v9b⟩ ⟨i_v10a, i_v10b⟩ ⟨i_v14a, i_v14b⟩ ⟨i_v18a, i_v18b⟩ ⟨i_v19a, i_v19b⟩ H.size) (cwV 1 hts g_X12_drawDay_4 rfl rfl rfl (by decide +kernel) ⟨Nat.le_of_ble_eq_true rfl, Nat.le_of_ble_eq_true rfl⟩) (pv_PV12 hPc hKc hDc (q0 := 0) rfl) rfl rfl hl.1 rfl (lv_room (Nat.le_of_ble_eq_true rfl)) dX12_drawDay_16 ⟨Nat.le_of_ble_eq_true rfl, Nat.le_of_ble_eq_true rfl⟩) hS (fun q _ h => hFc q h) hFc (fun ra15 u t H1 locs ht hvm hwra15 hB hz1 hk1 hS => ?_)
    try rw [hwra15] at hB
    obtain ⟨y16, pt0_ra15, pt1_ra15, hP1, hK1, hD1⟩ := hB
    rw [ht] at hP1
    obtain ⟨hP2, hD2⟩ := va_join (wr := (wd_a6050d9e h1 g0 f20 h2 g1 f21)) (w1 := (wd_171f232f h0 v0 r0 v1 v2 v3 v4 r1 r2 r3 r4 r5 r6 r7 v5 v6 r8 r9 r10 r11 v7 h1 r12 v8 v9 h2 r13 v10 v11 r14 v12 v13 r15 v14 y16 r16 v16 v17 r17 r18 r19 r20 r21 r22 v18 r23 r24 r25 v19)) hP hD [0] [1, 2] rfl rfl (by decide) (by decide) hk1 hFc hP1 hD1
    clear hP hD hPc hDc hKc hFc hP1 hK1 hD1 hk1 hz1
    generalize H1 = H at hP2 hS ⊢
    have hP := hP2.sub (ws' := (wd_78675856 h0 v0 r0 v1 v2 v3 v4 r1 r2 r3 r4 r5 r6 r7 v5 v6 r8 r9 r10 r11 v7 h1 r12 v8 v9 h2 r13 v10 v11 r14 v12 v13 r15 v14 y16 r16 v16 v17 r17 r18 r19 r20 r21 r22 v18 r23 r24 r25 v19 h1 g0 f20 h2 g1 f21)) [2, 0, 1] rfl
    have hD := hD2.sub (ws' := (wd_78675856 h0 v0 r0 v1 v2 v3 v4 r1 r2 r3 r4 r5 r6 r7 v5 v6 r8 r9 r10 r11 v7 h1 r12 v8 v9 h2 r13 v10 v11 r14 v12 v13 r15 v14 y16 r16 v16 v17 r17 r18 r19 r20 r21 r22 v18 r23 r24 r25 v19 h1 g0 f20 h2 g1 f21)) [2, 0, 1] (by decide) rfl
    clear hP2 hD2
    refine lv_iconst (v := 1) hx hb dX12_drawDay_19 (by decide) ?_
    refine lv_iadd hx hb dX12_drawDay_20 ?_
    refine lv_topi (fun t17 et17 => ?_)
    have gt17 : t17.toInt = ra15.toInt + 1 := pv_add (a := ra15.toInt) (b := 1) et17 rfl (by decide) (by omega) (by omega)
    refine lv_istore_n (lv' := [(1, .int t17), (0, .ref h0)]) hx hb dX12_drawDay_21 rfl hl (by decide) rfl (fun ls hl => ?_)
    refine lv_aload_n hx hb dX12_drawDay_22 rfl (lv_at hl 1 rfl) ?_
    refine lv_bipush (v := 10) hx hb dX12_drawDay_23 (by decide) ?_
    have hPc := hP.sub (ws' := (wd_171f232f h0 v0 r0 v1 v2 v3 v4 r1 r2 r3 r4 r5 r6 r7 v5 v6 r8 r9 r10 r11 v7 h1 r12 v8 v9 h2 r13 v10 v11 r14 v12 v13 r15 v14 y16 r16 v16 v17 r17 r18 r19 r20 r21 r22 v18 r23 r24 r25 v19)) [0] rfl
    have hDc := hD.sub (ws' := (wd_171f232f h0 v0 r0 v1 v2 v3 v4 r1 r2 r3 r4 r5 r6 r7 v5 v6 r8 r9 r10 r11 v7 h1 r12 v8 v9 h2 r13 v10 v11 r14 v12 v13 r15 v14 y16 r16 v16 v17 r17 r18 r19 r20 r21 r22 v18 r23 r24 r25 v19)) [0] (by decide) rfl
    have hKc := hK.sub (tys' := []) [] rfl
    have hFc := va_free (wc := (wd_171f232f h0 v0 r0 v1 v2 v3 v4 r1 r2 r3 r4 r5 r6 r7 v5 v6 r8 r9 r10 r11 v7 h1 r12 v8 v9 h2 r13 v10 v11 r14 v12 v13 r15 v14 y16 r16 v16 v17 r17 r18 r19 r20 r21 r22 v18 r23 r24 r25 v19)) hD hS hA [0] rfl
    refine va_calli (va_runV (As := [.int 10]) (rest := []) ⟨hx, hb, hml, hown, hts⟩ (k_X12_draw l dC dI h0 v0 r0 v1 v2 v3 v4 r1 r2 r3 r4 r5 r6 r7 v5 v6 r8 r9 r10 r11 v7 h1 r12 v8 v9 h2 r13 v10 v11 r14 v12 v13 r15 v14 y16 r16 v16 v17 r17 r18 r19 r20 r21 r22 v18 r23 r24 r25 v19 ⟨i_v1a, i_v1b⟩ ⟨i_v5a, i_v5b⟩ ⟨i_v6a, i_v6b⟩ ⟨i_v7a, i_v7b⟩ ⟨i_v8a, i_v8b⟩ ⟨i_v9a, i_v9b⟩ ⟨i_v10a, i_v10b⟩ ⟨i_v14a, i_v14b⟩ ⟨i_v18a, i_v18b⟩ ⟨i_v19a, i_v19b⟩ H.size) (cwV 1 hts g_X12_drawDay_0 rfl rfl rfl (by decide +kernel) ⟨Nat.le_of_ble_eq_true rfl, Nat.le_of_ble_eq_true rfl⟩) (pv_PV12 hPc hKc hDc (q0 := 0) rfl) rfl rfl hl.1 rfl (lv_room (Nat.le_of_ble_eq_true rfl)) dX12_drawDay_25 ⟨Nat.le_of_ble_eq_true rfl, Nat.le_of_ble_eq_true rfl⟩) hS (fun q _ h => hFc q h) hFc (fun ra18 u t H1 locs ht hvm hwra18 hB hz1 hk1 hS => ?_)
    try rw [hwra18] at hB
    obtain ⟨y19, pt0_ra18, pt1_ra18, hP1, hK1, hD1⟩ := hB
    rw [ht] at hP1
    obtain ⟨hP2, hD2⟩ := va_join (wr := (wd_a6050d9e h1 g0 f20 h2 g1 f21)) (w1 := (wd_171f232f h0 v0 r0 v1 v2 v3 v4 r1 r2 r3 r4 r5 r6 r7 v5 v6 r8 r9 r10 r11 v7 h1 r12 v8 v9 h2 r13 v10 v11 r14 v12 v13 r15 v14 y19 r16 v16 v17 r17 r18 r19 r20 r21 r22 v18 r23 r24 r25 v19)) hP hD [0] [1, 2] rfl rfl (by decide) (by decide) hk1 hFc hP1 hD1
    clear hP hD hPc hDc hKc hFc hP1 hK1 hD1 hk1 hz1
    generalize H1 = H at hP2 hS ⊢
    have hP := hP2.sub (ws' := (wd_78675856 h0 v0 r0 v1 v2 v3 v4 r1 r2 r3 r4 r5 r6 r7 v5 v6 r8 r9 r10 r11 v7 h1 r12 v8 v9 h2 r13 v10 v11 r14 v12 v13 r15 v14 y19 r16 v16 v17 r17 r18 r19 r20 r21 r22 v18 r23 r24 r25 v19 h1 g0 f20 h2 g1 f21)) [2, 0, 1] rfl
    have hD := hD2.sub (ws' := (wd_78675856 h0 v0 r0 v1 v2 v3 v4 r1 r2 r3 r4 r5 r6 r7 v5 v6 r8 r9 r10 r11 v7 h1 r12 v8 v9 h2 r13 v10 v11 r14 v12 v13 r15 v14 y19 r16 v16 v17 r17 r18 r19 r20 r21 r22 v18 r23 r24 r25 v19 h1 g0 f20 h2 g1 f21)) [2, 0, 1] (by decide) rfl
    clear hP2 hD2
    refine lv_istore_n (lv' := [(2, .int ra18), (1, .int t17), (0, .ref h0)]) hx hb dX12_drawDay_28 rfl hl (by decide) rfl (fun ls hl => ?_)
    refine lv_aload_n hx hb dX12_drawDay_29 rfl (lv_at hl 2 rfl) ?_
    refine lv_bipush (v := 10) hx hb dX12_drawDay_30 (by decide) ?_
    have hPc := hP.sub (ws' := (wd_171f232f h0 v0 r0 v1 v2 v3 v4 r1 r2 r3 r4 r5 r6 r7 v5 v6 r8 r9 r10 r11 v7 h1 r12 v8 v9 h2 r13 v10 v11 r14 v12 v13 r15 v14 y19 r16 v16 v17 r17 r18 r19 r20 r21 r22 v18 r23 r24 r25 v19)) [0] rfl
    have hDc := hD.sub (ws' := (wd_171f232f h0 v0 r0 v1 v2 v3 v4 r1 r2 r3 r4 r5 r6 r7 v5 v6 r8 r9 r10 r11 v7 h1 r12 v8 v9 h2 r13 v10 v11 r14 v12 v13 r15 v14 y19 r16 v16 v17 r17 r18 r19 r20 r21 r22 v18 r23 r24 r25 v19)) [0] (by decide) rfl
    have hKc := hK.sub (tys' := []) [] rfl
    have hFc := va_free (wc := (wd_171f232f h0 v0 r0 v1 v2 v3 v4 r1 r2 r3 r4 r5 r6 r7 v5 v6 r8 r9 r10 r11 v7 h1 r12 v8 v9 h2 r13 v10 v11 r14 v12 v13 r15 v14 y19 r16 v16 v17 r17 r18 r19 r20 r21 r22 v18 r23 r24 r25 v19)) hD hS hA [0] rfl
    refine va_calli (va_runV (As := [.int 10]) (rest := []) ⟨hx, hb, hml, hown, hts⟩ (k_X12_draw l dC dI h0 v0 r0 v1 v2 v3 v4 r1 r2 r3 r4 r5 r6 r7 v5 v6 r8 r9 r10 r11 v7 h1 r12 v8 v9 h2 r13 v10 v11 r14 v12 v13 r15 v14 y19 r16 v16 v17 r17 r18 r19 r20 r21 r22 v18 r23 r24 r25 v19 ⟨i_v1a, i_v1b⟩ ⟨i_v5a, i_v5b⟩ ⟨i_v6a, i_v6b⟩ ⟨i_v7a, i_v7b⟩ ⟨i_v8a, i_v8b⟩ ⟨i_v9a, i_v9b⟩ ⟨i_v10a, i_v10b⟩ ⟨i_v14a, i_v14b⟩ ⟨i_v18a, i_v18b⟩ ⟨i_v19a, i_v19b⟩ H.size) (cwV 1 hts g_X12_drawDay_0 rfl rfl rfl (by decide +kernel) ⟨Nat.le_of_ble_eq_true rfl, Nat.le_of_ble_eq_true rfl⟩) (pv_PV12 hPc hKc hDc (q0 := 0) rfl) rfl rfl hl.1 rfl (lv_room (Nat.le_of_ble_eq_true rfl)) dX12_drawDay_32 ⟨Nat.le_of_ble_eq_true rfl, Nat.le_of_ble_eq_true rfl⟩) hS (fun q _ h => hFc q h) hFc (fun ra20 u t H1 locs ht hvm hwra20 hB hz1 hk1 hS => ?_)
    try rw [hwra20] at hB
    obtain ⟨y21, pt0_ra20, pt1_ra20, hP1, hK1, hD1⟩ := hB
    rw [ht] at hP1
    obtain ⟨hP2, hD2⟩ := va_join (wr := (wd_a6050d9e h1 g0 f20 h2 g1 f21)) (w1 := (wd_171f232f h0 v0 r0 v1 v2 v3 v4 r1 r2 r3 r4 r5 r6 r7 v5 v6 r8 r9 r10 r11 v7 h1 r12 v8 v9 h2 r13 v10 v11 r14 v12 v13 r15 v14 y21 r16 v16 v17 r17 r18 r19 r20 r21 r22 v18 r23 r24 r25 v19)) hP hD [0] [1, 2] rfl rfl (by decide) (by decide) hk1 hFc hP1 hD1
    clear hP hD hPc hDc hKc hFc hP1 hK1 hD1 hk1 hz1
    generalize H1 = H at hP2 hS ⊢
    have hP := hP2.sub (ws' := (wd_78675856 h0 v0 r0 v1 v2 v3 v4 r1 r2 r3 r4 r5 r6 r7 v5 v6 r8 r9 r10 r11 v7 h1 r12 v8 v9 h2 r13 v10 v11 r14 v12 v13 r15 v14 y21 r16 v16 v17 r17 r18 r19 r20 r21 r22 v18 r23 r24 r25 v19 h1 g0 f20 h2 g1 f21)) [2, 0, 1] rfl
    have hD := hD2.sub (ws' := (wd_78675856 h0 v0 r0 v1 v2 v3 v4 r1 r2 r3 r4 r5 r6 r7 v5 v6 r8 r9 r10 r11 v7 h1 r12 v8 v9 h2 r13 v10 v11 r14 v12 v13 r15 v14 y21 r16 v16 v17 r17 r18 r19 r20 r21 r22 v18 r23 r24 r25 v19 h1 g0 f20 h2 g1 f21)) [2, 0, 1] (by decide) rfl
    clear hP2 hD2
    refine lv_istore_n (lv' := [(3, .int ra20), (2, .int ra18), (1, .int t17), (0, .ref h0)]) hx hb dX12_drawDay_35 rfl hl (by decide) rfl (fun ls hl => ?_)
    refine lv_aload_n hx hb dX12_drawDay_36 rfl (lv_at hl 3 rfl) ?_
    refine lv_aload_n hx hb dX12_drawDay_37 rfl (lv_at hl 3 rfl) ?_
    refine va_get (D := (dC, dI)) (ci := 12) (v := .ref h1) (C := RX12) (T := TX12) (N := 48) hx hb hts (fun _ h => List.mem_cons_of_mem _ (List.mem_append_right _ h)) hown hK hP 0 rfl rfl 20 (by decide) (hts (.fieldLink RX12 46 "LeftArgumentsModel" "rule" "[I") (List.mem_cons_of_mem _ (List.mem_append_left _ (List.mem_of_getElem? (i := 22) rfl)))) (fun _ h9 => h9) rfl dX12_drawDay_38 ?_
    refine lv_iconst (v := 1) hx hb dX12_drawDay_41 (by decide) ?_
    refine va_iald hx hb hK hP 1 0 rfl rfl (pv_c (x := 1) (n := 4) (by decide)) dX12_drawDay_42 ?_
    refine lv_topi (fun t22 et22 => ?_)
    have gat22 : 0 ≤ t22.toInt ∧ t22.toInt ≤ 5 := by rw [et22]; exact ia_f20.1
    have gat22 : 1 ≤ t22.toInt ∧ t22.toInt ≤ 5 := by rw [et22]; exact ⟨pp0, ia_f20.1.2⟩
    have hPc := hP.sub (ws' := (wd_171f232f h0 v0 r0 v1 v2 v3 v4 r1 r2 r3 r4 r5 r6 r7 v5 v6 r8 r9 r10 r11 v7 h1 r12 v8 v9 h2 r13 v10 v11 r14 v12 v13 r15 v14 y21 r16 v16 v17 r17 r18 r19 r20 r21 r22 v18 r23 r24 r25 v19)) [0] rfl
    have hDc := hD.sub (ws' := (wd_171f232f h0 v0 r0 v1 v2 v3 v4 r1 r2 r3 r4 r5 r6 r7 v5 v6 r8 r9 r10 r11 v7 h1 r12 v8 v9 h2 r13 v10 v11 r14 v12 v13 r15 v14 y21 r16 v16 v17 r17 r18 r19 r20 r21 r22 v18 r23 r24 r25 v19)) [0] (by decide) rfl
    have hKc := hK.sub (tys' := []) [] rfl
    have hFc := va_free (wc := (wd_171f232f h0 v0 r0 v1 v2 v3 v4 r1 r2 r3 r4 r5 r6 r7 v5 v6 r8 r9 r10 r11 v7 h1 r12 v8 v9 h2 r13 v10 v11 r14 v12 v13 r15 v14 y21 r16 v16 v17 r17 r18 r19 r20 r21 r22 v18 r23 r24 r25 v19)) hD hS hA [0] rfl
    refine va_calli (va_runV (As := [.int t22]) (rest := []) ⟨hx, hb, hml, hown, hts⟩ (k_X12_draw_2 l dC dI h0 v0 r0 v1 v2 v3 v4 r1 r2 r3 r4 r5 r6 r7 v5 v6 r8 r9 r10 r11 v7 h1 r12 v8 v9 h2 r13 v10 v11 r14 v12 v13 r15 v14 y21 r16 v16 v17 r17 r18 r19 r20 r21 r22 v18 r23 r24 r25 v19 t22 ⟨i_v1a, i_v1b⟩ ⟨i_v5a, i_v5b⟩ ⟨i_v6a, i_v6b⟩ ⟨i_v7a, i_v7b⟩ ⟨i_v8a, i_v8b⟩ ⟨i_v9a, i_v9b⟩ ⟨i_v10a, i_v10b⟩ ⟨i_v14a, i_v14b⟩ ⟨i_v18a, i_v18b⟩ ⟨i_v19a, i_v19b⟩ ⟨by first | omega | decide, by first | omega | decide⟩ H.size) (cwV 1 hts g_X12_drawDay_7 rfl rfl rfl (by decide +kernel) ⟨Nat.le_of_ble_eq_true rfl, Nat.le_of_ble_eq_true rfl⟩) (pv_PV12 hPc hKc hDc (q0 := 0) rfl) rfl rfl hl.1 rfl (lv_room (Nat.le_of_ble_eq_true rfl)) dX12_drawDay_43 ⟨Nat.le_of_ble_eq_true rfl, Nat.le_of_ble_eq_true rfl⟩) hS (fun q _ h => hFc q h) hFc (fun ra23 u t H1 locs ht hvm hwra23 hB hz1 hk1 hS => ?_)
    try rw [hwra23] at hB
    obtain ⟨y24, pt0_ra23, pt1_ra23, hP1, hK1, hD1⟩ := hB
    rw [ht] at hP1
    obtain ⟨hP2, hD2⟩ := va_join (wr := (wd_a6050d9e h1 g0 f20 h2 g1 f21)) (w1 := (wd_171f232f h0 v0 r0 v1 v2 v3 v4 r1 r2 r3 r4 r5 r6 r7 v5 v6 r8 r9 r10 r11 v7 h1 r12 v8 v9 h2 r13 v10 v11 r14 v12 v13 r15 v14 y24 r16 v16 v17 r17 r18 r19 r20 r21 r22 v18 r23 r24 r25 v19)) hP hD [0] [1, 2] rfl rfl (by decide) (by decide) hk1 hFc hP1 hD1
    clear hP hD hPc hDc hKc hFc hP1 hK1 hD1 hk1 hz1
    generalize H1 = H at hP2 hS ⊢
    have hP := hP2.sub (ws' := (wd_78675856 h0 v0 r0 v1 v2 v3 v4 r1 r2 r3 r4 r5 r6 r7 v5 v6 r8 r9 r10 r11 v7 h1 r12 v8 v9 h2 r13 v10 v11 r14 v12 v13 r15 v14 y24 r16 v16 v17 r17 r18 r19 r20 r21 r22 v18 r23 r24 r25 v19 h1 g0 f20 h2 g1 f21)) [2, 0, 1] rfl
    have hD := hD2.sub (ws' := (wd_78675856 h0 v0 r0 v1 v2 v3 v4 r1 r2 r3 r4 r5 r6 r7 v5 v6 r8 r9 r10 r11 v7 h1 r12 v8 v9 h2 r13 v10 v11 r14 v12 v13 r15 v14 y24 r16 v16 v17 r17 r18 r19 r20 r21 r22 v18 r23 r24 r25 v19 h1 g0 f20 h2 g1 f21)) [2, 0, 1] (by decide) rfl
    clear hP2 hD2
    refine lv_istore (lv' := [(4, .int ra23), (3, .int ra20), (2, .int ra18), (1, .int t17), (0, .ref h0)]) hx hb dX12_drawDay_46 hl (by decide) rfl (fun ls hl => ?_)
    refine lv_aload_n hx hb dX12_drawDay_48 rfl (lv_at hl 4 rfl) ?_
    refine lv_iload hx hb dX12_drawDay_49 (lv_at hl 0 rfl) ?_
    refine lv_iload_n hx hb dX12_drawDay_51 rfl (lv_at hl 3 rfl) ?_
    have hPc := hP.sub (ws' := (wd_78675856 h0 v0 r0 v1 v2 v3 v4 r1 r2 r3 r4 r5 r6 r7 v5 v6 r8 r9 r10 r11 v7 h1 r12 v8 v9 h2 r13 v10 v11 r14 v12 v13 r15 v14 y24 r16 v16 v17 r17 r18 r19 r20 r21 r22 v18 r23 r24 r25 v19 h1 g0 f20 h2 g1 f21)) [0, 1, 2] rfl
    have hDc := hD.sub (ws' := (wd_78675856 h0 v0 r0 v1 v2 v3 v4 r1 r2 r3 r4 r5 r6 r7 v5 v6 r8 r9 r10 r11 v7 h1 r12 v8 v9 h2 r13 v10 v11 r14 v12 v13 r15 v14 y24 r16 v16 v17 r17 r18 r19 r20 r21 r22 v18 r23 r24 r25 v19 h1 g0 f20 h2 g1 f21)) [0, 1, 2] (by decide) rfl
    have hKc := hK.sub (tys' := [(g0, .int), (g1, .int)]) [0, 1] rfl
    have hFc := va_free (wc := (wd_78675856 h0 v0 r0 v1 v2 v3 v4 r1 r2 r3 r4 r5 r6 r7 v5 v6 r8 r9 r10 r11 v7 h1 r12 v8 v9 h2 r13 v10 v11 r14 v12 v13 r15 v14 y24 r16 v16 v17 r17 r18 r19 r20 r21 r22 v18 r23 r24 r25 v19 h1 g0 f20 h2 g1 f21)) hD hS hA [0, 1, 2] rfl
    refine va_calli (va_runV (As := [.int ra23, .int t17]) (rest := []) ⟨hx, hb, hml, hown, hts⟩ (k_X12_does l dC dI h0 h1 h2 v0 r0 v1 v2 v3 v4 r1 r2 r3 r4 r5 r6 r7 v5 v6 r8 r9 r10 r11 v7 r12 v8 v9 r13 v10 v11 r14 v12 v13 r15 v14 y24 r16 v16 v17 r17 r18 r19 r20 r21 r22 v18 r23 r24 r25 v19 g0 f20 g1 f21 ra23 t17 ⟨i_v1a, i_v1b⟩ ⟨i_v5a, i_v5b⟩ ⟨i_v6a, i_v6b⟩ ⟨i_v7a, i_v7b⟩ ⟨i_v8a, i_v8b⟩ ⟨i_v9a, i_v9b⟩ ⟨i_v10a, i_v10b⟩ ⟨i_v14a, i_v14b⟩ ⟨i_v18a, i_v18b⟩ ⟨i_v19a, i_v19b⟩ ia_f20 ia_f21 H.size) (cwV 2 hts g_X12_drawDay_8 rfl rfl rfl (by decide +kernel) ⟨Nat.le_of_ble_eq_true rfl, Nat.le_of_ble_eq_true rfl⟩) (pv_PV12 hPc hKc hDc (q0 := 0) rfl) rfl rfl hl.1 rfl (lv_room (Nat.le_of_ble_eq_true rfl)) dX12_drawDay_52 ⟨Nat.le_of_ble_eq_true rfl, Nat.le_of_ble_eq_true rfl⟩) hS (fun q _ h => hFc q h) hFc (fun ra25 u t H1 locs ht hvm hwra25 hB hz1 hk1 hS => ?_)
    try rw [hwra25] at hB
    obtain ⟨pt0_ra25, pt1_ra25, hP1, hK1, hD1⟩ := hB
    rw [ht] at hP1
    obtain ⟨hP2, hD2⟩ := va_join (wr := []) (w1 := (wd_78675856 h0 v0 r0 v1 v2 v3 v4 r1 r2 r3 r4 r5 r6 r7 v5 v6 r8 r9 r10 r11 v7 h1 r12 v8 v9 h2 r13 v10 v11 r14 v12 v13 r15 v14 y24 r16 v16 v17 r17 r18 r19 r20 r21 r22 v18 r23 r24 r25 v19 h1 g0 f20 h2 g1 f21)) hP hD [0, 1, 2] [] rfl rfl (by decide) (by decide) hk1 hFc hP1 hD1
    clear hP hD hPc hDc hKc hFc hP1 hK1 hD1 hk1 hz1
    generalize H1 = H at hP2 hS ⊢
    have hP : va_P (dC, dI) vwCl (wd_78675856 h0 v0 r0 v1 v2 v3 v4 r1 r2 r3 r4 r5 r6 r7 v5 v6 r8 r9 r10 r11 v7 h1 r12 v8 v9 h2 r13 v10 v11 r14 v12 v13 r15 v14 y24 r16 v16 v17 r17 r18 r19 r20 r21 r22 v18 r23 r24 r25 v19 h1 g0 f20 h2 g1 f21) H := hP2
    have hD : va_D A (wd_78675856 h0 v0 r0 v1 v2 v3 v4 r1 r2 r3 r4 r5 r6 r7 v5 v6 r8 r9 r10 r11 v7 h1 r12 v8 v9 h2 r13 v10 v11 r14 v12 v13 r15 v14 y24 r16 v16 v17 r17 r18 r19 r20 r21 r22 v18 r23 r24 r25 v19 h1 g0 f20 h2 g1 f21) := hD2
    clear hP2 hD2
    refine lv_if_eq (tgt := 76) hx hb dX12_drawDay_55 (by decide) (fun c26 => ?_) (fun c26 => ?_)
    · skip
      have fc26 : ra25.toInt = 0 := congrArg Int32.toInt c26
      exact hJ5 y24 f21 H locs ls ia_f21 hP hD hS (lv_sub hl [4] rfl)
    · skip
      have fc26 : ¬ (ra25.toInt = 0) := fun h9 => c26 (Int32.toInt_inj.mp h9)
      refine lv_aload_n hx hb dX12_drawDay_58 rfl (lv_at hl 4 rfl) ?_
      have hPc := hP.sub (ws' := (wd_5013416a h0 v0 r0 v1 v2 v3 v4 r1 r2 r3 r4 r5 r6 r7 v5 v6 r8 r9 r10 r11 v7 h1 r12 v8 v9 h2 r13 v10 v11 r14 v12 v13 r15 v14 y24 r16 v16 v17 r17 r18 r19 r20 r21 r22 v18 r23 r24 r25 v19 h2 g1 f21)) [0, 2] rfl
      have hDc := hD.sub (ws' := (wd_5013416a h0 v0 r0 v1 v2 v3 v4 r1 r2 r3 r4 r5 r6 r7 v5 v6 r8 r9 r10 r11 v7 h1 r12 v8 v9 h2 r13 v10 v11 r14 v12 v13 r15 v14 y24 r16 v16 v17 r17 r18 r19 r20 r21 r22 v18 r23 r24 r25 v19 h2 g1 f21)) [0, 2] (by decide) rfl
      have hKc := hK.sub (tys' := [(g1, .int)]) [1] rfl
      have hFc := va_free (wc := (wd_5013416a h0 v0 r0 v1 v2 v3 v4 r1 r2 r3 r4 r5 r6 r7 v5 v6 r8 r9 r10 r11 v7 h1 r12 v8 v9 h2 r13 v10 v11 r14 v12 v13 r15 v14 y24 r16 v16 v17 r17 r18 r19 r20 r21 r22 v18 r23 r24 r25 v19 h2 g1 f21)) hD hS hA [0, 2] rfl
      refine va_calli (va_runV (As := []) (rest := []) ⟨hx, hb, hml, hown, hts⟩ (k_X12_freePlace l dC dI h0 h2 v0 r0 v1 v2 v3 v4 r1 r2 r3 r4 r5 r6 r7 v5 v6 r8 r9 r10 r11 v7 h1 r12 v8 v9 r13 v10 v11 r14 v12 v13 r15 v14 y24 r16 v16 v17 r17 r18 r19 r20 r21 r22 v18 r23 r24 r25 v19 g1 f21 ⟨i_v1a, i_v1b⟩ ⟨i_v5a, i_v5b⟩ ⟨i_v6a, i_v6b⟩ ⟨i_v7a, i_v7b⟩ ⟨i_v8a, i_v8b⟩ ⟨i_v9a, i_v9b⟩ ⟨i_v10a, i_v10b⟩ ⟨i_v14a, i_v14b⟩ ⟨i_v18a, i_v18b⟩ ⟨i_v19a, i_v19b⟩ ia_f21 H.size) (cwV 0 hts g_X12_drawDay_9 rfl rfl rfl (by decide +kernel) ⟨Nat.le_of_ble_eq_true rfl, Nat.le_of_ble_eq_true rfl⟩) (pv_PV12 hPc hKc hDc (q0 := 0) rfl) rfl rfl hl.1 rfl (lv_room (Nat.le_of_ble_eq_true rfl)) dX12_drawDay_59 ⟨Nat.le_of_ble_eq_true rfl, Nat.le_of_ble_eq_true rfl⟩) hS (fun q _ h => hFc q h) hFc (fun ra27 u t H1 locs ht hvm hwra27 hB hz1 hk1 hS => ?_)
      try rw [hwra27] at hB
      obtain ⟨pt0_ra27, pt1_ra27, pt2_ra27, pt3_ra27, hP1, hK1, hD1⟩ := hB
      rw [ht] at hP1
      obtain ⟨hP2, hD2⟩ := va_join (wr := (wd_6f8f3203 h1 g0 f20)) (w1 := (wd_5013416a h0 v0 r0 v1 v2 v3 v4 r1 r2 r3 r4 r5 r6 r7 v5 v6 r8 r9 r10 r11 v7 h1 r12 v8 v9 h2 r13 v10 v11 r14 v12 v13 r15 v14 y24 r16 v16 v17 r17 r18 r19 r20 r21 r22 v18 r23 r24 r25 v19 h2 g1 f21)) hP hD [0, 2] [1] rfl rfl (by decide) (by decide) hk1 hFc hP1 hD1
      clear hP hD hPc hDc hKc hFc hP1 hK1 hD1 hk1 hz1
      generalize H1 = H at hP2 hS ⊢
      have hP := hP2.sub (ws' := (wd_78675856 h0 v0 r0 v1 v2 v3 v4 r1 r2 r3 r4 r5 r6 r7 v5 v6 r8 r9 r10 r11 v7 h1 r12 v8 v9 h2 r13 v10 v11 r14 v12 v13 r15 v14 y24 r16 v16 v17 r17 r18 r19 r20 r21 r22 v18 r23 r24 r25 v19 h1 g0 f20 h2 g1 f21)) [1, 0, 2] rfl
      have hD := hD2.sub (ws' := (wd_78675856 h0 v0 r0 v1 v2 v3 v4 r1 r2 r3 r4 r5 r6 r7 v5 v6 r8 r9 r10 r11 v7 h1 r12 v8 v9 h2 r13 v10 v11 r14 v12 v13 r15 v14 y24 r16 v16 v17 r17 r18 r19 r20 r21 r22 v18 r23 r24 r25 v19 h1 g0 f20 h2 g1 f21)) [1, 0, 2] (by decide) rfl
      clear hP2 hD2
      refine lv_iconst (v := (-1)) hx hb dX12_drawDay_62 (by decide) ?_
      refine lv_icmp_eq (tgt := 76) hx hb dX12_drawDay_63 (by decide) (fun c28 => ?_) (fun c28 => ?_)
      · skip
        have fc28 : ra27.toInt = (-1) := congrArg Int32.toInt c28
        exact hJ5 y24 f21 H locs ls ia_f21 hP hD hS (lv_sub hl [4] rfl)
      · skip
        have fc28 : ¬ (ra27.toInt = (-1)) := fun h9 => c28 (Int32.toInt_inj.mp h9)
        refine lv_aload_n hx hb dX12_drawDay_66 rfl (lv_at hl 4 rfl) ?_
        refine lv_iload_n hx hb dX12_drawDay_67 rfl (lv_at hl 3 rfl) ?_
        refine lv_iload_n hx hb dX12_drawDay_68 rfl (lv_at hl 2 rfl) ?_
        refine lv_iload_n hx hb dX12_drawDay_69 rfl (lv_at hl 1 rfl) ?_
        refine lv_iload hx hb dX12_drawDay_70 (lv_at hl 0 rfl) ?_
        have hPc := hP.sub (ws' := (wd_5013416a h0 v0 r0 v1 v2 v3 v4 r1 r2 r3 r4 r5 r6 r7 v5 v6 r8 r9 r10 r11 v7 h1 r12 v8 v9 h2 r13 v10 v11 r14 v12 v13 r15 v14 y24 r16 v16 v17 r17 r18 r19 r20 r21 r22 v18 r23 r24 r25 v19 h2 g1 f21)) [0, 2] rfl
        have hDc := hD.sub (ws' := (wd_5013416a h0 v0 r0 v1 v2 v3 v4 r1 r2 r3 r4 r5 r6 r7 v5 v6 r8 r9 r10 r11 v7 h1 r12 v8 v9 h2 r13 v10 v11 r14 v12 v13 r15 v14 y24 r16 v16 v17 r17 r18 r19 r20 r21 r22 v18 r23 r24 r25 v19 h2 g1 f21)) [0, 2] (by decide) rfl
        have hKc := hK.sub (tys' := [(g1, .int)]) [1] rfl
        have hFc := va_free (wc := (wd_5013416a h0 v0 r0 v1 v2 v3 v4 r1 r2 r3 r4 r5 r6 r7 v5 v6 r8 r9 r10 r11 v7 h1 r12 v8 v9 h2 r13 v10 v11 r14 v12 v13 r15 v14 y24 r16 v16 v17 r17 r18 r19 r20 r21 r22 v18 r23 r24 r25 v19 h2 g1 f21)) hD hS hA [0, 2] rfl
        refine va_calli (va_runV (As := [.int t17, .int ra18, .int ra20, .int ra23]) (rest := []) ⟨hx, hb, hml, hown, hts⟩ (k_X12_leaveNow l dC dI h0 h2 v0 r0 v1 v2 v3 v4 r1 r2 r3 r4 r5 r6 r7 v5 v6 r8 r9 r10 r11 v7 h1 r12 v8 v9 r13 v10 v11 r14 v12 v13 r15 v14 y24 r16 v16 v17 r17 r18 r19 r20 r21 r22 v18 r23 r24 r25 v19 g1 f21 t17 ra18 ra20 ra23 ⟨i_v1a, i_v1b⟩ ⟨i_v5a, i_v5b⟩ ⟨i_v6a, i_v6b⟩ ⟨i_v7a, i_v7b⟩ ⟨i_v8a, i_v8b⟩ ⟨i_v9a, i_v9b⟩ ⟨i_v10a, i_v10b⟩ ⟨i_v14a, i_v14b⟩ ⟨i_v18a, i_v18b⟩ ⟨i_v19a, i_v19b⟩ ⟨by first | omega | decide, by first | omega | decide⟩ ia_f21 (by exact (by assumption : _ → pm_free _) (by omega)) H.size) (cwV 4 hts g_X12_drawDay_10 rfl rfl rfl (by decide +kernel) ⟨Nat.le_of_ble_eq_true rfl, Nat.le_of_ble_eq_true rfl⟩) (pv_PV12 hPc hKc hDc (q0 := 0) rfl) rfl rfl hl.1 rfl (lv_room (Nat.le_of_ble_eq_true rfl)) dX12_drawDay_72 ⟨Nat.le_of_ble_eq_true rfl, Nat.le_of_ble_eq_true rfl⟩) hS (fun q _ h => hFc q h) hFc (fun ra29 u t H1 locs ht hvm hwra29 hB hz1 hk1 hS => ?_)
        try rw [hwra29] at hB
        obtain ⟨fn30, ia_fn30, pt0_ra29, pt1_ra29, hP1, hK1, hD1⟩ := hB
        rw [ht] at hP1
        obtain ⟨hP2, hD2⟩ := va_join (wr := (wd_6f8f3203 h1 g0 f20)) (w1 := (wd_5013416a h0 v0 r0 v1 v2 v3 v4 r1 r2 r3 r4 r5 r6 r7 v5 v6 r8 r9 r10 r11 v7 h1 r12 v8 v9 h2 r13 v10 v11 r14 v12 v13 r15 v14 y24 r16 v16 v17 r17 r18 r19 r20 r21 r22 v18 r23 r24 r25 v19 h2 g1 fn30)) hP hD [0, 2] [1] rfl rfl (by decide) (by decide) hk1 hFc hP1 hD1
        clear hP hD hPc hDc hKc hFc hP1 hK1 hD1 hk1 hz1
        generalize H1 = H at hP2 hS ⊢
        have hP := hP2.sub (ws' := (wd_78675856 h0 v0 r0 v1 v2 v3 v4 r1 r2 r3 r4 r5 r6 r7 v5 v6 r8 r9 r10 r11 v7 h1 r12 v8 v9 h2 r13 v10 v11 r14 v12 v13 r15 v14 y24 r16 v16 v17 r17 r18 r19 r20 r21 r22 v18 r23 r24 r25 v19 h1 g0 f20 h2 g1 fn30)) [1, 0, 2] rfl
        have hD := hD2.sub (ws' := (wd_78675856 h0 v0 r0 v1 v2 v3 v4 r1 r2 r3 r4 r5 r6 r7 v5 v6 r8 r9 r10 r11 v7 h1 r12 v8 v9 h2 r13 v10 v11 r14 v12 v13 r15 v14 y24 r16 v16 v17 r17 r18 r19 r20 r21 r22 v18 r23 r24 r25 v19 h1 g0 f20 h2 g1 fn30)) [1, 0, 2] (by decide) rfl
        clear hP2 hD2
        refine lv_pop hx hb dX12_drawDay_75 rfl ?_
        exact hJ5 y24 fn30 H locs ls ia_fn30 hP hD hS (lv_sub hl [4] rfl)
def q_X12_years : List Cond := .code yX12_years cX12_years 5 (some .int) :: (([.fieldLink RX12 262 "LeftArgumentsModel" "isOffice" "Z", .code yX12_areDays cX12_areDays 2 (some .boolean), .code yX12_in cX12_in 3 (some .boolean), .initialized RX12, .static yX12_in, .methodLink RX12 217 yX12_in, .fieldLink RX12 52 "LeftArgumentsModel" "now" "[I", .instanceMethod yX12_areDays, .selects RX12 yX12_areDays yX12_areDays, .methodLink RX12 336 yX12_areDays, .fieldLink RX12 361 "LeftArgumentsModel" "draws" "J", .code yX12_keep cX12_keep 2 none, .fieldLink RX12 275 "LeftArgumentsModel" "acts" "I", .fieldLink RX12 68 "LeftArgumentsModel" "kept" "[I", .instanceMethod yX12_keep, .selects RX12 yX12_keep yX12_keep, .methodLink RX12 342 yX12_keep, .code yX12_drawDay cX12_drawDay 5 none, .code yX12_draw cX12_draw 2 (some .int), .constantLong RX12 365 (6364136223846793005), .constantLong RX12 367 (1442695040888963407), .instanceMethod yX12_draw, .selects RX12 yX12_draw yX12_draw, .methodLink RX12 369 yX12_draw, .fieldLink RX12 62 "LeftArgumentsModel" "training" "I", .code yX12_isThere cX12_isThere 2 (some .boolean), .code yX12_of cX12_of 3 (some .int), .instanceMethod yX12_of, .selects RX12 yX12_of yX12_of, .methodLink RX12 287 yX12_of, .instanceMethod yX12_isThere, .selects RX12 yX12_isThere yX12_isThere, .methodLink RX12 290 yX12_isThere, .code yX12_callNow cX12_callNow 3 (some .int), .fieldLink RX12 46 "LeftArgumentsModel" "rule" "[I", .methodLink RX12 299 Lib.Math.min.name, .static Lib.Math.min.name, .initialized "java/lang/Math", .code Lib.Math.min.name Lib.Math.min.code 2 (some .int), .code yX12_set cX12_set 4 none, .instanceMethod yX12_set, .selects RX12 yX12_set yX12_set, .methodLink RX12 258 yX12_set, .instanceMethod yX12_callNow, .selects RX12 yX12_callNow yX12_callNow, .methodLink RX12 358 yX12_callNow, .code yX12_does cX12_does 3 (some .boolean), .code yX12_loadOf cX12_loadOf 4 (some .int), .instanceMethod yX12_loadOf, .selects RX12 yX12_loadOf yX12_loadOf, .methodLink RX12 312 yX12_loadOf, .instanceMethod yX12_does, .selects RX12 yX12_does yX12_does, .methodLink RX12 351 yX12_does, .code yX12_freePlace cX12_freePlace 2 (some .int), .instanceMethod yX12_freePlace, .selects RX12 yX12_freePlace yX12_freePlace, .methodLink RX12 348 yX12_freePlace, .code yX12_leaveNow cX12_leaveNow 6 (some .int), .instanceMethod yX12_leaveNow, .selects RX12 yX12_leaveNow yX12_leaveNow, .methodLink RX12 354 yX12_leaveNow, .instanceMethod yX12_drawDay, .selects RX12 yX12_drawDay yX12_drawDay, .methodLink RX12 372 yX12_drawDay, .code yX12_passDay cX12_passDay 2 none, .code yX12_live cX12_live 2 none, .code yX12_growAll cX12_growAll 2 none, .fieldLink RX12 65 "LeftArgumentsModel" "grows" "[I", .methodLink RX12 301 Lib.Math.max.name, .static Lib.Math.max.name, .code Lib.Math.max.name Lib.Math.max.code 2 (some .int), .code yX12_growthOf cX12_growthOf 4 (some .int), .code yX12_withOf cX12_withOf 4 (some .int), .instanceMethod yX12_withOf, .selects RX12 yX12_withOf yX12_withOf, .methodLink RX12 293 yX12_withOf, .fieldLink RX12 58 "LeftArgumentsModel" "holding" "I", .fieldLink RX12 34 "LeftArgumentsModel" "letters" "[I", .code yX12_worthOf cX12_worthOf 3 (some .int), .fieldLink RX12 22 "LeftArgumentsModel" "clauses" "[I", .fieldLink RX12 25 "LeftArgumentsModel" "testFrom" "[I", .fieldLink RX12 28 "LeftArgumentsModel" "sumFrom" "[I", .fieldLink RX12 31 "LeftArgumentsModel" "sumTo" "[I", .code yX12_workOut cX12_workOut 6 (some .int), .fieldLink RX12 37 "LeftArgumentsModel" "stack" "[I", .fieldLink RX12 13 "LeftArgumentsModel" "code" "[I", .fieldLink RX12 16 "LeftArgumentsModel" "value" "[I", .code yX12_worked cX12_worked 5 (some .int), .code yX12_bounded cX12_bounded 2 (some .int), .constantLong RX12 192 (-1000000), .constantLong RX12 194 (1000000), .methodLink RX12 196 Lib.MathLoose.min_long.x, .static Lib.MathLoose.min_long.x, .code Lib.MathLoose.min_long.x Lib.MathLoose.min_long.code 4 (some .long), .methodLink RX12 202 Lib.MathLoose.max_long.x, .static Lib.MathLoose.max_long.x, .code Lib.MathLoose.max_long.x Lib.MathLoose.max_long.code 4 (some .long), .static yX12_bounded, .methodLink RX12 205 yX12_bounded, .static yX12_worked, .methodLink RX12 209 yX12_worked, .instanceMethod yX12_workOut, .selects RX12 yX12_workOut yX12_workOut, .methodLink RX12 213 yX12_workOut, .instanceMethod yX12_worthOf, .selects RX12 yX12_worthOf yX12_worthOf, .methodLink RX12 296 yX12_worthOf, .instanceMethod yX12_growthOf, .selects RX12 yX12_growthOf yX12_growthOf, .methodLink RX12 303 yX12_growthOf, .instanceMethod yX12_growAll, .selects RX12 yX12_growAll yX12_growAll, .methodLink RX12 318 yX12_growAll, .code yX12_endAll cX12_endAll 2 none, .fieldLink RX12 306 "LeftArgumentsModel" "ended" "I", .instanceMethod yX12_endAll, .selects RX12 yX12_endAll yX12_endAll, .methodLink RX12 321 yX12_endAll, .code yX12_dropAll cX12_dropAll 3 none, .fieldLink RX12 309 "LeftArgumentsModel" "fell" "I", .code yX12_largestOn cX12_largestOn 4 (some .int), .instanceMethod yX12_largestOn, .selects RX12 yX12_largestOn yX12_largestOn, .methodLink RX12 315 yX12_largestOn, .instanceMethod yX12_dropAll, .selects RX12 yX12_dropAll yX12_dropAll, .methodLink RX12 324 yX12_dropAll, .instanceMethod yX12_live, .selects RX12 yX12_live yX12_live, .methodLink RX12 327 yX12_live, .code yX12_sizeAll cX12_sizeAll 3 (some .int), .instanceMethod yX12_sizeAll, .selects RX12 yX12_sizeAll yX12_sizeAll, .methodLink RX12 330 yX12_sizeAll, .instanceMethod yX12_passDay, .selects RX12 yX12_passDay yX12_passDay, .methodLink RX12 345 yX12_passDay] : List Cond) ++ wsX120)
set_option maxRecDepth 20000 in
theorem g_X12_years_0 : GoodIn q_X12_years (wsV RX12 336 RX12 yX12_areDays q_X12_areDays) := goodIn_app (goodIn_r _ [10, 8, 9, 4] rfl (by decide +kernel)) (goodIn_ca (goodIn_r (.code yX12_areDays cX12_areDays 2 (some .boolean) :: [.code yX12_in cX12_in 3 (some .boolean), .initialized RX12, .static yX12_in, .methodLink RX12 217 yX12_in, .fieldLink RX12 52 "LeftArgumentsModel" "now" "[I"]) [2, 3, 4, 5, 6, 7] rfl (by decide +kernel)) (goodIn_sub (fun _ h => List.mem_cons_of_mem _ (List.mem_append_right _ h)) gwX12))
set_option maxRecDepth 20000 in
theorem g_X12_years_1 : GoodIn q_X12_years (wsV RX12 342 RX12 yX12_keep q_X12_keep) := goodIn_app (goodIn_r _ [17, 15, 16, 4] rfl (by decide +kernel)) (goodIn_ca (goodIn_r (.code yX12_keep cX12_keep 2 none :: [.fieldLink RX12 275 "LeftArgumentsModel" "acts" "I", .fieldLink RX12 68 "LeftArgumentsModel" "kept" "[I", .fieldLink RX12 52 "LeftArgumentsModel" "now" "[I"]) [12, 13, 14, 7] rfl (by decide +kernel)) (goodIn_sub (fun _ h => List.mem_cons_of_mem _ (List.mem_append_right _ h)) gwX12))
set_option maxRecDepth 20000 in
theorem g_X12_years_2 : GoodIn q_X12_years (wsV RX12 372 RX12 yX12_drawDay q_X12_drawDay) := goodIn_app (goodIn_r _ [65, 63, 64, 4] rfl (by decide +kernel)) (goodIn_ca (goodIn_r (.code yX12_drawDay cX12_drawDay 5 none :: [.code yX12_draw cX12_draw 2 (some .int), .fieldLink RX12 361 "LeftArgumentsModel" "draws" "J", .constantLong RX12 365 (6364136223846793005), .constantLong RX12 367 (1442695040888963407), .initialized RX12, .instanceMethod yX12_draw, .selects RX12 yX12_draw yX12_draw, .methodLink RX12 369 yX12_draw, .fieldLink RX12 62 "LeftArgumentsModel" "training" "I", .code yX12_isThere cX12_isThere 2 (some .boolean), .code yX12_in cX12_in 3 (some .boolean), .static yX12_in, .methodLink RX12 217 yX12_in, .code yX12_of cX12_of 3 (some .int), .fieldLink RX12 52 "LeftArgumentsModel" "now" "[I", .instanceMethod yX12_of, .selects RX12 yX12_of yX12_of, .methodLink RX12 287 yX12_of, .instanceMethod yX12_isThere, .selects RX12 yX12_isThere yX12_isThere, .methodLink RX12 290 yX12_isThere, .code yX12_callNow cX12_callNow 3 (some .int), .fieldLink RX12 46 "LeftArgumentsModel" "rule" "[I", .methodLink RX12 299 Lib.Math.min.name, .static Lib.Math.min.name, .initialized "java/lang/Math", .code Lib.Math.min.name Lib.Math.min.code 2 (some .int), .code yX12_set cX12_set 4 none, .instanceMethod yX12_set, .selects RX12 yX12_set yX12_set, .methodLink RX12 258 yX12_set, .instanceMethod yX12_callNow, .selects RX12 yX12_callNow yX12_callNow, .methodLink RX12 358 yX12_callNow, .code yX12_does cX12_does 3 (some .boolean), .code yX12_loadOf cX12_loadOf 4 (some .int), .instanceMethod yX12_loadOf, .selects RX12 yX12_loadOf yX12_loadOf, .methodLink RX12 312 yX12_loadOf, .instanceMethod yX12_does, .selects RX12 yX12_does yX12_does, .methodLink RX12 351 yX12_does, .code yX12_freePlace cX12_freePlace 2 (some .int), .instanceMethod yX12_freePlace, .selects RX12 yX12_freePlace yX12_freePlace, .methodLink RX12 348 yX12_freePlace, .code yX12_leaveNow cX12_leaveNow 6 (some .int), .instanceMethod yX12_leaveNow, .selects RX12 yX12_leaveNow yX12_leaveNow, .methodLink RX12 354 yX12_leaveNow]) [18, 19, 11, 20, 21, 4, 22, 23, 24, 25, 26, 3, 5, 6, 27, 7, 28, 29, 30, 31, 32, 33, 34, 35, 36, 37, 38, 39, 40, 41, 42, 43, 44, 45, 46, 47, 48, 49, 50, 51, 52, 53, 54, 55, 56, 57, 58, 59, 60, 61, 62] rfl (by decide +kernel)) (goodIn_sub (fun _ h => List.mem_cons_of_mem _ (List.mem_append_right _ h)) gwX12))
set_option maxRecDepth 20000 in
theorem g_X12_years_3 : GoodIn q_X12_years (wsV RX12 345 RX12 yX12_passDay q_X12_passDay) := goodIn_app (goodIn_r _ [138, 136, 137, 4] rfl (by decide +kernel)) (goodIn_ca (goodIn_r (.code yX12_passDay cX12_passDay 2 none :: [.code yX12_live cX12_live 2 none, .code yX12_growAll cX12_growAll 2 none, .code yX12_isThere cX12_isThere 2 (some .boolean), .code yX12_in cX12_in 3 (some .boolean), .initialized RX12, .static yX12_in, .methodLink RX12 217 yX12_in, .code yX12_of cX12_of 3 (some .int), .fieldLink RX12 52 "LeftArgumentsModel" "now" "[I", .instanceMethod yX12_of, .selects RX12 yX12_of yX12_of, .methodLink RX12 287 yX12_of, .instanceMethod yX12_isThere, .selects RX12 yX12_isThere yX12_isThere, .methodLink RX12 290 yX12_isThere, .fieldLink RX12 65 "LeftArgumentsModel" "grows" "[I", .methodLink RX12 299 Lib.Math.min.name, .static Lib.Math.min.name, .initialized "java/lang/Math", .code Lib.Math.min.name Lib.Math.min.code 2 (some .int), .methodLink RX12 301 Lib.Math.max.name, .static Lib.Math.max.name, .code Lib.Math.max.name Lib.Math.max.code 2 (some .int), .code yX12_set cX12_set 4 none, .instanceMethod yX12_set, .selects RX12 yX12_set yX12_set, .methodLink RX12 258 yX12_set, .code yX12_growthOf cX12_growthOf 4 (some .int), .code yX12_withOf cX12_withOf 4 (some .int), .instanceMethod yX12_withOf, .selects RX12 yX12_withOf yX12_withOf, .methodLink RX12 293 yX12_withOf, .fieldLink RX12 58 "LeftArgumentsModel" "holding" "I", .fieldLink RX12 34 "LeftArgumentsModel" "letters" "[I", .code yX12_worthOf cX12_worthOf 3 (some .int), .fieldLink RX12 22 "LeftArgumentsModel" "clauses" "[I", .fieldLink RX12 25 "LeftArgumentsModel" "testFrom" "[I", .fieldLink RX12 28 "LeftArgumentsModel" "sumFrom" "[I", .fieldLink RX12 31 "LeftArgumentsModel" "sumTo" "[I", .code yX12_workOut cX12_workOut 6 (some .int), .fieldLink RX12 37 "LeftArgumentsModel" "stack" "[I", .fieldLink RX12 13 "LeftArgumentsModel" "code" "[I", .fieldLink RX12 16 "LeftArgumentsModel" "value" "[I", .code yX12_worked cX12_worked 5 (some .int), .code yX12_bounded cX12_bounded 2 (some .int), .constantLong RX12 192 (-1000000), .constantLong RX12 194 (1000000), .methodLink RX12 196 Lib.MathLoose.min_long.x, .static Lib.MathLoose.min_long.x, .code Lib.MathLoose.min_long.x Lib.MathLoose.min_long.code 4 (some .long), .methodLink RX12 202 Lib.MathLoose.max_long.x, .static Lib.MathLoose.max_long.x, .code Lib.MathLoose.max_long.x Lib.MathLoose.max_long.code 4 (some .long), .static yX12_bounded, .methodLink RX12 205 yX12_bounded, .static yX12_worked, .methodLink RX12 209 yX12_worked, .instanceMethod yX12_workOut, .selects RX12 yX12_workOut yX12_workOut, .methodLink RX12 213 yX12_workOut, .instanceMethod yX12_worthOf, .selects RX12 yX12_worthOf yX12_worthOf, .methodLink RX12 296 yX12_worthOf, .instanceMethod yX12_growthOf, .selects RX12 yX12_growthOf yX12_growthOf, .methodLink RX12 303 yX12_growthOf, .instanceMethod yX12_growAll, .selects RX12 yX12_growAll yX12_growAll, .methodLink RX12 318 yX12_growAll, .code yX12_endAll cX12_endAll 2 none, .fieldLink RX12 306 "LeftArgumentsModel" "ended" "I", .instanceMethod yX12_endAll, .selects RX12 yX12_endAll yX12_endAll, .methodLink RX12 321 yX12_endAll, .code yX12_dropAll cX12_dropAll 3 none, .fieldLink RX12 309 "LeftArgumentsModel" "fell" "I", .fieldLink RX12 46 "LeftArgumentsModel" "rule" "[I", .code yX12_loadOf cX12_loadOf 4 (some .int), .instanceMethod yX12_loadOf, .selects RX12 yX12_loadOf yX12_loadOf, .methodLink RX12 312 yX12_loadOf, .code yX12_largestOn cX12_largestOn 4 (some .int), .instanceMethod yX12_largestOn, .selects RX12 yX12_largestOn yX12_largestOn, .methodLink RX12 315 yX12_largestOn, .instanceMethod yX12_dropAll, .selects RX12 yX12_dropAll yX12_dropAll, .methodLink RX12 324 yX12_dropAll, .instanceMethod yX12_live, .selects RX12 yX12_live yX12_live, .methodLink RX12 327 yX12_live, .code yX12_sizeAll cX12_sizeAll 3 (some .int), .instanceMethod yX12_sizeAll, .selects RX12 yX12_sizeAll yX12_sizeAll, .methodLink RX12 330 yX12_sizeAll]) [66, 67, 68, 26, 3, 4, 5, 6, 27, 7, 28, 29, 30, 31, 32, 33, 69, 36, 37, 38, 39, 70, 71, 72, 40, 41, 42, 43, 73, 74, 75, 76, 77, 78, 79, 80, 81, 82, 83, 84, 85, 86, 87, 88, 89, 90, 91, 92, 93, 94, 95, 96, 97, 98, 99, 100, 101, 102, 103, 104, 105, 106, 107, 108, 109, 110, 111, 112, 113, 114, 115, 116, 117, 118, 119, 120, 121, 35, 48, 49, 50, 51, 122, 123, 124, 125, 126, 127, 128, 129, 130, 131, 132, 133, 134, 135] rfl (by decide +kernel)) (goodIn_sub (fun _ h => List.mem_cons_of_mem _ (List.mem_append_right _ h)) gwX12))
set_option maxHeartbeats 4000000 in
set_option maxRecDepth 100000 in
theorem k_X12_years (l : Launch) (dC : Nat → ClassId) (dI : Nat → Nat → Nat) (h0 : Nat) (h1 : Nat) (h2 : Nat) (h3 : Nat) (h4 : Nat) (h5 : Nat) (h6 : Nat) (h7 : Nat) (h8 : Nat) (h9 : Nat) (h10 : Nat) (h11 : Nat) (h12 : Nat) (v0 : Int32) (r0 : Nat) (v1 : Int32) (v2 : Int32) (v3 : Int32) (v4 : Int32) (r1 : Nat) (v5 : Int32) (v6 : Int32) (r2 : Nat) (r3 : Nat) (v7 : Int32) (r4 : Nat) (v8 : Int32) (v9 : Int32) (r5 : Nat) (v10 : Int32) (v11 : Int32) (v12 : Int32) (v13 : Int32) (v14 : Int32) (w15 : Int64) (r6 : Nat) (v16 : Int32) (v17 : Int32) (r7 : Nat) (r8 : Nat) (r9 : Nat) (r10 : Nat) (r11 : Nat) (r12 : Nat) (v18 : Int32) (r13 : Nat) (r14 : Nat) (r15 : Nat) (v19 : Int32) (g0 : ClassId) (f20 : Nat → Int32) (g1 : ClassId) (f21 : Nat → Int32) (g2 : ClassId) (f22 : Nat → Int32) (g3 : ClassId) (f23 : Nat → Int32) (g4 : ClassId) (f24 : Nat → Int32) (g5 : ClassId) (f25 : Nat → Int32) (g6 : ClassId) (f26 : Nat → Int32) (g7 : ClassId) (f27 : Nat → Int32) (g8 : ClassId) (f28 : Nat → Int32) (g9 : ClassId) (f29 : Nat → Int32) (g10 : ClassId) (f30 : Nat → Int32) (g11 : ClassId) (f31 : Nat → Int32) (v32 : Int32) (w33 : Int64) (i_v1 : 0 ≤ v1.toInt ∧ v1.toInt ≤ 240) (i_v5 : 0 ≤ v5.toInt ∧ v5.toInt ≤ 4) (i_v6 : 0 ≤ v6.toInt ∧ v6.toInt ≤ 4) (i_v7 : 0 ≤ v7.toInt ∧ v7.toInt ≤ 8) (i_v8 : 0 ≤ v8.toInt ∧ v8.toInt ≤ 8) (i_v9 : 0 ≤ v9.toInt ∧ v9.toInt ≤ 1) (i_v10 : -1 ≤ v10.toInt ∧ v10.toInt ≤ 3) (i_v14 : 0 ≤ v14.toInt ∧ v14.toInt ≤ 40) (i_v18 : 0 ≤ v18.toInt ∧ v18.toInt ≤ 10) (i_v19 : 0 ≤ v19.toInt ∧ v19.toInt ≤ 1) (ia_f28 : (pm_RU f28)) (ia_f29 : (pm_NW f29)) (ia_f31 : (pm_KP f31)) (pp0 : v9.toInt = 1 → 1 ≤ (f28 1).toInt) (pp1 : pm_Held v10 f20 f21 f22 f23 f24 f25) (sz : Nat) : Met l yX12_years q_X12_years ({ frames := 9, cells := 0, slots := 0, locals := 195 }) (va_Pc [.ref h0, .int v32, .long w33] (fun U => U.heap.size = sz ∧ va_P (dC, dI) vwCl (wd_210a5a56 h0 v0 r0 v1 v2 v3 v4 h1 h2 r1 h3 h4 h5 h6 v5 v6 h7 h8 r2 r3 v7 h9 r4 v8 v9 h10 r5 v10 v11 h11 v12 v13 h12 v14 w15 r6 v16 v17 r7 r8 r9 r10 r11 r12 v18 r13 r14 r15 v19 h1 g0 f20 h2 g1 f21 h3 g2 f22 h4 g3 f23 h5 g4 f24 h6 g5 f25 h7 g6 f26 h8 g7 f27 h9 g8 f28 h10 g9 f29 h11 g10 f30 h12 g11 f31) U.heap ∧ va_K (dC, dI) vwCl [(g0, .int), (g1, .int), (g2, .int), (g3, .int), (g4, .int), (g5, .int), (g6, .int), (g7, .int), (g8, .int), (g9, .int), (g10, .int), (g11, .int)] U ∧ va_D (fun _ => True) (wd_210a5a56 h0 v0 r0 v1 v2 v3 v4 h1 h2 r1 h3 h4 h5 h6 v5 v6 h7 h8 r2 r3 v7 h9 r4 v8 v9 h10 r5 v10 v11 h11 v12 v13 h12 v14 w15 r6 v16 v17 r7 r8 r9 r10 r11 r12 v18 r13 r14 r15 v19 h1 g0 f20 h2 g1 f21 h3 g2 f22 h4 g3 f23 h5 g4 f24 h6 g5 f25 h7 g6 f26 h8 g7 f27 h9 g8 f28 h10 g9 f29 h11 g10 f30 h12 g11 f31))) (va_Qi (fun (r : Int32) (r9 : Int32) => r9 = r) (fun (r : Int32) (t : State) => (∃ (o_h0_29 : Int32) (o_h0_30 : Int32) (o_h0_32 : Int32) (o_h0_33 : Int64) (o_h7 : Nat → Int32) (o_h8 : Nat → Int32) (o_h10 : Nat → Int32) (o_h11 : Nat → Int32) (o_h12 : Nat → Int32), 0 ≤ o_h0_32.toInt ∧ o_h0_32.toInt ≤ 40 ∧ (pm_NW o_h10) ∧ (pm_KP o_h12) ∧ va_P (dC, dI) vwCl (wd_210a5a56 h0 v0 r0 v1 v2 v3 v4 h1 h2 r1 h3 h4 h5 h6 v5 v6 h7 h8 r2 r3 v7 h9 r4 v8 v9 h10 r5 v10 v11 h11 o_h0_29 o_h0_30 h12 o_h0_32 o_h0_33 r6 v16 v17 r7 r8 r9 r10 r11 r12 v18 r13 r14 r15 v19 h1 g0 f20 h2 g1 f21 h3 g2 f22 h4 g3 f23 h5 g4 f24 h6 g5 f25 h7 g6 o_h7 h8 g7 o_h8 h9 g8 f28 h10 g9 o_h10 h11 g10 o_h11 h12 g11 o_h12) t.heap ∧ va_K (dC, dI) vwCl [] t ∧ va_D (va_A (wd_210a5a56 h0 v0 r0 v1 v2 v3 v4 h1 h2 r1 h3 h4 h5 h6 v5 v6 h7 h8 r2 r3 v7 h9 r4 v8 v9 h10 r5 v10 v11 h11 v12 v13 h12 v14 w15 r6 v16 v17 r7 r8 r9 r10 r11 r12 v18 r13 r14 r15 v19 h1 g0 f20 h2 g1 f21 h3 g2 f22 h4 g3 f23 h5 g4 f24 h6 g5 f25 h7 g6 f26 h8 g7 f27 h9 g8 f28 h10 g9 f29 h11 g10 f30 h12 g11 f31) sz) (wd_210a5a56 h0 v0 r0 v1 v2 v3 v4 h1 h2 r1 h3 h4 h5 h6 v5 v6 h7 h8 r2 r3 v7 h9 r4 v8 v9 h10 r5 v10 v11 h11 o_h0_29 o_h0_30 h12 o_h0_32 o_h0_33 r6 v16 v17 r7 r8 r9 r10 r11 r12 v18 r13 r14 r15 v19 h1 g0 f20 h2 g1 f21 h3 g2 f22 h4 g3 f23 h5 g4 f24 h6 g5 f25 h7 g6 o_h7 h8 g7 o_h8 h9 g8 f28 h10 g9 o_h10 h11 g10 o_h11 h12 g11 o_h12))) (va_A (wd_210a5a56 h0 v0 r0 v1 v2 v3 v4 h1 h2 r1 h3 h4 h5 h6 v5 v6 h7 h8 r2 r3 v7 h9 r4 v8 v9 h10 r5 v10 v11 h11 v12 v13 h12 v14 w15 r6 v16 v17 r7 r8 r9 r10 r11 r12 v18 r13 r14 r15 v19 h1 g0 f20 h2 g1 f21 h3 g2 f22 h4 g3 f23 h5 g4 f24 h6 g5 f25 h7 g6 f26 h8 g7 f27 h9 g8 f28 h10 g9 f29 h11 g10 f30 h12 g11 f31) sz)) 0 0 (va_A (wd_210a5a56 h0 v0 r0 v1 v2 v3 v4 h1 h2 r1 h3 h4 h5 h6 v5 v6 h7 h8 r2 r3 v7 h9 r4 v8 v9 h10 r5 v10 v11 h11 v12 v13 h12 v14 w15 r6 v16 v17 r7 r8 r9 r10 r11 r12 v18 r13 r14 r15 v19 h1 g0 f20 h2 g1 f21 h3 g2 f22 h4 g3 f23 h5 g4 f24 h6 g5 f25 h7 g6 f26 h8 g7 f27 h9 g8 f28 h10 g9 f29 h11 g10 f30 h12 g11 f31) sz) := by
  refine Met.ofW (cc := cX12_years) (maxL := 5) (ret := (some .int)) (by decide) rfl ?_
  intro p e s m args below meth c s₁ B hml hv
  obtain ⟨i_v1a, i_v1b⟩ := i_v1
  obtain ⟨i_v5a, i_v5b⟩ := i_v5
  obtain ⟨i_v6a, i_v6b⟩ := i_v6
  obtain ⟨i_v7a, i_v7b⟩ := i_v7
  obtain ⟨i_v8a, i_v8b⟩ := i_v8
  obtain ⟨i_v9a, i_v9b⟩ := i_v9
  obtain ⟨i_v10a, i_v10b⟩ := i_v10
  obtain ⟨i_v14a, i_v14b⟩ := i_v14
  obtain ⟨i_v18a, i_v18b⟩ := i_v18
  obtain ⟨i_v19a, i_v19b⟩ := i_v19
  obtain ⟨rfl, hsz, hP, hK, hD0⟩ := hv
  have hx := B.exec
  have hb := B.bytes
  have hr := B.returns
  have hts := atoms_spec (ws := q_X12_years) B.pre
  have hown : s.vm.findClass RX12 = some m.cls := findClass_of_methodNamed B.named
  have hlocks := B.notSynchronized
  subst hsz
  have hD := hD0.self (sz := s.heap.size)
  generalize hAe : va_A (wd_210a5a56 h0 v0 r0 v1 v2 v3 v4 h1 h2 r1 h3 h4 h5 h6 v5 v6 h7 h8 r2 r3 v7 h9 r4 v8 v9 h10 r5 v10 v11 h11 v12 v13 h12 v14 w15 r6 v16 v17 r7 r8 r9 r10 r11 r12 v18 r13 r14 r15 v19 h1 g0 f20 h2 g1 f21 h3 g2 f22 h4 g3 f23 h5 g4 f24 h6 g5 f25 h7 g6 f26 h8 g7 f27 h9 g8 f28 h10 g9 f29 h11 g10 f30 h12 g11 f31) s.heap.size = A at hD ⊢
  have hA : ∀ q : Nat, s.heap.size ≤ q → A q := fun q h => by rw [← hAe]; exact Or.inr h
  have hS : va_S A s.heap s.heap [] := va_S.rf
  generalize hQ : (MQ below _ _ s 0 0 A) = Q
  have hl := lv_entry ([.ref h0, .int v32, .long w33]) (n := 5) (Nat.le_of_ble_eq_true rfl)
  rw [lg_entry_eq]
  generalize (lg_sl ([.ref h0, .int v32, .long w33]) ++ List.replicate (5 - (lg_sl ([.ref h0, .int v32, .long w33])).length) Slot.unset).toArray = ls at hl ⊢
  have hl : lv_has ls 5 [(0, .ref h0), (1, .int v32), (2, .long w33)] := hl
  obtain ⟨H, hH⟩ : ∃ H : Heap, H = s.heap := ⟨_, rfl⟩
  obtain ⟨locs, hlocs⟩ : ∃ y : List Loc, y = [] := ⟨_, rfl⟩
  have hS : va_S A s.heap H locs := by rw [hH, hlocs]; exact va_S.rf
  have hP : va_P (dC, dI) vwCl (wd_210a5a56 h0 v0 r0 v1 v2 v3 v4 h1 h2 r1 h3 h4 h5 h6 v5 v6 h7 h8 r2 r3 v7 h9 r4 v8 v9 h10 r5 v10 v11 h11 v12 v13 h12 v14 w15 r6 v16 v17 r7 r8 r9 r10 r11 r12 v18 r13 r14 r15 v19 h1 g0 f20 h2 g1 f21 h3 g2 f22 h4 g3 f23 h5 g4 f24 h6 g5 f25 h7 g6 f26 h8 g7 f27 h9 g8 f28 h10 g9 f29 h11 g10 f30 h12 g11 f31) H := by rw [hH]; exact hP
  rw [← hH, ← hlocs]
  refine lv_aload_n hx hb dX12_years_0 rfl (lv_at hl 0 rfl) ?_
  refine va_get (D := (dC, dI)) (ci := 12) (v := .int v9) (C := RX12) (T := TX12) (N := 48) hx hb hts (fun _ h => List.mem_cons_of_mem _ (List.mem_append_right _ h)) hown hK hP 0 rfl rfl 23 (by decide) (hts (.fieldLink RX12 262 "LeftArgumentsModel" "isOffice" "Z") (List.mem_cons_of_mem _ (List.mem_append_left _ (List.mem_of_getElem? (i := 0) rfl)))) (fun _ h9 => h9) rfl dX12_years_1 ?_
  refine lv_if_eq (tgt := 15) hx hb dX12_years_4 (by decide) (fun c1 => ?_) (fun c1 => ?_)
  · skip
    have fc1 : v9.toInt = 0 := congrArg Int32.toInt c1
    refine lv_iconst (v := (-1)) hx hb dX12_years_15 (by decide) ?_
    subst hQ
    have hP9 := hP.sub (ws' := (wd_210a5a56 h0 v0 r0 v1 v2 v3 v4 h1 h2 r1 h3 h4 h5 h6 v5 v6 h7 h8 r2 r3 v7 h9 r4 v8 v9 h10 r5 v10 v11 h11 v12 v13 h12 v14 w15 r6 v16 v17 r7 r8 r9 r10 r11 r12 v18 r13 r14 r15 v19 h1 g0 f20 h2 g1 f21 h3 g2 f22 h4 g3 f23 h5 g4 f24 h6 g5 f25 h7 g6 f26 h8 g7 f27 h9 g8 f28 h10 g9 f29 h11 g10 f30 h12 g11 f31)) [0, 1, 2, 3, 4, 5, 6, 7, 8, 9, 10, 11, 12] rfl
    have hD9 := hD.sub (ws' := (wd_210a5a56 h0 v0 r0 v1 v2 v3 v4 h1 h2 r1 h3 h4 h5 h6 v5 v6 h7 h8 r2 r3 v7 h9 r4 v8 v9 h10 r5 v10 v11 h11 v12 v13 h12 v14 w15 r6 v16 v17 r7 r8 r9 r10 r11 r12 v18 r13 r14 r15 v19 h1 g0 f20 h2 g1 f21 h3 g2 f22 h4 g3 f23 h5 g4 f24 h6 g5 f25 h7 g6 f26 h8 g7 f27 h9 g8 f28 h10 g9 f29 h11 g10 f30 h12 g11 f31)) [0, 1, 2, 3, 4, 5, 6, 7, 8, 9, 10, 11, 12] (by decide +kernel) rfl
    have hK9 := hK.sub (tys' := []) [] rfl
    exact W.iret (v := (-1)) hx hb hr (fun t ht hW => ⟨⟨(-1), (-1), rfl, rfl, ⟨v12, v13, v14, w15, f26, f27, f29, f30, f31, i_v14a, i_v14b, ia_f29, ia_f31, by rw [ht]; exact hP9, va_K.moved hW.alike hK9, hD9⟩⟩, hS.F ht⟩) hS.2.2 dX12_years_16
  · skip
    have fc1 : ¬ (v9.toInt = 0) := fun h9 => c1 (Int32.toInt_inj.mp h9)
    refine lv_aload_n hx hb dX12_years_7 rfl (lv_at hl 0 rfl) ?_
    refine lv_iload_n hx hb dX12_years_8 rfl (lv_at hl 1 rfl) ?_
    have hPc := hP.sub (ws' := (wd_5013416a h0 v0 r0 v1 v2 v3 v4 h1 h2 r1 h3 h4 h5 h6 v5 v6 h7 h8 r2 r3 v7 h9 r4 v8 v9 h10 r5 v10 v11 h11 v12 v13 h12 v14 w15 r6 v16 v17 r7 r8 r9 r10 r11 r12 v18 r13 r14 r15 v19 h10 g9 f29)) [0, 10] rfl
    have hDc := hD.sub (ws' := (wd_5013416a h0 v0 r0 v1 v2 v3 v4 h1 h2 r1 h3 h4 h5 h6 v5 v6 h7 h8 r2 r3 v7 h9 r4 v8 v9 h10 r5 v10 v11 h11 v12 v13 h12 v14 w15 r6 v16 v17 r7 r8 r9 r10 r11 r12 v18 r13 r14 r15 v19 h10 g9 f29)) [0, 10] (by decide) rfl
    have hKc := hK.sub (tys' := [(g9, .int)]) [9] rfl
    have hFc := va_free (wc := (wd_5013416a h0 v0 r0 v1 v2 v3 v4 h1 h2 r1 h3 h4 h5 h6 v5 v6 h7 h8 r2 r3 v7 h9 r4 v8 v9 h10 r5 v10 v11 h11 v12 v13 h12 v14 w15 r6 v16 v17 r7 r8 r9 r10 r11 r12 v18 r13 r14 r15 v19 h10 g9 f29)) hD hS hA [0, 10] rfl
    refine va_calli (va_runV (As := [.int v32]) (rest := []) ⟨hx, hb, hml, hown, hts⟩ (k_X12_areDays l dC dI h0 h10 v0 r0 v1 v2 v3 v4 h1 h2 r1 h3 h4 h5 h6 v5 v6 h7 h8 r2 r3 v7 h9 r4 v8 v9 r5 v10 v11 h11 v12 v13 h12 v14 w15 r6 v16 v17 r7 r8 r9 r10 r11 r12 v18 r13 r14 r15 v19 g9 f29 v32 ⟨i_v1a, i_v1b⟩ ⟨i_v5a, i_v5b⟩ ⟨i_v6a, i_v6b⟩ ⟨i_v7a, i_v7b⟩ ⟨i_v8a, i_v8b⟩ ⟨i_v9a, i_v9b⟩ ⟨i_v10a, i_v10b⟩ ⟨i_v14a, i_v14b⟩ ⟨i_v18a, i_v18b⟩ ⟨i_v19a, i_v19b⟩ ia_f29 H.size) (cwV 1 hts g_X12_years_0 rfl rfl rfl (by decide +kernel) ⟨Nat.le_of_ble_eq_true rfl, Nat.le_of_ble_eq_true rfl⟩) (pv_PV12 hPc hKc hDc (q0 := 0) rfl) rfl rfl hl.1 rfl (lv_room (Nat.le_of_ble_eq_true rfl)) dX12_years_9 ⟨Nat.le_of_ble_eq_true rfl, Nat.le_of_ble_eq_true rfl⟩) hS (fun q _ h => hFc q h) hFc (fun ra2 u t H1 locs ht hvm hwra2 hB hz1 hk1 hS => ?_)
    try rw [hwra2] at hB
    obtain ⟨pt0_ra2, pt1_ra2, hP1, hK1, hD1⟩ := hB
    rw [ht] at hP1
    obtain ⟨hP2, hD2⟩ := va_join (wr := (wd_69413148 h1 g0 f20 h2 g1 f21 h3 g2 f22 h4 g3 f23 h5 g4 f24 h6 g5 f25 h7 g6 f26 h8 g7 f27 h9 g8 f28 h11 g10 f30 h12 g11 f31)) (w1 := (wd_5013416a h0 v0 r0 v1 v2 v3 v4 h1 h2 r1 h3 h4 h5 h6 v5 v6 h7 h8 r2 r3 v7 h9 r4 v8 v9 h10 r5 v10 v11 h11 v12 v13 h12 v14 w15 r6 v16 v17 r7 r8 r9 r10 r11 r12 v18 r13 r14 r15 v19 h10 g9 f29)) hP hD [0, 10] [1, 2, 3, 4, 5, 6, 7, 8, 9, 11, 12] rfl rfl (by decide +kernel) (by decide +kernel) hk1 hFc hP1 hD1
    clear hP hD hPc hDc hKc hFc hP1 hK1 hD1 hk1 hz1
    generalize H1 = H at hP2 hS ⊢
    have hP := hP2.sub (ws' := (wd_210a5a56 h0 v0 r0 v1 v2 v3 v4 h1 h2 r1 h3 h4 h5 h6 v5 v6 h7 h8 r2 r3 v7 h9 r4 v8 v9 h10 r5 v10 v11 h11 v12 v13 h12 v14 w15 r6 v16 v17 r7 r8 r9 r10 r11 r12 v18 r13 r14 r15 v19 h1 g0 f20 h2 g1 f21 h3 g2 f22 h4 g3 f23 h5 g4 f24 h6 g5 f25 h7 g6 f26 h8 g7 f27 h9 g8 f28 h10 g9 f29 h11 g10 f30 h12 g11 f31)) [11, 0, 1, 2, 3, 4, 5, 6, 7, 8, 12, 9, 10] rfl
    have hD := hD2.sub (ws' := (wd_210a5a56 h0 v0 r0 v1 v2 v3 v4 h1 h2 r1 h3 h4 h5 h6 v5 v6 h7 h8 r2 r3 v7 h9 r4 v8 v9 h10 r5 v10 v11 h11 v12 v13 h12 v14 w15 r6 v16 v17 r7 r8 r9 r10 r11 r12 v18 r13 r14 r15 v19 h1 g0 f20 h2 g1 f21 h3 g2 f22 h4 g3 f23 h5 g4 f24 h6 g5 f25 h7 g6 f26 h8 g7 f27 h9 g8 f28 h10 g9 f29 h11 g10 f30 h12 g11 f31)) [11, 0, 1, 2, 3, 4, 5, 6, 7, 8, 12, 9, 10] (by decide +kernel) rfl
    clear hP2 hD2
    refine lv_if_ne (tgt := 17) hx hb dX12_years_12 (by decide) (fun c3 => ?_) (fun c3 => ?_)
    · skip
      have fc3 : ¬ (ra2.toInt = 0) := fun h9 => c3 (Int32.toInt_inj.mp h9)
      refine lv_aload_n hx hb dX12_years_17 rfl (lv_at hl 0 rfl) ?_
      refine lv_lload_n hx hb dX12_years_18 rfl (lv_at hl 2 rfl) ?_
      refine va_put (D := (dC, dI)) (ci := 12) (v := .long w33) (ty := .long) (C := RX12) (T := TX12) (N := 48) hx hb hts (fun _ h => List.mem_cons_of_mem _ (List.mem_append_right _ h)) tyX12 tyX12_ok nmX12 hown hK hP hD hS 0 rfl rfl 33 (by decide) (hts (.fieldLink RX12 361 "LeftArgumentsModel" "draws" "J") (List.mem_cons_of_mem _ (List.mem_append_left _ (List.mem_of_getElem? (i := 10) rfl)))) (fun _ h9 => h9) rfl (by decide +kernel) rfl rfl (Nat.le_of_ble_eq_true rfl) dX12_years_19 (fun H locs hP hD hS => ?_)
      have hP : va_P (dC, dI) vwCl (wd_210a5a56 h0 v0 r0 v1 v2 v3 v4 h1 h2 r1 h3 h4 h5 h6 v5 v6 h7 h8 r2 r3 v7 h9 r4 v8 v9 h10 r5 v10 v11 h11 v12 v13 h12 v14 w33 r6 v16 v17 r7 r8 r9 r10 r11 r12 v18 r13 r14 r15 v19 h1 g0 f20 h2 g1 f21 h3 g2 f22 h4 g3 f23 h5 g4 f24 h6 g5 f25 h7 g6 f26 h8 g7 f27 h9 g8 f28 h10 g9 f29 h11 g10 f30 h12 g11 f31) H := hP
      have hD : va_D A (wd_210a5a56 h0 v0 r0 v1 v2 v3 v4 h1 h2 r1 h3 h4 h5 h6 v5 v6 h7 h8 r2 r3 v7 h9 r4 v8 v9 h10 r5 v10 v11 h11 v12 v13 h12 v14 w33 r6 v16 v17 r7 r8 r9 r10 r11 r12 v18 r13 r14 r15 v19 h1 g0 f20 h2 g1 f21 h3 g2 f22 h4 g3 f23 h5 g4 f24 h6 g5 f25 h7 g6 f26 h8 g7 f27 h9 g8 f28 h10 g9 f29 h11 g10 f30 h12 g11 f31) := hD
      refine lv_iconst (v := 0) hx hb dX12_years_22 (by decide) ?_
      refine lv_istore (lv' := [(4, .int 0), (0, .ref h0), (1, .int v32), (2, .long w33)]) hx hb dX12_years_23 hl (by decide) rfl (fun ls hl => ?_)
      have hL124 : ∀ (n9 : Nat), ∀ (x104 : Int32) (x105 : Int32) (x106 : Int32) (x107 : Int32) (y108 : Int64) (fn109 : Nat → Int32) (fn110 : Nat → Int32) (fn111 : Nat → Int32) (fn112 : Nat → Int32) (fn113 : Nat → Int32) (H : Heap) (locs : List Loc) (ls : Array Slot), 0 ≤ x104.toInt → 0 ≤ x107.toInt → x107.toInt ≤ 40 → (pm_NW fn111) → (pm_KP fn113) → (2147483647 - x104.toInt).toNat < n9 → va_P (dC, dI) vwCl (wd_210a5a56 h0 v0 r0 v1 v2 v3 v4 h1 h2 r1 h3 h4 h5 h6 v5 v6 h7 h8 r2 r3 v7 h9 r4 v8 v9 h10 r5 v10 v11 h11 x105 x106 h12 x107 y108 r6 v16 v17 r7 r8 r9 r10 r11 r12 v18 r13 r14 r15 v19 h1 g0 f20 h2 g1 f21 h3 g2 f22 h4 g3 f23 h5 g4 f24 h6 g5 f25 h7 g6 fn109 h8 g7 fn110 h9 g8 f28 h10 g9 fn111 h11 g10 fn112 h12 g11 fn113) H → va_D A (wd_210a5a56 h0 v0 r0 v1 v2 v3 v4 h1 h2 r1 h3 h4 h5 h6 v5 v6 h7 h8 r2 r3 v7 h9 r4 v8 v9 h10 r5 v10 v11 h11 x105 x106 h12 x107 y108 r6 v16 v17 r7 r8 r9 r10 r11 r12 v18 r13 r14 r15 v19 h1 g0 f20 h2 g1 f21 h3 g2 f22 h4 g3 f23 h5 g4 f24 h6 g5 f25 h7 g6 fn109 h8 g7 fn110 h9 g8 f28 h10 g9 fn111 h11 g10 fn112 h12 g11 fn113) → va_S A s.heap H locs → lv_has ls 5 [(4, .int x104), (0, .ref h0), (1, .int v32), (2, .long w33)] → W p l e ({ frames := 9, cells := 0, slots := 0, locals := 195 }) s m ([.ref h0, .int v32, .long w33] : List Value).toArray below meth c H locs 0 0 Q (F0 m 25 ls []) := by
        intro n9
        induction n9 with
        | zero => intro x104 x105 x106 x107 y108 fn109 fn110 fn111 fn112 fn113 H locs ls qa_x104 qa_x107 qb_x107 ia_fn111 ia_fn113 hm9 hP hD hS hl; exact absurd hm9 (Nat.not_lt_zero _)
        | succ n9 ih_hL124 =>
          intro x104 x105 x106 x107 y108 fn109 fn110 fn111 fn112 fn113 H locs ls qa_x104 qa_x107 qb_x107 ia_fn111 ia_fn113 hm9 hP hD hS hl
          refine lv_iload hx hb dX12_years_25 (lv_at hl 0 rfl) ?_
          refine lv_iload_n hx hb dX12_years_27 rfl (lv_at hl 2 rfl) ?_
          refine lv_icmp_ge (tgt := 49) hx hb dX12_years_28 (by decide) (fun c125 => ?_) (fun c125 => ?_)
          · skip
            have fc125 : v32.toInt ≤ x104.toInt := Int32.le_iff_toInt_le.mp c125
            have r1c125 := Int32.toInt_lt x104
            have r2c125 := Int32.toInt_lt v32
            have r3c125 := Int32.le_toInt x104
            have r4c125 := Int32.le_toInt v32
            refine lv_aload_n hx hb dX12_years_49 rfl (lv_at hl 1 rfl) ?_
            refine va_get (D := (dC, dI)) (ci := 12) (v := .ref h10) (C := RX12) (T := TX12) (N := 48) hx hb hts (fun _ h => List.mem_cons_of_mem _ (List.mem_append_right _ h)) hown hK hP 0 rfl rfl 24 (by decide) (hts (.fieldLink RX12 52 "LeftArgumentsModel" "now" "[I") (List.mem_cons_of_mem _ (List.mem_append_left _ (List.mem_of_getElem? (i := 6) rfl)))) (fun _ h9 => h9) rfl dX12_years_50 ?_
            refine lv_bipush (v := 65) hx hb dX12_years_53 (by decide) ?_
            refine va_iald hx hb hK hP 10 9 rfl rfl (pv_c (x := 65) (n := 247) (by decide)) dX12_years_55 ?_
            refine lv_topi (fun t126 et126 => ?_)
            have mmt126 : fn111 (Int32.toNatClampNeg 65) = t126 := et126.symm
            subst hQ
            have hP9 := hP.sub (ws' := (wd_210a5a56 h0 v0 r0 v1 v2 v3 v4 h1 h2 r1 h3 h4 h5 h6 v5 v6 h7 h8 r2 r3 v7 h9 r4 v8 v9 h10 r5 v10 v11 h11 x105 x106 h12 x107 y108 r6 v16 v17 r7 r8 r9 r10 r11 r12 v18 r13 r14 r15 v19 h1 g0 f20 h2 g1 f21 h3 g2 f22 h4 g3 f23 h5 g4 f24 h6 g5 f25 h7 g6 fn109 h8 g7 fn110 h9 g8 f28 h10 g9 fn111 h11 g10 fn112 h12 g11 fn113)) [0, 1, 2, 3, 4, 5, 6, 7, 8, 9, 10, 11, 12] rfl
            have hD9 := hD.sub (ws' := (wd_210a5a56 h0 v0 r0 v1 v2 v3 v4 h1 h2 r1 h3 h4 h5 h6 v5 v6 h7 h8 r2 r3 v7 h9 r4 v8 v9 h10 r5 v10 v11 h11 x105 x106 h12 x107 y108 r6 v16 v17 r7 r8 r9 r10 r11 r12 v18 r13 r14 r15 v19 h1 g0 f20 h2 g1 f21 h3 g2 f22 h4 g3 f23 h5 g4 f24 h6 g5 f25 h7 g6 fn109 h8 g7 fn110 h9 g8 f28 h10 g9 fn111 h11 g10 fn112 h12 g11 fn113)) [0, 1, 2, 3, 4, 5, 6, 7, 8, 9, 10, 11, 12] (by decide +kernel) rfl
            have hK9 := hK.sub (tys' := []) [] rfl
            exact W.iret (v := t126) hx hb hr (fun t ht hW => ⟨⟨t126, t126, rfl, rfl, ⟨x105, x106, x107, y108, fn109, fn110, fn111, fn112, fn113, qa_x107, qb_x107, ia_fn111, ia_fn113, by rw [ht]; exact hP9, va_K.moved hW.alike hK9, hD9⟩⟩, hS.F ht⟩) hS.2.2 dX12_years_56
          · skip
            have fc125 : ¬ (v32.toInt ≤ x104.toInt) := fun h9 => c125 (Int32.le_iff_toInt_le.mpr h9)
            have r1c125 := Int32.toInt_lt x104
            have r2c125 := Int32.toInt_lt v32
            have r3c125 := Int32.le_toInt x104
            have r4c125 := Int32.le_toInt v32
            refine lv_aload_n hx hb dX12_years_31 rfl (lv_at hl 1 rfl) ?_
            have hPc := hP.sub (ws' := (wd_baa7feb8 h0 v0 r0 v1 v2 v3 v4 h1 h2 r1 h3 h4 h5 h6 v5 v6 h7 h8 r2 r3 v7 h9 r4 v8 v9 h10 r5 v10 v11 h11 x105 x106 h12 x107 y108 r6 v16 v17 r7 r8 r9 r10 r11 r12 v18 r13 r14 r15 v19 h10 g9 fn111 h12 g11 fn113)) [0, 10, 12] rfl
            have hDc := hD.sub (ws' := (wd_baa7feb8 h0 v0 r0 v1 v2 v3 v4 h1 h2 r1 h3 h4 h5 h6 v5 v6 h7 h8 r2 r3 v7 h9 r4 v8 v9 h10 r5 v10 v11 h11 x105 x106 h12 x107 y108 r6 v16 v17 r7 r8 r9 r10 r11 r12 v18 r13 r14 r15 v19 h10 g9 fn111 h12 g11 fn113)) [0, 10, 12] (by decide) rfl
            have hKc := hK.sub (tys' := [(g9, .int), (g11, .int)]) [9, 11] rfl
            have hFc := va_free (wc := (wd_baa7feb8 h0 v0 r0 v1 v2 v3 v4 h1 h2 r1 h3 h4 h5 h6 v5 v6 h7 h8 r2 r3 v7 h9 r4 v8 v9 h10 r5 v10 v11 h11 x105 x106 h12 x107 y108 r6 v16 v17 r7 r8 r9 r10 r11 r12 v18 r13 r14 r15 v19 h10 g9 fn111 h12 g11 fn113)) hD hS hA [0, 10, 12] rfl
            refine va_callv (va_runV (As := []) (rest := []) ⟨hx, hb, hml, hown, hts⟩ (k_X12_keep l dC dI h0 h10 h12 v0 r0 v1 v2 v3 v4 h1 h2 r1 h3 h4 h5 h6 v5 v6 h7 h8 r2 r3 v7 h9 r4 v8 v9 r5 v10 v11 h11 x105 x106 x107 y108 r6 v16 v17 r7 r8 r9 r10 r11 r12 v18 r13 r14 r15 v19 g9 fn111 g11 fn113 ⟨i_v1a, i_v1b⟩ ⟨i_v5a, i_v5b⟩ ⟨i_v6a, i_v6b⟩ ⟨i_v7a, i_v7b⟩ ⟨i_v8a, i_v8b⟩ ⟨i_v9a, i_v9b⟩ ⟨i_v10a, i_v10b⟩ ⟨qa_x107, qb_x107⟩ ⟨i_v18a, i_v18b⟩ ⟨i_v19a, i_v19b⟩ ia_fn111 ia_fn113 H.size) (cwV 0 hts g_X12_years_1 rfl rfl rfl (by decide +kernel) ⟨Nat.le_of_ble_eq_true rfl, Nat.le_of_ble_eq_true rfl⟩) (pv_PV12 hPc hKc hDc (q0 := 0) rfl) rfl rfl hl.1 rfl (lv_room (Nat.le_of_ble_eq_true rfl)) dX12_years_32 ⟨Nat.le_of_ble_eq_true rfl, Nat.le_of_ble_eq_true rfl⟩) hS (fun q _ h => hFc q h) hFc (fun u t H1 locs ht hvm hwra127 hB hz1 hk1 hS => ?_)
            obtain ⟨x128, fn129, oa_x128, ob_x128, ia_fn129, hP1, hK1, hD1⟩ := hB
            rw [ht] at hP1
            obtain ⟨hP2, hD2⟩ := va_join (wr := (wd_4dc6964c h1 g0 f20 h2 g1 f21 h3 g2 f22 h4 g3 f23 h5 g4 f24 h6 g5 f25 h7 g6 fn109 h8 g7 fn110 h9 g8 f28 h11 g10 fn112)) (w1 := (wd_baa7feb8 h0 v0 r0 v1 v2 v3 v4 h1 h2 r1 h3 h4 h5 h6 v5 v6 h7 h8 r2 r3 v7 h9 r4 v8 v9 h10 r5 v10 v11 h11 x105 x106 h12 x128 y108 r6 v16 v17 r7 r8 r9 r10 r11 r12 v18 r13 r14 r15 v19 h10 g9 fn111 h12 g11 fn129)) hP hD [0, 10, 12] [1, 2, 3, 4, 5, 6, 7, 8, 9, 11] rfl rfl (by decide +kernel) (by decide +kernel) hk1 hFc hP1 hD1
            clear hP hD hPc hDc hKc hFc hP1 hK1 hD1 hk1 hz1
            generalize H1 = H at hP2 hS ⊢
            have hP := hP2.sub (ws' := (wd_210a5a56 h0 v0 r0 v1 v2 v3 v4 h1 h2 r1 h3 h4 h5 h6 v5 v6 h7 h8 r2 r3 v7 h9 r4 v8 v9 h10 r5 v10 v11 h11 x105 x106 h12 x128 y108 r6 v16 v17 r7 r8 r9 r10 r11 r12 v18 r13 r14 r15 v19 h1 g0 f20 h2 g1 f21 h3 g2 f22 h4 g3 f23 h5 g4 f24 h6 g5 f25 h7 g6 fn109 h8 g7 fn110 h9 g8 f28 h10 g9 fn111 h11 g10 fn112 h12 g11 fn129)) [10, 0, 1, 2, 3, 4, 5, 6, 7, 8, 11, 9, 12] rfl
            have hD := hD2.sub (ws' := (wd_210a5a56 h0 v0 r0 v1 v2 v3 v4 h1 h2 r1 h3 h4 h5 h6 v5 v6 h7 h8 r2 r3 v7 h9 r4 v8 v9 h10 r5 v10 v11 h11 x105 x106 h12 x128 y108 r6 v16 v17 r7 r8 r9 r10 r11 r12 v18 r13 r14 r15 v19 h1 g0 f20 h2 g1 f21 h3 g2 f22 h4 g3 f23 h5 g4 f24 h6 g5 f25 h7 g6 fn109 h8 g7 fn110 h9 g8 f28 h10 g9 fn111 h11 g10 fn112 h12 g11 fn129)) [10, 0, 1, 2, 3, 4, 5, 6, 7, 8, 11, 9, 12] (by decide +kernel) rfl
            clear hP2 hD2
            refine lv_aload_n hx hb dX12_years_35 rfl (lv_at hl 1 rfl) ?_
            have hPc := hP.sub (ws' := (wd_78675856 h0 v0 r0 v1 v2 v3 v4 h1 h2 r1 h3 h4 h5 h6 v5 v6 h7 h8 r2 r3 v7 h9 r4 v8 v9 h10 r5 v10 v11 h11 x105 x106 h12 x128 y108 r6 v16 v17 r7 r8 r9 r10 r11 r12 v18 r13 r14 r15 v19 h9 g8 f28 h10 g9 fn111)) [0, 9, 10] rfl
            have hDc := hD.sub (ws' := (wd_78675856 h0 v0 r0 v1 v2 v3 v4 h1 h2 r1 h3 h4 h5 h6 v5 v6 h7 h8 r2 r3 v7 h9 r4 v8 v9 h10 r5 v10 v11 h11 x105 x106 h12 x128 y108 r6 v16 v17 r7 r8 r9 r10 r11 r12 v18 r13 r14 r15 v19 h9 g8 f28 h10 g9 fn111)) [0, 9, 10] (by decide) rfl
            have hKc := hK.sub (tys' := [(g8, .int), (g9, .int)]) [8, 9] rfl
            have hFc := va_free (wc := (wd_78675856 h0 v0 r0 v1 v2 v3 v4 h1 h2 r1 h3 h4 h5 h6 v5 v6 h7 h8 r2 r3 v7 h9 r4 v8 v9 h10 r5 v10 v11 h11 x105 x106 h12 x128 y108 r6 v16 v17 r7 r8 r9 r10 r11 r12 v18 r13 r14 r15 v19 h9 g8 f28 h10 g9 fn111)) hD hS hA [0, 9, 10] rfl
            refine va_callv (va_runV (As := []) (rest := []) ⟨hx, hb, hml, hown, hts⟩ (k_X12_drawDay l dC dI h0 h9 h10 v0 r0 v1 v2 v3 v4 h1 h2 r1 h3 h4 h5 h6 v5 v6 h7 h8 r2 r3 v7 r4 v8 v9 r5 v10 v11 h11 x105 x106 h12 x128 y108 r6 v16 v17 r7 r8 r9 r10 r11 r12 v18 r13 r14 r15 v19 g8 f28 g9 fn111 ⟨i_v1a, i_v1b⟩ ⟨i_v5a, i_v5b⟩ ⟨i_v6a, i_v6b⟩ ⟨i_v7a, i_v7b⟩ ⟨i_v8a, i_v8b⟩ ⟨i_v9a, i_v9b⟩ ⟨i_v10a, i_v10b⟩ ⟨by first | omega | decide, ob_x128⟩ ⟨i_v18a, i_v18b⟩ ⟨i_v19a, i_v19b⟩ ia_f28 ia_fn111 (by exact pp0 (by omega)) H.size) (cwV 0 hts g_X12_years_2 rfl rfl rfl (by decide +kernel) ⟨Nat.le_of_ble_eq_true rfl, Nat.le_of_ble_eq_true rfl⟩) (pv_PV12 hPc hKc hDc (q0 := 0) rfl) rfl rfl hl.1 rfl (lv_room (Nat.le_of_ble_eq_true rfl)) dX12_years_36 ⟨Nat.le_of_ble_eq_true rfl, Nat.le_of_ble_eq_true rfl⟩) hS (fun q _ h => hFc q h) hFc (fun u t H1 locs ht hvm hwra130 hB hz1 hk1 hS => ?_)
            obtain ⟨y131, fn132, ia_fn132, hP1, hK1, hD1⟩ := hB
            rw [ht] at hP1
            obtain ⟨hP2, hD2⟩ := va_join (wr := (wd_4396b86f h1 g0 f20 h2 g1 f21 h3 g2 f22 h4 g3 f23 h5 g4 f24 h6 g5 f25 h7 g6 fn109 h8 g7 fn110 h11 g10 fn112 h12 g11 fn129)) (w1 := (wd_78675856 h0 v0 r0 v1 v2 v3 v4 h1 h2 r1 h3 h4 h5 h6 v5 v6 h7 h8 r2 r3 v7 h9 r4 v8 v9 h10 r5 v10 v11 h11 x105 x106 h12 x128 y131 r6 v16 v17 r7 r8 r9 r10 r11 r12 v18 r13 r14 r15 v19 h9 g8 f28 h10 g9 fn132)) hP hD [0, 9, 10] [1, 2, 3, 4, 5, 6, 7, 8, 11, 12] rfl rfl (by decide +kernel) (by decide +kernel) hk1 hFc hP1 hD1
            clear hP hD hPc hDc hKc hFc hP1 hK1 hD1 hk1 hz1
            generalize H1 = H at hP2 hS ⊢
            have hP := hP2.sub (ws' := (wd_210a5a56 h0 v0 r0 v1 v2 v3 v4 h1 h2 r1 h3 h4 h5 h6 v5 v6 h7 h8 r2 r3 v7 h9 r4 v8 v9 h10 r5 v10 v11 h11 x105 x106 h12 x128 y131 r6 v16 v17 r7 r8 r9 r10 r11 r12 v18 r13 r14 r15 v19 h1 g0 f20 h2 g1 f21 h3 g2 f22 h4 g3 f23 h5 g4 f24 h6 g5 f25 h7 g6 fn109 h8 g7 fn110 h9 g8 f28 h10 g9 fn132 h11 g10 fn112 h12 g11 fn129)) [10, 0, 1, 2, 3, 4, 5, 6, 7, 11, 12, 8, 9] rfl
            have hD := hD2.sub (ws' := (wd_210a5a56 h0 v0 r0 v1 v2 v3 v4 h1 h2 r1 h3 h4 h5 h6 v5 v6 h7 h8 r2 r3 v7 h9 r4 v8 v9 h10 r5 v10 v11 h11 x105 x106 h12 x128 y131 r6 v16 v17 r7 r8 r9 r10 r11 r12 v18 r13 r14 r15 v19 h1 g0 f20 h2 g1 f21 h3 g2 f22 h4 g3 f23 h5 g4 f24 h6 g5 f25 h7 g6 fn109 h8 g7 fn110 h9 g8 f28 h10 g9 fn132 h11 g10 fn112 h12 g11 fn129)) [10, 0, 1, 2, 3, 4, 5, 6, 7, 11, 12, 8, 9] (by decide +kernel) rfl
            clear hP2 hD2
            refine lv_aload_n hx hb dX12_years_39 rfl (lv_at hl 1 rfl) ?_
            have hPc := hP.sub (ws' := (wd_935d8763 h0 v0 r0 v1 v2 v3 v4 h1 h2 r1 h3 h4 h5 h6 v5 v6 h7 h8 r2 r3 v7 h9 r4 v8 v9 h10 r5 v10 v11 h11 x105 x106 h12 x128 y131 r6 v16 v17 r7 r8 r9 r10 r11 r12 v18 r13 r14 r15 v19 h1 g0 f20 h2 g1 f21 h3 g2 f22 h4 g3 f23 h5 g4 f24 h6 g5 f25 h7 g6 fn109 h8 g7 fn110 h9 g8 f28 h10 g9 fn132 h11 g10 fn112)) [0, 1, 2, 3, 4, 5, 6, 7, 8, 9, 10, 11] rfl
            have hDc := hD.sub (ws' := (wd_935d8763 h0 v0 r0 v1 v2 v3 v4 h1 h2 r1 h3 h4 h5 h6 v5 v6 h7 h8 r2 r3 v7 h9 r4 v8 v9 h10 r5 v10 v11 h11 x105 x106 h12 x128 y131 r6 v16 v17 r7 r8 r9 r10 r11 r12 v18 r13 r14 r15 v19 h1 g0 f20 h2 g1 f21 h3 g2 f22 h4 g3 f23 h5 g4 f24 h6 g5 f25 h7 g6 fn109 h8 g7 fn110 h9 g8 f28 h10 g9 fn132 h11 g10 fn112)) [0, 1, 2, 3, 4, 5, 6, 7, 8, 9, 10, 11] (by decide +kernel) rfl
            have hKc := hK.sub (tys' := [(g0, .int), (g1, .int), (g2, .int), (g3, .int), (g4, .int), (g5, .int), (g6, .int), (g7, .int), (g8, .int), (g9, .int), (g10, .int)]) [0, 1, 2, 3, 4, 5, 6, 7, 8, 9, 10] rfl
            have hFc := va_free (wc := (wd_935d8763 h0 v0 r0 v1 v2 v3 v4 h1 h2 r1 h3 h4 h5 h6 v5 v6 h7 h8 r2 r3 v7 h9 r4 v8 v9 h10 r5 v10 v11 h11 x105 x106 h12 x128 y131 r6 v16 v17 r7 r8 r9 r10 r11 r12 v18 r13 r14 r15 v19 h1 g0 f20 h2 g1 f21 h3 g2 f22 h4 g3 f23 h5 g4 f24 h6 g5 f25 h7 g6 fn109 h8 g7 fn110 h9 g8 f28 h10 g9 fn132 h11 g10 fn112)) hD hS hA [0, 1, 2, 3, 4, 5, 6, 7, 8, 9, 10, 11] rfl
            refine va_callv (va_runV (As := []) (rest := []) ⟨hx, hb, hml, hown, hts⟩ (k_X12_passDay l dC dI h0 h1 h2 h3 h4 h5 h6 h7 h8 h9 h10 h11 v0 r0 v1 v2 v3 v4 r1 v5 v6 r2 r3 v7 r4 v8 v9 r5 v10 v11 x105 x106 h12 x128 y131 r6 v16 v17 r7 r8 r9 r10 r11 r12 v18 r13 r14 r15 v19 g0 f20 g1 f21 g2 f22 g3 f23 g4 f24 g5 f25 g6 fn109 g7 fn110 g8 f28 g9 fn132 g10 fn112 ⟨i_v1a, i_v1b⟩ ⟨i_v5a, i_v5b⟩ ⟨i_v6a, i_v6b⟩ ⟨i_v7a, i_v7b⟩ ⟨i_v8a, i_v8b⟩ ⟨i_v9a, i_v9b⟩ ⟨i_v10a, i_v10b⟩ ⟨by first | omega | decide, ob_x128⟩ ⟨i_v18a, i_v18b⟩ ⟨i_v19a, i_v19b⟩ ia_f28 ia_fn132 pp1 H.size) (cwV 0 hts g_X12_years_3 rfl rfl rfl (by decide +kernel) ⟨Nat.le_of_ble_eq_true rfl, Nat.le_of_ble_eq_true rfl⟩) (pv_PV12 hPc hKc hDc (q0 := 0) rfl) rfl rfl hl.1 rfl (lv_room (Nat.le_of_ble_eq_true rfl)) dX12_years_40 ⟨Nat.le_of_ble_eq_true rfl, Nat.le_of_ble_eq_true rfl⟩) hS (fun q _ h => hFc q h) hFc (fun u t H1 locs ht hvm hwra133 hB hz1 hk1 hS => ?_)
            obtain ⟨x134, x135, fn136, fn137, fn138, fn139, ia_fn138, hP1, hK1, hD1⟩ := hB
            rw [ht] at hP1
            obtain ⟨hP2, hD2⟩ := va_join (wr := (wd_534b6bea h12 g11 fn129)) (w1 := (wd_935d8763 h0 v0 r0 v1 v2 v3 v4 h1 h2 r1 h3 h4 h5 h6 v5 v6 h7 h8 r2 r3 v7 h9 r4 v8 v9 h10 r5 v10 v11 h11 x134 x135 h12 x128 y131 r6 v16 v17 r7 r8 r9 r10 r11 r12 v18 r13 r14 r15 v19 h1 g0 f20 h2 g1 f21 h3 g2 f22 h4 g3 f23 h5 g4 f24 h6 g5 f25 h7 g6 fn136 h8 g7 fn137 h9 g8 f28 h10 g9 fn138 h11 g10 fn139)) hP hD [0, 1, 2, 3, 4, 5, 6, 7, 8, 9, 10, 11] [12] rfl rfl (by decide +kernel) (by decide +kernel) hk1 hFc hP1 hD1
            clear hP hD hPc hDc hKc hFc hP1 hK1 hD1 hk1 hz1
            generalize H1 = H at hP2 hS ⊢
            have hP := hP2.sub (ws' := (wd_210a5a56 h0 v0 r0 v1 v2 v3 v4 h1 h2 r1 h3 h4 h5 h6 v5 v6 h7 h8 r2 r3 v7 h9 r4 v8 v9 h10 r5 v10 v11 h11 x134 x135 h12 x128 y131 r6 v16 v17 r7 r8 r9 r10 r11 r12 v18 r13 r14 r15 v19 h1 g0 f20 h2 g1 f21 h3 g2 f22 h4 g3 f23 h5 g4 f24 h6 g5 f25 h7 g6 fn136 h8 g7 fn137 h9 g8 f28 h10 g9 fn138 h11 g10 fn139 h12 g11 fn129)) [1, 2, 3, 4, 5, 6, 7, 8, 9, 10, 11, 12, 0] rfl
            have hD := hD2.sub (ws' := (wd_210a5a56 h0 v0 r0 v1 v2 v3 v4 h1 h2 r1 h3 h4 h5 h6 v5 v6 h7 h8 r2 r3 v7 h9 r4 v8 v9 h10 r5 v10 v11 h11 x134 x135 h12 x128 y131 r6 v16 v17 r7 r8 r9 r10 r11 r12 v18 r13 r14 r15 v19 h1 g0 f20 h2 g1 f21 h3 g2 f22 h4 g3 f23 h5 g4 f24 h6 g5 f25 h7 g6 fn136 h8 g7 fn137 h9 g8 f28 h10 g9 fn138 h11 g10 fn139 h12 g11 fn129)) [1, 2, 3, 4, 5, 6, 7, 8, 9, 10, 11, 12, 0] (by decide +kernel) rfl
            clear hP2 hD2
            obtain ⟨t140, et140⟩ : ∃ y : Int32, y = x104 + 1 := ⟨_, rfl⟩
            have gt140 : t140.toInt = x104.toInt + (1) := pv_add (a := x104.toInt) (b := (1)) et140 rfl (by decide) (by omega) (by omega)
            refine lv_iinc (v := t140) (lv' := [(4, .int t140), (0, .ref h0), (1, .int v32), (2, .long w33)]) hx hb dX12_years_43 hl (k := 0) rfl (by rw [et140]; rfl) (by decide) rfl (fun ls hl => ?_)
            refine lv_goto (tgt := 25) hx hb dX12_years_46 (by decide) ?_
            exact ih_hL124 t140 x134 x135 x128 y131 fn136 fn137 fn138 fn139 fn129 H locs ls (by first | omega | decide) (by first | omega | decide) ob_x128 ia_fn138 ia_fn129 (by first | omega | (simp only [Int.toNat] at *; omega)) hP hD hS (lv_sub hl [0, 1, 2, 3] rfl)
      exact hL124 _ 0 v12 v13 v14 w33 f26 f27 f29 f30 f31 H locs ls (by decide) i_v14a i_v14b ia_f29 ia_f31 (Nat.lt_succ_self _) hP hD hS (lv_sub hl [0, 1, 2, 3] rfl)
    · skip
      have fc3 : ra2.toInt = 0 := congrArg Int32.toInt c3
      refine lv_iconst (v := (-1)) hx hb dX12_years_15 (by decide) ?_
      subst hQ
      have hP9 := hP.sub (ws' := (wd_210a5a56 h0 v0 r0 v1 v2 v3 v4 h1 h2 r1 h3 h4 h5 h6 v5 v6 h7 h8 r2 r3 v7 h9 r4 v8 v9 h10 r5 v10 v11 h11 v12 v13 h12 v14 w15 r6 v16 v17 r7 r8 r9 r10 r11 r12 v18 r13 r14 r15 v19 h1 g0 f20 h2 g1 f21 h3 g2 f22 h4 g3 f23 h5 g4 f24 h6 g5 f25 h7 g6 f26 h8 g7 f27 h9 g8 f28 h10 g9 f29 h11 g10 f30 h12 g11 f31)) [0, 1, 2, 3, 4, 5, 6, 7, 8, 9, 10, 11, 12] rfl
      have hD9 := hD.sub (ws' := (wd_210a5a56 h0 v0 r0 v1 v2 v3 v4 h1 h2 r1 h3 h4 h5 h6 v5 v6 h7 h8 r2 r3 v7 h9 r4 v8 v9 h10 r5 v10 v11 h11 v12 v13 h12 v14 w15 r6 v16 v17 r7 r8 r9 r10 r11 r12 v18 r13 r14 r15 v19 h1 g0 f20 h2 g1 f21 h3 g2 f22 h4 g3 f23 h5 g4 f24 h6 g5 f25 h7 g6 f26 h8 g7 f27 h9 g8 f28 h10 g9 f29 h11 g10 f30 h12 g11 f31)) [0, 1, 2, 3, 4, 5, 6, 7, 8, 9, 10, 11, 12] (by decide +kernel) rfl
      have hK9 := hK.sub (tys' := []) [] rfl
      exact W.iret (v := (-1)) hx hb hr (fun t ht hW => ⟨⟨(-1), (-1), rfl, rfl, ⟨v12, v13, v14, w15, f26, f27, f29, f30, f31, i_v14a, i_v14b, ia_f29, ia_f31, by rw [ht]; exact hP9, va_K.moved hW.alike hK9, hD9⟩⟩, hS.F ht⟩) hS.2.2 dX12_years_16
def q_X12_valueOf : List Cond := .code yX12_valueOf cX12_valueOf 3 (some .int) :: (([.code yX12_of cX12_of 3 (some .int), .fieldLink RX12 52 "LeftArgumentsModel" "now" "[I", .initialized RX12, .instanceMethod yX12_of, .selects RX12 yX12_of yX12_of, .methodLink RX12 287 yX12_of, .code yX12_stubbornOf cX12_stubbornOf 2 (some .int), .instanceMethod yX12_stubbornOf, .selects RX12 yX12_stubbornOf yX12_stubbornOf, .methodLink RX12 414 yX12_stubbornOf, .code yX12_growthOf cX12_growthOf 4 (some .int), .code yX12_withOf cX12_withOf 4 (some .int), .code yX12_isThere cX12_isThere 2 (some .boolean), .code yX12_in cX12_in 3 (some .boolean), .static yX12_in, .methodLink RX12 217 yX12_in, .instanceMethod yX12_isThere, .selects RX12 yX12_isThere yX12_isThere, .methodLink RX12 290 yX12_isThere, .instanceMethod yX12_withOf, .selects RX12 yX12_withOf yX12_withOf, .methodLink RX12 293 yX12_withOf, .fieldLink RX12 58 "LeftArgumentsModel" "holding" "I", .methodLink RX12 299 Lib.Math.min.name, .static Lib.Math.min.name, .initialized "java/lang/Math", .code Lib.Math.min.name Lib.Math.min.code 2 (some .int), .methodLink RX12 301 Lib.Math.max.name, .static Lib.Math.max.name, .code Lib.Math.max.name Lib.Math.max.code 2 (some .int), .fieldLink RX12 34 "LeftArgumentsModel" "letters" "[I", .code yX12_worthOf cX12_worthOf 3 (some .int), .fieldLink RX12 22 "LeftArgumentsModel" "clauses" "[I", .fieldLink RX12 25 "LeftArgumentsModel" "testFrom" "[I", .fieldLink RX12 28 "LeftArgumentsModel" "sumFrom" "[I", .fieldLink RX12 31 "LeftArgumentsModel" "sumTo" "[I", .code yX12_workOut cX12_workOut 6 (some .int), .fieldLink RX12 37 "LeftArgumentsModel" "stack" "[I", .fieldLink RX12 13 "LeftArgumentsModel" "code" "[I", .fieldLink RX12 16 "LeftArgumentsModel" "value" "[I", .code yX12_worked cX12_worked 5 (some .int), .code yX12_bounded cX12_bounded 2 (some .int), .constantLong RX12 192 (-1000000), .constantLong RX12 194 (1000000), .methodLink RX12 196 Lib.MathLoose.min_long.x, .static Lib.MathLoose.min_long.x, .code Lib.MathLoose.min_long.x Lib.MathLoose.min_long.code 4 (some .long), .methodLink RX12 202 Lib.MathLoose.max_long.x, .static Lib.MathLoose.max_long.x, .code Lib.MathLoose.max_long.x Lib.MathLoose.max_long.code 4 (some .long), .static yX12_bounded, .methodLink RX12 205 yX12_bounded, .static yX12_worked, .methodLink RX12 209 yX12_worked, .instanceMethod yX12_workOut, .selects RX12 yX12_workOut yX12_workOut, .methodLink RX12 213 yX12_workOut, .instanceMethod yX12_worthOf, .selects RX12 yX12_worthOf yX12_worthOf, .methodLink RX12 296 yX12_worthOf, .instanceMethod yX12_growthOf, .selects RX12 yX12_growthOf yX12_growthOf, .methodLink RX12 303 yX12_growthOf] : List Cond) ++ wsX120)
set_option maxRecDepth 20000 in
theorem g_X12_valueOf_0 : GoodIn q_X12_valueOf (wsV RX12 287 RX12 yX12_of q_X12_of_3) := goodIn_app (goodIn_r _ [6, 4, 5, 3] rfl (by decide +kernel)) (goodIn_ca (goodIn_r (.code yX12_of cX12_of 3 (some .int) :: [.fieldLink RX12 52 "LeftArgumentsModel" "now" "[I"]) [1, 2] rfl (by decide +kernel)) (goodIn_sub (fun _ h => List.mem_cons_of_mem _ (List.mem_append_right _ h)) gwX12))
set_option maxRecDepth 20000 in
theorem g_X12_valueOf_1 : GoodIn q_X12_valueOf (wsV RX12 287 RX12 yX12_of q_X12_of_5) := goodIn_app (goodIn_r _ [6, 4, 5, 3] rfl (by decide +kernel)) (goodIn_ca (goodIn_r (.code yX12_of cX12_of 3 (some .int) :: [.fieldLink RX12 52 "LeftArgumentsModel" "now" "[I"]) [1, 2] rfl (by decide +kernel)) (goodIn_sub (fun _ h => List.mem_cons_of_mem _ (List.mem_append_right _ h)) gwX12))
set_option maxRecDepth 20000 in
theorem g_X12_valueOf_2 : GoodIn q_X12_valueOf (wsV RX12 414 RX12 yX12_stubbornOf q_X12_stubbornOf) := goodIn_app (goodIn_r _ [10, 8, 9, 3] rfl (by decide +kernel)) (goodIn_ca (goodIn_r (.code yX12_stubbornOf cX12_stubbornOf 2 (some .int) :: [.code yX12_of cX12_of 3 (some .int), .fieldLink RX12 52 "LeftArgumentsModel" "now" "[I", .initialized RX12, .instanceMethod yX12_of, .selects RX12 yX12_of yX12_of, .methodLink RX12 287 yX12_of]) [7, 1, 2, 3, 4, 5, 6] rfl (by decide +kernel)) (goodIn_sub (fun _ h => List.mem_cons_of_mem _ (List.mem_append_right _ h)) gwX12))
set_option maxRecDepth 20000 in
theorem g_X12_valueOf_3 : GoodIn q_X12_valueOf (wsV RX12 303 RX12 yX12_growthOf q_X12_growthOf) := goodIn_app (goodIn_r _ [63, 61, 62, 3] rfl (by decide +kernel)) (goodIn_ca (goodIn_r (.code yX12_growthOf cX12_growthOf 4 (some .int) :: [.code yX12_of cX12_of 3 (some .int), .fieldLink RX12 52 "LeftArgumentsModel" "now" "[I", .initialized RX12, .instanceMethod yX12_of, .selects RX12 yX12_of yX12_of, .methodLink RX12 287 yX12_of, .code yX12_withOf cX12_withOf 4 (some .int), .code yX12_isThere cX12_isThere 2 (some .boolean), .code yX12_in cX12_in 3 (some .boolean), .static yX12_in, .methodLink RX12 217 yX12_in, .instanceMethod yX12_isThere, .selects RX12 yX12_isThere yX12_isThere, .methodLink RX12 290 yX12_isThere, .instanceMethod yX12_withOf, .selects RX12 yX12_withOf yX12_withOf, .methodLink RX12 293 yX12_withOf, .fieldLink RX12 58 "LeftArgumentsModel" "holding" "I", .methodLink RX12 299 Lib.Math.min.name, .static Lib.Math.min.name, .initialized "java/lang/Math", .code Lib.Math.min.name Lib.Math.min.code 2 (some .int), .methodLink RX12 301 Lib.Math.max.name, .static Lib.Math.max.name, .code Lib.Math.max.name Lib.Math.max.code 2 (some .int), .fieldLink RX12 34 "LeftArgumentsModel" "letters" "[I", .code yX12_worthOf cX12_worthOf 3 (some .int), .fieldLink RX12 22 "LeftArgumentsModel" "clauses" "[I", .fieldLink RX12 25 "LeftArgumentsModel" "testFrom" "[I", .fieldLink RX12 28 "LeftArgumentsModel" "sumFrom" "[I", .fieldLink RX12 31 "LeftArgumentsModel" "sumTo" "[I", .code yX12_workOut cX12_workOut 6 (some .int), .fieldLink RX12 37 "LeftArgumentsModel" "stack" "[I", .fieldLink RX12 13 "LeftArgumentsModel" "code" "[I", .fieldLink RX12 16 "LeftArgumentsModel" "value" "[I", .code yX12_worked cX12_worked 5 (some .int), .code yX12_bounded cX12_bounded 2 (some .int), .constantLong RX12 192 (-1000000), .constantLong RX12 194 (1000000), .methodLink RX12 196 Lib.MathLoose.min_long.x, .static Lib.MathLoose.min_long.x, .code Lib.MathLoose.min_long.x Lib.MathLoose.min_long.code 4 (some .long), .methodLink RX12 202 Lib.MathLoose.max_long.x, .static Lib.MathLoose.max_long.x, .code Lib.MathLoose.max_long.x Lib.MathLoose.max_long.code 4 (some .long), .static yX12_bounded, .methodLink RX12 205 yX12_bounded, .static yX12_worked, .methodLink RX12 209 yX12_worked, .instanceMethod yX12_workOut, .selects RX12 yX12_workOut yX12_workOut, .methodLink RX12 213 yX12_workOut, .instanceMethod yX12_worthOf, .selects RX12 yX12_worthOf yX12_worthOf, .methodLink RX12 296 yX12_worthOf]) [11, 1, 2, 3, 4, 5, 6, 12, 13, 14, 15, 16, 17, 18, 19, 20, 21, 22, 23, 24, 25, 26, 27, 28, 29, 30, 31, 32, 33, 34, 35, 36, 37, 38, 39, 40, 41, 42, 43, 44, 45, 46, 47, 48, 49, 50, 51, 52, 53, 54, 55, 56, 57, 58, 59, 60] rfl (by decide +kernel)) (goodIn_sub (fun _ h => List.mem_cons_of_mem _ (List.mem_append_right _ h)) gwX12))
set_option maxHeartbeats 4000000 in
set_option maxRecDepth 100000 in
theorem k_X12_valueOf (l : Launch) (dC : Nat → ClassId) (dI : Nat → Nat → Nat) (h0 : Nat) (h1 : Nat) (h2 : Nat) (h3 : Nat) (h4 : Nat) (h5 : Nat) (h6 : Nat) (h7 : Nat) (h8 : Nat) (h9 : Nat) (v0 : Int32) (r0 : Nat) (v1 : Int32) (v2 : Int32) (v3 : Int32) (v4 : Int32) (r1 : Nat) (v5 : Int32) (v6 : Int32) (r2 : Nat) (r3 : Nat) (v7 : Int32) (r4 : Nat) (r5 : Nat) (v8 : Int32) (v9 : Int32) (r6 : Nat) (v10 : Int32) (v11 : Int32) (r7 : Nat) (v12 : Int32) (v13 : Int32) (r8 : Nat) (v14 : Int32) (w15 : Int64) (r9 : Nat) (v16 : Int32) (v17 : Int32) (r10 : Nat) (r11 : Nat) (r12 : Nat) (r13 : Nat) (r14 : Nat) (r15 : Nat) (v18 : Int32) (r16 : Nat) (r17 : Nat) (r18 : Nat) (v19 : Int32) (g0 : ClassId) (f20 : Nat → Int32) (g1 : ClassId) (f21 : Nat → Int32) (g2 : ClassId) (f22 : Nat → Int32) (g3 : ClassId) (f23 : Nat → Int32) (g4 : ClassId) (f24 : Nat → Int32) (g5 : ClassId) (f25 : Nat → Int32) (g6 : ClassId) (f26 : Nat → Int32) (g7 : ClassId) (f27 : Nat → Int32) (g8 : ClassId) (f28 : Nat → Int32) (v29 : Int32) (v30 : Int32) (i_v1 : 0 ≤ v1.toInt ∧ v1.toInt ≤ 240) (i_v5 : 0 ≤ v5.toInt ∧ v5.toInt ≤ 4) (i_v6 : 0 ≤ v6.toInt ∧ v6.toInt ≤ 4) (i_v7 : 0 ≤ v7.toInt ∧ v7.toInt ≤ 8) (i_v8 : 0 ≤ v8.toInt ∧ v8.toInt ≤ 8) (i_v9 : 0 ≤ v9.toInt ∧ v9.toInt ≤ 1) (i_v10 : -1 ≤ v10.toInt ∧ v10.toInt ≤ 3) (i_v14 : 0 ≤ v14.toInt ∧ v14.toInt ≤ 40) (i_v18 : 0 ≤ v18.toInt ∧ v18.toInt ≤ 10) (i_v19 : 0 ≤ v19.toInt ∧ v19.toInt ≤ 1) (i_v29 : 0 ≤ v29.toInt ∧ v29.toInt ≤ 7) (ia_f28 : (pm_NW f28)) (pp0 : pm_Held v10 f20 f21 f22 f23 f24 f25) (sz : Nat) : Met l yX12_valueOf q_X12_valueOf ({ frames := 6, cells := 0, slots := 0, locals := 132 }) (va_Pc [.ref h0, .int v29, .int v30] (fun U => U.heap.size = sz ∧ va_P (dC, dI) vwCl (wd_c0e4689d h0 v0 r0 v1 v2 v3 v4 h1 h2 r1 h3 h4 h5 h6 v5 v6 h7 h8 r2 r3 v7 r4 r5 v8 v9 h9 r6 v10 v11 r7 v12 v13 r8 v14 w15 r9 v16 v17 r10 r11 r12 r13 r14 r15 v18 r16 r17 r18 v19 h1 g0 f20 h2 g1 f21 h3 g2 f22 h4 g3 f23 h5 g4 f24 h6 g5 f25 h7 g6 f26 h8 g7 f27 h9 g8 f28) U.heap ∧ va_K (dC, dI) vwCl [(g0, .int), (g1, .int), (g2, .int), (g3, .int), (g4, .int), (g5, .int), (g6, .int), (g7, .int), (g8, .int)] U ∧ va_D (fun _ => True) (wd_c0e4689d h0 v0 r0 v1 v2 v3 v4 h1 h2 r1 h3 h4 h5 h6 v5 v6 h7 h8 r2 r3 v7 r4 r5 v8 v9 h9 r6 v10 v11 r7 v12 v13 r8 v14 w15 r9 v16 v17 r10 r11 r12 r13 r14 r15 v18 r16 r17 r18 v19 h1 g0 f20 h2 g1 f21 h3 g2 f22 h4 g3 f23 h5 g4 f24 h6 g5 f25 h7 g6 f26 h8 g7 f27 h9 g8 f28))) (va_Qi (fun (r : Int32) (r9 : Int32) => r9 = r) (fun (r : Int32) (t : State) => (∃ (o_h7 : Nat → Int32) (o_h8 : Nat → Int32), va_P (dC, dI) vwCl (wd_c0e4689d h0 v0 r0 v1 v2 v3 v4 h1 h2 r1 h3 h4 h5 h6 v5 v6 h7 h8 r2 r3 v7 r4 r5 v8 v9 h9 r6 v10 v11 r7 v12 v13 r8 v14 w15 r9 v16 v17 r10 r11 r12 r13 r14 r15 v18 r16 r17 r18 v19 h1 g0 f20 h2 g1 f21 h3 g2 f22 h4 g3 f23 h5 g4 f24 h6 g5 f25 h7 g6 o_h7 h8 g7 o_h8 h9 g8 f28) t.heap ∧ va_K (dC, dI) vwCl [] t ∧ va_D (va_A (wd_c0e4689d h0 v0 r0 v1 v2 v3 v4 h1 h2 r1 h3 h4 h5 h6 v5 v6 h7 h8 r2 r3 v7 r4 r5 v8 v9 h9 r6 v10 v11 r7 v12 v13 r8 v14 w15 r9 v16 v17 r10 r11 r12 r13 r14 r15 v18 r16 r17 r18 v19 h1 g0 f20 h2 g1 f21 h3 g2 f22 h4 g3 f23 h5 g4 f24 h6 g5 f25 h7 g6 f26 h8 g7 f27 h9 g8 f28) sz) (wd_c0e4689d h0 v0 r0 v1 v2 v3 v4 h1 h2 r1 h3 h4 h5 h6 v5 v6 h7 h8 r2 r3 v7 r4 r5 v8 v9 h9 r6 v10 v11 r7 v12 v13 r8 v14 w15 r9 v16 v17 r10 r11 r12 r13 r14 r15 v18 r16 r17 r18 v19 h1 g0 f20 h2 g1 f21 h3 g2 f22 h4 g3 f23 h5 g4 f24 h6 g5 f25 h7 g6 o_h7 h8 g7 o_h8 h9 g8 f28))) (va_A (wd_c0e4689d h0 v0 r0 v1 v2 v3 v4 h1 h2 r1 h3 h4 h5 h6 v5 v6 h7 h8 r2 r3 v7 r4 r5 v8 v9 h9 r6 v10 v11 r7 v12 v13 r8 v14 w15 r9 v16 v17 r10 r11 r12 r13 r14 r15 v18 r16 r17 r18 v19 h1 g0 f20 h2 g1 f21 h3 g2 f22 h4 g3 f23 h5 g4 f24 h6 g5 f25 h7 g6 f26 h8 g7 f27 h9 g8 f28) sz)) 0 0 (va_A (wd_c0e4689d h0 v0 r0 v1 v2 v3 v4 h1 h2 r1 h3 h4 h5 h6 v5 v6 h7 h8 r2 r3 v7 r4 r5 v8 v9 h9 r6 v10 v11 r7 v12 v13 r8 v14 w15 r9 v16 v17 r10 r11 r12 r13 r14 r15 v18 r16 r17 r18 v19 h1 g0 f20 h2 g1 f21 h3 g2 f22 h4 g3 f23 h5 g4 f24 h6 g5 f25 h7 g6 f26 h8 g7 f27 h9 g8 f28) sz) := by
  refine Met.ofW (cc := cX12_valueOf) (maxL := 3) (ret := (some .int)) (by decide) rfl ?_
  intro p e s m args below meth c s₁ B hml hv
  obtain ⟨i_v1a, i_v1b⟩ := i_v1
  obtain ⟨i_v5a, i_v5b⟩ := i_v5
  obtain ⟨i_v6a, i_v6b⟩ := i_v6
  obtain ⟨i_v7a, i_v7b⟩ := i_v7
  obtain ⟨i_v8a, i_v8b⟩ := i_v8
  obtain ⟨i_v9a, i_v9b⟩ := i_v9
  obtain ⟨i_v10a, i_v10b⟩ := i_v10
  obtain ⟨i_v14a, i_v14b⟩ := i_v14
  obtain ⟨i_v18a, i_v18b⟩ := i_v18
  obtain ⟨i_v19a, i_v19b⟩ := i_v19
  obtain ⟨i_v29a, i_v29b⟩ := i_v29
  obtain ⟨rfl, hsz, hP, hK, hD0⟩ := hv
  have hx := B.exec
  have hb := B.bytes
  have hr := B.returns
  have hts := atoms_spec (ws := q_X12_valueOf) B.pre
  have hown : s.vm.findClass RX12 = some m.cls := findClass_of_methodNamed B.named
  have hlocks := B.notSynchronized
  subst hsz
  have hD := hD0.self (sz := s.heap.size)
  generalize hAe : va_A (wd_c0e4689d h0 v0 r0 v1 v2 v3 v4 h1 h2 r1 h3 h4 h5 h6 v5 v6 h7 h8 r2 r3 v7 r4 r5 v8 v9 h9 r6 v10 v11 r7 v12 v13 r8 v14 w15 r9 v16 v17 r10 r11 r12 r13 r14 r15 v18 r16 r17 r18 v19 h1 g0 f20 h2 g1 f21 h3 g2 f22 h4 g3 f23 h5 g4 f24 h6 g5 f25 h7 g6 f26 h8 g7 f27 h9 g8 f28) s.heap.size = A at hD ⊢
  have hA : ∀ q : Nat, s.heap.size ≤ q → A q := fun q h => by rw [← hAe]; exact Or.inr h
  have hS : va_S A s.heap s.heap [] := va_S.rf
  generalize hQ : (MQ below _ _ s 0 0 A) = Q
  have hl := lv_entry ([.ref h0, .int v29, .int v30]) (n := 3) (Nat.le_of_ble_eq_true rfl)
  rw [lg_entry_eq]
  generalize (lg_sl ([.ref h0, .int v29, .int v30]) ++ List.replicate (3 - (lg_sl ([.ref h0, .int v29, .int v30])).length) Slot.unset).toArray = ls at hl ⊢
  have hl : lv_has ls 3 [(0, .ref h0), (1, .int v29), (2, .int v30)] := hl
  obtain ⟨H, hH⟩ : ∃ H : Heap, H = s.heap := ⟨_, rfl⟩
  obtain ⟨locs, hlocs⟩ : ∃ y : List Loc, y = [] := ⟨_, rfl⟩
  have hS : va_S A s.heap H locs := by rw [hH, hlocs]; exact va_S.rf
  have hP : va_P (dC, dI) vwCl (wd_c0e4689d h0 v0 r0 v1 v2 v3 v4 h1 h2 r1 h3 h4 h5 h6 v5 v6 h7 h8 r2 r3 v7 r4 r5 v8 v9 h9 r6 v10 v11 r7 v12 v13 r8 v14 w15 r9 v16 v17 r10 r11 r12 r13 r14 r15 v18 r16 r17 r18 v19 h1 g0 f20 h2 g1 f21 h3 g2 f22 h4 g3 f23 h5 g4 f24 h6 g5 f25 h7 g6 f26 h8 g7 f27 h9 g8 f28) H := by rw [hH]; exact hP
  rw [← hH, ← hlocs]
  refine lv_iload_n hx hb dX12_valueOf_0 rfl (lv_at hl 2 rfl) ?_
  by_cases c1 : v30 = 0
  · skip
    have fc1 : v30.toInt = 0 := congrArg Int32.toInt c1
    refine lv_tableIn (off := 27) (tgt := 28) hx hb dX12_valueOf_1 (by rw [c1]; decide) (by rw [c1]; decide) (by rw [c1]; rfl) (by decide) ?_
    refine lv_aload_n hx hb dX12_valueOf_28 rfl (lv_at hl 0 rfl) ?_
    refine lv_iload_n hx hb dX12_valueOf_29 rfl (lv_at hl 1 rfl) ?_
    refine lv_iconst (v := 0) hx hb dX12_valueOf_30 (by decide) ?_
    have hPc := hP.sub (ws' := (wd_5013416a h0 v0 r0 v1 v2 v3 v4 h1 h2 r1 h3 h4 h5 h6 v5 v6 h7 h8 r2 r3 v7 r4 r5 v8 v9 h9 r6 v10 v11 r7 v12 v13 r8 v14 w15 r9 v16 v17 r10 r11 r12 r13 r14 r15 v18 r16 r17 r18 v19 h9 g8 f28)) [0, 9] rfl
    have hDc := hD.sub (ws' := (wd_5013416a h0 v0 r0 v1 v2 v3 v4 h1 h2 r1 h3 h4 h5 h6 v5 v6 h7 h8 r2 r3 v7 r4 r5 v8 v9 h9 r6 v10 v11 r7 v12 v13 r8 v14 w15 r9 v16 v17 r10 r11 r12 r13 r14 r15 v18 r16 r17 r18 v19 h9 g8 f28)) [0, 9] (by decide) rfl
    have hKc := hK.sub (tys' := [(g8, .int)]) [8] rfl
    have hFc := va_free (wc := (wd_5013416a h0 v0 r0 v1 v2 v3 v4 h1 h2 r1 h3 h4 h5 h6 v5 v6 h7 h8 r2 r3 v7 r4 r5 v8 v9 h9 r6 v10 v11 r7 v12 v13 r8 v14 w15 r9 v16 v17 r10 r11 r12 r13 r14 r15 v18 r16 r17 r18 v19 h9 g8 f28)) hD hS hA [0, 9] rfl
    refine va_calli (va_runV (As := [.int v29, .int 0]) (rest := []) ⟨hx, hb, hml, hown, hts⟩ (k_X12_of_3 l dC dI h0 h9 v0 r0 v1 v2 v3 v4 h1 h2 r1 h3 h4 h5 h6 v5 v6 h7 h8 r2 r3 v7 r4 r5 v8 v9 r6 v10 v11 r7 v12 v13 r8 v14 w15 r9 v16 v17 r10 r11 r12 r13 r14 r15 v18 r16 r17 r18 v19 g8 f28 v29 ⟨i_v1a, i_v1b⟩ ⟨i_v5a, i_v5b⟩ ⟨i_v6a, i_v6b⟩ ⟨i_v7a, i_v7b⟩ ⟨i_v8a, i_v8b⟩ ⟨i_v9a, i_v9b⟩ ⟨i_v10a, i_v10b⟩ ⟨i_v14a, i_v14b⟩ ⟨i_v18a, i_v18b⟩ ⟨i_v19a, i_v19b⟩ ⟨i_v29a, i_v29b⟩ ia_f28.1 H.size) (cwV 2 hts g_X12_valueOf_0 rfl rfl rfl (by decide +kernel) ⟨Nat.le_of_ble_eq_true rfl, Nat.le_of_ble_eq_true rfl⟩) (pv_PV12 hPc hKc hDc (q0 := 0) rfl) rfl rfl hl.1 rfl (lv_room (Nat.le_of_ble_eq_true rfl)) dX12_valueOf_31 ⟨Nat.le_of_ble_eq_true rfl, Nat.le_of_ble_eq_true rfl⟩) hS (fun q _ h => hFc q h) hFc (fun ra2 u t H1 locs ht hvm hwra2 hB hz1 hk1 hS => ?_)
    try rw [hwra2] at hB
    obtain ⟨pt0_ra2, pt1_ra2, pt2_ra2, hP1, hK1, hD1⟩ := hB
    rw [ht] at hP1
    obtain ⟨hP2, hD2⟩ := va_join (wr := (wd_a0bd977d h1 g0 f20 h2 g1 f21 h3 g2 f22 h4 g3 f23 h5 g4 f24 h6 g5 f25 h7 g6 f26 h8 g7 f27)) (w1 := (wd_5013416a h0 v0 r0 v1 v2 v3 v4 h1 h2 r1 h3 h4 h5 h6 v5 v6 h7 h8 r2 r3 v7 r4 r5 v8 v9 h9 r6 v10 v11 r7 v12 v13 r8 v14 w15 r9 v16 v17 r10 r11 r12 r13 r14 r15 v18 r16 r17 r18 v19 h9 g8 f28)) hP hD [0, 9] [1, 2, 3, 4, 5, 6, 7, 8] rfl rfl (by decide) (by decide) hk1 hFc hP1 hD1
    clear hP hD hPc hDc hKc hFc hP1 hK1 hD1 hk1 hz1
    generalize H1 = H at hP2 hS ⊢
    have hP := hP2.sub (ws' := (wd_c0e4689d h0 v0 r0 v1 v2 v3 v4 h1 h2 r1 h3 h4 h5 h6 v5 v6 h7 h8 r2 r3 v7 r4 r5 v8 v9 h9 r6 v10 v11 r7 v12 v13 r8 v14 w15 r9 v16 v17 r10 r11 r12 r13 r14 r15 v18 r16 r17 r18 v19 h1 g0 f20 h2 g1 f21 h3 g2 f22 h4 g3 f23 h5 g4 f24 h6 g5 f25 h7 g6 f26 h8 g7 f27 h9 g8 f28)) [8, 0, 1, 2, 3, 4, 5, 6, 7, 9] rfl
    have hD := hD2.sub (ws' := (wd_c0e4689d h0 v0 r0 v1 v2 v3 v4 h1 h2 r1 h3 h4 h5 h6 v5 v6 h7 h8 r2 r3 v7 r4 r5 v8 v9 h9 r6 v10 v11 r7 v12 v13 r8 v14 w15 r9 v16 v17 r10 r11 r12 r13 r14 r15 v18 r16 r17 r18 v19 h1 g0 f20 h2 g1 f21 h3 g2 f22 h4 g3 f23 h5 g4 f24 h6 g5 f25 h7 g6 f26 h8 g7 f27 h9 g8 f28)) [8, 0, 1, 2, 3, 4, 5, 6, 7, 9] (by decide +kernel) rfl
    clear hP2 hD2
    subst hQ
    have hP9 := hP.sub (ws' := (wd_c0e4689d h0 v0 r0 v1 v2 v3 v4 h1 h2 r1 h3 h4 h5 h6 v5 v6 h7 h8 r2 r3 v7 r4 r5 v8 v9 h9 r6 v10 v11 r7 v12 v13 r8 v14 w15 r9 v16 v17 r10 r11 r12 r13 r14 r15 v18 r16 r17 r18 v19 h1 g0 f20 h2 g1 f21 h3 g2 f22 h4 g3 f23 h5 g4 f24 h6 g5 f25 h7 g6 f26 h8 g7 f27 h9 g8 f28)) [0, 1, 2, 3, 4, 5, 6, 7, 8, 9] rfl
    have hD9 := hD.sub (ws' := (wd_c0e4689d h0 v0 r0 v1 v2 v3 v4 h1 h2 r1 h3 h4 h5 h6 v5 v6 h7 h8 r2 r3 v7 r4 r5 v8 v9 h9 r6 v10 v11 r7 v12 v13 r8 v14 w15 r9 v16 v17 r10 r11 r12 r13 r14 r15 v18 r16 r17 r18 v19 h1 g0 f20 h2 g1 f21 h3 g2 f22 h4 g3 f23 h5 g4 f24 h6 g5 f25 h7 g6 f26 h8 g7 f27 h9 g8 f28)) [0, 1, 2, 3, 4, 5, 6, 7, 8, 9] (by decide +kernel) rfl
    have hK9 := hK.sub (tys' := []) [] rfl
    exact W.iret (v := ra2) hx hb hr (fun t ht hW => ⟨⟨ra2, ra2, rfl, rfl, ⟨f26, f27, by rw [ht]; exact hP9, va_K.moved hW.alike hK9, hD9⟩⟩, hS.F ht⟩) hS.2.2 dX12_valueOf_34
  by_cases c3 : v30 = 1
  · skip
    have fc3 : v30.toInt = 1 := congrArg Int32.toInt c3
    refine lv_tableIn (off := 34) (tgt := 35) hx hb dX12_valueOf_1 (by rw [c3]; decide) (by rw [c3]; decide) (by rw [c3]; rfl) (by decide) ?_
    refine lv_aload_n hx hb dX12_valueOf_35 rfl (lv_at hl 0 rfl) ?_
    refine lv_iload_n hx hb dX12_valueOf_36 rfl (lv_at hl 1 rfl) ?_
    refine lv_iconst (v := 5) hx hb dX12_valueOf_37 (by decide) ?_
    have hPc := hP.sub (ws' := (wd_5013416a h0 v0 r0 v1 v2 v3 v4 h1 h2 r1 h3 h4 h5 h6 v5 v6 h7 h8 r2 r3 v7 r4 r5 v8 v9 h9 r6 v10 v11 r7 v12 v13 r8 v14 w15 r9 v16 v17 r10 r11 r12 r13 r14 r15 v18 r16 r17 r18 v19 h9 g8 f28)) [0, 9] rfl
    have hDc := hD.sub (ws' := (wd_5013416a h0 v0 r0 v1 v2 v3 v4 h1 h2 r1 h3 h4 h5 h6 v5 v6 h7 h8 r2 r3 v7 r4 r5 v8 v9 h9 r6 v10 v11 r7 v12 v13 r8 v14 w15 r9 v16 v17 r10 r11 r12 r13 r14 r15 v18 r16 r17 r18 v19 h9 g8 f28)) [0, 9] (by decide) rfl
    have hKc := hK.sub (tys' := [(g8, .int)]) [8] rfl
    have hFc := va_free (wc := (wd_5013416a h0 v0 r0 v1 v2 v3 v4 h1 h2 r1 h3 h4 h5 h6 v5 v6 h7 h8 r2 r3 v7 r4 r5 v8 v9 h9 r6 v10 v11 r7 v12 v13 r8 v14 w15 r9 v16 v17 r10 r11 r12 r13 r14 r15 v18 r16 r17 r18 v19 h9 g8 f28)) hD hS hA [0, 9] rfl
    refine va_calli (va_runV (As := [.int v29, .int 5]) (rest := []) ⟨hx, hb, hml, hown, hts⟩ (k_X12_of_5 l dC dI h0 h9 v0 r0 v1 v2 v3 v4 h1 h2 r1 h3 h4 h5 h6 v5 v6 h7 h8 r2 r3 v7 r4 r5 v8 v9 r6 v10 v11 r7 v12 v13 r8 v14 w15 r9 v16 v17 r10 r11 r12 r13 r14 r15 v18 r16 r17 r18 v19 g8 f28 v29 ⟨i_v1a, i_v1b⟩ ⟨i_v5a, i_v5b⟩ ⟨i_v6a, i_v6b⟩ ⟨i_v7a, i_v7b⟩ ⟨i_v8a, i_v8b⟩ ⟨i_v9a, i_v9b⟩ ⟨i_v10a, i_v10b⟩ ⟨i_v14a, i_v14b⟩ ⟨i_v18a, i_v18b⟩ ⟨i_v19a, i_v19b⟩ ⟨i_v29a, i_v29b⟩ ia_f28.1 H.size) (cwV 2 hts g_X12_valueOf_1 rfl rfl rfl (by decide +kernel) ⟨Nat.le_of_ble_eq_true rfl, Nat.le_of_ble_eq_true rfl⟩) (pv_PV12 hPc hKc hDc (q0 := 0) rfl) rfl rfl hl.1 rfl (lv_room (Nat.le_of_ble_eq_true rfl)) dX12_valueOf_38 ⟨Nat.le_of_ble_eq_true rfl, Nat.le_of_ble_eq_true rfl⟩) hS (fun q _ h => hFc q h) hFc (fun ra4 u t H1 locs ht hvm hwra4 hB hz1 hk1 hS => ?_)
    try rw [hwra4] at hB
    obtain ⟨pt0_ra4, hP1, hK1, hD1⟩ := hB
    rw [ht] at hP1
    obtain ⟨hP2, hD2⟩ := va_join (wr := (wd_a0bd977d h1 g0 f20 h2 g1 f21 h3 g2 f22 h4 g3 f23 h5 g4 f24 h6 g5 f25 h7 g6 f26 h8 g7 f27)) (w1 := (wd_5013416a h0 v0 r0 v1 v2 v3 v4 h1 h2 r1 h3 h4 h5 h6 v5 v6 h7 h8 r2 r3 v7 r4 r5 v8 v9 h9 r6 v10 v11 r7 v12 v13 r8 v14 w15 r9 v16 v17 r10 r11 r12 r13 r14 r15 v18 r16 r17 r18 v19 h9 g8 f28)) hP hD [0, 9] [1, 2, 3, 4, 5, 6, 7, 8] rfl rfl (by decide) (by decide) hk1 hFc hP1 hD1
    clear hP hD hPc hDc hKc hFc hP1 hK1 hD1 hk1 hz1
    generalize H1 = H at hP2 hS ⊢
    have hP := hP2.sub (ws' := (wd_c0e4689d h0 v0 r0 v1 v2 v3 v4 h1 h2 r1 h3 h4 h5 h6 v5 v6 h7 h8 r2 r3 v7 r4 r5 v8 v9 h9 r6 v10 v11 r7 v12 v13 r8 v14 w15 r9 v16 v17 r10 r11 r12 r13 r14 r15 v18 r16 r17 r18 v19 h1 g0 f20 h2 g1 f21 h3 g2 f22 h4 g3 f23 h5 g4 f24 h6 g5 f25 h7 g6 f26 h8 g7 f27 h9 g8 f28)) [8, 0, 1, 2, 3, 4, 5, 6, 7, 9] rfl
    have hD := hD2.sub (ws' := (wd_c0e4689d h0 v0 r0 v1 v2 v3 v4 h1 h2 r1 h3 h4 h5 h6 v5 v6 h7 h8 r2 r3 v7 r4 r5 v8 v9 h9 r6 v10 v11 r7 v12 v13 r8 v14 w15 r9 v16 v17 r10 r11 r12 r13 r14 r15 v18 r16 r17 r18 v19 h1 g0 f20 h2 g1 f21 h3 g2 f22 h4 g3 f23 h5 g4 f24 h6 g5 f25 h7 g6 f26 h8 g7 f27 h9 g8 f28)) [8, 0, 1, 2, 3, 4, 5, 6, 7, 9] (by decide +kernel) rfl
    clear hP2 hD2
    subst hQ
    have hP9 := hP.sub (ws' := (wd_c0e4689d h0 v0 r0 v1 v2 v3 v4 h1 h2 r1 h3 h4 h5 h6 v5 v6 h7 h8 r2 r3 v7 r4 r5 v8 v9 h9 r6 v10 v11 r7 v12 v13 r8 v14 w15 r9 v16 v17 r10 r11 r12 r13 r14 r15 v18 r16 r17 r18 v19 h1 g0 f20 h2 g1 f21 h3 g2 f22 h4 g3 f23 h5 g4 f24 h6 g5 f25 h7 g6 f26 h8 g7 f27 h9 g8 f28)) [0, 1, 2, 3, 4, 5, 6, 7, 8, 9] rfl
    have hD9 := hD.sub (ws' := (wd_c0e4689d h0 v0 r0 v1 v2 v3 v4 h1 h2 r1 h3 h4 h5 h6 v5 v6 h7 h8 r2 r3 v7 r4 r5 v8 v9 h9 r6 v10 v11 r7 v12 v13 r8 v14 w15 r9 v16 v17 r10 r11 r12 r13 r14 r15 v18 r16 r17 r18 v19 h1 g0 f20 h2 g1 f21 h3 g2 f22 h4 g3 f23 h5 g4 f24 h6 g5 f25 h7 g6 f26 h8 g7 f27 h9 g8 f28)) [0, 1, 2, 3, 4, 5, 6, 7, 8, 9] (by decide +kernel) rfl
    have hK9 := hK.sub (tys' := []) [] rfl
    exact W.iret (v := ra4) hx hb hr (fun t ht hW => ⟨⟨ra4, ra4, rfl, rfl, ⟨f26, f27, by rw [ht]; exact hP9, va_K.moved hW.alike hK9, hD9⟩⟩, hS.F ht⟩) hS.2.2 dX12_valueOf_41
  by_cases c5 : v30 = 2
  · skip
    have fc5 : v30.toInt = 2 := congrArg Int32.toInt c5
    refine lv_tableIn (off := 41) (tgt := 42) hx hb dX12_valueOf_1 (by rw [c5]; decide) (by rw [c5]; decide) (by rw [c5]; rfl) (by decide) ?_
    refine lv_aload_n hx hb dX12_valueOf_42 rfl (lv_at hl 0 rfl) ?_
    refine lv_iload_n hx hb dX12_valueOf_43 rfl (lv_at hl 1 rfl) ?_
    have hPc := hP.sub (ws' := (wd_5013416a h0 v0 r0 v1 v2 v3 v4 h1 h2 r1 h3 h4 h5 h6 v5 v6 h7 h8 r2 r3 v7 r4 r5 v8 v9 h9 r6 v10 v11 r7 v12 v13 r8 v14 w15 r9 v16 v17 r10 r11 r12 r13 r14 r15 v18 r16 r17 r18 v19 h9 g8 f28)) [0, 9] rfl
    have hDc := hD.sub (ws' := (wd_5013416a h0 v0 r0 v1 v2 v3 v4 h1 h2 r1 h3 h4 h5 h6 v5 v6 h7 h8 r2 r3 v7 r4 r5 v8 v9 h9 r6 v10 v11 r7 v12 v13 r8 v14 w15 r9 v16 v17 r10 r11 r12 r13 r14 r15 v18 r16 r17 r18 v19 h9 g8 f28)) [0, 9] (by decide) rfl
    have hKc := hK.sub (tys' := [(g8, .int)]) [8] rfl
    have hFc := va_free (wc := (wd_5013416a h0 v0 r0 v1 v2 v3 v4 h1 h2 r1 h3 h4 h5 h6 v5 v6 h7 h8 r2 r3 v7 r4 r5 v8 v9 h9 r6 v10 v11 r7 v12 v13 r8 v14 w15 r9 v16 v17 r10 r11 r12 r13 r14 r15 v18 r16 r17 r18 v19 h9 g8 f28)) hD hS hA [0, 9] rfl
    refine va_calli (va_runV (As := [.int v29]) (rest := []) ⟨hx, hb, hml, hown, hts⟩ (k_X12_stubbornOf l dC dI h0 h9 v0 r0 v1 v2 v3 v4 h1 h2 r1 h3 h4 h5 h6 v5 v6 h7 h8 r2 r3 v7 r4 r5 v8 v9 r6 v10 v11 r7 v12 v13 r8 v14 w15 r9 v16 v17 r10 r11 r12 r13 r14 r15 v18 r16 r17 r18 v19 g8 f28 v29 ⟨i_v1a, i_v1b⟩ ⟨i_v5a, i_v5b⟩ ⟨i_v6a, i_v6b⟩ ⟨i_v7a, i_v7b⟩ ⟨i_v8a, i_v8b⟩ ⟨i_v9a, i_v9b⟩ ⟨i_v10a, i_v10b⟩ ⟨i_v14a, i_v14b⟩ ⟨i_v18a, i_v18b⟩ ⟨i_v19a, i_v19b⟩ ⟨i_v29a, i_v29b⟩ ia_f28 H.size) (cwV 1 hts g_X12_valueOf_2 rfl rfl rfl (by decide +kernel) ⟨Nat.le_of_ble_eq_true rfl, Nat.le_of_ble_eq_true rfl⟩) (pv_PV12 hPc hKc hDc (q0 := 0) rfl) rfl rfl hl.1 rfl (lv_room (Nat.le_of_ble_eq_true rfl)) dX12_valueOf_44 ⟨Nat.le_of_ble_eq_true rfl, Nat.le_of_ble_eq_true rfl⟩) hS (fun q _ h => hFc q h) hFc (fun ra6 u t H1 locs ht hvm hwra6 hB hz1 hk1 hS => ?_)
    try rw [hwra6] at hB
    obtain ⟨hP1, hK1, hD1⟩ := hB
    rw [ht] at hP1
    obtain ⟨hP2, hD2⟩ := va_join (wr := (wd_a0bd977d h1 g0 f20 h2 g1 f21 h3 g2 f22 h4 g3 f23 h5 g4 f24 h6 g5 f25 h7 g6 f26 h8 g7 f27)) (w1 := (wd_5013416a h0 v0 r0 v1 v2 v3 v4 h1 h2 r1 h3 h4 h5 h6 v5 v6 h7 h8 r2 r3 v7 r4 r5 v8 v9 h9 r6 v10 v11 r7 v12 v13 r8 v14 w15 r9 v16 v17 r10 r11 r12 r13 r14 r15 v18 r16 r17 r18 v19 h9 g8 f28)) hP hD [0, 9] [1, 2, 3, 4, 5, 6, 7, 8] rfl rfl (by decide) (by decide) hk1 hFc hP1 hD1
    clear hP hD hPc hDc hKc hFc hP1 hK1 hD1 hk1 hz1
    generalize H1 = H at hP2 hS ⊢
    have hP := hP2.sub (ws' := (wd_c0e4689d h0 v0 r0 v1 v2 v3 v4 h1 h2 r1 h3 h4 h5 h6 v5 v6 h7 h8 r2 r3 v7 r4 r5 v8 v9 h9 r6 v10 v11 r7 v12 v13 r8 v14 w15 r9 v16 v17 r10 r11 r12 r13 r14 r15 v18 r16 r17 r18 v19 h1 g0 f20 h2 g1 f21 h3 g2 f22 h4 g3 f23 h5 g4 f24 h6 g5 f25 h7 g6 f26 h8 g7 f27 h9 g8 f28)) [8, 0, 1, 2, 3, 4, 5, 6, 7, 9] rfl
    have hD := hD2.sub (ws' := (wd_c0e4689d h0 v0 r0 v1 v2 v3 v4 h1 h2 r1 h3 h4 h5 h6 v5 v6 h7 h8 r2 r3 v7 r4 r5 v8 v9 h9 r6 v10 v11 r7 v12 v13 r8 v14 w15 r9 v16 v17 r10 r11 r12 r13 r14 r15 v18 r16 r17 r18 v19 h1 g0 f20 h2 g1 f21 h3 g2 f22 h4 g3 f23 h5 g4 f24 h6 g5 f25 h7 g6 f26 h8 g7 f27 h9 g8 f28)) [8, 0, 1, 2, 3, 4, 5, 6, 7, 9] (by decide +kernel) rfl
    clear hP2 hD2
    subst hQ
    have hP9 := hP.sub (ws' := (wd_c0e4689d h0 v0 r0 v1 v2 v3 v4 h1 h2 r1 h3 h4 h5 h6 v5 v6 h7 h8 r2 r3 v7 r4 r5 v8 v9 h9 r6 v10 v11 r7 v12 v13 r8 v14 w15 r9 v16 v17 r10 r11 r12 r13 r14 r15 v18 r16 r17 r18 v19 h1 g0 f20 h2 g1 f21 h3 g2 f22 h4 g3 f23 h5 g4 f24 h6 g5 f25 h7 g6 f26 h8 g7 f27 h9 g8 f28)) [0, 1, 2, 3, 4, 5, 6, 7, 8, 9] rfl
    have hD9 := hD.sub (ws' := (wd_c0e4689d h0 v0 r0 v1 v2 v3 v4 h1 h2 r1 h3 h4 h5 h6 v5 v6 h7 h8 r2 r3 v7 r4 r5 v8 v9 h9 r6 v10 v11 r7 v12 v13 r8 v14 w15 r9 v16 v17 r10 r11 r12 r13 r14 r15 v18 r16 r17 r18 v19 h1 g0 f20 h2 g1 f21 h3 g2 f22 h4 g3 f23 h5 g4 f24 h6 g5 f25 h7 g6 f26 h8 g7 f27 h9 g8 f28)) [0, 1, 2, 3, 4, 5, 6, 7, 8, 9] (by decide +kernel) rfl
    have hK9 := hK.sub (tys' := []) [] rfl
    exact W.iret (v := ra6) hx hb hr (fun t ht hW => ⟨⟨ra6, ra6, rfl, rfl, ⟨f26, f27, by rw [ht]; exact hP9, va_K.moved hW.alike hK9, hD9⟩⟩, hS.F ht⟩) hS.2.2 dX12_valueOf_47
  refine lv_tableOut (tgt := 48) hx hb dX12_valueOf_1 (pv_tabL 0 2 rfl (fun j hj => by rcases (show j = 0 ∨ j = 1 ∨ j = 2 by omega) with rfl | rfl | rfl <;> assumption)) (by decide) ?_
  refine lv_aload_n hx hb dX12_valueOf_48 rfl (lv_at hl 0 rfl) ?_
  refine lv_iload_n hx hb dX12_valueOf_49 rfl (lv_at hl 1 rfl) ?_
  have hPc := hP.sub (ws' := (wd_c0e4689d h0 v0 r0 v1 v2 v3 v4 h1 h2 r1 h3 h4 h5 h6 v5 v6 h7 h8 r2 r3 v7 r4 r5 v8 v9 h9 r6 v10 v11 r7 v12 v13 r8 v14 w15 r9 v16 v17 r10 r11 r12 r13 r14 r15 v18 r16 r17 r18 v19 h1 g0 f20 h2 g1 f21 h3 g2 f22 h4 g3 f23 h5 g4 f24 h6 g5 f25 h7 g6 f26 h8 g7 f27 h9 g8 f28)) [0, 1, 2, 3, 4, 5, 6, 7, 8, 9] rfl
  have hDc := hD.sub (ws' := (wd_c0e4689d h0 v0 r0 v1 v2 v3 v4 h1 h2 r1 h3 h4 h5 h6 v5 v6 h7 h8 r2 r3 v7 r4 r5 v8 v9 h9 r6 v10 v11 r7 v12 v13 r8 v14 w15 r9 v16 v17 r10 r11 r12 r13 r14 r15 v18 r16 r17 r18 v19 h1 g0 f20 h2 g1 f21 h3 g2 f22 h4 g3 f23 h5 g4 f24 h6 g5 f25 h7 g6 f26 h8 g7 f27 h9 g8 f28)) [0, 1, 2, 3, 4, 5, 6, 7, 8, 9] (by decide +kernel) rfl
  have hKc := hK.sub (tys' := [(g0, .int), (g1, .int), (g2, .int), (g3, .int), (g4, .int), (g5, .int), (g6, .int), (g7, .int), (g8, .int)]) [0, 1, 2, 3, 4, 5, 6, 7, 8] rfl
  have hFc := va_free (wc := (wd_c0e4689d h0 v0 r0 v1 v2 v3 v4 h1 h2 r1 h3 h4 h5 h6 v5 v6 h7 h8 r2 r3 v7 r4 r5 v8 v9 h9 r6 v10 v11 r7 v12 v13 r8 v14 w15 r9 v16 v17 r10 r11 r12 r13 r14 r15 v18 r16 r17 r18 v19 h1 g0 f20 h2 g1 f21 h3 g2 f22 h4 g3 f23 h5 g4 f24 h6 g5 f25 h7 g6 f26 h8 g7 f27 h9 g8 f28)) hD hS hA [0, 1, 2, 3, 4, 5, 6, 7, 8, 9] rfl
  refine va_calli (va_runV (As := [.int v29]) (rest := []) ⟨hx, hb, hml, hown, hts⟩ (k_X12_growthOf l dC dI h0 h1 h2 h3 h4 h5 h6 h7 h8 h9 v0 r0 v1 v2 v3 v4 r1 v5 v6 r2 r3 v7 r4 r5 v8 v9 r6 v10 v11 r7 v12 v13 r8 v14 w15 r9 v16 v17 r10 r11 r12 r13 r14 r15 v18 r16 r17 r18 v19 g0 f20 g1 f21 g2 f22 g3 f23 g4 f24 g5 f25 g6 f26 g7 f27 g8 f28 v29 ⟨i_v1a, i_v1b⟩ ⟨i_v5a, i_v5b⟩ ⟨i_v6a, i_v6b⟩ ⟨i_v7a, i_v7b⟩ ⟨i_v8a, i_v8b⟩ ⟨i_v9a, i_v9b⟩ ⟨i_v10a, i_v10b⟩ ⟨i_v14a, i_v14b⟩ ⟨i_v18a, i_v18b⟩ ⟨i_v19a, i_v19b⟩ ⟨i_v29a, i_v29b⟩ ia_f28.1 pp0 H.size) (cwV 1 hts g_X12_valueOf_3 rfl rfl rfl (by decide +kernel) ⟨Nat.le_of_ble_eq_true rfl, Nat.le_of_ble_eq_true rfl⟩) (pv_PV12 hPc hKc hDc (q0 := 0) rfl) rfl rfl hl.1 rfl (lv_room (Nat.le_of_ble_eq_true rfl)) dX12_valueOf_50 ⟨Nat.le_of_ble_eq_true rfl, Nat.le_of_ble_eq_true rfl⟩) hS (fun q _ h => hFc q h) hFc (fun ra7 u t H1 locs ht hvm hwra7 hB hz1 hk1 hS => ?_)
  try rw [hwra7] at hB
  obtain ⟨fn8, fn9, pt0_ra7, pt1_ra7, hP1, hK1, hD1⟩ := hB
  rw [ht] at hP1
  obtain ⟨hP2, hD2⟩ := va_join (wr := []) (w1 := (wd_c0e4689d h0 v0 r0 v1 v2 v3 v4 h1 h2 r1 h3 h4 h5 h6 v5 v6 h7 h8 r2 r3 v7 r4 r5 v8 v9 h9 r6 v10 v11 r7 v12 v13 r8 v14 w15 r9 v16 v17 r10 r11 r12 r13 r14 r15 v18 r16 r17 r18 v19 h1 g0 f20 h2 g1 f21 h3 g2 f22 h4 g3 f23 h5 g4 f24 h6 g5 f25 h7 g6 fn8 h8 g7 fn9 h9 g8 f28)) hP hD [0, 1, 2, 3, 4, 5, 6, 7, 8, 9] [] rfl rfl (by decide) (by decide) hk1 hFc hP1 hD1
  clear hP hD hPc hDc hKc hFc hP1 hK1 hD1 hk1 hz1
  generalize H1 = H at hP2 hS ⊢
  have hP : va_P (dC, dI) vwCl (wd_c0e4689d h0 v0 r0 v1 v2 v3 v4 h1 h2 r1 h3 h4 h5 h6 v5 v6 h7 h8 r2 r3 v7 r4 r5 v8 v9 h9 r6 v10 v11 r7 v12 v13 r8 v14 w15 r9 v16 v17 r10 r11 r12 r13 r14 r15 v18 r16 r17 r18 v19 h1 g0 f20 h2 g1 f21 h3 g2 f22 h4 g3 f23 h5 g4 f24 h6 g5 f25 h7 g6 fn8 h8 g7 fn9 h9 g8 f28) H := hP2
  have hD : va_D A (wd_c0e4689d h0 v0 r0 v1 v2 v3 v4 h1 h2 r1 h3 h4 h5 h6 v5 v6 h7 h8 r2 r3 v7 r4 r5 v8 v9 h9 r6 v10 v11 r7 v12 v13 r8 v14 w15 r9 v16 v17 r10 r11 r12 r13 r14 r15 v18 r16 r17 r18 v19 h1 g0 f20 h2 g1 f21 h3 g2 f22 h4 g3 f23 h5 g4 f24 h6 g5 f25 h7 g6 fn8 h8 g7 fn9 h9 g8 f28) := hD2
  clear hP2 hD2
  subst hQ
  have hP9 := hP.sub (ws' := (wd_c0e4689d h0 v0 r0 v1 v2 v3 v4 h1 h2 r1 h3 h4 h5 h6 v5 v6 h7 h8 r2 r3 v7 r4 r5 v8 v9 h9 r6 v10 v11 r7 v12 v13 r8 v14 w15 r9 v16 v17 r10 r11 r12 r13 r14 r15 v18 r16 r17 r18 v19 h1 g0 f20 h2 g1 f21 h3 g2 f22 h4 g3 f23 h5 g4 f24 h6 g5 f25 h7 g6 fn8 h8 g7 fn9 h9 g8 f28)) [0, 1, 2, 3, 4, 5, 6, 7, 8, 9] rfl
  have hD9 := hD.sub (ws' := (wd_c0e4689d h0 v0 r0 v1 v2 v3 v4 h1 h2 r1 h3 h4 h5 h6 v5 v6 h7 h8 r2 r3 v7 r4 r5 v8 v9 h9 r6 v10 v11 r7 v12 v13 r8 v14 w15 r9 v16 v17 r10 r11 r12 r13 r14 r15 v18 r16 r17 r18 v19 h1 g0 f20 h2 g1 f21 h3 g2 f22 h4 g3 f23 h5 g4 f24 h6 g5 f25 h7 g6 fn8 h8 g7 fn9 h9 g8 f28)) [0, 1, 2, 3, 4, 5, 6, 7, 8, 9] (by decide +kernel) rfl
  have hK9 := hK.sub (tys' := []) [] rfl
  exact W.iret (v := ra7) hx hb hr (fun t ht hW => ⟨⟨ra7, ra7, rfl, rfl, ⟨fn8, fn9, by rw [ht]; exact hP9, va_K.moved hW.alike hK9, hD9⟩⟩, hS.F ht⟩) hS.2.2 dX12_valueOf_53
def q_X12_topBag : List Cond := .code yX12_topBag cX12_topBag 4 (some .int) :: (([.code yX12_isThere cX12_isThere 2 (some .boolean), .code yX12_in cX12_in 3 (some .boolean), .initialized RX12, .static yX12_in, .methodLink RX12 217 yX12_in, .code yX12_of cX12_of 3 (some .int), .fieldLink RX12 52 "LeftArgumentsModel" "now" "[I", .instanceMethod yX12_of, .selects RX12 yX12_of yX12_of, .methodLink RX12 287 yX12_of, .instanceMethod yX12_isThere, .selects RX12 yX12_isThere yX12_isThere, .methodLink RX12 290 yX12_isThere, .code yX12_valueOf cX12_valueOf 3 (some .int), .code yX12_stubbornOf cX12_stubbornOf 2 (some .int), .instanceMethod yX12_stubbornOf, .selects RX12 yX12_stubbornOf yX12_stubbornOf, .methodLink RX12 414 yX12_stubbornOf, .code yX12_growthOf cX12_growthOf 4 (some .int), .code yX12_withOf cX12_withOf 4 (some .int), .instanceMethod yX12_withOf, .selects RX12 yX12_withOf yX12_withOf, .methodLink RX12 293 yX12_withOf, .fieldLink RX12 58 "LeftArgumentsModel" "holding" "I", .methodLink RX12 299 Lib.Math.min.name, .static Lib.Math.min.name, .initialized "java/lang/Math", .code Lib.Math.min.name Lib.Math.min.code 2 (some .int), .methodLink RX12 301 Lib.Math.max.name, .static Lib.Math.max.name, .code Lib.Math.max.name Lib.Math.max.code 2 (some .int), .fieldLink RX12 34 "LeftArgumentsModel" "letters" "[I", .code yX12_worthOf cX12_worthOf 3 (some .int), .fieldLink RX12 22 "LeftArgumentsModel" "clauses" "[I", .fieldLink RX12 25 "LeftArgumentsModel" "testFrom" "[I", .fieldLink RX12 28 "LeftArgumentsModel" "sumFrom" "[I", .fieldLink RX12 31 "LeftArgumentsModel" "sumTo" "[I", .code yX12_workOut cX12_workOut 6 (some .int), .fieldLink RX12 37 "LeftArgumentsModel" "stack" "[I", .fieldLink RX12 13 "LeftArgumentsModel" "code" "[I", .fieldLink RX12 16 "LeftArgumentsModel" "value" "[I", .code yX12_worked cX12_worked 5 (some .int), .code yX12_bounded cX12_bounded 2 (some .int), .constantLong RX12 192 (-1000000), .constantLong RX12 194 (1000000), .methodLink RX12 196 Lib.MathLoose.min_long.x, .static Lib.MathLoose.min_long.x, .code Lib.MathLoose.min_long.x Lib.MathLoose.min_long.code 4 (some .long), .methodLink RX12 202 Lib.MathLoose.max_long.x, .static Lib.MathLoose.max_long.x, .code Lib.MathLoose.max_long.x Lib.MathLoose.max_long.code 4 (some .long), .static yX12_bounded, .methodLink RX12 205 yX12_bounded, .static yX12_worked, .methodLink RX12 209 yX12_worked, .instanceMethod yX12_workOut, .selects RX12 yX12_workOut yX12_workOut, .methodLink RX12 213 yX12_workOut, .instanceMethod yX12_worthOf, .selects RX12 yX12_worthOf yX12_worthOf, .methodLink RX12 296 yX12_worthOf, .instanceMethod yX12_growthOf, .selects RX12 yX12_growthOf yX12_growthOf, .methodLink RX12 303 yX12_growthOf, .instanceMethod yX12_valueOf, .selects RX12 yX12_valueOf yX12_valueOf, .methodLink RX12 453 yX12_valueOf] : List Cond) ++ wsX120)
set_option maxRecDepth 20000 in
theorem g_X12_topBag_0 : GoodIn q_X12_topBag (wsV RX12 290 RX12 yX12_isThere q_X12_isThere) := goodIn_app (goodIn_r _ [13, 11, 12, 3] rfl (by decide +kernel)) (goodIn_ca (goodIn_r (.code yX12_isThere cX12_isThere 2 (some .boolean) :: [.code yX12_in cX12_in 3 (some .boolean), .initialized RX12, .static yX12_in, .methodLink RX12 217 yX12_in, .code yX12_of cX12_of 3 (some .int), .fieldLink RX12 52 "LeftArgumentsModel" "now" "[I", .instanceMethod yX12_of, .selects RX12 yX12_of yX12_of, .methodLink RX12 287 yX12_of]) [1, 2, 3, 4, 5, 6, 7, 8, 9, 10] rfl (by decide +kernel)) (goodIn_sub (fun _ h => List.mem_cons_of_mem _ (List.mem_append_right _ h)) gwX12))
set_option maxRecDepth 20000 in
theorem g_X12_topBag_1 : GoodIn q_X12_topBag (wsV RX12 453 RX12 yX12_valueOf q_X12_valueOf) := goodIn_app (goodIn_r _ [67, 65, 66, 3] rfl (by decide +kernel)) (goodIn_ca (goodIn_r (.code yX12_valueOf cX12_valueOf 3 (some .int) :: [.code yX12_of cX12_of 3 (some .int), .fieldLink RX12 52 "LeftArgumentsModel" "now" "[I", .initialized RX12, .instanceMethod yX12_of, .selects RX12 yX12_of yX12_of, .methodLink RX12 287 yX12_of, .code yX12_stubbornOf cX12_stubbornOf 2 (some .int), .instanceMethod yX12_stubbornOf, .selects RX12 yX12_stubbornOf yX12_stubbornOf, .methodLink RX12 414 yX12_stubbornOf, .code yX12_growthOf cX12_growthOf 4 (some .int), .code yX12_withOf cX12_withOf 4 (some .int), .code yX12_isThere cX12_isThere 2 (some .boolean), .code yX12_in cX12_in 3 (some .boolean), .static yX12_in, .methodLink RX12 217 yX12_in, .instanceMethod yX12_isThere, .selects RX12 yX12_isThere yX12_isThere, .methodLink RX12 290 yX12_isThere, .instanceMethod yX12_withOf, .selects RX12 yX12_withOf yX12_withOf, .methodLink RX12 293 yX12_withOf, .fieldLink RX12 58 "LeftArgumentsModel" "holding" "I", .methodLink RX12 299 Lib.Math.min.name, .static Lib.Math.min.name, .initialized "java/lang/Math", .code Lib.Math.min.name Lib.Math.min.code 2 (some .int), .methodLink RX12 301 Lib.Math.max.name, .static Lib.Math.max.name, .code Lib.Math.max.name Lib.Math.max.code 2 (some .int), .fieldLink RX12 34 "LeftArgumentsModel" "letters" "[I", .code yX12_worthOf cX12_worthOf 3 (some .int), .fieldLink RX12 22 "LeftArgumentsModel" "clauses" "[I", .fieldLink RX12 25 "LeftArgumentsModel" "testFrom" "[I", .fieldLink RX12 28 "LeftArgumentsModel" "sumFrom" "[I", .fieldLink RX12 31 "LeftArgumentsModel" "sumTo" "[I", .code yX12_workOut cX12_workOut 6 (some .int), .fieldLink RX12 37 "LeftArgumentsModel" "stack" "[I", .fieldLink RX12 13 "LeftArgumentsModel" "code" "[I", .fieldLink RX12 16 "LeftArgumentsModel" "value" "[I", .code yX12_worked cX12_worked 5 (some .int), .code yX12_bounded cX12_bounded 2 (some .int), .constantLong RX12 192 (-1000000), .constantLong RX12 194 (1000000), .methodLink RX12 196 Lib.MathLoose.min_long.x, .static Lib.MathLoose.min_long.x, .code Lib.MathLoose.min_long.x Lib.MathLoose.min_long.code 4 (some .long), .methodLink RX12 202 Lib.MathLoose.max_long.x, .static Lib.MathLoose.max_long.x, .code Lib.MathLoose.max_long.x Lib.MathLoose.max_long.code 4 (some .long), .static yX12_bounded, .methodLink RX12 205 yX12_bounded, .static yX12_worked, .methodLink RX12 209 yX12_worked, .instanceMethod yX12_workOut, .selects RX12 yX12_workOut yX12_workOut, .methodLink RX12 213 yX12_workOut, .instanceMethod yX12_worthOf, .selects RX12 yX12_worthOf yX12_worthOf, .methodLink RX12 296 yX12_worthOf, .instanceMethod yX12_growthOf, .selects RX12 yX12_growthOf yX12_growthOf, .methodLink RX12 303 yX12_growthOf]) [14, 6, 7, 3, 8, 9, 10, 15, 16, 17, 18, 19, 20, 1, 2, 4, 5, 11, 12, 13, 21, 22, 23, 24, 25, 26, 27, 28, 29, 30, 31, 32, 33, 34, 35, 36, 37, 38, 39, 40, 41, 42, 43, 44, 45, 46, 47, 48, 49, 50, 51, 52, 53, 54, 55, 56, 57, 58, 59, 60, 61, 62, 63, 64] rfl (by decide +kernel)) (goodIn_sub (fun _ h => List.mem_cons_of_mem _ (List.mem_append_right _ h)) gwX12))
set_option maxHeartbeats 4000000 in
set_option maxRecDepth 100000 in
theorem k_X12_topBag (l : Launch) (dC : Nat → ClassId) (dI : Nat → Nat → Nat) (h0 : Nat) (h1 : Nat) (h2 : Nat) (h3 : Nat) (h4 : Nat) (h5 : Nat) (h6 : Nat) (h7 : Nat) (h8 : Nat) (h9 : Nat) (v0 : Int32) (r0 : Nat) (v1 : Int32) (v2 : Int32) (v3 : Int32) (v4 : Int32) (r1 : Nat) (v5 : Int32) (v6 : Int32) (r2 : Nat) (r3 : Nat) (v7 : Int32) (r4 : Nat) (r5 : Nat) (v8 : Int32) (v9 : Int32) (r6 : Nat) (v10 : Int32) (v11 : Int32) (r7 : Nat) (v12 : Int32) (v13 : Int32) (r8 : Nat) (v14 : Int32) (w15 : Int64) (r9 : Nat) (v16 : Int32) (v17 : Int32) (r10 : Nat) (r11 : Nat) (r12 : Nat) (r13 : Nat) (r14 : Nat) (r15 : Nat) (v18 : Int32) (r16 : Nat) (r17 : Nat) (r18 : Nat) (v19 : Int32) (g0 : ClassId) (f20 : Nat → Int32) (g1 : ClassId) (f21 : Nat → Int32) (g2 : ClassId) (f22 : Nat → Int32) (g3 : ClassId) (f23 : Nat → Int32) (g4 : ClassId) (f24 : Nat → Int32) (g5 : ClassId) (f25 : Nat → Int32) (g6 : ClassId) (f26 : Nat → Int32) (g7 : ClassId) (f27 : Nat → Int32) (g8 : ClassId) (f28 : Nat → Int32) (v29 : Int32) (i_v1 : 0 ≤ v1.toInt ∧ v1.toInt ≤ 240) (i_v5 : 0 ≤ v5.toInt ∧ v5.toInt ≤ 4) (i_v6 : 0 ≤ v6.toInt ∧ v6.toInt ≤ 4) (i_v7 : 0 ≤ v7.toInt ∧ v7.toInt ≤ 8) (i_v8 : 0 ≤ v8.toInt ∧ v8.toInt ≤ 8) (i_v9 : 0 ≤ v9.toInt ∧ v9.toInt ≤ 1) (i_v10 : -1 ≤ v10.toInt ∧ v10.toInt ≤ 3) (i_v14 : 0 ≤ v14.toInt ∧ v14.toInt ≤ 40) (i_v18 : 0 ≤ v18.toInt ∧ v18.toInt ≤ 10) (i_v19 : 0 ≤ v19.toInt ∧ v19.toInt ≤ 1) (ia_f28 : (pm_NW f28)) (pp0 : pm_Held v10 f20 f21 f22 f23 f24 f25) (sz : Nat) : Met l yX12_topBag q_X12_topBag ({ frames := 7, cells := 0, slots := 0, locals := 154 }) (va_Pc [.ref h0, .int v29] (fun U => U.heap.size = sz ∧ va_P (dC, dI) vwCl (wd_c0e4689d h0 v0 r0 v1 v2 v3 v4 h1 h2 r1 h3 h4 h5 h6 v5 v6 h7 h8 r2 r3 v7 r4 r5 v8 v9 h9 r6 v10 v11 r7 v12 v13 r8 v14 w15 r9 v16 v17 r10 r11 r12 r13 r14 r15 v18 r16 r17 r18 v19 h1 g0 f20 h2 g1 f21 h3 g2 f22 h4 g3 f23 h5 g4 f24 h6 g5 f25 h7 g6 f26 h8 g7 f27 h9 g8 f28) U.heap ∧ va_K (dC, dI) vwCl [(g0, .int), (g1, .int), (g2, .int), (g3, .int), (g4, .int), (g5, .int), (g6, .int), (g7, .int), (g8, .int)] U ∧ va_D (fun _ => True) (wd_c0e4689d h0 v0 r0 v1 v2 v3 v4 h1 h2 r1 h3 h4 h5 h6 v5 v6 h7 h8 r2 r3 v7 r4 r5 v8 v9 h9 r6 v10 v11 r7 v12 v13 r8 v14 w15 r9 v16 v17 r10 r11 r12 r13 r14 r15 v18 r16 r17 r18 v19 h1 g0 f20 h2 g1 f21 h3 g2 f22 h4 g3 f23 h5 g4 f24 h6 g5 f25 h7 g6 f26 h8 g7 f27 h9 g8 f28))) (va_Qi (fun (r : Int32) (r9 : Int32) => r9 = r) (fun (r : Int32) (t : State) => (∃ (o_h7 : Nat → Int32) (o_h8 : Nat → Int32), (-1 ≤ r.toInt) ∧ (r.toInt ≤ 7) ∧ va_P (dC, dI) vwCl (wd_c0e4689d h0 v0 r0 v1 v2 v3 v4 h1 h2 r1 h3 h4 h5 h6 v5 v6 h7 h8 r2 r3 v7 r4 r5 v8 v9 h9 r6 v10 v11 r7 v12 v13 r8 v14 w15 r9 v16 v17 r10 r11 r12 r13 r14 r15 v18 r16 r17 r18 v19 h1 g0 f20 h2 g1 f21 h3 g2 f22 h4 g3 f23 h5 g4 f24 h6 g5 f25 h7 g6 o_h7 h8 g7 o_h8 h9 g8 f28) t.heap ∧ va_K (dC, dI) vwCl [] t ∧ va_D (va_A (wd_c0e4689d h0 v0 r0 v1 v2 v3 v4 h1 h2 r1 h3 h4 h5 h6 v5 v6 h7 h8 r2 r3 v7 r4 r5 v8 v9 h9 r6 v10 v11 r7 v12 v13 r8 v14 w15 r9 v16 v17 r10 r11 r12 r13 r14 r15 v18 r16 r17 r18 v19 h1 g0 f20 h2 g1 f21 h3 g2 f22 h4 g3 f23 h5 g4 f24 h6 g5 f25 h7 g6 f26 h8 g7 f27 h9 g8 f28) sz) (wd_c0e4689d h0 v0 r0 v1 v2 v3 v4 h1 h2 r1 h3 h4 h5 h6 v5 v6 h7 h8 r2 r3 v7 r4 r5 v8 v9 h9 r6 v10 v11 r7 v12 v13 r8 v14 w15 r9 v16 v17 r10 r11 r12 r13 r14 r15 v18 r16 r17 r18 v19 h1 g0 f20 h2 g1 f21 h3 g2 f22 h4 g3 f23 h5 g4 f24 h6 g5 f25 h7 g6 o_h7 h8 g7 o_h8 h9 g8 f28))) (va_A (wd_c0e4689d h0 v0 r0 v1 v2 v3 v4 h1 h2 r1 h3 h4 h5 h6 v5 v6 h7 h8 r2 r3 v7 r4 r5 v8 v9 h9 r6 v10 v11 r7 v12 v13 r8 v14 w15 r9 v16 v17 r10 r11 r12 r13 r14 r15 v18 r16 r17 r18 v19 h1 g0 f20 h2 g1 f21 h3 g2 f22 h4 g3 f23 h5 g4 f24 h6 g5 f25 h7 g6 f26 h8 g7 f27 h9 g8 f28) sz)) 0 0 (va_A (wd_c0e4689d h0 v0 r0 v1 v2 v3 v4 h1 h2 r1 h3 h4 h5 h6 v5 v6 h7 h8 r2 r3 v7 r4 r5 v8 v9 h9 r6 v10 v11 r7 v12 v13 r8 v14 w15 r9 v16 v17 r10 r11 r12 r13 r14 r15 v18 r16 r17 r18 v19 h1 g0 f20 h2 g1 f21 h3 g2 f22 h4 g3 f23 h5 g4 f24 h6 g5 f25 h7 g6 f26 h8 g7 f27 h9 g8 f28) sz) := by
  refine Met.ofW (cc := cX12_topBag) (maxL := 4) (ret := (some .int)) (by decide) rfl ?_
  intro p e s m args below meth c s₁ B hml hv
  obtain ⟨i_v1a, i_v1b⟩ := i_v1
  obtain ⟨i_v5a, i_v5b⟩ := i_v5
  obtain ⟨i_v6a, i_v6b⟩ := i_v6
  obtain ⟨i_v7a, i_v7b⟩ := i_v7
  obtain ⟨i_v8a, i_v8b⟩ := i_v8
  obtain ⟨i_v9a, i_v9b⟩ := i_v9
  obtain ⟨i_v10a, i_v10b⟩ := i_v10
  obtain ⟨i_v14a, i_v14b⟩ := i_v14
  obtain ⟨i_v18a, i_v18b⟩ := i_v18
  obtain ⟨i_v19a, i_v19b⟩ := i_v19
  obtain ⟨rfl, hsz, hP, hK, hD0⟩ := hv
  have hx := B.exec
  have hb := B.bytes
  have hr := B.returns
  have hts := atoms_spec (ws := q_X12_topBag) B.pre
  have hown : s.vm.findClass RX12 = some m.cls := findClass_of_methodNamed B.named
  have hlocks := B.notSynchronized
  subst hsz
  have hD := hD0.self (sz := s.heap.size)
  generalize hAe : va_A (wd_c0e4689d h0 v0 r0 v1 v2 v3 v4 h1 h2 r1 h3 h4 h5 h6 v5 v6 h7 h8 r2 r3 v7 r4 r5 v8 v9 h9 r6 v10 v11 r7 v12 v13 r8 v14 w15 r9 v16 v17 r10 r11 r12 r13 r14 r15 v18 r16 r17 r18 v19 h1 g0 f20 h2 g1 f21 h3 g2 f22 h4 g3 f23 h5 g4 f24 h6 g5 f25 h7 g6 f26 h8 g7 f27 h9 g8 f28) s.heap.size = A at hD ⊢
  have hA : ∀ q : Nat, s.heap.size ≤ q → A q := fun q h => by rw [← hAe]; exact Or.inr h
  have hS : va_S A s.heap s.heap [] := va_S.rf
  generalize hQ : (MQ below _ _ s 0 0 A) = Q
  have hl := lv_entry ([.ref h0, .int v29]) (n := 4) (Nat.le_of_ble_eq_true rfl)
  rw [lg_entry_eq]
  generalize (lg_sl ([.ref h0, .int v29]) ++ List.replicate (4 - (lg_sl ([.ref h0, .int v29])).length) Slot.unset).toArray = ls at hl ⊢
  have hl : lv_has ls 4 [(0, .ref h0), (1, .int v29)] := hl
  obtain ⟨H, hH⟩ : ∃ H : Heap, H = s.heap := ⟨_, rfl⟩
  obtain ⟨locs, hlocs⟩ : ∃ y : List Loc, y = [] := ⟨_, rfl⟩
  have hS : va_S A s.heap H locs := by rw [hH, hlocs]; exact va_S.rf
  have hP : va_P (dC, dI) vwCl (wd_c0e4689d h0 v0 r0 v1 v2 v3 v4 h1 h2 r1 h3 h4 h5 h6 v5 v6 h7 h8 r2 r3 v7 r4 r5 v8 v9 h9 r6 v10 v11 r7 v12 v13 r8 v14 w15 r9 v16 v17 r10 r11 r12 r13 r14 r15 v18 r16 r17 r18 v19 h1 g0 f20 h2 g1 f21 h3 g2 f22 h4 g3 f23 h5 g4 f24 h6 g5 f25 h7 g6 f26 h8 g7 f27 h9 g8 f28) H := by rw [hH]; exact hP
  rw [← hH, ← hlocs]
  refine lv_iconst (v := (-1)) hx hb dX12_topBag_0 (by decide) ?_
  refine lv_istore_n (lv' := [(2, .int (-1)), (0, .ref h0), (1, .int v29)]) hx hb dX12_topBag_1 rfl hl (by decide) rfl (fun ls hl => ?_)
  refine lv_iconst (v := 0) hx hb dX12_topBag_2 (by decide) ?_
  refine lv_istore_n (lv' := [(3, .int 0), (2, .int (-1)), (0, .ref h0), (1, .int v29)]) hx hb dX12_topBag_3 rfl hl (by decide) rfl (fun ls hl => ?_)
  have hL19 : ∀ (n9 : Nat), ∀ (x11 : Int32) (x12 : Int32) (fn13 : Nat → Int32) (fn14 : Nat → Int32) (H : Heap) (locs : List Loc) (ls : Array Slot), 0 ≤ x11.toInt → x11.toInt ≤ 8 → -1 ≤ x12.toInt → x12.toInt ≤ 7 → (8 - x11.toInt).toNat < n9 → va_P (dC, dI) vwCl (wd_c0e4689d h0 v0 r0 v1 v2 v3 v4 h1 h2 r1 h3 h4 h5 h6 v5 v6 h7 h8 r2 r3 v7 r4 r5 v8 v9 h9 r6 v10 v11 r7 v12 v13 r8 v14 w15 r9 v16 v17 r10 r11 r12 r13 r14 r15 v18 r16 r17 r18 v19 h1 g0 f20 h2 g1 f21 h3 g2 f22 h4 g3 f23 h5 g4 f24 h6 g5 f25 h7 g6 fn13 h8 g7 fn14 h9 g8 f28) H → va_D A (wd_c0e4689d h0 v0 r0 v1 v2 v3 v4 h1 h2 r1 h3 h4 h5 h6 v5 v6 h7 h8 r2 r3 v7 r4 r5 v8 v9 h9 r6 v10 v11 r7 v12 v13 r8 v14 w15 r9 v16 v17 r10 r11 r12 r13 r14 r15 v18 r16 r17 r18 v19 h1 g0 f20 h2 g1 f21 h3 g2 f22 h4 g3 f23 h5 g4 f24 h6 g5 f25 h7 g6 fn13 h8 g7 fn14 h9 g8 f28) → va_S A s.heap H locs → lv_has ls 4 [(3, .int x11), (2, .int x12), (0, .ref h0), (1, .int v29)] → W p l e ({ frames := 7, cells := 0, slots := 0, locals := 154 }) s m ([.ref h0, .int v29] : List Value).toArray below meth c H locs 0 0 Q (F0 m 4 ls []) := by
    intro n9
    induction n9 with
    | zero => intro x11 x12 fn13 fn14 H locs ls qa_x11 qb_x11 qa_x12 qb_x12 hm9 hP hD hS hl; exact absurd hm9 (Nat.not_lt_zero _)
    | succ n9 ih_hL19 =>
      intro x11 x12 fn13 fn14 H locs ls qa_x11 qb_x11 qa_x12 qb_x12 hm9 hP hD hS hl
      refine lv_iload_n hx hb dX12_topBag_4 rfl (lv_at hl 0 rfl) ?_
      refine lv_bipush (v := 8) hx hb dX12_topBag_5 (by decide) ?_
      refine lv_icmp_ge (tgt := 50) hx hb dX12_topBag_7 (by decide) (fun c20 => ?_) (fun c20 => ?_)
      · skip
        have fc20 : 8 ≤ x11.toInt := Int32.le_iff_toInt_le.mp c20
        refine lv_iload_n hx hb dX12_topBag_50 rfl (lv_at hl 1 rfl) ?_
        subst hQ
        have hP9 := hP.sub (ws' := (wd_c0e4689d h0 v0 r0 v1 v2 v3 v4 h1 h2 r1 h3 h4 h5 h6 v5 v6 h7 h8 r2 r3 v7 r4 r5 v8 v9 h9 r6 v10 v11 r7 v12 v13 r8 v14 w15 r9 v16 v17 r10 r11 r12 r13 r14 r15 v18 r16 r17 r18 v19 h1 g0 f20 h2 g1 f21 h3 g2 f22 h4 g3 f23 h5 g4 f24 h6 g5 f25 h7 g6 fn13 h8 g7 fn14 h9 g8 f28)) [0, 1, 2, 3, 4, 5, 6, 7, 8, 9] rfl
        have hD9 := hD.sub (ws' := (wd_c0e4689d h0 v0 r0 v1 v2 v3 v4 h1 h2 r1 h3 h4 h5 h6 v5 v6 h7 h8 r2 r3 v7 r4 r5 v8 v9 h9 r6 v10 v11 r7 v12 v13 r8 v14 w15 r9 v16 v17 r10 r11 r12 r13 r14 r15 v18 r16 r17 r18 v19 h1 g0 f20 h2 g1 f21 h3 g2 f22 h4 g3 f23 h5 g4 f24 h6 g5 f25 h7 g6 fn13 h8 g7 fn14 h9 g8 f28)) [0, 1, 2, 3, 4, 5, 6, 7, 8, 9] (by decide +kernel) rfl
        have hK9 := hK.sub (tys' := []) [] rfl
        exact W.iret (v := x12) hx hb hr (fun t ht hW => ⟨⟨x12, x12, rfl, rfl, ⟨fn13, fn14, by first | omega | decide, by first | omega | decide, by rw [ht]; exact hP9, va_K.moved hW.alike hK9, hD9⟩⟩, hS.F ht⟩) hS.2.2 dX12_topBag_51
      · skip
        have fc20 : ¬ (8 ≤ x11.toInt) := fun h9 => c20 (Int32.le_iff_toInt_le.mpr h9)
        refine lv_aload_n hx hb dX12_topBag_10 rfl (lv_at hl 2 rfl) ?_
        refine lv_iload_n hx hb dX12_topBag_11 rfl (lv_at hl 0 rfl) ?_
        have hPc := hP.sub (ws' := (wd_5013416a h0 v0 r0 v1 v2 v3 v4 h1 h2 r1 h3 h4 h5 h6 v5 v6 h7 h8 r2 r3 v7 r4 r5 v8 v9 h9 r6 v10 v11 r7 v12 v13 r8 v14 w15 r9 v16 v17 r10 r11 r12 r13 r14 r15 v18 r16 r17 r18 v19 h9 g8 f28)) [0, 9] rfl
        have hDc := hD.sub (ws' := (wd_5013416a h0 v0 r0 v1 v2 v3 v4 h1 h2 r1 h3 h4 h5 h6 v5 v6 h7 h8 r2 r3 v7 r4 r5 v8 v9 h9 r6 v10 v11 r7 v12 v13 r8 v14 w15 r9 v16 v17 r10 r11 r12 r13 r14 r15 v18 r16 r17 r18 v19 h9 g8 f28)) [0, 9] (by decide) rfl
        have hKc := hK.sub (tys' := [(g8, .int)]) [8] rfl
        have hFc := va_free (wc := (wd_5013416a h0 v0 r0 v1 v2 v3 v4 h1 h2 r1 h3 h4 h5 h6 v5 v6 h7 h8 r2 r3 v7 r4 r5 v8 v9 h9 r6 v10 v11 r7 v12 v13 r8 v14 w15 r9 v16 v17 r10 r11 r12 r13 r14 r15 v18 r16 r17 r18 v19 h9 g8 f28)) hD hS hA [0, 9] rfl
        refine va_calli (va_runV (As := [.int x11]) (rest := []) ⟨hx, hb, hml, hown, hts⟩ (k_X12_isThere l dC dI h0 h9 v0 r0 v1 v2 v3 v4 h1 h2 r1 h3 h4 h5 h6 v5 v6 h7 h8 r2 r3 v7 r4 r5 v8 v9 r6 v10 v11 r7 v12 v13 r8 v14 w15 r9 v16 v17 r10 r11 r12 r13 r14 r15 v18 r16 r17 r18 v19 g8 f28 x11 ⟨i_v1a, i_v1b⟩ ⟨i_v5a, i_v5b⟩ ⟨i_v6a, i_v6b⟩ ⟨i_v7a, i_v7b⟩ ⟨i_v8a, i_v8b⟩ ⟨i_v9a, i_v9b⟩ ⟨i_v10a, i_v10b⟩ ⟨i_v14a, i_v14b⟩ ⟨i_v18a, i_v18b⟩ ⟨i_v19a, i_v19b⟩ ia_f28.1 H.size) (cwV 1 hts g_X12_topBag_0 rfl rfl rfl (by decide +kernel) ⟨Nat.le_of_ble_eq_true rfl, Nat.le_of_ble_eq_true rfl⟩) (pv_PV12 hPc hKc hDc (q0 := 0) rfl) rfl rfl hl.1 rfl (lv_room (Nat.le_of_ble_eq_true rfl)) dX12_topBag_12 ⟨Nat.le_of_ble_eq_true rfl, Nat.le_of_ble_eq_true rfl⟩) hS (fun q _ h => hFc q h) hFc (fun ra21 u t H1 locs ht hvm hwra21 hB hz1 hk1 hS => ?_)
        try rw [hwra21] at hB
        obtain ⟨pt0_ra21, pt1_ra21, pt2_ra21, pt3_ra21, pt4_ra21, pt5_ra21, hP1, hK1, hD1⟩ := hB
        rw [ht] at hP1
        obtain ⟨hP2, hD2⟩ := va_join (wr := (wd_a0bd977d h1 g0 f20 h2 g1 f21 h3 g2 f22 h4 g3 f23 h5 g4 f24 h6 g5 f25 h7 g6 fn13 h8 g7 fn14)) (w1 := (wd_5013416a h0 v0 r0 v1 v2 v3 v4 h1 h2 r1 h3 h4 h5 h6 v5 v6 h7 h8 r2 r3 v7 r4 r5 v8 v9 h9 r6 v10 v11 r7 v12 v13 r8 v14 w15 r9 v16 v17 r10 r11 r12 r13 r14 r15 v18 r16 r17 r18 v19 h9 g8 f28)) hP hD [0, 9] [1, 2, 3, 4, 5, 6, 7, 8] rfl rfl (by decide) (by decide) hk1 hFc hP1 hD1
        clear hP hD hPc hDc hKc hFc hP1 hK1 hD1 hk1 hz1
        generalize H1 = H at hP2 hS ⊢
        have hP := hP2.sub (ws' := (wd_c0e4689d h0 v0 r0 v1 v2 v3 v4 h1 h2 r1 h3 h4 h5 h6 v5 v6 h7 h8 r2 r3 v7 r4 r5 v8 v9 h9 r6 v10 v11 r7 v12 v13 r8 v14 w15 r9 v16 v17 r10 r11 r12 r13 r14 r15 v18 r16 r17 r18 v19 h1 g0 f20 h2 g1 f21 h3 g2 f22 h4 g3 f23 h5 g4 f24 h6 g5 f25 h7 g6 fn13 h8 g7 fn14 h9 g8 f28)) [8, 0, 1, 2, 3, 4, 5, 6, 7, 9] rfl
        have hD := hD2.sub (ws' := (wd_c0e4689d h0 v0 r0 v1 v2 v3 v4 h1 h2 r1 h3 h4 h5 h6 v5 v6 h7 h8 r2 r3 v7 r4 r5 v8 v9 h9 r6 v10 v11 r7 v12 v13 r8 v14 w15 r9 v16 v17 r10 r11 r12 r13 r14 r15 v18 r16 r17 r18 v19 h1 g0 f20 h2 g1 f21 h3 g2 f22 h4 g3 f23 h5 g4 f24 h6 g5 f25 h7 g6 fn13 h8 g7 fn14 h9 g8 f28)) [8, 0, 1, 2, 3, 4, 5, 6, 7, 9] (by decide +kernel) rfl
        clear hP2 hD2
        have wra21 : ra21.toInt = 0 → ¬ f28 (pm_I x11 7) = 1 := fun h9 => pt5_ra21 h9 (by omega) (by omega)
        have hJ25 : ∀ (x22 : Int32) (fn23 : Nat → Int32) (fn24 : Nat → Int32) (H : Heap) (locs : List Loc) (ls : Array Slot), -1 ≤ x22.toInt → x22.toInt ≤ 7 → va_P (dC, dI) vwCl (wd_c0e4689d h0 v0 r0 v1 v2 v3 v4 h1 h2 r1 h3 h4 h5 h6 v5 v6 h7 h8 r2 r3 v7 r4 r5 v8 v9 h9 r6 v10 v11 r7 v12 v13 r8 v14 w15 r9 v16 v17 r10 r11 r12 r13 r14 r15 v18 r16 r17 r18 v19 h1 g0 f20 h2 g1 f21 h3 g2 f22 h4 g3 f23 h5 g4 f24 h6 g5 f25 h7 g6 fn23 h8 g7 fn24 h9 g8 f28) H → va_D A (wd_c0e4689d h0 v0 r0 v1 v2 v3 v4 h1 h2 r1 h3 h4 h5 h6 v5 v6 h7 h8 r2 r3 v7 r4 r5 v8 v9 h9 r6 v10 v11 r7 v12 v13 r8 v14 w15 r9 v16 v17 r10 r11 r12 r13 r14 r15 v18 r16 r17 r18 v19 h1 g0 f20 h2 g1 f21 h3 g2 f22 h4 g3 f23 h5 g4 f24 h6 g5 f25 h7 g6 fn23 h8 g7 fn24 h9 g8 f28) → va_S A s.heap H locs → lv_has ls 4 [(3, .int x11), (2, .int x12), (0, .ref h0), (1, .int v29)] → W p l e ({ frames := 7, cells := 0, slots := 0, locals := 154 }) s m ([.ref h0, .int v29] : List Value).toArray below meth c H locs 0 0 Q (F0 m 43 ls [.int x22]) := by
          intro x22 fn23 fn24 H locs ls qa_x22 qb_x22 hP hD hS hl
          refine lv_istore_n (lv' := [(2, .int x22), (3, .int x11), (0, .ref h0), (1, .int v29)]) hx hb dX12_topBag_43 rfl hl (by decide) rfl (fun ls hl => ?_)
          obtain ⟨t26, et26⟩ : ∃ y : Int32, y = x11 + 1 := ⟨_, rfl⟩
          have gt26 : t26.toInt = x11.toInt + (1) := pv_add (a := x11.toInt) (b := (1)) et26 rfl (by decide) (by omega) (by omega)
          refine lv_iinc (v := t26) (lv' := [(3, .int t26), (2, .int x22), (0, .ref h0), (1, .int v29)]) hx hb dX12_topBag_44 hl (k := 1) rfl (by rw [et26]; rfl) (by decide) rfl (fun ls hl => ?_)
          refine lv_goto (tgt := 4) hx hb dX12_topBag_47 (by decide) ?_
          exact ih_hL19 t26 x22 fn23 fn24 H locs ls (by first | omega | decide) (by first | omega | decide) qa_x22 qb_x22 (by first | omega | (simp only [Int.toNat] at *; omega)) hP hD hS (lv_sub hl [0, 1, 2, 3] rfl)
        refine lv_if_eq (tgt := 42) hx hb dX12_topBag_15 (by decide) (fun c27 => ?_) (fun c27 => ?_)
        · skip
          have fc27 : ra21.toInt = 0 := congrArg Int32.toInt c27
          have q0wra21 := wra21 (by omega)
          refine lv_iload_n hx hb dX12_topBag_42 rfl (lv_at hl 1 rfl) ?_
          exact hJ25 x12 fn13 fn14 H locs ls qa_x12 qb_x12 hP hD hS (lv_sub hl [0, 1, 2, 3] rfl)
        · skip
          have fc27 : ¬ (ra21.toInt = 0) := fun h9 => c27 (Int32.toInt_inj.mp h9)
          have q1pt4_ra21 := pt4_ra21 (by omega)
          refine lv_iload_n hx hb dX12_topBag_18 rfl (lv_at hl 1 rfl) ?_
          refine lv_iconst (v := (-1)) hx hb dX12_topBag_19 (by decide) ?_
          refine lv_icmp_eq (tgt := 38) hx hb dX12_topBag_20 (by decide) (fun c28 => ?_) (fun c28 => ?_)
          · skip
            have fc28 : x12.toInt = (-1) := congrArg Int32.toInt c28
            refine lv_iload_n hx hb dX12_topBag_38 rfl (lv_at hl 0 rfl) ?_
            refine lv_goto (tgt := 43) hx hb dX12_topBag_39 (by decide) ?_
            exact hJ25 x11 fn13 fn14 H locs ls (by first | omega | decide) (by first | omega | decide) hP hD hS (lv_sub hl [0, 1, 2, 3] rfl)
          · skip
            have fc28 : ¬ (x12.toInt = (-1)) := fun h9 => c28 (Int32.toInt_inj.mp h9)
            refine lv_aload_n hx hb dX12_topBag_23 rfl (lv_at hl 2 rfl) ?_
            refine lv_iload_n hx hb dX12_topBag_24 rfl (lv_at hl 0 rfl) ?_
            refine lv_iload_n hx hb dX12_topBag_25 rfl (lv_at hl 3 rfl) ?_
            have hPc := hP.sub (ws' := (wd_c0e4689d h0 v0 r0 v1 v2 v3 v4 h1 h2 r1 h3 h4 h5 h6 v5 v6 h7 h8 r2 r3 v7 r4 r5 v8 v9 h9 r6 v10 v11 r7 v12 v13 r8 v14 w15 r9 v16 v17 r10 r11 r12 r13 r14 r15 v18 r16 r17 r18 v19 h1 g0 f20 h2 g1 f21 h3 g2 f22 h4 g3 f23 h5 g4 f24 h6 g5 f25 h7 g6 fn13 h8 g7 fn14 h9 g8 f28)) [0, 1, 2, 3, 4, 5, 6, 7, 8, 9] rfl
            have hDc := hD.sub (ws' := (wd_c0e4689d h0 v0 r0 v1 v2 v3 v4 h1 h2 r1 h3 h4 h5 h6 v5 v6 h7 h8 r2 r3 v7 r4 r5 v8 v9 h9 r6 v10 v11 r7 v12 v13 r8 v14 w15 r9 v16 v17 r10 r11 r12 r13 r14 r15 v18 r16 r17 r18 v19 h1 g0 f20 h2 g1 f21 h3 g2 f22 h4 g3 f23 h5 g4 f24 h6 g5 f25 h7 g6 fn13 h8 g7 fn14 h9 g8 f28)) [0, 1, 2, 3, 4, 5, 6, 7, 8, 9] (by decide +kernel) rfl
            have hKc := hK.sub (tys' := [(g0, .int), (g1, .int), (g2, .int), (g3, .int), (g4, .int), (g5, .int), (g6, .int), (g7, .int), (g8, .int)]) [0, 1, 2, 3, 4, 5, 6, 7, 8] rfl
            have hFc := va_free (wc := (wd_c0e4689d h0 v0 r0 v1 v2 v3 v4 h1 h2 r1 h3 h4 h5 h6 v5 v6 h7 h8 r2 r3 v7 r4 r5 v8 v9 h9 r6 v10 v11 r7 v12 v13 r8 v14 w15 r9 v16 v17 r10 r11 r12 r13 r14 r15 v18 r16 r17 r18 v19 h1 g0 f20 h2 g1 f21 h3 g2 f22 h4 g3 f23 h5 g4 f24 h6 g5 f25 h7 g6 fn13 h8 g7 fn14 h9 g8 f28)) hD hS hA [0, 1, 2, 3, 4, 5, 6, 7, 8, 9] rfl
            refine va_calli (va_runV (As := [.int x11, .int v29]) (rest := []) ⟨hx, hb, hml, hown, hts⟩ (k_X12_valueOf l dC dI h0 h1 h2 h3 h4 h5 h6 h7 h8 h9 v0 r0 v1 v2 v3 v4 r1 v5 v6 r2 r3 v7 r4 r5 v8 v9 r6 v10 v11 r7 v12 v13 r8 v14 w15 r9 v16 v17 r10 r11 r12 r13 r14 r15 v18 r16 r17 r18 v19 g0 f20 g1 f21 g2 f22 g3 f23 g4 f24 g5 f25 g6 fn13 g7 fn14 g8 f28 x11 v29 ⟨i_v1a, i_v1b⟩ ⟨i_v5a, i_v5b⟩ ⟨i_v6a, i_v6b⟩ ⟨i_v7a, i_v7b⟩ ⟨i_v8a, i_v8b⟩ ⟨i_v9a, i_v9b⟩ ⟨i_v10a, i_v10b⟩ ⟨i_v14a, i_v14b⟩ ⟨i_v18a, i_v18b⟩ ⟨i_v19a, i_v19b⟩ ⟨qa_x11, by first | omega | decide⟩ ia_f28 pp0 H.size) (cwV 2 hts g_X12_topBag_1 rfl rfl rfl (by decide +kernel) ⟨Nat.le_of_ble_eq_true rfl, Nat.le_of_ble_eq_true rfl⟩) (pv_PV12 hPc hKc hDc (q0 := 0) rfl) rfl rfl hl.1 rfl (lv_room (Nat.le_of_ble_eq_true rfl)) dX12_topBag_26 ⟨Nat.le_of_ble_eq_true rfl, Nat.le_of_ble_eq_true rfl⟩) hS (fun q _ h => hFc q h) hFc (fun ra29 u t H1 locs ht hvm hwra29 hB hz1 hk1 hS => ?_)
            try rw [hwra29] at hB
            obtain ⟨fn30, fn31, hP1, hK1, hD1⟩ := hB
            rw [ht] at hP1
            obtain ⟨hP2, hD2⟩ := va_join (wr := []) (w1 := (wd_c0e4689d h0 v0 r0 v1 v2 v3 v4 h1 h2 r1 h3 h4 h5 h6 v5 v6 h7 h8 r2 r3 v7 r4 r5 v8 v9 h9 r6 v10 v11 r7 v12 v13 r8 v14 w15 r9 v16 v17 r10 r11 r12 r13 r14 r15 v18 r16 r17 r18 v19 h1 g0 f20 h2 g1 f21 h3 g2 f22 h4 g3 f23 h5 g4 f24 h6 g5 f25 h7 g6 fn30 h8 g7 fn31 h9 g8 f28)) hP hD [0, 1, 2, 3, 4, 5, 6, 7, 8, 9] [] rfl rfl (by decide) (by decide) hk1 hFc hP1 hD1
            clear hP hD hPc hDc hKc hFc hP1 hK1 hD1 hk1 hz1
            generalize H1 = H at hP2 hS ⊢
            have hP : va_P (dC, dI) vwCl (wd_c0e4689d h0 v0 r0 v1 v2 v3 v4 h1 h2 r1 h3 h4 h5 h6 v5 v6 h7 h8 r2 r3 v7 r4 r5 v8 v9 h9 r6 v10 v11 r7 v12 v13 r8 v14 w15 r9 v16 v17 r10 r11 r12 r13 r14 r15 v18 r16 r17 r18 v19 h1 g0 f20 h2 g1 f21 h3 g2 f22 h4 g3 f23 h5 g4 f24 h6 g5 f25 h7 g6 fn30 h8 g7 fn31 h9 g8 f28) H := hP2
            have hD : va_D A (wd_c0e4689d h0 v0 r0 v1 v2 v3 v4 h1 h2 r1 h3 h4 h5 h6 v5 v6 h7 h8 r2 r3 v7 r4 r5 v8 v9 h9 r6 v10 v11 r7 v12 v13 r8 v14 w15 r9 v16 v17 r10 r11 r12 r13 r14 r15 v18 r16 r17 r18 v19 h1 g0 f20 h2 g1 f21 h3 g2 f22 h4 g3 f23 h5 g4 f24 h6 g5 f25 h7 g6 fn30 h8 g7 fn31 h9 g8 f28) := hD2
            clear hP2 hD2
            refine lv_aload_n hx hb dX12_topBag_29 rfl (lv_at hl 2 rfl) ?_
            refine lv_iload_n hx hb dX12_topBag_30 rfl (lv_at hl 1 rfl) ?_
            refine lv_iload_n hx hb dX12_topBag_31 rfl (lv_at hl 3 rfl) ?_
            have hPc := hP.sub (ws' := (wd_c0e4689d h0 v0 r0 v1 v2 v3 v4 h1 h2 r1 h3 h4 h5 h6 v5 v6 h7 h8 r2 r3 v7 r4 r5 v8 v9 h9 r6 v10 v11 r7 v12 v13 r8 v14 w15 r9 v16 v17 r10 r11 r12 r13 r14 r15 v18 r16 r17 r18 v19 h1 g0 f20 h2 g1 f21 h3 g2 f22 h4 g3 f23 h5 g4 f24 h6 g5 f25 h7 g6 fn30 h8 g7 fn31 h9 g8 f28)) [0, 1, 2, 3, 4, 5, 6, 7, 8, 9] rfl
            have hDc := hD.sub (ws' := (wd_c0e4689d h0 v0 r0 v1 v2 v3 v4 h1 h2 r1 h3 h4 h5 h6 v5 v6 h7 h8 r2 r3 v7 r4 r5 v8 v9 h9 r6 v10 v11 r7 v12 v13 r8 v14 w15 r9 v16 v17 r10 r11 r12 r13 r14 r15 v18 r16 r17 r18 v19 h1 g0 f20 h2 g1 f21 h3 g2 f22 h4 g3 f23 h5 g4 f24 h6 g5 f25 h7 g6 fn30 h8 g7 fn31 h9 g8 f28)) [0, 1, 2, 3, 4, 5, 6, 7, 8, 9] (by decide +kernel) rfl
            have hKc := hK.sub (tys' := [(g0, .int), (g1, .int), (g2, .int), (g3, .int), (g4, .int), (g5, .int), (g6, .int), (g7, .int), (g8, .int)]) [0, 1, 2, 3, 4, 5, 6, 7, 8] rfl
            have hFc := va_free (wc := (wd_c0e4689d h0 v0 r0 v1 v2 v3 v4 h1 h2 r1 h3 h4 h5 h6 v5 v6 h7 h8 r2 r3 v7 r4 r5 v8 v9 h9 r6 v10 v11 r7 v12 v13 r8 v14 w15 r9 v16 v17 r10 r11 r12 r13 r14 r15 v18 r16 r17 r18 v19 h1 g0 f20 h2 g1 f21 h3 g2 f22 h4 g3 f23 h5 g4 f24 h6 g5 f25 h7 g6 fn30 h8 g7 fn31 h9 g8 f28)) hD hS hA [0, 1, 2, 3, 4, 5, 6, 7, 8, 9] rfl
            refine va_calli (va_runV (As := [.int x12, .int v29]) (rest := [.int ra29]) ⟨hx, hb, hml, hown, hts⟩ (k_X12_valueOf l dC dI h0 h1 h2 h3 h4 h5 h6 h7 h8 h9 v0 r0 v1 v2 v3 v4 r1 v5 v6 r2 r3 v7 r4 r5 v8 v9 r6 v10 v11 r7 v12 v13 r8 v14 w15 r9 v16 v17 r10 r11 r12 r13 r14 r15 v18 r16 r17 r18 v19 g0 f20 g1 f21 g2 f22 g3 f23 g4 f24 g5 f25 g6 fn30 g7 fn31 g8 f28 x12 v29 ⟨i_v1a, i_v1b⟩ ⟨i_v5a, i_v5b⟩ ⟨i_v6a, i_v6b⟩ ⟨i_v7a, i_v7b⟩ ⟨i_v8a, i_v8b⟩ ⟨i_v9a, i_v9b⟩ ⟨i_v10a, i_v10b⟩ ⟨i_v14a, i_v14b⟩ ⟨i_v18a, i_v18b⟩ ⟨i_v19a, i_v19b⟩ ⟨by first | omega | decide, qb_x12⟩ ia_f28 pp0 H.size) (cwV 2 hts g_X12_topBag_1 rfl rfl rfl (by decide +kernel) ⟨Nat.le_of_ble_eq_true rfl, Nat.le_of_ble_eq_true rfl⟩) (pv_PV12 hPc hKc hDc (q0 := 0) rfl) rfl rfl hl.1 rfl (lv_room (Nat.le_of_ble_eq_true rfl)) dX12_topBag_32 ⟨Nat.le_of_ble_eq_true rfl, Nat.le_of_ble_eq_true rfl⟩) hS (fun q _ h => hFc q h) hFc (fun ra32 u t H1 locs ht hvm hwra32 hB hz1 hk1 hS => ?_)
            try rw [hwra32] at hB
            obtain ⟨fn33, fn34, hP1, hK1, hD1⟩ := hB
            rw [ht] at hP1
            obtain ⟨hP2, hD2⟩ := va_join (wr := []) (w1 := (wd_c0e4689d h0 v0 r0 v1 v2 v3 v4 h1 h2 r1 h3 h4 h5 h6 v5 v6 h7 h8 r2 r3 v7 r4 r5 v8 v9 h9 r6 v10 v11 r7 v12 v13 r8 v14 w15 r9 v16 v17 r10 r11 r12 r13 r14 r15 v18 r16 r17 r18 v19 h1 g0 f20 h2 g1 f21 h3 g2 f22 h4 g3 f23 h5 g4 f24 h6 g5 f25 h7 g6 fn33 h8 g7 fn34 h9 g8 f28)) hP hD [0, 1, 2, 3, 4, 5, 6, 7, 8, 9] [] rfl rfl (by decide) (by decide) hk1 hFc hP1 hD1
            clear hP hD hPc hDc hKc hFc hP1 hK1 hD1 hk1 hz1
            generalize H1 = H at hP2 hS ⊢
            have hP : va_P (dC, dI) vwCl (wd_c0e4689d h0 v0 r0 v1 v2 v3 v4 h1 h2 r1 h3 h4 h5 h6 v5 v6 h7 h8 r2 r3 v7 r4 r5 v8 v9 h9 r6 v10 v11 r7 v12 v13 r8 v14 w15 r9 v16 v17 r10 r11 r12 r13 r14 r15 v18 r16 r17 r18 v19 h1 g0 f20 h2 g1 f21 h3 g2 f22 h4 g3 f23 h5 g4 f24 h6 g5 f25 h7 g6 fn33 h8 g7 fn34 h9 g8 f28) H := hP2
            have hD : va_D A (wd_c0e4689d h0 v0 r0 v1 v2 v3 v4 h1 h2 r1 h3 h4 h5 h6 v5 v6 h7 h8 r2 r3 v7 r4 r5 v8 v9 h9 r6 v10 v11 r7 v12 v13 r8 v14 w15 r9 v16 v17 r10 r11 r12 r13 r14 r15 v18 r16 r17 r18 v19 h1 g0 f20 h2 g1 f21 h3 g2 f22 h4 g3 f23 h5 g4 f24 h6 g5 f25 h7 g6 fn33 h8 g7 fn34 h9 g8 f28) := hD2
            clear hP2 hD2
            refine lv_icmp_le (tgt := 42) hx hb dX12_topBag_35 (by decide) (fun c35 => ?_) (fun c35 => ?_)
            · skip
              have fc35 : ra29.toInt ≤ ra32.toInt := Int32.le_iff_toInt_le.mp c35
              have r1c35 := Int32.toInt_lt ra29
              have r2c35 := Int32.toInt_lt ra32
              have r3c35 := Int32.le_toInt ra29
              have r4c35 := Int32.le_toInt ra32
              refine lv_iload_n hx hb dX12_topBag_42 rfl (lv_at hl 1 rfl) ?_
              exact hJ25 x12 fn33 fn34 H locs ls qa_x12 qb_x12 hP hD hS (lv_sub hl [0, 1, 2, 3] rfl)
            · skip
              have fc35 : ¬ (ra29.toInt ≤ ra32.toInt) := fun h9 => c35 (Int32.le_iff_toInt_le.mpr h9)
              have r1c35 := Int32.toInt_lt ra29
              have r2c35 := Int32.toInt_lt ra32
              have r3c35 := Int32.le_toInt ra29
              have r4c35 := Int32.le_toInt ra32
              refine lv_iload_n hx hb dX12_topBag_38 rfl (lv_at hl 0 rfl) ?_
              refine lv_goto (tgt := 43) hx hb dX12_topBag_39 (by decide) ?_
              exact hJ25 x11 fn33 fn34 H locs ls (by first | omega | decide) (by first | omega | decide) hP hD hS (lv_sub hl [0, 1, 2, 3] rfl)
  exact hL19 _ 0 ((-1)) f26 f27 H locs ls (by decide) (by decide) (by decide) (by decide) (Nat.lt_succ_self _) hP hD hS (lv_sub hl [0, 1, 2, 3] rfl)
def q_X12_in_12 : List Cond := .code yX12_in cX12_in 3 (some .boolean) :: (([] : List Cond))
set_option maxHeartbeats 4000000 in
set_option maxRecDepth 100000 in
theorem k_X12_in_12 (l : Launch) (dC : Nat → ClassId) (dI : Nat → Nat → Nat) (v0 : Int32) (sz : Nat) : Met l yX12_in q_X12_in_12 ({ frames := 0, cells := 0, slots := 0, locals := 0 }) (va_Pc [.int v0, .int 0, .int 12] (fun U => U.heap.size = sz ∧ va_P (dC, dI) vwCl [] U.heap ∧ va_K (dC, dI) vwCl [] U ∧ va_D (fun _ => True) [])) (va_Qi (fun (r : Int32) (r9 : Int32) => r9 = r) (fun (r : Int32) (t : State) => ((0 ≤ r.toInt) ∧ (r.toInt ≤ 1) ∧ ((r.toInt = 1 → 0 ≤ v0.toInt)) ∧ ((r.toInt = 1 → v0.toInt ≤ 12)) ∧ (r.toInt = 0 → ¬ (0 ≤ v0.toInt ∧ v0.toInt ≤ 12)) ∧ va_P (dC, dI) vwCl [] t.heap ∧ va_K (dC, dI) vwCl [] t ∧ va_D (va_A [] sz) [])) (va_A [] sz)) 0 0 (va_A [] sz) := by
  refine Met.ofW (cc := cX12_in) (maxL := 3) (ret := (some .boolean)) (by decide) rfl ?_
  intro p e s m args below meth c s₁ B hml hv
  obtain ⟨rfl, hsz, hP, hK, hD0⟩ := hv
  have hx := B.exec
  have hb := B.bytes
  have hr := B.returns
  have hts := atoms_spec (ws := q_X12_in_12) B.pre
  have hown : s.vm.findClass RX12 = some m.cls := findClass_of_methodNamed B.named
  have hlocks := B.notSynchronized
  subst hsz
  have hD := hD0.self (sz := s.heap.size)
  generalize hAe : va_A [] s.heap.size = A at hD ⊢
  have hA : ∀ q : Nat, s.heap.size ≤ q → A q := fun q h => by rw [← hAe]; exact Or.inr h
  have hS : va_S A s.heap s.heap [] := va_S.rf
  generalize hQ : (MQ below _ _ s 0 0 A) = Q
  have hl := lv_entry ([.int v0, .int 0, .int 12]) (n := 3) (Nat.le_of_ble_eq_true rfl)
  rw [lg_entry_eq]
  generalize (lg_sl ([.int v0, .int 0, .int 12]) ++ List.replicate (3 - (lg_sl ([.int v0, .int 0, .int 12])).length) Slot.unset).toArray = ls at hl ⊢
  have hl : lv_has ls 3 [(0, .int v0), (1, .int 0), (2, .int 12)] := hl
  obtain ⟨H, hH⟩ : ∃ H : Heap, H = s.heap := ⟨_, rfl⟩
  obtain ⟨locs, hlocs⟩ : ∃ y : List Loc, y = [] := ⟨_, rfl⟩
  have hS : va_S A s.heap H locs := by rw [hH, hlocs]; exact va_S.rf
  have hP : va_P (dC, dI) vwCl [] H := by rw [hH]; exact hP
  rw [← hH, ← hlocs]
  refine lv_iload_n hx hb dX12_in_0 rfl (lv_at hl 0 rfl) ?_
  refine lv_iload_n hx hb dX12_in_1 rfl (lv_at hl 1 rfl) ?_
  refine lv_icmp_lt (tgt := 14) hx hb dX12_in_2 (by decide) (fun c1 => ?_) (fun c1 => ?_)
  · skip
    have fc1 : v0.toInt < 0 := Int32.lt_iff_toInt_lt.mp c1
    refine lv_iconst (v := 0) hx hb dX12_in_14 (by decide) ?_
    subst hQ
    have hP9 := hP.sub (ws' := []) [] rfl
    have hD9 := hD.sub (ws' := []) [] (by decide) rfl
    have hK9 := hK.sub (tys' := []) [] rfl
    exact W.zret (v := 0) hx hb hr rfl (fun t ht hW => ⟨⟨0, 0, rfl, rfl, ⟨by first | omega | decide, by first | omega | decide, fun h9 => absurd h9 (by decide), fun h9 => absurd h9 (by decide), fun _ => by omega, by rw [ht]; exact hP9, va_K.moved hW.alike hK9, hD9⟩⟩, hS.F ht⟩) hS.2.2 dX12_in_15
  · skip
    have fc1 : ¬ (v0.toInt < 0) := fun h9 => c1 (Int32.lt_iff_toInt_lt.mpr h9)
    refine lv_iload_n hx hb dX12_in_5 rfl (lv_at hl 0 rfl) ?_
    refine lv_iload_n hx hb dX12_in_6 rfl (lv_at hl 2 rfl) ?_
    refine lv_icmp_gt (tgt := 14) hx hb dX12_in_7 (by decide) (fun c2 => ?_) (fun c2 => ?_)
    · skip
      have fc2 : 12 < v0.toInt := Int32.lt_iff_toInt_lt.mp c2
      refine lv_iconst (v := 0) hx hb dX12_in_14 (by decide) ?_
      subst hQ
      have hP9 := hP.sub (ws' := []) [] rfl
      have hD9 := hD.sub (ws' := []) [] (by decide) rfl
      have hK9 := hK.sub (tys' := []) [] rfl
      exact W.zret (v := 0) hx hb hr rfl (fun t ht hW => ⟨⟨0, 0, rfl, rfl, ⟨by first | omega | decide, by first | omega | decide, fun h9 => absurd h9 (by decide), fun h9 => absurd h9 (by decide), fun _ => by omega, by rw [ht]; exact hP9, va_K.moved hW.alike hK9, hD9⟩⟩, hS.F ht⟩) hS.2.2 dX12_in_15
    · skip
      have fc2 : ¬ (12 < v0.toInt) := fun h9 => c2 (Int32.lt_iff_toInt_lt.mpr h9)
      refine lv_iconst (v := 1) hx hb dX12_in_10 (by decide) ?_
      refine lv_goto (tgt := 15) hx hb dX12_in_11 (by decide) ?_
      subst hQ
      have hP9 := hP.sub (ws' := []) [] rfl
      have hD9 := hD.sub (ws' := []) [] (by decide) rfl
      have hK9 := hK.sub (tys' := []) [] rfl
      exact W.zret (v := 1) hx hb hr rfl (fun t ht hW => ⟨⟨1, 1, rfl, rfl, ⟨by first | omega | decide, by first | omega | decide, fun _ => by omega, fun _ => by omega, fun h9 => absurd h9 (by decide), by rw [ht]; exact hP9, va_K.moved hW.alike hK9, hD9⟩⟩, hS.F ht⟩) hS.2.2 dX12_in_15
def q_X12_onesBy : List Cond := .code yX12_onesBy cX12_onesBy 5 (some .int) :: (([.code yX12_isThere cX12_isThere 2 (some .boolean), .code yX12_in cX12_in 3 (some .boolean), .initialized RX12, .static yX12_in, .methodLink RX12 217 yX12_in, .code yX12_of cX12_of 3 (some .int), .fieldLink RX12 52 "LeftArgumentsModel" "now" "[I", .instanceMethod yX12_of, .selects RX12 yX12_of yX12_of, .methodLink RX12 287 yX12_of, .instanceMethod yX12_isThere, .selects RX12 yX12_isThere yX12_isThere, .methodLink RX12 290 yX12_isThere] : List Cond) ++ wsX120)
set_option maxRecDepth 20000 in
theorem g_X12_onesBy_0 : GoodIn q_X12_onesBy (wsV RX12 290 RX12 yX12_isThere q_X12_isThere) := goodIn_app (goodIn_r _ [13, 11, 12, 3] rfl (by decide +kernel)) (goodIn_ca (goodIn_r (.code yX12_isThere cX12_isThere 2 (some .boolean) :: [.code yX12_in cX12_in 3 (some .boolean), .initialized RX12, .static yX12_in, .methodLink RX12 217 yX12_in, .code yX12_of cX12_of 3 (some .int), .fieldLink RX12 52 "LeftArgumentsModel" "now" "[I", .instanceMethod yX12_of, .selects RX12 yX12_of yX12_of, .methodLink RX12 287 yX12_of]) [1, 2, 3, 4, 5, 6, 7, 8, 9, 10] rfl (by decide +kernel)) (goodIn_sub (fun _ h => List.mem_cons_of_mem _ (List.mem_append_right _ h)) gwX12))
set_option maxRecDepth 20000 in
theorem g_X12_onesBy_1 : GoodIn q_X12_onesBy (wsV RX12 287 RX12 yX12_of q_X12_of_4) := goodIn_app (goodIn_r _ [10, 8, 9, 3] rfl (by decide +kernel)) (goodIn_ca (goodIn_r (.code yX12_of cX12_of 3 (some .int) :: [.fieldLink RX12 52 "LeftArgumentsModel" "now" "[I"]) [6, 7] rfl (by decide +kernel)) (goodIn_sub (fun _ h => List.mem_cons_of_mem _ (List.mem_append_right _ h)) gwX12))
set_option maxHeartbeats 4000000 in
set_option maxRecDepth 100000 in
theorem k_X12_onesBy (l : Launch) (dC : Nat → ClassId) (dI : Nat → Nat → Nat) (h0 : Nat) (h1 : Nat) (v0 : Int32) (r0 : Nat) (v1 : Int32) (v2 : Int32) (v3 : Int32) (v4 : Int32) (r1 : Nat) (r2 : Nat) (r3 : Nat) (r4 : Nat) (r5 : Nat) (r6 : Nat) (r7 : Nat) (v5 : Int32) (v6 : Int32) (r8 : Nat) (r9 : Nat) (r10 : Nat) (r11 : Nat) (v7 : Int32) (r12 : Nat) (r13 : Nat) (v8 : Int32) (v9 : Int32) (r14 : Nat) (v10 : Int32) (v11 : Int32) (r15 : Nat) (v12 : Int32) (v13 : Int32) (r16 : Nat) (v14 : Int32) (w15 : Int64) (r17 : Nat) (v16 : Int32) (v17 : Int32) (r18 : Nat) (r19 : Nat) (r20 : Nat) (r21 : Nat) (r22 : Nat) (r23 : Nat) (v18 : Int32) (r24 : Nat) (r25 : Nat) (r26 : Nat) (v19 : Int32) (g0 : ClassId) (f20 : Nat → Int32) (i_v1 : 0 ≤ v1.toInt ∧ v1.toInt ≤ 240) (i_v5 : 0 ≤ v5.toInt ∧ v5.toInt ≤ 4) (i_v6 : 0 ≤ v6.toInt ∧ v6.toInt ≤ 4) (i_v7 : 0 ≤ v7.toInt ∧ v7.toInt ≤ 8) (i_v8 : 0 ≤ v8.toInt ∧ v8.toInt ≤ 8) (i_v9 : 0 ≤ v9.toInt ∧ v9.toInt ≤ 1) (i_v10 : -1 ≤ v10.toInt ∧ v10.toInt ≤ 3) (i_v14 : 0 ≤ v14.toInt ∧ v14.toInt ≤ 40) (i_v18 : 0 ≤ v18.toInt ∧ v18.toInt ≤ 10) (i_v19 : 0 ≤ v19.toInt ∧ v19.toInt ≤ 1) (ia_f20 : (pm_NW f20)) (sz : Nat) : Met l yX12_onesBy q_X12_onesBy ({ frames := 2, cells := 0, slots := 0, locals := 43 }) (va_Pc [.ref h0, .int 3, .int 9] (fun U => U.heap.size = sz ∧ va_P (dC, dI) vwCl (wd_5013416a h0 v0 r0 v1 v2 v3 v4 r1 r2 r3 r4 r5 r6 r7 v5 v6 r8 r9 r10 r11 v7 r12 r13 v8 v9 h1 r14 v10 v11 r15 v12 v13 r16 v14 w15 r17 v16 v17 r18 r19 r20 r21 r22 r23 v18 r24 r25 r26 v19 h1 g0 f20) U.heap ∧ va_K (dC, dI) vwCl [(g0, .int)] U ∧ va_D (fun _ => True) (wd_5013416a h0 v0 r0 v1 v2 v3 v4 r1 r2 r3 r4 r5 r6 r7 v5 v6 r8 r9 r10 r11 v7 r12 r13 v8 v9 h1 r14 v10 v11 r15 v12 v13 r16 v14 w15 r17 v16 v17 r18 r19 r20 r21 r22 r23 v18 r24 r25 r26 v19 h1 g0 f20))) (va_Qi (fun (r : Int32) (r9 : Int32) => r9 = r) (fun (r : Int32) (t : State) => (va_P (dC, dI) vwCl (wd_5013416a h0 v0 r0 v1 v2 v3 v4 r1 r2 r3 r4 r5 r6 r7 v5 v6 r8 r9 r10 r11 v7 r12 r13 v8 v9 h1 r14 v10 v11 r15 v12 v13 r16 v14 w15 r17 v16 v17 r18 r19 r20 r21 r22 r23 v18 r24 r25 r26 v19 h1 g0 f20) t.heap ∧ va_K (dC, dI) vwCl [] t ∧ va_D (va_A (wd_5013416a h0 v0 r0 v1 v2 v3 v4 r1 r2 r3 r4 r5 r6 r7 v5 v6 r8 r9 r10 r11 v7 r12 r13 v8 v9 h1 r14 v10 v11 r15 v12 v13 r16 v14 w15 r17 v16 v17 r18 r19 r20 r21 r22 r23 v18 r24 r25 r26 v19 h1 g0 f20) sz) (wd_5013416a h0 v0 r0 v1 v2 v3 v4 r1 r2 r3 r4 r5 r6 r7 v5 v6 r8 r9 r10 r11 v7 r12 r13 v8 v9 h1 r14 v10 v11 r15 v12 v13 r16 v14 w15 r17 v16 v17 r18 r19 r20 r21 r22 r23 v18 r24 r25 r26 v19 h1 g0 f20))) (va_A (wd_5013416a h0 v0 r0 v1 v2 v3 v4 r1 r2 r3 r4 r5 r6 r7 v5 v6 r8 r9 r10 r11 v7 r12 r13 v8 v9 h1 r14 v10 v11 r15 v12 v13 r16 v14 w15 r17 v16 v17 r18 r19 r20 r21 r22 r23 v18 r24 r25 r26 v19 h1 g0 f20) sz)) 0 0 (va_A (wd_5013416a h0 v0 r0 v1 v2 v3 v4 r1 r2 r3 r4 r5 r6 r7 v5 v6 r8 r9 r10 r11 v7 r12 r13 v8 v9 h1 r14 v10 v11 r15 v12 v13 r16 v14 w15 r17 v16 v17 r18 r19 r20 r21 r22 r23 v18 r24 r25 r26 v19 h1 g0 f20) sz) := by
  refine Met.ofW (cc := cX12_onesBy) (maxL := 5) (ret := (some .int)) (by decide) rfl ?_
  intro p e s m args below meth c s₁ B hml hv
  obtain ⟨i_v1a, i_v1b⟩ := i_v1
  obtain ⟨i_v5a, i_v5b⟩ := i_v5
  obtain ⟨i_v6a, i_v6b⟩ := i_v6
  obtain ⟨i_v7a, i_v7b⟩ := i_v7
  obtain ⟨i_v8a, i_v8b⟩ := i_v8
  obtain ⟨i_v9a, i_v9b⟩ := i_v9
  obtain ⟨i_v10a, i_v10b⟩ := i_v10
  obtain ⟨i_v14a, i_v14b⟩ := i_v14
  obtain ⟨i_v18a, i_v18b⟩ := i_v18
  obtain ⟨i_v19a, i_v19b⟩ := i_v19
  obtain ⟨rfl, hsz, hP, hK, hD0⟩ := hv
  have hx := B.exec
  have hb := B.bytes
  have hr := B.returns
  have hts := atoms_spec (ws := q_X12_onesBy) B.pre
  have hown : s.vm.findClass RX12 = some m.cls := findClass_of_methodNamed B.named
  have hlocks := B.notSynchronized
  subst hsz
  have hD := hD0.self (sz := s.heap.size)
  generalize hAe : va_A (wd_5013416a h0 v0 r0 v1 v2 v3 v4 r1 r2 r3 r4 r5 r6 r7 v5 v6 r8 r9 r10 r11 v7 r12 r13 v8 v9 h1 r14 v10 v11 r15 v12 v13 r16 v14 w15 r17 v16 v17 r18 r19 r20 r21 r22 r23 v18 r24 r25 r26 v19 h1 g0 f20) s.heap.size = A at hD ⊢
  have hA : ∀ q : Nat, s.heap.size ≤ q → A q := fun q h => by rw [← hAe]; exact Or.inr h
  have hS : va_S A s.heap s.heap [] := va_S.rf
  generalize hQ : (MQ below _ _ s 0 0 A) = Q
  have hl := lv_entry ([.ref h0, .int 3, .int 9]) (n := 5) (Nat.le_of_ble_eq_true rfl)
  rw [lg_entry_eq]
  generalize (lg_sl ([.ref h0, .int 3, .int 9]) ++ List.replicate (5 - (lg_sl ([.ref h0, .int 3, .int 9])).length) Slot.unset).toArray = ls at hl ⊢
  have hl : lv_has ls 5 [(0, .ref h0), (1, .int 3), (2, .int 9)] := hl
  obtain ⟨H, hH⟩ : ∃ H : Heap, H = s.heap := ⟨_, rfl⟩
  obtain ⟨locs, hlocs⟩ : ∃ y : List Loc, y = [] := ⟨_, rfl⟩
  have hS : va_S A s.heap H locs := by rw [hH, hlocs]; exact va_S.rf
  have hP : va_P (dC, dI) vwCl (wd_5013416a h0 v0 r0 v1 v2 v3 v4 r1 r2 r3 r4 r5 r6 r7 v5 v6 r8 r9 r10 r11 v7 r12 r13 v8 v9 h1 r14 v10 v11 r15 v12 v13 r16 v14 w15 r17 v16 v17 r18 r19 r20 r21 r22 r23 v18 r24 r25 r26 v19 h1 g0 f20) H := by rw [hH]; exact hP
  rw [← hH, ← hlocs]
  refine lv_iconst (v := 0) hx hb dX12_onesBy_0 (by decide) ?_
  refine lv_istore_n (lv' := [(3, .int 0), (0, .ref h0), (1, .int 3), (2, .int 9)]) hx hb dX12_onesBy_1 rfl hl (by decide) rfl (fun ls hl => ?_)
  refine lv_iconst (v := 0) hx hb dX12_onesBy_2 (by decide) ?_
  refine lv_istore (lv' := [(4, .int 0), (3, .int 0), (0, .ref h0), (1, .int 3), (2, .int 9)]) hx hb dX12_onesBy_3 hl (by decide) rfl (fun ls hl => ?_)
  have hL11 : ∀ (n9 : Nat), ∀ (x7 : Int32) (x8 : Int32) (H : Heap) (locs : List Loc) (ls : Array Slot), 0 ≤ x7.toInt → x7.toInt ≤ 8 → (8 - x7.toInt).toNat < n9 → va_P (dC, dI) vwCl (wd_5013416a h0 v0 r0 v1 v2 v3 v4 r1 r2 r3 r4 r5 r6 r7 v5 v6 r8 r9 r10 r11 v7 r12 r13 v8 v9 h1 r14 v10 v11 r15 v12 v13 r16 v14 w15 r17 v16 v17 r18 r19 r20 r21 r22 r23 v18 r24 r25 r26 v19 h1 g0 f20) H → va_D A (wd_5013416a h0 v0 r0 v1 v2 v3 v4 r1 r2 r3 r4 r5 r6 r7 v5 v6 r8 r9 r10 r11 v7 r12 r13 v8 v9 h1 r14 v10 v11 r15 v12 v13 r16 v14 w15 r17 v16 v17 r18 r19 r20 r21 r22 r23 v18 r24 r25 r26 v19 h1 g0 f20) → va_S A s.heap H locs → lv_has ls 5 [(4, .int x7), (3, .int x8), (0, .ref h0), (1, .int 3), (2, .int 9)] → W p l e ({ frames := 2, cells := 0, slots := 0, locals := 43 }) s m ([.ref h0, .int 3, .int 9] : List Value).toArray below meth c H locs 0 0 Q (F0 m 5 ls []) := by
    intro n9
    induction n9 with
    | zero => intro x7 x8 H locs ls qa_x7 qb_x7 hm9 hP hD hS hl; exact absurd hm9 (Nat.not_lt_zero _)
    | succ n9 ih_hL11 =>
      intro x7 x8 H locs ls qa_x7 qb_x7 hm9 hP hD hS hl
      refine lv_iload hx hb dX12_onesBy_5 (lv_at hl 0 rfl) ?_
      refine lv_bipush (v := 8) hx hb dX12_onesBy_7 (by decide) ?_
      refine lv_icmp_ge (tgt := 49) hx hb dX12_onesBy_9 (by decide) (fun c12 => ?_) (fun c12 => ?_)
      · skip
        have fc12 : 8 ≤ x7.toInt := Int32.le_iff_toInt_le.mp c12
        refine lv_iload_n hx hb dX12_onesBy_49 rfl (lv_at hl 1 rfl) ?_
        subst hQ
        have hP9 := hP.sub (ws' := (wd_5013416a h0 v0 r0 v1 v2 v3 v4 r1 r2 r3 r4 r5 r6 r7 v5 v6 r8 r9 r10 r11 v7 r12 r13 v8 v9 h1 r14 v10 v11 r15 v12 v13 r16 v14 w15 r17 v16 v17 r18 r19 r20 r21 r22 r23 v18 r24 r25 r26 v19 h1 g0 f20)) [0, 1] rfl
        have hD9 := hD.sub (ws' := (wd_5013416a h0 v0 r0 v1 v2 v3 v4 r1 r2 r3 r4 r5 r6 r7 v5 v6 r8 r9 r10 r11 v7 r12 r13 v8 v9 h1 r14 v10 v11 r15 v12 v13 r16 v14 w15 r17 v16 v17 r18 r19 r20 r21 r22 r23 v18 r24 r25 r26 v19 h1 g0 f20)) [0, 1] (by decide) rfl
        have hK9 := hK.sub (tys' := []) [] rfl
        exact W.iret (v := x8) hx hb hr (fun t ht hW => ⟨⟨x8, x8, rfl, rfl, ⟨by rw [ht]; exact hP9, va_K.moved hW.alike hK9, hD9⟩⟩, hS.F ht⟩) hS.2.2 dX12_onesBy_50
      · skip
        have fc12 : ¬ (8 ≤ x7.toInt) := fun h9 => c12 (Int32.le_iff_toInt_le.mpr h9)
        refine lv_iload_n hx hb dX12_onesBy_12 rfl (lv_at hl 1 rfl) ?_
        refine lv_aload_n hx hb dX12_onesBy_13 rfl (lv_at hl 2 rfl) ?_
        refine lv_iload hx hb dX12_onesBy_14 (lv_at hl 0 rfl) ?_
        have hPc := hP.sub (ws' := (wd_5013416a h0 v0 r0 v1 v2 v3 v4 r1 r2 r3 r4 r5 r6 r7 v5 v6 r8 r9 r10 r11 v7 r12 r13 v8 v9 h1 r14 v10 v11 r15 v12 v13 r16 v14 w15 r17 v16 v17 r18 r19 r20 r21 r22 r23 v18 r24 r25 r26 v19 h1 g0 f20)) [0, 1] rfl
        have hDc := hD.sub (ws' := (wd_5013416a h0 v0 r0 v1 v2 v3 v4 r1 r2 r3 r4 r5 r6 r7 v5 v6 r8 r9 r10 r11 v7 r12 r13 v8 v9 h1 r14 v10 v11 r15 v12 v13 r16 v14 w15 r17 v16 v17 r18 r19 r20 r21 r22 r23 v18 r24 r25 r26 v19 h1 g0 f20)) [0, 1] (by decide) rfl
        have hKc := hK.sub (tys' := [(g0, .int)]) [0] rfl
        have hFc := va_free (wc := (wd_5013416a h0 v0 r0 v1 v2 v3 v4 r1 r2 r3 r4 r5 r6 r7 v5 v6 r8 r9 r10 r11 v7 r12 r13 v8 v9 h1 r14 v10 v11 r15 v12 v13 r16 v14 w15 r17 v16 v17 r18 r19 r20 r21 r22 r23 v18 r24 r25 r26 v19 h1 g0 f20)) hD hS hA [0, 1] rfl
        refine va_calli (va_runV (As := [.int x7]) (rest := [.int x8]) ⟨hx, hb, hml, hown, hts⟩ (k_X12_isThere l dC dI h0 h1 v0 r0 v1 v2 v3 v4 r1 r2 r3 r4 r5 r6 r7 v5 v6 r8 r9 r10 r11 v7 r12 r13 v8 v9 r14 v10 v11 r15 v12 v13 r16 v14 w15 r17 v16 v17 r18 r19 r20 r21 r22 r23 v18 r24 r25 r26 v19 g0 f20 x7 ⟨i_v1a, i_v1b⟩ ⟨i_v5a, i_v5b⟩ ⟨i_v6a, i_v6b⟩ ⟨i_v7a, i_v7b⟩ ⟨i_v8a, i_v8b⟩ ⟨i_v9a, i_v9b⟩ ⟨i_v10a, i_v10b⟩ ⟨i_v14a, i_v14b⟩ ⟨i_v18a, i_v18b⟩ ⟨i_v19a, i_v19b⟩ ia_f20.1 H.size) (cwV 1 hts g_X12_onesBy_0 rfl rfl rfl (by decide +kernel) ⟨Nat.le_of_ble_eq_true rfl, Nat.le_of_ble_eq_true rfl⟩) (pv_PV12 hPc hKc hDc (q0 := 0) rfl) rfl rfl hl.1 rfl (lv_room (Nat.le_of_ble_eq_true rfl)) dX12_onesBy_16 ⟨Nat.le_of_ble_eq_true rfl, Nat.le_of_ble_eq_true rfl⟩) hS (fun q _ h => hFc q h) hFc (fun ra13 u t H1 locs ht hvm hwra13 hB hz1 hk1 hS => ?_)
        try rw [hwra13] at hB
        obtain ⟨pt0_ra13, pt1_ra13, pt2_ra13, pt3_ra13, pt4_ra13, pt5_ra13, hP1, hK1, hD1⟩ := hB
        rw [ht] at hP1
        obtain ⟨hP2, hD2⟩ := va_join (wr := []) (w1 := (wd_5013416a h0 v0 r0 v1 v2 v3 v4 r1 r2 r3 r4 r5 r6 r7 v5 v6 r8 r9 r10 r11 v7 r12 r13 v8 v9 h1 r14 v10 v11 r15 v12 v13 r16 v14 w15 r17 v16 v17 r18 r19 r20 r21 r22 r23 v18 r24 r25 r26 v19 h1 g0 f20)) hP hD [0, 1] [] rfl rfl (by decide) (by decide) hk1 hFc hP1 hD1
        clear hP hD hPc hDc hKc hFc hP1 hK1 hD1 hk1 hz1
        generalize H1 = H at hP2 hS ⊢
        have hP : va_P (dC, dI) vwCl (wd_5013416a h0 v0 r0 v1 v2 v3 v4 r1 r2 r3 r4 r5 r6 r7 v5 v6 r8 r9 r10 r11 v7 r12 r13 v8 v9 h1 r14 v10 v11 r15 v12 v13 r16 v14 w15 r17 v16 v17 r18 r19 r20 r21 r22 r23 v18 r24 r25 r26 v19 h1 g0 f20) H := hP2
        have hD : va_D A (wd_5013416a h0 v0 r0 v1 v2 v3 v4 r1 r2 r3 r4 r5 r6 r7 v5 v6 r8 r9 r10 r11 v7 r12 r13 v8 v9 h1 r14 v10 v11 r15 v12 v13 r16 v14 w15 r17 v16 v17 r18 r19 r20 r21 r22 r23 v18 r24 r25 r26 v19 h1 g0 f20) := hD2
        clear hP2 hD2
        have wra13 : ra13.toInt = 0 → ¬ f20 (pm_I x7 7) = 1 := fun h9 => pt5_ra13 h9 (by omega) (by omega)
        have hJ15 : ∀ (x14 : Int32) (H : Heap) (locs : List Loc) (ls : Array Slot), va_P (dC, dI) vwCl (wd_5013416a h0 v0 r0 v1 v2 v3 v4 r1 r2 r3 r4 r5 r6 r7 v5 v6 r8 r9 r10 r11 v7 r12 r13 v8 v9 h1 r14 v10 v11 r15 v12 v13 r16 v14 w15 r17 v16 v17 r18 r19 r20 r21 r22 r23 v18 r24 r25 r26 v19 h1 g0 f20) H → va_D A (wd_5013416a h0 v0 r0 v1 v2 v3 v4 r1 r2 r3 r4 r5 r6 r7 v5 v6 r8 r9 r10 r11 v7 r12 r13 v8 v9 h1 r14 v10 v11 r15 v12 v13 r16 v14 w15 r17 v16 v17 r18 r19 r20 r21 r22 r23 v18 r24 r25 r26 v19 h1 g0 f20) → va_S A s.heap H locs → lv_has ls 5 [(4, .int x7), (3, .int x8), (0, .ref h0), (1, .int 3), (2, .int 9)] → W p l e ({ frames := 2, cells := 0, slots := 0, locals := 43 }) s m ([.ref h0, .int 3, .int 9] : List Value).toArray below meth c H locs 0 0 Q (F0 m 41 ls [.int x14, .int x8]) := by
          intro x14 H locs ls hP hD hS hl
          refine lv_ior hx hb dX12_onesBy_41 ?_
          refine lv_topi (fun t16 et16 => ?_)
          refine lv_istore_n (lv' := [(3, .int t16), (4, .int x7), (0, .ref h0), (1, .int 3), (2, .int 9)]) hx hb dX12_onesBy_42 rfl hl (by decide) rfl (fun ls hl => ?_)
          obtain ⟨t17, et17⟩ : ∃ y : Int32, y = x7 + 1 := ⟨_, rfl⟩
          have gt17 : t17.toInt = x7.toInt + (1) := pv_add (a := x7.toInt) (b := (1)) et17 rfl (by decide) (by omega) (by omega)
          refine lv_iinc (v := t17) (lv' := [(4, .int t17), (3, .int t16), (0, .ref h0), (1, .int 3), (2, .int 9)]) hx hb dX12_onesBy_43 hl (k := 1) rfl (by rw [et17]; rfl) (by decide) rfl (fun ls hl => ?_)
          refine lv_goto (tgt := 5) hx hb dX12_onesBy_46 (by decide) ?_
          exact ih_hL11 t17 t16 H locs ls (by first | omega | decide) (by first | omega | decide) (by first | omega | (simp only [Int.toNat] at *; omega)) hP hD hS (lv_sub hl [0, 1, 2, 3, 4] rfl)
        refine lv_if_eq (tgt := 40) hx hb dX12_onesBy_19 (by decide) (fun c18 => ?_) (fun c18 => ?_)
        · skip
          have fc18 : ra13.toInt = 0 := congrArg Int32.toInt c18
          have q0wra13 := wra13 (by omega)
          refine lv_iconst (v := 0) hx hb dX12_onesBy_40 (by decide) ?_
          exact hJ15 0 H locs ls hP hD hS (lv_sub hl [0, 1, 2, 3, 4] rfl)
        · skip
          have fc18 : ¬ (ra13.toInt = 0) := fun h9 => c18 (Int32.toInt_inj.mp h9)
          have q1pt4_ra13 := pt4_ra13 (by omega)
          refine lv_aload_n hx hb dX12_onesBy_22 rfl (lv_at hl 2 rfl) ?_
          refine lv_iload hx hb dX12_onesBy_23 (lv_at hl 0 rfl) ?_
          refine lv_iload_n hx hb dX12_onesBy_25 rfl (lv_at hl 3 rfl) ?_
          have hPc := hP.sub (ws' := (wd_5013416a h0 v0 r0 v1 v2 v3 v4 r1 r2 r3 r4 r5 r6 r7 v5 v6 r8 r9 r10 r11 v7 r12 r13 v8 v9 h1 r14 v10 v11 r15 v12 v13 r16 v14 w15 r17 v16 v17 r18 r19 r20 r21 r22 r23 v18 r24 r25 r26 v19 h1 g0 f20)) [0, 1] rfl
          have hDc := hD.sub (ws' := (wd_5013416a h0 v0 r0 v1 v2 v3 v4 r1 r2 r3 r4 r5 r6 r7 v5 v6 r8 r9 r10 r11 v7 r12 r13 v8 v9 h1 r14 v10 v11 r15 v12 v13 r16 v14 w15 r17 v16 v17 r18 r19 r20 r21 r22 r23 v18 r24 r25 r26 v19 h1 g0 f20)) [0, 1] (by decide) rfl
          have hKc := hK.sub (tys' := [(g0, .int)]) [0] rfl
          have hFc := va_free (wc := (wd_5013416a h0 v0 r0 v1 v2 v3 v4 r1 r2 r3 r4 r5 r6 r7 v5 v6 r8 r9 r10 r11 v7 r12 r13 v8 v9 h1 r14 v10 v11 r15 v12 v13 r16 v14 w15 r17 v16 v17 r18 r19 r20 r21 r22 r23 v18 r24 r25 r26 v19 h1 g0 f20)) hD hS hA [0, 1] rfl
          refine va_calli (va_runV (As := [.int x7, .int 3]) (rest := [.int x8]) ⟨hx, hb, hml, hown, hts⟩ (k_X12_of_4 l dC dI h0 h1 v0 r0 v1 v2 v3 v4 r1 r2 r3 r4 r5 r6 r7 v5 v6 r8 r9 r10 r11 v7 r12 r13 v8 v9 r14 v10 v11 r15 v12 v13 r16 v14 w15 r17 v16 v17 r18 r19 r20 r21 r22 r23 v18 r24 r25 r26 v19 g0 f20 x7 ⟨i_v1a, i_v1b⟩ ⟨i_v5a, i_v5b⟩ ⟨i_v6a, i_v6b⟩ ⟨i_v7a, i_v7b⟩ ⟨i_v8a, i_v8b⟩ ⟨i_v9a, i_v9b⟩ ⟨i_v10a, i_v10b⟩ ⟨i_v14a, i_v14b⟩ ⟨i_v18a, i_v18b⟩ ⟨i_v19a, i_v19b⟩ ⟨qa_x7, by first | omega | decide⟩ ia_f20.1 H.size) (cwV 2 hts g_X12_onesBy_1 rfl rfl rfl (by decide +kernel) ⟨Nat.le_of_ble_eq_true rfl, Nat.le_of_ble_eq_true rfl⟩) (pv_PV12 hPc hKc hDc (q0 := 0) rfl) rfl rfl hl.1 rfl (lv_room (Nat.le_of_ble_eq_true rfl)) dX12_onesBy_26 ⟨Nat.le_of_ble_eq_true rfl, Nat.le_of_ble_eq_true rfl⟩) hS (fun q _ h => hFc q h) hFc (fun ra19 u t H1 locs ht hvm hwra19 hB hz1 hk1 hS => ?_)
          try rw [hwra19] at hB
          obtain ⟨pt0_ra19, hP1, hK1, hD1⟩ := hB
          rw [ht] at hP1
          obtain ⟨hP2, hD2⟩ := va_join (wr := []) (w1 := (wd_5013416a h0 v0 r0 v1 v2 v3 v4 r1 r2 r3 r4 r5 r6 r7 v5 v6 r8 r9 r10 r11 v7 r12 r13 v8 v9 h1 r14 v10 v11 r15 v12 v13 r16 v14 w15 r17 v16 v17 r18 r19 r20 r21 r22 r23 v18 r24 r25 r26 v19 h1 g0 f20)) hP hD [0, 1] [] rfl rfl (by decide) (by decide) hk1 hFc hP1 hD1
          clear hP hD hPc hDc hKc hFc hP1 hK1 hD1 hk1 hz1
          generalize H1 = H at hP2 hS ⊢
          have hP : va_P (dC, dI) vwCl (wd_5013416a h0 v0 r0 v1 v2 v3 v4 r1 r2 r3 r4 r5 r6 r7 v5 v6 r8 r9 r10 r11 v7 r12 r13 v8 v9 h1 r14 v10 v11 r15 v12 v13 r16 v14 w15 r17 v16 v17 r18 r19 r20 r21 r22 r23 v18 r24 r25 r26 v19 h1 g0 f20) H := hP2
          have hD : va_D A (wd_5013416a h0 v0 r0 v1 v2 v3 v4 r1 r2 r3 r4 r5 r6 r7 v5 v6 r8 r9 r10 r11 v7 r12 r13 v8 v9 h1 r14 v10 v11 r15 v12 v13 r16 v14 w15 r17 v16 v17 r18 r19 r20 r21 r22 r23 v18 r24 r25 r26 v19 h1 g0 f20) := hD2
          clear hP2 hD2
          refine lv_iload_n hx hb dX12_onesBy_29 rfl (lv_at hl 4 rfl) ?_
          refine lv_icmp_ne (tgt := 40) hx hb dX12_onesBy_30 (by decide) (fun c20 => ?_) (fun c20 => ?_)
          · skip
            have fc20 : ¬ (ra19.toInt = 9) := fun h9 => c20 (Int32.toInt_inj.mp h9)
            refine lv_iconst (v := 0) hx hb dX12_onesBy_40 (by decide) ?_
            exact hJ15 0 H locs ls hP hD hS (lv_sub hl [0, 1, 2, 3, 4] rfl)
          · skip
            have fc20 : ra19.toInt = 9 := congrArg Int32.toInt c20
            refine lv_iconst (v := 1) hx hb dX12_onesBy_33 (by decide) ?_
            refine lv_iload hx hb dX12_onesBy_34 (lv_at hl 0 rfl) ?_
            refine lv_ishl hx hb dX12_onesBy_36 ?_
            refine lv_topi (fun t21 et21 => ?_)
            refine lv_goto (tgt := 41) hx hb dX12_onesBy_37 (by decide) ?_
            exact hJ15 t21 H locs ls hP hD hS (lv_sub hl [0, 1, 2, 3, 4] rfl)
  exact hL11 _ 0 0 H locs ls (by decide) (by decide) (Nat.lt_succ_self _) hP hD hS (lv_sub hl [0, 1, 2, 3, 4] rfl)
def q_X12_onesBy_1 : List Cond := .code yX12_onesBy cX12_onesBy 5 (some .int) :: (([.code yX12_isThere cX12_isThere 2 (some .boolean), .code yX12_in cX12_in 3 (some .boolean), .initialized RX12, .static yX12_in, .methodLink RX12 217 yX12_in, .code yX12_of cX12_of 3 (some .int), .fieldLink RX12 52 "LeftArgumentsModel" "now" "[I", .instanceMethod yX12_of, .selects RX12 yX12_of yX12_of, .methodLink RX12 287 yX12_of, .instanceMethod yX12_isThere, .selects RX12 yX12_isThere yX12_isThere, .methodLink RX12 290 yX12_isThere] : List Cond) ++ wsX120)
set_option maxRecDepth 20000 in
theorem g_X12_onesBy_1_0 : GoodIn q_X12_onesBy_1 (wsV RX12 290 RX12 yX12_isThere q_X12_isThere) := goodIn_app (goodIn_r _ [13, 11, 12, 3] rfl (by decide +kernel)) (goodIn_ca (goodIn_r (.code yX12_isThere cX12_isThere 2 (some .boolean) :: [.code yX12_in cX12_in 3 (some .boolean), .initialized RX12, .static yX12_in, .methodLink RX12 217 yX12_in, .code yX12_of cX12_of 3 (some .int), .fieldLink RX12 52 "LeftArgumentsModel" "now" "[I", .instanceMethod yX12_of, .selects RX12 yX12_of yX12_of, .methodLink RX12 287 yX12_of]) [1, 2, 3, 4, 5, 6, 7, 8, 9, 10] rfl (by decide +kernel)) (goodIn_sub (fun _ h => List.mem_cons_of_mem _ (List.mem_append_right _ h)) gwX12))
set_option maxRecDepth 20000 in
theorem g_X12_onesBy_1_1 : GoodIn q_X12_onesBy_1 (wsV RX12 287 RX12 yX12_of q_X12_of_8) := goodIn_app (goodIn_r _ [10, 8, 9, 3] rfl (by decide +kernel)) (goodIn_ca (goodIn_r (.code yX12_of cX12_of 3 (some .int) :: [.fieldLink RX12 52 "LeftArgumentsModel" "now" "[I"]) [6, 7] rfl (by decide +kernel)) (goodIn_sub (fun _ h => List.mem_cons_of_mem _ (List.mem_append_right _ h)) gwX12))
set_option maxHeartbeats 4000000 in
set_option maxRecDepth 100000 in
theorem k_X12_onesBy_1 (l : Launch) (dC : Nat → ClassId) (dI : Nat → Nat → Nat) (h0 : Nat) (h1 : Nat) (v0 : Int32) (r0 : Nat) (v1 : Int32) (v2 : Int32) (v3 : Int32) (v4 : Int32) (r1 : Nat) (r2 : Nat) (r3 : Nat) (r4 : Nat) (r5 : Nat) (r6 : Nat) (r7 : Nat) (v5 : Int32) (v6 : Int32) (r8 : Nat) (r9 : Nat) (r10 : Nat) (r11 : Nat) (v7 : Int32) (r12 : Nat) (r13 : Nat) (v8 : Int32) (v9 : Int32) (r14 : Nat) (v10 : Int32) (v11 : Int32) (r15 : Nat) (v12 : Int32) (v13 : Int32) (r16 : Nat) (v14 : Int32) (w15 : Int64) (r17 : Nat) (v16 : Int32) (v17 : Int32) (r18 : Nat) (r19 : Nat) (r20 : Nat) (r21 : Nat) (r22 : Nat) (r23 : Nat) (v18 : Int32) (r24 : Nat) (r25 : Nat) (r26 : Nat) (v19 : Int32) (g0 : ClassId) (f20 : Nat → Int32) (i_v1 : 0 ≤ v1.toInt ∧ v1.toInt ≤ 240) (i_v5 : 0 ≤ v5.toInt ∧ v5.toInt ≤ 4) (i_v6 : 0 ≤ v6.toInt ∧ v6.toInt ≤ 4) (i_v7 : 0 ≤ v7.toInt ∧ v7.toInt ≤ 8) (i_v8 : 0 ≤ v8.toInt ∧ v8.toInt ≤ 8) (i_v9 : 0 ≤ v9.toInt ∧ v9.toInt ≤ 1) (i_v10 : -1 ≤ v10.toInt ∧ v10.toInt ≤ 3) (i_v14 : 0 ≤ v14.toInt ∧ v14.toInt ≤ 40) (i_v18 : 0 ≤ v18.toInt ∧ v18.toInt ≤ 10) (i_v19 : 0 ≤ v19.toInt ∧ v19.toInt ≤ 1) (ia_f20 : (pm_NW f20)) (sz : Nat) : Met l yX12_onesBy q_X12_onesBy_1 ({ frames := 2, cells := 0, slots := 0, locals := 43 }) (va_Pc [.ref h0, .int 6, .int 1] (fun U => U.heap.size = sz ∧ va_P (dC, dI) vwCl (wd_5013416a h0 v0 r0 v1 v2 v3 v4 r1 r2 r3 r4 r5 r6 r7 v5 v6 r8 r9 r10 r11 v7 r12 r13 v8 v9 h1 r14 v10 v11 r15 v12 v13 r16 v14 w15 r17 v16 v17 r18 r19 r20 r21 r22 r23 v18 r24 r25 r26 v19 h1 g0 f20) U.heap ∧ va_K (dC, dI) vwCl [(g0, .int)] U ∧ va_D (fun _ => True) (wd_5013416a h0 v0 r0 v1 v2 v3 v4 r1 r2 r3 r4 r5 r6 r7 v5 v6 r8 r9 r10 r11 v7 r12 r13 v8 v9 h1 r14 v10 v11 r15 v12 v13 r16 v14 w15 r17 v16 v17 r18 r19 r20 r21 r22 r23 v18 r24 r25 r26 v19 h1 g0 f20))) (va_Qi (fun (r : Int32) (r9 : Int32) => r9 = r) (fun (r : Int32) (t : State) => (va_P (dC, dI) vwCl (wd_5013416a h0 v0 r0 v1 v2 v3 v4 r1 r2 r3 r4 r5 r6 r7 v5 v6 r8 r9 r10 r11 v7 r12 r13 v8 v9 h1 r14 v10 v11 r15 v12 v13 r16 v14 w15 r17 v16 v17 r18 r19 r20 r21 r22 r23 v18 r24 r25 r26 v19 h1 g0 f20) t.heap ∧ va_K (dC, dI) vwCl [] t ∧ va_D (va_A (wd_5013416a h0 v0 r0 v1 v2 v3 v4 r1 r2 r3 r4 r5 r6 r7 v5 v6 r8 r9 r10 r11 v7 r12 r13 v8 v9 h1 r14 v10 v11 r15 v12 v13 r16 v14 w15 r17 v16 v17 r18 r19 r20 r21 r22 r23 v18 r24 r25 r26 v19 h1 g0 f20) sz) (wd_5013416a h0 v0 r0 v1 v2 v3 v4 r1 r2 r3 r4 r5 r6 r7 v5 v6 r8 r9 r10 r11 v7 r12 r13 v8 v9 h1 r14 v10 v11 r15 v12 v13 r16 v14 w15 r17 v16 v17 r18 r19 r20 r21 r22 r23 v18 r24 r25 r26 v19 h1 g0 f20))) (va_A (wd_5013416a h0 v0 r0 v1 v2 v3 v4 r1 r2 r3 r4 r5 r6 r7 v5 v6 r8 r9 r10 r11 v7 r12 r13 v8 v9 h1 r14 v10 v11 r15 v12 v13 r16 v14 w15 r17 v16 v17 r18 r19 r20 r21 r22 r23 v18 r24 r25 r26 v19 h1 g0 f20) sz)) 0 0 (va_A (wd_5013416a h0 v0 r0 v1 v2 v3 v4 r1 r2 r3 r4 r5 r6 r7 v5 v6 r8 r9 r10 r11 v7 r12 r13 v8 v9 h1 r14 v10 v11 r15 v12 v13 r16 v14 w15 r17 v16 v17 r18 r19 r20 r21 r22 r23 v18 r24 r25 r26 v19 h1 g0 f20) sz) := by
  refine Met.ofW (cc := cX12_onesBy) (maxL := 5) (ret := (some .int)) (by decide) rfl ?_
  intro p e s m args below meth c s₁ B hml hv
  obtain ⟨i_v1a, i_v1b⟩ := i_v1
  obtain ⟨i_v5a, i_v5b⟩ := i_v5
  obtain ⟨i_v6a, i_v6b⟩ := i_v6
  obtain ⟨i_v7a, i_v7b⟩ := i_v7
  obtain ⟨i_v8a, i_v8b⟩ := i_v8
  obtain ⟨i_v9a, i_v9b⟩ := i_v9
  obtain ⟨i_v10a, i_v10b⟩ := i_v10
  obtain ⟨i_v14a, i_v14b⟩ := i_v14
  obtain ⟨i_v18a, i_v18b⟩ := i_v18
  obtain ⟨i_v19a, i_v19b⟩ := i_v19
  obtain ⟨rfl, hsz, hP, hK, hD0⟩ := hv
  have hx := B.exec
  have hb := B.bytes
  have hr := B.returns
  have hts := atoms_spec (ws := q_X12_onesBy_1) B.pre
  have hown : s.vm.findClass RX12 = some m.cls := findClass_of_methodNamed B.named
  have hlocks := B.notSynchronized
  subst hsz
  have hD := hD0.self (sz := s.heap.size)
  generalize hAe : va_A (wd_5013416a h0 v0 r0 v1 v2 v3 v4 r1 r2 r3 r4 r5 r6 r7 v5 v6 r8 r9 r10 r11 v7 r12 r13 v8 v9 h1 r14 v10 v11 r15 v12 v13 r16 v14 w15 r17 v16 v17 r18 r19 r20 r21 r22 r23 v18 r24 r25 r26 v19 h1 g0 f20) s.heap.size = A at hD ⊢
  have hA : ∀ q : Nat, s.heap.size ≤ q → A q := fun q h => by rw [← hAe]; exact Or.inr h
  have hS : va_S A s.heap s.heap [] := va_S.rf
  generalize hQ : (MQ below _ _ s 0 0 A) = Q
  have hl := lv_entry ([.ref h0, .int 6, .int 1]) (n := 5) (Nat.le_of_ble_eq_true rfl)
  rw [lg_entry_eq]
  generalize (lg_sl ([.ref h0, .int 6, .int 1]) ++ List.replicate (5 - (lg_sl ([.ref h0, .int 6, .int 1])).length) Slot.unset).toArray = ls at hl ⊢
  have hl : lv_has ls 5 [(0, .ref h0), (1, .int 6), (2, .int 1)] := hl
  obtain ⟨H, hH⟩ : ∃ H : Heap, H = s.heap := ⟨_, rfl⟩
  obtain ⟨locs, hlocs⟩ : ∃ y : List Loc, y = [] := ⟨_, rfl⟩
  have hS : va_S A s.heap H locs := by rw [hH, hlocs]; exact va_S.rf
  have hP : va_P (dC, dI) vwCl (wd_5013416a h0 v0 r0 v1 v2 v3 v4 r1 r2 r3 r4 r5 r6 r7 v5 v6 r8 r9 r10 r11 v7 r12 r13 v8 v9 h1 r14 v10 v11 r15 v12 v13 r16 v14 w15 r17 v16 v17 r18 r19 r20 r21 r22 r23 v18 r24 r25 r26 v19 h1 g0 f20) H := by rw [hH]; exact hP
  rw [← hH, ← hlocs]
  refine lv_iconst (v := 0) hx hb dX12_onesBy_0 (by decide) ?_
  refine lv_istore_n (lv' := [(3, .int 0), (0, .ref h0), (1, .int 6), (2, .int 1)]) hx hb dX12_onesBy_1 rfl hl (by decide) rfl (fun ls hl => ?_)
  refine lv_iconst (v := 0) hx hb dX12_onesBy_2 (by decide) ?_
  refine lv_istore (lv' := [(4, .int 0), (3, .int 0), (0, .ref h0), (1, .int 6), (2, .int 1)]) hx hb dX12_onesBy_3 hl (by decide) rfl (fun ls hl => ?_)
  have hL11 : ∀ (n9 : Nat), ∀ (x7 : Int32) (x8 : Int32) (H : Heap) (locs : List Loc) (ls : Array Slot), 0 ≤ x7.toInt → x7.toInt ≤ 8 → (8 - x7.toInt).toNat < n9 → va_P (dC, dI) vwCl (wd_5013416a h0 v0 r0 v1 v2 v3 v4 r1 r2 r3 r4 r5 r6 r7 v5 v6 r8 r9 r10 r11 v7 r12 r13 v8 v9 h1 r14 v10 v11 r15 v12 v13 r16 v14 w15 r17 v16 v17 r18 r19 r20 r21 r22 r23 v18 r24 r25 r26 v19 h1 g0 f20) H → va_D A (wd_5013416a h0 v0 r0 v1 v2 v3 v4 r1 r2 r3 r4 r5 r6 r7 v5 v6 r8 r9 r10 r11 v7 r12 r13 v8 v9 h1 r14 v10 v11 r15 v12 v13 r16 v14 w15 r17 v16 v17 r18 r19 r20 r21 r22 r23 v18 r24 r25 r26 v19 h1 g0 f20) → va_S A s.heap H locs → lv_has ls 5 [(4, .int x7), (3, .int x8), (0, .ref h0), (1, .int 6), (2, .int 1)] → W p l e ({ frames := 2, cells := 0, slots := 0, locals := 43 }) s m ([.ref h0, .int 6, .int 1] : List Value).toArray below meth c H locs 0 0 Q (F0 m 5 ls []) := by
    intro n9
    induction n9 with
    | zero => intro x7 x8 H locs ls qa_x7 qb_x7 hm9 hP hD hS hl; exact absurd hm9 (Nat.not_lt_zero _)
    | succ n9 ih_hL11 =>
      intro x7 x8 H locs ls qa_x7 qb_x7 hm9 hP hD hS hl
      refine lv_iload hx hb dX12_onesBy_5 (lv_at hl 0 rfl) ?_
      refine lv_bipush (v := 8) hx hb dX12_onesBy_7 (by decide) ?_
      refine lv_icmp_ge (tgt := 49) hx hb dX12_onesBy_9 (by decide) (fun c12 => ?_) (fun c12 => ?_)
      · skip
        have fc12 : 8 ≤ x7.toInt := Int32.le_iff_toInt_le.mp c12
        refine lv_iload_n hx hb dX12_onesBy_49 rfl (lv_at hl 1 rfl) ?_
        subst hQ
        have hP9 := hP.sub (ws' := (wd_5013416a h0 v0 r0 v1 v2 v3 v4 r1 r2 r3 r4 r5 r6 r7 v5 v6 r8 r9 r10 r11 v7 r12 r13 v8 v9 h1 r14 v10 v11 r15 v12 v13 r16 v14 w15 r17 v16 v17 r18 r19 r20 r21 r22 r23 v18 r24 r25 r26 v19 h1 g0 f20)) [0, 1] rfl
        have hD9 := hD.sub (ws' := (wd_5013416a h0 v0 r0 v1 v2 v3 v4 r1 r2 r3 r4 r5 r6 r7 v5 v6 r8 r9 r10 r11 v7 r12 r13 v8 v9 h1 r14 v10 v11 r15 v12 v13 r16 v14 w15 r17 v16 v17 r18 r19 r20 r21 r22 r23 v18 r24 r25 r26 v19 h1 g0 f20)) [0, 1] (by decide) rfl
        have hK9 := hK.sub (tys' := []) [] rfl
        exact W.iret (v := x8) hx hb hr (fun t ht hW => ⟨⟨x8, x8, rfl, rfl, ⟨by rw [ht]; exact hP9, va_K.moved hW.alike hK9, hD9⟩⟩, hS.F ht⟩) hS.2.2 dX12_onesBy_50
      · skip
        have fc12 : ¬ (8 ≤ x7.toInt) := fun h9 => c12 (Int32.le_iff_toInt_le.mpr h9)
        refine lv_iload_n hx hb dX12_onesBy_12 rfl (lv_at hl 1 rfl) ?_
        refine lv_aload_n hx hb dX12_onesBy_13 rfl (lv_at hl 2 rfl) ?_
        refine lv_iload hx hb dX12_onesBy_14 (lv_at hl 0 rfl) ?_
        have hPc := hP.sub (ws' := (wd_5013416a h0 v0 r0 v1 v2 v3 v4 r1 r2 r3 r4 r5 r6 r7 v5 v6 r8 r9 r10 r11 v7 r12 r13 v8 v9 h1 r14 v10 v11 r15 v12 v13 r16 v14 w15 r17 v16 v17 r18 r19 r20 r21 r22 r23 v18 r24 r25 r26 v19 h1 g0 f20)) [0, 1] rfl
        have hDc := hD.sub (ws' := (wd_5013416a h0 v0 r0 v1 v2 v3 v4 r1 r2 r3 r4 r5 r6 r7 v5 v6 r8 r9 r10 r11 v7 r12 r13 v8 v9 h1 r14 v10 v11 r15 v12 v13 r16 v14 w15 r17 v16 v17 r18 r19 r20 r21 r22 r23 v18 r24 r25 r26 v19 h1 g0 f20)) [0, 1] (by decide) rfl
        have hKc := hK.sub (tys' := [(g0, .int)]) [0] rfl
        have hFc := va_free (wc := (wd_5013416a h0 v0 r0 v1 v2 v3 v4 r1 r2 r3 r4 r5 r6 r7 v5 v6 r8 r9 r10 r11 v7 r12 r13 v8 v9 h1 r14 v10 v11 r15 v12 v13 r16 v14 w15 r17 v16 v17 r18 r19 r20 r21 r22 r23 v18 r24 r25 r26 v19 h1 g0 f20)) hD hS hA [0, 1] rfl
        refine va_calli (va_runV (As := [.int x7]) (rest := [.int x8]) ⟨hx, hb, hml, hown, hts⟩ (k_X12_isThere l dC dI h0 h1 v0 r0 v1 v2 v3 v4 r1 r2 r3 r4 r5 r6 r7 v5 v6 r8 r9 r10 r11 v7 r12 r13 v8 v9 r14 v10 v11 r15 v12 v13 r16 v14 w15 r17 v16 v17 r18 r19 r20 r21 r22 r23 v18 r24 r25 r26 v19 g0 f20 x7 ⟨i_v1a, i_v1b⟩ ⟨i_v5a, i_v5b⟩ ⟨i_v6a, i_v6b⟩ ⟨i_v7a, i_v7b⟩ ⟨i_v8a, i_v8b⟩ ⟨i_v9a, i_v9b⟩ ⟨i_v10a, i_v10b⟩ ⟨i_v14a, i_v14b⟩ ⟨i_v18a, i_v18b⟩ ⟨i_v19a, i_v19b⟩ ia_f20.1 H.size) (cwV 1 hts g_X12_onesBy_1_0 rfl rfl rfl (by decide +kernel) ⟨Nat.le_of_ble_eq_true rfl, Nat.le_of_ble_eq_true rfl⟩) (pv_PV12 hPc hKc hDc (q0 := 0) rfl) rfl rfl hl.1 rfl (lv_room (Nat.le_of_ble_eq_true rfl)) dX12_onesBy_16 ⟨Nat.le_of_ble_eq_true rfl, Nat.le_of_ble_eq_true rfl⟩) hS (fun q _ h => hFc q h) hFc (fun ra13 u t H1 locs ht hvm hwra13 hB hz1 hk1 hS => ?_)
        try rw [hwra13] at hB
        obtain ⟨pt0_ra13, pt1_ra13, pt2_ra13, pt3_ra13, pt4_ra13, pt5_ra13, hP1, hK1, hD1⟩ := hB
        rw [ht] at hP1
        obtain ⟨hP2, hD2⟩ := va_join (wr := []) (w1 := (wd_5013416a h0 v0 r0 v1 v2 v3 v4 r1 r2 r3 r4 r5 r6 r7 v5 v6 r8 r9 r10 r11 v7 r12 r13 v8 v9 h1 r14 v10 v11 r15 v12 v13 r16 v14 w15 r17 v16 v17 r18 r19 r20 r21 r22 r23 v18 r24 r25 r26 v19 h1 g0 f20)) hP hD [0, 1] [] rfl rfl (by decide) (by decide) hk1 hFc hP1 hD1
        clear hP hD hPc hDc hKc hFc hP1 hK1 hD1 hk1 hz1
        generalize H1 = H at hP2 hS ⊢
        have hP : va_P (dC, dI) vwCl (wd_5013416a h0 v0 r0 v1 v2 v3 v4 r1 r2 r3 r4 r5 r6 r7 v5 v6 r8 r9 r10 r11 v7 r12 r13 v8 v9 h1 r14 v10 v11 r15 v12 v13 r16 v14 w15 r17 v16 v17 r18 r19 r20 r21 r22 r23 v18 r24 r25 r26 v19 h1 g0 f20) H := hP2
        have hD : va_D A (wd_5013416a h0 v0 r0 v1 v2 v3 v4 r1 r2 r3 r4 r5 r6 r7 v5 v6 r8 r9 r10 r11 v7 r12 r13 v8 v9 h1 r14 v10 v11 r15 v12 v13 r16 v14 w15 r17 v16 v17 r18 r19 r20 r21 r22 r23 v18 r24 r25 r26 v19 h1 g0 f20) := hD2
        clear hP2 hD2
        have wra13 : ra13.toInt = 0 → ¬ f20 (pm_I x7 7) = 1 := fun h9 => pt5_ra13 h9 (by omega) (by omega)
        have hJ15 : ∀ (x14 : Int32) (H : Heap) (locs : List Loc) (ls : Array Slot), va_P (dC, dI) vwCl (wd_5013416a h0 v0 r0 v1 v2 v3 v4 r1 r2 r3 r4 r5 r6 r7 v5 v6 r8 r9 r10 r11 v7 r12 r13 v8 v9 h1 r14 v10 v11 r15 v12 v13 r16 v14 w15 r17 v16 v17 r18 r19 r20 r21 r22 r23 v18 r24 r25 r26 v19 h1 g0 f20) H → va_D A (wd_5013416a h0 v0 r0 v1 v2 v3 v4 r1 r2 r3 r4 r5 r6 r7 v5 v6 r8 r9 r10 r11 v7 r12 r13 v8 v9 h1 r14 v10 v11 r15 v12 v13 r16 v14 w15 r17 v16 v17 r18 r19 r20 r21 r22 r23 v18 r24 r25 r26 v19 h1 g0 f20) → va_S A s.heap H locs → lv_has ls 5 [(4, .int x7), (3, .int x8), (0, .ref h0), (1, .int 6), (2, .int 1)] → W p l e ({ frames := 2, cells := 0, slots := 0, locals := 43 }) s m ([.ref h0, .int 6, .int 1] : List Value).toArray below meth c H locs 0 0 Q (F0 m 41 ls [.int x14, .int x8]) := by
          intro x14 H locs ls hP hD hS hl
          refine lv_ior hx hb dX12_onesBy_41 ?_
          refine lv_topi (fun t16 et16 => ?_)
          refine lv_istore_n (lv' := [(3, .int t16), (4, .int x7), (0, .ref h0), (1, .int 6), (2, .int 1)]) hx hb dX12_onesBy_42 rfl hl (by decide) rfl (fun ls hl => ?_)
          obtain ⟨t17, et17⟩ : ∃ y : Int32, y = x7 + 1 := ⟨_, rfl⟩
          have gt17 : t17.toInt = x7.toInt + (1) := pv_add (a := x7.toInt) (b := (1)) et17 rfl (by decide) (by omega) (by omega)
          refine lv_iinc (v := t17) (lv' := [(4, .int t17), (3, .int t16), (0, .ref h0), (1, .int 6), (2, .int 1)]) hx hb dX12_onesBy_43 hl (k := 1) rfl (by rw [et17]; rfl) (by decide) rfl (fun ls hl => ?_)
          refine lv_goto (tgt := 5) hx hb dX12_onesBy_46 (by decide) ?_
          exact ih_hL11 t17 t16 H locs ls (by first | omega | decide) (by first | omega | decide) (by first | omega | (simp only [Int.toNat] at *; omega)) hP hD hS (lv_sub hl [0, 1, 2, 3, 4] rfl)
        refine lv_if_eq (tgt := 40) hx hb dX12_onesBy_19 (by decide) (fun c18 => ?_) (fun c18 => ?_)
        · skip
          have fc18 : ra13.toInt = 0 := congrArg Int32.toInt c18
          have q0wra13 := wra13 (by omega)
          refine lv_iconst (v := 0) hx hb dX12_onesBy_40 (by decide) ?_
          exact hJ15 0 H locs ls hP hD hS (lv_sub hl [0, 1, 2, 3, 4] rfl)
        · skip
          have fc18 : ¬ (ra13.toInt = 0) := fun h9 => c18 (Int32.toInt_inj.mp h9)
          have q1pt4_ra13 := pt4_ra13 (by omega)
          refine lv_aload_n hx hb dX12_onesBy_22 rfl (lv_at hl 2 rfl) ?_
          refine lv_iload hx hb dX12_onesBy_23 (lv_at hl 0 rfl) ?_
          refine lv_iload_n hx hb dX12_onesBy_25 rfl (lv_at hl 3 rfl) ?_
          have hPc := hP.sub (ws' := (wd_5013416a h0 v0 r0 v1 v2 v3 v4 r1 r2 r3 r4 r5 r6 r7 v5 v6 r8 r9 r10 r11 v7 r12 r13 v8 v9 h1 r14 v10 v11 r15 v12 v13 r16 v14 w15 r17 v16 v17 r18 r19 r20 r21 r22 r23 v18 r24 r25 r26 v19 h1 g0 f20)) [0, 1] rfl
          have hDc := hD.sub (ws' := (wd_5013416a h0 v0 r0 v1 v2 v3 v4 r1 r2 r3 r4 r5 r6 r7 v5 v6 r8 r9 r10 r11 v7 r12 r13 v8 v9 h1 r14 v10 v11 r15 v12 v13 r16 v14 w15 r17 v16 v17 r18 r19 r20 r21 r22 r23 v18 r24 r25 r26 v19 h1 g0 f20)) [0, 1] (by decide) rfl
          have hKc := hK.sub (tys' := [(g0, .int)]) [0] rfl
          have hFc := va_free (wc := (wd_5013416a h0 v0 r0 v1 v2 v3 v4 r1 r2 r3 r4 r5 r6 r7 v5 v6 r8 r9 r10 r11 v7 r12 r13 v8 v9 h1 r14 v10 v11 r15 v12 v13 r16 v14 w15 r17 v16 v17 r18 r19 r20 r21 r22 r23 v18 r24 r25 r26 v19 h1 g0 f20)) hD hS hA [0, 1] rfl
          refine va_calli (va_runV (As := [.int x7, .int 6]) (rest := [.int x8]) ⟨hx, hb, hml, hown, hts⟩ (k_X12_of_8 l dC dI h0 h1 v0 r0 v1 v2 v3 v4 r1 r2 r3 r4 r5 r6 r7 v5 v6 r8 r9 r10 r11 v7 r12 r13 v8 v9 r14 v10 v11 r15 v12 v13 r16 v14 w15 r17 v16 v17 r18 r19 r20 r21 r22 r23 v18 r24 r25 r26 v19 g0 f20 x7 ⟨i_v1a, i_v1b⟩ ⟨i_v5a, i_v5b⟩ ⟨i_v6a, i_v6b⟩ ⟨i_v7a, i_v7b⟩ ⟨i_v8a, i_v8b⟩ ⟨i_v9a, i_v9b⟩ ⟨i_v10a, i_v10b⟩ ⟨i_v14a, i_v14b⟩ ⟨i_v18a, i_v18b⟩ ⟨i_v19a, i_v19b⟩ ⟨qa_x7, by first | omega | decide⟩ ia_f20.1 H.size) (cwV 2 hts g_X12_onesBy_1_1 rfl rfl rfl (by decide +kernel) ⟨Nat.le_of_ble_eq_true rfl, Nat.le_of_ble_eq_true rfl⟩) (pv_PV12 hPc hKc hDc (q0 := 0) rfl) rfl rfl hl.1 rfl (lv_room (Nat.le_of_ble_eq_true rfl)) dX12_onesBy_26 ⟨Nat.le_of_ble_eq_true rfl, Nat.le_of_ble_eq_true rfl⟩) hS (fun q _ h => hFc q h) hFc (fun ra19 u t H1 locs ht hvm hwra19 hB hz1 hk1 hS => ?_)
          try rw [hwra19] at hB
          obtain ⟨pt0_ra19, hP1, hK1, hD1⟩ := hB
          rw [ht] at hP1
          obtain ⟨hP2, hD2⟩ := va_join (wr := []) (w1 := (wd_5013416a h0 v0 r0 v1 v2 v3 v4 r1 r2 r3 r4 r5 r6 r7 v5 v6 r8 r9 r10 r11 v7 r12 r13 v8 v9 h1 r14 v10 v11 r15 v12 v13 r16 v14 w15 r17 v16 v17 r18 r19 r20 r21 r22 r23 v18 r24 r25 r26 v19 h1 g0 f20)) hP hD [0, 1] [] rfl rfl (by decide) (by decide) hk1 hFc hP1 hD1
          clear hP hD hPc hDc hKc hFc hP1 hK1 hD1 hk1 hz1
          generalize H1 = H at hP2 hS ⊢
          have hP : va_P (dC, dI) vwCl (wd_5013416a h0 v0 r0 v1 v2 v3 v4 r1 r2 r3 r4 r5 r6 r7 v5 v6 r8 r9 r10 r11 v7 r12 r13 v8 v9 h1 r14 v10 v11 r15 v12 v13 r16 v14 w15 r17 v16 v17 r18 r19 r20 r21 r22 r23 v18 r24 r25 r26 v19 h1 g0 f20) H := hP2
          have hD : va_D A (wd_5013416a h0 v0 r0 v1 v2 v3 v4 r1 r2 r3 r4 r5 r6 r7 v5 v6 r8 r9 r10 r11 v7 r12 r13 v8 v9 h1 r14 v10 v11 r15 v12 v13 r16 v14 w15 r17 v16 v17 r18 r19 r20 r21 r22 r23 v18 r24 r25 r26 v19 h1 g0 f20) := hD2
          clear hP2 hD2
          refine lv_iload_n hx hb dX12_onesBy_29 rfl (lv_at hl 4 rfl) ?_
          refine lv_icmp_ne (tgt := 40) hx hb dX12_onesBy_30 (by decide) (fun c20 => ?_) (fun c20 => ?_)
          · skip
            have fc20 : ¬ (ra19.toInt = 1) := fun h9 => c20 (Int32.toInt_inj.mp h9)
            refine lv_iconst (v := 0) hx hb dX12_onesBy_40 (by decide) ?_
            exact hJ15 0 H locs ls hP hD hS (lv_sub hl [0, 1, 2, 3, 4] rfl)
          · skip
            have fc20 : ra19.toInt = 1 := congrArg Int32.toInt c20
            refine lv_iconst (v := 1) hx hb dX12_onesBy_33 (by decide) ?_
            refine lv_iload hx hb dX12_onesBy_34 (lv_at hl 0 rfl) ?_
            refine lv_ishl hx hb dX12_onesBy_36 ?_
            refine lv_topi (fun t21 et21 => ?_)
            refine lv_goto (tgt := 41) hx hb dX12_onesBy_37 (by decide) ?_
            exact hJ15 t21 H locs ls hP hD hS (lv_sub hl [0, 1, 2, 3, 4] rfl)
  exact hL11 _ 0 0 H locs ls (by decide) (by decide) (Nat.lt_succ_self _) hP hD hS (lv_sub hl [0, 1, 2, 3, 4] rfl)
def q_X12_most : List Cond := .code yX12_most cX12_most 2 (some .int) :: (([.fieldLink RX12 262 "LeftArgumentsModel" "isOffice" "Z", .code yX12_in cX12_in 3 (some .boolean), .initialized RX12, .static yX12_in, .methodLink RX12 217 yX12_in, .code yX12_fullest cX12_fullest 3 (some .int), .fieldLink RX12 46 "LeftArgumentsModel" "rule" "[I", .code yX12_loadOf cX12_loadOf 4 (some .int), .code yX12_isThere cX12_isThere 2 (some .boolean), .code yX12_of cX12_of 3 (some .int), .fieldLink RX12 52 "LeftArgumentsModel" "now" "[I", .instanceMethod yX12_of, .selects RX12 yX12_of yX12_of, .methodLink RX12 287 yX12_of, .instanceMethod yX12_isThere, .selects RX12 yX12_isThere yX12_isThere, .methodLink RX12 290 yX12_isThere, .instanceMethod yX12_loadOf, .selects RX12 yX12_loadOf yX12_loadOf, .methodLink RX12 312 yX12_loadOf, .instanceMethod yX12_fullest, .selects RX12 yX12_fullest yX12_fullest, .methodLink RX12 456 yX12_fullest, .code yX12_bagOnes cX12_bagOnes 3 (some .int), .instanceMethod yX12_bagOnes, .selects RX12 yX12_bagOnes yX12_bagOnes, .methodLink RX12 404 yX12_bagOnes, .code yX12_onesBy cX12_onesBy 5 (some .int), .instanceMethod yX12_onesBy, .selects RX12 yX12_onesBy yX12_onesBy, .methodLink RX12 459 yX12_onesBy, .code yX12_sizeAll cX12_sizeAll 3 (some .int), .instanceMethod yX12_sizeAll, .selects RX12 yX12_sizeAll yX12_sizeAll, .methodLink RX12 330 yX12_sizeAll, .code yX12_roomLeft cX12_roomLeft 3 (some .int), .methodLink RX12 301 Lib.Math.max.name, .static Lib.Math.max.name, .initialized "java/lang/Math", .code Lib.Math.max.name Lib.Math.max.code 2 (some .int), .instanceMethod yX12_roomLeft, .selects RX12 yX12_roomLeft yX12_roomLeft, .methodLink RX12 462 yX12_roomLeft, .code yX12_due cX12_due 3 (some .int), .instanceMethod yX12_due, .selects RX12 yX12_due yX12_due, .methodLink RX12 465 yX12_due, .code yX12_ripeOnes cX12_ripeOnes 3 (some .int), .instanceMethod yX12_ripeOnes, .selects RX12 yX12_ripeOnes yX12_ripeOnes, .methodLink RX12 434 yX12_ripeOnes, .code yX12_quarrels cX12_quarrels 4 (some .int), .code yX12_setsOff cX12_setsOff 3 (some .boolean), .methodLink RX12 411 Lib.Math.abs.name, .static Lib.Math.abs.name, .code Lib.Math.abs.name Lib.Math.abs.code 1 (some .int), .code yX12_stubbornOf cX12_stubbornOf 2 (some .int), .instanceMethod yX12_stubbornOf, .selects RX12 yX12_stubbornOf yX12_stubbornOf, .methodLink RX12 414 yX12_stubbornOf, .instanceMethod yX12_setsOff, .selects RX12 yX12_setsOff yX12_setsOff, .methodLink RX12 401 yX12_setsOff, .instanceMethod yX12_quarrels, .selects RX12 yX12_quarrels yX12_quarrels, .methodLink RX12 468 yX12_quarrels, .code yX12_topBag cX12_topBag 4 (some .int), .code yX12_valueOf cX12_valueOf 3 (some .int), .code yX12_growthOf cX12_growthOf 4 (some .int), .code yX12_withOf cX12_withOf 4 (some .int), .instanceMethod yX12_withOf, .selects RX12 yX12_withOf yX12_withOf, .methodLink RX12 293 yX12_withOf, .fieldLink RX12 58 "LeftArgumentsModel" "holding" "I", .methodLink RX12 299 Lib.Math.min.name, .static Lib.Math.min.name, .code Lib.Math.min.name Lib.Math.min.code 2 (some .int), .fieldLink RX12 34 "LeftArgumentsModel" "letters" "[I", .code yX12_worthOf cX12_worthOf 3 (some .int), .fieldLink RX12 22 "LeftArgumentsModel" "clauses" "[I", .fieldLink RX12 25 "LeftArgumentsModel" "testFrom" "[I", .fieldLink RX12 28 "LeftArgumentsModel" "sumFrom" "[I", .fieldLink RX12 31 "LeftArgumentsModel" "sumTo" "[I", .code yX12_workOut cX12_workOut 6 (some .int), .fieldLink RX12 37 "LeftArgumentsModel" "stack" "[I", .fieldLink RX12 13 "LeftArgumentsModel" "code" "[I", .fieldLink RX12 16 "LeftArgumentsModel" "value" "[I", .code yX12_worked cX12_worked 5 (some .int), .code yX12_bounded cX12_bounded 2 (some .int), .constantLong RX12 192 (-1000000), .constantLong RX12 194 (1000000), .methodLink RX12 196 Lib.MathLoose.min_long.x, .static Lib.MathLoose.min_long.x, .code Lib.MathLoose.min_long.x Lib.MathLoose.min_long.code 4 (some .long), .methodLink RX12 202 Lib.MathLoose.max_long.x, .static Lib.MathLoose.max_long.x, .code Lib.MathLoose.max_long.x Lib.MathLoose.max_long.code 4 (some .long), .static yX12_bounded, .methodLink RX12 205 yX12_bounded, .static yX12_worked, .methodLink RX12 209 yX12_worked, .instanceMethod yX12_workOut, .selects RX12 yX12_workOut yX12_workOut, .methodLink RX12 213 yX12_workOut, .instanceMethod yX12_worthOf, .selects RX12 yX12_worthOf yX12_worthOf, .methodLink RX12 296 yX12_worthOf, .instanceMethod yX12_growthOf, .selects RX12 yX12_growthOf yX12_growthOf, .methodLink RX12 303 yX12_growthOf, .instanceMethod yX12_valueOf, .selects RX12 yX12_valueOf yX12_valueOf, .methodLink RX12 453 yX12_valueOf, .instanceMethod yX12_topBag, .selects RX12 yX12_topBag yX12_topBag, .methodLink RX12 471 yX12_topBag] : List Cond) ++ wsX120)
set_option maxRecDepth 20000 in
theorem g_X12_most_0 : GoodIn q_X12_most (va_wsS RX12 217 yX12_in q_X12_in_12) := goodIn_app (goodIn_r _ [5, 4, 3] rfl (by decide +kernel)) (goodIn_r (.code yX12_in cX12_in 3 (some .boolean) :: []) [2] rfl (by decide +kernel))
set_option maxRecDepth 20000 in
theorem g_X12_most_1 : GoodIn q_X12_most (wsV RX12 456 RX12 yX12_fullest q_X12_fullest) := goodIn_app (goodIn_r _ [23, 21, 22, 3] rfl (by decide +kernel)) (goodIn_ca (goodIn_r (.code yX12_fullest cX12_fullest 3 (some .int) :: [.fieldLink RX12 46 "LeftArgumentsModel" "rule" "[I", .code yX12_loadOf cX12_loadOf 4 (some .int), .code yX12_isThere cX12_isThere 2 (some .boolean), .code yX12_in cX12_in 3 (some .boolean), .initialized RX12, .static yX12_in, .methodLink RX12 217 yX12_in, .code yX12_of cX12_of 3 (some .int), .fieldLink RX12 52 "LeftArgumentsModel" "now" "[I", .instanceMethod yX12_of, .selects RX12 yX12_of yX12_of, .methodLink RX12 287 yX12_of, .instanceMethod yX12_isThere, .selects RX12 yX12_isThere yX12_isThere, .methodLink RX12 290 yX12_isThere, .instanceMethod yX12_loadOf, .selects RX12 yX12_loadOf yX12_loadOf, .methodLink RX12 312 yX12_loadOf]) [6, 7, 8, 9, 2, 3, 4, 5, 10, 11, 12, 13, 14, 15, 16, 17, 18, 19, 20] rfl (by decide +kernel)) (goodIn_sub (fun _ h => List.mem_cons_of_mem _ (List.mem_append_right _ h)) gwX12))
set_option maxRecDepth 20000 in
theorem g_X12_most_2 : GoodIn q_X12_most (wsV RX12 404 RX12 yX12_bagOnes q_X12_bagOnes) := goodIn_app (goodIn_r _ [27, 25, 26, 3] rfl (by decide +kernel)) (goodIn_ca (goodIn_r (.code yX12_bagOnes cX12_bagOnes 3 (some .int) :: [.code yX12_isThere cX12_isThere 2 (some .boolean), .code yX12_in cX12_in 3 (some .boolean), .initialized RX12, .static yX12_in, .methodLink RX12 217 yX12_in, .code yX12_of cX12_of 3 (some .int), .fieldLink RX12 52 "LeftArgumentsModel" "now" "[I", .instanceMethod yX12_of, .selects RX12 yX12_of yX12_of, .methodLink RX12 287 yX12_of, .instanceMethod yX12_isThere, .selects RX12 yX12_isThere yX12_isThere, .methodLink RX12 290 yX12_isThere]) [24, 9, 2, 3, 4, 5, 10, 11, 12, 13, 14, 15, 16, 17] rfl (by decide +kernel)) (goodIn_sub (fun _ h => List.mem_cons_of_mem _ (List.mem_append_right _ h)) gwX12))
set_option maxRecDepth 20000 in
theorem g_X12_most_3 : GoodIn q_X12_most (wsV RX12 459 RX12 yX12_onesBy q_X12_onesBy) := goodIn_app (goodIn_r _ [31, 29, 30, 3] rfl (by decide +kernel)) (goodIn_ca (goodIn_r (.code yX12_onesBy cX12_onesBy 5 (some .int) :: [.code yX12_isThere cX12_isThere 2 (some .boolean), .code yX12_in cX12_in 3 (some .boolean), .initialized RX12, .static yX12_in, .methodLink RX12 217 yX12_in, .code yX12_of cX12_of 3 (some .int), .fieldLink RX12 52 "LeftArgumentsModel" "now" "[I", .instanceMethod yX12_of, .selects RX12 yX12_of yX12_of, .methodLink RX12 287 yX12_of, .instanceMethod yX12_isThere, .selects RX12 yX12_isThere yX12_isThere, .methodLink RX12 290 yX12_isThere]) [28, 9, 2, 3, 4, 5, 10, 11, 12, 13, 14, 15, 16, 17] rfl (by decide +kernel)) (goodIn_sub (fun _ h => List.mem_cons_of_mem _ (List.mem_append_right _ h)) gwX12))
set_option maxRecDepth 20000 in
theorem g_X12_most_4 : GoodIn q_X12_most (wsV RX12 459 RX12 yX12_onesBy q_X12_onesBy_1) := goodIn_app (goodIn_r _ [31, 29, 30, 3] rfl (by decide +kernel)) (goodIn_ca (goodIn_r (.code yX12_onesBy cX12_onesBy 5 (some .int) :: [.code yX12_isThere cX12_isThere 2 (some .boolean), .code yX12_in cX12_in 3 (some .boolean), .initialized RX12, .static yX12_in, .methodLink RX12 217 yX12_in, .code yX12_of cX12_of 3 (some .int), .fieldLink RX12 52 "LeftArgumentsModel" "now" "[I", .instanceMethod yX12_of, .selects RX12 yX12_of yX12_of, .methodLink RX12 287 yX12_of, .instanceMethod yX12_isThere, .selects RX12 yX12_isThere yX12_isThere, .methodLink RX12 290 yX12_isThere]) [28, 9, 2, 3, 4, 5, 10, 11, 12, 13, 14, 15, 16, 17] rfl (by decide +kernel)) (goodIn_sub (fun _ h => List.mem_cons_of_mem _ (List.mem_append_right _ h)) gwX12))
set_option maxRecDepth 20000 in
theorem g_X12_most_5 : GoodIn q_X12_most (wsV RX12 330 RX12 yX12_sizeAll q_X12_sizeAll) := goodIn_app (goodIn_r _ [35, 33, 34, 3] rfl (by decide +kernel)) (goodIn_ca (goodIn_r (.code yX12_sizeAll cX12_sizeAll 3 (some .int) :: [.code yX12_isThere cX12_isThere 2 (some .boolean), .code yX12_in cX12_in 3 (some .boolean), .initialized RX12, .static yX12_in, .methodLink RX12 217 yX12_in, .code yX12_of cX12_of 3 (some .int), .fieldLink RX12 52 "LeftArgumentsModel" "now" "[I", .instanceMethod yX12_of, .selects RX12 yX12_of yX12_of, .methodLink RX12 287 yX12_of, .instanceMethod yX12_isThere, .selects RX12 yX12_isThere yX12_isThere, .methodLink RX12 290 yX12_isThere]) [32, 9, 2, 3, 4, 5, 10, 11, 12, 13, 14, 15, 16, 17] rfl (by decide +kernel)) (goodIn_sub (fun _ h => List.mem_cons_of_mem _ (List.mem_append_right _ h)) gwX12))
set_option maxRecDepth 20000 in
theorem g_X12_most_6 : GoodIn q_X12_most (wsV RX12 462 RX12 yX12_roomLeft q_X12_roomLeft) := goodIn_app (goodIn_r _ [43, 41, 42, 3] rfl (by decide +kernel)) (goodIn_ca (goodIn_r (.code yX12_roomLeft cX12_roomLeft 3 (some .int) :: [.fieldLink RX12 46 "LeftArgumentsModel" "rule" "[I", .code yX12_loadOf cX12_loadOf 4 (some .int), .code yX12_isThere cX12_isThere 2 (some .boolean), .code yX12_in cX12_in 3 (some .boolean), .initialized RX12, .static yX12_in, .methodLink RX12 217 yX12_in, .code yX12_of cX12_of 3 (some .int), .fieldLink RX12 52 "LeftArgumentsModel" "now" "[I", .instanceMethod yX12_of, .selects RX12 yX12_of yX12_of, .methodLink RX12 287 yX12_of, .instanceMethod yX12_isThere, .selects RX12 yX12_isThere yX12_isThere, .methodLink RX12 290 yX12_isThere, .instanceMethod yX12_loadOf, .selects RX12 yX12_loadOf yX12_loadOf, .methodLink RX12 312 yX12_loadOf, .methodLink RX12 301 Lib.Math.max.name, .static Lib.Math.max.name, .initialized "java/lang/Math", .code Lib.Math.max.name Lib.Math.max.code 2 (some .int)]) [36, 7, 8, 9, 2, 3, 4, 5, 10, 11, 12, 13, 14, 15, 16, 17, 18, 19, 20, 37, 38, 39, 40] rfl (by decide +kernel)) (goodIn_sub (fun _ h => List.mem_cons_of_mem _ (List.mem_append_right _ h)) gwX12))
set_option maxRecDepth 20000 in
theorem g_X12_most_7 : GoodIn q_X12_most (wsV RX12 465 RX12 yX12_due q_X12_due) := goodIn_app (goodIn_r _ [47, 45, 46, 3] rfl (by decide +kernel)) (goodIn_ca (goodIn_r (.code yX12_due cX12_due 3 (some .int) :: [.code yX12_isThere cX12_isThere 2 (some .boolean), .code yX12_in cX12_in 3 (some .boolean), .initialized RX12, .static yX12_in, .methodLink RX12 217 yX12_in, .code yX12_of cX12_of 3 (some .int), .fieldLink RX12 52 "LeftArgumentsModel" "now" "[I", .instanceMethod yX12_of, .selects RX12 yX12_of yX12_of, .methodLink RX12 287 yX12_of, .instanceMethod yX12_isThere, .selects RX12 yX12_isThere yX12_isThere, .methodLink RX12 290 yX12_isThere, .fieldLink RX12 46 "LeftArgumentsModel" "rule" "[I"]) [44, 9, 2, 3, 4, 5, 10, 11, 12, 13, 14, 15, 16, 17, 7] rfl (by decide +kernel)) (goodIn_sub (fun _ h => List.mem_cons_of_mem _ (List.mem_append_right _ h)) gwX12))
set_option maxRecDepth 20000 in
theorem g_X12_most_8 : GoodIn q_X12_most (wsV RX12 434 RX12 yX12_ripeOnes q_X12_ripeOnes) := goodIn_app (goodIn_r _ [51, 49, 50, 3] rfl (by decide +kernel)) (goodIn_ca (goodIn_r (.code yX12_ripeOnes cX12_ripeOnes 3 (some .int) :: [.code yX12_isThere cX12_isThere 2 (some .boolean), .code yX12_in cX12_in 3 (some .boolean), .initialized RX12, .static yX12_in, .methodLink RX12 217 yX12_in, .code yX12_of cX12_of 3 (some .int), .fieldLink RX12 52 "LeftArgumentsModel" "now" "[I", .instanceMethod yX12_of, .selects RX12 yX12_of yX12_of, .methodLink RX12 287 yX12_of, .instanceMethod yX12_isThere, .selects RX12 yX12_isThere yX12_isThere, .methodLink RX12 290 yX12_isThere]) [48, 9, 2, 3, 4, 5, 10, 11, 12, 13, 14, 15, 16, 17] rfl (by decide +kernel)) (goodIn_sub (fun _ h => List.mem_cons_of_mem _ (List.mem_append_right _ h)) gwX12))
set_option maxRecDepth 20000 in
theorem g_X12_most_9 : GoodIn q_X12_most (wsV RX12 468 RX12 yX12_quarrels q_X12_quarrels) := goodIn_app (goodIn_r _ [66, 64, 65, 3] rfl (by decide +kernel)) (goodIn_ca (goodIn_r (.code yX12_quarrels cX12_quarrels 4 (some .int) :: [.code yX12_isThere cX12_isThere 2 (some .boolean), .code yX12_in cX12_in 3 (some .boolean), .initialized RX12, .static yX12_in, .methodLink RX12 217 yX12_in, .code yX12_of cX12_of 3 (some .int), .fieldLink RX12 52 "LeftArgumentsModel" "now" "[I", .instanceMethod yX12_of, .selects RX12 yX12_of yX12_of, .methodLink RX12 287 yX12_of, .instanceMethod yX12_isThere, .selects RX12 yX12_isThere yX12_isThere, .methodLink RX12 290 yX12_isThere, .code yX12_setsOff cX12_setsOff 3 (some .boolean), .methodLink RX12 411 Lib.Math.abs.name, .static Lib.Math.abs.name, .initialized "java/lang/Math", .code Lib.Math.abs.name Lib.Math.abs.code 1 (some .int), .code yX12_stubbornOf cX12_stubbornOf 2 (some .int), .instanceMethod yX12_stubbornOf, .selects RX12 yX12_stubbornOf yX12_stubbornOf, .methodLink RX12 414 yX12_stubbornOf, .instanceMethod yX12_setsOff, .selects RX12 yX12_setsOff yX12_setsOff, .methodLink RX12 401 yX12_setsOff]) [52, 9, 2, 3, 4, 5, 10, 11, 12, 13, 14, 15, 16, 17, 53, 54, 55, 39, 56, 57, 58, 59, 60, 61, 62, 63] rfl (by decide +kernel)) (goodIn_sub (fun _ h => List.mem_cons_of_mem _ (List.mem_append_right _ h)) gwX12))
set_option maxRecDepth 20000 in
theorem g_X12_most_10 : GoodIn q_X12_most (wsV RX12 471 RX12 yX12_topBag q_X12_topBag) := goodIn_app (goodIn_r _ [116, 114, 115, 3] rfl (by decide +kernel)) (goodIn_ca (goodIn_r (.code yX12_topBag cX12_topBag 4 (some .int) :: [.code yX12_isThere cX12_isThere 2 (some .boolean), .code yX12_in cX12_in 3 (some .boolean), .initialized RX12, .static yX12_in, .methodLink RX12 217 yX12_in, .code yX12_of cX12_of 3 (some .int), .fieldLink RX12 52 "LeftArgumentsModel" "now" "[I", .instanceMethod yX12_of, .selects RX12 yX12_of yX12_of, .methodLink RX12 287 yX12_of, .instanceMethod yX12_isThere, .selects RX12 yX12_isThere yX12_isThere, .methodLink RX12 290 yX12_isThere, .code yX12_valueOf cX12_valueOf 3 (some .int), .code yX12_stubbornOf cX12_stubbornOf 2 (some .int), .instanceMethod yX12_stubbornOf, .selects RX12 yX12_stubbornOf yX12_stubbornOf, .methodLink RX12 414 yX12_stubbornOf, .code yX12_growthOf cX12_growthOf 4 (some .int), .code yX12_withOf cX12_withOf 4 (some .int), .instanceMethod yX12_withOf, .selects RX12 yX12_withOf yX12_withOf, .methodLink RX12 293 yX12_withOf, .fieldLink RX12 58 "LeftArgumentsModel" "holding" "I", .methodLink RX12 299 Lib.Math.min.name, .static Lib.Math.min.name, .initialized "java/lang/Math", .code Lib.Math.min.name Lib.Math.min.code 2 (some .int), .methodLink RX12 301 Lib.Math.max.name, .static Lib.Math.max.name, .code Lib.Math.max.name Lib.Math.max.code 2 (some .int), .fieldLink RX12 34 "LeftArgumentsModel" "letters" "[I", .code yX12_worthOf cX12_worthOf 3 (some .int), .fieldLink RX12 22 "LeftArgumentsModel" "clauses" "[I", .fieldLink RX12 25 "LeftArgumentsModel" "testFrom" "[I", .fieldLink RX12 28 "LeftArgumentsModel" "sumFrom" "[I", .fieldLink RX12 31 "LeftArgumentsModel" "sumTo" "[I", .code yX12_workOut cX12_workOut 6 (some .int), .fieldLink RX12 37 "LeftArgumentsModel" "stack" "[I", .fieldLink RX12 13 "LeftArgumentsModel" "code" "[I", .fieldLink RX12 16 "LeftArgumentsModel" "value" "[I", .code yX12_worked cX12_worked 5 (some .int), .code yX12_bounded cX12_bounded 2 (some .int), .constantLong RX12 192 (-1000000), .constantLong RX12 194 (1000000), .methodLink RX12 196 Lib.MathLoose.min_long.x, .static Lib.MathLoose.min_long.x, .code Lib.MathLoose.min_long.x Lib.MathLoose.min_long.code 4 (some .long), .methodLink RX12 202 Lib.MathLoose.max_long.x, .static Lib.MathLoose.max_long.x, .code Lib.MathLoose.max_long.x Lib.MathLoose.max_long.code 4 (some .long), .static yX12_bounded, .methodLink RX12 205 yX12_bounded, .static yX12_worked, .methodLink RX12 209 yX12_worked, .instanceMethod yX12_workOut, .selects RX12 yX12_workOut yX12_workOut, .methodLink RX12 213 yX12_workOut, .instanceMethod yX12_worthOf, .selects RX12 yX12_worthOf yX12_worthOf, .methodLink RX12 296 yX12_worthOf, .instanceMethod yX12_growthOf, .selects RX12 yX12_growthOf yX12_growthOf, .methodLink RX12 303 yX12_growthOf, .instanceMethod yX12_valueOf, .selects RX12 yX12_valueOf yX12_valueOf, .methodLink RX12 453 yX12_valueOf]) [67, 9, 2, 3, 4, 5, 10, 11, 12, 13, 14, 15, 16, 17, 68, 57, 58, 59, 60, 69, 70, 71, 72, 73, 74, 75, 76, 39, 77, 37, 38, 40, 78, 79, 80, 81, 82, 83, 84, 85, 86, 87, 88, 89, 90, 91, 92, 93, 94, 95, 96, 97, 98, 99, 100, 101, 102, 103, 104, 105, 106, 107, 108, 109, 110, 111, 112, 113] rfl (by decide +kernel)) (goodIn_sub (fun _ h => List.mem_cons_of_mem _ (List.mem_append_right _ h)) gwX12))
set_option maxHeartbeats 4000000 in
set_option maxRecDepth 100000 in
theorem k_X12_most (l : Launch) (dC : Nat → ClassId) (dI : Nat → Nat → Nat) (h0 : Nat) (h1 : Nat) (h2 : Nat) (h3 : Nat) (h4 : Nat) (h5 : Nat) (h6 : Nat) (h7 : Nat) (h8 : Nat) (h9 : Nat) (h10 : Nat) (v0 : Int32) (r0 : Nat) (v1 : Int32) (v2 : Int32) (v3 : Int32) (v4 : Int32) (r1 : Nat) (v5 : Int32) (v6 : Int32) (r2 : Nat) (r3 : Nat) (v7 : Int32) (r4 : Nat) (v8 : Int32) (v9 : Int32) (r5 : Nat) (v10 : Int32) (v11 : Int32) (r6 : Nat) (v12 : Int32) (v13 : Int32) (r7 : Nat) (v14 : Int32) (w15 : Int64) (r8 : Nat) (v16 : Int32) (v17 : Int32) (r9 : Nat) (r10 : Nat) (r11 : Nat) (r12 : Nat) (r13 : Nat) (r14 : Nat) (v18 : Int32) (r15 : Nat) (r16 : Nat) (r17 : Nat) (v19 : Int32) (g0 : ClassId) (f20 : Nat → Int32) (g1 : ClassId) (f21 : Nat → Int32) (g2 : ClassId) (f22 : Nat → Int32) (g3 : ClassId) (f23 : Nat → Int32) (g4 : ClassId) (f24 : Nat → Int32) (g5 : ClassId) (f25 : Nat → Int32) (g6 : ClassId) (f26 : Nat → Int32) (g7 : ClassId) (f27 : Nat → Int32) (g8 : ClassId) (f28 : Nat → Int32) (g9 : ClassId) (f29 : Nat → Int32) (v30 : Int32) (i_v1 : 0 ≤ v1.toInt ∧ v1.toInt ≤ 240) (i_v5 : 0 ≤ v5.toInt ∧ v5.toInt ≤ 4) (i_v6 : 0 ≤ v6.toInt ∧ v6.toInt ≤ 4) (i_v7 : 0 ≤ v7.toInt ∧ v7.toInt ≤ 8) (i_v8 : 0 ≤ v8.toInt ∧ v8.toInt ≤ 8) (i_v9 : 0 ≤ v9.toInt ∧ v9.toInt ≤ 1) (i_v10 : -1 ≤ v10.toInt ∧ v10.toInt ≤ 3) (i_v14 : 0 ≤ v14.toInt ∧ v14.toInt ≤ 40) (i_v18 : 0 ≤ v18.toInt ∧ v18.toInt ≤ 10) (i_v19 : 0 ≤ v19.toInt ∧ v19.toInt ≤ 1) (ia_f28 : (pm_RU f28)) (ia_f29 : (pm_NW f29)) (pp0 : pm_Held v10 f20 f21 f22 f23 f24 f25) (sz : Nat) : Met l yX12_most q_X12_most ({ frames := 8, cells := 0, slots := 0, locals := 177 }) (va_Pc [.ref h0, .int v30] (fun U => U.heap.size = sz ∧ va_P (dC, dI) vwCl (wd_4e9dad6c h0 v0 r0 v1 v2 v3 v4 h1 h2 r1 h3 h4 h5 h6 v5 v6 h7 h8 r2 r3 v7 h9 r4 v8 v9 h10 r5 v10 v11 r6 v12 v13 r7 v14 w15 r8 v16 v17 r9 r10 r11 r12 r13 r14 v18 r15 r16 r17 v19 h1 g0 f20 h2 g1 f21 h3 g2 f22 h4 g3 f23 h5 g4 f24 h6 g5 f25 h7 g6 f26 h8 g7 f27 h9 g8 f28 h10 g9 f29) U.heap ∧ va_K (dC, dI) vwCl [(g0, .int), (g1, .int), (g2, .int), (g3, .int), (g4, .int), (g5, .int), (g6, .int), (g7, .int), (g8, .int), (g9, .int)] U ∧ va_D (fun _ => True) (wd_4e9dad6c h0 v0 r0 v1 v2 v3 v4 h1 h2 r1 h3 h4 h5 h6 v5 v6 h7 h8 r2 r3 v7 h9 r4 v8 v9 h10 r5 v10 v11 r6 v12 v13 r7 v14 w15 r8 v16 v17 r9 r10 r11 r12 r13 r14 v18 r15 r16 r17 v19 h1 g0 f20 h2 g1 f21 h3 g2 f22 h4 g3 f23 h5 g4 f24 h6 g5 f25 h7 g6 f26 h8 g7 f27 h9 g8 f28 h10 g9 f29))) (va_Qi (fun (r : Int32) (r9 : Int32) => r9 = r) (fun (r : Int32) (t : State) => (∃ (o_h7 : Nat → Int32) (o_h8 : Nat → Int32), va_P (dC, dI) vwCl (wd_4e9dad6c h0 v0 r0 v1 v2 v3 v4 h1 h2 r1 h3 h4 h5 h6 v5 v6 h7 h8 r2 r3 v7 h9 r4 v8 v9 h10 r5 v10 v11 r6 v12 v13 r7 v14 w15 r8 v16 v17 r9 r10 r11 r12 r13 r14 v18 r15 r16 r17 v19 h1 g0 f20 h2 g1 f21 h3 g2 f22 h4 g3 f23 h5 g4 f24 h6 g5 f25 h7 g6 o_h7 h8 g7 o_h8 h9 g8 f28 h10 g9 f29) t.heap ∧ va_K (dC, dI) vwCl [] t ∧ va_D (va_A (wd_4e9dad6c h0 v0 r0 v1 v2 v3 v4 h1 h2 r1 h3 h4 h5 h6 v5 v6 h7 h8 r2 r3 v7 h9 r4 v8 v9 h10 r5 v10 v11 r6 v12 v13 r7 v14 w15 r8 v16 v17 r9 r10 r11 r12 r13 r14 v18 r15 r16 r17 v19 h1 g0 f20 h2 g1 f21 h3 g2 f22 h4 g3 f23 h5 g4 f24 h6 g5 f25 h7 g6 f26 h8 g7 f27 h9 g8 f28 h10 g9 f29) sz) (wd_4e9dad6c h0 v0 r0 v1 v2 v3 v4 h1 h2 r1 h3 h4 h5 h6 v5 v6 h7 h8 r2 r3 v7 h9 r4 v8 v9 h10 r5 v10 v11 r6 v12 v13 r7 v14 w15 r8 v16 v17 r9 r10 r11 r12 r13 r14 v18 r15 r16 r17 v19 h1 g0 f20 h2 g1 f21 h3 g2 f22 h4 g3 f23 h5 g4 f24 h6 g5 f25 h7 g6 o_h7 h8 g7 o_h8 h9 g8 f28 h10 g9 f29))) (va_A (wd_4e9dad6c h0 v0 r0 v1 v2 v3 v4 h1 h2 r1 h3 h4 h5 h6 v5 v6 h7 h8 r2 r3 v7 h9 r4 v8 v9 h10 r5 v10 v11 r6 v12 v13 r7 v14 w15 r8 v16 v17 r9 r10 r11 r12 r13 r14 v18 r15 r16 r17 v19 h1 g0 f20 h2 g1 f21 h3 g2 f22 h4 g3 f23 h5 g4 f24 h6 g5 f25 h7 g6 f26 h8 g7 f27 h9 g8 f28 h10 g9 f29) sz)) 0 0 (va_A (wd_4e9dad6c h0 v0 r0 v1 v2 v3 v4 h1 h2 r1 h3 h4 h5 h6 v5 v6 h7 h8 r2 r3 v7 h9 r4 v8 v9 h10 r5 v10 v11 r6 v12 v13 r7 v14 w15 r8 v16 v17 r9 r10 r11 r12 r13 r14 v18 r15 r16 r17 v19 h1 g0 f20 h2 g1 f21 h3 g2 f22 h4 g3 f23 h5 g4 f24 h6 g5 f25 h7 g6 f26 h8 g7 f27 h9 g8 f28 h10 g9 f29) sz) := by
  refine Met.ofW (cc := cX12_most) (maxL := 2) (ret := (some .int)) (by decide) rfl ?_
  intro p e s m args below meth c s₁ B hml hv
  obtain ⟨i_v1a, i_v1b⟩ := i_v1
  obtain ⟨i_v5a, i_v5b⟩ := i_v5
  obtain ⟨i_v6a, i_v6b⟩ := i_v6
  obtain ⟨i_v7a, i_v7b⟩ := i_v7
  obtain ⟨i_v8a, i_v8b⟩ := i_v8
  obtain ⟨i_v9a, i_v9b⟩ := i_v9
  obtain ⟨i_v10a, i_v10b⟩ := i_v10
  obtain ⟨i_v14a, i_v14b⟩ := i_v14
  obtain ⟨i_v18a, i_v18b⟩ := i_v18
  obtain ⟨i_v19a, i_v19b⟩ := i_v19
  obtain ⟨rfl, hsz, hP, hK, hD0⟩ := hv
  have hx := B.exec
  have hb := B.bytes
  have hr := B.returns
  have hts := atoms_spec (ws := q_X12_most) B.pre
  have hown : s.vm.findClass RX12 = some m.cls := findClass_of_methodNamed B.named
  have hlocks := B.notSynchronized
  subst hsz
  have hD := hD0.self (sz := s.heap.size)
  generalize hAe : va_A (wd_4e9dad6c h0 v0 r0 v1 v2 v3 v4 h1 h2 r1 h3 h4 h5 h6 v5 v6 h7 h8 r2 r3 v7 h9 r4 v8 v9 h10 r5 v10 v11 r6 v12 v13 r7 v14 w15 r8 v16 v17 r9 r10 r11 r12 r13 r14 v18 r15 r16 r17 v19 h1 g0 f20 h2 g1 f21 h3 g2 f22 h4 g3 f23 h5 g4 f24 h6 g5 f25 h7 g6 f26 h8 g7 f27 h9 g8 f28 h10 g9 f29) s.heap.size = A at hD ⊢
  have hA : ∀ q : Nat, s.heap.size ≤ q → A q := fun q h => by rw [← hAe]; exact Or.inr h
  have hS : va_S A s.heap s.heap [] := va_S.rf
  generalize hQ : (MQ below _ _ s 0 0 A) = Q
  have hl := lv_entry ([.ref h0, .int v30]) (n := 2) (Nat.le_of_ble_eq_true rfl)
  rw [lg_entry_eq]
  generalize (lg_sl ([.ref h0, .int v30]) ++ List.replicate (2 - (lg_sl ([.ref h0, .int v30])).length) Slot.unset).toArray = ls at hl ⊢
  have hl : lv_has ls 2 [(0, .ref h0), (1, .int v30)] := hl
  obtain ⟨H, hH⟩ : ∃ H : Heap, H = s.heap := ⟨_, rfl⟩
  obtain ⟨locs, hlocs⟩ : ∃ y : List Loc, y = [] := ⟨_, rfl⟩
  have hS : va_S A s.heap H locs := by rw [hH, hlocs]; exact va_S.rf
  have hP : va_P (dC, dI) vwCl (wd_4e9dad6c h0 v0 r0 v1 v2 v3 v4 h1 h2 r1 h3 h4 h5 h6 v5 v6 h7 h8 r2 r3 v7 h9 r4 v8 v9 h10 r5 v10 v11 r6 v12 v13 r7 v14 w15 r8 v16 v17 r9 r10 r11 r12 r13 r14 v18 r15 r16 r17 v19 h1 g0 f20 h2 g1 f21 h3 g2 f22 h4 g3 f23 h5 g4 f24 h6 g5 f25 h7 g6 f26 h8 g7 f27 h9 g8 f28 h10 g9 f29) H := by rw [hH]; exact hP
  rw [← hH, ← hlocs]
  refine lv_aload_n hx hb dX12_most_0 rfl (lv_at hl 0 rfl) ?_
  refine va_get (D := (dC, dI)) (ci := 12) (v := .int v9) (C := RX12) (T := TX12) (N := 48) hx hb hts (fun _ h => List.mem_cons_of_mem _ (List.mem_append_right _ h)) hown hK hP 0 rfl rfl 23 (by decide) (hts (.fieldLink RX12 262 "LeftArgumentsModel" "isOffice" "Z") (List.mem_cons_of_mem _ (List.mem_append_left _ (List.mem_of_getElem? (i := 0) rfl)))) (fun _ h9 => h9) rfl dX12_most_1 ?_
  refine lv_if_eq (tgt := 17) hx hb dX12_most_4 (by decide) (fun c1 => ?_) (fun c1 => ?_)
  · skip
    have fc1 : v9.toInt = 0 := congrArg Int32.toInt c1
    refine lv_iconst (v := (-1)) hx hb dX12_most_17 (by decide) ?_
    subst hQ
    have hP9 := hP.sub (ws' := (wd_4e9dad6c h0 v0 r0 v1 v2 v3 v4 h1 h2 r1 h3 h4 h5 h6 v5 v6 h7 h8 r2 r3 v7 h9 r4 v8 v9 h10 r5 v10 v11 r6 v12 v13 r7 v14 w15 r8 v16 v17 r9 r10 r11 r12 r13 r14 v18 r15 r16 r17 v19 h1 g0 f20 h2 g1 f21 h3 g2 f22 h4 g3 f23 h5 g4 f24 h6 g5 f25 h7 g6 f26 h8 g7 f27 h9 g8 f28 h10 g9 f29)) [0, 1, 2, 3, 4, 5, 6, 7, 8, 9, 10] rfl
    have hD9 := hD.sub (ws' := (wd_4e9dad6c h0 v0 r0 v1 v2 v3 v4 h1 h2 r1 h3 h4 h5 h6 v5 v6 h7 h8 r2 r3 v7 h9 r4 v8 v9 h10 r5 v10 v11 r6 v12 v13 r7 v14 w15 r8 v16 v17 r9 r10 r11 r12 r13 r14 v18 r15 r16 r17 v19 h1 g0 f20 h2 g1 f21 h3 g2 f22 h4 g3 f23 h5 g4 f24 h6 g5 f25 h7 g6 f26 h8 g7 f27 h9 g8 f28 h10 g9 f29)) [0, 1, 2, 3, 4, 5, 6, 7, 8, 9, 10] (by decide +kernel) rfl
    have hK9 := hK.sub (tys' := []) [] rfl
    exact W.iret (v := (-1)) hx hb hr (fun t ht hW => ⟨⟨(-1), (-1), rfl, rfl, ⟨f26, f27, by rw [ht]; exact hP9, va_K.moved hW.alike hK9, hD9⟩⟩, hS.F ht⟩) hS.2.2 dX12_most_18
  · skip
    have fc1 : ¬ (v9.toInt = 0) := fun h9 => c1 (Int32.toInt_inj.mp h9)
    refine lv_iload_n hx hb dX12_most_7 rfl (lv_at hl 1 rfl) ?_
    refine lv_iconst (v := 0) hx hb dX12_most_8 (by decide) ?_
    refine lv_bipush (v := 12) hx hb dX12_most_9 (by decide) ?_
    have hPc := hP.sub (ws' := []) [] rfl
    have hDc := hD.sub (ws' := []) [] (by decide) rfl
    have hKc := hK.sub (tys' := []) [] rfl
    have hFc := va_free (wc := []) hD hS hA [] rfl
    refine va_calli (va_runS (As := [.int v30, .int 0, .int 12]) (rest := []) ⟨hx, hb, hml, hown, hts⟩ (k_X12_in_12 l dC dI v30  H.size) (va_cwS 3 hts g_X12_most_0 rfl rfl rfl (by decide +kernel) ⟨Nat.le_of_ble_eq_true rfl, Nat.le_of_ble_eq_true rfl⟩) (pv_PS hPc hKc hDc) rfl rfl hl.1 rfl (lv_room (Nat.le_of_ble_eq_true rfl)) dX12_most_11 ⟨Nat.le_of_ble_eq_true rfl, Nat.le_of_ble_eq_true rfl⟩) hS (fun q _ h => hFc q h) hFc (fun ra2 u t H1 locs ht hvm hwra2 hB hz1 hk1 hS => ?_)
    try rw [hwra2] at hB
    obtain ⟨pt0_ra2, pt1_ra2, pt2_ra2, pt3_ra2, pt4_ra2, hP1, hK1, hD1⟩ := hB
    rw [ht] at hP1
    obtain ⟨hP2, hD2⟩ := va_join (wr := (wd_4e9dad6c h0 v0 r0 v1 v2 v3 v4 h1 h2 r1 h3 h4 h5 h6 v5 v6 h7 h8 r2 r3 v7 h9 r4 v8 v9 h10 r5 v10 v11 r6 v12 v13 r7 v14 w15 r8 v16 v17 r9 r10 r11 r12 r13 r14 v18 r15 r16 r17 v19 h1 g0 f20 h2 g1 f21 h3 g2 f22 h4 g3 f23 h5 g4 f24 h6 g5 f25 h7 g6 f26 h8 g7 f27 h9 g8 f28 h10 g9 f29)) (w1 := []) hP hD [] [0, 1, 2, 3, 4, 5, 6, 7, 8, 9, 10] rfl rfl (by decide +kernel) (by decide +kernel) hk1 hFc hP1 hD1
    clear hP hD hPc hDc hKc hFc hP1 hK1 hD1 hk1 hz1
    generalize H1 = H at hP2 hS ⊢
    have hP : va_P (dC, dI) vwCl (wd_4e9dad6c h0 v0 r0 v1 v2 v3 v4 h1 h2 r1 h3 h4 h5 h6 v5 v6 h7 h8 r2 r3 v7 h9 r4 v8 v9 h10 r5 v10 v11 r6 v12 v13 r7 v14 w15 r8 v16 v17 r9 r10 r11 r12 r13 r14 v18 r15 r16 r17 v19 h1 g0 f20 h2 g1 f21 h3 g2 f22 h4 g3 f23 h5 g4 f24 h6 g5 f25 h7 g6 f26 h8 g7 f27 h9 g8 f28 h10 g9 f29) H := hP2
    have hD : va_D A (wd_4e9dad6c h0 v0 r0 v1 v2 v3 v4 h1 h2 r1 h3 h4 h5 h6 v5 v6 h7 h8 r2 r3 v7 h9 r4 v8 v9 h10 r5 v10 v11 r6 v12 v13 r7 v14 w15 r8 v16 v17 r9 r10 r11 r12 r13 r14 v18 r15 r16 r17 v19 h1 g0 f20 h2 g1 f21 h3 g2 f22 h4 g3 f23 h5 g4 f24 h6 g5 f25 h7 g6 f26 h8 g7 f27 h9 g8 f28 h10 g9 f29) := hD2
    clear hP2 hD2
    refine lv_if_ne (tgt := 19) hx hb dX12_most_14 (by decide) (fun c3 => ?_) (fun c3 => ?_)
    · skip
      have fc3 : ¬ (ra2.toInt = 0) := fun h9 => c3 (Int32.toInt_inj.mp h9)
      refine lv_iload_n hx hb dX12_most_19 rfl (lv_at hl 1 rfl) ?_
      by_cases c4 : v30 = 4
      · skip
        have fc4 : v30.toInt = 4 := congrArg Int32.toInt c4
        refine lv_tableIn (off := 52) (tgt := 72) hx hb dX12_most_20 (by rw [c4]; decide) (by rw [c4]; decide) (by rw [c4]; rfl) (by decide) ?_
        refine lv_aload_n hx hb dX12_most_72 rfl (lv_at hl 0 rfl) ?_
        have hPc := hP.sub (ws' := (wd_78675856 h0 v0 r0 v1 v2 v3 v4 h1 h2 r1 h3 h4 h5 h6 v5 v6 h7 h8 r2 r3 v7 h9 r4 v8 v9 h10 r5 v10 v11 r6 v12 v13 r7 v14 w15 r8 v16 v17 r9 r10 r11 r12 r13 r14 v18 r15 r16 r17 v19 h9 g8 f28 h10 g9 f29)) [0, 9, 10] rfl
        have hDc := hD.sub (ws' := (wd_78675856 h0 v0 r0 v1 v2 v3 v4 h1 h2 r1 h3 h4 h5 h6 v5 v6 h7 h8 r2 r3 v7 h9 r4 v8 v9 h10 r5 v10 v11 r6 v12 v13 r7 v14 w15 r8 v16 v17 r9 r10 r11 r12 r13 r14 v18 r15 r16 r17 v19 h9 g8 f28 h10 g9 f29)) [0, 9, 10] (by decide) rfl
        have hKc := hK.sub (tys' := [(g8, .int), (g9, .int)]) [8, 9] rfl
        have hFc := va_free (wc := (wd_78675856 h0 v0 r0 v1 v2 v3 v4 h1 h2 r1 h3 h4 h5 h6 v5 v6 h7 h8 r2 r3 v7 h9 r4 v8 v9 h10 r5 v10 v11 r6 v12 v13 r7 v14 w15 r8 v16 v17 r9 r10 r11 r12 r13 r14 v18 r15 r16 r17 v19 h9 g8 f28 h10 g9 f29)) hD hS hA [0, 9, 10] rfl
        refine va_calli (va_runV (As := []) (rest := []) ⟨hx, hb, hml, hown, hts⟩ (k_X12_fullest l dC dI h0 h9 h10 v0 r0 v1 v2 v3 v4 h1 h2 r1 h3 h4 h5 h6 v5 v6 h7 h8 r2 r3 v7 r4 v8 v9 r5 v10 v11 r6 v12 v13 r7 v14 w15 r8 v16 v17 r9 r10 r11 r12 r13 r14 v18 r15 r16 r17 v19 g8 f28 g9 f29 ⟨i_v1a, i_v1b⟩ ⟨i_v5a, i_v5b⟩ ⟨i_v6a, i_v6b⟩ ⟨i_v7a, i_v7b⟩ ⟨i_v8a, i_v8b⟩ ⟨i_v9a, i_v9b⟩ ⟨i_v10a, i_v10b⟩ ⟨i_v14a, i_v14b⟩ ⟨i_v18a, i_v18b⟩ ⟨i_v19a, i_v19b⟩ ia_f28 ia_f29 H.size) (cwV 0 hts g_X12_most_1 rfl rfl rfl (by decide +kernel) ⟨Nat.le_of_ble_eq_true rfl, Nat.le_of_ble_eq_true rfl⟩) (pv_PV12 hPc hKc hDc (q0 := 0) rfl) rfl rfl hl.1 rfl (lv_room (Nat.le_of_ble_eq_true rfl)) dX12_most_73 ⟨Nat.le_of_ble_eq_true rfl, Nat.le_of_ble_eq_true rfl⟩) hS (fun q _ h => hFc q h) hFc (fun ra5 u t H1 locs ht hvm hwra5 hB hz1 hk1 hS => ?_)
        try rw [hwra5] at hB
        obtain ⟨pt0_ra5, pt1_ra5, hP1, hK1, hD1⟩ := hB
        rw [ht] at hP1
        obtain ⟨hP2, hD2⟩ := va_join (wr := (wd_a0bd977d h1 g0 f20 h2 g1 f21 h3 g2 f22 h4 g3 f23 h5 g4 f24 h6 g5 f25 h7 g6 f26 h8 g7 f27)) (w1 := (wd_78675856 h0 v0 r0 v1 v2 v3 v4 h1 h2 r1 h3 h4 h5 h6 v5 v6 h7 h8 r2 r3 v7 h9 r4 v8 v9 h10 r5 v10 v11 r6 v12 v13 r7 v14 w15 r8 v16 v17 r9 r10 r11 r12 r13 r14 v18 r15 r16 r17 v19 h9 g8 f28 h10 g9 f29)) hP hD [0, 9, 10] [1, 2, 3, 4, 5, 6, 7, 8] rfl rfl (by decide) (by decide) hk1 hFc hP1 hD1
        clear hP hD hPc hDc hKc hFc hP1 hK1 hD1 hk1 hz1
        generalize H1 = H at hP2 hS ⊢
        have hP := hP2.sub (ws' := (wd_4e9dad6c h0 v0 r0 v1 v2 v3 v4 h1 h2 r1 h3 h4 h5 h6 v5 v6 h7 h8 r2 r3 v7 h9 r4 v8 v9 h10 r5 v10 v11 r6 v12 v13 r7 v14 w15 r8 v16 v17 r9 r10 r11 r12 r13 r14 v18 r15 r16 r17 v19 h1 g0 f20 h2 g1 f21 h3 g2 f22 h4 g3 f23 h5 g4 f24 h6 g5 f25 h7 g6 f26 h8 g7 f27 h9 g8 f28 h10 g9 f29)) [8, 0, 1, 2, 3, 4, 5, 6, 7, 9, 10] rfl
        have hD := hD2.sub (ws' := (wd_4e9dad6c h0 v0 r0 v1 v2 v3 v4 h1 h2 r1 h3 h4 h5 h6 v5 v6 h7 h8 r2 r3 v7 h9 r4 v8 v9 h10 r5 v10 v11 r6 v12 v13 r7 v14 w15 r8 v16 v17 r9 r10 r11 r12 r13 r14 v18 r15 r16 r17 v19 h1 g0 f20 h2 g1 f21 h3 g2 f22 h4 g3 f23 h5 g4 f24 h6 g5 f25 h7 g6 f26 h8 g7 f27 h9 g8 f28 h10 g9 f29)) [8, 0, 1, 2, 3, 4, 5, 6, 7, 9, 10] (by decide +kernel) rfl
        clear hP2 hD2
        subst hQ
        have hP9 := hP.sub (ws' := (wd_4e9dad6c h0 v0 r0 v1 v2 v3 v4 h1 h2 r1 h3 h4 h5 h6 v5 v6 h7 h8 r2 r3 v7 h9 r4 v8 v9 h10 r5 v10 v11 r6 v12 v13 r7 v14 w15 r8 v16 v17 r9 r10 r11 r12 r13 r14 v18 r15 r16 r17 v19 h1 g0 f20 h2 g1 f21 h3 g2 f22 h4 g3 f23 h5 g4 f24 h6 g5 f25 h7 g6 f26 h8 g7 f27 h9 g8 f28 h10 g9 f29)) [0, 1, 2, 3, 4, 5, 6, 7, 8, 9, 10] rfl
        have hD9 := hD.sub (ws' := (wd_4e9dad6c h0 v0 r0 v1 v2 v3 v4 h1 h2 r1 h3 h4 h5 h6 v5 v6 h7 h8 r2 r3 v7 h9 r4 v8 v9 h10 r5 v10 v11 r6 v12 v13 r7 v14 w15 r8 v16 v17 r9 r10 r11 r12 r13 r14 v18 r15 r16 r17 v19 h1 g0 f20 h2 g1 f21 h3 g2 f22 h4 g3 f23 h5 g4 f24 h6 g5 f25 h7 g6 f26 h8 g7 f27 h9 g8 f28 h10 g9 f29)) [0, 1, 2, 3, 4, 5, 6, 7, 8, 9, 10] (by decide +kernel) rfl
        have hK9 := hK.sub (tys' := []) [] rfl
        exact W.iret (v := ra5) hx hb hr (fun t ht hW => ⟨⟨ra5, ra5, rfl, rfl, ⟨f26, f27, by rw [ht]; exact hP9, va_K.moved hW.alike hK9, hD9⟩⟩, hS.F ht⟩) hS.2.2 dX12_most_76
      by_cases c6 : v30 = 5
      · skip
        have fc6 : v30.toInt = 5 := congrArg Int32.toInt c6
        refine lv_tableIn (off := 57) (tgt := 77) hx hb dX12_most_20 (by rw [c6]; decide) (by rw [c6]; decide) (by rw [c6]; rfl) (by decide) ?_
        refine lv_aload_n hx hb dX12_most_77 rfl (lv_at hl 0 rfl) ?_
        have hPc := hP.sub (ws' := (wd_5013416a h0 v0 r0 v1 v2 v3 v4 h1 h2 r1 h3 h4 h5 h6 v5 v6 h7 h8 r2 r3 v7 h9 r4 v8 v9 h10 r5 v10 v11 r6 v12 v13 r7 v14 w15 r8 v16 v17 r9 r10 r11 r12 r13 r14 v18 r15 r16 r17 v19 h10 g9 f29)) [0, 10] rfl
        have hDc := hD.sub (ws' := (wd_5013416a h0 v0 r0 v1 v2 v3 v4 h1 h2 r1 h3 h4 h5 h6 v5 v6 h7 h8 r2 r3 v7 h9 r4 v8 v9 h10 r5 v10 v11 r6 v12 v13 r7 v14 w15 r8 v16 v17 r9 r10 r11 r12 r13 r14 v18 r15 r16 r17 v19 h10 g9 f29)) [0, 10] (by decide) rfl
        have hKc := hK.sub (tys' := [(g9, .int)]) [9] rfl
        have hFc := va_free (wc := (wd_5013416a h0 v0 r0 v1 v2 v3 v4 h1 h2 r1 h3 h4 h5 h6 v5 v6 h7 h8 r2 r3 v7 h9 r4 v8 v9 h10 r5 v10 v11 r6 v12 v13 r7 v14 w15 r8 v16 v17 r9 r10 r11 r12 r13 r14 v18 r15 r16 r17 v19 h10 g9 f29)) hD hS hA [0, 10] rfl
        refine va_calli (va_runV (As := []) (rest := []) ⟨hx, hb, hml, hown, hts⟩ (k_X12_bagOnes l dC dI h0 h10 v0 r0 v1 v2 v3 v4 h1 h2 r1 h3 h4 h5 h6 v5 v6 h7 h8 r2 r3 v7 h9 r4 v8 v9 r5 v10 v11 r6 v12 v13 r7 v14 w15 r8 v16 v17 r9 r10 r11 r12 r13 r14 v18 r15 r16 r17 v19 g9 f29 ⟨i_v1a, i_v1b⟩ ⟨i_v5a, i_v5b⟩ ⟨i_v6a, i_v6b⟩ ⟨i_v7a, i_v7b⟩ ⟨i_v8a, i_v8b⟩ ⟨i_v9a, i_v9b⟩ ⟨i_v10a, i_v10b⟩ ⟨i_v14a, i_v14b⟩ ⟨i_v18a, i_v18b⟩ ⟨i_v19a, i_v19b⟩ ia_f29 H.size) (cwV 0 hts g_X12_most_2 rfl rfl rfl (by decide +kernel) ⟨Nat.le_of_ble_eq_true rfl, Nat.le_of_ble_eq_true rfl⟩) (pv_PV12 hPc hKc hDc (q0 := 0) rfl) rfl rfl hl.1 rfl (lv_room (Nat.le_of_ble_eq_true rfl)) dX12_most_78 ⟨Nat.le_of_ble_eq_true rfl, Nat.le_of_ble_eq_true rfl⟩) hS (fun q _ h => hFc q h) hFc (fun ra7 u t H1 locs ht hvm hwra7 hB hz1 hk1 hS => ?_)
        try rw [hwra7] at hB
        obtain ⟨hP1, hK1, hD1⟩ := hB
        rw [ht] at hP1
        obtain ⟨hP2, hD2⟩ := va_join (wr := (wd_9a99d2a4 h1 g0 f20 h2 g1 f21 h3 g2 f22 h4 g3 f23 h5 g4 f24 h6 g5 f25 h7 g6 f26 h8 g7 f27 h9 g8 f28)) (w1 := (wd_5013416a h0 v0 r0 v1 v2 v3 v4 h1 h2 r1 h3 h4 h5 h6 v5 v6 h7 h8 r2 r3 v7 h9 r4 v8 v9 h10 r5 v10 v11 r6 v12 v13 r7 v14 w15 r8 v16 v17 r9 r10 r11 r12 r13 r14 v18 r15 r16 r17 v19 h10 g9 f29)) hP hD [0, 10] [1, 2, 3, 4, 5, 6, 7, 8, 9] rfl rfl (by decide) (by decide) hk1 hFc hP1 hD1
        clear hP hD hPc hDc hKc hFc hP1 hK1 hD1 hk1 hz1
        generalize H1 = H at hP2 hS ⊢
        have hP := hP2.sub (ws' := (wd_4e9dad6c h0 v0 r0 v1 v2 v3 v4 h1 h2 r1 h3 h4 h5 h6 v5 v6 h7 h8 r2 r3 v7 h9 r4 v8 v9 h10 r5 v10 v11 r6 v12 v13 r7 v14 w15 r8 v16 v17 r9 r10 r11 r12 r13 r14 v18 r15 r16 r17 v19 h1 g0 f20 h2 g1 f21 h3 g2 f22 h4 g3 f23 h5 g4 f24 h6 g5 f25 h7 g6 f26 h8 g7 f27 h9 g8 f28 h10 g9 f29)) [9, 0, 1, 2, 3, 4, 5, 6, 7, 8, 10] rfl
        have hD := hD2.sub (ws' := (wd_4e9dad6c h0 v0 r0 v1 v2 v3 v4 h1 h2 r1 h3 h4 h5 h6 v5 v6 h7 h8 r2 r3 v7 h9 r4 v8 v9 h10 r5 v10 v11 r6 v12 v13 r7 v14 w15 r8 v16 v17 r9 r10 r11 r12 r13 r14 v18 r15 r16 r17 v19 h1 g0 f20 h2 g1 f21 h3 g2 f22 h4 g3 f23 h5 g4 f24 h6 g5 f25 h7 g6 f26 h8 g7 f27 h9 g8 f28 h10 g9 f29)) [9, 0, 1, 2, 3, 4, 5, 6, 7, 8, 10] (by decide +kernel) rfl
        clear hP2 hD2
        subst hQ
        have hP9 := hP.sub (ws' := (wd_4e9dad6c h0 v0 r0 v1 v2 v3 v4 h1 h2 r1 h3 h4 h5 h6 v5 v6 h7 h8 r2 r3 v7 h9 r4 v8 v9 h10 r5 v10 v11 r6 v12 v13 r7 v14 w15 r8 v16 v17 r9 r10 r11 r12 r13 r14 v18 r15 r16 r17 v19 h1 g0 f20 h2 g1 f21 h3 g2 f22 h4 g3 f23 h5 g4 f24 h6 g5 f25 h7 g6 f26 h8 g7 f27 h9 g8 f28 h10 g9 f29)) [0, 1, 2, 3, 4, 5, 6, 7, 8, 9, 10] rfl
        have hD9 := hD.sub (ws' := (wd_4e9dad6c h0 v0 r0 v1 v2 v3 v4 h1 h2 r1 h3 h4 h5 h6 v5 v6 h7 h8 r2 r3 v7 h9 r4 v8 v9 h10 r5 v10 v11 r6 v12 v13 r7 v14 w15 r8 v16 v17 r9 r10 r11 r12 r13 r14 v18 r15 r16 r17 v19 h1 g0 f20 h2 g1 f21 h3 g2 f22 h4 g3 f23 h5 g4 f24 h6 g5 f25 h7 g6 f26 h8 g7 f27 h9 g8 f28 h10 g9 f29)) [0, 1, 2, 3, 4, 5, 6, 7, 8, 9, 10] (by decide +kernel) rfl
        have hK9 := hK.sub (tys' := []) [] rfl
        exact W.iret (v := ra7) hx hb hr (fun t ht hW => ⟨⟨ra7, ra7, rfl, rfl, ⟨f26, f27, by rw [ht]; exact hP9, va_K.moved hW.alike hK9, hD9⟩⟩, hS.F ht⟩) hS.2.2 dX12_most_81
      by_cases c8 : v30 = 6
      · skip
        have fc8 : v30.toInt = 6 := congrArg Int32.toInt c8
        refine lv_tableIn (off := 62) (tgt := 82) hx hb dX12_most_20 (by rw [c8]; decide) (by rw [c8]; decide) (by rw [c8]; rfl) (by decide) ?_
        refine lv_aload_n hx hb dX12_most_82 rfl (lv_at hl 0 rfl) ?_
        refine lv_iconst (v := 3) hx hb dX12_most_83 (by decide) ?_
        refine lv_bipush (v := 9) hx hb dX12_most_84 (by decide) ?_
        have hPc := hP.sub (ws' := (wd_5013416a h0 v0 r0 v1 v2 v3 v4 h1 h2 r1 h3 h4 h5 h6 v5 v6 h7 h8 r2 r3 v7 h9 r4 v8 v9 h10 r5 v10 v11 r6 v12 v13 r7 v14 w15 r8 v16 v17 r9 r10 r11 r12 r13 r14 v18 r15 r16 r17 v19 h10 g9 f29)) [0, 10] rfl
        have hDc := hD.sub (ws' := (wd_5013416a h0 v0 r0 v1 v2 v3 v4 h1 h2 r1 h3 h4 h5 h6 v5 v6 h7 h8 r2 r3 v7 h9 r4 v8 v9 h10 r5 v10 v11 r6 v12 v13 r7 v14 w15 r8 v16 v17 r9 r10 r11 r12 r13 r14 v18 r15 r16 r17 v19 h10 g9 f29)) [0, 10] (by decide) rfl
        have hKc := hK.sub (tys' := [(g9, .int)]) [9] rfl
        have hFc := va_free (wc := (wd_5013416a h0 v0 r0 v1 v2 v3 v4 h1 h2 r1 h3 h4 h5 h6 v5 v6 h7 h8 r2 r3 v7 h9 r4 v8 v9 h10 r5 v10 v11 r6 v12 v13 r7 v14 w15 r8 v16 v17 r9 r10 r11 r12 r13 r14 v18 r15 r16 r17 v19 h10 g9 f29)) hD hS hA [0, 10] rfl
        refine va_calli (va_runV (As := [.int 3, .int 9]) (rest := []) ⟨hx, hb, hml, hown, hts⟩ (k_X12_onesBy l dC dI h0 h10 v0 r0 v1 v2 v3 v4 h1 h2 r1 h3 h4 h5 h6 v5 v6 h7 h8 r2 r3 v7 h9 r4 v8 v9 r5 v10 v11 r6 v12 v13 r7 v14 w15 r8 v16 v17 r9 r10 r11 r12 r13 r14 v18 r15 r16 r17 v19 g9 f29 ⟨i_v1a, i_v1b⟩ ⟨i_v5a, i_v5b⟩ ⟨i_v6a, i_v6b⟩ ⟨i_v7a, i_v7b⟩ ⟨i_v8a, i_v8b⟩ ⟨i_v9a, i_v9b⟩ ⟨i_v10a, i_v10b⟩ ⟨i_v14a, i_v14b⟩ ⟨i_v18a, i_v18b⟩ ⟨i_v19a, i_v19b⟩ ia_f29 H.size) (cwV 2 hts g_X12_most_3 rfl rfl rfl (by decide +kernel) ⟨Nat.le_of_ble_eq_true rfl, Nat.le_of_ble_eq_true rfl⟩) (pv_PV12 hPc hKc hDc (q0 := 0) rfl) rfl rfl hl.1 rfl (lv_room (Nat.le_of_ble_eq_true rfl)) dX12_most_86 ⟨Nat.le_of_ble_eq_true rfl, Nat.le_of_ble_eq_true rfl⟩) hS (fun q _ h => hFc q h) hFc (fun ra9 u t H1 locs ht hvm hwra9 hB hz1 hk1 hS => ?_)
        try rw [hwra9] at hB
        obtain ⟨hP1, hK1, hD1⟩ := hB
        rw [ht] at hP1
        obtain ⟨hP2, hD2⟩ := va_join (wr := (wd_9a99d2a4 h1 g0 f20 h2 g1 f21 h3 g2 f22 h4 g3 f23 h5 g4 f24 h6 g5 f25 h7 g6 f26 h8 g7 f27 h9 g8 f28)) (w1 := (wd_5013416a h0 v0 r0 v1 v2 v3 v4 h1 h2 r1 h3 h4 h5 h6 v5 v6 h7 h8 r2 r3 v7 h9 r4 v8 v9 h10 r5 v10 v11 r6 v12 v13 r7 v14 w15 r8 v16 v17 r9 r10 r11 r12 r13 r14 v18 r15 r16 r17 v19 h10 g9 f29)) hP hD [0, 10] [1, 2, 3, 4, 5, 6, 7, 8, 9] rfl rfl (by decide) (by decide) hk1 hFc hP1 hD1
        clear hP hD hPc hDc hKc hFc hP1 hK1 hD1 hk1 hz1
        generalize H1 = H at hP2 hS ⊢
        have hP := hP2.sub (ws' := (wd_4e9dad6c h0 v0 r0 v1 v2 v3 v4 h1 h2 r1 h3 h4 h5 h6 v5 v6 h7 h8 r2 r3 v7 h9 r4 v8 v9 h10 r5 v10 v11 r6 v12 v13 r7 v14 w15 r8 v16 v17 r9 r10 r11 r12 r13 r14 v18 r15 r16 r17 v19 h1 g0 f20 h2 g1 f21 h3 g2 f22 h4 g3 f23 h5 g4 f24 h6 g5 f25 h7 g6 f26 h8 g7 f27 h9 g8 f28 h10 g9 f29)) [9, 0, 1, 2, 3, 4, 5, 6, 7, 8, 10] rfl
        have hD := hD2.sub (ws' := (wd_4e9dad6c h0 v0 r0 v1 v2 v3 v4 h1 h2 r1 h3 h4 h5 h6 v5 v6 h7 h8 r2 r3 v7 h9 r4 v8 v9 h10 r5 v10 v11 r6 v12 v13 r7 v14 w15 r8 v16 v17 r9 r10 r11 r12 r13 r14 v18 r15 r16 r17 v19 h1 g0 f20 h2 g1 f21 h3 g2 f22 h4 g3 f23 h5 g4 f24 h6 g5 f25 h7 g6 f26 h8 g7 f27 h9 g8 f28 h10 g9 f29)) [9, 0, 1, 2, 3, 4, 5, 6, 7, 8, 10] (by decide +kernel) rfl
        clear hP2 hD2
        subst hQ
        have hP9 := hP.sub (ws' := (wd_4e9dad6c h0 v0 r0 v1 v2 v3 v4 h1 h2 r1 h3 h4 h5 h6 v5 v6 h7 h8 r2 r3 v7 h9 r4 v8 v9 h10 r5 v10 v11 r6 v12 v13 r7 v14 w15 r8 v16 v17 r9 r10 r11 r12 r13 r14 v18 r15 r16 r17 v19 h1 g0 f20 h2 g1 f21 h3 g2 f22 h4 g3 f23 h5 g4 f24 h6 g5 f25 h7 g6 f26 h8 g7 f27 h9 g8 f28 h10 g9 f29)) [0, 1, 2, 3, 4, 5, 6, 7, 8, 9, 10] rfl
        have hD9 := hD.sub (ws' := (wd_4e9dad6c h0 v0 r0 v1 v2 v3 v4 h1 h2 r1 h3 h4 h5 h6 v5 v6 h7 h8 r2 r3 v7 h9 r4 v8 v9 h10 r5 v10 v11 r6 v12 v13 r7 v14 w15 r8 v16 v17 r9 r10 r11 r12 r13 r14 v18 r15 r16 r17 v19 h1 g0 f20 h2 g1 f21 h3 g2 f22 h4 g3 f23 h5 g4 f24 h6 g5 f25 h7 g6 f26 h8 g7 f27 h9 g8 f28 h10 g9 f29)) [0, 1, 2, 3, 4, 5, 6, 7, 8, 9, 10] (by decide +kernel) rfl
        have hK9 := hK.sub (tys' := []) [] rfl
        exact W.iret (v := ra9) hx hb hr (fun t ht hW => ⟨⟨ra9, ra9, rfl, rfl, ⟨f26, f27, by rw [ht]; exact hP9, va_K.moved hW.alike hK9, hD9⟩⟩, hS.F ht⟩) hS.2.2 dX12_most_89
      by_cases c10 : v30 = 7
      · skip
        have fc10 : v30.toInt = 7 := congrArg Int32.toInt c10
        refine lv_tableIn (off := 70) (tgt := 90) hx hb dX12_most_20 (by rw [c10]; decide) (by rw [c10]; decide) (by rw [c10]; rfl) (by decide) ?_
        refine lv_aload_n hx hb dX12_most_90 rfl (lv_at hl 0 rfl) ?_
        refine lv_bipush (v := 6) hx hb dX12_most_91 (by decide) ?_
        refine lv_iconst (v := 1) hx hb dX12_most_93 (by decide) ?_
        have hPc := hP.sub (ws' := (wd_5013416a h0 v0 r0 v1 v2 v3 v4 h1 h2 r1 h3 h4 h5 h6 v5 v6 h7 h8 r2 r3 v7 h9 r4 v8 v9 h10 r5 v10 v11 r6 v12 v13 r7 v14 w15 r8 v16 v17 r9 r10 r11 r12 r13 r14 v18 r15 r16 r17 v19 h10 g9 f29)) [0, 10] rfl
        have hDc := hD.sub (ws' := (wd_5013416a h0 v0 r0 v1 v2 v3 v4 h1 h2 r1 h3 h4 h5 h6 v5 v6 h7 h8 r2 r3 v7 h9 r4 v8 v9 h10 r5 v10 v11 r6 v12 v13 r7 v14 w15 r8 v16 v17 r9 r10 r11 r12 r13 r14 v18 r15 r16 r17 v19 h10 g9 f29)) [0, 10] (by decide) rfl
        have hKc := hK.sub (tys' := [(g9, .int)]) [9] rfl
        have hFc := va_free (wc := (wd_5013416a h0 v0 r0 v1 v2 v3 v4 h1 h2 r1 h3 h4 h5 h6 v5 v6 h7 h8 r2 r3 v7 h9 r4 v8 v9 h10 r5 v10 v11 r6 v12 v13 r7 v14 w15 r8 v16 v17 r9 r10 r11 r12 r13 r14 v18 r15 r16 r17 v19 h10 g9 f29)) hD hS hA [0, 10] rfl
        refine va_calli (va_runV (As := [.int 6, .int 1]) (rest := []) ⟨hx, hb, hml, hown, hts⟩ (k_X12_onesBy_1 l dC dI h0 h10 v0 r0 v1 v2 v3 v4 h1 h2 r1 h3 h4 h5 h6 v5 v6 h7 h8 r2 r3 v7 h9 r4 v8 v9 r5 v10 v11 r6 v12 v13 r7 v14 w15 r8 v16 v17 r9 r10 r11 r12 r13 r14 v18 r15 r16 r17 v19 g9 f29 ⟨i_v1a, i_v1b⟩ ⟨i_v5a, i_v5b⟩ ⟨i_v6a, i_v6b⟩ ⟨i_v7a, i_v7b⟩ ⟨i_v8a, i_v8b⟩ ⟨i_v9a, i_v9b⟩ ⟨i_v10a, i_v10b⟩ ⟨i_v14a, i_v14b⟩ ⟨i_v18a, i_v18b⟩ ⟨i_v19a, i_v19b⟩ ia_f29 H.size) (cwV 2 hts g_X12_most_4 rfl rfl rfl (by decide +kernel) ⟨Nat.le_of_ble_eq_true rfl, Nat.le_of_ble_eq_true rfl⟩) (pv_PV12 hPc hKc hDc (q0 := 0) rfl) rfl rfl hl.1 rfl (lv_room (Nat.le_of_ble_eq_true rfl)) dX12_most_94 ⟨Nat.le_of_ble_eq_true rfl, Nat.le_of_ble_eq_true rfl⟩) hS (fun q _ h => hFc q h) hFc (fun ra11 u t H1 locs ht hvm hwra11 hB hz1 hk1 hS => ?_)
        try rw [hwra11] at hB
        obtain ⟨hP1, hK1, hD1⟩ := hB
        rw [ht] at hP1
        obtain ⟨hP2, hD2⟩ := va_join (wr := (wd_9a99d2a4 h1 g0 f20 h2 g1 f21 h3 g2 f22 h4 g3 f23 h5 g4 f24 h6 g5 f25 h7 g6 f26 h8 g7 f27 h9 g8 f28)) (w1 := (wd_5013416a h0 v0 r0 v1 v2 v3 v4 h1 h2 r1 h3 h4 h5 h6 v5 v6 h7 h8 r2 r3 v7 h9 r4 v8 v9 h10 r5 v10 v11 r6 v12 v13 r7 v14 w15 r8 v16 v17 r9 r10 r11 r12 r13 r14 v18 r15 r16 r17 v19 h10 g9 f29)) hP hD [0, 10] [1, 2, 3, 4, 5, 6, 7, 8, 9] rfl rfl (by decide) (by decide) hk1 hFc hP1 hD1
        clear hP hD hPc hDc hKc hFc hP1 hK1 hD1 hk1 hz1
        generalize H1 = H at hP2 hS ⊢
        have hP := hP2.sub (ws' := (wd_4e9dad6c h0 v0 r0 v1 v2 v3 v4 h1 h2 r1 h3 h4 h5 h6 v5 v6 h7 h8 r2 r3 v7 h9 r4 v8 v9 h10 r5 v10 v11 r6 v12 v13 r7 v14 w15 r8 v16 v17 r9 r10 r11 r12 r13 r14 v18 r15 r16 r17 v19 h1 g0 f20 h2 g1 f21 h3 g2 f22 h4 g3 f23 h5 g4 f24 h6 g5 f25 h7 g6 f26 h8 g7 f27 h9 g8 f28 h10 g9 f29)) [9, 0, 1, 2, 3, 4, 5, 6, 7, 8, 10] rfl
        have hD := hD2.sub (ws' := (wd_4e9dad6c h0 v0 r0 v1 v2 v3 v4 h1 h2 r1 h3 h4 h5 h6 v5 v6 h7 h8 r2 r3 v7 h9 r4 v8 v9 h10 r5 v10 v11 r6 v12 v13 r7 v14 w15 r8 v16 v17 r9 r10 r11 r12 r13 r14 v18 r15 r16 r17 v19 h1 g0 f20 h2 g1 f21 h3 g2 f22 h4 g3 f23 h5 g4 f24 h6 g5 f25 h7 g6 f26 h8 g7 f27 h9 g8 f28 h10 g9 f29)) [9, 0, 1, 2, 3, 4, 5, 6, 7, 8, 10] (by decide +kernel) rfl
        clear hP2 hD2
        subst hQ
        have hP9 := hP.sub (ws' := (wd_4e9dad6c h0 v0 r0 v1 v2 v3 v4 h1 h2 r1 h3 h4 h5 h6 v5 v6 h7 h8 r2 r3 v7 h9 r4 v8 v9 h10 r5 v10 v11 r6 v12 v13 r7 v14 w15 r8 v16 v17 r9 r10 r11 r12 r13 r14 v18 r15 r16 r17 v19 h1 g0 f20 h2 g1 f21 h3 g2 f22 h4 g3 f23 h5 g4 f24 h6 g5 f25 h7 g6 f26 h8 g7 f27 h9 g8 f28 h10 g9 f29)) [0, 1, 2, 3, 4, 5, 6, 7, 8, 9, 10] rfl
        have hD9 := hD.sub (ws' := (wd_4e9dad6c h0 v0 r0 v1 v2 v3 v4 h1 h2 r1 h3 h4 h5 h6 v5 v6 h7 h8 r2 r3 v7 h9 r4 v8 v9 h10 r5 v10 v11 r6 v12 v13 r7 v14 w15 r8 v16 v17 r9 r10 r11 r12 r13 r14 v18 r15 r16 r17 v19 h1 g0 f20 h2 g1 f21 h3 g2 f22 h4 g3 f23 h5 g4 f24 h6 g5 f25 h7 g6 f26 h8 g7 f27 h9 g8 f28 h10 g9 f29)) [0, 1, 2, 3, 4, 5, 6, 7, 8, 9, 10] (by decide +kernel) rfl
        have hK9 := hK.sub (tys' := []) [] rfl
        exact W.iret (v := ra11) hx hb hr (fun t ht hW => ⟨⟨ra11, ra11, rfl, rfl, ⟨f26, f27, by rw [ht]; exact hP9, va_K.moved hW.alike hK9, hD9⟩⟩, hS.F ht⟩) hS.2.2 dX12_most_97
      by_cases c12 : v30 = 8
      · skip
        have fc12 : v30.toInt = 8 := congrArg Int32.toInt c12
        refine lv_tableIn (off := 78) (tgt := 98) hx hb dX12_most_20 (by rw [c12]; decide) (by rw [c12]; decide) (by rw [c12]; rfl) (by decide) ?_
        refine lv_aload_n hx hb dX12_most_98 rfl (lv_at hl 0 rfl) ?_
        have hPc := hP.sub (ws' := (wd_5013416a h0 v0 r0 v1 v2 v3 v4 h1 h2 r1 h3 h4 h5 h6 v5 v6 h7 h8 r2 r3 v7 h9 r4 v8 v9 h10 r5 v10 v11 r6 v12 v13 r7 v14 w15 r8 v16 v17 r9 r10 r11 r12 r13 r14 v18 r15 r16 r17 v19 h10 g9 f29)) [0, 10] rfl
        have hDc := hD.sub (ws' := (wd_5013416a h0 v0 r0 v1 v2 v3 v4 h1 h2 r1 h3 h4 h5 h6 v5 v6 h7 h8 r2 r3 v7 h9 r4 v8 v9 h10 r5 v10 v11 r6 v12 v13 r7 v14 w15 r8 v16 v17 r9 r10 r11 r12 r13 r14 v18 r15 r16 r17 v19 h10 g9 f29)) [0, 10] (by decide) rfl
        have hKc := hK.sub (tys' := [(g9, .int)]) [9] rfl
        have hFc := va_free (wc := (wd_5013416a h0 v0 r0 v1 v2 v3 v4 h1 h2 r1 h3 h4 h5 h6 v5 v6 h7 h8 r2 r3 v7 h9 r4 v8 v9 h10 r5 v10 v11 r6 v12 v13 r7 v14 w15 r8 v16 v17 r9 r10 r11 r12 r13 r14 v18 r15 r16 r17 v19 h10 g9 f29)) hD hS hA [0, 10] rfl
        refine va_calli (va_runV (As := []) (rest := []) ⟨hx, hb, hml, hown, hts⟩ (k_X12_sizeAll l dC dI h0 h10 v0 r0 v1 v2 v3 v4 h1 h2 r1 h3 h4 h5 h6 v5 v6 h7 h8 r2 r3 v7 h9 r4 v8 v9 r5 v10 v11 r6 v12 v13 r7 v14 w15 r8 v16 v17 r9 r10 r11 r12 r13 r14 v18 r15 r16 r17 v19 g9 f29 ⟨i_v1a, i_v1b⟩ ⟨i_v5a, i_v5b⟩ ⟨i_v6a, i_v6b⟩ ⟨i_v7a, i_v7b⟩ ⟨i_v8a, i_v8b⟩ ⟨i_v9a, i_v9b⟩ ⟨i_v10a, i_v10b⟩ ⟨i_v14a, i_v14b⟩ ⟨i_v18a, i_v18b⟩ ⟨i_v19a, i_v19b⟩ ia_f29 H.size) (cwV 0 hts g_X12_most_5 rfl rfl rfl (by decide +kernel) ⟨Nat.le_of_ble_eq_true rfl, Nat.le_of_ble_eq_true rfl⟩) (pv_PV12 hPc hKc hDc (q0 := 0) rfl) rfl rfl hl.1 rfl (lv_room (Nat.le_of_ble_eq_true rfl)) dX12_most_99 ⟨Nat.le_of_ble_eq_true rfl, Nat.le_of_ble_eq_true rfl⟩) hS (fun q _ h => hFc q h) hFc (fun ra13 u t H1 locs ht hvm hwra13 hB hz1 hk1 hS => ?_)
        try rw [hwra13] at hB
        obtain ⟨pt0_ra13, pt1_ra13, pt2_ra13, hP1, hK1, hD1⟩ := hB
        rw [ht] at hP1
        obtain ⟨hP2, hD2⟩ := va_join (wr := (wd_9a99d2a4 h1 g0 f20 h2 g1 f21 h3 g2 f22 h4 g3 f23 h5 g4 f24 h6 g5 f25 h7 g6 f26 h8 g7 f27 h9 g8 f28)) (w1 := (wd_5013416a h0 v0 r0 v1 v2 v3 v4 h1 h2 r1 h3 h4 h5 h6 v5 v6 h7 h8 r2 r3 v7 h9 r4 v8 v9 h10 r5 v10 v11 r6 v12 v13 r7 v14 w15 r8 v16 v17 r9 r10 r11 r12 r13 r14 v18 r15 r16 r17 v19 h10 g9 f29)) hP hD [0, 10] [1, 2, 3, 4, 5, 6, 7, 8, 9] rfl rfl (by decide) (by decide) hk1 hFc hP1 hD1
        clear hP hD hPc hDc hKc hFc hP1 hK1 hD1 hk1 hz1
        generalize H1 = H at hP2 hS ⊢
        have hP := hP2.sub (ws' := (wd_4e9dad6c h0 v0 r0 v1 v2 v3 v4 h1 h2 r1 h3 h4 h5 h6 v5 v6 h7 h8 r2 r3 v7 h9 r4 v8 v9 h10 r5 v10 v11 r6 v12 v13 r7 v14 w15 r8 v16 v17 r9 r10 r11 r12 r13 r14 v18 r15 r16 r17 v19 h1 g0 f20 h2 g1 f21 h3 g2 f22 h4 g3 f23 h5 g4 f24 h6 g5 f25 h7 g6 f26 h8 g7 f27 h9 g8 f28 h10 g9 f29)) [9, 0, 1, 2, 3, 4, 5, 6, 7, 8, 10] rfl
        have hD := hD2.sub (ws' := (wd_4e9dad6c h0 v0 r0 v1 v2 v3 v4 h1 h2 r1 h3 h4 h5 h6 v5 v6 h7 h8 r2 r3 v7 h9 r4 v8 v9 h10 r5 v10 v11 r6 v12 v13 r7 v14 w15 r8 v16 v17 r9 r10 r11 r12 r13 r14 v18 r15 r16 r17 v19 h1 g0 f20 h2 g1 f21 h3 g2 f22 h4 g3 f23 h5 g4 f24 h6 g5 f25 h7 g6 f26 h8 g7 f27 h9 g8 f28 h10 g9 f29)) [9, 0, 1, 2, 3, 4, 5, 6, 7, 8, 10] (by decide +kernel) rfl
        clear hP2 hD2
        subst hQ
        have hP9 := hP.sub (ws' := (wd_4e9dad6c h0 v0 r0 v1 v2 v3 v4 h1 h2 r1 h3 h4 h5 h6 v5 v6 h7 h8 r2 r3 v7 h9 r4 v8 v9 h10 r5 v10 v11 r6 v12 v13 r7 v14 w15 r8 v16 v17 r9 r10 r11 r12 r13 r14 v18 r15 r16 r17 v19 h1 g0 f20 h2 g1 f21 h3 g2 f22 h4 g3 f23 h5 g4 f24 h6 g5 f25 h7 g6 f26 h8 g7 f27 h9 g8 f28 h10 g9 f29)) [0, 1, 2, 3, 4, 5, 6, 7, 8, 9, 10] rfl
        have hD9 := hD.sub (ws' := (wd_4e9dad6c h0 v0 r0 v1 v2 v3 v4 h1 h2 r1 h3 h4 h5 h6 v5 v6 h7 h8 r2 r3 v7 h9 r4 v8 v9 h10 r5 v10 v11 r6 v12 v13 r7 v14 w15 r8 v16 v17 r9 r10 r11 r12 r13 r14 v18 r15 r16 r17 v19 h1 g0 f20 h2 g1 f21 h3 g2 f22 h4 g3 f23 h5 g4 f24 h6 g5 f25 h7 g6 f26 h8 g7 f27 h9 g8 f28 h10 g9 f29)) [0, 1, 2, 3, 4, 5, 6, 7, 8, 9, 10] (by decide +kernel) rfl
        have hK9 := hK.sub (tys' := []) [] rfl
        exact W.iret (v := ra13) hx hb hr (fun t ht hW => ⟨⟨ra13, ra13, rfl, rfl, ⟨f26, f27, by rw [ht]; exact hP9, va_K.moved hW.alike hK9, hD9⟩⟩, hS.F ht⟩) hS.2.2 dX12_most_102
      by_cases c14 : v30 = 9
      · skip
        have fc14 : v30.toInt = 9 := congrArg Int32.toInt c14
        refine lv_tableIn (off := 83) (tgt := 103) hx hb dX12_most_20 (by rw [c14]; decide) (by rw [c14]; decide) (by rw [c14]; rfl) (by decide) ?_
        refine lv_aload_n hx hb dX12_most_103 rfl (lv_at hl 0 rfl) ?_
        have hPc := hP.sub (ws' := (wd_78675856 h0 v0 r0 v1 v2 v3 v4 h1 h2 r1 h3 h4 h5 h6 v5 v6 h7 h8 r2 r3 v7 h9 r4 v8 v9 h10 r5 v10 v11 r6 v12 v13 r7 v14 w15 r8 v16 v17 r9 r10 r11 r12 r13 r14 v18 r15 r16 r17 v19 h9 g8 f28 h10 g9 f29)) [0, 9, 10] rfl
        have hDc := hD.sub (ws' := (wd_78675856 h0 v0 r0 v1 v2 v3 v4 h1 h2 r1 h3 h4 h5 h6 v5 v6 h7 h8 r2 r3 v7 h9 r4 v8 v9 h10 r5 v10 v11 r6 v12 v13 r7 v14 w15 r8 v16 v17 r9 r10 r11 r12 r13 r14 v18 r15 r16 r17 v19 h9 g8 f28 h10 g9 f29)) [0, 9, 10] (by decide) rfl
        have hKc := hK.sub (tys' := [(g8, .int), (g9, .int)]) [8, 9] rfl
        have hFc := va_free (wc := (wd_78675856 h0 v0 r0 v1 v2 v3 v4 h1 h2 r1 h3 h4 h5 h6 v5 v6 h7 h8 r2 r3 v7 h9 r4 v8 v9 h10 r5 v10 v11 r6 v12 v13 r7 v14 w15 r8 v16 v17 r9 r10 r11 r12 r13 r14 v18 r15 r16 r17 v19 h9 g8 f28 h10 g9 f29)) hD hS hA [0, 9, 10] rfl
        refine va_calli (va_runV (As := []) (rest := []) ⟨hx, hb, hml, hown, hts⟩ (k_X12_roomLeft l dC dI h0 h9 h10 v0 r0 v1 v2 v3 v4 h1 h2 r1 h3 h4 h5 h6 v5 v6 h7 h8 r2 r3 v7 r4 v8 v9 r5 v10 v11 r6 v12 v13 r7 v14 w15 r8 v16 v17 r9 r10 r11 r12 r13 r14 v18 r15 r16 r17 v19 g8 f28 g9 f29 ⟨i_v1a, i_v1b⟩ ⟨i_v5a, i_v5b⟩ ⟨i_v6a, i_v6b⟩ ⟨i_v7a, i_v7b⟩ ⟨i_v8a, i_v8b⟩ ⟨i_v9a, i_v9b⟩ ⟨i_v10a, i_v10b⟩ ⟨i_v14a, i_v14b⟩ ⟨i_v18a, i_v18b⟩ ⟨i_v19a, i_v19b⟩ ia_f28 ia_f29 H.size) (cwV 0 hts g_X12_most_6 rfl rfl rfl (by decide +kernel) ⟨Nat.le_of_ble_eq_true rfl, Nat.le_of_ble_eq_true rfl⟩) (pv_PV12 hPc hKc hDc (q0 := 0) rfl) rfl rfl hl.1 rfl (lv_room (Nat.le_of_ble_eq_true rfl)) dX12_most_104 ⟨Nat.le_of_ble_eq_true rfl, Nat.le_of_ble_eq_true rfl⟩) hS (fun q _ h => hFc q h) hFc (fun ra15 u t H1 locs ht hvm hwra15 hB hz1 hk1 hS => ?_)
        try rw [hwra15] at hB
        obtain ⟨hP1, hK1, hD1⟩ := hB
        rw [ht] at hP1
        obtain ⟨hP2, hD2⟩ := va_join (wr := (wd_a0bd977d h1 g0 f20 h2 g1 f21 h3 g2 f22 h4 g3 f23 h5 g4 f24 h6 g5 f25 h7 g6 f26 h8 g7 f27)) (w1 := (wd_78675856 h0 v0 r0 v1 v2 v3 v4 h1 h2 r1 h3 h4 h5 h6 v5 v6 h7 h8 r2 r3 v7 h9 r4 v8 v9 h10 r5 v10 v11 r6 v12 v13 r7 v14 w15 r8 v16 v17 r9 r10 r11 r12 r13 r14 v18 r15 r16 r17 v19 h9 g8 f28 h10 g9 f29)) hP hD [0, 9, 10] [1, 2, 3, 4, 5, 6, 7, 8] rfl rfl (by decide) (by decide) hk1 hFc hP1 hD1
        clear hP hD hPc hDc hKc hFc hP1 hK1 hD1 hk1 hz1
        generalize H1 = H at hP2 hS ⊢
        have hP := hP2.sub (ws' := (wd_4e9dad6c h0 v0 r0 v1 v2 v3 v4 h1 h2 r1 h3 h4 h5 h6 v5 v6 h7 h8 r2 r3 v7 h9 r4 v8 v9 h10 r5 v10 v11 r6 v12 v13 r7 v14 w15 r8 v16 v17 r9 r10 r11 r12 r13 r14 v18 r15 r16 r17 v19 h1 g0 f20 h2 g1 f21 h3 g2 f22 h4 g3 f23 h5 g4 f24 h6 g5 f25 h7 g6 f26 h8 g7 f27 h9 g8 f28 h10 g9 f29)) [8, 0, 1, 2, 3, 4, 5, 6, 7, 9, 10] rfl
        have hD := hD2.sub (ws' := (wd_4e9dad6c h0 v0 r0 v1 v2 v3 v4 h1 h2 r1 h3 h4 h5 h6 v5 v6 h7 h8 r2 r3 v7 h9 r4 v8 v9 h10 r5 v10 v11 r6 v12 v13 r7 v14 w15 r8 v16 v17 r9 r10 r11 r12 r13 r14 v18 r15 r16 r17 v19 h1 g0 f20 h2 g1 f21 h3 g2 f22 h4 g3 f23 h5 g4 f24 h6 g5 f25 h7 g6 f26 h8 g7 f27 h9 g8 f28 h10 g9 f29)) [8, 0, 1, 2, 3, 4, 5, 6, 7, 9, 10] (by decide +kernel) rfl
        clear hP2 hD2
        subst hQ
        have hP9 := hP.sub (ws' := (wd_4e9dad6c h0 v0 r0 v1 v2 v3 v4 h1 h2 r1 h3 h4 h5 h6 v5 v6 h7 h8 r2 r3 v7 h9 r4 v8 v9 h10 r5 v10 v11 r6 v12 v13 r7 v14 w15 r8 v16 v17 r9 r10 r11 r12 r13 r14 v18 r15 r16 r17 v19 h1 g0 f20 h2 g1 f21 h3 g2 f22 h4 g3 f23 h5 g4 f24 h6 g5 f25 h7 g6 f26 h8 g7 f27 h9 g8 f28 h10 g9 f29)) [0, 1, 2, 3, 4, 5, 6, 7, 8, 9, 10] rfl
        have hD9 := hD.sub (ws' := (wd_4e9dad6c h0 v0 r0 v1 v2 v3 v4 h1 h2 r1 h3 h4 h5 h6 v5 v6 h7 h8 r2 r3 v7 h9 r4 v8 v9 h10 r5 v10 v11 r6 v12 v13 r7 v14 w15 r8 v16 v17 r9 r10 r11 r12 r13 r14 v18 r15 r16 r17 v19 h1 g0 f20 h2 g1 f21 h3 g2 f22 h4 g3 f23 h5 g4 f24 h6 g5 f25 h7 g6 f26 h8 g7 f27 h9 g8 f28 h10 g9 f29)) [0, 1, 2, 3, 4, 5, 6, 7, 8, 9, 10] (by decide +kernel) rfl
        have hK9 := hK.sub (tys' := []) [] rfl
        exact W.iret (v := ra15) hx hb hr (fun t ht hW => ⟨⟨ra15, ra15, rfl, rfl, ⟨f26, f27, by rw [ht]; exact hP9, va_K.moved hW.alike hK9, hD9⟩⟩, hS.F ht⟩) hS.2.2 dX12_most_107
      by_cases c16 : v30 = 10
      · skip
        have fc16 : v30.toInt = 10 := congrArg Int32.toInt c16
        refine lv_tableIn (off := 88) (tgt := 108) hx hb dX12_most_20 (by rw [c16]; decide) (by rw [c16]; decide) (by rw [c16]; rfl) (by decide) ?_
        refine lv_aload_n hx hb dX12_most_108 rfl (lv_at hl 0 rfl) ?_
        have hPc := hP.sub (ws' := (wd_78675856 h0 v0 r0 v1 v2 v3 v4 h1 h2 r1 h3 h4 h5 h6 v5 v6 h7 h8 r2 r3 v7 h9 r4 v8 v9 h10 r5 v10 v11 r6 v12 v13 r7 v14 w15 r8 v16 v17 r9 r10 r11 r12 r13 r14 v18 r15 r16 r17 v19 h9 g8 f28 h10 g9 f29)) [0, 9, 10] rfl
        have hDc := hD.sub (ws' := (wd_78675856 h0 v0 r0 v1 v2 v3 v4 h1 h2 r1 h3 h4 h5 h6 v5 v6 h7 h8 r2 r3 v7 h9 r4 v8 v9 h10 r5 v10 v11 r6 v12 v13 r7 v14 w15 r8 v16 v17 r9 r10 r11 r12 r13 r14 v18 r15 r16 r17 v19 h9 g8 f28 h10 g9 f29)) [0, 9, 10] (by decide) rfl
        have hKc := hK.sub (tys' := [(g8, .int), (g9, .int)]) [8, 9] rfl
        have hFc := va_free (wc := (wd_78675856 h0 v0 r0 v1 v2 v3 v4 h1 h2 r1 h3 h4 h5 h6 v5 v6 h7 h8 r2 r3 v7 h9 r4 v8 v9 h10 r5 v10 v11 r6 v12 v13 r7 v14 w15 r8 v16 v17 r9 r10 r11 r12 r13 r14 v18 r15 r16 r17 v19 h9 g8 f28 h10 g9 f29)) hD hS hA [0, 9, 10] rfl
        refine va_calli (va_runV (As := []) (rest := []) ⟨hx, hb, hml, hown, hts⟩ (k_X12_due l dC dI h0 h9 h10 v0 r0 v1 v2 v3 v4 h1 h2 r1 h3 h4 h5 h6 v5 v6 h7 h8 r2 r3 v7 r4 v8 v9 r5 v10 v11 r6 v12 v13 r7 v14 w15 r8 v16 v17 r9 r10 r11 r12 r13 r14 v18 r15 r16 r17 v19 g8 f28 g9 f29 ⟨i_v1a, i_v1b⟩ ⟨i_v5a, i_v5b⟩ ⟨i_v6a, i_v6b⟩ ⟨i_v7a, i_v7b⟩ ⟨i_v8a, i_v8b⟩ ⟨i_v9a, i_v9b⟩ ⟨i_v10a, i_v10b⟩ ⟨i_v14a, i_v14b⟩ ⟨i_v18a, i_v18b⟩ ⟨i_v19a, i_v19b⟩ ia_f28 ia_f29 H.size) (cwV 0 hts g_X12_most_7 rfl rfl rfl (by decide +kernel) ⟨Nat.le_of_ble_eq_true rfl, Nat.le_of_ble_eq_true rfl⟩) (pv_PV12 hPc hKc hDc (q0 := 0) rfl) rfl rfl hl.1 rfl (lv_room (Nat.le_of_ble_eq_true rfl)) dX12_most_109 ⟨Nat.le_of_ble_eq_true rfl, Nat.le_of_ble_eq_true rfl⟩) hS (fun q _ h => hFc q h) hFc (fun ra17 u t H1 locs ht hvm hwra17 hB hz1 hk1 hS => ?_)
        try rw [hwra17] at hB
        obtain ⟨hP1, hK1, hD1⟩ := hB
        rw [ht] at hP1
        obtain ⟨hP2, hD2⟩ := va_join (wr := (wd_a0bd977d h1 g0 f20 h2 g1 f21 h3 g2 f22 h4 g3 f23 h5 g4 f24 h6 g5 f25 h7 g6 f26 h8 g7 f27)) (w1 := (wd_78675856 h0 v0 r0 v1 v2 v3 v4 h1 h2 r1 h3 h4 h5 h6 v5 v6 h7 h8 r2 r3 v7 h9 r4 v8 v9 h10 r5 v10 v11 r6 v12 v13 r7 v14 w15 r8 v16 v17 r9 r10 r11 r12 r13 r14 v18 r15 r16 r17 v19 h9 g8 f28 h10 g9 f29)) hP hD [0, 9, 10] [1, 2, 3, 4, 5, 6, 7, 8] rfl rfl (by decide) (by decide) hk1 hFc hP1 hD1
        clear hP hD hPc hDc hKc hFc hP1 hK1 hD1 hk1 hz1
        generalize H1 = H at hP2 hS ⊢
        have hP := hP2.sub (ws' := (wd_4e9dad6c h0 v0 r0 v1 v2 v3 v4 h1 h2 r1 h3 h4 h5 h6 v5 v6 h7 h8 r2 r3 v7 h9 r4 v8 v9 h10 r5 v10 v11 r6 v12 v13 r7 v14 w15 r8 v16 v17 r9 r10 r11 r12 r13 r14 v18 r15 r16 r17 v19 h1 g0 f20 h2 g1 f21 h3 g2 f22 h4 g3 f23 h5 g4 f24 h6 g5 f25 h7 g6 f26 h8 g7 f27 h9 g8 f28 h10 g9 f29)) [8, 0, 1, 2, 3, 4, 5, 6, 7, 9, 10] rfl
        have hD := hD2.sub (ws' := (wd_4e9dad6c h0 v0 r0 v1 v2 v3 v4 h1 h2 r1 h3 h4 h5 h6 v5 v6 h7 h8 r2 r3 v7 h9 r4 v8 v9 h10 r5 v10 v11 r6 v12 v13 r7 v14 w15 r8 v16 v17 r9 r10 r11 r12 r13 r14 v18 r15 r16 r17 v19 h1 g0 f20 h2 g1 f21 h3 g2 f22 h4 g3 f23 h5 g4 f24 h6 g5 f25 h7 g6 f26 h8 g7 f27 h9 g8 f28 h10 g9 f29)) [8, 0, 1, 2, 3, 4, 5, 6, 7, 9, 10] (by decide +kernel) rfl
        clear hP2 hD2
        subst hQ
        have hP9 := hP.sub (ws' := (wd_4e9dad6c h0 v0 r0 v1 v2 v3 v4 h1 h2 r1 h3 h4 h5 h6 v5 v6 h7 h8 r2 r3 v7 h9 r4 v8 v9 h10 r5 v10 v11 r6 v12 v13 r7 v14 w15 r8 v16 v17 r9 r10 r11 r12 r13 r14 v18 r15 r16 r17 v19 h1 g0 f20 h2 g1 f21 h3 g2 f22 h4 g3 f23 h5 g4 f24 h6 g5 f25 h7 g6 f26 h8 g7 f27 h9 g8 f28 h10 g9 f29)) [0, 1, 2, 3, 4, 5, 6, 7, 8, 9, 10] rfl
        have hD9 := hD.sub (ws' := (wd_4e9dad6c h0 v0 r0 v1 v2 v3 v4 h1 h2 r1 h3 h4 h5 h6 v5 v6 h7 h8 r2 r3 v7 h9 r4 v8 v9 h10 r5 v10 v11 r6 v12 v13 r7 v14 w15 r8 v16 v17 r9 r10 r11 r12 r13 r14 v18 r15 r16 r17 v19 h1 g0 f20 h2 g1 f21 h3 g2 f22 h4 g3 f23 h5 g4 f24 h6 g5 f25 h7 g6 f26 h8 g7 f27 h9 g8 f28 h10 g9 f29)) [0, 1, 2, 3, 4, 5, 6, 7, 8, 9, 10] (by decide +kernel) rfl
        have hK9 := hK.sub (tys' := []) [] rfl
        exact W.iret (v := ra17) hx hb hr (fun t ht hW => ⟨⟨ra17, ra17, rfl, rfl, ⟨f26, f27, by rw [ht]; exact hP9, va_K.moved hW.alike hK9, hD9⟩⟩, hS.F ht⟩) hS.2.2 dX12_most_112
      by_cases c18 : v30 = 11
      · skip
        have fc18 : v30.toInt = 11 := congrArg Int32.toInt c18
        refine lv_tableIn (off := 93) (tgt := 113) hx hb dX12_most_20 (by rw [c18]; decide) (by rw [c18]; decide) (by rw [c18]; rfl) (by decide) ?_
        refine lv_aload_n hx hb dX12_most_113 rfl (lv_at hl 0 rfl) ?_
        have hPc := hP.sub (ws' := (wd_5013416a h0 v0 r0 v1 v2 v3 v4 h1 h2 r1 h3 h4 h5 h6 v5 v6 h7 h8 r2 r3 v7 h9 r4 v8 v9 h10 r5 v10 v11 r6 v12 v13 r7 v14 w15 r8 v16 v17 r9 r10 r11 r12 r13 r14 v18 r15 r16 r17 v19 h10 g9 f29)) [0, 10] rfl
        have hDc := hD.sub (ws' := (wd_5013416a h0 v0 r0 v1 v2 v3 v4 h1 h2 r1 h3 h4 h5 h6 v5 v6 h7 h8 r2 r3 v7 h9 r4 v8 v9 h10 r5 v10 v11 r6 v12 v13 r7 v14 w15 r8 v16 v17 r9 r10 r11 r12 r13 r14 v18 r15 r16 r17 v19 h10 g9 f29)) [0, 10] (by decide) rfl
        have hKc := hK.sub (tys' := [(g9, .int)]) [9] rfl
        have hFc := va_free (wc := (wd_5013416a h0 v0 r0 v1 v2 v3 v4 h1 h2 r1 h3 h4 h5 h6 v5 v6 h7 h8 r2 r3 v7 h9 r4 v8 v9 h10 r5 v10 v11 r6 v12 v13 r7 v14 w15 r8 v16 v17 r9 r10 r11 r12 r13 r14 v18 r15 r16 r17 v19 h10 g9 f29)) hD hS hA [0, 10] rfl
        refine va_calli (va_runV (As := []) (rest := []) ⟨hx, hb, hml, hown, hts⟩ (k_X12_ripeOnes l dC dI h0 h10 v0 r0 v1 v2 v3 v4 h1 h2 r1 h3 h4 h5 h6 v5 v6 h7 h8 r2 r3 v7 h9 r4 v8 v9 r5 v10 v11 r6 v12 v13 r7 v14 w15 r8 v16 v17 r9 r10 r11 r12 r13 r14 v18 r15 r16 r17 v19 g9 f29 ⟨i_v1a, i_v1b⟩ ⟨i_v5a, i_v5b⟩ ⟨i_v6a, i_v6b⟩ ⟨i_v7a, i_v7b⟩ ⟨i_v8a, i_v8b⟩ ⟨i_v9a, i_v9b⟩ ⟨i_v10a, i_v10b⟩ ⟨i_v14a, i_v14b⟩ ⟨i_v18a, i_v18b⟩ ⟨i_v19a, i_v19b⟩ ia_f29 H.size) (cwV 0 hts g_X12_most_8 rfl rfl rfl (by decide +kernel) ⟨Nat.le_of_ble_eq_true rfl, Nat.le_of_ble_eq_true rfl⟩) (pv_PV12 hPc hKc hDc (q0 := 0) rfl) rfl rfl hl.1 rfl (lv_room (Nat.le_of_ble_eq_true rfl)) dX12_most_114 ⟨Nat.le_of_ble_eq_true rfl, Nat.le_of_ble_eq_true rfl⟩) hS (fun q _ h => hFc q h) hFc (fun ra19 u t H1 locs ht hvm hwra19 hB hz1 hk1 hS => ?_)
        try rw [hwra19] at hB
        obtain ⟨hP1, hK1, hD1⟩ := hB
        rw [ht] at hP1
        obtain ⟨hP2, hD2⟩ := va_join (wr := (wd_9a99d2a4 h1 g0 f20 h2 g1 f21 h3 g2 f22 h4 g3 f23 h5 g4 f24 h6 g5 f25 h7 g6 f26 h8 g7 f27 h9 g8 f28)) (w1 := (wd_5013416a h0 v0 r0 v1 v2 v3 v4 h1 h2 r1 h3 h4 h5 h6 v5 v6 h7 h8 r2 r3 v7 h9 r4 v8 v9 h10 r5 v10 v11 r6 v12 v13 r7 v14 w15 r8 v16 v17 r9 r10 r11 r12 r13 r14 v18 r15 r16 r17 v19 h10 g9 f29)) hP hD [0, 10] [1, 2, 3, 4, 5, 6, 7, 8, 9] rfl rfl (by decide) (by decide) hk1 hFc hP1 hD1
        clear hP hD hPc hDc hKc hFc hP1 hK1 hD1 hk1 hz1
        generalize H1 = H at hP2 hS ⊢
        have hP := hP2.sub (ws' := (wd_4e9dad6c h0 v0 r0 v1 v2 v3 v4 h1 h2 r1 h3 h4 h5 h6 v5 v6 h7 h8 r2 r3 v7 h9 r4 v8 v9 h10 r5 v10 v11 r6 v12 v13 r7 v14 w15 r8 v16 v17 r9 r10 r11 r12 r13 r14 v18 r15 r16 r17 v19 h1 g0 f20 h2 g1 f21 h3 g2 f22 h4 g3 f23 h5 g4 f24 h6 g5 f25 h7 g6 f26 h8 g7 f27 h9 g8 f28 h10 g9 f29)) [9, 0, 1, 2, 3, 4, 5, 6, 7, 8, 10] rfl
        have hD := hD2.sub (ws' := (wd_4e9dad6c h0 v0 r0 v1 v2 v3 v4 h1 h2 r1 h3 h4 h5 h6 v5 v6 h7 h8 r2 r3 v7 h9 r4 v8 v9 h10 r5 v10 v11 r6 v12 v13 r7 v14 w15 r8 v16 v17 r9 r10 r11 r12 r13 r14 v18 r15 r16 r17 v19 h1 g0 f20 h2 g1 f21 h3 g2 f22 h4 g3 f23 h5 g4 f24 h6 g5 f25 h7 g6 f26 h8 g7 f27 h9 g8 f28 h10 g9 f29)) [9, 0, 1, 2, 3, 4, 5, 6, 7, 8, 10] (by decide +kernel) rfl
        clear hP2 hD2
        subst hQ
        have hP9 := hP.sub (ws' := (wd_4e9dad6c h0 v0 r0 v1 v2 v3 v4 h1 h2 r1 h3 h4 h5 h6 v5 v6 h7 h8 r2 r3 v7 h9 r4 v8 v9 h10 r5 v10 v11 r6 v12 v13 r7 v14 w15 r8 v16 v17 r9 r10 r11 r12 r13 r14 v18 r15 r16 r17 v19 h1 g0 f20 h2 g1 f21 h3 g2 f22 h4 g3 f23 h5 g4 f24 h6 g5 f25 h7 g6 f26 h8 g7 f27 h9 g8 f28 h10 g9 f29)) [0, 1, 2, 3, 4, 5, 6, 7, 8, 9, 10] rfl
        have hD9 := hD.sub (ws' := (wd_4e9dad6c h0 v0 r0 v1 v2 v3 v4 h1 h2 r1 h3 h4 h5 h6 v5 v6 h7 h8 r2 r3 v7 h9 r4 v8 v9 h10 r5 v10 v11 r6 v12 v13 r7 v14 w15 r8 v16 v17 r9 r10 r11 r12 r13 r14 v18 r15 r16 r17 v19 h1 g0 f20 h2 g1 f21 h3 g2 f22 h4 g3 f23 h5 g4 f24 h6 g5 f25 h7 g6 f26 h8 g7 f27 h9 g8 f28 h10 g9 f29)) [0, 1, 2, 3, 4, 5, 6, 7, 8, 9, 10] (by decide +kernel) rfl
        have hK9 := hK.sub (tys' := []) [] rfl
        exact W.iret (v := ra19) hx hb hr (fun t ht hW => ⟨⟨ra19, ra19, rfl, rfl, ⟨f26, f27, by rw [ht]; exact hP9, va_K.moved hW.alike hK9, hD9⟩⟩, hS.F ht⟩) hS.2.2 dX12_most_117
      by_cases c20 : v30 = 12
      · skip
        have fc20 : v30.toInt = 12 := congrArg Int32.toInt c20
        refine lv_tableIn (off := 98) (tgt := 118) hx hb dX12_most_20 (by rw [c20]; decide) (by rw [c20]; decide) (by rw [c20]; rfl) (by decide) ?_
        refine lv_aload_n hx hb dX12_most_118 rfl (lv_at hl 0 rfl) ?_
        have hPc := hP.sub (ws' := (wd_5013416a h0 v0 r0 v1 v2 v3 v4 h1 h2 r1 h3 h4 h5 h6 v5 v6 h7 h8 r2 r3 v7 h9 r4 v8 v9 h10 r5 v10 v11 r6 v12 v13 r7 v14 w15 r8 v16 v17 r9 r10 r11 r12 r13 r14 v18 r15 r16 r17 v19 h10 g9 f29)) [0, 10] rfl
        have hDc := hD.sub (ws' := (wd_5013416a h0 v0 r0 v1 v2 v3 v4 h1 h2 r1 h3 h4 h5 h6 v5 v6 h7 h8 r2 r3 v7 h9 r4 v8 v9 h10 r5 v10 v11 r6 v12 v13 r7 v14 w15 r8 v16 v17 r9 r10 r11 r12 r13 r14 v18 r15 r16 r17 v19 h10 g9 f29)) [0, 10] (by decide) rfl
        have hKc := hK.sub (tys' := [(g9, .int)]) [9] rfl
        have hFc := va_free (wc := (wd_5013416a h0 v0 r0 v1 v2 v3 v4 h1 h2 r1 h3 h4 h5 h6 v5 v6 h7 h8 r2 r3 v7 h9 r4 v8 v9 h10 r5 v10 v11 r6 v12 v13 r7 v14 w15 r8 v16 v17 r9 r10 r11 r12 r13 r14 v18 r15 r16 r17 v19 h10 g9 f29)) hD hS hA [0, 10] rfl
        refine va_calli (va_runV (As := []) (rest := []) ⟨hx, hb, hml, hown, hts⟩ (k_X12_quarrels l dC dI h0 h10 v0 r0 v1 v2 v3 v4 h1 h2 r1 h3 h4 h5 h6 v5 v6 h7 h8 r2 r3 v7 h9 r4 v8 v9 r5 v10 v11 r6 v12 v13 r7 v14 w15 r8 v16 v17 r9 r10 r11 r12 r13 r14 v18 r15 r16 r17 v19 g9 f29 ⟨i_v1a, i_v1b⟩ ⟨i_v5a, i_v5b⟩ ⟨i_v6a, i_v6b⟩ ⟨i_v7a, i_v7b⟩ ⟨i_v8a, i_v8b⟩ ⟨i_v9a, i_v9b⟩ ⟨i_v10a, i_v10b⟩ ⟨i_v14a, i_v14b⟩ ⟨i_v18a, i_v18b⟩ ⟨i_v19a, i_v19b⟩ ia_f29 H.size) (cwV 0 hts g_X12_most_9 rfl rfl rfl (by decide +kernel) ⟨Nat.le_of_ble_eq_true rfl, Nat.le_of_ble_eq_true rfl⟩) (pv_PV12 hPc hKc hDc (q0 := 0) rfl) rfl rfl hl.1 rfl (lv_room (Nat.le_of_ble_eq_true rfl)) dX12_most_119 ⟨Nat.le_of_ble_eq_true rfl, Nat.le_of_ble_eq_true rfl⟩) hS (fun q _ h => hFc q h) hFc (fun ra21 u t H1 locs ht hvm hwra21 hB hz1 hk1 hS => ?_)
        try rw [hwra21] at hB
        obtain ⟨hP1, hK1, hD1⟩ := hB
        rw [ht] at hP1
        obtain ⟨hP2, hD2⟩ := va_join (wr := (wd_9a99d2a4 h1 g0 f20 h2 g1 f21 h3 g2 f22 h4 g3 f23 h5 g4 f24 h6 g5 f25 h7 g6 f26 h8 g7 f27 h9 g8 f28)) (w1 := (wd_5013416a h0 v0 r0 v1 v2 v3 v4 h1 h2 r1 h3 h4 h5 h6 v5 v6 h7 h8 r2 r3 v7 h9 r4 v8 v9 h10 r5 v10 v11 r6 v12 v13 r7 v14 w15 r8 v16 v17 r9 r10 r11 r12 r13 r14 v18 r15 r16 r17 v19 h10 g9 f29)) hP hD [0, 10] [1, 2, 3, 4, 5, 6, 7, 8, 9] rfl rfl (by decide) (by decide) hk1 hFc hP1 hD1
        clear hP hD hPc hDc hKc hFc hP1 hK1 hD1 hk1 hz1
        generalize H1 = H at hP2 hS ⊢
        have hP := hP2.sub (ws' := (wd_4e9dad6c h0 v0 r0 v1 v2 v3 v4 h1 h2 r1 h3 h4 h5 h6 v5 v6 h7 h8 r2 r3 v7 h9 r4 v8 v9 h10 r5 v10 v11 r6 v12 v13 r7 v14 w15 r8 v16 v17 r9 r10 r11 r12 r13 r14 v18 r15 r16 r17 v19 h1 g0 f20 h2 g1 f21 h3 g2 f22 h4 g3 f23 h5 g4 f24 h6 g5 f25 h7 g6 f26 h8 g7 f27 h9 g8 f28 h10 g9 f29)) [9, 0, 1, 2, 3, 4, 5, 6, 7, 8, 10] rfl
        have hD := hD2.sub (ws' := (wd_4e9dad6c h0 v0 r0 v1 v2 v3 v4 h1 h2 r1 h3 h4 h5 h6 v5 v6 h7 h8 r2 r3 v7 h9 r4 v8 v9 h10 r5 v10 v11 r6 v12 v13 r7 v14 w15 r8 v16 v17 r9 r10 r11 r12 r13 r14 v18 r15 r16 r17 v19 h1 g0 f20 h2 g1 f21 h3 g2 f22 h4 g3 f23 h5 g4 f24 h6 g5 f25 h7 g6 f26 h8 g7 f27 h9 g8 f28 h10 g9 f29)) [9, 0, 1, 2, 3, 4, 5, 6, 7, 8, 10] (by decide +kernel) rfl
        clear hP2 hD2
        subst hQ
        have hP9 := hP.sub (ws' := (wd_4e9dad6c h0 v0 r0 v1 v2 v3 v4 h1 h2 r1 h3 h4 h5 h6 v5 v6 h7 h8 r2 r3 v7 h9 r4 v8 v9 h10 r5 v10 v11 r6 v12 v13 r7 v14 w15 r8 v16 v17 r9 r10 r11 r12 r13 r14 v18 r15 r16 r17 v19 h1 g0 f20 h2 g1 f21 h3 g2 f22 h4 g3 f23 h5 g4 f24 h6 g5 f25 h7 g6 f26 h8 g7 f27 h9 g8 f28 h10 g9 f29)) [0, 1, 2, 3, 4, 5, 6, 7, 8, 9, 10] rfl
        have hD9 := hD.sub (ws' := (wd_4e9dad6c h0 v0 r0 v1 v2 v3 v4 h1 h2 r1 h3 h4 h5 h6 v5 v6 h7 h8 r2 r3 v7 h9 r4 v8 v9 h10 r5 v10 v11 r6 v12 v13 r7 v14 w15 r8 v16 v17 r9 r10 r11 r12 r13 r14 v18 r15 r16 r17 v19 h1 g0 f20 h2 g1 f21 h3 g2 f22 h4 g3 f23 h5 g4 f24 h6 g5 f25 h7 g6 f26 h8 g7 f27 h9 g8 f28 h10 g9 f29)) [0, 1, 2, 3, 4, 5, 6, 7, 8, 9, 10] (by decide +kernel) rfl
        have hK9 := hK.sub (tys' := []) [] rfl
        exact W.iret (v := ra21) hx hb hr (fun t ht hW => ⟨⟨ra21, ra21, rfl, rfl, ⟨f26, f27, by rw [ht]; exact hP9, va_K.moved hW.alike hK9, hD9⟩⟩, hS.F ht⟩) hS.2.2 dX12_most_122
      refine lv_tableOut (tgt := 123) hx hb dX12_most_20 (pv_tabL 4 8 rfl (fun j hj => by rcases (show j = 0 ∨ j = 1 ∨ j = 2 ∨ j = 3 ∨ j = 4 ∨ j = 5 ∨ j = 6 ∨ j = 7 ∨ j = 8 by omega) with rfl | rfl | rfl | rfl | rfl | rfl | rfl | rfl | rfl <;> assumption)) (by decide) ?_
      refine lv_aload_n hx hb dX12_most_123 rfl (lv_at hl 0 rfl) ?_
      refine lv_iload_n hx hb dX12_most_124 rfl (lv_at hl 1 rfl) ?_
      have hPc := hP.sub (ws' := (wd_c0e4689d h0 v0 r0 v1 v2 v3 v4 h1 h2 r1 h3 h4 h5 h6 v5 v6 h7 h8 r2 r3 v7 h9 r4 v8 v9 h10 r5 v10 v11 r6 v12 v13 r7 v14 w15 r8 v16 v17 r9 r10 r11 r12 r13 r14 v18 r15 r16 r17 v19 h1 g0 f20 h2 g1 f21 h3 g2 f22 h4 g3 f23 h5 g4 f24 h6 g5 f25 h7 g6 f26 h8 g7 f27 h10 g9 f29)) [0, 1, 2, 3, 4, 5, 6, 7, 8, 10] rfl
      have hDc := hD.sub (ws' := (wd_c0e4689d h0 v0 r0 v1 v2 v3 v4 h1 h2 r1 h3 h4 h5 h6 v5 v6 h7 h8 r2 r3 v7 h9 r4 v8 v9 h10 r5 v10 v11 r6 v12 v13 r7 v14 w15 r8 v16 v17 r9 r10 r11 r12 r13 r14 v18 r15 r16 r17 v19 h1 g0 f20 h2 g1 f21 h3 g2 f22 h4 g3 f23 h5 g4 f24 h6 g5 f25 h7 g6 f26 h8 g7 f27 h10 g9 f29)) [0, 1, 2, 3, 4, 5, 6, 7, 8, 10] (by decide +kernel) rfl
      have hKc := hK.sub (tys' := [(g0, .int), (g1, .int), (g2, .int), (g3, .int), (g4, .int), (g5, .int), (g6, .int), (g7, .int), (g9, .int)]) [0, 1, 2, 3, 4, 5, 6, 7, 9] rfl
      have hFc := va_free (wc := (wd_c0e4689d h0 v0 r0 v1 v2 v3 v4 h1 h2 r1 h3 h4 h5 h6 v5 v6 h7 h8 r2 r3 v7 h9 r4 v8 v9 h10 r5 v10 v11 r6 v12 v13 r7 v14 w15 r8 v16 v17 r9 r10 r11 r12 r13 r14 v18 r15 r16 r17 v19 h1 g0 f20 h2 g1 f21 h3 g2 f22 h4 g3 f23 h5 g4 f24 h6 g5 f25 h7 g6 f26 h8 g7 f27 h10 g9 f29)) hD hS hA [0, 1, 2, 3, 4, 5, 6, 7, 8, 10] rfl
      refine va_calli (va_runV (As := [.int v30]) (rest := []) ⟨hx, hb, hml, hown, hts⟩ (k_X12_topBag l dC dI h0 h1 h2 h3 h4 h5 h6 h7 h8 h10 v0 r0 v1 v2 v3 v4 r1 v5 v6 r2 r3 v7 h9 r4 v8 v9 r5 v10 v11 r6 v12 v13 r7 v14 w15 r8 v16 v17 r9 r10 r11 r12 r13 r14 v18 r15 r16 r17 v19 g0 f20 g1 f21 g2 f22 g3 f23 g4 f24 g5 f25 g6 f26 g7 f27 g9 f29 v30 ⟨i_v1a, i_v1b⟩ ⟨i_v5a, i_v5b⟩ ⟨i_v6a, i_v6b⟩ ⟨i_v7a, i_v7b⟩ ⟨i_v8a, i_v8b⟩ ⟨i_v9a, i_v9b⟩ ⟨i_v10a, i_v10b⟩ ⟨i_v14a, i_v14b⟩ ⟨i_v18a, i_v18b⟩ ⟨i_v19a, i_v19b⟩ ia_f29 pp0 H.size) (cwV 1 hts g_X12_most_10 rfl rfl rfl (by decide +kernel) ⟨Nat.le_of_ble_eq_true rfl, Nat.le_of_ble_eq_true rfl⟩) (pv_PV12 hPc hKc hDc (q0 := 0) rfl) rfl rfl hl.1 rfl (lv_room (Nat.le_of_ble_eq_true rfl)) dX12_most_125 ⟨Nat.le_of_ble_eq_true rfl, Nat.le_of_ble_eq_true rfl⟩) hS (fun q _ h => hFc q h) hFc (fun ra22 u t H1 locs ht hvm hwra22 hB hz1 hk1 hS => ?_)
      try rw [hwra22] at hB
      obtain ⟨fn23, fn24, pt0_ra22, pt1_ra22, hP1, hK1, hD1⟩ := hB
      rw [ht] at hP1
      obtain ⟨hP2, hD2⟩ := va_join (wr := (wd_6f8f3203 h9 g8 f28)) (w1 := (wd_c0e4689d h0 v0 r0 v1 v2 v3 v4 h1 h2 r1 h3 h4 h5 h6 v5 v6 h7 h8 r2 r3 v7 h9 r4 v8 v9 h10 r5 v10 v11 r6 v12 v13 r7 v14 w15 r8 v16 v17 r9 r10 r11 r12 r13 r14 v18 r15 r16 r17 v19 h1 g0 f20 h2 g1 f21 h3 g2 f22 h4 g3 f23 h5 g4 f24 h6 g5 f25 h7 g6 fn23 h8 g7 fn24 h10 g9 f29)) hP hD [0, 1, 2, 3, 4, 5, 6, 7, 8, 10] [9] rfl rfl (by decide) (by decide) hk1 hFc hP1 hD1
      clear hP hD hPc hDc hKc hFc hP1 hK1 hD1 hk1 hz1
      generalize H1 = H at hP2 hS ⊢
      have hP := hP2.sub (ws' := (wd_4e9dad6c h0 v0 r0 v1 v2 v3 v4 h1 h2 r1 h3 h4 h5 h6 v5 v6 h7 h8 r2 r3 v7 h9 r4 v8 v9 h10 r5 v10 v11 r6 v12 v13 r7 v14 w15 r8 v16 v17 r9 r10 r11 r12 r13 r14 v18 r15 r16 r17 v19 h1 g0 f20 h2 g1 f21 h3 g2 f22 h4 g3 f23 h5 g4 f24 h6 g5 f25 h7 g6 fn23 h8 g7 fn24 h9 g8 f28 h10 g9 f29)) [1, 2, 3, 4, 5, 6, 7, 8, 9, 0, 10] rfl
      have hD := hD2.sub (ws' := (wd_4e9dad6c h0 v0 r0 v1 v2 v3 v4 h1 h2 r1 h3 h4 h5 h6 v5 v6 h7 h8 r2 r3 v7 h9 r4 v8 v9 h10 r5 v10 v11 r6 v12 v13 r7 v14 w15 r8 v16 v17 r9 r10 r11 r12 r13 r14 v18 r15 r16 r17 v19 h1 g0 f20 h2 g1 f21 h3 g2 f22 h4 g3 f23 h5 g4 f24 h6 g5 f25 h7 g6 fn23 h8 g7 fn24 h9 g8 f28 h10 g9 f29)) [1, 2, 3, 4, 5, 6, 7, 8, 9, 0, 10] (by decide +kernel) rfl
      clear hP2 hD2
      subst hQ
      have hP9 := hP.sub (ws' := (wd_4e9dad6c h0 v0 r0 v1 v2 v3 v4 h1 h2 r1 h3 h4 h5 h6 v5 v6 h7 h8 r2 r3 v7 h9 r4 v8 v9 h10 r5 v10 v11 r6 v12 v13 r7 v14 w15 r8 v16 v17 r9 r10 r11 r12 r13 r14 v18 r15 r16 r17 v19 h1 g0 f20 h2 g1 f21 h3 g2 f22 h4 g3 f23 h5 g4 f24 h6 g5 f25 h7 g6 fn23 h8 g7 fn24 h9 g8 f28 h10 g9 f29)) [0, 1, 2, 3, 4, 5, 6, 7, 8, 9, 10] rfl
      have hD9 := hD.sub (ws' := (wd_4e9dad6c h0 v0 r0 v1 v2 v3 v4 h1 h2 r1 h3 h4 h5 h6 v5 v6 h7 h8 r2 r3 v7 h9 r4 v8 v9 h10 r5 v10 v11 r6 v12 v13 r7 v14 w15 r8 v16 v17 r9 r10 r11 r12 r13 r14 v18 r15 r16 r17 v19 h1 g0 f20 h2 g1 f21 h3 g2 f22 h4 g3 f23 h5 g4 f24 h6 g5 f25 h7 g6 fn23 h8 g7 fn24 h9 g8 f28 h10 g9 f29)) [0, 1, 2, 3, 4, 5, 6, 7, 8, 9, 10] (by decide +kernel) rfl
      have hK9 := hK.sub (tys' := []) [] rfl
      exact W.iret (v := ra22) hx hb hr (fun t ht hW => ⟨⟨ra22, ra22, rfl, rfl, ⟨fn23, fn24, by rw [ht]; exact hP9, va_K.moved hW.alike hK9, hD9⟩⟩, hS.F ht⟩) hS.2.2 dX12_most_128
    · skip
      have fc3 : ra2.toInt = 0 := congrArg Int32.toInt c3
      refine lv_iconst (v := (-1)) hx hb dX12_most_17 (by decide) ?_
      subst hQ
      have hP9 := hP.sub (ws' := (wd_4e9dad6c h0 v0 r0 v1 v2 v3 v4 h1 h2 r1 h3 h4 h5 h6 v5 v6 h7 h8 r2 r3 v7 h9 r4 v8 v9 h10 r5 v10 v11 r6 v12 v13 r7 v14 w15 r8 v16 v17 r9 r10 r11 r12 r13 r14 v18 r15 r16 r17 v19 h1 g0 f20 h2 g1 f21 h3 g2 f22 h4 g3 f23 h5 g4 f24 h6 g5 f25 h7 g6 f26 h8 g7 f27 h9 g8 f28 h10 g9 f29)) [0, 1, 2, 3, 4, 5, 6, 7, 8, 9, 10] rfl
      have hD9 := hD.sub (ws' := (wd_4e9dad6c h0 v0 r0 v1 v2 v3 v4 h1 h2 r1 h3 h4 h5 h6 v5 v6 h7 h8 r2 r3 v7 h9 r4 v8 v9 h10 r5 v10 v11 r6 v12 v13 r7 v14 w15 r8 v16 v17 r9 r10 r11 r12 r13 r14 v18 r15 r16 r17 v19 h1 g0 f20 h2 g1 f21 h3 g2 f22 h4 g3 f23 h5 g4 f24 h6 g5 f25 h7 g6 f26 h8 g7 f27 h9 g8 f28 h10 g9 f29)) [0, 1, 2, 3, 4, 5, 6, 7, 8, 9, 10] (by decide +kernel) rfl
      have hK9 := hK.sub (tys' := []) [] rfl
      exact W.iret (v := (-1)) hx hb hr (fun t ht hW => ⟨⟨(-1), (-1), rfl, rfl, ⟨f26, f27, by rw [ht]; exact hP9, va_K.moved hW.alike hK9, hD9⟩⟩, hS.F ht⟩) hS.2.2 dX12_most_18
def q_X12_bag : List Cond := .code yX12_bag cX12_bag 3 (some .int) :: (([.code yX12_isThere cX12_isThere 2 (some .boolean), .code yX12_in cX12_in 3 (some .boolean), .initialized RX12, .static yX12_in, .methodLink RX12 217 yX12_in, .code yX12_of cX12_of 3 (some .int), .fieldLink RX12 52 "LeftArgumentsModel" "now" "[I", .instanceMethod yX12_of, .selects RX12 yX12_of yX12_of, .methodLink RX12 287 yX12_of, .instanceMethod yX12_isThere, .selects RX12 yX12_isThere yX12_isThere, .methodLink RX12 290 yX12_isThere, .fieldLink RX12 102 "LeftArgumentsModel" "thrown" "I", .code yX12_growthOf cX12_growthOf 4 (some .int), .code yX12_withOf cX12_withOf 4 (some .int), .instanceMethod yX12_withOf, .selects RX12 yX12_withOf yX12_withOf, .methodLink RX12 293 yX12_withOf, .fieldLink RX12 58 "LeftArgumentsModel" "holding" "I", .methodLink RX12 299 Lib.Math.min.name, .static Lib.Math.min.name, .initialized "java/lang/Math", .code Lib.Math.min.name Lib.Math.min.code 2 (some .int), .methodLink RX12 301 Lib.Math.max.name, .static Lib.Math.max.name, .code Lib.Math.max.name Lib.Math.max.code 2 (some .int), .fieldLink RX12 34 "LeftArgumentsModel" "letters" "[I", .code yX12_worthOf cX12_worthOf 3 (some .int), .fieldLink RX12 22 "LeftArgumentsModel" "clauses" "[I", .fieldLink RX12 25 "LeftArgumentsModel" "testFrom" "[I", .fieldLink RX12 28 "LeftArgumentsModel" "sumFrom" "[I", .fieldLink RX12 31 "LeftArgumentsModel" "sumTo" "[I", .code yX12_workOut cX12_workOut 6 (some .int), .fieldLink RX12 37 "LeftArgumentsModel" "stack" "[I", .fieldLink RX12 13 "LeftArgumentsModel" "code" "[I", .fieldLink RX12 16 "LeftArgumentsModel" "value" "[I", .code yX12_worked cX12_worked 5 (some .int), .code yX12_bounded cX12_bounded 2 (some .int), .constantLong RX12 192 (-1000000), .constantLong RX12 194 (1000000), .methodLink RX12 196 Lib.MathLoose.min_long.x, .static Lib.MathLoose.min_long.x, .code Lib.MathLoose.min_long.x Lib.MathLoose.min_long.code 4 (some .long), .methodLink RX12 202 Lib.MathLoose.max_long.x, .static Lib.MathLoose.max_long.x, .code Lib.MathLoose.max_long.x Lib.MathLoose.max_long.code 4 (some .long), .static yX12_bounded, .methodLink RX12 205 yX12_bounded, .static yX12_worked, .methodLink RX12 209 yX12_worked, .instanceMethod yX12_workOut, .selects RX12 yX12_workOut yX12_workOut, .methodLink RX12 213 yX12_workOut, .instanceMethod yX12_worthOf, .selects RX12 yX12_worthOf yX12_worthOf, .methodLink RX12 296 yX12_worthOf, .instanceMethod yX12_growthOf, .selects RX12 yX12_growthOf yX12_growthOf, .methodLink RX12 303 yX12_growthOf] : List Cond) ++ wsX120)
set_option maxRecDepth 20000 in
theorem g_X12_bag_0 : GoodIn q_X12_bag (wsV RX12 290 RX12 yX12_isThere q_X12_isThere) := goodIn_app (goodIn_r _ [13, 11, 12, 3] rfl (by decide +kernel)) (goodIn_ca (goodIn_r (.code yX12_isThere cX12_isThere 2 (some .boolean) :: [.code yX12_in cX12_in 3 (some .boolean), .initialized RX12, .static yX12_in, .methodLink RX12 217 yX12_in, .code yX12_of cX12_of 3 (some .int), .fieldLink RX12 52 "LeftArgumentsModel" "now" "[I", .instanceMethod yX12_of, .selects RX12 yX12_of yX12_of, .methodLink RX12 287 yX12_of]) [1, 2, 3, 4, 5, 6, 7, 8, 9, 10] rfl (by decide +kernel)) (goodIn_sub (fun _ h => List.mem_cons_of_mem _ (List.mem_append_right _ h)) gwX12))
set_option maxRecDepth 20000 in
theorem g_X12_bag_1 : GoodIn q_X12_bag (va_wsS RX12 217 yX12_in q_X12_in_3) := goodIn_app (goodIn_r _ [5, 4, 3] rfl (by decide +kernel)) (goodIn_r (.code yX12_in cX12_in 3 (some .boolean) :: []) [2] rfl (by decide +kernel))
set_option maxRecDepth 20000 in
theorem g_X12_bag_2 : GoodIn q_X12_bag (wsV RX12 287 RX12 yX12_of q_X12_of_7) := goodIn_app (goodIn_r _ [10, 8, 9, 3] rfl (by decide +kernel)) (goodIn_ca (goodIn_r (.code yX12_of cX12_of 3 (some .int) :: [.fieldLink RX12 52 "LeftArgumentsModel" "now" "[I"]) [6, 7] rfl (by decide +kernel)) (goodIn_sub (fun _ h => List.mem_cons_of_mem _ (List.mem_append_right _ h)) gwX12))
set_option maxRecDepth 20000 in
theorem g_X12_bag_3 : GoodIn q_X12_bag (wsV RX12 303 RX12 yX12_growthOf q_X12_growthOf) := goodIn_app (goodIn_r _ [60, 58, 59, 3] rfl (by decide +kernel)) (goodIn_ca (goodIn_r (.code yX12_growthOf cX12_growthOf 4 (some .int) :: [.code yX12_of cX12_of 3 (some .int), .fieldLink RX12 52 "LeftArgumentsModel" "now" "[I", .initialized RX12, .instanceMethod yX12_of, .selects RX12 yX12_of yX12_of, .methodLink RX12 287 yX12_of, .code yX12_withOf cX12_withOf 4 (some .int), .code yX12_isThere cX12_isThere 2 (some .boolean), .code yX12_in cX12_in 3 (some .boolean), .static yX12_in, .methodLink RX12 217 yX12_in, .instanceMethod yX12_isThere, .selects RX12 yX12_isThere yX12_isThere, .methodLink RX12 290 yX12_isThere, .instanceMethod yX12_withOf, .selects RX12 yX12_withOf yX12_withOf, .methodLink RX12 293 yX12_withOf, .fieldLink RX12 58 "LeftArgumentsModel" "holding" "I", .methodLink RX12 299 Lib.Math.min.name, .static Lib.Math.min.name, .initialized "java/lang/Math", .code Lib.Math.min.name Lib.Math.min.code 2 (some .int), .methodLink RX12 301 Lib.Math.max.name, .static Lib.Math.max.name, .code Lib.Math.max.name Lib.Math.max.code 2 (some .int), .fieldLink RX12 34 "LeftArgumentsModel" "letters" "[I", .code yX12_worthOf cX12_worthOf 3 (some .int), .fieldLink RX12 22 "LeftArgumentsModel" "clauses" "[I", .fieldLink RX12 25 "LeftArgumentsModel" "testFrom" "[I", .fieldLink RX12 28 "LeftArgumentsModel" "sumFrom" "[I", .fieldLink RX12 31 "LeftArgumentsModel" "sumTo" "[I", .code yX12_workOut cX12_workOut 6 (some .int), .fieldLink RX12 37 "LeftArgumentsModel" "stack" "[I", .fieldLink RX12 13 "LeftArgumentsModel" "code" "[I", .fieldLink RX12 16 "LeftArgumentsModel" "value" "[I", .code yX12_worked cX12_worked 5 (some .int), .code yX12_bounded cX12_bounded 2 (some .int), .constantLong RX12 192 (-1000000), .constantLong RX12 194 (1000000), .methodLink RX12 196 Lib.MathLoose.min_long.x, .static Lib.MathLoose.min_long.x, .code Lib.MathLoose.min_long.x Lib.MathLoose.min_long.code 4 (some .long), .methodLink RX12 202 Lib.MathLoose.max_long.x, .static Lib.MathLoose.max_long.x, .code Lib.MathLoose.max_long.x Lib.MathLoose.max_long.code 4 (some .long), .static yX12_bounded, .methodLink RX12 205 yX12_bounded, .static yX12_worked, .methodLink RX12 209 yX12_worked, .instanceMethod yX12_workOut, .selects RX12 yX12_workOut yX12_workOut, .methodLink RX12 213 yX12_workOut, .instanceMethod yX12_worthOf, .selects RX12 yX12_worthOf yX12_worthOf, .methodLink RX12 296 yX12_worthOf]) [15, 6, 7, 3, 8, 9, 10, 16, 1, 2, 4, 5, 11, 12, 13, 17, 18, 19, 20, 21, 22, 23, 24, 25, 26, 27, 28, 29, 30, 31, 32, 33, 34, 35, 36, 37, 38, 39, 40, 41, 42, 43, 44, 45, 46, 47, 48, 49, 50, 51, 52, 53, 54, 55, 56, 57] rfl (by decide +kernel)) (goodIn_sub (fun _ h => List.mem_cons_of_mem _ (List.mem_append_right _ h)) gwX12))
set_option maxHeartbeats 4000000 in
set_option maxRecDepth 100000 in
theorem k_X12_bag (l : Launch) (dC : Nat → ClassId) (dI : Nat → Nat → Nat) (h0 : Nat) (h1 : Nat) (h2 : Nat) (h3 : Nat) (h4 : Nat) (h5 : Nat) (h6 : Nat) (h7 : Nat) (h8 : Nat) (h9 : Nat) (v0 : Int32) (r0 : Nat) (v1 : Int32) (v2 : Int32) (v3 : Int32) (v4 : Int32) (r1 : Nat) (v5 : Int32) (v6 : Int32) (r2 : Nat) (r3 : Nat) (v7 : Int32) (r4 : Nat) (r5 : Nat) (v8 : Int32) (v9 : Int32) (r6 : Nat) (v10 : Int32) (v11 : Int32) (r7 : Nat) (v12 : Int32) (v13 : Int32) (r8 : Nat) (v14 : Int32) (w15 : Int64) (r9 : Nat) (v16 : Int32) (v17 : Int32) (r10 : Nat) (r11 : Nat) (r12 : Nat) (r13 : Nat) (r14 : Nat) (r15 : Nat) (v18 : Int32) (r16 : Nat) (r17 : Nat) (r18 : Nat) (v19 : Int32) (g0 : ClassId) (f20 : Nat → Int32) (g1 : ClassId) (f21 : Nat → Int32) (g2 : ClassId) (f22 : Nat → Int32) (g3 : ClassId) (f23 : Nat → Int32) (g4 : ClassId) (f24 : Nat → Int32) (g5 : ClassId) (f25 : Nat → Int32) (g6 : ClassId) (f26 : Nat → Int32) (g7 : ClassId) (f27 : Nat → Int32) (g8 : ClassId) (f28 : Nat → Int32) (v29 : Int32) (v30 : Int32) (i_v1 : 0 ≤ v1.toInt ∧ v1.toInt ≤ 240) (i_v5 : 0 ≤ v5.toInt ∧ v5.toInt ≤ 4) (i_v6 : 0 ≤ v6.toInt ∧ v6.toInt ≤ 4) (i_v7 : 0 ≤ v7.toInt ∧ v7.toInt ≤ 8) (i_v8 : 0 ≤ v8.toInt ∧ v8.toInt ≤ 8) (i_v9 : 0 ≤ v9.toInt ∧ v9.toInt ≤ 1) (i_v10 : -1 ≤ v10.toInt ∧ v10.toInt ≤ 3) (i_v14 : 0 ≤ v14.toInt ∧ v14.toInt ≤ 40) (i_v18 : 0 ≤ v18.toInt ∧ v18.toInt ≤ 10) (i_v19 : 0 ≤ v19.toInt ∧ v19.toInt ≤ 1) (ia_f28 : (pm_NW f28)) (pp0 : pm_Held v10 f20 f21 f22 f23 f24 f25) (sz : Nat) : Met l yX12_bag q_X12_bag ({ frames := 6, cells := 0, slots := 0, locals := 132 }) (va_Pc [.ref h0, .int v29, .int v30] (fun U => U.heap.size = sz ∧ va_P (dC, dI) vwCl (wd_c0e4689d h0 v0 r0 v1 v2 v3 v4 h1 h2 r1 h3 h4 h5 h6 v5 v6 h7 h8 r2 r3 v7 r4 r5 v8 v9 h9 r6 v10 v11 r7 v12 v13 r8 v14 w15 r9 v16 v17 r10 r11 r12 r13 r14 r15 v18 r16 r17 r18 v19 h1 g0 f20 h2 g1 f21 h3 g2 f22 h4 g3 f23 h5 g4 f24 h6 g5 f25 h7 g6 f26 h8 g7 f27 h9 g8 f28) U.heap ∧ va_K (dC, dI) vwCl [(g0, .int), (g1, .int), (g2, .int), (g3, .int), (g4, .int), (g5, .int), (g6, .int), (g7, .int), (g8, .int)] U ∧ va_D (fun _ => True) (wd_c0e4689d h0 v0 r0 v1 v2 v3 v4 h1 h2 r1 h3 h4 h5 h6 v5 v6 h7 h8 r2 r3 v7 r4 r5 v8 v9 h9 r6 v10 v11 r7 v12 v13 r8 v14 w15 r9 v16 v17 r10 r11 r12 r13 r14 r15 v18 r16 r17 r18 v19 h1 g0 f20 h2 g1 f21 h3 g2 f22 h4 g3 f23 h5 g4 f24 h6 g5 f25 h7 g6 f26 h8 g7 f27 h9 g8 f28))) (va_Qi (fun (r : Int32) (r9 : Int32) => r9 = r) (fun (r : Int32) (t : State) => (∃ (o_h0_0 : Int32) (o_h7 : Nat → Int32) (o_h8 : Nat → Int32), 0 ≤ o_h0_0.toInt ∧ o_h0_0.toInt ≤ 1 ∧ va_P (dC, dI) vwCl (wd_c0e4689d h0 o_h0_0 r0 v1 v2 v3 v4 h1 h2 r1 h3 h4 h5 h6 v5 v6 h7 h8 r2 r3 v7 r4 r5 v8 v9 h9 r6 v10 v11 r7 v12 v13 r8 v14 w15 r9 v16 v17 r10 r11 r12 r13 r14 r15 v18 r16 r17 r18 v19 h1 g0 f20 h2 g1 f21 h3 g2 f22 h4 g3 f23 h5 g4 f24 h6 g5 f25 h7 g6 o_h7 h8 g7 o_h8 h9 g8 f28) t.heap ∧ va_K (dC, dI) vwCl [] t ∧ va_D (va_A (wd_c0e4689d h0 v0 r0 v1 v2 v3 v4 h1 h2 r1 h3 h4 h5 h6 v5 v6 h7 h8 r2 r3 v7 r4 r5 v8 v9 h9 r6 v10 v11 r7 v12 v13 r8 v14 w15 r9 v16 v17 r10 r11 r12 r13 r14 r15 v18 r16 r17 r18 v19 h1 g0 f20 h2 g1 f21 h3 g2 f22 h4 g3 f23 h5 g4 f24 h6 g5 f25 h7 g6 f26 h8 g7 f27 h9 g8 f28) sz) (wd_c0e4689d h0 o_h0_0 r0 v1 v2 v3 v4 h1 h2 r1 h3 h4 h5 h6 v5 v6 h7 h8 r2 r3 v7 r4 r5 v8 v9 h9 r6 v10 v11 r7 v12 v13 r8 v14 w15 r9 v16 v17 r10 r11 r12 r13 r14 r15 v18 r16 r17 r18 v19 h1 g0 f20 h2 g1 f21 h3 g2 f22 h4 g3 f23 h5 g4 f24 h6 g5 f25 h7 g6 o_h7 h8 g7 o_h8 h9 g8 f28))) (va_A (wd_c0e4689d h0 v0 r0 v1 v2 v3 v4 h1 h2 r1 h3 h4 h5 h6 v5 v6 h7 h8 r2 r3 v7 r4 r5 v8 v9 h9 r6 v10 v11 r7 v12 v13 r8 v14 w15 r9 v16 v17 r10 r11 r12 r13 r14 r15 v18 r16 r17 r18 v19 h1 g0 f20 h2 g1 f21 h3 g2 f22 h4 g3 f23 h5 g4 f24 h6 g5 f25 h7 g6 f26 h8 g7 f27 h9 g8 f28) sz)) 0 0 (va_A (wd_c0e4689d h0 v0 r0 v1 v2 v3 v4 h1 h2 r1 h3 h4 h5 h6 v5 v6 h7 h8 r2 r3 v7 r4 r5 v8 v9 h9 r6 v10 v11 r7 v12 v13 r8 v14 w15 r9 v16 v17 r10 r11 r12 r13 r14 r15 v18 r16 r17 r18 v19 h1 g0 f20 h2 g1 f21 h3 g2 f22 h4 g3 f23 h5 g4 f24 h6 g5 f25 h7 g6 f26 h8 g7 f27 h9 g8 f28) sz) := by
  refine Met.ofW (cc := cX12_bag) (maxL := 3) (ret := (some .int)) (by decide) rfl ?_
  intro p e s m args below meth c s₁ B hml hv
  obtain ⟨i_v1a, i_v1b⟩ := i_v1
  obtain ⟨i_v5a, i_v5b⟩ := i_v5
  obtain ⟨i_v6a, i_v6b⟩ := i_v6
  obtain ⟨i_v7a, i_v7b⟩ := i_v7
  obtain ⟨i_v8a, i_v8b⟩ := i_v8
  obtain ⟨i_v9a, i_v9b⟩ := i_v9
  obtain ⟨i_v10a, i_v10b⟩ := i_v10
  obtain ⟨i_v14a, i_v14b⟩ := i_v14
  obtain ⟨i_v18a, i_v18b⟩ := i_v18
  obtain ⟨i_v19a, i_v19b⟩ := i_v19
  obtain ⟨rfl, hsz, hP, hK, hD0⟩ := hv
  have hx := B.exec
  have hb := B.bytes
  have hr := B.returns
  have hts := atoms_spec (ws := q_X12_bag) B.pre
  have hown : s.vm.findClass RX12 = some m.cls := findClass_of_methodNamed B.named
  have hlocks := B.notSynchronized
  subst hsz
  have hD := hD0.self (sz := s.heap.size)
  generalize hAe : va_A (wd_c0e4689d h0 v0 r0 v1 v2 v3 v4 h1 h2 r1 h3 h4 h5 h6 v5 v6 h7 h8 r2 r3 v7 r4 r5 v8 v9 h9 r6 v10 v11 r7 v12 v13 r8 v14 w15 r9 v16 v17 r10 r11 r12 r13 r14 r15 v18 r16 r17 r18 v19 h1 g0 f20 h2 g1 f21 h3 g2 f22 h4 g3 f23 h5 g4 f24 h6 g5 f25 h7 g6 f26 h8 g7 f27 h9 g8 f28) s.heap.size = A at hD ⊢
  have hA : ∀ q : Nat, s.heap.size ≤ q → A q := fun q h => by rw [← hAe]; exact Or.inr h
  have hS : va_S A s.heap s.heap [] := va_S.rf
  generalize hQ : (MQ below _ _ s 0 0 A) = Q
  have hl := lv_entry ([.ref h0, .int v29, .int v30]) (n := 3) (Nat.le_of_ble_eq_true rfl)
  rw [lg_entry_eq]
  generalize (lg_sl ([.ref h0, .int v29, .int v30]) ++ List.replicate (3 - (lg_sl ([.ref h0, .int v29, .int v30])).length) Slot.unset).toArray = ls at hl ⊢
  have hl : lv_has ls 3 [(0, .ref h0), (1, .int v29), (2, .int v30)] := hl
  obtain ⟨H, hH⟩ : ∃ H : Heap, H = s.heap := ⟨_, rfl⟩
  obtain ⟨locs, hlocs⟩ : ∃ y : List Loc, y = [] := ⟨_, rfl⟩
  have hS : va_S A s.heap H locs := by rw [hH, hlocs]; exact va_S.rf
  have hP : va_P (dC, dI) vwCl (wd_c0e4689d h0 v0 r0 v1 v2 v3 v4 h1 h2 r1 h3 h4 h5 h6 v5 v6 h7 h8 r2 r3 v7 r4 r5 v8 v9 h9 r6 v10 v11 r7 v12 v13 r8 v14 w15 r9 v16 v17 r10 r11 r12 r13 r14 r15 v18 r16 r17 r18 v19 h1 g0 f20 h2 g1 f21 h3 g2 f22 h4 g3 f23 h5 g4 f24 h6 g5 f25 h7 g6 f26 h8 g7 f27 h9 g8 f28) H := by rw [hH]; exact hP
  rw [← hH, ← hlocs]
  refine lv_aload_n hx hb dX12_bag_0 rfl (lv_at hl 0 rfl) ?_
  refine lv_aload_n hx hb dX12_bag_1 rfl (lv_at hl 0 rfl) ?_
  refine lv_iload_n hx hb dX12_bag_2 rfl (lv_at hl 1 rfl) ?_
  have hPc := hP.sub (ws' := (wd_5013416a h0 v0 r0 v1 v2 v3 v4 h1 h2 r1 h3 h4 h5 h6 v5 v6 h7 h8 r2 r3 v7 r4 r5 v8 v9 h9 r6 v10 v11 r7 v12 v13 r8 v14 w15 r9 v16 v17 r10 r11 r12 r13 r14 r15 v18 r16 r17 r18 v19 h9 g8 f28)) [0, 9] rfl
  have hDc := hD.sub (ws' := (wd_5013416a h0 v0 r0 v1 v2 v3 v4 h1 h2 r1 h3 h4 h5 h6 v5 v6 h7 h8 r2 r3 v7 r4 r5 v8 v9 h9 r6 v10 v11 r7 v12 v13 r8 v14 w15 r9 v16 v17 r10 r11 r12 r13 r14 r15 v18 r16 r17 r18 v19 h9 g8 f28)) [0, 9] (by decide) rfl
  have hKc := hK.sub (tys' := [(g8, .int)]) [8] rfl
  have hFc := va_free (wc := (wd_5013416a h0 v0 r0 v1 v2 v3 v4 h1 h2 r1 h3 h4 h5 h6 v5 v6 h7 h8 r2 r3 v7 r4 r5 v8 v9 h9 r6 v10 v11 r7 v12 v13 r8 v14 w15 r9 v16 v17 r10 r11 r12 r13 r14 r15 v18 r16 r17 r18 v19 h9 g8 f28)) hD hS hA [0, 9] rfl
  refine va_calli (va_runV (As := [.int v29]) (rest := [.ref h0]) ⟨hx, hb, hml, hown, hts⟩ (k_X12_isThere l dC dI h0 h9 v0 r0 v1 v2 v3 v4 h1 h2 r1 h3 h4 h5 h6 v5 v6 h7 h8 r2 r3 v7 r4 r5 v8 v9 r6 v10 v11 r7 v12 v13 r8 v14 w15 r9 v16 v17 r10 r11 r12 r13 r14 r15 v18 r16 r17 r18 v19 g8 f28 v29 ⟨i_v1a, i_v1b⟩ ⟨i_v5a, i_v5b⟩ ⟨i_v6a, i_v6b⟩ ⟨i_v7a, i_v7b⟩ ⟨i_v8a, i_v8b⟩ ⟨i_v9a, i_v9b⟩ ⟨i_v10a, i_v10b⟩ ⟨i_v14a, i_v14b⟩ ⟨i_v18a, i_v18b⟩ ⟨i_v19a, i_v19b⟩ ia_f28.1 H.size) (cwV 1 hts g_X12_bag_0 rfl rfl rfl (by decide +kernel) ⟨Nat.le_of_ble_eq_true rfl, Nat.le_of_ble_eq_true rfl⟩) (pv_PV12 hPc hKc hDc (q0 := 0) rfl) rfl rfl hl.1 rfl (lv_room (Nat.le_of_ble_eq_true rfl)) dX12_bag_3 ⟨Nat.le_of_ble_eq_true rfl, Nat.le_of_ble_eq_true rfl⟩) hS (fun q _ h => hFc q h) hFc (fun ra1 u t H1 locs ht hvm hwra1 hB hz1 hk1 hS => ?_)
  try rw [hwra1] at hB
  obtain ⟨pt0_ra1, pt1_ra1, pt2_ra1, pt3_ra1, pt4_ra1, pt5_ra1, hP1, hK1, hD1⟩ := hB
  rw [ht] at hP1
  obtain ⟨hP2, hD2⟩ := va_join (wr := (wd_a0bd977d h1 g0 f20 h2 g1 f21 h3 g2 f22 h4 g3 f23 h5 g4 f24 h6 g5 f25 h7 g6 f26 h8 g7 f27)) (w1 := (wd_5013416a h0 v0 r0 v1 v2 v3 v4 h1 h2 r1 h3 h4 h5 h6 v5 v6 h7 h8 r2 r3 v7 r4 r5 v8 v9 h9 r6 v10 v11 r7 v12 v13 r8 v14 w15 r9 v16 v17 r10 r11 r12 r13 r14 r15 v18 r16 r17 r18 v19 h9 g8 f28)) hP hD [0, 9] [1, 2, 3, 4, 5, 6, 7, 8] rfl rfl (by decide) (by decide) hk1 hFc hP1 hD1
  clear hP hD hPc hDc hKc hFc hP1 hK1 hD1 hk1 hz1
  generalize H1 = H at hP2 hS ⊢
  have hP := hP2.sub (ws' := (wd_c0e4689d h0 v0 r0 v1 v2 v3 v4 h1 h2 r1 h3 h4 h5 h6 v5 v6 h7 h8 r2 r3 v7 r4 r5 v8 v9 h9 r6 v10 v11 r7 v12 v13 r8 v14 w15 r9 v16 v17 r10 r11 r12 r13 r14 r15 v18 r16 r17 r18 v19 h1 g0 f20 h2 g1 f21 h3 g2 f22 h4 g3 f23 h5 g4 f24 h6 g5 f25 h7 g6 f26 h8 g7 f27 h9 g8 f28)) [8, 0, 1, 2, 3, 4, 5, 6, 7, 9] rfl
  have hD := hD2.sub (ws' := (wd_c0e4689d h0 v0 r0 v1 v2 v3 v4 h1 h2 r1 h3 h4 h5 h6 v5 v6 h7 h8 r2 r3 v7 r4 r5 v8 v9 h9 r6 v10 v11 r7 v12 v13 r8 v14 w15 r9 v16 v17 r10 r11 r12 r13 r14 r15 v18 r16 r17 r18 v19 h1 g0 f20 h2 g1 f21 h3 g2 f22 h4 g3 f23 h5 g4 f24 h6 g5 f25 h7 g6 f26 h8 g7 f27 h9 g8 f28)) [8, 0, 1, 2, 3, 4, 5, 6, 7, 9] (by decide +kernel) rfl
  clear hP2 hD2
  refine lv_if_eq (tgt := 23) hx hb dX12_bag_6 (by decide) (fun c2 => ?_) (fun c2 => ?_)
  · skip
    have fc2 : ra1.toInt = 0 := congrArg Int32.toInt c2
    refine lv_iconst (v := 1) hx hb dX12_bag_23 (by decide) ?_
    refine va_put (D := (dC, dI)) (ci := 12) (v := .int 1) (ty := .int) (C := RX12) (T := TX12) (N := 48) hx hb hts (fun _ h => List.mem_cons_of_mem _ (List.mem_append_right _ h)) tyX12 tyX12_ok nmX12 hown hK hP hD hS 0 rfl rfl 0 (by decide) (hts (.fieldLink RX12 102 "LeftArgumentsModel" "thrown" "I") (List.mem_cons_of_mem _ (List.mem_append_left _ (List.mem_of_getElem? (i := 13) rfl)))) (fun _ h9 => h9) rfl (by decide +kernel) rfl rfl (Nat.le_of_ble_eq_true rfl) dX12_bag_24 (fun H locs hP hD hS => ?_)
    have hP : va_P (dC, dI) vwCl (wd_c0e4689d h0 1 r0 v1 v2 v3 v4 h1 h2 r1 h3 h4 h5 h6 v5 v6 h7 h8 r2 r3 v7 r4 r5 v8 v9 h9 r6 v10 v11 r7 v12 v13 r8 v14 w15 r9 v16 v17 r10 r11 r12 r13 r14 r15 v18 r16 r17 r18 v19 h1 g0 f20 h2 g1 f21 h3 g2 f22 h4 g3 f23 h5 g4 f24 h6 g5 f25 h7 g6 f26 h8 g7 f27 h9 g8 f28) H := hP
    have hD : va_D A (wd_c0e4689d h0 1 r0 v1 v2 v3 v4 h1 h2 r1 h3 h4 h5 h6 v5 v6 h7 h8 r2 r3 v7 r4 r5 v8 v9 h9 r6 v10 v11 r7 v12 v13 r8 v14 w15 r9 v16 v17 r10 r11 r12 r13 r14 r15 v18 r16 r17 r18 v19 h1 g0 f20 h2 g1 f21 h3 g2 f22 h4 g3 f23 h5 g4 f24 h6 g5 f25 h7 g6 f26 h8 g7 f27 h9 g8 f28) := hD
    refine lv_aload_n hx hb dX12_bag_27 rfl (lv_at hl 0 rfl) ?_
    refine va_get (D := (dC, dI)) (ci := 12) (v := .int 1) (C := RX12) (T := TX12) (N := 48) hx hb hts (fun _ h => List.mem_cons_of_mem _ (List.mem_append_right _ h)) hown hK hP 0 rfl rfl 0 (by decide) (hts (.fieldLink RX12 102 "LeftArgumentsModel" "thrown" "I") (List.mem_cons_of_mem _ (List.mem_append_left _ (List.mem_of_getElem? (i := 13) rfl)))) (fun _ h9 => h9) rfl dX12_bag_28 ?_
    refine lv_iconst (v := 1) hx hb dX12_bag_31 (by decide) ?_
    refine lv_icmp_ne (tgt := 37) hx hb dX12_bag_32 (by decide) (fun c => absurd (by decide) c) (fun _ => ?_)
    refine lv_iconst (v := 0) hx hb dX12_bag_35 (by decide) ?_
    subst hQ
    have hP9 := hP.sub (ws' := (wd_c0e4689d h0 1 r0 v1 v2 v3 v4 h1 h2 r1 h3 h4 h5 h6 v5 v6 h7 h8 r2 r3 v7 r4 r5 v8 v9 h9 r6 v10 v11 r7 v12 v13 r8 v14 w15 r9 v16 v17 r10 r11 r12 r13 r14 r15 v18 r16 r17 r18 v19 h1 g0 f20 h2 g1 f21 h3 g2 f22 h4 g3 f23 h5 g4 f24 h6 g5 f25 h7 g6 f26 h8 g7 f27 h9 g8 f28)) [0, 1, 2, 3, 4, 5, 6, 7, 8, 9] rfl
    have hD9 := hD.sub (ws' := (wd_c0e4689d h0 1 r0 v1 v2 v3 v4 h1 h2 r1 h3 h4 h5 h6 v5 v6 h7 h8 r2 r3 v7 r4 r5 v8 v9 h9 r6 v10 v11 r7 v12 v13 r8 v14 w15 r9 v16 v17 r10 r11 r12 r13 r14 r15 v18 r16 r17 r18 v19 h1 g0 f20 h2 g1 f21 h3 g2 f22 h4 g3 f23 h5 g4 f24 h6 g5 f25 h7 g6 f26 h8 g7 f27 h9 g8 f28)) [0, 1, 2, 3, 4, 5, 6, 7, 8, 9] (by decide +kernel) rfl
    have hK9 := hK.sub (tys' := []) [] rfl
    exact W.iret (v := 0) hx hb hr (fun t ht hW => ⟨⟨0, 0, rfl, rfl, ⟨1, f26, f27, by decide, by decide, by rw [ht]; exact hP9, va_K.moved hW.alike hK9, hD9⟩⟩, hS.F ht⟩) hS.2.2 dX12_bag_36
  · skip
    have fc2 : ¬ (ra1.toInt = 0) := fun h9 => c2 (Int32.toInt_inj.mp h9)
    have q1pt4_ra1 := pt4_ra1 (by omega)
    refine lv_iload_n hx hb dX12_bag_9 rfl (lv_at hl 2 rfl) ?_
    refine lv_iconst (v := 0) hx hb dX12_bag_10 (by decide) ?_
    refine lv_bipush (v := 7) hx hb dX12_bag_11 (by decide) ?_
    have hPc := hP.sub (ws' := []) [] rfl
    have hDc := hD.sub (ws' := []) [] (by decide) rfl
    have hKc := hK.sub (tys' := []) [] rfl
    have hFc := va_free (wc := []) hD hS hA [] rfl
    refine va_calli (va_runS (As := [.int v30, .int 0, .int 7]) (rest := [.ref h0]) ⟨hx, hb, hml, hown, hts⟩ (k_X12_in_3 l dC dI v30  H.size) (va_cwS 3 hts g_X12_bag_1 rfl rfl rfl (by decide +kernel) ⟨Nat.le_of_ble_eq_true rfl, Nat.le_of_ble_eq_true rfl⟩) (pv_PS hPc hKc hDc) rfl rfl hl.1 rfl (lv_room (Nat.le_of_ble_eq_true rfl)) dX12_bag_13 ⟨Nat.le_of_ble_eq_true rfl, Nat.le_of_ble_eq_true rfl⟩) hS (fun q _ h => hFc q h) hFc (fun ra3 u t H1 locs ht hvm hwra3 hB hz1 hk1 hS => ?_)
    try rw [hwra3] at hB
    obtain ⟨pt0_ra3, pt1_ra3, pt2_ra3, pt3_ra3, pt4_ra3, hP1, hK1, hD1⟩ := hB
    rw [ht] at hP1
    obtain ⟨hP2, hD2⟩ := va_join (wr := (wd_c0e4689d h0 v0 r0 v1 v2 v3 v4 h1 h2 r1 h3 h4 h5 h6 v5 v6 h7 h8 r2 r3 v7 r4 r5 v8 v9 h9 r6 v10 v11 r7 v12 v13 r8 v14 w15 r9 v16 v17 r10 r11 r12 r13 r14 r15 v18 r16 r17 r18 v19 h1 g0 f20 h2 g1 f21 h3 g2 f22 h4 g3 f23 h5 g4 f24 h6 g5 f25 h7 g6 f26 h8 g7 f27 h9 g8 f28)) (w1 := []) hP hD [] [0, 1, 2, 3, 4, 5, 6, 7, 8, 9] rfl rfl (by decide) (by decide) hk1 hFc hP1 hD1
    clear hP hD hPc hDc hKc hFc hP1 hK1 hD1 hk1 hz1
    generalize H1 = H at hP2 hS ⊢
    have hP : va_P (dC, dI) vwCl (wd_c0e4689d h0 v0 r0 v1 v2 v3 v4 h1 h2 r1 h3 h4 h5 h6 v5 v6 h7 h8 r2 r3 v7 r4 r5 v8 v9 h9 r6 v10 v11 r7 v12 v13 r8 v14 w15 r9 v16 v17 r10 r11 r12 r13 r14 r15 v18 r16 r17 r18 v19 h1 g0 f20 h2 g1 f21 h3 g2 f22 h4 g3 f23 h5 g4 f24 h6 g5 f25 h7 g6 f26 h8 g7 f27 h9 g8 f28) H := hP2
    have hD : va_D A (wd_c0e4689d h0 v0 r0 v1 v2 v3 v4 h1 h2 r1 h3 h4 h5 h6 v5 v6 h7 h8 r2 r3 v7 r4 r5 v8 v9 h9 r6 v10 v11 r7 v12 v13 r8 v14 w15 r9 v16 v17 r10 r11 r12 r13 r14 r15 v18 r16 r17 r18 v19 h1 g0 f20 h2 g1 f21 h3 g2 f22 h4 g3 f23 h5 g4 f24 h6 g5 f25 h7 g6 f26 h8 g7 f27 h9 g8 f28) := hD2
    clear hP2 hD2
    refine lv_if_eq (tgt := 23) hx hb dX12_bag_16 (by decide) (fun c4 => ?_) (fun c4 => ?_)
    · skip
      have fc4 : ra3.toInt = 0 := congrArg Int32.toInt c4
      refine lv_iconst (v := 1) hx hb dX12_bag_23 (by decide) ?_
      refine va_put (D := (dC, dI)) (ci := 12) (v := .int 1) (ty := .int) (C := RX12) (T := TX12) (N := 48) hx hb hts (fun _ h => List.mem_cons_of_mem _ (List.mem_append_right _ h)) tyX12 tyX12_ok nmX12 hown hK hP hD hS 0 rfl rfl 0 (by decide) (hts (.fieldLink RX12 102 "LeftArgumentsModel" "thrown" "I") (List.mem_cons_of_mem _ (List.mem_append_left _ (List.mem_of_getElem? (i := 13) rfl)))) (fun _ h9 => h9) rfl (by decide +kernel) rfl rfl (Nat.le_of_ble_eq_true rfl) dX12_bag_24 (fun H locs hP hD hS => ?_)
      have hP : va_P (dC, dI) vwCl (wd_c0e4689d h0 1 r0 v1 v2 v3 v4 h1 h2 r1 h3 h4 h5 h6 v5 v6 h7 h8 r2 r3 v7 r4 r5 v8 v9 h9 r6 v10 v11 r7 v12 v13 r8 v14 w15 r9 v16 v17 r10 r11 r12 r13 r14 r15 v18 r16 r17 r18 v19 h1 g0 f20 h2 g1 f21 h3 g2 f22 h4 g3 f23 h5 g4 f24 h6 g5 f25 h7 g6 f26 h8 g7 f27 h9 g8 f28) H := hP
      have hD : va_D A (wd_c0e4689d h0 1 r0 v1 v2 v3 v4 h1 h2 r1 h3 h4 h5 h6 v5 v6 h7 h8 r2 r3 v7 r4 r5 v8 v9 h9 r6 v10 v11 r7 v12 v13 r8 v14 w15 r9 v16 v17 r10 r11 r12 r13 r14 r15 v18 r16 r17 r18 v19 h1 g0 f20 h2 g1 f21 h3 g2 f22 h4 g3 f23 h5 g4 f24 h6 g5 f25 h7 g6 f26 h8 g7 f27 h9 g8 f28) := hD
      refine lv_aload_n hx hb dX12_bag_27 rfl (lv_at hl 0 rfl) ?_
      refine va_get (D := (dC, dI)) (ci := 12) (v := .int 1) (C := RX12) (T := TX12) (N := 48) hx hb hts (fun _ h => List.mem_cons_of_mem _ (List.mem_append_right _ h)) hown hK hP 0 rfl rfl 0 (by decide) (hts (.fieldLink RX12 102 "LeftArgumentsModel" "thrown" "I") (List.mem_cons_of_mem _ (List.mem_append_left _ (List.mem_of_getElem? (i := 13) rfl)))) (fun _ h9 => h9) rfl dX12_bag_28 ?_
      refine lv_iconst (v := 1) hx hb dX12_bag_31 (by decide) ?_
      refine lv_icmp_ne (tgt := 37) hx hb dX12_bag_32 (by decide) (fun c => absurd (by decide) c) (fun _ => ?_)
      refine lv_iconst (v := 0) hx hb dX12_bag_35 (by decide) ?_
      subst hQ
      have hP9 := hP.sub (ws' := (wd_c0e4689d h0 1 r0 v1 v2 v3 v4 h1 h2 r1 h3 h4 h5 h6 v5 v6 h7 h8 r2 r3 v7 r4 r5 v8 v9 h9 r6 v10 v11 r7 v12 v13 r8 v14 w15 r9 v16 v17 r10 r11 r12 r13 r14 r15 v18 r16 r17 r18 v19 h1 g0 f20 h2 g1 f21 h3 g2 f22 h4 g3 f23 h5 g4 f24 h6 g5 f25 h7 g6 f26 h8 g7 f27 h9 g8 f28)) [0, 1, 2, 3, 4, 5, 6, 7, 8, 9] rfl
      have hD9 := hD.sub (ws' := (wd_c0e4689d h0 1 r0 v1 v2 v3 v4 h1 h2 r1 h3 h4 h5 h6 v5 v6 h7 h8 r2 r3 v7 r4 r5 v8 v9 h9 r6 v10 v11 r7 v12 v13 r8 v14 w15 r9 v16 v17 r10 r11 r12 r13 r14 r15 v18 r16 r17 r18 v19 h1 g0 f20 h2 g1 f21 h3 g2 f22 h4 g3 f23 h5 g4 f24 h6 g5 f25 h7 g6 f26 h8 g7 f27 h9 g8 f28)) [0, 1, 2, 3, 4, 5, 6, 7, 8, 9] (by decide +kernel) rfl
      have hK9 := hK.sub (tys' := []) [] rfl
      exact W.iret (v := 0) hx hb hr (fun t ht hW => ⟨⟨0, 0, rfl, rfl, ⟨1, f26, f27, by decide, by decide, by rw [ht]; exact hP9, va_K.moved hW.alike hK9, hD9⟩⟩, hS.F ht⟩) hS.2.2 dX12_bag_36
    · skip
      have fc4 : ¬ (ra3.toInt = 0) := fun h9 => c4 (Int32.toInt_inj.mp h9)
      refine lv_iconst (v := 0) hx hb dX12_bag_19 (by decide) ?_
      refine lv_goto (tgt := 24) hx hb dX12_bag_20 (by decide) ?_
      refine va_put (D := (dC, dI)) (ci := 12) (v := .int 0) (ty := .int) (C := RX12) (T := TX12) (N := 48) hx hb hts (fun _ h => List.mem_cons_of_mem _ (List.mem_append_right _ h)) tyX12 tyX12_ok nmX12 hown hK hP hD hS 0 rfl rfl 0 (by decide) (hts (.fieldLink RX12 102 "LeftArgumentsModel" "thrown" "I") (List.mem_cons_of_mem _ (List.mem_append_left _ (List.mem_of_getElem? (i := 13) rfl)))) (fun _ h9 => h9) rfl (by decide +kernel) rfl rfl (Nat.le_of_ble_eq_true rfl) dX12_bag_24 (fun H locs hP hD hS => ?_)
      have hP : va_P (dC, dI) vwCl (wd_c0e4689d h0 0 r0 v1 v2 v3 v4 h1 h2 r1 h3 h4 h5 h6 v5 v6 h7 h8 r2 r3 v7 r4 r5 v8 v9 h9 r6 v10 v11 r7 v12 v13 r8 v14 w15 r9 v16 v17 r10 r11 r12 r13 r14 r15 v18 r16 r17 r18 v19 h1 g0 f20 h2 g1 f21 h3 g2 f22 h4 g3 f23 h5 g4 f24 h6 g5 f25 h7 g6 f26 h8 g7 f27 h9 g8 f28) H := hP
      have hD : va_D A (wd_c0e4689d h0 0 r0 v1 v2 v3 v4 h1 h2 r1 h3 h4 h5 h6 v5 v6 h7 h8 r2 r3 v7 r4 r5 v8 v9 h9 r6 v10 v11 r7 v12 v13 r8 v14 w15 r9 v16 v17 r10 r11 r12 r13 r14 r15 v18 r16 r17 r18 v19 h1 g0 f20 h2 g1 f21 h3 g2 f22 h4 g3 f23 h5 g4 f24 h6 g5 f25 h7 g6 f26 h8 g7 f27 h9 g8 f28) := hD
      refine lv_aload_n hx hb dX12_bag_27 rfl (lv_at hl 0 rfl) ?_
      refine va_get (D := (dC, dI)) (ci := 12) (v := .int 0) (C := RX12) (T := TX12) (N := 48) hx hb hts (fun _ h => List.mem_cons_of_mem _ (List.mem_append_right _ h)) hown hK hP 0 rfl rfl 0 (by decide) (hts (.fieldLink RX12 102 "LeftArgumentsModel" "thrown" "I") (List.mem_cons_of_mem _ (List.mem_append_left _ (List.mem_of_getElem? (i := 13) rfl)))) (fun _ h9 => h9) rfl dX12_bag_28 ?_
      refine lv_iconst (v := 1) hx hb dX12_bag_31 (by decide) ?_
      refine lv_icmp_ne (tgt := 37) hx hb dX12_bag_32 (by decide) (fun _ => ?_) (fun c => absurd c (by decide))
      refine lv_iload_n hx hb dX12_bag_37 rfl (lv_at hl 2 rfl) ?_
      refine lv_bipush (v := 7) hx hb dX12_bag_38 (by decide) ?_
      refine lv_icmp_ne (tgt := 51) hx hb dX12_bag_40 (by decide) (fun c5 => ?_) (fun c5 => ?_)
      · skip
        have fc5 : ¬ (v30.toInt = 7) := fun h9 => c5 (Int32.toInt_inj.mp h9)
        refine lv_aload_n hx hb dX12_bag_51 rfl (lv_at hl 0 rfl) ?_
        refine lv_iload_n hx hb dX12_bag_52 rfl (lv_at hl 1 rfl) ?_
        refine lv_iload_n hx hb dX12_bag_53 rfl (lv_at hl 2 rfl) ?_
        have hPc := hP.sub (ws' := (wd_5013416a h0 0 r0 v1 v2 v3 v4 h1 h2 r1 h3 h4 h5 h6 v5 v6 h7 h8 r2 r3 v7 r4 r5 v8 v9 h9 r6 v10 v11 r7 v12 v13 r8 v14 w15 r9 v16 v17 r10 r11 r12 r13 r14 r15 v18 r16 r17 r18 v19 h9 g8 f28)) [0, 9] rfl
        have hDc := hD.sub (ws' := (wd_5013416a h0 0 r0 v1 v2 v3 v4 h1 h2 r1 h3 h4 h5 h6 v5 v6 h7 h8 r2 r3 v7 r4 r5 v8 v9 h9 r6 v10 v11 r7 v12 v13 r8 v14 w15 r9 v16 v17 r10 r11 r12 r13 r14 r15 v18 r16 r17 r18 v19 h9 g8 f28)) [0, 9] (by decide) rfl
        have hKc := hK.sub (tys' := [(g8, .int)]) [8] rfl
        have hFc := va_free (wc := (wd_5013416a h0 0 r0 v1 v2 v3 v4 h1 h2 r1 h3 h4 h5 h6 v5 v6 h7 h8 r2 r3 v7 r4 r5 v8 v9 h9 r6 v10 v11 r7 v12 v13 r8 v14 w15 r9 v16 v17 r10 r11 r12 r13 r14 r15 v18 r16 r17 r18 v19 h9 g8 f28)) hD hS hA [0, 9] rfl
        refine va_calli (va_runV (As := [.int v29, .int v30]) (rest := []) ⟨hx, hb, hml, hown, hts⟩ (k_X12_of_7 l dC dI h0 h9 0 r0 v1 v2 v3 v4 h1 h2 r1 h3 h4 h5 h6 v5 v6 h7 h8 r2 r3 v7 r4 r5 v8 v9 r6 v10 v11 r7 v12 v13 r8 v14 w15 r9 v16 v17 r10 r11 r12 r13 r14 r15 v18 r16 r17 r18 v19 g8 f28 v29 v30 ⟨i_v1a, i_v1b⟩ ⟨i_v5a, i_v5b⟩ ⟨i_v6a, i_v6b⟩ ⟨i_v7a, i_v7b⟩ ⟨i_v8a, i_v8b⟩ ⟨i_v9a, i_v9b⟩ ⟨i_v10a, i_v10b⟩ ⟨i_v14a, i_v14b⟩ ⟨i_v18a, i_v18b⟩ ⟨i_v19a, i_v19b⟩ ⟨by first | omega | decide, by first | omega | decide⟩ ⟨by first | omega | decide, by first | omega | decide⟩ ia_f28.1 H.size) (cwV 2 hts g_X12_bag_2 rfl rfl rfl (by decide +kernel) ⟨Nat.le_of_ble_eq_true rfl, Nat.le_of_ble_eq_true rfl⟩) (pv_PV12 hPc hKc hDc (q0 := 0) rfl) rfl rfl hl.1 rfl (lv_room (Nat.le_of_ble_eq_true rfl)) dX12_bag_54 ⟨Nat.le_of_ble_eq_true rfl, Nat.le_of_ble_eq_true rfl⟩) hS (fun q _ h => hFc q h) hFc (fun ra6 u t H1 locs ht hvm hwra6 hB hz1 hk1 hS => ?_)
        try rw [hwra6] at hB
        have hkra6_0 : ((0 : Int32)).toInt = 0 := by decide
        obtain ⟨pt0_ra6, hP1, hK1, hD1⟩ := hB
        rw [ht] at hP1
        obtain ⟨hP2, hD2⟩ := va_join (wr := (wd_a0bd977d h1 g0 f20 h2 g1 f21 h3 g2 f22 h4 g3 f23 h5 g4 f24 h6 g5 f25 h7 g6 f26 h8 g7 f27)) (w1 := (wd_5013416a h0 0 r0 v1 v2 v3 v4 h1 h2 r1 h3 h4 h5 h6 v5 v6 h7 h8 r2 r3 v7 r4 r5 v8 v9 h9 r6 v10 v11 r7 v12 v13 r8 v14 w15 r9 v16 v17 r10 r11 r12 r13 r14 r15 v18 r16 r17 r18 v19 h9 g8 f28)) hP hD [0, 9] [1, 2, 3, 4, 5, 6, 7, 8] rfl rfl (by decide) (by decide) hk1 hFc hP1 hD1
        clear hP hD hPc hDc hKc hFc hP1 hK1 hD1 hk1 hz1
        generalize H1 = H at hP2 hS ⊢
        have hP := hP2.sub (ws' := (wd_c0e4689d h0 0 r0 v1 v2 v3 v4 h1 h2 r1 h3 h4 h5 h6 v5 v6 h7 h8 r2 r3 v7 r4 r5 v8 v9 h9 r6 v10 v11 r7 v12 v13 r8 v14 w15 r9 v16 v17 r10 r11 r12 r13 r14 r15 v18 r16 r17 r18 v19 h1 g0 f20 h2 g1 f21 h3 g2 f22 h4 g3 f23 h5 g4 f24 h6 g5 f25 h7 g6 f26 h8 g7 f27 h9 g8 f28)) [8, 0, 1, 2, 3, 4, 5, 6, 7, 9] rfl
        have hD := hD2.sub (ws' := (wd_c0e4689d h0 0 r0 v1 v2 v3 v4 h1 h2 r1 h3 h4 h5 h6 v5 v6 h7 h8 r2 r3 v7 r4 r5 v8 v9 h9 r6 v10 v11 r7 v12 v13 r8 v14 w15 r9 v16 v17 r10 r11 r12 r13 r14 r15 v18 r16 r17 r18 v19 h1 g0 f20 h2 g1 f21 h3 g2 f22 h4 g3 f23 h5 g4 f24 h6 g5 f25 h7 g6 f26 h8 g7 f27 h9 g8 f28)) [8, 0, 1, 2, 3, 4, 5, 6, 7, 9] (by decide +kernel) rfl
        clear hP2 hD2
        subst hQ
        have hP9 := hP.sub (ws' := (wd_c0e4689d h0 0 r0 v1 v2 v3 v4 h1 h2 r1 h3 h4 h5 h6 v5 v6 h7 h8 r2 r3 v7 r4 r5 v8 v9 h9 r6 v10 v11 r7 v12 v13 r8 v14 w15 r9 v16 v17 r10 r11 r12 r13 r14 r15 v18 r16 r17 r18 v19 h1 g0 f20 h2 g1 f21 h3 g2 f22 h4 g3 f23 h5 g4 f24 h6 g5 f25 h7 g6 f26 h8 g7 f27 h9 g8 f28)) [0, 1, 2, 3, 4, 5, 6, 7, 8, 9] rfl
        have hD9 := hD.sub (ws' := (wd_c0e4689d h0 0 r0 v1 v2 v3 v4 h1 h2 r1 h3 h4 h5 h6 v5 v6 h7 h8 r2 r3 v7 r4 r5 v8 v9 h9 r6 v10 v11 r7 v12 v13 r8 v14 w15 r9 v16 v17 r10 r11 r12 r13 r14 r15 v18 r16 r17 r18 v19 h1 g0 f20 h2 g1 f21 h3 g2 f22 h4 g3 f23 h5 g4 f24 h6 g5 f25 h7 g6 f26 h8 g7 f27 h9 g8 f28)) [0, 1, 2, 3, 4, 5, 6, 7, 8, 9] (by decide +kernel) rfl
        have hK9 := hK.sub (tys' := []) [] rfl
        exact W.iret (v := ra6) hx hb hr (fun t ht hW => ⟨⟨ra6, ra6, rfl, rfl, ⟨0, f26, f27, by decide, by decide, by rw [ht]; exact hP9, va_K.moved hW.alike hK9, hD9⟩⟩, hS.F ht⟩) hS.2.2 dX12_bag_57
      · skip
        have fc5 : v30.toInt = 7 := congrArg Int32.toInt c5
        refine lv_aload_n hx hb dX12_bag_43 rfl (lv_at hl 0 rfl) ?_
        refine lv_iload_n hx hb dX12_bag_44 rfl (lv_at hl 1 rfl) ?_
        have hPc := hP.sub (ws' := (wd_c0e4689d h0 0 r0 v1 v2 v3 v4 h1 h2 r1 h3 h4 h5 h6 v5 v6 h7 h8 r2 r3 v7 r4 r5 v8 v9 h9 r6 v10 v11 r7 v12 v13 r8 v14 w15 r9 v16 v17 r10 r11 r12 r13 r14 r15 v18 r16 r17 r18 v19 h1 g0 f20 h2 g1 f21 h3 g2 f22 h4 g3 f23 h5 g4 f24 h6 g5 f25 h7 g6 f26 h8 g7 f27 h9 g8 f28)) [0, 1, 2, 3, 4, 5, 6, 7, 8, 9] rfl
        have hDc := hD.sub (ws' := (wd_c0e4689d h0 0 r0 v1 v2 v3 v4 h1 h2 r1 h3 h4 h5 h6 v5 v6 h7 h8 r2 r3 v7 r4 r5 v8 v9 h9 r6 v10 v11 r7 v12 v13 r8 v14 w15 r9 v16 v17 r10 r11 r12 r13 r14 r15 v18 r16 r17 r18 v19 h1 g0 f20 h2 g1 f21 h3 g2 f22 h4 g3 f23 h5 g4 f24 h6 g5 f25 h7 g6 f26 h8 g7 f27 h9 g8 f28)) [0, 1, 2, 3, 4, 5, 6, 7, 8, 9] (by decide +kernel) rfl
        have hKc := hK.sub (tys' := [(g0, .int), (g1, .int), (g2, .int), (g3, .int), (g4, .int), (g5, .int), (g6, .int), (g7, .int), (g8, .int)]) [0, 1, 2, 3, 4, 5, 6, 7, 8] rfl
        have hFc := va_free (wc := (wd_c0e4689d h0 0 r0 v1 v2 v3 v4 h1 h2 r1 h3 h4 h5 h6 v5 v6 h7 h8 r2 r3 v7 r4 r5 v8 v9 h9 r6 v10 v11 r7 v12 v13 r8 v14 w15 r9 v16 v17 r10 r11 r12 r13 r14 r15 v18 r16 r17 r18 v19 h1 g0 f20 h2 g1 f21 h3 g2 f22 h4 g3 f23 h5 g4 f24 h6 g5 f25 h7 g6 f26 h8 g7 f27 h9 g8 f28)) hD hS hA [0, 1, 2, 3, 4, 5, 6, 7, 8, 9] rfl
        refine va_calli (va_runV (As := [.int v29]) (rest := []) ⟨hx, hb, hml, hown, hts⟩ (k_X12_growthOf l dC dI h0 h1 h2 h3 h4 h5 h6 h7 h8 h9 0 r0 v1 v2 v3 v4 r1 v5 v6 r2 r3 v7 r4 r5 v8 v9 r6 v10 v11 r7 v12 v13 r8 v14 w15 r9 v16 v17 r10 r11 r12 r13 r14 r15 v18 r16 r17 r18 v19 g0 f20 g1 f21 g2 f22 g3 f23 g4 f24 g5 f25 g6 f26 g7 f27 g8 f28 v29 ⟨i_v1a, i_v1b⟩ ⟨i_v5a, i_v5b⟩ ⟨i_v6a, i_v6b⟩ ⟨i_v7a, i_v7b⟩ ⟨i_v8a, i_v8b⟩ ⟨i_v9a, i_v9b⟩ ⟨i_v10a, i_v10b⟩ ⟨i_v14a, i_v14b⟩ ⟨i_v18a, i_v18b⟩ ⟨i_v19a, i_v19b⟩ ⟨by first | omega | decide, by first | omega | decide⟩ ia_f28.1 pp0 H.size) (cwV 1 hts g_X12_bag_3 rfl rfl rfl (by decide +kernel) ⟨Nat.le_of_ble_eq_true rfl, Nat.le_of_ble_eq_true rfl⟩) (pv_PV12 hPc hKc hDc (q0 := 0) rfl) rfl rfl hl.1 rfl (lv_room (Nat.le_of_ble_eq_true rfl)) dX12_bag_45 ⟨Nat.le_of_ble_eq_true rfl, Nat.le_of_ble_eq_true rfl⟩) hS (fun q _ h => hFc q h) hFc (fun ra7 u t H1 locs ht hvm hwra7 hB hz1 hk1 hS => ?_)
        try rw [hwra7] at hB
        have hkra7_0 : ((0 : Int32)).toInt = 0 := by decide
        obtain ⟨fn8, fn9, pt0_ra7, pt1_ra7, hP1, hK1, hD1⟩ := hB
        rw [ht] at hP1
        obtain ⟨hP2, hD2⟩ := va_join (wr := []) (w1 := (wd_c0e4689d h0 0 r0 v1 v2 v3 v4 h1 h2 r1 h3 h4 h5 h6 v5 v6 h7 h8 r2 r3 v7 r4 r5 v8 v9 h9 r6 v10 v11 r7 v12 v13 r8 v14 w15 r9 v16 v17 r10 r11 r12 r13 r14 r15 v18 r16 r17 r18 v19 h1 g0 f20 h2 g1 f21 h3 g2 f22 h4 g3 f23 h5 g4 f24 h6 g5 f25 h7 g6 fn8 h8 g7 fn9 h9 g8 f28)) hP hD [0, 1, 2, 3, 4, 5, 6, 7, 8, 9] [] rfl rfl (by decide) (by decide) hk1 hFc hP1 hD1
        clear hP hD hPc hDc hKc hFc hP1 hK1 hD1 hk1 hz1
        generalize H1 = H at hP2 hS ⊢
        have hP : va_P (dC, dI) vwCl (wd_c0e4689d h0 0 r0 v1 v2 v3 v4 h1 h2 r1 h3 h4 h5 h6 v5 v6 h7 h8 r2 r3 v7 r4 r5 v8 v9 h9 r6 v10 v11 r7 v12 v13 r8 v14 w15 r9 v16 v17 r10 r11 r12 r13 r14 r15 v18 r16 r17 r18 v19 h1 g0 f20 h2 g1 f21 h3 g2 f22 h4 g3 f23 h5 g4 f24 h6 g5 f25 h7 g6 fn8 h8 g7 fn9 h9 g8 f28) H := hP2
        have hD : va_D A (wd_c0e4689d h0 0 r0 v1 v2 v3 v4 h1 h2 r1 h3 h4 h5 h6 v5 v6 h7 h8 r2 r3 v7 r4 r5 v8 v9 h9 r6 v10 v11 r7 v12 v13 r8 v14 w15 r9 v16 v17 r10 r11 r12 r13 r14 r15 v18 r16 r17 r18 v19 h1 g0 f20 h2 g1 f21 h3 g2 f22 h4 g3 f23 h5 g4 f24 h6 g5 f25 h7 g6 fn8 h8 g7 fn9 h9 g8 f28) := hD2
        clear hP2 hD2
        refine lv_goto (tgt := 57) hx hb dX12_bag_48 (by decide) ?_
        subst hQ
        have hP9 := hP.sub (ws' := (wd_c0e4689d h0 0 r0 v1 v2 v3 v4 h1 h2 r1 h3 h4 h5 h6 v5 v6 h7 h8 r2 r3 v7 r4 r5 v8 v9 h9 r6 v10 v11 r7 v12 v13 r8 v14 w15 r9 v16 v17 r10 r11 r12 r13 r14 r15 v18 r16 r17 r18 v19 h1 g0 f20 h2 g1 f21 h3 g2 f22 h4 g3 f23 h5 g4 f24 h6 g5 f25 h7 g6 fn8 h8 g7 fn9 h9 g8 f28)) [0, 1, 2, 3, 4, 5, 6, 7, 8, 9] rfl
        have hD9 := hD.sub (ws' := (wd_c0e4689d h0 0 r0 v1 v2 v3 v4 h1 h2 r1 h3 h4 h5 h6 v5 v6 h7 h8 r2 r3 v7 r4 r5 v8 v9 h9 r6 v10 v11 r7 v12 v13 r8 v14 w15 r9 v16 v17 r10 r11 r12 r13 r14 r15 v18 r16 r17 r18 v19 h1 g0 f20 h2 g1 f21 h3 g2 f22 h4 g3 f23 h5 g4 f24 h6 g5 f25 h7 g6 fn8 h8 g7 fn9 h9 g8 f28)) [0, 1, 2, 3, 4, 5, 6, 7, 8, 9] (by decide +kernel) rfl
        have hK9 := hK.sub (tys' := []) [] rfl
        exact W.iret (v := ra7) hx hb hr (fun t ht hW => ⟨⟨ra7, ra7, rfl, rfl, ⟨0, fn8, fn9, by decide, by decide, by rw [ht]; exact hP9, va_K.moved hW.alike hK9, hD9⟩⟩, hS.F ht⟩) hS.2.2 dX12_bag_57
def q_X12_in_13 : List Cond := .code yX12_in cX12_in 3 (some .boolean) :: (([] : List Cond))
set_option maxHeartbeats 4000000 in
set_option maxRecDepth 100000 in
theorem k_X12_in_13 (l : Launch) (dC : Nat → ClassId) (dI : Nat → Nat → Nat) (v0 : Int32) (sz : Nat) : Met l yX12_in q_X12_in_13 ({ frames := 0, cells := 0, slots := 0, locals := 0 }) (va_Pc [.int v0, .int 0, .int 99] (fun U => U.heap.size = sz ∧ va_P (dC, dI) vwCl [] U.heap ∧ va_K (dC, dI) vwCl [] U ∧ va_D (fun _ => True) [])) (va_Qi (fun (r : Int32) (r9 : Int32) => r9 = r) (fun (r : Int32) (t : State) => ((0 ≤ r.toInt) ∧ (r.toInt ≤ 1) ∧ ((r.toInt = 1 → 0 ≤ v0.toInt)) ∧ ((r.toInt = 1 → v0.toInt ≤ 99)) ∧ (r.toInt = 0 → ¬ (0 ≤ v0.toInt ∧ v0.toInt ≤ 99)) ∧ va_P (dC, dI) vwCl [] t.heap ∧ va_K (dC, dI) vwCl [] t ∧ va_D (va_A [] sz) [])) (va_A [] sz)) 0 0 (va_A [] sz) := by
  refine Met.ofW (cc := cX12_in) (maxL := 3) (ret := (some .boolean)) (by decide) rfl ?_
  intro p e s m args below meth c s₁ B hml hv
  obtain ⟨rfl, hsz, hP, hK, hD0⟩ := hv
  have hx := B.exec
  have hb := B.bytes
  have hr := B.returns
  have hts := atoms_spec (ws := q_X12_in_13) B.pre
  have hown : s.vm.findClass RX12 = some m.cls := findClass_of_methodNamed B.named
  have hlocks := B.notSynchronized
  subst hsz
  have hD := hD0.self (sz := s.heap.size)
  generalize hAe : va_A [] s.heap.size = A at hD ⊢
  have hA : ∀ q : Nat, s.heap.size ≤ q → A q := fun q h => by rw [← hAe]; exact Or.inr h
  have hS : va_S A s.heap s.heap [] := va_S.rf
  generalize hQ : (MQ below _ _ s 0 0 A) = Q
  have hl := lv_entry ([.int v0, .int 0, .int 99]) (n := 3) (Nat.le_of_ble_eq_true rfl)
  rw [lg_entry_eq]
  generalize (lg_sl ([.int v0, .int 0, .int 99]) ++ List.replicate (3 - (lg_sl ([.int v0, .int 0, .int 99])).length) Slot.unset).toArray = ls at hl ⊢
  have hl : lv_has ls 3 [(0, .int v0), (1, .int 0), (2, .int 99)] := hl
  obtain ⟨H, hH⟩ : ∃ H : Heap, H = s.heap := ⟨_, rfl⟩
  obtain ⟨locs, hlocs⟩ : ∃ y : List Loc, y = [] := ⟨_, rfl⟩
  have hS : va_S A s.heap H locs := by rw [hH, hlocs]; exact va_S.rf
  have hP : va_P (dC, dI) vwCl [] H := by rw [hH]; exact hP
  rw [← hH, ← hlocs]
  refine lv_iload_n hx hb dX12_in_0 rfl (lv_at hl 0 rfl) ?_
  refine lv_iload_n hx hb dX12_in_1 rfl (lv_at hl 1 rfl) ?_
  refine lv_icmp_lt (tgt := 14) hx hb dX12_in_2 (by decide) (fun c1 => ?_) (fun c1 => ?_)
  · skip
    have fc1 : v0.toInt < 0 := Int32.lt_iff_toInt_lt.mp c1
    refine lv_iconst (v := 0) hx hb dX12_in_14 (by decide) ?_
    subst hQ
    have hP9 := hP.sub (ws' := []) [] rfl
    have hD9 := hD.sub (ws' := []) [] (by decide) rfl
    have hK9 := hK.sub (tys' := []) [] rfl
    exact W.zret (v := 0) hx hb hr rfl (fun t ht hW => ⟨⟨0, 0, rfl, rfl, ⟨by first | omega | decide, by first | omega | decide, fun h9 => absurd h9 (by decide), fun h9 => absurd h9 (by decide), fun _ => by omega, by rw [ht]; exact hP9, va_K.moved hW.alike hK9, hD9⟩⟩, hS.F ht⟩) hS.2.2 dX12_in_15
  · skip
    have fc1 : ¬ (v0.toInt < 0) := fun h9 => c1 (Int32.lt_iff_toInt_lt.mpr h9)
    refine lv_iload_n hx hb dX12_in_5 rfl (lv_at hl 0 rfl) ?_
    refine lv_iload_n hx hb dX12_in_6 rfl (lv_at hl 2 rfl) ?_
    refine lv_icmp_gt (tgt := 14) hx hb dX12_in_7 (by decide) (fun c2 => ?_) (fun c2 => ?_)
    · skip
      have fc2 : 99 < v0.toInt := Int32.lt_iff_toInt_lt.mp c2
      refine lv_iconst (v := 0) hx hb dX12_in_14 (by decide) ?_
      subst hQ
      have hP9 := hP.sub (ws' := []) [] rfl
      have hD9 := hD.sub (ws' := []) [] (by decide) rfl
      have hK9 := hK.sub (tys' := []) [] rfl
      exact W.zret (v := 0) hx hb hr rfl (fun t ht hW => ⟨⟨0, 0, rfl, rfl, ⟨by first | omega | decide, by first | omega | decide, fun h9 => absurd h9 (by decide), fun h9 => absurd h9 (by decide), fun _ => by omega, by rw [ht]; exact hP9, va_K.moved hW.alike hK9, hD9⟩⟩, hS.F ht⟩) hS.2.2 dX12_in_15
    · skip
      have fc2 : ¬ (99 < v0.toInt) := fun h9 => c2 (Int32.lt_iff_toInt_lt.mpr h9)
      refine lv_iconst (v := 1) hx hb dX12_in_10 (by decide) ?_
      refine lv_goto (tgt := 15) hx hb dX12_in_11 (by decide) ?_
      subst hQ
      have hP9 := hP.sub (ws' := []) [] rfl
      have hD9 := hD.sub (ws' := []) [] (by decide) rfl
      have hK9 := hK.sub (tys' := []) [] rfl
      exact W.zret (v := 1) hx hb hr rfl (fun t ht hW => ⟨⟨1, 1, rfl, rfl, ⟨by first | omega | decide, by first | omega | decide, fun _ => by omega, fun _ => by omega, fun h9 => absurd h9 (by decide), by rw [ht]; exact hP9, va_K.moved hW.alike hK9, hD9⟩⟩, hS.F ht⟩) hS.2.2 dX12_in_15
def q_X12_large : List Cond := .code yX12_large cX12_large 4 (some .int) :: (([.code yX12_isThere cX12_isThere 2 (some .boolean), .code yX12_in cX12_in 3 (some .boolean), .initialized RX12, .static yX12_in, .methodLink RX12 217 yX12_in, .code yX12_of cX12_of 3 (some .int), .fieldLink RX12 52 "LeftArgumentsModel" "now" "[I", .instanceMethod yX12_of, .selects RX12 yX12_of yX12_of, .methodLink RX12 287 yX12_of, .instanceMethod yX12_isThere, .selects RX12 yX12_isThere yX12_isThere, .methodLink RX12 290 yX12_isThere, .code yX12_putAside cX12_putAside 3 none, .fieldLink RX12 71 "LeftArgumentsModel" "aside" "[I", .instanceMethod yX12_putAside, .selects RX12 yX12_putAside yX12_putAside, .methodLink RX12 375 yX12_putAside, .code yX12_sizeNow cX12_sizeNow 2 (some .int), .instanceMethod yX12_sizeNow, .selects RX12 yX12_sizeNow yX12_sizeNow, .methodLink RX12 378 yX12_sizeNow, .code yX12_takeBack cX12_takeBack 3 none, .instanceMethod yX12_takeBack, .selects RX12 yX12_takeBack yX12_takeBack, .methodLink RX12 381 yX12_takeBack, .code yX12_live cX12_live 2 none, .code yX12_growAll cX12_growAll 2 none, .fieldLink RX12 65 "LeftArgumentsModel" "grows" "[I", .methodLink RX12 299 Lib.Math.min.name, .static Lib.Math.min.name, .initialized "java/lang/Math", .code Lib.Math.min.name Lib.Math.min.code 2 (some .int), .methodLink RX12 301 Lib.Math.max.name, .static Lib.Math.max.name, .code Lib.Math.max.name Lib.Math.max.code 2 (some .int), .code yX12_set cX12_set 4 none, .instanceMethod yX12_set, .selects RX12 yX12_set yX12_set, .methodLink RX12 258 yX12_set, .code yX12_growthOf cX12_growthOf 4 (some .int), .code yX12_withOf cX12_withOf 4 (some .int), .instanceMethod yX12_withOf, .selects RX12 yX12_withOf yX12_withOf, .methodLink RX12 293 yX12_withOf, .fieldLink RX12 58 "LeftArgumentsModel" "holding" "I", .fieldLink RX12 34 "LeftArgumentsModel" "letters" "[I", .code yX12_worthOf cX12_worthOf 3 (some .int), .fieldLink RX12 22 "LeftArgumentsModel" "clauses" "[I", .fieldLink RX12 25 "LeftArgumentsModel" "testFrom" "[I", .fieldLink RX12 28 "LeftArgumentsModel" "sumFrom" "[I", .fieldLink RX12 31 "LeftArgumentsModel" "sumTo" "[I", .code yX12_workOut cX12_workOut 6 (some .int), .fieldLink RX12 37 "LeftArgumentsModel" "stack" "[I", .fieldLink RX12 13 "LeftArgumentsModel" "code" "[I", .fieldLink RX12 16 "LeftArgumentsModel" "value" "[I", .code yX12_worked cX12_worked 5 (some .int), .code yX12_bounded cX12_bounded 2 (some .int), .constantLong RX12 192 (-1000000), .constantLong RX12 194 (1000000), .methodLink RX12 196 Lib.MathLoose.min_long.x, .static Lib.MathLoose.min_long.x, .code Lib.MathLoose.min_long.x Lib.MathLoose.min_long.code 4 (some .long), .methodLink RX12 202 Lib.MathLoose.max_long.x, .static Lib.MathLoose.max_long.x, .code Lib.MathLoose.max_long.x Lib.MathLoose.max_long.code 4 (some .long), .static yX12_bounded, .methodLink RX12 205 yX12_bounded, .static yX12_worked, .methodLink RX12 209 yX12_worked, .instanceMethod yX12_workOut, .selects RX12 yX12_workOut yX12_workOut, .methodLink RX12 213 yX12_workOut, .instanceMethod yX12_worthOf, .selects RX12 yX12_worthOf yX12_worthOf, .methodLink RX12 296 yX12_worthOf, .instanceMethod yX12_growthOf, .selects RX12 yX12_growthOf yX12_growthOf, .methodLink RX12 303 yX12_growthOf, .instanceMethod yX12_growAll, .selects RX12 yX12_growAll yX12_growAll, .methodLink RX12 318 yX12_growAll, .code yX12_endAll cX12_endAll 2 none, .fieldLink RX12 306 "LeftArgumentsModel" "ended" "I", .instanceMethod yX12_endAll, .selects RX12 yX12_endAll yX12_endAll, .methodLink RX12 321 yX12_endAll, .code yX12_dropAll cX12_dropAll 3 none, .fieldLink RX12 309 "LeftArgumentsModel" "fell" "I", .fieldLink RX12 46 "LeftArgumentsModel" "rule" "[I", .code yX12_loadOf cX12_loadOf 4 (some .int), .instanceMethod yX12_loadOf, .selects RX12 yX12_loadOf yX12_loadOf, .methodLink RX12 312 yX12_loadOf, .code yX12_largestOn cX12_largestOn 4 (some .int), .instanceMethod yX12_largestOn, .selects RX12 yX12_largestOn yX12_largestOn, .methodLink RX12 315 yX12_largestOn, .instanceMethod yX12_dropAll, .selects RX12 yX12_dropAll yX12_dropAll, .methodLink RX12 324 yX12_dropAll, .instanceMethod yX12_live, .selects RX12 yX12_live yX12_live, .methodLink RX12 327 yX12_live] : List Cond) ++ wsX120)
set_option maxRecDepth 20000 in
theorem g_X12_large_0 : GoodIn q_X12_large (wsV RX12 290 RX12 yX12_isThere q_X12_isThere) := goodIn_app (goodIn_r _ [13, 11, 12, 3] rfl (by decide +kernel)) (goodIn_ca (goodIn_r (.code yX12_isThere cX12_isThere 2 (some .boolean) :: [.code yX12_in cX12_in 3 (some .boolean), .initialized RX12, .static yX12_in, .methodLink RX12 217 yX12_in, .code yX12_of cX12_of 3 (some .int), .fieldLink RX12 52 "LeftArgumentsModel" "now" "[I", .instanceMethod yX12_of, .selects RX12 yX12_of yX12_of, .methodLink RX12 287 yX12_of]) [1, 2, 3, 4, 5, 6, 7, 8, 9, 10] rfl (by decide +kernel)) (goodIn_sub (fun _ h => List.mem_cons_of_mem _ (List.mem_append_right _ h)) gwX12))
set_option maxRecDepth 20000 in
theorem g_X12_large_1 : GoodIn q_X12_large (va_wsS RX12 217 yX12_in q_X12_in_13) := goodIn_app (goodIn_r _ [5, 4, 3] rfl (by decide +kernel)) (goodIn_r (.code yX12_in cX12_in 3 (some .boolean) :: []) [2] rfl (by decide +kernel))
set_option maxRecDepth 20000 in
theorem g_X12_large_2 : GoodIn q_X12_large (wsV RX12 375 RX12 yX12_putAside q_X12_putAside) := goodIn_app (goodIn_r _ [18, 16, 17, 3] rfl (by decide +kernel)) (goodIn_ca (goodIn_r (.code yX12_putAside cX12_putAside 3 none :: [.fieldLink RX12 71 "LeftArgumentsModel" "aside" "[I", .fieldLink RX12 52 "LeftArgumentsModel" "now" "[I"]) [14, 15, 7] rfl (by decide +kernel)) (goodIn_sub (fun _ h => List.mem_cons_of_mem _ (List.mem_append_right _ h)) gwX12))
set_option maxRecDepth 20000 in
theorem g_X12_large_3 : GoodIn q_X12_large (wsV RX12 378 RX12 yX12_sizeNow q_X12_sizeNow) := goodIn_app (goodIn_r _ [22, 20, 21, 3] rfl (by decide +kernel)) (goodIn_ca (goodIn_r (.code yX12_sizeNow cX12_sizeNow 2 (some .int) :: [.code yX12_isThere cX12_isThere 2 (some .boolean), .code yX12_in cX12_in 3 (some .boolean), .initialized RX12, .static yX12_in, .methodLink RX12 217 yX12_in, .code yX12_of cX12_of 3 (some .int), .fieldLink RX12 52 "LeftArgumentsModel" "now" "[I", .instanceMethod yX12_of, .selects RX12 yX12_of yX12_of, .methodLink RX12 287 yX12_of, .instanceMethod yX12_isThere, .selects RX12 yX12_isThere yX12_isThere, .methodLink RX12 290 yX12_isThere]) [19, 1, 2, 3, 4, 5, 6, 7, 8, 9, 10, 11, 12, 13] rfl (by decide +kernel)) (goodIn_sub (fun _ h => List.mem_cons_of_mem _ (List.mem_append_right _ h)) gwX12))
set_option maxRecDepth 20000 in
theorem g_X12_large_4 : GoodIn q_X12_large (wsV RX12 381 RX12 yX12_takeBack q_X12_takeBack) := goodIn_app (goodIn_r _ [26, 24, 25, 3] rfl (by decide +kernel)) (goodIn_ca (goodIn_r (.code yX12_takeBack cX12_takeBack 3 none :: [.fieldLink RX12 52 "LeftArgumentsModel" "now" "[I", .fieldLink RX12 71 "LeftArgumentsModel" "aside" "[I"]) [23, 7, 15] rfl (by decide +kernel)) (goodIn_sub (fun _ h => List.mem_cons_of_mem _ (List.mem_append_right _ h)) gwX12))
set_option maxRecDepth 20000 in
theorem g_X12_large_5 : GoodIn q_X12_large (wsV RX12 327 RX12 yX12_live q_X12_live) := goodIn_app (goodIn_r _ [104, 102, 103, 3] rfl (by decide +kernel)) (goodIn_ca (goodIn_r (.code yX12_live cX12_live 2 none :: [.code yX12_growAll cX12_growAll 2 none, .code yX12_isThere cX12_isThere 2 (some .boolean), .code yX12_in cX12_in 3 (some .boolean), .initialized RX12, .static yX12_in, .methodLink RX12 217 yX12_in, .code yX12_of cX12_of 3 (some .int), .fieldLink RX12 52 "LeftArgumentsModel" "now" "[I", .instanceMethod yX12_of, .selects RX12 yX12_of yX12_of, .methodLink RX12 287 yX12_of, .instanceMethod yX12_isThere, .selects RX12 yX12_isThere yX12_isThere, .methodLink RX12 290 yX12_isThere, .fieldLink RX12 65 "LeftArgumentsModel" "grows" "[I", .methodLink RX12 299 Lib.Math.min.name, .static Lib.Math.min.name, .initialized "java/lang/Math", .code Lib.Math.min.name Lib.Math.min.code 2 (some .int), .methodLink RX12 301 Lib.Math.max.name, .static Lib.Math.max.name, .code Lib.Math.max.name Lib.Math.max.code 2 (some .int), .code yX12_set cX12_set 4 none, .instanceMethod yX12_set, .selects RX12 yX12_set yX12_set, .methodLink RX12 258 yX12_set, .code yX12_growthOf cX12_growthOf 4 (some .int), .code yX12_withOf cX12_withOf 4 (some .int), .instanceMethod yX12_withOf, .selects RX12 yX12_withOf yX12_withOf, .methodLink RX12 293 yX12_withOf, .fieldLink RX12 58 "LeftArgumentsModel" "holding" "I", .fieldLink RX12 34 "LeftArgumentsModel" "letters" "[I", .code yX12_worthOf cX12_worthOf 3 (some .int), .fieldLink RX12 22 "LeftArgumentsModel" "clauses" "[I", .fieldLink RX12 25 "LeftArgumentsModel" "testFrom" "[I", .fieldLink RX12 28 "LeftArgumentsModel" "sumFrom" "[I", .fieldLink RX12 31 "LeftArgumentsModel" "sumTo" "[I", .code yX12_workOut cX12_workOut 6 (some .int), .fieldLink RX12 37 "LeftArgumentsModel" "stack" "[I", .fieldLink RX12 13 "LeftArgumentsModel" "code" "[I", .fieldLink RX12 16 "LeftArgumentsModel" "value" "[I", .code yX12_worked cX12_worked 5 (some .int), .code yX12_bounded cX12_bounded 2 (some .int), .constantLong RX12 192 (-1000000), .constantLong RX12 194 (1000000), .methodLink RX12 196 Lib.MathLoose.min_long.x, .static Lib.MathLoose.min_long.x, .code Lib.MathLoose.min_long.x Lib.MathLoose.min_long.code 4 (some .long), .methodLink RX12 202 Lib.MathLoose.max_long.x, .static Lib.MathLoose.max_long.x, .code Lib.MathLoose.max_long.x Lib.MathLoose.max_long.code 4 (some .long), .static yX12_bounded, .methodLink RX12 205 yX12_bounded, .static yX12_worked, .methodLink RX12 209 yX12_worked, .instanceMethod yX12_workOut, .selects RX12 yX12_workOut yX12_workOut, .methodLink RX12 213 yX12_workOut, .instanceMethod yX12_worthOf, .selects RX12 yX12_worthOf yX12_worthOf, .methodLink RX12 296 yX12_worthOf, .instanceMethod yX12_growthOf, .selects RX12 yX12_growthOf yX12_growthOf, .methodLink RX12 303 yX12_growthOf, .instanceMethod yX12_growAll, .selects RX12 yX12_growAll yX12_growAll, .methodLink RX12 318 yX12_growAll, .code yX12_endAll cX12_endAll 2 none, .fieldLink RX12 306 "LeftArgumentsModel" "ended" "I", .instanceMethod yX12_endAll, .selects RX12 yX12_endAll yX12_endAll, .methodLink RX12 321 yX12_endAll, .code yX12_dropAll cX12_dropAll 3 none, .fieldLink RX12 309 "LeftArgumentsModel" "fell" "I", .fieldLink RX12 46 "LeftArgumentsModel" "rule" "[I", .code yX12_loadOf cX12_loadOf 4 (some .int), .instanceMethod yX12_loadOf, .selects RX12 yX12_loadOf yX12_loadOf, .methodLink RX12 312 yX12_loadOf, .code yX12_largestOn cX12_largestOn 4 (some .int), .instanceMethod yX12_largestOn, .selects RX12 yX12_largestOn yX12_largestOn, .methodLink RX12 315 yX12_largestOn, .instanceMethod yX12_dropAll, .selects RX12 yX12_dropAll yX12_dropAll, .methodLink RX12 324 yX12_dropAll]) [27, 28, 1, 2, 3, 4, 5, 6, 7, 8, 9, 10, 11, 12, 13, 29, 30, 31, 32, 33, 34, 35, 36, 37, 38, 39, 40, 41, 42, 43, 44, 45, 46, 47, 48, 49, 50, 51, 52, 53, 54, 55, 56, 57, 58, 59, 60, 61, 62, 63, 64, 65, 66, 67, 68, 69, 70, 71, 72, 73, 74, 75, 76, 77, 78, 79, 80, 81, 82, 83, 84, 85, 86, 87, 88, 89, 90, 91, 92, 93, 94, 95, 96, 97, 98, 99, 100, 101] rfl (by decide +kernel)) (goodIn_sub (fun _ h => List.mem_cons_of_mem _ (List.mem_append_right _ h)) gwX12))
set_option maxHeartbeats 4000000 in
set_option maxRecDepth 100000 in
theorem k_X12_large (l : Launch) (dC : Nat → ClassId) (dI : Nat → Nat → Nat) (h0 : Nat) (h1 : Nat) (h2 : Nat) (h3 : Nat) (h4 : Nat) (h5 : Nat) (h6 : Nat) (h7 : Nat) (h8 : Nat) (h9 : Nat) (h10 : Nat) (h11 : Nat) (h12 : Nat) (v0 : Int32) (r0 : Nat) (v1 : Int32) (v2 : Int32) (v3 : Int32) (v4 : Int32) (r1 : Nat) (v5 : Int32) (v6 : Int32) (r2 : Nat) (r3 : Nat) (v7 : Int32) (r4 : Nat) (v8 : Int32) (v9 : Int32) (r5 : Nat) (v10 : Int32) (v11 : Int32) (v12 : Int32) (v13 : Int32) (r6 : Nat) (v14 : Int32) (w15 : Int64) (v16 : Int32) (v17 : Int32) (r7 : Nat) (r8 : Nat) (r9 : Nat) (r10 : Nat) (r11 : Nat) (r12 : Nat) (v18 : Int32) (r13 : Nat) (r14 : Nat) (r15 : Nat) (v19 : Int32) (g0 : ClassId) (f20 : Nat → Int32) (g1 : ClassId) (f21 : Nat → Int32) (g2 : ClassId) (f22 : Nat → Int32) (g3 : ClassId) (f23 : Nat → Int32) (g4 : ClassId) (f24 : Nat → Int32) (g5 : ClassId) (f25 : Nat → Int32) (g6 : ClassId) (f26 : Nat → Int32) (g7 : ClassId) (f27 : Nat → Int32) (g8 : ClassId) (f28 : Nat → Int32) (g9 : ClassId) (f29 : Nat → Int32) (g10 : ClassId) (f30 : Nat → Int32) (g11 : ClassId) (f31 : Nat → Int32) (v32 : Int32) (v33 : Int32) (i_v1 : 0 ≤ v1.toInt ∧ v1.toInt ≤ 240) (i_v5 : 0 ≤ v5.toInt ∧ v5.toInt ≤ 4) (i_v6 : 0 ≤ v6.toInt ∧ v6.toInt ≤ 4) (i_v7 : 0 ≤ v7.toInt ∧ v7.toInt ≤ 8) (i_v8 : 0 ≤ v8.toInt ∧ v8.toInt ≤ 8) (i_v9 : 0 ≤ v9.toInt ∧ v9.toInt ≤ 1) (i_v10 : -1 ≤ v10.toInt ∧ v10.toInt ≤ 3) (i_v14 : 0 ≤ v14.toInt ∧ v14.toInt ≤ 40) (i_v18 : 0 ≤ v18.toInt ∧ v18.toInt ≤ 10) (i_v19 : 0 ≤ v19.toInt ∧ v19.toInt ≤ 1) (ia_f28 : (pm_RU f28)) (ia_f29 : (pm_NW f29)) (ia_f31 : (pm_AS f31)) (pp0 : pm_Held v10 f20 f21 f22 f23 f24 f25) (sz : Nat) : Met l yX12_large q_X12_large ({ frames := 8, cells := 0, slots := 0, locals := 174 }) (va_Pc [.ref h0, .int v32, .int v33] (fun U => U.heap.size = sz ∧ va_P (dC, dI) vwCl (wd_cfaca2a5 h0 v0 r0 v1 v2 v3 v4 h1 h2 r1 h3 h4 h5 h6 v5 v6 h7 h8 r2 r3 v7 h9 r4 v8 v9 h10 r5 v10 v11 h11 v12 v13 r6 v14 w15 h12 v16 v17 r7 r8 r9 r10 r11 r12 v18 r13 r14 r15 v19 h1 g0 f20 h2 g1 f21 h3 g2 f22 h4 g3 f23 h5 g4 f24 h6 g5 f25 h7 g6 f26 h8 g7 f27 h9 g8 f28 h10 g9 f29 h11 g10 f30 h12 g11 f31) U.heap ∧ va_K (dC, dI) vwCl [(g0, .int), (g1, .int), (g2, .int), (g3, .int), (g4, .int), (g5, .int), (g6, .int), (g7, .int), (g8, .int), (g9, .int), (g10, .int), (g11, .int)] U ∧ va_D (fun _ => True) (wd_cfaca2a5 h0 v0 r0 v1 v2 v3 v4 h1 h2 r1 h3 h4 h5 h6 v5 v6 h7 h8 r2 r3 v7 h9 r4 v8 v9 h10 r5 v10 v11 h11 v12 v13 r6 v14 w15 h12 v16 v17 r7 r8 r9 r10 r11 r12 v18 r13 r14 r15 v19 h1 g0 f20 h2 g1 f21 h3 g2 f22 h4 g3 f23 h5 g4 f24 h6 g5 f25 h7 g6 f26 h8 g7 f27 h9 g8 f28 h10 g9 f29 h11 g10 f30 h12 g11 f31))) (va_Qi (fun (r : Int32) (r9 : Int32) => r9 = r) (fun (r : Int32) (t : State) => (∃ (o_h0_29 : Int32) (o_h0_30 : Int32) (o_h7 : Nat → Int32) (o_h8 : Nat → Int32) (o_h10 : Nat → Int32) (o_h11 : Nat → Int32) (o_h12 : Nat → Int32), (pm_NW o_h10) ∧ (pm_AS o_h12) ∧ (-1 ≤ r.toInt) ∧ (r.toInt ≤ 99) ∧ va_P (dC, dI) vwCl (wd_cfaca2a5 h0 v0 r0 v1 v2 v3 v4 h1 h2 r1 h3 h4 h5 h6 v5 v6 h7 h8 r2 r3 v7 h9 r4 v8 v9 h10 r5 v10 v11 h11 o_h0_29 o_h0_30 r6 v14 w15 h12 v16 v17 r7 r8 r9 r10 r11 r12 v18 r13 r14 r15 v19 h1 g0 f20 h2 g1 f21 h3 g2 f22 h4 g3 f23 h5 g4 f24 h6 g5 f25 h7 g6 o_h7 h8 g7 o_h8 h9 g8 f28 h10 g9 o_h10 h11 g10 o_h11 h12 g11 o_h12) t.heap ∧ va_K (dC, dI) vwCl [] t ∧ va_D (va_A (wd_cfaca2a5 h0 v0 r0 v1 v2 v3 v4 h1 h2 r1 h3 h4 h5 h6 v5 v6 h7 h8 r2 r3 v7 h9 r4 v8 v9 h10 r5 v10 v11 h11 v12 v13 r6 v14 w15 h12 v16 v17 r7 r8 r9 r10 r11 r12 v18 r13 r14 r15 v19 h1 g0 f20 h2 g1 f21 h3 g2 f22 h4 g3 f23 h5 g4 f24 h6 g5 f25 h7 g6 f26 h8 g7 f27 h9 g8 f28 h10 g9 f29 h11 g10 f30 h12 g11 f31) sz) (wd_cfaca2a5 h0 v0 r0 v1 v2 v3 v4 h1 h2 r1 h3 h4 h5 h6 v5 v6 h7 h8 r2 r3 v7 h9 r4 v8 v9 h10 r5 v10 v11 h11 o_h0_29 o_h0_30 r6 v14 w15 h12 v16 v17 r7 r8 r9 r10 r11 r12 v18 r13 r14 r15 v19 h1 g0 f20 h2 g1 f21 h3 g2 f22 h4 g3 f23 h5 g4 f24 h6 g5 f25 h7 g6 o_h7 h8 g7 o_h8 h9 g8 f28 h10 g9 o_h10 h11 g10 o_h11 h12 g11 o_h12))) (va_A (wd_cfaca2a5 h0 v0 r0 v1 v2 v3 v4 h1 h2 r1 h3 h4 h5 h6 v5 v6 h7 h8 r2 r3 v7 h9 r4 v8 v9 h10 r5 v10 v11 h11 v12 v13 r6 v14 w15 h12 v16 v17 r7 r8 r9 r10 r11 r12 v18 r13 r14 r15 v19 h1 g0 f20 h2 g1 f21 h3 g2 f22 h4 g3 f23 h5 g4 f24 h6 g5 f25 h7 g6 f26 h8 g7 f27 h9 g8 f28 h10 g9 f29 h11 g10 f30 h12 g11 f31) sz)) 0 0 (va_A (wd_cfaca2a5 h0 v0 r0 v1 v2 v3 v4 h1 h2 r1 h3 h4 h5 h6 v5 v6 h7 h8 r2 r3 v7 h9 r4 v8 v9 h10 r5 v10 v11 h11 v12 v13 r6 v14 w15 h12 v16 v17 r7 r8 r9 r10 r11 r12 v18 r13 r14 r15 v19 h1 g0 f20 h2 g1 f21 h3 g2 f22 h4 g3 f23 h5 g4 f24 h6 g5 f25 h7 g6 f26 h8 g7 f27 h9 g8 f28 h10 g9 f29 h11 g10 f30 h12 g11 f31) sz) := by
  refine Met.ofW (cc := cX12_large) (maxL := 4) (ret := (some .int)) (by decide) rfl ?_
  intro p e s m args below meth c s₁ B hml hv
  obtain ⟨i_v1a, i_v1b⟩ := i_v1
  obtain ⟨i_v5a, i_v5b⟩ := i_v5
  obtain ⟨i_v6a, i_v6b⟩ := i_v6
  obtain ⟨i_v7a, i_v7b⟩ := i_v7
  obtain ⟨i_v8a, i_v8b⟩ := i_v8
  obtain ⟨i_v9a, i_v9b⟩ := i_v9
  obtain ⟨i_v10a, i_v10b⟩ := i_v10
  obtain ⟨i_v14a, i_v14b⟩ := i_v14
  obtain ⟨i_v18a, i_v18b⟩ := i_v18
  obtain ⟨i_v19a, i_v19b⟩ := i_v19
  obtain ⟨rfl, hsz, hP, hK, hD0⟩ := hv
  have hx := B.exec
  have hb := B.bytes
  have hr := B.returns
  have hts := atoms_spec (ws := q_X12_large) B.pre
  have hown : s.vm.findClass RX12 = some m.cls := findClass_of_methodNamed B.named
  have hlocks := B.notSynchronized
  subst hsz
  have hD := hD0.self (sz := s.heap.size)
  generalize hAe : va_A (wd_cfaca2a5 h0 v0 r0 v1 v2 v3 v4 h1 h2 r1 h3 h4 h5 h6 v5 v6 h7 h8 r2 r3 v7 h9 r4 v8 v9 h10 r5 v10 v11 h11 v12 v13 r6 v14 w15 h12 v16 v17 r7 r8 r9 r10 r11 r12 v18 r13 r14 r15 v19 h1 g0 f20 h2 g1 f21 h3 g2 f22 h4 g3 f23 h5 g4 f24 h6 g5 f25 h7 g6 f26 h8 g7 f27 h9 g8 f28 h10 g9 f29 h11 g10 f30 h12 g11 f31) s.heap.size = A at hD ⊢
  have hA : ∀ q : Nat, s.heap.size ≤ q → A q := fun q h => by rw [← hAe]; exact Or.inr h
  have hS : va_S A s.heap s.heap [] := va_S.rf
  generalize hQ : (MQ below _ _ s 0 0 A) = Q
  have hl := lv_entry ([.ref h0, .int v32, .int v33]) (n := 4) (Nat.le_of_ble_eq_true rfl)
  rw [lg_entry_eq]
  generalize (lg_sl ([.ref h0, .int v32, .int v33]) ++ List.replicate (4 - (lg_sl ([.ref h0, .int v32, .int v33])).length) Slot.unset).toArray = ls at hl ⊢
  have hl : lv_has ls 4 [(0, .ref h0), (1, .int v32), (2, .int v33)] := hl
  obtain ⟨H, hH⟩ : ∃ H : Heap, H = s.heap := ⟨_, rfl⟩
  obtain ⟨locs, hlocs⟩ : ∃ y : List Loc, y = [] := ⟨_, rfl⟩
  have hS : va_S A s.heap H locs := by rw [hH, hlocs]; exact va_S.rf
  have hP : va_P (dC, dI) vwCl (wd_cfaca2a5 h0 v0 r0 v1 v2 v3 v4 h1 h2 r1 h3 h4 h5 h6 v5 v6 h7 h8 r2 r3 v7 h9 r4 v8 v9 h10 r5 v10 v11 h11 v12 v13 r6 v14 w15 h12 v16 v17 r7 r8 r9 r10 r11 r12 v18 r13 r14 r15 v19 h1 g0 f20 h2 g1 f21 h3 g2 f22 h4 g3 f23 h5 g4 f24 h6 g5 f25 h7 g6 f26 h8 g7 f27 h9 g8 f28 h10 g9 f29 h11 g10 f30 h12 g11 f31) H := by rw [hH]; exact hP
  rw [← hH, ← hlocs]
  refine lv_aload_n hx hb dX12_large_0 rfl (lv_at hl 0 rfl) ?_
  refine lv_iload_n hx hb dX12_large_1 rfl (lv_at hl 1 rfl) ?_
  have hPc := hP.sub (ws' := (wd_5013416a h0 v0 r0 v1 v2 v3 v4 h1 h2 r1 h3 h4 h5 h6 v5 v6 h7 h8 r2 r3 v7 h9 r4 v8 v9 h10 r5 v10 v11 h11 v12 v13 r6 v14 w15 h12 v16 v17 r7 r8 r9 r10 r11 r12 v18 r13 r14 r15 v19 h10 g9 f29)) [0, 10] rfl
  have hDc := hD.sub (ws' := (wd_5013416a h0 v0 r0 v1 v2 v3 v4 h1 h2 r1 h3 h4 h5 h6 v5 v6 h7 h8 r2 r3 v7 h9 r4 v8 v9 h10 r5 v10 v11 h11 v12 v13 r6 v14 w15 h12 v16 v17 r7 r8 r9 r10 r11 r12 v18 r13 r14 r15 v19 h10 g9 f29)) [0, 10] (by decide) rfl
  have hKc := hK.sub (tys' := [(g9, .int)]) [9] rfl
  have hFc := va_free (wc := (wd_5013416a h0 v0 r0 v1 v2 v3 v4 h1 h2 r1 h3 h4 h5 h6 v5 v6 h7 h8 r2 r3 v7 h9 r4 v8 v9 h10 r5 v10 v11 h11 v12 v13 r6 v14 w15 h12 v16 v17 r7 r8 r9 r10 r11 r12 v18 r13 r14 r15 v19 h10 g9 f29)) hD hS hA [0, 10] rfl
  refine va_calli (va_runV (As := [.int v32]) (rest := []) ⟨hx, hb, hml, hown, hts⟩ (k_X12_isThere l dC dI h0 h10 v0 r0 v1 v2 v3 v4 h1 h2 r1 h3 h4 h5 h6 v5 v6 h7 h8 r2 r3 v7 h9 r4 v8 v9 r5 v10 v11 h11 v12 v13 r6 v14 w15 h12 v16 v17 r7 r8 r9 r10 r11 r12 v18 r13 r14 r15 v19 g9 f29 v32 ⟨i_v1a, i_v1b⟩ ⟨i_v5a, i_v5b⟩ ⟨i_v6a, i_v6b⟩ ⟨i_v7a, i_v7b⟩ ⟨i_v8a, i_v8b⟩ ⟨i_v9a, i_v9b⟩ ⟨i_v10a, i_v10b⟩ ⟨i_v14a, i_v14b⟩ ⟨i_v18a, i_v18b⟩ ⟨i_v19a, i_v19b⟩ ia_f29.1 H.size) (cwV 1 hts g_X12_large_0 rfl rfl rfl (by decide +kernel) ⟨Nat.le_of_ble_eq_true rfl, Nat.le_of_ble_eq_true rfl⟩) (pv_PV12 hPc hKc hDc (q0 := 0) rfl) rfl rfl hl.1 rfl (lv_room (Nat.le_of_ble_eq_true rfl)) dX12_large_2 ⟨Nat.le_of_ble_eq_true rfl, Nat.le_of_ble_eq_true rfl⟩) hS (fun q _ h => hFc q h) hFc (fun ra1 u t H1 locs ht hvm hwra1 hB hz1 hk1 hS => ?_)
  try rw [hwra1] at hB
  obtain ⟨pt0_ra1, pt1_ra1, pt2_ra1, pt3_ra1, pt4_ra1, pt5_ra1, hP1, hK1, hD1⟩ := hB
  rw [ht] at hP1
  obtain ⟨hP2, hD2⟩ := va_join (wr := (wd_e8ff9da7 h1 g0 f20 h2 g1 f21 h3 g2 f22 h4 g3 f23 h5 g4 f24 h6 g5 f25 h7 g6 f26 h8 g7 f27 h9 g8 f28 h11 g10 f30 h12 g11 f31)) (w1 := (wd_5013416a h0 v0 r0 v1 v2 v3 v4 h1 h2 r1 h3 h4 h5 h6 v5 v6 h7 h8 r2 r3 v7 h9 r4 v8 v9 h10 r5 v10 v11 h11 v12 v13 r6 v14 w15 h12 v16 v17 r7 r8 r9 r10 r11 r12 v18 r13 r14 r15 v19 h10 g9 f29)) hP hD [0, 10] [1, 2, 3, 4, 5, 6, 7, 8, 9, 11, 12] rfl rfl (by decide +kernel) (by decide +kernel) hk1 hFc hP1 hD1
  clear hP hD hPc hDc hKc hFc hP1 hK1 hD1 hk1 hz1
  generalize H1 = H at hP2 hS ⊢
  have hP := hP2.sub (ws' := (wd_cfaca2a5 h0 v0 r0 v1 v2 v3 v4 h1 h2 r1 h3 h4 h5 h6 v5 v6 h7 h8 r2 r3 v7 h9 r4 v8 v9 h10 r5 v10 v11 h11 v12 v13 r6 v14 w15 h12 v16 v17 r7 r8 r9 r10 r11 r12 v18 r13 r14 r15 v19 h1 g0 f20 h2 g1 f21 h3 g2 f22 h4 g3 f23 h5 g4 f24 h6 g5 f25 h7 g6 f26 h8 g7 f27 h9 g8 f28 h10 g9 f29 h11 g10 f30 h12 g11 f31)) [11, 0, 1, 2, 3, 4, 5, 6, 7, 8, 12, 9, 10] rfl
  have hD := hD2.sub (ws' := (wd_cfaca2a5 h0 v0 r0 v1 v2 v3 v4 h1 h2 r1 h3 h4 h5 h6 v5 v6 h7 h8 r2 r3 v7 h9 r4 v8 v9 h10 r5 v10 v11 h11 v12 v13 r6 v14 w15 h12 v16 v17 r7 r8 r9 r10 r11 r12 v18 r13 r14 r15 v19 h1 g0 f20 h2 g1 f21 h3 g2 f22 h4 g3 f23 h5 g4 f24 h6 g5 f25 h7 g6 f26 h8 g7 f27 h9 g8 f28 h10 g9 f29 h11 g10 f30 h12 g11 f31)) [11, 0, 1, 2, 3, 4, 5, 6, 7, 8, 12, 9, 10] (by decide +kernel) rfl
  clear hP2 hD2
  refine lv_if_eq (tgt := 18) hx hb dX12_large_5 (by decide) (fun c2 => ?_) (fun c2 => ?_)
  · skip
    have fc2 : ra1.toInt = 0 := congrArg Int32.toInt c2
    refine lv_iconst (v := (-1)) hx hb dX12_large_18 (by decide) ?_
    subst hQ
    have hP9 := hP.sub (ws' := (wd_cfaca2a5 h0 v0 r0 v1 v2 v3 v4 h1 h2 r1 h3 h4 h5 h6 v5 v6 h7 h8 r2 r3 v7 h9 r4 v8 v9 h10 r5 v10 v11 h11 v12 v13 r6 v14 w15 h12 v16 v17 r7 r8 r9 r10 r11 r12 v18 r13 r14 r15 v19 h1 g0 f20 h2 g1 f21 h3 g2 f22 h4 g3 f23 h5 g4 f24 h6 g5 f25 h7 g6 f26 h8 g7 f27 h9 g8 f28 h10 g9 f29 h11 g10 f30 h12 g11 f31)) [0, 1, 2, 3, 4, 5, 6, 7, 8, 9, 10, 11, 12] rfl
    have hD9 := hD.sub (ws' := (wd_cfaca2a5 h0 v0 r0 v1 v2 v3 v4 h1 h2 r1 h3 h4 h5 h6 v5 v6 h7 h8 r2 r3 v7 h9 r4 v8 v9 h10 r5 v10 v11 h11 v12 v13 r6 v14 w15 h12 v16 v17 r7 r8 r9 r10 r11 r12 v18 r13 r14 r15 v19 h1 g0 f20 h2 g1 f21 h3 g2 f22 h4 g3 f23 h5 g4 f24 h6 g5 f25 h7 g6 f26 h8 g7 f27 h9 g8 f28 h10 g9 f29 h11 g10 f30 h12 g11 f31)) [0, 1, 2, 3, 4, 5, 6, 7, 8, 9, 10, 11, 12] (by decide +kernel) rfl
    have hK9 := hK.sub (tys' := []) [] rfl
    exact W.iret (v := (-1)) hx hb hr (fun t ht hW => ⟨⟨(-1), (-1), rfl, rfl, ⟨v12, v13, f26, f27, f29, f30, f31, ia_f29, ia_f31, by first | omega | decide, by first | omega | decide, by rw [ht]; exact hP9, va_K.moved hW.alike hK9, hD9⟩⟩, hS.F ht⟩) hS.2.2 dX12_large_19
  · skip
    have fc2 : ¬ (ra1.toInt = 0) := fun h9 => c2 (Int32.toInt_inj.mp h9)
    have q1pt4_ra1 := pt4_ra1 (by omega)
    refine lv_iload_n hx hb dX12_large_8 rfl (lv_at hl 2 rfl) ?_
    refine lv_iconst (v := 0) hx hb dX12_large_9 (by decide) ?_
    refine lv_bipush (v := 99) hx hb dX12_large_10 (by decide) ?_
    have hPc := hP.sub (ws' := []) [] rfl
    have hDc := hD.sub (ws' := []) [] (by decide) rfl
    have hKc := hK.sub (tys' := []) [] rfl
    have hFc := va_free (wc := []) hD hS hA [] rfl
    refine va_calli (va_runS (As := [.int v33, .int 0, .int 99]) (rest := []) ⟨hx, hb, hml, hown, hts⟩ (k_X12_in_13 l dC dI v33  H.size) (va_cwS 3 hts g_X12_large_1 rfl rfl rfl (by decide +kernel) ⟨Nat.le_of_ble_eq_true rfl, Nat.le_of_ble_eq_true rfl⟩) (pv_PS hPc hKc hDc) rfl rfl hl.1 rfl (lv_room (Nat.le_of_ble_eq_true rfl)) dX12_large_12 ⟨Nat.le_of_ble_eq_true rfl, Nat.le_of_ble_eq_true rfl⟩) hS (fun q _ h => hFc q h) hFc (fun ra3 u t H1 locs ht hvm hwra3 hB hz1 hk1 hS => ?_)
    try rw [hwra3] at hB
    obtain ⟨pt0_ra3, pt1_ra3, pt2_ra3, pt3_ra3, pt4_ra3, hP1, hK1, hD1⟩ := hB
    rw [ht] at hP1
    obtain ⟨hP2, hD2⟩ := va_join (wr := (wd_cfaca2a5 h0 v0 r0 v1 v2 v3 v4 h1 h2 r1 h3 h4 h5 h6 v5 v6 h7 h8 r2 r3 v7 h9 r4 v8 v9 h10 r5 v10 v11 h11 v12 v13 r6 v14 w15 h12 v16 v17 r7 r8 r9 r10 r11 r12 v18 r13 r14 r15 v19 h1 g0 f20 h2 g1 f21 h3 g2 f22 h4 g3 f23 h5 g4 f24 h6 g5 f25 h7 g6 f26 h8 g7 f27 h9 g8 f28 h10 g9 f29 h11 g10 f30 h12 g11 f31)) (w1 := []) hP hD [] [0, 1, 2, 3, 4, 5, 6, 7, 8, 9, 10, 11, 12] rfl rfl (by decide +kernel) (by decide +kernel) hk1 hFc hP1 hD1
    clear hP hD hPc hDc hKc hFc hP1 hK1 hD1 hk1 hz1
    generalize H1 = H at hP2 hS ⊢
    have hP : va_P (dC, dI) vwCl (wd_cfaca2a5 h0 v0 r0 v1 v2 v3 v4 h1 h2 r1 h3 h4 h5 h6 v5 v6 h7 h8 r2 r3 v7 h9 r4 v8 v9 h10 r5 v10 v11 h11 v12 v13 r6 v14 w15 h12 v16 v17 r7 r8 r9 r10 r11 r12 v18 r13 r14 r15 v19 h1 g0 f20 h2 g1 f21 h3 g2 f22 h4 g3 f23 h5 g4 f24 h6 g5 f25 h7 g6 f26 h8 g7 f27 h9 g8 f28 h10 g9 f29 h11 g10 f30 h12 g11 f31) H := hP2
    have hD : va_D A (wd_cfaca2a5 h0 v0 r0 v1 v2 v3 v4 h1 h2 r1 h3 h4 h5 h6 v5 v6 h7 h8 r2 r3 v7 h9 r4 v8 v9 h10 r5 v10 v11 h11 v12 v13 r6 v14 w15 h12 v16 v17 r7 r8 r9 r10 r11 r12 v18 r13 r14 r15 v19 h1 g0 f20 h2 g1 f21 h3 g2 f22 h4 g3 f23 h5 g4 f24 h6 g5 f25 h7 g6 f26 h8 g7 f27 h9 g8 f28 h10 g9 f29 h11 g10 f30 h12 g11 f31) := hD2
    clear hP2 hD2
    refine lv_if_ne (tgt := 20) hx hb dX12_large_15 (by decide) (fun c4 => ?_) (fun c4 => ?_)
    · skip
      have fc4 : ¬ (ra3.toInt = 0) := fun h9 => c4 (Int32.toInt_inj.mp h9)
      refine lv_aload_n hx hb dX12_large_20 rfl (lv_at hl 0 rfl) ?_
      refine lv_iconst (v := 0) hx hb dX12_large_21 (by decide) ?_
      have hPc := hP.sub (ws' := (wd_04244fe9 h0 v0 r0 v1 v2 v3 v4 h1 h2 r1 h3 h4 h5 h6 v5 v6 h7 h8 r2 r3 v7 h9 r4 v8 v9 h10 r5 v10 v11 h11 v12 v13 r6 v14 w15 h12 v16 v17 r7 r8 r9 r10 r11 r12 v18 r13 r14 r15 v19 h10 g9 f29 h12 g11 f31)) [0, 10, 12] rfl
      have hDc := hD.sub (ws' := (wd_04244fe9 h0 v0 r0 v1 v2 v3 v4 h1 h2 r1 h3 h4 h5 h6 v5 v6 h7 h8 r2 r3 v7 h9 r4 v8 v9 h10 r5 v10 v11 h11 v12 v13 r6 v14 w15 h12 v16 v17 r7 r8 r9 r10 r11 r12 v18 r13 r14 r15 v19 h10 g9 f29 h12 g11 f31)) [0, 10, 12] (by decide) rfl
      have hKc := hK.sub (tys' := [(g9, .int), (g11, .int)]) [9, 11] rfl
      have hFc := va_free (wc := (wd_04244fe9 h0 v0 r0 v1 v2 v3 v4 h1 h2 r1 h3 h4 h5 h6 v5 v6 h7 h8 r2 r3 v7 h9 r4 v8 v9 h10 r5 v10 v11 h11 v12 v13 r6 v14 w15 h12 v16 v17 r7 r8 r9 r10 r11 r12 v18 r13 r14 r15 v19 h10 g9 f29 h12 g11 f31)) hD hS hA [0, 10, 12] rfl
      refine va_callv (va_runV (As := [.int 0]) (rest := []) ⟨hx, hb, hml, hown, hts⟩ (k_X12_putAside l dC dI h0 h10 h12 v0 r0 v1 v2 v3 v4 h1 h2 r1 h3 h4 h5 h6 v5 v6 h7 h8 r2 r3 v7 h9 r4 v8 v9 r5 v10 v11 h11 v12 v13 r6 v14 w15 v16 v17 r7 r8 r9 r10 r11 r12 v18 r13 r14 r15 v19 g9 f29 g11 f31 0 ⟨i_v1a, i_v1b⟩ ⟨i_v5a, i_v5b⟩ ⟨i_v6a, i_v6b⟩ ⟨i_v7a, i_v7b⟩ ⟨i_v8a, i_v8b⟩ ⟨i_v9a, i_v9b⟩ ⟨i_v10a, i_v10b⟩ ⟨i_v14a, i_v14b⟩ ⟨i_v18a, i_v18b⟩ ⟨i_v19a, i_v19b⟩ ⟨by decide, by decide⟩ ia_f29 ia_f31 H.size) (cwV 1 hts g_X12_large_2 rfl rfl rfl (by decide +kernel) ⟨Nat.le_of_ble_eq_true rfl, Nat.le_of_ble_eq_true rfl⟩) (pv_PV12 hPc hKc hDc (q0 := 0) rfl) rfl rfl hl.1 rfl (lv_room (Nat.le_of_ble_eq_true rfl)) dX12_large_22 ⟨Nat.le_of_ble_eq_true rfl, Nat.le_of_ble_eq_true rfl⟩) hS (fun q _ h => hFc q h) hFc (fun u t H1 locs ht hvm hwra5 hB hz1 hk1 hS => ?_)
      obtain ⟨fn6, ia_fn6, hP1, hK1, hD1⟩ := hB
      rw [ht] at hP1
      obtain ⟨hP2, hD2⟩ := va_join (wr := (wd_4dc6964c h1 g0 f20 h2 g1 f21 h3 g2 f22 h4 g3 f23 h5 g4 f24 h6 g5 f25 h7 g6 f26 h8 g7 f27 h9 g8 f28 h11 g10 f30)) (w1 := (wd_04244fe9 h0 v0 r0 v1 v2 v3 v4 h1 h2 r1 h3 h4 h5 h6 v5 v6 h7 h8 r2 r3 v7 h9 r4 v8 v9 h10 r5 v10 v11 h11 v12 v13 r6 v14 w15 h12 v16 v17 r7 r8 r9 r10 r11 r12 v18 r13 r14 r15 v19 h10 g9 f29 h12 g11 fn6)) hP hD [0, 10, 12] [1, 2, 3, 4, 5, 6, 7, 8, 9, 11] rfl rfl (by decide +kernel) (by decide +kernel) hk1 hFc hP1 hD1
      clear hP hD hPc hDc hKc hFc hP1 hK1 hD1 hk1 hz1
      generalize H1 = H at hP2 hS ⊢
      have hP := hP2.sub (ws' := (wd_cfaca2a5 h0 v0 r0 v1 v2 v3 v4 h1 h2 r1 h3 h4 h5 h6 v5 v6 h7 h8 r2 r3 v7 h9 r4 v8 v9 h10 r5 v10 v11 h11 v12 v13 r6 v14 w15 h12 v16 v17 r7 r8 r9 r10 r11 r12 v18 r13 r14 r15 v19 h1 g0 f20 h2 g1 f21 h3 g2 f22 h4 g3 f23 h5 g4 f24 h6 g5 f25 h7 g6 f26 h8 g7 f27 h9 g8 f28 h10 g9 f29 h11 g10 f30 h12 g11 fn6)) [10, 0, 1, 2, 3, 4, 5, 6, 7, 8, 11, 9, 12] rfl
      have hD := hD2.sub (ws' := (wd_cfaca2a5 h0 v0 r0 v1 v2 v3 v4 h1 h2 r1 h3 h4 h5 h6 v5 v6 h7 h8 r2 r3 v7 h9 r4 v8 v9 h10 r5 v10 v11 h11 v12 v13 r6 v14 w15 h12 v16 v17 r7 r8 r9 r10 r11 r12 v18 r13 r14 r15 v19 h1 g0 f20 h2 g1 f21 h3 g2 f22 h4 g3 f23 h5 g4 f24 h6 g5 f25 h7 g6 f26 h8 g7 f27 h9 g8 f28 h10 g9 f29 h11 g10 f30 h12 g11 fn6)) [10, 0, 1, 2, 3, 4, 5, 6, 7, 8, 11, 9, 12] (by decide +kernel) rfl
      clear hP2 hD2
      refine lv_iconst (v := 0) hx hb dX12_large_25 (by decide) ?_
      refine lv_istore_n (lv' := [(3, .int 0), (0, .ref h0), (1, .int v32), (2, .int v33)]) hx hb dX12_large_26 rfl hl (by decide) rfl (fun ls hl => ?_)
      have hL70 : ∀ (n9 : Nat), ∀ (x56 : Int32) (x57 : Int32) (x58 : Int32) (fn59 : Nat → Int32) (fn60 : Nat → Int32) (fn61 : Nat → Int32) (fn62 : Nat → Int32) (H : Heap) (locs : List Loc) (ls : Array Slot), 0 ≤ x56.toInt → x56.toInt ≤ 99 → (pm_NW fn61) → (99 - x56.toInt).toNat < n9 → va_P (dC, dI) vwCl (wd_cfaca2a5 h0 v0 r0 v1 v2 v3 v4 h1 h2 r1 h3 h4 h5 h6 v5 v6 h7 h8 r2 r3 v7 h9 r4 v8 v9 h10 r5 v10 v11 h11 x57 x58 r6 v14 w15 h12 v16 v17 r7 r8 r9 r10 r11 r12 v18 r13 r14 r15 v19 h1 g0 f20 h2 g1 f21 h3 g2 f22 h4 g3 f23 h5 g4 f24 h6 g5 f25 h7 g6 fn59 h8 g7 fn60 h9 g8 f28 h10 g9 fn61 h11 g10 fn62 h12 g11 fn6) H → va_D A (wd_cfaca2a5 h0 v0 r0 v1 v2 v3 v4 h1 h2 r1 h3 h4 h5 h6 v5 v6 h7 h8 r2 r3 v7 h9 r4 v8 v9 h10 r5 v10 v11 h11 x57 x58 r6 v14 w15 h12 v16 v17 r7 r8 r9 r10 r11 r12 v18 r13 r14 r15 v19 h1 g0 f20 h2 g1 f21 h3 g2 f22 h4 g3 f23 h5 g4 f24 h6 g5 f25 h7 g6 fn59 h8 g7 fn60 h9 g8 f28 h10 g9 fn61 h11 g10 fn62 h12 g11 fn6) → va_S A s.heap H locs → lv_has ls 4 [(3, .int x56), (0, .ref h0), (1, .int v32), (2, .int v33)] → W p l e ({ frames := 8, cells := 0, slots := 0, locals := 174 }) s m ([.ref h0, .int v32, .int v33] : List Value).toArray below meth c H locs 0 0 Q (F0 m 27 ls []) := by
        intro n9
        induction n9 with
        | zero => intro x56 x57 x58 fn59 fn60 fn61 fn62 H locs ls qa_x56 qb_x56 ia_fn61 hm9 hP hD hS hl; exact absurd hm9 (Nat.not_lt_zero _)
        | succ n9 ih_hL70 =>
          intro x56 x57 x58 fn59 fn60 fn61 fn62 H locs ls qa_x56 qb_x56 ia_fn61 hm9 hP hD hS hl
          refine lv_iload_n hx hb dX12_large_27 rfl (lv_at hl 0 rfl) ?_
          refine lv_iload_n hx hb dX12_large_28 rfl (lv_at hl 3 rfl) ?_
          refine lv_icmp_ge (tgt := 42) hx hb dX12_large_29 (by decide) (fun c71 => ?_) (fun c71 => ?_)
          · skip
            have fc71 : v33.toInt ≤ x56.toInt := Int32.le_iff_toInt_le.mp c71
            have r1c71 := Int32.toInt_lt x56
            have r2c71 := Int32.toInt_lt v33
            have r3c71 := Int32.le_toInt x56
            have r4c71 := Int32.le_toInt v33
            refine lv_aload_n hx hb dX12_large_42 rfl (lv_at hl 1 rfl) ?_
            refine lv_iload_n hx hb dX12_large_43 rfl (lv_at hl 2 rfl) ?_
            have hPc := hP.sub (ws' := (wd_5013416a h0 v0 r0 v1 v2 v3 v4 h1 h2 r1 h3 h4 h5 h6 v5 v6 h7 h8 r2 r3 v7 h9 r4 v8 v9 h10 r5 v10 v11 h11 x57 x58 r6 v14 w15 h12 v16 v17 r7 r8 r9 r10 r11 r12 v18 r13 r14 r15 v19 h10 g9 fn61)) [0, 10] rfl
            have hDc := hD.sub (ws' := (wd_5013416a h0 v0 r0 v1 v2 v3 v4 h1 h2 r1 h3 h4 h5 h6 v5 v6 h7 h8 r2 r3 v7 h9 r4 v8 v9 h10 r5 v10 v11 h11 x57 x58 r6 v14 w15 h12 v16 v17 r7 r8 r9 r10 r11 r12 v18 r13 r14 r15 v19 h10 g9 fn61)) [0, 10] (by decide) rfl
            have hKc := hK.sub (tys' := [(g9, .int)]) [9] rfl
            have hFc := va_free (wc := (wd_5013416a h0 v0 r0 v1 v2 v3 v4 h1 h2 r1 h3 h4 h5 h6 v5 v6 h7 h8 r2 r3 v7 h9 r4 v8 v9 h10 r5 v10 v11 h11 x57 x58 r6 v14 w15 h12 v16 v17 r7 r8 r9 r10 r11 r12 v18 r13 r14 r15 v19 h10 g9 fn61)) hD hS hA [0, 10] rfl
            refine va_calli (va_runV (As := [.int v32]) (rest := []) ⟨hx, hb, hml, hown, hts⟩ (k_X12_sizeNow l dC dI h0 h10 v0 r0 v1 v2 v3 v4 h1 h2 r1 h3 h4 h5 h6 v5 v6 h7 h8 r2 r3 v7 h9 r4 v8 v9 r5 v10 v11 h11 x57 x58 r6 v14 w15 h12 v16 v17 r7 r8 r9 r10 r11 r12 v18 r13 r14 r15 v19 g9 fn61 v32 ⟨i_v1a, i_v1b⟩ ⟨i_v5a, i_v5b⟩ ⟨i_v6a, i_v6b⟩ ⟨i_v7a, i_v7b⟩ ⟨i_v8a, i_v8b⟩ ⟨i_v9a, i_v9b⟩ ⟨i_v10a, i_v10b⟩ ⟨i_v14a, i_v14b⟩ ⟨i_v18a, i_v18b⟩ ⟨i_v19a, i_v19b⟩ ia_fn61.1 H.size) (cwV 1 hts g_X12_large_3 rfl rfl rfl (by decide +kernel) ⟨Nat.le_of_ble_eq_true rfl, Nat.le_of_ble_eq_true rfl⟩) (pv_PV12 hPc hKc hDc (q0 := 0) rfl) rfl rfl hl.1 rfl (lv_room (Nat.le_of_ble_eq_true rfl)) dX12_large_44 ⟨Nat.le_of_ble_eq_true rfl, Nat.le_of_ble_eq_true rfl⟩) hS (fun q _ h => hFc q h) hFc (fun ra72 u t H1 locs ht hvm hwra72 hB hz1 hk1 hS => ?_)
            try rw [hwra72] at hB
            obtain ⟨pt0_ra72, pt1_ra72, hP1, hK1, hD1⟩ := hB
            rw [ht] at hP1
            obtain ⟨hP2, hD2⟩ := va_join (wr := (wd_e8ff9da7 h1 g0 f20 h2 g1 f21 h3 g2 f22 h4 g3 f23 h5 g4 f24 h6 g5 f25 h7 g6 fn59 h8 g7 fn60 h9 g8 f28 h11 g10 fn62 h12 g11 fn6)) (w1 := (wd_5013416a h0 v0 r0 v1 v2 v3 v4 h1 h2 r1 h3 h4 h5 h6 v5 v6 h7 h8 r2 r3 v7 h9 r4 v8 v9 h10 r5 v10 v11 h11 x57 x58 r6 v14 w15 h12 v16 v17 r7 r8 r9 r10 r11 r12 v18 r13 r14 r15 v19 h10 g9 fn61)) hP hD [0, 10] [1, 2, 3, 4, 5, 6, 7, 8, 9, 11, 12] rfl rfl (by decide +kernel) (by decide +kernel) hk1 hFc hP1 hD1
            clear hP hD hPc hDc hKc hFc hP1 hK1 hD1 hk1 hz1
            generalize H1 = H at hP2 hS ⊢
            have hP := hP2.sub (ws' := (wd_cfaca2a5 h0 v0 r0 v1 v2 v3 v4 h1 h2 r1 h3 h4 h5 h6 v5 v6 h7 h8 r2 r3 v7 h9 r4 v8 v9 h10 r5 v10 v11 h11 x57 x58 r6 v14 w15 h12 v16 v17 r7 r8 r9 r10 r11 r12 v18 r13 r14 r15 v19 h1 g0 f20 h2 g1 f21 h3 g2 f22 h4 g3 f23 h5 g4 f24 h6 g5 f25 h7 g6 fn59 h8 g7 fn60 h9 g8 f28 h10 g9 fn61 h11 g10 fn62 h12 g11 fn6)) [11, 0, 1, 2, 3, 4, 5, 6, 7, 8, 12, 9, 10] rfl
            have hD := hD2.sub (ws' := (wd_cfaca2a5 h0 v0 r0 v1 v2 v3 v4 h1 h2 r1 h3 h4 h5 h6 v5 v6 h7 h8 r2 r3 v7 h9 r4 v8 v9 h10 r5 v10 v11 h11 x57 x58 r6 v14 w15 h12 v16 v17 r7 r8 r9 r10 r11 r12 v18 r13 r14 r15 v19 h1 g0 f20 h2 g1 f21 h3 g2 f22 h4 g3 f23 h5 g4 f24 h6 g5 f25 h7 g6 fn59 h8 g7 fn60 h9 g8 f28 h10 g9 fn61 h11 g10 fn62 h12 g11 fn6)) [11, 0, 1, 2, 3, 4, 5, 6, 7, 8, 12, 9, 10] (by decide +kernel) rfl
            clear hP2 hD2
            refine lv_istore_n (lv' := [(3, .int ra72), (0, .ref h0), (1, .int v32), (2, .int v33)]) hx hb dX12_large_47 rfl hl (by decide) rfl (fun ls hl => ?_)
            refine lv_aload_n hx hb dX12_large_48 rfl (lv_at hl 1 rfl) ?_
            refine lv_iconst (v := 0) hx hb dX12_large_49 (by decide) ?_
            have hPc := hP.sub (ws' := (wd_04244fe9 h0 v0 r0 v1 v2 v3 v4 h1 h2 r1 h3 h4 h5 h6 v5 v6 h7 h8 r2 r3 v7 h9 r4 v8 v9 h10 r5 v10 v11 h11 x57 x58 r6 v14 w15 h12 v16 v17 r7 r8 r9 r10 r11 r12 v18 r13 r14 r15 v19 h10 g9 fn61 h12 g11 fn6)) [0, 10, 12] rfl
            have hDc := hD.sub (ws' := (wd_04244fe9 h0 v0 r0 v1 v2 v3 v4 h1 h2 r1 h3 h4 h5 h6 v5 v6 h7 h8 r2 r3 v7 h9 r4 v8 v9 h10 r5 v10 v11 h11 x57 x58 r6 v14 w15 h12 v16 v17 r7 r8 r9 r10 r11 r12 v18 r13 r14 r15 v19 h10 g9 fn61 h12 g11 fn6)) [0, 10, 12] (by decide) rfl
            have hKc := hK.sub (tys' := [(g9, .int), (g11, .int)]) [9, 11] rfl
            have hFc := va_free (wc := (wd_04244fe9 h0 v0 r0 v1 v2 v3 v4 h1 h2 r1 h3 h4 h5 h6 v5 v6 h7 h8 r2 r3 v7 h9 r4 v8 v9 h10 r5 v10 v11 h11 x57 x58 r6 v14 w15 h12 v16 v17 r7 r8 r9 r10 r11 r12 v18 r13 r14 r15 v19 h10 g9 fn61 h12 g11 fn6)) hD hS hA [0, 10, 12] rfl
            refine va_callv (va_runV (As := [.int 0]) (rest := []) ⟨hx, hb, hml, hown, hts⟩ (k_X12_takeBack l dC dI h0 h10 h12 v0 r0 v1 v2 v3 v4 h1 h2 r1 h3 h4 h5 h6 v5 v6 h7 h8 r2 r3 v7 h9 r4 v8 v9 r5 v10 v11 h11 x57 x58 r6 v14 w15 v16 v17 r7 r8 r9 r10 r11 r12 v18 r13 r14 r15 v19 g9 fn61 g11 fn6 0 ⟨i_v1a, i_v1b⟩ ⟨i_v5a, i_v5b⟩ ⟨i_v6a, i_v6b⟩ ⟨i_v7a, i_v7b⟩ ⟨i_v8a, i_v8b⟩ ⟨i_v9a, i_v9b⟩ ⟨i_v10a, i_v10b⟩ ⟨i_v14a, i_v14b⟩ ⟨i_v18a, i_v18b⟩ ⟨i_v19a, i_v19b⟩ ⟨by decide, by decide⟩ ia_fn61.1 ia_fn6 H.size) (cwV 1 hts g_X12_large_4 rfl rfl rfl (by decide +kernel) ⟨Nat.le_of_ble_eq_true rfl, Nat.le_of_ble_eq_true rfl⟩) (pv_PV12 hPc hKc hDc (q0 := 0) rfl) rfl rfl hl.1 rfl (lv_room (Nat.le_of_ble_eq_true rfl)) dX12_large_50 ⟨Nat.le_of_ble_eq_true rfl, Nat.le_of_ble_eq_true rfl⟩) hS (fun q _ h => hFc q h) hFc (fun u t H1 locs ht hvm hwra73 hB hz1 hk1 hS => ?_)
            obtain ⟨fn74, ia_fn74, hP1, hK1, hD1⟩ := hB
            rw [ht] at hP1
            obtain ⟨hP2, hD2⟩ := va_join (wr := (wd_4dc6964c h1 g0 f20 h2 g1 f21 h3 g2 f22 h4 g3 f23 h5 g4 f24 h6 g5 f25 h7 g6 fn59 h8 g7 fn60 h9 g8 f28 h11 g10 fn62)) (w1 := (wd_04244fe9 h0 v0 r0 v1 v2 v3 v4 h1 h2 r1 h3 h4 h5 h6 v5 v6 h7 h8 r2 r3 v7 h9 r4 v8 v9 h10 r5 v10 v11 h11 x57 x58 r6 v14 w15 h12 v16 v17 r7 r8 r9 r10 r11 r12 v18 r13 r14 r15 v19 h10 g9 fn74 h12 g11 fn6)) hP hD [0, 10, 12] [1, 2, 3, 4, 5, 6, 7, 8, 9, 11] rfl rfl (by decide +kernel) (by decide +kernel) hk1 hFc hP1 hD1
            clear hP hD hPc hDc hKc hFc hP1 hK1 hD1 hk1 hz1
            generalize H1 = H at hP2 hS ⊢
            have hP := hP2.sub (ws' := (wd_cfaca2a5 h0 v0 r0 v1 v2 v3 v4 h1 h2 r1 h3 h4 h5 h6 v5 v6 h7 h8 r2 r3 v7 h9 r4 v8 v9 h10 r5 v10 v11 h11 x57 x58 r6 v14 w15 h12 v16 v17 r7 r8 r9 r10 r11 r12 v18 r13 r14 r15 v19 h1 g0 f20 h2 g1 f21 h3 g2 f22 h4 g3 f23 h5 g4 f24 h6 g5 f25 h7 g6 fn59 h8 g7 fn60 h9 g8 f28 h10 g9 fn74 h11 g10 fn62 h12 g11 fn6)) [10, 0, 1, 2, 3, 4, 5, 6, 7, 8, 11, 9, 12] rfl
            have hD := hD2.sub (ws' := (wd_cfaca2a5 h0 v0 r0 v1 v2 v3 v4 h1 h2 r1 h3 h4 h5 h6 v5 v6 h7 h8 r2 r3 v7 h9 r4 v8 v9 h10 r5 v10 v11 h11 x57 x58 r6 v14 w15 h12 v16 v17 r7 r8 r9 r10 r11 r12 v18 r13 r14 r15 v19 h1 g0 f20 h2 g1 f21 h3 g2 f22 h4 g3 f23 h5 g4 f24 h6 g5 f25 h7 g6 fn59 h8 g7 fn60 h9 g8 f28 h10 g9 fn74 h11 g10 fn62 h12 g11 fn6)) [10, 0, 1, 2, 3, 4, 5, 6, 7, 8, 11, 9, 12] (by decide +kernel) rfl
            clear hP2 hD2
            refine lv_iload_n hx hb dX12_large_53 rfl (lv_at hl 0 rfl) ?_
            subst hQ
            have hP9 := hP.sub (ws' := (wd_cfaca2a5 h0 v0 r0 v1 v2 v3 v4 h1 h2 r1 h3 h4 h5 h6 v5 v6 h7 h8 r2 r3 v7 h9 r4 v8 v9 h10 r5 v10 v11 h11 x57 x58 r6 v14 w15 h12 v16 v17 r7 r8 r9 r10 r11 r12 v18 r13 r14 r15 v19 h1 g0 f20 h2 g1 f21 h3 g2 f22 h4 g3 f23 h5 g4 f24 h6 g5 f25 h7 g6 fn59 h8 g7 fn60 h9 g8 f28 h10 g9 fn74 h11 g10 fn62 h12 g11 fn6)) [0, 1, 2, 3, 4, 5, 6, 7, 8, 9, 10, 11, 12] rfl
            have hD9 := hD.sub (ws' := (wd_cfaca2a5 h0 v0 r0 v1 v2 v3 v4 h1 h2 r1 h3 h4 h5 h6 v5 v6 h7 h8 r2 r3 v7 h9 r4 v8 v9 h10 r5 v10 v11 h11 x57 x58 r6 v14 w15 h12 v16 v17 r7 r8 r9 r10 r11 r12 v18 r13 r14 r15 v19 h1 g0 f20 h2 g1 f21 h3 g2 f22 h4 g3 f23 h5 g4 f24 h6 g5 f25 h7 g6 fn59 h8 g7 fn60 h9 g8 f28 h10 g9 fn74 h11 g10 fn62 h12 g11 fn6)) [0, 1, 2, 3, 4, 5, 6, 7, 8, 9, 10, 11, 12] (by decide +kernel) rfl
            have hK9 := hK.sub (tys' := []) [] rfl
            exact W.iret (v := ra72) hx hb hr (fun t ht hW => ⟨⟨ra72, ra72, rfl, rfl, ⟨x57, x58, fn59, fn60, fn74, fn62, fn6, ia_fn74, ia_fn6, by first | omega | decide, by first | omega | decide, by rw [ht]; exact hP9, va_K.moved hW.alike hK9, hD9⟩⟩, hS.F ht⟩) hS.2.2 dX12_large_54
          · skip
            have fc71 : ¬ (v33.toInt ≤ x56.toInt) := fun h9 => c71 (Int32.le_iff_toInt_le.mpr h9)
            have r1c71 := Int32.toInt_lt x56
            have r2c71 := Int32.toInt_lt v33
            have r3c71 := Int32.le_toInt x56
            have r4c71 := Int32.le_toInt v33
            refine lv_aload_n hx hb dX12_large_32 rfl (lv_at hl 1 rfl) ?_
            have hPc := hP.sub (ws' := (wd_935d8763 h0 v0 r0 v1 v2 v3 v4 h1 h2 r1 h3 h4 h5 h6 v5 v6 h7 h8 r2 r3 v7 h9 r4 v8 v9 h10 r5 v10 v11 h11 x57 x58 r6 v14 w15 h12 v16 v17 r7 r8 r9 r10 r11 r12 v18 r13 r14 r15 v19 h1 g0 f20 h2 g1 f21 h3 g2 f22 h4 g3 f23 h5 g4 f24 h6 g5 f25 h7 g6 fn59 h8 g7 fn60 h9 g8 f28 h10 g9 fn61 h11 g10 fn62)) [0, 1, 2, 3, 4, 5, 6, 7, 8, 9, 10, 11] rfl
            have hDc := hD.sub (ws' := (wd_935d8763 h0 v0 r0 v1 v2 v3 v4 h1 h2 r1 h3 h4 h5 h6 v5 v6 h7 h8 r2 r3 v7 h9 r4 v8 v9 h10 r5 v10 v11 h11 x57 x58 r6 v14 w15 h12 v16 v17 r7 r8 r9 r10 r11 r12 v18 r13 r14 r15 v19 h1 g0 f20 h2 g1 f21 h3 g2 f22 h4 g3 f23 h5 g4 f24 h6 g5 f25 h7 g6 fn59 h8 g7 fn60 h9 g8 f28 h10 g9 fn61 h11 g10 fn62)) [0, 1, 2, 3, 4, 5, 6, 7, 8, 9, 10, 11] (by decide +kernel) rfl
            have hKc := hK.sub (tys' := [(g0, .int), (g1, .int), (g2, .int), (g3, .int), (g4, .int), (g5, .int), (g6, .int), (g7, .int), (g8, .int), (g9, .int), (g10, .int)]) [0, 1, 2, 3, 4, 5, 6, 7, 8, 9, 10] rfl
            have hFc := va_free (wc := (wd_935d8763 h0 v0 r0 v1 v2 v3 v4 h1 h2 r1 h3 h4 h5 h6 v5 v6 h7 h8 r2 r3 v7 h9 r4 v8 v9 h10 r5 v10 v11 h11 x57 x58 r6 v14 w15 h12 v16 v17 r7 r8 r9 r10 r11 r12 v18 r13 r14 r15 v19 h1 g0 f20 h2 g1 f21 h3 g2 f22 h4 g3 f23 h5 g4 f24 h6 g5 f25 h7 g6 fn59 h8 g7 fn60 h9 g8 f28 h10 g9 fn61 h11 g10 fn62)) hD hS hA [0, 1, 2, 3, 4, 5, 6, 7, 8, 9, 10, 11] rfl
            refine va_callv (va_runV (As := []) (rest := []) ⟨hx, hb, hml, hown, hts⟩ (k_X12_live l dC dI h0 h1 h2 h3 h4 h5 h6 h7 h8 h9 h10 h11 v0 r0 v1 v2 v3 v4 r1 v5 v6 r2 r3 v7 r4 v8 v9 r5 v10 v11 x57 x58 r6 v14 w15 h12 v16 v17 r7 r8 r9 r10 r11 r12 v18 r13 r14 r15 v19 g0 f20 g1 f21 g2 f22 g3 f23 g4 f24 g5 f25 g6 fn59 g7 fn60 g8 f28 g9 fn61 g10 fn62 ⟨i_v1a, i_v1b⟩ ⟨i_v5a, i_v5b⟩ ⟨i_v6a, i_v6b⟩ ⟨i_v7a, i_v7b⟩ ⟨i_v8a, i_v8b⟩ ⟨i_v9a, i_v9b⟩ ⟨i_v10a, i_v10b⟩ ⟨i_v14a, i_v14b⟩ ⟨i_v18a, i_v18b⟩ ⟨i_v19a, i_v19b⟩ ia_f28 ia_fn61.1 pp0 H.size) (cwV 0 hts g_X12_large_5 rfl rfl rfl (by decide +kernel) ⟨Nat.le_of_ble_eq_true rfl, Nat.le_of_ble_eq_true rfl⟩) (pv_PV12 hPc hKc hDc (q0 := 0) rfl) rfl rfl hl.1 rfl (lv_room (Nat.le_of_ble_eq_true rfl)) dX12_large_33 ⟨Nat.le_of_ble_eq_true rfl, Nat.le_of_ble_eq_true rfl⟩) hS (fun q _ h => hFc q h) hFc (fun u t H1 locs ht hvm hwra75 hB hz1 hk1 hS => ?_)
            obtain ⟨x76, x77, fn78, fn79, fn80, fn81, ia_fn80, hP1, hK1, hD1⟩ := hB
            rw [ht] at hP1
            obtain ⟨hP2, hD2⟩ := va_join (wr := (wd_811139ca h12 g11 fn6)) (w1 := (wd_935d8763 h0 v0 r0 v1 v2 v3 v4 h1 h2 r1 h3 h4 h5 h6 v5 v6 h7 h8 r2 r3 v7 h9 r4 v8 v9 h10 r5 v10 v11 h11 x76 x77 r6 v14 w15 h12 v16 v17 r7 r8 r9 r10 r11 r12 v18 r13 r14 r15 v19 h1 g0 f20 h2 g1 f21 h3 g2 f22 h4 g3 f23 h5 g4 f24 h6 g5 f25 h7 g6 fn78 h8 g7 fn79 h9 g8 f28 h10 g9 fn80 h11 g10 fn81)) hP hD [0, 1, 2, 3, 4, 5, 6, 7, 8, 9, 10, 11] [12] rfl rfl (by decide +kernel) (by decide +kernel) hk1 hFc hP1 hD1
            clear hP hD hPc hDc hKc hFc hP1 hK1 hD1 hk1 hz1
            generalize H1 = H at hP2 hS ⊢
            have hP := hP2.sub (ws' := (wd_cfaca2a5 h0 v0 r0 v1 v2 v3 v4 h1 h2 r1 h3 h4 h5 h6 v5 v6 h7 h8 r2 r3 v7 h9 r4 v8 v9 h10 r5 v10 v11 h11 x76 x77 r6 v14 w15 h12 v16 v17 r7 r8 r9 r10 r11 r12 v18 r13 r14 r15 v19 h1 g0 f20 h2 g1 f21 h3 g2 f22 h4 g3 f23 h5 g4 f24 h6 g5 f25 h7 g6 fn78 h8 g7 fn79 h9 g8 f28 h10 g9 fn80 h11 g10 fn81 h12 g11 fn6)) [1, 2, 3, 4, 5, 6, 7, 8, 9, 10, 11, 12, 0] rfl
            have hD := hD2.sub (ws' := (wd_cfaca2a5 h0 v0 r0 v1 v2 v3 v4 h1 h2 r1 h3 h4 h5 h6 v5 v6 h7 h8 r2 r3 v7 h9 r4 v8 v9 h10 r5 v10 v11 h11 x76 x77 r6 v14 w15 h12 v16 v17 r7 r8 r9 r10 r11 r12 v18 r13 r14 r15 v19 h1 g0 f20 h2 g1 f21 h3 g2 f22 h4 g3 f23 h5 g4 f24 h6 g5 f25 h7 g6 fn78 h8 g7 fn79 h9 g8 f28 h10 g9 fn80 h11 g10 fn81 h12 g11 fn6)) [1, 2, 3, 4, 5, 6, 7, 8, 9, 10, 11, 12, 0] (by decide +kernel) rfl
            clear hP2 hD2
            obtain ⟨t82, et82⟩ : ∃ y : Int32, y = x56 + 1 := ⟨_, rfl⟩
            have gt82 : t82.toInt = x56.toInt + (1) := pv_add (a := x56.toInt) (b := (1)) et82 rfl (by decide) (by omega) (by omega)
            refine lv_iinc (v := t82) (lv' := [(3, .int t82), (0, .ref h0), (1, .int v32), (2, .int v33)]) hx hb dX12_large_36 hl (k := 0) rfl (by rw [et82]; rfl) (by decide) rfl (fun ls hl => ?_)
            refine lv_goto (tgt := 27) hx hb dX12_large_39 (by decide) ?_
            exact ih_hL70 t82 x76 x77 fn78 fn79 fn80 fn81 H locs ls (by first | omega | decide) (by first | omega | decide) ia_fn80 (by first | omega | (simp only [Int.toNat] at *; omega)) hP hD hS (lv_sub hl [0, 1, 2, 3] rfl)
      exact hL70 _ 0 v12 v13 f26 f27 f29 f30 H locs ls (by decide) (by decide) ia_f29 (Nat.lt_succ_self _) hP hD hS (lv_sub hl [0, 1, 2, 3] rfl)
    · skip
      have fc4 : ra3.toInt = 0 := congrArg Int32.toInt c4
      refine lv_iconst (v := (-1)) hx hb dX12_large_18 (by decide) ?_
      subst hQ
      have hP9 := hP.sub (ws' := (wd_cfaca2a5 h0 v0 r0 v1 v2 v3 v4 h1 h2 r1 h3 h4 h5 h6 v5 v6 h7 h8 r2 r3 v7 h9 r4 v8 v9 h10 r5 v10 v11 h11 v12 v13 r6 v14 w15 h12 v16 v17 r7 r8 r9 r10 r11 r12 v18 r13 r14 r15 v19 h1 g0 f20 h2 g1 f21 h3 g2 f22 h4 g3 f23 h5 g4 f24 h6 g5 f25 h7 g6 f26 h8 g7 f27 h9 g8 f28 h10 g9 f29 h11 g10 f30 h12 g11 f31)) [0, 1, 2, 3, 4, 5, 6, 7, 8, 9, 10, 11, 12] rfl
      have hD9 := hD.sub (ws' := (wd_cfaca2a5 h0 v0 r0 v1 v2 v3 v4 h1 h2 r1 h3 h4 h5 h6 v5 v6 h7 h8 r2 r3 v7 h9 r4 v8 v9 h10 r5 v10 v11 h11 v12 v13 r6 v14 w15 h12 v16 v17 r7 r8 r9 r10 r11 r12 v18 r13 r14 r15 v19 h1 g0 f20 h2 g1 f21 h3 g2 f22 h4 g3 f23 h5 g4 f24 h6 g5 f25 h7 g6 f26 h8 g7 f27 h9 g8 f28 h10 g9 f29 h11 g10 f30 h12 g11 f31)) [0, 1, 2, 3, 4, 5, 6, 7, 8, 9, 10, 11, 12] (by decide +kernel) rfl
      have hK9 := hK.sub (tys' := []) [] rfl
      exact W.iret (v := (-1)) hx hb hr (fun t ht hW => ⟨⟨(-1), (-1), rfl, rfl, ⟨v12, v13, f26, f27, f29, f30, f31, ia_f29, ia_f31, by first | omega | decide, by first | omega | decide, by rw [ht]; exact hP9, va_K.moved hW.alike hK9, hD9⟩⟩, hS.F ht⟩) hS.2.2 dX12_large_19
def q_X12_daysTo : List Cond := .code yX12_daysTo cX12_daysTo 5 (some .int) :: (([.code yX12_putAside cX12_putAside 3 none, .fieldLink RX12 71 "LeftArgumentsModel" "aside" "[I", .fieldLink RX12 52 "LeftArgumentsModel" "now" "[I", .initialized RX12, .instanceMethod yX12_putAside, .selects RX12 yX12_putAside yX12_putAside, .methodLink RX12 375 yX12_putAside, .code yX12_takeBack cX12_takeBack 3 none, .instanceMethod yX12_takeBack, .selects RX12 yX12_takeBack yX12_takeBack, .methodLink RX12 381 yX12_takeBack, .code yX12_live cX12_live 2 none, .code yX12_growAll cX12_growAll 2 none, .code yX12_isThere cX12_isThere 2 (some .boolean), .code yX12_in cX12_in 3 (some .boolean), .static yX12_in, .methodLink RX12 217 yX12_in, .code yX12_of cX12_of 3 (some .int), .instanceMethod yX12_of, .selects RX12 yX12_of yX12_of, .methodLink RX12 287 yX12_of, .instanceMethod yX12_isThere, .selects RX12 yX12_isThere yX12_isThere, .methodLink RX12 290 yX12_isThere, .fieldLink RX12 65 "LeftArgumentsModel" "grows" "[I", .methodLink RX12 299 Lib.Math.min.name, .static Lib.Math.min.name, .initialized "java/lang/Math", .code Lib.Math.min.name Lib.Math.min.code 2 (some .int), .methodLink RX12 301 Lib.Math.max.name, .static Lib.Math.max.name, .code Lib.Math.max.name Lib.Math.max.code 2 (some .int), .code yX12_set cX12_set 4 none, .instanceMethod yX12_set, .selects RX12 yX12_set yX12_set, .methodLink RX12 258 yX12_set, .code yX12_growthOf cX12_growthOf 4 (some .int), .code yX12_withOf cX12_withOf 4 (some .int), .instanceMethod yX12_withOf, .selects RX12 yX12_withOf yX12_withOf, .methodLink RX12 293 yX12_withOf, .fieldLink RX12 58 "LeftArgumentsModel" "holding" "I", .fieldLink RX12 34 "LeftArgumentsModel" "letters" "[I", .code yX12_worthOf cX12_worthOf 3 (some .int), .fieldLink RX12 22 "LeftArgumentsModel" "clauses" "[I", .fieldLink RX12 25 "LeftArgumentsModel" "testFrom" "[I", .fieldLink RX12 28 "LeftArgumentsModel" "sumFrom" "[I", .fieldLink RX12 31 "LeftArgumentsModel" "sumTo" "[I", .code yX12_workOut cX12_workOut 6 (some .int), .fieldLink RX12 37 "LeftArgumentsModel" "stack" "[I", .fieldLink RX12 13 "LeftArgumentsModel" "code" "[I", .fieldLink RX12 16 "LeftArgumentsModel" "value" "[I", .code yX12_worked cX12_worked 5 (some .int), .code yX12_bounded cX12_bounded 2 (some .int), .constantLong RX12 192 (-1000000), .constantLong RX12 194 (1000000), .methodLink RX12 196 Lib.MathLoose.min_long.x, .static Lib.MathLoose.min_long.x, .code Lib.MathLoose.min_long.x Lib.MathLoose.min_long.code 4 (some .long), .methodLink RX12 202 Lib.MathLoose.max_long.x, .static Lib.MathLoose.max_long.x, .code Lib.MathLoose.max_long.x Lib.MathLoose.max_long.code 4 (some .long), .static yX12_bounded, .methodLink RX12 205 yX12_bounded, .static yX12_worked, .methodLink RX12 209 yX12_worked, .instanceMethod yX12_workOut, .selects RX12 yX12_workOut yX12_workOut, .methodLink RX12 213 yX12_workOut, .instanceMethod yX12_worthOf, .selects RX12 yX12_worthOf yX12_worthOf, .methodLink RX12 296 yX12_worthOf, .instanceMethod yX12_growthOf, .selects RX12 yX12_growthOf yX12_growthOf, .methodLink RX12 303 yX12_growthOf, .instanceMethod yX12_growAll, .selects RX12 yX12_growAll yX12_growAll, .methodLink RX12 318 yX12_growAll, .code yX12_endAll cX12_endAll 2 none, .fieldLink RX12 306 "LeftArgumentsModel" "ended" "I", .instanceMethod yX12_endAll, .selects RX12 yX12_endAll yX12_endAll, .methodLink RX12 321 yX12_endAll, .code yX12_dropAll cX12_dropAll 3 none, .fieldLink RX12 309 "LeftArgumentsModel" "fell" "I", .fieldLink RX12 46 "LeftArgumentsModel" "rule" "[I", .code yX12_loadOf cX12_loadOf 4 (some .int), .instanceMethod yX12_loadOf, .selects RX12 yX12_loadOf yX12_loadOf, .methodLink RX12 312 yX12_loadOf, .code yX12_largestOn cX12_largestOn 4 (some .int), .instanceMethod yX12_largestOn, .selects RX12 yX12_largestOn yX12_largestOn, .methodLink RX12 315 yX12_largestOn, .instanceMethod yX12_dropAll, .selects RX12 yX12_dropAll yX12_dropAll, .methodLink RX12 324 yX12_dropAll, .instanceMethod yX12_live, .selects RX12 yX12_live yX12_live, .methodLink RX12 327 yX12_live, .code yX12_has cX12_has 2 (some .boolean), .static yX12_has, .methodLink RX12 228 yX12_has] : List Cond) ++ wsX120)
set_option maxRecDepth 20000 in
theorem g_X12_daysTo_0 : GoodIn q_X12_daysTo (wsV RX12 375 RX12 yX12_putAside q_X12_putAside) := goodIn_app (goodIn_r _ [7, 5, 6, 4] rfl (by decide +kernel)) (goodIn_ca (goodIn_r (.code yX12_putAside cX12_putAside 3 none :: [.fieldLink RX12 71 "LeftArgumentsModel" "aside" "[I", .fieldLink RX12 52 "LeftArgumentsModel" "now" "[I"]) [1, 2, 3] rfl (by decide +kernel)) (goodIn_sub (fun _ h => List.mem_cons_of_mem _ (List.mem_append_right _ h)) gwX12))
set_option maxRecDepth 20000 in
theorem g_X12_daysTo_1 : GoodIn q_X12_daysTo (wsV RX12 381 RX12 yX12_takeBack q_X12_takeBack) := goodIn_app (goodIn_r _ [11, 9, 10, 4] rfl (by decide +kernel)) (goodIn_ca (goodIn_r (.code yX12_takeBack cX12_takeBack 3 none :: [.fieldLink RX12 52 "LeftArgumentsModel" "now" "[I", .fieldLink RX12 71 "LeftArgumentsModel" "aside" "[I"]) [8, 3, 2] rfl (by decide +kernel)) (goodIn_sub (fun _ h => List.mem_cons_of_mem _ (List.mem_append_right _ h)) gwX12))
set_option maxRecDepth 20000 in
theorem g_X12_daysTo_2 : GoodIn q_X12_daysTo (wsV RX12 327 RX12 yX12_live q_X12_live) := goodIn_app (goodIn_r _ [100, 98, 99, 4] rfl (by decide +kernel)) (goodIn_ca (goodIn_r (.code yX12_live cX12_live 2 none :: [.code yX12_growAll cX12_growAll 2 none, .code yX12_isThere cX12_isThere 2 (some .boolean), .code yX12_in cX12_in 3 (some .boolean), .initialized RX12, .static yX12_in, .methodLink RX12 217 yX12_in, .code yX12_of cX12_of 3 (some .int), .fieldLink RX12 52 "LeftArgumentsModel" "now" "[I", .instanceMethod yX12_of, .selects RX12 yX12_of yX12_of, .methodLink RX12 287 yX12_of, .instanceMethod yX12_isThere, .selects RX12 yX12_isThere yX12_isThere, .methodLink RX12 290 yX12_isThere, .fieldLink RX12 65 "LeftArgumentsModel" "grows" "[I", .methodLink RX12 299 Lib.Math.min.name, .static Lib.Math.min.name, .initialized "java/lang/Math", .code Lib.Math.min.name Lib.Math.min.code 2 (some .int), .methodLink RX12 301 Lib.Math.max.name, .static Lib.Math.max.name, .code Lib.Math.max.name Lib.Math.max.code 2 (some .int), .code yX12_set cX12_set 4 none, .instanceMethod yX12_set, .selects RX12 yX12_set yX12_set, .methodLink RX12 258 yX12_set, .code yX12_growthOf cX12_growthOf 4 (some .int), .code yX12_withOf cX12_withOf 4 (some .int), .instanceMethod yX12_withOf, .selects RX12 yX12_withOf yX12_withOf, .methodLink RX12 293 yX12_withOf, .fieldLink RX12 58 "LeftArgumentsModel" "holding" "I", .fieldLink RX12 34 "LeftArgumentsModel" "letters" "[I", .code yX12_worthOf cX12_worthOf 3 (some .int), .fieldLink RX12 22 "LeftArgumentsModel" "clauses" "[I", .fieldLink RX12 25 "LeftArgumentsModel" "testFrom" "[I", .fieldLink RX12 28 "LeftArgumentsModel" "sumFrom" "[I", .fieldLink RX12 31 "LeftArgumentsModel" "sumTo" "[I", .code yX12_workOut cX12_workOut 6 (some .int), .fieldLink RX12 37 "LeftArgumentsModel" "stack" "[I", .fieldLink RX12 13 "LeftArgumentsModel" "code" "[I", .fieldLink RX12 16 "LeftArgumentsModel" "value" "[I", .code yX12_worked cX12_worked 5 (some .int), .code yX12_bounded cX12_bounded 2 (some .int), .constantLong RX12 192 (-1000000), .constantLong RX12 194 (1000000), .methodLink RX12 196 Lib.MathLoose.min_long.x, .static Lib.MathLoose.min_long.x, .code Lib.MathLoose.min_long.x Lib.MathLoose.min_long.code 4 (some .long), .methodLink RX12 202 Lib.MathLoose.max_long.x, .static Lib.MathLoose.max_long.x, .code Lib.MathLoose.max_long.x Lib.MathLoose.max_long.code 4 (some .long), .static yX12_bounded, .methodLink RX12 205 yX12_bounded, .static yX12_worked, .methodLink RX12 209 yX12_worked, .instanceMethod yX12_workOut, .selects RX12 yX12_workOut yX12_workOut, .methodLink RX12 213 yX12_workOut, .instanceMethod yX12_worthOf, .selects RX12 yX12_worthOf yX12_worthOf, .methodLink RX12 296 yX12_worthOf, .instanceMethod yX12_growthOf, .selects RX12 yX12_growthOf yX12_growthOf, .methodLink RX12 303 yX12_growthOf, .instanceMethod yX12_growAll, .selects RX12 yX12_growAll yX12_growAll, .methodLink RX12 318 yX12_growAll, .code yX12_endAll cX12_endAll 2 none, .fieldLink RX12 306 "LeftArgumentsModel" "ended" "I", .instanceMethod yX12_endAll, .selects RX12 yX12_endAll yX12_endAll, .methodLink RX12 321 yX12_endAll, .code yX12_dropAll cX12_dropAll 3 none, .fieldLink RX12 309 "LeftArgumentsModel" "fell" "I", .fieldLink RX12 46 "LeftArgumentsModel" "rule" "[I", .code yX12_loadOf cX12_loadOf 4 (some .int), .instanceMethod yX12_loadOf, .selects RX12 yX12_loadOf yX12_loadOf, .methodLink RX12 312 yX12_loadOf, .code yX12_largestOn cX12_largestOn 4 (some .int), .instanceMethod yX12_largestOn, .selects RX12 yX12_largestOn yX12_largestOn, .methodLink RX12 315 yX12_largestOn, .instanceMethod yX12_dropAll, .selects RX12 yX12_dropAll yX12_dropAll, .methodLink RX12 324 yX12_dropAll]) [12, 13, 14, 15, 4, 16, 17, 18, 3, 19, 20, 21, 22, 23, 24, 25, 26, 27, 28, 29, 30, 31, 32, 33, 34, 35, 36, 37, 38, 39, 40, 41, 42, 43, 44, 45, 46, 47, 48, 49, 50, 51, 52, 53, 54, 55, 56, 57, 58, 59, 60, 61, 62, 63, 64, 65, 66, 67, 68, 69, 70, 71, 72, 73, 74, 75, 76, 77, 78, 79, 80, 81, 82, 83, 84, 85, 86, 87, 88, 89, 90, 91, 92, 93, 94, 95, 96, 97] rfl (by decide +kernel)) (goodIn_sub (fun _ h => List.mem_cons_of_mem _ (List.mem_append_right _ h)) gwX12))
set_option maxRecDepth 20000 in
theorem g_X12_daysTo_3 : GoodIn q_X12_daysTo (va_wsS RX12 228 yX12_has q_X12_has) := goodIn_app (goodIn_r _ [103, 102, 4] rfl (by decide +kernel)) (goodIn_r (.code yX12_has cX12_has 2 (some .boolean) :: []) [101] rfl (by decide +kernel))
set_option maxHeartbeats 4000000 in
set_option maxRecDepth 100000 in
theorem k_X12_daysTo (l : Launch) (dC : Nat → ClassId) (dI : Nat → Nat → Nat) (h0 : Nat) (h1 : Nat) (h2 : Nat) (h3 : Nat) (h4 : Nat) (h5 : Nat) (h6 : Nat) (h7 : Nat) (h8 : Nat) (h9 : Nat) (h10 : Nat) (h11 : Nat) (h12 : Nat) (v0 : Int32) (r0 : Nat) (v1 : Int32) (v2 : Int32) (v3 : Int32) (v4 : Int32) (r1 : Nat) (v5 : Int32) (v6 : Int32) (r2 : Nat) (r3 : Nat) (v7 : Int32) (r4 : Nat) (v8 : Int32) (v9 : Int32) (r5 : Nat) (v10 : Int32) (v11 : Int32) (v12 : Int32) (v13 : Int32) (r6 : Nat) (v14 : Int32) (w15 : Int64) (v16 : Int32) (v17 : Int32) (r7 : Nat) (r8 : Nat) (r9 : Nat) (r10 : Nat) (r11 : Nat) (r12 : Nat) (v18 : Int32) (r13 : Nat) (r14 : Nat) (r15 : Nat) (v19 : Int32) (g0 : ClassId) (f20 : Nat → Int32) (g1 : ClassId) (f21 : Nat → Int32) (g2 : ClassId) (f22 : Nat → Int32) (g3 : ClassId) (f23 : Nat → Int32) (g4 : ClassId) (f24 : Nat → Int32) (g5 : ClassId) (f25 : Nat → Int32) (g6 : ClassId) (f26 : Nat → Int32) (g7 : ClassId) (f27 : Nat → Int32) (g8 : ClassId) (f28 : Nat → Int32) (g9 : ClassId) (f29 : Nat → Int32) (g10 : ClassId) (f30 : Nat → Int32) (g11 : ClassId) (f31 : Nat → Int32) (v32 : Int32) (v33 : Int32) (i_v1 : 0 ≤ v1.toInt ∧ v1.toInt ≤ 240) (i_v5 : 0 ≤ v5.toInt ∧ v5.toInt ≤ 4) (i_v6 : 0 ≤ v6.toInt ∧ v6.toInt ≤ 4) (i_v7 : 0 ≤ v7.toInt ∧ v7.toInt ≤ 8) (i_v8 : 0 ≤ v8.toInt ∧ v8.toInt ≤ 8) (i_v9 : 0 ≤ v9.toInt ∧ v9.toInt ≤ 1) (i_v10 : -1 ≤ v10.toInt ∧ v10.toInt ≤ 3) (i_v14 : 0 ≤ v14.toInt ∧ v14.toInt ≤ 40) (i_v18 : 0 ≤ v18.toInt ∧ v18.toInt ≤ 10) (i_v19 : 0 ≤ v19.toInt ∧ v19.toInt ≤ 1) (i_v32 : 0 ≤ v32.toInt ∧ v32.toInt ≤ 7) (i_v33 : 0 ≤ v33.toInt ∧ v33.toInt ≤ 1) (ia_f28 : (pm_RU f28)) (ia_f29 : (pm_NW f29)) (ia_f31 : (pm_AS f31)) (pp0 : pm_Held v10 f20 f21 f22 f23 f24 f25) (sz : Nat) : Met l yX12_daysTo q_X12_daysTo ({ frames := 8, cells := 0, slots := 0, locals := 174 }) (va_Pc [.ref h0, .int v32, .int v33] (fun U => U.heap.size = sz ∧ va_P (dC, dI) vwCl (wd_cfaca2a5 h0 v0 r0 v1 v2 v3 v4 h1 h2 r1 h3 h4 h5 h6 v5 v6 h7 h8 r2 r3 v7 h9 r4 v8 v9 h10 r5 v10 v11 h11 v12 v13 r6 v14 w15 h12 v16 v17 r7 r8 r9 r10 r11 r12 v18 r13 r14 r15 v19 h1 g0 f20 h2 g1 f21 h3 g2 f22 h4 g3 f23 h5 g4 f24 h6 g5 f25 h7 g6 f26 h8 g7 f27 h9 g8 f28 h10 g9 f29 h11 g10 f30 h12 g11 f31) U.heap ∧ va_K (dC, dI) vwCl [(g0, .int), (g1, .int), (g2, .int), (g3, .int), (g4, .int), (g5, .int), (g6, .int), (g7, .int), (g8, .int), (g9, .int), (g10, .int), (g11, .int)] U ∧ va_D (fun _ => True) (wd_cfaca2a5 h0 v0 r0 v1 v2 v3 v4 h1 h2 r1 h3 h4 h5 h6 v5 v6 h7 h8 r2 r3 v7 h9 r4 v8 v9 h10 r5 v10 v11 h11 v12 v13 r6 v14 w15 h12 v16 v17 r7 r8 r9 r10 r11 r12 v18 r13 r14 r15 v19 h1 g0 f20 h2 g1 f21 h3 g2 f22 h4 g3 f23 h5 g4 f24 h6 g5 f25 h7 g6 f26 h8 g7 f27 h9 g8 f28 h10 g9 f29 h11 g10 f30 h12 g11 f31))) (va_Qi (fun (r : Int32) (r9 : Int32) => r9 = r) (fun (r : Int32) (t : State) => (∃ (o_h0_29 : Int32) (o_h0_30 : Int32) (o_h7 : Nat → Int32) (o_h8 : Nat → Int32) (o_h10 : Nat → Int32) (o_h11 : Nat → Int32) (o_h12 : Nat → Int32), (pm_NW o_h10) ∧ (pm_AS o_h12) ∧ (-1 ≤ r.toInt) ∧ (r.toInt ≤ 99) ∧ va_P (dC, dI) vwCl (wd_cfaca2a5 h0 v0 r0 v1 v2 v3 v4 h1 h2 r1 h3 h4 h5 h6 v5 v6 h7 h8 r2 r3 v7 h9 r4 v8 v9 h10 r5 v10 v11 h11 o_h0_29 o_h0_30 r6 v14 w15 h12 v16 v17 r7 r8 r9 r10 r11 r12 v18 r13 r14 r15 v19 h1 g0 f20 h2 g1 f21 h3 g2 f22 h4 g3 f23 h5 g4 f24 h6 g5 f25 h7 g6 o_h7 h8 g7 o_h8 h9 g8 f28 h10 g9 o_h10 h11 g10 o_h11 h12 g11 o_h12) t.heap ∧ va_K (dC, dI) vwCl [] t ∧ va_D (va_A (wd_cfaca2a5 h0 v0 r0 v1 v2 v3 v4 h1 h2 r1 h3 h4 h5 h6 v5 v6 h7 h8 r2 r3 v7 h9 r4 v8 v9 h10 r5 v10 v11 h11 v12 v13 r6 v14 w15 h12 v16 v17 r7 r8 r9 r10 r11 r12 v18 r13 r14 r15 v19 h1 g0 f20 h2 g1 f21 h3 g2 f22 h4 g3 f23 h5 g4 f24 h6 g5 f25 h7 g6 f26 h8 g7 f27 h9 g8 f28 h10 g9 f29 h11 g10 f30 h12 g11 f31) sz) (wd_cfaca2a5 h0 v0 r0 v1 v2 v3 v4 h1 h2 r1 h3 h4 h5 h6 v5 v6 h7 h8 r2 r3 v7 h9 r4 v8 v9 h10 r5 v10 v11 h11 o_h0_29 o_h0_30 r6 v14 w15 h12 v16 v17 r7 r8 r9 r10 r11 r12 v18 r13 r14 r15 v19 h1 g0 f20 h2 g1 f21 h3 g2 f22 h4 g3 f23 h5 g4 f24 h6 g5 f25 h7 g6 o_h7 h8 g7 o_h8 h9 g8 f28 h10 g9 o_h10 h11 g10 o_h11 h12 g11 o_h12))) (va_A (wd_cfaca2a5 h0 v0 r0 v1 v2 v3 v4 h1 h2 r1 h3 h4 h5 h6 v5 v6 h7 h8 r2 r3 v7 h9 r4 v8 v9 h10 r5 v10 v11 h11 v12 v13 r6 v14 w15 h12 v16 v17 r7 r8 r9 r10 r11 r12 v18 r13 r14 r15 v19 h1 g0 f20 h2 g1 f21 h3 g2 f22 h4 g3 f23 h5 g4 f24 h6 g5 f25 h7 g6 f26 h8 g7 f27 h9 g8 f28 h10 g9 f29 h11 g10 f30 h12 g11 f31) sz)) 0 0 (va_A (wd_cfaca2a5 h0 v0 r0 v1 v2 v3 v4 h1 h2 r1 h3 h4 h5 h6 v5 v6 h7 h8 r2 r3 v7 h9 r4 v8 v9 h10 r5 v10 v11 h11 v12 v13 r6 v14 w15 h12 v16 v17 r7 r8 r9 r10 r11 r12 v18 r13 r14 r15 v19 h1 g0 f20 h2 g1 f21 h3 g2 f22 h4 g3 f23 h5 g4 f24 h6 g5 f25 h7 g6 f26 h8 g7 f27 h9 g8 f28 h10 g9 f29 h11 g10 f30 h12 g11 f31) sz) := by
  refine Met.ofW (cc := cX12_daysTo) (maxL := 5) (ret := (some .int)) (by decide) rfl ?_
  intro p e s m args below meth c s₁ B hml hv
  obtain ⟨i_v1a, i_v1b⟩ := i_v1
  obtain ⟨i_v5a, i_v5b⟩ := i_v5
  obtain ⟨i_v6a, i_v6b⟩ := i_v6
  obtain ⟨i_v7a, i_v7b⟩ := i_v7
  obtain ⟨i_v8a, i_v8b⟩ := i_v8
  obtain ⟨i_v9a, i_v9b⟩ := i_v9
  obtain ⟨i_v10a, i_v10b⟩ := i_v10
  obtain ⟨i_v14a, i_v14b⟩ := i_v14
  obtain ⟨i_v18a, i_v18b⟩ := i_v18
  obtain ⟨i_v19a, i_v19b⟩ := i_v19
  obtain ⟨i_v32a, i_v32b⟩ := i_v32
  obtain ⟨i_v33a, i_v33b⟩ := i_v33
  obtain ⟨rfl, hsz, hP, hK, hD0⟩ := hv
  have hx := B.exec
  have hb := B.bytes
  have hr := B.returns
  have hts := atoms_spec (ws := q_X12_daysTo) B.pre
  have hown : s.vm.findClass RX12 = some m.cls := findClass_of_methodNamed B.named
  have hlocks := B.notSynchronized
  subst hsz
  have hD := hD0.self (sz := s.heap.size)
  generalize hAe : va_A (wd_cfaca2a5 h0 v0 r0 v1 v2 v3 v4 h1 h2 r1 h3 h4 h5 h6 v5 v6 h7 h8 r2 r3 v7 h9 r4 v8 v9 h10 r5 v10 v11 h11 v12 v13 r6 v14 w15 h12 v16 v17 r7 r8 r9 r10 r11 r12 v18 r13 r14 r15 v19 h1 g0 f20 h2 g1 f21 h3 g2 f22 h4 g3 f23 h5 g4 f24 h6 g5 f25 h7 g6 f26 h8 g7 f27 h9 g8 f28 h10 g9 f29 h11 g10 f30 h12 g11 f31) s.heap.size = A at hD ⊢
  have hA : ∀ q : Nat, s.heap.size ≤ q → A q := fun q h => by rw [← hAe]; exact Or.inr h
  have hS : va_S A s.heap s.heap [] := va_S.rf
  generalize hQ : (MQ below _ _ s 0 0 A) = Q
  have hl := lv_entry ([.ref h0, .int v32, .int v33]) (n := 5) (Nat.le_of_ble_eq_true rfl)
  rw [lg_entry_eq]
  generalize (lg_sl ([.ref h0, .int v32, .int v33]) ++ List.replicate (5 - (lg_sl ([.ref h0, .int v32, .int v33])).length) Slot.unset).toArray = ls at hl ⊢
  have hl : lv_has ls 5 [(0, .ref h0), (1, .int v32), (2, .int v33)] := hl
  obtain ⟨H, hH⟩ : ∃ H : Heap, H = s.heap := ⟨_, rfl⟩
  obtain ⟨locs, hlocs⟩ : ∃ y : List Loc, y = [] := ⟨_, rfl⟩
  have hS : va_S A s.heap H locs := by rw [hH, hlocs]; exact va_S.rf
  have hP : va_P (dC, dI) vwCl (wd_cfaca2a5 h0 v0 r0 v1 v2 v3 v4 h1 h2 r1 h3 h4 h5 h6 v5 v6 h7 h8 r2 r3 v7 h9 r4 v8 v9 h10 r5 v10 v11 h11 v12 v13 r6 v14 w15 h12 v16 v17 r7 r8 r9 r10 r11 r12 v18 r13 r14 r15 v19 h1 g0 f20 h2 g1 f21 h3 g2 f22 h4 g3 f23 h5 g4 f24 h6 g5 f25 h7 g6 f26 h8 g7 f27 h9 g8 f28 h10 g9 f29 h11 g10 f30 h12 g11 f31) H := by rw [hH]; exact hP
  rw [← hH, ← hlocs]
  refine lv_aload_n hx hb dX12_daysTo_0 rfl (lv_at hl 0 rfl) ?_
  refine lv_iconst (v := 0) hx hb dX12_daysTo_1 (by decide) ?_
  have hPc := hP.sub (ws' := (wd_04244fe9 h0 v0 r0 v1 v2 v3 v4 h1 h2 r1 h3 h4 h5 h6 v5 v6 h7 h8 r2 r3 v7 h9 r4 v8 v9 h10 r5 v10 v11 h11 v12 v13 r6 v14 w15 h12 v16 v17 r7 r8 r9 r10 r11 r12 v18 r13 r14 r15 v19 h10 g9 f29 h12 g11 f31)) [0, 10, 12] rfl
  have hDc := hD.sub (ws' := (wd_04244fe9 h0 v0 r0 v1 v2 v3 v4 h1 h2 r1 h3 h4 h5 h6 v5 v6 h7 h8 r2 r3 v7 h9 r4 v8 v9 h10 r5 v10 v11 h11 v12 v13 r6 v14 w15 h12 v16 v17 r7 r8 r9 r10 r11 r12 v18 r13 r14 r15 v19 h10 g9 f29 h12 g11 f31)) [0, 10, 12] (by decide) rfl
  have hKc := hK.sub (tys' := [(g9, .int), (g11, .int)]) [9, 11] rfl
  have hFc := va_free (wc := (wd_04244fe9 h0 v0 r0 v1 v2 v3 v4 h1 h2 r1 h3 h4 h5 h6 v5 v6 h7 h8 r2 r3 v7 h9 r4 v8 v9 h10 r5 v10 v11 h11 v12 v13 r6 v14 w15 h12 v16 v17 r7 r8 r9 r10 r11 r12 v18 r13 r14 r15 v19 h10 g9 f29 h12 g11 f31)) hD hS hA [0, 10, 12] rfl
  refine va_callv (va_runV (As := [.int 0]) (rest := []) ⟨hx, hb, hml, hown, hts⟩ (k_X12_putAside l dC dI h0 h10 h12 v0 r0 v1 v2 v3 v4 h1 h2 r1 h3 h4 h5 h6 v5 v6 h7 h8 r2 r3 v7 h9 r4 v8 v9 r5 v10 v11 h11 v12 v13 r6 v14 w15 v16 v17 r7 r8 r9 r10 r11 r12 v18 r13 r14 r15 v19 g9 f29 g11 f31 0 ⟨i_v1a, i_v1b⟩ ⟨i_v5a, i_v5b⟩ ⟨i_v6a, i_v6b⟩ ⟨i_v7a, i_v7b⟩ ⟨i_v8a, i_v8b⟩ ⟨i_v9a, i_v9b⟩ ⟨i_v10a, i_v10b⟩ ⟨i_v14a, i_v14b⟩ ⟨i_v18a, i_v18b⟩ ⟨i_v19a, i_v19b⟩ ⟨by decide, by decide⟩ ia_f29 ia_f31 H.size) (cwV 1 hts g_X12_daysTo_0 rfl rfl rfl (by decide +kernel) ⟨Nat.le_of_ble_eq_true rfl, Nat.le_of_ble_eq_true rfl⟩) (pv_PV12 hPc hKc hDc (q0 := 0) rfl) rfl rfl hl.1 rfl (lv_room (Nat.le_of_ble_eq_true rfl)) dX12_daysTo_2 ⟨Nat.le_of_ble_eq_true rfl, Nat.le_of_ble_eq_true rfl⟩) hS (fun q _ h => hFc q h) hFc (fun u t H1 locs ht hvm hwra1 hB hz1 hk1 hS => ?_)
  obtain ⟨fn2, ia_fn2, hP1, hK1, hD1⟩ := hB
  rw [ht] at hP1
  obtain ⟨hP2, hD2⟩ := va_join (wr := (wd_4dc6964c h1 g0 f20 h2 g1 f21 h3 g2 f22 h4 g3 f23 h5 g4 f24 h6 g5 f25 h7 g6 f26 h8 g7 f27 h9 g8 f28 h11 g10 f30)) (w1 := (wd_04244fe9 h0 v0 r0 v1 v2 v3 v4 h1 h2 r1 h3 h4 h5 h6 v5 v6 h7 h8 r2 r3 v7 h9 r4 v8 v9 h10 r5 v10 v11 h11 v12 v13 r6 v14 w15 h12 v16 v17 r7 r8 r9 r10 r11 r12 v18 r13 r14 r15 v19 h10 g9 f29 h12 g11 fn2)) hP hD [0, 10, 12] [1, 2, 3, 4, 5, 6, 7, 8, 9, 11] rfl rfl (by decide +kernel) (by decide +kernel) hk1 hFc hP1 hD1
  clear hP hD hPc hDc hKc hFc hP1 hK1 hD1 hk1 hz1
  generalize H1 = H at hP2 hS ⊢
  have hP := hP2.sub (ws' := (wd_cfaca2a5 h0 v0 r0 v1 v2 v3 v4 h1 h2 r1 h3 h4 h5 h6 v5 v6 h7 h8 r2 r3 v7 h9 r4 v8 v9 h10 r5 v10 v11 h11 v12 v13 r6 v14 w15 h12 v16 v17 r7 r8 r9 r10 r11 r12 v18 r13 r14 r15 v19 h1 g0 f20 h2 g1 f21 h3 g2 f22 h4 g3 f23 h5 g4 f24 h6 g5 f25 h7 g6 f26 h8 g7 f27 h9 g8 f28 h10 g9 f29 h11 g10 f30 h12 g11 fn2)) [10, 0, 1, 2, 3, 4, 5, 6, 7, 8, 11, 9, 12] rfl
  have hD := hD2.sub (ws' := (wd_cfaca2a5 h0 v0 r0 v1 v2 v3 v4 h1 h2 r1 h3 h4 h5 h6 v5 v6 h7 h8 r2 r3 v7 h9 r4 v8 v9 h10 r5 v10 v11 h11 v12 v13 r6 v14 w15 h12 v16 v17 r7 r8 r9 r10 r11 r12 v18 r13 r14 r15 v19 h1 g0 f20 h2 g1 f21 h3 g2 f22 h4 g3 f23 h5 g4 f24 h6 g5 f25 h7 g6 f26 h8 g7 f27 h9 g8 f28 h10 g9 f29 h11 g10 f30 h12 g11 fn2)) [10, 0, 1, 2, 3, 4, 5, 6, 7, 8, 11, 9, 12] (by decide +kernel) rfl
  clear hP2 hD2
  refine lv_iconst (v := (-1)) hx hb dX12_daysTo_5 (by decide) ?_
  refine lv_istore_n (lv' := [(3, .int (-1)), (0, .ref h0), (1, .int v32), (2, .int v33)]) hx hb dX12_daysTo_6 rfl hl (by decide) rfl (fun ls hl => ?_)
  refine lv_iconst (v := 1) hx hb dX12_daysTo_7 (by decide) ?_
  refine lv_istore (lv' := [(4, .int 1), (3, .int (-1)), (0, .ref h0), (1, .int v32), (2, .int v33)]) hx hb dX12_daysTo_8 hl (by decide) rfl (fun ls hl => ?_)
  have hL83 : ∀ (n9 : Nat), ∀ (x67 : Int32) (x68 : Int32) (x69 : Int32) (x70 : Int32) (fn71 : Nat → Int32) (fn72 : Nat → Int32) (fn73 : Nat → Int32) (fn74 : Nat → Int32) (H : Heap) (locs : List Loc) (ls : Array Slot), 1 ≤ x67.toInt → x67.toInt ≤ 100 → -1 ≤ x68.toInt → x68.toInt ≤ 99 → (pm_NW fn73) → (100 - x67.toInt).toNat < n9 → va_P (dC, dI) vwCl (wd_cfaca2a5 h0 v0 r0 v1 v2 v3 v4 h1 h2 r1 h3 h4 h5 h6 v5 v6 h7 h8 r2 r3 v7 h9 r4 v8 v9 h10 r5 v10 v11 h11 x69 x70 r6 v14 w15 h12 v16 v17 r7 r8 r9 r10 r11 r12 v18 r13 r14 r15 v19 h1 g0 f20 h2 g1 f21 h3 g2 f22 h4 g3 f23 h5 g4 f24 h6 g5 f25 h7 g6 fn71 h8 g7 fn72 h9 g8 f28 h10 g9 fn73 h11 g10 fn74 h12 g11 fn2) H → va_D A (wd_cfaca2a5 h0 v0 r0 v1 v2 v3 v4 h1 h2 r1 h3 h4 h5 h6 v5 v6 h7 h8 r2 r3 v7 h9 r4 v8 v9 h10 r5 v10 v11 h11 x69 x70 r6 v14 w15 h12 v16 v17 r7 r8 r9 r10 r11 r12 v18 r13 r14 r15 v19 h1 g0 f20 h2 g1 f21 h3 g2 f22 h4 g3 f23 h5 g4 f24 h6 g5 f25 h7 g6 fn71 h8 g7 fn72 h9 g8 f28 h10 g9 fn73 h11 g10 fn74 h12 g11 fn2) → va_S A s.heap H locs → lv_has ls 5 [(4, .int x67), (3, .int x68), (0, .ref h0), (1, .int v32), (2, .int v33)] → W p l e ({ frames := 8, cells := 0, slots := 0, locals := 174 }) s m ([.ref h0, .int v32, .int v33] : List Value).toArray below meth c H locs 0 0 Q (F0 m 10 ls []) := by
    intro n9
    induction n9 with
    | zero => intro x67 x68 x69 x70 fn71 fn72 fn73 fn74 H locs ls qa_x67 qb_x67 qa_x68 qb_x68 ia_fn73 hm9 hP hD hS hl; exact absurd hm9 (Nat.not_lt_zero _)
    | succ n9 ih_hL83 =>
      intro x67 x68 x69 x70 fn71 fn72 fn73 fn74 H locs ls qa_x67 qb_x67 qa_x68 qb_x68 ia_fn73 hm9 hP hD hS hl
      refine lv_iload hx hb dX12_daysTo_10 (lv_at hl 0 rfl) ?_
      refine lv_bipush (v := 99) hx hb dX12_daysTo_12 (by decide) ?_
      have hJ84 : ∀ (H : Heap) (locs : List Loc) (ls : Array Slot), va_P (dC, dI) vwCl (wd_cfaca2a5 h0 v0 r0 v1 v2 v3 v4 h1 h2 r1 h3 h4 h5 h6 v5 v6 h7 h8 r2 r3 v7 h9 r4 v8 v9 h10 r5 v10 v11 h11 x69 x70 r6 v14 w15 h12 v16 v17 r7 r8 r9 r10 r11 r12 v18 r13 r14 r15 v19 h1 g0 f20 h2 g1 f21 h3 g2 f22 h4 g3 f23 h5 g4 f24 h6 g5 f25 h7 g6 fn71 h8 g7 fn72 h9 g8 f28 h10 g9 fn73 h11 g10 fn74 h12 g11 fn2) H → va_D A (wd_cfaca2a5 h0 v0 r0 v1 v2 v3 v4 h1 h2 r1 h3 h4 h5 h6 v5 v6 h7 h8 r2 r3 v7 h9 r4 v8 v9 h10 r5 v10 v11 h11 x69 x70 r6 v14 w15 h12 v16 v17 r7 r8 r9 r10 r11 r12 v18 r13 r14 r15 v19 h1 g0 f20 h2 g1 f21 h3 g2 f22 h4 g3 f23 h5 g4 f24 h6 g5 f25 h7 g6 fn71 h8 g7 fn72 h9 g8 f28 h10 g9 fn73 h11 g10 fn74 h12 g11 fn2) → va_S A s.heap H locs → lv_has ls 5 [(4, .int x67), (3, .int x68), (0, .ref h0), (1, .int v32), (2, .int v33)] → W p l e ({ frames := 8, cells := 0, slots := 0, locals := 174 }) s m ([.ref h0, .int v32, .int v33] : List Value).toArray below meth c H locs 0 0 Q (F0 m 61 ls []) := by
        intro  H locs ls hP hD hS hl
        refine lv_aload_n hx hb dX12_daysTo_61 rfl (lv_at hl 2 rfl) ?_
        refine lv_iconst (v := 0) hx hb dX12_daysTo_62 (by decide) ?_
        have hPc := hP.sub (ws' := (wd_04244fe9 h0 v0 r0 v1 v2 v3 v4 h1 h2 r1 h3 h4 h5 h6 v5 v6 h7 h8 r2 r3 v7 h9 r4 v8 v9 h10 r5 v10 v11 h11 x69 x70 r6 v14 w15 h12 v16 v17 r7 r8 r9 r10 r11 r12 v18 r13 r14 r15 v19 h10 g9 fn73 h12 g11 fn2)) [0, 10, 12] rfl
        have hDc := hD.sub (ws' := (wd_04244fe9 h0 v0 r0 v1 v2 v3 v4 h1 h2 r1 h3 h4 h5 h6 v5 v6 h7 h8 r2 r3 v7 h9 r4 v8 v9 h10 r5 v10 v11 h11 x69 x70 r6 v14 w15 h12 v16 v17 r7 r8 r9 r10 r11 r12 v18 r13 r14 r15 v19 h10 g9 fn73 h12 g11 fn2)) [0, 10, 12] (by decide) rfl
        have hKc := hK.sub (tys' := [(g9, .int), (g11, .int)]) [9, 11] rfl
        have hFc := va_free (wc := (wd_04244fe9 h0 v0 r0 v1 v2 v3 v4 h1 h2 r1 h3 h4 h5 h6 v5 v6 h7 h8 r2 r3 v7 h9 r4 v8 v9 h10 r5 v10 v11 h11 x69 x70 r6 v14 w15 h12 v16 v17 r7 r8 r9 r10 r11 r12 v18 r13 r14 r15 v19 h10 g9 fn73 h12 g11 fn2)) hD hS hA [0, 10, 12] rfl
        refine va_callv (va_runV (As := [.int 0]) (rest := []) ⟨hx, hb, hml, hown, hts⟩ (k_X12_takeBack l dC dI h0 h10 h12 v0 r0 v1 v2 v3 v4 h1 h2 r1 h3 h4 h5 h6 v5 v6 h7 h8 r2 r3 v7 h9 r4 v8 v9 r5 v10 v11 h11 x69 x70 r6 v14 w15 v16 v17 r7 r8 r9 r10 r11 r12 v18 r13 r14 r15 v19 g9 fn73 g11 fn2 0 ⟨i_v1a, i_v1b⟩ ⟨i_v5a, i_v5b⟩ ⟨i_v6a, i_v6b⟩ ⟨i_v7a, i_v7b⟩ ⟨i_v8a, i_v8b⟩ ⟨i_v9a, i_v9b⟩ ⟨i_v10a, i_v10b⟩ ⟨i_v14a, i_v14b⟩ ⟨i_v18a, i_v18b⟩ ⟨i_v19a, i_v19b⟩ ⟨by decide, by decide⟩ ia_fn73.1 ia_fn2 H.size) (cwV 1 hts g_X12_daysTo_1 rfl rfl rfl (by decide +kernel) ⟨Nat.le_of_ble_eq_true rfl, Nat.le_of_ble_eq_true rfl⟩) (pv_PV12 hPc hKc hDc (q0 := 0) rfl) rfl rfl hl.1 rfl (lv_room (Nat.le_of_ble_eq_true rfl)) dX12_daysTo_63 ⟨Nat.le_of_ble_eq_true rfl, Nat.le_of_ble_eq_true rfl⟩) hS (fun q _ h => hFc q h) hFc (fun u t H1 locs ht hvm hwra85 hB hz1 hk1 hS => ?_)
        obtain ⟨fn86, ia_fn86, hP1, hK1, hD1⟩ := hB
        rw [ht] at hP1
        obtain ⟨hP2, hD2⟩ := va_join (wr := (wd_4dc6964c h1 g0 f20 h2 g1 f21 h3 g2 f22 h4 g3 f23 h5 g4 f24 h6 g5 f25 h7 g6 fn71 h8 g7 fn72 h9 g8 f28 h11 g10 fn74)) (w1 := (wd_04244fe9 h0 v0 r0 v1 v2 v3 v4 h1 h2 r1 h3 h4 h5 h6 v5 v6 h7 h8 r2 r3 v7 h9 r4 v8 v9 h10 r5 v10 v11 h11 x69 x70 r6 v14 w15 h12 v16 v17 r7 r8 r9 r10 r11 r12 v18 r13 r14 r15 v19 h10 g9 fn86 h12 g11 fn2)) hP hD [0, 10, 12] [1, 2, 3, 4, 5, 6, 7, 8, 9, 11] rfl rfl (by decide +kernel) (by decide +kernel) hk1 hFc hP1 hD1
        clear hP hD hPc hDc hKc hFc hP1 hK1 hD1 hk1 hz1
        generalize H1 = H at hP2 hS ⊢
        have hP := hP2.sub (ws' := (wd_cfaca2a5 h0 v0 r0 v1 v2 v3 v4 h1 h2 r1 h3 h4 h5 h6 v5 v6 h7 h8 r2 r3 v7 h9 r4 v8 v9 h10 r5 v10 v11 h11 x69 x70 r6 v14 w15 h12 v16 v17 r7 r8 r9 r10 r11 r12 v18 r13 r14 r15 v19 h1 g0 f20 h2 g1 f21 h3 g2 f22 h4 g3 f23 h5 g4 f24 h6 g5 f25 h7 g6 fn71 h8 g7 fn72 h9 g8 f28 h10 g9 fn86 h11 g10 fn74 h12 g11 fn2)) [10, 0, 1, 2, 3, 4, 5, 6, 7, 8, 11, 9, 12] rfl
        have hD := hD2.sub (ws' := (wd_cfaca2a5 h0 v0 r0 v1 v2 v3 v4 h1 h2 r1 h3 h4 h5 h6 v5 v6 h7 h8 r2 r3 v7 h9 r4 v8 v9 h10 r5 v10 v11 h11 x69 x70 r6 v14 w15 h12 v16 v17 r7 r8 r9 r10 r11 r12 v18 r13 r14 r15 v19 h1 g0 f20 h2 g1 f21 h3 g2 f22 h4 g3 f23 h5 g4 f24 h6 g5 f25 h7 g6 fn71 h8 g7 fn72 h9 g8 f28 h10 g9 fn86 h11 g10 fn74 h12 g11 fn2)) [10, 0, 1, 2, 3, 4, 5, 6, 7, 8, 11, 9, 12] (by decide +kernel) rfl
        clear hP2 hD2
        refine lv_iload_n hx hb dX12_daysTo_66 rfl (lv_at hl 1 rfl) ?_
        subst hQ
        have hP9 := hP.sub (ws' := (wd_cfaca2a5 h0 v0 r0 v1 v2 v3 v4 h1 h2 r1 h3 h4 h5 h6 v5 v6 h7 h8 r2 r3 v7 h9 r4 v8 v9 h10 r5 v10 v11 h11 x69 x70 r6 v14 w15 h12 v16 v17 r7 r8 r9 r10 r11 r12 v18 r13 r14 r15 v19 h1 g0 f20 h2 g1 f21 h3 g2 f22 h4 g3 f23 h5 g4 f24 h6 g5 f25 h7 g6 fn71 h8 g7 fn72 h9 g8 f28 h10 g9 fn86 h11 g10 fn74 h12 g11 fn2)) [0, 1, 2, 3, 4, 5, 6, 7, 8, 9, 10, 11, 12] rfl
        have hD9 := hD.sub (ws' := (wd_cfaca2a5 h0 v0 r0 v1 v2 v3 v4 h1 h2 r1 h3 h4 h5 h6 v5 v6 h7 h8 r2 r3 v7 h9 r4 v8 v9 h10 r5 v10 v11 h11 x69 x70 r6 v14 w15 h12 v16 v17 r7 r8 r9 r10 r11 r12 v18 r13 r14 r15 v19 h1 g0 f20 h2 g1 f21 h3 g2 f22 h4 g3 f23 h5 g4 f24 h6 g5 f25 h7 g6 fn71 h8 g7 fn72 h9 g8 f28 h10 g9 fn86 h11 g10 fn74 h12 g11 fn2)) [0, 1, 2, 3, 4, 5, 6, 7, 8, 9, 10, 11, 12] (by decide +kernel) rfl
        have hK9 := hK.sub (tys' := []) [] rfl
        exact W.iret (v := x68) hx hb hr (fun t ht hW => ⟨⟨x68, x68, rfl, rfl, ⟨x69, x70, fn71, fn72, fn86, fn74, fn2, ia_fn86, ia_fn2, by first | omega | decide, by first | omega | decide, by rw [ht]; exact hP9, va_K.moved hW.alike hK9, hD9⟩⟩, hS.F ht⟩) hS.2.2 dX12_daysTo_67
      refine lv_icmp_gt (tgt := 61) hx hb dX12_daysTo_14 (by decide) (fun c87 => ?_) (fun c87 => ?_)
      · skip
        have fc87 : 99 < x67.toInt := Int32.lt_iff_toInt_lt.mp c87
        exact hJ84  H locs ls hP hD hS (lv_sub hl [0, 1, 2, 3, 4] rfl)
      · skip
        have fc87 : ¬ (99 < x67.toInt) := fun h9 => c87 (Int32.lt_iff_toInt_lt.mpr h9)
        refine lv_iload_n hx hb dX12_daysTo_17 rfl (lv_at hl 1 rfl) ?_
        refine lv_iconst (v := (-1)) hx hb dX12_daysTo_18 (by decide) ?_
        refine lv_icmp_ne (tgt := 61) hx hb dX12_daysTo_19 (by decide) (fun c88 => ?_) (fun c88 => ?_)
        · skip
          have fc88 : ¬ (x68.toInt = (-1)) := fun h9 => c88 (Int32.toInt_inj.mp h9)
          exact hJ84  H locs ls hP hD hS (lv_sub hl [0, 1, 2, 3, 4] rfl)
        · skip
          have fc88 : x68.toInt = (-1) := congrArg Int32.toInt c88
          refine lv_aload_n hx hb dX12_daysTo_22 rfl (lv_at hl 2 rfl) ?_
          have hPc := hP.sub (ws' := (wd_935d8763 h0 v0 r0 v1 v2 v3 v4 h1 h2 r1 h3 h4 h5 h6 v5 v6 h7 h8 r2 r3 v7 h9 r4 v8 v9 h10 r5 v10 v11 h11 x69 x70 r6 v14 w15 h12 v16 v17 r7 r8 r9 r10 r11 r12 v18 r13 r14 r15 v19 h1 g0 f20 h2 g1 f21 h3 g2 f22 h4 g3 f23 h5 g4 f24 h6 g5 f25 h7 g6 fn71 h8 g7 fn72 h9 g8 f28 h10 g9 fn73 h11 g10 fn74)) [0, 1, 2, 3, 4, 5, 6, 7, 8, 9, 10, 11] rfl
          have hDc := hD.sub (ws' := (wd_935d8763 h0 v0 r0 v1 v2 v3 v4 h1 h2 r1 h3 h4 h5 h6 v5 v6 h7 h8 r2 r3 v7 h9 r4 v8 v9 h10 r5 v10 v11 h11 x69 x70 r6 v14 w15 h12 v16 v17 r7 r8 r9 r10 r11 r12 v18 r13 r14 r15 v19 h1 g0 f20 h2 g1 f21 h3 g2 f22 h4 g3 f23 h5 g4 f24 h6 g5 f25 h7 g6 fn71 h8 g7 fn72 h9 g8 f28 h10 g9 fn73 h11 g10 fn74)) [0, 1, 2, 3, 4, 5, 6, 7, 8, 9, 10, 11] (by decide +kernel) rfl
          have hKc := hK.sub (tys' := [(g0, .int), (g1, .int), (g2, .int), (g3, .int), (g4, .int), (g5, .int), (g6, .int), (g7, .int), (g8, .int), (g9, .int), (g10, .int)]) [0, 1, 2, 3, 4, 5, 6, 7, 8, 9, 10] rfl
          have hFc := va_free (wc := (wd_935d8763 h0 v0 r0 v1 v2 v3 v4 h1 h2 r1 h3 h4 h5 h6 v5 v6 h7 h8 r2 r3 v7 h9 r4 v8 v9 h10 r5 v10 v11 h11 x69 x70 r6 v14 w15 h12 v16 v17 r7 r8 r9 r10 r11 r12 v18 r13 r14 r15 v19 h1 g0 f20 h2 g1 f21 h3 g2 f22 h4 g3 f23 h5 g4 f24 h6 g5 f25 h7 g6 fn71 h8 g7 fn72 h9 g8 f28 h10 g9 fn73 h11 g10 fn74)) hD hS hA [0, 1, 2, 3, 4, 5, 6, 7, 8, 9, 10, 11] rfl
          refine va_callv (va_runV (As := []) (rest := []) ⟨hx, hb, hml, hown, hts⟩ (k_X12_live l dC dI h0 h1 h2 h3 h4 h5 h6 h7 h8 h9 h10 h11 v0 r0 v1 v2 v3 v4 r1 v5 v6 r2 r3 v7 r4 v8 v9 r5 v10 v11 x69 x70 r6 v14 w15 h12 v16 v17 r7 r8 r9 r10 r11 r12 v18 r13 r14 r15 v19 g0 f20 g1 f21 g2 f22 g3 f23 g4 f24 g5 f25 g6 fn71 g7 fn72 g8 f28 g9 fn73 g10 fn74 ⟨i_v1a, i_v1b⟩ ⟨i_v5a, i_v5b⟩ ⟨i_v6a, i_v6b⟩ ⟨i_v7a, i_v7b⟩ ⟨i_v8a, i_v8b⟩ ⟨i_v9a, i_v9b⟩ ⟨i_v10a, i_v10b⟩ ⟨i_v14a, i_v14b⟩ ⟨i_v18a, i_v18b⟩ ⟨i_v19a, i_v19b⟩ ia_f28 ia_fn73.1 pp0 H.size) (cwV 0 hts g_X12_daysTo_2 rfl rfl rfl (by decide +kernel) ⟨Nat.le_of_ble_eq_true rfl, Nat.le_of_ble_eq_true rfl⟩) (pv_PV12 hPc hKc hDc (q0 := 0) rfl) rfl rfl hl.1 rfl (lv_room (Nat.le_of_ble_eq_true rfl)) dX12_daysTo_23 ⟨Nat.le_of_ble_eq_true rfl, Nat.le_of_ble_eq_true rfl⟩) hS (fun q _ h => hFc q h) hFc (fun u t H1 locs ht hvm hwra89 hB hz1 hk1 hS => ?_)
          obtain ⟨x90, x91, fn92, fn93, fn94, fn95, ia_fn94, hP1, hK1, hD1⟩ := hB
          rw [ht] at hP1
          obtain ⟨hP2, hD2⟩ := va_join (wr := (wd_811139ca h12 g11 fn2)) (w1 := (wd_935d8763 h0 v0 r0 v1 v2 v3 v4 h1 h2 r1 h3 h4 h5 h6 v5 v6 h7 h8 r2 r3 v7 h9 r4 v8 v9 h10 r5 v10 v11 h11 x90 x91 r6 v14 w15 h12 v16 v17 r7 r8 r9 r10 r11 r12 v18 r13 r14 r15 v19 h1 g0 f20 h2 g1 f21 h3 g2 f22 h4 g3 f23 h5 g4 f24 h6 g5 f25 h7 g6 fn92 h8 g7 fn93 h9 g8 f28 h10 g9 fn94 h11 g10 fn95)) hP hD [0, 1, 2, 3, 4, 5, 6, 7, 8, 9, 10, 11] [12] rfl rfl (by decide +kernel) (by decide +kernel) hk1 hFc hP1 hD1
          clear hP hD hPc hDc hKc hFc hP1 hK1 hD1 hk1 hz1
          generalize H1 = H at hP2 hS ⊢
          have hP := hP2.sub (ws' := (wd_cfaca2a5 h0 v0 r0 v1 v2 v3 v4 h1 h2 r1 h3 h4 h5 h6 v5 v6 h7 h8 r2 r3 v7 h9 r4 v8 v9 h10 r5 v10 v11 h11 x90 x91 r6 v14 w15 h12 v16 v17 r7 r8 r9 r10 r11 r12 v18 r13 r14 r15 v19 h1 g0 f20 h2 g1 f21 h3 g2 f22 h4 g3 f23 h5 g4 f24 h6 g5 f25 h7 g6 fn92 h8 g7 fn93 h9 g8 f28 h10 g9 fn94 h11 g10 fn95 h12 g11 fn2)) [1, 2, 3, 4, 5, 6, 7, 8, 9, 10, 11, 12, 0] rfl
          have hD := hD2.sub (ws' := (wd_cfaca2a5 h0 v0 r0 v1 v2 v3 v4 h1 h2 r1 h3 h4 h5 h6 v5 v6 h7 h8 r2 r3 v7 h9 r4 v8 v9 h10 r5 v10 v11 h11 x90 x91 r6 v14 w15 h12 v16 v17 r7 r8 r9 r10 r11 r12 v18 r13 r14 r15 v19 h1 g0 f20 h2 g1 f21 h3 g2 f22 h4 g3 f23 h5 g4 f24 h6 g5 f25 h7 g6 fn92 h8 g7 fn93 h9 g8 f28 h10 g9 fn94 h11 g10 fn95 h12 g11 fn2)) [1, 2, 3, 4, 5, 6, 7, 8, 9, 10, 11, 12, 0] (by decide +kernel) rfl
          clear hP2 hD2
          refine lv_iload_n hx hb dX12_daysTo_26 rfl (lv_at hl 4 rfl) ?_
          have hJ97 : ∀ (x96 : Int32) (H : Heap) (locs : List Loc) (ls : Array Slot), va_P (dC, dI) vwCl (wd_cfaca2a5 h0 v0 r0 v1 v2 v3 v4 h1 h2 r1 h3 h4 h5 h6 v5 v6 h7 h8 r2 r3 v7 h9 r4 v8 v9 h10 r5 v10 v11 h11 x90 x91 r6 v14 w15 h12 v16 v17 r7 r8 r9 r10 r11 r12 v18 r13 r14 r15 v19 h1 g0 f20 h2 g1 f21 h3 g2 f22 h4 g3 f23 h5 g4 f24 h6 g5 f25 h7 g6 fn92 h8 g7 fn93 h9 g8 f28 h10 g9 fn94 h11 g10 fn95 h12 g11 fn2) H → va_D A (wd_cfaca2a5 h0 v0 r0 v1 v2 v3 v4 h1 h2 r1 h3 h4 h5 h6 v5 v6 h7 h8 r2 r3 v7 h9 r4 v8 v9 h10 r5 v10 v11 h11 x90 x91 r6 v14 w15 h12 v16 v17 r7 r8 r9 r10 r11 r12 v18 r13 r14 r15 v19 h1 g0 f20 h2 g1 f21 h3 g2 f22 h4 g3 f23 h5 g4 f24 h6 g5 f25 h7 g6 fn92 h8 g7 fn93 h9 g8 f28 h10 g9 fn94 h11 g10 fn95 h12 g11 fn2) → va_S A s.heap H locs → lv_has ls 5 [(4, .int x67), (3, .int x68), (0, .ref h0), (1, .int v32), (2, .int v33)] → W p l e ({ frames := 8, cells := 0, slots := 0, locals := 174 }) s m ([.ref h0, .int v32, .int v33] : List Value).toArray below meth c H locs 0 0 Q (F0 m 41 ls [.int x96]) := by
            intro x96 H locs ls hP hD hS hl
            refine lv_iload_n hx hb dX12_daysTo_41 rfl (lv_at hl 3 rfl) ?_
            have hPc := hP.sub (ws' := []) [] rfl
            have hDc := hD.sub (ws' := []) [] (by decide) rfl
            have hKc := hK.sub (tys' := []) [] rfl
            have hFc := va_free (wc := []) hD hS hA [] rfl
            refine va_calli (va_runS (As := [.int x96, .int v32]) (rest := []) ⟨hx, hb, hml, hown, hts⟩ (k_X12_has l dC dI x96 v32  H.size) (va_cwS 2 hts g_X12_daysTo_3 rfl rfl rfl (by decide +kernel) ⟨Nat.le_of_ble_eq_true rfl, Nat.le_of_ble_eq_true rfl⟩) (pv_PS hPc hKc hDc) rfl rfl hl.1 rfl (lv_room (Nat.le_of_ble_eq_true rfl)) dX12_daysTo_42 ⟨Nat.le_of_ble_eq_true rfl, Nat.le_of_ble_eq_true rfl⟩) hS (fun q _ h => hFc q h) hFc (fun ra98 u t H1 locs ht hvm hwra98 hB hz1 hk1 hS => ?_)
            try rw [hwra98] at hB
            obtain ⟨pt0_ra98, pt1_ra98, pt2_ra98, pt3_ra98, hP1, hK1, hD1⟩ := hB
            rw [ht] at hP1
            obtain ⟨hP2, hD2⟩ := va_join (wr := (wd_cfaca2a5 h0 v0 r0 v1 v2 v3 v4 h1 h2 r1 h3 h4 h5 h6 v5 v6 h7 h8 r2 r3 v7 h9 r4 v8 v9 h10 r5 v10 v11 h11 x90 x91 r6 v14 w15 h12 v16 v17 r7 r8 r9 r10 r11 r12 v18 r13 r14 r15 v19 h1 g0 f20 h2 g1 f21 h3 g2 f22 h4 g3 f23 h5 g4 f24 h6 g5 f25 h7 g6 fn92 h8 g7 fn93 h9 g8 f28 h10 g9 fn94 h11 g10 fn95 h12 g11 fn2)) (w1 := []) hP hD [] [0, 1, 2, 3, 4, 5, 6, 7, 8, 9, 10, 11, 12] rfl rfl (by decide +kernel) (by decide +kernel) hk1 hFc hP1 hD1
            clear hP hD hPc hDc hKc hFc hP1 hK1 hD1 hk1 hz1
            generalize H1 = H at hP2 hS ⊢
            have hP : va_P (dC, dI) vwCl (wd_cfaca2a5 h0 v0 r0 v1 v2 v3 v4 h1 h2 r1 h3 h4 h5 h6 v5 v6 h7 h8 r2 r3 v7 h9 r4 v8 v9 h10 r5 v10 v11 h11 x90 x91 r6 v14 w15 h12 v16 v17 r7 r8 r9 r10 r11 r12 v18 r13 r14 r15 v19 h1 g0 f20 h2 g1 f21 h3 g2 f22 h4 g3 f23 h5 g4 f24 h6 g5 f25 h7 g6 fn92 h8 g7 fn93 h9 g8 f28 h10 g9 fn94 h11 g10 fn95 h12 g11 fn2) H := hP2
            have hD : va_D A (wd_cfaca2a5 h0 v0 r0 v1 v2 v3 v4 h1 h2 r1 h3 h4 h5 h6 v5 v6 h7 h8 r2 r3 v7 h9 r4 v8 v9 h10 r5 v10 v11 h11 x90 x91 r6 v14 w15 h12 v16 v17 r7 r8 r9 r10 r11 r12 v18 r13 r14 r15 v19 h1 g0 f20 h2 g1 f21 h3 g2 f22 h4 g3 f23 h5 g4 f24 h6 g5 f25 h7 g6 fn92 h8 g7 fn93 h9 g8 f28 h10 g9 fn94 h11 g10 fn95 h12 g11 fn2) := hD2
            clear hP2 hD2
            have hJ100 : ∀ (x99 : Int32) (H : Heap) (locs : List Loc) (ls : Array Slot), -1 ≤ x99.toInt → x99.toInt ≤ 99 → va_P (dC, dI) vwCl (wd_cfaca2a5 h0 v0 r0 v1 v2 v3 v4 h1 h2 r1 h3 h4 h5 h6 v5 v6 h7 h8 r2 r3 v7 h9 r4 v8 v9 h10 r5 v10 v11 h11 x90 x91 r6 v14 w15 h12 v16 v17 r7 r8 r9 r10 r11 r12 v18 r13 r14 r15 v19 h1 g0 f20 h2 g1 f21 h3 g2 f22 h4 g3 f23 h5 g4 f24 h6 g5 f25 h7 g6 fn92 h8 g7 fn93 h9 g8 f28 h10 g9 fn94 h11 g10 fn95 h12 g11 fn2) H → va_D A (wd_cfaca2a5 h0 v0 r0 v1 v2 v3 v4 h1 h2 r1 h3 h4 h5 h6 v5 v6 h7 h8 r2 r3 v7 h9 r4 v8 v9 h10 r5 v10 v11 h11 x90 x91 r6 v14 w15 h12 v16 v17 r7 r8 r9 r10 r11 r12 v18 r13 r14 r15 v19 h1 g0 f20 h2 g1 f21 h3 g2 f22 h4 g3 f23 h5 g4 f24 h6 g5 f25 h7 g6 fn92 h8 g7 fn93 h9 g8 f28 h10 g9 fn94 h11 g10 fn95 h12 g11 fn2) → va_S A s.heap H locs → lv_has ls 5 [(4, .int x67), (3, .int x68), (0, .ref h0), (1, .int v32), (2, .int v33)] → W p l e ({ frames := 8, cells := 0, slots := 0, locals := 174 }) s m ([.ref h0, .int v32, .int v33] : List Value).toArray below meth c H locs 0 0 Q (F0 m 54 ls [.int x99]) := by
              intro x99 H locs ls qa_x99 qb_x99 hP hD hS hl
              refine lv_istore_n (lv' := [(3, .int x99), (4, .int x67), (0, .ref h0), (1, .int v32), (2, .int v33)]) hx hb dX12_daysTo_54 rfl hl (by decide) rfl (fun ls hl => ?_)
              obtain ⟨t101, et101⟩ : ∃ y : Int32, y = x67 + 1 := ⟨_, rfl⟩
              have gt101 : t101.toInt = x67.toInt + (1) := pv_add (a := x67.toInt) (b := (1)) et101 rfl (by decide) (by omega) (by omega)
              refine lv_iinc (v := t101) (lv' := [(4, .int t101), (3, .int x99), (0, .ref h0), (1, .int v32), (2, .int v33)]) hx hb dX12_daysTo_55 hl (k := 1) rfl (by rw [et101]; rfl) (by decide) rfl (fun ls hl => ?_)
              refine lv_goto (tgt := 10) hx hb dX12_daysTo_58 (by decide) ?_
              exact ih_hL83 t101 x99 x90 x91 fn92 fn93 fn94 fn95 H locs ls (by first | omega | decide) (by first | omega | decide) qa_x99 qb_x99 ia_fn94 (by first | omega | (simp only [Int.toNat] at *; omega)) hP hD hS (lv_sub hl [0, 1, 2, 3, 4] rfl)
            refine lv_if_eq (tgt := 53) hx hb dX12_daysTo_45 (by decide) (fun c102 => ?_) (fun c102 => ?_)
            · skip
              have fc102 : ra98.toInt = 0 := congrArg Int32.toInt c102
              have q0pt3_ra98 := pt3_ra98 (by omega)
              refine lv_iconst (v := (-1)) hx hb dX12_daysTo_53 (by decide) ?_
              exact hJ100 ((-1)) H locs ls (by decide) (by decide) hP hD hS (lv_sub hl [0, 1, 2, 3, 4] rfl)
            · skip
              have fc102 : ¬ (ra98.toInt = 0) := fun h9 => c102 (Int32.toInt_inj.mp h9)
              have q1pt2_ra98 := pt2_ra98 (by omega)
              refine lv_iload hx hb dX12_daysTo_48 (lv_at hl 0 rfl) ?_
              refine lv_goto (tgt := 54) hx hb dX12_daysTo_50 (by decide) ?_
              exact hJ100 x67 H locs ls (by first | omega | decide) (by first | omega | decide) hP hD hS (lv_sub hl [0, 1, 2, 3, 4] rfl)
          refine lv_if_eq (tgt := 37) hx hb dX12_daysTo_27 (by decide) (fun c103 => ?_) (fun c103 => ?_)
          · skip
            have fc103 : v33.toInt = 0 := congrArg Int32.toInt c103
            refine lv_aload_n hx hb dX12_daysTo_37 rfl (lv_at hl 2 rfl) ?_
            refine va_get (D := (dC, dI)) (ci := 12) (v := .int x90) (C := RX12) (T := TX12) (N := 48) hx hb hts (fun _ h => List.mem_cons_of_mem _ (List.mem_append_right _ h)) hown hK hP 0 rfl rfl 29 (by decide) (hts (.fieldLink RX12 309 "LeftArgumentsModel" "fell" "I") (List.mem_cons_of_mem _ (List.mem_append_left _ (List.mem_of_getElem? (i := 84) rfl)))) (fun _ h9 => h9) rfl dX12_daysTo_38 ?_
            exact hJ97 x90 H locs ls hP hD hS (lv_sub hl [0, 1, 2, 3, 4] rfl)
          · skip
            have fc103 : ¬ (v33.toInt = 0) := fun h9 => c103 (Int32.toInt_inj.mp h9)
            refine lv_aload_n hx hb dX12_daysTo_30 rfl (lv_at hl 2 rfl) ?_
            refine va_get (D := (dC, dI)) (ci := 12) (v := .int x91) (C := RX12) (T := TX12) (N := 48) hx hb hts (fun _ h => List.mem_cons_of_mem _ (List.mem_append_right _ h)) hown hK hP 0 rfl rfl 30 (by decide) (hts (.fieldLink RX12 306 "LeftArgumentsModel" "ended" "I") (List.mem_cons_of_mem _ (List.mem_append_left _ (List.mem_of_getElem? (i := 79) rfl)))) (fun _ h9 => h9) rfl dX12_daysTo_31 ?_
            refine lv_goto (tgt := 41) hx hb dX12_daysTo_34 (by decide) ?_
            exact hJ97 x91 H locs ls hP hD hS (lv_sub hl [0, 1, 2, 3, 4] rfl)
  exact hL83 _ 1 ((-1)) v12 v13 f26 f27 f29 f30 H locs ls (by decide) (by decide) (by decide) (by decide) ia_f29 (Nat.lt_succ_self _) hP hD hS (lv_sub hl [0, 1, 2, 3, 4] rfl)
