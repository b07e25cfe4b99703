abbrev wd_cd150047 (p0 : Nat) (p1 : Nat) (p2 : Nat) (p3 : Nat) (p4 : Nat) (p5 : Nat) (p6 : Nat) (p7 : Nat) (p8 : Nat) (p9 : Nat) (p10 : Nat) (p11 : Nat) (p12 : Nat) (p13 : Nat) (p14 : Nat) (p15 : Int32) (p16 : Int32) (p17 : Int64) (p18 : Nat) (p19 : Nat) (p20 : Nat) (p21 : Nat) (p22 : Nat) (p23 : Int32) (p24 : Int32) (p25 : Nat) (p26 : ClassId) (p27 : Nat → Int32) (p28 : Nat) (p29 : ClassId) (p30 : Nat → Int32) (p31 : Nat) (p32 : ClassId) (p33 : Nat → Int32) (p34 : Nat) (p35 : ClassId) (p36 : Nat → Int32) (p37 : Nat) (p38 : ClassId) (p39 : Nat → Option Nat) (p40 : Nat) (p41 : ClassId) (p42 : Nat → Int32) (p43 : Nat) (p44 : ClassId) (p45 : Nat → Int32) (p46 : Nat) (p47 : ClassId) (p48 : Nat → Int32) (p49 : Nat) (p50 : Nat) (p51 : Nat) (p52 : Int32) (p53 : Int32) (p54 : Nat) (p55 : ClassId) (p56 : Nat → Int32) (p57 : Nat) (p58 : ClassId) (p59 : Nat → Int64) : va_W := [(p0, .inr (11, [.ref p1, .ref p2, .ref p3, .ref p4, .ref p5, .ref p6, .ref p7, .ref p8, .ref p9, .ref p10, .ref p11, .ref p12, .ref p13, .ref p14, .int p15, .int p16, .long p17])), (p18, .inr (4, [.ref p19, .ref p20, .ref p21, .ref p22, .int p23, .int p24])), (p25, .inl (p26, 256, .inl p27)), (p28, .inl (p29, 256, .inl p30)), (p31, .inl (p32, 256, .inl p33)), (p34, .inl (p35, 256, .inl p36)), (p37, .inl (p38, 4, .inr (.inr (.inr (.inr p39))))), (p40, .inl (p41, 4, .inl p42)), (p43, .inl (p44, 6, .inl p45)), (p46, .inl (p47, 64, .inl p48)), (p49, .inr (7, [.ref p50, .ref p51, .int p52, .int p53])), (p54, .inl (p55, 58, .inl p56)), (p57, .inl (p58, 1, .inr (.inl p59)))]
abbrev wd_96e69f96 (p0 : Nat) (p1 : ClassId) (p2 : Nat → Int64) : va_W := [(p0, .inl (p1, 1, .inr (.inl p2)))]
def q_X11_bag : List Cond := .code yX11_bag cX11_bag 3 (some .int) :: (([.fieldLink RX11 49 "LeftArguments" "room" "LLeftArguments$Room;", .code yX7_has cX7_has 2 (some .boolean), .fieldLink RX7 11 "LeftArguments$Room" "cells" "[I", .initialized RX7, .instanceMethod yX7_has, .selects RX7 yX7_has yX7_has, .methodLink RX11 169 yX7_has, .classLink RX11 172 "java/util/NoSuchElementException", .initialized "java/util/NoSuchElementException", .code yX7_of cX7_of 3 (some .int), .instanceMethod yX7_of, .selects RX7 yX7_of yX7_of, .methodLink RX11 179 yX7_of, .fieldLink RX11 35 "LeftArguments" "laws" "LLeftArguments$Laws;", .code yX4_growth cX4_growth 6 (some .int), .methodLink RX4 39 yX7_of, .code yX7_othersWith cX7_othersWith 5 (some .int), .methodLink RX7 74 yX7_of, .instanceMethod yX7_othersWith, .selects RX7 yX7_othersWith yX7_othersWith, .methodLink RX4 45 yX7_othersWith, .fieldLink RX4 32 "LeftArguments$Laws" "chosen" "I", .code yX4_held cX4_held 3 (some .int), .initialized RX4, .static yX4_held, .methodLink RX4 49 yX4_held, .fieldLink RX4 22 "LeftArguments$Laws" "letters" "[I", .code yX7_day cX7_day 1 (some .int), .instanceMethod yX7_day, .selects RX7 yX7_day yX7_day, .methodLink RX4 53 yX7_day, .fieldLink RX4 13 "LeftArguments$Laws" "codes" "[[I", .fieldLink RX4 18 "LeftArguments$Laws" "lengths" "[I", .code yX4_worth cX4_worth 7 (some .int), .fieldLink RX4 25 "LeftArguments$Laws" "pile" "[I", .code yX4_joined cX4_joined 5 (some .long), .static yX4_joined, .methodLink RX4 69 yX4_joined, .constant RX4 73 (1000000), .methodLink RX4 64 Lib.Math.max.name, .static Lib.Math.max.name, .initialized "java/lang/Math", .code Lib.Math.max.name Lib.Math.max.code 2 (some .int), .code yX4_letterOf cX4_letterOf 2 (some .int), .instanceMethod yX4_letterOf, .selects RX4 yX4_letterOf yX4_letterOf, .methodLink RX4 61 yX4_letterOf, .instanceMethod yX4_worth, .selects RX4 yX4_worth yX4_worth, .methodLink RX4 57 yX4_worth, .instanceMethod yX4_growth, .selects RX4 yX4_growth yX4_growth, .methodLink RX11 175 yX4_growth] : List Cond) ++ wsX110 ++ wsX70 ++ wsXT0 ++ wsX40)
set_option maxRecDepth 20000 in
theorem g_X11_bag_0 : GoodIn q_X11_bag (wsV RX11 169 RX7 yX7_has q_X7_has) := goodIn_app (goodIn_r _ [7, 5, 6, 4] rfl (by decide +kernel)) (goodIn_ca (goodIn_r (.code yX7_has cX7_has 2 (some .boolean) :: [.fieldLink RX7 11 "LeftArguments$Room" "cells" "[I"]) [2, 3] rfl (by decide +kernel)) (goodIn_sub (fun _ h => List.mem_cons_of_mem _ (List.mem_append_left _ (List.mem_append_left _ (List.mem_append_right _ h)))) gwX7))
set_option maxRecDepth 20000 in
theorem g_X11_bag_1 : GoodIn q_X11_bag (wsV RX11 179 RX7 yX7_of q_X7_of) := goodIn_app (goodIn_r _ [13, 11, 12, 4] rfl (by decide +kernel)) (goodIn_ca (goodIn_r (.code yX7_of cX7_of 3 (some .int) :: [.fieldLink RX7 11 "LeftArguments$Room" "cells" "[I"]) [10, 3] rfl (by decide +kernel)) (goodIn_sub (fun _ h => List.mem_cons_of_mem _ (List.mem_append_left _ (List.mem_append_left _ (List.mem_append_right _ h)))) gwX7))
set_option maxRecDepth 20000 in
theorem g_X11_bag_2 : GoodIn q_X11_bag (wsV RX11 175 RX4 yX4_growth q_X4_growth) := goodIn_app (goodIn_r _ [53, 51, 52, 24] rfl (by decide +kernel)) (goodIn_ca (goodIn_ca (goodIn_r (.code yX4_growth cX4_growth 6 (some .int) :: [.code yX7_of cX7_of 3 (some .int), .fieldLink RX7 11 "LeftArguments$Room" "cells" "[I", .initialized RX7, .instanceMethod yX7_of, .selects RX7 yX7_of yX7_of, .methodLink RX4 39 yX7_of, .code yX7_othersWith cX7_othersWith 5 (some .int), .methodLink RX7 74 yX7_of, .instanceMethod yX7_othersWith, .selects RX7 yX7_othersWith yX7_othersWith, .methodLink RX4 45 yX7_othersWith, .fieldLink RX4 32 "LeftArguments$Laws" "chosen" "I", .code yX4_held cX4_held 3 (some .int), .initialized RX4, .static yX4_held, .methodLink RX4 49 yX4_held, .fieldLink RX4 22 "LeftArguments$Laws" "letters" "[I", .code yX7_day cX7_day 1 (some .int), .instanceMethod yX7_day, .selects RX7 yX7_day yX7_day, .methodLink RX4 53 yX7_day, .fieldLink RX4 13 "LeftArguments$Laws" "codes" "[[I", .fieldLink RX4 18 "LeftArguments$Laws" "lengths" "[I", .code yX4_worth cX4_worth 7 (some .int), .fieldLink RX4 25 "LeftArguments$Laws" "pile" "[I", .code yX4_joined cX4_joined 5 (some .long), .static yX4_joined, .methodLink RX4 69 yX4_joined, .constant RX4 73 (1000000), .methodLink RX4 64 Lib.Math.max.name, .static Lib.Math.max.name, .initialized "java/lang/Math", .code Lib.Math.max.name Lib.Math.max.code 2 (some .int), .code yX4_letterOf cX4_letterOf 2 (some .int), .instanceMethod yX4_letterOf, .selects RX4 yX4_letterOf yX4_letterOf, .methodLink RX4 61 yX4_letterOf, .instanceMethod yX4_worth, .selects RX4 yX4_worth yX4_worth, .methodLink RX4 57 yX4_worth]) [15, 10, 3, 4, 11, 12, 16, 17, 18, 19, 20, 21, 22, 23, 24, 25, 26, 27, 28, 29, 30, 31, 32, 33, 34, 35, 36, 37, 38, 39, 40, 41, 42, 43, 44, 45, 46, 47, 48, 49, 50] rfl (by decide +kernel)) (goodIn_sub (fun _ h => List.mem_cons_of_mem _ (List.mem_append_left _ (List.mem_append_left _ (List.mem_append_right _ h)))) gwX7)) (goodIn_sub (fun _ h => List.mem_cons_of_mem _ (List.mem_append_right _ h)) gwX4))
set_option maxHeartbeats 4000000 in
set_option maxRecDepth 100000 in
theorem k_X11_bag (l : Launch) (hst : l.stackTraces = false) (dC : Nat → ClassId) (dI : Nat → Nat → Nat) (h0 : Nat) (h1 : Nat) (h2 : Nat) (h3 : Nat) (h4 : Nat) (h5 : Nat) (h6 : Nat) (h7 : Nat) (h8 : Nat) (h9 : Nat) (h10 : Nat) (h11 : Nat) (r0 : Nat) (r1 : Nat) (r2 : Nat) (r3 : Nat) (r4 : Nat) (r5 : Nat) (r6 : Nat) (r7 : Nat) (r8 : Nat) (r9 : Nat) (r10 : Nat) (r11 : Nat) (v0 : Int32) (v1 : Int32) (w2 : Int64) (v3 : Int32) (v4 : Int32) (g0 : ClassId) (f5 : Nat → Int32) (g1 : ClassId) (f6 : Nat → Int32) (g2 : ClassId) (f7 : Nat → Int32) (g3 : ClassId) (f8 : Nat → Int32) (g4 : ClassId) (g5 : ClassId) (f9 : Nat → Int32) (g6 : ClassId) (f10 : Nat → Int32) (g7 : ClassId) (f11 : Nat → Int32) (r12 : Nat) (v12 : Int32) (v13 : Int32) (g8 : ClassId) (f14 : Nat → Int32) (v15 : Int32) (v16 : Int32) (i_v0 : 0 ≤ v0.toInt ∧ v0.toInt ≤ 1) (i_v3 : 0 ≤ v3.toInt ∧ v3.toInt ≤ 4) (sz : Nat) : vx_Met l yX11_bag q_X11_bag ({ frames := 6, cells := 1, slots := 6, locals := 100 }) (va_Pc [.ref h0, .int v15, .int v16] (fun U => U.heap.size = sz ∧ va_P (dC, dI) vwCl (wd_6499373b h0 r0 r1 r2 h1 r3 h10 r4 r5 r6 r7 r8 r9 r10 r11 v0 v1 w2 h1 h6 h7 h8 h9 v3 v4 h2 g0 f5 h3 g1 f6 h4 g2 f7 h5 g3 f8 h6 g4 (va_up (va_up (va_up (va_up (fun _ => none) 0 (some h2)) 1 (some h3)) 2 (some h4)) 3 (some h5)) h7 g5 f9 h8 g6 f10 h9 g7 f11 h10 h11 r12 v12 v13 h11 g8 f14) U.heap ∧ va_K (dC, dI) vwCl [(g0, .int), (g1, .int), (g2, .int), (g3, .int), (g4, (.array .int)), (g5, .int), (g6, .int), (g7, .int), (g8, .int)] U ∧ va_D (fun _ => True) (wd_6499373b h0 r0 r1 r2 h1 r3 h10 r4 r5 r6 r7 r8 r9 r10 r11 v0 v1 w2 h1 h6 h7 h8 h9 v3 v4 h2 g0 f5 h3 g1 f6 h4 g2 f7 h5 g3 f8 h6 g4 (va_up (va_up (va_up (va_up (fun _ => none) 0 (some h2)) 1 (some h3)) 2 (some h4)) 3 (some h5)) h7 g5 f9 h8 g6 f10 h9 g7 f11 h10 h11 r12 v12 v13 h11 g8 f14) ∧ va_Nw (.castable "java/util/NoSuchElementException" "java/util/NoSuchElementException") U ∧ va_Nw (.declares (Bundle.init0 "java/lang/RuntimeException")) U ∧ va_Nw (.declares (Bundle.init0 "java/lang/Exception")) U ∧ va_Nw (.declares (Bundle.init0 Bundle.tN)) U ∧ vx_Zq Bundle.tN "UNASSIGNED_STACK" Bundle.steD (va_A (wd_6499373b h0 r0 r1 r2 h1 r3 h10 r4 r5 r6 r7 r8 r9 r10 r11 v0 v1 w2 h1 h6 h7 h8 h9 v3 v4 h2 g0 f5 h3 g1 f6 h4 g2 f7 h5 g3 f8 h6 g4 (va_up (va_up (va_up (va_up (fun _ => none) 0 (some h2)) 1 (some h3)) 2 (some h4)) 3 (some h5)) h7 g5 f9 h8 g6 f10 h9 g7 f11 h10 h11 r12 v12 v13 h11 g8 f14) sz) U U.heap ∧ vx_Zq Bundle.tN "SUPPRESSED_SENTINEL" Bundle.listD (va_A (wd_6499373b h0 r0 r1 r2 h1 r3 h10 r4 r5 r6 r7 r8 r9 r10 r11 v0 v1 w2 h1 h6 h7 h8 h9 v3 v4 h2 g0 f5 h3 g1 f6 h4 g2 f7 h5 g3 f8 h6 g4 (va_up (va_up (va_up (va_up (fun _ => none) 0 (some h2)) 1 (some h3)) 2 (some h4)) 3 (some h5)) h7 g5 f9 h8 g6 f10 h9 g7 f11 h10 h11 r12 v12 v13 h11 g8 f14) sz) U U.heap)) (va_Qi (fun (r : Int32) (_ : Unit) => True) (fun (_ : Unit) (t : State) => ∃ (o_h8 : Nat → Int32) (o_h9 : Nat → Int32), va_P (dC, dI) vwCl (wd_6499373b h0 r0 r1 r2 h1 r3 h10 r4 r5 r6 r7 r8 r9 r10 r11 v0 v1 w2 h1 h6 h7 h8 h9 v3 v4 h2 g0 f5 h3 g1 f6 h4 g2 f7 h5 g3 f8 h6 g4 (va_up (va_up (va_up (va_up (fun _ => none) 0 (some h2)) 1 (some h3)) 2 (some h4)) 3 (some h5)) h7 g5 f9 h8 g6 o_h8 h9 g7 o_h9 h10 h11 r12 v12 v13 h11 g8 f14) t.heap ∧ va_K (dC, dI) vwCl [] t ∧ va_D (va_A (wd_6499373b h0 r0 r1 r2 h1 r3 h10 r4 r5 r6 r7 r8 r9 r10 r11 v0 v1 w2 h1 h6 h7 h8 h9 v3 v4 h2 g0 f5 h3 g1 f6 h4 g2 f7 h5 g3 f8 h6 g4 (va_up (va_up (va_up (va_up (fun _ => none) 0 (some h2)) 1 (some h3)) 2 (some h4)) 3 (some h5)) h7 g5 f9 h8 g6 f10 h9 g7 f11 h10 h11 r12 v12 v13 h11 g8 f14) sz) (wd_6499373b h0 r0 r1 r2 h1 r3 h10 r4 r5 r6 r7 r8 r9 r10 r11 v0 v1 w2 h1 h6 h7 h8 h9 v3 v4 h2 g0 f5 h3 g1 f6 h4 g2 f7 h5 g3 f8 h6 g4 (va_up (va_up (va_up (va_up (fun _ => none) 0 (some h2)) 1 (some h3)) 2 (some h4)) 3 (some h5)) h7 g5 f9 h8 g6 o_h8 h9 g7 o_h9 h10 h11 r12 v12 v13 h11 g8 f14)) (va_A (wd_6499373b h0 r0 r1 r2 h1 r3 h10 r4 r5 r6 r7 r8 r9 r10 r11 v0 v1 w2 h1 h6 h7 h8 h9 v3 v4 h2 g0 f5 h3 g1 f6 h4 g2 f7 h5 g3 f8 h6 g4 (va_up (va_up (va_up (va_up (fun _ => none) 0 (some h2)) 1 (some h3)) 2 (some h4)) 3 (some h5)) h7 g5 f9 h8 g6 f10 h9 g7 f11 h10 h11 r12 v12 v13 h11 g8 f14) sz)) (vx_X (fun _ : Unit => True) (fun (E : String) (_ : Unit) (t : State) => E = "java/util/NoSuchElementException" ∧ va_P (dC, dI) vwCl (wd_6499373b h0 r0 r1 r2 h1 r3 h10 r4 r5 r6 r7 r8 r9 r10 r11 v0 v1 w2 h1 h6 h7 h8 h9 v3 v4 h2 g0 f5 h3 g1 f6 h4 g2 f7 h5 g3 f8 h6 g4 (va_up (va_up (va_up (va_up (fun _ => none) 0 (some h2)) 1 (some h3)) 2 (some h4)) 3 (some h5)) h7 g5 f9 h8 g6 f10 h9 g7 f11 h10 h11 r12 v12 v13 h11 g8 f14) t.heap ∧ va_D (va_A (wd_6499373b h0 r0 r1 r2 h1 r3 h10 r4 r5 r6 r7 r8 r9 r10 r11 v0 v1 w2 h1 h6 h7 h8 h9 v3 v4 h2 g0 f5 h3 g1 f6 h4 g2 f7 h5 g3 f8 h6 g4 (va_up (va_up (va_up (va_up (fun _ => none) 0 (some h2)) 1 (some h3)) 2 (some h4)) 3 (some h5)) h7 g5 f9 h8 g6 f10 h9 g7 f11 h10 h11 r12 v12 v13 h11 g8 f14) sz) (wd_6499373b h0 r0 r1 r2 h1 r3 h10 r4 r5 r6 r7 r8 r9 r10 r11 v0 v1 w2 h1 h6 h7 h8 h9 v3 v4 h2 g0 f5 h3 g1 f6 h4 g2 f7 h5 g3 f8 h6 g4 (va_up (va_up (va_up (va_up (fun _ => none) 0 (some h2)) 1 (some h3)) 2 (some h4)) 3 (some h5)) h7 g5 f9 h8 g6 f10 h9 g7 f11 h10 h11 r12 v12 v13 h11 g8 f14)) (va_A (wd_6499373b h0 r0 r1 r2 h1 r3 h10 r4 r5 r6 r7 r8 r9 r10 r11 v0 v1 w2 h1 h6 h7 h8 h9 v3 v4 h2 g0 f5 h3 g1 f6 h4 g2 f7 h5 g3 f8 h6 g4 (va_up (va_up (va_up (va_up (fun _ => none) 0 (some h2)) 1 (some h3)) 2 (some h4)) 3 (some h5)) h7 g5 f9 h8 g6 f10 h9 g7 f11 h10 h11 r12 v12 v13 h11 g8 f14) sz)) 1 6 (va_A (wd_6499373b h0 r0 r1 r2 h1 r3 h10 r4 r5 r6 r7 r8 r9 r10 r11 v0 v1 w2 h1 h6 h7 h8 h9 v3 v4 h2 g0 f5 h3 g1 f6 h4 g2 f7 h5 g3 f8 h6 g4 (va_up (va_up (va_up (va_up (fun _ => none) 0 (some h2)) 1 (some h3)) 2 (some h4)) 3 (some h5)) h7 g5 f9 h8 g6 f10 h9 g7 f11 h10 h11 r12 v12 v13 h11 g8 f14) sz) := by
  refine vx_ofW (cc := cX11_bag) (maxL := 3) (ret := (some .int)) (by decide) rfl ?_
  intro p e s m args below meth c s₁ B hml hout hv
  obtain ⟨i_v0a, i_v0b⟩ := i_v0
  obtain ⟨i_v3a, i_v3b⟩ := i_v3
  obtain ⟨rfl, hsz, hP, hK, hD0, h_ca_NSE, h_de_R, h_de_E, h_de_T, h_st_zqU, h_st_zqN⟩ := hv
  have hx := B.exec
  have hb := B.bytes
  have hr := B.returns
  have hts := atoms_spec (ws := q_X11_bag) B.pre
  have hown : s.vm.findClass RX11 = some m.cls := findClass_of_methodNamed B.named
  have hlocks := B.notSynchronized
  subst hsz
  have hD := hD0.self (sz := s.heap.size)
  generalize hAe : va_A (wd_6499373b h0 r0 r1 r2 h1 r3 h10 r4 r5 r6 r7 r8 r9 r10 r11 v0 v1 w2 h1 h6 h7 h8 h9 v3 v4 h2 g0 f5 h3 g1 f6 h4 g2 f7 h5 g3 f8 h6 g4 (va_up (va_up (va_up (va_up (fun _ => none) 0 (some h2)) 1 (some h3)) 2 (some h4)) 3 (some h5)) h7 g5 f9 h8 g6 f10 h9 g7 f11 h10 h11 r12 v12 v13 h11 g8 f14) s.heap.size = A at hD h_st_zqU h_st_zqN ⊢
  have hA : ∀ q : Nat, s.heap.size ≤ q → A q := fun q h => by rw [← hAe]; exact Or.inr h
  have hS : va_S A s.heap s.heap [] := va_S.rf
  generalize hQ : (vx_MQ below _ _ _ s 1 6 A) = Q
  have hl := lv_entry ([.ref h0, .int v15, .int v16]) (n := 3) (Nat.le_of_ble_eq_true rfl)
  rw [lg_entry_eq]
  generalize (lg_sl ([.ref h0, .int v15, .int v16]) ++ List.replicate (3 - (lg_sl ([.ref h0, .int v15, .int v16])).length) Slot.unset).toArray = ls at hl ⊢
  have hl : lv_has ls 3 [(0, .ref h0), (1, .int v15), (2, .int v16)] := hl
  obtain ⟨H, hH⟩ : ∃ H : Heap, H = s.heap := ⟨_, rfl⟩
  obtain ⟨locs, hlocs⟩ : ∃ y : List Loc, y = [] := ⟨_, rfl⟩
  have hS : va_S A s.heap H locs := by rw [hH, hlocs]; exact va_S.rf
  have hP : va_P (dC, dI) vwCl (wd_6499373b h0 r0 r1 r2 h1 r3 h10 r4 r5 r6 r7 r8 r9 r10 r11 v0 v1 w2 h1 h6 h7 h8 h9 v3 v4 h2 g0 f5 h3 g1 f6 h4 g2 f7 h5 g3 f8 h6 g4 (va_up (va_up (va_up (va_up (fun _ => none) 0 (some h2)) 1 (some h3)) 2 (some h4)) 3 (some h5)) h7 g5 f9 h8 g6 f10 h9 g7 f11 h10 h11 r12 v12 v13 h11 g8 f14) H := by rw [hH]; exact hP
  rw [← hH, ← hlocs]
  refine lv_aload_n hx hb dX11_bag_0 rfl (lv_at hl 0 rfl) ?_
  refine va_get (D := (dC, dI)) (ci := 11) (v := .ref h10) (C := RX11) (T := TX11) (N := 17) hx hb hts (fun _ h => List.mem_cons_of_mem _ (List.mem_append_left _ (List.mem_append_left _ (List.mem_append_left _ (List.mem_append_right _ h))))) hown hK hP 0 rfl rfl 5 (by decide) (hts (.fieldLink RX11 49 "LeftArguments" "room" "LLeftArguments$Room;") (List.mem_cons_of_mem _ (List.mem_append_left _ (List.mem_append_left _ (List.mem_append_left _ (List.mem_append_left _ (List.mem_of_getElem? (i := 0) rfl))))))) (fun _ h9 => h9) rfl dX11_bag_1 ?_
  refine lv_iload_n hx hb dX11_bag_4 rfl (lv_at hl 1 rfl) ?_
  have hPc := hP.sub (ws' := (wd_ec98a0b6 h10 h11 r12 v12 v13 h11 g8 f14)) [10, 11] rfl
  have hDc := hD.sub (ws' := (wd_ec98a0b6 h10 h11 r12 v12 v13 h11 g8 f14)) [10, 11] (by decide) rfl
  have hKc := hK.sub (tys' := [(g8, .int)]) [8] rfl
  have hFc := va_free (wc := (wd_ec98a0b6 h10 h11 r12 v12 v13 h11 g8 f14)) hD hS hA [10, 11] rfl
  refine va_calli (va_runV (As := [.int v15]) (rest := []) ⟨hx, hb, hml, hown, hts⟩ (k_X7_has l dC dI h10 h11 r12 v12 v13 g8 f14 v15  H.size) (cwV 1 hts g_X11_bag_0 rfl rfl rfl (by decide +kernel) ⟨Nat.le_of_ble_eq_true rfl, Nat.le_of_ble_eq_true rfl⟩) (pv_PV7 hPc hKc hDc (q0 := 0) rfl) rfl rfl hl.1 rfl (lv_room (Nat.le_of_ble_eq_true rfl)) dX11_bag_5 ⟨Nat.le_of_ble_eq_true rfl, Nat.le_of_ble_eq_true rfl⟩) hS (fun q _ h => hFc q h) hFc (fun ra1 u t H1 locs ht hvm hwra1 hB hz1 hk1 hS => ?_)
  obtain ⟨hP1, hK1, hD1⟩ := hB
  rw [ht] at hP1
  obtain ⟨hP2, hD2⟩ := va_join (wr := (wd_77f9097e h0 r0 r1 r2 h1 r3 h10 r4 r5 r6 r7 r8 r9 r10 r11 v0 v1 w2 h1 h6 h7 h8 h9 v3 v4 h2 g0 f5 h3 g1 f6 h4 g2 f7 h5 g3 f8 h6 g4 (va_up (va_up (va_up (va_up (fun _ => none) 0 (some h2)) 1 (some h3)) 2 (some h4)) 3 (some h5)) h7 g5 f9 h8 g6 f10 h9 g7 f11)) (w1 := (wd_ec98a0b6 h10 h11 r12 v12 v13 h11 g8 f14)) hP hD [10, 11] [0, 1, 2, 3, 4, 5, 6, 7, 8, 9] rfl rfl (by decide +kernel) (by decide +kernel) hk1 hFc hP1 hD1
  clear hP hD hPc hDc hKc hFc hP1 hK1 hD1 hk1 hz1
  generalize H1 = H at hP2 hS ⊢
  have hP : va_P (dC, dI) vwCl (wd_6499373b h0 r0 r1 r2 h1 r3 h10 r4 r5 r6 r7 r8 r9 r10 r11 v0 v1 w2 h1 h6 h7 h8 h9 v3 v4 h2 g0 f5 h3 g1 f6 h4 g2 f7 h5 g3 f8 h6 g4 (va_up (va_up (va_up (va_up (fun _ => none) 0 (some h2)) 1 (some h3)) 2 (some h4)) 3 (some h5)) h7 g5 f9 h8 g6 f10 h9 g7 f11 h10 h11 r12 v12 v13 h11 g8 f14) H := hP2
  have hD : va_D A (wd_6499373b h0 r0 r1 r2 h1 r3 h10 r4 r5 r6 r7 r8 r9 r10 r11 v0 v1 w2 h1 h6 h7 h8 h9 v3 v4 h2 g0 f5 h3 g1 f6 h4 g2 f7 h5 g3 f8 h6 g4 (va_up (va_up (va_up (va_up (fun _ => none) 0 (some h2)) 1 (some h3)) 2 (some h4)) 3 (some h5)) h7 g5 f9 h8 g6 f10 h9 g7 f11 h10 h11 r12 v12 v13 h11 g8 f14) := hD2
  clear hP2 hD2
  obtain ⟨wa_ra1, wb_ra1⟩ := hwra1
  have wa_ra1 : 0 ≤ ra1.toInt := wa_ra1
  have wb_ra1 : ra1.toInt ≤ 1 := wb_ra1
  refine lv_if_eq (tgt := 21) hx hb dX11_bag_8 (by decide) (fun c2 => ?_) (fun c2 => ?_)
  · skip
    have fc2 : ra1.toInt = 0 := congrArg Int32.toInt c2
    subst hQ
    exact vx_throw0 (cls := "java/util/NoSuchElementException") (names := ["java/lang/RuntimeException", "java/lang/Exception"]) (A := A) hx hb hst hown (by decide +kernel) (by decide +kernel) (hts (.classLink RX11 172 "java/util/NoSuchElementException") (List.mem_cons_of_mem _ (List.mem_append_left _ (List.mem_append_left _ (List.mem_append_left _ (List.mem_append_left _ (List.mem_of_getElem? (i := 7) rfl))))))) (hts (.initialized "java/util/NoSuchElementException") (List.mem_cons_of_mem _ (List.mem_append_left _ (List.mem_append_left _ (List.mem_append_left _ (List.mem_append_left _ (List.mem_of_getElem? (i := 8) rfl))))))) (vx_hat (fun w h => hts w (((fun _ h => List.mem_cons_of_mem _ (List.mem_append_left _ (List.mem_append_right _ h)))) w h)) pv_ng (vx_c (va_Nw.use rfl h_ca_NSE) (vx_c (va_Nw.use rfl h_de_R) (vx_c (va_Nw.use rfl h_de_E) (vx_c (va_Nw.use rfl h_de_T) vx_n))))) pv_ot h_st_zqU h_st_zqN hS (by rw [hml]; exact hl.1) dX11_bag_21 dX11_bag_24 dX11_bag_25 dX11_bag_28 (fun x hx9 => absurd hx9 (hout x)) (Nat.le_of_ble_eq_true rfl) (Nat.le_of_ble_eq_true rfl) (Nat.le_of_ble_eq_true rfl) (Nat.le_of_ble_eq_true rfl) hlocks (fun t hvm hz hk => ⟨(), trivial, ⟨rfl, hP.kept (fun k9 x9 h9 => hk x9.1 ((hP k9 x9 h9).lt)), hD⟩, Nat.le_trans hS.1 hz, fun q h1 h2 => by rw [hk q (Nat.lt_of_lt_of_le h1 hS.1)]; exact hS.2.1 q h1 h2⟩) hS.2.2 (Nat.le_of_ble_eq_true rfl) (Nat.le_of_ble_eq_true rfl)
  · skip
    have fc2 : ¬ (ra1.toInt = 0) := fun h9 => c2 (Int32.toInt_inj.mp h9)
    refine lv_iload_n hx hb dX11_bag_11 rfl (lv_at hl 2 rfl) ?_
    refine lv_if_lt (tgt := 21) hx hb dX11_bag_12 (by decide) (fun c3 => ?_) (fun c3 => ?_)
    · skip
      have fc3 : v16.toInt < 0 := Int32.lt_iff_toInt_lt.mp c3
      subst hQ
      exact vx_throw0 (cls := "java/util/NoSuchElementException") (names := ["java/lang/RuntimeException", "java/lang/Exception"]) (A := A) hx hb hst hown (by decide +kernel) (by decide +kernel) (hts (.classLink RX11 172 "java/util/NoSuchElementException") (List.mem_cons_of_mem _ (List.mem_append_left _ (List.mem_append_left _ (List.mem_append_left _ (List.mem_append_left _ (List.mem_of_getElem? (i := 7) rfl))))))) (hts (.initialized "java/util/NoSuchElementException") (List.mem_cons_of_mem _ (List.mem_append_left _ (List.mem_append_left _ (List.mem_append_left _ (List.mem_append_left _ (List.mem_of_getElem? (i := 8) rfl))))))) (vx_hat (fun w h => hts w (((fun _ h => List.mem_cons_of_mem _ (List.mem_append_left _ (List.mem_append_right _ h)))) w h)) pv_ng (vx_c (va_Nw.use rfl h_ca_NSE) (vx_c (va_Nw.use rfl h_de_R) (vx_c (va_Nw.use rfl h_de_E) (vx_c (va_Nw.use rfl h_de_T) vx_n))))) pv_ot h_st_zqU h_st_zqN hS (by rw [hml]; exact hl.1) dX11_bag_21 dX11_bag_24 dX11_bag_25 dX11_bag_28 (fun x hx9 => absurd hx9 (hout x)) (Nat.le_of_ble_eq_true rfl) (Nat.le_of_ble_eq_true rfl) (Nat.le_of_ble_eq_true rfl) (Nat.le_of_ble_eq_true rfl) hlocks (fun t hvm hz hk => ⟨(), trivial, ⟨rfl, hP.kept (fun k9 x9 h9 => hk x9.1 ((hP k9 x9 h9).lt)), hD⟩, Nat.le_trans hS.1 hz, fun q h1 h2 => by rw [hk q (Nat.lt_of_lt_of_le h1 hS.1)]; exact hS.2.1 q h1 h2⟩) hS.2.2 (Nat.le_of_ble_eq_true rfl) (Nat.le_of_ble_eq_true rfl)
    · skip
      have fc3 : ¬ (v16.toInt < 0) := fun h9 => c3 (Int32.lt_iff_toInt_lt.mpr h9)
      refine lv_iload_n hx hb dX11_bag_15 rfl (lv_at hl 2 rfl) ?_
      refine lv_bipush (v := 7) hx hb dX11_bag_16 (by decide) ?_
      refine lv_icmp_le (tgt := 29) hx hb dX11_bag_18 (by decide) (fun c4 => ?_) (fun c4 => ?_)
      · skip
        have fc4 : v16.toInt ≤ 7 := Int32.le_iff_toInt_le.mp c4
        refine lv_iload_n hx hb dX11_bag_29 rfl (lv_at hl 2 rfl) ?_
        refine lv_bipush (v := 7) hx hb dX11_bag_30 (by decide) ?_
        have hJ8 : ∀ (x5 : Int32) (fn6 : Nat → Int32) (fn7 : Nat → Int32) (H : Heap) (locs : List Loc) (ls : Array Slot), va_P (dC, dI) vwCl (wd_6499373b h0 r0 r1 r2 h1 r3 h10 r4 r5 r6 r7 r8 r9 r10 r11 v0 v1 w2 h1 h6 h7 h8 h9 v3 v4 h2 g0 f5 h3 g1 f6 h4 g2 f7 h5 g3 f8 h6 g4 (va_up (va_up (va_up (va_up (fun _ => none) 0 (some h2)) 1 (some h3)) 2 (some h4)) 3 (some h5)) h7 g5 f9 h8 g6 fn6 h9 g7 fn7 h10 h11 r12 v12 v13 h11 g8 f14) H → va_D A (wd_6499373b h0 r0 r1 r2 h1 r3 h10 r4 r5 r6 r7 r8 r9 r10 r11 v0 v1 w2 h1 h6 h7 h8 h9 v3 v4 h2 g0 f5 h3 g1 f6 h4 g2 f7 h5 g3 f8 h6 g4 (va_up (va_up (va_up (va_up (fun _ => none) 0 (some h2)) 1 (some h3)) 2 (some h4)) 3 (some h5)) h7 g5 f9 h8 g6 fn6 h9 g7 fn7 h10 h11 r12 v12 v13 h11 g8 f14) → va_S A s.heap H locs → lv_has ls 3 [(0, .ref h0), (1, .int v15), (2, .int v16)] → W p l e ({ frames := 6, cells := 1, slots := 6, locals := 100 }) s m ([.ref h0, .int v15, .int v16] : List Value).toArray below meth c H locs 0 0 Q (F0 m 59 ls [.int x5]) := by
          intro x5 fn6 fn7 H locs ls hP hD hS hl
          subst hQ
          have hP9 := hP.sub (ws' := (wd_6499373b h0 r0 r1 r2 h1 r3 h10 r4 r5 r6 r7 r8 r9 r10 r11 v0 v1 w2 h1 h6 h7 h8 h9 v3 v4 h2 g0 f5 h3 g1 f6 h4 g2 f7 h5 g3 f8 h6 g4 (va_up (va_up (va_up (va_up (fun _ => none) 0 (some h2)) 1 (some h3)) 2 (some h4)) 3 (some h5)) h7 g5 f9 h8 g6 fn6 h9 g7 fn7 h10 h11 r12 v12 v13 h11 g8 f14)) [0, 1, 2, 3, 4, 5, 6, 7, 8, 9, 10, 11] rfl
          have hD9 := hD.sub (ws' := (wd_6499373b h0 r0 r1 r2 h1 r3 h10 r4 r5 r6 r7 r8 r9 r10 r11 v0 v1 w2 h1 h6 h7 h8 h9 v3 v4 h2 g0 f5 h3 g1 f6 h4 g2 f7 h5 g3 f8 h6 g4 (va_up (va_up (va_up (va_up (fun _ => none) 0 (some h2)) 1 (some h3)) 2 (some h4)) 3 (some h5)) h7 g5 f9 h8 g6 fn6 h9 g7 fn7 h10 h11 r12 v12 v13 h11 g8 f14)) [0, 1, 2, 3, 4, 5, 6, 7, 8, 9, 10, 11] (by decide +kernel) rfl
          have hK9 := hK.sub (tys' := []) [] rfl
          refine W.widen (k := 1) (n := 6) (Nat.le_of_ble_eq_true rfl) (Nat.le_of_ble_eq_true rfl) ?_
          refine vx_ret ?_
          exact W.iret (v := x5) hx hb hr (fun t ht hW => ⟨⟨x5, (), rfl, trivial, fn6, fn7, by rw [ht]; exact hP9, va_K.moved hW.alike hK9, hD9⟩, hS.F ht⟩) hS.2.2 dX11_bag_59
        refine lv_icmp_ne (tgt := 50) hx hb dX11_bag_32 (by decide) (fun c9 => ?_) (fun c9 => ?_)
        · skip
          have fc9 : ¬ (v16.toInt = 7) := fun h9 => c9 (Int32.toInt_inj.mp h9)
          refine lv_aload_n hx hb dX11_bag_50 rfl (lv_at hl 0 rfl) ?_
          refine va_get (D := (dC, dI)) (ci := 11) (v := .ref h10) (C := RX11) (T := TX11) (N := 17) hx hb hts (fun _ h => List.mem_cons_of_mem _ (List.mem_append_left _ (List.mem_append_left _ (List.mem_append_left _ (List.mem_append_right _ h))))) hown hK hP 0 rfl rfl 5 (by decide) (hts (.fieldLink RX11 49 "LeftArguments" "room" "LLeftArguments$Room;") (List.mem_cons_of_mem _ (List.mem_append_left _ (List.mem_append_left _ (List.mem_append_left _ (List.mem_append_left _ (List.mem_of_getElem? (i := 0) rfl))))))) (fun _ h9 => h9) rfl dX11_bag_51 ?_
          refine lv_iload_n hx hb dX11_bag_54 rfl (lv_at hl 1 rfl) ?_
          refine lv_iload_n hx hb dX11_bag_55 rfl (lv_at hl 2 rfl) ?_
          have hPc := hP.sub (ws' := (wd_ec98a0b6 h10 h11 r12 v12 v13 h11 g8 f14)) [10, 11] rfl
          have hDc := hD.sub (ws' := (wd_ec98a0b6 h10 h11 r12 v12 v13 h11 g8 f14)) [10, 11] (by decide) rfl
          have hKc := hK.sub (tys' := [(g8, .int)]) [8] rfl
          have hFc := va_free (wc := (wd_ec98a0b6 h10 h11 r12 v12 v13 h11 g8 f14)) hD hS hA [10, 11] rfl
          refine va_calli (va_runV (As := [.int v15, .int v16]) (rest := []) ⟨hx, hb, hml, hown, hts⟩ (k_X7_of l dC dI h10 h11 r12 v12 v13 g8 f14 v15 v16  H.size) (cwV 2 hts g_X11_bag_1 rfl rfl rfl (by decide +kernel) ⟨Nat.le_of_ble_eq_true rfl, Nat.le_of_ble_eq_true rfl⟩) (pv_PV7 hPc hKc hDc (q0 := 0) rfl) rfl rfl hl.1 rfl (lv_room (Nat.le_of_ble_eq_true rfl)) dX11_bag_56 ⟨Nat.le_of_ble_eq_true rfl, Nat.le_of_ble_eq_true rfl⟩) hS (fun q _ h => hFc q h) hFc (fun ra10 u t H1 locs ht hvm hwra10 hB hz1 hk1 hS => ?_)
          obtain ⟨hP1, hK1, hD1⟩ := hB
          rw [ht] at hP1
          obtain ⟨hP2, hD2⟩ := va_join (wr := (wd_77f9097e h0 r0 r1 r2 h1 r3 h10 r4 r5 r6 r7 r8 r9 r10 r11 v0 v1 w2 h1 h6 h7 h8 h9 v3 v4 h2 g0 f5 h3 g1 f6 h4 g2 f7 h5 g3 f8 h6 g4 (va_up (va_up (va_up (va_up (fun _ => none) 0 (some h2)) 1 (some h3)) 2 (some h4)) 3 (some h5)) h7 g5 f9 h8 g6 f10 h9 g7 f11)) (w1 := (wd_ec98a0b6 h10 h11 r12 v12 v13 h11 g8 f14)) hP hD [10, 11] [0, 1, 2, 3, 4, 5, 6, 7, 8, 9] rfl rfl (by decide +kernel) (by decide +kernel) hk1 hFc hP1 hD1
          clear hP hD hPc hDc hKc hFc hP1 hK1 hD1 hk1 hz1
          generalize H1 = H at hP2 hS ⊢
          have hP : va_P (dC, dI) vwCl (wd_6499373b h0 r0 r1 r2 h1 r3 h10 r4 r5 r6 r7 r8 r9 r10 r11 v0 v1 w2 h1 h6 h7 h8 h9 v3 v4 h2 g0 f5 h3 g1 f6 h4 g2 f7 h5 g3 f8 h6 g4 (va_up (va_up (va_up (va_up (fun _ => none) 0 (some h2)) 1 (some h3)) 2 (some h4)) 3 (some h5)) h7 g5 f9 h8 g6 f10 h9 g7 f11 h10 h11 r12 v12 v13 h11 g8 f14) H := hP2
          have hD : va_D A (wd_6499373b h0 r0 r1 r2 h1 r3 h10 r4 r5 r6 r7 r8 r9 r10 r11 v0 v1 w2 h1 h6 h7 h8 h9 v3 v4 h2 g0 f5 h3 g1 f6 h4 g2 f7 h5 g3 f8 h6 g4 (va_up (va_up (va_up (va_up (fun _ => none) 0 (some h2)) 1 (some h3)) 2 (some h4)) 3 (some h5)) h7 g5 f9 h8 g6 f10 h9 g7 f11 h10 h11 r12 v12 v13 h11 g8 f14) := hD2
          clear hP2 hD2
          exact hJ8 ra10 f10 f11 H locs ls hP hD hS (lv_sub hl [0, 1, 2] rfl)
        · skip
          have fc9 : v16.toInt = 7 := congrArg Int32.toInt c9
          refine lv_aload_n hx hb dX11_bag_35 rfl (lv_at hl 0 rfl) ?_
          refine va_get (D := (dC, dI)) (ci := 11) (v := .ref h1) (C := RX11) (T := TX11) (N := 17) hx hb hts (fun _ h => List.mem_cons_of_mem _ (List.mem_append_left _ (List.mem_append_left _ (List.mem_append_left _ (List.mem_append_right _ h))))) hown hK hP 0 rfl rfl 3 (by decide) (hts (.fieldLink RX11 35 "LeftArguments" "laws" "LLeftArguments$Laws;") (List.mem_cons_of_mem _ (List.mem_append_left _ (List.mem_append_left _ (List.mem_append_left _ (List.mem_append_left _ (List.mem_of_getElem? (i := 13) rfl))))))) (fun _ h9 => h9) rfl dX11_bag_36 ?_
          refine lv_aload_n hx hb dX11_bag_39 rfl (lv_at hl 0 rfl) ?_
          refine va_get (D := (dC, dI)) (ci := 11) (v := .ref h10) (C := RX11) (T := TX11) (N := 17) hx hb hts (fun _ h => List.mem_cons_of_mem _ (List.mem_append_left _ (List.mem_append_left _ (List.mem_append_left _ (List.mem_append_right _ h))))) hown hK hP 0 rfl rfl 5 (by decide) (hts (.fieldLink RX11 49 "LeftArguments" "room" "LLeftArguments$Room;") (List.mem_cons_of_mem _ (List.mem_append_left _ (List.mem_append_left _ (List.mem_append_left _ (List.mem_append_left _ (List.mem_of_getElem? (i := 0) rfl))))))) (fun _ h9 => h9) rfl dX11_bag_40 ?_
          refine lv_iload_n hx hb dX11_bag_43 rfl (lv_at hl 1 rfl) ?_
          have hPc := hP.sub (ws' := (wd_e8c6e59b h1 h6 h7 h8 h9 v3 v4 h2 g0 f5 h3 g1 f6 h4 g2 f7 h5 g3 f8 h6 g4 (va_up (va_up (va_up (va_up (fun _ => none) 0 (some h2)) 1 (some h3)) 2 (some h4)) 3 (some h5)) h7 g5 f9 h8 g6 f10 h9 g7 f11 h10 h11 r12 v12 v13 h11 g8 f14)) [1, 2, 3, 4, 5, 6, 7, 8, 9, 10, 11] rfl
          have hDc := hD.sub (ws' := (wd_e8c6e59b h1 h6 h7 h8 h9 v3 v4 h2 g0 f5 h3 g1 f6 h4 g2 f7 h5 g3 f8 h6 g4 (va_up (va_up (va_up (va_up (fun _ => none) 0 (some h2)) 1 (some h3)) 2 (some h4)) 3 (some h5)) h7 g5 f9 h8 g6 f10 h9 g7 f11 h10 h11 r12 v12 v13 h11 g8 f14)) [1, 2, 3, 4, 5, 6, 7, 8, 9, 10, 11] (by decide +kernel) rfl
          have hKc := hK.sub (tys' := [(g0, .int), (g1, .int), (g2, .int), (g3, .int), (g4, (.array .int)), (g5, .int), (g6, .int), (g7, .int), (g8, .int)]) [0, 1, 2, 3, 4, 5, 6, 7, 8] rfl
          have hFc := va_free (wc := (wd_e8c6e59b h1 h6 h7 h8 h9 v3 v4 h2 g0 f5 h3 g1 f6 h4 g2 f7 h5 g3 f8 h6 g4 (va_up (va_up (va_up (va_up (fun _ => none) 0 (some h2)) 1 (some h3)) 2 (some h4)) 3 (some h5)) h7 g5 f9 h8 g6 f10 h9 g7 f11 h10 h11 r12 v12 v13 h11 g8 f14)) hD hS hA [1, 2, 3, 4, 5, 6, 7, 8, 9, 10, 11] rfl
          refine va_calli (va_runV (As := [.ref h10, .int v15]) (rest := []) ⟨hx, hb, hml, hown, hts⟩ (k_X4_growth l dC dI h1 h2 h3 h4 h5 h6 h7 h8 h9 h10 h11 v3 v4 g0 f5 g1 f6 g2 f7 g3 f8 g4 g5 f9 g6 f10 g7 f11 r12 v12 v13 g8 f14 v15 ⟨i_v3a, i_v3b⟩ H.size) (cwV 2 hts g_X11_bag_2 rfl rfl rfl (by decide +kernel) ⟨Nat.le_of_ble_eq_true rfl, Nat.le_of_ble_eq_true rfl⟩) (pv_PV4 hPc hKc hDc (q0 := 0) rfl) rfl rfl hl.1 rfl (lv_room (Nat.le_of_ble_eq_true rfl)) dX11_bag_44 ⟨Nat.le_of_ble_eq_true rfl, Nat.le_of_ble_eq_true rfl⟩) hS (fun q _ h => hFc q h) hFc (fun ra11 u t H1 locs ht hvm hwra11 hB hz1 hk1 hS => ?_)
          obtain ⟨fn12, fn13, hP1, hK1, hD1⟩ := hB
          rw [ht] at hP1
          obtain ⟨hP2, hD2⟩ := va_join (wr := (wd_be8fc520 h0 r0 r1 r2 h1 r3 h10 r4 r5 r6 r7 r8 r9 r10 r11 v0 v1 w2)) (w1 := (wd_e8c6e59b h1 h6 h7 h8 h9 v3 v4 h2 g0 f5 h3 g1 f6 h4 g2 f7 h5 g3 f8 h6 g4 (va_up (va_up (va_up (va_up (fun _ => none) 0 (some h2)) 1 (some h3)) 2 (some h4)) 3 (some h5)) h7 g5 f9 h8 g6 fn12 h9 g7 fn13 h10 h11 r12 v12 v13 h11 g8 f14)) hP hD [1, 2, 3, 4, 5, 6, 7, 8, 9, 10, 11] [0] rfl rfl (by decide +kernel) (by decide +kernel) hk1 hFc hP1 hD1
          clear hP hD hPc hDc hKc hFc hP1 hK1 hD1 hk1 hz1
          generalize H1 = H at hP2 hS ⊢
          have hP : va_P (dC, dI) vwCl (wd_6499373b h0 r0 r1 r2 h1 r3 h10 r4 r5 r6 r7 r8 r9 r10 r11 v0 v1 w2 h1 h6 h7 h8 h9 v3 v4 h2 g0 f5 h3 g1 f6 h4 g2 f7 h5 g3 f8 h6 g4 (va_up (va_up (va_up (va_up (fun _ => none) 0 (some h2)) 1 (some h3)) 2 (some h4)) 3 (some h5)) h7 g5 f9 h8 g6 fn12 h9 g7 fn13 h10 h11 r12 v12 v13 h11 g8 f14) H := hP2
          have hD : va_D A (wd_6499373b h0 r0 r1 r2 h1 r3 h10 r4 r5 r6 r7 r8 r9 r10 r11 v0 v1 w2 h1 h6 h7 h8 h9 v3 v4 h2 g0 f5 h3 g1 f6 h4 g2 f7 h5 g3 f8 h6 g4 (va_up (va_up (va_up (va_up (fun _ => none) 0 (some h2)) 1 (some h3)) 2 (some h4)) 3 (some h5)) h7 g5 f9 h8 g6 fn12 h9 g7 fn13 h10 h11 r12 v12 v13 h11 g8 f14) := hD2
          clear hP2 hD2
          refine lv_goto (tgt := 59) hx hb dX11_bag_47 (by decide) ?_
          exact hJ8 ra11 fn12 fn13 H locs ls hP hD hS (lv_sub hl [0, 1, 2] rfl)
      · skip
        have fc4 : ¬ (v16.toInt ≤ 7) := fun h9 => c4 (Int32.le_iff_toInt_le.mpr h9)
        subst hQ
        exact vx_throw0 (cls := "java/util/NoSuchElementException") (names := ["java/lang/RuntimeException", "java/lang/Exception"]) (A := A) hx hb hst hown (by decide +kernel) (by decide +kernel) (hts (.classLink RX11 172 "java/util/NoSuchElementException") (List.mem_cons_of_mem _ (List.mem_append_left _ (List.mem_append_left _ (List.mem_append_left _ (List.mem_append_left _ (List.mem_of_getElem? (i := 7) rfl))))))) (hts (.initialized "java/util/NoSuchElementException") (List.mem_cons_of_mem _ (List.mem_append_left _ (List.mem_append_left _ (List.mem_append_left _ (List.mem_append_left _ (List.mem_of_getElem? (i := 8) rfl))))))) (vx_hat (fun w h => hts w (((fun _ h => List.mem_cons_of_mem _ (List.mem_append_left _ (List.mem_append_right _ h)))) w h)) pv_ng (vx_c (va_Nw.use rfl h_ca_NSE) (vx_c (va_Nw.use rfl h_de_R) (vx_c (va_Nw.use rfl h_de_E) (vx_c (va_Nw.use rfl h_de_T) vx_n))))) pv_ot h_st_zqU h_st_zqN hS (by rw [hml]; exact hl.1) dX11_bag_21 dX11_bag_24 dX11_bag_25 dX11_bag_28 (fun x hx9 => absurd hx9 (hout x)) (Nat.le_of_ble_eq_true rfl) (Nat.le_of_ble_eq_true rfl) (Nat.le_of_ble_eq_true rfl) (Nat.le_of_ble_eq_true rfl) hlocks (fun t hvm hz hk => ⟨(), trivial, ⟨rfl, hP.kept (fun k9 x9 h9 => hk x9.1 ((hP k9 x9 h9).lt)), hD⟩, Nat.le_trans hS.1 hz, fun q h1 h2 => by rw [hk q (Nat.lt_of_lt_of_le h1 hS.1)]; exact hS.2.1 q h1 h2⟩) hS.2.2 (Nat.le_of_ble_eq_true rfl) (Nat.le_of_ble_eq_true rfl)
def q_L_bag : List Cond := .codeWith yL_bag cL_bag 5 (some .int) [(0, 10, 13, 13)] :: (([.code yX11_bag cX11_bag 3 (some .int), .fieldLink RX11 49 "LeftArguments" "room" "LLeftArguments$Room;", .code yX7_has cX7_has 2 (some .boolean), .fieldLink RX7 11 "LeftArguments$Room" "cells" "[I", .initialized RX7, .instanceMethod yX7_has, .selects RX7 yX7_has yX7_has, .methodLink RX11 169 yX7_has, .classLink RX11 172 "java/util/NoSuchElementException", .initialized "java/util/NoSuchElementException", .code yX7_of cX7_of 3 (some .int), .instanceMethod yX7_of, .selects RX7 yX7_of yX7_of, .methodLink RX11 179 yX7_of, .fieldLink RX11 35 "LeftArguments" "laws" "LLeftArguments$Laws;", .code yX4_growth cX4_growth 6 (some .int), .methodLink RX4 39 yX7_of, .code yX7_othersWith cX7_othersWith 5 (some .int), .methodLink RX7 74 yX7_of, .instanceMethod yX7_othersWith, .selects RX7 yX7_othersWith yX7_othersWith, .methodLink RX4 45 yX7_othersWith, .fieldLink RX4 32 "LeftArguments$Laws" "chosen" "I", .code yX4_held cX4_held 3 (some .int), .initialized RX4, .static yX4_held, .methodLink RX4 49 yX4_held, .fieldLink RX4 22 "LeftArguments$Laws" "letters" "[I", .code yX7_day cX7_day 1 (some .int), .instanceMethod yX7_day, .selects RX7 yX7_day yX7_day, .methodLink RX4 53 yX7_day, .fieldLink RX4 13 "LeftArguments$Laws" "codes" "[[I", .fieldLink RX4 18 "LeftArguments$Laws" "lengths" "[I", .code yX4_worth cX4_worth 7 (some .int), .fieldLink RX4 25 "LeftArguments$Laws" "pile" "[I", .code yX4_joined cX4_joined 5 (some .long), .static yX4_joined, .methodLink RX4 69 yX4_joined, .constant RX4 73 (1000000), .methodLink RX4 64 Lib.Math.max.name, .static Lib.Math.max.name, .initialized "java/lang/Math", .code Lib.Math.max.name Lib.Math.max.code 2 (some .int), .code yX4_letterOf cX4_letterOf 2 (some .int), .instanceMethod yX4_letterOf, .selects RX4 yX4_letterOf yX4_letterOf, .methodLink RX4 61 yX4_letterOf, .instanceMethod yX4_worth, .selects RX4 yX4_worth yX4_worth, .methodLink RX4 57 yX4_worth, .instanceMethod yX4_growth, .selects RX4 yX4_growth yX4_growth, .methodLink RX11 175 yX4_growth, .methodLink RL 7 yX11_bag, .instanceMethod yX11_bag, .selects RX11 yX11_bag yX11_bag, .initialized RX11, .classLink RL 13 "java/util/NoSuchElementException"] : List Cond) ++ wsX110 ++ wsX70 ++ wsXT0 ++ wsX40)
set_option maxRecDepth 20000 in
theorem g_L_bag_0 : GoodIn q_L_bag (wsV RL 7 RX11 yX11_bag q_X11_bag) := goodIn_app (goodIn_r _ [55, 56, 57, 58] rfl (by decide +kernel)) (goodIn_ca (goodIn_ca (goodIn_ca (goodIn_ca (goodIn_r (.code yX11_bag cX11_bag 3 (some .int) :: [.fieldLink RX11 49 "LeftArguments" "room" "LLeftArguments$Room;", .code yX7_has cX7_has 2 (some .boolean), .fieldLink RX7 11 "LeftArguments$Room" "cells" "[I", .initialized RX7, .instanceMethod yX7_has, .selects RX7 yX7_has yX7_has, .methodLink RX11 169 yX7_has, .classLink RX11 172 "java/util/NoSuchElementException", .initialized "java/util/NoSuchElementException", .code yX7_of cX7_of 3 (some .int), .instanceMethod yX7_of, .selects RX7 yX7_of yX7_of, .methodLink RX11 179 yX7_of, .fieldLink RX11 35 "LeftArguments" "laws" "LLeftArguments$Laws;", .code yX4_growth cX4_growth 6 (some .int), .methodLink RX4 39 yX7_of, .code yX7_othersWith cX7_othersWith 5 (some .int), .methodLink RX7 74 yX7_of, .instanceMethod yX7_othersWith, .selects RX7 yX7_othersWith yX7_othersWith, .methodLink RX4 45 yX7_othersWith, .fieldLink RX4 32 "LeftArguments$Laws" "chosen" "I", .code yX4_held cX4_held 3 (some .int), .initialized RX4, .static yX4_held, .methodLink RX4 49 yX4_held, .fieldLink RX4 22 "LeftArguments$Laws" "letters" "[I", .code yX7_day cX7_day 1 (some .int), .instanceMethod yX7_day, .selects RX7 yX7_day yX7_day, .methodLink RX4 53 yX7_day, .fieldLink RX4 13 "LeftArguments$Laws" "codes" "[[I", .fieldLink RX4 18 "LeftArguments$Laws" "lengths" "[I", .code yX4_worth cX4_worth 7 (some .int), .fieldLink RX4 25 "LeftArguments$Laws" "pile" "[I", .code yX4_joined cX4_joined 5 (some .long), .static yX4_joined, .methodLink RX4 69 yX4_joined, .constant RX4 73 (1000000), .methodLink RX4 64 Lib.Math.max.name, .static Lib.Math.max.name, .initialized "java/lang/Math", .code Lib.Math.max.name Lib.Math.max.code 2 (some .int), .code yX4_letterOf cX4_letterOf 2 (some .int), .instanceMethod yX4_letterOf, .selects RX4 yX4_letterOf yX4_letterOf, .methodLink RX4 61 yX4_letterOf, .instanceMethod yX4_worth, .selects RX4 yX4_worth yX4_worth, .methodLink RX4 57 yX4_worth, .instanceMethod yX4_growth, .selects RX4 yX4_growth yX4_growth, .methodLink RX11 175 yX4_growth]) [1, 2, 3, 4, 5, 6, 7, 8, 9, 10, 11, 12, 13, 14, 15, 16, 17, 18, 19, 20, 21, 22, 23, 24, 25, 26, 27, 28, 29, 30, 31, 32, 33, 34, 35, 36, 37, 38, 39, 40, 41, 42, 43, 44, 45, 46, 47, 48, 49, 50, 51, 52, 53, 54] rfl (by decide +kernel)) (goodIn_sub (fun _ h => List.mem_cons_of_mem _ (List.mem_append_left _ (List.mem_append_left _ (List.mem_append_left _ (List.mem_append_right _ h))))) gwX11)) (goodIn_sub (fun _ h => List.mem_cons_of_mem _ (List.mem_append_left _ (List.mem_append_left _ (List.mem_append_right _ h)))) gwX7)) (goodIn_sub (fun _ h => List.mem_cons_of_mem _ (List.mem_append_left _ (List.mem_append_right _ h))) gwXT)) (goodIn_sub (fun _ h => List.mem_cons_of_mem _ (List.mem_append_right _ h)) gwX4))
set_option maxHeartbeats 4000000 in
set_option maxRecDepth 100000 in
theorem k_L_bag (l : Launch) (hst : l.stackTraces = false) (dC : Nat → ClassId) (dI : Nat → Nat → Nat) (h0 : Nat) (h1 : Nat) (h2 : Nat) (h3 : Nat) (h4 : Nat) (h5 : Nat) (h6 : Nat) (h7 : Nat) (h8 : Nat) (h9 : Nat) (h10 : Nat) (h11 : Nat) (r0 : Nat) (r1 : Nat) (r2 : Nat) (r3 : Nat) (r4 : Nat) (r5 : Nat) (r6 : Nat) (r7 : Nat) (r8 : Nat) (r9 : Nat) (r10 : Nat) (r11 : Nat) (v0 : Int32) (v1 : Int32) (w2 : Int64) (v3 : Int32) (v4 : Int32) (g0 : ClassId) (f5 : Nat → Int32) (g1 : ClassId) (f6 : Nat → Int32) (g2 : ClassId) (f7 : Nat → Int32) (g3 : ClassId) (f8 : Nat → Int32) (g4 : ClassId) (g5 : ClassId) (f9 : Nat → Int32) (g6 : ClassId) (f10 : Nat → Int32) (g7 : ClassId) (f11 : Nat → Int32) (r12 : Nat) (v12 : Int32) (v13 : Int32) (g8 : ClassId) (f14 : Nat → Int32) (v15 : Int32) (v16 : Int32) (o0 : Nat) (ko : ClassId) (fo : Nat → Int64) (i_v0 : 0 ≤ v0.toInt ∧ v0.toInt ≤ 1) (i_v3 : 0 ≤ v3.toInt ∧ v3.toInt ≤ 4) (sz : Nat) : vx_Met l yL_bag q_L_bag ({ frames := 7, cells := 1, slots := 6, locals := 122 }) (va_Pc [.ref h0, .int v15, .int v16, .ref o0] (fun U => U.heap.size = sz ∧ va_P (dC, dI) vwCl (wd_cd150047 h0 r0 r1 r2 h1 r3 h10 r4 r5 r6 r7 r8 r9 r10 r11 v0 v1 w2 h1 h6 h7 h8 h9 v3 v4 h2 g0 f5 h3 g1 f6 h4 g2 f7 h5 g3 f8 h6 g4 (va_up (va_up (va_up (va_up (fun _ => none) 0 (some h2)) 1 (some h3)) 2 (some h4)) 3 (some h5)) h7 g5 f9 h8 g6 f10 h9 g7 f11 h10 h11 r12 v12 v13 h11 g8 f14 o0 ko fo) U.heap ∧ va_K (dC, dI) vwCl [(g0, .int), (g1, .int), (g2, .int), (g3, .int), (g4, (.array .int)), (g5, .int), (g6, .int), (g7, .int), (g8, .int), (ko, .long)] U ∧ va_D (fun _ => True) (wd_cd150047 h0 r0 r1 r2 h1 r3 h10 r4 r5 r6 r7 r8 r9 r10 r11 v0 v1 w2 h1 h6 h7 h8 h9 v3 v4 h2 g0 f5 h3 g1 f6 h4 g2 f7 h5 g3 f8 h6 g4 (va_up (va_up (va_up (va_up (fun _ => none) 0 (some h2)) 1 (some h3)) 2 (some h4)) 3 (some h5)) h7 g5 f9 h8 g6 f10 h9 g7 f11 h10 h11 r12 v12 v13 h11 g8 f14 o0 ko fo) ∧ va_Nw (.castable "java/util/NoSuchElementException" "java/util/NoSuchElementException") U ∧ va_Nw (.declares (Bundle.init0 "java/lang/RuntimeException")) U ∧ va_Nw (.declares (Bundle.init0 "java/lang/Exception")) U ∧ va_Nw (.declares (Bundle.init0 Bundle.tN)) U ∧ vx_Zq Bundle.tN "UNASSIGNED_STACK" Bundle.steD (va_A (wd_cd150047 h0 r0 r1 r2 h1 r3 h10 r4 r5 r6 r7 r8 r9 r10 r11 v0 v1 w2 h1 h6 h7 h8 h9 v3 v4 h2 g0 f5 h3 g1 f6 h4 g2 f7 h5 g3 f8 h6 g4 (va_up (va_up (va_up (va_up (fun _ => none) 0 (some h2)) 1 (some h3)) 2 (some h4)) 3 (some h5)) h7 g5 f9 h8 g6 f10 h9 g7 f11 h10 h11 r12 v12 v13 h11 g8 f14 o0 ko fo) sz) U U.heap ∧ vx_Zq Bundle.tN "SUPPRESSED_SENTINEL" Bundle.listD (va_A (wd_cd150047 h0 r0 r1 r2 h1 r3 h10 r4 r5 r6 r7 r8 r9 r10 r11 v0 v1 w2 h1 h6 h7 h8 h9 v3 v4 h2 g0 f5 h3 g1 f6 h4 g2 f7 h5 g3 f8 h6 g4 (va_up (va_up (va_up (va_up (fun _ => none) 0 (some h2)) 1 (some h3)) 2 (some h4)) 3 (some h5)) h7 g5 f9 h8 g6 f10 h9 g7 f11 h10 h11 r12 v12 v13 h11 g8 f14 o0 ko fo) sz) U U.heap)) (va_Qi (fun (_ : Int32) (_ : Unit) => True) (fun (_ : Unit) (t : State) => ∃ (o_h8 : Nat → Int32) (o_h9 : Nat → Int32) (o_fo : Nat → Int64), va_P (dC, dI) vwCl (wd_cd150047 h0 r0 r1 r2 h1 r3 h10 r4 r5 r6 r7 r8 r9 r10 r11 v0 v1 w2 h1 h6 h7 h8 h9 v3 v4 h2 g0 f5 h3 g1 f6 h4 g2 f7 h5 g3 f8 h6 g4 (va_up (va_up (va_up (va_up (fun _ => none) 0 (some h2)) 1 (some h3)) 2 (some h4)) 3 (some h5)) h7 g5 f9 h8 g6 o_h8 h9 g7 o_h9 h10 h11 r12 v12 v13 h11 g8 f14 o0 ko o_fo) t.heap ∧ va_K (dC, dI) vwCl [] t ∧ va_D (va_A (wd_cd150047 h0 r0 r1 r2 h1 r3 h10 r4 r5 r6 r7 r8 r9 r10 r11 v0 v1 w2 h1 h6 h7 h8 h9 v3 v4 h2 g0 f5 h3 g1 f6 h4 g2 f7 h5 g3 f8 h6 g4 (va_up (va_up (va_up (va_up (fun _ => none) 0 (some h2)) 1 (some h3)) 2 (some h4)) 3 (some h5)) h7 g5 f9 h8 g6 f10 h9 g7 f11 h10 h11 r12 v12 v13 h11 g8 f14 o0 ko fo) sz) (wd_cd150047 h0 r0 r1 r2 h1 r3 h10 r4 r5 r6 r7 r8 r9 r10 r11 v0 v1 w2 h1 h6 h7 h8 h9 v3 v4 h2 g0 f5 h3 g1 f6 h4 g2 f7 h5 g3 f8 h6 g4 (va_up (va_up (va_up (va_up (fun _ => none) 0 (some h2)) 1 (some h3)) 2 (some h4)) 3 (some h5)) h7 g5 f9 h8 g6 o_h8 h9 g7 o_h9 h10 h11 r12 v12 v13 h11 g8 f14 o0 ko o_fo)) (va_A (wd_cd150047 h0 r0 r1 r2 h1 r3 h10 r4 r5 r6 r7 r8 r9 r10 r11 v0 v1 w2 h1 h6 h7 h8 h9 v3 v4 h2 g0 f5 h3 g1 f6 h4 g2 f7 h5 g3 f8 h6 g4 (va_up (va_up (va_up (va_up (fun _ => none) 0 (some h2)) 1 (some h3)) 2 (some h4)) 3 (some h5)) h7 g5 f9 h8 g6 f10 h9 g7 f11 h10 h11 r12 v12 v13 h11 g8 f14 o0 ko fo) sz)) (vx_X (fun _ : Unit => False) (fun (_ : String) (_ : Unit) (_ : State) => True) (va_A (wd_cd150047 h0 r0 r1 r2 h1 r3 h10 r4 r5 r6 r7 r8 r9 r10 r11 v0 v1 w2 h1 h6 h7 h8 h9 v3 v4 h2 g0 f5 h3 g1 f6 h4 g2 f7 h5 g3 f8 h6 g4 (va_up (va_up (va_up (va_up (fun _ => none) 0 (some h2)) 1 (some h3)) 2 (some h4)) 3 (some h5)) h7 g5 f9 h8 g6 f10 h9 g7 f11 h10 h11 r12 v12 v13 h11 g8 f14 o0 ko fo) sz)) 1 6 (va_A (wd_cd150047 h0 r0 r1 r2 h1 r3 h10 r4 r5 r6 r7 r8 r9 r10 r11 v0 v1 w2 h1 h6 h7 h8 h9 v3 v4 h2 g0 f5 h3 g1 f6 h4 g2 f7 h5 g3 f8 h6 g4 (va_up (va_up (va_up (va_up (fun _ => none) 0 (some h2)) 1 (some h3)) 2 (some h4)) 3 (some h5)) h7 g5 f9 h8 g6 f10 h9 g7 f11 h10 h11 r12 v12 v13 h11 g8 f14 o0 ko fo) sz) := by
  refine vx_ofWH (cc := cL_bag) (maxL := 5) (ret := some .int) (by decide) rfl ?_
  intro p e s m args below meth c s₁ B hml hv
  obtain ⟨i_v0a, i_v0b⟩ := i_v0
  obtain ⟨i_v3a, i_v3b⟩ := i_v3
  obtain ⟨rfl, hsz, hP, hK, hD0, h_ca_NSE, h_de_R, h_de_E, h_de_T, h_st_zqU, h_st_zqN⟩ := hv
  have hx := B.exec
  have hb := B.bytes
  have hr := B.returns
  have hts := atoms_spec (ws := q_L_bag) B.pre
  have hown : s.vm.findClass RL = some m.cls := findClass_of_methodNamed B.named
  have hlocks := B.notSynchronized
  subst hsz
  have hD := hD0.self (sz := s.heap.size)
  generalize hAe : va_A (wd_cd150047 h0 r0 r1 r2 h1 r3 h10 r4 r5 r6 r7 r8 r9 r10 r11 v0 v1 w2 h1 h6 h7 h8 h9 v3 v4 h2 g0 f5 h3 g1 f6 h4 g2 f7 h5 g3 f8 h6 g4 (va_up (va_up (va_up (va_up (fun _ => none) 0 (some h2)) 1 (some h3)) 2 (some h4)) 3 (some h5)) h7 g5 f9 h8 g6 f10 h9 g7 f11 h10 h11 r12 v12 v13 h11 g8 f14 o0 ko fo) s.heap.size = A at hD h_st_zqU h_st_zqN ⊢
  have hA : ∀ q : Nat, s.heap.size ≤ q → A q := fun q h => by rw [← hAe]; exact Or.inr h
  have hS : va_S A s.heap s.heap [] := va_S.rf
  generalize hQ : (vx_MQ below _ _ _ s 1 6 A) = Q
  have hl := lv_entry ([.ref h0, .int v15, .int v16, .ref o0]) (n := 5) (Nat.le_of_ble_eq_true rfl)
  rw [lg_entry_eq]
  generalize (lg_sl ([.ref h0, .int v15, .int v16, .ref o0]) ++ List.replicate (5 - (lg_sl ([.ref h0, .int v15, .int v16, .ref o0])).length) Slot.unset).toArray = ls at hl ⊢
  have hl : lv_has ls 5 [(0, .ref h0), (1, .int v15), (2, .int v16), (3, .ref o0)] := hl
  obtain ⟨H, hH⟩ : ∃ H : Heap, H = s.heap := ⟨_, rfl⟩
  obtain ⟨locs, hlocs⟩ : ∃ y : List Loc, y = [] := ⟨_, rfl⟩
  have hS : va_S A s.heap H locs := by rw [hH, hlocs]; exact va_S.rf
  have hP : va_P (dC, dI) vwCl (wd_cd150047 h0 r0 r1 r2 h1 r3 h10 r4 r5 r6 r7 r8 r9 r10 r11 v0 v1 w2 h1 h6 h7 h8 h9 v3 v4 h2 g0 f5 h3 g1 f6 h4 g2 f7 h5 g3 f8 h6 g4 (va_up (va_up (va_up (va_up (fun _ => none) 0 (some h2)) 1 (some h3)) 2 (some h4)) 3 (some h5)) h7 g5 f9 h8 g6 f10 h9 g7 f11 h10 h11 r12 v12 v13 h11 g8 f14 o0 ko fo) H := by rw [hH]; exact hP
  rw [← hH, ← hlocs]
  refine lv_aload_n hx hb dL_bag_0 rfl (lv_at hl 3 rfl) ?_
  refine lv_iconst (v := 0) hx hb dL_bag_1 (by decide) ?_
  refine lv_aload_n hx hb dL_bag_2 rfl (lv_at hl 0 rfl) ?_
  refine lv_iload_n hx hb dL_bag_3 rfl (lv_at hl 1 rfl) ?_
  refine lv_iload_n hx hb dL_bag_4 rfl (lv_at hl 2 rfl) ?_
  have hPc := hP.sub (ws' := (wd_6499373b h0 r0 r1 r2 h1 r3 h10 r4 r5 r6 r7 r8 r9 r10 r11 v0 v1 w2 h1 h6 h7 h8 h9 v3 v4 h2 g0 f5 h3 g1 f6 h4 g2 f7 h5 g3 f8 h6 g4 (va_up (va_up (va_up (va_up (fun _ => none) 0 (some h2)) 1 (some h3)) 2 (some h4)) 3 (some h5)) h7 g5 f9 h8 g6 f10 h9 g7 f11 h10 h11 r12 v12 v13 h11 g8 f14)) [0, 1, 2, 3, 4, 5, 6, 7, 8, 9, 10, 11] rfl
  have hDc := hD.sub (ws' := (wd_6499373b h0 r0 r1 r2 h1 r3 h10 r4 r5 r6 r7 r8 r9 r10 r11 v0 v1 w2 h1 h6 h7 h8 h9 v3 v4 h2 g0 f5 h3 g1 f6 h4 g2 f7 h5 g3 f8 h6 g4 (va_up (va_up (va_up (va_up (fun _ => none) 0 (some h2)) 1 (some h3)) 2 (some h4)) 3 (some h5)) h7 g5 f9 h8 g6 f10 h9 g7 f11 h10 h11 r12 v12 v13 h11 g8 f14)) [0, 1, 2, 3, 4, 5, 6, 7, 8, 9, 10, 11] (by decide +kernel) rfl
  have hKc := hK.sub (tys' := [(g0, .int), (g1, .int), (g2, .int), (g3, .int), (g4, (.array .int)), (g5, .int), (g6, .int), (g7, .int), (g8, .int)]) [0, 1, 2, 3, 4, 5, 6, 7, 8] rfl
  have hFc := va_free (wc := (wd_6499373b h0 r0 r1 r2 h1 r3 h10 r4 r5 r6 r7 r8 r9 r10 r11 v0 v1 w2 h1 h6 h7 h8 h9 v3 v4 h2 g0 f5 h3 g1 f6 h4 g2 f7 h5 g3 f8 h6 g4 (va_up (va_up (va_up (va_up (fun _ => none) 0 (some h2)) 1 (some h3)) 2 (some h4)) 3 (some h5)) h7 g5 f9 h8 g6 f10 h9 g7 f11 h10 h11 r12 v12 v13 h11 g8 f14)) hD hS hA [0, 1, 2, 3, 4, 5, 6, 7, 8, 9, 10, 11] rfl
  refine vx_calli (vx_runV (As := [.int v15, .int v16]) (rest := [.int 0, .ref o0]) ⟨hx, hb, hml, hown, hts⟩ (k_X11_bag l hst dC dI h0 h1 h2 h3 h4 h5 h6 h7 h8 h9 h10 h11 r0 r1 r2 r3 r4 r5 r6 r7 r8 r9 r10 r11 v0 v1 w2 v3 v4 g0 f5 g1 f6 g2 f7 g3 f8 g4 g5 f9 g6 f10 g7 f11 r12 v12 v13 g8 f14 v15 v16 ⟨by first | omega | decide, by first | omega | decide⟩ ⟨by first | omega | decide, by first | omega | decide⟩ H.size) (cwV 2 hts g_L_bag_0 rfl rfl rfl (by decide +kernel) ⟨Nat.le_of_ble_eq_true rfl, Nat.le_of_ble_eq_true rfl⟩) ⟨fun a U g mk q => by obtain ⟨q0, q1, qP, qK, qD, n0, n1, n2, n3, n4, n5⟩ := q; exact ⟨q0, q1, qP, va_K.moved (u := U) (U := U.calling g mk a) (Vm.Alike.refl U.vm) qK, qD, va_Nw.same rfl rfl n0, va_Nw.same rfl rfl n1, va_Nw.same rfl rfl n2, va_Nw.same rfl rfl n3, vx_Zq.moved (Vm.Alike.refl _) n4, vx_Zq.moved (Vm.Alike.refl _) n5⟩, va_recv hKc hPc (ci := 11) (q0 := 0) rfl rfl, fun U hU hW => ⟨rfl, by rw [hU], by rw [hU]; exact hPc, va_K.moved hW.alike hKc, hDc.weaken (fun _ _ _ _ => trivial), va_Nw.warmC hW h_ca_NSE, va_Nw.warmD hW h_de_R, va_Nw.warmD hW h_de_E, va_Nw.warmD hW h_de_T, (by rw [hU]; exact (vx_Zq.moved hW.alike (vx_Zq.kept h_st_zqU hS.2.1)).narrow hFc), (by rw [hU]; exact (vx_Zq.moved hW.alike (vx_Zq.kept h_st_zqN hS.2.1)).narrow hFc)⟩⟩ rfl rfl hl.1 rfl (lv_room (Nat.le_of_ble_eq_true rfl)) dL_bag_5 ⟨Nat.le_of_ble_eq_true rfl, Nat.le_of_ble_eq_true rfl⟩) hS (fun q _ h => hFc q h) hFc (fun q _ h => hFc q h) (fun E ce q9 u t H1 locs ht hvm hpx hBX hz1 hk1 hS hq9 hce hcl => ?_) (fun ra u t H1 locs ht hvm hw hB hz1 hk1 hS => ?_)
  · skip
    obtain ⟨rfl, hP1, hD1⟩ := hBX
    rw [ht] at hP1
    obtain ⟨hP, hD⟩ := va_join (wr := (wd_96e69f96 o0 ko fo)) (w1 := (wd_6499373b h0 r0 r1 r2 h1 r3 h10 r4 r5 r6 r7 r8 r9 r10 r11 v0 v1 w2 h1 h6 h7 h8 h9 v3 v4 h2 g0 f5 h3 g1 f6 h4 g2 f7 h5 g3 f8 h6 g4 (va_up (va_up (va_up (va_up (fun _ => none) 0 (some h2)) 1 (some h3)) 2 (some h4)) 3 (some h5)) h7 g5 f9 h8 g6 f10 h9 g7 f11 h10 h11 r12 v12 v13 h11 g8 f14)) hP hD [0, 1, 2, 3, 4, 5, 6, 7, 8, 9, 10, 11] [12] rfl rfl (by decide +kernel) (by decide +kernel) hk1 hFc hP1 hD1
    have hP := hP.sub (ws' := (wd_cd150047 h0 r0 r1 r2 h1 r3 h10 r4 r5 r6 r7 r8 r9 r10 r11 v0 v1 w2 h1 h6 h7 h8 h9 v3 v4 h2 g0 f5 h3 g1 f6 h4 g2 f7 h5 g3 f8 h6 g4 (va_up (va_up (va_up (va_up (fun _ => none) 0 (some h2)) 1 (some h3)) 2 (some h4)) 3 (some h5)) h7 g5 f9 h8 g6 f10 h9 g7 f11 h10 h11 r12 v12 v13 h11 g8 f14 o0 ko fo)) [1, 2, 3, 4, 5, 6, 7, 8, 9, 10, 11, 12, 0] rfl
    have hD := hD.sub (ws' := (wd_cd150047 h0 r0 r1 r2 h1 r3 h10 r4 r5 r6 r7 r8 r9 r10 r11 v0 v1 w2 h1 h6 h7 h8 h9 v3 v4 h2 g0 f5 h3 g1 f6 h4 g2 f7 h5 g3 f8 h6 g4 (va_up (va_up (va_up (va_up (fun _ => none) 0 (some h2)) 1 (some h3)) 2 (some h4)) 3 (some h5)) h7 g5 f9 h8 g6 f10 h9 g7 f11 h10 h11 r12 v12 v13 h11 g8 f14 o0 ko fo)) [1, 2, 3, 4, 5, 6, 7, 8, 9, 10, 11, 12, 0] (by decide +kernel) rfl
    refine vx_catch (own := RL) (name := "java/util/NoSuchElementException") hown [] ⟨0, 10, 13, 13⟩ [] (vx_table (x := yL_bag) B (hts (.codeWith yL_bag cL_bag 5 (some .int) [(0, 10, 13, 13)]) List.mem_cons_self)) (fun z hz => absurd hz List.not_mem_nil) rfl (by decide) (hts (.classLink RL 13 "java/util/NoSuchElementException") (List.mem_cons_of_mem _ (List.mem_append_left _ (List.mem_append_left _ (List.mem_append_left _ (List.mem_append_left _ (List.mem_of_getElem? (i := 58) rfl))))))) (va_Nw.use rfl h_ca_NSE) hq9 hce hcl ?_
    refine W.eq (g2 := F0 m 13 ls [.ref q9]) rfl ?_
    refine lv_astore (lv' := [(4, .ref q9), (0, .ref h0), (1, .int v15), (2, .int v16), (3, .ref o0)]) hx hb dL_bag_13 hl (by decide) rfl (fun ls hl => ?_)
    refine lv_iconst (v := 1) hx hb dL_bag_15 (by decide) ?_
    subst hQ
    refine W.widen (k := 1) (n := 6) (Nat.le_of_ble_eq_true rfl) (Nat.le_of_ble_eq_true rfl) ?_
    refine vx_ret ?_
    have hK9 := hK.sub (tys' := []) [] rfl
    exact W.iret (v := 1) hx hb hr (fun t ht hW => ⟨⟨1, (), rfl, trivial, f10, f11, fo, by rw [ht]; exact hP, va_K.moved hW.alike hK9, hD⟩, hS.F ht⟩) hS.2.2 dL_bag_16
  · skip
    obtain ⟨o_h8, o_h9, hP1, hK1, hD1⟩ := hB
    rw [ht] at hP1
    obtain ⟨hP, hD⟩ := va_join (wr := (wd_96e69f96 o0 ko fo)) (w1 := (wd_6499373b h0 r0 r1 r2 h1 r3 h10 r4 r5 r6 r7 r8 r9 r10 r11 v0 v1 w2 h1 h6 h7 h8 h9 v3 v4 h2 g0 f5 h3 g1 f6 h4 g2 f7 h5 g3 f8 h6 g4 (va_up (va_up (va_up (va_up (fun _ => none) 0 (some h2)) 1 (some h3)) 2 (some h4)) 3 (some h5)) h7 g5 f9 h8 g6 o_h8 h9 g7 o_h9 h10 h11 r12 v12 v13 h11 g8 f14)) hP hD [0, 1, 2, 3, 4, 5, 6, 7, 8, 9, 10, 11] [12] rfl rfl (by decide +kernel) (by decide +kernel) hk1 hFc hP1 hD1
    have hP := hP.sub (ws' := (wd_cd150047 h0 r0 r1 r2 h1 r3 h10 r4 r5 r6 r7 r8 r9 r10 r11 v0 v1 w2 h1 h6 h7 h8 h9 v3 v4 h2 g0 f5 h3 g1 f6 h4 g2 f7 h5 g3 f8 h6 g4 (va_up (va_up (va_up (va_up (fun _ => none) 0 (some h2)) 1 (some h3)) 2 (some h4)) 3 (some h5)) h7 g5 f9 h8 g6 o_h8 h9 g7 o_h9 h10 h11 r12 v12 v13 h11 g8 f14 o0 ko fo)) [1, 2, 3, 4, 5, 6, 7, 8, 9, 10, 11, 12, 0] rfl
    have hD := hD.sub (ws' := (wd_cd150047 h0 r0 r1 r2 h1 r3 h10 r4 r5 r6 r7 r8 r9 r10 r11 v0 v1 w2 h1 h6 h7 h8 h9 v3 v4 h2 g0 f5 h3 g1 f6 h4 g2 f7 h5 g3 f8 h6 g4 (va_up (va_up (va_up (va_up (fun _ => none) 0 (some h2)) 1 (some h3)) 2 (some h4)) 3 (some h5)) h7 g5 f9 h8 g6 o_h8 h9 g7 o_h9 h10 h11 r12 v12 v13 h11 g8 f14 o0 ko fo)) [1, 2, 3, 4, 5, 6, 7, 8, 9, 10, 11, 12, 0] (by decide +kernel) rfl
    generalize H1 = H at hP hS ⊢
    obtain ⟨y1, ey1⟩ : ∃ z : Int64, z = (ra : Int32).toInt64 := ⟨_, rfl⟩
    refine lv_i2l (v := y1) hx hb dL_bag_8 (by rw [ey1]) ?_
    refine va_last hx hb hK hP hD hS 12 9 rfl rfl (pv_c (x := 0) (n := 1) (by decide)) dL_bag_9 (fun H locs hP hD hS => ?_)
    refine lv_goto (tgt := 17) hx hb dL_bag_10 (by decide) ?_
    refine lv_iconst (v := 0) hx hb dL_bag_17 (by decide) ?_
    subst hQ
    refine W.widen (k := 1) (n := 6) (Nat.le_of_ble_eq_true rfl) (Nat.le_of_ble_eq_true rfl) ?_
    refine vx_ret ?_
    have hK9 := hK.sub (tys' := []) [] rfl
    exact W.iret (v := 0) hx hb hr (fun t ht hW => ⟨⟨0, (), rfl, trivial, o_h8, o_h9, _, by rw [ht]; exact hP, va_K.moved hW.alike hK9, hD⟩, hS.F ht⟩) hS.2.2 dL_bag_18
def q_X11_within_13 : List Cond := .code yX11_within cX11_within 3 (some .boolean) :: (([] : List Cond))
set_option maxHeartbeats 4000000 in
set_option maxRecDepth 100000 in
theorem k_X11_within_13 (l : Launch) (dC : Nat → ClassId) (dI : Nat → Nat → Nat) (v0 : Int32) (sz : Nat) : Met l yX11_within q_X11_within_13 ({ frames := 0, cells := 0, slots := 0, locals := 0 }) (va_Pc [.int v0, .int 0, .int 9] (fun U => U.heap.size = sz ∧ va_P (dC, dI) vwCl [] U.heap ∧ va_K (dC, dI) vwCl [] U ∧ va_D (fun _ => True) [])) (va_Qi (fun (r : Int32) (r9 : Int32) => r9 = r) (fun (r : Int32) (t : State) => ((0 ≤ r.toInt) ∧ (r.toInt ≤ 1) ∧ ((r.toInt = 1 → 0 ≤ v0.toInt)) ∧ ((r.toInt = 1 → v0.toInt ≤ 9)) ∧ (r.toInt = 0 → ¬ (0 ≤ v0.toInt ∧ v0.toInt ≤ 9)) ∧ va_P (dC, dI) vwCl [] t.heap ∧ va_K (dC, dI) vwCl [] t ∧ va_D (va_A [] sz) [])) (va_A [] sz)) 0 0 (va_A [] sz) := by
  refine Met.ofW (cc := cX11_within) (maxL := 3) (ret := (some .boolean)) (by decide) rfl ?_
  intro p e s m args below meth c s₁ B hml hv
  obtain ⟨rfl, hsz, hP, hK, hD0⟩ := hv
  have hx := B.exec
  have hb := B.bytes
  have hr := B.returns
  have hts := atoms_spec (ws := q_X11_within_13) B.pre
  have hown : s.vm.findClass RX11 = some m.cls := findClass_of_methodNamed B.named
  have hlocks := B.notSynchronized
  subst hsz
  have hD := hD0.self (sz := s.heap.size)
  generalize hAe : va_A [] s.heap.size = A at hD ⊢
  have hA : ∀ q : Nat, s.heap.size ≤ q → A q := fun q h => by rw [← hAe]; exact Or.inr h
  have hS : va_S A s.heap s.heap [] := va_S.rf
  generalize hQ : (MQ below _ _ s 0 0 A) = Q
  have hl := lv_entry ([.int v0, .int 0, .int 9]) (n := 3) (Nat.le_of_ble_eq_true rfl)
  rw [lg_entry_eq]
  generalize (lg_sl ([.int v0, .int 0, .int 9]) ++ List.replicate (3 - (lg_sl ([.int v0, .int 0, .int 9])).length) Slot.unset).toArray = ls at hl ⊢
  have hl : lv_has ls 3 [(0, .int v0), (1, .int 0), (2, .int 9)] := hl
  obtain ⟨H, hH⟩ : ∃ H : Heap, H = s.heap := ⟨_, rfl⟩
  obtain ⟨locs, hlocs⟩ : ∃ y : List Loc, y = [] := ⟨_, rfl⟩
  have hS : va_S A s.heap H locs := by rw [hH, hlocs]; exact va_S.rf
  have hP : va_P (dC, dI) vwCl [] H := by rw [hH]; exact hP
  rw [← hH, ← hlocs]
  refine lv_iload_n hx hb dX11_within_0 rfl (lv_at hl 0 rfl) ?_
  refine lv_iload_n hx hb dX11_within_1 rfl (lv_at hl 1 rfl) ?_
  refine lv_icmp_lt (tgt := 14) hx hb dX11_within_2 (by decide) (fun c1 => ?_) (fun c1 => ?_)
  · skip
    have fc1 : v0.toInt < 0 := Int32.lt_iff_toInt_lt.mp c1
    refine lv_iconst (v := 0) hx hb dX11_within_14 (by decide) ?_
    subst hQ
    have hP9 := hP.sub (ws' := []) [] rfl
    have hD9 := hD.sub (ws' := []) [] (by decide) rfl
    have hK9 := hK.sub (tys' := []) [] rfl
    exact W.zret (v := 0) hx hb hr rfl (fun t ht hW => ⟨⟨0, 0, rfl, rfl, ⟨by first | omega | decide, by first | omega | decide, fun h9 => absurd h9 (by decide), fun h9 => absurd h9 (by decide), fun _ => by omega, by rw [ht]; exact hP9, va_K.moved hW.alike hK9, hD9⟩⟩, hS.F ht⟩) hS.2.2 dX11_within_15
  · skip
    have fc1 : ¬ (v0.toInt < 0) := fun h9 => c1 (Int32.lt_iff_toInt_lt.mpr h9)
    refine lv_iload_n hx hb dX11_within_5 rfl (lv_at hl 0 rfl) ?_
    refine lv_iload_n hx hb dX11_within_6 rfl (lv_at hl 2 rfl) ?_
    refine lv_icmp_gt (tgt := 14) hx hb dX11_within_7 (by decide) (fun c2 => ?_) (fun c2 => ?_)
    · skip
      have fc2 : 9 < v0.toInt := Int32.lt_iff_toInt_lt.mp c2
      refine lv_iconst (v := 0) hx hb dX11_within_14 (by decide) ?_
      subst hQ
      have hP9 := hP.sub (ws' := []) [] rfl
      have hD9 := hD.sub (ws' := []) [] (by decide) rfl
      have hK9 := hK.sub (tys' := []) [] rfl
      exact W.zret (v := 0) hx hb hr rfl (fun t ht hW => ⟨⟨0, 0, rfl, rfl, ⟨by first | omega | decide, by first | omega | decide, fun h9 => absurd h9 (by decide), fun h9 => absurd h9 (by decide), fun _ => by omega, by rw [ht]; exact hP9, va_K.moved hW.alike hK9, hD9⟩⟩, hS.F ht⟩) hS.2.2 dX11_within_15
    · skip
      have fc2 : ¬ (9 < v0.toInt) := fun h9 => c2 (Int32.lt_iff_toInt_lt.mpr h9)
      refine lv_iconst (v := 1) hx hb dX11_within_10 (by decide) ?_
      refine lv_goto (tgt := 15) hx hb dX11_within_11 (by decide) ?_
      subst hQ
      have hP9 := hP.sub (ws' := []) [] rfl
      have hD9 := hD.sub (ws' := []) [] (by decide) rfl
      have hK9 := hK.sub (tys' := []) [] rfl
      exact W.zret (v := 1) hx hb hr rfl (fun t ht hW => ⟨⟨1, 1, rfl, rfl, ⟨by first | omega | decide, by first | omega | decide, fun _ => by omega, fun _ => by omega, fun h9 => absurd h9 (by decide), by rw [ht]; exact hP9, va_K.moved hW.alike hK9, hD9⟩⟩, hS.F ht⟩) hS.2.2 dX11_within_15
def q_X11_trains_1 : List Cond := .code yX11_trains cX11_trains 2 (some .boolean) :: (([.code yX11_within cX11_within 3 (some .boolean), .initialized RX11, .static yX11_within, .methodLink RX11 239 yX11_within, .fieldLink RX11 104 "LeftArguments" "trainOdds" "I"] : List Cond) ++ wsX110)
set_option maxRecDepth 20000 in
theorem g_X11_trains_1_0 : GoodIn q_X11_trains_1 (va_wsS RX11 239 yX11_within q_X11_within_13) := goodIn_app (goodIn_r _ [4, 3, 2] rfl (by decide +kernel)) (goodIn_r (.code yX11_within cX11_within 3 (some .boolean) :: []) [1] rfl (by decide +kernel))
set_option maxHeartbeats 4000000 in
set_option maxRecDepth 100000 in
theorem k_X11_trains_1 (l : Launch) (dC : Nat → ClassId) (dI : Nat → Nat → Nat) (h0 : Nat) (r0 : Nat) (r1 : Nat) (r2 : Nat) (r3 : Nat) (r4 : Nat) (r5 : Nat) (r6 : Nat) (r7 : Nat) (r8 : Nat) (r9 : Nat) (r10 : Nat) (r11 : Nat) (r12 : Nat) (r13 : Nat) (v0 : Int32) (v1 : Int32) (w2 : Int64) (v3 : Int32) (i_v0 : 0 ≤ v0.toInt ∧ v0.toInt ≤ 1) (sz : Nat) : Met l yX11_trains q_X11_trains_1 ({ frames := 1, cells := 0, slots := 0, locals := 22 }) (va_Pc [.ref h0, .int v3] (fun U => U.heap.size = sz ∧ va_P (dC, dI) vwCl (wd_be8fc520 h0 r0 r1 r2 r3 r4 r5 r6 r7 r8 r9 r10 r11 r12 r13 v0 v1 w2) U.heap ∧ va_K (dC, dI) vwCl [] U ∧ va_D (fun _ => True) (wd_be8fc520 h0 r0 r1 r2 r3 r4 r5 r6 r7 r8 r9 r10 r11 r12 r13 v0 v1 w2))) (va_Qi (fun (r : Int32) (r9 : Int32) => r9 = r) (fun (r : Int32) (t : State) => ((0 ≤ r.toInt) ∧ (r.toInt ≤ 0) ∧ (¬ (0 ≤ v3.toInt ∧ v3.toInt ≤ 9) ∨ v3.toInt = v1.toInt) ∧ va_P (dC, dI) vwCl (wd_be8fc520 h0 r0 r1 r2 r3 r4 r5 r6 r7 r8 r9 r10 r11 r12 r13 v0 v1 w2) t.heap ∧ va_K (dC, dI) vwCl [] t ∧ va_D (va_A (wd_be8fc520 h0 r0 r1 r2 r3 r4 r5 r6 r7 r8 r9 r10 r11 r12 r13 v0 v1 w2) sz) (wd_be8fc520 h0 r0 r1 r2 r3 r4 r5 r6 r7 r8 r9 r10 r11 r12 r13 v0 v1 w2)) ∨ (∃ (o_h0_15 : Int32), 0 ≤ o_h0_15.toInt ∧ o_h0_15.toInt ≤ 9 ∧ (1 ≤ r.toInt) ∧ (r.toInt ≤ 1) ∧ (0 ≤ v3.toInt ∧ v3.toInt ≤ 9 ∧ ¬ v3.toInt = v1.toInt) ∧ (o_h0_15.toInt = v3.toInt) ∧ va_P (dC, dI) vwCl (wd_be8fc520 h0 r0 r1 r2 r3 r4 r5 r6 r7 r8 r9 r10 r11 r12 r13 v0 o_h0_15 w2) t.heap ∧ va_K (dC, dI) vwCl [] t ∧ va_D (va_A (wd_be8fc520 h0 r0 r1 r2 r3 r4 r5 r6 r7 r8 r9 r10 r11 r12 r13 v0 v1 w2) sz) (wd_be8fc520 h0 r0 r1 r2 r3 r4 r5 r6 r7 r8 r9 r10 r11 r12 r13 v0 o_h0_15 w2))) (va_A (wd_be8fc520 h0 r0 r1 r2 r3 r4 r5 r6 r7 r8 r9 r10 r11 r12 r13 v0 v1 w2) sz)) 0 0 (va_A (wd_be8fc520 h0 r0 r1 r2 r3 r4 r5 r6 r7 r8 r9 r10 r11 r12 r13 v0 v1 w2) sz) := by
  refine Met.ofW (cc := cX11_trains) (maxL := 2) (ret := (some .boolean)) (by decide) rfl ?_
  intro p e s m args below meth c s₁ B hml hv
  obtain ⟨i_v0a, i_v0b⟩ := i_v0
  obtain ⟨rfl, hsz, hP, hK, hD0⟩ := hv
  have hx := B.exec
  have hb := B.bytes
  have hr := B.returns
  have hts := atoms_spec (ws := q_X11_trains_1) B.pre
  have hown : s.vm.findClass RX11 = some m.cls := findClass_of_methodNamed B.named
  have hlocks := B.notSynchronized
  subst hsz
  have hD := hD0.self (sz := s.heap.size)
  generalize hAe : va_A (wd_be8fc520 h0 r0 r1 r2 r3 r4 r5 r6 r7 r8 r9 r10 r11 r12 r13 v0 v1 w2) s.heap.size = A at hD ⊢
  have hA : ∀ q : Nat, s.heap.size ≤ q → A q := fun q h => by rw [← hAe]; exact Or.inr h
  have hS : va_S A s.heap s.heap [] := va_S.rf
  generalize hQ : (MQ below _ _ s 0 0 A) = Q
  have hl := lv_entry ([.ref h0, .int v3]) (n := 2) (Nat.le_of_ble_eq_true rfl)
  rw [lg_entry_eq]
  generalize (lg_sl ([.ref h0, .int v3]) ++ List.replicate (2 - (lg_sl ([.ref h0, .int v3])).length) Slot.unset).toArray = ls at hl ⊢
  have hl : lv_has ls 2 [(0, .ref h0), (1, .int v3)] := hl
  obtain ⟨H, hH⟩ : ∃ H : Heap, H = s.heap := ⟨_, rfl⟩
  obtain ⟨locs, hlocs⟩ : ∃ y : List Loc, y = [] := ⟨_, rfl⟩
  have hS : va_S A s.heap H locs := by rw [hH, hlocs]; exact va_S.rf
  have hP : va_P (dC, dI) vwCl (wd_be8fc520 h0 r0 r1 r2 r3 r4 r5 r6 r7 r8 r9 r10 r11 r12 r13 v0 v1 w2) H := by rw [hH]; exact hP
  rw [← hH, ← hlocs]
  refine lv_iload_n hx hb dX11_trains_0 rfl (lv_at hl 1 rfl) ?_
  refine lv_iconst (v := 0) hx hb dX11_trains_1 (by decide) ?_
  refine lv_bipush (v := 9) hx hb dX11_trains_2 (by decide) ?_
  have hPc := hP.sub (ws' := []) [] rfl
  have hDc := hD.sub (ws' := []) [] (by decide) rfl
  have hKc := hK.sub (tys' := []) [] rfl
  have hFc := va_free (wc := []) hD hS hA [] rfl
  refine va_calli (va_runS (As := [.int v3, .int 0, .int 9]) (rest := []) ⟨hx, hb, hml, hown, hts⟩ (k_X11_within_13 l dC dI v3  H.size) (va_cwS 3 hts g_X11_trains_1_0 rfl rfl rfl (by decide +kernel) ⟨Nat.le_of_ble_eq_true rfl, Nat.le_of_ble_eq_true rfl⟩) (pv_PS hPc hKc hDc) rfl rfl hl.1 rfl (lv_room (Nat.le_of_ble_eq_true rfl)) dX11_trains_4 ⟨Nat.le_of_ble_eq_true rfl, Nat.le_of_ble_eq_true rfl⟩) hS (fun q _ h => hFc q h) hFc (fun ra1 u t H1 locs ht hvm hwra1 hB hz1 hk1 hS => ?_)
  try rw [hwra1] at hB
  obtain ⟨pt0_ra1, pt1_ra1, pt2_ra1, pt3_ra1, pt4_ra1, hP1, hK1, hD1⟩ := hB
  rw [ht] at hP1
  obtain ⟨hP2, hD2⟩ := va_join (wr := (wd_be8fc520 h0 r0 r1 r2 r3 r4 r5 r6 r7 r8 r9 r10 r11 r12 r13 v0 v1 w2)) (w1 := []) hP hD [] [0] rfl rfl (by decide) (by decide) hk1 hFc hP1 hD1
  clear hP hD hPc hDc hKc hFc hP1 hK1 hD1 hk1 hz1
  generalize H1 = H at hP2 hS ⊢
  have hP : va_P (dC, dI) vwCl (wd_be8fc520 h0 r0 r1 r2 r3 r4 r5 r6 r7 r8 r9 r10 r11 r12 r13 v0 v1 w2) H := hP2
  have hD : va_D A (wd_be8fc520 h0 r0 r1 r2 r3 r4 r5 r6 r7 r8 r9 r10 r11 r12 r13 v0 v1 w2) := hD2
  clear hP2 hD2
  refine lv_if_eq (tgt := 18) hx hb dX11_trains_7 (by decide) (fun c2 => ?_) (fun c2 => ?_)
  · skip
    have fc2 : ra1.toInt = 0 := congrArg Int32.toInt c2
    refine lv_iconst (v := 0) hx hb dX11_trains_18 (by decide) ?_
    subst hQ
    have hP9 := hP.sub (ws' := (wd_be8fc520 h0 r0 r1 r2 r3 r4 r5 r6 r7 r8 r9 r10 r11 r12 r13 v0 v1 w2)) [0] rfl
    have hD9 := hD.sub (ws' := (wd_be8fc520 h0 r0 r1 r2 r3 r4 r5 r6 r7 r8 r9 r10 r11 r12 r13 v0 v1 w2)) [0] (by decide) rfl
    have hK9 := hK.sub (tys' := []) [] rfl
    exact W.zret (v := 0) hx hb hr rfl (fun t ht hW => ⟨⟨0, 0, rfl, rfl, Or.inl ⟨by first | omega | decide, by first | omega | decide, by omega, by rw [ht]; exact hP9, va_K.moved hW.alike hK9, hD9⟩⟩, hS.F ht⟩) hS.2.2 dX11_trains_19
  · skip
    have fc2 : ¬ (ra1.toInt = 0) := fun h9 => c2 (Int32.toInt_inj.mp h9)
    refine lv_iload_n hx hb dX11_trains_10 rfl (lv_at hl 1 rfl) ?_
    refine lv_aload_n hx hb dX11_trains_11 rfl (lv_at hl 0 rfl) ?_
    refine va_get (D := (dC, dI)) (ci := 11) (v := .int v1) (C := RX11) (T := TX11) (N := 17) hx hb hts (fun _ h => List.mem_cons_of_mem _ (List.mem_append_right _ h)) hown hK hP 0 rfl rfl 15 (by decide) (hts (.fieldLink RX11 104 "LeftArguments" "trainOdds" "I") (List.mem_cons_of_mem _ (List.mem_append_left _ (List.mem_of_getElem? (i := 4) rfl)))) (fun _ h9 => h9) rfl dX11_trains_12 ?_
    refine lv_icmp_ne (tgt := 20) hx hb dX11_trains_15 (by decide) (fun c3 => ?_) (fun c3 => ?_)
    · skip
      have fc3 : ¬ (v3.toInt = v1.toInt) := fun h9 => c3 (Int32.toInt_inj.mp h9)
      have r1c3 := Int32.toInt_lt v3
      have r2c3 := Int32.toInt_lt v1
      have r3c3 := Int32.le_toInt v3
      have r4c3 := Int32.le_toInt v1
      refine lv_aload_n hx hb dX11_trains_20 rfl (lv_at hl 0 rfl) ?_
      refine lv_iload_n hx hb dX11_trains_21 rfl (lv_at hl 1 rfl) ?_
      refine va_put (D := (dC, dI)) (ci := 11) (v := .int v3) (ty := .int) (C := RX11) (T := TX11) (N := 17) hx hb hts (fun _ h => List.mem_cons_of_mem _ (List.mem_append_right _ h)) tyX11 tyX11_ok nmX11 hown hK hP hD hS 0 rfl rfl 15 (by decide) (hts (.fieldLink RX11 104 "LeftArguments" "trainOdds" "I") (List.mem_cons_of_mem _ (List.mem_append_left _ (List.mem_of_getElem? (i := 4) rfl)))) (fun _ h9 => h9) rfl (by decide +kernel) rfl rfl (Nat.le_of_ble_eq_true rfl) dX11_trains_22 (fun H locs hP hD hS => ?_)
      have hP : va_P (dC, dI) vwCl (wd_be8fc520 h0 r0 r1 r2 r3 r4 r5 r6 r7 r8 r9 r10 r11 r12 r13 v0 v3 w2) H := hP
      have hD : va_D A (wd_be8fc520 h0 r0 r1 r2 r3 r4 r5 r6 r7 r8 r9 r10 r11 r12 r13 v0 v3 w2) := hD
      refine lv_iconst (v := 1) hx hb dX11_trains_25 (by decide) ?_
      subst hQ
      have hP9 := hP.sub (ws' := (wd_be8fc520 h0 r0 r1 r2 r3 r4 r5 r6 r7 r8 r9 r10 r11 r12 r13 v0 v3 w2)) [0] rfl
      have hD9 := hD.sub (ws' := (wd_be8fc520 h0 r0 r1 r2 r3 r4 r5 r6 r7 r8 r9 r10 r11 r12 r13 v0 v3 w2)) [0] (by decide) rfl
      have hK9 := hK.sub (tys' := []) [] rfl
      exact W.zret (v := 1) hx hb hr rfl (fun t ht hW => ⟨⟨1, 1, rfl, rfl, Or.inr (⟨v3, by first | omega | decide, by first | omega | decide, by first | omega | decide, by first | omega | decide, by refine ⟨?_, ?_, ?_⟩ <;> omega, by rfl, by rw [ht]; exact hP9, va_K.moved hW.alike hK9, hD9⟩)⟩, hS.F ht⟩) hS.2.2 dX11_trains_26
    · skip
      have fc3 : v3.toInt = v1.toInt := congrArg Int32.toInt c3
      have r1c3 := Int32.toInt_lt v3
      have r2c3 := Int32.toInt_lt v1
      have r3c3 := Int32.le_toInt v3
      have r4c3 := Int32.le_toInt v1
      refine lv_iconst (v := 0) hx hb dX11_trains_18 (by decide) ?_
      subst hQ
      have hP9 := hP.sub (ws' := (wd_be8fc520 h0 r0 r1 r2 r3 r4 r5 r6 r7 r8 r9 r10 r11 r12 r13 v0 v1 w2)) [0] rfl
      have hD9 := hD.sub (ws' := (wd_be8fc520 h0 r0 r1 r2 r3 r4 r5 r6 r7 r8 r9 r10 r11 r12 r13 v0 v1 w2)) [0] (by decide) rfl
      have hK9 := hK.sub (tys' := []) [] rfl
      exact W.zret (v := 0) hx hb hr rfl (fun t ht hW => ⟨⟨0, 0, rfl, rfl, Or.inl ⟨by first | omega | decide, by first | omega | decide, by omega, by rw [ht]; exact hP9, va_K.moved hW.alike hK9, hD9⟩⟩, hS.F ht⟩) hS.2.2 dX11_trains_19
