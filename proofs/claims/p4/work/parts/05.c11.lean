abbrev wd_b9c2d44b (p0 : Nat) (p1 : Int32) (p2 : Nat) (p3 : Int32) (p4 : Int32) (p5 : Int32) (p6 : Int32) (p7 : Nat) (p8 : Nat) (p9 : Nat) (p10 : Nat) (p11 : Nat) (p12 : Nat) (p13 : Nat) (p14 : Int32) (p15 : Int32) (p16 : Nat) (p17 : Nat) (p18 : Nat) (p19 : Nat) (p20 : Int32) (p21 : Nat) (p22 : Nat) (p23 : Int32) (p24 : Int32) (p25 : Nat) (p26 : Nat) (p27 : Int32) (p28 : Int32) (p29 : Nat) (p30 : Int32) (p31 : Int32) (p32 : Nat) (p33 : Int32) (p34 : Int64) (p35 : Nat) (p36 : Int32) (p37 : Int32) (p38 : Nat) (p39 : Nat) (p40 : Nat) (p41 : Nat) (p42 : Nat) (p43 : Nat) (p44 : Int32) (p45 : Nat) (p46 : Nat) (p47 : Nat) (p48 : Int32) (p49 : Nat) (p50 : ClassId) (p51 : Nat → Int32) (p52 : Nat) (p53 : ClassId) (p54 : Nat → Int32) : va_W := [(p0, .inr (12, [.int p1, .ref p2, .int p3, .int p4, .int p5, .int p6, .ref p7, .ref p8, .ref p9, .ref p10, .ref p11, .ref p12, .ref p13, .int p14, .int p15, .ref p16, .ref p17, .ref p18, .ref p19, .int p20, .ref p21, .ref p22, .int p23, .int p24, .ref p25, .ref p26, .int p27, .int p28, .ref p29, .int p30, .int p31, .ref p32, .int p33, .long p34, .ref p35, .int p36, .int p37, .ref p38, .ref p39, .ref p40, .ref p41, .ref p42, .ref p43, .int p44, .ref p45, .ref p46, .ref p47, .int p48])), (p49, .inl (p50, 240, .inl p51)), (p52, .inl (p53, 40, .inl p54))]
abbrev wd_490cd7da (p0 : Nat) (p1 : Int32) (p2 : Nat) (p3 : Int32) (p4 : Int32) (p5 : Int32) (p6 : Int32) (p7 : Nat) (p8 : Nat) (p9 : Nat) (p10 : Nat) (p11 : Nat) (p12 : Nat) (p13 : Nat) (p14 : Int32) (p15 : Int32) (p16 : Nat) (p17 : Nat) (p18 : Nat) (p19 : Nat) (p20 : Int32) (p21 : Nat) (p22 : Nat) (p23 : Int32) (p24 : Int32) (p25 : Nat) (p26 : Nat) (p27 : Int32) (p28 : Int32) (p29 : Nat) (p30 : Int32) (p31 : Int32) (p32 : Nat) (p33 : Int32) (p34 : Int64) (p35 : Nat) (p36 : Int32) (p37 : Int32) (p38 : Nat) (p39 : Nat) (p40 : Nat) (p41 : Nat) (p42 : Nat) (p43 : Nat) (p44 : Int32) (p45 : Nat) (p46 : Nat) (p47 : Nat) (p48 : Int32) (p49 : Nat) (p50 : ClassId) (p51 : Nat → Int32) (p52 : Nat) (p53 : ClassId) (p54 : Nat → Int32) : va_W := [(p0, .inr (12, [.int p1, .ref p2, .int p3, .int p4, .int p5, .int p6, .ref p7, .ref p8, .ref p9, .ref p10, .ref p11, .ref p12, .ref p13, .int p14, .int p15, .ref p16, .ref p17, .ref p18, .ref p19, .int p20, .ref p21, .ref p22, .int p23, .int p24, .ref p25, .ref p26, .int p27, .int p28, .ref p29, .int p30, .int p31, .ref p32, .int p33, .long p34, .ref p35, .int p36, .int p37, .ref p38, .ref p39, .ref p40, .ref p41, .ref p42, .ref p43, .int p44, .ref p45, .ref p46, .ref p47, .int p48])), (p49, .inl (p50, 240, .inl p51)), (p52, .inl (p53, 4, .inl p54))]
def q_X12_number : List Cond := .code yX12_number cX12_number 4 (some .int) :: (([.code yX12_look cX12_look 1 (some .int), .code yX12_here cX12_here 1 (some .int), .fieldLink RX12 112 "LeftArgumentsModel" "at" "I", .fieldLink RX12 109 "LeftArgumentsModel" "size" "I", .fieldLink RX12 9 "LeftArgumentsModel" "tape" "[I", .initialized RX12, .instanceMethod yX12_here, .selects RX12 yX12_here yX12_here, .methodLink RX12 115 yX12_here, .instanceMethod yX12_look, .selects RX12 yX12_look yX12_look, .methodLink RX12 131 yX12_look, .code yX12_isDigit cX12_isDigit 1 (some .boolean), .static yX12_isDigit, .methodLink RX12 134 yX12_isDigit, .code yX12_bad cX12_bad 1 none, .fieldLink RX12 119 "LeftArgumentsModel" "wrong" "I", .instanceMethod yX12_bad, .selects RX12 yX12_bad yX12_bad, .methodLink RX12 128 yX12_bad, .code yX12_in cX12_in 3 (some .boolean), .static yX12_in, .methodLink RX12 217 yX12_in] : List Cond) ++ wsX120)
set_option maxRecDepth 20000 in
theorem g_X12_number_0 : GoodIn q_X12_number (wsV RX12 131 RX12 yX12_look q_X12_look) := goodIn_app (goodIn_r _ [12, 10, 11, 6] rfl (by decide +kernel)) (goodIn_ca (goodIn_r (.code yX12_look cX12_look 1 (some .int) :: [.code yX12_here cX12_here 1 (some .int), .fieldLink RX12 112 "LeftArgumentsModel" "at" "I", .fieldLink RX12 109 "LeftArgumentsModel" "size" "I", .fieldLink RX12 9 "LeftArgumentsModel" "tape" "[I", .initialized RX12, .instanceMethod yX12_here, .selects RX12 yX12_here yX12_here, .methodLink RX12 115 yX12_here]) [1, 2, 3, 4, 5, 6, 7, 8, 9] rfl (by decide +kernel)) (goodIn_sub (fun _ h => List.mem_cons_of_mem _ (List.mem_append_right _ h)) gwX12))
set_option maxRecDepth 20000 in
theorem g_X12_number_1 : GoodIn q_X12_number (va_wsS RX12 134 yX12_isDigit q_X12_isDigit) := goodIn_app (goodIn_r _ [15, 14, 6] rfl (by decide +kernel)) (goodIn_r (.code yX12_isDigit cX12_isDigit 1 (some .boolean) :: []) [13] rfl (by decide +kernel))
set_option maxRecDepth 20000 in
theorem g_X12_number_2 : GoodIn q_X12_number (wsV RX12 128 RX12 yX12_bad q_X12_bad) := goodIn_app (goodIn_r _ [20, 18, 19, 6] rfl (by decide +kernel)) (goodIn_ca (goodIn_r (.code yX12_bad cX12_bad 1 none :: [.fieldLink RX12 119 "LeftArgumentsModel" "wrong" "I", .fieldLink RX12 112 "LeftArgumentsModel" "at" "I"]) [16, 17, 3] rfl (by decide +kernel)) (goodIn_sub (fun _ h => List.mem_cons_of_mem _ (List.mem_append_right _ h)) gwX12))
set_option maxRecDepth 20000 in
theorem g_X12_number_4 : GoodIn q_X12_number (wsV RX12 115 RX12 yX12_here q_X12_here) := goodIn_app (goodIn_r _ [9, 7, 8, 6] rfl (by decide +kernel)) (goodIn_ca (goodIn_r (.code yX12_here cX12_here 1 (some .int) :: [.fieldLink RX12 112 "LeftArgumentsModel" "at" "I", .fieldLink RX12 109 "LeftArgumentsModel" "size" "I", .fieldLink RX12 9 "LeftArgumentsModel" "tape" "[I"]) [2, 3, 4, 5] rfl (by decide +kernel)) (goodIn_sub (fun _ h => List.mem_cons_of_mem _ (List.mem_append_right _ h)) gwX12))
set_option maxRecDepth 20000 in
theorem g_X12_number_9 : GoodIn q_X12_number (va_wsS RX12 217 yX12_in q_X12_in) := goodIn_app (goodIn_r _ [23, 22, 6] rfl (by decide +kernel)) (goodIn_r (.code yX12_in cX12_in 3 (some .boolean) :: []) [21] rfl (by decide +kernel))
set_option maxHeartbeats 4000000 in
set_option maxRecDepth 100000 in
theorem k_X12_number (l : Launch) (dC : Nat → ClassId) (dI : Nat → Nat → Nat) (h0 : Nat) (h1 : Nat) (v0 : Int32) (v1 : Int32) (v2 : Int32) (v3 : Int32) (r0 : Nat) (r1 : Nat) (r2 : Nat) (r3 : Nat) (r4 : Nat) (r5 : Nat) (r6 : Nat) (v4 : Int32) (v5 : Int32) (r7 : Nat) (r8 : Nat) (r9 : Nat) (r10 : Nat) (v6 : Int32) (r11 : Nat) (r12 : Nat) (v7 : Int32) (v8 : Int32) (r13 : Nat) (r14 : Nat) (v9 : Int32) (v10 : Int32) (r15 : Nat) (v11 : Int32) (v12 : Int32) (r16 : Nat) (v13 : Int32) (w14 : Int64) (r17 : Nat) (v15 : Int32) (v16 : Int32) (r18 : Nat) (r19 : Nat) (r20 : Nat) (r21 : Nat) (r22 : Nat) (r23 : Nat) (v17 : Int32) (r24 : Nat) (r25 : Nat) (r26 : Nat) (v18 : Int32) (g0 : ClassId) (f19 : Nat → Int32) (v20 : Int32) (v21 : Int32) (i_v1 : 0 ≤ v1.toInt ∧ v1.toInt ≤ 240) (i_v2 : 0 ≤ v2.toInt ∧ v2.toInt ≤ 240) (i_v4 : 0 ≤ v4.toInt ∧ v4.toInt ≤ 4) (i_v5 : 0 ≤ v5.toInt ∧ v5.toInt ≤ 4) (i_v6 : 0 ≤ v6.toInt ∧ v6.toInt ≤ 8) (i_v7 : 0 ≤ v7.toInt ∧ v7.toInt ≤ 8) (i_v8 : 0 ≤ v8.toInt ∧ v8.toInt ≤ 1) (i_v9 : -1 ≤ v9.toInt ∧ v9.toInt ≤ 3) (i_v13 : 0 ≤ v13.toInt ∧ v13.toInt ≤ 40) (i_v17 : 0 ≤ v17.toInt ∧ v17.toInt ≤ 10) (i_v18 : 0 ≤ v18.toInt ∧ v18.toInt ≤ 1) (ia_f19 : (∀ j, 0 ≤ (f19 j).toInt ∧ (f19 j).toInt ≤ 255)) (sz : Nat) : Met l yX12_number q_X12_number ({ frames := 2, cells := 0, slots := 0, locals := 40 }) (va_Pc [.ref h0, .int v20, .int v21] (fun U => U.heap.size = sz ∧ va_P (dC, dI) vwCl (wd_f4cd022e h0 v0 h1 v1 v2 (-1) v3 r0 r1 r2 r3 r4 r5 r6 v4 v5 r7 r8 r9 r10 v6 r11 r12 v7 v8 r13 r14 v9 v10 r15 v11 v12 r16 v13 w14 r17 v15 v16 r18 r19 r20 r21 r22 r23 v17 r24 r25 r26 v18 h1 g0 f19) U.heap ∧ va_K (dC, dI) vwCl [(g0, .int)] U ∧ va_D (fun _ => True) (wd_f4cd022e h0 v0 h1 v1 v2 (-1) v3 r0 r1 r2 r3 r4 r5 r6 v4 v5 r7 r8 r9 r10 v6 r11 r12 v7 v8 r13 r14 v9 v10 r15 v11 v12 r16 v13 w14 r17 v15 v16 r18 r19 r20 r21 r22 r23 v17 r24 r25 r26 v18 h1 g0 f19))) (va_Qi (fun (r : Int32) (r9 : Int32) => r9 = r) (fun (r : Int32) (t : State) => (∃ (o_h0_3 : Int32), 1 ≤ o_h0_3.toInt ∧ o_h0_3.toInt ≤ 240 ∧ (-528 ≤ r.toInt) ∧ (r.toInt ≤ 2277) ∧ (v2.toInt ≤ o_h0_3.toInt) ∧ (v20.toInt ≤ r.toInt ∧ r.toInt ≤ v21.toInt) ∧ (pg_n2 f19 v1.toInt v20.toInt v21.toInt v2.toInt = ((true, o_h0_3.toInt), r.toInt)) ∧ va_P (dC, dI) vwCl (wd_f4cd022e h0 v0 h1 v1 o_h0_3 (-1) v3 r0 r1 r2 r3 r4 r5 r6 v4 v5 r7 r8 r9 r10 v6 r11 r12 v7 v8 r13 r14 v9 v10 r15 v11 v12 r16 v13 w14 r17 v15 v16 r18 r19 r20 r21 r22 r23 v17 r24 r25 r26 v18 h1 g0 f19) t.heap ∧ va_K (dC, dI) vwCl [] t ∧ va_D (va_A (wd_f4cd022e h0 v0 h1 v1 v2 (-1) v3 r0 r1 r2 r3 r4 r5 r6 v4 v5 r7 r8 r9 r10 v6 r11 r12 v7 v8 r13 r14 v9 v10 r15 v11 v12 r16 v13 w14 r17 v15 v16 r18 r19 r20 r21 r22 r23 v17 r24 r25 r26 v18 h1 g0 f19) sz) (wd_f4cd022e h0 v0 h1 v1 o_h0_3 (-1) v3 r0 r1 r2 r3 r4 r5 r6 v4 v5 r7 r8 r9 r10 v6 r11 r12 v7 v8 r13 r14 v9 v10 r15 v11 v12 r16 v13 w14 r17 v15 v16 r18 r19 r20 r21 r22 r23 v17 r24 r25 r26 v18 h1 g0 f19)) ∨ (∃ (o_h0_3 : Int32) (o_h0_4 : Int32), 0 ≤ o_h0_3.toInt ∧ o_h0_3.toInt ≤ 240 ∧ 0 ≤ o_h0_4.toInt ∧ o_h0_4.toInt ≤ 240 ∧ (v2.toInt ≤ o_h0_3.toInt) ∧ (pg_n2 f19 v1.toInt v20.toInt v21.toInt v2.toInt = ((false, o_h0_4.toInt), r.toInt)) ∧ va_P (dC, dI) vwCl (wd_f4cd022e h0 v0 h1 v1 o_h0_3 o_h0_4 v3 r0 r1 r2 r3 r4 r5 r6 v4 v5 r7 r8 r9 r10 v6 r11 r12 v7 v8 r13 r14 v9 v10 r15 v11 v12 r16 v13 w14 r17 v15 v16 r18 r19 r20 r21 r22 r23 v17 r24 r25 r26 v18 h1 g0 f19) t.heap ∧ va_K (dC, dI) vwCl [] t ∧ va_D (va_A (wd_f4cd022e h0 v0 h1 v1 v2 (-1) v3 r0 r1 r2 r3 r4 r5 r6 v4 v5 r7 r8 r9 r10 v6 r11 r12 v7 v8 r13 r14 v9 v10 r15 v11 v12 r16 v13 w14 r17 v15 v16 r18 r19 r20 r21 r22 r23 v17 r24 r25 r26 v18 h1 g0 f19) sz) (wd_f4cd022e h0 v0 h1 v1 o_h0_3 o_h0_4 v3 r0 r1 r2 r3 r4 r5 r6 v4 v5 r7 r8 r9 r10 v6 r11 r12 v7 v8 r13 r14 v9 v10 r15 v11 v12 r16 v13 w14 r17 v15 v16 r18 r19 r20 r21 r22 r23 v17 r24 r25 r26 v18 h1 g0 f19))) (va_A (wd_f4cd022e h0 v0 h1 v1 v2 (-1) v3 r0 r1 r2 r3 r4 r5 r6 v4 v5 r7 r8 r9 r10 v6 r11 r12 v7 v8 r13 r14 v9 v10 r15 v11 v12 r16 v13 w14 r17 v15 v16 r18 r19 r20 r21 r22 r23 v17 r24 r25 r26 v18 h1 g0 f19) sz)) 0 0 (va_A (wd_f4cd022e h0 v0 h1 v1 v2 (-1) v3 r0 r1 r2 r3 r4 r5 r6 v4 v5 r7 r8 r9 r10 v6 r11 r12 v7 v8 r13 r14 v9 v10 r15 v11 v12 r16 v13 w14 r17 v15 v16 r18 r19 r20 r21 r22 r23 v17 r24 r25 r26 v18 h1 g0 f19) sz) := by
  refine Met.ofW (cc := cX12_number) (maxL := 4) (ret := (some .int)) (by decide) rfl ?_
  intro p e s m args below meth c s₁ B hml hv
  obtain ⟨i_v1a, i_v1b⟩ := i_v1
  obtain ⟨i_v2a, i_v2b⟩ := i_v2
  obtain ⟨i_v4a, i_v4b⟩ := i_v4
  obtain ⟨i_v5a, i_v5b⟩ := i_v5
  obtain ⟨i_v6a, i_v6b⟩ := i_v6
  obtain ⟨i_v7a, i_v7b⟩ := i_v7
  obtain ⟨i_v8a, i_v8b⟩ := i_v8
  obtain ⟨i_v9a, i_v9b⟩ := i_v9
  obtain ⟨i_v13a, i_v13b⟩ := i_v13
  obtain ⟨i_v17a, i_v17b⟩ := i_v17
  obtain ⟨i_v18a, i_v18b⟩ := i_v18
  obtain ⟨rfl, hsz, hP, hK, hD0⟩ := hv
  have hx := B.exec
  have hb := B.bytes
  have hr := B.returns
  have hts := atoms_spec (ws := q_X12_number) B.pre
  have hown : s.vm.findClass RX12 = some m.cls := findClass_of_methodNamed B.named
  have hlocks := B.notSynchronized
  subst hsz
  have hD := hD0.self (sz := s.heap.size)
  generalize hAe : va_A (wd_f4cd022e h0 v0 h1 v1 v2 (-1) v3 r0 r1 r2 r3 r4 r5 r6 v4 v5 r7 r8 r9 r10 v6 r11 r12 v7 v8 r13 r14 v9 v10 r15 v11 v12 r16 v13 w14 r17 v15 v16 r18 r19 r20 r21 r22 r23 v17 r24 r25 r26 v18 h1 g0 f19) s.heap.size = A at hD ⊢
  have hA : ∀ q : Nat, s.heap.size ≤ q → A q := fun q h => by rw [← hAe]; exact Or.inr h
  have hS : va_S A s.heap s.heap [] := va_S.rf
  generalize hQ : (MQ below _ _ s 0 0 A) = Q
  have hl := lv_entry ([.ref h0, .int v20, .int v21]) (n := 4) (Nat.le_of_ble_eq_true rfl)
  rw [lg_entry_eq]
  generalize (lg_sl ([.ref h0, .int v20, .int v21]) ++ List.replicate (4 - (lg_sl ([.ref h0, .int v20, .int v21])).length) Slot.unset).toArray = ls at hl ⊢
  have hl : lv_has ls 4 [(0, .ref h0), (1, .int v20), (2, .int v21)] := hl
  obtain ⟨H, hH⟩ : ∃ H : Heap, H = s.heap := ⟨_, rfl⟩
  obtain ⟨locs, hlocs⟩ : ∃ y : List Loc, y = [] := ⟨_, rfl⟩
  have hS : va_S A s.heap H locs := by rw [hH, hlocs]; exact va_S.rf
  have hP : va_P (dC, dI) vwCl (wd_f4cd022e h0 v0 h1 v1 v2 (-1) v3 r0 r1 r2 r3 r4 r5 r6 v4 v5 r7 r8 r9 r10 v6 r11 r12 v7 v8 r13 r14 v9 v10 r15 v11 v12 r16 v13 w14 r17 v15 v16 r18 r19 r20 r21 r22 r23 v17 r24 r25 r26 v18 h1 g0 f19) H := by rw [hH]; exact hP
  rw [← hH, ← hlocs]
  refine lv_aload_n hx hb dX12_number_0 rfl (lv_at hl 0 rfl) ?_
  have hPc := hP.sub (ws' := (wd_f4cd022e h0 v0 h1 v1 v2 (-1) v3 r0 r1 r2 r3 r4 r5 r6 v4 v5 r7 r8 r9 r10 v6 r11 r12 v7 v8 r13 r14 v9 v10 r15 v11 v12 r16 v13 w14 r17 v15 v16 r18 r19 r20 r21 r22 r23 v17 r24 r25 r26 v18 h1 g0 f19)) [0, 1] rfl
  have hDc := hD.sub (ws' := (wd_f4cd022e h0 v0 h1 v1 v2 (-1) v3 r0 r1 r2 r3 r4 r5 r6 v4 v5 r7 r8 r9 r10 v6 r11 r12 v7 v8 r13 r14 v9 v10 r15 v11 v12 r16 v13 w14 r17 v15 v16 r18 r19 r20 r21 r22 r23 v17 r24 r25 r26 v18 h1 g0 f19)) [0, 1] (by decide) rfl
  have hKc := hK.sub (tys' := [(g0, .int)]) [0] rfl
  have hFc := va_free (wc := (wd_f4cd022e h0 v0 h1 v1 v2 (-1) v3 r0 r1 r2 r3 r4 r5 r6 v4 v5 r7 r8 r9 r10 v6 r11 r12 v7 v8 r13 r14 v9 v10 r15 v11 v12 r16 v13 w14 r17 v15 v16 r18 r19 r20 r21 r22 r23 v17 r24 r25 r26 v18 h1 g0 f19)) hD hS hA [0, 1] rfl
  refine va_calli (va_runV (As := []) (rest := []) ⟨hx, hb, hml, hown, hts⟩ (k_X12_look l dC dI h0 h1 v0 v1 v2 ((-1)) v3 r0 r1 r2 r3 r4 r5 r6 v4 v5 r7 r8 r9 r10 v6 r11 r12 v7 v8 r13 r14 v9 v10 r15 v11 v12 r16 v13 w14 r17 v15 v16 r18 r19 r20 r21 r22 r23 v17 r24 r25 r26 v18 g0 f19 ⟨i_v1a, i_v1b⟩ ⟨i_v2a, i_v2b⟩ ⟨i_v4a, i_v4b⟩ ⟨i_v5a, i_v5b⟩ ⟨i_v6a, i_v6b⟩ ⟨i_v7a, i_v7b⟩ ⟨i_v8a, i_v8b⟩ ⟨i_v9a, i_v9b⟩ ⟨i_v13a, i_v13b⟩ ⟨i_v17a, i_v17b⟩ ⟨i_v18a, i_v18b⟩ ia_f19 H.size) (cwV 0 hts g_X12_number_0 rfl rfl rfl (by decide +kernel) ⟨Nat.le_of_ble_eq_true rfl, Nat.le_of_ble_eq_true rfl⟩) (pv_PV12 hPc hKc hDc (q0 := 0) rfl) rfl rfl hl.1 rfl (lv_room (Nat.le_of_ble_eq_true rfl)) dX12_number_1 ⟨Nat.le_of_ble_eq_true rfl, Nat.le_of_ble_eq_true rfl⟩) hS (fun q _ h => hFc q h) hFc (fun ra1 u t H1 locs ht hvm hwra1 hB hz1 hk1 hS => ?_)
  try rw [hwra1] at hB
  have hkra1_0 : (((-1) : Int32)).toInt = -1 := by decide
  rcases hB with hB | hB
  · skip
    obtain ⟨x2, oa_x2, ob_x2, pt0_ra1, pt1_ra1, pt2_ra1, pt3_ra1, pt4_ra1, pt5_ra1, pt6_ra1, hP1, hK1, hD1⟩ := hB
    rw [ht] at hP1
    obtain ⟨hP2, hD2⟩ := va_join (wr := []) (w1 := (wd_f4cd022e h0 v0 h1 v1 x2 (-1) v3 r0 r1 r2 r3 r4 r5 r6 v4 v5 r7 r8 r9 r10 v6 r11 r12 v7 v8 r13 r14 v9 v10 r15 v11 v12 r16 v13 w14 r17 v15 v16 r18 r19 r20 r21 r22 r23 v17 r24 r25 r26 v18 h1 g0 f19)) hP hD [0, 1] [] rfl rfl (by decide) (by decide) hk1 hFc hP1 hD1
    clear hP hD hPc hDc hKc hFc hP1 hK1 hD1 hk1 hz1
    generalize H1 = H at hP2 hS ⊢
    have hP : va_P (dC, dI) vwCl (wd_f4cd022e h0 v0 h1 v1 x2 (-1) v3 r0 r1 r2 r3 r4 r5 r6 v4 v5 r7 r8 r9 r10 v6 r11 r12 v7 v8 r13 r14 v9 v10 r15 v11 v12 r16 v13 w14 r17 v15 v16 r18 r19 r20 r21 r22 r23 v17 r24 r25 r26 v18 h1 g0 f19) H := hP2
    have hD : va_D A (wd_f4cd022e h0 v0 h1 v1 x2 (-1) v3 r0 r1 r2 r3 r4 r5 r6 v4 v5 r7 r8 r9 r10 v6 r11 r12 v7 v8 r13 r14 v9 v10 r15 v11 v12 r16 v13 w14 r17 v15 v16 r18 r19 r20 r21 r22 r23 v17 r24 r25 r26 v18 h1 g0 f19) := hD2
    clear hP2 hD2
    obtain rfl : ra1 = ((-1) : Int32) := pv_cs (by decide) pt0_ra1 pt1_ra1
    have hPc := hP.sub (ws' := []) [] rfl
    have hDc := hD.sub (ws' := []) [] (by decide) rfl
    have hKc := hK.sub (tys' := []) [] rfl
    have hFc := va_free (wc := []) hD hS hA [] rfl
    refine va_calli (va_runS (As := [.int (-1)]) (rest := []) ⟨hx, hb, hml, hown, hts⟩ (k_X12_isDigit l dC dI ((-1))  H.size) (va_cwS 1 hts g_X12_number_1 rfl rfl rfl (by decide +kernel) ⟨Nat.le_of_ble_eq_true rfl, Nat.le_of_ble_eq_true rfl⟩) (pv_PS hPc hKc hDc) rfl rfl hl.1 rfl (lv_room (Nat.le_of_ble_eq_true rfl)) dX12_number_4 ⟨Nat.le_of_ble_eq_true rfl, Nat.le_of_ble_eq_true rfl⟩) hS (fun q _ h => hFc q h) hFc (fun ra3 u t H1 locs ht hvm hwra3 hB hz1 hk1 hS => ?_)
    try rw [hwra3] at hB
    have hkra3_0 : (((-1) : Int32)).toInt = -1 := by decide
    obtain ⟨pt0_ra3, pt1_ra3, pt2_ra3, pt3_ra3, pt4_ra3, hP1, hK1, hD1⟩ := hB
    rw [ht] at hP1
    obtain ⟨hP2, hD2⟩ := va_join (wr := (wd_f4cd022e h0 v0 h1 v1 x2 (-1) v3 r0 r1 r2 r3 r4 r5 r6 v4 v5 r7 r8 r9 r10 v6 r11 r12 v7 v8 r13 r14 v9 v10 r15 v11 v12 r16 v13 w14 r17 v15 v16 r18 r19 r20 r21 r22 r23 v17 r24 r25 r26 v18 h1 g0 f19)) (w1 := []) hP hD [] [0, 1] rfl rfl (by decide) (by decide) hk1 hFc hP1 hD1
    clear hP hD hPc hDc hKc hFc hP1 hK1 hD1 hk1 hz1
    generalize H1 = H at hP2 hS ⊢
    have hP : va_P (dC, dI) vwCl (wd_f4cd022e h0 v0 h1 v1 x2 (-1) v3 r0 r1 r2 r3 r4 r5 r6 v4 v5 r7 r8 r9 r10 v6 r11 r12 v7 v8 r13 r14 v9 v10 r15 v11 v12 r16 v13 w14 r17 v15 v16 r18 r19 r20 r21 r22 r23 v17 r24 r25 r26 v18 h1 g0 f19) H := hP2
    have hD : va_D A (wd_f4cd022e h0 v0 h1 v1 x2 (-1) v3 r0 r1 r2 r3 r4 r5 r6 v4 v5 r7 r8 r9 r10 v6 r11 r12 v7 v8 r13 r14 v9 v10 r15 v11 v12 r16 v13 w14 r17 v15 v16 r18 r19 r20 r21 r22 r23 v17 r24 r25 r26 v18 h1 g0 f19) := hD2
    clear hP2 hD2
    refine lv_if_ne (tgt := 16) hx hb dX12_number_7 (by decide) (fun c4 => ?_) (fun c4 => ?_)
    · skip
      have fc4 : ¬ (ra3.toInt = 0) := fun h9 => c4 (Int32.toInt_inj.mp h9)
      exfalso; omega
    · skip
      have fc4 : ra3.toInt = 0 := congrArg Int32.toInt c4
      refine lv_aload_n hx hb dX12_number_10 rfl (lv_at hl 0 rfl) ?_
      have hPc := hP.sub (ws' := (wd_171f232f h0 v0 h1 v1 x2 (-1) v3 r0 r1 r2 r3 r4 r5 r6 v4 v5 r7 r8 r9 r10 v6 r11 r12 v7 v8 r13 r14 v9 v10 r15 v11 v12 r16 v13 w14 r17 v15 v16 r18 r19 r20 r21 r22 r23 v17 r24 r25 r26 v18)) [0] rfl
      have hDc := hD.sub (ws' := (wd_171f232f h0 v0 h1 v1 x2 (-1) v3 r0 r1 r2 r3 r4 r5 r6 v4 v5 r7 r8 r9 r10 v6 r11 r12 v7 v8 r13 r14 v9 v10 r15 v11 v12 r16 v13 w14 r17 v15 v16 r18 r19 r20 r21 r22 r23 v17 r24 r25 r26 v18)) [0] (by decide) rfl
      have hKc := hK.sub (tys' := []) [] rfl
      have hFc := va_free (wc := (wd_171f232f h0 v0 h1 v1 x2 (-1) v3 r0 r1 r2 r3 r4 r5 r6 v4 v5 r7 r8 r9 r10 v6 r11 r12 v7 v8 r13 r14 v9 v10 r15 v11 v12 r16 v13 w14 r17 v15 v16 r18 r19 r20 r21 r22 r23 v17 r24 r25 r26 v18)) hD hS hA [0] rfl
      refine va_callv (va_runV (As := []) (rest := []) ⟨hx, hb, hml, hown, hts⟩ (k_X12_bad l dC dI h0 v0 h1 v1 x2 v3 r0 r1 r2 r3 r4 r5 r6 v4 v5 r7 r8 r9 r10 v6 r11 r12 v7 v8 r13 r14 v9 v10 r15 v11 v12 r16 v13 w14 r17 v15 v16 r18 r19 r20 r21 r22 r23 v17 r24 r25 r26 v18 ⟨i_v1a, i_v1b⟩ ⟨oa_x2, ob_x2⟩ ⟨i_v4a, i_v4b⟩ ⟨i_v5a, i_v5b⟩ ⟨i_v6a, i_v6b⟩ ⟨i_v7a, i_v7b⟩ ⟨i_v8a, i_v8b⟩ ⟨i_v9a, i_v9b⟩ ⟨i_v13a, i_v13b⟩ ⟨i_v17a, i_v17b⟩ ⟨i_v18a, i_v18b⟩ H.size) (cwV 0 hts g_X12_number_2 rfl rfl rfl (by decide +kernel) ⟨Nat.le_of_ble_eq_true rfl, Nat.le_of_ble_eq_true rfl⟩) (pv_PV12 hPc hKc hDc (q0 := 0) rfl) rfl rfl hl.1 rfl (lv_room (Nat.le_of_ble_eq_true rfl)) dX12_number_11 ⟨Nat.le_of_ble_eq_true rfl, Nat.le_of_ble_eq_true rfl⟩) hS (fun q _ h => hFc q h) hFc (fun u t H1 locs ht hvm hwra5 hB hz1 hk1 hS => ?_)
      obtain ⟨x6, oa_x6, ob_x6, pt0_ra5, hP1, hK1, hD1⟩ := hB
      rw [ht] at hP1
      obtain ⟨hP2, hD2⟩ := va_join (wr := (wd_d0032b31 h1 g0 f19)) (w1 := (wd_171f232f h0 v0 h1 v1 x2 x6 v3 r0 r1 r2 r3 r4 r5 r6 v4 v5 r7 r8 r9 r10 v6 r11 r12 v7 v8 r13 r14 v9 v10 r15 v11 v12 r16 v13 w14 r17 v15 v16 r18 r19 r20 r21 r22 r23 v17 r24 r25 r26 v18)) hP hD [0] [1] rfl rfl (by decide) (by decide) hk1 hFc hP1 hD1
      clear hP hD hPc hDc hKc hFc hP1 hK1 hD1 hk1 hz1
      generalize H1 = H at hP2 hS ⊢
      have hP := hP2.sub (ws' := (wd_f4cd022e h0 v0 h1 v1 x2 x6 v3 r0 r1 r2 r3 r4 r5 r6 v4 v5 r7 r8 r9 r10 v6 r11 r12 v7 v8 r13 r14 v9 v10 r15 v11 v12 r16 v13 w14 r17 v15 v16 r18 r19 r20 r21 r22 r23 v17 r24 r25 r26 v18 h1 g0 f19)) [1, 0] rfl
      have hD := hD2.sub (ws' := (wd_f4cd022e h0 v0 h1 v1 x2 x6 v3 r0 r1 r2 r3 r4 r5 r6 v4 v5 r7 r8 r9 r10 v6 r11 r12 v7 v8 r13 r14 v9 v10 r15 v11 v12 r16 v13 w14 r17 v15 v16 r18 r19 r20 r21 r22 r23 v17 r24 r25 r26 v18 h1 g0 f19)) [1, 0] (by decide) rfl
      clear hP2 hD2
      refine lv_iload_n hx hb dX12_number_14 rfl (lv_at hl 1 rfl) ?_
      subst hQ
      have hP9 := hP.sub (ws' := (wd_f4cd022e h0 v0 h1 v1 x2 x6 v3 r0 r1 r2 r3 r4 r5 r6 v4 v5 r7 r8 r9 r10 v6 r11 r12 v7 v8 r13 r14 v9 v10 r15 v11 v12 r16 v13 w14 r17 v15 v16 r18 r19 r20 r21 r22 r23 v17 r24 r25 r26 v18 h1 g0 f19)) [0, 1] rfl
      have hD9 := hD.sub (ws' := (wd_f4cd022e h0 v0 h1 v1 x2 x6 v3 r0 r1 r2 r3 r4 r5 r6 v4 v5 r7 r8 r9 r10 v6 r11 r12 v7 v8 r13 r14 v9 v10 r15 v11 v12 r16 v13 w14 r17 v15 v16 r18 r19 r20 r21 r22 r23 v17 r24 r25 r26 v18 h1 g0 f19)) [0, 1] (by decide) rfl
      have hK9 := hK.sub (tys' := []) [] rfl
      exact W.iret (v := v20) hx hb hr (fun t ht hW => ⟨⟨v20, v20, rfl, rfl, Or.inr (⟨x2, x6, oa_x2, ob_x2, oa_x6, ob_x6, by omega, by first | (apply pg_n2.none <;> first | assumption | omega) | (apply pg_n2.two <;> first | assumption | omega | (apply pg_nb.ok <;> first | assumption | omega) | (apply pg_nb.no <;> first | assumption | omega) | (apply pg_nb.three <;> first | assumption | omega)) | (apply pg_n2.one <;> first | assumption | omega | (apply pg_nb.ok <;> first | assumption | omega) | (apply pg_nb.no <;> first | assumption | omega) | (apply pg_nb.three <;> first | assumption | omega)), by rw [ht]; exact hP9, va_K.moved hW.alike hK9, hD9⟩)⟩, hS.F ht⟩) hS.2.2 dX12_number_15
  · skip
    obtain ⟨x7, oa_x7, ob_x7, pt0_ra1, pt1_ra1, pt2_ra1, pt3_ra1, pt4_ra1, pt5_ra1, pt6_ra1, pt7_ra1, hP1, hK1, hD1⟩ := hB
    rw [ht] at hP1
    obtain ⟨hP2, hD2⟩ := va_join (wr := []) (w1 := (wd_f4cd022e h0 v0 h1 v1 x7 (-1) v3 r0 r1 r2 r3 r4 r5 r6 v4 v5 r7 r8 r9 r10 v6 r11 r12 v7 v8 r13 r14 v9 v10 r15 v11 v12 r16 v13 w14 r17 v15 v16 r18 r19 r20 r21 r22 r23 v17 r24 r25 r26 v18 h1 g0 f19)) hP hD [0, 1] [] rfl rfl (by decide) (by decide) hk1 hFc hP1 hD1
    clear hP hD hPc hDc hKc hFc hP1 hK1 hD1 hk1 hz1
    generalize H1 = H at hP2 hS ⊢
    have hP : va_P (dC, dI) vwCl (wd_f4cd022e h0 v0 h1 v1 x7 (-1) v3 r0 r1 r2 r3 r4 r5 r6 v4 v5 r7 r8 r9 r10 v6 r11 r12 v7 v8 r13 r14 v9 v10 r15 v11 v12 r16 v13 w14 r17 v15 v16 r18 r19 r20 r21 r22 r23 v17 r24 r25 r26 v18 h1 g0 f19) H := hP2
    have hD : va_D A (wd_f4cd022e h0 v0 h1 v1 x7 (-1) v3 r0 r1 r2 r3 r4 r5 r6 v4 v5 r7 r8 r9 r10 v6 r11 r12 v7 v8 r13 r14 v9 v10 r15 v11 v12 r16 v13 w14 r17 v15 v16 r18 r19 r20 r21 r22 r23 v17 r24 r25 r26 v18 h1 g0 f19) := hD2
    clear hP2 hD2
    have hPc := hP.sub (ws' := []) [] rfl
    have hDc := hD.sub (ws' := []) [] (by decide) rfl
    have hKc := hK.sub (tys' := []) [] rfl
    have hFc := va_free (wc := []) hD hS hA [] rfl
    refine va_calli (va_runS (As := [.int ra1]) (rest := []) ⟨hx, hb, hml, hown, hts⟩ (k_X12_isDigit l dC dI ra1  H.size) (va_cwS 1 hts g_X12_number_1 rfl rfl rfl (by decide +kernel) ⟨Nat.le_of_ble_eq_true rfl, Nat.le_of_ble_eq_true rfl⟩) (pv_PS hPc hKc hDc) rfl rfl hl.1 rfl (lv_room (Nat.le_of_ble_eq_true rfl)) dX12_number_4 ⟨Nat.le_of_ble_eq_true rfl, Nat.le_of_ble_eq_true rfl⟩) hS (fun q _ h => hFc q h) hFc (fun ra8 u t H1 locs ht hvm hwra8 hB hz1 hk1 hS => ?_)
    try rw [hwra8] at hB
    obtain ⟨pt0_ra8, pt1_ra8, pt2_ra8, pt3_ra8, pt4_ra8, hP1, hK1, hD1⟩ := hB
    rw [ht] at hP1
    obtain ⟨hP2, hD2⟩ := va_join (wr := (wd_f4cd022e h0 v0 h1 v1 x7 (-1) v3 r0 r1 r2 r3 r4 r5 r6 v4 v5 r7 r8 r9 r10 v6 r11 r12 v7 v8 r13 r14 v9 v10 r15 v11 v12 r16 v13 w14 r17 v15 v16 r18 r19 r20 r21 r22 r23 v17 r24 r25 r26 v18 h1 g0 f19)) (w1 := []) hP hD [] [0, 1] rfl rfl (by decide) (by decide) hk1 hFc hP1 hD1
    clear hP hD hPc hDc hKc hFc hP1 hK1 hD1 hk1 hz1
    generalize H1 = H at hP2 hS ⊢
    have hP : va_P (dC, dI) vwCl (wd_f4cd022e h0 v0 h1 v1 x7 (-1) v3 r0 r1 r2 r3 r4 r5 r6 v4 v5 r7 r8 r9 r10 v6 r11 r12 v7 v8 r13 r14 v9 v10 r15 v11 v12 r16 v13 w14 r17 v15 v16 r18 r19 r20 r21 r22 r23 v17 r24 r25 r26 v18 h1 g0 f19) H := hP2
    have hD : va_D A (wd_f4cd022e h0 v0 h1 v1 x7 (-1) v3 r0 r1 r2 r3 r4 r5 r6 v4 v5 r7 r8 r9 r10 v6 r11 r12 v7 v8 r13 r14 v9 v10 r15 v11 v12 r16 v13 w14 r17 v15 v16 r18 r19 r20 r21 r22 r23 v17 r24 r25 r26 v18 h1 g0 f19) := hD2
    clear hP2 hD2
    refine lv_if_ne (tgt := 16) hx hb dX12_number_7 (by decide) (fun c9 => ?_) (fun c9 => ?_)
    · skip
      have fc9 : ¬ (ra8.toInt = 0) := fun h9 => c9 (Int32.toInt_inj.mp h9)
      refine lv_aload_n hx hb dX12_number_16 rfl (lv_at hl 0 rfl) ?_
      have hPc := hP.sub (ws' := (wd_f4cd022e h0 v0 h1 v1 x7 (-1) v3 r0 r1 r2 r3 r4 r5 r6 v4 v5 r7 r8 r9 r10 v6 r11 r12 v7 v8 r13 r14 v9 v10 r15 v11 v12 r16 v13 w14 r17 v15 v16 r18 r19 r20 r21 r22 r23 v17 r24 r25 r26 v18 h1 g0 f19)) [0, 1] rfl
      have hDc := hD.sub (ws' := (wd_f4cd022e h0 v0 h1 v1 x7 (-1) v3 r0 r1 r2 r3 r4 r5 r6 v4 v5 r7 r8 r9 r10 v6 r11 r12 v7 v8 r13 r14 v9 v10 r15 v11 v12 r16 v13 w14 r17 v15 v16 r18 r19 r20 r21 r22 r23 v17 r24 r25 r26 v18 h1 g0 f19)) [0, 1] (by decide) rfl
      have hKc := hK.sub (tys' := [(g0, .int)]) [0] rfl
      have hFc := va_free (wc := (wd_f4cd022e h0 v0 h1 v1 x7 (-1) v3 r0 r1 r2 r3 r4 r5 r6 v4 v5 r7 r8 r9 r10 v6 r11 r12 v7 v8 r13 r14 v9 v10 r15 v11 v12 r16 v13 w14 r17 v15 v16 r18 r19 r20 r21 r22 r23 v17 r24 r25 r26 v18 h1 g0 f19)) hD hS hA [0, 1] rfl
      refine va_calli (va_runV (As := []) (rest := []) ⟨hx, hb, hml, hown, hts⟩ (k_X12_here l dC dI h0 h1 v0 v1 x7 ((-1)) v3 r0 r1 r2 r3 r4 r5 r6 v4 v5 r7 r8 r9 r10 v6 r11 r12 v7 v8 r13 r14 v9 v10 r15 v11 v12 r16 v13 w14 r17 v15 v16 r18 r19 r20 r21 r22 r23 v17 r24 r25 r26 v18 g0 f19 ⟨i_v1a, i_v1b⟩ ⟨oa_x7, by first | omega | decide⟩ ⟨i_v4a, i_v4b⟩ ⟨i_v5a, i_v5b⟩ ⟨i_v6a, i_v6b⟩ ⟨i_v7a, i_v7b⟩ ⟨i_v8a, i_v8b⟩ ⟨i_v9a, i_v9b⟩ ⟨i_v13a, i_v13b⟩ ⟨i_v17a, i_v17b⟩ ⟨i_v18a, i_v18b⟩ ia_f19 H.size) (cwV 0 hts g_X12_number_4 rfl rfl rfl (by decide +kernel) ⟨Nat.le_of_ble_eq_true rfl, Nat.le_of_ble_eq_true rfl⟩) (pv_PV12 hPc hKc hDc (q0 := 0) rfl) rfl rfl hl.1 rfl (lv_room (Nat.le_of_ble_eq_true rfl)) dX12_number_17 ⟨Nat.le_of_ble_eq_true rfl, Nat.le_of_ble_eq_true rfl⟩) hS (fun q _ h => hFc q h) hFc (fun ra10 u t H1 locs ht hvm hwra10 hB hz1 hk1 hS => ?_)
      try rw [hwra10] at hB
      have hkra10_0 : (((-1) : Int32)).toInt = -1 := by decide
      rcases hB with hB | hB
      · skip
        obtain ⟨pt0_ra10, pt1_ra10, pt2_ra10, pt3_ra10, hP1, hK1, hD1⟩ := hB
        rw [ht] at hP1
        obtain ⟨hP2, hD2⟩ := va_join (wr := []) (w1 := (wd_f4cd022e h0 v0 h1 v1 x7 (-1) v3 r0 r1 r2 r3 r4 r5 r6 v4 v5 r7 r8 r9 r10 v6 r11 r12 v7 v8 r13 r14 v9 v10 r15 v11 v12 r16 v13 w14 r17 v15 v16 r18 r19 r20 r21 r22 r23 v17 r24 r25 r26 v18 h1 g0 f19)) hP hD [0, 1] [] rfl rfl (by decide) (by decide) hk1 hFc hP1 hD1
        clear hP hD hPc hDc hKc hFc hP1 hK1 hD1 hk1 hz1
        generalize H1 = H at hP2 hS ⊢
        have hP : va_P (dC, dI) vwCl (wd_f4cd022e h0 v0 h1 v1 x7 (-1) v3 r0 r1 r2 r3 r4 r5 r6 v4 v5 r7 r8 r9 r10 v6 r11 r12 v7 v8 r13 r14 v9 v10 r15 v11 v12 r16 v13 w14 r17 v15 v16 r18 r19 r20 r21 r22 r23 v17 r24 r25 r26 v18 h1 g0 f19) H := hP2
        have hD : va_D A (wd_f4cd022e h0 v0 h1 v1 x7 (-1) v3 r0 r1 r2 r3 r4 r5 r6 v4 v5 r7 r8 r9 r10 v6 r11 r12 v7 v8 r13 r14 v9 v10 r15 v11 v12 r16 v13 w14 r17 v15 v16 r18 r19 r20 r21 r22 r23 v17 r24 r25 r26 v18 h1 g0 f19) := hD2
        clear hP2 hD2
        obtain rfl : ra10 = ((-1) : Int32) := pv_cs (by decide) pt0_ra10 pt1_ra10
        exfalso; omega
      · skip
        obtain ⟨pt0_ra10, pt1_ra10, pt2_ra10, pt3_ra10, pt4_ra10, hP1, hK1, hD1⟩ := hB
        rw [ht] at hP1
        obtain ⟨hP2, hD2⟩ := va_join (wr := []) (w1 := (wd_f4cd022e h0 v0 h1 v1 x7 (-1) v3 r0 r1 r2 r3 r4 r5 r6 v4 v5 r7 r8 r9 r10 v6 r11 r12 v7 v8 r13 r14 v9 v10 r15 v11 v12 r16 v13 w14 r17 v15 v16 r18 r19 r20 r21 r22 r23 v17 r24 r25 r26 v18 h1 g0 f19)) hP hD [0, 1] [] rfl rfl (by decide) (by decide) hk1 hFc hP1 hD1
        clear hP hD hPc hDc hKc hFc hP1 hK1 hD1 hk1 hz1
        generalize H1 = H at hP2 hS ⊢
        have hP : va_P (dC, dI) vwCl (wd_f4cd022e h0 v0 h1 v1 x7 (-1) v3 r0 r1 r2 r3 r4 r5 r6 v4 v5 r7 r8 r9 r10 v6 r11 r12 v7 v8 r13 r14 v9 v10 r15 v11 v12 r16 v13 w14 r17 v15 v16 r18 r19 r20 r21 r22 r23 v17 r24 r25 r26 v18 h1 g0 f19) H := hP2
        have hD : va_D A (wd_f4cd022e h0 v0 h1 v1 x7 (-1) v3 r0 r1 r2 r3 r4 r5 r6 v4 v5 r7 r8 r9 r10 v6 r11 r12 v7 v8 r13 r14 v9 v10 r15 v11 v12 r16 v13 w14 r17 v15 v16 r18 r19 r20 r21 r22 r23 v17 r24 r25 r26 v18 h1 g0 f19) := hD2
        clear hP2 hD2
        refine lv_bipush (v := 48) hx hb dX12_number_20 (by decide) ?_
        refine lv_isub hx hb dX12_number_22 ?_
        refine lv_topi (fun t11 et11 => ?_)
        have gt11 : t11.toInt = ra10.toInt - 48 := pv_sub (a := ra10.toInt) (b := 48) et11 rfl (by decide) (by omega) (by omega)
        refine lv_istore_n (lv' := [(3, .int t11), (0, .ref h0), (1, .int v20), (2, .int v21)]) hx hb dX12_number_23 rfl hl (by decide) rfl (fun ls hl => ?_)
        refine lv_aload_n hx hb dX12_number_24 rfl (lv_at hl 1 rfl) ?_
        refine lv_dup hx hb dX12_number_25 rfl ?_
        refine va_get (D := (dC, dI)) (ci := 12) (v := .int x7) (C := RX12) (T := TX12) (N := 48) hx hb hts (fun _ h => List.mem_cons_of_mem _ (List.mem_append_right _ h)) hown hK hP 0 rfl rfl 3 (by decide) (hts (.fieldLink RX12 112 "LeftArgumentsModel" "at" "I") (List.mem_cons_of_mem _ (List.mem_append_left _ (List.mem_of_getElem? (i := 2) rfl)))) (fun _ h9 => h9) rfl dX12_number_26 ?_
        refine lv_iconst (v := 1) hx hb dX12_number_29 (by decide) ?_
        refine lv_iadd hx hb dX12_number_30 ?_
        refine lv_topi (fun t12 et12 => ?_)
        have gt12 : t12.toInt = x7.toInt + 1 := pv_add (a := x7.toInt) (b := 1) et12 rfl (by decide) (by omega) (by omega)
        refine va_put (D := (dC, dI)) (ci := 12) (v := .int t12) (ty := .int) (C := RX12) (T := TX12) (N := 48) hx hb hts (fun _ h => List.mem_cons_of_mem _ (List.mem_append_right _ h)) tyX12 tyX12_ok nmX12 hown hK hP hD hS 0 rfl rfl 3 (by decide) (hts (.fieldLink RX12 112 "LeftArgumentsModel" "at" "I") (List.mem_cons_of_mem _ (List.mem_append_left _ (List.mem_of_getElem? (i := 2) rfl)))) (fun _ h9 => h9) rfl (by decide +kernel) rfl rfl (Nat.le_of_ble_eq_true rfl) dX12_number_31 (fun H locs hP hD hS => ?_)
        have hP : va_P (dC, dI) vwCl (wd_f4cd022e h0 v0 h1 v1 t12 (-1) v3 r0 r1 r2 r3 r4 r5 r6 v4 v5 r7 r8 r9 r10 v6 r11 r12 v7 v8 r13 r14 v9 v10 r15 v11 v12 r16 v13 w14 r17 v15 v16 r18 r19 r20 r21 r22 r23 v17 r24 r25 r26 v18 h1 g0 f19) H := hP
        have hD : va_D A (wd_f4cd022e h0 v0 h1 v1 t12 (-1) v3 r0 r1 r2 r3 r4 r5 r6 v4 v5 r7 r8 r9 r10 v6 r11 r12 v7 v8 r13 r14 v9 v10 r15 v11 v12 r16 v13 w14 r17 v15 v16 r18 r19 r20 r21 r22 r23 v17 r24 r25 r26 v18 h1 g0 f19) := hD
        refine lv_aload_n hx hb dX12_number_34 rfl (lv_at hl 1 rfl) ?_
        have hPc := hP.sub (ws' := (wd_f4cd022e h0 v0 h1 v1 t12 (-1) v3 r0 r1 r2 r3 r4 r5 r6 v4 v5 r7 r8 r9 r10 v6 r11 r12 v7 v8 r13 r14 v9 v10 r15 v11 v12 r16 v13 w14 r17 v15 v16 r18 r19 r20 r21 r22 r23 v17 r24 r25 r26 v18 h1 g0 f19)) [0, 1] rfl
        have hDc := hD.sub (ws' := (wd_f4cd022e h0 v0 h1 v1 t12 (-1) v3 r0 r1 r2 r3 r4 r5 r6 v4 v5 r7 r8 r9 r10 v6 r11 r12 v7 v8 r13 r14 v9 v10 r15 v11 v12 r16 v13 w14 r17 v15 v16 r18 r19 r20 r21 r22 r23 v17 r24 r25 r26 v18 h1 g0 f19)) [0, 1] (by decide) rfl
        have hKc := hK.sub (tys' := [(g0, .int)]) [0] rfl
        have hFc := va_free (wc := (wd_f4cd022e h0 v0 h1 v1 t12 (-1) v3 r0 r1 r2 r3 r4 r5 r6 v4 v5 r7 r8 r9 r10 v6 r11 r12 v7 v8 r13 r14 v9 v10 r15 v11 v12 r16 v13 w14 r17 v15 v16 r18 r19 r20 r21 r22 r23 v17 r24 r25 r26 v18 h1 g0 f19)) hD hS hA [0, 1] rfl
        refine va_calli (va_runV (As := []) (rest := []) ⟨hx, hb, hml, hown, hts⟩ (k_X12_here l dC dI h0 h1 v0 v1 t12 ((-1)) v3 r0 r1 r2 r3 r4 r5 r6 v4 v5 r7 r8 r9 r10 v6 r11 r12 v7 v8 r13 r14 v9 v10 r15 v11 v12 r16 v13 w14 r17 v15 v16 r18 r19 r20 r21 r22 r23 v17 r24 r25 r26 v18 g0 f19 ⟨i_v1a, i_v1b⟩ ⟨by first | omega | decide, by first | omega | decide⟩ ⟨i_v4a, i_v4b⟩ ⟨i_v5a, i_v5b⟩ ⟨i_v6a, i_v6b⟩ ⟨i_v7a, i_v7b⟩ ⟨i_v8a, i_v8b⟩ ⟨i_v9a, i_v9b⟩ ⟨i_v13a, i_v13b⟩ ⟨i_v17a, i_v17b⟩ ⟨i_v18a, i_v18b⟩ ia_f19 H.size) (cwV 0 hts g_X12_number_4 rfl rfl rfl (by decide +kernel) ⟨Nat.le_of_ble_eq_true rfl, Nat.le_of_ble_eq_true rfl⟩) (pv_PV12 hPc hKc hDc (q0 := 0) rfl) rfl rfl hl.1 rfl (lv_room (Nat.le_of_ble_eq_true rfl)) dX12_number_35 ⟨Nat.le_of_ble_eq_true rfl, Nat.le_of_ble_eq_true rfl⟩) hS (fun q _ h => hFc q h) hFc (fun ra13 u t H1 locs ht hvm hwra13 hB hz1 hk1 hS => ?_)
        try rw [hwra13] at hB
        have hkra13_0 : (((-1) : Int32)).toInt = -1 := by decide
        rcases hB with hB | hB
        · skip
          obtain ⟨pt0_ra13, pt1_ra13, pt2_ra13, pt3_ra13, hP1, hK1, hD1⟩ := hB
          rw [ht] at hP1
          obtain ⟨hP2, hD2⟩ := va_join (wr := []) (w1 := (wd_f4cd022e h0 v0 h1 v1 t12 (-1) v3 r0 r1 r2 r3 r4 r5 r6 v4 v5 r7 r8 r9 r10 v6 r11 r12 v7 v8 r13 r14 v9 v10 r15 v11 v12 r16 v13 w14 r17 v15 v16 r18 r19 r20 r21 r22 r23 v17 r24 r25 r26 v18 h1 g0 f19)) hP hD [0, 1] [] rfl rfl (by decide) (by decide) hk1 hFc hP1 hD1
          clear hP hD hPc hDc hKc hFc hP1 hK1 hD1 hk1 hz1
          generalize H1 = H at hP2 hS ⊢
          have hP : va_P (dC, dI) vwCl (wd_f4cd022e h0 v0 h1 v1 t12 (-1) v3 r0 r1 r2 r3 r4 r5 r6 v4 v5 r7 r8 r9 r10 v6 r11 r12 v7 v8 r13 r14 v9 v10 r15 v11 v12 r16 v13 w14 r17 v15 v16 r18 r19 r20 r21 r22 r23 v17 r24 r25 r26 v18 h1 g0 f19) H := hP2
          have hD : va_D A (wd_f4cd022e h0 v0 h1 v1 t12 (-1) v3 r0 r1 r2 r3 r4 r5 r6 v4 v5 r7 r8 r9 r10 v6 r11 r12 v7 v8 r13 r14 v9 v10 r15 v11 v12 r16 v13 w14 r17 v15 v16 r18 r19 r20 r21 r22 r23 v17 r24 r25 r26 v18 h1 g0 f19) := hD2
          clear hP2 hD2
          obtain rfl : ra13 = ((-1) : Int32) := pv_cs (by decide) pt0_ra13 pt1_ra13
          have hPc := hP.sub (ws' := []) [] rfl
          have hDc := hD.sub (ws' := []) [] (by decide) rfl
          have hKc := hK.sub (tys' := []) [] rfl
          have hFc := va_free (wc := []) hD hS hA [] rfl
          refine va_calli (va_runS (As := [.int (-1)]) (rest := []) ⟨hx, hb, hml, hown, hts⟩ (k_X12_isDigit l dC dI ((-1))  H.size) (va_cwS 1 hts g_X12_number_1 rfl rfl rfl (by decide +kernel) ⟨Nat.le_of_ble_eq_true rfl, Nat.le_of_ble_eq_true rfl⟩) (pv_PS hPc hKc hDc) rfl rfl hl.1 rfl (lv_room (Nat.le_of_ble_eq_true rfl)) dX12_number_38 ⟨Nat.le_of_ble_eq_true rfl, Nat.le_of_ble_eq_true rfl⟩) hS (fun q _ h => hFc q h) hFc (fun ra14 u t H1 locs ht hvm hwra14 hB hz1 hk1 hS => ?_)
          try rw [hwra14] at hB
          have hkra14_0 : (((-1) : Int32)).toInt = -1 := by decide
          obtain ⟨pt0_ra14, pt1_ra14, pt2_ra14, pt3_ra14, pt4_ra14, hP1, hK1, hD1⟩ := hB
          rw [ht] at hP1
          obtain ⟨hP2, hD2⟩ := va_join (wr := (wd_f4cd022e h0 v0 h1 v1 t12 (-1) v3 r0 r1 r2 r3 r4 r5 r6 v4 v5 r7 r8 r9 r10 v6 r11 r12 v7 v8 r13 r14 v9 v10 r15 v11 v12 r16 v13 w14 r17 v15 v16 r18 r19 r20 r21 r22 r23 v17 r24 r25 r26 v18 h1 g0 f19)) (w1 := []) hP hD [] [0, 1] rfl rfl (by decide) (by decide) hk1 hFc hP1 hD1
          clear hP hD hPc hDc hKc hFc hP1 hK1 hD1 hk1 hz1
          generalize H1 = H at hP2 hS ⊢
          have hP : va_P (dC, dI) vwCl (wd_f4cd022e h0 v0 h1 v1 t12 (-1) v3 r0 r1 r2 r3 r4 r5 r6 v4 v5 r7 r8 r9 r10 v6 r11 r12 v7 v8 r13 r14 v9 v10 r15 v11 v12 r16 v13 w14 r17 v15 v16 r18 r19 r20 r21 r22 r23 v17 r24 r25 r26 v18 h1 g0 f19) H := hP2
          have hD : va_D A (wd_f4cd022e h0 v0 h1 v1 t12 (-1) v3 r0 r1 r2 r3 r4 r5 r6 v4 v5 r7 r8 r9 r10 v6 r11 r12 v7 v8 r13 r14 v9 v10 r15 v11 v12 r16 v13 w14 r17 v15 v16 r18 r19 r20 r21 r22 r23 v17 r24 r25 r26 v18 h1 g0 f19) := hD2
          clear hP2 hD2
          refine lv_if_eq (tgt := 67) hx hb dX12_number_41 (by decide) (fun c15 => ?_) (fun c15 => ?_)
          · skip
            have fc15 : ra14.toInt = 0 := congrArg Int32.toInt c15
            refine lv_aload_n hx hb dX12_number_67 rfl (lv_at hl 1 rfl) ?_
            have hPc := hP.sub (ws' := (wd_f4cd022e h0 v0 h1 v1 t12 (-1) v3 r0 r1 r2 r3 r4 r5 r6 v4 v5 r7 r8 r9 r10 v6 r11 r12 v7 v8 r13 r14 v9 v10 r15 v11 v12 r16 v13 w14 r17 v15 v16 r18 r19 r20 r21 r22 r23 v17 r24 r25 r26 v18 h1 g0 f19)) [0, 1] rfl
            have hDc := hD.sub (ws' := (wd_f4cd022e h0 v0 h1 v1 t12 (-1) v3 r0 r1 r2 r3 r4 r5 r6 v4 v5 r7 r8 r9 r10 v6 r11 r12 v7 v8 r13 r14 v9 v10 r15 v11 v12 r16 v13 w14 r17 v15 v16 r18 r19 r20 r21 r22 r23 v17 r24 r25 r26 v18 h1 g0 f19)) [0, 1] (by decide) rfl
            have hKc := hK.sub (tys' := [(g0, .int)]) [0] rfl
            have hFc := va_free (wc := (wd_f4cd022e h0 v0 h1 v1 t12 (-1) v3 r0 r1 r2 r3 r4 r5 r6 v4 v5 r7 r8 r9 r10 v6 r11 r12 v7 v8 r13 r14 v9 v10 r15 v11 v12 r16 v13 w14 r17 v15 v16 r18 r19 r20 r21 r22 r23 v17 r24 r25 r26 v18 h1 g0 f19)) hD hS hA [0, 1] rfl
            refine va_calli (va_runV (As := []) (rest := []) ⟨hx, hb, hml, hown, hts⟩ (k_X12_here l dC dI h0 h1 v0 v1 t12 ((-1)) v3 r0 r1 r2 r3 r4 r5 r6 v4 v5 r7 r8 r9 r10 v6 r11 r12 v7 v8 r13 r14 v9 v10 r15 v11 v12 r16 v13 w14 r17 v15 v16 r18 r19 r20 r21 r22 r23 v17 r24 r25 r26 v18 g0 f19 ⟨i_v1a, i_v1b⟩ ⟨by first | omega | decide, by first | omega | decide⟩ ⟨i_v4a, i_v4b⟩ ⟨i_v5a, i_v5b⟩ ⟨i_v6a, i_v6b⟩ ⟨i_v7a, i_v7b⟩ ⟨i_v8a, i_v8b⟩ ⟨i_v9a, i_v9b⟩ ⟨i_v13a, i_v13b⟩ ⟨i_v17a, i_v17b⟩ ⟨i_v18a, i_v18b⟩ ia_f19 H.size) (cwV 0 hts g_X12_number_4 rfl rfl rfl (by decide +kernel) ⟨Nat.le_of_ble_eq_true rfl, Nat.le_of_ble_eq_true rfl⟩) (pv_PV12 hPc hKc hDc (q0 := 0) rfl) rfl rfl hl.1 rfl (lv_room (Nat.le_of_ble_eq_true rfl)) dX12_number_68 ⟨Nat.le_of_ble_eq_true rfl, Nat.le_of_ble_eq_true rfl⟩) hS (fun q _ h => hFc q h) hFc (fun ra16 u t H1 locs ht hvm hwra16 hB hz1 hk1 hS => ?_)
            try rw [hwra16] at hB
            have hkra16_0 : (((-1) : Int32)).toInt = -1 := by decide
            rcases hB with hB | hB
            · skip
              obtain ⟨pt0_ra16, pt1_ra16, pt2_ra16, pt3_ra16, hP1, hK1, hD1⟩ := hB
              rw [ht] at hP1
              obtain ⟨hP2, hD2⟩ := va_join (wr := []) (w1 := (wd_f4cd022e h0 v0 h1 v1 t12 (-1) v3 r0 r1 r2 r3 r4 r5 r6 v4 v5 r7 r8 r9 r10 v6 r11 r12 v7 v8 r13 r14 v9 v10 r15 v11 v12 r16 v13 w14 r17 v15 v16 r18 r19 r20 r21 r22 r23 v17 r24 r25 r26 v18 h1 g0 f19)) hP hD [0, 1] [] rfl rfl (by decide) (by decide) hk1 hFc hP1 hD1
              clear hP hD hPc hDc hKc hFc hP1 hK1 hD1 hk1 hz1
              generalize H1 = H at hP2 hS ⊢
              have hP : va_P (dC, dI) vwCl (wd_f4cd022e h0 v0 h1 v1 t12 (-1) v3 r0 r1 r2 r3 r4 r5 r6 v4 v5 r7 r8 r9 r10 v6 r11 r12 v7 v8 r13 r14 v9 v10 r15 v11 v12 r16 v13 w14 r17 v15 v16 r18 r19 r20 r21 r22 r23 v17 r24 r25 r26 v18 h1 g0 f19) H := hP2
              have hD : va_D A (wd_f4cd022e h0 v0 h1 v1 t12 (-1) v3 r0 r1 r2 r3 r4 r5 r6 v4 v5 r7 r8 r9 r10 v6 r11 r12 v7 v8 r13 r14 v9 v10 r15 v11 v12 r16 v13 w14 r17 v15 v16 r18 r19 r20 r21 r22 r23 v17 r24 r25 r26 v18 h1 g0 f19) := hD2
              clear hP2 hD2
              obtain rfl : ra16 = ((-1) : Int32) := pv_cs (by decide) pt0_ra16 pt1_ra16
              have hPc := hP.sub (ws' := []) [] rfl
              have hDc := hD.sub (ws' := []) [] (by decide) rfl
              have hKc := hK.sub (tys' := []) [] rfl
              have hFc := va_free (wc := []) hD hS hA [] rfl
              refine va_calli (va_runS (As := [.int (-1)]) (rest := []) ⟨hx, hb, hml, hown, hts⟩ (k_X12_isDigit l dC dI ((-1))  H.size) (va_cwS 1 hts g_X12_number_1 rfl rfl rfl (by decide +kernel) ⟨Nat.le_of_ble_eq_true rfl, Nat.le_of_ble_eq_true rfl⟩) (pv_PS hPc hKc hDc) rfl rfl hl.1 rfl (lv_room (Nat.le_of_ble_eq_true rfl)) dX12_number_71 ⟨Nat.le_of_ble_eq_true rfl, Nat.le_of_ble_eq_true rfl⟩) hS (fun q _ h => hFc q h) hFc (fun ra17 u t H1 locs ht hvm hwra17 hB hz1 hk1 hS => ?_)
              try rw [hwra17] at hB
              have hkra17_0 : (((-1) : Int32)).toInt = -1 := by decide
              obtain ⟨pt0_ra17, pt1_ra17, pt2_ra17, pt3_ra17, pt4_ra17, hP1, hK1, hD1⟩ := hB
              rw [ht] at hP1
              obtain ⟨hP2, hD2⟩ := va_join (wr := (wd_f4cd022e h0 v0 h1 v1 t12 (-1) v3 r0 r1 r2 r3 r4 r5 r6 v4 v5 r7 r8 r9 r10 v6 r11 r12 v7 v8 r13 r14 v9 v10 r15 v11 v12 r16 v13 w14 r17 v15 v16 r18 r19 r20 r21 r22 r23 v17 r24 r25 r26 v18 h1 g0 f19)) (w1 := []) hP hD [] [0, 1] rfl rfl (by decide) (by decide) hk1 hFc hP1 hD1
              clear hP hD hPc hDc hKc hFc hP1 hK1 hD1 hk1 hz1
              generalize H1 = H at hP2 hS ⊢
              have hP : va_P (dC, dI) vwCl (wd_f4cd022e h0 v0 h1 v1 t12 (-1) v3 r0 r1 r2 r3 r4 r5 r6 v4 v5 r7 r8 r9 r10 v6 r11 r12 v7 v8 r13 r14 v9 v10 r15 v11 v12 r16 v13 w14 r17 v15 v16 r18 r19 r20 r21 r22 r23 v17 r24 r25 r26 v18 h1 g0 f19) H := hP2
              have hD : va_D A (wd_f4cd022e h0 v0 h1 v1 t12 (-1) v3 r0 r1 r2 r3 r4 r5 r6 v4 v5 r7 r8 r9 r10 v6 r11 r12 v7 v8 r13 r14 v9 v10 r15 v11 v12 r16 v13 w14 r17 v15 v16 r18 r19 r20 r21 r22 r23 v17 r24 r25 r26 v18 h1 g0 f19) := hD2
              clear hP2 hD2
              refine lv_if_eq (tgt := 84) hx hb dX12_number_74 (by decide) (fun c18 => ?_) (fun c18 => ?_)
              · skip
                have fc18 : ra17.toInt = 0 := congrArg Int32.toInt c18
                refine lv_iload_n hx hb dX12_number_84 rfl (lv_at hl 0 rfl) ?_
                refine lv_iload_n hx hb dX12_number_85 rfl (lv_at hl 2 rfl) ?_
                refine lv_iload_n hx hb dX12_number_86 rfl (lv_at hl 3 rfl) ?_
                have hPc := hP.sub (ws' := []) [] rfl
                have hDc := hD.sub (ws' := []) [] (by decide) rfl
                have hKc := hK.sub (tys' := []) [] rfl
                have hFc := va_free (wc := []) hD hS hA [] rfl
                refine va_calli (va_runS (As := [.int t11, .int v20, .int v21]) (rest := []) ⟨hx, hb, hml, hown, hts⟩ (k_X12_in l dC dI t11 v20 v21  H.size) (va_cwS 3 hts g_X12_number_9 rfl rfl rfl (by decide +kernel) ⟨Nat.le_of_ble_eq_true rfl, Nat.le_of_ble_eq_true rfl⟩) (pv_PS hPc hKc hDc) rfl rfl hl.1 rfl (lv_room (Nat.le_of_ble_eq_true rfl)) dX12_number_87 ⟨Nat.le_of_ble_eq_true rfl, Nat.le_of_ble_eq_true rfl⟩) hS (fun q _ h => hFc q h) hFc (fun ra19 u t H1 locs ht hvm hwra19 hB hz1 hk1 hS => ?_)
                try rw [hwra19] at hB
                obtain ⟨pt0_ra19, pt1_ra19, pt2_ra19, pt3_ra19, pt4_ra19, hP1, hK1, hD1⟩ := hB
                rw [ht] at hP1
                obtain ⟨hP2, hD2⟩ := va_join (wr := (wd_f4cd022e h0 v0 h1 v1 t12 (-1) v3 r0 r1 r2 r3 r4 r5 r6 v4 v5 r7 r8 r9 r10 v6 r11 r12 v7 v8 r13 r14 v9 v10 r15 v11 v12 r16 v13 w14 r17 v15 v16 r18 r19 r20 r21 r22 r23 v17 r24 r25 r26 v18 h1 g0 f19)) (w1 := []) hP hD [] [0, 1] rfl rfl (by decide) (by decide) hk1 hFc hP1 hD1
                clear hP hD hPc hDc hKc hFc hP1 hK1 hD1 hk1 hz1
                generalize H1 = H at hP2 hS ⊢
                have hP : va_P (dC, dI) vwCl (wd_f4cd022e h0 v0 h1 v1 t12 (-1) v3 r0 r1 r2 r3 r4 r5 r6 v4 v5 r7 r8 r9 r10 v6 r11 r12 v7 v8 r13 r14 v9 v10 r15 v11 v12 r16 v13 w14 r17 v15 v16 r18 r19 r20 r21 r22 r23 v17 r24 r25 r26 v18 h1 g0 f19) H := hP2
                have hD : va_D A (wd_f4cd022e h0 v0 h1 v1 t12 (-1) v3 r0 r1 r2 r3 r4 r5 r6 v4 v5 r7 r8 r9 r10 v6 r11 r12 v7 v8 r13 r14 v9 v10 r15 v11 v12 r16 v13 w14 r17 v15 v16 r18 r19 r20 r21 r22 r23 v17 r24 r25 r26 v18 h1 g0 f19) := hD2
                clear hP2 hD2
                refine lv_if_ne (tgt := 107) hx hb dX12_number_90 (by decide) (fun c20 => ?_) (fun c20 => ?_)
                · skip
                  have fc20 : ¬ (ra19.toInt = 0) := fun h9 => c20 (Int32.toInt_inj.mp h9)
                  refine lv_iload_n hx hb dX12_number_107 rfl (lv_at hl 0 rfl) ?_
                  subst hQ
                  have hP9 := hP.sub (ws' := (wd_f4cd022e h0 v0 h1 v1 t12 (-1) v3 r0 r1 r2 r3 r4 r5 r6 v4 v5 r7 r8 r9 r10 v6 r11 r12 v7 v8 r13 r14 v9 v10 r15 v11 v12 r16 v13 w14 r17 v15 v16 r18 r19 r20 r21 r22 r23 v17 r24 r25 r26 v18 h1 g0 f19)) [0, 1] rfl
                  have hD9 := hD.sub (ws' := (wd_f4cd022e h0 v0 h1 v1 t12 (-1) v3 r0 r1 r2 r3 r4 r5 r6 v4 v5 r7 r8 r9 r10 v6 r11 r12 v7 v8 r13 r14 v9 v10 r15 v11 v12 r16 v13 w14 r17 v15 v16 r18 r19 r20 r21 r22 r23 v17 r24 r25 r26 v18 h1 g0 f19)) [0, 1] (by decide) rfl
                  have hK9 := hK.sub (tys' := []) [] rfl
                  exact W.iret (v := t11) hx hb hr (fun t ht hW => ⟨⟨t11, t11, rfl, rfl, Or.inl ⟨t12, by first | omega | decide, by first | omega | decide, by first | omega | decide, by first | omega | decide, by omega, by constructor <;> omega, by first | (apply pg_n2.none <;> first | assumption | omega) | (apply pg_n2.two <;> first | assumption | omega | (apply pg_nb.ok <;> first | assumption | omega) | (apply pg_nb.no <;> first | assumption | omega) | (apply pg_nb.three <;> first | assumption | omega)) | (apply pg_n2.one <;> first | assumption | omega | (apply pg_nb.ok <;> first | assumption | omega) | (apply pg_nb.no <;> first | assumption | omega) | (apply pg_nb.three <;> first | assumption | omega)), by rw [ht]; exact hP9, va_K.moved hW.alike hK9, hD9⟩⟩, hS.F ht⟩) hS.2.2 dX12_number_108
                · skip
                  have fc20 : ra19.toInt = 0 := congrArg Int32.toInt c20
                  refine lv_aload_n hx hb dX12_number_93 rfl (lv_at hl 1 rfl) ?_
                  refine lv_dup hx hb dX12_number_94 rfl ?_
                  refine va_get (D := (dC, dI)) (ci := 12) (v := .int t12) (C := RX12) (T := TX12) (N := 48) hx hb hts (fun _ h => List.mem_cons_of_mem _ (List.mem_append_right _ h)) hown hK hP 0 rfl rfl 3 (by decide) (hts (.fieldLink RX12 112 "LeftArgumentsModel" "at" "I") (List.mem_cons_of_mem _ (List.mem_append_left _ (List.mem_of_getElem? (i := 2) rfl)))) (fun _ h9 => h9) rfl dX12_number_95 ?_
                  refine lv_iconst (v := 1) hx hb dX12_number_98 (by decide) ?_
                  refine lv_isub hx hb dX12_number_99 ?_
                  refine lv_topi (fun t21 et21 => ?_)
                  have gt21 : t21.toInt = t12.toInt - 1 := pv_sub (a := t12.toInt) (b := 1) et21 rfl (by decide) (by omega) (by omega)
                  refine va_put (D := (dC, dI)) (ci := 12) (v := .int t21) (ty := .int) (C := RX12) (T := TX12) (N := 48) hx hb hts (fun _ h => List.mem_cons_of_mem _ (List.mem_append_right _ h)) tyX12 tyX12_ok nmX12 hown hK hP hD hS 0 rfl rfl 3 (by decide) (hts (.fieldLink RX12 112 "LeftArgumentsModel" "at" "I") (List.mem_cons_of_mem _ (List.mem_append_left _ (List.mem_of_getElem? (i := 2) rfl)))) (fun _ h9 => h9) rfl (by decide +kernel) rfl rfl (Nat.le_of_ble_eq_true rfl) dX12_number_100 (fun H locs hP hD hS => ?_)
                  have hP : va_P (dC, dI) vwCl (wd_f4cd022e h0 v0 h1 v1 t21 (-1) v3 r0 r1 r2 r3 r4 r5 r6 v4 v5 r7 r8 r9 r10 v6 r11 r12 v7 v8 r13 r14 v9 v10 r15 v11 v12 r16 v13 w14 r17 v15 v16 r18 r19 r20 r21 r22 r23 v17 r24 r25 r26 v18 h1 g0 f19) H := hP
                  have hD : va_D A (wd_f4cd022e h0 v0 h1 v1 t21 (-1) v3 r0 r1 r2 r3 r4 r5 r6 v4 v5 r7 r8 r9 r10 v6 r11 r12 v7 v8 r13 r14 v9 v10 r15 v11 v12 r16 v13 w14 r17 v15 v16 r18 r19 r20 r21 r22 r23 v17 r24 r25 r26 v18 h1 g0 f19) := hD
                  refine lv_aload_n hx hb dX12_number_103 rfl (lv_at hl 1 rfl) ?_
                  have hPc := hP.sub (ws' := (wd_171f232f h0 v0 h1 v1 t21 (-1) v3 r0 r1 r2 r3 r4 r5 r6 v4 v5 r7 r8 r9 r10 v6 r11 r12 v7 v8 r13 r14 v9 v10 r15 v11 v12 r16 v13 w14 r17 v15 v16 r18 r19 r20 r21 r22 r23 v17 r24 r25 r26 v18)) [0] rfl
                  have hDc := hD.sub (ws' := (wd_171f232f h0 v0 h1 v1 t21 (-1) v3 r0 r1 r2 r3 r4 r5 r6 v4 v5 r7 r8 r9 r10 v6 r11 r12 v7 v8 r13 r14 v9 v10 r15 v11 v12 r16 v13 w14 r17 v15 v16 r18 r19 r20 r21 r22 r23 v17 r24 r25 r26 v18)) [0] (by decide) rfl
                  have hKc := hK.sub (tys' := []) [] rfl
                  have hFc := va_free (wc := (wd_171f232f h0 v0 h1 v1 t21 (-1) v3 r0 r1 r2 r3 r4 r5 r6 v4 v5 r7 r8 r9 r10 v6 r11 r12 v7 v8 r13 r14 v9 v10 r15 v11 v12 r16 v13 w14 r17 v15 v16 r18 r19 r20 r21 r22 r23 v17 r24 r25 r26 v18)) hD hS hA [0] rfl
                  refine va_callv (va_runV (As := []) (rest := []) ⟨hx, hb, hml, hown, hts⟩ (k_X12_bad l dC dI h0 v0 h1 v1 t21 v3 r0 r1 r2 r3 r4 r5 r6 v4 v5 r7 r8 r9 r10 v6 r11 r12 v7 v8 r13 r14 v9 v10 r15 v11 v12 r16 v13 w14 r17 v15 v16 r18 r19 r20 r21 r22 r23 v17 r24 r25 r26 v18 ⟨i_v1a, i_v1b⟩ ⟨by first | omega | decide, by first | omega | decide⟩ ⟨i_v4a, i_v4b⟩ ⟨i_v5a, i_v5b⟩ ⟨i_v6a, i_v6b⟩ ⟨i_v7a, i_v7b⟩ ⟨i_v8a, i_v8b⟩ ⟨i_v9a, i_v9b⟩ ⟨i_v13a, i_v13b⟩ ⟨i_v17a, i_v17b⟩ ⟨i_v18a, i_v18b⟩ H.size) (cwV 0 hts g_X12_number_2 rfl rfl rfl (by decide +kernel) ⟨Nat.le_of_ble_eq_true rfl, Nat.le_of_ble_eq_true rfl⟩) (pv_PV12 hPc hKc hDc (q0 := 0) rfl) rfl rfl hl.1 rfl (lv_room (Nat.le_of_ble_eq_true rfl)) dX12_number_104 ⟨Nat.le_of_ble_eq_true rfl, Nat.le_of_ble_eq_true rfl⟩) hS (fun q _ h => hFc q h) hFc (fun u t H1 locs ht hvm hwra22 hB hz1 hk1 hS => ?_)
                  obtain ⟨x23, oa_x23, ob_x23, pt0_ra22, hP1, hK1, hD1⟩ := hB
                  rw [ht] at hP1
                  obtain ⟨hP2, hD2⟩ := va_join (wr := (wd_d0032b31 h1 g0 f19)) (w1 := (wd_171f232f h0 v0 h1 v1 t21 x23 v3 r0 r1 r2 r3 r4 r5 r6 v4 v5 r7 r8 r9 r10 v6 r11 r12 v7 v8 r13 r14 v9 v10 r15 v11 v12 r16 v13 w14 r17 v15 v16 r18 r19 r20 r21 r22 r23 v17 r24 r25 r26 v18)) hP hD [0] [1] rfl rfl (by decide) (by decide) hk1 hFc hP1 hD1
                  clear hP hD hPc hDc hKc hFc hP1 hK1 hD1 hk1 hz1
                  generalize H1 = H at hP2 hS ⊢
                  have hP := hP2.sub (ws' := (wd_f4cd022e h0 v0 h1 v1 t21 x23 v3 r0 r1 r2 r3 r4 r5 r6 v4 v5 r7 r8 r9 r10 v6 r11 r12 v7 v8 r13 r14 v9 v10 r15 v11 v12 r16 v13 w14 r17 v15 v16 r18 r19 r20 r21 r22 r23 v17 r24 r25 r26 v18 h1 g0 f19)) [1, 0] rfl
                  have hD := hD2.sub (ws' := (wd_f4cd022e h0 v0 h1 v1 t21 x23 v3 r0 r1 r2 r3 r4 r5 r6 v4 v5 r7 r8 r9 r10 v6 r11 r12 v7 v8 r13 r14 v9 v10 r15 v11 v12 r16 v13 w14 r17 v15 v16 r18 r19 r20 r21 r22 r23 v17 r24 r25 r26 v18 h1 g0 f19)) [1, 0] (by decide) rfl
                  clear hP2 hD2
                  refine lv_iload_n hx hb dX12_number_107 rfl (lv_at hl 0 rfl) ?_
                  subst hQ
                  have hP9 := hP.sub (ws' := (wd_f4cd022e h0 v0 h1 v1 t21 x23 v3 r0 r1 r2 r3 r4 r5 r6 v4 v5 r7 r8 r9 r10 v6 r11 r12 v7 v8 r13 r14 v9 v10 r15 v11 v12 r16 v13 w14 r17 v15 v16 r18 r19 r20 r21 r22 r23 v17 r24 r25 r26 v18 h1 g0 f19)) [0, 1] rfl
                  have hD9 := hD.sub (ws' := (wd_f4cd022e h0 v0 h1 v1 t21 x23 v3 r0 r1 r2 r3 r4 r5 r6 v4 v5 r7 r8 r9 r10 v6 r11 r12 v7 v8 r13 r14 v9 v10 r15 v11 v12 r16 v13 w14 r17 v15 v16 r18 r19 r20 r21 r22 r23 v17 r24 r25 r26 v18 h1 g0 f19)) [0, 1] (by decide) rfl
                  have hK9 := hK.sub (tys' := []) [] rfl
                  exact W.iret (v := t11) hx hb hr (fun t ht hW => ⟨⟨t11, t11, rfl, rfl, Or.inr (⟨t21, x23, by first | omega | decide, by first | omega | decide, oa_x23, ob_x23, by omega, by first | (apply pg_n2.none <;> first | assumption | omega) | (apply pg_n2.two <;> first | assumption | omega | (apply pg_nb.ok <;> first | assumption | omega) | (apply pg_nb.no <;> first | assumption | omega) | (apply pg_nb.three <;> first | assumption | omega)) | (apply pg_n2.one <;> first | assumption | omega | (apply pg_nb.ok <;> first | assumption | omega) | (apply pg_nb.no <;> first | assumption | omega) | (apply pg_nb.three <;> first | assumption | omega)), by rw [ht]; exact hP9, va_K.moved hW.alike hK9, hD9⟩)⟩, hS.F ht⟩) hS.2.2 dX12_number_108
              · skip
                have fc18 : ¬ (ra17.toInt = 0) := fun h9 => c18 (Int32.toInt_inj.mp h9)
                exfalso; omega
            · skip
              obtain ⟨pt0_ra16, pt1_ra16, pt2_ra16, pt3_ra16, pt4_ra16, hP1, hK1, hD1⟩ := hB
              rw [ht] at hP1
              obtain ⟨hP2, hD2⟩ := va_join (wr := []) (w1 := (wd_f4cd022e h0 v0 h1 v1 t12 (-1) v3 r0 r1 r2 r3 r4 r5 r6 v4 v5 r7 r8 r9 r10 v6 r11 r12 v7 v8 r13 r14 v9 v10 r15 v11 v12 r16 v13 w14 r17 v15 v16 r18 r19 r20 r21 r22 r23 v17 r24 r25 r26 v18 h1 g0 f19)) hP hD [0, 1] [] rfl rfl (by decide) (by decide) hk1 hFc hP1 hD1
              clear hP hD hPc hDc hKc hFc hP1 hK1 hD1 hk1 hz1
              generalize H1 = H at hP2 hS ⊢
              have hP : va_P (dC, dI) vwCl (wd_f4cd022e h0 v0 h1 v1 t12 (-1) v3 r0 r1 r2 r3 r4 r5 r6 v4 v5 r7 r8 r9 r10 v6 r11 r12 v7 v8 r13 r14 v9 v10 r15 v11 v12 r16 v13 w14 r17 v15 v16 r18 r19 r20 r21 r22 r23 v17 r24 r25 r26 v18 h1 g0 f19) H := hP2
              have hD : va_D A (wd_f4cd022e h0 v0 h1 v1 t12 (-1) v3 r0 r1 r2 r3 r4 r5 r6 v4 v5 r7 r8 r9 r10 v6 r11 r12 v7 v8 r13 r14 v9 v10 r15 v11 v12 r16 v13 w14 r17 v15 v16 r18 r19 r20 r21 r22 r23 v17 r24 r25 r26 v18 h1 g0 f19) := hD2
              clear hP2 hD2
              exfalso; omega
          · skip
            have fc15 : ¬ (ra14.toInt = 0) := fun h9 => c15 (Int32.toInt_inj.mp h9)
            exfalso; omega
        · skip
          obtain ⟨pt0_ra13, pt1_ra13, pt2_ra13, pt3_ra13, pt4_ra13, hP1, hK1, hD1⟩ := hB
          rw [ht] at hP1
          obtain ⟨hP2, hD2⟩ := va_join (wr := []) (w1 := (wd_f4cd022e h0 v0 h1 v1 t12 (-1) v3 r0 r1 r2 r3 r4 r5 r6 v4 v5 r7 r8 r9 r10 v6 r11 r12 v7 v8 r13 r14 v9 v10 r15 v11 v12 r16 v13 w14 r17 v15 v16 r18 r19 r20 r21 r22 r23 v17 r24 r25 r26 v18 h1 g0 f19)) hP hD [0, 1] [] rfl rfl (by decide) (by decide) hk1 hFc hP1 hD1
          clear hP hD hPc hDc hKc hFc hP1 hK1 hD1 hk1 hz1
          generalize H1 = H at hP2 hS ⊢
          have hP : va_P (dC, dI) vwCl (wd_f4cd022e h0 v0 h1 v1 t12 (-1) v3 r0 r1 r2 r3 r4 r5 r6 v4 v5 r7 r8 r9 r10 v6 r11 r12 v7 v8 r13 r14 v9 v10 r15 v11 v12 r16 v13 w14 r17 v15 v16 r18 r19 r20 r21 r22 r23 v17 r24 r25 r26 v18 h1 g0 f19) H := hP2
          have hD : va_D A (wd_f4cd022e h0 v0 h1 v1 t12 (-1) v3 r0 r1 r2 r3 r4 r5 r6 v4 v5 r7 r8 r9 r10 v6 r11 r12 v7 v8 r13 r14 v9 v10 r15 v11 v12 r16 v13 w14 r17 v15 v16 r18 r19 r20 r21 r22 r23 v17 r24 r25 r26 v18 h1 g0 f19) := hD2
          clear hP2 hD2
          have hPc := hP.sub (ws' := []) [] rfl
          have hDc := hD.sub (ws' := []) [] (by decide) rfl
          have hKc := hK.sub (tys' := []) [] rfl
          have hFc := va_free (wc := []) hD hS hA [] rfl
          refine va_calli (va_runS (As := [.int ra13]) (rest := []) ⟨hx, hb, hml, hown, hts⟩ (k_X12_isDigit l dC dI ra13  H.size) (va_cwS 1 hts g_X12_number_1 rfl rfl rfl (by decide +kernel) ⟨Nat.le_of_ble_eq_true rfl, Nat.le_of_ble_eq_true rfl⟩) (pv_PS hPc hKc hDc) rfl rfl hl.1 rfl (lv_room (Nat.le_of_ble_eq_true rfl)) dX12_number_38 ⟨Nat.le_of_ble_eq_true rfl, Nat.le_of_ble_eq_true rfl⟩) hS (fun q _ h => hFc q h) hFc (fun ra24 u t H1 locs ht hvm hwra24 hB hz1 hk1 hS => ?_)
          try rw [hwra24] at hB
          obtain ⟨pt0_ra24, pt1_ra24, pt2_ra24, pt3_ra24, pt4_ra24, hP1, hK1, hD1⟩ := hB
          rw [ht] at hP1
          obtain ⟨hP2, hD2⟩ := va_join (wr := (wd_f4cd022e h0 v0 h1 v1 t12 (-1) v3 r0 r1 r2 r3 r4 r5 r6 v4 v5 r7 r8 r9 r10 v6 r11 r12 v7 v8 r13 r14 v9 v10 r15 v11 v12 r16 v13 w14 r17 v15 v16 r18 r19 r20 r21 r22 r23 v17 r24 r25 r26 v18 h1 g0 f19)) (w1 := []) hP hD [] [0, 1] rfl rfl (by decide) (by decide) hk1 hFc hP1 hD1
          clear hP hD hPc hDc hKc hFc hP1 hK1 hD1 hk1 hz1
          generalize H1 = H at hP2 hS ⊢
          have hP : va_P (dC, dI) vwCl (wd_f4cd022e h0 v0 h1 v1 t12 (-1) v3 r0 r1 r2 r3 r4 r5 r6 v4 v5 r7 r8 r9 r10 v6 r11 r12 v7 v8 r13 r14 v9 v10 r15 v11 v12 r16 v13 w14 r17 v15 v16 r18 r19 r20 r21 r22 r23 v17 r24 r25 r26 v18 h1 g0 f19) H := hP2
          have hD : va_D A (wd_f4cd022e h0 v0 h1 v1 t12 (-1) v3 r0 r1 r2 r3 r4 r5 r6 v4 v5 r7 r8 r9 r10 v6 r11 r12 v7 v8 r13 r14 v9 v10 r15 v11 v12 r16 v13 w14 r17 v15 v16 r18 r19 r20 r21 r22 r23 v17 r24 r25 r26 v18 h1 g0 f19) := hD2
          clear hP2 hD2
          refine lv_if_eq (tgt := 67) hx hb dX12_number_41 (by decide) (fun c25 => ?_) (fun c25 => ?_)
          · skip
            have fc25 : ra24.toInt = 0 := congrArg Int32.toInt c25
            refine lv_aload_n hx hb dX12_number_67 rfl (lv_at hl 1 rfl) ?_
            have hPc := hP.sub (ws' := (wd_f4cd022e h0 v0 h1 v1 t12 (-1) v3 r0 r1 r2 r3 r4 r5 r6 v4 v5 r7 r8 r9 r10 v6 r11 r12 v7 v8 r13 r14 v9 v10 r15 v11 v12 r16 v13 w14 r17 v15 v16 r18 r19 r20 r21 r22 r23 v17 r24 r25 r26 v18 h1 g0 f19)) [0, 1] rfl
            have hDc := hD.sub (ws' := (wd_f4cd022e h0 v0 h1 v1 t12 (-1) v3 r0 r1 r2 r3 r4 r5 r6 v4 v5 r7 r8 r9 r10 v6 r11 r12 v7 v8 r13 r14 v9 v10 r15 v11 v12 r16 v13 w14 r17 v15 v16 r18 r19 r20 r21 r22 r23 v17 r24 r25 r26 v18 h1 g0 f19)) [0, 1] (by decide) rfl
            have hKc := hK.sub (tys' := [(g0, .int)]) [0] rfl
            have hFc := va_free (wc := (wd_f4cd022e h0 v0 h1 v1 t12 (-1) v3 r0 r1 r2 r3 r4 r5 r6 v4 v5 r7 r8 r9 r10 v6 r11 r12 v7 v8 r13 r14 v9 v10 r15 v11 v12 r16 v13 w14 r17 v15 v16 r18 r19 r20 r21 r22 r23 v17 r24 r25 r26 v18 h1 g0 f19)) hD hS hA [0, 1] rfl
            refine va_calli (va_runV (As := []) (rest := []) ⟨hx, hb, hml, hown, hts⟩ (k_X12_here l dC dI h0 h1 v0 v1 t12 ((-1)) v3 r0 r1 r2 r3 r4 r5 r6 v4 v5 r7 r8 r9 r10 v6 r11 r12 v7 v8 r13 r14 v9 v10 r15 v11 v12 r16 v13 w14 r17 v15 v16 r18 r19 r20 r21 r22 r23 v17 r24 r25 r26 v18 g0 f19 ⟨i_v1a, i_v1b⟩ ⟨by first | omega | decide, by first | omega | decide⟩ ⟨i_v4a, i_v4b⟩ ⟨i_v5a, i_v5b⟩ ⟨i_v6a, i_v6b⟩ ⟨i_v7a, i_v7b⟩ ⟨i_v8a, i_v8b⟩ ⟨i_v9a, i_v9b⟩ ⟨i_v13a, i_v13b⟩ ⟨i_v17a, i_v17b⟩ ⟨i_v18a, i_v18b⟩ ia_f19 H.size) (cwV 0 hts g_X12_number_4 rfl rfl rfl (by decide +kernel) ⟨Nat.le_of_ble_eq_true rfl, Nat.le_of_ble_eq_true rfl⟩) (pv_PV12 hPc hKc hDc (q0 := 0) rfl) rfl rfl hl.1 rfl (lv_room (Nat.le_of_ble_eq_true rfl)) dX12_number_68 ⟨Nat.le_of_ble_eq_true rfl, Nat.le_of_ble_eq_true rfl⟩) hS (fun q _ h => hFc q h) hFc (fun ra26 u t H1 locs ht hvm hwra26 hB hz1 hk1 hS => ?_)
            try rw [hwra26] at hB
            have hkra26_0 : (((-1) : Int32)).toInt = -1 := by decide
            rcases hB with hB | hB
            · skip
              obtain ⟨pt0_ra26, pt1_ra26, pt2_ra26, pt3_ra26, hP1, hK1, hD1⟩ := hB
              rw [ht] at hP1
              obtain ⟨hP2, hD2⟩ := va_join (wr := []) (w1 := (wd_f4cd022e h0 v0 h1 v1 t12 (-1) v3 r0 r1 r2 r3 r4 r5 r6 v4 v5 r7 r8 r9 r10 v6 r11 r12 v7 v8 r13 r14 v9 v10 r15 v11 v12 r16 v13 w14 r17 v15 v16 r18 r19 r20 r21 r22 r23 v17 r24 r25 r26 v18 h1 g0 f19)) hP hD [0, 1] [] rfl rfl (by decide) (by decide) hk1 hFc hP1 hD1
              clear hP hD hPc hDc hKc hFc hP1 hK1 hD1 hk1 hz1
              generalize H1 = H at hP2 hS ⊢
              have hP : va_P (dC, dI) vwCl (wd_f4cd022e h0 v0 h1 v1 t12 (-1) v3 r0 r1 r2 r3 r4 r5 r6 v4 v5 r7 r8 r9 r10 v6 r11 r12 v7 v8 r13 r14 v9 v10 r15 v11 v12 r16 v13 w14 r17 v15 v16 r18 r19 r20 r21 r22 r23 v17 r24 r25 r26 v18 h1 g0 f19) H := hP2
              have hD : va_D A (wd_f4cd022e h0 v0 h1 v1 t12 (-1) v3 r0 r1 r2 r3 r4 r5 r6 v4 v5 r7 r8 r9 r10 v6 r11 r12 v7 v8 r13 r14 v9 v10 r15 v11 v12 r16 v13 w14 r17 v15 v16 r18 r19 r20 r21 r22 r23 v17 r24 r25 r26 v18 h1 g0 f19) := hD2
              clear hP2 hD2
              obtain rfl : ra26 = ((-1) : Int32) := pv_cs (by decide) pt0_ra26 pt1_ra26
              exfalso; omega
            · skip
              obtain ⟨pt0_ra26, pt1_ra26, pt2_ra26, pt3_ra26, pt4_ra26, hP1, hK1, hD1⟩ := hB
              rw [ht] at hP1
              obtain ⟨hP2, hD2⟩ := va_join (wr := []) (w1 := (wd_f4cd022e h0 v0 h1 v1 t12 (-1) v3 r0 r1 r2 r3 r4 r5 r6 v4 v5 r7 r8 r9 r10 v6 r11 r12 v7 v8 r13 r14 v9 v10 r15 v11 v12 r16 v13 w14 r17 v15 v16 r18 r19 r20 r21 r22 r23 v17 r24 r25 r26 v18 h1 g0 f19)) hP hD [0, 1] [] rfl rfl (by decide) (by decide) hk1 hFc hP1 hD1
              clear hP hD hPc hDc hKc hFc hP1 hK1 hD1 hk1 hz1
              generalize H1 = H at hP2 hS ⊢
              have hP : va_P (dC, dI) vwCl (wd_f4cd022e h0 v0 h1 v1 t12 (-1) v3 r0 r1 r2 r3 r4 r5 r6 v4 v5 r7 r8 r9 r10 v6 r11 r12 v7 v8 r13 r14 v9 v10 r15 v11 v12 r16 v13 w14 r17 v15 v16 r18 r19 r20 r21 r22 r23 v17 r24 r25 r26 v18 h1 g0 f19) H := hP2
              have hD : va_D A (wd_f4cd022e h0 v0 h1 v1 t12 (-1) v3 r0 r1 r2 r3 r4 r5 r6 v4 v5 r7 r8 r9 r10 v6 r11 r12 v7 v8 r13 r14 v9 v10 r15 v11 v12 r16 v13 w14 r17 v15 v16 r18 r19 r20 r21 r22 r23 v17 r24 r25 r26 v18 h1 g0 f19) := hD2
              clear hP2 hD2
              have hPc := hP.sub (ws' := []) [] rfl
              have hDc := hD.sub (ws' := []) [] (by decide) rfl
              have hKc := hK.sub (tys' := []) [] rfl
              have hFc := va_free (wc := []) hD hS hA [] rfl
              refine va_calli (va_runS (As := [.int ra26]) (rest := []) ⟨hx, hb, hml, hown, hts⟩ (k_X12_isDigit l dC dI ra26  H.size) (va_cwS 1 hts g_X12_number_1 rfl rfl rfl (by decide +kernel) ⟨Nat.le_of_ble_eq_true rfl, Nat.le_of_ble_eq_true rfl⟩) (pv_PS hPc hKc hDc) rfl rfl hl.1 rfl (lv_room (Nat.le_of_ble_eq_true rfl)) dX12_number_71 ⟨Nat.le_of_ble_eq_true rfl, Nat.le_of_ble_eq_true rfl⟩) hS (fun q _ h => hFc q h) hFc (fun ra27 u t H1 locs ht hvm hwra27 hB hz1 hk1 hS => ?_)
              try rw [hwra27] at hB
              obtain ⟨pt0_ra27, pt1_ra27, pt2_ra27, pt3_ra27, pt4_ra27, hP1, hK1, hD1⟩ := hB
              rw [ht] at hP1
              obtain ⟨hP2, hD2⟩ := va_join (wr := (wd_f4cd022e h0 v0 h1 v1 t12 (-1) v3 r0 r1 r2 r3 r4 r5 r6 v4 v5 r7 r8 r9 r10 v6 r11 r12 v7 v8 r13 r14 v9 v10 r15 v11 v12 r16 v13 w14 r17 v15 v16 r18 r19 r20 r21 r22 r23 v17 r24 r25 r26 v18 h1 g0 f19)) (w1 := []) hP hD [] [0, 1] rfl rfl (by decide) (by decide) hk1 hFc hP1 hD1
              clear hP hD hPc hDc hKc hFc hP1 hK1 hD1 hk1 hz1
              generalize H1 = H at hP2 hS ⊢
              have hP : va_P (dC, dI) vwCl (wd_f4cd022e h0 v0 h1 v1 t12 (-1) v3 r0 r1 r2 r3 r4 r5 r6 v4 v5 r7 r8 r9 r10 v6 r11 r12 v7 v8 r13 r14 v9 v10 r15 v11 v12 r16 v13 w14 r17 v15 v16 r18 r19 r20 r21 r22 r23 v17 r24 r25 r26 v18 h1 g0 f19) H := hP2
              have hD : va_D A (wd_f4cd022e h0 v0 h1 v1 t12 (-1) v3 r0 r1 r2 r3 r4 r5 r6 v4 v5 r7 r8 r9 r10 v6 r11 r12 v7 v8 r13 r14 v9 v10 r15 v11 v12 r16 v13 w14 r17 v15 v16 r18 r19 r20 r21 r22 r23 v17 r24 r25 r26 v18 h1 g0 f19) := hD2
              clear hP2 hD2
              refine lv_if_eq (tgt := 84) hx hb dX12_number_74 (by decide) (fun c28 => ?_) (fun c28 => ?_)
              · skip
                have fc28 : ra27.toInt = 0 := congrArg Int32.toInt c28
                refine lv_iload_n hx hb dX12_number_84 rfl (lv_at hl 0 rfl) ?_
                refine lv_iload_n hx hb dX12_number_85 rfl (lv_at hl 2 rfl) ?_
                refine lv_iload_n hx hb dX12_number_86 rfl (lv_at hl 3 rfl) ?_
                have hPc := hP.sub (ws' := []) [] rfl
                have hDc := hD.sub (ws' := []) [] (by decide) rfl
                have hKc := hK.sub (tys' := []) [] rfl
                have hFc := va_free (wc := []) hD hS hA [] rfl
                refine va_calli (va_runS (As := [.int t11, .int v20, .int v21]) (rest := []) ⟨hx, hb, hml, hown, hts⟩ (k_X12_in l dC dI t11 v20 v21  H.size) (va_cwS 3 hts g_X12_number_9 rfl rfl rfl (by decide +kernel) ⟨Nat.le_of_ble_eq_true rfl, Nat.le_of_ble_eq_true rfl⟩) (pv_PS hPc hKc hDc) rfl rfl hl.1 rfl (lv_room (Nat.le_of_ble_eq_true rfl)) dX12_number_87 ⟨Nat.le_of_ble_eq_true rfl, Nat.le_of_ble_eq_true rfl⟩) hS (fun q _ h => hFc q h) hFc (fun ra29 u t H1 locs ht hvm hwra29 hB hz1 hk1 hS => ?_)
                try rw [hwra29] at hB
                obtain ⟨pt0_ra29, pt1_ra29, pt2_ra29, pt3_ra29, pt4_ra29, hP1, hK1, hD1⟩ := hB
                rw [ht] at hP1
                obtain ⟨hP2, hD2⟩ := va_join (wr := (wd_f4cd022e h0 v0 h1 v1 t12 (-1) v3 r0 r1 r2 r3 r4 r5 r6 v4 v5 r7 r8 r9 r10 v6 r11 r12 v7 v8 r13 r14 v9 v10 r15 v11 v12 r16 v13 w14 r17 v15 v16 r18 r19 r20 r21 r22 r23 v17 r24 r25 r26 v18 h1 g0 f19)) (w1 := []) hP hD [] [0, 1] rfl rfl (by decide) (by decide) hk1 hFc hP1 hD1
                clear hP hD hPc hDc hKc hFc hP1 hK1 hD1 hk1 hz1
                generalize H1 = H at hP2 hS ⊢
                have hP : va_P (dC, dI) vwCl (wd_f4cd022e h0 v0 h1 v1 t12 (-1) v3 r0 r1 r2 r3 r4 r5 r6 v4 v5 r7 r8 r9 r10 v6 r11 r12 v7 v8 r13 r14 v9 v10 r15 v11 v12 r16 v13 w14 r17 v15 v16 r18 r19 r20 r21 r22 r23 v17 r24 r25 r26 v18 h1 g0 f19) H := hP2
                have hD : va_D A (wd_f4cd022e h0 v0 h1 v1 t12 (-1) v3 r0 r1 r2 r3 r4 r5 r6 v4 v5 r7 r8 r9 r10 v6 r11 r12 v7 v8 r13 r14 v9 v10 r15 v11 v12 r16 v13 w14 r17 v15 v16 r18 r19 r20 r21 r22 r23 v17 r24 r25 r26 v18 h1 g0 f19) := hD2
                clear hP2 hD2
                refine lv_if_ne (tgt := 107) hx hb dX12_number_90 (by decide) (fun c30 => ?_) (fun c30 => ?_)
                · skip
                  have fc30 : ¬ (ra29.toInt = 0) := fun h9 => c30 (Int32.toInt_inj.mp h9)
                  refine lv_iload_n hx hb dX12_number_107 rfl (lv_at hl 0 rfl) ?_
                  subst hQ
                  have hP9 := hP.sub (ws' := (wd_f4cd022e h0 v0 h1 v1 t12 (-1) v3 r0 r1 r2 r3 r4 r5 r6 v4 v5 r7 r8 r9 r10 v6 r11 r12 v7 v8 r13 r14 v9 v10 r15 v11 v12 r16 v13 w14 r17 v15 v16 r18 r19 r20 r21 r22 r23 v17 r24 r25 r26 v18 h1 g0 f19)) [0, 1] rfl
                  have hD9 := hD.sub (ws' := (wd_f4cd022e h0 v0 h1 v1 t12 (-1) v3 r0 r1 r2 r3 r4 r5 r6 v4 v5 r7 r8 r9 r10 v6 r11 r12 v7 v8 r13 r14 v9 v10 r15 v11 v12 r16 v13 w14 r17 v15 v16 r18 r19 r20 r21 r22 r23 v17 r24 r25 r26 v18 h1 g0 f19)) [0, 1] (by decide) rfl
                  have hK9 := hK.sub (tys' := []) [] rfl
                  exact W.iret (v := t11) hx hb hr (fun t ht hW => ⟨⟨t11, t11, rfl, rfl, Or.inl ⟨t12, by first | omega | decide, by first | omega | decide, by first | omega | decide, by first | omega | decide, by omega, by constructor <;> omega, by first | (apply pg_n2.none <;> first | assumption | omega) | (apply pg_n2.two <;> first | assumption | omega | (apply pg_nb.ok <;> first | assumption | omega) | (apply pg_nb.no <;> first | assumption | omega) | (apply pg_nb.three <;> first | assumption | omega)) | (apply pg_n2.one <;> first | assumption | omega | (apply pg_nb.ok <;> first | assumption | omega) | (apply pg_nb.no <;> first | assumption | omega) | (apply pg_nb.three <;> first | assumption | omega)), by rw [ht]; exact hP9, va_K.moved hW.alike hK9, hD9⟩⟩, hS.F ht⟩) hS.2.2 dX12_number_108
                · skip
                  have fc30 : ra29.toInt = 0 := congrArg Int32.toInt c30
                  refine lv_aload_n hx hb dX12_number_93 rfl (lv_at hl 1 rfl) ?_
                  refine lv_dup hx hb dX12_number_94 rfl ?_
                  refine va_get (D := (dC, dI)) (ci := 12) (v := .int t12) (C := RX12) (T := TX12) (N := 48) hx hb hts (fun _ h => List.mem_cons_of_mem _ (List.mem_append_right _ h)) hown hK hP 0 rfl rfl 3 (by decide) (hts (.fieldLink RX12 112 "LeftArgumentsModel" "at" "I") (List.mem_cons_of_mem _ (List.mem_append_left _ (List.mem_of_getElem? (i := 2) rfl)))) (fun _ h9 => h9) rfl dX12_number_95 ?_
                  refine lv_iconst (v := 1) hx hb dX12_number_98 (by decide) ?_
                  refine lv_isub hx hb dX12_number_99 ?_
                  refine lv_topi (fun t31 et31 => ?_)
                  have gt31 : t31.toInt = t12.toInt - 1 := pv_sub (a := t12.toInt) (b := 1) et31 rfl (by decide) (by omega) (by omega)
                  refine va_put (D := (dC, dI)) (ci := 12) (v := .int t31) (ty := .int) (C := RX12) (T := TX12) (N := 48) hx hb hts (fun _ h => List.mem_cons_of_mem _ (List.mem_append_right _ h)) tyX12 tyX12_ok nmX12 hown hK hP hD hS 0 rfl rfl 3 (by decide) (hts (.fieldLink RX12 112 "LeftArgumentsModel" "at" "I") (List.mem_cons_of_mem _ (List.mem_append_left _ (List.mem_of_getElem? (i := 2) rfl)))) (fun _ h9 => h9) rfl (by decide +kernel) rfl rfl (Nat.le_of_ble_eq_true rfl) dX12_number_100 (fun H locs hP hD hS => ?_)
                  have hP : va_P (dC, dI) vwCl (wd_f4cd022e h0 v0 h1 v1 t31 (-1) v3 r0 r1 r2 r3 r4 r5 r6 v4 v5 r7 r8 r9 r10 v6 r11 r12 v7 v8 r13 r14 v9 v10 r15 v11 v12 r16 v13 w14 r17 v15 v16 r18 r19 r20 r21 r22 r23 v17 r24 r25 r26 v18 h1 g0 f19) H := hP
                  have hD : va_D A (wd_f4cd022e h0 v0 h1 v1 t31 (-1) v3 r0 r1 r2 r3 r4 r5 r6 v4 v5 r7 r8 r9 r10 v6 r11 r12 v7 v8 r13 r14 v9 v10 r15 v11 v12 r16 v13 w14 r17 v15 v16 r18 r19 r20 r21 r22 r23 v17 r24 r25 r26 v18 h1 g0 f19) := hD
                  refine lv_aload_n hx hb dX12_number_103 rfl (lv_at hl 1 rfl) ?_
                  have hPc := hP.sub (ws' := (wd_171f232f h0 v0 h1 v1 t31 (-1) v3 r0 r1 r2 r3 r4 r5 r6 v4 v5 r7 r8 r9 r10 v6 r11 r12 v7 v8 r13 r14 v9 v10 r15 v11 v12 r16 v13 w14 r17 v15 v16 r18 r19 r20 r21 r22 r23 v17 r24 r25 r26 v18)) [0] rfl
                  have hDc := hD.sub (ws' := (wd_171f232f h0 v0 h1 v1 t31 (-1) v3 r0 r1 r2 r3 r4 r5 r6 v4 v5 r7 r8 r9 r10 v6 r11 r12 v7 v8 r13 r14 v9 v10 r15 v11 v12 r16 v13 w14 r17 v15 v16 r18 r19 r20 r21 r22 r23 v17 r24 r25 r26 v18)) [0] (by decide) rfl
                  have hKc := hK.sub (tys' := []) [] rfl
                  have hFc := va_free (wc := (wd_171f232f h0 v0 h1 v1 t31 (-1) v3 r0 r1 r2 r3 r4 r5 r6 v4 v5 r7 r8 r9 r10 v6 r11 r12 v7 v8 r13 r14 v9 v10 r15 v11 v12 r16 v13 w14 r17 v15 v16 r18 r19 r20 r21 r22 r23 v17 r24 r25 r26 v18)) hD hS hA [0] rfl
                  refine va_callv (va_runV (As := []) (rest := []) ⟨hx, hb, hml, hown, hts⟩ (k_X12_bad l dC dI h0 v0 h1 v1 t31 v3 r0 r1 r2 r3 r4 r5 r6 v4 v5 r7 r8 r9 r10 v6 r11 r12 v7 v8 r13 r14 v9 v10 r15 v11 v12 r16 v13 w14 r17 v15 v16 r18 r19 r20 r21 r22 r23 v17 r24 r25 r26 v18 ⟨i_v1a, i_v1b⟩ ⟨by first | omega | decide, by first | omega | decide⟩ ⟨i_v4a, i_v4b⟩ ⟨i_v5a, i_v5b⟩ ⟨i_v6a, i_v6b⟩ ⟨i_v7a, i_v7b⟩ ⟨i_v8a, i_v8b⟩ ⟨i_v9a, i_v9b⟩ ⟨i_v13a, i_v13b⟩ ⟨i_v17a, i_v17b⟩ ⟨i_v18a, i_v18b⟩ H.size) (cwV 0 hts g_X12_number_2 rfl rfl rfl (by decide +kernel) ⟨Nat.le_of_ble_eq_true rfl, Nat.le_of_ble_eq_true rfl⟩) (pv_PV12 hPc hKc hDc (q0 := 0) rfl) rfl rfl hl.1 rfl (lv_room (Nat.le_of_ble_eq_true rfl)) dX12_number_104 ⟨Nat.le_of_ble_eq_true rfl, Nat.le_of_ble_eq_true rfl⟩) hS (fun q _ h => hFc q h) hFc (fun u t H1 locs ht hvm hwra32 hB hz1 hk1 hS => ?_)
                  obtain ⟨x33, oa_x33, ob_x33, pt0_ra32, hP1, hK1, hD1⟩ := hB
                  rw [ht] at hP1
                  obtain ⟨hP2, hD2⟩ := va_join (wr := (wd_d0032b31 h1 g0 f19)) (w1 := (wd_171f232f h0 v0 h1 v1 t31 x33 v3 r0 r1 r2 r3 r4 r5 r6 v4 v5 r7 r8 r9 r10 v6 r11 r12 v7 v8 r13 r14 v9 v10 r15 v11 v12 r16 v13 w14 r17 v15 v16 r18 r19 r20 r21 r22 r23 v17 r24 r25 r26 v18)) hP hD [0] [1] rfl rfl (by decide) (by decide) hk1 hFc hP1 hD1
                  clear hP hD hPc hDc hKc hFc hP1 hK1 hD1 hk1 hz1
                  generalize H1 = H at hP2 hS ⊢
                  have hP := hP2.sub (ws' := (wd_f4cd022e h0 v0 h1 v1 t31 x33 v3 r0 r1 r2 r3 r4 r5 r6 v4 v5 r7 r8 r9 r10 v6 r11 r12 v7 v8 r13 r14 v9 v10 r15 v11 v12 r16 v13 w14 r17 v15 v16 r18 r19 r20 r21 r22 r23 v17 r24 r25 r26 v18 h1 g0 f19)) [1, 0] rfl
                  have hD := hD2.sub (ws' := (wd_f4cd022e h0 v0 h1 v1 t31 x33 v3 r0 r1 r2 r3 r4 r5 r6 v4 v5 r7 r8 r9 r10 v6 r11 r12 v7 v8 r13 r14 v9 v10 r15 v11 v12 r16 v13 w14 r17 v15 v16 r18 r19 r20 r21 r22 r23 v17 r24 r25 r26 v18 h1 g0 f19)) [1, 0] (by decide) rfl
                  clear hP2 hD2
                  refine lv_iload_n hx hb dX12_number_107 rfl (lv_at hl 0 rfl) ?_
                  subst hQ
                  have hP9 := hP.sub (ws' := (wd_f4cd022e h0 v0 h1 v1 t31 x33 v3 r0 r1 r2 r3 r4 r5 r6 v4 v5 r7 r8 r9 r10 v6 r11 r12 v7 v8 r13 r14 v9 v10 r15 v11 v12 r16 v13 w14 r17 v15 v16 r18 r19 r20 r21 r22 r23 v17 r24 r25 r26 v18 h1 g0 f19)) [0, 1] rfl
                  have hD9 := hD.sub (ws' := (wd_f4cd022e h0 v0 h1 v1 t31 x33 v3 r0 r1 r2 r3 r4 r5 r6 v4 v5 r7 r8 r9 r10 v6 r11 r12 v7 v8 r13 r14 v9 v10 r15 v11 v12 r16 v13 w14 r17 v15 v16 r18 r19 r20 r21 r22 r23 v17 r24 r25 r26 v18 h1 g0 f19)) [0, 1] (by decide) rfl
                  have hK9 := hK.sub (tys' := []) [] rfl
                  exact W.iret (v := t11) hx hb hr (fun t ht hW => ⟨⟨t11, t11, rfl, rfl, Or.inr (⟨t31, x33, by first | omega | decide, by first | omega | decide, oa_x33, ob_x33, by omega, by first | (apply pg_n2.none <;> first | assumption | omega) | (apply pg_n2.two <;> first | assumption | omega | (apply pg_nb.ok <;> first | assumption | omega) | (apply pg_nb.no <;> first | assumption | omega) | (apply pg_nb.three <;> first | assumption | omega)) | (apply pg_n2.one <;> first | assumption | omega | (apply pg_nb.ok <;> first | assumption | omega) | (apply pg_nb.no <;> first | assumption | omega) | (apply pg_nb.three <;> first | assumption | omega)), by rw [ht]; exact hP9, va_K.moved hW.alike hK9, hD9⟩)⟩, hS.F ht⟩) hS.2.2 dX12_number_108
              · skip
                have fc28 : ¬ (ra27.toInt = 0) := fun h9 => c28 (Int32.toInt_inj.mp h9)
                refine lv_aload_n hx hb dX12_number_77 rfl (lv_at hl 1 rfl) ?_
                have hPc := hP.sub (ws' := (wd_171f232f h0 v0 h1 v1 t12 (-1) v3 r0 r1 r2 r3 r4 r5 r6 v4 v5 r7 r8 r9 r10 v6 r11 r12 v7 v8 r13 r14 v9 v10 r15 v11 v12 r16 v13 w14 r17 v15 v16 r18 r19 r20 r21 r22 r23 v17 r24 r25 r26 v18)) [0] rfl
                have hDc := hD.sub (ws' := (wd_171f232f h0 v0 h1 v1 t12 (-1) v3 r0 r1 r2 r3 r4 r5 r6 v4 v5 r7 r8 r9 r10 v6 r11 r12 v7 v8 r13 r14 v9 v10 r15 v11 v12 r16 v13 w14 r17 v15 v16 r18 r19 r20 r21 r22 r23 v17 r24 r25 r26 v18)) [0] (by decide) rfl
                have hKc := hK.sub (tys' := []) [] rfl
                have hFc := va_free (wc := (wd_171f232f h0 v0 h1 v1 t12 (-1) v3 r0 r1 r2 r3 r4 r5 r6 v4 v5 r7 r8 r9 r10 v6 r11 r12 v7 v8 r13 r14 v9 v10 r15 v11 v12 r16 v13 w14 r17 v15 v16 r18 r19 r20 r21 r22 r23 v17 r24 r25 r26 v18)) hD hS hA [0] rfl
                refine va_callv (va_runV (As := []) (rest := []) ⟨hx, hb, hml, hown, hts⟩ (k_X12_bad l dC dI h0 v0 h1 v1 t12 v3 r0 r1 r2 r3 r4 r5 r6 v4 v5 r7 r8 r9 r10 v6 r11 r12 v7 v8 r13 r14 v9 v10 r15 v11 v12 r16 v13 w14 r17 v15 v16 r18 r19 r20 r21 r22 r23 v17 r24 r25 r26 v18 ⟨i_v1a, i_v1b⟩ ⟨by first | omega | decide, by first | omega | decide⟩ ⟨i_v4a, i_v4b⟩ ⟨i_v5a, i_v5b⟩ ⟨i_v6a, i_v6b⟩ ⟨i_v7a, i_v7b⟩ ⟨i_v8a, i_v8b⟩ ⟨i_v9a, i_v9b⟩ ⟨i_v13a, i_v13b⟩ ⟨i_v17a, i_v17b⟩ ⟨i_v18a, i_v18b⟩ H.size) (cwV 0 hts g_X12_number_2 rfl rfl rfl (by decide +kernel) ⟨Nat.le_of_ble_eq_true rfl, Nat.le_of_ble_eq_true rfl⟩) (pv_PV12 hPc hKc hDc (q0 := 0) rfl) rfl rfl hl.1 rfl (lv_room (Nat.le_of_ble_eq_true rfl)) dX12_number_78 ⟨Nat.le_of_ble_eq_true rfl, Nat.le_of_ble_eq_true rfl⟩) hS (fun q _ h => hFc q h) hFc (fun u t H1 locs ht hvm hwra34 hB hz1 hk1 hS => ?_)
                obtain ⟨x35, oa_x35, ob_x35, pt0_ra34, hP1, hK1, hD1⟩ := hB
                rw [ht] at hP1
                obtain ⟨hP2, hD2⟩ := va_join (wr := (wd_d0032b31 h1 g0 f19)) (w1 := (wd_171f232f h0 v0 h1 v1 t12 x35 v3 r0 r1 r2 r3 r4 r5 r6 v4 v5 r7 r8 r9 r10 v6 r11 r12 v7 v8 r13 r14 v9 v10 r15 v11 v12 r16 v13 w14 r17 v15 v16 r18 r19 r20 r21 r22 r23 v17 r24 r25 r26 v18)) hP hD [0] [1] rfl rfl (by decide) (by decide) hk1 hFc hP1 hD1
                clear hP hD hPc hDc hKc hFc hP1 hK1 hD1 hk1 hz1
                generalize H1 = H at hP2 hS ⊢
                have hP := hP2.sub (ws' := (wd_f4cd022e h0 v0 h1 v1 t12 x35 v3 r0 r1 r2 r3 r4 r5 r6 v4 v5 r7 r8 r9 r10 v6 r11 r12 v7 v8 r13 r14 v9 v10 r15 v11 v12 r16 v13 w14 r17 v15 v16 r18 r19 r20 r21 r22 r23 v17 r24 r25 r26 v18 h1 g0 f19)) [1, 0] rfl
                have hD := hD2.sub (ws' := (wd_f4cd022e h0 v0 h1 v1 t12 x35 v3 r0 r1 r2 r3 r4 r5 r6 v4 v5 r7 r8 r9 r10 v6 r11 r12 v7 v8 r13 r14 v9 v10 r15 v11 v12 r16 v13 w14 r17 v15 v16 r18 r19 r20 r21 r22 r23 v17 r24 r25 r26 v18 h1 g0 f19)) [1, 0] (by decide) rfl
                clear hP2 hD2
                refine lv_goto (tgt := 107) hx hb dX12_number_81 (by decide) ?_
                refine lv_iload_n hx hb dX12_number_107 rfl (lv_at hl 0 rfl) ?_
                subst hQ
                have hP9 := hP.sub (ws' := (wd_f4cd022e h0 v0 h1 v1 t12 x35 v3 r0 r1 r2 r3 r4 r5 r6 v4 v5 r7 r8 r9 r10 v6 r11 r12 v7 v8 r13 r14 v9 v10 r15 v11 v12 r16 v13 w14 r17 v15 v16 r18 r19 r20 r21 r22 r23 v17 r24 r25 r26 v18 h1 g0 f19)) [0, 1] rfl
                have hD9 := hD.sub (ws' := (wd_f4cd022e h0 v0 h1 v1 t12 x35 v3 r0 r1 r2 r3 r4 r5 r6 v4 v5 r7 r8 r9 r10 v6 r11 r12 v7 v8 r13 r14 v9 v10 r15 v11 v12 r16 v13 w14 r17 v15 v16 r18 r19 r20 r21 r22 r23 v17 r24 r25 r26 v18 h1 g0 f19)) [0, 1] (by decide) rfl
                have hK9 := hK.sub (tys' := []) [] rfl
                exact W.iret (v := t11) hx hb hr (fun t ht hW => ⟨⟨t11, t11, rfl, rfl, Or.inr (⟨t12, x35, by first | omega | decide, by first | omega | decide, oa_x35, ob_x35, by omega, by first | (apply pg_n2.none <;> first | assumption | omega) | (apply pg_n2.two <;> first | assumption | omega | (apply pg_nb.ok <;> first | assumption | omega) | (apply pg_nb.no <;> first | assumption | omega) | (apply pg_nb.three <;> first | assumption | omega)) | (apply pg_n2.one <;> first | assumption | omega | (apply pg_nb.ok <;> first | assumption | omega) | (apply pg_nb.no <;> first | assumption | omega) | (apply pg_nb.three <;> first | assumption | omega)), by rw [ht]; exact hP9, va_K.moved hW.alike hK9, hD9⟩)⟩, hS.F ht⟩) hS.2.2 dX12_number_108
          · skip
            have fc25 : ¬ (ra24.toInt = 0) := fun h9 => c25 (Int32.toInt_inj.mp h9)
            refine lv_bipush (v := 10) hx hb dX12_number_44 (by decide) ?_
            refine lv_iload_n hx hb dX12_number_46 rfl (lv_at hl 0 rfl) ?_
            refine lv_imul hx hb dX12_number_47 ?_
            refine lv_topi (fun t36 et36 => ?_)
            have gt36 : t36.toInt = 10 * t11.toInt := pv_mul (a := 10) (b := t11.toInt) et36 (by decide) rfl (by omega) (by omega)
            refine lv_aload_n hx hb dX12_number_48 rfl (lv_at hl 1 rfl) ?_
            have hPc := hP.sub (ws' := (wd_f4cd022e h0 v0 h1 v1 t12 (-1) v3 r0 r1 r2 r3 r4 r5 r6 v4 v5 r7 r8 r9 r10 v6 r11 r12 v7 v8 r13 r14 v9 v10 r15 v11 v12 r16 v13 w14 r17 v15 v16 r18 r19 r20 r21 r22 r23 v17 r24 r25 r26 v18 h1 g0 f19)) [0, 1] rfl
            have hDc := hD.sub (ws' := (wd_f4cd022e h0 v0 h1 v1 t12 (-1) v3 r0 r1 r2 r3 r4 r5 r6 v4 v5 r7 r8 r9 r10 v6 r11 r12 v7 v8 r13 r14 v9 v10 r15 v11 v12 r16 v13 w14 r17 v15 v16 r18 r19 r20 r21 r22 r23 v17 r24 r25 r26 v18 h1 g0 f19)) [0, 1] (by decide) rfl
            have hKc := hK.sub (tys' := [(g0, .int)]) [0] rfl
            have hFc := va_free (wc := (wd_f4cd022e h0 v0 h1 v1 t12 (-1) v3 r0 r1 r2 r3 r4 r5 r6 v4 v5 r7 r8 r9 r10 v6 r11 r12 v7 v8 r13 r14 v9 v10 r15 v11 v12 r16 v13 w14 r17 v15 v16 r18 r19 r20 r21 r22 r23 v17 r24 r25 r26 v18 h1 g0 f19)) hD hS hA [0, 1] rfl
            refine va_calli (va_runV (As := []) (rest := [.int t36]) ⟨hx, hb, hml, hown, hts⟩ (k_X12_here l dC dI h0 h1 v0 v1 t12 ((-1)) v3 r0 r1 r2 r3 r4 r5 r6 v4 v5 r7 r8 r9 r10 v6 r11 r12 v7 v8 r13 r14 v9 v10 r15 v11 v12 r16 v13 w14 r17 v15 v16 r18 r19 r20 r21 r22 r23 v17 r24 r25 r26 v18 g0 f19 ⟨i_v1a, i_v1b⟩ ⟨by first | omega | decide, by first | omega | decide⟩ ⟨i_v4a, i_v4b⟩ ⟨i_v5a, i_v5b⟩ ⟨i_v6a, i_v6b⟩ ⟨i_v7a, i_v7b⟩ ⟨i_v8a, i_v8b⟩ ⟨i_v9a, i_v9b⟩ ⟨i_v13a, i_v13b⟩ ⟨i_v17a, i_v17b⟩ ⟨i_v18a, i_v18b⟩ ia_f19 H.size) (cwV 0 hts g_X12_number_4 rfl rfl rfl (by decide +kernel) ⟨Nat.le_of_ble_eq_true rfl, Nat.le_of_ble_eq_true rfl⟩) (pv_PV12 hPc hKc hDc (q0 := 0) rfl) rfl rfl hl.1 rfl (lv_room (Nat.le_of_ble_eq_true rfl)) dX12_number_49 ⟨Nat.le_of_ble_eq_true rfl, Nat.le_of_ble_eq_true rfl⟩) hS (fun q _ h => hFc q h) hFc (fun ra37 u t H1 locs ht hvm hwra37 hB hz1 hk1 hS => ?_)
            try rw [hwra37] at hB
            have hkra37_0 : (((-1) : Int32)).toInt = -1 := by decide
            rcases hB with hB | hB
            · skip
              obtain ⟨pt0_ra37, pt1_ra37, pt2_ra37, pt3_ra37, hP1, hK1, hD1⟩ := hB
              rw [ht] at hP1
              obtain ⟨hP2, hD2⟩ := va_join (wr := []) (w1 := (wd_f4cd022e h0 v0 h1 v1 t12 (-1) v3 r0 r1 r2 r3 r4 r5 r6 v4 v5 r7 r8 r9 r10 v6 r11 r12 v7 v8 r13 r14 v9 v10 r15 v11 v12 r16 v13 w14 r17 v15 v16 r18 r19 r20 r21 r22 r23 v17 r24 r25 r26 v18 h1 g0 f19)) hP hD [0, 1] [] rfl rfl (by decide) (by decide) hk1 hFc hP1 hD1
              clear hP hD hPc hDc hKc hFc hP1 hK1 hD1 hk1 hz1
              generalize H1 = H at hP2 hS ⊢
              have hP : va_P (dC, dI) vwCl (wd_f4cd022e h0 v0 h1 v1 t12 (-1) v3 r0 r1 r2 r3 r4 r5 r6 v4 v5 r7 r8 r9 r10 v6 r11 r12 v7 v8 r13 r14 v9 v10 r15 v11 v12 r16 v13 w14 r17 v15 v16 r18 r19 r20 r21 r22 r23 v17 r24 r25 r26 v18 h1 g0 f19) H := hP2
              have hD : va_D A (wd_f4cd022e h0 v0 h1 v1 t12 (-1) v3 r0 r1 r2 r3 r4 r5 r6 v4 v5 r7 r8 r9 r10 v6 r11 r12 v7 v8 r13 r14 v9 v10 r15 v11 v12 r16 v13 w14 r17 v15 v16 r18 r19 r20 r21 r22 r23 v17 r24 r25 r26 v18 h1 g0 f19) := hD2
              clear hP2 hD2
              obtain rfl : ra37 = ((-1) : Int32) := pv_cs (by decide) pt0_ra37 pt1_ra37
              exfalso; omega
            · skip
              obtain ⟨pt0_ra37, pt1_ra37, pt2_ra37, pt3_ra37, pt4_ra37, hP1, hK1, hD1⟩ := hB
              rw [ht] at hP1
              obtain ⟨hP2, hD2⟩ := va_join (wr := []) (w1 := (wd_f4cd022e h0 v0 h1 v1 t12 (-1) v3 r0 r1 r2 r3 r4 r5 r6 v4 v5 r7 r8 r9 r10 v6 r11 r12 v7 v8 r13 r14 v9 v10 r15 v11 v12 r16 v13 w14 r17 v15 v16 r18 r19 r20 r21 r22 r23 v17 r24 r25 r26 v18 h1 g0 f19)) hP hD [0, 1] [] rfl rfl (by decide) (by decide) hk1 hFc hP1 hD1
              clear hP hD hPc hDc hKc hFc hP1 hK1 hD1 hk1 hz1
              generalize H1 = H at hP2 hS ⊢
              have hP : va_P (dC, dI) vwCl (wd_f4cd022e h0 v0 h1 v1 t12 (-1) v3 r0 r1 r2 r3 r4 r5 r6 v4 v5 r7 r8 r9 r10 v6 r11 r12 v7 v8 r13 r14 v9 v10 r15 v11 v12 r16 v13 w14 r17 v15 v16 r18 r19 r20 r21 r22 r23 v17 r24 r25 r26 v18 h1 g0 f19) H := hP2
              have hD : va_D A (wd_f4cd022e h0 v0 h1 v1 t12 (-1) v3 r0 r1 r2 r3 r4 r5 r6 v4 v5 r7 r8 r9 r10 v6 r11 r12 v7 v8 r13 r14 v9 v10 r15 v11 v12 r16 v13 w14 r17 v15 v16 r18 r19 r20 r21 r22 r23 v17 r24 r25 r26 v18 h1 g0 f19) := hD2
              clear hP2 hD2
              refine lv_iadd hx hb dX12_number_52 ?_
              refine lv_topi (fun t38 et38 => ?_)
              have gt38 : t38.toInt = t36.toInt + ra37.toInt := pv_add (a := t36.toInt) (b := ra37.toInt) et38 rfl rfl (by omega) (by omega)
              refine lv_bipush (v := 48) hx hb dX12_number_53 (by decide) ?_
              refine lv_isub hx hb dX12_number_55 ?_
              refine lv_topi (fun t39 et39 => ?_)
              have gt39 : t39.toInt = t38.toInt - 48 := pv_sub (a := t38.toInt) (b := 48) et39 rfl (by decide) (by omega) (by omega)
              refine lv_istore_n (lv' := [(3, .int t39), (0, .ref h0), (1, .int v20), (2, .int v21)]) hx hb dX12_number_56 rfl hl (by decide) rfl (fun ls hl => ?_)
              refine lv_aload_n hx hb dX12_number_57 rfl (lv_at hl 1 rfl) ?_
              refine lv_dup hx hb dX12_number_58 rfl ?_
              refine va_get (D := (dC, dI)) (ci := 12) (v := .int t12) (C := RX12) (T := TX12) (N := 48) hx hb hts (fun _ h => List.mem_cons_of_mem _ (List.mem_append_right _ h)) hown hK hP 0 rfl rfl 3 (by decide) (hts (.fieldLink RX12 112 "LeftArgumentsModel" "at" "I") (List.mem_cons_of_mem _ (List.mem_append_left _ (List.mem_of_getElem? (i := 2) rfl)))) (fun _ h9 => h9) rfl dX12_number_59 ?_
              refine lv_iconst (v := 1) hx hb dX12_number_62 (by decide) ?_
              refine lv_iadd hx hb dX12_number_63 ?_
              refine lv_topi (fun t40 et40 => ?_)
              have gt40 : t40.toInt = t12.toInt + 1 := pv_add (a := t12.toInt) (b := 1) et40 rfl (by decide) (by omega) (by omega)
              refine va_put (D := (dC, dI)) (ci := 12) (v := .int t40) (ty := .int) (C := RX12) (T := TX12) (N := 48) hx hb hts (fun _ h => List.mem_cons_of_mem _ (List.mem_append_right _ h)) tyX12 tyX12_ok nmX12 hown hK hP hD hS 0 rfl rfl 3 (by decide) (hts (.fieldLink RX12 112 "LeftArgumentsModel" "at" "I") (List.mem_cons_of_mem _ (List.mem_append_left _ (List.mem_of_getElem? (i := 2) rfl)))) (fun _ h9 => h9) rfl (by decide +kernel) rfl rfl (Nat.le_of_ble_eq_true rfl) dX12_number_64 (fun H locs hP hD hS => ?_)
              have hP : va_P (dC, dI) vwCl (wd_f4cd022e h0 v0 h1 v1 t40 (-1) v3 r0 r1 r2 r3 r4 r5 r6 v4 v5 r7 r8 r9 r10 v6 r11 r12 v7 v8 r13 r14 v9 v10 r15 v11 v12 r16 v13 w14 r17 v15 v16 r18 r19 r20 r21 r22 r23 v17 r24 r25 r26 v18 h1 g0 f19) H := hP
              have hD : va_D A (wd_f4cd022e h0 v0 h1 v1 t40 (-1) v3 r0 r1 r2 r3 r4 r5 r6 v4 v5 r7 r8 r9 r10 v6 r11 r12 v7 v8 r13 r14 v9 v10 r15 v11 v12 r16 v13 w14 r17 v15 v16 r18 r19 r20 r21 r22 r23 v17 r24 r25 r26 v18 h1 g0 f19) := hD
              refine lv_aload_n hx hb dX12_number_67 rfl (lv_at hl 1 rfl) ?_
              have hPc := hP.sub (ws' := (wd_f4cd022e h0 v0 h1 v1 t40 (-1) v3 r0 r1 r2 r3 r4 r5 r6 v4 v5 r7 r8 r9 r10 v6 r11 r12 v7 v8 r13 r14 v9 v10 r15 v11 v12 r16 v13 w14 r17 v15 v16 r18 r19 r20 r21 r22 r23 v17 r24 r25 r26 v18 h1 g0 f19)) [0, 1] rfl
              have hDc := hD.sub (ws' := (wd_f4cd022e h0 v0 h1 v1 t40 (-1) v3 r0 r1 r2 r3 r4 r5 r6 v4 v5 r7 r8 r9 r10 v6 r11 r12 v7 v8 r13 r14 v9 v10 r15 v11 v12 r16 v13 w14 r17 v15 v16 r18 r19 r20 r21 r22 r23 v17 r24 r25 r26 v18 h1 g0 f19)) [0, 1] (by decide) rfl
              have hKc := hK.sub (tys' := [(g0, .int)]) [0] rfl
              have hFc := va_free (wc := (wd_f4cd022e h0 v0 h1 v1 t40 (-1) v3 r0 r1 r2 r3 r4 r5 r6 v4 v5 r7 r8 r9 r10 v6 r11 r12 v7 v8 r13 r14 v9 v10 r15 v11 v12 r16 v13 w14 r17 v15 v16 r18 r19 r20 r21 r22 r23 v17 r24 r25 r26 v18 h1 g0 f19)) hD hS hA [0, 1] rfl
              refine va_calli (va_runV (As := []) (rest := []) ⟨hx, hb, hml, hown, hts⟩ (k_X12_here l dC dI h0 h1 v0 v1 t40 ((-1)) v3 r0 r1 r2 r3 r4 r5 r6 v4 v5 r7 r8 r9 r10 v6 r11 r12 v7 v8 r13 r14 v9 v10 r15 v11 v12 r16 v13 w14 r17 v15 v16 r18 r19 r20 r21 r22 r23 v17 r24 r25 r26 v18 g0 f19 ⟨i_v1a, i_v1b⟩ ⟨by first | omega | decide, by first | omega | decide⟩ ⟨i_v4a, i_v4b⟩ ⟨i_v5a, i_v5b⟩ ⟨i_v6a, i_v6b⟩ ⟨i_v7a, i_v7b⟩ ⟨i_v8a, i_v8b⟩ ⟨i_v9a, i_v9b⟩ ⟨i_v13a, i_v13b⟩ ⟨i_v17a, i_v17b⟩ ⟨i_v18a, i_v18b⟩ ia_f19 H.size) (cwV 0 hts g_X12_number_4 rfl rfl rfl (by decide +kernel) ⟨Nat.le_of_ble_eq_true rfl, Nat.le_of_ble_eq_true rfl⟩) (pv_PV12 hPc hKc hDc (q0 := 0) rfl) rfl rfl hl.1 rfl (lv_room (Nat.le_of_ble_eq_true rfl)) dX12_number_68 ⟨Nat.le_of_ble_eq_true rfl, Nat.le_of_ble_eq_true rfl⟩) hS (fun q _ h => hFc q h) hFc (fun ra41 u t H1 locs ht hvm hwra41 hB hz1 hk1 hS => ?_)
              try rw [hwra41] at hB
              have hkra41_0 : (((-1) : Int32)).toInt = -1 := by decide
              rcases hB with hB | hB
              · skip
                obtain ⟨pt0_ra41, pt1_ra41, pt2_ra41, pt3_ra41, hP1, hK1, hD1⟩ := hB
                rw [ht] at hP1
                obtain ⟨hP2, hD2⟩ := va_join (wr := []) (w1 := (wd_f4cd022e h0 v0 h1 v1 t40 (-1) v3 r0 r1 r2 r3 r4 r5 r6 v4 v5 r7 r8 r9 r10 v6 r11 r12 v7 v8 r13 r14 v9 v10 r15 v11 v12 r16 v13 w14 r17 v15 v16 r18 r19 r20 r21 r22 r23 v17 r24 r25 r26 v18 h1 g0 f19)) hP hD [0, 1] [] rfl rfl (by decide) (by decide) hk1 hFc hP1 hD1
                clear hP hD hPc hDc hKc hFc hP1 hK1 hD1 hk1 hz1
                generalize H1 = H at hP2 hS ⊢
                have hP : va_P (dC, dI) vwCl (wd_f4cd022e h0 v0 h1 v1 t40 (-1) v3 r0 r1 r2 r3 r4 r5 r6 v4 v5 r7 r8 r9 r10 v6 r11 r12 v7 v8 r13 r14 v9 v10 r15 v11 v12 r16 v13 w14 r17 v15 v16 r18 r19 r20 r21 r22 r23 v17 r24 r25 r26 v18 h1 g0 f19) H := hP2
                have hD : va_D A (wd_f4cd022e h0 v0 h1 v1 t40 (-1) v3 r0 r1 r2 r3 r4 r5 r6 v4 v5 r7 r8 r9 r10 v6 r11 r12 v7 v8 r13 r14 v9 v10 r15 v11 v12 r16 v13 w14 r17 v15 v16 r18 r19 r20 r21 r22 r23 v17 r24 r25 r26 v18 h1 g0 f19) := hD2
                clear hP2 hD2
                obtain rfl : ra41 = ((-1) : Int32) := pv_cs (by decide) pt0_ra41 pt1_ra41
                have hPc := hP.sub (ws' := []) [] rfl
                have hDc := hD.sub (ws' := []) [] (by decide) rfl
                have hKc := hK.sub (tys' := []) [] rfl
                have hFc := va_free (wc := []) hD hS hA [] rfl
                refine va_calli (va_runS (As := [.int (-1)]) (rest := []) ⟨hx, hb, hml, hown, hts⟩ (k_X12_isDigit l dC dI ((-1))  H.size) (va_cwS 1 hts g_X12_number_1 rfl rfl rfl (by decide +kernel) ⟨Nat.le_of_ble_eq_true rfl, Nat.le_of_ble_eq_true rfl⟩) (pv_PS hPc hKc hDc) rfl rfl hl.1 rfl (lv_room (Nat.le_of_ble_eq_true rfl)) dX12_number_71 ⟨Nat.le_of_ble_eq_true rfl, Nat.le_of_ble_eq_true rfl⟩) hS (fun q _ h => hFc q h) hFc (fun ra42 u t H1 locs ht hvm hwra42 hB hz1 hk1 hS => ?_)
                try rw [hwra42] at hB
                have hkra42_0 : (((-1) : Int32)).toInt = -1 := by decide
                obtain ⟨pt0_ra42, pt1_ra42, pt2_ra42, pt3_ra42, pt4_ra42, hP1, hK1, hD1⟩ := hB
                rw [ht] at hP1
                obtain ⟨hP2, hD2⟩ := va_join (wr := (wd_f4cd022e h0 v0 h1 v1 t40 (-1) v3 r0 r1 r2 r3 r4 r5 r6 v4 v5 r7 r8 r9 r10 v6 r11 r12 v7 v8 r13 r14 v9 v10 r15 v11 v12 r16 v13 w14 r17 v15 v16 r18 r19 r20 r21 r22 r23 v17 r24 r25 r26 v18 h1 g0 f19)) (w1 := []) hP hD [] [0, 1] rfl rfl (by decide) (by decide) hk1 hFc hP1 hD1
                clear hP hD hPc hDc hKc hFc hP1 hK1 hD1 hk1 hz1
                generalize H1 = H at hP2 hS ⊢
                have hP : va_P (dC, dI) vwCl (wd_f4cd022e h0 v0 h1 v1 t40 (-1) v3 r0 r1 r2 r3 r4 r5 r6 v4 v5 r7 r8 r9 r10 v6 r11 r12 v7 v8 r13 r14 v9 v10 r15 v11 v12 r16 v13 w14 r17 v15 v16 r18 r19 r20 r21 r22 r23 v17 r24 r25 r26 v18 h1 g0 f19) H := hP2
                have hD : va_D A (wd_f4cd022e h0 v0 h1 v1 t40 (-1) v3 r0 r1 r2 r3 r4 r5 r6 v4 v5 r7 r8 r9 r10 v6 r11 r12 v7 v8 r13 r14 v9 v10 r15 v11 v12 r16 v13 w14 r17 v15 v16 r18 r19 r20 r21 r22 r23 v17 r24 r25 r26 v18 h1 g0 f19) := hD2
                clear hP2 hD2
                refine lv_if_eq (tgt := 84) hx hb dX12_number_74 (by decide) (fun c43 => ?_) (fun c43 => ?_)
                · skip
                  have fc43 : ra42.toInt = 0 := congrArg Int32.toInt c43
                  refine lv_iload_n hx hb dX12_number_84 rfl (lv_at hl 0 rfl) ?_
                  refine lv_iload_n hx hb dX12_number_85 rfl (lv_at hl 2 rfl) ?_
                  refine lv_iload_n hx hb dX12_number_86 rfl (lv_at hl 3 rfl) ?_
                  have hPc := hP.sub (ws' := []) [] rfl
                  have hDc := hD.sub (ws' := []) [] (by decide) rfl
                  have hKc := hK.sub (tys' := []) [] rfl
                  have hFc := va_free (wc := []) hD hS hA [] rfl
                  refine va_calli (va_runS (As := [.int t39, .int v20, .int v21]) (rest := []) ⟨hx, hb, hml, hown, hts⟩ (k_X12_in l dC dI t39 v20 v21  H.size) (va_cwS 3 hts g_X12_number_9 rfl rfl rfl (by decide +kernel) ⟨Nat.le_of_ble_eq_true rfl, Nat.le_of_ble_eq_true rfl⟩) (pv_PS hPc hKc hDc) rfl rfl hl.1 rfl (lv_room (Nat.le_of_ble_eq_true rfl)) dX12_number_87 ⟨Nat.le_of_ble_eq_true rfl, Nat.le_of_ble_eq_true rfl⟩) hS (fun q _ h => hFc q h) hFc (fun ra44 u t H1 locs ht hvm hwra44 hB hz1 hk1 hS => ?_)
                  try rw [hwra44] at hB
                  obtain ⟨pt0_ra44, pt1_ra44, pt2_ra44, pt3_ra44, pt4_ra44, hP1, hK1, hD1⟩ := hB
                  rw [ht] at hP1
                  obtain ⟨hP2, hD2⟩ := va_join (wr := (wd_f4cd022e h0 v0 h1 v1 t40 (-1) v3 r0 r1 r2 r3 r4 r5 r6 v4 v5 r7 r8 r9 r10 v6 r11 r12 v7 v8 r13 r14 v9 v10 r15 v11 v12 r16 v13 w14 r17 v15 v16 r18 r19 r20 r21 r22 r23 v17 r24 r25 r26 v18 h1 g0 f19)) (w1 := []) hP hD [] [0, 1] rfl rfl (by decide) (by decide) hk1 hFc hP1 hD1
                  clear hP hD hPc hDc hKc hFc hP1 hK1 hD1 hk1 hz1
                  generalize H1 = H at hP2 hS ⊢
                  have hP : va_P (dC, dI) vwCl (wd_f4cd022e h0 v0 h1 v1 t40 (-1) v3 r0 r1 r2 r3 r4 r5 r6 v4 v5 r7 r8 r9 r10 v6 r11 r12 v7 v8 r13 r14 v9 v10 r15 v11 v12 r16 v13 w14 r17 v15 v16 r18 r19 r20 r21 r22 r23 v17 r24 r25 r26 v18 h1 g0 f19) H := hP2
                  have hD : va_D A (wd_f4cd022e h0 v0 h1 v1 t40 (-1) v3 r0 r1 r2 r3 r4 r5 r6 v4 v5 r7 r8 r9 r10 v6 r11 r12 v7 v8 r13 r14 v9 v10 r15 v11 v12 r16 v13 w14 r17 v15 v16 r18 r19 r20 r21 r22 r23 v17 r24 r25 r26 v18 h1 g0 f19) := hD2
                  clear hP2 hD2
                  refine lv_if_ne (tgt := 107) hx hb dX12_number_90 (by decide) (fun c45 => ?_) (fun c45 => ?_)
                  · skip
                    have fc45 : ¬ (ra44.toInt = 0) := fun h9 => c45 (Int32.toInt_inj.mp h9)
                    refine lv_iload_n hx hb dX12_number_107 rfl (lv_at hl 0 rfl) ?_
                    subst hQ
                    have hP9 := hP.sub (ws' := (wd_f4cd022e h0 v0 h1 v1 t40 (-1) v3 r0 r1 r2 r3 r4 r5 r6 v4 v5 r7 r8 r9 r10 v6 r11 r12 v7 v8 r13 r14 v9 v10 r15 v11 v12 r16 v13 w14 r17 v15 v16 r18 r19 r20 r21 r22 r23 v17 r24 r25 r26 v18 h1 g0 f19)) [0, 1] rfl
                    have hD9 := hD.sub (ws' := (wd_f4cd022e h0 v0 h1 v1 t40 (-1) v3 r0 r1 r2 r3 r4 r5 r6 v4 v5 r7 r8 r9 r10 v6 r11 r12 v7 v8 r13 r14 v9 v10 r15 v11 v12 r16 v13 w14 r17 v15 v16 r18 r19 r20 r21 r22 r23 v17 r24 r25 r26 v18 h1 g0 f19)) [0, 1] (by decide) rfl
                    have hK9 := hK.sub (tys' := []) [] rfl
                    exact W.iret (v := t39) hx hb hr (fun t ht hW => ⟨⟨t39, t39, rfl, rfl, Or.inl ⟨t40, by first | omega | decide, by first | omega | decide, by first | omega | decide, by first | omega | decide, by omega, by constructor <;> omega, by first | (apply pg_n2.none <;> first | assumption | omega) | (apply pg_n2.two <;> first | assumption | omega | (apply pg_nb.ok <;> first | assumption | omega) | (apply pg_nb.no <;> first | assumption | omega) | (apply pg_nb.three <;> first | assumption | omega)) | (apply pg_n2.one <;> first | assumption | omega | (apply pg_nb.ok <;> first | assumption | omega) | (apply pg_nb.no <;> first | assumption | omega) | (apply pg_nb.three <;> first | assumption | omega)), by rw [ht]; exact hP9, va_K.moved hW.alike hK9, hD9⟩⟩, hS.F ht⟩) hS.2.2 dX12_number_108
                  · skip
                    have fc45 : ra44.toInt = 0 := congrArg Int32.toInt c45
                    refine lv_aload_n hx hb dX12_number_93 rfl (lv_at hl 1 rfl) ?_
                    refine lv_dup hx hb dX12_number_94 rfl ?_
                    refine va_get (D := (dC, dI)) (ci := 12) (v := .int t40) (C := RX12) (T := TX12) (N := 48) hx hb hts (fun _ h => List.mem_cons_of_mem _ (List.mem_append_right _ h)) hown hK hP 0 rfl rfl 3 (by decide) (hts (.fieldLink RX12 112 "LeftArgumentsModel" "at" "I") (List.mem_cons_of_mem _ (List.mem_append_left _ (List.mem_of_getElem? (i := 2) rfl)))) (fun _ h9 => h9) rfl dX12_number_95 ?_
                    refine lv_iconst (v := 1) hx hb dX12_number_98 (by decide) ?_
                    refine lv_isub hx hb dX12_number_99 ?_
                    refine lv_topi (fun t46 et46 => ?_)
                    have gt46 : t46.toInt = t40.toInt - 1 := pv_sub (a := t40.toInt) (b := 1) et46 rfl (by decide) (by omega) (by omega)
                    refine va_put (D := (dC, dI)) (ci := 12) (v := .int t46) (ty := .int) (C := RX12) (T := TX12) (N := 48) hx hb hts (fun _ h => List.mem_cons_of_mem _ (List.mem_append_right _ h)) tyX12 tyX12_ok nmX12 hown hK hP hD hS 0 rfl rfl 3 (by decide) (hts (.fieldLink RX12 112 "LeftArgumentsModel" "at" "I") (List.mem_cons_of_mem _ (List.mem_append_left _ (List.mem_of_getElem? (i := 2) rfl)))) (fun _ h9 => h9) rfl (by decide +kernel) rfl rfl (Nat.le_of_ble_eq_true rfl) dX12_number_100 (fun H locs hP hD hS => ?_)
                    have hP : va_P (dC, dI) vwCl (wd_f4cd022e h0 v0 h1 v1 t46 (-1) v3 r0 r1 r2 r3 r4 r5 r6 v4 v5 r7 r8 r9 r10 v6 r11 r12 v7 v8 r13 r14 v9 v10 r15 v11 v12 r16 v13 w14 r17 v15 v16 r18 r19 r20 r21 r22 r23 v17 r24 r25 r26 v18 h1 g0 f19) H := hP
                    have hD : va_D A (wd_f4cd022e h0 v0 h1 v1 t46 (-1) v3 r0 r1 r2 r3 r4 r5 r6 v4 v5 r7 r8 r9 r10 v6 r11 r12 v7 v8 r13 r14 v9 v10 r15 v11 v12 r16 v13 w14 r17 v15 v16 r18 r19 r20 r21 r22 r23 v17 r24 r25 r26 v18 h1 g0 f19) := hD
                    refine lv_aload_n hx hb dX12_number_103 rfl (lv_at hl 1 rfl) ?_
                    have hPc := hP.sub (ws' := (wd_171f232f h0 v0 h1 v1 t46 (-1) v3 r0 r1 r2 r3 r4 r5 r6 v4 v5 r7 r8 r9 r10 v6 r11 r12 v7 v8 r13 r14 v9 v10 r15 v11 v12 r16 v13 w14 r17 v15 v16 r18 r19 r20 r21 r22 r23 v17 r24 r25 r26 v18)) [0] rfl
                    have hDc := hD.sub (ws' := (wd_171f232f h0 v0 h1 v1 t46 (-1) v3 r0 r1 r2 r3 r4 r5 r6 v4 v5 r7 r8 r9 r10 v6 r11 r12 v7 v8 r13 r14 v9 v10 r15 v11 v12 r16 v13 w14 r17 v15 v16 r18 r19 r20 r21 r22 r23 v17 r24 r25 r26 v18)) [0] (by decide) rfl
                    have hKc := hK.sub (tys' := []) [] rfl
                    have hFc := va_free (wc := (wd_171f232f h0 v0 h1 v1 t46 (-1) v3 r0 r1 r2 r3 r4 r5 r6 v4 v5 r7 r8 r9 r10 v6 r11 r12 v7 v8 r13 r14 v9 v10 r15 v11 v12 r16 v13 w14 r17 v15 v16 r18 r19 r20 r21 r22 r23 v17 r24 r25 r26 v18)) hD hS hA [0] rfl
                    refine va_callv (va_runV (As := []) (rest := []) ⟨hx, hb, hml, hown, hts⟩ (k_X12_bad l dC dI h0 v0 h1 v1 t46 v3 r0 r1 r2 r3 r4 r5 r6 v4 v5 r7 r8 r9 r10 v6 r11 r12 v7 v8 r13 r14 v9 v10 r15 v11 v12 r16 v13 w14 r17 v15 v16 r18 r19 r20 r21 r22 r23 v17 r24 r25 r26 v18 ⟨i_v1a, i_v1b⟩ ⟨by first | omega | decide, by first | omega | decide⟩ ⟨i_v4a, i_v4b⟩ ⟨i_v5a, i_v5b⟩ ⟨i_v6a, i_v6b⟩ ⟨i_v7a, i_v7b⟩ ⟨i_v8a, i_v8b⟩ ⟨i_v9a, i_v9b⟩ ⟨i_v13a, i_v13b⟩ ⟨i_v17a, i_v17b⟩ ⟨i_v18a, i_v18b⟩ H.size) (cwV 0 hts g_X12_number_2 rfl rfl rfl (by decide +kernel) ⟨Nat.le_of_ble_eq_true rfl, Nat.le_of_ble_eq_true rfl⟩) (pv_PV12 hPc hKc hDc (q0 := 0) rfl) rfl rfl hl.1 rfl (lv_room (Nat.le_of_ble_eq_true rfl)) dX12_number_104 ⟨Nat.le_of_ble_eq_true rfl, Nat.le_of_ble_eq_true rfl⟩) hS (fun q _ h => hFc q h) hFc (fun u t H1 locs ht hvm hwra47 hB hz1 hk1 hS => ?_)
                    obtain ⟨x48, oa_x48, ob_x48, pt0_ra47, hP1, hK1, hD1⟩ := hB
                    rw [ht] at hP1
                    obtain ⟨hP2, hD2⟩ := va_join (wr := (wd_d0032b31 h1 g0 f19)) (w1 := (wd_171f232f h0 v0 h1 v1 t46 x48 v3 r0 r1 r2 r3 r4 r5 r6 v4 v5 r7 r8 r9 r10 v6 r11 r12 v7 v8 r13 r14 v9 v10 r15 v11 v12 r16 v13 w14 r17 v15 v16 r18 r19 r20 r21 r22 r23 v17 r24 r25 r26 v18)) hP hD [0] [1] rfl rfl (by decide) (by decide) hk1 hFc hP1 hD1
                    clear hP hD hPc hDc hKc hFc hP1 hK1 hD1 hk1 hz1
                    generalize H1 = H at hP2 hS ⊢
                    have hP := hP2.sub (ws' := (wd_f4cd022e h0 v0 h1 v1 t46 x48 v3 r0 r1 r2 r3 r4 r5 r6 v4 v5 r7 r8 r9 r10 v6 r11 r12 v7 v8 r13 r14 v9 v10 r15 v11 v12 r16 v13 w14 r17 v15 v16 r18 r19 r20 r21 r22 r23 v17 r24 r25 r26 v18 h1 g0 f19)) [1, 0] rfl
                    have hD := hD2.sub (ws' := (wd_f4cd022e h0 v0 h1 v1 t46 x48 v3 r0 r1 r2 r3 r4 r5 r6 v4 v5 r7 r8 r9 r10 v6 r11 r12 v7 v8 r13 r14 v9 v10 r15 v11 v12 r16 v13 w14 r17 v15 v16 r18 r19 r20 r21 r22 r23 v17 r24 r25 r26 v18 h1 g0 f19)) [1, 0] (by decide) rfl
                    clear hP2 hD2
                    refine lv_iload_n hx hb dX12_number_107 rfl (lv_at hl 0 rfl) ?_
                    subst hQ
                    have hP9 := hP.sub (ws' := (wd_f4cd022e h0 v0 h1 v1 t46 x48 v3 r0 r1 r2 r3 r4 r5 r6 v4 v5 r7 r8 r9 r10 v6 r11 r12 v7 v8 r13 r14 v9 v10 r15 v11 v12 r16 v13 w14 r17 v15 v16 r18 r19 r20 r21 r22 r23 v17 r24 r25 r26 v18 h1 g0 f19)) [0, 1] rfl
                    have hD9 := hD.sub (ws' := (wd_f4cd022e h0 v0 h1 v1 t46 x48 v3 r0 r1 r2 r3 r4 r5 r6 v4 v5 r7 r8 r9 r10 v6 r11 r12 v7 v8 r13 r14 v9 v10 r15 v11 v12 r16 v13 w14 r17 v15 v16 r18 r19 r20 r21 r22 r23 v17 r24 r25 r26 v18 h1 g0 f19)) [0, 1] (by decide) rfl
                    have hK9 := hK.sub (tys' := []) [] rfl
                    exact W.iret (v := t39) hx hb hr (fun t ht hW => ⟨⟨t39, t39, rfl, rfl, Or.inr (⟨t46, x48, by first | omega | decide, by first | omega | decide, oa_x48, ob_x48, by omega, by first | (apply pg_n2.none <;> first | assumption | omega) | (apply pg_n2.two <;> first | assumption | omega | (apply pg_nb.ok <;> first | assumption | omega) | (apply pg_nb.no <;> first | assumption | omega) | (apply pg_nb.three <;> first | assumption | omega)) | (apply pg_n2.one <;> first | assumption | omega | (apply pg_nb.ok <;> first | assumption | omega) | (apply pg_nb.no <;> first | assumption | omega) | (apply pg_nb.three <;> first | assumption | omega)), by rw [ht]; exact hP9, va_K.moved hW.alike hK9, hD9⟩)⟩, hS.F ht⟩) hS.2.2 dX12_number_108
                · skip
                  have fc43 : ¬ (ra42.toInt = 0) := fun h9 => c43 (Int32.toInt_inj.mp h9)
                  exfalso; omega
              · skip
                obtain ⟨pt0_ra41, pt1_ra41, pt2_ra41, pt3_ra41, pt4_ra41, hP1, hK1, hD1⟩ := hB
                rw [ht] at hP1
                obtain ⟨hP2, hD2⟩ := va_join (wr := []) (w1 := (wd_f4cd022e h0 v0 h1 v1 t40 (-1) v3 r0 r1 r2 r3 r4 r5 r6 v4 v5 r7 r8 r9 r10 v6 r11 r12 v7 v8 r13 r14 v9 v10 r15 v11 v12 r16 v13 w14 r17 v15 v16 r18 r19 r20 r21 r22 r23 v17 r24 r25 r26 v18 h1 g0 f19)) hP hD [0, 1] [] rfl rfl (by decide) (by decide) hk1 hFc hP1 hD1
                clear hP hD hPc hDc hKc hFc hP1 hK1 hD1 hk1 hz1
                generalize H1 = H at hP2 hS ⊢
                have hP : va_P (dC, dI) vwCl (wd_f4cd022e h0 v0 h1 v1 t40 (-1) v3 r0 r1 r2 r3 r4 r5 r6 v4 v5 r7 r8 r9 r10 v6 r11 r12 v7 v8 r13 r14 v9 v10 r15 v11 v12 r16 v13 w14 r17 v15 v16 r18 r19 r20 r21 r22 r23 v17 r24 r25 r26 v18 h1 g0 f19) H := hP2
                have hD : va_D A (wd_f4cd022e h0 v0 h1 v1 t40 (-1) v3 r0 r1 r2 r3 r4 r5 r6 v4 v5 r7 r8 r9 r10 v6 r11 r12 v7 v8 r13 r14 v9 v10 r15 v11 v12 r16 v13 w14 r17 v15 v16 r18 r19 r20 r21 r22 r23 v17 r24 r25 r26 v18 h1 g0 f19) := hD2
                clear hP2 hD2
                have hPc := hP.sub (ws' := []) [] rfl
                have hDc := hD.sub (ws' := []) [] (by decide) rfl
                have hKc := hK.sub (tys' := []) [] rfl
                have hFc := va_free (wc := []) hD hS hA [] rfl
                refine va_calli (va_runS (As := [.int ra41]) (rest := []) ⟨hx, hb, hml, hown, hts⟩ (k_X12_isDigit l dC dI ra41  H.size) (va_cwS 1 hts g_X12_number_1 rfl rfl rfl (by decide +kernel) ⟨Nat.le_of_ble_eq_true rfl, Nat.le_of_ble_eq_true rfl⟩) (pv_PS hPc hKc hDc) rfl rfl hl.1 rfl (lv_room (Nat.le_of_ble_eq_true rfl)) dX12_number_71 ⟨Nat.le_of_ble_eq_true rfl, Nat.le_of_ble_eq_true rfl⟩) hS (fun q _ h => hFc q h) hFc (fun ra49 u t H1 locs ht hvm hwra49 hB hz1 hk1 hS => ?_)
                try rw [hwra49] at hB
                obtain ⟨pt0_ra49, pt1_ra49, pt2_ra49, pt3_ra49, pt4_ra49, hP1, hK1, hD1⟩ := hB
                rw [ht] at hP1
                obtain ⟨hP2, hD2⟩ := va_join (wr := (wd_f4cd022e h0 v0 h1 v1 t40 (-1) v3 r0 r1 r2 r3 r4 r5 r6 v4 v5 r7 r8 r9 r10 v6 r11 r12 v7 v8 r13 r14 v9 v10 r15 v11 v12 r16 v13 w14 r17 v15 v16 r18 r19 r20 r21 r22 r23 v17 r24 r25 r26 v18 h1 g0 f19)) (w1 := []) hP hD [] [0, 1] rfl rfl (by decide) (by decide) hk1 hFc hP1 hD1
                clear hP hD hPc hDc hKc hFc hP1 hK1 hD1 hk1 hz1
                generalize H1 = H at hP2 hS ⊢
                have hP : va_P (dC, dI) vwCl (wd_f4cd022e h0 v0 h1 v1 t40 (-1) v3 r0 r1 r2 r3 r4 r5 r6 v4 v5 r7 r8 r9 r10 v6 r11 r12 v7 v8 r13 r14 v9 v10 r15 v11 v12 r16 v13 w14 r17 v15 v16 r18 r19 r20 r21 r22 r23 v17 r24 r25 r26 v18 h1 g0 f19) H := hP2
                have hD : va_D A (wd_f4cd022e h0 v0 h1 v1 t40 (-1) v3 r0 r1 r2 r3 r4 r5 r6 v4 v5 r7 r8 r9 r10 v6 r11 r12 v7 v8 r13 r14 v9 v10 r15 v11 v12 r16 v13 w14 r17 v15 v16 r18 r19 r20 r21 r22 r23 v17 r24 r25 r26 v18 h1 g0 f19) := hD2
                clear hP2 hD2
                refine lv_if_eq (tgt := 84) hx hb dX12_number_74 (by decide) (fun c50 => ?_) (fun c50 => ?_)
                · skip
                  have fc50 : ra49.toInt = 0 := congrArg Int32.toInt c50
                  refine lv_iload_n hx hb dX12_number_84 rfl (lv_at hl 0 rfl) ?_
                  refine lv_iload_n hx hb dX12_number_85 rfl (lv_at hl 2 rfl) ?_
                  refine lv_iload_n hx hb dX12_number_86 rfl (lv_at hl 3 rfl) ?_
                  have hPc := hP.sub (ws' := []) [] rfl
                  have hDc := hD.sub (ws' := []) [] (by decide) rfl
                  have hKc := hK.sub (tys' := []) [] rfl
                  have hFc := va_free (wc := []) hD hS hA [] rfl
                  refine va_calli (va_runS (As := [.int t39, .int v20, .int v21]) (rest := []) ⟨hx, hb, hml, hown, hts⟩ (k_X12_in l dC dI t39 v20 v21  H.size) (va_cwS 3 hts g_X12_number_9 rfl rfl rfl (by decide +kernel) ⟨Nat.le_of_ble_eq_true rfl, Nat.le_of_ble_eq_true rfl⟩) (pv_PS hPc hKc hDc) rfl rfl hl.1 rfl (lv_room (Nat.le_of_ble_eq_true rfl)) dX12_number_87 ⟨Nat.le_of_ble_eq_true rfl, Nat.le_of_ble_eq_true rfl⟩) hS (fun q _ h => hFc q h) hFc (fun ra51 u t H1 locs ht hvm hwra51 hB hz1 hk1 hS => ?_)
                  try rw [hwra51] at hB
                  obtain ⟨pt0_ra51, pt1_ra51, pt2_ra51, pt3_ra51, pt4_ra51, hP1, hK1, hD1⟩ := hB
                  rw [ht] at hP1
                  obtain ⟨hP2, hD2⟩ := va_join (wr := (wd_f4cd022e h0 v0 h1 v1 t40 (-1) v3 r0 r1 r2 r3 r4 r5 r6 v4 v5 r7 r8 r9 r10 v6 r11 r12 v7 v8 r13 r14 v9 v10 r15 v11 v12 r16 v13 w14 r17 v15 v16 r18 r19 r20 r21 r22 r23 v17 r24 r25 r26 v18 h1 g0 f19)) (w1 := []) hP hD [] [0, 1] rfl rfl (by decide) (by decide) hk1 hFc hP1 hD1
                  clear hP hD hPc hDc hKc hFc hP1 hK1 hD1 hk1 hz1
                  generalize H1 = H at hP2 hS ⊢
                  have hP : va_P (dC, dI) vwCl (wd_f4cd022e h0 v0 h1 v1 t40 (-1) v3 r0 r1 r2 r3 r4 r5 r6 v4 v5 r7 r8 r9 r10 v6 r11 r12 v7 v8 r13 r14 v9 v10 r15 v11 v12 r16 v13 w14 r17 v15 v16 r18 r19 r20 r21 r22 r23 v17 r24 r25 r26 v18 h1 g0 f19) H := hP2
                  have hD : va_D A (wd_f4cd022e h0 v0 h1 v1 t40 (-1) v3 r0 r1 r2 r3 r4 r5 r6 v4 v5 r7 r8 r9 r10 v6 r11 r12 v7 v8 r13 r14 v9 v10 r15 v11 v12 r16 v13 w14 r17 v15 v16 r18 r19 r20 r21 r22 r23 v17 r24 r25 r26 v18 h1 g0 f19) := hD2
                  clear hP2 hD2
                  refine lv_if_ne (tgt := 107) hx hb dX12_number_90 (by decide) (fun c52 => ?_) (fun c52 => ?_)
                  · skip
                    have fc52 : ¬ (ra51.toInt = 0) := fun h9 => c52 (Int32.toInt_inj.mp h9)
                    refine lv_iload_n hx hb dX12_number_107 rfl (lv_at hl 0 rfl) ?_
                    subst hQ
                    have hP9 := hP.sub (ws' := (wd_f4cd022e h0 v0 h1 v1 t40 (-1) v3 r0 r1 r2 r3 r4 r5 r6 v4 v5 r7 r8 r9 r10 v6 r11 r12 v7 v8 r13 r14 v9 v10 r15 v11 v12 r16 v13 w14 r17 v15 v16 r18 r19 r20 r21 r22 r23 v17 r24 r25 r26 v18 h1 g0 f19)) [0, 1] rfl
                    have hD9 := hD.sub (ws' := (wd_f4cd022e h0 v0 h1 v1 t40 (-1) v3 r0 r1 r2 r3 r4 r5 r6 v4 v5 r7 r8 r9 r10 v6 r11 r12 v7 v8 r13 r14 v9 v10 r15 v11 v12 r16 v13 w14 r17 v15 v16 r18 r19 r20 r21 r22 r23 v17 r24 r25 r26 v18 h1 g0 f19)) [0, 1] (by decide) rfl
                    have hK9 := hK.sub (tys' := []) [] rfl
                    exact W.iret (v := t39) hx hb hr (fun t ht hW => ⟨⟨t39, t39, rfl, rfl, Or.inl ⟨t40, by first | omega | decide, by first | omega | decide, by first | omega | decide, by first | omega | decide, by omega, by constructor <;> omega, by first | (apply pg_n2.none <;> first | assumption | omega) | (apply pg_n2.two <;> first | assumption | omega | (apply pg_nb.ok <;> first | assumption | omega) | (apply pg_nb.no <;> first | assumption | omega) | (apply pg_nb.three <;> first | assumption | omega)) | (apply pg_n2.one <;> first | assumption | omega | (apply pg_nb.ok <;> first | assumption | omega) | (apply pg_nb.no <;> first | assumption | omega) | (apply pg_nb.three <;> first | assumption | omega)), by rw [ht]; exact hP9, va_K.moved hW.alike hK9, hD9⟩⟩, hS.F ht⟩) hS.2.2 dX12_number_108
                  · skip
                    have fc52 : ra51.toInt = 0 := congrArg Int32.toInt c52
                    refine lv_aload_n hx hb dX12_number_93 rfl (lv_at hl 1 rfl) ?_
                    refine lv_dup hx hb dX12_number_94 rfl ?_
                    refine va_get (D := (dC, dI)) (ci := 12) (v := .int t40) (C := RX12) (T := TX12) (N := 48) hx hb hts (fun _ h => List.mem_cons_of_mem _ (List.mem_append_right _ h)) hown hK hP 0 rfl rfl 3 (by decide) (hts (.fieldLink RX12 112 "LeftArgumentsModel" "at" "I") (List.mem_cons_of_mem _ (List.mem_append_left _ (List.mem_of_getElem? (i := 2) rfl)))) (fun _ h9 => h9) rfl dX12_number_95 ?_
                    refine lv_iconst (v := 1) hx hb dX12_number_98 (by decide) ?_
                    refine lv_isub hx hb dX12_number_99 ?_
                    refine lv_topi (fun t53 et53 => ?_)
                    have gt53 : t53.toInt = t40.toInt - 1 := pv_sub (a := t40.toInt) (b := 1) et53 rfl (by decide) (by omega) (by omega)
                    refine va_put (D := (dC, dI)) (ci := 12) (v := .int t53) (ty := .int) (C := RX12) (T := TX12) (N := 48) hx hb hts (fun _ h => List.mem_cons_of_mem _ (List.mem_append_right _ h)) tyX12 tyX12_ok nmX12 hown hK hP hD hS 0 rfl rfl 3 (by decide) (hts (.fieldLink RX12 112 "LeftArgumentsModel" "at" "I") (List.mem_cons_of_mem _ (List.mem_append_left _ (List.mem_of_getElem? (i := 2) rfl)))) (fun _ h9 => h9) rfl (by decide +kernel) rfl rfl (Nat.le_of_ble_eq_true rfl) dX12_number_100 (fun H locs hP hD hS => ?_)
                    have hP : va_P (dC, dI) vwCl (wd_f4cd022e h0 v0 h1 v1 t53 (-1) v3 r0 r1 r2 r3 r4 r5 r6 v4 v5 r7 r8 r9 r10 v6 r11 r12 v7 v8 r13 r14 v9 v10 r15 v11 v12 r16 v13 w14 r17 v15 v16 r18 r19 r20 r21 r22 r23 v17 r24 r25 r26 v18 h1 g0 f19) H := hP
                    have hD : va_D A (wd_f4cd022e h0 v0 h1 v1 t53 (-1) v3 r0 r1 r2 r3 r4 r5 r6 v4 v5 r7 r8 r9 r10 v6 r11 r12 v7 v8 r13 r14 v9 v10 r15 v11 v12 r16 v13 w14 r17 v15 v16 r18 r19 r20 r21 r22 r23 v17 r24 r25 r26 v18 h1 g0 f19) := hD
                    refine lv_aload_n hx hb dX12_number_103 rfl (lv_at hl 1 rfl) ?_
                    have hPc := hP.sub (ws' := (wd_171f232f h0 v0 h1 v1 t53 (-1) v3 r0 r1 r2 r3 r4 r5 r6 v4 v5 r7 r8 r9 r10 v6 r11 r12 v7 v8 r13 r14 v9 v10 r15 v11 v12 r16 v13 w14 r17 v15 v16 r18 r19 r20 r21 r22 r23 v17 r24 r25 r26 v18)) [0] rfl
                    have hDc := hD.sub (ws' := (wd_171f232f h0 v0 h1 v1 t53 (-1) v3 r0 r1 r2 r3 r4 r5 r6 v4 v5 r7 r8 r9 r10 v6 r11 r12 v7 v8 r13 r14 v9 v10 r15 v11 v12 r16 v13 w14 r17 v15 v16 r18 r19 r20 r21 r22 r23 v17 r24 r25 r26 v18)) [0] (by decide) rfl
                    have hKc := hK.sub (tys' := []) [] rfl
                    have hFc := va_free (wc := (wd_171f232f h0 v0 h1 v1 t53 (-1) v3 r0 r1 r2 r3 r4 r5 r6 v4 v5 r7 r8 r9 r10 v6 r11 r12 v7 v8 r13 r14 v9 v10 r15 v11 v12 r16 v13 w14 r17 v15 v16 r18 r19 r20 r21 r22 r23 v17 r24 r25 r26 v18)) hD hS hA [0] rfl
                    refine va_callv (va_runV (As := []) (rest := []) ⟨hx, hb, hml, hown, hts⟩ (k_X12_bad l dC dI h0 v0 h1 v1 t53 v3 r0 r1 r2 r3 r4 r5 r6 v4 v5 r7 r8 r9 r10 v6 r11 r12 v7 v8 r13 r14 v9 v10 r15 v11 v12 r16 v13 w14 r17 v15 v16 r18 r19 r20 r21 r22 r23 v17 r24 r25 r26 v18 ⟨i_v1a, i_v1b⟩ ⟨by first | omega | decide, by first | omega | decide⟩ ⟨i_v4a, i_v4b⟩ ⟨i_v5a, i_v5b⟩ ⟨i_v6a, i_v6b⟩ ⟨i_v7a, i_v7b⟩ ⟨i_v8a, i_v8b⟩ ⟨i_v9a, i_v9b⟩ ⟨i_v13a, i_v13b⟩ ⟨i_v17a, i_v17b⟩ ⟨i_v18a, i_v18b⟩ H.size) (cwV 0 hts g_X12_number_2 rfl rfl rfl (by decide +kernel) ⟨Nat.le_of_ble_eq_true rfl, Nat.le_of_ble_eq_true rfl⟩) (pv_PV12 hPc hKc hDc (q0 := 0) rfl) rfl rfl hl.1 rfl (lv_room (Nat.le_of_ble_eq_true rfl)) dX12_number_104 ⟨Nat.le_of_ble_eq_true rfl, Nat.le_of_ble_eq_true rfl⟩) hS (fun q _ h => hFc q h) hFc (fun u t H1 locs ht hvm hwra54 hB hz1 hk1 hS => ?_)
                    obtain ⟨x55, oa_x55, ob_x55, pt0_ra54, hP1, hK1, hD1⟩ := hB
                    rw [ht] at hP1
                    obtain ⟨hP2, hD2⟩ := va_join (wr := (wd_d0032b31 h1 g0 f19)) (w1 := (wd_171f232f h0 v0 h1 v1 t53 x55 v3 r0 r1 r2 r3 r4 r5 r6 v4 v5 r7 r8 r9 r10 v6 r11 r12 v7 v8 r13 r14 v9 v10 r15 v11 v12 r16 v13 w14 r17 v15 v16 r18 r19 r20 r21 r22 r23 v17 r24 r25 r26 v18)) hP hD [0] [1] rfl rfl (by decide) (by decide) hk1 hFc hP1 hD1
                    clear hP hD hPc hDc hKc hFc hP1 hK1 hD1 hk1 hz1
                    generalize H1 = H at hP2 hS ⊢
                    have hP := hP2.sub (ws' := (wd_f4cd022e h0 v0 h1 v1 t53 x55 v3 r0 r1 r2 r3 r4 r5 r6 v4 v5 r7 r8 r9 r10 v6 r11 r12 v7 v8 r13 r14 v9 v10 r15 v11 v12 r16 v13 w14 r17 v15 v16 r18 r19 r20 r21 r22 r23 v17 r24 r25 r26 v18 h1 g0 f19)) [1, 0] rfl
                    have hD := hD2.sub (ws' := (wd_f4cd022e h0 v0 h1 v1 t53 x55 v3 r0 r1 r2 r3 r4 r5 r6 v4 v5 r7 r8 r9 r10 v6 r11 r12 v7 v8 r13 r14 v9 v10 r15 v11 v12 r16 v13 w14 r17 v15 v16 r18 r19 r20 r21 r22 r23 v17 r24 r25 r26 v18 h1 g0 f19)) [1, 0] (by decide) rfl
                    clear hP2 hD2
                    refine lv_iload_n hx hb dX12_number_107 rfl (lv_at hl 0 rfl) ?_
                    subst hQ
                    have hP9 := hP.sub (ws' := (wd_f4cd022e h0 v0 h1 v1 t53 x55 v3 r0 r1 r2 r3 r4 r5 r6 v4 v5 r7 r8 r9 r10 v6 r11 r12 v7 v8 r13 r14 v9 v10 r15 v11 v12 r16 v13 w14 r17 v15 v16 r18 r19 r20 r21 r22 r23 v17 r24 r25 r26 v18 h1 g0 f19)) [0, 1] rfl
                    have hD9 := hD.sub (ws' := (wd_f4cd022e h0 v0 h1 v1 t53 x55 v3 r0 r1 r2 r3 r4 r5 r6 v4 v5 r7 r8 r9 r10 v6 r11 r12 v7 v8 r13 r14 v9 v10 r15 v11 v12 r16 v13 w14 r17 v15 v16 r18 r19 r20 r21 r22 r23 v17 r24 r25 r26 v18 h1 g0 f19)) [0, 1] (by decide) rfl
                    have hK9 := hK.sub (tys' := []) [] rfl
                    exact W.iret (v := t39) hx hb hr (fun t ht hW => ⟨⟨t39, t39, rfl, rfl, Or.inr (⟨t53, x55, by first | omega | decide, by first | omega | decide, oa_x55, ob_x55, by omega, by first | (apply pg_n2.none <;> first | assumption | omega) | (apply pg_n2.two <;> first | assumption | omega | (apply pg_nb.ok <;> first | assumption | omega) | (apply pg_nb.no <;> first | assumption | omega) | (apply pg_nb.three <;> first | assumption | omega)) | (apply pg_n2.one <;> first | assumption | omega | (apply pg_nb.ok <;> first | assumption | omega) | (apply pg_nb.no <;> first | assumption | omega) | (apply pg_nb.three <;> first | assumption | omega)), by rw [ht]; exact hP9, va_K.moved hW.alike hK9, hD9⟩)⟩, hS.F ht⟩) hS.2.2 dX12_number_108
                · skip
                  have fc50 : ¬ (ra49.toInt = 0) := fun h9 => c50 (Int32.toInt_inj.mp h9)
                  refine lv_aload_n hx hb dX12_number_77 rfl (lv_at hl 1 rfl) ?_
                  have hPc := hP.sub (ws' := (wd_171f232f h0 v0 h1 v1 t40 (-1) v3 r0 r1 r2 r3 r4 r5 r6 v4 v5 r7 r8 r9 r10 v6 r11 r12 v7 v8 r13 r14 v9 v10 r15 v11 v12 r16 v13 w14 r17 v15 v16 r18 r19 r20 r21 r22 r23 v17 r24 r25 r26 v18)) [0] rfl
                  have hDc := hD.sub (ws' := (wd_171f232f h0 v0 h1 v1 t40 (-1) v3 r0 r1 r2 r3 r4 r5 r6 v4 v5 r7 r8 r9 r10 v6 r11 r12 v7 v8 r13 r14 v9 v10 r15 v11 v12 r16 v13 w14 r17 v15 v16 r18 r19 r20 r21 r22 r23 v17 r24 r25 r26 v18)) [0] (by decide) rfl
                  have hKc := hK.sub (tys' := []) [] rfl
                  have hFc := va_free (wc := (wd_171f232f h0 v0 h1 v1 t40 (-1) v3 r0 r1 r2 r3 r4 r5 r6 v4 v5 r7 r8 r9 r10 v6 r11 r12 v7 v8 r13 r14 v9 v10 r15 v11 v12 r16 v13 w14 r17 v15 v16 r18 r19 r20 r21 r22 r23 v17 r24 r25 r26 v18)) hD hS hA [0] rfl
                  refine va_callv (va_runV (As := []) (rest := []) ⟨hx, hb, hml, hown, hts⟩ (k_X12_bad l dC dI h0 v0 h1 v1 t40 v3 r0 r1 r2 r3 r4 r5 r6 v4 v5 r7 r8 r9 r10 v6 r11 r12 v7 v8 r13 r14 v9 v10 r15 v11 v12 r16 v13 w14 r17 v15 v16 r18 r19 r20 r21 r22 r23 v17 r24 r25 r26 v18 ⟨i_v1a, i_v1b⟩ ⟨by first | omega | decide, by first | omega | decide⟩ ⟨i_v4a, i_v4b⟩ ⟨i_v5a, i_v5b⟩ ⟨i_v6a, i_v6b⟩ ⟨i_v7a, i_v7b⟩ ⟨i_v8a, i_v8b⟩ ⟨i_v9a, i_v9b⟩ ⟨i_v13a, i_v13b⟩ ⟨i_v17a, i_v17b⟩ ⟨i_v18a, i_v18b⟩ H.size) (cwV 0 hts g_X12_number_2 rfl rfl rfl (by decide +kernel) ⟨Nat.le_of_ble_eq_true rfl, Nat.le_of_ble_eq_true rfl⟩) (pv_PV12 hPc hKc hDc (q0 := 0) rfl) rfl rfl hl.1 rfl (lv_room (Nat.le_of_ble_eq_true rfl)) dX12_number_78 ⟨Nat.le_of_ble_eq_true rfl, Nat.le_of_ble_eq_true rfl⟩) hS (fun q _ h => hFc q h) hFc (fun u t H1 locs ht hvm hwra56 hB hz1 hk1 hS => ?_)
                  obtain ⟨x57, oa_x57, ob_x57, pt0_ra56, hP1, hK1, hD1⟩ := hB
                  rw [ht] at hP1
                  obtain ⟨hP2, hD2⟩ := va_join (wr := (wd_d0032b31 h1 g0 f19)) (w1 := (wd_171f232f h0 v0 h1 v1 t40 x57 v3 r0 r1 r2 r3 r4 r5 r6 v4 v5 r7 r8 r9 r10 v6 r11 r12 v7 v8 r13 r14 v9 v10 r15 v11 v12 r16 v13 w14 r17 v15 v16 r18 r19 r20 r21 r22 r23 v17 r24 r25 r26 v18)) hP hD [0] [1] rfl rfl (by decide) (by decide) hk1 hFc hP1 hD1
                  clear hP hD hPc hDc hKc hFc hP1 hK1 hD1 hk1 hz1
                  generalize H1 = H at hP2 hS ⊢
                  have hP := hP2.sub (ws' := (wd_f4cd022e h0 v0 h1 v1 t40 x57 v3 r0 r1 r2 r3 r4 r5 r6 v4 v5 r7 r8 r9 r10 v6 r11 r12 v7 v8 r13 r14 v9 v10 r15 v11 v12 r16 v13 w14 r17 v15 v16 r18 r19 r20 r21 r22 r23 v17 r24 r25 r26 v18 h1 g0 f19)) [1, 0] rfl
                  have hD := hD2.sub (ws' := (wd_f4cd022e h0 v0 h1 v1 t40 x57 v3 r0 r1 r2 r3 r4 r5 r6 v4 v5 r7 r8 r9 r10 v6 r11 r12 v7 v8 r13 r14 v9 v10 r15 v11 v12 r16 v13 w14 r17 v15 v16 r18 r19 r20 r21 r22 r23 v17 r24 r25 r26 v18 h1 g0 f19)) [1, 0] (by decide) rfl
                  clear hP2 hD2
                  refine lv_goto (tgt := 107) hx hb dX12_number_81 (by decide) ?_
                  refine lv_iload_n hx hb dX12_number_107 rfl (lv_at hl 0 rfl) ?_
                  subst hQ
                  have hP9 := hP.sub (ws' := (wd_f4cd022e h0 v0 h1 v1 t40 x57 v3 r0 r1 r2 r3 r4 r5 r6 v4 v5 r7 r8 r9 r10 v6 r11 r12 v7 v8 r13 r14 v9 v10 r15 v11 v12 r16 v13 w14 r17 v15 v16 r18 r19 r20 r21 r22 r23 v17 r24 r25 r26 v18 h1 g0 f19)) [0, 1] rfl
                  have hD9 := hD.sub (ws' := (wd_f4cd022e h0 v0 h1 v1 t40 x57 v3 r0 r1 r2 r3 r4 r5 r6 v4 v5 r7 r8 r9 r10 v6 r11 r12 v7 v8 r13 r14 v9 v10 r15 v11 v12 r16 v13 w14 r17 v15 v16 r18 r19 r20 r21 r22 r23 v17 r24 r25 r26 v18 h1 g0 f19)) [0, 1] (by decide) rfl
                  have hK9 := hK.sub (tys' := []) [] rfl
                  exact W.iret (v := t39) hx hb hr (fun t ht hW => ⟨⟨t39, t39, rfl, rfl, Or.inr (⟨t40, x57, by first | omega | decide, by first | omega | decide, oa_x57, ob_x57, by omega, by first | (apply pg_n2.none <;> first | assumption | omega) | (apply pg_n2.two <;> first | assumption | omega | (apply pg_nb.ok <;> first | assumption | omega) | (apply pg_nb.no <;> first | assumption | omega) | (apply pg_nb.three <;> first | assumption | omega)) | (apply pg_n2.one <;> first | assumption | omega | (apply pg_nb.ok <;> first | assumption | omega) | (apply pg_nb.no <;> first | assumption | omega) | (apply pg_nb.three <;> first | assumption | omega)), by rw [ht]; exact hP9, va_K.moved hW.alike hK9, hD9⟩)⟩, hS.F ht⟩) hS.2.2 dX12_number_108
    · skip
      have fc9 : ra8.toInt = 0 := congrArg Int32.toInt c9
      refine lv_aload_n hx hb dX12_number_10 rfl (lv_at hl 0 rfl) ?_
      have hPc := hP.sub (ws' := (wd_171f232f h0 v0 h1 v1 x7 (-1) v3 r0 r1 r2 r3 r4 r5 r6 v4 v5 r7 r8 r9 r10 v6 r11 r12 v7 v8 r13 r14 v9 v10 r15 v11 v12 r16 v13 w14 r17 v15 v16 r18 r19 r20 r21 r22 r23 v17 r24 r25 r26 v18)) [0] rfl
      have hDc := hD.sub (ws' := (wd_171f232f h0 v0 h1 v1 x7 (-1) v3 r0 r1 r2 r3 r4 r5 r6 v4 v5 r7 r8 r9 r10 v6 r11 r12 v7 v8 r13 r14 v9 v10 r15 v11 v12 r16 v13 w14 r17 v15 v16 r18 r19 r20 r21 r22 r23 v17 r24 r25 r26 v18)) [0] (by decide) rfl
      have hKc := hK.sub (tys' := []) [] rfl
      have hFc := va_free (wc := (wd_171f232f h0 v0 h1 v1 x7 (-1) v3 r0 r1 r2 r3 r4 r5 r6 v4 v5 r7 r8 r9 r10 v6 r11 r12 v7 v8 r13 r14 v9 v10 r15 v11 v12 r16 v13 w14 r17 v15 v16 r18 r19 r20 r21 r22 r23 v17 r24 r25 r26 v18)) hD hS hA [0] rfl
      refine va_callv (va_runV (As := []) (rest := []) ⟨hx, hb, hml, hown, hts⟩ (k_X12_bad l dC dI h0 v0 h1 v1 x7 v3 r0 r1 r2 r3 r4 r5 r6 v4 v5 r7 r8 r9 r10 v6 r11 r12 v7 v8 r13 r14 v9 v10 r15 v11 v12 r16 v13 w14 r17 v15 v16 r18 r19 r20 r21 r22 r23 v17 r24 r25 r26 v18 ⟨i_v1a, i_v1b⟩ ⟨oa_x7, by first | omega | decide⟩ ⟨i_v4a, i_v4b⟩ ⟨i_v5a, i_v5b⟩ ⟨i_v6a, i_v6b⟩ ⟨i_v7a, i_v7b⟩ ⟨i_v8a, i_v8b⟩ ⟨i_v9a, i_v9b⟩ ⟨i_v13a, i_v13b⟩ ⟨i_v17a, i_v17b⟩ ⟨i_v18a, i_v18b⟩ H.size) (cwV 0 hts g_X12_number_2 rfl rfl rfl (by decide +kernel) ⟨Nat.le_of_ble_eq_true rfl, Nat.le_of_ble_eq_true rfl⟩) (pv_PV12 hPc hKc hDc (q0 := 0) rfl) rfl rfl hl.1 rfl (lv_room (Nat.le_of_ble_eq_true rfl)) dX12_number_11 ⟨Nat.le_of_ble_eq_true rfl, Nat.le_of_ble_eq_true rfl⟩) hS (fun q _ h => hFc q h) hFc (fun u t H1 locs ht hvm hwra58 hB hz1 hk1 hS => ?_)
      obtain ⟨x59, oa_x59, ob_x59, pt0_ra58, hP1, hK1, hD1⟩ := hB
      rw [ht] at hP1
      obtain ⟨hP2, hD2⟩ := va_join (wr := (wd_d0032b31 h1 g0 f19)) (w1 := (wd_171f232f h0 v0 h1 v1 x7 x59 v3 r0 r1 r2 r3 r4 r5 r6 v4 v5 r7 r8 r9 r10 v6 r11 r12 v7 v8 r13 r14 v9 v10 r15 v11 v12 r16 v13 w14 r17 v15 v16 r18 r19 r20 r21 r22 r23 v17 r24 r25 r26 v18)) hP hD [0] [1] rfl rfl (by decide) (by decide) hk1 hFc hP1 hD1
      clear hP hD hPc hDc hKc hFc hP1 hK1 hD1 hk1 hz1
      generalize H1 = H at hP2 hS ⊢
      have hP := hP2.sub (ws' := (wd_f4cd022e h0 v0 h1 v1 x7 x59 v3 r0 r1 r2 r3 r4 r5 r6 v4 v5 r7 r8 r9 r10 v6 r11 r12 v7 v8 r13 r14 v9 v10 r15 v11 v12 r16 v13 w14 r17 v15 v16 r18 r19 r20 r21 r22 r23 v17 r24 r25 r26 v18 h1 g0 f19)) [1, 0] rfl
      have hD := hD2.sub (ws' := (wd_f4cd022e h0 v0 h1 v1 x7 x59 v3 r0 r1 r2 r3 r4 r5 r6 v4 v5 r7 r8 r9 r10 v6 r11 r12 v7 v8 r13 r14 v9 v10 r15 v11 v12 r16 v13 w14 r17 v15 v16 r18 r19 r20 r21 r22 r23 v17 r24 r25 r26 v18 h1 g0 f19)) [1, 0] (by decide) rfl
      clear hP2 hD2
      refine lv_iload_n hx hb dX12_number_14 rfl (lv_at hl 1 rfl) ?_
      subst hQ
      have hP9 := hP.sub (ws' := (wd_f4cd022e h0 v0 h1 v1 x7 x59 v3 r0 r1 r2 r3 r4 r5 r6 v4 v5 r7 r8 r9 r10 v6 r11 r12 v7 v8 r13 r14 v9 v10 r15 v11 v12 r16 v13 w14 r17 v15 v16 r18 r19 r20 r21 r22 r23 v17 r24 r25 r26 v18 h1 g0 f19)) [0, 1] rfl
      have hD9 := hD.sub (ws' := (wd_f4cd022e h0 v0 h1 v1 x7 x59 v3 r0 r1 r2 r3 r4 r5 r6 v4 v5 r7 r8 r9 r10 v6 r11 r12 v7 v8 r13 r14 v9 v10 r15 v11 v12 r16 v13 w14 r17 v15 v16 r18 r19 r20 r21 r22 r23 v17 r24 r25 r26 v18 h1 g0 f19)) [0, 1] (by decide) rfl
      have hK9 := hK.sub (tys' := []) [] rfl
      exact W.iret (v := v20) hx hb hr (fun t ht hW => ⟨⟨v20, v20, rfl, rfl, Or.inr (⟨x7, x59, oa_x7, by first | omega | decide, oa_x59, ob_x59, by omega, by first | (apply pg_n2.none <;> first | assumption | omega) | (apply pg_n2.two <;> first | assumption | omega | (apply pg_nb.ok <;> first | assumption | omega) | (apply pg_nb.no <;> first | assumption | omega) | (apply pg_nb.three <;> first | assumption | omega)) | (apply pg_n2.one <;> first | assumption | omega | (apply pg_nb.ok <;> first | assumption | omega) | (apply pg_nb.no <;> first | assumption | omega) | (apply pg_nb.three <;> first | assumption | omega)), by rw [ht]; exact hP9, va_K.moved hW.alike hK9, hD9⟩)⟩, hS.F ht⟩) hS.2.2 dX12_number_15
def q_X12_items : List Cond := .code yX12_items cX12_items 7 none :: (([.code yX12_usual cX12_usual 2 (some .int), .initialized RX12, .static yX12_usual, .methodLink RX12 221 yX12_usual, .code yX12_look cX12_look 1 (some .int), .code yX12_here cX12_here 1 (some .int), .fieldLink RX12 112 "LeftArgumentsModel" "at" "I", .fieldLink RX12 109 "LeftArgumentsModel" "size" "I", .fieldLink RX12 9 "LeftArgumentsModel" "tape" "[I", .instanceMethod yX12_here, .selects RX12 yX12_here yX12_here, .methodLink RX12 115 yX12_here, .instanceMethod yX12_look, .selects RX12 yX12_look yX12_look, .methodLink RX12 131 yX12_look, .code yX12_itemOf cX12_itemOf 2 (some .int), .static yX12_itemOf, .methodLink RX12 225 yX12_itemOf, .fieldLink RX12 119 "LeftArgumentsModel" "wrong" "I", .code yX12_has cX12_has 2 (some .boolean), .static yX12_has, .methodLink RX12 228 yX12_has, .code yX12_lowest cX12_lowest 2 (some .int), .static yX12_lowest, .methodLink RX12 232 yX12_lowest, .code yX12_highest cX12_highest 2 (some .int), .static yX12_highest, .methodLink RX12 235 yX12_highest, .code yX12_number cX12_number 4 (some .int), .code yX12_isDigit cX12_isDigit 1 (some .boolean), .static yX12_isDigit, .methodLink RX12 134 yX12_isDigit, .code yX12_bad cX12_bad 1 none, .instanceMethod yX12_bad, .selects RX12 yX12_bad yX12_bad, .methodLink RX12 128 yX12_bad, .code yX12_in cX12_in 3 (some .boolean), .static yX12_in, .methodLink RX12 217 yX12_in, .instanceMethod yX12_number, .selects RX12 yX12_number yX12_number, .methodLink RX12 238 yX12_number] : List Cond) ++ wsX120)
set_option maxRecDepth 20000 in
theorem g_X12_items_0 : GoodIn q_X12_items (va_wsS RX12 221 yX12_usual q_X12_usual_4) := goodIn_app (goodIn_r _ [4, 3, 2] rfl (by decide +kernel)) (goodIn_r (.code yX12_usual cX12_usual 2 (some .int) :: []) [1] rfl (by decide +kernel))
set_option maxRecDepth 20000 in
theorem g_X12_items_1 : GoodIn q_X12_items (va_wsS RX12 221 yX12_usual q_X12_usual_5) := goodIn_app (goodIn_r _ [4, 3, 2] rfl (by decide +kernel)) (goodIn_r (.code yX12_usual cX12_usual 2 (some .int) :: []) [1] rfl (by decide +kernel))
set_option maxRecDepth 20000 in
theorem g_X12_items_2 : GoodIn q_X12_items (va_wsS RX12 221 yX12_usual q_X12_usual_6) := goodIn_app (goodIn_r _ [4, 3, 2] rfl (by decide +kernel)) (goodIn_r (.code yX12_usual cX12_usual 2 (some .int) :: []) [1] rfl (by decide +kernel))
set_option maxRecDepth 20000 in
theorem g_X12_items_3 : GoodIn q_X12_items (va_wsS RX12 221 yX12_usual q_X12_usual_7) := goodIn_app (goodIn_r _ [4, 3, 2] rfl (by decide +kernel)) (goodIn_r (.code yX12_usual cX12_usual 2 (some .int) :: []) [1] rfl (by decide +kernel))
set_option maxRecDepth 20000 in
theorem g_X12_items_4 : GoodIn q_X12_items (va_wsS RX12 221 yX12_usual q_X12_usual_8) := goodIn_app (goodIn_r _ [4, 3, 2] rfl (by decide +kernel)) (goodIn_r (.code yX12_usual cX12_usual 2 (some .int) :: []) [1] rfl (by decide +kernel))
set_option maxRecDepth 20000 in
theorem g_X12_items_5 : GoodIn q_X12_items (wsV RX12 131 RX12 yX12_look q_X12_look) := goodIn_app (goodIn_r _ [15, 13, 14, 2] rfl (by decide +kernel)) (goodIn_ca (goodIn_r (.code yX12_look cX12_look 1 (some .int) :: [.code yX12_here cX12_here 1 (some .int), .fieldLink RX12 112 "LeftArgumentsModel" "at" "I", .fieldLink RX12 109 "LeftArgumentsModel" "size" "I", .fieldLink RX12 9 "LeftArgumentsModel" "tape" "[I", .initialized RX12, .instanceMethod yX12_here, .selects RX12 yX12_here yX12_here, .methodLink RX12 115 yX12_here]) [5, 6, 7, 8, 9, 2, 10, 11, 12] rfl (by decide +kernel)) (goodIn_sub (fun _ h => List.mem_cons_of_mem _ (List.mem_append_right _ h)) gwX12))
set_option maxRecDepth 20000 in
theorem g_X12_items_6 : GoodIn q_X12_items (va_wsS RX12 225 yX12_itemOf q_X12_itemOf) := goodIn_app (goodIn_r _ [18, 17, 2] rfl (by decide +kernel)) (goodIn_r (.code yX12_itemOf cX12_itemOf 2 (some .int) :: []) [16] rfl (by decide +kernel))
set_option maxRecDepth 20000 in
theorem g_X12_items_8 : GoodIn q_X12_items (va_wsS RX12 228 yX12_has q_X12_has) := goodIn_app (goodIn_r _ [22, 21, 2] rfl (by decide +kernel)) (goodIn_r (.code yX12_has cX12_has 2 (some .boolean) :: []) [20] rfl (by decide +kernel))
set_option maxRecDepth 20000 in
theorem g_X12_items_9 : GoodIn q_X12_items (va_wsS RX12 232 yX12_lowest q_X12_lowest) := goodIn_app (goodIn_r _ [25, 24, 2] rfl (by decide +kernel)) (goodIn_r (.code yX12_lowest cX12_lowest 2 (some .int) :: []) [23] rfl (by decide +kernel))
set_option maxRecDepth 20000 in
theorem g_X12_items_10 : GoodIn q_X12_items (va_wsS RX12 235 yX12_highest q_X12_highest) := goodIn_app (goodIn_r _ [28, 27, 2] rfl (by decide +kernel)) (goodIn_r (.code yX12_highest cX12_highest 2 (some .int) :: []) [26] rfl (by decide +kernel))
set_option maxRecDepth 20000 in
theorem g_X12_items_11 : GoodIn q_X12_items (wsV RX12 238 RX12 yX12_number q_X12_number) := goodIn_app (goodIn_r _ [42, 40, 41, 2] rfl (by decide +kernel)) (goodIn_ca (goodIn_r (.code yX12_number cX12_number 4 (some .int) :: [.code yX12_look cX12_look 1 (some .int), .code yX12_here cX12_here 1 (some .int), .fieldLink RX12 112 "LeftArgumentsModel" "at" "I", .fieldLink RX12 109 "LeftArgumentsModel" "size" "I", .fieldLink RX12 9 "LeftArgumentsModel" "tape" "[I", .initialized RX12, .instanceMethod yX12_here, .selects RX12 yX12_here yX12_here, .methodLink RX12 115 yX12_here, .instanceMethod yX12_look, .selects RX12 yX12_look yX12_look, .methodLink RX12 131 yX12_look, .code yX12_isDigit cX12_isDigit 1 (some .boolean), .static yX12_isDigit, .methodLink RX12 134 yX12_isDigit, .code yX12_bad cX12_bad 1 none, .fieldLink RX12 119 "LeftArgumentsModel" "wrong" "I", .instanceMethod yX12_bad, .selects RX12 yX12_bad yX12_bad, .methodLink RX12 128 yX12_bad, .code yX12_in cX12_in 3 (some .boolean), .static yX12_in, .methodLink RX12 217 yX12_in]) [29, 5, 6, 7, 8, 9, 2, 10, 11, 12, 13, 14, 15, 30, 31, 32, 33, 19, 34, 35, 36, 37, 38, 39] rfl (by decide +kernel)) (goodIn_sub (fun _ h => List.mem_cons_of_mem _ (List.mem_append_right _ h)) gwX12))
set_option maxHeartbeats 4000000 in
set_option maxRecDepth 100000 in
theorem k_X12_items (l : Launch) (dC : Nat → ClassId) (dI : Nat → Nat → Nat) (h0 : Nat) (h1 : Nat) (h2 : Nat) (v0 : Int32) (v1 : Int32) (v2 : Int32) (v3 : Int32) (r0 : Nat) (r1 : Nat) (r2 : Nat) (r3 : Nat) (r4 : Nat) (r5 : Nat) (r6 : Nat) (v4 : Int32) (v5 : Int32) (r7 : Nat) (r8 : Nat) (r9 : Nat) (v6 : Int32) (r10 : Nat) (r11 : Nat) (v7 : Int32) (v8 : Int32) (r12 : Nat) (r13 : Nat) (v9 : Int32) (v10 : Int32) (r14 : Nat) (v11 : Int32) (v12 : Int32) (r15 : Nat) (v13 : Int32) (w14 : Int64) (r16 : Nat) (v15 : Int32) (v16 : Int32) (r17 : Nat) (r18 : Nat) (r19 : Nat) (r20 : Nat) (r21 : Nat) (r22 : Nat) (v17 : Int32) (r23 : Nat) (r24 : Nat) (r25 : Nat) (v18 : Int32) (g0 : ClassId) (f19 : Nat → Int32) (g1 : ClassId) (f20 : Nat → Int32) (i_v1 : 0 ≤ v1.toInt ∧ v1.toInt ≤ 240) (i_v2 : 0 ≤ v2.toInt ∧ v2.toInt ≤ 240) (i_v4 : 0 ≤ v4.toInt ∧ v4.toInt ≤ 4) (i_v5 : 0 ≤ v5.toInt ∧ v5.toInt ≤ 4) (i_v6 : 0 ≤ v6.toInt ∧ v6.toInt ≤ 8) (i_v7 : 0 ≤ v7.toInt ∧ v7.toInt ≤ 8) (i_v8 : 0 ≤ v8.toInt ∧ v8.toInt ≤ 1) (i_v9 : -1 ≤ v9.toInt ∧ v9.toInt ≤ 3) (i_v13 : 0 ≤ v13.toInt ∧ v13.toInt ≤ 40) (i_v17 : 0 ≤ v17.toInt ∧ v17.toInt ≤ 10) (i_v18 : 0 ≤ v18.toInt ∧ v18.toInt ≤ 1) (ia_f19 : (∀ j, 0 ≤ (f19 j).toInt ∧ (f19 j).toInt ≤ 255)) (sz : Nat) : Met l yX12_items q_X12_items ({ frames := 3, cells := 0, slots := 0, locals := 63 }) (va_Pc [.ref h0, .int 98, .ref h2, .int 0, .int 5] (fun U => U.heap.size = sz ∧ va_P (dC, dI) vwCl (wd_b9c2d44b h0 v0 h1 v1 v2 (-1) v3 r0 r1 r2 r3 r4 r5 r6 v4 v5 r7 r8 r9 h2 v6 r10 r11 v7 v8 r12 r13 v9 v10 r14 v11 v12 r15 v13 w14 r16 v15 v16 r17 r18 r19 r20 r21 r22 v17 r23 r24 r25 v18 h1 g0 f19 h2 g1 f20) U.heap ∧ va_K (dC, dI) vwCl [(g0, .int), (g1, .int)] U ∧ va_D (fun _ => True) (wd_b9c2d44b h0 v0 h1 v1 v2 (-1) v3 r0 r1 r2 r3 r4 r5 r6 v4 v5 r7 r8 r9 h2 v6 r10 r11 v7 v8 r12 r13 v9 v10 r14 v11 v12 r15 v13 w14 r16 v15 v16 r17 r18 r19 r20 r21 r22 v17 r23 r24 r25 v18 h1 g0 f19 h2 g1 f20))) (va_Qv (fun (_ : Unit) => True) (fun (_ : Unit) (t : State) => (∃ (o_h0_3 : Int32) (o_h2 : Nat → Int32), 0 ≤ o_h0_3.toInt ∧ o_h0_3.toInt ≤ 240 ∧ (v2.toInt ≤ o_h0_3.toInt) ∧ (pm_bb 0 f20 o_h2) ∧ (pg_items f19 v1.toInt false 0 300 v2.toInt 0 (pg_us f20 0) = ((true, o_h0_3.toInt), o_h2)) ∧ va_P (dC, dI) vwCl (wd_b9c2d44b h0 v0 h1 v1 o_h0_3 (-1) v3 r0 r1 r2 r3 r4 r5 r6 v4 v5 r7 r8 r9 h2 v6 r10 r11 v7 v8 r12 r13 v9 v10 r14 v11 v12 r15 v13 w14 r16 v15 v16 r17 r18 r19 r20 r21 r22 v17 r23 r24 r25 v18 h1 g0 f19 h2 g1 o_h2) t.heap ∧ va_K (dC, dI) vwCl [] t ∧ va_D (va_A (wd_b9c2d44b h0 v0 h1 v1 v2 (-1) v3 r0 r1 r2 r3 r4 r5 r6 v4 v5 r7 r8 r9 h2 v6 r10 r11 v7 v8 r12 r13 v9 v10 r14 v11 v12 r15 v13 w14 r16 v15 v16 r17 r18 r19 r20 r21 r22 v17 r23 r24 r25 v18 h1 g0 f19 h2 g1 f20) sz) (wd_b9c2d44b h0 v0 h1 v1 o_h0_3 (-1) v3 r0 r1 r2 r3 r4 r5 r6 v4 v5 r7 r8 r9 h2 v6 r10 r11 v7 v8 r12 r13 v9 v10 r14 v11 v12 r15 v13 w14 r16 v15 v16 r17 r18 r19 r20 r21 r22 v17 r23 r24 r25 v18 h1 g0 f19 h2 g1 o_h2)) ∨ (∃ (o_h0_3 : Int32) (o_h0_4 : Int32) (o_h2 : Nat → Int32), 0 ≤ o_h0_3.toInt ∧ o_h0_3.toInt ≤ 240 ∧ 0 ≤ o_h0_4.toInt ∧ o_h0_4.toInt ≤ 240 ∧ (v2.toInt ≤ o_h0_3.toInt) ∧ ((pg_items f19 v1.toInt false 0 300 v2.toInt 0 (pg_us f20 0)).1 = (false, o_h0_4.toInt)) ∧ va_P (dC, dI) vwCl (wd_b9c2d44b h0 v0 h1 v1 o_h0_3 o_h0_4 v3 r0 r1 r2 r3 r4 r5 r6 v4 v5 r7 r8 r9 h2 v6 r10 r11 v7 v8 r12 r13 v9 v10 r14 v11 v12 r15 v13 w14 r16 v15 v16 r17 r18 r19 r20 r21 r22 v17 r23 r24 r25 v18 h1 g0 f19 h2 g1 o_h2) t.heap ∧ va_K (dC, dI) vwCl [] t ∧ va_D (va_A (wd_b9c2d44b h0 v0 h1 v1 v2 (-1) v3 r0 r1 r2 r3 r4 r5 r6 v4 v5 r7 r8 r9 h2 v6 r10 r11 v7 v8 r12 r13 v9 v10 r14 v11 v12 r15 v13 w14 r16 v15 v16 r17 r18 r19 r20 r21 r22 v17 r23 r24 r25 v18 h1 g0 f19 h2 g1 f20) sz) (wd_b9c2d44b h0 v0 h1 v1 o_h0_3 o_h0_4 v3 r0 r1 r2 r3 r4 r5 r6 v4 v5 r7 r8 r9 h2 v6 r10 r11 v7 v8 r12 r13 v9 v10 r14 v11 v12 r15 v13 w14 r16 v15 v16 r17 r18 r19 r20 r21 r22 v17 r23 r24 r25 v18 h1 g0 f19 h2 g1 o_h2))) (va_A (wd_b9c2d44b h0 v0 h1 v1 v2 (-1) v3 r0 r1 r2 r3 r4 r5 r6 v4 v5 r7 r8 r9 h2 v6 r10 r11 v7 v8 r12 r13 v9 v10 r14 v11 v12 r15 v13 w14 r16 v15 v16 r17 r18 r19 r20 r21 r22 v17 r23 r24 r25 v18 h1 g0 f19 h2 g1 f20) sz)) 0 0 (va_A (wd_b9c2d44b h0 v0 h1 v1 v2 (-1) v3 r0 r1 r2 r3 r4 r5 r6 v4 v5 r7 r8 r9 h2 v6 r10 r11 v7 v8 r12 r13 v9 v10 r14 v11 v12 r15 v13 w14 r16 v15 v16 r17 r18 r19 r20 r21 r22 v17 r23 r24 r25 v18 h1 g0 f19 h2 g1 f20) sz) := by
  refine Met.ofW (cc := cX12_items) (maxL := 7) (ret := none) (by decide) rfl ?_
  intro p e s m args below meth c s₁ B hml hv
  obtain ⟨i_v1a, i_v1b⟩ := i_v1
  obtain ⟨i_v2a, i_v2b⟩ := i_v2
  obtain ⟨i_v4a, i_v4b⟩ := i_v4
  obtain ⟨i_v5a, i_v5b⟩ := i_v5
  obtain ⟨i_v6a, i_v6b⟩ := i_v6
  obtain ⟨i_v7a, i_v7b⟩ := i_v7
  obtain ⟨i_v8a, i_v8b⟩ := i_v8
  obtain ⟨i_v9a, i_v9b⟩ := i_v9
  obtain ⟨i_v13a, i_v13b⟩ := i_v13
  obtain ⟨i_v17a, i_v17b⟩ := i_v17
  obtain ⟨i_v18a, i_v18b⟩ := i_v18
  obtain ⟨rfl, hsz, hP, hK, hD0⟩ := hv
  have hx := B.exec
  have hb := B.bytes
  have hr := B.returns
  have hts := atoms_spec (ws := q_X12_items) B.pre
  have hown : s.vm.findClass RX12 = some m.cls := findClass_of_methodNamed B.named
  have hlocks := B.notSynchronized
  subst hsz
  have hD := hD0.self (sz := s.heap.size)
  generalize hAe : va_A (wd_b9c2d44b h0 v0 h1 v1 v2 (-1) v3 r0 r1 r2 r3 r4 r5 r6 v4 v5 r7 r8 r9 h2 v6 r10 r11 v7 v8 r12 r13 v9 v10 r14 v11 v12 r15 v13 w14 r16 v15 v16 r17 r18 r19 r20 r21 r22 v17 r23 r24 r25 v18 h1 g0 f19 h2 g1 f20) s.heap.size = A at hD ⊢
  have hA : ∀ q : Nat, s.heap.size ≤ q → A q := fun q h => by rw [← hAe]; exact Or.inr h
  have hS : va_S A s.heap s.heap [] := va_S.rf
  generalize hQ : (MQ below _ _ s 0 0 A) = Q
  have hl := lv_entry ([.ref h0, .int 98, .ref h2, .int 0, .int 5]) (n := 7) (Nat.le_of_ble_eq_true rfl)
  rw [lg_entry_eq]
  generalize (lg_sl ([.ref h0, .int 98, .ref h2, .int 0, .int 5]) ++ List.replicate (7 - (lg_sl ([.ref h0, .int 98, .ref h2, .int 0, .int 5])).length) Slot.unset).toArray = ls at hl ⊢
  have hl : lv_has ls 7 [(0, .ref h0), (1, .int 98), (2, .ref h2), (3, .int 0), (4, .int 5)] := hl
  obtain ⟨H, hH⟩ : ∃ H : Heap, H = s.heap := ⟨_, rfl⟩
  obtain ⟨locs, hlocs⟩ : ∃ y : List Loc, y = [] := ⟨_, rfl⟩
  have hS : va_S A s.heap H locs := by rw [hH, hlocs]; exact va_S.rf
  have hP : va_P (dC, dI) vwCl (wd_b9c2d44b h0 v0 h1 v1 v2 (-1) v3 r0 r1 r2 r3 r4 r5 r6 v4 v5 r7 r8 r9 h2 v6 r10 r11 v7 v8 r12 r13 v9 v10 r14 v11 v12 r15 v13 w14 r16 v15 v16 r17 r18 r19 r20 r21 r22 v17 r23 r24 r25 v18 h1 g0 f19 h2 g1 f20) H := by rw [hH]; exact hP
  rw [← hH, ← hlocs]
  refine lv_iconst (v := 0) hx hb dX12_items_0 (by decide) ?_
  refine lv_istore (lv' := [(5, .int 0), (0, .ref h0), (1, .int 98), (2, .ref h2), (3, .int 0), (4, .int 5)]) hx hb dX12_items_1 hl (by decide) rfl (fun ls hl => ?_)
  refine lv_iload hx hb dX12_items_3 (lv_at hl 0 rfl) ?_
  refine lv_iload hx hb dX12_items_5 (lv_at hl 5 rfl) ?_
  refine lv_icmp_ge (tgt := 28) hx hb dX12_items_7 (by decide) (fun c => absurd c (by decide)) (fun _ => ?_)
  refine lv_aload_n hx hb dX12_items_10 rfl (lv_at hl 3 rfl) ?_
  refine lv_iload_n hx hb dX12_items_11 rfl (lv_at hl 4 rfl) ?_
  refine lv_iload hx hb dX12_items_12 (lv_at hl 0 rfl) ?_
  refine lv_iadd hx hb dX12_items_14 ?_
  refine lv_topi (fun tv1 etv1 => ?_)
  obtain rfl : tv1 = (0 : Int32) := etv1.trans (by first | rfl | decide)
  refine lv_iload_n hx hb dX12_items_15 rfl (lv_at hl 2 rfl) ?_
  refine lv_iload hx hb dX12_items_16 (lv_at hl 0 rfl) ?_
  have hPc := hP.sub (ws' := []) [] rfl
  have hDc := hD.sub (ws' := []) [] (by decide) rfl
  have hKc := hK.sub (tys' := []) [] rfl
  have hFc := va_free (wc := []) hD hS hA [] rfl
  refine va_calli (va_runS (As := [.int 98, .int 0]) (rest := [.int 0, .ref h2]) ⟨hx, hb, hml, hown, hts⟩ (k_X12_usual_4 l dC dI   H.size) (va_cwS 2 hts g_X12_items_0 rfl rfl rfl (by decide +kernel) ⟨Nat.le_of_ble_eq_true rfl, Nat.le_of_ble_eq_true rfl⟩) (pv_PS hPc hKc hDc) rfl rfl hl.1 rfl (lv_room (Nat.le_of_ble_eq_true rfl)) dX12_items_18 ⟨Nat.le_of_ble_eq_true rfl, Nat.le_of_ble_eq_true rfl⟩) hS (fun q _ h => hFc q h) hFc (fun ra2 u t H1 locs ht hvm hwra2 hB hz1 hk1 hS => ?_)
  try rw [hwra2] at hB
  obtain ⟨pt0_ra2, pt1_ra2, hP1, hK1, hD1⟩ := hB
  rw [ht] at hP1
  obtain ⟨hP2, hD2⟩ := va_join (wr := (wd_b9c2d44b h0 v0 h1 v1 v2 (-1) v3 r0 r1 r2 r3 r4 r5 r6 v4 v5 r7 r8 r9 h2 v6 r10 r11 v7 v8 r12 r13 v9 v10 r14 v11 v12 r15 v13 w14 r16 v15 v16 r17 r18 r19 r20 r21 r22 v17 r23 r24 r25 v18 h1 g0 f19 h2 g1 f20)) (w1 := []) hP hD [] [0, 1, 2] rfl rfl (by decide) (by decide) hk1 hFc hP1 hD1
  clear hP hD hPc hDc hKc hFc hP1 hK1 hD1 hk1 hz1
  generalize H1 = H at hP2 hS ⊢
  have hP : va_P (dC, dI) vwCl (wd_b9c2d44b h0 v0 h1 v1 v2 (-1) v3 r0 r1 r2 r3 r4 r5 r6 v4 v5 r7 r8 r9 h2 v6 r10 r11 v7 v8 r12 r13 v9 v10 r14 v11 v12 r15 v13 w14 r16 v15 v16 r17 r18 r19 r20 r21 r22 v17 r23 r24 r25 v18 h1 g0 f19 h2 g1 f20) H := hP2
  have hD : va_D A (wd_b9c2d44b h0 v0 h1 v1 v2 (-1) v3 r0 r1 r2 r3 r4 r5 r6 v4 v5 r7 r8 r9 h2 v6 r10 r11 v7 v8 r12 r13 v9 v10 r14 v11 v12 r15 v13 w14 r16 v15 v16 r17 r18 r19 r20 r21 r22 v17 r23 r24 r25 v18 h1 g0 f19 h2 g1 f20) := hD2
  clear hP2 hD2
  obtain rfl : ra2 = (3 : Int32) := pv_cs (by decide) pt0_ra2 pt1_ra2
  refine va_iast hx hb hK hP hD hS 2 1 rfl rfl (pv_c (x := 0) (n := 40) (by decide)) dX12_items_21 (fun H locs hP hD hS => ?_)
  obtain ⟨fn3, efn3⟩ : ∃ g : Nat → Int32, g = upd f20 (Int32.toNatClampNeg 0) 3 := ⟨_, rfl⟩
  rw [← efn3] at hP hD
  have hP : va_P (dC, dI) vwCl (wd_b9c2d44b h0 v0 h1 v1 v2 (-1) v3 r0 r1 r2 r3 r4 r5 r6 v4 v5 r7 r8 r9 h2 v6 r10 r11 v7 v8 r12 r13 v9 v10 r14 v11 v12 r15 v13 w14 r16 v15 v16 r17 r18 r19 r20 r21 r22 v17 r23 r24 r25 v18 h1 g0 f19 h2 g1 fn3) H := hP
  have hD : va_D A (wd_b9c2d44b h0 v0 h1 v1 v2 (-1) v3 r0 r1 r2 r3 r4 r5 r6 v4 v5 r7 r8 r9 h2 v6 r10 r11 v7 v8 r12 r13 v9 v10 r14 v11 v12 r15 v13 w14 r16 v15 v16 r17 r18 r19 r20 r21 r22 v17 r23 r24 r25 v18 h1 g0 f19 h2 g1 fn3) := hD
  refine lv_iinc (v := 1) (lv' := [(5, .int 1), (0, .ref h0), (1, .int 98), (2, .ref h2), (3, .int 0), (4, .int 5)]) hx hb dX12_items_22 hl (k := 0) rfl (by decide) (by decide) rfl (fun ls hl => ?_)
  refine lv_goto (tgt := 3) hx hb dX12_items_25 (by decide) ?_
  refine lv_iload hx hb dX12_items_3 (lv_at hl 0 rfl) ?_
  refine lv_iload hx hb dX12_items_5 (lv_at hl 5 rfl) ?_
  refine lv_icmp_ge (tgt := 28) hx hb dX12_items_7 (by decide) (fun c => absurd c (by decide)) (fun _ => ?_)
  refine lv_aload_n hx hb dX12_items_10 rfl (lv_at hl 3 rfl) ?_
  refine lv_iload_n hx hb dX12_items_11 rfl (lv_at hl 4 rfl) ?_
  refine lv_iload hx hb dX12_items_12 (lv_at hl 0 rfl) ?_
  refine lv_iadd hx hb dX12_items_14 ?_
  refine lv_topi (fun tv4 etv4 => ?_)
  obtain rfl : tv4 = (1 : Int32) := etv4.trans (by first | rfl | decide)
  refine lv_iload_n hx hb dX12_items_15 rfl (lv_at hl 2 rfl) ?_
  refine lv_iload hx hb dX12_items_16 (lv_at hl 0 rfl) ?_
  have hPc := hP.sub (ws' := []) [] rfl
  have hDc := hD.sub (ws' := []) [] (by decide) rfl
  have hKc := hK.sub (tys' := []) [] rfl
  have hFc := va_free (wc := []) hD hS hA [] rfl
  refine va_calli (va_runS (As := [.int 98, .int 1]) (rest := [.int 1, .ref h2]) ⟨hx, hb, hml, hown, hts⟩ (k_X12_usual_5 l dC dI   H.size) (va_cwS 2 hts g_X12_items_1 rfl rfl rfl (by decide +kernel) ⟨Nat.le_of_ble_eq_true rfl, Nat.le_of_ble_eq_true rfl⟩) (pv_PS hPc hKc hDc) rfl rfl hl.1 rfl (lv_room (Nat.le_of_ble_eq_true rfl)) dX12_items_18 ⟨Nat.le_of_ble_eq_true rfl, Nat.le_of_ble_eq_true rfl⟩) hS (fun q _ h => hFc q h) hFc (fun ra5 u t H1 locs ht hvm hwra5 hB hz1 hk1 hS => ?_)
  try rw [hwra5] at hB
  obtain ⟨pt0_ra5, pt1_ra5, hP1, hK1, hD1⟩ := hB
  rw [ht] at hP1
  obtain ⟨hP2, hD2⟩ := va_join (wr := (wd_b9c2d44b h0 v0 h1 v1 v2 (-1) v3 r0 r1 r2 r3 r4 r5 r6 v4 v5 r7 r8 r9 h2 v6 r10 r11 v7 v8 r12 r13 v9 v10 r14 v11 v12 r15 v13 w14 r16 v15 v16 r17 r18 r19 r20 r21 r22 v17 r23 r24 r25 v18 h1 g0 f19 h2 g1 fn3)) (w1 := []) hP hD [] [0, 1, 2] rfl rfl (by decide) (by decide) hk1 hFc hP1 hD1
  clear hP hD hPc hDc hKc hFc hP1 hK1 hD1 hk1 hz1
  generalize H1 = H at hP2 hS ⊢
  have hP : va_P (dC, dI) vwCl (wd_b9c2d44b h0 v0 h1 v1 v2 (-1) v3 r0 r1 r2 r3 r4 r5 r6 v4 v5 r7 r8 r9 h2 v6 r10 r11 v7 v8 r12 r13 v9 v10 r14 v11 v12 r15 v13 w14 r16 v15 v16 r17 r18 r19 r20 r21 r22 v17 r23 r24 r25 v18 h1 g0 f19 h2 g1 fn3) H := hP2
  have hD : va_D A (wd_b9c2d44b h0 v0 h1 v1 v2 (-1) v3 r0 r1 r2 r3 r4 r5 r6 v4 v5 r7 r8 r9 h2 v6 r10 r11 v7 v8 r12 r13 v9 v10 r14 v11 v12 r15 v13 w14 r16 v15 v16 r17 r18 r19 r20 r21 r22 v17 r23 r24 r25 v18 h1 g0 f19 h2 g1 fn3) := hD2
  clear hP2 hD2
  obtain rfl : ra5 = (4 : Int32) := pv_cs (by decide) pt0_ra5 pt1_ra5
  refine va_iast hx hb hK hP hD hS 2 1 rfl rfl (pv_c (x := 1) (n := 40) (by decide)) dX12_items_21 (fun H locs hP hD hS => ?_)
  obtain ⟨fn6, efn6⟩ : ∃ g : Nat → Int32, g = upd fn3 (Int32.toNatClampNeg 1) 4 := ⟨_, rfl⟩
  rw [← efn6] at hP hD
  have hP : va_P (dC, dI) vwCl (wd_b9c2d44b h0 v0 h1 v1 v2 (-1) v3 r0 r1 r2 r3 r4 r5 r6 v4 v5 r7 r8 r9 h2 v6 r10 r11 v7 v8 r12 r13 v9 v10 r14 v11 v12 r15 v13 w14 r16 v15 v16 r17 r18 r19 r20 r21 r22 v17 r23 r24 r25 v18 h1 g0 f19 h2 g1 fn6) H := hP
  have hD : va_D A (wd_b9c2d44b h0 v0 h1 v1 v2 (-1) v3 r0 r1 r2 r3 r4 r5 r6 v4 v5 r7 r8 r9 h2 v6 r10 r11 v7 v8 r12 r13 v9 v10 r14 v11 v12 r15 v13 w14 r16 v15 v16 r17 r18 r19 r20 r21 r22 v17 r23 r24 r25 v18 h1 g0 f19 h2 g1 fn6) := hD
  refine lv_iinc (v := 2) (lv' := [(5, .int 2), (0, .ref h0), (1, .int 98), (2, .ref h2), (3, .int 0), (4, .int 5)]) hx hb dX12_items_22 hl (k := 0) rfl (by decide) (by decide) rfl (fun ls hl => ?_)
  refine lv_goto (tgt := 3) hx hb dX12_items_25 (by decide) ?_
  refine lv_iload hx hb dX12_items_3 (lv_at hl 0 rfl) ?_
  refine lv_iload hx hb dX12_items_5 (lv_at hl 5 rfl) ?_
  refine lv_icmp_ge (tgt := 28) hx hb dX12_items_7 (by decide) (fun c => absurd c (by decide)) (fun _ => ?_)
  refine lv_aload_n hx hb dX12_items_10 rfl (lv_at hl 3 rfl) ?_
  refine lv_iload_n hx hb dX12_items_11 rfl (lv_at hl 4 rfl) ?_
  refine lv_iload hx hb dX12_items_12 (lv_at hl 0 rfl) ?_
  refine lv_iadd hx hb dX12_items_14 ?_
  refine lv_topi (fun tv7 etv7 => ?_)
  obtain rfl : tv7 = (2 : Int32) := etv7.trans (by first | rfl | decide)
  refine lv_iload_n hx hb dX12_items_15 rfl (lv_at hl 2 rfl) ?_
  refine lv_iload hx hb dX12_items_16 (lv_at hl 0 rfl) ?_
  have hPc := hP.sub (ws' := []) [] rfl
  have hDc := hD.sub (ws' := []) [] (by decide) rfl
  have hKc := hK.sub (tys' := []) [] rfl
  have hFc := va_free (wc := []) hD hS hA [] rfl
  refine va_calli (va_runS (As := [.int 98, .int 2]) (rest := [.int 2, .ref h2]) ⟨hx, hb, hml, hown, hts⟩ (k_X12_usual_6 l dC dI   H.size) (va_cwS 2 hts g_X12_items_2 rfl rfl rfl (by decide +kernel) ⟨Nat.le_of_ble_eq_true rfl, Nat.le_of_ble_eq_true rfl⟩) (pv_PS hPc hKc hDc) rfl rfl hl.1 rfl (lv_room (Nat.le_of_ble_eq_true rfl)) dX12_items_18 ⟨Nat.le_of_ble_eq_true rfl, Nat.le_of_ble_eq_true rfl⟩) hS (fun q _ h => hFc q h) hFc (fun ra8 u t H1 locs ht hvm hwra8 hB hz1 hk1 hS => ?_)
  try rw [hwra8] at hB
  obtain ⟨pt0_ra8, pt1_ra8, hP1, hK1, hD1⟩ := hB
  rw [ht] at hP1
  obtain ⟨hP2, hD2⟩ := va_join (wr := (wd_b9c2d44b h0 v0 h1 v1 v2 (-1) v3 r0 r1 r2 r3 r4 r5 r6 v4 v5 r7 r8 r9 h2 v6 r10 r11 v7 v8 r12 r13 v9 v10 r14 v11 v12 r15 v13 w14 r16 v15 v16 r17 r18 r19 r20 r21 r22 v17 r23 r24 r25 v18 h1 g0 f19 h2 g1 fn6)) (w1 := []) hP hD [] [0, 1, 2] rfl rfl (by decide) (by decide) hk1 hFc hP1 hD1
  clear hP hD hPc hDc hKc hFc hP1 hK1 hD1 hk1 hz1
  generalize H1 = H at hP2 hS ⊢
  have hP : va_P (dC, dI) vwCl (wd_b9c2d44b h0 v0 h1 v1 v2 (-1) v3 r0 r1 r2 r3 r4 r5 r6 v4 v5 r7 r8 r9 h2 v6 r10 r11 v7 v8 r12 r13 v9 v10 r14 v11 v12 r15 v13 w14 r16 v15 v16 r17 r18 r19 r20 r21 r22 v17 r23 r24 r25 v18 h1 g0 f19 h2 g1 fn6) H := hP2
  have hD : va_D A (wd_b9c2d44b h0 v0 h1 v1 v2 (-1) v3 r0 r1 r2 r3 r4 r5 r6 v4 v5 r7 r8 r9 h2 v6 r10 r11 v7 v8 r12 r13 v9 v10 r14 v11 v12 r15 v13 w14 r16 v15 v16 r17 r18 r19 r20 r21 r22 v17 r23 r24 r25 v18 h1 g0 f19 h2 g1 fn6) := hD2
  clear hP2 hD2
  obtain rfl : ra8 = (3 : Int32) := pv_cs (by decide) pt0_ra8 pt1_ra8
  refine va_iast hx hb hK hP hD hS 2 1 rfl rfl (pv_c (x := 2) (n := 40) (by decide)) dX12_items_21 (fun H locs hP hD hS => ?_)
  obtain ⟨fn9, efn9⟩ : ∃ g : Nat → Int32, g = upd fn6 (Int32.toNatClampNeg 2) 3 := ⟨_, rfl⟩
  rw [← efn9] at hP hD
  have hP : va_P (dC, dI) vwCl (wd_b9c2d44b h0 v0 h1 v1 v2 (-1) v3 r0 r1 r2 r3 r4 r5 r6 v4 v5 r7 r8 r9 h2 v6 r10 r11 v7 v8 r12 r13 v9 v10 r14 v11 v12 r15 v13 w14 r16 v15 v16 r17 r18 r19 r20 r21 r22 v17 r23 r24 r25 v18 h1 g0 f19 h2 g1 fn9) H := hP
  have hD : va_D A (wd_b9c2d44b h0 v0 h1 v1 v2 (-1) v3 r0 r1 r2 r3 r4 r5 r6 v4 v5 r7 r8 r9 h2 v6 r10 r11 v7 v8 r12 r13 v9 v10 r14 v11 v12 r15 v13 w14 r16 v15 v16 r17 r18 r19 r20 r21 r22 v17 r23 r24 r25 v18 h1 g0 f19 h2 g1 fn9) := hD
  refine lv_iinc (v := 3) (lv' := [(5, .int 3), (0, .ref h0), (1, .int 98), (2, .ref h2), (3, .int 0), (4, .int 5)]) hx hb dX12_items_22 hl (k := 0) rfl (by decide) (by decide) rfl (fun ls hl => ?_)
  refine lv_goto (tgt := 3) hx hb dX12_items_25 (by decide) ?_
  refine lv_iload hx hb dX12_items_3 (lv_at hl 0 rfl) ?_
  refine lv_iload hx hb dX12_items_5 (lv_at hl 5 rfl) ?_
  refine lv_icmp_ge (tgt := 28) hx hb dX12_items_7 (by decide) (fun c => absurd c (by decide)) (fun _ => ?_)
  refine lv_aload_n hx hb dX12_items_10 rfl (lv_at hl 3 rfl) ?_
  refine lv_iload_n hx hb dX12_items_11 rfl (lv_at hl 4 rfl) ?_
  refine lv_iload hx hb dX12_items_12 (lv_at hl 0 rfl) ?_
  refine lv_iadd hx hb dX12_items_14 ?_
  refine lv_topi (fun tv10 etv10 => ?_)
  obtain rfl : tv10 = (3 : Int32) := etv10.trans (by first | rfl | decide)
  refine lv_iload_n hx hb dX12_items_15 rfl (lv_at hl 2 rfl) ?_
  refine lv_iload hx hb dX12_items_16 (lv_at hl 0 rfl) ?_
  have hPc := hP.sub (ws' := []) [] rfl
  have hDc := hD.sub (ws' := []) [] (by decide) rfl
  have hKc := hK.sub (tys' := []) [] rfl
  have hFc := va_free (wc := []) hD hS hA [] rfl
  refine va_calli (va_runS (As := [.int 98, .int 3]) (rest := [.int 3, .ref h2]) ⟨hx, hb, hml, hown, hts⟩ (k_X12_usual_7 l dC dI   H.size) (va_cwS 2 hts g_X12_items_3 rfl rfl rfl (by decide +kernel) ⟨Nat.le_of_ble_eq_true rfl, Nat.le_of_ble_eq_true rfl⟩) (pv_PS hPc hKc hDc) rfl rfl hl.1 rfl (lv_room (Nat.le_of_ble_eq_true rfl)) dX12_items_18 ⟨Nat.le_of_ble_eq_true rfl, Nat.le_of_ble_eq_true rfl⟩) hS (fun q _ h => hFc q h) hFc (fun ra11 u t H1 locs ht hvm hwra11 hB hz1 hk1 hS => ?_)
  try rw [hwra11] at hB
  obtain ⟨pt0_ra11, pt1_ra11, hP1, hK1, hD1⟩ := hB
  rw [ht] at hP1
  obtain ⟨hP2, hD2⟩ := va_join (wr := (wd_b9c2d44b h0 v0 h1 v1 v2 (-1) v3 r0 r1 r2 r3 r4 r5 r6 v4 v5 r7 r8 r9 h2 v6 r10 r11 v7 v8 r12 r13 v9 v10 r14 v11 v12 r15 v13 w14 r16 v15 v16 r17 r18 r19 r20 r21 r22 v17 r23 r24 r25 v18 h1 g0 f19 h2 g1 fn9)) (w1 := []) hP hD [] [0, 1, 2] rfl rfl (by decide) (by decide) hk1 hFc hP1 hD1
  clear hP hD hPc hDc hKc hFc hP1 hK1 hD1 hk1 hz1
  generalize H1 = H at hP2 hS ⊢
  have hP : va_P (dC, dI) vwCl (wd_b9c2d44b h0 v0 h1 v1 v2 (-1) v3 r0 r1 r2 r3 r4 r5 r6 v4 v5 r7 r8 r9 h2 v6 r10 r11 v7 v8 r12 r13 v9 v10 r14 v11 v12 r15 v13 w14 r16 v15 v16 r17 r18 r19 r20 r21 r22 v17 r23 r24 r25 v18 h1 g0 f19 h2 g1 fn9) H := hP2
  have hD : va_D A (wd_b9c2d44b h0 v0 h1 v1 v2 (-1) v3 r0 r1 r2 r3 r4 r5 r6 v4 v5 r7 r8 r9 h2 v6 r10 r11 v7 v8 r12 r13 v9 v10 r14 v11 v12 r15 v13 w14 r16 v15 v16 r17 r18 r19 r20 r21 r22 v17 r23 r24 r25 v18 h1 g0 f19 h2 g1 fn9) := hD2
  clear hP2 hD2
  obtain rfl : ra11 = (0 : Int32) := pv_cs (by decide) pt0_ra11 pt1_ra11
  refine va_iast hx hb hK hP hD hS 2 1 rfl rfl (pv_c (x := 3) (n := 40) (by decide)) dX12_items_21 (fun H locs hP hD hS => ?_)
  obtain ⟨fn12, efn12⟩ : ∃ g : Nat → Int32, g = upd fn9 (Int32.toNatClampNeg 3) 0 := ⟨_, rfl⟩
  rw [← efn12] at hP hD
  have hP : va_P (dC, dI) vwCl (wd_b9c2d44b h0 v0 h1 v1 v2 (-1) v3 r0 r1 r2 r3 r4 r5 r6 v4 v5 r7 r8 r9 h2 v6 r10 r11 v7 v8 r12 r13 v9 v10 r14 v11 v12 r15 v13 w14 r16 v15 v16 r17 r18 r19 r20 r21 r22 v17 r23 r24 r25 v18 h1 g0 f19 h2 g1 fn12) H := hP
  have hD : va_D A (wd_b9c2d44b h0 v0 h1 v1 v2 (-1) v3 r0 r1 r2 r3 r4 r5 r6 v4 v5 r7 r8 r9 h2 v6 r10 r11 v7 v8 r12 r13 v9 v10 r14 v11 v12 r15 v13 w14 r16 v15 v16 r17 r18 r19 r20 r21 r22 v17 r23 r24 r25 v18 h1 g0 f19 h2 g1 fn12) := hD
  refine lv_iinc (v := 4) (lv' := [(5, .int 4), (0, .ref h0), (1, .int 98), (2, .ref h2), (3, .int 0), (4, .int 5)]) hx hb dX12_items_22 hl (k := 0) rfl (by decide) (by decide) rfl (fun ls hl => ?_)
  refine lv_goto (tgt := 3) hx hb dX12_items_25 (by decide) ?_
  refine lv_iload hx hb dX12_items_3 (lv_at hl 0 rfl) ?_
  refine lv_iload hx hb dX12_items_5 (lv_at hl 5 rfl) ?_
  refine lv_icmp_ge (tgt := 28) hx hb dX12_items_7 (by decide) (fun c => absurd c (by decide)) (fun _ => ?_)
  refine lv_aload_n hx hb dX12_items_10 rfl (lv_at hl 3 rfl) ?_
  refine lv_iload_n hx hb dX12_items_11 rfl (lv_at hl 4 rfl) ?_
  refine lv_iload hx hb dX12_items_12 (lv_at hl 0 rfl) ?_
  refine lv_iadd hx hb dX12_items_14 ?_
  refine lv_topi (fun tv13 etv13 => ?_)
  obtain rfl : tv13 = (4 : Int32) := etv13.trans (by first | rfl | decide)
  refine lv_iload_n hx hb dX12_items_15 rfl (lv_at hl 2 rfl) ?_
  refine lv_iload hx hb dX12_items_16 (lv_at hl 0 rfl) ?_
  have hPc := hP.sub (ws' := []) [] rfl
  have hDc := hD.sub (ws' := []) [] (by decide) rfl
  have hKc := hK.sub (tys' := []) [] rfl
  have hFc := va_free (wc := []) hD hS hA [] rfl
  refine va_calli (va_runS (As := [.int 98, .int 4]) (rest := [.int 4, .ref h2]) ⟨hx, hb, hml, hown, hts⟩ (k_X12_usual_8 l dC dI   H.size) (va_cwS 2 hts g_X12_items_4 rfl rfl rfl (by decide +kernel) ⟨Nat.le_of_ble_eq_true rfl, Nat.le_of_ble_eq_true rfl⟩) (pv_PS hPc hKc hDc) rfl rfl hl.1 rfl (lv_room (Nat.le_of_ble_eq_true rfl)) dX12_items_18 ⟨Nat.le_of_ble_eq_true rfl, Nat.le_of_ble_eq_true rfl⟩) hS (fun q _ h => hFc q h) hFc (fun ra14 u t H1 locs ht hvm hwra14 hB hz1 hk1 hS => ?_)
  try rw [hwra14] at hB
  obtain ⟨pt0_ra14, pt1_ra14, hP1, hK1, hD1⟩ := hB
  rw [ht] at hP1
  obtain ⟨hP2, hD2⟩ := va_join (wr := (wd_b9c2d44b h0 v0 h1 v1 v2 (-1) v3 r0 r1 r2 r3 r4 r5 r6 v4 v5 r7 r8 r9 h2 v6 r10 r11 v7 v8 r12 r13 v9 v10 r14 v11 v12 r15 v13 w14 r16 v15 v16 r17 r18 r19 r20 r21 r22 v17 r23 r24 r25 v18 h1 g0 f19 h2 g1 fn12)) (w1 := []) hP hD [] [0, 1, 2] rfl rfl (by decide) (by decide) hk1 hFc hP1 hD1
  clear hP hD hPc hDc hKc hFc hP1 hK1 hD1 hk1 hz1
  generalize H1 = H at hP2 hS ⊢
  have hP : va_P (dC, dI) vwCl (wd_b9c2d44b h0 v0 h1 v1 v2 (-1) v3 r0 r1 r2 r3 r4 r5 r6 v4 v5 r7 r8 r9 h2 v6 r10 r11 v7 v8 r12 r13 v9 v10 r14 v11 v12 r15 v13 w14 r16 v15 v16 r17 r18 r19 r20 r21 r22 v17 r23 r24 r25 v18 h1 g0 f19 h2 g1 fn12) H := hP2
  have hD : va_D A (wd_b9c2d44b h0 v0 h1 v1 v2 (-1) v3 r0 r1 r2 r3 r4 r5 r6 v4 v5 r7 r8 r9 h2 v6 r10 r11 v7 v8 r12 r13 v9 v10 r14 v11 v12 r15 v13 w14 r16 v15 v16 r17 r18 r19 r20 r21 r22 v17 r23 r24 r25 v18 h1 g0 f19 h2 g1 fn12) := hD2
  clear hP2 hD2
  obtain rfl : ra14 = (0 : Int32) := pv_cs (by decide) pt0_ra14 pt1_ra14
  refine va_iast hx hb hK hP hD hS 2 1 rfl rfl (pv_c (x := 4) (n := 40) (by decide)) dX12_items_21 (fun H locs hP hD hS => ?_)
  obtain ⟨fn15, efn15⟩ : ∃ g : Nat → Int32, g = upd fn12 (Int32.toNatClampNeg 4) 0 := ⟨_, rfl⟩
  rw [← efn15] at hP hD
  have hP : va_P (dC, dI) vwCl (wd_b9c2d44b h0 v0 h1 v1 v2 (-1) v3 r0 r1 r2 r3 r4 r5 r6 v4 v5 r7 r8 r9 h2 v6 r10 r11 v7 v8 r12 r13 v9 v10 r14 v11 v12 r15 v13 w14 r16 v15 v16 r17 r18 r19 r20 r21 r22 v17 r23 r24 r25 v18 h1 g0 f19 h2 g1 fn15) H := hP
  have hD : va_D A (wd_b9c2d44b h0 v0 h1 v1 v2 (-1) v3 r0 r1 r2 r3 r4 r5 r6 v4 v5 r7 r8 r9 h2 v6 r10 r11 v7 v8 r12 r13 v9 v10 r14 v11 v12 r15 v13 w14 r16 v15 v16 r17 r18 r19 r20 r21 r22 v17 r23 r24 r25 v18 h1 g0 f19 h2 g1 fn15) := hD
  refine lv_iinc (v := 5) (lv' := [(5, .int 5), (0, .ref h0), (1, .int 98), (2, .ref h2), (3, .int 0), (4, .int 5)]) hx hb dX12_items_22 hl (k := 0) rfl (by decide) (by decide) rfl (fun ls hl => ?_)
  refine lv_goto (tgt := 3) hx hb dX12_items_25 (by decide) ?_
  refine lv_iload hx hb dX12_items_3 (lv_at hl 0 rfl) ?_
  refine lv_iload hx hb dX12_items_5 (lv_at hl 5 rfl) ?_
  refine lv_icmp_ge (tgt := 28) hx hb dX12_items_7 (by decide) (fun _ => ?_) (fun c => absurd (by decide) c)
  refine lv_iconst (v := 0) hx hb dX12_items_28 (by decide) ?_
  refine lv_istore (lv' := [(5, .int 0), (0, .ref h0), (1, .int 98), (2, .ref h2), (3, .int 0), (4, .int 5)]) hx hb dX12_items_29 hl (by decide) rfl (fun ls hl => ?_)
  refine lv_iload_n hx hb dX12_items_31 rfl (lv_at hl 2 rfl) ?_
  refine lv_aload_n hx hb dX12_items_32 rfl (lv_at hl 1 rfl) ?_
  have hPc := hP.sub (ws' := (wd_f4cd022e h0 v0 h1 v1 v2 (-1) v3 r0 r1 r2 r3 r4 r5 r6 v4 v5 r7 r8 r9 h2 v6 r10 r11 v7 v8 r12 r13 v9 v10 r14 v11 v12 r15 v13 w14 r16 v15 v16 r17 r18 r19 r20 r21 r22 v17 r23 r24 r25 v18 h1 g0 f19)) [0, 1] rfl
  have hDc := hD.sub (ws' := (wd_f4cd022e h0 v0 h1 v1 v2 (-1) v3 r0 r1 r2 r3 r4 r5 r6 v4 v5 r7 r8 r9 h2 v6 r10 r11 v7 v8 r12 r13 v9 v10 r14 v11 v12 r15 v13 w14 r16 v15 v16 r17 r18 r19 r20 r21 r22 v17 r23 r24 r25 v18 h1 g0 f19)) [0, 1] (by decide) rfl
  have hKc := hK.sub (tys' := [(g0, .int)]) [0] rfl
  have hFc := va_free (wc := (wd_f4cd022e h0 v0 h1 v1 v2 (-1) v3 r0 r1 r2 r3 r4 r5 r6 v4 v5 r7 r8 r9 h2 v6 r10 r11 v7 v8 r12 r13 v9 v10 r14 v11 v12 r15 v13 w14 r16 v15 v16 r17 r18 r19 r20 r21 r22 v17 r23 r24 r25 v18 h1 g0 f19)) hD hS hA [0, 1] rfl
  refine va_calli (va_runV (As := []) (rest := [.int 98]) ⟨hx, hb, hml, hown, hts⟩ (k_X12_look l dC dI h0 h1 v0 v1 v2 ((-1)) v3 r0 r1 r2 r3 r4 r5 r6 v4 v5 r7 r8 r9 h2 v6 r10 r11 v7 v8 r12 r13 v9 v10 r14 v11 v12 r15 v13 w14 r16 v15 v16 r17 r18 r19 r20 r21 r22 v17 r23 r24 r25 v18 g0 f19 ⟨i_v1a, i_v1b⟩ ⟨i_v2a, i_v2b⟩ ⟨i_v4a, i_v4b⟩ ⟨i_v5a, i_v5b⟩ ⟨i_v6a, i_v6b⟩ ⟨i_v7a, i_v7b⟩ ⟨i_v8a, i_v8b⟩ ⟨i_v9a, i_v9b⟩ ⟨i_v13a, i_v13b⟩ ⟨i_v17a, i_v17b⟩ ⟨i_v18a, i_v18b⟩ ia_f19 H.size) (cwV 0 hts g_X12_items_5 rfl rfl rfl (by decide +kernel) ⟨Nat.le_of_ble_eq_true rfl, Nat.le_of_ble_eq_true rfl⟩) (pv_PV12 hPc hKc hDc (q0 := 0) rfl) rfl rfl hl.1 rfl (lv_room (Nat.le_of_ble_eq_true rfl)) dX12_items_33 ⟨Nat.le_of_ble_eq_true rfl, Nat.le_of_ble_eq_true rfl⟩) hS (fun q _ h => hFc q h) hFc (fun ra16 u t H1 locs ht hvm hwra16 hB hz1 hk1 hS => ?_)
  try rw [hwra16] at hB
  have hkra16_0 : (((-1) : Int32)).toInt = -1 := by decide
  rcases hB with hB | hB
  · skip
    obtain ⟨x17, oa_x17, ob_x17, pt0_ra16, pt1_ra16, pt2_ra16, pt3_ra16, pt4_ra16, pt5_ra16, pt6_ra16, hP1, hK1, hD1⟩ := hB
    rw [ht] at hP1
    obtain ⟨hP2, hD2⟩ := va_join (wr := (wd_aad598ec h2 g1 fn15)) (w1 := (wd_f4cd022e h0 v0 h1 v1 x17 (-1) v3 r0 r1 r2 r3 r4 r5 r6 v4 v5 r7 r8 r9 h2 v6 r10 r11 v7 v8 r12 r13 v9 v10 r14 v11 v12 r15 v13 w14 r16 v15 v16 r17 r18 r19 r20 r21 r22 v17 r23 r24 r25 v18 h1 g0 f19)) hP hD [0, 1] [2] rfl rfl (by decide) (by decide) hk1 hFc hP1 hD1
    clear hP hD hPc hDc hKc hFc hP1 hK1 hD1 hk1 hz1
    generalize H1 = H at hP2 hS ⊢
    have hP := hP2.sub (ws' := (wd_b9c2d44b h0 v0 h1 v1 x17 (-1) v3 r0 r1 r2 r3 r4 r5 r6 v4 v5 r7 r8 r9 h2 v6 r10 r11 v7 v8 r12 r13 v9 v10 r14 v11 v12 r15 v13 w14 r16 v15 v16 r17 r18 r19 r20 r21 r22 v17 r23 r24 r25 v18 h1 g0 f19 h2 g1 fn15)) [1, 2, 0] rfl
    have hD := hD2.sub (ws' := (wd_b9c2d44b h0 v0 h1 v1 x17 (-1) v3 r0 r1 r2 r3 r4 r5 r6 v4 v5 r7 r8 r9 h2 v6 r10 r11 v7 v8 r12 r13 v9 v10 r14 v11 v12 r15 v13 w14 r16 v15 v16 r17 r18 r19 r20 r21 r22 v17 r23 r24 r25 v18 h1 g0 f19 h2 g1 fn15)) [1, 2, 0] (by decide) rfl
    clear hP2 hD2
    obtain rfl : ra16 = ((-1) : Int32) := pv_cs (by decide) pt0_ra16 pt1_ra16
    have hPc := hP.sub (ws' := []) [] rfl
    have hDc := hD.sub (ws' := []) [] (by decide) rfl
    have hKc := hK.sub (tys' := []) [] rfl
    have hFc := va_free (wc := []) hD hS hA [] rfl
    refine va_calli (va_runS (As := [.int 98, .int (-1)]) (rest := []) ⟨hx, hb, hml, hown, hts⟩ (k_X12_itemOf l dC dI ((-1))  H.size) (va_cwS 2 hts g_X12_items_6 rfl rfl rfl (by decide +kernel) ⟨Nat.le_of_ble_eq_true rfl, Nat.le_of_ble_eq_true rfl⟩) (pv_PS hPc hKc hDc) rfl rfl hl.1 rfl (lv_room (Nat.le_of_ble_eq_true rfl)) dX12_items_36 ⟨Nat.le_of_ble_eq_true rfl, Nat.le_of_ble_eq_true rfl⟩) hS (fun q _ h => hFc q h) hFc (fun ra18 u t H1 locs ht hvm hwra18 hB hz1 hk1 hS => ?_)
    try rw [hwra18] at hB
    have hkra18_0 : (((-1) : Int32)).toInt = -1 := by decide
    obtain ⟨pt0_ra18, pt1_ra18, pt2_ra18, pt3_ra18, hP1, hK1, hD1⟩ := hB
    rw [ht] at hP1
    obtain ⟨hP2, hD2⟩ := va_join (wr := (wd_b9c2d44b h0 v0 h1 v1 x17 (-1) v3 r0 r1 r2 r3 r4 r5 r6 v4 v5 r7 r8 r9 h2 v6 r10 r11 v7 v8 r12 r13 v9 v10 r14 v11 v12 r15 v13 w14 r16 v15 v16 r17 r18 r19 r20 r21 r22 v17 r23 r24 r25 v18 h1 g0 f19 h2 g1 fn15)) (w1 := []) hP hD [] [0, 1, 2] rfl rfl (by decide) (by decide) hk1 hFc hP1 hD1
    clear hP hD hPc hDc hKc hFc hP1 hK1 hD1 hk1 hz1
    generalize H1 = H at hP2 hS ⊢
    have hP : va_P (dC, dI) vwCl (wd_b9c2d44b h0 v0 h1 v1 x17 (-1) v3 r0 r1 r2 r3 r4 r5 r6 v4 v5 r7 r8 r9 h2 v6 r10 r11 v7 v8 r12 r13 v9 v10 r14 v11 v12 r15 v13 w14 r16 v15 v16 r17 r18 r19 r20 r21 r22 v17 r23 r24 r25 v18 h1 g0 f19 h2 g1 fn15) H := hP2
    have hD : va_D A (wd_b9c2d44b h0 v0 h1 v1 x17 (-1) v3 r0 r1 r2 r3 r4 r5 r6 v4 v5 r7 r8 r9 h2 v6 r10 r11 v7 v8 r12 r13 v9 v10 r14 v11 v12 r15 v13 w14 r16 v15 v16 r17 r18 r19 r20 r21 r22 v17 r23 r24 r25 v18 h1 g0 f19 h2 g1 fn15) := hD2
    clear hP2 hD2
    have hkra18 : ra18 = pg_it false (pg_ch f19 v1.toInt x17.toInt) := by rw [show pg_ch f19 v1.toInt x17.toInt = (-1) by omega]; exact pt3_ra18
    refine lv_istore (lv' := [(6, .int ra18), (5, .int 0), (0, .ref h0), (1, .int 98), (2, .ref h2), (3, .int 0), (4, .int 5)]) hx hb dX12_items_39 hl (by decide) rfl (fun ls hl => ?_)
    refine lv_aload_n hx hb dX12_items_41 rfl (lv_at hl 2 rfl) ?_
    refine va_get (D := (dC, dI)) (ci := 12) (v := .int (-1)) (C := RX12) (T := TX12) (N := 48) hx hb hts (fun _ h => List.mem_cons_of_mem _ (List.mem_append_right _ h)) hown hK hP 0 rfl rfl 4 (by decide) (hts (.fieldLink RX12 119 "LeftArgumentsModel" "wrong" "I") (List.mem_cons_of_mem _ (List.mem_append_left _ (List.mem_of_getElem? (i := 18) rfl)))) (fun _ h9 => h9) rfl dX12_items_42 ?_
    refine lv_iconst (v := (-1)) hx hb dX12_items_45 (by decide) ?_
    refine lv_icmp_ne (tgt := 131) hx hb dX12_items_46 (by decide) (fun c => absurd (by decide) c) (fun _ => ?_)
    refine lv_iload hx hb dX12_items_49 (lv_at hl 0 rfl) ?_
    refine lv_iconst (v := (-1)) hx hb dX12_items_51 (by decide) ?_
    refine lv_icmp_eq (tgt := 131) hx hb dX12_items_52 (by decide) (fun c19 => ?_) (fun c19 => ?_)
    · skip
      have fc19 : ra18.toInt = (-1) := congrArg Int32.toInt c19
      subst hQ
      have hP9 := hP.sub (ws' := (wd_b9c2d44b h0 v0 h1 v1 x17 (-1) v3 r0 r1 r2 r3 r4 r5 r6 v4 v5 r7 r8 r9 h2 v6 r10 r11 v7 v8 r12 r13 v9 v10 r14 v11 v12 r15 v13 w14 r16 v15 v16 r17 r18 r19 r20 r21 r22 v17 r23 r24 r25 v18 h1 g0 f19 h2 g1 fn15)) [0, 1, 2] rfl
      have hD9 := hD.sub (ws' := (wd_b9c2d44b h0 v0 h1 v1 x17 (-1) v3 r0 r1 r2 r3 r4 r5 r6 v4 v5 r7 r8 r9 h2 v6 r10 r11 v7 v8 r12 r13 v9 v10 r14 v11 v12 r15 v13 w14 r16 v15 v16 r17 r18 r19 r20 r21 r22 v17 r23 r24 r25 v18 h1 g0 f19 h2 g1 fn15)) [0, 1, 2] (by decide) rfl
      have hK9 := hK.sub (tys' := []) [] rfl
      exact W.vret hx hb hr (fun t ht hW => ⟨⟨(), rfl, trivial, Or.inl ⟨x17, fn15, oa_x17, ob_x17, by omega, by first | assumption | (apply pm_bb.init <;> first | assumption | omega | decide), by first | (apply pg_I.out <;> first | assumption | exact Or.inl (by assumption) | exact Or.inr (by assumption)) | (apply pg_items.e0 <;> first | assumption | omega | (apply pg_ur.mk <;> first | assumption | decide) | (apply pg_us.mk <;> first | assumption | omega | decide)) | (apply pg_I.last <;> first | assumption | omega | (show _ = pm_los _; assumption) | (show _ = pm_his _; assumption) | (show _ = pm_lob _; assumption) | (show _ = pm_hib _; assumption)), by rw [ht]; exact hP9, va_K.moved hW.alike hK9, hD9⟩⟩, hS.F ht⟩) hS.2.2 dX12_items_131
    · skip
      have fc19 : ¬ (ra18.toInt = (-1)) := fun h9 => c19 (Int32.toInt_inj.mp h9)
      exfalso; omega
  · skip
    obtain ⟨x20, oa_x20, ob_x20, pt0_ra16, pt1_ra16, pt2_ra16, pt3_ra16, pt4_ra16, pt5_ra16, pt6_ra16, pt7_ra16, hP1, hK1, hD1⟩ := hB
    rw [ht] at hP1
    obtain ⟨hP2, hD2⟩ := va_join (wr := (wd_aad598ec h2 g1 fn15)) (w1 := (wd_f4cd022e h0 v0 h1 v1 x20 (-1) v3 r0 r1 r2 r3 r4 r5 r6 v4 v5 r7 r8 r9 h2 v6 r10 r11 v7 v8 r12 r13 v9 v10 r14 v11 v12 r15 v13 w14 r16 v15 v16 r17 r18 r19 r20 r21 r22 v17 r23 r24 r25 v18 h1 g0 f19)) hP hD [0, 1] [2] rfl rfl (by decide) (by decide) hk1 hFc hP1 hD1
    clear hP hD hPc hDc hKc hFc hP1 hK1 hD1 hk1 hz1
    generalize H1 = H at hP2 hS ⊢
    have hP := hP2.sub (ws' := (wd_b9c2d44b h0 v0 h1 v1 x20 (-1) v3 r0 r1 r2 r3 r4 r5 r6 v4 v5 r7 r8 r9 h2 v6 r10 r11 v7 v8 r12 r13 v9 v10 r14 v11 v12 r15 v13 w14 r16 v15 v16 r17 r18 r19 r20 r21 r22 v17 r23 r24 r25 v18 h1 g0 f19 h2 g1 fn15)) [1, 2, 0] rfl
    have hD := hD2.sub (ws' := (wd_b9c2d44b h0 v0 h1 v1 x20 (-1) v3 r0 r1 r2 r3 r4 r5 r6 v4 v5 r7 r8 r9 h2 v6 r10 r11 v7 v8 r12 r13 v9 v10 r14 v11 v12 r15 v13 w14 r16 v15 v16 r17 r18 r19 r20 r21 r22 v17 r23 r24 r25 v18 h1 g0 f19 h2 g1 fn15)) [1, 2, 0] (by decide) rfl
    clear hP2 hD2
    have hPc := hP.sub (ws' := []) [] rfl
    have hDc := hD.sub (ws' := []) [] (by decide) rfl
    have hKc := hK.sub (tys' := []) [] rfl
    have hFc := va_free (wc := []) hD hS hA [] rfl
    refine va_calli (va_runS (As := [.int 98, .int ra16]) (rest := []) ⟨hx, hb, hml, hown, hts⟩ (k_X12_itemOf l dC dI ra16  H.size) (va_cwS 2 hts g_X12_items_6 rfl rfl rfl (by decide +kernel) ⟨Nat.le_of_ble_eq_true rfl, Nat.le_of_ble_eq_true rfl⟩) (pv_PS hPc hKc hDc) rfl rfl hl.1 rfl (lv_room (Nat.le_of_ble_eq_true rfl)) dX12_items_36 ⟨Nat.le_of_ble_eq_true rfl, Nat.le_of_ble_eq_true rfl⟩) hS (fun q _ h => hFc q h) hFc (fun ra21 u t H1 locs ht hvm hwra21 hB hz1 hk1 hS => ?_)
    try rw [hwra21] at hB
    obtain ⟨pt0_ra21, pt1_ra21, pt2_ra21, pt3_ra21, hP1, hK1, hD1⟩ := hB
    rw [ht] at hP1
    obtain ⟨hP2, hD2⟩ := va_join (wr := (wd_b9c2d44b h0 v0 h1 v1 x20 (-1) v3 r0 r1 r2 r3 r4 r5 r6 v4 v5 r7 r8 r9 h2 v6 r10 r11 v7 v8 r12 r13 v9 v10 r14 v11 v12 r15 v13 w14 r16 v15 v16 r17 r18 r19 r20 r21 r22 v17 r23 r24 r25 v18 h1 g0 f19 h2 g1 fn15)) (w1 := []) hP hD [] [0, 1, 2] rfl rfl (by decide) (by decide) hk1 hFc hP1 hD1
    clear hP hD hPc hDc hKc hFc hP1 hK1 hD1 hk1 hz1
    generalize H1 = H at hP2 hS ⊢
    have hP : va_P (dC, dI) vwCl (wd_b9c2d44b h0 v0 h1 v1 x20 (-1) v3 r0 r1 r2 r3 r4 r5 r6 v4 v5 r7 r8 r9 h2 v6 r10 r11 v7 v8 r12 r13 v9 v10 r14 v11 v12 r15 v13 w14 r16 v15 v16 r17 r18 r19 r20 r21 r22 v17 r23 r24 r25 v18 h1 g0 f19 h2 g1 fn15) H := hP2
    have hD : va_D A (wd_b9c2d44b h0 v0 h1 v1 x20 (-1) v3 r0 r1 r2 r3 r4 r5 r6 v4 v5 r7 r8 r9 h2 v6 r10 r11 v7 v8 r12 r13 v9 v10 r14 v11 v12 r15 v13 w14 r16 v15 v16 r17 r18 r19 r20 r21 r22 v17 r23 r24 r25 v18 h1 g0 f19 h2 g1 fn15) := hD2
    clear hP2 hD2
    have hkra21 : ra21 = pg_it false (pg_ch f19 v1.toInt x20.toInt) := by rw [show pg_ch f19 v1.toInt x20.toInt = ra16.toInt by omega]; exact pt3_ra21
    refine lv_istore (lv' := [(6, .int ra21), (5, .int 0), (0, .ref h0), (1, .int 98), (2, .ref h2), (3, .int 0), (4, .int 5)]) hx hb dX12_items_39 hl (by decide) rfl (fun ls hl => ?_)
    have hL30 : ∀ (n9 : Nat), ∀ (x22 : Int32) (x23 : Int32) (x24 : Int32) (fn25 : Nat → Int32) (H : Heap) (locs : List Loc) (ls : Array Slot), -1 ≤ x22.toInt → x22.toInt ≤ 4 → 0 ≤ x24.toInt → x24.toInt ≤ 240 → (pm_bb 0 f20 fn25) → (x22.toInt = -1 ∨ x24.toInt < v1.toInt) → (v2.toInt ≤ x24.toInt) → (pg_I f19 v1.toInt false 0 x24.toInt x23 fn25 (pg_items f19 v1.toInt false 0 300 v2.toInt 0 (pg_us f20 0))) → (¬ pg_ch f19 v1.toInt x24.toInt = 32) → (x22 = pg_it false (pg_ch f19 v1.toInt x24.toInt)) → (300 - x24.toInt).toNat < n9 → va_P (dC, dI) vwCl (wd_b9c2d44b h0 v0 h1 v1 x24 (-1) v3 r0 r1 r2 r3 r4 r5 r6 v4 v5 r7 r8 r9 h2 v6 r10 r11 v7 v8 r12 r13 v9 v10 r14 v11 v12 r15 v13 w14 r16 v15 v16 r17 r18 r19 r20 r21 r22 v17 r23 r24 r25 v18 h1 g0 f19 h2 g1 fn25) H → va_D A (wd_b9c2d44b h0 v0 h1 v1 x24 (-1) v3 r0 r1 r2 r3 r4 r5 r6 v4 v5 r7 r8 r9 h2 v6 r10 r11 v7 v8 r12 r13 v9 v10 r14 v11 v12 r15 v13 w14 r16 v15 v16 r17 r18 r19 r20 r21 r22 v17 r23 r24 r25 v18 h1 g0 f19 h2 g1 fn25) → va_S A s.heap H locs → lv_has ls 7 [(6, .int x22), (5, .int x23), (0, .ref h0), (1, .int 98), (2, .ref h2), (3, .int 0), (4, .int 5)] → W p l e ({ frames := 3, cells := 0, slots := 0, locals := 63 }) s m ([.ref h0, .int 98, .ref h2, .int 0, .int 5] : List Value).toArray below meth c H locs 0 0 Q (F0 m 41 ls []) := by
      intro n9
      induction n9 with
      | zero => intro x22 x23 x24 fn25 H locs ls qa_x22 qb_x22 qa_x24 qb_x24 gh0_hL30 gh1_hL30 gh2_hL30 gh3_hL30 gh4_hL30 gh5_hL30 hm9 hP hD hS hl; exact absurd hm9 (Nat.not_lt_zero _)
      | succ n9 ih_hL30 =>
        intro x22 x23 x24 fn25 H locs ls qa_x22 qb_x22 qa_x24 qb_x24 gh0_hL30 gh1_hL30 gh2_hL30 gh3_hL30 gh4_hL30 gh5_hL30 hm9 hP hD hS hl
        refine lv_aload_n hx hb dX12_items_41 rfl (lv_at hl 2 rfl) ?_
        refine va_get (D := (dC, dI)) (ci := 12) (v := .int (-1)) (C := RX12) (T := TX12) (N := 48) hx hb hts (fun _ h => List.mem_cons_of_mem _ (List.mem_append_right _ h)) hown hK hP 0 rfl rfl 4 (by decide) (hts (.fieldLink RX12 119 "LeftArgumentsModel" "wrong" "I") (List.mem_cons_of_mem _ (List.mem_append_left _ (List.mem_of_getElem? (i := 18) rfl)))) (fun _ h9 => h9) rfl dX12_items_42 ?_
        refine lv_iconst (v := (-1)) hx hb dX12_items_45 (by decide) ?_
        refine lv_icmp_ne (tgt := 131) hx hb dX12_items_46 (by decide) (fun c => absurd (by decide) c) (fun _ => ?_)
        refine lv_iload hx hb dX12_items_49 (lv_at hl 0 rfl) ?_
        refine lv_iconst (v := (-1)) hx hb dX12_items_51 (by decide) ?_
        refine lv_icmp_eq (tgt := 131) hx hb dX12_items_52 (by decide) (fun c31 => ?_) (fun c31 => ?_)
        · skip
          have fc31 : x22.toInt = (-1) := congrArg Int32.toInt c31
          subst hQ
          have hP9 := hP.sub (ws' := (wd_b9c2d44b h0 v0 h1 v1 x24 (-1) v3 r0 r1 r2 r3 r4 r5 r6 v4 v5 r7 r8 r9 h2 v6 r10 r11 v7 v8 r12 r13 v9 v10 r14 v11 v12 r15 v13 w14 r16 v15 v16 r17 r18 r19 r20 r21 r22 v17 r23 r24 r25 v18 h1 g0 f19 h2 g1 fn25)) [0, 1, 2] rfl
          have hD9 := hD.sub (ws' := (wd_b9c2d44b h0 v0 h1 v1 x24 (-1) v3 r0 r1 r2 r3 r4 r5 r6 v4 v5 r7 r8 r9 h2 v6 r10 r11 v7 v8 r12 r13 v9 v10 r14 v11 v12 r15 v13 w14 r16 v15 v16 r17 r18 r19 r20 r21 r22 v17 r23 r24 r25 v18 h1 g0 f19 h2 g1 fn25)) [0, 1, 2] (by decide) rfl
          have hK9 := hK.sub (tys' := []) [] rfl
          exact W.vret hx hb hr (fun t ht hW => ⟨⟨(), rfl, trivial, Or.inl ⟨x24, fn25, qa_x24, qb_x24, by omega, by first | assumption | (apply pm_bb.init <;> first | assumption | omega | decide), by first | (apply pg_I.out <;> first | assumption | exact Or.inl (by assumption) | exact Or.inr (by assumption)) | (apply pg_items.e0 <;> first | assumption | omega | (apply pg_ur.mk <;> first | assumption | decide) | (apply pg_us.mk <;> first | assumption | omega | decide)) | (apply pg_I.last <;> first | assumption | omega | (show _ = pm_los _; assumption) | (show _ = pm_his _; assumption) | (show _ = pm_lob _; assumption) | (show _ = pm_hib _; assumption)), by rw [ht]; exact hP9, va_K.moved hW.alike hK9, hD9⟩⟩, hS.F ht⟩) hS.2.2 dX12_items_131
        · skip
          have fc31 : ¬ (x22.toInt = (-1)) := fun h9 => c31 (Int32.toInt_inj.mp h9)
          refine lv_iload hx hb dX12_items_55 (lv_at hl 1 rfl) ?_
          refine lv_iload hx hb dX12_items_57 (lv_at hl 0 rfl) ?_
          have hPc := hP.sub (ws' := []) [] rfl
          have hDc := hD.sub (ws' := []) [] (by decide) rfl
          have hKc := hK.sub (tys' := []) [] rfl
          have hFc := va_free (wc := []) hD hS hA [] rfl
          refine va_calli (va_runS (As := [.int x23, .int x22]) (rest := []) ⟨hx, hb, hml, hown, hts⟩ (k_X12_has l dC dI x23 x22  H.size) (va_cwS 2 hts g_X12_items_8 rfl rfl rfl (by decide +kernel) ⟨Nat.le_of_ble_eq_true rfl, Nat.le_of_ble_eq_true rfl⟩) (pv_PS hPc hKc hDc) rfl rfl hl.1 rfl (lv_room (Nat.le_of_ble_eq_true rfl)) dX12_items_59 ⟨Nat.le_of_ble_eq_true rfl, Nat.le_of_ble_eq_true rfl⟩) hS (fun q _ h => hFc q h) hFc (fun ra32 u t H1 locs ht hvm hwra32 hB hz1 hk1 hS => ?_)
          try rw [hwra32] at hB
          obtain ⟨pt0_ra32, pt1_ra32, pt2_ra32, pt3_ra32, hP1, hK1, hD1⟩ := hB
          rw [ht] at hP1
          obtain ⟨hP2, hD2⟩ := va_join (wr := (wd_b9c2d44b h0 v0 h1 v1 x24 (-1) v3 r0 r1 r2 r3 r4 r5 r6 v4 v5 r7 r8 r9 h2 v6 r10 r11 v7 v8 r12 r13 v9 v10 r14 v11 v12 r15 v13 w14 r16 v15 v16 r17 r18 r19 r20 r21 r22 v17 r23 r24 r25 v18 h1 g0 f19 h2 g1 fn25)) (w1 := []) hP hD [] [0, 1, 2] rfl rfl (by decide) (by decide) hk1 hFc hP1 hD1
          clear hP hD hPc hDc hKc hFc hP1 hK1 hD1 hk1 hz1
          generalize H1 = H at hP2 hS ⊢
          have hP : va_P (dC, dI) vwCl (wd_b9c2d44b h0 v0 h1 v1 x24 (-1) v3 r0 r1 r2 r3 r4 r5 r6 v4 v5 r7 r8 r9 h2 v6 r10 r11 v7 v8 r12 r13 v9 v10 r14 v11 v12 r15 v13 w14 r16 v15 v16 r17 r18 r19 r20 r21 r22 v17 r23 r24 r25 v18 h1 g0 f19 h2 g1 fn25) H := hP2
          have hD : va_D A (wd_b9c2d44b h0 v0 h1 v1 x24 (-1) v3 r0 r1 r2 r3 r4 r5 r6 v4 v5 r7 r8 r9 h2 v6 r10 r11 v7 v8 r12 r13 v9 v10 r14 v11 v12 r15 v13 w14 r16 v15 v16 r17 r18 r19 r20 r21 r22 v17 r23 r24 r25 v18 h1 g0 f19 h2 g1 fn25) := hD2
          clear hP2 hD2
          refine lv_if_ne (tgt := 131) hx hb dX12_items_62 (by decide) (fun c33 => ?_) (fun c33 => ?_)
          · skip
            have fc33 : ¬ (ra32.toInt = 0) := fun h9 => c33 (Int32.toInt_inj.mp h9)
            have q1pt2_ra32 := pt2_ra32 (by omega)
            subst hQ
            have hP9 := hP.sub (ws' := (wd_b9c2d44b h0 v0 h1 v1 x24 (-1) v3 r0 r1 r2 r3 r4 r5 r6 v4 v5 r7 r8 r9 h2 v6 r10 r11 v7 v8 r12 r13 v9 v10 r14 v11 v12 r15 v13 w14 r16 v15 v16 r17 r18 r19 r20 r21 r22 v17 r23 r24 r25 v18 h1 g0 f19 h2 g1 fn25)) [0, 1, 2] rfl
            have hD9 := hD.sub (ws' := (wd_b9c2d44b h0 v0 h1 v1 x24 (-1) v3 r0 r1 r2 r3 r4 r5 r6 v4 v5 r7 r8 r9 h2 v6 r10 r11 v7 v8 r12 r13 v9 v10 r14 v11 v12 r15 v13 w14 r16 v15 v16 r17 r18 r19 r20 r21 r22 v17 r23 r24 r25 v18 h1 g0 f19 h2 g1 fn25)) [0, 1, 2] (by decide) rfl
            have hK9 := hK.sub (tys' := []) [] rfl
            exact W.vret hx hb hr (fun t ht hW => ⟨⟨(), rfl, trivial, Or.inl ⟨x24, fn25, qa_x24, qb_x24, by omega, by first | assumption | (apply pm_bb.init <;> first | assumption | omega | decide), by first | (apply pg_I.out <;> first | assumption | exact Or.inl (by assumption) | exact Or.inr (by assumption)) | (apply pg_items.e0 <;> first | assumption | omega | (apply pg_ur.mk <;> first | assumption | decide) | (apply pg_us.mk <;> first | assumption | omega | decide)) | (apply pg_I.last <;> first | assumption | omega | (show _ = pm_los _; assumption) | (show _ = pm_his _; assumption) | (show _ = pm_lob _; assumption) | (show _ = pm_hib _; assumption)), by rw [ht]; exact hP9, va_K.moved hW.alike hK9, hD9⟩⟩, hS.F ht⟩) hS.2.2 dX12_items_131
          · skip
            have fc33 : ra32.toInt = 0 := congrArg Int32.toInt c33
            have q0pt3_ra32 := pt3_ra32 (by omega)
            refine lv_iload hx hb dX12_items_65 (lv_at hl 1 rfl) ?_
            refine lv_iconst (v := 1) hx hb dX12_items_67 (by decide) ?_
            refine lv_iload hx hb dX12_items_68 (lv_at hl 0 rfl) ?_
            refine lv_ishl hx hb dX12_items_70 ?_
            refine lv_topi (fun t34 et34 => ?_)
            refine lv_ior hx hb dX12_items_71 ?_
            refine lv_topi (fun t35 et35 => ?_)
            refine lv_istore (lv' := [(5, .int t35), (6, .int x22), (0, .ref h0), (1, .int 98), (2, .ref h2), (3, .int 0), (4, .int 5)]) hx hb dX12_items_72 hl (by decide) rfl (fun ls hl => ?_)
            have hax24 : x24.toInt ≤ 239 := by omega
            refine lv_aload_n hx hb dX12_items_74 rfl (lv_at hl 2 rfl) ?_
            refine lv_dup hx hb dX12_items_75 rfl ?_
            refine va_get (D := (dC, dI)) (ci := 12) (v := .int x24) (C := RX12) (T := TX12) (N := 48) hx hb hts (fun _ h => List.mem_cons_of_mem _ (List.mem_append_right _ h)) hown hK hP 0 rfl rfl 3 (by decide) (hts (.fieldLink RX12 112 "LeftArgumentsModel" "at" "I") (List.mem_cons_of_mem _ (List.mem_append_left _ (List.mem_of_getElem? (i := 6) rfl)))) (fun _ h9 => h9) rfl dX12_items_76 ?_
            refine lv_iconst (v := 1) hx hb dX12_items_79 (by decide) ?_
            refine lv_iadd hx hb dX12_items_80 ?_
            refine lv_topi (fun t36 et36 => ?_)
            have gt36 : t36.toInt = x24.toInt + 1 := pv_add (a := x24.toInt) (b := 1) et36 rfl (by decide) (by omega) (by omega)
            refine va_put (D := (dC, dI)) (ci := 12) (v := .int t36) (ty := .int) (C := RX12) (T := TX12) (N := 48) hx hb hts (fun _ h => List.mem_cons_of_mem _ (List.mem_append_right _ h)) tyX12 tyX12_ok nmX12 hown hK hP hD hS 0 rfl rfl 3 (by decide) (hts (.fieldLink RX12 112 "LeftArgumentsModel" "at" "I") (List.mem_cons_of_mem _ (List.mem_append_left _ (List.mem_of_getElem? (i := 6) rfl)))) (fun _ h9 => h9) rfl (by decide +kernel) rfl rfl (Nat.le_of_ble_eq_true rfl) dX12_items_81 (fun H locs hP hD hS => ?_)
            have hP : va_P (dC, dI) vwCl (wd_b9c2d44b h0 v0 h1 v1 t36 (-1) v3 r0 r1 r2 r3 r4 r5 r6 v4 v5 r7 r8 r9 h2 v6 r10 r11 v7 v8 r12 r13 v9 v10 r14 v11 v12 r15 v13 w14 r16 v15 v16 r17 r18 r19 r20 r21 r22 v17 r23 r24 r25 v18 h1 g0 f19 h2 g1 fn25) H := hP
            have hD : va_D A (wd_b9c2d44b h0 v0 h1 v1 t36 (-1) v3 r0 r1 r2 r3 r4 r5 r6 v4 v5 r7 r8 r9 h2 v6 r10 r11 v7 v8 r12 r13 v9 v10 r14 v11 v12 r15 v13 w14 r16 v15 v16 r17 r18 r19 r20 r21 r22 v17 r23 r24 r25 v18 h1 g0 f19 h2 g1 fn25) := hD
            refine lv_aload_n hx hb dX12_items_84 rfl (lv_at hl 4 rfl) ?_
            refine lv_iload_n hx hb dX12_items_85 rfl (lv_at hl 5 rfl) ?_
            refine lv_iload hx hb dX12_items_86 (lv_at hl 1 rfl) ?_
            refine lv_iadd hx hb dX12_items_88 ?_
            refine lv_topi (fun t37 et37 => ?_)
            have gt37 : t37.toInt = 0 + x22.toInt := pv_add (a := 0) (b := x22.toInt) et37 (by decide) rfl (by omega) (by omega)
            refine lv_aload_n hx hb dX12_items_89 rfl (lv_at hl 2 rfl) ?_
            refine lv_iload_n hx hb dX12_items_90 rfl (lv_at hl 3 rfl) ?_
            refine lv_iload hx hb dX12_items_91 (lv_at hl 1 rfl) ?_
            have hPc := hP.sub (ws' := []) [] rfl
            have hDc := hD.sub (ws' := []) [] (by decide) rfl
            have hKc := hK.sub (tys' := []) [] rfl
            have hFc := va_free (wc := []) hD hS hA [] rfl
            refine va_calli (va_runS (As := [.int 98, .int x22]) (rest := [.ref h0, .int t37, .ref h2]) ⟨hx, hb, hml, hown, hts⟩ (k_X12_lowest l dC dI x22 ⟨by first | omega | decide, qb_x22⟩ H.size) (va_cwS 2 hts g_X12_items_9 rfl rfl rfl (by decide +kernel) ⟨Nat.le_of_ble_eq_true rfl, Nat.le_of_ble_eq_true rfl⟩) (pv_PS hPc hKc hDc) rfl rfl hl.1 rfl (lv_room (Nat.le_of_ble_eq_true rfl)) dX12_items_93 ⟨Nat.le_of_ble_eq_true rfl, Nat.le_of_ble_eq_true rfl⟩) hS (fun q _ h => hFc q h) hFc (fun ra38 u t H1 locs ht hvm hwra38 hB hz1 hk1 hS => ?_)
            try rw [hwra38] at hB
            obtain ⟨pt0_ra38, pt1_ra38, pt2_ra38, hP1, hK1, hD1⟩ := hB
            rw [ht] at hP1
            obtain ⟨hP2, hD2⟩ := va_join (wr := (wd_b9c2d44b h0 v0 h1 v1 t36 (-1) v3 r0 r1 r2 r3 r4 r5 r6 v4 v5 r7 r8 r9 h2 v6 r10 r11 v7 v8 r12 r13 v9 v10 r14 v11 v12 r15 v13 w14 r16 v15 v16 r17 r18 r19 r20 r21 r22 v17 r23 r24 r25 v18 h1 g0 f19 h2 g1 fn25)) (w1 := []) hP hD [] [0, 1, 2] rfl rfl (by decide) (by decide) hk1 hFc hP1 hD1
            clear hP hD hPc hDc hKc hFc hP1 hK1 hD1 hk1 hz1
            generalize H1 = H at hP2 hS ⊢
            have hP : va_P (dC, dI) vwCl (wd_b9c2d44b h0 v0 h1 v1 t36 (-1) v3 r0 r1 r2 r3 r4 r5 r6 v4 v5 r7 r8 r9 h2 v6 r10 r11 v7 v8 r12 r13 v9 v10 r14 v11 v12 r15 v13 w14 r16 v15 v16 r17 r18 r19 r20 r21 r22 v17 r23 r24 r25 v18 h1 g0 f19 h2 g1 fn25) H := hP2
            have hD : va_D A (wd_b9c2d44b h0 v0 h1 v1 t36 (-1) v3 r0 r1 r2 r3 r4 r5 r6 v4 v5 r7 r8 r9 h2 v6 r10 r11 v7 v8 r12 r13 v9 v10 r14 v11 v12 r15 v13 w14 r16 v15 v16 r17 r18 r19 r20 r21 r22 v17 r23 r24 r25 v18 h1 g0 f19 h2 g1 fn25) := hD2
            clear hP2 hD2
            refine lv_iload_n hx hb dX12_items_96 rfl (lv_at hl 3 rfl) ?_
            refine lv_iload hx hb dX12_items_97 (lv_at hl 1 rfl) ?_
            have hPc := hP.sub (ws' := []) [] rfl
            have hDc := hD.sub (ws' := []) [] (by decide) rfl
            have hKc := hK.sub (tys' := []) [] rfl
            have hFc := va_free (wc := []) hD hS hA [] rfl
            refine va_calli (va_runS (As := [.int 98, .int x22]) (rest := [.int ra38, .ref h0, .int t37, .ref h2]) ⟨hx, hb, hml, hown, hts⟩ (k_X12_highest l dC dI x22 ⟨by first | omega | decide, qb_x22⟩ H.size) (va_cwS 2 hts g_X12_items_10 rfl rfl rfl (by decide +kernel) ⟨Nat.le_of_ble_eq_true rfl, Nat.le_of_ble_eq_true rfl⟩) (pv_PS hPc hKc hDc) rfl rfl hl.1 rfl (lv_room (Nat.le_of_ble_eq_true rfl)) dX12_items_99 ⟨Nat.le_of_ble_eq_true rfl, Nat.le_of_ble_eq_true rfl⟩) hS (fun q _ h => hFc q h) hFc (fun ra39 u t H1 locs ht hvm hwra39 hB hz1 hk1 hS => ?_)
            try rw [hwra39] at hB
            obtain ⟨pt0_ra39, pt1_ra39, pt2_ra39, hP1, hK1, hD1⟩ := hB
            rw [ht] at hP1
            obtain ⟨hP2, hD2⟩ := va_join (wr := (wd_b9c2d44b h0 v0 h1 v1 t36 (-1) v3 r0 r1 r2 r3 r4 r5 r6 v4 v5 r7 r8 r9 h2 v6 r10 r11 v7 v8 r12 r13 v9 v10 r14 v11 v12 r15 v13 w14 r16 v15 v16 r17 r18 r19 r20 r21 r22 v17 r23 r24 r25 v18 h1 g0 f19 h2 g1 fn25)) (w1 := []) hP hD [] [0, 1, 2] rfl rfl (by decide) (by decide) hk1 hFc hP1 hD1
            clear hP hD hPc hDc hKc hFc hP1 hK1 hD1 hk1 hz1
            generalize H1 = H at hP2 hS ⊢
            have hP : va_P (dC, dI) vwCl (wd_b9c2d44b h0 v0 h1 v1 t36 (-1) v3 r0 r1 r2 r3 r4 r5 r6 v4 v5 r7 r8 r9 h2 v6 r10 r11 v7 v8 r12 r13 v9 v10 r14 v11 v12 r15 v13 w14 r16 v15 v16 r17 r18 r19 r20 r21 r22 v17 r23 r24 r25 v18 h1 g0 f19 h2 g1 fn25) H := hP2
            have hD : va_D A (wd_b9c2d44b h0 v0 h1 v1 t36 (-1) v3 r0 r1 r2 r3 r4 r5 r6 v4 v5 r7 r8 r9 h2 v6 r10 r11 v7 v8 r12 r13 v9 v10 r14 v11 v12 r15 v13 w14 r16 v15 v16 r17 r18 r19 r20 r21 r22 v17 r23 r24 r25 v18 h1 g0 f19 h2 g1 fn25) := hD2
            clear hP2 hD2
            have hPc := hP.sub (ws' := (wd_f4cd022e h0 v0 h1 v1 t36 (-1) v3 r0 r1 r2 r3 r4 r5 r6 v4 v5 r7 r8 r9 h2 v6 r10 r11 v7 v8 r12 r13 v9 v10 r14 v11 v12 r15 v13 w14 r16 v15 v16 r17 r18 r19 r20 r21 r22 v17 r23 r24 r25 v18 h1 g0 f19)) [0, 1] rfl
            have hDc := hD.sub (ws' := (wd_f4cd022e h0 v0 h1 v1 t36 (-1) v3 r0 r1 r2 r3 r4 r5 r6 v4 v5 r7 r8 r9 h2 v6 r10 r11 v7 v8 r12 r13 v9 v10 r14 v11 v12 r15 v13 w14 r16 v15 v16 r17 r18 r19 r20 r21 r22 v17 r23 r24 r25 v18 h1 g0 f19)) [0, 1] (by decide) rfl
            have hKc := hK.sub (tys' := [(g0, .int)]) [0] rfl
            have hFc := va_free (wc := (wd_f4cd022e h0 v0 h1 v1 t36 (-1) v3 r0 r1 r2 r3 r4 r5 r6 v4 v5 r7 r8 r9 h2 v6 r10 r11 v7 v8 r12 r13 v9 v10 r14 v11 v12 r15 v13 w14 r16 v15 v16 r17 r18 r19 r20 r21 r22 v17 r23 r24 r25 v18 h1 g0 f19)) hD hS hA [0, 1] rfl
            refine va_calli (va_runV (As := [.int ra38, .int ra39]) (rest := [.int t37, .ref h2]) ⟨hx, hb, hml, hown, hts⟩ (k_X12_number l dC dI h0 h1 v0 v1 t36 v3 r0 r1 r2 r3 r4 r5 r6 v4 v5 r7 r8 r9 h2 v6 r10 r11 v7 v8 r12 r13 v9 v10 r14 v11 v12 r15 v13 w14 r16 v15 v16 r17 r18 r19 r20 r21 r22 v17 r23 r24 r25 v18 g0 f19 ra38 ra39 ⟨i_v1a, i_v1b⟩ ⟨by first | omega | decide, by first | omega | decide⟩ ⟨i_v4a, i_v4b⟩ ⟨i_v5a, i_v5b⟩ ⟨i_v6a, i_v6b⟩ ⟨i_v7a, i_v7b⟩ ⟨i_v8a, i_v8b⟩ ⟨i_v9a, i_v9b⟩ ⟨i_v13a, i_v13b⟩ ⟨i_v17a, i_v17b⟩ ⟨i_v18a, i_v18b⟩ ia_f19 H.size) (cwV 2 hts g_X12_items_11 rfl rfl rfl (by decide +kernel) ⟨Nat.le_of_ble_eq_true rfl, Nat.le_of_ble_eq_true rfl⟩) (pv_PV12 hPc hKc hDc (q0 := 0) rfl) rfl rfl hl.1 rfl (lv_room (Nat.le_of_ble_eq_true rfl)) dX12_items_102 ⟨Nat.le_of_ble_eq_true rfl, Nat.le_of_ble_eq_true rfl⟩) hS (fun q _ h => hFc q h) hFc (fun ra40 u t H1 locs ht hvm hwra40 hB hz1 hk1 hS => ?_)
            try rw [hwra40] at hB
            rcases hB with hB | hB
            · skip
              obtain ⟨x41, oa_x41, ob_x41, pt0_ra40, pt1_ra40, pt2_ra40, pt3_ra40, pt4_ra40, hP1, hK1, hD1⟩ := hB
              rw [ht] at hP1
              obtain ⟨hP2, hD2⟩ := va_join (wr := (wd_aad598ec h2 g1 fn25)) (w1 := (wd_f4cd022e h0 v0 h1 v1 x41 (-1) v3 r0 r1 r2 r3 r4 r5 r6 v4 v5 r7 r8 r9 h2 v6 r10 r11 v7 v8 r12 r13 v9 v10 r14 v11 v12 r15 v13 w14 r16 v15 v16 r17 r18 r19 r20 r21 r22 v17 r23 r24 r25 v18 h1 g0 f19)) hP hD [0, 1] [2] rfl rfl (by decide) (by decide) hk1 hFc hP1 hD1
              clear hP hD hPc hDc hKc hFc hP1 hK1 hD1 hk1 hz1
              generalize H1 = H at hP2 hS ⊢
              have hP := hP2.sub (ws' := (wd_b9c2d44b h0 v0 h1 v1 x41 (-1) v3 r0 r1 r2 r3 r4 r5 r6 v4 v5 r7 r8 r9 h2 v6 r10 r11 v7 v8 r12 r13 v9 v10 r14 v11 v12 r15 v13 w14 r16 v15 v16 r17 r18 r19 r20 r21 r22 v17 r23 r24 r25 v18 h1 g0 f19 h2 g1 fn25)) [1, 2, 0] rfl
              have hD := hD2.sub (ws' := (wd_b9c2d44b h0 v0 h1 v1 x41 (-1) v3 r0 r1 r2 r3 r4 r5 r6 v4 v5 r7 r8 r9 h2 v6 r10 r11 v7 v8 r12 r13 v9 v10 r14 v11 v12 r15 v13 w14 r16 v15 v16 r17 r18 r19 r20 r21 r22 v17 r23 r24 r25 v18 h1 g0 f19 h2 g1 fn25)) [1, 2, 0] (by decide) rfl
              clear hP2 hD2
              refine va_iast hx hb hK hP hD hS 2 1 rfl rfl (vp_in_iff.mpr ⟨by omega, by omega⟩) dX12_items_105 (fun H locs hP hD hS => ?_)
              obtain ⟨fn42, efn42⟩ : ∃ g : Nat → Int32, g = upd fn25 (Int32.toNatClampNeg t37) ra40 := ⟨_, rfl⟩
              rw [← efn42] at hP hD
              have hP : va_P (dC, dI) vwCl (wd_b9c2d44b h0 v0 h1 v1 x41 (-1) v3 r0 r1 r2 r3 r4 r5 r6 v4 v5 r7 r8 r9 h2 v6 r10 r11 v7 v8 r12 r13 v9 v10 r14 v11 v12 r15 v13 w14 r16 v15 v16 r17 r18 r19 r20 r21 r22 v17 r23 r24 r25 v18 h1 g0 f19 h2 g1 fn42) H := hP
              have hD : va_D A (wd_b9c2d44b h0 v0 h1 v1 x41 (-1) v3 r0 r1 r2 r3 r4 r5 r6 v4 v5 r7 r8 r9 h2 v6 r10 r11 v7 v8 r12 r13 v9 v10 r14 v11 v12 r15 v13 w14 r16 v15 v16 r17 r18 r19 r20 r21 r22 v17 r23 r24 r25 v18 h1 g0 f19 h2 g1 fn42) := hD
              refine lv_aload_n hx hb dX12_items_106 rfl (lv_at hl 2 rfl) ?_
              refine va_get (D := (dC, dI)) (ci := 12) (v := .int (-1)) (C := RX12) (T := TX12) (N := 48) hx hb hts (fun _ h => List.mem_cons_of_mem _ (List.mem_append_right _ h)) hown hK hP 0 rfl rfl 4 (by decide) (hts (.fieldLink RX12 119 "LeftArgumentsModel" "wrong" "I") (List.mem_cons_of_mem _ (List.mem_append_left _ (List.mem_of_getElem? (i := 18) rfl)))) (fun _ h9 => h9) rfl dX12_items_107 ?_
              refine lv_iconst (v := (-1)) hx hb dX12_items_110 (by decide) ?_
              refine lv_icmp_ne (tgt := 125) hx hb dX12_items_111 (by decide) (fun c => absurd (by decide) c) (fun _ => ?_)
              refine lv_iload_n hx hb dX12_items_114 rfl (lv_at hl 3 rfl) ?_
              refine lv_aload_n hx hb dX12_items_115 rfl (lv_at hl 2 rfl) ?_
              have hPc := hP.sub (ws' := (wd_f4cd022e h0 v0 h1 v1 x41 (-1) v3 r0 r1 r2 r3 r4 r5 r6 v4 v5 r7 r8 r9 h2 v6 r10 r11 v7 v8 r12 r13 v9 v10 r14 v11 v12 r15 v13 w14 r16 v15 v16 r17 r18 r19 r20 r21 r22 v17 r23 r24 r25 v18 h1 g0 f19)) [0, 1] rfl
              have hDc := hD.sub (ws' := (wd_f4cd022e h0 v0 h1 v1 x41 (-1) v3 r0 r1 r2 r3 r4 r5 r6 v4 v5 r7 r8 r9 h2 v6 r10 r11 v7 v8 r12 r13 v9 v10 r14 v11 v12 r15 v13 w14 r16 v15 v16 r17 r18 r19 r20 r21 r22 v17 r23 r24 r25 v18 h1 g0 f19)) [0, 1] (by decide) rfl
              have hKc := hK.sub (tys' := [(g0, .int)]) [0] rfl
              have hFc := va_free (wc := (wd_f4cd022e h0 v0 h1 v1 x41 (-1) v3 r0 r1 r2 r3 r4 r5 r6 v4 v5 r7 r8 r9 h2 v6 r10 r11 v7 v8 r12 r13 v9 v10 r14 v11 v12 r15 v13 w14 r16 v15 v16 r17 r18 r19 r20 r21 r22 v17 r23 r24 r25 v18 h1 g0 f19)) hD hS hA [0, 1] rfl
              refine va_calli (va_runV (As := []) (rest := [.int 98]) ⟨hx, hb, hml, hown, hts⟩ (k_X12_look l dC dI h0 h1 v0 v1 x41 ((-1)) v3 r0 r1 r2 r3 r4 r5 r6 v4 v5 r7 r8 r9 h2 v6 r10 r11 v7 v8 r12 r13 v9 v10 r14 v11 v12 r15 v13 w14 r16 v15 v16 r17 r18 r19 r20 r21 r22 v17 r23 r24 r25 v18 g0 f19 ⟨i_v1a, i_v1b⟩ ⟨by first | omega | decide, ob_x41⟩ ⟨i_v4a, i_v4b⟩ ⟨i_v5a, i_v5b⟩ ⟨i_v6a, i_v6b⟩ ⟨i_v7a, i_v7b⟩ ⟨i_v8a, i_v8b⟩ ⟨i_v9a, i_v9b⟩ ⟨i_v13a, i_v13b⟩ ⟨i_v17a, i_v17b⟩ ⟨i_v18a, i_v18b⟩ ia_f19 H.size) (cwV 0 hts g_X12_items_5 rfl rfl rfl (by decide +kernel) ⟨Nat.le_of_ble_eq_true rfl, Nat.le_of_ble_eq_true rfl⟩) (pv_PV12 hPc hKc hDc (q0 := 0) rfl) rfl rfl hl.1 rfl (lv_room (Nat.le_of_ble_eq_true rfl)) dX12_items_116 ⟨Nat.le_of_ble_eq_true rfl, Nat.le_of_ble_eq_true rfl⟩) hS (fun q _ h => hFc q h) hFc (fun ra43 u t H1 locs ht hvm hwra43 hB hz1 hk1 hS => ?_)
              try rw [hwra43] at hB
              have hkra43_0 : (((-1) : Int32)).toInt = -1 := by decide
              rcases hB with hB | hB
              · skip
                obtain ⟨x44, oa_x44, ob_x44, pt0_ra43, pt1_ra43, pt2_ra43, pt3_ra43, pt4_ra43, pt5_ra43, pt6_ra43, hP1, hK1, hD1⟩ := hB
                rw [ht] at hP1
                obtain ⟨hP2, hD2⟩ := va_join (wr := (wd_aad598ec h2 g1 fn42)) (w1 := (wd_f4cd022e h0 v0 h1 v1 x44 (-1) v3 r0 r1 r2 r3 r4 r5 r6 v4 v5 r7 r8 r9 h2 v6 r10 r11 v7 v8 r12 r13 v9 v10 r14 v11 v12 r15 v13 w14 r16 v15 v16 r17 r18 r19 r20 r21 r22 v17 r23 r24 r25 v18 h1 g0 f19)) hP hD [0, 1] [2] rfl rfl (by decide) (by decide) hk1 hFc hP1 hD1
                clear hP hD hPc hDc hKc hFc hP1 hK1 hD1 hk1 hz1
                generalize H1 = H at hP2 hS ⊢
                have hP := hP2.sub (ws' := (wd_b9c2d44b h0 v0 h1 v1 x44 (-1) v3 r0 r1 r2 r3 r4 r5 r6 v4 v5 r7 r8 r9 h2 v6 r10 r11 v7 v8 r12 r13 v9 v10 r14 v11 v12 r15 v13 w14 r16 v15 v16 r17 r18 r19 r20 r21 r22 v17 r23 r24 r25 v18 h1 g0 f19 h2 g1 fn42)) [1, 2, 0] rfl
                have hD := hD2.sub (ws' := (wd_b9c2d44b h0 v0 h1 v1 x44 (-1) v3 r0 r1 r2 r3 r4 r5 r6 v4 v5 r7 r8 r9 h2 v6 r10 r11 v7 v8 r12 r13 v9 v10 r14 v11 v12 r15 v13 w14 r16 v15 v16 r17 r18 r19 r20 r21 r22 v17 r23 r24 r25 v18 h1 g0 f19 h2 g1 fn42)) [1, 2, 0] (by decide) rfl
                clear hP2 hD2
                obtain rfl : ra43 = ((-1) : Int32) := pv_cs (by decide) pt0_ra43 pt1_ra43
                have hPc := hP.sub (ws' := []) [] rfl
                have hDc := hD.sub (ws' := []) [] (by decide) rfl
                have hKc := hK.sub (tys' := []) [] rfl
                have hFc := va_free (wc := []) hD hS hA [] rfl
                refine va_calli (va_runS (As := [.int 98, .int (-1)]) (rest := []) ⟨hx, hb, hml, hown, hts⟩ (k_X12_itemOf l dC dI ((-1))  H.size) (va_cwS 2 hts g_X12_items_6 rfl rfl rfl (by decide +kernel) ⟨Nat.le_of_ble_eq_true rfl, Nat.le_of_ble_eq_true rfl⟩) (pv_PS hPc hKc hDc) rfl rfl hl.1 rfl (lv_room (Nat.le_of_ble_eq_true rfl)) dX12_items_119 ⟨Nat.le_of_ble_eq_true rfl, Nat.le_of_ble_eq_true rfl⟩) hS (fun q _ h => hFc q h) hFc (fun ra45 u t H1 locs ht hvm hwra45 hB hz1 hk1 hS => ?_)
                try rw [hwra45] at hB
                have hkra45_0 : (((-1) : Int32)).toInt = -1 := by decide
                obtain ⟨pt0_ra45, pt1_ra45, pt2_ra45, pt3_ra45, hP1, hK1, hD1⟩ := hB
                rw [ht] at hP1
                obtain ⟨hP2, hD2⟩ := va_join (wr := (wd_b9c2d44b h0 v0 h1 v1 x44 (-1) v3 r0 r1 r2 r3 r4 r5 r6 v4 v5 r7 r8 r9 h2 v6 r10 r11 v7 v8 r12 r13 v9 v10 r14 v11 v12 r15 v13 w14 r16 v15 v16 r17 r18 r19 r20 r21 r22 v17 r23 r24 r25 v18 h1 g0 f19 h2 g1 fn42)) (w1 := []) hP hD [] [0, 1, 2] rfl rfl (by decide) (by decide) hk1 hFc hP1 hD1
                clear hP hD hPc hDc hKc hFc hP1 hK1 hD1 hk1 hz1
                generalize H1 = H at hP2 hS ⊢
                have hP : va_P (dC, dI) vwCl (wd_b9c2d44b h0 v0 h1 v1 x44 (-1) v3 r0 r1 r2 r3 r4 r5 r6 v4 v5 r7 r8 r9 h2 v6 r10 r11 v7 v8 r12 r13 v9 v10 r14 v11 v12 r15 v13 w14 r16 v15 v16 r17 r18 r19 r20 r21 r22 v17 r23 r24 r25 v18 h1 g0 f19 h2 g1 fn42) H := hP2
                have hD : va_D A (wd_b9c2d44b h0 v0 h1 v1 x44 (-1) v3 r0 r1 r2 r3 r4 r5 r6 v4 v5 r7 r8 r9 h2 v6 r10 r11 v7 v8 r12 r13 v9 v10 r14 v11 v12 r15 v13 w14 r16 v15 v16 r17 r18 r19 r20 r21 r22 v17 r23 r24 r25 v18 h1 g0 f19 h2 g1 fn42) := hD2
                clear hP2 hD2
                have hkra45 : ra45 = pg_it false (pg_ch f19 v1.toInt x44.toInt) := by rw [show pg_ch f19 v1.toInt x44.toInt = (-1) by omega]; exact pt3_ra45
                refine lv_goto (tgt := 126) hx hb dX12_items_122 (by decide) ?_
                refine lv_istore (lv' := [(6, .int ra45), (5, .int t35), (0, .ref h0), (1, .int 98), (2, .ref h2), (3, .int 0), (4, .int 5)]) hx hb dX12_items_126 hl (by decide) rfl (fun ls hl => ?_)
                refine lv_goto (tgt := 41) hx hb dX12_items_128 (by decide) ?_
                exact ih_hL30 ra45 t35 x44 fn42 H locs ls (by first | omega | decide) (by first | omega | decide) oa_x44 ob_x44 (by first | assumption | (apply pm_bb.step <;> first | assumption | omega) | (apply pm_bb.init <;> first | assumption | omega | decide)) (by omega) (by omega) (by first | assumption | (apply pg_I.ini <;> first | assumption | omega | (apply pg_ur.mk <;> first | assumption | decide) | (apply pg_us.mk <;> first | assumption | omega | decide)) | (apply pg_I.next <;> first | assumption | omega | (show _ = pm_los _; assumption) | (show _ = pm_his _; assumption) | (show _ = pm_lob _; assumption) | (show _ = pm_hib _; assumption))) (by assumption) (by assumption) (by first | omega | (simp only [Int.toNat] at *; omega)) hP hD hS (lv_sub hl [0, 1, 2, 3, 4, 5, 6] rfl)
              · skip
                obtain ⟨x46, oa_x46, ob_x46, pt0_ra43, pt1_ra43, pt2_ra43, pt3_ra43, pt4_ra43, pt5_ra43, pt6_ra43, pt7_ra43, hP1, hK1, hD1⟩ := hB
                rw [ht] at hP1
                obtain ⟨hP2, hD2⟩ := va_join (wr := (wd_aad598ec h2 g1 fn42)) (w1 := (wd_f4cd022e h0 v0 h1 v1 x46 (-1) v3 r0 r1 r2 r3 r4 r5 r6 v4 v5 r7 r8 r9 h2 v6 r10 r11 v7 v8 r12 r13 v9 v10 r14 v11 v12 r15 v13 w14 r16 v15 v16 r17 r18 r19 r20 r21 r22 v17 r23 r24 r25 v18 h1 g0 f19)) hP hD [0, 1] [2] rfl rfl (by decide) (by decide) hk1 hFc hP1 hD1
                clear hP hD hPc hDc hKc hFc hP1 hK1 hD1 hk1 hz1
                generalize H1 = H at hP2 hS ⊢
                have hP := hP2.sub (ws' := (wd_b9c2d44b h0 v0 h1 v1 x46 (-1) v3 r0 r1 r2 r3 r4 r5 r6 v4 v5 r7 r8 r9 h2 v6 r10 r11 v7 v8 r12 r13 v9 v10 r14 v11 v12 r15 v13 w14 r16 v15 v16 r17 r18 r19 r20 r21 r22 v17 r23 r24 r25 v18 h1 g0 f19 h2 g1 fn42)) [1, 2, 0] rfl
                have hD := hD2.sub (ws' := (wd_b9c2d44b h0 v0 h1 v1 x46 (-1) v3 r0 r1 r2 r3 r4 r5 r6 v4 v5 r7 r8 r9 h2 v6 r10 r11 v7 v8 r12 r13 v9 v10 r14 v11 v12 r15 v13 w14 r16 v15 v16 r17 r18 r19 r20 r21 r22 v17 r23 r24 r25 v18 h1 g0 f19 h2 g1 fn42)) [1, 2, 0] (by decide) rfl
                clear hP2 hD2
                have hPc := hP.sub (ws' := []) [] rfl
                have hDc := hD.sub (ws' := []) [] (by decide) rfl
                have hKc := hK.sub (tys' := []) [] rfl
                have hFc := va_free (wc := []) hD hS hA [] rfl
                refine va_calli (va_runS (As := [.int 98, .int ra43]) (rest := []) ⟨hx, hb, hml, hown, hts⟩ (k_X12_itemOf l dC dI ra43  H.size) (va_cwS 2 hts g_X12_items_6 rfl rfl rfl (by decide +kernel) ⟨Nat.le_of_ble_eq_true rfl, Nat.le_of_ble_eq_true rfl⟩) (pv_PS hPc hKc hDc) rfl rfl hl.1 rfl (lv_room (Nat.le_of_ble_eq_true rfl)) dX12_items_119 ⟨Nat.le_of_ble_eq_true rfl, Nat.le_of_ble_eq_true rfl⟩) hS (fun q _ h => hFc q h) hFc (fun ra47 u t H1 locs ht hvm hwra47 hB hz1 hk1 hS => ?_)
                try rw [hwra47] at hB
                obtain ⟨pt0_ra47, pt1_ra47, pt2_ra47, pt3_ra47, hP1, hK1, hD1⟩ := hB
                rw [ht] at hP1
                obtain ⟨hP2, hD2⟩ := va_join (wr := (wd_b9c2d44b h0 v0 h1 v1 x46 (-1) v3 r0 r1 r2 r3 r4 r5 r6 v4 v5 r7 r8 r9 h2 v6 r10 r11 v7 v8 r12 r13 v9 v10 r14 v11 v12 r15 v13 w14 r16 v15 v16 r17 r18 r19 r20 r21 r22 v17 r23 r24 r25 v18 h1 g0 f19 h2 g1 fn42)) (w1 := []) hP hD [] [0, 1, 2] rfl rfl (by decide) (by decide) hk1 hFc hP1 hD1
                clear hP hD hPc hDc hKc hFc hP1 hK1 hD1 hk1 hz1
                generalize H1 = H at hP2 hS ⊢
                have hP : va_P (dC, dI) vwCl (wd_b9c2d44b h0 v0 h1 v1 x46 (-1) v3 r0 r1 r2 r3 r4 r5 r6 v4 v5 r7 r8 r9 h2 v6 r10 r11 v7 v8 r12 r13 v9 v10 r14 v11 v12 r15 v13 w14 r16 v15 v16 r17 r18 r19 r20 r21 r22 v17 r23 r24 r25 v18 h1 g0 f19 h2 g1 fn42) H := hP2
                have hD : va_D A (wd_b9c2d44b h0 v0 h1 v1 x46 (-1) v3 r0 r1 r2 r3 r4 r5 r6 v4 v5 r7 r8 r9 h2 v6 r10 r11 v7 v8 r12 r13 v9 v10 r14 v11 v12 r15 v13 w14 r16 v15 v16 r17 r18 r19 r20 r21 r22 v17 r23 r24 r25 v18 h1 g0 f19 h2 g1 fn42) := hD2
                clear hP2 hD2
                have hkra47 : ra47 = pg_it false (pg_ch f19 v1.toInt x46.toInt) := by rw [show pg_ch f19 v1.toInt x46.toInt = ra43.toInt by omega]; exact pt3_ra47
                refine lv_goto (tgt := 126) hx hb dX12_items_122 (by decide) ?_
                refine lv_istore (lv' := [(6, .int ra47), (5, .int t35), (0, .ref h0), (1, .int 98), (2, .ref h2), (3, .int 0), (4, .int 5)]) hx hb dX12_items_126 hl (by decide) rfl (fun ls hl => ?_)
                refine lv_goto (tgt := 41) hx hb dX12_items_128 (by decide) ?_
                exact ih_hL30 ra47 t35 x46 fn42 H locs ls (by first | omega | decide) (by first | omega | decide) oa_x46 (by first | omega | decide) (by first | assumption | (apply pm_bb.step <;> first | assumption | omega) | (apply pm_bb.init <;> first | assumption | omega | decide)) (by omega) (by omega) (by first | assumption | (apply pg_I.ini <;> first | assumption | omega | (apply pg_ur.mk <;> first | assumption | decide) | (apply pg_us.mk <;> first | assumption | omega | decide)) | (apply pg_I.next <;> first | assumption | omega | (show _ = pm_los _; assumption) | (show _ = pm_his _; assumption) | (show _ = pm_lob _; assumption) | (show _ = pm_hib _; assumption))) (by assumption) (by assumption) (by first | omega | (simp only [Int.toNat] at *; omega)) hP hD hS (lv_sub hl [0, 1, 2, 3, 4, 5, 6] rfl)
            · skip
              obtain ⟨x48, x49, oa_x48, ob_x48, oa_x49, ob_x49, pt0_ra40, pt1_ra40, hP1, hK1, hD1⟩ := hB
              rw [ht] at hP1
              obtain ⟨hP2, hD2⟩ := va_join (wr := (wd_aad598ec h2 g1 fn25)) (w1 := (wd_f4cd022e h0 v0 h1 v1 x48 x49 v3 r0 r1 r2 r3 r4 r5 r6 v4 v5 r7 r8 r9 h2 v6 r10 r11 v7 v8 r12 r13 v9 v10 r14 v11 v12 r15 v13 w14 r16 v15 v16 r17 r18 r19 r20 r21 r22 v17 r23 r24 r25 v18 h1 g0 f19)) hP hD [0, 1] [2] rfl rfl (by decide) (by decide) hk1 hFc hP1 hD1
              clear hP hD hPc hDc hKc hFc hP1 hK1 hD1 hk1 hz1
              generalize H1 = H at hP2 hS ⊢
              have hP := hP2.sub (ws' := (wd_b9c2d44b h0 v0 h1 v1 x48 x49 v3 r0 r1 r2 r3 r4 r5 r6 v4 v5 r7 r8 r9 h2 v6 r10 r11 v7 v8 r12 r13 v9 v10 r14 v11 v12 r15 v13 w14 r16 v15 v16 r17 r18 r19 r20 r21 r22 v17 r23 r24 r25 v18 h1 g0 f19 h2 g1 fn25)) [1, 2, 0] rfl
              have hD := hD2.sub (ws' := (wd_b9c2d44b h0 v0 h1 v1 x48 x49 v3 r0 r1 r2 r3 r4 r5 r6 v4 v5 r7 r8 r9 h2 v6 r10 r11 v7 v8 r12 r13 v9 v10 r14 v11 v12 r15 v13 w14 r16 v15 v16 r17 r18 r19 r20 r21 r22 v17 r23 r24 r25 v18 h1 g0 f19 h2 g1 fn25)) [1, 2, 0] (by decide) rfl
              clear hP2 hD2
              refine va_iast hx hb hK hP hD hS 2 1 rfl rfl (vp_in_iff.mpr ⟨by omega, by omega⟩) dX12_items_105 (fun H locs hP hD hS => ?_)
              obtain ⟨fn50, efn50⟩ : ∃ g : Nat → Int32, g = upd fn25 (Int32.toNatClampNeg t37) ra40 := ⟨_, rfl⟩
              rw [← efn50] at hP hD
              have hP : va_P (dC, dI) vwCl (wd_b9c2d44b h0 v0 h1 v1 x48 x49 v3 r0 r1 r2 r3 r4 r5 r6 v4 v5 r7 r8 r9 h2 v6 r10 r11 v7 v8 r12 r13 v9 v10 r14 v11 v12 r15 v13 w14 r16 v15 v16 r17 r18 r19 r20 r21 r22 v17 r23 r24 r25 v18 h1 g0 f19 h2 g1 fn50) H := hP
              have hD : va_D A (wd_b9c2d44b h0 v0 h1 v1 x48 x49 v3 r0 r1 r2 r3 r4 r5 r6 v4 v5 r7 r8 r9 h2 v6 r10 r11 v7 v8 r12 r13 v9 v10 r14 v11 v12 r15 v13 w14 r16 v15 v16 r17 r18 r19 r20 r21 r22 v17 r23 r24 r25 v18 h1 g0 f19 h2 g1 fn50) := hD
              refine lv_aload_n hx hb dX12_items_106 rfl (lv_at hl 2 rfl) ?_
              refine va_get (D := (dC, dI)) (ci := 12) (v := .int x49) (C := RX12) (T := TX12) (N := 48) hx hb hts (fun _ h => List.mem_cons_of_mem _ (List.mem_append_right _ h)) hown hK hP 0 rfl rfl 4 (by decide) (hts (.fieldLink RX12 119 "LeftArgumentsModel" "wrong" "I") (List.mem_cons_of_mem _ (List.mem_append_left _ (List.mem_of_getElem? (i := 18) rfl)))) (fun _ h9 => h9) rfl dX12_items_107 ?_
              refine lv_iconst (v := (-1)) hx hb dX12_items_110 (by decide) ?_
              refine lv_icmp_ne (tgt := 125) hx hb dX12_items_111 (by decide) (fun _ => ?_) (fun c51 => by exfalso; have fc51 : x49.toInt = (-1) := congrArg Int32.toInt c51; omega)
              refine lv_iconst (v := (-1)) hx hb dX12_items_125 (by decide) ?_
              refine lv_istore (lv' := [(6, .int (-1)), (5, .int t35), (0, .ref h0), (1, .int 98), (2, .ref h2), (3, .int 0), (4, .int 5)]) hx hb dX12_items_126 hl (by decide) rfl (fun ls hl => ?_)
              refine lv_goto (tgt := 41) hx hb dX12_items_128 (by decide) ?_
              refine lv_aload_n hx hb dX12_items_41 rfl (lv_at hl 2 rfl) ?_
              refine va_get (D := (dC, dI)) (ci := 12) (v := .int x49) (C := RX12) (T := TX12) (N := 48) hx hb hts (fun _ h => List.mem_cons_of_mem _ (List.mem_append_right _ h)) hown hK hP 0 rfl rfl 4 (by decide) (hts (.fieldLink RX12 119 "LeftArgumentsModel" "wrong" "I") (List.mem_cons_of_mem _ (List.mem_append_left _ (List.mem_of_getElem? (i := 18) rfl)))) (fun _ h9 => h9) rfl dX12_items_42 ?_
              refine lv_iconst (v := (-1)) hx hb dX12_items_45 (by decide) ?_
              refine lv_icmp_ne (tgt := 131) hx hb dX12_items_46 (by decide) (fun _ => ?_) (fun c52 => by exfalso; have fc52 : x49.toInt = (-1) := congrArg Int32.toInt c52; omega)
              subst hQ
              have hP9 := hP.sub (ws' := (wd_b9c2d44b h0 v0 h1 v1 x48 x49 v3 r0 r1 r2 r3 r4 r5 r6 v4 v5 r7 r8 r9 h2 v6 r10 r11 v7 v8 r12 r13 v9 v10 r14 v11 v12 r15 v13 w14 r16 v15 v16 r17 r18 r19 r20 r21 r22 v17 r23 r24 r25 v18 h1 g0 f19 h2 g1 fn50)) [0, 1, 2] rfl
              have hD9 := hD.sub (ws' := (wd_b9c2d44b h0 v0 h1 v1 x48 x49 v3 r0 r1 r2 r3 r4 r5 r6 v4 v5 r7 r8 r9 h2 v6 r10 r11 v7 v8 r12 r13 v9 v10 r14 v11 v12 r15 v13 w14 r16 v15 v16 r17 r18 r19 r20 r21 r22 v17 r23 r24 r25 v18 h1 g0 f19 h2 g1 fn50)) [0, 1, 2] (by decide) rfl
              have hK9 := hK.sub (tys' := []) [] rfl
              exact W.vret hx hb hr (fun t ht hW => ⟨⟨(), rfl, trivial, Or.inr (⟨x48, x49, fn50, oa_x48, ob_x48, oa_x49, ob_x49, by omega, by first | assumption | (apply pg_I.fail <;> first | assumption | omega | (show _ = pm_los _; assumption) | (show _ = pm_his _; assumption) | (show _ = pm_lob _; assumption) | (show _ = pm_hib _; assumption)), by rw [ht]; exact hP9, va_K.moved hW.alike hK9, hD9⟩)⟩, hS.F ht⟩) hS.2.2 dX12_items_131
    exact hL30 _ ra21 0 x20 fn15 H locs ls (by first | omega | decide) (by first | omega | decide) oa_x20 (by first | omega | decide) (by first | assumption | (apply pm_bb.step <;> first | assumption | omega) | (apply pm_bb.init <;> first | assumption | omega | decide)) (by omega) (by omega) (by first | assumption | (apply pg_I.ini <;> first | assumption | omega | (apply pg_ur.mk <;> first | assumption | decide) | (apply pg_us.mk <;> first | assumption | omega | decide)) | (apply pg_I.next <;> first | assumption | omega | (show _ = pm_los _; assumption) | (show _ = pm_his _; assumption) | (show _ = pm_lob _; assumption) | (show _ = pm_hib _; assumption))) (by assumption) (by assumption) (Nat.lt_succ_self _) hP hD hS (lv_sub hl [0, 1, 2, 3, 4, 5, 6] rfl)
def q_X12_itemOf_1 : List Cond := .code yX12_itemOf cX12_itemOf 2 (some .int) :: (([] : List Cond))
set_option maxHeartbeats 4000000 in
set_option maxRecDepth 100000 in
theorem k_X12_itemOf_1 (l : Launch) (dC : Nat → ClassId) (dI : Nat → Nat → Nat) (v0 : Int32) (sz : Nat) : Met l yX12_itemOf q_X12_itemOf_1 ({ frames := 0, cells := 0, slots := 0, locals := 0 }) (va_Pc [.int 115, .int v0] (fun U => U.heap.size = sz ∧ va_P (dC, dI) vwCl [] U.heap ∧ va_K (dC, dI) vwCl [] U ∧ va_D (fun _ => True) [])) (va_Qi (fun (r : Int32) (r9 : Int32) => r9 = r) (fun (r : Int32) (t : State) => ((-1 ≤ r.toInt) ∧ (r.toInt ≤ 3) ∧ (¬ r.toInt = -1 → 97 ≤ v0.toInt ∧ v0.toInt ≤ 122) ∧ (r = pg_it true v0.toInt) ∧ va_P (dC, dI) vwCl [] t.heap ∧ va_K (dC, dI) vwCl [] t ∧ va_D (va_A [] sz) [])) (va_A [] sz)) 0 0 (va_A [] sz) := by
  refine Met.ofW (cc := cX12_itemOf) (maxL := 2) (ret := (some .int)) (by decide) rfl ?_
  intro p e s m args below meth c s₁ B hml hv
  obtain ⟨rfl, hsz, hP, hK, hD0⟩ := hv
  have hx := B.exec
  have hb := B.bytes
  have hr := B.returns
  have hts := atoms_spec (ws := q_X12_itemOf_1) B.pre
  have hown : s.vm.findClass RX12 = some m.cls := findClass_of_methodNamed B.named
  have hlocks := B.notSynchronized
  subst hsz
  have hD := hD0.self (sz := s.heap.size)
  generalize hAe : va_A [] s.heap.size = A at hD ⊢
  have hA : ∀ q : Nat, s.heap.size ≤ q → A q := fun q h => by rw [← hAe]; exact Or.inr h
  have hS : va_S A s.heap s.heap [] := va_S.rf
  generalize hQ : (MQ below _ _ s 0 0 A) = Q
  have hl := lv_entry ([.int 115, .int v0]) (n := 2) (Nat.le_of_ble_eq_true rfl)
  rw [lg_entry_eq]
  generalize (lg_sl ([.int 115, .int v0]) ++ List.replicate (2 - (lg_sl ([.int 115, .int v0])).length) Slot.unset).toArray = ls at hl ⊢
  have hl : lv_has ls 2 [(0, .int 115), (1, .int v0)] := hl
  obtain ⟨H, hH⟩ : ∃ H : Heap, H = s.heap := ⟨_, rfl⟩
  obtain ⟨locs, hlocs⟩ : ∃ y : List Loc, y = [] := ⟨_, rfl⟩
  have hS : va_S A s.heap H locs := by rw [hH, hlocs]; exact va_S.rf
  have hP : va_P (dC, dI) vwCl [] H := by rw [hH]; exact hP
  rw [← hH, ← hlocs]
  refine lv_iload_n hx hb dX12_itemOf_0 rfl (lv_at hl 0 rfl) ?_
  refine lv_bipush (v := 115) hx hb dX12_itemOf_1 (by decide) ?_
  refine lv_icmp_ne (tgt := 48) hx hb dX12_itemOf_3 (by decide) (fun c => absurd (by decide) c) (fun _ => ?_)
  refine lv_iload_n hx hb dX12_itemOf_6 rfl (lv_at hl 1 rfl) ?_
  refine lv_bipush (v := 119) hx hb dX12_itemOf_7 (by decide) ?_
  refine lv_icmp_ne (tgt := 16) hx hb dX12_itemOf_9 (by decide) (fun c1 => ?_) (fun c1 => ?_)
  · skip
    have fc1 : ¬ (v0.toInt = 119) := fun h9 => c1 (Int32.toInt_inj.mp h9)
    refine lv_iload_n hx hb dX12_itemOf_16 rfl (lv_at hl 1 rfl) ?_
    refine lv_bipush (v := 110) hx hb dX12_itemOf_17 (by decide) ?_
    refine lv_icmp_ne (tgt := 26) hx hb dX12_itemOf_19 (by decide) (fun c2 => ?_) (fun c2 => ?_)
    · skip
      have fc2 : ¬ (v0.toInt = 110) := fun h9 => c2 (Int32.toInt_inj.mp h9)
      refine lv_iload_n hx hb dX12_itemOf_26 rfl (lv_at hl 1 rfl) ?_
      refine lv_bipush (v := 102) hx hb dX12_itemOf_27 (by decide) ?_
      refine lv_icmp_ne (tgt := 36) hx hb dX12_itemOf_29 (by decide) (fun c3 => ?_) (fun c3 => ?_)
      · skip
        have fc3 : ¬ (v0.toInt = 102) := fun h9 => c3 (Int32.toInt_inj.mp h9)
        refine lv_iload_n hx hb dX12_itemOf_36 rfl (lv_at hl 1 rfl) ?_
        refine lv_bipush (v := 107) hx hb dX12_itemOf_37 (by decide) ?_
        refine lv_icmp_ne (tgt := 46) hx hb dX12_itemOf_39 (by decide) (fun c4 => ?_) (fun c4 => ?_)
        · skip
          have fc4 : ¬ (v0.toInt = 107) := fun h9 => c4 (Int32.toInt_inj.mp h9)
          refine lv_iconst (v := (-1)) hx hb dX12_itemOf_46 (by decide) ?_
          subst hQ
          have hP9 := hP.sub (ws' := []) [] rfl
          have hD9 := hD.sub (ws' := []) [] (by decide) rfl
          have hK9 := hK.sub (tys' := []) [] rfl
          exact W.iret (v := (-1)) hx hb hr (fun t ht hW => ⟨⟨(-1), (-1), rfl, rfl, ⟨by first | omega | decide, by first | omega | decide, fun h9 => absurd (by decide) h9, by unfold pg_it; (repeat' split) <;> first | rfl | (exfalso; omega) | (exfalso; simp_all), by rw [ht]; exact hP9, va_K.moved hW.alike hK9, hD9⟩⟩, hS.F ht⟩) hS.2.2 dX12_itemOf_47
        · skip
          have fc4 : v0.toInt = 107 := congrArg Int32.toInt c4
          refine lv_iconst (v := 3) hx hb dX12_itemOf_42 (by decide) ?_
          refine lv_goto (tgt := 47) hx hb dX12_itemOf_43 (by decide) ?_
          subst hQ
          have hP9 := hP.sub (ws' := []) [] rfl
          have hD9 := hD.sub (ws' := []) [] (by decide) rfl
          have hK9 := hK.sub (tys' := []) [] rfl
          exact W.iret (v := 3) hx hb hr (fun t ht hW => ⟨⟨3, 3, rfl, rfl, ⟨by first | omega | decide, by first | omega | decide, fun _ => by constructor <;> omega, by unfold pg_it; (repeat' split) <;> first | rfl | (exfalso; omega) | (exfalso; simp_all), by rw [ht]; exact hP9, va_K.moved hW.alike hK9, hD9⟩⟩, hS.F ht⟩) hS.2.2 dX12_itemOf_47
      · skip
        have fc3 : v0.toInt = 102 := congrArg Int32.toInt c3
        refine lv_iconst (v := 2) hx hb dX12_itemOf_32 (by decide) ?_
        refine lv_goto (tgt := 47) hx hb dX12_itemOf_33 (by decide) ?_
        subst hQ
        have hP9 := hP.sub (ws' := []) [] rfl
        have hD9 := hD.sub (ws' := []) [] (by decide) rfl
        have hK9 := hK.sub (tys' := []) [] rfl
        exact W.iret (v := 2) hx hb hr (fun t ht hW => ⟨⟨2, 2, rfl, rfl, ⟨by first | omega | decide, by first | omega | decide, fun _ => by constructor <;> omega, by unfold pg_it; (repeat' split) <;> first | rfl | (exfalso; omega) | (exfalso; simp_all), by rw [ht]; exact hP9, va_K.moved hW.alike hK9, hD9⟩⟩, hS.F ht⟩) hS.2.2 dX12_itemOf_47
    · skip
      have fc2 : v0.toInt = 110 := congrArg Int32.toInt c2
      refine lv_iconst (v := 1) hx hb dX12_itemOf_22 (by decide) ?_
      refine lv_goto (tgt := 47) hx hb dX12_itemOf_23 (by decide) ?_
      subst hQ
      have hP9 := hP.sub (ws' := []) [] rfl
      have hD9 := hD.sub (ws' := []) [] (by decide) rfl
      have hK9 := hK.sub (tys' := []) [] rfl
      exact W.iret (v := 1) hx hb hr (fun t ht hW => ⟨⟨1, 1, rfl, rfl, ⟨by first | omega | decide, by first | omega | decide, fun _ => by constructor <;> omega, by unfold pg_it; (repeat' split) <;> first | rfl | (exfalso; omega) | (exfalso; simp_all), by rw [ht]; exact hP9, va_K.moved hW.alike hK9, hD9⟩⟩, hS.F ht⟩) hS.2.2 dX12_itemOf_47
  · skip
    have fc1 : v0.toInt = 119 := congrArg Int32.toInt c1
    refine lv_iconst (v := 0) hx hb dX12_itemOf_12 (by decide) ?_
    refine lv_goto (tgt := 47) hx hb dX12_itemOf_13 (by decide) ?_
    subst hQ
    have hP9 := hP.sub (ws' := []) [] rfl
    have hD9 := hD.sub (ws' := []) [] (by decide) rfl
    have hK9 := hK.sub (tys' := []) [] rfl
    exact W.iret (v := 0) hx hb hr (fun t ht hW => ⟨⟨0, 0, rfl, rfl, ⟨by first | omega | decide, by first | omega | decide, fun _ => by constructor <;> omega, by unfold pg_it; (repeat' split) <;> first | rfl | (exfalso; omega) | (exfalso; simp_all), by rw [ht]; exact hP9, va_K.moved hW.alike hK9, hD9⟩⟩, hS.F ht⟩) hS.2.2 dX12_itemOf_47
def q_X12_lowest_1 : List Cond := .code yX12_lowest cX12_lowest 2 (some .int) :: (([] : List Cond))
set_option maxHeartbeats 4000000 in
set_option maxRecDepth 100000 in
theorem k_X12_lowest_1 (l : Launch) (dC : Nat → ClassId) (dI : Nat → Nat → Nat) (v0 : Int32) (i_v0 : 0 ≤ v0.toInt ∧ v0.toInt ≤ 4) (sz : Nat) : Met l yX12_lowest q_X12_lowest_1 ({ frames := 0, cells := 0, slots := 0, locals := 0 }) (va_Pc [.int 115, .int v0] (fun U => U.heap.size = sz ∧ va_P (dC, dI) vwCl [] U.heap ∧ va_K (dC, dI) vwCl [] U ∧ va_D (fun _ => True) [])) (va_Qi (fun (r : Int32) (r9 : Int32) => r9 = r) (fun (r : Int32) (t : State) => ((0 ≤ r.toInt) ∧ (r.toInt ≤ 1) ∧ (r.toInt = pm_los v0.toInt) ∧ va_P (dC, dI) vwCl [] t.heap ∧ va_K (dC, dI) vwCl [] t ∧ va_D (va_A [] sz) [])) (va_A [] sz)) 0 0 (va_A [] sz) := by
  refine Met.ofW (cc := cX12_lowest) (maxL := 2) (ret := (some .int)) (by decide) rfl ?_
  intro p e s m args below meth c s₁ B hml hv
  obtain ⟨i_v0a, i_v0b⟩ := i_v0
  obtain ⟨rfl, hsz, hP, hK, hD0⟩ := hv
  have hx := B.exec
  have hb := B.bytes
  have hr := B.returns
  have hts := atoms_spec (ws := q_X12_lowest_1) B.pre
  have hown : s.vm.findClass RX12 = some m.cls := findClass_of_methodNamed B.named
  have hlocks := B.notSynchronized
  subst hsz
  have hD := hD0.self (sz := s.heap.size)
  generalize hAe : va_A [] s.heap.size = A at hD ⊢
  have hA : ∀ q : Nat, s.heap.size ≤ q → A q := fun q h => by rw [← hAe]; exact Or.inr h
  have hS : va_S A s.heap s.heap [] := va_S.rf
  generalize hQ : (MQ below _ _ s 0 0 A) = Q
  have hl := lv_entry ([.int 115, .int v0]) (n := 2) (Nat.le_of_ble_eq_true rfl)
  rw [lg_entry_eq]
  generalize (lg_sl ([.int 115, .int v0]) ++ List.replicate (2 - (lg_sl ([.int 115, .int v0])).length) Slot.unset).toArray = ls at hl ⊢
  have hl : lv_has ls 2 [(0, .int 115), (1, .int v0)] := hl
  obtain ⟨H, hH⟩ : ∃ H : Heap, H = s.heap := ⟨_, rfl⟩
  obtain ⟨locs, hlocs⟩ : ∃ y : List Loc, y = [] := ⟨_, rfl⟩
  have hS : va_S A s.heap H locs := by rw [hH, hlocs]; exact va_S.rf
  have hP : va_P (dC, dI) vwCl [] H := by rw [hH]; exact hP
  rw [← hH, ← hlocs]
  refine lv_iload_n hx hb dX12_lowest_0 rfl (lv_at hl 0 rfl) ?_
  refine lv_bipush (v := 115) hx hb dX12_lowest_1 (by decide) ?_
  refine lv_icmp_ne (tgt := 23) hx hb dX12_lowest_3 (by decide) (fun c => absurd (by decide) c) (fun _ => ?_)
  refine lv_iload_n hx hb dX12_lowest_6 rfl (lv_at hl 1 rfl) ?_
  refine lv_if_eq (tgt := 15) hx hb dX12_lowest_7 (by decide) (fun c1 => ?_) (fun c1 => ?_)
  · skip
    have fc1 : v0.toInt = 0 := congrArg Int32.toInt c1
    refine lv_iconst (v := 1) hx hb dX12_lowest_15 (by decide) ?_
    refine lv_goto (tgt := 32) hx hb dX12_lowest_16 (by decide) ?_
    subst hQ
    have hP9 := hP.sub (ws' := []) [] rfl
    have hD9 := hD.sub (ws' := []) [] (by decide) rfl
    have hK9 := hK.sub (tys' := []) [] rfl
    exact W.iret (v := 1) hx hb hr (fun t ht hW => ⟨⟨1, 1, rfl, rfl, ⟨by first | omega | decide, by first | omega | decide, by unfold pm_los; (repeat' split) <;> first | omega | decide, by rw [ht]; exact hP9, va_K.moved hW.alike hK9, hD9⟩⟩, hS.F ht⟩) hS.2.2 dX12_lowest_32
  · skip
    have fc1 : ¬ (v0.toInt = 0) := fun h9 => c1 (Int32.toInt_inj.mp h9)
    refine lv_iload_n hx hb dX12_lowest_10 rfl (lv_at hl 1 rfl) ?_
    refine lv_iconst (v := 1) hx hb dX12_lowest_11 (by decide) ?_
    refine lv_icmp_ne (tgt := 19) hx hb dX12_lowest_12 (by decide) (fun c2 => ?_) (fun c2 => ?_)
    · skip
      have fc2 : ¬ (v0.toInt = 1) := fun h9 => c2 (Int32.toInt_inj.mp h9)
      refine lv_iconst (v := 0) hx hb dX12_lowest_19 (by decide) ?_
      refine lv_goto (tgt := 32) hx hb dX12_lowest_20 (by decide) ?_
      subst hQ
      have hP9 := hP.sub (ws' := []) [] rfl
      have hD9 := hD.sub (ws' := []) [] (by decide) rfl
      have hK9 := hK.sub (tys' := []) [] rfl
      exact W.iret (v := 0) hx hb hr (fun t ht hW => ⟨⟨0, 0, rfl, rfl, ⟨by first | omega | decide, by first | omega | decide, by unfold pm_los; (repeat' split) <;> first | omega | decide, by rw [ht]; exact hP9, va_K.moved hW.alike hK9, hD9⟩⟩, hS.F ht⟩) hS.2.2 dX12_lowest_32
    · skip
      have fc2 : v0.toInt = 1 := congrArg Int32.toInt c2
      refine lv_iconst (v := 1) hx hb dX12_lowest_15 (by decide) ?_
      refine lv_goto (tgt := 32) hx hb dX12_lowest_16 (by decide) ?_
      subst hQ
      have hP9 := hP.sub (ws' := []) [] rfl
      have hD9 := hD.sub (ws' := []) [] (by decide) rfl
      have hK9 := hK.sub (tys' := []) [] rfl
      exact W.iret (v := 1) hx hb hr (fun t ht hW => ⟨⟨1, 1, rfl, rfl, ⟨by first | omega | decide, by first | omega | decide, by unfold pm_los; (repeat' split) <;> first | omega | decide, by rw [ht]; exact hP9, va_K.moved hW.alike hK9, hD9⟩⟩, hS.F ht⟩) hS.2.2 dX12_lowest_32
def q_X12_highest_1 : List Cond := .code yX12_highest cX12_highest 2 (some .int) :: (([] : List Cond))
set_option maxHeartbeats 4000000 in
set_option maxRecDepth 100000 in
theorem k_X12_highest_1 (l : Launch) (dC : Nat → ClassId) (dI : Nat → Nat → Nat) (v0 : Int32) (i_v0 : 0 ≤ v0.toInt ∧ v0.toInt ≤ 4) (sz : Nat) : Met l yX12_highest q_X12_highest_1 ({ frames := 0, cells := 0, slots := 0, locals := 0 }) (va_Pc [.int 115, .int v0] (fun U => U.heap.size = sz ∧ va_P (dC, dI) vwCl [] U.heap ∧ va_K (dC, dI) vwCl [] U ∧ va_D (fun _ => True) [])) (va_Qi (fun (r : Int32) (r9 : Int32) => r9 = r) (fun (r : Int32) (t : State) => ((5 ≤ r.toInt) ∧ (r.toInt ≤ 99) ∧ (r.toInt = pm_his v0.toInt) ∧ va_P (dC, dI) vwCl [] t.heap ∧ va_K (dC, dI) vwCl [] t ∧ va_D (va_A [] sz) [])) (va_A [] sz)) 0 0 (va_A [] sz) := by
  refine Met.ofW (cc := cX12_highest) (maxL := 2) (ret := (some .int)) (by decide) rfl ?_
  intro p e s m args below meth c s₁ B hml hv
  obtain ⟨i_v0a, i_v0b⟩ := i_v0
  obtain ⟨rfl, hsz, hP, hK, hD0⟩ := hv
  have hx := B.exec
  have hb := B.bytes
  have hr := B.returns
  have hts := atoms_spec (ws := q_X12_highest_1) B.pre
  have hown : s.vm.findClass RX12 = some m.cls := findClass_of_methodNamed B.named
  have hlocks := B.notSynchronized
  subst hsz
  have hD := hD0.self (sz := s.heap.size)
  generalize hAe : va_A [] s.heap.size = A at hD ⊢
  have hA : ∀ q : Nat, s.heap.size ≤ q → A q := fun q h => by rw [← hAe]; exact Or.inr h
  have hS : va_S A s.heap s.heap [] := va_S.rf
  generalize hQ : (MQ below _ _ s 0 0 A) = Q
  have hl := lv_entry ([.int 115, .int v0]) (n := 2) (Nat.le_of_ble_eq_true rfl)
  rw [lg_entry_eq]
  generalize (lg_sl ([.int 115, .int v0]) ++ List.replicate (2 - (lg_sl ([.int 115, .int v0])).length) Slot.unset).toArray = ls at hl ⊢
  have hl : lv_has ls 2 [(0, .int 115), (1, .int v0)] := hl
  obtain ⟨H, hH⟩ : ∃ H : Heap, H = s.heap := ⟨_, rfl⟩
  obtain ⟨locs, hlocs⟩ : ∃ y : List Loc, y = [] := ⟨_, rfl⟩
  have hS : va_S A s.heap H locs := by rw [hH, hlocs]; exact va_S.rf
  have hP : va_P (dC, dI) vwCl [] H := by rw [hH]; exact hP
  rw [← hH, ← hlocs]
  refine lv_iload_n hx hb dX12_highest_0 rfl (lv_at hl 0 rfl) ?_
  refine lv_bipush (v := 115) hx hb dX12_highest_1 (by decide) ?_
  refine lv_icmp_ne (tgt := 37) hx hb dX12_highest_3 (by decide) (fun c => absurd (by decide) c) (fun _ => ?_)
  refine lv_iload_n hx hb dX12_highest_6 rfl (lv_at hl 1 rfl) ?_
  refine lv_if_ne (tgt := 15) hx hb dX12_highest_7 (by decide) (fun c1 => ?_) (fun c1 => ?_)
  · skip
    have fc1 : ¬ (v0.toInt = 0) := fun h9 => c1 (Int32.toInt_inj.mp h9)
    refine lv_iload_n hx hb dX12_highest_15 rfl (lv_at hl 1 rfl) ?_
    refine lv_iconst (v := 1) hx hb dX12_highest_16 (by decide) ?_
    refine lv_icmp_ne (tgt := 24) hx hb dX12_highest_17 (by decide) (fun c2 => ?_) (fun c2 => ?_)
    · skip
      have fc2 : ¬ (v0.toInt = 1) := fun h9 => c2 (Int32.toInt_inj.mp h9)
      refine lv_iload_n hx hb dX12_highest_24 rfl (lv_at hl 1 rfl) ?_
      refine lv_iconst (v := 2) hx hb dX12_highest_25 (by decide) ?_
      refine lv_icmp_ne (tgt := 34) hx hb dX12_highest_26 (by decide) (fun c3 => ?_) (fun c3 => ?_)
      · skip
        have fc3 : ¬ (v0.toInt = 2) := fun h9 => c3 (Int32.toInt_inj.mp h9)
        refine lv_bipush (v := 99) hx hb dX12_highest_34 (by decide) ?_
        subst hQ
        have hP9 := hP.sub (ws' := []) [] rfl
        have hD9 := hD.sub (ws' := []) [] (by decide) rfl
        have hK9 := hK.sub (tys' := []) [] rfl
        exact W.iret (v := 99) hx hb hr (fun t ht hW => ⟨⟨99, 99, rfl, rfl, ⟨by first | omega | decide, by first | omega | decide, by unfold pm_his; (repeat' split) <;> first | omega | decide, by rw [ht]; exact hP9, va_K.moved hW.alike hK9, hD9⟩⟩, hS.F ht⟩) hS.2.2 dX12_highest_36
      · skip
        have fc3 : v0.toInt = 2 := congrArg Int32.toInt c3
        refine lv_bipush (v := 9) hx hb dX12_highest_29 (by decide) ?_
        refine lv_goto (tgt := 36) hx hb dX12_highest_31 (by decide) ?_
        subst hQ
        have hP9 := hP.sub (ws' := []) [] rfl
        have hD9 := hD.sub (ws' := []) [] (by decide) rfl
        have hK9 := hK.sub (tys' := []) [] rfl
        exact W.iret (v := 9) hx hb hr (fun t ht hW => ⟨⟨9, 9, rfl, rfl, ⟨by first | omega | decide, by first | omega | decide, by unfold pm_his; (repeat' split) <;> first | omega | decide, by rw [ht]; exact hP9, va_K.moved hW.alike hK9, hD9⟩⟩, hS.F ht⟩) hS.2.2 dX12_highest_36
    · skip
      have fc2 : v0.toInt = 1 := congrArg Int32.toInt c2
      refine lv_iconst (v := 5) hx hb dX12_highest_20 (by decide) ?_
      refine lv_goto (tgt := 36) hx hb dX12_highest_21 (by decide) ?_
      subst hQ
      have hP9 := hP.sub (ws' := []) [] rfl
      have hD9 := hD.sub (ws' := []) [] (by decide) rfl
      have hK9 := hK.sub (tys' := []) [] rfl
      exact W.iret (v := 5) hx hb hr (fun t ht hW => ⟨⟨5, 5, rfl, rfl, ⟨by first | omega | decide, by first | omega | decide, by unfold pm_his; (repeat' split) <;> first | omega | decide, by rw [ht]; exact hP9, va_K.moved hW.alike hK9, hD9⟩⟩, hS.F ht⟩) hS.2.2 dX12_highest_36
  · skip
    have fc1 : v0.toInt = 0 := congrArg Int32.toInt c1
    refine lv_bipush (v := 60) hx hb dX12_highest_10 (by decide) ?_
    refine lv_goto (tgt := 36) hx hb dX12_highest_12 (by decide) ?_
    subst hQ
    have hP9 := hP.sub (ws' := []) [] rfl
    have hD9 := hD.sub (ws' := []) [] (by decide) rfl
    have hK9 := hK.sub (tys' := []) [] rfl
    exact W.iret (v := 60) hx hb hr (fun t ht hW => ⟨⟨60, 60, rfl, rfl, ⟨by first | omega | decide, by first | omega | decide, by unfold pm_his; (repeat' split) <;> first | omega | decide, by rw [ht]; exact hP9, va_K.moved hW.alike hK9, hD9⟩⟩, hS.F ht⟩) hS.2.2 dX12_highest_36
def q_X12_items_1 : List Cond := .code yX12_items cX12_items 7 none :: (([.code yX12_usual cX12_usual 2 (some .int), .initialized RX12, .static yX12_usual, .methodLink RX12 221 yX12_usual, .code yX12_look cX12_look 1 (some .int), .code yX12_here cX12_here 1 (some .int), .fieldLink RX12 112 "LeftArgumentsModel" "at" "I", .fieldLink RX12 109 "LeftArgumentsModel" "size" "I", .fieldLink RX12 9 "LeftArgumentsModel" "tape" "[I", .instanceMethod yX12_here, .selects RX12 yX12_here yX12_here, .methodLink RX12 115 yX12_here, .instanceMethod yX12_look, .selects RX12 yX12_look yX12_look, .methodLink RX12 131 yX12_look, .code yX12_itemOf cX12_itemOf 2 (some .int), .static yX12_itemOf, .methodLink RX12 225 yX12_itemOf, .fieldLink RX12 119 "LeftArgumentsModel" "wrong" "I", .code yX12_has cX12_has 2 (some .boolean), .static yX12_has, .methodLink RX12 228 yX12_has, .code yX12_lowest cX12_lowest 2 (some .int), .static yX12_lowest, .methodLink RX12 232 yX12_lowest, .code yX12_highest cX12_highest 2 (some .int), .static yX12_highest, .methodLink RX12 235 yX12_highest, .code yX12_number cX12_number 4 (some .int), .code yX12_isDigit cX12_isDigit 1 (some .boolean), .static yX12_isDigit, .methodLink RX12 134 yX12_isDigit, .code yX12_bad cX12_bad 1 none, .instanceMethod yX12_bad, .selects RX12 yX12_bad yX12_bad, .methodLink RX12 128 yX12_bad, .code yX12_in cX12_in 3 (some .boolean), .static yX12_in, .methodLink RX12 217 yX12_in, .instanceMethod yX12_number, .selects RX12 yX12_number yX12_number, .methodLink RX12 238 yX12_number] : List Cond) ++ wsX120)
set_option maxRecDepth 20000 in
theorem g_X12_items_1_0 : GoodIn q_X12_items_1 (va_wsS RX12 221 yX12_usual q_X12_usual) := goodIn_app (goodIn_r _ [4, 3, 2] rfl (by decide +kernel)) (goodIn_r (.code yX12_usual cX12_usual 2 (some .int) :: []) [1] rfl (by decide +kernel))
set_option maxRecDepth 20000 in
theorem g_X12_items_1_1 : GoodIn q_X12_items_1 (va_wsS RX12 221 yX12_usual q_X12_usual_1) := goodIn_app (goodIn_r _ [4, 3, 2] rfl (by decide +kernel)) (goodIn_r (.code yX12_usual cX12_usual 2 (some .int) :: []) [1] rfl (by decide +kernel))
set_option maxRecDepth 20000 in
theorem g_X12_items_1_2 : GoodIn q_X12_items_1 (va_wsS RX12 221 yX12_usual q_X12_usual_2) := goodIn_app (goodIn_r _ [4, 3, 2] rfl (by decide +kernel)) (goodIn_r (.code yX12_usual cX12_usual 2 (some .int) :: []) [1] rfl (by decide +kernel))
set_option maxRecDepth 20000 in
theorem g_X12_items_1_3 : GoodIn q_X12_items_1 (va_wsS RX12 221 yX12_usual q_X12_usual_3) := goodIn_app (goodIn_r _ [4, 3, 2] rfl (by decide +kernel)) (goodIn_r (.code yX12_usual cX12_usual 2 (some .int) :: []) [1] rfl (by decide +kernel))
set_option maxRecDepth 20000 in
theorem g_X12_items_1_4 : GoodIn q_X12_items_1 (wsV RX12 131 RX12 yX12_look q_X12_look) := goodIn_app (goodIn_r _ [15, 13, 14, 2] rfl (by decide +kernel)) (goodIn_ca (goodIn_r (.code yX12_look cX12_look 1 (some .int) :: [.code yX12_here cX12_here 1 (some .int), .fieldLink RX12 112 "LeftArgumentsModel" "at" "I", .fieldLink RX12 109 "LeftArgumentsModel" "size" "I", .fieldLink RX12 9 "LeftArgumentsModel" "tape" "[I", .initialized RX12, .instanceMethod yX12_here, .selects RX12 yX12_here yX12_here, .methodLink RX12 115 yX12_here]) [5, 6, 7, 8, 9, 2, 10, 11, 12] rfl (by decide +kernel)) (goodIn_sub (fun _ h => List.mem_cons_of_mem _ (List.mem_append_right _ h)) gwX12))
set_option maxRecDepth 20000 in
theorem g_X12_items_1_5 : GoodIn q_X12_items_1 (va_wsS RX12 225 yX12_itemOf q_X12_itemOf_1) := goodIn_app (goodIn_r _ [18, 17, 2] rfl (by decide +kernel)) (goodIn_r (.code yX12_itemOf cX12_itemOf 2 (some .int) :: []) [16] rfl (by decide +kernel))
set_option maxRecDepth 20000 in
theorem g_X12_items_1_7 : GoodIn q_X12_items_1 (va_wsS RX12 228 yX12_has q_X12_has) := goodIn_app (goodIn_r _ [22, 21, 2] rfl (by decide +kernel)) (goodIn_r (.code yX12_has cX12_has 2 (some .boolean) :: []) [20] rfl (by decide +kernel))
set_option maxRecDepth 20000 in
theorem g_X12_items_1_8 : GoodIn q_X12_items_1 (va_wsS RX12 232 yX12_lowest q_X12_lowest_1) := goodIn_app (goodIn_r _ [25, 24, 2] rfl (by decide +kernel)) (goodIn_r (.code yX12_lowest cX12_lowest 2 (some .int) :: []) [23] rfl (by decide +kernel))
set_option maxRecDepth 20000 in
theorem g_X12_items_1_9 : GoodIn q_X12_items_1 (va_wsS RX12 235 yX12_highest q_X12_highest_1) := goodIn_app (goodIn_r _ [28, 27, 2] rfl (by decide +kernel)) (goodIn_r (.code yX12_highest cX12_highest 2 (some .int) :: []) [26] rfl (by decide +kernel))
set_option maxRecDepth 20000 in
theorem g_X12_items_1_10 : GoodIn q_X12_items_1 (wsV RX12 238 RX12 yX12_number q_X12_number) := goodIn_app (goodIn_r _ [42, 40, 41, 2] rfl (by decide +kernel)) (goodIn_ca (goodIn_r (.code yX12_number cX12_number 4 (some .int) :: [.code yX12_look cX12_look 1 (some .int), .code yX12_here cX12_here 1 (some .int), .fieldLink RX12 112 "LeftArgumentsModel" "at" "I", .fieldLink RX12 109 "LeftArgumentsModel" "size" "I", .fieldLink RX12 9 "LeftArgumentsModel" "tape" "[I", .initialized RX12, .instanceMethod yX12_here, .selects RX12 yX12_here yX12_here, .methodLink RX12 115 yX12_here, .instanceMethod yX12_look, .selects RX12 yX12_look yX12_look, .methodLink RX12 131 yX12_look, .code yX12_isDigit cX12_isDigit 1 (some .boolean), .static yX12_isDigit, .methodLink RX12 134 yX12_isDigit, .code yX12_bad cX12_bad 1 none, .fieldLink RX12 119 "LeftArgumentsModel" "wrong" "I", .instanceMethod yX12_bad, .selects RX12 yX12_bad yX12_bad, .methodLink RX12 128 yX12_bad, .code yX12_in cX12_in 3 (some .boolean), .static yX12_in, .methodLink RX12 217 yX12_in]) [29, 5, 6, 7, 8, 9, 2, 10, 11, 12, 13, 14, 15, 30, 31, 32, 33, 19, 34, 35, 36, 37, 38, 39] rfl (by decide +kernel)) (goodIn_sub (fun _ h => List.mem_cons_of_mem _ (List.mem_append_right _ h)) gwX12))
set_option maxHeartbeats 4000000 in
set_option maxRecDepth 100000 in
theorem k_X12_items_1 (l : Launch) (dC : Nat → ClassId) (dI : Nat → Nat → Nat) (h0 : Nat) (h1 : Nat) (h2 : Nat) (v0 : Int32) (v1 : Int32) (v2 : Int32) (v3 : Int32) (r0 : Nat) (r1 : Nat) (r2 : Nat) (r3 : Nat) (r4 : Nat) (r5 : Nat) (r6 : Nat) (v4 : Int32) (v5 : Int32) (r7 : Nat) (r8 : Nat) (r9 : Nat) (v6 : Int32) (r10 : Nat) (r11 : Nat) (v7 : Int32) (v8 : Int32) (r12 : Nat) (r13 : Nat) (v9 : Int32) (v10 : Int32) (r14 : Nat) (v11 : Int32) (v12 : Int32) (r15 : Nat) (v13 : Int32) (w14 : Int64) (r16 : Nat) (v15 : Int32) (v16 : Int32) (r17 : Nat) (r18 : Nat) (r19 : Nat) (r20 : Nat) (r21 : Nat) (r22 : Nat) (v17 : Int32) (r23 : Nat) (r24 : Nat) (r25 : Nat) (v18 : Int32) (g0 : ClassId) (f19 : Nat → Int32) (g1 : ClassId) (f20 : Nat → Int32) (i_v1 : 0 ≤ v1.toInt ∧ v1.toInt ≤ 240) (i_v2 : 0 ≤ v2.toInt ∧ v2.toInt ≤ 240) (i_v4 : 0 ≤ v4.toInt ∧ v4.toInt ≤ 4) (i_v5 : 0 ≤ v5.toInt ∧ v5.toInt ≤ 4) (i_v6 : 0 ≤ v6.toInt ∧ v6.toInt ≤ 8) (i_v7 : 0 ≤ v7.toInt ∧ v7.toInt ≤ 8) (i_v8 : 0 ≤ v8.toInt ∧ v8.toInt ≤ 1) (i_v9 : -1 ≤ v9.toInt ∧ v9.toInt ≤ 3) (i_v13 : 0 ≤ v13.toInt ∧ v13.toInt ≤ 40) (i_v17 : 0 ≤ v17.toInt ∧ v17.toInt ≤ 10) (i_v18 : 0 ≤ v18.toInt ∧ v18.toInt ≤ 1) (ia_f19 : (∀ j, 0 ≤ (f19 j).toInt ∧ (f19 j).toInt ≤ 255)) (sz : Nat) : Met l yX12_items q_X12_items_1 ({ frames := 3, cells := 0, slots := 0, locals := 63 }) (va_Pc [.ref h0, .int 115, .ref h2, .int 0, .int 4] (fun U => U.heap.size = sz ∧ va_P (dC, dI) vwCl (wd_490cd7da h0 v0 h1 v1 v2 (-1) v3 r0 r1 r2 r3 r4 r5 r6 v4 v5 r7 r8 h2 r9 v6 r10 r11 v7 v8 r12 r13 v9 v10 r14 v11 v12 r15 v13 w14 r16 v15 v16 r17 r18 r19 r20 r21 r22 v17 r23 r24 r25 v18 h1 g0 f19 h2 g1 f20) U.heap ∧ va_K (dC, dI) vwCl [(g0, .int), (g1, .int)] U ∧ va_D (fun _ => True) (wd_490cd7da h0 v0 h1 v1 v2 (-1) v3 r0 r1 r2 r3 r4 r5 r6 v4 v5 r7 r8 h2 r9 v6 r10 r11 v7 v8 r12 r13 v9 v10 r14 v11 v12 r15 v13 w14 r16 v15 v16 r17 r18 r19 r20 r21 r22 v17 r23 r24 r25 v18 h1 g0 f19 h2 g1 f20))) (va_Qv (fun (_ : Unit) => True) (fun (_ : Unit) (t : State) => (∃ (o_h0_3 : Int32) (o_h2 : Nat → Int32), 0 ≤ o_h0_3.toInt ∧ o_h0_3.toInt ≤ 240 ∧ (v2.toInt ≤ o_h0_3.toInt) ∧ (pm_RR o_h2) ∧ (pg_items f19 v1.toInt true 0 300 v2.toInt 0 (pg_ur f20) = ((true, o_h0_3.toInt), o_h2)) ∧ va_P (dC, dI) vwCl (wd_490cd7da h0 v0 h1 v1 o_h0_3 (-1) v3 r0 r1 r2 r3 r4 r5 r6 v4 v5 r7 r8 h2 r9 v6 r10 r11 v7 v8 r12 r13 v9 v10 r14 v11 v12 r15 v13 w14 r16 v15 v16 r17 r18 r19 r20 r21 r22 v17 r23 r24 r25 v18 h1 g0 f19 h2 g1 o_h2) t.heap ∧ va_K (dC, dI) vwCl [] t ∧ va_D (va_A (wd_490cd7da h0 v0 h1 v1 v2 (-1) v3 r0 r1 r2 r3 r4 r5 r6 v4 v5 r7 r8 h2 r9 v6 r10 r11 v7 v8 r12 r13 v9 v10 r14 v11 v12 r15 v13 w14 r16 v15 v16 r17 r18 r19 r20 r21 r22 v17 r23 r24 r25 v18 h1 g0 f19 h2 g1 f20) sz) (wd_490cd7da h0 v0 h1 v1 o_h0_3 (-1) v3 r0 r1 r2 r3 r4 r5 r6 v4 v5 r7 r8 h2 r9 v6 r10 r11 v7 v8 r12 r13 v9 v10 r14 v11 v12 r15 v13 w14 r16 v15 v16 r17 r18 r19 r20 r21 r22 v17 r23 r24 r25 v18 h1 g0 f19 h2 g1 o_h2)) ∨ (∃ (o_h0_3 : Int32) (o_h0_4 : Int32) (o_h2 : Nat → Int32), 0 ≤ o_h0_3.toInt ∧ o_h0_3.toInt ≤ 240 ∧ 0 ≤ o_h0_4.toInt ∧ o_h0_4.toInt ≤ 240 ∧ (v2.toInt ≤ o_h0_3.toInt) ∧ ((pg_items f19 v1.toInt true 0 300 v2.toInt 0 (pg_ur f20)).1 = (false, o_h0_4.toInt)) ∧ va_P (dC, dI) vwCl (wd_490cd7da h0 v0 h1 v1 o_h0_3 o_h0_4 v3 r0 r1 r2 r3 r4 r5 r6 v4 v5 r7 r8 h2 r9 v6 r10 r11 v7 v8 r12 r13 v9 v10 r14 v11 v12 r15 v13 w14 r16 v15 v16 r17 r18 r19 r20 r21 r22 v17 r23 r24 r25 v18 h1 g0 f19 h2 g1 o_h2) t.heap ∧ va_K (dC, dI) vwCl [] t ∧ va_D (va_A (wd_490cd7da h0 v0 h1 v1 v2 (-1) v3 r0 r1 r2 r3 r4 r5 r6 v4 v5 r7 r8 h2 r9 v6 r10 r11 v7 v8 r12 r13 v9 v10 r14 v11 v12 r15 v13 w14 r16 v15 v16 r17 r18 r19 r20 r21 r22 v17 r23 r24 r25 v18 h1 g0 f19 h2 g1 f20) sz) (wd_490cd7da h0 v0 h1 v1 o_h0_3 o_h0_4 v3 r0 r1 r2 r3 r4 r5 r6 v4 v5 r7 r8 h2 r9 v6 r10 r11 v7 v8 r12 r13 v9 v10 r14 v11 v12 r15 v13 w14 r16 v15 v16 r17 r18 r19 r20 r21 r22 v17 r23 r24 r25 v18 h1 g0 f19 h2 g1 o_h2))) (va_A (wd_490cd7da h0 v0 h1 v1 v2 (-1) v3 r0 r1 r2 r3 r4 r5 r6 v4 v5 r7 r8 h2 r9 v6 r10 r11 v7 v8 r12 r13 v9 v10 r14 v11 v12 r15 v13 w14 r16 v15 v16 r17 r18 r19 r20 r21 r22 v17 r23 r24 r25 v18 h1 g0 f19 h2 g1 f20) sz)) 0 0 (va_A (wd_490cd7da h0 v0 h1 v1 v2 (-1) v3 r0 r1 r2 r3 r4 r5 r6 v4 v5 r7 r8 h2 r9 v6 r10 r11 v7 v8 r12 r13 v9 v10 r14 v11 v12 r15 v13 w14 r16 v15 v16 r17 r18 r19 r20 r21 r22 v17 r23 r24 r25 v18 h1 g0 f19 h2 g1 f20) sz) := by
  refine Met.ofW (cc := cX12_items) (maxL := 7) (ret := none) (by decide) rfl ?_
  intro p e s m args below meth c s₁ B hml hv
  obtain ⟨i_v1a, i_v1b⟩ := i_v1
  obtain ⟨i_v2a, i_v2b⟩ := i_v2
  obtain ⟨i_v4a, i_v4b⟩ := i_v4
  obtain ⟨i_v5a, i_v5b⟩ := i_v5
  obtain ⟨i_v6a, i_v6b⟩ := i_v6
  obtain ⟨i_v7a, i_v7b⟩ := i_v7
  obtain ⟨i_v8a, i_v8b⟩ := i_v8
  obtain ⟨i_v9a, i_v9b⟩ := i_v9
  obtain ⟨i_v13a, i_v13b⟩ := i_v13
  obtain ⟨i_v17a, i_v17b⟩ := i_v17
  obtain ⟨i_v18a, i_v18b⟩ := i_v18
  obtain ⟨rfl, hsz, hP, hK, hD0⟩ := hv
  have hx := B.exec
  have hb := B.bytes
  have hr := B.returns
  have hts := atoms_spec (ws := q_X12_items_1) B.pre
  have hown : s.vm.findClass RX12 = some m.cls := findClass_of_methodNamed B.named
  have hlocks := B.notSynchronized
  subst hsz
  have hD := hD0.self (sz := s.heap.size)
  generalize hAe : va_A (wd_490cd7da h0 v0 h1 v1 v2 (-1) v3 r0 r1 r2 r3 r4 r5 r6 v4 v5 r7 r8 h2 r9 v6 r10 r11 v7 v8 r12 r13 v9 v10 r14 v11 v12 r15 v13 w14 r16 v15 v16 r17 r18 r19 r20 r21 r22 v17 r23 r24 r25 v18 h1 g0 f19 h2 g1 f20) s.heap.size = A at hD ⊢
  have hA : ∀ q : Nat, s.heap.size ≤ q → A q := fun q h => by rw [← hAe]; exact Or.inr h
  have hS : va_S A s.heap s.heap [] := va_S.rf
  generalize hQ : (MQ below _ _ s 0 0 A) = Q
  have hl := lv_entry ([.ref h0, .int 115, .ref h2, .int 0, .int 4]) (n := 7) (Nat.le_of_ble_eq_true rfl)
  rw [lg_entry_eq]
  generalize (lg_sl ([.ref h0, .int 115, .ref h2, .int 0, .int 4]) ++ List.replicate (7 - (lg_sl ([.ref h0, .int 115, .ref h2, .int 0, .int 4])).length) Slot.unset).toArray = ls at hl ⊢
  have hl : lv_has ls 7 [(0, .ref h0), (1, .int 115), (2, .ref h2), (3, .int 0), (4, .int 4)] := hl
  obtain ⟨H, hH⟩ : ∃ H : Heap, H = s.heap := ⟨_, rfl⟩
  obtain ⟨locs, hlocs⟩ : ∃ y : List Loc, y = [] := ⟨_, rfl⟩
  have hS : va_S A s.heap H locs := by rw [hH, hlocs]; exact va_S.rf
  have hP : va_P (dC, dI) vwCl (wd_490cd7da h0 v0 h1 v1 v2 (-1) v3 r0 r1 r2 r3 r4 r5 r6 v4 v5 r7 r8 h2 r9 v6 r10 r11 v7 v8 r12 r13 v9 v10 r14 v11 v12 r15 v13 w14 r16 v15 v16 r17 r18 r19 r20 r21 r22 v17 r23 r24 r25 v18 h1 g0 f19 h2 g1 f20) H := by rw [hH]; exact hP
  rw [← hH, ← hlocs]
  refine lv_iconst (v := 0) hx hb dX12_items_0 (by decide) ?_
  refine lv_istore (lv' := [(5, .int 0), (0, .ref h0), (1, .int 115), (2, .ref h2), (3, .int 0), (4, .int 4)]) hx hb dX12_items_1 hl (by decide) rfl (fun ls hl => ?_)
  refine lv_iload hx hb dX12_items_3 (lv_at hl 0 rfl) ?_
  refine lv_iload hx hb dX12_items_5 (lv_at hl 5 rfl) ?_
  refine lv_icmp_ge (tgt := 28) hx hb dX12_items_7 (by decide) (fun c => absurd c (by decide)) (fun _ => ?_)
  refine lv_aload_n hx hb dX12_items_10 rfl (lv_at hl 3 rfl) ?_
  refine lv_iload_n hx hb dX12_items_11 rfl (lv_at hl 4 rfl) ?_
  refine lv_iload hx hb dX12_items_12 (lv_at hl 0 rfl) ?_
  refine lv_iadd hx hb dX12_items_14 ?_
  refine lv_topi (fun tv1 etv1 => ?_)
  obtain rfl : tv1 = (0 : Int32) := etv1.trans (by first | rfl | decide)
  refine lv_iload_n hx hb dX12_items_15 rfl (lv_at hl 2 rfl) ?_
  refine lv_iload hx hb dX12_items_16 (lv_at hl 0 rfl) ?_
  have hPc := hP.sub (ws' := []) [] rfl
  have hDc := hD.sub (ws' := []) [] (by decide) rfl
  have hKc := hK.sub (tys' := []) [] rfl
  have hFc := va_free (wc := []) hD hS hA [] rfl
  refine va_calli (va_runS (As := [.int 115, .int 0]) (rest := [.int 0, .ref h2]) ⟨hx, hb, hml, hown, hts⟩ (k_X12_usual l dC dI   H.size) (va_cwS 2 hts g_X12_items_1_0 rfl rfl rfl (by decide +kernel) ⟨Nat.le_of_ble_eq_true rfl, Nat.le_of_ble_eq_true rfl⟩) (pv_PS hPc hKc hDc) rfl rfl hl.1 rfl (lv_room (Nat.le_of_ble_eq_true rfl)) dX12_items_18 ⟨Nat.le_of_ble_eq_true rfl, Nat.le_of_ble_eq_true rfl⟩) hS (fun q _ h => hFc q h) hFc (fun ra2 u t H1 locs ht hvm hwra2 hB hz1 hk1 hS => ?_)
  try rw [hwra2] at hB
  obtain ⟨pt0_ra2, pt1_ra2, hP1, hK1, hD1⟩ := hB
  rw [ht] at hP1
  obtain ⟨hP2, hD2⟩ := va_join (wr := (wd_490cd7da h0 v0 h1 v1 v2 (-1) v3 r0 r1 r2 r3 r4 r5 r6 v4 v5 r7 r8 h2 r9 v6 r10 r11 v7 v8 r12 r13 v9 v10 r14 v11 v12 r15 v13 w14 r16 v15 v16 r17 r18 r19 r20 r21 r22 v17 r23 r24 r25 v18 h1 g0 f19 h2 g1 f20)) (w1 := []) hP hD [] [0, 1, 2] rfl rfl (by decide) (by decide) hk1 hFc hP1 hD1
  clear hP hD hPc hDc hKc hFc hP1 hK1 hD1 hk1 hz1
  generalize H1 = H at hP2 hS ⊢
  have hP : va_P (dC, dI) vwCl (wd_490cd7da h0 v0 h1 v1 v2 (-1) v3 r0 r1 r2 r3 r4 r5 r6 v4 v5 r7 r8 h2 r9 v6 r10 r11 v7 v8 r12 r13 v9 v10 r14 v11 v12 r15 v13 w14 r16 v15 v16 r17 r18 r19 r20 r21 r22 v17 r23 r24 r25 v18 h1 g0 f19 h2 g1 f20) H := hP2
  have hD : va_D A (wd_490cd7da h0 v0 h1 v1 v2 (-1) v3 r0 r1 r2 r3 r4 r5 r6 v4 v5 r7 r8 h2 r9 v6 r10 r11 v7 v8 r12 r13 v9 v10 r14 v11 v12 r15 v13 w14 r16 v15 v16 r17 r18 r19 r20 r21 r22 v17 r23 r24 r25 v18 h1 g0 f19 h2 g1 f20) := hD2
  clear hP2 hD2
  obtain rfl : ra2 = (20 : Int32) := pv_cs (by decide) pt0_ra2 pt1_ra2
  refine va_iast hx hb hK hP hD hS 2 1 rfl rfl (pv_c (x := 0) (n := 4) (by decide)) dX12_items_21 (fun H locs hP hD hS => ?_)
  obtain ⟨fn3, efn3⟩ : ∃ g : Nat → Int32, g = upd f20 (Int32.toNatClampNeg 0) 20 := ⟨_, rfl⟩
  rw [← efn3] at hP hD
  have hP : va_P (dC, dI) vwCl (wd_490cd7da h0 v0 h1 v1 v2 (-1) v3 r0 r1 r2 r3 r4 r5 r6 v4 v5 r7 r8 h2 r9 v6 r10 r11 v7 v8 r12 r13 v9 v10 r14 v11 v12 r15 v13 w14 r16 v15 v16 r17 r18 r19 r20 r21 r22 v17 r23 r24 r25 v18 h1 g0 f19 h2 g1 fn3) H := hP
  have hD : va_D A (wd_490cd7da h0 v0 h1 v1 v2 (-1) v3 r0 r1 r2 r3 r4 r5 r6 v4 v5 r7 r8 h2 r9 v6 r10 r11 v7 v8 r12 r13 v9 v10 r14 v11 v12 r15 v13 w14 r16 v15 v16 r17 r18 r19 r20 r21 r22 v17 r23 r24 r25 v18 h1 g0 f19 h2 g1 fn3) := hD
  refine lv_iinc (v := 1) (lv' := [(5, .int 1), (0, .ref h0), (1, .int 115), (2, .ref h2), (3, .int 0), (4, .int 4)]) hx hb dX12_items_22 hl (k := 0) rfl (by decide) (by decide) rfl (fun ls hl => ?_)
  refine lv_goto (tgt := 3) hx hb dX12_items_25 (by decide) ?_
  refine lv_iload hx hb dX12_items_3 (lv_at hl 0 rfl) ?_
  refine lv_iload hx hb dX12_items_5 (lv_at hl 5 rfl) ?_
  refine lv_icmp_ge (tgt := 28) hx hb dX12_items_7 (by decide) (fun c => absurd c (by decide)) (fun _ => ?_)
  refine lv_aload_n hx hb dX12_items_10 rfl (lv_at hl 3 rfl) ?_
  refine lv_iload_n hx hb dX12_items_11 rfl (lv_at hl 4 rfl) ?_
  refine lv_iload hx hb dX12_items_12 (lv_at hl 0 rfl) ?_
  refine lv_iadd hx hb dX12_items_14 ?_
  refine lv_topi (fun tv4 etv4 => ?_)
  obtain rfl : tv4 = (1 : Int32) := etv4.trans (by first | rfl | decide)
  refine lv_iload_n hx hb dX12_items_15 rfl (lv_at hl 2 rfl) ?_
  refine lv_iload hx hb dX12_items_16 (lv_at hl 0 rfl) ?_
  have hPc := hP.sub (ws' := []) [] rfl
  have hDc := hD.sub (ws' := []) [] (by decide) rfl
  have hKc := hK.sub (tys' := []) [] rfl
  have hFc := va_free (wc := []) hD hS hA [] rfl
  refine va_calli (va_runS (As := [.int 115, .int 1]) (rest := [.int 1, .ref h2]) ⟨hx, hb, hml, hown, hts⟩ (k_X12_usual_1 l dC dI   H.size) (va_cwS 2 hts g_X12_items_1_1 rfl rfl rfl (by decide +kernel) ⟨Nat.le_of_ble_eq_true rfl, Nat.le_of_ble_eq_true rfl⟩) (pv_PS hPc hKc hDc) rfl rfl hl.1 rfl (lv_room (Nat.le_of_ble_eq_true rfl)) dX12_items_18 ⟨Nat.le_of_ble_eq_true rfl, Nat.le_of_ble_eq_true rfl⟩) hS (fun q _ h => hFc q h) hFc (fun ra5 u t H1 locs ht hvm hwra5 hB hz1 hk1 hS => ?_)
  try rw [hwra5] at hB
  obtain ⟨pt0_ra5, pt1_ra5, hP1, hK1, hD1⟩ := hB
  rw [ht] at hP1
  obtain ⟨hP2, hD2⟩ := va_join (wr := (wd_490cd7da h0 v0 h1 v1 v2 (-1) v3 r0 r1 r2 r3 r4 r5 r6 v4 v5 r7 r8 h2 r9 v6 r10 r11 v7 v8 r12 r13 v9 v10 r14 v11 v12 r15 v13 w14 r16 v15 v16 r17 r18 r19 r20 r21 r22 v17 r23 r24 r25 v18 h1 g0 f19 h2 g1 fn3)) (w1 := []) hP hD [] [0, 1, 2] rfl rfl (by decide) (by decide) hk1 hFc hP1 hD1
  clear hP hD hPc hDc hKc hFc hP1 hK1 hD1 hk1 hz1
  generalize H1 = H at hP2 hS ⊢
  have hP : va_P (dC, dI) vwCl (wd_490cd7da h0 v0 h1 v1 v2 (-1) v3 r0 r1 r2 r3 r4 r5 r6 v4 v5 r7 r8 h2 r9 v6 r10 r11 v7 v8 r12 r13 v9 v10 r14 v11 v12 r15 v13 w14 r16 v15 v16 r17 r18 r19 r20 r21 r22 v17 r23 r24 r25 v18 h1 g0 f19 h2 g1 fn3) H := hP2
  have hD : va_D A (wd_490cd7da h0 v0 h1 v1 v2 (-1) v3 r0 r1 r2 r3 r4 r5 r6 v4 v5 r7 r8 h2 r9 v6 r10 r11 v7 v8 r12 r13 v9 v10 r14 v11 v12 r15 v13 w14 r16 v15 v16 r17 r18 r19 r20 r21 r22 v17 r23 r24 r25 v18 h1 g0 f19 h2 g1 fn3) := hD2
  clear hP2 hD2
  obtain rfl : ra5 = (3 : Int32) := pv_cs (by decide) pt0_ra5 pt1_ra5
  refine va_iast hx hb hK hP hD hS 2 1 rfl rfl (pv_c (x := 1) (n := 4) (by decide)) dX12_items_21 (fun H locs hP hD hS => ?_)
  obtain ⟨fn6, efn6⟩ : ∃ g : Nat → Int32, g = upd fn3 (Int32.toNatClampNeg 1) 3 := ⟨_, rfl⟩
  rw [← efn6] at hP hD
  have hP : va_P (dC, dI) vwCl (wd_490cd7da h0 v0 h1 v1 v2 (-1) v3 r0 r1 r2 r3 r4 r5 r6 v4 v5 r7 r8 h2 r9 v6 r10 r11 v7 v8 r12 r13 v9 v10 r14 v11 v12 r15 v13 w14 r16 v15 v16 r17 r18 r19 r20 r21 r22 v17 r23 r24 r25 v18 h1 g0 f19 h2 g1 fn6) H := hP
  have hD : va_D A (wd_490cd7da h0 v0 h1 v1 v2 (-1) v3 r0 r1 r2 r3 r4 r5 r6 v4 v5 r7 r8 h2 r9 v6 r10 r11 v7 v8 r12 r13 v9 v10 r14 v11 v12 r15 v13 w14 r16 v15 v16 r17 r18 r19 r20 r21 r22 v17 r23 r24 r25 v18 h1 g0 f19 h2 g1 fn6) := hD
  refine lv_iinc (v := 2) (lv' := [(5, .int 2), (0, .ref h0), (1, .int 115), (2, .ref h2), (3, .int 0), (4, .int 4)]) hx hb dX12_items_22 hl (k := 0) rfl (by decide) (by decide) rfl (fun ls hl => ?_)
  refine lv_goto (tgt := 3) hx hb dX12_items_25 (by decide) ?_
  refine lv_iload hx hb dX12_items_3 (lv_at hl 0 rfl) ?_
  refine lv_iload hx hb dX12_items_5 (lv_at hl 5 rfl) ?_
  refine lv_icmp_ge (tgt := 28) hx hb dX12_items_7 (by decide) (fun c => absurd c (by decide)) (fun _ => ?_)
  refine lv_aload_n hx hb dX12_items_10 rfl (lv_at hl 3 rfl) ?_
  refine lv_iload_n hx hb dX12_items_11 rfl (lv_at hl 4 rfl) ?_
  refine lv_iload hx hb dX12_items_12 (lv_at hl 0 rfl) ?_
  refine lv_iadd hx hb dX12_items_14 ?_
  refine lv_topi (fun tv7 etv7 => ?_)
  obtain rfl : tv7 = (2 : Int32) := etv7.trans (by first | rfl | decide)
  refine lv_iload_n hx hb dX12_items_15 rfl (lv_at hl 2 rfl) ?_
  refine lv_iload hx hb dX12_items_16 (lv_at hl 0 rfl) ?_
  have hPc := hP.sub (ws' := []) [] rfl
  have hDc := hD.sub (ws' := []) [] (by decide) rfl
  have hKc := hK.sub (tys' := []) [] rfl
  have hFc := va_free (wc := []) hD hS hA [] rfl
  refine va_calli (va_runS (As := [.int 115, .int 2]) (rest := [.int 2, .ref h2]) ⟨hx, hb, hml, hown, hts⟩ (k_X12_usual_2 l dC dI   H.size) (va_cwS 2 hts g_X12_items_1_2 rfl rfl rfl (by decide +kernel) ⟨Nat.le_of_ble_eq_true rfl, Nat.le_of_ble_eq_true rfl⟩) (pv_PS hPc hKc hDc) rfl rfl hl.1 rfl (lv_room (Nat.le_of_ble_eq_true rfl)) dX12_items_18 ⟨Nat.le_of_ble_eq_true rfl, Nat.le_of_ble_eq_true rfl⟩) hS (fun q _ h => hFc q h) hFc (fun ra8 u t H1 locs ht hvm hwra8 hB hz1 hk1 hS => ?_)
  try rw [hwra8] at hB
  obtain ⟨pt0_ra8, pt1_ra8, hP1, hK1, hD1⟩ := hB
  rw [ht] at hP1
  obtain ⟨hP2, hD2⟩ := va_join (wr := (wd_490cd7da h0 v0 h1 v1 v2 (-1) v3 r0 r1 r2 r3 r4 r5 r6 v4 v5 r7 r8 h2 r9 v6 r10 r11 v7 v8 r12 r13 v9 v10 r14 v11 v12 r15 v13 w14 r16 v15 v16 r17 r18 r19 r20 r21 r22 v17 r23 r24 r25 v18 h1 g0 f19 h2 g1 fn6)) (w1 := []) hP hD [] [0, 1, 2] rfl rfl (by decide) (by decide) hk1 hFc hP1 hD1
  clear hP hD hPc hDc hKc hFc hP1 hK1 hD1 hk1 hz1
  generalize H1 = H at hP2 hS ⊢
  have hP : va_P (dC, dI) vwCl (wd_490cd7da h0 v0 h1 v1 v2 (-1) v3 r0 r1 r2 r3 r4 r5 r6 v4 v5 r7 r8 h2 r9 v6 r10 r11 v7 v8 r12 r13 v9 v10 r14 v11 v12 r15 v13 w14 r16 v15 v16 r17 r18 r19 r20 r21 r22 v17 r23 r24 r25 v18 h1 g0 f19 h2 g1 fn6) H := hP2
  have hD : va_D A (wd_490cd7da h0 v0 h1 v1 v2 (-1) v3 r0 r1 r2 r3 r4 r5 r6 v4 v5 r7 r8 h2 r9 v6 r10 r11 v7 v8 r12 r13 v9 v10 r14 v11 v12 r15 v13 w14 r16 v15 v16 r17 r18 r19 r20 r21 r22 v17 r23 r24 r25 v18 h1 g0 f19 h2 g1 fn6) := hD2
  clear hP2 hD2
  obtain rfl : ra8 = (4 : Int32) := pv_cs (by decide) pt0_ra8 pt1_ra8
  refine va_iast hx hb hK hP hD hS 2 1 rfl rfl (pv_c (x := 2) (n := 4) (by decide)) dX12_items_21 (fun H locs hP hD hS => ?_)
  obtain ⟨fn9, efn9⟩ : ∃ g : Nat → Int32, g = upd fn6 (Int32.toNatClampNeg 2) 4 := ⟨_, rfl⟩
  rw [← efn9] at hP hD
  have hP : va_P (dC, dI) vwCl (wd_490cd7da h0 v0 h1 v1 v2 (-1) v3 r0 r1 r2 r3 r4 r5 r6 v4 v5 r7 r8 h2 r9 v6 r10 r11 v7 v8 r12 r13 v9 v10 r14 v11 v12 r15 v13 w14 r16 v15 v16 r17 r18 r19 r20 r21 r22 v17 r23 r24 r25 v18 h1 g0 f19 h2 g1 fn9) H := hP
  have hD : va_D A (wd_490cd7da h0 v0 h1 v1 v2 (-1) v3 r0 r1 r2 r3 r4 r5 r6 v4 v5 r7 r8 h2 r9 v6 r10 r11 v7 v8 r12 r13 v9 v10 r14 v11 v12 r15 v13 w14 r16 v15 v16 r17 r18 r19 r20 r21 r22 v17 r23 r24 r25 v18 h1 g0 f19 h2 g1 fn9) := hD
  refine lv_iinc (v := 3) (lv' := [(5, .int 3), (0, .ref h0), (1, .int 115), (2, .ref h2), (3, .int 0), (4, .int 4)]) hx hb dX12_items_22 hl (k := 0) rfl (by decide) (by decide) rfl (fun ls hl => ?_)
  refine lv_goto (tgt := 3) hx hb dX12_items_25 (by decide) ?_
  refine lv_iload hx hb dX12_items_3 (lv_at hl 0 rfl) ?_
  refine lv_iload hx hb dX12_items_5 (lv_at hl 5 rfl) ?_
  refine lv_icmp_ge (tgt := 28) hx hb dX12_items_7 (by decide) (fun c => absurd c (by decide)) (fun _ => ?_)
  refine lv_aload_n hx hb dX12_items_10 rfl (lv_at hl 3 rfl) ?_
  refine lv_iload_n hx hb dX12_items_11 rfl (lv_at hl 4 rfl) ?_
  refine lv_iload hx hb dX12_items_12 (lv_at hl 0 rfl) ?_
  refine lv_iadd hx hb dX12_items_14 ?_
  refine lv_topi (fun tv10 etv10 => ?_)
  obtain rfl : tv10 = (3 : Int32) := etv10.trans (by first | rfl | decide)
  refine lv_iload_n hx hb dX12_items_15 rfl (lv_at hl 2 rfl) ?_
  refine lv_iload hx hb dX12_items_16 (lv_at hl 0 rfl) ?_
  have hPc := hP.sub (ws' := []) [] rfl
  have hDc := hD.sub (ws' := []) [] (by decide) rfl
  have hKc := hK.sub (tys' := []) [] rfl
  have hFc := va_free (wc := []) hD hS hA [] rfl
  refine va_calli (va_runS (As := [.int 115, .int 3]) (rest := [.int 3, .ref h2]) ⟨hx, hb, hml, hown, hts⟩ (k_X12_usual_3 l dC dI   H.size) (va_cwS 2 hts g_X12_items_1_3 rfl rfl rfl (by decide +kernel) ⟨Nat.le_of_ble_eq_true rfl, Nat.le_of_ble_eq_true rfl⟩) (pv_PS hPc hKc hDc) rfl rfl hl.1 rfl (lv_room (Nat.le_of_ble_eq_true rfl)) dX12_items_18 ⟨Nat.le_of_ble_eq_true rfl, Nat.le_of_ble_eq_true rfl⟩) hS (fun q _ h => hFc q h) hFc (fun ra11 u t H1 locs ht hvm hwra11 hB hz1 hk1 hS => ?_)
  try rw [hwra11] at hB
  obtain ⟨pt0_ra11, pt1_ra11, hP1, hK1, hD1⟩ := hB
  rw [ht] at hP1
  obtain ⟨hP2, hD2⟩ := va_join (wr := (wd_490cd7da h0 v0 h1 v1 v2 (-1) v3 r0 r1 r2 r3 r4 r5 r6 v4 v5 r7 r8 h2 r9 v6 r10 r11 v7 v8 r12 r13 v9 v10 r14 v11 v12 r15 v13 w14 r16 v15 v16 r17 r18 r19 r20 r21 r22 v17 r23 r24 r25 v18 h1 g0 f19 h2 g1 fn9)) (w1 := []) hP hD [] [0, 1, 2] rfl rfl (by decide) (by decide) hk1 hFc hP1 hD1
  clear hP hD hPc hDc hKc hFc hP1 hK1 hD1 hk1 hz1
  generalize H1 = H at hP2 hS ⊢
  have hP : va_P (dC, dI) vwCl (wd_490cd7da h0 v0 h1 v1 v2 (-1) v3 r0 r1 r2 r3 r4 r5 r6 v4 v5 r7 r8 h2 r9 v6 r10 r11 v7 v8 r12 r13 v9 v10 r14 v11 v12 r15 v13 w14 r16 v15 v16 r17 r18 r19 r20 r21 r22 v17 r23 r24 r25 v18 h1 g0 f19 h2 g1 fn9) H := hP2
  have hD : va_D A (wd_490cd7da h0 v0 h1 v1 v2 (-1) v3 r0 r1 r2 r3 r4 r5 r6 v4 v5 r7 r8 h2 r9 v6 r10 r11 v7 v8 r12 r13 v9 v10 r14 v11 v12 r15 v13 w14 r16 v15 v16 r17 r18 r19 r20 r21 r22 v17 r23 r24 r25 v18 h1 g0 f19 h2 g1 fn9) := hD2
  clear hP2 hD2
  obtain rfl : ra11 = (20 : Int32) := pv_cs (by decide) pt0_ra11 pt1_ra11
  refine va_iast hx hb hK hP hD hS 2 1 rfl rfl (pv_c (x := 3) (n := 4) (by decide)) dX12_items_21 (fun H locs hP hD hS => ?_)
  obtain ⟨fn12, efn12⟩ : ∃ g : Nat → Int32, g = upd fn9 (Int32.toNatClampNeg 3) 20 := ⟨_, rfl⟩
  rw [← efn12] at hP hD
  have hP : va_P (dC, dI) vwCl (wd_490cd7da h0 v0 h1 v1 v2 (-1) v3 r0 r1 r2 r3 r4 r5 r6 v4 v5 r7 r8 h2 r9 v6 r10 r11 v7 v8 r12 r13 v9 v10 r14 v11 v12 r15 v13 w14 r16 v15 v16 r17 r18 r19 r20 r21 r22 v17 r23 r24 r25 v18 h1 g0 f19 h2 g1 fn12) H := hP
  have hD : va_D A (wd_490cd7da h0 v0 h1 v1 v2 (-1) v3 r0 r1 r2 r3 r4 r5 r6 v4 v5 r7 r8 h2 r9 v6 r10 r11 v7 v8 r12 r13 v9 v10 r14 v11 v12 r15 v13 w14 r16 v15 v16 r17 r18 r19 r20 r21 r22 v17 r23 r24 r25 v18 h1 g0 f19 h2 g1 fn12) := hD
  refine lv_iinc (v := 4) (lv' := [(5, .int 4), (0, .ref h0), (1, .int 115), (2, .ref h2), (3, .int 0), (4, .int 4)]) hx hb dX12_items_22 hl (k := 0) rfl (by decide) (by decide) rfl (fun ls hl => ?_)
  refine lv_goto (tgt := 3) hx hb dX12_items_25 (by decide) ?_
  refine lv_iload hx hb dX12_items_3 (lv_at hl 0 rfl) ?_
  refine lv_iload hx hb dX12_items_5 (lv_at hl 5 rfl) ?_
  refine lv_icmp_ge (tgt := 28) hx hb dX12_items_7 (by decide) (fun _ => ?_) (fun c => absurd (by decide) c)
  refine lv_iconst (v := 0) hx hb dX12_items_28 (by decide) ?_
  refine lv_istore (lv' := [(5, .int 0), (0, .ref h0), (1, .int 115), (2, .ref h2), (3, .int 0), (4, .int 4)]) hx hb dX12_items_29 hl (by decide) rfl (fun ls hl => ?_)
  refine lv_iload_n hx hb dX12_items_31 rfl (lv_at hl 2 rfl) ?_
  refine lv_aload_n hx hb dX12_items_32 rfl (lv_at hl 1 rfl) ?_
  have hPc := hP.sub (ws' := (wd_f4cd022e h0 v0 h1 v1 v2 (-1) v3 r0 r1 r2 r3 r4 r5 r6 v4 v5 r7 r8 h2 r9 v6 r10 r11 v7 v8 r12 r13 v9 v10 r14 v11 v12 r15 v13 w14 r16 v15 v16 r17 r18 r19 r20 r21 r22 v17 r23 r24 r25 v18 h1 g0 f19)) [0, 1] rfl
  have hDc := hD.sub (ws' := (wd_f4cd022e h0 v0 h1 v1 v2 (-1) v3 r0 r1 r2 r3 r4 r5 r6 v4 v5 r7 r8 h2 r9 v6 r10 r11 v7 v8 r12 r13 v9 v10 r14 v11 v12 r15 v13 w14 r16 v15 v16 r17 r18 r19 r20 r21 r22 v17 r23 r24 r25 v18 h1 g0 f19)) [0, 1] (by decide) rfl
  have hKc := hK.sub (tys' := [(g0, .int)]) [0] rfl
  have hFc := va_free (wc := (wd_f4cd022e h0 v0 h1 v1 v2 (-1) v3 r0 r1 r2 r3 r4 r5 r6 v4 v5 r7 r8 h2 r9 v6 r10 r11 v7 v8 r12 r13 v9 v10 r14 v11 v12 r15 v13 w14 r16 v15 v16 r17 r18 r19 r20 r21 r22 v17 r23 r24 r25 v18 h1 g0 f19)) hD hS hA [0, 1] rfl
  refine va_calli (va_runV (As := []) (rest := [.int 115]) ⟨hx, hb, hml, hown, hts⟩ (k_X12_look l dC dI h0 h1 v0 v1 v2 ((-1)) v3 r0 r1 r2 r3 r4 r5 r6 v4 v5 r7 r8 h2 r9 v6 r10 r11 v7 v8 r12 r13 v9 v10 r14 v11 v12 r15 v13 w14 r16 v15 v16 r17 r18 r19 r20 r21 r22 v17 r23 r24 r25 v18 g0 f19 ⟨i_v1a, i_v1b⟩ ⟨i_v2a, i_v2b⟩ ⟨i_v4a, i_v4b⟩ ⟨i_v5a, i_v5b⟩ ⟨i_v6a, i_v6b⟩ ⟨i_v7a, i_v7b⟩ ⟨i_v8a, i_v8b⟩ ⟨i_v9a, i_v9b⟩ ⟨i_v13a, i_v13b⟩ ⟨i_v17a, i_v17b⟩ ⟨i_v18a, i_v18b⟩ ia_f19 H.size) (cwV 0 hts g_X12_items_1_4 rfl rfl rfl (by decide +kernel) ⟨Nat.le_of_ble_eq_true rfl, Nat.le_of_ble_eq_true rfl⟩) (pv_PV12 hPc hKc hDc (q0 := 0) rfl) rfl rfl hl.1 rfl (lv_room (Nat.le_of_ble_eq_true rfl)) dX12_items_33 ⟨Nat.le_of_ble_eq_true rfl, Nat.le_of_ble_eq_true rfl⟩) hS (fun q _ h => hFc q h) hFc (fun ra13 u t H1 locs ht hvm hwra13 hB hz1 hk1 hS => ?_)
  try rw [hwra13] at hB
  have hkra13_0 : (((-1) : Int32)).toInt = -1 := by decide
  rcases hB with hB | hB
  · skip
    obtain ⟨x14, oa_x14, ob_x14, pt0_ra13, pt1_ra13, pt2_ra13, pt3_ra13, pt4_ra13, pt5_ra13, pt6_ra13, hP1, hK1, hD1⟩ := hB
    rw [ht] at hP1
    obtain ⟨hP2, hD2⟩ := va_join (wr := (wd_6f8f3203 h2 g1 fn12)) (w1 := (wd_f4cd022e h0 v0 h1 v1 x14 (-1) v3 r0 r1 r2 r3 r4 r5 r6 v4 v5 r7 r8 h2 r9 v6 r10 r11 v7 v8 r12 r13 v9 v10 r14 v11 v12 r15 v13 w14 r16 v15 v16 r17 r18 r19 r20 r21 r22 v17 r23 r24 r25 v18 h1 g0 f19)) hP hD [0, 1] [2] rfl rfl (by decide) (by decide) hk1 hFc hP1 hD1
    clear hP hD hPc hDc hKc hFc hP1 hK1 hD1 hk1 hz1
    generalize H1 = H at hP2 hS ⊢
    have hP := hP2.sub (ws' := (wd_490cd7da h0 v0 h1 v1 x14 (-1) v3 r0 r1 r2 r3 r4 r5 r6 v4 v5 r7 r8 h2 r9 v6 r10 r11 v7 v8 r12 r13 v9 v10 r14 v11 v12 r15 v13 w14 r16 v15 v16 r17 r18 r19 r20 r21 r22 v17 r23 r24 r25 v18 h1 g0 f19 h2 g1 fn12)) [1, 2, 0] rfl
    have hD := hD2.sub (ws' := (wd_490cd7da h0 v0 h1 v1 x14 (-1) v3 r0 r1 r2 r3 r4 r5 r6 v4 v5 r7 r8 h2 r9 v6 r10 r11 v7 v8 r12 r13 v9 v10 r14 v11 v12 r15 v13 w14 r16 v15 v16 r17 r18 r19 r20 r21 r22 v17 r23 r24 r25 v18 h1 g0 f19 h2 g1 fn12)) [1, 2, 0] (by decide) rfl
    clear hP2 hD2
    obtain rfl : ra13 = ((-1) : Int32) := pv_cs (by decide) pt0_ra13 pt1_ra13
    have hPc := hP.sub (ws' := []) [] rfl
    have hDc := hD.sub (ws' := []) [] (by decide) rfl
    have hKc := hK.sub (tys' := []) [] rfl
    have hFc := va_free (wc := []) hD hS hA [] rfl
    refine va_calli (va_runS (As := [.int 115, .int (-1)]) (rest := []) ⟨hx, hb, hml, hown, hts⟩ (k_X12_itemOf_1 l dC dI ((-1))  H.size) (va_cwS 2 hts g_X12_items_1_5 rfl rfl rfl (by decide +kernel) ⟨Nat.le_of_ble_eq_true rfl, Nat.le_of_ble_eq_true rfl⟩) (pv_PS hPc hKc hDc) rfl rfl hl.1 rfl (lv_room (Nat.le_of_ble_eq_true rfl)) dX12_items_36 ⟨Nat.le_of_ble_eq_true rfl, Nat.le_of_ble_eq_true rfl⟩) hS (fun q _ h => hFc q h) hFc (fun ra15 u t H1 locs ht hvm hwra15 hB hz1 hk1 hS => ?_)
    try rw [hwra15] at hB
    have hkra15_0 : (((-1) : Int32)).toInt = -1 := by decide
    obtain ⟨pt0_ra15, pt1_ra15, pt2_ra15, pt3_ra15, hP1, hK1, hD1⟩ := hB
    rw [ht] at hP1
    obtain ⟨hP2, hD2⟩ := va_join (wr := (wd_490cd7da h0 v0 h1 v1 x14 (-1) v3 r0 r1 r2 r3 r4 r5 r6 v4 v5 r7 r8 h2 r9 v6 r10 r11 v7 v8 r12 r13 v9 v10 r14 v11 v12 r15 v13 w14 r16 v15 v16 r17 r18 r19 r20 r21 r22 v17 r23 r24 r25 v18 h1 g0 f19 h2 g1 fn12)) (w1 := []) hP hD [] [0, 1, 2] rfl rfl (by decide) (by decide) hk1 hFc hP1 hD1
    clear hP hD hPc hDc hKc hFc hP1 hK1 hD1 hk1 hz1
    generalize H1 = H at hP2 hS ⊢
    have hP : va_P (dC, dI) vwCl (wd_490cd7da h0 v0 h1 v1 x14 (-1) v3 r0 r1 r2 r3 r4 r5 r6 v4 v5 r7 r8 h2 r9 v6 r10 r11 v7 v8 r12 r13 v9 v10 r14 v11 v12 r15 v13 w14 r16 v15 v16 r17 r18 r19 r20 r21 r22 v17 r23 r24 r25 v18 h1 g0 f19 h2 g1 fn12) H := hP2
    have hD : va_D A (wd_490cd7da h0 v0 h1 v1 x14 (-1) v3 r0 r1 r2 r3 r4 r5 r6 v4 v5 r7 r8 h2 r9 v6 r10 r11 v7 v8 r12 r13 v9 v10 r14 v11 v12 r15 v13 w14 r16 v15 v16 r17 r18 r19 r20 r21 r22 v17 r23 r24 r25 v18 h1 g0 f19 h2 g1 fn12) := hD2
    clear hP2 hD2
    have hkra15 : ra15 = pg_it true (pg_ch f19 v1.toInt x14.toInt) := by rw [show pg_ch f19 v1.toInt x14.toInt = (-1) by omega]; exact pt3_ra15
    refine lv_istore (lv' := [(6, .int ra15), (5, .int 0), (0, .ref h0), (1, .int 115), (2, .ref h2), (3, .int 0), (4, .int 4)]) hx hb dX12_items_39 hl (by decide) rfl (fun ls hl => ?_)
    refine lv_aload_n hx hb dX12_items_41 rfl (lv_at hl 2 rfl) ?_
    refine va_get (D := (dC, dI)) (ci := 12) (v := .int (-1)) (C := RX12) (T := TX12) (N := 48) hx hb hts (fun _ h => List.mem_cons_of_mem _ (List.mem_append_right _ h)) hown hK hP 0 rfl rfl 4 (by decide) (hts (.fieldLink RX12 119 "LeftArgumentsModel" "wrong" "I") (List.mem_cons_of_mem _ (List.mem_append_left _ (List.mem_of_getElem? (i := 18) rfl)))) (fun _ h9 => h9) rfl dX12_items_42 ?_
    refine lv_iconst (v := (-1)) hx hb dX12_items_45 (by decide) ?_
    refine lv_icmp_ne (tgt := 131) hx hb dX12_items_46 (by decide) (fun c => absurd (by decide) c) (fun _ => ?_)
    refine lv_iload hx hb dX12_items_49 (lv_at hl 0 rfl) ?_
    refine lv_iconst (v := (-1)) hx hb dX12_items_51 (by decide) ?_
    refine lv_icmp_eq (tgt := 131) hx hb dX12_items_52 (by decide) (fun c16 => ?_) (fun c16 => ?_)
    · skip
      have fc16 : ra15.toInt = (-1) := congrArg Int32.toInt c16
      subst hQ
      have hP9 := hP.sub (ws' := (wd_490cd7da h0 v0 h1 v1 x14 (-1) v3 r0 r1 r2 r3 r4 r5 r6 v4 v5 r7 r8 h2 r9 v6 r10 r11 v7 v8 r12 r13 v9 v10 r14 v11 v12 r15 v13 w14 r16 v15 v16 r17 r18 r19 r20 r21 r22 v17 r23 r24 r25 v18 h1 g0 f19 h2 g1 fn12)) [0, 1, 2] rfl
      have hD9 := hD.sub (ws' := (wd_490cd7da h0 v0 h1 v1 x14 (-1) v3 r0 r1 r2 r3 r4 r5 r6 v4 v5 r7 r8 h2 r9 v6 r10 r11 v7 v8 r12 r13 v9 v10 r14 v11 v12 r15 v13 w14 r16 v15 v16 r17 r18 r19 r20 r21 r22 v17 r23 r24 r25 v18 h1 g0 f19 h2 g1 fn12)) [0, 1, 2] (by decide) rfl
      have hK9 := hK.sub (tys' := []) [] rfl
      exact W.vret hx hb hr (fun t ht hW => ⟨⟨(), rfl, trivial, Or.inl ⟨x14, fn12, oa_x14, ob_x14, by omega, by first | assumption | (apply pm_RR.init <;> first | assumption | decide), by first | (apply pg_I.out <;> first | assumption | exact Or.inl (by assumption) | exact Or.inr (by assumption)) | (apply pg_items.e0 <;> first | assumption | omega | (apply pg_ur.mk <;> first | assumption | decide) | (apply pg_us.mk <;> first | assumption | omega | decide)) | (apply pg_I.last <;> first | assumption | omega | (show _ = pm_los _; assumption) | (show _ = pm_his _; assumption) | (show _ = pm_lob _; assumption) | (show _ = pm_hib _; assumption)), by rw [ht]; exact hP9, va_K.moved hW.alike hK9, hD9⟩⟩, hS.F ht⟩) hS.2.2 dX12_items_131
    · skip
      have fc16 : ¬ (ra15.toInt = (-1)) := fun h9 => c16 (Int32.toInt_inj.mp h9)
      exfalso; omega
  · skip
    obtain ⟨x17, oa_x17, ob_x17, pt0_ra13, pt1_ra13, pt2_ra13, pt3_ra13, pt4_ra13, pt5_ra13, pt6_ra13, pt7_ra13, hP1, hK1, hD1⟩ := hB
    rw [ht] at hP1
    obtain ⟨hP2, hD2⟩ := va_join (wr := (wd_6f8f3203 h2 g1 fn12)) (w1 := (wd_f4cd022e h0 v0 h1 v1 x17 (-1) v3 r0 r1 r2 r3 r4 r5 r6 v4 v5 r7 r8 h2 r9 v6 r10 r11 v7 v8 r12 r13 v9 v10 r14 v11 v12 r15 v13 w14 r16 v15 v16 r17 r18 r19 r20 r21 r22 v17 r23 r24 r25 v18 h1 g0 f19)) hP hD [0, 1] [2] rfl rfl (by decide) (by decide) hk1 hFc hP1 hD1
    clear hP hD hPc hDc hKc hFc hP1 hK1 hD1 hk1 hz1
    generalize H1 = H at hP2 hS ⊢
    have hP := hP2.sub (ws' := (wd_490cd7da h0 v0 h1 v1 x17 (-1) v3 r0 r1 r2 r3 r4 r5 r6 v4 v5 r7 r8 h2 r9 v6 r10 r11 v7 v8 r12 r13 v9 v10 r14 v11 v12 r15 v13 w14 r16 v15 v16 r17 r18 r19 r20 r21 r22 v17 r23 r24 r25 v18 h1 g0 f19 h2 g1 fn12)) [1, 2, 0] rfl
    have hD := hD2.sub (ws' := (wd_490cd7da h0 v0 h1 v1 x17 (-1) v3 r0 r1 r2 r3 r4 r5 r6 v4 v5 r7 r8 h2 r9 v6 r10 r11 v7 v8 r12 r13 v9 v10 r14 v11 v12 r15 v13 w14 r16 v15 v16 r17 r18 r19 r20 r21 r22 v17 r23 r24 r25 v18 h1 g0 f19 h2 g1 fn12)) [1, 2, 0] (by decide) rfl
    clear hP2 hD2
    have hPc := hP.sub (ws' := []) [] rfl
    have hDc := hD.sub (ws' := []) [] (by decide) rfl
    have hKc := hK.sub (tys' := []) [] rfl
    have hFc := va_free (wc := []) hD hS hA [] rfl
    refine va_calli (va_runS (As := [.int 115, .int ra13]) (rest := []) ⟨hx, hb, hml, hown, hts⟩ (k_X12_itemOf_1 l dC dI ra13  H.size) (va_cwS 2 hts g_X12_items_1_5 rfl rfl rfl (by decide +kernel) ⟨Nat.le_of_ble_eq_true rfl, Nat.le_of_ble_eq_true rfl⟩) (pv_PS hPc hKc hDc) rfl rfl hl.1 rfl (lv_room (Nat.le_of_ble_eq_true rfl)) dX12_items_36 ⟨Nat.le_of_ble_eq_true rfl, Nat.le_of_ble_eq_true rfl⟩) hS (fun q _ h => hFc q h) hFc (fun ra18 u t H1 locs ht hvm hwra18 hB hz1 hk1 hS => ?_)
    try rw [hwra18] at hB
    obtain ⟨pt0_ra18, pt1_ra18, pt2_ra18, pt3_ra18, hP1, hK1, hD1⟩ := hB
    rw [ht] at hP1
    obtain ⟨hP2, hD2⟩ := va_join (wr := (wd_490cd7da h0 v0 h1 v1 x17 (-1) v3 r0 r1 r2 r3 r4 r5 r6 v4 v5 r7 r8 h2 r9 v6 r10 r11 v7 v8 r12 r13 v9 v10 r14 v11 v12 r15 v13 w14 r16 v15 v16 r17 r18 r19 r20 r21 r22 v17 r23 r24 r25 v18 h1 g0 f19 h2 g1 fn12)) (w1 := []) hP hD [] [0, 1, 2] rfl rfl (by decide) (by decide) hk1 hFc hP1 hD1
    clear hP hD hPc hDc hKc hFc hP1 hK1 hD1 hk1 hz1
    generalize H1 = H at hP2 hS ⊢
    have hP : va_P (dC, dI) vwCl (wd_490cd7da h0 v0 h1 v1 x17 (-1) v3 r0 r1 r2 r3 r4 r5 r6 v4 v5 r7 r8 h2 r9 v6 r10 r11 v7 v8 r12 r13 v9 v10 r14 v11 v12 r15 v13 w14 r16 v15 v16 r17 r18 r19 r20 r21 r22 v17 r23 r24 r25 v18 h1 g0 f19 h2 g1 fn12) H := hP2
    have hD : va_D A (wd_490cd7da h0 v0 h1 v1 x17 (-1) v3 r0 r1 r2 r3 r4 r5 r6 v4 v5 r7 r8 h2 r9 v6 r10 r11 v7 v8 r12 r13 v9 v10 r14 v11 v12 r15 v13 w14 r16 v15 v16 r17 r18 r19 r20 r21 r22 v17 r23 r24 r25 v18 h1 g0 f19 h2 g1 fn12) := hD2
    clear hP2 hD2
    have hkra18 : ra18 = pg_it true (pg_ch f19 v1.toInt x17.toInt) := by rw [show pg_ch f19 v1.toInt x17.toInt = ra13.toInt by omega]; exact pt3_ra18
    refine lv_istore (lv' := [(6, .int ra18), (5, .int 0), (0, .ref h0), (1, .int 115), (2, .ref h2), (3, .int 0), (4, .int 4)]) hx hb dX12_items_39 hl (by decide) rfl (fun ls hl => ?_)
    have hL27 : ∀ (n9 : Nat), ∀ (x19 : Int32) (x20 : Int32) (x21 : Int32) (fn22 : Nat → Int32) (H : Heap) (locs : List Loc) (ls : Array Slot), -1 ≤ x19.toInt → x19.toInt ≤ 3 → 0 ≤ x21.toInt → x21.toInt ≤ 240 → (pm_RR fn22) → (x19.toInt = -1 ∨ x21.toInt < v1.toInt) → (v2.toInt ≤ x21.toInt) → (pg_I f19 v1.toInt true 0 x21.toInt x20 fn22 (pg_items f19 v1.toInt true 0 300 v2.toInt 0 (pg_ur f20))) → (¬ pg_ch f19 v1.toInt x21.toInt = 32) → (x19 = pg_it true (pg_ch f19 v1.toInt x21.toInt)) → (300 - x21.toInt).toNat < n9 → va_P (dC, dI) vwCl (wd_490cd7da h0 v0 h1 v1 x21 (-1) v3 r0 r1 r2 r3 r4 r5 r6 v4 v5 r7 r8 h2 r9 v6 r10 r11 v7 v8 r12 r13 v9 v10 r14 v11 v12 r15 v13 w14 r16 v15 v16 r17 r18 r19 r20 r21 r22 v17 r23 r24 r25 v18 h1 g0 f19 h2 g1 fn22) H → va_D A (wd_490cd7da h0 v0 h1 v1 x21 (-1) v3 r0 r1 r2 r3 r4 r5 r6 v4 v5 r7 r8 h2 r9 v6 r10 r11 v7 v8 r12 r13 v9 v10 r14 v11 v12 r15 v13 w14 r16 v15 v16 r17 r18 r19 r20 r21 r22 v17 r23 r24 r25 v18 h1 g0 f19 h2 g1 fn22) → va_S A s.heap H locs → lv_has ls 7 [(6, .int x19), (5, .int x20), (0, .ref h0), (1, .int 115), (2, .ref h2), (3, .int 0), (4, .int 4)] → W p l e ({ frames := 3, cells := 0, slots := 0, locals := 63 }) s m ([.ref h0, .int 115, .ref h2, .int 0, .int 4] : List Value).toArray below meth c H locs 0 0 Q (F0 m 41 ls []) := by
      intro n9
      induction n9 with
      | zero => intro x19 x20 x21 fn22 H locs ls qa_x19 qb_x19 qa_x21 qb_x21 gh0_hL27 gh1_hL27 gh2_hL27 gh3_hL27 gh4_hL27 gh5_hL27 hm9 hP hD hS hl; exact absurd hm9 (Nat.not_lt_zero _)
      | succ n9 ih_hL27 =>
        intro x19 x20 x21 fn22 H locs ls qa_x19 qb_x19 qa_x21 qb_x21 gh0_hL27 gh1_hL27 gh2_hL27 gh3_hL27 gh4_hL27 gh5_hL27 hm9 hP hD hS hl
        refine lv_aload_n hx hb dX12_items_41 rfl (lv_at hl 2 rfl) ?_
        refine va_get (D := (dC, dI)) (ci := 12) (v := .int (-1)) (C := RX12) (T := TX12) (N := 48) hx hb hts (fun _ h => List.mem_cons_of_mem _ (List.mem_append_right _ h)) hown hK hP 0 rfl rfl 4 (by decide) (hts (.fieldLink RX12 119 "LeftArgumentsModel" "wrong" "I") (List.mem_cons_of_mem _ (List.mem_append_left _ (List.mem_of_getElem? (i := 18) rfl)))) (fun _ h9 => h9) rfl dX12_items_42 ?_
        refine lv_iconst (v := (-1)) hx hb dX12_items_45 (by decide) ?_
        refine lv_icmp_ne (tgt := 131) hx hb dX12_items_46 (by decide) (fun c => absurd (by decide) c) (fun _ => ?_)
        refine lv_iload hx hb dX12_items_49 (lv_at hl 0 rfl) ?_
        refine lv_iconst (v := (-1)) hx hb dX12_items_51 (by decide) ?_
        refine lv_icmp_eq (tgt := 131) hx hb dX12_items_52 (by decide) (fun c28 => ?_) (fun c28 => ?_)
        · skip
          have fc28 : x19.toInt = (-1) := congrArg Int32.toInt c28
          subst hQ
          have hP9 := hP.sub (ws' := (wd_490cd7da h0 v0 h1 v1 x21 (-1) v3 r0 r1 r2 r3 r4 r5 r6 v4 v5 r7 r8 h2 r9 v6 r10 r11 v7 v8 r12 r13 v9 v10 r14 v11 v12 r15 v13 w14 r16 v15 v16 r17 r18 r19 r20 r21 r22 v17 r23 r24 r25 v18 h1 g0 f19 h2 g1 fn22)) [0, 1, 2] rfl
          have hD9 := hD.sub (ws' := (wd_490cd7da h0 v0 h1 v1 x21 (-1) v3 r0 r1 r2 r3 r4 r5 r6 v4 v5 r7 r8 h2 r9 v6 r10 r11 v7 v8 r12 r13 v9 v10 r14 v11 v12 r15 v13 w14 r16 v15 v16 r17 r18 r19 r20 r21 r22 v17 r23 r24 r25 v18 h1 g0 f19 h2 g1 fn22)) [0, 1, 2] (by decide) rfl
          have hK9 := hK.sub (tys' := []) [] rfl
          exact W.vret hx hb hr (fun t ht hW => ⟨⟨(), rfl, trivial, Or.inl ⟨x21, fn22, qa_x21, qb_x21, by omega, by first | assumption | (apply pm_RR.init <;> first | assumption | decide), by first | (apply pg_I.out <;> first | assumption | exact Or.inl (by assumption) | exact Or.inr (by assumption)) | (apply pg_items.e0 <;> first | assumption | omega | (apply pg_ur.mk <;> first | assumption | decide) | (apply pg_us.mk <;> first | assumption | omega | decide)) | (apply pg_I.last <;> first | assumption | omega | (show _ = pm_los _; assumption) | (show _ = pm_his _; assumption) | (show _ = pm_lob _; assumption) | (show _ = pm_hib _; assumption)), by rw [ht]; exact hP9, va_K.moved hW.alike hK9, hD9⟩⟩, hS.F ht⟩) hS.2.2 dX12_items_131
        · skip
          have fc28 : ¬ (x19.toInt = (-1)) := fun h9 => c28 (Int32.toInt_inj.mp h9)
          refine lv_iload hx hb dX12_items_55 (lv_at hl 1 rfl) ?_
          refine lv_iload hx hb dX12_items_57 (lv_at hl 0 rfl) ?_
          have hPc := hP.sub (ws' := []) [] rfl
          have hDc := hD.sub (ws' := []) [] (by decide) rfl
          have hKc := hK.sub (tys' := []) [] rfl
          have hFc := va_free (wc := []) hD hS hA [] rfl
          refine va_calli (va_runS (As := [.int x20, .int x19]) (rest := []) ⟨hx, hb, hml, hown, hts⟩ (k_X12_has l dC dI x20 x19  H.size) (va_cwS 2 hts g_X12_items_1_7 rfl rfl rfl (by decide +kernel) ⟨Nat.le_of_ble_eq_true rfl, Nat.le_of_ble_eq_true rfl⟩) (pv_PS hPc hKc hDc) rfl rfl hl.1 rfl (lv_room (Nat.le_of_ble_eq_true rfl)) dX12_items_59 ⟨Nat.le_of_ble_eq_true rfl, Nat.le_of_ble_eq_true rfl⟩) hS (fun q _ h => hFc q h) hFc (fun ra29 u t H1 locs ht hvm hwra29 hB hz1 hk1 hS => ?_)
          try rw [hwra29] at hB
          obtain ⟨pt0_ra29, pt1_ra29, pt2_ra29, pt3_ra29, hP1, hK1, hD1⟩ := hB
          rw [ht] at hP1
          obtain ⟨hP2, hD2⟩ := va_join (wr := (wd_490cd7da h0 v0 h1 v1 x21 (-1) v3 r0 r1 r2 r3 r4 r5 r6 v4 v5 r7 r8 h2 r9 v6 r10 r11 v7 v8 r12 r13 v9 v10 r14 v11 v12 r15 v13 w14 r16 v15 v16 r17 r18 r19 r20 r21 r22 v17 r23 r24 r25 v18 h1 g0 f19 h2 g1 fn22)) (w1 := []) hP hD [] [0, 1, 2] rfl rfl (by decide) (by decide) hk1 hFc hP1 hD1
          clear hP hD hPc hDc hKc hFc hP1 hK1 hD1 hk1 hz1
          generalize H1 = H at hP2 hS ⊢
          have hP : va_P (dC, dI) vwCl (wd_490cd7da h0 v0 h1 v1 x21 (-1) v3 r0 r1 r2 r3 r4 r5 r6 v4 v5 r7 r8 h2 r9 v6 r10 r11 v7 v8 r12 r13 v9 v10 r14 v11 v12 r15 v13 w14 r16 v15 v16 r17 r18 r19 r20 r21 r22 v17 r23 r24 r25 v18 h1 g0 f19 h2 g1 fn22) H := hP2
          have hD : va_D A (wd_490cd7da h0 v0 h1 v1 x21 (-1) v3 r0 r1 r2 r3 r4 r5 r6 v4 v5 r7 r8 h2 r9 v6 r10 r11 v7 v8 r12 r13 v9 v10 r14 v11 v12 r15 v13 w14 r16 v15 v16 r17 r18 r19 r20 r21 r22 v17 r23 r24 r25 v18 h1 g0 f19 h2 g1 fn22) := hD2
          clear hP2 hD2
          refine lv_if_ne (tgt := 131) hx hb dX12_items_62 (by decide) (fun c30 => ?_) (fun c30 => ?_)
          · skip
            have fc30 : ¬ (ra29.toInt = 0) := fun h9 => c30 (Int32.toInt_inj.mp h9)
            have q1pt2_ra29 := pt2_ra29 (by omega)
            subst hQ
            have hP9 := hP.sub (ws' := (wd_490cd7da h0 v0 h1 v1 x21 (-1) v3 r0 r1 r2 r3 r4 r5 r6 v4 v5 r7 r8 h2 r9 v6 r10 r11 v7 v8 r12 r13 v9 v10 r14 v11 v12 r15 v13 w14 r16 v15 v16 r17 r18 r19 r20 r21 r22 v17 r23 r24 r25 v18 h1 g0 f19 h2 g1 fn22)) [0, 1, 2] rfl
            have hD9 := hD.sub (ws' := (wd_490cd7da h0 v0 h1 v1 x21 (-1) v3 r0 r1 r2 r3 r4 r5 r6 v4 v5 r7 r8 h2 r9 v6 r10 r11 v7 v8 r12 r13 v9 v10 r14 v11 v12 r15 v13 w14 r16 v15 v16 r17 r18 r19 r20 r21 r22 v17 r23 r24 r25 v18 h1 g0 f19 h2 g1 fn22)) [0, 1, 2] (by decide) rfl
            have hK9 := hK.sub (tys' := []) [] rfl
            exact W.vret hx hb hr (fun t ht hW => ⟨⟨(), rfl, trivial, Or.inl ⟨x21, fn22, qa_x21, qb_x21, by omega, by first | assumption | (apply pm_RR.init <;> first | assumption | decide), by first | (apply pg_I.out <;> first | assumption | exact Or.inl (by assumption) | exact Or.inr (by assumption)) | (apply pg_items.e0 <;> first | assumption | omega | (apply pg_ur.mk <;> first | assumption | decide) | (apply pg_us.mk <;> first | assumption | omega | decide)) | (apply pg_I.last <;> first | assumption | omega | (show _ = pm_los _; assumption) | (show _ = pm_his _; assumption) | (show _ = pm_lob _; assumption) | (show _ = pm_hib _; assumption)), by rw [ht]; exact hP9, va_K.moved hW.alike hK9, hD9⟩⟩, hS.F ht⟩) hS.2.2 dX12_items_131
          · skip
            have fc30 : ra29.toInt = 0 := congrArg Int32.toInt c30
            have q0pt3_ra29 := pt3_ra29 (by omega)
            refine lv_iload hx hb dX12_items_65 (lv_at hl 1 rfl) ?_
            refine lv_iconst (v := 1) hx hb dX12_items_67 (by decide) ?_
            refine lv_iload hx hb dX12_items_68 (lv_at hl 0 rfl) ?_
            refine lv_ishl hx hb dX12_items_70 ?_
            refine lv_topi (fun t31 et31 => ?_)
            refine lv_ior hx hb dX12_items_71 ?_
            refine lv_topi (fun t32 et32 => ?_)
            refine lv_istore (lv' := [(5, .int t32), (6, .int x19), (0, .ref h0), (1, .int 115), (2, .ref h2), (3, .int 0), (4, .int 4)]) hx hb dX12_items_72 hl (by decide) rfl (fun ls hl => ?_)
            have hax21 : x21.toInt ≤ 239 := by omega
            refine lv_aload_n hx hb dX12_items_74 rfl (lv_at hl 2 rfl) ?_
            refine lv_dup hx hb dX12_items_75 rfl ?_
            refine va_get (D := (dC, dI)) (ci := 12) (v := .int x21) (C := RX12) (T := TX12) (N := 48) hx hb hts (fun _ h => List.mem_cons_of_mem _ (List.mem_append_right _ h)) hown hK hP 0 rfl rfl 3 (by decide) (hts (.fieldLink RX12 112 "LeftArgumentsModel" "at" "I") (List.mem_cons_of_mem _ (List.mem_append_left _ (List.mem_of_getElem? (i := 6) rfl)))) (fun _ h9 => h9) rfl dX12_items_76 ?_
            refine lv_iconst (v := 1) hx hb dX12_items_79 (by decide) ?_
            refine lv_iadd hx hb dX12_items_80 ?_
            refine lv_topi (fun t33 et33 => ?_)
            have gt33 : t33.toInt = x21.toInt + 1 := pv_add (a := x21.toInt) (b := 1) et33 rfl (by decide) (by omega) (by omega)
            refine va_put (D := (dC, dI)) (ci := 12) (v := .int t33) (ty := .int) (C := RX12) (T := TX12) (N := 48) hx hb hts (fun _ h => List.mem_cons_of_mem _ (List.mem_append_right _ h)) tyX12 tyX12_ok nmX12 hown hK hP hD hS 0 rfl rfl 3 (by decide) (hts (.fieldLink RX12 112 "LeftArgumentsModel" "at" "I") (List.mem_cons_of_mem _ (List.mem_append_left _ (List.mem_of_getElem? (i := 6) rfl)))) (fun _ h9 => h9) rfl (by decide +kernel) rfl rfl (Nat.le_of_ble_eq_true rfl) dX12_items_81 (fun H locs hP hD hS => ?_)
            have hP : va_P (dC, dI) vwCl (wd_490cd7da h0 v0 h1 v1 t33 (-1) v3 r0 r1 r2 r3 r4 r5 r6 v4 v5 r7 r8 h2 r9 v6 r10 r11 v7 v8 r12 r13 v9 v10 r14 v11 v12 r15 v13 w14 r16 v15 v16 r17 r18 r19 r20 r21 r22 v17 r23 r24 r25 v18 h1 g0 f19 h2 g1 fn22) H := hP
            have hD : va_D A (wd_490cd7da h0 v0 h1 v1 t33 (-1) v3 r0 r1 r2 r3 r4 r5 r6 v4 v5 r7 r8 h2 r9 v6 r10 r11 v7 v8 r12 r13 v9 v10 r14 v11 v12 r15 v13 w14 r16 v15 v16 r17 r18 r19 r20 r21 r22 v17 r23 r24 r25 v18 h1 g0 f19 h2 g1 fn22) := hD
            refine lv_aload_n hx hb dX12_items_84 rfl (lv_at hl 4 rfl) ?_
            refine lv_iload_n hx hb dX12_items_85 rfl (lv_at hl 5 rfl) ?_
            refine lv_iload hx hb dX12_items_86 (lv_at hl 1 rfl) ?_
            refine lv_iadd hx hb dX12_items_88 ?_
            refine lv_topi (fun t34 et34 => ?_)
            have gt34 : t34.toInt = 0 + x19.toInt := pv_add (a := 0) (b := x19.toInt) et34 (by decide) rfl (by omega) (by omega)
            refine lv_aload_n hx hb dX12_items_89 rfl (lv_at hl 2 rfl) ?_
            refine lv_iload_n hx hb dX12_items_90 rfl (lv_at hl 3 rfl) ?_
            refine lv_iload hx hb dX12_items_91 (lv_at hl 1 rfl) ?_
            have hPc := hP.sub (ws' := []) [] rfl
            have hDc := hD.sub (ws' := []) [] (by decide) rfl
            have hKc := hK.sub (tys' := []) [] rfl
            have hFc := va_free (wc := []) hD hS hA [] rfl
            refine va_calli (va_runS (As := [.int 115, .int x19]) (rest := [.ref h0, .int t34, .ref h2]) ⟨hx, hb, hml, hown, hts⟩ (k_X12_lowest_1 l dC dI x19 ⟨by first | omega | decide, by first | omega | decide⟩ H.size) (va_cwS 2 hts g_X12_items_1_8 rfl rfl rfl (by decide +kernel) ⟨Nat.le_of_ble_eq_true rfl, Nat.le_of_ble_eq_true rfl⟩) (pv_PS hPc hKc hDc) rfl rfl hl.1 rfl (lv_room (Nat.le_of_ble_eq_true rfl)) dX12_items_93 ⟨Nat.le_of_ble_eq_true rfl, Nat.le_of_ble_eq_true rfl⟩) hS (fun q _ h => hFc q h) hFc (fun ra35 u t H1 locs ht hvm hwra35 hB hz1 hk1 hS => ?_)
            try rw [hwra35] at hB
            obtain ⟨pt0_ra35, pt1_ra35, pt2_ra35, hP1, hK1, hD1⟩ := hB
            rw [ht] at hP1
            obtain ⟨hP2, hD2⟩ := va_join (wr := (wd_490cd7da h0 v0 h1 v1 t33 (-1) v3 r0 r1 r2 r3 r4 r5 r6 v4 v5 r7 r8 h2 r9 v6 r10 r11 v7 v8 r12 r13 v9 v10 r14 v11 v12 r15 v13 w14 r16 v15 v16 r17 r18 r19 r20 r21 r22 v17 r23 r24 r25 v18 h1 g0 f19 h2 g1 fn22)) (w1 := []) hP hD [] [0, 1, 2] rfl rfl (by decide) (by decide) hk1 hFc hP1 hD1
            clear hP hD hPc hDc hKc hFc hP1 hK1 hD1 hk1 hz1
            generalize H1 = H at hP2 hS ⊢
            have hP : va_P (dC, dI) vwCl (wd_490cd7da h0 v0 h1 v1 t33 (-1) v3 r0 r1 r2 r3 r4 r5 r6 v4 v5 r7 r8 h2 r9 v6 r10 r11 v7 v8 r12 r13 v9 v10 r14 v11 v12 r15 v13 w14 r16 v15 v16 r17 r18 r19 r20 r21 r22 v17 r23 r24 r25 v18 h1 g0 f19 h2 g1 fn22) H := hP2
            have hD : va_D A (wd_490cd7da h0 v0 h1 v1 t33 (-1) v3 r0 r1 r2 r3 r4 r5 r6 v4 v5 r7 r8 h2 r9 v6 r10 r11 v7 v8 r12 r13 v9 v10 r14 v11 v12 r15 v13 w14 r16 v15 v16 r17 r18 r19 r20 r21 r22 v17 r23 r24 r25 v18 h1 g0 f19 h2 g1 fn22) := hD2
            clear hP2 hD2
            refine lv_iload_n hx hb dX12_items_96 rfl (lv_at hl 3 rfl) ?_
            refine lv_iload hx hb dX12_items_97 (lv_at hl 1 rfl) ?_
            have hPc := hP.sub (ws' := []) [] rfl
            have hDc := hD.sub (ws' := []) [] (by decide) rfl
            have hKc := hK.sub (tys' := []) [] rfl
            have hFc := va_free (wc := []) hD hS hA [] rfl
            refine va_calli (va_runS (As := [.int 115, .int x19]) (rest := [.int ra35, .ref h0, .int t34, .ref h2]) ⟨hx, hb, hml, hown, hts⟩ (k_X12_highest_1 l dC dI x19 ⟨by first | omega | decide, by first | omega | decide⟩ H.size) (va_cwS 2 hts g_X12_items_1_9 rfl rfl rfl (by decide +kernel) ⟨Nat.le_of_ble_eq_true rfl, Nat.le_of_ble_eq_true rfl⟩) (pv_PS hPc hKc hDc) rfl rfl hl.1 rfl (lv_room (Nat.le_of_ble_eq_true rfl)) dX12_items_99 ⟨Nat.le_of_ble_eq_true rfl, Nat.le_of_ble_eq_true rfl⟩) hS (fun q _ h => hFc q h) hFc (fun ra36 u t H1 locs ht hvm hwra36 hB hz1 hk1 hS => ?_)
            try rw [hwra36] at hB
            obtain ⟨pt0_ra36, pt1_ra36, pt2_ra36, hP1, hK1, hD1⟩ := hB
            rw [ht] at hP1
            obtain ⟨hP2, hD2⟩ := va_join (wr := (wd_490cd7da h0 v0 h1 v1 t33 (-1) v3 r0 r1 r2 r3 r4 r5 r6 v4 v5 r7 r8 h2 r9 v6 r10 r11 v7 v8 r12 r13 v9 v10 r14 v11 v12 r15 v13 w14 r16 v15 v16 r17 r18 r19 r20 r21 r22 v17 r23 r24 r25 v18 h1 g0 f19 h2 g1 fn22)) (w1 := []) hP hD [] [0, 1, 2] rfl rfl (by decide) (by decide) hk1 hFc hP1 hD1
            clear hP hD hPc hDc hKc hFc hP1 hK1 hD1 hk1 hz1
            generalize H1 = H at hP2 hS ⊢
            have hP : va_P (dC, dI) vwCl (wd_490cd7da h0 v0 h1 v1 t33 (-1) v3 r0 r1 r2 r3 r4 r5 r6 v4 v5 r7 r8 h2 r9 v6 r10 r11 v7 v8 r12 r13 v9 v10 r14 v11 v12 r15 v13 w14 r16 v15 v16 r17 r18 r19 r20 r21 r22 v17 r23 r24 r25 v18 h1 g0 f19 h2 g1 fn22) H := hP2
            have hD : va_D A (wd_490cd7da h0 v0 h1 v1 t33 (-1) v3 r0 r1 r2 r3 r4 r5 r6 v4 v5 r7 r8 h2 r9 v6 r10 r11 v7 v8 r12 r13 v9 v10 r14 v11 v12 r15 v13 w14 r16 v15 v16 r17 r18 r19 r20 r21 r22 v17 r23 r24 r25 v18 h1 g0 f19 h2 g1 fn22) := hD2
            clear hP2 hD2
            have hPc := hP.sub (ws' := (wd_f4cd022e h0 v0 h1 v1 t33 (-1) v3 r0 r1 r2 r3 r4 r5 r6 v4 v5 r7 r8 h2 r9 v6 r10 r11 v7 v8 r12 r13 v9 v10 r14 v11 v12 r15 v13 w14 r16 v15 v16 r17 r18 r19 r20 r21 r22 v17 r23 r24 r25 v18 h1 g0 f19)) [0, 1] rfl
            have hDc := hD.sub (ws' := (wd_f4cd022e h0 v0 h1 v1 t33 (-1) v3 r0 r1 r2 r3 r4 r5 r6 v4 v5 r7 r8 h2 r9 v6 r10 r11 v7 v8 r12 r13 v9 v10 r14 v11 v12 r15 v13 w14 r16 v15 v16 r17 r18 r19 r20 r21 r22 v17 r23 r24 r25 v18 h1 g0 f19)) [0, 1] (by decide) rfl
            have hKc := hK.sub (tys' := [(g0, .int)]) [0] rfl
            have hFc := va_free (wc := (wd_f4cd022e h0 v0 h1 v1 t33 (-1) v3 r0 r1 r2 r3 r4 r5 r6 v4 v5 r7 r8 h2 r9 v6 r10 r11 v7 v8 r12 r13 v9 v10 r14 v11 v12 r15 v13 w14 r16 v15 v16 r17 r18 r19 r20 r21 r22 v17 r23 r24 r25 v18 h1 g0 f19)) hD hS hA [0, 1] rfl
            refine va_calli (va_runV (As := [.int ra35, .int ra36]) (rest := [.int t34, .ref h2]) ⟨hx, hb, hml, hown, hts⟩ (k_X12_number l dC dI h0 h1 v0 v1 t33 v3 r0 r1 r2 r3 r4 r5 r6 v4 v5 r7 r8 h2 r9 v6 r10 r11 v7 v8 r12 r13 v9 v10 r14 v11 v12 r15 v13 w14 r16 v15 v16 r17 r18 r19 r20 r21 r22 v17 r23 r24 r25 v18 g0 f19 ra35 ra36 ⟨i_v1a, i_v1b⟩ ⟨by first | omega | decide, by first | omega | decide⟩ ⟨i_v4a, i_v4b⟩ ⟨i_v5a, i_v5b⟩ ⟨i_v6a, i_v6b⟩ ⟨i_v7a, i_v7b⟩ ⟨i_v8a, i_v8b⟩ ⟨i_v9a, i_v9b⟩ ⟨i_v13a, i_v13b⟩ ⟨i_v17a, i_v17b⟩ ⟨i_v18a, i_v18b⟩ ia_f19 H.size) (cwV 2 hts g_X12_items_1_10 rfl rfl rfl (by decide +kernel) ⟨Nat.le_of_ble_eq_true rfl, Nat.le_of_ble_eq_true rfl⟩) (pv_PV12 hPc hKc hDc (q0 := 0) rfl) rfl rfl hl.1 rfl (lv_room (Nat.le_of_ble_eq_true rfl)) dX12_items_102 ⟨Nat.le_of_ble_eq_true rfl, Nat.le_of_ble_eq_true rfl⟩) hS (fun q _ h => hFc q h) hFc (fun ra37 u t H1 locs ht hvm hwra37 hB hz1 hk1 hS => ?_)
            try rw [hwra37] at hB
            rcases hB with hB | hB
            · skip
              obtain ⟨x38, oa_x38, ob_x38, pt0_ra37, pt1_ra37, pt2_ra37, pt3_ra37, pt4_ra37, hP1, hK1, hD1⟩ := hB
              rw [ht] at hP1
              obtain ⟨hP2, hD2⟩ := va_join (wr := (wd_6f8f3203 h2 g1 fn22)) (w1 := (wd_f4cd022e h0 v0 h1 v1 x38 (-1) v3 r0 r1 r2 r3 r4 r5 r6 v4 v5 r7 r8 h2 r9 v6 r10 r11 v7 v8 r12 r13 v9 v10 r14 v11 v12 r15 v13 w14 r16 v15 v16 r17 r18 r19 r20 r21 r22 v17 r23 r24 r25 v18 h1 g0 f19)) hP hD [0, 1] [2] rfl rfl (by decide) (by decide) hk1 hFc hP1 hD1
              clear hP hD hPc hDc hKc hFc hP1 hK1 hD1 hk1 hz1
              generalize H1 = H at hP2 hS ⊢
              have hP := hP2.sub (ws' := (wd_490cd7da h0 v0 h1 v1 x38 (-1) v3 r0 r1 r2 r3 r4 r5 r6 v4 v5 r7 r8 h2 r9 v6 r10 r11 v7 v8 r12 r13 v9 v10 r14 v11 v12 r15 v13 w14 r16 v15 v16 r17 r18 r19 r20 r21 r22 v17 r23 r24 r25 v18 h1 g0 f19 h2 g1 fn22)) [1, 2, 0] rfl
              have hD := hD2.sub (ws' := (wd_490cd7da h0 v0 h1 v1 x38 (-1) v3 r0 r1 r2 r3 r4 r5 r6 v4 v5 r7 r8 h2 r9 v6 r10 r11 v7 v8 r12 r13 v9 v10 r14 v11 v12 r15 v13 w14 r16 v15 v16 r17 r18 r19 r20 r21 r22 v17 r23 r24 r25 v18 h1 g0 f19 h2 g1 fn22)) [1, 2, 0] (by decide) rfl
              clear hP2 hD2
              refine va_iast hx hb hK hP hD hS 2 1 rfl rfl (vp_in_iff.mpr ⟨by omega, by omega⟩) dX12_items_105 (fun H locs hP hD hS => ?_)
              obtain ⟨fn39, efn39⟩ : ∃ g : Nat → Int32, g = upd fn22 (Int32.toNatClampNeg t34) ra37 := ⟨_, rfl⟩
              rw [← efn39] at hP hD
              have hP : va_P (dC, dI) vwCl (wd_490cd7da h0 v0 h1 v1 x38 (-1) v3 r0 r1 r2 r3 r4 r5 r6 v4 v5 r7 r8 h2 r9 v6 r10 r11 v7 v8 r12 r13 v9 v10 r14 v11 v12 r15 v13 w14 r16 v15 v16 r17 r18 r19 r20 r21 r22 v17 r23 r24 r25 v18 h1 g0 f19 h2 g1 fn39) H := hP
              have hD : va_D A (wd_490cd7da h0 v0 h1 v1 x38 (-1) v3 r0 r1 r2 r3 r4 r5 r6 v4 v5 r7 r8 h2 r9 v6 r10 r11 v7 v8 r12 r13 v9 v10 r14 v11 v12 r15 v13 w14 r16 v15 v16 r17 r18 r19 r20 r21 r22 v17 r23 r24 r25 v18 h1 g0 f19 h2 g1 fn39) := hD
              refine lv_aload_n hx hb dX12_items_106 rfl (lv_at hl 2 rfl) ?_
              refine va_get (D := (dC, dI)) (ci := 12) (v := .int (-1)) (C := RX12) (T := TX12) (N := 48) hx hb hts (fun _ h => List.mem_cons_of_mem _ (List.mem_append_right _ h)) hown hK hP 0 rfl rfl 4 (by decide) (hts (.fieldLink RX12 119 "LeftArgumentsModel" "wrong" "I") (List.mem_cons_of_mem _ (List.mem_append_left _ (List.mem_of_getElem? (i := 18) rfl)))) (fun _ h9 => h9) rfl dX12_items_107 ?_
              refine lv_iconst (v := (-1)) hx hb dX12_items_110 (by decide) ?_
              refine lv_icmp_ne (tgt := 125) hx hb dX12_items_111 (by decide) (fun c => absurd (by decide) c) (fun _ => ?_)
              refine lv_iload_n hx hb dX12_items_114 rfl (lv_at hl 3 rfl) ?_
              refine lv_aload_n hx hb dX12_items_115 rfl (lv_at hl 2 rfl) ?_
              have hPc := hP.sub (ws' := (wd_f4cd022e h0 v0 h1 v1 x38 (-1) v3 r0 r1 r2 r3 r4 r5 r6 v4 v5 r7 r8 h2 r9 v6 r10 r11 v7 v8 r12 r13 v9 v10 r14 v11 v12 r15 v13 w14 r16 v15 v16 r17 r18 r19 r20 r21 r22 v17 r23 r24 r25 v18 h1 g0 f19)) [0, 1] rfl
              have hDc := hD.sub (ws' := (wd_f4cd022e h0 v0 h1 v1 x38 (-1) v3 r0 r1 r2 r3 r4 r5 r6 v4 v5 r7 r8 h2 r9 v6 r10 r11 v7 v8 r12 r13 v9 v10 r14 v11 v12 r15 v13 w14 r16 v15 v16 r17 r18 r19 r20 r21 r22 v17 r23 r24 r25 v18 h1 g0 f19)) [0, 1] (by decide) rfl
              have hKc := hK.sub (tys' := [(g0, .int)]) [0] rfl
              have hFc := va_free (wc := (wd_f4cd022e h0 v0 h1 v1 x38 (-1) v3 r0 r1 r2 r3 r4 r5 r6 v4 v5 r7 r8 h2 r9 v6 r10 r11 v7 v8 r12 r13 v9 v10 r14 v11 v12 r15 v13 w14 r16 v15 v16 r17 r18 r19 r20 r21 r22 v17 r23 r24 r25 v18 h1 g0 f19)) hD hS hA [0, 1] rfl
              refine va_calli (va_runV (As := []) (rest := [.int 115]) ⟨hx, hb, hml, hown, hts⟩ (k_X12_look l dC dI h0 h1 v0 v1 x38 ((-1)) v3 r0 r1 r2 r3 r4 r5 r6 v4 v5 r7 r8 h2 r9 v6 r10 r11 v7 v8 r12 r13 v9 v10 r14 v11 v12 r15 v13 w14 r16 v15 v16 r17 r18 r19 r20 r21 r22 v17 r23 r24 r25 v18 g0 f19 ⟨i_v1a, i_v1b⟩ ⟨by first | omega | decide, ob_x38⟩ ⟨i_v4a, i_v4b⟩ ⟨i_v5a, i_v5b⟩ ⟨i_v6a, i_v6b⟩ ⟨i_v7a, i_v7b⟩ ⟨i_v8a, i_v8b⟩ ⟨i_v9a, i_v9b⟩ ⟨i_v13a, i_v13b⟩ ⟨i_v17a, i_v17b⟩ ⟨i_v18a, i_v18b⟩ ia_f19 H.size) (cwV 0 hts g_X12_items_1_4 rfl rfl rfl (by decide +kernel) ⟨Nat.le_of_ble_eq_true rfl, Nat.le_of_ble_eq_true rfl⟩) (pv_PV12 hPc hKc hDc (q0 := 0) rfl) rfl rfl hl.1 rfl (lv_room (Nat.le_of_ble_eq_true rfl)) dX12_items_116 ⟨Nat.le_of_ble_eq_true rfl, Nat.le_of_ble_eq_true rfl⟩) hS (fun q _ h => hFc q h) hFc (fun ra40 u t H1 locs ht hvm hwra40 hB hz1 hk1 hS => ?_)
              try rw [hwra40] at hB
              have hkra40_0 : (((-1) : Int32)).toInt = -1 := by decide
              rcases hB with hB | hB
              · skip
                obtain ⟨x41, oa_x41, ob_x41, pt0_ra40, pt1_ra40, pt2_ra40, pt3_ra40, pt4_ra40, pt5_ra40, pt6_ra40, hP1, hK1, hD1⟩ := hB
                rw [ht] at hP1
                obtain ⟨hP2, hD2⟩ := va_join (wr := (wd_6f8f3203 h2 g1 fn39)) (w1 := (wd_f4cd022e h0 v0 h1 v1 x41 (-1) v3 r0 r1 r2 r3 r4 r5 r6 v4 v5 r7 r8 h2 r9 v6 r10 r11 v7 v8 r12 r13 v9 v10 r14 v11 v12 r15 v13 w14 r16 v15 v16 r17 r18 r19 r20 r21 r22 v17 r23 r24 r25 v18 h1 g0 f19)) hP hD [0, 1] [2] rfl rfl (by decide) (by decide) hk1 hFc hP1 hD1
                clear hP hD hPc hDc hKc hFc hP1 hK1 hD1 hk1 hz1
                generalize H1 = H at hP2 hS ⊢
                have hP := hP2.sub (ws' := (wd_490cd7da h0 v0 h1 v1 x41 (-1) v3 r0 r1 r2 r3 r4 r5 r6 v4 v5 r7 r8 h2 r9 v6 r10 r11 v7 v8 r12 r13 v9 v10 r14 v11 v12 r15 v13 w14 r16 v15 v16 r17 r18 r19 r20 r21 r22 v17 r23 r24 r25 v18 h1 g0 f19 h2 g1 fn39)) [1, 2, 0] rfl
                have hD := hD2.sub (ws' := (wd_490cd7da h0 v0 h1 v1 x41 (-1) v3 r0 r1 r2 r3 r4 r5 r6 v4 v5 r7 r8 h2 r9 v6 r10 r11 v7 v8 r12 r13 v9 v10 r14 v11 v12 r15 v13 w14 r16 v15 v16 r17 r18 r19 r20 r21 r22 v17 r23 r24 r25 v18 h1 g0 f19 h2 g1 fn39)) [1, 2, 0] (by decide) rfl
                clear hP2 hD2
                obtain rfl : ra40 = ((-1) : Int32) := pv_cs (by decide) pt0_ra40 pt1_ra40
                have hPc := hP.sub (ws' := []) [] rfl
                have hDc := hD.sub (ws' := []) [] (by decide) rfl
                have hKc := hK.sub (tys' := []) [] rfl
                have hFc := va_free (wc := []) hD hS hA [] rfl
                refine va_calli (va_runS (As := [.int 115, .int (-1)]) (rest := []) ⟨hx, hb, hml, hown, hts⟩ (k_X12_itemOf_1 l dC dI ((-1))  H.size) (va_cwS 2 hts g_X12_items_1_5 rfl rfl rfl (by decide +kernel) ⟨Nat.le_of_ble_eq_true rfl, Nat.le_of_ble_eq_true rfl⟩) (pv_PS hPc hKc hDc) rfl rfl hl.1 rfl (lv_room (Nat.le_of_ble_eq_true rfl)) dX12_items_119 ⟨Nat.le_of_ble_eq_true rfl, Nat.le_of_ble_eq_true rfl⟩) hS (fun q _ h => hFc q h) hFc (fun ra42 u t H1 locs ht hvm hwra42 hB hz1 hk1 hS => ?_)
                try rw [hwra42] at hB
                have hkra42_0 : (((-1) : Int32)).toInt = -1 := by decide
                obtain ⟨pt0_ra42, pt1_ra42, pt2_ra42, pt3_ra42, hP1, hK1, hD1⟩ := hB
                rw [ht] at hP1
                obtain ⟨hP2, hD2⟩ := va_join (wr := (wd_490cd7da h0 v0 h1 v1 x41 (-1) v3 r0 r1 r2 r3 r4 r5 r6 v4 v5 r7 r8 h2 r9 v6 r10 r11 v7 v8 r12 r13 v9 v10 r14 v11 v12 r15 v13 w14 r16 v15 v16 r17 r18 r19 r20 r21 r22 v17 r23 r24 r25 v18 h1 g0 f19 h2 g1 fn39)) (w1 := []) hP hD [] [0, 1, 2] rfl rfl (by decide) (by decide) hk1 hFc hP1 hD1
                clear hP hD hPc hDc hKc hFc hP1 hK1 hD1 hk1 hz1
                generalize H1 = H at hP2 hS ⊢
                have hP : va_P (dC, dI) vwCl (wd_490cd7da h0 v0 h1 v1 x41 (-1) v3 r0 r1 r2 r3 r4 r5 r6 v4 v5 r7 r8 h2 r9 v6 r10 r11 v7 v8 r12 r13 v9 v10 r14 v11 v12 r15 v13 w14 r16 v15 v16 r17 r18 r19 r20 r21 r22 v17 r23 r24 r25 v18 h1 g0 f19 h2 g1 fn39) H := hP2
                have hD : va_D A (wd_490cd7da h0 v0 h1 v1 x41 (-1) v3 r0 r1 r2 r3 r4 r5 r6 v4 v5 r7 r8 h2 r9 v6 r10 r11 v7 v8 r12 r13 v9 v10 r14 v11 v12 r15 v13 w14 r16 v15 v16 r17 r18 r19 r20 r21 r22 v17 r23 r24 r25 v18 h1 g0 f19 h2 g1 fn39) := hD2
                clear hP2 hD2
                have hkra42 : ra42 = pg_it true (pg_ch f19 v1.toInt x41.toInt) := by rw [show pg_ch f19 v1.toInt x41.toInt = (-1) by omega]; exact pt3_ra42
                refine lv_goto (tgt := 126) hx hb dX12_items_122 (by decide) ?_
                refine lv_istore (lv' := [(6, .int ra42), (5, .int t32), (0, .ref h0), (1, .int 115), (2, .ref h2), (3, .int 0), (4, .int 4)]) hx hb dX12_items_126 hl (by decide) rfl (fun ls hl => ?_)
                refine lv_goto (tgt := 41) hx hb dX12_items_128 (by decide) ?_
                exact ih_hL27 ra42 t32 x41 fn39 H locs ls (by first | omega | decide) (by first | omega | decide) oa_x41 ob_x41 (by first | assumption | (apply pm_RR.step <;> first | assumption | omega) | (apply pm_RR.init <;> first | assumption | decide)) (by omega) (by omega) (by first | assumption | (apply pg_I.ini <;> first | assumption | omega | (apply pg_ur.mk <;> first | assumption | decide) | (apply pg_us.mk <;> first | assumption | omega | decide)) | (apply pg_I.next <;> first | assumption | omega | (show _ = pm_los _; assumption) | (show _ = pm_his _; assumption) | (show _ = pm_lob _; assumption) | (show _ = pm_hib _; assumption))) (by assumption) (by assumption) (by first | omega | (simp only [Int.toNat] at *; omega)) hP hD hS (lv_sub hl [0, 1, 2, 3, 4, 5, 6] rfl)
              · skip
                obtain ⟨x43, oa_x43, ob_x43, pt0_ra40, pt1_ra40, pt2_ra40, pt3_ra40, pt4_ra40, pt5_ra40, pt6_ra40, pt7_ra40, hP1, hK1, hD1⟩ := hB
                rw [ht] at hP1
                obtain ⟨hP2, hD2⟩ := va_join (wr := (wd_6f8f3203 h2 g1 fn39)) (w1 := (wd_f4cd022e h0 v0 h1 v1 x43 (-1) v3 r0 r1 r2 r3 r4 r5 r6 v4 v5 r7 r8 h2 r9 v6 r10 r11 v7 v8 r12 r13 v9 v10 r14 v11 v12 r15 v13 w14 r16 v15 v16 r17 r18 r19 r20 r21 r22 v17 r23 r24 r25 v18 h1 g0 f19)) hP hD [0, 1] [2] rfl rfl (by decide) (by decide) hk1 hFc hP1 hD1
                clear hP hD hPc hDc hKc hFc hP1 hK1 hD1 hk1 hz1
                generalize H1 = H at hP2 hS ⊢
                have hP := hP2.sub (ws' := (wd_490cd7da h0 v0 h1 v1 x43 (-1) v3 r0 r1 r2 r3 r4 r5 r6 v4 v5 r7 r8 h2 r9 v6 r10 r11 v7 v8 r12 r13 v9 v10 r14 v11 v12 r15 v13 w14 r16 v15 v16 r17 r18 r19 r20 r21 r22 v17 r23 r24 r25 v18 h1 g0 f19 h2 g1 fn39)) [1, 2, 0] rfl
                have hD := hD2.sub (ws' := (wd_490cd7da h0 v0 h1 v1 x43 (-1) v3 r0 r1 r2 r3 r4 r5 r6 v4 v5 r7 r8 h2 r9 v6 r10 r11 v7 v8 r12 r13 v9 v10 r14 v11 v12 r15 v13 w14 r16 v15 v16 r17 r18 r19 r20 r21 r22 v17 r23 r24 r25 v18 h1 g0 f19 h2 g1 fn39)) [1, 2, 0] (by decide) rfl
                clear hP2 hD2
                have hPc := hP.sub (ws' := []) [] rfl
                have hDc := hD.sub (ws' := []) [] (by decide) rfl
                have hKc := hK.sub (tys' := []) [] rfl
                have hFc := va_free (wc := []) hD hS hA [] rfl
                refine va_calli (va_runS (As := [.int 115, .int ra40]) (rest := []) ⟨hx, hb, hml, hown, hts⟩ (k_X12_itemOf_1 l dC dI ra40  H.size) (va_cwS 2 hts g_X12_items_1_5 rfl rfl rfl (by decide +kernel) ⟨Nat.le_of_ble_eq_true rfl, Nat.le_of_ble_eq_true rfl⟩) (pv_PS hPc hKc hDc) rfl rfl hl.1 rfl (lv_room (Nat.le_of_ble_eq_true rfl)) dX12_items_119 ⟨Nat.le_of_ble_eq_true rfl, Nat.le_of_ble_eq_true rfl⟩) hS (fun q _ h => hFc q h) hFc (fun ra44 u t H1 locs ht hvm hwra44 hB hz1 hk1 hS => ?_)
                try rw [hwra44] at hB
                obtain ⟨pt0_ra44, pt1_ra44, pt2_ra44, pt3_ra44, hP1, hK1, hD1⟩ := hB
                rw [ht] at hP1
                obtain ⟨hP2, hD2⟩ := va_join (wr := (wd_490cd7da h0 v0 h1 v1 x43 (-1) v3 r0 r1 r2 r3 r4 r5 r6 v4 v5 r7 r8 h2 r9 v6 r10 r11 v7 v8 r12 r13 v9 v10 r14 v11 v12 r15 v13 w14 r16 v15 v16 r17 r18 r19 r20 r21 r22 v17 r23 r24 r25 v18 h1 g0 f19 h2 g1 fn39)) (w1 := []) hP hD [] [0, 1, 2] rfl rfl (by decide) (by decide) hk1 hFc hP1 hD1
                clear hP hD hPc hDc hKc hFc hP1 hK1 hD1 hk1 hz1
                generalize H1 = H at hP2 hS ⊢
                have hP : va_P (dC, dI) vwCl (wd_490cd7da h0 v0 h1 v1 x43 (-1) v3 r0 r1 r2 r3 r4 r5 r6 v4 v5 r7 r8 h2 r9 v6 r10 r11 v7 v8 r12 r13 v9 v10 r14 v11 v12 r15 v13 w14 r16 v15 v16 r17 r18 r19 r20 r21 r22 v17 r23 r24 r25 v18 h1 g0 f19 h2 g1 fn39) H := hP2
                have hD : va_D A (wd_490cd7da h0 v0 h1 v1 x43 (-1) v3 r0 r1 r2 r3 r4 r5 r6 v4 v5 r7 r8 h2 r9 v6 r10 r11 v7 v8 r12 r13 v9 v10 r14 v11 v12 r15 v13 w14 r16 v15 v16 r17 r18 r19 r20 r21 r22 v17 r23 r24 r25 v18 h1 g0 f19 h2 g1 fn39) := hD2
                clear hP2 hD2
                have hkra44 : ra44 = pg_it true (pg_ch f19 v1.toInt x43.toInt) := by rw [show pg_ch f19 v1.toInt x43.toInt = ra40.toInt by omega]; exact pt3_ra44
                refine lv_goto (tgt := 126) hx hb dX12_items_122 (by decide) ?_
                refine lv_istore (lv' := [(6, .int ra44), (5, .int t32), (0, .ref h0), (1, .int 115), (2, .ref h2), (3, .int 0), (4, .int 4)]) hx hb dX12_items_126 hl (by decide) rfl (fun ls hl => ?_)
                refine lv_goto (tgt := 41) hx hb dX12_items_128 (by decide) ?_
                exact ih_hL27 ra44 t32 x43 fn39 H locs ls (by first | omega | decide) (by first | omega | decide) oa_x43 (by first | omega | decide) (by first | assumption | (apply pm_RR.step <;> first | assumption | omega) | (apply pm_RR.init <;> first | assumption | decide)) (by omega) (by omega) (by first | assumption | (apply pg_I.ini <;> first | assumption | omega | (apply pg_ur.mk <;> first | assumption | decide) | (apply pg_us.mk <;> first | assumption | omega | decide)) | (apply pg_I.next <;> first | assumption | omega | (show _ = pm_los _; assumption) | (show _ = pm_his _; assumption) | (show _ = pm_lob _; assumption) | (show _ = pm_hib _; assumption))) (by assumption) (by assumption) (by first | omega | (simp only [Int.toNat] at *; omega)) hP hD hS (lv_sub hl [0, 1, 2, 3, 4, 5, 6] rfl)
            · skip
              obtain ⟨x45, x46, oa_x45, ob_x45, oa_x46, ob_x46, pt0_ra37, pt1_ra37, hP1, hK1, hD1⟩ := hB
              rw [ht] at hP1
              obtain ⟨hP2, hD2⟩ := va_join (wr := (wd_6f8f3203 h2 g1 fn22)) (w1 := (wd_f4cd022e h0 v0 h1 v1 x45 x46 v3 r0 r1 r2 r3 r4 r5 r6 v4 v5 r7 r8 h2 r9 v6 r10 r11 v7 v8 r12 r13 v9 v10 r14 v11 v12 r15 v13 w14 r16 v15 v16 r17 r18 r19 r20 r21 r22 v17 r23 r24 r25 v18 h1 g0 f19)) hP hD [0, 1] [2] rfl rfl (by decide) (by decide) hk1 hFc hP1 hD1
              clear hP hD hPc hDc hKc hFc hP1 hK1 hD1 hk1 hz1
              generalize H1 = H at hP2 hS ⊢
              have hP := hP2.sub (ws' := (wd_490cd7da h0 v0 h1 v1 x45 x46 v3 r0 r1 r2 r3 r4 r5 r6 v4 v5 r7 r8 h2 r9 v6 r10 r11 v7 v8 r12 r13 v9 v10 r14 v11 v12 r15 v13 w14 r16 v15 v16 r17 r18 r19 r20 r21 r22 v17 r23 r24 r25 v18 h1 g0 f19 h2 g1 fn22)) [1, 2, 0] rfl
              have hD := hD2.sub (ws' := (wd_490cd7da h0 v0 h1 v1 x45 x46 v3 r0 r1 r2 r3 r4 r5 r6 v4 v5 r7 r8 h2 r9 v6 r10 r11 v7 v8 r12 r13 v9 v10 r14 v11 v12 r15 v13 w14 r16 v15 v16 r17 r18 r19 r20 r21 r22 v17 r23 r24 r25 v18 h1 g0 f19 h2 g1 fn22)) [1, 2, 0] (by decide) rfl
              clear hP2 hD2
              refine va_iast hx hb hK hP hD hS 2 1 rfl rfl (vp_in_iff.mpr ⟨by omega, by omega⟩) dX12_items_105 (fun H locs hP hD hS => ?_)
              obtain ⟨fn47, efn47⟩ : ∃ g : Nat → Int32, g = upd fn22 (Int32.toNatClampNeg t34) ra37 := ⟨_, rfl⟩
              rw [← efn47] at hP hD
              have hP : va_P (dC, dI) vwCl (wd_490cd7da h0 v0 h1 v1 x45 x46 v3 r0 r1 r2 r3 r4 r5 r6 v4 v5 r7 r8 h2 r9 v6 r10 r11 v7 v8 r12 r13 v9 v10 r14 v11 v12 r15 v13 w14 r16 v15 v16 r17 r18 r19 r20 r21 r22 v17 r23 r24 r25 v18 h1 g0 f19 h2 g1 fn47) H := hP
              have hD : va_D A (wd_490cd7da h0 v0 h1 v1 x45 x46 v3 r0 r1 r2 r3 r4 r5 r6 v4 v5 r7 r8 h2 r9 v6 r10 r11 v7 v8 r12 r13 v9 v10 r14 v11 v12 r15 v13 w14 r16 v15 v16 r17 r18 r19 r20 r21 r22 v17 r23 r24 r25 v18 h1 g0 f19 h2 g1 fn47) := hD
              refine lv_aload_n hx hb dX12_items_106 rfl (lv_at hl 2 rfl) ?_
              refine va_get (D := (dC, dI)) (ci := 12) (v := .int x46) (C := RX12) (T := TX12) (N := 48) hx hb hts (fun _ h => List.mem_cons_of_mem _ (List.mem_append_right _ h)) hown hK hP 0 rfl rfl 4 (by decide) (hts (.fieldLink RX12 119 "LeftArgumentsModel" "wrong" "I") (List.mem_cons_of_mem _ (List.mem_append_left _ (List.mem_of_getElem? (i := 18) rfl)))) (fun _ h9 => h9) rfl dX12_items_107 ?_
              refine lv_iconst (v := (-1)) hx hb dX12_items_110 (by decide) ?_
              refine lv_icmp_ne (tgt := 125) hx hb dX12_items_111 (by decide) (fun _ => ?_) (fun c48 => by exfalso; have fc48 : x46.toInt = (-1) := congrArg Int32.toInt c48; omega)
              refine lv_iconst (v := (-1)) hx hb dX12_items_125 (by decide) ?_
              refine lv_istore (lv' := [(6, .int (-1)), (5, .int t32), (0, .ref h0), (1, .int 115), (2, .ref h2), (3, .int 0), (4, .int 4)]) hx hb dX12_items_126 hl (by decide) rfl (fun ls hl => ?_)
              refine lv_goto (tgt := 41) hx hb dX12_items_128 (by decide) ?_
              refine lv_aload_n hx hb dX12_items_41 rfl (lv_at hl 2 rfl) ?_
              refine va_get (D := (dC, dI)) (ci := 12) (v := .int x46) (C := RX12) (T := TX12) (N := 48) hx hb hts (fun _ h => List.mem_cons_of_mem _ (List.mem_append_right _ h)) hown hK hP 0 rfl rfl 4 (by decide) (hts (.fieldLink RX12 119 "LeftArgumentsModel" "wrong" "I") (List.mem_cons_of_mem _ (List.mem_append_left _ (List.mem_of_getElem? (i := 18) rfl)))) (fun _ h9 => h9) rfl dX12_items_42 ?_
              refine lv_iconst (v := (-1)) hx hb dX12_items_45 (by decide) ?_
              refine lv_icmp_ne (tgt := 131) hx hb dX12_items_46 (by decide) (fun _ => ?_) (fun c49 => by exfalso; have fc49 : x46.toInt = (-1) := congrArg Int32.toInt c49; omega)
              subst hQ
              have hP9 := hP.sub (ws' := (wd_490cd7da h0 v0 h1 v1 x45 x46 v3 r0 r1 r2 r3 r4 r5 r6 v4 v5 r7 r8 h2 r9 v6 r10 r11 v7 v8 r12 r13 v9 v10 r14 v11 v12 r15 v13 w14 r16 v15 v16 r17 r18 r19 r20 r21 r22 v17 r23 r24 r25 v18 h1 g0 f19 h2 g1 fn47)) [0, 1, 2] rfl
              have hD9 := hD.sub (ws' := (wd_490cd7da h0 v0 h1 v1 x45 x46 v3 r0 r1 r2 r3 r4 r5 r6 v4 v5 r7 r8 h2 r9 v6 r10 r11 v7 v8 r12 r13 v9 v10 r14 v11 v12 r15 v13 w14 r16 v15 v16 r17 r18 r19 r20 r21 r22 v17 r23 r24 r25 v18 h1 g0 f19 h2 g1 fn47)) [0, 1, 2] (by decide) rfl
              have hK9 := hK.sub (tys' := []) [] rfl
              exact W.vret hx hb hr (fun t ht hW => ⟨⟨(), rfl, trivial, Or.inr (⟨x45, x46, fn47, oa_x45, ob_x45, oa_x46, ob_x46, by omega, by first | assumption | (apply pg_I.fail <;> first | assumption | omega | (show _ = pm_los _; assumption) | (show _ = pm_his _; assumption) | (show _ = pm_lob _; assumption) | (show _ = pm_hib _; assumption)), by rw [ht]; exact hP9, va_K.moved hW.alike hK9, hD9⟩)⟩, hS.F ht⟩) hS.2.2 dX12_items_131
    exact hL27 _ ra18 0 x17 fn12 H locs ls (by first | omega | decide) (by first | omega | decide) oa_x17 (by first | omega | decide) (by first | assumption | (apply pm_RR.step <;> first | assumption | omega) | (apply pm_RR.init <;> first | assumption | decide)) (by omega) (by omega) (by first | assumption | (apply pg_I.ini <;> first | assumption | omega | (apply pg_ur.mk <;> first | assumption | decide) | (apply pg_us.mk <;> first | assumption | omega | decide)) | (apply pg_I.next <;> first | assumption | omega | (show _ = pm_los _; assumption) | (show _ = pm_his _; assumption) | (show _ = pm_lob _; assumption) | (show _ = pm_hib _; assumption))) (by assumption) (by assumption) (Nat.lt_succ_self _) hP hD hS (lv_sub hl [0, 1, 2, 3, 4, 5, 6] rfl)
def q_X12_items_2 : List Cond := .code yX12_items cX12_items 7 none :: (([.code yX12_usual cX12_usual 2 (some .int), .initialized RX12, .static yX12_usual, .methodLink RX12 221 yX12_usual, .code yX12_look cX12_look 1 (some .int), .code yX12_here cX12_here 1 (some .int), .fieldLink RX12 112 "LeftArgumentsModel" "at" "I", .fieldLink RX12 109 "LeftArgumentsModel" "size" "I", .fieldLink RX12 9 "LeftArgumentsModel" "tape" "[I", .instanceMethod yX12_here, .selects RX12 yX12_here yX12_here, .methodLink RX12 115 yX12_here, .instanceMethod yX12_look, .selects RX12 yX12_look yX12_look, .methodLink RX12 131 yX12_look, .code yX12_itemOf cX12_itemOf 2 (some .int), .static yX12_itemOf, .methodLink RX12 225 yX12_itemOf, .fieldLink RX12 119 "LeftArgumentsModel" "wrong" "I", .code yX12_has cX12_has 2 (some .boolean), .static yX12_has, .methodLink RX12 228 yX12_has, .code yX12_lowest cX12_lowest 2 (some .int), .static yX12_lowest, .methodLink RX12 232 yX12_lowest, .code yX12_highest cX12_highest 2 (some .int), .static yX12_highest, .methodLink RX12 235 yX12_highest, .code yX12_number cX12_number 4 (some .int), .code yX12_isDigit cX12_isDigit 1 (some .boolean), .static yX12_isDigit, .methodLink RX12 134 yX12_isDigit, .code yX12_bad cX12_bad 1 none, .instanceMethod yX12_bad, .selects RX12 yX12_bad yX12_bad, .methodLink RX12 128 yX12_bad, .code yX12_in cX12_in 3 (some .boolean), .static yX12_in, .methodLink RX12 217 yX12_in, .instanceMethod yX12_number, .selects RX12 yX12_number yX12_number, .methodLink RX12 238 yX12_number] : List Cond) ++ wsX120)
set_option maxRecDepth 20000 in
theorem g_X12_items_2_0 : GoodIn q_X12_items_2 (va_wsS RX12 221 yX12_usual q_X12_usual_4) := goodIn_app (goodIn_r _ [4, 3, 2] rfl (by decide +kernel)) (goodIn_r (.code yX12_usual cX12_usual 2 (some .int) :: []) [1] rfl (by decide +kernel))
set_option maxRecDepth 20000 in
theorem g_X12_items_2_1 : GoodIn q_X12_items_2 (va_wsS RX12 221 yX12_usual q_X12_usual_5) := goodIn_app (goodIn_r _ [4, 3, 2] rfl (by decide +kernel)) (goodIn_r (.code yX12_usual cX12_usual 2 (some .int) :: []) [1] rfl (by decide +kernel))
set_option maxRecDepth 20000 in
theorem g_X12_items_2_2 : GoodIn q_X12_items_2 (va_wsS RX12 221 yX12_usual q_X12_usual_6) := goodIn_app (goodIn_r _ [4, 3, 2] rfl (by decide +kernel)) (goodIn_r (.code yX12_usual cX12_usual 2 (some .int) :: []) [1] rfl (by decide +kernel))
set_option maxRecDepth 20000 in
theorem g_X12_items_2_3 : GoodIn q_X12_items_2 (va_wsS RX12 221 yX12_usual q_X12_usual_7) := goodIn_app (goodIn_r _ [4, 3, 2] rfl (by decide +kernel)) (goodIn_r (.code yX12_usual cX12_usual 2 (some .int) :: []) [1] rfl (by decide +kernel))
set_option maxRecDepth 20000 in
theorem g_X12_items_2_4 : GoodIn q_X12_items_2 (va_wsS RX12 221 yX12_usual q_X12_usual_8) := goodIn_app (goodIn_r _ [4, 3, 2] rfl (by decide +kernel)) (goodIn_r (.code yX12_usual cX12_usual 2 (some .int) :: []) [1] rfl (by decide +kernel))
set_option maxRecDepth 20000 in
theorem g_X12_items_2_5 : GoodIn q_X12_items_2 (wsV RX12 131 RX12 yX12_look q_X12_look) := goodIn_app (goodIn_r _ [15, 13, 14, 2] rfl (by decide +kernel)) (goodIn_ca (goodIn_r (.code yX12_look cX12_look 1 (some .int) :: [.code yX12_here cX12_here 1 (some .int), .fieldLink RX12 112 "LeftArgumentsModel" "at" "I", .fieldLink RX12 109 "LeftArgumentsModel" "size" "I", .fieldLink RX12 9 "LeftArgumentsModel" "tape" "[I", .initialized RX12, .instanceMethod yX12_here, .selects RX12 yX12_here yX12_here, .methodLink RX12 115 yX12_here]) [5, 6, 7, 8, 9, 2, 10, 11, 12] rfl (by decide +kernel)) (goodIn_sub (fun _ h => List.mem_cons_of_mem _ (List.mem_append_right _ h)) gwX12))
set_option maxRecDepth 20000 in
theorem g_X12_items_2_6 : GoodIn q_X12_items_2 (va_wsS RX12 225 yX12_itemOf q_X12_itemOf) := goodIn_app (goodIn_r _ [18, 17, 2] rfl (by decide +kernel)) (goodIn_r (.code yX12_itemOf cX12_itemOf 2 (some .int) :: []) [16] rfl (by decide +kernel))
set_option maxRecDepth 20000 in
theorem g_X12_items_2_8 : GoodIn q_X12_items_2 (va_wsS RX12 228 yX12_has q_X12_has) := goodIn_app (goodIn_r _ [22, 21, 2] rfl (by decide +kernel)) (goodIn_r (.code yX12_has cX12_has 2 (some .boolean) :: []) [20] rfl (by decide +kernel))
set_option maxRecDepth 20000 in
theorem g_X12_items_2_9 : GoodIn q_X12_items_2 (va_wsS RX12 232 yX12_lowest q_X12_lowest) := goodIn_app (goodIn_r _ [25, 24, 2] rfl (by decide +kernel)) (goodIn_r (.code yX12_lowest cX12_lowest 2 (some .int) :: []) [23] rfl (by decide +kernel))
set_option maxRecDepth 20000 in
theorem g_X12_items_2_10 : GoodIn q_X12_items_2 (va_wsS RX12 235 yX12_highest q_X12_highest) := goodIn_app (goodIn_r _ [28, 27, 2] rfl (by decide +kernel)) (goodIn_r (.code yX12_highest cX12_highest 2 (some .int) :: []) [26] rfl (by decide +kernel))
set_option maxRecDepth 20000 in
theorem g_X12_items_2_11 : GoodIn q_X12_items_2 (wsV RX12 238 RX12 yX12_number q_X12_number) := goodIn_app (goodIn_r _ [42, 40, 41, 2] rfl (by decide +kernel)) (goodIn_ca (goodIn_r (.code yX12_number cX12_number 4 (some .int) :: [.code yX12_look cX12_look 1 (some .int), .code yX12_here cX12_here 1 (some .int), .fieldLink RX12 112 "LeftArgumentsModel" "at" "I", .fieldLink RX12 109 "LeftArgumentsModel" "size" "I", .fieldLink RX12 9 "LeftArgumentsModel" "tape" "[I", .initialized RX12, .instanceMethod yX12_here, .selects RX12 yX12_here yX12_here, .methodLink RX12 115 yX12_here, .instanceMethod yX12_look, .selects RX12 yX12_look yX12_look, .methodLink RX12 131 yX12_look, .code yX12_isDigit cX12_isDigit 1 (some .boolean), .static yX12_isDigit, .methodLink RX12 134 yX12_isDigit, .code yX12_bad cX12_bad 1 none, .fieldLink RX12 119 "LeftArgumentsModel" "wrong" "I", .instanceMethod yX12_bad, .selects RX12 yX12_bad yX12_bad, .methodLink RX12 128 yX12_bad, .code yX12_in cX12_in 3 (some .boolean), .static yX12_in, .methodLink RX12 217 yX12_in]) [29, 5, 6, 7, 8, 9, 2, 10, 11, 12, 13, 14, 15, 30, 31, 32, 33, 19, 34, 35, 36, 37, 38, 39] rfl (by decide +kernel)) (goodIn_sub (fun _ h => List.mem_cons_of_mem _ (List.mem_append_right _ h)) gwX12))
set_option maxHeartbeats 4000000 in
set_option maxRecDepth 100000 in
theorem k_X12_items_2 (l : Launch) (dC : Nat → ClassId) (dI : Nat → Nat → Nat) (h0 : Nat) (h1 : Nat) (h2 : Nat) (v0 : Int32) (v1 : Int32) (v2 : Int32) (v3 : Int32) (r0 : Nat) (r1 : Nat) (r2 : Nat) (r3 : Nat) (r4 : Nat) (r5 : Nat) (r6 : Nat) (v4 : Int32) (v5 : Int32) (r7 : Nat) (r8 : Nat) (r9 : Nat) (v6 : Int32) (r10 : Nat) (r11 : Nat) (v7 : Int32) (v8 : Int32) (r12 : Nat) (r13 : Nat) (v9 : Int32) (v10 : Int32) (r14 : Nat) (v11 : Int32) (v12 : Int32) (r15 : Nat) (v13 : Int32) (w14 : Int64) (r16 : Nat) (v15 : Int32) (v16 : Int32) (r17 : Nat) (r18 : Nat) (r19 : Nat) (r20 : Nat) (r21 : Nat) (r22 : Nat) (v17 : Int32) (r23 : Nat) (r24 : Nat) (r25 : Nat) (v18 : Int32) (g0 : ClassId) (f19 : Nat → Int32) (g1 : ClassId) (f20 : Nat → Int32) (v21 : Int32) (i_v1 : 0 ≤ v1.toInt ∧ v1.toInt ≤ 240) (i_v2 : 0 ≤ v2.toInt ∧ v2.toInt ≤ 240) (i_v4 : 0 ≤ v4.toInt ∧ v4.toInt ≤ 4) (i_v5 : 0 ≤ v5.toInt ∧ v5.toInt ≤ 4) (i_v6 : 0 ≤ v6.toInt ∧ v6.toInt ≤ 8) (i_v7 : 0 ≤ v7.toInt ∧ v7.toInt ≤ 8) (i_v8 : 0 ≤ v8.toInt ∧ v8.toInt ≤ 1) (i_v9 : -1 ≤ v9.toInt ∧ v9.toInt ≤ 3) (i_v13 : 0 ≤ v13.toInt ∧ v13.toInt ≤ 40) (i_v17 : 0 ≤ v17.toInt ∧ v17.toInt ≤ 10) (i_v18 : 0 ≤ v18.toInt ∧ v18.toInt ≤ 1) (i_v21 : 0 ≤ v21.toInt ∧ v21.toInt ≤ 35) (ia_f19 : (∀ j, 0 ≤ (f19 j).toInt ∧ (f19 j).toInt ≤ 255)) (sz : Nat) : Met l yX12_items q_X12_items_2 ({ frames := 3, cells := 0, slots := 0, locals := 63 }) (va_Pc [.ref h0, .int 98, .ref h2, .int v21, .int 5] (fun U => U.heap.size = sz ∧ va_P (dC, dI) vwCl (wd_b9c2d44b h0 v0 h1 v1 v2 (-1) v3 r0 r1 r2 r3 r4 r5 r6 v4 v5 r7 r8 r9 h2 v6 r10 r11 v7 v8 r12 r13 v9 v10 r14 v11 v12 r15 v13 w14 r16 v15 v16 r17 r18 r19 r20 r21 r22 v17 r23 r24 r25 v18 h1 g0 f19 h2 g1 f20) U.heap ∧ va_K (dC, dI) vwCl [(g0, .int), (g1, .int)] U ∧ va_D (fun _ => True) (wd_b9c2d44b h0 v0 h1 v1 v2 (-1) v3 r0 r1 r2 r3 r4 r5 r6 v4 v5 r7 r8 r9 h2 v6 r10 r11 v7 v8 r12 r13 v9 v10 r14 v11 v12 r15 v13 w14 r16 v15 v16 r17 r18 r19 r20 r21 r22 v17 r23 r24 r25 v18 h1 g0 f19 h2 g1 f20))) (va_Qv (fun (_ : Unit) => True) (fun (_ : Unit) (t : State) => (∃ (o_h0_3 : Int32) (o_h2 : Nat → Int32), 0 ≤ o_h0_3.toInt ∧ o_h0_3.toInt ≤ 240 ∧ (v2.toInt ≤ o_h0_3.toInt) ∧ (pm_bb v21 f20 o_h2) ∧ (pg_items f19 v1.toInt false v21.toInt 300 v2.toInt 0 (pg_us f20 v21.toInt) = ((true, o_h0_3.toInt), o_h2)) ∧ va_P (dC, dI) vwCl (wd_b9c2d44b h0 v0 h1 v1 o_h0_3 (-1) v3 r0 r1 r2 r3 r4 r5 r6 v4 v5 r7 r8 r9 h2 v6 r10 r11 v7 v8 r12 r13 v9 v10 r14 v11 v12 r15 v13 w14 r16 v15 v16 r17 r18 r19 r20 r21 r22 v17 r23 r24 r25 v18 h1 g0 f19 h2 g1 o_h2) t.heap ∧ va_K (dC, dI) vwCl [] t ∧ va_D (va_A (wd_b9c2d44b h0 v0 h1 v1 v2 (-1) v3 r0 r1 r2 r3 r4 r5 r6 v4 v5 r7 r8 r9 h2 v6 r10 r11 v7 v8 r12 r13 v9 v10 r14 v11 v12 r15 v13 w14 r16 v15 v16 r17 r18 r19 r20 r21 r22 v17 r23 r24 r25 v18 h1 g0 f19 h2 g1 f20) sz) (wd_b9c2d44b h0 v0 h1 v1 o_h0_3 (-1) v3 r0 r1 r2 r3 r4 r5 r6 v4 v5 r7 r8 r9 h2 v6 r10 r11 v7 v8 r12 r13 v9 v10 r14 v11 v12 r15 v13 w14 r16 v15 v16 r17 r18 r19 r20 r21 r22 v17 r23 r24 r25 v18 h1 g0 f19 h2 g1 o_h2)) ∨ (∃ (o_h0_3 : Int32) (o_h0_4 : Int32) (o_h2 : Nat → Int32), 0 ≤ o_h0_3.toInt ∧ o_h0_3.toInt ≤ 240 ∧ 0 ≤ o_h0_4.toInt ∧ o_h0_4.toInt ≤ 240 ∧ (v2.toInt ≤ o_h0_3.toInt) ∧ ((pg_items f19 v1.toInt false v21.toInt 300 v2.toInt 0 (pg_us f20 v21.toInt)).1 = (false, o_h0_4.toInt)) ∧ va_P (dC, dI) vwCl (wd_b9c2d44b h0 v0 h1 v1 o_h0_3 o_h0_4 v3 r0 r1 r2 r3 r4 r5 r6 v4 v5 r7 r8 r9 h2 v6 r10 r11 v7 v8 r12 r13 v9 v10 r14 v11 v12 r15 v13 w14 r16 v15 v16 r17 r18 r19 r20 r21 r22 v17 r23 r24 r25 v18 h1 g0 f19 h2 g1 o_h2) t.heap ∧ va_K (dC, dI) vwCl [] t ∧ va_D (va_A (wd_b9c2d44b h0 v0 h1 v1 v2 (-1) v3 r0 r1 r2 r3 r4 r5 r6 v4 v5 r7 r8 r9 h2 v6 r10 r11 v7 v8 r12 r13 v9 v10 r14 v11 v12 r15 v13 w14 r16 v15 v16 r17 r18 r19 r20 r21 r22 v17 r23 r24 r25 v18 h1 g0 f19 h2 g1 f20) sz) (wd_b9c2d44b h0 v0 h1 v1 o_h0_3 o_h0_4 v3 r0 r1 r2 r3 r4 r5 r6 v4 v5 r7 r8 r9 h2 v6 r10 r11 v7 v8 r12 r13 v9 v10 r14 v11 v12 r15 v13 w14 r16 v15 v16 r17 r18 r19 r20 r21 r22 v17 r23 r24 r25 v18 h1 g0 f19 h2 g1 o_h2))) (va_A (wd_b9c2d44b h0 v0 h1 v1 v2 (-1) v3 r0 r1 r2 r3 r4 r5 r6 v4 v5 r7 r8 r9 h2 v6 r10 r11 v7 v8 r12 r13 v9 v10 r14 v11 v12 r15 v13 w14 r16 v15 v16 r17 r18 r19 r20 r21 r22 v17 r23 r24 r25 v18 h1 g0 f19 h2 g1 f20) sz)) 0 0 (va_A (wd_b9c2d44b h0 v0 h1 v1 v2 (-1) v3 r0 r1 r2 r3 r4 r5 r6 v4 v5 r7 r8 r9 h2 v6 r10 r11 v7 v8 r12 r13 v9 v10 r14 v11 v12 r15 v13 w14 r16 v15 v16 r17 r18 r19 r20 r21 r22 v17 r23 r24 r25 v18 h1 g0 f19 h2 g1 f20) sz) := by
  refine Met.ofW (cc := cX12_items) (maxL := 7) (ret := none) (by decide) rfl ?_
  intro p e s m args below meth c s₁ B hml hv
  obtain ⟨i_v1a, i_v1b⟩ := i_v1
  obtain ⟨i_v2a, i_v2b⟩ := i_v2
  obtain ⟨i_v4a, i_v4b⟩ := i_v4
  obtain ⟨i_v5a, i_v5b⟩ := i_v5
  obtain ⟨i_v6a, i_v6b⟩ := i_v6
  obtain ⟨i_v7a, i_v7b⟩ := i_v7
  obtain ⟨i_v8a, i_v8b⟩ := i_v8
  obtain ⟨i_v9a, i_v9b⟩ := i_v9
  obtain ⟨i_v13a, i_v13b⟩ := i_v13
  obtain ⟨i_v17a, i_v17b⟩ := i_v17
  obtain ⟨i_v18a, i_v18b⟩ := i_v18
  obtain ⟨i_v21a, i_v21b⟩ := i_v21
  obtain ⟨rfl, hsz, hP, hK, hD0⟩ := hv
  have hx := B.exec
  have hb := B.bytes
  have hr := B.returns
  have hts := atoms_spec (ws := q_X12_items_2) B.pre
  have hown : s.vm.findClass RX12 = some m.cls := findClass_of_methodNamed B.named
  have hlocks := B.notSynchronized
  subst hsz
  have hD := hD0.self (sz := s.heap.size)
  generalize hAe : va_A (wd_b9c2d44b h0 v0 h1 v1 v2 (-1) v3 r0 r1 r2 r3 r4 r5 r6 v4 v5 r7 r8 r9 h2 v6 r10 r11 v7 v8 r12 r13 v9 v10 r14 v11 v12 r15 v13 w14 r16 v15 v16 r17 r18 r19 r20 r21 r22 v17 r23 r24 r25 v18 h1 g0 f19 h2 g1 f20) s.heap.size = A at hD ⊢
  have hA : ∀ q : Nat, s.heap.size ≤ q → A q := fun q h => by rw [← hAe]; exact Or.inr h
  have hS : va_S A s.heap s.heap [] := va_S.rf
  generalize hQ : (MQ below _ _ s 0 0 A) = Q
  have hl := lv_entry ([.ref h0, .int 98, .ref h2, .int v21, .int 5]) (n := 7) (Nat.le_of_ble_eq_true rfl)
  rw [lg_entry_eq]
  generalize (lg_sl ([.ref h0, .int 98, .ref h2, .int v21, .int 5]) ++ List.replicate (7 - (lg_sl ([.ref h0, .int 98, .ref h2, .int v21, .int 5])).length) Slot.unset).toArray = ls at hl ⊢
  have hl : lv_has ls 7 [(0, .ref h0), (1, .int 98), (2, .ref h2), (3, .int v21), (4, .int 5)] := hl
  obtain ⟨H, hH⟩ : ∃ H : Heap, H = s.heap := ⟨_, rfl⟩
  obtain ⟨locs, hlocs⟩ : ∃ y : List Loc, y = [] := ⟨_, rfl⟩
  have hS : va_S A s.heap H locs := by rw [hH, hlocs]; exact va_S.rf
  have hP : va_P (dC, dI) vwCl (wd_b9c2d44b h0 v0 h1 v1 v2 (-1) v3 r0 r1 r2 r3 r4 r5 r6 v4 v5 r7 r8 r9 h2 v6 r10 r11 v7 v8 r12 r13 v9 v10 r14 v11 v12 r15 v13 w14 r16 v15 v16 r17 r18 r19 r20 r21 r22 v17 r23 r24 r25 v18 h1 g0 f19 h2 g1 f20) H := by rw [hH]; exact hP
  rw [← hH, ← hlocs]
  refine lv_iconst (v := 0) hx hb dX12_items_0 (by decide) ?_
  refine lv_istore (lv' := [(5, .int 0), (0, .ref h0), (1, .int 98), (2, .ref h2), (3, .int v21), (4, .int 5)]) hx hb dX12_items_1 hl (by decide) rfl (fun ls hl => ?_)
  refine lv_iload hx hb dX12_items_3 (lv_at hl 0 rfl) ?_
  refine lv_iload hx hb dX12_items_5 (lv_at hl 5 rfl) ?_
  refine lv_icmp_ge (tgt := 28) hx hb dX12_items_7 (by decide) (fun c => absurd c (by decide)) (fun _ => ?_)
  refine lv_aload_n hx hb dX12_items_10 rfl (lv_at hl 3 rfl) ?_
  refine lv_iload_n hx hb dX12_items_11 rfl (lv_at hl 4 rfl) ?_
  refine lv_iload hx hb dX12_items_12 (lv_at hl 0 rfl) ?_
  refine lv_iadd hx hb dX12_items_14 ?_
  refine lv_topi (fun t1 et1 => ?_)
  have gt1 : t1.toInt = v21.toInt + 0 := pv_add (a := v21.toInt) (b := 0) et1 rfl (by decide) (by omega) (by omega)
  refine lv_iload_n hx hb dX12_items_15 rfl (lv_at hl 2 rfl) ?_
  refine lv_iload hx hb dX12_items_16 (lv_at hl 0 rfl) ?_
  have hPc := hP.sub (ws' := []) [] rfl
  have hDc := hD.sub (ws' := []) [] (by decide) rfl
  have hKc := hK.sub (tys' := []) [] rfl
  have hFc := va_free (wc := []) hD hS hA [] rfl
  refine va_calli (va_runS (As := [.int 98, .int 0]) (rest := [.int t1, .ref h2]) ⟨hx, hb, hml, hown, hts⟩ (k_X12_usual_4 l dC dI   H.size) (va_cwS 2 hts g_X12_items_2_0 rfl rfl rfl (by decide +kernel) ⟨Nat.le_of_ble_eq_true rfl, Nat.le_of_ble_eq_true rfl⟩) (pv_PS hPc hKc hDc) rfl rfl hl.1 rfl (lv_room (Nat.le_of_ble_eq_true rfl)) dX12_items_18 ⟨Nat.le_of_ble_eq_true rfl, Nat.le_of_ble_eq_true rfl⟩) hS (fun q _ h => hFc q h) hFc (fun ra2 u t H1 locs ht hvm hwra2 hB hz1 hk1 hS => ?_)
  try rw [hwra2] at hB
  obtain ⟨pt0_ra2, pt1_ra2, hP1, hK1, hD1⟩ := hB
  rw [ht] at hP1
  obtain ⟨hP2, hD2⟩ := va_join (wr := (wd_b9c2d44b h0 v0 h1 v1 v2 (-1) v3 r0 r1 r2 r3 r4 r5 r6 v4 v5 r7 r8 r9 h2 v6 r10 r11 v7 v8 r12 r13 v9 v10 r14 v11 v12 r15 v13 w14 r16 v15 v16 r17 r18 r19 r20 r21 r22 v17 r23 r24 r25 v18 h1 g0 f19 h2 g1 f20)) (w1 := []) hP hD [] [0, 1, 2] rfl rfl (by decide) (by decide) hk1 hFc hP1 hD1
  clear hP hD hPc hDc hKc hFc hP1 hK1 hD1 hk1 hz1
  generalize H1 = H at hP2 hS ⊢
  have hP : va_P (dC, dI) vwCl (wd_b9c2d44b h0 v0 h1 v1 v2 (-1) v3 r0 r1 r2 r3 r4 r5 r6 v4 v5 r7 r8 r9 h2 v6 r10 r11 v7 v8 r12 r13 v9 v10 r14 v11 v12 r15 v13 w14 r16 v15 v16 r17 r18 r19 r20 r21 r22 v17 r23 r24 r25 v18 h1 g0 f19 h2 g1 f20) H := hP2
  have hD : va_D A (wd_b9c2d44b h0 v0 h1 v1 v2 (-1) v3 r0 r1 r2 r3 r4 r5 r6 v4 v5 r7 r8 r9 h2 v6 r10 r11 v7 v8 r12 r13 v9 v10 r14 v11 v12 r15 v13 w14 r16 v15 v16 r17 r18 r19 r20 r21 r22 v17 r23 r24 r25 v18 h1 g0 f19 h2 g1 f20) := hD2
  clear hP2 hD2
  obtain rfl : ra2 = (3 : Int32) := pv_cs (by decide) pt0_ra2 pt1_ra2
  refine va_iast hx hb hK hP hD hS 2 1 rfl rfl (vp_in_iff.mpr ⟨by omega, by omega⟩) dX12_items_21 (fun H locs hP hD hS => ?_)
  obtain ⟨fn3, efn3⟩ : ∃ g : Nat → Int32, g = upd f20 (Int32.toNatClampNeg t1) 3 := ⟨_, rfl⟩
  rw [← efn3] at hP hD
  have hP : va_P (dC, dI) vwCl (wd_b9c2d44b h0 v0 h1 v1 v2 (-1) v3 r0 r1 r2 r3 r4 r5 r6 v4 v5 r7 r8 r9 h2 v6 r10 r11 v7 v8 r12 r13 v9 v10 r14 v11 v12 r15 v13 w14 r16 v15 v16 r17 r18 r19 r20 r21 r22 v17 r23 r24 r25 v18 h1 g0 f19 h2 g1 fn3) H := hP
  have hD : va_D A (wd_b9c2d44b h0 v0 h1 v1 v2 (-1) v3 r0 r1 r2 r3 r4 r5 r6 v4 v5 r7 r8 r9 h2 v6 r10 r11 v7 v8 r12 r13 v9 v10 r14 v11 v12 r15 v13 w14 r16 v15 v16 r17 r18 r19 r20 r21 r22 v17 r23 r24 r25 v18 h1 g0 f19 h2 g1 fn3) := hD
  refine lv_iinc (v := 1) (lv' := [(5, .int 1), (0, .ref h0), (1, .int 98), (2, .ref h2), (3, .int v21), (4, .int 5)]) hx hb dX12_items_22 hl (k := 0) rfl (by decide) (by decide) rfl (fun ls hl => ?_)
  refine lv_goto (tgt := 3) hx hb dX12_items_25 (by decide) ?_
  refine lv_iload hx hb dX12_items_3 (lv_at hl 0 rfl) ?_
  refine lv_iload hx hb dX12_items_5 (lv_at hl 5 rfl) ?_
  refine lv_icmp_ge (tgt := 28) hx hb dX12_items_7 (by decide) (fun c => absurd c (by decide)) (fun _ => ?_)
  refine lv_aload_n hx hb dX12_items_10 rfl (lv_at hl 3 rfl) ?_
  refine lv_iload_n hx hb dX12_items_11 rfl (lv_at hl 4 rfl) ?_
  refine lv_iload hx hb dX12_items_12 (lv_at hl 0 rfl) ?_
  refine lv_iadd hx hb dX12_items_14 ?_
  refine lv_topi (fun t4 et4 => ?_)
  have gt4 : t4.toInt = v21.toInt + 1 := pv_add (a := v21.toInt) (b := 1) et4 rfl (by decide) (by omega) (by omega)
  refine lv_iload_n hx hb dX12_items_15 rfl (lv_at hl 2 rfl) ?_
  refine lv_iload hx hb dX12_items_16 (lv_at hl 0 rfl) ?_
  have hPc := hP.sub (ws' := []) [] rfl
  have hDc := hD.sub (ws' := []) [] (by decide) rfl
  have hKc := hK.sub (tys' := []) [] rfl
  have hFc := va_free (wc := []) hD hS hA [] rfl
  refine va_calli (va_runS (As := [.int 98, .int 1]) (rest := [.int t4, .ref h2]) ⟨hx, hb, hml, hown, hts⟩ (k_X12_usual_5 l dC dI   H.size) (va_cwS 2 hts g_X12_items_2_1 rfl rfl rfl (by decide +kernel) ⟨Nat.le_of_ble_eq_true rfl, Nat.le_of_ble_eq_true rfl⟩) (pv_PS hPc hKc hDc) rfl rfl hl.1 rfl (lv_room (Nat.le_of_ble_eq_true rfl)) dX12_items_18 ⟨Nat.le_of_ble_eq_true rfl, Nat.le_of_ble_eq_true rfl⟩) hS (fun q _ h => hFc q h) hFc (fun ra5 u t H1 locs ht hvm hwra5 hB hz1 hk1 hS => ?_)
  try rw [hwra5] at hB
  obtain ⟨pt0_ra5, pt1_ra5, hP1, hK1, hD1⟩ := hB
  rw [ht] at hP1
  obtain ⟨hP2, hD2⟩ := va_join (wr := (wd_b9c2d44b h0 v0 h1 v1 v2 (-1) v3 r0 r1 r2 r3 r4 r5 r6 v4 v5 r7 r8 r9 h2 v6 r10 r11 v7 v8 r12 r13 v9 v10 r14 v11 v12 r15 v13 w14 r16 v15 v16 r17 r18 r19 r20 r21 r22 v17 r23 r24 r25 v18 h1 g0 f19 h2 g1 fn3)) (w1 := []) hP hD [] [0, 1, 2] rfl rfl (by decide) (by decide) hk1 hFc hP1 hD1
  clear hP hD hPc hDc hKc hFc hP1 hK1 hD1 hk1 hz1
  generalize H1 = H at hP2 hS ⊢
  have hP : va_P (dC, dI) vwCl (wd_b9c2d44b h0 v0 h1 v1 v2 (-1) v3 r0 r1 r2 r3 r4 r5 r6 v4 v5 r7 r8 r9 h2 v6 r10 r11 v7 v8 r12 r13 v9 v10 r14 v11 v12 r15 v13 w14 r16 v15 v16 r17 r18 r19 r20 r21 r22 v17 r23 r24 r25 v18 h1 g0 f19 h2 g1 fn3) H := hP2
  have hD : va_D A (wd_b9c2d44b h0 v0 h1 v1 v2 (-1) v3 r0 r1 r2 r3 r4 r5 r6 v4 v5 r7 r8 r9 h2 v6 r10 r11 v7 v8 r12 r13 v9 v10 r14 v11 v12 r15 v13 w14 r16 v15 v16 r17 r18 r19 r20 r21 r22 v17 r23 r24 r25 v18 h1 g0 f19 h2 g1 fn3) := hD2
  clear hP2 hD2
  obtain rfl : ra5 = (4 : Int32) := pv_cs (by decide) pt0_ra5 pt1_ra5
  refine va_iast hx hb hK hP hD hS 2 1 rfl rfl (vp_in_iff.mpr ⟨by omega, by omega⟩) dX12_items_21 (fun H locs hP hD hS => ?_)
  obtain ⟨fn6, efn6⟩ : ∃ g : Nat → Int32, g = upd fn3 (Int32.toNatClampNeg t4) 4 := ⟨_, rfl⟩
  rw [← efn6] at hP hD
  have hP : va_P (dC, dI) vwCl (wd_b9c2d44b h0 v0 h1 v1 v2 (-1) v3 r0 r1 r2 r3 r4 r5 r6 v4 v5 r7 r8 r9 h2 v6 r10 r11 v7 v8 r12 r13 v9 v10 r14 v11 v12 r15 v13 w14 r16 v15 v16 r17 r18 r19 r20 r21 r22 v17 r23 r24 r25 v18 h1 g0 f19 h2 g1 fn6) H := hP
  have hD : va_D A (wd_b9c2d44b h0 v0 h1 v1 v2 (-1) v3 r0 r1 r2 r3 r4 r5 r6 v4 v5 r7 r8 r9 h2 v6 r10 r11 v7 v8 r12 r13 v9 v10 r14 v11 v12 r15 v13 w14 r16 v15 v16 r17 r18 r19 r20 r21 r22 v17 r23 r24 r25 v18 h1 g0 f19 h2 g1 fn6) := hD
  refine lv_iinc (v := 2) (lv' := [(5, .int 2), (0, .ref h0), (1, .int 98), (2, .ref h2), (3, .int v21), (4, .int 5)]) hx hb dX12_items_22 hl (k := 0) rfl (by decide) (by decide) rfl (fun ls hl => ?_)
  refine lv_goto (tgt := 3) hx hb dX12_items_25 (by decide) ?_
  refine lv_iload hx hb dX12_items_3 (lv_at hl 0 rfl) ?_
  refine lv_iload hx hb dX12_items_5 (lv_at hl 5 rfl) ?_
  refine lv_icmp_ge (tgt := 28) hx hb dX12_items_7 (by decide) (fun c => absurd c (by decide)) (fun _ => ?_)
  refine lv_aload_n hx hb dX12_items_10 rfl (lv_at hl 3 rfl) ?_
  refine lv_iload_n hx hb dX12_items_11 rfl (lv_at hl 4 rfl) ?_
  refine lv_iload hx hb dX12_items_12 (lv_at hl 0 rfl) ?_
  refine lv_iadd hx hb dX12_items_14 ?_
  refine lv_topi (fun t7 et7 => ?_)
  have gt7 : t7.toInt = v21.toInt + 2 := pv_add (a := v21.toInt) (b := 2) et7 rfl (by decide) (by omega) (by omega)
  refine lv_iload_n hx hb dX12_items_15 rfl (lv_at hl 2 rfl) ?_
  refine lv_iload hx hb dX12_items_16 (lv_at hl 0 rfl) ?_
  have hPc := hP.sub (ws' := []) [] rfl
  have hDc := hD.sub (ws' := []) [] (by decide) rfl
  have hKc := hK.sub (tys' := []) [] rfl
  have hFc := va_free (wc := []) hD hS hA [] rfl
  refine va_calli (va_runS (As := [.int 98, .int 2]) (rest := [.int t7, .ref h2]) ⟨hx, hb, hml, hown, hts⟩ (k_X12_usual_6 l dC dI   H.size) (va_cwS 2 hts g_X12_items_2_2 rfl rfl rfl (by decide +kernel) ⟨Nat.le_of_ble_eq_true rfl, Nat.le_of_ble_eq_true rfl⟩) (pv_PS hPc hKc hDc) rfl rfl hl.1 rfl (lv_room (Nat.le_of_ble_eq_true rfl)) dX12_items_18 ⟨Nat.le_of_ble_eq_true rfl, Nat.le_of_ble_eq_true rfl⟩) hS (fun q _ h => hFc q h) hFc (fun ra8 u t H1 locs ht hvm hwra8 hB hz1 hk1 hS => ?_)
  try rw [hwra8] at hB
  obtain ⟨pt0_ra8, pt1_ra8, hP1, hK1, hD1⟩ := hB
  rw [ht] at hP1
  obtain ⟨hP2, hD2⟩ := va_join (wr := (wd_b9c2d44b h0 v0 h1 v1 v2 (-1) v3 r0 r1 r2 r3 r4 r5 r6 v4 v5 r7 r8 r9 h2 v6 r10 r11 v7 v8 r12 r13 v9 v10 r14 v11 v12 r15 v13 w14 r16 v15 v16 r17 r18 r19 r20 r21 r22 v17 r23 r24 r25 v18 h1 g0 f19 h2 g1 fn6)) (w1 := []) hP hD [] [0, 1, 2] rfl rfl (by decide) (by decide) hk1 hFc hP1 hD1
  clear hP hD hPc hDc hKc hFc hP1 hK1 hD1 hk1 hz1
  generalize H1 = H at hP2 hS ⊢
  have hP : va_P (dC, dI) vwCl (wd_b9c2d44b h0 v0 h1 v1 v2 (-1) v3 r0 r1 r2 r3 r4 r5 r6 v4 v5 r7 r8 r9 h2 v6 r10 r11 v7 v8 r12 r13 v9 v10 r14 v11 v12 r15 v13 w14 r16 v15 v16 r17 r18 r19 r20 r21 r22 v17 r23 r24 r25 v18 h1 g0 f19 h2 g1 fn6) H := hP2
  have hD : va_D A (wd_b9c2d44b h0 v0 h1 v1 v2 (-1) v3 r0 r1 r2 r3 r4 r5 r6 v4 v5 r7 r8 r9 h2 v6 r10 r11 v7 v8 r12 r13 v9 v10 r14 v11 v12 r15 v13 w14 r16 v15 v16 r17 r18 r19 r20 r21 r22 v17 r23 r24 r25 v18 h1 g0 f19 h2 g1 fn6) := hD2
  clear hP2 hD2
  obtain rfl : ra8 = (3 : Int32) := pv_cs (by decide) pt0_ra8 pt1_ra8
  refine va_iast hx hb hK hP hD hS 2 1 rfl rfl (vp_in_iff.mpr ⟨by omega, by omega⟩) dX12_items_21 (fun H locs hP hD hS => ?_)
  obtain ⟨fn9, efn9⟩ : ∃ g : Nat → Int32, g = upd fn6 (Int32.toNatClampNeg t7) 3 := ⟨_, rfl⟩
  rw [← efn9] at hP hD
  have hP : va_P (dC, dI) vwCl (wd_b9c2d44b h0 v0 h1 v1 v2 (-1) v3 r0 r1 r2 r3 r4 r5 r6 v4 v5 r7 r8 r9 h2 v6 r10 r11 v7 v8 r12 r13 v9 v10 r14 v11 v12 r15 v13 w14 r16 v15 v16 r17 r18 r19 r20 r21 r22 v17 r23 r24 r25 v18 h1 g0 f19 h2 g1 fn9) H := hP
  have hD : va_D A (wd_b9c2d44b h0 v0 h1 v1 v2 (-1) v3 r0 r1 r2 r3 r4 r5 r6 v4 v5 r7 r8 r9 h2 v6 r10 r11 v7 v8 r12 r13 v9 v10 r14 v11 v12 r15 v13 w14 r16 v15 v16 r17 r18 r19 r20 r21 r22 v17 r23 r24 r25 v18 h1 g0 f19 h2 g1 fn9) := hD
  refine lv_iinc (v := 3) (lv' := [(5, .int 3), (0, .ref h0), (1, .int 98), (2, .ref h2), (3, .int v21), (4, .int 5)]) hx hb dX12_items_22 hl (k := 0) rfl (by decide) (by decide) rfl (fun ls hl => ?_)
  refine lv_goto (tgt := 3) hx hb dX12_items_25 (by decide) ?_
  refine lv_iload hx hb dX12_items_3 (lv_at hl 0 rfl) ?_
  refine lv_iload hx hb dX12_items_5 (lv_at hl 5 rfl) ?_
  refine lv_icmp_ge (tgt := 28) hx hb dX12_items_7 (by decide) (fun c => absurd c (by decide)) (fun _ => ?_)
  refine lv_aload_n hx hb dX12_items_10 rfl (lv_at hl 3 rfl) ?_
  refine lv_iload_n hx hb dX12_items_11 rfl (lv_at hl 4 rfl) ?_
  refine lv_iload hx hb dX12_items_12 (lv_at hl 0 rfl) ?_
  refine lv_iadd hx hb dX12_items_14 ?_
  refine lv_topi (fun t10 et10 => ?_)
  have gt10 : t10.toInt = v21.toInt + 3 := pv_add (a := v21.toInt) (b := 3) et10 rfl (by decide) (by omega) (by omega)
  refine lv_iload_n hx hb dX12_items_15 rfl (lv_at hl 2 rfl) ?_
  refine lv_iload hx hb dX12_items_16 (lv_at hl 0 rfl) ?_
  have hPc := hP.sub (ws' := []) [] rfl
  have hDc := hD.sub (ws' := []) [] (by decide) rfl
  have hKc := hK.sub (tys' := []) [] rfl
  have hFc := va_free (wc := []) hD hS hA [] rfl
  refine va_calli (va_runS (As := [.int 98, .int 3]) (rest := [.int t10, .ref h2]) ⟨hx, hb, hml, hown, hts⟩ (k_X12_usual_7 l dC dI   H.size) (va_cwS 2 hts g_X12_items_2_3 rfl rfl rfl (by decide +kernel) ⟨Nat.le_of_ble_eq_true rfl, Nat.le_of_ble_eq_true rfl⟩) (pv_PS hPc hKc hDc) rfl rfl hl.1 rfl (lv_room (Nat.le_of_ble_eq_true rfl)) dX12_items_18 ⟨Nat.le_of_ble_eq_true rfl, Nat.le_of_ble_eq_true rfl⟩) hS (fun q _ h => hFc q h) hFc (fun ra11 u t H1 locs ht hvm hwra11 hB hz1 hk1 hS => ?_)
  try rw [hwra11] at hB
  obtain ⟨pt0_ra11, pt1_ra11, hP1, hK1, hD1⟩ := hB
  rw [ht] at hP1
  obtain ⟨hP2, hD2⟩ := va_join (wr := (wd_b9c2d44b h0 v0 h1 v1 v2 (-1) v3 r0 r1 r2 r3 r4 r5 r6 v4 v5 r7 r8 r9 h2 v6 r10 r11 v7 v8 r12 r13 v9 v10 r14 v11 v12 r15 v13 w14 r16 v15 v16 r17 r18 r19 r20 r21 r22 v17 r23 r24 r25 v18 h1 g0 f19 h2 g1 fn9)) (w1 := []) hP hD [] [0, 1, 2] rfl rfl (by decide) (by decide) hk1 hFc hP1 hD1
  clear hP hD hPc hDc hKc hFc hP1 hK1 hD1 hk1 hz1
  generalize H1 = H at hP2 hS ⊢
  have hP : va_P (dC, dI) vwCl (wd_b9c2d44b h0 v0 h1 v1 v2 (-1) v3 r0 r1 r2 r3 r4 r5 r6 v4 v5 r7 r8 r9 h2 v6 r10 r11 v7 v8 r12 r13 v9 v10 r14 v11 v12 r15 v13 w14 r16 v15 v16 r17 r18 r19 r20 r21 r22 v17 r23 r24 r25 v18 h1 g0 f19 h2 g1 fn9) H := hP2
  have hD : va_D A (wd_b9c2d44b h0 v0 h1 v1 v2 (-1) v3 r0 r1 r2 r3 r4 r5 r6 v4 v5 r7 r8 r9 h2 v6 r10 r11 v7 v8 r12 r13 v9 v10 r14 v11 v12 r15 v13 w14 r16 v15 v16 r17 r18 r19 r20 r21 r22 v17 r23 r24 r25 v18 h1 g0 f19 h2 g1 fn9) := hD2
  clear hP2 hD2
  obtain rfl : ra11 = (0 : Int32) := pv_cs (by decide) pt0_ra11 pt1_ra11
  refine va_iast hx hb hK hP hD hS 2 1 rfl rfl (vp_in_iff.mpr ⟨by omega, by omega⟩) dX12_items_21 (fun H locs hP hD hS => ?_)
  obtain ⟨fn12, efn12⟩ : ∃ g : Nat → Int32, g = upd fn9 (Int32.toNatClampNeg t10) 0 := ⟨_, rfl⟩
  rw [← efn12] at hP hD
  have hP : va_P (dC, dI) vwCl (wd_b9c2d44b h0 v0 h1 v1 v2 (-1) v3 r0 r1 r2 r3 r4 r5 r6 v4 v5 r7 r8 r9 h2 v6 r10 r11 v7 v8 r12 r13 v9 v10 r14 v11 v12 r15 v13 w14 r16 v15 v16 r17 r18 r19 r20 r21 r22 v17 r23 r24 r25 v18 h1 g0 f19 h2 g1 fn12) H := hP
  have hD : va_D A (wd_b9c2d44b h0 v0 h1 v1 v2 (-1) v3 r0 r1 r2 r3 r4 r5 r6 v4 v5 r7 r8 r9 h2 v6 r10 r11 v7 v8 r12 r13 v9 v10 r14 v11 v12 r15 v13 w14 r16 v15 v16 r17 r18 r19 r20 r21 r22 v17 r23 r24 r25 v18 h1 g0 f19 h2 g1 fn12) := hD
  refine lv_iinc (v := 4) (lv' := [(5, .int 4), (0, .ref h0), (1, .int 98), (2, .ref h2), (3, .int v21), (4, .int 5)]) hx hb dX12_items_22 hl (k := 0) rfl (by decide) (by decide) rfl (fun ls hl => ?_)
  refine lv_goto (tgt := 3) hx hb dX12_items_25 (by decide) ?_
  refine lv_iload hx hb dX12_items_3 (lv_at hl 0 rfl) ?_
  refine lv_iload hx hb dX12_items_5 (lv_at hl 5 rfl) ?_
  refine lv_icmp_ge (tgt := 28) hx hb dX12_items_7 (by decide) (fun c => absurd c (by decide)) (fun _ => ?_)
  refine lv_aload_n hx hb dX12_items_10 rfl (lv_at hl 3 rfl) ?_
  refine lv_iload_n hx hb dX12_items_11 rfl (lv_at hl 4 rfl) ?_
  refine lv_iload hx hb dX12_items_12 (lv_at hl 0 rfl) ?_
  refine lv_iadd hx hb dX12_items_14 ?_
  refine lv_topi (fun t13 et13 => ?_)
  have gt13 : t13.toInt = v21.toInt + 4 := pv_add (a := v21.toInt) (b := 4) et13 rfl (by decide) (by omega) (by omega)
  refine lv_iload_n hx hb dX12_items_15 rfl (lv_at hl 2 rfl) ?_
  refine lv_iload hx hb dX12_items_16 (lv_at hl 0 rfl) ?_
  have hPc := hP.sub (ws' := []) [] rfl
  have hDc := hD.sub (ws' := []) [] (by decide) rfl
  have hKc := hK.sub (tys' := []) [] rfl
  have hFc := va_free (wc := []) hD hS hA [] rfl
  refine va_calli (va_runS (As := [.int 98, .int 4]) (rest := [.int t13, .ref h2]) ⟨hx, hb, hml, hown, hts⟩ (k_X12_usual_8 l dC dI   H.size) (va_cwS 2 hts g_X12_items_2_4 rfl rfl rfl (by decide +kernel) ⟨Nat.le_of_ble_eq_true rfl, Nat.le_of_ble_eq_true rfl⟩) (pv_PS hPc hKc hDc) rfl rfl hl.1 rfl (lv_room (Nat.le_of_ble_eq_true rfl)) dX12_items_18 ⟨Nat.le_of_ble_eq_true rfl, Nat.le_of_ble_eq_true rfl⟩) hS (fun q _ h => hFc q h) hFc (fun ra14 u t H1 locs ht hvm hwra14 hB hz1 hk1 hS => ?_)
  try rw [hwra14] at hB
  obtain ⟨pt0_ra14, pt1_ra14, hP1, hK1, hD1⟩ := hB
  rw [ht] at hP1
  obtain ⟨hP2, hD2⟩ := va_join (wr := (wd_b9c2d44b h0 v0 h1 v1 v2 (-1) v3 r0 r1 r2 r3 r4 r5 r6 v4 v5 r7 r8 r9 h2 v6 r10 r11 v7 v8 r12 r13 v9 v10 r14 v11 v12 r15 v13 w14 r16 v15 v16 r17 r18 r19 r20 r21 r22 v17 r23 r24 r25 v18 h1 g0 f19 h2 g1 fn12)) (w1 := []) hP hD [] [0, 1, 2] rfl rfl (by decide) (by decide) hk1 hFc hP1 hD1
  clear hP hD hPc hDc hKc hFc hP1 hK1 hD1 hk1 hz1
  generalize H1 = H at hP2 hS ⊢
  have hP : va_P (dC, dI) vwCl (wd_b9c2d44b h0 v0 h1 v1 v2 (-1) v3 r0 r1 r2 r3 r4 r5 r6 v4 v5 r7 r8 r9 h2 v6 r10 r11 v7 v8 r12 r13 v9 v10 r14 v11 v12 r15 v13 w14 r16 v15 v16 r17 r18 r19 r20 r21 r22 v17 r23 r24 r25 v18 h1 g0 f19 h2 g1 fn12) H := hP2
  have hD : va_D A (wd_b9c2d44b h0 v0 h1 v1 v2 (-1) v3 r0 r1 r2 r3 r4 r5 r6 v4 v5 r7 r8 r9 h2 v6 r10 r11 v7 v8 r12 r13 v9 v10 r14 v11 v12 r15 v13 w14 r16 v15 v16 r17 r18 r19 r20 r21 r22 v17 r23 r24 r25 v18 h1 g0 f19 h2 g1 fn12) := hD2
  clear hP2 hD2
  obtain rfl : ra14 = (0 : Int32) := pv_cs (by decide) pt0_ra14 pt1_ra14
  refine va_iast hx hb hK hP hD hS 2 1 rfl rfl (vp_in_iff.mpr ⟨by omega, by omega⟩) dX12_items_21 (fun H locs hP hD hS => ?_)
  obtain ⟨fn15, efn15⟩ : ∃ g : Nat → Int32, g = upd fn12 (Int32.toNatClampNeg t13) 0 := ⟨_, rfl⟩
  rw [← efn15] at hP hD
  have hP : va_P (dC, dI) vwCl (wd_b9c2d44b h0 v0 h1 v1 v2 (-1) v3 r0 r1 r2 r3 r4 r5 r6 v4 v5 r7 r8 r9 h2 v6 r10 r11 v7 v8 r12 r13 v9 v10 r14 v11 v12 r15 v13 w14 r16 v15 v16 r17 r18 r19 r20 r21 r22 v17 r23 r24 r25 v18 h1 g0 f19 h2 g1 fn15) H := hP
  have hD : va_D A (wd_b9c2d44b h0 v0 h1 v1 v2 (-1) v3 r0 r1 r2 r3 r4 r5 r6 v4 v5 r7 r8 r9 h2 v6 r10 r11 v7 v8 r12 r13 v9 v10 r14 v11 v12 r15 v13 w14 r16 v15 v16 r17 r18 r19 r20 r21 r22 v17 r23 r24 r25 v18 h1 g0 f19 h2 g1 fn15) := hD
  refine lv_iinc (v := 5) (lv' := [(5, .int 5), (0, .ref h0), (1, .int 98), (2, .ref h2), (3, .int v21), (4, .int 5)]) hx hb dX12_items_22 hl (k := 0) rfl (by decide) (by decide) rfl (fun ls hl => ?_)
  refine lv_goto (tgt := 3) hx hb dX12_items_25 (by decide) ?_
  refine lv_iload hx hb dX12_items_3 (lv_at hl 0 rfl) ?_
  refine lv_iload hx hb dX12_items_5 (lv_at hl 5 rfl) ?_
  refine lv_icmp_ge (tgt := 28) hx hb dX12_items_7 (by decide) (fun _ => ?_) (fun c => absurd (by decide) c)
  refine lv_iconst (v := 0) hx hb dX12_items_28 (by decide) ?_
  refine lv_istore (lv' := [(5, .int 0), (0, .ref h0), (1, .int 98), (2, .ref h2), (3, .int v21), (4, .int 5)]) hx hb dX12_items_29 hl (by decide) rfl (fun ls hl => ?_)
  refine lv_iload_n hx hb dX12_items_31 rfl (lv_at hl 2 rfl) ?_
  refine lv_aload_n hx hb dX12_items_32 rfl (lv_at hl 1 rfl) ?_
  have hPc := hP.sub (ws' := (wd_f4cd022e h0 v0 h1 v1 v2 (-1) v3 r0 r1 r2 r3 r4 r5 r6 v4 v5 r7 r8 r9 h2 v6 r10 r11 v7 v8 r12 r13 v9 v10 r14 v11 v12 r15 v13 w14 r16 v15 v16 r17 r18 r19 r20 r21 r22 v17 r23 r24 r25 v18 h1 g0 f19)) [0, 1] rfl
  have hDc := hD.sub (ws' := (wd_f4cd022e h0 v0 h1 v1 v2 (-1) v3 r0 r1 r2 r3 r4 r5 r6 v4 v5 r7 r8 r9 h2 v6 r10 r11 v7 v8 r12 r13 v9 v10 r14 v11 v12 r15 v13 w14 r16 v15 v16 r17 r18 r19 r20 r21 r22 v17 r23 r24 r25 v18 h1 g0 f19)) [0, 1] (by decide) rfl
  have hKc := hK.sub (tys' := [(g0, .int)]) [0] rfl
  have hFc := va_free (wc := (wd_f4cd022e h0 v0 h1 v1 v2 (-1) v3 r0 r1 r2 r3 r4 r5 r6 v4 v5 r7 r8 r9 h2 v6 r10 r11 v7 v8 r12 r13 v9 v10 r14 v11 v12 r15 v13 w14 r16 v15 v16 r17 r18 r19 r20 r21 r22 v17 r23 r24 r25 v18 h1 g0 f19)) hD hS hA [0, 1] rfl
  refine va_calli (va_runV (As := []) (rest := [.int 98]) ⟨hx, hb, hml, hown, hts⟩ (k_X12_look l dC dI h0 h1 v0 v1 v2 ((-1)) v3 r0 r1 r2 r3 r4 r5 r6 v4 v5 r7 r8 r9 h2 v6 r10 r11 v7 v8 r12 r13 v9 v10 r14 v11 v12 r15 v13 w14 r16 v15 v16 r17 r18 r19 r20 r21 r22 v17 r23 r24 r25 v18 g0 f19 ⟨i_v1a, i_v1b⟩ ⟨i_v2a, i_v2b⟩ ⟨i_v4a, i_v4b⟩ ⟨i_v5a, i_v5b⟩ ⟨i_v6a, i_v6b⟩ ⟨i_v7a, i_v7b⟩ ⟨i_v8a, i_v8b⟩ ⟨i_v9a, i_v9b⟩ ⟨i_v13a, i_v13b⟩ ⟨i_v17a, i_v17b⟩ ⟨i_v18a, i_v18b⟩ ia_f19 H.size) (cwV 0 hts g_X12_items_2_5 rfl rfl rfl (by decide +kernel) ⟨Nat.le_of_ble_eq_true rfl, Nat.le_of_ble_eq_true rfl⟩) (pv_PV12 hPc hKc hDc (q0 := 0) rfl) rfl rfl hl.1 rfl (lv_room (Nat.le_of_ble_eq_true rfl)) dX12_items_33 ⟨Nat.le_of_ble_eq_true rfl, Nat.le_of_ble_eq_true rfl⟩) hS (fun q _ h => hFc q h) hFc (fun ra16 u t H1 locs ht hvm hwra16 hB hz1 hk1 hS => ?_)
  try rw [hwra16] at hB
  have hkra16_0 : (((-1) : Int32)).toInt = -1 := by decide
  rcases hB with hB | hB
  · skip
    obtain ⟨x17, oa_x17, ob_x17, pt0_ra16, pt1_ra16, pt2_ra16, pt3_ra16, pt4_ra16, pt5_ra16, pt6_ra16, hP1, hK1, hD1⟩ := hB
    rw [ht] at hP1
    obtain ⟨hP2, hD2⟩ := va_join (wr := (wd_aad598ec h2 g1 fn15)) (w1 := (wd_f4cd022e h0 v0 h1 v1 x17 (-1) v3 r0 r1 r2 r3 r4 r5 r6 v4 v5 r7 r8 r9 h2 v6 r10 r11 v7 v8 r12 r13 v9 v10 r14 v11 v12 r15 v13 w14 r16 v15 v16 r17 r18 r19 r20 r21 r22 v17 r23 r24 r25 v18 h1 g0 f19)) hP hD [0, 1] [2] rfl rfl (by decide) (by decide) hk1 hFc hP1 hD1
    clear hP hD hPc hDc hKc hFc hP1 hK1 hD1 hk1 hz1
    generalize H1 = H at hP2 hS ⊢
    have hP := hP2.sub (ws' := (wd_b9c2d44b h0 v0 h1 v1 x17 (-1) v3 r0 r1 r2 r3 r4 r5 r6 v4 v5 r7 r8 r9 h2 v6 r10 r11 v7 v8 r12 r13 v9 v10 r14 v11 v12 r15 v13 w14 r16 v15 v16 r17 r18 r19 r20 r21 r22 v17 r23 r24 r25 v18 h1 g0 f19 h2 g1 fn15)) [1, 2, 0] rfl
    have hD := hD2.sub (ws' := (wd_b9c2d44b h0 v0 h1 v1 x17 (-1) v3 r0 r1 r2 r3 r4 r5 r6 v4 v5 r7 r8 r9 h2 v6 r10 r11 v7 v8 r12 r13 v9 v10 r14 v11 v12 r15 v13 w14 r16 v15 v16 r17 r18 r19 r20 r21 r22 v17 r23 r24 r25 v18 h1 g0 f19 h2 g1 fn15)) [1, 2, 0] (by decide) rfl
    clear hP2 hD2
    obtain rfl : ra16 = ((-1) : Int32) := pv_cs (by decide) pt0_ra16 pt1_ra16
    have hPc := hP.sub (ws' := []) [] rfl
    have hDc := hD.sub (ws' := []) [] (by decide) rfl
    have hKc := hK.sub (tys' := []) [] rfl
    have hFc := va_free (wc := []) hD hS hA [] rfl
    refine va_calli (va_runS (As := [.int 98, .int (-1)]) (rest := []) ⟨hx, hb, hml, hown, hts⟩ (k_X12_itemOf l dC dI ((-1))  H.size) (va_cwS 2 hts g_X12_items_2_6 rfl rfl rfl (by decide +kernel) ⟨Nat.le_of_ble_eq_true rfl, Nat.le_of_ble_eq_true rfl⟩) (pv_PS hPc hKc hDc) rfl rfl hl.1 rfl (lv_room (Nat.le_of_ble_eq_true rfl)) dX12_items_36 ⟨Nat.le_of_ble_eq_true rfl, Nat.le_of_ble_eq_true rfl⟩) hS (fun q _ h => hFc q h) hFc (fun ra18 u t H1 locs ht hvm hwra18 hB hz1 hk1 hS => ?_)
    try rw [hwra18] at hB
    have hkra18_0 : (((-1) : Int32)).toInt = -1 := by decide
    obtain ⟨pt0_ra18, pt1_ra18, pt2_ra18, pt3_ra18, hP1, hK1, hD1⟩ := hB
    rw [ht] at hP1
    obtain ⟨hP2, hD2⟩ := va_join (wr := (wd_b9c2d44b h0 v0 h1 v1 x17 (-1) v3 r0 r1 r2 r3 r4 r5 r6 v4 v5 r7 r8 r9 h2 v6 r10 r11 v7 v8 r12 r13 v9 v10 r14 v11 v12 r15 v13 w14 r16 v15 v16 r17 r18 r19 r20 r21 r22 v17 r23 r24 r25 v18 h1 g0 f19 h2 g1 fn15)) (w1 := []) hP hD [] [0, 1, 2] rfl rfl (by decide) (by decide) hk1 hFc hP1 hD1
    clear hP hD hPc hDc hKc hFc hP1 hK1 hD1 hk1 hz1
    generalize H1 = H at hP2 hS ⊢
    have hP : va_P (dC, dI) vwCl (wd_b9c2d44b h0 v0 h1 v1 x17 (-1) v3 r0 r1 r2 r3 r4 r5 r6 v4 v5 r7 r8 r9 h2 v6 r10 r11 v7 v8 r12 r13 v9 v10 r14 v11 v12 r15 v13 w14 r16 v15 v16 r17 r18 r19 r20 r21 r22 v17 r23 r24 r25 v18 h1 g0 f19 h2 g1 fn15) H := hP2
    have hD : va_D A (wd_b9c2d44b h0 v0 h1 v1 x17 (-1) v3 r0 r1 r2 r3 r4 r5 r6 v4 v5 r7 r8 r9 h2 v6 r10 r11 v7 v8 r12 r13 v9 v10 r14 v11 v12 r15 v13 w14 r16 v15 v16 r17 r18 r19 r20 r21 r22 v17 r23 r24 r25 v18 h1 g0 f19 h2 g1 fn15) := hD2
    clear hP2 hD2
    have hkra18 : ra18 = pg_it false (pg_ch f19 v1.toInt x17.toInt) := by rw [show pg_ch f19 v1.toInt x17.toInt = (-1) by omega]; exact pt3_ra18
    refine lv_istore (lv' := [(6, .int ra18), (5, .int 0), (0, .ref h0), (1, .int 98), (2, .ref h2), (3, .int v21), (4, .int 5)]) hx hb dX12_items_39 hl (by decide) rfl (fun ls hl => ?_)
    refine lv_aload_n hx hb dX12_items_41 rfl (lv_at hl 2 rfl) ?_
    refine va_get (D := (dC, dI)) (ci := 12) (v := .int (-1)) (C := RX12) (T := TX12) (N := 48) hx hb hts (fun _ h => List.mem_cons_of_mem _ (List.mem_append_right _ h)) hown hK hP 0 rfl rfl 4 (by decide) (hts (.fieldLink RX12 119 "LeftArgumentsModel" "wrong" "I") (List.mem_cons_of_mem _ (List.mem_append_left _ (List.mem_of_getElem? (i := 18) rfl)))) (fun _ h9 => h9) rfl dX12_items_42 ?_
    refine lv_iconst (v := (-1)) hx hb dX12_items_45 (by decide) ?_
    refine lv_icmp_ne (tgt := 131) hx hb dX12_items_46 (by decide) (fun c => absurd (by decide) c) (fun _ => ?_)
    refine lv_iload hx hb dX12_items_49 (lv_at hl 0 rfl) ?_
    refine lv_iconst (v := (-1)) hx hb dX12_items_51 (by decide) ?_
    refine lv_icmp_eq (tgt := 131) hx hb dX12_items_52 (by decide) (fun c19 => ?_) (fun c19 => ?_)
    · skip
      have fc19 : ra18.toInt = (-1) := congrArg Int32.toInt c19
      subst hQ
      have hP9 := hP.sub (ws' := (wd_b9c2d44b h0 v0 h1 v1 x17 (-1) v3 r0 r1 r2 r3 r4 r5 r6 v4 v5 r7 r8 r9 h2 v6 r10 r11 v7 v8 r12 r13 v9 v10 r14 v11 v12 r15 v13 w14 r16 v15 v16 r17 r18 r19 r20 r21 r22 v17 r23 r24 r25 v18 h1 g0 f19 h2 g1 fn15)) [0, 1, 2] rfl
      have hD9 := hD.sub (ws' := (wd_b9c2d44b h0 v0 h1 v1 x17 (-1) v3 r0 r1 r2 r3 r4 r5 r6 v4 v5 r7 r8 r9 h2 v6 r10 r11 v7 v8 r12 r13 v9 v10 r14 v11 v12 r15 v13 w14 r16 v15 v16 r17 r18 r19 r20 r21 r22 v17 r23 r24 r25 v18 h1 g0 f19 h2 g1 fn15)) [0, 1, 2] (by decide) rfl
      have hK9 := hK.sub (tys' := []) [] rfl
      exact W.vret hx hb hr (fun t ht hW => ⟨⟨(), rfl, trivial, Or.inl ⟨x17, fn15, oa_x17, ob_x17, by omega, by first | assumption | (apply pm_bb.init <;> first | assumption | omega | decide), by first | (apply pg_I.out <;> first | assumption | exact Or.inl (by assumption) | exact Or.inr (by assumption)) | (apply pg_items.e0 <;> first | assumption | omega | (apply pg_ur.mk <;> first | assumption | decide) | (apply pg_us.mk <;> first | assumption | omega | decide)) | (apply pg_I.last <;> first | assumption | omega | (show _ = pm_los _; assumption) | (show _ = pm_his _; assumption) | (show _ = pm_lob _; assumption) | (show _ = pm_hib _; assumption)), by rw [ht]; exact hP9, va_K.moved hW.alike hK9, hD9⟩⟩, hS.F ht⟩) hS.2.2 dX12_items_131
    · skip
      have fc19 : ¬ (ra18.toInt = (-1)) := fun h9 => c19 (Int32.toInt_inj.mp h9)
      exfalso; omega
  · skip
    obtain ⟨x20, oa_x20, ob_x20, pt0_ra16, pt1_ra16, pt2_ra16, pt3_ra16, pt4_ra16, pt5_ra16, pt6_ra16, pt7_ra16, hP1, hK1, hD1⟩ := hB
    rw [ht] at hP1
    obtain ⟨hP2, hD2⟩ := va_join (wr := (wd_aad598ec h2 g1 fn15)) (w1 := (wd_f4cd022e h0 v0 h1 v1 x20 (-1) v3 r0 r1 r2 r3 r4 r5 r6 v4 v5 r7 r8 r9 h2 v6 r10 r11 v7 v8 r12 r13 v9 v10 r14 v11 v12 r15 v13 w14 r16 v15 v16 r17 r18 r19 r20 r21 r22 v17 r23 r24 r25 v18 h1 g0 f19)) hP hD [0, 1] [2] rfl rfl (by decide) (by decide) hk1 hFc hP1 hD1
    clear hP hD hPc hDc hKc hFc hP1 hK1 hD1 hk1 hz1
    generalize H1 = H at hP2 hS ⊢
    have hP := hP2.sub (ws' := (wd_b9c2d44b h0 v0 h1 v1 x20 (-1) v3 r0 r1 r2 r3 r4 r5 r6 v4 v5 r7 r8 r9 h2 v6 r10 r11 v7 v8 r12 r13 v9 v10 r14 v11 v12 r15 v13 w14 r16 v15 v16 r17 r18 r19 r20 r21 r22 v17 r23 r24 r25 v18 h1 g0 f19 h2 g1 fn15)) [1, 2, 0] rfl
    have hD := hD2.sub (ws' := (wd_b9c2d44b h0 v0 h1 v1 x20 (-1) v3 r0 r1 r2 r3 r4 r5 r6 v4 v5 r7 r8 r9 h2 v6 r10 r11 v7 v8 r12 r13 v9 v10 r14 v11 v12 r15 v13 w14 r16 v15 v16 r17 r18 r19 r20 r21 r22 v17 r23 r24 r25 v18 h1 g0 f19 h2 g1 fn15)) [1, 2, 0] (by decide) rfl
    clear hP2 hD2
    have hPc := hP.sub (ws' := []) [] rfl
    have hDc := hD.sub (ws' := []) [] (by decide) rfl
    have hKc := hK.sub (tys' := []) [] rfl
    have hFc := va_free (wc := []) hD hS hA [] rfl
    refine va_calli (va_runS (As := [.int 98, .int ra16]) (rest := []) ⟨hx, hb, hml, hown, hts⟩ (k_X12_itemOf l dC dI ra16  H.size) (va_cwS 2 hts g_X12_items_2_6 rfl rfl rfl (by decide +kernel) ⟨Nat.le_of_ble_eq_true rfl, Nat.le_of_ble_eq_true rfl⟩) (pv_PS hPc hKc hDc) rfl rfl hl.1 rfl (lv_room (Nat.le_of_ble_eq_true rfl)) dX12_items_36 ⟨Nat.le_of_ble_eq_true rfl, Nat.le_of_ble_eq_true rfl⟩) hS (fun q _ h => hFc q h) hFc (fun ra21 u t H1 locs ht hvm hwra21 hB hz1 hk1 hS => ?_)
    try rw [hwra21] at hB
    obtain ⟨pt0_ra21, pt1_ra21, pt2_ra21, pt3_ra21, hP1, hK1, hD1⟩ := hB
    rw [ht] at hP1
    obtain ⟨hP2, hD2⟩ := va_join (wr := (wd_b9c2d44b h0 v0 h1 v1 x20 (-1) v3 r0 r1 r2 r3 r4 r5 r6 v4 v5 r7 r8 r9 h2 v6 r10 r11 v7 v8 r12 r13 v9 v10 r14 v11 v12 r15 v13 w14 r16 v15 v16 r17 r18 r19 r20 r21 r22 v17 r23 r24 r25 v18 h1 g0 f19 h2 g1 fn15)) (w1 := []) hP hD [] [0, 1, 2] rfl rfl (by decide) (by decide) hk1 hFc hP1 hD1
    clear hP hD hPc hDc hKc hFc hP1 hK1 hD1 hk1 hz1
    generalize H1 = H at hP2 hS ⊢
    have hP : va_P (dC, dI) vwCl (wd_b9c2d44b h0 v0 h1 v1 x20 (-1) v3 r0 r1 r2 r3 r4 r5 r6 v4 v5 r7 r8 r9 h2 v6 r10 r11 v7 v8 r12 r13 v9 v10 r14 v11 v12 r15 v13 w14 r16 v15 v16 r17 r18 r19 r20 r21 r22 v17 r23 r24 r25 v18 h1 g0 f19 h2 g1 fn15) H := hP2
    have hD : va_D A (wd_b9c2d44b h0 v0 h1 v1 x20 (-1) v3 r0 r1 r2 r3 r4 r5 r6 v4 v5 r7 r8 r9 h2 v6 r10 r11 v7 v8 r12 r13 v9 v10 r14 v11 v12 r15 v13 w14 r16 v15 v16 r17 r18 r19 r20 r21 r22 v17 r23 r24 r25 v18 h1 g0 f19 h2 g1 fn15) := hD2
    clear hP2 hD2
    have hkra21 : ra21 = pg_it false (pg_ch f19 v1.toInt x20.toInt) := by rw [show pg_ch f19 v1.toInt x20.toInt = ra16.toInt by omega]; exact pt3_ra21
    refine lv_istore (lv' := [(6, .int ra21), (5, .int 0), (0, .ref h0), (1, .int 98), (2, .ref h2), (3, .int v21), (4, .int 5)]) hx hb dX12_items_39 hl (by decide) rfl (fun ls hl => ?_)
    have hL30 : ∀ (n9 : Nat), ∀ (x22 : Int32) (x23 : Int32) (x24 : Int32) (fn25 : Nat → Int32) (H : Heap) (locs : List Loc) (ls : Array Slot), -1 ≤ x22.toInt → x22.toInt ≤ 4 → 0 ≤ x24.toInt → x24.toInt ≤ 240 → (pm_bb v21 f20 fn25) → (x22.toInt = -1 ∨ x24.toInt < v1.toInt) → (v2.toInt ≤ x24.toInt) → (pg_I f19 v1.toInt false v21.toInt x24.toInt x23 fn25 (pg_items f19 v1.toInt false v21.toInt 300 v2.toInt 0 (pg_us f20 v21.toInt))) → (¬ pg_ch f19 v1.toInt x24.toInt = 32) → (x22 = pg_it false (pg_ch f19 v1.toInt x24.toInt)) → (300 - x24.toInt).toNat < n9 → va_P (dC, dI) vwCl (wd_b9c2d44b h0 v0 h1 v1 x24 (-1) v3 r0 r1 r2 r3 r4 r5 r6 v4 v5 r7 r8 r9 h2 v6 r10 r11 v7 v8 r12 r13 v9 v10 r14 v11 v12 r15 v13 w14 r16 v15 v16 r17 r18 r19 r20 r21 r22 v17 r23 r24 r25 v18 h1 g0 f19 h2 g1 fn25) H → va_D A (wd_b9c2d44b h0 v0 h1 v1 x24 (-1) v3 r0 r1 r2 r3 r4 r5 r6 v4 v5 r7 r8 r9 h2 v6 r10 r11 v7 v8 r12 r13 v9 v10 r14 v11 v12 r15 v13 w14 r16 v15 v16 r17 r18 r19 r20 r21 r22 v17 r23 r24 r25 v18 h1 g0 f19 h2 g1 fn25) → va_S A s.heap H locs → lv_has ls 7 [(6, .int x22), (5, .int x23), (0, .ref h0), (1, .int 98), (2, .ref h2), (3, .int v21), (4, .int 5)] → W p l e ({ frames := 3, cells := 0, slots := 0, locals := 63 }) s m ([.ref h0, .int 98, .ref h2, .int v21, .int 5] : List Value).toArray below meth c H locs 0 0 Q (F0 m 41 ls []) := by
      intro n9
      induction n9 with
      | zero => intro x22 x23 x24 fn25 H locs ls qa_x22 qb_x22 qa_x24 qb_x24 gh0_hL30 gh1_hL30 gh2_hL30 gh3_hL30 gh4_hL30 gh5_hL30 hm9 hP hD hS hl; exact absurd hm9 (Nat.not_lt_zero _)
      | succ n9 ih_hL30 =>
        intro x22 x23 x24 fn25 H locs ls qa_x22 qb_x22 qa_x24 qb_x24 gh0_hL30 gh1_hL30 gh2_hL30 gh3_hL30 gh4_hL30 gh5_hL30 hm9 hP hD hS hl
        refine lv_aload_n hx hb dX12_items_41 rfl (lv_at hl 2 rfl) ?_
        refine va_get (D := (dC, dI)) (ci := 12) (v := .int (-1)) (C := RX12) (T := TX12) (N := 48) hx hb hts (fun _ h => List.mem_cons_of_mem _ (List.mem_append_right _ h)) hown hK hP 0 rfl rfl 4 (by decide) (hts (.fieldLink RX12 119 "LeftArgumentsModel" "wrong" "I") (List.mem_cons_of_mem _ (List.mem_append_left _ (List.mem_of_getElem? (i := 18) rfl)))) (fun _ h9 => h9) rfl dX12_items_42 ?_
        refine lv_iconst (v := (-1)) hx hb dX12_items_45 (by decide) ?_
        refine lv_icmp_ne (tgt := 131) hx hb dX12_items_46 (by decide) (fun c => absurd (by decide) c) (fun _ => ?_)
        refine lv_iload hx hb dX12_items_49 (lv_at hl 0 rfl) ?_
        refine lv_iconst (v := (-1)) hx hb dX12_items_51 (by decide) ?_
        refine lv_icmp_eq (tgt := 131) hx hb dX12_items_52 (by decide) (fun c31 => ?_) (fun c31 => ?_)
        · skip
          have fc31 : x22.toInt = (-1) := congrArg Int32.toInt c31
          subst hQ
          have hP9 := hP.sub (ws' := (wd_b9c2d44b h0 v0 h1 v1 x24 (-1) v3 r0 r1 r2 r3 r4 r5 r6 v4 v5 r7 r8 r9 h2 v6 r10 r11 v7 v8 r12 r13 v9 v10 r14 v11 v12 r15 v13 w14 r16 v15 v16 r17 r18 r19 r20 r21 r22 v17 r23 r24 r25 v18 h1 g0 f19 h2 g1 fn25)) [0, 1, 2] rfl
          have hD9 := hD.sub (ws' := (wd_b9c2d44b h0 v0 h1 v1 x24 (-1) v3 r0 r1 r2 r3 r4 r5 r6 v4 v5 r7 r8 r9 h2 v6 r10 r11 v7 v8 r12 r13 v9 v10 r14 v11 v12 r15 v13 w14 r16 v15 v16 r17 r18 r19 r20 r21 r22 v17 r23 r24 r25 v18 h1 g0 f19 h2 g1 fn25)) [0, 1, 2] (by decide) rfl
          have hK9 := hK.sub (tys' := []) [] rfl
          exact W.vret hx hb hr (fun t ht hW => ⟨⟨(), rfl, trivial, Or.inl ⟨x24, fn25, qa_x24, qb_x24, by omega, by first | assumption | (apply pm_bb.init <;> first | assumption | omega | decide), by first | (apply pg_I.out <;> first | assumption | exact Or.inl (by assumption) | exact Or.inr (by assumption)) | (apply pg_items.e0 <;> first | assumption | omega | (apply pg_ur.mk <;> first | assumption | decide) | (apply pg_us.mk <;> first | assumption | omega | decide)) | (apply pg_I.last <;> first | assumption | omega | (show _ = pm_los _; assumption) | (show _ = pm_his _; assumption) | (show _ = pm_lob _; assumption) | (show _ = pm_hib _; assumption)), by rw [ht]; exact hP9, va_K.moved hW.alike hK9, hD9⟩⟩, hS.F ht⟩) hS.2.2 dX12_items_131
        · skip
          have fc31 : ¬ (x22.toInt = (-1)) := fun h9 => c31 (Int32.toInt_inj.mp h9)
          refine lv_iload hx hb dX12_items_55 (lv_at hl 1 rfl) ?_
          refine lv_iload hx hb dX12_items_57 (lv_at hl 0 rfl) ?_
          have hPc := hP.sub (ws' := []) [] rfl
          have hDc := hD.sub (ws' := []) [] (by decide) rfl
          have hKc := hK.sub (tys' := []) [] rfl
          have hFc := va_free (wc := []) hD hS hA [] rfl
          refine va_calli (va_runS (As := [.int x23, .int x22]) (rest := []) ⟨hx, hb, hml, hown, hts⟩ (k_X12_has l dC dI x23 x22  H.size) (va_cwS 2 hts g_X12_items_2_8 rfl rfl rfl (by decide +kernel) ⟨Nat.le_of_ble_eq_true rfl, Nat.le_of_ble_eq_true rfl⟩) (pv_PS hPc hKc hDc) rfl rfl hl.1 rfl (lv_room (Nat.le_of_ble_eq_true rfl)) dX12_items_59 ⟨Nat.le_of_ble_eq_true rfl, Nat.le_of_ble_eq_true rfl⟩) hS (fun q _ h => hFc q h) hFc (fun ra32 u t H1 locs ht hvm hwra32 hB hz1 hk1 hS => ?_)
          try rw [hwra32] at hB
          obtain ⟨pt0_ra32, pt1_ra32, pt2_ra32, pt3_ra32, hP1, hK1, hD1⟩ := hB
          rw [ht] at hP1
          obtain ⟨hP2, hD2⟩ := va_join (wr := (wd_b9c2d44b h0 v0 h1 v1 x24 (-1) v3 r0 r1 r2 r3 r4 r5 r6 v4 v5 r7 r8 r9 h2 v6 r10 r11 v7 v8 r12 r13 v9 v10 r14 v11 v12 r15 v13 w14 r16 v15 v16 r17 r18 r19 r20 r21 r22 v17 r23 r24 r25 v18 h1 g0 f19 h2 g1 fn25)) (w1 := []) hP hD [] [0, 1, 2] rfl rfl (by decide) (by decide) hk1 hFc hP1 hD1
          clear hP hD hPc hDc hKc hFc hP1 hK1 hD1 hk1 hz1
          generalize H1 = H at hP2 hS ⊢
          have hP : va_P (dC, dI) vwCl (wd_b9c2d44b h0 v0 h1 v1 x24 (-1) v3 r0 r1 r2 r3 r4 r5 r6 v4 v5 r7 r8 r9 h2 v6 r10 r11 v7 v8 r12 r13 v9 v10 r14 v11 v12 r15 v13 w14 r16 v15 v16 r17 r18 r19 r20 r21 r22 v17 r23 r24 r25 v18 h1 g0 f19 h2 g1 fn25) H := hP2
          have hD : va_D A (wd_b9c2d44b h0 v0 h1 v1 x24 (-1) v3 r0 r1 r2 r3 r4 r5 r6 v4 v5 r7 r8 r9 h2 v6 r10 r11 v7 v8 r12 r13 v9 v10 r14 v11 v12 r15 v13 w14 r16 v15 v16 r17 r18 r19 r20 r21 r22 v17 r23 r24 r25 v18 h1 g0 f19 h2 g1 fn25) := hD2
          clear hP2 hD2
          refine lv_if_ne (tgt := 131) hx hb dX12_items_62 (by decide) (fun c33 => ?_) (fun c33 => ?_)
          · skip
            have fc33 : ¬ (ra32.toInt = 0) := fun h9 => c33 (Int32.toInt_inj.mp h9)
            have q1pt2_ra32 := pt2_ra32 (by omega)
            subst hQ
            have hP9 := hP.sub (ws' := (wd_b9c2d44b h0 v0 h1 v1 x24 (-1) v3 r0 r1 r2 r3 r4 r5 r6 v4 v5 r7 r8 r9 h2 v6 r10 r11 v7 v8 r12 r13 v9 v10 r14 v11 v12 r15 v13 w14 r16 v15 v16 r17 r18 r19 r20 r21 r22 v17 r23 r24 r25 v18 h1 g0 f19 h2 g1 fn25)) [0, 1, 2] rfl
            have hD9 := hD.sub (ws' := (wd_b9c2d44b h0 v0 h1 v1 x24 (-1) v3 r0 r1 r2 r3 r4 r5 r6 v4 v5 r7 r8 r9 h2 v6 r10 r11 v7 v8 r12 r13 v9 v10 r14 v11 v12 r15 v13 w14 r16 v15 v16 r17 r18 r19 r20 r21 r22 v17 r23 r24 r25 v18 h1 g0 f19 h2 g1 fn25)) [0, 1, 2] (by decide) rfl
            have hK9 := hK.sub (tys' := []) [] rfl
            exact W.vret hx hb hr (fun t ht hW => ⟨⟨(), rfl, trivial, Or.inl ⟨x24, fn25, qa_x24, qb_x24, by omega, by first | assumption | (apply pm_bb.init <;> first | assumption | omega | decide), by first | (apply pg_I.out <;> first | assumption | exact Or.inl (by assumption) | exact Or.inr (by assumption)) | (apply pg_items.e0 <;> first | assumption | omega | (apply pg_ur.mk <;> first | assumption | decide) | (apply pg_us.mk <;> first | assumption | omega | decide)) | (apply pg_I.last <;> first | assumption | omega | (show _ = pm_los _; assumption) | (show _ = pm_his _; assumption) | (show _ = pm_lob _; assumption) | (show _ = pm_hib _; assumption)), by rw [ht]; exact hP9, va_K.moved hW.alike hK9, hD9⟩⟩, hS.F ht⟩) hS.2.2 dX12_items_131
          · skip
            have fc33 : ra32.toInt = 0 := congrArg Int32.toInt c33
            have q0pt3_ra32 := pt3_ra32 (by omega)
            refine lv_iload hx hb dX12_items_65 (lv_at hl 1 rfl) ?_
            refine lv_iconst (v := 1) hx hb dX12_items_67 (by decide) ?_
            refine lv_iload hx hb dX12_items_68 (lv_at hl 0 rfl) ?_
            refine lv_ishl hx hb dX12_items_70 ?_
            refine lv_topi (fun t34 et34 => ?_)
            refine lv_ior hx hb dX12_items_71 ?_
            refine lv_topi (fun t35 et35 => ?_)
            refine lv_istore (lv' := [(5, .int t35), (6, .int x22), (0, .ref h0), (1, .int 98), (2, .ref h2), (3, .int v21), (4, .int 5)]) hx hb dX12_items_72 hl (by decide) rfl (fun ls hl => ?_)
            have hax24 : x24.toInt ≤ 239 := by omega
            refine lv_aload_n hx hb dX12_items_74 rfl (lv_at hl 2 rfl) ?_
            refine lv_dup hx hb dX12_items_75 rfl ?_
            refine va_get (D := (dC, dI)) (ci := 12) (v := .int x24) (C := RX12) (T := TX12) (N := 48) hx hb hts (fun _ h => List.mem_cons_of_mem _ (List.mem_append_right _ h)) hown hK hP 0 rfl rfl 3 (by decide) (hts (.fieldLink RX12 112 "LeftArgumentsModel" "at" "I") (List.mem_cons_of_mem _ (List.mem_append_left _ (List.mem_of_getElem? (i := 6) rfl)))) (fun _ h9 => h9) rfl dX12_items_76 ?_
            refine lv_iconst (v := 1) hx hb dX12_items_79 (by decide) ?_
            refine lv_iadd hx hb dX12_items_80 ?_
            refine lv_topi (fun t36 et36 => ?_)
            have gt36 : t36.toInt = x24.toInt + 1 := pv_add (a := x24.toInt) (b := 1) et36 rfl (by decide) (by omega) (by omega)
            refine va_put (D := (dC, dI)) (ci := 12) (v := .int t36) (ty := .int) (C := RX12) (T := TX12) (N := 48) hx hb hts (fun _ h => List.mem_cons_of_mem _ (List.mem_append_right _ h)) tyX12 tyX12_ok nmX12 hown hK hP hD hS 0 rfl rfl 3 (by decide) (hts (.fieldLink RX12 112 "LeftArgumentsModel" "at" "I") (List.mem_cons_of_mem _ (List.mem_append_left _ (List.mem_of_getElem? (i := 6) rfl)))) (fun _ h9 => h9) rfl (by decide +kernel) rfl rfl (Nat.le_of_ble_eq_true rfl) dX12_items_81 (fun H locs hP hD hS => ?_)
            have hP : va_P (dC, dI) vwCl (wd_b9c2d44b h0 v0 h1 v1 t36 (-1) v3 r0 r1 r2 r3 r4 r5 r6 v4 v5 r7 r8 r9 h2 v6 r10 r11 v7 v8 r12 r13 v9 v10 r14 v11 v12 r15 v13 w14 r16 v15 v16 r17 r18 r19 r20 r21 r22 v17 r23 r24 r25 v18 h1 g0 f19 h2 g1 fn25) H := hP
            have hD : va_D A (wd_b9c2d44b h0 v0 h1 v1 t36 (-1) v3 r0 r1 r2 r3 r4 r5 r6 v4 v5 r7 r8 r9 h2 v6 r10 r11 v7 v8 r12 r13 v9 v10 r14 v11 v12 r15 v13 w14 r16 v15 v16 r17 r18 r19 r20 r21 r22 v17 r23 r24 r25 v18 h1 g0 f19 h2 g1 fn25) := hD
            refine lv_aload_n hx hb dX12_items_84 rfl (lv_at hl 4 rfl) ?_
            refine lv_iload_n hx hb dX12_items_85 rfl (lv_at hl 5 rfl) ?_
            refine lv_iload hx hb dX12_items_86 (lv_at hl 1 rfl) ?_
            refine lv_iadd hx hb dX12_items_88 ?_
            refine lv_topi (fun t37 et37 => ?_)
            have gt37 : t37.toInt = v21.toInt + x22.toInt := pv_add (a := v21.toInt) (b := x22.toInt) et37 rfl rfl (by omega) (by omega)
            refine lv_aload_n hx hb dX12_items_89 rfl (lv_at hl 2 rfl) ?_
            refine lv_iload_n hx hb dX12_items_90 rfl (lv_at hl 3 rfl) ?_
            refine lv_iload hx hb dX12_items_91 (lv_at hl 1 rfl) ?_
            have hPc := hP.sub (ws' := []) [] rfl
            have hDc := hD.sub (ws' := []) [] (by decide) rfl
            have hKc := hK.sub (tys' := []) [] rfl
            have hFc := va_free (wc := []) hD hS hA [] rfl
            refine va_calli (va_runS (As := [.int 98, .int x22]) (rest := [.ref h0, .int t37, .ref h2]) ⟨hx, hb, hml, hown, hts⟩ (k_X12_lowest l dC dI x22 ⟨by first | omega | decide, qb_x22⟩ H.size) (va_cwS 2 hts g_X12_items_2_9 rfl rfl rfl (by decide +kernel) ⟨Nat.le_of_ble_eq_true rfl, Nat.le_of_ble_eq_true rfl⟩) (pv_PS hPc hKc hDc) rfl rfl hl.1 rfl (lv_room (Nat.le_of_ble_eq_true rfl)) dX12_items_93 ⟨Nat.le_of_ble_eq_true rfl, Nat.le_of_ble_eq_true rfl⟩) hS (fun q _ h => hFc q h) hFc (fun ra38 u t H1 locs ht hvm hwra38 hB hz1 hk1 hS => ?_)
            try rw [hwra38] at hB
            obtain ⟨pt0_ra38, pt1_ra38, pt2_ra38, hP1, hK1, hD1⟩ := hB
            rw [ht] at hP1
            obtain ⟨hP2, hD2⟩ := va_join (wr := (wd_b9c2d44b h0 v0 h1 v1 t36 (-1) v3 r0 r1 r2 r3 r4 r5 r6 v4 v5 r7 r8 r9 h2 v6 r10 r11 v7 v8 r12 r13 v9 v10 r14 v11 v12 r15 v13 w14 r16 v15 v16 r17 r18 r19 r20 r21 r22 v17 r23 r24 r25 v18 h1 g0 f19 h2 g1 fn25)) (w1 := []) hP hD [] [0, 1, 2] rfl rfl (by decide) (by decide) hk1 hFc hP1 hD1
            clear hP hD hPc hDc hKc hFc hP1 hK1 hD1 hk1 hz1
            generalize H1 = H at hP2 hS ⊢
            have hP : va_P (dC, dI) vwCl (wd_b9c2d44b h0 v0 h1 v1 t36 (-1) v3 r0 r1 r2 r3 r4 r5 r6 v4 v5 r7 r8 r9 h2 v6 r10 r11 v7 v8 r12 r13 v9 v10 r14 v11 v12 r15 v13 w14 r16 v15 v16 r17 r18 r19 r20 r21 r22 v17 r23 r24 r25 v18 h1 g0 f19 h2 g1 fn25) H := hP2
            have hD : va_D A (wd_b9c2d44b h0 v0 h1 v1 t36 (-1) v3 r0 r1 r2 r3 r4 r5 r6 v4 v5 r7 r8 r9 h2 v6 r10 r11 v7 v8 r12 r13 v9 v10 r14 v11 v12 r15 v13 w14 r16 v15 v16 r17 r18 r19 r20 r21 r22 v17 r23 r24 r25 v18 h1 g0 f19 h2 g1 fn25) := hD2
            clear hP2 hD2
            refine lv_iload_n hx hb dX12_items_96 rfl (lv_at hl 3 rfl) ?_
            refine lv_iload hx hb dX12_items_97 (lv_at hl 1 rfl) ?_
            have hPc := hP.sub (ws' := []) [] rfl
            have hDc := hD.sub (ws' := []) [] (by decide) rfl
            have hKc := hK.sub (tys' := []) [] rfl
            have hFc := va_free (wc := []) hD hS hA [] rfl
            refine va_calli (va_runS (As := [.int 98, .int x22]) (rest := [.int ra38, .ref h0, .int t37, .ref h2]) ⟨hx, hb, hml, hown, hts⟩ (k_X12_highest l dC dI x22 ⟨by first | omega | decide, qb_x22⟩ H.size) (va_cwS 2 hts g_X12_items_2_10 rfl rfl rfl (by decide +kernel) ⟨Nat.le_of_ble_eq_true rfl, Nat.le_of_ble_eq_true rfl⟩) (pv_PS hPc hKc hDc) rfl rfl hl.1 rfl (lv_room (Nat.le_of_ble_eq_true rfl)) dX12_items_99 ⟨Nat.le_of_ble_eq_true rfl, Nat.le_of_ble_eq_true rfl⟩) hS (fun q _ h => hFc q h) hFc (fun ra39 u t H1 locs ht hvm hwra39 hB hz1 hk1 hS => ?_)
            try rw [hwra39] at hB
            obtain ⟨pt0_ra39, pt1_ra39, pt2_ra39, hP1, hK1, hD1⟩ := hB
            rw [ht] at hP1
            obtain ⟨hP2, hD2⟩ := va_join (wr := (wd_b9c2d44b h0 v0 h1 v1 t36 (-1) v3 r0 r1 r2 r3 r4 r5 r6 v4 v5 r7 r8 r9 h2 v6 r10 r11 v7 v8 r12 r13 v9 v10 r14 v11 v12 r15 v13 w14 r16 v15 v16 r17 r18 r19 r20 r21 r22 v17 r23 r24 r25 v18 h1 g0 f19 h2 g1 fn25)) (w1 := []) hP hD [] [0, 1, 2] rfl rfl (by decide) (by decide) hk1 hFc hP1 hD1
            clear hP hD hPc hDc hKc hFc hP1 hK1 hD1 hk1 hz1
            generalize H1 = H at hP2 hS ⊢
            have hP : va_P (dC, dI) vwCl (wd_b9c2d44b h0 v0 h1 v1 t36 (-1) v3 r0 r1 r2 r3 r4 r5 r6 v4 v5 r7 r8 r9 h2 v6 r10 r11 v7 v8 r12 r13 v9 v10 r14 v11 v12 r15 v13 w14 r16 v15 v16 r17 r18 r19 r20 r21 r22 v17 r23 r24 r25 v18 h1 g0 f19 h2 g1 fn25) H := hP2
            have hD : va_D A (wd_b9c2d44b h0 v0 h1 v1 t36 (-1) v3 r0 r1 r2 r3 r4 r5 r6 v4 v5 r7 r8 r9 h2 v6 r10 r11 v7 v8 r12 r13 v9 v10 r14 v11 v12 r15 v13 w14 r16 v15 v16 r17 r18 r19 r20 r21 r22 v17 r23 r24 r25 v18 h1 g0 f19 h2 g1 fn25) := hD2
            clear hP2 hD2
            have hPc := hP.sub (ws' := (wd_f4cd022e h0 v0 h1 v1 t36 (-1) v3 r0 r1 r2 r3 r4 r5 r6 v4 v5 r7 r8 r9 h2 v6 r10 r11 v7 v8 r12 r13 v9 v10 r14 v11 v12 r15 v13 w14 r16 v15 v16 r17 r18 r19 r20 r21 r22 v17 r23 r24 r25 v18 h1 g0 f19)) [0, 1] rfl
            have hDc := hD.sub (ws' := (wd_f4cd022e h0 v0 h1 v1 t36 (-1) v3 r0 r1 r2 r3 r4 r5 r6 v4 v5 r7 r8 r9 h2 v6 r10 r11 v7 v8 r12 r13 v9 v10 r14 v11 v12 r15 v13 w14 r16 v15 v16 r17 r18 r19 r20 r21 r22 v17 r23 r24 r25 v18 h1 g0 f19)) [0, 1] (by decide) rfl
            have hKc := hK.sub (tys' := [(g0, .int)]) [0] rfl
            have hFc := va_free (wc := (wd_f4cd022e h0 v0 h1 v1 t36 (-1) v3 r0 r1 r2 r3 r4 r5 r6 v4 v5 r7 r8 r9 h2 v6 r10 r11 v7 v8 r12 r13 v9 v10 r14 v11 v12 r15 v13 w14 r16 v15 v16 r17 r18 r19 r20 r21 r22 v17 r23 r24 r25 v18 h1 g0 f19)) hD hS hA [0, 1] rfl
            refine va_calli (va_runV (As := [.int ra38, .int ra39]) (rest := [.int t37, .ref h2]) ⟨hx, hb, hml, hown, hts⟩ (k_X12_number l dC dI h0 h1 v0 v1 t36 v3 r0 r1 r2 r3 r4 r5 r6 v4 v5 r7 r8 r9 h2 v6 r10 r11 v7 v8 r12 r13 v9 v10 r14 v11 v12 r15 v13 w14 r16 v15 v16 r17 r18 r19 r20 r21 r22 v17 r23 r24 r25 v18 g0 f19 ra38 ra39 ⟨i_v1a, i_v1b⟩ ⟨by first | omega | decide, by first | omega | decide⟩ ⟨i_v4a, i_v4b⟩ ⟨i_v5a, i_v5b⟩ ⟨i_v6a, i_v6b⟩ ⟨i_v7a, i_v7b⟩ ⟨i_v8a, i_v8b⟩ ⟨i_v9a, i_v9b⟩ ⟨i_v13a, i_v13b⟩ ⟨i_v17a, i_v17b⟩ ⟨i_v18a, i_v18b⟩ ia_f19 H.size) (cwV 2 hts g_X12_items_2_11 rfl rfl rfl (by decide +kernel) ⟨Nat.le_of_ble_eq_true rfl, Nat.le_of_ble_eq_true rfl⟩) (pv_PV12 hPc hKc hDc (q0 := 0) rfl) rfl rfl hl.1 rfl (lv_room (Nat.le_of_ble_eq_true rfl)) dX12_items_102 ⟨Nat.le_of_ble_eq_true rfl, Nat.le_of_ble_eq_true rfl⟩) hS (fun q _ h => hFc q h) hFc (fun ra40 u t H1 locs ht hvm hwra40 hB hz1 hk1 hS => ?_)
            try rw [hwra40] at hB
            rcases hB with hB | hB
            · skip
              obtain ⟨x41, oa_x41, ob_x41, pt0_ra40, pt1_ra40, pt2_ra40, pt3_ra40, pt4_ra40, hP1, hK1, hD1⟩ := hB
              rw [ht] at hP1
              obtain ⟨hP2, hD2⟩ := va_join (wr := (wd_aad598ec h2 g1 fn25)) (w1 := (wd_f4cd022e h0 v0 h1 v1 x41 (-1) v3 r0 r1 r2 r3 r4 r5 r6 v4 v5 r7 r8 r9 h2 v6 r10 r11 v7 v8 r12 r13 v9 v10 r14 v11 v12 r15 v13 w14 r16 v15 v16 r17 r18 r19 r20 r21 r22 v17 r23 r24 r25 v18 h1 g0 f19)) hP hD [0, 1] [2] rfl rfl (by decide) (by decide) hk1 hFc hP1 hD1
              clear hP hD hPc hDc hKc hFc hP1 hK1 hD1 hk1 hz1
              generalize H1 = H at hP2 hS ⊢
              have hP := hP2.sub (ws' := (wd_b9c2d44b h0 v0 h1 v1 x41 (-1) v3 r0 r1 r2 r3 r4 r5 r6 v4 v5 r7 r8 r9 h2 v6 r10 r11 v7 v8 r12 r13 v9 v10 r14 v11 v12 r15 v13 w14 r16 v15 v16 r17 r18 r19 r20 r21 r22 v17 r23 r24 r25 v18 h1 g0 f19 h2 g1 fn25)) [1, 2, 0] rfl
              have hD := hD2.sub (ws' := (wd_b9c2d44b h0 v0 h1 v1 x41 (-1) v3 r0 r1 r2 r3 r4 r5 r6 v4 v5 r7 r8 r9 h2 v6 r10 r11 v7 v8 r12 r13 v9 v10 r14 v11 v12 r15 v13 w14 r16 v15 v16 r17 r18 r19 r20 r21 r22 v17 r23 r24 r25 v18 h1 g0 f19 h2 g1 fn25)) [1, 2, 0] (by decide) rfl
              clear hP2 hD2
              refine va_iast hx hb hK hP hD hS 2 1 rfl rfl (vp_in_iff.mpr ⟨by omega, by omega⟩) dX12_items_105 (fun H locs hP hD hS => ?_)
              obtain ⟨fn42, efn42⟩ : ∃ g : Nat → Int32, g = upd fn25 (Int32.toNatClampNeg t37) ra40 := ⟨_, rfl⟩
              rw [← efn42] at hP hD
              have hP : va_P (dC, dI) vwCl (wd_b9c2d44b h0 v0 h1 v1 x41 (-1) v3 r0 r1 r2 r3 r4 r5 r6 v4 v5 r7 r8 r9 h2 v6 r10 r11 v7 v8 r12 r13 v9 v10 r14 v11 v12 r15 v13 w14 r16 v15 v16 r17 r18 r19 r20 r21 r22 v17 r23 r24 r25 v18 h1 g0 f19 h2 g1 fn42) H := hP
              have hD : va_D A (wd_b9c2d44b h0 v0 h1 v1 x41 (-1) v3 r0 r1 r2 r3 r4 r5 r6 v4 v5 r7 r8 r9 h2 v6 r10 r11 v7 v8 r12 r13 v9 v10 r14 v11 v12 r15 v13 w14 r16 v15 v16 r17 r18 r19 r20 r21 r22 v17 r23 r24 r25 v18 h1 g0 f19 h2 g1 fn42) := hD
              refine lv_aload_n hx hb dX12_items_106 rfl (lv_at hl 2 rfl) ?_
              refine va_get (D := (dC, dI)) (ci := 12) (v := .int (-1)) (C := RX12) (T := TX12) (N := 48) hx hb hts (fun _ h => List.mem_cons_of_mem _ (List.mem_append_right _ h)) hown hK hP 0 rfl rfl 4 (by decide) (hts (.fieldLink RX12 119 "LeftArgumentsModel" "wrong" "I") (List.mem_cons_of_mem _ (List.mem_append_left _ (List.mem_of_getElem? (i := 18) rfl)))) (fun _ h9 => h9) rfl dX12_items_107 ?_
              refine lv_iconst (v := (-1)) hx hb dX12_items_110 (by decide) ?_
              refine lv_icmp_ne (tgt := 125) hx hb dX12_items_111 (by decide) (fun c => absurd (by decide) c) (fun _ => ?_)
              refine lv_iload_n hx hb dX12_items_114 rfl (lv_at hl 3 rfl) ?_
              refine lv_aload_n hx hb dX12_items_115 rfl (lv_at hl 2 rfl) ?_
              have hPc := hP.sub (ws' := (wd_f4cd022e h0 v0 h1 v1 x41 (-1) v3 r0 r1 r2 r3 r4 r5 r6 v4 v5 r7 r8 r9 h2 v6 r10 r11 v7 v8 r12 r13 v9 v10 r14 v11 v12 r15 v13 w14 r16 v15 v16 r17 r18 r19 r20 r21 r22 v17 r23 r24 r25 v18 h1 g0 f19)) [0, 1] rfl
              have hDc := hD.sub (ws' := (wd_f4cd022e h0 v0 h1 v1 x41 (-1) v3 r0 r1 r2 r3 r4 r5 r6 v4 v5 r7 r8 r9 h2 v6 r10 r11 v7 v8 r12 r13 v9 v10 r14 v11 v12 r15 v13 w14 r16 v15 v16 r17 r18 r19 r20 r21 r22 v17 r23 r24 r25 v18 h1 g0 f19)) [0, 1] (by decide) rfl
              have hKc := hK.sub (tys' := [(g0, .int)]) [0] rfl
              have hFc := va_free (wc := (wd_f4cd022e h0 v0 h1 v1 x41 (-1) v3 r0 r1 r2 r3 r4 r5 r6 v4 v5 r7 r8 r9 h2 v6 r10 r11 v7 v8 r12 r13 v9 v10 r14 v11 v12 r15 v13 w14 r16 v15 v16 r17 r18 r19 r20 r21 r22 v17 r23 r24 r25 v18 h1 g0 f19)) hD hS hA [0, 1] rfl
              refine va_calli (va_runV (As := []) (rest := [.int 98]) ⟨hx, hb, hml, hown, hts⟩ (k_X12_look l dC dI h0 h1 v0 v1 x41 ((-1)) v3 r0 r1 r2 r3 r4 r5 r6 v4 v5 r7 r8 r9 h2 v6 r10 r11 v7 v8 r12 r13 v9 v10 r14 v11 v12 r15 v13 w14 r16 v15 v16 r17 r18 r19 r20 r21 r22 v17 r23 r24 r25 v18 g0 f19 ⟨i_v1a, i_v1b⟩ ⟨by first | omega | decide, ob_x41⟩ ⟨i_v4a, i_v4b⟩ ⟨i_v5a, i_v5b⟩ ⟨i_v6a, i_v6b⟩ ⟨i_v7a, i_v7b⟩ ⟨i_v8a, i_v8b⟩ ⟨i_v9a, i_v9b⟩ ⟨i_v13a, i_v13b⟩ ⟨i_v17a, i_v17b⟩ ⟨i_v18a, i_v18b⟩ ia_f19 H.size) (cwV 0 hts g_X12_items_2_5 rfl rfl rfl (by decide +kernel) ⟨Nat.le_of_ble_eq_true rfl, Nat.le_of_ble_eq_true rfl⟩) (pv_PV12 hPc hKc hDc (q0 := 0) rfl) rfl rfl hl.1 rfl (lv_room (Nat.le_of_ble_eq_true rfl)) dX12_items_116 ⟨Nat.le_of_ble_eq_true rfl, Nat.le_of_ble_eq_true rfl⟩) hS (fun q _ h => hFc q h) hFc (fun ra43 u t H1 locs ht hvm hwra43 hB hz1 hk1 hS => ?_)
              try rw [hwra43] at hB
              have hkra43_0 : (((-1) : Int32)).toInt = -1 := by decide
              rcases hB with hB | hB
              · skip
                obtain ⟨x44, oa_x44, ob_x44, pt0_ra43, pt1_ra43, pt2_ra43, pt3_ra43, pt4_ra43, pt5_ra43, pt6_ra43, hP1, hK1, hD1⟩ := hB
                rw [ht] at hP1
                obtain ⟨hP2, hD2⟩ := va_join (wr := (wd_aad598ec h2 g1 fn42)) (w1 := (wd_f4cd022e h0 v0 h1 v1 x44 (-1) v3 r0 r1 r2 r3 r4 r5 r6 v4 v5 r7 r8 r9 h2 v6 r10 r11 v7 v8 r12 r13 v9 v10 r14 v11 v12 r15 v13 w14 r16 v15 v16 r17 r18 r19 r20 r21 r22 v17 r23 r24 r25 v18 h1 g0 f19)) hP hD [0, 1] [2] rfl rfl (by decide) (by decide) hk1 hFc hP1 hD1
                clear hP hD hPc hDc hKc hFc hP1 hK1 hD1 hk1 hz1
                generalize H1 = H at hP2 hS ⊢
                have hP := hP2.sub (ws' := (wd_b9c2d44b h0 v0 h1 v1 x44 (-1) v3 r0 r1 r2 r3 r4 r5 r6 v4 v5 r7 r8 r9 h2 v6 r10 r11 v7 v8 r12 r13 v9 v10 r14 v11 v12 r15 v13 w14 r16 v15 v16 r17 r18 r19 r20 r21 r22 v17 r23 r24 r25 v18 h1 g0 f19 h2 g1 fn42)) [1, 2, 0] rfl
                have hD := hD2.sub (ws' := (wd_b9c2d44b h0 v0 h1 v1 x44 (-1) v3 r0 r1 r2 r3 r4 r5 r6 v4 v5 r7 r8 r9 h2 v6 r10 r11 v7 v8 r12 r13 v9 v10 r14 v11 v12 r15 v13 w14 r16 v15 v16 r17 r18 r19 r20 r21 r22 v17 r23 r24 r25 v18 h1 g0 f19 h2 g1 fn42)) [1, 2, 0] (by decide) rfl
                clear hP2 hD2
                obtain rfl : ra43 = ((-1) : Int32) := pv_cs (by decide) pt0_ra43 pt1_ra43
                have hPc := hP.sub (ws' := []) [] rfl
                have hDc := hD.sub (ws' := []) [] (by decide) rfl
                have hKc := hK.sub (tys' := []) [] rfl
                have hFc := va_free (wc := []) hD hS hA [] rfl
                refine va_calli (va_runS (As := [.int 98, .int (-1)]) (rest := []) ⟨hx, hb, hml, hown, hts⟩ (k_X12_itemOf l dC dI ((-1))  H.size) (va_cwS 2 hts g_X12_items_2_6 rfl rfl rfl (by decide +kernel) ⟨Nat.le_of_ble_eq_true rfl, Nat.le_of_ble_eq_true rfl⟩) (pv_PS hPc hKc hDc) rfl rfl hl.1 rfl (lv_room (Nat.le_of_ble_eq_true rfl)) dX12_items_119 ⟨Nat.le_of_ble_eq_true rfl, Nat.le_of_ble_eq_true rfl⟩) hS (fun q _ h => hFc q h) hFc (fun ra45 u t H1 locs ht hvm hwra45 hB hz1 hk1 hS => ?_)
                try rw [hwra45] at hB
                have hkra45_0 : (((-1) : Int32)).toInt = -1 := by decide
                obtain ⟨pt0_ra45, pt1_ra45, pt2_ra45, pt3_ra45, hP1, hK1, hD1⟩ := hB
                rw [ht] at hP1
                obtain ⟨hP2, hD2⟩ := va_join (wr := (wd_b9c2d44b h0 v0 h1 v1 x44 (-1) v3 r0 r1 r2 r3 r4 r5 r6 v4 v5 r7 r8 r9 h2 v6 r10 r11 v7 v8 r12 r13 v9 v10 r14 v11 v12 r15 v13 w14 r16 v15 v16 r17 r18 r19 r20 r21 r22 v17 r23 r24 r25 v18 h1 g0 f19 h2 g1 fn42)) (w1 := []) hP hD [] [0, 1, 2] rfl rfl (by decide) (by decide) hk1 hFc hP1 hD1
                clear hP hD hPc hDc hKc hFc hP1 hK1 hD1 hk1 hz1
                generalize H1 = H at hP2 hS ⊢
                have hP : va_P (dC, dI) vwCl (wd_b9c2d44b h0 v0 h1 v1 x44 (-1) v3 r0 r1 r2 r3 r4 r5 r6 v4 v5 r7 r8 r9 h2 v6 r10 r11 v7 v8 r12 r13 v9 v10 r14 v11 v12 r15 v13 w14 r16 v15 v16 r17 r18 r19 r20 r21 r22 v17 r23 r24 r25 v18 h1 g0 f19 h2 g1 fn42) H := hP2
                have hD : va_D A (wd_b9c2d44b h0 v0 h1 v1 x44 (-1) v3 r0 r1 r2 r3 r4 r5 r6 v4 v5 r7 r8 r9 h2 v6 r10 r11 v7 v8 r12 r13 v9 v10 r14 v11 v12 r15 v13 w14 r16 v15 v16 r17 r18 r19 r20 r21 r22 v17 r23 r24 r25 v18 h1 g0 f19 h2 g1 fn42) := hD2
                clear hP2 hD2
                have hkra45 : ra45 = pg_it false (pg_ch f19 v1.toInt x44.toInt) := by rw [show pg_ch f19 v1.toInt x44.toInt = (-1) by omega]; exact pt3_ra45
                refine lv_goto (tgt := 126) hx hb dX12_items_122 (by decide) ?_
                refine lv_istore (lv' := [(6, .int ra45), (5, .int t35), (0, .ref h0), (1, .int 98), (2, .ref h2), (3, .int v21), (4, .int 5)]) hx hb dX12_items_126 hl (by decide) rfl (fun ls hl => ?_)
                refine lv_goto (tgt := 41) hx hb dX12_items_128 (by decide) ?_
                exact ih_hL30 ra45 t35 x44 fn42 H locs ls (by first | omega | decide) (by first | omega | decide) oa_x44 ob_x44 (by first | assumption | (apply pm_bb.step <;> first | assumption | omega) | (apply pm_bb.init <;> first | assumption | omega | decide)) (by omega) (by omega) (by first | assumption | (apply pg_I.ini <;> first | assumption | omega | (apply pg_ur.mk <;> first | assumption | decide) | (apply pg_us.mk <;> first | assumption | omega | decide)) | (apply pg_I.next <;> first | assumption | omega | (show _ = pm_los _; assumption) | (show _ = pm_his _; assumption) | (show _ = pm_lob _; assumption) | (show _ = pm_hib _; assumption))) (by assumption) (by assumption) (by first | omega | (simp only [Int.toNat] at *; omega)) hP hD hS (lv_sub hl [0, 1, 2, 3, 4, 5, 6] rfl)
              · skip
                obtain ⟨x46, oa_x46, ob_x46, pt0_ra43, pt1_ra43, pt2_ra43, pt3_ra43, pt4_ra43, pt5_ra43, pt6_ra43, pt7_ra43, hP1, hK1, hD1⟩ := hB
                rw [ht] at hP1
                obtain ⟨hP2, hD2⟩ := va_join (wr := (wd_aad598ec h2 g1 fn42)) (w1 := (wd_f4cd022e h0 v0 h1 v1 x46 (-1) v3 r0 r1 r2 r3 r4 r5 r6 v4 v5 r7 r8 r9 h2 v6 r10 r11 v7 v8 r12 r13 v9 v10 r14 v11 v12 r15 v13 w14 r16 v15 v16 r17 r18 r19 r20 r21 r22 v17 r23 r24 r25 v18 h1 g0 f19)) hP hD [0, 1] [2] rfl rfl (by decide) (by decide) hk1 hFc hP1 hD1
                clear hP hD hPc hDc hKc hFc hP1 hK1 hD1 hk1 hz1
                generalize H1 = H at hP2 hS ⊢
                have hP := hP2.sub (ws' := (wd_b9c2d44b h0 v0 h1 v1 x46 (-1) v3 r0 r1 r2 r3 r4 r5 r6 v4 v5 r7 r8 r9 h2 v6 r10 r11 v7 v8 r12 r13 v9 v10 r14 v11 v12 r15 v13 w14 r16 v15 v16 r17 r18 r19 r20 r21 r22 v17 r23 r24 r25 v18 h1 g0 f19 h2 g1 fn42)) [1, 2, 0] rfl
                have hD := hD2.sub (ws' := (wd_b9c2d44b h0 v0 h1 v1 x46 (-1) v3 r0 r1 r2 r3 r4 r5 r6 v4 v5 r7 r8 r9 h2 v6 r10 r11 v7 v8 r12 r13 v9 v10 r14 v11 v12 r15 v13 w14 r16 v15 v16 r17 r18 r19 r20 r21 r22 v17 r23 r24 r25 v18 h1 g0 f19 h2 g1 fn42)) [1, 2, 0] (by decide) rfl
                clear hP2 hD2
                have hPc := hP.sub (ws' := []) [] rfl
                have hDc := hD.sub (ws' := []) [] (by decide) rfl
                have hKc := hK.sub (tys' := []) [] rfl
                have hFc := va_free (wc := []) hD hS hA [] rfl
                refine va_calli (va_runS (As := [.int 98, .int ra43]) (rest := []) ⟨hx, hb, hml, hown, hts⟩ (k_X12_itemOf l dC dI ra43  H.size) (va_cwS 2 hts g_X12_items_2_6 rfl rfl rfl (by decide +kernel) ⟨Nat.le_of_ble_eq_true rfl, Nat.le_of_ble_eq_true rfl⟩) (pv_PS hPc hKc hDc) rfl rfl hl.1 rfl (lv_room (Nat.le_of_ble_eq_true rfl)) dX12_items_119 ⟨Nat.le_of_ble_eq_true rfl, Nat.le_of_ble_eq_true rfl⟩) hS (fun q _ h => hFc q h) hFc (fun ra47 u t H1 locs ht hvm hwra47 hB hz1 hk1 hS => ?_)
                try rw [hwra47] at hB
                obtain ⟨pt0_ra47, pt1_ra47, pt2_ra47, pt3_ra47, hP1, hK1, hD1⟩ := hB
                rw [ht] at hP1
                obtain ⟨hP2, hD2⟩ := va_join (wr := (wd_b9c2d44b h0 v0 h1 v1 x46 (-1) v3 r0 r1 r2 r3 r4 r5 r6 v4 v5 r7 r8 r9 h2 v6 r10 r11 v7 v8 r12 r13 v9 v10 r14 v11 v12 r15 v13 w14 r16 v15 v16 r17 r18 r19 r20 r21 r22 v17 r23 r24 r25 v18 h1 g0 f19 h2 g1 fn42)) (w1 := []) hP hD [] [0, 1, 2] rfl rfl (by decide) (by decide) hk1 hFc hP1 hD1
                clear hP hD hPc hDc hKc hFc hP1 hK1 hD1 hk1 hz1
                generalize H1 = H at hP2 hS ⊢
                have hP : va_P (dC, dI) vwCl (wd_b9c2d44b h0 v0 h1 v1 x46 (-1) v3 r0 r1 r2 r3 r4 r5 r6 v4 v5 r7 r8 r9 h2 v6 r10 r11 v7 v8 r12 r13 v9 v10 r14 v11 v12 r15 v13 w14 r16 v15 v16 r17 r18 r19 r20 r21 r22 v17 r23 r24 r25 v18 h1 g0 f19 h2 g1 fn42) H := hP2
                have hD : va_D A (wd_b9c2d44b h0 v0 h1 v1 x46 (-1) v3 r0 r1 r2 r3 r4 r5 r6 v4 v5 r7 r8 r9 h2 v6 r10 r11 v7 v8 r12 r13 v9 v10 r14 v11 v12 r15 v13 w14 r16 v15 v16 r17 r18 r19 r20 r21 r22 v17 r23 r24 r25 v18 h1 g0 f19 h2 g1 fn42) := hD2
                clear hP2 hD2
                have hkra47 : ra47 = pg_it false (pg_ch f19 v1.toInt x46.toInt) := by rw [show pg_ch f19 v1.toInt x46.toInt = ra43.toInt by omega]; exact pt3_ra47
                refine lv_goto (tgt := 126) hx hb dX12_items_122 (by decide) ?_
                refine lv_istore (lv' := [(6, .int ra47), (5, .int t35), (0, .ref h0), (1, .int 98), (2, .ref h2), (3, .int v21), (4, .int 5)]) hx hb dX12_items_126 hl (by decide) rfl (fun ls hl => ?_)
                refine lv_goto (tgt := 41) hx hb dX12_items_128 (by decide) ?_
                exact ih_hL30 ra47 t35 x46 fn42 H locs ls (by first | omega | decide) (by first | omega | decide) oa_x46 (by first | omega | decide) (by first | assumption | (apply pm_bb.step <;> first | assumption | omega) | (apply pm_bb.init <;> first | assumption | omega | decide)) (by omega) (by omega) (by first | assumption | (apply pg_I.ini <;> first | assumption | omega | (apply pg_ur.mk <;> first | assumption | decide) | (apply pg_us.mk <;> first | assumption | omega | decide)) | (apply pg_I.next <;> first | assumption | omega | (show _ = pm_los _; assumption) | (show _ = pm_his _; assumption) | (show _ = pm_lob _; assumption) | (show _ = pm_hib _; assumption))) (by assumption) (by assumption) (by first | omega | (simp only [Int.toNat] at *; omega)) hP hD hS (lv_sub hl [0, 1, 2, 3, 4, 5, 6] rfl)
            · skip
              obtain ⟨x48, x49, oa_x48, ob_x48, oa_x49, ob_x49, pt0_ra40, pt1_ra40, hP1, hK1, hD1⟩ := hB
              rw [ht] at hP1
              obtain ⟨hP2, hD2⟩ := va_join (wr := (wd_aad598ec h2 g1 fn25)) (w1 := (wd_f4cd022e h0 v0 h1 v1 x48 x49 v3 r0 r1 r2 r3 r4 r5 r6 v4 v5 r7 r8 r9 h2 v6 r10 r11 v7 v8 r12 r13 v9 v10 r14 v11 v12 r15 v13 w14 r16 v15 v16 r17 r18 r19 r20 r21 r22 v17 r23 r24 r25 v18 h1 g0 f19)) hP hD [0, 1] [2] rfl rfl (by decide) (by decide) hk1 hFc hP1 hD1
              clear hP hD hPc hDc hKc hFc hP1 hK1 hD1 hk1 hz1
              generalize H1 = H at hP2 hS ⊢
              have hP := hP2.sub (ws' := (wd_b9c2d44b h0 v0 h1 v1 x48 x49 v3 r0 r1 r2 r3 r4 r5 r6 v4 v5 r7 r8 r9 h2 v6 r10 r11 v7 v8 r12 r13 v9 v10 r14 v11 v12 r15 v13 w14 r16 v15 v16 r17 r18 r19 r20 r21 r22 v17 r23 r24 r25 v18 h1 g0 f19 h2 g1 fn25)) [1, 2, 0] rfl
              have hD := hD2.sub (ws' := (wd_b9c2d44b h0 v0 h1 v1 x48 x49 v3 r0 r1 r2 r3 r4 r5 r6 v4 v5 r7 r8 r9 h2 v6 r10 r11 v7 v8 r12 r13 v9 v10 r14 v11 v12 r15 v13 w14 r16 v15 v16 r17 r18 r19 r20 r21 r22 v17 r23 r24 r25 v18 h1 g0 f19 h2 g1 fn25)) [1, 2, 0] (by decide) rfl
              clear hP2 hD2
              refine va_iast hx hb hK hP hD hS 2 1 rfl rfl (vp_in_iff.mpr ⟨by omega, by omega⟩) dX12_items_105 (fun H locs hP hD hS => ?_)
              obtain ⟨fn50, efn50⟩ : ∃ g : Nat → Int32, g = upd fn25 (Int32.toNatClampNeg t37) ra40 := ⟨_, rfl⟩
              rw [← efn50] at hP hD
              have hP : va_P (dC, dI) vwCl (wd_b9c2d44b h0 v0 h1 v1 x48 x49 v3 r0 r1 r2 r3 r4 r5 r6 v4 v5 r7 r8 r9 h2 v6 r10 r11 v7 v8 r12 r13 v9 v10 r14 v11 v12 r15 v13 w14 r16 v15 v16 r17 r18 r19 r20 r21 r22 v17 r23 r24 r25 v18 h1 g0 f19 h2 g1 fn50) H := hP
              have hD : va_D A (wd_b9c2d44b h0 v0 h1 v1 x48 x49 v3 r0 r1 r2 r3 r4 r5 r6 v4 v5 r7 r8 r9 h2 v6 r10 r11 v7 v8 r12 r13 v9 v10 r14 v11 v12 r15 v13 w14 r16 v15 v16 r17 r18 r19 r20 r21 r22 v17 r23 r24 r25 v18 h1 g0 f19 h2 g1 fn50) := hD
              refine lv_aload_n hx hb dX12_items_106 rfl (lv_at hl 2 rfl) ?_
              refine va_get (D := (dC, dI)) (ci := 12) (v := .int x49) (C := RX12) (T := TX12) (N := 48) hx hb hts (fun _ h => List.mem_cons_of_mem _ (List.mem_append_right _ h)) hown hK hP 0 rfl rfl 4 (by decide) (hts (.fieldLink RX12 119 "LeftArgumentsModel" "wrong" "I") (List.mem_cons_of_mem _ (List.mem_append_left _ (List.mem_of_getElem? (i := 18) rfl)))) (fun _ h9 => h9) rfl dX12_items_107 ?_
              refine lv_iconst (v := (-1)) hx hb dX12_items_110 (by decide) ?_
              refine lv_icmp_ne (tgt := 125) hx hb dX12_items_111 (by decide) (fun _ => ?_) (fun c51 => by exfalso; have fc51 : x49.toInt = (-1) := congrArg Int32.toInt c51; omega)
              refine lv_iconst (v := (-1)) hx hb dX12_items_125 (by decide) ?_
              refine lv_istore (lv' := [(6, .int (-1)), (5, .int t35), (0, .ref h0), (1, .int 98), (2, .ref h2), (3, .int v21), (4, .int 5)]) hx hb dX12_items_126 hl (by decide) rfl (fun ls hl => ?_)
              refine lv_goto (tgt := 41) hx hb dX12_items_128 (by decide) ?_
              refine lv_aload_n hx hb dX12_items_41 rfl (lv_at hl 2 rfl) ?_
              refine va_get (D := (dC, dI)) (ci := 12) (v := .int x49) (C := RX12) (T := TX12) (N := 48) hx hb hts (fun _ h => List.mem_cons_of_mem _ (List.mem_append_right _ h)) hown hK hP 0 rfl rfl 4 (by decide) (hts (.fieldLink RX12 119 "LeftArgumentsModel" "wrong" "I") (List.mem_cons_of_mem _ (List.mem_append_left _ (List.mem_of_getElem? (i := 18) rfl)))) (fun _ h9 => h9) rfl dX12_items_42 ?_
              refine lv_iconst (v := (-1)) hx hb dX12_items_45 (by decide) ?_
              refine lv_icmp_ne (tgt := 131) hx hb dX12_items_46 (by decide) (fun _ => ?_) (fun c52 => by exfalso; have fc52 : x49.toInt = (-1) := congrArg Int32.toInt c52; omega)
              subst hQ
              have hP9 := hP.sub (ws' := (wd_b9c2d44b h0 v0 h1 v1 x48 x49 v3 r0 r1 r2 r3 r4 r5 r6 v4 v5 r7 r8 r9 h2 v6 r10 r11 v7 v8 r12 r13 v9 v10 r14 v11 v12 r15 v13 w14 r16 v15 v16 r17 r18 r19 r20 r21 r22 v17 r23 r24 r25 v18 h1 g0 f19 h2 g1 fn50)) [0, 1, 2] rfl
              have hD9 := hD.sub (ws' := (wd_b9c2d44b h0 v0 h1 v1 x48 x49 v3 r0 r1 r2 r3 r4 r5 r6 v4 v5 r7 r8 r9 h2 v6 r10 r11 v7 v8 r12 r13 v9 v10 r14 v11 v12 r15 v13 w14 r16 v15 v16 r17 r18 r19 r20 r21 r22 v17 r23 r24 r25 v18 h1 g0 f19 h2 g1 fn50)) [0, 1, 2] (by decide) rfl
              have hK9 := hK.sub (tys' := []) [] rfl
              exact W.vret hx hb hr (fun t ht hW => ⟨⟨(), rfl, trivial, Or.inr (⟨x48, x49, fn50, oa_x48, ob_x48, oa_x49, ob_x49, by omega, by first | assumption | (apply pg_I.fail <;> first | assumption | omega | (show _ = pm_los _; assumption) | (show _ = pm_his _; assumption) | (show _ = pm_lob _; assumption) | (show _ = pm_hib _; assumption)), by rw [ht]; exact hP9, va_K.moved hW.alike hK9, hD9⟩)⟩, hS.F ht⟩) hS.2.2 dX12_items_131
    exact hL30 _ ra21 0 x20 fn15 H locs ls (by first | omega | decide) (by first | omega | decide) oa_x20 (by first | omega | decide) (by first | assumption | (apply pm_bb.step <;> first | assumption | omega) | (apply pm_bb.init <;> first | assumption | omega | decide)) (by omega) (by omega) (by first | assumption | (apply pg_I.ini <;> first | assumption | omega | (apply pg_ur.mk <;> first | assumption | decide) | (apply pg_us.mk <;> first | assumption | omega | decide)) | (apply pg_I.next <;> first | assumption | omega | (show _ = pm_los _; assumption) | (show _ = pm_his _; assumption) | (show _ = pm_lob _; assumption) | (show _ = pm_hib _; assumption))) (by assumption) (by assumption) (Nat.lt_succ_self _) hP hD hS (lv_sub hl [0, 1, 2, 3, 4, 5, 6] rfl)
